/-! new objects: what a constructor does to a whole world -/
def aos (U : State) : Prop := va_AO "LeasedBuilds$Key" U ∧ va_AO "LeasedBuilds$Message" U ∧ va_AO "LeasedBuilds$Worker" U
theorem aos.moved {u U : State} (hvm : u.vm.Alike U.vm) (h : aos u) : aos U := ⟨h.1.moved hvm, h.2.1.moved hvm, h.2.2.moved hvm⟩
def cP (D : va_G) (dA : Nat → ClassId) (ws : va_W) (sz : Nat) (U : State) : Prop := (U.heap.size = sz ∧ va_P D clX ws U.heap ∧ va_D (fun _ => True) ws) ∧ va_K D clX (tyX dA) U ∧ nst NL U ∧ aos U
def cQ (D : va_G) (ws : va_W) (sz : Nat) {T : Type} (post : T → Prop) (w1 : T → va_W) : Array Value → State → Outcome → State → Prop := va_Qv post (fun u t => va_P D clX (w1 u) t.heap ∧ va_D (va_A ws sz) (w1 u)) (va_A ws sz)
def CN (l : Launch) (D : va_G) (dA : Nat → ClassId) (y : MethodName) (w : List Cond) (rm : Room) (vs : List Value) (ws : va_W) (sz : Nat) {T : Type} (post : T → Prop) (w1 : T → va_W) (mc mz : Nat) : Prop :=
  Met l y w rm (va_Pc vs (cP D dA ws sz)) (cQ D ws sz post w1) mc mz (va_A ws sz)
theorem ra_inj {U : State} {a b : ClassId} {ty : FieldType} (h : va_RA U a ty) (h' : va_RA U b ty) : a = b := by
  cases ty with
  | object C =>
    obtain ⟨_, _, _, _, _, h4⟩ := h
    obtain ⟨_, _, _, _, _, h4'⟩ := h'
    exact Option.some.inj (h4.symm.trans h4')
  | _ => exact Option.some.inj (Eq.trans (Eq.symm h) h')
theorem ix0 {W0 R : va_W} {x : Nat × va_E} : (W0 ++ x :: R)[W0.length]? = some x := by simp
theorem st0' {W0 R : va_W} {x y : Nat × va_E} : (W0 ++ x :: R).set W0.length y = W0 ++ y :: R := by simp
theorem ix1 {W0 X Y : va_W} {x y : Nat × va_E} : (W0 ++ x :: (X ++ y :: Y))[W0.length + 1 + X.length]? = some y := by
  rw [show W0 ++ x :: (X ++ y :: Y) = (W0 ++ x :: X) ++ y :: Y by simp, show W0.length + 1 + X.length = (W0 ++ x :: X).length by simp; omega]
  exact ix0
theorem st1 {W0 X Y : va_W} {x y z : Nat × va_E} : (W0 ++ x :: (X ++ y :: Y)).set (W0.length + 1 + X.length) z = W0 ++ x :: (X ++ z :: Y) := by
  rw [show W0 ++ x :: (X ++ y :: Y) = (W0 ++ x :: X) ++ y :: Y by simp, show W0.length + 1 + X.length = (W0 ++ x :: X).length by simp; omega, st0']
  simp
theorem as1 {W0 R Z : va_W} {x : Nat × va_E} : (W0 ++ x :: R) ++ Z = W0 ++ x :: (R ++ Z) := by simp
section CC
variable {p : Program} {l : Launch} {e : Env} {R : Room} {s : State} {m : MethodId} {args : Array Value} {below : List Frame} {meth : Method} {c : Code} {H : Heap} {locs : List Loc} {cells slots : Nat} {Q : State → Prop}
variable {cc : ByteArray} {pc : Nat} {ls : Array Slot} {rest st0 : List Value} {D : va_G} {dA : Nat → ClassId} {H0 : Heap} {ws W0 RR X Y : va_W} {x : Nat × va_E} {A : Nat → Prop} {sz : Nat}
variable {y : MethodName} {bytes : ByteArray} {maxL nL n index : Nat} {rm : Room} {own : String} {As : List Value} {mc mz b : Nat} {T : Type} {post : T → Prop} {w1 : T → va_W}
theorem c_free (hD : va_D A ws) (hS : va_S A H0 H locs) (hA : ∀ q, H0.size ≤ q → A q) : ∀ q, va_A ws H.size q → A q := fun q h => by
  rcases h with ⟨k, e, h⟩ | h
  · exact hD.2 k _ h
  · exact hA q (Nat.le_trans hS.1 h)
theorem cP_blind {vs : List Value} : FrameBlind (va_Pc vs (cP D dA ws sz)) := fun a U g mk q => ⟨q.1, q.2.1, va_K.moved (u := U) (U := U.calling g mk a) (Vm.Alike.refl U.vm) q.2.2.1, fun w hw => va_Nw.same rfl (rfl : U.vm = (U.calling g mk a).vm) (q.2.2.2.1 w hw), aos.moved (u := U) (U := U.calling g mk a) (Vm.Alike.refl U.vm) q.2.2.2.2⟩
theorem cP_pre {vs : List Value} (hK : va_K D clX (tyX dA) s) (hN : nst NL s) (hO : aos s) (hP : va_P D clX ws H) (hD : va_D A ws) : ∀ U : State, U.heap = H → s.WarmedH U.vm → va_Pc vs (cP D dA ws H.size) vs.toArray U := fun U hU hW => ⟨rfl, ⟨by rw [hU], by rw [hU]; exact hP, hD.weaken (fun _ _ _ _ => trivial)⟩, va_K.moved hW.alike hK, hN.warm hW, hO.moved hW.alike⟩
/-- a constructor's start -/
theorem c_of {w : List Cond} {vs : List Value} (hy : plainName y.cls = true) (hw : w = Cond.code y cc maxL none :: WS) (hlen : (lg_sl vs).length ≤ maxL)
    (body : ∀ (p : Program) (e : Env) (s : State) (m : MethodId) (below : List Frame) (meth : Method) (c : Code), p.tables.exec = Jvm.exec → c.code = cc → c.maxLocals = maxL → meth.sig.returnType = none → meth.locks = false → (∀ w ∈ WS, w.before vs.toArray s = true) → s.vm.findClass y.cls = some m.cls → meth.name = y.name → nst NL s → aos s → va_K D clX (tyX dA) s → va_P D clX ws s.heap → va_D (va_A ws s.heap.size) ws → (∀ q : Nat, s.heap.size ≤ q → va_A ws s.heap.size q) → va_S (va_A ws s.heap.size) s.heap s.heap [] → ∀ ls : Array Slot, lv_has ls maxL (lv_args 0 vs) →
      W p l e rm s m vs.toArray below meth c s.heap [] 0 0 (MQ below (cQ D ws s.heap.size post w1) vs.toArray s mc mz (va_A ws s.heap.size)) (F0 m 0 ls [])) :
    CN l D dA y w rm vs ws sz post w1 mc mz := by
  refine Met.ofW (cc := cc) (maxL := maxL) (ret := none) hy hw ?_
  intro p e s m args below meth c s₁ B hml hv
  obtain ⟨rfl, ⟨hsz, hP, hD⟩, hK, hN, hO⟩ := hv
  subst hsz
  have hl := lv_entry vs (n := maxL) hlen
  rw [lg_entry_eq]
  have hts := atoms_spec (ws := w) B.pre
  exact body p e s m below meth c B.exec B.bytes hml B.returns B.notSynchronized (fun w h => hts w (by rw [hw]; exact List.mem_cons_of_mem _ h)) (findClass_of_methodNamed B.named) (name_of_methodNamed B.named B.method).1 hN hO hK hP hD.self (fun q h => Or.inr h) va_S.rf _ hl
/-- its end -/
theorem c_ret {w9 : va_W} (u : T) (hx : p.tables.exec = Jvm.exec) (hb : c.code = cc) (hr : meth.sig.returnType = none) (hlocks : meth.locks = false) (hpost : post u) (hw : w9 = w1 u) (hP : va_P D clX w9 H) (hD : va_D (va_A ws s.heap.size) w9) (hS : va_S (va_A ws s.heap.size) s.heap H locs) (hc : cells ≤ mc) (hz : slots ≤ mz) (hdg : decode cc pc = .ok (.return_, 1)) :
    W p l e R s m args below meth c H locs cells slots (MQ below (cQ D ws s.heap.size post w1) args s mc mz (va_A ws s.heap.size)) (F0 m pc ls []) := by
  subst hw
  exact W.widen hc hz (W.vret hx hb hr (fun t ht hW => ⟨⟨u, rfl, hpost, by rw [ht]; exact hP, hD⟩, hS.F ht⟩) hS.2.2 hdg hlocks)
/-- Object's constructor -/
theorem c_obj (hx : p.tables.exec = Jvm.exec) (hb : c.code = cc) (hml : c.maxLocals = nL) (hown : s.vm.findClass own = some m.cls) (ht : ∀ w ∈ WS, w.before args s = true) (h1 : Cond.methodLink own index Lib.objectInit ∈ WS) (h2 : Cond.instanceMethod Lib.objectInit ∈ WS) (h3 : Cond.code Lib.objectInit ⟨#[0xb1]⟩ 1 none ∈ WS) (hls : ls.size = nL) (hdg : decode cc pc = .ok (.invokespecial index, 3)) (hf : 1 ≤ R.frames) (hl : 12 ≤ R.locals)
    (kk : W p l e R s m args below meth c H locs cells slots Q (F0 m (pc + 3) ls [])) : W p l e R s m args below meth c H locs cells slots Q (F0 m pc ls [.ref b]) :=
  W.objInit hx hb hown (ht _ h1) (ht _ h2) (ht _ h3) rfl (by rw [hml]; exact hls) rfl hdg hf (by show 2 * 0 + 0 + 12 ≤ R.locals; omega) (W.eq rfl kk)
/-- the words of a constructor's call: of one that isn't private; of a private one of the nest -/
def CwI (own : String) (index : Nat) (y : MethodName) (bytes : ByteArray) (maxL : Nat) (n : Nat) : Prop :=
  (Cond.code y bytes maxL none ∈ WS ∧ Cond.methodLink own index y ∈ WS ∧ Cond.instanceMethod y ∈ WS ∧ Cond.initialized y.cls ∈ WS) ∧ (y.name = "<init>" ∧ y.cls ≠ "java/lang/invoke/MethodHandle" ∧ y.cls ≠ "java/lang/invoke/VarHandle" ∧ (parseMethodDescriptor y.desc).map (fun d => d.parameters.length) = some n)
def CwIN (own : String) (index : Nat) (y : MethodName) (bytes : ByteArray) (maxL : Nat) (n : Nat) : Prop :=
  (Cond.code y bytes maxL none ∈ WS ∧ (own, index, y, "LeasedBuilds") ∈ NL ∧ Cond.instanceMethod y ∈ WS ∧ Cond.initialized y.cls ∈ WS) ∧ (y.name = "<init>" ∧ y.cls ≠ "java/lang/invoke/MethodHandle" ∧ y.cls ≠ "java/lang/invoke/VarHandle" ∧ (parseMethodDescriptor y.desc).map (fun d => d.parameters.length) = some n)
theorem c_cv {aa : Array Value} (hr : va_Run p l e R s m args below meth c H locs cells slots mc mz (F0 m pc ls st0) rest (cQ D ws H.size post w1 aa) (va_A ws H.size)) (hD : va_D A ws) (hS : va_S A H0 H locs) (hA : ∀ q, H0.size ≤ q → A q)
    (kk : ∀ (u : T) (H1 : Heap) (locs1 : List Loc), post u → va_P D clX (w1 u) H1 → va_D A (w1 u) → va_S A H0 H1 locs1 → W p l e R s m args below meth c H1 locs1 (cells + mc) (slots + mz) Q (F0 m (pc + 3) ls rest)) : W p l e R s m args below meth c H locs cells slots Q (F0 m pc ls st0) :=
  va_callv hr hS (fun q _ h => c_free hD hS hA q h) (c_free hD hS hA) (fun u t H1 locs1 e1 _ hp hB _ _ hS1 => kk u H1 locs1 hp (by rw [← e1]; exact hB.1) (hB.2.weaken (fun _ _ _ h => c_free hD hS hA _ h)) hS1)
theorem c_I (hx : p.tables.exec = Jvm.exec) (hb : c.code = cc) (hml : c.maxLocals = nL) (hown : s.vm.findClass own = some m.cls) (ht : ∀ w ∈ WS, w.before args s = true) (hcw : CwI own index y bytes maxL n) (hM : CN l D dA y (Cond.code y bytes maxL none :: WS) rm (.ref b :: As) ws H.size post w1 mc mz) (hrc : rm.cells = mc) (hrs : rm.slots = mz) (hR : rm.frames + 1 ≤ R.frames ∧ 8 + (maxL + 11) + rm.locals ≤ R.locals) (hN : nst NL s) (hO : aos s) (hK : va_K D clX (tyX dA) s) (hP : va_P D clX ws H) (hD : va_D A ws) (hS : va_S A H0 H locs) (hA : ∀ q, H0.size ≤ q → A q) (hn : As.length = n) (hls : ls.size = nL) (hst : st0 = As.reverse ++ .ref b :: rest) (hW : (rest.map fun v => v.category).sum ≤ 8) (hdg : decode cc pc = .ok (.invokespecial index, 3)) (hcs : cells + mc ≤ R.cells ∧ slots + mz ≤ R.slots)
    (kk : ∀ (u : T) (H1 : Heap) (locs1 : List Loc), post u → va_P D clX (w1 u) H1 → va_D A (w1 u) → va_S A H0 H1 locs1 → W p l e R s m args below meth c H1 locs1 (cells + mc) (slots + mz) Q (F0 m (pc + 3) ls rest)) : W p l e R s m args below meth c H locs cells slots Q (F0 m pc ls st0) :=
  c_cv (va_runI (As := As) (rest := rest) (n := n) ⟨hx, hb, hml, hown, ht⟩ hM (cwI n ht (gi_c gW hcw.1.1) rfl hrc hrs (ht _ hcw.1.2.2.2) (ht _ hcw.1.2.1) (ht _ hcw.1.2.2.1) hcw.2.1 hcw.2.2 hR) ⟨cP_blind, cP_pre hK hN hO hP hD⟩ rfl hn hls hst (lv_room hW) hdg hcs) hD hS hA kk
theorem c_IN (hx : p.tables.exec = Jvm.exec) (hb : c.code = cc) (hml : c.maxLocals = nL) (hown : s.vm.findClass own = some m.cls) (ht : ∀ w ∈ WS, w.before args s = true) (hcw : CwIN own index y bytes maxL n) (hM : CN l D dA y (Cond.code y bytes maxL none :: WS) rm (.ref b :: As) ws H.size post w1 mc mz) (hrc : rm.cells = mc) (hrs : rm.slots = mz) (hR : rm.frames + 1 ≤ R.frames ∧ 8 + (maxL + 11) + rm.locals ≤ R.locals) (hN : nst NL s) (hO : aos s) (hK : va_K D clX (tyX dA) s) (hP : va_P D clX ws H) (hD : va_D A ws) (hS : va_S A H0 H locs) (hA : ∀ q, H0.size ≤ q → A q) (hn : As.length = n) (hls : ls.size = nL) (hst : st0 = As.reverse ++ .ref b :: rest) (hW : (rest.map fun v => v.category).sum ≤ 8) (hdg : decode cc pc = .ok (.invokespecial index, 3)) (hcs : cells + mc ≤ R.cells ∧ slots + mz ≤ R.slots)
    (kk : ∀ (u : T) (H1 : Heap) (locs1 : List Loc), post u → va_P D clX (w1 u) H1 → va_D A (w1 u) → va_S A H0 H1 locs1 → W p l e R s m args below meth c H1 locs1 (cells + mc) (slots + mz) Q (F0 m (pc + 3) ls rest)) : W p l e R s m args below meth c H locs cells slots Q (F0 m pc ls st0) :=
  c_cv (va_runIN (As := As) (rest := rest) (n := n) ⟨hx, hb, hml, hown, ht⟩ hM ⟨va_cnB n ht (gi_c gW hcw.1.1) rfl hrc hrs (hN _ hcw.1.2.1) (ht _ hcw.1.2.2.2) hcw.2.2 hR, hcw.2.1, ht _ hcw.1.2.2.1⟩ ⟨cP_blind, cP_pre hK hN hO hP hD⟩ rfl hn hls hst (lv_room hW) hdg hcs) hD hS hA kk
/-- a new object, behind all others -/
theorem c_new {C : String} {TT : u_T} {N κ : Nat} {fs : List Value} {ty : Nat → FieldType} (hx : p.tables.exec = Jvm.exec) (hb : c.code = cc) (hown : s.vm.findClass own = some m.cls) (ht : ∀ w ∈ WS, w.before args s = true) (hC : Xc WS clX κ C TT N) (hty : ∀ k, k < N → parseFieldDescriptor (TT k).2.2.1 = some (ty k)) (h1 : Cond.classLink own index C ∈ WS) (h2 : Cond.instantiable C N ∈ WS) (h3 : Cond.initialized C ∈ WS) (hfs : ∀ j, j < N → defaultValue (ty j) = vp_V fs j) (hK : va_K D clX (tyX dA) s) (hP : va_P D clX (W0 ++ x :: RR) H) (hD : va_D A (W0 ++ x :: RR)) (hS : va_S A H0 H locs) (hA : ∀ q, H0.size ≤ q → A q) (hc : cells + 1 ≤ R.cells) (hz : slots + N ≤ R.slots) (hdg : decode cc pc = .ok (.new index, 3))
    (kk : ∀ (q : Nat) (H1 : Heap), va_P D clX (W0 ++ x :: (RR ++ [(q, .inr (κ, fs))])) H1 → va_D A (W0 ++ x :: (RR ++ [(q, .inr (κ, fs))])) → va_S A H0 H1 locs → W p l e R s m args below meth c H1 locs (cells + 1) (slots + N) Q (F0 m (pc + 3) ls (.ref q :: rest))) : W p l e R s m args below meth c H locs cells slots Q (F0 m pc ls rest) :=
  va_new (fs := fs) hx hb ht hC.1 ty hty hown (ht _ h1) (ht _ h2) (ht _ h3) hK hP hD hS hA hC.2.1 hfs hc hz hdg (fun q H1 g1 g2 g3 => by
    rw [as1] at g1 g2
    exact kk q H1 g1 g2 g3)
theorem c_newa {atype : ArrayType} {ty : FieldType} {N yy : Nat} {a0 : vp_A} (hx : p.tables.exec = Jvm.exec) (hb : c.code = cc) (ht : ∀ w ∈ WS, w.before args s = true) (h1 : Cond.arrayClass (newarray.typeOf atype) ∈ WS) (hty : newarray.typeOf atype = ty) (hyy : (tyX dA)[yy]? = some (dA yy, ty)) (ha : ∀ cA : ClassId, vp_cell cA a0 = arrV cA N (fun _ => defaultValue ty)) (hN : N ≤ 1000) (hB : componentBytes ty ≤ 8) (hK : va_K D clX (tyX dA) s) (hP : va_P D clX (W0 ++ x :: RR) H) (hD : va_D A (W0 ++ x :: RR)) (hS : va_S A H0 H locs) (hA : ∀ q, H0.size ≤ q → A q) (hc : cells + 1 ≤ R.cells) (hz : slots + N ≤ R.slots) (hdg : decode cc pc = .ok (.newarray atype, 2))
    (kk : ∀ (q : Nat) (H1 : Heap), va_P D clX (W0 ++ x :: (RR ++ [(q, .inl (dA yy, a0))])) H1 → va_D A (W0 ++ x :: (RR ++ [(q, .inl (dA yy, a0))])) → va_S A H0 H1 locs → W p l e R s m args below meth c H1 locs (cells + 1) (slots + N) Q (F0 m (pc + 2) ls (.ref q :: rest))) : W p l e R s m args below meth c H locs cells slots Q (F0 m pc ls (.int (nI N) :: rest)) :=
  va_newa (a0 := a0) (N' := N) hx hb (ht _ h1) hty hK hP hD hS hA ha (nI_pos (by omega)) (nI_clamp (by omega)) (Nat.le_trans (Nat.mul_le_mul hN hB) (by decide)) hc hz hdg (fun q cA H1 g0 g1 g2 g3 => by
    have e1 : cA = dA yy := ra_inj (g0.2 (tyX dA).length (cA, ty) (by simp)).2 (hK.2 yy _ hyy).2
    subst e1
    rw [as1] at g1 g2
    exact kk q H1 g1 g2 g3)
theorem c_newq {C : String} {N yy : Nat} (hx : p.tables.exec = Jvm.exec) (hb : c.code = cc) (hown : s.vm.findClass own = some m.cls) (ht : ∀ w ∈ WS, w.before args s = true) (h1 : Cond.classLink own index C ∈ WS) (hO : va_AO C s) (hyy : (tyX dA)[yy]? = some (dA yy, .object C)) (hN : N ≤ 1000) (hK : va_K D clX (tyX dA) s) (hP : va_P D clX (W0 ++ x :: RR) H) (hD : va_D A (W0 ++ x :: RR)) (hS : va_S A H0 H locs) (hA : ∀ q, H0.size ≤ q → A q) (hc : cells + 1 ≤ R.cells) (hz : slots + N ≤ R.slots) (hdg : decode cc pc = .ok (.anewarray index, 3))
    (kk : ∀ (q : Nat) (H1 : Heap), va_P D clX (W0 ++ x :: (RR ++ [(q, .inl (dA yy, N, .inr (.inr (.inr (.inr (fun _ => none))))))])) H1 → va_D A (W0 ++ x :: (RR ++ [(q, .inl (dA yy, N, .inr (.inr (.inr (.inr (fun _ => none))))))])) → va_S A H0 H1 locs → W p l e R s m args below meth c H1 locs (cells + 1) (slots + N) Q (F0 m (pc + 3) ls (.ref q :: rest))) : W p l e R s m args below meth c H locs cells slots Q (F0 m pc ls (.int (nI N) :: rest)) :=
  va_newq (N' := N) hx hb hown (ht _ h1) hO hK hP hD hS hA (nI_pos (by omega)) (nI_clamp (by omega)) (Nat.le_trans (Nat.mul_le_mul hN (Nat.le_refl 4)) (by decide)) hc hz hdg (fun q cA H1 g0 g1 g2 g3 => by
    have e1 : cA = dA yy := ra_inj (g0.2 (tyX dA).length (cA, .object C) (by simp)).2 (hK.2 yy _ hyy).2
    subst e1
    rw [as1] at g1 g2
    exact kk q H1 g1 g2 g3)
/-- a field of the object that is made -/
theorem c_get {C : String} {TT : u_T} {N κ k a : Nat} {fs : List Value} {v : Value} (hx : p.tables.exec = Jvm.exec) (hb : c.code = cc) (ht : ∀ w ∈ WS, w.before args s = true) (hC : Xc WS clX κ C TT N) (hown : s.vm.findClass own = some m.cls) (hK : va_K D clX (tyX dA) s) (hP : va_P D clX (W0 ++ (a, .inr (κ, fs)) :: RR) H) (hk : k < N) (hl : Cond.fieldLink own index C (TT k).2.1 (TT k).2.2.1 ∈ WS) (hd : (TT k).1 = C) (hv : fs[k]? = some v) (hdg : decode cc pc = .ok (.getfield index, 3))
    (kk : W p l e R s m args below meth c H locs cells slots Q (F0 m (pc + 3) ls (v :: rest))) : W p l e R s m args below meth c H locs cells slots Q (F0 m pc ls (.ref a :: rest)) :=
  va_get (ref := C) hx hb ht hC.1 hown hK hP W0.length ix0 hC.2.1 k hk (ht _ hl) (fun x h => by rw [hd] at h; exact h) (v := v) hv hdg kk
theorem c_put {C : String} {TT : u_T} {N κ k a : Nat} {fs fs' : List Value} {v : Value} {ty : Nat → FieldType} (hx : p.tables.exec = Jvm.exec) (hb : c.code = cc) (ht : ∀ w ∈ WS, w.before args s = true) (hC : Xc WS clX κ C TT N) (hty : ∀ k, k < N → parseFieldDescriptor (TT k).2.2.1 = some (ty k)) (hnm : ∀ a, a < N → ∀ b, b < N → a ≠ b → (TT a).2.1 ≠ (TT b).2.1) (hown : s.vm.findClass own = some m.cls) (hK : va_K D clX (tyX dA) s) (hP : va_P D clX (W0 ++ (a, .inr (κ, fs)) :: RR) H) (hD : va_D A (W0 ++ (a, .inr (κ, fs)) :: RR)) (hS : va_S A H0 H locs) (hk : k < N) (hl : Cond.fieldLink own index C (TT k).2.1 (TT k).2.2.1 ∈ WS) (hd : (TT k).1 = C) (hfin : (TT k).2.2.2 = false) (hn : narrow (ty k) v = v) (hfit : fits (ty k) v = true) (hlen : k < fs.length) (hset : fs.set k v = fs') (hdg : decode cc pc = .ok (.putfield index, 3))
    (kk : ∀ (H1 : Heap) (locs1 : List Loc), va_P D clX (W0 ++ (a, .inr (κ, fs')) :: RR) H1 → va_D A (W0 ++ (a, .inr (κ, fs')) :: RR) → va_S A H0 H1 locs1 → W p l e R s m args below meth c H1 locs1 cells slots Q (F0 m (pc + 3) ls rest)) : W p l e R s m args below meth c H locs cells slots Q (F0 m pc ls (v :: .ref a :: rest)) :=
  va_put (ref := C) hx hb ht hC.1 ty hty hnm hown hK hP hD hS W0.length ix0 hC.2.1 k hk (ht _ hl) (fun x h => by rw [hd] at h; exact h) hfin (hty k hk) hn hfit hlen hdg (fun H1 locs1 g1 g2 g3 => by
    rw [st0', hset] at g1 g2
    exact kk H1 locs1 g1 g2 g3)
theorem c_putF {C : String} {TT : u_T} {N κ k a : Nat} {fs fs' : List Value} {v : Value} {ty : Nat → FieldType} (hx : p.tables.exec = Jvm.exec) (hb : c.code = cc) (ht : ∀ w ∈ WS, w.before args s = true) (hC : Xc WS clX κ C TT N) (hty : ∀ k, k < N → parseFieldDescriptor (TT k).2.2.1 = some (ty k)) (hnm : ∀ a, a < N → ∀ b, b < N → a ≠ b → (TT a).2.1 ≠ (TT b).2.1) (hown : s.vm.findClass C = some m.cls) (hin : meth.name = "<init>") (hK : va_K D clX (tyX dA) s) (hP : va_P D clX (W0 ++ (a, .inr (κ, fs)) :: RR) H) (hD : va_D A (W0 ++ (a, .inr (κ, fs)) :: RR)) (hS : va_S A H0 H locs) (hk : k < N) (hl : Cond.fieldLink C index C (TT k).2.1 (TT k).2.2.1 ∈ WS) (hd : (TT k).1 = C) (hfin : (TT k).2.2.2 = true) (hn : narrow (ty k) v = v) (hfit : fits (ty k) v = true) (hlen : k < fs.length) (hset : fs.set k v = fs') (hdg : decode cc pc = .ok (.putfield index, 3))
    (kk : ∀ (H1 : Heap) (locs1 : List Loc), va_P D clX (W0 ++ (a, .inr (κ, fs')) :: RR) H1 → va_D A (W0 ++ (a, .inr (κ, fs')) :: RR) → va_S A H0 H1 locs1 → W p l e R s m args below meth c H1 locs1 cells slots Q (F0 m (pc + 3) ls rest)) : W p l e R s m args below meth c H locs cells slots Q (F0 m pc ls (v :: .ref a :: rest)) :=
  va_putF (ref := C) hx hb ht hC.1 ty hty hnm hown hK hP hD hS W0.length ix0 hC.2.1 k hk (ht _ hl) (fun x h => by rw [hd] at h; exact h) hfin hin hd (hty k hk) hn hfit hlen hdg (fun H1 locs1 g1 g2 g3 => by
    rw [st0', hset] at g1 g2
    exact kk H1 locs1 g1 g2 g3)
/-- an array of references among its parts -/
theorem c_alen {N yy a : Nat} {C : String} {f : Nat → Option Nat} (hx : p.tables.exec = Jvm.exec) (hb : c.code = cc) (hyy : (tyX dA)[yy]? = some (dA yy, .object C)) (hK : va_K D clX (tyX dA) s) (hP : va_P D clX (W0 ++ x :: (X ++ (a, .inl (dA yy, N, .inr (.inr (.inr (.inr f))))) :: Y)) H) (hdg : decode cc pc = .ok (.arraylength, 1))
    (kk : W p l e R s m args below meth c H locs cells slots Q (F0 m (pc + 1) ls (.int (nI N) :: rest))) : W p l e R s m args below meth c H locs cells slots Q (F0 m pc ls (.ref a :: rest)) :=
  va_alen hx hb hK hP (W0.length + 1 + X.length) yy ix1 hyy rfl hdg kk
theorem c_store {N yy a i q κ : Nat} {r : vw_C} {vs : List Value} {Z : va_W} {f : Nat → Option Nat} (hx : p.tables.exec = Jvm.exec) (hb : c.code = cc) (hyy : (tyX dA)[yy]? = some (dA yy, .object r.1)) (hr : clX[κ]? = some r) (hi : i < N) (hN : N ≤ 1000) (hK : va_K D clX (tyX dA) s) (hP : va_P D clX (W0 ++ x :: (X ++ (a, .inl (dA yy, N, .inr (.inr (.inr (.inr f))))) :: (Y ++ (q, .inr (κ, vs)) :: Z))) H) (hD : va_D A (W0 ++ x :: (X ++ (a, .inl (dA yy, N, .inr (.inr (.inr (.inr f))))) :: (Y ++ (q, .inr (κ, vs)) :: Z)))) (hS : va_S A H0 H locs) (hdg : decode cc pc = .ok (.aastore, 1))
    (kk : ∀ (H1 : Heap) (locs1 : List Loc), va_P D clX (W0 ++ x :: (X ++ (a, .inl (dA yy, N, .inr (.inr (.inr (.inr (va_up f i (some q))))))) :: (Y ++ (q, .inr (κ, vs)) :: Z))) H1 → va_D A (W0 ++ x :: (X ++ (a, .inl (dA yy, N, .inr (.inr (.inr (.inr (va_up f i (some q))))))) :: (Y ++ (q, .inr (κ, vs)) :: Z))) → va_S A H0 H1 locs1 → W p l e R s m args below meth c H1 locs1 cells slots Q (F0 m (pc + 1) ls rest)) : W p l e R s m args below meth c H locs cells slots Q (F0 m pc ls (.ref q :: .int (nI i) :: .ref a :: rest)) := by
  have hq : (W0 ++ x :: (X ++ (a, .inl (dA yy, N, .inr (.inr (.inr (.inr f))))) :: (Y ++ (q, .inr (κ, vs)) :: Z)))[(W0 ++ x :: X).length + 1 + Y.length]? = some (q, .inr (κ, vs)) := by
    rw [show W0 ++ x :: (X ++ (a, Sum.inl (dA yy, N, .inr (.inr (.inr (.inr f))))) :: (Y ++ (q, Sum.inr (κ, vs)) :: Z)) = (W0 ++ x :: X) ++ (a, Sum.inl (dA yy, N, .inr (.inr (.inr (.inr f))))) :: (Y ++ (q, Sum.inr (κ, vs)) :: Z) by simp]
    exact ix1
  exact va_astq hx hb hK hP hD hS (W0.length + 1 + X.length) yy _ κ ix1 hyy hq hr (vp_in_nI hi (by omega)) hdg (fun H1 locs1 g1 g2 g3 => by
    rw [st1, nI_clamp (by omega)] at g1 g2
    exact kk H1 locs1 g1 g2 g3)
end CC
theorem fL_push (L : List Nat) (q : Nat) : va_up (fun j => L[j]?) L.length (some q) = fun j => (L ++ [q])[j]? := by
  funext j
  unfold va_up
  by_cases h : j = L.length
  · rw [if_pos h, h]; simp
  · rw [if_neg h]
    show L[j]? = (L ++ [q])[j]?
    by_cases h1 : j < L.length
    · rw [List.getElem?_append_left h1]
    · have e1 : L[j]? = none := List.getElem?_eq_none (by omega)
      have e2 : (L ++ [q])[j]? = none := List.getElem?_eq_none (by rw [List.length_append]; show L.length + 1 ≤ j; omega)
      rw [e1, e2]
theorem fL_push2 (L : List (Nat × Nat)) (q k : Nat) : va_up (fun j => (L[j]?).map Prod.fst) L.length (some q) = fun j => ((L ++ [(q, k)])[j]?).map Prod.fst := by
  funext j
  unfold va_up
  by_cases h : j = L.length
  · rw [if_pos h, h]; simp
  · rw [if_neg h]
    show (L[j]?).map Prod.fst = ((L ++ [(q, k)])[j]?).map Prod.fst
    by_cases h1 : j < L.length
    · rw [List.getElem?_append_left h1]
    · have e1 : L[j]? = none := List.getElem?_eq_none (by omega)
      have e2 : (L ++ [(q, k)])[j]? = none := List.getElem?_eq_none (by rw [List.length_append]; show L.length + 1 ≤ j; omega)
      rw [e1, e2]
