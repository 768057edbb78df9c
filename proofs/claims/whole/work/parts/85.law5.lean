/-! THE CLAIM OUT OF ONE WALK OF THE LAW'S BODY. Your part is whole_start (and what it stands on); all else here is the same for every law, but numbers. -/
def R_law : String := "LeasedBuildsLaw"
def lw_P (b : Addr) (xs : List Int32) (args : Array Value) (s : State) : Prop := args = #[.ref b] ∧ s.IntsAt b xs ∧ xs.length ≤ 2562 ∧ (Jvm.Cond.and given_1 narrow_1).before args s = true
def lw_Q (_ : Array Value) (s : State) (o : Outcome) (t : State) : Prop := o = .returned (some (.int 1)) ∧ Framed s o t [] 600000 7302250
def lw_Z (below : List Frame) (a : Array Value) (s : State) : State → Prop := fun t => ∃ o, t.status = .running ∧ Ended t below o ∧ lw_Q a s o t
/-- the law's own end, with 1 on the stack, nothing written that was there before, its room as the claim has it -/
theorem lw_ret {p : Program} {l : Launch} {e : Env} {s : State} {m : MethodId} {below : List Frame} {meth : Method} {c : Code} {b : Nat} (hx : p.tables.exec = Jvm.exec) (hb : c.code = code) (hr : meth.sig.returnType = ret) (hlocks : meth.locks = false) {pc : Nat} {H : Heap} {ls : Array Slot} (hdg : decode code pc = .ok (.ireturn, 1)) : W p l e room_1 s m #[Value.ref b] below meth c H [] 600000 7302250 (lw_Z below #[Value.ref b] s) (F0 m pc ls [.int 1]) := by
  intro T hT X
  obtain ⟨fs, hret, hrun, hended, hW, hframe⟩ := X.leave (v := some (.int 1)) (hlocks := hlocks) (fun h => by rw [hr] at h; cases h)
  have hmeth' : T.vm.method? m = some meth := X.method'
  refine ⟨T.setFrames fs, ?_, .returned (some (.int 1)), hrun, hended, rfl, ⟨_, rfl⟩, hW, hframe⟩
  jvm_step X.here [X.here.top, hx, hb, hdg, hmeth', hr, ret, narrow_b1]
  (try refine ⟨rfl, ?_⟩); (try refine ⟨rfl, ?_⟩)
  first | (intro acts; rw [hret _ acts rfl rfl rfl]) | rw [hret _ _ rfl rfl rfl]
  exact Steps.refl _
/-- what holds at the law's entry: the machine, the code, the tables' words (any of lw_tbl by 'hts w (by decide +kernel)'), the script of L ints xs at the cell b, what the Statement gives of the start (any of its parts by flat_of_before) -/
def lw_At (p : Program) (s : State) (m : MethodId) (meth : Method) (c : Code) (b L : Nat) (xs : Nat → Int32) : Prop :=
  p.tables.exec = Jvm.exec ∧ c.code = code ∧ meth.sig.returnType = ret ∧ c.maxLocals = 4 ∧ s.vm.findClass R_law = some m.cls ∧ (∀ w ∈ lw_tbl, w.before #[Value.ref b] s = true) ∧ va_X b L xs s s.heap ∧ b < s.heap.size ∧ meth.locks = false ∧ (Jvm.Cond.and given_1 narrow_1).before #[Value.ref b] s = true

set_option maxHeartbeats 4000000 in
set_option maxRecDepth 100000 in
theorem lw_loop {p : Program} {l : Launch} {e : Env} {s : State} {m : MethodId} {below : List Frame} {meth : Method} {c : Code} {D : va_G} {dA : Nat → ClassId} {A : Nat → Prop} {adc adm : Nat → Nat} {nw b L : Nat} {xs : Nat → Int32} (hx : p.tables.exec = Jvm.exec) (hb : c.code = b_Law_law) (hr : meth.sig.returnType = ret) (hlk : meth.locks = false) (hml : c.maxLocals = 4) (hown : s.vm.findClass "LeasedBuildsLaw" = some m.cls) (ht : ∀ w ∈ WS, w.before #[Value.ref b] s = true) (hN : nst NL s) (hK : va_K D clX (tyX dA) s) (hJc : Inj adc (obC nw)) (hJm : Inj adm obM) (hn4 : nw ≤ 4) (hAe : ∀ q, A q → s.heap.size ≤ q) (hAc : ∀ o, o ∈ obC nw → A (adc o)) (hAm : ∀ o, o ∈ obM → A (adm o)) (hdis : ∀ o o2, o ∈ obC nw → o2 ∈ obM → adc o ≠ adm o2) (hX : va_X b L xs s s.heap) (hbl : b < s.heap.size) (hbA : ¬ A b) (hL : L ≤ 2562) :
    ∀ (n i bb B : Nat) (σ μ : Sg) (H : Heap) (locs : List Loc) (ls : Array Slot), L ≤ i + 5 * n → i ≤ 10000 → n ≤ 1000 → B + 64 * n + 64 < 2 ^ 28 → Sim nw bb B σ μ → va_P D clX (wd (SC nw) adc dA (obC nw) σ) H → va_P D clX (wd SM adm dA obM μ) H → va_S A s.heap H locs → lv_has ls 4 [(3, .int (nI i)), (2, .ref (adm 0)), (1, .ref (adc 0)), (0, .ref b)] → W p l e room_1 s m #[Value.ref b] below meth c H locs 139 1059 (lw_Z below #[Value.ref b] s) (F0 m 38 ls []) := by
  intro n
  induction n with
  | zero =>
    intro i bb B σ μ H locs ls hn hi9 hn9 hB h hPc hPm hS hl
    refine lv_iload_n hx hb d_Law_law_38 rfl (lv_at hl 0 rfl) ?_
    refine lv_aload_n hx hb d_Law_law_39 rfl (lv_at hl 3 rfl) ?_
    refine va_slen hx hb hX hbl hbA hS d_Law_law_40 ?_
    refine lv_iconst (v := nI 5) hx hb d_Law_law_41 (by decide) ?_
    refine lv_isub hx hb d_Law_law_42 ?_
    refine lv_icmp_gt (tgt := 634) hx hb d_Law_law_43 (by decide) (fun g => ?_) (fun g => ?_)
    · refine lv_iconst (v := 1) hx hb d_Law_law_634 (by decide) ?_
      refine W.widen (k := 600000) (n := 7302250) (by decide) (by decide) ?_
      exact va_forget (fun q hq => hAe _ (hS.2.2 q hq)) (lw_ret hx hb hr hlk d_Law_law_635)
    · exfalso
      apply g
      show nI L - nI 5 < nI i
      rw [Int32.lt_iff_toInt_lt, pk_sub_toInt (by omega) (by decide), nI_toInt (by omega)]
      omega
  | succ n ih =>
    intro i bb B σ μ H locs ls hn hi9 hn9 hB h hPc hPm hS hl
    refine lv_iload_n hx hb d_Law_law_38 rfl (lv_at hl 0 rfl) ?_
    refine lv_aload_n hx hb d_Law_law_39 rfl (lv_at hl 3 rfl) ?_
    refine va_slen hx hb hX hbl hbA hS d_Law_law_40 ?_
    refine lv_iconst (v := nI 5) hx hb d_Law_law_41 (by decide) ?_
    refine lv_isub hx hb d_Law_law_42 ?_
    refine lv_icmp_gt (tgt := 634) hx hb d_Law_law_43 (by decide) (fun g => ?_) (fun g => ?_)
    · refine lv_iconst (v := 1) hx hb d_Law_law_634 (by decide) ?_
      refine W.widen (k := 600000) (n := 7302250) (by decide) (by decide) ?_
      exact va_forget (fun q hq => hAe _ (hS.2.2 q hq)) (lw_ret hx hb hr hlk d_Law_law_635)
    · have hi5 : i + 5 ≤ L := by
        have g : ¬ nI L - nI 5 < nI i := g
        rw [Int32.lt_iff_toInt_lt, pk_sub_toInt (by omega) (by decide), nI_toInt (by omega)] at g
        omega
      refine lw_turn hx hb hml hown ht hN hK hJc hJm hn4 hAc hAm hdis hX hbl hbA hL hi5 h (by omega) hPc hPm hS hl (fun bb2 σ2 μ2 H2 locs2 h2 hPc2 hPm2 hS2 => ?_)
      refine lv_iinc (lv' := [(3, .int (nI (i + 5))), (2, .ref (adm 0)), (1, .ref (adc 0)), (0, .ref b)]) (v := nI (i + 5)) hx hb d_Law_law_628 hl (k := 0) rfl (nI_add _ _) (by decide) rfl (fun ls2 hl2 => ?_)
      refine lv_goto (tgt := 38) hx hb d_Law_law_631 (by decide) ?_
      exact ih (i + 5) bb2 (B + 64) σ2 μ2 H2 locs2 ls2 (by omega) (by omega) (by omega) (by omega) h2 hPc2 hPm2 hS2 hl2
