/-! the law from its start -/
section LC
variable {p : Program} {l : Launch} {e : Env} {s : State} {m : MethodId} {args : Array Value} {below : List Frame} {meth : Method} {c : Code} {H : Heap} {locs : List Loc} {cells slots : Nat} {Q : State → Prop} {pc : Nat} {ls : Array Slot} {rest : List Value} {D : va_G} {A : Nat → Prop} {ws : va_W} {b L k : Nat} {xs : Nat → Int32}
theorem lw_cell (hx : p.tables.exec = Jvm.exec) (hb : c.code = b_Law_law) (hml : c.maxLocals = 4) (hown : s.vm.findClass "LeasedBuildsLaw" = some m.cls) (ht : ∀ w ∈ WS, w.before args s = true) (hX : va_X b L xs s s.heap) (hbl : b < s.heap.size) (hbA : ¬ A b) (hk : k < 2 ^ 31) (hL : L < 2 ^ 31) (hP : va_P D clX ws H) (hS : va_S A s.heap H locs) (hls : ls.size = 4) (hW : (rest.map fun v => v.category).sum ≤ 8) (hcs : cells ≤ room_1.cells ∧ slots ≤ room_1.slots) (hdg : decode b_Law_law pc = .ok (.invokestatic 9, 3))
    (kk : ∀ (H1 : Heap) (locs1 : List Loc), va_P D clX ws H1 → va_S A s.heap H1 locs1 → W p l e room_1 s m args below meth c H1 locs1 cells slots Q (F0 m (pc + 3) ls (.int (if k < L then xs k else 0) :: rest))) : W p l e room_1 s m args below meth c H locs cells slots Q (F0 m pc ls (.int (nI k) :: .ref b :: rest)) := by
  have hr : va_Run p l e room_1 s m args below meth c H locs cells slots 0 0 (F0 m pc ls (.int (nI k) :: .ref b :: rest)) rest (va_Qi (fun (r : Int32) (_ : Unit) => r = if k < L then xs k else 0) (fun _ _ => True) (fun _ => False) ([.ref b, .int (nI k)] : List Value).toArray) (fun _ => False) :=
    va_runS (As := [.ref b, .int (nI k)]) (rest := rest) (n := 2) ⟨hx, hb, hml, hown, ht⟩ (c_Law_cell l b L xs k hk hL) (cwS 2 ht (gi_S gW cs_Law_9) rfl rfl rfl cs_Law_9.2 (by decide)) ⟨fun a U g mk q => ⟨q.1, va_X.moved (u := U) (U := U.calling g mk a) (Vm.Alike.refl U.vm) q.2⟩, fun U hU hW => ⟨rfl, by show va_X b L xs U U.heap; rw [hU]; exact va_X.moved hW.alike (hX.kept (hS.2.1 b hbl hbA))⟩⟩ rfl rfl hls rfl (lv_room hW) hdg hcs
  refine va_calli hr hS (fun q _ h => h.elim) (fun q h => h.elim) (fun r u t H1 locs1 e1 _ hp _ _ hkeep hS1 => ?_)
  subst hp
  exact kk H1 locs1 (hP.kept (fun k q hq => hkeep q.1 (hP k q hq).lt (fun h => h))) hS1
end LC
set_option maxHeartbeats 4000000 in
set_option maxRecDepth 100000 in
/-- from the entry, for every script of at most 2562 ints, the law comes to its end with true -/
theorem whole_start {p : Program} {e : Env} {s : State} {m : MethodId} {below : List Frame} {meth : Method} {c : Code} (l : Launch) {b L : Nat} {xs : Nat → Int32} (hL : L ≤ 2562) (C0 : lw_At p s m meth c b L xs) : W p l e room_1 s m #[Value.ref b] below meth c s.heap [] 0 0 (lw_Z below #[Value.ref b] s) (entryFrame m ([Value.ref b] : List Value).toArray 4) := by
  obtain ⟨hx, hb, hr, hml, hown, hts, hX, hbl, hlk, hgv⟩ := C0
  have hb : c.code = b_Law_law := hb
  have hown : s.vm.findClass "LeasedBuildsLaw" = some m.cls := hown
  have ht : ∀ w ∈ WS, w.before #[Value.ref b] s = true := fun w h => hts w (List.mem_filter.mp h).1
  have hN : nst NL s := fun q hq => va_Nw.of rfl (hts _ (List.mem_append_right _ (nl_ok q hq)))
  have hO : aos s := ⟨va_AO.of (hts _ (List.mem_append_right _ ao_Key)), va_AO.of (hts _ (List.mem_append_right _ ao_Message)), va_AO.of (hts _ (List.mem_append_right _ ao_Worker))⟩
  obtain ⟨D, dA, hK⟩ := start_K ht hO
  generalize hAe : (fun q : Nat => s.heap.size ≤ q) = A
  have hA : ∀ q, s.heap.size ≤ q → A q := fun q h => by rw [← hAe]; exact h
  have hA2 : ∀ q, A q → s.heap.size ≤ q := fun q h => by rw [← hAe] at h; exact h
  have hbA : ¬ A b := fun h => by have := hA2 b h; omega
  have hS : va_S A s.heap s.heap [] := va_S.rf
  have hP : va_P D clX [] s.heap := fun k q hq => by cases hq
  have hD : va_D A [] := ⟨fun i j p q hi => (by cases hi), fun k q hq => by cases hq⟩
  have hl := lv_entry ([.ref b]) (n := 4) (Nat.le_of_ble_eq_true rfl)
  rw [lg_entry_eq]
  generalize (lg_sl ([.ref b]) ++ List.replicate (4 - (lg_sl ([.ref b])).length) Slot.unset).toArray = ls at hl ⊢
  have hl : lv_has ls 4 [(0, .ref b)] := hl
  have hL31 : L < 2 ^ 31 := by omega
  refine va_new (ci := 0) (fs := fr_LB) hx hb ht xc_LB.1 t_LB t_LB_ok hown (ht _ cl_Law_7) (ht _ in_LB) (ht _ it_LB) hK hP hD hS hA rfl fo_LB (by decide) (by decide) d_Law_law_0 (fun q1 H hP hD hS => ?_)
  refine lv_dup hx hb d_Law_law_3 rfl ?_
  refine lv_aload_n hx hb d_Law_law_4 rfl (lv_at hl 0 rfl) ?_
  refine lv_iconst (v := nI 0) hx hb d_Law_law_5 (by decide) ?_
  refine lw_cell hx hb hml hown ht hX hbl hbA (by decide) hL31 hP hS hl.1 (Nat.le_of_ble_eq_true rfl) (by decide) d_Law_law_6 (fun H locs hP hS => ?_)
  refine lv_aload_n hx hb d_Law_law_9 rfl (lv_at hl 0 rfl) ?_
  refine lv_iconst (v := nI 1) hx hb d_Law_law_10 (by decide) ?_
  refine lw_cell hx hb hml hown ht hX hbl hbA (by decide) hL31 hP hS hl.1 (Nat.le_of_ble_eq_true rfl) (by decide) d_Law_law_11 (fun H locs hP hS => ?_)
  generalize hx1 : (if 0 < L then xs 0 else 0) = x1
  generalize hx2 : (if 1 < L then xs 1 else 0) = x2
  refine c_I (As := [.int x1, .int x2]) (rest := [.ref q1]) hx hb hml hown ht ci_Law_15 (n_LB_init l D dA [] q1 H.size x1 x2) rfl rfl (by decide) hN hO hK hP hD hS hA rfl hl.1 rfl (Nat.le_of_ble_eq_true rfl) d_Law_law_14 (by decide) (fun u H locs hu hP hD hS => ?_)
  refine lv_astore_n (lv' := [(1, .ref q1), (0, .ref b)]) hx hb d_Law_law_17 rfl hl (by decide) rfl (fun ls hl => ?_)
  refine va_new (ci := 10) (fs := fr_Md) hx hb ht xc_Md.1 t_Md t_Md_ok hown (ht _ cl_Law_18) (ht _ in_Md) (ht _ it_Md) hK hP hD hS hA rfl fo_Md (by decide) (by decide) d_Law_law_18 (fun q2 H hP hD hS => ?_)
  refine lv_dup hx hb d_Law_law_21 rfl ?_
  refine lv_aload_n hx hb d_Law_law_22 rfl (lv_at hl 1 rfl) ?_
  refine lv_iconst (v := nI 0) hx hb d_Law_law_23 (by decide) ?_
  refine lw_cell hx hb hml hown ht hX hbl hbA (by decide) hL31 hP hS hl.1 (Nat.le_of_ble_eq_true rfl) (by decide) d_Law_law_24 (fun H locs hP hS => ?_)
  refine lv_aload_n hx hb d_Law_law_27 rfl (lv_at hl 1 rfl) ?_
  refine lv_iconst (v := nI 1) hx hb d_Law_law_28 (by decide) ?_
  refine lw_cell hx hb hml hown ht hX hbl hbA (by decide) hL31 hP hS hl.1 (Nat.le_of_ble_eq_true rfl) (by decide) d_Law_law_29 (fun H locs hP hS => ?_)
  rw [hx1, hx2]
  refine c_I (As := [.int x1, .int x2]) (rest := [.ref q2]) hx hb hml hown ht ci_Law_20 (n_Md_init l D dA _ q2 H.size x1 x2) rfl rfl (by decide) hN hO hK hP hD hS hA rfl hl.1 rfl (Nat.le_of_ble_eq_true rfl) d_Law_law_32 (by decide) (fun u2 H locs hu2 hP hD hS => ?_)
  refine lv_astore_n (lv' := [(2, .ref q2), (1, .ref q1), (0, .ref b)]) hx hb d_Law_law_35 rfl hl (by decide) rfl (fun ls hl => ?_)
  refine lv_iconst (v := nI 2) hx hb d_Law_law_36 (by decide) ?_
  refine lv_istore_n (lv' := [(3, .int (nI 2)), (2, .ref q2), (1, .ref q1), (0, .ref b)]) hx hb d_Law_law_37 rfl hl (by decide) rfl (fun ls hl => ?_)
  refine W.widen (k := 139) (n := 1059) (by decide) (by decide) ?_
  obtain ⟨⟨f, r, ⟨lo, lk⟩, ⟨ta, tk⟩, L24⟩, ⟨cN, a1, a2, a3, a4, a5, a6, a7⟩, ⟨sv, ⟨dk, ⟨d1, d2, d3, d4⟩, Ld⟩, ⟨qu, qr, Lq⟩, ⟨le, ⟨l1, l2, l3⟩, Ll⟩⟩, wa, Lw⟩ := u
  obtain ⟨hL24, ⟨hLd, hLq, hLl⟩, hLw⟩ := hu
  have hn4 := nwC_le x1
  have hPc := wd_C (W0 := []) (wl_l hP) hn4 hL24 hLd hLq hLl hLw
  have hPm := wl_r hP
  have hJm := inj_M hD
  have hJc := inj_C (W0 := []) (wl_D hD) hn4 hL24 hLd hLq hLl hLw
  have pr := wl_pair hD (ad_list hn4 hL24 hLd hLq hLl hLw) (by rw [wd_M]; exact wd_fst _ _ _ _ _)
  rw [wd_M] at hPm
  exact lw_loop hx hb hr hlk hml hown ht hN hK hJc hJm hn4 hA2 pr.1 pr.2.1 pr.2.2 hX hbl hbA hL 513 2 0 0 _ _ H locs ls (by omega) (by decide) (by decide) (by decide) (sim_0 (nwC_pos x1) hn4 (lnC_le x2)) hPc hPm hS hl
