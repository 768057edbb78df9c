/-! the law: each of its calls on both sides, ended -/
set_option maxHeartbeats 4000000 in
set_option maxRecDepth 100000 in
theorem lwt_10 {p : Program} {l : Launch} {e : Env} {s : State} {m : MethodId} {args : Array Value} {below : List Frame} {meth : Method} {c : Code} {H H0 : Heap} {locs : List Loc} {Q : State → Prop} {ls : Array Slot} {D : va_G} {dA : Nat → ClassId} {A : Nat → Prop} {adc adm : Nat → Nat} {nw bb B b L i : Nat} {xs : Nat → Int32} {σ μ : Sg} (hx : p.tables.exec = Jvm.exec) (hb : c.code = b_Law_law) (hml : c.maxLocals = 4) (hown : s.vm.findClass "LeasedBuildsLaw" = some m.cls) (ht : ∀ w ∈ WS, w.before args s = true) (hN : nst NL s) (hK : va_K D clX (tyX dA) s) (hJc : Inj adc (obC nw)) (hJm : Inj adm obM) (hn4 : nw ≤ 4) (hAc : ∀ o, o ∈ obC nw → A (adc o)) (hAm : ∀ o, o ∈ obM → A (adm o)) (hdis : ∀ o o2, o ∈ obC nw → o2 ∈ obM → adc o ≠ adm o2) (hX : va_X b L xs s H0) (hbl : b < H0.size) (hbA : ¬ A b) (hL : L ≤ 2562) (hi : i + 5 ≤ L) (h : Sim nw bb B σ μ) (hB : B + 64 < 2 ^ 28) (hPc : va_P D clX (wd (SC nw) adc dA (obC nw) σ) H) (hPm : va_P D clX (wd SM adm dA obM μ) H) (hS : va_S A H0 H locs) (hl : lv_has ls 4 [(3, .int (nI i)), (2, .ref (adm 0)), (1, .ref (adc 0)), (0, .ref b)])
    (kk : ∀ (bb' : Nat) (σ' μ' : Sg) (H1 : Heap) (locs1 : List Loc), Sim nw bb' (B + 64) σ' μ' → va_P D clX (wd (SC nw) adc dA (obC nw) σ') H1 → va_P D clX (wd SM adm dA obM μ') H1 → va_S A H0 H1 locs1 → W p l e room_1 s m args below meth c H1 locs1 139 1059 Q (F0 m 628 ls [])) : W p l e room_1 s m args below meth c H locs 139 1059 Q (F0 m 408 ls []) := by
  have hWf := h.1
  have hWM := h.2.2.1
  have hdp := del_pre h hn4
  have htm : gN σ 4 0 ≤ B := by
    obtain ⟨h1, h2, h3, ⟨fs, qs, hs, rs, r⟩, h5⟩ := h
    rw [r.tm]
    exact h3.tm
  refine lv_aload_n hx hb d_Law_law_408 rfl (lv_at hl 2 rfl) ?_
  refine lv_aload_n hx hb d_Law_law_409 rfl (lv_at hl 3 rfl) ?_
  refine lv_iload_n hx hb d_Law_law_410 rfl (lv_at hl 0 rfl) ?_
  refine lv_iconst (v := nI 1) hx hb d_Law_law_411 (by decide) ?_
  refine lv_iadd hx hb d_Law_law_412 ?_
  rw [nI_add]
  refine va_sld hx hb hX hbl hbA hS (vp_in_nI (by omega) (by omega)) d_Law_law_413 ?_
  rw [nI_clamp (by omega)]
  refine lw_call (x_rV (S := SC nw) (ad := adc) (ob := obC nw) (σ := σ) (o := 0) (As := [.int (xs (i + 1))]) (rest := []) hx hb hml hown ht gW cs_Law_68 (c_LB_message l D dA adc nw hJc hn4 σ (xs (i + 1)) hWf) rfl rfl (by decide) xc_LB hN hK hPc (mo (by decide)) rfl rfl hl.1 rfl (Nat.le_of_ble_eq_true rfl) d_Law_law_414 (by decide)) hS hAc hdis hPm (fun H locs hPc hPm hS => ?_)
  refine lv_aload_n hx hb d_Law_law_417 rfl (lv_at hl 1 rfl) ?_
  refine lv_aload_n hx hb d_Law_law_418 rfl (lv_at hl 3 rfl) ?_
  refine lv_iload_n hx hb d_Law_law_419 rfl (lv_at hl 0 rfl) ?_
  refine lv_iconst (v := nI 1) hx hb d_Law_law_420 (by decide) ?_
  refine lv_iadd hx hb d_Law_law_421 ?_
  rw [nI_add]
  refine va_sld hx hb hX hbl hbA hS (vp_in_nI (by omega) (by omega)) d_Law_law_422 ?_
  rw [nI_clamp (by omega)]
  refine lw_call (x_rV (S := SM) (ad := adm) (ob := obM) (σ := μ) (o := 0) (As := [.int (xs (i + 1))]) (rest := [.int _]) hx hb hml hown ht gW cs_Law_71 (c_Md_message l D dA adm hJm μ (xs (i + 1)) B hWM (by omega)) rfl rfl (by decide) xc_Md hN hK hPm (moM (by decide)) rfl rfl hl.1 rfl (Nat.le_of_ble_eq_true rfl) d_Law_law_423 (by decide)) hS hAm (fun o o2 g1 g2 g3 => hdis o2 o g2 g1 g3.symm) hPc (fun H locs hPm hPc hS => ?_)
  refine lv_icmp_eq (tgt := 628) hx hb d_Law_law_426 (by decide) (fun _ => ?_) (fun hne => absurd (q_message h (xs (i + 1))) hne)
  exact kk bb _ _ H locs (h.mono (by omega)) hPc hPm hS
set_option maxHeartbeats 4000000 in
set_option maxRecDepth 100000 in
theorem lwt_11 {p : Program} {l : Launch} {e : Env} {s : State} {m : MethodId} {args : Array Value} {below : List Frame} {meth : Method} {c : Code} {H H0 : Heap} {locs : List Loc} {Q : State → Prop} {ls : Array Slot} {D : va_G} {dA : Nat → ClassId} {A : Nat → Prop} {adc adm : Nat → Nat} {nw bb B b L i : Nat} {xs : Nat → Int32} {σ μ : Sg} (hx : p.tables.exec = Jvm.exec) (hb : c.code = b_Law_law) (hml : c.maxLocals = 4) (hown : s.vm.findClass "LeasedBuildsLaw" = some m.cls) (ht : ∀ w ∈ WS, w.before args s = true) (hN : nst NL s) (hK : va_K D clX (tyX dA) s) (hJc : Inj adc (obC nw)) (hJm : Inj adm obM) (hn4 : nw ≤ 4) (hAc : ∀ o, o ∈ obC nw → A (adc o)) (hAm : ∀ o, o ∈ obM → A (adm o)) (hdis : ∀ o o2, o ∈ obC nw → o2 ∈ obM → adc o ≠ adm o2) (hX : va_X b L xs s H0) (hbl : b < H0.size) (hbA : ¬ A b) (hL : L ≤ 2562) (hi : i + 5 ≤ L) (h : Sim nw bb B σ μ) (hB : B + 64 < 2 ^ 28) (hPc : va_P D clX (wd (SC nw) adc dA (obC nw) σ) H) (hPm : va_P D clX (wd SM adm dA obM μ) H) (hS : va_S A H0 H locs) (hl : lv_has ls 4 [(3, .int (nI i)), (2, .ref (adm 0)), (1, .ref (adc 0)), (0, .ref b)])
    (kk : ∀ (bb' : Nat) (σ' μ' : Sg) (H1 : Heap) (locs1 : List Loc), Sim nw bb' (B + 64) σ' μ' → va_P D clX (wd (SC nw) adc dA (obC nw) σ') H1 → va_P D clX (wd SM adm dA obM μ') H1 → va_S A H0 H1 locs1 → W p l e room_1 s m args below meth c H1 locs1 139 1059 Q (F0 m 628 ls [])) : W p l e room_1 s m args below meth c H locs 139 1059 Q (F0 m 431 ls []) := by
  have hWf := h.1
  have hWM := h.2.2.1
  have hdp := del_pre h hn4
  have htm : gN σ 4 0 ≤ B := by
    obtain ⟨h1, h2, h3, ⟨fs, qs, hs, rs, r⟩, h5⟩ := h
    rw [r.tm]
    exact h3.tm
  refine lv_aload_n hx hb d_Law_law_431 rfl (lv_at hl 2 rfl) ?_
  refine lv_aload_n hx hb d_Law_law_432 rfl (lv_at hl 3 rfl) ?_
  refine lv_iload_n hx hb d_Law_law_433 rfl (lv_at hl 0 rfl) ?_
  refine lv_iconst (v := nI 1) hx hb d_Law_law_434 (by decide) ?_
  refine lv_iadd hx hb d_Law_law_435 ?_
  rw [nI_add]
  refine va_sld hx hb hX hbl hbA hS (vp_in_nI (by omega) (by omega)) d_Law_law_436 ?_
  rw [nI_clamp (by omega)]
  refine lw_call (x_rV (S := SC nw) (ad := adc) (ob := obC nw) (σ := σ) (o := 0) (As := [.int (xs (i + 1))]) (rest := []) hx hb hml hown ht gW cs_Law_72 (c_LB_carried l D dA adc nw hJc hn4 σ (xs (i + 1)) hWf) rfl rfl (by decide) xc_LB hN hK hPc (mo (by decide)) rfl rfl hl.1 rfl (Nat.le_of_ble_eq_true rfl) d_Law_law_437 (by decide)) hS hAc hdis hPm (fun H locs hPc hPm hS => ?_)
  refine lv_aload_n hx hb d_Law_law_440 rfl (lv_at hl 1 rfl) ?_
  refine lv_aload_n hx hb d_Law_law_441 rfl (lv_at hl 3 rfl) ?_
  refine lv_iload_n hx hb d_Law_law_442 rfl (lv_at hl 0 rfl) ?_
  refine lv_iconst (v := nI 1) hx hb d_Law_law_443 (by decide) ?_
  refine lv_iadd hx hb d_Law_law_444 ?_
  rw [nI_add]
  refine va_sld hx hb hX hbl hbA hS (vp_in_nI (by omega) (by omega)) d_Law_law_445 ?_
  rw [nI_clamp (by omega)]
  refine lw_call (x_rV (S := SM) (ad := adm) (ob := obM) (σ := μ) (o := 0) (As := [.int (xs (i + 1))]) (rest := [.int _]) hx hb hml hown ht gW cs_Law_75 (c_Md_carried l D dA adm hJm μ (xs (i + 1)) B hWM (by omega)) rfl rfl (by decide) xc_Md hN hK hPm (moM (by decide)) rfl rfl hl.1 rfl (Nat.le_of_ble_eq_true rfl) d_Law_law_446 (by decide)) hS hAm (fun o o2 g1 g2 g3 => hdis o2 o g2 g1 g3.symm) hPc (fun H locs hPm hPc hS => ?_)
  refine lv_icmp_eq (tgt := 628) hx hb d_Law_law_449 (by decide) (fun _ => ?_) (fun hne => absurd (q_carried h (xs (i + 1))) hne)
  exact kk bb _ _ H locs (h.mono (by omega)) hPc hPm hS
set_option maxHeartbeats 4000000 in
set_option maxRecDepth 100000 in
theorem lwt_12 {p : Program} {l : Launch} {e : Env} {s : State} {m : MethodId} {args : Array Value} {below : List Frame} {meth : Method} {c : Code} {H H0 : Heap} {locs : List Loc} {Q : State → Prop} {ls : Array Slot} {D : va_G} {dA : Nat → ClassId} {A : Nat → Prop} {adc adm : Nat → Nat} {nw bb B b L i : Nat} {xs : Nat → Int32} {σ μ : Sg} (hx : p.tables.exec = Jvm.exec) (hb : c.code = b_Law_law) (hml : c.maxLocals = 4) (hown : s.vm.findClass "LeasedBuildsLaw" = some m.cls) (ht : ∀ w ∈ WS, w.before args s = true) (hN : nst NL s) (hK : va_K D clX (tyX dA) s) (hJc : Inj adc (obC nw)) (hJm : Inj adm obM) (hn4 : nw ≤ 4) (hAc : ∀ o, o ∈ obC nw → A (adc o)) (hAm : ∀ o, o ∈ obM → A (adm o)) (hdis : ∀ o o2, o ∈ obC nw → o2 ∈ obM → adc o ≠ adm o2) (hX : va_X b L xs s H0) (hbl : b < H0.size) (hbA : ¬ A b) (hL : L ≤ 2562) (hi : i + 5 ≤ L) (h : Sim nw bb B σ μ) (hB : B + 64 < 2 ^ 28) (hPc : va_P D clX (wd (SC nw) adc dA (obC nw) σ) H) (hPm : va_P D clX (wd SM adm dA obM μ) H) (hS : va_S A H0 H locs) (hl : lv_has ls 4 [(3, .int (nI i)), (2, .ref (adm 0)), (1, .ref (adc 0)), (0, .ref b)])
    (kk : ∀ (bb' : Nat) (σ' μ' : Sg) (H1 : Heap) (locs1 : List Loc), Sim nw bb' (B + 64) σ' μ' → va_P D clX (wd (SC nw) adc dA (obC nw) σ') H1 → va_P D clX (wd SM adm dA obM μ') H1 → va_S A H0 H1 locs1 → W p l e room_1 s m args below meth c H1 locs1 139 1059 Q (F0 m 628 ls [])) : W p l e room_1 s m args below meth c H locs 139 1059 Q (F0 m 454 ls []) := by
  have hWf := h.1
  have hWM := h.2.2.1
  have hdp := del_pre h hn4
  have htm : gN σ 4 0 ≤ B := by
    obtain ⟨h1, h2, h3, ⟨fs, qs, hs, rs, r⟩, h5⟩ := h
    rw [r.tm]
    exact h3.tm
  refine lv_aload_n hx hb d_Law_law_454 rfl (lv_at hl 2 rfl) ?_
  refine lv_aload_n hx hb d_Law_law_455 rfl (lv_at hl 3 rfl) ?_
  refine lv_iload_n hx hb d_Law_law_456 rfl (lv_at hl 0 rfl) ?_
  refine lv_iconst (v := nI 1) hx hb d_Law_law_457 (by decide) ?_
  refine lv_iadd hx hb d_Law_law_458 ?_
  rw [nI_add]
  refine va_sld hx hb hX hbl hbA hS (vp_in_nI (by omega) (by omega)) d_Law_law_459 ?_
  rw [nI_clamp (by omega)]
  refine lw_call (x_rV (S := SC nw) (ad := adc) (ob := obC nw) (σ := σ) (o := 0) (As := [.int (xs (i + 1))]) (rest := []) hx hb hml hown ht gW cs_Law_76 (c_LB_known l D dA adc nw hJc hn4 σ (xs (i + 1)) hWf) rfl rfl (by decide) xc_LB hN hK hPc (mo (by decide)) rfl rfl hl.1 rfl (Nat.le_of_ble_eq_true rfl) d_Law_law_460 (by decide)) hS hAc hdis hPm (fun H locs hPc hPm hS => ?_)
  refine lv_aload_n hx hb d_Law_law_463 rfl (lv_at hl 1 rfl) ?_
  refine lv_aload_n hx hb d_Law_law_464 rfl (lv_at hl 3 rfl) ?_
  refine lv_iload_n hx hb d_Law_law_465 rfl (lv_at hl 0 rfl) ?_
  refine lv_iconst (v := nI 1) hx hb d_Law_law_466 (by decide) ?_
  refine lv_iadd hx hb d_Law_law_467 ?_
  rw [nI_add]
  refine va_sld hx hb hX hbl hbA hS (vp_in_nI (by omega) (by omega)) d_Law_law_468 ?_
  rw [nI_clamp (by omega)]
  refine lw_call (x_rV (S := SM) (ad := adm) (ob := obM) (σ := μ) (o := 0) (As := [.int (xs (i + 1))]) (rest := [.int _]) hx hb hml hown ht gW cs_Law_79 (c_Md_known l D dA adm hJm μ (xs (i + 1)) B hWM) rfl rfl (by decide) xc_Md hN hK hPm (moM (by decide)) rfl rfl hl.1 rfl (Nat.le_of_ble_eq_true rfl) d_Law_law_469 (by decide)) hS hAm (fun o o2 g1 g2 g3 => hdis o2 o g2 g1 g3.symm) hPc (fun H locs hPm hPc hS => ?_)
  refine lv_icmp_eq (tgt := 628) hx hb d_Law_law_472 (by decide) (fun _ => ?_) (fun hne => absurd (congrArg bI (q_known h (xs (i + 1)))) hne)
  exact kk bb _ _ H locs (h.mono (by omega)) hPc hPm hS
set_option maxHeartbeats 4000000 in
set_option maxRecDepth 100000 in
theorem lwt_13 {p : Program} {l : Launch} {e : Env} {s : State} {m : MethodId} {args : Array Value} {below : List Frame} {meth : Method} {c : Code} {H H0 : Heap} {locs : List Loc} {Q : State → Prop} {ls : Array Slot} {D : va_G} {dA : Nat → ClassId} {A : Nat → Prop} {adc adm : Nat → Nat} {nw bb B b L i : Nat} {xs : Nat → Int32} {σ μ : Sg} (hx : p.tables.exec = Jvm.exec) (hb : c.code = b_Law_law) (hml : c.maxLocals = 4) (hown : s.vm.findClass "LeasedBuildsLaw" = some m.cls) (ht : ∀ w ∈ WS, w.before args s = true) (hN : nst NL s) (hK : va_K D clX (tyX dA) s) (hJc : Inj adc (obC nw)) (hJm : Inj adm obM) (hn4 : nw ≤ 4) (hAc : ∀ o, o ∈ obC nw → A (adc o)) (hAm : ∀ o, o ∈ obM → A (adm o)) (hdis : ∀ o o2, o ∈ obC nw → o2 ∈ obM → adc o ≠ adm o2) (hX : va_X b L xs s H0) (hbl : b < H0.size) (hbA : ¬ A b) (hL : L ≤ 2562) (hi : i + 5 ≤ L) (h : Sim nw bb B σ μ) (hB : B + 64 < 2 ^ 28) (hPc : va_P D clX (wd (SC nw) adc dA (obC nw) σ) H) (hPm : va_P D clX (wd SM adm dA obM μ) H) (hS : va_S A H0 H locs) (hl : lv_has ls 4 [(3, .int (nI i)), (2, .ref (adm 0)), (1, .ref (adc 0)), (0, .ref b)])
    (kk : ∀ (bb' : Nat) (σ' μ' : Sg) (H1 : Heap) (locs1 : List Loc), Sim nw bb' (B + 64) σ' μ' → va_P D clX (wd (SC nw) adc dA (obC nw) σ') H1 → va_P D clX (wd SM adm dA obM μ') H1 → va_S A H0 H1 locs1 → W p l e room_1 s m args below meth c H1 locs1 139 1059 Q (F0 m 628 ls [])) : W p l e room_1 s m args below meth c H locs 139 1059 Q (F0 m 477 ls []) := by
  have hWf := h.1
  have hWM := h.2.2.1
  have hdp := del_pre h hn4
  have htm : gN σ 4 0 ≤ B := by
    obtain ⟨h1, h2, h3, ⟨fs, qs, hs, rs, r⟩, h5⟩ := h
    rw [r.tm]
    exact h3.tm
  refine lv_aload_n hx hb d_Law_law_477 rfl (lv_at hl 2 rfl) ?_
  refine lv_aload_n hx hb d_Law_law_478 rfl (lv_at hl 3 rfl) ?_
  refine lv_iload_n hx hb d_Law_law_479 rfl (lv_at hl 0 rfl) ?_
  refine lv_iconst (v := nI 1) hx hb d_Law_law_480 (by decide) ?_
  refine lv_iadd hx hb d_Law_law_481 ?_
  rw [nI_add]
  refine va_sld hx hb hX hbl hbA hS (vp_in_nI (by omega) (by omega)) d_Law_law_482 ?_
  rw [nI_clamp (by omega)]
  refine lw_call (x_rV (S := SC nw) (ad := adc) (ob := obC nw) (σ := σ) (o := 0) (As := [.int (xs (i + 1))]) (rest := []) hx hb hml hown ht gW cs_Law_80 (c_LB_content l D dA adc nw hJc hn4 σ (xs (i + 1)) hWf) rfl rfl (by decide) xc_LB hN hK hPc (mo (by decide)) rfl rfl hl.1 rfl (Nat.le_of_ble_eq_true rfl) d_Law_law_483 (by decide)) hS hAc hdis hPm (fun H locs hPc hPm hS => ?_)
  refine lv_aload_n hx hb d_Law_law_486 rfl (lv_at hl 1 rfl) ?_
  refine lv_aload_n hx hb d_Law_law_487 rfl (lv_at hl 3 rfl) ?_
  refine lv_iload_n hx hb d_Law_law_488 rfl (lv_at hl 0 rfl) ?_
  refine lv_iconst (v := nI 1) hx hb d_Law_law_489 (by decide) ?_
  refine lv_iadd hx hb d_Law_law_490 ?_
  rw [nI_add]
  refine va_sld hx hb hX hbl hbA hS (vp_in_nI (by omega) (by omega)) d_Law_law_491 ?_
  rw [nI_clamp (by omega)]
  refine lw_call (x_rV (S := SM) (ad := adm) (ob := obM) (σ := μ) (o := 0) (As := [.int (xs (i + 1))]) (rest := [.int _]) hx hb hml hown ht gW cs_Law_83 (c_Md_content l D dA adm hJm μ (xs (i + 1)) B hWM) rfl rfl (by decide) xc_Md hN hK hPm (moM (by decide)) rfl rfl hl.1 rfl (Nat.le_of_ble_eq_true rfl) d_Law_law_492 (by decide)) hS hAm (fun o o2 g1 g2 g3 => hdis o2 o g2 g1 g3.symm) hPc (fun H locs hPm hPc hS => ?_)
  refine lv_icmp_eq (tgt := 628) hx hb d_Law_law_495 (by decide) (fun _ => ?_) (fun hne => absurd (q_content h (xs (i + 1))) hne)
  exact kk bb _ _ H locs (h.mono (by omega)) hPc hPm hS
set_option maxHeartbeats 4000000 in
set_option maxRecDepth 100000 in
theorem lwt_14 {p : Program} {l : Launch} {e : Env} {s : State} {m : MethodId} {args : Array Value} {below : List Frame} {meth : Method} {c : Code} {H H0 : Heap} {locs : List Loc} {Q : State → Prop} {ls : Array Slot} {D : va_G} {dA : Nat → ClassId} {A : Nat → Prop} {adc adm : Nat → Nat} {nw bb B b L i : Nat} {xs : Nat → Int32} {σ μ : Sg} (hx : p.tables.exec = Jvm.exec) (hb : c.code = b_Law_law) (hml : c.maxLocals = 4) (hown : s.vm.findClass "LeasedBuildsLaw" = some m.cls) (ht : ∀ w ∈ WS, w.before args s = true) (hN : nst NL s) (hK : va_K D clX (tyX dA) s) (hJc : Inj adc (obC nw)) (hJm : Inj adm obM) (hn4 : nw ≤ 4) (hAc : ∀ o, o ∈ obC nw → A (adc o)) (hAm : ∀ o, o ∈ obM → A (adm o)) (hdis : ∀ o o2, o ∈ obC nw → o2 ∈ obM → adc o ≠ adm o2) (hX : va_X b L xs s H0) (hbl : b < H0.size) (hbA : ¬ A b) (hL : L ≤ 2562) (hi : i + 5 ≤ L) (h : Sim nw bb B σ μ) (hB : B + 64 < 2 ^ 28) (hPc : va_P D clX (wd (SC nw) adc dA (obC nw) σ) H) (hPm : va_P D clX (wd SM adm dA obM μ) H) (hS : va_S A H0 H locs) (hl : lv_has ls 4 [(3, .int (nI i)), (2, .ref (adm 0)), (1, .ref (adc 0)), (0, .ref b)])
    (kk : ∀ (bb' : Nat) (σ' μ' : Sg) (H1 : Heap) (locs1 : List Loc), Sim nw bb' (B + 64) σ' μ' → va_P D clX (wd (SC nw) adc dA (obC nw) σ') H1 → va_P D clX (wd SM adm dA obM μ') H1 → va_S A H0 H1 locs1 → W p l e room_1 s m args below meth c H1 locs1 139 1059 Q (F0 m 628 ls [])) : W p l e room_1 s m args below meth c H locs 139 1059 Q (F0 m 500 ls []) := by
  have hWf := h.1
  have hWM := h.2.2.1
  have hdp := del_pre h hn4
  have htm : gN σ 4 0 ≤ B := by
    obtain ⟨h1, h2, h3, ⟨fs, qs, hs, rs, r⟩, h5⟩ := h
    rw [r.tm]
    exact h3.tm
  refine lv_aload_n hx hb d_Law_law_500 rfl (lv_at hl 2 rfl) ?_
  refine lv_aload_n hx hb d_Law_law_501 rfl (lv_at hl 3 rfl) ?_
  refine lv_iload_n hx hb d_Law_law_502 rfl (lv_at hl 0 rfl) ?_
  refine lv_iconst (v := nI 1) hx hb d_Law_law_503 (by decide) ?_
  refine lv_iadd hx hb d_Law_law_504 ?_
  rw [nI_add]
  refine va_sld hx hb hX hbl hbA hS (vp_in_nI (by omega) (by omega)) d_Law_law_505 ?_
  rw [nI_clamp (by omega)]
  refine lw_call (x_rV (S := SC nw) (ad := adc) (ob := obC nw) (σ := σ) (o := 0) (As := [.int (xs (i + 1))]) (rest := []) hx hb hml hown ht gW cs_Law_84 (c_LB_digest l D dA adc nw hJc hn4 σ (xs (i + 1)) ) rfl rfl (by decide) xc_LB hN hK hPc (mo (by decide)) rfl rfl hl.1 rfl (Nat.le_of_ble_eq_true rfl) d_Law_law_506 (by decide)) hS hAc hdis hPm (fun H locs hPc hPm hS => ?_)
  refine lv_aload_n hx hb d_Law_law_509 rfl (lv_at hl 1 rfl) ?_
  refine lv_aload_n hx hb d_Law_law_510 rfl (lv_at hl 3 rfl) ?_
  refine lv_iload_n hx hb d_Law_law_511 rfl (lv_at hl 0 rfl) ?_
  refine lv_iconst (v := nI 1) hx hb d_Law_law_512 (by decide) ?_
  refine lv_iadd hx hb d_Law_law_513 ?_
  rw [nI_add]
  refine va_sld hx hb hX hbl hbA hS (vp_in_nI (by omega) (by omega)) d_Law_law_514 ?_
  rw [nI_clamp (by omega)]
  refine lw_call (x_rV (S := SM) (ad := adm) (ob := obM) (σ := μ) (o := 0) (As := [.int (xs (i + 1))]) (rest := [.int _]) hx hb hml hown ht gW cs_Law_87 (c_Md_digest l D dA adm hJm μ (xs (i + 1)) ) rfl rfl (by decide) xc_Md hN hK hPm (moM (by decide)) rfl rfl hl.1 rfl (Nat.le_of_ble_eq_true rfl) d_Law_law_515 (by decide)) hS hAm (fun o o2 g1 g2 g3 => hdis o2 o g2 g1 g3.symm) hPc (fun H locs hPm hPc hS => ?_)
  refine lv_icmp_eq (tgt := 628) hx hb d_Law_law_518 (by decide) (fun _ => ?_) (fun hne => absurd (rfl) hne)
  exact kk bb _ _ H locs (h.mono (by omega)) hPc hPm hS
set_option maxHeartbeats 4000000 in
set_option maxRecDepth 100000 in
theorem lwt_15 {p : Program} {l : Launch} {e : Env} {s : State} {m : MethodId} {args : Array Value} {below : List Frame} {meth : Method} {c : Code} {H H0 : Heap} {locs : List Loc} {Q : State → Prop} {ls : Array Slot} {D : va_G} {dA : Nat → ClassId} {A : Nat → Prop} {adc adm : Nat → Nat} {nw bb B b L i : Nat} {xs : Nat → Int32} {σ μ : Sg} (hx : p.tables.exec = Jvm.exec) (hb : c.code = b_Law_law) (hml : c.maxLocals = 4) (hown : s.vm.findClass "LeasedBuildsLaw" = some m.cls) (ht : ∀ w ∈ WS, w.before args s = true) (hN : nst NL s) (hK : va_K D clX (tyX dA) s) (hJc : Inj adc (obC nw)) (hJm : Inj adm obM) (hn4 : nw ≤ 4) (hAc : ∀ o, o ∈ obC nw → A (adc o)) (hAm : ∀ o, o ∈ obM → A (adm o)) (hdis : ∀ o o2, o ∈ obC nw → o2 ∈ obM → adc o ≠ adm o2) (hX : va_X b L xs s H0) (hbl : b < H0.size) (hbA : ¬ A b) (hL : L ≤ 2562) (hi : i + 5 ≤ L) (h : Sim nw bb B σ μ) (hB : B + 64 < 2 ^ 28) (hPc : va_P D clX (wd (SC nw) adc dA (obC nw) σ) H) (hPm : va_P D clX (wd SM adm dA obM μ) H) (hS : va_S A H0 H locs) (hl : lv_has ls 4 [(3, .int (nI i)), (2, .ref (adm 0)), (1, .ref (adc 0)), (0, .ref b)])
    (kk : ∀ (bb' : Nat) (σ' μ' : Sg) (H1 : Heap) (locs1 : List Loc), Sim nw bb' (B + 64) σ' μ' → va_P D clX (wd (SC nw) adc dA (obC nw) σ') H1 → va_P D clX (wd SM adm dA obM μ') H1 → va_S A H0 H1 locs1 → W p l e room_1 s m args below meth c H1 locs1 139 1059 Q (F0 m 628 ls [])) : W p l e room_1 s m args below meth c H locs 139 1059 Q (F0 m 523 ls []) := by
  have hWf := h.1
  have hWM := h.2.2.1
  have hdp := del_pre h hn4
  have htm : gN σ 4 0 ≤ B := by
    obtain ⟨h1, h2, h3, ⟨fs, qs, hs, rs, r⟩, h5⟩ := h
    rw [r.tm]
    exact h3.tm
  refine lv_aload_n hx hb d_Law_law_523 rfl (lv_at hl 2 rfl) ?_
  refine lv_aload_n hx hb d_Law_law_524 rfl (lv_at hl 3 rfl) ?_
  refine lv_iload_n hx hb d_Law_law_525 rfl (lv_at hl 0 rfl) ?_
  refine lv_iconst (v := nI 1) hx hb d_Law_law_526 (by decide) ?_
  refine lv_iadd hx hb d_Law_law_527 ?_
  rw [nI_add]
  refine va_sld hx hb hX hbl hbA hS (vp_in_nI (by omega) (by omega)) d_Law_law_528 ?_
  rw [nI_clamp (by omega)]
  refine lw_call (x_rV (S := SC nw) (ad := adc) (ob := obC nw) (σ := σ) (o := 0) (As := [.int (xs (i + 1))]) (rest := []) hx hb hml hown ht gW cs_Law_88 (c_LB_stored l D dA adc nw hJc hn4 σ (xs (i + 1)) hWf) rfl rfl (by decide) xc_LB hN hK hPc (mo (by decide)) rfl rfl hl.1 rfl (Nat.le_of_ble_eq_true rfl) d_Law_law_529 (by decide)) hS hAc hdis hPm (fun H locs hPc hPm hS => ?_)
  refine lv_aload_n hx hb d_Law_law_532 rfl (lv_at hl 1 rfl) ?_
  refine lv_aload_n hx hb d_Law_law_533 rfl (lv_at hl 3 rfl) ?_
  refine lv_iload_n hx hb d_Law_law_534 rfl (lv_at hl 0 rfl) ?_
  refine lv_iconst (v := nI 1) hx hb d_Law_law_535 (by decide) ?_
  refine lv_iadd hx hb d_Law_law_536 ?_
  rw [nI_add]
  refine va_sld hx hb hX hbl hbA hS (vp_in_nI (by omega) (by omega)) d_Law_law_537 ?_
  rw [nI_clamp (by omega)]
  refine lw_call (x_rV (S := SM) (ad := adm) (ob := obM) (σ := μ) (o := 0) (As := [.int (xs (i + 1))]) (rest := [.int _]) hx hb hml hown ht gW cs_Law_91 (c_Md_stored l D dA adm hJm μ (xs (i + 1)) B hWM) rfl rfl (by decide) xc_Md hN hK hPm (moM (by decide)) rfl rfl hl.1 rfl (Nat.le_of_ble_eq_true rfl) d_Law_law_538 (by decide)) hS hAm (fun o o2 g1 g2 g3 => hdis o2 o g2 g1 g3.symm) hPc (fun H locs hPm hPc hS => ?_)
  refine lv_icmp_eq (tgt := 628) hx hb d_Law_law_541 (by decide) (fun _ => ?_) (fun hne => absurd (congrArg bI (q_stored h (xs (i + 1)))) hne)
  exact kk bb _ _ H locs (h.mono (by omega)) hPc hPm hS
set_option maxHeartbeats 4000000 in
set_option maxRecDepth 100000 in
theorem lwt_16 {p : Program} {l : Launch} {e : Env} {s : State} {m : MethodId} {args : Array Value} {below : List Frame} {meth : Method} {c : Code} {H H0 : Heap} {locs : List Loc} {Q : State → Prop} {ls : Array Slot} {D : va_G} {dA : Nat → ClassId} {A : Nat → Prop} {adc adm : Nat → Nat} {nw bb B b L i : Nat} {xs : Nat → Int32} {σ μ : Sg} (hx : p.tables.exec = Jvm.exec) (hb : c.code = b_Law_law) (hml : c.maxLocals = 4) (hown : s.vm.findClass "LeasedBuildsLaw" = some m.cls) (ht : ∀ w ∈ WS, w.before args s = true) (hN : nst NL s) (hK : va_K D clX (tyX dA) s) (hJc : Inj adc (obC nw)) (hJm : Inj adm obM) (hn4 : nw ≤ 4) (hAc : ∀ o, o ∈ obC nw → A (adc o)) (hAm : ∀ o, o ∈ obM → A (adm o)) (hdis : ∀ o o2, o ∈ obC nw → o2 ∈ obM → adc o ≠ adm o2) (hX : va_X b L xs s H0) (hbl : b < H0.size) (hbA : ¬ A b) (hL : L ≤ 2562) (hi : i + 5 ≤ L) (h : Sim nw bb B σ μ) (hB : B + 64 < 2 ^ 28) (hPc : va_P D clX (wd (SC nw) adc dA (obC nw) σ) H) (hPm : va_P D clX (wd SM adm dA obM μ) H) (hS : va_S A H0 H locs) (hl : lv_has ls 4 [(3, .int (nI i)), (2, .ref (adm 0)), (1, .ref (adc 0)), (0, .ref b)])
    (kk : ∀ (bb' : Nat) (σ' μ' : Sg) (H1 : Heap) (locs1 : List Loc), Sim nw bb' (B + 64) σ' μ' → va_P D clX (wd (SC nw) adc dA (obC nw) σ') H1 → va_P D clX (wd SM adm dA obM μ') H1 → va_S A H0 H1 locs1 → W p l e room_1 s m args below meth c H1 locs1 139 1059 Q (F0 m 628 ls [])) : W p l e room_1 s m args below meth c H locs 139 1059 Q (F0 m 546 ls []) := by
  have hWf := h.1
  have hWM := h.2.2.1
  have hdp := del_pre h hn4
  have htm : gN σ 4 0 ≤ B := by
    obtain ⟨h1, h2, h3, ⟨fs, qs, hs, rs, r⟩, h5⟩ := h
    rw [r.tm]
    exact h3.tm
  refine lv_aload_n hx hb d_Law_law_546 rfl (lv_at hl 2 rfl) ?_
  refine lw_call (x_rV (S := SC nw) (ad := adc) (ob := obC nw) (σ := σ) (o := 0) (As := []) (rest := []) hx hb hml hown ht gW cs_Law_92 (c_LB_waiting l D dA adc nw hJc hn4 σ  ) rfl rfl (by decide) xc_LB hN hK hPc (mo (by decide)) rfl rfl hl.1 rfl (Nat.le_of_ble_eq_true rfl) d_Law_law_547 (by decide)) hS hAc hdis hPm (fun H locs hPc hPm hS => ?_)
  refine lv_aload_n hx hb d_Law_law_550 rfl (lv_at hl 1 rfl) ?_
  refine lw_call (x_rV (S := SM) (ad := adm) (ob := obM) (σ := μ) (o := 0) (As := []) (rest := [.int _]) hx hb hml hown ht gW cs_Law_95 (c_Md_waiting l D dA adm hJm μ  B hWM (by omega)) rfl rfl (by decide) xc_Md hN hK hPm (moM (by decide)) rfl rfl hl.1 rfl (Nat.le_of_ble_eq_true rfl) d_Law_law_551 (by decide)) hS hAm (fun o o2 g1 g2 g3 => hdis o2 o g2 g1 g3.symm) hPc (fun H locs hPm hPc hS => ?_)
  refine lv_icmp_eq (tgt := 628) hx hb d_Law_law_554 (by decide) (fun _ => ?_) (fun hne => absurd (congrArg nI (q_waiting h)) hne)
  exact kk bb _ _ H locs (h.mono (by omega)) hPc hPm hS
set_option maxHeartbeats 4000000 in
set_option maxRecDepth 100000 in
theorem lwt_17 {p : Program} {l : Launch} {e : Env} {s : State} {m : MethodId} {args : Array Value} {below : List Frame} {meth : Method} {c : Code} {H H0 : Heap} {locs : List Loc} {Q : State → Prop} {ls : Array Slot} {D : va_G} {dA : Nat → ClassId} {A : Nat → Prop} {adc adm : Nat → Nat} {nw bb B b L i : Nat} {xs : Nat → Int32} {σ μ : Sg} (hx : p.tables.exec = Jvm.exec) (hb : c.code = b_Law_law) (hml : c.maxLocals = 4) (hown : s.vm.findClass "LeasedBuildsLaw" = some m.cls) (ht : ∀ w ∈ WS, w.before args s = true) (hN : nst NL s) (hK : va_K D clX (tyX dA) s) (hJc : Inj adc (obC nw)) (hJm : Inj adm obM) (hn4 : nw ≤ 4) (hAc : ∀ o, o ∈ obC nw → A (adc o)) (hAm : ∀ o, o ∈ obM → A (adm o)) (hdis : ∀ o o2, o ∈ obC nw → o2 ∈ obM → adc o ≠ adm o2) (hX : va_X b L xs s H0) (hbl : b < H0.size) (hbA : ¬ A b) (hL : L ≤ 2562) (hi : i + 5 ≤ L) (h : Sim nw bb B σ μ) (hB : B + 64 < 2 ^ 28) (hPc : va_P D clX (wd (SC nw) adc dA (obC nw) σ) H) (hPm : va_P D clX (wd SM adm dA obM μ) H) (hS : va_S A H0 H locs) (hl : lv_has ls 4 [(3, .int (nI i)), (2, .ref (adm 0)), (1, .ref (adc 0)), (0, .ref b)])
    (kk : ∀ (bb' : Nat) (σ' μ' : Sg) (H1 : Heap) (locs1 : List Loc), Sim nw bb' (B + 64) σ' μ' → va_P D clX (wd (SC nw) adc dA (obC nw) σ') H1 → va_P D clX (wd SM adm dA obM μ') H1 → va_S A H0 H1 locs1 → W p l e room_1 s m args below meth c H1 locs1 139 1059 Q (F0 m 628 ls [])) : W p l e room_1 s m args below meth c H locs 139 1059 Q (F0 m 559 ls []) := by
  have hWf := h.1
  have hWM := h.2.2.1
  have hdp := del_pre h hn4
  have htm : gN σ 4 0 ≤ B := by
    obtain ⟨h1, h2, h3, ⟨fs, qs, hs, rs, r⟩, h5⟩ := h
    rw [r.tm]
    exact h3.tm
  refine lv_aload_n hx hb d_Law_law_559 rfl (lv_at hl 2 rfl) ?_
  refine lv_aload_n hx hb d_Law_law_560 rfl (lv_at hl 3 rfl) ?_
  refine lv_iload_n hx hb d_Law_law_561 rfl (lv_at hl 0 rfl) ?_
  refine lv_iconst (v := nI 1) hx hb d_Law_law_562 (by decide) ?_
  refine lv_iadd hx hb d_Law_law_563 ?_
  rw [nI_add]
  refine va_sld hx hb hX hbl hbA hS (vp_in_nI (by omega) (by omega)) d_Law_law_564 ?_
  rw [nI_clamp (by omega)]
  refine lw_call (x_rV (S := SC nw) (ad := adc) (ob := obC nw) (σ := σ) (o := 0) (As := [.int (xs (i + 1))]) (rest := []) hx hb hml hown ht gW cs_Law_96 (c_LB_lease l D dA adc nw hJc hn4 σ (xs (i + 1)) ) rfl rfl (by decide) xc_LB hN hK hPc (mo (by decide)) rfl rfl hl.1 rfl (Nat.le_of_ble_eq_true rfl) d_Law_law_565 (by decide)) hS hAc hdis hPm (fun H locs hPc hPm hS => ?_)
  refine lv_aload_n hx hb d_Law_law_568 rfl (lv_at hl 1 rfl) ?_
  refine lv_aload_n hx hb d_Law_law_569 rfl (lv_at hl 3 rfl) ?_
  refine lv_iload_n hx hb d_Law_law_570 rfl (lv_at hl 0 rfl) ?_
  refine lv_iconst (v := nI 1) hx hb d_Law_law_571 (by decide) ?_
  refine lv_iadd hx hb d_Law_law_572 ?_
  rw [nI_add]
  refine va_sld hx hb hX hbl hbA hS (vp_in_nI (by omega) (by omega)) d_Law_law_573 ?_
  rw [nI_clamp (by omega)]
  refine lw_call (x_rV (S := SM) (ad := adm) (ob := obM) (σ := μ) (o := 0) (As := [.int (xs (i + 1))]) (rest := [.int _]) hx hb hml hown ht gW cs_Law_99 (c_Md_lease l D dA adm hJm μ (xs (i + 1)) B hWM) rfl rfl (by decide) xc_Md hN hK hPm (moM (by decide)) rfl rfl hl.1 rfl (Nat.le_of_ble_eq_true rfl) d_Law_law_574 (by decide)) hS hAm (fun o o2 g1 g2 g3 => hdis o2 o g2 g1 g3.symm) hPc (fun H locs hPm hPc hS => ?_)
  refine lv_icmp_eq (tgt := 628) hx hb d_Law_law_577 (by decide) (fun _ => ?_) (fun hne => absurd (q_lease h hn4 (xs (i + 1))) hne)
  exact kk bb _ _ H locs (h.mono (by omega)) hPc hPm hS
set_option maxHeartbeats 4000000 in
set_option maxRecDepth 100000 in
theorem lwt_18 {p : Program} {l : Launch} {e : Env} {s : State} {m : MethodId} {args : Array Value} {below : List Frame} {meth : Method} {c : Code} {H H0 : Heap} {locs : List Loc} {Q : State → Prop} {ls : Array Slot} {D : va_G} {dA : Nat → ClassId} {A : Nat → Prop} {adc adm : Nat → Nat} {nw bb B b L i : Nat} {xs : Nat → Int32} {σ μ : Sg} (hx : p.tables.exec = Jvm.exec) (hb : c.code = b_Law_law) (hml : c.maxLocals = 4) (hown : s.vm.findClass "LeasedBuildsLaw" = some m.cls) (ht : ∀ w ∈ WS, w.before args s = true) (hN : nst NL s) (hK : va_K D clX (tyX dA) s) (hJc : Inj adc (obC nw)) (hJm : Inj adm obM) (hn4 : nw ≤ 4) (hAc : ∀ o, o ∈ obC nw → A (adc o)) (hAm : ∀ o, o ∈ obM → A (adm o)) (hdis : ∀ o o2, o ∈ obC nw → o2 ∈ obM → adc o ≠ adm o2) (hX : va_X b L xs s H0) (hbl : b < H0.size) (hbA : ¬ A b) (hL : L ≤ 2562) (hi : i + 5 ≤ L) (h : Sim nw bb B σ μ) (hB : B + 64 < 2 ^ 28) (hPc : va_P D clX (wd (SC nw) adc dA (obC nw) σ) H) (hPm : va_P D clX (wd SM adm dA obM μ) H) (hS : va_S A H0 H locs) (hl : lv_has ls 4 [(3, .int (nI i)), (2, .ref (adm 0)), (1, .ref (adc 0)), (0, .ref b)])
    (kk : ∀ (bb' : Nat) (σ' μ' : Sg) (H1 : Heap) (locs1 : List Loc), Sim nw bb' (B + 64) σ' μ' → va_P D clX (wd (SC nw) adc dA (obC nw) σ') H1 → va_P D clX (wd SM adm dA obM μ') H1 → va_S A H0 H1 locs1 → W p l e room_1 s m args below meth c H1 locs1 139 1059 Q (F0 m 628 ls [])) : W p l e room_1 s m args below meth c H locs 139 1059 Q (F0 m 582 ls []) := by
  have hWf := h.1
  have hWM := h.2.2.1
  have hdp := del_pre h hn4
  have htm : gN σ 4 0 ≤ B := by
    obtain ⟨h1, h2, h3, ⟨fs, qs, hs, rs, r⟩, h5⟩ := h
    rw [r.tm]
    exact h3.tm
  refine lv_aload_n hx hb d_Law_law_582 rfl (lv_at hl 2 rfl) ?_
  refine lv_aload_n hx hb d_Law_law_583 rfl (lv_at hl 3 rfl) ?_
  refine lv_iload_n hx hb d_Law_law_584 rfl (lv_at hl 0 rfl) ?_
  refine lv_iconst (v := nI 1) hx hb d_Law_law_585 (by decide) ?_
  refine lv_iadd hx hb d_Law_law_586 ?_
  rw [nI_add]
  refine va_sld hx hb hX hbl hbA hS (vp_in_nI (by omega) (by omega)) d_Law_law_587 ?_
  rw [nI_clamp (by omega)]
  refine lw_call (x_rV (S := SC nw) (ad := adc) (ob := obC nw) (σ := σ) (o := 0) (As := [.int (xs (i + 1))]) (rest := []) hx hb hml hown ht gW cs_Law_100 (c_LB_doing l D dA adc nw hJc hn4 σ (xs (i + 1)) ) rfl rfl (by decide) xc_LB hN hK hPc (mo (by decide)) rfl rfl hl.1 rfl (Nat.le_of_ble_eq_true rfl) d_Law_law_588 (by decide)) hS hAc hdis hPm (fun H locs hPc hPm hS => ?_)
  refine lv_aload_n hx hb d_Law_law_591 rfl (lv_at hl 1 rfl) ?_
  refine lv_aload_n hx hb d_Law_law_592 rfl (lv_at hl 3 rfl) ?_
  refine lv_iload_n hx hb d_Law_law_593 rfl (lv_at hl 0 rfl) ?_
  refine lv_iconst (v := nI 1) hx hb d_Law_law_594 (by decide) ?_
  refine lv_iadd hx hb d_Law_law_595 ?_
  rw [nI_add]
  refine va_sld hx hb hX hbl hbA hS (vp_in_nI (by omega) (by omega)) d_Law_law_596 ?_
  rw [nI_clamp (by omega)]
  refine lw_call (x_rV (S := SM) (ad := adm) (ob := obM) (σ := μ) (o := 0) (As := [.int (xs (i + 1))]) (rest := [.int _]) hx hb hml hown ht gW cs_Law_103 (c_Md_doing l D dA adm hJm μ (xs (i + 1)) B hWM (by omega)) rfl rfl (by decide) xc_Md hN hK hPm (moM (by decide)) rfl rfl hl.1 rfl (Nat.le_of_ble_eq_true rfl) d_Law_law_597 (by decide)) hS hAm (fun o o2 g1 g2 g3 => hdis o2 o g2 g1 g3.symm) hPc (fun H locs hPm hPc hS => ?_)
  refine lv_icmp_eq (tgt := 628) hx hb d_Law_law_600 (by decide) (fun _ => ?_) (fun hne => absurd (q_doing h hn4 (xs (i + 1))) hne)
  exact kk bb _ _ H locs (h.mono (by omega)) hPc hPm hS
set_option maxHeartbeats 4000000 in
set_option maxRecDepth 100000 in
theorem lwt_19 {p : Program} {l : Launch} {e : Env} {s : State} {m : MethodId} {args : Array Value} {below : List Frame} {meth : Method} {c : Code} {H H0 : Heap} {locs : List Loc} {Q : State → Prop} {ls : Array Slot} {D : va_G} {dA : Nat → ClassId} {A : Nat → Prop} {adc adm : Nat → Nat} {nw bb B b L i : Nat} {xs : Nat → Int32} {σ μ : Sg} (hx : p.tables.exec = Jvm.exec) (hb : c.code = b_Law_law) (hml : c.maxLocals = 4) (hown : s.vm.findClass "LeasedBuildsLaw" = some m.cls) (ht : ∀ w ∈ WS, w.before args s = true) (hN : nst NL s) (hK : va_K D clX (tyX dA) s) (hJc : Inj adc (obC nw)) (hJm : Inj adm obM) (hn4 : nw ≤ 4) (hAc : ∀ o, o ∈ obC nw → A (adc o)) (hAm : ∀ o, o ∈ obM → A (adm o)) (hdis : ∀ o o2, o ∈ obC nw → o2 ∈ obM → adc o ≠ adm o2) (hX : va_X b L xs s H0) (hbl : b < H0.size) (hbA : ¬ A b) (hL : L ≤ 2562) (hi : i + 5 ≤ L) (h : Sim nw bb B σ μ) (hB : B + 64 < 2 ^ 28) (hPc : va_P D clX (wd (SC nw) adc dA (obC nw) σ) H) (hPm : va_P D clX (wd SM adm dA obM μ) H) (hS : va_S A H0 H locs) (hl : lv_has ls 4 [(3, .int (nI i)), (2, .ref (adm 0)), (1, .ref (adc 0)), (0, .ref b)])
    (kk : ∀ (bb' : Nat) (σ' μ' : Sg) (H1 : Heap) (locs1 : List Loc), Sim nw bb' (B + 64) σ' μ' → va_P D clX (wd (SC nw) adc dA (obC nw) σ') H1 → va_P D clX (wd SM adm dA obM μ') H1 → va_S A H0 H1 locs1 → W p l e room_1 s m args below meth c H1 locs1 139 1059 Q (F0 m 628 ls [])) : W p l e room_1 s m args below meth c H locs 139 1059 Q (F0 m 605 ls []) := by
  have hWf := h.1
  have hWM := h.2.2.1
  have hdp := del_pre h hn4
  have htm : gN σ 4 0 ≤ B := by
    obtain ⟨h1, h2, h3, ⟨fs, qs, hs, rs, r⟩, h5⟩ := h
    rw [r.tm]
    exact h3.tm
  refine lv_aload_n hx hb d_Law_law_605 rfl (lv_at hl 2 rfl) ?_
  refine lv_aload_n hx hb d_Law_law_606 rfl (lv_at hl 3 rfl) ?_
  refine lv_iload_n hx hb d_Law_law_607 rfl (lv_at hl 0 rfl) ?_
  refine lv_iconst (v := nI 1) hx hb d_Law_law_608 (by decide) ?_
  refine lv_iadd hx hb d_Law_law_609 ?_
  rw [nI_add]
  refine va_sld hx hb hX hbl hbA hS (vp_in_nI (by omega) (by omega)) d_Law_law_610 ?_
  rw [nI_clamp (by omega)]
  refine lw_call (x_rV (S := SC nw) (ad := adc) (ob := obC nw) (σ := σ) (o := 0) (As := [.int (xs (i + 1))]) (rest := []) hx hb hml hown ht gW cs_Law_104 (c_LB_count l D dA adc nw hJc hn4 σ (xs (i + 1)) hWf) rfl rfl (by decide) xc_LB hN hK hPc (mo (by decide)) rfl rfl hl.1 rfl (Nat.le_of_ble_eq_true rfl) d_Law_law_611 (by decide)) hS hAc hdis hPm (fun H locs hPc hPm hS => ?_)
  refine lv_aload_n hx hb d_Law_law_614 rfl (lv_at hl 1 rfl) ?_
  refine lv_aload_n hx hb d_Law_law_615 rfl (lv_at hl 3 rfl) ?_
  refine lv_iload_n hx hb d_Law_law_616 rfl (lv_at hl 0 rfl) ?_
  refine lv_iconst (v := nI 1) hx hb d_Law_law_617 (by decide) ?_
  refine lv_iadd hx hb d_Law_law_618 ?_
  rw [nI_add]
  refine va_sld hx hb hX hbl hbA hS (vp_in_nI (by omega) (by omega)) d_Law_law_619 ?_
  rw [nI_clamp (by omega)]
  refine lw_call (x_rV (S := SM) (ad := adm) (ob := obM) (σ := μ) (o := 0) (As := [.int (xs (i + 1))]) (rest := [.int _]) hx hb hml hown ht gW cs_Law_107 (c_Md_count l D dA adm hJm μ (xs (i + 1)) B hWM) rfl rfl (by decide) xc_Md hN hK hPm (moM (by decide)) rfl rfl hl.1 rfl (Nat.le_of_ble_eq_true rfl) d_Law_law_620 (by decide)) hS hAm (fun o o2 g1 g2 g3 => hdis o2 o g2 g1 g3.symm) hPc (fun H locs hPm hPc hS => ?_)
  refine lv_icmp_eq (tgt := 628) hx hb d_Law_law_623 (by decide) (fun _ => ?_) (fun hne => absurd (q_count h (xs (i + 1))) hne)
  exact kk bb _ _ H locs (h.mono (by omega)) hPc hPm hS
