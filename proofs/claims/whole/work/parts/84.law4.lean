/-! the law: one turn, the loop -/
theorem and31 (x : Int32) : ∃ k, k < 32 ∧ x &&& nI 31 = nI k := by
  refine ⟨x.toBitVec.toNat % 32, Nat.mod_lt _ (by decide), ?_⟩
  apply Int32.toBitVec.inj
  apply BitVec.eq_of_toNat_eq
  have h1 : (x &&& nI 31).toBitVec = x.toBitVec &&& 31#32 := rfl
  have h2 : (nI (x.toBitVec.toNat % 32)).toBitVec = BitVec.ofNat 32 (x.toBitVec.toNat % 32) := rfl
  rw [h1, h2, BitVec.toNat_and]
  have h3 : (31#32).toNat = 2 ^ 5 - 1 := by decide
  rw [h3, Nat.and_two_pow_sub_one_eq_mod, BitVec.toNat_ofNat]
  have := Nat.mod_lt x.toBitVec.toNat (show 0 < 32 by decide)
  omega
set_option maxHeartbeats 4000000 in
set_option maxRecDepth 100000 in
theorem lw_turn {p : Program} {l : Launch} {e : Env} {s : State} {m : MethodId} {args : Array Value} {below : List Frame} {meth : Method} {c : Code} {H H0 : Heap} {locs : List Loc} {Q : State → Prop} {ls : Array Slot} {D : va_G} {dA : Nat → ClassId} {A : Nat → Prop} {adc adm : Nat → Nat} {nw bb B b L i : Nat} {xs : Nat → Int32} {σ μ : Sg} (hx : p.tables.exec = Jvm.exec) (hb : c.code = b_Law_law) (hml : c.maxLocals = 4) (hown : s.vm.findClass "LeasedBuildsLaw" = some m.cls) (ht : ∀ w ∈ WS, w.before args s = true) (hN : nst NL s) (hK : va_K D clX (tyX dA) s) (hJc : Inj adc (obC nw)) (hJm : Inj adm obM) (hn4 : nw ≤ 4) (hAc : ∀ o, o ∈ obC nw → A (adc o)) (hAm : ∀ o, o ∈ obM → A (adm o)) (hdis : ∀ o o2, o ∈ obC nw → o2 ∈ obM → adc o ≠ adm o2) (hX : va_X b L xs s H0) (hbl : b < H0.size) (hbA : ¬ A b) (hL : L ≤ 2562) (hi : i + 5 ≤ L) (h : Sim nw bb B σ μ) (hB : B + 64 < 2 ^ 28) (hPc : va_P D clX (wd (SC nw) adc dA (obC nw) σ) H) (hPm : va_P D clX (wd SM adm dA obM μ) H) (hS : va_S A H0 H locs) (hl : lv_has ls 4 [(3, .int (nI i)), (2, .ref (adm 0)), (1, .ref (adc 0)), (0, .ref b)])
    (kk : ∀ (bb' : Nat) (σ' μ' : Sg) (H1 : Heap) (locs1 : List Loc), Sim nw bb' (B + 64) σ' μ' → va_P D clX (wd (SC nw) adc dA (obC nw) σ') H1 → va_P D clX (wd SM adm dA obM μ') H1 → va_S A H0 H1 locs1 → W p l e room_1 s m args below meth c H1 locs1 139 1059 Q (F0 m 628 ls [])) : W p l e room_1 s m args below meth c H locs 139 1059 Q (F0 m 46 ls []) := by
  refine lv_aload_n hx hb d_Law_law_46 rfl (lv_at hl 3 rfl) ?_
  refine lv_iload_n hx hb d_Law_law_47 rfl (lv_at hl 0 rfl) ?_
  refine va_sld hx hb hX hbl hbA hS (vp_in_nI (by omega) (by omega)) d_Law_law_48 ?_
  rw [nI_clamp (by omega)]
  refine lv_bipush (v := nI 31) hx hb d_Law_law_49 (by decide) ?_
  refine lv_iand hx hb d_Law_law_51 ?_
  obtain ⟨k, hk, ek⟩ := and31 (xs i)
  rw [ek]
  by_cases h19 : k ≤ 19
  · rcases (show k = 0 ∨ k = 1 ∨ k = 2 ∨ k = 3 ∨ k = 4 ∨ k = 5 ∨ k = 6 ∨ k = 7 ∨ k = 8 ∨ k = 9 ∨ k = 10 ∨ k = 11 ∨ k = 12 ∨ k = 13 ∨ k = 14 ∨ k = 15 ∨ k = 16 ∨ k = 17 ∨ k = 18 ∨ k = 19 by omega) with rfl | rfl | rfl | rfl | rfl | rfl | rfl | rfl | rfl | rfl | rfl | rfl | rfl | rfl | rfl | rfl | rfl | rfl | rfl | rfl
    · refine lv_tableIn (tgt := 148) hx hb d_Law_law_52 (by decide) (by decide) rfl (by decide) ?_
      exact lwt_0 hx hb hml hown ht hN hK hJc hJm hn4 hAc hAm hdis hX hbl hbA hL hi h hB hPc hPm hS hl kk
    · refine lv_tableIn (tgt := 171) hx hb d_Law_law_52 (by decide) (by decide) rfl (by decide) ?_
      exact lwt_1 hx hb hml hown ht hN hK hJc hJm hn4 hAc hAm hdis hX hbl hbA hL hi h hB hPc hPm hS hl kk
    · refine lv_tableIn (tgt := 244) hx hb d_Law_law_52 (by decide) (by decide) rfl (by decide) ?_
      exact lwt_2 hx hb hml hown ht hN hK hJc hJm hn4 hAc hAm hdis hX hbl hbA hL hi h hB hPc hPm hS hl kk
    · refine lv_tableIn (tgt := 257) hx hb d_Law_law_52 (by decide) (by decide) rfl (by decide) ?_
      exact lwt_3 hx hb hml hown ht hN hK hJc hJm hn4 hAc hAm hdis hX hbl hbA hL hi h hB hPc hPm hS hl kk
    · refine lv_tableIn (tgt := 290) hx hb d_Law_law_52 (by decide) (by decide) rfl (by decide) ?_
      exact lwt_4 hx hb hml hown ht hN hK hJc hJm hn4 hAc hAm hdis hX hbl hbA hL hi h hB hPc hPm hS hl kk
    · refine lv_tableIn (tgt := 313) hx hb d_Law_law_52 (by decide) (by decide) rfl (by decide) ?_
      exact lwt_5 hx hb hml hown ht hN hK hJc hJm hn4 hAc hAm hdis hX hbl hbA hL hi h hB hPc hPm hS hl kk
    · refine lv_tableIn (tgt := 336) hx hb d_Law_law_52 (by decide) (by decide) rfl (by decide) ?_
      exact lwt_6 hx hb hml hown ht hN hK hJc hJm hn4 hAc hAm hdis hX hbl hbA hL hi h hB hPc hPm hS hl kk
    · refine lv_tableIn (tgt := 359) hx hb d_Law_law_52 (by decide) (by decide) rfl (by decide) ?_
      exact lwt_7 hx hb hml hown ht hN hK hJc hJm hn4 hAc hAm hdis hX hbl hbA hL hi h hB hPc hPm hS hl kk
    · refine lv_tableIn (tgt := 382) hx hb d_Law_law_52 (by decide) (by decide) rfl (by decide) ?_
      exact lwt_8 hx hb hml hown ht hN hK hJc hJm hn4 hAc hAm hdis hX hbl hbA hL hi h hB hPc hPm hS hl kk
    · refine lv_tableIn (tgt := 395) hx hb d_Law_law_52 (by decide) (by decide) rfl (by decide) ?_
      exact lwt_9 hx hb hml hown ht hN hK hJc hJm hn4 hAc hAm hdis hX hbl hbA hL hi h hB hPc hPm hS hl kk
    · refine lv_tableIn (tgt := 408) hx hb d_Law_law_52 (by decide) (by decide) rfl (by decide) ?_
      exact lwt_10 hx hb hml hown ht hN hK hJc hJm hn4 hAc hAm hdis hX hbl hbA hL hi h hB hPc hPm hS hl kk
    · refine lv_tableIn (tgt := 431) hx hb d_Law_law_52 (by decide) (by decide) rfl (by decide) ?_
      exact lwt_11 hx hb hml hown ht hN hK hJc hJm hn4 hAc hAm hdis hX hbl hbA hL hi h hB hPc hPm hS hl kk
    · refine lv_tableIn (tgt := 454) hx hb d_Law_law_52 (by decide) (by decide) rfl (by decide) ?_
      exact lwt_12 hx hb hml hown ht hN hK hJc hJm hn4 hAc hAm hdis hX hbl hbA hL hi h hB hPc hPm hS hl kk
    · refine lv_tableIn (tgt := 477) hx hb d_Law_law_52 (by decide) (by decide) rfl (by decide) ?_
      exact lwt_13 hx hb hml hown ht hN hK hJc hJm hn4 hAc hAm hdis hX hbl hbA hL hi h hB hPc hPm hS hl kk
    · refine lv_tableIn (tgt := 500) hx hb d_Law_law_52 (by decide) (by decide) rfl (by decide) ?_
      exact lwt_14 hx hb hml hown ht hN hK hJc hJm hn4 hAc hAm hdis hX hbl hbA hL hi h hB hPc hPm hS hl kk
    · refine lv_tableIn (tgt := 523) hx hb d_Law_law_52 (by decide) (by decide) rfl (by decide) ?_
      exact lwt_15 hx hb hml hown ht hN hK hJc hJm hn4 hAc hAm hdis hX hbl hbA hL hi h hB hPc hPm hS hl kk
    · refine lv_tableIn (tgt := 546) hx hb d_Law_law_52 (by decide) (by decide) rfl (by decide) ?_
      exact lwt_16 hx hb hml hown ht hN hK hJc hJm hn4 hAc hAm hdis hX hbl hbA hL hi h hB hPc hPm hS hl kk
    · refine lv_tableIn (tgt := 559) hx hb d_Law_law_52 (by decide) (by decide) rfl (by decide) ?_
      exact lwt_17 hx hb hml hown ht hN hK hJc hJm hn4 hAc hAm hdis hX hbl hbA hL hi h hB hPc hPm hS hl kk
    · refine lv_tableIn (tgt := 582) hx hb d_Law_law_52 (by decide) (by decide) rfl (by decide) ?_
      exact lwt_18 hx hb hml hown ht hN hK hJc hJm hn4 hAc hAm hdis hX hbl hbA hL hi h hB hPc hPm hS hl kk
    · refine lv_tableIn (tgt := 605) hx hb d_Law_law_52 (by decide) (by decide) rfl (by decide) ?_
      exact lwt_19 hx hb hml hown ht hN hK hJc hJm hn4 hAc hAm hdis hX hbl hbA hL hi h hB hPc hPm hS hl kk
  · refine lv_tableOut (tgt := 628) hx hb d_Law_law_52 (Or.inr (by rw [nI_toInt (by omega)]; omega)) (by decide) ?_
    exact kk bb σ μ H locs (h.mono (by omega)) hPc hPm hS
theorem wl_pair {A : Nat → Prop} {X Y : va_W} {ob ob2 : List Nat} {ad ad2 : Nat → Nat} (hD : va_D A (X ++ Y)) (hX : X.map Prod.fst = ob.map ad) (hY : Y.map Prod.fst = ob2.map ad2) : (∀ o, o ∈ ob → A (ad o)) ∧ (∀ o, o ∈ ob2 → A (ad2 o)) ∧ (∀ o o2, o ∈ ob → o2 ∈ ob2 → ad o ≠ ad2 o2) := by
  have fx : ∀ o, o ∈ ob → ∃ (i : Nat) (p : Nat × va_E), i < X.length ∧ (X ++ Y)[i]? = some p ∧ p.1 = ad o := fun o ho => by
    have h1 : ad o ∈ X.map Prod.fst := by rw [hX]; exact List.mem_map.mpr ⟨o, ho, rfl⟩
    obtain ⟨p, hp, e⟩ := List.mem_map.mp h1
    obtain ⟨i, hi⟩ := List.getElem?_of_mem hp
    have hlt : i < X.length := (List.getElem?_eq_some_iff.mp hi).1
    exact ⟨i, p, hlt, by rw [List.getElem?_append_left hlt]; exact hi, e⟩
  have fy : ∀ o, o ∈ ob2 → ∃ (i : Nat) (p : Nat × va_E), X.length ≤ i ∧ (X ++ Y)[i]? = some p ∧ p.1 = ad2 o := fun o ho => by
    have h1 : ad2 o ∈ Y.map Prod.fst := by rw [hY]; exact List.mem_map.mpr ⟨o, ho, rfl⟩
    obtain ⟨p, hp, e⟩ := List.mem_map.mp h1
    obtain ⟨i, hi⟩ := List.getElem?_of_mem hp
    exact ⟨X.length + i, p, by omega, by rw [List.getElem?_append_right (by omega), show X.length + i - X.length = i by omega]; exact hi, e⟩
  refine ⟨fun o ho => ?_, fun o ho => ?_, fun o o2 ho ho2 e => ?_⟩
  · obtain ⟨i, p, -, hp, e⟩ := fx o ho
    rw [← e]
    exact hD.2 i p hp
  · obtain ⟨i, p, -, hp, e⟩ := fy o ho
    rw [← e]
    exact hD.2 i p hp
  · obtain ⟨i, p, h1, hp, e1⟩ := fx o ho
    obtain ⟨j, q, h2, hq, e2⟩ := fy o2 ho2
    have := hD.1 i j p q hp hq (by rw [e1, e2, e])
    omega
theorem wl_l {D : va_G} {X Y : va_W} {H : Heap} (hP : va_P D clX (X ++ Y) H) : va_P D clX X H := fun k q hk => hP k q (by rw [List.getElem?_append_left (List.getElem?_eq_some_iff.mp hk).1]; exact hk)
theorem wl_r {D : va_G} {X Y : va_W} {H : Heap} (hP : va_P D clX (X ++ Y) H) : va_P D clX Y H := fun k q hk => hP (X.length + k) q (by rw [List.getElem?_append_right (by omega), show X.length + k - X.length = k by omega]; exact hk)
theorem wl_D {A : Nat → Prop} {X Y : va_W} (hD : va_D A (X ++ Y)) : va_D A X := ⟨fun i j p q hi hj e => hD.1 i j p q (by rw [List.getElem?_append_left (List.getElem?_eq_some_iff.mp hi).1]; exact hi) (by rw [List.getElem?_append_left (List.getElem?_eq_some_iff.mp hj).1]; exact hj) e, fun k q hk => hD.2 k q (by rw [List.getElem?_append_left (List.getElem?_eq_some_iff.mp hk).1]; exact hk)⟩
