/-! the law: each of its calls on both sides -/
set_option maxHeartbeats 4000000 in
set_option maxRecDepth 100000 in
theorem lwt_0 {p : Program} {l : Launch} {e : Env} {s : State} {m : MethodId} {args : Array Value} {below : List Frame} {meth : Method} {c : Code} {H H0 : Heap} {locs : List Loc} {Q : State → Prop} {ls : Array Slot} {D : va_G} {dA : Nat → ClassId} {A : Nat → Prop} {adc adm : Nat → Nat} {nw bb B b L i : Nat} {xs : Nat → Int32} {σ μ : Sg} (hx : p.tables.exec = Jvm.exec) (hb : c.code = b_Law_law) (hml : c.maxLocals = 4) (hown : s.vm.findClass "LeasedBuildsLaw" = some m.cls) (ht : ∀ w ∈ WS, w.before args s = true) (hN : nst NL s) (hK : va_K D clX (tyX dA) s) (hJc : Inj adc (obC nw)) (hJm : Inj adm obM) (hn4 : nw ≤ 4) (hAc : ∀ o, o ∈ obC nw → A (adc o)) (hAm : ∀ o, o ∈ obM → A (adm o)) (hdis : ∀ o o2, o ∈ obC nw → o2 ∈ obM → adc o ≠ adm o2) (hX : va_X b L xs s H0) (hbl : b < H0.size) (hbA : ¬ A b) (hL : L ≤ 2562) (hi : i + 5 ≤ L) (h : Sim nw bb B σ μ) (hB : B + 64 < 2 ^ 28) (hPc : va_P D clX (wd (SC nw) adc dA (obC nw) σ) H) (hPm : va_P D clX (wd SM adm dA obM μ) H) (hS : va_S A H0 H locs) (hl : lv_has ls 4 [(3, .int (nI i)), (2, .ref (adm 0)), (1, .ref (adc 0)), (0, .ref b)])
    (kk : ∀ (bb' : Nat) (σ' μ' : Sg) (H1 : Heap) (locs1 : List Loc), Sim nw bb' (B + 64) σ' μ' → va_P D clX (wd (SC nw) adc dA (obC nw) σ') H1 → va_P D clX (wd SM adm dA obM μ') H1 → va_S A H0 H1 locs1 → W p l e room_1 s m args below meth c H1 locs1 139 1059 Q (F0 m 628 ls [])) : W p l e room_1 s m args below meth c H locs 139 1059 Q (F0 m 148 ls []) := by
  have hWf := h.1
  have hWM := h.2.2.1
  have hdp := del_pre h hn4
  have htm : gN σ 4 0 ≤ B := by
    obtain ⟨h1, h2, h3, ⟨fs, qs, hs, rs, r⟩, h5⟩ := h
    rw [r.tm]
    exact h3.tm
  refine lv_aload_n hx hb d_Law_law_148 rfl (lv_at hl 2 rfl) ?_
  refine lv_aload_n hx hb d_Law_law_149 rfl (lv_at hl 3 rfl) ?_
  refine lv_iload_n hx hb d_Law_law_150 rfl (lv_at hl 0 rfl) ?_
  refine lv_iconst (v := nI 1) hx hb d_Law_law_151 (by decide) ?_
  refine lv_iadd hx hb d_Law_law_152 ?_
  rw [nI_add]
  refine va_sld hx hb hX hbl hbA hS (vp_in_nI (by omega) (by omega)) d_Law_law_153 ?_
  rw [nI_clamp (by omega)]
  refine lw_call (x_rV (S := SC nw) (ad := adc) (ob := obC nw) (σ := σ) (o := 0) (As := [.int (xs (i + 1))]) (rest := []) hx hb hml hown ht gW cs_Law_21 (c_LB_file l D dA adc nw hJc hn4 σ (xs (i + 1)) hWf) rfl rfl (by decide) xc_LB hN hK hPc (mo (by decide)) rfl rfl hl.1 rfl (Nat.le_of_ble_eq_true rfl) d_Law_law_154 (by decide)) hS hAc hdis hPm (fun H locs hPc hPm hS => ?_)
  refine lv_aload_n hx hb d_Law_law_157 rfl (lv_at hl 1 rfl) ?_
  refine lv_aload_n hx hb d_Law_law_158 rfl (lv_at hl 3 rfl) ?_
  refine lv_iload_n hx hb d_Law_law_159 rfl (lv_at hl 0 rfl) ?_
  refine lv_iconst (v := nI 1) hx hb d_Law_law_160 (by decide) ?_
  refine lv_iadd hx hb d_Law_law_161 ?_
  rw [nI_add]
  refine va_sld hx hb hX hbl hbA hS (vp_in_nI (by omega) (by omega)) d_Law_law_162 ?_
  rw [nI_clamp (by omega)]
  refine lw_call (x_rV (S := SM) (ad := adm) (ob := obM) (σ := μ) (o := 0) (As := [.int (xs (i + 1))]) (rest := [.int _]) hx hb hml hown ht gW cs_Law_25 (c_Md_file l D dA adm hJm μ (xs (i + 1)) B hWM) rfl rfl (by decide) xc_Md hN hK hPm (moM (by decide)) rfl rfl hl.1 rfl (Nat.le_of_ble_eq_true rfl) d_Law_law_163 (by decide)) hS hAm (fun o o2 g1 g2 g3 => hdis o2 o g2 g1 g3.symm) hPc (fun H locs hPm hPc hS => ?_)
  refine lv_icmp_eq (tgt := 628) hx hb d_Law_law_166 (by decide) (fun _ => ?_) (fun hne => absurd ((q_file h (xs (i + 1))).1) hne)
  exact kk bb _ _ H locs ((q_file h (xs (i + 1))).2.mono (by omega)) hPc hPm hS
set_option maxHeartbeats 4000000 in
set_option maxRecDepth 100000 in
theorem lwt_1 {p : Program} {l : Launch} {e : Env} {s : State} {m : MethodId} {args : Array Value} {below : List Frame} {meth : Method} {c : Code} {H H0 : Heap} {locs : List Loc} {Q : State → Prop} {ls : Array Slot} {D : va_G} {dA : Nat → ClassId} {A : Nat → Prop} {adc adm : Nat → Nat} {nw bb B b L i : Nat} {xs : Nat → Int32} {σ μ : Sg} (hx : p.tables.exec = Jvm.exec) (hb : c.code = b_Law_law) (hml : c.maxLocals = 4) (hown : s.vm.findClass "LeasedBuildsLaw" = some m.cls) (ht : ∀ w ∈ WS, w.before args s = true) (hN : nst NL s) (hK : va_K D clX (tyX dA) s) (hJc : Inj adc (obC nw)) (hJm : Inj adm obM) (hn4 : nw ≤ 4) (hAc : ∀ o, o ∈ obC nw → A (adc o)) (hAm : ∀ o, o ∈ obM → A (adm o)) (hdis : ∀ o o2, o ∈ obC nw → o2 ∈ obM → adc o ≠ adm o2) (hX : va_X b L xs s H0) (hbl : b < H0.size) (hbA : ¬ A b) (hL : L ≤ 2562) (hi : i + 5 ≤ L) (h : Sim nw bb B σ μ) (hB : B + 64 < 2 ^ 28) (hPc : va_P D clX (wd (SC nw) adc dA (obC nw) σ) H) (hPm : va_P D clX (wd SM adm dA obM μ) H) (hS : va_S A H0 H locs) (hl : lv_has ls 4 [(3, .int (nI i)), (2, .ref (adm 0)), (1, .ref (adc 0)), (0, .ref b)])
    (kk : ∀ (bb' : Nat) (σ' μ' : Sg) (H1 : Heap) (locs1 : List Loc), Sim nw bb' (B + 64) σ' μ' → va_P D clX (wd (SC nw) adc dA (obC nw) σ') H1 → va_P D clX (wd SM adm dA obM μ') H1 → va_S A H0 H1 locs1 → W p l e room_1 s m args below meth c H1 locs1 139 1059 Q (F0 m 628 ls [])) : W p l e room_1 s m args below meth c H locs 139 1059 Q (F0 m 171 ls []) := by
  have hWf := h.1
  have hWM := h.2.2.1
  have hdp := del_pre h hn4
  have htm : gN σ 4 0 ≤ B := by
    obtain ⟨h1, h2, h3, ⟨fs, qs, hs, rs, r⟩, h5⟩ := h
    rw [r.tm]
    exact h3.tm
  refine lv_aload_n hx hb d_Law_law_171 rfl (lv_at hl 2 rfl) ?_
  refine lv_aload_n hx hb d_Law_law_172 rfl (lv_at hl 3 rfl) ?_
  refine lv_iload_n hx hb d_Law_law_173 rfl (lv_at hl 0 rfl) ?_
  refine lv_iconst (v := nI 1) hx hb d_Law_law_174 (by decide) ?_
  refine lv_iadd hx hb d_Law_law_175 ?_
  rw [nI_add]
  refine va_sld hx hb hX hbl hbA hS (vp_in_nI (by omega) (by omega)) d_Law_law_176 ?_
  rw [nI_clamp (by omega)]
  refine lv_i2l (v := (xs (i + 1)).toInt64) hx hb d_Law_law_177 rfl ?_
  refine lv_bipush (v := nI 32) hx hb d_Law_law_178 (by decide) ?_
  refine lv_lshl (v := (xs (i + 1)).toInt64 <<< ((nI 32).toInt64 &&& 63)) hx hb d_Law_law_180 rfl ?_
  refine lv_aload_n hx hb d_Law_law_181 rfl (lv_at hl 3 rfl) ?_
  refine lv_iload_n hx hb d_Law_law_182 rfl (lv_at hl 0 rfl) ?_
  refine lv_iconst (v := nI 2) hx hb d_Law_law_183 (by decide) ?_
  refine lv_iadd hx hb d_Law_law_184 ?_
  rw [nI_add]
  refine va_sld hx hb hX hbl hbA hS (vp_in_nI (by omega) (by omega)) d_Law_law_185 ?_
  rw [nI_clamp (by omega)]
  refine lv_i2l (v := (xs (i + 2)).toInt64) hx hb d_Law_law_186 rfl ?_
  refine lv_ldc2 (v := 4294967295) hx hb hown (ht _ cl_Law_26) d_Law_law_187 ?_
  refine lv_land hx hb d_Law_law_190 ?_
  refine lv_lor hx hb d_Law_law_191 ?_
  refine lv_aload_n hx hb d_Law_law_192 rfl (lv_at hl 3 rfl) ?_
  refine lv_iload_n hx hb d_Law_law_193 rfl (lv_at hl 0 rfl) ?_
  refine lv_iconst (v := nI 3) hx hb d_Law_law_194 (by decide) ?_
  refine lv_iadd hx hb d_Law_law_195 ?_
  rw [nI_add]
  refine va_sld hx hb hX hbl hbA hS (vp_in_nI (by omega) (by omega)) d_Law_law_196 ?_
  rw [nI_clamp (by omega)]
  refine lv_aload_n hx hb d_Law_law_197 rfl (lv_at hl 3 rfl) ?_
  refine lv_iload_n hx hb d_Law_law_198 rfl (lv_at hl 0 rfl) ?_
  refine lv_iconst (v := nI 4) hx hb d_Law_law_199 (by decide) ?_
  refine lv_iadd hx hb d_Law_law_200 ?_
  rw [nI_add]
  refine va_sld hx hb hX hbl hbA hS (vp_in_nI (by omega) (by omega)) d_Law_law_201 ?_
  rw [nI_clamp (by omega)]
  refine lw_call (x_rV (S := SC nw) (ad := adc) (ob := obC nw) (σ := σ) (o := 0) (As := [.long ((xs (i + 1)).toInt64 <<< ((nI 32).toInt64 &&& 63) ||| (xs (i + 2)).toInt64 &&& 4294967295), .int (xs (i + 3)), .int (xs (i + 4))]) (rest := []) hx hb hml hown ht gW cs_Law_28 (c_LB_action l D dA adc nw hJc hn4 σ ((xs (i + 1)).toInt64 <<< ((nI 32).toInt64 &&& 63) ||| (xs (i + 2)).toInt64 &&& 4294967295) (xs (i + 3)) (xs (i + 4)) hWf) rfl rfl (by decide) xc_LB hN hK hPc (mo (by decide)) rfl rfl hl.1 rfl (Nat.le_of_ble_eq_true rfl) d_Law_law_202 (by decide)) hS hAc hdis hPm (fun H locs hPc hPm hS => ?_)
  refine lv_aload_n hx hb d_Law_law_205 rfl (lv_at hl 1 rfl) ?_
  refine lv_aload_n hx hb d_Law_law_206 rfl (lv_at hl 3 rfl) ?_
  refine lv_iload_n hx hb d_Law_law_207 rfl (lv_at hl 0 rfl) ?_
  refine lv_iconst (v := nI 1) hx hb d_Law_law_208 (by decide) ?_
  refine lv_iadd hx hb d_Law_law_209 ?_
  rw [nI_add]
  refine va_sld hx hb hX hbl hbA hS (vp_in_nI (by omega) (by omega)) d_Law_law_210 ?_
  rw [nI_clamp (by omega)]
  refine lv_i2l (v := (xs (i + 1)).toInt64) hx hb d_Law_law_211 rfl ?_
  refine lv_bipush (v := nI 32) hx hb d_Law_law_212 (by decide) ?_
  refine lv_lshl (v := (xs (i + 1)).toInt64 <<< ((nI 32).toInt64 &&& 63)) hx hb d_Law_law_214 rfl ?_
  refine lv_aload_n hx hb d_Law_law_215 rfl (lv_at hl 3 rfl) ?_
  refine lv_iload_n hx hb d_Law_law_216 rfl (lv_at hl 0 rfl) ?_
  refine lv_iconst (v := nI 2) hx hb d_Law_law_217 (by decide) ?_
  refine lv_iadd hx hb d_Law_law_218 ?_
  rw [nI_add]
  refine va_sld hx hb hX hbl hbA hS (vp_in_nI (by omega) (by omega)) d_Law_law_219 ?_
  rw [nI_clamp (by omega)]
  refine lv_i2l (v := (xs (i + 2)).toInt64) hx hb d_Law_law_220 rfl ?_
  refine lv_ldc2 (v := 4294967295) hx hb hown (ht _ cl_Law_26) d_Law_law_221 ?_
  refine lv_land hx hb d_Law_law_224 ?_
  refine lv_lor hx hb d_Law_law_225 ?_
  refine lv_aload_n hx hb d_Law_law_226 rfl (lv_at hl 3 rfl) ?_
  refine lv_iload_n hx hb d_Law_law_227 rfl (lv_at hl 0 rfl) ?_
  refine lv_iconst (v := nI 3) hx hb d_Law_law_228 (by decide) ?_
  refine lv_iadd hx hb d_Law_law_229 ?_
  rw [nI_add]
  refine va_sld hx hb hX hbl hbA hS (vp_in_nI (by omega) (by omega)) d_Law_law_230 ?_
  rw [nI_clamp (by omega)]
  refine lv_aload_n hx hb d_Law_law_231 rfl (lv_at hl 3 rfl) ?_
  refine lv_iload_n hx hb d_Law_law_232 rfl (lv_at hl 0 rfl) ?_
  refine lv_iconst (v := nI 4) hx hb d_Law_law_233 (by decide) ?_
  refine lv_iadd hx hb d_Law_law_234 ?_
  rw [nI_add]
  refine va_sld hx hb hX hbl hbA hS (vp_in_nI (by omega) (by omega)) d_Law_law_235 ?_
  rw [nI_clamp (by omega)]
  refine lw_call (x_rV (S := SM) (ad := adm) (ob := obM) (σ := μ) (o := 0) (As := [.long ((xs (i + 1)).toInt64 <<< ((nI 32).toInt64 &&& 63) ||| (xs (i + 2)).toInt64 &&& 4294967295), .int (xs (i + 3)), .int (xs (i + 4))]) (rest := [.int _]) hx hb hml hown ht gW cs_Law_32 (c_Md_action l D dA adm hJm μ ((xs (i + 1)).toInt64 <<< ((nI 32).toInt64 &&& 63) ||| (xs (i + 2)).toInt64 &&& 4294967295) (xs (i + 3)) (xs (i + 4)) B hWM) rfl rfl (by decide) xc_Md hN hK hPm (moM (by decide)) rfl rfl hl.1 rfl (Nat.le_of_ble_eq_true rfl) d_Law_law_236 (by decide)) hS hAm (fun o o2 g1 g2 g3 => hdis o2 o g2 g1 g3.symm) hPc (fun H locs hPm hPc hS => ?_)
  refine lv_icmp_eq (tgt := 628) hx hb d_Law_law_239 (by decide) (fun _ => ?_) (fun hne => absurd ((q_action h ((xs (i + 1)).toInt64 <<< ((nI 32).toInt64 &&& 63) ||| (xs (i + 2)).toInt64 &&& 4294967295) (xs (i + 3)) (xs (i + 4))).1) hne)
  exact kk bb _ _ H locs ((q_action h ((xs (i + 1)).toInt64 <<< ((nI 32).toInt64 &&& 63) ||| (xs (i + 2)).toInt64 &&& 4294967295) (xs (i + 3)) (xs (i + 4))).2.mono (by omega)) hPc hPm hS
set_option maxHeartbeats 4000000 in
set_option maxRecDepth 100000 in
theorem lwt_2 {p : Program} {l : Launch} {e : Env} {s : State} {m : MethodId} {args : Array Value} {below : List Frame} {meth : Method} {c : Code} {H H0 : Heap} {locs : List Loc} {Q : State → Prop} {ls : Array Slot} {D : va_G} {dA : Nat → ClassId} {A : Nat → Prop} {adc adm : Nat → Nat} {nw bb B b L i : Nat} {xs : Nat → Int32} {σ μ : Sg} (hx : p.tables.exec = Jvm.exec) (hb : c.code = b_Law_law) (hml : c.maxLocals = 4) (hown : s.vm.findClass "LeasedBuildsLaw" = some m.cls) (ht : ∀ w ∈ WS, w.before args s = true) (hN : nst NL s) (hK : va_K D clX (tyX dA) s) (hJc : Inj adc (obC nw)) (hJm : Inj adm obM) (hn4 : nw ≤ 4) (hAc : ∀ o, o ∈ obC nw → A (adc o)) (hAm : ∀ o, o ∈ obM → A (adm o)) (hdis : ∀ o o2, o ∈ obC nw → o2 ∈ obM → adc o ≠ adm o2) (hX : va_X b L xs s H0) (hbl : b < H0.size) (hbA : ¬ A b) (hL : L ≤ 2562) (hi : i + 5 ≤ L) (h : Sim nw bb B σ μ) (hB : B + 64 < 2 ^ 28) (hPc : va_P D clX (wd (SC nw) adc dA (obC nw) σ) H) (hPm : va_P D clX (wd SM adm dA obM μ) H) (hS : va_S A H0 H locs) (hl : lv_has ls 4 [(3, .int (nI i)), (2, .ref (adm 0)), (1, .ref (adc 0)), (0, .ref b)])
    (kk : ∀ (bb' : Nat) (σ' μ' : Sg) (H1 : Heap) (locs1 : List Loc), Sim nw bb' (B + 64) σ' μ' → va_P D clX (wd (SC nw) adc dA (obC nw) σ') H1 → va_P D clX (wd SM adm dA obM μ') H1 → va_S A H0 H1 locs1 → W p l e room_1 s m args below meth c H1 locs1 139 1059 Q (F0 m 628 ls [])) : W p l e room_1 s m args below meth c H locs 139 1059 Q (F0 m 244 ls []) := by
  have hWf := h.1
  have hWM := h.2.2.1
  have hdp := del_pre h hn4
  have htm : gN σ 4 0 ≤ B := by
    obtain ⟨h1, h2, h3, ⟨fs, qs, hs, rs, r⟩, h5⟩ := h
    rw [r.tm]
    exact h3.tm
  refine lv_aload_n hx hb d_Law_law_244 rfl (lv_at hl 2 rfl) ?_
  refine lw_call (x_rV (S := SC nw) (ad := adc) (ob := obC nw) (σ := σ) (o := 0) (As := []) (rest := []) hx hb hml hown ht gW cs_Law_33 (c_LB_tick l D dA adc nw hJc hn4 σ  hWf (by omega)) rfl rfl (by decide) xc_LB hN hK hPc (mo (by decide)) rfl rfl hl.1 rfl (Nat.le_of_ble_eq_true rfl) d_Law_law_245 (by decide)) hS hAc hdis hPm (fun H locs hPc hPm hS => ?_)
  refine lv_aload_n hx hb d_Law_law_248 rfl (lv_at hl 1 rfl) ?_
  refine lw_call (x_rV (S := SM) (ad := adm) (ob := obM) (σ := μ) (o := 0) (As := []) (rest := [.int _]) hx hb hml hown ht gW cs_Law_37 (c_Md_tick l D dA adm hJm μ  B hWM hB (inv_kinv h.2.2.2.2)) rfl rfl (by decide) xc_Md hN hK hPm (moM (by decide)) rfl rfl hl.1 rfl (Nat.le_of_ble_eq_true rfl) d_Law_law_249 (by decide)) hS hAm (fun o o2 g1 g2 g3 => hdis o2 o g2 g1 g3.symm) hPc (fun H locs hPm hPc hS => ?_)
  refine lv_icmp_eq (tgt := 628) hx hb d_Law_law_252 (by decide) (fun _ => ?_) (fun hne => absurd ((q_tick h hn4 (by omega)).1) hne)
  exact kk (gN σ 22 1) _ _ H locs ((q_tick h hn4 (by omega)).2) hPc hPm hS
set_option maxHeartbeats 4000000 in
set_option maxRecDepth 100000 in
theorem lwt_3 {p : Program} {l : Launch} {e : Env} {s : State} {m : MethodId} {args : Array Value} {below : List Frame} {meth : Method} {c : Code} {H H0 : Heap} {locs : List Loc} {Q : State → Prop} {ls : Array Slot} {D : va_G} {dA : Nat → ClassId} {A : Nat → Prop} {adc adm : Nat → Nat} {nw bb B b L i : Nat} {xs : Nat → Int32} {σ μ : Sg} (hx : p.tables.exec = Jvm.exec) (hb : c.code = b_Law_law) (hml : c.maxLocals = 4) (hown : s.vm.findClass "LeasedBuildsLaw" = some m.cls) (ht : ∀ w ∈ WS, w.before args s = true) (hN : nst NL s) (hK : va_K D clX (tyX dA) s) (hJc : Inj adc (obC nw)) (hJm : Inj adm obM) (hn4 : nw ≤ 4) (hAc : ∀ o, o ∈ obC nw → A (adc o)) (hAm : ∀ o, o ∈ obM → A (adm o)) (hdis : ∀ o o2, o ∈ obC nw → o2 ∈ obM → adc o ≠ adm o2) (hX : va_X b L xs s H0) (hbl : b < H0.size) (hbA : ¬ A b) (hL : L ≤ 2562) (hi : i + 5 ≤ L) (h : Sim nw bb B σ μ) (hB : B + 64 < 2 ^ 28) (hPc : va_P D clX (wd (SC nw) adc dA (obC nw) σ) H) (hPm : va_P D clX (wd SM adm dA obM μ) H) (hS : va_S A H0 H locs) (hl : lv_has ls 4 [(3, .int (nI i)), (2, .ref (adm 0)), (1, .ref (adc 0)), (0, .ref b)])
    (kk : ∀ (bb' : Nat) (σ' μ' : Sg) (H1 : Heap) (locs1 : List Loc), Sim nw bb' (B + 64) σ' μ' → va_P D clX (wd (SC nw) adc dA (obC nw) σ') H1 → va_P D clX (wd SM adm dA obM μ') H1 → va_S A H0 H1 locs1 → W p l e room_1 s m args below meth c H1 locs1 139 1059 Q (F0 m 628 ls [])) : W p l e room_1 s m args below meth c H locs 139 1059 Q (F0 m 257 ls []) := by
  have hWf := h.1
  have hWM := h.2.2.1
  have hdp := del_pre h hn4
  have htm : gN σ 4 0 ≤ B := by
    obtain ⟨h1, h2, h3, ⟨fs, qs, hs, rs, r⟩, h5⟩ := h
    rw [r.tm]
    exact h3.tm
  refine lv_aload_n hx hb d_Law_law_257 rfl (lv_at hl 2 rfl) ?_
  refine lv_aload_n hx hb d_Law_law_258 rfl (lv_at hl 3 rfl) ?_
  refine lv_iload_n hx hb d_Law_law_259 rfl (lv_at hl 0 rfl) ?_
  refine lv_iconst (v := nI 1) hx hb d_Law_law_260 (by decide) ?_
  refine lv_iadd hx hb d_Law_law_261 ?_
  rw [nI_add]
  refine va_sld hx hb hX hbl hbA hS (vp_in_nI (by omega) (by omega)) d_Law_law_262 ?_
  rw [nI_clamp (by omega)]
  refine lv_aload_n hx hb d_Law_law_263 rfl (lv_at hl 3 rfl) ?_
  refine lv_iload_n hx hb d_Law_law_264 rfl (lv_at hl 0 rfl) ?_
  refine lv_iconst (v := nI 2) hx hb d_Law_law_265 (by decide) ?_
  refine lv_iadd hx hb d_Law_law_266 ?_
  rw [nI_add]
  refine va_sld hx hb hX hbl hbA hS (vp_in_nI (by omega) (by omega)) d_Law_law_267 ?_
  rw [nI_clamp (by omega)]
  refine lw_call (x_rV (S := SC nw) (ad := adc) (ob := obC nw) (σ := σ) (o := 0) (As := [.int (xs (i + 1)), .int (xs (i + 2))]) (rest := []) hx hb hml hown ht gW cs_Law_38 (c_LB_deliver l D dA adc nw hJc hn4 σ (xs (i + 1)) (xs (i + 2)) hWf (by omega)) rfl rfl (by decide) xc_LB hN hK hPc (mo (by decide)) rfl rfl hl.1 rfl (Nat.le_of_ble_eq_true rfl) d_Law_law_268 (by decide)) hS hAc hdis hPm (fun H locs hPc hPm hS => ?_)
  refine lv_aload_n hx hb d_Law_law_271 rfl (lv_at hl 1 rfl) ?_
  refine lv_aload_n hx hb d_Law_law_272 rfl (lv_at hl 3 rfl) ?_
  refine lv_iload_n hx hb d_Law_law_273 rfl (lv_at hl 0 rfl) ?_
  refine lv_iconst (v := nI 1) hx hb d_Law_law_274 (by decide) ?_
  refine lv_iadd hx hb d_Law_law_275 ?_
  rw [nI_add]
  refine va_sld hx hb hX hbl hbA hS (vp_in_nI (by omega) (by omega)) d_Law_law_276 ?_
  rw [nI_clamp (by omega)]
  refine lv_aload_n hx hb d_Law_law_277 rfl (lv_at hl 3 rfl) ?_
  refine lv_iload_n hx hb d_Law_law_278 rfl (lv_at hl 0 rfl) ?_
  refine lv_iconst (v := nI 2) hx hb d_Law_law_279 (by decide) ?_
  refine lv_iadd hx hb d_Law_law_280 ?_
  rw [nI_add]
  refine va_sld hx hb hX hbl hbA hS (vp_in_nI (by omega) (by omega)) d_Law_law_281 ?_
  rw [nI_clamp (by omega)]
  refine lw_call (x_rV (S := SM) (ad := adm) (ob := obM) (σ := μ) (o := 0) (As := [.int (xs (i + 1)), .int (xs (i + 2))]) (rest := [.int _]) hx hb hml hown ht gW cs_Law_42 (c_Md_deliver l D dA adm hJm μ (xs (i + 1)) (xs (i + 2)) B hWM (by omega) (inv_kinv h.2.2.2.2) hdp.1 hdp.2.1 hdp.2.2.1 hdp.2.2.2) rfl rfl (by decide) xc_Md hN hK hPm (moM (by decide)) rfl rfl hl.1 rfl (Nat.le_of_ble_eq_true rfl) d_Law_law_282 (by decide)) hS hAm (fun o o2 g1 g2 g3 => hdis o2 o g2 g1 g3.symm) hPc (fun H locs hPm hPc hS => ?_)
  refine lv_icmp_eq (tgt := 628) hx hb d_Law_law_285 (by decide) (fun _ => ?_) (fun hne => absurd ((q_deliver h hn4 (by omega) (xs (i + 1)) (xs (i + 2))).1) hne)
  exact kk bb _ _ H locs ((q_deliver h hn4 (by omega) (xs (i + 1)) (xs (i + 2))).2.mono (by omega)) hPc hPm hS
set_option maxHeartbeats 4000000 in
set_option maxRecDepth 100000 in
theorem lwt_4 {p : Program} {l : Launch} {e : Env} {s : State} {m : MethodId} {args : Array Value} {below : List Frame} {meth : Method} {c : Code} {H H0 : Heap} {locs : List Loc} {Q : State → Prop} {ls : Array Slot} {D : va_G} {dA : Nat → ClassId} {A : Nat → Prop} {adc adm : Nat → Nat} {nw bb B b L i : Nat} {xs : Nat → Int32} {σ μ : Sg} (hx : p.tables.exec = Jvm.exec) (hb : c.code = b_Law_law) (hml : c.maxLocals = 4) (hown : s.vm.findClass "LeasedBuildsLaw" = some m.cls) (ht : ∀ w ∈ WS, w.before args s = true) (hN : nst NL s) (hK : va_K D clX (tyX dA) s) (hJc : Inj adc (obC nw)) (hJm : Inj adm obM) (hn4 : nw ≤ 4) (hAc : ∀ o, o ∈ obC nw → A (adc o)) (hAm : ∀ o, o ∈ obM → A (adm o)) (hdis : ∀ o o2, o ∈ obC nw → o2 ∈ obM → adc o ≠ adm o2) (hX : va_X b L xs s H0) (hbl : b < H0.size) (hbA : ¬ A b) (hL : L ≤ 2562) (hi : i + 5 ≤ L) (h : Sim nw bb B σ μ) (hB : B + 64 < 2 ^ 28) (hPc : va_P D clX (wd (SC nw) adc dA (obC nw) σ) H) (hPm : va_P D clX (wd SM adm dA obM μ) H) (hS : va_S A H0 H locs) (hl : lv_has ls 4 [(3, .int (nI i)), (2, .ref (adm 0)), (1, .ref (adc 0)), (0, .ref b)])
    (kk : ∀ (bb' : Nat) (σ' μ' : Sg) (H1 : Heap) (locs1 : List Loc), Sim nw bb' (B + 64) σ' μ' → va_P D clX (wd (SC nw) adc dA (obC nw) σ') H1 → va_P D clX (wd SM adm dA obM μ') H1 → va_S A H0 H1 locs1 → W p l e room_1 s m args below meth c H1 locs1 139 1059 Q (F0 m 628 ls [])) : W p l e room_1 s m args below meth c H locs 139 1059 Q (F0 m 290 ls []) := by
  have hWf := h.1
  have hWM := h.2.2.1
  have hdp := del_pre h hn4
  have htm : gN σ 4 0 ≤ B := by
    obtain ⟨h1, h2, h3, ⟨fs, qs, hs, rs, r⟩, h5⟩ := h
    rw [r.tm]
    exact h3.tm
  refine lv_aload_n hx hb d_Law_law_290 rfl (lv_at hl 2 rfl) ?_
  refine lv_aload_n hx hb d_Law_law_291 rfl (lv_at hl 3 rfl) ?_
  refine lv_iload_n hx hb d_Law_law_292 rfl (lv_at hl 0 rfl) ?_
  refine lv_iconst (v := nI 1) hx hb d_Law_law_293 (by decide) ?_
  refine lv_iadd hx hb d_Law_law_294 ?_
  rw [nI_add]
  refine va_sld hx hb hX hbl hbA hS (vp_in_nI (by omega) (by omega)) d_Law_law_295 ?_
  rw [nI_clamp (by omega)]
  refine lw_call (x_rV (S := SC nw) (ad := adc) (ob := obC nw) (σ := σ) (o := 0) (As := [.int (xs (i + 1))]) (rest := []) hx hb hml hown ht gW cs_Law_43 (c_LB_lose l D dA adc nw hJc hn4 σ (xs (i + 1)) hWf) rfl rfl (by decide) xc_LB hN hK hPc (mo (by decide)) rfl rfl hl.1 rfl (Nat.le_of_ble_eq_true rfl) d_Law_law_296 (by decide)) hS hAc hdis hPm (fun H locs hPc hPm hS => ?_)
  refine lv_aload_n hx hb d_Law_law_299 rfl (lv_at hl 1 rfl) ?_
  refine lv_aload_n hx hb d_Law_law_300 rfl (lv_at hl 3 rfl) ?_
  refine lv_iload_n hx hb d_Law_law_301 rfl (lv_at hl 0 rfl) ?_
  refine lv_iconst (v := nI 1) hx hb d_Law_law_302 (by decide) ?_
  refine lv_iadd hx hb d_Law_law_303 ?_
  rw [nI_add]
  refine va_sld hx hb hX hbl hbA hS (vp_in_nI (by omega) (by omega)) d_Law_law_304 ?_
  rw [nI_clamp (by omega)]
  refine lw_call (x_rV (S := SM) (ad := adm) (ob := obM) (σ := μ) (o := 0) (As := [.int (xs (i + 1))]) (rest := [.int _]) hx hb hml hown ht gW cs_Law_47 (c_Md_lose l D dA adm hJm μ (xs (i + 1)) B hWM (by omega)) rfl rfl (by decide) xc_Md hN hK hPm (moM (by decide)) rfl rfl hl.1 rfl (Nat.le_of_ble_eq_true rfl) d_Law_law_305 (by decide)) hS hAm (fun o o2 g1 g2 g3 => hdis o2 o g2 g1 g3.symm) hPc (fun H locs hPm hPc hS => ?_)
  refine lv_icmp_eq (tgt := 628) hx hb d_Law_law_308 (by decide) (fun _ => ?_) (fun hne => absurd (congrArg bI (q_lose h (xs (i + 1))).1) hne)
  exact kk bb _ _ H locs ((q_lose h (xs (i + 1))).2.mono (by omega)) hPc hPm hS
set_option maxHeartbeats 4000000 in
set_option maxRecDepth 100000 in
theorem lwt_5 {p : Program} {l : Launch} {e : Env} {s : State} {m : MethodId} {args : Array Value} {below : List Frame} {meth : Method} {c : Code} {H H0 : Heap} {locs : List Loc} {Q : State → Prop} {ls : Array Slot} {D : va_G} {dA : Nat → ClassId} {A : Nat → Prop} {adc adm : Nat → Nat} {nw bb B b L i : Nat} {xs : Nat → Int32} {σ μ : Sg} (hx : p.tables.exec = Jvm.exec) (hb : c.code = b_Law_law) (hml : c.maxLocals = 4) (hown : s.vm.findClass "LeasedBuildsLaw" = some m.cls) (ht : ∀ w ∈ WS, w.before args s = true) (hN : nst NL s) (hK : va_K D clX (tyX dA) s) (hJc : Inj adc (obC nw)) (hJm : Inj adm obM) (hn4 : nw ≤ 4) (hAc : ∀ o, o ∈ obC nw → A (adc o)) (hAm : ∀ o, o ∈ obM → A (adm o)) (hdis : ∀ o o2, o ∈ obC nw → o2 ∈ obM → adc o ≠ adm o2) (hX : va_X b L xs s H0) (hbl : b < H0.size) (hbA : ¬ A b) (hL : L ≤ 2562) (hi : i + 5 ≤ L) (h : Sim nw bb B σ μ) (hB : B + 64 < 2 ^ 28) (hPc : va_P D clX (wd (SC nw) adc dA (obC nw) σ) H) (hPm : va_P D clX (wd SM adm dA obM μ) H) (hS : va_S A H0 H locs) (hl : lv_has ls 4 [(3, .int (nI i)), (2, .ref (adm 0)), (1, .ref (adc 0)), (0, .ref b)])
    (kk : ∀ (bb' : Nat) (σ' μ' : Sg) (H1 : Heap) (locs1 : List Loc), Sim nw bb' (B + 64) σ' μ' → va_P D clX (wd (SC nw) adc dA (obC nw) σ') H1 → va_P D clX (wd SM adm dA obM μ') H1 → va_S A H0 H1 locs1 → W p l e room_1 s m args below meth c H1 locs1 139 1059 Q (F0 m 628 ls [])) : W p l e room_1 s m args below meth c H locs 139 1059 Q (F0 m 313 ls []) := by
  have hWf := h.1
  have hWM := h.2.2.1
  have hdp := del_pre h hn4
  have htm : gN σ 4 0 ≤ B := by
    obtain ⟨h1, h2, h3, ⟨fs, qs, hs, rs, r⟩, h5⟩ := h
    rw [r.tm]
    exact h3.tm
  refine lv_aload_n hx hb d_Law_law_313 rfl (lv_at hl 2 rfl) ?_
  refine lv_aload_n hx hb d_Law_law_314 rfl (lv_at hl 3 rfl) ?_
  refine lv_iload_n hx hb d_Law_law_315 rfl (lv_at hl 0 rfl) ?_
  refine lv_iconst (v := nI 1) hx hb d_Law_law_316 (by decide) ?_
  refine lv_iadd hx hb d_Law_law_317 ?_
  rw [nI_add]
  refine va_sld hx hb hX hbl hbA hS (vp_in_nI (by omega) (by omega)) d_Law_law_318 ?_
  rw [nI_clamp (by omega)]
  refine lw_call (x_rV (S := SC nw) (ad := adc) (ob := obC nw) (σ := σ) (o := 0) (As := [.int (xs (i + 1))]) (rest := []) hx hb hml hown ht gW cs_Law_48 (c_LB_spoil l D dA adc nw hJc hn4 σ (xs (i + 1)) hWf) rfl rfl (by decide) xc_LB hN hK hPc (mo (by decide)) rfl rfl hl.1 rfl (Nat.le_of_ble_eq_true rfl) d_Law_law_319 (by decide)) hS hAc hdis hPm (fun H locs hPc hPm hS => ?_)
  refine lv_aload_n hx hb d_Law_law_322 rfl (lv_at hl 1 rfl) ?_
  refine lv_aload_n hx hb d_Law_law_323 rfl (lv_at hl 3 rfl) ?_
  refine lv_iload_n hx hb d_Law_law_324 rfl (lv_at hl 0 rfl) ?_
  refine lv_iconst (v := nI 1) hx hb d_Law_law_325 (by decide) ?_
  refine lv_iadd hx hb d_Law_law_326 ?_
  rw [nI_add]
  refine va_sld hx hb hX hbl hbA hS (vp_in_nI (by omega) (by omega)) d_Law_law_327 ?_
  rw [nI_clamp (by omega)]
  refine lw_call (x_rV (S := SM) (ad := adm) (ob := obM) (σ := μ) (o := 0) (As := [.int (xs (i + 1))]) (rest := [.int _]) hx hb hml hown ht gW cs_Law_51 (c_Md_spoil l D dA adm hJm μ (xs (i + 1)) B hWM (by omega)) rfl rfl (by decide) xc_Md hN hK hPm (moM (by decide)) rfl rfl hl.1 rfl (Nat.le_of_ble_eq_true rfl) d_Law_law_328 (by decide)) hS hAm (fun o o2 g1 g2 g3 => hdis o2 o g2 g1 g3.symm) hPc (fun H locs hPm hPc hS => ?_)
  refine lv_icmp_eq (tgt := 628) hx hb d_Law_law_331 (by decide) (fun _ => ?_) (fun hne => absurd (congrArg bI (q_spB h (xs (i + 1)))) hne)
  exact kk bb _ _ H locs ((q_spoil h (xs (i + 1))).mono (by omega)) hPc hPm hS
set_option maxHeartbeats 4000000 in
set_option maxRecDepth 100000 in
theorem lwt_6 {p : Program} {l : Launch} {e : Env} {s : State} {m : MethodId} {args : Array Value} {below : List Frame} {meth : Method} {c : Code} {H H0 : Heap} {locs : List Loc} {Q : State → Prop} {ls : Array Slot} {D : va_G} {dA : Nat → ClassId} {A : Nat → Prop} {adc adm : Nat → Nat} {nw bb B b L i : Nat} {xs : Nat → Int32} {σ μ : Sg} (hx : p.tables.exec = Jvm.exec) (hb : c.code = b_Law_law) (hml : c.maxLocals = 4) (hown : s.vm.findClass "LeasedBuildsLaw" = some m.cls) (ht : ∀ w ∈ WS, w.before args s = true) (hN : nst NL s) (hK : va_K D clX (tyX dA) s) (hJc : Inj adc (obC nw)) (hJm : Inj adm obM) (hn4 : nw ≤ 4) (hAc : ∀ o, o ∈ obC nw → A (adc o)) (hAm : ∀ o, o ∈ obM → A (adm o)) (hdis : ∀ o o2, o ∈ obC nw → o2 ∈ obM → adc o ≠ adm o2) (hX : va_X b L xs s H0) (hbl : b < H0.size) (hbA : ¬ A b) (hL : L ≤ 2562) (hi : i + 5 ≤ L) (h : Sim nw bb B σ μ) (hB : B + 64 < 2 ^ 28) (hPc : va_P D clX (wd (SC nw) adc dA (obC nw) σ) H) (hPm : va_P D clX (wd SM adm dA obM μ) H) (hS : va_S A H0 H locs) (hl : lv_has ls 4 [(3, .int (nI i)), (2, .ref (adm 0)), (1, .ref (adc 0)), (0, .ref b)])
    (kk : ∀ (bb' : Nat) (σ' μ' : Sg) (H1 : Heap) (locs1 : List Loc), Sim nw bb' (B + 64) σ' μ' → va_P D clX (wd (SC nw) adc dA (obC nw) σ') H1 → va_P D clX (wd SM adm dA obM μ') H1 → va_S A H0 H1 locs1 → W p l e room_1 s m args below meth c H1 locs1 139 1059 Q (F0 m 628 ls [])) : W p l e room_1 s m args below meth c H locs 139 1059 Q (F0 m 336 ls []) := by
  have hWf := h.1
  have hWM := h.2.2.1
  have hdp := del_pre h hn4
  have htm : gN σ 4 0 ≤ B := by
    obtain ⟨h1, h2, h3, ⟨fs, qs, hs, rs, r⟩, h5⟩ := h
    rw [r.tm]
    exact h3.tm
  refine lv_aload_n hx hb d_Law_law_336 rfl (lv_at hl 2 rfl) ?_
  refine lv_aload_n hx hb d_Law_law_337 rfl (lv_at hl 3 rfl) ?_
  refine lv_iload_n hx hb d_Law_law_338 rfl (lv_at hl 0 rfl) ?_
  refine lv_iconst (v := nI 1) hx hb d_Law_law_339 (by decide) ?_
  refine lv_iadd hx hb d_Law_law_340 ?_
  rw [nI_add]
  refine va_sld hx hb hX hbl hbA hS (vp_in_nI (by omega) (by omega)) d_Law_law_341 ?_
  rw [nI_clamp (by omega)]
  refine lw_call (x_rV (S := SC nw) (ad := adc) (ob := obC nw) (σ := σ) (o := 0) (As := [.int (xs (i + 1))]) (rest := []) hx hb hml hown ht gW cs_Law_52 (c_LB_crash l D dA adc nw hJc hn4 σ (xs (i + 1)) hWf) rfl rfl (by decide) xc_LB hN hK hPc (mo (by decide)) rfl rfl hl.1 rfl (Nat.le_of_ble_eq_true rfl) d_Law_law_342 (by decide)) hS hAc hdis hPm (fun H locs hPc hPm hS => ?_)
  refine lv_aload_n hx hb d_Law_law_345 rfl (lv_at hl 1 rfl) ?_
  refine lv_aload_n hx hb d_Law_law_346 rfl (lv_at hl 3 rfl) ?_
  refine lv_iload_n hx hb d_Law_law_347 rfl (lv_at hl 0 rfl) ?_
  refine lv_iconst (v := nI 1) hx hb d_Law_law_348 (by decide) ?_
  refine lv_iadd hx hb d_Law_law_349 ?_
  rw [nI_add]
  refine va_sld hx hb hX hbl hbA hS (vp_in_nI (by omega) (by omega)) d_Law_law_350 ?_
  rw [nI_clamp (by omega)]
  refine lw_call (x_rV (S := SM) (ad := adm) (ob := obM) (σ := μ) (o := 0) (As := [.int (xs (i + 1))]) (rest := [.int _]) hx hb hml hown ht gW cs_Law_55 (c_Md_crash l D dA adm hJm μ (xs (i + 1)) B hWM) rfl rfl (by decide) xc_Md hN hK hPm (moM (by decide)) rfl rfl hl.1 rfl (Nat.le_of_ble_eq_true rfl) d_Law_law_351 (by decide)) hS hAm (fun o o2 g1 g2 g3 => hdis o2 o g2 g1 g3.symm) hPc (fun H locs hPm hPc hS => ?_)
  refine lv_icmp_eq (tgt := 628) hx hb d_Law_law_354 (by decide) (fun _ => ?_) (fun hne => absurd (congrArg bI (q_crash h hn4 (xs (i + 1))).1) hne)
  exact kk bb _ _ H locs ((q_crash h hn4 (xs (i + 1))).2.mono (by omega)) hPc hPm hS
set_option maxHeartbeats 4000000 in
set_option maxRecDepth 100000 in
theorem lwt_7 {p : Program} {l : Launch} {e : Env} {s : State} {m : MethodId} {args : Array Value} {below : List Frame} {meth : Method} {c : Code} {H H0 : Heap} {locs : List Loc} {Q : State → Prop} {ls : Array Slot} {D : va_G} {dA : Nat → ClassId} {A : Nat → Prop} {adc adm : Nat → Nat} {nw bb B b L i : Nat} {xs : Nat → Int32} {σ μ : Sg} (hx : p.tables.exec = Jvm.exec) (hb : c.code = b_Law_law) (hml : c.maxLocals = 4) (hown : s.vm.findClass "LeasedBuildsLaw" = some m.cls) (ht : ∀ w ∈ WS, w.before args s = true) (hN : nst NL s) (hK : va_K D clX (tyX dA) s) (hJc : Inj adc (obC nw)) (hJm : Inj adm obM) (hn4 : nw ≤ 4) (hAc : ∀ o, o ∈ obC nw → A (adc o)) (hAm : ∀ o, o ∈ obM → A (adm o)) (hdis : ∀ o o2, o ∈ obC nw → o2 ∈ obM → adc o ≠ adm o2) (hX : va_X b L xs s H0) (hbl : b < H0.size) (hbA : ¬ A b) (hL : L ≤ 2562) (hi : i + 5 ≤ L) (h : Sim nw bb B σ μ) (hB : B + 64 < 2 ^ 28) (hPc : va_P D clX (wd (SC nw) adc dA (obC nw) σ) H) (hPm : va_P D clX (wd SM adm dA obM μ) H) (hS : va_S A H0 H locs) (hl : lv_has ls 4 [(3, .int (nI i)), (2, .ref (adm 0)), (1, .ref (adc 0)), (0, .ref b)])
    (kk : ∀ (bb' : Nat) (σ' μ' : Sg) (H1 : Heap) (locs1 : List Loc), Sim nw bb' (B + 64) σ' μ' → va_P D clX (wd (SC nw) adc dA (obC nw) σ') H1 → va_P D clX (wd SM adm dA obM μ') H1 → va_S A H0 H1 locs1 → W p l e room_1 s m args below meth c H1 locs1 139 1059 Q (F0 m 628 ls [])) : W p l e room_1 s m args below meth c H locs 139 1059 Q (F0 m 359 ls []) := by
  have hWf := h.1
  have hWM := h.2.2.1
  have hdp := del_pre h hn4
  have htm : gN σ 4 0 ≤ B := by
    obtain ⟨h1, h2, h3, ⟨fs, qs, hs, rs, r⟩, h5⟩ := h
    rw [r.tm]
    exact h3.tm
  refine lv_aload_n hx hb d_Law_law_359 rfl (lv_at hl 2 rfl) ?_
  refine lv_aload_n hx hb d_Law_law_360 rfl (lv_at hl 3 rfl) ?_
  refine lv_iload_n hx hb d_Law_law_361 rfl (lv_at hl 0 rfl) ?_
  refine lv_iconst (v := nI 1) hx hb d_Law_law_362 (by decide) ?_
  refine lv_iadd hx hb d_Law_law_363 ?_
  rw [nI_add]
  refine va_sld hx hb hX hbl hbA hS (vp_in_nI (by omega) (by omega)) d_Law_law_364 ?_
  rw [nI_clamp (by omega)]
  refine lw_call (x_rV (S := SC nw) (ad := adc) (ob := obC nw) (σ := σ) (o := 0) (As := [.int (xs (i + 1))]) (rest := []) hx hb hml hown ht gW cs_Law_56 (c_LB_restart l D dA adc nw hJc hn4 σ (xs (i + 1)) hWf) rfl rfl (by decide) xc_LB hN hK hPc (mo (by decide)) rfl rfl hl.1 rfl (Nat.le_of_ble_eq_true rfl) d_Law_law_365 (by decide)) hS hAc hdis hPm (fun H locs hPc hPm hS => ?_)
  refine lv_aload_n hx hb d_Law_law_368 rfl (lv_at hl 1 rfl) ?_
  refine lv_aload_n hx hb d_Law_law_369 rfl (lv_at hl 3 rfl) ?_
  refine lv_iload_n hx hb d_Law_law_370 rfl (lv_at hl 0 rfl) ?_
  refine lv_iconst (v := nI 1) hx hb d_Law_law_371 (by decide) ?_
  refine lv_iadd hx hb d_Law_law_372 ?_
  rw [nI_add]
  refine va_sld hx hb hX hbl hbA hS (vp_in_nI (by omega) (by omega)) d_Law_law_373 ?_
  rw [nI_clamp (by omega)]
  refine lw_call (x_rV (S := SM) (ad := adm) (ob := obM) (σ := μ) (o := 0) (As := [.int (xs (i + 1))]) (rest := [.int _]) hx hb hml hown ht gW cs_Law_59 (c_Md_restart l D dA adm hJm μ (xs (i + 1)) B hWM) rfl rfl (by decide) xc_Md hN hK hPm (moM (by decide)) rfl rfl hl.1 rfl (Nat.le_of_ble_eq_true rfl) d_Law_law_374 (by decide)) hS hAm (fun o o2 g1 g2 g3 => hdis o2 o g2 g1 g3.symm) hPc (fun H locs hPm hPc hS => ?_)
  refine lv_icmp_eq (tgt := 628) hx hb d_Law_law_377 (by decide) (fun _ => ?_) (fun hne => absurd (congrArg bI (q_restart h hn4 (xs (i + 1))).1) hne)
  exact kk bb _ _ H locs ((q_restart h hn4 (xs (i + 1))).2.mono (by omega)) hPc hPm hS
set_option maxHeartbeats 4000000 in
set_option maxRecDepth 100000 in
theorem lwt_8 {p : Program} {l : Launch} {e : Env} {s : State} {m : MethodId} {args : Array Value} {below : List Frame} {meth : Method} {c : Code} {H H0 : Heap} {locs : List Loc} {Q : State → Prop} {ls : Array Slot} {D : va_G} {dA : Nat → ClassId} {A : Nat → Prop} {adc adm : Nat → Nat} {nw bb B b L i : Nat} {xs : Nat → Int32} {σ μ : Sg} (hx : p.tables.exec = Jvm.exec) (hb : c.code = b_Law_law) (hml : c.maxLocals = 4) (hown : s.vm.findClass "LeasedBuildsLaw" = some m.cls) (ht : ∀ w ∈ WS, w.before args s = true) (hN : nst NL s) (hK : va_K D clX (tyX dA) s) (hJc : Inj adc (obC nw)) (hJm : Inj adm obM) (hn4 : nw ≤ 4) (hAc : ∀ o, o ∈ obC nw → A (adc o)) (hAm : ∀ o, o ∈ obM → A (adm o)) (hdis : ∀ o o2, o ∈ obC nw → o2 ∈ obM → adc o ≠ adm o2) (hX : va_X b L xs s H0) (hbl : b < H0.size) (hbA : ¬ A b) (hL : L ≤ 2562) (hi : i + 5 ≤ L) (h : Sim nw bb B σ μ) (hB : B + 64 < 2 ^ 28) (hPc : va_P D clX (wd (SC nw) adc dA (obC nw) σ) H) (hPm : va_P D clX (wd SM adm dA obM μ) H) (hS : va_S A H0 H locs) (hl : lv_has ls 4 [(3, .int (nI i)), (2, .ref (adm 0)), (1, .ref (adc 0)), (0, .ref b)])
    (kk : ∀ (bb' : Nat) (σ' μ' : Sg) (H1 : Heap) (locs1 : List Loc), Sim nw bb' (B + 64) σ' μ' → va_P D clX (wd (SC nw) adc dA (obC nw) σ') H1 → va_P D clX (wd SM adm dA obM μ') H1 → va_S A H0 H1 locs1 → W p l e room_1 s m args below meth c H1 locs1 139 1059 Q (F0 m 628 ls [])) : W p l e room_1 s m args below meth c H locs 139 1059 Q (F0 m 382 ls []) := by
  have hWf := h.1
  have hWM := h.2.2.1
  have hdp := del_pre h hn4
  have htm : gN σ 4 0 ≤ B := by
    obtain ⟨h1, h2, h3, ⟨fs, qs, hs, rs, r⟩, h5⟩ := h
    rw [r.tm]
    exact h3.tm
  refine lv_aload_n hx hb d_Law_law_382 rfl (lv_at hl 2 rfl) ?_
  refine lw_call (x_rV (S := SC nw) (ad := adc) (ob := obC nw) (σ := σ) (o := 0) (As := []) (rest := []) hx hb hml hown ht gW cs_Law_60 (c_LB_collect l D dA adc nw hJc hn4 σ  hWf) rfl rfl (by decide) xc_LB hN hK hPc (mo (by decide)) rfl rfl hl.1 rfl (Nat.le_of_ble_eq_true rfl) d_Law_law_383 (by decide)) hS hAc hdis hPm (fun H locs hPc hPm hS => ?_)
  refine lv_aload_n hx hb d_Law_law_386 rfl (lv_at hl 1 rfl) ?_
  refine lw_call (x_rV (S := SM) (ad := adm) (ob := obM) (σ := μ) (o := 0) (As := []) (rest := [.int _]) hx hb hml hown ht gW cs_Law_63 (c_Md_collect l D dA adm hJm μ  B hWM (by omega)) rfl rfl (by decide) xc_Md hN hK hPm (moM (by decide)) rfl rfl hl.1 rfl (Nat.le_of_ble_eq_true rfl) d_Law_law_387 (by decide)) hS hAm (fun o o2 g1 g2 g3 => hdis o2 o g2 g1 g3.symm) hPc (fun H locs hPm hPc hS => ?_)
  refine lv_icmp_eq (tgt := 628) hx hb d_Law_law_390 (by decide) (fun _ => ?_) (fun hne => absurd ((q_collect h hn4).1) hne)
  exact kk bb _ _ H locs ((q_collect h hn4).2.mono (by omega)) hPc hPm hS
set_option maxHeartbeats 4000000 in
set_option maxRecDepth 100000 in
theorem lwt_9 {p : Program} {l : Launch} {e : Env} {s : State} {m : MethodId} {args : Array Value} {below : List Frame} {meth : Method} {c : Code} {H H0 : Heap} {locs : List Loc} {Q : State → Prop} {ls : Array Slot} {D : va_G} {dA : Nat → ClassId} {A : Nat → Prop} {adc adm : Nat → Nat} {nw bb B b L i : Nat} {xs : Nat → Int32} {σ μ : Sg} (hx : p.tables.exec = Jvm.exec) (hb : c.code = b_Law_law) (hml : c.maxLocals = 4) (hown : s.vm.findClass "LeasedBuildsLaw" = some m.cls) (ht : ∀ w ∈ WS, w.before args s = true) (hN : nst NL s) (hK : va_K D clX (tyX dA) s) (hJc : Inj adc (obC nw)) (hJm : Inj adm obM) (hn4 : nw ≤ 4) (hAc : ∀ o, o ∈ obC nw → A (adc o)) (hAm : ∀ o, o ∈ obM → A (adm o)) (hdis : ∀ o o2, o ∈ obC nw → o2 ∈ obM → adc o ≠ adm o2) (hX : va_X b L xs s H0) (hbl : b < H0.size) (hbA : ¬ A b) (hL : L ≤ 2562) (hi : i + 5 ≤ L) (h : Sim nw bb B σ μ) (hB : B + 64 < 2 ^ 28) (hPc : va_P D clX (wd (SC nw) adc dA (obC nw) σ) H) (hPm : va_P D clX (wd SM adm dA obM μ) H) (hS : va_S A H0 H locs) (hl : lv_has ls 4 [(3, .int (nI i)), (2, .ref (adm 0)), (1, .ref (adc 0)), (0, .ref b)])
    (kk : ∀ (bb' : Nat) (σ' μ' : Sg) (H1 : Heap) (locs1 : List Loc), Sim nw bb' (B + 64) σ' μ' → va_P D clX (wd (SC nw) adc dA (obC nw) σ') H1 → va_P D clX (wd SM adm dA obM μ') H1 → va_S A H0 H1 locs1 → W p l e room_1 s m args below meth c H1 locs1 139 1059 Q (F0 m 628 ls [])) : W p l e room_1 s m args below meth c H locs 139 1059 Q (F0 m 395 ls []) := by
  have hWf := h.1
  have hWM := h.2.2.1
  have hdp := del_pre h hn4
  have htm : gN σ 4 0 ≤ B := by
    obtain ⟨h1, h2, h3, ⟨fs, qs, hs, rs, r⟩, h5⟩ := h
    rw [r.tm]
    exact h3.tm
  refine lv_aload_n hx hb d_Law_law_395 rfl (lv_at hl 2 rfl) ?_
  refine lw_call (x_rV (S := SC nw) (ad := adc) (ob := obC nw) (σ := σ) (o := 0) (As := []) (rest := []) hx hb hml hown ht gW cs_Law_64 (c_LB_flying l D dA adc nw hJc hn4 σ  ) rfl rfl (by decide) xc_LB hN hK hPc (mo (by decide)) rfl rfl hl.1 rfl (Nat.le_of_ble_eq_true rfl) d_Law_law_396 (by decide)) hS hAc hdis hPm (fun H locs hPc hPm hS => ?_)
  refine lv_aload_n hx hb d_Law_law_399 rfl (lv_at hl 1 rfl) ?_
  refine lw_call (x_rV (S := SM) (ad := adm) (ob := obM) (σ := μ) (o := 0) (As := []) (rest := [.int _]) hx hb hml hown ht gW cs_Law_67 (c_Md_flying l D dA adm hJm μ  B hWM (by omega)) rfl rfl (by decide) xc_Md hN hK hPm (moM (by decide)) rfl rfl hl.1 rfl (Nat.le_of_ble_eq_true rfl) d_Law_law_400 (by decide)) hS hAm (fun o o2 g1 g2 g3 => hdis o2 o g2 g1 g3.symm) hPc (fun H locs hPm hPc hS => ?_)
  refine lv_icmp_eq (tgt := 628) hx hb d_Law_law_403 (by decide) (fun _ => ?_) (fun hne => absurd (congrArg nI (q_flying h)) hne)
  exact kk bb _ _ H locs (h.mono (by omega)) hPc hPm hS
