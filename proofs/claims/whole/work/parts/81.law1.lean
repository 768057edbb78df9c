/-! the law: what the tables give at its start; its cell; a call beside another world -/
theorem start_K {s : State} {args : Array Value} (ht : ∀ w ∈ WS, w.before args s = true) (hO : aos s) : ∃ (D : va_G) (dA : Nat → ClassId), va_K D clX (tyX dA) s := by
  obtain ⟨c0, i0, k0⟩ := u_known ht xc_LB.1 (ht _ in_LB)
  obtain ⟨c1, i1, k1⟩ := u_known ht xc_Key.1 (ht _ in_Key)
  obtain ⟨c2, i2, k2⟩ := u_known ht xc_Message.1 (ht _ in_Message)
  obtain ⟨c3, i3, k3⟩ := u_known ht xc_Flight.1 (ht _ in_Flight)
  obtain ⟨c4, i4, k4⟩ := u_known ht xc_Client.1 (ht _ in_Client)
  obtain ⟨c5, i5, k5⟩ := u_known ht xc_Disk.1 (ht _ in_Disk)
  obtain ⟨c6, i6, k6⟩ := u_known ht xc_Queue.1 (ht _ in_Queue)
  obtain ⟨c7, i7, k7⟩ := u_known ht xc_Server.1 (ht _ in_Server)
  obtain ⟨c8, i8, k8⟩ := u_known ht xc_Leases.1 (ht _ in_Leases)
  obtain ⟨c9, i9, k9⟩ := u_known ht xc_Worker.1 (ht _ in_Worker)
  obtain ⟨c10, i10, k10⟩ := u_known ht xc_Md.1 (ht _ in_Md)
  obtain ⟨d0, g0, m0, x0, y0, z0⟩ := Cond.arrayClass_spec (ht _ ac_int)
  obtain ⟨d1, g1, m1, x1, y1, z1⟩ := Cond.arrayClass_spec (ht _ ac_boolean)
  obtain ⟨d2, g2, m2, x2, y2, z2⟩ := Cond.arrayClass_spec (ht _ ac_long)
  obtain ⟨m3, d3, g3, a3, b3, x3, y3, z3⟩ := Cond.arrayOver_spec hO.2.1
  obtain ⟨m4, d4, g4, a4, b4, x4, y4, z4⟩ := Cond.arrayOver_spec hO.1
  obtain ⟨m5, d5, g5, a5, b5, x5, y5, z5⟩ := Cond.arrayOver_spec hO.2.2
  refine ⟨(fun c => [c0, c1, c2, c3, c4, c5, c6, c7, c8, c9, c10].getD c c0, fun c => [i0, i1, i2, i3, i4, i5, i6, i7, i8, i9, i10].getD c i0), fun k => [d0, d1, d2, d3, d4, d5].getD k d0, ?_, ?_⟩
  · intro c q hq
    have hc : c < 11 := (List.getElem?_eq_some_iff.mp hq).1
    rcases (show c = 0 ∨ c = 1 ∨ c = 2 ∨ c = 3 ∨ c = 4 ∨ c = 5 ∨ c = 6 ∨ c = 7 ∨ c = 8 ∨ c = 9 ∨ c = 10 by omega) with rfl | rfl | rfl | rfl | rfl | rfl | rfl | rfl | rfl | rfl | rfl
    · cases hq; exact k0
    · cases hq; exact k1
    · cases hq; exact k2
    · cases hq; exact k3
    · cases hq; exact k4
    · cases hq; exact k5
    · cases hq; exact k6
    · cases hq; exact k7
    · cases hq; exact k8
    · cases hq; exact k9
    · cases hq; exact k10
  · intro k q hq
    have hc : k < 6 := (List.getElem?_eq_some_iff.mp hq).1
    rcases (show k = 0 ∨ k = 1 ∨ k = 2 ∨ k = 3 ∨ k = 4 ∨ k = 5 by omega) with rfl | rfl | rfl | rfl | rfl | rfl
    · cases hq; exact ⟨fun n z => ⟨fun k h => (by cases h), g0, y0, m0, z0⟩, x0⟩
    · cases hq; exact ⟨fun n z => ⟨fun k h => (by cases h), g1, y1, m1, z1⟩, x1⟩
    · cases hq; exact ⟨fun n z => ⟨fun k h => (by cases h), g2, y2, m2, z2⟩, x2⟩
    · cases hq; exact ⟨fun n z => ⟨fun k h => (by cases h), g3, x3, m3, y3⟩, g3, m3, x3, y3, a3, z3⟩
    · cases hq; exact ⟨fun n z => ⟨fun k h => (by cases h), g4, x4, m4, y4⟩, g4, m4, x4, y4, a4, z4⟩
    · cases hq; exact ⟨fun n z => ⟨fun k h => (by cases h), g5, x5, m5, y5⟩, g5, m5, x5, y5, a5, z5⟩
set_option maxHeartbeats 4000000 in
set_option maxRecDepth 100000 in
theorem c_Law_cell (l : Launch) (b L : Nat) (xs : Nat → Int32) (k : Nat) (hk : k < 2 ^ 31) (hL : L < 2 ^ 31) : Met l y_Law_cell w_Law_cell { frames := 0, cells := 0, slots := 0, locals := 0 } (va_Pc [.ref b, .int (nI k)] (fun U => va_X b L xs U U.heap)) (va_Qi (fun (r : Int32) (_ : Unit) => r = if k < L then xs k else 0) (fun _ _ => True) (fun _ => False)) 0 0 (fun _ => False) := by
  refine Met.ofW (cc := b_Law_cell) (maxL := 2) (ret := some .int) (by decide) rfl ?_
  intro p e s m args below meth c s₁ B hml hv
  obtain ⟨rfl, hX⟩ := hv
  have hx := B.exec
  have hb := B.bytes
  have hr := B.returns
  have hlk := B.notSynchronized
  have hS : va_S (fun _ => False) s.heap s.heap [] := va_S.rf
  have hbl : b < s.heap.size := by
    obtain ⟨scr, h1, -⟩ := hX
    exact (Array.getElem?_eq_some_iff.mp h1).1
  have hl := lv_entry ([.ref b, .int (nI k)]) (n := 2) (Nat.le_of_ble_eq_true rfl)
  rw [lg_entry_eq]
  generalize (lg_sl ([.ref b, .int (nI k)]) ++ List.replicate (2 - (lg_sl ([.ref b, .int (nI k)])).length) Slot.unset).toArray = ls at hl ⊢
  have hl : lv_has ls 2 [(0, .ref b), (1, .int (nI k))] := hl
  refine lv_iload_n hx hb d_Law_cell_0 rfl (lv_at hl 1 rfl) ?_
  refine lv_aload_n hx hb d_Law_cell_1 rfl (lv_at hl 0 rfl) ?_
  refine va_slen hx hb hX hbl (fun h => h) hS d_Law_cell_2 ?_
  refine x_icmp_geN (a := k) (b := L) (tgt := 12) hx hb d_Law_cell_3 (by decide) hk hL (fun h1 => ?_) (fun h1 => ?_)
  · refine lv_iconst (v := 0) hx hb d_Law_cell_12 (by decide) ?_
    exact W.iret (v := 0) hx hb hr (fun t ht hW => ⟨⟨0, (), rfl, by rw [if_neg (by omega)], trivial⟩, hS.F ht⟩) hS.2.2 d_Law_cell_13
  · refine lv_aload_n hx hb d_Law_cell_6 rfl (lv_at hl 0 rfl) ?_
    refine lv_iload_n hx hb d_Law_cell_7 rfl (lv_at hl 1 rfl) ?_
    refine va_sld hx hb hX hbl (fun h => h) hS (vp_in_nI h1 hL) d_Law_cell_8 ?_
    refine lv_goto (tgt := 13) hx hb d_Law_cell_9 (by decide) ?_
    rw [nI_clamp hk]
    exact W.iret (v := xs k) hx hb hr (fun t ht hW => ⟨⟨xs k, (), rfl, by rw [if_pos h1], trivial⟩, hS.F ht⟩) hS.2.2 d_Law_cell_13
section LW
variable {p : Program} {l : Launch} {e : Env} {R : Room} {s : State} {m : MethodId} {args : Array Value} {below : List Frame} {meth : Method} {c : Code} {H : Heap} {locs : List Loc} {cells slots : Nat} {Q : State → Prop}
variable {cc : ByteArray} {pc : Nat} {ls : Array Slot} {rest st0 : List Value} {D : va_G} {dA : Nat → ClassId} {H0 : Heap} {A : Nat → Prop}
/-- a call on one world, with another beside it -/
theorem lw_call {S S2 : Sc} {ad ad2 : Nat → Nat} {ob ob2 : List Nat} {σ' μ : Sg} {r : Int32} {aa : Array Value} (hr : va_Run p l e R s m args below meth c H locs cells slots 0 0 (F0 m pc ls st0) rest (va_Qi (fun r0 u => r0 = r ∧ u = σ') (xB D clX (tyX dA) S ad dA ob) (Ad ad ob) aa) (Ad ad ob)) (hS : va_S A H0 H locs) (hA : ∀ o, o ∈ ob → A (ad o)) (hx : ∀ o o2, o ∈ ob → o2 ∈ ob2 → ad o ≠ ad2 o2) (hP2 : va_P D clX (wd S2 ad2 dA ob2 μ) H)
    (kk : ∀ (H1 : Heap) (locs1 : List Loc), va_P D clX (wd S ad dA ob σ') H1 → va_P D clX (wd S2 ad2 dA ob2 μ) H1 → va_S A H0 H1 locs1 → W p l e R s m args below meth c H1 locs1 cells slots Q (F0 m (pc + 3) ls (.int r :: rest))) : W p l e R s m args below meth c H locs cells slots Q (F0 m pc ls st0) := by
  refine va_calli hr hS (fun q _ h => ?_) (fun q h => ?_) (fun r0 u t H1 locs1 e1 _ hp hB _ hkeep hS1 => ?_)
  · obtain ⟨o, ho, rfl⟩ := h
    exact hA o ho
  · obtain ⟨o, ho, rfl⟩ := h
    exact hA o ho
  · obtain ⟨rfl, rfl⟩ := hp
    refine kk H1 locs1 (by rw [← e1]; exact hB.1) (hP2.kept (fun k q hq => ?_)) hS1
    refine hkeep q.1 (hP2 k q hq).lt (fun h => ?_)
    unfold wd at hq
    rw [List.getElem?_map] at hq
    obtain ⟨o2, h2, rfl⟩ := Option.map_eq_some_iff.mp hq
    obtain ⟨o, ho, e⟩ := h
    exact hx o o2 ho (List.mem_of_getElem? h2) e.symm
end LW
