/-! every object of the class at the start is as its picture says -/
section WC
variable {D : va_G} {dA : Nat → ClassId} {H : Heap} {nw ln h0 f r lo lk ta tk c a1 a2 a3 a4 a5 a6 a7 sv dk d1 d2 d3 d4 qu qr le l1 l2 l3 wa : Nat} {L Lw : List (Nat × Nat)} {Ld Lq Ll : List Nat} {x : Nat × va_E}
theorem mm_F (h : x ∈ bFlight dA f (r, (lo, lk), (ta, tk), L)) : x ∈ bLB dA nw ln h0 ((f, r, (lo, lk), (ta, tk), L), (c, a1, a2, a3, a4, a5, a6, a7), (sv, (dk, (d1, d2, d3, d4), Ld), (qu, qr, Lq), (le, (l1, l2, l3), Ll)), wa, Lw) := List.mem_cons_of_mem _ (List.mem_append_left _ (List.mem_append_left _ (List.mem_append_left _ (List.mem_append_right _ h))))
theorem mm_C (h : x ∈ bClient dA c f (a1, a2, a3, a4, a5, a6, a7)) : x ∈ bLB dA nw ln h0 ((f, r, (lo, lk), (ta, tk), L), (c, a1, a2, a3, a4, a5, a6, a7), (sv, (dk, (d1, d2, d3, d4), Ld), (qu, qr, Lq), (le, (l1, l2, l3), Ll)), wa, Lw) := List.mem_cons_of_mem _ (List.mem_append_left _ (List.mem_append_left _ (List.mem_append_right _ h)))
theorem mm_S (h : x ∈ bServer dA nw ln sv f ((dk, (d1, d2, d3, d4), Ld), (qu, qr, Lq), (le, (l1, l2, l3), Ll))) : x ∈ bLB dA nw ln h0 ((f, r, (lo, lk), (ta, tk), L), (c, a1, a2, a3, a4, a5, a6, a7), (sv, (dk, (d1, d2, d3, d4), Ld), (qu, qr, Lq), (le, (l1, l2, l3), Ll)), wa, Lw) := List.mem_cons_of_mem _ (List.mem_append_left _ (List.mem_append_right _ h))
theorem mm_D (h : x ∈ bDisk dA dk ((d1, d2, d3, d4), Ld)) : x ∈ bLB dA nw ln h0 ((f, r, (lo, lk), (ta, tk), L), (c, a1, a2, a3, a4, a5, a6, a7), (sv, (dk, (d1, d2, d3, d4), Ld), (qu, qr, Lq), (le, (l1, l2, l3), Ll)), wa, Lw) := mm_S (List.mem_cons_of_mem _ (List.mem_append_left _ (List.mem_append_left _ (List.mem_append_right _ h))))
theorem mm_Q (h : x ∈ bQueue dA qu (qr, Lq)) : x ∈ bLB dA nw ln h0 ((f, r, (lo, lk), (ta, tk), L), (c, a1, a2, a3, a4, a5, a6, a7), (sv, (dk, (d1, d2, d3, d4), Ld), (qu, qr, Lq), (le, (l1, l2, l3), Ll)), wa, Lw) := mm_S (List.mem_cons_of_mem _ (List.mem_append_left _ (List.mem_append_right _ h)))
theorem mm_L (h : x ∈ bLeases dA nw le ((l1, l2, l3), Ll)) : x ∈ bLB dA nw ln h0 ((f, r, (lo, lk), (ta, tk), L), (c, a1, a2, a3, a4, a5, a6, a7), (sv, (dk, (d1, d2, d3, d4), Ld), (qu, qr, Lq), (le, (l1, l2, l3), Ll)), wa, Lw) := mm_S (List.mem_cons_of_mem _ (List.mem_append_right _ h))
set_option maxRecDepth 100000 in
theorem pc_0 : pcx (SC nw) (adC h0 [h0, f, r, lo, lk, ta, tk, c, a1, a2, a3, a4, a5, a6, a7, sv, dk, d1, d2, d3, d4, qu, qr, le, l1, l2, l3, wa] L Lw Ld Lq Ll) dA (s0C ln) 0 = .inr (0, [.ref f, .ref c, .ref sv, .ref wa, .int (nI 0), .int (nI 0)]) := by
  rw [pcx_obj (S := SC nw) (κ := 0) rfl (by decide)]
  rfl
theorem at_0 (hm : ∀ x ∈ bLB dA nw ln h0 ((f, r, (lo, lk), (ta, tk), L), (c, a1, a2, a3, a4, a5, a6, a7), (sv, (dk, (d1, d2, d3, d4), Ld), (qu, qr, Lq), (le, (l1, l2, l3), Ll)), wa, Lw), va_at D clX x H) : va_at D clX ((adC h0 [h0, f, r, lo, lk, ta, tk, c, a1, a2, a3, a4, a5, a6, a7, sv, dk, d1, d2, d3, d4, qu, qr, le, l1, l2, l3, wa] L Lw Ld Lq Ll) 0, pcx (SC nw) (adC h0 [h0, f, r, lo, lk, ta, tk, c, a1, a2, a3, a4, a5, a6, a7, sv, dk, d1, d2, d3, d4, qu, qr, le, l1, l2, l3, wa] L Lw Ld Lq Ll) dA (s0C ln) 0) H := by
  rw [pc_0]
  exact hm (h0, .inr (0, [.ref f, .ref c, .ref sv, .ref wa, .int (nI 0), .int (nI 0)])) (List.mem_cons_self)
set_option maxRecDepth 100000 in
theorem pc_1 : pcx (SC nw) (adC h0 [h0, f, r, lo, lk, ta, tk, c, a1, a2, a3, a4, a5, a6, a7, sv, dk, d1, d2, d3, d4, qu, qr, le, l1, l2, l3, wa] L Lw Ld Lq Ll) dA (s0C ln) 1 = .inr (3, [.ref r, .ref lo, .ref ta, .int (nI 0), .int (nI 0)]) := by
  rw [pcx_obj (S := SC nw) (κ := 3) rfl (by decide)]
  rfl
theorem at_1 (hm : ∀ x ∈ bLB dA nw ln h0 ((f, r, (lo, lk), (ta, tk), L), (c, a1, a2, a3, a4, a5, a6, a7), (sv, (dk, (d1, d2, d3, d4), Ld), (qu, qr, Lq), (le, (l1, l2, l3), Ll)), wa, Lw), va_at D clX x H) : va_at D clX ((adC h0 [h0, f, r, lo, lk, ta, tk, c, a1, a2, a3, a4, a5, a6, a7, sv, dk, d1, d2, d3, d4, qu, qr, le, l1, l2, l3, wa] L Lw Ld Lq Ll) 1, pcx (SC nw) (adC h0 [h0, f, r, lo, lk, ta, tk, c, a1, a2, a3, a4, a5, a6, a7, sv, dk, d1, d2, d3, d4, qu, qr, le, l1, l2, l3, wa] L Lw Ld Lq Ll) dA (s0C ln) 1) H := by
  rw [pc_1]
  exact hm (f, .inr (3, [.ref r, .ref lo, .ref ta, .int (nI 0), .int (nI 0)])) (mm_F List.mem_cons_self)
set_option maxRecDepth 100000 in
theorem pc_3 : pcx (SC nw) (adC h0 [h0, f, r, lo, lk, ta, tk, c, a1, a2, a3, a4, a5, a6, a7, sv, dk, d1, d2, d3, d4, qu, qr, le, l1, l2, l3, wa] L Lw Ld Lq Ll) dA (s0C ln) 3 = .inr (2, [.ref lk, .int 0, .int 0, .int 0, .int 0, .int 0, .int 0, .int 0, .int 0]) := by
  rw [pcx_obj (S := SC nw) (κ := 2) rfl (by decide)]
  rfl
theorem at_3 (hm : ∀ x ∈ bLB dA nw ln h0 ((f, r, (lo, lk), (ta, tk), L), (c, a1, a2, a3, a4, a5, a6, a7), (sv, (dk, (d1, d2, d3, d4), Ld), (qu, qr, Lq), (le, (l1, l2, l3), Ll)), wa, Lw), va_at D clX x H) : va_at D clX ((adC h0 [h0, f, r, lo, lk, ta, tk, c, a1, a2, a3, a4, a5, a6, a7, sv, dk, d1, d2, d3, d4, qu, qr, le, l1, l2, l3, wa] L Lw Ld Lq Ll) 3, pcx (SC nw) (adC h0 [h0, f, r, lo, lk, ta, tk, c, a1, a2, a3, a4, a5, a6, a7, sv, dk, d1, d2, d3, d4, qu, qr, le, l1, l2, l3, wa] L Lw Ld Lq Ll) dA (s0C ln) 3) H := by
  rw [pc_3]
  exact hm (lo, .inr (2, [.ref lk, .int 0, .int 0, .int 0, .int 0, .int 0, .int 0, .int 0, .int 0])) (mm_F (by unfold bFlight bMessage; simp))
set_option maxRecDepth 100000 in
theorem pc_4 : pcx (SC nw) (adC h0 [h0, f, r, lo, lk, ta, tk, c, a1, a2, a3, a4, a5, a6, a7, sv, dk, d1, d2, d3, d4, qu, qr, le, l1, l2, l3, wa] L Lw Ld Lq Ll) dA (s0C ln) 4 = .inr (1, fr_Key) := by
  rw [pcx_obj (S := SC nw) (κ := 1) rfl (by decide)]
  rfl
theorem at_4 (hm : ∀ x ∈ bLB dA nw ln h0 ((f, r, (lo, lk), (ta, tk), L), (c, a1, a2, a3, a4, a5, a6, a7), (sv, (dk, (d1, d2, d3, d4), Ld), (qu, qr, Lq), (le, (l1, l2, l3), Ll)), wa, Lw), va_at D clX x H) : va_at D clX ((adC h0 [h0, f, r, lo, lk, ta, tk, c, a1, a2, a3, a4, a5, a6, a7, sv, dk, d1, d2, d3, d4, qu, qr, le, l1, l2, l3, wa] L Lw Ld Lq Ll) 4, pcx (SC nw) (adC h0 [h0, f, r, lo, lk, ta, tk, c, a1, a2, a3, a4, a5, a6, a7, sv, dk, d1, d2, d3, d4, qu, qr, le, l1, l2, l3, wa] L Lw Ld Lq Ll) dA (s0C ln) 4) H := by
  rw [pc_4]
  exact hm (lk, .inr (1, fr_Key)) (mm_F (by unfold bFlight bMessage bKey; simp))
set_option maxRecDepth 100000 in
theorem pc_5 : pcx (SC nw) (adC h0 [h0, f, r, lo, lk, ta, tk, c, a1, a2, a3, a4, a5, a6, a7, sv, dk, d1, d2, d3, d4, qu, qr, le, l1, l2, l3, wa] L Lw Ld Lq Ll) dA (s0C ln) 5 = .inr (2, [.ref tk, .int 0, .int 0, .int 0, .int 0, .int 0, .int 0, .int 0, .int 0]) := by
  rw [pcx_obj (S := SC nw) (κ := 2) rfl (by decide)]
  rfl
theorem at_5 (hm : ∀ x ∈ bLB dA nw ln h0 ((f, r, (lo, lk), (ta, tk), L), (c, a1, a2, a3, a4, a5, a6, a7), (sv, (dk, (d1, d2, d3, d4), Ld), (qu, qr, Lq), (le, (l1, l2, l3), Ll)), wa, Lw), va_at D clX x H) : va_at D clX ((adC h0 [h0, f, r, lo, lk, ta, tk, c, a1, a2, a3, a4, a5, a6, a7, sv, dk, d1, d2, d3, d4, qu, qr, le, l1, l2, l3, wa] L Lw Ld Lq Ll) 5, pcx (SC nw) (adC h0 [h0, f, r, lo, lk, ta, tk, c, a1, a2, a3, a4, a5, a6, a7, sv, dk, d1, d2, d3, d4, qu, qr, le, l1, l2, l3, wa] L Lw Ld Lq Ll) dA (s0C ln) 5) H := by
  rw [pc_5]
  exact hm (ta, .inr (2, [.ref tk, .int 0, .int 0, .int 0, .int 0, .int 0, .int 0, .int 0, .int 0])) (mm_F (by unfold bFlight bMessage; simp))
set_option maxRecDepth 100000 in
theorem pc_6 : pcx (SC nw) (adC h0 [h0, f, r, lo, lk, ta, tk, c, a1, a2, a3, a4, a5, a6, a7, sv, dk, d1, d2, d3, d4, qu, qr, le, l1, l2, l3, wa] L Lw Ld Lq Ll) dA (s0C ln) 6 = .inr (1, fr_Key) := by
  rw [pcx_obj (S := SC nw) (κ := 1) rfl (by decide)]
  rfl
theorem at_6 (hm : ∀ x ∈ bLB dA nw ln h0 ((f, r, (lo, lk), (ta, tk), L), (c, a1, a2, a3, a4, a5, a6, a7), (sv, (dk, (d1, d2, d3, d4), Ld), (qu, qr, Lq), (le, (l1, l2, l3), Ll)), wa, Lw), va_at D clX x H) : va_at D clX ((adC h0 [h0, f, r, lo, lk, ta, tk, c, a1, a2, a3, a4, a5, a6, a7, sv, dk, d1, d2, d3, d4, qu, qr, le, l1, l2, l3, wa] L Lw Ld Lq Ll) 6, pcx (SC nw) (adC h0 [h0, f, r, lo, lk, ta, tk, c, a1, a2, a3, a4, a5, a6, a7, sv, dk, d1, d2, d3, d4, qu, qr, le, l1, l2, l3, wa] L Lw Ld Lq Ll) dA (s0C ln) 6) H := by
  rw [pc_6]
  exact hm (tk, .inr (1, fr_Key)) (mm_F (by unfold bFlight bMessage bKey; simp))
set_option maxRecDepth 100000 in
theorem pc_55 : pcx (SC nw) (adC h0 [h0, f, r, lo, lk, ta, tk, c, a1, a2, a3, a4, a5, a6, a7, sv, dk, d1, d2, d3, d4, qu, qr, le, l1, l2, l3, wa] L Lw Ld Lq Ll) dA (s0C ln) 55 = .inr (4, [.ref f, .ref a1, .ref a2, .ref a3, .ref a4, .ref a5, .ref a6, .ref a7, .int (nI 0)]) := by
  rw [pcx_obj (S := SC nw) (κ := 4) rfl (by decide)]
  rfl
theorem at_55 (hm : ∀ x ∈ bLB dA nw ln h0 ((f, r, (lo, lk), (ta, tk), L), (c, a1, a2, a3, a4, a5, a6, a7), (sv, (dk, (d1, d2, d3, d4), Ld), (qu, qr, Lq), (le, (l1, l2, l3), Ll)), wa, Lw), va_at D clX x H) : va_at D clX ((adC h0 [h0, f, r, lo, lk, ta, tk, c, a1, a2, a3, a4, a5, a6, a7, sv, dk, d1, d2, d3, d4, qu, qr, le, l1, l2, l3, wa] L Lw Ld Lq Ll) 55, pcx (SC nw) (adC h0 [h0, f, r, lo, lk, ta, tk, c, a1, a2, a3, a4, a5, a6, a7, sv, dk, d1, d2, d3, d4, qu, qr, le, l1, l2, l3, wa] L Lw Ld Lq Ll) dA (s0C ln) 55) H := by
  rw [pc_55]
  exact hm (c, .inr (4, [.ref f, .ref a1, .ref a2, .ref a3, .ref a4, .ref a5, .ref a6, .ref a7, .int (nI 0)])) (mm_C List.mem_cons_self)
set_option maxRecDepth 100000 in
theorem pc_56 : pcx (SC nw) (adC h0 [h0, f, r, lo, lk, ta, tk, c, a1, a2, a3, a4, a5, a6, a7, sv, dk, d1, d2, d3, d4, qu, qr, le, l1, l2, l3, wa] L Lw Ld Lq Ll) dA (s0C ln) 56 = .inl (dA 1, (10, .inl (fun _ => 0))) := by
  rw [pcx_arr (S := SC nw) (κ := 101) (t := 2) (n := 10) (y := 1) rfl (by decide) rfl]
  rfl
theorem at_56 (hm : ∀ x ∈ bLB dA nw ln h0 ((f, r, (lo, lk), (ta, tk), L), (c, a1, a2, a3, a4, a5, a6, a7), (sv, (dk, (d1, d2, d3, d4), Ld), (qu, qr, Lq), (le, (l1, l2, l3), Ll)), wa, Lw), va_at D clX x H) : va_at D clX ((adC h0 [h0, f, r, lo, lk, ta, tk, c, a1, a2, a3, a4, a5, a6, a7, sv, dk, d1, d2, d3, d4, qu, qr, le, l1, l2, l3, wa] L Lw Ld Lq Ll) 56, pcx (SC nw) (adC h0 [h0, f, r, lo, lk, ta, tk, c, a1, a2, a3, a4, a5, a6, a7, sv, dk, d1, d2, d3, d4, qu, qr, le, l1, l2, l3, wa] L Lw Ld Lq Ll) dA (s0C ln) 56) H := by
  rw [pc_56]
  exact hm (a1, .inl (dA 1, (10, .inl (fun _ => 0)))) (mm_C (by unfold bClient; simp))
set_option maxRecDepth 100000 in
theorem pc_57 : pcx (SC nw) (adC h0 [h0, f, r, lo, lk, ta, tk, c, a1, a2, a3, a4, a5, a6, a7, sv, dk, d1, d2, d3, d4, qu, qr, le, l1, l2, l3, wa] L Lw Ld Lq Ll) dA (s0C ln) 57 = .inl (dA 0, (10, .inl (fun _ => 0))) := by
  rw [pcx_arr (S := SC nw) (κ := 102) (t := 1) (n := 10) (y := 0) rfl (by decide) rfl]
  rfl
theorem at_57 (hm : ∀ x ∈ bLB dA nw ln h0 ((f, r, (lo, lk), (ta, tk), L), (c, a1, a2, a3, a4, a5, a6, a7), (sv, (dk, (d1, d2, d3, d4), Ld), (qu, qr, Lq), (le, (l1, l2, l3), Ll)), wa, Lw), va_at D clX x H) : va_at D clX ((adC h0 [h0, f, r, lo, lk, ta, tk, c, a1, a2, a3, a4, a5, a6, a7, sv, dk, d1, d2, d3, d4, qu, qr, le, l1, l2, l3, wa] L Lw Ld Lq Ll) 57, pcx (SC nw) (adC h0 [h0, f, r, lo, lk, ta, tk, c, a1, a2, a3, a4, a5, a6, a7, sv, dk, d1, d2, d3, d4, qu, qr, le, l1, l2, l3, wa] L Lw Ld Lq Ll) dA (s0C ln) 57) H := by
  rw [pc_57]
  exact hm (a2, .inl (dA 0, (10, .inl (fun _ => 0)))) (mm_C (by unfold bClient; simp))
set_option maxRecDepth 100000 in
theorem pc_58 : pcx (SC nw) (adC h0 [h0, f, r, lo, lk, ta, tk, c, a1, a2, a3, a4, a5, a6, a7, sv, dk, d1, d2, d3, d4, qu, qr, le, l1, l2, l3, wa] L Lw Ld Lq Ll) dA (s0C ln) 58 = .inl (dA 2, (10, .inr (.inl (fun _ => 0)))) := by
  rw [pcx_arr (S := SC nw) (κ := 103) (t := 3) (n := 10) (y := 2) rfl (by decide) rfl]
  rfl
theorem at_58 (hm : ∀ x ∈ bLB dA nw ln h0 ((f, r, (lo, lk), (ta, tk), L), (c, a1, a2, a3, a4, a5, a6, a7), (sv, (dk, (d1, d2, d3, d4), Ld), (qu, qr, Lq), (le, (l1, l2, l3), Ll)), wa, Lw), va_at D clX x H) : va_at D clX ((adC h0 [h0, f, r, lo, lk, ta, tk, c, a1, a2, a3, a4, a5, a6, a7, sv, dk, d1, d2, d3, d4, qu, qr, le, l1, l2, l3, wa] L Lw Ld Lq Ll) 58, pcx (SC nw) (adC h0 [h0, f, r, lo, lk, ta, tk, c, a1, a2, a3, a4, a5, a6, a7, sv, dk, d1, d2, d3, d4, qu, qr, le, l1, l2, l3, wa] L Lw Ld Lq Ll) dA (s0C ln) 58) H := by
  rw [pc_58]
  exact hm (a3, .inl (dA 2, (10, .inr (.inl (fun _ => 0))))) (mm_C (by unfold bClient; simp))
set_option maxRecDepth 100000 in
theorem pc_59 : pcx (SC nw) (adC h0 [h0, f, r, lo, lk, ta, tk, c, a1, a2, a3, a4, a5, a6, a7, sv, dk, d1, d2, d3, d4, qu, qr, le, l1, l2, l3, wa] L Lw Ld Lq Ll) dA (s0C ln) 59 = .inl (dA 0, (10, .inl (fun _ => 0))) := by
  rw [pcx_arr (S := SC nw) (κ := 104) (t := 0) (n := 10) (y := 0) rfl (by decide) rfl]
  rfl
theorem at_59 (hm : ∀ x ∈ bLB dA nw ln h0 ((f, r, (lo, lk), (ta, tk), L), (c, a1, a2, a3, a4, a5, a6, a7), (sv, (dk, (d1, d2, d3, d4), Ld), (qu, qr, Lq), (le, (l1, l2, l3), Ll)), wa, Lw), va_at D clX x H) : va_at D clX ((adC h0 [h0, f, r, lo, lk, ta, tk, c, a1, a2, a3, a4, a5, a6, a7, sv, dk, d1, d2, d3, d4, qu, qr, le, l1, l2, l3, wa] L Lw Ld Lq Ll) 59, pcx (SC nw) (adC h0 [h0, f, r, lo, lk, ta, tk, c, a1, a2, a3, a4, a5, a6, a7, sv, dk, d1, d2, d3, d4, qu, qr, le, l1, l2, l3, wa] L Lw Ld Lq Ll) dA (s0C ln) 59) H := by
  rw [pc_59]
  exact hm (a4, .inl (dA 0, (10, .inl (fun _ => 0)))) (mm_C (by unfold bClient; simp))
set_option maxRecDepth 100000 in
theorem pc_60 : pcx (SC nw) (adC h0 [h0, f, r, lo, lk, ta, tk, c, a1, a2, a3, a4, a5, a6, a7, sv, dk, d1, d2, d3, d4, qu, qr, le, l1, l2, l3, wa] L Lw Ld Lq Ll) dA (s0C ln) 60 = .inl (dA 0, (10, .inl (fun _ => 0))) := by
  rw [pcx_arr (S := SC nw) (κ := 105) (t := 0) (n := 10) (y := 0) rfl (by decide) rfl]
  rfl
theorem at_60 (hm : ∀ x ∈ bLB dA nw ln h0 ((f, r, (lo, lk), (ta, tk), L), (c, a1, a2, a3, a4, a5, a6, a7), (sv, (dk, (d1, d2, d3, d4), Ld), (qu, qr, Lq), (le, (l1, l2, l3), Ll)), wa, Lw), va_at D clX x H) : va_at D clX ((adC h0 [h0, f, r, lo, lk, ta, tk, c, a1, a2, a3, a4, a5, a6, a7, sv, dk, d1, d2, d3, d4, qu, qr, le, l1, l2, l3, wa] L Lw Ld Lq Ll) 60, pcx (SC nw) (adC h0 [h0, f, r, lo, lk, ta, tk, c, a1, a2, a3, a4, a5, a6, a7, sv, dk, d1, d2, d3, d4, qu, qr, le, l1, l2, l3, wa] L Lw Ld Lq Ll) dA (s0C ln) 60) H := by
  rw [pc_60]
  exact hm (a5, .inl (dA 0, (10, .inl (fun _ => 0)))) (mm_C (by unfold bClient; simp))
set_option maxRecDepth 100000 in
theorem pc_61 : pcx (SC nw) (adC h0 [h0, f, r, lo, lk, ta, tk, c, a1, a2, a3, a4, a5, a6, a7, sv, dk, d1, d2, d3, d4, qu, qr, le, l1, l2, l3, wa] L Lw Ld Lq Ll) dA (s0C ln) 61 = .inl (dA 0, (10, .inl (fun _ => 0))) := by
  rw [pcx_arr (S := SC nw) (κ := 106) (t := 0) (n := 10) (y := 0) rfl (by decide) rfl]
  rfl
theorem at_61 (hm : ∀ x ∈ bLB dA nw ln h0 ((f, r, (lo, lk), (ta, tk), L), (c, a1, a2, a3, a4, a5, a6, a7), (sv, (dk, (d1, d2, d3, d4), Ld), (qu, qr, Lq), (le, (l1, l2, l3), Ll)), wa, Lw), va_at D clX x H) : va_at D clX ((adC h0 [h0, f, r, lo, lk, ta, tk, c, a1, a2, a3, a4, a5, a6, a7, sv, dk, d1, d2, d3, d4, qu, qr, le, l1, l2, l3, wa] L Lw Ld Lq Ll) 61, pcx (SC nw) (adC h0 [h0, f, r, lo, lk, ta, tk, c, a1, a2, a3, a4, a5, a6, a7, sv, dk, d1, d2, d3, d4, qu, qr, le, l1, l2, l3, wa] L Lw Ld Lq Ll) dA (s0C ln) 61) H := by
  rw [pc_61]
  exact hm (a6, .inl (dA 0, (10, .inl (fun _ => 0)))) (mm_C (by unfold bClient; simp))
set_option maxRecDepth 100000 in
theorem pc_62 : pcx (SC nw) (adC h0 [h0, f, r, lo, lk, ta, tk, c, a1, a2, a3, a4, a5, a6, a7, sv, dk, d1, d2, d3, d4, qu, qr, le, l1, l2, l3, wa] L Lw Ld Lq Ll) dA (s0C ln) 62 = .inr (1, fr_Key) := by
  rw [pcx_obj (S := SC nw) (κ := 1) rfl (by decide)]
  rfl
theorem at_62 (hm : ∀ x ∈ bLB dA nw ln h0 ((f, r, (lo, lk), (ta, tk), L), (c, a1, a2, a3, a4, a5, a6, a7), (sv, (dk, (d1, d2, d3, d4), Ld), (qu, qr, Lq), (le, (l1, l2, l3), Ll)), wa, Lw), va_at D clX x H) : va_at D clX ((adC h0 [h0, f, r, lo, lk, ta, tk, c, a1, a2, a3, a4, a5, a6, a7, sv, dk, d1, d2, d3, d4, qu, qr, le, l1, l2, l3, wa] L Lw Ld Lq Ll) 62, pcx (SC nw) (adC h0 [h0, f, r, lo, lk, ta, tk, c, a1, a2, a3, a4, a5, a6, a7, sv, dk, d1, d2, d3, d4, qu, qr, le, l1, l2, l3, wa] L Lw Ld Lq Ll) dA (s0C ln) 62) H := by
  rw [pc_62]
  exact hm (a7, .inr (1, fr_Key)) (mm_C (by unfold bClient bKey; simp))
set_option maxRecDepth 100000 in
theorem pc_63 : pcx (SC nw) (adC h0 [h0, f, r, lo, lk, ta, tk, c, a1, a2, a3, a4, a5, a6, a7, sv, dk, d1, d2, d3, d4, qu, qr, le, l1, l2, l3, wa] L Lw Ld Lq Ll) dA (s0C ln) 63 = .inr (7, [.ref f, .ref dk, .ref qu, .ref le, .int (nI ln), .int (nI 1), .int (nI 0), .int (nI 0), .int (nI 0), .int (nI 0), .int (nI 0)]) := by
  rw [pcx_obj (S := SC nw) (κ := 7) rfl (by decide)]
  rfl
theorem at_63 (hm : ∀ x ∈ bLB dA nw ln h0 ((f, r, (lo, lk), (ta, tk), L), (c, a1, a2, a3, a4, a5, a6, a7), (sv, (dk, (d1, d2, d3, d4), Ld), (qu, qr, Lq), (le, (l1, l2, l3), Ll)), wa, Lw), va_at D clX x H) : va_at D clX ((adC h0 [h0, f, r, lo, lk, ta, tk, c, a1, a2, a3, a4, a5, a6, a7, sv, dk, d1, d2, d3, d4, qu, qr, le, l1, l2, l3, wa] L Lw Ld Lq Ll) 63, pcx (SC nw) (adC h0 [h0, f, r, lo, lk, ta, tk, c, a1, a2, a3, a4, a5, a6, a7, sv, dk, d1, d2, d3, d4, qu, qr, le, l1, l2, l3, wa] L Lw Ld Lq Ll) dA (s0C ln) 63) H := by
  rw [pc_63]
  exact hm (sv, .inr (7, [.ref f, .ref dk, .ref qu, .ref le, .int (nI ln), .int (nI 1), .int (nI 0), .int (nI 0), .int (nI 0), .int (nI 0), .int (nI 0)])) (mm_S List.mem_cons_self)
set_option maxRecDepth 100000 in
theorem pc_64 : pcx (SC nw) (adC h0 [h0, f, r, lo, lk, ta, tk, c, a1, a2, a3, a4, a5, a6, a7, sv, dk, d1, d2, d3, d4, qu, qr, le, l1, l2, l3, wa] L Lw Ld Lq Ll) dA (s0C ln) 64 = .inr (5, [.ref d1, .ref d2, .ref d3, .ref d4, .int (nI 0), .int (nI 0)]) := by
  rw [pcx_obj (S := SC nw) (κ := 5) rfl (by decide)]
  rfl
theorem at_64 (hm : ∀ x ∈ bLB dA nw ln h0 ((f, r, (lo, lk), (ta, tk), L), (c, a1, a2, a3, a4, a5, a6, a7), (sv, (dk, (d1, d2, d3, d4), Ld), (qu, qr, Lq), (le, (l1, l2, l3), Ll)), wa, Lw), va_at D clX x H) : va_at D clX ((adC h0 [h0, f, r, lo, lk, ta, tk, c, a1, a2, a3, a4, a5, a6, a7, sv, dk, d1, d2, d3, d4, qu, qr, le, l1, l2, l3, wa] L Lw Ld Lq Ll) 64, pcx (SC nw) (adC h0 [h0, f, r, lo, lk, ta, tk, c, a1, a2, a3, a4, a5, a6, a7, sv, dk, d1, d2, d3, d4, qu, qr, le, l1, l2, l3, wa] L Lw Ld Lq Ll) dA (s0C ln) 64) H := by
  rw [pc_64]
  exact hm (dk, .inr (5, [.ref d1, .ref d2, .ref d3, .ref d4, .int (nI 0), .int (nI 0)])) (mm_D List.mem_cons_self)
set_option maxRecDepth 100000 in
theorem pc_65 : pcx (SC nw) (adC h0 [h0, f, r, lo, lk, ta, tk, c, a1, a2, a3, a4, a5, a6, a7, sv, dk, d1, d2, d3, d4, qu, qr, le, l1, l2, l3, wa] L Lw Ld Lq Ll) dA (s0C ln) 65 = .inl (dA 0, (10, .inl (fun _ => 0))) := by
  rw [pcx_arr (S := SC nw) (κ := 107) (t := 1) (n := 10) (y := 0) rfl (by decide) rfl]
  rfl
theorem at_65 (hm : ∀ x ∈ bLB dA nw ln h0 ((f, r, (lo, lk), (ta, tk), L), (c, a1, a2, a3, a4, a5, a6, a7), (sv, (dk, (d1, d2, d3, d4), Ld), (qu, qr, Lq), (le, (l1, l2, l3), Ll)), wa, Lw), va_at D clX x H) : va_at D clX ((adC h0 [h0, f, r, lo, lk, ta, tk, c, a1, a2, a3, a4, a5, a6, a7, sv, dk, d1, d2, d3, d4, qu, qr, le, l1, l2, l3, wa] L Lw Ld Lq Ll) 65, pcx (SC nw) (adC h0 [h0, f, r, lo, lk, ta, tk, c, a1, a2, a3, a4, a5, a6, a7, sv, dk, d1, d2, d3, d4, qu, qr, le, l1, l2, l3, wa] L Lw Ld Lq Ll) dA (s0C ln) 65) H := by
  rw [pc_65]
  exact hm (d1, .inl (dA 0, (10, .inl (fun _ => 0)))) (mm_D (by unfold bDisk; simp))
set_option maxRecDepth 100000 in
theorem pc_66 : pcx (SC nw) (adC h0 [h0, f, r, lo, lk, ta, tk, c, a1, a2, a3, a4, a5, a6, a7, sv, dk, d1, d2, d3, d4, qu, qr, le, l1, l2, l3, wa] L Lw Ld Lq Ll) dA (s0C ln) 66 = .inl (dA 0, (10, .inl (fun _ => 0))) := by
  rw [pcx_arr (S := SC nw) (κ := 108) (t := 1) (n := 10) (y := 0) rfl (by decide) rfl]
  rfl
theorem at_66 (hm : ∀ x ∈ bLB dA nw ln h0 ((f, r, (lo, lk), (ta, tk), L), (c, a1, a2, a3, a4, a5, a6, a7), (sv, (dk, (d1, d2, d3, d4), Ld), (qu, qr, Lq), (le, (l1, l2, l3), Ll)), wa, Lw), va_at D clX x H) : va_at D clX ((adC h0 [h0, f, r, lo, lk, ta, tk, c, a1, a2, a3, a4, a5, a6, a7, sv, dk, d1, d2, d3, d4, qu, qr, le, l1, l2, l3, wa] L Lw Ld Lq Ll) 66, pcx (SC nw) (adC h0 [h0, f, r, lo, lk, ta, tk, c, a1, a2, a3, a4, a5, a6, a7, sv, dk, d1, d2, d3, d4, qu, qr, le, l1, l2, l3, wa] L Lw Ld Lq Ll) dA (s0C ln) 66) H := by
  rw [pc_66]
  exact hm (d2, .inl (dA 0, (10, .inl (fun _ => 0)))) (mm_D (by unfold bDisk; simp))
set_option maxRecDepth 100000 in
theorem pc_68 : pcx (SC nw) (adC h0 [h0, f, r, lo, lk, ta, tk, c, a1, a2, a3, a4, a5, a6, a7, sv, dk, d1, d2, d3, d4, qu, qr, le, l1, l2, l3, wa] L Lw Ld Lq Ll) dA (s0C ln) 68 = .inl (dA 0, (10, .inl (fun _ => 0))) := by
  rw [pcx_arr (S := SC nw) (κ := 110) (t := 1) (n := 10) (y := 0) rfl (by decide) rfl]
  rfl
theorem at_68 (hm : ∀ x ∈ bLB dA nw ln h0 ((f, r, (lo, lk), (ta, tk), L), (c, a1, a2, a3, a4, a5, a6, a7), (sv, (dk, (d1, d2, d3, d4), Ld), (qu, qr, Lq), (le, (l1, l2, l3), Ll)), wa, Lw), va_at D clX x H) : va_at D clX ((adC h0 [h0, f, r, lo, lk, ta, tk, c, a1, a2, a3, a4, a5, a6, a7, sv, dk, d1, d2, d3, d4, qu, qr, le, l1, l2, l3, wa] L Lw Ld Lq Ll) 68, pcx (SC nw) (adC h0 [h0, f, r, lo, lk, ta, tk, c, a1, a2, a3, a4, a5, a6, a7, sv, dk, d1, d2, d3, d4, qu, qr, le, l1, l2, l3, wa] L Lw Ld Lq Ll) dA (s0C ln) 68) H := by
  rw [pc_68]
  exact hm (d4, .inl (dA 0, (10, .inl (fun _ => 0)))) (mm_D (by unfold bDisk; simp))
set_option maxRecDepth 100000 in
theorem pc_79 : pcx (SC nw) (adC h0 [h0, f, r, lo, lk, ta, tk, c, a1, a2, a3, a4, a5, a6, a7, sv, dk, d1, d2, d3, d4, qu, qr, le, l1, l2, l3, wa] L Lw Ld Lq Ll) dA (s0C ln) 79 = .inr (6, [.ref qr, .int (nI 0)]) := by
  rw [pcx_obj (S := SC nw) (κ := 6) rfl (by decide)]
  rfl
theorem at_79 (hm : ∀ x ∈ bLB dA nw ln h0 ((f, r, (lo, lk), (ta, tk), L), (c, a1, a2, a3, a4, a5, a6, a7), (sv, (dk, (d1, d2, d3, d4), Ld), (qu, qr, Lq), (le, (l1, l2, l3), Ll)), wa, Lw), va_at D clX x H) : va_at D clX ((adC h0 [h0, f, r, lo, lk, ta, tk, c, a1, a2, a3, a4, a5, a6, a7, sv, dk, d1, d2, d3, d4, qu, qr, le, l1, l2, l3, wa] L Lw Ld Lq Ll) 79, pcx (SC nw) (adC h0 [h0, f, r, lo, lk, ta, tk, c, a1, a2, a3, a4, a5, a6, a7, sv, dk, d1, d2, d3, d4, qu, qr, le, l1, l2, l3, wa] L Lw Ld Lq Ll) dA (s0C ln) 79) H := by
  rw [pc_79]
  exact hm (qu, .inr (6, [.ref qr, .int (nI 0)])) (mm_Q List.mem_cons_self)
set_option maxRecDepth 100000 in
theorem pc_91 : pcx (SC nw) (adC h0 [h0, f, r, lo, lk, ta, tk, c, a1, a2, a3, a4, a5, a6, a7, sv, dk, d1, d2, d3, d4, qu, qr, le, l1, l2, l3, wa] L Lw Ld Lq Ll) dA (s0C ln) 91 = .inr (8, [.ref l1, .ref l2, .ref l3, .int (nI 0)]) := by
  rw [pcx_obj (S := SC nw) (κ := 8) rfl (by decide)]
  rfl
theorem at_91 (hm : ∀ x ∈ bLB dA nw ln h0 ((f, r, (lo, lk), (ta, tk), L), (c, a1, a2, a3, a4, a5, a6, a7), (sv, (dk, (d1, d2, d3, d4), Ld), (qu, qr, Lq), (le, (l1, l2, l3), Ll)), wa, Lw), va_at D clX x H) : va_at D clX ((adC h0 [h0, f, r, lo, lk, ta, tk, c, a1, a2, a3, a4, a5, a6, a7, sv, dk, d1, d2, d3, d4, qu, qr, le, l1, l2, l3, wa] L Lw Ld Lq Ll) 91, pcx (SC nw) (adC h0 [h0, f, r, lo, lk, ta, tk, c, a1, a2, a3, a4, a5, a6, a7, sv, dk, d1, d2, d3, d4, qu, qr, le, l1, l2, l3, wa] L Lw Ld Lq Ll) dA (s0C ln) 91) H := by
  rw [pc_91]
  exact hm (le, .inr (8, [.ref l1, .ref l2, .ref l3, .int (nI 0)])) (mm_L List.mem_cons_self)
set_option maxRecDepth 100000 in
theorem pc_92 : pcx (SC nw) (adC h0 [h0, f, r, lo, lk, ta, tk, c, a1, a2, a3, a4, a5, a6, a7, sv, dk, d1, d2, d3, d4, qu, qr, le, l1, l2, l3, wa] L Lw Ld Lq Ll) dA (s0C ln) 92 = .inl (dA 1, (nw, .inl (fun _ => 0))) := by
  rw [pcx_arr (S := SC nw) (κ := 112) (t := 2) (n := nw) (y := 1) rfl (by decide) rfl]
  rfl
theorem at_92 (hm : ∀ x ∈ bLB dA nw ln h0 ((f, r, (lo, lk), (ta, tk), L), (c, a1, a2, a3, a4, a5, a6, a7), (sv, (dk, (d1, d2, d3, d4), Ld), (qu, qr, Lq), (le, (l1, l2, l3), Ll)), wa, Lw), va_at D clX x H) : va_at D clX ((adC h0 [h0, f, r, lo, lk, ta, tk, c, a1, a2, a3, a4, a5, a6, a7, sv, dk, d1, d2, d3, d4, qu, qr, le, l1, l2, l3, wa] L Lw Ld Lq Ll) 92, pcx (SC nw) (adC h0 [h0, f, r, lo, lk, ta, tk, c, a1, a2, a3, a4, a5, a6, a7, sv, dk, d1, d2, d3, d4, qu, qr, le, l1, l2, l3, wa] L Lw Ld Lq Ll) dA (s0C ln) 92) H := by
  rw [pc_92]
  exact hm (l1, .inl (dA 1, (nw, .inl (fun _ => 0)))) (mm_L (by unfold bLeases; simp))
set_option maxRecDepth 100000 in
theorem pc_94 : pcx (SC nw) (adC h0 [h0, f, r, lo, lk, ta, tk, c, a1, a2, a3, a4, a5, a6, a7, sv, dk, d1, d2, d3, d4, qu, qr, le, l1, l2, l3, wa] L Lw Ld Lq Ll) dA (s0C ln) 94 = .inl (dA 0, (nw, .inl (fun _ => 0))) := by
  rw [pcx_arr (S := SC nw) (κ := 114) (t := 0) (n := nw) (y := 0) rfl (by decide) rfl]
  rfl
theorem at_94 (hm : ∀ x ∈ bLB dA nw ln h0 ((f, r, (lo, lk), (ta, tk), L), (c, a1, a2, a3, a4, a5, a6, a7), (sv, (dk, (d1, d2, d3, d4), Ld), (qu, qr, Lq), (le, (l1, l2, l3), Ll)), wa, Lw), va_at D clX x H) : va_at D clX ((adC h0 [h0, f, r, lo, lk, ta, tk, c, a1, a2, a3, a4, a5, a6, a7, sv, dk, d1, d2, d3, d4, qu, qr, le, l1, l2, l3, wa] L Lw Ld Lq Ll) 94, pcx (SC nw) (adC h0 [h0, f, r, lo, lk, ta, tk, c, a1, a2, a3, a4, a5, a6, a7, sv, dk, d1, d2, d3, d4, qu, qr, le, l1, l2, l3, wa] L Lw Ld Lq Ll) dA (s0C ln) 94) H := by
  rw [pc_94]
  exact hm (l3, .inl (dA 0, (nw, .inl (fun _ => 0)))) (mm_L (by unfold bLeases; simp))
end WC
