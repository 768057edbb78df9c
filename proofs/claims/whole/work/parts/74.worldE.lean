/-! every object of the class at the start, ended; their addresses are apart -/
theorem fm_congr {α : Type} {f g : Nat → List α} : ∀ {n : Nat}, (∀ j, j < n → f j = g j) → (List.range n).flatMap f = (List.range n).flatMap g
  | 0, _ => rfl
  | n + 1, h => by
    rw [List.range_succ, List.flatMap_append, List.flatMap_append, fm_congr (fun j hj => h j (by omega))]
    simp [h n (by omega)]
theorem gd_at {α : Type} {L : List α} {j : Nat} (h : j < L.length) (d : α) : L[j]? = some (L.getD j d) := by simp [h]
theorem pk_at {nw ln o : Nat} {ad : Nat → Nat} {dA : Nat → ClassId} (h : kdC o = 1) : pcx (SC nw) ad dA (s0C ln) o = .inr (1, fr_Key) := by
  rw [pcx_obj (S := SC nw) (κ := 1) h (by decide)]
  rfl
theorem pm_at {nw ln o : Nat} {ad : Nat → Nat} {dA : Nat → ClassId} (h : kdC o = 2) : pcx (SC nw) ad dA (s0C ln) o = .inr (2, [.ref (ad (o + 1)), .int 0, .int 0, .int 0, .int 0, .int 0, .int 0, .int 0, .int 0]) := by
  rw [pcx_obj (S := SC nw) (κ := 2) h (by decide)]
  rfl
theorem pw_at {nw ln o : Nat} {ad : Nat → Nat} {dA : Nat → ClassId} (h : kdC o = 9) : pcx (SC nw) ad dA (s0C ln) o = .inr (9, [.ref (ad (o + 1)), .int (nI 1), .int (nI 0), .int (nI 0), .int 0, .int 0, .int 0]) := by
  rw [pcx_obj (S := SC nw) (κ := 9) h (by decide)]
  rfl
section WE
variable {D : va_G} {dA : Nat → ClassId} {H : Heap} {nw ln h0 f r lo lk ta tk c a1 a2 a3 a4 a5 a6 a7 sv dk d1 d2 d3 d4 qu qr le l1 l2 l3 wa : Nat} {L Lw : List (Nat × Nat)} {Ld Lq Ll : List Nat} {x : Nat × va_E}
theorem at_m (hm : ∀ x ∈ bLB dA nw ln h0 ((f, r, (lo, lk), (ta, tk), L), (c, a1, a2, a3, a4, a5, a6, a7), (sv, (dk, (d1, d2, d3, d4), Ld), (qu, qr, Lq), (le, (l1, l2, l3), Ll)), wa, Lw), va_at D clX x H) (hL : L.length = 24) {j : Nat} (hj : j < 24) : va_at D clX ((adC h0 [h0, f, r, lo, lk, ta, tk, c, a1, a2, a3, a4, a5, a6, a7, sv, dk, d1, d2, d3, d4, qu, qr, le, l1, l2, l3, wa] L Lw Ld Lq Ll) (7 + 2 * j), pcx (SC nw) (adC h0 [h0, f, r, lo, lk, ta, tk, c, a1, a2, a3, a4, a5, a6, a7, sv, dk, d1, d2, d3, d4, qu, qr, le, l1, l2, l3, wa] L Lw Ld Lq Ll) dA (s0C ln) (7 + 2 * j)) H ∧ va_at D clX ((adC h0 [h0, f, r, lo, lk, ta, tk, c, a1, a2, a3, a4, a5, a6, a7, sv, dk, d1, d2, d3, d4, qu, qr, le, l1, l2, l3, wa] L Lw Ld Lq Ll) (7 + 2 * j + 1), pcx (SC nw) (adC h0 [h0, f, r, lo, lk, ta, tk, c, a1, a2, a3, a4, a5, a6, a7, sv, dk, d1, d2, d3, d4, qu, qr, le, l1, l2, l3, wa] L Lw Ld Lq Ll) dA (s0C ln) (7 + 2 * j + 1)) H := by
  have k1 := kd_row j hj
  have k2 := (kd_msg k1).2.2
  have e := ad_m (h0 := h0) (T := [h0, f, r, lo, lk, ta, tk, c, a1, a2, a3, a4, a5, a6, a7, sv, dk, d1, d2, d3, d4, qu, qr, le, l1, l2, l3, wa]) (L := L) (Lw := Lw) (Ld := Ld) (Lq := Lq) (Ll := Ll) hj
  have mb : ∀ x ∈ bMessage (L.getD j (0, 0)).1 (L.getD j (0, 0)).2, va_at D clX x H := fun x hx => hm x (mm_F (List.mem_cons_of_mem _ (List.mem_append_right _ (List.mem_cons_of_mem _ (List.mem_append_right _ (by rw [mL_r hL]; exact List.mem_flatMap.mpr ⟨j, List.mem_range.mpr hj, hx⟩))))))
  rw [pm_at k1, pk_at k2, e.1, e.2]
  exact ⟨mb _ (by unfold bMessage; simp), mb _ (by unfold bMessage bKey; simp)⟩
theorem at_w (hm : ∀ x ∈ bLB dA nw ln h0 ((f, r, (lo, lk), (ta, tk), L), (c, a1, a2, a3, a4, a5, a6, a7), (sv, (dk, (d1, d2, d3, d4), Ld), (qu, qr, Lq), (le, (l1, l2, l3), Ll)), wa, Lw), va_at D clX x H) (hn : nw ≤ 4) (hL : Lw.length = nw) {j : Nat} (hj : j < nw) : va_at D clX ((adC h0 [h0, f, r, lo, lk, ta, tk, c, a1, a2, a3, a4, a5, a6, a7, sv, dk, d1, d2, d3, d4, qu, qr, le, l1, l2, l3, wa] L Lw Ld Lq Ll) (100 + 2 * j), pcx (SC nw) (adC h0 [h0, f, r, lo, lk, ta, tk, c, a1, a2, a3, a4, a5, a6, a7, sv, dk, d1, d2, d3, d4, qu, qr, le, l1, l2, l3, wa] L Lw Ld Lq Ll) dA (s0C ln) (100 + 2 * j)) H ∧ va_at D clX ((adC h0 [h0, f, r, lo, lk, ta, tk, c, a1, a2, a3, a4, a5, a6, a7, sv, dk, d1, d2, d3, d4, qu, qr, le, l1, l2, l3, wa] L Lw Ld Lq Ll) (100 + 2 * j + 1), pcx (SC nw) (adC h0 [h0, f, r, lo, lk, ta, tk, c, a1, a2, a3, a4, a5, a6, a7, sv, dk, d1, d2, d3, d4, qu, qr, le, l1, l2, l3, wa] L Lw Ld Lq Ll) dA (s0C ln) (100 + 2 * j + 1)) H := by
  have k1 : kdC (100 + 2 * j) = 9 := kd_wk (by omega)
  have k2 : kdC (100 + 2 * j + 1) = 1 := kd_wkk (by omega)
  have e := ad_w (h0 := h0) (T := [h0, f, r, lo, lk, ta, tk, c, a1, a2, a3, a4, a5, a6, a7, sv, dk, d1, d2, d3, d4, qu, qr, le, l1, l2, l3, wa]) (L := L) (Lw := Lw) (Ld := Ld) (Lq := Lq) (Ll := Ll) (j := j)
  have mb : ∀ x ∈ bWorker (Lw.getD j (0, 0)).1 (Lw.getD j (0, 0)).2, va_at D clX x H := fun x hx => hm x (List.mem_cons_of_mem _ (List.mem_append_right _ (List.mem_cons_of_mem _ (List.mem_append_right _ (by rw [wL_r hL]; exact List.mem_flatMap.mpr ⟨j, List.mem_range.mpr hj, hx⟩)))))
  rw [pw_at k1, pk_at k2, e.1, e.2]
  exact ⟨mb _ (by unfold bWorker; simp), mb _ (by unfold bWorker bKey; simp)⟩
theorem at_dk (hm : ∀ x ∈ bLB dA nw ln h0 ((f, r, (lo, lk), (ta, tk), L), (c, a1, a2, a3, a4, a5, a6, a7), (sv, (dk, (d1, d2, d3, d4), Ld), (qu, qr, Lq), (le, (l1, l2, l3), Ll)), wa, Lw), va_at D clX x H) (hL : Ld.length = 10) {j : Nat} (hj : j < 10) : va_at D clX ((adC h0 [h0, f, r, lo, lk, ta, tk, c, a1, a2, a3, a4, a5, a6, a7, sv, dk, d1, d2, d3, d4, qu, qr, le, l1, l2, l3, wa] L Lw Ld Lq Ll) (69 + j), pcx (SC nw) (adC h0 [h0, f, r, lo, lk, ta, tk, c, a1, a2, a3, a4, a5, a6, a7, sv, dk, d1, d2, d3, d4, qu, qr, le, l1, l2, l3, wa] L Lw Ld Lq Ll) dA (s0C ln) (69 + j)) H := by
  have k1 : kdC (69 + j) = 1 := kd_rk hj
  rw [pk_at k1, ad_d (h0 := h0) (T := [h0, f, r, lo, lk, ta, tk, c, a1, a2, a3, a4, a5, a6, a7, sv, dk, d1, d2, d3, d4, qu, qr, le, l1, l2, l3, wa]) (L := L) (Lw := Lw) (Ld := Ld) (Lq := Lq) (Ll := Ll) (by omega)]
  refine hm _ (mm_D (List.mem_cons_of_mem _ (List.mem_append_right _ (List.mem_cons_of_mem _ (List.mem_append_right _ ?_)))))
  rw [kL_r hL]
  exact List.mem_map.mpr ⟨j, List.mem_range.mpr hj, rfl⟩
theorem at_qk (hm : ∀ x ∈ bLB dA nw ln h0 ((f, r, (lo, lk), (ta, tk), L), (c, a1, a2, a3, a4, a5, a6, a7), (sv, (dk, (d1, d2, d3, d4), Ld), (qu, qr, Lq), (le, (l1, l2, l3), Ll)), wa, Lw), va_at D clX x H) (hL : Lq.length = 10) {j : Nat} (hj : j < 10) : va_at D clX ((adC h0 [h0, f, r, lo, lk, ta, tk, c, a1, a2, a3, a4, a5, a6, a7, sv, dk, d1, d2, d3, d4, qu, qr, le, l1, l2, l3, wa] L Lw Ld Lq Ll) (81 + j), pcx (SC nw) (adC h0 [h0, f, r, lo, lk, ta, tk, c, a1, a2, a3, a4, a5, a6, a7, sv, dk, d1, d2, d3, d4, qu, qr, le, l1, l2, l3, wa] L Lw Ld Lq Ll) dA (s0C ln) (81 + j)) H := by
  have k1 : kdC (81 + j) = 1 := kd_qkT _ (by omega) (by omega)
  rw [pk_at k1, ad_q (h0 := h0) (T := [h0, f, r, lo, lk, ta, tk, c, a1, a2, a3, a4, a5, a6, a7, sv, dk, d1, d2, d3, d4, qu, qr, le, l1, l2, l3, wa]) (L := L) (Lw := Lw) (Ld := Ld) (Lq := Lq) (Ll := Ll) (by omega)]
  refine hm _ (mm_Q (List.mem_cons_of_mem _ (List.mem_append_right _ (List.mem_cons_of_mem _ (List.mem_append_right _ ?_)))))
  rw [kL_r hL]
  exact List.mem_map.mpr ⟨j, List.mem_range.mpr hj, rfl⟩
theorem at_lk (hm : ∀ x ∈ bLB dA nw ln h0 ((f, r, (lo, lk), (ta, tk), L), (c, a1, a2, a3, a4, a5, a6, a7), (sv, (dk, (d1, d2, d3, d4), Ld), (qu, qr, Lq), (le, (l1, l2, l3), Ll)), wa, Lw), va_at D clX x H) (hn : nw ≤ 4) (hL : Ll.length = nw) {j : Nat} (hj : j < nw) : va_at D clX ((adC h0 [h0, f, r, lo, lk, ta, tk, c, a1, a2, a3, a4, a5, a6, a7, sv, dk, d1, d2, d3, d4, qu, qr, le, l1, l2, l3, wa] L Lw Ld Lq Ll) (95 + j), pcx (SC nw) (adC h0 [h0, f, r, lo, lk, ta, tk, c, a1, a2, a3, a4, a5, a6, a7, sv, dk, d1, d2, d3, d4, qu, qr, le, l1, l2, l3, wa] L Lw Ld Lq Ll) dA (s0C ln) (95 + j)) H := by
  have k1 : kdC (95 + j) = 1 := kd_lk (by omega)
  rw [pk_at k1, ad_l (h0 := h0) (T := [h0, f, r, lo, lk, ta, tk, c, a1, a2, a3, a4, a5, a6, a7, sv, dk, d1, d2, d3, d4, qu, qr, le, l1, l2, l3, wa]) (L := L) (Lw := Lw) (Ld := Ld) (Lq := Lq) (Ll := Ll) (by omega)]
  refine hm _ (mm_L (List.mem_cons_of_mem _ (List.mem_append_right _ (List.mem_cons_of_mem _ (List.mem_append_right _ ?_)))))
  rw [kL_r hL]
  exact List.mem_map.mpr ⟨j, List.mem_range.mpr hj, rfl⟩
theorem at_2 (hm : ∀ x ∈ bLB dA nw ln h0 ((f, r, (lo, lk), (ta, tk), L), (c, a1, a2, a3, a4, a5, a6, a7), (sv, (dk, (d1, d2, d3, d4), Ld), (qu, qr, Lq), (le, (l1, l2, l3), Ll)), wa, Lw), va_at D clX x H) (hL : L.length = 24) : va_at D clX ((adC h0 [h0, f, r, lo, lk, ta, tk, c, a1, a2, a3, a4, a5, a6, a7, sv, dk, d1, d2, d3, d4, qu, qr, le, l1, l2, l3, wa] L Lw Ld Lq Ll) 2, pcx (SC nw) (adC h0 [h0, f, r, lo, lk, ta, tk, c, a1, a2, a3, a4, a5, a6, a7, sv, dk, d1, d2, d3, d4, qu, qr, le, l1, l2, l3, wa] L Lw Ld Lq Ll) dA (s0C ln) 2) H := by
  rw [pcx_arr (S := SC nw) (κ := 100) (t := 4) (n := 24) (y := 3) rfl (by decide) rfl]
  refine at_arr (hm (r, .inl (dA 3, (24, .inr (.inr (.inr (.inr (fun j => (L[j]?).map Prod.fst))))))) (mm_F (by unfold bFlight; simp))) (fun j hj => ?_)
  rw [gd_at (by omega) (0, 0)]
  exact congrArg some (ad_m (h0 := h0) (T := [h0, f, r, lo, lk, ta, tk, c, a1, a2, a3, a4, a5, a6, a7, sv, dk, d1, d2, d3, d4, qu, qr, le, l1, l2, l3, wa]) (L := L) (Lw := Lw) (Ld := Ld) (Lq := Lq) (Ll := Ll) hj).1.symm
theorem at_67 (hm : ∀ x ∈ bLB dA nw ln h0 ((f, r, (lo, lk), (ta, tk), L), (c, a1, a2, a3, a4, a5, a6, a7), (sv, (dk, (d1, d2, d3, d4), Ld), (qu, qr, Lq), (le, (l1, l2, l3), Ll)), wa, Lw), va_at D clX x H) (hL : Ld.length = 10) : va_at D clX ((adC h0 [h0, f, r, lo, lk, ta, tk, c, a1, a2, a3, a4, a5, a6, a7, sv, dk, d1, d2, d3, d4, qu, qr, le, l1, l2, l3, wa] L Lw Ld Lq Ll) 67, pcx (SC nw) (adC h0 [h0, f, r, lo, lk, ta, tk, c, a1, a2, a3, a4, a5, a6, a7, sv, dk, d1, d2, d3, d4, qu, qr, le, l1, l2, l3, wa] L Lw Ld Lq Ll) dA (s0C ln) 67) H := by
  rw [pcx_arr (S := SC nw) (κ := 109) (t := 5) (n := 10) (y := 4) rfl (by decide) rfl]
  refine at_arr (hm (d3, .inl (dA 4, (10, .inr (.inr (.inr (.inr (fun j => Ld[j]?))))))) (mm_D (by unfold bDisk; simp))) (fun j hj => ?_)
  rw [gd_at (by omega) 0]
  exact congrArg some (ad_d (h0 := h0) (T := [h0, f, r, lo, lk, ta, tk, c, a1, a2, a3, a4, a5, a6, a7, sv, dk, d1, d2, d3, d4, qu, qr, le, l1, l2, l3, wa]) (L := L) (Lw := Lw) (Ld := Ld) (Lq := Lq) (Ll := Ll) (by omega)).symm
theorem at_80 (hm : ∀ x ∈ bLB dA nw ln h0 ((f, r, (lo, lk), (ta, tk), L), (c, a1, a2, a3, a4, a5, a6, a7), (sv, (dk, (d1, d2, d3, d4), Ld), (qu, qr, Lq), (le, (l1, l2, l3), Ll)), wa, Lw), va_at D clX x H) (hL : Lq.length = 10) : va_at D clX ((adC h0 [h0, f, r, lo, lk, ta, tk, c, a1, a2, a3, a4, a5, a6, a7, sv, dk, d1, d2, d3, d4, qu, qr, le, l1, l2, l3, wa] L Lw Ld Lq Ll) 80, pcx (SC nw) (adC h0 [h0, f, r, lo, lk, ta, tk, c, a1, a2, a3, a4, a5, a6, a7, sv, dk, d1, d2, d3, d4, qu, qr, le, l1, l2, l3, wa] L Lw Ld Lq Ll) dA (s0C ln) 80) H := by
  rw [pcx_arr (S := SC nw) (κ := 111) (t := 4) (n := 10) (y := 4) rfl (by decide) rfl]
  refine at_arr (hm (qr, .inl (dA 4, (10, .inr (.inr (.inr (.inr (fun j => Lq[j]?))))))) (mm_Q (by unfold bQueue; simp))) (fun j hj => ?_)
  rw [gd_at (by omega) 0]
  exact congrArg some (ad_q (h0 := h0) (T := [h0, f, r, lo, lk, ta, tk, c, a1, a2, a3, a4, a5, a6, a7, sv, dk, d1, d2, d3, d4, qu, qr, le, l1, l2, l3, wa]) (L := L) (Lw := Lw) (Ld := Ld) (Lq := Lq) (Ll := Ll) (by omega)).symm
theorem at_93 (hm : ∀ x ∈ bLB dA nw ln h0 ((f, r, (lo, lk), (ta, tk), L), (c, a1, a2, a3, a4, a5, a6, a7), (sv, (dk, (d1, d2, d3, d4), Ld), (qu, qr, Lq), (le, (l1, l2, l3), Ll)), wa, Lw), va_at D clX x H) (hn : nw ≤ 4) (hL : Ll.length = nw) : va_at D clX ((adC h0 [h0, f, r, lo, lk, ta, tk, c, a1, a2, a3, a4, a5, a6, a7, sv, dk, d1, d2, d3, d4, qu, qr, le, l1, l2, l3, wa] L Lw Ld Lq Ll) 93, pcx (SC nw) (adC h0 [h0, f, r, lo, lk, ta, tk, c, a1, a2, a3, a4, a5, a6, a7, sv, dk, d1, d2, d3, d4, qu, qr, le, l1, l2, l3, wa] L Lw Ld Lq Ll) dA (s0C ln) 93) H := by
  rw [pcx_arr (S := SC nw) (κ := 113) (t := 5) (n := nw) (y := 4) rfl (by decide) rfl]
  refine at_arr (hm (l2, .inl (dA 4, (nw, .inr (.inr (.inr (.inr (fun j => Ll[j]?))))))) (mm_L (by unfold bLeases; simp))) (fun j hj => ?_)
  rw [gd_at (by omega) 0]
  exact congrArg some (ad_l (h0 := h0) (T := [h0, f, r, lo, lk, ta, tk, c, a1, a2, a3, a4, a5, a6, a7, sv, dk, d1, d2, d3, d4, qu, qr, le, l1, l2, l3, wa]) (L := L) (Lw := Lw) (Ld := Ld) (Lq := Lq) (Ll := Ll) (by omega)).symm
theorem at_99 (hm : ∀ x ∈ bLB dA nw ln h0 ((f, r, (lo, lk), (ta, tk), L), (c, a1, a2, a3, a4, a5, a6, a7), (sv, (dk, (d1, d2, d3, d4), Ld), (qu, qr, Lq), (le, (l1, l2, l3), Ll)), wa, Lw), va_at D clX x H) (hL : Lw.length = nw) : va_at D clX ((adC h0 [h0, f, r, lo, lk, ta, tk, c, a1, a2, a3, a4, a5, a6, a7, sv, dk, d1, d2, d3, d4, qu, qr, le, l1, l2, l3, wa] L Lw Ld Lq Ll) 99, pcx (SC nw) (adC h0 [h0, f, r, lo, lk, ta, tk, c, a1, a2, a3, a4, a5, a6, a7, sv, dk, d1, d2, d3, d4, qu, qr, le, l1, l2, l3, wa] L Lw Ld Lq Ll) dA (s0C ln) 99) H := by
  rw [pcx_arr (S := SC nw) (κ := 115) (t := 5) (n := nw) (y := 5) rfl (by decide) rfl]
  refine at_arr (hm (wa, .inl (dA 5, (nw, .inr (.inr (.inr (.inr (fun j => (Lw[j]?).map Prod.fst))))))) (by unfold bLB; simp)) (fun j hj => ?_)
  rw [gd_at (by omega) (0, 0)]
  exact congrArg some (ad_w (h0 := h0) (T := [h0, f, r, lo, lk, ta, tk, c, a1, a2, a3, a4, a5, a6, a7, sv, dk, d1, d2, d3, d4, qu, qr, le, l1, l2, l3, wa]) (L := L) (Lw := Lw) (Ld := Ld) (Lq := Lq) (Ll := Ll)).1.symm
theorem at_all (hm : ∀ x ∈ bLB dA nw ln h0 ((f, r, (lo, lk), (ta, tk), L), (c, a1, a2, a3, a4, a5, a6, a7), (sv, (dk, (d1, d2, d3, d4), Ld), (qu, qr, Lq), (le, (l1, l2, l3), Ll)), wa, Lw), va_at D clX x H) (hn : nw ≤ 4) (hL : L.length = 24) (hd : Ld.length = 10) (hq : Lq.length = 10) (hl : Ll.length = nw) (hw : Lw.length = nw) : ∀ q, q ∈ obC nw → va_at D clX ((adC h0 [h0, f, r, lo, lk, ta, tk, c, a1, a2, a3, a4, a5, a6, a7, sv, dk, d1, d2, d3, d4, qu, qr, le, l1, l2, l3, wa] L Lw Ld Lq Ll) q, pcx (SC nw) (adC h0 [h0, f, r, lo, lk, ta, tk, c, a1, a2, a3, a4, a5, a6, a7, sv, dk, d1, d2, d3, d4, qu, qr, le, l1, l2, l3, wa] L Lw Ld Lq Ll) dA (s0C ln) q) H := by
  intro q ho
  rw [obC_r] at ho
  simp only [List.mem_append, List.mem_flatMap, List.mem_map, List.mem_range, List.mem_cons, List.not_mem_nil, or_false] at ho
  rcases ho with (rfl | rfl | rfl | rfl | rfl | rfl | rfl) | ⟨j, hj, rfl | rfl⟩ | (rfl | rfl | rfl | rfl | rfl | rfl | rfl | rfl | rfl | rfl | rfl | rfl | rfl | rfl) | ⟨j, hj, rfl⟩ | (rfl | rfl) | ⟨j, hj, rfl⟩ | (rfl | rfl | rfl | rfl) | ⟨j, hj, rfl⟩ | rfl | ⟨j, hj, rfl | rfl⟩
  · exact at_0 hm
  · exact at_1 hm
  · exact at_2 hm hL
  · exact at_3 hm
  · exact at_4 hm
  · exact at_5 hm
  · exact at_6 hm
  · exact (at_m hm hL hj).1
  · exact (at_m hm hL hj).2
  · exact at_55 hm
  · exact at_56 hm
  · exact at_57 hm
  · exact at_58 hm
  · exact at_59 hm
  · exact at_60 hm
  · exact at_61 hm
  · exact at_62 hm
  · exact at_63 hm
  · exact at_64 hm
  · exact at_65 hm
  · exact at_66 hm
  · exact at_67 hm hd
  · exact at_68 hm
  · exact at_dk hm hd hj
  · exact at_79 hm
  · exact at_80 hm hq
  · exact at_qk hm hq hj
  · exact at_91 hm
  · exact at_92 hm
  · exact at_93 hm hn hl
  · exact at_94 hm
  · exact at_lk hm hn hl hj
  · exact at_99 hm hw
  · exact (at_w hm hn hw hj).1
  · exact (at_w hm hn hw hj).2
theorem wd_C {W0 : va_W} (hP : va_P D clX (W0 ++ bLB dA nw ln h0 ((f, r, (lo, lk), (ta, tk), L), (c, a1, a2, a3, a4, a5, a6, a7), (sv, (dk, (d1, d2, d3, d4), Ld), (qu, qr, Lq), (le, (l1, l2, l3), Ll)), wa, Lw)) H) (hn : nw ≤ 4) (hL : L.length = 24) (hd : Ld.length = 10) (hq : Lq.length = 10) (hl : Ll.length = nw) (hw : Lw.length = nw) : va_P D clX (wd (SC nw) (adC h0 [h0, f, r, lo, lk, ta, tk, c, a1, a2, a3, a4, a5, a6, a7, sv, dk, d1, d2, d3, d4, qu, qr, le, l1, l2, l3, wa] L Lw Ld Lq Ll) dA (obC nw) (s0C ln)) H := by
  have hm : ∀ x ∈ bLB dA nw ln h0 ((f, r, (lo, lk), (ta, tk), L), (c, a1, a2, a3, a4, a5, a6, a7), (sv, (dk, (d1, d2, d3, d4), Ld), (qu, qr, Lq), (le, (l1, l2, l3), Ll)), wa, Lw), va_at D clX x H := fun x hx => by
    obtain ⟨i, hi⟩ := List.getElem?_of_mem (List.mem_append_right W0 hx)
    exact hP i x hi
  intro k q hk
  unfold wd at hk
  rw [List.getElem?_map] at hk
  obtain ⟨y, hy, rfl⟩ := Option.map_eq_some_iff.mp hk
  exact at_all hm hn hL hd hq hl hw y (List.mem_of_getElem? hy)
end WE
