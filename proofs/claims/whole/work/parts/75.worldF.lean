/-! addresses at the start are apart -/
theorem inj_of {ad : Nat → Nat} {ob : List Nat} {A : Nat → Prop} {W0 B : va_W} (hD : va_D A (W0 ++ B)) (he : B.map Prod.fst = ob.map ad) (hn : va_nd ob = true) : Inj ad ob := by
  have at' : ∀ (i q : Nat), ob[i]? = some q → ∃ p : Nat × va_E, (W0 ++ B)[W0.length + i]? = some p ∧ p.1 = ad q := fun i q hi => by
    have h1 : (B.map Prod.fst)[i]? = some (ad q) := by rw [he, List.getElem?_map, hi]; rfl
    rw [List.getElem?_map] at h1
    obtain ⟨p, hp, e⟩ := Option.map_eq_some_iff.mp h1
    exact ⟨p, by rw [List.getElem?_append_right (by omega), show W0.length + i - W0.length = i by omega]; exact hp, e⟩
  refine ⟨va_nd_inj ob hn, fun q q' hq hq' e => ?_⟩
  obtain ⟨i, hi⟩ := List.getElem?_of_mem hq
  obtain ⟨j, hj⟩ := List.getElem?_of_mem hq'
  obtain ⟨p, hp, ep⟩ := at' i q hi
  obtain ⟨p', hp', ep'⟩ := at' j q' hj
  have := hD.1 _ _ p p' hp hp' (by rw [ep, ep', e])
  have hij : i = j := by omega
  rw [hij, hj] at hi
  exact (Option.some.inj hi).symm
theorem nd_C {nw : Nat} (h : nw ≤ 4) : va_nd (obC nw) = true := by
  rcases (show nw = 0 ∨ nw = 1 ∨ nw = 2 ∨ nw = 3 ∨ nw = 4 by omega) with rfl | rfl | rfl | rfl | rfl <;> decide +kernel
theorem nd_M : va_nd obM = true := by decide +kernel
theorem wd_fst (S : Sc) (ad : Nat → Nat) (dA : Nat → ClassId) (ob : List Nat) (σ : Sg) : (wd S ad dA ob σ).map Prod.fst = ob.map ad := by
  unfold wd
  rw [List.map_map]
  rfl
section WF9
variable {D : va_G} {dA : Nat → ClassId} {H : Heap} {nw ln h0 f r lo lk ta tk c a1 a2 a3 a4 a5 a6 a7 sv dk d1 d2 d3 d4 qu qr le l1 l2 l3 wa : Nat} {L Lw : List (Nat × Nat)} {Ld Lq Ll : List Nat}
theorem ad_list (hn : nw ≤ 4) (hL : L.length = 24) (hd : Ld.length = 10) (hq : Lq.length = 10) (hl : Ll.length = nw) (hw : Lw.length = nw) : (bLB dA nw ln h0 ((f, r, (lo, lk), (ta, tk), L), (c, a1, a2, a3, a4, a5, a6, a7), (sv, (dk, (d1, d2, d3, d4), Ld), (qu, qr, Lq), (le, (l1, l2, l3), Ll)), wa, Lw)).map Prod.fst = (obC nw).map (adC h0 [h0, f, r, lo, lk, ta, tk, c, a1, a2, a3, a4, a5, a6, a7, sv, dk, d1, d2, d3, d4, qu, qr, le, l1, l2, l3, wa] L Lw Ld Lq Ll) := by
  have eM : (List.range 24).flatMap (fun j => [(adC h0 [h0, f, r, lo, lk, ta, tk, c, a1, a2, a3, a4, a5, a6, a7, sv, dk, d1, d2, d3, d4, qu, qr, le, l1, l2, l3, wa] L Lw Ld Lq Ll) (7 + 2 * j), (adC h0 [h0, f, r, lo, lk, ta, tk, c, a1, a2, a3, a4, a5, a6, a7, sv, dk, d1, d2, d3, d4, qu, qr, le, l1, l2, l3, wa] L Lw Ld Lq Ll) (7 + 2 * j + 1)]) = (mL L).map Prod.fst := by
    rw [mL_r hL, List.map_flatMap]
    exact fm_congr (fun j hj => by rw [(ad_m (h0 := h0) (T := [h0, f, r, lo, lk, ta, tk, c, a1, a2, a3, a4, a5, a6, a7, sv, dk, d1, d2, d3, d4, qu, qr, le, l1, l2, l3, wa]) (L := L) (Lw := Lw) (Ld := Ld) (Lq := Lq) (Ll := Ll) hj).1, (ad_m (h0 := h0) (T := [h0, f, r, lo, lk, ta, tk, c, a1, a2, a3, a4, a5, a6, a7, sv, dk, d1, d2, d3, d4, qu, qr, le, l1, l2, l3, wa]) (L := L) (Lw := Lw) (Ld := Ld) (Lq := Lq) (Ll := Ll) hj).2]; rfl)
  have eW : (List.range nw).flatMap (fun j => [(adC h0 [h0, f, r, lo, lk, ta, tk, c, a1, a2, a3, a4, a5, a6, a7, sv, dk, d1, d2, d3, d4, qu, qr, le, l1, l2, l3, wa] L Lw Ld Lq Ll) (100 + 2 * j), (adC h0 [h0, f, r, lo, lk, ta, tk, c, a1, a2, a3, a4, a5, a6, a7, sv, dk, d1, d2, d3, d4, qu, qr, le, l1, l2, l3, wa] L Lw Ld Lq Ll) (100 + 2 * j + 1)]) = (wL Lw).map Prod.fst := by
    rw [wL_r hw, List.map_flatMap]
    exact fm_congr (fun j hj => by rw [(ad_w (h0 := h0) (T := [h0, f, r, lo, lk, ta, tk, c, a1, a2, a3, a4, a5, a6, a7, sv, dk, d1, d2, d3, d4, qu, qr, le, l1, l2, l3, wa]) (L := L) (Lw := Lw) (Ld := Ld) (Lq := Lq) (Ll := Ll)).1, (ad_w (h0 := h0) (T := [h0, f, r, lo, lk, ta, tk, c, a1, a2, a3, a4, a5, a6, a7, sv, dk, d1, d2, d3, d4, qu, qr, le, l1, l2, l3, wa]) (L := L) (Lw := Lw) (Ld := Ld) (Lq := Lq) (Ll := Ll)).2]; rfl)
  have eD : (List.range 10).map (fun j => (adC h0 [h0, f, r, lo, lk, ta, tk, c, a1, a2, a3, a4, a5, a6, a7, sv, dk, d1, d2, d3, d4, qu, qr, le, l1, l2, l3, wa] L Lw Ld Lq Ll) (69 + j)) = (kL Ld).map Prod.fst := by
    rw [kL_r hd, List.map_map]
    exact List.map_congr_left (fun j hj => ad_d (h0 := h0) (T := [h0, f, r, lo, lk, ta, tk, c, a1, a2, a3, a4, a5, a6, a7, sv, dk, d1, d2, d3, d4, qu, qr, le, l1, l2, l3, wa]) (L := L) (Lw := Lw) (Ld := Ld) (Lq := Lq) (Ll := Ll) (List.mem_range.mp hj))
  have eQ : (List.range 10).map (fun j => (adC h0 [h0, f, r, lo, lk, ta, tk, c, a1, a2, a3, a4, a5, a6, a7, sv, dk, d1, d2, d3, d4, qu, qr, le, l1, l2, l3, wa] L Lw Ld Lq Ll) (81 + j)) = (kL Lq).map Prod.fst := by
    rw [kL_r hq, List.map_map]
    exact List.map_congr_left (fun j hj => ad_q (h0 := h0) (T := [h0, f, r, lo, lk, ta, tk, c, a1, a2, a3, a4, a5, a6, a7, sv, dk, d1, d2, d3, d4, qu, qr, le, l1, l2, l3, wa]) (L := L) (Lw := Lw) (Ld := Ld) (Lq := Lq) (Ll := Ll) (List.mem_range.mp hj))
  have eL : (List.range nw).map (fun j => (adC h0 [h0, f, r, lo, lk, ta, tk, c, a1, a2, a3, a4, a5, a6, a7, sv, dk, d1, d2, d3, d4, qu, qr, le, l1, l2, l3, wa] L Lw Ld Lq Ll) (95 + j)) = (kL Ll).map Prod.fst := by
    rw [kL_r hl, List.map_map]
    exact List.map_congr_left (fun j hj => ad_l (h0 := h0) (T := [h0, f, r, lo, lk, ta, tk, c, a1, a2, a3, a4, a5, a6, a7, sv, dk, d1, d2, d3, d4, qu, qr, le, l1, l2, l3, wa]) (L := L) (Lw := Lw) (Ld := Ld) (Lq := Lq) (Ll := Ll) (by have := List.mem_range.mp hj; omega))
  rw [obC_r]
  simp only [List.map_append, List.map_flatMap, List.map_map, List.map_cons, List.map_nil, Function.comp_def]
  rw [eM, eW, eD, eQ, eL]
  show (bLB dA nw ln h0 ((f, r, (lo, lk), (ta, tk), L), (c, a1, a2, a3, a4, a5, a6, a7), (sv, (dk, (d1, d2, d3, d4), Ld), (qu, qr, Lq), (le, (l1, l2, l3), Ll)), wa, Lw)).map Prod.fst = [h0, f, r, lo, lk, ta, tk] ++ ((mL L).map Prod.fst ++ ([c, a1, a2, a3, a4, a5, a6, a7, sv, dk, d1, d2, d3, d4] ++ ((kL Ld).map Prod.fst ++ ([qu, qr] ++ ((kL Lq).map Prod.fst ++ ([le, l1, l2, l3] ++ ((kL Ll).map Prod.fst ++ ([wa] ++ (wL Lw).map Prod.fst))))))))
  unfold bLB bFlight bClient bServer bDisk bQueue bLeases bMessage bKey
  simp
theorem inj_C {A : Nat → Prop} {W0 : va_W} (hD : va_D A (W0 ++ bLB dA nw ln h0 ((f, r, (lo, lk), (ta, tk), L), (c, a1, a2, a3, a4, a5, a6, a7), (sv, (dk, (d1, d2, d3, d4), Ld), (qu, qr, Lq), (le, (l1, l2, l3), Ll)), wa, Lw))) (hn : nw ≤ 4) (hL : L.length = 24) (hd : Ld.length = 10) (hq : Lq.length = 10) (hl : Ll.length = nw) (hw : Lw.length = nw) : Inj (adC h0 [h0, f, r, lo, lk, ta, tk, c, a1, a2, a3, a4, a5, a6, a7, sv, dk, d1, d2, d3, d4, qu, qr, le, l1, l2, l3, wa] L Lw Ld Lq Ll) (obC nw) := inj_of hD (ad_list hn hL hd hq hl hw) (nd_C hn)
end WF9
theorem inj_M {A : Nat → Prop} {W0 : va_W} {dA : Nat → ClassId} {nw ln h0 : Nat} {u : Nat → Nat} (hD : va_D A (W0 ++ bMd dA nw ln h0 u)) : Inj (adM h0 u) obM := inj_of hD (by rw [wd_M]; exact wd_fst _ _ _ _ _) nd_M
