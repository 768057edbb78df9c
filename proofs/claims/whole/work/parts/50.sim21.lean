/-! both sides at once: a lease is given -/
section GV
variable {nw b B : Nat} {σ μ : Sg}
theorem sim_lGive {j k q T : Nat} (h : Sim nw b B σ μ) (hj : j < nw) (hn : nw ≤ 4) (hb : gB σ 112 j = false) (hk : k < gN μ 14 0) (h114 : gN μ 114 k = 0) (h115 : gN μ 115 k = 0) (hq : kof σ q = mK3 μ k) (hT : T < 2 ^ 30) (hT' : T ≤ B + 40) : Sim nw b B (lGive σ (j + 1) q T) (sN (sN (sN μ 115 k (j + 1)) 116 k T) 3 0 (j + 1)) := by
  have hw := wf_give (q := q) h.1 (show j + 1 ≤ nw from hj) hT
  have lg : lGive σ (j + 1) q T = sN (sN (kcopy (sB σ 112 j true) (95 + j) q) 114 j T) 54 91 (j + 1) := by
    unfold lGive
    rw [Nat.add_sub_cancel]
  rw [lg] at hw ⊢
  obtain ⟨h1, h2, h3, ⟨fs, qs, hs, rs, r⟩, h5⟩ := h
  have hnw := r.nw'
  have em : Em [5] μ (sN (sN (sN μ 115 k (j + 1)) 116 k T) 3 0 (j + 1)) := (emN_115 μ _ _).seq ((emN_116 _ _ _).seq (emN_3 _ _ _) (L := [5]) (by decide)) (by decide)
  have e115 : gN (sN (sN (sN μ 115 k (j + 1)) 116 k T) 3 0 (j + 1)) 115 = up1 (gN μ 115) k (j + 1) := gN_up μ 115 _ _
  have e116 : gN (sN (sN (sN μ 115 k (j + 1)) 116 k T) 3 0 (j + 1)) 116 = up1 (gN μ 116) k T := gN_up (sN μ 115 k (j + 1)) 116 _ _
  have e112 : gB (sN (sN (kcopy (sB σ 112 j true) (95 + j) q) 114 j T) 54 91 (j + 1)) 112 = up1 (gB σ 112) j true := gB_up σ 112 j true
  have e114 : gN (sN (sN (kcopy (sB σ 112 j true) (95 + j) q) 114 j T) 54 91 (j + 1)) 114 = up1 (gN σ 114) j T := (gN_of _ 91 (j + 1) (by decide)).trans (gN_up (kcopy (sB σ 112 j true) (95 + j) q) 114 j T)
  have ew : Ex [5] σ (sN (sN (kcopy (sB σ 112 j true) (95 + j) q) 114 j T) 54 91 (j + 1)) := (exB_112 σ _ _).seq ((ex_kL (σ := sB σ 112 j true) (o := 95 + j) _ _ _ h1.R3 h1.Q3 (by omega)).seq ((exN_114 _ _ _).seq (exN_54 _ _ _) (L := [5]) (by decide)) (L := [5]) (by decide)) (by decide)
  refine ⟨hw, h2.of rfl rfl rfl, wfm_3 (wfm_116 (wfm_115 h3 (by omega)) hT') (show j + 1 ≤ gN μ 0 0 by omega), ⟨fs, qs, up1 hs j k, rs, rel_lease r ew em ?_ ?_⟩, inv_queue h5 (em.mono (by decide))⟩
  · refine ⟨fun x hx hxb => ?_, fun y hy => ?_, rfl⟩
    · have hxb : gB (sN (sN (kcopy (sB σ 112 j true) (95 + j) q) 114 j T) 54 91 (j + 1)) 112 x = true := hxb
      rw [e112] at hxb
      rw [vL_k' (by omega)]
      show up1 hs j k x < gN μ 14 0 ∧ gN (sN (sN (sN μ 115 k (j + 1)) 116 k T) 3 0 (j + 1)) 115 (up1 hs j k x) = x + 1 ∧ kof (kcopy (sB σ 112 j true) (95 + j) q) (95 + x) = mK3 μ (up1 hs j k x) ∧ gN (sN (sN (kcopy (sB σ 112 j true) (95 + j) q) 114 j T) 54 91 (j + 1)) 114 x = gN (sN (sN (sN μ 115 k (j + 1)) 116 k T) 3 0 (j + 1)) 116 (up1 hs j k x)
      rw [e115, e116, e114]
      by_cases c : x = j
      · rw [c, up1_s, up1_s, up1_s, up1_s]
        refine ⟨hk, rfl, ?_, rfl⟩
        unfold kcopy
        rw [kof_s]
        exact hq
      · rw [up1_n _ _ c] at hxb
        obtain ⟨a1, a2, a3, a4⟩ := r.L.1 x hx hxb
        have a2 : gN μ 115 (hs x) = x + 1 := a2
        have ne : hs x ≠ k := fun z => by rw [z] at a2; omega
        rw [up1_n _ _ c, up1_n _ _ ne, up1_n _ _ ne, up1_n _ _ c]
        refine ⟨a1, a2, ?_, a4⟩
        unfold kcopy
        rw [kof_n _ _ _ _ (by omega)]
        rw [vL_k' (by omega)] at a3
        exact a3
    · have hy : 0 < gN (sN (sN (sN μ 115 k (j + 1)) 116 k T) 3 0 (j + 1)) 115 y := hy
      show ∃ x, x < nw ∧ gB (sN (sN (kcopy (sB σ 112 j true) (95 + j) q) 114 j T) 54 91 (j + 1)) 112 x = true ∧ gN (sN (sN (sN μ 115 k (j + 1)) 116 k T) 3 0 (j + 1)) 115 y = x + 1 ∧ up1 hs j k x = y
      rw [e115] at hy ⊢
      rw [e112]
      by_cases c : y = k
      · exact ⟨j, hj, by rw [up1_s], by rw [c, up1_s], by rw [up1_s, c]⟩
      · rw [up1_n _ _ c] at hy
        obtain ⟨x, x1, x2, x3, x4⟩ := r.L.2.1 y hy
        have x2 : gB σ 112 x = true := x2
        have ne : x ≠ j := fun z => by rw [z, hb] at x2; cases x2
        exact ⟨x, x1, by rw [up1_n _ _ ne]; exact x2, by rw [up1_n _ _ c]; exact x3, by rw [up1_n _ _ ne]; exact x4⟩
  · intro x hx
    show gN (sN (sN (sN μ 115 k (j + 1)) 116 k T) 3 0 (j + 1)) 115 x = 0
    have hx : 0 < gN μ 114 x := hx
    rw [e115]
    by_cases c : x = k
    · rw [c, h114] at hx; omega
    · rw [up1_n _ _ c]; exact r.X x hx
theorem rem_N (s : Sg) (k : Nat) {f : Nat} (hf : f ≠ 111 ∧ f ≠ 39) (o v : Nat) : qRem (sN s f o v) k = sN (qRem s k) f o v := by
  have e1 : gN (sN s f o v) 39 79 = gN s 39 79 := if_neg (fun z => hf.2 z.1.symm)
  have e2 : ∀ x, gN (sN s f o v) 111 x = gN s 111 x := fun x => if_neg (fun z => hf.1 z.1.symm)
  unfold qRem
  rw [e1, e2]
  refine sg_ext (fun _ _ => rfl) (fun _ _ => rfl) (fun x y => ?_) (fun _ _ => rfl)
  show (if x = 111 ∧ y = gN s 39 79 - 1 then gN s 111 k else if x = 39 ∧ y = 79 then gN s 39 79 - 1 else if x = 111 ∧ k ≤ y ∧ y + 1 < gN s 39 79 then gN (sN s f o v) 111 (y + 1) else if x = f ∧ y = o then v else gN s x y) = if x = f ∧ y = o then v else if x = 111 ∧ y = gN s 39 79 - 1 then gN s 111 k else if x = 39 ∧ y = 79 then gN s 39 79 - 1 else if x = 111 ∧ k ≤ y ∧ y + 1 < gN s 39 79 then gN s 111 (y + 1) else gN s x y
  rw [e2]
  by_cases c : x = f ∧ y = o
  · rw [if_pos c, if_neg (fun z => hf.1 (c.1.symm.trans z.1)), if_neg (fun z => hf.2 (c.1.symm.trans z.1)), if_neg (fun z => hf.1 (c.1.symm.trans z.1)), if_pos c]
  · rw [if_neg c, if_neg c]
theorem rem_send (s : Sg) (k a r : Nat) : qRem (fSend s a r) k = fSend (qRem s k) a r := by
  unfold fSend
  show qRem (if gN s 21 1 < 24 then _ else _) k = if gN s 21 1 < 24 then _ else _
  by_cases c : gN s 21 1 < 24
  · rw [if_pos c, if_pos c, rem_N _ _ (by decide), rem_N _ _ (by decide), rem_N _ _ (by decide), rem_N _ _ (by decide)]
    rfl
  · rw [if_neg c, if_neg c, rem_N _ _ (by decide), rem_N _ _ (by decide), rem_N _ _ (by decide)]
    rfl
theorem rem_lease (s : Sg) (k w q : Nat) : qRem (sLease s w q) k = sLease (qRem s k) w q := by
  have e1 : sLease1 (qRem s k) w q = qRem (sLease1 s w q) k := by
    unfold sLease1
    rw [← rem_send]
    rfl
  have e2 : sLease2 (qRem s k) w q = qRem (sLease2 s w q) k := by
    unfold sLease2
    rw [e1]
    rfl
  unfold sLease
  rw [e2, e1]
  rfl
theorem rem_gv1 (s : Sg) (t w : Nat) : qRem (gv1 s t w) 0 = sN (lGive (qRem s 0) w (gN s 111 0) (t + gN s 44 63)) 46 63 (gN s 46 63 + 1) := by
  unfold gv1 lGive
  rw [rem_N _ _ (by decide), rem_N _ _ (by decide), rem_N _ _ (by decide)]
  rfl
theorem lease_q (s : Sg) (w q : Nat) : gN (sLease s w q) 39 79 = gN s 39 79 := send_N s 4 w (by decide) 79
theorem gvS_eq {t w : Nat} (h : 0 < gN σ 39 79) : gvS σ t w = sLease (sN (lGive (qRem σ 0) w (gN σ 111 0) (t + gN σ 44 63)) 46 63 (gN σ 46 63 + 1)) w (gN σ 111 0) := by
  unfold gvS qRemI
  rw [lease_q]
  show (if inR (nI 0) (gN σ 39 79) = true then _ else _) = _
  rw [inR_nI (by decide), if_pos (decide_eq_true h), nI_clamp (by decide), rem_lease, rem_gv1]
  rfl
theorem sim_give {fs qs hs rs : Nat → Nat} {j t : Nat} (h : Sim nw b B σ μ) (r : Rel nw b σ μ fs qs hs rs) (h0 : 0 < gN σ 39 79) (hj : j < nw) (hn : nw ≤ 4) (hb : gB σ 112 j = false) (ht : gN σ 4 0 = t) (ht9 : t < 2 ^ 29) : Sim nw b (B + 1) (gvS σ t (j + 1)) (mLen2 μ (qs 0) (j + 1)) := by
  have hq10 := h.1.q
  have hks := h.2.2.1.ks
  have hln := h.2.2.1.ln
  have htm := h.2.2.1.tm
  have q0 : qs 0 < gN μ 14 0 := (r.Q.2.1 0 h0).1
  have kq : kof σ (gN σ 111 0) = mK3 μ (qs 0) := (show kof σ (gN σ 111 0) = (vQ σ).2 0 from rfl).trans (r.Q.2.1 0 h0).2
  have l0 : gN μ 115 (qs 0) = 0 := r.X (qs 0) (r.Q.1.1 0 h0)
  have row := h.1.Q3 0 (by decide)
  have s1 := sim_qDel h r h0
  have s2 := sim_lGive (q := gN σ 111 0) (T := t + gN σ 44 63) s1 hj hn hb q0 (by rw [gN_up, up1_s]) l0 kq (by rw [r.ln]; omega) (by rw [r.ln, ← ht, r.tm]; omega)
  have s3 := sim_leases (v := gN σ 46 63 + 1) (v' := gN μ 43 0 + 1) s2 rfl rfl
  rw [gvS_eq h0]
  unfold mLen2
  have e1 : mLen1 μ (qs 0) (j + 1) = sN (sN (sN (sN (sN μ 114 (qs 0) 0) 115 (qs 0) (j + 1)) 116 (qs 0) (t + gN σ 44 63)) 3 0 (j + 1)) 43 0 (gN μ 43 0 + 1) := by
    unfold mLen1
    rw [r.ln, ← ht, r.tm]
  have d1 : dOf σ (gI μ 110 (qs 0)) = mOf μ (mFind μ (gI μ 110 (qs 0))) := dOf_eq r.D _
  have d2 : dOf σ (gI μ 111 (qs 0)) = mOf μ (mFind μ (gI μ 111 (qs 0))) := dOf_eq r.D _
  have f1 : mFind (mLen1 μ (qs 0) (j + 1)) (gI μ 110 (qs 0)) = mFind μ (gI μ 110 (qs 0)) := rfl
  have f2 : mFind (mLen1 μ (qs 0) (j + 1)) (gI μ 111 (qs 0)) = mFind μ (gI μ 111 (qs 0)) := rfl
  rw [f1, f2, e1, ← d1, ← d2]
  have b1 := to_b s3.1
  have kq3 : kof (sN (lGive (qRem σ 0) (j + 1) (gN σ 111 0) (t + gN σ 44 63)) 46 63 (gN σ 46 63 + 1)) (gN σ 111 0) = mK3 μ (qs 0) := by
    show kof (kcopy (sB (qRem σ 0) 112 j true) (95 + j) (gN σ 111 0)) (gN σ 111 0) = _
    unfold kcopy
    rw [kof_n _ _ _ _ (by omega)]
    exact kq
  have x7 : gI (sN (lGive (qRem σ 0) (j + 1) (gN σ 111 0) (t + gN σ 44 63)) 46 63 (gN σ 46 63 + 1)) 7 (gN σ 111 0) = gI μ 110 (qs 0) := congrArg (fun z => z.2.1) kq3
  have x8 : gI (sN (lGive (qRem σ 0) (j + 1) (gN σ 111 0) (t + gN σ 44 63)) 46 63 (gN σ 46 63 + 1)) 8 (gN σ 111 0) = gI μ 111 (qs 0) := congrArg (fun z => z.2.2) kq3
  have o1 : ∀ d, dOf (sN (lGive (qRem σ 0) (j + 1) (gN σ 111 0) (t + gN σ 44 63)) 46 63 (gN σ 46 63 + 1)) d = dOf σ d := fun d => rfl
  exact sim_send s3 (fs_lease s3.1 (j + 1) (gN σ 111 0)) (wf_lease s3.1 (by omega)) (mm_lease q0 (by omega) kq3 (by rw [x7, o1]) (by rw [x8, o1])) ⟨fun z => absurd z (by decide), fun z => absurd z (by decide), fun _ => q0, fun z => absurd z (by decide), fun z => absurd z (by decide), fun z => absurd z (by decide), fun _ => ⟨by omega, by omega⟩, by decide⟩ (by omega) (by omega) (by decide)
end GV
