/-! both sides at once: counters, the server falls at a write, the queue and the leases change -/
section CT
variable {nw b B : Nat} {σ μ σ' μ' : Sg}
/-- a step on counters alone -/
theorem sim_C (h : Sim nw b B σ μ) (hw : Wf nw σ') (hd : Dis σ') (hm : WfM B μ') (e : Ex [7] σ σ') (m : Em [7] μ μ') (hc : ∀ fs qs hs rs, Rel nw b σ μ fs qs hs rs → RC0 nw (vC σ') (uC μ')) : Sim nw b B σ' μ' := by
  obtain ⟨h1, h2, h3, ⟨fs, qs, hs, rs, r⟩, h5⟩ := h
  exact ⟨hw, hd, hm, ⟨fs, qs, hs, rs, rel_step r e m (by decide) (Or.inl (by decide)) (Or.inl ⟨by decide, rfl⟩) (Or.inl (by decide)) (Or.inl ⟨by decide, rfl⟩) (Or.inl ⟨by decide, rfl⟩) (Or.inl ⟨by decide, rfl⟩) (Or.inl (by decide)) (Or.inr (hc fs qs hs rs r)) (Or.inl (by decide)) (Or.inl ⟨by decide, by decide⟩)⟩, inv_step h5 m (by decide) (by decide) (Or.inl (by decide)) (Or.inl (by decide)) (Or.inl (by decide)) (Or.inl (by decide))⟩
theorem sim_leases {v v' : Nat} (h : Sim nw b B σ μ) (hv : v = gN σ 46 63 + 1) (hv' : v' = gN μ 43 0 + 1) : Sim nw b B (sN σ 46 63 v) (sN μ 43 0 v') := by
  subst hv hv'
  exact sim_C h (wf_N (by decide) h.1) (h.2.1.of rfl rfl rfl) (wfm_N (by decide) h.2.2.1) (exN_46 _ _ _) (emN_43 _ _ _) (fun _ _ _ _ r => rc_of r.ln r.su (congrArg (· + 1) r.c1) r.c2 r.c3 r.c4 r.c5 r.c6 r.nw')
theorem sim_uploads {v v' : Nat} (h : Sim nw b B σ μ) (hv : v = gN σ 47 63 + 1) (hv' : v' = gN μ 44 0 + 1) : Sim nw b B (sN σ 47 63 v) (sN μ 44 0 v') := by
  subst hv hv'
  exact sim_C h (wf_N (by decide) h.1) (h.2.1.of rfl rfl rfl) (wfm_N (by decide) h.2.2.1) (exN_47 _ _ _) (emN_44 _ _ _) (fun _ _ _ _ r => rc_of r.ln r.su r.c1 (congrArg (· + 1) r.c2) r.c3 r.c4 r.c5 r.c6 r.nw')
theorem sim_hits {v v' : Nat} (h : Sim nw b B σ μ) (hv : v = gN σ 48 63 + 1) (hv' : v' = gN μ 45 0 + 1) : Sim nw b B (sN σ 48 63 v) (sN μ 45 0 v') := by
  subst hv hv'
  exact sim_C h (wf_N (by decide) h.1) (h.2.1.of rfl rfl rfl) (wfm_N (by decide) h.2.2.1) (exN_48 _ _ _) (emN_45 _ _ _) (fun _ _ _ _ r => rc_of r.ln r.su r.c1 r.c2 (congrArg (· + 1) r.c3) r.c4 r.c5 r.c6 r.nw')
theorem sim_refused {v v' : Nat} (h : Sim nw b B σ μ) (hv : v = gN σ 5 0 + 1) (hv' : v' = gN μ 46 0 + 1) : Sim nw b B (sN σ 5 0 v) (sN μ 46 0 v') := by
  subst hv hv'
  exact sim_C h (wf_N (by decide) h.1) (h.2.1.of rfl rfl rfl) (wfm_N (by decide) h.2.2.1) (exN_5 _ _ _) (emN_46 _ _ _) (fun _ _ _ _ r => rc_of r.ln r.su r.c1 r.c2 r.c3 (congrArg (· + 1) r.c4) r.c5 r.c6 r.nw')
theorem sim_dups {v v' : Nat} (h : Sim nw b B σ μ) (hv : v = gN σ 49 63 + 1) (hv' : v' = gN μ 47 0 + 1) : Sim nw b B (sN σ 49 63 v) (sN μ 47 0 v') := by
  subst hv hv'
  exact sim_C h (wf_N (by decide) h.1) (h.2.1.of rfl rfl rfl) (wfm_N (by decide) h.2.2.1) (exN_49 _ _ _) (emN_47 _ _ _) (fun _ _ _ _ r => rc_of r.ln r.su r.c1 r.c2 r.c3 r.c4 (congrArg (· + 1) r.c5) r.c6 r.nw')
theorem sim_cuts {v v' : Nat} (h : Sim nw b B σ μ) (hv : v = gN σ 50 63 + 1) (hv' : v' = gN μ 48 0 + 1) : Sim nw b B (sN σ 50 63 v) (sN μ 48 0 v') := by
  subst hv hv'
  exact sim_C h (wf_N (by decide) h.1) (h.2.1.of rfl rfl rfl) (wfm_N (by decide) h.2.2.1) (exN_50 _ _ _) (emN_48 _ _ _) (fun _ _ _ _ r => rc_of r.ln r.su r.c1 r.c2 r.c3 r.c4 r.c5 (congrArg (· + 1) r.c6) r.nw')
theorem sim_E (h : Sim nw b B σ μ) (hm : WfM B μ') (m : Em [] μ μ') : Sim nw b B σ μ' := by
  obtain ⟨h1, h2, h3, ⟨fs, qs, hs, rs, r⟩, h5⟩ := h
  exact ⟨h1, h2, hm, ⟨fs, qs, hs, rs, rel_step r (Ex.rf [] σ) m (by decide) (Or.inl (by decide)) (Or.inl ⟨by decide, rfl⟩) (Or.inl (by decide)) (Or.inl ⟨by decide, rfl⟩) (Or.inl ⟨by decide, rfl⟩) (Or.inl ⟨by decide, rfl⟩) (Or.inl (by decide)) (Or.inl (by decide)) (Or.inl (by decide)) (Or.inl ⟨by decide, by decide⟩)⟩, inv_step h5 m (by decide) (by decide) (Or.inl (by decide)) (Or.inl (by decide)) (Or.inl (by decide)) (Or.inl (by decide))⟩
theorem sim_49 (h : Sim nw b B σ μ) (v : Nat) : Sim nw b B σ (sN μ 49 0 v) := sim_E h (wfm_N (by decide) h.2.2.1) (emN_49 μ 0 v)
theorem sim_cut (h : Sim nw b B σ μ) : Sim nw b B (sCut σ nw) (sN (mFall μ 0) 48 0 (gN μ 48 0 + 1)) := by
  have a := sim_down (sim_cuts h rfl rfl)
  have e : mFall (sN μ 48 0 (gN μ 48 0 + 1)) 0 = sN (mFall μ 0) 48 0 (gN μ 48 0 + 1) := by
    unfold mFall
    rw [if_pos rfl, if_pos rfl]
    refine sg_ext (fun _ _ => rfl) (fun _ _ => rfl) (fun x y => ?_) (fun _ _ => rfl)
    show (if x = 3 ∧ y = 0 then 0 else if (x = 114 ∨ x = 115) ∧ y < gN μ 14 0 then 0 else if x = 48 ∧ y = 0 then gN μ 48 0 + 1 else gN μ x y) = if x = 48 ∧ y = 0 then gN μ 48 0 + 1 else if x = 3 ∧ y = 0 then 0 else if (x = 114 ∨ x = 115) ∧ y < gN μ 14 0 then 0 else gN μ x y
    by_cases c : x = 48 ∧ y = 0
    · rw [if_pos c, if_neg (by omega), if_neg (by omega), if_pos c]
    · rw [if_neg c, if_neg c]
  rw [e] at a
  exact a
theorem Sim.ki (h : Sim nw b B σ μ) : ∀ k k', k < gN μ 14 0 → k' < gN μ 14 0 → mK3 μ k = mK3 μ k' → k = k' := h.2.2.2.2.1.2.2.2.2.2
theorem sN_id {s : Sg} {f o v : Nat} (h : gN s f o = v) : sN s f o v = s := sg_ext (fun _ _ => rfl) (fun _ _ => rfl) (fun x y => by
    show (if x = f ∧ y = o then v else gN s x y) = gN s x y
    by_cases c : x = f ∧ y = o
    · rw [if_pos c, c.1, c.2, h]
    · rw [if_neg c]) (fun _ _ => rfl)
/-- a step on the queue alone -/
theorem rel_queue {fs qs hs rs qs' : Nat → Nat} (r : Rel nw b σ μ fs qs hs rs) (e : Ex [4] σ σ') (m : Em [4] μ μ') (h4 : RQ0 (vQ σ') (uQ μ') (uK μ) qs') (hx : RX0 (uQ μ') (uL μ)) : Rel nw b σ' μ' fs qs' hs rs :=
  rel_step r e m (by decide) (Or.inl (by decide)) (Or.inl ⟨by decide, rfl⟩) (Or.inl (by decide)) (Or.inl ⟨by decide, rfl⟩) (Or.inr h4) (Or.inl ⟨by decide, rfl⟩) (Or.inl (by decide)) (Or.inl (by decide)) (Or.inl (by decide)) (Or.inr (by rw [show uL μ' = uL μ from m 5 (by decide)]; exact hx))
theorem inv_queue (h : Inv nw μ) (m : Em [4, 5] μ μ') : Inv nw μ' := inv_step h m (by decide) (by decide) (Or.inl (by decide)) (Or.inl (by decide)) (Or.inl (by decide)) (Or.inl (by decide))
theorem sim_qApp {q k : Nat} (h : Sim nw b B σ μ) (hk : k < gN μ 14 0) (hq : kof σ q = mK3 μ k) (h0 : gN μ 114 k = 0) (hl : gN μ 115 k = 0) : Sim nw b (B + 1) (qApp σ q) (sN (sN μ 23 0 (gN μ 23 0 + 1)) 114 k (gN μ 23 0 + 1)) := by
  have hw := wf_qApp (q := q) h.1
  obtain ⟨h1, h2, h3, ⟨fs, qs, hs, rs, r⟩, h5⟩ := h
  have ne : ∀ i, i < gN σ 39 79 → qs i ≠ k := fun i hi e => by
    have p : 0 < gN μ 114 (qs i) := r.Q.1.1 i hi
    rw [e] at p
    omega
  have cap : gN σ 39 79 < 10 := by
    have a := php (gN μ 14 0) (gN σ 39 79 + 1) (up1 qs (gN σ 39 79) k) (fun i hi => ?_) (fun i j hi hj e => ?_)
    · have := h3.ks
      omega
    · by_cases c : i = gN σ 39 79
      · rw [c, up1_s]; exact hk
      · rw [up1_n _ _ c]; exact (r.Q.2.1 i (show i < gN σ 39 79 by omega)).1
    · by_cases c : i = gN σ 39 79 <;> by_cases d : j = gN σ 39 79
      · omega
      · rw [c, up1_s, up1_n _ _ d] at e; exact absurd e.symm (ne j (by omega))
      · rw [d, up1_s, up1_n _ _ c] at e; exact absurd e (ne i (by omega))
      · rw [up1_n _ _ c, up1_n _ _ d] at e
        exact r.Q.1.inj (show i < gN σ 39 79 by omega) (show j < gN σ 39 79 by omega) e
  have hqq : qApp σ q = sN (kcopy σ (gN σ 111 (gN σ 39 79)) q) 39 79 (gN σ 39 79 + 1) := if_pos cap
  rw [hqq] at hw ⊢
  have em : Em [4] μ (sN (sN μ 23 0 (gN μ 23 0 + 1)) 114 k (gN μ 23 0 + 1)) := (emN_23 μ _ _).seq (emN_114 _ _ _) (by decide)
  have e114 : gN (sN (sN μ 23 0 (gN μ 23 0 + 1)) 114 k (gN μ 23 0 + 1)) 114 = up1 (gN μ 114) k (gN μ 23 0 + 1) := gN_up (sN μ 23 0 (gN μ 23 0 + 1)) 114 k _
  have hqu := h3.qu
  refine ⟨hw, h2.of rfl rfl rfl, wfm_114 (wfm_23 (h3.mono (Nat.le_add_right B 1)) (by omega)) (by omega), ⟨fs, up1 qs (gN σ 39 79) k, hs, rs, rel_queue r ((ex_kQ _ _ _ h1.R3 h1.Q3 (h1.Q3 _ cap)).seq (exN_39 _ _ _) (by decide)) em ?_ ?_⟩, inv_queue h5 (em.mono (by decide))⟩
  · refine ⟨?_, fun i hi => ?_, fun x => ?_⟩
    · show Ord (gN σ 39 79 + 1) _ (gN (sN (sN μ 23 0 (gN μ 23 0 + 1)) 114 k (gN μ 23 0 + 1)) 114)
      rw [e114]
      exact r.Q.1.add h0 r.Q.2.2
    · have hi : i < gN σ 39 79 + 1 := hi
      show up1 qs (gN σ 39 79) k i < gN μ 14 0 ∧ (if i < 10 then kof (kcopy σ (gN σ 111 (gN σ 39 79)) q) (gN σ 111 i) else k00) = mK3 μ (up1 qs (gN σ 39 79) k i)
      rw [if_pos (by omega)]
      by_cases c : i = gN σ 39 79
      · rw [c, up1_s]
        refine ⟨hk, ?_⟩
        unfold kcopy
        rw [kof_s]
        exact hq
      · rw [up1_n _ _ c]
        have hi' : i < gN σ 39 79 := by omega
        obtain ⟨a1, a2⟩ := r.Q.2.1 i hi'
        refine ⟨a1, ?_⟩
        unfold kcopy
        rw [kof_n _ _ _ _ (fun z => c (h2.2.2.2 i _ (by omega) cap z)), ← show (vQ σ).2 i = kof σ (gN σ 111 i) from if_pos (by omega)]
        exact a2
    · show gN (sN (sN μ 23 0 (gN μ 23 0 + 1)) 114 k (gN μ 23 0 + 1)) 114 x ≤ gN μ 23 0 + 1
      rw [e114]
      by_cases c : x = k
      · rw [c, up1_s]; exact Nat.le_refl _
      · rw [up1_n _ _ c]; exact Nat.le_succ_of_le (r.Q.2.2 x)
  · intro x hx
    have hx : 0 < gN (sN (sN μ 23 0 (gN μ 23 0 + 1)) 114 k (gN μ 23 0 + 1)) 114 x := hx
    rw [e114] at hx
    by_cases c : x = k
    · rw [c]; exact hl
    · rw [up1_n _ _ c] at hx
      exact r.X x hx
theorem rem_row (σ : Sg) (k i : Nat) : gN (qRem σ k) 111 i = if i = gN σ 39 79 - 1 then gN σ 111 k else if k ≤ i ∧ i + 1 < gN σ 39 79 then gN σ 111 (i + 1) else gN σ 111 i := by
  unfold qRem
  simp only [gs, qSh]
  simp [gN]
  congr
theorem rem_dis {k : Nat} (hn : gN σ 39 79 ≤ 10) (hk : k < gN σ 39 79) (h : Dis σ) : Dis (qRem σ k) := by
  refine ⟨h.1, h.2.1, h.2.2.1, fun i j hi hj e => ?_⟩
  have ix : ∀ i, i < 10 → ∃ j, j < 10 ∧ gN (qRem σ k) 111 i = gN σ 111 j ∧ (j = if i = gN σ 39 79 - 1 then k else if k ≤ i ∧ i + 1 < gN σ 39 79 then i + 1 else i) := fun i hi => by
    refine ⟨if i = gN σ 39 79 - 1 then k else if k ≤ i ∧ i + 1 < gN σ 39 79 then i + 1 else i, ?_, ?_, rfl⟩
    · split
      · omega
      · split <;> omega
    · rw [rem_row]
      split
      · rfl
      · split <;> rfl
  obtain ⟨x, hx, ex, dx⟩ := ix i hi
  obtain ⟨y, hy, ey, dy⟩ := ix j hj
  rw [ex, ey] at e
  have := h.2.2.2 x y hx hy e
  rw [dx, dy] at this
  by_cases c1 : i = gN σ 39 79 - 1 <;> by_cases c2 : j = gN σ 39 79 - 1
  · omega
  · rw [if_pos c1, if_neg c2] at this
    split at this <;> omega
  · rw [if_neg c1, if_pos c2] at this
    split at this <;> omega
  · rw [if_neg c1, if_neg c2] at this
    split at this <;> split at this <;> omega
/-- the queue without its i-th key -/
theorem sim_qDel {fs qs hs rs : Nat → Nat} {i : Nat} (h : Sim nw b B σ μ) (r : Rel nw b σ μ fs qs hs rs) (hi : i < gN σ 39 79) : Sim nw b B (qRem σ i) (sN μ 114 (qs i) 0) := by
  obtain ⟨h1, h2, h3, -, h5⟩ := h
  have hn := h1.q
  have em : Em [4] μ (sN μ 114 (qs i) 0) := emN_114 μ _ _
  have e114 : gN (sN μ 114 (qs i) 0) 114 = up1 (gN μ 114) (qs i) 0 := gN_up μ 114 _ _
  refine ⟨wf_qRem h1 hi, rem_dis hn hi h2, wfm_114 h3 (Nat.zero_le _), ⟨fs, shf qs i, hs, rs, rel_queue r ((ex_qSh σ i _).seq ((exN_39 _ _ _).seq (exN_111 _ _ _) (L := [4]) (by decide)) (by decide)) em ?_ ?_⟩, inv_queue h5 (em.mono (by decide))⟩
  · refine ⟨?_, fun j hj => ?_, fun x => ?_⟩
    · show Ord (gN σ 39 79 - 1) _ (gN (sN μ 114 (qs i) 0) 114)
      rw [e114]
      exact r.Q.1.del hi
    · have hj : j < gN σ 39 79 - 1 := hj
      show shf qs i j < gN μ 14 0 ∧ (if j < 10 then kof σ (gN (qRem σ i) 111 j) else k00) = mK3 μ (shf qs i j)
      rw [if_pos (by omega), rem_row, if_neg (by omega)]
      unfold shf
      have at' : ∀ x, x < gN σ 39 79 → qs x < gN μ 14 0 ∧ kof σ (gN σ 111 x) = mK3 μ (qs x) := fun x hx => by
        rw [← show (vQ σ).2 x = kof σ (gN σ 111 x) from if_pos (by omega)]
        exact r.Q.2.1 x hx
      by_cases c : j < i
      · rw [if_pos c, if_neg (by omega)]
        exact at' j (by omega)
      · rw [if_neg c, if_pos (by omega)]
        exact at' (j + 1) (by omega)
    · show gN (sN μ 114 (qs i) 0) 114 x ≤ gN μ 23 0
      rw [e114]
      by_cases c : x = qs i
      · rw [c, up1_s]; exact Nat.zero_le _
      · rw [up1_n _ _ c]; exact r.Q.2.2 x
  · intro x hx
    have hx : 0 < gN (sN μ 114 (qs i) 0) 114 x := hx
    rw [e114] at hx
    by_cases c : x = qs i
    · rw [c, up1_s] at hx; omega
    · rw [up1_n _ _ c] at hx
      exact r.X x hx
theorem inR_m1 (n : Nat) : inR (-1) n = false := decide_eq_false (fun z => absurd z.1 (by decide))
theorem sim_qRemI {q k : Nat} (h : Sim nw b B σ μ) (hk : k < gN μ 14 0) (hq : kof σ q = mK3 μ k) : Sim nw b B (qRemI σ (oI (fQue σ q))) (sN μ 114 k 0) := by
  have hh := h
  have ki := h.ki
  obtain ⟨h1, h2, h3, ⟨fs, qs, hs, rs, r⟩, h5⟩ := h
  have hn := h1.q
  by_cases c : gN μ 114 k = 0
  · rw [fQue_no r.Q hn hk ki hq c, sN_id c]
    show Sim nw b B (if inR (-1) (gN σ 39 79) = true then _ else σ) μ
    rw [inR_m1, if_neg (by decide)]
    exact hh
  · obtain ⟨i, e, hi, ek⟩ := fQue_yes r.Q hn ki hq (Nat.pos_of_ne_zero c)
    rw [e]
    show Sim nw b B (if inR (nI i) (gN σ 39 79) = true then qRem σ (nI i).toNatClampNeg else σ) _
    rw [inR_nI (by omega), if_pos (decide_eq_true hi), nI_clamp (by omega), ← ek]
    exact sim_qDel hh r hi
/-- a step on the leases alone -/
theorem rel_lease {fs qs hs rs hs' : Nat → Nat} (r : Rel nw b σ μ fs qs hs rs) (e : Ex [5] σ σ') (m : Em [5] μ μ') (h5 : RL0 nw (vL σ') (uL μ') (uK μ) hs') (hx : RX0 (uQ μ) (uL μ')) : Rel nw b σ' μ' fs qs hs' rs :=
  rel_step r e m (by decide) (Or.inl (by decide)) (Or.inl ⟨by decide, rfl⟩) (Or.inl (by decide)) (Or.inl ⟨by decide, rfl⟩) (Or.inl ⟨by decide, rfl⟩) (Or.inr h5) (Or.inl (by decide)) (Or.inl (by decide)) (Or.inl (by decide)) (Or.inr (by rw [show uQ μ' = uQ μ from m 4 (by decide)]; exact hx))
theorem sim_lDel {fs qs hs rs : Nat → Nat} {j : Nat} (h : Sim nw b B σ μ) (r : Rel nw b σ μ fs qs hs rs) (hj : j < nw) (hb : gB σ 112 j = true) : Sim nw b B (sB σ 112 j false) (sN μ 115 (hs j) 0) := by
  obtain ⟨h1, h2, h3, -, h5⟩ := h
  have em : Em [5] μ (sN μ 115 (hs j) 0) := emN_115 μ _ _
  have e115 : gN (sN μ 115 (hs j) 0) 115 = up1 (gN μ 115) (hs j) 0 := gN_up μ 115 _ _
  have e112 : gB (sB σ 112 j false) 112 = up1 (gB σ 112) j false := gB_up σ 112 _ _
  have hj1 : gN μ 115 (hs j) = j + 1 := (r.L.1 j hj hb).2.1
  refine ⟨wf_B h1, h2.of rfl rfl rfl, wfm_115 h3 (Nat.zero_le _), ⟨fs, qs, hs, rs, rel_lease r (exB_112 σ _ _) em ?_ ?_⟩, inv_queue h5 (em.mono (by decide))⟩
  · refine ⟨fun x hx hxb => ?_, fun k hk => ?_, r.L.2.2⟩
    · have hxb : gB (sB σ 112 j false) 112 x = true := hxb
      rw [e112] at hxb
      by_cases c : x = j
      · rw [c, up1_s] at hxb; cases hxb
      · rw [up1_n _ _ c] at hxb
        obtain ⟨a1, a2, a3, a4⟩ := r.L.1 x hx hxb
        refine ⟨a1, ?_, a3, a4⟩
        show gN (sN μ 115 (hs j) 0) 115 (hs x) = x + 1
        have a2 : gN μ 115 (hs x) = x + 1 := a2
        rw [e115, up1_n _ _ (fun z => by rw [z] at a2; omega)]
        exact a2
    · have hk : 0 < gN (sN μ 115 (hs j) 0) 115 k := hk
      rw [e115] at hk
      by_cases c : k = hs j
      · rw [c, up1_s] at hk; omega
      · rw [up1_n _ _ c] at hk
        obtain ⟨x, x1, x2, x3, x4⟩ := r.L.2.1 k hk
        refine ⟨x, x1, ?_, ?_, x4⟩
        · show gB (sB σ 112 j false) 112 x = true
          rw [e112, up1_n _ _ (fun z => c (by rw [← x4, z]))]
          exact x2
        · show gN (sN μ 115 (hs j) 0) 115 k = x + 1
          rw [e115, up1_n _ _ c]
          exact x3
  · intro x hx
    show gN (sN μ 115 (hs j) 0) 115 x = 0
    rw [e115]
    by_cases c : x = hs j
    · rw [c, up1_s]
    · rw [up1_n _ _ c]; exact r.X x hx
theorem sim_lEndI {q k : Nat} (h : Sim nw b B σ μ) (hn : nw ≤ 4) (hk : k < gN μ 14 0) (hq : kof σ q = mK3 μ k) : Sim nw b B (lEnd σ nw (oI (lFind σ nw q))) (sN μ 115 k 0) := by
  have hh := h
  have ki := h.ki
  obtain ⟨h1, h2, h3, ⟨fs, qs, hs, rs, r⟩, h5⟩ := h
  by_cases c : gN μ 115 k = 0
  · rw [lFind_no r.L hn hk ki hq c, sN_id c]
    have z : lHas σ nw (-1) = false := by
      unfold lHas
      rw [decide_eq_false (fun z => absurd z.1 (by decide))]
      rfl
    show Sim nw b B (if lHas σ nw (-1) = true then _ else σ) μ
    rw [z, if_neg (by decide)]
    exact hh
  · obtain ⟨j, e, hj, hb, ej, ek⟩ := lFind_yes r.L hn ki hq (Nat.pos_of_ne_zero c)
    rw [e]
    show Sim nw b B (if lHas σ nw (nI (j + 1)) = true then sB σ 112 ((nI (j + 1)).toInt.toNat - 1) false else σ) _
    rw [lHas_nI (by omega), decide_eq_true hj, hb, if_pos (show (true && true) = true from rfl), wIx (by omega), ← ek]
    exact sim_lDel hh r hj hb
end CT
