/-! both sides at once: questions, and the calls that change little -/
section EQS
variable {nw b B : Nat} {σ μ : Sg} {fs qs hs rs : Nat → Nat}
theorem Rel.it (r : Rel nw b σ μ fs qs hs rs) : gN σ 31 55 = gN μ 5 0 := congrArg (fun v => v.1) r.I
theorem Rel.hv (r : Rel nw b σ μ fs qs hs rs) : gB σ 101 = gB μ 105 := congrArg (fun v => v.2.1) r.I
theorem Rel.vl (r : Rel nw b σ μ fs qs hs rs) : gI σ 102 = gI μ 106 := congrArg (fun v => v.2.2.1) r.I
theorem Rel.pg (r : Rel nw b σ μ fs qs hs rs) : gJ σ 103 = gJ μ 102 := congrArg (fun v => v.2.2.2.1) r.I
theorem Rel.lf (r : Rel nw b σ μ fs qs hs rs) : gN σ 104 = gN μ 103 := congrArg (fun v => v.2.2.2.2.1) r.I
theorem Rel.rg (r : Rel nw b σ μ fs qs hs rs) : gN σ 105 = gN μ 104 := congrArg (fun v => v.2.2.2.2.2.1) r.I
theorem Rel.na (r : Rel nw b σ μ fs qs hs rs) : gN σ 106 = fun i => if gB μ 107 i = true then gN μ 108 i + 5 else 0 := congrArg (fun v => v.2.2.2.2.2.2.1) r.I
theorem Rel.tm (r : Rel nw b σ μ fs qs hs rs) : gN σ 4 0 = gN μ 2 0 := congrArg (fun v => v.2.2.2.2.2.2.2) r.I
theorem Rel.ln (r : Rel nw b σ μ fs qs hs rs) : gN σ 44 63 = gN μ 1 0 := congrArg (fun v => v.1) r.C.1
theorem Rel.su (r : Rel nw b σ μ fs qs hs rs) : gB σ 45 63 = !gB μ 100 0 := congrArg (fun v => v.2.1) r.C.1
theorem Rel.c1 (r : Rel nw b σ μ fs qs hs rs) : gN σ 46 63 = gN μ 43 0 := congrArg (fun v => v.2.2.1) r.C.1
theorem Rel.c2 (r : Rel nw b σ μ fs qs hs rs) : gN σ 47 63 = gN μ 44 0 := congrArg (fun v => v.2.2.2.1) r.C.1
theorem Rel.c3 (r : Rel nw b σ μ fs qs hs rs) : gN σ 48 63 = gN μ 45 0 := congrArg (fun v => v.2.2.2.2.1) r.C.1
theorem Rel.c4 (r : Rel nw b σ μ fs qs hs rs) : gN σ 5 0 = gN μ 46 0 := congrArg (fun v => v.2.2.2.2.2.1) r.C.1
theorem Rel.c5 (r : Rel nw b σ μ fs qs hs rs) : gN σ 49 63 = gN μ 47 0 := congrArg (fun v => v.2.2.2.2.2.2.1) r.C.1
theorem Rel.c6 (r : Rel nw b σ μ fs qs hs rs) : gN σ 50 63 = gN μ 48 0 := congrArg (fun v => v.2.2.2.2.2.2.2) r.C.1
theorem Rel.nw' (r : Rel nw b σ μ fs qs hs rs) : gN μ 0 0 = nw := r.C.2
theorem Rel.la (r : Rel nw b σ μ fs qs hs rs) : gN σ 54 91 = gN μ 3 0 := r.L.2.2
theorem rc_of {v : VC} {u : UC} (h1 : v.1 = u.1) (h2 : v.2.1 = !u.2.1) (h3 : v.2.2.1 = u.2.2.1) (h4 : v.2.2.2.1 = u.2.2.2.1) (h5 : v.2.2.2.2.1 = u.2.2.2.2.1) (h6 : v.2.2.2.2.2.1 = u.2.2.2.2.2.1) (h7 : v.2.2.2.2.2.2.1 = u.2.2.2.2.2.2.1) (h8 : v.2.2.2.2.2.2.2 = u.2.2.2.2.2.2.2.1) (h9 : u.2.2.2.2.2.2.2.2 = nw) : RC0 nw v u := ⟨Prod.ext h1 (Prod.ext h2 (Prod.ext h3 (Prod.ext h4 (Prod.ext h5 (Prod.ext h6 (Prod.ext h7 h8)))))), h9⟩
theorem ri_of {v : VI} {u : UI} (h1 : v.1 = u.1) (h2 : v.2.1 = u.2.1) (h3 : v.2.2.1 = u.2.2.1) (h4 : v.2.2.2.1 = u.2.2.2.1) (h5 : v.2.2.2.2.1 = u.2.2.2.2.1) (h6 : v.2.2.2.2.2.1 = u.2.2.2.2.2.1) (h7 : v.2.2.2.2.2.2.1 = fun i => if u.2.2.2.2.2.2.1 i = true then u.2.2.2.2.2.2.2.1 i + 5 else 0) (h8 : v.2.2.2.2.2.2.2 = u.2.2.2.2.2.2.2.2.1) : RI0 v u := Prod.ext h1 (Prod.ext h2 (Prod.ext h3 (Prod.ext h4 (Prod.ext h5 (Prod.ext h6 (Prod.ext h7 h8))))))
end EQS
section QU
variable {nw b B : Nat} {σ μ : Sg}
theorem Sim.mono {B' : Nat} (h : Sim nw b B σ μ) (hB : B ≤ B') : Sim nw b B' σ μ := ⟨h.1, h.2.1, h.2.2.1.mono hB, h.2.2.2⟩
theorem q_flying (h : Sim nw b B σ μ) : gN σ 21 1 = mFly μ := by
  obtain ⟨h1, h2, h3, ⟨fs, qs, hs, rs, r⟩, h5⟩ := h
  exact (r.F.1.size r.F.2.1).symm
theorem q_waiting (h : Sim nw b B σ μ) : gN σ 39 79 = mWait μ := by
  obtain ⟨h1, h2, h3, ⟨fs, qs, hs, rs, r⟩, h5⟩ := h
  exact (r.Q.1.size (fun i hi => (r.Q.2.1 i hi).1)).symm
theorem q_known (h : Sim nw b B σ μ) (k : Int32) : kn σ k = mKn μ k := by
  obtain ⟨h1, h2, h3, ⟨fs, qs, hs, rs, r⟩, h5⟩ := h
  unfold kn mKn
  rw [r.it, r.hv]
theorem q_content (h : Sim nw b B σ μ) (k : Int32) : lbCon σ k = mCon μ k := by
  have e := q_known h k
  obtain ⟨h1, h2, h3, ⟨fs, qs, hs, rs, r⟩, h5⟩ := h
  unfold lbCon mCon
  rw [e, r.vl]
/-- the k-th message on both sides -/
theorem msg_at (h : Sim nw b B σ μ) {k : Int32} (hk : inR k (gN σ 21 1) = true) : ∃ i s, k = nI i ∧ i < gN σ 21 1 ∧ k.toNatClampNeg = i ∧ plc μ k = some s ∧ MMa (uK μ) (mg σ (gN σ 100 i)) (gN μ 123 s) (gN μ 124 s) (gN μ 125 s) (gN μ 126 s) (gI μ 127 s) (gI μ 128 s) (gI μ 129 s) ∧ ∃ fs qs hs rs, Rel nw b σ μ fs qs hs rs ∧ s = fs i := by
  obtain ⟨h1, h2, h3, ⟨fs, qs, hs, rs, r⟩, h5⟩ := h
  have hn := h1.n
  obtain ⟨i, hi, rfl⟩ := inR_of (by omega) hk
  refine ⟨i, fs i, rfl, hi, nI_clamp (by omega), plc_in r.F hn hi, ?_, fs, qs, hs, rs, r, rfl⟩
  have m := r.F.2.2.2 i hi
  rw [show (vF σ).2 i = mg σ (gN σ 100 i) from if_pos (by omega)] at m
  exact m
theorem msg_no (h : Sim nw b B σ μ) {k : Int32} (hk : inR k (gN σ 21 1) = false) : plc μ k = none := by
  obtain ⟨h1, h2, h3, ⟨fs, qs, hs, rs, r⟩, h5⟩ := h
  exact plc_out r.F h1.n hk
theorem hasC_iff {k : Nat} (h : k ≤ 6) : hasC k = decide (3 ≤ k) := by
  rcases (show k = 0 ∨ k = 1 ∨ k = 2 ∨ k = 3 ∨ k = 4 ∨ k = 5 ∨ k = 6 by omega) with h | h | h | h | h | h | h <;> subst h <;> rfl
theorem q_message (h : Sim nw b B σ μ) (k : Int32) : lbMsg σ k = mMsg μ k := by
  unfold lbMsg mMsg
  cases hk : inR k (gN σ 21 1) with
  | false => rw [msg_no h hk]; rfl
  | true =>
    obtain ⟨i, s, rfl, hi, hc, hp, m, -⟩ := msg_at h hk
    rw [hp, hc, show gN σ 10 (gN σ 100 i) = gN μ 123 s from m.1.1, show gN σ 11 (gN σ 100 i) = gN μ 124 s from m.1.2]
    rfl
theorem q_spB (h : Sim nw b B σ μ) (k : Int32) : lbSpB σ k = mCarr μ (plc μ k) := by
  unfold lbSpB mCarr
  cases hk : inR k (gN σ 21 1) with
  | false => rw [msg_no h hk]; rfl
  | true =>
    obtain ⟨i, s, rfl, hi, hc, hp, m, -⟩ := msg_at h hk
    rw [hp, hc, show gN σ 10 (gN σ 100 i) = gN μ 123 s from m.1.1, hasC_iff (by have := h.2.2.1.kd s; omega)]
    rfl
theorem q_carried (h : Sim nw b B σ μ) (k : Int32) : lbCar σ k = mCar μ k := by
  have e := q_spB h k
  unfold lbCar mCar
  cases hk : inR k (gN σ 21 1) with
  | false =>
    rw [if_neg (by unfold lbSpB; rw [hk]; exact Bool.false_ne_true), msg_no h hk]
  | true =>
    obtain ⟨i, s, rfl, hi, hc, hp, m, -⟩ := msg_at h hk
    rw [e, hp, hc]
    show (if decide (3 ≤ gN μ 123 s) = true then gI σ 16 (gN σ 100 i) else nI 0) = if 3 ≤ gN μ 123 s then gI μ 127 s else nI 0
    by_cases c : 3 ≤ gN μ 123 s
    · rw [if_pos (decide_eq_true c), if_pos c]
      exact m.2.2.2.2.1 c
    · rw [if_neg (by simpa using c), if_neg c]
theorem q_lose (h : Sim nw b B σ μ) (k : Int32) : inR k (gN σ 21 1) = (plc μ k).isSome ∧ Sim nw b B (lbLose σ k) (mLose μ k) := by
  unfold lbLose mLose
  cases hk : inR k (gN σ 21 1) with
  | false => rw [msg_no h hk]; exact ⟨rfl, h⟩
  | true =>
    obtain ⟨i, s, rfl, hi, hc, hp, m, fs, qs, hs, rs, r, rfl⟩ := msg_at h hk
    rw [hp, hc]
    refine ⟨rfl, ?_⟩
    show Sim nw b B (fTake σ i) (sN μ 122 (fs i) 0)
    obtain ⟨h1, h2, h3, -, h5⟩ := h
    refine ⟨wf_take h1 hi, take_dis h1.n hi h2, wfm_122 h3 (Nat.zero_le _), ⟨shf fs i, qs, hs, rs, ?_⟩, ?_⟩
    · exact rel_step r (ex_take σ i) (emN_122 μ _ _) (by decide) (Or.inl (by decide)) (Or.inr (rf_take r.F h1.n hi)) (Or.inl (by decide)) (Or.inl ⟨by decide, rfl⟩) (Or.inl ⟨by decide, rfl⟩) (Or.inl ⟨by decide, rfl⟩) (Or.inl (by decide)) (Or.inl (by decide)) (Or.inl (by decide)) (Or.inl ⟨by decide, by decide⟩)
    · exact inv_step h5 (emN_122 μ _ _) (by decide) (by decide) (Or.inr h5.2.1) (Or.inl (by decide)) (Or.inl (by decide)) (Or.inl (by decide))
theorem q_spoil (h : Sim nw b B σ μ) (k : Int32) : Sim nw b B (lbSpoil σ k) (mSpoil μ k) := by
  have e := q_spB h k
  unfold lbSpoil mSpoil
  cases hk : inR k (gN σ 21 1) with
  | false =>
    rw [if_neg (by unfold lbSpB; rw [hk]; exact Bool.false_ne_true), msg_no h hk]
    exact h
  | true =>
    obtain ⟨i, s, rfl, hi, hc, hp, m, fs, qs, hs, rs, r, rfl⟩ := msg_at h hk
    rw [e, hp, hc]
    show Sim nw b B (if decide (3 ≤ gN μ 123 (fs i)) = true then sI σ 16 (gN σ 100 i) (gI σ 16 (gN σ 100 i) ^^^ nI 1) else σ) (if 3 ≤ gN μ 123 (fs i) then sI μ 127 (fs i) (gI μ 127 (fs i) ^^^ nI 1) else μ)
    by_cases c : 3 ≤ gN μ 123 (fs i)
    · rw [if_pos (decide_eq_true c), if_pos c]
      obtain ⟨h1, h2, h3, -, h5⟩ := h
      have hn := h1.n
      have m16 : gI σ 16 (gN σ 100 i) = gI μ 127 (fs i) := m.2.2.2.2.1 c
      refine ⟨wf_I h1, h2.of rfl rfl rfl, wfm_I h3, ⟨fs, qs, hs, rs, ?_⟩, ?_⟩
      · refine rel_step r (exI_16 σ _ _) (emI_127 μ _ _) (by decide) (Or.inl (by decide)) (Or.inr ⟨r.F.1, r.F.2.1, r.F.2.2.1, fun j hj => ?_⟩) (Or.inl (by decide)) (Or.inl ⟨by decide, rfl⟩) (Or.inl ⟨by decide, rfl⟩) (Or.inl ⟨by decide, rfl⟩) (Or.inl (by decide)) (Or.inl (by decide)) (Or.inl (by decide)) (Or.inl ⟨by decide, by decide⟩)
        have hj : j < gN σ 21 1 := hj
        have mj := r.F.2.2.2 j hj
        rw [show (vF σ).2 j = mg σ (gN σ 100 j) from if_pos (by omega)] at mj
        rw [show (vF (sI σ 16 (gN σ 100 i) (gI σ 16 (gN σ 100 i) ^^^ nI 1))).2 j = mg (sI σ 16 (gN σ 100 i) (gI σ 16 (gN σ 100 i) ^^^ nI 1)) (gN σ 100 j) from if_pos (by omega)]
        have e127 : gI (sI μ 127 (fs i) (gI μ 127 (fs i) ^^^ nI 1)) 127 = up1 (gI μ 127) (fs i) (gI μ 127 (fs i) ^^^ nI 1) := gI_up _ _ _ _
        by_cases q : j = i
        · subst q
          refine ⟨mj.1, mj.2.1, mj.2.2.1, fun x => absurd (show gN μ 123 (fs j) = 2 from x) (by omega), fun x => ?_, mj.2.2.2.2.2⟩
          show gI (sI σ 16 (gN σ 100 j) _) 16 (gN σ 100 j) = gI (sI μ 127 (fs j) _) 127 (fs j)
          rw [e127, up1_s, gI_up, up1_s, m16]
        · have ne : fs j ≠ fs i := fun z => q (r.F.1.inj hj hi z)
          rw [mg_I16 (fun z => q (h2.1 j i (by omega) (by omega) z))]
          show MMa (uK μ) (mg σ (gN σ 100 j)) (gN μ 123 (fs j)) (gN μ 124 (fs j)) (gN μ 125 (fs j)) (gN μ 126 (fs j)) (gI (sI μ 127 (fs i) (gI μ 127 (fs i) ^^^ nI 1)) 127 (fs j)) (gI μ 128 (fs j)) (gI μ 129 (fs j))
          rw [e127, up1_n _ _ ne]
          exact mj
      · exact inv_step h5 (emI_127 μ _ _) (by decide) (by decide) (Or.inr h5.2.1) (Or.inl (by decide)) (Or.inl (by decide)) (Or.inl (by decide))
    · rw [if_neg (by simpa using c), if_neg c]
      exact h
end QU
