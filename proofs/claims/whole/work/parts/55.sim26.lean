/-! both sides at once: a delivery, ended -/
section DE
variable {nw b B : Nat} {σ μ : Sg}
abbrev Mat (σ μ : Sg) (q s : Nat) : Prop := MMa (uK μ) (mg σ q) (gN μ 123 s) (gN μ 124 s) (gN μ 125 s) (gN μ 126 s) (gI μ 127 s) (gI μ 128 s) (gI μ 129 s)
abbrev Mst (nw : Nat) (μ : Sg) (s : Nat) : Prop := MI nw (uI μ) (uK μ) (gN μ 123 s) (gN μ 124 s) (gN μ 125 s) (gN μ 126 s) (gI μ 129 s)
theorem to_cases {s : Nat} (h : Mst nw μ s) : gN μ 124 s = 0 ∨ gN μ 124 s = 9 ∨ ∃ j, j < nw ∧ gN μ 124 s = j + 1 := by
  obtain ⟨-, -, -, -, h5, h6, h7, h8⟩ := h
  by_cases c : gN μ 123 s ≤ 1 ∨ gN μ 123 s = 3 ∨ gN μ 123 s = 5
  · exact Or.inl (h5 c)
  · by_cases d : gN μ 123 s = 2 ∨ gN μ 123 s = 6
    · exact Or.inr (Or.inl (h6 d))
    · have := h7 (by omega)
      exact Or.inr (Or.inr ⟨gN μ 124 s - 1, by omega, by omega⟩)
theorem up_eq {q s : Nat} (h : Sim nw b B σ μ) (hn : nw ≤ 4) (hm : gN σ 11 q = gN μ 124 s) (hi : Mst nw μ s) : lbUp σ nw (nI (gN σ 11 q)) = mUp μ s := by
  obtain ⟨h1, h2, h3, ⟨fs, qs, hs, rs, r⟩, h5⟩ := h
  rw [hm]
  rcases to_cases hi with e | e | ⟨j, hj, e⟩
  · rw [mUp_d (b := gB μ 100 0) (by omega) (by rw [e]), e]
    exact (lbUp_0 σ nw).trans r.su
  · rw [mUp_9 e, e]
    unfold lbUp
    rw [if_neg (by decide)]
    have z : isW nw (nI 9) = false := by
      unfold isW
      rw [nI_toInt (by decide)]
      exact decide_eq_false (by omega)
    rw [z]
    rfl
  · rw [mUp_d (b := gB μ 100 (j + 1)) (by omega) (by rw [e]), e, lbUp_w hj hn]
    exact (r.W j hj).1
theorem sound_eq {q s : Nat} (hm : Mat σ μ q s) (h6 : gN μ 123 s ≤ 6) : sound σ q = !mWrong μ s := by
  obtain ⟨⟨m1, m2⟩, m3, m4, m5, m6, m7, m8⟩ := hm
  have m1 : gN σ 10 q = gN μ 123 s := m1
  have m6 : 3 ≤ gN μ 123 s → gI σ 16 q = gI μ 127 s := m6
  have m7 : gN μ 123 s = 4 → gI σ 17 q = gI μ 128 s := m7
  have m8 : gN μ 123 s = 3 ∨ 5 ≤ gN μ 123 s → gI σ 15 q = gI μ 129 s := m8
  unfold sound mWrong
  rw [m1]
  by_cases c : gN μ 123 s = 4
  · have m3 := (m3 (by omega) (by omega)).2
    have m3 : kof σ (q + 1) = mK3 μ (gN μ 125 s) := m3
    have a7 : gI σ 7 (q + 1) = gI μ 110 (gN μ 125 s) := congrArg (fun z => z.2.1) m3
    have a8 : gI σ 8 (q + 1) = gI μ 111 (gN μ 125 s) := congrArg (fun z => z.2.2) m3
    rw [if_pos c, if_pos c, m6 (by omega), m7 c, a7, a8, Bool.not_or, Bool.not_not, Bool.not_not]
  · rw [if_neg c, if_neg c, hasC_iff h6]
    by_cases d : 3 ≤ gN μ 123 s
    · rw [decide_eq_true d, m6 d, m8 (by omega), Bool.not_and, Bool.not_not]
    · rw [decide_eq_false d]
      rfl
theorem sim_hand {q s : Nat} {cut : Int32} (h : Sim nw b B σ μ) (hn : nw ≤ 4) (ht9 : gN σ 4 0 < 2 ^ 29) (h49 : gN μ 49 0 = 0) (hq : q ≤ 53) (hm : Mat σ μ q s) (hi : Mst nw μ s) (hu : mUp μ s = true) (hw : mWrong μ s = false) : Sim nw b (B + 3) (lbHand σ nw q cut) (mHand μ s cut) := by
  obtain ⟨⟨m1, m2⟩, m3, m4, m5, m6, m7, m8⟩ := hm
  obtain ⟨i1, i2, i3, i4, i5, i6, i7, i8⟩ := hi
  have m1 : gN σ 10 q = gN μ 123 s := m1
  have m2 : gN σ 11 q = gN μ 124 s := m2
  have m3 : gN μ 123 s ≠ 2 → gN μ 123 s ≠ 3 → gN μ 125 s < gN μ 14 0 ∧ kof σ (q + 1) = mK3 μ (gN μ 125 s) := m3
  have m4 : gN μ 123 s ≤ 2 → gN σ 12 q = gN μ 126 s := m4
  have m5 : gN μ 123 s = 2 → gB σ 13 q = decide (gI μ 127 s = nI 1) ∧ gB σ 14 q = decide (gI μ 128 s = nI 1) := m5
  have m6 : 3 ≤ gN μ 123 s → gI σ 16 q = gI μ 127 s := m6
  have m7 : gN μ 123 s = 4 → gI σ 17 q = gI μ 128 s := m7
  have m8 : gN μ 123 s = 3 ∨ 5 ≤ gN μ 123 s → gI σ 15 q = gI μ 129 s := m8
  have wr : gN μ 123 s = 3 ∨ 5 ≤ gN μ 123 s → dg (gI μ 127 s) = gI μ 129 s := fun c => by
    unfold mWrong at hw
    rw [if_neg (by omega), decide_eq_true (by omega), Bool.true_and] at hw
    simpa using hw
  have w4 : gN μ 123 s = 4 → dg (gI μ 127 s) = gI μ 110 (gN μ 125 s) ∧ dg (gI μ 128 s) = gI μ 111 (gN μ 125 s) := fun c => by
    unfold mWrong at hw
    rw [if_pos c, Bool.or_eq_false_iff] at hw
    simpa using hw
  have out : 5 ≤ gN μ 123 s → Out (mK3 μ (gN μ 125 s)) (gI μ 127 s) := fun c => by
    obtain ⟨x, x1, x2⟩ := i4 c
    have e := wr (Or.inr c)
    rw [x2] at e
    rw [dg_inj e]
    exact x1
  unfold lbHand
  rw [m1]
  by_cases c1 : gN μ 123 s = 1
  · rw [if_pos c1, mHand_1 c1]
    obtain ⟨x1, x2, x3⟩ := i1 (Or.inl c1)
    exact (sim_sAsk h hn x1 (m3 (by omega) (by omega)).2 (m4 (by omega)) x2 x3).mono (by omega)
  rw [if_neg c1]
  by_cases c2 : gN μ 123 s = 2
  · rw [if_pos c2, mHand_2 c2]
    obtain ⟨x1, x2, x3⟩ := i1 (Or.inr c2)
    exact sim_cLack h (m4 (by omega)) (m5 c2).1 (m5 c2).2 x2 rfl ht9
  rw [if_neg c2]
  by_cases c3 : gN μ 123 s = 3
  · rw [if_pos c3, mHand_3 c3]
    obtain ⟨x, x1, x2⟩ := i2 c3
    have e := wr (Or.inl c3)
    have e' := e
    rw [x2] at e'
    exact (sim_sPut h h49 (m8 (Or.inl c3)) (m6 (by omega)) e (by rw [dg_inj e']; exact x1)).mono (by omega)
  rw [if_neg c3]
  by_cases c4 : gN μ 123 s = 4
  · rw [if_pos c4, mHand_4 c4]
    have b4 := i7 c4
    obtain ⟨j, ej⟩ : ∃ j, gN μ 124 s = j + 1 := ⟨gN μ 124 s - 1, by omega⟩
    have hj : j < nw := by omega
    have hd : gB μ 100 (j + 1) = false := by
      rw [mUp_d (b := gB μ 100 (j + 1)) (by omega) (by rw [ej])] at hu
      simpa using hu
    rw [m2, ej, if_pos (isW_nI hj hn), Nat.add_sub_cancel]
    obtain ⟨k1, k2⟩ := m3 (by omega) (by omega)
    obtain ⟨z1, z2⟩ := w4 c4
    exact (sim_begin h hj hn hd k1 k2 (m6 (by omega)) (m7 c4) z1 z2 rfl rfl).mono (by omega)
  rw [if_neg c4]
  by_cases c5 : gN μ 123 s = 5
  · rw [if_pos c5, mHand_5 c5]
    obtain ⟨k1, k2⟩ := m3 (by omega) (by omega)
    exact (sim_sRes h hn h49 k1 k2 (by omega) (m8 (by omega)) (m6 (by omega)) (wr (by omega)) (out (by omega))).mono (by omega)
  rw [if_neg c5]
  by_cases c6 : gN μ 123 s = 6
  · rw [if_pos c6, mHand_6 c6]
    obtain ⟨k1, k2⟩ := m3 (by omega) (by omega)
    exact (sim_answer h k1 k2 (by omega) (m6 (by omega)) (out (by omega))).mono (by omega)
  · rw [if_neg c6, mHand_0 c1 c2 c3 c4 c5 c6]
    exact h.mono (by omega)
theorem sim_del {q s : Nat} {cut : Int32} (h : Sim nw b B σ μ) (hn : nw ≤ 4) (ht9 : gN σ 4 0 < 2 ^ 29) (hq : q ≤ 53) (hm : Mat σ μ q s) (hi : Mst nw μ s) : Sim nw b (B + 3) (lbDel σ nw q cut) (mDel μ s cut) := by
  unfold lbDel mDel
  rw [up_eq h hn hm.1.2 hi, sound_eq hm hi.2.2.2.2.2.2.2]
  cases hu : mUp μ s with
  | false =>
    rw [if_neg Bool.false_ne_true, if_neg Bool.false_ne_true]
    exact h.mono (by omega)
  | true =>
    rw [if_pos tt, if_pos tt]
    cases hw : mWrong μ s with
    | true =>
      rw [Bool.not_true, if_neg Bool.false_ne_true, if_pos tt]
      exact (sim_refused h rfl rfl).mono (by omega)
    | false =>
      rw [Bool.not_false, if_pos tt, if_neg Bool.false_ne_true]
      exact sim_hand (sim_49 h 0) hn ht9 rfl hq hm hi hu hw
theorem q_deliver (h : Sim nw b B σ μ) (hn : nw ≤ 4) (ht9 : gN σ 4 0 < 2 ^ 29) (k cut : Int32) : lbDelR σ nw k cut = mDelR μ k ∧ Sim nw b (B + 3) (lbDelS σ nw k cut) (mDelS μ k cut) := by
  have hl := (q_lose h k).2
  unfold lbDelR mDelR lbDelS mDelS
  unfold lbLose mLose at hl
  cases hk : inR k (gN σ 21 1) with
  | false =>
    rw [msg_no h hk]
    exact ⟨rfl, h.mono (by omega)⟩
  | true =>
    obtain ⟨i, s, rfl, hi9, hc, hp, m, fs, qs, hs, rs, r, -⟩ := msg_at h hk
    rw [hk, if_pos tt, hc, hp] at hl
    have hl : Sim nw b B (fTake σ i) (sN μ 122 s 0) := hl
    rw [if_pos tt, if_pos tt, hc, hp]
    have hn24 := h.1.n
    have kq := kd_msg (h.1.R i (by omega))
    have mi : Mst nw μ s := h.2.2.2.2.2.1 s
    have m' : Mat (fTake σ i) (sN μ 122 s 0) (gN σ 100 i) s := m
    have mi' : Mst nw (sN μ 122 s 0) s := mi
    have s1 := sim_del (cut := cut) hl hn ht9 kq.2.1 m' mi'
    refine ⟨?_, s1⟩
    show (if lbUp (fTake σ i) nw (nI (gN σ 11 (gN σ 100 i))) = true then nI (gN (lbDel (fTake σ i) nw (gN σ 100 i) cut) 10 (gN σ 100 i)) else nI 0) = if mUp μ s = true then nI (gN μ 123 s) else nI 0
    have u : lbUp (fTake σ i) nw (nI (gN σ 11 (gN σ 100 i))) = mUp μ s := up_eq (μ := sN μ 122 s 0) (q := gN σ 100 i) hl hn m.1.2 mi'
    have t := tk_del (q := gN σ 100 i) (cut := cut) hl.1 ⟨fun x hx => (hl.2.1.2.1 x hx).1, hl.2.1.2.2.1⟩
    have t3 : gN (lbDel (fTake σ i) nw (gN σ 100 i) cut) 10 (gN σ 100 i) = gN σ 10 (gN σ 100 i) := t.2.2
    rw [u, t3, show gN σ 10 (gN σ 100 i) = gN μ 123 s from m.1.1]
end DE
