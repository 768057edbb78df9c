/-! searches on both sides, and more questions -/
section SE
variable {nw b B : Nat} {σ μ : Sg} {fs qs hs rs : Nat → Nat}
theorem disk_find (h : RD0 (vD σ) (uD μ)) (d : Int32) : (∃ c i j, dg c = d ∧ fBlob σ d = some i ∧ gI σ 108 i = c ∧ mFind μ d = some j ∧ gI μ 117 j = c) ∨ (fBlob σ d = none ∧ mFind μ d = none) := by
  obtain ⟨h1, h2, h3, h4, h5, h6⟩ := h
  cases e : fBlob σ d with
  | some i =>
    left
    obtain ⟨a1, a2, a3⟩ := fnd_spec e
    have a2 : gI σ 107 i = d := of_decide_eq_true a2
    have e2 : gI σ 107 i = dg (gI σ 108 i) := h2 i a1
    obtain ⟨j, hj, ej⟩ := h5 i a1
    have ej : gI μ 117 j = gI σ 108 i := ej
    have hj : j < gN μ 24 0 := hj
    cases f : mFind μ d with
    | none =>
      have := fnd_no f j hj
      have := of_decide_eq_false this
      rw [ej, ← e2] at this
      exact absurd a2 this
    | some x =>
      obtain ⟨b1, b2, b3⟩ := fnd_spec f
      have b2 : dg (gI μ 117 x) = d := of_decide_eq_true b2
      exact ⟨gI σ 108 i, i, x, by rw [← e2]; exact a2, rfl, rfl, rfl, dg_inj (by rw [b2, ← e2]; exact a2.symm)⟩
  | none =>
    right
    refine ⟨rfl, ?_⟩
    refine fnd_none (fun j hj => ?_)
    rw [Bool.eq_false_iff]
    intro c
    have c : dg (gI μ 117 j) = d := of_decide_eq_true c
    obtain ⟨i, hi, ei⟩ := h6 j hj
    have ei : gI σ 108 i = gI μ 117 j := ei
    have := of_decide_eq_false (fnd_no e i hi)
    have e2 : gI σ 107 i = dg (gI σ 108 i) := h2 i hi
    rw [e2, ei] at this
    exact this c
theorem dHas_eq (h : RD0 (vD σ) (uD μ)) (d : Int32) : dHas σ d = (mFind μ d).isSome := by
  unfold dHas
  rcases disk_find h d with ⟨c, i, j, _, e1, _, e2, _⟩ | ⟨e1, e2⟩
  · rw [e1, e2]; rfl
  · rw [e1, e2]
theorem dOf_eq (h : RD0 (vD σ) (uD μ)) (d : Int32) : dOf σ d = mOf μ (mFind μ d) := by
  unfold dOf mOf
  rcases disk_find h d with ⟨c, i, j, _, e1, e3, e2, e4⟩ | ⟨e1, e2⟩
  · rw [e1, e2]; exact e3.trans e4.symm
  · rw [e1, e2]; rfl
theorem fRes_no (h : RR0 (vR σ) (uR μ) (uK μ) rs) (hr : gN σ 37 64 ≤ 10) {q k : Nat} (hk : k < gN μ 14 0) (hi : ∀ k k', k < gN μ 14 0 → k' < gN μ 14 0 → mK3 μ k = mK3 μ k' → k = k') (hq : kof σ q = mK3 μ k) (hd : gB μ 112 k = false) : fRes σ q = none := by
  refine fnd_none (fun i hi9 => ?_)
  rw [Bool.eq_false_iff]
  intro c
  have c : kof σ (69 + i) = kof σ q := of_decide_eq_true c
  obtain ⟨a1, a2, a3, a4⟩ := h.1 i hi9
  have a3 : kof σ (69 + i) = mK3 μ (rs i) := by rw [← show (vR σ).2.1 i = kof σ (69 + i) from if_pos (by omega)]; exact a3
  have := hi (rs i) k a1 hk (by rw [← a3, c, hq])
  rw [this] at a2
  exact absurd (show gB μ 112 k = true from a2) (by rw [hd]; decide)
theorem fRes_yes (h : RR0 (vR σ) (uR μ) (uK μ) rs) (hr : gN σ 37 64 ≤ 10) {q k : Nat} (hi : ∀ k k', k < gN μ 14 0 → k' < gN μ 14 0 → mK3 μ k = mK3 μ k' → k = k') (hq : kof σ q = mK3 μ k) (hd : gB μ 112 k = true) : ∃ i, fRes σ q = some i ∧ i < gN σ 37 64 ∧ gI σ 110 i = gI μ 113 k := by
  obtain ⟨i, hi9, e⟩ := h.2.2 k hd
  have hi9 : i < gN σ 37 64 := hi9
  obtain ⟨a1, a2, a3, a4⟩ := h.1 i hi9
  have a3 : kof σ (69 + i) = mK3 μ (rs i) := by rw [← show (vR σ).2.1 i = kof σ (69 + i) from if_pos (by omega)]; exact a3
  refine ⟨i, fnd_some hi9 (decide_eq_true (by rw [a3, e, hq])) (fun j hj => ?_), hi9, ?_⟩
  · rw [Bool.eq_false_iff]
    intro c
    have c : kof σ (69 + j) = kof σ q := of_decide_eq_true c
    have hj9 : j < gN σ 37 64 := by omega
    obtain ⟨b1, b2, b3, b4⟩ := h.1 j hj9
    have b3 : kof σ (69 + j) = mK3 μ (rs j) := by rw [← show (vR σ).2.1 j = kof σ (69 + j) from if_pos (by omega)]; exact b3
    have := hi (rs j) k b1 (by rw [← e]; exact a1) (by rw [← b3, c, hq])
    have := h.2.1 j i hj9 hi9 (by rw [this, e])
    omega
  · rw [← e]; exact a4
theorem fQue_no (h : RQ0 (vQ σ) (uQ μ) (uK μ) qs) (hr : gN σ 39 79 ≤ 10) {q k : Nat} (hk : k < gN μ 14 0) (hi : ∀ k k', k < gN μ 14 0 → k' < gN μ 14 0 → mK3 μ k = mK3 μ k' → k = k') (hq : kof σ q = mK3 μ k) (hd : gN μ 114 k = 0) : fQue σ q = none := by
  refine fnd_none (fun i hi9 => ?_)
  rw [Bool.eq_false_iff]
  intro c
  have c : kof σ (gN σ 111 i) = kof σ q := of_decide_eq_true c
  obtain ⟨a1, a3⟩ := h.2.1 i hi9
  have a3 : kof σ (gN σ 111 i) = mK3 μ (qs i) := by rw [← show (vQ σ).2 i = kof σ (gN σ 111 i) from if_pos (by omega)]; exact a3
  have := hi (qs i) k a1 hk (by rw [← a3, c, hq])
  have p : 0 < gN μ 114 (qs i) := h.1.1 i hi9
  rw [this] at p
  omega
theorem fQue_yes (h : RQ0 (vQ σ) (uQ μ) (uK μ) qs) (hr : gN σ 39 79 ≤ 10) {q k : Nat} (hi : ∀ k k', k < gN μ 14 0 → k' < gN μ 14 0 → mK3 μ k = mK3 μ k' → k = k') (hq : kof σ q = mK3 μ k) (hd : 0 < gN μ 114 k) : ∃ i, fQue σ q = some i ∧ i < gN σ 39 79 ∧ qs i = k := by
  obtain ⟨i, hi9, e⟩ := h.1.2.2 k hd
  have hi9 : i < gN σ 39 79 := hi9
  obtain ⟨a1, a3⟩ := h.2.1 i hi9
  have a3 : kof σ (gN σ 111 i) = mK3 μ (qs i) := by rw [← show (vQ σ).2 i = kof σ (gN σ 111 i) from if_pos (by omega)]; exact a3
  refine ⟨i, fnd_some hi9 (decide_eq_true (by rw [a3, e, hq])) (fun j hj => ?_), hi9, e⟩
  rw [Bool.eq_false_iff]
  intro c
  have c : kof σ (gN σ 111 j) = kof σ q := of_decide_eq_true c
  have hj9 : j < gN σ 39 79 := by omega
  obtain ⟨b1, b3⟩ := h.2.1 j hj9
  have b3 : kof σ (gN σ 111 j) = mK3 μ (qs j) := by rw [← show (vQ σ).2 j = kof σ (gN σ 111 j) from if_pos (by omega)]; exact b3
  have := hi (qs j) k b1 (by rw [← e]; exact a1) (by rw [← b3, c, hq])
  have := h.1.inj hj9 hi9 (by rw [this, e])
  omega
theorem vL_k' {j : Nat} (h : j < 4) : (vL σ).2.1 j = kof σ (95 + j) := if_pos h
theorem lFind_no (h : RL0 nw (vL σ) (uL μ) (uK μ) hs) (hn : nw ≤ 4) {q k : Nat} (hk : k < gN μ 14 0) (hi : ∀ k k', k < gN μ 14 0 → k' < gN μ 14 0 → mK3 μ k = mK3 μ k' → k = k') (hq : kof σ q = mK3 μ k) (hd : gN μ 115 k = 0) : lFind σ nw q = none := by
  unfold lFind
  rw [fnd_none (fun j hj => ?_)]
  · rfl
  · rw [Bool.eq_false_iff]
    intro c
    simp only [Bool.and_eq_true, decide_eq_true_eq] at c
    obtain ⟨a1, a2, a3, a4⟩ := h.1 j hj c.1
    rw [vL_k' (by omega)] at a3
    have a3 : kof σ (95 + j) = mK3 μ (hs j) := a3
    have := hi (hs j) k a1 hk (by rw [← a3, c.2, hq])
    have a2 : gN μ 115 (hs j) = j + 1 := a2
    rw [this] at a2
    omega
theorem lFind_yes (h : RL0 nw (vL σ) (uL μ) (uK μ) hs) (hn : nw ≤ 4) {q k : Nat} (hi : ∀ k k', k < gN μ 14 0 → k' < gN μ 14 0 → mK3 μ k = mK3 μ k' → k = k') (hq : kof σ q = mK3 μ k) (hd : 0 < gN μ 115 k) : ∃ j, lFind σ nw q = some (j + 1) ∧ j < nw ∧ gB σ 112 j = true ∧ gN μ 115 k = j + 1 ∧ hs j = k := by
  obtain ⟨j, hj, hb, e, ek⟩ := h.2.1 k hd
  have hb : gB σ 112 j = true := hb
  have kj : ∀ j, j < nw → gB σ 112 j = true → hs j < gN μ 14 0 ∧ gN μ 115 (hs j) = j + 1 ∧ kof σ (95 + j) = mK3 μ (hs j) := fun j hj hb => by
    obtain ⟨a1, a2, a3, a4⟩ := h.1 j hj hb
    rw [vL_k' (by omega)] at a3
    exact ⟨a1, a2, a3⟩
  refine ⟨j, ?_, hj, hb, e, ek⟩
  unfold lFind
  rw [fnd_some hj (by simp only [Bool.and_eq_true, decide_eq_true_eq]; exact ⟨hb, by rw [(kj j hj hb).2.2, ek, hq]⟩) (fun x hx => ?_)]
  · rfl
  · rw [Bool.eq_false_iff]
    intro c
    simp only [Bool.and_eq_true, decide_eq_true_eq] at c
    obtain ⟨b1, b2, b3⟩ := kj x (by omega) c.1
    have := hi (hs x) k b1 (by rw [← ek]; exact (kj j hj hb).1) (by rw [← b3, c.2, hq])
    have e : gN μ 115 k = j + 1 := e
    rw [this] at b2
    omega
theorem lsd_yes (h : RL0 nw (vL σ) (uL μ) (uK μ) hs) {j : Nat} (hj : j < nw) (hb : gB σ 112 j = true) : lsd μ (j + 1) = some (hs j) := by
  obtain ⟨a1, a2, a3, a4⟩ := h.1 j hj hb
  refine fnd_some a1 (decide_eq_true a2) (fun x hx => ?_)
  rw [Bool.eq_false_iff]
  intro c
  have c : gN μ 115 x = j + 1 := of_decide_eq_true c
  obtain ⟨y, hy, hyb, ey, ek⟩ := h.2.1 x (show 0 < gN μ 115 x by omega)
  have ey : gN μ 115 x = y + 1 := ey
  have : y = j := by omega
  rw [this] at ek
  omega
theorem lsd_no (h : RL0 nw (vL σ) (uL μ) (uK μ) hs) {j : Nat} (hb : gB σ 112 j = false) : lsd μ (j + 1) = none := by
  refine fnd_none (fun x hx => ?_)
  rw [Bool.eq_false_iff]
  intro c
  have c : gN μ 115 x = j + 1 := of_decide_eq_true c
  obtain ⟨y, hy, hyb, ey, ek⟩ := h.2.1 x (show 0 < gN μ 115 x by omega)
  have ey : gN μ 115 x = y + 1 := ey
  have hyb : gB σ 112 y = true := hyb
  have : y = j := by omega
  rw [this, hb] at hyb
  cases hyb
theorem q_stored (h : Sim nw b B σ μ) (d : Int32) : dHas σ d = (mFind μ d).isSome := by
  obtain ⟨h1, h2, h3, ⟨fs, qs, hs, rs, r⟩, h5⟩ := h
  exact dHas_eq r.D d
theorem q_lease (h : Sim nw b B σ μ) (hn : nw ≤ 4) (x : Int32) : lbLea σ nw x = mLea μ x := by
  obtain ⟨h1, h2, h3, ⟨fs, qs, hs, rs, r⟩, h5⟩ := h
  unfold lbLea mLea
  rw [r.nw']
  cases c : isW nw x with
  | false => rfl
  | true =>
    obtain ⟨j, hj, rfl⟩ := isW_of hn c
    rw [if_pos rfl, if_pos rfl, wTn (by omega), r.tm]
    unfold sTicks
    rw [lHas_nI (by omega), decide_eq_true hj, Bool.true_and, Nat.add_sub_cancel]
    cases hb : gB σ 112 j with
    | false => rw [lsd_no r.L hb]; rfl
    | true =>
      rw [lsd_yes r.L hj hb, if_pos rfl]
      have := (r.L.1 j hj hb).2.2.2
      rw [show gN σ 114 j = gN μ 116 (hs j) from this]
theorem q_doing (h : Sim nw b B σ μ) (hn : nw ≤ 4) (x : Int32) : lbDoi σ nw x = mDoi μ x := by
  obtain ⟨h1, h2, h3, ⟨fs, qs, hs, rs, r⟩, h5⟩ := h
  unfold lbDoi mDoi
  rw [r.nw']
  cases c : isW nw x with
  | false => rfl
  | true =>
    obtain ⟨j, hj, rfl⟩ := isW_of hn c
    rw [if_pos rfl, if_pos rfl, wTn (by omega), Nat.add_sub_cancel]
    obtain ⟨a1, a2, a3, a4⟩ := r.W j hj
    have a2 : gB σ 57 (100 + 2 * j) = decide (0 < gN μ 118 (j + 1)) := a2
    rw [a2]
    by_cases q : gN μ 118 (j + 1) = 0
    · rw [if_neg (by rw [q]; decide), if_pos q]
    · rw [if_pos (decide_eq_true (by omega)), if_neg q]
      have := (a4 (show 0 < gN μ 118 (j + 1) by omega)).2.2.1
      rw [show gN σ 58 (100 + 2 * j) = gN μ 121 (j + 1) from this]
theorem q_count (h : Sim nw b B σ μ) (x : Int32) : lbCnt σ x = mCnt μ x := by
  obtain ⟨h1, h2, h3, ⟨fs, qs, hs, rs, r⟩, h5⟩ := h
  unfold lbCnt mCnt
  have e1 : gN σ 37 64 = mRess μ := (cnt_bij (f := rs) (fun i hi => ⟨(r.R.1 i hi).1, (r.R.1 i hi).2.1⟩) r.R.2.1 (fun s hs hp => r.R.2.2 s hp)).symm
  have e2 : cnt (fun i => !gB σ 101 i) (gN σ 31 55) = mMiss μ := by rw [r.it, r.hv]; rfl
  rw [show gN σ 36 64 = gN μ 24 0 from r.D.1, e1, e2, r.c1, r.c2, r.c3, r.c4, r.c5, r.c6, r.tm]
end SE
