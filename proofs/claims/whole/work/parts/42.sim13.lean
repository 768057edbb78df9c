/-! both sides at once: collect -/
theorem fnd_iff {P : Nat → Bool} {n : Nat} : (fnd P n).isSome = true ↔ ∃ i, i < n ∧ P i = true := by
  constructor
  · intro h
    cases e : fnd P n with
    | none => rw [e] at h; cases h
    | some i => exact ⟨i, (fnd_spec e).1, (fnd_spec e).2.1⟩
  · rintro ⟨i, hi, hp⟩
    cases e : fnd P n with
    | none => rw [fnd_no e i hi] at hp; cases hp
    | some i => rfl
theorem anyN_iff {P : Nat → Bool} : ∀ {n : Nat}, anyN P n = true ↔ ∃ i, i < n ∧ P i = true
  | 0 => ⟨fun h => absurd (show false = true from h) (by decide), fun ⟨i, hi, _⟩ => absurd hi (by omega)⟩
  | n + 1 => by
    show (anyN P n || P n) = true ↔ _
    rw [Bool.or_eq_true, anyN_iff]
    constructor
    · rintro (⟨i, hi, hp⟩ | h)
      · exact ⟨i, by omega, hp⟩
      · exact ⟨n, by omega, h⟩
    · rintro ⟨i, hi, hp⟩
      by_cases c : i = n
      · right; rw [← c]; exact hp
      · left; exact ⟨i, by omega, hp⟩
theorem same_len {n m : Nat} {f g : Nat → Int32} (h1 : ∀ i j, i < n → j < n → f i = f j → i = j) (h3 : ∀ i, i < n → ∃ j, j < m ∧ g j = f i) : n ≤ m := by
  have hc : ∀ i, ∃ j, i < n → j < m ∧ g j = f i := fun i => by
    by_cases q : i < n
    · obtain ⟨j, hj⟩ := h3 i q; exact ⟨j, fun _ => hj⟩
    · exact ⟨0, fun z => absurd z q⟩
  have s := fun i => Classical.choose_spec (hc i)
  refine php m n (fun i => Classical.choose (hc i)) (fun i hi => (s i hi).1) (fun i j hi hj e => ?_)
  have e : Classical.choose (hc i) = Classical.choose (hc j) := e
  refine h1 i j hi hj ?_
  rw [← (s i hi).2, ← (s j hj).2, e]
section CO
variable {nw b B : Nat} {σ μ : Sg} {fs qs hs rs : Nat → Nat}
theorem need_eq (r : Rel nw b σ μ fs qs hs rs) (hW : Wf nw σ) (hn : nw ≤ 4) (d : Int32) : sNeed σ nw d = mNeed μ d := by
  have hq := hW.q
  rw [Bool.eq_iff_iff]
  unfold sNeed mNeed dOut qNames lNames kNames
  rw [Bool.or_eq_true, Bool.or_eq_true, anyN_iff, fnd_iff, fnd_iff, fnd_iff]
  have kq : ∀ i, i < gN σ 39 79 → kof σ (gN σ 111 i) = mK3 μ (qs i) := fun i hi => by
    rw [← show (vQ σ).2 i = kof σ (gN σ 111 i) from if_pos (by omega)]; exact (r.Q.2.1 i hi).2
  have kl : ∀ j, j < nw → gB σ 112 j = true → kof σ (95 + j) = mK3 μ (hs j) := fun j hj hb => by
    rw [← vL_k' (show j < 4 by omega)]; exact (r.L.1 j hj hb).2.2.1
  have ab : ∀ {o k : Nat}, kof σ o = mK3 μ k → gI σ 7 o = gI μ 110 k ∧ gI σ 8 o = gI μ 111 k := fun h => ⟨congrArg (fun z => z.2.1) h, congrArg (fun z => z.2.2) h⟩
  constructor
  · rintro (⟨i, hi, hp⟩ | ⟨i, hi, hp⟩ | ⟨j, hj, hp⟩)
    · obtain ⟨a1, a2, a3, a4⟩ := r.R.1 i hi
      refine ⟨rs i, a1, ?_⟩
      have a2 : gB μ 112 (rs i) = true := a2
      have a4 : gI σ 110 i = gI μ 113 (rs i) := a4
      unfold mNeedP
      rw [a2, ← a4, hp]
      rfl
    · obtain ⟨b1, b2⟩ := ab (kq i hi)
      have p : 0 < gN μ 114 (qs i) := r.Q.1.1 i hi
      refine ⟨qs i, (r.Q.2.1 i hi).1, ?_⟩
      unfold mNeedP
      rw [decide_eq_true p, ← b1, ← b2, hp]
      simp
    · rw [Bool.and_eq_true] at hp
      obtain ⟨b1, b2⟩ := ab (kl j hj hp.1)
      have a2 : gN μ 115 (hs j) = j + 1 := (r.L.1 j hj hp.1).2.1
      refine ⟨hs j, (r.L.1 j hj hp.1).1, ?_⟩
      unfold mNeedP
      rw [decide_eq_true (show 0 < gN μ 115 (hs j) by omega), ← b1, ← b2, hp.2]
      simp
  · rintro ⟨k, hk, hp⟩
    unfold mNeedP at hp
    rw [Bool.or_eq_true, Bool.and_eq_true, Bool.and_eq_true, Bool.or_eq_true] at hp
    rcases hp with ⟨h1, h2⟩ | ⟨h1 | h1, h2⟩
    · obtain ⟨i, hi, e⟩ := r.R.2.2 k h1
      have a4 : gI σ 110 i = gI μ 113 (rs i) := (r.R.1 i hi).2.2.2
      left
      exact ⟨i, hi, by rw [a4, e]; exact h2⟩
    · obtain ⟨i, hi, e⟩ := r.Q.1.2.2 k (of_decide_eq_true h1)
      obtain ⟨b1, b2⟩ := ab (kq i hi)
      right; left
      exact ⟨i, hi, by rw [b1, b2, e]; exact h2⟩
    · obtain ⟨j, hj, hb, e, ek⟩ := r.L.2.1 k (of_decide_eq_true h1)
      have hb : gB σ 112 j = true := hb
      obtain ⟨b1, b2⟩ := ab (kl j hj hb)
      right; right
      exact ⟨j, hj, by rw [hb, b1, b2, ek]; exact h2⟩
theorem need_rem (s : Sg) (nw j : Nat) (d : Int32) : sNeed (dRem s j) nw d = sNeed s nw d := rfl
theorem swp_ok (ν : Int32 → Bool) : ∀ (j : Nat) (s : Sg) (c : Nat), (∀ d, sNeed s nw d = ν d) → j ≤ gN s 36 64 → (∀ i, i < gN s 36 64 → gI s 107 i = dg (gI s 108 i)) → (∀ i i', i < gN s 36 64 → i' < gN s 36 64 → gI s 108 i = gI s 108 i' → i = i') → (∀ i, j ≤ i → i < gN s 36 64 → ν (dg (gI s 108 i)) = true) →
    (Ex [2] s (swp nw j s c).1 ∧ (∀ f, f ≠ 36 → gN (swp nw j s c).1 f = gN s f)) ∧ (swp nw j s c).2 + gN (swp nw j s c).1 36 64 = c + gN s 36 64 ∧ (∀ i, i < gN (swp nw j s c).1 36 64 → gI (swp nw j s c).1 107 i = dg (gI (swp nw j s c).1 108 i)) ∧ (∀ i i', i < gN (swp nw j s c).1 36 64 → i' < gN (swp nw j s c).1 36 64 → gI (swp nw j s c).1 108 i = gI (swp nw j s c).1 108 i' → i = i') ∧ (∀ i, i < gN (swp nw j s c).1 36 64 → ν (dg (gI (swp nw j s c).1 108 i)) = true ∧ ∃ i', i' < gN s 36 64 ∧ gI (swp nw j s c).1 108 i = gI s 108 i') ∧ (∀ i', i' < gN s 36 64 → ν (dg (gI s 108 i')) = true → ∃ i, i < gN (swp nw j s c).1 36 64 ∧ gI (swp nw j s c).1 108 i = gI s 108 i')
  | 0, s, c, hν, hj, h1, h2, h3 => ⟨⟨Ex.rf _ s, fun _ _ => rfl⟩, rfl, h1, h2, fun i hi => ⟨h3 i (Nat.zero_le _) hi, i, hi, rfl⟩, fun i hi _ => ⟨i, hi, rfl⟩⟩
  | j + 1, s, c, hν, hj, h1, h2, h3 => by
    unfold swp
    rw [hν, h1 j (by omega)]
    by_cases q : ν (dg (gI s 108 j)) = true
    · rw [if_pos q]
      refine swp_ok ν j s c hν (by omega) h1 h2 (fun i hi hi' => ?_)
      by_cases e : i = j
      · rw [e]; exact q
      · exact h3 i (by omega) hi'
    · rw [if_neg q]
      have n1 : gN (dRem s j) 36 64 = gN s 36 64 - 1 := rfl
      have c7 : gI (dRem s j) 107 = up1 (gI s 107) j (gI s 107 (gN s 36 64 - 1)) := gI_up (sN s 36 64 (gN s 36 64 - 1)) 107 j _
      have c8 : gI (dRem s j) 108 = up1 (gI s 108) j (gI s 108 (gN s 36 64 - 1)) := gI_up (sI (sN s 36 64 (gN s 36 64 - 1)) 107 j (gI s 107 (gN s 36 64 - 1))) 108 j _
      have ix : ∀ i, i < gN s 36 64 - 1 → ∃ x, x < gN s 36 64 ∧ x ≠ j ∧ gI (dRem s j) 107 i = gI s 107 x ∧ gI (dRem s j) 108 i = gI s 108 x ∧ (x = if i = j then gN s 36 64 - 1 else i) := fun i hi => by
        refine ⟨if i = j then gN s 36 64 - 1 else i, ?_, ?_, ?_, ?_, rfl⟩
        · split <;> omega
        · split <;> omega
        · rw [c7]; unfold up1; split <;> rfl
        · rw [c8]; unfold up1; split <;> rfl
      obtain ⟨⟨a0, a0'⟩, a1, a2, a3, a4, a5⟩ := swp_ok ν j (dRem s j) (c + 1) (fun d => (need_rem s nw j d).trans (hν d)) (by rw [n1]; omega) (fun i hi => by
          obtain ⟨x, x1, x2, x3, x4, _⟩ := ix i hi
          rw [x3, x4]; exact h1 x x1) (fun i i' hi hi' e => by
          obtain ⟨x, x1, x2, x3, x4, x5⟩ := ix i hi
          obtain ⟨y, y1, y2, y3, y4, y5⟩ := ix i' hi'
          rw [x4, y4] at e
          have := h2 x y x1 y1 e
          rw [n1] at hi hi'
          rw [x5, y5] at this
          split at this <;> split at this <;> omega) (fun i hi hi' => by
          obtain ⟨x, x1, x2, x3, x4, x5⟩ := ix i hi'
          rw [n1] at hi'
          rw [x4]
          refine h3 x ?_ x1
          rw [x5]
          split <;> omega)
      rw [n1] at a1 a4 a5
      refine ⟨⟨((exN_36 s _ _).seq ((exI_107 _ _ _).seq (exI_108 _ _ _) (L := [2]) (by decide)) (L := [2]) (by decide)).seq a0 (by decide), fun f hf => (a0' f hf).trans (gN_of s 64 _ hf)⟩, ?_, a2, a3, fun i hi => ⟨(a4 i hi).1, ?_⟩, fun i' hi' hv => ?_⟩
      · rw [a1]; omega
      · obtain ⟨x, hx, ex⟩ := (a4 i hi).2
        obtain ⟨y, y1, _, _, y4, _⟩ := ix x hx
        exact ⟨y, y1, ex.trans y4⟩
      · have ne : i' ≠ j := fun e => q (by rw [← e]; exact hv)
        have : ∃ x, x < gN s 36 64 - 1 ∧ gI (dRem s j) 108 x = gI s 108 i' := by
          by_cases e : i' = gN s 36 64 - 1
          · refine ⟨j, by omega, ?_⟩
            rw [c8, up1_s, e]
          · refine ⟨i', by omega, ?_⟩
            rw [c8, up1_n _ _ ne]
        obtain ⟨x, hx, ex⟩ := this
        obtain ⟨i, hi, e⟩ := a5 x hx (by rw [ex]; exact hv)
        exact ⟨i, hi, e.trans ex⟩
theorem colN_s (μ : Sg) : ∀ i, gB (colN μ i).1 = gB μ ∧ gJ (colN μ i).1 = gJ μ ∧ (∀ f, f ≠ 117 → gI (colN μ i).1 f = gI μ f) ∧ Em [2] μ (colN μ i).1
  | 0 => ⟨rfl, rfl, fun _ _ => rfl, Em.rf _ μ⟩
  | i + 1 => by
    obtain ⟨a, b, c, d⟩ := colN_s μ i
    unfold colN
    split
    · exact ⟨a, b, fun f hf => (gI_of _ _ _ hf).trans (c f hf), d.seq (emI_117 _ _ _) (by decide)⟩
    · exact ⟨a, b, c, d⟩
theorem colN_need (μ : Sg) (i : Nat) (d : Int32) : mNeed (colN μ i).1 d = mNeed μ d := by
  obtain ⟨a, b, c, -⟩ := colN_s μ i
  unfold mNeed mNeedP
  rw [a, colN_N, c 113 (by decide), c 110 (by decide), c 111 (by decide)]
theorem col_ok (μ : Sg) : ∀ i, (∀ j, i ≤ j → gI (colN μ i).1 117 j = gI μ 117 j) ∧ ∃ g : Nat → Nat, (∀ j, j < (colN μ i).2 → g j < i ∧ gI (colN μ i).1 117 j = gI μ 117 (g j) ∧ mNeed μ (dg (gI μ 117 (g j))) = true) ∧ (∀ j j', j < (colN μ i).2 → j' < (colN μ i).2 → g j = g j' → j = j') ∧ (∀ x, x < i → mNeed μ (dg (gI μ 117 x)) = true → ∃ j, j < (colN μ i).2 ∧ g j = x)
  | 0 => ⟨fun _ _ => rfl, fun _ => 0, fun j hj => absurd hj (Nat.not_lt_zero j), fun j _ hj => absurd hj (Nat.not_lt_zero j), fun x hx => absurd hx (Nat.not_lt_zero x)⟩
  | i + 1 => by
    obtain ⟨a, g, g1, g2, g3⟩ := col_ok μ i
    have le := colN_le μ i
    unfold colN
    rw [colN_need, a i (Nat.le_refl _)]
    by_cases q : mNeed μ (dg (gI μ 117 i)) = true
    · rw [if_pos q]
      show (∀ j, i + 1 ≤ j → gI (sI (colN μ i).1 117 (colN μ i).2 (gI μ 117 i)) 117 j = _) ∧ ∃ g : Nat → Nat, (∀ j, j < (colN μ i).2 + 1 → g j < i + 1 ∧ gI (sI (colN μ i).1 117 (colN μ i).2 (gI μ 117 i)) 117 j = gI μ 117 (g j) ∧ _) ∧ (∀ j j', j < (colN μ i).2 + 1 → j' < (colN μ i).2 + 1 → _) ∧ (∀ x, x < i + 1 → _ → ∃ j, j < (colN μ i).2 + 1 ∧ _)
      rw [gI_up]
      refine ⟨fun j hj => ?_, up1 g (colN μ i).2 i, fun j hj => ?_, fun j j' hj hj' e => ?_, fun x hx hv => ?_⟩
      · rw [up1_n _ _ (by omega)]; exact a j (by omega)
      · by_cases e : j = (colN μ i).2
        · rw [e, up1_s, up1_s]; exact ⟨by omega, rfl, q⟩
        · rw [up1_n _ _ e, up1_n _ _ e]
          obtain ⟨x1, x2, x3⟩ := g1 j (by omega)
          exact ⟨by omega, x2, x3⟩
      · by_cases d : j = (colN μ i).2 <;> by_cases d' : j' = (colN μ i).2
        · omega
        · rw [d, up1_s, up1_n _ _ d'] at e
          have := (g1 j' (by omega)).1
          omega
        · rw [d', up1_s, up1_n _ _ d] at e
          have := (g1 j (by omega)).1
          omega
        · rw [up1_n _ _ d, up1_n _ _ d'] at e
          exact g2 j j' (by omega) (by omega) e
      · by_cases e : x = i
        · exact ⟨(colN μ i).2, by omega, by rw [up1_s, e]⟩
        · obtain ⟨j, hj, ej⟩ := g3 x (by omega) hv
          exact ⟨j, by omega, by rw [up1_n _ _ (by omega)]; exact ej⟩
    · rw [if_neg q]
      refine ⟨fun j hj => a j (by omega), g, fun j hj => ?_, g2, fun x hx hv => ?_⟩
      · obtain ⟨x1, x2, x3⟩ := g1 j hj
        exact ⟨by omega, x2, x3⟩
      · by_cases e : x = i
        · rw [e] at hv; exact absurd hv q
        · exact g3 x (by omega) hv
theorem q_collect (h : Sim nw b B σ μ) (hn : nw ≤ 4) : lbColR σ nw = mColR μ ∧ Sim nw b B (lbColS σ nw) (mColS μ) := by
  have hw := wf_col (nw := nw) h.1
  have hm := wfm_col h.2.2.1
  have hh := h
  obtain ⟨h1, h2, h3, ⟨fs, qs, hs, rs, r⟩, h5⟩ := h
  unfold lbColS at hw
  unfold mColS at hm
  unfold lbColR mColR lbColS mColS
  rw [r.su] at hw ⊢
  cases hd : gB μ 100 0 with
  | true => exact ⟨rfl, hh⟩
  | false =>
    rw [hd] at hw hm
    have hw : Wf nw (swp nw (gN σ 36 64) σ 0).1 := hw
    have hm : WfM B (sN (colN μ (gN μ 24 0)).1 24 0 (colN μ (gN μ 24 0)).2) := hm
    obtain ⟨d1, d2, d3, d4, d5, d6⟩ := r.D
    have d1 : gN σ 36 64 = gN μ 24 0 := d1
    obtain ⟨⟨e1, e2⟩, s1, s2, s3, s4, s5⟩ := swp_ok (nw := nw) (fun d => mNeed μ d) (gN σ 36 64) σ 0 (fun d => need_eq r h1 hn d) (Nat.le_refl _) d2 d3 (fun i hi hi' => absurd hi' (by omega))
    obtain ⟨c0, g, c1, c2, c3⟩ := col_ok μ (gN μ 24 0)
    have em : Em [2] μ (sN (colN μ (gN μ 24 0)).1 24 0 (colN μ (gN μ 24 0)).2) := (colN_s μ _).2.2.2.seq (emN_24 _ _ _) (by decide)
    have vu : ∀ i, i < gN (swp nw (gN σ 36 64) σ 0).1 36 64 → ∃ j, j < (colN μ (gN μ 24 0)).2 ∧ gI (colN μ (gN μ 24 0)).1 117 j = gI (swp nw (gN σ 36 64) σ 0).1 108 i := fun i hi => by
      obtain ⟨a1, x, hx, ex⟩ := s4 i hi
      obtain ⟨y, hy, ey⟩ := d5 x hx
      have ey : gI μ 117 y = gI σ 108 x := ey
      obtain ⟨j, hj, ej⟩ := c3 y hy (by rw [ey, ← ex]; exact a1)
      exact ⟨j, hj, by rw [(c1 j hj).2.1, ej, ey, ex]⟩
    have uv : ∀ j, j < (colN μ (gN μ 24 0)).2 → ∃ i, i < gN (swp nw (gN σ 36 64) σ 0).1 36 64 ∧ gI (swp nw (gN σ 36 64) σ 0).1 108 i = gI (colN μ (gN μ 24 0)).1 117 j := fun j hj => by
      obtain ⟨a1, a2, a3⟩ := c1 j hj
      obtain ⟨x, hx, ex⟩ := d6 (g j) a1
      have ex : gI σ 108 x = gI μ 117 (g j) := ex
      obtain ⟨i, hi, ei⟩ := s5 x hx (by show mNeed μ _ = true; rw [ex]; exact a3)
      exact ⟨i, hi, by rw [ei, ex, a2]⟩
    have uin : ∀ i j, i < (colN μ (gN μ 24 0)).2 → j < (colN μ (gN μ 24 0)).2 → gI (colN μ (gN μ 24 0)).1 117 i = gI (colN μ (gN μ 24 0)).1 117 j → i = j := fun i j hi hj e => by
      rw [(c1 i hi).2.1, (c1 j hj).2.1] at e
      exact c2 i j hi hj (d4 _ _ (c1 i hi).1 (c1 j hj).1 e)
    have len : gN (swp nw (gN σ 36 64) σ 0).1 36 64 = (colN μ (gN μ 24 0)).2 := Nat.le_antisymm (same_len s3 vu) (same_len uin uv)
    refine ⟨?_, hw, h2.of (e2 100 (by decide)) (e2 20 (by decide)) (e2 111 (by decide)), hm, ⟨fs, qs, hs, rs, ?_⟩, ?_⟩
    · show nI (swp nw (gN σ 36 64) σ 0).2 = nI (gN μ 24 0 - (colN μ (gN μ 24 0)).2)
      congr 1
      omega
    · exact rel_step r e1 em (by decide) (Or.inl (by decide)) (Or.inl ⟨by decide, rfl⟩) (Or.inr ⟨len, s2, s3, uin, vu, uv⟩) (Or.inl ⟨by decide, rfl⟩) (Or.inl ⟨by decide, rfl⟩) (Or.inl ⟨by decide, rfl⟩) (Or.inl (by decide)) (Or.inl (by decide)) (Or.inl (by decide)) (Or.inl ⟨by decide, by decide⟩)
    · refine inv_step h5 em (by decide) (by decide) (Or.inl (by decide)) (Or.inr (fun j hj => ?_)) (Or.inl (by decide)) (Or.inl (by decide))
      have hj : j < (colN μ (gN μ 24 0)).2 := hj
      show IsC (uI μ) (gI (colN μ (gN μ 24 0)).1 117 j)
      rw [(c1 j hj).2.1]
      exact h5.2.2.2.1 _ (c1 j hj).1
end CO
