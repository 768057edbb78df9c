/-! both sides at once: leases run out; which key is next, which worker is free -/
section EX
variable {nw b B : Nat} {σ μ : Sg} {fs qs hs rs : Nat → Nat}
theorem ed_eq {i : Nat} (hi : i < nw) (hn : nw ≤ 4) (hb : gB σ 112 i = true) : lEnd (qApp σ (95 + i)) nw (nI (i + 1)) = qApp (sB σ 112 i false) (95 + i) := by
  have e : gB (qApp σ (95 + i)) 112 i = true := by
    unfold qApp
    by_cases c : gN σ 39 79 < 10
    · rw [if_pos c]; exact hb
    · rw [if_neg c]; exact hb
  unfold lEnd
  rw [lHas_nI (by omega), decide_eq_true hi, e, if_pos (show (true && true) = true from rfl), wIx (by omega)]
  unfold qApp
  show sB (if gN σ 39 79 < 10 then _ else _) 112 i false = if gN σ 39 79 < 10 then _ else _
  by_cases c : gN σ 39 79 < 10
  · rw [if_pos c, if_pos c]; rfl
  · rw [if_neg c, if_neg c]
theorem sim_exp {i t : Nat} (h : Sim nw b B σ μ) (hi : i < nw) (hn : nw ≤ 4) (ht : gN σ 4 0 = t) : Sim nw b (B + 1) (edS nw t σ i) (mExp μ (i + 1)) := by
  have hh := h
  obtain ⟨h1, h2, h3, ⟨fs, qs, hs, rs, r⟩, h5⟩ := h
  unfold edS mExp
  rw [lHas_nI (by omega), decide_eq_true hi, Bool.true_and]
  cases hb : gB σ 112 i with
  | false =>
    rw [lsd_no r.L hb, if_neg Bool.false_ne_true]
    exact hh.mono (by omega)
  | true =>
    obtain ⟨a1, a2, a3, a4⟩ := r.L.1 i hi hb
    have a1 : hs i < gN μ 14 0 := a1
    have a2 : gN μ 115 (hs i) = i + 1 := a2
    have a3 : kof σ (95 + i) = mK3 μ (hs i) := by rw [← vL_k' (show i < 4 by omega)]; exact a3
    have a4 : gN σ 114 i = gN μ 116 (hs i) := a4
    rw [lsd_yes r.L hi hb, if_pos rfl, a4, ← ht, r.tm]
    show Sim nw b (B + 1) _ (if gN μ 116 (hs i) ≤ gN μ 2 0 then sN (sN (sN μ 115 (hs i) 0) 23 0 (gN μ 23 0 + 1)) 114 (hs i) (gN μ 23 0 + 1) else μ)
    by_cases c : gN μ 116 (hs i) ≤ gN μ 2 0
    · rw [if_pos c, if_pos c, ed_eq hi hn hb]
      have q0 : gN μ 114 (hs i) = 0 := Nat.eq_zero_of_not_pos fun z => by
        have : gN μ 115 (hs i) = 0 := r.X (hs i) z
        omega
      exact sim_qApp (sim_lDel hh r hi hb) a1 a3 q0 (by rw [gN_up, up1_s])
    · rw [if_neg c, if_neg c]
      exact hh.mono (by omega)
theorem sim_edN {t : Nat} (h : Sim nw b B σ μ) (hn : nw ≤ 4) (ht : gN σ 4 0 = t) : ∀ i, i ≤ nw → Sim nw b (B + i) (edN σ nw t i) (tkE μ i)
  | 0, _ => h
  | i + 1, hi => sim_exp (sim_edN h hn ht i (by omega)) (by omega) hn ((edN_t σ nw t i).trans ht)
/-- the key that has waited longest -/
theorem mnq_spec : ∀ (n : Nat), (∀ f, mnq μ n = some f → f < n ∧ 0 < gN μ 114 f ∧ ∀ k, k < n → 0 < gN μ 114 k → gN μ 114 f ≤ gN μ 114 k) ∧ (mnq μ n = none → ∀ k, k < n → gN μ 114 k = 0)
  | 0 => ⟨(fun f h => nomatch h), fun _ k hk => absurd hk (Nat.not_lt_zero k)⟩
  | n + 1 => by
    obtain ⟨a, b⟩ := mnq_spec n
    unfold mnq
    by_cases c : gN μ 114 n = 0
    · rw [if_pos c]
      refine ⟨fun f hf => ?_, fun hf k hk => ?_⟩
      · obtain ⟨x, y, z⟩ := a f hf
        refine ⟨by omega, y, fun k hk hp => ?_⟩
        by_cases e : k = n
        · rw [e, c] at hp; omega
        · exact z k (by omega) hp
      · by_cases e : k = n
        · rw [e]; exact c
        · exact b hf k (by omega)
    · rw [if_neg c]
      cases hm : mnq μ n with
      | none =>
        refine ⟨fun f hf => ?_, fun hf => by cases hf⟩
        cases hf
        refine ⟨by omega, by omega, fun k hk hp => ?_⟩
        by_cases e : k = n
        · rw [e]; exact Nat.le_refl _
        · have := b hm k (by omega); omega
      | some g =>
        obtain ⟨x, y, z⟩ := a g hm
        show (∀ f, (if gN μ 114 n < gN μ 114 g then some n else some g) = some f → _) ∧ ((if gN μ 114 n < gN μ 114 g then some n else some g) = none → _)
        by_cases d : gN μ 114 n < gN μ 114 g
        · rw [if_pos d]
          refine ⟨fun f hf => ?_, fun hf => by cases hf⟩
          cases hf
          refine ⟨by omega, by omega, fun k hk hp => ?_⟩
          by_cases e : k = n
          · rw [e]; exact Nat.le_refl _
          · have := z k (by omega) hp; omega
        · rw [if_neg d]
          refine ⟨fun f hf => ?_, fun hf => by cases hf⟩
          cases hf
          refine ⟨by omega, y, fun k hk hp => ?_⟩
          by_cases e : k = n
          · rw [e]; omega
          · exact z k (by omega) hp
theorem mnq_no (h : RQ0 (vQ σ) (uQ μ) (uK μ) qs) (h0 : gN σ 39 79 = 0) : mnq μ (gN μ 14 0) = none := by
  have hO : Ord (gN σ 39 79) qs (gN μ 114) := h.1
  rw [h0] at hO
  cases e : mnq μ (gN μ 14 0) with
  | none => rfl
  | some f =>
    have := ((mnq_spec (μ := μ) (gN μ 14 0)).1 f e).2.1
    rw [hO.zero f] at this
    omega
theorem mnq_yes (h : RQ0 (vQ σ) (uQ μ) (uK μ) qs) (h0 : 0 < gN σ 39 79) : mnq μ (gN μ 14 0) = some (qs 0) := by
  have hO : Ord (gN σ 39 79) qs (gN μ 114) := h.1
  have q0 : qs 0 < gN μ 14 0 := (h.2.1 0 h0).1
  have p0 := hO.1 0 h0
  cases e : mnq μ (gN μ 14 0) with
  | none =>
    have := (mnq_spec (μ := μ) (gN μ 14 0)).2 e (qs 0) q0
    omega
  | some f =>
    obtain ⟨x, y, z⟩ := (mnq_spec (μ := μ) (gN μ 14 0)).1 f e
    obtain ⟨i, hi, ei⟩ := hO.2.2 f y
    have z0 := z (qs 0) q0 p0
    by_cases c : i = 0
    · rw [← ei, c]
    · have := hO.2.1 0 i (by omega) hi
      rw [ei] at this
      omega
/-- the next free worker -/
theorem cD_wrap {d : Nat} (h0 : gN μ 0 0 = nw) (hl : gN μ 3 0 ≤ nw) (h1 : 1 ≤ d) (hd : d ≤ nw) : cD μ d = wrap nw (gN μ 3 0 + d) := by
  unfold cD wrap
  rw [h0]
  by_cases c : nw < gN μ 3 0 + d
  · rw [if_pos c, Nat.mod_eq_sub_mod (by omega), Nat.mod_eq_of_lt (by omega)]
    omega
  · rw [if_neg c, Nat.mod_eq_of_lt (by omega)]
    omega
theorem wrap_b {x : Nat} (h1 : 1 ≤ x) (h2 : x ≤ nw + nw) : 1 ≤ wrap nw x ∧ wrap nw x ≤ nw := by
  unfold wrap
  split <;> omega
theorem lsd_iff (r : RL0 nw (vL σ) (uL μ) (uK μ) hs) {w : Nat} (h1 : 1 ≤ w) (h2 : w ≤ nw) : lsd μ w = none ↔ gB σ 112 (w - 1) = false := by
  have e : w = (w - 1) + 1 := by omega
  cases hb : gB σ 112 (w - 1) with
  | false => rw [e]; exact ⟨fun _ => rfl, fun _ => lsd_no r hb⟩
  | true =>
    have := lsd_yes r (show w - 1 < nw by omega) hb
    rw [← e] at this
    rw [this]
    exact ⟨(fun z => nomatch z), (fun z => nomatch z)⟩
theorem lwN_no (r : RL0 nw (vL σ) (uL μ) (uK μ) hs) (h0 : gN μ 0 0 = nw) (hl : gN μ 3 0 ≤ nw) : ∀ i, i ≤ nw → (∀ j, nw - i ≤ j → j < nw → gB σ 112 (wrap nw (gN μ 3 0 + (j + 1)) - 1) = true) → lwN μ i = 0
  | 0, _, _ => rfl
  | i + 1, hi, h => by
    have hd := cD_wrap (d := nw - i) h0 hl (by omega) (by omega)
    have wb := wrap_b (nw := nw) (x := gN μ 3 0 + (nw - i)) (by omega) (by omega)
    unfold lwN
    rw [h0, hd, if_neg]
    · exact lwN_no r h0 hl i (by omega) (fun j hj hj' => h j (by omega) hj')
    · intro z
      have a := (lsd_iff r wb.1 wb.2).mp z
      have c := h (nw - i - 1) (by omega) (by omega)
      rw [show nw - i - 1 + 1 = nw - i by omega, a] at c
      cases c
theorem lwN_yes (r : RL0 nw (vL σ) (uL μ) (uK μ) hs) (h0 : gN μ 0 0 = nw) (hl : gN μ 3 0 ≤ nw) {j0 : Nat} (hj0 : j0 < nw) (hp : gB σ 112 (wrap nw (gN μ 3 0 + (j0 + 1)) - 1) = false) : ∀ i, i ≤ nw → nw - i ≤ j0 → (∀ j, nw - i ≤ j → j < j0 → gB σ 112 (wrap nw (gN μ 3 0 + (j + 1)) - 1) = true) → lwN μ i = wrap nw (gN μ 3 0 + (j0 + 1))
  | 0, _, h1, _ => absurd h1 (by omega)
  | i + 1, hi, h1, h => by
    have hd := cD_wrap (d := nw - i) h0 hl (by omega) (by omega)
    have wb := wrap_b (nw := nw) (x := gN μ 3 0 + (nw - i)) (by omega) (by omega)
    unfold lwN
    rw [h0, hd]
    by_cases c : j0 = nw - i - 1
    · have e : j0 + 1 = nw - i := by omega
      rw [e] at hp ⊢
      rw [if_pos ((lsd_iff r wb.1 wb.2).mpr hp)]
    · rw [if_neg]
      · exact lwN_yes r h0 hl hj0 hp i (by omega) (by omega) (fun j hj hj' => h j (by omega) hj')
      · intro z
        have a := (lsd_iff r wb.1 wb.2).mp z
        have c := h (nw - i - 1) (by omega) (by omega)
        rw [show nw - i - 1 + 1 = nw - i by omega, a] at c
        cases c
theorem free_no (r : Rel nw b σ μ fs qs hs rs) (hl : gN σ 54 91 ≤ nw) (h : lFree σ nw = none) : lwN μ nw = 0 := by
  have hla : gN σ 54 91 = gN μ 3 0 := r.la
  refine lwN_no r.L r.nw' (by omega) nw (Nat.le_refl _) (fun j _ hj => ?_)
  unfold lFree at h
  have := fnd_no (Option.map_eq_none_iff.mp h) j hj
  rw [hla] at this
  simpa using this
theorem free_yes (r : Rel nw b σ μ fs qs hs rs) (hl : gN σ 54 91 ≤ nw) {w : Nat} (h : lFree σ nw = some w) : lwN μ nw = w ∧ 1 ≤ w ∧ w ≤ nw ∧ gB σ 112 (w - 1) = false := by
  have hla : gN σ 54 91 = gN μ 3 0 := r.la
  have hb := lFree_lt hl w h
  unfold lFree at h
  obtain ⟨j, hj, e⟩ := Option.map_eq_some_iff.mp h
  obtain ⟨a1, a2, a3⟩ := fnd_spec hj
  rw [hla] at e a2 a3
  have a2 : gB σ 112 (wrap nw (gN μ 3 0 + (j + 1)) - 1) = false := by simpa using a2
  refine ⟨?_, hb.1, hb.2, by rw [← e]; exact a2⟩
  rw [← e]
  exact lwN_yes r.L r.nw' (by omega) a1 a2 nw (Nat.le_refl _) (by omega) (fun x _ hx => by have := a3 x hx; simpa using this)
end EX
