/-! both sides at the start -/
def s0C (ln : Nat) : Sg := (fun _ _ => 0, fun _ _ => 0, fun f o => if f = 100 then 7 + 2 * o else if f = 20 then 5 else if f = 111 then 81 + o else if f = 44 then ln else 0, fun f _ => if f = 45 then true else if f = 56 then true else false)
def s0M (nw ln : Nat) : Sg := (fun _ _ => 0, fun _ _ => 0, fun f o => if f = 0 ∧ o = 0 then nw else if f = 1 ∧ o = 0 then ln else 0, fun _ _ => false)
theorem kd_row : ∀ i, i < 24 → kdC (7 + 2 * i) = 2 := by decide +kernel
theorem s0C_wf {nw ln : Nat} (hl : ln ≤ 40) : Wf nw (s0C ln) := by
  refine ⟨⟨fun i hi => kd_row i hi, rfl, Nat.zero_le _⟩, ⟨fun i hi => ?_, Nat.zero_le _⟩, ⟨Nat.zero_le _, fun i _ => ⟨?_, ?_⟩, fun i => ?_⟩, ⟨Nat.zero_le _, Nat.zero_le _⟩, ⟨Nat.zero_le _, fun i => ?_⟩, ⟨fun q => ?_, fun q => ?_, fun q => ?_⟩, fun o => Nat.zero_le _, hl⟩
  · show 81 ≤ 81 + i ∧ 81 + i ≤ 90
    omega
  · exact (by decide : 0 < 10)
  · exact (by decide : 0 < 10)
  · exact (by decide : 0 < 2 ^ 30)
  · exact (by decide : 0 < 2 ^ 30)
  · exact (by decide : 0 < 7)
  · exact (by decide : 0 < 10)
  · exact (by decide : 0 < 10)
theorem s0C_dis (ln : Nat) : Dis (s0C ln) := by
  refine ⟨fun i j _ _ e => ?_, fun i _ => ⟨fun e => ?_, fun e => ?_⟩, ?_, fun i j _ _ e => ?_⟩
  · have e : 7 + 2 * i = 7 + 2 * j := e
    omega
  · have e : 7 + 2 * i = 5 := e
    omega
  · have e : 7 + 2 * i = 3 := e
    omega
  · show (5 : Nat) ≠ 3
    decide
  · have e : 81 + i = 81 + j := e
    omega
theorem s0M_wf {nw ln B : Nat} (h1 : 1 ≤ nw) (h4 : nw ≤ 4) (hl : ln ≤ 40) : WfM B (s0M nw ln) := by
  refine ⟨⟨Nat.zero_le _, fun i => ⟨(by decide : 0 < 10), (by decide : 0 < 10)⟩, Nat.zero_le _, Nat.zero_le _⟩, fun s => ⟨(by decide : 0 < 7), (by decide : 0 < 10), (by decide : 0 < 10), (by decide : 0 < 10)⟩, fun w => Nat.zero_le _, ⟨⟨h1, h4⟩, Nat.zero_le _, hl⟩, ⟨fun s => Nat.zero_le _, Nat.zero_le _, fun k => Nat.zero_le _, Nat.zero_le _⟩, ⟨fun k => Nat.zero_le _, fun k => Nat.zero_le _⟩, ⟨Nat.zero_le _, fun i => Nat.zero_le _⟩, fun w => Nat.zero_le _⟩
theorem s0_rel (nw ln : Nat) : Rel nw 0 (s0C ln) (s0M nw ln) (fun _ => 0) (fun _ => 0) (fun _ => 0) (fun _ => 0) := by
  refine ⟨rfl, ?_, ?_, ?_, ?_, ?_, ?_, ?_, rfl, ?_⟩
  · exact ⟨Ord.empty (fun _ => rfl), fun i hi => absurd hi (Nat.not_lt_zero i), fun s => Nat.zero_le _, fun i hi => absurd hi (Nat.not_lt_zero i)⟩
  · exact ⟨rfl, fun i hi => absurd hi (Nat.not_lt_zero i), fun i _ hi => absurd hi (Nat.not_lt_zero i), fun i _ hi => absurd hi (Nat.not_lt_zero i), fun i hi => absurd hi (Nat.not_lt_zero i), fun i hi => absurd hi (Nat.not_lt_zero i)⟩
  · exact ⟨fun i hi => absurd hi (Nat.not_lt_zero i), fun i _ hi => absurd hi (Nat.not_lt_zero i), fun k hk => absurd hk (show ¬ false = true by decide)⟩
  · exact ⟨Ord.empty (fun _ => rfl), fun i hi => absurd hi (Nat.not_lt_zero i), fun k => Nat.zero_le _⟩
  · exact ⟨fun j _ hb => absurd hb (show ¬ false = true by decide), fun k hk => absurd hk (Nat.not_lt_zero 0), rfl⟩
  · intro j _
    exact ⟨rfl, rfl, fun _ => rfl, fun hk => absurd hk (Nat.not_lt_zero 0)⟩
  · exact ⟨rfl, rfl⟩
  · intro k hk
    exact absurd hk (Nat.not_lt_zero 0)
theorem s0_inv (nw ln : Nat) : Inv nw (s0M nw ln) := by
  have nf : ¬ false = true := by decide
  refine ⟨⟨fun i hi => absurd hi (Nat.not_lt_zero i), fun i hi => absurd hi nf, fun i _ => rfl, fun i hi => absurd hi nf, fun k hk => absurd hk (Nat.not_lt_zero k), fun k _ hk => absurd hk (Nat.not_lt_zero k)⟩, fun s => ?_, fun k hk => absurd hk nf, fun j hj => absurd hj (Nat.not_lt_zero j), fun j hj => absurd hj (Nat.not_lt_zero 0)⟩
  have z : (uF (s0M nw ln)).2.2.1 s = 0 := rfl
  have zb : (uF (s0M nw ln)).2.2.2.1 s = 0 := rfl
  rw [z, zb]
  exact ⟨fun h => absurd h (by decide), fun h => absurd h (by decide), fun h => absurd h (by decide), fun h => absurd h (by decide), fun _ => rfl, fun h => absurd h (by decide), fun h => absurd h (by decide), by decide⟩
theorem sim_0 {nw ln : Nat} (h1 : 1 ≤ nw) (h4 : nw ≤ 4) (hl : ln ≤ 40) : Sim nw 0 0 (s0C ln) (s0M nw ln) := ⟨s0C_wf hl, s0C_dis ln, s0M_wf h1 h4 hl, ⟨_, _, _, _, s0_rel nw ln⟩, s0_inv nw ln⟩
/-! what a delivery asks of the reference's state -/
theorem del_pre {nw b B : Nat} {σ μ : Sg} (h : Sim nw b B σ μ) (hn : nw ≤ 4) : gN μ 24 0 < 12 ∧ (∀ s, gN μ 124 s = 9 ∨ gN μ 124 s < 5) ∧ (∀ s, gN μ 123 s = 4 → gN μ 124 s < 5) ∧ (∀ s, gN μ 123 s = 2 → fKey μ (gN μ 126 s) = none → gN μ 14 0 < 10) := by
  obtain ⟨h1, h2, h3, ⟨fs, qs, hs, rs, r⟩, h5⟩ := h
  refine ⟨?_, fun s => ?_, fun s h4 => ?_, fun s h2 => ?_⟩
  · have a : gN μ 24 0 ≤ gN μ 5 0 := isc_cap h5.1 h5.2.2.2.1 r.D.2.2.2.1
    have := h3.it
    omega
  · rcases to_cases (h5.2.1 s) with e | e | ⟨j, hj, e⟩
    · exact Or.inr (by omega)
    · exact Or.inl e
    · exact Or.inr (by omega)
  · have := (h5.2.1 s).2.2.2.2.2.2.1 h4
    have : gN μ 124 s ≤ nw := this.2
    omega
  · have a := ((h5.2.1 s).1 (Or.inr h2)).2.1
    exact kinv_cap (inv_kinv h5) h3.it (h5.1.2.1 _ a.1).1
