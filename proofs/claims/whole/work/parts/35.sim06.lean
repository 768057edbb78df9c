/-! the two states side by side -/
abbrev UI : Type := Nat × (Nat → Bool) × (Nat → Int32) × (Nat → Int64) × (Nat → Nat) × (Nat → Nat) × (Nat → Bool) × (Nat → Nat) × Nat × (Nat → Bool)
abbrev UF : Type := (Nat → Nat) × Nat × (Nat → Nat) × (Nat → Nat) × (Nat → Nat) × (Nat → Nat) × (Nat → Int32) × (Nat → Int32) × (Nat → Int32)
abbrev UK : Type := Nat × (Nat → K3)
abbrev UW : Type := (Nat → Bool) × (Nat → Nat) × (Nat → Int32) × (Nat → Int32) × (Nat → Nat)
abbrev UC : Type := Nat × Bool × Nat × Nat × Nat × Nat × Nat × Nat × Nat
abbrev VI : Type := Nat × (Nat → Bool) × (Nat → Int32) × (Nat → Int64) × (Nat → Nat) × (Nat → Nat) × (Nat → Nat) × Nat
abbrev VC : Type := Nat × Bool × Nat × Nat × Nat × Nat × Nat × Nat
abbrev VW : Type := (Nat → Bool) × (Nat → Bool) × (Nat → K3) × (Nat → Nat) × (Nat → X3)
def iN (I : UI) : Nat := I.1
def iH (I : UI) : Nat → Bool := I.2.1
def iV (I : UI) : Nat → Int32 := I.2.2.1
def iP (I : UI) : Nat → Int64 := I.2.2.2.1
def iL (I : UI) : Nat → Nat := I.2.2.2.2.1
def iR (I : UI) : Nat → Nat := I.2.2.2.2.2.1
def iB (I : UI) : Nat → Bool := I.2.2.2.2.2.2.2.2.2
def ik (I : UI) (i : Nat) : K3 := (iP I i, dg (iV I (iL I i)), dg (iV I (iR I i)))
/-- an item whose inputs are known, and that has a program -/
def Rd (I : UI) (i : Nat) : Prop := iB I i = true ∧ iH I (iL I i) = true ∧ iH I (iR I i) = true
def IsC (I : UI) (c : Int32) : Prop := ∃ i, i < iN I ∧ ((iH I i = true ∧ iV I i = c) ∨ (Rd I i ∧ Out (ik I i) c))
def MMa (K : UK) (m : Msg) (a b k i : Nat) (c d g : Int32) : Prop :=
  (m.1 = a ∧ m.2.1 = b) ∧ (a ≠ 2 → a ≠ 3 → k < K.1 ∧ m.2.2.1 = K.2 k) ∧ (a ≤ 2 → m.2.2.2.1 = i) ∧ (a = 2 → m.2.2.2.2.1 = decide (c = nI 1) ∧ m.2.2.2.2.2.1 = decide (d = nI 1)) ∧ (3 ≤ a → m.2.2.2.2.2.2.2.1 = c) ∧ (a = 4 → m.2.2.2.2.2.2.2.2 = d) ∧ (a = 3 ∨ 5 ≤ a → m.2.2.2.2.2.2.1 = g)
def RI0 (v : VI) (u : UI) : Prop := v = (u.1, u.2.1, u.2.2.1, u.2.2.2.1, u.2.2.2.2.1, u.2.2.2.2.2.1, (fun i => if u.2.2.2.2.2.2.1 i = true then u.2.2.2.2.2.2.2.1 i + 5 else 0), u.2.2.2.2.2.2.2.2.1)
def RF0 (v : Nat × (Nat → Msg)) (u : UF) (K : UK) (fs : Nat → Nat) : Prop := Ord v.1 fs u.1 ∧ (∀ i, i < v.1 → fs i < 24) ∧ (∀ s, u.1 s ≤ u.2.1) ∧ ∀ i, i < v.1 → MMa K (v.2 i) (u.2.2.1 (fs i)) (u.2.2.2.1 (fs i)) (u.2.2.2.2.1 (fs i)) (u.2.2.2.2.2.1 (fs i)) (u.2.2.2.2.2.2.1 (fs i)) (u.2.2.2.2.2.2.2.1 (fs i)) (u.2.2.2.2.2.2.2.2 (fs i))
def RD0 (v : Nat × (Nat → Int32) × (Nat → Int32)) (u : Nat × (Nat → Int32)) : Prop := v.1 = u.1 ∧ (∀ i, i < v.1 → v.2.1 i = dg (v.2.2 i)) ∧ (∀ i j, i < v.1 → j < v.1 → v.2.2 i = v.2.2 j → i = j) ∧ (∀ i j, i < u.1 → j < u.1 → u.2 i = u.2 j → i = j) ∧ (∀ i, i < v.1 → ∃ j, j < u.1 ∧ u.2 j = v.2.2 i) ∧ (∀ j, j < u.1 → ∃ i, i < v.1 ∧ v.2.2 i = u.2 j)
def RR0 (v : Nat × (Nat → K3) × (Nat → Int32)) (u : (Nat → Bool) × (Nat → Int32)) (K : UK) (rs : Nat → Nat) : Prop := (∀ i, i < v.1 → rs i < K.1 ∧ u.1 (rs i) = true ∧ v.2.1 i = K.2 (rs i) ∧ v.2.2 i = u.2 (rs i)) ∧ (∀ i j, i < v.1 → j < v.1 → rs i = rs j → i = j) ∧ (∀ k, u.1 k = true → ∃ i, i < v.1 ∧ rs i = k)
def RQ0 (v : Nat × (Nat → K3)) (u : (Nat → Nat) × Nat) (K : UK) (qs : Nat → Nat) : Prop := Ord v.1 qs u.1 ∧ (∀ i, i < v.1 → qs i < K.1 ∧ v.2 i = K.2 (qs i)) ∧ (∀ k, u.1 k ≤ u.2)
def RL0 (nw : Nat) (v : (Nat → Bool) × (Nat → K3) × (Nat → Nat) × Nat) (u : (Nat → Nat) × (Nat → Nat) × Nat) (K : UK) (hs : Nat → Nat) : Prop := (∀ j, j < nw → v.1 j = true → hs j < K.1 ∧ u.1 (hs j) = j + 1 ∧ v.2.1 j = K.2 (hs j) ∧ v.2.2.1 j = u.2.1 (hs j)) ∧ (∀ k, 0 < u.1 k → ∃ j, j < nw ∧ v.1 j = true ∧ u.1 k = j + 1 ∧ hs j = k) ∧ v.2.2.2 = u.2.2
def RX0 (q : (Nat → Nat) × Nat) (u : (Nat → Nat) × (Nat → Nat) × Nat) : Prop := ∀ k, 0 < q.1 k → u.1 k = 0
def RW0 (nw : Nat) (v : VW) (u : UW) (K : UK) : Prop := ∀ j, j < nw → v.1 j = !u.1 j ∧ v.2.1 j = decide (0 < u.2.1 j) ∧ (u.1 j = true → u.2.1 j = 0) ∧ (0 < u.2.1 j → u.2.1 j - 1 < K.1 ∧ v.2.2.1 j = K.2 (u.2.1 j - 1) ∧ v.2.2.2.1 j = u.2.2.2.2 j ∧ v.2.2.2.2 j = xyp (K.2 (u.2.1 j - 1)).1 (u.2.2.1 j, u.2.2.2.1 j, 0) (u.2.2.2.2 j))
def RC0 (nw : Nat) (v : VC) (u : UC) : Prop := v = (u.1, !u.2.1, u.2.2.1, u.2.2.2.1, u.2.2.2.2.1, u.2.2.2.2.2.1, u.2.2.2.2.2.2.1, u.2.2.2.2.2.2.2.1) ∧ u.2.2.2.2.2.2.2.2 = nw
def Rel (nw b : Nat) (σ μ : Sg) (fs qs hs rs : Nat → Nat) : Prop := RI0 (vI σ) (uI μ) ∧ RF0 (vF σ) (uF μ) (uK μ) fs ∧ RD0 (vD σ) (uD μ) ∧ RR0 (vR σ) (uR μ) (uK μ) rs ∧ RQ0 (vQ σ) (uQ μ) (uK μ) qs ∧ RL0 nw (vL σ) (uL μ) (uK μ) hs ∧ RW0 nw (vW σ) (uW μ) (uK μ) ∧ RC0 nw (vC σ) (uC μ) ∧ vS σ = b + uS μ ∧ RX0 (uQ μ) (uL μ)
section REL
variable {nw b : Nat} {σ σ' μ μ' : Sg} {fs qs hs rs fs' qs' hs' rs' : Nat → Nat} {Z : List Nat}
theorem Rel.I (r : Rel nw b σ μ fs qs hs rs) : RI0 (vI σ) (uI μ) := r.1
theorem Rel.F (r : Rel nw b σ μ fs qs hs rs) : RF0 (vF σ) (uF μ) (uK μ) fs := r.2.1
theorem Rel.D (r : Rel nw b σ μ fs qs hs rs) : RD0 (vD σ) (uD μ) := r.2.2.1
theorem Rel.R (r : Rel nw b σ μ fs qs hs rs) : RR0 (vR σ) (uR μ) (uK μ) rs := r.2.2.2.1
theorem Rel.Q (r : Rel nw b σ μ fs qs hs rs) : RQ0 (vQ σ) (uQ μ) (uK μ) qs := r.2.2.2.2.1
theorem Rel.L (r : Rel nw b σ μ fs qs hs rs) : RL0 nw (vL σ) (uL μ) (uK μ) hs := r.2.2.2.2.2.1
theorem Rel.W (r : Rel nw b σ μ fs qs hs rs) : RW0 nw (vW σ) (uW μ) (uK μ) := r.2.2.2.2.2.2.1
theorem Rel.C (r : Rel nw b σ μ fs qs hs rs) : RC0 nw (vC σ) (uC μ) := r.2.2.2.2.2.2.2.1
theorem Rel.S (r : Rel nw b σ μ fs qs hs rs) : vS σ = b + uS μ := r.2.2.2.2.2.2.2.2.1
theorem Rel.X (r : Rel nw b σ μ fs qs hs rs) : RX0 (uQ μ) (uL μ) := r.2.2.2.2.2.2.2.2.2
theorem rel_step (r : Rel nw b σ μ fs qs hs rs) (e : Ex Z σ σ') (m : Em Z μ μ') (h9 : 9 ∉ Z) (h0 : 0 ∉ Z ∨ RI0 (vI σ') (uI μ')) (h1 : (1 ∉ Z ∧ fs' = fs) ∨ RF0 (vF σ') (uF μ') (uK μ) fs') (h2 : 2 ∉ Z ∨ RD0 (vD σ') (uD μ')) (h3 : (3 ∉ Z ∧ rs' = rs) ∨ RR0 (vR σ') (uR μ') (uK μ) rs') (h4 : (4 ∉ Z ∧ qs' = qs) ∨ RQ0 (vQ σ') (uQ μ') (uK μ) qs') (h5 : (5 ∉ Z ∧ hs' = hs) ∨ RL0 nw (vL σ') (uL μ') (uK μ) hs') (h6 : 6 ∉ Z ∨ RW0 nw (vW σ') (uW μ') (uK μ)) (h7 : 7 ∉ Z ∨ RC0 nw (vC σ') (uC μ')) (h8 : 8 ∉ Z ∨ vS σ' = b + uS μ') (hx : (4 ∉ Z ∧ 5 ∉ Z) ∨ RX0 (uQ μ') (uL μ')) : Rel nw b σ' μ' fs' qs' hs' rs' := by
  have k9 : uK μ' = uK μ := m 9 h9
  refine ⟨?_, ?_, ?_, ?_, ?_, ?_, ?_, ?_, ?_, ?_⟩
  · rcases h0 with h | h
    · rw [show vI σ' = vI σ from e 0 h, show uI μ' = uI μ from m 0 h]; exact r.I
    · exact h
  · rw [k9]
    rcases h1 with ⟨h, rfl⟩ | h
    · rw [show vF σ' = vF σ from e 1 h, show uF μ' = uF μ from m 1 h]; exact r.F
    · exact h
  · rcases h2 with h | h
    · rw [show vD σ' = vD σ from e 2 h, show uD μ' = uD μ from m 2 h]; exact r.D
    · exact h
  · rw [k9]
    rcases h3 with ⟨h, rfl⟩ | h
    · rw [show vR σ' = vR σ from e 3 h, show uR μ' = uR μ from m 3 h]; exact r.R
    · exact h
  · rw [k9]
    rcases h4 with ⟨h, rfl⟩ | h
    · rw [show vQ σ' = vQ σ from e 4 h, show uQ μ' = uQ μ from m 4 h]; exact r.Q
    · exact h
  · rw [k9]
    rcases h5 with ⟨h, rfl⟩ | h
    · rw [show vL σ' = vL σ from e 5 h, show uL μ' = uL μ from m 5 h]; exact r.L
    · exact h
  · rw [k9]
    rcases h6 with h | h
    · rw [show vW σ' = vW σ from e 6 h, show uW μ' = uW μ from m 6 h]; exact r.W
    · exact h
  · rcases h7 with h | h
    · rw [show vC σ' = vC σ from e 7 h, show uC μ' = uC μ from m 7 h]; exact r.C
    · exact h
  · rcases h8 with h | h
    · rw [show vS σ' = vS σ from e 8 h, show uS μ' = uS μ from m 8 h]; exact r.S
    · exact h
  · rcases hx with ⟨h, h'⟩ | h
    · rw [show uQ μ' = uQ μ from m 4 h, show uL μ' = uL μ from m 5 h']; exact r.X
    · exact h
end REL
/-- more keys -/
def KG (K K' : UK) : Prop := K.1 ≤ K'.1 ∧ ∀ k, k < K.1 → K'.2 k = K.2 k
theorem KG.rf (K : UK) : KG K K := ⟨Nat.le_refl _, fun _ _ => rfl⟩
section KGS
variable {K K' : UK} (g : KG K K')
theorem KG.lt (g : KG K K') {k : Nat} (h : k < K.1) : k < K'.1 := Nat.lt_of_lt_of_le h g.1
theorem MMa.kg {m : Msg} {a b k i : Nat} {c d e : Int32} (g : KG K K') (h : MMa K m a b k i c d e) : MMa K' m a b k i c d e := ⟨h.1, fun x y => ⟨g.lt (h.2.1 x y).1, by rw [g.2 k (h.2.1 x y).1]; exact (h.2.1 x y).2⟩, h.2.2⟩
theorem RF0.kg {v : Nat × (Nat → Msg)} {u : UF} {fs : Nat → Nat} (g : KG K K') (h : RF0 v u K fs) : RF0 v u K' fs := ⟨h.1, h.2.1, h.2.2.1, fun i hi => (h.2.2.2 i hi).kg g⟩
theorem RR0.kg {v : Nat × (Nat → K3) × (Nat → Int32)} {u : (Nat → Bool) × (Nat → Int32)} {rs : Nat → Nat} (g : KG K K') (h : RR0 v u K rs) : RR0 v u K' rs := ⟨fun i hi => ⟨g.lt (h.1 i hi).1, (h.1 i hi).2.1, by rw [g.2 _ (h.1 i hi).1]; exact (h.1 i hi).2.2.1, (h.1 i hi).2.2.2⟩, h.2⟩
theorem RQ0.kg {v : Nat × (Nat → K3)} {u : (Nat → Nat) × Nat} {qs : Nat → Nat} (g : KG K K') (h : RQ0 v u K qs) : RQ0 v u K' qs := ⟨h.1, fun i hi => ⟨g.lt (h.2.1 i hi).1, by rw [g.2 _ (h.2.1 i hi).1]; exact (h.2.1 i hi).2⟩, h.2.2⟩
theorem RL0.kg {nw : Nat} {v : (Nat → Bool) × (Nat → K3) × (Nat → Nat) × Nat} {u : (Nat → Nat) × (Nat → Nat) × Nat} {hs : Nat → Nat} (g : KG K K') (h : RL0 nw v u K hs) : RL0 nw v u K' hs := ⟨fun j hj hh => ⟨g.lt (h.1 j hj hh).1, (h.1 j hj hh).2.1, by rw [g.2 _ (h.1 j hj hh).1]; exact (h.1 j hj hh).2.2.1, (h.1 j hj hh).2.2.2⟩, h.2⟩
theorem RW0.kg {nw : Nat} {v : VW} {u : UW} (g : KG K K') (h : RW0 nw v u K) : RW0 nw v u K' := fun j hj => ⟨(h j hj).1, (h j hj).2.1, (h j hj).2.2.1, fun q => by
  have z := (h j hj).2.2.2 q
  refine ⟨g.lt z.1, ?_, z.2.2.1, ?_⟩
  · rw [g.2 _ z.1]; exact z.2.1
  · rw [g.2 _ z.1]; exact z.2.2.2⟩
end KGS
theorem key_kg (μ : Sg) (i : Nat) : KG (uK μ) (uK (mKeyS μ i)) := by
  unfold mKeyS
  cases fKey μ i with
  | some k => exact KG.rf _
  | none =>
    refine ⟨Nat.le_succ _, fun k hk => ?_⟩
    have hk : k < gN μ 14 0 := hk
    have : k ≠ gN μ 14 0 := by omega
    show mK3 _ k = mK3 μ k
    simp [mK3, gs, this]
theorem rel_key {nw b : Nat} {σ μ : Sg} {fs qs hs rs : Nat → Nat} (r : Rel nw b σ μ fs qs hs rs) (i : Nat) : Rel nw b σ (mKeyS μ i) fs qs hs rs := by
  have m := em_key μ i
  have g := key_kg μ i
  refine ⟨?_, ?_, ?_, ?_, ?_, ?_, ?_, ?_, ?_, ?_⟩
  · rw [show uI _ = uI μ from m 0 (by decide)]; exact r.I
  · rw [show uF (mKeyS μ i) = uF μ from m 1 (by decide)]; exact r.F.kg g
  · rw [show uD _ = uD μ from m 2 (by decide)]; exact r.D
  · rw [show uR _ = uR μ from m 3 (by decide)]; exact r.R.kg g
  · rw [show uQ _ = uQ μ from m 4 (by decide)]; exact r.Q.kg g
  · rw [show uL _ = uL μ from m 5 (by decide)]; exact r.L.kg g
  · rw [show uW _ = uW μ from m 6 (by decide)]; exact r.W.kg g
  · rw [show uC _ = uC μ from m 7 (by decide)]; exact r.C
  · rw [show uS _ = uS μ from m 8 (by decide)]; exact r.S
  · rw [show uQ _ = uQ μ from m 4 (by decide), show uL _ = uL μ from m 5 (by decide)]; exact r.X
