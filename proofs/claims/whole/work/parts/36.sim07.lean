/-! what holds of every state of the reference that is reached -/
def IC (I : UI) (K : UK) : Prop := (∀ i, i < iN I → iH I i = true ∨ iB I i = true) ∧ (∀ i, iB I i = true → i < iN I ∧ iL I i < i ∧ iR I i < i) ∧ (∀ i, iN I ≤ i → iH I i = false) ∧ (∀ i, iB I i = true → iH I i = true → Rd I i ∧ Out (ik I i) (iV I i)) ∧ (∀ k, k < K.1 → ∃ i, Rd I i ∧ ik I i = K.2 k) ∧ (∀ k k', k < K.1 → k' < K.1 → K.2 k = K.2 k' → k = k')
def MI (nw : Nat) (I : UI) (K : UK) (a b k i : Nat) (g : Int32) : Prop := (a = 1 ∨ a = 2 → k < K.1 ∧ Rd I i ∧ ik I i = K.2 k) ∧ (a = 3 → ∃ c, IsC I c ∧ g = dg c) ∧ (4 ≤ a → k < K.1) ∧ (5 ≤ a → ∃ c, Out (K.2 k) c ∧ g = dg c) ∧ (a ≤ 1 ∨ a = 3 ∨ a = 5 → b = 0) ∧ (a = 2 ∨ a = 6 → b = 9) ∧ (a = 4 → 1 ≤ b ∧ b ≤ nw) ∧ a ≤ 6
def JF (nw : Nat) (I : UI) (K : UK) (u : UF) : Prop := ∀ s, MI nw I K (u.2.2.1 s) (u.2.2.2.1 s) (u.2.2.2.2.1 s) (u.2.2.2.2.2.1 s) (u.2.2.2.2.2.2.2.2 s)
def JR (K : UK) (u : (Nat → Bool) × (Nat → Int32)) : Prop := ∀ k, u.1 k = true → k < K.1 ∧ ∃ c, u.2 k = dg c ∧ Out (K.2 k) c
def JD (I : UI) (u : Nat × (Nat → Int32)) : Prop := ∀ j, j < u.1 → IsC I (u.2 j)
def JW (K : UK) (u : UW) : Prop := ∀ j, 0 < u.2.1 j → u.2.1 j - 1 < K.1 ∧ dg (u.2.2.1 j) = (K.2 (u.2.1 j - 1)).2.1 ∧ dg (u.2.2.2.1 j) = (K.2 (u.2.1 j - 1)).2.2 ∧ ∀ m, m < u.2.2.2.2 j → insn (K.2 (u.2.1 j - 1)).1 (xyp (K.2 (u.2.1 j - 1)).1 (u.2.2.1 j, u.2.2.2.1 j, 0) m).2.2 ≠ 0
def Inv (nw : Nat) (μ : Sg) : Prop := IC (uI μ) (uK μ) ∧ JF nw (uI μ) (uK μ) (uF μ) ∧ JR (uK μ) (uR μ) ∧ JD (uI μ) (uD μ) ∧ JW (uK μ) (uW μ)
section INV
variable {nw : Nat} {μ μ' : Sg} {Z : List Nat}
theorem inv_step (h : Inv nw μ) (m : Em Z μ μ') (h0 : 0 ∉ Z) (h9 : 9 ∉ Z) (h1 : 1 ∉ Z ∨ JF nw (uI μ) (uK μ) (uF μ')) (h2 : 2 ∉ Z ∨ JD (uI μ) (uD μ')) (h3 : 3 ∉ Z ∨ JR (uK μ) (uR μ')) (h6 : 6 ∉ Z ∨ JW (uK μ) (uW μ')) : Inv nw μ' := by
  unfold Inv
  rw [show uI μ' = uI μ from m 0 h0, show uK μ' = uK μ from m 9 h9]
  refine ⟨h.1, ?_, ?_, ?_, ?_⟩
  · rcases h1 with c | c
    · rw [show uF μ' = uF μ from m 1 c]; exact h.2.1
    · exact c
  · rcases h3 with c | c
    · rw [show uR μ' = uR μ from m 3 c]; exact h.2.2.1
    · exact c
  · rcases h2 with c | c
    · rw [show uD μ' = uD μ from m 2 c]; exact h.2.2.2.1
    · exact c
  · rcases h6 with c | c
    · rw [show uW μ' = uW μ from m 6 c]; exact h.2.2.2.2
    · exact c
end INV
/-- growth of items -/
def GI (I I' : UI) : Prop := iN I ≤ iN I' ∧ (∀ i, iB I i = true → iB I' i = true ∧ iL I' i = iL I i ∧ iR I' i = iR I i ∧ iP I' i = iP I i) ∧ (∀ i, iH I i = true → iH I' i = true ∧ iV I' i = iV I i)
theorem GI.rf (I : UI) : GI I I := ⟨Nat.le_refl _, fun _ h => ⟨h, rfl, rfl, rfl⟩, fun _ h => ⟨h, rfl⟩⟩
section GRO
variable {I I' : UI} {K K' : UK} {nw : Nat}
theorem Rd.gi {i : Nat} (g : GI I I') (h : Rd I i) : Rd I' i ∧ ik I' i = ik I i := by
  obtain ⟨a, b, c⟩ := h
  obtain ⟨a1, a2, a3, a4⟩ := g.2.1 i a
  obtain ⟨b1, b2⟩ := g.2.2 _ b
  obtain ⟨c1, c2⟩ := g.2.2 _ c
  refine ⟨⟨a1, by rw [a2]; exact b1, by rw [a3]; exact c1⟩, ?_⟩
  unfold ik
  rw [a4, a2, a3, b2, c2]
theorem IsC.gi {c : Int32} (g : GI I I') (h : IsC I c) : IsC I' c := by
  obtain ⟨i, hi, h | h⟩ := h
  · exact ⟨i, Nat.lt_of_lt_of_le hi g.1, Or.inl ⟨(g.2.2 i h.1).1, by rw [(g.2.2 i h.1).2]; exact h.2⟩⟩
  · exact ⟨i, Nat.lt_of_lt_of_le hi g.1, Or.inr ⟨(h.1.gi g).1, by rw [(h.1.gi g).2]; exact h.2⟩⟩
theorem MI.gr {a b k i : Nat} {e : Int32} (g : GI I I') (q : KG K K') (h : MI nw I K a b k i e) : MI nw I' K' a b k i e := by
  obtain ⟨h1, h2, h3, h4, h5⟩ := h
  refine ⟨fun x => ?_, fun x => ?_, fun x => q.lt (h3 x), fun x => ?_, h5⟩
  · obtain ⟨y1, y2, y3⟩ := h1 x
    exact ⟨q.lt y1, (y2.gi g).1, by rw [(y2.gi g).2, q.2 k y1]; exact y3⟩
  · obtain ⟨c, y1, y2⟩ := h2 x
    exact ⟨c, y1.gi g, y2⟩
  · rw [q.2 k (h3 (by omega))]
    exact h4 x
theorem JF.gr {u : UF} (g : GI I I') (q : KG K K') (h : JF nw I K u) : JF nw I' K' u := fun s => (h s).gr g q
theorem JR.kg {u : (Nat → Bool) × (Nat → Int32)} (q : KG K K') (h : JR K u) : JR K' u := fun k hk => ⟨q.lt (h k hk).1, by rw [q.2 k (h k hk).1]; exact (h k hk).2⟩
theorem JD.gi {u : Nat × (Nat → Int32)} (g : GI I I') (h : JD I u) : JD I' u := fun j hj => (h j hj).gi g
theorem JW.kg {u : UW} (q : KG K K') (h : JW K u) : JW K' u := fun j hj => by
  obtain ⟨a, b⟩ := h j hj
  refine ⟨q.lt a, ?_⟩
  rw [q.2 _ a]
  exact b
/-- an item has one content -/
theorem isc_un (h : IC I K) {i : Nat} {c c' : Int32} (a : (iH I i = true ∧ iV I i = c) ∨ (Rd I i ∧ Out (ik I i) c)) (a' : (iH I i = true ∧ iV I i = c') ∨ (Rd I i ∧ Out (ik I i) c')) : c = c' := by
  rcases a with ⟨p, q⟩ | ⟨p, q⟩ <;> rcases a' with ⟨p', q'⟩ | ⟨p', q'⟩
  · rw [← q, ← q']
  · rw [← q]; exact ((h.2.2.2.1 i p'.1 p).2).un q'
  · rw [← q']; exact q.un ((h.2.2.2.1 i p.1 p').2)
  · exact q.un q'
/-- so there are no more of them than items -/
theorem isc_cap (h : IC I K) {n : Nat} {f : Nat → Int32} (h1 : ∀ j, j < n → IsC I (f j)) (h2 : ∀ i j, i < n → j < n → f i = f j → i = j) : n ≤ iN I := by
  have hc : ∀ j, ∃ i, j < n → i < iN I ∧ ((iH I i = true ∧ iV I i = f j) ∨ (Rd I i ∧ Out (ik I i) (f j))) := fun j => by
    by_cases q : j < n
    · obtain ⟨i, hi⟩ := h1 j q; exact ⟨i, fun _ => hi⟩
    · exact ⟨0, fun z => absurd z q⟩
  have g := fun s => Classical.choose_spec (hc s)
  refine php (iN I) n (fun s => Classical.choose (hc s)) (fun s hs => (g s hs).1) (fun a a' ha ha' e => ?_)
  have e : Classical.choose (hc a) = Classical.choose (hc a') := e
  have x := (g a ha).2
  rw [e] at x
  exact h2 a a' ha ha' (isc_un h x (g a' ha').2)
end GRO
theorem inv_kinv {nw : Nat} {μ : Sg} (h : Inv nw μ) : KInv μ := by
  obtain ⟨h1, -⟩ := h
  obtain ⟨-, h2, -, -, h5, h6⟩ := h1
  refine ⟨?_, h6⟩
  have hc : ∀ k, ∃ i, k < gN μ 14 0 → Rd (uI μ) i ∧ ik (uI μ) i = mK3 μ k := fun k => by
    by_cases q : k < gN μ 14 0
    · obtain ⟨i, hi⟩ := h5 k q; exact ⟨i, fun _ => hi⟩
    · exact ⟨0, fun z => absurd z q⟩
  refine ⟨fun k => Classical.choose (hc k), fun k hk => ?_⟩
  obtain ⟨⟨a, b, c⟩, d⟩ := Classical.choose_spec (hc k) hk
  exact ⟨(h2 _ a).1, b, c, d⟩
