/-! rows for places that may be none, and for workers' numbers -/
theorem oI_some {x : Option Nat} {n : Nat} (hx : ∀ i, x = some i → i < n) (h : ¬ oI x = -1) : ∃ j, x = some j ∧ j < n := by
  cases x with
  | none => exact absurd rfl h
  | some i => exact ⟨i, rfl, hx i rfl⟩
theorem oI_none {x : Option Nat} (hx : ∀ i, x = some i → i < 1000) (h : oI x = -1) : x = none := (oI_m1 (fun i hi => by have := hx i hi; omega)).mp h
theorem fBlob_lt {nw : Nat} {σ : Sg} {d : Int32} (h : Wf nw σ) : ∀ i, fBlob σ d = some i → i < 10 := fun i hi => by
  have := (fnd_spec hi).1
  have := h.bl
  omega
theorem dHas_f {nw : Nat} {σ : Sg} {d : Int32} (h : Wf nw σ) (h1 : oI (fBlob σ d) = -1) : false = dHas σ d := by
  unfold dHas
  rw [oI_none (fun i hi => by have := fBlob_lt h i hi; omega) h1]
  rfl
theorem dHas_t {nw : Nat} {σ : Sg} {d : Int32} (h : Wf nw σ) (h1 : ¬ oI (fBlob σ d) = -1) : true = dHas σ d := by
  obtain ⟨j, hj, -⟩ := oI_some (fBlob_lt h) h1
  unfold dHas
  rw [hj]
  rfl
theorem qSh_at (σ : Sg) (k i : Nat) : gN (qSh σ k i) 111 i = gN σ 111 i := if_neg (by omega)
theorem qSh_0 (σ : Sg) (k : Nat) : qSh σ k (k + 1) = σ := by
  refine sg_ext (fun _ _ => rfl) (fun _ _ => rfl) (fun x y => ?_) (fun _ _ => rfl)
  exact if_neg (by omega)
theorem qSh_s {σ : Sg} {k i : Nat} (h : k < i) : sN (qSh σ k i) 111 (i - 1) (gN σ 111 i) = qSh σ k (i + 1) := by
  refine sg_ext (fun _ _ => rfl) (fun _ _ => rfl) (fun x y => ?_) (fun _ _ => rfl)
  show (if x = 111 ∧ y = i - 1 then gN σ 111 i else if x = 111 ∧ k ≤ y ∧ y + 1 < i then gN σ 111 (y + 1) else gN σ x y) = if x = 111 ∧ k ≤ y ∧ y + 1 < i + 1 then gN σ 111 (y + 1) else gN σ x y
  by_cases h1 : x = 111 ∧ y = i - 1
  · rw [if_pos h1, if_pos (by omega), show y + 1 = i by omega]
  · rw [if_neg h1]
    by_cases h2 : x = 111 ∧ k ≤ y ∧ y + 1 < i
    · rw [if_pos h2, if_pos (by omega)]
    · rw [if_neg h2, if_neg (by omega)]
theorem lFg_0 (σ : Sg) : lFg σ 0 = σ := by
  refine sg_ext (fun _ _ => rfl) (fun _ _ => rfl) (fun _ _ => rfl) (fun x y => ?_)
  exact if_neg (by omega)
theorem lFg_s {σ : Sg} {i : Nat} : sB (lFg σ i) 112 i false = lFg σ (i + 1) := by
  refine sg_ext (fun _ _ => rfl) (fun _ _ => rfl) (fun _ _ => rfl) (fun x y => ?_)
  show (if x = 112 ∧ y = i then false else if x = 112 ∧ y < i then false else gB σ x y) = if x = 112 ∧ y < i + 1 then false else gB σ x y
  by_cases h1 : x = 112 ∧ y = i
  · rw [if_pos h1, if_pos (by omega)]
  · rw [if_neg h1]
    by_cases h2 : x = 112 ∧ y < i
    · rw [if_pos h2, if_pos (by omega)]
    · rw [if_neg h2, if_neg (by omega)]
theorem lHas_lo {σ : Sg} {nw : Nat} {w : Int32} (h : w < nI 1) : false = lHas σ nw w := by
  rw [Int32.lt_iff_toInt_lt, nI_toInt (by decide)] at h
  unfold lHas
  rw [decide_eq_false (by omega)]
  rfl
theorem lHas_hi {σ : Sg} {nw : Nat} {w : Int32} (hn : nw ≤ 4) (h : nI nw < w) : false = lHas σ nw w := by
  rw [Int32.lt_iff_toInt_lt, nI_toInt (by omega)] at h
  unfold lHas
  rw [decide_eq_false (by omega)]
  rfl
theorem w_of {nw : Nat} {w : Int32} (hn : nw ≤ 4) (h1 : ¬ w < nI 1) (h2 : ¬ nI nw < w) : ∃ j, j < nw ∧ w = nI (j + 1) := by
  rw [Int32.lt_iff_toInt_lt, nI_toInt (by decide)] at h1
  rw [Int32.lt_iff_toInt_lt, nI_toInt (by omega)] at h2
  refine ⟨w.toInt.toNat - 1, by omega, ?_⟩
  apply Int32.toInt_inj.mp
  rw [nI_toInt (by omega)]
  omega
theorem lHas_nI {σ : Sg} {nw j : Nat} (hj : j < 1000) : lHas σ nw (nI (j + 1)) = (decide (j < nw) && gB σ 112 j) := by
  unfold lHas
  rw [nI_toInt (by omega)]
  have e : ((j + 1 : Nat) : Int).toNat - 1 = j := by omega
  rw [e]
  congr 1
  by_cases h : j < nw
  · rw [decide_eq_true h, decide_eq_true (by omega)]
  · rw [decide_eq_false h, decide_eq_false (by omega)]
theorem lHas_w {σ : Sg} {nw : Nat} {w : Int32} (hn : nw ≤ 4) (h : lHas σ nw w = true) : ∃ j, j < nw ∧ w = nI (j + 1) := by
  unfold lHas at h
  rw [Bool.and_eq_true] at h
  have h1 := of_decide_eq_true h.1
  refine ⟨w.toInt.toNat - 1, by omega, ?_⟩
  apply Int32.toInt_inj.mp
  rw [nI_toInt (by omega)]
  omega
theorem wrap_lo {nw x : Nat} (h : x ≤ nw) : wrap nw x = x := if_neg (by omega)
theorem wrap_hi {nw x : Nat} (h : nw < x) : wrap nw x = x - nw := if_pos h
theorem send_I (σ : Sg) (k r f o : Nat) : gI (fSend σ k r) f o = gI σ f o := by
  unfold fSend
  by_cases c : gN σ 21 1 < 24
  · rw [if_pos c]; rfl
  · rw [if_neg c]; rfl
theorem send_J (σ : Sg) (k r f o : Nat) : gJ (fSend σ k r) f o = gJ σ f o := by
  unfold fSend
  by_cases c : gN σ 21 1 < 24
  · rw [if_pos c]; rfl
  · rw [if_neg c]; rfl
theorem send_B (σ : Sg) (k r f o : Nat) : gB (fSend σ k r) f o = gB σ f o := by
  unfold fSend
  by_cases c : gN σ 21 1 < 24
  · rw [if_pos c]; rfl
  · rw [if_neg c]; rfl
theorem send_N (σ : Sg) (k r : Nat) {f : Nat} (hf : f ≠ 21 ∧ f ≠ 22 ∧ f ≠ 10 ∧ f ≠ 11) (o : Nat) : gN (fSend σ k r) f o = gN σ f o := by
  obtain ⟨h1, h2, h3, h4⟩ := hf
  unfold fSend
  by_cases c : gN σ 21 1 < 24
  · rw [if_pos c]; simp [gs, h1, h2, h3, h4]
  · rw [if_neg c]; simp [gs, h2, h3, h4]
theorem fRes_lt {nw : Nat} {σ : Sg} {q : Nat} (h : Wf nw σ) : ∀ i, fRes σ q = some i → i < 10 := fun i hi => by
  have := (fnd_spec hi).1
  have := h.rs
  omega
