/-! the client: what its longer methods do -/
def cAskS (s : Sg) (t i : Nat) : Sg := if rdy s i = true then (if gN s 106 i ≤ t then cAsk s i t else s) else s
def cAskN (σ : Sg) (t : Nat) : Nat → Sg
  | 0 => σ
  | i + 1 => cAskS (cAskN σ t i) t i
def cAnsS (s : Sg) (q i : Nat) : Sg := if rdy s i = true then (if decide (kof (cKey s i 62) 62 = kof (cKey s i 62) (q + 1)) = true then cLearn (cKey s i 62) i (gI s 16 q) else cKey s i 62) else s
def cAnsN (σ : Sg) (q : Nat) : Nat → Sg
  | 0 => σ
  | i + 1 => cAnsS (cAnsN σ q i) q i
def cLk1 (σ : Sg) (q : Nat) : Sg := if gB σ 13 q = true then cPut σ (gI σ 102 (gN σ 104 (gN σ 12 q))) else σ
def cLk2 (σ : Sg) (q : Nat) : Sg := if gB σ 14 q = true then cPut (cLk1 σ q) (gI σ 102 (gN σ 105 (gN σ 12 q))) else cLk1 σ q
def cLack (σ : Sg) (q t : Nat) : Sg := if inR (nI (gN σ 12 q)) (gN σ 31 55) = true then (if gB σ 101 (gN σ 12 q) = true then σ else cAsk (cLk2 σ q) (gN σ 12 q) t) else σ
theorem ansN_N (σ : Sg) (q i f o : Nat) : gN (cAnsN σ q i) f o = gN σ f o := by
  induction i with
  | zero => rfl
  | succ i ih =>
    show gN (cAnsS (cAnsN σ q i) q i) f o = gN σ f o
    rw [← ih]
    unfold cAnsS
    by_cases c : rdy (cAnsN σ q i) i = true
    · rw [if_pos c]
      split <;> rfl
    · rw [if_neg c]
theorem ask_it (σ : Sg) (i t : Nat) : gN (cAsk σ i t) 31 55 = gN σ 31 55 := send_N σ 1 0 (by decide) 55
theorem askN_it (σ : Sg) (t i : Nat) : gN (cAskN σ t i) 31 55 = gN σ 31 55 := by
  induction i with
  | zero => rfl
  | succ i ih =>
    show gN (cAskS (cAskN σ t i) t i) 31 55 = gN σ 31 55
    rw [← ih]
    unfold cAskS
    by_cases c : rdy (cAskN σ t i) i = true
    · rw [if_pos c]
      split
      · exact ask_it _ _ _
      · rfl
    · rw [if_neg c]
theorem wf_askS {nw : Nat} {σ : Sg} {t i : Nat} (h : Wf nw σ) (hi : i < 10) (ht : t < 2 ^ 29) : Wf nw (cAskS σ t i) := by
  unfold cAskS
  split
  · split
    · exact wf_ask h hi ht
    · exact h
  · exact h
theorem wf_askN {nw : Nat} {σ : Sg} {t : Nat} (h : Wf nw σ) (ht : t < 2 ^ 29) : ∀ i, i ≤ 10 → Wf nw (cAskN σ t i)
  | 0, _ => h
  | i + 1, hi => wf_askS (wf_askN h ht i (by omega)) (by omega) ht
theorem wf_ansN {nw : Nat} {σ : Sg} {q : Nat} (h : Wf nw σ) (i : Nat) : Wf nw (cAnsN σ q i) := wf_of h (fun f _ o => ansN_N σ q i f o)
theorem wf_lk1 {nw : Nat} {σ : Sg} {q : Nat} (h : Wf nw σ) : Wf nw (cLk1 σ q) := by
  unfold cLk1
  split
  · exact wf_put h
  · exact h
theorem wf_lk2 {nw : Nat} {σ : Sg} {q : Nat} (h : Wf nw σ) : Wf nw (cLk2 σ q) := by
  unfold cLk2
  split
  · exact wf_put (wf_lk1 h)
  · exact wf_lk1 h
theorem wf_lack {nw : Nat} {σ : Sg} {q t : Nat} (h : Wf nw σ) (ht : t < 2 ^ 29) : Wf nw (cLack σ q t) := by
  unfold cLack
  split
  · split
    · exact h
    · exact wf_ask (wf_lk2 h) (h.im q) ht
  · exact h
theorem cAct_t {σ : Sg} {p : Int64} {a b : Nat} (h : gN σ 31 55 ≤ 10) (h1 : gN σ 31 55 < 10) (ha : a < gN σ 31 55) (hb : b < gN σ 31 55) : cActOk σ (nI a) (nI b) = true ∧ cAct σ p (nI a) (nI b) = sN (sN (sN (sJ σ 103 (gN σ 31 55) p) 104 (gN σ 31 55) a) 105 (gN σ 31 55) b) 31 55 (gN σ 31 55 + 1) := by
  have e : cActOk σ (nI a) (nI b) = true := by
    unfold cActOk
    rw [inR_nI (by omega), inR_nI (by omega), decide_eq_true h1, decide_eq_true ha, decide_eq_true hb]
    rfl
  refine ⟨e, ?_⟩
  unfold cAct
  rw [if_pos e, nI_clamp (by omega), nI_clamp (by omega)]
theorem wf_act {nw : Nat} {σ : Sg} {p : Int64} {a b : Int32} (h : Wf nw σ) : Wf nw (cAct σ p a b) := by
  unfold cAct
  have hi := h.it
  by_cases c : cActOk σ a b = true
  · rw [if_pos c]
    unfold cActOk at c
    rw [Bool.and_eq_true, Bool.and_eq_true] at c
    obtain ⟨j, hj, rfl⟩ := inR_of (by omega) c.2.1
    obtain ⟨k, hk, rfl⟩ := inR_of (by omega) c.2.2
    rw [nI_clamp (by omega), nI_clamp (by omega)]
    have := of_decide_eq_true c.1
    exact wf_31 (wf_105 (wf_104 (wf_J h) (by omega)) (by omega)) (by omega)
  · rw [if_neg c]; exact h
