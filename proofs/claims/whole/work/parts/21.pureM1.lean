/-! what the reference's methods do -/
def lst (P : Nat → Bool) : Nat → Option Nat
  | 0 => none
  | n + 1 => if P n = true then some n else lst P n
theorem lst_lt {P : Nat → Bool} : ∀ {n i : Nat}, lst P n = some i → i < n ∧ P i = true
  | 0, i, h => by cases h
  | n + 1, i, h => by
    unfold lst at h
    split at h
    · next c => cases h; exact ⟨by omega, c⟩
    · have := lst_lt h; exact ⟨by omega, this.2⟩
def mFile (σ : Sg) (c : Int32) : Sg := if gN σ 5 0 < 10 then sN (sI (sB σ 105 (gN σ 5 0) true) 106 (gN σ 5 0) c) 5 0 (gN σ 5 0 + 1) else σ
def mActOk (σ : Sg) (a b : Int32) : Bool := decide (gN σ 5 0 < 10) && (inR a (gN σ 5 0) && inR b (gN σ 5 0))
def mAct (σ : Sg) (p : Int64) (a b : Int32) : Sg := if mActOk σ a b = true then sN (sN (sN (sJ (sB σ 101 (gN σ 5 0) true) 102 (gN σ 5 0) p) 103 (gN σ 5 0) a.toNatClampNeg) 104 (gN σ 5 0) b.toNatClampNeg) 5 0 (gN σ 5 0 + 1) else σ
theorem mAct_t {σ : Sg} {p : Int64} {a b : Nat} (h : gN σ 5 0 ≤ 10) (h1 : gN σ 5 0 < 10) (ha : a < gN σ 5 0) (hb : b < gN σ 5 0) : mActOk σ (nI a) (nI b) = true ∧ mAct σ p (nI a) (nI b) = sN (sN (sN (sJ (sB σ 101 (gN σ 5 0) true) 102 (gN σ 5 0) p) 103 (gN σ 5 0) a) 104 (gN σ 5 0) b) 5 0 (gN σ 5 0 + 1) := by
  have e : mActOk σ (nI a) (nI b) = true := by
    unfold mActOk
    rw [inR_nI (by omega), inR_nI (by omega), decide_eq_true h1, decide_eq_true ha, decide_eq_true hb]
    rfl
  refine ⟨e, ?_⟩
  unfold mAct
  rw [if_pos e, nI_clamp (by omega), nI_clamp (by omega)]
def mRdy (σ : Sg) (i : Nat) : Bool := gB σ 101 i && (!gB σ 105 i && (gB σ 105 (gN σ 103 i) && gB σ 105 (gN σ 104 i)))
def mKn (σ : Sg) (k : Int32) : Bool := inR k (gN σ 5 0) && gB σ 105 k.toNatClampNeg
def mCon (σ : Sg) (k : Int32) : Int32 := if mKn σ k = true then gI σ 106 k.toNatClampNeg else nI 0
def mK3 (σ : Sg) (k : Nat) : K3 := (gJ σ 109 k, gI σ 110 k, gI σ 111 k)
def mIK (σ : Sg) (i : Nat) : K3 := (gJ σ 102 i, dg (gI σ 106 (gN σ 103 i)), dg (gI σ 106 (gN σ 104 i)))
def fKey (σ : Sg) (i : Nat) : Option Nat := fnd (fun k => decide (mK3 σ k = mIK σ i)) (gN σ 14 0)
def mKeyS (σ : Sg) (i : Nat) : Sg := match fKey σ i with
  | some _ => σ
  | none => sN (sI (sI (sJ σ 109 (gN σ 14 0) (gJ σ 102 i)) 110 (gN σ 14 0) (dg (gI σ 106 (gN σ 103 i)))) 111 (gN σ 14 0) (dg (gI σ 106 (gN σ 104 i)))) 14 0 (gN σ 14 0 + 1)
def mKeyR (σ : Sg) (i : Nat) : Nat := (fKey σ i).getD (gN σ 14 0)
def frS (σ : Sg) : Option Nat := lst (fun s => decide (gN σ 122 s = 0)) 24
def mSend (σ : Sg) (a b k i : Nat) (c d g : Int32) : Sg := match frS σ with
  | none => sN σ 34 0 (gN σ 34 0 + 1)
  | some s => sI (sI (sI (sN (sN (sN (sN (sN (sN (sN σ 34 0 (gN σ 34 0 + 1)) 33 0 (gN σ 33 0 + 1)) 122 s (gN σ 33 0 + 1)) 123 s a) 124 s b) 125 s k) 126 s i) 127 s c) 128 s d) 129 s g
def mAsk (σ : Sg) (i : Nat) : Sg := sN (sB (mSend (mKeyS σ i) 1 0 (mKeyR σ i) i (nI 0) (nI 0) (nI 0)) 107 i true) 108 i (gN σ 2 0)
def older (σ : Sg) (s : Nat) : Nat := cnt (fun q => decide (0 < gN σ 122 q) && decide (gN σ 122 q < gN σ 122 s)) 24
def plc (σ : Sg) (k : Int32) : Option Nat := fnd (fun s => decide (0 < gN σ 122 s) && decide (nI (older σ s) = k)) 24
theorem plc_lt {σ : Sg} {k : Int32} : ∀ i, plc σ k = some i → i < 24 := fun _ h => (fnd_spec h).1
def mFly (σ : Sg) : Nat := cnt (fun s => decide (0 < gN σ 122 s)) 24
def mMsg (σ : Sg) (k : Int32) : Int32 := match plc σ k with
  | none => -1
  | some s => nI (10 * gN σ 123 s + gN σ 124 s)
def mCarr (σ : Sg) (x : Option Nat) : Bool := match x with
  | none => false
  | some s => decide (3 ≤ gN σ 123 s)
def mCar (σ : Sg) (k : Int32) : Int32 := match plc σ k with
  | none => nI 0
  | some s => if 3 ≤ gN σ 123 s then gI σ 127 s else nI 0
def mSpoil (σ : Sg) (k : Int32) : Sg := match plc σ k with
  | none => σ
  | some s => if 3 ≤ gN σ 123 s then sI σ 127 s (gI σ 127 s ^^^ nI 1) else σ
def mLose (σ : Sg) (k : Int32) : Sg := match plc σ k with
  | none => σ
  | some s => sN σ 122 s 0
def mWrong (σ : Sg) (s : Nat) : Bool := if gN σ 123 s = 4 then (!decide (dg (gI σ 127 s) = gI σ 110 (gN σ 125 s)) || !decide (dg (gI σ 128 s) = gI σ 111 (gN σ 125 s))) else (decide (3 ≤ gN σ 123 s) && !decide (dg (gI σ 127 s) = gI σ 129 s))
def mFind (σ : Sg) (d : Int32) : Option Nat := fnd (fun k => decide (dg (gI σ 117 k) = d)) (gN σ 24 0)
section WM1
variable {B : Nat} {σ : Sg}
theorem mFind_lt {d : Int32} (h : WfM B σ) : ∀ i, mFind σ d = some i → i < 12 := fun i hi => by
  have := (fnd_spec hi).1
  have := h.bl
  omega
theorem wfm_file {c : Int32} (h : WfM B σ) : WfM B (mFile σ c) := by
  unfold mFile
  by_cases c : gN σ 5 0 < 10
  · rw [if_pos c]; exact wfm_5 (wfm_I (wfm_B h)) (by omega)
  · rw [if_neg c]; exact h
theorem wfm_act {p : Int64} {a b : Int32} (h : WfM B σ) : WfM B (mAct σ p a b) := by
  unfold mAct
  have hi := h.it
  by_cases c : mActOk σ a b = true
  · rw [if_pos c]
    unfold mActOk at c
    rw [Bool.and_eq_true, Bool.and_eq_true] at c
    obtain ⟨j, hj, rfl⟩ := inR_of (by omega) c.2.1
    obtain ⟨k, hk, rfl⟩ := inR_of (by omega) c.2.2
    rw [nI_clamp (by omega), nI_clamp (by omega)]
    have := of_decide_eq_true c.1
    exact wfm_5 (wfm_104 (wfm_103 (wfm_J (wfm_B h)) (by omega)) (by omega)) (by omega)
  · rw [if_neg c]; exact h
theorem wfm_key {i : Nat} (h : WfM B σ) (hc : fKey σ i = none → gN σ 14 0 < 10) : WfM B (mKeyS σ i) := by
  unfold mKeyS
  cases hk : fKey σ i with
  | some k => exact h
  | none => exact wfm_14 (wfm_I (wfm_I (wfm_J h))) (by have := hc hk; omega)
theorem keyR_lt {i : Nat} (h : WfM B σ) (hc : fKey σ i = none → gN σ 14 0 < 10) : mKeyR σ i < 10 := by
  unfold mKeyR
  cases hk : fKey σ i with
  | some k => exact Nat.lt_of_lt_of_le (fnd_spec hk).1 h.ks
  | none => exact hc hk
theorem wfm_send {a b k i : Nat} {c d g : Int32} (h : WfM B σ) (ha : a < 7) (hb : b < 10) (hk : k < 10) (hi : i < 10) : WfM (B + 1) (mSend σ a b k i c d g) := by
  have hbi := h.bi
  have h := h.mono (Nat.le_add_right B 1)
  unfold mSend
  split
  · exact wfm_N (by decide) h
  · refine wfm_I (wfm_I (wfm_I (wfm_126 (wfm_125 (wfm_124 (wfm_123 (wfm_122 (wfm_33 (wfm_N (by decide) h) ?_) ?_) ha) hb) hk) hi)))
    · omega
    · omega
theorem wfm_ask {i : Nat} (h : WfM B σ) (hi : i < 10) (hc : fKey σ i = none → gN σ 14 0 < 10) : WfM (B + 1) (mAsk σ i) := by
  refine wfm_108 (wfm_B (wfm_send (wfm_key h hc) (by decide) (by decide) (keyR_lt h hc) hi)) ?_
  show gN σ 2 0 ≤ gN (mSend (mKeyS σ i) 1 0 (mKeyR σ i) i (nI 0) (nI 0) (nI 0)) 2 0
  unfold mSend mKeyS
  split <;> split <;> exact Nat.le_refl _
theorem wfm_spoil {k : Int32} (h : WfM B σ) : WfM B (mSpoil σ k) := by
  unfold mSpoil
  split
  · exact h
  · split
    · exact wfm_I h
    · exact h
theorem wfm_lose {k : Int32} (h : WfM B σ) : WfM B (mLose σ k) := by
  unfold mLose
  split
  · exact h
  · exact wfm_122 h (Nat.zero_le _)
end WM1
theorem mCarr_some {σ : Sg} {x : Option Nat} (h : mCarr σ x = true) : ∃ j, x = some j ∧ 3 ≤ gN σ 123 j := by
  cases x with
  | none => cases h
  | some j => exact ⟨j, rfl, of_decide_eq_true h⟩
theorem mCar_f {σ : Sg} {k : Int32} (h : mCarr σ (plc σ k) = false) : nI 0 = mCar σ k := by
  unfold mCar
  cases hp : plc σ k with
  | none => rfl
  | some s =>
    rw [hp] at h
    exact (if_neg (of_decide_eq_false h)).symm
theorem mSpoil_f {σ : Sg} {k : Int32} (h : mCarr σ (plc σ k) = false) : σ = mSpoil σ k := by
  unfold mSpoil
  cases hp : plc σ k with
  | none => rfl
  | some s =>
    rw [hp] at h
    exact (if_neg (of_decide_eq_false h)).symm
theorem msend_N (σ : Sg) (a b k i : Nat) (c d g : Int32) {f : Nat} (hf : f ≠ 34 ∧ f ≠ 33 ∧ f ≠ 122 ∧ f ≠ 123 ∧ f ≠ 124 ∧ f ≠ 125 ∧ f ≠ 126) (o : Nat) : gN (mSend σ a b k i c d g) f o = gN σ f o := by
  obtain ⟨h1, h2, h3, h4, h5, h6, h7⟩ := hf
  unfold mSend
  split
  · simp [gs, h1]
  · simp [gs, h1, h2, h3, h4, h5, h6, h7]
theorem msend_B (σ : Sg) (a b k i : Nat) (c d g : Int32) (f o : Nat) : gB (mSend σ a b k i c d g) f o = gB σ f o := by
  unfold mSend
  split <;> rfl
theorem msend_J (σ : Sg) (a b k i : Nat) (c d g : Int32) (f o : Nat) : gJ (mSend σ a b k i c d g) f o = gJ σ f o := by
  unfold mSend
  split <;> rfl
theorem msend_I (σ : Sg) (a b k i : Nat) (c d g : Int32) {f : Nat} (hf : f ≠ 127 ∧ f ≠ 128 ∧ f ≠ 129) (o : Nat) : gI (mSend σ a b k i c d g) f o = gI σ f o := by
  obtain ⟨h1, h2, h3⟩ := hf
  unfold mSend
  split
  · rfl
  · simp [gs, h1, h2, h3]
theorem mkey_N (σ : Sg) (i : Nat) {f : Nat} (hf : f ≠ 14) (o : Nat) : gN (mKeyS σ i) f o = gN σ f o := by
  unfold mKeyS
  split
  · rfl
  · simp [gs, hf]
theorem mkey_B (σ : Sg) (i f o : Nat) : gB (mKeyS σ i) f o = gB σ f o := by
  unfold mKeyS
  split <;> rfl
theorem mkey_I (σ : Sg) (i : Nat) {f : Nat} (hf : f ≠ 110 ∧ f ≠ 111) (o : Nat) : gI (mKeyS σ i) f o = gI σ f o := by
  unfold mKeyS
  split
  · rfl
  · simp [gs, hf.1, hf.2]
