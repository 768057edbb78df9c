/-! answers and states of the object's own calls -/
def lbLose (σ : Sg) (k : Int32) : Sg := if inR k (gN σ 21 1) = true then fTake σ k.toNatClampNeg else σ
def lbSpB (σ : Sg) (k : Int32) : Bool := inR k (gN σ 21 1) && hasC (gN σ 10 (gN σ 100 k.toNatClampNeg))
def lbSpoil (σ : Sg) (k : Int32) : Sg := if lbSpB σ k = true then sI σ 16 (gN σ 100 k.toNatClampNeg) (gI σ 16 (gN σ 100 k.toNatClampNeg) ^^^ nI 1) else σ
def lbCrB (σ : Sg) (nw : Nat) (x : Int32) : Bool := isNd nw x && lbUp σ nw x
def lbCrash (σ : Sg) (nw : Nat) (x : Int32) : Sg := if lbCrB σ nw x = true then (if x = 0 then sDown σ nw else wDown σ (100 + 2 * (x.toInt.toNat - 1))) else σ
def lbReB (σ : Sg) (nw : Nat) (x : Int32) : Bool := isNd nw x && !lbUp σ nw x
def lbRest (σ : Sg) (nw : Nat) (x : Int32) : Sg := if lbReB σ nw x = true then (if x = 0 then sB σ 45 63 true else sB σ 56 (100 + 2 * (x.toInt.toNat - 1)) true) else σ
def lbColR (σ : Sg) (nw : Nat) : Int32 := if gB σ 45 63 = true then nI (swp nw (gN σ 36 64) σ 0).2 else -1
def lbColS (σ : Sg) (nw : Nat) : Sg := if gB σ 45 63 = true then (swp nw (gN σ 36 64) σ 0).1 else σ
def lbMsg (σ : Sg) (k : Int32) : Int32 := if inR k (gN σ 21 1) = true then nI (10 * gN σ 10 (gN σ 100 k.toNatClampNeg) + gN σ 11 (gN σ 100 k.toNatClampNeg)) else -1
def lbCar (σ : Sg) (k : Int32) : Int32 := if lbSpB σ k = true then gI σ 16 (gN σ 100 k.toNatClampNeg) else nI 0
def lbCon (σ : Sg) (k : Int32) : Int32 := if kn σ k = true then gI σ 102 k.toNatClampNeg else nI 0
def lbLea (σ : Sg) (nw : Nat) (x : Int32) : Int32 := if isW nw x = true then sTicks σ nw x.toInt.toNat (gN σ 4 0) else -1
def lbDoi (σ : Sg) (nw : Nat) (x : Int32) : Int32 := if isW nw x = true then (if gB σ 57 (100 + 2 * (x.toInt.toNat - 1)) = true then nI (gN σ 58 (100 + 2 * (x.toInt.toNat - 1))) else -1) else -1
def lbCnt (σ : Sg) (x : Int32) : Int32 :=
  if x = nI 0 then nI (gN σ 36 64) else if x = nI 1 then nI (gN σ 37 64) else if x = nI 2 then nI (gN σ 46 63) else if x = nI 3 then nI (gN σ 47 63) else if x = nI 4 then nI (gN σ 48 63)
  else if x = nI 5 then nI (gN σ 5 0) else if x = nI 6 then nI (gN σ 49 63) else if x = nI 7 then nI (gN σ 50 63) else if x = nI 8 then nI (gN σ 4 0) else if x = nI 9 then nI (cnt (fun i => !gB σ 101 i) (gN σ 31 55)) else -1
theorem sw_0_9 (x : Int32) : x = nI 0 ∨ x = nI 1 ∨ x = nI 2 ∨ x = nI 3 ∨ x = nI 4 ∨ x = nI 5 ∨ x = nI 6 ∨ x = nI 7 ∨ x = nI 8 ∨ x = nI 9 ∨ (x.toInt < 0 ∨ 9 < x.toInt) := by
  by_cases h : x.toInt < 0 ∨ 9 < x.toInt
  · simp [h]
  · have e : ∀ n : Nat, n < 2 ^ 31 → x.toInt = n → x = nI n := fun n hn hx => Int32.toInt_inj.mp (by rw [nI_toInt hn]; exact hx)
    have e0 := e 0 (by decide); have e1 := e 1 (by decide); have e2 := e 2 (by decide); have e3 := e 3 (by decide); have e4 := e 4 (by decide)
    have e5 := e 5 (by decide); have e6 := e 6 (by decide); have e7 := e 7 (by decide); have e8 := e 8 (by decide); have e9 := e 9 (by decide)
    have c : x.toInt = 0 ∨ x.toInt = 1 ∨ x.toInt = 2 ∨ x.toInt = 3 ∨ x.toInt = 4 ∨ x.toInt = 5 ∨ x.toInt = 6 ∨ x.toInt = 7 ∨ x.toInt = 8 ∨ x.toInt = 9 := by omega
    rcases c with c | c | c | c | c | c | c | c | c | c
    · exact Or.inl (e0 c)
    · exact Or.inr (Or.inl (e1 c))
    · exact Or.inr (Or.inr (Or.inl (e2 c)))
    · exact Or.inr (Or.inr (Or.inr (Or.inl (e3 c))))
    · exact Or.inr (Or.inr (Or.inr (Or.inr (Or.inl (e4 c)))))
    · exact Or.inr (Or.inr (Or.inr (Or.inr (Or.inr (Or.inl (e5 c))))))
    · exact Or.inr (Or.inr (Or.inr (Or.inr (Or.inr (Or.inr (Or.inl (e6 c)))))))
    · exact Or.inr (Or.inr (Or.inr (Or.inr (Or.inr (Or.inr (Or.inr (Or.inl (e7 c))))))))
    · exact Or.inr (Or.inr (Or.inr (Or.inr (Or.inr (Or.inr (Or.inr (Or.inr (Or.inl (e8 c)))))))))
    · exact Or.inr (Or.inr (Or.inr (Or.inr (Or.inr (Or.inr (Or.inr (Or.inr (Or.inr (Or.inl (e9 c))))))))))
section W7
variable {nw : Nat} {σ : Sg}
theorem isW_lo {x : Int32} (h : x < nI 1) : false = isW nw x := by
  rw [Int32.lt_iff_toInt_lt, nI_toInt (by decide)] at h
  exact (decide_eq_false (by omega)).symm
theorem isW_hi {x : Int32} (hn : nw ≤ 4) (h : nI nw < x) : false = isW nw x := by
  rw [Int32.lt_iff_toInt_lt, nI_toInt (by omega)] at h
  exact (decide_eq_false (by omega)).symm
theorem isW_in {x : Int32} (hn : nw ≤ 4) (h1 : ¬ x < nI 1) (h2 : ¬ nI nw < x) : true = isW nw x := by
  rw [Int32.lt_iff_toInt_lt, nI_toInt (by decide)] at h1
  rw [Int32.lt_iff_toInt_lt, nI_toInt (by omega)] at h2
  exact (decide_eq_true (by omega)).symm
theorem isW_of {x : Int32} (hn : nw ≤ 4) (h : isW nw x = true) : ∃ j, j < nw ∧ x = nI (j + 1) := by
  have h1 := of_decide_eq_true h
  refine ⟨x.toInt.toNat - 1, by omega, ?_⟩
  apply Int32.toInt_inj.mp
  rw [nI_toInt (by omega)]
  omega
theorem isW_b {w : Nat} (hw : w ≤ 1000) (h : isW nw (nI w) = true) : 1 ≤ w ∧ w ≤ nw := by
  have h1 := of_decide_eq_true h
  rw [nI_toInt (by omega)] at h1
  omega
theorem wIx {j : Nat} (hj : j < 1000) : (nI (j + 1)).toInt.toNat - 1 = j := by
  rw [nI_toInt (by omega)]
  omega
theorem wTn {j : Nat} (hj : j < 1000) : (nI (j + 1)).toInt.toNat = j + 1 := by
  rw [nI_toInt (by omega)]
  omega
theorem wNe {j : Nat} (hj : j < 1000) : ¬ nI (j + 1) = 0 := nI_ne0 (by omega) (by omega)
theorem isNd_w {x : Int32} (h : isNd nw x = true) (h0 : ¬ x = 0) : isW nw x = true := by
  unfold isNd at h
  rw [decide_eq_false h0] at h
  exact h
theorem wf_hand {q : Nat} {cut : Int32} (h : Wf nw σ) (ht : gN σ 4 0 < 2 ^ 29) : Wf nw (lbHand σ nw q cut) := by
  unfold lbHand
  split
  · exact wf_sAsk h
  · split
    · exact wf_lack h ht
    · split
      · exact wf_sPut h
      · split
        · split
          · exact wf_wBegin h
          · exact h
        · split
          · exact wf_sRes h
          · split
            · exact wf_ansN h _
            · exact h
theorem wf_del {q : Nat} {cut : Int32} (h : Wf nw σ) (ht : gN σ 4 0 < 2 ^ 29) : Wf nw (lbDel σ nw q cut) := by
  unfold lbDel
  split
  · split
    · exact wf_hand h ht
    · exact wf_N (by decide) h
  · exact h
theorem wf_delS {k cut : Int32} (h : Wf nw σ) (ht : gN σ 4 0 < 2 ^ 29) : Wf nw (lbDelS σ nw k cut) := by
  unfold lbDelS
  by_cases c : inR k (gN σ 21 1) = true
  · rw [if_pos c]
    have := h.n
    obtain ⟨j, hj, rfl⟩ := inR_of (by omega) c
    rw [nI_clamp (by omega)]
    exact wf_del (wf_take h hj) ht
  · rw [if_neg c]; exact h
theorem wf_lose {k : Int32} (h : Wf nw σ) : Wf nw (lbLose σ k) := by
  unfold lbLose
  by_cases c : inR k (gN σ 21 1) = true
  · rw [if_pos c]
    have := h.n
    obtain ⟨j, hj, rfl⟩ := inR_of (by omega) c
    rw [nI_clamp (by omega)]
    exact wf_take h hj
  · rw [if_neg c]; exact h
theorem wf_spoil {k : Int32} (h : Wf nw σ) : Wf nw (lbSpoil σ k) := by
  unfold lbSpoil
  split
  · exact wf_I h
  · exact h
theorem wf_crash {x : Int32} (h : Wf nw σ) : Wf nw (lbCrash σ nw x) := by
  unfold lbCrash
  split
  · split
    · exact wf_down h
    · exact wf_wDown h
  · exact h
theorem wf_rest {x : Int32} (h : Wf nw σ) : Wf nw (lbRest σ nw x) := by
  unfold lbRest
  repeat' (first | split | exact h)
theorem wf_col (h : Wf nw σ) : Wf nw (lbColS σ nw) := by
  unfold lbColS
  split
  · exact wf_swp _ h
  · exact h
theorem wf_tick (hn : nw ≤ 4) (h : Wf nw σ) (ht : gN σ 4 0 + 1 < 2 ^ 29) : Wf nw (lbTick σ nw) := wf_askN (wf_time hn ht (wf_workN (wf_N (by decide) h) nw)) ht _ (wf_time hn ht (wf_workN (wf_N (by decide) h) nw)).it
end W7
theorem send_t (σ : Sg) (k r : Nat) : gN (fSend σ k r) 4 0 = gN σ 4 0 := send_N σ k r (by decide) 0
theorem work_t (σ : Sg) (o : Nat) : gN (wWork σ o) 4 0 = gN σ 4 0 := by
  unfold wWork
  split
  · split
    · split
      · exact send_t (sB σ 57 o false) 5 0
      · exact wRun_done σ o _ (by decide) 0
    · rfl
  · rfl
theorem workN_t (σ : Sg) : ∀ i, gN (wWorkN σ i) 4 0 = gN σ 4 0
  | 0 => rfl
  | i + 1 => (work_t (wWorkN σ i) (100 + 2 * i)).trans (workN_t σ i)
theorem qApp_t (σ : Sg) (q : Nat) : gN (qApp σ q) 4 0 = gN σ 4 0 := by
  unfold qApp
  split <;> rfl
theorem remI_t (σ : Sg) (w : Int32) : gN (qRemI σ w) 4 0 = gN σ 4 0 := by
  unfold qRemI
  split <;> rfl
theorem edN_t (σ : Sg) (nw t : Nat) : ∀ i, gN (edN σ nw t i) 4 0 = gN σ 4 0
  | 0 => rfl
  | i + 1 => by
    show gN (edS nw t (edN σ nw t i) i) 4 0 = gN σ 4 0
    rw [← edN_t σ nw t i]
    unfold edS
    split
    · split
      · rw [lEnd_N]
        exact qApp_t _ _
      · rfl
    · rfl
theorem gvS_t (s : Sg) (t w : Nat) : gN (gvS s t w) 4 0 = gN s 4 0 := (remI_t _ _).trans (send_t (gv1 s t w) 4 w)
theorem gvN_t (nw t : Nat) : ∀ (k : Nat) (s : Sg), gN (gvN nw t k s) 4 0 = gN s 4 0
  | 0, s => rfl
  | k + 1, s => by
    unfold gvN
    split
    · rfl
    · split
      · rfl
      · rw [gvN_t nw t k, gvS_t]
theorem time_t (σ : Sg) (nw t : Nat) : gN (sTime σ nw t) 4 0 = gN σ 4 0 := by
  unfold sTime
  split
  · rw [gvN_t, edN_t]
  · rfl
