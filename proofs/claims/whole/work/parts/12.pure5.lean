/-! the server: what its longer methods do -/
def qRemI (σ : Sg) (w : Int32) : Sg := if inR w (gN σ 39 79) = true then qRem σ w.toNatClampNeg else σ
def sLease1 (σ : Sg) (w q : Nat) : Sg := kcopy (fSend σ 4 w) (sendTo σ + 1) q
def sLease2 (σ : Sg) (w q : Nat) : Sg := sI (sLease1 σ w q) 16 (sendTo σ) (dOf (sLease1 σ w q) (gI (sLease1 σ w q) 7 q))
def sLease (σ : Sg) (w q : Nat) : Sg := sI (sLease2 σ w q) 17 (sendTo σ) (dOf (sLease2 σ w q) (gI (sLease1 σ w q) 8 q))
def sLack1 (σ : Sg) (q : Nat) : Sg := sN (fSend σ 2 9) 12 (sendTo σ) (gN σ 12 q)
def sLack2 (σ : Sg) (q : Nat) : Sg := sB (sLack1 σ q) 13 (sendTo σ) (!dHas (sLack1 σ q) (gI σ 7 (q + 1)))
def sLack (σ : Sg) (q : Nat) : Sg := sB (sLack2 σ q) 14 (sendTo σ) (!dHas (sLack2 σ q) (gI σ 8 (q + 1)))
def sAskH (σ : Sg) (q : Nat) : Sg := sAns (sN σ 48 63 (gN σ 48 63 + 1)) (q + 1) (gI σ 110 ((fRes σ (q + 1)).getD 0)) (dOf (sN σ 48 63 (gN σ 48 63 + 1)) (gI σ 110 ((fRes σ (q + 1)).getD 0)))
def sAsk (σ : Sg) (nw q : Nat) : Sg := if oI (fRes σ (q + 1)) = -1 then (if dHas σ (gI σ 7 (q + 1)) = true then (if dHas σ (gI σ 8 (q + 1)) = true then (if oI (fQue σ (q + 1)) = -1 then (if oI (lFind σ nw (q + 1)) = -1 then qApp σ (q + 1) else σ) else σ) else sLack σ q) else sLack σ q) else sAskH σ q
def sPut (σ : Sg) (nw q : Nat) (cut : Int32) : Sg := if dHas σ (gI σ 15 q) = true then σ else (if cut = 0 then sCut σ nw else sN (dWrite σ (gI σ 15 q) (gI σ 16 q)) 47 63 (gN σ 47 63 + 1))
def sRes1 (s : Sg) (q : Nat) (d : Int32) : Sg := dWrRes s (q + 1) d
def sRes2 (s : Sg) (q : Nat) (d : Int32) : Sg := qRemI (sRes1 s q d) (oI (fQue (sRes1 s q d) (q + 1)))
def sRes3 (s : Sg) (nw q : Nat) (d : Int32) : Sg := lEnd (sRes2 s q d) nw (oI (lFind (sRes2 s q d) nw (q + 1)))
def sResF (s : Sg) (nw q : Nat) (d c : Int32) : Sg := sAns (sRes3 s nw q d) (q + 1) d c
def sRes (σ : Sg) (nw q : Nat) (cut : Int32) : Sg := if oI (fRes σ (q + 1)) = -1 then (if dHas σ (gI σ 15 q) = true then (if cut = nI 0 then sCut σ nw else sResF σ nw q (gI σ 15 q) (gI σ 16 q)) else (if cut = nI 0 then sCut σ nw else (if cut = nI 1 then sCut (dWrite σ (gI σ 15 q) (gI σ 16 q)) nw else sResF (dWrite σ (gI σ 15 q) (gI σ 16 q)) nw q (gI σ 15 q) (gI σ 16 q)))) else sN σ 49 63 (gN σ 49 63 + 1)
def swp (nw : Nat) : Nat → Sg → Nat → Sg × Nat
  | 0, s, c => (s, c)
  | j + 1, s, c => if sNeed s nw (gI s 107 j) = true then swp nw j s c else swp nw j (dRem s j) (c + 1)
def edS (nw t : Nat) (s : Sg) (i : Nat) : Sg := if lHas s nw (nI (i + 1)) = true then (if gN s 114 i ≤ t then lEnd (qApp s (95 + i)) nw (nI (i + 1)) else s) else s
def edN (σ : Sg) (nw t : Nat) : Nat → Sg
  | 0 => σ
  | i + 1 => edS nw t (edN σ nw t i) i
def gv1 (s : Sg) (t w : Nat) : Sg := sN (lGive s w (gN s 111 0) (t + gN s 44 63)) 46 63 (gN s 46 63 + 1)
def gvS (s : Sg) (t w : Nat) : Sg := qRemI (sLease (gv1 s t w) w (gN (gv1 s t w) 111 0)) (nI 0)
def gvN (nw t : Nat) : Nat → Sg → Sg
  | 0, s => s
  | k + 1, s => if gN s 39 79 = 0 then s else (if oI (lFree s nw) = -1 then s else gvN nw t k (gvS s t ((lFree s nw).getD 0)))
def sTime (σ : Sg) (nw t : Nat) : Sg := if gB σ 45 63 = true then gvN nw t nw (edN σ nw t nw) else σ
section W5
variable {nw : Nat} {σ : Sg}
theorem wf_remI {w : Int32} (h : Wf nw σ) : Wf nw (qRemI σ w) := by
  unfold qRemI
  by_cases c : inR w (gN σ 39 79) = true
  · rw [if_pos c]
    have := h.q
    obtain ⟨j, hj, rfl⟩ := inR_of (by omega) c
    rw [nI_clamp (by omega)]
    exact wf_qRem h hj
  · rw [if_neg c]; exact h
theorem wf_lease {w q : Nat} (h : Wf nw σ) (hw : w < 10) : Wf nw (sLease σ w q) := wf_I (wf_I (wf_kc (wf_send h (by decide) hw)))
theorem wf_sLack {q : Nat} (h : Wf nw σ) : Wf nw (sLack σ q) := wf_B (wf_B (wf_12 (wf_send h (by decide) (by decide)) (h.im q)))
theorem wf_sAsk {q : Nat} (h : Wf nw σ) : Wf nw (sAsk σ nw q) := by
  unfold sAsk
  split
  · split
    · split
      · split
        · split
          · exact wf_qApp h
          · exact h
        · exact h
      · exact wf_sLack h
    · exact wf_sLack h
  · exact wf_ans (wf_N (by decide) h)
theorem wf_sPut {q : Nat} {cut : Int32} (h : Wf nw σ) : Wf nw (sPut σ nw q cut) := by
  unfold sPut
  split
  · exact h
  · split
    · exact wf_cut h
    · exact wf_N (by decide) (wf_dWrite h)
theorem wf_resF {q : Nat} {d c : Int32} (h : Wf nw σ) : Wf nw (sResF σ nw q d c) := wf_ans (wf_end (wf_remI (wf_dWrRes h)))
theorem wf_sRes {q : Nat} {cut : Int32} (h : Wf nw σ) : Wf nw (sRes σ nw q cut) := by
  unfold sRes
  split
  · split
    · split
      · exact wf_cut h
      · exact wf_resF h
    · split
      · exact wf_cut h
      · split
        · exact wf_cut (wf_dWrite h)
        · exact wf_resF (wf_dWrite h)
  · exact wf_N (by decide) h
theorem wf_swp : ∀ (j : Nat) {s : Sg} {c : Nat}, Wf nw s → Wf nw (swp nw j s c).1
  | 0, s, c, h => h
  | j + 1, s, c, h => by
    unfold swp
    split
    · exact wf_swp j h
    · exact wf_swp j (wf_dRem h)
theorem wf_edS {t i : Nat} (h : Wf nw σ) : Wf nw (edS nw t σ i) := by
  unfold edS
  split
  · split
    · exact wf_end (wf_qApp h)
    · exact h
  · exact h
theorem wf_edN {t : Nat} (h : Wf nw σ) : ∀ i, Wf nw (edN σ nw t i)
  | 0 => h
  | i + 1 => wf_edS (wf_edN h i)
theorem lFree_lt {σ : Sg} {nw : Nat} (hl : gN σ 54 91 ≤ nw) : ∀ i, lFree σ nw = some i → 1 ≤ i ∧ i ≤ nw := by
  intro i hi
  unfold lFree at hi
  obtain ⟨k, hk, rfl⟩ := Option.map_eq_some_iff.mp hi
  have := (fnd_spec hk).1
  unfold wrap
  split <;> omega
theorem wf_gvS {t w : Nat} (h : Wf nw σ) (hn : nw ≤ 4) (hw : w ≤ nw) (ht : t < 2 ^ 29) : Wf nw (gvS σ t w) := wf_remI (wf_lease (wf_N (by decide) (wf_give h hw (by have := h.ln; omega))) (by omega))
theorem wf_gvN (hn : nw ≤ 4) {t : Nat} (ht : t < 2 ^ 29) : ∀ (k : Nat) {s : Sg}, Wf nw s → Wf nw (gvN nw t k s)
  | 0, s, h => h
  | k + 1, s, h => by
    unfold gvN
    split
    · exact h
    · split
      · exact h
      · refine wf_gvN hn ht k (wf_gvS h hn ?_ ht)
        cases hf : lFree s nw with
        | none => exact Nat.zero_le _
        | some i => exact (lFree_lt h.lt i hf).2
theorem wf_time (hn : nw ≤ 4) {t : Nat} (ht : t < 2 ^ 29) (h : Wf nw σ) : Wf nw (sTime σ nw t) := by
  unfold sTime
  split
  · exact wf_gvN hn ht nw (wf_edN h nw)
  · exact h
end W5
theorem inR_bigL {k : Int32} {n : Nat} (hn : n < 2 ^ 31) (h : ¬ k < nI n) : inR k n = false := by
  rw [Int32.lt_iff_toInt_lt, nI_toInt hn] at h
  exact decide_eq_false (by omega)
theorem inR_inL {k : Int32} {n : Nat} (hn : n < 2 ^ 31) (h0 : ¬ k < 0) (h : k < nI n) : inR k n = true := by
  rw [Int32.lt_iff_toInt_lt, nI_toInt hn] at h
  rw [Int32.lt_iff_toInt_lt, Int32.toInt_zero] at h0
  exact decide_eq_true (by omega)
theorem lHas_b {σ : Sg} {nw w : Nat} (hw : w ≤ 1000) (h : lHas σ nw (nI w) = true) : 1 ≤ w ∧ w ≤ nw := by
  unfold lHas at h
  rw [Bool.and_eq_true, nI_toInt (by omega)] at h
  have := of_decide_eq_true h.1
  omega
theorem x_m1 (j : Nat) : nI j + Int32.ofInt (-1) = nI j - nI 1 := by
  rw [Int32.sub_eq_add_neg]
  rfl
theorem dWrite_N (σ : Sg) (d c : Int32) {f : Nat} (hf : f ≠ 36) (o : Nat) : gN (dWrite σ d c) f o = gN σ f o := by
  unfold dWrite
  split
  · simp [gs, hf]
  · rfl
theorem dWrite_B (σ : Sg) (d c : Int32) (f o : Nat) : gB (dWrite σ d c) f o = gB σ f o := by
  unfold dWrite
  split <;> rfl
theorem dWrite_I (σ : Sg) (d c : Int32) {f : Nat} (hf : f ≠ 107 ∧ f ≠ 108) (o : Nat) : gI (dWrite σ d c) f o = gI σ f o := by
  unfold dWrite
  split
  · simp [gs, hf.1, hf.2]
  · rfl
theorem dWrRes_I (σ : Sg) (q : Nat) (d : Int32) {f : Nat} (hf : f ≠ 7 ∧ f ≠ 8 ∧ f ≠ 110) (o : Nat) : gI (dWrRes σ q d) f o = gI σ f o := by
  unfold dWrRes
  split
  · simp [gs, kcopy, kset, hf.1, hf.2.1, hf.2.2]
  · rfl
theorem dWrRes_N (σ : Sg) (q : Nat) (d : Int32) {f : Nat} (hf : f ≠ 37) (o : Nat) : gN (dWrRes σ q d) f o = gN σ f o := by
  unfold dWrRes
  split
  · simp [gs, kcopy, kset, hf]
  · rfl
theorem qRemI_I (σ : Sg) (w : Int32) (f o : Nat) : gI (qRemI σ w) f o = gI σ f o := by
  unfold qRemI
  split <;> rfl
theorem qRemI_B (σ : Sg) (w : Int32) (f o : Nat) : gB (qRemI σ w) f o = gB σ f o := by
  unfold qRemI
  split <;> rfl
theorem lEnd_I (σ : Sg) (nw : Nat) (w : Int32) (f o : Nat) : gI (lEnd σ nw w) f o = gI σ f o := by
  unfold lEnd
  split <;> rfl
theorem lEnd_N (σ : Sg) (nw : Nat) (w : Int32) (f o : Nat) : gN (lEnd σ nw w) f o = gN σ f o := by
  unfold lEnd
  split <;> rfl
