/-! both sides at once: a tick -/
section TI
variable {nw b B : Nat} {σ μ : Sg}
theorem tkL_s (s : Sg) : ∀ i, tkL s (i + 1) = tkL (mLend s) i
  | 0 => rfl
  | i + 1 => by
    show mLend (tkL s (i + 1)) = mLend (tkL (mLend s) i)
    rw [tkL_s s i]
theorem tkL_fix {s : Sg} (h : mLend s = s) : ∀ i, tkL s i = s
  | 0 => rfl
  | i + 1 => by
    show mLend (tkL s i) = s
    rw [tkL_fix h i, h]
theorem sim_gvN {t : Nat} (hn : nw ≤ 4) (ht9 : t < 2 ^ 29) : ∀ (k : Nat) {σ μ : Sg} {B : Nat}, Sim nw b B σ μ → gN σ 4 0 = t → Sim nw b (B + k) (gvN nw t k σ) (tkL μ k)
  | 0, σ, μ, B, h, ht => h
  | k + 1, σ, μ, B, h, ht => by
    have hh := h
    obtain ⟨h1, h2, h3, ⟨fs, qs, hs, rs, r⟩, h5⟩ := h
    unfold gvN
    by_cases c : gN σ 39 79 = 0
    · rw [if_pos c, tkL_fix (by unfold mLend; rw [mnq_no r.Q c])]
      exact hh.mono (by omega)
    · rw [if_neg c]
      have my := mnq_yes r.Q (Nat.pos_of_ne_zero c)
      cases hf : lFree σ nw with
      | none =>
        rw [if_pos oI_n, tkL_fix]
        · exact hh.mono (by omega)
        · unfold mLend
          rw [my, r.nw']
          show (if lwN μ nw = 0 then μ else _) = μ
          rw [if_pos (free_no r h1.lt hf)]
      | some w =>
        obtain ⟨f1, f2, f3, f4⟩ := free_yes r h1.lt hf
        obtain ⟨j, rfl⟩ : ∃ j, w = j + 1 := ⟨w - 1, by omega⟩
        rw [if_neg (oI_res rfl (by omega)), tkL_s]
        show Sim nw b (B + (k + 1)) (gvN nw t k (gvS σ t (j + 1))) _
        have e : mLend μ = mLen2 μ (qs 0) (j + 1) := by
          unfold mLend
          rw [my, r.nw']
          show (if lwN μ nw = 0 then μ else mLen2 μ (qs 0) (lwN μ nw)) = _
          rw [f1, if_neg (by omega)]
        rw [e]
        have s := sim_give (j := j) (t := t) hh r (Nat.pos_of_ne_zero c) (by omega) hn f4 ht ht9
        have z := sim_gvN hn ht9 k s ((gvS_t σ t (j + 1)).trans ht)
        exact z.mono (by omega)
theorem cnt_up : ∀ {n a : Nat} {f : Nat → Bool}, a < n → f a = false → cnt (fun i => !up1 f a true i) n + 1 = cnt (fun i => !f i) n
  | 0, a, f, ha, _ => absurd ha (Nat.not_lt_zero a)
  | n + 1, a, f, ha, hf => by
    show cnt (fun i => !up1 f a true i) n + (if (!up1 f a true n) = true then 1 else 0) + 1 = cnt (fun i => !f i) n + (if (!f n) = true then 1 else 0)
    by_cases c : a = n
    · subst c
      rw [up1_s, hf, cnt_congr (P' := fun i => !f i) (fun j hj => by rw [up1_n _ _ (by omega)])]
      rfl
    · rw [up1_n _ _ (fun z => c z.symm)]
      have := cnt_up (n := n) (a := a) (f := f) (by omega) hf
      omega
theorem cnt_0 {P : Nat → Bool} : ∀ {n : Nat}, cnt P n = 0 → ∀ i, i < n → P i = false
  | 0, _, i, hi => absurd hi (Nat.not_lt_zero i)
  | n + 1, h, i, hi => by
    have h : cnt P n + (if P n = true then 1 else 0) = 0 := h
    by_cases c : P n = true
    · rw [if_pos c] at h; omega
    · by_cases e : i = n
      · rw [e]; simpa using c
      · rw [if_neg c] at h
        exact cnt_0 (n := n) (by omega) i (by omega)
theorem lFree_free (hl : gN σ 54 91 ≤ nw) {w : Nat} (h : lFree σ nw = some w) : 1 ≤ w ∧ w ≤ nw ∧ gB σ 112 (w - 1) = false := by
  have hb := lFree_lt hl w h
  unfold lFree at h
  obtain ⟨j, hj, e⟩ := Option.map_eq_some_iff.mp h
  have a2 := (fnd_spec hj).2.1
  refine ⟨hb.1, hb.2, ?_⟩
  rw [← e]
  simpa using a2
theorem gvS_B (s : Sg) (t w : Nat) : gB (gvS s t w) 112 = up1 (gB s 112) (w - 1) true := by
  funext i
  unfold gvS
  rw [qRemI_B]
  show gB (fSend (gv1 s t w) 4 w) 112 i = _
  rw [send_B]
  exact congrFun (gB_up s 112 (w - 1) true) i
/-- no more leases than workers -/
theorem gv_fix {t : Nat} (hn : nw ≤ 4) (ht9 : t < 2 ^ 29) (m : Nat) : ∀ (k : Nat) {s : Sg}, Wf nw s → cnt (fun i => !gB s 112 i) nw ≤ k → gvN nw t (k + m) s = gvN nw t k s
  | 0, s, hw, hc => by
    have all := cnt_0 (P := fun i => !gB s 112 i) (n := nw) (by omega)
    cases m with
    | zero => rfl
    | succ m =>
      show gvN nw t (0 + (m + 1)) s = s
      rw [Nat.zero_add]
      unfold gvN
      by_cases c : gN s 39 79 = 0
      · rw [if_pos c]
      · rw [if_neg c]
        cases hf : lFree s nw with
        | none => rw [if_pos oI_n]
        | some w =>
          obtain ⟨a, b, d⟩ := lFree_free hw.lt hf
          have z : (!gB s 112 (w - 1)) = false := all (w - 1) (by omega)
          rw [d] at z
          cases z
  | k + 1, s, hw, hc => by
    rw [show k + 1 + m = (k + m) + 1 by omega]
    unfold gvN
    by_cases c : gN s 39 79 = 0
    · rw [if_pos c, if_pos c]
    · rw [if_neg c, if_neg c]
      cases hf : lFree s nw with
      | none => rw [if_pos oI_n, if_pos oI_n]
      | some w =>
        obtain ⟨a, b, d⟩ := lFree_free hw.lt hf
        rw [if_neg (oI_res rfl (by omega)), if_neg (oI_res rfl (by omega))]
        show gvN nw t (k + m) (gvS s t w) = gvN nw t k (gvS s t w)
        refine gv_fix hn ht9 m k (wf_gvS hw hn b ht9) ?_
        rw [gvS_B]
        have := cnt_up (n := nw) (a := w - 1) (f := gB s 112) (by omega) d
        omega
theorem sim_time {t : Nat} (h : Sim nw b B σ μ) (hn : nw ≤ 4) (ht : gN σ 4 0 = t) (ht9 : t < 2 ^ 29) : Sim nw b (B + 8) (sTime σ nw t) (if gB μ 100 0 = true then μ else tkL (tkE μ nw) 4) := by
  have hs : gB σ 45 63 = !gB μ 100 0 := by
    obtain ⟨h1, h2, h3, ⟨fs, qs, hs, rs, r⟩, h5⟩ := h
    exact r.su
  unfold sTime
  rw [hs]
  cases gB μ 100 0 with
  | true => exact h.mono (by omega)
  | false =>
    show Sim nw b (B + 8) (gvN nw t nw (edN σ nw t nw)) (tkL (tkE μ nw) 4)
    have a := sim_edN h hn ht nw (Nat.le_refl _)
    have z := sim_gvN hn ht9 4 a ((edN_t σ nw t nw).trans ht)
    have e : gvN nw t 4 (edN σ nw t nw) = gvN nw t nw (edN σ nw t nw) := by
      have := gv_fix hn ht9 (4 - nw) nw a.1 (cnt_le _ _)
      rw [show nw + (4 - nw) = 4 by omega] at this
      exact this
    rw [e] at z
    exact z.mono (by omega)
theorem sim_workN (h : Sim nw b B σ μ) (hn : nw ≤ 4) : ∀ i, i ≤ nw → Sim nw b (B + i) (wWorkN σ i) (tkW μ i)
  | 0, _ => h
  | i + 1, hi => sim_work (sim_workN h hn i (by omega)) (by omega) hn
theorem rdy_eq (h : Sim nw b B σ μ) {i : Nat} (hi : i < gN μ 5 0) : rdy σ i = mRdy μ i := by
  obtain ⟨h1, h2, h3, ⟨fs, qs, hs, rs, r⟩, h5⟩ := h
  unfold rdy mRdy
  rw [r.hv, r.lf, r.rg]
  cases e : gB μ 105 i with
  | true => simp
  | false =>
    have z : gB μ 101 i = true := by
      rcases h5.1.1 i hi with z | z
      · have z : gB μ 105 i = true := z
        rw [e] at z; cases z
      · exact z
    rw [z]
    rfl
theorem ask_t (σ : Sg) (i t : Nat) : gN (cAsk σ i t) 4 0 = gN σ 4 0 := send_N σ 1 0 (by decide) 0
theorem sim_askS {i t : Nat} (h : Sim nw b B σ μ) (hi : i < gN μ 5 0) (ht : gN σ 4 0 = t) (ht9 : t < 2 ^ 29) : Sim nw b (B + 1) (cAskS σ t i) (tkAS μ i) ∧ gN (cAskS σ t i) 4 0 = t ∧ gN (tkAS μ i) 5 0 = gN μ 5 0 := by
  have re := rdy_eq h hi
  have hh := h
  obtain ⟨h1, h2, h3, ⟨fs, qs, hs, rs, r⟩, h5⟩ := h
  have hsa := h3.sa i
  have na : gN σ 106 i = if gB μ 107 i = true then gN μ 108 i + 5 else 0 := congrFun r.na i
  unfold cAskS tkAS
  rw [re, na]
  by_cases c : mRdy μ i = true
  · rw [if_pos c, if_pos c]
    have sk := sim_ask hh c ht ht9
    by_cases d : gB μ 107 i = true
    · rw [if_pos d, if_pos d]
      have e2 : gN μ 2 0 = t := r.tm.symm.trans ht
      by_cases f : gN μ 2 0 - gN μ 108 i < 5
      · rw [if_pos f, if_neg (by omega)]
        exact ⟨hh.mono (by omega), ht, rfl⟩
      · rw [if_neg f, if_pos (by omega)]
        exact ⟨sk, (ask_t σ i t).trans ht, ask_it5 μ i⟩
    · rw [if_neg d, if_neg d, if_pos (Nat.zero_le _)]
      exact ⟨sk, (ask_t σ i t).trans ht, ask_it5 μ i⟩
  · rw [if_neg c, if_neg c]
    exact ⟨hh.mono (by omega), ht, rfl⟩
theorem sim_askN {t : Nat} (h : Sim nw b B σ μ) (ht : gN σ 4 0 = t) (ht9 : t < 2 ^ 29) : ∀ i, i ≤ gN μ 5 0 → Sim nw b (B + i) (cAskN σ t i) (tkA μ i) ∧ gN (cAskN σ t i) 4 0 = t ∧ gN (tkA μ i) 5 0 = gN μ 5 0
  | 0, _ => ⟨h, ht, rfl⟩
  | i + 1, hi => by
    obtain ⟨a, b, c⟩ := sim_askN h ht ht9 i (by omega)
    obtain ⟨x, y, z⟩ := sim_askS (i := i) a (by omega) b ht9
    exact ⟨x, y, z.trans c⟩
theorem sim_tk0 (h : Sim nw b B σ μ) : Sim nw (gN σ 22 1) (B + 1) (sN σ 4 0 (gN σ 4 0 + 1)) (mTk0 μ) := by
  obtain ⟨h1, h2, h3, ⟨fs, qs, hs, rs, r⟩, h5⟩ := h
  have em : Em [0, 8] μ (mTk0 μ) := (emN_2 μ _ _).seq (emN_34 _ _ _) (by decide)
  have e0 : Ex [0] σ (sN σ 4 0 (gN σ 4 0 + 1)) := exN_4 σ 0 (gN σ 4 0 + 1)
  have kK : uK (mTk0 μ) = uK μ := em 9 (by decide)
  have hI : Inv nw (sN μ 2 0 (gN μ 2 0 + 1)) := inv_items h5 (emN_2 μ 0 _) ⟨Nat.le_refl _, fun _ z => ⟨z, rfl, rfl, rfl⟩, fun _ z => ⟨z, rfl⟩⟩ h5.1
  refine ⟨wf_N (by decide) h1, h2.of rfl rfl rfl, wfm_Tk0 h3, ⟨fs, qs, hs, rs, ?_⟩, inv_step hI (emN_34 (sN μ 2 0 (gN μ 2 0 + 1)) 0 0) (by decide) (by decide) (Or.inl (by decide)) (Or.inl (by decide)) (Or.inl (by decide)) (Or.inl (by decide))⟩
  refine ⟨ri_of r.it r.hv r.vl r.pg r.lf r.rg r.na (congrArg (· + 1) r.tm), ?_, ?_, ?_, ?_, ?_, ?_, ?_, rfl, ?_⟩
  · rw [kK, show vF _ = vF σ from e0 1 (by decide), show uF (mTk0 μ) = uF μ from em 1 (by decide)]; exact r.F
  · rw [show vD _ = vD σ from e0 2 (by decide), show uD (mTk0 μ) = uD μ from em 2 (by decide)]; exact r.D
  · rw [kK, show vR _ = vR σ from e0 3 (by decide), show uR (mTk0 μ) = uR μ from em 3 (by decide)]; exact r.R
  · rw [kK, show vQ _ = vQ σ from e0 4 (by decide), show uQ (mTk0 μ) = uQ μ from em 4 (by decide)]; exact r.Q
  · rw [kK, show vL _ = vL σ from e0 5 (by decide), show uL (mTk0 μ) = uL μ from em 5 (by decide)]; exact r.L
  · rw [kK, show vW _ = vW σ from e0 6 (by decide), show uW (mTk0 μ) = uW μ from em 6 (by decide)]; exact r.W
  · rw [show vC _ = vC σ from e0 7 (by decide), show uC (mTk0 μ) = uC μ from em 7 (by decide)]; exact r.C
  · rw [show uQ (mTk0 μ) = uQ μ from em 4 (by decide), show uL (mTk0 μ) = uL μ from em 5 (by decide)]; exact r.X
theorem q_tick (h : Sim nw b B σ μ) (hn : nw ≤ 4) (ht9 : gN σ 4 0 + 1 < 2 ^ 29) : nI (gN (lbTick σ nw) 22 1) - nI (gN σ 22 1) = nI (gN (mTick μ) 34 0) ∧ Sim nw (gN σ 22 1) (B + 64) (lbTick σ nw) (mTick μ) := by
  have hnw : gN μ 0 0 = nw := by
    obtain ⟨h1, h2, h3, ⟨fs, qs, hs, rs, r⟩, h5⟩ := h
    exact r.nw'
  have hit : gN μ 5 0 ≤ 10 := h.2.2.1.it
  have a0 := sim_tk0 h
  have a1 := sim_workN a0 hn nw (Nat.le_refl _)
  have t1 : gN (wWorkN (sN σ 4 0 (gN σ 4 0 + 1)) nw) 4 0 = gN σ 4 0 + 1 := workN_t _ _
  have a2 := sim_time a1 hn t1 ht9
  have em1 : mTk1 μ = tkW (mTk0 μ) nw := by unfold mTk1; rw [hnw]
  have em2 : mTk2 μ = if gB (tkW (mTk0 μ) nw) 100 0 = true then tkW (mTk0 μ) nw else tkL (tkE (tkW (mTk0 μ) nw) nw) 4 := by unfold mTk2; rw [em1, hnw]
  rw [← em2] at a2
  have t2 : gN (lbTick2 σ nw) 4 0 = gN σ 4 0 + 1 := (time_t _ _ _).trans t1
  have i2 : gN (mTk2 μ) 5 0 = gN μ 5 0 := (Tk2_ok h.2.2.1).2.1.2.1
  have ic : gN (lbTick2 σ nw) 31 55 = gN μ 5 0 := by
    obtain ⟨h1, h2, h3, ⟨fs, qs, hs, rs, r⟩, h5⟩ := a2
    exact r.it.trans i2
  obtain ⟨a3, -, -⟩ := sim_askN (σ := lbTick2 σ nw) a2 t2 ht9 (gN μ 5 0) (by rw [i2]; exact Nat.le_refl _)
  have el : lbTick σ nw = cAskN (lbTick2 σ nw) (gN σ 4 0 + 1) (gN μ 5 0) := by unfold lbTick; rw [ic]
  have z : Sim nw (gN σ 22 1) (B + 64) (lbTick σ nw) (mTick μ) := by
    rw [el]
    exact a3.mono (by omega)
  refine ⟨?_, z⟩
  obtain ⟨h1, h2, h3, ⟨fs, qs, hs', rs, r⟩, h5⟩ := z
  have e : gN (lbTick σ nw) 22 1 = gN σ 22 1 + gN (mTick μ) 34 0 := r.S
  rw [e, Nat.add_comm, ← nI_add, Int32.add_sub_cancel]
end TI
