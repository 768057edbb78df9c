/-! both sides at once: crash, restart, collect -/
section CR
variable {nw b B : Nat} {σ μ : Sg} {fs qs hs rs : Nat → Nat}
theorem wk_ne {i j : Nat} (h : i ≠ j) : 100 + 2 * i ≠ 100 + 2 * j := by omega
/-- a step on one worker -/
theorem rel_worker {σ' μ' : Sg} {Z : List Nat} (r : Rel nw b σ μ fs qs hs rs) (e : Ex [6] σ σ') (m : Em [6] μ μ') (h6 : RW0 nw (vW σ') (uW μ') (uK μ)) : Rel nw b σ' μ' fs qs hs rs :=
  rel_step r e m (by decide) (Or.inl (by decide)) (Or.inl ⟨by decide, rfl⟩) (Or.inl (by decide)) (Or.inl ⟨by decide, rfl⟩) (Or.inl ⟨by decide, rfl⟩) (Or.inl ⟨by decide, rfl⟩) (Or.inr h6) (Or.inl (by decide)) (Or.inl (by decide)) (Or.inl ⟨by decide, by decide⟩)
theorem sim_wdown (h : Sim nw b B σ μ) {j : Nat} (hj : j < nw) : Sim nw b B (wDown σ (100 + 2 * j)) (mFall μ (j + 1)) := by
  have hm := wfm_fall (n := j + 1) h.2.2.1
  obtain ⟨h1, h2, h3, ⟨fs, qs, hs, rs, r⟩, h5⟩ := h
  have e3 : mFall μ (j + 1) = sN (sB μ 100 (j + 1) true) 118 (j + 1) 0 := by
    unfold mFall
    rw [if_neg (by omega)]
    refine sg_ext (fun _ _ => rfl) (fun _ _ => rfl) (fun x y => ?_) (fun _ _ => rfl)
    show (if x = 3 ∧ y = 0 then gN μ 3 0 else gN (sN (sB μ 100 (j + 1) true) 118 (j + 1) 0) x y) = _
    by_cases c : x = 3 ∧ y = 0
    · rw [if_pos c, c.1, c.2]; rfl
    · rw [if_neg c]
  rw [e3] at hm ⊢
  have em : Em [6] μ (sN (sB μ 100 (j + 1) true) 118 (j + 1) 0) := (emB_w μ j true).seq (emN_118 _ _ _) (by decide)
  refine ⟨h1, h2.of rfl rfl rfl, hm, ⟨fs, qs, hs, rs, rel_worker (Z := []) r ((exB_56 σ _ _).seq (exB_57 _ _ _) (by decide)) em ?_⟩, inv_step h5 em (by decide) (by decide) (Or.inl (by decide)) (Or.inl (by decide)) (Or.inl (by decide)) (Or.inr ?_)⟩
  · intro i hi
    have ri := r.W i hi
    show gB (wDown σ (100 + 2 * j)) 56 (100 + 2 * i) = !gB (sB μ 100 (j + 1) true) 100 (i + 1) ∧ gB (wDown σ (100 + 2 * j)) 57 (100 + 2 * i) = decide (0 < gN (sN (sB μ 100 (j + 1) true) 118 (j + 1) 0) 118 (i + 1)) ∧ (gB (sB μ 100 (j + 1) true) 100 (i + 1) = true → gN (sN (sB μ 100 (j + 1) true) 118 (j + 1) 0) 118 (i + 1) = 0) ∧ (0 < gN (sN (sB μ 100 (j + 1) true) 118 (j + 1) 0) 118 (i + 1) → _)
    unfold wDown
    by_cases c : i = j
    · subst c
      rw [gN_up, up1_s]
      refine ⟨?_, ?_, fun _ => rfl, fun z => absurd z (by omega)⟩
      · simp [gs]
      · simp [gs]
    · rw [gN_up, up1_n _ _ (show i + 1 ≠ j + 1 by omega), gB_up, up1_n _ _ (show i + 1 ≠ j + 1 by omega)]
      rw [gB_up, up1_n _ _ (wk_ne c), show gB (sB (sB σ 56 (100 + 2 * j) false) 57 (100 + 2 * j) false) 56 (100 + 2 * i) = gB σ 56 (100 + 2 * i) from (congrFun (gB_up σ 56 _ _) _).trans (up1_n _ _ (wk_ne c))]
      refine ⟨ri.1, ri.2.1, ri.2.2.1, fun z => ?_⟩
      have ee : (uW (sN (sB μ 100 (j + 1) true) 118 (j + 1) 0)).2.1 i = (uW μ).2.1 i := (congrFun (gN_up (sB μ 100 (j + 1) true) 118 (j + 1) 0) (i + 1)).trans (up1_n _ _ (show i + 1 ≠ j + 1 by omega))
      rw [ee]
      exact ri.2.2.2 z
  · intro i hi
    have ee : (uW (sN (sB μ 100 (j + 1) true) 118 (j + 1) 0)).2.1 i = up1 (gN μ 118) (j + 1) 0 (i + 1) := congrFun (gN_up (sB μ 100 (j + 1) true) 118 (j + 1) 0) (i + 1)
    rw [ee] at hi ⊢
    by_cases c : i = j
    · rw [c, up1_s] at hi; omega
    · rw [up1_n _ _ (show i + 1 ≠ j + 1 by omega)] at hi ⊢
      exact h5.2.2.2.2 i hi
theorem lbUp_0 (σ : Sg) (nw : Nat) : lbUp σ nw 0 = gB σ 45 63 := if_pos rfl
theorem isW_nI {j : Nat} (hj : j < nw) (hn : nw ≤ 4) : isW nw (nI (j + 1)) = true := by
  unfold isW
  rw [nI_toInt (by omega)]
  exact decide_eq_true (by omega)
theorem lbUp_w {j : Nat} (hj : j < nw) (hn : nw ≤ 4) : lbUp σ nw (nI (j + 1)) = gB σ 56 (100 + 2 * j) := by
  unfold lbUp
  rw [if_neg (wNe (by omega)), isW_nI hj hn, wIx (by omega)]
  rfl
theorem isNd_0 (nw : Nat) : isNd nw 0 = true := rfl
theorem isNd_w' {j : Nat} (hj : j < nw) (hn : nw ≤ 4) : isNd nw (nI (j + 1)) = true := by
  unfold isNd
  rw [isW_nI hj hn, Bool.or_true]
theorem mNd_0 (μ : Sg) : mNd μ 0 = true := decide_eq_true ⟨Int.le_refl _, Int.natCast_nonneg _⟩
theorem mNd_w {j : Nat} (hj : j < nw) (hn : nw ≤ 4) (hm : gN μ 0 0 = nw) : mNd μ (nI (j + 1)) = true := by
  unfold mNd
  rw [nI_toInt (by omega), hm]
  exact decide_eq_true (by omega)
theorem q_crash (h : Sim nw b B σ μ) (hn : nw ≤ 4) (x : Int32) : lbCrB σ nw x = mCrB μ x ∧ Sim nw b B (lbCrash σ nw x) (mCrash μ x) := by
  have hh := h
  obtain ⟨h1, h2, h3, ⟨fs, qs, hs, rs, r⟩, h5⟩ := h
  unfold lbCrash mCrash lbCrB mCrB
  rcases node_cases hn r.nw' x with rfl | ⟨j, hj, rfl⟩ | ⟨e1, e2⟩
  · rw [isNd_0, lbUp_0, mNd_0, r.su, show (0 : Int32).toNatClampNeg = 0 from rfl]
    refine ⟨rfl, ?_⟩
    cases gB μ 100 0 with
    | true => exact hh
    | false => exact sim_down hh
  · have u1 : gB σ 56 (100 + 2 * j) = !gB μ 100 (j + 1) := (r.W j hj).1
    rw [isNd_w' hj hn, lbUp_w hj hn, mNd_w hj hn r.nw', u1, nI_clamp (by omega), if_neg (wNe (by omega)), wIx (by omega)]
    refine ⟨rfl, ?_⟩
    cases gB μ 100 (j + 1) with
    | true => exact hh
    | false => exact sim_wdown hh hj
  · rw [e1, e2]
    exact ⟨rfl, hh⟩
theorem sim_up (h : Sim nw b B σ μ) : Sim nw b B (sB σ 45 63 true) (sB μ 100 0 false) := by
  obtain ⟨h1, h2, h3, ⟨fs, qs, hs, rs, r⟩, h5⟩ := h
  refine ⟨h1, h2.of rfl rfl rfl, h3, ⟨fs, qs, hs, rs, ?_⟩, inv_step h5 (emB_0 μ false) (by decide) (by decide) (Or.inl (by decide)) (Or.inl (by decide)) (Or.inl (by decide)) (Or.inl (by decide))⟩
  exact rel_step r (exB_45 σ _ _) (emB_0 μ false) (by decide) (Or.inl (by decide)) (Or.inl ⟨by decide, rfl⟩) (Or.inl (by decide)) (Or.inl ⟨by decide, rfl⟩) (Or.inl ⟨by decide, rfl⟩) (Or.inl ⟨by decide, rfl⟩) (Or.inl (by decide)) (Or.inr (rc_of r.ln rfl r.c1 r.c2 r.c3 r.c4 r.c5 r.c6 r.nw')) (Or.inl (by decide)) (Or.inl ⟨by decide, by decide⟩)
theorem sim_wup (h : Sim nw b B σ μ) {j : Nat} (hj : j < nw) : Sim nw b B (sB σ 56 (100 + 2 * j) true) (sB μ 100 (j + 1) false) := by
  obtain ⟨h1, h2, h3, ⟨fs, qs, hs, rs, r⟩, h5⟩ := h
  refine ⟨h1, h2.of rfl rfl rfl, h3, ⟨fs, qs, hs, rs, rel_worker (Z := []) r (exB_56 σ _ _) (emB_w μ j false) ?_⟩, inv_step h5 (emB_w μ j false) (by decide) (by decide) (Or.inl (by decide)) (Or.inl (by decide)) (Or.inl (by decide)) (Or.inr h5.2.2.2.2)⟩
  intro i hi
  have ri := r.W i hi
  show gB (sB σ 56 (100 + 2 * j) true) 56 (100 + 2 * i) = !gB (sB μ 100 (j + 1) false) 100 (i + 1) ∧ _ ∧ (gB (sB μ 100 (j + 1) false) 100 (i + 1) = true → _) ∧ _
  rw [gB_up, gB_up]
  by_cases c : i = j
  · subst c
    rw [up1_s, up1_s]
    exact ⟨rfl, ri.2.1, fun z => absurd z (by decide), ri.2.2.2⟩
  · rw [up1_n _ _ (wk_ne c), up1_n _ _ (show i + 1 ≠ j + 1 by omega)]
    exact ri
theorem q_restart (h : Sim nw b B σ μ) (hn : nw ≤ 4) (x : Int32) : lbReB σ nw x = mReB μ x ∧ Sim nw b B (lbRest σ nw x) (mRest μ x) := by
  have hh := h
  obtain ⟨h1, h2, h3, ⟨fs, qs, hs, rs, r⟩, h5⟩ := h
  unfold lbRest mRest lbReB mReB
  rcases node_cases hn r.nw' x with rfl | ⟨j, hj, rfl⟩ | ⟨e1, e2⟩
  · rw [isNd_0, lbUp_0, mNd_0, r.su, show (0 : Int32).toNatClampNeg = 0 from rfl, Bool.not_not]
    refine ⟨rfl, ?_⟩
    cases gB μ 100 0 with
    | false => exact hh
    | true => exact sim_up hh
  · have u1 : gB σ 56 (100 + 2 * j) = !gB μ 100 (j + 1) := (r.W j hj).1
    rw [isNd_w' hj hn, lbUp_w hj hn, mNd_w hj hn r.nw', u1, nI_clamp (by omega), if_neg (wNe (by omega)), wIx (by omega), Bool.not_not]
    refine ⟨rfl, ?_⟩
    cases gB μ 100 (j + 1) with
    | false => exact hh
    | true => exact sim_wup hh hj
  · rw [e1, e2]
    exact ⟨rfl, hh⟩
end CR
