/-! both sides at once: file, action, crash, restart -/
section FA
variable {nw b B : Nat} {σ μ : Sg} {fs qs hs rs : Nat → Nat}
/-- a step on items alone -/
theorem rel_items {σ' μ' : Sg} {Z : List Nat} (r : Rel nw b σ μ fs qs hs rs) (e : Ex [0] σ σ') (m : Em [0] μ μ') (h0 : RI0 (vI σ') (uI μ')) : Rel nw b σ' μ' fs qs hs rs :=
  rel_step r e m (by decide) (Or.inr h0) (Or.inl ⟨by decide, rfl⟩) (Or.inl (by decide)) (Or.inl ⟨by decide, rfl⟩) (Or.inl ⟨by decide, rfl⟩) (Or.inl ⟨by decide, rfl⟩) (Or.inl (by decide)) (Or.inl (by decide)) (Or.inl (by decide)) (Or.inl ⟨by decide, by decide⟩)
theorem inv_items {μ' : Sg} (h : Inv nw μ) (m : Em [0] μ μ') (g : GI (uI μ) (uI μ')) (hc : IC (uI μ') (uK μ)) : Inv nw μ' := by
  unfold Inv
  rw [show uK μ' = uK μ from m 9 (by decide), show uF μ' = uF μ from m 1 (by decide), show uR μ' = uR μ from m 3 (by decide), show uD μ' = uD μ from m 2 (by decide), show uW μ' = uW μ from m 6 (by decide)]
  exact ⟨hc, h.2.1.gr g (KG.rf _), h.2.2.1, h.2.2.2.1.gi g, h.2.2.2.2⟩
theorem q_file (h : Sim nw b B σ μ) (c : Int32) : (if gN σ 31 55 < 10 then nI (gN σ 31 55) else -1) = (if gN μ 5 0 < 10 then nI (gN μ 5 0) else -1) ∧ Sim nw b B (cFile σ c) (mFile μ c) := by
  have hw := wf_file (c := c) h.1
  have hm := wfm_file (c := c) h.2.2.1
  obtain ⟨h1, h2, h3, ⟨fs, qs, hs, rs, r⟩, h5⟩ := h
  refine ⟨by rw [r.it], ?_⟩
  unfold cFile at hw ⊢
  unfold mFile at hm ⊢
  rw [r.it] at hw ⊢
  by_cases q : gN μ 5 0 < 10
  · rw [if_pos q] at hw hm ⊢
    rw [if_pos q]
    have em : Em [0] μ (sN (sI (sB μ 105 (gN μ 5 0) true) 106 (gN μ 5 0) c) 5 0 (gN μ 5 0 + 1)) := (emB_105 μ _ _).seq ((emI_106 _ _ _).seq (emN_5 _ _ _) (L := [0]) (by decide)) (by decide)
    have eB : gB (sN (sI (sB μ 105 (gN μ 5 0) true) 106 (gN μ 5 0) c) 5 0 (gN μ 5 0 + 1)) 105 = up1 (gB μ 105) (gN μ 5 0) true := gB_up μ 105 _ _
    have eI : gI (sN (sI (sB μ 105 (gN μ 5 0) true) 106 (gN μ 5 0) c) 5 0 (gN μ 5 0 + 1)) 106 = up1 (gI μ 106) (gN μ 5 0) c := gI_up (sB μ 105 (gN μ 5 0) true) 106 _ _
    refine ⟨hw, h2.of rfl rfl rfl, hm, ⟨fs, qs, hs, rs, rel_items (Z := []) r ((exB_101 σ _ _).seq ((exI_102 _ _ _).seq (exN_31 _ _ _) (L := [0]) (by decide)) (by decide)) em ?_⟩, inv_items h5 em ?_ ?_⟩
    · refine ri_of rfl ?_ ?_ r.pg r.lf r.rg r.na r.tm
      · show gB (sB σ 101 (gN μ 5 0) true) 101 = gB (sB μ 105 (gN μ 5 0) true) 105
        rw [gB_up, gB_up, r.hv]
      · show gI (sI (sB σ 101 (gN μ 5 0) true) 102 (gN μ 5 0) c) 102 = gI (sI (sB μ 105 (gN μ 5 0) true) 106 (gN μ 5 0) c) 106
        rw [gI_up, gI_up]
        show up1 (gI σ 102) (gN μ 5 0) c = up1 (gI μ 106) (gN μ 5 0) c
        rw [r.vl]
    · have g3 : ∀ i, gB μ 105 i = true → i ≠ gN μ 5 0 := fun i hi e => by
        have : gB μ 105 i = false := h5.1.2.2.1 i (by rw [e]; exact Nat.le_refl _)
        rw [this] at hi; cases hi
      refine ⟨Nat.le_succ _, fun i hi => ⟨hi, rfl, rfl, rfl⟩, fun i hi => ?_⟩
      have hi : gB μ 105 i = true := hi
      show gB (sN (sI (sB μ 105 (gN μ 5 0) true) 106 (gN μ 5 0) c) 5 0 (gN μ 5 0 + 1)) 105 i = true ∧ gI (sN (sI (sB μ 105 (gN μ 5 0) true) 106 (gN μ 5 0) c) 5 0 (gN μ 5 0 + 1)) 106 i = gI μ 106 i
      rw [eB, eI, up1_n _ _ (g3 i hi), up1_n _ _ (g3 i hi)]
      exact ⟨hi, rfl⟩
    · have g3 : ∀ i, gB μ 105 i = true → i ≠ gN μ 5 0 := fun i hi e => by
        have : gB μ 105 i = false := h5.1.2.2.1 i (by rw [e]; exact Nat.le_refl _)
        rw [this] at hi; cases hi
      have g : GI (uI μ) (uI (sN (sI (sB μ 105 (gN μ 5 0) true) 106 (gN μ 5 0) c) 5 0 (gN μ 5 0 + 1))) := by
        refine ⟨Nat.le_succ _, fun i hi => ⟨hi, rfl, rfl, rfl⟩, fun i hi => ?_⟩
        have hi : gB μ 105 i = true := hi
        show gB (sN (sI (sB μ 105 (gN μ 5 0) true) 106 (gN μ 5 0) c) 5 0 (gN μ 5 0 + 1)) 105 i = true ∧ gI (sN (sI (sB μ 105 (gN μ 5 0) true) 106 (gN μ 5 0) c) 5 0 (gN μ 5 0 + 1)) 106 i = gI μ 106 i
        rw [eB, eI, up1_n _ _ (g3 i hi), up1_n _ _ (g3 i hi)]
        exact ⟨hi, rfl⟩
      obtain ⟨j1, j2, j3, j4, j5, j6⟩ := h5.1
      refine ⟨fun i hi => ?_, fun i hi => ?_, fun i hi => ?_, fun i hi hh => ?_, fun k hk => ?_, j6⟩
      · have hi : i < gN μ 5 0 + 1 := hi
        show gB (sN (sI (sB μ 105 (gN μ 5 0) true) 106 (gN μ 5 0) c) 5 0 (gN μ 5 0 + 1)) 105 i = true ∨ gB μ 101 i = true
        rw [eB]
        by_cases e : i = gN μ 5 0
        · left; rw [e, up1_s]
        · rw [up1_n _ _ e]; exact j1 i (show i < gN μ 5 0 by omega)
      · have := j2 i hi
        have a : i < gN μ 5 0 := this.1
        exact ⟨show i < gN μ 5 0 + 1 by omega, this.2⟩
      · have hi : gN μ 5 0 + 1 ≤ i := hi
        show gB (sN (sI (sB μ 105 (gN μ 5 0) true) 106 (gN μ 5 0) c) 5 0 (gN μ 5 0 + 1)) 105 i = false
        rw [eB, up1_n _ _ (by omega)]
        exact j3 i (show gN μ 5 0 ≤ i by omega)
      · have hi : gB μ 101 i = true := hi
        have lt : i < gN μ 5 0 := (j2 i hi).1
        have hh : gB (sN (sI (sB μ 105 (gN μ 5 0) true) 106 (gN μ 5 0) c) 5 0 (gN μ 5 0 + 1)) 105 i = true := hh
        rw [eB, up1_n _ _ (by omega)] at hh
        obtain ⟨a1, a2⟩ := j4 i hi hh
        refine ⟨(a1.gi g).1, ?_⟩
        rw [(a1.gi g).2]
        show Out (ik (uI μ) i) (gI (sN (sI (sB μ 105 (gN μ 5 0) true) 106 (gN μ 5 0) c) 5 0 (gN μ 5 0 + 1)) 106 i)
        rw [eI, up1_n _ _ (by omega)]
        exact a2
      · obtain ⟨i, a1, a2⟩ := j5 k hk
        exact ⟨i, (a1.gi g).1, by rw [(a1.gi g).2]; exact a2⟩
  · rw [if_neg q, if_neg q]
    exact ⟨h1, h2, h3, ⟨fs, qs, hs, rs, r⟩, h5⟩
theorem q_action (h : Sim nw b B σ μ) (p : Int64) (x y : Int32) : (if cActOk σ x y = true then nI (gN σ 31 55) else -1) = (if mActOk μ x y = true then nI (gN μ 5 0) else -1) ∧ Sim nw b B (cAct σ p x y) (mAct μ p x y) := by
  have hw := wf_act (p := p) (a := x) (b := y) h.1
  have hm := wfm_act (p := p) (a := x) (b := y) h.2.2.1
  obtain ⟨h1, h2, h3, ⟨fs, qs, hs, rs, r⟩, h5⟩ := h
  have ok : cActOk σ x y = mActOk μ x y := by unfold cActOk mActOk; rw [r.it]
  refine ⟨by rw [ok, r.it], ?_⟩
  unfold cAct at hw ⊢
  unfold mAct at hm ⊢
  rw [ok, r.it] at hw ⊢
  cases q : mActOk μ x y with
  | false => exact ⟨h1, h2, h3, ⟨fs, qs, hs, rs, r⟩, h5⟩
  | true =>
    rw [q, if_pos rfl] at hw hm
    rw [if_pos rfl, if_pos rfl]
    unfold mActOk at q
    rw [Bool.and_eq_true, Bool.and_eq_true] at q
    have it := h3.it
    obtain ⟨i, hi, rfl⟩ := inR_of (by omega) q.2.1
    obtain ⟨j, hj, rfl⟩ := inR_of (by omega) q.2.2
    rw [nI_clamp (by omega), nI_clamp (by omega)] at hw hm ⊢
    have em : Em [0] μ (sN (sN (sN (sJ (sB μ 101 (gN μ 5 0) true) 102 (gN μ 5 0) p) 103 (gN μ 5 0) i) 104 (gN μ 5 0) j) 5 0 (gN μ 5 0 + 1)) := (emB_101 μ _ _).seq ((emJ_102 _ _ _).seq ((emN_103 _ _ _).seq ((emN_104 _ _ _).seq (emN_5 _ _ _) (L := [0]) (by decide)) (L := [0]) (by decide)) (L := [0]) (by decide)) (by decide)
    have fB : iB (uI (sN (sN (sN (sJ (sB μ 101 (gN μ 5 0) true) 102 (gN μ 5 0) p) 103 (gN μ 5 0) i) 104 (gN μ 5 0) j) 5 0 (gN μ 5 0 + 1))) = up1 (gB μ 101) (gN μ 5 0) true := gB_up μ 101 _ _
    have fP : iP (uI (sN (sN (sN (sJ (sB μ 101 (gN μ 5 0) true) 102 (gN μ 5 0) p) 103 (gN μ 5 0) i) 104 (gN μ 5 0) j) 5 0 (gN μ 5 0 + 1))) = up1 (gJ μ 102) (gN μ 5 0) p := gJ_up (sB μ 101 (gN μ 5 0) true) 102 _ _
    have fL : iL (uI (sN (sN (sN (sJ (sB μ 101 (gN μ 5 0) true) 102 (gN μ 5 0) p) 103 (gN μ 5 0) i) 104 (gN μ 5 0) j) 5 0 (gN μ 5 0 + 1))) = up1 (gN μ 103) (gN μ 5 0) i := gN_up (sJ (sB μ 101 (gN μ 5 0) true) 102 (gN μ 5 0) p) 103 _ _
    have fR : iR (uI (sN (sN (sN (sJ (sB μ 101 (gN μ 5 0) true) 102 (gN μ 5 0) p) 103 (gN μ 5 0) i) 104 (gN μ 5 0) j) 5 0 (gN μ 5 0 + 1))) = up1 (gN μ 104) (gN μ 5 0) j := gN_up (sN (sJ (sB μ 101 (gN μ 5 0) true) 102 (gN μ 5 0) p) 103 (gN μ 5 0) i) 104 _ _
    obtain ⟨j1, j2, j3, j4, j5, j6⟩ := h5.1
    have g : GI (uI μ) (uI (sN (sN (sN (sJ (sB μ 101 (gN μ 5 0) true) 102 (gN μ 5 0) p) 103 (gN μ 5 0) i) 104 (gN μ 5 0) j) 5 0 (gN μ 5 0 + 1))) := by
      refine ⟨Nat.le_succ _, fun t ht => ?_, fun t ht => ⟨ht, rfl⟩⟩
      have lt : t < gN μ 5 0 := (j2 t ht).1
      rw [fB, fP, fL, fR, up1_n _ _ (by omega), up1_n _ _ (by omega), up1_n _ _ (by omega), up1_n _ _ (by omega)]
      exact ⟨ht, rfl, rfl, rfl⟩
    refine ⟨hw, h2.of rfl rfl rfl, hm, ⟨fs, qs, hs, rs, rel_items (Z := []) r ((exJ_103 σ _ _).seq ((exN_104 _ _ _).seq ((exN_105 _ _ _).seq (exN_31 _ _ _) (L := [0]) (by decide)) (L := [0]) (by decide)) (by decide)) em ?_⟩, inv_items h5 em g ?_⟩
    · refine ri_of rfl r.hv r.vl ?_ ?_ ?_ r.na r.tm
      · show gJ (sJ σ 103 (gN μ 5 0) p) 103 = gJ (sJ (sB μ 101 (gN μ 5 0) true) 102 (gN μ 5 0) p) 102
        rw [gJ_up, gJ_up, r.pg]; rfl
      · show gN (sN (sJ σ 103 (gN μ 5 0) p) 104 (gN μ 5 0) i) 104 = gN (sN (sJ (sB μ 101 (gN μ 5 0) true) 102 (gN μ 5 0) p) 103 (gN μ 5 0) i) 103
        rw [gN_up, gN_up]
        show up1 (gN σ 104) _ _ = up1 (gN μ 103) _ _
        rw [r.lf]
      · show gN (sN (sN (sJ σ 103 (gN μ 5 0) p) 104 (gN μ 5 0) i) 105 (gN μ 5 0) j) 105 = gN (sN (sN (sJ (sB μ 101 (gN μ 5 0) true) 102 (gN μ 5 0) p) 103 (gN μ 5 0) i) 104 (gN μ 5 0) j) 104
        rw [gN_up, gN_up]
        show up1 (gN σ 105) _ _ = up1 (gN μ 104) _ _
        rw [r.rg]
    · refine ⟨fun t ht => ?_, fun t ht => ?_, fun t ht => ?_, fun t ht hh => ?_, fun k hk => ?_, j6⟩
      · have ht : t < gN μ 5 0 + 1 := ht
        rw [fB]
        by_cases e : t = gN μ 5 0
        · right; rw [e, up1_s]
        · rw [up1_n _ _ e]; exact j1 t (show t < gN μ 5 0 by omega)
      · rw [fB] at ht
        rw [fL, fR]
        show t < gN μ 5 0 + 1 ∧ _
        by_cases e : t = gN μ 5 0
        · rw [e, up1_s, up1_s]; exact ⟨by omega, hi, hj⟩
        · rw [up1_n _ _ e] at ht
          rw [up1_n _ _ e, up1_n _ _ e]
          have lt : t < gN μ 5 0 := (j2 t ht).1
          exact ⟨by omega, (j2 t ht).2⟩
      · have ht : gN μ 5 0 + 1 ≤ t := ht
        exact j3 t (show gN μ 5 0 ≤ t by omega)
      · rw [fB] at ht
        by_cases e : t = gN μ 5 0
        · have z : gB μ 105 t = false := j3 t (by rw [e]; exact Nat.le_refl _)
          have hh : gB μ 105 t = true := hh
          rw [z] at hh; cases hh
        · rw [up1_n _ _ e] at ht
          obtain ⟨a1, a2⟩ := j4 t ht hh
          exact ⟨(a1.gi g).1, by rw [(a1.gi g).2]; exact a2⟩
      · obtain ⟨t, a1, a2⟩ := j5 k hk
        exact ⟨t, (a1.gi g).1, by rw [(a1.gi g).2]; exact a2⟩
/-- a node: the server, a worker, or none -/
theorem node_cases (hn : nw ≤ 4) (hm : gN μ 0 0 = nw) (x : Int32) : x = 0 ∨ (∃ j, j < nw ∧ x = nI (j + 1)) ∨ (isNd nw x = false ∧ mNd μ x = false) := by
  by_cases c0 : x = 0
  · exact Or.inl c0
  · cases cw : isW nw x with
    | true => exact Or.inr (Or.inl (isW_of hn cw))
    | false =>
      refine Or.inr (Or.inr ⟨?_, ?_⟩)
      · unfold isNd; rw [cw, decide_eq_false c0]; rfl
      · unfold mNd
        refine decide_eq_false (fun z => ?_)
        rw [hm] at z
        have cw := of_decide_eq_false cw
        have : x.toInt ≠ 0 := fun e => c0 (Int32.toInt_inj.mp e)
        omega
theorem lForget_L (σ : Sg) (nw j : Nat) (hj : j < nw) : gB (lForget σ nw) 112 j = false := if_pos ⟨rfl, hj⟩
theorem sim_down (h : Sim nw b B σ μ) : Sim nw b B (sDown σ nw) (mFall μ 0) := by
  have hw := wf_down (nw := nw) h.1
  have hm := wfm_fall (n := 0) h.2.2.1
  obtain ⟨h1, h2, h3, ⟨fs, qs, hs, rs, r⟩, h5⟩ := h
  have em : Em [7, 4, 5] μ (mFall μ 0) := (emB_0 μ true).seq ((em_fl0 _ _).seq (emN_3 _ _ _) (L := [4, 5]) (by decide)) (by decide)
  have q0 : ∀ k, gN (mFall μ 0) 114 k = 0 := fun k => by
    show (if (114 = 114 ∨ 114 = 115) ∧ k < gN μ 14 0 then 0 else gN μ 114 k) = 0
    by_cases c : k < gN μ 14 0
    · rw [if_pos ⟨Or.inl rfl, c⟩]
    · rw [if_neg (fun z => c z.2)]
      refine Nat.eq_zero_of_not_pos fun p => ?_
      obtain ⟨i, hi, e⟩ := r.Q.1.2.2 k p
      have := (r.Q.2.1 i hi).1
      rw [e] at this
      exact c this
  have l0 : ∀ k, gN (mFall μ 0) 115 k = 0 := fun k => by
    show (if (115 = 114 ∨ 115 = 115) ∧ k < gN μ 14 0 then 0 else gN μ 115 k) = 0
    by_cases c : k < gN μ 14 0
    · rw [if_pos ⟨Or.inr rfl, c⟩]
    · rw [if_neg (fun z => c z.2)]
      refine Nat.eq_zero_of_not_pos fun p => ?_
      obtain ⟨j, hj, hb, e, ek⟩ := r.L.2.1 k p
      have := (r.L.1 j hj hb).1
      rw [ek] at this
      exact c this
  refine ⟨hw, h2.of rfl rfl rfl, hm, ⟨fs, qs, hs, rs, ?_⟩, ?_⟩
  · refine rel_step r ((exB_45 σ _ _).seq ((exN_39 _ _ _).seq ((ex_lFg _ _).seq (exN_54 _ _ _) (L := [5]) (by decide)) (L := [4, 5]) (by decide)) (L := [7, 4, 5]) (by decide)) em (by decide) (Or.inl (by decide)) (Or.inl ⟨by decide, rfl⟩) (Or.inl (by decide)) (Or.inl ⟨by decide, rfl⟩) (Or.inr ?_) (Or.inr ?_) (Or.inl (by decide)) (Or.inr ?_) (Or.inl (by decide)) (Or.inr ?_)
    · refine ⟨Ord.empty q0, fun i hi => absurd hi (Nat.not_lt_zero i), fun k => ?_⟩
      show gN (mFall μ 0) 114 k ≤ _
      rw [q0]; exact Nat.zero_le _
    · refine ⟨fun j hj hb => ?_, fun k hk => ?_, rfl⟩
      · have hb : gB (sDown σ nw) 112 j = true := hb
        have z : gB (sDown σ nw) 112 j = false := lForget_L _ nw j hj
        rw [z] at hb; cases hb
      · have hk : 0 < gN (mFall μ 0) 115 k := hk
        rw [l0] at hk; omega
    · exact rc_of r.ln rfl r.c1 r.c2 r.c3 r.c4 r.c5 r.c6 r.nw'
    · intro k hk
      exact l0 k
  · exact inv_step h5 em (by decide) (by decide) (Or.inl (by decide)) (Or.inl (by decide)) (Or.inl (by decide)) (Or.inl (by decide))
end FA
