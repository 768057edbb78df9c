/-! both sides at once: the server takes a question, an upload, a result -/
section SV
variable {nw b B : Nat} {σ μ σ' μ' : Sg}
theorem sim_dWrite {c d : Int32} (h : Sim nw b B σ μ) (hd : dg c = d) (hc : IsC (uI μ) c) (hf : mFind μ d = none) : Sim nw b B (dWrite σ d c) (sN (sI μ 117 (gN μ 24 0) c) 24 0 (gN μ 24 0 + 1)) := by
  have hw := wf_dWrite (d := d) (c := c) h.1
  obtain ⟨h1, h2, h3, ⟨fs, qs, hs, rs, r⟩, h5⟩ := h
  obtain ⟨d1, d2, d3, d4, d5, d6⟩ := r.D
  have d1 : gN σ 36 64 = gN μ 24 0 := d1
  have nu : ∀ j, j < gN μ 24 0 → gI μ 117 j ≠ c := fun j hj e => by
    have := of_decide_eq_false (fnd_no hf j hj)
    rw [e] at this
    exact this hd
  have nv : ∀ i, i < gN μ 24 0 → gI σ 108 i ≠ c := fun i hi e => by
    obtain ⟨j, hj, ej⟩ := d5 i (by rw [← d1] at hi; exact hi)
    exact nu j hj (by rw [← e]; exact ej)
  have inj : ∀ (f : Nat → Int32) (n : Nat), (∀ j, j < n → f j ≠ c) → (∀ i j, i < n → j < n → f i = f j → i = j) → ∀ i j, i < n + 1 → j < n + 1 → up1 f n c i = up1 f n c j → i = j := fun f n hne hin i j hi hj e => by
    by_cases c1 : i = n <;> by_cases c2 : j = n
    · omega
    · rw [c1, up1_s, up1_n _ _ c2] at e; exact absurd e.symm (hne j (by omega))
    · rw [c2, up1_s, up1_n _ _ c1] at e; exact absurd e (hne i (by omega))
    · rw [up1_n _ _ c1, up1_n _ _ c2] at e; exact hin i j (by omega) (by omega) e
  have isc : ∀ j, j < gN μ 24 0 + 1 → IsC (uI μ) (up1 (gI μ 117) (gN μ 24 0) c j) := fun j hj => by
    by_cases e : j = gN μ 24 0
    · rw [e, up1_s]; exact hc
    · rw [up1_n _ _ e]; exact h5.2.2.2.1 j (show j < gN μ 24 0 by omega)
  have cap : gN μ 24 0 < 10 := by
    have a : gN μ 24 0 + 1 ≤ gN μ 5 0 := isc_cap h5.1 (n := gN μ 24 0 + 1) isc (inj (gI μ 117) (gN μ 24 0) nu d4)
    have := h3.it
    omega
  have hqq : dWrite σ d c = sN (sI (sI σ 107 (gN μ 24 0) d) 108 (gN μ 24 0) c) 36 64 (gN μ 24 0 + 1) := by
    unfold dWrite
    rw [d1, if_pos cap]
  rw [hqq] at hw ⊢
  have em : Em [2] μ (sN (sI μ 117 (gN μ 24 0) c) 24 0 (gN μ 24 0 + 1)) := (emI_117 μ _ _).seq (emN_24 _ _ _) (by decide)
  have e117 : gI (sN (sI μ 117 (gN μ 24 0) c) 24 0 (gN μ 24 0 + 1)) 117 = up1 (gI μ 117) (gN μ 24 0) c := gI_up μ 117 _ _
  have e107 : gI (sN (sI (sI σ 107 (gN μ 24 0) d) 108 (gN μ 24 0) c) 36 64 (gN μ 24 0 + 1)) 107 = up1 (gI σ 107) (gN μ 24 0) d := gI_up σ 107 _ _
  have e108 : gI (sN (sI (sI σ 107 (gN μ 24 0) d) 108 (gN μ 24 0) c) 36 64 (gN μ 24 0 + 1)) 108 = up1 (gI σ 108) (gN μ 24 0) c := gI_up (sI σ 107 (gN μ 24 0) d) 108 _ _
  refine ⟨hw, h2.of rfl rfl rfl, wfm_24 (wfm_I h3) (by omega), ⟨fs, qs, hs, rs, ?_⟩, ?_⟩
  · refine rel_step r ((exI_107 σ _ _).seq ((exI_108 _ _ _).seq (exN_36 _ _ _) (L := [2]) (by decide)) (L := [2]) (by decide)) em (by decide) (Or.inl (by decide)) (Or.inl ⟨by decide, rfl⟩) (Or.inr ?_) (Or.inl ⟨by decide, rfl⟩) (Or.inl ⟨by decide, rfl⟩) (Or.inl ⟨by decide, rfl⟩) (Or.inl (by decide)) (Or.inl (by decide)) (Or.inl (by decide)) (Or.inl ⟨by decide, by decide⟩)
    unfold RD0 vD uD
    dsimp only
    rw [e117, e107, e108]
    show gN μ 24 0 + 1 = gN μ 24 0 + 1 ∧ (∀ i, i < gN μ 24 0 + 1 → up1 (gI σ 107) (gN μ 24 0) d i = dg (up1 (gI σ 108) (gN μ 24 0) c i)) ∧ (∀ i j, i < gN μ 24 0 + 1 → j < gN μ 24 0 + 1 → _ → _) ∧ (∀ i j, i < gN μ 24 0 + 1 → j < gN μ 24 0 + 1 → _ → _) ∧ (∀ i, i < gN μ 24 0 + 1 → ∃ j, j < gN μ 24 0 + 1 ∧ _) ∧ (∀ j, j < gN μ 24 0 + 1 → ∃ i, i < gN μ 24 0 + 1 ∧ _)
    rw [show (vD σ).1 = gN μ 24 0 from d1] at d2 d3 d5 d6
    refine ⟨rfl, fun i hi => ?_, inj (gI σ 108) (gN μ 24 0) nv d3, inj (gI μ 117) (gN μ 24 0) nu d4, fun i hi => ?_, fun j hj => ?_⟩
    · by_cases e : i = gN μ 24 0
      · rw [e, up1_s, up1_s]; exact hd.symm
      · rw [up1_n _ _ e, up1_n _ _ e]; exact d2 i (by omega)
    · by_cases e : i = gN μ 24 0
      · exact ⟨gN μ 24 0, by omega, by rw [e, up1_s, up1_s]⟩
      · obtain ⟨j, hj, ej⟩ := d5 i (by omega)
        have hj : j < gN μ 24 0 := hj
        exact ⟨j, by omega, by rw [up1_n _ _ e, up1_n _ _ (by omega)]; exact ej⟩
    · by_cases e : j = gN μ 24 0
      · exact ⟨gN μ 24 0, by omega, by rw [e, up1_s, up1_s]⟩
      · obtain ⟨i, hi, ei⟩ := d6 j (show j < gN μ 24 0 by omega)
        exact ⟨i, by omega, by rw [up1_n _ _ e, up1_n _ _ (by omega)]; exact ei⟩
  · refine inv_step h5 em (by decide) (by decide) (Or.inl (by decide)) (Or.inr (fun j hj => ?_)) (Or.inl (by decide)) (Or.inl (by decide))
    show IsC (uI μ) (gI (sN (sI μ 117 (gN μ 24 0) c) 24 0 (gN μ 24 0 + 1)) 117 j)
    rw [e117]
    exact isc j hj
theorem sim_dWrRes {q k : Nat} {d : Int32} (h : Sim nw b B σ μ) (hk : k < gN μ 14 0) (hq : kof σ q = mK3 μ k) (h0 : gB μ 112 k = false) (ho : ∃ c, d = dg c ∧ Out (mK3 μ k) c) : Sim nw b B (dWrRes σ q d) (sI (sB μ 112 k true) 113 k d) := by
  have hw := wf_dWrRes (q := q) (d := d) h.1
  obtain ⟨h1, h2, h3, ⟨fs, qs, hs, rs, r⟩, h5⟩ := h
  have ne : ∀ i, i < gN σ 37 64 → rs i ≠ k := fun i hi e => by
    have p : gB μ 112 (rs i) = true := (r.R.1 i hi).2.1
    rw [e, h0] at p
    cases p
  have cap : gN σ 37 64 < 10 := by
    have a := php (gN μ 14 0) (gN σ 37 64 + 1) (up1 rs (gN σ 37 64) k) (fun i hi => ?_) (fun i j hi hj e => ?_)
    · have := h3.ks
      omega
    · by_cases c : i = gN σ 37 64
      · rw [c, up1_s]; exact hk
      · rw [up1_n _ _ c]; exact (r.R.1 i (show i < gN σ 37 64 by omega)).1
    · by_cases c : i = gN σ 37 64 <;> by_cases d : j = gN σ 37 64
      · omega
      · rw [c, up1_s, up1_n _ _ d] at e; exact absurd e.symm (ne j (by omega))
      · rw [d, up1_s, up1_n _ _ c] at e; exact absurd e (ne i (by omega))
      · rw [up1_n _ _ c, up1_n _ _ d] at e
        exact r.R.2.1 i j (show i < gN σ 37 64 by omega) (show j < gN σ 37 64 by omega) e
  have hqq : dWrRes σ q d = sN (sI (kcopy σ (69 + gN σ 37 64) q) 110 (gN σ 37 64) d) 37 64 (gN σ 37 64 + 1) := if_pos cap
  rw [hqq] at hw ⊢
  have em : Em [3] μ (sI (sB μ 112 k true) 113 k d) := (emB_112 μ _ _).seq (emI_113 _ _ _) (by decide)
  have e112 : gB (sI (sB μ 112 k true) 113 k d) 112 = up1 (gB μ 112) k true := gB_up μ 112 _ _
  have e113 : gI (sI (sB μ 112 k true) 113 k d) 113 = up1 (gI μ 113) k d := gI_up (sB μ 112 k true) 113 _ _
  have e110 : gI (sN (sI (kcopy σ (69 + gN σ 37 64) q) 110 (gN σ 37 64) d) 37 64 (gN σ 37 64 + 1)) 110 = up1 (gI σ 110) (gN σ 37 64) d := gI_up (kcopy σ (69 + gN σ 37 64) q) 110 _ _
  refine ⟨hw, h2.of rfl rfl rfl, wfm_I (wfm_B h3), ⟨fs, qs, hs, up1 rs (gN σ 37 64) k, ?_⟩, ?_⟩
  · refine rel_step r ((ex_kR _ _ _ h1.R3 h1.Q3 (by omega)).seq ((exI_110 _ _ _).seq (exN_37 _ _ _) (L := [3]) (by decide)) (L := [3]) (by decide)) em (by decide) (Or.inl (by decide)) (Or.inl ⟨by decide, rfl⟩) (Or.inl (by decide)) (Or.inr ?_) (Or.inl ⟨by decide, rfl⟩) (Or.inl ⟨by decide, rfl⟩) (Or.inl (by decide)) (Or.inl (by decide)) (Or.inl (by decide)) (Or.inl ⟨by decide, by decide⟩)
    refine ⟨fun i hi => ?_, fun i j hi hj e => ?_, fun x hx => ?_⟩
    · have hi : i < gN σ 37 64 + 1 := hi
      show up1 rs (gN σ 37 64) k i < gN μ 14 0 ∧ gB (sI (sB μ 112 k true) 113 k d) 112 (up1 rs (gN σ 37 64) k i) = true ∧ (if i < 10 then kof (kcopy σ (69 + gN σ 37 64) q) (69 + i) else k00) = mK3 μ (up1 rs (gN σ 37 64) k i) ∧ gI (sN (sI (kcopy σ (69 + gN σ 37 64) q) 110 (gN σ 37 64) d) 37 64 (gN σ 37 64 + 1)) 110 i = gI (sI (sB μ 112 k true) 113 k d) 113 (up1 rs (gN σ 37 64) k i)
      rw [e112, e113, e110, if_pos (by omega)]
      by_cases c : i = gN σ 37 64
      · rw [c, up1_s, up1_s, up1_s, up1_s]
        refine ⟨hk, rfl, ?_, rfl⟩
        unfold kcopy
        rw [kof_s]
        exact hq
      · have hi' : i < gN σ 37 64 := by omega
        rw [up1_n _ _ c, up1_n _ _ (ne i hi'), up1_n _ _ (ne i hi'), up1_n _ _ c]
        obtain ⟨a1, a2, a3, a4⟩ := r.R.1 i hi'
        refine ⟨a1, a2, ?_, a4⟩
        unfold kcopy
        rw [kof_n _ _ _ _ (by omega), ← show (vR σ).2.1 i = kof σ (69 + i) from if_pos (by omega)]
        exact a3
    · have hi : i < gN σ 37 64 + 1 := hi
      have hj : j < gN σ 37 64 + 1 := hj
      by_cases c : i = gN σ 37 64 <;> by_cases d : j = gN σ 37 64
      · omega
      · rw [c, up1_s, up1_n _ _ d] at e; exact absurd e.symm (ne j (by omega))
      · rw [d, up1_s, up1_n _ _ c] at e; exact absurd e (ne i (by omega))
      · rw [up1_n _ _ c, up1_n _ _ d] at e
        exact r.R.2.1 i j (show i < gN σ 37 64 by omega) (show j < gN σ 37 64 by omega) e
    · have hx : gB (sI (sB μ 112 k true) 113 k d) 112 x = true := hx
      rw [e112] at hx
      show ∃ i, i < gN σ 37 64 + 1 ∧ _
      by_cases c : x = k
      · exact ⟨gN σ 37 64, by omega, by rw [up1_s, c]⟩
      · rw [up1_n _ _ c] at hx
        obtain ⟨i, hi, ei⟩ := r.R.2.2 x hx
        have hi : i < gN σ 37 64 := hi
        exact ⟨i, by omega, by rw [up1_n _ _ (by omega)]; exact ei⟩
  · refine inv_step h5 em (by decide) (by decide) (Or.inl (by decide)) (Or.inl (by decide)) (Or.inr (fun x hx => ?_)) (Or.inl (by decide))
    have hx : gB (sI (sB μ 112 k true) 113 k d) 112 x = true := hx
    rw [e112] at hx
    show x < gN μ 14 0 ∧ ∃ c, gI (sI (sB μ 112 k true) 113 k d) 113 x = dg c ∧ Out (mK3 μ x) c
    rw [e113]
    by_cases c : x = k
    · rw [c, up1_s]
      exact ⟨hk, ho⟩
    · rw [up1_n _ _ c] at hx ⊢
      exact h5.2.2.1 x hx
theorem taken_ne (hD : Dis σ) : gN σ 20 1 ≠ sendTo σ := by
  unfold sendTo
  by_cases c : gN σ 21 1 < 24
  · rw [if_pos c]; exact fun z => (hD.2.1 _ c).1 z.symm
  · rw [if_neg c]; exact hD.2.2.1
theorem sim_sAns {q k : Nat} {x d : Int32} (h : Sim nw b B σ μ) (hk : k < gN μ 14 0) (hq : kof σ q = mK3 μ k) (ho : ∃ c, Out (mK3 μ k) c ∧ d = dg c) : Sim nw b (B + 1) (sAns σ q d x) (mSend μ 6 9 k 0 x (nI 0) d) :=
  sim_send h (fs_fill h.1 6 9 q d x) (wf_ans h.1) (mm_fill (by decide) hk hq) ⟨fun z => absurd z (by decide), fun z => absurd z (by decide), fun _ => hk, fun _ => ho, fun z => absurd z (by decide), fun _ => rfl, fun z => absurd z (by decide), by decide⟩ (by decide) (by have := h.2.2.1.ks; omega) (by decide)
theorem oI_n : oI none = -1 := rfl
theorem oI_res {x : Option Nat} {i : Nat} (h : x = some i) (hi : i < 1000) : ¬ oI x = -1 := fun e => by
  rw [h] at e
  exact absurd ((oI_m1 (x := some i) (fun j hj => by cases hj; omega)).mp e) (by intro z; cases z)
theorem sim_sAsk {q k i : Nat} (h : Sim nw b B σ μ) (hn : nw ≤ 4) (hk : k < gN μ 14 0) (hq : kof σ (q + 1) = mK3 μ k) (hi : gN σ 12 q = i) (hR : Rd (uI μ) i) (hik : ik (uI μ) i = mK3 μ k) : Sim nw b (B + 1) (sAsk σ nw q) (mTkA μ k i) := by
  have hh := h
  have ki := h.ki
  obtain ⟨h1, h2, h3, ⟨fs, qs, hs, rs, r⟩, h5⟩ := h
  have hr := h1.rs
  have hqn := h1.q
  have i9 : i < 10 := by rw [← hi]; exact h1.im q
  have a7 : gI σ 7 (q + 1) = gI μ 110 k := congrArg (fun z => z.2.1) hq
  have a8 : gI σ 8 (q + 1) = gI μ 111 k := congrArg (fun z => z.2.2) hq
  unfold sAsk mTkA
  cases hb : gB μ 112 k with
  | true =>
    obtain ⟨j, ej, hj, e110⟩ := fRes_yes r.R hr ki hq hb
    rw [if_neg (oI_res ej (by omega)), if_pos rfl]
    unfold sAskH
    rw [ej, show (some j).getD 0 = j from rfl, e110]
    have e1 : dOf (sN σ 48 63 (gN σ 48 63 + 1)) (gI μ 113 k) = mOf μ (mFind μ (gI μ 113 k)) := dOf_eq r.D _
    rw [e1]
    show Sim nw b (B + 1) _ (mSend (sN μ 45 0 (gN μ 45 0 + 1)) 6 9 k 0 (mOf μ (mFind μ (gI μ 113 k))) (nI 0) (gI μ 113 k))
    refine sim_sAns (sim_hits hh rfl rfl) hk hq ?_
    obtain ⟨-, c, e, o⟩ := h5.2.2.1 k hb
    exact ⟨c, o, e⟩
  | false =>
    rw [fRes_no r.R hr hk ki hq hb, if_pos oI_n, if_neg Bool.false_ne_true, a7, a8, dHas_eq r.D, dHas_eq r.D]
    have lack : ∀ x y : Option Nat, mFind μ (gI μ 110 k) = x → mFind μ (gI μ 111 k) = y → Sim nw b (B + 1) (sLack σ q) (mSend μ 2 9 k i (oB x) (oB y) (nI 0)) := fun x y hx hy => by
      refine sim_send hh (fs_lack σ q) (wf_sLack h1) (mm_lack hi ?_ ?_) ⟨fun _ => ⟨hk, hR, hik⟩, fun z => absurd z (by decide), fun z => absurd z (by decide), fun z => absurd z (by decide), fun z => absurd z (by decide), fun _ => rfl, fun z => absurd z (by decide), by decide⟩ (by decide) (by have := h3.ks; omega) i9
      · rw [a7, dHas_eq r.D, hx]
        cases x <;> rfl
      · rw [a8, dHas_eq r.D, hy]
        cases y <;> rfl
    cases hx : mFind μ (gI μ 110 k) with
    | none => exact lack none _ hx rfl
    | some x =>
      cases hy : mFind μ (gI μ 111 k) with
      | none => exact lack (some x) none hx hy
      | some y =>
        show Sim nw b (B + 1) (if oI (fQue σ (q + 1)) = -1 then (if oI (lFind σ nw (q + 1)) = -1 then qApp σ (q + 1) else σ) else σ) (if gN μ 114 k = 0 then (if gN μ 115 k = 0 then sN (sN μ 23 0 (gN μ 23 0 + 1)) 114 k (gN μ 23 0 + 1) else μ) else μ)
        by_cases c : gN μ 114 k = 0
        · rw [fQue_no r.Q hqn hk ki hq c, if_pos oI_n, if_pos c]
          by_cases d : gN μ 115 k = 0
          · rw [lFind_no r.L hn hk ki hq d, if_pos oI_n, if_pos d]
            exact sim_qApp hh hk hq c d
          · obtain ⟨j, e, hj, -⟩ := lFind_yes r.L hn ki hq (Nat.pos_of_ne_zero d)
            rw [if_neg (oI_res e (by omega)), if_neg d]
            exact hh.mono (by omega)
        · obtain ⟨j, e, hj, -⟩ := fQue_yes r.Q hqn ki hq (Nat.pos_of_ne_zero c)
          rw [if_neg (oI_res e (by omega)), if_neg c]
          exact hh.mono (by omega)
theorem may0 {cut : Int32} (h : gN μ 49 0 = 0) : mMay μ cut = !decide (cut = nI 0) := by
  unfold mMay
  rw [h]
  have z : (nI 0).toInt = 0 := rfl
  by_cases c : cut = nI 0
  · rw [c]; rfl
  · have n : cut.toInt ≠ 0 := fun e => c (Int32.toInt_inj.mp (e.trans z.symm))
    rw [decide_eq_false c]
    by_cases d : cut < 0
    · rw [decide_eq_true d]; rfl
    · rw [decide_eq_false d, decide_eq_true (Int32.lt_iff_toInt_lt.mpr (by rw [Int32.lt_iff_toInt_lt, Int32.toInt_zero] at d; omega))]
      rfl
theorem may1 {cut : Int32} (h : gN μ 49 0 = 1) (h0 : ¬ cut = nI 0) : mMay μ cut = !decide (cut = nI 1) := by
  unfold mMay
  rw [h]
  have z : (nI 0).toInt = 0 := rfl
  have z1 : (nI 1).toInt = 1 := rfl
  have n0 : cut.toInt ≠ 0 := fun e => h0 (Int32.toInt_inj.mp (e.trans z.symm))
  by_cases c : cut = nI 1
  · rw [c]; rfl
  · have n : cut.toInt ≠ 1 := fun e => c (Int32.toInt_inj.mp (e.trans z1.symm))
    rw [decide_eq_false c]
    by_cases d : cut < 0
    · rw [decide_eq_true d]; rfl
    · rw [decide_eq_false d, decide_eq_true (Int32.lt_iff_toInt_lt.mpr (by rw [Int32.lt_iff_toInt_lt, Int32.toInt_zero] at d; omega))]
      rfl
theorem sim_sPut {q : Nat} {c g cut : Int32} (h : Sim nw b B σ μ) (h49 : gN μ 49 0 = 0) (hg : gI σ 15 q = g) (hc : gI σ 16 q = c) (hs : dg c = g) (hi : IsC (uI μ) c) : Sim nw b B (sPut σ nw q cut) (mPut μ g c cut) := by
  have hh := h
  obtain ⟨h1, h2, h3, ⟨fs, qs, hs', rs, r⟩, h5⟩ := h
  unfold sPut mPut
  rw [hg, hc, dHas_eq r.D]
  cases hf : mFind μ g with
  | some j => exact hh
  | none =>
    show Sim nw b B (if cut = 0 then sCut σ nw else sN (dWrite σ g c) 47 63 (gN σ 47 63 + 1)) (if mMay μ cut = true then _ else mMayS μ cut)
    unfold mMayS
    rw [may0 h49]
    by_cases e : cut = nI 0
    · rw [if_pos (show cut = 0 from e), decide_eq_true e]
      exact sim_cut hh
    · rw [if_neg (show ¬ cut = 0 from e), decide_eq_false e]
      show Sim nw b B _ (sN (sN (sI (sN μ 49 0 (gN μ 49 0 + 1)) 117 (gN μ 24 0) c) 24 0 (gN μ 24 0 + 1)) 44 0 (gN μ 44 0 + 1))
      exact sim_uploads (sim_dWrite (sim_49 hh _) hs hi hf) (by rw [dWrite_N _ _ _ (by decide)]) rfl
theorem kof_dWrRes {q o : Nat} {d : Int32} (h : o < 69) : kof (dWrRes σ q d) o = kof σ o := by
  unfold dWrRes
  by_cases c : gN σ 37 64 < 10
  · rw [if_pos c]
    show kof (kcopy σ (69 + gN σ 37 64) q) o = _
    unfold kcopy
    exact kof_n _ _ _ _ (by omega)
  · rw [if_neg c]
theorem kof_remI (w : Int32) (o : Nat) : kof (qRemI σ w) o = kof σ o := by
  unfold qRemI
  split <;> rfl
theorem kof_lEnd (w : Int32) (o : Nat) : kof (lEnd σ nw w) o = kof σ o := by
  unfold lEnd
  split <;> rfl
theorem sim_resF {q k : Nat} {c d : Int32} (h : Sim nw b B σ μ) (hn : nw ≤ 4) (hk : k < gN μ 14 0) (hq : kof σ (q + 1) = mK3 μ k) (hq9 : q + 1 < 69) (h0 : gB μ 112 k = false) (hd : dg c = d) (ho : Out (mK3 μ k) c) : Sim nw b (B + 1) (sResF σ nw q d c) (mResE μ k d c) := by
  have a1 := sim_dWrRes h hk hq h0 ⟨c, hd.symm, ho⟩
  have k1 : kof (dWrRes σ (q + 1) d) (q + 1) = mK3 μ k := (kof_dWrRes hq9).trans hq
  have a2 := sim_qRemI a1 hk k1
  have k2 : kof (sRes2 σ q d) (q + 1) = mK3 μ k := (kof_remI _ _).trans k1
  have a3 := sim_lEndI a2 hn hk k2
  have k3 : kof (sRes3 σ nw q d) (q + 1) = mK3 μ k := (kof_lEnd _ _).trans k2
  exact sim_sAns (μ := sN (sN (sI (sB μ 112 k true) 113 k d) 114 k 0) 115 k 0) a3 hk k3 ⟨c, ho, hd.symm⟩
theorem kof_dWrite (d c : Int32) (o : Nat) : kof (dWrite σ d c) o = kof σ o := by
  unfold dWrite
  split <;> rfl
theorem tt : true = true := rfl
theorem sim_res2 {q k : Nat} {c g cut : Int32} (h : Sim nw b B σ μ) (hn : nw ≤ 4) (h49 : gN μ 49 0 = 1) (e : ¬ cut = nI 0) (hk : k < gN μ 14 0) (hq : kof σ (q + 1) = mK3 μ k) (hq9 : q + 1 < 69) (hb : gB μ 112 k = false) (hs : dg c = g) (ho : Out (mK3 μ k) c) : Sim nw b (B + 1) (if cut = nI 1 then sCut σ nw else sResF σ nw q g c) (mRes2 μ k g c cut) := by
  unfold mRes2 mMayS
  rw [may1 h49 e]
  by_cases e1 : cut = nI 1
  · rw [if_pos e1, decide_eq_true e1, Bool.not_true, if_neg Bool.false_ne_true, if_neg Bool.false_ne_true]
    exact (sim_cut h).mono (by omega)
  · rw [if_neg e1, decide_eq_false e1, Bool.not_false, if_pos tt, if_pos tt]
    exact sim_resF (sim_49 h _) hn hk hq hq9 hb hs ho
theorem sim_sRes {q k : Nat} {c g cut : Int32} (h : Sim nw b B σ μ) (hn : nw ≤ 4) (h49 : gN μ 49 0 = 0) (hk : k < gN μ 14 0) (hq : kof σ (q + 1) = mK3 μ k) (hq9 : q + 1 < 69) (hg : gI σ 15 q = g) (hc : gI σ 16 q = c) (hs : dg c = g) (ho : Out (mK3 μ k) c) : Sim nw b (B + 1) (sRes σ nw q cut) (mRes μ k g c cut) := by
  have hh := h
  have ki := h.ki
  obtain ⟨h1, h2, h3, ⟨fs, qs, hs', rs, r⟩, h5⟩ := h
  have hr := h1.rs
  have hi : IsC (uI μ) c := by
    obtain ⟨i, a1, a2⟩ := h5.1.2.2.2.2.1 k hk
    exact ⟨i, (h5.1.2.1 i a1.1).1, Or.inr ⟨a1, by rw [a2]; exact ho⟩⟩
  unfold sRes mRes
  cases hb : gB μ 112 k with
  | true =>
    obtain ⟨j, ej, hj, -⟩ := fRes_yes r.R hr ki hq hb
    rw [if_neg (oI_res ej (by omega)), if_pos rfl]
    exact (sim_dups hh rfl rfl).mono (by omega)
  | false =>
    rw [fRes_no r.R hr hk ki hq hb, if_pos oI_n, if_neg Bool.false_ne_true, hg, hc, dHas_eq r.D]
    cases hf : mFind μ g with
    | some j =>
      show Sim nw b (B + 1) (if cut = nI 0 then sCut σ nw else sResF σ nw q g c) (mRes2 μ k g c cut)
      unfold mRes2 mMayS
      rw [may0 h49]
      by_cases e : cut = nI 0
      · rw [if_pos e, decide_eq_true e, Bool.not_true, if_neg Bool.false_ne_true, if_neg Bool.false_ne_true]
        exact (sim_cut hh).mono (by omega)
      · rw [if_neg e, decide_eq_false e, Bool.not_false, if_pos tt, if_pos tt]
        exact sim_resF (sim_49 hh _) hn hk hq hq9 hb hs ho
    | none =>
      show Sim nw b (B + 1) (if cut = nI 0 then sCut σ nw else if cut = nI 1 then sCut (dWrite σ g c) nw else sResF (dWrite σ g c) nw q g c) (if mMay μ cut = true then mRes2 (mResW μ c cut) k g c cut else mMayS μ cut)
      by_cases e : cut = nI 0
      · unfold mMayS
        rw [may0 h49, if_pos e, decide_eq_true e, Bool.not_true, if_neg Bool.false_ne_true, if_neg Bool.false_ne_true]
        exact (sim_cut hh).mono (by omega)
      · have ew : mResW μ c cut = sN (sI (sN μ 49 0 1) 117 (gN μ 24 0) c) 24 0 (gN μ 24 0 + 1) := by
          unfold mResW mMayS
          rw [may0 h49, decide_eq_false e, h49, Bool.not_false, if_pos tt]
        rw [may0 h49, if_neg e, decide_eq_false e, Bool.not_false, if_pos tt, ew]
        exact sim_res2 (sim_dWrite (sim_49 hh 1) hs hi hf) hn rfl e hk ((kof_dWrite _ _ _).trans hq) hq9 hb hs ho
end SV
