/-! both sides at once: the client's keys, questions, uploads -/
section CL
variable {nw b B : Nat} {σ μ : Sg}
theorem rdy_rd {i : Nat} (h : mRdy μ i = true) : Rd (uI μ) i ∧ gB μ 105 i = false := by
  unfold mRdy at h
  rw [Bool.and_eq_true, Bool.and_eq_true, Bool.and_eq_true] at h
  exact ⟨⟨h.1, h.2.2.1, h.2.2.2⟩, by simpa using h.2.1⟩
theorem rd_rdy {i : Nat} (h : Rd (uI μ) i) (hu : gB μ 105 i = false) : mRdy μ i = true := by
  have a : gB μ 101 i = true := h.1
  have c : gB μ 105 (gN μ 103 i) = true := h.2.1
  have d : gB μ 105 (gN μ 104 i) = true := h.2.2
  unfold mRdy
  rw [a, c, d, hu]
  rfl
theorem key_at {i : Nat} : mKeyR μ i < gN (mKeyS μ i) 14 0 ∧ mK3 (mKeyS μ i) (mKeyR μ i) = mIK μ i := by
  unfold mKeyS mKeyR
  cases hk : fKey μ i with
  | some k => exact ⟨(fnd_spec hk).1, of_decide_eq_true (fnd_spec hk).2.1⟩
  | none =>
    refine ⟨Nat.lt_succ_self _, ?_⟩
    show mK3 (sN (sI (sI (sJ μ 109 (gN μ 14 0) (gJ μ 102 i)) 110 (gN μ 14 0) (dg (gI μ 106 (gN μ 103 i)))) 111 (gN μ 14 0) (dg (gI μ 106 (gN μ 104 i)))) 14 0 (gN μ 14 0 + 1)) (gN μ 14 0) = _
    simp [mK3, mIK, gs]
theorem sim_key {i : Nat} (h : Sim nw b B σ μ) (hr : mRdy μ i = true) : Sim nw b B σ (mKeyS μ i) := by
  obtain ⟨h1, h2, h3, ⟨fs, qs, hs, rs, r⟩, h5⟩ := h
  have hR := (rdy_rd hr).1
  have hi : i < gN μ 5 0 := (h5.1.2.1 i hR.1).1
  have hK := inv_kinv h5
  have m := em_key μ i
  have g := key_kg μ i
  have eI : uI (mKeyS μ i) = uI μ := m 0 (by decide)
  refine ⟨h1, h2, wfm_key h3 (kinv_cap hK h3.it hi), ⟨fs, qs, hs, rs, rel_key r i⟩, ?_⟩
  unfold Inv
  rw [eI, show uF (mKeyS μ i) = uF μ from m 1 (by decide), show uR (mKeyS μ i) = uR μ from m 3 (by decide), show uD (mKeyS μ i) = uD μ from m 2 (by decide), show uW (mKeyS μ i) = uW μ from m 6 (by decide)]
  refine ⟨⟨h5.1.1, h5.1.2.1, h5.1.2.2.1, h5.1.2.2.2.1, fun k hk => ?_, (kinv_key hK hi hr).2⟩, h5.2.1.gr (GI.rf _) g, h5.2.2.1.kg g, h5.2.2.2.1, h5.2.2.2.2.kg g⟩
  by_cases c : k < gN μ 14 0
  · obtain ⟨j, a1, a2⟩ := h5.1.2.2.2.2.1 k c
    exact ⟨j, a1, by rw [g.2 k c]; exact a2⟩
  · refine ⟨i, hR, ?_⟩
    have hk : k < gN (mKeyS μ i) 14 0 := hk
    obtain ⟨x1, x2⟩ := key_at (μ := μ) (i := i)
    have ek : k = mKeyR μ i := by
      unfold mKeyS at hk
      unfold mKeyR
      cases e : fKey μ i with
      | some y =>
        rw [e] at hk
        exact absurd hk c
      | none =>
        rw [e] at hk
        have hk : k < gN μ 14 0 + 1 := hk
        show k = gN μ 14 0
        omega
    show ik (uI μ) i = mK3 (mKeyS μ i) k
    rw [ek, x2]
    rfl
/-- the hour of a question -/
theorem sim_asked {i t : Nat} (h : Sim nw b B σ μ) (ht : gN σ 4 0 = t) (ht9 : t < 2 ^ 29) : Sim nw b B (sN σ 106 i (t + 5)) (sN (sB μ 107 i true) 108 i (gN μ 2 0)) := by
  obtain ⟨h1, h2, h3, ⟨fs, qs, hs, rs, r⟩, h5⟩ := h
  have em : Em [0] μ (sN (sB μ 107 i true) 108 i (gN μ 2 0)) := (emB_107 μ _ _).seq (emN_108 _ _ _) (by decide)
  refine ⟨wf_106 h1 (by omega), h2.of rfl rfl rfl, wfm_108 (wfm_B h3) (Nat.le_refl _), ⟨fs, qs, hs, rs, rel_items (Z := []) r (exN_106 σ _ _) em ?_⟩, inv_items h5 em ⟨Nat.le_refl _, fun _ z => ⟨z, rfl, rfl, rfl⟩, fun _ z => ⟨z, rfl⟩⟩ h5.1⟩
  refine ri_of r.it r.hv r.vl r.pg r.lf r.rg ?_ r.tm
  show gN (sN σ 106 i (t + 5)) 106 = fun j => if gB (sB μ 107 i true) 107 j = true then gN (sN (sB μ 107 i true) 108 i (gN μ 2 0)) 108 j + 5 else 0
  rw [gN_up, gB_up, gN_up]
  funext j
  by_cases c : j = i
  · rw [c, up1_s, up1_s, up1_s, if_pos rfl, ← ht, r.tm]
  · rw [up1_n _ _ c, up1_n _ _ c, up1_n _ _ c, r.na]
    rfl
theorem sim_ask {i t : Nat} (h : Sim nw b B σ μ) (hr : mRdy μ i = true) (ht : gN σ 4 0 = t) (ht9 : t < 2 ^ 29) : Sim nw b (B + 1) (cAsk σ i t) (mAsk μ i) := by
  have a := sim_key h hr
  have hR := (rdy_rd hr).1
  obtain ⟨h1, h2, h3, ⟨fs, qs, hs, rs, r⟩, h5⟩ := h
  have hi : i < gN μ 5 0 := (h5.1.2.1 i hR.1).1
  have hit := h3.it
  obtain ⟨x1, x2⟩ := key_at (μ := μ) (i := i)
  have eI : uI (mKeyS μ i) = uI μ := em_key μ i 0 (by decide)
  have hkk : mKeyR μ i < 10 := Nat.lt_of_lt_of_le x1 a.2.2.1.ks
  have s := sim_send (a := 1) (b' := 0) (k := mKeyR μ i) (i := i) (c := nI 0) (d := nI 0) (g := nI 0) a (fs_ask h1 i) (show Wf nw (cAsk0 σ i) from wf_key (wf_12 (wf_send h1 (by decide) (by decide)) (by omega))) (mm_ask (K := uK (mKeyS μ i)) rfl rfl x1 (x2.trans (by
      unfold mIK
      rw [r.pg, r.vl, r.lf, r.rg]))) ⟨fun _ => ⟨x1, by rw [eI]; exact hR, by rw [eI]; exact x2.symm⟩, fun z => absurd z (by decide), fun z => absurd z (by decide), fun z => absurd z (by decide), fun _ => rfl, fun z => absurd z (by decide), fun z => absurd z (by decide), by decide⟩ (by decide) hkk (by omega)
  have e4 : gN (cAsk0 σ i) 4 0 = t := by
    rw [← ht]
    exact send_N σ 1 0 (by decide) 0
  have z := sim_asked (i := i) s e4 ht9
  have e2 : gN (mSend (mKeyS μ i) 1 0 (mKeyR μ i) i (nI 0) (nI 0) (nI 0)) 2 0 = gN μ 2 0 := (msend_N _ _ _ _ _ _ _ _ (by decide) 0).trans (mkey_N μ i (by decide) 0)
  rw [e2] at z
  exact z
theorem sim_put {c d : Int32} (h : Sim nw b B σ μ) (hd : dg c = d) (hc : IsC (uI μ) c) : Sim nw b (B + 1) (cPut σ c) (mSend μ 3 0 0 0 c (nI 0) d) :=
  sim_send h (fs_put σ c) (wf_put h.1) (mm_put hd) ⟨fun z => absurd z (by decide), fun _ => ⟨c, hc, hd.symm⟩, fun z => absurd z (by decide), fun z => absurd z (by decide), fun _ => rfl, fun z => absurd z (by decide), fun z => absurd z (by decide), by decide⟩ (by decide) (by decide) (by decide)
theorem known_lt (h5 : Inv nw μ) {i : Nat} (hi : gB μ 105 i = true) : i < gN μ 5 0 := by
  by_cases c : i < gN μ 5 0
  · exact c
  · have : gB μ 105 i = false := h5.1.2.2.1 i (show gN μ 5 0 ≤ i by omega)
    rw [this] at hi
    cases hi
theorem known_isc (h5 : Inv nw μ) {i : Nat} (hi : gB μ 105 i = true) : IsC (uI μ) (gI μ 106 i) := ⟨i, known_lt h5 hi, Or.inl ⟨hi, rfl⟩⟩
theorem put_t (σ : Sg) (c : Int32) : gN (cPut σ c) 4 0 = gN σ 4 0 := send_N σ 3 0 (by decide) 0
theorem mRdy_send (s : Sg) (a b k i : Nat) (c d g : Int32) (j : Nat) : mRdy (mSend s a b k i c d g) j = mRdy s j := by
  unfold mRdy
  rw [msend_B, msend_B, msend_B, msend_B, msend_N _ _ _ _ _ _ _ _ (by decide), msend_N _ _ _ _ _ _ _ _ (by decide)]
theorem sim_cLack {q i t : Nat} {x y : Int32} (h : Sim nw b B σ μ) (hi : gN σ 12 q = i) (hx : gB σ 13 q = decide (x = nI 1)) (hy : gB σ 14 q = decide (y = nI 1)) (hR : Rd (uI μ) i) (ht : gN σ 4 0 = t) (ht9 : t < 2 ^ 29) : Sim nw b (B + 3) (cLack σ q t) (mLk μ i x y) := by
  have hh := h
  obtain ⟨h1, h2, h3, ⟨fs, qs, hs, rs, r⟩, h5⟩ := h
  have hit := h3.it
  have hi5 : i < gN μ 5 0 := (h5.1.2.1 i hR.1).1
  unfold cLack mLk
  rw [hi, r.it, inR_nI (by omega), if_pos (decide_eq_true hi5), r.hv]
  by_cases ck : gB μ 105 i = true
  · rw [if_pos ck, if_pos ck]
    exact hh.mono (by omega)
  · rw [if_neg ck, if_neg ck]
    have hu : gB μ 105 i = false := by simpa using ck
    have c1 : IsC (uI μ) (gI μ 106 (gN μ 103 i)) := known_isc h5 hR.2.1
    have c2 : IsC (uI μ) (gI μ 106 (gN μ 104 i)) := known_isc h5 hR.2.2
    have s1 : Sim nw b (B + 1) (cLk1 σ q) (mLk1 μ i x) ∧ gN (cLk1 σ q) 4 0 = t ∧ uI (mLk1 μ i x) = uI μ ∧ mRdy (mLk1 μ i x) i = mRdy μ i := by
      unfold cLk1 mLk1
      rw [hx, hi, r.vl, r.lf]
      by_cases e : x = nI 1
      · rw [if_pos (decide_eq_true e), if_pos e]
        exact ⟨sim_put hh rfl c1, (put_t _ _).trans ht, em_send _ _ _ _ _ _ _ _ 0 (by decide), mRdy_send _ _ _ _ _ _ _ _ _⟩
      · rw [if_neg (by simpa using e), if_neg e]
        exact ⟨hh.mono (by omega), ht, rfl, rfl⟩
    have s2 : Sim nw b (B + 2) (cLk2 σ q) (mLk2 μ i x y) ∧ gN (cLk2 σ q) 4 0 = t ∧ mRdy (mLk2 μ i x y) i = mRdy μ i := by
      unfold cLk2 mLk2
      rw [hy, hi, r.vl, r.rg]
      by_cases e : y = nI 1
      · rw [if_pos (decide_eq_true e), if_pos e]
        exact ⟨sim_put s1.1 rfl (by rw [s1.2.2.1]; exact c2), (put_t _ _).trans s1.2.1, (mRdy_send _ _ _ _ _ _ _ _ _).trans s1.2.2.2⟩
      · rw [if_neg (by simpa using e), if_neg e]
        exact ⟨s1.1.mono (by omega), s1.2.1, s1.2.2.2⟩
    exact sim_ask s2.1 (s2.2.2.trans (rd_rdy hR hu)) s2.2.1 ht9
end CL
