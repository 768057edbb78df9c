/-! both sides at once: an answer is taken -/
section AN
variable {nw b B : Nat} {σ μ : Sg}
theorem sim_learn {j : Nat} {c : Int32} (h : Sim nw b B σ μ) (hr : mRdy μ j = true) (ho : Out (ik (uI μ) j) c) : Sim nw b B (cLearn σ j c) (sI (sB μ 105 j true) 106 j c) := by
  obtain ⟨hR, hu⟩ := rdy_rd hr
  obtain ⟨h1, h2, h3, ⟨fs, qs, hs, rs, r⟩, h5⟩ := h
  have em : Em [0] μ (sI (sB μ 105 j true) 106 j c) := (emB_105 μ _ _).seq (emI_106 _ _ _) (by decide)
  have fH : iH (uI (sI (sB μ 105 j true) 106 j c)) = up1 (gB μ 105) j true := gB_up μ 105 _ _
  have fV : iV (uI (sI (sB μ 105 j true) 106 j c)) = up1 (gI μ 106) j c := gI_up (sB μ 105 j true) 106 _ _
  obtain ⟨j1, j2, j3, j4, j5, j6⟩ := h5.1
  have jn : j < gN μ 5 0 := (j2 j hR.1).1
  have g : GI (uI μ) (uI (sI (sB μ 105 j true) 106 j c)) := by
    refine ⟨Nat.le_refl _, fun t ht => ⟨ht, rfl, rfl, rfl⟩, fun t ht => ?_⟩
    have ht : gB μ 105 t = true := ht
    have ne : t ≠ j := fun z => by rw [z, hu] at ht; cases ht
    rw [fH, fV, up1_n _ _ ne, up1_n _ _ ne]
    exact ⟨ht, rfl⟩
  refine ⟨h1, h2.of rfl rfl rfl, wfm_I (wfm_B h3), ⟨fs, qs, hs, rs, rel_items (Z := []) r ((exB_101 σ _ _).seq (exI_102 _ _ _) (by decide)) em ?_⟩, inv_items h5 em g ?_⟩
  · refine ri_of r.it ?_ ?_ r.pg r.lf r.rg r.na r.tm
    · show gB (sB σ 101 j true) 101 = gB (sB μ 105 j true) 105
      rw [gB_up, gB_up, r.hv]
    · show gI (sI (sB σ 101 j true) 102 j c) 102 = gI (sI (sB μ 105 j true) 106 j c) 106
      rw [gI_up, gI_up]
      show up1 (gI σ 102) j c = up1 (gI μ 106) j c
      rw [r.vl]
  · refine ⟨fun t ht => ?_, j2, fun t ht => ?_, fun t ht hh => ?_, fun k hk => ?_, j6⟩
    · rw [fH]
      by_cases e : t = j
      · left; rw [e, up1_s]
      · rw [up1_n _ _ e]; exact j1 t ht
    · have ht : gN μ 5 0 ≤ t := ht
      rw [fH, up1_n _ _ (by omega)]
      exact j3 t ht
    · rw [fV]
      by_cases e : t = j
      · rw [e, up1_s]
        refine ⟨(hR.gi g).1, ?_⟩
        rw [(hR.gi g).2]
        exact ho
      · rw [fH, up1_n _ _ e] at hh
        rw [up1_n _ _ e]
        obtain ⟨a1, a2⟩ := j4 t ht hh
        exact ⟨(a1.gi g).1, by rw [(a1.gi g).2]; exact a2⟩
    · obtain ⟨t, a1, a2⟩ := j5 k hk
      exact ⟨t, (a1.gi g).1, by rw [(a1.gi g).2]; exact a2⟩
/-- the class's state with other items -/
def lput (σ : Sg) (s : HV) : Sg := (fun f o => if f = 102 then s.2 o else gI σ f o, σ.2.1, σ.2.2.1, fun f o => if f = 101 then s.1 o else gB σ f o)
def hv (σ : Sg) : HV := (gB σ 101, gI σ 102)
theorem lput_hv (σ : Sg) : lput σ (hv σ) = σ := sg_ext (fun x y => by
    show (if x = 102 then gI σ 102 y else gI σ x y) = gI σ x y
    by_cases c : x = 102
    · rw [if_pos c, c]
    · rw [if_neg c]) (fun _ _ => rfl) (fun _ _ => rfl) (fun x y => by
    show (if x = 101 then gB σ 101 y else gB σ x y) = gB σ x y
    by_cases c : x = 101
    · rw [if_pos c, c]
    · rw [if_neg c])
theorem lput_learn (σ : Sg) (s : HV) (j : Nat) (c : Int32) : cLearn (lput σ s) j c = lput σ (up1 s.1 j true, up1 s.2 j c) := sg_ext (fun x y => by
    show (if x = 102 ∧ y = j then c else if x = 102 then s.2 y else gI σ x y) = if x = 102 then (if y = j then c else s.2 y) else gI σ x y
    by_cases a : x = 102
    · rw [if_pos a, if_pos a]
      by_cases b : y = j
      · rw [if_pos ⟨a, b⟩, if_pos b]
      · rw [if_neg (fun z => b z.2), if_neg b]
    · rw [if_neg (fun z => a z.1), if_neg a, if_neg a]) (fun _ _ => rfl) (fun _ _ => rfl) (fun x y => by
    show (if x = 101 ∧ y = j then true else if x = 101 then s.1 y else gB σ x y) = if x = 101 then (if y = j then true else s.1 y) else gB σ x y
    by_cases a : x = 101
    · rw [if_pos a, if_pos a]
      by_cases b : y = j
      · rw [if_pos ⟨a, b⟩, if_pos b]
      · rw [if_neg (fun z => b z.2), if_neg b]
    · rw [if_neg (fun z => a z.1), if_neg a, if_neg a])
theorem an_key {j : Nat} (μ : Sg) : ik (uI (mKeyS μ j)) j = ik (uI μ) j := by
  rw [show uI (mKeyS μ j) = uI μ from em_key μ j 0 (by decide)]
theorem an_rdy {j : Nat} (μ : Sg) : mRdy (mKeyS μ j) j = mRdy μ j := by
  unfold mRdy
  rw [mkey_B, mkey_B, mkey_B, mkey_B, mkey_N _ _ (by decide), mkey_N _ _ (by decide)]
theorem an_step {s : HV} {K : K3} {j k : Nat} {c : Int32} (h : Sim nw b B (lput σ s) μ) (hj : j < gN μ 5 0) (hk : k < gN μ 14 0) (hK : mK3 μ k = K) (ho : Out K c) : Sim nw b B (lput σ (sSt (gJ σ 103) (gN σ 104) (gN σ 105) dg K c s j)) (anS μ k c j) ∧ k < gN (anS μ k c j) 14 0 ∧ mK3 (anS μ k c j) k = K := by
  have re := rdy_eq h hj
  have re : (!s.1 j && (s.1 (gN σ 104 j) && s.1 (gN σ 105 j))) = mRdy μ j := re
  have hik : ik (uI μ) j = (gJ σ 103 j, dg (s.2 (gN σ 104 j)), dg (s.2 (gN σ 105 j))) := by
    obtain ⟨h1, h2, h3, ⟨fs, qs, hs, rs, r⟩, h5⟩ := h
    have e1 : gJ σ 103 = gJ μ 102 := r.pg
    have e2 : s.2 = gI μ 106 := r.vl
    have e3 : gN σ 104 = gN μ 103 := r.lf
    have e4 : gN σ 105 = gN μ 104 := r.rg
    rw [e1, e2, e3, e4]
    rfl
  unfold sSt sG anS
  by_cases c1 : mRdy μ j = true
  · rw [if_pos c1]
    have sk := sim_key h c1
    have kg := key_kg μ j
    have k1 : k < gN (mKeyS μ j) 14 0 := kg.lt hk
    have k2 : mK3 (mKeyS μ j) k = K := (kg.2 k hk).trans hK
    obtain ⟨x1, x2⟩ := key_at (μ := μ) (i := j)
    have x2 : mK3 (mKeyS μ j) (mKeyR μ j) = ik (uI μ) j := x2
    rw [← Bool.and_assoc, re, c1, Bool.true_and, ← hik]
    by_cases c2 : mKeyR μ j = k
    · have e : ik (uI μ) j = K := by rw [← x2, c2, k2]
      rw [if_pos c2, if_pos (decide_eq_true e), ← lput_learn]
      exact ⟨sim_learn sk (by rw [an_rdy]; exact c1) (by rw [an_key, e]; exact ho), k1, k2⟩
    · have e : ¬ ik (uI μ) j = K := fun z => c2 (sk.ki _ _ x1 k1 (by rw [x2, k2, z]))
      rw [if_neg c2, if_neg (by simpa using e)]
      exact ⟨sk, k1, k2⟩
  · rw [if_neg c1, ← Bool.and_assoc, re, if_neg]
    · exact ⟨h, hk, hK⟩
    · rw [Bool.and_eq_true]
      exact fun z => c1 z.1
theorem an_I {K : K3} {k : Nat} {c : Int32} (ho : Out K c) : ∀ (j : Nat) {s : HV} {μ : Sg}, Sim nw b B (lput σ s) μ → j ≤ gN μ 5 0 → k < gN μ 14 0 → mK3 μ k = K → Sim nw b B (lput σ (sDn (gJ σ 103) (gN σ 104) (gN σ 105) dg K c j s)) (anI k c j μ) ∧ k < gN (anI k c j μ) 14 0 ∧ mK3 (anI k c j μ) k = K
  | 0, s, μ, h, _, hk, hK => ⟨h, hk, hK⟩
  | j + 1, s, μ, h, hj, hk, hK => by
    obtain ⟨a, x, y⟩ := an_step h (show j < gN μ 5 0 by omega) hk hK ho
    exact an_I ho j a (by rw [anS_N _ _ _ _ (by decide)]; omega) x y
theorem an_O {K : K3} {k : Nat} {c : Int32} {s : HV} (ho : Out K c) (h : Sim nw b B (lput σ s) μ) (hk : k < gN μ 14 0) (hK : mK3 μ k = K) : ∀ r, Sim nw b B (lput σ (sRo (gJ σ 103) (gN σ 104) (gN σ 105) dg K c (gN μ 5 0) s r)) (anO μ k c r) ∧ k < gN (anO μ k c r) 14 0 ∧ mK3 (anO μ k c r) k = K
  | 0 => ⟨h, hk, hK⟩
  | r + 1 => by
    obtain ⟨a, x, y⟩ := an_O ho h hk hK r
    exact an_I ho _ a (by rw [anO_N _ _ _ (by decide)]; exact Nat.le_refl _) x y
theorem ks_ks (s : Sg) (o : Nat) (p p' : Int64) (x y x' y' : Int32) : kset (kset s o p x y) o p' x' y' = kset s o p' x' y' := by
  refine sg_ext (fun f z => ?_) (fun f z => ?_) (fun _ _ => rfl) (fun _ _ => rfl)
  · show (if f = 8 ∧ z = o then y' else if f = 7 ∧ z = o then x' else if f = 8 ∧ z = o then y else if f = 7 ∧ z = o then x else gI s f z) = if f = 8 ∧ z = o then y' else if f = 7 ∧ z = o then x' else gI s f z
    by_cases a : f = 8 ∧ z = o
    · simp only [if_pos a]
    · by_cases d : f = 7 ∧ z = o
      · simp only [if_neg a, if_pos d]
      · simp only [if_neg a, if_neg d]
  · show (if f = 6 ∧ z = o then p' else if f = 6 ∧ z = o then p else gJ s f z) = if f = 6 ∧ z = o then p' else gJ s f z
    by_cases a : f = 6 ∧ z = o
    · rw [if_pos a, if_pos a]
    · rw [if_neg a, if_neg a, if_neg a]
theorem ks_id (s : Sg) (o : Nat) : kset s o (gJ s 6 o) (gI s 7 o) (gI s 8 o) = s := by
  refine sg_ext (fun f z => ?_) (fun f z => ?_) (fun _ _ => rfl) (fun _ _ => rfl)
  · show (if f = 8 ∧ z = o then gI s 8 o else if f = 7 ∧ z = o then gI s 7 o else gI s f z) = gI s f z
    by_cases a : f = 8 ∧ z = o
    · rw [if_pos a, a.1, a.2]
    · rw [if_neg a]
      by_cases d : f = 7 ∧ z = o
      · rw [if_pos d, d.1, d.2]
      · rw [if_neg d]
  · show (if f = 6 ∧ z = o then gJ s 6 o else gJ s f z) = gJ s f z
    by_cases a : f = 6 ∧ z = o
    · rw [if_pos a, a.1, a.2]
    · rw [if_neg a]
theorem learn_ks (s : Sg) (o i : Nat) (p : Int64) (x y c : Int32) : cLearn (kset s o p x y) i c = kset (cLearn s i c) o p x y := by
  refine sg_ext (fun f z => ?_) (fun _ _ => rfl) (fun _ _ => rfl) (fun _ _ => rfl)
  show (if f = 102 ∧ z = i then c else if f = 8 ∧ z = o then y else if f = 7 ∧ z = o then x else gI s f z) = if f = 8 ∧ z = o then y else if f = 7 ∧ z = o then x else if f = 102 ∧ z = i then c else gI s f z
  by_cases a : f = 102 ∧ z = i
  · rw [if_pos a, if_neg (by omega), if_neg (by omega), if_pos a]
  · rw [if_neg a, if_neg a]
theorem an_C {q : Nat} {K : K3} {c : Int32} (hq : kof σ (q + 1) = K) (h62 : q + 1 ≠ 62) (hc : gI σ 16 q = c) : ∀ i, ∃ p x y, cAnsN σ q i = kset (lput σ (sUp (gJ σ 103) (gN σ 104) (gN σ 105) dg K c (hv σ) i)) 62 p x y
  | 0 => ⟨gJ σ 6 62, gI σ 7 62, gI σ 8 62, by
      show σ = kset (lput σ (hv σ)) 62 _ _ _
      rw [lput_hv, ks_id]⟩
  | i + 1 => by
    obtain ⟨p, x, y, e⟩ := an_C hq h62 hc i
    show ∃ p x y, cAnsS (cAnsN σ q i) q i = kset (lput σ (sSt (gJ σ 103) (gN σ 104) (gN σ 105) dg K c (sUp (gJ σ 103) (gN σ 104) (gN σ 105) dg K c (hv σ) i) i)) 62 p x y
    rw [e]
    generalize sUp (gJ σ 103) (gN σ 104) (gN σ 105) dg K c (hv σ) i = s
    have ck : cKey (kset (lput σ s) 62 p x y) i 62 = kset (lput σ s) 62 (gJ σ 103 i) (dg (s.2 (gN σ 104 i))) (dg (s.2 (gN σ 105 i))) := by
      unfold cKey
      rw [ks_ks]
      rfl
    unfold cAnsS sSt sG
    rw [ck]
    show ∃ p' x' y', (if (!s.1 i && (s.1 (gN σ 104 i) && s.1 (gN σ 105 i))) = true then _ else _) = _
    rw [kof_s, kof_n _ _ _ _ h62, show kof (lput σ s) (q + 1) = kof σ (q + 1) from rfl, hq, show gI (kset (lput σ s) 62 p x y) 16 q = gI σ 16 q from rfl, hc, ← Bool.and_assoc (!s.1 i) (s.1 (gN σ 104 i) && s.1 (gN σ 105 i))]
    by_cases c1 : (!s.1 i && (s.1 (gN σ 104 i) && s.1 (gN σ 105 i))) = true
    · rw [if_pos c1, c1, Bool.true_and]
      by_cases c2 : decide ((gJ σ 103 i, dg (s.2 (gN σ 104 i)), dg (s.2 (gN σ 105 i))) = K) = true
      · rw [if_pos c2, if_pos c2, ← lput_learn, learn_ks]
        exact ⟨_, _, _, rfl⟩
      · rw [if_neg c2, if_neg c2]
        exact ⟨_, _, _, rfl⟩
    · have c1' : (!s.1 i && (s.1 (gN σ 104 i) && s.1 (gN σ 105 i))) = false := by simpa using c1
      rw [if_neg c1, c1', Bool.false_and, if_neg Bool.false_ne_true]
      exact ⟨_, _, _, rfl⟩
theorem sim_k62 (h : Sim nw b B σ μ) (p : Int64) (x y : Int32) : Sim nw b B (kset σ 62 p x y) μ := by
  obtain ⟨h1, h2, h3, ⟨fs, qs, hs, rs, r⟩, h5⟩ := h
  exact ⟨wf_ks h1, h2.of rfl rfl rfl, h3, ⟨fs, qs, hs, rs, rel_step r (ex_k62 p x y h1.R3 h1.Q3) (Em.rf [] μ) (by decide) (Or.inl (by decide)) (Or.inl ⟨by decide, rfl⟩) (Or.inl (by decide)) (Or.inl ⟨by decide, rfl⟩) (Or.inl ⟨by decide, rfl⟩) (Or.inl ⟨by decide, rfl⟩) (Or.inl (by decide)) (Or.inl (by decide)) (Or.inl (by decide)) (Or.inl ⟨by decide, by decide⟩)⟩, h5⟩
theorem sim_answer {q k : Nat} {c : Int32} (h : Sim nw b B σ μ) (hk : k < gN μ 14 0) (hq : kof σ (q + 1) = mK3 μ k) (h62 : q + 1 ≠ 62) (hc : gI σ 16 q = c) (ho : Out (mK3 μ k) c) : Sim nw b B (cAnsN σ q (gN σ 31 55)) (anO μ k c 10) := by
  have hit : gN σ 31 55 = gN μ 5 0 ∧ (∀ i, i < gN μ 5 0 → (hv σ).1 i = false → gN σ 104 i < i ∧ gN σ 105 i < i) ∧ gN μ 5 0 ≤ 10 := by
    obtain ⟨h1, h2, h3, ⟨fs, qs, hs, rs, r⟩, h5⟩ := h
    refine ⟨r.it, fun i hi hu => ?_, h3.it⟩
    have hu : gB σ 101 i = false := hu
    rw [r.hv] at hu
    rw [r.lf, r.rg]
    rcases h5.1.1 i hi with z | z
    · have z : gB μ 105 i = true := z
      rw [hu] at z; cases z
    · exact (h5.1.2.1 i z).2
  obtain ⟨p, x, y, e⟩ := an_C (σ := σ) hq h62 hc (gN σ 31 55)
  have s := (an_O (σ := σ) (s := hv σ) ho (by rw [lput_hv]; exact h) hk rfl 10).1
  rw [hv_same hit.2.1 hit.2.2] at s
  rw [e, hit.1]
  exact sim_k62 s p x y
end AN
