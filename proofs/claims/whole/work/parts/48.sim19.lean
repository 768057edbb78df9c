/-! both sides at once: a worker works -/
section WO
variable {nw b B : Nat} {σ μ : Sg}
theorem fill_57 (σ : Sg) (o : Nat) (d c : Int32) : mFill (fSend (sB σ 57 o false) 5 0) (sendTo (sB σ 57 o false)) (o + 1) d c = sB (mFill (fSend σ 5 0) (sendTo σ) (o + 1) d c) 57 o false := by
  have e : fSend (sB σ 57 o false) 5 0 = sB (fSend σ 5 0) 57 o false := by
    unfold fSend
    show (if gN σ 21 1 < 24 then _ else _) = _
    by_cases c : gN σ 21 1 < 24
    · rw [if_pos c, if_pos c]; rfl
    · rw [if_neg c, if_neg c]; rfl
  rw [e]
  rfl
/-- the last instruction's end: a result is sent -/
theorem sim_wEnd {j k : Nat} {x d : Int32} (h : Sim nw b B σ μ) (hj : j < nw) (hn : nw ≤ 4) (hd : gB μ 100 (j + 1) = false) (hk : k < gN μ 14 0) (hq : kof σ (100 + 2 * j + 1) = mK3 μ k) (ex : dg x = d) (ho : Out (mK3 μ k) x) : Sim nw b (B + 1) (sB (mFill (fSend σ 5 0) (sendTo σ) (100 + 2 * j + 1) d x) 57 (100 + 2 * j) false) (sN (mSend μ 5 0 k 0 x (nI 0) d) 118 (j + 1) 0) := by
  have hks := h.2.2.1.ks
  have hw := wf_fill (q := sendTo σ) (ko := 100 + 2 * j + 1) (d := d) (c := x) (wf_send (k := 5) (r := 0) h.1 (by decide) (by decide))
  have fsf := fs_fill h.1 5 0 (100 + 2 * j + 1) d x
  have s := sim_send (a := 5) (b' := 0) (k := k) (i := 0) (c := x) (d := nI 0) (g := d) h fsf hw (mm_fill (by decide) hk hq) ⟨fun z => absurd z (by decide), fun z => absurd z (by decide), fun _ => hk, fun _ => ⟨x, ho, ex.symm⟩, fun _ => rfl, fun z => absurd z (by decide), fun z => absurd z (by decide), by decide⟩ (by decide) (by omega) (by decide)
  have u56 : gB (mFill (fSend σ 5 0) (sendTo σ) (100 + 2 * j + 1) d x) 56 (100 + 2 * j) = true := by
    obtain ⟨h1, h2, h3, ⟨fs, qs, hs, rs, r⟩, h5⟩ := h
    have : gB σ 56 (100 + 2 * j) = !gB μ 100 (j + 1) := (r.W j hj).1
    rw [hd] at this
    exact (send_B σ 5 0 56 _).trans this
  have d1 : gB (mSend μ 5 0 k 0 x (nI 0) d) 100 (j + 1) = false := (msend_B _ _ _ _ _ _ _ _ _ _).trans hd
  generalize mFill (fSend σ 5 0) (sendTo σ) (100 + 2 * j + 1) d x = τ at s u56 ⊢
  generalize mSend μ 5 0 k 0 x (nI 0) d = ν at s d1 ⊢
  refine sim_W (j := j) s (wf_B s.1) (s.2.1.of rfl rfl rfl) (wfm_118 s.2.2.1 (Nat.zero_le _)) (exB_57 _ _ _) (emN_118 _ _ _) (fun i hi => ?_) (fun i hi => ?_) ?_ ?_
  · have n4 : ¬ 2 * i = 2 * j := by omega
    unfold pw vW
    dsimp only
    simp [kof, gs, n4]
  · unfold pu uW
    dsimp only
    simp [gs, hi]
  · have e1 : (pw (vW (sB τ 57 (100 + 2 * j) false)) j).1 = true := u56
    have e2 : (pw (vW (sB τ 57 (100 + 2 * j) false)) j).2.1 = false := by
      show gB (sB τ 57 (100 + 2 * j) false) 57 (100 + 2 * j) = false
      rw [gB_up, up1_s]
    have e3 : (pu (uW (sN ν 118 (j + 1) 0)) j).1 = false := d1
    have e4 : (pu (uW (sN ν 118 (j + 1) 0)) j).2.1 = 0 := by
      show gN (sN ν 118 (j + 1) 0) 118 (j + 1) = 0
      rw [gN_up, up1_s]
    refine ⟨by rw [e1, e3]; rfl, by rw [e2, e4]; rfl, fun _ => e4, fun z => ?_⟩
    rw [e4] at z
    exact absurd z (by decide)
  · have e4 : (pu (uW (sN ν 118 (j + 1) 0)) j).2.1 = 0 := by
      show gN (sN ν 118 (j + 1) 0) 118 (j + 1) = 0
      rw [gN_up, up1_s]
    intro z
    rw [e4] at z
    exact absurd z (by decide)
/-- one instruction more -/
theorem sim_wStep {j op : Nat} (h : Sim nw b B σ μ) (hj : j < nw) (hn : nw ≤ 4) (hp : 0 < gN μ 118 (j + 1)) (hw : Wf nw (sN (sw3 σ (100 + 2 * j) (act (w3 σ (100 + 2 * j)) op)) 58 (100 + 2 * j) (gN σ 58 (100 + 2 * j) + 1))) (hop : insn (mK3 μ (gN μ 118 (j + 1) - 1)).1 (w3 σ (100 + 2 * j)).2.2 = op) (h0 : op ≠ 0) : Sim nw b (B + 1) (sN (sw3 σ (100 + 2 * j) (act (w3 σ (100 + 2 * j)) op)) 58 (100 + 2 * j) (gN σ 58 (100 + 2 * j) + 1)) (sN μ 121 (j + 1) (gN μ 121 (j + 1) + 1)) := by
  have hjd := h.2.2.1.jd (j + 1)
  have h := h.mono (Nat.le_add_right B 1)
  have hq : RWj (pw (vW σ) j) (pu (uW μ) j) (uK μ) ∧ JWj (pu (uW μ) j) (uK μ) := by
    obtain ⟨h1, h2, h3, ⟨fs, qs, hs, rs, r⟩, h5⟩ := h
    exact ⟨r.W j hj, h5.2.2.2.2 j⟩
  obtain ⟨⟨a1, a2, a3, a4⟩, aJ⟩ := hq
  obtain ⟨k1, k2, k3, k4⟩ := a4 hp
  obtain ⟨l1, l2, l3, l4⟩ := aJ hp
  have k4 : w3 σ (100 + 2 * j) = xyp (mK3 μ (gN μ 118 (j + 1) - 1)).1 (gI μ 119 (j + 1), gI μ 120 (j + 1), 0) (gN μ 121 (j + 1)) := k4
  have ev : pw (vW (sN (sw3 σ (100 + 2 * j) (act (w3 σ (100 + 2 * j)) op)) 58 (100 + 2 * j) (gN σ 58 (100 + 2 * j) + 1))) j = (gB σ 56 (100 + 2 * j), gB σ 57 (100 + 2 * j), (vW σ).2.2.1 j, gN σ 58 (100 + 2 * j) + 1, act (w3 σ (100 + 2 * j)) op) := by
    generalize act (w3 σ (100 + 2 * j)) op = a
    obtain ⟨x, y, p⟩ := a
    unfold pw vW sw3
    dsimp only
    simp [kof, gs]
  have eu : pu (uW (sN μ 121 (j + 1) (gN μ 121 (j + 1) + 1))) j = (gB μ 100 (j + 1), gN μ 118 (j + 1), gI μ 119 (j + 1), gI μ 120 (j + 1), gN μ 121 (j + 1) + 1) := by
    unfold pu uW
    dsimp only
    simp [gs]
  have hB : WfM (B + 1) (sN μ 121 (j + 1) (gN μ 121 (j + 1) + 1)) := wfm_121 h.2.2.1 (by omega)
  refine sim_W (j := j) h hw (h.2.1.of rfl rfl rfl) hB ((exI_59 _ _ _).seq ((exI_60 _ _ _).seq ((exN_61 _ _ _).seq (exN_58 _ _ _) (L := [6]) (by decide)) (L := [6]) (by decide)) (by decide)) (emN_121 _ _ _) (fun i hi => ?_) (fun i hi => ?_) ?_ ?_
  · have n4 : ¬ 2 * i = 2 * j := by omega
    unfold pw vW sw3
    dsimp only
    simp [kof, gs, n4]
  · unfold pu uW
    dsimp only
    simp [gs, hi]
  · rw [ev, eu]
    refine ⟨a1, a2, a3, fun _ => ⟨k1, k2, ?_, ?_⟩⟩
    · exact congrArg (· + 1) k3
    · show act (w3 σ (100 + 2 * j)) op = act (xyp (mK3 μ (gN μ 118 (j + 1) - 1)).1 (gI μ 119 (j + 1), gI μ 120 (j + 1), 0) (gN μ 121 (j + 1))) (insn (mK3 μ (gN μ 118 (j + 1) - 1)).1 (xyp (mK3 μ (gN μ 118 (j + 1) - 1)).1 (gI μ 119 (j + 1), gI μ 120 (j + 1), 0) (gN μ 121 (j + 1))).2.2)
      rw [← k4, hop]
  · rw [eu]
    intro _
    refine ⟨l1, l2, l3, fun m hm => ?_⟩
    have hm : m < gN μ 121 (j + 1) + 1 := hm
    by_cases c : m = gN μ 121 (j + 1)
    · show insn (mK3 μ (gN μ 118 (j + 1) - 1)).1 (xyp (mK3 μ (gN μ 118 (j + 1) - 1)).1 (gI μ 119 (j + 1), gI μ 120 (j + 1), 0) m).2.2 ≠ 0
      rw [c, ← k4, hop]
      exact h0
    · exact l4 m (show m < gN μ 121 (j + 1) by omega)
theorem sim_set3 (h : Sim nw b B σ μ) (a : X3) : Sim nw b B σ (set3 μ a) := sim_E h (wfm_N (by decide) (wfm_I (wfm_I h.2.2.1))) (em_set3 μ a)
theorem sim_work {j : Nat} (h : Sim nw b B σ μ) (hj : j < nw) (hn : nw ≤ 4) : Sim nw b (B + 1) (wWork σ (100 + 2 * j)) (if gN μ 118 (j + 1) = 0 then μ else mWork μ (j + 1)) := by
  have hq : RWj (pw (vW σ) j) (pu (uW μ) j) (uK μ) ∧ JWj (pu (uW μ) j) (uK μ) := by
    obtain ⟨h1, h2, h3, ⟨fs, qs, hs, rs, r⟩, h5⟩ := h
    exact ⟨r.W j hj, h5.2.2.2.2 j⟩
  obtain ⟨⟨a1, a2, a3, a4⟩, aJ⟩ := hq
  have a1 : gB σ 56 (100 + 2 * j) = !gB μ 100 (j + 1) := a1
  have a2 : gB σ 57 (100 + 2 * j) = decide (0 < gN μ 118 (j + 1)) := a2
  have a3 : gB μ 100 (j + 1) = true → gN μ 118 (j + 1) = 0 := a3
  by_cases c : gN μ 118 (j + 1) = 0
  · rw [if_pos c]
    rw [c] at a2
    have e : wWork σ (100 + 2 * j) = σ := by
      unfold wWork
      rw [show gB σ 57 (100 + 2 * j) = false from a2]
      by_cases d : gB σ 56 (100 + 2 * j) = true
      · rw [if_pos d, if_neg Bool.false_ne_true]
      · rw [if_neg d]
    rw [e]
    exact h.mono (by omega)
  · rw [if_neg c]
    have hp : 0 < gN μ 118 (j + 1) := Nat.pos_of_ne_zero c
    have hd : gB μ 100 (j + 1) = false := by
      cases e : gB μ 100 (j + 1) with
      | true => exact absurd (a3 e) c
      | false => rfl
    rw [hd] at a1
    rw [decide_eq_true hp] at a2
    obtain ⟨k1, k2, k3, k4⟩ := a4 hp
    obtain ⟨l1, l2, l3, l4⟩ := aJ hp
    have k1 : gN μ 118 (j + 1) - 1 < gN μ 14 0 := k1
    have k2 : kof σ (100 + 2 * j + 1) = mK3 μ (gN μ 118 (j + 1) - 1) := (if_pos (by omega) : (if j < 4 then kof σ (100 + 2 * j + 1) else k00) = _).symm.trans k2
    have k4 : w3 σ (100 + 2 * j) = xyp (mK3 μ (gN μ 118 (j + 1) - 1)).1 (gI μ 119 (j + 1), gI μ 120 (j + 1), 0) (gN μ 121 (j + 1)) := k4
    have kp : gJ σ 6 (100 + 2 * j + 1) = (mK3 μ (gN μ 118 (j + 1) - 1)).1 := congrArg (fun z => z.1) k2
    have en : wNext σ (100 + 2 * j) = insn (mK3 μ (gN μ 118 (j + 1) - 1)).1 (w3 σ (100 + 2 * j)).2.2 := by
      unfold wNext
      rw [kp]
      rfl
    have eW : wWork σ (100 + 2 * j) = if wNext σ (100 + 2 * j) = 0 then mFill (fSend (sB σ 57 (100 + 2 * j) false) 5 0) (sendTo (sB σ 57 (100 + 2 * j) false)) (100 + 2 * j + 1) (dg (gI σ 59 (100 + 2 * j))) (gI σ 59 (100 + 2 * j)) else sN (wRun σ (100 + 2 * j) (wNext σ (100 + 2 * j))) 58 (100 + 2 * j) (gN σ 58 (100 + 2 * j) + 1) := by
      unfold wWork
      rw [show gB σ 56 (100 + 2 * j) = true from a1, a2, if_pos rfl, if_pos rfl]
    have hwf := wf_wWork (nw := nw) (o := 100 + 2 * j) h.1
    rw [eW] at hwf ⊢
    unfold mWork
    rw [WE_eq]
    show Sim nw b (B + 1) _ (if insn (mK3 μ (gN μ 118 (j + 1) - 1)).1 (xyp (mK3 μ (gN μ 118 (j + 1) - 1)).1 (gI μ 119 (j + 1), gI μ 120 (j + 1), 0) (gN μ 121 (j + 1))).2.2 = 0 then sN (mSend (set3 μ (xyp (mK3 μ (gN μ 118 (j + 1) - 1)).1 (gI μ 119 (j + 1), gI μ 120 (j + 1), 0) (gN μ 121 (j + 1)))) 5 0 (gN μ 118 (j + 1) - 1) 0 (xyp (mK3 μ (gN μ 118 (j + 1) - 1)).1 (gI μ 119 (j + 1), gI μ 120 (j + 1), 0) (gN μ 121 (j + 1))).1 (nI 0) (dg (xyp (mK3 μ (gN μ 118 (j + 1) - 1)).1 (gI μ 119 (j + 1), gI μ 120 (j + 1), 0) (gN μ 121 (j + 1))).1)) 118 (j + 1) 0 else sN (set3 μ (xyp (mK3 μ (gN μ 118 (j + 1) - 1)).1 (gI μ 119 (j + 1), gI μ 120 (j + 1), 0) (gN μ 121 (j + 1)))) 121 (j + 1) (gN μ 121 (j + 1) + 1))
    rw [← k4, ← en]
    by_cases z : wNext σ (100 + 2 * j) = 0
    · rw [if_pos z, if_pos z, fill_57]
      show Sim nw b (B + 1) _ (sN (mSend (set3 μ (w3 σ (100 + 2 * j))) 5 0 (gN μ 118 (j + 1) - 1) 0 (gI σ 59 (100 + 2 * j)) (nI 0) (dg (gI σ 59 (100 + 2 * j)))) 118 (j + 1) 0)
      refine sim_wEnd (sim_set3 h _) hj hn hd k1 k2 rfl ⟨_, _, _, l2, l3, l4, ?_, ?_⟩
      · show insn (mK3 μ (gN μ 118 (j + 1) - 1)).1 (xyp (mK3 μ (gN μ 118 (j + 1) - 1)).1 (gI μ 119 (j + 1), gI μ 120 (j + 1), 0) (gN μ 121 (j + 1))).2.2 = 0
        rw [← k4, ← en]
        exact z
      · show (xyp (mK3 μ (gN μ 118 (j + 1) - 1)).1 (gI μ 119 (j + 1), gI μ 120 (j + 1), 0) (gN μ 121 (j + 1))).1 = gI σ 59 (100 + 2 * j)
        rw [← k4]
        rfl
    · rw [if_neg z] at hwf ⊢
      rw [if_neg z]
      rw [wRun_eq] at hwf ⊢
      exact sim_wStep (sim_set3 h _) hj hn hp hwf en.symm z
end WO
