/-! both sides at once: the flight -/
def Sim (nw b B : Nat) (σ μ : Sg) : Prop := Wf nw σ ∧ Dis σ ∧ WfM B μ ∧ (∃ fs qs hs rs, Rel nw b σ μ fs qs hs rs) ∧ Inv nw μ
theorem nI_inj' {a b : Nat} (ha : a < 2 ^ 31) (hb : b < 2 ^ 31) (h : nI a = nI b) : a = b := by
  have := congrArg Int32.toInt h
  rw [nI_toInt ha, nI_toInt hb] at this
  omega
theorem lst_no {P : Nat → Bool} : ∀ {n : Nat}, lst P n = none → ∀ i, i < n → P i = false
  | 0, _, i, hi => by omega
  | n + 1, h, i, hi => by
    unfold lst at h
    by_cases c : P n = true
    · rw [if_pos c] at h; cases h
    · rw [if_neg c] at h
      by_cases e : i = n
      · rw [e]; exact Bool.eq_false_iff.mpr c
      · exact lst_no h i (by omega)
section FL
variable {nw b B : Nat} {σ τ μ : Sg} {fs : Nat → Nat}
theorem frS_some (h : RF0 (vF σ) (uF μ) (uK μ) fs) (hn : gN σ 21 1 < 24) : ∃ s, frS μ = some s ∧ s < 24 ∧ gN μ 122 s = 0 := by
  obtain ⟨s, hs, hz⟩ := h.1.room (N := 24) hn
  cases e : frS μ with
  | none =>
    have := lst_no e s hs
    have hz : gN μ 122 s = 0 := hz
    rw [hz] at this
    exact absurd this (by decide)
  | some x =>
    have := lst_lt e
    exact ⟨x, rfl, this.1, of_decide_eq_true this.2⟩
theorem frS_none (h : RF0 (vF σ) (uF μ) (uK μ) fs) (hn : 24 ≤ gN σ 21 1) : frS μ = none := by
  cases e : frS μ with
  | none => rfl
  | some x =>
    have a := lst_lt e
    have z : gN μ 122 x = 0 := of_decide_eq_true a.2
    have p : 0 < gN μ 122 x := h.1.full h.2.1 hn x a.1
    omega
theorem uF_send {a b k i s : Nat} {c d g : Int32} (h : frS μ = some s) : uF (mSend μ a b k i c d g) = (up1 (gN μ 122) s (gN μ 33 0 + 1), gN μ 33 0 + 1, up1 (gN μ 123) s a, up1 (gN μ 124) s b, up1 (gN μ 125) s k, up1 (gN μ 126) s i, up1 (gI μ 127) s c, up1 (gI μ 128) s d, up1 (gI μ 129) s g) := by
  unfold mSend
  rw [h]
  exact Prod.ext (gN_up _ 122 s _) (Prod.ext rfl (Prod.ext (gN_up _ 123 s _) (Prod.ext (gN_up _ 124 s _) (Prod.ext (gN_up _ 125 s _) (Prod.ext (gN_up _ 126 s _) (Prod.ext (gI_up _ 127 s _) (Prod.ext (gI_up _ 128 s _) (gI_up _ 129 s _))))))))
theorem uF_sendN {a b k i : Nat} {c d g : Int32} (h : frS μ = none) : uF (mSend μ a b k i c d g) = uF μ := by
  unfold mSend
  rw [h]
  rfl
theorem rf_send {a b' k i : Nat} {c d g : Int32} (h : RF0 (vF σ) (uF μ) (uK μ) fs) (f : FS σ τ) (hW : Wf nw σ) (hD : Dis σ) (hm : MMa (uK μ) (mg τ (sendTo σ)) a b' k i c d g) : ∃ fs', RF0 (vF τ) (uF (mSend μ a b' k i c d g)) (uK μ) fs' := by
  rw [f.view hW hD]
  by_cases q : gN σ 21 1 < 24
  · obtain ⟨s, hs, hs1, hs2⟩ := frS_some h q
    rw [if_pos (show (vF σ).1 < 24 from q), uF_send hs]
    have ne : ∀ i, i < gN σ 21 1 → fs i ≠ s := fun i hi e => by
      have p : 0 < gN μ 122 (fs i) := h.1.1 i hi
      rw [e] at p
      omega
    refine ⟨up1 fs (gN σ 21 1) s, h.1.add hs2 h.2.2.1, fun i hi => ?_, fun x => ?_, fun i hi => ?_⟩
    · have hi : i < gN σ 21 1 + 1 := hi
      by_cases e : i = gN σ 21 1
      · rw [e, up1_s]; exact hs1
      · rw [up1_n _ _ e]; exact h.2.1 i (show i < gN σ 21 1 by omega)
    · show up1 (gN μ 122) s (gN μ 33 0 + 1) x ≤ gN μ 33 0 + 1
      by_cases e : x = s
      · rw [e, up1_s]; exact Nat.le_refl _
      · rw [up1_n _ _ e]
        exact Nat.le_succ_of_le (h.2.2.1 x)
    · have hi : i < gN σ 21 1 + 1 := hi
      by_cases e : i = gN σ 21 1
      · subst e
        show MMa _ (up1 _ _ _ _) (up1 _ s _ (up1 fs _ s _)) (up1 _ s _ (up1 fs _ s _)) (up1 _ s _ (up1 fs _ s _)) (up1 _ s _ (up1 fs _ s _)) (up1 _ s _ (up1 fs _ s _)) (up1 _ s _ (up1 fs _ s _)) (up1 _ s _ (up1 fs _ s _))
        rw [up1_s fs, up1_s, up1_s, up1_s, up1_s, up1_s, up1_s, up1_s, show up1 (vF σ).2 (vF σ).1 (mg τ (sendTo σ)) (gN σ 21 1) = mg τ (sendTo σ) from up1_s _ _ _]
        exact hm
      · have hi' : i < gN σ 21 1 := by omega
        show MMa _ (up1 _ _ _ _) (up1 _ s _ (up1 fs _ s _)) (up1 _ s _ (up1 fs _ s _)) (up1 _ s _ (up1 fs _ s _)) (up1 _ s _ (up1 fs _ s _)) (up1 _ s _ (up1 fs _ s _)) (up1 _ s _ (up1 fs _ s _)) (up1 _ s _ (up1 fs _ s _))
        rw [up1_n fs s e, up1_n _ _ (ne i hi'), up1_n _ _ (ne i hi'), up1_n _ _ (ne i hi'), up1_n _ _ (ne i hi'), up1_n _ _ (ne i hi'), up1_n _ _ (ne i hi'), up1_n _ _ (ne i hi'), show up1 (vF σ).2 (vF σ).1 (mg τ (sendTo σ)) i = (vF σ).2 i from up1_n _ _ e]
        exact h.2.2.2 i hi'
  · rw [if_neg (show ¬ (vF σ).1 < 24 from q), uF_sendN (frS_none h (by omega))]
    exact ⟨fs, h⟩
theorem jf_send {a b' k i : Nat} {c d g : Int32} (h : JF nw (uI μ) (uK μ) (uF μ)) (hm : MI nw (uI μ) (uK μ) a b' k i g) : JF nw (uI μ) (uK μ) (uF (mSend μ a b' k i c d g)) := by
  cases e : frS μ with
  | none => rw [uF_sendN e]; exact h
  | some s =>
    rw [uF_send e]
    intro x
    show MI _ _ _ (up1 _ s _ x) (up1 _ s _ x) (up1 _ s _ x) (up1 _ s _ x) (up1 _ s _ x)
    by_cases q : x = s
    · rw [q, up1_s, up1_s, up1_s, up1_s, up1_s]; exact hm
    · rw [up1_n _ _ q, up1_n _ _ q, up1_n _ _ q, up1_n _ _ q, up1_n _ _ q]; exact h x
theorem sim_send {a b' k i : Nat} {c d g : Int32} (h : Sim nw b B σ μ) (f : FS σ τ) (hW : Wf nw τ) (hm : MMa (uK μ) (mg τ (sendTo σ)) a b' k i c d g) (hi : MI nw (uI μ) (uK μ) a b' k i g) (hb : b' < 10) (hk : k < 10) (hi9 : i < 10) : Sim nw b (B + 1) τ (mSend μ a b' k i c d g) := by
  obtain ⟨h1, h2, h3, ⟨fs, qs, hs, rs, r⟩, h5⟩ := h
  obtain ⟨fs', hf⟩ := rf_send r.F f h1 h2 hm
  refine ⟨hW, f.dis h2, wfm_send h3 (by have := hi.2.2.2.2.2.2.2; omega) hb hk hi9, ⟨fs', qs, hs, rs, ?_⟩, ?_⟩
  · refine rel_step r f.1 (em_send μ a b' k i c d g) (by decide) (Or.inl (by decide)) (Or.inr hf) (Or.inl (by decide)) (Or.inl ⟨by decide, rfl⟩) (Or.inl ⟨by decide, rfl⟩) (Or.inl ⟨by decide, rfl⟩) (Or.inl (by decide)) (Or.inl (by decide)) (Or.inr ?_) (Or.inl ⟨by decide, by decide⟩)
    rw [f.2.1, send_S, r.S]
    exact Nat.add_assoc _ _ _
  · exact inv_step h5 (em_send μ a b' k i c d g) (by decide) (by decide) (Or.inr (jf_send h5.2.1 hi)) (Or.inl (by decide)) (Or.inl (by decide)) (Or.inl (by decide))
/-- the k-th message's place -/
theorem older_fs (h : RF0 (vF σ) (uF μ) (uK μ) fs) {i : Nat} (hi : i < gN σ 21 1) : older μ (fs i) = i := h.1.older h.2.1 hi
theorem plc_in (h : RF0 (vF σ) (uF μ) (uK μ) fs) {i : Nat} (hn : gN σ 21 1 ≤ 24) (hi : i < gN σ 21 1) : plc μ (nI i) = some (fs i) := by
  refine fnd_some (h.2.1 i hi) ?_ (fun j hj => ?_)
  · rw [older_fs h hi]
    simp only [Bool.and_eq_true, decide_eq_true_eq]
    exact ⟨h.1.1 i hi, trivial⟩
  · rw [Bool.eq_false_iff]
    intro c
    simp only [Bool.and_eq_true, decide_eq_true_eq] at c
    obtain ⟨x, hx, e⟩ := h.1.2.2 j c.1
    have hx : x < gN σ 21 1 := hx
    rw [← e, older_fs h hx] at c
    have := nI_inj' (by omega) (by omega) c.2
    rw [← e, this] at hj
    omega
theorem plc_out (h : RF0 (vF σ) (uF μ) (uK μ) fs) {k : Int32} (hn : gN σ 21 1 ≤ 24) (hk : inR k (gN σ 21 1) = false) : plc μ k = none := by
  refine fnd_none (fun j hj => ?_)
  rw [Bool.eq_false_iff]
  intro c
  simp only [Bool.and_eq_true, decide_eq_true_eq] at c
  obtain ⟨x, hx, e⟩ := h.1.2.2 j c.1
  have hx : x < gN σ 21 1 := hx
  rw [← e, older_fs h hx] at c
  rw [← c.2, inR_nI (by omega)] at hk
  exact absurd hx (of_decide_eq_false hk)
theorem rf_take {k : Nat} (h : RF0 (vF σ) (uF μ) (uK μ) fs) (hn : gN σ 21 1 ≤ 24) (hk : k < gN σ 21 1) : RF0 (vF (fTake σ k)) (uF (sN μ 122 (fs k) 0)) (uK μ) (shf fs k) := by
  obtain ⟨v1, v2⟩ := take_view hn hk
  have e122 : gN (sN μ 122 (fs k) 0) 122 = up1 (gN μ 122) (fs k) 0 := gN_up _ _ _ _
  refine ⟨?_, fun i hi => ?_, fun x => ?_, fun i hi => ?_⟩
  · show Ord (vF (fTake σ k)).1 (shf fs k) (gN (sN μ 122 (fs k) 0) 122)
    rw [v1, e122]
    exact h.1.del hk
  · rw [v1] at hi
    have hi : i < gN σ 21 1 - 1 := hi
    unfold shf
    split
    · exact h.2.1 i (show i < gN σ 21 1 by omega)
    · exact h.2.1 (i + 1) (show i + 1 < gN σ 21 1 by omega)
  · show gN (sN μ 122 (fs k) 0) 122 x ≤ gN μ 33 0
    rw [e122]
    by_cases e : x = fs k
    · rw [e, up1_s]; exact Nat.zero_le _
    · rw [up1_n _ _ e]; exact h.2.2.1 x
  · rw [v1] at hi
    rw [v2 i hi]
    have hi : i < gN σ 21 1 - 1 := hi
    unfold shf
    by_cases c : i < k
    · rw [if_pos c, if_pos c]
      exact h.2.2.2 i (show i < gN σ 21 1 by omega)
    · rw [if_neg c, if_neg c]
      exact h.2.2.2 (i + 1) (show i + 1 < gN σ 21 1 by omega)
end FL
