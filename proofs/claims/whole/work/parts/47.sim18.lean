/-! both sides at once: the workers -/
section WK
variable {nw b B : Nat} {σ μ σ' μ' : Sg}
def pw (v : VW) (i : Nat) : Bool × Bool × K3 × Nat × X3 := (v.1 i, v.2.1 i, v.2.2.1 i, v.2.2.2.1 i, v.2.2.2.2 i)
def pu (u : UW) (i : Nat) : Bool × Nat × Int32 × Int32 × Nat := (u.1 i, u.2.1 i, u.2.2.1 i, u.2.2.2.1 i, u.2.2.2.2 i)
def RWj (v : Bool × Bool × K3 × Nat × X3) (u : Bool × Nat × Int32 × Int32 × Nat) (K : UK) : Prop := v.1 = !u.1 ∧ v.2.1 = decide (0 < u.2.1) ∧ (u.1 = true → u.2.1 = 0) ∧ (0 < u.2.1 → u.2.1 - 1 < K.1 ∧ v.2.2.1 = K.2 (u.2.1 - 1) ∧ v.2.2.2.1 = u.2.2.2.2 ∧ v.2.2.2.2 = xyp (K.2 (u.2.1 - 1)).1 (u.2.2.1, u.2.2.2.1, 0) u.2.2.2.2)
def JWj (u : Bool × Nat × Int32 × Int32 × Nat) (K : UK) : Prop := 0 < u.2.1 → u.2.1 - 1 < K.1 ∧ dg u.2.2.1 = (K.2 (u.2.1 - 1)).2.1 ∧ dg u.2.2.2.1 = (K.2 (u.2.1 - 1)).2.2 ∧ ∀ m, m < u.2.2.2.2 → insn (K.2 (u.2.1 - 1)).1 (xyp (K.2 (u.2.1 - 1)).1 (u.2.2.1, u.2.2.2.1, 0) m).2.2 ≠ 0
theorem sim_W {j : Nat} (h : Sim nw b B σ μ) (hw : Wf nw σ') (hD : Dis σ') (hm : WfM B μ') (e : Ex [6] σ σ') (m : Em [6] μ μ') (hv : ∀ i, i ≠ j → pw (vW σ') i = pw (vW σ) i) (hu : ∀ i, i ≠ j → pu (uW μ') i = pu (uW μ) i) (hR : RWj (pw (vW σ') j) (pu (uW μ') j) (uK μ)) (hJ : JWj (pu (uW μ') j) (uK μ)) : Sim nw b B σ' μ' := by
  obtain ⟨h1, h2, h3, ⟨fs, qs, hs, rs, r⟩, h5⟩ := h
  refine ⟨hw, hD, hm, ⟨fs, qs, hs, rs, rel_worker (Z := []) r e m ?_⟩, inv_step h5 m (by decide) (by decide) (Or.inl (by decide)) (Or.inl (by decide)) (Or.inl (by decide)) (Or.inr ?_)⟩
  · intro i hi
    show RWj (pw (vW σ') i) (pu (uW μ') i) (uK μ)
    by_cases c : i = j
    · rw [c]; exact hR
    · rw [hv i c, hu i c]; exact r.W i hi
  · intro i
    show JWj (pu (uW μ') i) (uK μ)
    by_cases c : i = j
    · rw [c]; exact hJ
    · rw [hu i c]; exact h5.2.2.2.2 i
theorem sim_begin {j q k : Nat} {x y dx dy : Int32} (h : Sim nw b B σ μ) (hj : j < nw) (hn : nw ≤ 4) (hd : gB μ 100 (j + 1) = false) (hk : k < gN μ 14 0) (hq : kof σ (q + 1) = mK3 μ k) (hx : gI σ 16 q = x) (hy : gI σ 17 q = y) (ex : dg x = dx) (ey : dg y = dy) (kx : gI μ 110 k = dx) (ky : gI μ 111 k = dy) : Sim nw b B (wBegin σ (100 + 2 * j) q) (mLease μ (j + 1) k x y) := by
  have hu56 : gB σ 56 (100 + 2 * j) = true := by
    obtain ⟨h1, h2, h3, ⟨fs, qs, hs, rs, r⟩, h5⟩ := h
    have : gB σ 56 (100 + 2 * j) = !gB μ 100 (j + 1) := (r.W j hj).1
    rw [this, hd]
    rfl
  have hks := h.2.2.1.ks
  have em : Em [6] μ (mLease μ (j + 1) k x y) := (emN_118 μ _ _).seq ((emI_119 _ _ _).seq ((emI_120 _ _ _).seq (emN_121 _ _ _) (L := [6]) (by decide)) (L := [6]) (by decide)) (by decide)
  have ew : Ex [6] σ (wBegin σ (100 + 2 * j) q) := (ex_kW _ _ _ h.1.R3 h.1.Q3 (by omega)).seq ((exI_59 _ _ _).seq ((exI_60 _ _ _).seq ((exN_61 _ _ _).seq ((exN_58 _ _ _).seq (exB_57 _ _ _) (L := [6]) (by decide)) (L := [6]) (by decide)) (L := [6]) (by decide)) (L := [6]) (by decide)) (by decide)
  have ej : pw (vW (wBegin σ (100 + 2 * j) q)) j = (true, true, mK3 μ k, 0, (x, y, 0)) := by
    unfold pw vW
    dsimp only
    rw [if_pos (by omega), ← hq, ← hx, ← hy]
    simp [wBegin, kcopy, kset, kof, gs, hu56]
  have eu : pu (uW (mLease μ (j + 1) k x y)) j = (false, k + 1, x, y, 0) := by
    unfold pu uW
    dsimp only
    rw [← hd]
    simp [mLease, gs]
  refine sim_W (j := j) h (wf_wBegin h.1) (h.2.1.of rfl rfl rfl) (wfm_lease h.2.2.1 (by omega)) ew em (fun i hi => ?_) (fun i hi => ?_) ?_ ?_
  · have n1 : 100 + 2 * i ≠ 100 + 2 * j := by omega
    have n2 : 100 + 2 * i + 1 ≠ 100 + 2 * j + 1 := by omega
    have n3 : 100 + 2 * i ≠ 100 + 2 * j + 1 := by omega
    have n4 : ¬ 2 * i = 2 * j := by omega
    unfold pw vW
    dsimp only
    simp [wBegin, kcopy, kset, kof, gs, n4]
  · have n1 : i + 1 ≠ j + 1 := by omega
    unfold pu uW
    dsimp only
    simp [mLease, gs, hi]
  · rw [ej, eu]
    exact ⟨rfl, rfl, fun z => absurd z Bool.false_ne_true, fun _ => ⟨hk, rfl, rfl, rfl⟩⟩
  · rw [eu]
    exact fun _ => ⟨hk, ex.trans kx.symm, ey.trans ky.symm, fun m hm => absurd hm (Nat.not_lt_zero m)⟩
/-- an instruction at worker o -/
def w3 (σ : Sg) (o : Nat) : X3 := (gI σ 59 o, gI σ 60 o, gN σ 61 o)
def sw3 (σ : Sg) (o : Nat) (a : X3) : Sg := sN (sI (sI σ 59 o a.1) 60 o a.2.1) 61 o a.2.2
set_option maxHeartbeats 4000000 in
theorem wRun_eq (σ : Sg) (o op : Nat) : wRun σ o op = sw3 σ o (act (w3 σ o) op) := by
  have key : ∀ (x y : Int32) (p : Nat), sw3 σ o (x, y, p) = sN (sI (sI σ 59 o x) 60 o y) 61 o p := fun _ _ _ => rfl
  have sI_id : ∀ (τ : Sg) (f : Nat) (x : Int32), gI τ f o = x → sI τ f o x = τ := fun τ f x h => sg_ext (fun a b => by
    show (if a = f ∧ b = o then x else gI τ a b) = gI τ a b
    by_cases c : a = f ∧ b = o
    · rw [if_pos c, c.1, c.2, h]
    · rw [if_neg c]) (fun _ _ => rfl) (fun _ _ => rfl) (fun _ _ => rfl)
  have e1 : ∀ x : Int32, sI (sI σ 59 o x) 60 o (gI σ 60 o) = sI σ 59 o x := fun x => sI_id _ _ _ (congrFun (gI_of σ o x (by decide)) o)
  have e2 : sI σ 59 o (gI σ 59 o) = σ := sI_id _ _ _ rfl
  have e3 : sI σ 60 o (gI σ 60 o) = σ := sI_id _ _ _ rfl
  have nn : ∀ (s : Sg) (p p' : Nat), sN (sN s 61 o p) 61 o p' = sN s 61 o p' := fun s p p' => sg_ext (fun _ _ => rfl) (fun _ _ => rfl) (fun a b => by
    show (if a = 61 ∧ b = o then p' else if a = 61 ∧ b = o then p else gN s a b) = if a = 61 ∧ b = o then p' else gN s a b
    by_cases c : a = 61 ∧ b = o
    · rw [if_pos c, if_pos c]
    · rw [if_neg c, if_neg c, if_neg c]) (fun _ _ => rfl)
  have cm : ∀ (s : Sg) (p : Nat) (f : Nat) (x : Int32), sI (sN s 61 o p) f o x = sN (sI s f o x) 61 o p := fun _ _ _ _ => rfl
  unfold wRun act w3
  by_cases h1 : op = 1
  · rw [if_pos h1, if_pos h1, key, cm]; simp only [e1]
  rw [if_neg h1, if_neg h1]
  by_cases h1 : op = 2
  · rw [if_pos h1, if_pos h1, key, cm]; simp only [e1]
  rw [if_neg h1, if_neg h1]
  by_cases h1 : op = 3
  · rw [if_pos h1, if_pos h1, key, cm]; simp only [e1]
  rw [if_neg h1, if_neg h1]
  by_cases h1 : op = 4
  · rw [if_pos h1, if_pos h1, key, cm]; simp only [e1]
  rw [if_neg h1, if_neg h1]
  by_cases h1 : op = 5
  · rw [if_pos h1, if_pos h1, key, cm]; simp only [e1]
  rw [if_neg h1, if_neg h1]
  by_cases h1 : op = 6
  · rw [if_pos h1, if_pos h1, key, cm, cm]
  rw [if_neg h1, if_neg h1]
  by_cases h1 : op = 7
  · rw [if_pos h1, if_pos h1]
    dsimp only
    by_cases c : gI σ 60 o ≤ 0
    · rw [if_pos c, if_pos c, key]; simp only [e1, e2, e3]
    · rw [if_neg c, if_neg c, key, cm, nn]; simp only [e2]
  rw [if_neg h1, if_neg h1]
  by_cases h1 : op = 8
  · rw [if_pos h1, if_pos h1]
    dsimp only
    by_cases c : gI σ 59 o &&& nI 1 = 0
    · rw [if_pos c, if_pos c, key]; simp only [e1, e2, e3]
    · rw [if_neg c, if_neg c, key, nn]; simp only [e1, e2, e3]
  rw [if_neg h1, if_neg h1]
  by_cases h1 : op = 9
  · rw [if_pos h1, if_pos h1, key, cm]; simp only [e2]
  rw [if_neg h1, if_neg h1]
  by_cases h1 : op = 10
  · rw [if_pos h1, if_pos h1, key, cm]; simp only [e1]
  rw [if_neg h1, if_neg h1, key]
  simp only [e1, e2, e3]
end WK
