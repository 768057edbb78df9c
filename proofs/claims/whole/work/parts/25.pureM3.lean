/-! the reference: keys and items, and its longer methods -/
theorem php : ∀ (m n : Nat) (f : Nat → Nat), (∀ k, k < n → f k < m) → (∀ k k', k < n → k' < n → f k = f k' → k = k') → n ≤ m := by
  intro m
  induction m with
  | zero =>
    intro n f h1 _
    cases n with
    | zero => exact Nat.le_refl 0
    | succ n => exact absurd (h1 0 (by omega)) (by omega)
  | succ m ih =>
    intro n f h1 h2
    cases n with
    | zero => omega
    | succ n =>
      -- send f n to the top place
      have key : n ≤ m := by
        refine ih n (fun k => if f k = m then f n else f k) (fun k hk => ?_) (fun k k' hk hk' e => ?_)
        · show (if f k = m then f n else f k) < m
          by_cases c : f k = m
          · rw [if_pos c]
            have a := h1 n (by omega)
            have b : f n ≠ m := fun q => absurd (h2 k n (by omega) (by omega) (by omega)) (by omega)
            omega
          · rw [if_neg c]
            have a := h1 k (by omega)
            omega
        · have e : (if f k = m then f n else f k) = (if f k' = m then f n else f k') := e
          by_cases c : f k = m <;> by_cases c' : f k' = m
          · exact h2 k k' (by omega) (by omega) (by omega)
          · rw [if_pos c, if_neg c'] at e
            exact absurd (h2 n k' (by omega) (by omega) e) (by omega)
          · rw [if_neg c, if_pos c'] at e
            exact absurd (h2 k n (by omega) (by omega) e) (by omega)
          · rw [if_neg c, if_neg c'] at e
            exact h2 k k' (by omega) (by omega) e
      omega
/-- each key that the reference has written down is the key of an item whose inputs are known, and no two are the same -/
def KInv (σ : Sg) : Prop := (∃ f : Nat → Nat, ∀ k, k < gN σ 14 0 → f k < gN σ 5 0 ∧ gB σ 105 (gN σ 103 (f k)) = true ∧ gB σ 105 (gN σ 104 (f k)) = true ∧ mIK σ (f k) = mK3 σ k) ∧ ∀ k k', k < gN σ 14 0 → k' < gN σ 14 0 → mK3 σ k = mK3 σ k' → k = k'
theorem kinv_cap {σ : Sg} {i : Nat} (hK : KInv σ) (hit : gN σ 5 0 ≤ 10) (hi : i < gN σ 5 0) : fKey σ i = none → gN σ 14 0 < 10 := by
  intro hn
  obtain ⟨⟨f, hf⟩, hd⟩ := hK
  have h0 := fnd_no hn
  have := php (gN σ 5 0) (gN σ 14 0 + 1) (fun k => if k = gN σ 14 0 then i else f k) (fun k hk => ?_) (fun k k' hk hk' e => ?_)
  · omega
  · show (if k = gN σ 14 0 then i else f k) < gN σ 5 0
    by_cases c : k = gN σ 14 0
    · rw [if_pos c]; exact hi
    · rw [if_neg c]; exact (hf k (by omega)).1
  · have ne : ∀ k, k < gN σ 14 0 → f k ≠ i := fun k hk q => by
      have a := of_decide_eq_false (h0 k hk)
      rw [← q] at a
      exact a (hf k hk).2.2.2.symm
    have e : (if k = gN σ 14 0 then i else f k) = (if k' = gN σ 14 0 then i else f k') := e
    by_cases c : k = gN σ 14 0 <;> by_cases c' : k' = gN σ 14 0
    · omega
    · rw [if_pos c, if_neg c'] at e
      exact absurd e.symm (ne k' (by omega))
    · rw [if_neg c, if_pos c'] at e
      exact absurd e (ne k (by omega))
    · rw [if_neg c, if_neg c'] at e
      refine hd k k' (by omega) (by omega) ?_
      rw [← (hf k (by omega)).2.2.2, ← (hf k' (by omega)).2.2.2, e]
/-- states that agree on items and keys -/
theorem kinv_of {σ σ' : Sg} (h : KInv σ) (e1 : gN σ' 14 0 = gN σ 14 0) (e2 : gN σ' 5 0 = gN σ 5 0) (e3 : ∀ k, mK3 σ' k = mK3 σ k) (e4 : ∀ i, gN σ' 103 i = gN σ 103 i) (e5 : ∀ i, gN σ' 104 i = gN σ 104 i) (e6 : ∀ i, gB σ 105 i = true → gB σ' 105 i = true ∧ gI σ' 106 i = gI σ 106 i) (e7 : ∀ i, gJ σ' 102 i = gJ σ 102 i) : KInv σ' := by
  obtain ⟨⟨f, hf⟩, hd⟩ := h
  refine ⟨⟨f, fun k hk => ?_⟩, fun k k' hk hk' e => hd k k' (by omega) (by omega) (by rw [← e3, ← e3]; exact e)⟩
  obtain ⟨a, b, c, d⟩ := hf k (by omega)
  refine ⟨by omega, ?_, ?_, ?_⟩
  · rw [e4]; exact (e6 _ b).1
  · rw [e5]; exact (e6 _ c).1
  · rw [e3, ← d]
    unfold mIK
    rw [e7, e4, e5, (e6 _ b).2, (e6 _ c).2]
theorem kinv_key {σ : Sg} {i : Nat} (h : KInv σ) (hi : i < gN σ 5 0) (hr : mRdy σ i = true) : KInv (mKeyS σ i) := by
  unfold mKeyS
  cases hk : fKey σ i with
  | some k => exact h
  | none =>
    have h0 := fnd_no hk
    obtain ⟨⟨f, hf⟩, hd⟩ := h
    unfold mRdy at hr
    rw [Bool.and_eq_true, Bool.and_eq_true, Bool.and_eq_true] at hr
    have eK : ∀ k, mK3 (sN (sI (sI (sJ σ 109 (gN σ 14 0) (gJ σ 102 i)) 110 (gN σ 14 0) (dg (gI σ 106 (gN σ 103 i)))) 111 (gN σ 14 0) (dg (gI σ 106 (gN σ 104 i)))) 14 0 (gN σ 14 0 + 1)) k = if k = gN σ 14 0 then mIK σ i else mK3 σ k := by
      intro k
      by_cases c : k = gN σ 14 0
      · rw [if_pos c]
        simp [mK3, mIK, gs, c]
      · rw [if_neg c]
        simp [mK3, gs, c]
    have n0 : ∀ k, k < gN σ 14 0 → ¬ mK3 σ k = mIK σ i := fun k hk => of_decide_eq_false (h0 k hk)
    refine ⟨⟨fun k => if k = gN σ 14 0 then i else f k, fun k hk' => ?_⟩, fun k k' hk1 hk2 e => ?_⟩
    · have hk' : k < gN σ 14 0 + 1 := hk'
      rw [eK]
      show (if k = gN σ 14 0 then i else f k) < gN σ 5 0 ∧ gB σ 105 (gN σ 103 (if k = gN σ 14 0 then i else f k)) = true ∧ gB σ 105 (gN σ 104 (if k = gN σ 14 0 then i else f k)) = true ∧ mIK σ (if k = gN σ 14 0 then i else f k) = if k = gN σ 14 0 then mIK σ i else mK3 σ k
      by_cases c : k = gN σ 14 0
      · rw [if_pos c, if_pos c]
        exact ⟨hi, hr.2.2.1, hr.2.2.2, rfl⟩
      · rw [if_neg c, if_neg c]
        exact hf k (by omega)
    · have hk1 : k < gN σ 14 0 + 1 := hk1
      have hk2 : k' < gN σ 14 0 + 1 := hk2
      rw [eK, eK] at e
      by_cases c : k = gN σ 14 0 <;> by_cases c' : k' = gN σ 14 0
      · omega
      · rw [if_pos c, if_neg c'] at e
        exact absurd e.symm (n0 k' (by omega))
      · rw [if_neg c, if_pos c'] at e
        exact absurd e (n0 k (by omega))
      · rw [if_neg c, if_neg c'] at e
        exact hd k k' (by omega) (by omega) e
theorem kinv_learn {σ : Sg} {i : Nat} {c : Int32} (h : KInv σ) (hu : gB σ 105 i = false) : KInv (sI (sB σ 105 i true) 106 i c) := by
  refine kinv_of h rfl rfl (fun _ => rfl) (fun _ => rfl) (fun _ => rfl) (fun j hj => ?_) (fun _ => rfl)
  have hne : ¬ j = i := fun e => by rw [e, hu] at hj; cases hj
  constructor
  · show (if 105 = 105 ∧ j = i then true else gB σ 105 j) = true
    rw [if_neg (fun z => hne z.2)]; exact hj
  · show (if 106 = 106 ∧ j = i then c else gI σ 106 j) = gI σ 106 j
    exact if_neg (fun z => hne z.2)
theorem kinv_send {σ : Sg} {a b k i : Nat} {c d g : Int32} (h : KInv σ) : KInv (mSend σ a b k i c d g) :=
  kinv_of h (msend_N _ _ _ _ _ _ _ _ (by decide) _) (msend_N _ _ _ _ _ _ _ _ (by decide) _) (fun k => by unfold mK3; rw [msend_J, msend_I _ _ _ _ _ _ _ _ (by decide), msend_I _ _ _ _ _ _ _ _ (by decide)]) (fun i => msend_N _ _ _ _ _ _ _ _ (by decide) i) (fun i => msend_N _ _ _ _ _ _ _ _ (by decide) i) (fun i hi => ⟨by rw [msend_B]; exact hi, msend_I _ _ _ _ _ _ _ _ (by decide) i⟩) (fun i => msend_J _ _ _ _ _ _ _ _ _ i)
theorem kinv_ask {σ : Sg} {i : Nat} (h : KInv σ) (hi : i < gN σ 5 0) (hr : mRdy σ i = true) : KInv (mAsk σ i) := by
  have := kinv_send (a := 1) (b := 0) (k := mKeyR σ i) (i := i) (c := nI 0) (d := nI 0) (g := nI 0) (kinv_key h hi hr)
  exact kinv_of this rfl rfl (fun _ => rfl) (fun _ => rfl) (fun _ => rfl) (fun j hj => ⟨hj, rfl⟩) (fun _ => rfl)
theorem fKey_send (σ : Sg) (a b k i : Nat) (c d g : Int32) (j : Nat) : fKey (mSend σ a b k i c d g) j = fKey σ j := by
  unfold fKey
  rw [msend_N _ _ _ _ _ _ _ _ (by decide)]
  refine fnd_congr (fun q _ => ?_)
  have e1 : mK3 (mSend σ a b k i c d g) q = mK3 σ q := by
    unfold mK3; rw [msend_J, msend_I _ _ _ _ _ _ _ _ (by decide), msend_I _ _ _ _ _ _ _ _ (by decide)]
  have e2 : mIK (mSend σ a b k i c d g) j = mIK σ j := by
    unfold mIK; rw [msend_J, msend_N _ _ _ _ _ _ _ _ (by decide), msend_N _ _ _ _ _ _ _ _ (by decide), msend_I _ _ _ _ _ _ _ _ (by decide), msend_I _ _ _ _ _ _ _ _ (by decide)]
  rw [e1, e2]
theorem hc_send {σ : Sg} {a b k i : Nat} {c d g : Int32} {j : Nat} (h : fKey σ j = none → gN σ 14 0 < 10) : fKey (mSend σ a b k i c d g) j = none → gN (mSend σ a b k i c d g) 14 0 < 10 := by
  rw [fKey_send, msend_N _ _ _ _ _ _ _ _ (by decide)]
  exact h
def mLk1 (σ : Sg) (i : Nat) (a : Int32) : Sg := if a = nI 1 then mSend σ 3 0 0 0 (gI σ 106 (gN σ 103 i)) (nI 0) (dg (gI σ 106 (gN σ 103 i))) else σ
def mLk2 (σ : Sg) (i : Nat) (a b : Int32) : Sg := if b = nI 1 then mSend (mLk1 σ i a) 3 0 0 0 (gI σ 106 (gN σ 104 i)) (nI 0) (dg (gI σ 106 (gN σ 104 i))) else mLk1 σ i a
def mLk (σ : Sg) (i : Nat) (a b : Int32) : Sg := if gB σ 105 i = true then σ else mAsk (mLk2 σ i a b) i
def anS (s : Sg) (k : Nat) (c : Int32) (j : Nat) : Sg := if mRdy s j = true then (if mKeyR s j = k then sI (sB (mKeyS s j) 105 j true) 106 j c else mKeyS s j) else s
def anI (k : Nat) (c : Int32) : Nat → Sg → Sg
  | 0, s => s
  | j + 1, s => anI k c j (anS s k c j)
def anO (σ : Sg) (k : Nat) (c : Int32) : Nat → Sg
  | 0 => σ
  | r + 1 => anI k c (gN σ 5 0) (anO σ k c r)
theorem anS_N (s : Sg) (k : Nat) (c : Int32) (j : Nat) {f : Nat} (hf : f ≠ 14) (o : Nat) : gN (anS s k c j) f o = gN s f o := by
  unfold anS
  split
  · split
    · exact mkey_N s j hf o
    · exact mkey_N s j hf o
  · rfl
theorem anI_N (k : Nat) (c : Int32) {f : Nat} (hf : f ≠ 14) (o : Nat) : ∀ (j : Nat) (s : Sg), gN (anI k c j s) f o = gN s f o
  | 0, s => rfl
  | j + 1, s => (anI_N k c hf o j (anS s k c j)).trans (anS_N s k c j hf o)
theorem anO_N (σ : Sg) (k : Nat) (c : Int32) {f : Nat} (hf : f ≠ 14) (o : Nat) : ∀ r, gN (anO σ k c r) f o = gN σ f o
  | 0 => rfl
  | r + 1 => (anI_N k c hf o _ _).trans (anO_N σ k c hf o r)
theorem rdy_un {σ : Sg} {j : Nat} (h : mRdy σ j = true) : gB σ 105 j = false := by
  unfold mRdy at h
  rw [Bool.and_eq_true, Bool.and_eq_true] at h
  simpa using h.2.1
theorem anS_ok {B : Nat} {s : Sg} {k : Nat} {c : Int32} {j : Nat} (h : WfM B s) (hK : KInv s) (hj : j < gN s 5 0) : WfM B (anS s k c j) ∧ KInv (anS s k c j) := by
  unfold anS
  by_cases c1 : mRdy s j = true
  · rw [if_pos c1]
    have hw := wfm_key h (kinv_cap hK h.it hj)
    have hk := kinv_key hK hj c1
    by_cases c2 : mKeyR s j = k
    · rw [if_pos c2]
      exact ⟨wfm_I (wfm_B hw), kinv_learn hk (by rw [mkey_B]; exact rdy_un c1)⟩
    · rw [if_neg c2]
      exact ⟨hw, hk⟩
  · rw [if_neg c1]
    exact ⟨h, hK⟩
theorem anI_ok {B k : Nat} {c : Int32} : ∀ (j : Nat) {s : Sg}, WfM B s → KInv s → j ≤ gN s 5 0 → WfM B (anI k c j s) ∧ KInv (anI k c j s)
  | 0, s, h, hK, _ => ⟨h, hK⟩
  | j + 1, s, h, hK, hj => by
    have a := anS_ok (k := k) (c := c) h hK (show j < gN s 5 0 by omega)
    exact anI_ok j a.1 a.2 (by rw [anS_N _ _ _ _ (by decide)]; omega)
theorem anO_ok {B : Nat} {σ : Sg} {k : Nat} {c : Int32} (h : WfM B σ) (hK : KInv σ) : ∀ r, WfM B (anO σ k c r) ∧ KInv (anO σ k c r)
  | 0 => ⟨h, hK⟩
  | r + 1 => anI_ok _ (anO_ok h hK r).1 (anO_ok h hK r).2 (by rw [anO_N _ _ _ (by decide)]; exact Nat.le_refl _)
def mActN (s : Sg) (g : Int64) : Nat → Sg
  | 0 => s
  | n + 1 => mActS (mActN s g n) (insn g (gN (mActN s g n) 32 0))
theorem actN_N (s : Sg) (g : Int64) {f : Nat} (hf : f ≠ 32) (o : Nat) : ∀ n, gN (mActN s g n) f o = gN s f o
  | 0 => rfl
  | n + 1 => (actS_N _ _ hf o).trans (actN_N s g hf o n)
theorem actS_p (σ : Sg) (op : Nat) : gN (mActS σ op) 32 0 ≤ gN σ 32 0 + 2 := by
  unfold mActS
  by_cases c1 : op = 1
  · rw [if_pos c1]; exact (show gN σ 32 0 + 1 ≤ gN σ 32 0 + 2 by omega)
  rw [if_neg c1]
  by_cases c2 : op = 2
  · rw [if_pos c2]; exact (show gN σ 32 0 + 1 ≤ gN σ 32 0 + 2 by omega)
  rw [if_neg c2]
  by_cases c3 : op = 3
  · rw [if_pos c3]; exact (show gN σ 32 0 + 1 ≤ gN σ 32 0 + 2 by omega)
  rw [if_neg c3]
  by_cases c4 : op = 4
  · rw [if_pos c4]; exact (show gN σ 32 0 + 1 ≤ gN σ 32 0 + 2 by omega)
  rw [if_neg c4]
  by_cases c5 : op = 5
  · rw [if_pos c5]; exact (show gN σ 32 0 + 1 ≤ gN σ 32 0 + 2 by omega)
  rw [if_neg c5]
  by_cases c6 : op = 6
  · rw [if_pos c6]; exact (show gN σ 32 0 + 1 ≤ gN σ 32 0 + 2 by omega)
  rw [if_neg c6]
  by_cases c7 : op = 7
  · rw [if_pos c7]
    by_cases d : gI σ 31 0 ≤ 0
    · rw [if_pos d]; exact (show gN σ 32 0 + 1 ≤ gN σ 32 0 + 2 by omega)
    · rw [if_neg d]; exact (show 0 ≤ gN σ 32 0 + 2 by omega)
  rw [if_neg c7]
  by_cases c8 : op = 8
  · rw [if_pos c8]
    by_cases d : gI σ 30 0 &&& nI 1 = nI 1
    · rw [if_pos d]; exact (show gN σ 32 0 + 2 ≤ gN σ 32 0 + 2 by omega)
    · rw [if_neg d]; exact (show gN σ 32 0 + 1 ≤ gN σ 32 0 + 2 by omega)
  rw [if_neg c8]
  by_cases c9 : op = 9
  · rw [if_pos c9]; exact (show gN σ 32 0 + 1 ≤ gN σ 32 0 + 2 by omega)
  rw [if_neg c9]
  by_cases c10 : op = 10
  · rw [if_pos c10]
    by_cases d : gI σ 31 0 ≤ gI σ 30 0
    · rw [if_pos d]; exact (show gN σ 32 0 + 1 ≤ gN σ 32 0 + 2 by omega)
    · rw [if_neg d]; exact (show gN σ 32 0 + 1 ≤ gN σ 32 0 + 2 by omega)
  rw [if_neg c10]; exact (show gN σ 32 0 + 1 ≤ gN σ 32 0 + 2 by omega)
theorem actN_p (s : Sg) (g : Int64) : ∀ n, gN (mActN s g n) 32 0 ≤ gN s 32 0 + 2 * n
  | 0 => Nat.le_refl _
  | n + 1 => by
    have a := actN_p s g n
    have b := actS_p (mActN s g n) (insn g (gN (mActN s g n) 32 0))
    show gN (mActS (mActN s g n) (insn g (gN (mActN s g n) 32 0))) 32 0 ≤ _
    omega
def mW0 (σ : Sg) (w : Nat) : Sg := sN (sI (sI σ 30 0 (gI σ 119 w)) 31 0 (gI σ 120 w)) 32 0 0
def mWE (σ : Sg) (w : Nat) : Sg := mActN (mW0 σ w) (gJ σ 109 (gN σ 118 w - 1)) (gN σ 121 w)
def mWork (σ : Sg) (w : Nat) : Sg := if insn (gJ σ 109 (gN σ 118 w - 1)) (gN (mWE σ w) 32 0) = 0 then sN (mSend (mWE σ w) 5 0 (gN σ 118 w - 1) 0 (gI (mWE σ w) 30 0) (nI 0) (dg (gI (mWE σ w) 30 0))) 118 w 0 else sN (mWE σ w) 121 w (gN σ 121 w + 1)
theorem WE_N (σ : Sg) (w : Nat) {f : Nat} (hf : f ≠ 32) (o : Nat) : gN (mWE σ w) f o = gN σ f o := (actN_N _ _ hf o _).trans (if_neg (fun (z : f = 32 ∧ o = 0) => hf z.1))
theorem wfm_WE {B : Nat} {σ : Sg} {w : Nat} (h : WfM B σ) : WfM B (mWE σ w) := wfm_of h (fun f hf o => (actN_N _ _ (fun e => absurd (e ▸ hf) (by decide)) o _).trans (if_neg (fun (z : f = 32 ∧ o = 0) => absurd (z.1 ▸ hf) (by decide))))
theorem wfm_work {B : Nat} {σ : Sg} {w : Nat} (h : WfM B σ) (hk : gN σ 118 w ≤ 10) (hk0 : 0 < gN σ 118 w) : WfM (B + 1) (mWork σ w) := by
  have hj := h.jd w
  unfold mWork
  split
  · exact wfm_118 (wfm_send (wfm_WE h) (by decide) (by decide) (by omega) (by decide)) (Nat.zero_le _)
  · exact wfm_121 ((wfm_WE h).mono (Nat.le_add_right B 1)) (by omega)
def mnq (σ : Sg) : Nat → Option Nat
  | 0 => none
  | k + 1 => if gN σ 114 k = 0 then mnq σ k else (match mnq σ k with
    | none => some k
    | some f => if gN σ 114 k < gN σ 114 f then some k else some f)
theorem mnq_lt {σ : Sg} : ∀ {n i : Nat}, mnq σ n = some i → i < n
  | 0, i, h => by cases h
  | n + 1, i, h => by
    unfold mnq at h
    split at h
    · have := mnq_lt h; omega
    · cases hm : mnq σ n with
      | none => rw [hm] at h; cases h; omega
      | some f =>
        rw [hm] at h
        have a := mnq_lt hm
        have h : (if gN σ 114 n < gN σ 114 f then some n else some f) = some i := h
        split at h
        · cases h; omega
        · cases h; omega
def cD (σ : Sg) (d : Nat) : Nat := (gN σ 3 0 + d - 1) % gN σ 0 0 + 1
def lwN (σ : Sg) : Nat → Nat
  | 0 => 0
  | i + 1 => if lsd σ (cD σ (gN σ 0 0 - i)) = none then cD σ (gN σ 0 0 - i) else lwN σ i
theorem cD_le {σ : Sg} {d : Nat} (h : 1 ≤ gN σ 0 0) : cD σ d ≤ gN σ 0 0 := by
  have := Nat.mod_lt (gN σ 3 0 + d - 1) (show 0 < gN σ 0 0 by omega)
  unfold cD
  omega
theorem lwN_le {σ : Sg} (h : 1 ≤ gN σ 0 0) : ∀ i, lwN σ i ≤ gN σ 0 0
  | 0 => Nat.zero_le _
  | i + 1 => by
    unfold lwN
    split
    · exact cD_le h
    · exact lwN_le h i
def mLen1 (σ : Sg) (f w : Nat) : Sg := sN (sN (sN (sN (sN σ 114 f 0) 115 f w) 116 f (gN σ 2 0 + gN σ 1 0)) 3 0 w) 43 0 (gN σ 43 0 + 1)
def mLen2 (σ : Sg) (f w : Nat) : Sg := mSend (mLen1 σ f w) 4 w f 0 (mOf σ (mFind (mLen1 σ f w) (gI σ 110 f))) (mOf σ (mFind (mLen1 σ f w) (gI σ 111 f))) (nI 0)
def mLend (σ : Sg) : Sg := match mnq σ (gN σ 14 0) with
  | none => σ
  | some f => if lwN σ (gN σ 0 0) = 0 then σ else mLen2 σ f (lwN σ (gN σ 0 0))
theorem lend_e {a d : Nat} (h : 1 ≤ d) : nI a - nI 1 + nI d = nI (a + d - 1) := by
  have e : a + d - 1 = a + (d - 1) := by omega
  rw [e, ← nI_add, ← pk_sub h, Int32.sub_eq_add_neg, Int32.sub_eq_add_neg, Int32.add_assoc, Int32.add_comm (-nI 1) (nI d)]
theorem wfm_lend {B : Nat} {σ : Sg} (h : WfM B σ) : WfM (B + 1) (mLend σ) := by
  have h2 := h.tm
  have h3 := h.ln
  have h4 := lwN_le h.wk.1 (gN σ 0 0)
  have h5 := h.wk
  unfold mLend
  cases hm : mnq σ (gN σ 14 0) with
  | none => exact h.mono (by omega)
  | some f =>
    have hf := mnq_lt hm
    have hk := h.ks
    show WfM (B + 1) (if lwN σ (gN σ 0 0) = 0 then σ else mLen2 σ f (lwN σ (gN σ 0 0)))
    split
    · exact h.mono (by omega)
    · exact wfm_send (wfm_N (by decide) (wfm_3 (wfm_116 (wfm_115 (wfm_114 h (Nat.zero_le _)) (by omega)) (by omega)) (show lwN σ (gN σ 0 0) ≤ gN σ 0 0 from h4))) (by decide) (by omega) (by omega) (by decide)
