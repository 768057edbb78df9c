/-! the class's steps on what is seen -/
/-- rows are different objects -/
def Dis (σ : Sg) : Prop := (∀ i j, i < 24 → j < 24 → gN σ 100 i = gN σ 100 j → i = j) ∧ (∀ i, i < 24 → gN σ 100 i ≠ gN σ 20 1 ∧ gN σ 100 i ≠ 3) ∧ gN σ 20 1 ≠ 3 ∧ (∀ i j, i < 10 → j < 10 → gN σ 111 i = gN σ 111 j → i = j)
theorem Dis.of {σ τ : Sg} (h : Dis σ) (h1 : gN τ 100 = gN σ 100) (h2 : gN τ 20 = gN σ 20) (h3 : gN τ 111 = gN σ 111) : Dis τ := by
  unfold Dis
  rw [h1, h2, h3]
  exact h
theorem Wf.R3 {nw : Nat} {σ : Sg} (h : Wf nw σ) : ∀ i, i < 24 → 3 ≤ gN σ 100 i ∧ gN σ 100 i ≤ 53 := fun i hi => ⟨(kd_msg (h.R i hi)).1, (kd_msg (h.R i hi)).2.1⟩
theorem Wf.Q3 {nw : Nat} {σ : Sg} (h : Wf nw σ) : ∀ i, i < 10 → 81 ≤ gN σ 111 i ∧ gN σ 111 i ≤ 90 := h.2.1.1
def FS (σ τ : Sg) : Prop := Ex [1, 8] σ τ ∧ vS τ = vS σ + 1 ∧ (gN τ 100 = gN σ 100 ∧ gN τ 20 = gN σ 20 ∧ gN τ 111 = gN σ 111) ∧ (∀ q, q ≠ sendTo σ → mg τ q = mg σ q) ∧ gN τ 21 1 = (if gN σ 21 1 < 24 then gN σ 21 1 + 1 else gN σ 21 1)
section MGS
variable {σ : Sg} {q o : Nat}
theorem mg_I15 {v : Int32} (h : q ≠ o) : mg (sI σ 15 o v) q = mg σ q := by simp [mg, kof, gs, h]
theorem mg_I16 {v : Int32} (h : q ≠ o) : mg (sI σ 16 o v) q = mg σ q := by simp [mg, kof, gs, h]
theorem mg_I17 {v : Int32} (h : q ≠ o) : mg (sI σ 17 o v) q = mg σ q := by simp [mg, kof, gs, h]
theorem mg_N10 {v : Nat} (h : q ≠ o) : mg (sN σ 10 o v) q = mg σ q := by simp [mg, kof, gs, h]
theorem mg_N11 {v : Nat} (h : q ≠ o) : mg (sN σ 11 o v) q = mg σ q := by simp [mg, kof, gs, h]
theorem mg_N12 {v : Nat} (h : q ≠ o) : mg (sN σ 12 o v) q = mg σ q := by simp [mg, kof, gs, h]
theorem mg_B13 {v : Bool} (h : q ≠ o) : mg (sB σ 13 o v) q = mg σ q := by simp [mg, kof, gs, h]
theorem mg_B14 {v : Bool} (h : q ≠ o) : mg (sB σ 14 o v) q = mg σ q := by simp [mg, kof, gs, h]
end MGS
theorem fs_send (σ : Sg) (k r : Nat) : FS σ (fSend σ k r) := by
  unfold FS fSend sendTo
  by_cases c : gN σ 21 1 < 24
  · rw [if_pos c, if_pos c, if_pos c]
    refine ⟨(exN_22 σ 1 _).seq ((exN_21 _ 1 _).seq ((exN_10 _ _ _).seq (exN_11 _ _ _) (L := [1]) (by decide)) (L := [1]) (by decide)) (by decide), rfl, ⟨rfl, rfl, rfl⟩, fun q hq => ?_, rfl⟩
    rw [mg_N11 hq, mg_N10 hq]
    rfl
  · rw [if_neg c, if_neg c, if_neg c]
    refine ⟨(exN_22 σ 1 _).seq ((exN_10 _ _ _).seq (exN_11 _ _ _) (L := [1]) (by decide)) (by decide), rfl, ⟨rfl, rfl, rfl⟩, fun q hq => ?_, rfl⟩
    rw [mg_N11 hq, mg_N10 hq]
    rfl
theorem send_10 (σ : Sg) (k r : Nat) : gN (fSend σ k r) 10 (sendTo σ) = k := by
  unfold fSend sendTo
  by_cases c : gN σ 21 1 < 24
  · rw [if_pos c, if_pos c]; simp [gs]
  · rw [if_neg c, if_neg c]; simp [gs]
theorem send_11 (σ : Sg) (k r : Nat) : gN (fSend σ k r) 11 (sendTo σ) = r := by
  unfold fSend sendTo
  by_cases c : gN σ 21 1 < 24
  · rw [if_pos c, if_pos c]; simp [gs]
  · rw [if_neg c, if_neg c]; simp [gs]
section FSS
variable {σ τ : Sg}
theorem FS.i15 (h : FS σ τ) (v : Int32) : FS σ (sI τ 15 (sendTo σ) v) := ⟨h.1.seq (exI_15 τ _ v) (by decide), h.2.1, h.2.2.1, fun q hq => (mg_I15 hq).trans (h.2.2.2.1 q hq), h.2.2.2.2⟩
theorem FS.i16 (h : FS σ τ) (v : Int32) : FS σ (sI τ 16 (sendTo σ) v) := ⟨h.1.seq (exI_16 τ _ v) (by decide), h.2.1, h.2.2.1, fun q hq => (mg_I16 hq).trans (h.2.2.2.1 q hq), h.2.2.2.2⟩
theorem FS.i17 (h : FS σ τ) (v : Int32) : FS σ (sI τ 17 (sendTo σ) v) := ⟨h.1.seq (exI_17 τ _ v) (by decide), h.2.1, h.2.2.1, fun q hq => (mg_I17 hq).trans (h.2.2.2.1 q hq), h.2.2.2.2⟩
theorem FS.n12 (h : FS σ τ) (v : Nat) : FS σ (sN τ 12 (sendTo σ) v) := ⟨h.1.seq (exN_12 τ _ v) (by decide), h.2.1, h.2.2.1, fun q hq => (mg_N12 hq).trans (h.2.2.2.1 q hq), h.2.2.2.2⟩
theorem FS.b13 (h : FS σ τ) (v : Bool) : FS σ (sB τ 13 (sendTo σ) v) := ⟨h.1.seq (exB_13 τ _ v) (by decide), h.2.1, h.2.2.1, fun q hq => (mg_B13 hq).trans (h.2.2.2.1 q hq), h.2.2.2.2⟩
theorem FS.b14 (h : FS σ τ) (v : Bool) : FS σ (sB τ 14 (sendTo σ) v) := ⟨h.1.seq (exB_14 τ _ v) (by decide), h.2.1, h.2.2.1, fun q hq => (mg_B14 hq).trans (h.2.2.2.1 q hq), h.2.2.2.2⟩
theorem to_b {nw : Nat} {σ : Sg} (hW : Wf nw σ) : 3 ≤ sendTo σ ∧ sendTo σ ≤ 53 := ⟨(kd_msg (kd_to hW)).1, (kd_msg (kd_to hW)).2.1⟩
theorem FS.k {nw : Nat} (h : FS σ τ) (hW : Wf nw σ) (p : Int64) (a b : Int32) : FS σ (kset τ (sendTo σ + 1) p a b) := by
  have hb := to_b hW
  refine ⟨h.1.seq (ex_kF p a b (by rw [h.2.2.1.1]; exact hW.R3) (by rw [h.2.2.1.2.2]; exact hW.Q3) (by omega)) (by decide), h.2.1, h.2.2.1, fun q hq => ?_, h.2.2.2.2⟩
  rw [mg_k (by omega)]
  exact h.2.2.2.1 q hq
/-- the flight after a message more -/
theorem FS.view {nw : Nat} (h : FS σ τ) (hW : Wf nw σ) (hD : Dis σ) : vF τ = if (vF σ).1 < 24 then ((vF σ).1 + 1, up1 (vF σ).2 (vF σ).1 (mg τ (sendTo σ))) else vF σ := by
  show vF τ = if gN σ 21 1 < 24 then (gN σ 21 1 + 1, up1 (vF σ).2 (gN σ 21 1) (mg τ (sendTo σ))) else vF σ
  have h5 := h.2.2.2.2
  by_cases c : gN σ 21 1 < 24
  · rw [if_pos c] at h5 ⊢
    refine Prod.ext h5 (funext fun i => ?_)
    show (if i < 24 then mg τ (gN τ 100 i) else m00) = if i = gN σ 21 1 then mg τ (sendTo σ) else (if i < 24 then mg σ (gN σ 100 i) else m00)
    have st : sendTo σ = gN σ 100 (gN σ 21 1) := if_pos c
    by_cases e : i = gN σ 21 1
    · rw [if_pos e, if_pos (by omega), h.2.2.1.1, st, e]
    · rw [if_neg e, h.2.2.1.1]
      by_cases d : i < 24
      · rw [if_pos d, if_pos d, h.2.2.2.1 _ (fun z => e (hD.1 i _ d c (z.trans st)))]
      · rw [if_neg d, if_neg d]
  · rw [if_neg c] at h5 ⊢
    refine Prod.ext h5 (funext fun i => ?_)
    show (if i < 24 then mg τ (gN τ 100 i) else m00) = if i < 24 then mg σ (gN σ 100 i) else m00
    have st : sendTo σ = 3 := if_neg c
    rw [h.2.2.1.1]
    by_cases d : i < 24
    · rw [if_pos d, if_pos d, h.2.2.2.1 _ (by rw [st]; exact (hD.2.1 i d).2)]
    · rw [if_neg d, if_neg d]
theorem FS.dis (h : FS σ τ) (hD : Dis σ) : Dis τ := hD.of h.2.2.1.1 h.2.2.1.2.1 h.2.2.1.2.2
end FSS
/-- a message taken out -/
theorem take_mg (σ : Sg) (k q : Nat) : mg (fTake σ k) q = mg σ q := rfl
theorem ex_take (σ : Sg) (k : Nat) : Ex [1] σ (fTake σ k) := (ex_fSh σ k _).seq ((exN_21 _ _ _).seq ((exN_100 _ _ _).seq (exN_20 _ _ _) (L := [1]) (by decide)) (L := [1]) (by decide)) (by decide)
theorem take_row (σ : Sg) (k i : Nat) : gN (fTake σ k) 100 i = if i = gN σ 21 1 - 1 then gN σ 20 1 else if k ≤ i ∧ i + 1 < gN σ 21 1 then gN σ 100 (i + 1) else gN σ 100 i := by
  unfold fTake
  simp only [gs, fSh]
  simp [gN]
  congr
theorem take_view {σ : Sg} {k : Nat} (hn : gN σ 21 1 ≤ 24) (hk : k < gN σ 21 1) : (vF (fTake σ k)).1 = (vF σ).1 - 1 ∧ ∀ i, i < (vF σ).1 - 1 → (vF (fTake σ k)).2 i = shf (vF σ).2 k i := by
  refine ⟨rfl, fun i hi => ?_⟩
  have hi : i < gN σ 21 1 - 1 := hi
  show (if i < 24 then mg (fTake σ k) (gN (fTake σ k) 100 i) else m00) = if i < k then (if i < 24 then mg σ (gN σ 100 i) else m00) else (if i + 1 < 24 then mg σ (gN σ 100 (i + 1)) else m00)
  rw [if_pos (by omega), take_mg, take_row, if_neg (by omega)]
  by_cases c : i < k
  · rw [if_neg (by omega), if_pos c, if_pos (by omega)]
  · rw [if_pos (by omega), if_neg c, if_pos (by omega)]
theorem take_dis {σ : Sg} {k : Nat} (hn : gN σ 21 1 ≤ 24) (hk : k < gN σ 21 1) (h : Dis σ) : Dis (fTake σ k) := by
  have t20 : gN (fTake σ k) 20 1 = gN σ 100 k := rfl
  have ix : ∀ i, i < 24 → i ≠ gN σ 21 1 - 1 → ∃ j, j < 24 ∧ j ≠ k ∧ gN (fTake σ k) 100 i = gN σ 100 j ∧ (j = if k ≤ i ∧ i + 1 < gN σ 21 1 then i + 1 else i) := fun i hi hne => by
    refine ⟨if k ≤ i ∧ i + 1 < gN σ 21 1 then i + 1 else i, ?_, ?_, ?_, rfl⟩
    · split <;> omega
    · split <;> omega
    · rw [take_row, if_neg hne]; split <;> rfl
  have last : gN (fTake σ k) 100 (gN σ 21 1 - 1) = gN σ 20 1 := by rw [take_row, if_pos rfl]
  refine ⟨fun i j hi hj e => ?_, fun i hi => ?_, ?_, h.2.2.2⟩
  · by_cases ci : i = gN σ 21 1 - 1 <;> by_cases cj : j = gN σ 21 1 - 1
    · omega
    · obtain ⟨x, hx, _, ex, _⟩ := ix j hj cj
      rw [ci, last, ex] at e
      exact absurd e.symm (h.2.1 x hx).1
    · obtain ⟨x, hx, _, ex, _⟩ := ix i hi ci
      rw [cj, last, ex] at e
      exact absurd e (h.2.1 x hx).1
    · obtain ⟨x, hx, _, ex, dx⟩ := ix i hi ci
      obtain ⟨y, hy, _, ey, dy⟩ := ix j hj cj
      rw [ex, ey] at e
      have := h.1 x y hx hy e
      rw [dx, dy] at this
      split at this <;> split at this <;> omega
  · rw [t20]
    by_cases ci : i = gN σ 21 1 - 1
    · rw [ci, last]
      exact ⟨fun z => (h.2.1 k (by omega)).1 z.symm, h.2.2.1⟩
    · obtain ⟨x, hx, nx, ex, _⟩ := ix i hi ci
      rw [ex]
      exact ⟨fun z => nx (h.1 x k hx (by omega) z), (h.2.1 x hx).2⟩
  · rw [t20]
    exact (h.2.1 k (by omega)).2
