/-! the reference: the server's side -/
def anyN (P : Nat → Bool) : Nat → Bool
  | 0 => false
  | n + 1 => anyN P n || P n
def mNeedP (σ : Sg) (d : Int32) (k : Nat) : Bool := (gB σ 112 k && decide (gI σ 113 k = d)) || ((decide (0 < gN σ 114 k) || decide (0 < gN σ 115 k)) && (decide (gI σ 110 k = d) || decide (gI σ 111 k = d)))
def mNeed (σ : Sg) (d : Int32) : Bool := anyN (fun k => mNeedP σ d k) (gN σ 14 0)
def colN (σ : Sg) : Nat → Sg × Nat
  | 0 => (σ, 0)
  | i + 1 => if mNeed (colN σ i).1 (dg (gI (colN σ i).1 117 i)) = true then (sI (colN σ i).1 117 (colN σ i).2 (gI (colN σ i).1 117 i), (colN σ i).2 + 1) else colN σ i
theorem colN_N (σ : Sg) : ∀ i, gN (colN σ i).1 = gN σ
  | 0 => rfl
  | i + 1 => by
    unfold colN
    split
    · exact colN_N σ i
    · exact colN_N σ i
theorem colN_le (σ : Sg) : ∀ i, (colN σ i).2 ≤ i
  | 0 => Nat.le_refl 0
  | i + 1 => by
    have := colN_le σ i
    unfold colN
    split
    · show (colN σ i).2 + 1 ≤ i + 1
      omega
    · omega
def mColR (σ : Sg) : Int32 := if gB σ 100 0 = true then -1 else nI (gN σ 24 0 - (colN σ (gN σ 24 0)).2)
def mColS (σ : Sg) : Sg := if gB σ 100 0 = true then σ else sN (colN σ (gN σ 24 0)).1 24 0 (colN σ (gN σ 24 0)).2
def fl0 (σ : Sg) (i : Nat) : Sg := (σ.1, σ.2.1, fun f o => if (f = 114 ∨ f = 115) ∧ o < i then 0 else gN σ f o, σ.2.2.2)
theorem fl0_0 (σ : Sg) : fl0 σ 0 = σ := by
  refine sg_ext (fun _ _ => rfl) (fun _ _ => rfl) (fun x y => ?_) (fun _ _ => rfl)
  exact if_neg (by omega)
theorem fl0_s {σ : Sg} {i : Nat} : sN (sN (fl0 σ i) 114 i 0) 115 i 0 = fl0 σ (i + 1) := by
  refine sg_ext (fun _ _ => rfl) (fun _ _ => rfl) (fun x y => ?_) (fun _ _ => rfl)
  show (if x = 115 ∧ y = i then 0 else if x = 114 ∧ y = i then 0 else if (x = 114 ∨ x = 115) ∧ y < i then 0 else gN σ x y) = if (x = 114 ∨ x = 115) ∧ y < i + 1 then 0 else gN σ x y
  by_cases h1 : x = 115 ∧ y = i
  · rw [if_pos h1, if_pos (by omega)]
  · rw [if_neg h1]
    by_cases h2 : x = 114 ∧ y = i
    · rw [if_pos h2, if_pos (by omega)]
    · rw [if_neg h2]
      by_cases h3 : (x = 114 ∨ x = 115) ∧ y < i
      · rw [if_pos h3, if_pos (by omega)]
      · rw [if_neg h3, if_neg (by omega)]
def mFall (σ : Sg) (n : Nat) : Sg := if n = 0 then sN (fl0 (sB σ 100 0 true) (gN σ 14 0)) 3 0 0 else sN (sN (sB σ 100 n true) 118 n 0) 3 0 (gN σ 3 0)
def mNd (σ : Sg) (x : Int32) : Bool := decide (0 ≤ x.toInt ∧ x.toInt ≤ gN σ 0 0)
def mCrB (σ : Sg) (x : Int32) : Bool := mNd σ x && !gB σ 100 x.toNatClampNeg
def mCrash (σ : Sg) (x : Int32) : Sg := if mCrB σ x = true then mFall σ x.toNatClampNeg else σ
def mReB (σ : Sg) (x : Int32) : Bool := mNd σ x && gB σ 100 x.toNatClampNeg
def mRest (σ : Sg) (x : Int32) : Sg := if mReB σ x = true then sB σ 100 x.toNatClampNeg false else σ
theorem mNd_lo {σ : Sg} {x : Int32} (h : x < 0) : mNd σ x = false := by
  rw [Int32.lt_iff_toInt_lt, Int32.toInt_zero] at h
  exact decide_eq_false (by omega)
theorem mNd_hi {σ : Sg} {x : Int32} (hn : gN σ 0 0 ≤ 4) (h : nI (gN σ 0 0) < x) : mNd σ x = false := by
  rw [Int32.lt_iff_toInt_lt, nI_toInt (by omega)] at h
  exact decide_eq_false (by omega)
theorem mNd_in {σ : Sg} {x : Int32} (hn : gN σ 0 0 ≤ 4) (h1 : ¬ x < 0) (h2 : ¬ nI (gN σ 0 0) < x) : mNd σ x = true ∧ ∃ j, j ≤ gN σ 0 0 ∧ x = nI j := by
  rw [Int32.lt_iff_toInt_lt, Int32.toInt_zero] at h1
  rw [Int32.lt_iff_toInt_lt, nI_toInt (by omega)] at h2
  refine ⟨decide_eq_true (by omega), x.toInt.toNat, by omega, ?_⟩
  apply Int32.toInt_inj.mp
  rw [nI_toInt (by omega)]
  omega
def mMay (σ : Sg) (cut : Int32) : Bool := decide (cut < 0) || decide (nI (gN σ 49 0) < cut)
def mMayS (σ : Sg) (cut : Int32) : Sg := if mMay σ cut = true then sN σ 49 0 (gN σ 49 0 + 1) else sN (mFall σ 0) 48 0 (gN σ 48 0 + 1)
def mPut (σ : Sg) (d c cut : Int32) : Sg := match mFind σ d with
  | some _ => σ
  | none => if mMay σ cut = true then sN (sN (sI (mMayS σ cut) 117 (gN σ 24 0) c) 24 0 (gN σ 24 0 + 1)) 44 0 (gN σ 44 0 + 1) else mMayS σ cut
def mLease (σ : Sg) (w k : Nat) (a b : Int32) : Sg := sN (sI (sI (sN σ 118 w (k + 1)) 119 w a) 120 w b) 121 w 0
def mResE (s : Sg) (k : Nat) (d c : Int32) : Sg := mSend (sN (sN (sI (sB s 112 k true) 113 k d) 114 k 0) 115 k 0) 6 9 k 0 c (nI 0) d
def mResW (σ : Sg) (c cut : Int32) : Sg := sN (sI (mMayS σ cut) 117 (gN σ 24 0) c) 24 0 (gN σ 24 0 + 1)
def mRes2 (s : Sg) (k : Nat) (d c cut : Int32) : Sg := if mMay s cut = true then mResE (mMayS s cut) k d c else mMayS s cut
def mRes (σ : Sg) (k : Nat) (d c cut : Int32) : Sg := if gB σ 112 k = true then sN σ 47 0 (gN σ 47 0 + 1) else match mFind σ d with
  | some _ => mRes2 σ k d c cut
  | none => if mMay σ cut = true then mRes2 (mResW σ c cut) k d c cut else mMayS σ cut
def mOf (σ : Sg) (x : Option Nat) : Int32 := match x with
  | none => nI 0
  | some j => gI σ 117 j
def oB (x : Option Nat) : Int32 := match x with
  | none => nI 1
  | some _ => nI 0
def mTkA (σ : Sg) (k i : Nat) : Sg := if gB σ 112 k = true then mSend (sN σ 45 0 (gN σ 45 0 + 1)) 6 9 k 0 (mOf σ (mFind (sN σ 45 0 (gN σ 45 0 + 1)) (gI σ 113 k))) (nI 0) (gI σ 113 k)
  else match mFind σ (gI σ 110 k), mFind σ (gI σ 111 k) with
  | some _, some _ => if gN σ 114 k = 0 then (if gN σ 115 k = 0 then sN (sN σ 23 0 (gN σ 23 0 + 1)) 114 k (gN σ 23 0 + 1) else σ) else σ
  | x, y => mSend σ 2 9 k i (oB x) (oB y) (nI 0)
def lsd (σ : Sg) (w : Nat) : Option Nat := fnd (fun k => decide (gN σ 115 k = w)) (gN σ 14 0)
def mExp (σ : Sg) (w : Nat) : Sg := match lsd σ w with
  | none => σ
  | some k => if gN σ 116 k ≤ gN σ 2 0 then sN (sN (sN σ 115 k 0) 23 0 (gN σ 23 0 + 1)) 114 k (gN σ 23 0 + 1) else σ
def mWait (σ : Sg) : Nat := cnt (fun k => decide (0 < gN σ 114 k)) (gN σ 14 0)
def mRess (σ : Sg) : Nat := cnt (fun k => gB σ 112 k) (gN σ 14 0)
def mMiss (σ : Sg) : Nat := cnt (fun k => !gB σ 105 k) (gN σ 5 0)
def mDoi (σ : Sg) (x : Int32) : Int32 := if isW (gN σ 0 0) x = true then (if gN σ 118 x.toInt.toNat = 0 then -1 else nI (gN σ 121 x.toInt.toNat)) else -1
def mLea (σ : Sg) (x : Int32) : Int32 := if isW (gN σ 0 0) x = true then (match lsd σ x.toInt.toNat with
  | none => -1
  | some k => nI (gN σ 116 k) - nI (gN σ 2 0)) else -1
def mCnt (σ : Sg) (x : Int32) : Int32 :=
  if x = nI 0 then nI (gN σ 24 0) else if x = nI 1 then nI (mRess σ) else if x = nI 2 then nI (gN σ 43 0) else if x = nI 3 then nI (gN σ 44 0) else if x = nI 4 then nI (gN σ 45 0)
  else if x = nI 5 then nI (gN σ 46 0) else if x = nI 6 then nI (gN σ 47 0) else if x = nI 7 then nI (gN σ 48 0) else if x = nI 8 then nI (gN σ 2 0) else if x = nI 9 then nI (mMiss σ) else -1
def mActS (σ : Sg) (op : Nat) : Sg :=
  if op = 1 then sN (sI σ 30 0 (gI σ 30 0 + gI σ 31 0)) 32 0 (gN σ 32 0 + 1)
  else if op = 2 then sN (sI σ 30 0 (gI σ 30 0 - gI σ 31 0)) 32 0 (gN σ 32 0 + 1)
  else if op = 3 then sN (sI σ 30 0 (gI σ 30 0 ^^^ gI σ 31 0)) 32 0 (gN σ 32 0 + 1)
  else if op = 4 then sN (sI σ 30 0 (gI σ 30 0 >>> (nI 1 &&& 31))) 32 0 (gN σ 32 0 + 1)
  else if op = 5 then sN (sI σ 30 0 (gI σ 30 0 * nI 3 + nI 1)) 32 0 (gN σ 32 0 + 1)
  else if op = 6 then sN (sI (sI σ 30 0 (gI σ 31 0)) 31 0 (gI σ 30 0)) 32 0 (gN σ 32 0 + 1)
  else if op = 7 then (if gI σ 31 0 ≤ 0 then sN (sI σ 31 0 (gI σ 31 0)) 32 0 (gN σ 32 0 + 1) else sN (sI σ 31 0 (gI σ 31 0 - nI 1)) 32 0 0)
  else if op = 8 then (if gI σ 30 0 &&& nI 1 = nI 1 then sN σ 32 0 (gN σ 32 0 + 2) else sN σ 32 0 (gN σ 32 0 + 1))
  else if op = 9 then sN (sI σ 31 0 (gI σ 30 0)) 32 0 (gN σ 32 0 + 1)
  else if op = 10 then (if gI σ 31 0 ≤ gI σ 30 0 then sN (sI σ 30 0 (gI σ 30 0)) 32 0 (gN σ 32 0 + 1) else sN (sI σ 30 0 (gI σ 31 0)) 32 0 (gN σ 32 0 + 1))
  else sN σ 32 0 (gN σ 32 0 + 1)
section WM2
variable {B : Nat} {σ : Sg}
theorem wfm_colN (h : WfM B σ) (i : Nat) : WfM B (colN σ i).1 := wfm_of h (fun f _ o => by rw [colN_N])
theorem wfm_col (h : WfM B σ) : WfM B (mColS σ) := by
  unfold mColS
  split
  · exact h
  · exact wfm_24 (wfm_colN h _) (by have := colN_le σ (gN σ 24 0); have := h.bl; omega)
theorem wfm_fl0 {i : Nat} (h : WfM B σ) : WfM B (fl0 σ i) := by
  have key : ∀ (x y : Nat) (P : Nat → Prop), P (gN σ x y) → P 0 → P (gN (fl0 σ i) x y) := by
    intro x y P a b
    show P (if (x = 114 ∨ x = 115) ∧ y < i then 0 else gN σ x y)
    split
    · exact b
    · exact a
  exact ⟨h.1, h.2.1, h.2.2.1, h.2.2.2.1, ⟨h.bo, h.bi, fun k => key 114 k (fun z => z ≤ B) (h.qd k) (Nat.zero_le _), h.qu⟩, ⟨fun k => key 115 k (fun z => z ≤ 4) (h.ho k) (by decide), h.en⟩, h.2.2.2.2.2.2⟩
theorem wfm_fall {n : Nat} (h : WfM B σ) : WfM B (mFall σ n) := by
  unfold mFall
  split
  · exact wfm_3 (wfm_fl0 (wfm_B h)) (Nat.zero_le _)
  · exact wfm_3 (wfm_118 (wfm_B h) (Nat.zero_le _)) h.la
theorem wfm_crash {x : Int32} (h : WfM B σ) : WfM B (mCrash σ x) := by
  unfold mCrash
  split
  · exact wfm_fall h
  · exact h
theorem wfm_rest {x : Int32} (h : WfM B σ) : WfM B (mRest σ x) := by
  unfold mRest
  split
  · exact wfm_B h
  · exact h
theorem wfm_may {cut : Int32} (h : WfM B σ) : WfM B (mMayS σ cut) := by
  unfold mMayS
  split
  · exact wfm_N (by decide) h
  · exact wfm_N (by decide) (wfm_fall h)
theorem fall_N (σ : Sg) {f : Nat} (hf : f ≠ 114 ∧ f ≠ 115 ∧ f ≠ 3 ∧ f ≠ 118) (n o : Nat) : gN (mFall σ n) f o = gN σ f o := by
  obtain ⟨h1, h2, h3, h4⟩ := hf
  unfold mFall
  split
  · show (if f = 3 ∧ o = 0 then 0 else if (f = 114 ∨ f = 115) ∧ o < gN σ 14 0 then 0 else gN σ f o) = gN σ f o
    rw [if_neg (fun z => h3 z.1), if_neg (fun z => z.1.elim h1 h2)]
  · simp [gs, h3, h4]
theorem may_N (σ : Sg) (cut : Int32) {f : Nat} (hf : f ≠ 114 ∧ f ≠ 115 ∧ f ≠ 3 ∧ f ≠ 118 ∧ f ≠ 48 ∧ f ≠ 49) (o : Nat) : gN (mMayS σ cut) f o = gN σ f o := by
  obtain ⟨h1, h2, h3, h4, h5, h6⟩ := hf
  unfold mMayS
  split
  · simp [gs, h6]
  · have := fall_N σ ⟨h1, h2, h3, h4⟩ 0 o
    simp [gs, h5, this]
theorem wfm_put {d c cut : Int32} (h : WfM B σ) (hb : gN σ 24 0 < 12) : WfM B (mPut σ d c cut) := by
  unfold mPut
  split
  · exact h
  · split
    · exact wfm_N (by decide) (wfm_24 (wfm_I (wfm_may h)) (by omega))
    · exact wfm_may h
theorem wfm_lease {w k : Nat} {a b : Int32} (h : WfM B σ) (hk : k < 10) : WfM B (mLease σ w k a b) := wfm_121 (wfm_I (wfm_I (wfm_118 h (by omega)))) (Nat.zero_le _)
theorem wfm_resE {k : Nat} {d c : Int32} (h : WfM B σ) (hk : k < 10) : WfM (B + 1) (mResE σ k d c) := wfm_send (wfm_115 (wfm_114 (wfm_I (wfm_B h)) (Nat.zero_le _)) (Nat.zero_le _)) (by decide) (by decide) hk (by decide)
theorem wfm_resW {c cut : Int32} (h : WfM B σ) (hb : gN σ 24 0 < 12) : WfM B (mResW σ c cut) := wfm_24 (wfm_I (wfm_may h)) (by omega)
theorem wfm_res2 {k : Nat} {d c cut : Int32} (h : WfM B σ) (hk : k < 10) : WfM (B + 1) (mRes2 σ k d c cut) := by
  unfold mRes2
  split
  · exact wfm_resE (wfm_may h) hk
  · exact (wfm_may h).mono (by omega)
theorem wfm_res {k : Nat} {d c cut : Int32} (h : WfM B σ) (hk : k < 10) (hb : gN σ 24 0 < 12) : WfM (B + 1) (mRes σ k d c cut) := by
  unfold mRes
  split
  · exact (wfm_N (by decide) h).mono (by omega)
  · split
    · exact wfm_res2 h hk
    · split
      · exact wfm_res2 (wfm_resW h hb) hk
      · exact (wfm_may h).mono (by omega)
theorem wfm_tkA {k i : Nat} (h : WfM B σ) (hk : k < 10) (hi : i < 10) : WfM (B + 1) (mTkA σ k i) := by
  have hq := h.qu
  unfold mTkA
  split
  · exact wfm_send (wfm_N (by decide) h) (by decide) (by decide) hk (by decide)
  · split
    · split
      · split
        · exact wfm_114 (wfm_23 (h.mono (by omega)) (by omega)) (by omega)
        · exact h.mono (by omega)
      · exact h.mono (by omega)
    · exact wfm_send h (by decide) (by decide) hk hi
theorem lsd_lt {w : Nat} (h : WfM B σ) : ∀ i, lsd σ w = some i → i < 10 := fun i hi => Nat.lt_of_lt_of_le (fnd_spec hi).1 h.ks
theorem wfm_exp {w : Nat} (h : WfM B σ) : WfM (B + 1) (mExp σ w) := by
  have hq := h.qu
  have h := h.mono (Nat.le_add_right B 1)
  unfold mExp
  split
  · exact h
  · split
    · exact wfm_114 (wfm_23 (wfm_115 h (Nat.zero_le _)) (by omega)) (by omega)
    · exact h
theorem actS_N (σ : Sg) (op : Nat) {f : Nat} (hf : f ≠ 32) (o : Nat) : gN (mActS σ op) f o = gN σ f o := by
  have e : ∀ (s : Sg) (v : Nat), gN (sN s 32 0 v) f o = gN s f o := fun s v => if_neg (fun z => hf z.1)
  unfold mActS
  by_cases c1 : op = 1
  · rw [if_pos c1]; exact e _ _
  rw [if_neg c1]
  by_cases c2 : op = 2
  · rw [if_pos c2]; exact e _ _
  rw [if_neg c2]
  by_cases c3 : op = 3
  · rw [if_pos c3]; exact e _ _
  rw [if_neg c3]
  by_cases c4 : op = 4
  · rw [if_pos c4]; exact e _ _
  rw [if_neg c4]
  by_cases c5 : op = 5
  · rw [if_pos c5]; exact e _ _
  rw [if_neg c5]
  by_cases c6 : op = 6
  · rw [if_pos c6]; exact e _ _
  rw [if_neg c6]
  by_cases c7 : op = 7
  · rw [if_pos c7]
    by_cases d : gI σ 31 0 ≤ 0
    · rw [if_pos d]; exact e _ _
    · rw [if_neg d]; exact e _ _
  rw [if_neg c7]
  by_cases c8 : op = 8
  · rw [if_pos c8]
    by_cases d : gI σ 30 0 &&& nI 1 = nI 1
    · rw [if_pos d]; exact e _ _
    · rw [if_neg d]; exact e _ _
  rw [if_neg c8]
  by_cases c9 : op = 9
  · rw [if_pos c9]; exact e _ _
  rw [if_neg c9]
  by_cases c10 : op = 10
  · rw [if_pos c10]
    by_cases d : gI σ 31 0 ≤ gI σ 30 0
    · rw [if_pos d]; exact e _ _
    · rw [if_neg d]; exact e _ _
  rw [if_neg c10]
  exact e _ _
theorem wfm_actS {op : Nat} (h : WfM B σ) : WfM B (mActS σ op) := wfm_of h (fun f hf o => actS_N σ op (fun e => absurd (e ▸ hf) (by decide)) o)
end WM2
