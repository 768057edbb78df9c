/-! the reference: a tick, a delivery -/
/-- states that agree on all that items and keys are made of -/
def KS (σ σ' : Sg) : Prop := (gN σ' 14 0 = gN σ 14 0 ∧ gN σ' 5 0 = gN σ 5 0 ∧ (∀ k, mK3 σ' k = mK3 σ k) ∧ (∀ i, gN σ' 103 i = gN σ 103 i) ∧ (∀ i, gN σ' 104 i = gN σ 104 i)) ∧ (∀ i, gB σ' 105 i = gB σ 105 i) ∧ (∀ i, gI σ' 106 i = gI σ 106 i) ∧ (∀ i, gJ σ' 102 i = gJ σ 102 i) ∧ (∀ i, gB σ' 101 i = gB σ 101 i)
theorem KS.tr {a b c : Sg} (h : KS a b) (h' : KS b c) : KS a c := ⟨⟨h'.1.1.trans h.1.1, h'.1.2.1.trans h.1.2.1, fun k => (h'.1.2.2.1 k).trans (h.1.2.2.1 k), fun k => (h'.1.2.2.2.1 k).trans (h.1.2.2.2.1 k), fun k => (h'.1.2.2.2.2 k).trans (h.1.2.2.2.2 k)⟩, fun k => (h'.2.1 k).trans (h.2.1 k), fun k => (h'.2.2.1 k).trans (h.2.2.1 k), fun k => (h'.2.2.2.1 k).trans (h.2.2.2.1 k), fun k => (h'.2.2.2.2 k).trans (h.2.2.2.2 k)⟩
theorem KS.rf (a : Sg) : KS a a := ⟨⟨rfl, rfl, fun _ => rfl, fun _ => rfl, fun _ => rfl⟩, fun _ => rfl, fun _ => rfl, fun _ => rfl, fun _ => rfl⟩
theorem KS.inv {a b : Sg} (h : KS a b) (hK : KInv a) : KInv b := kinv_of hK h.1.1 h.1.2.1 h.1.2.2.1 h.1.2.2.2.1 h.1.2.2.2.2 (fun i hi => ⟨by rw [h.2.1]; exact hi, h.2.2.1 i⟩) h.2.2.2.1
theorem ks_N (σ : Sg) {f : Nat} (hf : f ≠ 14 ∧ f ≠ 5 ∧ f ≠ 103 ∧ f ≠ 104) (o v : Nat) : KS σ (sN σ f o v) :=
  ⟨⟨if_neg (fun z => hf.1 z.1.symm), if_neg (fun z => hf.2.1 z.1.symm), fun _ => rfl, fun _ => if_neg (fun z => hf.2.2.1 z.1.symm), fun _ => if_neg (fun z => hf.2.2.2 z.1.symm)⟩, fun _ => rfl, fun _ => rfl, fun _ => rfl, fun _ => rfl⟩
theorem ks_I (σ : Sg) {f : Nat} (hf : f ≠ 106 ∧ f ≠ 110 ∧ f ≠ 111) (o : Nat) (v : Int32) : KS σ (sI σ f o v) := by
  refine ⟨⟨rfl, rfl, fun k => ?_, fun _ => rfl, fun _ => rfl⟩, fun _ => rfl, fun _ => if_neg (fun z => hf.1 z.1.symm), fun _ => rfl, fun _ => rfl⟩
  unfold mK3
  rw [show gI (sI σ f o v) 110 k = gI σ 110 k from if_neg (fun z => hf.2.1 z.1.symm), show gI (sI σ f o v) 111 k = gI σ 111 k from if_neg (fun z => hf.2.2 z.1.symm)]
  rfl
theorem ks_send (σ : Sg) (a b k i : Nat) (c d g : Int32) : KS σ (mSend σ a b k i c d g) :=
  ⟨⟨msend_N _ _ _ _ _ _ _ _ (by decide) _, msend_N _ _ _ _ _ _ _ _ (by decide) _, fun k => by unfold mK3; rw [msend_J, msend_I _ _ _ _ _ _ _ _ (by decide), msend_I _ _ _ _ _ _ _ _ (by decide)], fun i => msend_N _ _ _ _ _ _ _ _ (by decide) i, fun i => msend_N _ _ _ _ _ _ _ _ (by decide) i⟩, fun i => msend_B _ _ _ _ _ _ _ _ _ i, fun i => msend_I _ _ _ _ _ _ _ _ (by decide) i, fun i => msend_J _ _ _ _ _ _ _ _ _ i, fun i => msend_B _ _ _ _ _ _ _ _ _ i⟩
theorem ks_xyp (σ : Sg) (x y : Int32) (p : Nat) : KS σ (sN (sI (sI σ 30 0 x) 31 0 y) 32 0 p) := (ks_I σ (by decide) 0 x).tr ((ks_I _ (by decide) 0 y).tr (ks_N _ (by decide) 0 p))
theorem ks_actS (σ : Sg) (op : Nat) : KS σ (mActS σ op) := by
  have eN : ∀ (s : Sg) (v : Nat), KS σ s → KS σ (sN s 32 0 v) := fun s v h => h.tr (ks_N s (by decide) 0 v)
  have e0 : ∀ v, KS σ (sI σ 30 0 v) := fun v => ks_I σ (by decide) 0 v
  have e1 : ∀ v, KS σ (sI σ 31 0 v) := fun v => ks_I σ (by decide) 0 v
  unfold mActS
  by_cases c1 : op = 1
  · rw [if_pos c1]; exact eN _ _ (e0 _)
  rw [if_neg c1]
  by_cases c2 : op = 2
  · rw [if_pos c2]; exact eN _ _ (e0 _)
  rw [if_neg c2]
  by_cases c3 : op = 3
  · rw [if_pos c3]; exact eN _ _ (e0 _)
  rw [if_neg c3]
  by_cases c4 : op = 4
  · rw [if_pos c4]; exact eN _ _ (e0 _)
  rw [if_neg c4]
  by_cases c5 : op = 5
  · rw [if_pos c5]; exact eN _ _ (e0 _)
  rw [if_neg c5]
  by_cases c6 : op = 6
  · rw [if_pos c6]; exact eN _ _ ((e0 _).tr (ks_I _ (by decide) 0 _))
  rw [if_neg c6]
  by_cases c7 : op = 7
  · rw [if_pos c7]
    by_cases d : gI σ 31 0 ≤ 0
    · rw [if_pos d]; exact eN _ _ (e1 _)
    · rw [if_neg d]; exact eN _ _ (e1 _)
  rw [if_neg c7]
  by_cases c8 : op = 8
  · rw [if_pos c8]
    by_cases d : gI σ 30 0 &&& nI 1 = nI 1
    · rw [if_pos d]; exact eN _ _ (KS.rf σ)
    · rw [if_neg d]; exact eN _ _ (KS.rf σ)
  rw [if_neg c8]
  by_cases c9 : op = 9
  · rw [if_pos c9]; exact eN _ _ (e1 _)
  rw [if_neg c9]
  by_cases c10 : op = 10
  · rw [if_pos c10]
    by_cases d : gI σ 31 0 ≤ gI σ 30 0
    · rw [if_pos d]; exact eN _ _ (e0 _)
    · rw [if_neg d]; exact eN _ _ (e0 _)
  rw [if_neg c10]; exact eN _ _ (KS.rf σ)
theorem ks_actN (s : Sg) (g : Int64) : ∀ n, KS s (mActN s g n)
  | 0 => KS.rf s
  | n + 1 => (ks_actN s g n).tr (ks_actS _ _)
theorem ks_work (σ : Sg) (w : Nat) : KS σ (mWork σ w) := by
  have h : KS σ (mWE σ w) := (ks_xyp σ _ _ _).tr (ks_actN _ _ _)
  unfold mWork
  split
  · exact (h.tr (ks_send _ _ _ _ _ _ _ _)).tr (ks_N _ (by decide) _ _)
  · exact h.tr (ks_N _ (by decide) _ _)
theorem ks_exp (σ : Sg) (w : Nat) : KS σ (mExp σ w) := by
  unfold mExp
  split
  · exact KS.rf σ
  · split
    · exact ((ks_N σ (by decide) _ _).tr (ks_N _ (by decide) _ _)).tr (ks_N _ (by decide) _ _)
    · exact KS.rf σ
theorem ks_len1 (σ : Sg) (f w : Nat) : KS σ (mLen1 σ f w) := ((((ks_N σ (by decide) _ _).tr (ks_N _ (by decide) _ _)).tr (ks_N _ (by decide) _ _)).tr (ks_N _ (by decide) _ _)).tr (ks_N _ (by decide) _ _)
theorem ks_lend (σ : Sg) : KS σ (mLend σ) := by
  unfold mLend
  split
  · exact KS.rf σ
  · split
    · exact KS.rf σ
    · exact (ks_len1 σ _ _).tr (ks_send _ _ _ _ _ _ _ _)
theorem work_0 (σ : Sg) (w : Nat) : gN (mWork σ w) 0 0 = gN σ 0 0 := by
  unfold mWork
  split
  · exact (msend_N _ _ _ _ _ _ _ _ (by decide) 0).trans (WE_N σ w (by decide) 0)
  · exact WE_N σ w (by decide) 0
theorem exp_0 (σ : Sg) (w : Nat) : gN (mExp σ w) 0 0 = gN σ 0 0 := by
  unfold mExp
  split
  · rfl
  · split <;> rfl
theorem lend_0 (σ : Sg) : gN (mLend σ) 0 0 = gN σ 0 0 := by
  unfold mLend
  split
  · rfl
  · split
    · rfl
    · exact msend_N _ _ _ _ _ _ _ _ (by decide) 0
def tkW (s : Sg) : Nat → Sg
  | 0 => s
  | i + 1 => if gN (tkW s i) 118 (i + 1) = 0 then tkW s i else mWork (tkW s i) (i + 1)
def tkE (s : Sg) : Nat → Sg
  | 0 => s
  | i + 1 => mExp (tkE s i) (i + 1)
def tkL (s : Sg) : Nat → Sg
  | 0 => s
  | i + 1 => mLend (tkL s i)
def tkAS (t : Sg) (i : Nat) : Sg := if mRdy t i = true then (if gB t 107 i = true then (if gN t 2 0 - gN t 108 i < 5 then t else mAsk t i) else mAsk t i) else t
def tkA (s : Sg) : Nat → Sg
  | 0 => s
  | i + 1 => tkAS (tkA s i) i
def mTk0 (σ : Sg) : Sg := sN (sN σ 2 0 (gN σ 2 0 + 1)) 34 0 0
def mTk1 (σ : Sg) : Sg := tkW (mTk0 σ) (gN σ 0 0)
def mTk2 (σ : Sg) : Sg := if gB (mTk1 σ) 100 0 = true then mTk1 σ else tkL (tkE (mTk1 σ) (gN σ 0 0)) 4
def mTick (σ : Sg) : Sg := tkA (mTk2 σ) (gN σ 5 0)
theorem tkW_ok (s : Sg) : ∀ i, KS s (tkW s i) ∧ gN (tkW s i) 0 0 = gN s 0 0
  | 0 => ⟨KS.rf s, rfl⟩
  | i + 1 => by
    have a := tkW_ok s i
    unfold tkW
    split
    · exact a
    · exact ⟨a.1.tr (ks_work _ _), (work_0 _ _).trans a.2⟩
theorem tkE_ok (s : Sg) : ∀ i, KS s (tkE s i) ∧ gN (tkE s i) 0 0 = gN s 0 0
  | 0 => ⟨KS.rf s, rfl⟩
  | i + 1 => ⟨(tkE_ok s i).1.tr (ks_exp _ _), (exp_0 _ _).trans (tkE_ok s i).2⟩
theorem tkL_ok (s : Sg) : ∀ i, KS s (tkL s i) ∧ gN (tkL s i) 0 0 = gN s 0 0
  | 0 => ⟨KS.rf s, rfl⟩
  | i + 1 => ⟨(tkL_ok s i).1.tr (ks_lend _), (lend_0 _).trans (tkL_ok s i).2⟩
theorem wfm_tkW {B : Nat} {s : Sg} (h : WfM B s) : ∀ i, WfM (B + i) (tkW s i)
  | 0 => h
  | i + 1 => by
    have a := wfm_tkW h i
    unfold tkW
    split
    · exact a.mono (by omega)
    · exact wfm_work a (a.jk _) (by omega)
theorem wfm_tkE {B : Nat} {s : Sg} (h : WfM B s) : ∀ i, WfM (B + i) (tkE s i)
  | 0 => h
  | i + 1 => wfm_exp (wfm_tkE h i)
theorem wfm_tkL {B : Nat} {s : Sg} (h : WfM B s) : ∀ i, WfM (B + i) (tkL s i)
  | 0 => h
  | i + 1 => wfm_lend (wfm_tkL h i)
theorem ask_it5 (σ : Sg) (i : Nat) : gN (mAsk σ i) 5 0 = gN σ 5 0 := (msend_N _ _ _ _ _ _ _ _ (by decide) 0).trans (mkey_N σ i (by decide) 0)
theorem tkAS_ok {B : Nat} {t : Sg} {i : Nat} (h : WfM B t) (hK : KInv t) (hi : i < gN t 5 0) : WfM (B + 1) (tkAS t i) ∧ KInv (tkAS t i) ∧ gN (tkAS t i) 5 0 = gN t 5 0 := by
  have hit := h.it
  unfold tkAS
  by_cases c1 : mRdy t i = true
  · rw [if_pos c1]
    have a : WfM (B + 1) (mAsk t i) ∧ KInv (mAsk t i) ∧ gN (mAsk t i) 5 0 = gN t 5 0 := ⟨wfm_ask h (by omega) (kinv_cap hK h.it hi), kinv_ask hK hi c1, ask_it5 t i⟩
    have b : WfM (B + 1) t ∧ KInv t ∧ gN t 5 0 = gN t 5 0 := ⟨h.mono (by omega), hK, rfl⟩
    by_cases c2 : gB t 107 i = true
    · rw [if_pos c2]
      by_cases c3 : gN t 2 0 - gN t 108 i < 5
      · rw [if_pos c3]; exact b
      · rw [if_neg c3]; exact a
    · rw [if_neg c2]; exact a
  · rw [if_neg c1]
    exact ⟨h.mono (by omega), hK, rfl⟩
theorem tkA_ok {B : Nat} {s : Sg} (h : WfM B s) (hK : KInv s) : ∀ i, i ≤ gN s 5 0 → WfM (B + i) (tkA s i) ∧ KInv (tkA s i) ∧ gN (tkA s i) 5 0 = gN s 5 0
  | 0, _ => ⟨h, hK, rfl⟩
  | i + 1, hi => by
    have a := tkA_ok h hK i (by omega)
    have b := tkAS_ok (i := i) a.1 a.2.1 (by rw [a.2.2]; omega)
    exact ⟨b.1, b.2.1, b.2.2.trans a.2.2⟩
theorem wfm_Tk0 {B : Nat} {σ : Sg} (h : WfM B σ) : WfM (B + 1) (mTk0 σ) := wfm_N (by decide) (wfm_2 (h.mono (Nat.le_add_right B 1)) ⟨by have := h.tm; omega, by omega⟩)
theorem Tk0_ok (σ : Sg) : KS σ (mTk0 σ) := (ks_N σ (by decide) _ _).tr (ks_N _ (by decide) _ _)
theorem Tk1_ok {B : Nat} {σ : Sg} (h : WfM B σ) : WfM (B + 5) (mTk1 σ) ∧ KS σ (mTk1 σ) ∧ gN (mTk1 σ) 0 0 = gN σ 0 0 :=
  ⟨(wfm_tkW (wfm_Tk0 h) _).mono (by have := h.wk; omega), (Tk0_ok σ).tr (tkW_ok _ _).1, (tkW_ok (mTk0 σ) _).2⟩
theorem Tk2_ok {B : Nat} {σ : Sg} (h : WfM B σ) : WfM (B + 13) (mTk2 σ) ∧ KS σ (mTk2 σ) := by
  have a := Tk1_ok h
  unfold mTk2
  split
  · exact ⟨a.1.mono (by omega), a.2.1⟩
  · exact ⟨(wfm_tkL (wfm_tkE a.1 _) 4).mono (by have := h.wk; omega), (a.2.1.tr (tkE_ok _ _).1).tr (tkL_ok _ _).1⟩
def mHand (s : Sg) (j : Nat) (cut : Int32) : Sg :=
  if gN s 123 j = 1 then mTkA s (gN s 125 j) (gN s 126 j) else if gN s 123 j = 2 then mLk s (gN s 126 j) (gI s 127 j) (gI s 128 j) else if gN s 123 j = 3 then mPut s (gI s 129 j) (gI s 127 j) cut
  else if gN s 123 j = 4 then mLease s (gN s 124 j) (gN s 125 j) (gI s 127 j) (gI s 128 j) else if gN s 123 j = 5 then mRes s (gN s 125 j) (gI s 129 j) (gI s 127 j) cut else if gN s 123 j = 6 then anO s (gN s 125 j) (gI s 127 j) 10 else s
def mUp (σ : Sg) (j : Nat) : Bool := decide (gN σ 124 j = 9) || !gB σ 100 (gN σ 124 j)
def mDel (s : Sg) (j : Nat) (cut : Int32) : Sg := if mUp s j = true then (if mWrong s j = true then sN s 46 0 (gN s 46 0 + 1) else mHand (sN s 49 0 0) j cut) else s
def mDelS (σ : Sg) (k cut : Int32) : Sg := match plc σ k with
  | none => σ
  | some j => mDel (sN σ 122 j 0) j cut
def mDelR (σ : Sg) (k : Int32) : Int32 := match plc σ k with
  | none => -1
  | some j => if mUp σ j = true then nI (gN σ 123 j) else nI 0
theorem mUp_9 {σ : Sg} {j : Nat} (h : gN σ 124 j = 9) : mUp σ j = true := by
  unfold mUp
  rw [decide_eq_true h]
  rfl
theorem mUp_d {σ : Sg} {j : Nat} {b : Bool} (h : ¬ gN σ 124 j = 9) (hb : gB σ 100 (gN σ 124 j) = b) : mUp σ j = !b := by
  unfold mUp
  rw [decide_eq_false h, hb]
  rfl
theorem mDelS_n {σ : Sg} {k cut : Int32} (h1 : plc σ k = none) : σ = mDelS σ k cut := by
  unfold mDelS
  rw [h1]
theorem mDelS_d {σ : Sg} {k cut : Int32} {j : Nat} (h1 : plc σ k = some j) (hu : mUp σ j = false) : sN σ 122 j 0 = mDelS σ k cut := by
  unfold mDelS
  rw [h1]
  exact (if_neg (by rw [show mUp (sN σ 122 j 0) j = false from hu]; decide)).symm
theorem mDelS_w {σ : Sg} {k cut : Int32} {j : Nat} (h1 : plc σ k = some j) (hu : mUp σ j = true) (hw : mWrong (sN σ 122 j 0) j = true) : sN (sN σ 122 j 0) 46 0 (gN σ 46 0 + 1) = mDelS σ k cut := by
  unfold mDelS
  rw [h1]
  show _ = mDel (sN σ 122 j 0) j cut
  unfold mDel
  rw [if_pos (show mUp (sN σ 122 j 0) j = true from hu), if_pos hw]
  rfl
theorem mDelS_h {σ : Sg} {k cut : Int32} {j : Nat} {X : Sg} (h1 : plc σ k = some j) (hu : mUp σ j = true) (hw : mWrong (sN σ 122 j 0) j = false) (hX : mHand (sN (sN σ 122 j 0) 49 0 0) j cut = X) : X = mDelS σ k cut := by
  unfold mDelS
  rw [h1]
  show _ = mDel (sN σ 122 j 0) j cut
  unfold mDel
  rw [if_pos (show mUp (sN σ 122 j 0) j = true from hu), if_neg (by rw [hw]; decide), hX]
theorem mDelR_n {σ : Sg} {k : Int32} (h1 : plc σ k = none) : -1 = mDelR σ k := by
  unfold mDelR
  rw [h1]
theorem mDelR_d {σ : Sg} {k : Int32} {j : Nat} (h1 : plc σ k = some j) (hu : mUp σ j = false) : nI 0 = mDelR σ k := by
  unfold mDelR
  rw [h1]
  exact (if_neg (by rw [hu]; decide)).symm
theorem mDelR_u {σ : Sg} {k : Int32} {j : Nat} (h1 : plc σ k = some j) (hu : mUp σ j = true) : nI (gN σ 123 j) = mDelR σ k := by
  unfold mDelR
  rw [h1]
  exact (if_pos hu).symm
section HD
variable {s : Sg} {j : Nat} {cut : Int32}
theorem mHand_1 (h : gN s 123 j = 1) : mHand s j cut = mTkA s (gN s 125 j) (gN s 126 j) := if_pos h
theorem mHand_2 (h : gN s 123 j = 2) : mHand s j cut = mLk s (gN s 126 j) (gI s 127 j) (gI s 128 j) := by unfold mHand; rw [if_neg (by omega), if_pos h]
theorem mHand_3 (h : gN s 123 j = 3) : mHand s j cut = mPut s (gI s 129 j) (gI s 127 j) cut := by unfold mHand; rw [if_neg (by omega), if_neg (by omega), if_pos h]
theorem mHand_4 (h : gN s 123 j = 4) : mHand s j cut = mLease s (gN s 124 j) (gN s 125 j) (gI s 127 j) (gI s 128 j) := by unfold mHand; rw [if_neg (by omega), if_neg (by omega), if_neg (by omega), if_pos h]
theorem mHand_5 (h : gN s 123 j = 5) : mHand s j cut = mRes s (gN s 125 j) (gI s 129 j) (gI s 127 j) cut := by unfold mHand; rw [if_neg (by omega), if_neg (by omega), if_neg (by omega), if_neg (by omega), if_pos h]
theorem mHand_6 (h : gN s 123 j = 6) : mHand s j cut = anO s (gN s 125 j) (gI s 127 j) 10 := by unfold mHand; rw [if_neg (by omega), if_neg (by omega), if_neg (by omega), if_neg (by omega), if_neg (by omega), if_pos h]
theorem mHand_0 (h1 : ¬ gN s 123 j = 1) (h2 : ¬ gN s 123 j = 2) (h3 : ¬ gN s 123 j = 3) (h4 : ¬ gN s 123 j = 4) (h5 : ¬ gN s 123 j = 5) (h6 : ¬ gN s 123 j = 6) : mHand s j cut = s := by unfold mHand; rw [if_neg h1, if_neg h2, if_neg h3, if_neg h4, if_neg h5, if_neg h6]
end HD
theorem wfm_lk {B : Nat} {σ : Sg} {i : Nat} {a b : Int32} (h : WfM B σ) (hi : i < 10) (hc : fKey σ i = none → gN σ 14 0 < 10) : WfM (B + 3) (mLk σ i a b) := by
  have e1 : WfM (B + 1) (mLk1 σ i a) ∧ (fKey (mLk1 σ i a) i = none → gN (mLk1 σ i a) 14 0 < 10) := by
    unfold mLk1
    split
    · exact ⟨wfm_send h (by decide) (by decide) (by decide) (by decide), hc_send hc⟩
    · exact ⟨h.mono (by omega), hc⟩
  have e2 : WfM (B + 2) (mLk2 σ i a b) ∧ (fKey (mLk2 σ i a b) i = none → gN (mLk2 σ i a b) 14 0 < 10) := by
    unfold mLk2
    split
    · exact ⟨wfm_send e1.1 (by decide) (by decide) (by decide) (by decide), hc_send e1.2⟩
    · exact ⟨e1.1.mono (by omega), e1.2⟩
  unfold mLk
  split
  · exact h.mono (by omega)
  · exact wfm_ask e2.1 hi e2.2
