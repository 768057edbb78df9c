/-! digests are one to one; runs of a program -/
theorem x33 (d : BitVec 32) : (d ^^^ (d >>> 11)) ^^^ ((d ^^^ (d >>> 11)) >>> 11) ^^^ ((d ^^^ (d >>> 11)) >>> 22) = d := by
  rw [BitVec.ushiftRight_xor_distrib, BitVec.ushiftRight_xor_distrib, ← BitVec.shiftRight_add, ← BitVec.shiftRight_add]
  have h : d >>> (11 + 22) = 0#32 := BitVec.ushiftRight_eq_zero (by decide)
  rw [h, BitVec.xor_zero]
  show d ^^^ d >>> 11 ^^^ (d >>> 11 ^^^ d >>> 22) ^^^ d >>> 22 = d
  rw [← BitVec.xor_assoc, BitVec.xor_assoc d, BitVec.xor_self, BitVec.xor_zero, BitVec.xor_assoc, BitVec.xor_self, BitVec.xor_zero]
theorem dg_bv (c : Int32) : (dg c).toBitVec = ((c.toBitVec * 1234567891#32) ^^^ ((c.toBitVec * 1234567891#32) >>> 11)) * 987654321#32 := by
  rfl
theorem mul_inv {a b m i : BitVec 32} (h : a * m = b * m) (hm : m * i = 1#32) : a = b := by
  have e := congrArg (fun z => z * i) h
  simp only [BitVec.mul_assoc, hm, BitVec.mul_one] at e
  exact e
theorem dg_inj {a b : Int32} (h : dg a = dg b) : a = b := by
  have h := congrArg Int32.toBitVec h
  rw [dg_bv, dg_bv] at h
  have h := mul_inv (i := 1172758609#32) h (by decide)
  have e := x33 (a.toBitVec * 1234567891#32)
  rw [h, x33] at e
  exact Int32.toBitVec.inj (mul_inv (i := 1373218139#32) e.symm (by decide))
abbrev X3 : Type := Int32 × Int32 × Nat
/-- one instruction on x, y and p -/
def act (a : X3) (op : Nat) : X3 :=
  if op = 1 then (a.1 + a.2.1, a.2.1, a.2.2 + 1)
  else if op = 2 then (a.1 - a.2.1, a.2.1, a.2.2 + 1)
  else if op = 3 then (a.1 ^^^ a.2.1, a.2.1, a.2.2 + 1)
  else if op = 4 then (a.1 >>> (nI 1 &&& 31), a.2.1, a.2.2 + 1)
  else if op = 5 then (a.1 * nI 3 + nI 1, a.2.1, a.2.2 + 1)
  else if op = 6 then (a.2.1, a.1, a.2.2 + 1)
  else if op = 7 then (if a.2.1 ≤ 0 then (a.1, a.2.1, a.2.2 + 1) else (a.1, a.2.1 - nI 1, 0))
  else if op = 8 then (if a.1 &&& nI 1 = 0 then (a.1, a.2.1, a.2.2 + 1) else (a.1, a.2.1, a.2.2 + 2))
  else if op = 9 then (a.1, a.1, a.2.2 + 1)
  else if op = 10 then (imax a.1 a.2.1, a.2.1, a.2.2 + 1)
  else (a.1, a.2.1, a.2.2 + 1)
def set3 (σ : Sg) (a : X3) : Sg := sN (sI (sI σ 30 0 a.1) 31 0 a.2.1) 32 0 a.2.2
def get3 (σ : Sg) : X3 := (gI σ 30 0, gI σ 31 0, gN σ 32 0)
theorem set3_ext {σ τ : Sg} {a : X3} (h1 : ∀ x y, gI τ x y = if x = 31 ∧ y = 0 then a.2.1 else if x = 30 ∧ y = 0 then a.1 else gI σ x y) (h2 : gJ τ = gJ σ) (h3 : ∀ x y, gN τ x y = if x = 32 ∧ y = 0 then a.2.2 else gN σ x y) (h4 : gB τ = gB σ) : τ = set3 σ a :=
  sg_ext h1 (fun x y => by rw [h2]; rfl) h3 (fun x y => by rw [h4]; rfl)
theorem bit1 (x : Int32) : x &&& nI 1 = 0 ∨ x &&& nI 1 = nI 1 := by
  have : x.toBitVec &&& 1#32 = 0#32 ∨ x.toBitVec &&& 1#32 = 1#32 := by
    rcases Nat.mod_two_eq_zero_or_one x.toBitVec.toNat with h | h
    · left
      apply BitVec.eq_of_toNat_eq
      simp [BitVec.toNat_and, Nat.and_one_is_mod, h]
    · right
      apply BitVec.eq_of_toNat_eq
      simp [BitVec.toNat_and, Nat.and_one_is_mod, h]
  rcases this with h | h
  · exact Or.inl (Int32.toBitVec.inj h)
  · exact Or.inr (Int32.toBitVec.inj h)
set_option maxHeartbeats 4000000 in
theorem actS_eq (σ : Sg) (op : Nat) : mActS σ op = set3 σ (act (get3 σ) op) := by
  have key : ∀ (x y : Int32) (p : Nat), set3 σ (x, y, p) = sN (sI (sI σ 30 0 x) 31 0 y) 32 0 p := fun _ _ _ => rfl
  have ey : ∀ (τ : Sg) (x : Int32), gI τ 30 0 = x → sI τ 30 0 x = τ := fun τ x h => sg_ext (fun a b => by
    show (if a = 30 ∧ b = 0 then x else gI τ a b) = gI τ a b
    by_cases c : a = 30 ∧ b = 0
    · rw [if_pos c, c.1, c.2, h]
    · rw [if_neg c]) (fun _ _ => rfl) (fun _ _ => rfl) (fun _ _ => rfl)
  have ez : ∀ (τ : Sg) (x : Int32), gI τ 31 0 = x → sI τ 31 0 x = τ := fun τ x h => sg_ext (fun a b => by
    show (if a = 31 ∧ b = 0 then x else gI τ a b) = gI τ a b
    by_cases c : a = 31 ∧ b = 0
    · rw [if_pos c, c.1, c.2, h]
    · rw [if_neg c]) (fun _ _ => rfl) (fun _ _ => rfl) (fun _ _ => rfl)
  have e1 : ∀ x : Int32, sI (sI σ 30 0 x) 31 0 (gI σ 31 0) = sI σ 30 0 x := fun x => ez _ _ rfl
  have e2 : sI σ 30 0 (gI σ 30 0) = σ := ey _ _ rfl
  have e3 : sI σ 31 0 (gI σ 31 0) = σ := ez _ _ rfl
  unfold mActS act get3
  by_cases h1 : op = 1
  · rw [if_pos h1, if_pos h1, key]; simp only [e1]
  rw [if_neg h1, if_neg h1]
  by_cases h1 : op = 2
  · rw [if_pos h1, if_pos h1, key]; simp only [e1]
  rw [if_neg h1, if_neg h1]
  by_cases h1 : op = 3
  · rw [if_pos h1, if_pos h1, key]; simp only [e1]
  rw [if_neg h1, if_neg h1]
  by_cases h1 : op = 4
  · rw [if_pos h1, if_pos h1, key]; simp only [e1]
  rw [if_neg h1, if_neg h1]
  by_cases h1 : op = 5
  · rw [if_pos h1, if_pos h1, key]; simp only [e1]
  rw [if_neg h1, if_neg h1]
  by_cases h1 : op = 6
  · rw [if_pos h1, if_pos h1, key]
  rw [if_neg h1, if_neg h1]
  by_cases h1 : op = 7
  · rw [if_pos h1, if_pos h1]
    dsimp only
    by_cases c : gI σ 31 0 ≤ 0
    · rw [if_pos c, if_pos c, key]; simp only [e1, e2, e3]
    · rw [if_neg c, if_neg c, key]; simp only [e2]
  rw [if_neg h1, if_neg h1]
  by_cases h1 : op = 8
  · rw [if_pos h1, if_pos h1]
    dsimp only
    rcases bit1 (gI σ 30 0) with c | c
    · rw [if_neg (by rw [c]; decide), if_pos c, key]; simp only [e1, e2, e3]
    · rw [if_pos c, if_neg (by rw [c]; decide), key]; simp only [e1, e2, e3]
  rw [if_neg h1, if_neg h1]
  by_cases h1 : op = 9
  · rw [if_pos h1, if_pos h1, key]; simp only [e2]
  rw [if_neg h1, if_neg h1]
  by_cases h1 : op = 10
  · rw [if_pos h1, if_pos h1, key]
    dsimp only
    unfold imax
    by_cases c : gI σ 31 0 ≤ gI σ 30 0
    · rw [if_pos c, if_neg (Int32.not_lt.mpr c)]; simp only [e1]
    · rw [if_neg c, if_pos (Int32.not_le.mp c)]; simp only [e1]
  rw [if_neg h1, if_neg h1, key]
  simp only [e1, e2, e3]
/-- n instructions -/
def xyp (g : Int64) (a : X3) : Nat → X3
  | 0 => a
  | n + 1 => act (xyp g a n) (insn g (xyp g a n).2.2)
theorem set3_set3 (σ : Sg) (a b : X3) : set3 (set3 σ a) b = set3 σ b := sg_ext (fun x y => by
    show (if x = 31 ∧ y = 0 then b.2.1 else if x = 30 ∧ y = 0 then b.1 else if x = 31 ∧ y = 0 then a.2.1 else if x = 30 ∧ y = 0 then a.1 else gI σ x y) = if x = 31 ∧ y = 0 then b.2.1 else if x = 30 ∧ y = 0 then b.1 else gI σ x y
    split
    · rfl
    · split
      · rfl
      · rfl) (fun _ _ => rfl) (fun x y => by
    show (if x = 32 ∧ y = 0 then b.2.2 else if x = 32 ∧ y = 0 then a.2.2 else gN σ x y) = if x = 32 ∧ y = 0 then b.2.2 else gN σ x y
    split <;> rfl) (fun _ _ => rfl)
theorem actN_eq (s : Sg) (g : Int64) (a : X3) (n : Nat) : mActN (set3 s a) g n = set3 s (xyp g a n) := by
  induction n with
  | zero => rfl
  | succ n ih =>
    show mActS (mActN (set3 s a) g n) (insn g (gN (mActN (set3 s a) g n) 32 0)) = _
    rw [ih, actS_eq, set3_set3]
    rfl
theorem WE_eq (σ : Sg) (w : Nat) : mWE σ w = set3 σ (xyp (gJ σ 109 (gN σ 118 w - 1)) (gI σ 119 w, gI σ 120 w, 0) (gN σ 121 w)) := actN_eq σ _ (gI σ 119 w, gI σ 120 w, 0) _
/-- the program of key k ends with c -/
def Out (k : K3) (c : Int32) : Prop := ∃ l r n, dg l = k.2.1 ∧ dg r = k.2.2 ∧ (∀ m, m < n → insn k.1 (xyp k.1 (l, r, 0) m).2.2 ≠ 0) ∧ insn k.1 (xyp k.1 (l, r, 0) n).2.2 = 0 ∧ (xyp k.1 (l, r, 0) n).1 = c
theorem Out.un {k : K3} {c c' : Int32} (h : Out k c) (h' : Out k c') : c = c' := by
  obtain ⟨l, r, n, a1, a2, a3, a4, a5⟩ := h
  obtain ⟨l', r', n', b1, b2, b3, b4, b5⟩ := h'
  obtain rfl := dg_inj (a1.trans b1.symm)
  obtain rfl := dg_inj (a2.trans b2.symm)
  have : n = n' := by
    rcases Nat.lt_trichotomy n n' with c | c | c
    · exact absurd a4 (b3 n c)
    · exact c
    · exact absurd b4 (a3 n' c)
  rw [← a5, ← b5, this]
