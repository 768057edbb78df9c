/-! pure words: the first place, a number of places, the digest -/
def fnd (P : Nat → Bool) (n : Nat) : Option Nat := (List.range n).find? P
def cnt (P : Nat → Bool) : Nat → Nat
  | 0 => 0
  | n + 1 => cnt P n + (if P n = true then 1 else 0)
theorem fnd_none {P : Nat → Bool} {n : Nat} (h : ∀ j, j < n → P j = false) : fnd P n = none := by
  unfold fnd
  rw [List.find?_eq_none]
  intro x hx
  rw [h x (List.mem_range.mp hx)]
  decide
theorem fnd_0 (P : Nat → Bool) : fnd P 0 = none := rfl
theorem fnd_succ (P : Nat → Bool) (n : Nat) : fnd P (n + 1) = (fnd P n).or (if P n = true then some n else none) := by
  unfold fnd
  rw [List.range_succ, List.find?_append]
  congr 1
  by_cases h : P n = true
  · rw [if_pos h, List.find?_cons_of_pos h]
  · rw [if_neg h, List.find?_cons_of_neg h]
    rfl
theorem fnd_some {P : Nat → Bool} {n i : Nat} (hi : i < n) (h : P i = true) (h0 : ∀ j, j < i → P j = false) : fnd P n = some i := by
  induction n with
  | zero => omega
  | succ n ih =>
    rw [fnd_succ]
    by_cases hn : i < n
    · rw [ih hn]
      rfl
    · have e : i = n := by omega
      subst e
      rw [fnd_none h0, if_pos h]
      rfl
theorem fnd_spec {P : Nat → Bool} {n i : Nat} (h : fnd P n = some i) : i < n ∧ P i = true ∧ ∀ j, j < i → P j = false := by
  induction n with
  | zero => cases h
  | succ n ih =>
    rw [fnd_succ] at h
    cases hf : fnd P n with
    | some k =>
      rw [hf] at h
      cases h
      obtain ⟨a, b, c⟩ := ih hf
      exact ⟨by omega, b, c⟩
    | none =>
      rw [hf] at h
      have hall : ∀ j, j < n → P j = false := by
        intro j hj
        have := List.find?_eq_none.mp hf j (List.mem_range.mpr hj)
        simpa using this
      by_cases hP : P n = true
      · rw [if_pos hP] at h
        cases h
        exact ⟨by omega, hP, hall⟩
      · rw [if_neg hP] at h
        cases h
theorem fnd_no {P : Nat → Bool} {n : Nat} (h : fnd P n = none) : ∀ j, j < n → P j = false := by
  intro j hj
  have := List.find?_eq_none.mp h j (List.mem_range.mpr hj)
  simpa using this
theorem fnd_congr {P P' : Nat → Bool} {n : Nat} (h : ∀ j, j < n → P j = P' j) : fnd P n = fnd P' n := by
  induction n with
  | zero => rfl
  | succ n ih => rw [fnd_succ, fnd_succ, ih (fun j hj => h j (by omega)), h n (by omega)]
theorem cnt_congr {P P' : Nat → Bool} {n : Nat} (h : ∀ j, j < n → P j = P' j) : cnt P n = cnt P' n := by
  induction n with
  | zero => rfl
  | succ n ih =>
    show cnt P n + _ = cnt P' n + _
    rw [ih (fun j hj => h j (by omega)), h n (by omega)]
theorem cnt_le (P : Nat → Bool) (n : Nat) : cnt P n ≤ n := by
  induction n with
  | zero => exact Nat.le_refl 0
  | succ n ih =>
    show cnt P n + _ ≤ n + 1
    split <;> omega
/-- an answer that is a place, or -1 -/
def oI (x : Option Nat) : Int32 := match x with
  | none => -1
  | some i => nI i
theorem oI_m1 {x : Option Nat} (hx : ∀ i, x = some i → i < 2 ^ 31) : oI x = -1 ↔ x = none := by
  cases x with
  | none => exact ⟨fun _ => rfl, fun _ => rfl⟩
  | some i =>
    refine ⟨fun h => ?_, fun h => by cases h⟩
    have h1 : (nI i).toInt = (-1 : Int32).toInt := congrArg Int32.toInt h
    rw [nI_toInt (hx i rfl)] at h1
    have h2 : (-1 : Int32).toInt = -1 := by decide
    omega
def dg (c : Int32) : Int32 := ((c * 1234567891) ^^^ ((c * 1234567891).toUInt32 >>> (Int32.toUInt32 (nI 11) &&& Int32.toUInt32 31)).toInt32) * 987654321
/-! the class's world: its objects by number, their kinds and fields -/
def kdT : List Nat := [0, 3, 100, 2, 1, 2, 1, 2, 1, 2, 1, 2, 1, 2, 1, 2, 1, 2, 1, 2, 1, 2, 1, 2, 1, 2, 1, 2, 1, 2, 1, 2, 1, 2, 1, 2, 1, 2, 1, 2, 1, 2, 1, 2, 1, 2, 1, 2, 1, 2, 1, 2, 1, 2, 1, 4, 101, 102, 103, 104, 105, 106, 1, 7, 5, 107, 108, 109, 110, 1, 1, 1, 1, 1, 1, 1, 1, 1, 1, 6, 111, 1, 1, 1, 1, 1, 1, 1, 1, 1, 1, 8, 112, 113, 114, 1, 1, 1, 1, 115, 9, 1, 9, 1, 9, 1, 9, 1]
def kdC (o : Nat) : Nat := kdT.getD o 99
def flT : List (List (Nat × Nat)) := [[(5, 0), (5, 1), (5, 2), (5, 3), (0, 4), (0, 5)], [(3, 6), (1, 7), (1, 8)], [(5, 9), (0, 10), (0, 11), (0, 12), (2, 13), (2, 14), (1, 15), (1, 16), (1, 17)], [(5, 18), (5, 19), (4, 20), (0, 21), (0, 22)], [(5, 23), (5, 24), (5, 25), (5, 26), (5, 27), (5, 28), (5, 29), (5, 30), (0, 31)], [(5, 32), (5, 33), (5, 34), (5, 35), (0, 36), (0, 37)], [(5, 38), (0, 39)], [(5, 40), (5, 41), (5, 42), (5, 43), (0, 44), (2, 45), (0, 46), (0, 47), (0, 48), (0, 49), (0, 50)], [(5, 51), (5, 52), (5, 53), (0, 54)], [(5, 55), (2, 56), (2, 57), (0, 58), (1, 59), (1, 60), (0, 61)]]
def flC (κ : Nat) : List (Nat × Nat) := flT.getD κ []
def atC (nw κ : Nat) : Nat × Nat × Nat := ([(4, 24, 3), (2, 10, 1), (1, 10, 0), (3, 10, 2), (0, 10, 0), (0, 10, 0), (0, 10, 0), (1, 10, 0), (1, 10, 0), (5, 10, 4), (1, 10, 0), (4, 10, 4), (2, nw, 1), (5, nw, 4), (0, nw, 0), (5, nw, 5)] : List (Nat × Nat × Nat)).getD (κ - 100) (9, 0, 0)
def srT : List Nat := [1, 55, 63, 99, 0, 0, 0, 0, 0, 0, 0, 0, 0, 0, 0, 0, 0, 0, 2, 3, 0, 0, 0, 1, 56, 57, 58, 59, 60, 61, 62, 0, 65, 66, 67, 68, 0, 0, 80, 0, 1, 64, 79, 91, 0, 0, 0, 0, 0, 0, 0, 92, 93, 94, 0, 0, 0, 0, 0, 0, 0, 0]
/-- the references that never change: a message's and a worker's key is the object behind it -/
def srC (f o : Nat) : Nat := if f = 109 then 69 + o else if f = 113 then 95 + o else if f = 115 then 100 + 2 * o else if f = 9 ∨ f = 55 then o + 1 else srT.getD f 0
def SC (nw : Nat) : Sc := (kdC, flC, atC nw, srC)
def obC (nw : Nat) : List Nat := List.range 95 ++ ((List.range nw).map (fun i => 95 + i) ++ ([99] ++ (List.range (2 * nw)).map (fun i => 100 + i)))
theorem ob_iff {nw o : Nat} : o ∈ obC nw ↔ o < 95 ∨ (95 ≤ o ∧ o < 95 + nw) ∨ o = 99 ∨ (100 ≤ o ∧ o < 100 + 2 * nw) := by
  unfold obC
  simp only [List.mem_append, List.mem_range, List.mem_map, List.mem_singleton]
  constructor
  · rintro (h | ⟨i, h, rfl⟩ | h | ⟨i, h, rfl⟩) <;> omega
  · rintro (h | ⟨h, h'⟩ | h | ⟨h, h'⟩)
    · exact Or.inl h
    · exact Or.inr (Or.inl ⟨o - 95, by omega, by omega⟩)
    · exact Or.inr (Or.inr (Or.inl h))
    · exact Or.inr (Or.inr (Or.inr ⟨o - 100, by omega, by omega⟩))
theorem mo {nw o : Nat} (h : o < 95 ∨ o = 99) : o ∈ obC nw := ob_iff.mpr (by omega)
theorem kd_lt {o κ : Nat} (h : kdC o = κ) (hκ : κ ≠ 99) : o < 108 := by
  by_cases h1 : o < 108
  · exact h1
  · exfalso
    apply hκ
    rw [← h]
    unfold kdC
    rw [List.getD_eq_getElem?_getD, List.getElem?_eq_none (by show 108 ≤ o; omega)]
    rfl
theorem kd_msgT : ∀ o, o < 108 → kdC o = 2 → 3 ≤ o ∧ o ≤ 53 ∧ kdC (o + 1) = 1 := by decide +kernel
theorem kd_wkT : ∀ o, o < 108 → kdC o = 9 → 100 ≤ o ∧ kdC (o + 1) = 1 ∧ o % 2 = 0 := by decide +kernel
theorem kd_msg {o : Nat} (h : kdC o = 2) : 3 ≤ o ∧ o ≤ 53 ∧ kdC (o + 1) = 1 := kd_msgT o (kd_lt h (by decide)) h
theorem mo_msg {nw o : Nat} (h : kdC o = 2) : o ∈ obC nw := mo (by have := kd_msg h; omega)
theorem mo_msgk {nw o : Nat} (h : kdC o = 2) : o + 1 ∈ obC nw := mo (by have := kd_msg h; omega)
theorem kd_msgk {o : Nat} (h : kdC o = 2) : kdC (o + 1) = 1 := (kd_msg h).2.2
theorem flC_big {κ : Nat} (h : 10 ≤ κ) : flC κ = [] := by
  unfold flC
  rw [List.getD_eq_getElem?_getD, List.getElem?_eq_none (by show 10 ≤ κ; omega)]
  rfl
theorem flC_lt : ∀ κ, κ < 10 → ∀ t ∈ flC κ, t.2 < 100 := by decide +kernel
theorem flC_un : ∀ κ, κ < 10 → ∀ i, i < 11 → ∀ j, j < 11 → ((flC κ)[i]?).isSome = true → ((flC κ)[i]?).map (fun t => t.2) = ((flC κ)[j]?).map (fun t => t.2) → i = j := by decide +kernel
theorem flC_len : ∀ κ, κ < 10 → (flC κ).length ≤ 11 := by decide +kernel
theorem kd_un : ∀ o, o < 108 → ∀ o', o' < 108 → 100 ≤ kdC o → kdC o = kdC o' → o = o' := by decide +kernel
theorem swfC {nw : Nat} (h : nw ≤ 4) : Swf (SC nw) (obC nw) := by
  refine ⟨fun κ t ht => ?_, fun κ i j t u hi hj h => ?_, fun o o' ho ho' h1 h2 => ?_⟩
  · by_cases hκ : κ < 10
    · exact flC_lt κ hκ t ht
    · have ht : t ∈ flC κ := ht
      rw [flC_big (by omega)] at ht
      cases ht
  · have hi : (flC κ)[i]? = some t := hi
    have hj : (flC κ)[j]? = some u := hj
    by_cases hκ : κ < 10
    · have l1 := (List.getElem?_eq_some_iff.mp hi).1
      have l2 := (List.getElem?_eq_some_iff.mp hj).1
      have l3 := flC_len κ hκ
      exact flC_un κ hκ i (by omega) j (by omega) (by rw [hi]; rfl) (by rw [hi, hj]; exact congrArg some h)
    · rw [flC_big (by omega)] at hi
      simp at hi
  · have a := ob_iff.mp ho
    have b := ob_iff.mp ho'
    exact kd_un o (by omega) o' (by omega) h1 h2
theorem kd_rk : ∀ {i : Nat}, i < 10 → kdC (69 + i) = 1 := by decide +kernel
theorem kd_lk : ∀ {i : Nat}, i < 4 → kdC (95 + i) = 1 := by decide +kernel
theorem kd_wk : ∀ {i : Nat}, i < 4 → kdC (100 + 2 * i) = 9 := by decide +kernel
theorem kd_wkk : ∀ {i : Nat}, i < 4 → kdC (100 + 2 * i + 1) = 1 := by decide +kernel
theorem mo_lk {nw i : Nat} (h : i < nw) : 95 + i ∈ obC nw := ob_iff.mpr (by omega)
theorem mo_wk {nw i : Nat} (h : i < nw) : 100 + 2 * i ∈ obC nw := ob_iff.mpr (by omega)
theorem mo_wkk {nw i : Nat} (h : i < nw) : 100 + 2 * i + 1 ∈ obC nw := ob_iff.mpr (by omega)
/-! what the class's methods do to its state -/
abbrev K3 : Type := Int64 × Int32 × Int32
def kof (σ : Sg) (o : Nat) : K3 := (gJ σ 6 o, gI σ 7 o, gI σ 8 o)
def kset (σ : Sg) (o : Nat) (p : Int64) (a b : Int32) : Sg := sI (sI (sJ σ 6 o p) 7 o a) 8 o b
def kcopy (σ : Sg) (o q : Nat) : Sg := kset σ o (gJ σ 6 q) (gI σ 7 q) (gI σ 8 q)
def kNames (σ : Sg) (o : Nat) (d : Int32) : Bool := decide (gI σ 7 o = d) || decide (gI σ 8 o = d)
def hasC (k : Nat) : Bool := k == 3 || k == 4 || k == 5 || k == 6
def sound (σ : Sg) (q : Nat) : Bool := if gN σ 10 q = 4 then decide (dg (gI σ 16 q) = gI σ 7 (q + 1)) && decide (dg (gI σ 17 q) = gI σ 8 (q + 1)) else !hasC (gN σ 10 q) || decide (dg (gI σ 16 q) = gI σ 15 q)
def mFill (σ : Sg) (q ko : Nat) (d c : Int32) : Sg := sI (sI (kcopy σ (q + 1) ko) 15 q d) 16 q c
/-- the rows behind k, moved by one, as far as i -/
def fSh (σ : Sg) (k i : Nat) : Sg := (σ.1, σ.2.1, fun f o => if f = 100 ∧ k ≤ o ∧ o + 1 < i then gN σ 100 (o + 1) else gN σ f o, σ.2.2.2)
def fTake (σ : Sg) (k : Nat) : Sg := sN (sN (sN (fSh σ k (gN σ 21 1)) 21 1 (gN σ 21 1 - 1)) 100 (gN σ 21 1 - 1) (gN σ 20 1)) 20 1 (gN σ 100 k)
def sendTo (σ : Sg) : Nat := if gN σ 21 1 < 24 then gN σ 100 (gN σ 21 1) else 3
def fSend (σ : Sg) (k r : Nat) : Sg := if gN σ 21 1 < 24 then sN (sN (sN (sN σ 22 1 (gN σ 22 1 + 1)) 21 1 (gN σ 21 1 + 1)) 10 (gN σ 100 (gN σ 21 1)) k) 11 (gN σ 100 (gN σ 21 1)) r else sN (sN (sN σ 22 1 (gN σ 22 1 + 1)) 10 3 k) 11 3 r
def kn (σ : Sg) (k : Int32) : Bool := inR k (gN σ 31 55) && gB σ 101 k.toNatClampNeg
def rdy (σ : Sg) (i : Nat) : Bool := !gB σ 101 i && (gB σ 101 (gN σ 104 i) && gB σ 101 (gN σ 105 i))
def cLearn (σ : Sg) (i : Nat) (c : Int32) : Sg := sI (sB σ 101 i true) 102 i c
def cFile (σ : Sg) (c : Int32) : Sg := if gN σ 31 55 < 10 then sN (cLearn σ (gN σ 31 55) c) 31 55 (gN σ 31 55 + 1) else σ
def cActOk (σ : Sg) (a b : Int32) : Bool := decide (gN σ 31 55 < 10) && (inR a (gN σ 31 55) && inR b (gN σ 31 55))
def cAct (σ : Sg) (p : Int64) (a b : Int32) : Sg := if cActOk σ a b = true then sN (sN (sN (sJ σ 103 (gN σ 31 55) p) 104 (gN σ 31 55) a.toNatClampNeg) 105 (gN σ 31 55) b.toNatClampNeg) 31 55 (gN σ 31 55 + 1) else σ
def cKey (σ : Sg) (i o : Nat) : Sg := kset σ o (gJ σ 103 i) (dg (gI σ 102 (gN σ 104 i))) (dg (gI σ 102 (gN σ 105 i)))
def cAsk (σ : Sg) (i t : Nat) : Sg := sN (cKey (sN (fSend σ 1 0) 12 (sendTo σ) i) i (sendTo σ + 1)) 106 i (t + 5)
def cPut (σ : Sg) (c : Int32) : Sg := sI (sI (fSend σ 3 0) 15 (sendTo σ) (dg c)) 16 (sendTo σ) c
def fBlob (σ : Sg) (d : Int32) : Option Nat := fnd (fun i => decide (gI σ 107 i = d)) (gN σ 36 64)
def fRes (σ : Sg) (q : Nat) : Option Nat := fnd (fun i => decide (kof σ (69 + i) = kof σ q)) (gN σ 37 64)
def fQue (σ : Sg) (q : Nat) : Option Nat := fnd (fun i => decide (kof σ (gN σ 111 i) = kof σ q)) (gN σ 39 79)
theorem fSh_at (σ : Sg) (k i : Nat) : gN (fSh σ k i) 100 i = gN σ 100 i := if_neg (by omega)
theorem fSh_0 (σ : Sg) (k : Nat) : fSh σ k (k + 1) = σ := by
  refine sg_ext (fun _ _ => rfl) (fun _ _ => rfl) (fun x y => ?_) (fun _ _ => rfl)
  exact if_neg (by omega)
theorem fSh_s {σ : Sg} {k i : Nat} (h : k < i) : sN (fSh σ k i) 100 (i - 1) (gN σ 100 i) = fSh σ k (i + 1) := by
  refine sg_ext (fun _ _ => rfl) (fun _ _ => rfl) (fun x y => ?_) (fun _ _ => rfl)
  show (if x = 100 ∧ y = i - 1 then gN σ 100 i else if x = 100 ∧ k ≤ y ∧ y + 1 < i then gN σ 100 (y + 1) else gN σ x y) = if x = 100 ∧ k ≤ y ∧ y + 1 < i + 1 then gN σ 100 (y + 1) else gN σ x y
  by_cases h1 : x = 100 ∧ y = i - 1
  · rw [if_pos h1, if_pos (by omega), show y + 1 = i by omega]
  · rw [if_neg h1]
    by_cases h2 : x = 100 ∧ k ≤ y ∧ y + 1 < i
    · rw [if_pos h2, if_pos (by omega)]
    · rw [if_neg h2, if_neg (by omega)]
/-! what the server's and the workers' methods do -/
def dHas (σ : Sg) (d : Int32) : Bool := (fBlob σ d).isSome
def dOf (σ : Sg) (d : Int32) : Int32 := match fBlob σ d with
  | none => 0
  | some i => gI σ 108 i
def dWrite (σ : Sg) (d c : Int32) : Sg := if gN σ 36 64 < 10 then sN (sI (sI σ 107 (gN σ 36 64) d) 108 (gN σ 36 64) c) 36 64 (gN σ 36 64 + 1) else σ
def dRem (σ : Sg) (a : Nat) : Sg := sI (sI (sN σ 36 64 (gN σ 36 64 - 1)) 107 a (gI σ 107 (gN σ 36 64 - 1))) 108 a (gI σ 108 (gN σ 36 64 - 1))
def dWrRes (σ : Sg) (q : Nat) (d : Int32) : Sg := if gN σ 37 64 < 10 then sN (sI (kcopy σ (69 + gN σ 37 64) q) 110 (gN σ 37 64) d) 37 64 (gN σ 37 64 + 1) else σ
def dOut (σ : Sg) (d : Int32) : Bool := (fnd (fun i => decide (gI σ 110 i = d)) (gN σ 37 64)).isSome
def qApp (σ : Sg) (q : Nat) : Sg := if gN σ 39 79 < 10 then sN (kcopy σ (gN σ 111 (gN σ 39 79)) q) 39 79 (gN σ 39 79 + 1) else σ
def qSh (σ : Sg) (k i : Nat) : Sg := (σ.1, σ.2.1, fun f o => if f = 111 ∧ k ≤ o ∧ o + 1 < i then gN σ 111 (o + 1) else gN σ f o, σ.2.2.2)
def qRem (σ : Sg) (k : Nat) : Sg := sN (sN (qSh σ k (gN σ 39 79)) 39 79 (gN σ 39 79 - 1)) 111 (gN σ 39 79 - 1) (gN σ 111 k)
def qNames (σ : Sg) (d : Int32) : Bool := (fnd (fun i => kNames σ (gN σ 111 i) d) (gN σ 39 79)).isSome
def lHas (σ : Sg) (nw : Nat) (w : Int32) : Bool := decide (1 ≤ w.toInt ∧ w.toInt ≤ nw) && gB σ 112 (w.toInt.toNat - 1)
def lFind (σ : Sg) (nw q : Nat) : Option Nat := (fnd (fun i => gB σ 112 i && decide (kof σ (95 + i) = kof σ q)) nw).map (fun i => i + 1)
def wrap (nw x : Nat) : Nat := if nw < x then x - nw else x
def lFree (σ : Sg) (nw : Nat) : Option Nat := (fnd (fun i => !gB σ 112 (wrap nw (gN σ 54 91 + (i + 1)) - 1)) nw).map (fun i => wrap nw (gN σ 54 91 + (i + 1)))
def lGive (σ : Sg) (w q t : Nat) : Sg := sN (sN (kcopy (sB σ 112 (w - 1) true) (95 + (w - 1)) q) 114 (w - 1) t) 54 91 w
def lEnd (σ : Sg) (nw : Nat) (w : Int32) : Sg := if lHas σ nw w = true then sB σ 112 (w.toInt.toNat - 1) false else σ
def lFg (σ : Sg) (i : Nat) : Sg := (σ.1, σ.2.1, σ.2.2.1, fun f o => if f = 112 ∧ o < i then false else gB σ f o)
def lForget (σ : Sg) (nw : Nat) : Sg := sN (lFg σ nw) 54 91 0
def lNames (σ : Sg) (nw : Nat) (d : Int32) : Bool := (fnd (fun i => gB σ 112 i && kNames σ (95 + i) d) nw).isSome
def sDown (σ : Sg) (nw : Nat) : Sg := lForget (sN (sB σ 45 63 false) 39 79 0) nw
def sTicks (σ : Sg) (nw w t : Nat) : Int32 := if lHas σ nw (nI w) = true then nI (gN σ 114 (w - 1)) - nI t else -1
def sNeed (σ : Sg) (nw : Nat) (d : Int32) : Bool := dOut σ d || (qNames σ d || lNames σ nw d)
def sCut (σ : Sg) (nw : Nat) : Sg := sDown (sN σ 50 63 (gN σ 50 63 + 1)) nw
def sAns (σ : Sg) (q : Nat) (d c : Int32) : Sg := mFill (fSend σ 6 9) (sendTo σ) q d c
