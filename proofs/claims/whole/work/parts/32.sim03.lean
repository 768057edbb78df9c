/-! what of the class's state is seen: items, flight, disk, results, queue, leases, workers, counters -/
abbrev Msg : Type := Nat × Nat × K3 × Nat × Bool × Bool × Int32 × Int32 × Int32
def mg (σ : Sg) (q : Nat) : Msg := (gN σ 10 q, gN σ 11 q, kof σ (q + 1), gN σ 12 q, gB σ 13 q, gB σ 14 q, gI σ 15 q, gI σ 16 q, gI σ 17 q)
def k00 : K3 := (0, 0, 0)
def vI (σ : Sg) : Nat × (Nat → Bool) × (Nat → Int32) × (Nat → Int64) × (Nat → Nat) × (Nat → Nat) × (Nat → Nat) × Nat := (gN σ 31 55, gB σ 101, gI σ 102, gJ σ 103, gN σ 104, gN σ 105, gN σ 106, gN σ 4 0)
def m00 : Msg := (0, 0, k00, 0, false, false, 0, 0, 0)
def vF (σ : Sg) : Nat × (Nat → Msg) := (gN σ 21 1, fun i => if i < 24 then mg σ (gN σ 100 i) else m00)
def vD (σ : Sg) : Nat × (Nat → Int32) × (Nat → Int32) := (gN σ 36 64, gI σ 107, gI σ 108)
def vR (σ : Sg) : Nat × (Nat → K3) × (Nat → Int32) := (gN σ 37 64, fun i => if i < 10 then kof σ (69 + i) else k00, gI σ 110)
def vQ (σ : Sg) : Nat × (Nat → K3) := (gN σ 39 79, fun i => if i < 10 then kof σ (gN σ 111 i) else k00)
def vL (σ : Sg) : (Nat → Bool) × (Nat → K3) × (Nat → Nat) × Nat := (gB σ 112, fun i => if i < 4 then kof σ (95 + i) else k00, gN σ 114, gN σ 54 91)
def vW (σ : Sg) : (Nat → Bool) × (Nat → Bool) × (Nat → K3) × (Nat → Nat) × (Nat → X3) := (fun j => gB σ 56 (100 + 2 * j), fun j => gB σ 57 (100 + 2 * j), fun j => if j < 4 then kof σ (100 + 2 * j + 1) else k00, fun j => gN σ 58 (100 + 2 * j), fun j => (gI σ 59 (100 + 2 * j), gI σ 60 (100 + 2 * j), gN σ 61 (100 + 2 * j)))
def vC (σ : Sg) : Nat × Bool × Nat × Nat × Nat × Nat × Nat × Nat := (gN σ 44 63, gB σ 45 63, gN σ 46 63, gN σ 47 63, gN σ 48 63, gN σ 5 0, gN σ 49 63, gN σ 50 63)
def vS (σ : Sg) : Nat := gN σ 22 1
def sme (c : Nat) (σ τ : Sg) : Prop := match c with
  | 0 => vI τ = vI σ
  | 1 => vF τ = vF σ
  | 2 => vD τ = vD σ
  | 3 => vR τ = vR σ
  | 4 => vQ τ = vQ σ
  | 5 => vL τ = vL σ
  | 6 => vW τ = vW σ
  | 7 => vC τ = vC σ
  | 8 => vS τ = vS σ
  | _ => True
/-- the same but for those -/
def Ex (L : List Nat) (σ τ : Sg) : Prop := ∀ c, c ∉ L → sme c σ τ
theorem sme_rf : ∀ (c : Nat) (σ : Sg), sme c σ σ
  | 0, _ => rfl
  | 1, _ => rfl
  | 2, _ => rfl
  | 3, _ => rfl
  | 4, _ => rfl
  | 5, _ => rfl
  | 6, _ => rfl
  | 7, _ => rfl
  | 8, _ => rfl
  | _ + 9, _ => trivial
theorem sme_tr : ∀ {c : Nat} {σ τ ρ : Sg}, sme c σ τ → sme c τ ρ → sme c σ ρ
  | 0, _, _, _, h, h' => Eq.trans h' h
  | 1, _, _, _, h, h' => Eq.trans h' h
  | 2, _, _, _, h, h' => Eq.trans h' h
  | 3, _, _, _, h, h' => Eq.trans h' h
  | 4, _, _, _, h, h' => Eq.trans h' h
  | 5, _, _, _, h, h' => Eq.trans h' h
  | 6, _, _, _, h, h' => Eq.trans h' h
  | 7, _, _, _, h, h' => Eq.trans h' h
  | 8, _, _, _, h, h' => Eq.trans h' h
  | _ + 9, _, _, _, _, _ => trivial
theorem Ex.tr {L L' : List Nat} {σ τ ρ : Sg} (h : Ex L σ τ) (h' : Ex L' τ ρ) : Ex (L ++ L') σ ρ := fun c hc => sme_tr (h c (fun z => hc (List.mem_append_left _ z))) (h' c (fun z => hc (List.mem_append_right _ z)))
theorem Ex.mono {L L' : List Nat} {σ τ : Sg} (h : Ex L σ τ) (hs : ∀ c ∈ L, c ∈ L') : Ex L' σ τ := fun c hc => h c (fun z => hc (hs c z))
/-- two steps that change no more than L -/
theorem Ex.seq {L L₁ L₂ : List Nat} {σ τ ρ : Sg} (h : Ex L₁ σ τ) (h' : Ex L₂ τ ρ) (hs : ∀ c ∈ L₁ ++ L₂, c ∈ L) : Ex L σ ρ := (h.tr h').mono hs
theorem Ex.rf (L : List Nat) (σ : Sg) : Ex L σ σ := fun c _ => sme_rf c σ
theorem ex_all {L : List Nat} {σ τ : Sg} (h0 : 0 ∉ L → vI τ = vI σ) (h1 : 1 ∉ L → vF τ = vF σ) (h2 : 2 ∉ L → vD τ = vD σ) (h3 : 3 ∉ L → vR τ = vR σ) (h4 : 4 ∉ L → vQ τ = vQ σ) (h5 : 5 ∉ L → vL τ = vL σ) (h6 : 6 ∉ L → vW τ = vW σ) (h7 : 7 ∉ L → vC τ = vC σ) (h8 : 8 ∉ L → vS τ = vS σ) : Ex L σ τ
  | 0, hc => h0 hc
  | 1, hc => h1 hc
  | 2, hc => h2 hc
  | 3, hc => h3 hc
  | 4, hc => h4 hc
  | 5, hc => h5 hc
  | 6, hc => h6 hc
  | 7, hc => h7 hc
  | 8, hc => h8 hc
  | _ + 9, _ => trivial
theorem kof_s (σ : Sg) (o : Nat) (p : Int64) (a b : Int32) : kof (kset σ o p a b) o = (p, a, b) := by
  simp [kof, kset, gs]
theorem kof_n (σ : Sg) {o x : Nat} (p : Int64) (a b : Int32) (h : x ≠ o) : kof (kset σ o p a b) x = kof σ x := by
  simp [kof, kset, gs, h]
section KV
variable {σ : Sg} {o : Nat} {p : Int64} {a b : Int32}
theorem mg_k {q : Nat} (h : q + 1 ≠ o) : mg (kset σ o p a b) q = mg σ q := by
  unfold mg
  rw [kof_n σ p a b h]
  simp [kset, gs]
theorem vF_k (hR : ∀ i, i < 24 → 3 ≤ gN σ 100 i ∧ gN σ 100 i ≤ 53) (h : o < 4 ∨ 54 < o) : vF (kset σ o p a b) = vF σ := by
  refine Prod.ext rfl (funext fun i => ?_)
  show (if i < 24 then mg (kset σ o p a b) (gN σ 100 i) else m00) = if i < 24 then mg σ (gN σ 100 i) else m00
  by_cases c : i < 24
  · rw [if_pos c, if_pos c, mg_k (by have := hR i c; omega)]
  · rw [if_neg c, if_neg c]
theorem vR_k (h : o < 69 ∨ 78 < o) : vR (kset σ o p a b) = vR σ := by
  refine Prod.ext rfl (Prod.ext (funext fun i => ?_) ?_)
  · show (if i < 10 then kof (kset σ o p a b) (69 + i) else k00) = if i < 10 then kof σ (69 + i) else k00
    by_cases c : i < 10
    · rw [if_pos c, if_pos c, kof_n σ p a b (by omega)]
    · rw [if_neg c, if_neg c]
  · rfl
theorem vQ_k (hQ : ∀ i, i < 10 → 81 ≤ gN σ 111 i ∧ gN σ 111 i ≤ 90) (h : o < 81 ∨ 90 < o) : vQ (kset σ o p a b) = vQ σ := by
  refine Prod.ext rfl (funext fun i => ?_)
  show (if i < 10 then kof (kset σ o p a b) (gN σ 111 i) else k00) = if i < 10 then kof σ (gN σ 111 i) else k00
  by_cases c : i < 10
  · rw [if_pos c, if_pos c, kof_n σ p a b (by have := hQ i c; omega)]
  · rw [if_neg c, if_neg c]
theorem vL_k (h : o < 95 ∨ 98 < o) : vL (kset σ o p a b) = vL σ := by
  refine Prod.ext rfl (Prod.ext (funext fun i => ?_) rfl)
  show (if i < 4 then kof (kset σ o p a b) (95 + i) else k00) = if i < 4 then kof σ (95 + i) else k00
  by_cases c : i < 4
  · rw [if_pos c, if_pos c, kof_n σ p a b (by omega)]
  · rw [if_neg c, if_neg c]
theorem vW_k (h : o < 101) : vW (kset σ o p a b) = vW σ := by
  have e1 : ∀ x y, x ≠ 7 → x ≠ 8 → gI (kset σ o p a b) x y = gI σ x y := fun x y h h' => by simp [kset, gs, h, h']
  refine Prod.ext rfl (Prod.ext rfl (Prod.ext (funext fun i => ?_) (Prod.ext rfl rfl)))
  show (if i < 4 then kof (kset σ o p a b) (100 + 2 * i + 1) else k00) = if i < 4 then kof σ (100 + 2 * i + 1) else k00
  by_cases c : i < 4
  · rw [if_pos c, if_pos c, kof_n σ p a b (by omega)]
  · rw [if_neg c, if_neg c]
end KV
theorem ex_k62 {σ : Sg} (p : Int64) (a b : Int32) (hR : ∀ i, i < 24 → 3 ≤ gN σ 100 i ∧ gN σ 100 i ≤ 53) (hQ : ∀ i, i < 10 → 81 ≤ gN σ 111 i ∧ gN σ 111 i ≤ 90) : Ex [] σ (kset σ 62 p a b) := ex_all (fun _ => rfl) (fun _ => vF_k hR (by omega)) (fun _ => rfl) (fun _ => vR_k (by omega)) (fun _ => vQ_k hQ (by omega)) (fun _ => vL_k (by omega)) (fun _ => vW_k (by omega)) (fun _ => rfl) (fun _ => rfl)
theorem ex_kR {σ : Sg} {o : Nat} (p : Int64) (a b : Int32) (hR : ∀ i, i < 24 → 3 ≤ gN σ 100 i ∧ gN σ 100 i ≤ 53) (hQ : ∀ i, i < 10 → 81 ≤ gN σ 111 i ∧ gN σ 111 i ≤ 90) (h : 69 ≤ o ∧ o ≤ 78) : Ex [3] σ (kset σ o p a b) := ex_all (fun _ => rfl) (fun _ => vF_k hR (by omega)) (fun _ => rfl) (fun h => absurd (by decide) h) (fun _ => vQ_k hQ (by omega)) (fun _ => vL_k (by omega)) (fun _ => vW_k (by omega)) (fun _ => rfl) (fun _ => rfl)
theorem ex_kQ {σ : Sg} {o : Nat} (p : Int64) (a b : Int32) (hR : ∀ i, i < 24 → 3 ≤ gN σ 100 i ∧ gN σ 100 i ≤ 53) (hQ : ∀ i, i < 10 → 81 ≤ gN σ 111 i ∧ gN σ 111 i ≤ 90) (h : 81 ≤ o ∧ o ≤ 90) : Ex [4] σ (kset σ o p a b) := ex_all (fun _ => rfl) (fun _ => vF_k hR (by omega)) (fun _ => rfl) (fun _ => vR_k (by omega)) (fun h => absurd (by decide) h) (fun _ => vL_k (by omega)) (fun _ => vW_k (by omega)) (fun _ => rfl) (fun _ => rfl)
theorem ex_kL {σ : Sg} {o : Nat} (p : Int64) (a b : Int32) (hR : ∀ i, i < 24 → 3 ≤ gN σ 100 i ∧ gN σ 100 i ≤ 53) (hQ : ∀ i, i < 10 → 81 ≤ gN σ 111 i ∧ gN σ 111 i ≤ 90) (h : 95 ≤ o ∧ o ≤ 98) : Ex [5] σ (kset σ o p a b) := ex_all (fun _ => rfl) (fun _ => vF_k hR (by omega)) (fun _ => rfl) (fun _ => vR_k (by omega)) (fun _ => vQ_k hQ (by omega)) (fun h => absurd (by decide) h) (fun _ => vW_k (by omega)) (fun _ => rfl) (fun _ => rfl)
theorem ex_kW {σ : Sg} {o : Nat} (p : Int64) (a b : Int32) (hR : ∀ i, i < 24 → 3 ≤ gN σ 100 i ∧ gN σ 100 i ≤ 53) (hQ : ∀ i, i < 10 → 81 ≤ gN σ 111 i ∧ gN σ 111 i ≤ 90) (h : 101 ≤ o) : Ex [6] σ (kset σ o p a b) := ex_all (fun _ => rfl) (fun _ => vF_k hR (by omega)) (fun _ => rfl) (fun _ => vR_k (by omega)) (fun _ => vQ_k hQ (by omega)) (fun _ => vL_k (by omega)) (fun h => absurd (by decide) h) (fun _ => rfl) (fun _ => rfl)
theorem ex_kF {σ : Sg} {o : Nat} (p : Int64) (a b : Int32) (hR : ∀ i, i < 24 → 3 ≤ gN σ 100 i ∧ gN σ 100 i ≤ 53) (hQ : ∀ i, i < 10 → 81 ≤ gN σ 111 i ∧ gN σ 111 i ≤ 90) (h : 4 ≤ o ∧ o ≤ 54) : Ex [1] σ (kset σ o p a b) := ex_all (fun _ => rfl) (fun h => absurd (by decide) h) (fun _ => rfl) (fun _ => vR_k (by omega)) (fun _ => vQ_k hQ (by omega)) (fun _ => vL_k (by omega)) (fun _ => vW_k (by omega)) (fun _ => rfl) (fun _ => rfl)
theorem exN_31 (σ : Sg) (o v : Nat) : Ex [0] σ (sN σ 31 o v) := ex_all (fun h => absurd (by decide) h) (fun _ => rfl) (fun _ => rfl) (fun _ => rfl) (fun _ => rfl) (fun _ => rfl) (fun _ => rfl) (fun _ => rfl) (fun _ => rfl)
theorem exN_104 (σ : Sg) (o v : Nat) : Ex [0] σ (sN σ 104 o v) := ex_all (fun h => absurd (by decide) h) (fun _ => rfl) (fun _ => rfl) (fun _ => rfl) (fun _ => rfl) (fun _ => rfl) (fun _ => rfl) (fun _ => rfl) (fun _ => rfl)
theorem exN_105 (σ : Sg) (o v : Nat) : Ex [0] σ (sN σ 105 o v) := ex_all (fun h => absurd (by decide) h) (fun _ => rfl) (fun _ => rfl) (fun _ => rfl) (fun _ => rfl) (fun _ => rfl) (fun _ => rfl) (fun _ => rfl) (fun _ => rfl)
theorem exN_106 (σ : Sg) (o v : Nat) : Ex [0] σ (sN σ 106 o v) := ex_all (fun h => absurd (by decide) h) (fun _ => rfl) (fun _ => rfl) (fun _ => rfl) (fun _ => rfl) (fun _ => rfl) (fun _ => rfl) (fun _ => rfl) (fun _ => rfl)
theorem exN_4 (σ : Sg) (o v : Nat) : Ex [0] σ (sN σ 4 o v) := ex_all (fun h => absurd (by decide) h) (fun _ => rfl) (fun _ => rfl) (fun _ => rfl) (fun _ => rfl) (fun _ => rfl) (fun _ => rfl) (fun _ => rfl) (fun _ => rfl)
theorem exN_21 (σ : Sg) (o v : Nat) : Ex [1] σ (sN σ 21 o v) := ex_all (fun _ => rfl) (fun h => absurd (by decide) h) (fun _ => rfl) (fun _ => rfl) (fun _ => rfl) (fun _ => rfl) (fun _ => rfl) (fun _ => rfl) (fun _ => rfl)
theorem exN_10 (σ : Sg) (o v : Nat) : Ex [1] σ (sN σ 10 o v) := ex_all (fun _ => rfl) (fun h => absurd (by decide) h) (fun _ => rfl) (fun _ => rfl) (fun _ => rfl) (fun _ => rfl) (fun _ => rfl) (fun _ => rfl) (fun _ => rfl)
theorem exN_11 (σ : Sg) (o v : Nat) : Ex [1] σ (sN σ 11 o v) := ex_all (fun _ => rfl) (fun h => absurd (by decide) h) (fun _ => rfl) (fun _ => rfl) (fun _ => rfl) (fun _ => rfl) (fun _ => rfl) (fun _ => rfl) (fun _ => rfl)
theorem exN_12 (σ : Sg) (o v : Nat) : Ex [1] σ (sN σ 12 o v) := ex_all (fun _ => rfl) (fun h => absurd (by decide) h) (fun _ => rfl) (fun _ => rfl) (fun _ => rfl) (fun _ => rfl) (fun _ => rfl) (fun _ => rfl) (fun _ => rfl)
theorem exN_100 (σ : Sg) (o v : Nat) : Ex [1] σ (sN σ 100 o v) := ex_all (fun _ => rfl) (fun h => absurd (by decide) h) (fun _ => rfl) (fun _ => rfl) (fun _ => rfl) (fun _ => rfl) (fun _ => rfl) (fun _ => rfl) (fun _ => rfl)
theorem exN_36 (σ : Sg) (o v : Nat) : Ex [2] σ (sN σ 36 o v) := ex_all (fun _ => rfl) (fun _ => rfl) (fun h => absurd (by decide) h) (fun _ => rfl) (fun _ => rfl) (fun _ => rfl) (fun _ => rfl) (fun _ => rfl) (fun _ => rfl)
theorem exN_37 (σ : Sg) (o v : Nat) : Ex [3] σ (sN σ 37 o v) := ex_all (fun _ => rfl) (fun _ => rfl) (fun _ => rfl) (fun h => absurd (by decide) h) (fun _ => rfl) (fun _ => rfl) (fun _ => rfl) (fun _ => rfl) (fun _ => rfl)
theorem exN_39 (σ : Sg) (o v : Nat) : Ex [4] σ (sN σ 39 o v) := ex_all (fun _ => rfl) (fun _ => rfl) (fun _ => rfl) (fun _ => rfl) (fun h => absurd (by decide) h) (fun _ => rfl) (fun _ => rfl) (fun _ => rfl) (fun _ => rfl)
theorem exN_111 (σ : Sg) (o v : Nat) : Ex [4] σ (sN σ 111 o v) := ex_all (fun _ => rfl) (fun _ => rfl) (fun _ => rfl) (fun _ => rfl) (fun h => absurd (by decide) h) (fun _ => rfl) (fun _ => rfl) (fun _ => rfl) (fun _ => rfl)
theorem exN_114 (σ : Sg) (o v : Nat) : Ex [5] σ (sN σ 114 o v) := ex_all (fun _ => rfl) (fun _ => rfl) (fun _ => rfl) (fun _ => rfl) (fun _ => rfl) (fun h => absurd (by decide) h) (fun _ => rfl) (fun _ => rfl) (fun _ => rfl)
theorem exN_54 (σ : Sg) (o v : Nat) : Ex [5] σ (sN σ 54 o v) := ex_all (fun _ => rfl) (fun _ => rfl) (fun _ => rfl) (fun _ => rfl) (fun _ => rfl) (fun h => absurd (by decide) h) (fun _ => rfl) (fun _ => rfl) (fun _ => rfl)
theorem exN_58 (σ : Sg) (o v : Nat) : Ex [6] σ (sN σ 58 o v) := ex_all (fun _ => rfl) (fun _ => rfl) (fun _ => rfl) (fun _ => rfl) (fun _ => rfl) (fun _ => rfl) (fun h => absurd (by decide) h) (fun _ => rfl) (fun _ => rfl)
theorem exN_61 (σ : Sg) (o v : Nat) : Ex [6] σ (sN σ 61 o v) := ex_all (fun _ => rfl) (fun _ => rfl) (fun _ => rfl) (fun _ => rfl) (fun _ => rfl) (fun _ => rfl) (fun h => absurd (by decide) h) (fun _ => rfl) (fun _ => rfl)
theorem exN_44 (σ : Sg) (o v : Nat) : Ex [7] σ (sN σ 44 o v) := ex_all (fun _ => rfl) (fun _ => rfl) (fun _ => rfl) (fun _ => rfl) (fun _ => rfl) (fun _ => rfl) (fun _ => rfl) (fun h => absurd (by decide) h) (fun _ => rfl)
theorem exN_46 (σ : Sg) (o v : Nat) : Ex [7] σ (sN σ 46 o v) := ex_all (fun _ => rfl) (fun _ => rfl) (fun _ => rfl) (fun _ => rfl) (fun _ => rfl) (fun _ => rfl) (fun _ => rfl) (fun h => absurd (by decide) h) (fun _ => rfl)
theorem exN_47 (σ : Sg) (o v : Nat) : Ex [7] σ (sN σ 47 o v) := ex_all (fun _ => rfl) (fun _ => rfl) (fun _ => rfl) (fun _ => rfl) (fun _ => rfl) (fun _ => rfl) (fun _ => rfl) (fun h => absurd (by decide) h) (fun _ => rfl)
theorem exN_48 (σ : Sg) (o v : Nat) : Ex [7] σ (sN σ 48 o v) := ex_all (fun _ => rfl) (fun _ => rfl) (fun _ => rfl) (fun _ => rfl) (fun _ => rfl) (fun _ => rfl) (fun _ => rfl) (fun h => absurd (by decide) h) (fun _ => rfl)
theorem exN_5 (σ : Sg) (o v : Nat) : Ex [7] σ (sN σ 5 o v) := ex_all (fun _ => rfl) (fun _ => rfl) (fun _ => rfl) (fun _ => rfl) (fun _ => rfl) (fun _ => rfl) (fun _ => rfl) (fun h => absurd (by decide) h) (fun _ => rfl)
theorem exN_49 (σ : Sg) (o v : Nat) : Ex [7] σ (sN σ 49 o v) := ex_all (fun _ => rfl) (fun _ => rfl) (fun _ => rfl) (fun _ => rfl) (fun _ => rfl) (fun _ => rfl) (fun _ => rfl) (fun h => absurd (by decide) h) (fun _ => rfl)
theorem exN_50 (σ : Sg) (o v : Nat) : Ex [7] σ (sN σ 50 o v) := ex_all (fun _ => rfl) (fun _ => rfl) (fun _ => rfl) (fun _ => rfl) (fun _ => rfl) (fun _ => rfl) (fun _ => rfl) (fun h => absurd (by decide) h) (fun _ => rfl)
theorem exN_22 (σ : Sg) (o v : Nat) : Ex [8] σ (sN σ 22 o v) := ex_all (fun _ => rfl) (fun _ => rfl) (fun _ => rfl) (fun _ => rfl) (fun _ => rfl) (fun _ => rfl) (fun _ => rfl) (fun _ => rfl) (fun h => absurd (by decide) h)
theorem exN_20 (σ : Sg) (o v : Nat) : Ex [] σ (sN σ 20 o v) := ex_all (fun _ => rfl) (fun _ => rfl) (fun _ => rfl) (fun _ => rfl) (fun _ => rfl) (fun _ => rfl) (fun _ => rfl) (fun _ => rfl) (fun _ => rfl)
theorem exI_102 (σ : Sg) (o : Nat) (v : Int32) : Ex [0] σ (sI σ 102 o v) := ex_all (fun h => absurd (by decide) h) (fun _ => rfl) (fun _ => rfl) (fun _ => rfl) (fun _ => rfl) (fun _ => rfl) (fun _ => rfl) (fun _ => rfl) (fun _ => rfl)
theorem exI_15 (σ : Sg) (o : Nat) (v : Int32) : Ex [1] σ (sI σ 15 o v) := ex_all (fun _ => rfl) (fun h => absurd (by decide) h) (fun _ => rfl) (fun _ => rfl) (fun _ => rfl) (fun _ => rfl) (fun _ => rfl) (fun _ => rfl) (fun _ => rfl)
theorem exI_16 (σ : Sg) (o : Nat) (v : Int32) : Ex [1] σ (sI σ 16 o v) := ex_all (fun _ => rfl) (fun h => absurd (by decide) h) (fun _ => rfl) (fun _ => rfl) (fun _ => rfl) (fun _ => rfl) (fun _ => rfl) (fun _ => rfl) (fun _ => rfl)
theorem exI_17 (σ : Sg) (o : Nat) (v : Int32) : Ex [1] σ (sI σ 17 o v) := ex_all (fun _ => rfl) (fun h => absurd (by decide) h) (fun _ => rfl) (fun _ => rfl) (fun _ => rfl) (fun _ => rfl) (fun _ => rfl) (fun _ => rfl) (fun _ => rfl)
theorem exI_107 (σ : Sg) (o : Nat) (v : Int32) : Ex [2] σ (sI σ 107 o v) := ex_all (fun _ => rfl) (fun _ => rfl) (fun h => absurd (by decide) h) (fun _ => rfl) (fun _ => rfl) (fun _ => rfl) (fun _ => rfl) (fun _ => rfl) (fun _ => rfl)
theorem exI_108 (σ : Sg) (o : Nat) (v : Int32) : Ex [2] σ (sI σ 108 o v) := ex_all (fun _ => rfl) (fun _ => rfl) (fun h => absurd (by decide) h) (fun _ => rfl) (fun _ => rfl) (fun _ => rfl) (fun _ => rfl) (fun _ => rfl) (fun _ => rfl)
theorem exI_110 (σ : Sg) (o : Nat) (v : Int32) : Ex [3] σ (sI σ 110 o v) := ex_all (fun _ => rfl) (fun _ => rfl) (fun _ => rfl) (fun h => absurd (by decide) h) (fun _ => rfl) (fun _ => rfl) (fun _ => rfl) (fun _ => rfl) (fun _ => rfl)
theorem exI_59 (σ : Sg) (o : Nat) (v : Int32) : Ex [6] σ (sI σ 59 o v) := ex_all (fun _ => rfl) (fun _ => rfl) (fun _ => rfl) (fun _ => rfl) (fun _ => rfl) (fun _ => rfl) (fun h => absurd (by decide) h) (fun _ => rfl) (fun _ => rfl)
theorem exI_60 (σ : Sg) (o : Nat) (v : Int32) : Ex [6] σ (sI σ 60 o v) := ex_all (fun _ => rfl) (fun _ => rfl) (fun _ => rfl) (fun _ => rfl) (fun _ => rfl) (fun _ => rfl) (fun h => absurd (by decide) h) (fun _ => rfl) (fun _ => rfl)
theorem exB_101 (σ : Sg) (o : Nat) (v : Bool) : Ex [0] σ (sB σ 101 o v) := ex_all (fun h => absurd (by decide) h) (fun _ => rfl) (fun _ => rfl) (fun _ => rfl) (fun _ => rfl) (fun _ => rfl) (fun _ => rfl) (fun _ => rfl) (fun _ => rfl)
theorem exB_13 (σ : Sg) (o : Nat) (v : Bool) : Ex [1] σ (sB σ 13 o v) := ex_all (fun _ => rfl) (fun h => absurd (by decide) h) (fun _ => rfl) (fun _ => rfl) (fun _ => rfl) (fun _ => rfl) (fun _ => rfl) (fun _ => rfl) (fun _ => rfl)
theorem exB_14 (σ : Sg) (o : Nat) (v : Bool) : Ex [1] σ (sB σ 14 o v) := ex_all (fun _ => rfl) (fun h => absurd (by decide) h) (fun _ => rfl) (fun _ => rfl) (fun _ => rfl) (fun _ => rfl) (fun _ => rfl) (fun _ => rfl) (fun _ => rfl)
theorem exB_112 (σ : Sg) (o : Nat) (v : Bool) : Ex [5] σ (sB σ 112 o v) := ex_all (fun _ => rfl) (fun _ => rfl) (fun _ => rfl) (fun _ => rfl) (fun _ => rfl) (fun h => absurd (by decide) h) (fun _ => rfl) (fun _ => rfl) (fun _ => rfl)
theorem exB_56 (σ : Sg) (o : Nat) (v : Bool) : Ex [6] σ (sB σ 56 o v) := ex_all (fun _ => rfl) (fun _ => rfl) (fun _ => rfl) (fun _ => rfl) (fun _ => rfl) (fun _ => rfl) (fun h => absurd (by decide) h) (fun _ => rfl) (fun _ => rfl)
theorem exB_57 (σ : Sg) (o : Nat) (v : Bool) : Ex [6] σ (sB σ 57 o v) := ex_all (fun _ => rfl) (fun _ => rfl) (fun _ => rfl) (fun _ => rfl) (fun _ => rfl) (fun _ => rfl) (fun h => absurd (by decide) h) (fun _ => rfl) (fun _ => rfl)
theorem exB_45 (σ : Sg) (o : Nat) (v : Bool) : Ex [7] σ (sB σ 45 o v) := ex_all (fun _ => rfl) (fun _ => rfl) (fun _ => rfl) (fun _ => rfl) (fun _ => rfl) (fun _ => rfl) (fun _ => rfl) (fun h => absurd (by decide) h) (fun _ => rfl)
theorem exJ_103 (σ : Sg) (o : Nat) (v : Int64) : Ex [0] σ (sJ σ 103 o v) := ex_all (fun h => absurd (by decide) h) (fun _ => rfl) (fun _ => rfl) (fun _ => rfl) (fun _ => rfl) (fun _ => rfl) (fun _ => rfl) (fun _ => rfl) (fun _ => rfl)
theorem ex_fSh (σ : Sg) (k i : Nat) : Ex [1] σ (fSh σ k i) := ex_all (fun _ => rfl) (fun h => absurd (by decide) h) (fun _ => rfl) (fun _ => rfl) (fun _ => rfl) (fun _ => rfl) (fun _ => rfl) (fun _ => rfl) (fun _ => rfl)
theorem ex_qSh (σ : Sg) (k i : Nat) : Ex [4] σ (qSh σ k i) := ex_all (fun _ => rfl) (fun _ => rfl) (fun _ => rfl) (fun _ => rfl) (fun h => absurd (by decide) h) (fun _ => rfl) (fun _ => rfl) (fun _ => rfl) (fun _ => rfl)
theorem ex_lFg (σ : Sg) (i : Nat) : Ex [5] σ (lFg σ i) := ex_all (fun _ => rfl) (fun _ => rfl) (fun _ => rfl) (fun _ => rfl) (fun _ => rfl) (fun h => absurd (by decide) h) (fun _ => rfl) (fun _ => rfl) (fun _ => rfl)
