/-! the bounds that hold of every state of the class -/
def Wf (nw : Nat) (σ : Sg) : Prop :=
  ((∀ i, i < 24 → kdC (gN σ 100 i) = 2) ∧ kdC (gN σ 20 1) = 2 ∧ gN σ 21 1 ≤ 24) ∧
  ((∀ i, i < 10 → 81 ≤ gN σ 111 i ∧ gN σ 111 i ≤ 90) ∧ gN σ 39 79 ≤ 10) ∧
  (gN σ 31 55 ≤ 10 ∧ (∀ i, i < 10 → gN σ 104 i < 10 ∧ gN σ 105 i < 10) ∧ (∀ i, gN σ 106 i < 2 ^ 30)) ∧
  (gN σ 36 64 ≤ 10 ∧ gN σ 37 64 ≤ 10) ∧ (gN σ 54 91 ≤ nw ∧ (∀ i, gN σ 114 i < 2 ^ 30)) ∧
  ((∀ q, gN σ 10 q < 7) ∧ (∀ q, gN σ 11 q < 10) ∧ (∀ q, gN σ 12 q < 10)) ∧ (∀ o, gN σ 61 o ≤ 17) ∧ gN σ 44 63 ≤ 40
section WF
variable {nw : Nat} {σ : Sg}
theorem Wf.R (h : Wf nw σ) : ∀ i, i < 24 → kdC (gN σ 100 i) = 2 := h.1.1
theorem Wf.T (h : Wf nw σ) : kdC (gN σ 20 1) = 2 := h.1.2.1
theorem Wf.n (h : Wf nw σ) : gN σ 21 1 ≤ 24 := h.1.2.2
theorem kd_qkT : ∀ o, o < 91 → 81 ≤ o → kdC o = 1 := by decide +kernel
theorem Wf.Q (h : Wf nw σ) : ∀ i, i < 10 → kdC (gN σ 111 i) = 1 ∧ gN σ 111 i < 95 := fun i hi => ⟨kd_qkT _ (by have := h.2.1.1 i hi; omega) (h.2.1.1 i hi).1, by have := h.2.1.1 i hi; omega⟩
theorem Wf.q (h : Wf nw σ) : gN σ 39 79 ≤ 10 := h.2.1.2
theorem Wf.it (h : Wf nw σ) : gN σ 31 55 ≤ 10 := h.2.2.1.1
theorem Wf.as (h : Wf nw σ) {i : Nat} (hi : i < 10) : gN σ 104 i < 10 := (h.2.2.1.2.1 i hi).1
theorem Wf.bs (h : Wf nw σ) {i : Nat} (hi : i < 10) : gN σ 105 i < 10 := (h.2.2.1.2.1 i hi).2
theorem Wf.na (h : Wf nw σ) (i : Nat) : gN σ 106 i < 2 ^ 30 := h.2.2.1.2.2 i
theorem Wf.bl (h : Wf nw σ) : gN σ 36 64 ≤ 10 := h.2.2.2.1.1
theorem Wf.rs (h : Wf nw σ) : gN σ 37 64 ≤ 10 := h.2.2.2.1.2
theorem Wf.lt (h : Wf nw σ) : gN σ 54 91 ≤ nw := h.2.2.2.2.1.1
theorem Wf.en (h : Wf nw σ) (i : Nat) : gN σ 114 i < 2 ^ 30 := h.2.2.2.2.1.2 i
theorem Wf.kd (h : Wf nw σ) (q : Nat) : gN σ 10 q < 7 := h.2.2.2.2.2.1.1 q
theorem Wf.rc (h : Wf nw σ) (q : Nat) : gN σ 11 q < 10 := h.2.2.2.2.2.1.2.1 q
theorem Wf.im (h : Wf nw σ) (q : Nat) : gN σ 12 q < 10 := h.2.2.2.2.2.1.2.2 q
theorem Wf.pp (h : Wf nw σ) (o : Nat) : gN σ 61 o ≤ 17 := h.2.2.2.2.2.2.1 o
theorem Wf.ln (h : Wf nw σ) : gN σ 44 63 ≤ 40 := h.2.2.2.2.2.2.2
/-- the fields that the bounds speak of -/
def wfF : List Nat := [100, 20, 21, 111, 39, 31, 104, 105, 106, 36, 37, 54, 114, 10, 11, 12, 61, 44]
theorem wf_of {σ' : Sg} (h : Wf nw σ) (e : ∀ f, f ∈ wfF → ∀ o, gN σ' f o = gN σ f o) : Wf nw σ' := by
  have e' : ∀ f, f ∈ wfF → gN σ' f = gN σ f := fun f hf => funext (e f hf)
  unfold Wf
  rw [e' 100 (by decide), e' 20 (by decide), e' 21 (by decide), e' 111 (by decide), e' 39 (by decide), e' 31 (by decide), e' 104 (by decide), e' 105 (by decide), e' 106 (by decide), e' 36 (by decide), e' 37 (by decide), e' 54 (by decide), e' 114 (by decide), e' 10 (by decide), e' 11 (by decide), e' 12 (by decide), e' 61 (by decide), e' 44 (by decide)]
  exact h
theorem wf_N {f o v : Nat} (hf : f ∉ wfF) (h : Wf nw σ) : Wf nw (sN σ f o v) := wf_of h (fun x hx y => if_neg (fun (z : x = f ∧ y = o) => hf (z.1 ▸ hx)))
theorem wf_I {f o : Nat} {v : Int32} (h : Wf nw σ) : Wf nw (sI σ f o v) := h
theorem wf_J {f o : Nat} {v : Int64} (h : Wf nw σ) : Wf nw (sJ σ f o v) := h
theorem wf_B {f o : Nat} {v : Bool} (h : Wf nw σ) : Wf nw (sB σ f o v) := h
theorem wf_ks {o : Nat} {p : Int64} {a b : Int32} (h : Wf nw σ) : Wf nw (kset σ o p a b) := h
theorem wf_kc {o q : Nat} (h : Wf nw σ) : Wf nw (kcopy σ o q) := h
theorem wf_up {f o v : Nat} (h : Wf nw σ) (h1 : f = 100 → o < 24 → kdC v = 2) (h2 : f = 20 → kdC v = 2) (h3 : f = 21 → v ≤ 24) (h4 : f = 111 → 81 ≤ v ∧ v ≤ 90) (h5 : f = 39 → v ≤ 10) (h6 : f = 31 → v ≤ 10) (h7 : f = 104 → v < 10) (h8 : f = 105 → v < 10) (h9 : f = 106 → v < 2 ^ 30) (h10 : f = 36 → v ≤ 10) (h11 : f = 37 → v ≤ 10) (h12 : f = 54 → v ≤ nw) (h13 : f = 114 → v < 2 ^ 30) (h14 : f = 10 → v < 7) (h15 : f = 11 → v < 10) (h18 : f = 12 → v < 10) (h16 : f = 61 → v ≤ 17) (h17 : f = 44 → v ≤ 40) : Wf nw (sN σ f o v) := by
  have key : ∀ (x y : Nat) (P : Nat → Prop), P (gN σ x y) → (x = f → y = o → P v) → P (gN (sN σ f o v) x y) := by
    intro x y P a b
    show P (if x = f ∧ y = o then v else gN σ x y)
    by_cases c : x = f ∧ y = o
    · rw [if_pos c]; exact b c.1 c.2
    · rw [if_neg c]; exact a
  refine ⟨⟨fun i hi => key _ _ (fun z => kdC z = 2) (h.R i hi) (fun e e2 => h1 e.symm (e2 ▸ hi)), key _ _ (fun z => kdC z = 2) h.T (fun e _ => h2 e.symm), key _ _ (fun z => z ≤ 24) h.n (fun e _ => h3 e.symm)⟩,
    ⟨fun i hi => key _ _ (fun z => 81 ≤ z ∧ z ≤ 90) (h.2.1.1 i hi) (fun e _ => h4 e.symm), key _ _ (fun z => z ≤ 10) h.q (fun e _ => h5 e.symm)⟩,
    ⟨key _ _ (fun z => z ≤ 10) h.it (fun e _ => h6 e.symm), fun i hi => ⟨key _ _ (fun z => z < 10) (h.as hi) (fun e _ => h7 e.symm), key _ _ (fun z => z < 10) (h.bs hi) (fun e _ => h8 e.symm)⟩, fun i => key _ _ (fun z => z < 2 ^ 30) (h.na i) (fun e _ => h9 e.symm)⟩,
    ⟨key _ _ (fun z => z ≤ 10) h.bl (fun e _ => h10 e.symm), key _ _ (fun z => z ≤ 10) h.rs (fun e _ => h11 e.symm)⟩,
    ⟨key _ _ (fun z => z ≤ nw) h.lt (fun e _ => h12 e.symm), fun i => key _ _ (fun z => z < 2 ^ 30) (h.en i) (fun e _ => h13 e.symm)⟩,
    ⟨fun q => key _ _ (fun z => z < 7) (h.kd q) (fun e _ => h14 e.symm), fun q => key _ _ (fun z => z < 10) (h.rc q) (fun e _ => h15 e.symm), fun q => key _ _ (fun z => z < 10) (h.im q) (fun e _ => h18 e.symm)⟩, fun q => key _ _ (fun z => z ≤ 17) (h.pp q) (fun e _ => h16 e.symm), key _ _ (fun z => z ≤ 40) h.ln (fun e _ => h17 e.symm)⟩
theorem wf_100 {o v : Nat} (h : Wf nw σ) (hv : kdC v = 2) : Wf nw (sN σ 100 o v) := wf_up h (fun _ _ => hv) (fun e => absurd e (by decide)) (fun e => absurd e (by decide)) (fun e => absurd e (by decide)) (fun e => absurd e (by decide)) (fun e => absurd e (by decide)) (fun e => absurd e (by decide)) (fun e => absurd e (by decide)) (fun e => absurd e (by decide)) (fun e => absurd e (by decide)) (fun e => absurd e (by decide)) (fun e => absurd e (by decide)) (fun e => absurd e (by decide)) (fun e => absurd e (by decide)) (fun e => absurd e (by decide)) (fun e => absurd e (by decide)) (fun e => absurd e (by decide)) (fun e => absurd e (by decide))
theorem wf_20 {o v : Nat} (h : Wf nw σ) (hv : kdC v = 2) : Wf nw (sN σ 20 o v) := wf_up h (fun e => absurd e (by decide)) (fun _ => hv) (fun e => absurd e (by decide)) (fun e => absurd e (by decide)) (fun e => absurd e (by decide)) (fun e => absurd e (by decide)) (fun e => absurd e (by decide)) (fun e => absurd e (by decide)) (fun e => absurd e (by decide)) (fun e => absurd e (by decide)) (fun e => absurd e (by decide)) (fun e => absurd e (by decide)) (fun e => absurd e (by decide)) (fun e => absurd e (by decide)) (fun e => absurd e (by decide)) (fun e => absurd e (by decide)) (fun e => absurd e (by decide)) (fun e => absurd e (by decide))
theorem wf_21 {o v : Nat} (h : Wf nw σ) (hv : v ≤ 24) : Wf nw (sN σ 21 o v) := wf_up h (fun e => absurd e (by decide)) (fun e => absurd e (by decide)) (fun _ => hv) (fun e => absurd e (by decide)) (fun e => absurd e (by decide)) (fun e => absurd e (by decide)) (fun e => absurd e (by decide)) (fun e => absurd e (by decide)) (fun e => absurd e (by decide)) (fun e => absurd e (by decide)) (fun e => absurd e (by decide)) (fun e => absurd e (by decide)) (fun e => absurd e (by decide)) (fun e => absurd e (by decide)) (fun e => absurd e (by decide)) (fun e => absurd e (by decide)) (fun e => absurd e (by decide)) (fun e => absurd e (by decide))
theorem wf_111 {o v : Nat} (h : Wf nw σ) (hv : 81 ≤ v ∧ v ≤ 90) : Wf nw (sN σ 111 o v) := wf_up h (fun e => absurd e (by decide)) (fun e => absurd e (by decide)) (fun e => absurd e (by decide)) (fun _ => hv) (fun e => absurd e (by decide)) (fun e => absurd e (by decide)) (fun e => absurd e (by decide)) (fun e => absurd e (by decide)) (fun e => absurd e (by decide)) (fun e => absurd e (by decide)) (fun e => absurd e (by decide)) (fun e => absurd e (by decide)) (fun e => absurd e (by decide)) (fun e => absurd e (by decide)) (fun e => absurd e (by decide)) (fun e => absurd e (by decide)) (fun e => absurd e (by decide)) (fun e => absurd e (by decide))
theorem wf_39 {o v : Nat} (h : Wf nw σ) (hv : v ≤ 10) : Wf nw (sN σ 39 o v) := wf_up h (fun e => absurd e (by decide)) (fun e => absurd e (by decide)) (fun e => absurd e (by decide)) (fun e => absurd e (by decide)) (fun _ => hv) (fun e => absurd e (by decide)) (fun e => absurd e (by decide)) (fun e => absurd e (by decide)) (fun e => absurd e (by decide)) (fun e => absurd e (by decide)) (fun e => absurd e (by decide)) (fun e => absurd e (by decide)) (fun e => absurd e (by decide)) (fun e => absurd e (by decide)) (fun e => absurd e (by decide)) (fun e => absurd e (by decide)) (fun e => absurd e (by decide)) (fun e => absurd e (by decide))
theorem wf_31 {o v : Nat} (h : Wf nw σ) (hv : v ≤ 10) : Wf nw (sN σ 31 o v) := wf_up h (fun e => absurd e (by decide)) (fun e => absurd e (by decide)) (fun e => absurd e (by decide)) (fun e => absurd e (by decide)) (fun e => absurd e (by decide)) (fun _ => hv) (fun e => absurd e (by decide)) (fun e => absurd e (by decide)) (fun e => absurd e (by decide)) (fun e => absurd e (by decide)) (fun e => absurd e (by decide)) (fun e => absurd e (by decide)) (fun e => absurd e (by decide)) (fun e => absurd e (by decide)) (fun e => absurd e (by decide)) (fun e => absurd e (by decide)) (fun e => absurd e (by decide)) (fun e => absurd e (by decide))
theorem wf_104 {o v : Nat} (h : Wf nw σ) (hv : v < 10) : Wf nw (sN σ 104 o v) := wf_up h (fun e => absurd e (by decide)) (fun e => absurd e (by decide)) (fun e => absurd e (by decide)) (fun e => absurd e (by decide)) (fun e => absurd e (by decide)) (fun e => absurd e (by decide)) (fun _ => hv) (fun e => absurd e (by decide)) (fun e => absurd e (by decide)) (fun e => absurd e (by decide)) (fun e => absurd e (by decide)) (fun e => absurd e (by decide)) (fun e => absurd e (by decide)) (fun e => absurd e (by decide)) (fun e => absurd e (by decide)) (fun e => absurd e (by decide)) (fun e => absurd e (by decide)) (fun e => absurd e (by decide))
theorem wf_105 {o v : Nat} (h : Wf nw σ) (hv : v < 10) : Wf nw (sN σ 105 o v) := wf_up h (fun e => absurd e (by decide)) (fun e => absurd e (by decide)) (fun e => absurd e (by decide)) (fun e => absurd e (by decide)) (fun e => absurd e (by decide)) (fun e => absurd e (by decide)) (fun e => absurd e (by decide)) (fun _ => hv) (fun e => absurd e (by decide)) (fun e => absurd e (by decide)) (fun e => absurd e (by decide)) (fun e => absurd e (by decide)) (fun e => absurd e (by decide)) (fun e => absurd e (by decide)) (fun e => absurd e (by decide)) (fun e => absurd e (by decide)) (fun e => absurd e (by decide)) (fun e => absurd e (by decide))
theorem wf_106 {o v : Nat} (h : Wf nw σ) (hv : v < 2 ^ 30) : Wf nw (sN σ 106 o v) := wf_up h (fun e => absurd e (by decide)) (fun e => absurd e (by decide)) (fun e => absurd e (by decide)) (fun e => absurd e (by decide)) (fun e => absurd e (by decide)) (fun e => absurd e (by decide)) (fun e => absurd e (by decide)) (fun e => absurd e (by decide)) (fun _ => hv) (fun e => absurd e (by decide)) (fun e => absurd e (by decide)) (fun e => absurd e (by decide)) (fun e => absurd e (by decide)) (fun e => absurd e (by decide)) (fun e => absurd e (by decide)) (fun e => absurd e (by decide)) (fun e => absurd e (by decide)) (fun e => absurd e (by decide))
theorem wf_36 {o v : Nat} (h : Wf nw σ) (hv : v ≤ 10) : Wf nw (sN σ 36 o v) := wf_up h (fun e => absurd e (by decide)) (fun e => absurd e (by decide)) (fun e => absurd e (by decide)) (fun e => absurd e (by decide)) (fun e => absurd e (by decide)) (fun e => absurd e (by decide)) (fun e => absurd e (by decide)) (fun e => absurd e (by decide)) (fun e => absurd e (by decide)) (fun _ => hv) (fun e => absurd e (by decide)) (fun e => absurd e (by decide)) (fun e => absurd e (by decide)) (fun e => absurd e (by decide)) (fun e => absurd e (by decide)) (fun e => absurd e (by decide)) (fun e => absurd e (by decide)) (fun e => absurd e (by decide))
theorem wf_37 {o v : Nat} (h : Wf nw σ) (hv : v ≤ 10) : Wf nw (sN σ 37 o v) := wf_up h (fun e => absurd e (by decide)) (fun e => absurd e (by decide)) (fun e => absurd e (by decide)) (fun e => absurd e (by decide)) (fun e => absurd e (by decide)) (fun e => absurd e (by decide)) (fun e => absurd e (by decide)) (fun e => absurd e (by decide)) (fun e => absurd e (by decide)) (fun e => absurd e (by decide)) (fun _ => hv) (fun e => absurd e (by decide)) (fun e => absurd e (by decide)) (fun e => absurd e (by decide)) (fun e => absurd e (by decide)) (fun e => absurd e (by decide)) (fun e => absurd e (by decide)) (fun e => absurd e (by decide))
theorem wf_54 {o v : Nat} (h : Wf nw σ) (hv : v ≤ nw) : Wf nw (sN σ 54 o v) := wf_up h (fun e => absurd e (by decide)) (fun e => absurd e (by decide)) (fun e => absurd e (by decide)) (fun e => absurd e (by decide)) (fun e => absurd e (by decide)) (fun e => absurd e (by decide)) (fun e => absurd e (by decide)) (fun e => absurd e (by decide)) (fun e => absurd e (by decide)) (fun e => absurd e (by decide)) (fun e => absurd e (by decide)) (fun _ => hv) (fun e => absurd e (by decide)) (fun e => absurd e (by decide)) (fun e => absurd e (by decide)) (fun e => absurd e (by decide)) (fun e => absurd e (by decide)) (fun e => absurd e (by decide))
theorem wf_114 {o v : Nat} (h : Wf nw σ) (hv : v < 2 ^ 30) : Wf nw (sN σ 114 o v) := wf_up h (fun e => absurd e (by decide)) (fun e => absurd e (by decide)) (fun e => absurd e (by decide)) (fun e => absurd e (by decide)) (fun e => absurd e (by decide)) (fun e => absurd e (by decide)) (fun e => absurd e (by decide)) (fun e => absurd e (by decide)) (fun e => absurd e (by decide)) (fun e => absurd e (by decide)) (fun e => absurd e (by decide)) (fun e => absurd e (by decide)) (fun _ => hv) (fun e => absurd e (by decide)) (fun e => absurd e (by decide)) (fun e => absurd e (by decide)) (fun e => absurd e (by decide)) (fun e => absurd e (by decide))
theorem wf_10 {o v : Nat} (h : Wf nw σ) (hv : v < 7) : Wf nw (sN σ 10 o v) := wf_up h (fun e => absurd e (by decide)) (fun e => absurd e (by decide)) (fun e => absurd e (by decide)) (fun e => absurd e (by decide)) (fun e => absurd e (by decide)) (fun e => absurd e (by decide)) (fun e => absurd e (by decide)) (fun e => absurd e (by decide)) (fun e => absurd e (by decide)) (fun e => absurd e (by decide)) (fun e => absurd e (by decide)) (fun e => absurd e (by decide)) (fun e => absurd e (by decide)) (fun _ => hv) (fun e => absurd e (by decide)) (fun e => absurd e (by decide)) (fun e => absurd e (by decide)) (fun e => absurd e (by decide))
theorem wf_11 {o v : Nat} (h : Wf nw σ) (hv : v < 10) : Wf nw (sN σ 11 o v) := wf_up h (fun e => absurd e (by decide)) (fun e => absurd e (by decide)) (fun e => absurd e (by decide)) (fun e => absurd e (by decide)) (fun e => absurd e (by decide)) (fun e => absurd e (by decide)) (fun e => absurd e (by decide)) (fun e => absurd e (by decide)) (fun e => absurd e (by decide)) (fun e => absurd e (by decide)) (fun e => absurd e (by decide)) (fun e => absurd e (by decide)) (fun e => absurd e (by decide)) (fun e => absurd e (by decide)) (fun _ => hv) (fun e => absurd e (by decide)) (fun e => absurd e (by decide)) (fun e => absurd e (by decide))
theorem wf_12 {o v : Nat} (h : Wf nw σ) (hv : v < 10) : Wf nw (sN σ 12 o v) := wf_up h (fun e => absurd e (by decide)) (fun e => absurd e (by decide)) (fun e => absurd e (by decide)) (fun e => absurd e (by decide)) (fun e => absurd e (by decide)) (fun e => absurd e (by decide)) (fun e => absurd e (by decide)) (fun e => absurd e (by decide)) (fun e => absurd e (by decide)) (fun e => absurd e (by decide)) (fun e => absurd e (by decide)) (fun e => absurd e (by decide)) (fun e => absurd e (by decide)) (fun e => absurd e (by decide)) (fun e => absurd e (by decide)) (fun _ => hv) (fun e => absurd e (by decide)) (fun e => absurd e (by decide))
theorem wf_61 {o v : Nat} (h : Wf nw σ) (hv : v ≤ 17) : Wf nw (sN σ 61 o v) := wf_up h (fun e => absurd e (by decide)) (fun e => absurd e (by decide)) (fun e => absurd e (by decide)) (fun e => absurd e (by decide)) (fun e => absurd e (by decide)) (fun e => absurd e (by decide)) (fun e => absurd e (by decide)) (fun e => absurd e (by decide)) (fun e => absurd e (by decide)) (fun e => absurd e (by decide)) (fun e => absurd e (by decide)) (fun e => absurd e (by decide)) (fun e => absurd e (by decide)) (fun e => absurd e (by decide)) (fun e => absurd e (by decide)) (fun e => absurd e (by decide)) (fun _ => hv) (fun e => absurd e (by decide))
theorem wf_44 {o v : Nat} (h : Wf nw σ) (hv : v ≤ 40) : Wf nw (sN σ 44 o v) := wf_up h (fun e => absurd e (by decide)) (fun e => absurd e (by decide)) (fun e => absurd e (by decide)) (fun e => absurd e (by decide)) (fun e => absurd e (by decide)) (fun e => absurd e (by decide)) (fun e => absurd e (by decide)) (fun e => absurd e (by decide)) (fun e => absurd e (by decide)) (fun e => absurd e (by decide)) (fun e => absurd e (by decide)) (fun e => absurd e (by decide)) (fun e => absurd e (by decide)) (fun e => absurd e (by decide)) (fun e => absurd e (by decide)) (fun e => absurd e (by decide)) (fun e => absurd e (by decide)) (fun _ => hv)
theorem wf_fSh {k i : Nat} (h : Wf nw σ) (hi : i ≤ 24) : Wf nw (fSh σ k i) := by
  refine ⟨⟨fun j hj => ?_, h.T, h.n⟩, h.2⟩
  show kdC (if 100 = 100 ∧ k ≤ j ∧ j + 1 < i then gN σ 100 (j + 1) else gN σ 100 j) = 2
  by_cases c : 100 = 100 ∧ k ≤ j ∧ j + 1 < i
  · rw [if_pos c]; exact h.R _ (by omega)
  · rw [if_neg c]; exact h.R j hj
theorem wf_qSh {k i : Nat} (h : Wf nw σ) (hi : i ≤ 10) : Wf nw (qSh σ k i) := by
  refine ⟨h.1, ⟨fun j hj => ?_, h.q⟩, h.2.2⟩
  show 81 ≤ (if 111 = 111 ∧ k ≤ j ∧ j + 1 < i then gN σ 111 (j + 1) else gN σ 111 j) ∧ (if 111 = 111 ∧ k ≤ j ∧ j + 1 < i then gN σ 111 (j + 1) else gN σ 111 j) ≤ 90
  by_cases c : 111 = 111 ∧ k ≤ j ∧ j + 1 < i
  · rw [if_pos c]; exact h.2.1.1 _ (by omega)
  · rw [if_neg c]; exact h.2.1.1 j hj
theorem wf_take {k : Nat} (h : Wf nw σ) (hk : k < gN σ 21 1) : Wf nw (fTake σ k) := by
  have := h.n
  exact wf_20 (wf_100 (wf_21 (wf_fSh h h.n) (by omega)) h.T) (h.R k (by omega))
theorem wf_send {k r : Nat} (h : Wf nw σ) (hk : k < 7) (hr : r < 10) : Wf nw (fSend σ k r) := by
  unfold fSend
  by_cases c : gN σ 21 1 < 24
  · rw [if_pos c]
    exact wf_11 (wf_10 (wf_21 (wf_N (by decide) h) (by omega)) hk) hr
  · rw [if_neg c]
    exact wf_11 (wf_10 (wf_N (by decide) h) hk) hr
theorem kd_to (h : Wf nw σ) : kdC (sendTo σ) = 2 := by
  unfold sendTo
  by_cases c : gN σ 21 1 < 24
  · rw [if_pos c]; exact h.R _ c
  · rw [if_neg c]; rfl
theorem wf_qRem {k : Nat} (h : Wf nw σ) (hk : k < gN σ 39 79) : Wf nw (qRem σ k) := by
  have := h.q
  exact wf_111 (wf_39 (wf_qSh h h.q) (by omega)) (h.2.1.1 k (by omega))
theorem wf_qApp {q : Nat} (h : Wf nw σ) : Wf nw (qApp σ q) := by
  unfold qApp
  by_cases c : gN σ 39 79 < 10
  · rw [if_pos c]; exact wf_39 (wf_kc h) (by omega)
  · rw [if_neg c]; exact h
theorem wf_dWrite {d c : Int32} (h : Wf nw σ) : Wf nw (dWrite σ d c) := by
  unfold dWrite
  by_cases c : gN σ 36 64 < 10
  · rw [if_pos c]; exact wf_36 (wf_I (wf_I h)) (by omega)
  · rw [if_neg c]; exact h
theorem wf_dRem {a : Nat} (h : Wf nw σ) : Wf nw (dRem σ a) := by
  have := h.bl
  exact wf_I (wf_I (wf_36 h (by omega)))
theorem wf_dWrRes {q : Nat} {d : Int32} (h : Wf nw σ) : Wf nw (dWrRes σ q d) := by
  unfold dWrRes
  by_cases c : gN σ 37 64 < 10
  · rw [if_pos c]; exact wf_37 (wf_I (wf_kc h)) (by omega)
  · rw [if_neg c]; exact h
theorem wf_learn {i : Nat} {c : Int32} (h : Wf nw σ) : Wf nw (cLearn σ i c) := h
theorem wf_key {i o : Nat} (h : Wf nw σ) : Wf nw (cKey σ i o) := h
theorem wf_file {c : Int32} (h : Wf nw σ) : Wf nw (cFile σ c) := by
  unfold cFile
  by_cases c : gN σ 31 55 < 10
  · rw [if_pos c]; exact wf_31 (wf_learn h) (by omega)
  · rw [if_neg c]; exact h
theorem wf_ask {i t : Nat} (h : Wf nw σ) (hi : i < 10) (ht : t < 2 ^ 29) : Wf nw (cAsk σ i t) := wf_106 (wf_key (wf_12 (wf_send h (by decide) (by decide)) hi)) (by omega)
theorem wf_put {c : Int32} (h : Wf nw σ) : Wf nw (cPut σ c) := wf_I (wf_I (wf_send h (by decide) (by decide)))
theorem wf_fill {q ko : Nat} {d c : Int32} (h : Wf nw σ) : Wf nw (mFill σ q ko d c) := h
theorem wf_give {w q t : Nat} (h : Wf nw σ) (hw : w ≤ nw) (ht : t < 2 ^ 30) : Wf nw (lGive σ w q t) := wf_54 (wf_114 (wf_kc (wf_B h)) ht) hw
theorem wf_end {w : Int32} (h : Wf nw σ) : Wf nw (lEnd σ nw w) := by
  unfold lEnd
  by_cases c : lHas σ nw w = true
  · rw [if_pos c]; exact h
  · rw [if_neg c]; exact h
theorem wf_forget (h : Wf nw σ) : Wf nw (lForget σ nw) := wf_54 (show Wf nw (lFg σ nw) from h) (Nat.zero_le _)
theorem wf_down (h : Wf nw σ) : Wf nw (sDown σ nw) := wf_forget (wf_39 (wf_B h) (Nat.zero_le _))
theorem wf_cut (h : Wf nw σ) : Wf nw (sCut σ nw) := wf_down (wf_N (by decide) h)
theorem wf_ans {q : Nat} {d c : Int32} (h : Wf nw σ) : Wf nw (sAns σ q d c) := wf_fill (wf_send h (by decide) (by decide))
end WF
