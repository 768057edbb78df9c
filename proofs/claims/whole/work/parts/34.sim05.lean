/-! what of the reference's state is seen -/
def uI (μ : Sg) : Nat × (Nat → Bool) × (Nat → Int32) × (Nat → Int64) × (Nat → Nat) × (Nat → Nat) × (Nat → Bool) × (Nat → Nat) × Nat × (Nat → Bool) := (gN μ 5 0, gB μ 105, gI μ 106, gJ μ 102, gN μ 103, gN μ 104, gB μ 107, gN μ 108, gN μ 2 0, gB μ 101)
def uF (μ : Sg) : (Nat → Nat) × Nat × (Nat → Nat) × (Nat → Nat) × (Nat → Nat) × (Nat → Nat) × (Nat → Int32) × (Nat → Int32) × (Nat → Int32) := (gN μ 122, gN μ 33 0, gN μ 123, gN μ 124, gN μ 125, gN μ 126, gI μ 127, gI μ 128, gI μ 129)
def uD (μ : Sg) : Nat × (Nat → Int32) := (gN μ 24 0, gI μ 117)
def uR (μ : Sg) : (Nat → Bool) × (Nat → Int32) := (gB μ 112, gI μ 113)
def uQ (μ : Sg) : (Nat → Nat) × Nat := (gN μ 114, gN μ 23 0)
def uL (μ : Sg) : (Nat → Nat) × (Nat → Nat) × Nat := (gN μ 115, gN μ 116, gN μ 3 0)
def uW (μ : Sg) : (Nat → Bool) × (Nat → Nat) × (Nat → Int32) × (Nat → Int32) × (Nat → Nat) := (fun j => gB μ 100 (j + 1), fun j => gN μ 118 (j + 1), fun j => gI μ 119 (j + 1), fun j => gI μ 120 (j + 1), fun j => gN μ 121 (j + 1))
def uC (μ : Sg) : Nat × Bool × Nat × Nat × Nat × Nat × Nat × Nat × Nat := (gN μ 1 0, gB μ 100 0, gN μ 43 0, gN μ 44 0, gN μ 45 0, gN μ 46 0, gN μ 47 0, gN μ 48 0, gN μ 0 0)
def uS (μ : Sg) : Nat := gN μ 34 0
def uK (μ : Sg) : Nat × (Nat → K3) := (gN μ 14 0, mK3 μ)
def smm (c : Nat) (σ τ : Sg) : Prop := match c with
  | 0 => uI τ = uI σ
  | 1 => uF τ = uF σ
  | 2 => uD τ = uD σ
  | 3 => uR τ = uR σ
  | 4 => uQ τ = uQ σ
  | 5 => uL τ = uL σ
  | 6 => uW τ = uW σ
  | 7 => uC τ = uC σ
  | 8 => uS τ = uS σ
  | 9 => uK τ = uK σ
  | _ => True
def Em (L : List Nat) (σ τ : Sg) : Prop := ∀ c, c ∉ L → smm c σ τ
theorem smm_rf : ∀ (c : Nat) (σ : Sg), smm c σ σ
  | 0, _ => rfl
  | 1, _ => rfl
  | 2, _ => rfl
  | 3, _ => rfl
  | 4, _ => rfl
  | 5, _ => rfl
  | 6, _ => rfl
  | 7, _ => rfl
  | 8, _ => rfl
  | 9, _ => rfl
  | _ + 10, _ => trivial
theorem smm_tr : ∀ {c : Nat} {σ τ ρ : Sg}, smm c σ τ → smm c τ ρ → smm c σ ρ
  | 0, _, _, _, h, h' => Eq.trans h' h
  | 1, _, _, _, h, h' => Eq.trans h' h
  | 2, _, _, _, h, h' => Eq.trans h' h
  | 3, _, _, _, h, h' => Eq.trans h' h
  | 4, _, _, _, h, h' => Eq.trans h' h
  | 5, _, _, _, h, h' => Eq.trans h' h
  | 6, _, _, _, h, h' => Eq.trans h' h
  | 7, _, _, _, h, h' => Eq.trans h' h
  | 8, _, _, _, h, h' => Eq.trans h' h
  | 9, _, _, _, h, h' => Eq.trans h' h
  | _ + 10, _, _, _, _, _ => trivial
theorem Em.mono {L L' : List Nat} {σ τ : Sg} (h : Em L σ τ) (hs : ∀ c ∈ L, c ∈ L') : Em L' σ τ := fun c hc => h c (fun z => hc (hs c z))
theorem Em.seq {L L₁ L₂ : List Nat} {σ τ ρ : Sg} (h : Em L₁ σ τ) (h' : Em L₂ τ ρ) (hs : ∀ c ∈ L₁ ++ L₂, c ∈ L) : Em L σ ρ := fun c hc => smm_tr (h c (fun z => hc (hs c (List.mem_append_left _ z)))) (h' c (fun z => hc (hs c (List.mem_append_right _ z))))
theorem Em.rf (L : List Nat) (σ : Sg) : Em L σ σ := fun c _ => smm_rf c σ
theorem em_all {L : List Nat} {σ τ : Sg} (h0 : 0 ∉ L → uI τ = uI σ) (h1 : 1 ∉ L → uF τ = uF σ) (h2 : 2 ∉ L → uD τ = uD σ) (h3 : 3 ∉ L → uR τ = uR σ) (h4 : 4 ∉ L → uQ τ = uQ σ) (h5 : 5 ∉ L → uL τ = uL σ) (h6 : 6 ∉ L → uW τ = uW σ) (h7 : 7 ∉ L → uC τ = uC σ) (h8 : 8 ∉ L → uS τ = uS σ) (h9 : 9 ∉ L → uK τ = uK σ) : Em L σ τ
  | 0, hc => h0 hc
  | 1, hc => h1 hc
  | 2, hc => h2 hc
  | 3, hc => h3 hc
  | 4, hc => h4 hc
  | 5, hc => h5 hc
  | 6, hc => h6 hc
  | 7, hc => h7 hc
  | 8, hc => h8 hc
  | 9, hc => h9 hc
  | _ + 10, _ => trivial
theorem emN_5 (σ : Sg) (o v : Nat) : Em [0] σ (sN σ 5 o v) := em_all (fun h => absurd (by decide) h) (fun _ => rfl) (fun _ => rfl) (fun _ => rfl) (fun _ => rfl) (fun _ => rfl) (fun _ => rfl) (fun _ => rfl) (fun _ => rfl) (fun _ => rfl)
theorem emN_103 (σ : Sg) (o v : Nat) : Em [0] σ (sN σ 103 o v) := em_all (fun h => absurd (by decide) h) (fun _ => rfl) (fun _ => rfl) (fun _ => rfl) (fun _ => rfl) (fun _ => rfl) (fun _ => rfl) (fun _ => rfl) (fun _ => rfl) (fun _ => rfl)
theorem emN_104 (σ : Sg) (o v : Nat) : Em [0] σ (sN σ 104 o v) := em_all (fun h => absurd (by decide) h) (fun _ => rfl) (fun _ => rfl) (fun _ => rfl) (fun _ => rfl) (fun _ => rfl) (fun _ => rfl) (fun _ => rfl) (fun _ => rfl) (fun _ => rfl)
theorem emN_108 (σ : Sg) (o v : Nat) : Em [0] σ (sN σ 108 o v) := em_all (fun h => absurd (by decide) h) (fun _ => rfl) (fun _ => rfl) (fun _ => rfl) (fun _ => rfl) (fun _ => rfl) (fun _ => rfl) (fun _ => rfl) (fun _ => rfl) (fun _ => rfl)
theorem emN_2 (σ : Sg) (o v : Nat) : Em [0] σ (sN σ 2 o v) := em_all (fun h => absurd (by decide) h) (fun _ => rfl) (fun _ => rfl) (fun _ => rfl) (fun _ => rfl) (fun _ => rfl) (fun _ => rfl) (fun _ => rfl) (fun _ => rfl) (fun _ => rfl)
theorem emN_122 (σ : Sg) (o v : Nat) : Em [1] σ (sN σ 122 o v) := em_all (fun _ => rfl) (fun h => absurd (by decide) h) (fun _ => rfl) (fun _ => rfl) (fun _ => rfl) (fun _ => rfl) (fun _ => rfl) (fun _ => rfl) (fun _ => rfl) (fun _ => rfl)
theorem emN_33 (σ : Sg) (o v : Nat) : Em [1] σ (sN σ 33 o v) := em_all (fun _ => rfl) (fun h => absurd (by decide) h) (fun _ => rfl) (fun _ => rfl) (fun _ => rfl) (fun _ => rfl) (fun _ => rfl) (fun _ => rfl) (fun _ => rfl) (fun _ => rfl)
theorem emN_123 (σ : Sg) (o v : Nat) : Em [1] σ (sN σ 123 o v) := em_all (fun _ => rfl) (fun h => absurd (by decide) h) (fun _ => rfl) (fun _ => rfl) (fun _ => rfl) (fun _ => rfl) (fun _ => rfl) (fun _ => rfl) (fun _ => rfl) (fun _ => rfl)
theorem emN_124 (σ : Sg) (o v : Nat) : Em [1] σ (sN σ 124 o v) := em_all (fun _ => rfl) (fun h => absurd (by decide) h) (fun _ => rfl) (fun _ => rfl) (fun _ => rfl) (fun _ => rfl) (fun _ => rfl) (fun _ => rfl) (fun _ => rfl) (fun _ => rfl)
theorem emN_125 (σ : Sg) (o v : Nat) : Em [1] σ (sN σ 125 o v) := em_all (fun _ => rfl) (fun h => absurd (by decide) h) (fun _ => rfl) (fun _ => rfl) (fun _ => rfl) (fun _ => rfl) (fun _ => rfl) (fun _ => rfl) (fun _ => rfl) (fun _ => rfl)
theorem emN_126 (σ : Sg) (o v : Nat) : Em [1] σ (sN σ 126 o v) := em_all (fun _ => rfl) (fun h => absurd (by decide) h) (fun _ => rfl) (fun _ => rfl) (fun _ => rfl) (fun _ => rfl) (fun _ => rfl) (fun _ => rfl) (fun _ => rfl) (fun _ => rfl)
theorem emN_24 (σ : Sg) (o v : Nat) : Em [2] σ (sN σ 24 o v) := em_all (fun _ => rfl) (fun _ => rfl) (fun h => absurd (by decide) h) (fun _ => rfl) (fun _ => rfl) (fun _ => rfl) (fun _ => rfl) (fun _ => rfl) (fun _ => rfl) (fun _ => rfl)
theorem emN_114 (σ : Sg) (o v : Nat) : Em [4] σ (sN σ 114 o v) := em_all (fun _ => rfl) (fun _ => rfl) (fun _ => rfl) (fun _ => rfl) (fun h => absurd (by decide) h) (fun _ => rfl) (fun _ => rfl) (fun _ => rfl) (fun _ => rfl) (fun _ => rfl)
theorem emN_23 (σ : Sg) (o v : Nat) : Em [4] σ (sN σ 23 o v) := em_all (fun _ => rfl) (fun _ => rfl) (fun _ => rfl) (fun _ => rfl) (fun h => absurd (by decide) h) (fun _ => rfl) (fun _ => rfl) (fun _ => rfl) (fun _ => rfl) (fun _ => rfl)
theorem emN_115 (σ : Sg) (o v : Nat) : Em [5] σ (sN σ 115 o v) := em_all (fun _ => rfl) (fun _ => rfl) (fun _ => rfl) (fun _ => rfl) (fun _ => rfl) (fun h => absurd (by decide) h) (fun _ => rfl) (fun _ => rfl) (fun _ => rfl) (fun _ => rfl)
theorem emN_116 (σ : Sg) (o v : Nat) : Em [5] σ (sN σ 116 o v) := em_all (fun _ => rfl) (fun _ => rfl) (fun _ => rfl) (fun _ => rfl) (fun _ => rfl) (fun h => absurd (by decide) h) (fun _ => rfl) (fun _ => rfl) (fun _ => rfl) (fun _ => rfl)
theorem emN_3 (σ : Sg) (o v : Nat) : Em [5] σ (sN σ 3 o v) := em_all (fun _ => rfl) (fun _ => rfl) (fun _ => rfl) (fun _ => rfl) (fun _ => rfl) (fun h => absurd (by decide) h) (fun _ => rfl) (fun _ => rfl) (fun _ => rfl) (fun _ => rfl)
theorem emN_118 (σ : Sg) (o v : Nat) : Em [6] σ (sN σ 118 o v) := em_all (fun _ => rfl) (fun _ => rfl) (fun _ => rfl) (fun _ => rfl) (fun _ => rfl) (fun _ => rfl) (fun h => absurd (by decide) h) (fun _ => rfl) (fun _ => rfl) (fun _ => rfl)
theorem emN_121 (σ : Sg) (o v : Nat) : Em [6] σ (sN σ 121 o v) := em_all (fun _ => rfl) (fun _ => rfl) (fun _ => rfl) (fun _ => rfl) (fun _ => rfl) (fun _ => rfl) (fun h => absurd (by decide) h) (fun _ => rfl) (fun _ => rfl) (fun _ => rfl)
theorem emN_1 (σ : Sg) (o v : Nat) : Em [7] σ (sN σ 1 o v) := em_all (fun _ => rfl) (fun _ => rfl) (fun _ => rfl) (fun _ => rfl) (fun _ => rfl) (fun _ => rfl) (fun _ => rfl) (fun h => absurd (by decide) h) (fun _ => rfl) (fun _ => rfl)
theorem emN_43 (σ : Sg) (o v : Nat) : Em [7] σ (sN σ 43 o v) := em_all (fun _ => rfl) (fun _ => rfl) (fun _ => rfl) (fun _ => rfl) (fun _ => rfl) (fun _ => rfl) (fun _ => rfl) (fun h => absurd (by decide) h) (fun _ => rfl) (fun _ => rfl)
theorem emN_44 (σ : Sg) (o v : Nat) : Em [7] σ (sN σ 44 o v) := em_all (fun _ => rfl) (fun _ => rfl) (fun _ => rfl) (fun _ => rfl) (fun _ => rfl) (fun _ => rfl) (fun _ => rfl) (fun h => absurd (by decide) h) (fun _ => rfl) (fun _ => rfl)
theorem emN_45 (σ : Sg) (o v : Nat) : Em [7] σ (sN σ 45 o v) := em_all (fun _ => rfl) (fun _ => rfl) (fun _ => rfl) (fun _ => rfl) (fun _ => rfl) (fun _ => rfl) (fun _ => rfl) (fun h => absurd (by decide) h) (fun _ => rfl) (fun _ => rfl)
theorem emN_46 (σ : Sg) (o v : Nat) : Em [7] σ (sN σ 46 o v) := em_all (fun _ => rfl) (fun _ => rfl) (fun _ => rfl) (fun _ => rfl) (fun _ => rfl) (fun _ => rfl) (fun _ => rfl) (fun h => absurd (by decide) h) (fun _ => rfl) (fun _ => rfl)
theorem emN_47 (σ : Sg) (o v : Nat) : Em [7] σ (sN σ 47 o v) := em_all (fun _ => rfl) (fun _ => rfl) (fun _ => rfl) (fun _ => rfl) (fun _ => rfl) (fun _ => rfl) (fun _ => rfl) (fun h => absurd (by decide) h) (fun _ => rfl) (fun _ => rfl)
theorem emN_48 (σ : Sg) (o v : Nat) : Em [7] σ (sN σ 48 o v) := em_all (fun _ => rfl) (fun _ => rfl) (fun _ => rfl) (fun _ => rfl) (fun _ => rfl) (fun _ => rfl) (fun _ => rfl) (fun h => absurd (by decide) h) (fun _ => rfl) (fun _ => rfl)
theorem emN_0 (σ : Sg) (o v : Nat) : Em [7] σ (sN σ 0 o v) := em_all (fun _ => rfl) (fun _ => rfl) (fun _ => rfl) (fun _ => rfl) (fun _ => rfl) (fun _ => rfl) (fun _ => rfl) (fun h => absurd (by decide) h) (fun _ => rfl) (fun _ => rfl)
theorem emN_34 (σ : Sg) (o v : Nat) : Em [8] σ (sN σ 34 o v) := em_all (fun _ => rfl) (fun _ => rfl) (fun _ => rfl) (fun _ => rfl) (fun _ => rfl) (fun _ => rfl) (fun _ => rfl) (fun _ => rfl) (fun h => absurd (by decide) h) (fun _ => rfl)
theorem emN_14 (σ : Sg) (o v : Nat) : Em [9] σ (sN σ 14 o v) := em_all (fun _ => rfl) (fun _ => rfl) (fun _ => rfl) (fun _ => rfl) (fun _ => rfl) (fun _ => rfl) (fun _ => rfl) (fun _ => rfl) (fun _ => rfl) (fun h => absurd (by decide) h)
theorem emN_49 (σ : Sg) (o v : Nat) : Em [] σ (sN σ 49 o v) := em_all (fun _ => rfl) (fun _ => rfl) (fun _ => rfl) (fun _ => rfl) (fun _ => rfl) (fun _ => rfl) (fun _ => rfl) (fun _ => rfl) (fun _ => rfl) (fun _ => rfl)
theorem emN_32 (σ : Sg) (o v : Nat) : Em [] σ (sN σ 32 o v) := em_all (fun _ => rfl) (fun _ => rfl) (fun _ => rfl) (fun _ => rfl) (fun _ => rfl) (fun _ => rfl) (fun _ => rfl) (fun _ => rfl) (fun _ => rfl) (fun _ => rfl)
theorem emI_106 (σ : Sg) (o : Nat) (v : Int32) : Em [0] σ (sI σ 106 o v) := em_all (fun h => absurd (by decide) h) (fun _ => rfl) (fun _ => rfl) (fun _ => rfl) (fun _ => rfl) (fun _ => rfl) (fun _ => rfl) (fun _ => rfl) (fun _ => rfl) (fun _ => rfl)
theorem emI_127 (σ : Sg) (o : Nat) (v : Int32) : Em [1] σ (sI σ 127 o v) := em_all (fun _ => rfl) (fun h => absurd (by decide) h) (fun _ => rfl) (fun _ => rfl) (fun _ => rfl) (fun _ => rfl) (fun _ => rfl) (fun _ => rfl) (fun _ => rfl) (fun _ => rfl)
theorem emI_128 (σ : Sg) (o : Nat) (v : Int32) : Em [1] σ (sI σ 128 o v) := em_all (fun _ => rfl) (fun h => absurd (by decide) h) (fun _ => rfl) (fun _ => rfl) (fun _ => rfl) (fun _ => rfl) (fun _ => rfl) (fun _ => rfl) (fun _ => rfl) (fun _ => rfl)
theorem emI_129 (σ : Sg) (o : Nat) (v : Int32) : Em [1] σ (sI σ 129 o v) := em_all (fun _ => rfl) (fun h => absurd (by decide) h) (fun _ => rfl) (fun _ => rfl) (fun _ => rfl) (fun _ => rfl) (fun _ => rfl) (fun _ => rfl) (fun _ => rfl) (fun _ => rfl)
theorem emI_117 (σ : Sg) (o : Nat) (v : Int32) : Em [2] σ (sI σ 117 o v) := em_all (fun _ => rfl) (fun _ => rfl) (fun h => absurd (by decide) h) (fun _ => rfl) (fun _ => rfl) (fun _ => rfl) (fun _ => rfl) (fun _ => rfl) (fun _ => rfl) (fun _ => rfl)
theorem emI_113 (σ : Sg) (o : Nat) (v : Int32) : Em [3] σ (sI σ 113 o v) := em_all (fun _ => rfl) (fun _ => rfl) (fun _ => rfl) (fun h => absurd (by decide) h) (fun _ => rfl) (fun _ => rfl) (fun _ => rfl) (fun _ => rfl) (fun _ => rfl) (fun _ => rfl)
theorem emI_119 (σ : Sg) (o : Nat) (v : Int32) : Em [6] σ (sI σ 119 o v) := em_all (fun _ => rfl) (fun _ => rfl) (fun _ => rfl) (fun _ => rfl) (fun _ => rfl) (fun _ => rfl) (fun h => absurd (by decide) h) (fun _ => rfl) (fun _ => rfl) (fun _ => rfl)
theorem emI_120 (σ : Sg) (o : Nat) (v : Int32) : Em [6] σ (sI σ 120 o v) := em_all (fun _ => rfl) (fun _ => rfl) (fun _ => rfl) (fun _ => rfl) (fun _ => rfl) (fun _ => rfl) (fun h => absurd (by decide) h) (fun _ => rfl) (fun _ => rfl) (fun _ => rfl)
theorem emI_110 (σ : Sg) (o : Nat) (v : Int32) : Em [9] σ (sI σ 110 o v) := em_all (fun _ => rfl) (fun _ => rfl) (fun _ => rfl) (fun _ => rfl) (fun _ => rfl) (fun _ => rfl) (fun _ => rfl) (fun _ => rfl) (fun _ => rfl) (fun h => absurd (by decide) h)
theorem emI_111 (σ : Sg) (o : Nat) (v : Int32) : Em [9] σ (sI σ 111 o v) := em_all (fun _ => rfl) (fun _ => rfl) (fun _ => rfl) (fun _ => rfl) (fun _ => rfl) (fun _ => rfl) (fun _ => rfl) (fun _ => rfl) (fun _ => rfl) (fun h => absurd (by decide) h)
theorem emI_30 (σ : Sg) (o : Nat) (v : Int32) : Em [] σ (sI σ 30 o v) := em_all (fun _ => rfl) (fun _ => rfl) (fun _ => rfl) (fun _ => rfl) (fun _ => rfl) (fun _ => rfl) (fun _ => rfl) (fun _ => rfl) (fun _ => rfl) (fun _ => rfl)
theorem emI_31 (σ : Sg) (o : Nat) (v : Int32) : Em [] σ (sI σ 31 o v) := em_all (fun _ => rfl) (fun _ => rfl) (fun _ => rfl) (fun _ => rfl) (fun _ => rfl) (fun _ => rfl) (fun _ => rfl) (fun _ => rfl) (fun _ => rfl) (fun _ => rfl)
theorem emB_105 (σ : Sg) (o : Nat) (v : Bool) : Em [0] σ (sB σ 105 o v) := em_all (fun h => absurd (by decide) h) (fun _ => rfl) (fun _ => rfl) (fun _ => rfl) (fun _ => rfl) (fun _ => rfl) (fun _ => rfl) (fun _ => rfl) (fun _ => rfl) (fun _ => rfl)
theorem emB_107 (σ : Sg) (o : Nat) (v : Bool) : Em [0] σ (sB σ 107 o v) := em_all (fun h => absurd (by decide) h) (fun _ => rfl) (fun _ => rfl) (fun _ => rfl) (fun _ => rfl) (fun _ => rfl) (fun _ => rfl) (fun _ => rfl) (fun _ => rfl) (fun _ => rfl)
theorem emB_101 (σ : Sg) (o : Nat) (v : Bool) : Em [0] σ (sB σ 101 o v) := em_all (fun h => absurd (by decide) h) (fun _ => rfl) (fun _ => rfl) (fun _ => rfl) (fun _ => rfl) (fun _ => rfl) (fun _ => rfl) (fun _ => rfl) (fun _ => rfl) (fun _ => rfl)
theorem emB_112 (σ : Sg) (o : Nat) (v : Bool) : Em [3] σ (sB σ 112 o v) := em_all (fun _ => rfl) (fun _ => rfl) (fun _ => rfl) (fun h => absurd (by decide) h) (fun _ => rfl) (fun _ => rfl) (fun _ => rfl) (fun _ => rfl) (fun _ => rfl) (fun _ => rfl)
theorem emB_100 (σ : Sg) (o : Nat) (v : Bool) : Em [6, 7] σ (sB σ 100 o v) := em_all (fun _ => rfl) (fun _ => rfl) (fun _ => rfl) (fun _ => rfl) (fun _ => rfl) (fun _ => rfl) (fun h => absurd (by decide) h) (fun h => absurd (by decide) h) (fun _ => rfl) (fun _ => rfl)
theorem emB_w (σ : Sg) (o : Nat) (v : Bool) : Em [6] σ (sB σ 100 (o + 1) v) := em_all (fun _ => rfl) (fun _ => rfl) (fun _ => rfl) (fun _ => rfl) (fun _ => rfl) (fun _ => rfl) (fun h => absurd (by decide) h) (fun _ => rfl) (fun _ => rfl) (fun _ => rfl)
theorem emB_0 (σ : Sg) (v : Bool) : Em [7] σ (sB σ 100 0 v) := em_all (fun _ => rfl) (fun _ => rfl) (fun _ => rfl) (fun _ => rfl) (fun _ => rfl) (fun _ => rfl) (fun _ => rfl) (fun h => absurd (by decide) h) (fun _ => rfl) (fun _ => rfl)
theorem emJ_102 (σ : Sg) (o : Nat) (v : Int64) : Em [0] σ (sJ σ 102 o v) := em_all (fun h => absurd (by decide) h) (fun _ => rfl) (fun _ => rfl) (fun _ => rfl) (fun _ => rfl) (fun _ => rfl) (fun _ => rfl) (fun _ => rfl) (fun _ => rfl) (fun _ => rfl)
theorem emJ_109 (σ : Sg) (o : Nat) (v : Int64) : Em [9] σ (sJ σ 109 o v) := em_all (fun _ => rfl) (fun _ => rfl) (fun _ => rfl) (fun _ => rfl) (fun _ => rfl) (fun _ => rfl) (fun _ => rfl) (fun _ => rfl) (fun _ => rfl) (fun h => absurd (by decide) h)
theorem em_fl0 (σ : Sg) (i : Nat) : Em [4, 5] σ (fl0 σ i) := em_all (fun _ => rfl) (fun _ => rfl) (fun _ => rfl) (fun _ => rfl) (fun h => absurd (by decide) h) (fun h => absurd (by decide) h) (fun _ => rfl) (fun _ => rfl) (fun _ => rfl) (fun _ => rfl)
theorem em_set3 (σ : Sg) (a : X3) : Em [] σ (set3 σ a) := em_all (fun _ => rfl) (fun _ => rfl) (fun _ => rfl) (fun _ => rfl) (fun _ => rfl) (fun _ => rfl) (fun _ => rfl) (fun _ => rfl) (fun _ => rfl) (fun _ => rfl)
theorem em_send (σ : Sg) (a b k i : Nat) (c d g : Int32) : Em [1, 8] σ (mSend σ a b k i c d g) := by
  unfold mSend
  cases frS σ with
  | none => exact (emN_34 σ _ _).mono (by decide)
  | some s =>
    exact (emN_34 σ _ _).seq ((emN_33 _ _ _).seq ((emN_122 _ _ _).seq ((emN_123 _ _ _).seq ((emN_124 _ _ _).seq ((emN_125 _ _ _).seq ((emN_126 _ _ _).seq ((emI_127 _ _ _).seq ((emI_128 _ _ _).seq (emI_129 _ _ _) (L := [1]) (by decide)) (L := [1]) (by decide)) (L := [1]) (by decide)) (L := [1]) (by decide)) (L := [1]) (by decide)) (L := [1]) (by decide)) (L := [1]) (by decide)) (L := [1]) (by decide)) (by decide)
theorem em_key (σ : Sg) (i : Nat) : Em [9] σ (mKeyS σ i) := by
  unfold mKeyS
  cases fKey σ i with
  | some k => exact Em.rf _ σ
  | none => exact (emJ_109 σ _ _).seq ((emI_110 _ _ _).seq ((emI_111 _ _ _).seq (emN_14 _ _ _) (L := [9]) (by decide)) (L := [9]) (by decide)) (by decide)
theorem send_S (σ : Sg) (a b k i : Nat) (c d g : Int32) : uS (mSend σ a b k i c d g) = uS σ + 1 := by
  unfold mSend
  cases frS σ with
  | none => rfl
  | some s => rfl
