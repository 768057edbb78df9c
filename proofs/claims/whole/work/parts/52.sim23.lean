/-! learning by passes: one upwards, or as many downwards as there are items -/
section HVS
abbrev HV : Type := (Nat → Bool) × (Nat → Int32)
variable (P : Nat → Int64) (L R : Nat → Nat) (e : Int32 → Int32) (K : K3) (c : Int32) (n : Nat) (s0 : HV)
def sG (s : HV) (i : Nat) : Bool := (s.1 (L i) && s.1 (R i)) && decide ((P i, e (s.2 (L i)), e (s.2 (R i))) = K)
def sSt (s : HV) (i : Nat) : HV := if (!s.1 i && sG P L R e K s i) = true then (up1 s.1 i true, up1 s.2 i c) else s
def sUp (s : HV) : Nat → HV
  | 0 => s
  | i + 1 => sSt P L R e K c (sUp s i) i
def sDn : Nat → HV → HV
  | 0, s => s
  | j + 1, s => sDn j (sSt P L R e K c s j)
def sRo (s : HV) : Nat → HV
  | 0 => s
  | r + 1 => sDn P L R e K c n (sRo s r)
variable {P L R e K c n s0}
theorem st_ne {s : HV} {i j : Nat} (h : j ≠ i) : (sSt P L R e K c s i).1 j = s.1 j ∧ (sSt P L R e K c s i).2 j = s.2 j := by
  unfold sSt
  split
  · exact ⟨up1_n _ _ h, up1_n _ _ h⟩
  · exact ⟨rfl, rfl⟩
theorem sg_of {s s' : HV} {i : Nat} (h1 : s'.1 (L i) = s.1 (L i)) (h2 : s'.1 (R i) = s.1 (R i)) (h3 : s'.2 (L i) = s.2 (L i)) (h4 : s'.2 (R i) = s.2 (R i)) : sG P L R e K s' i = sG P L R e K s i := by
  unfold sG
  rw [h1, h2, h3, h4]
theorem up_ge : ∀ (i : Nat) {j : Nat}, i ≤ j → (sUp P L R e K c s0 i).1 j = s0.1 j ∧ (sUp P L R e K c s0 i).2 j = s0.2 j
  | 0, j, _ => ⟨rfl, rfl⟩
  | i + 1, j, h => by
    have a := up_ge i (j := j) (by omega)
    have b := st_ne (P := P) (L := L) (R := R) (e := e) (K := K) (c := c) (s := sUp P L R e K c s0 i) (i := i) (j := j) (by omega)
    exact ⟨b.1.trans a.1, b.2.trans a.2⟩
theorem up_st {j : Nat} : ∀ (d : Nat), (sUp P L R e K c s0 (j + 1 + d)).1 j = (sUp P L R e K c s0 (j + 1)).1 j ∧ (sUp P L R e K c s0 (j + 1 + d)).2 j = (sUp P L R e K c s0 (j + 1)).2 j
  | 0 => ⟨rfl, rfl⟩
  | d + 1 => by
    have a := up_st (j := j) d
    have b := st_ne (P := P) (L := L) (R := R) (e := e) (K := K) (c := c) (s := sUp P L R e K c s0 (j + 1 + d)) (i := j + 1 + d) (j := j) (by omega)
    exact ⟨b.1.trans a.1, b.2.trans a.2⟩
theorem up_lt {j i m : Nat} (h : j < i) (h' : i ≤ m) : (sUp P L R e K c s0 m).1 j = (sUp P L R e K c s0 i).1 j ∧ (sUp P L R e K c s0 m).2 j = (sUp P L R e K c s0 i).2 j := by
  have a := up_st (P := P) (L := L) (R := R) (e := e) (K := K) (c := c) (s0 := s0) (j := j) (m - (j + 1))
  have b := up_st (P := P) (L := L) (R := R) (e := e) (K := K) (c := c) (s0 := s0) (j := j) (i - (j + 1))
  rw [show j + 1 + (m - (j + 1)) = m by omega] at a
  rw [show j + 1 + (i - (j + 1)) = i by omega] at b
  exact ⟨a.1.trans b.1.symm, a.2.trans b.2.symm⟩
/-- what the pass upwards ends with -/
theorem up_ch (hLR : ∀ i, i < n → s0.1 i = false → L i < i ∧ R i < i) {j : Nat} (hj : j < n) : (s0.1 j = true → (sUp P L R e K c s0 n).1 j = true ∧ (sUp P L R e K c s0 n).2 j = s0.2 j) ∧ (s0.1 j = false → (sG P L R e K (sUp P L R e K c s0 n) j = true → (sUp P L R e K c s0 n).1 j = true ∧ (sUp P L R e K c s0 n).2 j = c) ∧ (sG P L R e K (sUp P L R e K c s0 n) j = false → (sUp P L R e K c s0 n).1 j = false ∧ (sUp P L R e K c s0 n).2 j = s0.2 j)) := by
  have a := up_lt (P := P) (L := L) (R := R) (e := e) (K := K) (c := c) (s0 := s0) (j := j) (i := j + 1) (m := n) (by omega) (by omega)
  have b := up_ge (P := P) (L := L) (R := R) (e := e) (K := K) (c := c) (s0 := s0) j (j := j) (Nat.le_refl _)
  have d : sUp P L R e K c s0 (j + 1) = sSt P L R e K c (sUp P L R e K c s0 j) j := rfl
  rw [a.1, a.2, d]
  refine ⟨fun h => ?_, fun h => ?_⟩
  · have z : sSt P L R e K c (sUp P L R e K c s0 j) j = sUp P L R e K c s0 j := by
      unfold sSt
      rw [b.1, h, Bool.not_true, Bool.false_and, if_neg Bool.false_ne_true]
    rw [z, b.1, b.2]
    exact ⟨h, rfl⟩
  · obtain ⟨l1, l2⟩ := hLR j hj h
    have x1 := up_lt (P := P) (L := L) (R := R) (e := e) (K := K) (c := c) (s0 := s0) (j := L j) (i := j) (m := n) l1 (by omega)
    have x2 := up_lt (P := P) (L := L) (R := R) (e := e) (K := K) (c := c) (s0 := s0) (j := R j) (i := j) (m := n) l2 (by omega)
    have g : sG P L R e K (sUp P L R e K c s0 n) j = sG P L R e K (sUp P L R e K c s0 j) j := sg_of x1.1 x2.1 x1.2 x2.2
    rw [g]
    unfold sSt
    rw [b.1, h, Bool.not_false, Bool.true_and]
    refine ⟨fun z => ?_, fun z => ?_⟩
    · rw [if_pos z]
      exact ⟨up1_s _ _ _, up1_s _ _ _⟩
    · rw [if_neg (by rw [z]; decide)]
      exact ⟨b.1.trans h, b.2⟩
/-- between the start and the end -/
def Btw (F : HV) (s0 s : HV) : Prop := ∀ i, (s.1 i = true → F.1 i = true ∧ s.2 i = F.2 i) ∧ (s0.1 i = true → s.1 i = true) ∧ (s.1 i = false → s.2 i = s0.2 i)
def Agr (F : HV) (m : Nat) (s : HV) : Prop := ∀ i, i < m → s.1 i = F.1 i
theorem btw_0 (hLR : ∀ i, i < n → s0.1 i = false → L i < i ∧ R i < i) : Btw (sUp P L R e K c s0 n) s0 s0 := fun i => by
  refine ⟨fun h => ?_, fun h => h, fun _ => rfl⟩
  by_cases ci : i < n
  · have := (up_ch (P := P) (e := e) (K := K) (c := c) hLR ci).1 h
    exact ⟨this.1, this.2.symm⟩
  · have := up_ge (P := P) (L := L) (R := R) (e := e) (K := K) (c := c) (s0 := s0) n (j := i) (by omega)
    exact ⟨this.1.trans h, this.2.symm⟩
theorem gF {F s : HV} {i : Nat} (hb : Btw F s0 s) (h1 : s.1 (L i) = true) (h2 : s.1 (R i) = true) : sG P L R e K F i = sG P L R e K s i := sg_of (by rw [h1]; exact ((hb (L i)).1 h1).1) (by rw [h2]; exact ((hb (R i)).1 h2).1) ((hb (L i)).1 h1).2.symm ((hb (R i)).1 h2).2.symm
theorem sg_lr {s : HV} {i : Nat} (h : sG P L R e K s i = true) : s.1 (L i) = true ∧ s.1 (R i) = true := by
  unfold sG at h
  rw [Bool.and_eq_true, Bool.and_eq_true] at h
  exact h.1
theorem st_btw (hLR : ∀ i, i < n → s0.1 i = false → L i < i ∧ R i < i) {s : HV} {i : Nat} (hi : i < n) (hb : Btw (sUp P L R e K c s0 n) s0 s) : Btw (sUp P L R e K c s0 n) s0 (sSt P L R e K c s i) := by
  by_cases h : (!s.1 i && sG P L R e K s i) = true
  · have hs : sSt P L R e K c s i = (up1 s.1 i true, up1 s.2 i c) := if_pos h
    rw [hs]
    rw [Bool.and_eq_true] at h
    have hu : s.1 i = false := by simpa using h.1
    have h0 : s0.1 i = false := by
      cases z : s0.1 i with
      | false => rfl
      | true => rw [(hb i).2.1 z] at hu; cases hu
    have lr := sg_lr h.2
    have g := (gF (P := P) (L := L) (R := R) (e := e) (K := K) hb lr.1 lr.2).trans h.2
    have F := ((up_ch (P := P) (e := e) (K := K) (c := c) hLR hi).2 h0).1 g
    intro j
    show (up1 s.1 i true j = true → _ ∧ up1 s.2 i c j = _) ∧ (_ → up1 s.1 i true j = true) ∧ (up1 s.1 i true j = false → up1 s.2 i c j = _)
    by_cases d : j = i
    · rw [d, up1_s, up1_s]
      exact ⟨fun _ => ⟨F.1, F.2.symm⟩, fun _ => rfl, fun z => absurd z (by decide)⟩
    · rw [up1_n _ _ d, up1_n _ _ d]
      exact hb j
  · have hs : sSt P L R e K c s i = s := if_neg h
    rw [hs]
    exact hb
theorem st_agr {F : HV} {m : Nat} {s : HV} {i : Nat} (hb : Btw F s0 (sSt P L R e K c s i)) (ha : Agr F m s) : Agr F m (sSt P L R e K c s i) := fun j hj => by
  by_cases d : j = i
  · subst d
    by_cases h : (!s.1 j && sG P L R e K s j) = true
    · have hs : sSt P L R e K c s j = (up1 s.1 j true, up1 s.2 j c) := if_pos h
      have t : (sSt P L R e K c s j).1 j = true := by rw [hs]; exact up1_s _ _ _
      rw [t]
      exact ((hb j).1 t).1.symm
    · have hs : sSt P L R e K c s j = s := if_neg h
      rw [hs]
      exact ha j hj
  · rw [(st_ne d).1]
    exact ha j hj
theorem st_new (hLR : ∀ i, i < n → s0.1 i = false → L i < i ∧ R i < i) {s : HV} {m : Nat} (hm : m < n) (hb : Btw (sUp P L R e K c s0 n) s0 s) (ha : Agr (sUp P L R e K c s0 n) m s) : Agr (sUp P L R e K c s0 n) (m + 1) (sSt P L R e K c s m) := by
  have hb' := st_btw hLR hm hb
  have ha' := st_agr hb' ha
  intro j hj
  by_cases d : j = m
  · subst d
    cases hF : (sUp P L R e K c s0 n).1 j with
    | false =>
      cases z : (sSt P L R e K c s j).1 j with
      | false => rfl
      | true => rw [((hb' j).1 z).1] at hF; cases hF
    | true =>
      by_cases h : (!s.1 j && sG P L R e K s j) = true
      · have hs : sSt P L R e K c s j = (up1 s.1 j true, up1 s.2 j c) := if_pos h
        rw [hs]; exact up1_s _ _ _
      · have hs : sSt P L R e K c s j = s := if_neg h
        rw [hs]
        cases hu : s.1 j with
        | true => rfl
        | false =>
          exfalso
          have h0 : s0.1 j = false := by
            cases z : s0.1 j with
            | false => rfl
            | true => rw [(hb j).2.1 z] at hu; cases hu
          obtain ⟨l1, l2⟩ := hLR j hm h0
          have ch := (up_ch (P := P) (e := e) (K := K) (c := c) hLR hm).2 h0
          have g : sG P L R e K (sUp P L R e K c s0 n) j = true := by
            cases z : sG P L R e K (sUp P L R e K c s0 n) j with
            | true => rfl
            | false => rw [(ch.2 z).1] at hF; cases hF
          have lr := sg_lr g
          have g' := (gF (P := P) (L := L) (R := R) (e := e) (K := K) hb (by rw [ha _ l1]; exact lr.1) (by rw [ha _ l2]; exact lr.2)).symm.trans g
          exact h (by rw [hu, g']; rfl)
  · exact ha' j (by omega)
theorem dn_ok (hLR : ∀ i, i < n → s0.1 i = false → L i < i ∧ R i < i) : ∀ (j : Nat) {s : HV} {m : Nat}, j ≤ n → Btw (sUp P L R e K c s0 n) s0 s → Agr (sUp P L R e K c s0 n) m s → Btw (sUp P L R e K c s0 n) s0 (sDn P L R e K c j s) ∧ Agr (sUp P L R e K c s0 n) m (sDn P L R e K c j s) ∧ (m < j → Agr (sUp P L R e K c s0 n) (m + 1) (sDn P L R e K c j s))
  | 0, s, m, _, hb, ha => ⟨hb, ha, fun h => absurd h (Nat.not_lt_zero m)⟩
  | j + 1, s, m, hj, hb, ha => by
    have hb' := st_btw hLR (show j < n by omega) hb
    have ha' := st_agr hb' ha
    obtain ⟨x, y, z⟩ := dn_ok hLR j (m := m) (by omega) hb' ha'
    refine ⟨x, y, fun h => ?_⟩
    by_cases d : m = j
    · subst d
      exact (dn_ok hLR m (m := m + 1) (by omega) hb' (st_new hLR (by omega) hb ha)).2.1
    · exact z (by omega)
theorem ro_ok (hLR : ∀ i, i < n → s0.1 i = false → L i < i ∧ R i < i) : ∀ r, r ≤ n → Btw (sUp P L R e K c s0 n) s0 (sRo P L R e K c n s0 r) ∧ Agr (sUp P L R e K c s0 n) r (sRo P L R e K c n s0 r)
  | 0, _ => ⟨btw_0 hLR, fun i hi => absurd hi (Nat.not_lt_zero i)⟩
  | r + 1, hr => by
    obtain ⟨a, b⟩ := ro_ok hLR r (by omega)
    obtain ⟨x, y, z⟩ := dn_ok hLR n (Nat.le_refl _) a b
    exact ⟨x, z (by omega)⟩
theorem ro_ok' (hLR : ∀ i, i < n → s0.1 i = false → L i < i ∧ R i < i) : ∀ d, Btw (sUp P L R e K c s0 n) s0 (sRo P L R e K c n s0 (n + d)) ∧ Agr (sUp P L R e K c s0 n) n (sRo P L R e K c n s0 (n + d))
  | 0 => ro_ok hLR n (Nat.le_refl _)
  | d + 1 => by
    obtain ⟨a, b⟩ := ro_ok' hLR d
    obtain ⟨x, y, z⟩ := dn_ok hLR n (Nat.le_refl _) a b
    exact ⟨x, y⟩
/-- both ways to the same end -/
theorem hv_same (hLR : ∀ i, i < n → s0.1 i = false → L i < i ∧ R i < i) {r : Nat} (hr : n ≤ r) : sRo P L R e K c n s0 r = sUp P L R e K c s0 n := by
  obtain ⟨hb, ha⟩ := ro_ok' (P := P) (e := e) (K := K) (c := c) hLR (r - n)
  rw [show n + (r - n) = r by omega] at hb ha
  have ge := fun (j : Nat) (hj : n ≤ j) => up_ge (P := P) (L := L) (R := R) (e := e) (K := K) (c := c) (s0 := s0) n (j := j) hj
  have e1 : ∀ i, (sRo P L R e K c n s0 r).1 i = (sUp P L R e K c s0 n).1 i := fun i => by
    by_cases ci : i < n
    · exact ha i ci
    · rw [(ge i (by omega)).1]
      cases z : s0.1 i with
      | true => exact (hb i).2.1 z
      | false =>
        cases y : (sRo P L R e K c n s0 r).1 i with
        | false => rfl
        | true =>
          have := ((hb i).1 y).1
          rw [(ge i (by omega)).1, z] at this
          cases this
  refine Prod.ext (funext e1) (funext fun i => ?_)
  cases y : (sRo P L R e K c n s0 r).1 i with
  | true => exact ((hb i).1 y).2
  | false =>
    rw [(hb i).2.2 y]
    have f : (sUp P L R e K c s0 n).1 i = false := (e1 i).symm.trans y
    by_cases ci : i < n
    · cases z : s0.1 i with
      | true => rw [((up_ch (P := P) (e := e) (K := K) (c := c) hLR ci).1 z).1] at f; cases f
      | false =>
        have ch := (up_ch (P := P) (e := e) (K := K) (c := c) hLR ci).2 z
        cases g : sG P L R e K (sUp P L R e K c s0 n) i with
        | true => rw [(ch.1 g).1] at f; cases f
        | false => exact (ch.2 g).2.symm
    · exact (ge i (by omega)).2.symm
end HVS
