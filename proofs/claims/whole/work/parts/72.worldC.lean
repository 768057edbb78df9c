/-! the world of the class at the start -/
def adC (h0 : Nat) (T : List Nat) (L Lw : List (Nat × Nat)) (Ld Lq Ll : List Nat) (o : Nat) : Nat :=
  if o < 7 then T.getD o 0 else if o < 55 then (if o % 2 = 1 then (L.getD ((o - 7) / 2) (0, 0)).1 else (L.getD ((o - 7) / 2) (0, 0)).2)
  else if o < 69 then T.getD (o - 48) 0 else if o < 79 then Ld.getD (o - 69) 0 else if o < 81 then T.getD (o - 58) 0 else if o < 91 then Lq.getD (o - 81) 0
  else if o < 95 then T.getD (o - 68) 0 else if o < 99 then Ll.getD (o - 95) 0 else if o = 99 then T.getD 27 0
  else (if o % 2 = 0 then (Lw.getD ((o - 100) / 2) (0, 0)).1 else (Lw.getD ((o - 100) / 2) (0, 0)).2)
theorem list_gd {α : Type} (L : List α) (d : α) : (List.range L.length).map (fun j => L.getD j d) = L := by
  apply List.ext_getElem (by simp)
  intro i h1 h2
  simp [h2]
theorem kL_r {L : List Nat} {n : Nat} (h : L.length = n) : kL L = (List.range n).map (fun j => (L.getD j 0, .inr (1, fr_Key))) := by
  subst h
  unfold kL
  conv => lhs; rw [← list_gd L 0]
  rw [List.map_map]
  rfl
theorem mL_r {L : List (Nat × Nat)} {n : Nat} (h : L.length = n) : mL L = (List.range n).flatMap (fun j => bMessage (L.getD j (0, 0)).1 (L.getD j (0, 0)).2) := by
  subst h
  unfold mL
  conv => lhs; rw [← list_gd L (0, 0)]
  rw [List.flatMap_map]
theorem wL_r {L : List (Nat × Nat)} {n : Nat} (h : L.length = n) : wL L = (List.range n).flatMap (fun j => bWorker (L.getD j (0, 0)).1 (L.getD j (0, 0)).2) := by
  subst h
  unfold wL
  conv => lhs; rw [← list_gd L (0, 0)]
  rw [List.flatMap_map]
theorem rng2 (a : Nat) : ∀ n, (List.range (2 * n)).map (fun i => a + i) = (List.range n).flatMap (fun j => [a + 2 * j, a + 2 * j + 1])
  | 0 => rfl
  | n + 1 => by
    rw [show 2 * (n + 1) = 2 * n + 1 + 1 by omega, List.range_succ, List.range_succ, List.map_append, List.map_append, rng2 a n, List.range_succ, List.flatMap_append]
    simp
    omega
theorem obC_r (nw : Nat) : obC nw = [0, 1, 2, 3, 4, 5, 6] ++ ((List.range 24).flatMap (fun j => [7 + 2 * j, 7 + 2 * j + 1]) ++ ([55, 56, 57, 58, 59, 60, 61, 62, 63, 64, 65, 66, 67, 68] ++ ((List.range 10).map (fun j => 69 + j) ++ ([79, 80] ++ ((List.range 10).map (fun j => 81 + j) ++ ([91, 92, 93, 94] ++ ((List.range nw).map (fun j => 95 + j) ++ ([99] ++ (List.range nw).flatMap (fun j => [100 + 2 * j, 100 + 2 * j + 1]))))))))) := by
  unfold obC
  rw [rng2, show List.range 95 = [0, 1, 2, 3, 4, 5, 6] ++ ((List.range 24).flatMap (fun j => [7 + 2 * j, 7 + 2 * j + 1]) ++ ([55, 56, 57, 58, 59, 60, 61, 62, 63, 64, 65, 66, 67, 68] ++ ((List.range 10).map (fun j => 69 + j) ++ ([79, 80] ++ ((List.range 10).map (fun j => 81 + j) ++ [91, 92, 93, 94]))))) by decide +kernel]
  simp only [List.append_assoc]
section ADC
variable {h0 : Nat} {T : List Nat} {L Lw : List (Nat × Nat)} {Ld Lq Ll : List Nat}
theorem ad_m {j : Nat} (h : j < 24) : adC h0 T L Lw Ld Lq Ll (7 + 2 * j) = (L.getD j (0, 0)).1 ∧ adC h0 T L Lw Ld Lq Ll (7 + 2 * j + 1) = (L.getD j (0, 0)).2 := by
  unfold adC
  rw [if_neg (by omega), if_pos (by omega), if_pos (by omega), if_neg (by omega), if_pos (by omega), if_neg (by omega), show (7 + 2 * j - 7) / 2 = j by omega, show (7 + 2 * j + 1 - 7) / 2 = j by omega]
  exact ⟨rfl, rfl⟩
theorem ad_d {j : Nat} (h : j < 10) : adC h0 T L Lw Ld Lq Ll (69 + j) = Ld.getD j 0 := by
  unfold adC
  rw [if_neg (by omega), if_neg (by omega), if_neg (by omega), if_pos (by omega), show 69 + j - 69 = j by omega]
theorem ad_q {j : Nat} (h : j < 10) : adC h0 T L Lw Ld Lq Ll (81 + j) = Lq.getD j 0 := by
  unfold adC
  rw [if_neg (by omega), if_neg (by omega), if_neg (by omega), if_neg (by omega), if_neg (by omega), if_pos (by omega), show 81 + j - 81 = j by omega]
theorem ad_l {j : Nat} (h : j < 4) : adC h0 T L Lw Ld Lq Ll (95 + j) = Ll.getD j 0 := by
  unfold adC
  rw [if_neg (by omega), if_neg (by omega), if_neg (by omega), if_neg (by omega), if_neg (by omega), if_neg (by omega), if_neg (by omega), if_pos (by omega), show 95 + j - 95 = j by omega]
theorem ad_w {j : Nat} : adC h0 T L Lw Ld Lq Ll (100 + 2 * j) = (Lw.getD j (0, 0)).1 ∧ adC h0 T L Lw Ld Lq Ll (100 + 2 * j + 1) = (Lw.getD j (0, 0)).2 := by
  unfold adC
  rw [if_neg (by omega), if_neg (by omega), if_neg (by omega), if_neg (by omega), if_neg (by omega), if_neg (by omega), if_neg (by omega), if_neg (by omega), if_neg (by omega), if_pos (by omega), if_neg (by omega), if_neg (by omega), if_neg (by omega), if_neg (by omega), if_neg (by omega), if_neg (by omega), if_neg (by omega), if_neg (by omega), if_neg (by omega), if_neg (by omega), show (100 + 2 * j - 100) / 2 = j by omega, show (100 + 2 * j + 1 - 100) / 2 = j by omega]
  exact ⟨rfl, rfl⟩
end ADC
/-- two pictures of one cell -/
theorem at_arr {D : va_G} {H : Heap} {a : Nat} {cA : ClassId} {n : Nat} {f g : Nat → Option Nat} (h : va_at D clX (a, .inl (cA, (n, .inr (.inr (.inr (.inr f)))))) H) (e : ∀ j, j < n → f j = g j) : va_at D clX (a, .inl (cA, (n, .inr (.inr (.inr (.inr g)))))) H := by
  have h : H[a]? = some (vp_cell cA (n, .inr (.inr (.inr (.inr f))))) := h
  show H[a]? = some (vp_cell cA (n, .inr (.inr (.inr (.inr g)))))
  rw [h, vp_cell_q, vp_cell_q]
  unfold arrV
  congr 2
  apply Array.ext (by simp)
  intro i h1 h2
  have hi : i < n := by simpa using h1
  simp [e i hi]
