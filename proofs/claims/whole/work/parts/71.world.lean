/-! the worlds that the constructors leave, as pictures of the states at the start -/
def adM (h0 : Nat) (u : Nat → Nat) (o : Nat) : Nat := if o = 0 then h0 else u (o - 1)
theorem avM0 {ad : Nat → Nat} {nw ln κ : Nat} (h : 100 ≤ κ) : av SM ad (s0M nw ln) κ 0 = .inl (fun _ => 0) := by
  have e : ∀ j, gN (s0M nw ln) κ j = 0 := fun j => by
    show (if κ = 0 ∧ j = 0 then nw else if κ = 1 ∧ j = 0 then ln else 0) = 0
    rw [if_neg (by omega), if_neg (by omega)]
  show Sum.inl (fun j => nI (gN (s0M nw ln) κ j)) = _
  congr 1
  funext j
  rw [e]
  rfl
theorem mM0 {ad : Nat → Nat} {dA : Nat → ClassId} {nw ln o κ n y : Nat} (h : kdM o = κ) (h1 : 100 ≤ κ) (ha : atM κ = (0, n, y)) : pcx SM ad dA (s0M nw ln) o = .inl (dA y, (n, .inl (fun _ => 0))) := by
  rw [pcx_arr (S := SM) (t := 0) (n := n) (y := y) h h1 ha, avM0 h1]
theorem mM1 {ad : Nat → Nat} {dA : Nat → ClassId} {nw ln o κ n y : Nat} (h : kdM o = κ) (h1 : 100 ≤ κ) (ha : atM κ = (1, n, y)) : pcx SM ad dA (s0M nw ln) o = .inl (dA y, (n, .inl (fun _ => 0))) := by
  rw [pcx_arr (S := SM) (t := 1) (n := n) (y := y) h h1 ha]
  rfl
theorem mM2 {ad : Nat → Nat} {dA : Nat → ClassId} {nw ln o κ n y : Nat} (h : kdM o = κ) (h1 : 100 ≤ κ) (ha : atM κ = (2, n, y)) : pcx SM ad dA (s0M nw ln) o = .inl (dA y, (n, .inl (fun _ => 0))) := by
  rw [pcx_arr (S := SM) (t := 2) (n := n) (y := y) h h1 ha]
  rfl
theorem mM3 {ad : Nat → Nat} {dA : Nat → ClassId} {nw ln o κ n y : Nat} (h : kdM o = κ) (h1 : 100 ≤ κ) (ha : atM κ = (3, n, y)) : pcx SM ad dA (s0M nw ln) o = .inl (dA y, (n, .inr (.inl (fun _ => 0)))) := by
  rw [pcx_arr (S := SM) (t := 3) (n := n) (y := y) h h1 ha]
  rfl
theorem r31 {α : Type} (f : Nat → α) : (List.range 31).map f = [f 0, f 1, f 2, f 3, f 4, f 5, f 6, f 7, f 8, f 9, f 10, f 11, f 12, f 13, f 14, f 15, f 16, f 17, f 18, f 19, f 20, f 21, f 22, f 23, f 24, f 25, f 26, f 27, f 28, f 29, f 30] := rfl
theorem ap30 (e1 e2 e3 e4 e5 e6 e7 e8 e9 e10 e11 e12 e13 e14 e15 e16 e17 e18 e19 e20 e21 e22 e23 e24 e25 e26 e27 e28 e29 e30 : Nat × va_E) : (md_ap (md_ap (md_ap (md_ap (md_ap (md_ap (md_ap (md_ap (md_ap (md_ap (md_ap (md_ap (md_ap (md_ap (md_ap (md_ap (md_ap (md_ap (md_ap (md_ap (md_ap (md_ap (md_ap (md_ap (md_ap (md_ap (md_ap (md_ap (md_ap (md_ap [] e1) e2) e3) e4) e5) e6) e7) e8) e9) e10) e11) e12) e13) e14) e15) e16) e17) e18) e19) e20) e21) e22) e23) e24) e25) e26) e27) e28) e29) e30) = [e1, e2, e3, e4, e5, e6, e7, e8, e9, e10, e11, e12, e13, e14, e15, e16, e17, e18, e19, e20, e21, e22, e23, e24, e25, e26, e27, e28, e29, e30] := by
  rw [show md_ap [] e1 = [e1] from rfl, show md_ap [e1] e2 = [e1, e2] from rfl, show md_ap [e1, e2] e3 = [e1, e2, e3] from rfl, show md_ap [e1, e2, e3] e4 = [e1, e2, e3, e4] from rfl, show md_ap [e1, e2, e3, e4] e5 = [e1, e2, e3, e4, e5] from rfl, show md_ap [e1, e2, e3, e4, e5] e6 = [e1, e2, e3, e4, e5, e6] from rfl, show md_ap [e1, e2, e3, e4, e5, e6] e7 = [e1, e2, e3, e4, e5, e6, e7] from rfl, show md_ap [e1, e2, e3, e4, e5, e6, e7] e8 = [e1, e2, e3, e4, e5, e6, e7, e8] from rfl, show md_ap [e1, e2, e3, e4, e5, e6, e7, e8] e9 = [e1, e2, e3, e4, e5, e6, e7, e8, e9] from rfl, show md_ap [e1, e2, e3, e4, e5, e6, e7, e8, e9] e10 = [e1, e2, e3, e4, e5, e6, e7, e8, e9, e10] from rfl, show md_ap [e1, e2, e3, e4, e5, e6, e7, e8, e9, e10] e11 = [e1, e2, e3, e4, e5, e6, e7, e8, e9, e10, e11] from rfl, show md_ap [e1, e2, e3, e4, e5, e6, e7, e8, e9, e10, e11] e12 = [e1, e2, e3, e4, e5, e6, e7, e8, e9, e10, e11, e12] from rfl, show md_ap [e1, e2, e3, e4, e5, e6, e7, e8, e9, e10, e11, e12] e13 = [e1, e2, e3, e4, e5, e6, e7, e8, e9, e10, e11, e12, e13] from rfl, show md_ap [e1, e2, e3, e4, e5, e6, e7, e8, e9, e10, e11, e12, e13] e14 = [e1, e2, e3, e4, e5, e6, e7, e8, e9, e10, e11, e12, e13, e14] from rfl, show md_ap [e1, e2, e3, e4, e5, e6, e7, e8, e9, e10, e11, e12, e13, e14] e15 = [e1, e2, e3, e4, e5, e6, e7, e8, e9, e10, e11, e12, e13, e14, e15] from rfl, show md_ap [e1, e2, e3, e4, e5, e6, e7, e8, e9, e10, e11, e12, e13, e14, e15] e16 = [e1, e2, e3, e4, e5, e6, e7, e8, e9, e10, e11, e12, e13, e14, e15, e16] from rfl, show md_ap [e1, e2, e3, e4, e5, e6, e7, e8, e9, e10, e11, e12, e13, e14, e15, e16] e17 = [e1, e2, e3, e4, e5, e6, e7, e8, e9, e10, e11, e12, e13, e14, e15, e16, e17] from rfl, show md_ap [e1, e2, e3, e4, e5, e6, e7, e8, e9, e10, e11, e12, e13, e14, e15, e16, e17] e18 = [e1, e2, e3, e4, e5, e6, e7, e8, e9, e10, e11, e12, e13, e14, e15, e16, e17, e18] from rfl, show md_ap [e1, e2, e3, e4, e5, e6, e7, e8, e9, e10, e11, e12, e13, e14, e15, e16, e17, e18] e19 = [e1, e2, e3, e4, e5, e6, e7, e8, e9, e10, e11, e12, e13, e14, e15, e16, e17, e18, e19] from rfl, show md_ap [e1, e2, e3, e4, e5, e6, e7, e8, e9, e10, e11, e12, e13, e14, e15, e16, e17, e18, e19] e20 = [e1, e2, e3, e4, e5, e6, e7, e8, e9, e10, e11, e12, e13, e14, e15, e16, e17, e18, e19, e20] from rfl, show md_ap [e1, e2, e3, e4, e5, e6, e7, e8, e9, e10, e11, e12, e13, e14, e15, e16, e17, e18, e19, e20] e21 = [e1, e2, e3, e4, e5, e6, e7, e8, e9, e10, e11, e12, e13, e14, e15, e16, e17, e18, e19, e20, e21] from rfl, show md_ap [e1, e2, e3, e4, e5, e6, e7, e8, e9, e10, e11, e12, e13, e14, e15, e16, e17, e18, e19, e20, e21] e22 = [e1, e2, e3, e4, e5, e6, e7, e8, e9, e10, e11, e12, e13, e14, e15, e16, e17, e18, e19, e20, e21, e22] from rfl, show md_ap [e1, e2, e3, e4, e5, e6, e7, e8, e9, e10, e11, e12, e13, e14, e15, e16, e17, e18, e19, e20, e21, e22] e23 = [e1, e2, e3, e4, e5, e6, e7, e8, e9, e10, e11, e12, e13, e14, e15, e16, e17, e18, e19, e20, e21, e22, e23] from rfl, show md_ap [e1, e2, e3, e4, e5, e6, e7, e8, e9, e10, e11, e12, e13, e14, e15, e16, e17, e18, e19, e20, e21, e22, e23] e24 = [e1, e2, e3, e4, e5, e6, e7, e8, e9, e10, e11, e12, e13, e14, e15, e16, e17, e18, e19, e20, e21, e22, e23, e24] from rfl, show md_ap [e1, e2, e3, e4, e5, e6, e7, e8, e9, e10, e11, e12, e13, e14, e15, e16, e17, e18, e19, e20, e21, e22, e23, e24] e25 = [e1, e2, e3, e4, e5, e6, e7, e8, e9, e10, e11, e12, e13, e14, e15, e16, e17, e18, e19, e20, e21, e22, e23, e24, e25] from rfl, show md_ap [e1, e2, e3, e4, e5, e6, e7, e8, e9, e10, e11, e12, e13, e14, e15, e16, e17, e18, e19, e20, e21, e22, e23, e24, e25] e26 = [e1, e2, e3, e4, e5, e6, e7, e8, e9, e10, e11, e12, e13, e14, e15, e16, e17, e18, e19, e20, e21, e22, e23, e24, e25, e26] from rfl, show md_ap [e1, e2, e3, e4, e5, e6, e7, e8, e9, e10, e11, e12, e13, e14, e15, e16, e17, e18, e19, e20, e21, e22, e23, e24, e25, e26] e27 = [e1, e2, e3, e4, e5, e6, e7, e8, e9, e10, e11, e12, e13, e14, e15, e16, e17, e18, e19, e20, e21, e22, e23, e24, e25, e26, e27] from rfl, show md_ap [e1, e2, e3, e4, e5, e6, e7, e8, e9, e10, e11, e12, e13, e14, e15, e16, e17, e18, e19, e20, e21, e22, e23, e24, e25, e26, e27] e28 = [e1, e2, e3, e4, e5, e6, e7, e8, e9, e10, e11, e12, e13, e14, e15, e16, e17, e18, e19, e20, e21, e22, e23, e24, e25, e26, e27, e28] from rfl, show md_ap [e1, e2, e3, e4, e5, e6, e7, e8, e9, e10, e11, e12, e13, e14, e15, e16, e17, e18, e19, e20, e21, e22, e23, e24, e25, e26, e27, e28] e29 = [e1, e2, e3, e4, e5, e6, e7, e8, e9, e10, e11, e12, e13, e14, e15, e16, e17, e18, e19, e20, e21, e22, e23, e24, e25, e26, e27, e28, e29] from rfl, show md_ap [e1, e2, e3, e4, e5, e6, e7, e8, e9, e10, e11, e12, e13, e14, e15, e16, e17, e18, e19, e20, e21, e22, e23, e24, e25, e26, e27, e28, e29] e30 = [e1, e2, e3, e4, e5, e6, e7, e8, e9, e10, e11, e12, e13, e14, e15, e16, e17, e18, e19, e20, e21, e22, e23, e24, e25, e26, e27, e28, e29, e30] from rfl]
set_option maxRecDepth 100000 in
set_option maxHeartbeats 4000000 in
theorem pM_0 (ad : Nat → Nat) (dA : Nat → ClassId) (nw ln : Nat) : pcx SM ad dA (s0M nw ln) 0 = .inr (10, [.int (nI nw), .int (nI ln), .int 0, .int 0, .ref (ad 1), .int 0, .ref (ad 2), .ref (ad 3), .ref (ad 4), .ref (ad 5), .ref (ad 6), .ref (ad 7), .ref (ad 8), .ref (ad 9), .int 0, .ref (ad 10), .ref (ad 11), .ref (ad 12), .ref (ad 13), .ref (ad 14), .ref (ad 15), .ref (ad 16), .ref (ad 17), .int 0, .int 0, .ref (ad 18), .ref (ad 19), .ref (ad 20), .ref (ad 21), .ref (ad 22), .int 0, .int 0, .int 0, .int 0, .int 0, .ref (ad 23), .ref (ad 24), .ref (ad 25), .ref (ad 26), .ref (ad 27), .ref (ad 28), .ref (ad 29), .ref (ad 30), .int 0, .int 0, .int 0, .int 0, .int 0, .int 0, .int 0]) := by
  rw [pcx_obj (S := SM) (κ := 10) rfl (by decide)]
  rfl
set_option maxRecDepth 100000 in
set_option maxHeartbeats 4000000 in
theorem wd_M (dA : Nat → ClassId) (nw ln h0 : Nat) (u : Nat → Nat) : bMd dA nw ln h0 u = wd SM (adM h0 u) dA obM (s0M nw ln) := by
  unfold wd obM
  rw [r31, pM_0]
  rw [mM2 (o := 1) (κ := 100) (n := 5) (y := 1) rfl (by decide) rfl]
  rw [mM2 (o := 2) (κ := 101) (n := 10) (y := 1) rfl (by decide) rfl]
  rw [mM3 (o := 3) (κ := 102) (n := 10) (y := 2) rfl (by decide) rfl]
  rw [mM0 (o := 4) (κ := 103) (n := 10) (y := 0) rfl (by decide) rfl]
  rw [mM0 (o := 5) (κ := 104) (n := 10) (y := 0) rfl (by decide) rfl]
  rw [mM2 (o := 6) (κ := 105) (n := 10) (y := 1) rfl (by decide) rfl]
  rw [mM1 (o := 7) (κ := 106) (n := 10) (y := 0) rfl (by decide) rfl]
  rw [mM2 (o := 8) (κ := 107) (n := 10) (y := 1) rfl (by decide) rfl]
  rw [mM0 (o := 9) (κ := 108) (n := 10) (y := 0) rfl (by decide) rfl]
  rw [mM3 (o := 10) (κ := 109) (n := 10) (y := 2) rfl (by decide) rfl]
  rw [mM1 (o := 11) (κ := 110) (n := 10) (y := 0) rfl (by decide) rfl]
  rw [mM1 (o := 12) (κ := 111) (n := 10) (y := 0) rfl (by decide) rfl]
  rw [mM2 (o := 13) (κ := 112) (n := 10) (y := 1) rfl (by decide) rfl]
  rw [mM1 (o := 14) (κ := 113) (n := 10) (y := 0) rfl (by decide) rfl]
  rw [mM0 (o := 15) (κ := 114) (n := 10) (y := 0) rfl (by decide) rfl]
  rw [mM0 (o := 16) (κ := 115) (n := 10) (y := 0) rfl (by decide) rfl]
  rw [mM0 (o := 17) (κ := 116) (n := 10) (y := 0) rfl (by decide) rfl]
  rw [mM1 (o := 18) (κ := 117) (n := 12) (y := 0) rfl (by decide) rfl]
  rw [mM0 (o := 19) (κ := 118) (n := 5) (y := 0) rfl (by decide) rfl]
  rw [mM1 (o := 20) (κ := 119) (n := 5) (y := 0) rfl (by decide) rfl]
  rw [mM1 (o := 21) (κ := 120) (n := 5) (y := 0) rfl (by decide) rfl]
  rw [mM0 (o := 22) (κ := 121) (n := 5) (y := 0) rfl (by decide) rfl]
  rw [mM0 (o := 23) (κ := 122) (n := 24) (y := 0) rfl (by decide) rfl]
  rw [mM0 (o := 24) (κ := 123) (n := 24) (y := 0) rfl (by decide) rfl]
  rw [mM0 (o := 25) (κ := 124) (n := 24) (y := 0) rfl (by decide) rfl]
  rw [mM0 (o := 26) (κ := 125) (n := 24) (y := 0) rfl (by decide) rfl]
  rw [mM0 (o := 27) (κ := 126) (n := 24) (y := 0) rfl (by decide) rfl]
  rw [mM1 (o := 28) (κ := 127) (n := 24) (y := 0) rfl (by decide) rfl]
  rw [mM1 (o := 29) (κ := 128) (n := 24) (y := 0) rfl (by decide) rfl]
  rw [mM1 (o := 30) (κ := 129) (n := 24) (y := 0) rfl (by decide) rfl]
  unfold bMd
  rw [ap30]
  rfl
