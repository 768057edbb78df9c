/-! the messages that are sent: what they carry on both sides -/
section MSG
variable {nw : Nat} {σ : Sg} {K : UK}
theorem send_k (σ : Sg) (k r o : Nat) : kof (fSend σ k r) o = kof σ o := by
  unfold kof
  rw [send_J, send_I, send_I]
theorem fs_fill (hW : Wf nw σ) (k r o : Nat) (d c : Int32) : FS σ (mFill (fSend σ k r) (sendTo σ) o d c) := (((fs_send σ k r).k hW _ _ _).i15 d).i16 c
theorem mg_fill (s : Sg) (q o : Nat) (d c : Int32) : mg (mFill s q o d c) q = (gN s 10 q, gN s 11 q, kof s o, gN s 12 q, gB s 13 q, gB s 14 q, d, c, gI s 17 q) := by
  simp [mg, mFill, kcopy, kset, kof, gs]
theorem mm_fill {a r o k : Nat} {d c : Int32} (ha : 5 ≤ a) (hk : k < K.1) (ho : kof σ o = K.2 k) : MMa K (mg (mFill (fSend σ a r) (sendTo σ) o d c) (sendTo σ)) a r k 0 c (nI 0) d := by
  rw [mg_fill, send_10, send_11, send_k, ho]
  exact ⟨⟨rfl, rfl⟩, fun _ _ => ⟨hk, rfl⟩, fun h => absurd h (by omega), fun h => absurd h (by omega), fun _ => rfl, fun h => absurd h (by omega), fun _ => rfl⟩
theorem fs_put (σ : Sg) (c : Int32) : FS σ (cPut σ c) := ((fs_send σ 3 0).i15 _).i16 c
theorem mm_put {c d : Int32} (hd : dg c = d) : MMa K (mg (cPut σ c) (sendTo σ)) 3 0 0 0 c (nI 0) d := by
  have e : mg (cPut σ c) (sendTo σ) = (gN (fSend σ 3 0) 10 (sendTo σ), gN (fSend σ 3 0) 11 (sendTo σ), kof (fSend σ 3 0) (sendTo σ + 1), gN (fSend σ 3 0) 12 (sendTo σ), gB (fSend σ 3 0) 13 (sendTo σ), gB (fSend σ 3 0) 14 (sendTo σ), d, c, gI (fSend σ 3 0) 17 (sendTo σ)) := by
    unfold cPut
    rw [hd]
    simp [mg, kof, gs]
  rw [e, send_10, send_11]
  exact ⟨⟨rfl, rfl⟩, fun _ h => absurd rfl h, fun h => absurd h (by omega), fun h => absurd h (by omega), fun _ => rfl, fun h => absurd h (by omega), fun _ => rfl⟩
/-- the question, before its hour is written down -/
def cAsk0 (σ : Sg) (i : Nat) : Sg := cKey (sN (fSend σ 1 0) 12 (sendTo σ) i) i (sendTo σ + 1)
theorem cAsk_eq (σ : Sg) (i t : Nat) : cAsk σ i t = sN (cAsk0 σ i) 106 i (t + 5) := rfl
theorem fs_ask (hW : Wf nw σ) (i : Nat) : FS σ (cAsk0 σ i) := ((fs_send σ 1 0).n12 i).k hW _ _ _
theorem mm_ask {i k : Nat} {a b : Int32} (ha : dg (gI σ 102 (gN σ 104 i)) = a) (hb : dg (gI σ 102 (gN σ 105 i)) = b) (hk : k < K.1) (ho : K.2 k = (gJ σ 103 i, a, b)) : MMa K (mg (cAsk0 σ i) (sendTo σ)) 1 0 k i (nI 0) (nI 0) (nI 0) := by
  have e : mg (cAsk0 σ i) (sendTo σ) = (gN (fSend σ 1 0) 10 (sendTo σ), gN (fSend σ 1 0) 11 (sendTo σ), (gJ σ 103 i, a, b), i, gB (fSend σ 1 0) 13 (sendTo σ), gB (fSend σ 1 0) 14 (sendTo σ), gI (fSend σ 1 0) 15 (sendTo σ), gI (fSend σ 1 0) 16 (sendTo σ), gI (fSend σ 1 0) 17 (sendTo σ)) := by
    unfold cAsk0 cKey
    have e1 : gJ (sN (fSend σ 1 0) 12 (sendTo σ) i) 103 i = gJ σ 103 i := send_J σ 1 0 103 i
    have e2 : gN (sN (fSend σ 1 0) 12 (sendTo σ) i) 104 i = gN σ 104 i := (congrFun (gN_of (fSend σ 1 0) (sendTo σ) i (by decide)) i).trans (send_N σ 1 0 (by decide) i)
    have e3 : gN (sN (fSend σ 1 0) 12 (sendTo σ) i) 105 i = gN σ 105 i := (congrFun (gN_of (fSend σ 1 0) (sendTo σ) i (by decide)) i).trans (send_N σ 1 0 (by decide) i)
    have e4 : ∀ x, gI (sN (fSend σ 1 0) 12 (sendTo σ) i) 102 x = gI σ 102 x := fun x => send_I σ 1 0 102 x
    rw [e1, e2, e3, e4, e4, ha, hb]
    simp [mg, kof, kset, gs]
  rw [e, send_10, send_11]
  exact ⟨⟨rfl, rfl⟩, fun _ _ => ⟨hk, ho.symm⟩, fun _ => rfl, fun h => absurd h (by omega), fun h => absurd h (by omega), fun h => absurd h (by omega), fun h => absurd h (by omega)⟩
theorem fs_lack (σ : Sg) (q : Nat) : FS σ (sLack σ q) := (((fs_send σ 2 9).n12 _).b13 _).b14 _
theorem fBlob_of {τ : Sg} (h1 : gN τ 36 64 = gN σ 36 64) (h2 : ∀ i, gI τ 107 i = gI σ 107 i) (d : Int32) : fBlob τ d = fBlob σ d := by
  unfold fBlob
  rw [h1]
  exact fnd_congr (fun j _ => by rw [h2])
theorem dHas_of {τ : Sg} (h1 : gN τ 36 64 = gN σ 36 64) (h2 : ∀ i, gI τ 107 i = gI σ 107 i) (d : Int32) : dHas τ d = dHas σ d := by
  unfold dHas
  rw [fBlob_of h1 h2]
theorem dOf_of {τ : Sg} (h1 : gN τ 36 64 = gN σ 36 64) (h2 : ∀ i, gI τ 107 i = gI σ 107 i) (h3 : ∀ i, gI τ 108 i = gI σ 108 i) (d : Int32) : dOf τ d = dOf σ d := by
  unfold dOf
  rw [fBlob_of h1 h2]
  cases fBlob σ d with
  | none => rfl
  | some i => exact h3 i
theorem mm_lack {q k i : Nat} {x y : Int32} (hi : gN σ 12 q = i) (hx : (!dHas σ (gI σ 7 (q + 1))) = decide (x = nI 1)) (hy : (!dHas σ (gI σ 8 (q + 1))) = decide (y = nI 1)) : MMa K (mg (sLack σ q) (sendTo σ)) 2 9 k i x y (nI 0) := by
  have d1 : dHas (sLack1 σ q) (gI σ 7 (q + 1)) = dHas σ (gI σ 7 (q + 1)) := dHas_of ((congrFun (gN_of (fSend σ 2 9) (sendTo σ) _ (by decide)) 64).trans (send_N σ 2 9 (by decide) 64)) (fun i => send_I σ 2 9 107 i) _
  have d2 : dHas (sLack2 σ q) (gI σ 8 (q + 1)) = dHas σ (gI σ 8 (q + 1)) := dHas_of (τ := sLack2 σ q) (show gN (fSend σ 2 9) 36 64 = _ from send_N σ 2 9 (by decide) 64) (fun i => send_I σ 2 9 107 i) _
  have e : mg (sLack σ q) (sendTo σ) = (gN (fSend σ 2 9) 10 (sendTo σ), gN (fSend σ 2 9) 11 (sendTo σ), kof (fSend σ 2 9) (sendTo σ + 1), gN σ 12 q, !dHas σ (gI σ 7 (q + 1)), !dHas σ (gI σ 8 (q + 1)), gI (fSend σ 2 9) 15 (sendTo σ), gI (fSend σ 2 9) 16 (sendTo σ), gI (fSend σ 2 9) 17 (sendTo σ)) := by
    unfold sLack
    rw [d2]
    unfold sLack2
    rw [d1]
    unfold sLack1
    simp [mg, kof, gs]
  rw [e, send_10, send_11, hi, hx, hy]
  exact ⟨⟨rfl, rfl⟩, fun h => absurd rfl h, fun _ => rfl, fun _ => ⟨rfl, rfl⟩, fun h => absurd h (by omega), fun h => absurd h (by omega), fun h => absurd h (by omega)⟩
theorem fs_lease (hW : Wf nw σ) (w q : Nat) : FS σ (sLease σ w q) := (((fs_send σ 4 w).k hW _ _ _).i16 _).i17 _
theorem mm_lease {w q k : Nat} {x y : Int32} (hk : k < K.1) (hq : q ≠ sendTo σ + 1) (ho : kof σ q = K.2 k) (hx : dOf σ (gI σ 7 q) = x) (hy : dOf σ (gI σ 8 q) = y) : MMa K (mg (sLease σ w q) (sendTo σ)) 4 w k 0 x y (nI 0) := by
  have e7 : gI (sLease1 σ w q) 7 q = gI σ 7 q := by
    unfold sLease1
    simp only [kcopy, kset]
    simp [gs, hq, send_I]
  have e8 : gI (sLease1 σ w q) 8 q = gI σ 8 q := by
    unfold sLease1
    simp only [kcopy, kset]
    simp [gs, hq, send_I]
  have n36 : gN (sLease1 σ w q) 36 64 = gN σ 36 64 := send_N σ 4 w (by decide) 64
  have i107 : ∀ i, gI (sLease1 σ w q) 107 i = gI σ 107 i := fun i => by
    show gI (fSend σ 4 w) 107 i = _
    exact send_I σ 4 w 107 i
  have i108 : ∀ i, gI (sLease1 σ w q) 108 i = gI σ 108 i := fun i => by
    show gI (fSend σ 4 w) 108 i = _
    exact send_I σ 4 w 108 i
  have d1 : dOf (sLease1 σ w q) (gI (sLease1 σ w q) 7 q) = x := by rw [e7, dOf_of n36 i107 i108]; exact hx
  have d2 : dOf (sLease2 σ w q) (gI (sLease1 σ w q) 8 q) = y := by rw [e8, dOf_of (σ := σ) (τ := sLease2 σ w q) n36 i107 i108]; exact hy
  have e : mg (sLease σ w q) (sendTo σ) = (gN (fSend σ 4 w) 10 (sendTo σ), gN (fSend σ 4 w) 11 (sendTo σ), kof (fSend σ 4 w) q, gN (fSend σ 4 w) 12 (sendTo σ), gB (fSend σ 4 w) 13 (sendTo σ), gB (fSend σ 4 w) 14 (sendTo σ), gI (fSend σ 4 w) 15 (sendTo σ), x, y) := by
    unfold sLease
    rw [d2]
    unfold sLease2
    rw [d1]
    unfold sLease1
    simp [mg, kof, kcopy, kset, gs]
  rw [e, send_10, send_11, send_k, ho]
  exact ⟨⟨rfl, rfl⟩, fun _ _ => ⟨hk, rfl⟩, fun h => absurd h (by omega), fun h => absurd h (by omega), fun _ => rfl, fun _ => rfl, fun h => absurd h (by omega)⟩
end MSG
