/-! the workers and the whole object -/
def insn (g : Int64) (p : Nat) : Nat := if 15 < p then 0 else ((g.toUInt64 >>> ((nI (4 * p)).toInt64.toUInt64 &&& Int64.toUInt64 63)).toInt64.toInt32).toBitVec.toNat % 2 ^ 4
theorem insn_lt (g : Int64) (p : Nat) : insn g p < 16 := by
  unfold insn
  split
  · decide
  · exact Nat.mod_lt _ (by decide)
theorem insn_0 {g : Int64} {p : Nat} (h : 15 < p) : insn g p = 0 := if_pos h
def wNext (σ : Sg) (o : Nat) : Nat := insn (gJ σ 6 (o + 1)) (gN σ 61 o)
def imax (x y : Int32) : Int32 := if x < y then y else x
theorem p15 {σ : Sg} {o : Nat} (h : 0 < wNext σ o) : gN σ 61 o ≤ 15 := by
  by_cases c : 15 < gN σ 61 o
  · exact absurd (insn_0 c) (Nat.ne_of_gt h)
  · omega
def wRun (σ : Sg) (o op : Nat) : Sg :=
  if op = 1 then sI (sN σ 61 o (gN σ 61 o + 1)) 59 o (gI σ 59 o + gI σ 60 o)
  else if op = 2 then sI (sN σ 61 o (gN σ 61 o + 1)) 59 o (gI σ 59 o - gI σ 60 o)
  else if op = 3 then sI (sN σ 61 o (gN σ 61 o + 1)) 59 o (gI σ 59 o ^^^ gI σ 60 o)
  else if op = 4 then sI (sN σ 61 o (gN σ 61 o + 1)) 59 o (gI σ 59 o >>> (nI 1 &&& 31))
  else if op = 5 then sI (sN σ 61 o (gN σ 61 o + 1)) 59 o (gI σ 59 o * nI 3 + nI 1)
  else if op = 6 then sI (sI (sN σ 61 o (gN σ 61 o + 1)) 59 o (gI σ 60 o)) 60 o (gI σ 59 o)
  else if op = 7 then (if gI σ 60 o ≤ 0 then sN σ 61 o (gN σ 61 o + 1) else sN (sI (sN σ 61 o (gN σ 61 o + 1)) 60 o (gI σ 60 o - nI 1)) 61 o 0)
  else if op = 8 then (if gI σ 59 o &&& nI 1 = 0 then sN σ 61 o (gN σ 61 o + 1) else sN (sN σ 61 o (gN σ 61 o + 1)) 61 o (gN σ 61 o + 1 + 1))
  else if op = 9 then sI (sN σ 61 o (gN σ 61 o + 1)) 60 o (gI σ 59 o)
  else if op = 10 then sI (sN σ 61 o (gN σ 61 o + 1)) 59 o (imax (gI σ 59 o) (gI σ 60 o))
  else sN σ 61 o (gN σ 61 o + 1)
def wDown (σ : Sg) (o : Nat) : Sg := sB (sB σ 56 o false) 57 o false
def wBegin (σ : Sg) (o q : Nat) : Sg := sB (sN (sN (sI (sI (kcopy σ (o + 1) (q + 1)) 59 o (gI σ 16 q)) 60 o (gI σ 17 q)) 61 o 0) 58 o 0) 57 o true
def wWork (σ : Sg) (o : Nat) : Sg := if gB σ 56 o = true then (if gB σ 57 o = true then (if wNext σ o = 0 then mFill (fSend (sB σ 57 o false) 5 0) (sendTo (sB σ 57 o false)) (o + 1) (dg (gI σ 59 o)) (gI σ 59 o) else sN (wRun σ o (wNext σ o)) 58 o (gN σ 58 o + 1)) else σ) else σ
def wWorkN (σ : Sg) : Nat → Sg
  | 0 => σ
  | i + 1 => wWork (wWorkN σ i) (100 + 2 * i)
def isW (nw : Nat) (x : Int32) : Bool := decide (1 ≤ x.toInt ∧ x.toInt ≤ nw)
def isNd (nw : Nat) (x : Int32) : Bool := decide (x = 0) || isW nw x
def lbUp (σ : Sg) (nw : Nat) (x : Int32) : Bool := if x = 0 then gB σ 45 63 else (!isW nw x || gB σ 56 (100 + 2 * (x.toInt.toNat - 1)))
def lbHand (σ : Sg) (nw q : Nat) (cut : Int32) : Sg :=
  if gN σ 10 q = 1 then sAsk σ nw q else if gN σ 10 q = 2 then cLack σ q (gN σ 4 0) else if gN σ 10 q = 3 then sPut σ nw q cut
  else if gN σ 10 q = 4 then (if isW nw (nI (gN σ 11 q)) = true then wBegin σ (100 + 2 * (gN σ 11 q - 1)) q else σ)
  else if gN σ 10 q = 5 then sRes σ nw q cut else if gN σ 10 q = 6 then cAnsN σ q (gN σ 31 55) else σ
def lbDel (s : Sg) (nw q : Nat) (cut : Int32) : Sg := if lbUp s nw (nI (gN s 11 q)) = true then (if sound s q = true then lbHand s nw q cut else sN s 5 0 (gN s 5 0 + 1)) else s
def lbDelS (σ : Sg) (nw : Nat) (k cut : Int32) : Sg := if inR k (gN σ 21 1) = true then lbDel (fTake σ k.toNatClampNeg) nw (gN σ 100 k.toNatClampNeg) cut else σ
def lbDelR (σ : Sg) (nw : Nat) (k cut : Int32) : Int32 := if inR k (gN σ 21 1) = true then (if lbUp (fTake σ k.toNatClampNeg) nw (nI (gN σ 11 (gN σ 100 k.toNatClampNeg))) = true then nI (gN (lbDelS σ nw k cut) 10 (gN σ 100 k.toNatClampNeg)) else nI 0) else -1
def lbTick1 (σ : Sg) (nw : Nat) : Sg := wWorkN (sN σ 4 0 (gN σ 4 0 + 1)) nw
def lbTick2 (σ : Sg) (nw : Nat) : Sg := sTime (lbTick1 σ nw) nw (gN σ 4 0 + 1)
def lbTick (σ : Sg) (nw : Nat) : Sg := cAskN (lbTick2 σ nw) (gN σ 4 0 + 1) (gN (lbTick2 σ nw) 31 55)
section W6
variable {nw : Nat} {σ : Sg}
theorem wRun_done (σ : Sg) (o op : Nat) {f : Nat} (hf : f ≠ 61) (o' : Nat) : gN (wRun σ o op) f o' = gN σ f o' := by
  unfold wRun
  repeat' (first | split | (simp [gs, hf]; done))
theorem wf_run {o op : Nat} (h : Wf nw σ) (hp : gN σ 61 o ≤ 15) : Wf nw (wRun σ o op) := by
  unfold wRun
  repeat' (first | split | exact wf_61 h (by omega) | exact wf_I (wf_61 h (by omega)) | exact wf_I (wf_I (wf_61 h (by omega))) | exact wf_61 (wf_I (wf_61 h (by omega))) (by omega) | exact wf_61 (wf_61 h (by omega)) (by omega))
theorem wf_wDown {o : Nat} (h : Wf nw σ) : Wf nw (wDown σ o) := h
theorem wf_wBegin {o q : Nat} (h : Wf nw σ) : Wf nw (wBegin σ o q) := wf_B (wf_N (by decide) (wf_61 (wf_I (wf_I (wf_kc h))) (by decide)))
theorem wf_wWork {o : Nat} (h : Wf nw σ) : Wf nw (wWork σ o) := by
  unfold wWork
  split
  · split
    · split
      · exact wf_fill (wf_send (wf_B h) (by decide) (by decide))
      · next hne =>
        refine wf_N (by decide) (wf_run h ?_)
        by_cases c : 15 < gN σ 61 o
        · exact absurd (insn_0 c) hne
        · omega
    · exact h
  · exact h
theorem wf_workN (h : Wf nw σ) : ∀ i, Wf nw (wWorkN σ i)
  | 0 => h
  | i + 1 => wf_wWork (wf_workN h i)
end W6
theorem mx_1 : Cond.methodLink "LeasedBuilds$Worker" 77 Lib.Math.max.name ∈ WS := ms (i := 393) (by decide +kernel) rfl
theorem mx_2 : Cond.static Lib.Math.max.name ∈ WS := ms (i := 394) (by decide +kernel) rfl
theorem mx_3 : Cond.initialized "java/lang/Math" ∈ WS := ms (i := 12) (by decide +kernel) rfl
theorem mx_4 : Cond.code Lib.Math.max.name Lib.Math.max.code 2 (some .int) ∈ WS := ms (i := 395) (by decide +kernel) rfl
