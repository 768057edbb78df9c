/-! both sides at once: a delivery -/
section TK
variable {nw b B : Nat} {σ τ ρ μ : Sg}
/-- the message taken out keeps its kind -/
def Nt (σ : Sg) : Prop := (∀ i, i < 24 → gN σ 100 i ≠ gN σ 20 1) ∧ gN σ 20 1 ≠ 3
def Tk (σ τ : Sg) : Prop := Nt σ → Nt τ ∧ gN τ 20 1 = gN σ 20 1 ∧ gN τ 10 (gN σ 20 1) = gN σ 10 (gN σ 20 1)
theorem Tk.rf (σ : Sg) : Tk σ σ := fun h => ⟨h, rfl, rfl⟩
theorem Tk.tr (h : Tk σ τ) (h' : Tk τ ρ) : Tk σ ρ := fun n => by
  obtain ⟨a1, a2, a3⟩ := h n
  obtain ⟨b1, b2, b3⟩ := h' a1
  refine ⟨b1, b2.trans a2, ?_⟩
  rw [a2] at b3
  exact b3.trans a3
theorem tk_of (h1 : ∀ o, gN τ 100 o = gN σ 100 o) (h2 : gN τ 20 1 = gN σ 20 1) (h3 : ∀ o, gN τ 10 o = gN σ 10 o) : Tk σ τ := fun n => ⟨⟨fun i hi => by rw [h1, h2]; exact n.1 i hi, by rw [h2]; exact n.2⟩, h2, h3 _⟩
theorem tk_N (σ : Sg) {f : Nat} (hf : f ≠ 100 ∧ f ≠ 20 ∧ f ≠ 10) (o v : Nat) : Tk σ (sN σ f o v) := tk_of (fun x => congrFun (gN_of σ o v (fun z => hf.1 z.symm)) x) (congrFun (gN_of σ o v (fun z => hf.2.1 z.symm)) 1) (fun x => congrFun (gN_of σ o v (fun z => hf.2.2 z.symm)) x)
theorem nt_ne (h : Nt σ) : gN σ 20 1 ≠ sendTo σ := by
  unfold sendTo
  by_cases c : gN σ 21 1 < 24
  · rw [if_pos c]; exact fun z => h.1 _ c z.symm
  · rw [if_neg c]; exact h.2
theorem tk_fs (f : FS σ τ) : Tk σ τ := fun n => by
  have e100 := f.2.2.1.1
  have e20 := f.2.2.1.2.1
  refine ⟨⟨fun i hi => by rw [e100, e20]; exact n.1 i hi, by rw [e20]; exact n.2⟩, by rw [e20], ?_⟩
  exact congrArg (fun m => m.1) (f.2.2.2.1 _ (nt_ne n))
theorem tk_qApp (σ : Sg) (q : Nat) : Tk σ (qApp σ q) := by
  unfold qApp
  by_cases c : gN σ 39 79 < 10
  · rw [if_pos c]; exact tk_of (fun _ => rfl) rfl (fun _ => rfl)
  · rw [if_neg c]; exact Tk.rf σ
theorem tk_cut (σ : Sg) (nw : Nat) : Tk σ (sCut σ nw) := tk_of (fun _ => rfl) rfl (fun _ => rfl)
theorem tk_dWrite (σ : Sg) (d c : Int32) : Tk σ (dWrite σ d c) := tk_of (fun o => dWrite_N σ d c (by decide) o) (dWrite_N σ d c (by decide) 1) (fun o => dWrite_N σ d c (by decide) o)
theorem tk_dWrRes (σ : Sg) (q : Nat) (d : Int32) : Tk σ (dWrRes σ q d) := tk_of (fun o => dWrRes_N σ q d (by decide) o) (dWrRes_N σ q d (by decide) 1) (fun o => dWrRes_N σ q d (by decide) o)
theorem tk_remI (σ : Sg) (w : Int32) : Tk σ (qRemI σ w) := by
  unfold qRemI
  by_cases c : inR w (gN σ 39 79) = true
  · rw [if_pos c]; exact tk_of (fun _ => rfl) rfl (fun _ => rfl)
  · rw [if_neg c]; exact Tk.rf σ
theorem tk_lEnd (σ : Sg) (nw : Nat) (w : Int32) : Tk σ (lEnd σ nw w) := tk_of (fun o => lEnd_N σ nw w 100 o) (lEnd_N σ nw w 20 1) (fun o => lEnd_N σ nw w 10 o)
theorem tk_sAsk {q : Nat} (hW : Wf nw σ) : Tk σ (sAsk σ nw q) := by
  unfold sAsk
  repeat' split
  · exact tk_qApp σ _
  · exact Tk.rf σ
  · exact Tk.rf σ
  · exact tk_fs (fs_lack σ q)
  · exact tk_fs (fs_lack σ q)
  · exact (tk_N σ (by decide) 63 _).tr (tk_fs (fs_fill (σ := sN σ 48 63 (gN σ 48 63 + 1)) (wf_N (by decide) hW) 6 9 _ _ _))
theorem tk_sPut {q : Nat} {cut : Int32} : Tk σ (sPut σ nw q cut) := by
  unfold sPut
  repeat' split
  · exact Tk.rf σ
  · exact tk_cut σ nw
  · exact (tk_dWrite σ _ _).tr (tk_N _ (by decide) _ _)
theorem tk_resF {q : Nat} {d c : Int32} (hW : Wf nw σ) : Tk σ (sResF σ nw q d c) := (((tk_dWrRes σ _ _).tr (tk_remI _ _)).tr (tk_lEnd _ _ _)).tr (tk_fs (fs_fill (σ := sRes3 σ nw q d) (wf_end (wf_remI (wf_dWrRes hW))) 6 9 _ _ _))
theorem tk_sRes {q : Nat} {cut : Int32} (hW : Wf nw σ) : Tk σ (sRes σ nw q cut) := by
  unfold sRes
  repeat' split
  · exact tk_cut σ nw
  · exact tk_resF hW
  · exact tk_cut σ nw
  · exact (tk_dWrite σ _ _).tr (tk_cut _ nw)
  · exact (tk_dWrite σ _ _).tr (tk_resF (wf_dWrite hW))
  · exact tk_N σ (by decide) _ _
theorem tk_ask {i t : Nat} (hW : Wf nw σ) : Tk σ (cAsk σ i t) := (tk_fs (fs_ask hW i)).tr (tk_N _ (by decide) _ _)
theorem tk_cLack {q t : Nat} (hW : Wf nw σ) : Tk σ (cLack σ q t) := by
  have l1 : Tk σ (cLk1 σ q) := by
    unfold cLk1
    split
    · exact tk_fs (fs_put σ _)
    · exact Tk.rf σ
  have l2 : Tk σ (cLk2 σ q) := by
    unfold cLk2
    split
    · exact l1.tr (tk_fs (fs_put _ _))
    · exact l1
  unfold cLack
  repeat' split
  · exact Tk.rf σ
  · exact l2.tr (tk_ask (wf_lk2 hW))
  · exact Tk.rf σ
theorem tk_hand {q : Nat} {cut : Int32} (hW : Wf nw σ) : Tk σ (lbHand σ nw q cut) := by
  unfold lbHand
  repeat' split
  · exact tk_sAsk hW
  · exact tk_cLack hW
  · exact tk_sPut
  · exact tk_of (fun _ => rfl) rfl (fun _ => rfl)
  · exact Tk.rf σ
  · exact tk_sRes hW
  · exact tk_of (fun o => ansN_N σ q _ 100 o) (ansN_N σ q _ 20 1) (fun o => ansN_N σ q _ 10 o)
  · exact Tk.rf σ
theorem tk_del {q : Nat} {cut : Int32} (hW : Wf nw σ) : Tk σ (lbDel σ nw q cut) := by
  unfold lbDel
  repeat' split
  · exact tk_hand hW
  · exact tk_N σ (by decide) _ _
  · exact Tk.rf σ
end TK
