/-! orders by number, counts and finite maps: for the two states side by side -/
def up1 {α : Type} (f : Nat → α) (a : Nat) (v : α) : Nat → α := fun x => if x = a then v else f x
def shf {α : Type} (f : Nat → α) (k : Nat) : Nat → α := fun i => if i < k then f i else f (i + 1)
theorem up1_s {α : Type} (f : Nat → α) (a : Nat) (v : α) : up1 f a v a = v := if_pos rfl
theorem up1_n {α : Type} (f : Nat → α) {a x : Nat} (v : α) (h : x ≠ a) : up1 f a v x = f x := if_neg h
theorem gN_up (σ : Sg) (f o v : Nat) : gN (sN σ f o v) f = up1 (gN σ f) o v := by
  funext y
  show (if f = f ∧ y = o then v else gN σ f y) = if y = o then v else gN σ f y
  simp
theorem gI_up (σ : Sg) (f o : Nat) (v : Int32) : gI (sI σ f o v) f = up1 (gI σ f) o v := by
  funext y
  show (if f = f ∧ y = o then v else gI σ f y) = if y = o then v else gI σ f y
  simp
theorem gB_up (σ : Sg) (f o : Nat) (v : Bool) : gB (sB σ f o v) f = up1 (gB σ f) o v := by
  funext y
  show (if f = f ∧ y = o then v else gB σ f y) = if y = o then v else gB σ f y
  simp
theorem gJ_up (σ : Sg) (f o : Nat) (v : Int64) : gJ (sJ σ f o v) f = up1 (gJ σ f) o v := by
  funext y
  show (if f = f ∧ y = o then v else gJ σ f y) = if y = o then v else gJ σ f y
  simp
theorem gN_of (σ : Sg) {f g : Nat} (o v : Nat) (h : g ≠ f) : gN (sN σ f o v) g = gN σ g := by
  funext y
  exact if_neg (fun z => h z.1)
theorem gI_of (σ : Sg) {f g : Nat} (o : Nat) (v : Int32) (h : g ≠ f) : gI (sI σ f o v) g = gI σ g := by
  funext y
  exact if_neg (fun z => h z.1)
theorem gB_of (σ : Sg) {f g : Nat} (o : Nat) (v : Bool) (h : g ≠ f) : gB (sB σ f o v) g = gB σ g := by
  funext y
  exact if_neg (fun z => h z.1)
/-- counting by a numbering -/
theorem cnt_filter (P : Nat → Bool) (n : Nat) : cnt P n = ((List.range n).filter P).length := by
  induction n with
  | zero => rfl
  | succ n ih =>
    rw [List.range_succ, List.filter_append, List.length_append, ← ih]
    show cnt P n + (if P n = true then 1 else 0) = _
    by_cases c : P n = true
    · rw [if_pos c, List.filter_cons_of_pos c]; rfl
    · rw [if_neg c, List.filter_cons_of_neg c]; rfl
theorem cnt_bij {P : Nat → Bool} {n m : Nat} {f : Nat → Nat} (h1 : ∀ i, i < m → f i < n ∧ P (f i) = true) (h2 : ∀ i j, i < m → j < m → f i = f j → i = j) (h3 : ∀ s, s < n → P s = true → ∃ i, i < m ∧ f i = s) : cnt P n = m := by
  rw [cnt_filter]
  have nd1 : ((List.range m).map f).Nodup := by
    rw [List.nodup_iff_pairwise_ne, List.pairwise_map]
    refine List.Pairwise.imp_of_mem (fun {a b} ha hb hab e => ?_) (List.nodup_range (n := m))
    exact hab (h2 a b (List.mem_range.mp ha) (List.mem_range.mp hb) e)
  have nd2 : ((List.range n).filter P).Nodup := List.Nodup.sublist List.filter_sublist List.nodup_range
  have p := (List.perm_ext_iff_of_nodup nd1 nd2).mpr (fun a => by
    rw [List.mem_map, List.mem_filter, List.mem_range]
    constructor
    · rintro ⟨i, hi, rfl⟩
      exact h1 i (List.mem_range.mp hi)
    · rintro ⟨ha, hp⟩
      obtain ⟨i, hi, e⟩ := h3 a ha hp
      exact ⟨i, List.mem_range.mpr hi, e⟩)
  rw [← p.length_eq, List.length_map, List.length_range]
/-- f lists the places whose number is above 0, in the order of their numbers -/
def Ord (n : Nat) (f num : Nat → Nat) : Prop := (∀ i, i < n → 0 < num (f i)) ∧ (∀ i j, i < j → j < n → num (f i) < num (f j)) ∧ (∀ s, 0 < num s → ∃ i, i < n ∧ f i = s)
section ORD
variable {n b k s N : Nat} {f num : Nat → Nat}
theorem Ord.inj (h : Ord n f num) {i j : Nat} (hi : i < n) (hj : j < n) (e : f i = f j) : i = j := by
  rcases Nat.lt_trichotomy i j with c | c | c
  · have := h.2.1 i j c hj; rw [e] at this; omega
  · exact c
  · have := h.2.1 j i c hi; rw [e] at this; omega
theorem Ord.add (h : Ord n f num) (hs : num s = 0) (hb : ∀ x, num x ≤ b) : Ord (n + 1) (up1 f n s) (up1 num s (b + 1)) := by
  have ne : ∀ i, i < n → f i ≠ s := fun i hi e => by have := h.1 i hi; rw [e] at this; omega
  refine ⟨fun i hi => ?_, fun i j hij hj => ?_, fun x hx => ?_⟩
  · by_cases c : i = n
    · rw [c, up1_s, up1_s]; omega
    · rw [up1_n _ _ c, up1_n _ _ (ne i (by omega))]; exact h.1 i (by omega)
  · by_cases c : j = n
    · rw [c, up1_s, up1_s, up1_n f s (show i ≠ n by omega), up1_n _ _ (ne i (by omega))]; have := hb (f i); omega
    · rw [up1_n _ _ c, up1_n f s (show i ≠ n by omega), up1_n _ _ (ne i (by omega)), up1_n _ _ (ne j (by omega))]; exact h.2.1 i j hij (by omega)
  · by_cases c : x = s
    · exact ⟨n, by omega, by rw [up1_s, c]⟩
    · rw [up1_n _ _ c] at hx
      obtain ⟨i, hi, e⟩ := h.2.2 x hx
      exact ⟨i, by omega, by rw [up1_n _ _ (by omega)]; exact e⟩
theorem Ord.del (h : Ord n f num) (hk : k < n) : Ord (n - 1) (shf f k) (up1 num (f k) 0) := by
  have sh : ∀ i, shf f k i = f (if i < k then i else i + 1) := fun i => by unfold shf; split <;> rfl
  have ix : ∀ i, i < n - 1 → (if i < k then i else i + 1) < n ∧ (if i < k then i else i + 1) ≠ k := fun i hi => by split <;> omega
  have ne : ∀ i, i < n - 1 → shf f k i ≠ f k := fun i hi e => by
    rw [sh] at e
    exact (ix i hi).2 (h.inj (ix i hi).1 hk e)
  refine ⟨fun i hi => ?_, fun i j hij hj => ?_, fun x hx => ?_⟩
  · rw [up1_n _ _ (ne i hi), sh]; exact h.1 _ (ix i hi).1
  · rw [up1_n _ _ (ne i (by omega)), up1_n _ _ (ne j hj), sh, sh]
    exact h.2.1 _ _ (by split <;> split <;> omega) (ix j hj).1
  · by_cases c : x = f k
    · rw [c, up1_s] at hx; omega
    · rw [up1_n _ _ c] at hx
      obtain ⟨i, hi, e⟩ := h.2.2 x hx
      have hik : i ≠ k := fun q => c (by rw [← e, q])
      refine ⟨if i < k then i else i - 1, by split <;> omega, ?_⟩
      rw [sh, ← e]
      congr 1
      by_cases q : i < k
      · rw [if_pos q, if_pos q]
      · rw [if_neg q, if_neg (by omega)]; omega
theorem Ord.older (h : Ord n f num) (hN : ∀ i, i < n → f i < N) {i : Nat} (hi : i < n) : cnt (fun q => decide (0 < num q) && decide (num q < num (f i))) N = i := by
  refine cnt_bij (f := f) (fun j hj => ⟨hN j (by omega), ?_⟩) (fun a c ha hc e => h.inj (by omega) (by omega) e) (fun q hq hp => ?_)
  · simp only [Bool.and_eq_true, decide_eq_true_eq]
    exact ⟨h.1 j (by omega), h.2.1 j i hj hi⟩
  · simp only [Bool.and_eq_true, decide_eq_true_eq] at hp
    obtain ⟨j, hj, e⟩ := h.2.2 q hp.1
    refine ⟨j, ?_, e⟩
    rcases Nat.lt_trichotomy j i with c | c | c
    · exact c
    · rw [← e, c] at hp; omega
    · have := h.2.1 i j c hj; rw [e] at this; omega
theorem Ord.size (h : Ord n f num) (hN : ∀ i, i < n → f i < N) : cnt (fun q => decide (0 < num q)) N = n :=
  cnt_bij (f := f) (fun j hj => ⟨hN j hj, decide_eq_true (h.1 j hj)⟩) (fun a c ha hc e => h.inj ha hc e) (fun q _ hp => h.2.2 q (of_decide_eq_true hp))
theorem Ord.le (h : Ord n f num) (hN : ∀ i, i < n → f i < N) : n ≤ N := php N n f hN (fun i j hi hj e => h.inj hi hj e)
theorem Ord.room (h : Ord n f num) (hn : n < N) : ∃ s, s < N ∧ num s = 0 := by
  refine Classical.byContradiction fun c => ?_
  have all : ∀ s, s < N → 0 < num s := fun s hs => Nat.pos_of_ne_zero (fun z => c ⟨s, hs, z⟩)
  have hc : ∀ s, ∃ i, s < N → i < n ∧ f i = s := fun s => by
    by_cases q : s < N
    · obtain ⟨i, hi⟩ := h.2.2 s (all s q); exact ⟨i, fun _ => hi⟩
    · exact ⟨0, fun z => absurd z q⟩
  have g := fun s => Classical.choose_spec (hc s)
  have := php n N (fun s => Classical.choose (hc s)) (fun s hs => (g s hs).1) (fun a a' ha ha' e => by
    rw [← (g a ha).2, ← (g a' ha').2]
    exact congrArg f e)
  omega
theorem Ord.full (h : Ord n f num) (hN : ∀ i, i < n → f i < N) (hn : N ≤ n) : ∀ s, s < N → 0 < num s := fun s hs => by
  refine Nat.pos_of_ne_zero fun z => ?_
  have ne : ∀ i, i < n → f i ≠ s := fun i hi e => by have := h.1 i hi; rw [e] at this; omega
  have := php N (n + 1) (up1 f n s) (fun i hi => ?_) (fun i j hi hj e => ?_)
  · omega
  · by_cases c : i = n
    · rw [c, up1_s]; exact hs
    · rw [up1_n _ _ c]; exact hN i (by omega)
  · by_cases c : i = n <;> by_cases d : j = n
    · omega
    · rw [c, up1_s, up1_n _ _ d] at e; exact absurd e.symm (ne j (by omega))
    · rw [d, up1_s, up1_n _ _ c] at e; exact absurd e (ne i (by omega))
    · rw [up1_n _ _ c, up1_n _ _ d] at e; exact h.inj (by omega) (by omega) e
theorem Ord.zero (h : Ord 0 f num) (s : Nat) : num s = 0 := Nat.eq_zero_of_not_pos fun c => by
  obtain ⟨i, hi, _⟩ := h.2.2 s c
  omega
theorem Ord.empty (h : ∀ s, num s = 0) : Ord 0 f num := ⟨fun i hi => absurd hi (by omega), fun i j _ hj => absurd hj (by omega), fun s hs => by rw [h s] at hs; omega⟩
end ORD
