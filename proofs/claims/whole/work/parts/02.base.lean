/-! states by field and place, pictures of them, and rows over pictures: shared by the class's world and the reference's -/
def bI (b : Bool) : Int32 := if b = true then 1 else 0
def up2 {α : Type} (f : Nat → Nat → α) (a b : Nat) (v : α) : Nat → Nat → α := fun x y => if x = a ∧ y = b then v else f x y
abbrev Sg : Type := (Nat → Nat → Int32) × (Nat → Nat → Int64) × (Nat → Nat → Nat) × (Nat → Nat → Bool)
def gI (σ : Sg) : Nat → Nat → Int32 := σ.1
def gJ (σ : Sg) : Nat → Nat → Int64 := σ.2.1
def gN (σ : Sg) : Nat → Nat → Nat := σ.2.2.1
def gB (σ : Sg) : Nat → Nat → Bool := σ.2.2.2
def sI (σ : Sg) (f o : Nat) (v : Int32) : Sg := (up2 σ.1 f o v, σ.2.1, σ.2.2.1, σ.2.2.2)
def sJ (σ : Sg) (f o : Nat) (v : Int64) : Sg := (σ.1, up2 σ.2.1 f o v, σ.2.2.1, σ.2.2.2)
def sN (σ : Sg) (f o : Nat) (v : Nat) : Sg := (σ.1, σ.2.1, up2 σ.2.2.1 f o v, σ.2.2.2)
def sB (σ : Sg) (f o : Nat) (v : Bool) : Sg := (σ.1, σ.2.1, σ.2.2.1, up2 σ.2.2.2 f o v)
/-- reads over writes -/
theorem gs : ((∀ σ f o v x y, gI (sI σ f o v) x y = if x = f ∧ y = o then v else gI σ x y) ∧ (∀ σ f o v x y, gJ (sJ σ f o v) x y = if x = f ∧ y = o then v else gJ σ x y) ∧ (∀ σ f o v x y, gN (sN σ f o v) x y = if x = f ∧ y = o then v else gN σ x y) ∧ (∀ σ f o v x y, gB (sB σ f o v) x y = if x = f ∧ y = o then v else gB σ x y)) ∧
    ((∀ σ f o v, gI (sJ σ f o v) = gI σ) ∧ (∀ σ f o v, gI (sN σ f o v) = gI σ) ∧ (∀ σ f o v, gI (sB σ f o v) = gI σ)) ∧ ((∀ σ f o v, gJ (sI σ f o v) = gJ σ) ∧ (∀ σ f o v, gJ (sN σ f o v) = gJ σ) ∧ (∀ σ f o v, gJ (sB σ f o v) = gJ σ)) ∧
    ((∀ σ f o v, gN (sI σ f o v) = gN σ) ∧ (∀ σ f o v, gN (sJ σ f o v) = gN σ) ∧ (∀ σ f o v, gN (sB σ f o v) = gN σ)) ∧ ((∀ σ f o v, gB (sI σ f o v) = gB σ) ∧ (∀ σ f o v, gB (sJ σ f o v) = gB σ) ∧ (∀ σ f o v, gB (sN σ f o v) = gB σ)) := by
  refine ⟨⟨?_, ?_, ?_, ?_⟩, ⟨?_, ?_, ?_⟩, ⟨?_, ?_, ?_⟩, ⟨?_, ?_, ?_⟩, ?_, ?_, ?_⟩ <;> intros <;> rfl
/-- a state is its four tables -/
theorem sg_ext {σ τ : Sg} (h1 : ∀ x y, gI σ x y = gI τ x y) (h2 : ∀ x y, gJ σ x y = gJ τ x y) (h3 : ∀ x y, gN σ x y = gN τ x y) (h4 : ∀ x y, gB σ x y = gB τ x y) : σ = τ := by
  obtain ⟨a, b, c, d⟩ := σ
  obtain ⟨a', b', c', d'⟩ := τ
  have e1 : a = a' := funext fun x => funext fun y => h1 x y
  have e2 : b = b' := funext fun x => funext fun y => h2 x y
  have e3 : c = c' := funext fun x => funext fun y => h3 x y
  have e4 : d = d' := funext fun x => funext fun y => h4 x y
  rw [e1, e2, e3, e4]
/-- the same but at one place -/
def Off (σ σ' : Sg) (f o : Nat) : Prop := ∀ x y, ¬ (x = f ∧ y = o) → gI σ' x y = gI σ x y ∧ gJ σ' x y = gJ σ x y ∧ gN σ' x y = gN σ x y ∧ gB σ' x y = gB σ x y
theorem off_I {σ : Sg} {f o : Nat} {v : Int32} : Off σ (sI σ f o v) f o := fun _ _ h => ⟨if_neg h, rfl, rfl, rfl⟩
theorem off_J {σ : Sg} {f o : Nat} {v : Int64} : Off σ (sJ σ f o v) f o := fun _ _ h => ⟨rfl, if_neg h, rfl, rfl⟩
theorem off_N {σ : Sg} {f o : Nat} {v : Nat} : Off σ (sN σ f o v) f o := fun _ _ h => ⟨rfl, rfl, if_neg h, rfl⟩
theorem off_B {σ : Sg} {f o : Nat} {v : Bool} : Off σ (sB σ f o v) f o := fun _ _ h => ⟨rfl, rfl, rfl, if_neg h⟩
/-- kinds of objects; a class's fields (how shown, field); an array's (how shown, length, type); references that never change -/
abbrev Sc : Type := (Nat → Nat) × (Nat → List (Nat × Nat)) × (Nat → Nat × Nat × Nat) × (Nat → Nat → Nat)
def vl (S : Sc) (ad : Nat → Nat) (σ : Sg) (o : Nat) (t : Nat × Nat) : Value := match t.1 with
  | 0 => .int (nI (gN σ t.2 o))
  | 1 => .int (gI σ t.2 o)
  | 2 => .int (bI (gB σ t.2 o))
  | 3 => .long (gJ σ t.2 o)
  | 4 => .ref (ad (gN σ t.2 o))
  | _ => .ref (ad (S.2.2.2 t.2 o))
def av (S : Sc) (ad : Nat → Nat) (σ : Sg) (κ : Nat) (t : Nat) : (Nat → Int32) ⊕ (Nat → Int64) ⊕ (Nat → UInt32) ⊕ (Nat → UInt64) ⊕ (Nat → Option Nat) := match t with
  | 0 => .inl (fun j => nI (gN σ κ j))
  | 1 => .inl (fun j => gI σ κ j)
  | 2 => .inl (fun j => bI (gB σ κ j))
  | 3 => .inr (.inl (fun j => gJ σ κ j))
  | 4 => .inr (.inr (.inr (.inr (fun j => some (ad (gN σ κ j))))))
  | _ => .inr (.inr (.inr (.inr (fun j => some (ad (S.2.2.2 κ j))))))
def pcx (S : Sc) (ad : Nat → Nat) (dA : Nat → ClassId) (σ : Sg) (o : Nat) : va_E :=
  if S.1 o < 100 then .inr (S.1 o, (S.2.1 (S.1 o)).map (vl S ad σ o))
  else .inl (dA (S.2.2.1 (S.1 o)).2.2, ((S.2.2.1 (S.1 o)).2.1, av S ad σ (S.1 o) (S.2.2.1 (S.1 o)).1))
def wd (S : Sc) (ad : Nat → Nat) (dA : Nat → ClassId) (ob : List Nat) (σ : Sg) : va_W := ob.map (fun o => (ad o, pcx S ad dA σ o))
def Swf (S : Sc) (ob : List Nat) : Prop := (∀ (κ : Nat) (t : Nat × Nat), t ∈ S.2.1 κ → t.2 < 100) ∧ (∀ (κ i j : Nat) (t u : Nat × Nat), (S.2.1 κ)[i]? = some t → (S.2.1 κ)[j]? = some u → t.2 = u.2 → i = j) ∧ (∀ o o', o ∈ ob → o' ∈ ob → 100 ≤ S.1 o → S.1 o = S.1 o' → o = o')
def Inj (ad : Nat → Nat) (ob : List Nat) : Prop := (∀ (i j o : Nat), ob[i]? = some o → ob[j]? = some o → i = j) ∧ ∀ o o', o ∈ ob → o' ∈ ob → ad o = ad o' → o = o'
def Ad (ad : Nat → Nat) (ob : List Nat) : Nat → Prop := fun q => ∃ o, o ∈ ob ∧ q = ad o
section PX
variable {S : Sc} {ad : Nat → Nat} {dA : Nat → ClassId} {ob : List Nat} {σ σ' : Sg} {o f q κ k t n y : Nat}
theorem pcx_obj (h : S.1 o = κ) (hκ : κ < 100) : pcx S ad dA σ o = .inr (κ, (S.2.1 κ).map (vl S ad σ o)) := by
  subst h
  exact if_pos hκ
theorem pcx_arr (h : S.1 o = κ) (hκ : 100 ≤ κ) (ha : S.2.2.1 κ = (t, n, y)) : pcx S ad dA σ o = .inl (dA y, (n, av S ad σ κ t)) := by
  subst h
  unfold pcx
  rw [if_neg (by omega), ha]
theorem vl_off {u : Nat × Nat} (hO : Off σ σ' f q) (h : ¬ (u.2 = f ∧ o = q)) : vl S ad σ' o u = vl S ad σ o u := by
  obtain ⟨h1, h2, h3, h4⟩ := hO u.2 o h
  unfold vl
  split <;> first | rw [h1] | rw [h2] | rw [h3] | rw [h4] | rfl
theorem av_off (hO : Off σ σ' f q) (h : κ ≠ f) : av S ad σ' κ t = av S ad σ κ t := by
  have e1 : gI σ' κ = gI σ κ := funext fun j => (hO κ j (fun z => h z.1)).1
  have e2 : gJ σ' κ = gJ σ κ := funext fun j => (hO κ j (fun z => h z.1)).2.1
  have e3 : gN σ' κ = gN σ κ := funext fun j => (hO κ j (fun z => h z.1)).2.2.1
  have e4 : gB σ' κ = gB σ κ := funext fun j => (hO κ j (fun z => h z.1)).2.2.2
  unfold av
  simp only [e1, e2, e3, e4]
theorem pcx_off (hO : Off σ σ' f q) (hf : f < 100) (h : o ≠ q) : pcx S ad dA σ' o = pcx S ad dA σ o := by
  have e : (S.2.1 (S.1 o)).map (vl S ad σ' o) = (S.2.1 (S.1 o)).map (vl S ad σ o) := List.map_congr_left (fun u _ => vl_off hO (fun z => h z.2))
  by_cases hk : S.1 o < 100
  · rw [pcx_obj rfl hk, pcx_obj rfl hk, e]
  · unfold pcx
    rw [if_neg hk, if_neg hk, av_off hO (by omega)]
theorem pcx_offA (hw : Swf S ob) (hO : Off σ σ' κ k) (hκ : S.1 q = κ) (h1 : 100 ≤ κ) (hq : q ∈ ob) (ho : o ∈ ob) (h : o ≠ q) : pcx S ad dA σ' o = pcx S ad dA σ o := by
  by_cases hk : S.1 o < 100
  · have e : (S.2.1 (S.1 o)).map (vl S ad σ' o) = (S.2.1 (S.1 o)).map (vl S ad σ o) := List.map_congr_left (fun u hu => vl_off hO (fun z => by have := hw.1 _ u hu; omega))
    rw [pcx_obj rfl hk, pcx_obj rfl hk, e]
  · unfold pcx
    rw [if_neg hk, if_neg hk, av_off hO (fun z => h (hw.2.2 o q ho hq (by omega) (z.trans hκ.symm)))]
theorem pcx_set (hw : Swf S ob) (hO : Off σ σ' f o) (hκ : S.1 o = κ) (h1 : κ < 100) (hf : (S.2.1 κ)[k]? = some (t, f)) : pcx S ad dA σ' o = .inr (κ, ((S.2.1 κ).map (vl S ad σ o)).set k (vl S ad σ' o (t, f))) := by
  rw [pcx_obj hκ h1]
  have hlt : k < (S.2.1 κ).length := (List.getElem?_eq_some_iff.mp hf).1
  have e : (S.2.1 κ).map (vl S ad σ' o) = ((S.2.1 κ).map (vl S ad σ o)).set k (vl S ad σ' o (t, f)) := by
    apply List.ext_getElem?
    intro i
    by_cases hi : i = k
    · subst hi
      rw [List.getElem?_set_self (by rw [List.length_map]; exact hlt), List.getElem?_map, hf]
      rfl
    · rw [List.getElem?_set_ne (Ne.symm hi), List.getElem?_map, List.getElem?_map]
      cases hu : (S.2.1 κ)[i]? with
      | none => rfl
      | some u =>
        show some _ = some _
        rw [vl_off hO (fun z => hi (hw.2.1 κ i k u (t, f) hu hf z.1))]
  rw [e]
theorem wd_at (ho : o ∈ ob) : ∃ q : Nat, (wd S ad dA ob σ)[q]? = some (ad o, pcx S ad dA σ o) := List.getElem?_of_mem (List.mem_map.mpr ⟨o, ho, rfl⟩)
theorem wd_D {A : Nat → Prop} (hJ : Inj ad ob) (hA : ∀ o, o ∈ ob → A (ad o)) : va_D A (wd S ad dA ob σ) := by
  refine ⟨fun i j x z hi hj h => ?_, fun i x hi => ?_⟩
  · rw [wd, List.getElem?_map] at hi hj
    obtain ⟨o, ho, rfl⟩ := Option.map_eq_some_iff.mp hi
    obtain ⟨o', ho', rfl⟩ := Option.map_eq_some_iff.mp hj
    have e := hJ.2 o o' (List.mem_of_getElem? ho) (List.mem_of_getElem? ho') h
    subst e
    exact hJ.1 i j o ho ho'
  · rw [wd, List.getElem?_map] at hi
    obtain ⟨o, ho, rfl⟩ := Option.map_eq_some_iff.mp hi
    exact hA o (List.mem_of_getElem? ho)
theorem wd_set {e : va_E} (hJ : Inj ad ob) (ho : o ∈ ob) (hq : (wd S ad dA ob σ)[q]? = some (ad o, e)) (hoth : ∀ o', o' ∈ ob → o' ≠ o → pcx S ad dA σ' o' = pcx S ad dA σ o') : (wd S ad dA ob σ).set q (ad o, pcx S ad dA σ' o) = wd S ad dA ob σ' := by
  have hlt : q < (wd S ad dA ob σ).length := (List.getElem?_eq_some_iff.mp hq).1
  rw [wd, List.getElem?_map] at hq
  obtain ⟨o1, h1, h2⟩ := Option.map_eq_some_iff.mp hq
  have e1 : o1 = o := hJ.2 o1 o (List.mem_of_getElem? h1) ho (congrArg Prod.fst h2)
  subst e1
  apply List.ext_getElem?
  intro i
  by_cases hi : i = q
  · subst hi
    rw [List.getElem?_set_self hlt, wd, List.getElem?_map, h1]
    rfl
  · rw [List.getElem?_set_ne (Ne.symm hi), wd, wd, List.getElem?_map, List.getElem?_map]
    cases hu : ob[i]? with
    | none => rfl
    | some u =>
      show some (ad u, pcx S ad dA σ u) = some (ad u, pcx S ad dA σ' u)
      rw [hoth u (List.mem_of_getElem? hu) (fun z => hi (hJ.1 i q o1 (by rw [hu, z]) h1))]
end PX
section XR
variable {p : Program} {l : Launch} {e : Env} {R : Room} {s : State} {m : MethodId} {args : Array Value} {below : List Frame} {meth : Method} {c : Code} {H : Heap} {locs : List Loc} {cells slots : Nat} {Q : State → Prop}
variable {cc : ByteArray} {pc : Nat} {ls : Array Slot} {rest : List Value} {D : va_G} {cl : List vw_C} {tys : List (ClassId × FieldType)} {H0 : Heap} {S : Sc} {ad : Nat → Nat} {dA : Nat → ClassId} {ob : List Nat} {σ : Sg} {WS : List Cond}
/-- what a class needs for its fields to be read and written: its place, its words -/
def Xc (WS : List Cond) (cl : List vw_C) (κ : Nat) (C : String) (T : u_T) (N : Nat) : Prop := (∀ w ∈ u_ws C T N, w ∈ WS) ∧ cl[κ]? = some (C, T, N) ∧ κ < 100
theorem x_get (hx : p.tables.exec = Jvm.exec) (hb : c.code = cc) {own C : String} {T : u_T} {N κ k o index : Nat} {tf : Nat × Nat} {v : Value} (ht : ∀ w ∈ WS, w.before args s = true) (hC : Xc WS cl κ C T N) (hown : s.vm.findClass own = some m.cls) (hK : va_K D cl tys s) (hP : va_P D cl (wd S ad dA ob σ) H) (ho : o ∈ ob) (hκ : S.1 o = κ) (hk : k < N) (hl : Cond.fieldLink own index C (T k).2.1 (T k).2.2.1 ∈ WS) (hd : (T k).1 = C) (hf : (S.2.1 κ)[k]? = some tf) (hv : vl S ad σ o tf = v) (hdg : decode cc pc = .ok (.getfield index, 3))
    (kk : W p l e R s m args below meth c H locs cells slots Q (F0 m (pc + 3) ls (v :: rest))) : W p l e R s m args below meth c H locs cells slots Q (F0 m pc ls (.ref (ad o) :: rest)) := by
  obtain ⟨q, hq⟩ := wd_at (S := S) (ad := ad) (dA := dA) (σ := σ) ho
  rw [pcx_obj hκ hC.2.2] at hq
  refine va_get (ref := C) hx hb ht hC.1 hown hK hP q hq hC.2.1 k hk (ht _ hl) (fun x h => by rw [hd] at h; exact h) (v := v) ?_ hdg kk
  rw [List.getElem?_map, hf]
  exact congrArg some hv
theorem x_put (hx : p.tables.exec = Jvm.exec) (hb : c.code = cc) {own C : String} {T : u_T} {N κ k o f t index : Nat} {v : Value} {σ' : Sg} (ht : ∀ w ∈ WS, w.before args s = true) (hC : Xc WS cl κ C T N) (ty0 : Nat → FieldType) (hty : ∀ k, k < N → parseFieldDescriptor (T k).2.2.1 = some (ty0 k)) (hnm : ∀ a, a < N → ∀ b, b < N → a ≠ b → (T a).2.1 ≠ (T b).2.1) (hown : s.vm.findClass own = some m.cls) (hK : va_K D cl tys s) (hP : va_P D cl (wd S ad dA ob σ) H) (hJ : Inj ad ob) (hw : Swf S ob) (hS : va_S (Ad ad ob) H0 H locs) (ho : o ∈ ob) (hκ : S.1 o = κ) (hk : k < N) (hl : Cond.fieldLink own index C (T k).2.1 (T k).2.2.1 ∈ WS) (hd : (T k).1 = C) (hfin : (T k).2.2.2 = false) (hf : (S.2.1 κ)[k]? = some (t, f)) (hO : Off σ σ' f o) (hv : vl S ad σ' o (t, f) = v) (hn : narrow (ty0 k) v = v) (hfit : fits (ty0 k) v = true) (hdg : decode cc pc = .ok (.putfield index, 3))
    (kk : ∀ (H1 : Heap) (locs1 : List Loc), va_P D cl (wd S ad dA ob σ') H1 → va_S (Ad ad ob) H0 H1 locs1 → W p l e R s m args below meth c H1 locs1 cells slots Q (F0 m (pc + 3) ls rest)) : W p l e R s m args below meth c H locs cells slots Q (F0 m pc ls (v :: .ref (ad o) :: rest)) := by
  obtain ⟨q, hq⟩ := wd_at (S := S) (ad := ad) (dA := dA) (σ := σ) ho
  rw [pcx_obj hκ hC.2.2] at hq
  have hlt : k < (S.2.1 κ).length := (List.getElem?_eq_some_iff.mp hf).1
  have hff : f < 100 := hw.1 κ (t, f) (List.mem_of_getElem? hf)
  refine va_put (ref := C) (A := Ad ad ob) hx hb ht hC.1 ty0 hty hnm hown hK hP (wd_D hJ (fun o h => ⟨o, h, rfl⟩)) hS q hq hC.2.1 k hk (ht _ hl) (fun x h => by rw [hd] at h; exact h) hfin (hty k hk) hn hfit (by rw [List.length_map]; exact hlt) hdg (fun H1 locs1 h1 _ h3 => kk H1 locs1 ?_ h3)
  have e1 := pcx_set (ad := ad) (dA := dA) hw hO hκ hC.2.2 hf
  rw [hv] at e1
  rw [← e1, wd_set hJ ho hq (fun o' _ h => pcx_off hO hff h)] at h1
  exact h1
theorem x_iald (hx : p.tables.exec = Jvm.exec) (hb : c.code = cc) {κ o j n y : Nat} (hK : va_K D cl tys s) (hP : va_P D cl (wd S ad dA ob σ) H) (ho : o ∈ ob) (hκ : S.1 o = κ) (h1 : 100 ≤ κ) (ha : S.2.2.1 κ = (1, n, y)) (hy : tys[y]? = some (dA y, .int)) (hj : j < n) (hn : n < 2 ^ 31) (hdg : decode cc pc = .ok (.iaload, 1))
    (kk : W p l e R s m args below meth c H locs cells slots Q (F0 m (pc + 1) ls (.int (gI σ κ j) :: rest))) : W p l e R s m args below meth c H locs cells slots Q (F0 m pc ls (.int (nI j) :: .ref (ad o) :: rest)) := by
  obtain ⟨q, hq⟩ := wd_at (S := S) (ad := ad) (dA := dA) (σ := σ) ho
  rw [pcx_arr hκ h1 ha] at hq
  refine va_iald (f := fun j => gI σ κ j) hx hb hK hP q y hq hy (vp_in_nI hj hn) hdg ?_
  rw [nI_clamp (by omega)]
  exact kk
theorem x_nald (hx : p.tables.exec = Jvm.exec) (hb : c.code = cc) {κ o j n y : Nat} (hK : va_K D cl tys s) (hP : va_P D cl (wd S ad dA ob σ) H) (ho : o ∈ ob) (hκ : S.1 o = κ) (h1 : 100 ≤ κ) (ha : S.2.2.1 κ = (0, n, y)) (hy : tys[y]? = some (dA y, .int)) (hj : j < n) (hn : n < 2 ^ 31) (hdg : decode cc pc = .ok (.iaload, 1))
    (kk : W p l e R s m args below meth c H locs cells slots Q (F0 m (pc + 1) ls (.int (nI (gN σ κ j)) :: rest))) : W p l e R s m args below meth c H locs cells slots Q (F0 m pc ls (.int (nI j) :: .ref (ad o) :: rest)) := by
  obtain ⟨q, hq⟩ := wd_at (S := S) (ad := ad) (dA := dA) (σ := σ) ho
  rw [pcx_arr hκ h1 ha] at hq
  refine va_iald (f := fun j => nI (gN σ κ j)) hx hb hK hP q y hq hy (vp_in_nI hj hn) hdg ?_
  rw [nI_clamp (by omega)]
  exact kk
theorem x_zald (hx : p.tables.exec = Jvm.exec) (hb : c.code = cc) {κ o j n y : Nat} (hK : va_K D cl tys s) (hP : va_P D cl (wd S ad dA ob σ) H) (ho : o ∈ ob) (hκ : S.1 o = κ) (h1 : 100 ≤ κ) (ha : S.2.2.1 κ = (2, n, y)) (hy : tys[y]? = some (dA y, .boolean)) (hj : j < n) (hn : n < 2 ^ 31) (hdg : decode cc pc = .ok (.baload, 1))
    (kk : W p l e R s m args below meth c H locs cells slots Q (F0 m (pc + 1) ls (.int (bI (gB σ κ j)) :: rest))) : W p l e R s m args below meth c H locs cells slots Q (F0 m pc ls (.int (nI j) :: .ref (ad o) :: rest)) := by
  obtain ⟨q, hq⟩ := wd_at (S := S) (ad := ad) (dA := dA) (σ := σ) ho
  rw [pcx_arr hκ h1 ha] at hq
  refine va_zald (f := fun j => bI (gB σ κ j)) hx hb hK hP q y hq hy (vp_in_nI hj hn) hdg ?_
  rw [nI_clamp (by omega)]
  exact kk
theorem x_lald (hx : p.tables.exec = Jvm.exec) (hb : c.code = cc) {κ o j n y : Nat} (hK : va_K D cl tys s) (hP : va_P D cl (wd S ad dA ob σ) H) (ho : o ∈ ob) (hκ : S.1 o = κ) (h1 : 100 ≤ κ) (ha : S.2.2.1 κ = (3, n, y)) (hy : tys[y]? = some (dA y, .long)) (hj : j < n) (hn : n < 2 ^ 31) (hdg : decode cc pc = .ok (.laload, 1))
    (kk : W p l e R s m args below meth c H locs cells slots Q (F0 m (pc + 1) ls (.long (gJ σ κ j) :: rest))) : W p l e R s m args below meth c H locs cells slots Q (F0 m pc ls (.int (nI j) :: .ref (ad o) :: rest)) := by
  obtain ⟨q, hq⟩ := wd_at (S := S) (ad := ad) (dA := dA) (σ := σ) ho
  rw [pcx_arr hκ h1 ha] at hq
  refine va_lald (f := fun j => gJ σ κ j) hx hb hK hP q y hq hy (vp_in_nI hj hn) hdg ?_
  rw [nI_clamp (by omega)]
  exact kk
theorem x_aald (hx : p.tables.exec = Jvm.exec) (hb : c.code = cc) {κ o j n y : Nat} {C : String} (hK : va_K D cl tys s) (hP : va_P D cl (wd S ad dA ob σ) H) (ho : o ∈ ob) (hκ : S.1 o = κ) (h1 : 100 ≤ κ) (ha : S.2.2.1 κ = (4, n, y)) (hy : tys[y]? = some (dA y, .object C)) (hj : j < n) (hn : n < 2 ^ 31) (hdg : decode cc pc = .ok (.aaload, 1))
    (kk : W p l e R s m args below meth c H locs cells slots Q (F0 m (pc + 1) ls (.ref (ad (gN σ κ j)) :: rest))) : W p l e R s m args below meth c H locs cells slots Q (F0 m pc ls (.int (nI j) :: .ref (ad o) :: rest)) := by
  obtain ⟨q, hq⟩ := wd_at (S := S) (ad := ad) (dA := dA) (σ := σ) ho
  rw [pcx_arr hκ h1 ha] at hq
  refine va_aldq (f := fun j => some (ad (gN σ κ j))) hx hb hK hP q y hq hy (vp_in_nI hj hn) hdg ?_
  rw [nI_clamp (by omega)]
  exact kk
theorem x_fald (hx : p.tables.exec = Jvm.exec) (hb : c.code = cc) {κ o j n y : Nat} {C : String} (hK : va_K D cl tys s) (hP : va_P D cl (wd S ad dA ob σ) H) (ho : o ∈ ob) (hκ : S.1 o = κ) (h1 : 100 ≤ κ) (ha : S.2.2.1 κ = (5, n, y)) (hy : tys[y]? = some (dA y, .object C)) (hj : j < n) (hn : n < 2 ^ 31) (hdg : decode cc pc = .ok (.aaload, 1))
    (kk : W p l e R s m args below meth c H locs cells slots Q (F0 m (pc + 1) ls (.ref (ad (S.2.2.2 κ j)) :: rest))) : W p l e R s m args below meth c H locs cells slots Q (F0 m pc ls (.int (nI j) :: .ref (ad o) :: rest)) := by
  obtain ⟨q, hq⟩ := wd_at (S := S) (ad := ad) (dA := dA) (σ := σ) ho
  rw [pcx_arr hκ h1 ha] at hq
  refine va_aldq (f := fun j => some (ad (S.2.2.2 κ j))) hx hb hK hP q y hq hy (vp_in_nI hj hn) hdg ?_
  rw [nI_clamp (by omega)]
  exact kk
theorem x_alen (hx : p.tables.exec = Jvm.exec) (hb : c.code = cc) {κ o n y t : Nat} {ty : FieldType} (hK : va_K D cl tys s) (hP : va_P D cl (wd S ad dA ob σ) H) (ho : o ∈ ob) (hκ : S.1 o = κ) (h1 : 100 ≤ κ) (ha : S.2.2.1 κ = (t, n, y)) (hy : tys[y]? = some (dA y, ty)) (hdg : decode cc pc = .ok (.arraylength, 1))
    (kk : W p l e R s m args below meth c H locs cells slots Q (F0 m (pc + 1) ls (.int (nI n) :: rest))) : W p l e R s m args below meth c H locs cells slots Q (F0 m pc ls (.ref (ad o) :: rest)) := by
  obtain ⟨q, hq⟩ := wd_at (S := S) (ad := ad) (dA := dA) (σ := σ) ho
  rw [pcx_arr hκ h1 ha] at hq
  exact va_alen hx hb hK hP q y hq hy rfl hdg kk
theorem x_iast (hx : p.tables.exec = Jvm.exec) (hb : c.code = cc) {κ o j n y : Nat} {x : Int32} (hK : va_K D cl tys s) (hP : va_P D cl (wd S ad dA ob σ) H) (hJ : Inj ad ob) (hw : Swf S ob) (hS : va_S (Ad ad ob) H0 H locs) (ho : o ∈ ob) (hκ : S.1 o = κ) (h1 : 100 ≤ κ) (ha : S.2.2.1 κ = (1, n, y)) (hy : tys[y]? = some (dA y, .int)) (hj : j < n) (hn : n < 2 ^ 31) (hdg : decode cc pc = .ok (.iastore, 1))
    (kk : ∀ (H1 : Heap) (locs1 : List Loc), va_P D cl (wd S ad dA ob (sI σ κ j x)) H1 → va_S (Ad ad ob) H0 H1 locs1 → W p l e R s m args below meth c H1 locs1 cells slots Q (F0 m (pc + 1) ls rest)) : W p l e R s m args below meth c H locs cells slots Q (F0 m pc ls (.int x :: .int (nI j) :: .ref (ad o) :: rest)) := by
  obtain ⟨q, hq⟩ := wd_at (S := S) (ad := ad) (dA := dA) (σ := σ) ho
  rw [pcx_arr hκ h1 ha] at hq
  refine va_iast (A := Ad ad ob) (f := fun j => gI σ κ j) hx hb hK hP (wd_D hJ (fun o h => ⟨o, h, rfl⟩)) hS q y hq hy (vp_in_nI hj hn) hdg (fun H1 locs1 g1 _ g3 => kk H1 locs1 ?_ g3)
  have e1 : pcx S ad dA (sI σ κ j x) o = .inl (dA y, (n, .inl (upd (fun j => gI σ κ j) (nI j).toNatClampNeg x))) := by
    rw [pcx_arr hκ h1 ha, nI_clamp (by omega)]
    have e2 : (fun i => gI (sI σ κ j x) κ i) = upd (fun j => gI σ κ j) j x := by
      funext i
      simp [gs, upd]
    show Sum.inl (dA y, (n, Sum.inl (fun i => gI (sI σ κ j x) κ i))) = _
    rw [e2]
  rw [← e1, wd_set hJ ho hq (fun o' h h9 => pcx_offA hw off_I hκ h1 ho h h9)] at g1
  exact g1
theorem x_nast (hx : p.tables.exec = Jvm.exec) (hb : c.code = cc) {κ o j n y : Nat} {x : Nat} (hK : va_K D cl tys s) (hP : va_P D cl (wd S ad dA ob σ) H) (hJ : Inj ad ob) (hw : Swf S ob) (hS : va_S (Ad ad ob) H0 H locs) (ho : o ∈ ob) (hκ : S.1 o = κ) (h1 : 100 ≤ κ) (ha : S.2.2.1 κ = (0, n, y)) (hy : tys[y]? = some (dA y, .int)) (hj : j < n) (hn : n < 2 ^ 31) (hdg : decode cc pc = .ok (.iastore, 1))
    (kk : ∀ (H1 : Heap) (locs1 : List Loc), va_P D cl (wd S ad dA ob (sN σ κ j x)) H1 → va_S (Ad ad ob) H0 H1 locs1 → W p l e R s m args below meth c H1 locs1 cells slots Q (F0 m (pc + 1) ls rest)) : W p l e R s m args below meth c H locs cells slots Q (F0 m pc ls (.int (nI x) :: .int (nI j) :: .ref (ad o) :: rest)) := by
  obtain ⟨q, hq⟩ := wd_at (S := S) (ad := ad) (dA := dA) (σ := σ) ho
  rw [pcx_arr hκ h1 ha] at hq
  refine va_iast (A := Ad ad ob) (f := fun j => nI (gN σ κ j)) hx hb hK hP (wd_D hJ (fun o h => ⟨o, h, rfl⟩)) hS q y hq hy (vp_in_nI hj hn) hdg (fun H1 locs1 g1 _ g3 => kk H1 locs1 ?_ g3)
  have e1 : pcx S ad dA (sN σ κ j x) o = .inl (dA y, (n, .inl (upd (fun j => nI (gN σ κ j)) (nI j).toNatClampNeg (nI x)))) := by
    rw [pcx_arr hκ h1 ha, nI_clamp (by omega)]
    have e2 : (fun i => nI (gN (sN σ κ j x) κ i)) = upd (fun j => nI (gN σ κ j)) j (nI x) := by
      funext i
      by_cases hi : i = j
      · simp [gs, upd, hi]
      · simp [gs, upd, hi]
    show Sum.inl (dA y, (n, Sum.inl (fun i => nI (gN (sN σ κ j x) κ i)))) = _
    rw [e2]
  rw [← e1, wd_set hJ ho hq (fun o' h h9 => pcx_offA hw off_N hκ h1 ho h h9)] at g1
  exact g1
theorem bI_nar (b : Bool) : vp_nar .boolean (bI b) = bI b := by cases b <;> rfl
theorem x_zast (hx : p.tables.exec = Jvm.exec) (hb : c.code = cc) {κ o j n y : Nat} {x : Bool} (hK : va_K D cl tys s) (hP : va_P D cl (wd S ad dA ob σ) H) (hJ : Inj ad ob) (hw : Swf S ob) (hS : va_S (Ad ad ob) H0 H locs) (ho : o ∈ ob) (hκ : S.1 o = κ) (h1 : 100 ≤ κ) (ha : S.2.2.1 κ = (2, n, y)) (hy : tys[y]? = some (dA y, .boolean)) (hj : j < n) (hn : n < 2 ^ 31) (hdg : decode cc pc = .ok (.bastore, 1))
    (kk : ∀ (H1 : Heap) (locs1 : List Loc), va_P D cl (wd S ad dA ob (sB σ κ j x)) H1 → va_S (Ad ad ob) H0 H1 locs1 → W p l e R s m args below meth c H1 locs1 cells slots Q (F0 m (pc + 1) ls rest)) : W p l e R s m args below meth c H locs cells slots Q (F0 m pc ls (.int (bI x) :: .int (nI j) :: .ref (ad o) :: rest)) := by
  obtain ⟨q, hq⟩ := wd_at (S := S) (ad := ad) (dA := dA) (σ := σ) ho
  rw [pcx_arr hκ h1 ha] at hq
  refine va_zast (A := Ad ad ob) (f := fun j => bI (gB σ κ j)) hx hb hK hP (wd_D hJ (fun o h => ⟨o, h, rfl⟩)) hS q y hq hy (vp_in_nI hj hn) hdg (fun H1 locs1 g1 _ g3 => kk H1 locs1 ?_ g3)
  have e1 : pcx S ad dA (sB σ κ j x) o = .inl (dA y, (n, .inl (upd (fun j => bI (gB σ κ j)) (nI j).toNatClampNeg (vp_nar .boolean (bI x))))) := by
    rw [pcx_arr hκ h1 ha, nI_clamp (by omega), bI_nar]
    have e2 : (fun i => bI (gB (sB σ κ j x) κ i)) = upd (fun j => bI (gB σ κ j)) j (bI x) := by
      funext i
      by_cases hi : i = j
      · simp [gs, upd, hi]
      · simp [gs, upd, hi]
    show Sum.inl (dA y, (n, Sum.inl (fun i => bI (gB (sB σ κ j x) κ i)))) = _
    rw [e2]
  rw [← e1, wd_set hJ ho hq (fun o' h h9 => pcx_offA hw off_B hκ h1 ho h h9)] at g1
  exact g1
theorem x_last (hx : p.tables.exec = Jvm.exec) (hb : c.code = cc) {κ o j n y : Nat} {x : Int64} (hK : va_K D cl tys s) (hP : va_P D cl (wd S ad dA ob σ) H) (hJ : Inj ad ob) (hw : Swf S ob) (hS : va_S (Ad ad ob) H0 H locs) (ho : o ∈ ob) (hκ : S.1 o = κ) (h1 : 100 ≤ κ) (ha : S.2.2.1 κ = (3, n, y)) (hy : tys[y]? = some (dA y, .long)) (hj : j < n) (hn : n < 2 ^ 31) (hdg : decode cc pc = .ok (.lastore, 1))
    (kk : ∀ (H1 : Heap) (locs1 : List Loc), va_P D cl (wd S ad dA ob (sJ σ κ j x)) H1 → va_S (Ad ad ob) H0 H1 locs1 → W p l e R s m args below meth c H1 locs1 cells slots Q (F0 m (pc + 1) ls rest)) : W p l e R s m args below meth c H locs cells slots Q (F0 m pc ls (.long x :: .int (nI j) :: .ref (ad o) :: rest)) := by
  obtain ⟨q, hq⟩ := wd_at (S := S) (ad := ad) (dA := dA) (σ := σ) ho
  rw [pcx_arr hκ h1 ha] at hq
  refine va_last (A := Ad ad ob) (f := fun j => gJ σ κ j) hx hb hK hP (wd_D hJ (fun o h => ⟨o, h, rfl⟩)) hS q y hq hy (vp_in_nI hj hn) hdg (fun H1 locs1 g1 _ g3 => kk H1 locs1 ?_ g3)
  have e1 : pcx S ad dA (sJ σ κ j x) o = .inl (dA y, (n, .inr (.inl (vp_updL (fun j => gJ σ κ j) (nI j).toNatClampNeg x)))) := by
    rw [pcx_arr hκ h1 ha, nI_clamp (by omega)]
    have e2 : (fun i => gJ (sJ σ κ j x) κ i) = vp_updL (fun j => gJ σ κ j) j x := by
      funext i
      simp [gs, vp_updL]
    show Sum.inl (dA y, (n, Sum.inr (Sum.inl (fun i => gJ (sJ σ κ j x) κ i)))) = _
    rw [e2]
  rw [← e1, wd_set hJ ho hq (fun o' h h9 => pcx_offA hw off_J hκ h1 ho h h9)] at g1
  exact g1
theorem x_aast (hx : p.tables.exec = Jvm.exec) (hb : c.code = cc) {κ o j n y v κv : Nat} {r : vw_C} (hK : va_K D cl tys s) (hP : va_P D cl (wd S ad dA ob σ) H) (hJ : Inj ad ob) (hw : Swf S ob) (hS : va_S (Ad ad ob) H0 H locs) (ho : o ∈ ob) (hκ : S.1 o = κ) (h1 : 100 ≤ κ) (ha : S.2.2.1 κ = (4, n, y)) (hy : tys[y]? = some (dA y, .object r.1)) (hvo : v ∈ ob) (hvκ : S.1 v = κv) (hv1 : κv < 100) (hvc : cl[κv]? = some r) (hj : j < n) (hn : n < 2 ^ 31) (hdg : decode cc pc = .ok (.aastore, 1))
    (kk : ∀ (H1 : Heap) (locs1 : List Loc), va_P D cl (wd S ad dA ob (sN σ κ j v)) H1 → va_S (Ad ad ob) H0 H1 locs1 → W p l e R s m args below meth c H1 locs1 cells slots Q (F0 m (pc + 1) ls rest)) : W p l e R s m args below meth c H locs cells slots Q (F0 m pc ls (.ref (ad v) :: .int (nI j) :: .ref (ad o) :: rest)) := by
  obtain ⟨q, hq⟩ := wd_at (S := S) (ad := ad) (dA := dA) (σ := σ) ho
  rw [pcx_arr hκ h1 ha] at hq
  obtain ⟨q2, hq2⟩ := wd_at (S := S) (ad := ad) (dA := dA) (σ := σ) hvo
  rw [pcx_obj hvκ hv1] at hq2
  refine va_astq (A := Ad ad ob) (f := fun j => some (ad (gN σ κ j))) hx hb hK hP (wd_D hJ (fun o h => ⟨o, h, rfl⟩)) hS q y q2 κv hq hy hq2 hvc (vp_in_nI hj hn) hdg (fun H1 locs1 g1 _ g3 => kk H1 locs1 ?_ g3)
  have e1 : pcx S ad dA (sN σ κ j v) o = .inl (dA y, (n, .inr (.inr (.inr (.inr (va_up (fun j => some (ad (gN σ κ j))) (nI j).toNatClampNeg (some (ad v)))))))) := by
    rw [pcx_arr hκ h1 ha, nI_clamp (by omega)]
    have e2 : (fun i => some (ad (gN (sN σ κ j v) κ i))) = va_up (fun j => some (ad (gN σ κ j))) j (some (ad v)) := by
      funext i
      by_cases hi : i = j
      · simp [gs, va_up, hi]
      · simp [gs, va_up, hi]
    show Sum.inl (dA y, (n, Sum.inr (Sum.inr (Sum.inr (Sum.inr (fun i => some (ad (gN (sN σ κ j v) κ i)))))))) = _
    rw [e2]
  rw [← e1, wd_set hJ ho hq (fun o' h h9 => pcx_offA hw off_N hκ h1 ho h h9)] at g1
  exact g1
/-- a world behind a state, and the tables -/
def xB (D : va_G) (cl : List vw_C) (tys : List (ClassId × FieldType)) (S : Sc) (ad : Nat → Nat) (dA : Nat → ClassId) (ob : List Nat) (σ : Sg) (U : State) : Prop := va_P D cl (wd S ad dA ob σ) U.heap ∧ va_K D cl tys U
/-- what the tables say of calls of private members from other classes of the nest -/
def nst (NL : List (String × Nat × MethodName × String)) (U : State) : Prop := ∀ q ∈ NL, va_Nw (.methodLinkNest q.1 q.2.1 q.2.2.1 q.2.2.2) U
theorem nst.warm {NL : List (String × Nat × MethodName × String)} {s U : State} (hW : s.WarmedH U.vm) (h : nst NL s) : nst NL U := fun q hq => va_Nw.warmM hW (h q hq)
def xP (D : va_G) (cl : List vw_C) (tys : List (ClassId × FieldType)) (S : Sc) (ad : Nat → Nat) (dA : Nat → ClassId) (ob : List Nat) (NL : List (String × Nat × MethodName × String)) (σ : Sg) (U : State) : Prop := xB D cl tys S ad dA ob σ U ∧ nst NL U
def CI (l : Launch) (D : va_G) (cl : List vw_C) (tys : List (ClassId × FieldType)) (S : Sc) (ad : Nat → Nat) (dA : Nat → ClassId) (ob : List Nat) (NL : List (String × Nat × MethodName × String)) (y : MethodName) (ws : List Cond) (rm : Room) (av : List Value) (σ : Sg) (r : Int32) (σ' : Sg) : Prop :=
  Met l y ws rm (va_Pc av (xP D cl tys S ad dA ob NL σ)) (va_Qi (fun r0 u => r0 = r ∧ u = σ') (xB D cl tys S ad dA ob) (Ad ad ob)) 0 0 (Ad ad ob)
def CV (l : Launch) (D : va_G) (cl : List vw_C) (tys : List (ClassId × FieldType)) (S : Sc) (ad : Nat → Nat) (dA : Nat → ClassId) (ob : List Nat) (NL : List (String × Nat × MethodName × String)) (y : MethodName) (ws : List Cond) (rm : Room) (av : List Value) (σ : Sg) (σ' : Sg) : Prop :=
  Met l y ws rm (va_Pc av (xP D cl tys S ad dA ob NL σ)) (va_Qv (fun u => u = σ') (xB D cl tys S ad dA ob) (Ad ad ob)) 0 0 (Ad ad ob)
def CR (l : Launch) (D : va_G) (cl : List vw_C) (tys : List (ClassId × FieldType)) (S : Sc) (ad : Nat → Nat) (dA : Nat → ClassId) (ob : List Nat) (NL : List (String × Nat × MethodName × String)) (y : MethodName) (ws : List Cond) (rm : Room) (av : List Value) (σ : Sg) (r : Nat) (σ' : Sg) : Prop :=
  Met l y ws rm (va_Pc av (xP D cl tys S ad dA ob NL σ)) (va_Qr (fun u => u = σ') (fun u a t => a = ad r ∧ xB D cl tys S ad dA ob u t) (Ad ad ob)) 0 0 (Ad ad ob)
variable {NL : List (String × Nat × MethodName × String)}
theorem xP_blind {av : List Value} : FrameBlind (va_Pc av (xP D cl tys S ad dA ob NL σ)) := fun a U g mk q => ⟨q.1, ⟨q.2.1.1, va_K.moved (u := U) (U := U.calling g mk a) (Vm.Alike.refl U.vm) q.2.1.2⟩, fun w hw => va_Nw.same rfl (rfl : U.vm = (U.calling g mk a).vm) (q.2.2 w hw)⟩
theorem xP_pre {av : List Value} (hK : va_K D cl tys s) (hN : nst NL s) (hP : va_P D cl (wd S ad dA ob σ) H) : ∀ U : State, U.heap = H → s.WarmedH U.vm → va_Pc av (xP D cl tys S ad dA ob NL σ) av.toArray U := fun U hU hW => ⟨rfl, ⟨by rw [hU]; exact hP, va_K.moved hW.alike hK⟩, hN.warm hW⟩
theorem x_recv {κ o : Nat} {q : vw_C} (hK : va_K D cl tys s) (hP : va_P D cl (wd S ad dA ob σ) H) (ho : o ∈ ob) (hκ : S.1 o = κ) (h1 : κ < 100) (hc : cl[κ]? = some q) : ∃ cell : Cell, H[ad o]? = some cell ∧ cell.vm.isStatics = false ∧ s.vm.findClass q.1 = some cell.cls := by
  obtain ⟨i, hi⟩ := wd_at (S := S) (ad := ad) (dA := dA) (σ := σ) ho
  rw [pcx_obj hκ h1] at hi
  exact va_recv hK hP hc hi
/-- the start of a method's walk -/
theorem x_of {y : MethodName} {ws WS : List Cond} {rm : Room} {av : List Value} {cc : ByteArray} {maxL : Nat} {ret : Option FieldType} {Qc : Array Value → State → Outcome → State → Prop} {free : Addr → Prop} {mc ms : Nat} (hy : plainName y.cls = true) (hw : ws = Cond.code y cc maxL ret :: WS) (hlen : (lg_sl av).length ≤ maxL)
    (body : ∀ (p : Program) (e : Env) (s : State) (m : MethodId) (below : List Frame) (meth : Method) (c : Code), p.tables.exec = Jvm.exec → c.code = cc → c.maxLocals = maxL → meth.sig.returnType = ret → meth.locks = false → (∀ w ∈ WS, w.before av.toArray s = true) → s.vm.findClass y.cls = some m.cls → meth.name = y.name → nst NL s → va_K D cl tys s → va_P D cl (wd S ad dA ob σ) s.heap → ∀ ls : Array Slot, lv_has ls maxL (lv_args 0 av) →
      W p l e rm s m av.toArray below meth c s.heap [] 0 0 (MQ below Qc av.toArray s mc ms free) (F0 m 0 ls [])) :
    Met l y ws rm (va_Pc av (xP D cl tys S ad dA ob NL σ)) Qc mc ms free := by
  refine Met.ofW (cc := cc) (maxL := maxL) (ret := ret) hy hw ?_
  intro p e s m args below meth c s₁ B hml hv
  obtain ⟨rfl, ⟨hP, hK⟩, hN⟩ := hv
  have hl := lv_entry av (n := maxL) hlen
  rw [lg_entry_eq]
  have hts := atoms_spec (ws := ws) B.pre
  exact body p e s m below meth c B.exec B.bytes hml B.returns B.notSynchronized (fun w h => hts w (by rw [hw]; exact List.mem_cons_of_mem _ h)) (findClass_of_methodNamed B.named) (name_of_methodNamed B.named B.method).1 hN hK hP _ hl
theorem x_iret {v r : Int32} {σ1 σ' : Sg} (hx : p.tables.exec = Jvm.exec) (hb : c.code = cc) (hr : meth.sig.returnType = some .int) (hlocks : meth.locks = false) (hK : va_K D cl tys s) (hP : va_P D cl (wd S ad dA ob σ1) H) (hS : va_S (Ad ad ob) s.heap H locs) (hdg : decode cc pc = .ok (.ireturn, 1)) (hv : v = r) (hσ : σ1 = σ') :
    W p l e R s m args below meth c H locs 0 0 (MQ below (va_Qi (fun r0 u => r0 = r ∧ u = σ') (xB D cl tys S ad dA ob) (Ad ad ob)) args s 0 0 (Ad ad ob)) (F0 m pc ls [.int v]) := by
  subst hv hσ
  exact W.iret hx hb hr (fun t ht hW => ⟨⟨v, σ1, rfl, ⟨rfl, rfl⟩, by rw [ht]; exact hP, va_K.moved hW.alike hK⟩, hS.F ht⟩) hS.2.2 hdg hlocks
theorem x_zret {v : Int32} {rb : Bool} {σ1 σ' : Sg} (hx : p.tables.exec = Jvm.exec) (hb : c.code = cc) (hr : meth.sig.returnType = some .boolean) (hlocks : meth.locks = false) (hK : va_K D cl tys s) (hP : va_P D cl (wd S ad dA ob σ1) H) (hS : va_S (Ad ad ob) s.heap H locs) (hdg : decode cc pc = .ok (.ireturn, 1)) {b : Bool} (hvb : v = bI b) (hv : b = rb) (hσ : σ1 = σ') :
    W p l e R s m args below meth c H locs 0 0 (MQ below (va_Qi (fun r0 u => r0 = bI rb ∧ u = σ') (xB D cl tys S ad dA ob) (Ad ad ob)) args s 0 0 (Ad ad ob)) (F0 m pc ls [.int v]) := by
  subst hv hσ
  subst hvb
  exact W.zret hx hb hr (by cases b <;> rfl) (fun t ht hW => ⟨⟨bI b, σ1, rfl, ⟨rfl, rfl⟩, by rw [ht]; exact hP, va_K.moved hW.alike hK⟩, hS.F ht⟩) hS.2.2 hdg hlocks
theorem x_vret {σ1 σ' : Sg} (hx : p.tables.exec = Jvm.exec) (hb : c.code = cc) (hr : meth.sig.returnType = none) (hlocks : meth.locks = false) (hK : va_K D cl tys s) (hP : va_P D cl (wd S ad dA ob σ1) H) (hS : va_S (Ad ad ob) s.heap H locs) (hdg : decode cc pc = .ok (.return_, 1)) (hσ : σ1 = σ') :
    W p l e R s m args below meth c H locs 0 0 (MQ below (va_Qv (fun u => u = σ') (xB D cl tys S ad dA ob) (Ad ad ob)) args s 0 0 (Ad ad ob)) (F0 m pc ls []) := by
  subst hσ
  exact W.vret hx hb hr (fun t ht hW => ⟨⟨σ1, rfl, rfl, by rw [ht]; exact hP, va_K.moved hW.alike hK⟩, hS.F ht⟩) hS.2.2 hdg hlocks
theorem x_aret {v r : Nat} {σ1 σ' : Sg} {rn : String} (hx : p.tables.exec = Jvm.exec) (hb : c.code = cc) (hr : meth.sig.returnType = some (.object rn)) (hlocks : meth.locks = false) (hK : va_K D cl tys s) (hP : va_P D cl (wd S ad dA ob σ1) H) (hS : va_S (Ad ad ob) s.heap H locs) (hdg : decode cc pc = .ok (.areturn, 1)) (hv : v = r) (hσ : σ1 = σ') :
    W p l e R s m args below meth c H locs 0 0 (MQ below (va_Qr (fun u => u = σ') (fun u a t => a = ad r ∧ xB D cl tys S ad dA ob u t) (Ad ad ob)) args s 0 0 (Ad ad ob)) (F0 m pc ls [.ref (ad v)]) := by
  subst hv hσ
  exact W.aret hx hb hr (Or.inl ⟨_, rfl⟩) (Or.inr ⟨_, rfl⟩) (fun t ht hW => ⟨⟨σ1, _, rfl, rfl, rfl, by rw [ht]; exact hP, va_K.moved hW.alike hK⟩, hS.F ht⟩) hS.2.2 hdg hlocks
variable {st0 : List Value} {aa : Array Value} {mc ms : Nat} {σ' : Sg}
theorem x_ci {r : Int32} (hr : va_Run p l e R s m args below meth c H locs cells slots 0 0 (F0 m pc ls st0) rest (va_Qi (fun r0 u => r0 = r ∧ u = σ') (xB D cl tys S ad dA ob) (Ad ad ob) aa) (Ad ad ob)) (hS : va_S (Ad ad ob) H0 H locs)
    (kk : ∀ (H1 : Heap) (locs1 : List Loc), va_P D cl (wd S ad dA ob σ') H1 → va_S (Ad ad ob) H0 H1 locs1 → W p l e R s m args below meth c H1 locs1 cells slots Q (F0 m (pc + 3) ls (.int r :: rest))) : W p l e R s m args below meth c H locs cells slots Q (F0 m pc ls st0) := by
  refine va_calli hr hS (fun q _ h => h) (fun q h => h) (fun r0 u t H1 locs1 e1 _ hp hB _ _ hS1 => ?_)
  obtain ⟨rfl, rfl⟩ := hp
  exact kk H1 locs1 (by rw [← e1]; exact hB.1) hS1
theorem x_cv (hr : va_Run p l e R s m args below meth c H locs cells slots 0 0 (F0 m pc ls st0) rest (va_Qv (fun u => u = σ') (xB D cl tys S ad dA ob) (Ad ad ob) aa) (Ad ad ob)) (hS : va_S (Ad ad ob) H0 H locs)
    (kk : ∀ (H1 : Heap) (locs1 : List Loc), va_P D cl (wd S ad dA ob σ') H1 → va_S (Ad ad ob) H0 H1 locs1 → W p l e R s m args below meth c H1 locs1 cells slots Q (F0 m (pc + 3) ls rest)) : W p l e R s m args below meth c H locs cells slots Q (F0 m pc ls st0) := by
  refine va_callv hr hS (fun q _ h => h) (fun q h => h) (fun u t H1 locs1 e1 _ hp hB _ _ hS1 => ?_)
  subst hp
  exact kk H1 locs1 (by rw [← e1]; exact hB.1) hS1
theorem x_cr {r : Nat} (hr : va_Run p l e R s m args below meth c H locs cells slots 0 0 (F0 m pc ls st0) rest (va_Qr (fun u => u = σ') (fun u a t => a = ad r ∧ xB D cl tys S ad dA ob u t) (Ad ad ob) aa) (Ad ad ob)) (hS : va_S (Ad ad ob) H0 H locs)
    (kk : ∀ (H1 : Heap) (locs1 : List Loc), va_P D cl (wd S ad dA ob σ') H1 → va_S (Ad ad ob) H0 H1 locs1 → W p l e R s m args below meth c H1 locs1 cells slots Q (F0 m (pc + 3) ls (.ref (ad r) :: rest))) : W p l e R s m args below meth c H locs cells slots Q (F0 m pc ls st0) := by
  refine va_callr hr hS (fun q _ h => h) (fun q h => h) (fun u ra t H1 locs1 e1 _ hp hB _ _ hS1 => ?_)
  subst hp
  obtain ⟨rfl, hB⟩ := hB
  exact kk H1 locs1 (by rw [← e1]; exact hB.1) hS1
end XR
/-! rows for numbers, truth values, loops and calls over pictures -/
theorem bI_0 {b : Bool} (h : bI b = 0) : b = false := by
  cases b
  · rfl
  · exact absurd h (by decide)
theorem bI_n {b : Bool} (h : ¬ bI b = 0) : b = true := by
  cases b
  · exact absurd rfl h
  · rfl
theorem bI_inj {a b : Bool} (h : bI a = bI b) : a = b := by
  cases a <;> cases b <;> first | rfl | exact absurd h (by decide)
def inR (k : Int32) (n : Nat) : Bool := decide (0 ≤ k.toInt ∧ k.toInt < n)
theorem inR_of {k : Int32} {n : Nat} (hn : n < 2 ^ 31) (h : inR k n = true) : ∃ j : Nat, j < n ∧ k = nI j := vp_in_of (vp_in_iff.mpr (of_decide_eq_true h)) hn
theorem inR_nI {j n : Nat} (hj : j < 2 ^ 31) : inR (nI j) n = decide (j < n) := by
  unfold inR
  rw [nI_toInt hj]
  by_cases h : j < n
  · rw [decide_eq_true h, decide_eq_true (by omega)]
  · rw [decide_eq_false h, decide_eq_false (by omega)]
theorem inR_neg {k : Int32} {n : Nat} (h : k < 0) : inR k n = false := by
  rw [Int32.lt_iff_toInt_lt, Int32.toInt_zero] at h
  exact decide_eq_false (by omega)
theorem inR_big {k : Int32} {n : Nat} (hn : n < 2 ^ 31) (h : nI n ≤ k) : inR k n = false := by
  rw [Int32.le_iff_toInt_le, nI_toInt hn] at h
  exact decide_eq_false (by omega)
theorem inR_in {k : Int32} {n : Nat} (hn : n < 2 ^ 31) (h0 : ¬ k < 0) (h : ¬ nI n ≤ k) : inR k n = true := by
  rw [Int32.le_iff_toInt_le, nI_toInt hn] at h
  rw [Int32.lt_iff_toInt_lt, Int32.toInt_zero] at h0
  exact decide_eq_true (by omega)
section XN
variable {p : Program} {l : Launch} {e : Env} {R : Room} {s : State} {m : MethodId} {args : Array Value} {below : List Frame} {meth : Method} {c : Code} {H : Heap} {locs : List Loc} {cells slots : Nat} {Q : State → Prop}
variable {cc : ByteArray} {pc : Nat} {ls : Array Slot} {rest : List Value} {D : va_G} {cl : List vw_C} {tys : List (ClassId × FieldType)} {H0 : Heap} {S : Sc} {ad : Nat → Nat} {dA : Nat → ClassId} {ob : List Nat} {σ : Sg} {WS : List Cond}
theorem x_iaddN (hx : p.tables.exec = Jvm.exec) (hb : c.code = cc) {a b : Nat} (hdg : decode cc pc = .ok (.iadd, 1)) (k : W p l e R s m args below meth c H locs cells slots Q (F0 m (pc + 1) ls (.int (nI (a + b)) :: rest))) : W p l e R s m args below meth c H locs cells slots Q (F0 m pc ls (.int (nI b) :: .int (nI a) :: rest)) := lv_iadd hx hb hdg (by rw [nI_add]; exact k)
theorem x_isubN (hx : p.tables.exec = Jvm.exec) (hb : c.code = cc) {a b : Nat} (hdg : decode cc pc = .ok (.isub, 1)) (h : b ≤ a) (k : W p l e R s m args below meth c H locs cells slots Q (F0 m (pc + 1) ls (.int (nI (a - b)) :: rest))) : W p l e R s m args below meth c H locs cells slots Q (F0 m pc ls (.int (nI b) :: .int (nI a) :: rest)) := lv_isub hx hb hdg (by rw [pk_sub h]; exact k)
theorem x_imulN (hx : p.tables.exec = Jvm.exec) (hb : c.code = cc) {a b : Nat} (hdg : decode cc pc = .ok (.imul, 1)) (k : W p l e R s m args below meth c H locs cells slots Q (F0 m (pc + 1) ls (.int (nI (a * b)) :: rest))) : W p l e R s m args below meth c H locs cells slots Q (F0 m pc ls (.int (nI b) :: .int (nI a) :: rest)) := lv_imul hx hb hdg (by rw [pk_mul]; exact k)
theorem x_ifeqB (hx : p.tables.exec = Jvm.exec) (hb : c.code = cc) {b : Bool} {off : Int} {tgt : Nat} (hdg : decode cc pc = .ok (.ifCond .eq off, 3)) (ht : (pc : Int) + off = (tgt : Int)) (kt : b = false → W p l e R s m args below meth c H locs cells slots Q (F0 m tgt ls rest)) (kf : b = true → W p l e R s m args below meth c H locs cells slots Q (F0 m (pc + 3) ls rest)) : W p l e R s m args below meth c H locs cells slots Q (F0 m pc ls (.int (bI b) :: rest)) := lv_if_eq hx hb hdg ht (fun h => kt (bI_0 h)) (fun h => kf (bI_n h))
theorem x_ifneB (hx : p.tables.exec = Jvm.exec) (hb : c.code = cc) {b : Bool} {off : Int} {tgt : Nat} (hdg : decode cc pc = .ok (.ifCond .ne off, 3)) (ht : (pc : Int) + off = (tgt : Int)) (kt : b = true → W p l e R s m args below meth c H locs cells slots Q (F0 m tgt ls rest)) (kf : b = false → W p l e R s m args below meth c H locs cells slots Q (F0 m (pc + 3) ls rest)) : W p l e R s m args below meth c H locs cells slots Q (F0 m pc ls (.int (bI b) :: rest)) := lv_if_ne hx hb hdg ht (fun h => kt (bI_n h)) (fun h => kf (bI_0 h))
theorem x_icmp_ltN (hx : p.tables.exec = Jvm.exec) (hb : c.code = cc) {a b : Nat} {off : Int} {tgt : Nat} (hdg : decode cc pc = .ok (.if_icmp .lt off, 3)) (ht : (pc : Int) + off = (tgt : Int)) (ha : a < 2 ^ 31) (hB : b < 2 ^ 31) (kt : a < b → W p l e R s m args below meth c H locs cells slots Q (F0 m tgt ls rest)) (kf : b ≤ a → W p l e R s m args below meth c H locs cells slots Q (F0 m (pc + 3) ls rest)) : W p l e R s m args below meth c H locs cells slots Q (F0 m pc ls (.int (nI b) :: .int (nI a) :: rest)) := lv_icmp_lt hx hb hdg ht (fun h => kt ((nI_ltI ha hB).mp h)) (fun h => kf (Nat.le_of_not_lt fun q => h ((nI_ltI ha hB).mpr q)))
theorem x_icmp_geN (hx : p.tables.exec = Jvm.exec) (hb : c.code = cc) {a b : Nat} {off : Int} {tgt : Nat} (hdg : decode cc pc = .ok (.if_icmp .ge off, 3)) (ht : (pc : Int) + off = (tgt : Int)) (ha : a < 2 ^ 31) (hB : b < 2 ^ 31) (kt : b ≤ a → W p l e R s m args below meth c H locs cells slots Q (F0 m tgt ls rest)) (kf : a < b → W p l e R s m args below meth c H locs cells slots Q (F0 m (pc + 3) ls rest)) : W p l e R s m args below meth c H locs cells slots Q (F0 m pc ls (.int (nI b) :: .int (nI a) :: rest)) := lv_icmp_ge hx hb hdg ht (fun h => kt ((nI_leI hB ha).mp h)) (fun h => kf (Nat.lt_of_not_le fun q => h ((nI_leI hB ha).mpr q)))
theorem x_icmp_gtN (hx : p.tables.exec = Jvm.exec) (hb : c.code = cc) {a b : Nat} {off : Int} {tgt : Nat} (hdg : decode cc pc = .ok (.if_icmp .gt off, 3)) (ht : (pc : Int) + off = (tgt : Int)) (ha : a < 2 ^ 31) (hB : b < 2 ^ 31) (kt : b < a → W p l e R s m args below meth c H locs cells slots Q (F0 m tgt ls rest)) (kf : a ≤ b → W p l e R s m args below meth c H locs cells slots Q (F0 m (pc + 3) ls rest)) : W p l e R s m args below meth c H locs cells slots Q (F0 m pc ls (.int (nI b) :: .int (nI a) :: rest)) := lv_icmp_gt hx hb hdg ht (fun h => kt ((nI_ltI hB ha).mp h)) (fun h => kf (Nat.le_of_not_lt fun q => h ((nI_ltI hB ha).mpr q)))
theorem x_icmp_leN (hx : p.tables.exec = Jvm.exec) (hb : c.code = cc) {a b : Nat} {off : Int} {tgt : Nat} (hdg : decode cc pc = .ok (.if_icmp .le off, 3)) (ht : (pc : Int) + off = (tgt : Int)) (ha : a < 2 ^ 31) (hB : b < 2 ^ 31) (kt : a ≤ b → W p l e R s m args below meth c H locs cells slots Q (F0 m tgt ls rest)) (kf : b < a → W p l e R s m args below meth c H locs cells slots Q (F0 m (pc + 3) ls rest)) : W p l e R s m args below meth c H locs cells slots Q (F0 m pc ls (.int (nI b) :: .int (nI a) :: rest)) := lv_icmp_le hx hb hdg ht (fun h => kt ((nI_leI ha hB).mp h)) (fun h => kf (Nat.lt_of_not_le fun q => h ((nI_leI ha hB).mpr q)))
theorem x_icmp_eqN (hx : p.tables.exec = Jvm.exec) (hb : c.code = cc) {a b : Nat} {off : Int} {tgt : Nat} (hdg : decode cc pc = .ok (.if_icmp .eq off, 3)) (ht : (pc : Int) + off = (tgt : Int)) (ha : a < 2 ^ 31) (hB : b < 2 ^ 31) (kt : a = b → W p l e R s m args below meth c H locs cells slots Q (F0 m tgt ls rest)) (kf : ¬ a = b → W p l e R s m args below meth c H locs cells slots Q (F0 m (pc + 3) ls rest)) : W p l e R s m args below meth c H locs cells slots Q (F0 m pc ls (.int (nI b) :: .int (nI a) :: rest)) := lv_icmp_eq hx hb hdg ht (fun h => kt ((nI_eq ha hB).mp h)) (fun h => kf fun q => h ((nI_eq ha hB).mpr q))
theorem x_icmp_neN (hx : p.tables.exec = Jvm.exec) (hb : c.code = cc) {a b : Nat} {off : Int} {tgt : Nat} (hdg : decode cc pc = .ok (.if_icmp .ne off, 3)) (ht : (pc : Int) + off = (tgt : Int)) (ha : a < 2 ^ 31) (hB : b < 2 ^ 31) (kt : ¬ a = b → W p l e R s m args below meth c H locs cells slots Q (F0 m tgt ls rest)) (kf : a = b → W p l e R s m args below meth c H locs cells slots Q (F0 m (pc + 3) ls rest)) : W p l e R s m args below meth c H locs cells slots Q (F0 m pc ls (.int (nI b) :: .int (nI a) :: rest)) := lv_icmp_ne hx hb hdg ht (fun h => kt fun q => h ((nI_eq ha hB).mpr q)) (fun h => kf ((nI_eq ha hB).mp h))
theorem x_if_eqN (hx : p.tables.exec = Jvm.exec) (hb : c.code = cc) {a : Nat} {off : Int} {tgt : Nat} (hdg : decode cc pc = .ok (.ifCond .eq off, 3)) (ht : (pc : Int) + off = (tgt : Int)) (ha : a < 2 ^ 31) (kt : a = 0 → W p l e R s m args below meth c H locs cells slots Q (F0 m tgt ls rest)) (kf : 0 < a → W p l e R s m args below meth c H locs cells slots Q (F0 m (pc + 3) ls rest)) : W p l e R s m args below meth c H locs cells slots Q (F0 m pc ls (.int (nI a) :: rest)) := lv_if_eq hx hb hdg ht (fun h => kt ((nI_eq ha (by decide)).mp (h.trans nI_0.symm))) (fun h => kf (Nat.pos_of_ne_zero fun q => h (by rw [q, nI_0])))
theorem x_if_neN (hx : p.tables.exec = Jvm.exec) (hb : c.code = cc) {a : Nat} {off : Int} {tgt : Nat} (hdg : decode cc pc = .ok (.ifCond .ne off, 3)) (ht : (pc : Int) + off = (tgt : Int)) (ha : a < 2 ^ 31) (kt : 0 < a → W p l e R s m args below meth c H locs cells slots Q (F0 m tgt ls rest)) (kf : a = 0 → W p l e R s m args below meth c H locs cells slots Q (F0 m (pc + 3) ls rest)) : W p l e R s m args below meth c H locs cells slots Q (F0 m pc ls (.int (nI a) :: rest)) := lv_if_ne hx hb hdg ht (fun h => kt (Nat.pos_of_ne_zero fun q => h (by rw [q, nI_0]))) (fun h => kf ((nI_eq ha (by decide)).mp (h.trans nI_0.symm)))
theorem x_if_gtN (hx : p.tables.exec = Jvm.exec) (hb : c.code = cc) {a : Nat} {off : Int} {tgt : Nat} (hdg : decode cc pc = .ok (.ifCond .gt off, 3)) (ht : (pc : Int) + off = (tgt : Int)) (ha : a < 2 ^ 31) (kt : 0 < a → W p l e R s m args below meth c H locs cells slots Q (F0 m tgt ls rest)) (kf : a = 0 → W p l e R s m args below meth c H locs cells slots Q (F0 m (pc + 3) ls rest)) : W p l e R s m args below meth c H locs cells slots Q (F0 m pc ls (.int (nI a) :: rest)) := lv_if_gt hx hb hdg ht (fun h => kt (Nat.pos_of_ne_zero fun q => by rw [q] at h; exact absurd h (by decide))) (fun h => kf (Nat.eq_zero_of_not_pos fun q => h (by rw [← nI_0]; exact (nI_ltI (by decide) ha).mpr q)))
theorem x_if_leN (hx : p.tables.exec = Jvm.exec) (hb : c.code = cc) {a : Nat} {off : Int} {tgt : Nat} (hdg : decode cc pc = .ok (.ifCond .le off, 3)) (ht : (pc : Int) + off = (tgt : Int)) (ha : a < 2 ^ 31) (kt : a = 0 → W p l e R s m args below meth c H locs cells slots Q (F0 m tgt ls rest)) (kf : 0 < a → W p l e R s m args below meth c H locs cells slots Q (F0 m (pc + 3) ls rest)) : W p l e R s m args below meth c H locs cells slots Q (F0 m pc ls (.int (nI a) :: rest)) := lv_if_le hx hb hdg ht (fun h => kt (Nat.eq_zero_of_not_pos fun q => nI_nle q ha h)) (fun h => kf (Nat.pos_of_ne_zero fun q => h (by rw [q]; decide)))
theorem x_if_ltN (hx : p.tables.exec = Jvm.exec) (hb : c.code = cc) {a : Nat} {off : Int} {tgt : Nat} (hdg : decode cc pc = .ok (.ifCond .lt off, 3)) (ht : (pc : Int) + off = (tgt : Int)) (ha : a < 2 ^ 31) (kf : W p l e R s m args below meth c H locs cells slots Q (F0 m (pc + 3) ls rest)) : W p l e R s m args below meth c H locs cells slots Q (F0 m pc ls (.int (nI a) :: rest)) := lv_if_lt hx hb hdg ht (fun h => absurd h (nI_pos ha)) (fun _ => kf)
theorem x_if_geN (hx : p.tables.exec = Jvm.exec) (hb : c.code = cc) {a : Nat} {off : Int} {tgt : Nat} (hdg : decode cc pc = .ok (.ifCond .ge off, 3)) (ht : (pc : Int) + off = (tgt : Int)) (ha : a < 2 ^ 31) (kt : W p l e R s m args below meth c H locs cells slots Q (F0 m tgt ls rest)) : W p l e R s m args below meth c H locs cells slots Q (F0 m pc ls (.int (nI a) :: rest)) := lv_if_ge hx hb hdg ht (fun _ => kt) (fun h => absurd (nI_pos' ha) h)
/-- a loop: from its head with any state that the invariant allows, by a measure that falls -/
theorem x_loop {α : Type} {nL : Nat} (μ : α → Nat) (st : α → Sg) (lv : α → List (Nat × Value)) (I : α → Prop)
    (step : ∀ a, I a → ∀ (H : Heap) (locs : List Loc) (ls : Array Slot), va_P D cl (wd S ad dA ob (st a)) H → va_S (Ad ad ob) H0 H locs → lv_has ls nL (lv a) →
      (∀ a', I a' → μ a' < μ a → ∀ (H : Heap) (locs : List Loc) (ls : Array Slot), va_P D cl (wd S ad dA ob (st a')) H → va_S (Ad ad ob) H0 H locs → lv_has ls nL (lv a') → W p l e R s m args below meth c H locs cells slots Q (F0 m pc ls [])) →
      W p l e R s m args below meth c H locs cells slots Q (F0 m pc ls []))
    (a : α) (hI : I a) (hP : va_P D cl (wd S ad dA ob (st a)) H) (hS : va_S (Ad ad ob) H0 H locs) (hl : lv_has ls nL (lv a)) : W p l e R s m args below meth c H locs cells slots Q (F0 m pc ls []) := by
  have key : ∀ (n : Nat) (a : α), μ a < n → I a → ∀ (H : Heap) (locs : List Loc) (ls : Array Slot), va_P D cl (wd S ad dA ob (st a)) H → va_S (Ad ad ob) H0 H locs → lv_has ls nL (lv a) → W p l e R s m args below meth c H locs cells slots Q (F0 m pc ls []) := by
    intro n
    induction n with
    | zero => intro a h; omega
    | succ n ih =>
      intro a h hI H locs ls hP hS hl
      exact step a hI H locs ls hP hS hl (fun a' hI' hμ => ih a' (by omega) hI')
  exact key (μ a + 1) a (by omega) hI H locs ls hP hS hl
end XN
section XC
variable {p : Program} {l : Launch} {e : Env} {R : Room} {s : State} {m : MethodId} {args : Array Value} {below : List Frame} {meth : Method} {c : Code} {H : Heap} {locs : List Loc} {cells slots : Nat} {Q : State → Prop}
variable {cc : ByteArray} {pc : Nat} {ls : Array Slot} {rest st0 : List Value} {D : va_G} {cl : List vw_C} {tys : List (ClassId × FieldType)} {H0 : Heap} {S : Sc} {ad : Nat → Nat} {dA : Nat → ClassId} {ob : List Nat} {σ : Sg} {WS : List Cond}
variable {y : MethodName} {bytes : ByteArray} {maxL nL n index κ o : Nat} {ret : Option FieldType} {rm : Room} {Qc : Array Value → State → Outcome → State → Prop} {free : Addr → Prop} {own C host : String} {As : List Value} {NL : List (String × Nat × MethodName × String)}
/-- the words of a call's place: an ordinary method -/
def CwV (WS : List Cond) (own : String) (index : Nat) (C : String) (y : MethodName) (bytes : ByteArray) (maxL : Nat) (ret : Option FieldType) (n : Nat) : Prop :=
  (Cond.code y bytes maxL ret ∈ WS ∧ Cond.methodLink own index y ∈ WS ∧ Cond.instanceMethod y ∈ WS ∧ Cond.selects C y y ∈ WS ∧ Cond.initialized C ∈ WS) ∧ (y.cls = C ∧ y.cls ≠ "java/lang/invoke/MethodHandle" ∧ y.cls ≠ "java/lang/invoke/VarHandle" ∧ (parseMethodDescriptor y.desc).map (fun d => d.parameters.length) = some n)
theorem gi_V (hG : GoodIn WS WS) (h : CwV WS own index C y bytes maxL ret n) : GoodIn WS (wsV own index C y (Cond.code y bytes maxL ret :: WS)) := by
  obtain ⟨⟨h1, h2, h3, h4, h5⟩, -⟩ := h
  intro w hw
  unfold wsV at hw
  rcases List.mem_append.mp hw with hw | hw
  · simp only [List.mem_cons, List.mem_nil_iff, or_false] at hw
    rcases hw with rfl | rfl | rfl | rfl
    · exact hG _ h2
    · exact hG _ h3
    · exact hG _ h4
    · exact hG _ h5
  · rcases List.mem_cons.mp hw with rfl | hw
    · exact hG _ h1
    · exact hG _ hw
theorem x_rV {T : u_T} {N : Nat} (hx : p.tables.exec = Jvm.exec) (hb : c.code = cc) (hml : c.maxLocals = nL) (hown : s.vm.findClass own = some m.cls) (ht : ∀ w ∈ WS, w.before args s = true) (hG : GoodIn WS WS) (hcw : CwV WS own index C y bytes maxL ret n) (hM : Met l y (Cond.code y bytes maxL ret :: WS) rm (va_Pc (.ref (ad o) :: As) (xP D cl tys S ad dA ob NL σ)) Qc 0 0 free) (hrc : rm.cells = 0) (hrs : rm.slots = 0) (hR : rm.frames + 1 ≤ R.frames ∧ 8 + (maxL + 11) + rm.locals ≤ R.locals)
    (hC : Xc WS cl κ C T N) (hN : nst NL s) (hK : va_K D cl tys s) (hP : va_P D cl (wd S ad dA ob σ) H) (ho : o ∈ ob) (hκ : S.1 o = κ) (hn : As.length = n) (hls : ls.size = nL) (hst : st0 = As.reverse ++ .ref (ad o) :: rest) (hW : (rest.map fun v => v.category).sum ≤ 8) (hdg : decode cc pc = .ok (.invokevirtual index, 3)) (hcs : cells ≤ R.cells ∧ slots ≤ R.slots) :
    va_Run p l e R s m args below meth c H locs cells slots 0 0 (F0 m pc ls st0) rest (Qc (Value.ref (ad o) :: As).toArray) free :=
  va_runV (As := As) (rest := rest) (n := n) ⟨hx, hb, hml, hown, ht⟩ hM (cwV n ht (gi_V hG hcw) rfl hrc hrs hcw.2 hR) ⟨xP_blind, x_recv hK hP ho hκ hC.2.2 hC.2.1, xP_pre hK hN hP⟩ rfl hn hls hst (lv_room hW) hdg hcs
/-- a static method of the class itself -/
def CwS (WS : List Cond) (own : String) (index : Nat) (y : MethodName) (bytes : ByteArray) (maxL : Nat) (ret : Option FieldType) (n : Nat) : Prop :=
  (Cond.code y bytes maxL ret ∈ WS ∧ Cond.methodLink own index y ∈ WS ∧ Cond.static y ∈ WS ∧ Cond.initialized own ∈ WS) ∧ (y.cls = own ∧ y.cls ≠ "java/lang/invoke/MethodHandle" ∧ y.cls ≠ "java/lang/invoke/VarHandle" ∧ (parseMethodDescriptor y.desc).map (fun d => d.parameters.length) = some n)
theorem gi_S (hG : GoodIn WS WS) (h : CwS WS own index y bytes maxL ret n) : GoodIn WS (wsS own index y (Cond.code y bytes maxL ret :: WS)) := by
  obtain ⟨⟨h1, h2, h3, h4⟩, -⟩ := h
  intro w hw
  unfold wsS at hw
  rcases List.mem_append.mp hw with hw | hw
  · simp only [List.mem_cons, List.mem_nil_iff, or_false] at hw
    rcases hw with rfl | rfl | rfl
    · exact hG _ h2
    · exact hG _ h3
    · exact hG _ h4
  · rcases List.mem_cons.mp hw with rfl | hw
    · exact hG _ h1
    · exact hG _ hw
theorem x_rS (hx : p.tables.exec = Jvm.exec) (hb : c.code = cc) (hml : c.maxLocals = nL) (hown : s.vm.findClass own = some m.cls) (ht : ∀ w ∈ WS, w.before args s = true) (hG : GoodIn WS WS) (hcw : CwS WS own index y bytes maxL ret n) (hM : Met l y (Cond.code y bytes maxL ret :: WS) rm (va_Pc As (xP D cl tys S ad dA ob NL σ)) Qc 0 0 free) (hrc : rm.cells = 0) (hrs : rm.slots = 0) (hR : rm.frames + 1 ≤ R.frames ∧ 8 + (maxL + 11) + rm.locals ≤ R.locals)
    (hN : nst NL s) (hK : va_K D cl tys s) (hP : va_P D cl (wd S ad dA ob σ) H) (hn : As.length = n) (hls : ls.size = nL) (hst : st0 = As.reverse ++ rest) (hW : (rest.map fun v => v.category).sum ≤ 8) (hdg : decode cc pc = .ok (.invokestatic index, 3)) (hcs : cells ≤ R.cells ∧ slots ≤ R.slots) :
    va_Run p l e R s m args below meth c H locs cells slots 0 0 (F0 m pc ls st0) rest (Qc As.toArray) free :=
  va_runS (As := As) (rest := rest) (n := n) ⟨hx, hb, hml, hown, ht⟩ hM (cwS n ht (gi_S hG hcw) rfl hrc hrs hcw.2 hR) ⟨xP_blind, xP_pre hK hN hP⟩ rfl hn hls hst (lv_room hW) hdg hcs
/-- a private static method of another class of the nest -/
def CwSN (WS : List Cond) (NL : List (String × Nat × MethodName × String)) (own : String) (index : Nat) (y : MethodName) (bytes : ByteArray) (maxL : Nat) (ret : Option FieldType) (n : Nat) : Prop :=
  (Cond.code y bytes maxL ret ∈ WS ∧ (own, index, y, "LeasedBuilds") ∈ NL ∧ Cond.static y ∈ WS ∧ Cond.initialized y.cls ∈ WS) ∧ (y.cls ≠ "java/lang/invoke/MethodHandle" ∧ y.cls ≠ "java/lang/invoke/VarHandle" ∧ (parseMethodDescriptor y.desc).map (fun d => d.parameters.length) = some n)
theorem gi_c (hG : GoodIn WS WS) (h : Cond.code y bytes maxL ret ∈ WS) : GoodIn WS (Cond.code y bytes maxL ret :: WS) := by
  intro w hw
  rcases List.mem_cons.mp hw with rfl | hw
  · exact hG _ h
  · exact hG _ hw
theorem x_rSN (hx : p.tables.exec = Jvm.exec) (hb : c.code = cc) (hml : c.maxLocals = nL) (hown : s.vm.findClass own = some m.cls) (ht : ∀ w ∈ WS, w.before args s = true) (hG : GoodIn WS WS) (hcw : CwSN WS NL own index y bytes maxL ret n) (hM : Met l y (Cond.code y bytes maxL ret :: WS) rm (va_Pc As (xP D cl tys S ad dA ob NL σ)) Qc 0 0 free) (hrc : rm.cells = 0) (hrs : rm.slots = 0) (hR : rm.frames + 1 ≤ R.frames ∧ 8 + (maxL + 11) + rm.locals ≤ R.locals)
    (hN : nst NL s) (hK : va_K D cl tys s) (hP : va_P D cl (wd S ad dA ob σ) H) (hn : As.length = n) (hls : ls.size = nL) (hst : st0 = As.reverse ++ rest) (hW : (rest.map fun v => v.category).sum ≤ 8) (hdg : decode cc pc = .ok (.invokestatic index, 3)) (hcs : cells ≤ R.cells ∧ slots ≤ R.slots) :
    va_Run p l e R s m args below meth c H locs cells slots 0 0 (F0 m pc ls st0) rest (Qc As.toArray) free :=
  va_runSN (As := As) (rest := rest) (n := n) ⟨hx, hb, hml, hown, ht⟩ hM ⟨va_cnB n ht (gi_c hG hcw.1.1) rfl hrc hrs (hN _ hcw.1.2.1) (ht _ hcw.1.2.2.2) hcw.2 hR, ht _ hcw.1.2.2.1, trivial⟩ ⟨xP_blind, xP_pre hK hN hP⟩ rfl hn hls hst (lv_room hW) hdg hcs
theorem x_lc_ne {pc : Nat} {x y : Int64} {off : Int} {tgt : Nat} (hx : p.tables.exec = Jvm.exec) (hb : c.code = cc) (hdg : decode cc pc = .ok (.ifCond .ne off, 3)) (ht : (pc : Int) + off = (tgt : Int)) (kt : ¬ x = y → W p l e R s m args below meth c H locs cells slots Q (F0 m tgt ls rest)) (kf : x = y → W p l e R s m args below meth c H locs cells slots Q (F0 m (pc + 3) ls rest)) : W p l e R s m args below meth c H locs cells slots Q (F0 m pc ls (.int (lg_cmp x y) :: rest)) := by
  refine lv_if_ne hx hb hdg ht (fun h => kt (fun q => h ?_)) (fun h => kf ?_)
  · subst q
    simp [lg_cmp]
  · unfold lg_cmp at h
    by_cases h1 : x > y
    · rw [if_pos h1] at h
      exact absurd h (by decide)
    · rw [if_neg h1] at h
      by_cases h2 : x = y
      · exact h2
      · rw [if_neg h2] at h
        exact absurd h (by decide)
theorem bI_narrow (b : Bool) : narrow .boolean (.int (bI b)) = .int (bI b) := by cases b <;> rfl
theorem bI_fits (b : Bool) : fits .boolean (.int (bI b)) = true := by cases b <;> rfl
theorem x_dec {a b : Nat} (h : b ≤ a) : nI a + Int32.ofInt (-(b : Int)) = nI (a - b) := by
  rw [← pk_sub h, Int32.sub_eq_add_neg]
  congr 1
  unfold nI
  rw [Int32.ofInt_neg]
  rfl
end XC
