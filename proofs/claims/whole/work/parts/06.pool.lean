/-! printed: the fields' kinds -/
/-- the fields of a class: 0 an int or a boolean, 1 a reference, 2 a long -/
def pl_ft : Nat → List Nat := fun k => match k with
  | 0 => [0, 0, 1, 1, 0, 1, 1, 1, 0, 0]
  | 1 => [1, 0, 0, 1, 0, 1, 0]
  | 2 => [1, 1, 0]
  | 3 => [1, 0, 0, 1, 0]
  | 4 => [1, 1, 1, 0, 1, 0, 1]
  | 5 => [1, 0, 0]
  | 6 => [1, 0, 0, 0, 0, 0, 1, 0]
  | 7 => [1]
  | 8 => [1, 0, 0, 1, 0]
  | 9 => [0, 0, 0, 0]
  | 10 => [1, 0, 1, 1, 1, 1, 0, 0, 1, 0, 1, 0, 1, 1, 1, 1, 0, 1, 1, 2]
  | 11 => [0, 1, 0, 0, 0, 0, 1, 1, 1, 1, 1, 1, 1, 0, 0, 1, 1, 1, 1, 0, 0, 1, 1, 0, 1, 1, 0, 0, 1, 0, 2, 1, 1, 1, 1, 1, 1, 0, 1, 1, 0]
  | _ => []
/-- the kind of what a reference field (or a place of an array of references) holds -/
def pl_rk : Nat → Nat → Nat := fun k j => match k with
  | 0 => (match j with | 2 => 7 | 3 => 2 | 5 => 12 | 6 => 12 | 7 => 12 | _ => 99)
  | 1 => 12
  | 2 => 12
  | 3 => 12
  | 4 => (match j with | 0 => 12 | 1 => 12 | 2 => 13 | 4 => 12 | 6 => 12 | _ => 99)
  | 5 => 16
  | 6 => (match j with | 0 => 18 | 6 => 12 | _ => 99)
  | 7 => 12
  | 8 => 12
  | 10 => (match j with | 0 => 12 | 2 => 1 | 3 => 3 | 4 => 8 | 5 => 15 | 8 => 17 | 10 => 7 | 12 => 12 | 13 => 6 | 14 => 5 | 15 => 6 | 17 => 4 | 18 => 14 | _ => 99)
  | 11 => (match j with | 1 => 12 | 6 => 12 | 7 => 12 | 8 => 12 | 9 => 12 | 10 => 12 | 11 => 12 | 12 => 12 | 15 => 12 | 16 => 12 | 17 => 12 | 18 => 12 | 21 => 12 | 22 => 12 | 24 => 12 | 25 => 12 | 28 => 12 | 31 => 12 | 32 => 12 | 33 => 12 | 34 => 12 | 35 => 12 | 36 => 13 | 38 => 12 | 39 => 12 | _ => 99)
  | 14 => 0
  | 15 => 2
  | 16 => 6
  | 17 => 7
  | 18 => 9
  | _ => 99

/-! ===== the pool: every cell that the law's run makes, by its number (the i-th cell lies at the address z + i) ===== -/
/-- how many cells; the kind of each (0 .. 11 a class, 12 int[], 13 boolean[], 14 .. 18 arrays of references, 19 long[], more: not spoken of); lengths; ints; references; longs -/
abbrev Sg : Type := Nat × (Nat → Nat) × (Nat → Nat) × (Nat → Nat → Int32) × (Nat → Nat → Option Nat) × (Nat → Nat → Int64)
def sg_N (σ : Sg) : Nat := σ.1
def sg_K (σ : Sg) : Nat → Nat := σ.2.1
def sg_L (σ : Sg) : Nat → Nat := σ.2.2.1
def sg_I (σ : Sg) : Nat → Nat → Int32 := σ.2.2.2.1
def sg_R (σ : Sg) : Nat → Nat → Option Nat := σ.2.2.2.2.1
def sg_J (σ : Sg) : Nat → Nat → Int64 := σ.2.2.2.2.2
def up_2 {α : Type} (f : Nat → Nat → α) (a j : Nat) (v : α) : Nat → Nat → α := fun b k => if b = a ∧ k = j then v else f b k
theorem up_2_ne {α : Type} (f : Nat → Nat → α) {a j b : Nat} (v : α) (h : b ≠ a) : up_2 f a j v b = f b := by
  funext k
  simp [up_2, h]
theorem up_2_eq {α : Type} (f : Nat → Nat → α) (a j : Nat) (v : α) : up_2 f a j v a = va_up (f a) j v := by
  funext k
  simp [up_2, va_up]
def put_I (σ : Sg) (a j : Nat) (v : Int32) : Sg := (σ.1, σ.2.1, σ.2.2.1, up_2 σ.2.2.2.1 a j v, σ.2.2.2.2.1, σ.2.2.2.2.2)
def put_R (σ : Sg) (a j : Nat) (v : Option Nat) : Sg := (σ.1, σ.2.1, σ.2.2.1, σ.2.2.2.1, up_2 σ.2.2.2.2.1 a j v, σ.2.2.2.2.2)
def put_J (σ : Sg) (a j : Nat) (v : Int64) : Sg := (σ.1, σ.2.1, σ.2.2.1, σ.2.2.2.1, σ.2.2.2.2.1, up_2 σ.2.2.2.2.2 a j v)
/-- one cell more: of kind k, of length n, with nothing in it -/
def new_C (σ : Sg) (k n : Nat) : Sg := (σ.1 + 1, va_up σ.2.1 σ.1 k, va_up σ.2.2.1 σ.1 n, va_up σ.2.2.2.1 σ.1 (fun _ => 0), va_up σ.2.2.2.2.1 σ.1 (fun _ => none), va_up σ.2.2.2.2.2 σ.1 (fun _ => 0))
/-- a is a cell of kind k -/
def is_A (σ : Sg) (a k : Nat) : Prop := a < sg_N σ ∧ sg_K σ a = k
/-- what a reference that may be null is -/
def is_O (σ : Sg) (r : Option Nat) (k : Nat) : Prop := ∀ b, r = some b → is_A σ b k
theorem is_O.none {σ : Sg} {k : Nat} : is_O σ none k := fun b h => by cases h
theorem is_O.some {σ : Sg} {k a : Nat} (h : is_A σ a k) : is_O σ (some a) k := fun b hb => by cases hb; exact h
/-- every reference that is held holds what its place says -/
def sg_T (σ : Sg) : Prop := ∀ a j b, a < sg_N σ → sg_R σ a j = some b → is_A σ b (pl_rk (sg_K σ a) j)
/-- later: nothing that was is gone -/
def sg_E (σ τ : Sg) : Prop := sg_N σ ≤ sg_N τ ∧ ∀ a, a < sg_N σ → sg_K τ a = sg_K σ a ∧ sg_L τ a = sg_L σ a
theorem sg_E.rf {σ : Sg} : sg_E σ σ := ⟨Nat.le_refl _, fun _ _ => ⟨rfl, rfl⟩⟩
theorem sg_E.tr {σ τ υ : Sg} (h : sg_E σ τ) (g : sg_E τ υ) : sg_E σ υ := ⟨Nat.le_trans h.1 g.1, fun a ha => ⟨((g.2 a (Nat.lt_of_lt_of_le ha h.1)).1).trans (h.2 a ha).1, ((g.2 a (Nat.lt_of_lt_of_le ha h.1)).2).trans (h.2 a ha).2⟩⟩
theorem sg_E.at {σ τ : Sg} (h : sg_E σ τ) {a k : Nat} (ha : is_A σ a k) : is_A τ a k := ⟨Nat.lt_of_lt_of_le ha.1 h.1, ((h.2 a ha.1).1).trans ha.2⟩
theorem sg_E.op {σ τ : Sg} (h : sg_E σ τ) {r : Option Nat} {k : Nat} (ha : is_O σ r k) : is_O τ r k := fun b hb => h.at (ha b hb)
theorem sg_E.putI {σ τ : Sg} {a j : Nat} {v : Int32} (h : sg_E σ τ) : sg_E σ (put_I τ a j v) := h
theorem sg_E.putR {σ τ : Sg} {a j : Nat} {v : Option Nat} (h : sg_E σ τ) : sg_E σ (put_R τ a j v) := h
theorem sg_E.putJ {σ τ : Sg} {a j : Nat} {v : Int64} (h : sg_E σ τ) : sg_E σ (put_J τ a j v) := h
theorem sg_E.new {σ τ : Sg} {k n : Nat} (h : sg_E σ τ) : sg_E σ (new_C τ k n) := by
  refine ⟨Nat.le_succ_of_le h.1, fun a ha => ?_⟩
  have hne : a ≠ τ.1 := Nat.ne_of_lt (Nat.lt_of_lt_of_le ha h.1)
  exact ⟨(va_up_ne _ _ hne).trans (h.2 a ha).1, (va_up_ne _ _ hne).trans (h.2 a ha).2⟩
theorem is_A.putI {σ : Sg} {a j b k : Nat} {v : Int32} (h : is_A σ b k) : is_A (put_I σ a j v) b k := h
theorem is_A.putR {σ : Sg} {a j b k : Nat} {v : Option Nat} (h : is_A σ b k) : is_A (put_R σ a j v) b k := h
theorem is_A.putJ {σ : Sg} {a j b k : Nat} {v : Int64} (h : is_A σ b k) : is_A (put_J σ a j v) b k := h
theorem is_A.new {σ : Sg} {b k q n : Nat} (h : is_A σ b k) : is_A (new_C σ q n) b k := (sg_E.new sg_E.rf).at h
theorem is_A.born (σ : Sg) (k n : Nat) : is_A (new_C σ k n) (sg_N σ) k := ⟨Nat.lt_succ_self _, va_up_self _ _ _⟩
theorem sg_T.putI {σ : Sg} {a j : Nat} {v : Int32} (h : sg_T σ) : sg_T (put_I σ a j v) := h
theorem sg_T.putJ {σ : Sg} {a j : Nat} {v : Int64} (h : sg_T σ) : sg_T (put_J σ a j v) := h
theorem sg_T.putR {σ : Sg} {a j : Nat} {v : Option Nat} (h : sg_T σ) (hv : is_O σ v (pl_rk (sg_K σ a) j)) : sg_T (put_R σ a j v) := by
  intro b i d hb hd
  have hd' : up_2 σ.2.2.2.2.1 a j v b i = some d := hd
  unfold up_2 at hd'
  by_cases hq : b = a ∧ i = j
  · rw [if_pos hq] at hd'
    obtain ⟨rfl, rfl⟩ := hq
    exact hv d hd'
  · rw [if_neg hq] at hd'
    exact h b i d hb hd'
theorem sg_T.new {σ : Sg} {k n : Nat} (h : sg_T σ) : sg_T (new_C σ k n) := by
  intro b i d hb hd
  have hd' : va_up σ.2.2.2.2.1 σ.1 (fun _ => none) b i = some d := hd
  by_cases hq : b = σ.1
  · subst hq
    rw [va_up_self] at hd'
    cases hd'
  · rw [va_up_ne _ _ hq] at hd'
    have hb' : b < sg_N σ := by
      have : b < σ.1 + 1 := hb
      show b < σ.1
      omega
    have h1 := h b i d hb' hd'
    have h2 : sg_K (new_C σ k n) b = sg_K σ b := va_up_ne _ _ hq
    rw [h2]
    exact h1.new
theorem sg_T.fld {σ : Sg} (h : sg_T σ) {a j b k q : Nat} (ha : is_A σ a k) (hr : sg_R σ a j = some b) (hq : pl_rk k j = q := by rfl) : is_A σ b q := by
  have h1 := h a j b ha.1 hr
  rw [ha.2, hq] at h1
  exact h1
theorem sg_T.op {σ : Sg} (h : sg_T σ) {a j k q : Nat} (ha : is_A σ a k) (hq : pl_rk k j = q := by rfl) : is_O σ (sg_R σ a j) q := fun _ hb => h.fld ha hb hq
/-! the world of the pool -/
def vz_o (z : Nat) (r : Option Nat) : Option Nat := r.map (fun a => z + a)
/-- values in the pool's numbers: an int, a long, a reference into the pool or null, one of the constants that were there before -/
abbrev AV : Type := Int32 ⊕ Int64 ⊕ Option Nat ⊕ Nat
abbrev vi (x : Int32) : AV := .inl x
abbrev vl (x : Int64) : AV := .inr (.inl x)
abbrev vr (r : Option Nat) : AV := .inr (.inr (.inl r))
abbrev vk (i : Nat) : AV := .inr (.inr (.inr i))
def av_ (κ : Nat → Nat) (z : Nat) : AV → Value
  | .inl x => .int x
  | .inr (.inl x) => .long x
  | .inr (.inr (.inl r)) => va_rf (vz_o z r)
  | .inr (.inr (.inr i)) => .ref (κ i)
def ac_ : AV → Nat
  | .inr (.inl _) => 2
  | _ => 1
theorem av_cat (κ : Nat → Nat) (z : Nat) (v : AV) : (av_ κ z v).category = ac_ v := by
  rcases v with x | x | r | i
  · rfl
  · rfl
  · cases r <;> rfl
  · rfl
def av_q (κ : Nat → Nat) (z : Nat) (q : Nat × AV) : Nat × Value := (q.1, av_ κ z q.2)
def pl_v (z : Nat) (σ : Sg) (a j t : Nat) : Value := if t = 0 then .int (sg_I σ a j) else if t = 1 then va_rf (vz_o z (sg_R σ a j)) else .long (sg_J σ a j)
def pl_c (tA : Nat → ClassId) (z : Nat) (σ : Sg) (a : Nat) : va_E :=
  if sg_K σ a < 12 then .inr (sg_K σ a, (pl_ft (sg_K σ a)).mapIdx (fun j t => pl_v z σ a j t))
  else if sg_K σ a < 14 then .inl (tA (sg_K σ a), sg_L σ a, .inl (sg_I σ a))
  else if sg_K σ a = 19 then .inl (tA (sg_K σ a), sg_L σ a, .inr (.inl (sg_J σ a)))
  else .inl (tA (sg_K σ a), sg_L σ a, .inr (.inr (.inr (.inr (fun i => vz_o z (sg_R σ a i))))))
def pl_L (σ : Sg) : List Nat := (List.range (sg_N σ)).filter (fun a => decide (sg_K σ a < 20))
def pl_w (tA : Nat → ClassId) (z : Nat) (σ : Sg) : va_W := (pl_L σ).map (fun a => (z + a, pl_c tA z σ a))
/-- the heap holds the pool -/
def pl_P (tA : Nat → ClassId) (D : va_G) (z : Nat) (σ : Sg) (H : Heap) : Prop := H.size = z + sg_N σ ∧ va_P D vwCl (pl_w tA z σ) H ∧ va_D (fun q => z ≤ q) (pl_w tA z σ)
theorem pl_in {σ : Sg} {a k : Nat} (h : is_A σ a k) (hk : k < 20) : a ∈ pl_L σ := List.mem_filter.mpr ⟨List.mem_range.mpr h.1, by rw [h.2]; exact decide_eq_true hk⟩
theorem pl_get {tA : Nat → ClassId} {z : Nat} {σ : Sg} {a k : Nat} (h : is_A σ a k) (hk : k < 20) : ∃ i : Nat, (pl_w tA z σ)[i]? = some (z + a, pl_c tA z σ a) :=
  List.getElem?_of_mem (List.mem_map.mpr ⟨a, pl_in h hk, rfl⟩)
/-- a world in which one cell has changed -/
theorem pl_set {tA : Nat → ClassId} {z : Nat} {σ τ : Sg} {a i : Nat} {A : Nat → Prop} {e : va_E} (hD : va_D A (pl_w tA z σ)) (hi : (pl_w tA z σ)[i]? = some (z + a, pl_c tA z σ a)) (hL : pl_L τ = pl_L σ) (ha : pl_c tA z τ a = e) (hne : ∀ b, b ≠ a → pl_c tA z τ b = pl_c tA z σ b) : (pl_w tA z σ).set i (z + a, e) = pl_w tA z τ := by
  have hl := (List.getElem?_eq_some_iff.mp hi).1
  apply List.ext_getElem?
  intro j
  by_cases hj : j = i
  · subst hj
    rw [List.getElem?_set_self hl]
    simp only [pl_w, hL, List.getElem?_map] at hi ⊢
    cases hb : (pl_L σ)[j]? with
    | none => rw [hb] at hi; cases hi
    | some b =>
      rw [hb] at hi
      have hba : z + b = z + a := congrArg Prod.fst (Option.some.inj hi)
      have hba : b = a := Nat.add_left_cancel hba
      subst hba
      simp [ha]
  · rw [List.getElem?_set_ne (Ne.symm hj)]
    simp only [pl_w, hL, List.getElem?_map]
    cases hb : (pl_L σ)[j]? with
    | none => rfl
    | some b =>
      have hba : b ≠ a := by
        intro hab
        subst hab
        have h2 : (pl_w tA z σ)[j]? = some (z + b, pl_c tA z σ b) := by simp [pl_w, List.getElem?_map, hb]
        exact hj (hD.1 j i _ _ h2 hi rfl)
      simp [hne b hba]
theorem pl_c_congr {tA : Nat → ClassId} {z : Nat} {σ τ : Sg} {b : Nat} (h1 : sg_K τ b = sg_K σ b) (h2 : sg_L τ b = sg_L σ b) (h3 : sg_I τ b = sg_I σ b) (h4 : sg_R τ b = sg_R σ b) (h5 : sg_J τ b = sg_J σ b) : pl_c tA z τ b = pl_c tA z σ b := by
  unfold pl_c pl_v
  rw [h1, h2, h3, h4, h5]
theorem pl_ne_I {tA : Nat → ClassId} {z : Nat} {σ : Sg} {a j : Nat} {v : Int32} (b : Nat) (hb : b ≠ a) : pl_c tA z (put_I σ a j v) b = pl_c tA z σ b := pl_c_congr rfl rfl (up_2_ne _ _ hb) rfl rfl
theorem pl_ne_R {tA : Nat → ClassId} {z : Nat} {σ : Sg} {a j : Nat} {v : Option Nat} (b : Nat) (hb : b ≠ a) : pl_c tA z (put_R σ a j v) b = pl_c tA z σ b := pl_c_congr rfl rfl rfl (up_2_ne _ _ hb) rfl
theorem pl_ne_J {tA : Nat → ClassId} {z : Nat} {σ : Sg} {a j : Nat} {v : Int64} (b : Nat) (hb : b ≠ a) : pl_c tA z (put_J σ a j v) b = pl_c tA z σ b := pl_c_congr rfl rfl rfl rfl (up_2_ne _ _ hb)
theorem pl_c_obj {tA : Nat → ClassId} {z : Nat} {σ : Sg} {a k : Nat} (h : is_A σ a k) (hk : k < 12) : pl_c tA z σ a = .inr (k, (pl_ft k).mapIdx (fun j t => pl_v z σ a j t)) := by
  unfold pl_c
  rw [h.2, if_pos hk]
theorem pl_c_int {tA : Nat → ClassId} {z : Nat} {σ : Sg} {a k : Nat} (h : is_A σ a k) (hk : k = 12 ∨ k = 13) : pl_c tA z σ a = .inl (tA k, sg_L σ a, .inl (sg_I σ a)) := by
  unfold pl_c
  rw [h.2, if_neg (by omega), if_pos (by omega)]
theorem pl_c_long {tA : Nat → ClassId} {z : Nat} {σ : Sg} {a : Nat} (h : is_A σ a 19) : pl_c tA z σ a = .inl (tA 19, sg_L σ a, .inr (.inl (sg_J σ a))) := by
  unfold pl_c
  rw [h.2, if_neg (by omega), if_neg (by omega), if_pos rfl]
theorem pl_c_ref {tA : Nat → ClassId} {z : Nat} {σ : Sg} {a k : Nat} (h : is_A σ a k) (hk : 14 ≤ k) (hk2 : k < 19) : pl_c tA z σ a = .inl (tA k, sg_L σ a, .inr (.inr (.inr (.inr (fun i => vz_o z (sg_R σ a i)))))) := by
  unfold pl_c
  rw [h.2, if_neg (by omega), if_neg (by omega), if_neg (by omega)]
/-- a field of an object is written -/
theorem pl_upd {z : Nat} {σ τ : Sg} {a j t : Nat} {ts : List Nat} {v : Value} (ht : ts[j]? = some t) (hv : pl_v z τ a j t = v) (hne : ∀ i u, i ≠ j → ts[i]? = some u → pl_v z τ a i u = pl_v z σ a i u) : ts.mapIdx (fun i u => pl_v z τ a i u) = (ts.mapIdx (fun i u => pl_v z σ a i u)).set j v := by
  apply List.ext_getElem?
  intro i
  have hlt : j < ts.length := (List.getElem?_eq_some_iff.mp ht).1
  by_cases hij : i = j
  · subst hij
    rw [List.getElem?_set_self (by rw [List.length_mapIdx]; exact hlt), List.getElem?_mapIdx, ht]
    simp [hv]
  · rw [List.getElem?_set_ne (Ne.symm hij), List.getElem?_mapIdx, List.getElem?_mapIdx]
    cases hu : ts[i]? with
    | none => rfl
    | some u => simp [hne i u hij hu]
