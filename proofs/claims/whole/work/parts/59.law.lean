/-! ===== a law worked out ===== -/
theorem lc_v (x y : Int64) : lg_cmp x y = if y.toInt < x.toInt then 1 else if x.toInt = y.toInt then 0 else -1 := by
  unfold lg_cmp
  simp only [gt_iff_lt, Int64.lt_iff_toInt_lt, ← Int64.toInt_inj]
theorem lc_0 (x y : Int64) : lg_cmp x y = 0 ↔ x.toInt = y.toInt := by
  rw [lc_v]
  by_cases h1 : y.toInt < x.toInt
  · rw [if_pos h1]
    exact ⟨fun h => absurd h (by decide), fun h => by omega⟩
  · rw [if_neg h1]
    by_cases h2 : x.toInt = y.toInt
    · rw [if_pos h2]
      exact ⟨fun _ => h2, fun _ => rfl⟩
    · rw [if_neg h2]
      exact ⟨fun h => absurd h (by decide), fun h => absurd h h2⟩
theorem lc_n (x y : Int64) : lg_cmp x y < 0 ↔ x.toInt < y.toInt := by
  rw [lc_v]
  by_cases h1 : y.toInt < x.toInt
  · rw [if_pos h1]
    exact ⟨fun h => absurd h (by decide), fun h => by omega⟩
  · rw [if_neg h1]
    by_cases h2 : x.toInt = y.toInt
    · rw [if_pos h2]
      exact ⟨fun h => absurd h (by decide), fun h => by omega⟩
    · rw [if_neg h2]
      exact ⟨fun _ => by omega, fun _ => by decide⟩
theorem lc_p (x y : Int64) : 0 < lg_cmp x y ↔ y.toInt < x.toInt := by
  rw [lc_v]
  by_cases h1 : y.toInt < x.toInt
  · rw [if_pos h1]
    exact ⟨fun _ => h1, fun _ => by decide⟩
  · rw [if_neg h1]
    by_cases h2 : x.toInt = y.toInt
    · rw [if_pos h2]
      exact ⟨fun h => absurd h (by decide), fun h => by omega⟩
    · rw [if_neg h2]
      exact ⟨fun h => absurd h (by decide), fun h => by omega⟩
theorem wi_v (x : Int64) (lo hi : Int32) (h : lo.toInt ≤ hi.toInt) : ∃ y, f_X11_within x lo hi = some y ∧ y.toInt = max lo.toInt (min hi.toInt x.toInt) := by
  have h1 := i_lo lo
  have h2 := i_hi hi
  have q : ∃ m : Int64, f_J9_min_f86c9 hi.toInt64 x = some m ∧ m.toInt = min hi.toInt x.toInt := by
    unfold f_J9_min_f86c9
    simp only [lc_p, Int32.toInt_toInt64]
    by_cases q : x.toInt < hi.toInt
    · exact ⟨x, by rw [if_pos q], by omega⟩
    · exact ⟨hi.toInt64, by rw [if_neg q], by rw [Int32.toInt_toInt64]; omega⟩
  obtain ⟨m, m1, m2⟩ := q
  have q : ∃ k : Int64, f_J9_max_f86c9 lo.toInt64 m = some k ∧ k.toInt = max lo.toInt m.toInt := by
    unfold f_J9_max_f86c9
    simp only [lc_n, Int32.toInt_toInt64]
    by_cases q : lo.toInt < m.toInt
    · exact ⟨m, by rw [if_pos q], by omega⟩
    · exact ⟨lo.toInt64, by rw [if_neg q], by rw [Int32.toInt_toInt64]; omega⟩
  obtain ⟨k, k1, k2⟩ := q
  refine ⟨k.toInt32, ?_, ?_⟩
  · unfold f_X11_within
    rw [m1, Option.bind_some, k1, Option.bind_some]
  · rw [Int64.toInt_toInt32, Int.bmod_eq_of_le (by omega) (by omega)]
    omega
theorem wb_ (x : Int64) : f_X11_within x (-1000000) 1000000 = f_X12_bounded x := by
  unfold f_X11_within f_X12_bounded
  rw [show ((1000000 : Int32)).toInt64 = 1000000 by decide, show ((-1000000 : Int32)).toInt64 = -1000000 by decide]
theorem bo_v (x : Int64) : ∃ y, f_X12_bounded x = some y ∧ -1000000 ≤ y.toInt ∧ y.toInt ≤ 1000000 := by
  have e1 : (1000000 : Int32).toInt = 1000000 := by decide
  have e2 : (-1000000 : Int32).toInt = -1000000 := by decide
  obtain ⟨y, h1, h2⟩ := wi_v x (-1000000) 1000000 (by omega)
  exact ⟨y, (wb_ x).symm.trans h1, by omega, by omega⟩
/-- what a sign makes of two numbers -/
def jn_ (c a b : Int32) : Int32 := (f_X12_worked c a.toInt64 b.toInt64).getD 0
/-- the signs between two -/
def sg2 (c : Int32) : Prop := c = 2 ∨ c = 3 ∨ c = 4 ∨ c = 5 ∨ c = 6 ∨ c = 7 ∨ c = 8 ∨ c = 10 ∨ c = 11
theorem jw_1 {P : Prop} {d : Decidable P} : ∃ y, (if P then some (1 : Int32) else some 0) = some y ∧ (y = 0 ∨ y = 1) := by
  by_cases h : P
  · exact ⟨1, by rw [if_pos h], Or.inr rfl⟩
  · exact ⟨0, by rw [if_neg h], Or.inl rfl⟩
theorem jn_b {c a b : Int32} (hc : sg2 c) : f_X12_worked c a.toInt64 b.toInt64 = some (jn_ c a b) ∧ -1000000 ≤ (jn_ c a b).toInt ∧ (jn_ c a b).toInt ≤ 1000000 ∧ (c = 6 ∨ c = 7 ∨ c = 8 ∨ c = 10 ∨ c = 11 → jn_ c a b = 0 ∨ jn_ c a b = 1) := by
  have key : ∃ y, f_X12_worked c a.toInt64 b.toInt64 = some y ∧ -1000000 ≤ y.toInt ∧ y.toInt ≤ 1000000 ∧ (c = 6 ∨ c = 7 ∨ c = 8 ∨ c = 10 ∨ c = 11 → y = 0 ∨ y = 1) := by
    have tr : ∀ y : Int32, (y = 0 ∨ y = 1) → -1000000 ≤ y.toInt ∧ y.toInt ≤ 1000000 := by
      intro y hy
      rcases hy with rfl | rfl <;> decide
    rcases hc with rfl | rfl | rfl | rfl | rfl | rfl | rfl | rfl | rfl
    · obtain ⟨y, h1, h2, h3⟩ := bo_v (a.toInt64 + b.toInt64)
      exact ⟨y, by unfold f_X12_worked; simp only [Int32.reduceEq, ↓reduceIte, h1, Option.bind_some], h2, h3, fun h => by rcases h with h | h | h | h | h <;> exact absurd h (by decide)⟩
    · obtain ⟨y, h1, h2, h3⟩ := bo_v (a.toInt64 - b.toInt64)
      exact ⟨y, by unfold f_X12_worked; simp only [Int32.reduceEq, ↓reduceIte, h1, Option.bind_some], h2, h3, fun h => by rcases h with h | h | h | h | h <;> exact absurd h (by decide)⟩
    · obtain ⟨y, h1, h2, h3⟩ := bo_v (a.toInt64 * b.toInt64)
      exact ⟨y, by unfold f_X12_worked; simp only [Int32.reduceEq, ↓reduceIte, h1, Option.bind_some], h2, h3, fun h => by rcases h with h | h | h | h | h <;> exact absurd h (by decide)⟩
    · by_cases hb : lg_cmp b.toInt64 0 = 0
      · exact ⟨0, by unfold f_X12_worked; simp only [Int32.reduceEq, ↓reduceIte, hb], by decide, by decide, fun _ => Or.inl rfl⟩
      · have hb2 : ¬ b.toInt64 = 0 := fun h => hb (by rw [h]; decide)
        obtain ⟨y, h1, h2, h3⟩ := bo_v (a.toInt64 / b.toInt64)
        exact ⟨y, by unfold f_X12_worked; simp only [Int32.reduceEq, ↓reduceIte, hb, hb2, h1, Option.bind_some], h2, h3, fun h => by rcases h with h | h | h | h | h <;> exact absurd h (by decide)⟩
    · obtain ⟨y, h1, h2⟩ := jw_1 (P := lg_cmp a.toInt64 b.toInt64 = 0) (d := inferInstance)
      exact ⟨y, by unfold f_X12_worked; simp only [Int32.reduceEq, ↓reduceIte]; exact h1, (tr y h2).1, (tr y h2).2, fun _ => h2⟩
    · obtain ⟨y, h1, h2⟩ := jw_1 (P := lg_cmp a.toInt64 b.toInt64 < 0) (d := inferInstance)
      exact ⟨y, by unfold f_X12_worked; simp only [Int32.reduceEq, ↓reduceIte]; exact h1, (tr y h2).1, (tr y h2).2, fun _ => h2⟩
    · obtain ⟨y, h1, h2⟩ := jw_1 (P := 0 < lg_cmp a.toInt64 b.toInt64) (d := inferInstance)
      exact ⟨y, by unfold f_X12_worked; simp only [Int32.reduceEq, ↓reduceIte]; exact h1, (tr y h2).1, (tr y h2).2, fun _ => h2⟩
    · by_cases q1 : lg_cmp a.toInt64 0 = 0
      · exact ⟨0, by unfold f_X12_worked; simp only [Int32.reduceEq, ↓reduceIte, q1], by decide, by decide, fun _ => Or.inl rfl⟩
      · by_cases q2 : lg_cmp b.toInt64 0 = 0
        · exact ⟨0, by unfold f_X12_worked; simp only [Int32.reduceEq, ↓reduceIte, q1, q2], by decide, by decide, fun _ => Or.inl rfl⟩
        · exact ⟨1, by unfold f_X12_worked; simp only [Int32.reduceEq, ↓reduceIte, q1, q2], by decide, by decide, fun _ => Or.inr rfl⟩
    · by_cases q1 : lg_cmp a.toInt64 0 = 0
      · by_cases q2 : lg_cmp b.toInt64 0 = 0
        · exact ⟨0, by unfold f_X12_worked; simp only [Int32.reduceEq, ↓reduceIte, q1, q2], by decide, by decide, fun _ => Or.inl rfl⟩
        · exact ⟨1, by unfold f_X12_worked; simp only [Int32.reduceEq, ↓reduceIte, q1, q2], by decide, by decide, fun _ => Or.inr rfl⟩
      · exact ⟨1, by unfold f_X12_worked; simp only [Int32.reduceEq, ↓reduceIte, q1], by decide, by decide, fun _ => Or.inr rfl⟩
  obtain ⟨y, h1, h2⟩ := key
  have e : jn_ c a b = y := by
    unfold jn_
    rw [h1]
    rfl
  rw [e]
  exact ⟨h1, h2⟩
theorem f_of {α β : Type} {o : Option α} {a : α} {k : α → Option β} (e : o = some a) : o.bind k = k a := by
  rw [e]
  rfl
theorem jc_v {c a b v : Int32} (hc : sg2 c) (ha : -1000000 ≤ a.toInt ∧ a.toInt ≤ 1000000) (hb : -1000000 ≤ b.toInt ∧ b.toInt ≤ 1000000) (ht : c = 10 ∨ c = 11 → (a = 0 ∨ a = 1) ∧ (b = 0 ∨ b = 1)) : ((f_X2_joined (-100 - tk_c (c, v)) a b).bind fun p => f_X11_within p (-1000000) 1000000) = some (jn_ c a b) := by
  rw [← (jn_b (a := a) (b := b) hc).1]
  have b1 : f_X12_bounded 1 = some 1 := by decide
  have b0 : f_X12_bounded 0 = some 0 := by decide
  have id : ∀ o : Option Int32, (o.bind fun p => some p) = o := fun o => by cases o <;> rfl
  have z0 : (0 : Int64).toInt = 0 := rfl
  have w0 : (0 : Int32).toInt = 0 := rfl
  rcases hc with rfl | rfl | rfl | rfl | rfl | rfl | rfl | rfl | rfl
  · rw [show (-100 - tk_c (2, v) : Int32) = 43 from by simp [tk_c]]
    unfold f_X2_joined f_X12_worked
    simp only [Int32.reduceEq, ↓reduceIte, Option.bind_some, wb_, id]
  · rw [show (-100 - tk_c (3, v) : Int32) = 45 from by simp [tk_c]]
    unfold f_X2_joined f_X12_worked
    simp only [Int32.reduceEq, ↓reduceIte, Option.bind_some, wb_, id]
  · rw [show (-100 - tk_c (4, v) : Int32) = 42 from by simp [tk_c]]
    unfold f_X2_joined f_X12_worked
    simp only [Int32.reduceEq, ↓reduceIte, Option.bind_some, wb_, id]
  · rw [show (-100 - tk_c (5, v) : Int32) = 47 from by simp [tk_c]]
    unfold f_X2_joined f_X12_worked
    by_cases q : b = 0
    · have q2 : lg_cmp b.toInt64 0 = 0 := by rw [q]; decide
      simp only [Int32.reduceEq, ↓reduceIte, Option.bind_some, wb_, id, q2, q, b0]
    · have q2 : ¬ lg_cmp b.toInt64 0 = 0 := by
        rw [lc_0, Int32.toInt_toInt64, z0]
        exact fun h => q (i_eq.mpr h)
      have q3 : ¬ b.toInt64 = 0 := fun h => q2 (by rw [h]; decide)
      have q4 : (a / b).toInt64 = a.toInt64 / b.toInt64 := Int32.toInt64_div_of_ne_left a b (fun h => by
        rw [h] at ha
        exact absurd ha (by decide))
      simp only [Int32.reduceEq, ↓reduceIte, Option.bind_some, wb_, id, q2, q, q3, q4]
  · rw [show (-100 - tk_c (6, v) : Int32) = 61 from by simp [tk_c]]
    unfold f_X2_joined f_X12_worked
    by_cases q : a = b
    · have q2 : lg_cmp a.toInt64 b.toInt64 = 0 := by rw [lc_0, q]
      simp only [Int32.reduceEq, ↓reduceIte, Option.bind_some, wb_, q, b1]
      rw [← q, q2] at *
      rfl
    · have q2 : ¬ lg_cmp a.toInt64 b.toInt64 = 0 := by
        rw [lc_0, Int32.toInt_toInt64, Int32.toInt_toInt64]
        exact fun h => q (i_eq.mpr h)
      simp only [Int32.reduceEq, ↓reduceIte, Option.bind_some, wb_, q2, q, b0]
  · rw [show (-100 - tk_c (7, v) : Int32) = 60 from by simp [tk_c]]
    unfold f_X2_joined f_X12_worked
    by_cases q : a < b
    · have q2 : lg_cmp a.toInt64 b.toInt64 < 0 := by rw [lc_n, Int32.toInt_toInt64, Int32.toInt_toInt64]; exact i_lt.mp q
      simp only [Int32.reduceEq, ↓reduceIte, Option.bind_some, wb_, q2, q, b1]
    · have q2 : ¬ lg_cmp a.toInt64 b.toInt64 < 0 := by rw [lc_n, Int32.toInt_toInt64, Int32.toInt_toInt64]; exact fun h => q (i_lt.mpr h)
      simp only [Int32.reduceEq, ↓reduceIte, Option.bind_some, wb_, q2, q, b0]
  · rw [show (-100 - tk_c (8, v) : Int32) = 62 from by simp [tk_c]]
    unfold f_X2_joined f_X12_worked
    by_cases q : b < a
    · have q2 : 0 < lg_cmp a.toInt64 b.toInt64 := by rw [lc_p, Int32.toInt_toInt64, Int32.toInt_toInt64]; exact i_lt.mp q
      simp only [Int32.reduceEq, ↓reduceIte, Option.bind_some, wb_, q2, q, b1]
    · have q2 : ¬ 0 < lg_cmp a.toInt64 b.toInt64 := by rw [lc_p, Int32.toInt_toInt64, Int32.toInt_toInt64]; exact fun h => q (i_lt.mpr h)
      simp only [Int32.reduceEq, ↓reduceIte, Option.bind_some, wb_, q2, q, b0]
  · rw [show (-100 - tk_c (10, v) : Int32) = 38 from by simp [tk_c]]
    obtain ⟨h1, h2⟩ := ht (Or.inl rfl)
    rcases h1 with rfl | rfl <;> rcases h2 with rfl | rfl <;> decide
  · rw [show (-100 - tk_c (11, v) : Int32) = 124 from by simp [tk_c]]
    obtain ⟨h1, h2⟩ := ht (Or.inr rfl)
    rcases h1 with rfl | rfl <;> rcases h2 with rfl | rfl <;> decide
/-- a token at work on the numbers piled up, the last first -/
def ev_1 (lt : Nat → Int32) (t : Tk) (s : List Int32) : List Int32 :=
  if t.1 = 0 then t.2 :: s else if t.1 = 1 then lt t.2.toNatClampNeg :: s
  else if t.1 = 9 then (match s with | a :: r => (1 - a) :: r | [] => [])
  else (match s with | b :: a :: r => jn_ t.1 a b :: r | s => s)
def ev_ (lt : Nat → Int32) : List Tk → List Int32 → List Int32
  | [], s => s
  | t :: r, s => ev_ lt r (ev_1 lt t s)
def okv : List Bool → List Int32 → Prop
  | [], [] => True
  | k :: ks, v :: vs => (-1000000 ≤ v.toInt ∧ v.toInt ≤ 1000000) ∧ (k = true → v = 0 ∨ v = 1) ∧ okv ks vs
  | _, _ => False
theorem okv_len : ∀ {ks : List Bool} {s : List Int32}, okv ks s → s.length = ks.length
  | [], [], _ => rfl
  | _ :: _, _ :: _, h => congrArg (· + 1) (okv_len h.2.2)
  | [], _ :: _, h => h.elim
  | _ :: _, [], h => h.elim
/-- what a token does, by its sort: a number to be piled, a not, or a sign between two -/
theorem ck_c {t : Tk} {ks ks' : List Bool} (h : ck_1 t ks = some ks') {s : List Int32} (hs : okv ks s) {lt : Nat → Int32} (hl : ∀ k, k < 6 → -1000000 ≤ (lt k).toInt ∧ (lt k).toInt ≤ 1000000) :
    ((t.1 = 0 ∧ 0 ≤ t.2.toInt ∧ t.2.toInt ≤ 9999 ∧ s.length < 62 ∧ ev_1 lt t s = t.2 :: s) ∨ (t.1 = 1 ∧ 0 ≤ t.2.toInt ∧ t.2.toInt ≤ 5 ∧ s.length < 62 ∧ ev_1 lt t s = lt t.2.toNatClampNeg :: s) ∨ (t.1 = 9 ∧ ∃ a r, s = a :: r ∧ (a = 0 ∨ a = 1) ∧ ev_1 lt t s = (1 - a) :: r) ∨ (sg2 t.1 ∧ ∃ a b r, s = b :: a :: r ∧ (-1000000 ≤ a.toInt ∧ a.toInt ≤ 1000000) ∧ (-1000000 ≤ b.toInt ∧ b.toInt ≤ 1000000) ∧ (t.1 = 10 ∨ t.1 = 11 → (a = 0 ∨ a = 1) ∧ (b = 0 ∨ b = 1)) ∧ ev_1 lt t s = jn_ t.1 a b :: r)) ∧ okv ks' (ev_1 lt t s) := by
  have hlen := okv_len hs
  unfold ck_1 at h
  by_cases c0 : t.1 = 0
  · rw [if_pos (Or.inl c0)] at h
    have ee : ev_1 lt t s = t.2 :: s := by unfold ev_1; rw [if_pos c0]
    split at h
    · rename_i q
      cases h
      rw [ee]
      exact ⟨Or.inl ⟨c0, q.2.1, q.2.2.1, by omega, rfl⟩, ⟨by omega, by omega⟩, fun h => absurd h (by decide), hs⟩
    · cases h
  by_cases c1 : t.1 = 1
  · rw [if_pos (Or.inr c1)] at h
    have ee : ev_1 lt t s = lt t.2.toNatClampNeg :: s := by unfold ev_1; rw [if_neg c0, if_pos c1]
    split at h
    · rename_i q
      cases h
      rw [ee]
      have q5 := q.2.2.2 c1
      exact ⟨Or.inr (Or.inl ⟨c1, q.2.1, q5, by omega, rfl⟩), hl _ (by rw [i_tn]; omega), fun h => absurd h (by decide), hs⟩
    · cases h
  rw [if_neg (by rintro (q | q); exacts [c0 q, c1 q])] at h
  by_cases c9 : t.1 = 9
  · rw [if_pos c9] at h
    match ks, s, hs, h with
    | true :: ks, a :: s, hs, h =>
      cases h
      have ha := hs.2.1 rfl
      have ee : ev_1 lt t (a :: s) = (1 - a) :: s := by unfold ev_1; rw [if_neg c0, if_neg c1, if_pos c9]
      rw [ee]
      refine ⟨Or.inr (Or.inr (Or.inl ⟨c9, a, s, rfl, ha, rfl⟩)), ?_, ?_, hs.2.2⟩
      · rcases ha with rfl | rfl <;> decide
      · intro _
        rcases ha with rfl | rfl
        · exact Or.inr (by decide)
        · exact Or.inl (by decide)
    | false :: ks, a :: s, hs, h => cases h
    | [], [], hs, h => cases h
  rw [if_neg c9] at h
  have e2 : ∀ a b r, ev_1 lt t (b :: a :: r) = jn_ t.1 a b :: r := by
    intro a b r
    unfold ev_1
    rw [if_neg c0, if_neg c1, if_neg c9]
  by_cases cA : t.1 = 10 ∨ t.1 = 11
  · rw [if_pos cA] at h
    have hg : sg2 t.1 := by unfold sg2; rcases cA with q | q <;> simp [q]
    match ks, s, hs, h with
    | true :: true :: ks, b :: a :: s, hs, h =>
      cases h
      have j := jn_b (a := a) (b := b) hg
      rw [e2]
      exact ⟨Or.inr (Or.inr (Or.inr ⟨hg, a, b, s, rfl, hs.2.2.1, hs.1, fun _ => ⟨hs.2.2.2.1 rfl, hs.2.1 rfl⟩, rfl⟩)), ⟨j.2.1, j.2.2.1⟩, fun _ => j.2.2.2 (by rcases cA with q | q <;> simp [q]), hs.2.2.2.2⟩
    | true :: false :: ks, b :: a :: s, hs, h => cases h
    | false :: ks, b :: s, hs, h => cases h
    | [true], [b], hs, h => cases h
    | [], [], hs, h => cases h
  rw [if_neg cA] at h
  by_cases cB : t.1 = 2 ∨ t.1 = 3 ∨ t.1 = 4 ∨ t.1 = 5
  · rw [if_pos cB] at h
    have hg : sg2 t.1 := by unfold sg2; rcases cB with q | q | q | q <;> simp [q]
    match ks, s, hs, h with
    | false :: false :: ks, b :: a :: s, hs, h =>
      cases h
      have j := jn_b (a := a) (b := b) hg
      rw [e2]
      exact ⟨Or.inr (Or.inr (Or.inr ⟨hg, a, b, s, rfl, hs.2.2.1, hs.1, fun q => absurd q cA, rfl⟩)), ⟨j.2.1, j.2.2.1⟩, fun q => absurd q (by decide), hs.2.2.2.2⟩
    | false :: true :: ks, b :: a :: s, hs, h => cases h
    | true :: ks, b :: s, hs, h => cases h
    | [false], [b], hs, h => cases h
    | [], [], hs, h => cases h
  rw [if_neg cB] at h
  by_cases cC : t.1 = 6 ∨ t.1 = 7 ∨ t.1 = 8
  · rw [if_pos cC] at h
    have hg : sg2 t.1 := by unfold sg2; rcases cC with q | q | q <;> simp [q]
    match ks, s, hs, h with
    | false :: false :: ks, b :: a :: s, hs, h =>
      cases h
      have j := jn_b (a := a) (b := b) hg
      rw [e2]
      exact ⟨Or.inr (Or.inr (Or.inr ⟨hg, a, b, s, rfl, hs.2.2.1, hs.1, fun q => absurd q cA, rfl⟩)), ⟨j.2.1, j.2.2.1⟩, fun _ => j.2.2.2 (by rcases cC with q | q | q <;> simp [q]), hs.2.2.2.2⟩
    | false :: true :: ks, b :: a :: s, hs, h => cases h
    | true :: ks, b :: s, hs, h => cases h
    | [false], [b], hs, h => cases h
    | [], [], hs, h => cases h
  · rw [if_neg cC] at h
    cases h
/-- a row holds what is piled up -/
def sk_ (f : Nat → Int32) (s : List Int32) : Prop := ∀ i, i < s.length → f i = s.getD (s.length - 1 - i) 0
theorem sk_nil {f : Nat → Int32} : sk_ f [] := fun i hi => absurd hi (by simp)
theorem sk_top {f : Nat → Int32} {a : Int32} {s : List Int32} (h : sk_ f (a :: s)) : f s.length = a := by
  have := h s.length (by simp)
  simpa using this
theorem sk_tl {f : Nat → Int32} {a : Int32} {s : List Int32} (h : sk_ f (a :: s)) : sk_ f s := by
  intro i hi
  have q := h i (by simp; omega)
  rw [q]
  have : (a :: s).length - 1 - i = (s.length - 1 - i) + 1 := by simp; omega
  rw [this, List.getD_cons_succ]
theorem sk_cons {f f' : Nat → Int32} {a : Int32} {s : List Int32} (h : sk_ f s) (e : f' s.length = a) (e2 : ∀ i, i < s.length → f' i = f i) : sk_ f' (a :: s) := by
  intro i hi
  have hi : i < s.length + 1 := by simpa using hi
  by_cases q : i = s.length
  · subst q
    rw [e]
    simp
  · rw [e2 i (by omega), h i (by omega)]
    have : (a :: s).length - 1 - i = (s.length - 1 - i) + 1 := by simp; omega
    rw [this, List.getD_cons_succ]
/-! the class's machine -/
def KL (b : Nat) (σ τ : Sg) : Prop := kp_ σ τ ∧ ∀ a j, ¬ (a = b ∧ j = 2) → a ≠ b + 2 → sg_I τ a j = sg_I σ a j
theorem KL.rf {b : Nat} {σ : Sg} : KL b σ σ := ⟨kp_.rf, fun _ _ _ _ => rfl⟩
theorem KL.tr {b : Nat} {σ τ υ : Sg} (h : KL b σ τ) (k : KL b τ υ) : KL b σ υ := ⟨h.1.tr k.1, fun a j h1 h2 => (k.2 a j h1 h2).trans (h.2 a j h1 h2)⟩
def LS (σ : Sg) (b e : Nat) (C : List Int32) (lt : Nat → Int32) (s : List Int32) : Prop := (sg_R σ b 0 = some (b + 1) ∧ sg_R σ b 1 = some (b + 2) ∧ sg_L σ (b + 1) = C.length ∧ sg_L σ (b + 2) = 64 ∧ sl_ (sg_I σ (b + 1)) 0 C ∧ sg_L σ e = 6 ∧ (∀ k, k < 6 → sg_I σ e k = lt k) ∧ e ≠ b ∧ e ≠ b + 2) ∧ sg_I σ b 2 = Int32.ofNat s.length ∧ sk_ (sg_I σ (b + 2)) s
theorem LS.mv {σ τ : Sg} {b e : Nat} {C : List Int32} {lt : Nat → Int32} {s s' : List Int32} (h : LS σ b e C lt s) (k : KL b σ τ) (h1 : sg_I τ b 2 = Int32.ofNat s'.length) (h2 : sk_ (sg_I τ (b + 2)) s') : LS τ b e C lt s' := by
  obtain ⟨⟨q1, q2, q3, q4, q5, q6, q7, q8, q9⟩, -, -⟩ := h
  refine ⟨⟨by rw [k.1.2.1]; exact q1, by rw [k.1.2.1]; exact q2, by rw [k.1.2.2.1]; exact q3, by rw [k.1.2.2.1]; exact q4, sl_q (fun j _ _ => k.2 _ _ (by omega) (by omega)) q5, by rw [k.1.2.2.1]; exact q6, fun i hi => by rw [k.2 _ _ (by omega) q9]; exact q7 i hi, q8, q9⟩, h1, h2⟩
theorem pu_v {σ : Sg} {b e : Nat} {C : List Int32} {lt : Nat → Int32} {v : Int32} {s : List Int32} (h : LS σ b e C lt (v :: s)) (hs : s.length < 64) : ∃ τ, f_X2_pull b σ = some (v, τ) ∧ LS τ b e C lt s ∧ KL b σ τ := by
  have k : KL b σ (put_I σ b 2 (Int32.ofNat s.length)) := ⟨kp_.put, fun a j h1 _ => gI_n (by omega)⟩
  have e2 : sg_I σ b 2 = Int32.ofNat (s.length + 1) := h.2.1
  refine ⟨put_I σ b 2 (Int32.ofNat s.length), ?_, h.mv k gI_e ?_, k⟩
  · unfold f_X2_pull
    rw [e2, if_neg (by rw [l_1, o_lt (by omega) (by omega)]; omega), l_1, o_sub (by omega), Nat.add_sub_cancel, gI_e]
    simp only [gR_I, gL_I, h.1.2.1, Option.bind_some, h.1.2.2.2.1]
    rw [if_neg (o_in (by omega) (by omega)), o_tn (by omega), gI_n (by omega), sk_top h.2.2]
  · rw [gI_a (by omega)]
    exact sk_tl h.2.2
theorem pi_v {σ : Sg} {b e : Nat} {C : List Int32} {lt : Nat → Int32} {v : Int32} {s : List Int32} (h : LS σ b e C lt s) (hs : s.length < 64) : ∃ τ, f_X2_pile b v σ = some τ ∧ LS τ b e C lt (v :: s) ∧ KL b σ τ := by
  have k : KL b σ (put_I (put_I σ (b + 2) s.length v) b 2 (Int32.ofNat (s.length + 1))) := ⟨kp_.put.tr kp_.put, fun a j h1 h2 => by rw [gI_n (by omega), gI_n (by omega)]⟩
  refine ⟨_, ?_, h.mv k gI_e ?_, k⟩
  · unfold f_X2_pile
    simp only [h.1.2.1, Option.bind_some, h.1.2.2.2.1, h.2.1]
    rw [if_pos (by rw [o_lt (by omega) (by omega)]; omega), if_neg (o_in (by omega) (by omega)), o_tn (by omega), gI_n (by omega), h.2.1, o_s]
  · rw [gI_a (by omega)]
    exact sk_cons h.2.2 gI_e (fun i hi => gI_n (by omega))
