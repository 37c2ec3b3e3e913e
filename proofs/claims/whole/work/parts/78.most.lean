/-! ===== the most of all ===== -/
theorem cr_3 {σ : Sg} (c : CF (sg_R σ) (sg_L σ)) : sg_R σ 0 13 = some 17 ∧ sg_R σ 17 0 = some 18 ∧ sg_L σ 18 = 4 := ⟨by simp only [c], by simp only [c], by simp only [c]⟩
theorem dl_v {a b : Nat} (ha : a ≤ 1000) (hb : b ≤ 1000) : (0 < Int32.ofNat a - Int32.ofNat b) ↔ b < a := by
  have h1 := o_ti (show a < 2147483648 by omega)
  have h2 := o_ti (show b < 2147483648 by omega)
  have e0 : (0 : Int32).toInt = 0 := rfl
  rw [i_lt, i_sub (by omega) (by omega), e0]
  omega
/-- the first of those with the most -/
def tb_ (f : Nat → Nat) : Nat → Nat → Nat → Nat
  | 0, _, u => u
  | j + 1, k, u => tb_ f j (k + 1) (if f u < f k then k else u)
theorem fa_c {σ : Sg} {n : Nat} {f : Nat → Nat} (c : CF (sg_R σ) (sg_L σ)) (w18 : ∀ w, w < 4 → sg_R σ 18 w = some (20 + w)) (hn : n ≤ 4) (e : sg_I σ 17 1 = Int32.ofNat n) (hf : ∀ w, w < n → sg_I σ (20 + w) 0 = Int32.ofNat (f w) ∧ f w ≤ 1000) : ∀ (j k u m : Nat), k + j = n → u < n → j < m → f_X11_fastest_L4 20000 0 m (Int32.ofNat u) (Int32.ofNat k) σ = some (Int32.ofNat (tb_ f j k u)) := by
  obtain ⟨R1, R2, L2⟩ := cr_3 c
  intro j
  induction j with
  | zero =>
    intro k u m hk hu hm
    obtain ⟨m, rfl⟩ : ∃ x, m = x + 1 := ⟨m - 1, by omega⟩
    rw [f_X11_fastest_L4, f_of R1, e, if_neg (by rw [o_lt (by omega) (by omega)]; omega), tb_]
  | succ j ih =>
    intro k u m hk hu hm
    obtain ⟨m, rfl⟩ : ∃ x, m = x + 1 := ⟨m - 1, by omega⟩
    obtain ⟨f1, f2⟩ := hf k (by omega)
    obtain ⟨f3, f4⟩ := hf u hu
    rw [f_X11_fastest_L4, f_of R1, e, if_pos (by rw [o_lt (by omega) (by omega)]; omega), f_of R2, L2, if_neg (o_in (by omega) (by omega)), o_tn (by omega), f_of (w18 k (by omega)), if_neg (o_in (by omega) (by omega)), o_tn (by omega), f_of (w18 u (by omega)), f1, f3, tb_]
    unfold f_X11_fastest_B47
    rw [o_s k]
    by_cases q : f u < f k
    · rw [if_pos (by rw [o_lt (by omega) (by omega)]; exact q), if_pos q]
      exact ih (k + 1) k m (by omega) (by omega) (by omega)
    · rw [if_neg (by rw [o_lt (by omega) (by omega)]; exact q), if_neg q]
      exact ih (k + 1) u m (by omega) hu (by omega)
theorem lo_c {σ ρ : Sg} (r : Rel σ ρ) {n : Nat} {g : Nat → Nat} (hn : n ≤ 4) (e : sg_I σ 17 1 = Int32.ofNat n) (hg : ∀ w, w < n → g w ≤ 5 ∧ sg_I σ (20 + w) 3 = Int32.ofNat (g w)) : ∀ (j k u m : Nat), k + j = n → u < n → j < m → f_X11_longest_L4 20000 0 m (Int32.ofNat u) (Int32.ofNat k) σ = some (Int32.ofNat (tb_ (fun w => hL (sg_I ρ) (g w)) j k u)) := by
  obtain ⟨R1, R2, L2⟩ := cr_3 r.cf
  have w18 := r.w18
  have sz : ∀ w, w < n → ∃ b, f_X11_stripOf 0 (some (20 + w)) σ = some (some b) ∧ f_X8_size b σ = some (Int32.ofNat (hL (sg_I ρ) (g w))) ∧ hL (sg_I ρ) (g w) ≤ 16 := by
    intro w hw
    obtain ⟨b, cc, so1, so2, so3, -, so5, -⟩ := so_v r (show g w ≤ 100 by have := (hg w hw).1; omega) (hg w hw).2
    exact ⟨b, so1, sz_v so2 so3, so5⟩
  intro j
  induction j with
  | zero =>
    intro k u m hk hu hm
    obtain ⟨m, rfl⟩ : ∃ x, m = x + 1 := ⟨m - 1, by omega⟩
    rw [f_X11_longest_L4, f_of R1, e, if_neg (by rw [o_lt (by omega) (by omega)]; omega), tb_]
  | succ j ih =>
    intro k u m hk hu hm
    obtain ⟨m, rfl⟩ : ∃ x, m = x + 1 := ⟨m - 1, by omega⟩
    obtain ⟨b, b1, b2, b3⟩ := sz k (by omega)
    obtain ⟨b', b1', b2', b3'⟩ := sz u hu
    have ih1 := ih (k + 1) k m (by omega) (by omega) (by omega)
    have ih2 := ih (k + 1) u m (by omega) hu (by omega)
    rw [f_X11_longest_L4, f_of R1, e, if_pos (by rw [o_lt (by omega) (by omega)]; omega), f_of R2, L2, if_neg (o_in (by omega) (by omega)), o_tn (by omega), w18 k (by omega), f_of b1, f_of (rfl : some b = some b), f_of b2, if_neg (o_in (by omega) (by omega)), o_tn (by omega), w18 u (by omega), f_of b1', f_of (rfl : some b' = some b'), f_of b2', tb_]
    unfold f_X11_longest_B55
    rw [o_s k]
    by_cases q : hL (sg_I ρ) (g u) < hL (sg_I ρ) (g k)
    · rw [if_pos (by rw [o_lt (by omega) (by omega)]; exact q), if_pos q]
      exact ih1
    · rw [if_neg (by rw [o_lt (by omega) (by omega)]; exact q), if_neg q]
      exact ih2
theorem tb_r {ρ : Sg} {n : Nat} {f : Nat → Nat} {x : Int32} (hn : n ≤ 4) (e : sg_I ρ 344 20 = Int32.ofNat n) (hf : ∀ w, w < n → f w ≤ 1000 ∧ (if x = 0 then f_X12_longOf 344 (Int32.ofNat w) ρ else f_X12_of 344 (Int32.ofNat w) 0 ρ) = some (Int32.ofNat (f w))) : ∀ (j k u m : Nat), k + j = n → u < n → j < m → f_X12_topBy_L4 20000 344 m x (Int32.ofNat u) (Int32.ofNat k) ρ = some (Int32.ofNat (tb_ f j k u)) := by
  intro j
  induction j with
  | zero =>
    intro k u m hk hu hm
    obtain ⟨m, rfl⟩ : ∃ x, m = x + 1 := ⟨m - 1, by omega⟩
    rw [f_X12_topBy_L4, e, if_neg (by rw [o_lt (by omega) (by omega)]; omega), tb_]
  | succ j ih =>
    intro k u m hk hu hm
    obtain ⟨m, rfl⟩ : ∃ x, m = x + 1 := ⟨m - 1, by omega⟩
    obtain ⟨f1, f2⟩ := hf k (by omega)
    obtain ⟨f3, f4⟩ := hf u hu
    have ih1 := ih (k + 1) k m (by omega) (by omega) (by omega)
    have ih2 := ih (k + 1) u m (by omega) hu (by omega)
    have B : f_X12_topBy_B43 20000 344 (fun v1 v2 v3 => f_X12_topBy_L4 20000 344 m v1 v2 v3 ρ) x (Int32.ofNat u) (Int32.ofNat k) (Int32.ofNat (f k) - Int32.ofNat (f u)) ρ = some (Int32.ofNat (tb_ f (j + 1) k u)) := by
      unfold f_X12_topBy_B43 f_X12_topBy_B55
      rw [o_s k, tb_]
      by_cases q : f u < f k
      · rw [if_pos ((dl_v f1 f3).mpr q), if_pos q]
        exact ih1
      · rw [if_neg (fun h => q ((dl_v f1 f3).mp h)), if_neg q]
        exact ih2
    rw [f_X12_topBy_L4, e, if_pos (by rw [o_lt (by omega) (by omega)]; omega)]
    by_cases hx : x = 0
    · rw [if_pos hx] at f2 f4 ⊢
      rw [f_of f2, f_of f4]
      exact B
    · rw [if_neg hx] at f2 f4 ⊢
      rw [f_of f2, f_of f4]
      exact B
/-! the commonest picture -/
def ex_ (Q : Nat → Bool) : Nat → Bool
  | 0 => false
  | k + 1 => ex_ Q k || Q k
theorem ha_c {σ : Sg} {b l : Nat} {P : Nat → Int32} (h : SP σ b l P) (x : Int32) : f_X8_has 20000 b x σ = some (bi_ (ex_ (fun i => decide (P i = x)) l)) := by
  obtain ⟨c, h1, h2, h3, h4, h5⟩ := h
  have lp : ∀ (j i m : Nat), i + j = l → j < m → f_X8_has_L14 20000 b m x (bi_ (ex_ (fun i => decide (P i = x)) i)) (some c) (Int32.ofNat l) (Int32.ofNat i) σ = some (bi_ (ex_ (fun i => decide (P i = x)) l)) := by
    intro j
    induction j with
    | zero =>
      intro i m hi hm
      obtain ⟨m, rfl⟩ : ∃ x, m = x + 1 := ⟨m - 1, by omega⟩
      have hi : i = l := by omega
      subst hi
      rw [f_X8_has_L14, if_neg (by rw [o_lt (by omega) (by omega)]; omega)]
      cases ex_ (fun i => decide (P i = x)) i <;> rfl
    | succ j ih =>
      intro i m hi hm
      obtain ⟨m, rfl⟩ : ∃ x, m = x + 1 := ⟨m - 1, by omega⟩
      have ih1 := ih (i + 1) m (by omega) (by omega)
      have es : ex_ (fun i => decide (P i = x)) (i + 1) = (ex_ (fun i => decide (P i = x)) i || decide (P i = x)) := rfl
      rw [es] at ih1
      rw [f_X8_has_L14, if_pos (by rw [o_lt (by omega) (by omega)]; omega), f_of (rfl : some c = some c), h2, if_neg (o_in (by omega) (by omega)), o_tn (by omega), h5 i (by omega)]
      unfold f_X8_has_B37 f_X8_has_B42
      rw [o_s i]
      cases hb : ex_ (fun i => decide (P i = x)) i with
      | false =>
        rw [hb, Bool.false_or] at ih1
        rw [if_pos bi_f]
        by_cases q : P i = x
        · rw [decide_eq_true q] at ih1
          rw [if_pos q]
          exact ih1
        · rw [decide_eq_false q] at ih1
          rw [if_neg q]
          exact ih1
      | true =>
        rw [hb, Bool.true_or] at ih1
        rw [if_neg bi_t]
        exact ih1
  have l0 := lp l 0 20000 (by omega) (by omega)
  have l1 : f_X8_has_L14 20000 b 20000 x 0 (some c) (Int32.ofNat l) 0 σ = some (bi_ (ex_ (fun i => decide (P i = x)) l)) := l0
  unfold f_X8_has
  rw [f_of h1, h1, h2, l1]
/-- how many strips have a picture -/
def cq_ (h : Nat → Nat → Int32) (x : Nat) : Nat := ct_ (fun s => ex_ (fun i => decide (hP h s i = Int32.ofNat x)) (hL h s)) (hS h)
theorem co_c {σ ρ : Sg} (r : Rel σ ρ) {k6 : Int32 → Int32 → Int32 → Option Int32} {best : Int32} {bc x : Nat} (hbc : bc ≤ 10) : ∀ (j s m : Nat), s + j = hS (sg_I ρ) → j < m → f_X11_commonest_L18 20000 0 k6 m best (Int32.ofNat bc) (Int32.ofNat x) (Int32.ofNat (ct_ (fun s => ex_ (fun i => decide (hP (sg_I ρ) s i = Int32.ofNat x)) (hL (sg_I ρ) s)) s)) (Int32.ofNat s) σ = if bc < cq_ (sg_I ρ) x then k6 (Int32.ofNat x) (Int32.ofNat (cq_ (sg_I ρ) x)) (Int32.ofNat (x + 1)) else k6 best (Int32.ofNat bc) (Int32.ofNat (x + 1)) := by
  obtain ⟨g1, g2, g3⟩ := r.hs
  have c := r.cf
  have R8 : sg_R σ 0 8 = some 13 := by simp only [c]
  have L13 : sg_L σ 13 = 6 := by simp only [c]
  intro j
  induction j with
  | zero =>
    intro s m hs hm
    obtain ⟨m, rfl⟩ : ∃ x, m = x + 1 := ⟨m - 1, by omega⟩
    have hs : s = hS (sg_I ρ) := by omega
    have hle := ct_le (Q := fun s => ex_ (fun i => decide (hP (sg_I ρ) s i = Int32.ofNat x)) (hL (sg_I ρ) s)) s
    rw [f_X11_commonest_L18, g2, if_neg (by rw [o_lt (by omega) (by omega)]; omega)]
    unfold f_X11_commonest_B77
    have ec : cq_ (sg_I ρ) x = ct_ (fun s => ex_ (fun i => decide (hP (sg_I ρ) s i = Int32.ofNat x)) (hL (sg_I ρ) s)) s := by rw [hs]; rfl
    rw [o_s x, ec]
    by_cases q : bc < ct_ (fun s => ex_ (fun i => decide (hP (sg_I ρ) s i = Int32.ofNat x)) (hL (sg_I ρ) s)) s
    · rw [if_pos (by rw [o_lt (by omega) (by omega)]; exact q), if_pos q]
    · rw [if_neg (by rw [o_lt (by omega) (by omega)]; exact q), if_neg q]
  | succ j ih =>
    intro s m hs hm
    obtain ⟨m, rfl⟩ : ∃ x, m = x + 1 := ⟨m - 1, by omega⟩
    have ih1 := ih (s + 1) m (by omega) (by omega)
    obtain ⟨b, b1, b2, b3, b4, b5⟩ := r.ss (show s < hS (sg_I ρ) by omega)
    have is := is_v r (Int32.ofNat s)
    rw [if_pos (by rw [o_ti (by omega)]; omega)] at is
    have hc := ha_c b2 (Int32.ofNat x)
    have es : ct_ (fun s => ex_ (fun i => decide (hP (sg_I ρ) s i = Int32.ofNat x)) (hL (sg_I ρ) s)) (s + 1) = ct_ (fun s => ex_ (fun i => decide (hP (sg_I ρ) s i = Int32.ofNat x)) (hL (sg_I ρ) s)) s + (if ex_ (fun i => decide (hP (sg_I ρ) s i = Int32.ofNat x)) (hL (sg_I ρ) s) = true then 1 else 0) := rfl
    rw [es] at ih1
    rw [f_X11_commonest_L18, g2, if_pos (by rw [o_lt (by omega) (by omega)]; omega), f_of is, if_neg (by decide), f_of R8, L13, if_neg (o_in (by omega) (by omega)), o_tn (by omega), f_of b1, f_of hc]
    unfold f_X11_commonest_B56 f_X11_commonest_B57
    rw [o_s s]
    cases hb : ex_ (fun i => decide (hP (sg_I ρ) s i = Int32.ofNat x)) (hL (sg_I ρ) s) with
    | false =>
      rw [hb, if_neg (by decide), Nat.add_zero] at ih1
      rw [if_pos bi_f, Int32.add_zero]
      exact ih1
    | true =>
      rw [hb, if_pos rfl] at ih1
      rw [if_neg bi_t, o_s]
      exact ih1
theorem sw_r {σ ρ : Sg} (r : Rel σ ρ) {x : Nat} (hx : x ≤ 100) : f_X12_stripsWith 20000 344 (Int32.ofNat x) ρ = some (Int32.ofNat (cq_ (sg_I ρ) x)) := by
  obtain ⟨g1, g2, g3⟩ := r.hs
  have d := r.rf
  have R22 : sg_R ρ 344 22 = some 358 := by simp only [d]
  have L22 : sg_L ρ 358 = 7 := by simp only [d]
  have R21 : sg_R ρ 344 21 = some 357 := by simp only [d]
  have L21 : sg_L ρ 357 = 112 := by simp only [d]
  have I : ∀ (s : Nat), s < hS (sg_I ρ) → ∀ (K : Int32 → Int32 → Int32 → Option Int32) (a : Nat) (j i m : Nat), i + j = hL (sg_I ρ) s → j < m → f_X12_stripsWith_L18 20000 344 K m (Int32.ofNat x) (Int32.ofNat a) (Int32.ofNat s) (bi_ (ex_ (fun i => decide (hP (sg_I ρ) s i = Int32.ofNat x)) i)) (Int32.ofNat i) ρ = K (Int32.ofNat x) (Int32.ofNat (a + (if ex_ (fun i => decide (hP (sg_I ρ) s i = Int32.ofNat x)) (hL (sg_I ρ) s) = true then 1 else 0))) (Int32.ofNat (s + 1)) := by
    intro s hs K a
    obtain ⟨b, b1, b2, b3, b4, b5⟩ := r.ss hs
    intro j
    induction j with
    | zero =>
      intro i m hi hm
      obtain ⟨m, rfl⟩ : ∃ x, m = x + 1 := ⟨m - 1, by omega⟩
      have hi : i = hL (sg_I ρ) s := by omega
      rw [f_X12_stripsWith_L18, f_of R22, L22, if_neg (o_in (by omega) (by omega)), o_tn (by omega), b3, if_neg (by rw [o_lt (by omega) (by omega)]; omega), hi]
      unfold f_X12_stripsWith_B74
      rw [o_s s]
      cases ex_ (fun i => decide (hP (sg_I ρ) s i = Int32.ofNat x)) (hL (sg_I ρ) s) with
      | false =>
        rw [if_pos bi_f, if_neg (by decide), Int32.add_zero]
        rfl
      | true => rw [if_neg bi_t, if_pos rfl, o_s]
    | succ j ih =>
      intro i m hi hm
      obtain ⟨m, rfl⟩ : ∃ x, m = x + 1 := ⟨m - 1, by omega⟩
      have ih1 := ih (i + 1) m (by omega) (by omega)
      have es : ex_ (fun i => decide (hP (sg_I ρ) s i = Int32.ofNat x)) (i + 1) = (ex_ (fun i => decide (hP (sg_I ρ) s i = Int32.ofNat x)) i || decide (hP (sg_I ρ) s i = Int32.ofNat x)) := rfl
      have hq : hP (sg_I ρ) s i = sg_I ρ 357 (16 * s + i) := by
        unfold hP
        rw [if_pos hs]
      rw [es] at ih1
      rw [f_X12_stripsWith_L18, f_of R22, L22, if_neg (o_in (by omega) (by omega)), o_tn (show s < 2147483648 by omega), b3, if_pos (by rw [o_lt (by omega) (by omega)]; omega)]
      unfold f_X12_stripsWith_B50 f_X12_stripsWith_B55
      rw [o_s i]
      cases hb : ex_ (fun i => decide (hP (sg_I ρ) s i = Int32.ofNat x)) i with
      | false =>
        rw [hb, Bool.false_or] at ih1
        rw [if_pos bi_f, f_of R21, L21, l_16, o_mul, o_add, if_neg (o_in (by omega) (by omega)), o_tn (by omega), ← hq]
        by_cases q : hP (sg_I ρ) s i = Int32.ofNat x
        · rw [decide_eq_true q] at ih1
          rw [if_pos q]
          exact ih1
        · rw [decide_eq_false q] at ih1
          rw [if_neg q]
          exact ih1
      | true =>
        rw [hb, Bool.true_or] at ih1
        rw [if_neg bi_t]
        exact ih1
  have O : ∀ (j s m : Nat), s + j = hS (sg_I ρ) → j < m → f_X12_stripsWith_L4 20000 344 m (Int32.ofNat x) (Int32.ofNat (ct_ (fun s => ex_ (fun i => decide (hP (sg_I ρ) s i = Int32.ofNat x)) (hL (sg_I ρ) s)) s)) (Int32.ofNat s) ρ = some (Int32.ofNat (cq_ (sg_I ρ) x)) := by
    intro j
    induction j with
    | zero =>
      intro s m hs hm
      obtain ⟨m, rfl⟩ : ∃ x, m = x + 1 := ⟨m - 1, by omega⟩
      have hs : s = hS (sg_I ρ) := by omega
      rw [f_X12_stripsWith_L4, g3, if_neg (by rw [o_lt (by omega) (by omega)]; omega), hs]
      rfl
    | succ j ih =>
      intro s m hs hm
      obtain ⟨m, rfl⟩ : ∃ x, m = x + 1 := ⟨m - 1, by omega⟩
      have ih1 := ih (s + 1) m (by omega) (by omega)
      obtain ⟨b, b1, b2, b3, b4, b5⟩ := r.ss (show s < hS (sg_I ρ) by omega)
      have i1 := I s (by omega) (fun v1 v2 v3 => f_X12_stripsWith_L4 20000 344 m v1 v2 v3 ρ) (ct_ (fun s => ex_ (fun i => decide (hP (sg_I ρ) s i = Int32.ofNat x)) (hL (sg_I ρ) s)) s) (hL (sg_I ρ) s) 0 20000 (by omega) (by omega)
      rw [f_X12_stripsWith_L4, g3, if_pos (by rw [o_lt (by omega) (by omega)]; omega)]
      exact i1.trans ih1
  have o0 := O (hS (sg_I ρ)) 0 20000 (by omega) (by omega)
  unfold f_X12_stripsWith
  exact o0
/-- the search for the commonest, on both sides -/
def cb_ (C : Nat → Nat) : Nat → Nat → Int32 → Nat → Int32
  | 0, _, best, _ => best
  | j + 1, k, best, bc => if bc < C k then cb_ C j (k + 1) (Int32.ofNat k) (C k) else cb_ C j (k + 1) best bc
def cd_ (C : Nat → Nat) : Nat → Nat → Nat → Int32
  | 0, _, u => if C u = 0 then -1 else Int32.ofNat u
  | j + 1, k, u => cd_ C j (k + 1) (if C u < C k then k else u)
theorem cb_d {C : Nat → Nat} : ∀ (j k u : Nat), cb_ C j k (if C u = 0 then -1 else Int32.ofNat u) (C u) = cd_ C j k u
  | 0, k, u => rfl
  | j + 1, k, u => by
    rw [cb_, cd_]
    by_cases q : C u < C k
    · rw [if_pos q, if_pos q, ← cb_d j (k + 1) k, if_neg (by omega)]
    · rw [if_neg q, if_neg q]
      exact cb_d j (k + 1) u
theorem cm_c {σ ρ : Sg} (r : Rel σ ρ) : ∀ (j k m bc : Nat) (best : Int32), k + j = 26 → j < m → bc ≤ 10 → f_X11_commonest_L6 20000 0 m best (Int32.ofNat bc) (Int32.ofNat k) σ = some (cb_ (cq_ (sg_I ρ)) j k best bc) := by
  obtain ⟨g1, g2, g3⟩ := r.hs
  intro j
  induction j with
  | zero =>
    intro k m bc best hk hm hbc
    obtain ⟨m, rfl⟩ : ∃ x, m = x + 1 := ⟨m - 1, by omega⟩
    rw [f_X11_commonest_L6, if_neg (by rw [l_26, o_lt (by omega) (by omega)]; omega), cb_]
  | succ j ih =>
    intro k m bc best hk hm hbc
    obtain ⟨m, rfl⟩ : ∃ x, m = x + 1 := ⟨m - 1, by omega⟩
    have hle : cq_ (sg_I ρ) k ≤ hS (sg_I ρ) := ct_le _
    have i1 := co_c r (k6 := fun v1 v2 v3 => f_X11_commonest_L6 20000 0 m v1 v2 v3 σ) (best := best) (bc := bc) (x := k) hbc (hS (sg_I ρ)) 0 20000 (by omega) (by omega)
    rw [f_X11_commonest_L6, if_pos (by rw [l_26, o_lt (by omega) (by omega)]; omega)]
    refine i1.trans ?_
    rw [cb_]
    by_cases q : bc < cq_ (sg_I ρ) k
    · rw [if_pos q, if_pos q]
      exact ih (k + 1) m _ _ (by omega) (by omega) (by omega)
    · rw [if_neg q, if_neg q]
      exact ih (k + 1) m bc best (by omega) (by omega) hbc
theorem cm_r {σ ρ : Sg} (r : Rel σ ρ) : ∀ (j k m u : Nat), k + j = 26 → j < m → u ≤ 26 → f_X12_commonest_L4 20000 344 m (Int32.ofNat u) (Int32.ofNat k) ρ = some (cd_ (cq_ (sg_I ρ)) j k u) := by
  have hle : ∀ k, cq_ (sg_I ρ) k ≤ hS (sg_I ρ) := fun k => ct_le _
  have g1 := r.hs.1
  intro j
  induction j with
  | zero =>
    intro k m u hk hm hu
    obtain ⟨m, rfl⟩ : ∃ x, m = x + 1 := ⟨m - 1, by omega⟩
    have h1 := hle u
    rw [f_X12_commonest_L4, if_neg (by rw [l_26, o_lt (by omega) (by omega)]; omega), f_of (sw_r r (by omega)), cd_]
    by_cases q : cq_ (sg_I ρ) u = 0
    · rw [if_pos (by rw [q]; rfl), if_pos q]
    · rw [if_neg (by rw [l_0, o_eq (by omega) (by omega)]; exact q), if_neg q]
  | succ j ih =>
    intro k m u hk hm hu
    obtain ⟨m, rfl⟩ : ∃ x, m = x + 1 := ⟨m - 1, by omega⟩
    have h1 := hle u
    have h2 := hle k
    rw [f_X12_commonest_L4, if_pos (by rw [l_26, o_lt (by omega) (by omega)]; omega), f_of (sw_r r (by omega)), f_of (sw_r r (by omega)), cd_]
    unfold f_X12_commonest_B28
    rw [o_s k]
    by_cases q : cq_ (sg_I ρ) u < cq_ (sg_I ρ) k
    · rw [if_pos (by rw [o_lt (by omega) (by omega)]; exact q), if_pos q]
      exact ih (k + 1) m k (by omega) (by omega) (by omega)
    · rw [if_neg (by rw [o_lt (by omega) (by omega)]; exact q), if_neg q]
      exact ih (k + 1) m u (by omega) (by omega) hu
theorem cm_e {σ ρ : Sg} (r : Rel σ ρ) : ∃ v, f_X11_commonest 20000 0 σ = some v ∧ f_X12_commonest 20000 344 ρ = some v := by
  have a := cm_c r 26 0 20000 0 (-1) (by omega) (by omega) (by omega)
  have b := cm_r r 25 1 20000 0 (by omega) (by omega) (by omega)
  have e : cb_ (cq_ (sg_I ρ)) 26 0 (-1) 0 = cd_ (cq_ (sg_I ρ)) 25 1 0 := by
    rw [← cb_d, cb_]
    by_cases q : 0 < cq_ (sg_I ρ) 0
    · rw [if_pos q, if_neg (by omega)]
    · have q0 : cq_ (sg_I ρ) 0 = 0 := by omega
      rw [if_neg q, if_pos q0, q0]
  rw [e] at a
  refine ⟨cd_ (cq_ (sg_I ρ)) 25 1 0, ?_, ?_⟩
  · unfold f_X11_commonest
    exact a
  · unfold f_X12_commonest
    exact b
