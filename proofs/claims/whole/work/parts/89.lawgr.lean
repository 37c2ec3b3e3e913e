/-! ===== the reader of laws: the grammar ===== -/
theorem LR.pre {t i b b' k : Nat} {x : Nat → Int32} {σ ρ σ' ρ' : Sg} {C : List Int32} {T W : List Tk} {G G' : List Tk → Prop} {A : Option (Int32 × Sg)} {B : Option Sg} (h : LR t i x σ' ρ' b' k (C ++ W.map tk_c) (T ++ W) G A B) (hg : ∀ V, G V → G' (W ++ V)) (kz : KZ 6 σ σ') (ke : KE i ρ ρ') (hb : b + W.length ≤ b') : LR t i x σ ρ b k C T G' A B := by
  obtain ⟨c, υ, φ, h1, h2, h3, h4, h5⟩ := h
  refine ⟨c, υ, φ, h1, h2, kz.tr h3, ke.tr h4, ?_⟩
  rcases h5 with ⟨c1, U, q, l1, l2, l3⟩ | ⟨c0, q, n, l1, l2, l3⟩
  · refine Or.inl ⟨c1, W ++ U, q, ?_, by rw [List.length_append]; omega, hg U l3⟩
    rw [List.map_append, ← List.append_assoc, ← List.append_assoc]
    exact l1
  · rw [List.length_append] at l3
    exact Or.inr ⟨c0, q, n, l1, by omega, by omega⟩
theorem LR.up {t i b b' k : Nat} {x : Nat → Int32} {σ ρ σ' ρ' : Sg} {C : List Int32} {T : List Tk} {G : List Tk → Prop} {A : Option (Int32 × Sg)} {B : Option Sg} (h : LR t i x σ' ρ' b' k C T G A B) (kz : KZ 6 σ σ') (ke : KE i ρ ρ') (hb : b ≤ b') : LR t i x σ ρ b k C T G A B := by
  refine LR.pre (W := []) (G := G) ?_ (fun V hV => hV) kz ke (by show b + 0 ≤ b'; omega)
  rw [List.map_nil, List.append_nil, List.append_nil]
  exact h
theorem LR.mo {t i b k : Nat} {x : Nat → Int32} {σ ρ : Sg} {C : List Int32} {T : List Tk} {G G' : List Tk → Prop} {A : Option (Int32 × Sg)} {B : Option Sg} (h : LR t i x σ ρ b k C T G A B) (hg : ∀ V, G V → G' V) : LR t i x σ ρ b k C T G' A B := by
  obtain ⟨c, υ, φ, h1, h2, h3, h4, h5⟩ := h
  refine ⟨c, υ, φ, h1, h2, h3, h4, ?_⟩
  rcases h5 with ⟨c1, U, q, l1, l2, l3⟩ | h5
  · exact Or.inl ⟨c1, U, q, l1, l2, hg U l3⟩
  · exact Or.inr h5
/-- the reading fails here -/
theorem LR.bd {t i b p k k' : Nat} {x : Nat → Int32} {σ ρ : Sg} {C : List Int32} {T : List Tk} {G : List Tk → Prop} (h : LSt t i x σ ρ p k' C T) (hb : b ≤ p) : LR t i x σ ρ b k C T G (some (0, σ)) (f_X12_bad 344 ρ) := by
  obtain ⟨h1, h2, h3⟩ := h.bd
  exact ⟨0, σ, _, rfl, h1, KZ.rf, h2, Or.inr ⟨rfl, p, T.length, h3, hb, by omega⟩⟩
/-- all is read -/
theorem LR.ok {t i b p k : Nat} {x : Nat → Int32} {σ ρ : Sg} {C : List Int32} {T : List Tk} {G : List Tk → Prop} (h : LSt t i x σ ρ p k C T) (hb : b ≤ p) (hg : G []) : LR t i x σ ρ b k C T G (some (1, σ)) (some ρ) := by
  refine ⟨1, σ, ρ, rfl, rfl, KZ.rf, KE.rf, Or.inl ⟨rfl, [], p, ?_, by show 0 + b ≤ p; omega, hg⟩⟩
  rw [List.map_nil, List.append_nil, List.append_nil]
  exact h
theorem LR.bi {t i p p0 k k1 : Nat} {x : Nat → Int32} {σ ρ : Sg} {C : List Int32} {T : List Tk} {G G' : List Tk → Prop} {A : Option (Int32 × Sg)} {B : Option Sg} {KA : Sg → Option (Int32 × Sg)} {KB : Sg → Option Sg} (h : LR t i x σ ρ p k1 C T G A B) (hp : p0 ≤ p)
    (hg : ∀ υ φ U q, LSt t i x υ φ q k1 (C ++ U.map tk_c) (T ++ U) → U.length + p ≤ q → G U → LR t i x υ φ (p0 + U.length) k (C ++ U.map tk_c) (T ++ U) (fun V => G' (U ++ V)) (KA υ) (KB φ))
    (hb : ∀ υ φ q n, LB t i x υ φ q n → p ≤ q → n + p ≤ T.length + q → ∃ φ' n', KB φ = some φ' ∧ KE i φ φ' ∧ LB t i x υ φ' q n' ∧ n' + p0 ≤ T.length + q) : LR t i x σ ρ p0 k C T G' (A.bind fun r => if r.1 = 0 then some (0, r.2) else KA r.2) (B.bind KB) := by
  obtain ⟨c, υ, φ, h1, h2, h3, h4, h5⟩ := h
  rw [f_of h1, f_of h2]
  rcases h5 with ⟨c1, U, q, l1, l2, l3⟩ | ⟨c0, q, n, l1, l2, l3⟩
  · subst c1
    dsimp only
    rw [if_neg (show ¬ (1 : Int32) = 0 by decide)]
    exact LR.pre (hg υ φ U q l1 l2 l3) (fun V hV => hV) h3 h4 (Nat.le_refl _)
  · obtain ⟨φ', n', m1, m2, m3, m4⟩ := hb υ φ q n l1 l2 l3
    rw [if_pos c0]
    exact ⟨0, υ, φ', rfl, m1, h3, h4.tr m2, Or.inr ⟨rfl, q, n', m3, by omega, m4⟩⟩
theorem tks_v {t i p k : Nat} {x : Nat → Int32} {σ ρ : Sg} {C : List Int32} {T : List Tk} {c : Int32} (hx : XT t x) (h : LSt t i x σ ρ p k C T) : f_X6_takes 20000 6 c σ = if sx_ x t (pb_ x t p) = c then some (1, put_I σ 6 2 (Int32.ofNat (pb_ x t p + 1))) else some (0, put_I σ 6 2 (Int32.ofNat (pb_ x t p))) := by
  obtain ⟨l1, l2, -⟩ := h.lk hx
  unfold f_X6_takes f_X6_takes_B13 f_X6_takes_B28
  rw [f_of l1]
  dsimp only
  by_cases q : sx_ x t (pb_ x t p) = c
  · rw [if_pos q, if_pos q, if_neg (show ¬ (1 : Int32) = 0 by decide), f_of rfl, if_neg (show ¬ ¬ ((1 : Int32) = 0 ∨ (1 : Int32) = 1) by decide), gI_e, o_s, pI_2]
  · rw [if_neg q, if_neg q, if_pos rfl, f_of rfl, if_neg (show ¬ ¬ ((0 : Int32) = 0 ∨ (0 : Int32) = 1) by decide), gI_e, show Int32.ofNat (pb_ x t p) + 0 = Int32.ofNat (pb_ x t p) from Int32.add_zero _, pI_2]
/-- a sign that is there -/
theorem sx_l {t p : Nat} {x : Nat → Int32} {c : Int32} (hx : XT t x) (h : sx_ x t p = c) (hc : ¬ c = -1) : p < t := by
  apply Classical.byContradiction
  intro q
  exact hc (h.symm.trans ((sx_b hx p).2.2.2.mpr q))
theorem cls_g {t i p b k : Nat} {x : Nat → Int32} {σ ρ : Sg} {C : List Int32} {T : List Tk} {G : List Tk → Prop} {c : Int32} (hx : XT t x) (hc : ¬ c = -1) (h : LSt t i x σ ρ p (k + 1) C T) (hb : b ≤ p) (hg : G []) : LR t i x σ ρ b k C T G ((f_X6_takes 20000 6 c σ).bind fun r => if r.1 = 0 then some (0, r.2) else some (1, r.2)) (f_X12_closes 20000 344 c ρ) := by
  have tk := tks_v (c := c) hx h
  obtain ⟨l1, l2, q1, q2, q3, l3⟩ := h.lk hx
  generalize pb_ x t p = q at tk l1 l2 q1 q2 q3 l3
  unfold f_X12_closes f_X12_closes_B20
  rw [if_pos h.2.2.2.2.1, f_of l2]
  dsimp only
  by_cases g : sx_ x t q = c
  · have ql := sx_l hx g hc
    rw [if_pos g] at tk
    rw [if_pos g, f_of tk]
    dsimp only
    rw [if_neg (show ¬ (1 : Int32) = 0 by decide), gI_e, o_s, pI_2, gI_n (by omega), h.2.2.2.2.2.1, show Int32.ofNat (k + 1) - 1 = Int32.ofNat k by rw [l_1, o_sub (by omega)]; rfl]
    exact (LR.ok ((h.mv (q := q + 1) (by omega) (by omega)).ne (k' := k)) (b := b) (by omega) hg).up (KZ.put (by omega) (by omega)) ((KE.put (by omega)).tr (KE.put (by omega))) (Nat.le_refl b)
  · rw [if_neg g] at tk
    obtain ⟨b1, b2, b3⟩ := l3.bd
    rw [if_neg g, f_of tk, f_of b1]
    dsimp only
    rw [if_pos rfl]
    exact ⟨0, _, _, rfl, rfl, KZ.put (by omega) (by omega), (KE.put (by omega)).tr (b2.tr ((KE.put (by omega)).tr (KE.put (by omega)))), Or.inr ⟨rfl, q, T.length, (b3.mv (Or.inl rfl)).mv (Or.inr rfl), by omega, by omega⟩⟩
theorem cls_b {t i q n : Nat} {x : Nat → Int32} {σ ρ : Sg} {c : Int32} (hx : XT t x) (h : LB t i x σ ρ q n) : ∃ φ, f_X12_closes 20000 344 c ρ = some φ ∧ KE i ρ φ ∧ LB t i x σ φ q n := by
  unfold f_X12_closes f_X12_closes_B20
  rw [if_neg (h.nm hx)]
  exact ⟨_, rfl, (KE.put (by omega)).tr (KE.put (by omega)), (h.mv (Or.inl rfl)).mv (Or.inr rfl)⟩
theorem opn_b {t i p k : Nat} {x : Nat → Int32} {σ ρ : Sg} {C : List Int32} {T : List Tk} (h : LSt t i x σ ρ p k C T) (hk : k = 6) : ∃ φ, f_X12_opens 344 ρ = some φ ∧ KE i ρ φ ∧ LB t i x σ φ p T.length := by
  obtain ⟨b1, b2, b3⟩ := h.bd
  unfold f_X12_opens f_X12_opens_B13
  rw [if_pos (by rw [h.2.2.2.2.2.1, hk]; rfl), f_of b1]
  exact ⟨_, rfl, b2.tr ((KE.put (by omega)).tr (KE.put (by omega))), (b3.mv (Or.inr rfl)).mv (Or.inl rfl)⟩
theorem opn_g {t i p k : Nat} {x : Nat → Int32} {σ ρ : Sg} {C : List Int32} {T : List Tk} (h : LSt t i x σ ρ p k C T) (hk : k < 6) (hp : p < t) : f_X12_opens 344 ρ = some (put_I (put_I ρ 344 5 (Int32.ofNat (k + 1))) 344 3 (Int32.ofNat (p + 1))) ∧ LSt t i x (put_I σ 6 2 (Int32.ofNat (p + 1))) (put_I (put_I ρ 344 5 (Int32.ofNat (k + 1))) 344 3 (Int32.ofNat (p + 1))) (p + 1) (k + 1) C T := by
  have h5 := h.2.2.2.2.2.1
  have h3 := h.2.2.2.1
  refine ⟨?_, (h.ne (k' := k + 1)).mv (by omega) (by omega)⟩
  unfold f_X12_opens f_X12_opens_B13
  rw [if_neg (by rw [h5, l_6, o_eq (by omega) (by omega)]; omega), h5, o_s k, gI_n (by omega), h3, o_s p]
theorem ltv_ (c : Int32) : ∃ v, f_X12_letterOf c = some v ∧ (v = -1 ∨ ∃ n : Nat, n ≤ 5 ∧ v = Int32.ofNat n ∧ ¬ dg_ c ∧ ¬ c = 91) := by
  unfold f_X12_letterOf
  by_cases h0 : c = 118
  · rw [if_pos h0, h0]; exact ⟨_, rfl, Or.inr ⟨0, by decide, rfl, by unfold dg_; decide, by decide⟩⟩
  rw [if_neg h0]
  by_cases h1 : c = 112
  · rw [if_pos h1, h1]; exact ⟨_, rfl, Or.inr ⟨1, by decide, rfl, by unfold dg_; decide, by decide⟩⟩
  rw [if_neg h1]
  by_cases h2 : c = 108
  · rw [if_pos h2, h2]; exact ⟨_, rfl, Or.inr ⟨2, by decide, rfl, by unfold dg_; decide, by decide⟩⟩
  rw [if_neg h2]
  by_cases h3 : c = 110
  · rw [if_pos h3, h3]; exact ⟨_, rfl, Or.inr ⟨3, by decide, rfl, by unfold dg_; decide, by decide⟩⟩
  rw [if_neg h3]
  by_cases h4 : c = 116
  · rw [if_pos h4, h4]; exact ⟨_, rfl, Or.inr ⟨4, by decide, rfl, by unfold dg_; decide, by decide⟩⟩
  rw [if_neg h4]
  by_cases h5 : c = 102
  · rw [if_pos h5, h5]; exact ⟨_, rfl, Or.inr ⟨5, by decide, rfl, by unfold dg_; decide, by decide⟩⟩
  rw [if_neg h5]
  exact ⟨_, rfl, Or.inl rfl⟩
