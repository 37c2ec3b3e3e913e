theorem te_v {υ : Sg} (R23 : sg_R υ 2 3 = some 4) (L4 : sg_L υ 4 = 3) : ∃ S, f_X1_tell 20000 2 (some 17) υ = f_X1_tell_L50 20000 2 20000 (some 17) 0 S ∧ kq_ υ S ∧ (∀ a, a ≠ 17 → sg_I S a = sg_I υ a) ∧ sg_I S 17 1 = sg_I υ 2 6 ∧ sg_I S 17 2 = sg_I υ 4 0 ∧ sg_I S 17 3 = sg_I υ 4 1 ∧ sg_I S 17 4 = sg_I υ 4 2 ∧ sg_I S 17 5 = 0 ∧ sg_I S 17 7 = 0 := by
  refine ⟨put_I (put_I (put_I (put_I (put_I (put_I υ 17 2 (sg_I υ 4 0)) 17 3 (sg_I υ 4 1)) 17 4 (sg_I υ 4 2)) 17 5 0) 17 7 0) 17 1 (sg_I υ 2 6), ?_, ⟨rfl, rfl, rfl, rfl, rfl⟩, fun a ha => ?_, gI_e, ?_, ?_, ?_, ?_, ?_⟩
  · have z0 : (0 : Int32).toNatClampNeg = 0 := rfl
    have z1 : (1 : Int32).toNatClampNeg = 1 := rfl
    have z2 : (2 : Int32).toNatClampNeg = 2 := rfl
    have i0 : ¬ ((0 : Int32) < 0 ∨ 3 ≤ 0) := by decide
    have i1 : ¬ ((1 : Int32) < 0 ∨ 3 ≤ 1) := by decide
    have i2 : ¬ ((2 : Int32) < 0 ∨ 3 ≤ 2) := by decide
    have Ra : sg_R (put_I υ 17 2 (sg_I υ 4 0)) 2 3 = some 4 := R23
    have La : sg_L (put_I υ 17 2 (sg_I υ 4 0)) 4 = 3 := L4
    have Ia : sg_I (put_I υ 17 2 (sg_I υ 4 0)) 4 1 = sg_I υ 4 1 := gI_n (by omega)
    have Rb : sg_R (put_I (put_I υ 17 2 (sg_I υ 4 0)) 17 3 (sg_I υ 4 1)) 2 3 = some 4 := R23
    have Lb : sg_L (put_I (put_I υ 17 2 (sg_I υ 4 0)) 17 3 (sg_I υ 4 1)) 4 = 3 := L4
    have Ib : sg_I (put_I (put_I υ 17 2 (sg_I υ 4 0)) 17 3 (sg_I υ 4 1)) 4 2 = sg_I υ 4 2 := by rw [gI_n (by omega), gI_n (by omega)]
    have Ic : sg_I (put_I (put_I (put_I (put_I (put_I υ 17 2 (sg_I υ 4 0)) 17 3 (sg_I υ 4 1)) 17 4 (sg_I υ 4 2)) 17 5 0) 17 7 0) 2 6 = sg_I υ 2 6 := by rw [gI_n (by omega), gI_n (by omega), gI_n (by omega), gI_n (by omega), gI_n (by omega)]
    unfold f_X1_tell
    rw [f_of R23, L4, z0, if_neg i0, f_of rfl, f_of Ra, La, z1, if_neg i1, Ia, f_of Rb, Lb, z2, if_neg i2, Ib, Ic]
  · rw [gI_a ha, gI_a ha, gI_a ha, gI_a ha, gI_a ha, gI_a ha]
  · rw [gI_n (by omega), gI_n (by omega), gI_n (by omega), gI_n (by omega), gI_n (by omega), gI_e]
  · rw [gI_n (by omega), gI_n (by omega), gI_n (by omega), gI_n (by omega), gI_e]
  · rw [gI_n (by omega), gI_n (by omega), gI_n (by omega), gI_e]
  · rw [gI_n (by omega), gI_n (by omega), gI_e]
  · rw [gI_n (by omega), gI_e]
/-- the reference's lantern: zeroed, copied -/
theorem tzz_v {ρ0 : Sg} (d : RF (sg_R ρ0) (sg_L ρ0)) : ∀ (j k m : Nat) (τ : Sg), k + j = 261 → j < m → kp_ ρ0 τ → ∃ φ, f_X12_takeLantern_L10 20000 344 m (Int32.ofNat k) τ = f_X12_takeLantern_L32 20000 344 20000 0 φ ∧ kp_ ρ0 φ ∧ (∀ a, a ≠ 359 → sg_I φ a = sg_I τ a) ∧ (∀ l, l < k → sg_I φ 359 l = sg_I τ 359 l) ∧ ∀ l, k ≤ l → l < 261 → sg_I φ 359 l = 0 := by
  intro j
  induction j with
  | zero =>
    intro k m τ hk hm kp
    obtain ⟨m, rfl⟩ : ∃ y, m = y + 1 := ⟨m - 1, by omega⟩
    exact ⟨τ, by rw [f_X12_takeLantern_L10, if_neg (by rw [l_261, o_lt (by omega) (by omega)]; omega)], kp, fun _ _ => rfl, fun _ _ => rfl, fun l h1 h2 => absurd h2 (by omega)⟩
  | succ j ih =>
    intro k m τ hk hm kp
    obtain ⟨m, rfl⟩ : ∃ y, m = y + 1 := ⟨m - 1, by omega⟩
    have R24 : sg_R τ 344 24 = some 359 := by rw [kp.2.1]; simp only [d]
    have L59 : sg_L τ 359 = 261 := by rw [kp.2.2.1]; simp only [d]
    obtain ⟨φ, f1, f2, f3, f4, f5⟩ := ih (k + 1) m (put_I τ 359 k 0) (by omega) (by omega) (kp.tr kp_.put)
    refine ⟨φ, ?_, f2, fun a ha => by rw [f3 a ha, gI_a ha], fun l hl => by rw [f4 l (by omega), gI_n (by omega)], fun l h1 h2 => ?_⟩
    · rw [f_X12_takeLantern_L10, if_pos (by rw [l_261, o_lt (by omega) (by omega)]; omega), f_of R24, L59, if_neg (o_in (by omega) (by omega)), o_tn (by omega), o_s k]
      exact f1
    · by_cases e : l = k
      · subst e
        rw [f4 l (by omega), gI_e]
      · exact f5 l (by omega) h2
theorem ty_v {ρ0 : Sg} (d : RF (sg_R ρ0) (sg_L ρ0)) {n : Nat} (hn : n ≤ 4) : ∀ (j k m : Nat) (τ : Sg), k + j = 4 * n → j < m → kp_ ρ0 τ → sg_I τ 344 20 = Int32.ofNat n → ∃ φ, f_X12_takeLantern_L32 20000 344 m (Int32.ofNat k) τ = f_X12_takeLantern_L62 20000 344 20000 0 φ ∧ kp_ ρ0 φ ∧ (∀ a, a ≠ 359 → sg_I φ a = sg_I τ a) ∧ (∀ l, l < k ∨ 4 * n ≤ l → sg_I φ 359 l = sg_I τ 359 l) ∧ ∀ l, k ≤ l → l < 4 * n → sg_I φ 359 l = sg_I τ 356 l := by
  intro j
  induction j with
  | zero =>
    intro k m τ hk hm kp e20
    obtain ⟨m, rfl⟩ : ∃ y, m = y + 1 := ⟨m - 1, by omega⟩
    exact ⟨τ, by rw [f_X12_takeLantern_L32, e20, l_4, o_mul, if_neg (by rw [o_lt (by omega) (by omega)]; omega)], kp, fun _ _ => rfl, fun _ _ => rfl, fun l h1 h2 => absurd h2 (by omega)⟩
  | succ j ih =>
    intro k m τ hk hm kp e20
    obtain ⟨m, rfl⟩ : ∃ y, m = y + 1 := ⟨m - 1, by omega⟩
    have R24 : sg_R τ 344 24 = some 359 := by rw [kp.2.1]; simp only [d]
    have L59 : sg_L τ 359 = 261 := by rw [kp.2.2.1]; simp only [d]
    have R18 : sg_R τ 344 18 = some 356 := by rw [kp.2.1]; simp only [d]
    have L56 : sg_L τ 356 = 16 := by rw [kp.2.2.1]; simp only [d]
    obtain ⟨φ, f1, f2, f3, f4, f5⟩ := ih (k + 1) m (put_I τ 359 k (sg_I τ 356 k)) (by omega) (by omega) (kp.tr kp_.put) (by rw [gI_n (by omega)]; exact e20)
    have nk : ¬ (Int32.ofNat k < 0 ∨ 16 ≤ (Int32.ofNat k).toNatClampNeg) := o_in (by omega) (by omega)
    have tk : (Int32.ofNat k).toNatClampNeg = k := o_tn (by omega)
    have nk2 : ¬ (Int32.ofNat k < 0 ∨ 261 ≤ (Int32.ofNat k).toNatClampNeg) := o_in (by omega) (by omega)
    refine ⟨φ, ?_, f2, fun a ha => by rw [f3 a ha, gI_a ha], fun l hl => by rw [f4 l (by omega), gI_n (by omega)], fun l h1 h2 => ?_⟩
    · rw [f_X12_takeLantern_L32, e20, l_4, o_mul, if_pos (by rw [o_lt (by omega) (by omega)]; omega), f_of R18, L56, if_neg nk, f_of R24, L59, if_neg nk2, tk, o_s k]
      exact f1
    · by_cases e : l = k
      · subst e
        rw [f4 l (by omega), gI_e]
      · rw [f5 l (by omega) h2, gI_a (by omega)]
