theorem slt_v {σ ρ τ : Sg} (r : Rel σ ρ) (kp : kp_ ρ τ) (e23 : sg_I τ 344 23 = sg_I ρ 344 23) (e58 : sg_I τ 358 = sg_I ρ 358) {q : Nat} (hq : q ≤ 100) : f_X12_stripLongOf 344 (Int32.ofNat q) τ = some (Int32.ofNat (hL (sg_I ρ) q)) := by
  have d := r.rf
  have R22 : sg_R ρ 344 22 = some 358 := by simp only [d]
  rw [← sl_v r hq]
  unfold f_X12_stripLongOf
  rw [e23, kp.2.1, kp.2.2.1, f_of R22, f_of R22, e58]
theorem tv_v {σ ρ : Sg} (r : Rel σ ρ) {n : Nat} {P Q : Nat → Nat} (hn : n ≤ 4) (hQ : ∀ w, w < n → Q w ≤ 5) (hP : ∀ w, w < n → P w ≤ 15) : ∀ (j v m : Nat) (τ : Sg), v + j = n → j < m → kp_ ρ τ → sg_I τ 344 23 = sg_I ρ 344 23 → sg_I τ 358 = sg_I ρ 358 → sg_I τ 344 20 = Int32.ofNat n → (∀ w, w < n → sg_I τ 359 (4 * w + 3) = Int32.ofNat (Q w)) → (∀ w, v ≤ w → w < n → sg_I τ 359 (4 * w + 2) = Int32.ofNat (P w)) → ∃ φ, f_X12_takeLantern_L62 20000 344 m (Int32.ofNat v) τ = some (Int32.ofNat n, put_I (put_I (put_I (put_I (put_I (put_I φ 359 16 (sg_I τ 355 0)) 359 17 (sg_I τ 355 1)) 359 18 (sg_I τ 355 2)) 344 37 0) 344 29 0) 344 40 0) ∧ kp_ ρ φ ∧ (∀ a, a ≠ 359 → sg_I φ a = sg_I τ a) ∧ (∀ l, (∀ w, v ≤ w → w < n → l ≠ 4 * w + 2) → sg_I φ 359 l = sg_I τ 359 l) ∧ (∀ w, v ≤ w → w < n → sg_I φ 359 (4 * w + 2) = Int32.ofNat (P w % hL (sg_I ρ) (Q w))) := by
  have d := r.rf
  intro j
  induction j with
  | zero =>
    intro v m τ hv hm kp e23 e58 e20 e3 e2
    obtain ⟨m, rfl⟩ : ∃ y, m = y + 1 := ⟨m - 1, by omega⟩
    refine ⟨τ, ?_, kp, fun _ _ => rfl, fun _ _ => rfl, fun w h1 h2 => absurd h2 (by omega)⟩
    have d' : RF (sg_R τ) (sg_L τ) := by rw [kp.2.1, kp.2.2.1]; exact d
    have R17 : sg_R τ 344 17 = some 355 := by simp only [d']
    have R24 : sg_R τ 344 24 = some 359 := by simp only [d']
    have L55 : sg_L τ 355 = 3 := by simp only [d']
    have L59 : sg_L τ 359 = 261 := by simp only [d']
    have z0 : (0 : Int32).toNatClampNeg = 0 := rfl
    have z1 : (1 : Int32).toNatClampNeg = 1 := rfl
    have z2 : (2 : Int32).toNatClampNeg = 2 := rfl
    have z16 : (16 : Int32).toNatClampNeg = 16 := rfl
    have z17 : (17 : Int32).toNatClampNeg = 17 := rfl
    have z18 : (18 : Int32).toNatClampNeg = 18 := rfl
    have i0 : ¬ ((0 : Int32) < 0 ∨ 3 ≤ 0) := by decide
    have i1 : ¬ ((1 : Int32) < 0 ∨ 3 ≤ 1) := by decide
    have i2 : ¬ ((2 : Int32) < 0 ∨ 3 ≤ 2) := by decide
    have i16 : ¬ ((16 : Int32) < 0 ∨ 261 ≤ 16) := by decide
    have i17 : ¬ ((17 : Int32) < 0 ∨ 261 ≤ 17) := by decide
    have i18 : ¬ ((18 : Int32) < 0 ∨ 261 ≤ 18) := by decide
    rw [f_X12_takeLantern_L62, e20, if_neg (by rw [o_lt (by omega) (by omega)]; omega), f_of R17, L55, z0, if_neg i0, f_of R24, L59, z16, if_neg i16]
    have R17a : sg_R (put_I τ 359 16 (sg_I τ 355 0)) 344 17 = some 355 := R17
    have R24a : sg_R (put_I τ 359 16 (sg_I τ 355 0)) 344 24 = some 359 := R24
    have L55a : sg_L (put_I τ 359 16 (sg_I τ 355 0)) 355 = 3 := L55
    have L59a : sg_L (put_I τ 359 16 (sg_I τ 355 0)) 359 = 261 := L59
    have I1a : sg_I (put_I τ 359 16 (sg_I τ 355 0)) 355 1 = sg_I τ 355 1 := gI_n (by omega)
    rw [f_of R17a, L55a, z1, if_neg i1, f_of R24a, L59a, z17, if_neg i17, I1a]
    have R17b : sg_R (put_I (put_I τ 359 16 (sg_I τ 355 0)) 359 17 (sg_I τ 355 1)) 344 17 = some 355 := R17
    have R24b : sg_R (put_I (put_I τ 359 16 (sg_I τ 355 0)) 359 17 (sg_I τ 355 1)) 344 24 = some 359 := R24
    have L55b : sg_L (put_I (put_I τ 359 16 (sg_I τ 355 0)) 359 17 (sg_I τ 355 1)) 355 = 3 := L55
    have L59b : sg_L (put_I (put_I τ 359 16 (sg_I τ 355 0)) 359 17 (sg_I τ 355 1)) 359 = 261 := L59
    have I1b : sg_I (put_I (put_I τ 359 16 (sg_I τ 355 0)) 359 17 (sg_I τ 355 1)) 355 2 = sg_I τ 355 2 := by rw [gI_n (by omega), gI_n (by omega)]
    rw [f_of R17b, L55b, z2, if_neg i2, f_of R24b, L59b, z18, if_neg i18, I1b, gI_n (by omega), gI_n (by omega), gI_n (by omega), gI_n (by omega), gI_n (by omega), gI_n (by omega), e20]
  | succ j ih =>
    intro v m τ hv hm kp e23 e58 e20 e3 e2
    obtain ⟨m, rfl⟩ : ∃ y, m = y + 1 := ⟨m - 1, by omega⟩
    have d' : RF (sg_R τ) (sg_L τ) := by rw [kp.2.1, kp.2.2.1]; exact d
    have R24 : sg_R τ 344 24 = some 359 := by simp only [d']
    have L59 : sg_L τ 359 = 261 := by simp only [d']
    have hp := hP v (by omega)
    have hq := hQ v (by omega)
    have o2 : f_X12_of 344 (Int32.ofNat v) 2 τ = some (sg_I τ 359 (4 * v + 2)) := of_v (k := 2) d' (by omega) (by omega)
    have o3 : f_X12_of 344 (Int32.ofNat v) 3 τ = some (sg_I τ 359 (4 * v + 3)) := of_v (k := 3) d' (by omega) (by omega)
    have sl := slt_v r kp e23 e58 (q := Q v) (by omega)
    obtain ⟨bb, cc, ⟨-, -, s1, s2, -⟩, -, -⟩ := r.sp (Q v)
    have lo : f_X12_longOf 344 (Int32.ofNat v) τ = some (Int32.ofNat (hL (sg_I ρ) (Q v))) := by
      unfold f_X12_longOf
      rw [f_of o3, e3 v (by omega), f_of sl]
    obtain ⟨φ, u1, u2, u3, u4, u5⟩ := ih (v + 1) m (put_I τ 359 (4 * v + 2) (Int32.ofNat (P v % hL (sg_I ρ) (Q v)))) (by omega) (by omega) (kp.tr kp_.put) (by rw [gI_n (by omega)]; exact e23) (by rw [gI_a (by omega)]; exact e58) (by rw [gI_n (by omega)]; exact e20) (fun w hw => by rw [gI_n (by omega)]; exact e3 w hw) (fun w h1 h2 => by rw [gI_n (by omega)]; exact e2 w (by omega) h2)
    rw [gI_a (show 355 ≠ 359 by decide)] at u1
    refine ⟨φ, ?_, u2, fun a ha => by rw [u3 a ha, gI_a ha], fun l hl => ?_, fun w h1 h2 => ?_⟩
    · rw [f_X12_takeLantern_L62, e20, if_pos (by rw [o_lt (by omega) (by omega)]; omega), f_of o2, f_of lo, if_neg (by rw [l_0, o_eq (by omega) (by omega)]; omega), f_of R24, L59, e2 v (by omega) (by omega), rm_o (by omega) (by omega), l_4, o_mul, l_2, o_add, if_neg (o_in (by omega) (by omega)), o_tn (by omega), o_s v]
      exact u1
    · rw [u4 l (fun w h1 h2 => hl w (by omega) h2), gI_n (Or.inr (hl v (by omega) (by omega)))]
    · by_cases e : w = v
      · subst e
        rw [u4 (4 * w + 2) (fun w' h1 h2 => by omega), gI_e]
      · exact u5 w (by omega) h2
