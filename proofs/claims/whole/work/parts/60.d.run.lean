theorem wo_g {i o z : Nat} (hi : i < 5) (ho : o < z) (hz : z ≤ 520) : ¬ (Int32.ofNat (520 * i + o) < 0 ∨ 2600 ≤ (Int32.ofNat (520 * i + o)).toNatClampNeg) ∧ (Int32.ofNat (520 * i + o)).toNatClampNeg = 520 * i + o ∧ ¬ (Int32.ofNat (520 * i + o) < 0 ∨ 2600 ≤ 520 * i + o) ∧ Int32.ofNat (520 * i + o) < 520 * Int32.ofNat i + Int32.ofNat z ∧ Int32.ofNat (520 * i + o) + 1 = Int32.ofNat (520 * i + (o + 1)) := by
  have g1 : ¬ (Int32.ofNat (520 * i + o) < 0 ∨ 2600 ≤ (Int32.ofNat (520 * i + o)).toNatClampNeg) := o_in (by omega) (by omega)
  have g2 : (Int32.ofNat (520 * i + o)).toNatClampNeg = 520 * i + o := o_tn (by omega)
  refine ⟨g1, g2, by rw [g2] at g1; exact g1, ?_, by rw [o_s, Nat.add_assoc]⟩
  rw [l_520, o_mul, o_add, o_lt (by omega) (by omega)]
  omega
theorem wo_r {ρ : Sg} (d : RF (sg_R ρ) (sg_L ρ)) : sg_R ρ 344 6 = some 346 ∧ sg_R ρ 344 7 = some 347 ∧ sg_R ρ 344 15 = some 353 ∧ sg_R ρ 344 16 = some 354 ∧ sg_L ρ 346 = 2600 ∧ sg_L ρ 347 = 2600 ∧ sg_L ρ 353 = 6 ∧ sg_L ρ 354 = 80 := ⟨by simp only [d], by simp only [d], by simp only [d], by simp only [d], by simp only [d], by simp only [d], by simp only [d], by simp only [d]⟩
theorem n_80 {k : Nat} (h : k < 80) : ¬ (Int32.ofNat k < 0 ∨ 80 ≤ (Int32.ofNat k).toNatClampNeg) ∧ (Int32.ofNat k).toNatClampNeg = k ∧ ¬ (Int32.ofNat k < 0 ∨ 80 ≤ k) := by
  have g1 : ¬ (Int32.ofNat k < 0 ∨ 80 ≤ (Int32.ofNat k).toNatClampNeg) := o_in (by omega) (by omega)
  have g2 : (Int32.ofNat k).toNatClampNeg = k := o_tn (by omega)
  exact ⟨g1, g2, by rw [g2] at g1; exact g1⟩
theorem rl_a {N n i o z : Nat} {ρ : Sg} {c v : Int32} {lt : Nat → Int32} {s : List Int32} (d : RF (sg_R ρ) (sg_L ρ)) (hi : i < 5) (ho : o < z) (hz : z ≤ 520) (e1 : sg_I ρ 346 (520 * i + o) = c) (e2 : sg_I ρ 347 (520 * i + o) = v) (c0 : c = 0) (h64 : s.length ≤ 62) : f_X12_workOut_L12 N 344 (n + 1) (Int32.ofNat i) (Int32.ofNat z) (Int32.ofNat s.length) (Int32.ofNat (520 * i + o)) ρ = f_X12_workOut_L12 N 344 n (Int32.ofNat i) (Int32.ofNat z) (Int32.ofNat (s.length + 1)) (Int32.ofNat (520 * i + (o + 1))) (put_I ρ 354 s.length v) := by
  obtain ⟨g1, g2, h1, g3, g4⟩ := wo_g hi ho hz
  obtain ⟨R6, R7, R15, R16, L6, L7, L15, L16⟩ := wo_r d
  obtain ⟨s1, s2, s3⟩ := n_80 (show s.length < 80 by omega)
  rw [f_X12_workOut_L12, if_pos g3, f_of R6, L6, if_neg g1, g2, e1, if_pos c0]
  unfold f_X12_workOut_B45
  rw [f_of R6, L6, if_neg g1, g2, e1, if_pos c0, f_of R7, L7, if_neg h1, e2]
  unfold f_X12_workOut_B83
  rw [f_of R16, L16, if_neg s1, s2]
  unfold f_X12_workOut_B165
  rw [o_s, g4]
theorem rl_b {N n i o z : Nat} {ρ : Sg} {c v : Int32} {lt : Nat → Int32} {s : List Int32} (d : RF (sg_R ρ) (sg_L ρ)) (hi : i < 5) (ho : o < z) (hz : z ≤ 520) (e1 : sg_I ρ 346 (520 * i + o) = c) (e2 : sg_I ρ 347 (520 * i + o) = v) (el : ∀ k, k < 6 → sg_I ρ 353 k = lt k) (c0 : c = 1) (c1 : 0 ≤ v.toInt) (c2 : v.toInt ≤ 5) (h64 : s.length ≤ 62) : f_X12_workOut_L12 N 344 (n + 1) (Int32.ofNat i) (Int32.ofNat z) (Int32.ofNat s.length) (Int32.ofNat (520 * i + o)) ρ = f_X12_workOut_L12 N 344 n (Int32.ofNat i) (Int32.ofNat z) (Int32.ofNat (s.length + 1)) (Int32.ofNat (520 * i + (o + 1))) (put_I ρ 354 s.length (lt v.toNatClampNeg)) := by
  obtain ⟨g1, g2, h1, g3, g4⟩ := wo_g hi ho hz
  obtain ⟨R6, R7, R15, R16, L6, L7, L15, L16⟩ := wo_r d
  obtain ⟨s1, s2, s3⟩ := n_80 (show s.length < 80 by omega)
  have ht : v.toNatClampNeg < 6 := by rw [i_tn]; omega
  have n0 : ¬ c = 0 := by rw [c0]; decide
  rw [f_X12_workOut_L12, if_pos g3, f_of R6, L6, if_neg g1, g2, e1, if_neg n0, if_neg h1, if_pos c0]
  unfold f_X12_workOut_B45
  rw [f_of R6, L6, if_neg g1, g2, e1, if_neg n0, f_of R7, L7, if_neg h1, e2, f_of R15, L15, if_neg (x_in c1 (by omega)), el _ ht]
  unfold f_X12_workOut_B83
  rw [f_of R16, L16, if_neg s1, s2]
  unfold f_X12_workOut_B165
  rw [o_s, g4]
theorem rl_c0 {N n i o z : Nat} {ρ : Sg} {c v : Int32} {lt : Nat → Int32} {r : List Int32} {a : Int32} (d : RF (sg_R ρ) (sg_L ρ)) (hi : i < 5) (ho : o < z) (hz : z ≤ 520) (e1 : sg_I ρ 346 (520 * i + o) = c) (e2 : sg_I ρ 347 (520 * i + o) = v) (S : sg_I ρ 354 r.length = a) (c0 : c = 9) (h64 : r.length + 1 ≤ 62) : f_X12_workOut_L12 N 344 (n + 1) (Int32.ofNat i) (Int32.ofNat z) (Int32.ofNat (r.length + 1)) (Int32.ofNat (520 * i + o)) ρ = f_X12_workOut_L12 N 344 n (Int32.ofNat i) (Int32.ofNat z) (Int32.ofNat (r.length + 1)) (Int32.ofNat (520 * i + (o + 1))) (put_I ρ 354 r.length (1 - a)) := by
  obtain ⟨g1, g2, h1, g3, g4⟩ := wo_g hi ho hz
  obtain ⟨R6, R7, R15, R16, L6, L7, L15, L16⟩ := wo_r d
  obtain ⟨s1, s2, s3⟩ := n_80 (show r.length < 80 by omega)
  have es : Int32.ofNat (r.length + 1) - 1 = Int32.ofNat r.length := by
    rw [l_1, o_sub (by omega), Nat.add_sub_cancel]
  have n0 : ¬ c = 0 := by rw [c0]; decide
  have n1 : ¬ c = 1 := by rw [c0]; decide
  rw [f_X12_workOut_L12, if_pos g3, f_of R6, L6, if_neg g1, g2, e1, if_neg n0, if_neg h1, if_neg n1, if_neg h1, if_pos c0, f_of R16, L16, es, if_neg s1, if_neg s1, s2, S]
  unfold f_X12_workOut_B165
  rw [g4]
theorem rl_d {N n i o z : Nat} {ρ : Sg} {c v : Int32} {lt : Nat → Int32} {r : List Int32} {a b y : Int32} (d : RF (sg_R ρ) (sg_L ρ)) (hi : i < 5) (ho : o < z) (hz : z ≤ 520) (e1 : sg_I ρ 346 (520 * i + o) = c) (e2 : sg_I ρ 347 (520 * i + o) = v) (S : sg_I ρ 354 r.length = a) (S2 : sg_I ρ 354 (r.length + 1) = b) (n0 : ¬ c = 0) (n1 : ¬ c = 1) (n9 : ¬ c = 9) (jn : f_X12_worked c a.toInt64 b.toInt64 = some y) (h64 : r.length + 2 ≤ 62) : f_X12_workOut_L12 N 344 (n + 1) (Int32.ofNat i) (Int32.ofNat z) (Int32.ofNat (r.length + 1 + 1)) (Int32.ofNat (520 * i + o)) ρ = f_X12_workOut_L12 N 344 n (Int32.ofNat i) (Int32.ofNat z) (Int32.ofNat (r.length + 1)) (Int32.ofNat (520 * i + (o + 1))) (put_I ρ 354 r.length y) := by
  obtain ⟨g1, g2, h1, g3, g4⟩ := wo_g hi ho hz
  obtain ⟨R6, R7, R15, R16, L6, L7, L15, L16⟩ := wo_r d
  obtain ⟨s1, s2, s3⟩ := n_80 (show r.length < 80 by omega)
  obtain ⟨t1, t2, t3⟩ := n_80 (show r.length + 1 < 80 by omega)
  have es : Int32.ofNat (r.length + 1 + 1) + (-1) = Int32.ofNat (r.length + 1) := o_m1 (r.length + 1)
  have et : Int32.ofNat (r.length + 1) - 1 = Int32.ofNat r.length := by
    rw [l_1, o_sub (by omega), Nat.add_sub_cancel]
  rw [f_X12_workOut_L12, if_pos g3, f_of R6, L6, if_neg g1, g2, e1, if_neg n0, if_neg h1, if_neg n1, if_neg h1, if_neg n9, if_neg h1, f_of R16, L16, es, et, if_neg s1, if_neg t1, s2, t2, S, S2, f_of jn, if_neg s3]
  unfold f_X12_workOut_B165
  rw [g4]
