/-! ===== games and rests ===== -/
def bc_ (x : Int32) : Int32 := (f_J6_bitCount_0f7a4 x).getD 0
theorem bc_v (x : Int32) : f_J6_bitCount_0f7a4 x = some (bc_ x) := rfl
/-- the pictures seen at the first flashes, as bits -/
def gs_ (l : Nat) (P : Nat → Int32) (p t : Nat) : Nat → Int32
  | 0 => 0
  | i + 1 => gs_ l P p t i ||| (1 <<< (P ((p + i * t) % l) &&& 31))
def gm_ (l : Nat) (P : Nat → Int32) (p t : Nat) : Int32 := bc_ (gs_ l P p t 6 &&& 67108863)
theorem us_v {σ ρ : Sg} (r : Rel σ ρ) {w q p t : Nat} (hq : q ≤ 5) (hp : p < 16) (ht : t ≤ 100) (e3 : sg_I σ (20 + w) 3 = Int32.ofNat q) (e2 : sg_I σ (20 + w) 2 = Int32.ofNat p) : f_X11_unlikeSeen 20000 0 (some (20 + w)) (Int32.ofNat t) σ = some (gm_ (hL (sg_I ρ) q) (hP (sg_I ρ) q) p t) := by
  obtain ⟨b, c, h1, h2, h3, h4, h5, h6⟩ := so_v r (show q ≤ 100 by omega) e3
  have S : SP σ b (hL (sg_I ρ) q) (hP (sg_I ρ) q) := ⟨c, h2, h3, h4, h5, fun i hi => (h6 i hi).1⟩
  have lp : ∀ (j i m : Nat), i + j = 6 → j < m → f_X11_unlikeSeen_L12 20000 0 m (some (20 + w)) (Int32.ofNat t) (some b) (gs_ (hL (sg_I ρ) q) (hP (sg_I ρ) q) p t i) (Int32.ofNat i) σ = some (gm_ (hL (sg_I ρ) q) (hP (sg_I ρ) q) p t) := by
    intro j
    induction j with
    | zero =>
      intro i m hi hm
      obtain ⟨m, rfl⟩ : ∃ x, m = x + 1 := ⟨m - 1, by omega⟩
      have hi : i = 6 := by omega
      subst hi
      have wb : ∀ v : Int32, f_X11_withoutBlank v = some (v &&& 67108863) := fun v => rfl
      unfold gm_
      rw [f_X11_unlikeSeen_L12, if_pos (by decide), f_of (wb _), f_of (bc_v _)]
    | succ j ih =>
      intro i m hi hm
      obtain ⟨m, rfl⟩ : ∃ x, m = x + 1 := ⟨m - 1, by omega⟩
      have hit : i * t ≤ 6 * 100 := Nat.mul_le_mul (by omega) ht
      rw [f_X11_unlikeSeen_L12, if_neg (by rw [l_5, o_lt (by omega) (by omega)]; omega)]
      simp only [Option.bind_some]
      rw [e2, o_mul, o_add, S.sa (by omega)]
      simp only [Option.bind_some]
      rw [o_s]
      exact ih (i + 1) m (by omega) (by omega)
  have l0 := lp 6 0 20000 (by omega) (by omega)
  have l1 : f_X11_unlikeSeen_L12 20000 0 20000 (some (20 + w)) (Int32.ofNat t) (some b) 0 0 σ = some (gm_ (hL (sg_I ρ) q) (hP (sg_I ρ) q) p t) := l0
  unfold f_X11_unlikeSeen
  rw [f_of h1, l1]
theorem lk_h {σ ρ : Sg} (r : Rel σ ρ) {w q p x y : Nat} (hw : w < 4) (hq : q ≤ 5) (hp : p < 16) (hx : x ≤ 10) (hy : y ≤ 10) (e3 : sg_I σ (20 + w) 3 = Int32.ofNat q) (e2 : sg_I σ (20 + w) 2 = Int32.ofNat p) : f_X11_lookerHas 20000 0 (Int32.ofNat w) (Int32.ofNat x) (Int32.ofNat y) σ = some (2 * gm_ (hL (sg_I ρ) q) (hP (sg_I ρ) q) p (x * y) - Int32.ofNat x) ∧ f_X11_turnerHas 20000 0 (Int32.ofNat w) (Int32.ofNat x) (Int32.ofNat y) σ = some (9 - gm_ (hL (sg_I ρ) q) (hP (sg_I ρ) q) p (x * y) + Int32.ofNat y) := by
  have c := r.cf
  have hxy : x * y ≤ 10 * 10 := Nat.mul_le_mul hx hy
  have u := us_v r hq hp (show x * y ≤ 100 by omega) e3 e2
  have R1 : sg_R σ 0 13 = some 17 := by simp only [c]
  have R2 : sg_R σ 17 0 = some 18 := by simp only [c]
  have L2 : sg_L σ 18 = 4 := by simp only [c]
  constructor
  · unfold f_X11_lookerHas
    rw [f_of R1, f_of R2, L2, if_neg (o_in (by omega) (by omega)), o_tn (by omega), r.w18 w hw, o_mul, f_of u]
  · unfold f_X11_turnerHas
    rw [f_of R1, f_of R2, L2, if_neg (o_in (by omega) (by omega)), o_tn (by omega), r.w18 w hw, o_mul, f_of u]
theorem go_v {σ ρ : Sg} (r : Rel σ ρ) {w q p x y : Nat} (hw : w < 4) (hq : q ≤ 5) (hp : p < 16) (hx : x ≤ 10) (hy : y ≤ 10) (e3 : sg_I ρ 359 (4 * w + 3) = Int32.ofNat q) (e2 : sg_I ρ 359 (4 * w + 2) = Int32.ofNat p) (z : Int32) : f_X12_gameOf 20000 344 (Int32.ofNat w) (Int32.ofNat x) (Int32.ofNat y) z ρ = some (if z = 0 then 2 * gm_ (hL (sg_I ρ) q) (hP (sg_I ρ) q) p (x * y) - Int32.ofNat x else 9 - gm_ (hL (sg_I ρ) q) (hP (sg_I ρ) q) p (x * y) + Int32.ofNat y) := by
  have d := r.rf
  obtain ⟨bb, cc, ⟨-, -, s1, s2, -⟩, -, -⟩ := r.sp q
  have lp : ∀ (j i m : Nat), i + j = 6 → j < m → f_X12_gameOf_L6 20000 344 m (Int32.ofNat w) (Int32.ofNat x) (Int32.ofNat y) z (gs_ (hL (sg_I ρ) q) (hP (sg_I ρ) q) p (x * y) i) (Int32.ofNat i) ρ = some (if z = 0 then 2 * gm_ (hL (sg_I ρ) q) (hP (sg_I ρ) q) p (x * y) - Int32.ofNat x else 9 - gm_ (hL (sg_I ρ) q) (hP (sg_I ρ) q) p (x * y) + Int32.ofNat y) := by
    intro j
    induction j with
    | zero =>
      intro i m hi hm
      obtain ⟨m, rfl⟩ : ∃ x, m = x + 1 := ⟨m - 1, by omega⟩
      have hi : i = 6 := by omega
      subst hi
      unfold gm_
      rw [f_X12_gameOf_L6, if_neg (by decide), f_of (bc_v _)]
      by_cases hz : z = 0
      · rw [if_pos hz, if_pos hz]
      · rw [if_neg hz, if_neg hz]
    | succ j ih =>
      intro i m hi hm
      obtain ⟨m, rfl⟩ : ∃ x, m = x + 1 := ⟨m - 1, by omega⟩
      have hix : i * x * y ≤ 6 * 10 * 10 := Nat.mul_le_mul (Nat.mul_le_mul (by omega) hx) hy
      have hm := Nat.mod_lt (p + i * x * y) (show 0 < hL (sg_I ρ) q by omega)
      rw [f_X12_gameOf_L6, if_pos (by rw [l_6, o_lt (by omega) (by omega)]; omega), of_3 d hw, of_2 d hw, lo_v r hw (by omega) e3]
      simp only [Option.bind_some]
      rw [if_neg (by rw [l_0, o_eq (by omega) (by omega)]; omega), e2, e3, o_mul, o_mul, o_add, rm_o (by omega) (by omega), pa_v r (by omega) (by omega)]
      simp only [Option.bind_some]
      rw [o_s, Nat.mul_assoc]
      exact ih (i + 1) m (by omega) (by omega)
  have l0 := lp 6 0 20000 (by omega) (by omega)
  unfold f_X12_gameOf
  exact l0
theorem p2_game : so_game p2_I 20000 := by
  intro x y z u σ r
  obtain ⟨n, h1, h2, h3, h4, h5⟩ := Rel.nw r
  have c := Rel.cf r
  have iw := iw_v c h1 h3 x
  have jw := jw_v h1 h2 x
  have e0 : (0 : Int32).toInt = 0 := rfl
  have e1 : (1 : Int32).toInt = 1 := rfl
  have e3 : (3 : Int32).toInt = 3 := rfl
  have e4 : (4 : Int32).toInt = 4 := rfl
  by_cases g : 0 ≤ x.toInt ∧ x.toInt < n
  · rw [if_pos g] at iw jw
    by_cases gy : 1 ≤ y.toInt ∧ y.toInt ≤ 4
    · have y1 : ¬ y < 1 := by rw [i_lt]; omega
      have y2 : ¬ 4 < y := by rw [i_lt]; omega
      by_cases gz : 0 ≤ z.toInt ∧ z.toInt ≤ 3
      · have z1 : ¬ z < 0 := by rw [i_lt]; omega
        have z2 : ¬ 3 < z := by rw [i_lt]; omega
        obtain ⟨w, hw, rfl⟩ := x_lt g
        obtain ⟨a, a1, rfl⟩ := x_ob (B := 4) (x := y) (by omega)
        obtain ⟨b, b1, rfl⟩ := x_ob (B := 3) gz
        obtain ⟨v, z, p, q, v1, z1', q1, p1, p2, w1, w2, w3, w4, w5, w6, w7, w8⟩ := Rel.wh r h2 h1 hw
        obtain ⟨l1, l2⟩ := lk_h r (x := a) (y := b) (show w < 4 by omega) q1 p2 (by omega) (by omega) w8 w7
        by_cases u0 : u = 0
        · subst u0
          have go := go_v r (x := a) (y := b) (show w < 4 by omega) q1 p2 (by omega) (by omega) w4 w3 0
          rw [if_pos rfl] at go
          exact so_q (2 * gm_ (hL (sg_I σ) q) (hP (sg_I σ) q) p (a * b) - Int32.ofNat a) (by unfold f_X11_game; simp only [Option.bind_some, ↓reduceIte, gI_I, gI_R, gI_J, gR_I, gR_R, gR_J, gL_I, gL_R, gL_J, gN_I, gN_R, gN_J, gJ_I, gJ_R, Int32.reduceLT, e_1_0, Int32.reduceToNatClampNeg, Int32.reduceToInt, Int.reduceLE, Int.reduceLT, Int.reduceNeg, Int.reduceEq,  Nat.reduceLT, Nat.reduceLeDiff, Nat.reduceEqDiff, Nat.reduceAdd, Nat.reduceMul, false_or, or_false, true_and, and_true, false_and, and_false, not_false_eq_true, not_true_eq_false, or_self, and_self, true_or, or_true, iw, y1, y2, z1, z2, l1]) (by unfold f_X12_game; simp only [Option.bind_some, ↓reduceIte, gI_I, gI_R, gI_J, gR_I, gR_R, gR_J, gL_I, gL_R, gL_J, gN_I, gN_R, gN_J, gJ_I, gJ_R, Int32.reduceLT, e_1_0, Int32.reduceToNatClampNeg, Int32.reduceToInt, Int.reduceLE, Int.reduceLT, Int.reduceNeg, Int.reduceEq,  Nat.reduceLT, Nat.reduceLeDiff, Nat.reduceEqDiff, Nat.reduceAdd, Nat.reduceMul, false_or, or_false, true_and, and_true, false_and, and_false, not_false_eq_true, not_true_eq_false, or_self, and_self, true_or, or_true, jw, in_v, gy, gz, go]) r
        · by_cases u1 : u = 1
          · subst u1
            have go := go_v r (x := a) (y := b) (show w < 4 by omega) q1 p2 (by omega) (by omega) w4 w3 1
            rw [if_neg (by decide)] at go
            exact so_q (9 - gm_ (hL (sg_I σ) q) (hP (sg_I σ) q) p (a * b) + Int32.ofNat b) (by unfold f_X11_game; simp only [Option.bind_some, ↓reduceIte, gI_I, gI_R, gI_J, gR_I, gR_R, gR_J, gL_I, gL_R, gL_J, gN_I, gN_R, gN_J, gJ_I, gJ_R, Int32.reduceLT, e_1_0, Int32.reduceToNatClampNeg, Int32.reduceToInt, Int.reduceLE, Int.reduceLT, Int.reduceNeg, Int.reduceEq,  Nat.reduceLT, Nat.reduceLeDiff, Nat.reduceEqDiff, Nat.reduceAdd, Nat.reduceMul, false_or, or_false, true_and, and_true, false_and, and_false, not_false_eq_true, not_true_eq_false, or_self, and_self, true_or, or_true, iw, y1, y2, z1, z2, l2]) (by unfold f_X12_game; simp only [Option.bind_some, ↓reduceIte, gI_I, gI_R, gI_J, gR_I, gR_R, gR_J, gL_I, gL_R, gL_J, gN_I, gN_R, gN_J, gJ_I, gJ_R, Int32.reduceLT, e_1_0, Int32.reduceToNatClampNeg, Int32.reduceToInt, Int.reduceLE, Int.reduceLT, Int.reduceNeg, Int.reduceEq,  Nat.reduceLT, Nat.reduceLeDiff, Nat.reduceEqDiff, Nat.reduceAdd, Nat.reduceMul, false_or, or_false, true_and, and_true, false_and, and_false, not_false_eq_true, not_true_eq_false, or_self, and_self, true_or, or_true, jw, in_v, gy, gz, go]) r
          · have gu : ¬ (0 ≤ u.toInt ∧ u.toInt ≤ 1) := by
              have u0' : u.toInt ≠ 0 := fun h => u0 (i_eq.mpr h)
              have u1' : u.toInt ≠ 1 := fun h => u1 (i_eq.mpr h)
              omega
            exact so_q (-1000000) (by unfold f_X11_game; simp only [Option.bind_some, ↓reduceIte, gI_I, gI_R, gI_J, gR_I, gR_R, gR_J, gL_I, gL_R, gL_J, gN_I, gN_R, gN_J, gJ_I, gJ_R, Int32.reduceLT, e_1_0, Int32.reduceToNatClampNeg, Int32.reduceToInt, Int.reduceLE, Int.reduceLT, Int.reduceNeg, Int.reduceEq,  Nat.reduceLT, Nat.reduceLeDiff, Nat.reduceEqDiff, Nat.reduceAdd, Nat.reduceMul, false_or, or_false, true_and, and_true, false_and, and_false, not_false_eq_true, not_true_eq_false, or_self, and_self, true_or, or_true, iw, y1, y2, z1, z2, u0, u1]) (by unfold f_X12_game f_X12_game_B48; simp only [Option.bind_some, ↓reduceIte, gI_I, gI_R, gI_J, gR_I, gR_R, gR_J, gL_I, gL_R, gL_J, gN_I, gN_R, gN_J, gJ_I, gJ_R, Int32.reduceLT, e_1_0, Int32.reduceToNatClampNeg, Int32.reduceToInt, Int.reduceLE, Int.reduceLT, Int.reduceNeg, Int.reduceEq,  Nat.reduceLT, Nat.reduceLeDiff, Nat.reduceEqDiff, Nat.reduceAdd, Nat.reduceMul, false_or, or_false, true_and, and_true, false_and, and_false, not_false_eq_true, not_true_eq_false, or_self, and_self, true_or, or_true, jw, in_v, gy, gz, gu]) r
      · refine so_q (-1000000) ?_ (by unfold f_X12_game f_X12_game_B48; simp only [Option.bind_some, ↓reduceIte, gI_I, gI_R, gI_J, gR_I, gR_R, gR_J, gL_I, gL_R, gL_J, gN_I, gN_R, gN_J, gJ_I, gJ_R, Int32.reduceLT, e_1_0, Int32.reduceToNatClampNeg, Int32.reduceToInt, Int.reduceLE, Int.reduceLT, Int.reduceNeg, Int.reduceEq,  Nat.reduceLT, Nat.reduceLeDiff, Nat.reduceEqDiff, Nat.reduceAdd, Nat.reduceMul, false_or, or_false, true_and, and_true, false_and, and_false, not_false_eq_true, not_true_eq_false, or_self, and_self, true_or, or_true, jw, in_v, gy, gz]) r
        unfold f_X11_game f_X11_game_B27
        by_cases h : z < 0
        · simp only [Option.bind_some, ↓reduceIte, gI_I, gI_R, gI_J, gR_I, gR_R, gR_J, gL_I, gL_R, gL_J, gN_I, gN_R, gN_J, gJ_I, gJ_R, Int32.reduceLT, e_1_0, Int32.reduceToNatClampNeg, Int32.reduceToInt, Int.reduceLE, Int.reduceLT, Int.reduceNeg, Int.reduceEq,  Nat.reduceLT, Nat.reduceLeDiff, Nat.reduceEqDiff, Nat.reduceAdd, Nat.reduceMul, false_or, or_false, true_and, and_true, false_and, and_false, not_false_eq_true, not_true_eq_false, or_self, and_self, true_or, or_true, iw, y1, y2, h]
        · have h' : 3 < z := by rw [i_lt] at h ⊢; omega
          simp only [Option.bind_some, ↓reduceIte, gI_I, gI_R, gI_J, gR_I, gR_R, gR_J, gL_I, gL_R, gL_J, gN_I, gN_R, gN_J, gJ_I, gJ_R, Int32.reduceLT, e_1_0, Int32.reduceToNatClampNeg, Int32.reduceToInt, Int.reduceLE, Int.reduceLT, Int.reduceNeg, Int.reduceEq,  Nat.reduceLT, Nat.reduceLeDiff, Nat.reduceEqDiff, Nat.reduceAdd, Nat.reduceMul, false_or, or_false, true_and, and_true, false_and, and_false, not_false_eq_true, not_true_eq_false, or_self, and_self, true_or, or_true, iw, y1, y2, h, h']
    · refine so_q (-1000000) ?_ (by unfold f_X12_game f_X12_game_B48; simp only [Option.bind_some, ↓reduceIte, gI_I, gI_R, gI_J, gR_I, gR_R, gR_J, gL_I, gL_R, gL_J, gN_I, gN_R, gN_J, gJ_I, gJ_R, Int32.reduceLT, e_1_0, Int32.reduceToNatClampNeg, Int32.reduceToInt, Int.reduceLE, Int.reduceLT, Int.reduceNeg, Int.reduceEq,  Nat.reduceLT, Nat.reduceLeDiff, Nat.reduceEqDiff, Nat.reduceAdd, Nat.reduceMul, false_or, or_false, true_and, and_true, false_and, and_false, not_false_eq_true, not_true_eq_false, or_self, and_self, true_or, or_true, jw, in_v, gy]) r
      unfold f_X11_game f_X11_game_B27
      by_cases h : y < 1
      · simp only [Option.bind_some, ↓reduceIte, gI_I, gI_R, gI_J, gR_I, gR_R, gR_J, gL_I, gL_R, gL_J, gN_I, gN_R, gN_J, gJ_I, gJ_R, Int32.reduceLT, e_1_0, Int32.reduceToNatClampNeg, Int32.reduceToInt, Int.reduceLE, Int.reduceLT, Int.reduceNeg, Int.reduceEq,  Nat.reduceLT, Nat.reduceLeDiff, Nat.reduceEqDiff, Nat.reduceAdd, Nat.reduceMul, false_or, or_false, true_and, and_true, false_and, and_false, not_false_eq_true, not_true_eq_false, or_self, and_self, true_or, or_true, iw, h]
      · have h' : 4 < y := by rw [i_lt] at h ⊢; omega
        simp only [Option.bind_some, ↓reduceIte, gI_I, gI_R, gI_J, gR_I, gR_R, gR_J, gL_I, gL_R, gL_J, gN_I, gN_R, gN_J, gJ_I, gJ_R, Int32.reduceLT, e_1_0, Int32.reduceToNatClampNeg, Int32.reduceToInt, Int.reduceLE, Int.reduceLT, Int.reduceNeg, Int.reduceEq,  Nat.reduceLT, Nat.reduceLeDiff, Nat.reduceEqDiff, Nat.reduceAdd, Nat.reduceMul, false_or, or_false, true_and, and_true, false_and, and_false, not_false_eq_true, not_true_eq_false, or_self, and_self, true_or, or_true, iw, h, h']
  · rw [if_neg g] at iw jw
    exact so_q (-1000000) (by unfold f_X11_game f_X11_game_B27; simp only [Option.bind_some, ↓reduceIte, gI_I, gI_R, gI_J, gR_I, gR_R, gR_J, gL_I, gL_R, gL_J, gN_I, gN_R, gN_J, gJ_I, gJ_R, Int32.reduceLT, e_1_0, Int32.reduceToNatClampNeg, Int32.reduceToInt, Int.reduceLE, Int.reduceLT, Int.reduceNeg, Int.reduceEq,  Nat.reduceLT, Nat.reduceLeDiff, Nat.reduceEqDiff, Nat.reduceAdd, Nat.reduceMul, false_or, or_false, true_and, and_true, false_and, and_false, not_false_eq_true, not_true_eq_false, or_self, and_self, true_or, or_true, iw]) (by unfold f_X12_game f_X12_game_B48; simp only [Option.bind_some, ↓reduceIte, gI_I, gI_R, gI_J, gR_I, gR_R, gR_J, gL_I, gL_R, gL_J, gN_I, gN_R, gN_J, gJ_I, gJ_R, Int32.reduceLT, e_1_0, Int32.reduceToNatClampNeg, Int32.reduceToInt, Int.reduceLE, Int.reduceLT, Int.reduceNeg, Int.reduceEq,  Nat.reduceLT, Nat.reduceLeDiff, Nat.reduceEqDiff, Nat.reduceAdd, Nat.reduceMul, false_or, or_false, true_and, and_true, false_and, and_false, not_false_eq_true, not_true_eq_false, or_self, and_self, true_or, or_true, jw]) r
/-! a search: the i-th of those that are so, or how many -/
def sr_ (R : Nat → Bool) (V : Nat → Int32) (i : Int32) : Nat → Nat → Nat → Int32
  | 0, _, c => if i = -1 then Int32.ofNat c else -1
  | j + 1, k, c => if R k = true then (if Int32.ofNat c = i then V k else sr_ R V i j (k + 1) (c + 1)) else sr_ R V i j (k + 1) c
theorem sr_n {R : Nat → Bool} {V : Nat → Int32} {i : Int32} (hi : i.toInt < -1) : ∀ (j k c : Nat), c + j < 2147483648 → sr_ R V i j k c = -1
  | 0, k, c, h => by
    have em : (-1 : Int32).toInt = -1 := rfl
    show (if i = -1 then Int32.ofNat c else -1) = -1
    rw [if_neg (fun q => by rw [q] at hi; omega)]
  | j + 1, k, c, h => by
    show (if R k = true then (if Int32.ofNat c = i then V k else sr_ R V i j (k + 1) (c + 1)) else sr_ R V i j (k + 1) c) = -1
    have e := o_ti (show c < 2147483648 by omega)
    rw [if_neg (show ¬ Int32.ofNat c = i from fun q => by rw [q] at e; omega), sr_n hi j (k + 1) (c + 1) (by omega), sr_n hi j (k + 1) c (by omega)]
    split <;> rfl
/-- neither has more -/
def rb_ (A B : Nat → Nat → Int32) (x y : Nat) : Bool := fb_ (fun k => decide (A x y < A (k + 1) y) || decide (B x y < B x k)) 4
theorem rc_v {σ ρ : Sg} (r : Rel σ ρ) {w q p x y : Nat} (hw : w < 4) (hq : q ≤ 5) (hp : p < 16) (hx : x ≤ 10) (hy : y ≤ 10) (e3 : sg_I σ (20 + w) 3 = Int32.ofNat q) (e2 : sg_I σ (20 + w) 2 = Int32.ofNat p) : f_X11_isRest 20000 0 (Int32.ofNat w) (Int32.ofNat x) (Int32.ofNat y) σ = some (bi_ (rb_ (fun x y => 2 * gm_ (hL (sg_I ρ) q) (hP (sg_I ρ) q) p (x * y) - Int32.ofNat x) (fun x y => 9 - gm_ (hL (sg_I ρ) q) (hP (sg_I ρ) q) p (x * y) + Int32.ofNat y) x y)) := by
  have L : ∀ x y, x ≤ 10 → y ≤ 10 → f_X11_lookerHas 20000 0 (Int32.ofNat w) (Int32.ofNat x) (Int32.ofNat y) σ = some ((fun x y => 2 * gm_ (hL (sg_I ρ) q) (hP (sg_I ρ) q) p (x * y) - Int32.ofNat x) x y) := fun x y h1 h2 => (lk_h r hw hq hp h1 h2 e3 e2).1
  have T : ∀ x y, x ≤ 10 → y ≤ 10 → f_X11_turnerHas 20000 0 (Int32.ofNat w) (Int32.ofNat x) (Int32.ofNat y) σ = some ((fun x y => 9 - gm_ (hL (sg_I ρ) q) (hP (sg_I ρ) q) p (x * y) + Int32.ofNat y) x y) := fun x y h1 h2 => (lk_h r hw hq hp h1 h2 e3 e2).2
  generalize (fun x y => 2 * gm_ (hL (sg_I ρ) q) (hP (sg_I ρ) q) p (x * y) - Int32.ofNat x) = A at L ⊢
  generalize (fun x y => 9 - gm_ (hL (sg_I ρ) q) (hP (sg_I ρ) q) p (x * y) + Int32.ofNat y) = B at T ⊢
  have lp : ∀ (j k m : Nat), k + j = 4 → j < m → f_X11_isRest_L24 20000 0 m (Int32.ofNat w) (Int32.ofNat x) (Int32.ofNat y) (A x y) (B x y) (bi_ (fb_ (fun k => decide (A x y < A (k + 1) y) || decide (B x y < B x k)) k)) (Int32.ofNat k) σ = some (bi_ (rb_ A B x y)) := by
    intro j
    induction j with
    | zero =>
      intro k m hk hm
      obtain ⟨m, rfl⟩ : ∃ x, m = x + 1 := ⟨m - 1, by omega⟩
      have hk : k = 4 := by omega
      subst hk
      rw [f_X11_isRest_L24, if_neg (by decide)]
      unfold rb_
      cases fb_ (fun k => decide (A x y < A (k + 1) y) || decide (B x y < B x k)) 4 <;> rfl
    | succ j ih =>
      intro k m hk hm
      obtain ⟨m, rfl⟩ : ∃ x, m = x + 1 := ⟨m - 1, by omega⟩
      have ih1 := ih (k + 1) m (by omega) (by omega)
      rw [f_X11_isRest_L24, if_pos (by rw [l_4, o_lt (by omega) (by omega)]; omega)]
      unfold f_X11_isRest_B67 f_X11_isRest_B68
      cases hb : fb_ (fun k => decide (A x y < A (k + 1) y) || decide (B x y < B x k)) k with
      | false =>
        rw [fb_f hb 1] at ih1
        rw [if_pos bi_f, o_s]
        exact ih1
      | true =>
        rw [fb_s hb] at ih1
        rw [if_neg (by decide), o_s, L (k + 1) y (by omega) hy]
        simp only [Option.bind_some]
        by_cases q1 : A x y < A (k + 1) y
        · rw [decide_eq_true q1] at ih1
          rw [if_pos q1]
          exact ih1
        · rw [if_neg q1, T x k hx (by omega)]
          simp only [Option.bind_some]
          by_cases q2 : B x y < B x k
          · rw [decide_eq_false q1, decide_eq_true q2] at ih1
            rw [if_pos q2]
            exact ih1
          · rw [decide_eq_false q1, decide_eq_false q2] at ih1
            rw [if_neg q2]
            exact ih1
  unfold f_X11_isRest
  rw [L x y hx hy]
  simp only [Option.bind_some]
  rw [T x y hx hy]
  simp only [Option.bind_some]
  have l0 := lp 4 0 20000 (by omega) (by omega)
  exact l0
theorem rd_v {σ ρ : Sg} (r : Rel σ ρ) {w q p x y : Nat} (hw : w < 4) (hq : q ≤ 5) (hp : p < 16) (hx : x ≤ 10) (hy : y ≤ 10) (e3 : sg_I ρ 359 (4 * w + 3) = Int32.ofNat q) (e2 : sg_I ρ 359 (4 * w + 2) = Int32.ofNat p) : f_X12_isRest 20000 344 (Int32.ofNat w) (Int32.ofNat x) (Int32.ofNat y) ρ = some (bi_ (rb_ (fun x y => 2 * gm_ (hL (sg_I ρ) q) (hP (sg_I ρ) q) p (x * y) - Int32.ofNat x) (fun x y => 9 - gm_ (hL (sg_I ρ) q) (hP (sg_I ρ) q) p (x * y) + Int32.ofNat y) x y)) := by
  have L : ∀ x y, x ≤ 10 → y ≤ 10 → f_X12_gameOf 20000 344 (Int32.ofNat w) (Int32.ofNat x) (Int32.ofNat y) 0 ρ = some ((fun x y => 2 * gm_ (hL (sg_I ρ) q) (hP (sg_I ρ) q) p (x * y) - Int32.ofNat x) x y) := fun x y h1 h2 => by
    rw [go_v r hw hq hp h1 h2 e3 e2 0, if_pos rfl]
  have T : ∀ x y, x ≤ 10 → y ≤ 10 → f_X12_gameOf 20000 344 (Int32.ofNat w) (Int32.ofNat x) (Int32.ofNat y) 1 ρ = some ((fun x y => 9 - gm_ (hL (sg_I ρ) q) (hP (sg_I ρ) q) p (x * y) + Int32.ofNat y) x y) := fun x y h1 h2 => by
    rw [go_v r hw hq hp h1 h2 e3 e2 1, if_neg (by decide)]
  generalize (fun x y => 2 * gm_ (hL (sg_I ρ) q) (hP (sg_I ρ) q) p (x * y) - Int32.ofNat x) = A at L ⊢
  generalize (fun x y => 9 - gm_ (hL (sg_I ρ) q) (hP (sg_I ρ) q) p (x * y) + Int32.ofNat y) = B at T ⊢
  have lp : ∀ (j k m : Nat), k + j = 4 → j < m → fb_ (fun k => decide (A x y < A (k + 1) y) || decide (B x y < B x k)) k = true → f_X12_isRest_L3 20000 344 m (Int32.ofNat w) (Int32.ofNat x) (Int32.ofNat y) (Int32.ofNat k) ρ = some (bi_ (rb_ A B x y)) := by
    intro j
    induction j with
    | zero =>
      intro k m hk hm hb
      obtain ⟨m, rfl⟩ : ∃ x, m = x + 1 := ⟨m - 1, by omega⟩
      have hk : k = 4 := by omega
      subst hk
      rw [f_X12_isRest_L3, if_neg (by decide)]
      unfold rb_
      rw [hb]
      rfl
    | succ j ih =>
      intro k m hk hm hb
      obtain ⟨m, rfl⟩ : ∃ x, m = x + 1 := ⟨m - 1, by omega⟩
      have hf : ∀ b, fb_ (fun k => decide (A x y < A (k + 1) y) || decide (B x y < B x k)) (k + 1) = b → b = false → some (0 : Int32) = some (bi_ (rb_ A B x y)) := by
        intro b h1 h2
        rw [h2] at h1
        have h6 := fb_f h1 (4 - (k + 1))
        rw [show k + 1 + (4 - (k + 1)) = 4 by omega] at h6
        unfold rb_
        rw [h6]
        rfl
      have es := fb_s hb
      rw [f_X12_isRest_L3, if_pos (by rw [l_4, o_lt (by omega) (by omega)]; omega), o_s, L (k + 1) y (by omega) hy, L x y hx hy, T x k hx (by omega), T x y hx hy]
      simp only [Option.bind_some]
      by_cases q1 : A x y < A (k + 1) y
      · rw [if_pos q1]
        exact hf _ es (by rw [decide_eq_true q1]; rfl)
      · rw [if_neg q1]
        by_cases q2 : B x y < B x k
        · rw [if_pos q2]
          exact hf _ es (by rw [decide_eq_false q1, decide_eq_true q2]; rfl)
        · rw [if_neg q2]
          exact ih (k + 1) m (by omega) (by omega) (by rw [es, decide_eq_false q1, decide_eq_false q2]; rfl)
  have l0 := lp 4 0 20000 (by omega) (by omega) rfl
  unfold f_X12_isRest
  exact l0
theorem p2_rests : so_rests p2_I 20000 := by
  intro x i σ r
  obtain ⟨n, h1, h2, h3, h4, h5⟩ := Rel.nw r
  have c := Rel.cf r
  have iw := iw_v c h1 h3 x
  have jw := jw_v h1 h2 x
  have em : (-1 : Int32).toInt = -1 := rfl
  by_cases g : 0 ≤ x.toInt ∧ x.toInt < n
  · rw [if_pos g] at iw jw
    obtain ⟨w, hw, rfl⟩ := x_lt g
    obtain ⟨v, z, p, q, v1, z1, q1, p1, p2, w1, w2, w3, w4, w5, w6, w7, w8⟩ := Rel.wh r h2 h1 hw
    have IC : ∀ x y, x ≤ 10 → y ≤ 10 → f_X11_isRest 20000 0 (Int32.ofNat w) (Int32.ofNat x) (Int32.ofNat y) σ = some (bi_ ((rb_ (fun x y => 2 * gm_ (hL (sg_I σ) q) (hP (sg_I σ) q) p (x * y) - Int32.ofNat x) (fun x y => 9 - gm_ (hL (sg_I σ) q) (hP (sg_I σ) q) p (x * y) + Int32.ofNat y)) x y)) := fun x y a1 a2 => rc_v r (show w < 4 by omega) q1 p2 a1 a2 w8 w7
    have IR : ∀ x y, x ≤ 10 → y ≤ 10 → f_X12_isRest 20000 344 (Int32.ofNat w) (Int32.ofNat x) (Int32.ofNat y) σ = some (bi_ ((rb_ (fun x y => 2 * gm_ (hL (sg_I σ) q) (hP (sg_I σ) q) p (x * y) - Int32.ofNat x) (fun x y => 9 - gm_ (hL (sg_I σ) q) (hP (sg_I σ) q) p (x * y) + Int32.ofNat y)) x y)) := fun x y a1 a2 => rd_v r (show w < 4 by omega) q1 p2 a1 a2 w4 w3
    generalize (rb_ (fun x y => 2 * gm_ (hL (sg_I σ) q) (hP (sg_I σ) q) p (x * y) - Int32.ofNat x) (fun x y => 9 - gm_ (hL (sg_I σ) q) (hP (sg_I σ) q) p (x * y) + Int32.ofNat y)) = Q at IC IR
    have R2 : ∀ (j k m c : Nat), k + j = 16 → j < m → c ≤ k → f_X12_rests_L20 20000 344 m (Int32.ofNat w) i (Int32.ofNat c) (Int32.ofNat k) σ = some (sr_ (fun k => Q (k / 4 + 1) (k % 4)) (fun k => Int32.ofNat (10 * (k / 4 + 1) + k % 4)) i j k c) := by
      intro j
      induction j with
      | zero =>
        intro k m c hk hm hc
        obtain ⟨m, rfl⟩ : ∃ x, m = x + 1 := ⟨m - 1, by omega⟩
        rw [f_X12_rests_L20, if_neg (by rw [l_16, o_lt (by omega) (by omega)]; omega), sr_]
        split <;> rfl
      | succ j ih =>
        intro k m c hk hm hc
        obtain ⟨m, rfl⟩ : ∃ x, m = x + 1 := ⟨m - 1, by omega⟩
        rw [f_X12_rests_L20, if_pos (by rw [l_16, o_lt (by omega) (by omega)]; omega), l_4, o_div (by omega) (by omega), o_s, rm_o (by omega) (by omega), IR (k / 4 + 1) (k % 4) (by omega) (by omega), sr_]
        simp only [Option.bind_some, f_X12_rests_B68, o_s]
        cases hb : Q (k / 4 + 1) (k % 4) with
        | false =>
          rw [if_pos bi_f, if_neg (by decide)]
          exact ih (k + 1) m c (by omega) (by omega) (by omega)
        | true =>
          rw [if_neg (by decide), if_pos rfl]
          by_cases hi : Int32.ofNat c = i
          · rw [if_pos hi, if_pos hi, l_10, o_mul, o_add]
          · rw [if_neg hi, if_neg hi]
            exact ih (k + 1) m (c + 1) (by omega) (by omega) (by omega)
    have C1 : ∀ (a : Nat), 1 ≤ a → a ≤ 4 → ∀ (K : Int32 → Int32 → Int32 → Int32 → Option Int32), (∀ c : Nat, c ≤ 4 * a → K (Int32.ofNat w) i (Int32.ofNat c) (Int32.ofNat (a + 1)) = some (sr_ (fun k => Q (k / 4 + 1) (k % 4)) (fun k => Int32.ofNat (10 * (k / 4 + 1) + k % 4)) i (16 - 4 * a) (4 * a) c)) → ∀ (j b m c : Nat), b + j = 4 → j < m → c ≤ 4 * (a - 1) + b → f_X11_rests_L24 20000 0 K m (Int32.ofNat w) i (Int32.ofNat c) (Int32.ofNat a) (Int32.ofNat b) σ = some (sr_ (fun k => Q (k / 4 + 1) (k % 4)) (fun k => Int32.ofNat (10 * (k / 4 + 1) + k % 4)) i (16 - 4 * a + j) (4 * (a - 1) + b) c) := by
      intro a a1 a4 K hK j
      induction j with
      | zero =>
        intro b m c hb hm hc
        obtain ⟨m, rfl⟩ : ∃ x, m = x + 1 := ⟨m - 1, by omega⟩
        rw [f_X11_rests_L24, if_pos (by rw [l_3, o_lt (by omega) (by omega)]; omega), o_s, hK c (by omega)]
        rw [show 4 * (a - 1) + b = 4 * a by omega]
        rfl
      | succ j ih =>
        intro b m c hb hm hc
        obtain ⟨m, rfl⟩ : ∃ x, m = x + 1 := ⟨m - 1, by omega⟩
        have d4 : (4 * (a - 1) + b) / 4 + 1 = a := by omega
        have m4 : (4 * (a - 1) + b) % 4 = b := by omega
        have ih0 := ih (b + 1) m c (by omega) (by omega) (by omega)
        have ih1 := ih (b + 1) m (c + 1) (by omega) (by omega) (by omega)
        rw [f_X11_rests_L24, if_neg (by rw [l_3, o_lt (by omega) (by omega)]; omega), IC a b (by omega) (by omega)]
        show _ = some (sr_ _ _ i (16 - 4 * a + j + 1) (4 * (a - 1) + b) c)
        rw [sr_]
        simp only [Option.bind_some, f_X11_rests_B59, o_s, d4, m4]
        cases hq : Q a b with
        | false =>
          rw [if_pos bi_f, if_neg (by decide)]
          exact ih0
        | true =>
          rw [if_neg (by decide), if_pos rfl]
          by_cases hi : Int32.ofNat c = i
          · rw [if_pos hi, if_pos hi, l_10, o_mul, o_add]
          · rw [if_neg hi, if_neg hi]
            exact ih1
    have C2 : ∀ (j a m c : Nat), a + j = 5 → 1 ≤ a → j < m → c ≤ 4 * (a - 1) → f_X11_rests_L15 20000 0 m (Int32.ofNat w) i (Int32.ofNat c) (Int32.ofNat a) σ = some (sr_ (fun k => Q (k / 4 + 1) (k % 4)) (fun k => Int32.ofNat (10 * (k / 4 + 1) + k % 4)) i (16 - 4 * (a - 1)) (4 * (a - 1)) c) := by
      intro j
      induction j with
      | zero =>
        intro a m c ha h1 hm hc
        obtain ⟨m, rfl⟩ : ∃ x, m = x + 1 := ⟨m - 1, by omega⟩
        have ha : a = 5 := by omega
        subst ha
        rw [f_X11_rests_L15, if_pos (by decide)]
        show _ = some (sr_ _ _ i 0 16 c)
        rw [sr_]
        split <;> rfl
      | succ j ih =>
        intro a m c ha h1 hm hc
        obtain ⟨m, rfl⟩ : ∃ x, m = x + 1 := ⟨m - 1, by omega⟩
        rw [f_X11_rests_L15, if_neg (by rw [l_4, o_lt (by omega) (by omega)]; omega)]
        have := C1 a h1 (by omega) (fun v1 v2 v3 v4 => f_X11_rests_L15 20000 0 m v1 v2 v3 v4 σ) (fun c hc => by
          have := ih (a + 1) m c (by omega) (by omega) (by omega) (by omega)
          rw [show a + 1 - 1 = a by omega] at this
          exact this) 4 0 20000 c (by omega) (by omega) (by omega)
        rw [show 16 - 4 * (a - 1) = 16 - 4 * a + 4 by omega]
        exact this
    have v1 := C2 4 1 20000 0 (by omega) (by omega) (by omega) (by omega)
    have v2 := R2 16 0 20000 0 (by omega) (by omega) (by omega)
    have v1' : f_X11_rests_L15 20000 0 20000 (Int32.ofNat w) i 0 1 σ = some (sr_ (fun k => Q (k / 4 + 1) (k % 4)) (fun k => Int32.ofNat (10 * (k / 4 + 1) + k % 4)) i 16 0 0) := v1
    have v2' : f_X12_rests_L20 20000 344 20000 (Int32.ofNat w) i 0 0 σ = some (sr_ (fun k => Q (k / 4 + 1) (k % 4)) (fun k => Int32.ofNat (10 * (k / 4 + 1) + k % 4)) i 16 0 0) := v2
    refine so_q (sr_ (fun k => Q (k / 4 + 1) (k % 4)) (fun k => Int32.ofNat (10 * (k / 4 + 1) + k % 4)) i 16 0 0) (by unfold f_X11_rests; simp only [Option.bind_some, ↓reduceIte, gI_I, gI_R, gI_J, gR_I, gR_R, gR_J, gL_I, gL_R, gL_J, gN_I, gN_R, gN_J, gJ_I, gJ_R, Int32.reduceLT, e_1_0, Int32.reduceToNatClampNeg, Int32.reduceToInt, Int.reduceLE, Int.reduceLT, Int.reduceNeg, Int.reduceEq,  Nat.reduceLT, Nat.reduceLeDiff, Nat.reduceEqDiff, Nat.reduceAdd, Nat.reduceMul, false_or, or_false, true_and, and_true, false_and, and_false, not_false_eq_true, not_true_eq_false, or_self, and_self, true_or, or_true, iw, v1']) ?_ r
    unfold f_X12_rests
    by_cases hi : i < -1
    · simp only [Option.bind_some, ↓reduceIte, gI_I, gI_R, gI_J, gR_I, gR_R, gR_J, gL_I, gL_R, gL_J, gN_I, gN_R, gN_J, gJ_I, gJ_R, Int32.reduceLT, e_1_0, Int32.reduceToNatClampNeg, Int32.reduceToInt, Int.reduceLE, Int.reduceLT, Int.reduceNeg, Int.reduceEq,  Nat.reduceLT, Nat.reduceLeDiff, Nat.reduceEqDiff, Nat.reduceAdd, Nat.reduceMul, false_or, or_false, true_and, and_true, false_and, and_false, not_false_eq_true, not_true_eq_false, or_self, and_self, true_or, or_true, jw, hi]
      rw [sr_n (by rw [i_lt] at hi; omega) _ _ _ (by omega)]
    · simp only [Option.bind_some, ↓reduceIte, gI_I, gI_R, gI_J, gR_I, gR_R, gR_J, gL_I, gL_R, gL_J, gN_I, gN_R, gN_J, gJ_I, gJ_R, Int32.reduceLT, e_1_0, Int32.reduceToNatClampNeg, Int32.reduceToInt, Int.reduceLE, Int.reduceLT, Int.reduceNeg, Int.reduceEq,  Nat.reduceLT, Nat.reduceLeDiff, Nat.reduceEqDiff, Nat.reduceAdd, Nat.reduceMul, false_or, or_false, true_and, and_true, false_and, and_false, not_false_eq_true, not_true_eq_false, or_self, and_self, true_or, or_true, jw, hi, v2']
  · rw [if_neg g] at iw jw
    exact so_q (-1) (by unfold f_X11_rests; simp only [Option.bind_some, ↓reduceIte, gI_I, gI_R, gI_J, gR_I, gR_R, gR_J, gL_I, gL_R, gL_J, gN_I, gN_R, gN_J, gJ_I, gJ_R, Int32.reduceLT, e_1_0, Int32.reduceToNatClampNeg, Int32.reduceToInt, Int.reduceLE, Int.reduceLT, Int.reduceNeg, Int.reduceEq,  Nat.reduceLT, Nat.reduceLeDiff, Nat.reduceEqDiff, Nat.reduceAdd, Nat.reduceMul, false_or, or_false, true_and, and_true, false_and, and_false, not_false_eq_true, not_true_eq_false, or_self, and_self, true_or, or_true, iw]) (by unfold f_X12_rests; simp only [Option.bind_some, ↓reduceIte, gI_I, gI_R, gI_J, gR_I, gR_R, gR_J, gL_I, gL_R, gL_J, gN_I, gN_R, gN_J, gJ_I, gJ_R, Int32.reduceLT, e_1_0, Int32.reduceToNatClampNeg, Int32.reduceToInt, Int.reduceLE, Int.reduceLT, Int.reduceNeg, Int.reduceEq,  Nat.reduceLT, Nat.reduceLeDiff, Nat.reduceEqDiff, Nat.reduceAdd, Nat.reduceMul, false_or, or_false, true_and, and_true, false_and, and_false, not_false_eq_true, not_true_eq_false, or_self, and_self, true_or, or_true, jw]) r
