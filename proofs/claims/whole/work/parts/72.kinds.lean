/-! ===== kinds ===== -/
theorem cg_s : ∀ (d t : Nat) (x y : Int32) (σ τ : Sg), g_X12_commonOf d t x y σ = g_X12_commonOf d t x y τ := by
  intro d
  induction d with
  | zero => intro t x y σ τ; rfl
  | succ d ih =>
    intro t x y σ τ
    rw [g_X12_commonOf, g_X12_commonOf]
    unfold f_X12_commonOf_o
    rw [ih 0 y (rm_ x y) σ τ]
set_option maxRecDepth 100000 in
theorem kd_1 : ∀ n : Nat, n ≤ 12 → ∀ k : Nat, k < n → f_X11_commonDivisor 20000 (Int32.ofNat k) (Int32.ofNat n) = some (Int32.ofNat (Nat.gcd n k)) ∧ f_X12_commonOf (Int32.ofNat n) (Int32.ofNat k) em_ = some (Int32.ofNat (Nat.gcd n k)) ∧ Nat.gcd n k ≤ 12 := by decide +kernel
/-- how many pairs and single ones, as the class and as the reference has them -/
def kp1 (n k : Nat) : Nat := if n % 2 = 1 then (n + 1) / 2 else if k % 2 = 0 then n / 2 + 1 else n / 2
def kp2 (n k : Nat) : Nat := if n % 2 = 1 then (n + 1) / 2 else if k % 2 = 0 then n / 2 else n / 2 + 1
set_option maxRecDepth 100000 in
theorem kd_2 : ∀ n : Nat, n ≤ 12 → ∀ k : Nat, k < n → f_X11_pairsOver 20000 (Int32.ofNat k) (Int32.ofNat n) = some (Int32.ofNat (kp1 n k)) ∧ (if rm_ (Int32.ofNat n) 2 = 1 then (Int32.ofNat n + 1) / 2 else if rm_ (Int32.ofNat k) 2 = 0 then Int32.ofNat n / 2 else Int32.ofNat n / 2 + 1) = Int32.ofNat (kp2 n k) ∧ kp2 n k ≤ 12 ∧ kp1 n k ≤ 12 := by decide +kernel
set_option maxRecDepth 100000 in
theorem kd_3 : ∀ q : Nat, q ≤ 6 → ∀ e : Nat, e ≤ 12 → f_X11_power 20000 (Int32.ofNat q) (Int32.ofNat e) = some (Int64.ofNat (q ^ e)) ∧ f_X12_power 20000 (Int32.ofNat q) (Int32.ofNat e) = some (Int64.ofNat (q ^ e)) := by decide +kernel
theorem kd_4 : ∀ n : Nat, n ≤ 12 → 1 ≤ n → ¬ (Int32.ofNat n).toInt64 = 0 ∧ ¬ (2 * Int32.ofNat n).toInt64 = 0 := by decide +kernel
/-- by how much the class's sum is ahead of the reference's -/
def kdz (n q k : Nat) : Int64 := if n % 2 = 1 ∨ k % 2 = 0 then 0 else Int64.ofNat (q ^ (n / 2 + 1)) - Int64.ofNat (q ^ (n / 2))
theorem kdz_s (n q k : Nat) : kdz n q k + Int64.ofNat (q ^ kp1 n k) = Int64.ofNat (q ^ kp2 n k) + kdz n q (k + 1) := by
  unfold kdz kp1 kp2
  by_cases h : n % 2 = 1
  · rw [if_pos (Or.inl h), if_pos h, if_pos h, if_pos (Or.inl h), Int64.add_comm]
  · by_cases h2 : k % 2 = 0
    · rw [if_pos (Or.inr h2), if_neg h, if_pos h2, if_neg h, if_pos h2, if_neg (show ¬ (n % 2 = 1 ∨ (k + 1) % 2 = 0) by omega), Int64.zero_add, Int64.add_comm, Int64.sub_add_cancel]
    · rw [if_neg (show ¬ (n % 2 = 1 ∨ k % 2 = 0) by omega), if_neg h, if_neg h2, if_neg h, if_neg h2, if_pos (show n % 2 = 1 ∨ (k + 1) % 2 = 0 by omega), Int64.sub_add_cancel, Int64.add_zero]
theorem j_ac {a g d x y d' : Int64} (h : d + x = y + d') : a + d + g + x = a + g + y + d' := by
  rw [Int64.add_assoc (a + g) y d', ← h, Int64.add_assoc a d g, Int64.add_comm d g, ← Int64.add_assoc a g d, Int64.add_assoc (a + g) d x]
theorem p2_kinds : so_kinds p2_I 20000 := by
  intro x y z σ r
  have e1 : (1 : Int32).toInt = 1 := rfl
  have e6 : (6 : Int32).toInt = 6 := rfl
  have e12 : (12 : Int32).toInt = 12 := rfl
  by_cases gx : 1 ≤ x.toInt ∧ x.toInt ≤ 12
  · by_cases gy : 1 ≤ y.toInt ∧ y.toInt ≤ 6
    · obtain ⟨n, n1, n2, rfl⟩ := x_1 (a := 1) (b := 12) gx
      obtain ⟨q, q1, q2, rfl⟩ := x_1 (a := 1) (b := 6) gy
      obtain ⟨k4, k5⟩ := kd_4 n n2 n1
      have lp : ∀ (j k m m' : Nat) (a a' : Int64), k + j = n → j < m → j < m' → (z = 0 → a = a') → (¬ z = 0 → a = a' + kdz n q k) → ∃ v, f_X11_kinds_L30 20000 0 m (Int32.ofNat n) (Int32.ofNat q) z a (Int32.ofNat k) σ = some v ∧ f_X12_kinds_L28 20000 344 m' (Int32.ofNat n) (Int32.ofNat q) z a' (Int32.ofNat k) σ = some v := by
        intro j
        induction j with
        | zero =>
          intro k m m' a a' hk hm hm' h1 h2
          obtain ⟨m, rfl⟩ : ∃ x, m = x + 1 := ⟨m - 1, by omega⟩
          obtain ⟨m', rfl⟩ : ∃ x, m' = x + 1 := ⟨m' - 1, by omega⟩
          have nl : ¬ Int32.ofNat k < Int32.ofNat n := by rw [o_lt (by omega) (by omega)]; omega
          have haa : a = a' := by
            by_cases hz : z = 0
            · exact h1 hz
            · rw [h2 hz]
              unfold kdz
              rw [if_pos (by omega), Int64.add_zero]
          subst haa
          rw [f_X11_kinds_L30, if_neg nl, f_X12_kinds_L28, if_neg nl]
          unfold f_X11_kinds_B93 f_X12_kinds_B122
          rw [if_neg k4, if_neg k5]
          by_cases hz : z = 0
          · rw [if_pos hz]
            exact ⟨_, rfl, rfl⟩
          · rw [if_neg hz]
            exact ⟨_, rfl, rfl⟩
        | succ j ih =>
          intro k m m' a a' hk hm hm' h1 h2
          obtain ⟨m, rfl⟩ : ∃ x, m = x + 1 := ⟨m - 1, by omega⟩
          obtain ⟨m', rfl⟩ : ∃ x, m' = x + 1 := ⟨m' - 1, by omega⟩
          have pl : Int32.ofNat k < Int32.ofNat n := by rw [o_lt (by omega) (by omega)]; omega
          obtain ⟨a1, a2, a3⟩ := kd_1 n n2 k (by omega)
          obtain ⟨b1, b2, b3, b4⟩ := kd_2 n n2 k (by omega)
          obtain ⟨c1, c2⟩ := kd_3 q q2 (Nat.gcd n k) a3
          obtain ⟨d1, -⟩ := kd_3 q q2 (kp1 n k) b4
          obtain ⟨-, d2⟩ := kd_3 q q2 (kp2 n k) b3
          have a2' : f_X12_commonOf (Int32.ofNat n) (Int32.ofNat k) σ = some (Int32.ofNat (Nat.gcd n k)) := (cg_s _ _ _ _ σ em_).trans a2
          rw [f_X11_kinds_L30, if_pos pl, f_X12_kinds_L28, if_pos pl, f_of a1, f_of a2', f_of c1, f_of c2]
          by_cases hz : z = 0
          · obtain ⟨v, v1, v2⟩ := ih (k + 1) m m' (a + Int64.ofNat (q ^ Nat.gcd n k)) (a' + Int64.ofNat (q ^ Nat.gcd n k)) (by omega) (by omega) (by omega) (fun h => by rw [h1 h]) (fun h => absurd hz h)
            rw [if_pos hz, if_pos hz]
            unfold f_X11_kinds_B71 f_X12_kinds_B103
            rw [o_s k, Int64.add_zero]
            exact ⟨v, v1, v2⟩
          · obtain ⟨v, v1, v2⟩ := ih (k + 1) m m' (a + Int64.ofNat (q ^ Nat.gcd n k) + Int64.ofNat (q ^ kp1 n k)) (a' + Int64.ofNat (q ^ Nat.gcd n k) + Int64.ofNat (q ^ kp2 n k)) (by omega) (by omega) (by omega) (fun h => absurd h hz) (fun _ => by rw [h2 hz]; exact j_ac (kdz_s n q k))
            refine ⟨v, ?_, ?_⟩
            · rw [if_neg hz, f_of b1, f_of d1]
              unfold f_X11_kinds_B71
              rw [o_s k]
              exact v1
            · rw [if_neg hz]
              unfold f_X12_kinds_B100 f_X12_kinds_B103
              rw [o_s k]
              by_cases h1 : rm_ (Int32.ofNat n) 2 = 1
              · rw [if_pos h1] at b2 ⊢
                rw [b2, f_of d2]
                exact v2
              · rw [if_neg h1] at b2 ⊢
                by_cases h2 : rm_ (Int32.ofNat k) 2 = 0
                · rw [if_pos h2] at b2 ⊢
                  rw [b2, f_of d2]
                  exact v2
                · rw [if_neg h2] at b2 ⊢
                  rw [b2, f_of d2]
                  exact v2
      obtain ⟨v, v1, v2⟩ := lp n 0 20000 20000 0 0 (by omega) (by omega) (by omega) (fun _ => rfl) (fun _ => by unfold kdz; rw [if_pos (Or.inr rfl), Int64.add_zero])
      have v1' : f_X11_kinds_L30 20000 0 20000 (Int32.ofNat n) (Int32.ofNat q) z 0 0 σ = some v := v1
      have v2' : f_X12_kinds_L28 20000 344 20000 (Int32.ofNat n) (Int32.ofNat q) z 0 0 σ = some v := v2
      refine so_q v ?_ (by unfold f_X12_kinds; simp only [Option.bind_some, ↓reduceIte, gI_I, gI_R, gI_J, gR_I, gR_R, gR_J, gL_I, gL_R, gL_J, gN_I, gN_R, gN_J, gJ_I, gJ_R, Int32.reduceLT, e_1_0, Int32.reduceToNatClampNeg, Int32.reduceToInt, Int.reduceLE, Int.reduceLT, Int.reduceNeg, Int.reduceEq,  Nat.reduceLT, Nat.reduceLeDiff, Nat.reduceEqDiff, Nat.reduceAdd, Nat.reduceMul, false_or, or_false, true_and, and_true, false_and, and_false, not_false_eq_true, not_true_eq_false, or_self, and_self, true_or, or_true, in_v, gx, gy, v2']) r
      unfold f_X11_kinds
      rw [if_neg (by rw [i_lt]; omega), if_neg (by rw [i_lt]; omega), if_neg (by rw [i_lt]; omega), if_neg (by rw [i_lt]; omega)]
      exact v1'
    · refine so_q (-1) ?_ (by unfold f_X12_kinds; simp only [Option.bind_some, ↓reduceIte, gI_I, gI_R, gI_J, gR_I, gR_R, gR_J, gL_I, gL_R, gL_J, gN_I, gN_R, gN_J, gJ_I, gJ_R, Int32.reduceLT, e_1_0, Int32.reduceToNatClampNeg, Int32.reduceToInt, Int.reduceLE, Int.reduceLT, Int.reduceNeg, Int.reduceEq,  Nat.reduceLT, Nat.reduceLeDiff, Nat.reduceEqDiff, Nat.reduceAdd, Nat.reduceMul, false_or, or_false, true_and, and_true, false_and, and_false, not_false_eq_true, not_true_eq_false, or_self, and_self, true_or, or_true, in_v, gx, gy]) r
      unfold f_X11_kinds
      rw [if_neg (by rw [i_lt]; omega), if_neg (by rw [i_lt]; omega)]
      by_cases h : y < 1
      · rw [if_pos h]
      · rw [i_lt] at h
        rw [if_neg (by rw [i_lt]; omega), if_pos (by rw [i_lt]; omega)]
  · refine so_q (-1) ?_ (by unfold f_X12_kinds; simp only [Option.bind_some, ↓reduceIte, gI_I, gI_R, gI_J, gR_I, gR_R, gR_J, gL_I, gL_R, gL_J, gN_I, gN_R, gN_J, gJ_I, gJ_R, Int32.reduceLT, e_1_0, Int32.reduceToNatClampNeg, Int32.reduceToInt, Int.reduceLE, Int.reduceLT, Int.reduceNeg, Int.reduceEq,  Nat.reduceLT, Nat.reduceLeDiff, Nat.reduceEqDiff, Nat.reduceAdd, Nat.reduceMul, false_or, or_false, true_and, and_true, false_and, and_false, not_false_eq_true, not_true_eq_false, or_self, and_self, true_or, or_true, in_v, gx]) r
    unfold f_X11_kinds
    by_cases h : x < 1
    · rw [if_pos h]
    · rw [i_lt] at h
      rw [if_neg (by rw [i_lt]; omega), if_pos (by rw [i_lt]; omega)]
/-! ===== shares ===== -/
theorem p2_shares : so_shares p2_I 20000 := by
  intro x y σ r
  obtain ⟨n, h1, h2, h3, h4, h5⟩ := Rel.nw r
  have c := Rel.cf r
  have d := Rel.rf r
  have iw := iw_v c h1 h3 x
  have jw := jw_v h1 h2 x
  have e0 : (0 : Int32).toInt = 0 := rfl
  have e999 : (999 : Int32).toInt = 999 := rfl
  by_cases g : 0 ≤ x.toInt ∧ x.toInt < n
  · rw [if_pos g] at iw jw
    by_cases gy : 0 ≤ y.toInt ∧ y.toInt ≤ 999
    · obtain ⟨w, hw, rfl⟩ := x_lt g
      obtain ⟨v, z, p, q, v1, z1, q1, p1, p2, w1, w2, w3, w4, w5, w6, w7, w8⟩ := Rel.wh r h2 h1 hw
      have lp : ∀ (j k m m' a : Nat), k + j = n → a ≤ 9 * k → j < m → j < m' → ∃ v, f_X11_shares_L26 20000 0 m (Int32.ofNat w) y (Int32.ofNat a) (Int32.ofNat k) σ = some v ∧ f_X12_shares_L26 20000 344 m' (Int32.ofNat w) y (Int32.ofNat a) (Int32.ofNat k) σ = some v := by
        intro j
        induction j with
        | zero =>
          intro k m m' a hk ha hm hm'
          obtain ⟨m, rfl⟩ : ∃ x, m = x + 1 := ⟨m - 1, by omega⟩
          obtain ⟨m', rfl⟩ : ∃ x, m' = x + 1 := ⟨m' - 1, by omega⟩
          have nl : ¬ Int32.ofNat k < Int32.ofNat n := by rw [o_lt (by omega) (by omega)]; omega
          rw [f_X11_shares_L26, f_X12_shares_L26]
          simp only [c, Option.bind_some, h3, h2]
          rw [if_neg nl, if_neg nl]
          by_cases a0 : a = 0
          · subst a0
            exact ⟨0, by rw [if_pos (by decide)], by rw [if_pos (show Int32.ofNat 0 = 0 from rfl)]⟩
          · have na : ¬ Int32.ofNat a = 0 := by rw [l_0, o_eq (by omega) (by omega)]; exact a0
            refine ⟨y * Int32.ofNat v / Int32.ofNat a, ?_, ?_⟩
            · rw [if_neg (by rw [l_1, o_lt (by omega) (by omega)]; omega), if_neg (o_in (by omega) (by omega)), o_tn (by omega), Rel.w18 r w (by omega)]
              simp only [Option.bind_some]
              rw [if_neg na, w5]
            · rw [if_neg na, of_0 d (by omega)]
              simp only [Option.bind_some]
              rw [if_neg na, w1]
        | succ j ih =>
          intro k m m' a hk ha hm hm'
          obtain ⟨m, rfl⟩ : ∃ x, m = x + 1 := ⟨m - 1, by omega⟩
          obtain ⟨m', rfl⟩ : ∃ x, m' = x + 1 := ⟨m' - 1, by omega⟩
          have pl : Int32.ofNat k < Int32.ofNat n := by rw [o_lt (by omega) (by omega)]; omega
          obtain ⟨v', z', p', q', a1, a2, a3, a4, a5, b1, b2, b3, b4, b5, b6, b7, b8⟩ := Rel.wh r h2 h1 (show k < n by omega)
          obtain ⟨u, u1, u2⟩ := ih (k + 1) m m' (a + v') (by omega) (by omega) (by omega) (by omega)
          refine ⟨u, ?_, ?_⟩
          · rw [f_X11_shares_L26]
            simp only [c, Option.bind_some, h3]
            rw [if_pos pl, if_neg (o_in (by omega) (by omega)), o_tn (by omega), Rel.w18 r k (by omega)]
            simp only [Option.bind_some]
            rw [b5, o_add, o_s]
            exact u1
          · rw [f_X12_shares_L26, h2, if_pos pl, of_0 d (by omega)]
            simp only [Option.bind_some]
            rw [b1, o_add, o_s]
            exact u2
      obtain ⟨u, u1, u2⟩ := lp n 0 20000 20000 0 (by omega) (by omega) (by omega) (by omega)
      have u1' : f_X11_shares_L26 20000 0 20000 (Int32.ofNat w) y 0 0 σ = some u := u1
      have u2' : f_X12_shares_L26 20000 344 20000 (Int32.ofNat w) y 0 0 σ = some u := u2
      have y1 : ¬ y < 0 := by rw [i_lt]; omega
      have y2 : ¬ 999 < y := by rw [i_lt]; omega
      exact so_q u (by unfold f_X11_shares; simp only [Option.bind_some, ↓reduceIte, gI_I, gI_R, gI_J, gR_I, gR_R, gR_J, gL_I, gL_R, gL_J, gN_I, gN_R, gN_J, gJ_I, gJ_R, Int32.reduceLT, e_1_0, Int32.reduceToNatClampNeg, Int32.reduceToInt, Int.reduceLE, Int.reduceLT, Int.reduceNeg, Int.reduceEq,  Nat.reduceLT, Nat.reduceLeDiff, Nat.reduceEqDiff, Nat.reduceAdd, Nat.reduceMul, false_or, or_false, true_and, and_true, false_and, and_false, not_false_eq_true, not_true_eq_false, or_self, and_self, true_or, or_true, iw, y1, y2, u1']) (by unfold f_X12_shares; simp only [Option.bind_some, ↓reduceIte, gI_I, gI_R, gI_J, gR_I, gR_R, gR_J, gL_I, gL_R, gL_J, gN_I, gN_R, gN_J, gJ_I, gJ_R, Int32.reduceLT, e_1_0, Int32.reduceToNatClampNeg, Int32.reduceToInt, Int.reduceLE, Int.reduceLT, Int.reduceNeg, Int.reduceEq,  Nat.reduceLT, Nat.reduceLeDiff, Nat.reduceEqDiff, Nat.reduceAdd, Nat.reduceMul, false_or, or_false, true_and, and_true, false_and, and_false, not_false_eq_true, not_true_eq_false, or_self, and_self, true_or, or_true, jw, in_v, gy, u2']) r
    · refine so_q (-1) ?_ (by unfold f_X12_shares; simp only [Option.bind_some, ↓reduceIte, gI_I, gI_R, gI_J, gR_I, gR_R, gR_J, gL_I, gL_R, gL_J, gN_I, gN_R, gN_J, gJ_I, gJ_R, Int32.reduceLT, e_1_0, Int32.reduceToNatClampNeg, Int32.reduceToInt, Int.reduceLE, Int.reduceLT, Int.reduceNeg, Int.reduceEq,  Nat.reduceLT, Nat.reduceLeDiff, Nat.reduceEqDiff, Nat.reduceAdd, Nat.reduceMul, false_or, or_false, true_and, and_true, false_and, and_false, not_false_eq_true, not_true_eq_false, or_self, and_self, true_or, or_true, jw, in_v, gy]) r
      unfold f_X11_shares
      by_cases h : y < 0
      · simp only [Option.bind_some, ↓reduceIte, gI_I, gI_R, gI_J, gR_I, gR_R, gR_J, gL_I, gL_R, gL_J, gN_I, gN_R, gN_J, gJ_I, gJ_R, Int32.reduceLT, e_1_0, Int32.reduceToNatClampNeg, Int32.reduceToInt, Int.reduceLE, Int.reduceLT, Int.reduceNeg, Int.reduceEq,  Nat.reduceLT, Nat.reduceLeDiff, Nat.reduceEqDiff, Nat.reduceAdd, Nat.reduceMul, false_or, or_false, true_and, and_true, false_and, and_false, not_false_eq_true, not_true_eq_false, or_self, and_self, true_or, or_true, iw, h]
      · have h' : 999 < y := by rw [i_lt] at h ⊢; omega
        simp only [Option.bind_some, ↓reduceIte, gI_I, gI_R, gI_J, gR_I, gR_R, gR_J, gL_I, gL_R, gL_J, gN_I, gN_R, gN_J, gJ_I, gJ_R, Int32.reduceLT, e_1_0, Int32.reduceToNatClampNeg, Int32.reduceToInt, Int.reduceLE, Int.reduceLT, Int.reduceNeg, Int.reduceEq,  Nat.reduceLT, Nat.reduceLeDiff, Nat.reduceEqDiff, Nat.reduceAdd, Nat.reduceMul, false_or, or_false, true_and, and_true, false_and, and_false, not_false_eq_true, not_true_eq_false, or_self, and_self, true_or, or_true, iw, h, h']
  · rw [if_neg g] at iw jw
    exact so_q (-1) (by unfold f_X11_shares; simp only [Option.bind_some, ↓reduceIte, gI_I, gI_R, gI_J, gR_I, gR_R, gR_J, gL_I, gL_R, gL_J, gN_I, gN_R, gN_J, gJ_I, gJ_R, Int32.reduceLT, e_1_0, Int32.reduceToNatClampNeg, Int32.reduceToInt, Int.reduceLE, Int.reduceLT, Int.reduceNeg, Int.reduceEq,  Nat.reduceLT, Nat.reduceLeDiff, Nat.reduceEqDiff, Nat.reduceAdd, Nat.reduceMul, false_or, or_false, true_and, and_true, false_and, and_false, not_false_eq_true, not_true_eq_false, or_self, and_self, true_or, or_true, iw]) (by unfold f_X12_shares; simp only [Option.bind_some, ↓reduceIte, gI_I, gI_R, gI_J, gR_I, gR_R, gR_J, gL_I, gL_R, gL_J, gN_I, gN_R, gN_J, gJ_I, gJ_R, Int32.reduceLT, e_1_0, Int32.reduceToNatClampNeg, Int32.reduceToInt, Int.reduceLE, Int.reduceLT, Int.reduceNeg, Int.reduceEq,  Nat.reduceLT, Nat.reduceLeDiff, Nat.reduceEqDiff, Nat.reduceAdd, Nat.reduceMul, false_or, or_false, true_and, and_true, false_and, and_false, not_false_eq_true, not_true_eq_false, or_self, and_self, true_or, or_true, jw]) r
