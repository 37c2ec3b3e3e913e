/-! ===== more acts ===== -/
theorem o_div {a b : Nat} (ha : a < 2147483648) (hb : b < 2147483648) : Int32.ofNat a / Int32.ofNat b = Int32.ofNat (a / b) := by
  have h1 := o_ti ha
  have h2 := o_ti hb
  have h3 : a / b ≤ a := Nat.div_le_self a b
  rw [i_eq, Int32.toInt_div_of_ne_right _ _ (fun q => by
    have := congrArg Int32.toInt q
    rw [h2] at this
    have e : (-1 : Int32).toInt = -1 := rfl
    omega), h1, h2, o_ti (by omega), Int.tdiv_eq_ediv_of_nonneg (by omega)]
  exact (Int.natCast_ediv a b).symm
theorem ix_0 {w : Nat} (hw : w < 4) : (4 * Int32.ofNat w + 0 : Int32) = Int32.ofNat (4 * w) ∧ ¬ Int32.ofNat (4 * w) < 0 ∧ (Int32.ofNat (4 * w)).toNatClampNeg = 4 * w ∧ ¬ 261 ≤ 4 * w ∧ ¬ 16 ≤ 4 * w := ⟨by rw [l_4, l_0, o_mul, o_add]; rfl, o_nn (by omega), o_tn (by omega), by omega, by omega⟩
theorem ix_1 {w : Nat} (hw : w < 4) : (4 * Int32.ofNat w + 1 : Int32) = Int32.ofNat (4 * w + 1) ∧ ¬ Int32.ofNat (4 * w + 1) < 0 ∧ (Int32.ofNat (4 * w + 1)).toNatClampNeg = 4 * w + 1 ∧ ¬ 261 ≤ 4 * w + 1 ∧ ¬ 16 ≤ 4 * w + 1 := ⟨by rw [l_4, l_1, o_mul, o_add], o_nn (by omega), o_tn (by omega), by omega, by omega⟩
theorem ix_2 {w : Nat} (hw : w < 4) : (4 * Int32.ofNat w + 2 : Int32) = Int32.ofNat (4 * w + 2) ∧ ¬ Int32.ofNat (4 * w + 2) < 0 ∧ (Int32.ofNat (4 * w + 2)).toNatClampNeg = 4 * w + 2 ∧ ¬ 261 ≤ 4 * w + 2 ∧ ¬ 16 ≤ 4 * w + 2 := ⟨by rw [l_4, l_2, o_mul, o_add], o_nn (by omega), o_tn (by omega), by omega, by omega⟩
theorem ix_3 {w : Nat} (hw : w < 4) : (4 * Int32.ofNat w + 3 : Int32) = Int32.ofNat (4 * w + 3) ∧ ¬ Int32.ofNat (4 * w + 3) < 0 ∧ (Int32.ofNat (4 * w + 3)).toNatClampNeg = 4 * w + 3 ∧ ¬ 261 ≤ 4 * w + 3 ∧ ¬ 16 ≤ 4 * w + 3 := ⟨by rw [l_4, l_3, o_mul, o_add], o_nn (by omega), o_tn (by omega), by omega, by omega⟩
theorem iw_4 {w : Nat} (hw : w < 4) : ¬ Int32.ofNat w < 0 ∧ (Int32.ofNat w).toNatClampNeg = w ∧ ¬ 4 ≤ w := ⟨o_nn (by omega), o_tn (by omega), by omega⟩
theorem of_0 {ρ : Sg} (d : RF (sg_R ρ) (sg_L ρ)) {w : Nat} (hw : w < 4) : f_X12_of 344 (Int32.ofNat w) 0 ρ = some (sg_I ρ 359 (4 * w)) := of_v (k := 0) d hw (by omega)
theorem of_1 {ρ : Sg} (d : RF (sg_R ρ) (sg_L ρ)) {w : Nat} (hw : w < 4) : f_X12_of 344 (Int32.ofNat w) 1 ρ = some (sg_I ρ 359 (4 * w + 1)) := of_v (k := 1) d hw (by omega)
theorem of_2 {ρ : Sg} (d : RF (sg_R ρ) (sg_L ρ)) {w : Nat} (hw : w < 4) : f_X12_of 344 (Int32.ofNat w) 2 ρ = some (sg_I ρ 359 (4 * w + 2)) := of_v (k := 2) d hw (by omega)
theorem of_3 {ρ : Sg} (d : RF (sg_R ρ) (sg_L ρ)) {w : Nat} (hw : w < 4) : f_X12_of 344 (Int32.ofNat w) 3 ρ = some (sg_I ρ 359 (4 * w + 3)) := of_v (k := 3) d hw (by omega)
theorem x_1 {x : Int32} {a b : Nat} (h : (a : Int) ≤ x.toInt ∧ x.toInt ≤ b) : ∃ n : Nat, a ≤ n ∧ n ≤ b ∧ x = Int32.ofNat n := ⟨x.toInt.toNat, by omega, by omega, x_of (by omega)⟩
/-- the coins alone have changed -/
theorem rl_c {σ ρ : Sg} {n f o c t c' : Nat} (r : Rel σ ρ) (n1 : n ≤ 4) (n2 : sg_I ρ 344 20 = Int32.ofNat n) (hb : 1 ≤ f ∧ f ≤ 60 ∧ o ≤ 999 ∧ c' ≤ 999 ∧ t ≤ 9999) (hg : sg_I ρ 359 16 = Int32.ofNat f ∧ sg_I ρ 359 17 = Int32.ofNat o ∧ sg_I ρ 359 18 = Int32.ofNat c ∧ sg_I ρ 359 19 = Int32.ofNat t ∧ sg_I σ 17 2 = Int32.ofNat f ∧ sg_I σ 17 3 = Int32.ofNat o ∧ sg_I σ 17 4 = Int32.ofNat c ∧ sg_I σ 17 5 = Int32.ofNat t) : Rel (put_I σ 17 4 (Int32.ofNat c')) (put_I ρ 359 18 (Int32.ofNat c')) ∧ FC σ (put_I σ 17 4 (Int32.ofNat c')) ∧ FR ρ (put_I ρ 359 18 (Int32.ofNat c')) := by
  obtain ⟨g1, g2, g3, g4, g5, g6, g7, g8⟩ := hg
  exact rl_o r kp_.put kp_.put (fun a ha => gI_a (by omega)) (fun a ha => gI_a ha) n1 n2 (gI_n (by omega)) hb ⟨by rw [gI_n (by omega)]; exact g1, by rw [gI_n (by omega)]; exact g2, gI_e, by rw [gI_n (by omega)]; exact g4, by rw [gI_n (by omega)]; exact g5, by rw [gI_n (by omega)]; exact g6, gI_e, by rw [gI_n (by omega)]; exact g8⟩ (fun w hw => wq_q (gI_a (by omega)) (fun k hk => gI_n (by omega)) (r.wq n2 n1 hw)) (fun w _ _ => gI_n (by omega)) (lg_m (gI_n (by omega)) (Int.le_of_eq (by rw [gI_n (by omega)])) (gI_a (by omega)) (fun j _ _ => gI_n (by omega)) r.lg)
/-- the oil alone has changed -/
theorem rl_oil {σ ρ : Sg} {n f o c t o' : Nat} (r : Rel σ ρ) (n1 : n ≤ 4) (n2 : sg_I ρ 344 20 = Int32.ofNat n) (hb : 1 ≤ f ∧ f ≤ 60 ∧ o' ≤ 999 ∧ c ≤ 999 ∧ t ≤ 9999) (hg : sg_I ρ 359 16 = Int32.ofNat f ∧ sg_I ρ 359 17 = Int32.ofNat o ∧ sg_I ρ 359 18 = Int32.ofNat c ∧ sg_I ρ 359 19 = Int32.ofNat t ∧ sg_I σ 17 2 = Int32.ofNat f ∧ sg_I σ 17 3 = Int32.ofNat o ∧ sg_I σ 17 4 = Int32.ofNat c ∧ sg_I σ 17 5 = Int32.ofNat t) : Rel (put_I σ 17 3 (Int32.ofNat o')) (put_I ρ 359 17 (Int32.ofNat o')) ∧ FC σ (put_I σ 17 3 (Int32.ofNat o')) ∧ FR ρ (put_I ρ 359 17 (Int32.ofNat o')) := by
  obtain ⟨g1, g2, g3, g4, g5, g6, g7, g8⟩ := hg
  exact rl_o r kp_.put kp_.put (fun a ha => gI_a (by omega)) (fun a ha => gI_a ha) n1 n2 (gI_n (by omega)) hb ⟨by rw [gI_n (by omega)]; exact g1, gI_e, by rw [gI_n (by omega)]; exact g3, by rw [gI_n (by omega)]; exact g4, by rw [gI_n (by omega)]; exact g5, gI_e, by rw [gI_n (by omega)]; exact g7, by rw [gI_n (by omega)]; exact g8⟩ (fun w hw => wq_q (gI_a (by omega)) (fun k hk => gI_n (by omega)) (r.wq n2 n1 hw)) (fun w _ _ => gI_n (by omega)) (lg_m (gI_n (by omega)) (Int.le_of_eq (by rw [gI_n (by omega)])) (gI_a (by omega)) (fun j _ _ => gI_n (by omega)) r.lg)
/-- the tick alone has changed -/
theorem rl_t {σ ρ : Sg} {n f o c t t' : Nat} (r : Rel σ ρ) (n1 : n ≤ 4) (n2 : sg_I ρ 344 20 = Int32.ofNat n) (hb : 1 ≤ f ∧ f ≤ 60 ∧ o ≤ 999 ∧ c ≤ 999 ∧ t' ≤ 9999) (ht : t ≤ t') (hg : sg_I ρ 359 16 = Int32.ofNat f ∧ sg_I ρ 359 17 = Int32.ofNat o ∧ sg_I ρ 359 18 = Int32.ofNat c ∧ sg_I ρ 359 19 = Int32.ofNat t ∧ sg_I σ 17 2 = Int32.ofNat f ∧ sg_I σ 17 3 = Int32.ofNat o ∧ sg_I σ 17 4 = Int32.ofNat c ∧ sg_I σ 17 5 = Int32.ofNat t) : Rel (put_I σ 17 5 (Int32.ofNat t')) (put_I ρ 359 19 (Int32.ofNat t')) ∧ FC σ (put_I σ 17 5 (Int32.ofNat t')) ∧ FR ρ (put_I ρ 359 19 (Int32.ofNat t')) := by
  obtain ⟨g1, g2, g3, g4, g5, g6, g7, g8⟩ := hg
  exact rl_o r kp_.put kp_.put (fun a ha => gI_a (by omega)) (fun a ha => gI_a ha) n1 n2 (gI_n (by omega)) hb ⟨by rw [gI_n (by omega)]; exact g1, by rw [gI_n (by omega)]; exact g2, by rw [gI_n (by omega)]; exact g3, gI_e, by rw [gI_n (by omega)]; exact g5, by rw [gI_n (by omega)]; exact g6, by rw [gI_n (by omega)]; exact g7, gI_e⟩ (fun w hw => wq_q (gI_a (by omega)) (fun k hk => gI_n (by omega)) (r.wq n2 n1 hw)) (fun w _ _ => gI_n (by omega)) (lg_m (gI_n (by omega)) (by rw [gI_e, g8, o_ti (by omega), o_ti (by omega)]; omega) (gI_a (by omega)) (fun j _ _ => gI_n (by omega)) r.lg)
/-- one wheel alone has changed -/
theorem rl_1w {σ ρ τ υ : Sg} {n w : Nat} (r : Rel σ ρ) (k : kp_ σ τ) (k' : kp_ ρ υ) (n0 : 0 < n) (n1 : n ≤ 4) (n2 : sg_I ρ 344 20 = Int32.ofNat n) (hw : w < n) (E : ∀ a, a ≠ 20 + w → sg_I τ a = sg_I σ a) (F : ∀ a, a ≠ 359 → sg_I υ a = sg_I ρ a) (F' : ∀ j, j < 4 * w ∨ 4 * w + 3 < j → sg_I υ 359 j = sg_I ρ 359 j) (W : wq_ (sg_I τ) (sg_I υ) (hL (sg_I ρ)) w) : Rel τ υ ∧ FC σ τ ∧ FR ρ υ := by
  obtain ⟨f, o, c, t, f1, f2, o1, c1, t1, i1, i2, i3, i4, i5, i6, i7, i8⟩ := r.gl n2 n1 n0
  have e17 := E 17 (by omega)
  refine rl_o r k k' (fun a ha => E a (by omega)) F n1 n2 (by rw [e17]) (f := f) (o := o) (c := c) (t := t) ⟨f1, f2, o1, c1, t1⟩ ⟨by rw [F' 16 (by omega)]; exact i1, by rw [F' 17 (by omega)]; exact i2, by rw [F' 18 (by omega)]; exact i3, by rw [F' 19 (by omega)]; exact i4, by rw [e17]; exact i5, by rw [e17]; exact i6, by rw [e17]; exact i7, by rw [e17]; exact i8⟩ (fun w' hw' => ?_) (fun w' _ _ => by rw [E _ (by omega)]) (lg_m (by rw [e17]) (Int.le_of_eq (by rw [e17])) (E 19 (by omega)) (fun j _ _ => F' j (by omega)) r.lg)
  by_cases e : w' = w
  · rw [e]; exact W
  · exact wq_q (E _ (by omega)) (fun k hk => F' _ (by omega)) (r.wq n2 n1 hw')
theorem Rel.n2 {σ ρ τ υ : Sg} {n : Nat} (h : sg_I ρ 344 20 = Int32.ofNat n) (e : ∀ a, a ≠ 359 → sg_I υ a = sg_I ρ a) : sg_I υ 344 20 = Int32.ofNat n := by rw [e 344 (by decide)]; exact h
theorem pp_I {σ : Sg} {a j b k : Nat} {u v : Int32} (h : a ≠ b ∨ j ≠ k) : put_I (put_I σ a j v) b k u = put_I (put_I σ b k u) a j v := by
  have e : up_2 (up_2 σ.2.2.2.1 a j v) b k u = up_2 (up_2 σ.2.2.2.1 b k u) a j v := by
    funext x y
    unfold up_2
    by_cases h1 : x = b ∧ y = k
    · rw [if_pos h1, if_neg (by omega), if_pos h1]
    · rw [if_neg h1]
      by_cases h2 : x = a ∧ y = j
      · rw [if_pos h2, if_pos h2]
      · rw [if_neg h2, if_neg h2, if_neg h1]
  show (σ.1, σ.2.1, σ.2.2.1, up_2 (up_2 σ.2.2.2.1 a j v) b k u, σ.2.2.2.2.1, σ.2.2.2.2.2) = (σ.1, σ.2.1, σ.2.2.1, up_2 (up_2 σ.2.2.2.1 b k u) a j v, σ.2.2.2.2.1, σ.2.2.2.2.2)
  rw [e]
theorem p2_give : so_give p2_I 20000 := by
  intro x
  refine Sm.so ?_
  intro σ ρ r
  obtain ⟨n, h1, h2, h3, h4, h5⟩ := r.nw
  have c := r.cf
  have d := r.rf
  have il := il_v c h1 h3
  have X := rxs r
  have Y := rys r
  have Z := rz_v
  have e1 : (1 : Int32).toInt = 1 := rfl
  have e50 : (50 : Int32).toInt = 50 := rfl
  by_cases g : 0 < n
  · rw [if_pos g] at il
    have n0 : ¬ sg_I ρ 344 20 = 0 := by rw [h2, l_0, o_eq (by omega) (by omega)]; omega
    by_cases gx : 1 ≤ x.toInt ∧ x.toInt ≤ 50
    · have x1 : ¬ x < 1 := by rw [i_lt]; omega
      have x2 : ¬ 50 < x := by rw [i_lt]; omega
      obtain ⟨f, o, c', t, f1, f2, o1, c1, t1, i1, i2, i3, i4, i5, i6, i7, i8⟩ := r.gl h2 h1 g
      obtain ⟨y, y1, y2, rfl⟩ := x_1 (a := 1) (b := 50) gx
      have sm := o_add c' y
      by_cases gc : 999 < c' + y
      · have gs : (999 : Int32) < Int32.ofNat (c' + y) := by rw [l_999, o_lt (by omega) (by omega)]; exact gc
        exact rfu r (k := 3) (by omega) (by unfold f_X11_give; simp only [Option.bind_some, ↓reduceIte, gI_I, gI_R, gI_J, gR_I, gR_R, gR_J, gL_I, gL_R, gL_J, gN_I, gN_R, gN_J, gJ_I, gJ_R, Int32.reduceLT, e_1_0, Int32.reduceToNatClampNeg, Int32.reduceToInt, Int.reduceLE, Int.reduceLT, Int.reduceNeg, Int.reduceEq,  Nat.reduceLT, Nat.reduceLeDiff, Nat.reduceEqDiff, Nat.reduceAdd, Nat.reduceMul, false_or, or_false, true_and, and_true, false_and, and_false, not_false_eq_true, not_true_eq_false, or_self, and_self, true_or, or_true, il, x1, x2, c, i7, sm, gs, X]) (by unfold f_X12_give f_X12_give_B46; simp only [Option.bind_some, ↓reduceIte, gI_I, gI_R, gI_J, gR_I, gR_R, gR_J, gL_I, gL_R, gL_J, gN_I, gN_R, gN_J, gJ_I, gJ_R, Int32.reduceLT, e_1_0, Int32.reduceToNatClampNeg, Int32.reduceToInt, Int.reduceLE, Int.reduceLT, Int.reduceNeg, Int.reduceEq,  Nat.reduceLT, Nat.reduceLeDiff, Nat.reduceEqDiff, Nat.reduceAdd, Nat.reduceMul, false_or, or_false, true_and, and_true, false_and, and_false, not_false_eq_true, not_true_eq_false, or_self, and_self, true_or, or_true, n0, in_v, gx, d, i3, sm, gs, Y])
      · have gs : ¬ (999 : Int32) < Int32.ofNat (c' + y) := by rw [l_999, o_lt (by omega) (by omega)]; exact gc
        obtain ⟨τ, υ, k1, k2, k3, k4, k5, k6, k7, k8, k9, k10, k11⟩ := ke_v r
        have A : f_X11_give 20000 0 (Int32.ofNat y) σ = some (Int32.ofNat (c' + y), put_I τ 17 4 (Int32.ofNat (c' + y))) := by unfold f_X11_give; simp only [Option.bind_some, ↓reduceIte, gI_I, gI_R, gI_J, gR_I, gR_R, gR_J, gL_I, gL_R, gL_J, gN_I, gN_R, gN_J, gJ_I, gJ_R, Int32.reduceLT, e_1_0, Int32.reduceToNatClampNeg, Int32.reduceToInt, Int.reduceLE, Int.reduceLT, Int.reduceNeg, Int.reduceEq,  Nat.reduceLT, Nat.reduceLeDiff, Nat.reduceEqDiff, Nat.reduceAdd, Nat.reduceMul, false_or, or_false, true_and, and_true, false_and, and_false, not_false_eq_true, not_true_eq_false, or_self, and_self, true_or, or_true, il, x1, x2, c, i7, sm, gs, k1, k6.2.1, k8 17 (by omega)]
        have B : f_X12_give 20000 344 (Int32.ofNat y) ρ = some (Int32.ofNat (c' + y), put_I υ 359 18 (Int32.ofNat (c' + y))) := by unfold f_X12_give f_X12_give_B46; simp only [Option.bind_some, ↓reduceIte, gI_I, gI_R, gI_J, gR_I, gR_R, gR_J, gL_I, gL_R, gL_J, gN_I, gN_R, gN_J, gJ_I, gJ_R, Int32.reduceLT, e_1_0, Int32.reduceToNatClampNeg, Int32.reduceToInt, Int.reduceLE, Int.reduceLT, Int.reduceNeg, Int.reduceEq,  Nat.reduceLT, Nat.reduceLeDiff, Nat.reduceEqDiff, Nat.reduceAdd, Nat.reduceMul, false_or, or_false, true_and, and_true, false_and, and_false, not_false_eq_true, not_true_eq_false, or_self, and_self, true_or, or_true, n0, in_v, gx, d, i3, sm, gs, Z, k2, k7.2.1, k7.2.2.1, k9 359 (by omega) (by omega)]
        have R := rl_c (n := n) (c' := c' + y) k3 h1 (by rw [k10 20 (by omega)]; exact h2) (f := f) (o := o) (c := c') (t := t) (by omega) (by rw [k8 17 (by omega), k9 359 (by omega) (by omega)]; exact ⟨i1, i2, i3, i4, i5, i6, i7, i8⟩)
        exact ⟨_, _, A, B, rfl, R.1, k4.tr R.2.1, k5.tr R.2.2⟩
    · refine rfu r (k := 1) (by omega) ?_ ?_
      · unfold f_X11_give f_X11_give_B24
        by_cases x1 : x < 1
        · simp only [Option.bind_some, ↓reduceIte, gI_I, gI_R, gI_J, gR_I, gR_R, gR_J, gL_I, gL_R, gL_J, gN_I, gN_R, gN_J, gJ_I, gJ_R, Int32.reduceLT, e_1_0, Int32.reduceToNatClampNeg, Int32.reduceToInt, Int.reduceLE, Int.reduceLT, Int.reduceNeg, Int.reduceEq,  Nat.reduceLT, Nat.reduceLeDiff, Nat.reduceEqDiff, Nat.reduceAdd, Nat.reduceMul, false_or, or_false, true_and, and_true, false_and, and_false, not_false_eq_true, not_true_eq_false, or_self, and_self, true_or, or_true, il, x1, X]
        · have x2 : 50 < x := by rw [i_lt] at x1 ⊢; omega
          simp only [Option.bind_some, ↓reduceIte, gI_I, gI_R, gI_J, gR_I, gR_R, gR_J, gL_I, gL_R, gL_J, gN_I, gN_R, gN_J, gJ_I, gJ_R, Int32.reduceLT, e_1_0, Int32.reduceToNatClampNeg, Int32.reduceToInt, Int.reduceLE, Int.reduceLT, Int.reduceNeg, Int.reduceEq,  Nat.reduceLT, Nat.reduceLeDiff, Nat.reduceEqDiff, Nat.reduceAdd, Nat.reduceMul, false_or, or_false, true_and, and_true, false_and, and_false, not_false_eq_true, not_true_eq_false, or_self, and_self, true_or, or_true, il, x1, x2, X]
      · unfold f_X12_give f_X12_give_B46
        simp only [Option.bind_some, ↓reduceIte, gI_I, gI_R, gI_J, gR_I, gR_R, gR_J, gL_I, gL_R, gL_J, gN_I, gN_R, gN_J, gJ_I, gJ_R, Int32.reduceLT, e_1_0, Int32.reduceToNatClampNeg, Int32.reduceToInt, Int.reduceLE, Int.reduceLT, Int.reduceNeg, Int.reduceEq,  Nat.reduceLT, Nat.reduceLeDiff, Nat.reduceEqDiff, Nat.reduceAdd, Nat.reduceMul, false_or, or_false, true_and, and_true, false_and, and_false, not_false_eq_true, not_true_eq_false, or_self, and_self, true_or, or_true, n0, in_v, gx, Y]
  · rw [if_neg g] at il
    have n0 : sg_I ρ 344 20 = 0 := by rw [h2, l_0, o_eq (by omega) (by omega)]; omega
    exact rfu r (k := 0) (by omega) (by unfold f_X11_give; simp only [Option.bind_some, ↓reduceIte, gI_I, gI_R, gI_J, gR_I, gR_R, gR_J, gL_I, gL_R, gL_J, gN_I, gN_R, gN_J, gJ_I, gJ_R, Int32.reduceLT, e_1_0, Int32.reduceToNatClampNeg, Int32.reduceToInt, Int.reduceLE, Int.reduceLT, Int.reduceNeg, Int.reduceEq,  Nat.reduceLT, Nat.reduceLeDiff, Nat.reduceEqDiff, Nat.reduceAdd, Nat.reduceMul, false_or, or_false, true_and, and_true, false_and, and_false, not_false_eq_true, not_true_eq_false, or_self, and_self, true_or, or_true, il, X]) (by unfold f_X12_give f_X12_give_B46; simp only [Option.bind_some, ↓reduceIte, gI_I, gI_R, gI_J, gR_I, gR_R, gR_J, gL_I, gL_R, gL_J, gN_I, gN_R, gN_J, gJ_I, gJ_R, Int32.reduceLT, e_1_0, Int32.reduceToNatClampNeg, Int32.reduceToInt, Int.reduceLE, Int.reduceLT, Int.reduceNeg, Int.reduceEq,  Nat.reduceLT, Nat.reduceLeDiff, Nat.reduceEqDiff, Nat.reduceAdd, Nat.reduceMul, false_or, or_false, true_and, and_true, false_and, and_false, not_false_eq_true, not_true_eq_false, or_self, and_self, true_or, or_true, n0, Y])
theorem p2_oil : so_oil p2_I 20000 := by
  intro x
  refine Sm.so ?_
  intro σ ρ r
  obtain ⟨n, h1, h2, h3, h4, h5⟩ := r.nw
  have c := r.cf
  have d := r.rf
  have il := il_v c h1 h3
  have X := rxs r
  have Y := rys r
  have Z := rz_v
  have e1 : (1 : Int32).toInt = 1 := rfl
  have e30 : (30 : Int32).toInt = 30 := rfl
  by_cases g : 0 < n
  · rw [if_pos g] at il
    have n0 : ¬ sg_I ρ 344 20 = 0 := by rw [h2, l_0, o_eq (by omega) (by omega)]; omega
    by_cases gx : 1 ≤ x.toInt ∧ x.toInt ≤ 30
    · have x1 : ¬ x < 1 := by rw [i_lt]; omega
      have x2 : ¬ 30 < x := by rw [i_lt]; omega
      obtain ⟨f, o, c', t, f1, f2, o1, c1, t1, i1, i2, i3, i4, i5, i6, i7, i8⟩ := r.gl h2 h1 g
      obtain ⟨y, y1, y2, rfl⟩ := x_1 (a := 1) (b := 30) gx
      have pr : (Int32.ofNat y + 1) / 2 = Int32.ofNat ((y + 1) / 2) := by rw [o_s, l_2, o_div (by omega) (by omega)]
      have sm := o_add o y
      by_cases gc : c' < (y + 1) / 2
      · have gs : Int32.ofNat c' < Int32.ofNat ((y + 1) / 2) := by rw [o_lt (by omega) (by omega)]; exact gc
        exact rfu r (k := 3) (by omega) (by unfold f_X11_oil f_X11_oil_B62; simp only [Option.bind_some, ↓reduceIte, gI_I, gI_R, gI_J, gR_I, gR_R, gR_J, gL_I, gL_R, gL_J, gN_I, gN_R, gN_J, gJ_I, gJ_R, Int32.reduceLT, e_1_0, Int32.reduceToNatClampNeg, Int32.reduceToInt, Int.reduceLE, Int.reduceLT, Int.reduceNeg, Int.reduceEq,  Nat.reduceLT, Nat.reduceLeDiff, Nat.reduceEqDiff, Nat.reduceAdd, Nat.reduceMul, false_or, or_false, true_and, and_true, false_and, and_false, not_false_eq_true, not_true_eq_false, or_self, and_self, true_or, or_true, il, x1, x2, c, i7, pr, gs, X]) (by unfold f_X12_oil f_X12_oil_B56 f_X12_oil_B61; simp only [Option.bind_some, ↓reduceIte, gI_I, gI_R, gI_J, gR_I, gR_R, gR_J, gL_I, gL_R, gL_J, gN_I, gN_R, gN_J, gJ_I, gJ_R, Int32.reduceLT, e_1_0, Int32.reduceToNatClampNeg, Int32.reduceToInt, Int.reduceLE, Int.reduceLT, Int.reduceNeg, Int.reduceEq,  Nat.reduceLT, Nat.reduceLeDiff, Nat.reduceEqDiff, Nat.reduceAdd, Nat.reduceMul, false_or, or_false, true_and, and_true, false_and, and_false, not_false_eq_true, not_true_eq_false, or_self, and_self, true_or, or_true, n0, in_v, gx, d, i3, pr, gs, Y])
      · have gs : ¬ Int32.ofNat c' < Int32.ofNat ((y + 1) / 2) := by rw [o_lt (by omega) (by omega)]; exact gc
        have sb := o_sub (a := c') (b := (y + 1) / 2) (by omega)
        by_cases go : 999 < o + y
        · have gt : (999 : Int32) < Int32.ofNat (o + y) := by rw [l_999, o_lt (by omega) (by omega)]; exact go
          exact rfu r (k := 3) (by omega) (by unfold f_X11_oil f_X11_oil_B62; simp only [Option.bind_some, ↓reduceIte, gI_I, gI_R, gI_J, gR_I, gR_R, gR_J, gL_I, gL_R, gL_J, gN_I, gN_R, gN_J, gJ_I, gJ_R, Int32.reduceLT, e_1_0, Int32.reduceToNatClampNeg, Int32.reduceToInt, Int.reduceLE, Int.reduceLT, Int.reduceNeg, Int.reduceEq,  Nat.reduceLT, Nat.reduceLeDiff, Nat.reduceEqDiff, Nat.reduceAdd, Nat.reduceMul, false_or, or_false, true_and, and_true, false_and, and_false, not_false_eq_true, not_true_eq_false, or_self, and_self, true_or, or_true, il, x1, x2, c, i7, i6, pr, gs, sm, gt, X]) (by unfold f_X12_oil f_X12_oil_B56 f_X12_oil_B61; simp only [Option.bind_some, ↓reduceIte, gI_I, gI_R, gI_J, gR_I, gR_R, gR_J, gL_I, gL_R, gL_J, gN_I, gN_R, gN_J, gJ_I, gJ_R, Int32.reduceLT, e_1_0, Int32.reduceToNatClampNeg, Int32.reduceToInt, Int.reduceLE, Int.reduceLT, Int.reduceNeg, Int.reduceEq,  Nat.reduceLT, Nat.reduceLeDiff, Nat.reduceEqDiff, Nat.reduceAdd, Nat.reduceMul, false_or, or_false, true_and, and_true, false_and, and_false, not_false_eq_true, not_true_eq_false, or_self, and_self, true_or, or_true, n0, in_v, gx, d, i3, i2, pr, gs, sm, gt, Y])
        · have gt : ¬ (999 : Int32) < Int32.ofNat (o + y) := by rw [l_999, o_lt (by omega) (by omega)]; exact go
          obtain ⟨τ, υ, k1, k2, k3, k4, k5, k6, k7, k8, k9, k10, k11⟩ := ke_v r
          have A : f_X11_oil 20000 0 (Int32.ofNat y) σ = some (Int32.ofNat (o + y), put_I (put_I τ 17 4 (Int32.ofNat (c' - (y + 1) / 2))) 17 3 (Int32.ofNat (o + y))) := by unfold f_X11_oil; simp only [Option.bind_some, ↓reduceIte, gI_I, gI_R, gI_J, gR_I, gR_R, gR_J, gL_I, gL_R, gL_J, gN_I, gN_R, gN_J, gJ_I, gJ_R, Int32.reduceLT, e_1_0, Int32.reduceToNatClampNeg, Int32.reduceToInt, Int.reduceLE, Int.reduceLT, Int.reduceNeg, Int.reduceEq,  Nat.reduceLT, Nat.reduceLeDiff, Nat.reduceEqDiff, Nat.reduceAdd, Nat.reduceMul, false_or, or_false, true_and, and_true, false_and, and_false, not_false_eq_true, not_true_eq_false, or_self, and_self, true_or, or_true, il, x1, x2, c, i7, i6, pr, gs, sm, gt, sb, k1, k6.2.1, k8 17 (by omega)]
          have B : f_X12_oil 20000 344 (Int32.ofNat y) ρ = some (Int32.ofNat (o + y), put_I (put_I υ 359 18 (Int32.ofNat (c' - (y + 1) / 2))) 359 17 (Int32.ofNat (o + y))) := by unfold f_X12_oil f_X12_oil_B61; simp only [Option.bind_some, ↓reduceIte, gI_I, gI_R, gI_J, gR_I, gR_R, gR_J, gL_I, gL_R, gL_J, gN_I, gN_R, gN_J, gJ_I, gJ_R, Int32.reduceLT, e_1_0, Int32.reduceToNatClampNeg, Int32.reduceToInt, Int.reduceLE, Int.reduceLT, Int.reduceNeg, Int.reduceEq,  Nat.reduceLT, Nat.reduceLeDiff, Nat.reduceEqDiff, Nat.reduceAdd, Nat.reduceMul, false_or, or_false, true_and, and_true, false_and, and_false, not_false_eq_true, not_true_eq_false, or_self, and_self, true_or, or_true, n0, in_v, gx, d, i3, i2, pr, gs, sm, gt, sb, Z, k2, k7.2.1, k7.2.2.1, k9 359 (by omega) (by omega)]
          have q2 : sg_I υ 344 20 = Int32.ofNat n := by rw [k10 20 (by omega)]; exact h2
          have R := rl_c (n := n) (c' := c' - (y + 1) / 2) k3 h1 q2 (f := f) (o := o) (c := c') (t := t) (by omega) (by rw [k8 17 (by omega), k9 359 (by omega) (by omega)]; exact ⟨i1, i2, i3, i4, i5, i6, i7, i8⟩)
          have R2 := rl_oil (n := n) (o' := o + y) R.1 h1 (by rw [gI_a (by omega)]; exact q2) (f := f) (o := o) (c := c' - (y + 1) / 2) (t := t) (by omega) (by simp only [Option.bind_some, ↓reduceIte, gI_I, gI_R, gI_J, gR_I, gR_R, gR_J, gL_I, gL_R, gL_J, gN_I, gN_R, gN_J, gJ_I, gJ_R, Int32.reduceLT, e_1_0, Int32.reduceToNatClampNeg, Int32.reduceToInt, Int.reduceLE, Int.reduceLT, Int.reduceNeg, Int.reduceEq,  Nat.reduceLT, Nat.reduceLeDiff, Nat.reduceEqDiff, Nat.reduceAdd, Nat.reduceMul, false_or, or_false, true_and, and_true, false_and, and_false, not_false_eq_true, not_true_eq_false, or_self, and_self, true_or, or_true, k8 17 (by omega), k9 359 (by omega) (by omega)]; exact ⟨i1, i2, i4, i5, i6, i8⟩)
          exact ⟨_, _, A, B, rfl, R2.1, (k4.tr R.2.1).tr R2.2.1, (k5.tr R.2.2).tr R2.2.2⟩
    · refine rfu r (k := 1) (by omega) ?_ ?_
      · unfold f_X11_oil f_X11_oil_B24
        by_cases x1 : x < 1
        · simp only [Option.bind_some, ↓reduceIte, gI_I, gI_R, gI_J, gR_I, gR_R, gR_J, gL_I, gL_R, gL_J, gN_I, gN_R, gN_J, gJ_I, gJ_R, Int32.reduceLT, e_1_0, Int32.reduceToNatClampNeg, Int32.reduceToInt, Int.reduceLE, Int.reduceLT, Int.reduceNeg, Int.reduceEq,  Nat.reduceLT, Nat.reduceLeDiff, Nat.reduceEqDiff, Nat.reduceAdd, Nat.reduceMul, false_or, or_false, true_and, and_true, false_and, and_false, not_false_eq_true, not_true_eq_false, or_self, and_self, true_or, or_true, il, x1, X]
        · have x2 : 30 < x := by rw [i_lt] at x1 ⊢; omega
          simp only [Option.bind_some, ↓reduceIte, gI_I, gI_R, gI_J, gR_I, gR_R, gR_J, gL_I, gL_R, gL_J, gN_I, gN_R, gN_J, gJ_I, gJ_R, Int32.reduceLT, e_1_0, Int32.reduceToNatClampNeg, Int32.reduceToInt, Int.reduceLE, Int.reduceLT, Int.reduceNeg, Int.reduceEq,  Nat.reduceLT, Nat.reduceLeDiff, Nat.reduceEqDiff, Nat.reduceAdd, Nat.reduceMul, false_or, or_false, true_and, and_true, false_and, and_false, not_false_eq_true, not_true_eq_false, or_self, and_self, true_or, or_true, il, x1, x2, X]
      · unfold f_X12_oil f_X12_oil_B61
        simp only [Option.bind_some, ↓reduceIte, gI_I, gI_R, gI_J, gR_I, gR_R, gR_J, gL_I, gL_R, gL_J, gN_I, gN_R, gN_J, gJ_I, gJ_R, Int32.reduceLT, e_1_0, Int32.reduceToNatClampNeg, Int32.reduceToInt, Int.reduceLE, Int.reduceLT, Int.reduceNeg, Int.reduceEq,  Nat.reduceLT, Nat.reduceLeDiff, Nat.reduceEqDiff, Nat.reduceAdd, Nat.reduceMul, false_or, or_false, true_and, and_true, false_and, and_false, not_false_eq_true, not_true_eq_false, or_self, and_self, true_or, or_true, n0, in_v, gx, Y]
  · rw [if_neg g] at il
    have n0 : sg_I ρ 344 20 = 0 := by rw [h2, l_0, o_eq (by omega) (by omega)]; omega
    exact rfu r (k := 0) (by omega) (by unfold f_X11_oil; simp only [Option.bind_some, ↓reduceIte, gI_I, gI_R, gI_J, gR_I, gR_R, gR_J, gL_I, gL_R, gL_J, gN_I, gN_R, gN_J, gJ_I, gJ_R, Int32.reduceLT, e_1_0, Int32.reduceToNatClampNeg, Int32.reduceToInt, Int.reduceLE, Int.reduceLT, Int.reduceNeg, Int.reduceEq,  Nat.reduceLT, Nat.reduceLeDiff, Nat.reduceEqDiff, Nat.reduceAdd, Nat.reduceMul, false_or, or_false, true_and, and_true, false_and, and_false, not_false_eq_true, not_true_eq_false, or_self, and_self, true_or, or_true, il, X]) (by unfold f_X12_oil f_X12_oil_B61; simp only [Option.bind_some, ↓reduceIte, gI_I, gI_R, gI_J, gR_I, gR_R, gR_J, gL_I, gL_R, gL_J, gN_I, gN_R, gN_J, gJ_I, gJ_R, Int32.reduceLT, e_1_0, Int32.reduceToNatClampNeg, Int32.reduceToInt, Int.reduceLE, Int.reduceLT, Int.reduceNeg, Int.reduceEq,  Nat.reduceLT, Nat.reduceLeDiff, Nat.reduceEqDiff, Nat.reduceAdd, Nat.reduceMul, false_or, or_false, true_and, and_true, false_and, and_false, not_false_eq_true, not_true_eq_false, or_self, and_self, true_or, or_true, n0, Y])
theorem p2_speed : so_speed p2_I 20000 := by
  intro x y
  refine Sm.so ?_
  intro σ ρ r
  obtain ⟨n, h1, h2, h3, h4, h5⟩ := r.nw
  have c := r.cf
  have d := r.rf
  have iw := iw_v c h1 h3 x
  have jw := jw_v h1 h2 x
  have X := rxs r
  have Y := rys r
  have Z := rz_v
  have e0 : (0 : Int32).toInt = 0 := rfl
  have e9 : (9 : Int32).toInt = 9 := rfl
  by_cases g : 0 ≤ x.toInt ∧ x.toInt < n
  · rw [if_pos g] at iw jw
    obtain ⟨w, hw, rfl⟩ := x_lt g
    have hw4 : w < 4 := by omega
    by_cases gy : 0 ≤ y.toInt ∧ y.toInt ≤ 9
    · have y1 : ¬ y < 0 := by rw [i_lt]; omega
      have y2 : ¬ 9 < y := by rw [i_lt]; omega
      obtain ⟨f, o, c', t, f1, f2, o1, c1, t1, i1, i2, i3, i4, i5, i6, i7, i8⟩ := r.gl h2 h1 (by omega)
      obtain ⟨v, z, p, q, v1, z1, q1, p1, p2, w1, w2, w3, w4, w5, w6, w7, w8⟩ := r.wh h2 h1 hw
      have I4 := iw_4 hw4
      have e18 := r.w18 w hw4
      have o0 := of_0 d hw4
      rw [w1] at o0
      by_cases gv : y = Int32.ofNat v
      · subst gv
        exact rfu r (k := 2) (by omega) (by unfold f_X11_speed; simp only [Option.bind_some, ↓reduceIte, gI_I, gI_R, gI_J, gR_I, gR_R, gR_J, gL_I, gL_R, gL_J, gN_I, gN_R, gN_J, gJ_I, gJ_R, Int32.reduceLT, e_1_0, Int32.reduceToNatClampNeg, Int32.reduceToInt, Int.reduceLE, Int.reduceLT, Int.reduceNeg, Int.reduceEq,  Nat.reduceLT, Nat.reduceLeDiff, Nat.reduceEqDiff, Nat.reduceAdd, Nat.reduceMul, false_or, or_false, true_and, and_true, false_and, and_false, not_false_eq_true, not_true_eq_false, or_self, and_self, true_or, or_true, iw, y1, y2, c, I4, e18, w5, X]) (by unfold f_X12_speed f_X12_speed_B57; simp only [Option.bind_some, ↓reduceIte, gI_I, gI_R, gI_J, gR_I, gR_R, gR_J, gL_I, gL_R, gL_J, gN_I, gN_R, gN_J, gJ_I, gJ_R, Int32.reduceLT, e_1_0, Int32.reduceToNatClampNeg, Int32.reduceToInt, Int.reduceLE, Int.reduceLT, Int.reduceNeg, Int.reduceEq,  Nat.reduceLT, Nat.reduceLeDiff, Nat.reduceEqDiff, Nat.reduceAdd, Nat.reduceMul, false_or, or_false, true_and, and_true, false_and, and_false, not_false_eq_true, not_true_eq_false, or_self, and_self, true_or, or_true, jw, in_v, gy, o0, Y])
      · by_cases gc : c' < 1
        · have gs : Int32.ofNat c' < 1 := by rw [l_1, o_lt (by omega) (by omega)]; exact gc
          exact rfu r (k := 3) (by omega) (by unfold f_X11_speed; simp only [Option.bind_some, ↓reduceIte, gI_I, gI_R, gI_J, gR_I, gR_R, gR_J, gL_I, gL_R, gL_J, gN_I, gN_R, gN_J, gJ_I, gJ_R, Int32.reduceLT, e_1_0, Int32.reduceToNatClampNeg, Int32.reduceToInt, Int.reduceLE, Int.reduceLT, Int.reduceNeg, Int.reduceEq,  Nat.reduceLT, Nat.reduceLeDiff, Nat.reduceEqDiff, Nat.reduceAdd, Nat.reduceMul, false_or, or_false, true_and, and_true, false_and, and_false, not_false_eq_true, not_true_eq_false, or_self, and_self, true_or, or_true, iw, y1, y2, c, I4, e18, w5, gv, i7, gs, X]) (by unfold f_X12_speed f_X12_speed_B57; simp only [Option.bind_some, ↓reduceIte, gI_I, gI_R, gI_J, gR_I, gR_R, gR_J, gL_I, gL_R, gL_J, gN_I, gN_R, gN_J, gJ_I, gJ_R, Int32.reduceLT, e_1_0, Int32.reduceToNatClampNeg, Int32.reduceToInt, Int.reduceLE, Int.reduceLT, Int.reduceNeg, Int.reduceEq,  Nat.reduceLT, Nat.reduceLeDiff, Nat.reduceEqDiff, Nat.reduceAdd, Nat.reduceMul, false_or, or_false, true_and, and_true, false_and, and_false, not_false_eq_true, not_true_eq_false, or_self, and_self, true_or, or_true, jw, in_v, gy, o0, gv, d, i3, gs, Y])
        · have gs : ¬ Int32.ofNat c' < 1 := by rw [l_1, o_lt (by omega) (by omega)]; exact gc
          have sb : Int32.ofNat c' - 1 = Int32.ofNat (c' - 1) := by rw [l_1, o_sub (by omega)]
          obtain ⟨τ, υ, k1, k2, k3, k4, k5, k6, k7, k8, k9, k10, k11⟩ := ke_v r
          have d' : RF (sg_R υ) (sg_L υ) := k3.rf
          have o0' := of_0 d' hw4
          rw [k9 359 (by omega) (by omega), w1] at o0'
          have J := ix_0 hw4
          have A : f_X11_speed 20000 0 (Int32.ofNat w) y σ = some (Int32.ofNat v, put_I (put_I τ (20 + w) 0 y) 17 4 (Int32.ofNat (c' - 1))) := by
            have ne : ¬ 17 = 20 + w := by omega
            unfold f_X11_speed
            simp only [Option.bind_some, ↓reduceIte, gI_I, gI_R, gI_J, gR_I, gR_R, gR_J, gL_I, gL_R, gL_J, gN_I, gN_R, gN_J, gJ_I, gJ_R, Int32.reduceLT, e_1_0, Int32.reduceToNatClampNeg, Int32.reduceToInt, Int.reduceLE, Int.reduceLT, Int.reduceNeg, Int.reduceEq,  Nat.reduceLT, Nat.reduceLeDiff, Nat.reduceEqDiff, Nat.reduceAdd, Nat.reduceMul, false_or, or_false, true_and, and_true, false_and, and_false, not_false_eq_true, not_true_eq_false, or_self, and_self, true_or, or_true, iw, y1, y2, c, I4, e18, w5, gv, i7, gs, sb, k1, k6.2.1, k8 17 (by omega), k8 (20 + w) (by omega), ne]
          have B : f_X12_speed 20000 344 (Int32.ofNat w) y ρ = some (Int32.ofNat v, put_I (put_I υ 359 18 (Int32.ofNat (c' - 1))) 359 (4 * w) y) := by
            unfold f_X12_speed f_X12_speed_B57
            simp only [Option.bind_some, ↓reduceIte, gI_I, gI_R, gI_J, gR_I, gR_R, gR_J, gL_I, gL_R, gL_J, gN_I, gN_R, gN_J, gJ_I, gJ_R, Int32.reduceLT, e_1_0, Int32.reduceToNatClampNeg, Int32.reduceToInt, Int.reduceLE, Int.reduceLT, Int.reduceNeg, Int.reduceEq,  Nat.reduceLT, Nat.reduceLeDiff, Nat.reduceEqDiff, Nat.reduceAdd, Nat.reduceMul, false_or, or_false, true_and, and_true, false_and, and_false, not_false_eq_true, not_true_eq_false, or_self, and_self, true_or, or_true, jw, in_v, gy, o0, o0', gv, d, i3, gs, sb, Z, k2, k7.2.1, k7.2.2.1, k9 359 (by omega) (by omega), J]
          obtain ⟨v', v2, rfl⟩ := x_ob (B := 9) gy
          have q2 : sg_I υ 344 20 = Int32.ofNat n := by rw [k10 20 (by omega)]; exact h2
          have R0 := rl_1w (w := w) (τ := put_I τ (20 + w) 0 (Int32.ofNat v')) (υ := put_I υ 359 (4 * w) (Int32.ofNat v')) k3 kp_.put kp_.put (by omega) h1 q2 hw (fun a ha => gI_a ha) (fun a ha => gI_a ha) (fun j hj => gI_n (by omega)) ⟨v', z, p, q, v2, z1, q1, by rw [show hL (sg_I υ) q = hL (sg_I ρ) q by unfold hL hS; rw [k10 23 (by omega), k9 358 (by omega) (by omega)]]; exact p1, gI_e, by rw [gI_n (by omega), k9 359 (by omega) (by omega)]; exact w2, by rw [gI_n (by omega), k9 359 (by omega) (by omega)]; exact w3, by rw [gI_n (by omega), k9 359 (by omega) (by omega)]; exact w4, gI_e, by rw [gI_n (by omega), k8 _ (by omega)]; exact w6, by rw [gI_n (by omega), k8 _ (by omega)]; exact w7, by rw [gI_n (by omega), k8 _ (by omega)]; exact w8⟩
          have R := rl_c (n := n) (c' := c' - 1) R0.1 h1 (by rw [gI_a (by omega)]; exact q2) (f := f) (o := o) (c := c') (t := t) (by omega) (by
            refine ⟨?_, ?_, ?_, ?_, ?_, ?_, ?_, ?_⟩
            · rw [gI_n (by omega), k9 359 (by omega) (by omega)]; exact i1
            · rw [gI_n (by omega), k9 359 (by omega) (by omega)]; exact i2
            · rw [gI_n (by omega), k9 359 (by omega) (by omega)]; exact i3
            · rw [gI_n (by omega), k9 359 (by omega) (by omega)]; exact i4
            · rw [gI_n (by omega), k8 17 (by omega)]; exact i5
            · rw [gI_n (by omega), k8 17 (by omega)]; exact i6
            · rw [gI_n (by omega), k8 17 (by omega)]; exact i7
            · rw [gI_n (by omega), k8 17 (by omega)]; exact i8)
          have sw : put_I (put_I υ 359 18 (Int32.ofNat (c' - 1))) 359 (4 * w) (Int32.ofNat v') = put_I (put_I υ 359 (4 * w) (Int32.ofNat v')) 359 18 (Int32.ofNat (c' - 1)) := pp_I (by omega)
          rw [sw] at B
          exact ⟨_, _, A, B, rfl, R.1, (k4.tr R0.2.1).tr R.2.1, (k5.tr R0.2.2).tr R.2.2⟩
    · refine rfu r (k := 1) (by omega) ?_ ?_
      · unfold f_X11_speed f_X11_speed_B24
        by_cases y1 : y < 0
        · simp only [Option.bind_some, ↓reduceIte, gI_I, gI_R, gI_J, gR_I, gR_R, gR_J, gL_I, gL_R, gL_J, gN_I, gN_R, gN_J, gJ_I, gJ_R, Int32.reduceLT, e_1_0, Int32.reduceToNatClampNeg, Int32.reduceToInt, Int.reduceLE, Int.reduceLT, Int.reduceNeg, Int.reduceEq,  Nat.reduceLT, Nat.reduceLeDiff, Nat.reduceEqDiff, Nat.reduceAdd, Nat.reduceMul, false_or, or_false, true_and, and_true, false_and, and_false, not_false_eq_true, not_true_eq_false, or_self, and_self, true_or, or_true, iw, y1, X]
        · have y2 : 9 < y := by rw [i_lt] at y1 ⊢; omega
          simp only [Option.bind_some, ↓reduceIte, gI_I, gI_R, gI_J, gR_I, gR_R, gR_J, gL_I, gL_R, gL_J, gN_I, gN_R, gN_J, gJ_I, gJ_R, Int32.reduceLT, e_1_0, Int32.reduceToNatClampNeg, Int32.reduceToInt, Int.reduceLE, Int.reduceLT, Int.reduceNeg, Int.reduceEq,  Nat.reduceLT, Nat.reduceLeDiff, Nat.reduceEqDiff, Nat.reduceAdd, Nat.reduceMul, false_or, or_false, true_and, and_true, false_and, and_false, not_false_eq_true, not_true_eq_false, or_self, and_self, true_or, or_true, iw, y1, y2, X]
      · unfold f_X12_speed f_X12_speed_B57
        simp only [Option.bind_some, ↓reduceIte, gI_I, gI_R, gI_J, gR_I, gR_R, gR_J, gL_I, gL_R, gL_J, gN_I, gN_R, gN_J, gJ_I, gJ_R, Int32.reduceLT, e_1_0, Int32.reduceToNatClampNeg, Int32.reduceToInt, Int.reduceLE, Int.reduceLT, Int.reduceNeg, Int.reduceEq,  Nat.reduceLT, Nat.reduceLeDiff, Nat.reduceEqDiff, Nat.reduceAdd, Nat.reduceMul, false_or, or_false, true_and, and_true, false_and, and_false, not_false_eq_true, not_true_eq_false, or_self, and_self, true_or, or_true, jw, in_v, gy, Y]
  · rw [if_neg g] at iw jw
    exact rfu r (k := 0) (by omega) (by unfold f_X11_speed; simp only [Option.bind_some, ↓reduceIte, gI_I, gI_R, gI_J, gR_I, gR_R, gR_J, gL_I, gL_R, gL_J, gN_I, gN_R, gN_J, gJ_I, gJ_R, Int32.reduceLT, e_1_0, Int32.reduceToNatClampNeg, Int32.reduceToInt, Int.reduceLE, Int.reduceLT, Int.reduceNeg, Int.reduceEq,  Nat.reduceLT, Nat.reduceLeDiff, Nat.reduceEqDiff, Nat.reduceAdd, Nat.reduceMul, false_or, or_false, true_and, and_true, false_and, and_false, not_false_eq_true, not_true_eq_false, or_self, and_self, true_or, or_true, iw, X]) (by unfold f_X12_speed f_X12_speed_B57; simp only [Option.bind_some, ↓reduceIte, gI_I, gI_R, gI_J, gR_I, gR_R, gR_J, gL_I, gL_R, gL_J, gN_I, gN_R, gN_J, gJ_I, gJ_R, Int32.reduceLT, e_1_0, Int32.reduceToNatClampNeg, Int32.reduceToInt, Int.reduceLE, Int.reduceLT, Int.reduceNeg, Int.reduceEq,  Nat.reduceLT, Nat.reduceLeDiff, Nat.reduceEqDiff, Nat.reduceAdd, Nat.reduceMul, false_or, or_false, true_and, and_true, false_and, and_false, not_false_eq_true, not_true_eq_false, or_self, and_self, true_or, or_true, jw, Y])
theorem p2_about : so_about p2_I 20000 := by
  intro x
  refine Sm.so ?_
  intro σ ρ r
  obtain ⟨n, h1, h2, h3, h4, h5⟩ := r.nw
  have c := r.cf
  have d := r.rf
  have iw := iw_v c h1 h3 x
  have jw := jw_v h1 h2 x
  have X := rxs r
  have Y := rys r
  have Z := rz_v
  by_cases g : 0 ≤ x.toInt ∧ x.toInt < n
  · rw [if_pos g] at iw jw
    obtain ⟨w, hw, rfl⟩ := x_lt g
    have hw4 : w < 4 := by omega
    obtain ⟨v, z, p, q, v1, z1, q1, p1, p2, w1, w2, w3, w4, w5, w6, w7, w8⟩ := r.wh h2 h1 hw
    have I4 := iw_4 hw4
    have e18 := r.w18 w hw4
    obtain ⟨τ, υ, k1, k2, k3, k4, k5, k6, k7, k8, k9, k10, k11⟩ := ke_v r
    have d' : RF (sg_R υ) (sg_L υ) := k3.rf
    have o1 := of_1 d' hw4
    rw [k9 359 (by omega) (by omega), w2] at o1
    have J := ix_1 hw4
    have zz : (1 - Int32.ofNat z : Int32) = Int32.ofNat (1 - z) := by rw [l_1, o_sub (by omega)]
    have o2 := of_1 (ρ := put_I υ 359 (4 * w + 1) (Int32.ofNat (1 - z))) d' hw4
    rw [gI_e] at o2
    have A : f_X11_about 20000 0 (Int32.ofNat w) σ = some (Int32.ofNat (1 - z), put_I τ (20 + w) 1 (Int32.ofNat (1 - z))) := by
      unfold f_X11_about f_X11_about_B48
      have hz : z = 0 ∨ z = 1 := by omega
      rcases hz with rfl | rfl
      · have w6' : sg_I σ (20 + w) 1 = 0 := w6
        simp only [Option.bind_some, ↓reduceIte, gI_I, gI_R, gI_J, gR_I, gR_R, gR_J, gL_I, gL_R, gL_J, gN_I, gN_R, gN_J, gJ_I, gJ_R, Int32.reduceLT, e_1_0, Int32.reduceToNatClampNeg, Int32.reduceToInt, Int.reduceLE, Int.reduceLT, Int.reduceNeg, Int.reduceEq,  Nat.reduceLT, Nat.reduceLeDiff, Nat.reduceEqDiff, Nat.reduceAdd, Nat.reduceMul, false_or, or_false, true_and, and_true, false_and, and_false, not_false_eq_true, not_true_eq_false, or_self, and_self, true_or, or_true, iw, c, I4, e18, k1, k6.2.1, k6.2.2.1, k8 (20 + w) (by omega), w6']
        rfl
      · have w6' : sg_I σ (20 + w) 1 = 1 := w6
        simp only [Option.bind_some, ↓reduceIte, gI_I, gI_R, gI_J, gR_I, gR_R, gR_J, gL_I, gL_R, gL_J, gN_I, gN_R, gN_J, gJ_I, gJ_R, Int32.reduceLT, e_1_0, Int32.reduceToNatClampNeg, Int32.reduceToInt, Int.reduceLE, Int.reduceLT, Int.reduceNeg, Int.reduceEq,  Nat.reduceLT, Nat.reduceLeDiff, Nat.reduceEqDiff, Nat.reduceAdd, Nat.reduceMul, false_or, or_false, true_and, and_true, false_and, and_false, not_false_eq_true, not_true_eq_false, or_self, and_self, true_or, or_true, iw, c, I4, e18, k1, k6.2.1, k6.2.2.1, k8 (20 + w) (by omega), w6']
        rfl
    have B : f_X12_about 20000 344 (Int32.ofNat w) ρ = some (Int32.ofNat (1 - z), put_I υ 359 (4 * w + 1) (Int32.ofNat (1 - z))) := by
      unfold f_X12_about f_X12_about_B14
      simp only [Option.bind_some, ↓reduceIte, gI_I, gI_R, gI_J, gR_I, gR_R, gR_J, gL_I, gL_R, gL_J, gN_I, gN_R, gN_J, gJ_I, gJ_R, Int32.reduceLT, e_1_0, Int32.reduceToNatClampNeg, Int32.reduceToInt, Int.reduceLE, Int.reduceLT, Int.reduceNeg, Int.reduceEq,  Nat.reduceLT, Nat.reduceLeDiff, Nat.reduceEqDiff, Nat.reduceAdd, Nat.reduceMul, false_or, or_false, true_and, and_true, false_and, and_false, not_false_eq_true, not_true_eq_false, or_self, and_self, true_or, or_true, jw, o1, o2, d, zz, Z, k2, k7.2.1, k7.2.2.1, J]
    have q2 : sg_I υ 344 20 = Int32.ofNat n := by rw [k10 20 (by omega)]; exact h2
    have R0 := rl_1w (w := w) (τ := put_I τ (20 + w) 1 (Int32.ofNat (1 - z))) (υ := put_I υ 359 (4 * w + 1) (Int32.ofNat (1 - z))) k3 kp_.put kp_.put (by omega) h1 q2 hw (fun a ha => gI_a ha) (fun a ha => gI_a ha) (fun j hj => gI_n (by omega)) ⟨v, 1 - z, p, q, v1, by omega, q1, by rw [show hL (sg_I υ) q = hL (sg_I ρ) q by unfold hL hS; rw [k10 23 (by omega), k9 358 (by omega) (by omega)]]; exact p1, by rw [gI_n (by omega), k9 359 (by omega) (by omega)]; exact w1, gI_e, by rw [gI_n (by omega), k9 359 (by omega) (by omega)]; exact w3, by rw [gI_n (by omega), k9 359 (by omega) (by omega)]; exact w4, by rw [gI_n (by omega), k8 _ (by omega)]; exact w5, gI_e, by rw [gI_n (by omega), k8 _ (by omega)]; exact w7, by rw [gI_n (by omega), k8 _ (by omega)]; exact w8⟩
    exact ⟨_, _, A, B, rfl, R0.1, k4.tr R0.2.1, k5.tr R0.2.2⟩
  · rw [if_neg g] at iw jw
    exact rfu r (k := 0) (by omega) (by unfold f_X11_about; simp only [Option.bind_some, ↓reduceIte, gI_I, gI_R, gI_J, gR_I, gR_R, gR_J, gL_I, gL_R, gL_J, gN_I, gN_R, gN_J, gJ_I, gJ_R, Int32.reduceLT, e_1_0, Int32.reduceToNatClampNeg, Int32.reduceToInt, Int.reduceLE, Int.reduceLT, Int.reduceNeg, Int.reduceEq,  Nat.reduceLT, Nat.reduceLeDiff, Nat.reduceEqDiff, Nat.reduceAdd, Nat.reduceMul, false_or, or_false, true_and, and_true, false_and, and_false, not_false_eq_true, not_true_eq_false, or_self, and_self, true_or, or_true, iw, X]) (by unfold f_X12_about f_X12_about_B14; simp only [Option.bind_some, ↓reduceIte, gI_I, gI_R, gI_J, gR_I, gR_R, gR_J, gL_I, gL_R, gL_J, gN_I, gN_R, gN_J, gJ_I, gJ_R, Int32.reduceLT, e_1_0, Int32.reduceToNatClampNeg, Int32.reduceToInt, Int.reduceLE, Int.reduceLT, Int.reduceNeg, Int.reduceEq,  Nat.reduceLT, Nat.reduceLeDiff, Nat.reduceEqDiff, Nat.reduceAdd, Nat.reduceMul, false_or, or_false, true_and, and_true, false_and, and_false, not_false_eq_true, not_true_eq_false, or_self, and_self, true_or, or_true, jw, Y])
