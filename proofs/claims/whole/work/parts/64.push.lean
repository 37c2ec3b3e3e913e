/-! ===== pushes, strips put on ===== -/
theorem em_n (a b : Nat) : ((a : Int) % (b : Int)).toNat = a % b := by
  rw [← Int.natCast_emod]
  exact Int.toNat_natCast _
theorem rm_o {a b : Nat} (ha : a < 2147483648) (hb : b < 2147483648) : rm_ (Int32.ofNat a) (Int32.ofNat b) = Int32.ofNat (a % b) := by
  have h := Nat.mod_le a b
  rw [i_eq, rm_ti, o_ti ha, o_ti hb, o_ti (by omega), Int.tmod_eq_emod_of_nonneg (by omega)]
  exact (Int.natCast_emod a b).symm
theorem sv_v {σ ρ : Sg} (r : Rel σ ρ) {w q p y : Nat} (hq : q ≤ 100) (e : sg_I σ (20 + w) 3 = Int32.ofNat q) (e2 : sg_I σ (20 + w) 2 = Int32.ofNat p) (hp : p + y < 2147483648) : f_X11_shove 0 (some (20 + w)) (Int32.ofNat y) σ = some (put_I σ (20 + w) 2 (Int32.ofNat ((p + y) % hL (sg_I ρ) q))) := by
  obtain ⟨b, c, h1, h2, h3, h4, h5, h6⟩ := so_v r hq e
  unfold f_X11_shove
  simp only [Option.bind_some, h1, sz_v h2 h3, e2]
  rw [o_add, rd_o (by omega) (by omega), o_ti hp, em_n]
  rfl
theorem pn_v {σ ρ : Sg} (r : Rel σ ρ) {w q p y : Nat} (hw : w < 4) (hq : q ≤ 100) (e : sg_I ρ 359 (4 * w + 3) = Int32.ofNat q) (e2 : sg_I ρ 359 (4 * w + 2) = Int32.ofNat p) (hp : p + y < 2147483648) : f_X12_pushNow 344 (Int32.ofNat w) (Int32.ofNat y) ρ = some (put_I ρ 359 (4 * w + 2) (Int32.ofNat ((p + y) % hL (sg_I ρ) q))) := by
  obtain ⟨b, c, ⟨-, -, s1, s2, -⟩, -, -⟩ := r.sp q
  have d := r.rf
  have J := ix_2 hw
  unfold f_X12_pushNow
  rw [of_2 d hw, lo_v r hw hq e]
  simp only [Option.bind_some, e2]
  rw [o_add, rd_p (by omega) (by omega), o_ti hp, em_n]
  simp only [Option.bind_some, ↓reduceIte, gI_I, gI_R, gI_J, gR_I, gR_R, gR_J, gL_I, gL_R, gL_J, gN_I, gN_R, gN_J, gJ_I, gJ_R, Int32.reduceLT, e_1_0, Int32.reduceToNatClampNeg, Int32.reduceToInt, Int.reduceLE, Int.reduceLT, Int.reduceNeg, Int.reduceEq,  Nat.reduceLT, Nat.reduceLeDiff, Nat.reduceEqDiff, Nat.reduceAdd, Nat.reduceMul, false_or, or_false, true_and, and_true, false_and, and_false, not_false_eq_true, not_true_eq_false, or_self, and_self, true_or, or_true, d, J]
theorem hL_q {h h' : Nat → Nat → Int32} (e1 : h' 344 23 = h 344 23) (e2 : h' 358 = h 358) : hL h' = hL h := by
  funext q
  unfold hL hS
  rw [e1, e2]
/-- a wheel's place has changed on both sides -/
theorem rl_p {σ ρ : Sg} {n w v z q p : Nat} (r : Rel σ ρ) (n1 : n ≤ 4) (n2 : sg_I ρ 344 20 = Int32.ofNat n) (hw : w < n) (b : v ≤ 9 ∧ z ≤ 1 ∧ q ≤ 5 ∧ p < hL (sg_I ρ) q) (w1 : sg_I ρ 359 (4 * w) = Int32.ofNat v) (w2 : sg_I ρ 359 (4 * w + 1) = Int32.ofNat z) (w4 : sg_I ρ 359 (4 * w + 3) = Int32.ofNat q) (w5 : sg_I σ (20 + w) 0 = Int32.ofNat v) (w6 : sg_I σ (20 + w) 1 = Int32.ofNat z) (w8 : sg_I σ (20 + w) 3 = Int32.ofNat q) : Rel (put_I σ (20 + w) 2 (Int32.ofNat p)) (put_I ρ 359 (4 * w + 2) (Int32.ofNat p)) ∧ FC σ (put_I σ (20 + w) 2 (Int32.ofNat p)) ∧ FR ρ (put_I ρ 359 (4 * w + 2) (Int32.ofNat p)) :=
  rl_1w (w := w) r kp_.put kp_.put (by omega) n1 n2 hw (fun a ha => gI_a ha) (fun a ha => gI_a ha) (fun j hj => gI_n (by omega)) ⟨v, z, p, q, b.1, b.2.1, b.2.2.1, b.2.2.2, by rw [gI_n (by omega)]; exact w1, by rw [gI_n (by omega)]; exact w2, gI_e, by rw [gI_n (by omega)]; exact w4, by rw [gI_n (by omega)]; exact w5, by rw [gI_n (by omega)]; exact w6, gI_e, by rw [gI_n (by omega)]; exact w8⟩
theorem p2_push : so_push p2_I 20000 := by
  intro x y
  refine Sm.so ?_
  intro σ ρ r
  obtain ⟨n, h1, h2, h3, h4, h5⟩ := r.nw
  have c := r.cf
  have d := r.rf
  have iw := iw_v c h1 h3 x
  have jw := jw_v h1 h2 x
  have X := rxs r
  have Y := rys r
  have Z := rz_v
  have e1 : (1 : Int32).toInt = 1 := rfl
  have e9 : (9 : Int32).toInt = 9 := rfl
  by_cases g : 0 ≤ x.toInt ∧ x.toInt < n
  · rw [if_pos g] at iw jw
    obtain ⟨w, hw, rfl⟩ := x_lt g
    have hw4 : w < 4 := by omega
    by_cases gy : 1 ≤ y.toInt ∧ y.toInt ≤ 9
    · have y1 : ¬ y < 1 := by rw [i_lt]; omega
      have y2 : ¬ 9 < y := by rw [i_lt]; omega
      obtain ⟨f, o, c', t, f1, f2, o1, c1, t1, i1, i2, i3, i4, i5, i6, i7, i8⟩ := r.gl h2 h1 (by omega)
      obtain ⟨v, z, p, q, v1, z1, q1, p1, p2, w1, w2, w3, w4, w5, w6, w7, w8⟩ := r.wh h2 h1 hw
      have I4 := iw_4 hw4
      have e18 := r.w18 w hw4
      by_cases gc : c' < 1
      · have gs : Int32.ofNat c' < 1 := by rw [l_1, o_lt (by omega) (by omega)]; exact gc
        exact rfu r (k := 3) (by omega) (by unfold f_X11_push; simp only [Option.bind_some, ↓reduceIte, gI_I, gI_R, gI_J, gR_I, gR_R, gR_J, gL_I, gL_R, gL_J, gN_I, gN_R, gN_J, gJ_I, gJ_R, Int32.reduceLT, e_1_0, Int32.reduceToNatClampNeg, Int32.reduceToInt, Int.reduceLE, Int.reduceLT, Int.reduceNeg, Int.reduceEq,  Nat.reduceLT, Nat.reduceLeDiff, Nat.reduceEqDiff, Nat.reduceAdd, Nat.reduceMul, false_or, or_false, true_and, and_true, false_and, and_false, not_false_eq_true, not_true_eq_false, or_self, and_self, true_or, or_true, iw, y1, y2, c, i7, gs, X]) (by unfold f_X12_push f_X12_push_B43; simp only [Option.bind_some, ↓reduceIte, gI_I, gI_R, gI_J, gR_I, gR_R, gR_J, gL_I, gL_R, gL_J, gN_I, gN_R, gN_J, gJ_I, gJ_R, Int32.reduceLT, e_1_0, Int32.reduceToNatClampNeg, Int32.reduceToInt, Int.reduceLE, Int.reduceLT, Int.reduceNeg, Int.reduceEq,  Nat.reduceLT, Nat.reduceLeDiff, Nat.reduceEqDiff, Nat.reduceAdd, Nat.reduceMul, false_or, or_false, true_and, and_true, false_and, and_false, not_false_eq_true, not_true_eq_false, or_self, and_self, true_or, or_true, jw, in_v, gy, d, i3, gs, Y])
      · have gs : ¬ Int32.ofNat c' < 1 := by rw [l_1, o_lt (by omega) (by omega)]; exact gc
        have sb : Int32.ofNat c' - 1 = Int32.ofNat (c' - 1) := by rw [l_1, o_sub (by omega)]
        obtain ⟨τ, υ, k1, k2, k3, k4, k5, k6, k7, k8, k9, k10, k11⟩ := ke_v r
        have q2 : sg_I υ 344 20 = Int32.ofNat n := by rw [k10 20 (by omega)]; exact h2
        have R := rl_c (n := n) (c' := c' - 1) k3 h1 q2 (f := f) (o := o) (c := c') (t := t) (by omega) (by rw [k8 17 (by omega), k9 359 (by omega) (by omega)]; exact ⟨i1, i2, i3, i4, i5, i6, i7, i8⟩)
        have hh : hL (sg_I (put_I υ 359 18 (Int32.ofNat (c' - 1)))) = hL (sg_I ρ) := hL_q (by rw [gI_a (by omega)]; exact k10 23 (by omega)) (by rw [gI_a (by omega)]; exact k9 358 (by omega) (by omega))
        obtain ⟨y', y3, y4, rfl⟩ := x_1 (a := 1) (b := 9) gy
        have c3 : sg_I (put_I τ 17 4 (Int32.ofNat (c' - 1))) (20 + w) = sg_I σ (20 + w) := by rw [gI_a (by omega)]; exact k8 _ (by omega)
        have d3 : ∀ j, j < 16 → sg_I (put_I υ 359 18 (Int32.ofNat (c' - 1))) 359 j = sg_I ρ 359 j := fun j hj => by rw [gI_n (by omega), k9 359 (by omega) (by omega)]
        have sv := sv_v (w := w) (y := y') R.1 (q := q) (p := p) (by omega) (by rw [c3]; exact w8) (by rw [c3]; exact w7) (by omega)
        have pn := pn_v (w := w) (y := y') R.1 (q := q) (p := p) hw4 (by omega) (by rw [d3 _ (by omega)]; exact w4) (by rw [d3 _ (by omega)]; exact w3) (by omega)
        obtain ⟨b, e, ⟨-, -, s1, s2, -⟩, -, -⟩ := R.1.sp q
        rw [hh] at sv pn s1 s2
        have R2 := rl_p (n := n) (w := w) (v := v) (z := z) (q := q) (p := (p + y') % hL (sg_I ρ) q) R.1 h1 (by rw [gI_a (by omega)]; exact q2) hw ⟨v1, z1, q1, by rw [hh]; exact Nat.mod_lt _ (by omega)⟩ (by rw [d3 _ (by omega)]; exact w1) (by rw [d3 _ (by omega)]; exact w2) (by rw [d3 _ (by omega)]; exact w4) (by rw [c3]; exact w5) (by rw [c3]; exact w6) (by rw [c3]; exact w8)
        have of2 := of_2 (w := w) R2.1.rf hw4
        rw [gI_e] at of2
        have A : f_X11_push 20000 0 (Int32.ofNat w) (Int32.ofNat y') σ = some (Int32.ofNat ((p + y') % hL (sg_I ρ) q), put_I (put_I τ 17 4 (Int32.ofNat (c' - 1))) (20 + w) 2 (Int32.ofNat ((p + y') % hL (sg_I ρ) q))) := by
          unfold f_X11_push
          simp only [Option.bind_some, ↓reduceIte, gI_I, gI_R, gI_J, gR_I, gR_R, gR_J, gL_I, gL_R, gL_J, gN_I, gN_R, gN_J, gJ_I, gJ_R, Int32.reduceLT, e_1_0, Int32.reduceToNatClampNeg, Int32.reduceToInt, Int.reduceLE, Int.reduceLT, Int.reduceNeg, Int.reduceEq,  Nat.reduceLT, Nat.reduceLeDiff, Nat.reduceEqDiff, Nat.reduceAdd, Nat.reduceMul, false_or, or_false, true_and, and_true, false_and, and_false, not_false_eq_true, not_true_eq_false, or_self, and_self, true_or, or_true, iw, y1, y2, c, I4, e18, i7, gs, sb, k1, k6.2.1, k6.2.2.1, k8 17 (by omega), sv]
        have B : f_X12_push 20000 344 (Int32.ofNat w) (Int32.ofNat y') ρ = some (Int32.ofNat ((p + y') % hL (sg_I ρ) q), put_I (put_I υ 359 18 (Int32.ofNat (c' - 1))) 359 (4 * w + 2) (Int32.ofNat ((p + y') % hL (sg_I ρ) q))) := by
          unfold f_X12_push f_X12_push_B43
          simp only [Option.bind_some, ↓reduceIte, gI_I, gI_R, gI_J, gR_I, gR_R, gR_J, gL_I, gL_R, gL_J, gN_I, gN_R, gN_J, gJ_I, gJ_R, Int32.reduceLT, e_1_0, Int32.reduceToNatClampNeg, Int32.reduceToInt, Int.reduceLE, Int.reduceLT, Int.reduceNeg, Int.reduceEq,  Nat.reduceLT, Nat.reduceLeDiff, Nat.reduceEqDiff, Nat.reduceAdd, Nat.reduceMul, false_or, or_false, true_and, and_true, false_and, and_false, not_false_eq_true, not_true_eq_false, or_self, and_self, true_or, or_true, jw, in_v, gy, d, i3, gs, sb, Z, k2, k7.2.1, k7.2.2.1, k9 359 (by omega) (by omega), pn, of2]
        exact ⟨_, _, A, B, rfl, R2.1, (k4.tr R.2.1).tr R2.2.1, (k5.tr R.2.2).tr R2.2.2⟩
    · refine rfu r (k := 1) (by omega) ?_ ?_
      · unfold f_X11_push f_X11_push_B25
        by_cases y1 : y < 1
        · simp only [Option.bind_some, ↓reduceIte, gI_I, gI_R, gI_J, gR_I, gR_R, gR_J, gL_I, gL_R, gL_J, gN_I, gN_R, gN_J, gJ_I, gJ_R, Int32.reduceLT, e_1_0, Int32.reduceToNatClampNeg, Int32.reduceToInt, Int.reduceLE, Int.reduceLT, Int.reduceNeg, Int.reduceEq,  Nat.reduceLT, Nat.reduceLeDiff, Nat.reduceEqDiff, Nat.reduceAdd, Nat.reduceMul, false_or, or_false, true_and, and_true, false_and, and_false, not_false_eq_true, not_true_eq_false, or_self, and_self, true_or, or_true, iw, y1, X]
        · have y2 : 9 < y := by rw [i_lt] at y1 ⊢; omega
          simp only [Option.bind_some, ↓reduceIte, gI_I, gI_R, gI_J, gR_I, gR_R, gR_J, gL_I, gL_R, gL_J, gN_I, gN_R, gN_J, gJ_I, gJ_R, Int32.reduceLT, e_1_0, Int32.reduceToNatClampNeg, Int32.reduceToInt, Int.reduceLE, Int.reduceLT, Int.reduceNeg, Int.reduceEq,  Nat.reduceLT, Nat.reduceLeDiff, Nat.reduceEqDiff, Nat.reduceAdd, Nat.reduceMul, false_or, or_false, true_and, and_true, false_and, and_false, not_false_eq_true, not_true_eq_false, or_self, and_self, true_or, or_true, iw, y1, y2, X]
      · unfold f_X12_push f_X12_push_B43
        simp only [Option.bind_some, ↓reduceIte, gI_I, gI_R, gI_J, gR_I, gR_R, gR_J, gL_I, gL_R, gL_J, gN_I, gN_R, gN_J, gJ_I, gJ_R, Int32.reduceLT, e_1_0, Int32.reduceToNatClampNeg, Int32.reduceToInt, Int.reduceLE, Int.reduceLT, Int.reduceNeg, Int.reduceEq,  Nat.reduceLT, Nat.reduceLeDiff, Nat.reduceEqDiff, Nat.reduceAdd, Nat.reduceMul, false_or, or_false, true_and, and_true, false_and, and_false, not_false_eq_true, not_true_eq_false, or_self, and_self, true_or, or_true, jw, in_v, gy, Y]
  · rw [if_neg g] at iw jw
    exact rfu r (k := 0) (by omega) (by unfold f_X11_push; simp only [Option.bind_some, ↓reduceIte, gI_I, gI_R, gI_J, gR_I, gR_R, gR_J, gL_I, gL_R, gL_J, gN_I, gN_R, gN_J, gJ_I, gJ_R, Int32.reduceLT, e_1_0, Int32.reduceToNatClampNeg, Int32.reduceToInt, Int.reduceLE, Int.reduceLT, Int.reduceNeg, Int.reduceEq,  Nat.reduceLT, Nat.reduceLeDiff, Nat.reduceEqDiff, Nat.reduceAdd, Nat.reduceMul, false_or, or_false, true_and, and_true, false_and, and_false, not_false_eq_true, not_true_eq_false, or_self, and_self, true_or, or_true, iw, X]) (by unfold f_X12_push f_X12_push_B43; simp only [Option.bind_some, ↓reduceIte, gI_I, gI_R, gI_J, gR_I, gR_R, gR_J, gL_I, gL_R, gL_J, gN_I, gN_R, gN_J, gJ_I, gJ_R, Int32.reduceLT, e_1_0, Int32.reduceToNatClampNeg, Int32.reduceToInt, Int.reduceLE, Int.reduceLT, Int.reduceNeg, Int.reduceEq,  Nat.reduceLT, Nat.reduceLeDiff, Nat.reduceEqDiff, Nat.reduceAdd, Nat.reduceMul, false_or, or_false, true_and, and_true, false_and, and_false, not_false_eq_true, not_true_eq_false, or_self, and_self, true_or, or_true, jw, Y])
theorem p2_puts : so_puts p2_I 20000 := by
  intro x y
  refine Sm.so ?_
  intro σ ρ r
  obtain ⟨n, h1, h2, h3, h4, h5⟩ := r.nw
  have c := r.cf
  have d := r.rf
  have iw := iw_v c h1 h3 x
  have jw := jw_v h1 h2 x
  have is := is_v r y
  have js := js_v r y
  have X := rxs r
  have Y := rys r
  have Z := rz_v
  obtain ⟨S1, S2, S3⟩ := r.hs
  by_cases g : 0 ≤ x.toInt ∧ x.toInt < n
  · rw [if_pos g] at iw jw
    obtain ⟨w, hw, rfl⟩ := x_lt g
    have hw4 : w < 4 := by omega
    by_cases gy : 0 ≤ y.toInt ∧ y.toInt < hS (sg_I ρ)
    · rw [if_pos gy] at is js
      obtain ⟨s, hs, rfl⟩ := x_lt gy
      obtain ⟨f, o, c', t, f1, f2, o1, c1, t1, i1, i2, i3, i4, i5, i6, i7, i8⟩ := r.gl h2 h1 (by omega)
      obtain ⟨v, z, p, q, v1, z1, q1, p1, p2, w1, w2, w3, w4, w5, w6, w7, w8⟩ := r.wh h2 h1 hw
      have I4 := iw_4 hw4
      have e18 := r.w18 w hw4
      have o3 := of_3 d hw4
      rw [w4] at o3
      by_cases gq : s = q
      · subst gq
        exact rfu r (k := 2) (by omega) (by unfold f_X11_puts; simp only [Option.bind_some, ↓reduceIte, gI_I, gI_R, gI_J, gR_I, gR_R, gR_J, gL_I, gL_R, gL_J, gN_I, gN_R, gN_J, gJ_I, gJ_R, Int32.reduceLT, e_1_0, Int32.reduceToNatClampNeg, Int32.reduceToInt, Int.reduceLE, Int.reduceLT, Int.reduceNeg, Int.reduceEq,  Nat.reduceLT, Nat.reduceLeDiff, Nat.reduceEqDiff, Nat.reduceAdd, Nat.reduceMul, false_or, or_false, true_and, and_true, false_and, and_false, not_false_eq_true, not_true_eq_false, or_self, and_self, true_or, or_true, iw, is, c, I4, e18, w8, X]) (by unfold f_X12_puts f_X12_puts_B51; simp only [Option.bind_some, ↓reduceIte, gI_I, gI_R, gI_J, gR_I, gR_R, gR_J, gL_I, gL_R, gL_J, gN_I, gN_R, gN_J, gJ_I, gJ_R, Int32.reduceLT, e_1_0, Int32.reduceToNatClampNeg, Int32.reduceToInt, Int.reduceLE, Int.reduceLT, Int.reduceNeg, Int.reduceEq,  Nat.reduceLT, Nat.reduceLeDiff, Nat.reduceEqDiff, Nat.reduceAdd, Nat.reduceMul, false_or, or_false, true_and, and_true, false_and, and_false, not_false_eq_true, not_true_eq_false, or_self, and_self, true_or, or_true, jw, js, o3, Y])
      · have gv : ¬ Int32.ofNat s = Int32.ofNat q := by rw [o_eq (by omega) (by omega)]; exact gq
        have gv' : ¬ Int32.ofNat q = Int32.ofNat s := fun h => gv h.symm
        by_cases gc : c' < 2
        · have gs : Int32.ofNat c' < 2 := by rw [l_2, o_lt (by omega) (by omega)]; exact gc
          exact rfu r (k := 3) (by omega) (by unfold f_X11_puts; simp only [Option.bind_some, ↓reduceIte, gI_I, gI_R, gI_J, gR_I, gR_R, gR_J, gL_I, gL_R, gL_J, gN_I, gN_R, gN_J, gJ_I, gJ_R, Int32.reduceLT, e_1_0, Int32.reduceToNatClampNeg, Int32.reduceToInt, Int.reduceLE, Int.reduceLT, Int.reduceNeg, Int.reduceEq,  Nat.reduceLT, Nat.reduceLeDiff, Nat.reduceEqDiff, Nat.reduceAdd, Nat.reduceMul, false_or, or_false, true_and, and_true, false_and, and_false, not_false_eq_true, not_true_eq_false, or_self, and_self, true_or, or_true, iw, is, c, I4, e18, w8, gv, i7, gs, X]) (by unfold f_X12_puts f_X12_puts_B51; simp only [Option.bind_some, ↓reduceIte, gI_I, gI_R, gI_J, gR_I, gR_R, gR_J, gL_I, gL_R, gL_J, gN_I, gN_R, gN_J, gJ_I, gJ_R, Int32.reduceLT, e_1_0, Int32.reduceToNatClampNeg, Int32.reduceToInt, Int.reduceLE, Int.reduceLT, Int.reduceNeg, Int.reduceEq,  Nat.reduceLT, Nat.reduceLeDiff, Nat.reduceEqDiff, Nat.reduceAdd, Nat.reduceMul, false_or, or_false, true_and, and_true, false_and, and_false, not_false_eq_true, not_true_eq_false, or_self, and_self, true_or, or_true, jw, js, o3, gv', d, i3, gs, Y])
        · have gs : ¬ Int32.ofNat c' < 2 := by rw [l_2, o_lt (by omega) (by omega)]; exact gc
          have sb : Int32.ofNat c' - 2 = Int32.ofNat (c' - 2) := by rw [l_2, o_sub (by omega)]
          obtain ⟨τ, υ, k1, k2, k3, k4, k5, k6, k7, k8, k9, k10, k11⟩ := ke_v r
          have q2 : sg_I υ 344 20 = Int32.ofNat n := by rw [k10 20 (by omega)]; exact h2
          have R := rl_c (n := n) (c' := c' - 2) k3 h1 q2 (f := f) (o := o) (c := c') (t := t) (by omega) (by rw [k8 17 (by omega), k9 359 (by omega) (by omega)]; exact ⟨i1, i2, i3, i4, i5, i6, i7, i8⟩)
          have hh : hL (sg_I (put_I υ 359 18 (Int32.ofNat (c' - 2)))) = hL (sg_I ρ) := hL_q (by rw [gI_a (by omega)]; exact k10 23 (by omega)) (by rw [gI_a (by omega)]; exact k9 358 (by omega) (by omega))
          have c3 : sg_I (put_I τ 17 4 (Int32.ofNat (c' - 2))) (20 + w) = sg_I σ (20 + w) := by rw [gI_a (by omega)]; exact k8 _ (by omega)
          have d3 : ∀ j, j < 16 → sg_I (put_I υ 359 18 (Int32.ofNat (c' - 2))) 359 j = sg_I ρ 359 j := fun j hj => by rw [gI_n (by omega), k9 359 (by omega) (by omega)]
          obtain ⟨b, e, ⟨s0, s0', s1, s2, -⟩, s3, -⟩ := r.sp s
          obtain ⟨s4, s5, s6⟩ := s3 hs
          have ns : ¬ Int32.ofNat s < 0 := o_nn (by omega)
          have ts : (Int32.ofNat s).toNatClampNeg = s := o_tn (by omega)
          have n6 : ¬ 6 ≤ s := by omega
          have sz : f_X8_size b (put_I (put_I τ 17 4 (Int32.ofNat (c' - 2))) (20 + w) 3 (Int32.ofNat s)) = some (Int32.ofNat (hL (sg_I ρ) s)) := sz_v (c := e) (by show sg_R τ b 0 = _; rw [k6.2.1]; exact s0) (by show sg_L τ e = _; rw [k6.2.2.1]; exact s0')
          have rd : f_X11_round (Int32.ofNat p) (Int32.ofNat (hL (sg_I ρ) s)) = some (Int32.ofNat (p % hL (sg_I ρ) s)) := by rw [rd_o (by omega) (by omega), o_ti (by omega), em_n]
          have R2 := rl_1w (w := w) (τ := put_I (put_I (put_I τ 17 4 (Int32.ofNat (c' - 2))) (20 + w) 3 (Int32.ofNat s)) (20 + w) 2 (Int32.ofNat (p % hL (sg_I ρ) s))) (υ := put_I (put_I (put_I υ 359 18 (Int32.ofNat (c' - 2))) 359 (4 * w + 3) (Int32.ofNat s)) 359 (4 * w + 2) (Int32.ofNat (p % hL (sg_I ρ) s))) R.1 (kp_.put.tr kp_.put) (kp_.put.tr kp_.put) (by omega) h1 (by rw [gI_a (by omega)]; exact q2) hw (fun a ha => by rw [gI_a ha, gI_a ha]) (fun a ha => by rw [gI_a ha, gI_a ha]) (fun j hj => by rw [gI_n (by omega), gI_n (by omega)]) ⟨v, z, p % hL (sg_I ρ) s, s, v1, z1, by omega, by rw [hh]; exact Nat.mod_lt _ (by omega), by rw [gI_n (by omega), gI_n (by omega), d3 _ (by omega)]; exact w1, by rw [gI_n (by omega), gI_n (by omega), d3 _ (by omega)]; exact w2, gI_e, by rw [gI_n (by omega), gI_e], by rw [gI_n (by omega), gI_n (by omega), c3]; exact w5, by rw [gI_n (by omega), gI_n (by omega), c3]; exact w6, gI_e, by rw [gI_n (by omega), gI_e]⟩
          have A : f_X11_puts 20000 0 (Int32.ofNat w) (Int32.ofNat s) σ = some (Int32.ofNat (hL (sg_I ρ) s), put_I (put_I (put_I τ 17 4 (Int32.ofNat (c' - 2))) (20 + w) 3 (Int32.ofNat s)) (20 + w) 2 (Int32.ofNat (p % hL (sg_I ρ) s))) := by
            have ne : ¬ 20 + w = 17 := by omega
            unfold f_X11_puts
            simp only [Option.bind_some, ↓reduceIte, gI_I, gI_R, gI_J, gR_I, gR_R, gR_J, gL_I, gL_R, gL_J, gN_I, gN_R, gN_J, gJ_I, gJ_R, Int32.reduceLT, e_1_0, Int32.reduceToNatClampNeg, Int32.reduceToInt, Int.reduceLE, Int.reduceLT, Int.reduceNeg, Int.reduceEq,  Nat.reduceLT, Nat.reduceLeDiff, Nat.reduceEqDiff, Nat.reduceAdd, Nat.reduceMul, false_or, or_false, true_and, and_true, false_and, and_false, not_false_eq_true, not_true_eq_false, or_self, and_self, true_or, or_true, iw, is, c, I4, e18, w8, gv, i7, gs, sb, k1, k6.2.1, k6.2.2.1, k8 17 (by omega), k8 (20 + w) (by omega), ns, ts, n6, s4, sz, ne, w7, rd]
          have J2 := ix_2 hw4
          have J3 := ix_3 hw4
          have o2 := of_2 (ρ := put_I (put_I υ 359 18 (Int32.ofNat (c' - 2))) 359 (4 * w + 3) (Int32.ofNat s)) (w := w) R.1.rf hw4
          rw [gI_n (by omega), d3 _ (by omega), w3] at o2
          have lA : ∀ ρ' : Sg, RF (sg_R ρ') (sg_L ρ') → sg_I ρ' 344 23 = sg_I ρ 344 23 → sg_I ρ' 358 = sg_I ρ 358 → sg_I ρ' 359 (4 * w + 3) = Int32.ofNat s → f_X12_longOf 344 (Int32.ofNat w) ρ' = some (Int32.ofNat (hL (sg_I ρ) s)) := by
            intro ρ' d' a1 a2 a3
            have nl : Int32.ofNat s < Int32.ofNat (hS (sg_I ρ)) := (o_lt (by omega) (by omega)).mpr hs
            have n7 : ¬ 7 ≤ s := by omega
            unfold f_X12_longOf f_X12_stripLongOf
            rw [of_3 d' hw4, a3]
            simp only [Option.bind_some, ↓reduceIte, gI_I, gI_R, gI_J, gR_I, gR_R, gR_J, gL_I, gL_R, gL_J, gN_I, gN_R, gN_J, gJ_I, gJ_R, Int32.reduceLT, e_1_0, Int32.reduceToNatClampNeg, Int32.reduceToInt, Int.reduceLE, Int.reduceLT, Int.reduceNeg, Int.reduceEq,  Nat.reduceLT, Nat.reduceLeDiff, Nat.reduceEqDiff, Nat.reduceAdd, Nat.reduceMul, false_or, or_false, true_and, and_true, false_and, and_false, not_false_eq_true, not_true_eq_false, or_self, and_self, true_or, or_true, d', a1, S3, nl, ns, ts, n7, a2, s6]
          have l1 := lA (put_I (put_I υ 359 18 (Int32.ofNat (c' - 2))) 359 (4 * w + 3) (Int32.ofNat s)) R.1.rf (by rw [gI_a (by omega), gI_a (by omega)]; exact k10 23 (by omega)) (by rw [gI_a (by omega), gI_a (by omega)]; exact k9 358 (by omega) (by omega)) gI_e
          have l2 := lA (put_I (put_I (put_I υ 359 18 (Int32.ofNat (c' - 2))) 359 (4 * w + 3) (Int32.ofNat s)) 359 (4 * w + 2) (Int32.ofNat (p % hL (sg_I ρ) s))) R.1.rf (by rw [gI_a (by omega), gI_a (by omega), gI_a (by omega)]; exact k10 23 (by omega)) (by rw [gI_a (by omega), gI_a (by omega), gI_a (by omega)]; exact k9 358 (by omega) (by omega)) (by rw [gI_n (by omega), gI_e])
          have nz : ¬ Int32.ofNat (hL (sg_I ρ) s) = 0 := by rw [l_0, o_eq (by omega) (by omega)]; omega
          have B : f_X12_puts 20000 344 (Int32.ofNat w) (Int32.ofNat s) ρ = some (Int32.ofNat (hL (sg_I ρ) s), put_I (put_I (put_I υ 359 18 (Int32.ofNat (c' - 2))) 359 (4 * w + 3) (Int32.ofNat s)) 359 (4 * w + 2) (Int32.ofNat (p % hL (sg_I ρ) s))) := by
            unfold f_X12_puts f_X12_puts_B51
            simp only [Option.bind_some, ↓reduceIte, gI_I, gI_R, gI_J, gR_I, gR_R, gR_J, gL_I, gL_R, gL_J, gN_I, gN_R, gN_J, gJ_I, gJ_R, Int32.reduceLT, e_1_0, Int32.reduceToNatClampNeg, Int32.reduceToInt, Int.reduceLE, Int.reduceLT, Int.reduceNeg, Int.reduceEq,  Nat.reduceLT, Nat.reduceLeDiff, Nat.reduceEqDiff, Nat.reduceAdd, Nat.reduceMul, false_or, or_false, true_and, and_true, false_and, and_false, not_false_eq_true, not_true_eq_false, or_self, and_self, true_or, or_true, jw, js, o3, gv', d, i3, gs, sb, Z, k2, k7.2.1, k7.2.2.1, k9 359 (by omega) (by omega), J2, J3, o2, l1, nz, rm_o (show p < 2147483648 by omega) (show hL (sg_I ρ) s < 2147483648 by omega), l2]
          exact ⟨_, _, A, B, rfl, R2.1, (k4.tr R.2.1).tr R2.2.1, (k5.tr R.2.2).tr R2.2.2⟩
    · rw [if_neg gy] at is js
      exact rfu r (k := 0) (by omega) (by unfold f_X11_puts f_X11_puts_B16; simp only [Option.bind_some, ↓reduceIte, gI_I, gI_R, gI_J, gR_I, gR_R, gR_J, gL_I, gL_R, gL_J, gN_I, gN_R, gN_J, gJ_I, gJ_R, Int32.reduceLT, e_1_0, Int32.reduceToNatClampNeg, Int32.reduceToInt, Int.reduceLE, Int.reduceLT, Int.reduceNeg, Int.reduceEq,  Nat.reduceLT, Nat.reduceLeDiff, Nat.reduceEqDiff, Nat.reduceAdd, Nat.reduceMul, false_or, or_false, true_and, and_true, false_and, and_false, not_false_eq_true, not_true_eq_false, or_self, and_self, true_or, or_true, iw, is, X]) (by unfold f_X12_puts f_X12_puts_B17 f_X12_puts_B51; simp only [Option.bind_some, ↓reduceIte, gI_I, gI_R, gI_J, gR_I, gR_R, gR_J, gL_I, gL_R, gL_J, gN_I, gN_R, gN_J, gJ_I, gJ_R, Int32.reduceLT, e_1_0, Int32.reduceToNatClampNeg, Int32.reduceToInt, Int.reduceLE, Int.reduceLT, Int.reduceNeg, Int.reduceEq,  Nat.reduceLT, Nat.reduceLeDiff, Nat.reduceEqDiff, Nat.reduceAdd, Nat.reduceMul, false_or, or_false, true_and, and_true, false_and, and_false, not_false_eq_true, not_true_eq_false, or_self, and_self, true_or, or_true, jw, js, Y])
  · rw [if_neg g] at iw jw
    exact rfu r (k := 0) (by omega) (by unfold f_X11_puts f_X11_puts_B16; simp only [Option.bind_some, ↓reduceIte, gI_I, gI_R, gI_J, gR_I, gR_R, gR_J, gL_I, gL_R, gL_J, gN_I, gN_R, gN_J, gJ_I, gJ_R, Int32.reduceLT, e_1_0, Int32.reduceToNatClampNeg, Int32.reduceToInt, Int.reduceLE, Int.reduceLT, Int.reduceNeg, Int.reduceEq,  Nat.reduceLT, Nat.reduceLeDiff, Nat.reduceEqDiff, Nat.reduceAdd, Nat.reduceMul, false_or, or_false, true_and, and_true, false_and, and_false, not_false_eq_true, not_true_eq_false, or_self, and_self, true_or, or_true, iw, X]) (by unfold f_X12_puts f_X12_puts_B17 f_X12_puts_B51; simp only [Option.bind_some, ↓reduceIte, gI_I, gI_R, gI_J, gR_I, gR_R, gR_J, gL_I, gL_R, gL_J, gN_I, gN_R, gN_J, gJ_I, gJ_R, Int32.reduceLT, e_1_0, Int32.reduceToNatClampNeg, Int32.reduceToInt, Int.reduceLE, Int.reduceLT, Int.reduceNeg, Int.reduceEq,  Nat.reduceLT, Nat.reduceLeDiff, Nat.reduceEqDiff, Nat.reduceAdd, Nat.reduceMul, false_or, or_false, true_and, and_true, false_and, and_false, not_false_eq_true, not_true_eq_false, or_self, and_self, true_or, or_true, jw, Y])
