/-! ===== acts ===== -/
theorem rx_v {σ ρ : Sg} (r : Rel σ ρ) {x : Int32} {k : Nat} (hk : k < 5) (e : x = Int32.ofNat k) : f_X11_refused 0 x σ = some (-1, put_I σ 16 k (sg_I σ 16 k + 1)) := by
  have c := r.cf
  subst e
  unfold f_X11_refused
  simp only [c, Option.bind_some]
  rw [if_neg (o_nn (by omega)), if_pos (by rw [o_lt (by omega) (by omega)]; omega), if_neg (o_in (by omega) (by omega)), if_neg (o_in (by omega) (by omega)), o_tn (by omega)]
theorem ry_v {σ ρ : Sg} (r : Rel σ ρ) {x : Int32} {k : Nat} (hk : k < 5) (e : x = Int32.ofNat k) : f_X12_isRefused 344 x ρ = some (1, put_I ρ 360 k (sg_I ρ 360 k + 1)) := by
  have d := r.rf
  have em : (-1 : Int32).toInt = -1 := rfl
  have ek := o_ti (show k < 2147483648 by omega)
  subst e
  have hx : ¬ Int32.ofNat k = -1 := by
    rw [i_eq]
    omega
  unfold f_X12_isRefused f_X12_isRefused_B15
  simp only [d, Option.bind_some]
  rw [if_neg hx, if_neg (o_in (by omega) (by omega)), if_neg (o_in (by omega) (by omega)), if_neg hx, o_tn (by omega)]
theorem rz_v (ρ : Sg) : f_X12_isRefused 344 (-1) ρ = some (0, ρ) := by
  unfold f_X12_isRefused f_X12_isRefused_B15
  rw [if_pos rfl, if_pos rfl]
theorem rj_v {σ ρ : Sg} (r : Rel σ ρ) {k : Nat} (hk : k < 5) : Rel (put_I σ 16 k (sg_I σ 16 k + 1)) (put_I ρ 360 k (sg_I ρ 360 k + 1)) ∧ FC σ (put_I σ 16 k (sg_I σ 16 k + 1)) ∧ FR ρ (put_I ρ 360 k (sg_I ρ 360 k + 1)) := by
  obtain ⟨r1, r2, r3, r4, r5, r6, r7, r8, ⟨m1, m2, m3, m4⟩, r10⟩ := r.1
  refine ⟨⟨rl_x r.1 (tp_d r3 rfl rfl rfl rfl) (st_d r4 rfl rfl (fun a ha => gI_a (by omega)) rfl rfl rfl) (la_d r5 rfl rfl (fun a ha => gI_a (by omega)) rfl rfl (fun a ha => gI_a (by omega))) ?_ (ba_d r8 (fun a h1 h2 => gI_n (by omega))) ⟨m1, m2, m3, fun j hj => ?_⟩ (no_d r10 rfl rfl rfl rfl rfl rfl rfl rfl), r.2⟩, FC.put (by omega), FR.put (by omega)⟩
  · exact sw_d r7 (fun a j h1 h2 => gI_n (by omega)) rfl (fun a ha => gI_a (by omega)) (fun j hj => gI_n (by omega)) (fun j _ => rfl)
  · rw [gI_I, gI_I]
    by_cases hj2 : j = k
    · subst hj2
      rw [if_pos ⟨rfl, rfl⟩, if_pos ⟨rfl, rfl⟩, m4 j hj]
    · rw [if_neg (by omega), if_neg (by omega)]
      exact m4 j hj
theorem rxs {σ ρ : Sg} (r : Rel σ ρ) : f_X11_refused 0 0 σ = some (-1, put_I σ 16 0 (sg_I σ 16 0 + 1)) ∧ f_X11_refused 0 1 σ = some (-1, put_I σ 16 1 (sg_I σ 16 1 + 1)) ∧ f_X11_refused 0 2 σ = some (-1, put_I σ 16 2 (sg_I σ 16 2 + 1)) ∧ f_X11_refused 0 3 σ = some (-1, put_I σ 16 3 (sg_I σ 16 3 + 1)) ∧ f_X11_refused 0 4 σ = some (-1, put_I σ 16 4 (sg_I σ 16 4 + 1)) := ⟨rx_v r (by omega) rfl, rx_v r (by omega) rfl, rx_v r (by omega) rfl, rx_v r (by omega) rfl, rx_v r (by omega) rfl⟩
theorem rys {σ ρ : Sg} (r : Rel σ ρ) : f_X12_isRefused 344 0 ρ = some (1, put_I ρ 360 0 (sg_I ρ 360 0 + 1)) ∧ f_X12_isRefused 344 1 ρ = some (1, put_I ρ 360 1 (sg_I ρ 360 1 + 1)) ∧ f_X12_isRefused 344 2 ρ = some (1, put_I ρ 360 2 (sg_I ρ 360 2 + 1)) ∧ f_X12_isRefused 344 3 ρ = some (1, put_I ρ 360 3 (sg_I ρ 360 3 + 1)) ∧ f_X12_isRefused 344 4 ρ = some (1, put_I ρ 360 4 (sg_I ρ 360 4 + 1)) := ⟨ry_v r (by omega) rfl, ry_v r (by omega) rfl, ry_v r (by omega) rfl, ry_v r (by omega) rfl, ry_v r (by omega) rfl⟩
theorem rfu {σ ρ : Sg} (r : Rel σ ρ) {k : Nat} (hk : k < 5) {A B : Option (Int32 × Sg)} (hA : A = some (-1, put_I σ 16 k (sg_I σ 16 k + 1))) (hB : B = some (-1, put_I ρ 360 k (sg_I ρ 360 k + 1))) : ∃ p q, A = some p ∧ B = some q ∧ p.1 = q.1 ∧ Rel p.2 q.2 ∧ FC σ p.2 ∧ FR ρ q.2 := ⟨_, _, hA, hB, rfl, rj_v r hk⟩
theorem Rel.lg {σ ρ : Sg} (r : Rel σ ρ) : lg_ (sg_I σ) (sg_I ρ) 17 359 0 := by
  obtain ⟨n, h1, h2, h3, h4, h5⟩ := r.nw
  exact h4.2.2.2.2.2.2.1
/-- only the scene has changed -/
theorem rl_s {σ ρ τ υ : Sg} {n : Nat} (r : Rel σ ρ) (k : kp_ σ τ) (k' : kp_ ρ υ) (E : ∀ a, a < 17 ∨ 23 < a → sg_I τ a = sg_I σ a) (F : ∀ a, a ≠ 359 → sg_I υ a = sg_I ρ a) (n1 : n ≤ 4) (n2 : sg_I ρ 344 20 = Int32.ofNat n) (S : sc_ (sg_I τ) (sg_I υ) 17 359 0 n) (B : bk_ (sg_I τ) 17) : Rel τ υ ∧ FC σ τ ∧ FR ρ υ := by
  obtain ⟨r1, r2, r3, r4, r5, r6, ⟨n', _, n2', n3, ⟨m, x, m1, m2, m3, m4, m5, m6⟩, n5, n6⟩, r8, r9, r10⟩ := r.1
  have en : n' = n := (o_eq (by omega) (by omega)).mp (n2'.symm.trans n2)
  subst en
  have F23 : sg_I υ 344 23 = sg_I ρ 344 23 := by rw [F 344 (by omega)]
  have F58 : ∀ j : Nat, (j : Int) < (sg_I ρ 344 23).toInt → sg_I υ 358 j = sg_I ρ 358 j := fun j _ => by rw [F 358 (by omega)]
  refine rl_w r k k' (fun a ha => E a (by omega)) (fun j _ => by rw [E 0 (by omega)]) (fun a h1 h2 h3 h4 => F a h2) (fun j h1 h2 => by rw [F 344 (by omega)]) ⟨n', n1, by rw [F 344 (by omega)]; exact n2, S, ⟨m, x, m1, m2, by rw [E 24 (by omega)]; exact m3, by rw [F 344 (by omega)]; exact m4, by rw [E 24 (by omega)]; exact m5, fun i hi => ?_⟩, ?_, ?_⟩ ⟨B, fun w hw => ?_, fun i hi w hw => ?_⟩
  · have hz := Nat.mod_lt (x + 39 - i) (show 0 < 40 by omega)
    exact sc_q n1 (sq_r fun a j h1 h2 => by rw [E a (by omega)]) (hq_r (F 361 (by omega))) F23 F58 (m6 i hi)
  · rw [E 0 (by omega), F 344 (by omega)]; exact n5
  · rw [E 0 (by omega)]
    rcases n6 with q | ⟨q1, q2, q3⟩
    · exact Or.inl q
    · exact Or.inr ⟨q1, q2, sc_q n1 (sq_r fun a j h1 h2 => by rw [E a (by omega)]) (hq_r (F 369 (by omega))) F23 F58 q3⟩
  · rw [E _ (by omega)]; exact r8.2.1 w hw
  · rw [E _ (by omega)]; exact r8.2.2 i hi w hw
/-- the log as it was -/
theorem lg_m {g h g' h' : Nat → Nat → Int32} (e7 : g' 17 7 = g 17 7) (e5 : (g 17 5).toInt ≤ (g' 17 5).toInt) (eL : g' 19 = g 19) (eh : ∀ j, 20 ≤ j → j < 261 → h' 359 j = h 359 j) (d : lg_ g h 17 359 0) : lg_ g' h' 17 359 0 := by
  obtain ⟨e, d1, d2, d3, d4⟩ := d
  simp only [Nat.zero_add] at d3 d4
  refine ⟨e, e7.trans d1, by omega, ?_, fun i hi w hw => ?_⟩
  · rw [Nat.zero_add, eh 20 (by omega) (by omega)]; exact d3
  · rw [Nat.zero_add, eh _ (by omega) (by omega)]
    show lg_w (g' 19 _) w = _
    rw [eL]
    exact d4 i hi w hw
/-- a wheel's four numbers on both sides -/
def wq_ (g h : Nat → Nat → Int32) (H : Nat → Nat) (w : Nat) : Prop := ∃ v z p q : Nat, v ≤ 9 ∧ z ≤ 1 ∧ q ≤ 5 ∧ p < H q ∧ h 359 (4 * w) = Int32.ofNat v ∧ h 359 (4 * w + 1) = Int32.ofNat z ∧ h 359 (4 * w + 2) = Int32.ofNat p ∧ h 359 (4 * w + 3) = Int32.ofNat q ∧ g (20 + w) 0 = Int32.ofNat v ∧ g (20 + w) 1 = Int32.ofNat z ∧ g (20 + w) 2 = Int32.ofNat p ∧ g (20 + w) 3 = Int32.ofNat q
theorem Rel.wq {σ ρ : Sg} (r : Rel σ ρ) {n w : Nat} (e : sg_I ρ 344 20 = Int32.ofNat n) (hn : n ≤ 4) (hw : w < n) : wq_ (sg_I σ) (sg_I ρ) (hL (sg_I ρ)) w := by
  obtain ⟨v, z, p, q, h1, h2, h3, h4, h5, h6⟩ := r.wh e hn hw
  exact ⟨v, z, p, q, h1, h2, h3, h4, h6⟩
theorem rl_o {σ ρ τ υ : Sg} {n : Nat} (r : Rel σ ρ) (k : kp_ σ τ) (k' : kp_ ρ υ) (E : ∀ a, a < 17 ∨ 23 < a → sg_I τ a = sg_I σ a) (F : ∀ a, a ≠ 359 → sg_I υ a = sg_I ρ a) (n1 : n ≤ 4) (n2 : sg_I ρ 344 20 = Int32.ofNat n) (e1 : sg_I τ 17 1 = sg_I σ 17 1) {f o c t : Nat} (hb : 1 ≤ f ∧ f ≤ 60 ∧ o ≤ 999 ∧ c ≤ 999 ∧ t ≤ 9999) (hg : sg_I υ 359 16 = Int32.ofNat f ∧ sg_I υ 359 17 = Int32.ofNat o ∧ sg_I υ 359 18 = Int32.ofNat c ∧ sg_I υ 359 19 = Int32.ofNat t ∧ sg_I τ 17 2 = Int32.ofNat f ∧ sg_I τ 17 3 = Int32.ofNat o ∧ sg_I τ 17 4 = Int32.ofNat c ∧ sg_I τ 17 5 = Int32.ofNat t) (W : ∀ w, w < n → wq_ (sg_I τ) (sg_I υ) (hL (sg_I ρ)) w) (W' : ∀ w, n ≤ w → w < 4 → sg_I τ (20 + w) 1 = sg_I σ (20 + w) 1) (LG : lg_ (sg_I τ) (sg_I υ) 17 359 0) : Rel τ υ ∧ FC σ τ ∧ FR ρ υ := by
  obtain ⟨b1, b2, b3, b4, b5⟩ := hb
  obtain ⟨g1, g2, g3, g4, g5, g6, g7, g8⟩ := hg
  have B := r.1.2.2.2.2.2.2.2.1.1
  obtain ⟨n', n1', n2', n3', -, -⟩ := r.nw
  have en : n' = n := (o_eq (by omega) (by omega)).mp (n2'.symm.trans n2)
  subst en
  refine rl_s r k k' E F n1 n2 ⟨e1.trans n3', ?_, ?_, ?_, ?_, fun w hw k hk => ?_, LG, fun h0 => ⟨?_, ?_, ?_, ?_, fun w hw => ?_⟩⟩ (fun w hw => ?_)
  · rw [Nat.zero_add, g1, g5]
  · rw [Nat.zero_add, g2, g6]
  · rw [Nat.zero_add, g3, g7]
  · rw [Nat.zero_add, g4, g8]
  · obtain ⟨v, z, p, q, h1, h2, h3, h4, h5, h6, h7, h8, h9, h10, h11, h12⟩ := W w hw
    show sg_I τ (20 + w) k = _
    rw [Nat.zero_add]
    match k, hk with
    | 0, _ => rw [h9]; exact h5.symm
    | 1, _ => rw [h10, h6]
    | 2, _ => rw [h11, h7]
    | 3, _ => rw [h12, h8]
  · rw [Nat.zero_add, g1, o_ti (by omega)]; omega
  · rw [Nat.zero_add, g2, o_ti (by omega)]; omega
  · rw [Nat.zero_add, g3, o_ti (by omega)]; omega
  · rw [Nat.zero_add, g4, o_ti (by omega)]; omega
  · obtain ⟨v, z, p, q, h1, h2, h3, h4, h5, h6, h7, h8, h9, h10, h11, h12⟩ := W w hw
    obtain ⟨b, e, ⟨s1, s2, s3, s4, s5⟩, s6, s7⟩ := r.sp q
    obtain ⟨q1, q2, q3⟩ := r.hs
    rw [Nat.zero_add, h5, h6, h7, h8, o_ti (by omega), o_ti (by omega), o_ti (by omega)]
    have el : ln_ (sg_I υ) (Int32.ofNat q) = hL (sg_I ρ) q := by
      unfold ln_
      rw [F 344 (by omega), F 358 (by omega), q3, o_ti (by omega), o_ti (by omega), o_tn (by omega)]
      by_cases hk : q < hS (sg_I ρ)
      · rw [if_pos (by omega), (s6 hk).2.2, o_ti (by omega)]
      · rw [if_neg (by omega)]
        unfold hL
        rw [if_neg hk]
        rfl
    rw [el]
    refine ⟨by omega, ?_, by omega, by omega⟩
    have hz : z = 0 ∨ z = 1 := by omega
    rcases hz with rfl | rfl
    · exact Or.inl rfl
    · exact Or.inr rfl
  · show sg_I τ (20 + w) 1 = 0 ∨ sg_I τ (20 + w) 1 = 1
    by_cases hw2 : w < n'
    · obtain ⟨v, z, p, q, h1, h2, h3, h4, h5, h6, h7, h8, h9, h10, h11, h12⟩ := W w hw2
      rw [h10]
      have hz : z = 0 ∨ z = 1 := by omega
      rcases hz with rfl | rfl
      · exact Or.inl rfl
      · exact Or.inr rfl
    · rw [W' w (by omega) hw]
      exact B w hw
theorem wq_q {g h g' h' : Nat → Nat → Int32} {H : Nat → Nat} {w : Nat} (E : g' (20 + w) = g (20 + w)) (F : ∀ k, k < 4 → h' 359 (4 * w + k) = h 359 (4 * w + k)) (d : wq_ g h H w) : wq_ g' h' H w := by
  unfold wq_
  rw [E, show h' 359 (4 * w) = h 359 (4 * w) from F 0 (by omega), F 1 (by omega), F 2 (by omega), F 3 (by omega)]
  exact d
theorem p2_flash : so_flash p2_I 20000 := by
  intro x
  refine Sm.so ?_
  intro σ ρ r
  obtain ⟨n, h1, h2, h3, h4, h5⟩ := r.nw
  have c := r.cf
  have d := r.rf
  have il := il_v c h1 h3
  have X := rxs r
  have Y := rys r
  have Z := rz_v
  by_cases g : 0 < n
  · rw [if_pos g] at il
    have n0 : ¬ sg_I ρ 344 20 = 0 := by rw [h2, l_0, o_eq (by omega) (by omega)]; omega
    have e1 : (1 : Int32).toInt = 1 := rfl
    have e60 : (60 : Int32).toInt = 60 := rfl
    by_cases gx : 1 ≤ x.toInt ∧ x.toInt ≤ 60
    · have x1 : ¬ x < 1 := by rw [i_lt]; omega
      have x2 : ¬ 60 < x := by rw [i_lt]; omega
      obtain ⟨f, o, c', t, f1, f2, o1, c1, t1, i1, i2, i3, i4, i5, i6, i7, i8⟩ := r.gl h2 h1 g
      by_cases gf : x = Int32.ofNat f
      · subst gf
        exact rfu r (k := 2) (by omega) (by unfold f_X11_flash; simp only [Option.bind_some, ↓reduceIte, gI_I, gI_R, gI_J, gR_I, gR_R, gR_J, gL_I, gL_R, gL_J, gN_I, gN_R, gN_J, gJ_I, gJ_R, Int32.reduceLT, e_1_0, Int32.reduceToNatClampNeg, Int32.reduceToInt, Int.reduceLE, Int.reduceLT, Int.reduceNeg, Int.reduceEq,  Nat.reduceLT, Nat.reduceLeDiff, Nat.reduceEqDiff, Nat.reduceAdd, Nat.reduceMul, false_or, or_false, true_and, and_true, false_and, and_false, not_false_eq_true, not_true_eq_false, or_self, and_self, true_or, or_true, il, x1, x2, c, i5, X]) (by unfold f_X12_flash f_X12_flash_B42; simp only [Option.bind_some, ↓reduceIte, gI_I, gI_R, gI_J, gR_I, gR_R, gR_J, gL_I, gL_R, gL_J, gN_I, gN_R, gN_J, gJ_I, gJ_R, Int32.reduceLT, e_1_0, Int32.reduceToNatClampNeg, Int32.reduceToInt, Int.reduceLE, Int.reduceLT, Int.reduceNeg, Int.reduceEq,  Nat.reduceLT, Nat.reduceLeDiff, Nat.reduceEqDiff, Nat.reduceAdd, Nat.reduceMul, false_or, or_false, true_and, and_true, false_and, and_false, not_false_eq_true, not_true_eq_false, or_self, and_self, true_or, or_true, n0, in_v, gx, d, i1, Y])
      · obtain ⟨τ, υ, k1, k2, k3, k4, k5, k6, k7, k8, k9, k10, k11⟩ := ke_v r
        have A : f_X11_flash 20000 0 x σ = some (Int32.ofNat f, put_I τ 17 2 x) := by unfold f_X11_flash; simp only [Option.bind_some, ↓reduceIte, gI_I, gI_R, gI_J, gR_I, gR_R, gR_J, gL_I, gL_R, gL_J, gN_I, gN_R, gN_J, gJ_I, gJ_R, Int32.reduceLT, e_1_0, Int32.reduceToNatClampNeg, Int32.reduceToInt, Int.reduceLE, Int.reduceLT, Int.reduceNeg, Int.reduceEq,  Nat.reduceLT, Nat.reduceLeDiff, Nat.reduceEqDiff, Nat.reduceAdd, Nat.reduceMul, false_or, or_false, true_and, and_true, false_and, and_false, not_false_eq_true, not_true_eq_false, or_self, and_self, true_or, or_true, il, x1, x2, c, i5, gf, k1, k6.2.1, k8 17 (by omega)]
        have B : f_X12_flash 20000 344 x ρ = some (Int32.ofNat f, put_I υ 359 16 x) := by unfold f_X12_flash f_X12_flash_B42; simp only [Option.bind_some, ↓reduceIte, gI_I, gI_R, gI_J, gR_I, gR_R, gR_J, gL_I, gL_R, gL_J, gN_I, gN_R, gN_J, gJ_I, gJ_R, Int32.reduceLT, e_1_0, Int32.reduceToNatClampNeg, Int32.reduceToInt, Int.reduceLE, Int.reduceLT, Int.reduceNeg, Int.reduceEq,  Nat.reduceLT, Nat.reduceLeDiff, Nat.reduceEqDiff, Nat.reduceAdd, Nat.reduceMul, false_or, or_false, true_and, and_true, false_and, and_false, not_false_eq_true, not_true_eq_false, or_self, and_self, true_or, or_true, n0, in_v, gx, d, i1, gf, Z, k2, k7.2.1, k7.2.2.1, k9 359 (by omega) (by omega)]
        obtain ⟨fx, q1, rfl⟩ := x_ob (B := 60) (x := x) (by omega)
        have q2 : 1 ≤ fx := by have := o_ti (show fx < 2147483648 by omega); omega
        have R := rl_o (τ := put_I τ 17 2 (Int32.ofNat fx)) (υ := put_I υ 359 16 (Int32.ofNat fx)) k3 kp_.put kp_.put (fun a ha => gI_a (by omega)) (fun a ha => gI_a ha) h1 (by rw [k10 20 (by omega)]; exact h2) rfl (f := fx) (o := o) (c := c') (t := t) (by omega) (by simp only [Option.bind_some, ↓reduceIte, gI_I, gI_R, gI_J, gR_I, gR_R, gR_J, gL_I, gL_R, gL_J, gN_I, gN_R, gN_J, gJ_I, gJ_R, Int32.reduceLT, e_1_0, Int32.reduceToNatClampNeg, Int32.reduceToInt, Int.reduceLE, Int.reduceLT, Int.reduceNeg, Int.reduceEq,  Nat.reduceLT, Nat.reduceLeDiff, Nat.reduceEqDiff, Nat.reduceAdd, Nat.reduceMul, false_or, or_false, true_and, and_true, false_and, and_false, not_false_eq_true, not_true_eq_false, or_self, and_self, true_or, or_true, k8 17 (by omega), k9 359 (by omega) (by omega)]; exact ⟨i2, i3, i4, i6, i7, i8⟩) (fun w hw => wq_q (gI_a (by omega)) (fun k hk => gI_n (by omega)) (k3.wq (by rw [k10 20 (by omega)]; exact h2) h1 hw)) (fun w _ _ => gI_n (by omega)) (lg_m rfl (Int.le_refl _) (gI_a (by omega)) (fun j _ _ => gI_n (by omega)) k3.lg)
        exact ⟨_, _, A, B, rfl, R.1, k4.tr R.2.1, k5.tr R.2.2⟩
    · refine rfu r (k := 1) (by omega) ?_ ?_
      · unfold f_X11_flash f_X11_flash_B24
        by_cases x1 : x < 1
        · simp only [Option.bind_some, ↓reduceIte, gI_I, gI_R, gI_J, gR_I, gR_R, gR_J, gL_I, gL_R, gL_J, gN_I, gN_R, gN_J, gJ_I, gJ_R, Int32.reduceLT, e_1_0, Int32.reduceToNatClampNeg, Int32.reduceToInt, Int.reduceLE, Int.reduceLT, Int.reduceNeg, Int.reduceEq,  Nat.reduceLT, Nat.reduceLeDiff, Nat.reduceEqDiff, Nat.reduceAdd, Nat.reduceMul, false_or, or_false, true_and, and_true, false_and, and_false, not_false_eq_true, not_true_eq_false, or_self, and_self, true_or, or_true, il, x1, X]
        · have x2 : 60 < x := by rw [i_lt] at x1 ⊢; omega
          simp only [Option.bind_some, ↓reduceIte, gI_I, gI_R, gI_J, gR_I, gR_R, gR_J, gL_I, gL_R, gL_J, gN_I, gN_R, gN_J, gJ_I, gJ_R, Int32.reduceLT, e_1_0, Int32.reduceToNatClampNeg, Int32.reduceToInt, Int.reduceLE, Int.reduceLT, Int.reduceNeg, Int.reduceEq,  Nat.reduceLT, Nat.reduceLeDiff, Nat.reduceEqDiff, Nat.reduceAdd, Nat.reduceMul, false_or, or_false, true_and, and_true, false_and, and_false, not_false_eq_true, not_true_eq_false, or_self, and_self, true_or, or_true, il, x1, x2, X]
      · unfold f_X12_flash f_X12_flash_B42
        simp only [Option.bind_some, ↓reduceIte, gI_I, gI_R, gI_J, gR_I, gR_R, gR_J, gL_I, gL_R, gL_J, gN_I, gN_R, gN_J, gJ_I, gJ_R, Int32.reduceLT, e_1_0, Int32.reduceToNatClampNeg, Int32.reduceToInt, Int.reduceLE, Int.reduceLT, Int.reduceNeg, Int.reduceEq,  Nat.reduceLT, Nat.reduceLeDiff, Nat.reduceEqDiff, Nat.reduceAdd, Nat.reduceMul, false_or, or_false, true_and, and_true, false_and, and_false, not_false_eq_true, not_true_eq_false, or_self, and_self, true_or, or_true, n0, in_v, gx, Y]
  · rw [if_neg g] at il
    have n0 : sg_I ρ 344 20 = 0 := by rw [h2, l_0, o_eq (by omega) (by omega)]; omega
    exact rfu r (k := 0) (by omega) (by unfold f_X11_flash; simp only [Option.bind_some, ↓reduceIte, gI_I, gI_R, gI_J, gR_I, gR_R, gR_J, gL_I, gL_R, gL_J, gN_I, gN_R, gN_J, gJ_I, gJ_R, Int32.reduceLT, e_1_0, Int32.reduceToNatClampNeg, Int32.reduceToInt, Int.reduceLE, Int.reduceLT, Int.reduceNeg, Int.reduceEq,  Nat.reduceLT, Nat.reduceLeDiff, Nat.reduceEqDiff, Nat.reduceAdd, Nat.reduceMul, false_or, or_false, true_and, and_true, false_and, and_false, not_false_eq_true, not_true_eq_false, or_self, and_self, true_or, or_true, il, X]) (by unfold f_X12_flash f_X12_flash_B42; simp only [Option.bind_some, ↓reduceIte, gI_I, gI_R, gI_J, gR_I, gR_R, gR_J, gL_I, gL_R, gL_J, gN_I, gN_R, gN_J, gJ_I, gJ_R, Int32.reduceLT, e_1_0, Int32.reduceToNatClampNeg, Int32.reduceToInt, Int.reduceLE, Int.reduceLT, Int.reduceNeg, Int.reduceEq,  Nat.reduceLT, Nat.reduceLeDiff, Nat.reduceEqDiff, Nat.reduceAdd, Nat.reduceMul, false_or, or_false, true_and, and_true, false_and, and_false, not_false_eq_true, not_true_eq_false, or_self, and_self, true_or, or_true, n0, Y])
