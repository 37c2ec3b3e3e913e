theorem rl_w {σ ρ τ υ : Sg} (r : Rel σ ρ) (k : kp_ σ τ) (k' : kp_ ρ υ) (E : ∀ a, a < 17 ∧ a ≠ 0 ∨ 313 ≤ a → sg_I τ a = sg_I σ a) (E0 : ∀ j, j ≠ 16 → sg_I τ 0 j = sg_I σ 0 j) (F : ∀ a, a ≠ 344 → a ≠ 359 → a ≠ 361 → a ≠ 369 → sg_I υ a = sg_I ρ a) (F0 : ∀ j, j ≠ 29 → j ≠ 40 → sg_I υ 344 j = sg_I ρ 344 j) (w : sw_ (sg_I τ) (sg_I υ)) (b : ba_ (sg_I τ)) : Rel τ υ ∧ FC σ τ ∧ FR ρ υ := by
  obtain ⟨r1, r2, r3, r4, r5, r6, r7, r8, r9, r10⟩ := r.1
  refine ⟨⟨?_, by rw [k'.2.1, k'.2.2.1]; exact r.2⟩, fun a h1 h2 => ⟨E a (by omega), by rw [k.2.1], by rw [k.2.2.1], by rw [k.2.2.2]⟩, ⟨k'.1, fun a ha => ⟨F a (by omega) (by omega) (by omega) (by omega), by rw [k'.2.1], by rw [k'.2.2.1]⟩⟩⟩
  rw [k.1, k.2.1, k.2.2.1]
  exact rl_x r.1 (tp_d r3 (E0 1 (by omega)) (E 1 (by omega)) (F0 2 (by omega) (by omega)) (F 345 (by omega) (by omega) (by omega) (by omega))) (st_d r4 (E0 9 (by omega)) (by rw [E 15 (by omega)]) (fun a ha => E a (by omega)) (F0 23 (by omega) (by omega)) (F 357 (by omega) (by omega) (by omega) (by omega)) (F 358 (by omega) (by omega) (by omega) (by omega))) (la_d r5 (E0 6 (by omega)) (E0 7 (by omega)) (fun a ha => E a (by omega)) (F0 13 (by omega) (by omega)) (F0 26 (by omega) (by omega)) (fun a ha => F a (by omega) (by omega) (by omega) (by omega))) w b (mi_d r9 (E0 11 (by omega)) (E 16 (by omega)) (F0 27 (by omega) (by omega)) (F 360 (by omega) (by omega) (by omega) (by omega))) (no_d r10 (by rw [E 313 (by omega)]) (E 314 (by omega)) (E 315 (by omega)) (E 316 (by omega)) (F0 37 (by omega) (by omega)) (F 365 (by omega) (by omega) (by omega) (by omega)) (F 366 (by omega) (by omega) (by omega) (by omega)) (F 367 (by omega) (by omega) (by omega) (by omega)))
theorem cu_v {N : Nat} {ρ : Sg} (d : RF (sg_R ρ) (sg_L ρ)) {m : Nat} (hm : m < 40) (e : sg_I ρ 344 29 = Int32.ofNat m) : ∀ (j k n : Nat), k + j = 261 → j < n → f_X12_undo_L21 N 344 n (Int32.ofNat k) (cw_ ρ 361 (261 * m) 359 0 k) = some (Int32.ofNat m, cw_ ρ 361 (261 * m) 359 0 261) := by
  intro j
  induction j with
  | zero =>
    intro k n hk hn
    obtain ⟨n, rfl⟩ : ∃ m, n = m + 1 := ⟨n - 1, by omega⟩
    have hk : k = 261 := by omega
    subst hk
    rw [f_X12_undo_L21, if_neg (by decide), cw_o (b := 344) (Or.inl (by decide)) (by decide), e]
  | succ j ih =>
    intro k n hk hn
    obtain ⟨n, rfl⟩ : ∃ m, n = m + 1 := ⟨n - 1, by omega⟩
    have kp := cw_k (ρ := ρ) (bS := 361) (sO := 261 * m) (bD := 359) (dO := 0) k
    rw [← ih (k + 1) n (by omega) (by omega), f_X12_undo_L21, if_pos (by rw [l_261, o_lt (by omega) (by omega)]; omega), kp.2.1, kp.2.2.1, cw_o (b := 344) (Or.inl (by decide)) (by decide), e]
    simp only [d, Option.bind_some]
    rw [l_261, o_mul, o_add, if_neg (o_in (by omega) (by omega)), if_neg (o_in (by omega) (by omega)), o_tn (by omega), o_tn (by omega), o_s]
    simp only [cw_, Nat.zero_add]
theorem ci_v {N : Nat} {ρ : Sg} (d : RF (sg_R ρ) (sg_L ρ)) : ∀ (j k n : Nat), k + j = 261 → j < n → f_X12_image_L11 N 344 n (Int32.ofNat k) (cw_ ρ 359 0 369 0 k) = some (sg_I ρ 359 19, put_I (cw_ ρ 359 0 369 0 261) 344 40 1) := by
  intro j
  induction j with
  | zero =>
    intro k n hk hn
    obtain ⟨n, rfl⟩ : ∃ m, n = m + 1 := ⟨n - 1, by omega⟩
    have hk : k = 261 := by omega
    subst hk
    have kp := cw_k (ρ := ρ) (bS := 359) (sO := 0) (bD := 369) (dO := 0) 261
    rw [f_X12_image_L11, if_neg (by decide), gR_I, gL_I, kp.2.1, kp.2.2.1]
    simp only [d, Option.bind_some]
    rw [if_neg (by decide), gI_a (b := 359) (by decide), cw_o (b := 359) (Or.inl (by decide)) (by decide)]
    rfl
  | succ j ih =>
    intro k n hk hn
    obtain ⟨n, rfl⟩ : ∃ m, n = m + 1 := ⟨n - 1, by omega⟩
    have kp := cw_k (ρ := ρ) (bS := 359) (sO := 0) (bD := 369) (dO := 0) k
    rw [← ih (k + 1) n (by omega) (by omega), f_X12_image_L11, if_pos (by rw [l_261, o_lt (by omega) (by omega)]; omega), kp.2.1, kp.2.2.1]
    simp only [d, Option.bind_some]
    rw [if_neg (o_in (by omega) (by omega)), if_neg (o_in (by omega) (by omega)), o_tn (by omega), o_s]
    simp only [cw_, Nat.zero_add]
theorem cb_v {N : Nat} {ρ : Sg} (d : RF (sg_R ρ) (sg_L ρ)) : ∀ (j k n : Nat), k + j = 261 → j < n → f_X12_back_L11 N 344 n (Int32.ofNat k) (cw_ ρ 369 0 359 0 k) = some (sg_I ρ 369 19, put_I (cw_ ρ 369 0 359 0 261) 344 29 0) := by
  intro j
  induction j with
  | zero =>
    intro k n hk hn
    obtain ⟨n, rfl⟩ : ∃ m, n = m + 1 := ⟨n - 1, by omega⟩
    have hk : k = 261 := by omega
    subst hk
    have kp := cw_k (ρ := ρ) (bS := 369) (sO := 0) (bD := 359) (dO := 0) 261
    rw [f_X12_back_L11, if_neg (by decide), gR_I, gL_I, kp.2.1, kp.2.2.1]
    simp only [d, Option.bind_some]
    rw [if_neg (by decide), gI_a (b := 359) (by decide), show (19 : Int32).toNatClampNeg = 19 from rfl, cw_I (Or.inl (by decide)), if_pos (by omega)]
  | succ j ih =>
    intro k n hk hn
    obtain ⟨n, rfl⟩ : ∃ m, n = m + 1 := ⟨n - 1, by omega⟩
    have kp := cw_k (ρ := ρ) (bS := 369) (sO := 0) (bD := 359) (dO := 0) k
    rw [← ih (k + 1) n (by omega) (by omega), f_X12_back_L11, if_pos (by rw [l_261, o_lt (by omega) (by omega)]; omega), kp.2.1, kp.2.2.1]
    simp only [d, Option.bind_some]
    rw [if_neg (o_in (by omega) (by omega)), if_neg (o_in (by omega) (by omega)), o_tn (by omega), o_s]
    simp only [cw_, Nat.zero_add]
theorem p2_undo : so_undo p2_I 20000 := by
  refine Sm.so ?_
  intro σ ρ r
  have c := r.cf
  have d := r.rf
  obtain ⟨r1, r2, r3, r4, r5, r6, ⟨n, n1, n2, n3, ⟨m, x, m1, m2, m3, m4, m5, m6⟩, n5⟩, r8, r9, r10⟩ := r.1
  by_cases hm : m = 0
  · subst hm
    refine ⟨(-1, σ), (-1, ρ), ?_, ?_, rfl, r, FC.rf, FR.rf⟩
    · unfold f_X11_undo f_X5_bringBack
      simp only [c, Option.bind_some, m3]
      rw [if_pos (by decide)]
      rfl
    · unfold f_X12_undo
      rw [if_pos (show sg_I ρ 344 29 = 0 from m4)]
  · obtain ⟨y, hy, ey⟩ : ∃ y, y < 40 ∧ (x + 39) % 40 = y := ⟨_, Nat.mod_lt _ (by omega), rfl⟩
    obtain ⟨p1, p2⟩ := r1.2.2.2.2.1 y hy
    have p2' : sn_ (sg_R (put_I σ 24 1 (Int32.ofNat y))) (sg_L (put_I σ 24 1 (Int32.ofNat y))) (26 + 7 * y) := p2
    have p3' : sn_ (sg_R (put_I σ 24 1 (Int32.ofNat y))) (sg_L (put_I σ 24 1 (Int32.ofNat y))) 17 := r1.2.2.1
    have pb : bk_ (sg_I (put_I σ 24 1 (Int32.ofNat y))) (26 + 7 * y) := fun w hw => by rw [gI_a (by omega)]; exact r8.2.2 y hy w hw
    obtain ⟨τ0, t1, t2, t3, t4⟩ := cf_v (N := 20000) p3' p2' pb (by omega) (by omega)
    have A : f_X11_undo 20000 0 σ = some (Int32.ofNat (m - 1), put_I τ0 24 2 (Int32.ofNat (m - 1))) := by
      unfold f_X11_undo
      simp only [c, Option.bind_some]
      unfold f_X5_bringBack
      have e1 : (Int32.ofNat x - 1).toInt = (x : Int) - 1 := o_p (by omega)
      have ex : (((x : Int) - 1) % ((40 : Nat) : Int)).toNat = y := by omega
      rw [m3, if_neg (by rw [l_1, o_lt (by omega) (by omega)]; omega), m5, l_40, rd_o (by omega) (by omega), e1, ex]
      simp only [Option.bind_some, gI_e]
      have ex2 : ((y : Int) % ((40 : Nat) : Int)).toNat = y := by omega
      rw [rd_o (by omega) (by omega), o_ti (by omega), ex2]
      simp only [Option.bind_some, gR_I, gL_I, c]
      rw [if_neg (o_in (by omega) (by omega)), o_tn (by omega), p1, t1]
      simp only [Option.bind_some]
      rw [t3 24 (by omega), gI_n (by omega), m3, l_1, o_sub (by omega)]
    have d' : RF (sg_R (put_I ρ 344 29 (Int32.ofNat (m - 1)))) (sg_L (put_I ρ 344 29 (Int32.ofNat (m - 1)))) := d
    have B : f_X12_undo 20000 344 ρ = some (Int32.ofNat (m - 1), cw_ (put_I ρ 344 29 (Int32.ofNat (m - 1))) 361 (261 * (m - 1)) 359 0 261) := by
      unfold f_X12_undo
      rw [if_neg (by rw [m4, l_0, o_eq (by omega) (by omega)]; exact hm), m4, l_1, o_sub (by omega)]
      exact cu_v (N := 20000) d' (by omega) gI_e 261 0 20000 (by omega) (by omega)
    have kE : ∀ a, a < 17 ∨ 24 < a → sg_I (put_I τ0 24 2 (Int32.ofNat (m - 1))) a = sg_I σ a := fun a ha => by rw [gI_a (by omega), t3 a (by omega), gI_a (by omega)]
    have kF : ∀ a, a ≠ 344 → a ≠ 359 → sg_I (cw_ (put_I ρ 344 29 (Int32.ofNat (m - 1))) 361 (261 * (m - 1)) 359 0 261) a = sg_I ρ a := fun a h1 h2 => by rw [cw_o (Or.inl (by decide)) h2, gI_a h1]
    have kF0 : ∀ j, j ≠ 29 → sg_I (cw_ (put_I ρ 344 29 (Int32.ofNat (m - 1))) 361 (261 * (m - 1)) 359 0 261) 344 j = sg_I ρ 344 j := fun j h1 => by rw [cw_o (Or.inl (by decide)) (by decide), gI_n (by omega)]
    have F58 : ∀ j : Nat, (j : Int) < (sg_I ρ 344 23).toInt → sg_I (cw_ (put_I ρ 344 29 (Int32.ofNat (m - 1))) 361 (261 * (m - 1)) 359 0 261) 358 j = sg_I ρ 358 j := fun j _ => by rw [kF 358 (by decide) (by decide)]
    have F23 := kF0 23 (by decide)
    refine ⟨_, _, A, B, rfl, rl_w r ((kp_.put.tr t2).tr kp_.put) (kp_.put.tr (cw_k _)) (fun a ha => kE a (by omega)) (fun j _ => by rw [kE 0 (by omega)]) (fun a h1 h2 h3 h4 => kF a h1 h2) (fun j h1 h2 => kF0 j h1) ⟨n, n1, (kF0 20 (by decide)).trans n2, ?_, ⟨m - 1, y, by omega, hy, gI_e, ?_, ?_, fun i hi => ?_⟩, ?_⟩ ?_⟩
    · have q := m6 0 (by omega)
      rw [show (x + 39 - 0) % 40 = y by omega] at q
      refine sc_q n1 ⟨fun k h1 h2 h3 => ?_, fun k h1 => ?_, fun w hw k hk => ?_⟩ (fun j hj => ?_) F23 F58 q
      · rw [gI_a (by omega), t4.1 k h1 h2 h3, gI_a (by omega)]
      · rw [gI_a (by omega), t4.2.1 k h1, gI_a (by omega)]
      · rw [gI_a (by omega), t4.2.2 w hw k hk, gI_a (by omega)]
      · rw [cw_I (Or.inl (by decide)), if_pos (by omega), gI_a (by decide)]
        exact congrArg (sg_I ρ 361) (by omega)
    · rw [cw_o (b := 344) (Or.inl (by decide)) (by decide), gI_e]
    · rw [gI_n (by omega), t3 24 (by omega), gI_e]
    · have q := m6 (i + 1) (by omega)
      have hz := Nat.mod_lt (y + 39 - i) (show 0 < 40 by omega)
      rw [show (x + 39 - (i + 1)) % 40 = (y + 39 - i) % 40 by omega, show m - 1 - (i + 1) = m - 1 - 1 - i by omega] at q
      exact sc_q n1 (sq_r fun a j h1 h2 => by rw [kE a (by omega)]) (hq_r (kF 361 (by decide) (by decide))) F23 F58 q
    · refine ⟨by rw [kE 0 (by omega), kF0 40 (by decide)]; exact n5.1, ?_⟩
      rw [kE 0 (by omega)]
      rcases n5.2 with q | ⟨q1, q2, q3⟩
      · exact Or.inl q
      · exact Or.inr ⟨q1, q2, sc_q n1 (sq_r fun a j h1 h2 => by rw [kE a (by omega)]) (hq_r (kF 369 (by decide) (by decide))) F23 F58 q3⟩
    · refine ⟨fun w hw => ?_, fun w hw => ?_, fun i hi w hw => ?_⟩
      · rw [gI_a (by omega), t4.2.2 w hw 1 (by omega)]; exact pb w hw
      · rw [kE _ (by omega)]; exact r8.2.1 w hw
      · rw [kE _ (by omega)]; exact r8.2.2 i hi w hw
theorem p2_image : so_image p2_I 20000 := by
  refine Sm.so ?_
  intro σ ρ r
  have c := r.cf
  have d := r.rf
  obtain ⟨r1, r2, r3, r4, r5, r6, ⟨n, n1, n2, n3, ⟨m, x, m1, m2, m3, m4, m5, m6⟩, n5⟩, r8, r9, r10⟩ := r.1
  have il := il_v c n1 n3.1
  by_cases hn : 0 < n
  · rw [if_pos hn] at il
    obtain ⟨τ0, t1, t2, t3, t4⟩ := cf_v (N := 20000) r1.2.2.2.1 r1.2.2.1 r8.1 (by omega) (by omega)
    have A : f_X11_image 20000 0 σ = some (sg_I σ 17 5, put_I τ0 0 16 1) := by
      unfold f_X11_image
      rw [il]
      simp only [Option.bind_some, c]
      rw [if_neg (by decide), t1]
      simp only [Option.bind_some, gR_I, t2.2.1, c]
      rw [gI_a (by omega), t3 17 (by omega)]
    have B : f_X12_image 20000 344 ρ = some (sg_I ρ 359 19, put_I (cw_ ρ 359 0 369 0 261) 344 40 1) := by
      unfold f_X12_image
      rw [if_neg (by rw [n2, l_0, o_eq (by omega) (by omega)]; omega)]
      exact ci_v (N := 20000) d 261 0 20000 (by omega) (by omega)
    have kE : ∀ a, a ≠ 0 → a < 306 ∨ 312 < a → sg_I (put_I τ0 0 16 1) a = sg_I σ a := fun a h0 ha => by rw [gI_a (by omega), t3 a (by omega)]
    have kE0 : ∀ j, j ≠ 16 → sg_I (put_I τ0 0 16 1) 0 j = sg_I σ 0 j := fun j hj => by rw [gI_n (by omega), t3 0 (by omega)]
    have kF : ∀ a, a ≠ 344 → a ≠ 369 → sg_I (put_I (cw_ ρ 359 0 369 0 261) 344 40 1) a = sg_I ρ a := fun a h1 h2 => by rw [gI_a h1, cw_o (Or.inl (by decide)) h2]
    have kF0 : ∀ j, j ≠ 40 → sg_I (put_I (cw_ ρ 359 0 369 0 261) 344 40 1) 344 j = sg_I ρ 344 j := fun j h1 => by rw [gI_n (by omega), cw_o (Or.inl (by decide)) (by decide)]
    have F58 : ∀ j : Nat, (j : Int) < (sg_I ρ 344 23).toInt → sg_I (put_I (cw_ ρ 359 0 369 0 261) 344 40 1) 358 j = sg_I ρ 358 j := fun j _ => by rw [kF 358 (by decide) (by decide)]
    have F23 := kF0 23 (by decide)
    refine ⟨_, _, A, B, n3.2.2.2.2.1, rl_w r (t2.tr kp_.put) ((cw_k _).tr kp_.put) (fun a ha => kE a (by omega) (by omega)) kE0 (fun a h1 h2 h3 h4 => kF a h1 h4) (fun j h1 h2 => kF0 j h2) ⟨n, n1, (kF0 20 (by decide)).trans n2, ?_, ⟨m, x, m1, m2, ?_, ?_, ?_, fun i hi => ?_⟩, ?_, ?_⟩ ?_⟩
    · exact sc_q n1 (sq_r fun a j h1 h2 => by rw [kE a (by omega) (by omega)]) (hq_r (kF 359 (by decide) (by decide))) F23 F58 n3
    · rw [kE 24 (by omega) (by omega)]; exact m3
    · rw [kF0 29 (by decide)]; exact m4
    · rw [kE 24 (by omega) (by omega)]; exact m5
    · have hz := Nat.mod_lt (x + 39 - i) (show 0 < 40 by omega)
      exact sc_q n1 (sq_r fun a j h1 h2 => by rw [kE a (by omega) (by omega)]) (hq_r (kF 361 (by decide) (by decide))) F23 F58 (m6 i hi)
    · rw [gI_e, gI_e]
    · refine Or.inr ⟨gI_e, hn, sc_q n1 ⟨fun k h1 h2 h3 => ?_, fun k h1 => ?_, fun w hw k hk => ?_⟩ (fun j hj => ?_) F23 F58 n3⟩
      · rw [gI_a (by omega), t4.1 k h1 h2 h3]
      · rw [gI_a (by omega), t4.2.1 k h1]
      · rw [gI_a (by omega), t4.2.2 w hw k hk]
      · rw [gI_a (by decide), cw_I (Or.inl (by decide)), if_pos (by omega)]
        exact congrArg (sg_I ρ 359) (by omega)
    · refine ⟨fun w hw => ?_, fun w hw => ?_, fun i hi w hw => ?_⟩
      · rw [kE _ (by omega) (by omega)]; exact r8.1 w hw
      · rw [gI_a (by omega), t4.2.2 w hw 1 (by omega)]; exact r8.1 w hw
      · rw [kE _ (by omega) (by omega)]; exact r8.2.2 i hi w hw
  · rw [if_neg hn] at il
    refine ⟨(-1, σ), (-1, ρ), ?_, ?_, rfl, r, FC.rf, FR.rf⟩
    · unfold f_X11_image
      rw [il]
      simp only [Option.bind_some, ↓reduceIte]
    · unfold f_X12_image
      rw [if_pos (by rw [n2, l_0, o_eq (by omega) (by omega)]; omega)]
theorem p2_back : so_back p2_I 20000 := by
  refine Sm.so ?_
  intro σ ρ r
  have c := r.cf
  have d := r.rf
  obtain ⟨r1, r2, r3, r4, r5, r6, ⟨n, n1, n2, n3, ⟨m, x, m1, m2, m3, m4, m5, m6⟩, n5, n6⟩, r8, r9, r10⟩ := r.1
  rcases n6 with q | ⟨q1, q2, q3⟩
  · refine ⟨(-1, σ), (-1, ρ), ?_, ?_, rfl, r, FC.rf, FR.rf⟩
    · unfold f_X11_back
      rw [if_pos q]
    · unfold f_X12_back
      rw [if_pos (n5.symm.trans q)]
  · obtain ⟨τ0, t1, t2, t3, t4⟩ := cf_v (N := 20000) r1.2.2.1 r1.2.2.2.1 r8.2.1 (by omega) (by omega)
    have A : f_X11_back 20000 0 σ = some (sg_I σ 306 5, put_I τ0 24 2 0) := by
      unfold f_X11_back f_X5_clear
      rw [if_neg (by rw [q1]; decide)]
      simp only [Option.bind_some, c]
      rw [t1]
      simp only [Option.bind_some, gR_I, t2.2.1, c]
      rw [gI_a (by omega), t4.1 5 (by omega) (by omega) (by omega)]
    have B : f_X12_back 20000 344 ρ = some (sg_I ρ 369 19, put_I (cw_ ρ 369 0 359 0 261) 344 29 0) := by
      unfold f_X12_back
      rw [if_neg (by rw [← n5, q1]; decide)]
      exact cb_v (N := 20000) d 261 0 20000 (by omega) (by omega)
    have kE : ∀ a, a < 17 ∨ 24 < a → sg_I (put_I τ0 24 2 0) a = sg_I σ a := fun a ha => by rw [gI_a (by omega), t3 a (by omega)]
    have kF : ∀ a, a ≠ 344 → a ≠ 359 → sg_I (put_I (cw_ ρ 369 0 359 0 261) 344 29 0) a = sg_I ρ a := fun a h1 h2 => by rw [gI_a h1, cw_o (Or.inl (by decide)) h2]
    have kF0 : ∀ j, j ≠ 29 → sg_I (put_I (cw_ ρ 369 0 359 0 261) 344 29 0) 344 j = sg_I ρ 344 j := fun j h1 => by rw [gI_n (by omega), cw_o (Or.inl (by decide)) (by decide)]
    have F58 : ∀ j : Nat, (j : Int) < (sg_I ρ 344 23).toInt → sg_I (put_I (cw_ ρ 369 0 359 0 261) 344 29 0) 358 j = sg_I ρ 358 j := fun j _ => by rw [kF 358 (by decide) (by decide)]
    have F23 := kF0 23 (by decide)
    refine ⟨_, _, A, B, q3.2.2.2.2.1, rl_w r (t2.tr kp_.put) ((cw_k _).tr kp_.put) (fun a ha => kE a (by omega)) (fun j _ => by rw [kE 0 (by omega)]) (fun a h1 h2 h3 h4 => kF a h1 h2) (fun j h1 h2 => kF0 j h1) ⟨n, n1, (kF0 20 (by decide)).trans n2, ?_, ⟨0, x, by omega, m2, gI_e, gI_e, ?_, fun i hi => absurd hi (by omega)⟩, ?_, ?_⟩ ?_⟩
    · refine sc_q n1 ⟨fun k h1 h2 h3 => ?_, fun k h1 => ?_, fun w hw k hk => ?_⟩ (fun j hj => ?_) F23 F58 q3
      · rw [gI_a (by omega), t4.1 k h1 h2 h3]
      · rw [gI_a (by omega), t4.2.1 k h1]
      · rw [gI_a (by omega), t4.2.2 w hw k hk]
      · rw [gI_a (by decide), cw_I (Or.inl (by decide)), if_pos (by omega)]
        exact congrArg (sg_I ρ 369) (by omega)
    · rw [gI_n (by omega), t3 24 (by omega)]; exact m5
    · rw [kE 0 (by omega), kF0 40 (by decide)]; exact n5
    · rw [kE 0 (by omega)]
      exact Or.inr ⟨q1, q2, sc_q n1 (sq_r fun a j h1 h2 => by rw [kE a (by omega)]) (hq_r (kF 369 (by decide) (by decide))) F23 F58 q3⟩
    · refine ⟨fun w hw => ?_, fun w hw => ?_, fun i hi w hw => ?_⟩
      · rw [gI_a (by omega), t4.2.2 w hw 1 (by omega)]; exact r8.2.1 w hw
      · rw [kE _ (by omega)]; exact r8.2.1 w hw
      · rw [kE _ (by omega)]; exact r8.2.2 i hi w hw
