/-! ===== a look; ticks ===== -/
theorem s14_v {ρ : Sg} (d : RF (sg_R ρ) (sg_L ρ)) (e20 : sg_I ρ 359 20 = Int32.ofNat 60) : ∀ (j k f : Nat), k + j = 236 → j < f → f_X12_putLog_L14 20000 344 f (Int32.ofNat (4 + k)) (cw_ ρ 359 25 359 21 k) = f_X12_putLog_B58 20000 344 (put_I (cw_ ρ 359 25 359 21 236) 359 20 (Int32.ofNat 59)) := by
  intro j
  induction j with
  | zero =>
    intro k f hk hf
    obtain ⟨f, rfl⟩ : ∃ x, f = x + 1 := ⟨f - 1, by omega⟩
    have hk : k = 236 := by omega
    subst hk
    have kp := cw_k (ρ := ρ) (bS := 359) (sO := 25) (bD := 359) (dO := 21) 236
    rw [f_X12_putLog_L14, if_neg (by decide), kp.2.1, kp.2.2.1]
    simp only [d, Option.bind_some]
    rw [if_neg (by decide), if_neg (by decide), show (20 : Int32).toNatClampNeg = 20 from rfl, cw_I (Or.inr (by decide)), if_neg (by omega), e20]
    rfl
  | succ j ih =>
    intro k f hk hf
    obtain ⟨f, rfl⟩ : ∃ x, f = x + 1 := ⟨f - 1, by omega⟩
    have kp := cw_k (ρ := ρ) (bS := 359) (sO := 25) (bD := 359) (dO := 21) k
    rw [← ih (k + 1) f (by omega) (by omega), f_X12_putLog_L14, if_pos (by rw [l_240, o_lt (by omega) (by omega)]; omega), kp.2.1, kp.2.2.1]
    simp only [d, Option.bind_some]
    have e1 : (21 + Int32.ofNat (4 + k) : Int32) = Int32.ofNat (25 + k) := by rw [l_21, o_add, show 21 + (4 + k) = 25 + k by omega]
    have e2 : (Int32.ofNat (25 + k) - 4 : Int32) = Int32.ofNat (21 + k) := by rw [l_4, o_sub (by omega), show 25 + k - 4 = 21 + k by omega]
    rw [e1, e2, if_neg (o_in (by omega) (by omega)), if_neg (o_in (by omega) (by omega)), o_tn (by omega), o_tn (by omega), o_s]
    rfl
theorem lo_ref {ρ : Sg} (d : RF (sg_R ρ) (sg_L ρ)) {e' : Nat} (d3 : sg_I ρ 359 20 = Int32.ofNat (min 60 e')) : ∃ ρa m0, f_X12_putLog 20000 344 ρ = f_X12_putLog_B58 20000 344 ρa ∧ kp_ ρ ρa ∧ (∀ a, a ≠ 359 → sg_I ρa a = sg_I ρ a) ∧ (∀ j, j < 20 → sg_I ρa 359 j = sg_I ρ 359 j) ∧ sg_I ρa 359 20 = Int32.ofNat m0 ∧ m0 + 1 = min 60 (e' + 1) ∧ (∀ i, 1 ≤ i → i ≤ m0 → ∀ w, w < 4 → sg_I ρa 359 (21 + 4 * (m0 - i) + w) = sg_I ρ 359 (21 + 4 * (min 60 e' - 1 - (i - 1)) + w)) := by
  by_cases h60 : 60 ≤ e'
  · have em : min 60 e' = 60 := by omega
    rw [em] at d3
    refine ⟨put_I (cw_ ρ 359 25 359 21 236) 359 20 (Int32.ofNat 59), 59, ?_, (cw_k 236).tr kp_.put, fun a ha => ?_, fun j hj => ?_, gI_e, by omega, fun i a1 a2 w hw => ?_⟩
    · exact (show f_X12_putLog 20000 344 ρ = f_X12_putLog_L14 20000 344 20000 (Int32.ofNat (4 + 0)) (cw_ ρ 359 25 359 21 0) by
        unfold f_X12_putLog
        simp only [d, Option.bind_some]
        rw [if_neg (by decide), show (20 : Int32).toNatClampNeg = 20 from rfl, d3, if_pos (show Int32.ofNat 60 = 60 from rfl)]
        rfl).trans (s14_v d d3 236 0 20000 (by omega) (by omega))
    · rw [gI_a ha, cw_o (Or.inr (by decide)) ha]
    · rw [gI_n (by omega), cw_I (Or.inr (by decide)), if_neg (by omega)]
    · rw [gI_n (by omega), cw_I (Or.inr (by decide)), if_pos (by omega), em]
      congr 1
      omega
  · have em : min 60 e' = e' := by omega
    rw [em] at d3
    refine ⟨ρ, e', ?_, kp_.rf, fun _ _ => rfl, fun _ _ => rfl, d3, by omega, fun i a1 a2 w hw => ?_⟩
    · unfold f_X12_putLog
      simp only [d, Option.bind_some]
      rw [if_neg (by decide), show (20 : Int32).toNatClampNeg = 20 from rfl, d3, if_neg (by rw [l_60, o_eq (by omega) (by omega)]; omega)]
    · rw [em]
      congr 1
      omega
theorem lo_A {σ τ : Sg} {s : Nat → Int32} {mm c' : Nat} {b : Bool} (c : CF (sg_R σ) (sg_L σ)) (k : kp_ σ τ) (LK : f_X11_lookOnce_L4 20000 0 20000 (rw_ s 0) (Int32.ofNat 0) σ = f_X11_lookOnce_L4 20000 0 (mm + 1) (rw_ s 4) (Int32.ofNat 4) σ) (ar : f_X7_addRow 17 (rw_ s 4) σ = some τ) (AL : f_X11_allShowOne 20000 0 τ = some (bi_ b)) (c4 : sg_I τ 17 4 = Int32.ofNat c') : f_X11_lookOnce 20000 0 σ = if bi_ b = 0 then some τ else if Int32.ofNat c' < 999 then some (put_I τ 17 4 (Int32.ofNat (c' + 1))) else some τ := by
  have R0 : sg_R σ 0 13 = some 17 := by simp only [c]
  have R1 : sg_R τ 0 13 = some 17 := by rw [k.2.1]; exact R0
  have r0 : rw_ s 0 = 0 := rfl
  rw [r0] at LK
  have LK' : f_X11_lookOnce_L4 20000 0 20000 0 0 σ = f_X11_lookOnce_L4 20000 0 (mm + 1) (rw_ s 4) (Int32.ofNat 4) σ := LK
  unfold f_X11_lookOnce
  rw [LK', f_X11_lookOnce_L4, if_neg (by decide), f_of R0, f_of ar, f_of AL, f_of R1, c4, o_s]
theorem lo_B {ρ ρa ρb : Sg} {f' m0 n c' : Nat} {b0 b : Bool} (d : RF (sg_R ρb) (sg_L ρb)) (e : sg_I ρa 344 20 = Int32.ofNat n) (hn : n ≤ 4) (hb0 : b0 = decide (1 < n)) (r1 : f_X12_putLog 20000 344 ρ = f_X12_putLog_B58 20000 344 ρa) (P : f_X12_putLog_L74 20000 344 20000 (bi_ b0) (Int32.ofNat 0) ρa = f_X12_putLog_L74 20000 344 (f' + 1) (bi_ b) (Int32.ofNat 4) ρb) (f20 : sg_I ρb 359 20 = Int32.ofNat m0) (f18 : sg_I ρb 359 18 = Int32.ofNat c') (hc : c' ≤ 999) : f_X12_putLog 20000 344 ρ = some (put_I (put_I ρb 359 20 (Int32.ofNat (m0 + 1))) 359 18 (Int32.ofNat (min 999 (c' + if b = true then 1 else 0)))) := by
  have P' : f_X12_putLog_L74 20000 344 20000 (bi_ b0) 0 ρa = f_X12_putLog_L74 20000 344 (f' + 1) (bi_ b) (Int32.ofNat 4) ρb := P
  have q : f_X12_putLog_B58 20000 344 ρa = f_X12_putLog_L74 20000 344 20000 (bi_ b0) 0 ρa := by
    unfold f_X12_putLog_B58 f_X12_putLog_B71
    rw [e]
    by_cases q1 : 1 < n
    · rw [if_pos (by rw [l_1, o_lt (by omega) (by omega)]; exact q1), hb0, decide_eq_true q1, show bi_ true = 1 from rfl]
    · rw [if_neg (by rw [l_1, o_lt (by omega) (by omega)]; exact q1), hb0, decide_eq_false q1, bi_f]
  have t20 : (20 : Int32).toNatClampNeg = 20 := rfl
  have t18 : (18 : Int32).toNatClampNeg = 18 := rfl
  have R24 : sg_R ρb 344 24 = some 359 := by simp only [d]
  have L59 : sg_L ρb 359 = 261 := by simp only [d]
  have R24' : sg_R (put_I ρb 359 20 (Int32.ofNat (m0 + 1))) 344 24 = some 359 := R24
  have L59' : sg_L (put_I ρb 359 20 (Int32.ofNat (m0 + 1))) 359 = 261 := L59
  have g18 : sg_I (put_I ρb 359 20 (Int32.ofNat (m0 + 1))) 359 18 = Int32.ofNat c' := by rw [gI_n (by omega)]; exact f18
  have n20 : ¬ ((20 : Int32) < 0 ∨ 261 ≤ 20) := by decide
  have n18 : ¬ ((18 : Int32) < 0 ∨ 261 ≤ 18) := by decide
  have F : ∀ (x : Int32) (y : Nat), x = Int32.ofNat y → y ≤ 1 → f_X12_putLog_B199 20000 344 x (Int32.ofNat c') 999 18 (some 359) (put_I ρb 359 20 (Int32.ofNat (m0 + 1))) = some (put_I (put_I ρb 359 20 (Int32.ofNat (m0 + 1))) 359 18 (Int32.ofNat (min 999 (c' + y)))) := by
    intro x y hx hy
    unfold f_X12_putLog_B199
    rw [hx, o_add, l_999, f_of (min_v (by omega) (by omega)), f_of (rfl : some 359 = some 359), L59', t18, if_neg n18]
  rw [r1, q, P', f_X12_putLog_L74, if_neg (by decide), f_of R24, L59, t20, if_neg n20, if_neg n20, f20, o_s, f_of R24', L59', t18, if_neg n18, g18, R24']
  cases b with
  | false =>
    rw [if_pos bi_f, F 0 0 rfl (by omega)]
    rfl
  | true =>
    rw [if_neg bi_t, F 1 1 rfl (by omega)]
    rfl
theorem lo_ok {σ ρ : Sg} (r : Rel σ ρ) {n : Nat} (hn : n ≤ 4) (h0 : 0 < n) (e : sg_I ρ 344 20 = Int32.ofNat n) {ee : Nat} (f1 : sg_I σ 17 7 = Int32.ofNat ee) (he : ee + 1 ≤ (sg_I σ 17 5).toInt.toNat) : ∃ τ υ, f_X11_lookOnce 20000 0 σ = some τ ∧ f_X12_putLog 20000 344 ρ = some υ ∧ Rel τ υ ∧ FC σ τ ∧ FR ρ υ ∧ kp_ σ τ ∧ kp_ ρ υ ∧ sg_I υ 344 20 = Int32.ofNat n ∧ sg_I υ 359 19 = sg_I ρ 359 19 := by
  have c := r.cf
  have d := r.rf
  obtain ⟨n', h1, h2, h3, -⟩ := r.nw
  have en : n' = n := (o_eq (by omega) (by omega)).mp (h2.symm.trans e)
  subst en
  obtain ⟨f, o, c', t, g1, g2, g3, g4, g5, i1, i2, i3, i4, i5, i6, i7, i8⟩ := r.gl e hn h0
  obtain ⟨e', d1, d2, d3, d4⟩ := r.lg
  simp only [Nat.zero_add] at d3 d4
  have et := o_ti (show t < 2147483648 by omega)
  rw [i8, et] at he d2
  have ee2 : e' = ee := (o_eq (by omega) (by omega)).mp (d1.symm.trans f1)
  subst ee2
  have ref := lo_ref d d3
  obtain ⟨ρa, m0, r1, ka, ra1, ra2, ra3, ra4, ra5⟩ := ref
  have hm0 : m0 < 60 := by omega
  obtain ⟨f', P⟩ := pl_74 r hm0 hn h0 e ka ra1 (fun j hj => ra2 j (by omega)) ra3 4 0 20000 (by omega) (by omega)
  have kn := nr_k (ρ := ρa) (m := m0) (s := sh_ ρ n') 4
  have dk : RF (sg_R (nr_ ρa m0 (sh_ ρ n') 4)) (sg_L (nr_ ρa m0 (sh_ ρ n') 4)) := by rw [kn.2.1, kn.2.2.1, ka.2.1, ka.2.2.1]; exact d
  have f20 : sg_I (nr_ ρa m0 (sh_ ρ n') 4) 359 20 = Int32.ofNat m0 := by rw [nr_I, if_neg (by omega)]; exact ra3
  have f18 : sg_I (nr_ ρa m0 (sh_ ρ n') 4) 359 18 = Int32.ofNat c' := by rw [nr_I, if_neg (by omega), ra2 18 (by omega)]; exact i3
  have sB := sh_b r hn e
  have kσ : kp_ σ (put_I (put_I σ 19 (e' % 60) (rw_ (sh_ ρ n') 4)) 17 7 (Int32.ofNat (e' + 1))) := kp_.put.tr kp_.put
  have kρ : kp_ ρ (put_I (nr_ ρa m0 (sh_ ρ n') 4) 359 20 (Int32.ofNat (m0 + 1))) := (ka.tr kn).tr kp_.put
  have E1 : ∀ a, a ≠ 17 → a ≠ 19 → sg_I (put_I (put_I σ 19 (e' % 60) (rw_ (sh_ ρ n') 4)) 17 7 (Int32.ofNat (e' + 1))) a = sg_I σ a := fun a a1 a2 => by rw [gI_a a1, gI_a a2]
  have E2 : ∀ j, j ≠ 7 → sg_I (put_I (put_I σ 19 (e' % 60) (rw_ (sh_ ρ n') 4)) 17 7 (Int32.ofNat (e' + 1))) 17 j = sg_I σ 17 j := fun j hj => by rw [gI_n (by omega), gI_n (by omega)]
  have E3 : ∀ a, a ≠ 359 → sg_I (put_I (nr_ ρa m0 (sh_ ρ n') 4) 359 20 (Int32.ofNat (m0 + 1))) a = sg_I ρ a := fun a ha => by rw [gI_a ha, nr_a ha, ra1 a ha]
  have E4 : ∀ j, j < 20 → sg_I (put_I (nr_ ρa m0 (sh_ ρ n') 4) 359 20 (Int32.ofNat (m0 + 1))) 359 j = sg_I ρ 359 j := fun j hj => by rw [gI_n (by omega), nr_I, if_neg (by omega), ra2 j hj]
  have R1 := rl_o (n := n') r kσ kρ (fun a ha => E1 a (by omega) (by omega)) E3 hn e (E2 1 (by omega)) (f := f) (o := o) (c := c') (t := t) ⟨g1, g2, g3, g4, g5⟩ ⟨by rw [E4 16 (by omega)]; exact i1, by rw [E4 17 (by omega)]; exact i2, by rw [E4 18 (by omega)]; exact i3, by rw [E4 19 (by omega)]; exact i4, by rw [E2 2 (by omega)]; exact i5, by rw [E2 3 (by omega)]; exact i6, by rw [E2 4 (by omega)]; exact i7, by rw [E2 5 (by omega)]; exact i8⟩ (fun w hw => wq_q (E1 _ (by omega) (by omega)) (fun k hk => E4 _ (by omega)) (r.wq e hn hw)) (fun w _ _ => by rw [E1 _ (by omega) (by omega)]) (by
    refine ⟨e' + 1, gI_e, ?_, ?_, fun i hi w hw => ?_⟩
    · rw [E2 5 (by omega), i8, et]; omega
    · rw [Nat.zero_add, gI_e, ra4]
    · rw [Nat.zero_add]
      show lg_w (sg_I _ 19 _) w = _
      by_cases hi0 : i = 0
      · subst hi0
        rw [gI_n (by omega), show e' + 1 - 1 - 0 = e' by omega, gI_e, lgw_v sB hw, gI_n (by omega), nr_I, if_pos (by omega)]
        congr 1
        omega
      · rw [gI_n (by omega), show e' + 1 - 1 - i = e' - 1 - (i - 1) by omega, gI_n (by omega), gI_n (by omega), nr_I, if_neg (by omega), show min 60 (e' + 1) - 1 - i = m0 - i by omega, ra5 i (by omega) (by omega) w hw]
        exact d4 (i - 1) (by omega) w hw)
  have es0 : ∀ X : Sg, (∀ a, a ≠ 359 → sg_I X a = sg_I ρ a) → (∀ j, j < 20 → sg_I X 359 j = sg_I ρ 359 j) → ∀ w, sh_ X n' w = sh_ ρ n' w := by
    intro X x1 x2 w
    unfold sh_
    by_cases hw : w < n'
    · rw [if_pos hw, if_pos hw, x2 _ (by omega), x2 _ (by omega)]
      unfold hP hS
      rw [x1 344 (by decide), x1 357 (by decide)]
    · rw [if_neg hw, if_neg hw]
  have es := es0 _ E3 E4
  have n2' : sg_I (put_I (nr_ ρa m0 (sh_ ρ n') 4) 359 20 (Int32.ofNat (m0 + 1))) 344 20 = Int32.ofNat n' := by rw [E3 344 (by decide)]; exact e
  have AL := al_v (s := sh_ ρ n') R1.1.cf R1.1.w18 h0 hn (by rw [E2 1 (by omega)]; exact h3) (fun w hw => by rw [sh_c R1.1 hn n2' hw, es])
  rw [ca_ra h0 hn] at AL
  obtain ⟨mm, LK⟩ := lk_v (s := sh_ ρ n') c r.w18 hn h3 (fun w hw => sh_c r hn e hw) (fun w hw => by unfold sh_; rw [if_neg (by omega)]) 4 0 20000 (by omega) (by omega)
  have ar : f_X7_addRow 17 (rw_ (sh_ ρ n') 4) σ = some (put_I (put_I σ 19 (e' % 60) (rw_ (sh_ ρ n') 4)) 17 7 (Int32.ofNat (e' + 1))) := by
    unfold f_X7_addRow
    rw [f1, l_60, rd_o (by omega) (by omega), o_ti (by omega), em_n]
    simp only [Option.bind_some, c]
    rw [if_neg (o_in (by omega) (by omega)), o_tn (by omega), gI_n (by omega), f1, o_s]
  have A := lo_A c kσ LK ar AL (c' := c') (by rw [E2 4 (by omega)]; exact i7)
  have B := lo_B dk (by rw [ra1 344 (by decide)]; exact e) hn (b0 := ra_ n' (sh_ ρ n') 0) (b := ra_ n' (sh_ ρ n') 4) rfl r1 P f20 f18 g4
  have kk : kp_ ρ (put_I (put_I (nr_ ρa m0 (sh_ ρ n') 4) 359 20 (Int32.ofNat (m0 + 1))) 359 18 (Int32.ofNat (min 999 (c' + if ra_ n' (sh_ ρ n') 4 = true then 1 else 0)))) := kρ.tr kp_.put
  have hg : sg_I (put_I (nr_ ρa m0 (sh_ ρ n') 4) 359 20 (Int32.ofNat (m0 + 1))) 359 18 = Int32.ofNat c' := by rw [gI_n (by omega)]; exact f18
  have same : min 999 (c' + if ra_ n' (sh_ ρ n') 4 = true then 1 else 0) = c' → ∃ τ υ, f_X11_lookOnce 20000 0 σ = some τ ∧ f_X12_putLog 20000 344 ρ = some υ ∧ Rel τ υ ∧ FC σ τ ∧ FR ρ υ ∧ kp_ σ τ ∧ kp_ ρ υ ∧ sg_I υ 344 20 = Int32.ofNat n' ∧ sg_I υ 359 19 = sg_I ρ 359 19 := by
    intro hc
    rw [hc, pu_s hg] at B
    refine ⟨_, _, ?_, B, R1.1, R1.2.1, R1.2.2, kσ, kρ, n2', E4 19 (by omega)⟩
    rw [A]
    cases hb : ra_ n' (sh_ ρ n') 4 with
    | false => rw [if_pos bi_f]
    | true =>
      rw [hb, if_pos rfl] at hc
      rw [if_neg (by decide), if_neg (by rw [l_999, o_lt (by omega) (by omega)]; omega)]
  by_cases hc : min 999 (c' + if ra_ n' (sh_ ρ n') 4 = true then 1 else 0) = c'
  · exact same hc
  · cases hb : ra_ n' (sh_ ρ n') 4 with
    | false =>
      exfalso
      apply hc
      rw [hb, if_neg (by decide)]
      omega
    | true =>
      rw [hb, if_pos rfl] at hc
      rw [hb, if_pos rfl, show min 999 (c' + 1) = c' + 1 by omega] at B
      have R2 := rl_c (n := n') (c' := c' + 1) R1.1 hn n2' (f := f) (o := o) (c := c') (t := t) (by omega) ⟨by rw [E4 16 (by omega)]; exact i1, by rw [E4 17 (by omega)]; exact i2, hg, by rw [E4 19 (by omega)]; exact i4, by rw [E2 2 (by omega)]; exact i5, by rw [E2 3 (by omega)]; exact i6, by rw [E2 4 (by omega)]; exact i7, by rw [E2 5 (by omega)]; exact i8⟩
      refine ⟨_, _, ?_, B, R2.1, R1.2.1.tr R2.2.1, R1.2.2.tr R2.2.2, kσ.tr kp_.put, kρ.tr kp_.put, by rw [gI_a (by decide)]; exact n2', by rw [gI_n (by omega)]; exact E4 19 (by omega)⟩
      rw [A, hb, if_neg (by decide), if_pos (by rw [l_999, o_lt (by omega) (by omega)]; omega)]
theorem bt_ok {σ ρ : Sg} (r : Rel σ ρ) {n t : Nat} (hn : n ≤ 4) (h0 : 0 < n) (e : sg_I ρ 344 20 = Int32.ofNat n) (i4 : sg_I ρ 359 19 = Int32.ofNat t) (ht : t < 9999) : ∃ τ υ, f_X11_tickOnce_B59 20000 0 σ = some τ ∧ f_X12_passTick_B65 20000 344 ρ = some υ ∧ Rel τ υ ∧ FC σ τ ∧ FR ρ υ ∧ sg_J τ = sg_J σ ∧ sg_J υ = sg_J ρ ∧ sg_I υ 344 20 = Int32.ofNat n ∧ sg_I υ 359 19 = Int32.ofNat (t + 1) := by
  have c := r.cf
  have d := r.rf
  obtain ⟨f, o, c', t', g1, g2, g3, g4, g5, i1, i2, i3, i4', i5, i6, i7, i8⟩ := r.gl e hn h0
  have et : t' = t := (o_eq (by omega) (by omega)).mp (i4'.symm.trans i4)
  subst et
  have R := rl_t (n := n) (t' := t' + 1) r hn e (f := f) (o := o) (c := c') (t := t') (by omega) (by omega) ⟨i1, i2, i3, i4, i5, i6, i7, i8⟩
  obtain ⟨ee, d1, d2, -⟩ := r.lg
  rw [i8, o_ti (by omega)] at d2
  have n2' : sg_I (put_I ρ 359 19 (Int32.ofNat (t' + 1))) 344 20 = Int32.ofNat n := by rw [gI_a (by decide)]; exact e
  have rd : f_X11_round (Int32.ofNat (t' + 1)) (Int32.ofNat f) = some (Int32.ofNat ((t' + 1) % f)) := by rw [rd_o (by omega) (by omega), o_ti (by omega), em_n]
  have rm := rm_o (a := t' + 1) (b := f) (by omega) (by omega)
  have nf : ¬ Int32.ofNat f = 0 := by rw [l_0, o_eq (by omega) (by omega)]; omega
  have hmod := Nat.mod_lt (t' + 1) (show 0 < f by omega)
  have A : f_X11_tickOnce_B59 20000 0 σ = if Int32.ofNat ((t' + 1) % f) = 0 then f_X11_lookOnce 20000 0 (put_I σ 17 5 (Int32.ofNat (t' + 1))) else some (put_I σ 17 5 (Int32.ofNat (t' + 1))) := by
    unfold f_X11_tickOnce_B59
    simp only [Option.bind_some, ↓reduceIte, gI_I, gI_R, gI_J, gR_I, gR_R, gR_J, gL_I, gL_R, gL_J, gN_I, gN_R, gN_J, gJ_I, gJ_R, Int32.reduceLT, e_1_0, Int32.reduceToNatClampNeg, Int32.reduceToInt, Int.reduceLE, Int.reduceLT, Int.reduceNeg, Int.reduceEq,  Nat.reduceLT, Nat.reduceLeDiff, Nat.reduceEqDiff, Nat.reduceAdd, Nat.reduceMul, false_or, or_false, true_and, and_true, false_and, and_false, not_false_eq_true, not_true_eq_false, or_self, and_self, true_or, or_true, c, i8, o_s, i5, rd]
    by_cases q : Int32.ofNat ((t' + 1) % f) = 0
    · rw [if_pos q, if_pos q]
      cases f_X11_lookOnce 20000 0 (put_I σ 17 5 (Int32.ofNat (t' + 1))) <;> rfl
    · rw [if_neg q, if_neg q]
  have B : f_X12_passTick_B65 20000 344 ρ = if Int32.ofNat ((t' + 1) % f) = 0 then f_X12_putLog 20000 344 (put_I ρ 359 19 (Int32.ofNat (t' + 1))) else some (put_I ρ 359 19 (Int32.ofNat (t' + 1))) := by
    unfold f_X12_passTick_B65
    simp only [Option.bind_some, ↓reduceIte, gI_I, gI_R, gI_J, gR_I, gR_R, gR_J, gL_I, gL_R, gL_J, gN_I, gN_R, gN_J, gJ_I, gJ_R, Int32.reduceLT, e_1_0, Int32.reduceToNatClampNeg, Int32.reduceToInt, Int.reduceLE, Int.reduceLT, Int.reduceNeg, Int.reduceEq,  Nat.reduceLT, Nat.reduceLeDiff, Nat.reduceEqDiff, Nat.reduceAdd, Nat.reduceMul, false_or, or_false, true_and, and_true, false_and, and_false, not_false_eq_true, not_true_eq_false, or_self, and_self, true_or, or_true, d, i4, o_s, i1, nf, rm]
    by_cases q : Int32.ofNat ((t' + 1) % f) = 0
    · rw [if_pos q, if_pos q]
      cases f_X12_putLog 20000 344 (put_I ρ 359 19 (Int32.ofNat (t' + 1))) <;> rfl
    · rw [if_neg q, if_neg q]
  by_cases q : Int32.ofNat ((t' + 1) % f) = 0
  · rw [if_pos q] at A B
    obtain ⟨τ, υ, a1, a2, a3, a4, a5, a6, a7, a8, a9⟩ := lo_ok R.1 hn h0 n2' (ee := ee) (by rw [gI_n (by omega)]; exact d1) (by rw [gI_e, o_ti (by omega)]; omega)
    exact ⟨τ, υ, A.trans a1, B.trans a2, a3, R.2.1.tr a4, R.2.2.tr a5, a6.2.2.2, a7.2.2.2, a8, by rw [a9, gI_e]⟩
  · rw [if_neg q] at A B
    exact ⟨_, _, A, B, R.1, R.2.1, R.2.2, rfl, rfl, n2', gI_e⟩
theorem tc_v {σ ρ : Sg} (r : Rel σ ρ) {n t : Nat} (hn : n ≤ 4) (h0 : 0 < n) (e : sg_I ρ 344 20 = Int32.ofNat n) (i4 : sg_I ρ 359 19 = Int32.ofNat t) (ht : t < 9999) : ∃ τ υ, f_X11_tickOnce 20000 0 σ = some τ ∧ f_X12_passTick 20000 344 ρ = some υ ∧ Rel τ υ ∧ FC σ τ ∧ FR ρ υ ∧ sg_J τ = sg_J σ ∧ sg_J υ = sg_J ρ ∧ sg_I υ 344 20 = Int32.ofNat n ∧ sg_I υ 359 19 = Int32.ofNat (t + 1) := by
  have c := r.cf
  have d := r.rf
  obtain ⟨f, o, c', t', g1, g2, g3, g4, g5, i1, i2, i3, i4', i5, i6, i7, i8⟩ := r.gl e hn h0
  have et : t' = t := (o_eq (by omega) (by omega)).mp (i4'.symm.trans i4)
  subst et
  by_cases ho : 0 < o
  · have R := rl_oil (n := n) (o' := o - 1) r hn e (f := f) (o := o) (c := c') (t := t') (by omega) ⟨i1, i2, i3, i4, i5, i6, i7, i8⟩
    obtain ⟨τ1, υ1, a1, a2, a3, a4, a5, a6, a7, a8, a9⟩ := tl_v hn n 0 20000 20000 _ _ (by omega) (by omega) (by omega) R.1 (by rw [gI_a (by decide)]; exact e)
    obtain ⟨τ, υ, b1, b2, b3, b4, b5, b6, b7, b8, b9⟩ := bt_ok a3 hn h0 a8 (t := t') (by rw [a9 19 (by omega), gI_n (by omega)]; exact i4) ht
    have sb : Int32.ofNat o - 1 = Int32.ofNat (o - 1) := by rw [l_1, o_sub (by omega)]
    have o0 : (0 : Int32) < Int32.ofNat o := by rw [l_0, o_lt (by omega) (by omega)]; exact ho
    refine ⟨τ, υ, ?_, ?_, b3, (R.2.1.tr a4).tr b4, (R.2.2.tr a5).tr b5, b6.trans a6, b7.trans a7, b8, b9⟩
    · unfold f_X11_tickOnce
      simp only [Option.bind_some, ↓reduceIte, gI_I, gI_R, gI_J, gR_I, gR_R, gR_J, gL_I, gL_R, gL_J, gN_I, gN_R, gN_J, gJ_I, gJ_R, Int32.reduceLT, e_1_0, Int32.reduceToNatClampNeg, Int32.reduceToInt, Int.reduceLE, Int.reduceLT, Int.reduceNeg, Int.reduceEq,  Nat.reduceLT, Nat.reduceLeDiff, Nat.reduceEqDiff, Nat.reduceAdd, Nat.reduceMul, false_or, or_false, true_and, and_true, false_and, and_false, not_false_eq_true, not_true_eq_false, or_self, and_self, true_or, or_true, c, i6, o0, sb]
      exact a1.trans b1
    · unfold f_X12_passTick
      simp only [Option.bind_some, ↓reduceIte, gI_I, gI_R, gI_J, gR_I, gR_R, gR_J, gL_I, gL_R, gL_J, gN_I, gN_R, gN_J, gJ_I, gJ_R, Int32.reduceLT, e_1_0, Int32.reduceToNatClampNeg, Int32.reduceToInt, Int.reduceLE, Int.reduceLT, Int.reduceNeg, Int.reduceEq,  Nat.reduceLT, Nat.reduceLeDiff, Nat.reduceEqDiff, Nat.reduceAdd, Nat.reduceMul, false_or, or_false, true_and, and_true, false_and, and_false, not_false_eq_true, not_true_eq_false, or_self, and_self, true_or, or_true, d, i2, o0, sb]
      exact a2.trans b2
  · obtain ⟨τ, υ, b1, b2, b3, b4, b5, b6, b7, b8, b9⟩ := bt_ok r hn h0 e i4 ht
    have o0 : ¬ (0 : Int32) < Int32.ofNat o := by rw [l_0, o_lt (by omega) (by omega)]; exact ho
    refine ⟨τ, υ, ?_, ?_, b3, b4, b5, b6, b7, b8, b9⟩
    · unfold f_X11_tickOnce
      simp only [Option.bind_some, ↓reduceIte, gI_I, gI_R, gI_J, gR_I, gR_R, gR_J, gL_I, gL_R, gL_J, gN_I, gN_R, gN_J, gJ_I, gJ_R, Int32.reduceLT, e_1_0, Int32.reduceToNatClampNeg, Int32.reduceToInt, Int.reduceLE, Int.reduceLT, Int.reduceNeg, Int.reduceEq,  Nat.reduceLT, Nat.reduceLeDiff, Nat.reduceEqDiff, Nat.reduceAdd, Nat.reduceMul, false_or, or_false, true_and, and_true, false_and, and_false, not_false_eq_true, not_true_eq_false, or_self, and_self, true_or, or_true, c, i6, o0]
      exact b1
    · unfold f_X12_passTick
      simp only [Option.bind_some, ↓reduceIte, gI_I, gI_R, gI_J, gR_I, gR_R, gR_J, gL_I, gL_R, gL_J, gN_I, gN_R, gN_J, gJ_I, gJ_R, Int32.reduceLT, e_1_0, Int32.reduceToNatClampNeg, Int32.reduceToInt, Int.reduceLE, Int.reduceLT, Int.reduceNeg, Int.reduceEq,  Nat.reduceLT, Nat.reduceLeDiff, Nat.reduceEqDiff, Nat.reduceAdd, Nat.reduceMul, false_or, or_false, true_and, and_true, false_and, and_false, not_false_eq_true, not_true_eq_false, or_self, and_self, true_or, or_true, d, i2, o0]
      exact b2
theorem tz_v {n y : Nat} (hn : n ≤ 4) (h0 : 0 < n) (hy : y ≤ 60) : ∀ (j k m m' t : Nat) (σ ρ : Sg), k + j = y → j < m → j < m' → Rel σ ρ → sg_I ρ 344 20 = Int32.ofNat n → sg_I ρ 359 19 = Int32.ofNat t → t + j ≤ 9999 → ∃ p q, f_X11_ticks_L53 20000 0 m (Int32.ofNat y) (Int32.ofNat k) σ = some p ∧ f_X12_ticks_L49 20000 344 m' (Int32.ofNat y) (Int32.ofNat k) ρ = some q ∧ p.1 = q.1 ∧ Rel p.2 q.2 ∧ FC σ p.2 ∧ FR ρ q.2 := by
  intro j
  induction j with
  | zero =>
    intro k m m' t σ ρ hk hm hm' r e i4 ht
    obtain ⟨m, rfl⟩ : ∃ x, m = x + 1 := ⟨m - 1, by omega⟩
    obtain ⟨m', rfl⟩ : ∃ x, m' = x + 1 := ⟨m' - 1, by omega⟩
    have c := r.cf
    have d := r.rf
    obtain ⟨f, o, c', t', g1, g2, g3, g4, g5, i1, i2, i3, i4', i5, i6, i7, i8⟩ := r.gl e hn h0
    have nl : ¬ Int32.ofNat k < Int32.ofNat y := by rw [o_lt (by omega) (by omega)]; omega
    refine ⟨(sg_I σ 17 5, σ), (sg_I ρ 359 19, ρ), ?_, ?_, i8.trans i4'.symm, r, FC.rf, FR.rf⟩
    · rw [f_X11_ticks_L53, if_neg nl]
      simp only [c, Option.bind_some]
    · rw [f_X12_ticks_L49, if_neg nl]
      simp only [Option.bind_some, ↓reduceIte, gI_I, gI_R, gI_J, gR_I, gR_R, gR_J, gL_I, gL_R, gL_J, gN_I, gN_R, gN_J, gJ_I, gJ_R, Int32.reduceLT, e_1_0, Int32.reduceToNatClampNeg, Int32.reduceToInt, Int.reduceLE, Int.reduceLT, Int.reduceNeg, Int.reduceEq,  Nat.reduceLT, Nat.reduceLeDiff, Nat.reduceEqDiff, Nat.reduceAdd, Nat.reduceMul, false_or, or_false, true_and, and_true, false_and, and_false, not_false_eq_true, not_true_eq_false, or_self, and_self, true_or, or_true, d]
  | succ j ih =>
    intro k m m' t σ ρ hk hm hm' r e i4 ht
    obtain ⟨m, rfl⟩ : ∃ x, m = x + 1 := ⟨m - 1, by omega⟩
    obtain ⟨m', rfl⟩ : ∃ x, m' = x + 1 := ⟨m' - 1, by omega⟩
    have c := r.cf
    obtain ⟨τ1, υ1, k1, k2, k3, k4, k5, k6, k7, k8, k9, k10, k11⟩ := ke_v r
    obtain ⟨τ2, υ2, a1, a2, a3, a4, a5, a6, a7, a8, a9⟩ := tc_v k3 hn h0 (by rw [k10 20 (by omega)]; exact e) (by rw [k9 359 (by omega) (by omega)]; exact i4) (by omega)
    obtain ⟨p, q, b1, b2, b3, b4, b5, b6⟩ := ih (k + 1) m m' (t + 1) τ2 υ2 (by omega) (by omega) (by omega) a3 a8 a9 (by omega)
    have pl : Int32.ofNat k < Int32.ofNat y := by rw [o_lt (by omega) (by omega)]; omega
    refine ⟨p, q, ?_, ?_, b3, b4, (k4.tr a4).tr b5, (k5.tr a5).tr b6⟩
    · rw [f_X11_ticks_L53, if_pos pl]
      simp only [c, Option.bind_some, k1, a1, o_s, b1]
    · rw [f_X12_ticks_L49, if_pos pl]
      simp only [Option.bind_some, k2, a2, o_s, b2]
theorem p2_ticks : so_ticks p2_I 20000 := by
  intro x
  refine Sm.so ?_
  intro σ ρ r
  obtain ⟨n, h1, h2, h3, h4, h5⟩ := r.nw
  have c := r.cf
  have d := r.rf
  have il := il_v c h1 h3
  have X := rxs r
  have Y := rys r
  have Z := rz_v
  have e1 : (1 : Int32).toInt = 1 := rfl
  have e60 : (60 : Int32).toInt = 60 := rfl
  by_cases g : 0 < n
  · rw [if_pos g] at il
    have n0 : ¬ sg_I ρ 344 20 = 0 := by rw [h2, l_0, o_eq (by omega) (by omega)]; omega
    by_cases gx : 1 ≤ x.toInt ∧ x.toInt ≤ 60
    · have x1 : ¬ x < 1 := by rw [i_lt]; omega
      have x2 : ¬ 60 < x := by rw [i_lt]; omega
      obtain ⟨f, o, c', t, f1, f2, o1, c1, t1, i1, i2, i3, i4, i5, i6, i7, i8⟩ := r.gl h2 h1 g
      obtain ⟨y, y1, y2, rfl⟩ := x_1 (a := 1) (b := 60) gx
      have sm := o_add t y
      by_cases gc : 9999 < t + y
      · have gs : (9999 : Int32) < Int32.ofNat (t + y) := by rw [l_9999, o_lt (by omega) (by omega)]; exact gc
        exact rfu r (k := 4) (by omega) (by unfold f_X11_ticks; simp only [Option.bind_some, ↓reduceIte, gI_I, gI_R, gI_J, gR_I, gR_R, gR_J, gL_I, gL_R, gL_J, gN_I, gN_R, gN_J, gJ_I, gJ_R, Int32.reduceLT, e_1_0, Int32.reduceToNatClampNeg, Int32.reduceToInt, Int.reduceLE, Int.reduceLT, Int.reduceNeg, Int.reduceEq,  Nat.reduceLT, Nat.reduceLeDiff, Nat.reduceEqDiff, Nat.reduceAdd, Nat.reduceMul, false_or, or_false, true_and, and_true, false_and, and_false, not_false_eq_true, not_true_eq_false, or_self, and_self, true_or, or_true, il, x1, x2, c, i8, sm, gs, X]) (by unfold f_X12_ticks f_X12_areTicks f_X12_ticks_B39; simp only [Option.bind_some, ↓reduceIte, gI_I, gI_R, gI_J, gR_I, gR_R, gR_J, gL_I, gL_R, gL_J, gN_I, gN_R, gN_J, gJ_I, gJ_R, Int32.reduceLT, e_1_0, Int32.reduceToNatClampNeg, Int32.reduceToInt, Int.reduceLE, Int.reduceLT, Int.reduceNeg, Int.reduceEq,  Nat.reduceLT, Nat.reduceLeDiff, Nat.reduceEqDiff, Nat.reduceAdd, Nat.reduceMul, false_or, or_false, true_and, and_true, false_and, and_false, not_false_eq_true, not_true_eq_false, or_self, and_self, true_or, or_true, n0, in_v, gx, d, i4, sm, gs, Y])
      · have gs : ¬ (9999 : Int32) < Int32.ofNat (t + y) := by rw [l_9999, o_lt (by omega) (by omega)]; exact gc
        obtain ⟨p, q, a1, a2, a3, a4, a5, a6⟩ := tz_v (n := n) (y := y) h1 g y2 y 0 20000 20000 t σ ρ (by omega) (by omega) (by omega) r h2 i4 (by omega)
        have a1' : f_X11_ticks_L53 20000 0 20000 (Int32.ofNat y) 0 σ = some p := a1
        have a2' : f_X12_ticks_L49 20000 344 20000 (Int32.ofNat y) 0 ρ = some q := a2
        exact ⟨p, q, by unfold f_X11_ticks; simp only [Option.bind_some, ↓reduceIte, gI_I, gI_R, gI_J, gR_I, gR_R, gR_J, gL_I, gL_R, gL_J, gN_I, gN_R, gN_J, gJ_I, gJ_R, Int32.reduceLT, e_1_0, Int32.reduceToNatClampNeg, Int32.reduceToInt, Int.reduceLE, Int.reduceLT, Int.reduceNeg, Int.reduceEq,  Nat.reduceLT, Nat.reduceLeDiff, Nat.reduceEqDiff, Nat.reduceAdd, Nat.reduceMul, false_or, or_false, true_and, and_true, false_and, and_false, not_false_eq_true, not_true_eq_false, or_self, and_self, true_or, or_true, il, x1, x2, c, i8, sm, gs, a1'], by unfold f_X12_ticks f_X12_areTicks f_X12_ticks_B39; simp only [Option.bind_some, ↓reduceIte, gI_I, gI_R, gI_J, gR_I, gR_R, gR_J, gL_I, gL_R, gL_J, gN_I, gN_R, gN_J, gJ_I, gJ_R, Int32.reduceLT, e_1_0, Int32.reduceToNatClampNeg, Int32.reduceToInt, Int.reduceLE, Int.reduceLT, Int.reduceNeg, Int.reduceEq,  Nat.reduceLT, Nat.reduceLeDiff, Nat.reduceEqDiff, Nat.reduceAdd, Nat.reduceMul, false_or, or_false, true_and, and_true, false_and, and_false, not_false_eq_true, not_true_eq_false, or_self, and_self, true_or, or_true, n0, in_v, gx, d, i4, sm, gs, Z, a2'], a3, a4, a5, a6⟩
    · refine rfu r (k := 1) (by omega) ?_ ?_
      · unfold f_X11_ticks f_X11_ticks_B24
        by_cases x1 : x < 1
        · simp only [Option.bind_some, ↓reduceIte, gI_I, gI_R, gI_J, gR_I, gR_R, gR_J, gL_I, gL_R, gL_J, gN_I, gN_R, gN_J, gJ_I, gJ_R, Int32.reduceLT, e_1_0, Int32.reduceToNatClampNeg, Int32.reduceToInt, Int.reduceLE, Int.reduceLT, Int.reduceNeg, Int.reduceEq,  Nat.reduceLT, Nat.reduceLeDiff, Nat.reduceEqDiff, Nat.reduceAdd, Nat.reduceMul, false_or, or_false, true_and, and_true, false_and, and_false, not_false_eq_true, not_true_eq_false, or_self, and_self, true_or, or_true, il, x1, X]
        · have x2 : 60 < x := by rw [i_lt] at x1 ⊢; omega
          simp only [Option.bind_some, ↓reduceIte, gI_I, gI_R, gI_J, gR_I, gR_R, gR_J, gL_I, gL_R, gL_J, gN_I, gN_R, gN_J, gJ_I, gJ_R, Int32.reduceLT, e_1_0, Int32.reduceToNatClampNeg, Int32.reduceToInt, Int.reduceLE, Int.reduceLT, Int.reduceNeg, Int.reduceEq,  Nat.reduceLT, Nat.reduceLeDiff, Nat.reduceEqDiff, Nat.reduceAdd, Nat.reduceMul, false_or, or_false, true_and, and_true, false_and, and_false, not_false_eq_true, not_true_eq_false, or_self, and_self, true_or, or_true, il, x1, x2, X]
      · unfold f_X12_ticks f_X12_ticks_B39
        simp only [Option.bind_some, ↓reduceIte, gI_I, gI_R, gI_J, gR_I, gR_R, gR_J, gL_I, gL_R, gL_J, gN_I, gN_R, gN_J, gJ_I, gJ_R, Int32.reduceLT, e_1_0, Int32.reduceToNatClampNeg, Int32.reduceToInt, Int.reduceLE, Int.reduceLT, Int.reduceNeg, Int.reduceEq,  Nat.reduceLT, Nat.reduceLeDiff, Nat.reduceEqDiff, Nat.reduceAdd, Nat.reduceMul, false_or, or_false, true_and, and_true, false_and, and_false, not_false_eq_true, not_true_eq_false, or_self, and_self, true_or, or_true, n0, in_v, gx, Y]
  · rw [if_neg g] at il
    have n0 : sg_I ρ 344 20 = 0 := by rw [h2, l_0, o_eq (by omega) (by omega)]; omega
    exact rfu r (k := 0) (by omega) (by unfold f_X11_ticks; simp only [Option.bind_some, ↓reduceIte, gI_I, gI_R, gI_J, gR_I, gR_R, gR_J, gL_I, gL_R, gL_J, gN_I, gN_R, gN_J, gJ_I, gJ_R, Int32.reduceLT, e_1_0, Int32.reduceToNatClampNeg, Int32.reduceToInt, Int.reduceLE, Int.reduceLT, Int.reduceNeg, Int.reduceEq,  Nat.reduceLT, Nat.reduceLeDiff, Nat.reduceEqDiff, Nat.reduceAdd, Nat.reduceMul, false_or, or_false, true_and, and_true, false_and, and_false, not_false_eq_true, not_true_eq_false, or_self, and_self, true_or, or_true, il, X]) (by unfold f_X12_ticks f_X12_ticks_B39; simp only [Option.bind_some, ↓reduceIte, gI_I, gI_R, gI_J, gR_I, gR_R, gR_J, gL_I, gL_R, gL_J, gN_I, gN_R, gN_J, gJ_I, gJ_R, Int32.reduceLT, e_1_0, Int32.reduceToNatClampNeg, Int32.reduceToInt, Int.reduceLE, Int.reduceLT, Int.reduceNeg, Int.reduceEq,  Nat.reduceLT, Nat.reduceLeDiff, Nat.reduceEqDiff, Nat.reduceAdd, Nat.reduceMul, false_or, or_false, true_and, and_true, false_and, and_false, not_false_eq_true, not_true_eq_false, or_self, and_self, true_or, or_true, n0, Y])
