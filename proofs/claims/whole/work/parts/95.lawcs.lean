/-! ===== the reader of laws: a clause, whole ===== -/
theorem c71b {t i q n : Nat} {x : Nat → Int32} {σ ρ : Sg} {v : Int32} (hx : XT t x) (h : LB t i x σ ρ q n) : ∃ φ, f_X12_clause_B71 20000 344 v ρ = some φ ∧ KE i ρ φ ∧ LB t i x σ φ q n := by
  have h1 : LB t i x σ (put_I ρ 344 3 (sg_I ρ 344 3 + 1)) q n := h.mv (Or.inl rfl)
  unfold f_X12_clause_B71
  rw [if_neg (h1.nm hx)]
  exact ⟨_, rfl, KE.put (by omega), h1⟩
theorem c40b {t i q n : Nat} {x : Nat → Int32} {σ ρ : Sg} {v : Int32} (hx : XT t x) (h : LB t i x σ ρ q n) : ∃ φ, f_X12_clause_B40 20000 344 v ρ = some φ ∧ KE i ρ φ ∧ LB t i x σ φ q n := by
  have h1 : LB t i x σ (put_I ρ 344 3 (sg_I ρ 344 3 + 1)) q n := h.mv (Or.inl rfl)
  obtain ⟨φ, f1, f2, f3⟩ := c71b (v := v) hx h1
  unfold f_X12_clause_B40
  rw [if_neg (h1.nm hx), f1]
  exact ⟨φ, rfl, (KE.put (by omega)).tr f2, f3⟩
/-- a test by itself -/
theorem cb_t {t i p w n0 : Nat} {x : Nat → Int32} {σ ρ : Sg} {C : List Int32} {T : List Tk} (hx : XT t x) (h : LSt t i x σ ρ p 0 C T) (hw : 140 * i ≤ w ∧ w < 700) (h0 : sg_I ρ 350 w = Int32.ofNat n0) (hs : C.length + 2 ≤ p) : AR t i w x σ ρ p C T n0 (f_X3_isClause_B37 20000 6 σ) (f_X12_clause_B123 20000 344 (Int32.ofNat w) ρ) := by
  unfold f_X3_isClause_B37 f_X12_clause_B123 f_X12_clause_B128
  rw [if_neg (show ¬ (1 : Int32) = 0 by decide)]
  obtain ⟨c, υ, φ, s1, s2, s3, s4, s5⟩ := cnd_2 hx h
  rw [f_of s1, f_of s2]
  dsimp only
  rcases s5 with ⟨rfl, V, q, m1, m2, m3⟩ | ⟨rfl, q, n, m1, m2, m3⟩
  · have a := ans_2 hx m1 hw (by rw [s4.e9 (by omega)]; exact h0) (m3 [] (by show 0 + 18 ≤ 62; omega)) (by omega)
    obtain ⟨c, υ2, φ2, a1, a2, a3, a4, a5⟩ := AR.up a s3 s4.kw (show p ≤ q by omega)
    rw [if_neg (show ¬ (1 : Int32) = 0 by decide), f_of a1, a2]
    dsimp only
    rcases a5 with ⟨rfl, a5⟩ | ⟨rfl, a5⟩
    · rw [if_neg (show ¬ (1 : Int32) = 0 by decide)]
      exact ⟨1, υ2, φ2, rfl, rfl, a3, a4, Or.inl ⟨rfl, a5⟩⟩
    · rw [if_pos rfl]
      exact ⟨0, υ2, φ2, rfl, rfl, a3, a4, Or.inr ⟨rfl, a5⟩⟩
  · obtain ⟨φ2, f1, f2, f3⟩ := c184b (v2 := 1) hx m1 hw
    rw [if_pos rfl, f1]
    exact AR.bad s3 (s4.kl.tr f2) f3
/-- what begins with a sum -/
theorem cb_s {t i p w : Nat} {x : Nat → Int32} {σ ρ : Sg} {C : List Int32} {T : List Tk} (hx : XT t x) (h : LSt t i x σ ρ p 0 C T) (hw : 140 * i ≤ w ∧ w < 700) (h0 : sg_I ρ 350 w = Int32.ofNat T.length) (hs : C.length + 2 ≤ p) : AR t i w x σ ρ p C T T.length ((f_X3_isSum 20000 6 0 σ).bind fun p12 =>
  if p12.1 = 0 then some (0, p12.2) else (f_X6_nextSign 20000 6 p12.2).bind fun p14 => (f_X3_isComparison p14.1).bind fun p15 => if p15 = 0 then (f_X3_write 6 (-12) p14.2).bind fun p17 => some (1, p17) else (f_X3_isCompared 20000 6 0 p14.2).bind fun p18 => if p18.1 = 0 then some (0, p18.2) else (f_X3_areMoreUnits 20000 6 0 p18.2).bind fun p20 => if p20.1 = 0 then some (0, p20.2) else (f_X3_areMoreTruths 20000 6 0 p20.2).bind fun p22 => if p22.1 = 0 then some (0, p22.2) else (f_X3_isAnswerIf 20000 6 p22.2).bind fun p24 => if p24.1 = 0 then some (0, p24.2) else some (1, p24.2)) (f_X12_clause_B128 20000 344 (Int32.ofNat w) 0 ρ) := by
  have ht := hx.1
  unfold f_X12_clause_B128
  rw [if_pos rfl]
  obtain ⟨c, υ, φ, s1, s2, s3, s4, s5⟩ := sum_2 hx h
  rw [f_of s1, f_of s2]
  dsimp only
  rcases s5 with ⟨rfl, U, q, m1, m2, m3⟩ | ⟨rfl, q, n, m1, m2, m3⟩
  · obtain ⟨l1, l2, q1, q2, q3, l3⟩ := m1.lk hx
    have h0' : sg_I φ 350 w = Int32.ofNat T.length := by rw [s4.e9 (by omega)]; exact h0
    rw [if_neg (show ¬ (1 : Int32) = 0 by decide), f_of l1, if_pos m1.2.2.2.2.1, f_of l2]
    dsimp only
    refine AR.up (p' := p) ?_ (s3.tr (KZ.put (a := 6) (j := 2) (v := Int32.ofNat (pb_ x t q)) (by omega) (by omega))) (s4.tr (KE.put (a := 344) (j := 3) (v := Int32.ofNat (pb_ x t q)) (by omega))).kw (Nat.le_refl p)
    have h0'' : sg_I (put_I φ 344 3 (Int32.ofNat (pb_ x t q))) 350 w = Int32.ofNat T.length := by rw [gI_n (by omega)]; exact h0'
    generalize pb_ x t q = q5 at l1 l2 q1 q2 q3 l3 h0'' ⊢
    generalize put_I υ 6 2 (Int32.ofNat q5) = υ1 at l3 ⊢
    generalize put_I φ 344 3 (Int32.ofNat q5) = φ1 at l3 h0'' ⊢
    have cl : (C ++ U.map tk_c).length = C.length + U.length := by rw [List.length_append, List.length_map]
    have tl : (T ++ U).length = T.length + U.length := List.length_append
    obtain ⟨g1, g2⟩ := isg_ (sx_ x t q5)
    rw [g1]
    rcases g2 with g2 | ⟨g2, g3⟩
    · obtain ⟨υ4, y1, y2, y3, y4⟩ := l3.wc hx (-12) (by omega)
      have d := l3.1.2.2.2.2.1
      have R10 : sg_R φ1 344 10 = some 350 := by simp only [d]
      have R11 : sg_R φ1 344 11 = some 351 := by simp only [d]
      have L10 : sg_L φ1 350 = 700 := by simp only [d]
      have L11 : sg_L φ1 351 = 700 := by simp only [d]
      have n7 : ¬ (Int32.ofNat w < 0 ∨ 700 ≤ (Int32.ofNat w).toNatClampNeg) := o_in (by omega) (by omega)
      have t7 : (Int32.ofNat w).toNatClampNeg = w := o_tn (by omega)
      have n7' : ¬ (Int32.ofNat w < 0 ∨ 700 ≤ w) := by rw [t7] at n7; exact n7
      have y5 := y3.pu (a := 351) (j := w) (v := Int32.ofNat T.length) (by omega)
      have cb := c251 (w := w) y5.1.2.2.2.2.1 y5.1.2.2.2.2.2.1 y5.1.2.2.2.2.2.2 y5.2.2.2.2.2.2.2.1.1 hw.2
      rw [f_of g2, f_of g2, if_pos rfl, if_pos rfl, f_of y1]
      unfold f_X12_clause_B166 f_X12_clause_B167 f_X12_clause_B184
      rw [if_pos rfl, f_of R10, L10, if_neg n7, t7, f_of R11, L11, if_neg n7', if_pos rfl, h0'', cb]
      refine ⟨1, _, _, rfl, rfl, y2, (KJJ.put (by omega)).tr ((KJJ.put (by omega)).tr (KJJ.put (by omega))), Or.inl ⟨rfl, [], U, q5, kl_c C.length ([], U), ?_, by omega, rfl, ⟨Or.inl rfl, m3 [] (by show 0 + 15 ≤ 62; omega)⟩, ?_, ?_, ?_, ?_, ?_⟩⟩
      · have e1 : C ++ kl_c C.length ([], U) = (C ++ U.map tk_c) ++ [-12] := by
          unfold kl_c
          rw [if_pos rfl, List.append_assoc]
        rw [e1]
        exact (y5.pu (by omega)).pu (by omega)
      · rw [gI_e, gI_n (by omega)]
      · intro j hj
        rw [gI_n (by omega), gI_n (by omega), gI_n (by omega), gI_n (by omega), gI_n (by omega), gI_n (by omega), gI_n (by omega), gI_n (by omega), gI_n (by omega)]
        exact ⟨rfl, rfl, rfl⟩
      · rw [gI_n (by omega), gI_n (by omega), gI_n (by omega)]
        exact h0''
      · rw [gI_n (by omega), gI_n (by omega), gI_e]
        rfl
      · rw [gI_n (by omega), gI_e, tl]
        rfl
    · rw [f_of g2, f_of g2, if_neg (show ¬ (1 : Int32) = 0 by decide), if_neg (show ¬ (1 : Int32) = 0 by decide)]
      unfold f_X12_clause_B167
      rw [if_neg (show ¬ (1 : Int32) = 0 by decide)]
      obtain ⟨c, υ2, φ2, a1, a2, a3, a4, a5⟩ := cmp_2 hx l3
      rw [f_of a1, f_of a2]
      dsimp only
      rcases a5 with ⟨rfl, V2, q6, b1, b2, b3⟩ | ⟨rfl, q6, n6, b1, b2, b3⟩
      · rw [if_neg (show ¬ (1 : Int32) = 0 by decide)]
        obtain ⟨c, υ3, φ3, d1, d2, d3, d4, d5⟩ := mu_2 hx b1
        rw [f_of d1, f_of d2]
        dsimp only
        rcases d5 with ⟨rfl, V3, q7, e1, e2, e3⟩ | ⟨rfl, q7, n7, e1, e2, e3⟩
        · rw [if_neg (show ¬ (1 : Int32) = 0 by decide)]
          obtain ⟨c, υ4, φ4, f1, f2, f3, f4, f5⟩ := mt_2 hx e1
          rw [f_of f1, f_of f2]
          dsimp only
          rcases f5 with ⟨rfl, V4, q8, k1, k2, k3⟩ | ⟨rfl, q8, n8, k1, k2, k3⟩
          · rw [if_neg (show ¬ (1 : Int32) = 0 by decide)]
            have ea : (((C ++ U.map tk_c) ++ V2.map tk_c) ++ V3.map tk_c) ++ V4.map tk_c = C ++ (U ++ (V2 ++ (V3 ++ V4))).map tk_c := by
              rw [List.map_append, List.map_append, List.map_append, List.append_assoc, List.append_assoc, List.append_assoc]
            have eb : ((((T ++ U) ++ V2) ++ V3) ++ V4) = T ++ (U ++ (V2 ++ (V3 ++ V4))) := by
              rw [List.append_assoc, List.append_assoc, List.append_assoc]
            rw [ea, eb] at k1
            have ll : (U ++ (V2 ++ (V3 ++ V4))).length = U.length + (V2.length + (V3.length + V4.length)) := by
              rw [List.length_append, List.length_append, List.length_append]
            have ck : ck_ (U ++ (V2 ++ (V3 ++ V4))) [] = some [true] := by
              rw [ck_app, m3 [] (by show 0 + 15 ≤ 62; omega), Option.bind_some, ck_app, b3 [] (by show 0 + 16 ≤ 62; omega), Option.bind_some, ck_app, e3 [] (by show 0 + 17 ≤ 62; omega), Option.bind_some, k3 [] (by show 0 + 18 ≤ 62; omega)]
            have a := ans_2 hx k1 hw (by rw [f4.e9 (by omega), d4.e9 (by omega), a4.e9 (by omega)]; exact h0'') ck (by omega)
            obtain ⟨c, υ5, φ5, j1, j2, j3, j4, j5⟩ := AR.up a (a3.tr (d3.tr f3)) (a4.tr (d4.tr f4)).kw (show p ≤ q8 by omega)
            rw [f_of j1, j2]
            dsimp only
            rcases j5 with ⟨rfl, j5⟩ | ⟨rfl, j5⟩
            · rw [if_neg (show ¬ (1 : Int32) = 0 by decide)]
              exact ⟨1, υ5, φ5, rfl, rfl, j3, j4, Or.inl ⟨rfl, j5⟩⟩
            · rw [if_pos rfl]
              exact ⟨0, υ5, φ5, rfl, rfl, j3, j4, Or.inr ⟨rfl, j5⟩⟩
          · obtain ⟨φ5, g4, g5, g6⟩ := c184b (v2 := 1) hx k1 hw
            rw [if_pos rfl, g4]
            exact AR.bad (a3.tr (d3.tr f3)) ((a4.tr (d4.tr f4)).kl.tr g5) g6
        · obtain ⟨φ5, g4, g5, g6⟩ := c184b (v2 := 1) hx e1 hw
          rw [if_pos rfl, f_of (mt_b hx e1), g4]
          exact AR.bad (a3.tr d3) ((a4.tr d4).kl.tr g5) g6
      · obtain ⟨φ5, g4, g5, g6⟩ := c184b (v2 := 1) hx b1 hw
        rw [if_pos rfl, f_of (mu_b hx b1), f_of (mt_b hx b1), g4]
        exact AR.bad a3 (a4.kl.tr g5) g6
  · obtain ⟨φ5, g4, g5, g6⟩ := c184b (v2 := 0) hx m1 hw
    rw [if_pos rfl, if_neg (m1.nm hx)]
    unfold f_X12_clause_B166 f_X12_clause_B167
    rw [if_pos rfl, g4]
    exact AR.bad s3 (s4.kl.tr g5) g6
theorem cls_2 {t i p k : Nat} {x : Nat → Int32} {σ ρ : Sg} {C : List Int32} {T : List Tk} (hx : XT t x) (h : LSt t i x σ ρ p 0 C T) (hk : sg_I ρ 349 i = Int32.ofNat k) (hk2 : k < 140) : AR t i (140 * i + k) x σ ρ (p + 2) C T T.length (f_X3_isClause 20000 6 σ) (f_X12_clause 20000 344 ρ) := by
  have ht := hx.1
  have hi := h.1.2.2.2.2.2.2
  have d := h.1.2.2.2.2.1
  have R9 : sg_R ρ 344 9 = some 349 := by simp only [d]
  have L9 : sg_L ρ 349 = 5 := by simp only [d]
  have hw : 140 * i ≤ 140 * i + k ∧ 140 * i + k < 700 := by omega
  have c9 := h.2.2.2.2.2.2.2.2
  have tk := tks_v (c := 121) hx h
  obtain ⟨l1, l2, q1, q2, q3, l3⟩ := h.lk hx
  generalize pb_ x t p = q at tk l1 l2 q1 q2 q3 l3
  unfold f_X3_isClause f_X12_clause
  rw [f_of R9, L9, h.1.2.2.2.2.2.1, if_neg (o_in (by omega) (by omega)), o_tn (by omega), hk, if_pos h.2.2.2.2.1, l_140, o_mul, o_add, f_of l2]
  generalize 140 * i + k = w at hw ⊢
  dsimp only
  by_cases c1 : sx_ x t q = 121
  · have ql := sx_l hx c1 (by decide)
    rw [if_pos c1] at tk
    have h1 := h.mv (q := q + 1) (by omega) (by omega)
    have tk2 := tks_v (c := 58) hx h1
    obtain ⟨m1, m2, r1, r2, r3, m3⟩ := h1.lk hx
    rw [pI_2] at m1 m2 tk2
    generalize pb_ x t (q + 1) = q4 at tk2 m1 m2 r1 r2 r3 m3
    rw [if_pos c1, f_of tk]
    dsimp only
    unfold f_X12_clause_B40
    rw [if_neg (show ¬ (1 : Int32) = 0 by decide), gI_e, o_s q, pI_2, if_pos h1.2.2.2.2.1, f_of m2]
    dsimp only
    rw [pI_2, pI_2] at m3
    by_cases c2 : sx_ x t q4 = 58
    · have ql2 := sx_l hx c2 (by decide)
      rw [if_pos c2] at tk2
      have h2 := h.mv (q := q4 + 1) (by omega) (by omega)
      have d2 := h2.1.2.2.2.2.1
      have R8 : sg_R (put_I ρ 344 3 (Int32.ofNat (q4 + 1))) 344 8 = some 348 := by simp only [d2]
      have L8 : sg_L (put_I ρ 344 3 (Int32.ofNat (q4 + 1))) 348 = 5 := by simp only [d2]
      have R10 : sg_R (put_I ρ 344 3 (Int32.ofNat (q4 + 1))) 344 10 = some 350 := by simp only [d2]
      have L10 : sg_L (put_I ρ 344 3 (Int32.ofNat (q4 + 1))) 350 = 700 := by simp only [d2]
      have h3 := h2.pu (a := 350) (j := w) (v := Int32.ofNat T.length) (by omega)
      obtain ⟨k1, k2, k3, k4, k5, k6⟩ := h3.lk hx
      have k7 := k6.l0 hx k5
      rw [pI_2] at k1
      rw [if_pos c2, f_of tk2]
      dsimp only
      unfold f_X12_clause_B71
      rw [if_neg (show ¬ (1 : Int32) = 0 by decide), gI_e, o_s q4, pI_2, if_pos h2.2.2.2.2.1, f_of R8, L8, h2.1.2.2.2.2.2.1, if_neg (o_in (show i < 5 by omega) (by omega)), o_tn (show i < 2147483648 by omega), f_of R10, L10, if_neg (o_in (show w < 700 by omega) (by omega)), o_tn (show w < 2147483648 by omega), h2.2.2.2.2.2.2.2.1.1, f_of k1, f_of k2]
      dsimp only
      rw [f_of k7.2]
      have h0 : sg_I (put_I (put_I (put_I ρ 344 3 (Int32.ofNat (q4 + 1))) 350 w (Int32.ofNat T.length)) 344 3 (Int32.ofNat (pb_ x t (q4 + 1)))) 350 w = Int32.ofNat T.length := by rw [gI_n (by omega), gI_e]
      rw [pI_2] at k6
      refine AR.up (p' := pb_ x t (q4 + 1)) (σ' := put_I σ 6 2 (Int32.ofNat (pb_ x t (q4 + 1)))) (ρ' := put_I (put_I (put_I ρ 344 3 (Int32.ofNat (q4 + 1))) 350 w (Int32.ofNat T.length)) 344 3 (Int32.ofNat (pb_ x t (q4 + 1)))) ?_ (KZ.put (by omega) (by omega)) ((KE.put (by omega)).kw.tr ((KW.put (by omega) hw.1).tr (KE.put (by omega)).kw)) (by omega)
      generalize pb_ x t (q4 + 1) = q5 at k3 k4 k5 k6 h0 ⊢
      generalize put_I σ 6 2 (Int32.ofNat q5) = σ5 at k6 ⊢
      generalize put_I (put_I (put_I ρ 344 3 (Int32.ofNat (q4 + 1))) 350 w (Int32.ofNat T.length)) 344 3 (Int32.ofNat q5) = ρ5 at k6 h0 ⊢
      dsimp only
      by_cases c3 : sx_ x t q5 = 33
      · rw [if_pos c3, if_pos c3]
        exact cb_t hx k6 hw h0 (by omega)
      · rw [if_neg c3, if_neg c3]
        by_cases c4 : sx_ x t q5 = 40
        · rw [if_pos c4, if_pos c4]
          exact cb_t hx k6 hw h0 (by omega)
        · rw [if_neg c4, if_neg c4]
          exact cb_s hx k6 hw h0 (by omega)
    · rw [if_neg c2, pI_2] at tk2
      obtain ⟨b1, b2, b3⟩ := m3.bd
      obtain ⟨φ, f1, f2, f3⟩ := c71b (v := Int32.ofNat w) hx b3
      rw [if_neg c2, f_of tk2, f_of b1, f1]
      dsimp only
      rw [if_pos rfl]
      exact AR.bad (KZ.put (by omega) (by omega)) ((KE.put (by omega)).tr (b2.tr f2)).kl f3
  · rw [if_neg c1] at tk
    obtain ⟨b1, b2, b3⟩ := l3.bd
    obtain ⟨φ, f1, f2, f3⟩ := c40b (v := Int32.ofNat w) hx b3
    rw [if_neg c1, f_of tk, f_of b1, f1]
    dsimp only
    rw [if_pos rfl]
    exact AR.bad (KZ.put (by omega) (by omega)) ((KE.put (by omega)).tr (b2.tr f2)).kl f3
