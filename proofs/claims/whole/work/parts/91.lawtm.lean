/-! ===== the reader of laws: terms and sums ===== -/
theorem px_terml {t i n d d' k : Nat} {x : Nat → Int32} (hx : XT t x) (pa : PX t i x 8 7 1 1 GN n) (hd : n ≤ d) (hd' : n ≤ d') (hk : k ≤ 6) (hn : 10 * (6 - k) + 1 ≤ n) : ∀ (m m' q v : Nat) (C : List Int32) (T : List Tk) (σ ρ : Sg), t - q < m → t - q < m' → v ≤ q → pb_ x t q = q → LSt t i x σ ρ q k C T → LR t i x σ ρ q k C T (GF (2 + 2 * (6 - k))) (f_X3_isTerm_L17 20000 (g_X3_law 20000 d) 6 m (Int32.ofNat k) (sx_ x t q) (Int32.ofNat v) σ) (f_X12_term_L21 20000 (g_X12_law 20000 d') 344 m' (sx_ x t q) ρ) := by
  have ht := hx.1
  have gf : ∀ s : List Bool, ck_ [] (false :: s) = some (false :: s) := fun s => rfl
  intro m
  induction m with
  | zero => intro m' q v C T σ ρ h1; exact absurd h1 (by omega)
  | succ m ih =>
    intro m' q v C T σ ρ hm hm' hv hq h
    obtain ⟨m', rfl⟩ : ∃ y, m' = y + 1 := ⟨m' - 1, by omega⟩
    have hqt := h.2.1
    have c9 := h.2.2.2.2.2.2.2.2
    have stp : ∀ (z o : Int32), ¬ z = -1 → sx_ x t q = z → (o = 2 ∨ o = 3 ∨ o = 4 ∨ o = 5) → tk_c (o, 0) = -100 - z → (∀ φ, f_X12_term_B33 20000 (g_X12_law 20000 d') 344 (f_X12_term_L21 20000 (g_X12_law 20000 d') 344 m') z φ = (g_X12_law 20000 d' 7 344 (put_I φ 344 3 (sg_I φ 344 3 + 1))).bind fun p4 => f_X12_term_B59 20000 (g_X12_law 20000 d') 344 (f_X12_term_L21 20000 (g_X12_law 20000 d') 344 m') o (some 344) p4) → LR t i x σ ρ q k C T (GF (2 + 2 * (6 - k))) (f_X3_isTerm_B36 20000 (g_X3_law 20000 d) 6 (f_X3_isTerm_L17 20000 (g_X3_law 20000 d) 6 m) (Int32.ofNat k) z (Int32.ofNat v) σ) (f_X12_term_B33 20000 (g_X12_law 20000 d') 344 (f_X12_term_L21 20000 (g_X12_law 20000 d') 344 m') z ρ) := by
      intro z o z1 z2 z3 z4 z5
      have ql := sx_l hx z2 z1
      have h1 := h.mv (q := q + 1) (by omega) (by omega)
      have r := pa d d' (q + 1) k C T _ _ hd hd' hk hn h1
      have sc : f_X2_signCode z = some (-100 - z) := rfl
      rw [z5 ρ]
      unfold f_X3_isTerm_B36
      rw [h.2.2.1, h.2.2.2.1, o_s q]
      refine LR.up (σ' := put_I σ 6 2 (Int32.ofNat (q + 1))) (ρ' := put_I ρ 344 3 (Int32.ofNat (q + 1))) (b' := q) ?_ (KZ.put (by omega) (by omega)) (KE.put (by omega)) (Nat.le_refl q)
      refine LR.bi (KA := fun s => (f_X2_signCode z).bind fun p8 => (f_X3_write 6 p8 s).bind fun p9 => (f_X6_nextSign 20000 6 p9).bind fun p10 => f_X3_isTerm_L17 20000 (g_X3_law 20000 d) 6 m (Int32.ofNat k) p10.1 (Int32.ofNat v + 1) p10.2) (KB := fun p4 => f_X12_term_B59 20000 (g_X12_law 20000 d') 344 (f_X12_term_L21 20000 (g_X12_law 20000 d') 344 m') o (some 344) p4) r (by omega) (fun υ φ U q' m1 m2 m3 => ?_) (fun υ φ q' n' m1 m2 m3 => ?_)
      · have cl : (C ++ U.map tk_c).length = C.length + U.length := by rw [List.length_append, List.length_map]
        have tl : (T ++ U).length = T.length + U.length := List.length_append
        obtain ⟨υ1, φ1, u1, u2, u3, u4, u5⟩ := m1.wr hx (o, 0) (by omega) (by omega)
        obtain ⟨l1, l2, p1, p2, p3, l3⟩ := u5.lk hx
        have hm4 := u5.2.2.2.2.1
        generalize pb_ x t q' = q2 at l1 l2 p1 p2 p3 l3
        rw [z4] at u1
        show LR t i x υ φ (q + U.length) k (C ++ U.map tk_c) (T ++ U) _ ((f_X2_signCode z).bind fun p8 => (f_X3_write 6 p8 υ).bind fun p9 => (f_X6_nextSign 20000 6 p9).bind fun p10 => f_X3_isTerm_L17 20000 (g_X3_law 20000 d) 6 m (Int32.ofNat k) p10.1 (Int32.ofNat v + 1) p10.2) (f_X12_term_B59 20000 (g_X12_law 20000 d') 344 (f_X12_term_L21 20000 (g_X12_law 20000 d') 344 m') o (some 344) φ)
        unfold f_X12_term_B59 f_X12_term_B79
        rw [f_of sc, f_of u1, f_of l1, f_of rfl, f_of u2, if_pos hm4, f_of l2, o_s v]
        have r2 := ih m' q2 (v + 1) _ _ _ _ (by omega) (by omega) (by omega) p3 l3
        refine LR.pre (W := [(o, 0)]) r2 (fun V hV => ?_) (u3.tr (KZ.put (by omega) (by omega))) (u4.tr (KE.put (by omega))) (by show q + U.length + 1 ≤ q2; omega)
        intro s hs
        rw [ck_app, m3 (false :: s) (by rw [List.length_cons]; omega), Option.bind_some, ck_app, ck_o2 z3, Option.bind_some]
        exact hV s hs
      · obtain ⟨φ1, f1, f2, f3⟩ := m1.pt hx (by omega) o 0
        obtain ⟨m', rfl⟩ : ∃ y, m' = y + 1 := ⟨m' - 1, by omega⟩
        refine ⟨φ1, n' + 1, ?_, f2, f3, by omega⟩
        show f_X12_term_B59 20000 (g_X12_law 20000 d') 344 (f_X12_term_L21 20000 (g_X12_law 20000 d') 344 (m' + 1)) o (some 344) φ = some φ1
        unfold f_X12_term_B59 f_X12_term_B79
        rw [f_of rfl, f_of f1, if_neg (f3.nm hx), f_X12_term_L21, if_neg (by decide), if_neg (by decide)]
    rw [f_X3_isTerm_L17, f_X12_term_L21, if_neg (by rw [l_240, o_lt (by omega) (by omega)]; omega)]
    by_cases c1 : sx_ x t q = 42
    · rw [if_pos c1, if_pos c1, c1]
      exact stp 42 4 (by decide) c1 (by decide) (by decide) (fun φ => by
        unfold f_X12_term_B33
        simp only [if_true])
    · rw [if_neg c1, if_neg c1]
      by_cases c2 : sx_ x t q = 47
      · rw [if_pos c2, if_pos c2, c2]
        exact stp 47 5 (by decide) c2 (by decide) (by decide) (fun φ => by
          unfold f_X12_term_B33
          simp only [if_neg (show ¬ (47 : Int32) = 42 by decide)])
      · rw [if_neg c2, if_neg c2]
        exact LR.ok h (Nat.le_refl q) (fun s _ => gf s)
theorem px_term {t i n : Nat} {x : Nat → Int32} (hx : XT t x) (pa : PX t i x 8 7 1 1 GN n) : PX t i x 7 6 2 2 GN (n + 1) := by
  have ht := hx.1
  intro d d' p k C T σ ρ hd hd' hk hn h
  obtain ⟨d, rfl⟩ : ∃ y, d = y + 1 := ⟨d - 1, by omega⟩
  obtain ⟨d', rfl⟩ : ∃ y, d' = y + 1 := ⟨d' - 1, by omega⟩
  show LR t i x σ ρ p k C T (GN (2 + 2 * (6 - k))) (f_X3_isTerm_o 20000 (g_X3_law 20000 d) 6 (Int32.ofNat k) σ) (f_X12_term_o 20000 (g_X12_law 20000 d') 344 ρ)
  have r := pa d d' p k C T σ ρ (by omega) (by omega) hk (by omega) h
  unfold f_X3_isTerm_o f_X12_term_o
  refine LR.bi (KA := fun s => (f_X6_nextSign 20000 6 s).bind fun p3 => f_X3_isTerm_L17 20000 (g_X3_law 20000 d) 6 20000 (Int32.ofNat k) p3.1 0 p3.2) (KB := fun p1 => if sg_I p1 344 4 = -1 then (f_X12_look 20000 344 p1).bind fun p11 => f_X12_term_B20 20000 (g_X12_law 20000 d') 344 p11.1 p11.2 else f_X12_term_B20 20000 (g_X12_law 20000 d') 344 (-1) p1) r (Nat.le_refl p) (fun υ φ U q' m1 m2 m3 => ?_) (fun υ φ q' n' m1 m2 m3 => ?_)
  · obtain ⟨l1, l2, p1, p2, p3, l3⟩ := m1.lk hx
    generalize pb_ x t q' = q2 at l1 l2 p1 p2 p3 l3
    show LR t i x υ φ (p + U.length) k (C ++ U.map tk_c) (T ++ U) _ ((f_X6_nextSign 20000 6 υ).bind fun p3 => f_X3_isTerm_L17 20000 (g_X3_law 20000 d) 6 20000 (Int32.ofNat k) p3.1 0 p3.2) (if sg_I φ 344 4 = -1 then (f_X12_look 20000 344 φ).bind fun p11 => f_X12_term_B20 20000 (g_X12_law 20000 d') 344 p11.1 p11.2 else f_X12_term_B20 20000 (g_X12_law 20000 d') 344 (-1) φ)
    rw [f_of l1, if_pos m1.2.2.2.2.1, f_of l2]
    have r2 := px_terml (k := k) hx pa (show n ≤ d by omega) (show n ≤ d' by omega) hk (by omega) 20000 20000 q2 0 _ _ _ _ (by omega) (by omega) (by omega) p3 l3
    refine LR.up (LR.mo r2 (fun V hV => ?_)) (KZ.put (by omega) (by omega)) (KE.put (by omega)) (by omega)
    intro s hs
    rw [ck_app, m3 s (by omega), Option.bind_some]
    exact hV s hs
  · refine ⟨φ, n', ?_, KE.rf, m1, by omega⟩
    show (if sg_I φ 344 4 = -1 then (f_X12_look 20000 344 φ).bind fun p11 => f_X12_term_B20 20000 (g_X12_law 20000 d') 344 p11.1 p11.2 else f_X12_term_B20 20000 (g_X12_law 20000 d') 344 (-1) φ) = some φ
    unfold f_X12_term_B20
    rw [if_neg (m1.nm hx), f_X12_term_L21, if_neg (by decide), if_neg (by decide)]
theorem px_suml {t i n d d' k : Nat} {x : Nat → Int32} (hx : XT t x) (pa : PX t i x 7 6 2 2 GN n) (hd : n ≤ d) (hd' : n ≤ d') (hk : k ≤ 6) (hn : 10 * (6 - k) + 2 ≤ n) : ∀ (m m' q v : Nat) (C : List Int32) (T : List Tk) (σ ρ : Sg), t - q < m → t - q < m' → v ≤ q → pb_ x t q = q → LSt t i x σ ρ q k C T → LR t i x σ ρ q k C T (GF (3 + 2 * (6 - k))) (f_X3_isSum_L17 20000 (g_X3_law 20000 d) 6 m (Int32.ofNat k) (sx_ x t q) (Int32.ofNat v) σ) (f_X12_sum_L21 20000 (g_X12_law 20000 d') 344 m' (sx_ x t q) ρ) := by
  have ht := hx.1
  have gf : ∀ s : List Bool, ck_ [] (false :: s) = some (false :: s) := fun s => rfl
  intro m
  induction m with
  | zero => intro m' q v C T σ ρ h1; exact absurd h1 (by omega)
  | succ m ih =>
    intro m' q v C T σ ρ hm hm' hv hq h
    obtain ⟨m', rfl⟩ : ∃ y, m' = y + 1 := ⟨m' - 1, by omega⟩
    have hqt := h.2.1
    have c9 := h.2.2.2.2.2.2.2.2
    have stp : ∀ (z o : Int32), ¬ z = -1 → sx_ x t q = z → (o = 2 ∨ o = 3 ∨ o = 4 ∨ o = 5) → tk_c (o, 0) = -100 - z → (∀ φ, f_X12_sum_B33 20000 (g_X12_law 20000 d') 344 (f_X12_sum_L21 20000 (g_X12_law 20000 d') 344 m') z φ = (g_X12_law 20000 d' 6 344 (put_I φ 344 3 (sg_I φ 344 3 + 1))).bind fun p4 => f_X12_sum_B59 20000 (g_X12_law 20000 d') 344 (f_X12_sum_L21 20000 (g_X12_law 20000 d') 344 m') o (some 344) p4) → LR t i x σ ρ q k C T (GF (3 + 2 * (6 - k))) (f_X3_isSum_B36 20000 (g_X3_law 20000 d) 6 (f_X3_isSum_L17 20000 (g_X3_law 20000 d) 6 m) (Int32.ofNat k) z (Int32.ofNat v) σ) (f_X12_sum_B33 20000 (g_X12_law 20000 d') 344 (f_X12_sum_L21 20000 (g_X12_law 20000 d') 344 m') z ρ) := by
      intro z o z1 z2 z3 z4 z5
      have ql := sx_l hx z2 z1
      have h1 := h.mv (q := q + 1) (by omega) (by omega)
      have r := pa d d' (q + 1) k C T _ _ hd hd' hk hn h1
      have sc : f_X2_signCode z = some (-100 - z) := rfl
      rw [z5 ρ]
      unfold f_X3_isSum_B36
      rw [h.2.2.1, h.2.2.2.1, o_s q]
      refine LR.up (σ' := put_I σ 6 2 (Int32.ofNat (q + 1))) (ρ' := put_I ρ 344 3 (Int32.ofNat (q + 1))) (b' := q) ?_ (KZ.put (by omega) (by omega)) (KE.put (by omega)) (Nat.le_refl q)
      refine LR.bi (KA := fun s => (f_X2_signCode z).bind fun p8 => (f_X3_write 6 p8 s).bind fun p9 => (f_X6_nextSign 20000 6 p9).bind fun p10 => f_X3_isSum_L17 20000 (g_X3_law 20000 d) 6 m (Int32.ofNat k) p10.1 (Int32.ofNat v + 1) p10.2) (KB := fun p4 => f_X12_sum_B59 20000 (g_X12_law 20000 d') 344 (f_X12_sum_L21 20000 (g_X12_law 20000 d') 344 m') o (some 344) p4) r (by omega) (fun υ φ U q' m1 m2 m3 => ?_) (fun υ φ q' n' m1 m2 m3 => ?_)
      · have cl : (C ++ U.map tk_c).length = C.length + U.length := by rw [List.length_append, List.length_map]
        have tl : (T ++ U).length = T.length + U.length := List.length_append
        obtain ⟨υ1, φ1, u1, u2, u3, u4, u5⟩ := m1.wr hx (o, 0) (by omega) (by omega)
        obtain ⟨l1, l2, p1, p2, p3, l3⟩ := u5.lk hx
        have hm4 := u5.2.2.2.2.1
        generalize pb_ x t q' = q2 at l1 l2 p1 p2 p3 l3
        rw [z4] at u1
        show LR t i x υ φ (q + U.length) k (C ++ U.map tk_c) (T ++ U) _ ((f_X2_signCode z).bind fun p8 => (f_X3_write 6 p8 υ).bind fun p9 => (f_X6_nextSign 20000 6 p9).bind fun p10 => f_X3_isSum_L17 20000 (g_X3_law 20000 d) 6 m (Int32.ofNat k) p10.1 (Int32.ofNat v + 1) p10.2) (f_X12_sum_B59 20000 (g_X12_law 20000 d') 344 (f_X12_sum_L21 20000 (g_X12_law 20000 d') 344 m') o (some 344) φ)
        unfold f_X12_sum_B59 f_X12_sum_B79
        rw [f_of sc, f_of u1, f_of l1, f_of rfl, f_of u2, if_pos hm4, f_of l2, o_s v]
        have r2 := ih m' q2 (v + 1) _ _ _ _ (by omega) (by omega) (by omega) p3 l3
        refine LR.pre (W := [(o, 0)]) r2 (fun V hV => ?_) (u3.tr (KZ.put (by omega) (by omega))) (u4.tr (KE.put (by omega))) (by show q + U.length + 1 ≤ q2; omega)
        intro s hs
        rw [ck_app, m3 (false :: s) (by rw [List.length_cons]; omega), Option.bind_some, ck_app, ck_o2 z3, Option.bind_some]
        exact hV s hs
      · obtain ⟨φ1, f1, f2, f3⟩ := m1.pt hx (by omega) o 0
        obtain ⟨m', rfl⟩ : ∃ y, m' = y + 1 := ⟨m' - 1, by omega⟩
        refine ⟨φ1, n' + 1, ?_, f2, f3, by omega⟩
        show f_X12_sum_B59 20000 (g_X12_law 20000 d') 344 (f_X12_sum_L21 20000 (g_X12_law 20000 d') 344 (m' + 1)) o (some 344) φ = some φ1
        unfold f_X12_sum_B59 f_X12_sum_B79
        rw [f_of rfl, f_of f1, if_neg (f3.nm hx), f_X12_sum_L21, if_neg (by decide), if_neg (by decide)]
    rw [f_X3_isSum_L17, f_X12_sum_L21, if_neg (by rw [l_240, o_lt (by omega) (by omega)]; omega)]
    by_cases c1 : sx_ x t q = 43
    · rw [if_pos c1, if_pos c1, c1]
      exact stp 43 2 (by decide) c1 (by decide) (by decide) (fun φ => by
        unfold f_X12_sum_B33
        simp only [if_true])
    · rw [if_neg c1, if_neg c1]
      by_cases c2 : sx_ x t q = 45
      · rw [if_pos c2, if_pos c2, c2]
        exact stp 45 3 (by decide) c2 (by decide) (by decide) (fun φ => by
          unfold f_X12_sum_B33
          simp only [if_neg (show ¬ (45 : Int32) = 43 by decide)])
      · rw [if_neg c2, if_neg c2]
        exact LR.ok h (Nat.le_refl q) (fun s _ => gf s)
theorem px_sum {t i n : Nat} {x : Nat → Int32} (hx : XT t x) (pa : PX t i x 7 6 2 2 GN n) : PX t i x 6 5 3 3 GN (n + 1) := by
  have ht := hx.1
  intro d d' p k C T σ ρ hd hd' hk hn h
  obtain ⟨d, rfl⟩ : ∃ y, d = y + 1 := ⟨d - 1, by omega⟩
  obtain ⟨d', rfl⟩ : ∃ y, d' = y + 1 := ⟨d' - 1, by omega⟩
  show LR t i x σ ρ p k C T (GN (3 + 2 * (6 - k))) (f_X3_isSum_o 20000 (g_X3_law 20000 d) 6 (Int32.ofNat k) σ) (f_X12_sum_o 20000 (g_X12_law 20000 d') 344 ρ)
  have r := pa d d' p k C T σ ρ (by omega) (by omega) hk (by omega) h
  unfold f_X3_isSum_o f_X12_sum_o
  refine LR.bi (KA := fun s => (f_X6_nextSign 20000 6 s).bind fun p3 => f_X3_isSum_L17 20000 (g_X3_law 20000 d) 6 20000 (Int32.ofNat k) p3.1 0 p3.2) (KB := fun p1 => if sg_I p1 344 4 = -1 then (f_X12_look 20000 344 p1).bind fun p11 => f_X12_sum_B20 20000 (g_X12_law 20000 d') 344 p11.1 p11.2 else f_X12_sum_B20 20000 (g_X12_law 20000 d') 344 (-1) p1) r (Nat.le_refl p) (fun υ φ U q' m1 m2 m3 => ?_) (fun υ φ q' n' m1 m2 m3 => ?_)
  · obtain ⟨l1, l2, p1, p2, p3, l3⟩ := m1.lk hx
    generalize pb_ x t q' = q2 at l1 l2 p1 p2 p3 l3
    show LR t i x υ φ (p + U.length) k (C ++ U.map tk_c) (T ++ U) _ ((f_X6_nextSign 20000 6 υ).bind fun p3 => f_X3_isSum_L17 20000 (g_X3_law 20000 d) 6 20000 (Int32.ofNat k) p3.1 0 p3.2) (if sg_I φ 344 4 = -1 then (f_X12_look 20000 344 φ).bind fun p11 => f_X12_sum_B20 20000 (g_X12_law 20000 d') 344 p11.1 p11.2 else f_X12_sum_B20 20000 (g_X12_law 20000 d') 344 (-1) φ)
    rw [f_of l1, if_pos m1.2.2.2.2.1, f_of l2]
    have r2 := px_suml (k := k) hx pa (show n ≤ d by omega) (show n ≤ d' by omega) hk (by omega) 20000 20000 q2 0 _ _ _ _ (by omega) (by omega) (by omega) p3 l3
    refine LR.up (LR.mo r2 (fun V hV => ?_)) (KZ.put (by omega) (by omega)) (KE.put (by omega)) (by omega)
    intro s hs
    rw [ck_app, m3 s (by omega), Option.bind_some]
    exact hV s hs
  · refine ⟨φ, n', ?_, KE.rf, m1, by omega⟩
    show (if sg_I φ 344 4 = -1 then (f_X12_look 20000 344 φ).bind fun p11 => f_X12_sum_B20 20000 (g_X12_law 20000 d') 344 p11.1 p11.2 else f_X12_sum_B20 20000 (g_X12_law 20000 d') 344 (-1) φ) = some φ
    unfold f_X12_sum_B20
    rw [if_neg (m1.nm hx), f_X12_sum_L21, if_neg (by decide), if_neg (by decide)]
