/-! ===== the reader of laws: truths ===== -/
theorem LR.id {t i b k : Nat} {x : Nat → Int32} {σ ρ : Sg} {C : List Int32} {T : List Tk} {G : List Tk → Prop} {A : Option (Int32 × Sg)} {B : Option Sg} (h : LR t i x σ ρ b k C T G A B) : LR t i x σ ρ b k C T G (A.bind fun r => if r.1 = 0 then some (0, r.2) else some (1, r.2)) B := by
  obtain ⟨c, υ, φ, h1, h2, h3, h4, h5⟩ := h
  rw [f_of h1]
  dsimp only
  rcases h5 with ⟨c1, h5⟩ | ⟨c0, h5⟩
  · subst c1
    rw [if_neg (show ¬ (1 : Int32) = 0 by decide)]
    exact ⟨1, υ, φ, rfl, h2, h3, h4, Or.inl ⟨rfl, h5⟩⟩
  · subst c0
    rw [if_pos rfl]
    exact ⟨0, υ, φ, rfl, h2, h3, h4, Or.inr ⟨rfl, h5⟩⟩
theorem gx_And {N d a : Nat} {ρ : Sg} : g_X12_law N (d + 1) 1 a ρ = f_X12_goOnAnd_L0 N (g_X12_law N d) a N ρ := rfl
theorem gx_Or {N d a : Nat} {ρ : Sg} : g_X12_law N (d + 1) 2 a ρ = f_X12_goOnOr_L0 N (g_X12_law N d) a N ρ := rfl
theorem gx_Units {N d a : Nat} {y : Int32} {ρ : Sg} : g_X3_law N (d + 1) 3 a y ρ = f_X3_areMoreUnits_L2 N (g_X3_law N d) a N y 0 ρ := rfl
theorem gx_Truths {N d a : Nat} {y : Int32} {ρ : Sg} : g_X3_law N (d + 1) 1 a y ρ = f_X3_areMoreTruths_L2 N (g_X3_law N d) a N y 0 ρ := rfl
theorem isg_ (c : Int32) : f_X3_isComparison c = f_X12_isSign c ∧ (f_X12_isSign c = some 0 ∨ (f_X12_isSign c = some 1 ∧ (c = 61 ∨ c = 60 ∨ c = 62))) := by
  refine ⟨rfl, ?_⟩
  unfold f_X12_isSign
  by_cases h1 : c = 61
  · rw [if_pos h1]; exact Or.inr ⟨rfl, Or.inl h1⟩
  rw [if_neg h1]
  by_cases h2 : c = 60
  · rw [if_pos h2]; exact Or.inr ⟨rfl, Or.inr (Or.inl h2)⟩
  rw [if_neg h2]
  by_cases h3 : c = 62
  · rw [if_pos h3]; exact Or.inr ⟨rfl, Or.inr (Or.inr h3)⟩
  rw [if_neg h3]
  exact Or.inl rfl
theorem px_cmp {t i n : Nat} {x : Nat → Int32} (hx : XT t x) (ps : PX t i x 6 5 3 3 GN n) : PX t i x 5 4 4 4 GC (n + 1) := by
  have ht := hx.1
  intro d d' p k C T σ ρ hd hd' hk hn h
  obtain ⟨d, rfl⟩ : ∃ y, d = y + 1 := ⟨d - 1, by omega⟩
  obtain ⟨d', rfl⟩ : ∃ y, d' = y + 1 := ⟨d' - 1, by omega⟩
  show LR t i x σ ρ p k C T (GC (4 + 2 * (6 - k))) (f_X3_isCompared_o 20000 (g_X3_law 20000 d) 6 (Int32.ofNat k) σ) (f_X12_compare_o 20000 (g_X12_law 20000 d') 344 ρ)
  obtain ⟨l1, l2, q1, q2, q3, l3⟩ := h.lk hx
  generalize pb_ x t p = q at l1 l2 q1 q2 q3 l3
  have kz1 : KZ 6 σ (put_I σ 6 2 (Int32.ofNat q)) := KZ.put (by omega) (by omega)
  have ke1 : KE i ρ (put_I ρ 344 3 (Int32.ofNat q)) := KE.put (by omega)
  unfold f_X3_isCompared_o f_X12_compare_o f_X12_compare_B16
  rw [f_of l1, if_pos h.2.2.2.2.1, f_of l2]
  dsimp only
  refine LR.up ?_ kz1 ke1 q1
  have g2 : sg_I (put_I σ 6 2 (Int32.ofNat q)) 6 2 = Int32.ofNat q := gI_e
  have g3 : sg_I (put_I ρ 344 3 (Int32.ofNat q)) 344 3 = Int32.ofNat q := gI_e
  generalize put_I σ 6 2 (Int32.ofNat q) = σ1 at l3 g2 ⊢
  generalize put_I ρ 344 3 (Int32.ofNat q) = ρ1 at l3 g3 ⊢
  obtain ⟨s1, s2⟩ := isg_ (sx_ x t q)
  rw [s1]
  have c9 := l3.2.2.2.2.2.2.2.2
  rcases s2 with s2 | ⟨s2, s3⟩
  · rw [f_of s2, f_of s2, if_pos rfl, if_pos rfl, obi_]
    exact LR.bd l3 (Nat.le_refl q)
  · rw [f_of s2, f_of s2, if_neg (show ¬ (1 : Int32) = 0 by decide), if_neg (show ¬ (1 : Int32) = 0 by decide), g2, g3, o_s q]
    have stp : ∀ (z o : Int32), ¬ z = -1 → sx_ x t q = z → (o = 6 ∨ o = 7 ∨ o = 8) → tk_c (o, 0) = -100 - z → LR t i x σ1 ρ1 q k C T (GC (4 + 2 * (6 - k))) ((g_X3_law 20000 d 6 6 (Int32.ofNat k) (put_I σ1 6 2 (Int32.ofNat (q + 1)))).bind fun r => if r.1 = 0 then some (0, r.2) else (f_X2_signCode z).bind fun p6 => (f_X3_write 6 p6 r.2).bind fun p7 => some (1, p7)) ((g_X12_law 20000 d' 5 344 (put_I ρ1 344 3 (Int32.ofNat (q + 1)))).bind fun p4 => f_X12_compare_B68 20000 (g_X12_law 20000 d') 344 o (some 344) p4) := by
      intro z o z1 z2 z3 z4
      have ql := sx_l hx z2 z1
      have h1 := l3.mv (q := q + 1) (by omega) (by omega)
      have r := ps d d' (q + 1) k C T _ _ (by omega) (by omega) hk (by omega) h1
      have sc : f_X2_signCode z = some (-100 - z) := rfl
      refine LR.up (σ' := put_I σ1 6 2 (Int32.ofNat (q + 1))) (ρ' := put_I ρ1 344 3 (Int32.ofNat (q + 1))) (b' := q) ?_ (KZ.put (by omega) (by omega)) (KE.put (by omega)) (Nat.le_refl q)
      refine LR.bi (KA := fun s => (f_X2_signCode z).bind fun p6 => (f_X3_write 6 p6 s).bind fun p7 => some (1, p7)) (KB := fun p4 => f_X12_compare_B68 20000 (g_X12_law 20000 d') 344 o (some 344) p4) r (by omega) (fun υ φ U q' m1 m2 m3 => ?_) (fun υ φ q' n' m1 m2 m3 => ?_)
      · have cl : (C ++ U.map tk_c).length = C.length + U.length := by rw [List.length_append, List.length_map]
        have tl : (T ++ U).length = T.length + U.length := List.length_append
        obtain ⟨υ1, φ1, u1, u2, u3, u4, u5⟩ := m1.wr hx (o, 0) (by omega) (by omega)
        rw [z4] at u1
        show LR t i x υ φ (q + U.length) k (C ++ U.map tk_c) (T ++ U) _ ((f_X2_signCode z).bind fun p6 => (f_X3_write 6 p6 υ).bind fun p7 => some (1, p7)) (f_X12_compare_B68 20000 (g_X12_law 20000 d') 344 o (some 344) φ)
        unfold f_X12_compare_B68
        rw [f_of sc, f_of u1, f_of rfl, f_of u2]
        refine LR.pre (W := [(o, 0)]) (LR.ok (G := fun V => V = []) u5 (Nat.le_refl q') rfl) (fun V hV => ?_) u3 u4 (by show q + U.length + 1 ≤ q'; omega)
        subst hV
        intro s hs
        rw [ck_app, m3 (false :: s) (by rw [List.length_cons]; omega), Option.bind_some, List.append_nil]
        exact ck_o6 z3 s
      · obtain ⟨φ1, f1, f2, f3⟩ := m1.pt hx (by omega) o 0
        refine ⟨φ1, n' + 1, ?_, f2, f3, by omega⟩
        show f_X12_compare_B68 20000 (g_X12_law 20000 d') 344 o (some 344) φ = some φ1
        unfold f_X12_compare_B68
        rw [f_of rfl, f_of f1]
    rcases s3 with s3 | s3 | s3
    · rw [s3]
      simp only [if_true]
      exact stp 61 6 (by decide) s3 (by decide) (by decide)
    · rw [s3]
      simp only [if_neg (show ¬ (60 : Int32) = 61 by decide), if_true]
      exact stp 60 7 (by decide) s3 (by decide) (by decide)
    · rw [s3]
      simp only [if_neg (show ¬ (62 : Int32) = 61 by decide), if_neg (show ¬ (62 : Int32) = 60 by decide)]
      exact stp 62 8 (by decide) s3 (by decide) (by decide)
theorem px_un {t i n : Nat} {x : Nat → Int32} (hx : XT t x) (ps : PX t i x 6 5 3 3 GN n) (pc : PX t i x 5 4 4 4 GC n) (pu : PX t i x 4 0 5 4 GT n) (pd : PX t i x 0 3 9 6 GT n) : PX t i x 4 0 5 4 GT (n + 1) := by
  have ht := hx.1
  intro d d' p k C T σ ρ hd hd' hk hn h
  obtain ⟨d, rfl⟩ : ∃ y, d = y + 1 := ⟨d - 1, by omega⟩
  obtain ⟨d', rfl⟩ : ∃ y, d' = y + 1 := ⟨d' - 1, by omega⟩
  show LR t i x σ ρ p k C T (GT (4 + 2 * (6 - k))) (f_X3_isUnit_o 20000 (g_X3_law 20000 d) 6 (Int32.ofNat k) σ) (f_X12_unit_o 20000 (g_X12_law 20000 d') 344 ρ)
  obtain ⟨l1, l2, q1, q2, q3, l3⟩ := h.lk hx
  generalize pb_ x t p = q at l1 l2 q1 q2 q3 l3
  have kz1 : KZ 6 σ (put_I σ 6 2 (Int32.ofNat q)) := KZ.put (by omega) (by omega)
  have ke1 : KE i ρ (put_I ρ 344 3 (Int32.ofNat q)) := KE.put (by omega)
  unfold f_X3_isUnit_o f_X12_unit_o f_X3_isUnit_B39
  rw [f_of l1, f_of l2]
  dsimp only
  refine LR.up ?_ kz1 ke1 q1
  have g2 : sg_I (put_I σ 6 2 (Int32.ofNat q)) 6 2 = Int32.ofNat q := gI_e
  generalize put_I σ 6 2 (Int32.ofNat q) = σ1 at l3 g2 ⊢
  generalize put_I ρ 344 3 (Int32.ofNat q) = ρ1 at l3 ⊢
  have c9 := l3.2.2.2.2.2.2.2.2
  by_cases c1 : sx_ x t q = 33
  · have ql := sx_l hx c1 (by decide)
    rw [if_pos c1, if_pos c1, g2, o_s q]
    by_cases c2 : k < 6
    · obtain ⟨o1, o2⟩ := opn_g l3 c2 ql
      have r := pu d d' (q + 1) (k + 1) C T _ _ (by omega) (by omega) (by omega) (by omega) o2
      have h4 := o2.2.2.2.2.1
      rw [if_pos (by rw [l_6, o_lt (by omega) (by omega)]; exact c2), if_neg (by rw [c1]; decide), f_of o1, if_pos h4, o_s k]
      refine LR.up (σ' := put_I σ1 6 2 (Int32.ofNat (q + 1))) (ρ' := put_I (put_I ρ1 344 5 (Int32.ofNat (k + 1))) 344 3 (Int32.ofNat (q + 1))) (b' := q) ?_ (KZ.put (by omega) (by omega)) ((KE.put (by omega)).tr (KE.put (by omega))) (Nat.le_refl q)
      refine LR.bi (KA := fun s => (f_X3_write 6 (-10) s).bind fun p7 => some (1, p7)) (KB := fun s => (f_X12_put 344 9 0 s).bind fun p14 => some (put_I p14 344 5 (sg_I p14 344 5 - 1))) r (by omega) (fun υ φ U q' m1 m2 m3 => ?_) (fun υ φ q' n' m1 m2 m3 => ?_)
      · have cl : (C ++ U.map tk_c).length = C.length + U.length := by rw [List.length_append, List.length_map]
        have tl : (T ++ U).length = T.length + U.length := List.length_append
        obtain ⟨υ1, φ1, u1, u2, u3, u4, u5⟩ := m1.wr hx (9, 0) (by omega) (by omega)
        have u1' : f_X3_write 6 (-10) υ = some υ1 := u1
        have u2' : f_X12_put 344 9 0 φ = some φ1 := u2
        show LR t i x υ φ (q + U.length) k (C ++ U.map tk_c) (T ++ U) _ ((f_X3_write 6 (-10) υ).bind fun p7 => some (1, p7)) ((f_X12_put 344 9 0 φ).bind fun p14 => some (put_I p14 344 5 (sg_I p14 344 5 - 1)))
        rw [f_of u1', f_of u2', u5.2.2.2.2.2.1, show Int32.ofNat (k + 1) - 1 = Int32.ofNat k by rw [l_1, o_sub (by omega)]; rfl]
        refine LR.pre (W := [(9, 0)]) (LR.ok (G := fun V => V = []) (u5.ne (k' := k)) (Nat.le_refl q') rfl) (fun V hV => ?_) u3 (u4.tr (KE.put (by omega))) (by show q + U.length + 1 ≤ q'; omega)
        subst hV
        intro s hs
        rw [ck_app, m3 s (by omega), Option.bind_some, List.append_nil]
        exact ck_o9 s
      · obtain ⟨φ1, f1, f2, f3⟩ := m1.pt hx (by omega) 9 0
        refine ⟨put_I φ1 344 5 (sg_I φ1 344 5 - 1), n' + 1, ?_, f2.tr (KE.put (by omega)), f3.mv (Or.inr rfl), by omega⟩
        show (f_X12_put 344 9 0 φ).bind _ = _
        rw [f_of f1]
    · obtain ⟨φ, o1, o2, o3⟩ := opn_b l3 (by omega)
      rw [if_neg (by rw [l_6, o_lt (by omega) (by omega)]; exact c2), f_of o1, if_neg (o3.nm hx)]
      exact ⟨0, σ1, φ, rfl, rfl, KZ.rf, o2, Or.inr ⟨rfl, q, T.length, o3, Nat.le_refl q, by omega⟩⟩
  · rw [if_neg c1, if_neg c1]
    by_cases c3 : sx_ x t q = 40
    · have ql := sx_l hx c3 (by decide)
      rw [if_pos c3, if_pos c3, if_pos c3, g2, o_s q]
      by_cases c2 : k < 6
      · obtain ⟨o1, o2⟩ := opn_g l3 c2 ql
        have r := pd d d' (q + 1) (k + 1) C T _ _ (by omega) (by omega) (by omega) (by omega) o2
        have h4 := o2.2.2.2.2.1
        rw [if_pos (by rw [l_6, o_lt (by omega) (by omega)]; exact c2), f_of o1, if_pos h4, o_s k]
        refine LR.up (σ' := put_I σ1 6 2 (Int32.ofNat (q + 1))) (ρ' := put_I (put_I ρ1 344 5 (Int32.ofNat (k + 1))) 344 3 (Int32.ofNat (q + 1))) (b' := q) ?_ (KZ.put (by omega) (by omega)) ((KE.put (by omega)).tr (KE.put (by omega))) (Nat.le_refl q)
        refine LR.bi (KA := fun s => (f_X6_takes 20000 6 41 s).bind fun r => if r.1 = 0 then some (0, r.2) else some (1, r.2)) (KB := fun s => (f_X12_closes 20000 344 41 s).bind fun p11 => some p11) r (by omega) (fun υ φ U q' m1 m2 m3 => ?_) (fun υ φ q' n' m1 m2 m3 => ?_)
        · have e : ((f_X12_closes 20000 344 41 φ).bind fun p11 => some p11) = f_X12_closes 20000 344 41 φ := obi_ _
          show LR t i x υ φ (q + U.length) k (C ++ U.map tk_c) (T ++ U) _ _ ((f_X12_closes 20000 344 41 φ).bind fun p11 => some p11)
          rw [e]
          refine cls_g hx (by decide) m1 (by omega) ?_
          show GT (4 + 2 * (6 - k)) (U ++ [])
          rw [List.append_nil]
          intro s hs
          exact m3 s (by omega)
        · obtain ⟨φ', b1, b2, b3⟩ := cls_b (c := 41) hx m1
          exact ⟨φ', n', by show (f_X12_closes 20000 344 41 φ).bind _ = _; rw [f_of b1], b2, b3, by omega⟩
      · obtain ⟨φ, o1, o2, o3⟩ := opn_b l3 (by omega)
        rw [if_neg (by rw [l_6, o_lt (by omega) (by omega)]; exact c2), f_of o1, if_neg (o3.nm hx)]
        exact ⟨0, σ1, φ, rfl, rfl, KZ.rf, o2, Or.inr ⟨rfl, q, T.length, o3, Nat.le_refl q, by omega⟩⟩
    · rw [if_neg c3, if_neg c3]
      have r := ps d d' q k C T σ1 ρ1 (by omega) (by omega) hk (by omega) l3
      refine LR.bi (KA := fun s => (g_X3_law 20000 d 5 6 (Int32.ofNat k) s).bind fun r => if r.1 = 0 then some (0, r.2) else some (1, r.2)) (KB := fun s => if sg_I s 344 4 = -1 then (g_X12_law 20000 d' 4 344 s).bind fun p6 => some p6 else some s) r (Nat.le_refl q) (fun υ φ U q' m1 m2 m3 => ?_) (fun υ φ q' n' m1 m2 m3 => ?_)
      · have r2 := pc d d' q' k _ _ υ φ (by omega) (by omega) hk (by omega) m1
        show LR t i x υ φ (q + U.length) k (C ++ U.map tk_c) (T ++ U) _ ((g_X3_law 20000 d 5 6 (Int32.ofNat k) υ).bind fun r => if r.1 = 0 then some (0, r.2) else some (1, r.2)) (if sg_I φ 344 4 = -1 then (g_X12_law 20000 d' 4 344 φ).bind fun p6 => some p6 else some φ)
        rw [if_pos m1.2.2.2.2.1, obi_]
        refine LR.id (LR.up (LR.mo r2 (fun V hV => ?_)) KZ.rf KE.rf (by omega))
        intro s hs
        rw [ck_app, m3 s (by omega), Option.bind_some]
        exact hV s (by omega)
      · refine ⟨φ, n', ?_, KE.rf, m1, by omega⟩
        show (if sg_I φ 344 4 = -1 then (g_X12_law 20000 d' 4 344 φ).bind fun p6 => some p6 else some φ) = some φ
        rw [if_neg (m1.nm hx)]
theorem px_mul {t i d d' k : Nat} {x : Nat → Int32} (hx : XT t x) (pa : ∀ (p : Nat) (C : List Int32) (T : List Tk) (σ ρ : Sg), LSt t i x σ ρ p k C T → LR t i x σ ρ p k C T (GT (4 + 2 * (6 - k))) (g_X3_law 20000 d 4 6 (Int32.ofNat k) σ) (g_X12_law 20000 d' 0 344 ρ)) : ∀ (m m' p v : Nat) (C : List Int32) (T : List Tk) (σ ρ : Sg), t - p < m → t - p < m' → v ≤ p → LSt t i x σ ρ p k C T → LR t i x σ ρ p k C T (GM (5 + 2 * (6 - k))) (f_X3_areMoreUnits_L2 20000 (g_X3_law 20000 d) 6 m (Int32.ofNat k) (Int32.ofNat v) σ) (f_X12_goOnAnd_L0 20000 (g_X12_law 20000 d') 344 m' ρ) := by
  have ht := hx.1
  intro m
  induction m with
  | zero => intro m' p v C T σ ρ h1; exact absurd h1 (by omega)
  | succ m ih =>
    intro m' p v C T σ ρ hm hm' hv h
    obtain ⟨m', rfl⟩ : ∃ y, m' = y + 1 := ⟨m' - 1, by omega⟩
    have hpt := h.2.1
    have tk := tks_v (c := 38) hx h
    obtain ⟨l1, l2, q1, q2, q3, l3⟩ := h.lk hx
    generalize pb_ x t p = q at tk l1 l2 q1 q2 q3 l3
    have c9 := l3.2.2.2.2.2.2.2.2
    rw [f_X3_areMoreUnits_L2, f_X12_goOnAnd_L0, if_neg (by rw [l_240, o_lt (by omega) (by omega)]; omega), if_pos h.2.2.2.2.1, f_of l2]
    dsimp only
    by_cases c1 : sx_ x t q = 38
    · have ql := sx_l hx c1 (by decide)
      rw [if_pos c1] at tk
      have h1 := h.mv (q := q + 1) (by omega) (by omega)
      have r := pa (q + 1) C T _ _ h1
      have sc : f_X2_signCode 38 = some (-100 - 38) := rfl
      rw [if_pos c1, f_of tk]
      dsimp only
      rw [if_neg (show ¬ (1 : Int32) = 0 by decide), gI_e, o_s q, pI_2]
      refine LR.up (σ' := put_I σ 6 2 (Int32.ofNat (q + 1))) (ρ' := put_I ρ 344 3 (Int32.ofNat (q + 1))) (b' := q) ?_ (KZ.put (by omega) (by omega)) (KE.put (by omega)) q1
      refine LR.bi (KA := fun s => (f_X2_signCode 38).bind fun p6 => (f_X3_write 6 p6 s).bind fun p7 => f_X3_areMoreUnits_L2 20000 (g_X3_law 20000 d) 6 m (Int32.ofNat k) (Int32.ofNat v + 1) p7) (KB := fun s => (f_X12_put 344 10 0 s).bind fun p5 => f_X12_goOnAnd_L0 20000 (g_X12_law 20000 d') 344 m' p5) r (by omega) (fun υ φ U q' m1 m2 m3 => ?_) (fun υ φ q' n' m1 m2 m3 => ?_)
      · have cl : (C ++ U.map tk_c).length = C.length + U.length := by rw [List.length_append, List.length_map]
        have tl : (T ++ U).length = T.length + U.length := List.length_append
        have q5 := m1.2.1
        obtain ⟨υ1, φ1, u1, u2, u3, u4, u5⟩ := m1.wr hx (10, 0) (by omega) (by omega)
        have u1' : f_X3_write 6 (-100 - 38) υ = some υ1 := u1
        have u2' : f_X12_put 344 10 0 φ = some φ1 := u2
        show LR t i x υ φ (q + U.length) k (C ++ U.map tk_c) (T ++ U) _ ((f_X2_signCode 38).bind fun p6 => (f_X3_write 6 p6 υ).bind fun p7 => f_X3_areMoreUnits_L2 20000 (g_X3_law 20000 d) 6 m (Int32.ofNat k) (Int32.ofNat v + 1) p7) ((f_X12_put 344 10 0 φ).bind fun p5 => f_X12_goOnAnd_L0 20000 (g_X12_law 20000 d') 344 m' p5)
        rw [f_of sc, f_of u1', f_of u2', o_s v]
        have r2 := ih m' q' (v + 1) _ _ _ _ (by omega) (by omega) (by omega) u5
        refine LR.pre (W := [(10, 0)]) r2 (fun V hV => ?_) u3 u4 (by show q + U.length + 1 ≤ q'; omega)
        intro s hs
        rw [ck_app, m3 (true :: s) (by rw [List.length_cons]; omega), Option.bind_some, ck_app, ck_oa (by decide), Option.bind_some]
        exact hV s hs
      · obtain ⟨φ1, f1, f2, f3⟩ := m1.pt hx (by omega) 10 0
        obtain ⟨m', rfl⟩ : ∃ y, m' = y + 1 := ⟨m' - 1, by omega⟩
        refine ⟨φ1, n' + 1, ?_, f2, f3, by omega⟩
        show (f_X12_put 344 10 0 φ).bind _ = some φ1
        rw [f_of f1, f_X12_goOnAnd_L0, if_neg (f3.nm hx)]
    · rw [if_neg c1] at tk
      rw [if_neg c1, f_of tk]
      dsimp only
      rw [if_pos rfl]
      exact (LR.ok l3 (Nat.le_refl q) (fun s _ => rfl)).up (KZ.put (by omega) (by omega)) (KE.put (by omega)) q1
theorem gomu_b {t i d' q n : Nat} {x : Nat → Int32} {σ ρ : Sg} (hx : XT t x) (h : LB t i x σ ρ q n) : g_X12_law 20000 (d' + 1) 1 344 ρ = some ρ := by
  rw [gx_And, f_X12_goOnAnd_L0, if_neg (h.nm hx)]
theorem px_mu {t i n : Nat} {x : Nat → Int32} (hx : XT t x) (pu : PX t i x 4 0 5 4 GT n) : PX t i x 3 1 6 5 GM (n + 1) := by
  have ht := hx.1
  intro d d' p k C T σ ρ hd hd' hk hn h
  obtain ⟨d, rfl⟩ : ∃ y, d = y + 1 := ⟨d - 1, by omega⟩
  obtain ⟨d', rfl⟩ : ∃ y, d' = y + 1 := ⟨d' - 1, by omega⟩
  rw [gx_And, gx_Units]
  exact px_mul hx (fun p C T σ ρ h => pu d d' p k C T σ ρ (by omega) (by omega) hk (by omega) h) 20000 20000 p 0 C T σ ρ (by omega) (by omega) (by omega) h
/-- a truth without or: the reference's unit and what goes on -/
def PT (t i : Nat) (x : Nat → Int32) (n : Nat) : Prop := ∀ (d d' p k : Nat) (C : List Int32) (T : List Tk) (σ ρ : Sg), n ≤ d → n ≤ d' + 1 → k ≤ 6 → 10 * (6 - k) + 7 ≤ n → LSt t i x σ ρ p k C T → LR t i x σ ρ p k C T (GT (5 + 2 * (6 - k))) (g_X3_law 20000 d 2 6 (Int32.ofNat k) σ) ((g_X12_law 20000 d' 0 344 ρ).bind fun p4 => g_X12_law 20000 d' 1 344 p4)
theorem px_tr {t i n : Nat} {x : Nat → Int32} (hx : XT t x) (pu : PX t i x 4 0 5 4 GT n) (pm : PX t i x 3 1 6 5 GM n) : PT t i x (n + 1) := by
  intro d d' p k C T σ ρ hd hd' hk hn h
  obtain ⟨d, rfl⟩ : ∃ y, d = y + 1 := ⟨d - 1, by omega⟩
  show LR t i x σ ρ p k C T (GT (5 + 2 * (6 - k))) (f_X3_isTruth_o 20000 (g_X3_law 20000 d) 6 (Int32.ofNat k) σ) ((g_X12_law 20000 d' 0 344 ρ).bind fun p4 => g_X12_law 20000 d' 1 344 p4)
  have r := pu d d' p k C T σ ρ (by omega) (by omega) hk (by omega) h
  unfold f_X3_isTruth_o
  refine LR.bi (KA := fun s => (g_X3_law 20000 d 3 6 (Int32.ofNat k) s).bind fun r => if r.1 = 0 then some (0, r.2) else some (1, r.2)) (KB := fun s => g_X12_law 20000 d' 1 344 s) r (Nat.le_refl p) (fun υ φ U q' m1 m2 m3 => ?_) (fun υ φ q' n' m1 m2 m3 => ?_)
  · have r2 := pm d d' q' k _ _ υ φ (by omega) (by omega) hk (by omega) m1
    refine LR.id (LR.up (LR.mo r2 (fun V hV => ?_)) KZ.rf KE.rf (by omega))
    intro s hs
    rw [ck_app, m3 s (by omega), Option.bind_some]
    exact hV s (by omega)
  · obtain ⟨d', rfl⟩ : ∃ y, d' = y + 1 := ⟨d' - 1, by omega⟩
    exact ⟨φ, n', gomu_b hx m1, KE.rf, m1, by omega⟩
theorem px_mtl {t i d d' k : Nat} {x : Nat → Int32} (hx : XT t x) (pa : ∀ (p : Nat) (C : List Int32) (T : List Tk) (σ ρ : Sg), LSt t i x σ ρ p k C T → LR t i x σ ρ p k C T (GT (5 + 2 * (6 - k))) (g_X3_law 20000 d 2 6 (Int32.ofNat k) σ) ((g_X12_law 20000 d' 0 344 ρ).bind fun p4 => g_X12_law 20000 d' 1 344 p4)) : ∀ (m m' p v : Nat) (C : List Int32) (T : List Tk) (σ ρ : Sg), t - p < m → t - p < m' → v ≤ p → LSt t i x σ ρ p k C T → LR t i x σ ρ p k C T (GM (6 + 2 * (6 - k))) (f_X3_areMoreTruths_L2 20000 (g_X3_law 20000 d) 6 m (Int32.ofNat k) (Int32.ofNat v) σ) (f_X12_goOnOr_L0 20000 (g_X12_law 20000 d') 344 m' ρ) := by
  have ht := hx.1
  intro m
  induction m with
  | zero => intro m' p v C T σ ρ h1; exact absurd h1 (by omega)
  | succ m ih =>
    intro m' p v C T σ ρ hm hm' hv h
    obtain ⟨m', rfl⟩ : ∃ y, m' = y + 1 := ⟨m' - 1, by omega⟩
    have hpt := h.2.1
    have tk := tks_v (c := 124) hx h
    obtain ⟨l1, l2, q1, q2, q3, l3⟩ := h.lk hx
    generalize pb_ x t p = q at tk l1 l2 q1 q2 q3 l3
    have c9 := l3.2.2.2.2.2.2.2.2
    rw [f_X3_areMoreTruths_L2, f_X12_goOnOr_L0, if_neg (by rw [l_240, o_lt (by omega) (by omega)]; omega), if_pos h.2.2.2.2.1, f_of l2]
    dsimp only
    by_cases c1 : sx_ x t q = 124
    · have ql := sx_l hx c1 (by decide)
      rw [if_pos c1] at tk
      have h1 := h.mv (q := q + 1) (by omega) (by omega)
      have r := pa (q + 1) C T _ _ h1
      have sc : f_X2_signCode 124 = some (-100 - 124) := rfl
      rw [if_pos c1, f_of tk]
      dsimp only
      rw [if_neg (show ¬ (1 : Int32) = 0 by decide), gI_e, o_s q, pI_2]
      refine LR.up (σ' := put_I σ 6 2 (Int32.ofNat (q + 1))) (ρ' := put_I ρ 344 3 (Int32.ofNat (q + 1))) (b' := q) ?_ (KZ.put (by omega) (by omega)) (KE.put (by omega)) q1
      have asc : ((g_X12_law 20000 d' 0 344 (put_I ρ 344 3 (Int32.ofNat (q + 1)))).bind fun p4 => (g_X12_law 20000 d' 1 344 p4).bind fun p5 => (f_X12_put 344 11 0 p5).bind fun p6 => f_X12_goOnOr_L0 20000 (g_X12_law 20000 d') 344 m' p6) = (((g_X12_law 20000 d' 0 344 (put_I ρ 344 3 (Int32.ofNat (q + 1)))).bind fun p4 => g_X12_law 20000 d' 1 344 p4).bind fun s => (f_X12_put 344 11 0 s).bind fun p5 => f_X12_goOnOr_L0 20000 (g_X12_law 20000 d') 344 m' p5) := (Option.bind_assoc _ _ _).symm
      rw [asc]
      refine LR.bi (KA := fun s => (f_X2_signCode 124).bind fun p6 => (f_X3_write 6 p6 s).bind fun p7 => f_X3_areMoreTruths_L2 20000 (g_X3_law 20000 d) 6 m (Int32.ofNat k) (Int32.ofNat v + 1) p7) (KB := fun s => (f_X12_put 344 11 0 s).bind fun p5 => f_X12_goOnOr_L0 20000 (g_X12_law 20000 d') 344 m' p5) r (by omega) (fun υ φ U q' m1 m2 m3 => ?_) (fun υ φ q' n' m1 m2 m3 => ?_)
      · have cl : (C ++ U.map tk_c).length = C.length + U.length := by rw [List.length_append, List.length_map]
        have tl : (T ++ U).length = T.length + U.length := List.length_append
        have q5 := m1.2.1
        obtain ⟨υ1, φ1, u1, u2, u3, u4, u5⟩ := m1.wr hx (11, 0) (by omega) (by omega)
        have u1' : f_X3_write 6 (-100 - 124) υ = some υ1 := u1
        have u2' : f_X12_put 344 11 0 φ = some φ1 := u2
        show LR t i x υ φ (q + U.length) k (C ++ U.map tk_c) (T ++ U) _ ((f_X2_signCode 124).bind fun p6 => (f_X3_write 6 p6 υ).bind fun p7 => f_X3_areMoreTruths_L2 20000 (g_X3_law 20000 d) 6 m (Int32.ofNat k) (Int32.ofNat v + 1) p7) ((f_X12_put 344 11 0 φ).bind fun p5 => f_X12_goOnOr_L0 20000 (g_X12_law 20000 d') 344 m' p5)
        rw [f_of sc, f_of u1', f_of u2', o_s v]
        have r2 := ih m' q' (v + 1) _ _ _ _ (by omega) (by omega) (by omega) u5
        refine LR.pre (W := [(11, 0)]) r2 (fun V hV => ?_) u3 u4 (by show q + U.length + 1 ≤ q'; omega)
        intro s hs
        rw [ck_app, m3 (true :: s) (by rw [List.length_cons]; omega), Option.bind_some, ck_app, ck_oa (by decide), Option.bind_some]
        exact hV s hs
      · obtain ⟨φ1, f1, f2, f3⟩ := m1.pt hx (by omega) 11 0
        obtain ⟨m', rfl⟩ : ∃ y, m' = y + 1 := ⟨m' - 1, by omega⟩
        refine ⟨φ1, n' + 1, ?_, f2, f3, by omega⟩
        show (f_X12_put 344 11 0 φ).bind _ = some φ1
        rw [f_of f1, f_X12_goOnOr_L0, if_neg (f3.nm hx)]
    · rw [if_neg c1] at tk
      rw [if_neg c1, f_of tk]
      dsimp only
      rw [if_pos rfl]
      exact (LR.ok l3 (Nat.le_refl q) (fun s _ => rfl)).up (KZ.put (by omega) (by omega)) (KE.put (by omega)) q1
theorem gomt_b {t i d' q n : Nat} {x : Nat → Int32} {σ ρ : Sg} (hx : XT t x) (h : LB t i x σ ρ q n) : g_X12_law 20000 (d' + 1) 2 344 ρ = some ρ := by
  rw [gx_Or, f_X12_goOnOr_L0, if_neg (h.nm hx)]
theorem px_mt {t i n : Nat} {x : Nat → Int32} (hx : XT t x) (pt : PT t i x n) : PX t i x 1 2 8 6 GM (n + 1) := by
  have ht := hx.1
  intro d d' p k C T σ ρ hd hd' hk hn h
  obtain ⟨d, rfl⟩ : ∃ y, d = y + 1 := ⟨d - 1, by omega⟩
  obtain ⟨d', rfl⟩ : ∃ y, d' = y + 1 := ⟨d' - 1, by omega⟩
  rw [gx_Or, gx_Truths]
  exact px_mtl hx (fun p C T σ ρ h => pt d d' p k C T σ ρ (by omega) (by omega) hk (by omega) h) 20000 20000 p 0 C T σ ρ (by omega) (by omega) (by omega) h
theorem px_cd {t i n : Nat} {x : Nat → Int32} (hx : XT t x) (pt : PT t i x n) (pm : PX t i x 1 2 8 6 GM n) : PX t i x 0 3 9 6 GT (n + 1) := by
  intro d d' p k C T σ ρ hd hd' hk hn h
  obtain ⟨d, rfl⟩ : ∃ y, d = y + 1 := ⟨d - 1, by omega⟩
  obtain ⟨d', rfl⟩ : ∃ y, d' = y + 1 := ⟨d' - 1, by omega⟩
  show LR t i x σ ρ p k C T (GT (6 + 2 * (6 - k))) (f_X3_isCondition_o 20000 (g_X3_law 20000 d) 6 (Int32.ofNat k) σ) ((g_X12_law 20000 d' 0 344 ρ).bind fun p1 => (g_X12_law 20000 d' 1 344 p1).bind fun p2 => (g_X12_law 20000 d' 2 344 p2).bind fun p3 => some p3)
  have asc : ((g_X12_law 20000 d' 0 344 ρ).bind fun p1 => (g_X12_law 20000 d' 1 344 p1).bind fun p2 => (g_X12_law 20000 d' 2 344 p2).bind fun p3 => some p3) = (((g_X12_law 20000 d' 0 344 ρ).bind fun p4 => g_X12_law 20000 d' 1 344 p4).bind fun s => (g_X12_law 20000 d' 2 344 s).bind fun p3 => some p3) := (Option.bind_assoc _ _ _).symm
  have r := pt d d' p k C T σ ρ (by omega) (by omega) hk (by omega) h
  rw [asc]
  unfold f_X3_isCondition_o
  refine LR.bi (KA := fun s => (g_X3_law 20000 d 1 6 (Int32.ofNat k) s).bind fun r => if r.1 = 0 then some (0, r.2) else some (1, r.2)) (KB := fun s => (g_X12_law 20000 d' 2 344 s).bind fun p3 => some p3) r (Nat.le_refl p) (fun υ φ U q' m1 m2 m3 => ?_) (fun υ φ q' n' m1 m2 m3 => ?_)
  · have r2 := pm d d' q' k _ _ υ φ (by omega) (by omega) hk (by omega) m1
    show LR t i x υ φ (p + U.length) k (C ++ U.map tk_c) (T ++ U) _ _ ((g_X12_law 20000 d' 2 344 φ).bind fun p3 => some p3)
    rw [obi_]
    refine LR.id (LR.up (LR.mo r2 (fun V hV => ?_)) KZ.rf KE.rf (by omega))
    intro s hs
    rw [ck_app, m3 s (by omega), Option.bind_some]
    exact hV s (by omega)
  · obtain ⟨d', rfl⟩ : ∃ y, d' = y + 1 := ⟨d' - 1, by omega⟩
    refine ⟨φ, n', ?_, KE.rf, m1, by omega⟩
    show (g_X12_law 20000 (d' + 1) 2 344 φ).bind _ = _
    rw [f_of (gomt_b hx m1)]
/-- all of them, at every depth -/
theorem px_all {t i : Nat} {x : Nat → Int32} (hx : XT t x) : ∀ n, PX t i x 8 7 1 1 GN n ∧ PX t i x 7 6 2 2 GN n ∧ PX t i x 6 5 3 3 GN n ∧ PX t i x 5 4 4 4 GC n ∧ PX t i x 4 0 5 4 GT n ∧ PX t i x 3 1 6 5 GM n ∧ PT t i x n ∧ PX t i x 1 2 8 6 GM n ∧ PX t i x 0 3 9 6 GT n
  | 0 => ⟨fun d d' p k C T σ ρ h1 h2 h3 h4 => absurd h4 (by omega), fun d d' p k C T σ ρ h1 h2 h3 h4 => absurd h4 (by omega), fun d d' p k C T σ ρ h1 h2 h3 h4 => absurd h4 (by omega), fun d d' p k C T σ ρ h1 h2 h3 h4 => absurd h4 (by omega), fun d d' p k C T σ ρ h1 h2 h3 h4 => absurd h4 (by omega), fun d d' p k C T σ ρ h1 h2 h3 h4 => absurd h4 (by omega), fun d d' p k C T σ ρ h1 h2 h3 h4 => absurd h4 (by omega), fun d d' p k C T σ ρ h1 h2 h3 h4 => absurd h4 (by omega), fun d d' p k C T σ ρ h1 h2 h3 h4 => absurd h4 (by omega)⟩
  | n + 1 => by
    obtain ⟨h1, h2, h3, h4, h5, h6, h7, h8, h9⟩ := px_all hx n
    exact ⟨px_at hx h3, px_term hx h1, px_sum hx h2, px_cmp hx h3, px_un hx h3 h4 h5 h9, px_mu hx h5, px_tr hx h5 h6, px_mt hx h7, px_cd hx h7 h8⟩
