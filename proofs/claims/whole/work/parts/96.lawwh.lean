/-! ===== the reader of laws: whole laws ===== -/
theorem ksc_a {κ : Kl} : ∀ (K : List Kl) (p : Nat), ks_c p (K ++ [κ]) = ks_c p K ++ kl_c (p + (ks_c p K).length) κ
  | [], p => by
    show kl_c p κ ++ [] = [] ++ kl_c (p + 0) κ
    rw [List.append_nil, List.nil_append, Nat.add_zero]
  | q :: r, p => by
    show kl_c p q ++ ks_c (p + (kl_c p q).length) (r ++ [κ]) = (kl_c p q ++ ks_c (p + (kl_c p q).length) r) ++ kl_c (p + (kl_c p q ++ ks_c (p + (kl_c p q).length) r).length) κ
    rw [ksc_a r, List.length_append, List.append_assoc, Nat.add_assoc]
theorem kst_a {κ : Kl} : ∀ (K : List Kl), ks_t (K ++ [κ]) = ks_t K ++ (κ.1 ++ κ.2)
  | [] => by
    show κ.1 ++ (κ.2 ++ []) = [] ++ (κ.1 ++ κ.2)
    rw [List.append_nil, List.nil_append]
  | q :: r => by
    show q.1 ++ (q.2 ++ ks_t (r ++ [κ])) = (q.1 ++ (q.2 ++ ks_t r)) ++ (κ.1 ++ κ.2)
    rw [kst_a r, List.append_assoc, List.append_assoc]
theorem kso_l : ∀ (K : List Kl), ks_o K K.length = (ks_t K).length
  | [] => rfl
  | q :: r => by
    show q.1.length + q.2.length + ks_o r r.length = (q.1 ++ (q.2 ++ ks_t r)).length
    rw [kso_l r, List.length_append, List.length_append, Nat.add_assoc]
theorem kso_a {κ : Kl} : ∀ (K : List Kl) (c : Nat), c ≤ K.length → ks_o (K ++ [κ]) c = ks_o K c
  | [], c, h => by
    have : c = 0 := by
      have h : c ≤ 0 := h
      omega
    subst this
    rfl
  | q :: r, 0, h => rfl
  | q :: r, c + 1, h => by
    show q.1.length + q.2.length + ks_o (r ++ [κ]) c = q.1.length + q.2.length + ks_o r c
    rw [kso_a r c (by rw [List.length_cons] at h; omega)]
theorem kso_s {κ : Kl} : ∀ (K : List Kl), ks_o (K ++ [κ]) (K.length + 1) = (ks_t K).length + κ.1.length + κ.2.length
  | [] => by
    show κ.1.length + κ.2.length + ks_o [] 0 = 0 + κ.1.length + κ.2.length
    show κ.1.length + κ.2.length + 0 = _
    omega
  | q :: r => by
    show q.1.length + q.2.length + ks_o (r ++ [κ]) (r.length + 1) = (q.1 ++ (q.2 ++ ks_t r)).length + κ.1.length + κ.2.length
    rw [kso_s r, List.length_append, List.length_append]
    omega
def LI (i : Nat) (K : List Kl) (ρ : Sg) : Prop := sg_I ρ 349 i = Int32.ofNat K.length ∧ ∀ c, c < K.length → sg_I ρ 350 (140 * i + c) = Int32.ofNat (ks_o K c) ∧ sg_I ρ 351 (140 * i + c) = Int32.ofNat (ks_o K c + (K.getD c ([], [])).1.length) ∧ sg_I ρ 352 (140 * i + c) = Int32.ofNat (ks_o K (c + 1))
theorem LI.ke {i : Nat} {K : List Kl} {ρ φ : Sg} (h : LI i K ρ) (e : KE i ρ φ) : LI i K φ := by
  unfold LI
  rw [e.e9 (a := 349) (by omega), e.e9 (a := 350) (by omega), e.e9 (a := 351) (by omega), e.e9 (a := 352) (by omega)]
  exact h
/-- how a law's reading ends -/
def WR (t i : Nat) (x : Nat → Int32) (σ ρ : Sg) (A B : Option (Int32 × Sg)) : Prop := ∃ c υ e φ, A = some (c, υ) ∧ B = some (e, φ) ∧ KZ 6 σ υ ∧ KJJ i ρ φ ∧ ((c = 0 ∧ e = sg_I υ 6 2 ∧ ¬ e = -1) ∨ (c = 1 ∧ e = -1 ∧ ∃ K, LC (ks_c 0 K) υ ∧ LT i (ks_t K) φ ∧ LI i K φ ∧ K.length ≤ 120 ∧ (ks_c 0 K).length ≤ 240 ∧ (ks_t K).length ≤ 240 ∧ ∀ q ∈ K, ok_k q))
theorem WR.up {t i : Nat} {x : Nat → Int32} {σ ρ σ' ρ' : Sg} {A B : Option (Int32 × Sg)} (h : WR t i x σ' ρ' A B) (kz : KZ 6 σ σ') (kl : KJJ i ρ ρ') : WR t i x σ ρ A B := by
  obtain ⟨c, υ, e, φ, h1, h2, h3, h4, h5⟩ := h
  exact ⟨c, υ, e, φ, h1, h2, kz.tr h3, kl.tr h4, h5⟩
theorem aend_b {t i q n : Nat} {x : Nat → Int32} {σ ρ : Sg} (hx : XT t x) (h : LB t i x σ ρ q n) : f_X12_readLaw_B43 20000 344 ρ = some (Int32.ofNat q, ρ) := by
  unfold f_X12_readLaw_B43 f_X12_atEnd f_X12_atEnd_B20
  rw [if_neg (h.nm hx), f_of rfl, h.2.2.2.1]
theorem law_w {t i : Nat} {x : Nat → Int32} (hx : XT t x) : ∀ (m m' p v : Nat) (K : List Kl) (σ ρ : Sg), t - p < m → t - p < m' → v ≤ p → LSt t i x σ ρ p 0 (ks_c 0 K) (ks_t K) → LI i K ρ → 2 * K.length ≤ p → (∀ q ∈ K, ok_k q) → WR t i x σ ρ (f_X3_isWhole_L7 20000 6 m (Int32.ofNat v) σ) ((f_X12_clause 20000 344 ρ).bind fun p7 => f_X12_readLaw_L9 20000 344 m' p7) := by
  have ht := hx.1
  intro m
  induction m with
  | zero => intro m' p v K σ ρ h1; exact absurd h1 (by omega)
  | succ m ih =>
    intro m' p v K σ ρ hm hm' hv h hl hk ho
    obtain ⟨m', rfl⟩ : ∃ y, m' = y + 1 := ⟨m' - 1, by omega⟩
    have hp := h.2.1
    obtain ⟨c, υ, φ, a1, a2, a3, a4, a5⟩ := cls_2 hx h hl.1 (by omega)
    rw [f_X3_isWhole_L7, if_neg (by rw [l_240, o_lt (by omega) (by omega)]; omega), f_of a1, f_of a2]
    dsimp only
    refine WR.up ?_ a3 a4
    rcases a5 with ⟨rfl, V, U, q, C', b1, b2, b3, b4, b5, b6, b7, b8, b9⟩ | ⟨rfl, q, n, b1⟩
    · have eC : ks_c 0 K ++ C' = ks_c 0 (K ++ [(V, U)]) := by rw [ksc_a, Nat.zero_add, b3]
      have eT : ks_t K ++ (V ++ U) = ks_t (K ++ [(V, U)]) := by rw [kst_a]
      have eL : (K ++ [(V, U)]).length = K.length + 1 := by rw [List.length_append]; rfl
      rw [eC, eT] at b1
      have li : LI i (K ++ [(V, U)]) φ := by
        refine ⟨by rw [b5, hl.1, o_s, eL], fun c hc => ?_⟩
        rw [eL] at hc
        by_cases e : c = K.length
        · subst e
          rw [b7, b8, b9, kso_a K _ (Nat.le_refl _), kso_l, kso_s, List.getD_eq_getElem?_getD, List.getElem?_append_right (Nat.le_refl _), Nat.sub_self]
          exact ⟨rfl, rfl, rfl⟩
        · rw [(b6 (140 * i + c) (by omega)).1, (b6 (140 * i + c) (by omega)).2.1, (b6 (140 * i + c) (by omega)).2.2, kso_a K c (by omega), kso_a K (c + 1) (by omega), List.getD_eq_getElem?_getD, List.getElem?_append_left (by omega), ← List.getD_eq_getElem?_getD]
          exact hl.2 c (by omega)
      have ho' : ∀ z ∈ K ++ [(V, U)], ok_k z := by
        intro z hz
        rw [List.mem_append, List.mem_singleton] at hz
        rcases hz with hz | hz
        · exact ho z hz
        · rw [hz]; exact b4
      have hk' : 2 * (K ++ [(V, U)]).length ≤ q := by omega
      generalize K ++ [(V, U)] = K1 at b1 li ho' hk'
      have tk := tks_v (c := 59) hx b1
      obtain ⟨l1, l2, q1, q2, q3, l3⟩ := b1.lk hx
      have c9 := b1.2.2.2.2.2.2.2.2
      generalize pb_ x t q = q5 at tk l1 l2 q1 q2 q3 l3
      rw [if_neg (show ¬ (1 : Int32) = 0 by decide), f_X12_readLaw_L9, if_pos b1.2.2.2.2.1, f_of l2]
      dsimp only
      by_cases c1 : sx_ x t q5 = 59
      · have ql := sx_l hx c1 (by decide)
        rw [if_pos c1] at tk
        have h1 := b1.mv (q := q5 + 1) (by omega) (by omega)
        rw [if_pos c1, f_of tk]
        dsimp only
        rw [if_neg (show ¬ (1 : Int32) = 0 by decide), gI_e, o_s q5, pI_2, o_s v]
        exact (ih m' (q5 + 1) (v + 1) K1 _ _ (by omega) (by omega) (by omega) h1 (li.ke (KE.put (by omega))) (by omega) ho').up (KZ.put (by omega) (by omega)) (KE.put (by omega)).kl
      · rw [if_neg c1] at tk
        have l0 := l3.l0 hx q3
        rw [if_neg c1, f_of tk]
        dsimp only
        rw [if_pos rfl, f_of l0.1]
        dsimp only
        unfold f_X12_readLaw_B43 f_X12_atEnd f_X12_atEnd_B20
        rw [if_pos l3.2.2.2.2.1, f_of l0.2]
        dsimp only
        by_cases c2 : sx_ x t q5 = -1
        · rw [if_pos c2, if_pos c2, f_of rfl, l3.2.2.2.2.1]
          have c9' := l3.2.2.2.2.2.2.2.2
          exact ⟨1, _, -1, _, rfl, rfl, KZ.put (by omega) (by omega), (KE.put (by omega)).kl, Or.inr ⟨rfl, rfl, K1, l3.2.2.2.2.2.2.1, l3.2.2.2.2.2.2.2.1, li.ke (KE.put (by omega)), by omega, by omega, by omega, ho'⟩⟩
        · obtain ⟨d1, d2, d3⟩ := l3.bd
          rw [if_neg c2, if_neg c2, f_of d1, f_of rfl, d3.2.2.2.1]
          exact ⟨0, _, _, _, rfl, rfl, KZ.put (by omega) (by omega), ((KE.put (by omega)).tr d2).kl, Or.inl ⟨rfl, l3.2.2.1.symm, o_m (by omega)⟩⟩
    · rw [if_pos rfl, f_X12_readLaw_L9, if_neg (b1.nm hx), aend_b hx b1]
      have := b1.2.1
      exact ⟨0, υ, _, φ, rfl, rfl, KZ.rf, KJJ.rf, Or.inl ⟨rfl, b1.2.2.1.symm, o_m (by omega)⟩⟩
/-- both readers of a law, from the start -/
theorem law_2 {t i : Nat} {x : Nat → Int32} {σ ρ : Sg} (hx : XT t x) (ct : CT 6 t x σ) (hR : sg_R σ 6 3 = some 8) (hL : sg_L σ 8 = 720) (h2 : sg_I σ 6 2 = 0) (rt : RT t x ρ) (d : RF (sg_R ρ) (sg_L ρ)) (hi : i ≤ 4) : ∃ c υ e φ, f_X3_isWhole 20000 6 σ = some (c, υ) ∧ f_X12_readLaw 20000 344 (Int32.ofNat i) ρ = some (e, φ) ∧ KZ 6 σ υ ∧ KJJ i (put_I ρ 344 14 (Int32.ofNat i)) φ ∧ ((c = 0 ∧ e = sg_I υ 6 2 ∧ ¬ e = -1) ∨ (c = 1 ∧ e = -1 ∧ ∃ K, LC (ks_c 0 K) υ ∧ LT i (ks_t K) φ ∧ LI i K φ ∧ K.length ≤ 120 ∧ (ks_c 0 K).length ≤ 240 ∧ (ks_t K).length ≤ 240 ∧ ∀ q ∈ K, ok_k q)) := by
  have ht := hx.1
  have R8 : sg_R ρ 344 8 = some 348 := by simp only [d]
  have L8 : sg_L ρ 348 = 5 := by simp only [d]
  have R9 : sg_R ρ 344 9 = some 349 := by simp only [d]
  have L9 : sg_L ρ 349 = 5 := by simp only [d]
  have n5 : ¬ (Int32.ofNat i < 0 ∨ 5 ≤ (Int32.ofNat i).toNatClampNeg) := o_in (by omega) (by omega)
  have t5 : (Int32.ofNat i).toNatClampNeg = i := o_tn (by omega)
  have n5' : ¬ (Int32.ofNat i < 0 ∨ 5 ≤ i) := by rw [t5] at n5; exact n5
  have op : f_X12_open 344 (Int32.ofNat i) ρ = some (put_I (put_I (put_I (put_I (put_I (put_I ρ 344 14 (Int32.ofNat i)) 344 3 0) 344 4 (-1)) 344 5 0) 348 i 0) 349 i 0) := by
    unfold f_X12_open
    have R8a : sg_R (put_I (put_I (put_I (put_I ρ 344 14 (Int32.ofNat i)) 344 3 0) 344 4 (-1)) 344 5 0) 344 8 = some 348 := R8
    have L8a : sg_L (put_I (put_I (put_I (put_I ρ 344 14 (Int32.ofNat i)) 344 3 0) 344 4 (-1)) 344 5 0) 348 = 5 := L8
    have R9a : sg_R (put_I (put_I (put_I (put_I (put_I ρ 344 14 (Int32.ofNat i)) 344 3 0) 344 4 (-1)) 344 5 0) 348 i 0) 344 9 = some 349 := R9
    have L9a : sg_L (put_I (put_I (put_I (put_I (put_I ρ 344 14 (Int32.ofNat i)) 344 3 0) 344 4 (-1)) 344 5 0) 348 i 0) 349 = 5 := L9
    rw [f_of R8a, L8a, if_neg n5, t5, f_of R9a, L9a, if_neg n5']
  have ls : LSt t i x (put_I σ 6 4 0) (put_I (put_I (put_I (put_I (put_I (put_I ρ 344 14 (Int32.ofNat i)) 344 3 0) 344 4 (-1)) 344 5 0) 348 i 0) 349 i 0) 0 0 (ks_c 0 []) (ks_t []) := by
    refine ⟨⟨ct.put (by omega) (by omega), hR, hL, ?_, d, ?_, hi⟩, by omega, ?_, ?_, ?_, ?_, ⟨gI_e, fun j hj => absurd hj (Nat.not_lt_zero j)⟩, ⟨?_, fun j hj => absurd hj (Nat.not_lt_zero j)⟩, Nat.le_refl 0, Nat.le_refl 0⟩
    · exact (((((rt.put (by decide) (by decide)).put (by decide) (by decide)).put (by decide) (by decide)).put (by decide) (by decide)).put (by omega) (by omega)).put (by omega) (by omega)
    · rw [gI_n (by omega), gI_n (by omega), gI_n (by omega), gI_n (by omega), gI_n (by omega), gI_e]
    · rw [gI_n (by omega)]; exact h2
    · rw [gI_n (by omega), gI_n (by omega), gI_n (by omega), gI_n (by omega), gI_e]; rfl
    · rw [gI_n (by omega), gI_n (by omega), gI_n (by omega), gI_e]
    · rw [gI_n (by omega), gI_n (by omega), gI_e]; rfl
    · rw [gI_n (by omega), gI_e]; rfl
  have w := law_w (i := i) hx 20000 20000 0 0 [] _ _ (by omega) (by omega) (by omega) ls ⟨gI_e, fun c hc => absurd hc (Nat.not_lt_zero c)⟩ (Nat.le_refl 0) (fun q hq => by cases hq)
  have kz : KZ 6 σ (put_I σ 6 4 0) := KZ.put (by omega) (by omega)
  have kj : KJJ i (put_I ρ 344 14 (Int32.ofNat i)) (put_I (put_I (put_I (put_I (put_I (put_I ρ 344 14 (Int32.ofNat i)) 344 3 0) 344 4 (-1)) 344 5 0) 348 i 0) 349 i 0) := (KJJ.put (by omega)).tr ((KJJ.put (by omega)).tr ((KJJ.put (by omega)).tr ((KE.put (by omega)).kl.tr (KJJ.put (by omega)))))
  obtain ⟨c, υ, e, φ, h1, h2, h3, h4, h5⟩ := w.up kz kj
  refine ⟨c, υ, e, φ, h1, ?_, h3, h4, h5⟩
  unfold f_X12_readLaw
  rw [f_of op]
  exact h2
