/-! ===== the reader of lanterns: whole lanterns ===== -/
/-- after a clause -/
theorem ln_t {t m m' q h n v : Nat} {x : Nat → Int32} {σ ρ : Sg} (hx : XT t x) (ns : NS t x σ ρ q h n) (qk : pb_ x t q = q) (ih : ∀ (σ ρ : Sg), q < t → NS t x σ ρ (q + 1) h n → WN σ ρ (f_X1_isWhole_L25 20000 2 m (Int32.ofNat (v + 1)) σ) (f_X12_readLantern_L44 20000 344 (m' + 1) (Int32.ofNat h) 1 ρ)) : WN σ ρ ((f_X6_takes 20000 2 59 σ).bind fun p6 => if p6.1 = 0 then (f_X6_nextSign 20000 2 p6.2).bind fun p8 => if p8.1 = -1 then (if 0 < sg_I p8.2 2 6 then some (1, p8.2) else some (0, p8.2)) else some (0, p8.2) else f_X1_isWhole_L25 20000 2 m (Int32.ofNat v + 1) p6.2) (f_X12_readLantern_B154 20000 344 (f_X12_readLantern_L44 20000 344 (m' + 1)) (Int32.ofNat h) ρ) := by
  have ht := hx.1
  obtain ⟨a1, a2, a3, a4, a5, a6, a7, a8, a9, a10, a11, a12, a13, a14, a15, a16, a17, a18, a19⟩ := ns
  have tk := tk2_v (c := 59) hx a1 a8 a9
  have nx := ns_v hx (by decide) a1 a8 a9
  rw [qk] at tk nx
  rw [pI_s a9] at nx
  by_cases c : sx_ x t q = 59
  · have ql := sx_l hx c (by decide)
    rw [if_pos c] at tk
    rw [f_of tk, b54_s hx a6 a8 qk a10 a11 c]
    dsimp only
    rw [if_neg (show ¬ (1 : Int32) = 0 by decide), o_s v]
    refine WN.up (ih _ _ ql ⟨a1.put (by omega) (by omega), a2, a3, a4, a5, a6.put (by omega) (by omega), a7, by omega, gI_e, gI_e, by rw [gI_n (by omega)]; exact a11, by rw [gI_n (by omega)]; exact a12, a13, by rw [gI_n (by omega)]; exact a14, by rw [gI_n (by omega)]; exact a15, a16, fun j hj => by rw [gI_n (by omega), gI_n (by omega)]; exact a17 j hj, fun h0 j hj => by rw [gI_n (by omega)]; exact a18 h0 j hj, fun w hw j hj => by rw [gI_n (by omega), gI_n (by omega)]; exact a19 w hw j hj⟩) (KZ.put (by omega) (by omega)) (KI.put (Or.inl ⟨rfl, Or.inl rfl⟩))
  · rw [if_neg c, pI_s a9] at tk
    rw [f_of tk, b54_n hx a6 a8 qk a10 a11 c]
    dsimp only
    rw [if_pos rfl, f_of nx]
    dsimp only
    have cn : (0 : Int32) < Int32.ofNat n ↔ 0 < n := by rw [l_0, o_lt (by omega) (by omega)]
    have ce : Int32.ofNat n = 0 ↔ n = 0 := by rw [l_0, o_eq (by omega) (by omega)]
    rw [a14, a15]
    by_cases c1 : sx_ x t q = -1
    · rw [if_pos c1]
      by_cases c2 : 0 < n
      · rw [if_pos (cn.mpr c2), if_pos ⟨c1, fun z => absurd (ce.mp z) (by omega)⟩]
        exact ⟨1, σ, -1, ρ, rfl, rfl, KZ.rf, KI.rf, Or.inr ⟨rfl, rfl, n, c2, a16, a14, a15, a17, a19⟩⟩
      · rw [if_neg (fun z => c2 (cn.mp z)), if_neg (fun z => z.2 (ce.mpr (by omega)))]
        exact ⟨_, σ, _, _, rfl, rfl, KZ.rf, KI.put (Or.inl ⟨rfl, Or.inr (Or.inl rfl)⟩), Or.inl ⟨rfl, a9.symm, o_m (by omega)⟩⟩
    · rw [if_neg c1, if_neg (fun z => c1 z.1)]
      exact ⟨_, σ, _, _, rfl, rfl, KZ.rf, KI.put (Or.inl ⟨rfl, Or.inr (Or.inl rfl)⟩), Or.inl ⟨rfl, a9.symm, o_m (by omega)⟩⟩
theorem WN.bad {t f q : Nat} {σ ρ υ φ : Sg} (hf : f ≤ 240) (kz : KZ 2 σ υ) (k2 : KI PL ρ φ) (h : sg_I υ 2 2 = Int32.ofNat f) : WN σ ρ (some (0, υ)) (some (Int32.ofNat f, φ)) := ⟨0, υ, _, φ, rfl, rfl, kz, k2, Or.inl ⟨rfl, h.symm, o_m (by omega)⟩⟩
theorem ln_w {t : Nat} {x : Nat → Int32} (hx : XT t x) : ∀ (m m' p h n v : Nat) (σ ρ : Sg), t - p < m → t - p + 1 < m' → v ≤ p → NS t x σ ρ p h n → WN σ ρ (f_X1_isWhole_L25 20000 2 m (Int32.ofNat v) σ) (f_X12_readLantern_L44 20000 344 m' (Int32.ofNat h) 1 ρ) := by
  have ht := hx.1
  intro m
  induction m with
  | zero => intro m' p h n v σ ρ h1; exact absurd h1 (by omega)
  | succ m ih =>
    intro m' p h n v σ ρ hm hm' hv hns
    obtain ⟨m', rfl⟩ : ∃ y, m' = y + 2 := ⟨m' - 2, by omega⟩
    obtain ⟨a1, a2, a3, a4, a5, a6, a7, a8, a9, a10, a11, a12, a13, a14, a15, a16, a17, a18, a19⟩ := hns
    have qb := pb_b (x := x) a8
    have qk := pb_k (x := x) a8
    have tk := tk2_v (c := 115) hx a1 a8 a9
    have tkw := tk2_v (c := 119) hx a1 a8 a9
    have nx := ns_v hx (by decide) a1 a8 a9
    have lk := lq_v hx a6 a8 a10
    generalize pb_ x t p = q at qb qk tk tkw nx lk
    obtain ⟨q1, q2, q3⟩ := qb
    have ctq : CT 2 t x (put_I σ 2 2 (Int32.ofNat q)) := a1.put (by omega) (by omega)
    have tkw2 := tk2_v (c := 119) hx ctq q2 gI_e
    have nxq := ns_v hx (by decide) ctq q2 gI_e
    rw [qk, pI_2] at tkw2 nxq
    rw [pI_2] at tkw2
    have R17 : sg_R ρ 344 17 = some 355 := by simp only [a7]
    have R18 : sg_R ρ 344 18 = some 356 := by simp only [a7]
    have L55 : sg_L ρ 355 = 3 := by simp only [a7]
    have L56 : sg_L ρ 356 = 16 := by simp only [a7]
    rw [f_X1_isWhole_L25, if_neg (by rw [l_240, o_lt (by omega) (by omega)]; omega), f_X12_readLantern_L44, if_neg (show ¬ (1 : Int32) = 0 by decide), if_pos a11, f_of lk]
    dsimp only
    have cn4 : Int32.ofNat n < 4 ↔ n < 4 := by rw [l_4, o_lt (by omega) (by omega)]
    /- what neither side takes -/
    have caseC : ¬ (sx_ x t q = 119 ∧ n < 4) → (sx_ x t q = 115 → ¬ h = 0) → f_X1_isClause 20000 2 σ = some (0, put_I σ 2 2 (Int32.ofNat q)) := by
      intro d1 d2
      have b104 : f_X1_isClause_B104 20000 2 (put_I σ 2 2 (Int32.ofNat q)) = some (0, put_I σ 2 2 (Int32.ofNat q)) := by
        unfold f_X1_isClause_B104
        rw [f_of nxq]
      have b104' : f_X1_isClause_B104 20000 2 σ = some (0, put_I σ 2 2 (Int32.ofNat q)) := by
        unfold f_X1_isClause_B104
        rw [f_of nx]
      unfold f_X1_isClause
      rw [a12]
      by_cases d3 : h = 0
      · have d4 : ¬ sx_ x t q = 115 := fun e => d2 e d3
        rw [if_neg d4] at tk
        rw [if_pos (by rw [d3]; rfl), f_of tk]
        dsimp only
        rw [if_pos rfl]
        unfold f_X1_isClause_B39
        rw [gI_n (by omega), a14]
        by_cases d5 : n < 4
        · rw [if_neg (fun e => d1 ⟨e, d5⟩)] at tkw2
          rw [if_pos (cn4.mpr d5), f_of tkw2]
          dsimp only
          rw [if_pos rfl, b104]
        · rw [if_neg (fun z => d5 (cn4.mp z)), b104]
      · rw [if_neg (by rw [l_0, o_eq (by omega) (by omega)]; exact d3)]
        unfold f_X1_isClause_B39
        rw [a14]
        by_cases d5 : n < 4
        · rw [if_neg (fun e => d1 ⟨e, d5⟩)] at tkw
          rw [if_pos (cn4.mpr d5), f_of tkw]
          dsimp only
          rw [if_pos rfl, b104]
        · rw [if_neg (fun z => d5 (cn4.mp z)), b104']
    have badC : f_X12_readLantern_B150 20000 344 (f_X12_readLantern_L44 20000 344 (m' + 1)) (Int32.ofNat h) (put_I ρ 344 3 (Int32.ofNat q)) = some (Int32.ofNat q, put_I (put_I ρ 344 3 (Int32.ofNat q)) 344 4 (Int32.ofNat q)) := by
      have bd := bad_v (ρ := put_I ρ 344 3 (Int32.ofNat q)) (by rw [gI_n (by omega)]; exact a11)
      rw [gI_e] at bd
      unfold f_X12_readLantern_B150
      rw [f_of bd]
      exact b54_b (by omega) gI_e
    have endC : WN σ ρ (some (0, put_I σ 2 2 (Int32.ofNat q))) (some (Int32.ofNat q, put_I (put_I ρ 344 3 (Int32.ofNat q)) 344 4 (Int32.ofNat q))) := WN.bad (t := t) (q := q) (by omega) (KZ.put (by omega) (by omega)) ((KI.put (Or.inl ⟨rfl, Or.inl rfl⟩)).tr (KI.put (Or.inl ⟨rfl, Or.inr (Or.inl rfl)⟩))) gI_e
    by_cases c1 : sx_ x t q = 115
    · rw [if_pos c1]
      by_cases c2 : h = 0
      · subst c2
        have ql := sx_l hx c1 (by decide)
        rw [if_pos c1] at tk
        obtain ⟨φd, f1, f2, f3, f4⟩ := df_l (o := 0) (c := 3) (L := 3) (b := 355) (us := fun l => Int32.ofNat (sUs l)) (fun l hl => (s_us l hl).1) (by omega) (by omega) 3 0 20000 (put_I ρ 344 3 (Int32.ofNat (q + 1))) (by omega) (by omega) L55
        have f1' : f_X12_items 20000 344 115 (some 355) 0 3 (put_I ρ 344 3 (Int32.ofNat (q + 1))) = ((f_X12_look 20000 344 φd).bind fun p2 => (f_X12_itemOf 115 p2.1).bind fun p3 => f_X12_items_L41 20000 344 20000 115 (some 355) (Int32.ofNat 0) 0 p3 p2.2) := f1
        have kd : KI (PR 355 0 3) ρ φd := (KI.put (Or.inl ⟨rfl, Or.inl rfl⟩)).tr (f2.mo (fun a j z => Or.inr z))
        have d3 : sg_I φd 344 3 = Int32.ofNat (q + 1) := by rw [f2.2 344 3 (by omega), gI_e]
        have lk2 := lq_v hx (kd.rt (by omega) a6) (show q + 1 ≤ t by omega) d3
        have r1 := pb_b (x := x) (show q + 1 ≤ t by omega)
        have kd2 : KI (PR 355 0 3) ρ (put_I φd 344 3 (Int32.ofNat (pb_ x t (q + 1)))) := kd.tr (KI.put (Or.inl ⟨rfl, Or.inl rfl⟩))
        have it := s_its (o := 0) hx (by omega) 20000 20000 (q + 1) (pb_ x t (q + 1)) 0 (put_I (put_I σ 2 2 (Int32.ofNat (q + 1))) 2 4 1) (put_I φd 344 3 (Int32.ofNat (pb_ x t (q + 1)))) (by omega) (by omega) (by omega) (by omega) rfl ((a1.put (by omega) (by omega)).put (by omega) (by omega)) (kd2.rt (by omega) a6) (by rw [kd2.1.2.1, kd2.1.2.2.1]; exact a7) a4 (by rw [gI_n (by omega), gI_e]) gI_e (by rw [gI_n (by omega), f2.2 344 4 (by omega), gI_n (by omega)]; exact a11) (fun j hj => ⟨sUs j, by rw [gI_n (by omega), gI_n (by omega), Nat.zero_add]; exact a18 rfl j hj, by rw [gI_n (by omega)]; exact f4 j (by omega) hj, (s_us j hj).2.2⟩)
        generalize pb_ x t (q + 1) = q5 at lk2 r1 kd2 it
        obtain ⟨r, υ, φ, g1, g2, g3, g4, g5⟩ := it
        have g1' : f_X1_areItems 20000 2 6 0 1 (some 4) 0 (put_I (put_I σ 2 2 (Int32.ofNat (q + 1))) 2 4 1) = some (r, υ) := g1
        have g2' : ((f_X12_itemOf 115 (sx_ x t q5)).bind fun p3 => f_X12_items_L41 20000 344 20000 115 (some 355) (Int32.ofNat 0) 0 p3 (put_I φd 344 3 (Int32.ofNat q5))) = some φ := g2
        have cl : f_X1_isClause 20000 2 σ = some (r, υ) := by
          unfold f_X1_isClause
          rw [a12, if_pos (show Int32.ofNat 0 = 0 from rfl), f_of tk]
          dsimp only
          rw [if_neg (show ¬ (1 : Int32) = 0 by decide), show sg_R (put_I (put_I σ 2 2 (Int32.ofNat (q + 1))) 2 4 1) 2 3 = some 4 from a2, f_of g1']
        rw [if_pos (show Int32.ofNat 0 = 0 from rfl), f_of cl, c1, gI_e, o_s q, pI_2, show sg_R (put_I ρ 344 3 (Int32.ofNat (q + 1))) 344 17 = some 355 from R17, f1', f_of lk2]
        dsimp only
        rw [f_of g2']
        have kzA : KZ 2 σ υ := (KZ.put (by omega) (by omega)).tr ((KZ.put (by omega) (by omega)).tr (g3.kz (by omega)))
        have kiA : KI PL ρ φ := (kd2.pl (by omega)).tr (g4.pl (by omega))
        rcases g5 with ⟨rfl, q', y1, y2, y3, y4, y5, y6, y7⟩ | ⟨rfl, f, y1, y2, y3⟩ | ⟨rfl, q', y1, y2, y3, y4, y5, y6, y7⟩
        · rw [if_neg (show ¬ (1 : Int32) = 0 by decide)]
          have nsn : NS t x υ φ q' 1 n := ⟨g3.ct (by omega) ((a1.put (by omega) (by omega)).put (by omega) (by omega)), by rw [g3.1.2.1]; exact a2, by rw [g3.1.2.1]; exact a3, by rw [g3.1.2.2.1]; exact a4, by rw [g3.1.2.2.1]; exact a5, g4.rt (by omega) (kd2.rt (by omega) a6), by rw [g4.1.2.1, g4.1.2.2.1, kd2.1.2.1, kd2.1.2.2.1]; exact a7, y2, y4, y5, y6, by rw [g3.2 2 4 (by unfold PC; omega), gI_e]; rfl, Nat.le_refl 1, by rw [g3.2 2 6 (by unfold PC; omega), gI_n (by omega), gI_n (by omega)]; exact a14, by rw [g4.2 344 19 (by unfold PR; omega), gI_n (by omega), f2.2 344 19 (by omega), gI_n (by omega)]; exact a15, a16, fun j hj => by have := y7 j hj; rw [Nat.zero_add] at this; exact this, fun z => absurd z (by decide), fun w hw j hj => by rw [g3.2 5 _ (by unfold PC; omega), gI_n (by omega), gI_n (by omega), g4.2 356 _ (by unfold PR; omega), gI_n (by omega), f2.2 356 _ (by omega), gI_n (by omega)]; exact a19 w hw j hj⟩
          exact WN.up (ln_t (m := m) (m' := m') (v := v) hx nsn y3 (fun σ ρ zl zs => ih (m' + 1) (q' + 1) 1 n (v + 1) σ ρ (by omega) (by omega) (by omega) zs)) kzA kiA
        · rw [if_pos rfl, b54_b (by omega) y3]
          exact WN.bad (t := t) (q := q) (by omega) kzA kiA y2
        · rw [if_pos rfl, b54_n hx (g4.rt (by omega) (kd2.rt (by omega) a6)) y1 y2 y4 y5 y6, if_neg (fun z => y7 z.1)]
          exact WN.bad (t := t) (q := q) (by omega) kzA (kiA.tr (KI.put (Or.inl ⟨rfl, Or.inr (Or.inl rfl)⟩))) y3
      · rw [if_neg (by rw [l_0, o_eq (by omega) (by omega)]; exact c2), f_of (caseC (fun z => absurd (c1.symm.trans z.1) (by decide)) (fun _ => c2))]
        unfold f_X12_readLantern_B97
        dsimp only
        rw [if_pos rfl, if_neg (by rw [c1]; decide), badC]
        exact endC
    · rw [if_neg c1]
      unfold f_X12_readLantern_B97
      by_cases c3 : sx_ x t q = 119
      · rw [if_pos c3, gI_n (by omega), a15]
        by_cases c4 : n < 4
        · have ql := sx_l hx c3 (by decide)
          rw [if_pos c3] at tkw tkw2
          have b39 : ∀ s, f_X6_takes 20000 2 119 s = some (1, put_I σ 2 2 (Int32.ofNat (q + 1))) → sg_I s 2 6 = Int32.ofNat n → f_X1_isClause_B39 20000 2 s = f_X1_areItems 20000 2 7 3 4 (some 5) (Int32.ofNat (4 * n)) (cpy_K (put_I (put_I σ 2 2 (Int32.ofNat (q + 1))) 2 6 (Int32.ofNat (n + 1))) 5 5 0 (4 * n) 4) := by
            intro s z1 z2
            unfold f_X1_isClause_B39
            rw [z2, if_pos (cn4.mpr c4), f_of z1]
            dsimp only
            rw [if_neg (show ¬ (1 : Int32) = 0 by decide), gI_n (by omega), a14, o_s n, show sg_R (put_I (put_I σ 2 2 (Int32.ofNat (q + 1))) 2 6 (Int32.ofNat (n + 1))) 2 5 = some 5 from a3, f_of rfl, l_4, o_mul]
            have z0 : (0 : Int32).toNatClampNeg = 0 := rfl
            have z4 : (Int32.ofNat 4).toNatClampNeg = 4 := rfl
            have zn : (Int32.ofNat (4 * n)).toNatClampNeg = 4 * n := o_tn (by omega)
            have zL : sg_L (put_I (put_I σ 2 2 (Int32.ofNat (q + 1))) 2 6 (Int32.ofNat (n + 1))) 5 = 16 := a5
            rw [z0, z4, zn, zL, if_neg]
            · rw [show sg_R (cpy_K (put_I (put_I σ 2 2 (Int32.ofNat (q + 1))) 2 6 (Int32.ofNat (n + 1))) 5 5 0 (4 * n) 4) 2 5 = some 5 from a3]
              cases f_X1_areItems 20000 2 7 3 4 (some 5) (Int32.ofNat (4 * n)) (cpy_K (put_I (put_I σ 2 2 (Int32.ofNat (q + 1))) 2 6 (Int32.ofNat (n + 1))) 5 5 0 (4 * n) 4) <;> rfl
            · rintro (z | z | z | z | z)
              · exact absurd z (by decide)
              · exact o_nn (by omega) z
              · exact absurd z (by decide)
              · exact absurd z (by decide)
              · omega
          have cl0 : f_X1_isClause 20000 2 σ = f_X1_areItems 20000 2 7 3 4 (some 5) (Int32.ofNat (4 * n)) (cpy_K (put_I (put_I σ 2 2 (Int32.ofNat (q + 1))) 2 6 (Int32.ofNat (n + 1))) 5 5 0 (4 * n) 4) := by
            unfold f_X1_isClause
            rw [a12]
            by_cases d3 : h = 0
            · rw [if_neg c1] at tk
              rw [if_pos (by rw [d3]; rfl), f_of tk]
              dsimp only
              rw [if_pos rfl, b39 _ tkw2 (by rw [gI_n (by omega)]; exact a14)]
            · rw [if_neg (by rw [l_0, o_eq (by omega) (by omega)]; exact d3), b39 _ tkw a14]
          have kq : ∀ j, sg_I (cpy_K (put_I (put_I σ 2 2 (Int32.ofNat (q + 1))) 2 6 (Int32.ofNat (n + 1))) 5 5 0 (4 * n) 4) 5 j = if 4 * n ≤ j ∧ j < 4 * n + 4 then kv_ 5 (0 + (j - 4 * n)) else sg_I σ 5 j := fun j => by
            rw [gI_Q, if_pos rfl]
            unfold va_cpy
            rw [gI_n (by omega), gI_n (by omega)]
          have kq2 : ∀ a j, a ≠ 5 → sg_I (cpy_K (put_I (put_I σ 2 2 (Int32.ofNat (q + 1))) 2 6 (Int32.ofNat (n + 1))) 5 5 0 (4 * n) 4) a j = sg_I (put_I (put_I σ 2 2 (Int32.ofNat (q + 1))) 2 6 (Int32.ofNat (n + 1))) a j := fun a j ha => by rw [gI_Q, if_neg ha]
          have kzq : KZ 2 σ (cpy_K (put_I (put_I σ 2 2 (Int32.ofNat (q + 1))) 2 6 (Int32.ofNat (n + 1))) 5 5 0 (4 * n) 4) := ⟨⟨rfl, rfl, rfl, rfl, rfl⟩, fun a ha => by funext j; rw [kq2 a j (by omega), gI_n (by omega), gI_n (by omega)], by rw [kq2 2 1 (by omega), gI_n (by omega), gI_n (by omega)]⟩
          have k22 : sg_I (cpy_K (put_I (put_I σ 2 2 (Int32.ofNat (q + 1))) 2 6 (Int32.ofNat (n + 1))) 5 5 0 (4 * n) 4) 2 2 = Int32.ofNat (q + 1) := by rw [kq2 2 2 (by omega), gI_n (by omega), gI_e]
          have k24 : sg_I (cpy_K (put_I (put_I σ 2 2 (Int32.ofNat (q + 1))) 2 6 (Int32.ofNat (n + 1))) 5 5 0 (4 * n) 4) 2 4 = Int32.ofNat h := by rw [kq2 2 4 (by omega), gI_n (by omega), gI_n (by omega)]; exact a12
          have k26 : sg_I (cpy_K (put_I (put_I σ 2 2 (Int32.ofNat (q + 1))) 2 6 (Int32.ofNat (n + 1))) 5 5 0 (4 * n) 4) 2 6 = Int32.ofNat (n + 1) := by rw [kq2 2 6 (by omega), gI_e]
          have k4 : ∀ j, sg_I (cpy_K (put_I (put_I σ 2 2 (Int32.ofNat (q + 1))) 2 6 (Int32.ofNat (n + 1))) 5 5 0 (4 * n) 4) 4 j = sg_I σ 4 j := fun j => by rw [kq2 4 j (by omega), gI_n (by omega), gI_n (by omega)]
          generalize cpy_K (put_I (put_I σ 2 2 (Int32.ofNat (q + 1))) 2 6 (Int32.ofNat (n + 1))) 5 5 0 (4 * n) 4 = σ3 at cl0 kq kzq k22 k24 k26 k4
          obtain ⟨φd, f1, f2, f3, f4⟩ := df_l (o := 4 * n) (c := 4) (L := 16) (b := 356) (us := fun l => Int32.ofNat (wUs l)) (fun l hl => (w_us l hl).1) (by omega) (by omega) 4 0 20000 (put_I ρ 344 3 (Int32.ofNat (q + 1))) (by omega) (by omega) L56
          have f1' : f_X12_items 20000 344 119 (some 356) (Int32.ofNat (4 * n)) 4 (put_I ρ 344 3 (Int32.ofNat (q + 1))) = ((f_X12_look 20000 344 φd).bind fun p2 => (f_X12_itemOf 119 p2.1).bind fun p3 => f_X12_items_L41 20000 344 20000 119 (some 356) (Int32.ofNat (4 * n)) 0 p3 p2.2) := f1
          have kd : KI (PR 356 (4 * n) 4) ρ φd := (KI.put (Or.inl ⟨rfl, Or.inl rfl⟩)).tr (f2.mo (fun a j z => Or.inr z))
          have d3 : sg_I φd 344 3 = Int32.ofNat (q + 1) := by rw [f2.2 344 3 (by omega), gI_e]
          have lk2 := lq_v hx (kd.rt (by omega) a6) (show q + 1 ≤ t by omega) d3
          have r1 := pb_b (x := x) (show q + 1 ≤ t by omega)
          have kd2 : KI (PR 356 (4 * n) 4) ρ (put_I φd 344 3 (Int32.ofNat (pb_ x t (q + 1)))) := kd.tr (KI.put (Or.inl ⟨rfl, Or.inl rfl⟩))
          have it := w_its (o := 4 * n) hx (by omega) 20000 20000 (q + 1) (pb_ x t (q + 1)) 0 σ3 (put_I φd 344 3 (Int32.ofNat (pb_ x t (q + 1)))) (by omega) (by omega) (by omega) (by omega) rfl (kzq.ct a1) (kd2.rt (by omega) a6) (by rw [kd2.1.2.1, kd2.1.2.2.1]; exact a7) (by rw [kzq.1.2.2.1]; exact a5) k22 gI_e (by rw [gI_n (by omega), f2.2 344 4 (by omega), gI_n (by omega)]; exact a11) (fun j hj => ⟨wUs j, by rw [kq, if_pos (by omega), show 0 + (4 * n + j - 4 * n) = j by omega]; exact (w_us j hj).2.1, by rw [gI_n (by omega)]; exact f4 j (by omega) hj, (w_us j hj).2.2⟩)
          generalize pb_ x t (q + 1) = q5 at lk2 r1 kd2 it
          obtain ⟨r, υ, φ, g1, g2, g3, g4, g5⟩ := it
          have g1' : f_X1_areItems 20000 2 7 3 4 (some 5) (Int32.ofNat (4 * n)) σ3 = some (r, υ) := g1
          have g2' : ((f_X12_itemOf 119 (sx_ x t q5)).bind fun p3 => f_X12_items_L41 20000 344 20000 119 (some 356) (Int32.ofNat (4 * n)) 0 p3 (put_I φd 344 3 (Int32.ofNat q5))) = some φ := g2
          have e19 : sg_I φ 344 19 = Int32.ofNat n := by rw [g4.2 344 19 (by unfold PR; omega), gI_n (by omega), f2.2 344 19 (by omega), gI_n (by omega)]; exact a15
          have e4n : (4 : Int32) * Int32.ofNat n = Int32.ofNat (4 * n) := by rw [l_4, o_mul]
          rw [if_pos (cn4.mpr c4), f_of (cl0.trans g1'), c3, gI_e, o_s q, pI_2, gI_n (by omega), a15, e4n, show sg_R (put_I ρ 344 3 (Int32.ofNat (q + 1))) 344 18 = some 356 from R18, f1', f_of lk2]
          dsimp only
          rw [f_of g2', e19, o_s n]
          have kzA : KZ 2 σ υ := kzq.tr (g3.kz (by omega))
          have kiA : KI PL ρ (put_I φ 344 19 (Int32.ofNat (n + 1))) := (kd2.pl (by omega)).tr ((g4.pl (by omega)).tr (KI.put (Or.inl ⟨rfl, Or.inr (Or.inr rfl)⟩)))
          rcases g5 with ⟨rfl, q', y1, y2, y3, y4, y5, y6, y7⟩ | ⟨rfl, f, y1, y2, y3⟩ | ⟨rfl, q', y1, y2, y3, y4, y5, y6, y7⟩
          · rw [if_neg (show ¬ (1 : Int32) = 0 by decide)]
            have nsn : NS t x υ (put_I φ 344 19 (Int32.ofNat (n + 1))) q' h (n + 1) := ⟨kzA.ct a1, by rw [kzA.1.2.1]; exact a2, by rw [kzA.1.2.1]; exact a3, by rw [kzA.1.2.2.1]; exact a4, by rw [kzA.1.2.2.1]; exact a5, (g4.rt (by omega) (kd2.rt (by omega) a6)).put (by omega) (by omega), by rw [kiA.1.2.1, kiA.1.2.2.1]; exact a7, y2, y4, by rw [gI_n (by omega)]; exact y5, by rw [gI_n (by omega)]; exact y6, by rw [g3.2 2 4 (by unfold PC; omega)]; exact k24, a13, by rw [g3.2 2 6 (by unfold PC; omega)]; exact k26, gI_e, by omega, fun j hj => by rw [g3.2 4 _ (by unfold PC; omega), k4, gI_n (by omega), g4.2 355 _ (by unfold PR; omega), gI_n (by omega), f2.2 355 _ (by omega), gI_n (by omega)]; exact a17 j hj, fun z j hj => by rw [g3.2 4 _ (by unfold PC; omega), k4]; exact a18 z j hj, fun w hw j hj => by
              rw [gI_n (by omega)]
              by_cases ew : w = n
              · subst ew
                exact y7 j hj
              · rw [g3.2 5 _ (by unfold PC; omega), kq, if_neg (by omega), g4.2 356 _ (by unfold PR; omega), gI_n (by omega), f2.2 356 _ (by omega), gI_n (by omega)]
                exact a19 w (by omega) j hj⟩
            exact WN.up (ln_t (m := m) (m' := m') (v := v) hx nsn y3 (fun σ ρ zl zs => ih (m' + 1) (q' + 1) h (n + 1) (v + 1) σ ρ (by omega) (by omega) (by omega) zs)) kzA kiA
          · rw [if_pos rfl, b54_b (f := f) (by omega) (by rw [gI_n (by omega)]; exact y3)]
            exact WN.bad (t := t) (q := q) (by omega) kzA kiA y2
          · rw [if_pos rfl, b54_n hx ((g4.rt (by omega) (kd2.rt (by omega) a6)).put (by omega) (by omega)) y1 y2 (by rw [gI_n (by omega)]; exact y4) (by rw [gI_n (by omega)]; exact y5) y6, if_neg (fun z => y7 z.1)]
            exact WN.bad (t := t) (q := q) (by omega) kzA (kiA.tr (KI.put (Or.inl ⟨rfl, Or.inr (Or.inl rfl)⟩))) y3
        · rw [if_neg (fun z => c4 (cn4.mp z)), f_of (caseC (fun z => c4 z.2) (fun z => absurd z c1)), badC]
          dsimp only
          rw [if_pos rfl]
          exact endC
      · rw [f_of (caseC (fun z => c3 z.1) (fun z => absurd z c1)), if_neg c3, badC]
        dsimp only
        rw [if_pos rfl]
        exact endC
