/-! ===== odds ===== -/
theorem j_ti {n : Nat} (h : n < 9223372036854775808) : (Int64.ofNat n).toInt = n := Int64.toInt_ofNat_of_lt h
theorem j_32 {n : Nat} (h : n < 2147483648) : (Int32.ofNat n).toInt64 = Int64.ofNat n := Int32.toInt64_ofNat' (by rw [Int32.toInt_maxValue]; omega)
theorem j_div {a : Nat} (h : a < 9223372036854775808) : Int64.ofNat a / 100 = Int64.ofNat (a / 100) := by
  have h1 := j_ti h
  have e : (100 : Int64).toInt = 100 := rfl
  rw [← Int64.toInt_inj, Int64.toInt_div_of_ne_right _ _ (by decide), h1, e, j_ti (by omega), Int.tdiv_eq_ediv_of_nonneg (by omega)]
  exact (Int.natCast_ediv a 100).symm
/-- of part those by which the picture is shown, k ticks on -/
def oz_ (K : Option (List Kl)) (V : Int32) (l : Nat) (P : Nat → Int32) (f : Nat) (pic : Int32) (ch : Nat) : Nat → Nat → Nat → Nat → Nat
  | 0, spot, _, part => if P spot = pic then part else 0
  | k + 1, spot, tt, part => oz_ K V l P f pic ch k spot (tt + 1) (part * ch / 100) + oz_ K V l P f pic ch k (nx_ K V l P f spot tt) (tt + 1) (part - part * ch / 100)
theorem oz_le {K : Option (List Kl)} {V : Int32} {l : Nat} {P : Nat → Int32} {f : Nat} {pic : Int32} {ch : Nat} (hc : ch ≤ 100) : ∀ (k spot tt part : Nat), oz_ K V l P f pic ch k spot tt part ≤ part
  | 0, spot, tt, part => by
    show (if P spot = pic then part else 0) ≤ part
    split <;> omega
  | k + 1, spot, tt, part => by
    have h1 := oz_le (K := K) (V := V) (l := l) (P := P) (f := f) (pic := pic) hc k spot (tt + 1) (part * ch / 100)
    have h2 := oz_le (K := K) (V := V) (l := l) (P := P) (f := f) (pic := pic) hc k (nx_ K V l P f spot tt) (tt + 1) (part - part * ch / 100)
    have h3 : part * ch ≤ part * 100 := Nat.mul_le_mul_left part hc
    show oz_ K V l P f pic ch k spot (tt + 1) (part * ch / 100) + oz_ K V l P f pic ch k (nx_ K V l P f spot tt) (tt + 1) (part - part * ch / 100) ≤ part
    omega
theorem od_c {w : Nat} {V : Int32} {l : Nat} {P : Nat → Int32} {f t p : Nat} {law : Option Nat} {K : Option (List Kl)} {pic : Int32} {ch n : Nat} (hc : ch ≤ 100) (hn : n ≤ 8) (ht : t ≤ 9999) : ∀ (k d step spot part : Nat) (σ : Sg), k < d → step + k = n → CO σ w V l P f t p law K → spot < l → part ≤ 1000000000 → ∃ τ, g_X0_showingOf 20000 d 0 (320 + 6 * w) (Int64.ofNat part) (Int32.ofNat spot) (Int32.ofNat step) (Int32.ofNat n) (Int32.ofNat ch) pic σ = some (Int64.ofNat (oz_ K V l P f pic ch k spot (t + step) part), τ) ∧ KV w law σ τ := by
  intro k
  induction k with
  | zero =>
    intro d step spot part σ hd hs C hl hp
    obtain ⟨d, rfl⟩ : ∃ x, d = x + 1 := ⟨d - 1, by omega⟩
    obtain ⟨⟨bs, c, c1, c2, c3, c4, -, -⟩, -, -, -, -, ⟨b1, b2, -⟩, -⟩ := id C
    refine ⟨σ, ?_, KV.rf⟩
    rw [g_X0_showingOf]
    unfold f_X0_showingOf_o
    rw [if_neg (by rw [o_lt (by omega) (by omega)]; omega), c1]
    simp only [Option.bind_some]
    rw [sa_v c2 c3 b1 b2 c4, o_ti (by omega), em_n, Nat.mod_eq_of_lt hl, oz_]
    simp only [Option.bind_some]
    by_cases q : P spot = pic
    · rw [if_pos q, if_pos q]
    · rw [if_neg q, if_neg q]
      rfl
  | succ k ih =>
    intro d step spot part σ hd hs C hl hp
    obtain ⟨d, rfl⟩ : ∃ x, d = x + 1 := ⟨d - 1, by omega⟩
    obtain ⟨-, -, -, ⟨-, -, C11⟩, -, ⟨b1, b2, -⟩, -⟩ := id C
    have h3 : part * ch ≤ part * 100 := Nat.mul_le_mul_left part hc
    obtain ⟨υ, u1, u2⟩ := mo_v C hl (tt := t + step) (by omega)
    obtain ⟨φ, a1, a2⟩ := ih d (step + 1) spot (part * ch / 100) υ (by omega) (by omega) (C.mv u2) hl (by omega)
    obtain ⟨τ, e1, e2⟩ := ih d (step + 1) (nx_ K V l P f spot (t + step)) (part - part * ch / 100) φ (by omega) (by omega) ((C.mv u2).mv a2) (nx_lt b1) (by omega)
    refine ⟨τ, ?_, (u2.tr a2).tr e2⟩
    have em : Int64.ofNat part * (Int32.ofNat ch).toInt64 / 100 = Int64.ofNat (part * ch / 100) := by
      rw [j_32 (by omega), ← Int64.ofNat_mul, j_div (by omega)]
    rw [g_X0_showingOf]
    unfold f_X0_showingOf_o
    rw [if_pos (by rw [o_lt (by omega) (by omega)]; omega), C11, o_add, u1]
    simp only [Option.bind_some]
    rw [em, o_s, a1]
    simp only [Option.bind_some]
    rw [← Int64.ofNat_sub _ _ (by omega), e1]
    simp only [Option.bind_some]
    rw [← Int64.ofNat_add]
    rfl
theorem od_r {σ ρ : Sg} (r : Rel σ ρ) {law : Option Nat} {K : Option (List Kl)} (H : HO σ ρ law K) {n w : Nat} (e : sg_I ρ 344 20 = Int32.ofNat n) (hn : n ≤ 4) (hw : w < n) {pic : Int32} {ch : Nat} (hc : ch ≤ 100) : ∀ (k d spot tt part : Nat) (ρ' : Sg), k < d → KU ρ ρ' → spot < hL (sg_I ρ) (wr_ (sg_I ρ) w) → part ≤ 1000000000 → tt + k < 100000 → ∃ τ, g_X12_oddsFrom 20000 d 0 344 (Int32.ofNat w) (Int32.ofNat spot) (Int32.ofNat tt) (Int32.ofNat k) (Int32.ofNat ch) pic (Int32.ofNat part) ρ' = some (Int32.ofNat (oz_ K (wv_ (sg_I ρ) w) (hL (sg_I ρ) (wr_ (sg_I ρ) w)) (hP (sg_I ρ) (wr_ (sg_I ρ) w)) (wf_ (sg_I ρ)) pic ch k spot tt part), τ) ∧ KU ρ τ := by
  obtain ⟨v, z, v1, z1, q1, p1, s1, s2, ev, w1, w2, w3, w4, -⟩ := r.wn e hn hw
  obtain ⟨f1, f2, t1, i1, i4, -, -⟩ := r.gn e hn (by omega)
  have d := r.rf
  intro k
  induction k with
  | zero =>
    intro dd spot tt part ρ' hd ku hl hp ht
    obtain ⟨dd, rfl⟩ : ∃ x, dd = x + 1 := ⟨dd - 1, by omega⟩
    have d' : RF (sg_R ρ') (sg_L ρ') := by rw [ku.1.2.1, ku.1.2.2.1]; exact d
    obtain ⟨k1, k2, k3, k4⟩ := ku.ks.h
    have pic0 := pa_v (ku.kr.rel r) (q := wr_ (sg_I ρ) w) (p := spot) (by omega) (by omega)
    rw [k4] at pic0
    refine ⟨ρ', ?_, ku⟩
    rw [g_X12_oddsFrom]
    unfold f_X12_oddsFrom_o
    rw [if_pos (show Int32.ofNat 0 = 0 from rfl), of_3 d' (by omega), k2, w4]
    simp only [Option.bind_some]
    rw [pic0, oz_]
    simp only [Option.bind_some]
    by_cases q : hP (sg_I ρ) (wr_ (sg_I ρ) w) spot = pic
    · rw [if_pos q, if_pos q]
    · rw [if_neg q, if_neg q]
      rfl
  | succ k ih =>
    intro dd spot tt part ρ' hd ku hl hp ht
    obtain ⟨dd, rfl⟩ : ∃ x, dd = x + 1 := ⟨dd - 1, by omega⟩
    have h3 : part * ch ≤ part * 100 := Nat.mul_le_mul_left part hc
    obtain ⟨φ, a1, a2⟩ := ih dd spot (tt + 1) (part * ch / 100) ρ' (by omega) ku hl (by omega) (by omega)
    obtain ⟨k1, k2, k3, k4⟩ := a2.ks.h
    obtain ⟨ψ, b1, b2⟩ := no_v (a2.kr.rel r) (H.ks a2.ks) (w := w) (v := v) (z := z) (q := wr_ (sg_I ρ) w) (f := wf_ (sg_I ρ)) (spot := spot) (tt := tt) (by omega) v1 z1 q1 f2 (by rw [k3]; exact hl) (by omega) (by rw [k2]; exact w1) (by rw [k2]; exact w2) (by rw [k2]; exact w4) (by rw [k2]; exact i1)
    rw [k3, k4, ← ev] at b1
    obtain ⟨τ, e1, e2⟩ := ih dd (nx_ K (wv_ (sg_I ρ) w) (hL (sg_I ρ) (wr_ (sg_I ρ) w)) (hP (sg_I ρ) (wr_ (sg_I ρ) w)) (wf_ (sg_I ρ)) spot tt) (tt + 1) (part - part * ch / 100) ψ (by omega) (a2.tr b2) (nx_lt s1) (by omega) (by omega)
    refine ⟨τ, ?_, e2⟩
    have em : ((Int32.ofNat part).toInt64 * (Int32.ofNat ch).toInt64 / 100).toInt32 = Int32.ofNat (part * ch / 100) := by
      rw [j_32 (by omega), j_32 (by omega), ← Int64.ofNat_mul, j_div (by omega), Int64.toInt32_ofNat']
    have ek : Int32.ofNat (k + 1) - 1 = Int32.ofNat k := by
      rw [l_1, o_sub (by omega)]
      rfl
    rw [g_X12_oddsFrom]
    unfold f_X12_oddsFrom_o
    rw [if_neg (by rw [l_0, o_eq (by omega) (by omega)]; omega), em, ek, o_s, a1]
    simp only [Option.bind_some]
    rw [b1]
    simp only [Option.bind_some]
    rw [o_sub (by omega), e1]
    simp only [Option.bind_some]
    rw [o_add]
    rfl
theorem p2_odds : so_odds p2_I 20000 := by
  intro x y z u
  refine Sm.so (Sm.of ?_)
  intro σ ρ r
  obtain ⟨n, h1, h2, h3, h4, h5⟩ := r.nw
  have c := r.cf
  have d := r.rf
  have iw := iw_v c h1 h3 x
  have jw := jw_v h1 h2 x
  have e0 : (0 : Int32).toInt = 0 := rfl
  have e8 : (8 : Int32).toInt = 8 := rfl
  have e100 : (100 : Int32).toInt = 100 := rfl
  have e26 : (26 : Int32).toInt = 26 := rfl
  by_cases g : 0 ≤ x.toInt ∧ x.toInt < n
  · rw [if_pos g] at iw jw
    by_cases gy : 0 ≤ y.toInt ∧ y.toInt ≤ 8
    · have y1 : ¬ y < 0 := by rw [i_lt]; omega
      have y2 : ¬ 8 < y := by rw [i_lt]; omega
      by_cases gz : 0 ≤ z.toInt ∧ z.toInt ≤ 100
      · have z1 : ¬ z < 0 := by rw [i_lt]; omega
        have z2 : ¬ 100 < z := by rw [i_lt]; omega
        by_cases gu : 0 ≤ u.toInt ∧ u.toInt ≤ 26
        · have u1 : ¬ u < 0 := by rw [i_lt]; omega
          have u2 : ¬ 26 < u := by rw [i_lt]; omega
          obtain ⟨w, hw, rfl⟩ := x_lt g
          obtain ⟨k, hk, rfl⟩ := x_ob (B := 8) gy
          obtain ⟨ch, hc, rfl⟩ := x_ob (B := 100) gz
          obtain ⟨law, K, H⟩ := r.ho
          obtain ⟨v, zz, v1, zz1, q1, p1, s1, s2, ev, w1, w2, w3, w4, w5, w6, w7, w8⟩ := r.wn h2 h1 hw
          obtain ⟨f1, f2, t1, i1, i4, i5, i8⟩ := r.gn h2 h1 (by omega)
          obtain ⟨υ, F1, F2, F3, -⟩ := co_v r H (show w < 4 by omega) v1 zz1 q1 f2 w5 w6 w7 w8 i5 i8
          rw [← ev] at F2
          obtain ⟨τ, a1, a2⟩ := od_c (pic := u) hc hk t1 k 10 0 (wp0 (sg_I ρ) w) 1000000000 υ (by omega) (by omega) F2 p1 (by omega)
          obtain ⟨φ, b1, b2⟩ := od_r r H h2 h1 hw (pic := u) hc k 10 (wp0 (sg_I ρ) w) (wt0 (sg_I ρ)) 1000000000 ρ (by omega) KU.rf p1 (by omega) (by omega)
          have C10 : sg_I υ (320 + 6 * w) 1 = Int32.ofNat (wp0 (sg_I ρ) w) := F2.2.2.2.1.2.1
          have mn : f_J9_min_7cf53 (Int32.ofNat k) 8 = some (Int32.ofNat k) := by
            rw [l_8, min_v (by omega) (by omega), Nat.min_eq_left hk]
          have a1' : f_X0_showingOf 20000 (320 + 6 * w) 1000000000 (Int32.ofNat (wp0 (sg_I ρ) w)) 0 (Int32.ofNat k) (Int32.ofNat ch) u υ = some (Int64.ofNat (oz_ K (wv_ (sg_I ρ) w) (hL (sg_I ρ) (wr_ (sg_I ρ) w)) (hP (sg_I ρ) (wr_ (sg_I ρ) w)) (wf_ (sg_I ρ)) u ch k (wp0 (sg_I ρ) w) (wt0 (sg_I ρ)) 1000000000), τ) := a1
          have b1' : f_X12_oddsFrom 20000 344 (Int32.ofNat w) (Int32.ofNat (wp0 (sg_I ρ) w)) (Int32.ofNat (wt0 (sg_I ρ))) (Int32.ofNat k) (Int32.ofNat ch) u 1000000000 ρ = some (Int32.ofNat (oz_ K (wv_ (sg_I ρ) w) (hL (sg_I ρ) (wr_ (sg_I ρ) w)) (hP (sg_I ρ) (wr_ (sg_I ρ) w)) (wf_ (sg_I ρ)) u ch k (wp0 (sg_I ρ) w) (wt0 (sg_I ρ)) 1000000000), φ) := b1
          refine ⟨(Int32.ofNat (oz_ K (wv_ (sg_I ρ) w) (hL (sg_I ρ) (wr_ (sg_I ρ) w)) (hP (sg_I ρ) (wr_ (sg_I ρ) w)) (wf_ (sg_I ρ)) u ch k (wp0 (sg_I ρ) w) (wt0 (sg_I ρ)) 1000000000), τ), (Int32.ofNat (oz_ K (wv_ (sg_I ρ) w) (hL (sg_I ρ) (wr_ (sg_I ρ) w)) (hP (sg_I ρ) (wr_ (sg_I ρ) w)) (wf_ (sg_I ρ)) u ch k (wp0 (sg_I ρ) w) (wt0 (sg_I ρ)) 1000000000), φ), ?_, by unfold f_X12_odds; simp only [Option.bind_some, ↓reduceIte, gI_I, gI_R, gI_J, gR_I, gR_R, gR_J, gL_I, gL_R, gL_J, gN_I, gN_R, gN_J, gJ_I, gJ_R, Int32.reduceLT, e_1_0, Int32.reduceToNatClampNeg, Int32.reduceToInt, Int.reduceLE, Int.reduceLT, Int.reduceNeg, Int.reduceEq,  Nat.reduceLT, Nat.reduceLeDiff, Nat.reduceEqDiff, Nat.reduceAdd, Nat.reduceMul, false_or, or_false, true_and, and_true, false_and, and_false, not_false_eq_true, not_true_eq_false, or_self, and_self, true_or, or_true, jw, in_v, gy, gz, gu, of_2 d (show w < 4 by omega), w3, d, i4, b1'], rfl, F3.tr (F2.kc a2), b2.kr⟩
          unfold f_X11_odds f_X0_partsShowing
          simp only [Option.bind_some, ↓reduceIte, gI_I, gI_R, gI_J, gR_I, gR_R, gR_J, gL_I, gL_R, gL_J, gN_I, gN_R, gN_J, gJ_I, gJ_R, Int32.reduceLT, e_1_0, Int32.reduceToNatClampNeg, Int32.reduceToInt, Int.reduceLE, Int.reduceLT, Int.reduceNeg, Int.reduceEq,  Nat.reduceLT, Nat.reduceLeDiff, Nat.reduceEqDiff, Nat.reduceAdd, Nat.reduceMul, false_or, or_false, true_and, and_true, false_and, and_false, not_false_eq_true, not_true_eq_false, or_self, and_self, true_or, or_true, iw, y1, y2, z1, z2, u1, u2, F1, mn, C10, a1', Int64.toInt32_ofNat']
        · refine ⟨(-1, σ), (-1, ρ), ?_, by unfold f_X12_odds; simp only [Option.bind_some, ↓reduceIte, gI_I, gI_R, gI_J, gR_I, gR_R, gR_J, gL_I, gL_R, gL_J, gN_I, gN_R, gN_J, gJ_I, gJ_R, Int32.reduceLT, e_1_0, Int32.reduceToNatClampNeg, Int32.reduceToInt, Int.reduceLE, Int.reduceLT, Int.reduceNeg, Int.reduceEq,  Nat.reduceLT, Nat.reduceLeDiff, Nat.reduceEqDiff, Nat.reduceAdd, Nat.reduceMul, false_or, or_false, true_and, and_true, false_and, and_false, not_false_eq_true, not_true_eq_false, or_self, and_self, true_or, or_true, jw, in_v, gy, gz, gu], rfl, KC.rf, KR.rf⟩
          unfold f_X11_odds
          by_cases h : u < 0
          · simp only [Option.bind_some, ↓reduceIte, gI_I, gI_R, gI_J, gR_I, gR_R, gR_J, gL_I, gL_R, gL_J, gN_I, gN_R, gN_J, gJ_I, gJ_R, Int32.reduceLT, e_1_0, Int32.reduceToNatClampNeg, Int32.reduceToInt, Int.reduceLE, Int.reduceLT, Int.reduceNeg, Int.reduceEq,  Nat.reduceLT, Nat.reduceLeDiff, Nat.reduceEqDiff, Nat.reduceAdd, Nat.reduceMul, false_or, or_false, true_and, and_true, false_and, and_false, not_false_eq_true, not_true_eq_false, or_self, and_self, true_or, or_true, iw, y1, y2, z1, z2, h]
          · have h' : 26 < u := by rw [i_lt] at h ⊢; omega
            simp only [Option.bind_some, ↓reduceIte, gI_I, gI_R, gI_J, gR_I, gR_R, gR_J, gL_I, gL_R, gL_J, gN_I, gN_R, gN_J, gJ_I, gJ_R, Int32.reduceLT, e_1_0, Int32.reduceToNatClampNeg, Int32.reduceToInt, Int.reduceLE, Int.reduceLT, Int.reduceNeg, Int.reduceEq,  Nat.reduceLT, Nat.reduceLeDiff, Nat.reduceEqDiff, Nat.reduceAdd, Nat.reduceMul, false_or, or_false, true_and, and_true, false_and, and_false, not_false_eq_true, not_true_eq_false, or_self, and_self, true_or, or_true, iw, y1, y2, z1, z2, h, h']
      · refine ⟨(-1, σ), (-1, ρ), ?_, by unfold f_X12_odds; simp only [Option.bind_some, ↓reduceIte, gI_I, gI_R, gI_J, gR_I, gR_R, gR_J, gL_I, gL_R, gL_J, gN_I, gN_R, gN_J, gJ_I, gJ_R, Int32.reduceLT, e_1_0, Int32.reduceToNatClampNeg, Int32.reduceToInt, Int.reduceLE, Int.reduceLT, Int.reduceNeg, Int.reduceEq,  Nat.reduceLT, Nat.reduceLeDiff, Nat.reduceEqDiff, Nat.reduceAdd, Nat.reduceMul, false_or, or_false, true_and, and_true, false_and, and_false, not_false_eq_true, not_true_eq_false, or_self, and_self, true_or, or_true, jw, in_v, gy, gz], rfl, KC.rf, KR.rf⟩
        unfold f_X11_odds
        by_cases h : z < 0
        · simp only [Option.bind_some, ↓reduceIte, gI_I, gI_R, gI_J, gR_I, gR_R, gR_J, gL_I, gL_R, gL_J, gN_I, gN_R, gN_J, gJ_I, gJ_R, Int32.reduceLT, e_1_0, Int32.reduceToNatClampNeg, Int32.reduceToInt, Int.reduceLE, Int.reduceLT, Int.reduceNeg, Int.reduceEq,  Nat.reduceLT, Nat.reduceLeDiff, Nat.reduceEqDiff, Nat.reduceAdd, Nat.reduceMul, false_or, or_false, true_and, and_true, false_and, and_false, not_false_eq_true, not_true_eq_false, or_self, and_self, true_or, or_true, iw, y1, y2, h]
        · have h' : 100 < z := by rw [i_lt] at h ⊢; omega
          simp only [Option.bind_some, ↓reduceIte, gI_I, gI_R, gI_J, gR_I, gR_R, gR_J, gL_I, gL_R, gL_J, gN_I, gN_R, gN_J, gJ_I, gJ_R, Int32.reduceLT, e_1_0, Int32.reduceToNatClampNeg, Int32.reduceToInt, Int.reduceLE, Int.reduceLT, Int.reduceNeg, Int.reduceEq,  Nat.reduceLT, Nat.reduceLeDiff, Nat.reduceEqDiff, Nat.reduceAdd, Nat.reduceMul, false_or, or_false, true_and, and_true, false_and, and_false, not_false_eq_true, not_true_eq_false, or_self, and_self, true_or, or_true, iw, y1, y2, h, h']
    · refine ⟨(-1, σ), (-1, ρ), ?_, by unfold f_X12_odds; simp only [Option.bind_some, ↓reduceIte, gI_I, gI_R, gI_J, gR_I, gR_R, gR_J, gL_I, gL_R, gL_J, gN_I, gN_R, gN_J, gJ_I, gJ_R, Int32.reduceLT, e_1_0, Int32.reduceToNatClampNeg, Int32.reduceToInt, Int.reduceLE, Int.reduceLT, Int.reduceNeg, Int.reduceEq,  Nat.reduceLT, Nat.reduceLeDiff, Nat.reduceEqDiff, Nat.reduceAdd, Nat.reduceMul, false_or, or_false, true_and, and_true, false_and, and_false, not_false_eq_true, not_true_eq_false, or_self, and_self, true_or, or_true, jw, in_v, gy], rfl, KC.rf, KR.rf⟩
      unfold f_X11_odds
      by_cases h : y < 0
      · simp only [Option.bind_some, ↓reduceIte, gI_I, gI_R, gI_J, gR_I, gR_R, gR_J, gL_I, gL_R, gL_J, gN_I, gN_R, gN_J, gJ_I, gJ_R, Int32.reduceLT, e_1_0, Int32.reduceToNatClampNeg, Int32.reduceToInt, Int.reduceLE, Int.reduceLT, Int.reduceNeg, Int.reduceEq,  Nat.reduceLT, Nat.reduceLeDiff, Nat.reduceEqDiff, Nat.reduceAdd, Nat.reduceMul, false_or, or_false, true_and, and_true, false_and, and_false, not_false_eq_true, not_true_eq_false, or_self, and_self, true_or, or_true, iw, h]
      · have h' : 8 < y := by rw [i_lt] at h ⊢; omega
        simp only [Option.bind_some, ↓reduceIte, gI_I, gI_R, gI_J, gR_I, gR_R, gR_J, gL_I, gL_R, gL_J, gN_I, gN_R, gN_J, gJ_I, gJ_R, Int32.reduceLT, e_1_0, Int32.reduceToNatClampNeg, Int32.reduceToInt, Int.reduceLE, Int.reduceLT, Int.reduceNeg, Int.reduceEq,  Nat.reduceLT, Nat.reduceLeDiff, Nat.reduceEqDiff, Nat.reduceAdd, Nat.reduceMul, false_or, or_false, true_and, and_true, false_and, and_false, not_false_eq_true, not_true_eq_false, or_self, and_self, true_or, or_true, iw, h, h']
  · rw [if_neg g] at iw jw
    exact ⟨(-1, σ), (-1, ρ), by unfold f_X11_odds; simp only [Option.bind_some, ↓reduceIte, gI_I, gI_R, gI_J, gR_I, gR_R, gR_J, gL_I, gL_R, gL_J, gN_I, gN_R, gN_J, gJ_I, gJ_R, Int32.reduceLT, e_1_0, Int32.reduceToNatClampNeg, Int32.reduceToInt, Int.reduceLE, Int.reduceLT, Int.reduceNeg, Int.reduceEq,  Nat.reduceLT, Nat.reduceLeDiff, Nat.reduceEqDiff, Nat.reduceAdd, Nat.reduceMul, false_or, or_false, true_and, and_true, false_and, and_false, not_false_eq_true, not_true_eq_false, or_self, and_self, true_or, or_true, iw], by unfold f_X12_odds; simp only [Option.bind_some, ↓reduceIte, gI_I, gI_R, gI_J, gR_I, gR_R, gR_J, gL_I, gL_R, gL_J, gN_I, gN_R, gN_J, gJ_I, gJ_R, Int32.reduceLT, e_1_0, Int32.reduceToNatClampNeg, Int32.reduceToInt, Int.reduceLE, Int.reduceLT, Int.reduceNeg, Int.reduceEq,  Nat.reduceLT, Nat.reduceLeDiff, Nat.reduceEqDiff, Nat.reduceAdd, Nat.reduceMul, false_or, or_false, true_and, and_true, false_and, and_false, not_false_eq_true, not_true_eq_false, or_self, and_self, true_or, or_true, jw], rfl, KC.rf, KR.rf⟩
/-! ===== a wheel's numbers, told or thrown ===== -/
theorem cs_pad {R R' : Nat → Nat → Option Nat} {L L' : Nat → Nat} (hR : ∀ a, a < 371 → R' a = R a) (hL : ∀ a, a < 371 → L' a = L a) (h : cs_ R L) : cs_ R' L' := by
  obtain ⟨h1, h2, h3, h4, h5, h6⟩ := h
  have hs : ∀ s, s + 6 < 371 → sn_ R L s → sn_ R' L' s := by
    intro s b ⟨q1, q2, q3, q4, q5⟩
    refine ⟨?_, ?_, ?_, ?_, ?_⟩
    · rw [hR s (by omega)]; exact q1
    · rw [hR s (by omega)]; exact q2
    · intro w hw
      rw [hR (s + 1) (by omega)]
      exact q3 w hw
    · rw [hL (s + 1) (by omega)]; exact q4
    · rw [hL (s + 2) (by omega)]; exact q5
  refine ⟨?_, ?_, hs 17 (by omega) h3, hs 306 (by omega) h4, ?_, ?_⟩
  · intro q hq
    have hk : ∀ q ∈ cs_R, q.1 < 371 := by decide
    rw [hR q.1 (hk q hq)]
    exact h1 q hq
  · intro q hq
    have hk : ∀ q ∈ cs_L, q.1 < 371 := by decide
    rw [hL q.1 (hk q hq)]
    exact h2 q hq
  · intro i hi
    obtain ⟨q1, q2⟩ := h5 i hi
    refine ⟨?_, hs _ (by omega) q2⟩
    rw [hR 25 (by omega)]
    exact q1
  · intro w hw
    obtain ⟨q1, q2, q3, q4, q5, q6, q7⟩ := h6 w hw
    rw [hR 319 (by omega), hR (320 + 6 * w) (by omega), hL _ (by omega), hL _ (by omega), hL _ (by omega)]
    exact ⟨q1, q2, q3, q4, q5, q6, q7⟩
theorem rl_pad {R R' : Nat → Nat → Option Nat} {L L' : Nat → Nat} {g h : Nat → Nat → Int32} {N N' : Nat} (hR : ∀ a, a < N → R' a = R a) (hL : ∀ a, a < N → L' a = L a) (hN : N ≤ N') (r : rl_ R L g h N) : rl_ R' L' g h N' := by
  obtain ⟨r1, r2, r3, ⟨k, k1, k2, k3, k4, k5, k6⟩, ⟨m, m1, m2, m3, m4, m5, m6, m7⟩, r6, r7⟩ := r
  refine ⟨cs_pad (fun a ha => hR a (by omega)) (fun a ha => hL a (by omega)) r1, by omega, r3, ⟨k, k1, k2, k3, ?_, ?_, k6⟩, ⟨m, m1, m2, m3, m4, m5, m6, ?_⟩, ?_, r7⟩
  · intro s hs
    obtain ⟨b, b1, b2, b3, b4, b5⟩ := k4 s hs
    refine ⟨b, b1, by omega, by rw [hR 13 (by omega)]; exact b3, by rw [hR b (by omega)]; exact b4, ?_⟩
    unfold sp_
    rw [hL (b + 1) (by omega)]
    exact b5
  · intro s h1 h2
    rw [hR 13 (by omega)]
    exact k5 s h1 h2
  · intro i hi
    obtain ⟨b, K, b1, b2, b3, b4⟩ := m7 i hi
    refine ⟨b, K, b1, by omega, by rw [hR 12 (by omega)]; exact b3, ?_⟩
    unfold lw_1
    rw [hR b (by omega), hL (b + 1) (by omega), hL (b + 2) (by omega)]
    exact b4
  · unfold ap_
    rw [hR 12 (by omega), hR 13 (by omega)]
    exact ⟨r6.1, r6.2.1, fun i b h1 h2 => Nat.lt_of_lt_of_le (r6.2.2 i b h1 h2) hN⟩
theorem p2_pad {σ : Sg} (r : p2_I σ) (n : Nat) : p2_I (pad_C σ n) := by
  have hR : ∀ a, a < sg_N σ → sg_R (pad_C σ n) a = sg_R σ a := fun a ha => if_pos ha
  have hL : ∀ a, a < sg_N σ → sg_L (pad_C σ n) a = sg_L σ a := fun a ha => if_pos ha
  have hN : 371 ≤ sg_N σ := r.1.2.1
  exact ⟨rl_pad hR hL (Nat.le_add_right _ _) r.1, rs_q (fun a h1 h2 => ⟨hR a (by omega), hL a (by omega)⟩) r.2⟩
theorem p2_th {σ : Sg} (r : p2_I σ) {v : Int32} : p2_I (put_I σ 344 0 v) ∧ Rel σ (put_I σ 344 0 v) := by
  have h : Rel σ (put_I σ 344 0 v) := (KR.put (by omega)).rel r
  exact ⟨h.cls (FR.put (by omega)), h⟩
theorem p2_wheel : so_wheel p2_I 20000 := by
  intro x y σ r
  obtain ⟨n, h1, h2, h3, h4, h5⟩ := Rel.nw r
  have c := Rel.cf r
  have iw := iw_v c h1 h3 x
  have e0 : (0 : Int32).toInt = 0 := rfl
  have e5 : (5 : Int32).toInt = 5 := rfl
  by_cases g : 0 ≤ x.toInt ∧ x.toInt < n
  · rw [if_pos g] at iw
    obtain ⟨w, hw, rfl⟩ := x_lt g
    by_cases gy : 0 ≤ y.toInt ∧ y.toInt ≤ 5
    · left
      obtain ⟨v, z, p, q, v1, z1, q1, p1, p2, w1, w2, w3, w4, w5, w6, w7, w8⟩ := Rel.wh r h2 h1 hw
      have I4 := iw_4 (show w < 4 by omega)
      have e18 := Rel.w18 r w (by omega)
      have fin : ∀ a : Int32, f_X11_wheel 0 (Int32.ofNat w) y σ = some a → (∀ ρ, Rel σ ρ → (∀ j, sg_I ρ 359 j = sg_I σ 359 j) → hL (sg_I ρ) = hL (sg_I σ) → hP (sg_I ρ) = hP (sg_I σ) → (if y = 4 then f_X12_longOf 344 (Int32.ofNat w) ρ else if y = 5 then f_X12_showsOf 344 (Int32.ofNat w) ρ else f_X12_of 344 (Int32.ofNat w) y ρ) = some a) → ∃ r q, f_X11_wheel 0 (Int32.ofNat w) y σ = some r ∧ f_X12_wheel 344 (Int32.ofNat w) y (put_J σ 370 0 r.toInt64) = some q ∧ sg_I q.2 344 0 = 0 ∧ q.1 = r ∧ sg_J q.2 370 0 = r.toInt64 ∧ p2_I q.2 := by
        intro a ha hb
        have rJ : p2_I (put_J σ 370 0 a.toInt64) := r
        obtain ⟨t1, t2⟩ := p2_th rJ (v := 0)
        have jw := jw_v h1 (show sg_I (put_J σ 370 0 a.toInt64) 344 20 = Int32.ofNat n from h2) (Int32.ofNat w)
        rw [if_pos g] at jw
        have hb' := hb (put_I (put_J σ 370 0 a.toInt64) 344 0 0) t2 (fun j => rfl) rfl rfl
        refine ⟨a, (a, put_I (put_J σ 370 0 a.toInt64) 344 0 0), ha, ?_, gI_e, rfl, ?_, t1⟩
        · unfold f_X12_wheel f_X12_wheel_B23
          simp only [Option.bind_some, ↓reduceIte, gI_I, gI_R, gI_J, gR_I, gR_R, gR_J, gL_I, gL_R, gL_J, gN_I, gN_R, gN_J, gJ_I, gJ_R, Int32.reduceLT, e_1_0, Int32.reduceToNatClampNeg, Int32.reduceToInt, Int.reduceLE, Int.reduceLT, Int.reduceNeg, Int.reduceEq,  Nat.reduceLT, Nat.reduceLeDiff, Nat.reduceEqDiff, Nat.reduceAdd, Nat.reduceMul, false_or, or_false, true_and, and_true, false_and, and_false, not_false_eq_true, not_true_eq_false, or_self, and_self, true_or, or_true, jw, in_v, gy, e_0_1]
          by_cases y4 : y = 4
          · rw [if_pos y4] at hb' ⊢
            rw [hb']
            rfl
          · rw [if_neg y4] at hb' ⊢
            by_cases y5 : y = 5
            · rw [if_pos y5] at hb' ⊢
              rw [hb']
              rfl
            · rw [if_neg y5] at hb' ⊢
              rw [hb']
              rfl
        · show sg_J (put_J σ 370 0 a.toInt64) 370 0 = a.toInt64
          rw [gJ_J, if_pos ⟨rfl, rfl⟩]
      obtain ⟨k, hk, rfl⟩ := x_ob (B := 5) gy
      match k, hk with
      | 0, _ =>
        refine fin (Int32.ofNat v) ?_ (fun ρ r2 e9 eL eP => ?_)
        · unfold f_X11_wheel
          simp only [Option.bind_some, ↓reduceIte, gI_I, gI_R, gI_J, gR_I, gR_R, gR_J, gL_I, gL_R, gL_J, gN_I, gN_R, gN_J, gJ_I, gJ_R, Int32.reduceLT, e_1_0, Int32.reduceToNatClampNeg, Int32.reduceToInt, Int.reduceLE, Int.reduceLT, Int.reduceNeg, Int.reduceEq,  Nat.reduceLT, Nat.reduceLeDiff, Nat.reduceEqDiff, Nat.reduceAdd, Nat.reduceMul, false_or, or_false, true_and, and_true, false_and, and_false, not_false_eq_true, not_true_eq_false, or_self, and_self, true_or, or_true, iw, c, I4, e18, w5]
          rfl
        · rw [if_neg (by decide), if_neg (by decide)]
          exact (of_0 r2.rf (by omega)).trans (by rw [e9, w1])
      | 1, _ =>
        refine fin (Int32.ofNat z) ?_ (fun ρ r2 e9 eL eP => ?_)
        · unfold f_X11_wheel
          simp only [Option.bind_some, ↓reduceIte, gI_I, gI_R, gI_J, gR_I, gR_R, gR_J, gL_I, gL_R, gL_J, gN_I, gN_R, gN_J, gJ_I, gJ_R, Int32.reduceLT, e_1_0, Int32.reduceToNatClampNeg, Int32.reduceToInt, Int.reduceLE, Int.reduceLT, Int.reduceNeg, Int.reduceEq,  Nat.reduceLT, Nat.reduceLeDiff, Nat.reduceEqDiff, Nat.reduceAdd, Nat.reduceMul, false_or, or_false, true_and, and_true, false_and, and_false, not_false_eq_true, not_true_eq_false, or_self, and_self, true_or, or_true, iw, c, I4, e18, w6]
          have hz2 : z = 0 ∨ z = 1 := by omega
          rcases hz2 with rfl | rfl <;> rfl
        · rw [if_neg (by decide), if_neg (by decide)]
          exact (of_1 r2.rf (by omega)).trans (by rw [e9, w2])
      | 2, _ =>
        refine fin (Int32.ofNat p) ?_ (fun ρ r2 e9 eL eP => ?_)
        · unfold f_X11_wheel
          simp only [Option.bind_some, ↓reduceIte, gI_I, gI_R, gI_J, gR_I, gR_R, gR_J, gL_I, gL_R, gL_J, gN_I, gN_R, gN_J, gJ_I, gJ_R, Int32.reduceLT, e_1_0, Int32.reduceToNatClampNeg, Int32.reduceToInt, Int.reduceLE, Int.reduceLT, Int.reduceNeg, Int.reduceEq,  Nat.reduceLT, Nat.reduceLeDiff, Nat.reduceEqDiff, Nat.reduceAdd, Nat.reduceMul, false_or, or_false, true_and, and_true, false_and, and_false, not_false_eq_true, not_true_eq_false, or_self, and_self, true_or, or_true, iw, c, I4, e18, w7]
          rfl
        · rw [if_neg (by decide), if_neg (by decide)]
          exact (of_2 r2.rf (by omega)).trans (by rw [e9, w3])
      | 3, _ =>
        refine fin (Int32.ofNat q) ?_ (fun ρ r2 e9 eL eP => ?_)
        · unfold f_X11_wheel
          simp only [Option.bind_some, ↓reduceIte, gI_I, gI_R, gI_J, gR_I, gR_R, gR_J, gL_I, gL_R, gL_J, gN_I, gN_R, gN_J, gJ_I, gJ_R, Int32.reduceLT, e_1_0, Int32.reduceToNatClampNeg, Int32.reduceToInt, Int.reduceLE, Int.reduceLT, Int.reduceNeg, Int.reduceEq,  Nat.reduceLT, Nat.reduceLeDiff, Nat.reduceEqDiff, Nat.reduceAdd, Nat.reduceMul, false_or, or_false, true_and, and_true, false_and, and_false, not_false_eq_true, not_true_eq_false, or_self, and_self, true_or, or_true, iw, c, I4, e18, w8]
          rfl
        · rw [if_neg (by decide), if_neg (by decide)]
          exact (of_3 r2.rf (by omega)).trans (by rw [e9, w4])
      | 4, _ =>
        obtain ⟨b, cc, so1, so2, so3, -⟩ := so_v r (show q ≤ 100 by omega) w8
        have sz := sz_v so2 so3
        refine fin (Int32.ofNat (hL (sg_I σ) q)) ?_ (fun ρ r2 e9 eL eP => ?_)
        · unfold f_X11_wheel
          simp only [Option.bind_some, ↓reduceIte, gI_I, gI_R, gI_J, gR_I, gR_R, gR_J, gL_I, gL_R, gL_J, gN_I, gN_R, gN_J, gJ_I, gJ_R, Int32.reduceLT, e_1_0, Int32.reduceToNatClampNeg, Int32.reduceToInt, Int.reduceLE, Int.reduceLT, Int.reduceNeg, Int.reduceEq,  Nat.reduceLT, Nat.reduceLeDiff, Nat.reduceEqDiff, Nat.reduceAdd, Nat.reduceMul, false_or, or_false, true_and, and_true, false_and, and_false, not_false_eq_true, not_true_eq_false, or_self, and_self, true_or, or_true, iw, c, I4, e18, so1, sz]
          rfl
        · rw [if_pos (show Int32.ofNat 4 = 4 from rfl), lo_v r2 (by omega) (show q ≤ 100 by omega) (by rw [e9, w4]), eL]
      | 5, _ =>
        have sh := sh_v r (show q ≤ 100 by omega) w8 w7 p1
        refine fin (hP (sg_I σ) q p) ?_ (fun ρ r2 e9 eL eP => ?_)
        · unfold f_X11_wheel
          simp only [Option.bind_some, ↓reduceIte, gI_I, gI_R, gI_J, gR_I, gR_R, gR_J, gL_I, gL_R, gL_J, gN_I, gN_R, gN_J, gJ_I, gJ_R, Int32.reduceLT, e_1_0, Int32.reduceToNatClampNeg, Int32.reduceToInt, Int.reduceLE, Int.reduceLT, Int.reduceNeg, Int.reduceEq,  Nat.reduceLT, Nat.reduceLeDiff, Nat.reduceEqDiff, Nat.reduceAdd, Nat.reduceMul, false_or, or_false, true_and, and_true, false_and, and_false, not_false_eq_true, not_true_eq_false, or_self, and_self, true_or, or_true, iw, c, I4, e18, sh]
          rfl
        · rw [if_neg (by decide), if_pos (show Int32.ofNat 5 = 5 from rfl), sw_v r2 (by omega) (show q ≤ 100 by omega) p2 (by rw [e9, w4]) (by rw [e9, w3]), eP]
    · right
      refine ⟨Or.inr ⟨1, 17, 18, iw, by decide, by simp only [c], by simp only [c], ?_, by omega⟩, fun k => ?_⟩
      · have c18 : sg_L σ 18 = 4 := by simp only [c]
        rw [c18]
        exact o_in (by omega) (by omega)
      · obtain ⟨t1, t2⟩ := p2_th (p2_pad r k) (v := 1)
        have jw := jw_v h1 (show sg_I (pad_C σ k) 344 20 = Int32.ofNat n from h2) (Int32.ofNat w)
        rw [if_pos g] at jw
        refine ⟨(0, put_I (pad_C σ k) 344 0 1), ?_, gI_e, t1⟩
        unfold f_X12_wheel f_X12_wheel_B22 f_X12_wheel_B23
        simp only [Option.bind_some, ↓reduceIte, gI_I, gI_R, gI_J, gR_I, gR_R, gR_J, gL_I, gL_R, gL_J, gN_I, gN_R, gN_J, gJ_I, gJ_R, Int32.reduceLT, e_1_0, Int32.reduceToNatClampNeg, Int32.reduceToInt, Int.reduceLE, Int.reduceLT, Int.reduceNeg, Int.reduceEq,  Nat.reduceLT, Nat.reduceLeDiff, Nat.reduceEqDiff, Nat.reduceAdd, Nat.reduceMul, false_or, or_false, true_and, and_true, false_and, and_false, not_false_eq_true, not_true_eq_false, or_self, and_self, true_or, or_true, jw, in_v, gy]
  · rw [if_neg g] at iw
    right
    refine ⟨Or.inl iw, fun k => ?_⟩
    obtain ⟨t1, t2⟩ := p2_th (p2_pad r k) (v := 1)
    have jw := jw_v h1 (show sg_I (pad_C σ k) 344 20 = Int32.ofNat n from h2) x
    rw [if_neg g] at jw
    refine ⟨(0, put_I (pad_C σ k) 344 0 1), ?_, gI_e, t1⟩
    unfold f_X12_wheel f_X12_wheel_B22 f_X12_wheel_B23
    simp only [Option.bind_some, ↓reduceIte, gI_I, gI_R, gI_J, gR_I, gR_R, gR_J, gL_I, gL_R, gL_J, gN_I, gN_R, gN_J, gJ_I, gJ_R, Int32.reduceLT, e_1_0, Int32.reduceToNatClampNeg, Int32.reduceToInt, Int.reduceLE, Int.reduceLT, Int.reduceNeg, Int.reduceEq,  Nat.reduceLT, Nat.reduceLeDiff, Nat.reduceEqDiff, Nat.reduceAdd, Nat.reduceMul, false_or, or_false, true_and, and_true, false_and, and_false, not_false_eq_true, not_true_eq_false, or_self, and_self, true_or, or_true, jw]
