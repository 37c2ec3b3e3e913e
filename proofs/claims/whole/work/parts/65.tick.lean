/-! ===== a wheel's course; a tick ===== -/
theorem KC.putR {σ : Sg} {a j : Nat} {v : Option Nat} (h : scR a j) (h2 : a < 344) : KC σ (put_R σ a j v) := by
  refine ⟨rfl, ⟨fun _ _ => rfl, fun b k hb => ?_, fun _ _ _ => rfl⟩, fun b h1 _ => ⟨rfl, ?_, rfl, rfl⟩⟩
  · rw [gR_R, if_neg]
    rintro ⟨rfl, rfl⟩
    exact hb h
  · funext k
    rw [gR_R, if_neg (by omega)]
theorem scI_c {R : Nat → Nat → Option Nat} {a j : Nat} (h : 320 ≤ a ∧ a ≤ 370) : scI R a j := Or.inr (Or.inr (Or.inr (Or.inr (Or.inl h))))
theorem KC.i {σ τ : Sg} (k : KC σ τ) {a : Nat} (h : 12 ≤ a ∧ a < 313) : sg_I τ a = sg_I σ a := by
  funext j
  exact k.2.1.2.2 a j (scI_lo (by omega))
theorem KC.i0 {σ τ : Sg} (k : KC σ τ) {j : Nat} : sg_I τ 0 j = sg_I σ 0 j := k.2.1.2.2 0 j (scI_lo (by omega))
/-- the strip of a number, as the class finds it, and where it lies -/
theorem so_c {σ ρ : Sg} (r : Rel σ ρ) {a q : Nat} (hq : q ≤ 100) (e : sg_I σ a 3 = Int32.ofNat q) : ∃ b, f_X11_stripOf 0 (some a) σ = some (some b) ∧ sg_R σ b 0 = some (b + 1) ∧ sg_L σ (b + 1) = hL (sg_I ρ) q ∧ 1 ≤ hL (sg_I ρ) q ∧ hL (sg_I ρ) q ≤ 16 ∧ (∀ i, i < hL (sg_I ρ) q → sg_I σ (b + 1) i = hP (sg_I ρ) q i ∧ 0 ≤ (hP (sg_I ρ) q i).toInt ∧ (hP (sg_I ρ) q i).toInt ≤ 26) ∧ (b = 14 ∨ (371 ≤ b ∧ ∃ s, s < 6 ∧ sg_R σ 13 s = some b)) := by
  have c := r.cf
  obtain ⟨k, h1, h2, h3, h4, h5, h6⟩ := r.1.2.2.2.1
  have ek : hS (sg_I ρ) = k := by
    unfold hS
    rw [h3, o_ti (by omega)]
    omega
  by_cases hk : q < k
  · obtain ⟨b, b1, b2, b3, b4, b5, b6, b7, b8⟩ := h4 q hk
    have el : hL (sg_I ρ) q = sg_L σ (b + 1) := by
      unfold hL
      rw [ek, if_pos hk, b7, o_ti (by omega)]
      omega
    refine ⟨b, ?_, b4, el.symm, by omega, by omega, fun i hi => ?_, Or.inr ⟨b1, q, by omega, b3⟩⟩
    · unfold f_X11_stripOf
      simp only [Option.bind_some, e, is_v r, o_ti (show q < 2147483648 by omega)]
      rw [if_pos (show (0 : Int) ≤ q ∧ (q : Int) < hS (sg_I ρ) by omega), if_neg (by decide)]
      simp only [c, Option.bind_some]
      rw [if_neg (o_in (by omega) (by omega)), o_tn (by omega), b3]
    · unfold hP
      rw [ek, if_pos hk]
      exact b8 i (by omega)
  · have el : hL (sg_I ρ) q = 1 := by
      unfold hL
      rw [ek, if_neg hk]
    refine ⟨14, ?_, by simp only [c], by rw [el]; simp only [c], by omega, by omega, fun i hi => ?_, Or.inl rfl⟩
    · unfold f_X11_stripOf
      simp only [Option.bind_some, e, is_v r, o_ti (show q < 2147483648 by omega)]
      rw [if_neg (show ¬ ((0 : Int) ≤ q ∧ (q : Int) < hS (sg_I ρ)) by omega), if_pos rfl]
      simp only [c]
    · unfold hP
      rw [ek, if_neg hk]
      have hi : i = 0 := by omega
      subst hi
      exact ⟨h6, by decide, by decide⟩
theorem ln_v {σ ρ : Sg} (r : Rel σ ρ) {law : Option Nat} {K : Option (List Kl)} (H : HO σ ρ law K) : f_X11_lawNow 0 σ = some law := by
  have c := r.cf
  unfold f_X11_lawNow f_X11_lawNow_B30
  rcases H with ⟨q1, q2, q3, q4⟩ | ⟨i, b, K', i1, i2, i3, i4, i5, ⟨m, m1, m2, m3⟩, i7, i8, i9⟩
  · rw [q4, if_pos (by decide), q1]
  · rw [i5, if_neg (o_nn (by omega)), m3, if_pos (by rw [o_lt (by omega) (by omega)]; exact m1)]
    simp only [c, Option.bind_some]
    rw [if_neg (o_in (by omega) (by omega)), o_tn (by omega), i8, i2]
def cz_ (σ : Sg) (w b : Nat) (law : Option Nat) (t p l f : Nat) (V : Int32) : Sg := put_I (put_I (put_I (put_I (put_I (put_I (put_R (put_R σ (320 + 6 * w) 2 (some b)) (320 + 6 * w) 3 law) (320 + 6 * w) 4 (Int32.ofNat t)) (320 + 6 * w) 0 V) (320 + 6 * w) 1 (Int32.ofNat p)) (323 + 6 * w) 0 V) (323 + 6 * w) 2 (Int32.ofNat l)) (323 + 6 * w) 5 (Int32.ofNat f)
theorem cz_R {σ : Sg} {w b : Nat} {law : Option Nat} {t p l f : Nat} {V : Int32} : sg_R (cz_ σ w b law t p l f V) = sg_R (put_R (put_R σ (320 + 6 * w) 2 (some b)) (320 + 6 * w) 3 law) := rfl
theorem cz_Rn {σ : Sg} {w b : Nat} {law : Option Nat} {t p l f : Nat} {V : Int32} {a j : Nat} (h : a ≠ 320 + 6 * w ∨ (j ≠ 2 ∧ j ≠ 3)) : sg_R (cz_ σ w b law t p l f V) a j = sg_R σ a j := by
  rw [cz_R, gR_R, if_neg (by omega), gR_R, if_neg (by omega)]
theorem cz_R2 {σ : Sg} {w b : Nat} {law : Option Nat} {t p l f : Nat} {V : Int32} : sg_R (cz_ σ w b law t p l f V) (320 + 6 * w) 2 = some b := by
  rw [cz_R, gR_R, if_neg (by omega), gR_R, if_pos ⟨rfl, rfl⟩]
theorem cz_R3 {σ : Sg} {w b : Nat} {law : Option Nat} {t p l f : Nat} {V : Int32} : sg_R (cz_ σ w b law t p l f V) (320 + 6 * w) 3 = law := by
  rw [cz_R, gR_R, if_pos ⟨rfl, rfl⟩]
theorem cz_L {σ : Sg} {w b : Nat} {law : Option Nat} {t p l f : Nat} {V : Int32} : sg_L (cz_ σ w b law t p l f V) = sg_L σ := rfl
theorem cz_J {σ : Sg} {w b : Nat} {law : Option Nat} {t p l f : Nat} {V : Int32} : sg_J (cz_ σ w b law t p l f V) = sg_J σ := rfl
theorem cz_I {σ : Sg} {w b : Nat} {law : Option Nat} {t p l f : Nat} {V : Int32} {a : Nat} (h : a ≠ 320 + 6 * w) (h2 : a ≠ 323 + 6 * w) : sg_I (cz_ σ w b law t p l f V) a = sg_I σ a := by
  unfold cz_
  rw [gI_a h2, gI_a h2, gI_a h2, gI_a h, gI_a h, gI_a h]
  rfl
theorem cz_v {σ : Sg} {w b : Nat} {law : Option Nat} {t p l f : Nat} {V : Int32} : (sg_I (cz_ σ w b law t p l f V) (320 + 6 * w) 0 = V ∧ sg_I (cz_ σ w b law t p l f V) (320 + 6 * w) 1 = Int32.ofNat p ∧ sg_I (cz_ σ w b law t p l f V) (320 + 6 * w) 4 = Int32.ofNat t) ∧ (sg_I (cz_ σ w b law t p l f V) (323 + 6 * w) 0 = V ∧ sg_I (cz_ σ w b law t p l f V) (323 + 6 * w) 2 = Int32.ofNat l ∧ sg_I (cz_ σ w b law t p l f V) (323 + 6 * w) 5 = Int32.ofNat f) := by
  unfold cz_
  refine ⟨⟨?_, ?_, ?_⟩, ⟨?_, ?_, gI_e⟩⟩
  · rw [gI_n (by omega), gI_n (by omega), gI_n (by omega), gI_n (by omega), gI_e]
  · rw [gI_n (by omega), gI_n (by omega), gI_n (by omega), gI_e]
  · rw [gI_n (by omega), gI_n (by omega), gI_n (by omega), gI_n (by omega), gI_n (by omega), gI_e]
  · rw [gI_n (by omega), gI_n (by omega), gI_e]
  · rw [gI_n (by omega), gI_e]
theorem cz_k {σ : Sg} {w b : Nat} {law : Option Nat} {t p l f : Nat} {V : Int32} (hw : w < 4) : KC σ (cz_ σ w b law t p l f V) := (((((((KC.putR (Or.inr (Or.inl (by omega))) (by omega)).tr (KC.putR (Or.inr (Or.inl (by omega))) (by omega))).tr (KC.put (scI_c (by omega)) (by omega))).tr (KC.put (scI_c (by omega)) (by omega))).tr (KC.put (scI_c (by omega)) (by omega))).tr (KC.put (scI_c (by omega)) (by omega))).tr (KC.put (scI_c (by omega)) (by omega))).tr (KC.put (scI_c (by omega)) (by omega))
theorem cz_s {σ : Sg} {w b v z p f t l : Nat} {law : Option Nat} (hw : w < 4) (hz : z ≤ 1) (w5 : sg_I σ (20 + w) 0 = Int32.ofNat v) (w6 : sg_I σ (20 + w) 1 = Int32.ofNat z) (w7 : sg_I σ (20 + w) 2 = Int32.ofNat p) (C2 : sg_R σ (320 + 6 * w) 5 = some (323 + 6 * w)) (C5 : sg_L σ (323 + 6 * w) = 6) (hb : b ≠ 320 + 6 * w) (h2 : sg_R σ b 0 = some (b + 1)) (h3 : sg_L σ (b + 1) = l) : f_X0_set (320 + 6 * w) (some (20 + w)) (some b) law (Int32.ofNat f) (Int32.ofNat t) σ = some (cz_ σ w b law t p l f (vl_ v z)) := by
  have vel : ∀ P : Sg, sg_I P (20 + w) 0 = sg_I σ (20 + w) 0 → sg_I P (20 + w) 1 = sg_I σ (20 + w) 1 → f_X10_velocity (20 + w) P = some (vl_ v z) := by
    intro P a1 a2
    unfold f_X10_velocity vl_
    rw [a1, a2, w5, w6]
    by_cases z0 : z = 0
    · rw [if_pos (by rw [z0]; rfl), if_pos z0]
    · rw [if_neg (by rw [l_0, o_eq (by omega) (by omega)]; exact z0), if_neg z0]
  have ne1 : ¬ 20 + w = 320 + 6 * w := by omega
  unfold f_X0_set cz_
  simp only [Option.bind_some]
  rw [vel _ (by rw [gI_n (by omega)]; rfl) (by rw [gI_n (by omega)]; rfl)]
  simp only [Option.bind_some, ↓reduceIte, gI_I, gI_R, gI_J, gR_I, gR_R, gR_J, gL_I, gL_R, gL_J, gN_I, gN_R, gN_J, gJ_I, gJ_R, Int32.reduceLT, e_1_0, Int32.reduceToNatClampNeg, Int32.reduceToInt, Int.reduceLE, Int.reduceLT, Int.reduceNeg, Int.reduceEq,  Nat.reduceLT, Nat.reduceLeDiff, Nat.reduceEqDiff, Nat.reduceAdd, Nat.reduceMul, false_or, or_false, true_and, and_true, false_and, and_false, not_false_eq_true, not_true_eq_false, or_self, and_self, true_or, or_true, f_X8_size, ne1, hb, C2, C5, h2, h3, w7]
/-- the course of a wheel is set -/
theorem co_v {σ ρ : Sg} (r : Rel σ ρ) {law : Option Nat} {K : Option (List Kl)} (H : HO σ ρ law K) {w v z q p f t : Nat} (hw : w < 4) (hv : v ≤ 9) (hz : z ≤ 1) (hq : q ≤ 5) (hf : f ≤ 60) (w5 : sg_I σ (20 + w) 0 = Int32.ofNat v) (w6 : sg_I σ (20 + w) 1 = Int32.ofNat z) (w7 : sg_I σ (20 + w) 2 = Int32.ofNat p) (w8 : sg_I σ (20 + w) 3 = Int32.ofNat q) (i5 : sg_I σ 17 2 = Int32.ofNat f) (i8 : sg_I σ 17 5 = Int32.ofNat t) : ∃ τ, f_X11_courseOf 0 (Int32.ofNat w) σ = some (some (320 + 6 * w), τ) ∧ CO τ w (vl_ v z) (hL (sg_I ρ) q) (hP (sg_I ρ) q) f t p law K ∧ KC σ τ ∧ sg_J τ = sg_J σ ∧ (∀ a, a < 320 → sg_I τ a = sg_I σ a) ∧ (∀ a j, a < 320 → sg_R τ a j = sg_R σ a j) ∧ sg_L τ = sg_L σ ∧ (∀ a j, (a < 320 + 6 * w ∨ 325 + 6 * w < a) → sg_I τ a j = sg_I σ a j) ∧ (∀ a j, a ≠ 320 + 6 * w → sg_R τ a j = sg_R σ a j) ∧ sg_I τ (324 + 6 * w) = sg_I σ (324 + 6 * w) := by
  have c := r.cf
  obtain ⟨C1, C2, C3, C4, C5, C6, C7⟩ := r.1.1.2.2.2.2.2 w hw
  have I4 := iw_4 hw
  have e18 := r.w18 w hw
  obtain ⟨b, h1, h2, h3, h4, h5, h6, h7⟩ := so_c r (a := 20 + w) (q := q) (by omega) w8
  have LN := ln_v r H
  have nb : b ≠ 320 + 6 * w ∧ b + 1 ≠ 320 + 6 * w ∧ b + 1 ≠ 323 + 6 * w := by rcases h7 with h | ⟨h, -⟩ <;> omega
  have st := cz_s (f := f) (t := t) (law := law) hw hz w5 w6 w7 C2 C5 nb.1 h2 h3
  have V := cz_v (σ := σ) (w := w) (b := b) (law := law) (t := t) (p := p) (l := hL (sg_I ρ) q) (f := f) (V := vl_ v z)
  have Rn : ∀ a j, (a ≠ 320 + 6 * w ∨ (j ≠ 2 ∧ j ≠ 3)) → sg_R (cz_ σ w b law t p (hL (sg_I ρ) q) f (vl_ v z)) a j = sg_R σ a j := fun a j h => cz_Rn h
  have In : ∀ a, a ≠ 320 + 6 * w → a ≠ 323 + 6 * w → sg_I (cz_ σ w b law t p (hL (sg_I ρ) q) f (vl_ v z)) a = sg_I σ a := fun a h h' => cz_I h h'
  have R2 := cz_R2 (σ := σ) (w := w) (b := b) (law := law) (t := t) (p := p) (l := hL (sg_I ρ) q) (f := f) (V := vl_ v z)
  have R3 := cz_R3 (σ := σ) (w := w) (b := b) (law := law) (t := t) (p := p) (l := hL (sg_I ρ) q) (f := f) (V := vl_ v z)
  have Ll := cz_L (σ := σ) (w := w) (b := b) (law := law) (t := t) (p := p) (l := hL (sg_I ρ) q) (f := f) (V := vl_ v z)
  have Kc := cz_k (σ := σ) (w := w) (b := b) (law := law) (t := t) (p := p) (l := hL (sg_I ρ) q) (f := f) (V := vl_ v z) hw
  have Jj := cz_J (σ := σ) (w := w) (b := b) (law := law) (t := t) (p := p) (l := hL (sg_I ρ) q) (f := f) (V := vl_ v z)
  generalize cz_ σ w b law t p (hL (sg_I ρ) q) f (vl_ v z) = τ at st V Rn In R2 R3 Ll Kc Jj
  refine ⟨τ, ?_, ?_, Kc, Jj, fun a ha => In a (by omega) (by omega), fun a j ha => Rn a j (by omega), Ll, fun a j ha => by rw [In a (by omega) (by omega)], fun a j ha => Rn a j (Or.inl ha), In _ (by omega) (by omega)⟩
  · have c18 : sg_R τ 0 18 = some 319 := by rw [Rn 0 18 (by omega)]; simp only [c]
    have c19 : sg_R τ 319 w = some (320 + 6 * w) := by rw [Rn 319 w (by omega)]; exact C1
    have l19 : sg_L τ 319 = 4 := by rw [Ll]; simp only [c]
    unfold f_X11_courseOf
    simp only [Option.bind_some, ↓reduceIte, gI_I, gI_R, gI_J, gR_I, gR_R, gR_J, gL_I, gL_R, gL_J, gN_I, gN_R, gN_J, gJ_I, gJ_R, Int32.reduceLT, e_1_0, Int32.reduceToNatClampNeg, Int32.reduceToInt, Int.reduceLE, Int.reduceLT, Int.reduceNeg, Int.reduceEq,  Nat.reduceLT, Nat.reduceLeDiff, Nat.reduceEqDiff, Nat.reduceAdd, Nat.reduceMul, false_or, or_false, true_and, and_true, false_and, and_false, not_false_eq_true, not_true_eq_false, or_self, and_self, true_or, or_true, c, I4, e18, h1, LN, C1, i5, i8, st, c18, c19, l19]
  · refine ⟨⟨b, b + 1, R2, by rw [Rn b 0 (Or.inl nb.1)]; exact h2, by rw [Ll]; exact h3, fun i hi => by rw [In _ nb.2.1 nb.2.2]; exact (h6 i hi).1, ?_, fun bl hbl => ?_⟩, R3, ⟨by rw [Rn _ _ (by omega)]; exact C2, by rw [Rn _ _ (by omega)]; exact C3, by rw [Rn _ _ (by omega)]; exact C4, by rw [Ll]; exact C5, by rw [Ll]; exact C6, by rw [Ll]; exact C7⟩, V.1, V.2, ⟨h4, h5, hf, vl_b hv, fun i hi => (h6 i hi).2, hw⟩, ?_⟩
    · rcases h7 with h | ⟨h, -⟩ <;> omega
    · rcases H with ⟨q1, -⟩ | ⟨i, bl', K', i1, i2, i3, i4, i5', i6, i7, i8', i9⟩
      · rw [q1] at hbl; cases hbl
      · rw [i2] at hbl
        cases hbl
        rcases h7 with h | ⟨h, s, s1, s2⟩
        · omega
        · have := r.1.2.2.2.2.2.1.2.1 i s bl b i1 s1 i8' s2
          omega
    · rcases H with ⟨q1, q2, -, -⟩ | ⟨i, bl, K', i1, i2, i3, i4, i5', i6, i7, i8', i9⟩
      · exact Or.inl ⟨q1, q2⟩
      · obtain ⟨c1, c2, c3, c4, c5, c6, c7, c8, c9, c10, c11, c12, c13⟩ := i9
        refine Or.inr ⟨bl, K', i2, i3, i7, ⟨i, i1, (Rn 12 i (by omega)).trans i8'⟩, (Rn bl 0 (by omega)).trans c1, (Rn bl 1 (by omega)).trans c2, by rw [Ll]; exact c3, by rw [Ll]; exact c4, c5, ?_, c13⟩
        rw [In (bl + 1) (by omega) (by omega)]
        exact c6
theorem np_v {σ ρ : Sg} (r : Rel σ ρ) {law : Option Nat} {K : Option (List Kl)} (H : HO σ ρ law K) {w v z q p f t : Nat} (hw : w < 4) (hv : v ≤ 9) (hz : z ≤ 1) (hq : q ≤ 5) (hf : f ≤ 60) (hp : p < hL (sg_I ρ) q) (ht : t < 100000) (w5 : sg_I σ (20 + w) 0 = Int32.ofNat v) (w6 : sg_I σ (20 + w) 1 = Int32.ofNat z) (w7 : sg_I σ (20 + w) 2 = Int32.ofNat p) (w8 : sg_I σ (20 + w) 3 = Int32.ofNat q) (i5 : sg_I σ 17 2 = Int32.ofNat f) (i8 : sg_I σ 17 5 = Int32.ofNat t) : ∃ τ, f_X11_nextPlace 20000 0 (Int32.ofNat w) σ = some (Int32.ofNat (nx_ K (vl_ v z) (hL (sg_I ρ) q) (hP (sg_I ρ) q) f p t), τ) ∧ KC σ τ ∧ sg_J τ = sg_J σ := by
  obtain ⟨F, F1, F2, F3, F4, F5, F6, F7, -⟩ := co_v r H hw hv hz hq hf w5 w6 w7 w8 i5 i8
  obtain ⟨τ, t1, t2⟩ := mo_v F2 hp ht
  have c := r.cf
  have I4 := iw_4 hw
  have e18 := r.w18 w hw
  refine ⟨τ, ?_, F3.tr (F2.kc t2), t2.1.2.2.2.trans F4⟩
  unfold f_X11_nextPlace
  simp only [Option.bind_some, ↓reduceIte, gI_I, gI_R, gI_J, gR_I, gR_R, gR_J, gL_I, gL_R, gL_J, gN_I, gN_R, gN_J, gJ_I, gJ_R, Int32.reduceLT, e_1_0, Int32.reduceToNatClampNeg, Int32.reduceToInt, Int.reduceLE, Int.reduceLT, Int.reduceNeg, Int.reduceEq,  Nat.reduceLT, Nat.reduceLeDiff, Nat.reduceEqDiff, Nat.reduceAdd, Nat.reduceMul, false_or, or_false, true_and, and_true, false_and, and_false, not_false_eq_true, not_true_eq_false, or_self, and_self, true_or, or_true, F1, F6 0 13 (by omega), F6 17 0 (by omega), F6 18 w (by omega), F7, c, I4, e18, F5 17 (by omega), F5 (20 + w) (by omega), w7, i8, t1]
/-- a wheel's step on both sides -/
theorem tk_1 {σ ρ : Sg} (r : Rel σ ρ) {n w : Nat} (hn : n ≤ 4) (e : sg_I ρ 344 20 = Int32.ofNat n) (hw : w < n) : ∃ x τ υ, f_X11_nextPlace 20000 0 (Int32.ofNat w) σ = some (x, τ) ∧ f_X12_nextOf 20000 344 (Int32.ofNat w) (sg_I ρ 359 (4 * w + 2)) (sg_I ρ 359 19) ρ = some (x, υ) ∧ KC σ τ ∧ KU ρ υ ∧ sg_J τ = sg_J σ ∧ Rel (put_I τ (20 + w) 2 x) (put_I υ 359 (4 * w + 2) x) ∧ FC σ (put_I τ (20 + w) 2 x) ∧ FR ρ (put_I υ 359 (4 * w + 2) x) := by
  obtain ⟨f, o, c', t, f1, f2, o1, c1, t1, i1, i2, i3, i4, i5, i6, i7, i8⟩ := r.gl e hn (by omega)
  obtain ⟨v, z, p, q, v1, z1, q1, p1, p2, w1, w2, w3, w4, w5, w6, w7, w8⟩ := r.wh e hn hw
  obtain ⟨law, K, H⟩ := r.ho
  obtain ⟨τ, a1, a2, a3⟩ := np_v r H (by omega) v1 z1 q1 f2 p1 (by omega) w5 w6 w7 w8 i5 i8
  obtain ⟨υ, b1, b2⟩ := no_v r H (by omega) v1 z1 q1 f2 p1 (by omega) w1 w2 w4 i1 (tt := t)
  have r2 : Rel τ υ := b2.kr.rel (a2.rel r)
  obtain ⟨bb, cc, ⟨-, -, s1, s2, -⟩, -, -⟩ := r.sp q
  have hh : hL (sg_I υ) = hL (sg_I ρ) := hL_q (by rw [b2.2 344 (by decide) (by decide)]) (b2.2 358 (by decide) (by decide))
  have e9 := b2.2 359 (by decide) (by decide)
  have eg := a2.i (a := 20 + w) (by omega)
  have R := rl_p (n := n) (w := w) (v := v) (z := z) (q := q) (p := nx_ K (vl_ v z) (hL (sg_I ρ) q) (hP (sg_I ρ) q) f p t) r2 hn (by rw [b2.2 344 (by decide) (by decide)]; exact e) hw ⟨v1, z1, q1, by rw [hh]; exact nx_lt s1⟩ (by rw [e9]; exact w1) (by rw [e9]; exact w2) (by rw [e9]; exact w4) (by rw [eg]; exact w5) (by rw [eg]; exact w6) (by rw [eg]; exact w8)
  exact ⟨_, τ, υ, a1, by rw [w3, i4]; exact b1, a2, b2, a3, R.1, a2.2.2.tr R.2.1, b2.kr.2.1.tr R.2.2⟩
theorem tl_v {n : Nat} (hn : n ≤ 4) : ∀ (j k m m' : Nat) (σ ρ : Sg), k + j = n → j < m → j < m' → Rel σ ρ → sg_I ρ 344 20 = Int32.ofNat n → ∃ τ υ, f_X11_tickOnce_L25 20000 0 m (Int32.ofNat k) σ = f_X11_tickOnce_B59 20000 0 τ ∧ f_X12_passTick_L23 20000 344 m' (Int32.ofNat k) ρ = f_X12_passTick_B65 20000 344 υ ∧ Rel τ υ ∧ FC σ τ ∧ FR ρ υ ∧ sg_J τ = sg_J σ ∧ sg_J υ = sg_J ρ ∧ sg_I υ 344 20 = Int32.ofNat n ∧ ∀ i, 16 ≤ i → sg_I υ 359 i = sg_I ρ 359 i := by
  intro j
  induction j with
  | zero =>
    intro k m m' σ ρ hk hm hm' r e
    obtain ⟨m, rfl⟩ : ∃ x, m = x + 1 := ⟨m - 1, by omega⟩
    obtain ⟨m', rfl⟩ : ∃ x, m' = x + 1 := ⟨m' - 1, by omega⟩
    have hk : k = n := by omega
    subst hk
    have c := r.cf
    obtain ⟨n', h1, h2, h3, -⟩ := r.nw
    have en : n' = k := (o_eq (by omega) (by omega)).mp (h2.symm.trans e)
    subst en
    refine ⟨σ, ρ, ?_, ?_, r, FC.rf, FR.rf, rfl, rfl, e, fun _ _ => rfl⟩
    · rw [f_X11_tickOnce_L25]
      simp only [c, Option.bind_some, h3]
      rw [if_neg (by rw [o_lt (by omega) (by omega)]; omega)]
    · rw [f_X12_passTick_L23, e, if_neg (by rw [o_lt (by omega) (by omega)]; omega)]
  | succ j ih =>
    intro k m m' σ ρ hk hm hm' r e
    obtain ⟨m, rfl⟩ : ∃ x, m = x + 1 := ⟨m - 1, by omega⟩
    obtain ⟨m', rfl⟩ : ∃ x, m' = x + 1 := ⟨m' - 1, by omega⟩
    have c := r.cf
    have d := r.rf
    obtain ⟨n', h1, h2, h3, -⟩ := r.nw
    have en : n' = n := (o_eq (by omega) (by omega)).mp (h2.symm.trans e)
    subst en
    obtain ⟨x, τ1, υ1, a1, a2, a3, a4, a5, a6, a7, a8⟩ := tk_1 r hn e (show k < n' by omega)
    obtain ⟨τ, υ, b1, b2, b3, b4, b5, b6, b7, b8, b9⟩ := ih (k + 1) m m' _ _ (by omega) (by omega) (by omega) a6 (by rw [gI_a (by omega), a4.2 344 (by decide) (by decide)]; exact e)
    have I4 := iw_4 (show k < 4 by omega)
    have e18 := r.w18 k (by omega)
    have J := ix_2 (show k < 4 by omega)
    refine ⟨τ, υ, ?_, ?_, b3, a7.tr b4, a8.tr b5, b6.trans a5, b7.trans (a4.1.2.2.2), b8, fun i hi => ?_⟩
    · rw [← b1, f_X11_tickOnce_L25]
      simp only [c, Option.bind_some, h3]
      rw [if_pos (by rw [o_lt (by omega) (by omega)]; omega)]
      simp only [Option.bind_some, ↓reduceIte, gI_I, gI_R, gI_J, gR_I, gR_R, gR_J, gL_I, gL_R, gL_J, gN_I, gN_R, gN_J, gJ_I, gJ_R, Int32.reduceLT, e_1_0, Int32.reduceToNatClampNeg, Int32.reduceToInt, Int.reduceLE, Int.reduceLT, Int.reduceNeg, Int.reduceEq,  Nat.reduceLT, Nat.reduceLeDiff, Nat.reduceEqDiff, Nat.reduceAdd, Nat.reduceMul, false_or, or_false, true_and, and_true, false_and, and_false, not_false_eq_true, not_true_eq_false, or_self, and_self, true_or, or_true, I4, a1, e18, o_s]
    · rw [← b2, f_X12_passTick_L23, e, if_pos (by rw [o_lt (by omega) (by omega)]; omega), of_2 d (by omega)]
      simp only [Option.bind_some, ↓reduceIte, gI_I, gI_R, gI_J, gR_I, gR_R, gR_J, gL_I, gL_R, gL_J, gN_I, gN_R, gN_J, gJ_I, gJ_R, Int32.reduceLT, e_1_0, Int32.reduceToNatClampNeg, Int32.reduceToInt, Int.reduceLE, Int.reduceLT, Int.reduceNeg, Int.reduceEq,  Nat.reduceLT, Nat.reduceLeDiff, Nat.reduceEqDiff, Nat.reduceAdd, Nat.reduceMul, false_or, or_false, true_and, and_true, false_and, and_false, not_false_eq_true, not_true_eq_false, or_self, and_self, true_or, or_true, d, a2, a4.1.2.2.1, J, o_s]
    · rw [b9 i hi, gI_n (by omega), a4.2 359 (by decide) (by decide)]
