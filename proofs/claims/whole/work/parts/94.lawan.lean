/-! ===== the reader of laws: answers ===== -/
/-- law i's rows as they were, but for the clause at w -/
def KW (i w : Nat) (ρ τ : Sg) : Prop := KJJ i ρ τ ∧ sg_I τ 349 i = sg_I ρ 349 i ∧ ∀ j, j ≠ w → sg_I τ 350 j = sg_I ρ 350 j ∧ sg_I τ 351 j = sg_I ρ 351 j ∧ sg_I τ 352 j = sg_I ρ 352 j
theorem KW.tr {i w : Nat} {σ τ υ : Sg} (h : KW i w σ τ) (k : KW i w τ υ) : KW i w σ υ := ⟨h.1.tr k.1, k.2.1.trans h.2.1, fun j hj => ⟨(k.2.2 j hj).1.trans (h.2.2 j hj).1, (k.2.2 j hj).2.1.trans (h.2.2 j hj).2.1, (k.2.2 j hj).2.2.trans (h.2.2 j hj).2.2⟩⟩
theorem KE.kw {i w : Nat} {σ τ : Sg} (h : KE i σ τ) : KW i w σ τ := ⟨h.kl, by rw [h.2.1 349 (by decide) (by decide) (by decide) (by decide)], fun j _ => ⟨by rw [h.2.1 350 (by decide) (by decide) (by decide) (by decide)], by rw [h.2.1 351 (by decide) (by decide) (by decide) (by decide)], by rw [h.2.1 352 (by decide) (by decide) (by decide) (by decide)]⟩⟩
theorem KW.put {i w a : Nat} {σ : Sg} {v : Int32} (h : a = 350 ∨ a = 351 ∨ a = 352) (hw : 140 * i ≤ w) : KW i w σ (put_I σ a w v) := ⟨KJJ.put (by omega), gI_n (by omega), fun j hj => ⟨gI_n (by omega), gI_n (by omega), gI_n (by omega)⟩⟩
theorem KE.e9 {i a : Nat} {σ τ : Sg} (h : KE i σ τ) (ha : 349 ≤ a ∧ a ≤ 352) : sg_I τ a = sg_I σ a := h.2.1 a (by omega) (by omega) (by omega) (by omega)
theorem AR.up {t i w p p' n0 : Nat} {x : Nat → Int32} {σ ρ σ' ρ' : Sg} {C : List Int32} {T : List Tk} {A : Option (Int32 × Sg)} {B : Option Sg} (h : AR t i w x σ' ρ' p' C T n0 A B) (kz : KZ 6 σ σ') (kw : KW i w ρ ρ') (hp : p ≤ p') : AR t i w x σ ρ p C T n0 A B := by
  obtain ⟨c, υ, φ, h1, h2, h3, h4, h5⟩ := h
  refine ⟨c, υ, φ, h1, h2, kz.tr h3, kw.1.tr h4, ?_⟩
  rcases h5 with ⟨c1, V, U, q, C', l1, l2, l3, l4, l5, l6, l7⟩ | h5
  · exact Or.inl ⟨c1, V, U, q, C', l1, by omega, l3, l4, by rw [l5, kw.2.1], fun j hj => ⟨(l6 j hj).1.trans (kw.2.2 j hj).1, (l6 j hj).2.1.trans (kw.2.2 j hj).2.1, (l6 j hj).2.2.trans (kw.2.2 j hj).2.2⟩, l7⟩
  · exact Or.inr h5
theorem AR.bad {t i w p n0 q n : Nat} {x : Nat → Int32} {σ ρ υ φ : Sg} {C : List Int32} {T : List Tk} (kz : KZ 6 σ υ) (kl : KJJ i ρ φ) (h : LB t i x υ φ q n) : AR t i w x σ ρ p C T n0 (some (0, υ)) (some φ) := ⟨0, υ, φ, rfl, rfl, kz, kl, Or.inr ⟨rfl, q, n, h⟩⟩
theorem set_l {A U : List Int32} {v : Int32} : ((((A ++ [-11]) ++ [0]) ++ U) ++ [-12]).set (A.length + 1) v = A ++ (-11 :: v :: (U ++ [-12])) := by
  have e : ((((A ++ [-11]) ++ [0]) ++ U) ++ [-12]) = (A ++ [-11]) ++ ((0 : Int32) :: (U ++ [-12])) := by
    rw [List.append_assoc, List.append_assoc]
    rfl
  have l : (A ++ [-11]).length = A.length + 1 := by rw [List.length_append]; rfl
  rw [e, List.set_append_right _ _ (by omega), l, Nat.sub_self]
  show (A ++ [-11]) ++ (v :: (U ++ [-12])) = _
  rw [List.append_assoc]
  rfl
theorem ans_2 {t i p w n0 : Nat} {x : Nat → Int32} {σ ρ : Sg} {C : List Int32} {T V : List Tk} (hx : XT t x) (h : LSt t i x σ ρ p 0 (C ++ V.map tk_c) (T ++ V)) (hw : 140 * i ≤ w ∧ w < 700) (h0 : sg_I ρ 350 w = Int32.ofNat n0) (hv : ck_ V [] = some [true]) (hs : C.length + V.length + 2 ≤ p) : AR t i w x σ ρ p C T n0 (f_X3_isAnswerIf 20000 6 σ) (f_X12_clause_B184 20000 344 (Int32.ofNat w) 1 ρ) := by
  have ht := hx.1
  have hp := h.2.1
  have d := h.1.2.2.2.2.1
  have cl : (C ++ V.map tk_c).length = C.length + V.length := by rw [List.length_append, List.length_map]
  have tl : (T ++ V).length = T.length + V.length := List.length_append
  have R10 : sg_R ρ 344 10 = some 350 := by simp only [d]
  have R11 : sg_R ρ 344 11 = some 351 := by simp only [d]
  have L10 : sg_L ρ 350 = 700 := by simp only [d]
  have L11 : sg_L ρ 351 = 700 := by simp only [d]
  have n7 : ¬ (Int32.ofNat w < 0 ∨ 700 ≤ (Int32.ofNat w).toNatClampNeg) := o_in (by omega) (by omega)
  have t7 : (Int32.ofNat w).toNatClampNeg = w := o_tn (by omega)
  have n7' : ¬ (Int32.ofNat w < 0 ∨ 700 ≤ w) := by rw [t7] at n7; exact n7
  have ha := h.pu (a := 351) (j := w) (v := sg_I ρ 350 w) (by omega)
  have kwa : KW i w ρ (put_I ρ 351 w (sg_I ρ 350 w)) := KW.put (by omega) hw.1
  have h0a : sg_I (put_I ρ 351 w (sg_I ρ 350 w)) 350 w = Int32.ofNat n0 := by rw [gI_n (by omega)]; exact h0
  unfold f_X12_clause_B184
  rw [f_of R10, L10, if_neg n7, t7, f_of R11, L11, if_neg n7', if_neg (show ¬ (1 : Int32) = 0 by decide)]
  refine AR.up (p' := p) ?_ KZ.rf kwa (Nat.le_refl p)
  generalize put_I ρ 351 w (sg_I ρ 350 w) = ρa at ha h0a ⊢
  have tk := tks_v (c := 63) hx ha
  obtain ⟨l1, l2, q1, q2, q3, l3⟩ := ha.lk hx
  generalize pb_ x t p = q at tk l1 l2 q1 q2 q3 l3
  rw [if_pos ha.2.2.2.2.1, f_of l2]
  unfold f_X3_isAnswerIf
  dsimp only
  by_cases c1 : sx_ x t q = 63
  · have ql := sx_l hx c1 (by decide)
    rw [if_pos c1] at tk
    have h1 := ha.mv (q := q + 1) (by omega) (by omega)
    have d1 := h1.1.2.2.2.2.1
    have R8 : sg_R (put_I ρa 344 3 (Int32.ofNat (q + 1))) 344 8 = some 348 := by simp only [d1]
    have L8 : sg_L (put_I ρa 344 3 (Int32.ofNat (q + 1))) 348 = 5 := by simp only [d1]
    have R11' : sg_R (put_I ρa 344 3 (Int32.ofNat (q + 1))) 344 11 = some 351 := by simp only [d1]
    have L11' : sg_L (put_I ρa 344 3 (Int32.ofNat (q + 1))) 351 = 700 := by simp only [d1]
    have h14 := h1.1.2.2.2.2.2.1
    have hi := h1.1.2.2.2.2.2.2
    have h48 := h1.2.2.2.2.2.2.2.1.1
    obtain ⟨υ1, v1, v2, v3, v4⟩ := h1.wc hx (-11) (by omega)
    rw [cl] at v4
    have cl2 : ((C ++ V.map tk_c) ++ [-11]).length = C.length + V.length + 1 := by rw [List.length_append, cl]; rfl
    obtain ⟨υ2, w1, w2, w3, w4⟩ := v3.wc hx 0 (by omega)
    have cl3 : (((C ++ V.map tk_c) ++ [-11]) ++ [0]).length = C.length + V.length + 2 := by rw [List.length_append, cl2]; rfl
    have h2 := w3.pu (a := 351) (j := w) (v := Int32.ofNat (T ++ V).length) (by omega)
    have kz2 : KZ 6 σ υ2 := (KZ.put (by omega) (by omega)).tr (v2.tr w2)
    have kw2 : KW i w ρa (put_I (put_I ρa 344 3 (Int32.ofNat (q + 1))) 351 w (Int32.ofNat (T ++ V).length)) := (KE.put (by omega)).kw.tr (KW.put (by omega) hw.1)
    rw [if_pos c1, f_of tk]
    dsimp only
    rw [if_neg (show ¬ (1 : Int32) = 0 by decide), f_of v1, f_of w1, gI_e, o_s q, pI_2, f_of R8, L8, h14, if_neg (o_in (by omega) (by omega)), o_tn (by omega), h48, f_of R11', L11', if_neg n7']
    refine AR.up (p' := p) ?_ kz2 kw2 (Nat.le_refl p)
    have h0b : sg_I (put_I (put_I ρa 344 3 (Int32.ofNat (q + 1))) 351 w (Int32.ofNat (T ++ V).length)) 350 w = Int32.ofNat n0 := by rw [gI_n (by omega), gI_n (by omega)]; exact h0a
    have h0c : sg_I (put_I (put_I ρa 344 3 (Int32.ofNat (q + 1))) 351 w (Int32.ofNat (T ++ V).length)) 351 w = Int32.ofNat (T ++ V).length := gI_e
    generalize put_I (put_I ρa 344 3 (Int32.ofNat (q + 1))) 351 w (Int32.ofNat (T ++ V).length) = ρ2 at h2 h0b h0c ⊢
    obtain ⟨c, υ3, φ3, s1, s2, s3, s4, s5⟩ := sum_2 hx h2
    rw [f_of s1, f_of s2]
    dsimp only
    rcases s5 with ⟨rfl, U, q5, m1, m2, m3⟩ | ⟨rfl, q5, n5, m1, m2, m3⟩
    · have cl4 : ((((C ++ V.map tk_c) ++ [-11]) ++ [0]) ++ U.map tk_c).length = C.length + V.length + 2 + U.length := by rw [List.length_append, cl3, List.length_map]
      obtain ⟨υ4, y1, y2, y3, y4⟩ := m1.wc hx (-12) (by omega)
      have cl5 : (((((C ++ V.map tk_c) ++ [-11]) ++ [0]) ++ U.map tk_c) ++ [-12]).length = C.length + V.length + U.length + 3 := by rw [List.length_append, cl4]; show _ + 1 = _; omega
      rw [cl4] at y4
      have R63 : sg_R υ4 6 3 = some 8 := y3.1.2.1
      have L8' : sg_L υ4 8 = 720 := y3.1.2.2.1
      have hq5 := m1.2.1
      have se := y3.se (j := C.length + V.length + 1) (v := sg_I υ4 6 4) (by omega)
      have cb := c251 (w := w) m1.1.2.2.2.2.1 m1.1.2.2.2.2.2.1 m1.1.2.2.2.2.2.2 m1.2.2.2.2.2.2.2.1.1 hw.2
      have nv : ¬ V = [] := by
        intro e
        rw [e] at hv
        exact absurd hv (by decide)
      have tot : sg_I υ4 6 4 = Int32.ofNat (C.length + V.length + U.length + 3) := by rw [y4]; congr 1; omega
      rw [if_neg (show ¬ (1 : Int32) = 0 by decide), f_of y1, f_of R63, v4, L8', if_pos (by rw [o_lt (by omega) (by omega)]; omega), if_neg (o_in (by omega) (by omega)), o_tn (by omega), cb]
      refine ⟨1, _, _, rfl, rfl, s3.tr (y2.tr (KZ.put (by omega) (by omega))), s4.kl.tr ((KJJ.put (by omega)).tr (KJJ.put (by omega))), Or.inl ⟨rfl, V, U, q5, kl_c C.length (V, U), ?_, by omega, rfl, ⟨Or.inr hv, m3 [] (by show 0 + 15 ≤ 62; omega)⟩, ?_, ?_, ?_, ?_, ?_⟩⟩
      · rw [tot, ← cl, set_l, cl] at se
        have e1 : (C ++ V.map tk_c) ++ (-11 :: Int32.ofNat (C.length + V.length + U.length + 3) :: (U.map tk_c ++ [-12])) = C ++ kl_c C.length (V, U) := by
          unfold kl_c
          rw [if_neg nv, List.append_assoc]
        rw [e1, List.append_assoc] at se
        rw [tot]
        exact (se.pu (by omega)).pu (by omega)
      · rw [gI_e, s4.e9 (by omega)]
      · intro j hj
        rw [gI_n (by omega), gI_n (by omega), gI_n (by omega), gI_n (by omega), gI_n (by omega), gI_n (by omega), s4.e9 (by omega), s4.e9 (by omega), s4.e9 (by omega)]
        exact ⟨rfl, rfl, rfl⟩
      · rw [gI_n (by omega), gI_n (by omega), s4.e9 (by omega)]
        exact h0b
      · rw [gI_n (by omega), gI_n (by omega), s4.e9 (by omega), h0c, tl]
      · rw [gI_n (by omega), gI_e, List.length_append, tl]
    · have cb := c251 (w := w) m1.1.2.2.2.2.1 m1.1.2.2.2.2.2.1 m1.1.2.2.2.2.2.2 m1.2.2.2.2.1 hw.2
      rw [if_pos rfl, cb]
      exact AR.bad s3 (s4.kl.tr ((KJJ.put (by omega)).tr (KJJ.put (by omega)))) ((m1.pu (by omega)).pu (by omega))
  · rw [if_neg c1] at tk
    obtain ⟨b1, b2, b3⟩ := l3.bd
    rw [if_neg c1, f_of tk, f_of b1]
    dsimp only
    rw [if_pos rfl]
    exact AR.bad (KZ.put (by omega) (by omega)) ((KE.put (by omega)).tr b2).kl b3
