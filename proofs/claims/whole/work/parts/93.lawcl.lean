/-! ===== the reader of laws: clauses ===== -/
/-- of the reference's cells law i and the reading's alone have changed -/
def KJJ (i : Nat) (ρ τ : Sg) : Prop := kp_ ρ τ ∧ (∀ a, a < 344 ∨ a = 345 ∨ 352 < a → sg_I τ a = sg_I ρ a) ∧ (∀ j, j ≠ 3 → j ≠ 4 → j ≠ 5 → sg_I τ 344 j = sg_I ρ 344 j) ∧ (∀ j, j < 520 * i → sg_I τ 346 j = sg_I ρ 346 j ∧ sg_I τ 347 j = sg_I ρ 347 j) ∧ (∀ j, j < 140 * i → sg_I τ 350 j = sg_I ρ 350 j ∧ sg_I τ 351 j = sg_I ρ 351 j ∧ sg_I τ 352 j = sg_I ρ 352 j) ∧ (∀ j, j ≠ i → sg_I τ 349 j = sg_I ρ 349 j)
theorem KJJ.rf {i : Nat} {σ : Sg} : KJJ i σ σ := ⟨kp_.rf, fun _ _ => rfl, fun _ _ _ _ => rfl, fun _ _ => ⟨rfl, rfl⟩, fun _ _ => ⟨rfl, rfl, rfl⟩, fun _ _ => rfl⟩
theorem KJJ.tr {i : Nat} {σ τ υ : Sg} (h : KJJ i σ τ) (k : KJJ i τ υ) : KJJ i σ υ := ⟨h.1.tr k.1, fun a h1 => (k.2.1 a h1).trans (h.2.1 a h1), fun j h1 h2 h3 => (k.2.2.1 j h1 h2 h3).trans (h.2.2.1 j h1 h2 h3), fun j h1 => ⟨(k.2.2.2.1 j h1).1.trans (h.2.2.2.1 j h1).1, (k.2.2.2.1 j h1).2.trans (h.2.2.2.1 j h1).2⟩, fun j h1 => ⟨(k.2.2.2.2.1 j h1).1.trans (h.2.2.2.2.1 j h1).1, (k.2.2.2.2.1 j h1).2.1.trans (h.2.2.2.2.1 j h1).2.1, (k.2.2.2.2.1 j h1).2.2.trans (h.2.2.2.2.1 j h1).2.2⟩, fun j h1 => (k.2.2.2.2.2 j h1).trans (h.2.2.2.2.2 j h1)⟩
theorem KE.kl {i : Nat} {σ τ : Sg} (h : KE i σ τ) : KJJ i σ τ := ⟨h.1, fun a ha => h.2.1 a (by omega) (by omega) (by omega) (by omega), h.2.2.1, h.2.2.2, fun j _ => ⟨by rw [h.2.1 350 (by decide) (by decide) (by decide) (by decide)], by rw [h.2.1 351 (by decide) (by decide) (by decide) (by decide)], by rw [h.2.1 352 (by decide) (by decide) (by decide) (by decide)]⟩, fun j _ => by rw [h.2.1 349 (by decide) (by decide) (by decide) (by decide)]⟩
theorem KJJ.put {i a j : Nat} {σ : Sg} {v : Int32} (h : (a = 344 ∧ (j = 3 ∨ j = 4 ∨ j = 5)) ∨ ((a = 350 ∨ a = 351 ∨ a = 352) ∧ 140 * i ≤ j) ∨ (a = 349 ∧ j = i)) : KJJ i σ (put_I σ a j v) := ⟨kp_.put, fun c h1 => gI_a (by omega), fun c h1 h2 h3 => gI_n (by omega), fun c h1 => ⟨gI_n (by omega), gI_n (by omega)⟩, fun c h1 => ⟨gI_n (by omega), gI_n (by omega), gI_n (by omega)⟩, fun c h1 => gI_n (by omega)⟩
theorem LQ.pu {t i a j : Nat} {x : Nat → Int32} {σ ρ : Sg} {v : Int32} (h : LQ t i x σ ρ) (ha : 349 ≤ a ∧ a ≤ 352) : LQ t i x σ (put_I ρ a j v) := by
  obtain ⟨h1, h2, h3, h4, h5, h6, h7⟩ := h
  exact ⟨h1, h2, h3, h4.put (by omega) (by omega), h5, by rw [gI_n (by omega)]; exact h6, h7⟩
theorem LSt.pu {t i p k a j : Nat} {x : Nat → Int32} {σ ρ : Sg} {C : List Int32} {T : List Tk} {v : Int32} (h : LSt t i x σ ρ p k C T) (ha : 349 ≤ a ∧ a ≤ 352) : LSt t i x σ (put_I ρ a j v) p k C T := by
  obtain ⟨a1, a2, a3, a4, a5, a6, a7, a8, a9, a10⟩ := h
  exact ⟨a1.pu ha, a2, a3, by rw [gI_n (by omega)]; exact a4, by rw [gI_n (by omega)]; exact a5, by rw [gI_n (by omega)]; exact a6, a7, ⟨by rw [gI_n (by omega)]; exact a8.1, fun j hj => by rw [gI_n (by omega), gI_n (by omega)]; exact a8.2 j hj⟩, a9, a10⟩
theorem LB.pu {t i q n a j : Nat} {x : Nat → Int32} {σ ρ : Sg} {v : Int32} (h : LB t i x σ ρ q n) (ha : 349 ≤ a ∧ a ≤ 352) : LB t i x σ (put_I ρ a j v) q n := by
  obtain ⟨a1, a2, a3, a4, a5, a6⟩ := h
  exact ⟨a1.pu ha, a2, a3, by rw [gI_n (by omega)]; exact a4, by rw [gI_n (by omega)]; exact a5, a6⟩
/-- the class alone writes -/
theorem LSt.wc {t i p k : Nat} {x : Nat → Int32} {σ ρ : Sg} {C : List Int32} {T : List Tk} (hx : XT t x) (h : LSt t i x σ ρ p k C T) (c : Int32) (h1 : C.length < p) : ∃ υ, f_X3_write 6 c σ = some υ ∧ KZ 6 σ υ ∧ LSt t i x υ ρ p k (C ++ [c]) T ∧ sg_I υ 6 4 = Int32.ofNat (C.length + 1) := by
  have ht := hx.1
  obtain ⟨a1, a2, a3, a4, a5, a6, a7, a8, a9, a10⟩ := h
  obtain ⟨b1, b2, b3, b4, b5, b6, b7⟩ := a1
  have w := wr_v (c := c) b2 b3 a7.1 (by omega)
  have kz : KZ 6 σ (put_I (put_I σ 8 C.length c) 6 4 (Int32.ofNat (C.length + 1))) := (KZ.put (by omega) (by omega)).tr (KZ.put (by omega) (by omega))
  refine ⟨_, w, kz, ⟨LQ.k ⟨b1, b2, b3, b4, b5, b6, b7⟩ kz KE.rf, a2, by rw [gI_n (by omega), gI_n (by omega)]; exact a3, a4, a5, a6, ⟨by rw [gI_e, List.length_append]; rfl, fun j hj => ?_⟩, a8, by rw [List.length_append]; show C.length + 1 ≤ p; omega, a10⟩, gI_e⟩
  rw [List.length_append] at hj
  have hj : j < C.length + 1 := hj
  rw [gI_n (by omega), List.getD_eq_getElem?_getD]
  by_cases e : j = C.length
  · subst e
    rw [gI_e, List.getElem?_append_right (by omega), Nat.sub_self]
    rfl
  · rw [gI_n (by omega), List.getElem?_append_left (by omega), ← List.getD_eq_getElem?_getD]
    exact a7.2 j (by omega)
/-- the class mends what it wrote -/
theorem LSt.se {t i p k j : Nat} {x : Nat → Int32} {σ ρ : Sg} {C : List Int32} {T : List Tk} {v : Int32} (h : LSt t i x σ ρ p k C T) (hj : j < C.length) : LSt t i x (put_I σ 8 j v) ρ p k (C.set j v) T := by
  obtain ⟨a1, a2, a3, a4, a5, a6, a7, a8, a9, a10⟩ := h
  refine ⟨a1.k (KZ.put (by omega) (by omega)) KE.rf, a2, by rw [gI_n (by omega)]; exact a3, a4, a5, a6, ⟨by rw [gI_n (by omega), List.length_set]; exact a7.1, fun l hl => ?_⟩, a8, by rw [List.length_set]; exact a9, a10⟩
  rw [List.length_set] at hl
  rw [List.getD_eq_getElem?_getD, List.getElem?_set]
  by_cases e : j = l
  · subst e
    rw [gI_e, if_pos rfl, if_pos hj]
    rfl
  · rw [gI_n (by omega), if_neg e, ← List.getD_eq_getElem?_getD]
    exact a7.2 l hl
theorem sum_2 {t i p : Nat} {x : Nat → Int32} {σ ρ : Sg} {C : List Int32} {T : List Tk} (hx : XT t x) (h : LSt t i x σ ρ p 0 C T) : LR t i x σ ρ p 0 C T (GN 15) (f_X3_isSum 20000 6 0 σ) (f_X12_sum 20000 344 ρ) := by
  unfold f_X3_isSum f_X12_sum
  exact (px_all hx 100).2.2.1 dep_X3_law dep_X12_law p 0 C T σ ρ (by decide) (by decide) (by omega) (by omega) h
theorem cnd_2 {t i p : Nat} {x : Nat → Int32} {σ ρ : Sg} {C : List Int32} {T : List Tk} (hx : XT t x) (h : LSt t i x σ ρ p 0 C T) : LR t i x σ ρ p 0 C T (GT 18) (f_X3_isCondition 20000 6 0 σ) (f_X12_condition 20000 344 ρ) := by
  unfold f_X3_isCondition f_X12_condition
  exact (px_all hx 100).2.2.2.2.2.2.2.2 dep_X3_law dep_X12_law p 0 C T σ ρ (by decide) (by decide) (by omega) (by omega) h
theorem cmp_2 {t i p : Nat} {x : Nat → Int32} {σ ρ : Sg} {C : List Int32} {T : List Tk} (hx : XT t x) (h : LSt t i x σ ρ p 0 C T) : LR t i x σ ρ p 0 C T (GC 16) (f_X3_isCompared 20000 6 0 σ) (f_X12_compare 20000 344 ρ) := by
  unfold f_X3_isCompared f_X12_compare
  exact (px_all hx 100).2.2.2.1 dep_X3_law dep_X12_law p 0 C T σ ρ (by decide) (by decide) (by omega) (by omega) h
theorem mu_2 {t i p : Nat} {x : Nat → Int32} {σ ρ : Sg} {C : List Int32} {T : List Tk} (hx : XT t x) (h : LSt t i x σ ρ p 0 C T) : LR t i x σ ρ p 0 C T (GM 17) (f_X3_areMoreUnits 20000 6 0 σ) (f_X12_goOnAnd 20000 344 ρ) := by
  unfold f_X3_areMoreUnits f_X12_goOnAnd
  exact (px_all hx 100).2.2.2.2.2.1 dep_X3_law dep_X12_law p 0 C T σ ρ (by decide) (by decide) (by omega) (by omega) h
theorem mt_2 {t i p : Nat} {x : Nat → Int32} {σ ρ : Sg} {C : List Int32} {T : List Tk} (hx : XT t x) (h : LSt t i x σ ρ p 0 C T) : LR t i x σ ρ p 0 C T (GM 18) (f_X3_areMoreTruths 20000 6 0 σ) (f_X12_goOnOr 20000 344 ρ) := by
  unfold f_X3_areMoreTruths f_X12_goOnOr
  exact (px_all hx 100).2.2.2.2.2.2.2.1 dep_X3_law dep_X12_law p 0 C T σ ρ (by decide) (by decide) (by omega) (by omega) h
theorem mu_b {t i q n : Nat} {x : Nat → Int32} {σ ρ : Sg} (hx : XT t x) (h : LB t i x σ ρ q n) : f_X12_goOnAnd 20000 344 ρ = some ρ := by
  unfold f_X12_goOnAnd
  exact gomu_b (d' := 399) hx h
theorem mt_b {t i q n : Nat} {x : Nat → Int32} {σ ρ : Sg} (hx : XT t x) (h : LB t i x σ ρ q n) : f_X12_goOnOr 20000 344 ρ = some ρ := by
  unfold f_X12_goOnOr
  exact gomt_b (d' := 399) hx h
theorem c251 {ρ : Sg} {i n w : Nat} (d : RF (sg_R ρ) (sg_L ρ)) (h1 : sg_I ρ 344 14 = Int32.ofNat i) (hi : i ≤ 4) (h2 : sg_I ρ 348 i = Int32.ofNat n) (hw : w < 700) : f_X12_clause_B251 20000 344 (Int32.ofNat w) ρ = some (put_I (put_I ρ 352 w (Int32.ofNat n)) 349 i (sg_I ρ 349 i + 1)) := by
  have R8 : sg_R ρ 344 8 = some 348 := by simp only [d]
  have R12 : sg_R ρ 344 12 = some 352 := by simp only [d]
  have R9 : sg_R ρ 344 9 = some 349 := by simp only [d]
  have L8 : sg_L ρ 348 = 5 := by simp only [d]
  have L12 : sg_L ρ 352 = 700 := by simp only [d]
  have L9 : sg_L ρ 349 = 5 := by simp only [d]
  have n5 : ¬ (Int32.ofNat i < 0 ∨ 5 ≤ (Int32.ofNat i).toNatClampNeg) := o_in (by omega) (by omega)
  have t5 : (Int32.ofNat i).toNatClampNeg = i := o_tn (by omega)
  have n5' : ¬ (Int32.ofNat i < 0 ∨ 5 ≤ i) := by rw [t5] at n5; exact n5
  unfold f_X12_clause_B251
  rw [f_of R8, L8, h1, if_neg n5, t5, f_of R12, L12, if_neg (o_in (by omega) (by omega)), o_tn (by omega), h2]
  have R9a : sg_R (put_I ρ 352 w (Int32.ofNat n)) 344 9 = some 349 := R9
  have L9a : sg_L (put_I ρ 352 w (Int32.ofNat n)) 349 = 5 := L9
  have h1a : sg_I (put_I ρ 352 w (Int32.ofNat n)) 344 14 = Int32.ofNat i := by rw [gI_n (by omega)]; exact h1
  have h2a : sg_I (put_I ρ 352 w (Int32.ofNat n)) 349 i = sg_I ρ 349 i := by rw [gI_n (by omega)]
  rw [f_of R9a, L9a, h1a, t5, if_neg n5', if_neg n5', h2a]
theorem c184b {t i q n w : Nat} {x : Nat → Int32} {σ ρ : Sg} {v2 : Int32} (hx : XT t x) (h : LB t i x σ ρ q n) (hw : 140 * i ≤ w ∧ w < 700) : ∃ φ, f_X12_clause_B184 20000 344 (Int32.ofNat w) v2 ρ = some φ ∧ KJJ i ρ φ ∧ LB t i x σ φ q n := by
  have d := h.1.2.2.2.2.1
  have R10 : sg_R ρ 344 10 = some 350 := by simp only [d]
  have R11 : sg_R ρ 344 11 = some 351 := by simp only [d]
  have L10 : sg_L ρ 350 = 700 := by simp only [d]
  have L11 : sg_L ρ 351 = 700 := by simp only [d]
  have n7 : ¬ (Int32.ofNat w < 0 ∨ 700 ≤ (Int32.ofNat w).toNatClampNeg) := o_in (by omega) (by omega)
  have t7 : (Int32.ofNat w).toNatClampNeg = w := o_tn (by omega)
  have n7' : ¬ (Int32.ofNat w < 0 ∨ 700 ≤ w) := by rw [t7] at n7; exact n7
  have h' : LB t i x σ (put_I ρ 351 w (sg_I ρ 350 w)) q n := h.pu (by omega)
  have c := c251 (w := w) h'.1.2.2.2.2.1 h'.1.2.2.2.2.2.1 h'.1.2.2.2.2.2.2 h'.2.2.2.2.1 hw.2
  unfold f_X12_clause_B184
  rw [f_of R10, L10, if_neg n7, t7, f_of R11, L11, if_neg n7', c, if_neg (h'.nm hx)]
  refine ⟨_, by split <;> rfl, (KJJ.put (by omega)).tr ((KJJ.put (by omega)).tr (KJJ.put (by omega))), (h'.pu (by omega)).pu (by omega)⟩
/-- what an answer leaves -/
def AR (t i w : Nat) (x : Nat → Int32) (σ ρ : Sg) (p : Nat) (C : List Int32) (T : List Tk) (n0 : Nat) (A : Option (Int32 × Sg)) (B : Option Sg) : Prop := ∃ c υ φ, A = some (c, υ) ∧ B = some φ ∧ KZ 6 σ υ ∧ KJJ i ρ φ ∧ ((c = 1 ∧ ∃ V U q C', LSt t i x υ φ q 0 (C ++ C') (T ++ (V ++ U)) ∧ p ≤ q ∧ C' = kl_c C.length (V, U) ∧ ok_k (V, U) ∧ sg_I φ 349 i = sg_I ρ 349 i + 1 ∧ (∀ j, j ≠ w → sg_I φ 350 j = sg_I ρ 350 j ∧ sg_I φ 351 j = sg_I ρ 351 j ∧ sg_I φ 352 j = sg_I ρ 352 j) ∧ sg_I φ 350 w = Int32.ofNat n0 ∧ sg_I φ 351 w = Int32.ofNat (T.length + V.length) ∧ sg_I φ 352 w = Int32.ofNat (T.length + V.length + U.length)) ∨ (c = 0 ∧ ∃ q n, LB t i x υ φ q n))
