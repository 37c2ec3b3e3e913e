/-! ===== the reader of laws: states ===== -/
/-- of the reference's cells the tokens of law i and the reading's alone have changed -/
def KE (i : Nat) (ρ τ : Sg) : Prop := kp_ ρ τ ∧ (∀ a, a ≠ 344 → a ≠ 346 → a ≠ 347 → a ≠ 348 → sg_I τ a = sg_I ρ a) ∧ (∀ j, j ≠ 3 → j ≠ 4 → j ≠ 5 → sg_I τ 344 j = sg_I ρ 344 j) ∧ (∀ j, j < 520 * i → sg_I τ 346 j = sg_I ρ 346 j ∧ sg_I τ 347 j = sg_I ρ 347 j)
theorem KE.rf {i : Nat} {σ : Sg} : KE i σ σ := ⟨kp_.rf, fun _ _ _ _ _ => rfl, fun _ _ _ _ => rfl, fun _ _ => ⟨rfl, rfl⟩⟩
theorem KE.tr {i : Nat} {σ τ υ : Sg} (h : KE i σ τ) (k : KE i τ υ) : KE i σ υ := ⟨h.1.tr k.1, fun a h1 h2 h3 h4 => (k.2.1 a h1 h2 h3 h4).trans (h.2.1 a h1 h2 h3 h4), fun j h1 h2 h3 => (k.2.2.1 j h1 h2 h3).trans (h.2.2.1 j h1 h2 h3), fun j h1 => ⟨(k.2.2.2 j h1).1.trans (h.2.2.2 j h1).1, (k.2.2.2 j h1).2.trans (h.2.2.2 j h1).2⟩⟩
theorem KE.put {i a j : Nat} {σ : Sg} {v : Int32} (h : (a = 344 ∧ (j = 3 ∨ j = 4 ∨ j = 5)) ∨ ((a = 346 ∨ a = 347) ∧ 520 * i ≤ j) ∨ a = 348) : KE i σ (put_I σ a j v) := ⟨kp_.put, fun c h1 h2 h3 h4 => gI_a (by omega), fun c h1 h2 h3 => gI_n (by omega), fun c h1 => ⟨gI_n (by omega), gI_n (by omega)⟩⟩
def LQ (t i : Nat) (x : Nat → Int32) (σ ρ : Sg) : Prop := CT 6 t x σ ∧ sg_R σ 6 3 = some 8 ∧ sg_L σ 8 = 720 ∧ RT t x ρ ∧ RF (sg_R ρ) (sg_L ρ) ∧ sg_I ρ 344 14 = Int32.ofNat i ∧ i ≤ 4
theorem LQ.k {t i : Nat} {x : Nat → Int32} {σ ρ υ φ : Sg} (h : LQ t i x σ ρ) (k : KZ 6 σ υ) (e : KE i ρ φ) : LQ t i x υ φ := by
  obtain ⟨h1, h2, h3, h4, h5, h6, h7⟩ := h
  refine ⟨k.ct h1, by rw [k.1.2.1]; exact h2, by rw [k.1.2.2.1]; exact h3, ⟨by rw [e.1.2.1]; exact h4.1, by rw [e.1.2.2.1]; exact h4.2.1, by rw [e.2.2.1 2 (by decide) (by decide) (by decide)]; exact h4.2.2.1, fun j hj => by rw [e.2.1 345 (by decide) (by decide) (by decide) (by decide)]; exact h4.2.2.2 j hj⟩, by rw [e.1.2.1, e.1.2.2.1]; exact h5, by rw [e.2.2.1 14 (by decide) (by decide) (by decide)]; exact h6, h7⟩
def LC (C : List Int32) (σ : Sg) : Prop := sg_I σ 6 4 = Int32.ofNat C.length ∧ ∀ j, j < C.length → sg_I σ 8 j = C.getD j 0
def LT (i : Nat) (T : List Tk) (ρ : Sg) : Prop := sg_I ρ 348 i = Int32.ofNat T.length ∧ ∀ j, j < T.length → sg_I ρ 346 (520 * i + j) = (T.getD j (0, 0)).1 ∧ sg_I ρ 347 (520 * i + j) = (T.getD j (0, 0)).2
def LSt (t i : Nat) (x : Nat → Int32) (σ ρ : Sg) (p k : Nat) (C : List Int32) (T : List Tk) : Prop := LQ t i x σ ρ ∧ p ≤ t ∧ sg_I σ 6 2 = Int32.ofNat p ∧ sg_I ρ 344 3 = Int32.ofNat p ∧ sg_I ρ 344 4 = -1 ∧ sg_I ρ 344 5 = Int32.ofNat k ∧ LC C σ ∧ LT i T ρ ∧ C.length ≤ p ∧ T.length ≤ p
theorem LSt.mv {t i p k q : Nat} {x : Nat → Int32} {σ ρ : Sg} {C : List Int32} {T : List Tk} (h : LSt t i x σ ρ p k C T) (h1 : p ≤ q) (h2 : q ≤ t) : LSt t i x (put_I σ 6 2 (Int32.ofNat q)) (put_I ρ 344 3 (Int32.ofNat q)) q k C T := by
  obtain ⟨a1, a2, a3, a4, a5, a6, a7, a8, a9, a10⟩ := h
  refine ⟨a1.k (KZ.put (by omega) (by omega)) (KE.put (by omega)), h2, gI_e, gI_e, by rw [gI_n (by omega)]; exact a5, by rw [gI_n (by omega)]; exact a6, ⟨by rw [gI_n (by omega)]; exact a7.1, fun j hj => by rw [gI_n (by omega)]; exact a7.2 j hj⟩, ⟨by rw [gI_n (by omega)]; exact a8.1, fun j hj => by rw [gI_n (by omega), gI_n (by omega)]; exact a8.2 j hj⟩, by omega, by omega⟩
theorem LSt.ne {t i p k k' : Nat} {x : Nat → Int32} {σ ρ : Sg} {C : List Int32} {T : List Tk} (h : LSt t i x σ ρ p k C T) : LSt t i x σ (put_I ρ 344 5 (Int32.ofNat k')) p k' C T := by
  obtain ⟨a1, a2, a3, a4, a5, a6, a7, a8, a9, a10⟩ := h
  exact ⟨a1.k KZ.rf (KE.put (by omega)), a2, a3, by rw [gI_n (by omega)]; exact a4, by rw [gI_n (by omega)]; exact a5, gI_e, a7, ⟨by rw [gI_n (by omega)]; exact a8.1, fun j hj => by rw [gI_n (by omega), gI_n (by omega)]; exact a8.2 j hj⟩, a9, a10⟩
theorem LSt.lk {t i p k : Nat} {x : Nat → Int32} {σ ρ : Sg} {C : List Int32} {T : List Tk} (hx : XT t x) (h : LSt t i x σ ρ p k C T) : f_X6_nextSign 20000 6 σ = some (sx_ x t (pb_ x t p), put_I σ 6 2 (Int32.ofNat (pb_ x t p))) ∧ f_X12_look 20000 344 ρ = some (sx_ x t (pb_ x t p), put_I ρ 344 3 (Int32.ofNat (pb_ x t p))) ∧ p ≤ pb_ x t p ∧ pb_ x t p ≤ t ∧ pb_ x t (pb_ x t p) = pb_ x t p ∧ LSt t i x (put_I σ 6 2 (Int32.ofNat (pb_ x t p))) (put_I ρ 344 3 (Int32.ofNat (pb_ x t p))) (pb_ x t p) k C T := by
  obtain ⟨q1, q2, q3⟩ := pb_b (x := x) h.2.1
  exact ⟨ns_v hx (by decide) h.1.1 h.2.1 h.2.2.1, lq_v hx h.1.2.2.2.1 h.2.1 h.2.2.2.1, q1, q2, pb_k h.2.1, h.mv q1 q2⟩
/-- a look where there is no blank changes nothing -/
theorem LSt.l0 {t i p k : Nat} {x : Nat → Int32} {σ ρ : Sg} {C : List Int32} {T : List Tk} (hx : XT t x) (h : LSt t i x σ ρ p k C T) (hp : pb_ x t p = p) : f_X6_nextSign 20000 6 σ = some (sx_ x t p, σ) ∧ f_X12_look 20000 344 ρ = some (sx_ x t p, ρ) := by
  obtain ⟨l1, l2, -⟩ := h.lk hx
  rw [hp, pI_s h.2.2.1] at l1
  rw [hp, pI_s h.2.2.2.1] at l2
  exact ⟨l1, l2⟩
theorem wr_v {σ : Sg} {m : Nat} {c : Int32} (h1 : sg_R σ 6 3 = some 8) (h2 : sg_L σ 8 = 720) (h3 : sg_I σ 6 4 = Int32.ofNat m) (hm : m < 720) : f_X3_write 6 c σ = some (put_I (put_I σ 8 m c) 6 4 (Int32.ofNat (m + 1))) := by
  have h3' : sg_I (put_I σ 8 m c) 6 4 = Int32.ofNat m := by rw [gI_n (by omega)]; exact h3
  unfold f_X3_write
  rw [f_of h1, h2, h3, if_pos (by rw [o_lt (by omega) (by omega)]; exact hm), if_neg (o_in (by omega) (by omega)), o_tn (by omega), h3', o_s]
theorem pt_v {ρ : Sg} {i n : Nat} {a b : Int32} (d : RF (sg_R ρ) (sg_L ρ)) (h1 : sg_I ρ 344 14 = Int32.ofNat i) (hi : i ≤ 4) (h2 : sg_I ρ 348 i = Int32.ofNat n) (hn : n < 520) : f_X12_put 344 a b ρ = some (put_I (put_I (put_I ρ 346 (520 * i + n) a) 347 (520 * i + n) b) 348 i (Int32.ofNat (n + 1))) := by
  have R8 : sg_R ρ 344 8 = some 348 := by simp only [d]
  have R6 : sg_R ρ 344 6 = some 346 := by simp only [d]
  have R7 : sg_R ρ 344 7 = some 347 := by simp only [d]
  have L8 : sg_L ρ 348 = 5 := by simp only [d]
  have L6 : sg_L ρ 346 = 2600 := by simp only [d]
  have L7 : sg_L ρ 347 = 2600 := by simp only [d]
  have n5 : ¬ (Int32.ofNat i < 0 ∨ 5 ≤ (Int32.ofNat i).toNatClampNeg) := o_in (by omega) (by omega)
  have t5 : (Int32.ofNat i).toNatClampNeg = i := o_tn (by omega)
  have n5' : ¬ (Int32.ofNat i < 0 ∨ 5 ≤ i) := by rw [t5] at n5; exact n5
  have e : (520 : Int32) * Int32.ofNat i + Int32.ofNat n = Int32.ofNat (520 * i + n) := by rw [l_520, o_mul, o_add]
  have n6 : ¬ (Int32.ofNat (520 * i + n) < 0 ∨ 2600 ≤ (Int32.ofNat (520 * i + n)).toNatClampNeg) := o_in (by omega) (by omega)
  have t6 : (Int32.ofNat (520 * i + n)).toNatClampNeg = 520 * i + n := o_tn (by omega)
  have n6' : ¬ (Int32.ofNat (520 * i + n) < 0 ∨ 2600 ≤ 520 * i + n) := by rw [t6] at n6; exact n6
  unfold f_X12_put
  rw [f_of R8, L8, h1, if_neg n5, t5, h2, e, f_of R6, L6, if_neg n6, t6]
  have R8a : sg_R (put_I ρ 346 (520 * i + n) a) 344 8 = some 348 := R8
  have R7a : sg_R (put_I ρ 346 (520 * i + n) a) 344 7 = some 347 := R7
  have L8a : sg_L (put_I ρ 346 (520 * i + n) a) 348 = 5 := L8
  have L7a : sg_L (put_I ρ 346 (520 * i + n) a) 347 = 2600 := L7
  have h1a : sg_I (put_I ρ 346 (520 * i + n) a) 344 14 = Int32.ofNat i := by rw [gI_n (by omega)]; exact h1
  have h2a : sg_I (put_I ρ 346 (520 * i + n) a) 348 i = Int32.ofNat n := by rw [gI_n (by omega)]; exact h2
  generalize put_I ρ 346 (520 * i + n) a = ρ1 at R8a R7a L8a L7a h1a h2a ⊢
  rw [f_of R8a, L8a, h1a, t5, if_neg n5', f_of R7a, L7a, h2a, e, t6, if_neg n6']
  have R8b : sg_R (put_I ρ1 347 (520 * i + n) b) 344 8 = some 348 := R8a
  have L8b : sg_L (put_I ρ1 347 (520 * i + n) b) 348 = 5 := L8a
  have h1b : sg_I (put_I ρ1 347 (520 * i + n) b) 344 14 = Int32.ofNat i := by rw [gI_n (by omega)]; exact h1a
  have h2b : sg_I (put_I ρ1 347 (520 * i + n) b) 348 i = Int32.ofNat n := by rw [gI_n (by omega)]; exact h2a
  generalize put_I ρ1 347 (520 * i + n) b = ρ2 at R8b L8b h1b h2b ⊢
  rw [f_of R8b, L8b, h1b, t5, if_neg n5', if_neg n5', h2b, o_s]
theorem LSt.wr {t i p k : Nat} {x : Nat → Int32} {σ ρ : Sg} {C : List Int32} {T : List Tk} (hx : XT t x) (h : LSt t i x σ ρ p k C T) (u : Tk) (h1 : C.length < p) (h2 : T.length < p) : ∃ υ φ, f_X3_write 6 (tk_c u) σ = some υ ∧ f_X12_put 344 u.1 u.2 ρ = some φ ∧ KZ 6 σ υ ∧ KE i ρ φ ∧ LSt t i x υ φ p k (C ++ [tk_c u]) (T ++ [u]) := by
  have ht := hx.1
  obtain ⟨a1, a2, a3, a4, a5, a6, a7, a8, a9, a10⟩ := h
  obtain ⟨b1, b2, b3, b4, b5, b6, b7⟩ := a1
  have w := wr_v (c := tk_c u) b2 b3 a7.1 (by omega)
  have v := pt_v (a := u.1) (b := u.2) b5 b6 b7 a8.1 (by omega)
  have kz : KZ 6 σ (put_I (put_I σ 8 C.length (tk_c u)) 6 4 (Int32.ofNat (C.length + 1))) := (KZ.put (by omega) (by omega)).tr (KZ.put (by omega) (by omega))
  have ke : KE i ρ (put_I (put_I (put_I ρ 346 (520 * i + T.length) u.1) 347 (520 * i + T.length) u.2) 348 i (Int32.ofNat (T.length + 1))) := (KE.put (by omega)).tr ((KE.put (by omega)).tr (KE.put (by omega)))
  refine ⟨_, _, w, v, kz, ke, LQ.k ⟨b1, b2, b3, b4, b5, b6, b7⟩ kz ke, a2, by rw [gI_n (by omega), gI_n (by omega)]; exact a3, by rw [gI_n (by omega), gI_n (by omega), gI_n (by omega)]; exact a4, by rw [gI_n (by omega), gI_n (by omega), gI_n (by omega)]; exact a5, by rw [gI_n (by omega), gI_n (by omega), gI_n (by omega)]; exact a6, ⟨by rw [gI_e, List.length_append]; rfl, fun j hj => ?_⟩, ⟨by rw [gI_e, List.length_append]; rfl, fun j hj => ?_⟩, by rw [List.length_append]; show C.length + 1 ≤ p; omega, by rw [List.length_append]; show T.length + 1 ≤ p; omega⟩
  · rw [List.length_append] at hj
    have hj : j < C.length + 1 := hj
    rw [gI_n (by omega), List.getD_eq_getElem?_getD]
    by_cases e : j = C.length
    · subst e
      rw [gI_e, List.getElem?_append_right (by omega), Nat.sub_self]
      rfl
    · rw [gI_n (by omega), List.getElem?_append_left (by omega), ← List.getD_eq_getElem?_getD]
      exact a7.2 j (by omega)
  · rw [List.length_append] at hj
    have hj : j < T.length + 1 := hj
    have g1 : ∀ v : Int32, sg_I (put_I (put_I (put_I ρ 346 (520 * i + T.length) u.1) 347 (520 * i + T.length) u.2) 348 i v) 346 (520 * i + j) = sg_I (put_I ρ 346 (520 * i + T.length) u.1) 346 (520 * i + j) := fun v => by rw [gI_n (by omega), gI_n (by omega)]
    have g2 : ∀ v : Int32, sg_I (put_I (put_I (put_I ρ 346 (520 * i + T.length) u.1) 347 (520 * i + T.length) u.2) 348 i v) 347 (520 * i + j) = sg_I (put_I (put_I ρ 346 (520 * i + T.length) u.1) 347 (520 * i + T.length) u.2) 347 (520 * i + j) := fun v => by rw [gI_n (by omega)]
    rw [g1, g2, List.getD_eq_getElem?_getD]
    by_cases e : j = T.length
    · subst e
      rw [gI_e, gI_e, List.getElem?_append_right (by omega), Nat.sub_self]
      exact ⟨rfl, rfl⟩
    · rw [gI_n (by omega), gI_n (by omega), gI_n (by omega), List.getElem?_append_left (by omega), ← List.getD_eq_getElem?_getD]
      exact a8.2 j (by omega)
/-- the reading has failed, at q -/
def LB (t i : Nat) (x : Nat → Int32) (σ ρ : Sg) (q n : Nat) : Prop := LQ t i x σ ρ ∧ q ≤ t ∧ sg_I σ 6 2 = Int32.ofNat q ∧ sg_I ρ 344 4 = Int32.ofNat q ∧ sg_I ρ 348 i = Int32.ofNat n ∧ n ≤ q
theorem LB.pt {t i q n : Nat} {x : Nat → Int32} {σ ρ : Sg} (hx : XT t x) (h : LB t i x σ ρ q n) (hn : n < q) (a b : Int32) : ∃ φ, f_X12_put 344 a b ρ = some φ ∧ KE i ρ φ ∧ LB t i x σ φ q (n + 1) := by
  have ht := hx.1
  obtain ⟨a1, a2, a3, a4, a5, a6⟩ := h
  have v := pt_v (a := a) (b := b) a1.2.2.2.2.1 a1.2.2.2.2.2.1 a1.2.2.2.2.2.2 a5 (by omega)
  have ke : KE i ρ (put_I (put_I (put_I ρ 346 (520 * i + n) a) 347 (520 * i + n) b) 348 i (Int32.ofNat (n + 1))) := (KE.put (by omega)).tr ((KE.put (by omega)).tr (KE.put (by omega)))
  exact ⟨_, v, ke, a1.k KZ.rf ke, a2, a3, by rw [gI_n (by omega), gI_n (by omega), gI_n (by omega)]; exact a4, gI_e, by omega⟩
theorem LB.nm {t i q n : Nat} {x : Nat → Int32} {σ ρ : Sg} (hx : XT t x) (h : LB t i x σ ρ q n) : ¬ sg_I ρ 344 4 = -1 := by
  have ht := hx.1
  have := h.2.1
  rw [h.2.2.2.1]
  exact o_m (by omega)
/-- what leaves tokens and the fault as they are -/
theorem LB.mv {t i q n j : Nat} {x : Nat → Int32} {σ ρ : Sg} {v : Int32} (h : LB t i x σ ρ q n) (hj : j = 3 ∨ j = 5) : LB t i x σ (put_I ρ 344 j v) q n := by
  obtain ⟨a1, a2, a3, a4, a5, a6⟩ := h
  exact ⟨a1.k KZ.rf (KE.put (by omega)), a2, a3, by rw [gI_n (by omega)]; exact a4, by rw [gI_n (by omega)]; exact a5, a6⟩
theorem LB.bd {t i q n : Nat} {x : Nat → Int32} {σ ρ : Sg} (hx : XT t x) (h : LB t i x σ ρ q n) : f_X12_bad 344 ρ = some ρ := by
  unfold f_X12_bad f_X12_bad_B20
  rw [if_neg (h.nm hx), f_of rfl, pI_s rfl]
/-- the reading fails here -/
theorem LSt.bd {t i p k : Nat} {x : Nat → Int32} {σ ρ : Sg} {C : List Int32} {T : List Tk} (h : LSt t i x σ ρ p k C T) : f_X12_bad 344 ρ = some (put_I ρ 344 4 (Int32.ofNat p)) ∧ KE i ρ (put_I ρ 344 4 (Int32.ofNat p)) ∧ LB t i x σ (put_I ρ 344 4 (Int32.ofNat p)) p T.length := by
  obtain ⟨a1, a2, a3, a4, a5, a6, a7, a8, a9, a10⟩ := h
  have b := bad_v a5
  rw [a4] at b
  exact ⟨b, KE.put (by omega), a1.k KZ.rf (KE.put (by omega)), a2, a3, gI_e, by rw [gI_n (by omega)]; exact a8.1, a10⟩
/-- both readers, from one state on: good with what is written, or failed -/
def LR (t i : Nat) (x : Nat → Int32) (σ ρ : Sg) (p k : Nat) (C : List Int32) (T : List Tk) (G : List Tk → Prop) (A : Option (Int32 × Sg)) (B : Option Sg) : Prop := ∃ c υ φ, A = some (c, υ) ∧ B = some φ ∧ KZ 6 σ υ ∧ KE i ρ φ ∧ ((c = 1 ∧ ∃ U q, LSt t i x υ φ q k (C ++ U.map tk_c) (T ++ U) ∧ U.length + p ≤ q ∧ G U) ∨ (c = 0 ∧ ∃ q n, LB t i x υ φ q n ∧ p ≤ q ∧ n + p ≤ T.length + q))
/-- numbers, truths, what follows a number, what follows a truth -/
def GN (h : Nat) (U : List Tk) : Prop := ∀ s : List Bool, s.length + h ≤ 62 → ck_ U s = some (false :: s)
def GT (h : Nat) (U : List Tk) : Prop := ∀ s : List Bool, s.length + h ≤ 62 → ck_ U s = some (true :: s)
def GC (h : Nat) (U : List Tk) : Prop := ∀ s : List Bool, s.length + h ≤ 62 → ck_ U (false :: s) = some (true :: s)
def GF (h : Nat) (U : List Tk) : Prop := ∀ s : List Bool, s.length + h ≤ 62 → ck_ U (false :: s) = some (false :: s)
def GM (h : Nat) (U : List Tk) : Prop := ∀ s : List Bool, s.length + h ≤ 62 → ck_ U (true :: s) = some (true :: s)
theorem ck_o2 {o : Int32} (h : o = 2 ∨ o = 3 ∨ o = 4 ∨ o = 5) (s : List Bool) : ck_ [(o, 0)] (false :: false :: s) = some (false :: s) := by
  rcases h with rfl | rfl | rfl | rfl <;> rfl
theorem ck_o6 {o : Int32} (h : o = 6 ∨ o = 7 ∨ o = 8) (s : List Bool) : ck_ [(o, 0)] (false :: false :: s) = some (true :: s) := by
  rcases h with rfl | rfl | rfl <;> rfl
theorem ck_o9 (s : List Bool) : ck_ [(9, 0)] (true :: s) = some (true :: s) := rfl
theorem ck_oa {o : Int32} (h : o = 10 ∨ o = 11) (s : List Bool) : ck_ [(o, 0)] (true :: true :: s) = some (true :: s) := by
  rcases h with rfl | rfl <;> rfl
