/-! ===== places again, meetings, readings ===== -/
/-- the reference's spots stand as behind i ticks -/
def SO (ρ τ : Sg) (K : Option (List Kl)) (n i : Nat) : Prop := KS ρ τ ∧ ∀ w, w < n → sg_I τ 364 w = Int32.ofNat (tj_ K (sg_I ρ) w i)
theorem SO.d {σ ρ τ : Sg} (r : Rel σ ρ) {K : Option (List Kl)} {n i : Nat} (e : sg_I ρ 344 20 = Int32.ofNat n) (h : SO ρ τ K n i) : RF (sg_R τ) (sg_L τ) ∧ sg_I τ 344 20 = Int32.ofNat n := ⟨by rw [h.1.1.2.1, h.1.1.2.2.1]; exact r.rf, by rw [h.1.h.1]; exact e⟩
theorem ss_v {σ ρ : Sg} (r : Rel σ ρ) {K : Option (List Kl)} {n : Nat} (e : sg_I ρ 344 20 = Int32.ofNat n) (hn : n ≤ 4) : ∃ τ, f_X12_startSpots 20000 344 ρ = some τ ∧ SO ρ τ K n 0 := by
  have lp : ∀ (j k m : Nat) (τ : Sg), k + j = n → j < m → KS ρ τ → (∀ w, w < k → sg_I τ 364 w = Int32.ofNat (tj_ K (sg_I ρ) w 0)) → ∃ υ, f_X12_startSpots_L2 20000 344 m (Int32.ofNat k) τ = some υ ∧ SO ρ υ K n 0 := by
    intro j
    induction j with
    | zero =>
      intro k m τ hk hm ks hs
      obtain ⟨m, rfl⟩ : ∃ x, m = x + 1 := ⟨m - 1, by omega⟩
      have hk : k = n := by omega
      subst hk
      refine ⟨τ, ?_, ks, hs⟩
      rw [f_X12_startSpots_L2, ks.h.1, e, if_neg (by rw [o_lt (by omega) (by omega)]; omega)]
    | succ j ih =>
      intro k m τ hk hm ks hs
      obtain ⟨m, rfl⟩ : ∃ x, m = x + 1 := ⟨m - 1, by omega⟩
      obtain ⟨v, z, v1, z1, q1, p1, s1, s2, ev, w1, w2, w3, w4, -⟩ := r.wn e hn (show k < n by omega)
      have d' : RF (sg_R τ) (sg_L τ) := by rw [ks.1.2.1, ks.1.2.2.1]; exact r.rf
      obtain ⟨υ, b1, b2⟩ := ih (k + 1) m (put_I τ 364 k (Int32.ofNat (wp0 (sg_I ρ) k))) (by omega) (by omega) (ks.tr (KS.put (by omega))) (fun w hw => by
        by_cases q : w = k
        · subst q; exact gI_e
        · rw [gI_n (by omega)]; exact hs w (by omega))
      refine ⟨υ, ?_, b2⟩
      rw [f_X12_startSpots_L2, ks.h.1, e, if_pos (by rw [o_lt (by omega) (by omega)]; omega), of_2 d' (by omega), ks.h.2.1, w3]
      simp only [d', Option.bind_some]
      rw [if_neg (o_in (by omega) (by omega)), o_tn (by omega), o_s]
      exact b1
  exact lp n 0 20000 ρ (by omega) (by omega) KS.rf (fun w hw => absurd hw (by omega))
theorem gs_v {σ ρ τ : Sg} (r : Rel σ ρ) {law : Option Nat} {K : Option (List Kl)} (H : HO σ ρ law K) {n i : Nat} (e : sg_I ρ 344 20 = Int32.ofNat n) (hn : n ≤ 4) (h : SO ρ τ K n i) (hi : i ≤ 20000) : ∃ υ, f_X12_goSpots 20000 344 (Int32.ofNat (wt0 (sg_I ρ) + i)) τ = some υ ∧ SO ρ υ K n (i + 1) := by
  have lp : ∀ (j k m : Nat) (τ : Sg), k + j = n → j < m → KS ρ τ → (∀ w, w < n → sg_I τ 364 w = Int32.ofNat (tj_ K (sg_I ρ) w (if w < k then i + 1 else i))) → ∃ υ, f_X12_goSpots_L2 20000 344 m (Int32.ofNat (wt0 (sg_I ρ) + i)) (Int32.ofNat k) τ = some υ ∧ SO ρ υ K n (i + 1) := by
    intro j
    induction j with
    | zero =>
      intro k m τ hk hm ks hs
      obtain ⟨m, rfl⟩ : ∃ x, m = x + 1 := ⟨m - 1, by omega⟩
      have hk : k = n := by omega
      subst hk
      refine ⟨τ, ?_, ks, fun w hw => ?_⟩
      · rw [f_X12_goSpots_L2, ks.h.1, e, if_neg (by rw [o_lt (by omega) (by omega)]; omega)]
      · have := hs w hw
        rw [if_pos hw] at this
        exact this
    | succ j ih =>
      intro k m τ hk hm ks hs
      obtain ⟨m, rfl⟩ : ∃ x, m = x + 1 := ⟨m - 1, by omega⟩
      have d' : RF (sg_R τ) (sg_L τ) := by rw [ks.1.2.1, ks.1.2.2.1]; exact r.rf
      obtain ⟨φ, a1, a2⟩ := nx_s r H e hn (show k < n by omega) ks (i := i) (by omega)
      have sk := hs k (by omega)
      rw [if_neg (by omega)] at sk
      obtain ⟨υ, b1, b2⟩ := ih (k + 1) m (put_I φ 364 k (Int32.ofNat (tj_ K (sg_I ρ) k (i + 1)))) (by omega) (by omega) ((ks.tr a2.ks).tr (KS.put (by omega))) (fun w hw => by
        by_cases q : w = k
        · subst q
          rw [gI_e, if_pos (by omega)]
        · rw [gI_n (by omega), a2.2 364 (by decide) (by decide), hs w hw]
          by_cases q2 : w < k
          · rw [if_pos q2, if_pos (by omega)]
          · rw [if_neg q2, if_neg (by omega)])
      have nk : ¬ (Int32.ofNat k < 0 ∨ 4 ≤ k) := by
        have := o_in (k := k) (L := 4) (by omega) (by omega)
        rw [o_tn (by omega)] at this
        exact this
      refine ⟨υ, ?_, b2⟩
      rw [f_X12_goSpots_L2, ks.h.1, e, if_pos (by rw [o_lt (by omega) (by omega)]; omega)]
      simp only [d', Option.bind_some, o_tn (show k < 2147483648 by omega)]
      rw [if_neg nk, sk, a1]
      simp only [Option.bind_some, a2.1.2.2.1, d']
      rw [if_neg nk, o_s]
      exact b1
  exact lp n 0 20000 τ (by omega) (by omega) h.1 (fun w hw => by rw [if_neg (by omega)]; exact h.2 w hw)
/-- whether wheel o counts as home -/
def hm_ (K : Option (List Kl)) (h : Nat → Nat → Int32) (i : Nat) (o : Nat) : Bool := decide (tj_ K h o i = wp0 h o)
theorem ah_v {σ ρ τ : Sg} (r : Rel σ ρ) {K : Option (List Kl)} {n i : Nat} (e : sg_I ρ 344 20 = Int32.ofNat n) (hn : n ≤ 4) (h : SO ρ τ K n i) (x : Int32) : f_X12_areHome 20000 344 x τ = some (bi_ (cj_ (fun o => decide (x ≠ -1 ∧ ¬ Int32.ofNat o = x) || hm_ K (sg_I ρ) i o) n)) := by
  obtain ⟨d', e20⟩ := h.d r e
  have lp : ∀ (j k m : Nat), k + j = n → j < m → f_X12_areHome_L4 20000 344 m x (bi_ (cj_ (fun o => decide (x ≠ -1 ∧ ¬ Int32.ofNat o = x) || hm_ K (sg_I ρ) i o) k)) (Int32.ofNat k) τ = some (bi_ (cj_ (fun o => decide (x ≠ -1 ∧ ¬ Int32.ofNat o = x) || hm_ K (sg_I ρ) i o) n)) := by
    intro j
    induction j with
    | zero =>
      intro k m hk hm
      obtain ⟨m, rfl⟩ : ∃ x, m = x + 1 := ⟨m - 1, by omega⟩
      have hk : k = n := by omega
      subst hk
      rw [f_X12_areHome_L4, e20, if_neg (by rw [o_lt (by omega) (by omega)]; omega)]
      cases cj_ (fun o => decide (x ≠ -1 ∧ ¬ Int32.ofNat o = x) || hm_ K (sg_I ρ) i o) k <;> rfl
    | succ j ih =>
      intro k m hk hm
      obtain ⟨m, rfl⟩ : ∃ x, m = x + 1 := ⟨m - 1, by omega⟩
      have ih1 := ih (k + 1) m (by omega) (by omega)
      obtain ⟨v, z, v1, z1, q1, p1, s1, s2, ev, w1, w2, w3, w4, -⟩ := r.wn e hn (show k < n by omega)
      have hlt := tj_lt r e hn (show k < n by omega) (K := K) i
      have B26 : f_X12_areHome_B26 20000 344 (fun v1 v2 v3 => f_X12_areHome_L4 20000 344 m v1 v2 v3 τ) x (Int32.ofNat k) τ = f_X12_areHome_L4 20000 344 m x (bi_ (hm_ K (sg_I ρ) i k)) (Int32.ofNat (k + 1)) τ := by
        unfold f_X12_areHome_B26 f_X12_areHome_B41 f_X12_areHome_B45 f_X12_areHome_B46 hm_
        rw [of_2 d' (by omega), h.1.h.2.1, w3]
        simp only [d', Option.bind_some]
        rw [if_neg (o_in (by omega) (by omega)), o_tn (by omega), h.2 k (by omega), o_s]
        by_cases q : tj_ K (sg_I ρ) k i = wp0 (sg_I ρ) k
        · rw [if_pos (by rw [q]), decide_eq_true q]
          rfl
        · rw [if_neg (by rw [o_eq (by omega) (by omega)]; exact q), decide_eq_false q]
          rfl
      rw [f_X12_areHome_L4, e20, if_pos (by rw [o_lt (by omega) (by omega)]; omega)]
      cases hb : cj_ (fun o => decide (x ≠ -1 ∧ ¬ Int32.ofNat o = x) || hm_ K (sg_I ρ) i o) k with
      | false =>
        rw [cj_f hb 1] at ih1
        rw [if_pos bi_f]
        unfold f_X12_areHome_B45 f_X12_areHome_B46
        rw [o_s]
        exact ih1
      | true =>
        rw [cj_s hb] at ih1
        rw [if_neg (by decide)]
        by_cases x1 : x = -1
        · rw [if_pos x1, B26]
          rw [decide_eq_false (fun q => q.1 x1), Bool.false_or] at ih1
          exact ih1
        · rw [if_neg x1]
          by_cases x2 : Int32.ofNat k = x
          · rw [if_pos x2, B26]
            rw [decide_eq_false (fun q => q.2 x2), Bool.false_or] at ih1
            exact ih1
          · rw [if_neg x2]
            rw [decide_eq_true (⟨x1, x2⟩ : x ≠ -1 ∧ ¬ Int32.ofNat k = x), Bool.true_or] at ih1
            unfold f_X12_areHome_B41 f_X12_areHome_B46
            rw [o_s]
            exact ih1
  exact lp n 0 20000 (by omega) (by omega)
/-- the reference's loop of again -/
theorem ag_r {σ ρ : Sg} (r : Rel σ ρ) {law : Option Nat} {K : Option (List Kl)} (H : HO σ ρ law K) {n : Nat} (e : sg_I ρ 344 20 = Int32.ofNat n) (hn : n ≤ 4) (h0 : 0 < n) (x : Int32) {y : Nat} (hy : y ≤ 9999) : ∀ (j k m : Nat) (τ : Sg), k + j = y → j < m → SO ρ τ K n k → ∃ υ, f_X12_again_L43 20000 344 m x (Int32.ofNat y) (Int32.ofNat (k + 1)) τ = some (ff_ (fun i => cj_ (fun o => decide (x ≠ -1 ∧ ¬ Int32.ofNat o = x) || hm_ K (sg_I ρ) i o) n) j (k + 1), υ) ∧ KS ρ υ := by
  obtain ⟨f1, f2, t1, i1, i4, -, -⟩ := r.gn e hn h0
  intro j
  induction j with
  | zero =>
    intro k m τ hk hm h
    obtain ⟨m, rfl⟩ : ∃ x, m = x + 1 := ⟨m - 1, by omega⟩
    refine ⟨τ, ?_, h.1⟩
    rw [f_X12_again_L43, if_pos (by rw [o_lt (by omega) (by omega)]; omega)]
    rfl
  | succ j ih =>
    intro k m τ hk hm h
    obtain ⟨m, rfl⟩ : ∃ x, m = x + 1 := ⟨m - 1, by omega⟩
    obtain ⟨d', e20⟩ := h.d r e
    obtain ⟨φ, a1, a2⟩ := gs_v r H e hn h (by omega)
    have ah := ah_v r e hn a2 x
    have e19 : sg_I τ 359 19 = Int32.ofNat (wt0 (sg_I ρ)) := by rw [h.1.h.2.1]; exact i4
    have et : Int32.ofNat (wt0 (sg_I ρ)) + Int32.ofNat (k + 1) - 1 = Int32.ofNat (wt0 (sg_I ρ) + k) := by
      rw [o_add, l_1, o_sub (by omega)]
      rfl
    rw [f_X12_again_L43, if_neg (by rw [o_lt (by omega) (by omega)]; omega)]
    simp only [Option.bind_some, ↓reduceIte, gI_I, gI_R, gI_J, gR_I, gR_R, gR_J, gL_I, gL_R, gL_J, gN_I, gN_R, gN_J, gJ_I, gJ_R, Int32.reduceLT, e_1_0, Int32.reduceToNatClampNeg, Int32.reduceToInt, Int.reduceLE, Int.reduceLT, Int.reduceNeg, Int.reduceEq,  Nat.reduceLT, Nat.reduceLeDiff, Nat.reduceEqDiff, Nat.reduceAdd, Nat.reduceMul, false_or, or_false, true_and, and_true, false_and, and_false, not_false_eq_true, not_true_eq_false, or_self, and_self, true_or, or_true, d', e19, et, a1, ah]
    rw [ff_]
    cases hb : cj_ (fun o => decide (x ≠ -1 ∧ ¬ Int32.ofNat o = x) || hm_ K (sg_I ρ) (k + 1) o) n with
    | false =>
      obtain ⟨υ, b1, b2⟩ := ih (k + 1) m φ (by omega) (by omega) a2
      refine ⟨υ, ?_, b2⟩
      rw [if_pos bi_f, if_neg (by decide), o_s]
      exact b1
    | true =>
      exact ⟨φ, by rw [if_neg (by decide), if_pos rfl], a2.1⟩
/-- the class's loops of again, from wheel a up to z -/
theorem ag_c {ρ τ : Sg} {law : Option Nat} {K : Option (List Kl)} {n a z : Nat} (hn : n ≤ 4) (hz : z ≤ n) (haz : a ≤ z) (c : CF (sg_R τ) (sg_L τ)) (e319 : ∀ w, w < 4 → sg_R τ 319 w = some (320 + 6 * w)) (TT : ∀ w, w < n → TW τ ρ law K w) {y : Nat} (hy : y ≤ 9999) : ∀ (j k m : Nat), k + j = y + 1 → 1 ≤ k → j < m → f_X11_again_L83 20000 0 m (Int32.ofNat a) (Int32.ofNat z) (Int32.ofNat y) (Int32.ofNat k) τ = some (ff_ (fun i => cj_ (fun o => hm_ K (sg_I ρ) i (a + o)) (z - a)) j k, τ) := by
  have hf : ∀ w k, w < n → k < 1000000 → f_X0_isHomeAfter (320 + 6 * w) (Int32.ofNat k) τ = some (bi_ (hm_ K (sg_I ρ) k w)) := fun w k hw hk => by
    obtain ⟨S, L, T⟩ := TT w hw
    exact hf_v T hk
  have CI : ∀ (k m0 : Nat), k ≤ 9999 → ∀ (j b m : Nat), b + j = z - a → j < m → f_X11_again_L96 20000 0 (f_X11_again_L83 20000 0 m0) m (Int32.ofNat a) (Int32.ofNat z) (Int32.ofNat y) (Int32.ofNat k) (bi_ (cj_ (fun o => hm_ K (sg_I ρ) k (a + o)) b)) (Int32.ofNat (a + b)) τ = if cj_ (fun o => hm_ K (sg_I ρ) k (a + o)) (z - a) = true then some (Int32.ofNat k, τ) else f_X11_again_L83 20000 0 m0 (Int32.ofNat a) (Int32.ofNat z) (Int32.ofNat y) (Int32.ofNat (k + 1)) τ := by
    intro k m0 hk
    have B : ∀ b, f_X11_again_B128 20000 0 (f_X11_again_L83 20000 0 m0) (Int32.ofNat a) (Int32.ofNat z) (Int32.ofNat y) (Int32.ofNat k) (bi_ b) τ = if b = true then some (Int32.ofNat k, τ) else f_X11_again_L83 20000 0 m0 (Int32.ofNat a) (Int32.ofNat z) (Int32.ofNat y) (Int32.ofNat (k + 1)) τ := by
      intro b
      unfold f_X11_again_B128
      rw [o_s]
      cases b <;> rfl
    intro j
    induction j with
    | zero =>
      intro b m hb hm
      obtain ⟨m, rfl⟩ : ∃ x, m = x + 1 := ⟨m - 1, by omega⟩
      have hb : b = z - a := by omega
      rw [f_X11_again_L96, if_neg (by rw [o_lt (by omega) (by omega)]; omega), hb]
      exact B _
    | succ j ih =>
      intro b m hb hm
      obtain ⟨m, rfl⟩ : ∃ x, m = x + 1 := ⟨m - 1, by omega⟩
      have ih1 := ih (b + 1) m (by omega) (by omega)
      rw [f_X11_again_L96, if_pos (by rw [o_lt (by omega) (by omega)]; omega)]
      cases hc : cj_ (fun o => hm_ K (sg_I ρ) k (a + o)) b with
      | false =>
        rw [if_pos bi_f, cj_g hc (show b ≤ z - a by omega)]
        exact B false
      | true =>
        rw [cj_s hc] at ih1
        rw [if_neg (by decide)]
        simp only [c, Option.bind_some]
        rw [if_neg (o_in (by omega) (by omega)), o_tn (by omega), e319 (a + b) (by omega)]
        simp only [Option.bind_some]
        rw [hf (a + b) k (by omega) (by omega)]
        simp only [Option.bind_some]
        rw [o_s]
        exact ih1
  intro j
  induction j with
  | zero =>
    intro k m hk k1 hm
    obtain ⟨m, rfl⟩ : ∃ x, m = x + 1 := ⟨m - 1, by omega⟩
    rw [f_X11_again_L83, if_pos (by rw [o_lt (by omega) (by omega)]; omega)]
    rfl
  | succ j ih =>
    intro k m hk k1 hm
    obtain ⟨m, rfl⟩ : ∃ x, m = x + 1 := ⟨m - 1, by omega⟩
    have ci := CI k m (by omega) (z - a) 0 20000 (by omega) (by omega)
    rw [f_X11_again_L83, if_neg (by rw [o_lt (by omega) (by omega)]; omega)]
    refine ci.trans ?_
    rw [ff_]
    by_cases q : cj_ (fun o => hm_ K (sg_I ρ) k (a + o)) (z - a) = true
    · rw [if_pos q, if_pos q]
    · rw [if_neg q, if_neg q]
      exact ih (k + 1) m (by omega) (by omega) (by omega)
theorem ff_q {A B : Nat → Bool} (h : ∀ i, A i = B i) : ∀ (j f : Nat), ff_ A j f = ff_ B j f := by
  have e : A = B := funext h
  intro j f
  rw [e]
theorem cj_q {A B : Nat → Bool} : ∀ {n : Nat}, (∀ i, i < n → A i = B i) → cj_ A n = cj_ B n
  | 0, _ => rfl
  | n + 1, h => by
    show (cj_ A n && A n) = (cj_ B n && B n)
    rw [cj_q (A := A) (B := B) (n := n) (fun i hi => h i (by omega)), h n (by omega)]
theorem cj_1 {A : Nat → Bool} {w : Nat} : ∀ {n : Nat}, w < n → (∀ i, i < n → i ≠ w → A i = true) → cj_ A n = A w
  | 0, h, _ => absurd h (by omega)
  | n + 1, h, hA => by
    show (cj_ A n && A n) = A w
    by_cases q : w = n
    · subst q
      have : cj_ A w = true := by
        have e := cj_q (A := A) (B := fun _ => true) (n := w) (fun i hi => hA i (by omega) (by omega))
        rw [e]
        exact (ct_n w).mp (by
          have : ∀ k, ct_ (fun _ => true) k = k := by
            intro k
            induction k with
            | zero => rfl
            | succ k ih => show ct_ (fun _ => true) k + 1 = k + 1; rw [ih]
          exact this w)
      rw [this, Bool.true_and]
    · rw [hA n (by omega) (by omega), Bool.and_true]
      exact cj_1 (by omega) (fun i hi hne => hA i (by omega) hne)
theorem ag_1 {σ ρ τ υ : Sg} (r : Rel σ ρ) {law : Option Nat} {K : Option (List Kl)} (H : HO σ ρ law K) {n : Nat} (e : sg_I ρ 344 20 = Int32.ofNat n) (hn : n ≤ 4) (h0 : 0 < n) (c : CF (sg_R τ) (sg_L τ)) (e319 : ∀ w, w < 4 → sg_R τ 319 w = some (320 + 6 * w)) (TT : ∀ w, w < n → TW τ ρ law K w) (b2 : SO ρ υ K n 0) {y : Nat} (hy : y ≤ 9999) : ∃ v φ, f_X11_again_L83 20000 0 20000 0 (Int32.ofNat n) (Int32.ofNat y) 1 τ = some (v, τ) ∧ f_X12_again_L43 20000 344 20000 (-1) (Int32.ofNat y) 1 υ = some (v, φ) ∧ KS ρ φ := by
  obtain ⟨φ, f1, f2⟩ := ag_r r H e hn h0 (-1) hy y 0 20000 υ (by omega) (by omega) b2
  have cc := ag_c hn (Nat.le_refl n) (Nat.zero_le n) c e319 TT hy y 1 20000 (by omega) (by omega) (by omega)
  have key : ff_ (fun i => cj_ (fun o => hm_ K (sg_I ρ) i (0 + o)) (n - 0)) y 1 = ff_ (fun i => cj_ (fun o => decide ((-1 : Int32) ≠ -1 ∧ ¬ Int32.ofNat o = -1) || hm_ K (sg_I ρ) i o) n) y (0 + 1) := by
    apply ff_q
    intro i
    rw [Nat.sub_zero]
    refine cj_q (fun o ho => ?_)
    rw [Nat.zero_add, decide_eq_false (fun q => q.1 rfl), Bool.false_or]
  rw [key] at cc
  exact ⟨_, φ, cc, f1, f2⟩
theorem ag_2 {σ ρ τ υ : Sg} (r : Rel σ ρ) {law : Option Nat} {K : Option (List Kl)} (H : HO σ ρ law K) {n w : Nat} (e : sg_I ρ 344 20 = Int32.ofNat n) (hn : n ≤ 4) (hw : w < n) (c : CF (sg_R τ) (sg_L τ)) (e319 : ∀ w, w < 4 → sg_R τ 319 w = some (320 + 6 * w)) (TT : ∀ w, w < n → TW τ ρ law K w) (b2 : SO ρ υ K n 0) {y : Nat} (hy : y ≤ 9999) : ∃ v φ, f_X11_again_L83 20000 0 20000 (Int32.ofNat w) (Int32.ofNat (w + 1)) (Int32.ofNat y) 1 τ = some (v, τ) ∧ f_X12_again_L43 20000 344 20000 (Int32.ofNat w) (Int32.ofNat y) 1 υ = some (v, φ) ∧ KS ρ φ := by
  have x1 : ¬ Int32.ofNat w = -1 := by
    rw [i_eq, o_ti (by omega)]
    have : (-1 : Int32).toInt = -1 := rfl
    omega
  obtain ⟨φ, f1, f2⟩ := ag_r r H e hn (by omega) (Int32.ofNat w) hy y 0 20000 υ (by omega) (by omega) b2
  have cc := ag_c hn (show w + 1 ≤ n by omega) (Nat.le_succ w) c e319 TT hy y 1 20000 (by omega) (by omega) (by omega)
  have key : ff_ (fun i => cj_ (fun o => hm_ K (sg_I ρ) i (w + o)) (w + 1 - w)) y 1 = ff_ (fun i => cj_ (fun o => decide (Int32.ofNat w ≠ -1 ∧ ¬ Int32.ofNat o = Int32.ofNat w) || hm_ K (sg_I ρ) i o) n) y (0 + 1) := by
    apply ff_q
    intro i
    have e1 : cj_ (fun o => hm_ K (sg_I ρ) i (w + o)) (w + 1 - w) = hm_ K (sg_I ρ) i w := by
      rw [show w + 1 - w = 1 by omega]
      show (true && hm_ K (sg_I ρ) i (w + 0)) = _
      rw [Bool.true_and, Nat.add_zero]
    rw [e1, cj_1 hw (fun o ho hne => by
      have hq : ¬ Int32.ofNat o = Int32.ofNat w := by rw [o_eq (by omega) (by omega)]; exact hne
      rw [decide_eq_true (⟨x1, hq⟩ : Int32.ofNat w ≠ -1 ∧ ¬ Int32.ofNat o = Int32.ofNat w), Bool.true_or]), decide_eq_false (fun q => q.2 rfl), Bool.false_or]
  rw [key] at cc
  exact ⟨_, φ, cc, f1, f2⟩
theorem p2_again : so_again p2_I 20000 := by
  intro x
  refine Sm.so (Sm.of ?_)
  intro σ ρ r
  obtain ⟨n, h1, h2, h3, h4, h5⟩ := r.nw
  have c := r.cf
  have d := r.rf
  have il := il_v c h1 h3
  have iw := iw_v c h1 h3 x
  have jw := jw_v h1 h2 x
  have em : (-1 : Int32).toInt = -1 := rfl
  by_cases g : 0 < n
  · rw [if_pos g] at il
    have n0 : ¬ sg_I ρ 344 20 = 0 := by rw [h2, l_0, o_eq (by omega) (by omega)]; omega
    obtain ⟨law, K, H⟩ := r.ho
    obtain ⟨τ, a1, a3, TT⟩ := ta_w r H h2 h1
    obtain ⟨υ, b1, b2⟩ := ss_v r (K := K) h2 h1
    have r' : Rel τ ρ := a3.rel r
    have e319 : ∀ w, w < 4 → sg_R τ 319 w = some (320 + 6 * w) := fun w hw => (r'.1.1.2.2.2.2.2 w hw).1
    have R13 : sg_R σ 0 13 = some 17 := by simp only [c]
    have z1 : ¬ (1 : Int32) = 0 := by decide
    by_cases x1 : x = -1
    · subst x1
      obtain ⟨v, φ, cc, f1, f2⟩ := ag_1 r H h2 h1 g r'.cf e319 TT b2 (y := 9999) (by omega)
      rw [← l_9999] at cc f1
      refine ⟨(v, τ), (v, φ), ?_, ?_, rfl, a3, f2.kr⟩
      · unfold f_X11_again
        rw [if_pos rfl, f_of il, if_neg z1]
        unfold f_X11_again_B17
        rw [if_neg z1]
        unfold f_X11_again_B32
        rw [if_neg z1]
        unfold f_X11_again_B41
        rw [if_neg z1, f_of R13, h3]
        unfold f_X11_again_B59
        rw [if_neg z1]
        unfold f_X11_again_B74
        rw [f_of a1, cc]
      · unfold f_X12_again
        rw [if_neg n0, if_pos rfl]
        unfold f_X12_again_B22
        rw [f_of b1, if_pos rfl]
        unfold f_X12_again_B40
        rw [f1]
    · by_cases gx : 0 ≤ x.toInt ∧ x.toInt < n
      · rw [if_pos gx] at iw jw
        obtain ⟨w, hw, rfl⟩ := x_lt gx
        obtain ⟨v, φ, cc, f1, f2⟩ := ag_2 r H h2 h1 hw r'.cf e319 TT b2 (y := 999) (by omega)
        rw [← l_999] at cc f1
        refine ⟨(v, τ), (v, φ), ?_, ?_, rfl, a3, f2.kr⟩
        · unfold f_X11_again
          rw [if_neg x1]
          unfold f_X11_again_B16 f_X11_again_B17
          rw [if_pos rfl, f_of iw, if_neg z1]
          unfold f_X11_again_B32
          rw [if_pos rfl]
          unfold f_X11_again_B41
          rw [if_pos rfl, o_s]
          unfold f_X11_again_B59
          rw [if_pos rfl]
          unfold f_X11_again_B74
          rw [f_of a1, cc]
        · unfold f_X12_again
          rw [if_neg n0, if_neg x1, f_of jw, if_neg z1]
          unfold f_X12_again_B22
          rw [f_of b1, if_neg x1]
          unfold f_X12_again_B40
          rw [f1]
      · rw [if_neg gx] at iw jw
        exact ⟨(-1, σ), (-1, ρ), by unfold f_X11_again f_X11_again_B16 f_X11_again_B17; simp only [Option.bind_some, ↓reduceIte, gI_I, gI_R, gI_J, gR_I, gR_R, gR_J, gL_I, gL_R, gL_J, gN_I, gN_R, gN_J, gJ_I, gJ_R, Int32.reduceLT, e_1_0, Int32.reduceToNatClampNeg, Int32.reduceToInt, Int.reduceLE, Int.reduceLT, Int.reduceNeg, Int.reduceEq,  Nat.reduceLT, Nat.reduceLeDiff, Nat.reduceEqDiff, Nat.reduceAdd, Nat.reduceMul, false_or, or_false, true_and, and_true, false_and, and_false, not_false_eq_true, not_true_eq_false, or_self, and_self, true_or, or_true, x1, iw], by unfold f_X12_again; simp only [Option.bind_some, ↓reduceIte, gI_I, gI_R, gI_J, gR_I, gR_R, gR_J, gL_I, gL_R, gL_J, gN_I, gN_R, gN_J, gJ_I, gJ_R, Int32.reduceLT, e_1_0, Int32.reduceToNatClampNeg, Int32.reduceToInt, Int.reduceLE, Int.reduceLT, Int.reduceNeg, Int.reduceEq,  Nat.reduceLT, Nat.reduceLeDiff, Nat.reduceEqDiff, Nat.reduceAdd, Nat.reduceMul, false_or, or_false, true_and, and_true, false_and, and_false, not_false_eq_true, not_true_eq_false, or_self, and_self, true_or, or_true, n0, x1, jw], rfl, KC.rf, KR.rf⟩
  · rw [if_neg g] at il
    have n0 : sg_I ρ 344 20 = 0 := by rw [h2, l_0, o_eq (by omega) (by omega)]; omega
    rw [if_neg (by omega)] at iw
    refine ⟨(-1, σ), (-1, ρ), ?_, by unfold f_X12_again; simp only [Option.bind_some, ↓reduceIte, gI_I, gI_R, gI_J, gR_I, gR_R, gR_J, gL_I, gL_R, gL_J, gN_I, gN_R, gN_J, gJ_I, gJ_R, Int32.reduceLT, e_1_0, Int32.reduceToNatClampNeg, Int32.reduceToInt, Int.reduceLE, Int.reduceLT, Int.reduceNeg, Int.reduceEq,  Nat.reduceLT, Nat.reduceLeDiff, Nat.reduceEqDiff, Nat.reduceAdd, Nat.reduceMul, false_or, or_false, true_and, and_true, false_and, and_false, not_false_eq_true, not_true_eq_false, or_self, and_self, true_or, or_true, n0], rfl, KC.rf, KR.rf⟩
    unfold f_X11_again f_X11_again_B16 f_X11_again_B17
    by_cases x1 : x = -1
    · rw [if_pos x1, f_of il, if_pos rfl, if_pos rfl, f_of iw, if_pos rfl]
    · rw [if_neg x1, if_pos rfl, f_of iw, if_pos rfl]
/-! meetings -/
theorem sp_w {σ ρ τ : Sg} (r : Rel σ ρ) {K : Option (List Kl)} {n i w : Nat} (e : sg_I ρ 344 20 = Int32.ofNat n) (hn : n ≤ 4) (h : SO ρ τ K n i) (hw : w < n) : f_X12_spotShows 344 (Int32.ofNat w) τ = some (hP (sg_I ρ) (wr_ (sg_I ρ) w) (tj_ K (sg_I ρ) w i)) := by
  obtain ⟨d', e20⟩ := h.d r e
  obtain ⟨v, z, v1, z1, q1, p1, s1, s2, ev, w1, w2, w3, w4, -⟩ := r.wn e hn hw
  have hlt := tj_lt r e hn hw (K := K) i
  have pic := pa_v (h.1.kr.rel r) (q := wr_ (sg_I ρ) w) (p := tj_ K (sg_I ρ) w i) (by omega) (by omega)
  rw [h.1.h.2.2.2] at pic
  unfold f_X12_spotShows
  rw [of_3 d' (by omega), h.1.h.2.1, w4]
  simp only [d', Option.bind_some]
  rw [if_neg (o_in (by omega) (by omega)), o_tn (by omega), h.2 w hw, pic]
  rfl
theorem p2_meets : so_meets p2_I 20000 := by
  intro x y
  refine Sm.so (Sm.of ?_)
  intro σ ρ r
  obtain ⟨n, h1, h2, h3, h4, h5⟩ := r.nw
  have c := r.cf
  have d := r.rf
  have iw := iw_v c h1 h3 x
  have jw := jw_v h1 h2 x
  have iw2 := iw_v c h1 h3 y
  have jw2 := jw_v h1 h2 y
  by_cases g : 0 ≤ x.toInt ∧ x.toInt < n
  · rw [if_pos g] at iw jw
    by_cases g2 : 0 ≤ y.toInt ∧ y.toInt < n
    · rw [if_pos g2] at iw2 jw2
      by_cases xy : x = y
      · exact ⟨(-1, σ), (-1, ρ), by unfold f_X11_meets; rw [← xy] at iw2 ⊢; simp only [Option.bind_some, ↓reduceIte, gI_I, gI_R, gI_J, gR_I, gR_R, gR_J, gL_I, gL_R, gL_J, gN_I, gN_R, gN_J, gJ_I, gJ_R, Int32.reduceLT, e_1_0, Int32.reduceToNatClampNeg, Int32.reduceToInt, Int.reduceLE, Int.reduceLT, Int.reduceNeg, Int.reduceEq,  Nat.reduceLT, Nat.reduceLeDiff, Nat.reduceEqDiff, Nat.reduceAdd, Nat.reduceMul, false_or, or_false, true_and, and_true, false_and, and_false, not_false_eq_true, not_true_eq_false, or_self, and_self, true_or, or_true, iw], by unfold f_X12_meets; rw [← xy] at jw2 ⊢; simp only [Option.bind_some, ↓reduceIte, gI_I, gI_R, gI_J, gR_I, gR_R, gR_J, gL_I, gL_R, gL_J, gN_I, gN_R, gN_J, gJ_I, gJ_R, Int32.reduceLT, e_1_0, Int32.reduceToNatClampNeg, Int32.reduceToInt, Int.reduceLE, Int.reduceLT, Int.reduceNeg, Int.reduceEq,  Nat.reduceLT, Nat.reduceLeDiff, Nat.reduceEqDiff, Nat.reduceAdd, Nat.reduceMul, false_or, or_false, true_and, and_true, false_and, and_false, not_false_eq_true, not_true_eq_false, or_self, and_self, true_or, or_true, jw], rfl, KC.rf, KR.rf⟩
      · obtain ⟨u, hu, rfl⟩ := x_lt g
        obtain ⟨w, hw, rfl⟩ := x_lt g2
        have huw : u ≠ w := fun q => xy (by rw [q])
        obtain ⟨law, K, H⟩ := r.ho
        obtain ⟨f1, f2, t1, i1, i4, -, -⟩ := r.gn h2 h1 (by omega)
        obtain ⟨τ, a1, TU, a3, -⟩ := tc_w r H h2 h1 hu
        obtain ⟨υ, b1, TV, b3, b4⟩ := tc_w (a3.rel r) (H.kc r a3) h2 h1 hw
        obtain ⟨S1, L1, T1⟩ := b4 u huw TU
        obtain ⟨S2, L2, T2⟩ := TV
        obtain ⟨φ, s1, s2⟩ := ss_v r (K := K) h2 h1
        have sf1 : ∀ k, k < 1000000 → f_X0_shownAfter (320 + 6 * u) (Int32.ofNat k) υ = some (hP (sg_I ρ) (wr_ (sg_I ρ) u) (tj_ K (sg_I ρ) u k)) := fun k hk => sf_v T1 hk
        have sf2 : ∀ k, k < 1000000 → f_X0_shownAfter (320 + 6 * w) (Int32.ofNat k) υ = some (hP (sg_I ρ) (wr_ (sg_I ρ) w) (tj_ K (sg_I ρ) w k)) := fun k hk => sf_v T2 hk
        have lp : ∀ (j k m m' : Nat) (ψ : Sg), k + j = 1000 → j < m → j < m' → SO ρ ψ K n k → ∃ v χ, f_X11_meets_L39 20000 0 m (some (320 + 6 * u)) (some (320 + 6 * w)) (Int32.ofNat k) υ = some (v, υ) ∧ f_X12_meets_L29 20000 344 m' (Int32.ofNat u) (Int32.ofNat w) (Int32.ofNat k) ψ = some (v, χ) ∧ KS ρ χ := by
          intro j
          induction j with
          | zero =>
            intro k m m' ψ hk hm hm' h
            obtain ⟨m, rfl⟩ : ∃ x, m = x + 1 := ⟨m - 1, by omega⟩
            obtain ⟨m', rfl⟩ : ∃ x, m' = x + 1 := ⟨m' - 1, by omega⟩
            have lt : (999 : Int32) < Int32.ofNat k := by rw [l_999, o_lt (by omega) (by omega)]; omega
            exact ⟨-1, ψ, by rw [f_X11_meets_L39, if_pos lt], by rw [f_X12_meets_L29, if_pos lt], h.1⟩
          | succ j ih =>
            intro k m m' ψ hk hm hm' h
            obtain ⟨m, rfl⟩ : ∃ x, m = x + 1 := ⟨m - 1, by omega⟩
            obtain ⟨m', rfl⟩ : ∃ x, m' = x + 1 := ⟨m' - 1, by omega⟩
            obtain ⟨d', e20⟩ := h.d r h2
            have lt : ¬ (999 : Int32) < Int32.ofNat k := by rw [l_999, o_lt (by omega) (by omega)]; omega
            obtain ⟨χ, g1, g2⟩ := gs_v r H h2 h1 h (by omega)
            obtain ⟨v, ω, v1, v2, v3⟩ := ih (k + 1) m m' χ (by omega) (by omega) (by omega) g2
            have e19 : sg_I ψ 359 19 = Int32.ofNat (wt0 (sg_I ρ)) := by rw [h.1.h.2.1]; exact i4
            have B : f_X12_meets_B61 20000 344 (f_X12_meets_L29 20000 344 m') (Int32.ofNat u) (Int32.ofNat w) (Int32.ofNat k) ψ = some (v, ω) := by
              unfold f_X12_meets_B61
              simp only [Option.bind_some, ↓reduceIte, gI_I, gI_R, gI_J, gR_I, gR_R, gR_J, gL_I, gL_R, gL_J, gN_I, gN_R, gN_J, gJ_I, gJ_R, Int32.reduceLT, e_1_0, Int32.reduceToNatClampNeg, Int32.reduceToInt, Int.reduceLE, Int.reduceLT, Int.reduceNeg, Int.reduceEq,  Nat.reduceLT, Nat.reduceLeDiff, Nat.reduceEqDiff, Nat.reduceAdd, Nat.reduceMul, false_or, or_false, true_and, and_true, false_and, and_false, not_false_eq_true, not_true_eq_false, or_self, and_self, true_or, or_true, d', e19, o_add, g1, o_s, v2]
            rw [f_X11_meets_L39, if_neg lt, f_X12_meets_L29, if_neg lt, sp_w r h2 h1 h hu, sp_w r h2 h1 h hw]
            simp only [Option.bind_some]
            rw [sf1 k (by omega)]
            simp only [Option.bind_some]
            by_cases q1 : hP (sg_I ρ) (wr_ (sg_I ρ) u) (tj_ K (sg_I ρ) u k) = 26
            · rw [if_pos q1, if_pos q1, B]
              unfold f_X11_meets_B77
              rw [o_s]
              exact ⟨v, ω, v1, rfl, v3⟩
            · rw [if_neg q1, if_neg q1, sf2 k (by omega)]
              simp only [Option.bind_some]
              by_cases q2 : hP (sg_I ρ) (wr_ (sg_I ρ) u) (tj_ K (sg_I ρ) u k) = hP (sg_I ρ) (wr_ (sg_I ρ) w) (tj_ K (sg_I ρ) w k)
              · rw [if_pos q2, if_pos q2]
                exact ⟨_, _, rfl, rfl, h.1⟩
              · rw [if_neg q2, if_neg q2, B]
                unfold f_X11_meets_B77
                rw [o_s]
                exact ⟨v, ω, v1, rfl, v3⟩
        obtain ⟨v, χ, v1, v2, v3⟩ := lp 1000 0 20000 20000 φ (by omega) (by omega) (by omega) s2
        have v1' : f_X11_meets_L39 20000 0 20000 (some (320 + 6 * u)) (some (320 + 6 * w)) 0 υ = some (v, υ) := v1
        have v2' : f_X12_meets_L29 20000 344 20000 (Int32.ofNat u) (Int32.ofNat w) 0 φ = some (v, χ) := v2
        exact ⟨(v, υ), (v, χ), by unfold f_X11_meets; simp only [Option.bind_some, ↓reduceIte, gI_I, gI_R, gI_J, gR_I, gR_R, gR_J, gL_I, gL_R, gL_J, gN_I, gN_R, gN_J, gJ_I, gJ_R, Int32.reduceLT, e_1_0, Int32.reduceToNatClampNeg, Int32.reduceToInt, Int.reduceLE, Int.reduceLT, Int.reduceNeg, Int.reduceEq,  Nat.reduceLT, Nat.reduceLeDiff, Nat.reduceEqDiff, Nat.reduceAdd, Nat.reduceMul, false_or, or_false, true_and, and_true, false_and, and_false, not_false_eq_true, not_true_eq_false, or_self, and_self, true_or, or_true, iw, iw2, xy, a1, b1, v1'], by unfold f_X12_meets; simp only [Option.bind_some, ↓reduceIte, gI_I, gI_R, gI_J, gR_I, gR_R, gR_J, gL_I, gL_R, gL_J, gN_I, gN_R, gN_J, gJ_I, gJ_R, Int32.reduceLT, e_1_0, Int32.reduceToNatClampNeg, Int32.reduceToInt, Int.reduceLE, Int.reduceLT, Int.reduceNeg, Int.reduceEq,  Nat.reduceLT, Nat.reduceLeDiff, Nat.reduceEqDiff, Nat.reduceAdd, Nat.reduceMul, false_or, or_false, true_and, and_true, false_and, and_false, not_false_eq_true, not_true_eq_false, or_self, and_self, true_or, or_true, jw, jw2, xy, s1, v2'], rfl, a3.tr b3, v3.kr⟩
    · rw [if_neg g2] at iw2 jw2
      exact ⟨(-1, σ), (-1, ρ), by unfold f_X11_meets; simp only [Option.bind_some, ↓reduceIte, gI_I, gI_R, gI_J, gR_I, gR_R, gR_J, gL_I, gL_R, gL_J, gN_I, gN_R, gN_J, gJ_I, gJ_R, Int32.reduceLT, e_1_0, Int32.reduceToNatClampNeg, Int32.reduceToInt, Int.reduceLE, Int.reduceLT, Int.reduceNeg, Int.reduceEq,  Nat.reduceLT, Nat.reduceLeDiff, Nat.reduceEqDiff, Nat.reduceAdd, Nat.reduceMul, false_or, or_false, true_and, and_true, false_and, and_false, not_false_eq_true, not_true_eq_false, or_self, and_self, true_or, or_true, iw, iw2], by unfold f_X12_meets; simp only [Option.bind_some, ↓reduceIte, gI_I, gI_R, gI_J, gR_I, gR_R, gR_J, gL_I, gL_R, gL_J, gN_I, gN_R, gN_J, gJ_I, gJ_R, Int32.reduceLT, e_1_0, Int32.reduceToNatClampNeg, Int32.reduceToInt, Int.reduceLE, Int.reduceLT, Int.reduceNeg, Int.reduceEq,  Nat.reduceLT, Nat.reduceLeDiff, Nat.reduceEqDiff, Nat.reduceAdd, Nat.reduceMul, false_or, or_false, true_and, and_true, false_and, and_false, not_false_eq_true, not_true_eq_false, or_self, and_self, true_or, or_true, jw, jw2], rfl, KC.rf, KR.rf⟩
  · rw [if_neg g] at iw jw
    exact ⟨(-1, σ), (-1, ρ), by unfold f_X11_meets; simp only [Option.bind_some, ↓reduceIte, gI_I, gI_R, gI_J, gR_I, gR_R, gR_J, gL_I, gL_R, gL_J, gN_I, gN_R, gN_J, gJ_I, gJ_R, Int32.reduceLT, e_1_0, Int32.reduceToNatClampNeg, Int32.reduceToInt, Int.reduceLE, Int.reduceLT, Int.reduceNeg, Int.reduceEq,  Nat.reduceLT, Nat.reduceLeDiff, Nat.reduceEqDiff, Nat.reduceAdd, Nat.reduceMul, false_or, or_false, true_and, and_true, false_and, and_false, not_false_eq_true, not_true_eq_false, or_self, and_self, true_or, or_true, iw], by unfold f_X12_meets; simp only [Option.bind_some, ↓reduceIte, gI_I, gI_R, gI_J, gR_I, gR_R, gR_J, gL_I, gL_R, gL_J, gN_I, gN_R, gN_J, gJ_I, gJ_R, Int32.reduceLT, e_1_0, Int32.reduceToNatClampNeg, Int32.reduceToInt, Int.reduceLE, Int.reduceLT, Int.reduceNeg, Int.reduceEq,  Nat.reduceLT, Nat.reduceLeDiff, Nat.reduceEqDiff, Nat.reduceAdd, Nat.reduceMul, false_or, or_false, true_and, and_true, false_and, and_false, not_false_eq_true, not_true_eq_false, or_self, and_self, true_or, or_true, jw], rfl, KC.rf, KR.rf⟩
/-! readings -/
theorem p2_reads : so_reads p2_I 20000 := by
  intro x
  refine Sm.so (Sm.of ?_)
  intro σ ρ r
  obtain ⟨n, h1, h2, h3, h4, h5⟩ := r.nw
  have c := r.cf
  have d := r.rf
  have il := il_v c h1 h3
  have is := is_v r x
  have js := js_v r x
  have g6 := r.hs.1
  by_cases g : 0 < n
  · rw [if_pos g] at il
    have n0 : ¬ sg_I ρ 344 20 = 0 := by rw [h2, l_0, o_eq (by omega) (by omega)]; omega
    by_cases gx : 0 ≤ x.toInt ∧ x.toInt < hS (sg_I ρ)
    · rw [if_pos gx] at is js
      obtain ⟨s, hs, rfl⟩ := x_lt gx
      obtain ⟨law, K, H⟩ := r.ho
      obtain ⟨f1, f2, t1, i1, i4, -, -⟩ := r.gn h2 h1 g
      obtain ⟨τ, a1, a3, TT⟩ := ta_w r H h2 h1
      obtain ⟨φ, s1, s2⟩ := ss_v r (K := K) h2 h1
      have r' : Rel τ ρ := a3.rel r
      have c' := r'.cf
      have e319 : ∀ w, w < 4 → sg_R τ 319 w = some (320 + 6 * w) := fun w hw => (r'.1.1.2.2.2.2.2 w hw).1
      obtain ⟨b, b1, b2, b3, b4, b5⟩ := r'.ss hs
      have q1 : sg_I τ 17 1 = Int32.ofNat n := by rw [a3.i (by omega)]; exact h3
      have sf : ∀ w k, w < n → k < 1000000 → f_X0_shownAfter (320 + 6 * w) (Int32.ofNat k) τ = some (hP (sg_I ρ) (wr_ (sg_I ρ) w) (tj_ K (sg_I ρ) w k)) := fun w k hw hk => by
        obtain ⟨S, L, T⟩ := TT w hw
        exact sf_v T hk
      have CI : ∀ (k m0 : Nat), k ≤ 9999 → ∀ (j w m : Nat), w + j = n → j < m → f_X11_reads_L35 20000 0 (f_X11_reads_L23 20000 0 m0) m (Int32.ofNat s) (Int32.ofNat k) (bi_ (cj_ (fun w => decide (hP (sg_I ρ) (wr_ (sg_I ρ) w) (tj_ K (sg_I ρ) w k) = hP (sg_I ρ) s (w % hL (sg_I ρ) s))) w)) (Int32.ofNat w) τ = if cj_ (fun w => decide (hP (sg_I ρ) (wr_ (sg_I ρ) w) (tj_ K (sg_I ρ) w k) = hP (sg_I ρ) s (w % hL (sg_I ρ) s))) n = true then some (Int32.ofNat k, τ) else f_X11_reads_L23 20000 0 m0 (Int32.ofNat s) (Int32.ofNat (k + 1)) τ := by
        intro k m0 hk
        have B : ∀ b, f_X11_reads_B88 20000 0 (f_X11_reads_L23 20000 0 m0) (Int32.ofNat s) (Int32.ofNat k) (bi_ b) τ = if b = true then some (Int32.ofNat k, τ) else f_X11_reads_L23 20000 0 m0 (Int32.ofNat s) (Int32.ofNat (k + 1)) τ := by
          intro b
          unfold f_X11_reads_B88
          rw [o_s]
          cases b <;> rfl
        intro j
        induction j with
        | zero =>
          intro w m hw hm
          obtain ⟨m, rfl⟩ : ∃ x, m = x + 1 := ⟨m - 1, by omega⟩
          have hw : w = n := by omega
          subst hw
          rw [f_X11_reads_L35]
          simp only [c', Option.bind_some, q1]
          rw [if_neg (by rw [o_lt (by omega) (by omega)]; omega)]
          exact B _
        | succ j ih =>
          intro w m hw hm
          obtain ⟨m, rfl⟩ : ∃ x, m = x + 1 := ⟨m - 1, by omega⟩
          have ih1 := ih (w + 1) m (by omega) (by omega)
          rw [f_X11_reads_L35]
          simp only [c', Option.bind_some, q1]
          rw [if_pos (by rw [o_lt (by omega) (by omega)]; omega)]
          cases hc : cj_ (fun w => decide (hP (sg_I ρ) (wr_ (sg_I ρ) w) (tj_ K (sg_I ρ) w k) = hP (sg_I ρ) s (w % hL (sg_I ρ) s))) w with
          | false =>
            rw [if_pos bi_f, cj_g hc (show w ≤ n by omega)]
            exact B false
          | true =>
            rw [cj_s hc] at ih1
            rw [if_neg (by decide), if_neg (o_in (by omega) (by omega)), o_tn (by omega), e319 w (by omega)]
            simp only [Option.bind_some]
            rw [sf w k (by omega) (by omega)]
            simp only [Option.bind_some]
            rw [if_neg (o_in (by omega) (by omega)), o_tn (by omega), b1]
            simp only [Option.bind_some]
            rw [b2.sa (by omega)]
            simp only [Option.bind_some, f_X11_reads_B81, o_s]
            by_cases q : hP (sg_I ρ) (wr_ (sg_I ρ) w) (tj_ K (sg_I ρ) w k) = hP (sg_I ρ) s (w % hL (sg_I ρ) s)
            · rw [decide_eq_true q] at ih1
              rw [if_pos q]
              exact ih1
            · rw [decide_eq_false q] at ih1
              rw [if_neg q]
              exact ih1
      have RI : ∀ (k m0 : Nat) (ψ : Sg), SO ρ ψ K n k → k ≤ 9999 → ∀ (j w m : Nat), w + j = n → j < m → f_X12_reads_L35 20000 344 (f_X12_reads_L23 20000 344 m0) m (Int32.ofNat s) (Int32.ofNat k) (bi_ (cj_ (fun w => decide (hP (sg_I ρ) (wr_ (sg_I ρ) w) (tj_ K (sg_I ρ) w k) = hP (sg_I ρ) s (w % hL (sg_I ρ) s))) w)) (Int32.ofNat w) ψ = if cj_ (fun w => decide (hP (sg_I ρ) (wr_ (sg_I ρ) w) (tj_ K (sg_I ρ) w k) = hP (sg_I ρ) s (w % hL (sg_I ρ) s))) n = true then some (Int32.ofNat k, ψ) else Option.bind (f_X12_goSpots 20000 344 (Int32.ofNat (wt0 (sg_I ρ) + k)) ψ) fun p10 => f_X12_reads_L23 20000 344 m0 (Int32.ofNat s) (Int32.ofNat (k + 1)) p10 := by
        intro k m0 ψ h hk
        obtain ⟨d', e20⟩ := h.d r h2
        have e19 : sg_I ψ 359 19 = Int32.ofNat (wt0 (sg_I ρ)) := by rw [h.1.h.2.1]; exact i4
        have e358 : sg_I ψ 358 s = Int32.ofNat (hL (sg_I ρ) s) := by rw [h.1.2 358 (by decide) (by decide) (by decide) (by decide) (by decide)]; exact b3
        have e357 : sg_I ψ 357 = sg_I ρ 357 := h.1.2 357 (by decide) (by decide) (by decide) (by decide) (by decide)
        intro j
        induction j with
        | zero =>
          intro w m hw hm
          obtain ⟨m, rfl⟩ : ∃ x, m = x + 1 := ⟨m - 1, by omega⟩
          have hw : w = n := by omega
          subst hw
          rw [f_X12_reads_L35, e20, if_neg (by rw [o_lt (by omega) (by omega)]; omega)]
          cases cj_ (fun w => decide (hP (sg_I ρ) (wr_ (sg_I ρ) w) (tj_ K (sg_I ρ) w k) = hP (sg_I ρ) s (w % hL (sg_I ρ) s))) w with
          | false =>
            rw [if_pos bi_f, if_neg (by decide)]
            simp only [Option.bind_some, ↓reduceIte, gI_I, gI_R, gI_J, gR_I, gR_R, gR_J, gL_I, gL_R, gL_J, gN_I, gN_R, gN_J, gJ_I, gJ_R, Int32.reduceLT, e_1_0, Int32.reduceToNatClampNeg, Int32.reduceToInt, Int.reduceLE, Int.reduceLT, Int.reduceNeg, Int.reduceEq,  Nat.reduceLT, Nat.reduceLeDiff, Nat.reduceEqDiff, Nat.reduceAdd, Nat.reduceMul, false_or, or_false, true_and, and_true, false_and, and_false, not_false_eq_true, not_true_eq_false, or_self, and_self, true_or, or_true, d', e19, o_add, o_s]
          | true =>
            rw [if_neg (by decide), if_pos rfl]
        | succ j ih =>
          intro w m hw hm
          obtain ⟨m, rfl⟩ : ∃ x, m = x + 1 := ⟨m - 1, by omega⟩
          have ih1 := ih (w + 1) m (by omega) (by omega)
          rw [f_X12_reads_L35, e20, if_pos (by rw [o_lt (by omega) (by omega)]; omega)]
          unfold f_X12_reads_B80 f_X12_reads_B81
          rw [o_s]
          cases hc : cj_ (fun w => decide (hP (sg_I ρ) (wr_ (sg_I ρ) w) (tj_ K (sg_I ρ) w k) = hP (sg_I ρ) s (w % hL (sg_I ρ) s))) w with
          | false =>
            rw [cj_f hc 1] at ih1
            rw [if_pos bi_f]
            exact ih1
          | true =>
            rw [cj_s hc] at ih1
            have hm := Nat.mod_lt w (show 0 < hL (sg_I ρ) s by omega)
            have hq : hP (sg_I ρ) s (w % hL (sg_I ρ) s) = sg_I ρ 357 (16 * s + w % hL (sg_I ρ) s) := by
              unfold hP
              rw [if_pos hs]
            rw [if_neg (by decide), sp_w r h2 h1 h (by omega)]
            simp only [d', Option.bind_some]
            rw [if_neg (o_in (by omega) (by omega)), o_tn (by omega), e358, if_neg (by rw [l_0, o_eq (by omega) (by omega)]; omega), rm_o (by omega) (by omega), l_16, o_mul, o_add, if_neg (o_in (by omega) (by omega)), o_tn (by omega), e357, ← hq]
            by_cases q : hP (sg_I ρ) (wr_ (sg_I ρ) w) (tj_ K (sg_I ρ) w k) = hP (sg_I ρ) s (w % hL (sg_I ρ) s)
            · rw [decide_eq_true q] at ih1
              rw [if_pos q]
              exact ih1
            · rw [decide_eq_false q] at ih1
              rw [if_neg q]
              exact ih1
      have lp : ∀ (j k m m' : Nat) (ψ : Sg), k + j = 1000 → j < m → j < m' → SO ρ ψ K n k → ∃ v χ, f_X11_reads_L23 20000 0 m (Int32.ofNat s) (Int32.ofNat k) τ = some (v, τ) ∧ f_X12_reads_L23 20000 344 m' (Int32.ofNat s) (Int32.ofNat k) ψ = some (v, χ) ∧ KS ρ χ := by
        intro j
        induction j with
        | zero =>
          intro k m m' ψ hk hm hm' h
          obtain ⟨m, rfl⟩ : ∃ x, m = x + 1 := ⟨m - 1, by omega⟩
          obtain ⟨m', rfl⟩ : ∃ x, m' = x + 1 := ⟨m' - 1, by omega⟩
          have lt : (999 : Int32) < Int32.ofNat k := by rw [l_999, o_lt (by omega) (by omega)]; omega
          exact ⟨-1, ψ, by rw [f_X11_reads_L23, if_pos lt], by rw [f_X12_reads_L23, if_pos lt], h.1⟩
        | succ j ih =>
          intro k m m' ψ hk hm hm' h
          obtain ⟨m, rfl⟩ : ∃ x, m = x + 1 := ⟨m - 1, by omega⟩
          obtain ⟨m', rfl⟩ : ∃ x, m' = x + 1 := ⟨m' - 1, by omega⟩
          have lt : ¬ (999 : Int32) < Int32.ofNat k := by rw [l_999, o_lt (by omega) (by omega)]; omega
          have ci : f_X11_reads_L35 20000 0 (f_X11_reads_L23 20000 0 m) 20000 (Int32.ofNat s) (Int32.ofNat k) 1 0 τ = _ := CI k m (by omega) n 0 20000 (by omega) (by omega)
          have ri : f_X12_reads_L35 20000 344 (f_X12_reads_L23 20000 344 m') 20000 (Int32.ofNat s) (Int32.ofNat k) 1 0 ψ = _ := RI k m' ψ h (by omega) n 0 20000 (by omega) (by omega)
          rw [f_X11_reads_L23, if_neg lt, f_X12_reads_L23, if_neg lt, ci, ri]
          by_cases q : cj_ (fun w => decide (hP (sg_I ρ) (wr_ (sg_I ρ) w) (tj_ K (sg_I ρ) w k) = hP (sg_I ρ) s (w % hL (sg_I ρ) s))) n = true
          · rw [if_pos q, if_pos q]
            exact ⟨_, _, rfl, rfl, h.1⟩
          · obtain ⟨χ, g1, g2⟩ := gs_v r H h2 h1 h (by omega)
            obtain ⟨v, ω, v1, v2, v3⟩ := ih (k + 1) m m' χ (by omega) (by omega) (by omega) g2
            rw [if_neg q, if_neg q, f_of g1]
            exact ⟨v, ω, v1, v2, v3⟩
      obtain ⟨v, χ, v1, v2, v3⟩ := lp 1000 0 20000 20000 φ (by omega) (by omega) (by omega) s2
      have v1' : f_X11_reads_L23 20000 0 20000 (Int32.ofNat s) 0 τ = some (v, τ) := v1
      have v2' : f_X12_reads_L23 20000 344 20000 (Int32.ofNat s) 0 φ = some (v, χ) := v2
      exact ⟨(v, τ), (v, χ), by unfold f_X11_reads; simp only [Option.bind_some, ↓reduceIte, gI_I, gI_R, gI_J, gR_I, gR_R, gR_J, gL_I, gL_R, gL_J, gN_I, gN_R, gN_J, gJ_I, gJ_R, Int32.reduceLT, e_1_0, Int32.reduceToNatClampNeg, Int32.reduceToInt, Int.reduceLE, Int.reduceLT, Int.reduceNeg, Int.reduceEq,  Nat.reduceLT, Nat.reduceLeDiff, Nat.reduceEqDiff, Nat.reduceAdd, Nat.reduceMul, false_or, or_false, true_and, and_true, false_and, and_false, not_false_eq_true, not_true_eq_false, or_self, and_self, true_or, or_true, il, is, a1, v1'], by unfold f_X12_reads; simp only [Option.bind_some, ↓reduceIte, gI_I, gI_R, gI_J, gR_I, gR_R, gR_J, gL_I, gL_R, gL_J, gN_I, gN_R, gN_J, gJ_I, gJ_R, Int32.reduceLT, e_1_0, Int32.reduceToNatClampNeg, Int32.reduceToInt, Int.reduceLE, Int.reduceLT, Int.reduceNeg, Int.reduceEq,  Nat.reduceLT, Nat.reduceLeDiff, Nat.reduceEqDiff, Nat.reduceAdd, Nat.reduceMul, false_or, or_false, true_and, and_true, false_and, and_false, not_false_eq_true, not_true_eq_false, or_self, and_self, true_or, or_true, n0, js, s1, v2'], rfl, a3, v3.kr⟩
    · rw [if_neg gx] at is js
      exact ⟨(-1, σ), (-1, ρ), by unfold f_X11_reads; simp only [Option.bind_some, ↓reduceIte, gI_I, gI_R, gI_J, gR_I, gR_R, gR_J, gL_I, gL_R, gL_J, gN_I, gN_R, gN_J, gJ_I, gJ_R, Int32.reduceLT, e_1_0, Int32.reduceToNatClampNeg, Int32.reduceToInt, Int.reduceLE, Int.reduceLT, Int.reduceNeg, Int.reduceEq,  Nat.reduceLT, Nat.reduceLeDiff, Nat.reduceEqDiff, Nat.reduceAdd, Nat.reduceMul, false_or, or_false, true_and, and_true, false_and, and_false, not_false_eq_true, not_true_eq_false, or_self, and_self, true_or, or_true, il, is], by unfold f_X12_reads; simp only [Option.bind_some, ↓reduceIte, gI_I, gI_R, gI_J, gR_I, gR_R, gR_J, gL_I, gL_R, gL_J, gN_I, gN_R, gN_J, gJ_I, gJ_R, Int32.reduceLT, e_1_0, Int32.reduceToNatClampNeg, Int32.reduceToInt, Int.reduceLE, Int.reduceLT, Int.reduceNeg, Int.reduceEq,  Nat.reduceLT, Nat.reduceLeDiff, Nat.reduceEqDiff, Nat.reduceAdd, Nat.reduceMul, false_or, or_false, true_and, and_true, false_and, and_false, not_false_eq_true, not_true_eq_false, or_self, and_self, true_or, or_true, n0, js], rfl, KC.rf, KR.rf⟩
  · rw [if_neg g] at il
    have n0 : sg_I ρ 344 20 = 0 := by rw [h2, l_0, o_eq (by omega) (by omega)]; omega
    exact ⟨(-1, σ), (-1, ρ), by unfold f_X11_reads; simp only [Option.bind_some, ↓reduceIte, gI_I, gI_R, gI_J, gR_I, gR_R, gR_J, gL_I, gL_R, gL_J, gN_I, gN_R, gN_J, gJ_I, gJ_R, Int32.reduceLT, e_1_0, Int32.reduceToNatClampNeg, Int32.reduceToInt, Int.reduceLE, Int.reduceLT, Int.reduceNeg, Int.reduceEq,  Nat.reduceLT, Nat.reduceLeDiff, Nat.reduceEqDiff, Nat.reduceAdd, Nat.reduceMul, false_or, or_false, true_and, and_true, false_and, and_false, not_false_eq_true, not_true_eq_false, or_self, and_self, true_or, or_true, il], by unfold f_X12_reads; simp only [Option.bind_some, ↓reduceIte, gI_I, gI_R, gI_J, gR_I, gR_R, gR_J, gL_I, gL_R, gL_J, gN_I, gN_R, gN_J, gJ_I, gJ_R, Int32.reduceLT, e_1_0, Int32.reduceToNatClampNeg, Int32.reduceToInt, Int.reduceLE, Int.reduceLT, Int.reduceNeg, Int.reduceEq,  Nat.reduceLT, Nat.reduceLeDiff, Nat.reduceEqDiff, Nat.reduceAdd, Nat.reduceMul, false_or, or_false, true_and, and_true, false_and, and_false, not_false_eq_true, not_true_eq_false, or_self, and_self, true_or, or_true, n0], rfl, KC.rf, KR.rf⟩
