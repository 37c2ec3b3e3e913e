/-! ===== texts: a lantern ===== -/
theorem tw_v {n : Nat} {b : Nat → Nat → Nat} (hn : n ≤ 4) (hb : ∀ w, w < n → b w 1 ≤ 1) : ∀ (j v m : Nat) (σ : Sg), v + j = n → j < m → CF (sg_R σ) (sg_L σ) → (∀ w, w < 4 → sg_R σ 18 w = some (20 + w)) → sg_I σ 2 6 = Int32.ofNat n → (∀ w, w < n → ∀ l, l < 4 → sg_I σ 5 (4 * w + l) = Int32.ofNat (b w l)) → ∃ τ, f_X1_tell_L50 20000 2 m (some 17) (Int32.ofNat v) σ = some τ ∧ kq_ σ τ ∧ (∀ a, (a < 20 + v ∨ 20 + n ≤ a) → sg_I τ a = sg_I σ a) ∧ (∀ w, v ≤ w → w < n → ∀ l, l < 4 → sg_I τ (20 + w) l = Int32.ofNat (b w l)) := by
  intro j
  induction j with
  | zero =>
    intro v m σ hv hm cf hR h6 h5
    obtain ⟨m, rfl⟩ : ∃ y, m = y + 1 := ⟨m - 1, by omega⟩
    refine ⟨σ, ?_, kq_.rf, fun _ _ => rfl, fun w h1 h2 => absurd h2 (by omega)⟩
    rw [f_X1_tell_L50, h6, if_neg (by rw [o_lt (by omega) (by omega)]; omega)]
  | succ j ih =>
    intro v m σ hv hm cf hR h6 h5
    obtain ⟨m, rfl⟩ : ∃ y, m = y + 1 := ⟨m - 1, by omega⟩
    have R170 : sg_R σ 17 0 = some 18 := by simp only [cf]
    have L18 : sg_L σ 18 = 4 := by simp only [cf]
    have R25 : sg_R σ 2 5 = some 5 := by simp only [cf]
    have L5 : sg_L σ 5 = 16 := by simp only [cf]
    have e0 : (4 : Int32) * Int32.ofNat v = Int32.ofNat (4 * v) := by rw [l_4, o_mul]
    have e1 : Int32.ofNat (4 * v) + 1 = Int32.ofNat (4 * v + 1) := o_s _
    have e2 : Int32.ofNat (4 * v) + 2 = Int32.ofNat (4 * v + 2) := by rw [l_2, o_add]
    have e3 : Int32.ofNat (4 * v) + 3 = Int32.ofNat (4 * v + 3) := by rw [l_3, o_add]
    have q : ∀ l, l < 4 → ¬ (Int32.ofNat (4 * v + l) < 0 ∨ 16 ≤ (Int32.ofNat (4 * v + l)).toNatClampNeg) := fun l hl => o_in (by omega) (by omega)
    have tq : ∀ l, l < 4 → (Int32.ofNat (4 * v + l)).toNatClampNeg = 4 * v + l := fun l hl => o_tn (by omega)
    have f0 := h5 v (by omega) 0 (by omega)
    have f1 := h5 v (by omega) 1 (by omega)
    have f2 := h5 v (by omega) 2 (by omega)
    have f3 := h5 v (by omega) 3 (by omega)
    have bv := hb v (by omega)
    have q0 := q 0 (by omega)
    have t0 := tq 0 (by omega)
    rw [Nat.add_zero] at f0 q0 t0
    have k1 : ∀ s0 : Int32, s0 = Int32.ofNat (b v 1) → ∃ τ, f_X1_tell_B102 20000 2 (f_X1_tell_L50 20000 2 m) (some 17) (Int32.ofNat v) (some (20 + v)) s0 (some (20 + v)) (put_I σ (20 + v) 0 (Int32.ofNat (b v 0))) = some τ ∧ kq_ σ τ ∧ (∀ a, (a < 20 + v ∨ 20 + n ≤ a) → sg_I τ a = sg_I σ a) ∧ (∀ w, v ≤ w → w < n → ∀ l, l < 4 → sg_I τ (20 + w) l = Int32.ofNat (b w l)) := by
      intro s0 hs0
      subst hs0
      have s01 : ¬ ¬ (Int32.ofNat (b v 1) = 0 ∨ Int32.ofNat (b v 1) = 1) := by
        intro z
        apply z
        have : b v 1 = 0 ∨ b v 1 = 1 := by omega
        rcases this with e | e <;> rw [e]
        · exact Or.inl rfl
        · exact Or.inr rfl
      obtain ⟨τ, u1, u2, u3, u4⟩ := ih (v + 1) m (put_I (put_I (put_I (put_I σ (20 + v) 0 (Int32.ofNat (b v 0))) (20 + v) 1 (Int32.ofNat (b v 1))) (20 + v) 2 (Int32.ofNat (b v 2))) (20 + v) 3 (Int32.ofNat (b v 3))) (by omega) (by omega) cf hR (by rw [gI_n (by omega), gI_n (by omega), gI_n (by omega), gI_n (by omega)]; exact h6) (fun w hw l hl => by rw [gI_n (by omega), gI_n (by omega), gI_n (by omega), gI_n (by omega)]; exact h5 w hw l hl)
      refine ⟨τ, ?_, kq_.put.tr (kq_.put.tr (kq_.put.tr (kq_.put.tr u2))), fun a ha => ?_, fun w h1 h2 l hl => ?_⟩
      · unfold f_X1_tell_B102
        have Ra : sg_R (put_I (put_I σ (20 + v) 0 (Int32.ofNat (b v 0))) (20 + v) 1 (Int32.ofNat (b v 1))) 2 5 = some 5 := R25
        have La : sg_L (put_I (put_I σ (20 + v) 0 (Int32.ofNat (b v 0))) (20 + v) 1 (Int32.ofNat (b v 1))) 5 = 16 := L5
        have Ia : sg_I (put_I (put_I σ (20 + v) 0 (Int32.ofNat (b v 0))) (20 + v) 1 (Int32.ofNat (b v 1))) 5 (4 * v + 2) = Int32.ofNat (b v 2) := by rw [gI_n (by omega), gI_n (by omega)]; exact f2
        rw [f_of rfl, if_neg s01, f_of Ra, La, e0, e2, if_neg (q 2 (by omega)), tq 2 (by omega), Ia, f_of rfl]
        have Rb : sg_R (put_I (put_I (put_I σ (20 + v) 0 (Int32.ofNat (b v 0))) (20 + v) 1 (Int32.ofNat (b v 1))) (20 + v) 2 (Int32.ofNat (b v 2))) 2 5 = some 5 := R25
        have Lb : sg_L (put_I (put_I (put_I σ (20 + v) 0 (Int32.ofNat (b v 0))) (20 + v) 1 (Int32.ofNat (b v 1))) (20 + v) 2 (Int32.ofNat (b v 2))) 5 = 16 := L5
        have Ib : sg_I (put_I (put_I (put_I σ (20 + v) 0 (Int32.ofNat (b v 0))) (20 + v) 1 (Int32.ofNat (b v 1))) (20 + v) 2 (Int32.ofNat (b v 2))) 5 (4 * v + 3) = Int32.ofNat (b v 3) := by rw [gI_n (by omega), gI_n (by omega), gI_n (by omega)]; exact f3
        rw [f_of Rb, Lb, e3, if_neg (q 3 (by omega)), tq 3 (by omega), Ib, o_s v]
        exact u1
      · rw [u3 a (by omega), gI_a (by omega), gI_a (by omega), gI_a (by omega), gI_a (by omega)]
      · by_cases e : w = v
        · subst e
          rw [u3 (20 + w) (by omega)]
          match l, hl with
          | 0, _ => rw [gI_n (by omega), gI_n (by omega), gI_n (by omega), gI_e]
          | 1, _ => rw [gI_n (by omega), gI_n (by omega), gI_e]
          | 2, _ => rw [gI_n (by omega), gI_e]
          | 3, _ => rw [gI_e]
        · exact u4 w (by omega) h2 l hl
    have Rw : sg_R σ 18 v = some (20 + v) := hR v (by omega)
    have Rc : sg_R (put_I σ (20 + v) 0 (Int32.ofNat (b v 0))) 2 5 = some 5 := R25
    have Lc : sg_L (put_I σ (20 + v) 0 (Int32.ofNat (b v 0))) 5 = 16 := L5
    have Ic : sg_I (put_I σ (20 + v) 0 (Int32.ofNat (b v 0))) 5 (4 * v + 1) = Int32.ofNat (b v 1) := by rw [gI_n (by omega)]; exact f1
    rw [f_X1_tell_L50, h6, if_pos (by rw [o_lt (by omega) (by omega)]; omega), if_pos (by rw [l_4, o_lt (by omega) (by omega)]; omega), f_of rfl, f_of R170, L18, if_neg (o_in (show v < 4 by omega) (by omega)), o_tn (show v < 2147483648 by omega), f_of R25, L5, e0, if_neg q0, t0, f_of Rw, f0, f_of Rc, Lc, e1, if_neg (q 1 (by omega)), tq 1 (by omega), Ic, Rw]
    by_cases e : b v 1 = 1
    · rw [if_pos (by rw [e]; rfl)]
      exact k1 1 (by rw [e]; rfl)
    · rw [if_neg (by rw [l_1, o_eq (by omega) (by omega)]; exact e)]
      exact k1 0 (by rw [show b v 1 = 0 by omega]; rfl)
