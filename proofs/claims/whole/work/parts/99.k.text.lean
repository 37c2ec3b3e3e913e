theorem so_t {υ ρ σ : Sg} (r : Rel υ ρ) (k : kq_ υ σ) (e9 : sg_I σ 0 9 = sg_I υ 0 9) {a q : Nat} (hq : q ≤ 100) (e : sg_I σ a 3 = Int32.ofNat q) : ∃ b, f_X11_stripOf 0 (some a) σ = some (some b) ∧ f_X8_size b σ = some (Int32.ofNat (hL (sg_I ρ) q)) ∧ 1 ≤ hL (sg_I ρ) q ∧ hL (sg_I ρ) q ≤ 16 := by
  have kc : KC υ (put_I υ 3 3 (Int32.ofNat q)) := KC.put (Or.inl (by omega)) (by omega)
  obtain ⟨b, b1, b2, b3, b4, b5, -⟩ := so_c (kc.rel r) (a := 3) hq gI_e
  refine ⟨b, ?_, ?_, b4, b5⟩
  · rw [← b1]
    unfold f_X11_stripOf f_X11_isStrip
    rw [f_of (rfl : some a = some a), f_of (rfl : some 3 = some 3), e, gI_e, e9, gI_n (by omega), k.2.1, k.2.2.1]
    rfl
  · unfold f_X8_size
    rw [k.2.1, k.2.2.1, f_of (show sg_R υ b 0 = some (b + 1) from b2), show sg_L υ (b + 1) = _ from b3]
