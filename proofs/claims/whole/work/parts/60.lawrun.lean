set_option maxHeartbeats 200000
/-! ===== both machines at work on a clause's tokens ===== -/
theorem sl_at {f : Nat → Int32} {C A B : List Int32} (h : sl_ f 0 C) {x : Int32} (e : C = A ++ x :: B) : f A.length = x := by
  have q := h A.length (by rw [e]; simp)
  rw [Nat.zero_add] at q
  rw [q, e]
  simp
theorem tk_n {t : Tk} (h : t.1 = 0) : tk_c t = t.2 := by unfold tk_c; rw [if_pos h]
theorem tk_l {t : Tk} (h : t.1 = 1) : tk_c t = -1 - t.2 := by unfold tk_c; rw [if_neg (by rw [h]; decide), if_pos h]
theorem tk_9 {t : Tk} (h : t.1 = 9) : tk_c t = -10 := by unfold tk_c; simp [h]
theorem o_m1 (n : Nat) : Int32.ofNat (n + 1) + (-1) = Int32.ofNat n := by
  rw [← o_s, Int32.add_assoc, show (1 + (-1) : Int32) = 0 by decide, Int32.add_zero]
theorem nn_c {x : Int32} (h : 0 ≤ x.toInt) : ¬ x = -12 ∧ ¬ x = -11 ∧ ¬ x = -10 ∧ ¬ x < 0 := by
  refine ⟨fun q => ?_, fun q => ?_, fun q => ?_, ?_⟩
  · rw [q] at h; exact absurd h (by decide)
  · rw [q] at h; exact absurd h (by decide)
  · rw [q] at h; exact absurd h (by decide)
  · rw [i_lt]
    exact Int.not_lt.mpr h
theorem lt_c : ∀ k : Nat, k ≤ 5 → ¬ (-1 - Int32.ofNat k : Int32) = -12 ∧ ¬ (-1 - Int32.ofNat k : Int32) = -11 ∧ ¬ (-1 - Int32.ofNat k : Int32) = -10 ∧ (-1 - Int32.ofNat k : Int32) < 0 ∧ (-1 - (-1 - Int32.ofNat k) : Int32) = Int32.ofNat k := by decide +kernel
theorem s2_c {t : Tk} (h : sg2 t.1) : ¬ tk_c t = -12 ∧ ¬ tk_c t = -11 ∧ ¬ tk_c t = -10 ∧ tk_c t < 0 ∧ ¬ (-1 - tk_c t < Int32.ofNat 6) := by
  rcases h with h | h | h | h | h | h | h | h | h
  · have e : tk_c t = -143 := by unfold tk_c; simp only [h, e_0_1, e_0_2, e_0_3, e_0_4, e_0_5, e_0_6, e_0_7, e_0_8, e_0_9, e_0_10, e_0_11, e_1_0, e_1_2, e_1_3, e_1_4, e_1_5, e_1_6, e_1_7, e_1_8, e_1_9, e_1_10, e_1_11, e_2_0, e_2_1, e_2_3, e_2_4, e_2_5, e_2_6, e_2_7, e_2_8, e_2_9, e_2_10, e_2_11, e_3_0, e_3_1, e_3_2, e_3_4, e_3_5, e_3_6, e_3_7, e_3_8, e_3_9, e_3_10, e_3_11, e_4_0, e_4_1, e_4_2, e_4_3, e_4_5, e_4_6, e_4_7, e_4_8, e_4_9, e_4_10, e_4_11, e_5_0, e_5_1, e_5_2, e_5_3, e_5_4, e_5_6, e_5_7, e_5_8, e_5_9, e_5_10, e_5_11, e_6_0, e_6_1, e_6_2, e_6_3, e_6_4, e_6_5, e_6_7, e_6_8, e_6_9, e_6_10, e_6_11, e_7_0, e_7_1, e_7_2, e_7_3, e_7_4, e_7_5, e_7_6, e_7_8, e_7_9, e_7_10, e_7_11, e_8_0, e_8_1, e_8_2, e_8_3, e_8_4, e_8_5, e_8_6, e_8_7, e_8_9, e_8_10, e_8_11, e_9_0, e_9_1, e_9_2, e_9_3, e_9_4, e_9_5, e_9_6, e_9_7, e_9_8, e_9_10, e_9_11, e_10_0, e_10_1, e_10_2, e_10_3, e_10_4, e_10_5, e_10_6, e_10_7, e_10_8, e_10_9, e_10_11, e_11_0, e_11_1, e_11_2, e_11_3, e_11_4, e_11_5, e_11_6, e_11_7, e_11_8, e_11_9, e_11_10, e_38_42, e_38_43, e_38_45, e_38_47, e_38_60, e_38_61, e_38_62, e_38_124, e_42_38, e_42_43, e_42_45, e_42_47, e_42_60, e_42_61, e_42_62, e_42_124, e_43_38, e_43_42, e_43_45, e_43_47, e_43_60, e_43_61, e_43_62, e_43_124, e_45_38, e_45_42, e_45_43, e_45_47, e_45_60, e_45_61, e_45_62, e_45_124, e_47_38, e_47_42, e_47_43, e_47_45, e_47_60, e_47_61, e_47_62, e_47_124, e_60_38, e_60_42, e_60_43, e_60_45, e_60_47, e_60_61, e_60_62, e_60_124, e_61_38, e_61_42, e_61_43, e_61_45, e_61_47, e_61_60, e_61_62, e_61_124, e_62_38, e_62_42, e_62_43, e_62_45, e_62_47, e_62_60, e_62_61, e_62_124, e_124_38, e_124_42, e_124_43, e_124_45, e_124_47, e_124_60, e_124_61, e_124_62, ↓reduceIte]
    rw [e]; decide +kernel
  · have e : tk_c t = -145 := by unfold tk_c; simp only [h, e_0_1, e_0_2, e_0_3, e_0_4, e_0_5, e_0_6, e_0_7, e_0_8, e_0_9, e_0_10, e_0_11, e_1_0, e_1_2, e_1_3, e_1_4, e_1_5, e_1_6, e_1_7, e_1_8, e_1_9, e_1_10, e_1_11, e_2_0, e_2_1, e_2_3, e_2_4, e_2_5, e_2_6, e_2_7, e_2_8, e_2_9, e_2_10, e_2_11, e_3_0, e_3_1, e_3_2, e_3_4, e_3_5, e_3_6, e_3_7, e_3_8, e_3_9, e_3_10, e_3_11, e_4_0, e_4_1, e_4_2, e_4_3, e_4_5, e_4_6, e_4_7, e_4_8, e_4_9, e_4_10, e_4_11, e_5_0, e_5_1, e_5_2, e_5_3, e_5_4, e_5_6, e_5_7, e_5_8, e_5_9, e_5_10, e_5_11, e_6_0, e_6_1, e_6_2, e_6_3, e_6_4, e_6_5, e_6_7, e_6_8, e_6_9, e_6_10, e_6_11, e_7_0, e_7_1, e_7_2, e_7_3, e_7_4, e_7_5, e_7_6, e_7_8, e_7_9, e_7_10, e_7_11, e_8_0, e_8_1, e_8_2, e_8_3, e_8_4, e_8_5, e_8_6, e_8_7, e_8_9, e_8_10, e_8_11, e_9_0, e_9_1, e_9_2, e_9_3, e_9_4, e_9_5, e_9_6, e_9_7, e_9_8, e_9_10, e_9_11, e_10_0, e_10_1, e_10_2, e_10_3, e_10_4, e_10_5, e_10_6, e_10_7, e_10_8, e_10_9, e_10_11, e_11_0, e_11_1, e_11_2, e_11_3, e_11_4, e_11_5, e_11_6, e_11_7, e_11_8, e_11_9, e_11_10, e_38_42, e_38_43, e_38_45, e_38_47, e_38_60, e_38_61, e_38_62, e_38_124, e_42_38, e_42_43, e_42_45, e_42_47, e_42_60, e_42_61, e_42_62, e_42_124, e_43_38, e_43_42, e_43_45, e_43_47, e_43_60, e_43_61, e_43_62, e_43_124, e_45_38, e_45_42, e_45_43, e_45_47, e_45_60, e_45_61, e_45_62, e_45_124, e_47_38, e_47_42, e_47_43, e_47_45, e_47_60, e_47_61, e_47_62, e_47_124, e_60_38, e_60_42, e_60_43, e_60_45, e_60_47, e_60_61, e_60_62, e_60_124, e_61_38, e_61_42, e_61_43, e_61_45, e_61_47, e_61_60, e_61_62, e_61_124, e_62_38, e_62_42, e_62_43, e_62_45, e_62_47, e_62_60, e_62_61, e_62_124, e_124_38, e_124_42, e_124_43, e_124_45, e_124_47, e_124_60, e_124_61, e_124_62, ↓reduceIte]
    rw [e]; decide +kernel
  · have e : tk_c t = -142 := by unfold tk_c; simp only [h, e_0_1, e_0_2, e_0_3, e_0_4, e_0_5, e_0_6, e_0_7, e_0_8, e_0_9, e_0_10, e_0_11, e_1_0, e_1_2, e_1_3, e_1_4, e_1_5, e_1_6, e_1_7, e_1_8, e_1_9, e_1_10, e_1_11, e_2_0, e_2_1, e_2_3, e_2_4, e_2_5, e_2_6, e_2_7, e_2_8, e_2_9, e_2_10, e_2_11, e_3_0, e_3_1, e_3_2, e_3_4, e_3_5, e_3_6, e_3_7, e_3_8, e_3_9, e_3_10, e_3_11, e_4_0, e_4_1, e_4_2, e_4_3, e_4_5, e_4_6, e_4_7, e_4_8, e_4_9, e_4_10, e_4_11, e_5_0, e_5_1, e_5_2, e_5_3, e_5_4, e_5_6, e_5_7, e_5_8, e_5_9, e_5_10, e_5_11, e_6_0, e_6_1, e_6_2, e_6_3, e_6_4, e_6_5, e_6_7, e_6_8, e_6_9, e_6_10, e_6_11, e_7_0, e_7_1, e_7_2, e_7_3, e_7_4, e_7_5, e_7_6, e_7_8, e_7_9, e_7_10, e_7_11, e_8_0, e_8_1, e_8_2, e_8_3, e_8_4, e_8_5, e_8_6, e_8_7, e_8_9, e_8_10, e_8_11, e_9_0, e_9_1, e_9_2, e_9_3, e_9_4, e_9_5, e_9_6, e_9_7, e_9_8, e_9_10, e_9_11, e_10_0, e_10_1, e_10_2, e_10_3, e_10_4, e_10_5, e_10_6, e_10_7, e_10_8, e_10_9, e_10_11, e_11_0, e_11_1, e_11_2, e_11_3, e_11_4, e_11_5, e_11_6, e_11_7, e_11_8, e_11_9, e_11_10, e_38_42, e_38_43, e_38_45, e_38_47, e_38_60, e_38_61, e_38_62, e_38_124, e_42_38, e_42_43, e_42_45, e_42_47, e_42_60, e_42_61, e_42_62, e_42_124, e_43_38, e_43_42, e_43_45, e_43_47, e_43_60, e_43_61, e_43_62, e_43_124, e_45_38, e_45_42, e_45_43, e_45_47, e_45_60, e_45_61, e_45_62, e_45_124, e_47_38, e_47_42, e_47_43, e_47_45, e_47_60, e_47_61, e_47_62, e_47_124, e_60_38, e_60_42, e_60_43, e_60_45, e_60_47, e_60_61, e_60_62, e_60_124, e_61_38, e_61_42, e_61_43, e_61_45, e_61_47, e_61_60, e_61_62, e_61_124, e_62_38, e_62_42, e_62_43, e_62_45, e_62_47, e_62_60, e_62_61, e_62_124, e_124_38, e_124_42, e_124_43, e_124_45, e_124_47, e_124_60, e_124_61, e_124_62, ↓reduceIte]
    rw [e]; decide +kernel
  · have e : tk_c t = -147 := by unfold tk_c; simp only [h, e_0_1, e_0_2, e_0_3, e_0_4, e_0_5, e_0_6, e_0_7, e_0_8, e_0_9, e_0_10, e_0_11, e_1_0, e_1_2, e_1_3, e_1_4, e_1_5, e_1_6, e_1_7, e_1_8, e_1_9, e_1_10, e_1_11, e_2_0, e_2_1, e_2_3, e_2_4, e_2_5, e_2_6, e_2_7, e_2_8, e_2_9, e_2_10, e_2_11, e_3_0, e_3_1, e_3_2, e_3_4, e_3_5, e_3_6, e_3_7, e_3_8, e_3_9, e_3_10, e_3_11, e_4_0, e_4_1, e_4_2, e_4_3, e_4_5, e_4_6, e_4_7, e_4_8, e_4_9, e_4_10, e_4_11, e_5_0, e_5_1, e_5_2, e_5_3, e_5_4, e_5_6, e_5_7, e_5_8, e_5_9, e_5_10, e_5_11, e_6_0, e_6_1, e_6_2, e_6_3, e_6_4, e_6_5, e_6_7, e_6_8, e_6_9, e_6_10, e_6_11, e_7_0, e_7_1, e_7_2, e_7_3, e_7_4, e_7_5, e_7_6, e_7_8, e_7_9, e_7_10, e_7_11, e_8_0, e_8_1, e_8_2, e_8_3, e_8_4, e_8_5, e_8_6, e_8_7, e_8_9, e_8_10, e_8_11, e_9_0, e_9_1, e_9_2, e_9_3, e_9_4, e_9_5, e_9_6, e_9_7, e_9_8, e_9_10, e_9_11, e_10_0, e_10_1, e_10_2, e_10_3, e_10_4, e_10_5, e_10_6, e_10_7, e_10_8, e_10_9, e_10_11, e_11_0, e_11_1, e_11_2, e_11_3, e_11_4, e_11_5, e_11_6, e_11_7, e_11_8, e_11_9, e_11_10, e_38_42, e_38_43, e_38_45, e_38_47, e_38_60, e_38_61, e_38_62, e_38_124, e_42_38, e_42_43, e_42_45, e_42_47, e_42_60, e_42_61, e_42_62, e_42_124, e_43_38, e_43_42, e_43_45, e_43_47, e_43_60, e_43_61, e_43_62, e_43_124, e_45_38, e_45_42, e_45_43, e_45_47, e_45_60, e_45_61, e_45_62, e_45_124, e_47_38, e_47_42, e_47_43, e_47_45, e_47_60, e_47_61, e_47_62, e_47_124, e_60_38, e_60_42, e_60_43, e_60_45, e_60_47, e_60_61, e_60_62, e_60_124, e_61_38, e_61_42, e_61_43, e_61_45, e_61_47, e_61_60, e_61_62, e_61_124, e_62_38, e_62_42, e_62_43, e_62_45, e_62_47, e_62_60, e_62_61, e_62_124, e_124_38, e_124_42, e_124_43, e_124_45, e_124_47, e_124_60, e_124_61, e_124_62, ↓reduceIte]
    rw [e]; decide +kernel
  · have e : tk_c t = -161 := by unfold tk_c; simp only [h, e_0_1, e_0_2, e_0_3, e_0_4, e_0_5, e_0_6, e_0_7, e_0_8, e_0_9, e_0_10, e_0_11, e_1_0, e_1_2, e_1_3, e_1_4, e_1_5, e_1_6, e_1_7, e_1_8, e_1_9, e_1_10, e_1_11, e_2_0, e_2_1, e_2_3, e_2_4, e_2_5, e_2_6, e_2_7, e_2_8, e_2_9, e_2_10, e_2_11, e_3_0, e_3_1, e_3_2, e_3_4, e_3_5, e_3_6, e_3_7, e_3_8, e_3_9, e_3_10, e_3_11, e_4_0, e_4_1, e_4_2, e_4_3, e_4_5, e_4_6, e_4_7, e_4_8, e_4_9, e_4_10, e_4_11, e_5_0, e_5_1, e_5_2, e_5_3, e_5_4, e_5_6, e_5_7, e_5_8, e_5_9, e_5_10, e_5_11, e_6_0, e_6_1, e_6_2, e_6_3, e_6_4, e_6_5, e_6_7, e_6_8, e_6_9, e_6_10, e_6_11, e_7_0, e_7_1, e_7_2, e_7_3, e_7_4, e_7_5, e_7_6, e_7_8, e_7_9, e_7_10, e_7_11, e_8_0, e_8_1, e_8_2, e_8_3, e_8_4, e_8_5, e_8_6, e_8_7, e_8_9, e_8_10, e_8_11, e_9_0, e_9_1, e_9_2, e_9_3, e_9_4, e_9_5, e_9_6, e_9_7, e_9_8, e_9_10, e_9_11, e_10_0, e_10_1, e_10_2, e_10_3, e_10_4, e_10_5, e_10_6, e_10_7, e_10_8, e_10_9, e_10_11, e_11_0, e_11_1, e_11_2, e_11_3, e_11_4, e_11_5, e_11_6, e_11_7, e_11_8, e_11_9, e_11_10, e_38_42, e_38_43, e_38_45, e_38_47, e_38_60, e_38_61, e_38_62, e_38_124, e_42_38, e_42_43, e_42_45, e_42_47, e_42_60, e_42_61, e_42_62, e_42_124, e_43_38, e_43_42, e_43_45, e_43_47, e_43_60, e_43_61, e_43_62, e_43_124, e_45_38, e_45_42, e_45_43, e_45_47, e_45_60, e_45_61, e_45_62, e_45_124, e_47_38, e_47_42, e_47_43, e_47_45, e_47_60, e_47_61, e_47_62, e_47_124, e_60_38, e_60_42, e_60_43, e_60_45, e_60_47, e_60_61, e_60_62, e_60_124, e_61_38, e_61_42, e_61_43, e_61_45, e_61_47, e_61_60, e_61_62, e_61_124, e_62_38, e_62_42, e_62_43, e_62_45, e_62_47, e_62_60, e_62_61, e_62_124, e_124_38, e_124_42, e_124_43, e_124_45, e_124_47, e_124_60, e_124_61, e_124_62, ↓reduceIte]
    rw [e]; decide +kernel
  · have e : tk_c t = -160 := by unfold tk_c; simp only [h, e_0_1, e_0_2, e_0_3, e_0_4, e_0_5, e_0_6, e_0_7, e_0_8, e_0_9, e_0_10, e_0_11, e_1_0, e_1_2, e_1_3, e_1_4, e_1_5, e_1_6, e_1_7, e_1_8, e_1_9, e_1_10, e_1_11, e_2_0, e_2_1, e_2_3, e_2_4, e_2_5, e_2_6, e_2_7, e_2_8, e_2_9, e_2_10, e_2_11, e_3_0, e_3_1, e_3_2, e_3_4, e_3_5, e_3_6, e_3_7, e_3_8, e_3_9, e_3_10, e_3_11, e_4_0, e_4_1, e_4_2, e_4_3, e_4_5, e_4_6, e_4_7, e_4_8, e_4_9, e_4_10, e_4_11, e_5_0, e_5_1, e_5_2, e_5_3, e_5_4, e_5_6, e_5_7, e_5_8, e_5_9, e_5_10, e_5_11, e_6_0, e_6_1, e_6_2, e_6_3, e_6_4, e_6_5, e_6_7, e_6_8, e_6_9, e_6_10, e_6_11, e_7_0, e_7_1, e_7_2, e_7_3, e_7_4, e_7_5, e_7_6, e_7_8, e_7_9, e_7_10, e_7_11, e_8_0, e_8_1, e_8_2, e_8_3, e_8_4, e_8_5, e_8_6, e_8_7, e_8_9, e_8_10, e_8_11, e_9_0, e_9_1, e_9_2, e_9_3, e_9_4, e_9_5, e_9_6, e_9_7, e_9_8, e_9_10, e_9_11, e_10_0, e_10_1, e_10_2, e_10_3, e_10_4, e_10_5, e_10_6, e_10_7, e_10_8, e_10_9, e_10_11, e_11_0, e_11_1, e_11_2, e_11_3, e_11_4, e_11_5, e_11_6, e_11_7, e_11_8, e_11_9, e_11_10, e_38_42, e_38_43, e_38_45, e_38_47, e_38_60, e_38_61, e_38_62, e_38_124, e_42_38, e_42_43, e_42_45, e_42_47, e_42_60, e_42_61, e_42_62, e_42_124, e_43_38, e_43_42, e_43_45, e_43_47, e_43_60, e_43_61, e_43_62, e_43_124, e_45_38, e_45_42, e_45_43, e_45_47, e_45_60, e_45_61, e_45_62, e_45_124, e_47_38, e_47_42, e_47_43, e_47_45, e_47_60, e_47_61, e_47_62, e_47_124, e_60_38, e_60_42, e_60_43, e_60_45, e_60_47, e_60_61, e_60_62, e_60_124, e_61_38, e_61_42, e_61_43, e_61_45, e_61_47, e_61_60, e_61_62, e_61_124, e_62_38, e_62_42, e_62_43, e_62_45, e_62_47, e_62_60, e_62_61, e_62_124, e_124_38, e_124_42, e_124_43, e_124_45, e_124_47, e_124_60, e_124_61, e_124_62, ↓reduceIte]
    rw [e]; decide +kernel
  · have e : tk_c t = -162 := by unfold tk_c; simp only [h, e_0_1, e_0_2, e_0_3, e_0_4, e_0_5, e_0_6, e_0_7, e_0_8, e_0_9, e_0_10, e_0_11, e_1_0, e_1_2, e_1_3, e_1_4, e_1_5, e_1_6, e_1_7, e_1_8, e_1_9, e_1_10, e_1_11, e_2_0, e_2_1, e_2_3, e_2_4, e_2_5, e_2_6, e_2_7, e_2_8, e_2_9, e_2_10, e_2_11, e_3_0, e_3_1, e_3_2, e_3_4, e_3_5, e_3_6, e_3_7, e_3_8, e_3_9, e_3_10, e_3_11, e_4_0, e_4_1, e_4_2, e_4_3, e_4_5, e_4_6, e_4_7, e_4_8, e_4_9, e_4_10, e_4_11, e_5_0, e_5_1, e_5_2, e_5_3, e_5_4, e_5_6, e_5_7, e_5_8, e_5_9, e_5_10, e_5_11, e_6_0, e_6_1, e_6_2, e_6_3, e_6_4, e_6_5, e_6_7, e_6_8, e_6_9, e_6_10, e_6_11, e_7_0, e_7_1, e_7_2, e_7_3, e_7_4, e_7_5, e_7_6, e_7_8, e_7_9, e_7_10, e_7_11, e_8_0, e_8_1, e_8_2, e_8_3, e_8_4, e_8_5, e_8_6, e_8_7, e_8_9, e_8_10, e_8_11, e_9_0, e_9_1, e_9_2, e_9_3, e_9_4, e_9_5, e_9_6, e_9_7, e_9_8, e_9_10, e_9_11, e_10_0, e_10_1, e_10_2, e_10_3, e_10_4, e_10_5, e_10_6, e_10_7, e_10_8, e_10_9, e_10_11, e_11_0, e_11_1, e_11_2, e_11_3, e_11_4, e_11_5, e_11_6, e_11_7, e_11_8, e_11_9, e_11_10, e_38_42, e_38_43, e_38_45, e_38_47, e_38_60, e_38_61, e_38_62, e_38_124, e_42_38, e_42_43, e_42_45, e_42_47, e_42_60, e_42_61, e_42_62, e_42_124, e_43_38, e_43_42, e_43_45, e_43_47, e_43_60, e_43_61, e_43_62, e_43_124, e_45_38, e_45_42, e_45_43, e_45_47, e_45_60, e_45_61, e_45_62, e_45_124, e_47_38, e_47_42, e_47_43, e_47_45, e_47_60, e_47_61, e_47_62, e_47_124, e_60_38, e_60_42, e_60_43, e_60_45, e_60_47, e_60_61, e_60_62, e_60_124, e_61_38, e_61_42, e_61_43, e_61_45, e_61_47, e_61_60, e_61_62, e_61_124, e_62_38, e_62_42, e_62_43, e_62_45, e_62_47, e_62_60, e_62_61, e_62_124, e_124_38, e_124_42, e_124_43, e_124_45, e_124_47, e_124_60, e_124_61, e_124_62, ↓reduceIte]
    rw [e]; decide +kernel
  · have e : tk_c t = -138 := by unfold tk_c; simp only [h, e_0_1, e_0_2, e_0_3, e_0_4, e_0_5, e_0_6, e_0_7, e_0_8, e_0_9, e_0_10, e_0_11, e_1_0, e_1_2, e_1_3, e_1_4, e_1_5, e_1_6, e_1_7, e_1_8, e_1_9, e_1_10, e_1_11, e_2_0, e_2_1, e_2_3, e_2_4, e_2_5, e_2_6, e_2_7, e_2_8, e_2_9, e_2_10, e_2_11, e_3_0, e_3_1, e_3_2, e_3_4, e_3_5, e_3_6, e_3_7, e_3_8, e_3_9, e_3_10, e_3_11, e_4_0, e_4_1, e_4_2, e_4_3, e_4_5, e_4_6, e_4_7, e_4_8, e_4_9, e_4_10, e_4_11, e_5_0, e_5_1, e_5_2, e_5_3, e_5_4, e_5_6, e_5_7, e_5_8, e_5_9, e_5_10, e_5_11, e_6_0, e_6_1, e_6_2, e_6_3, e_6_4, e_6_5, e_6_7, e_6_8, e_6_9, e_6_10, e_6_11, e_7_0, e_7_1, e_7_2, e_7_3, e_7_4, e_7_5, e_7_6, e_7_8, e_7_9, e_7_10, e_7_11, e_8_0, e_8_1, e_8_2, e_8_3, e_8_4, e_8_5, e_8_6, e_8_7, e_8_9, e_8_10, e_8_11, e_9_0, e_9_1, e_9_2, e_9_3, e_9_4, e_9_5, e_9_6, e_9_7, e_9_8, e_9_10, e_9_11, e_10_0, e_10_1, e_10_2, e_10_3, e_10_4, e_10_5, e_10_6, e_10_7, e_10_8, e_10_9, e_10_11, e_11_0, e_11_1, e_11_2, e_11_3, e_11_4, e_11_5, e_11_6, e_11_7, e_11_8, e_11_9, e_11_10, e_38_42, e_38_43, e_38_45, e_38_47, e_38_60, e_38_61, e_38_62, e_38_124, e_42_38, e_42_43, e_42_45, e_42_47, e_42_60, e_42_61, e_42_62, e_42_124, e_43_38, e_43_42, e_43_45, e_43_47, e_43_60, e_43_61, e_43_62, e_43_124, e_45_38, e_45_42, e_45_43, e_45_47, e_45_60, e_45_61, e_45_62, e_45_124, e_47_38, e_47_42, e_47_43, e_47_45, e_47_60, e_47_61, e_47_62, e_47_124, e_60_38, e_60_42, e_60_43, e_60_45, e_60_47, e_60_61, e_60_62, e_60_124, e_61_38, e_61_42, e_61_43, e_61_45, e_61_47, e_61_60, e_61_62, e_61_124, e_62_38, e_62_42, e_62_43, e_62_45, e_62_47, e_62_60, e_62_61, e_62_124, e_124_38, e_124_42, e_124_43, e_124_45, e_124_47, e_124_60, e_124_61, e_124_62, ↓reduceIte]
    rw [e]; decide +kernel
  · have e : tk_c t = -224 := by unfold tk_c; simp only [h, e_0_1, e_0_2, e_0_3, e_0_4, e_0_5, e_0_6, e_0_7, e_0_8, e_0_9, e_0_10, e_0_11, e_1_0, e_1_2, e_1_3, e_1_4, e_1_5, e_1_6, e_1_7, e_1_8, e_1_9, e_1_10, e_1_11, e_2_0, e_2_1, e_2_3, e_2_4, e_2_5, e_2_6, e_2_7, e_2_8, e_2_9, e_2_10, e_2_11, e_3_0, e_3_1, e_3_2, e_3_4, e_3_5, e_3_6, e_3_7, e_3_8, e_3_9, e_3_10, e_3_11, e_4_0, e_4_1, e_4_2, e_4_3, e_4_5, e_4_6, e_4_7, e_4_8, e_4_9, e_4_10, e_4_11, e_5_0, e_5_1, e_5_2, e_5_3, e_5_4, e_5_6, e_5_7, e_5_8, e_5_9, e_5_10, e_5_11, e_6_0, e_6_1, e_6_2, e_6_3, e_6_4, e_6_5, e_6_7, e_6_8, e_6_9, e_6_10, e_6_11, e_7_0, e_7_1, e_7_2, e_7_3, e_7_4, e_7_5, e_7_6, e_7_8, e_7_9, e_7_10, e_7_11, e_8_0, e_8_1, e_8_2, e_8_3, e_8_4, e_8_5, e_8_6, e_8_7, e_8_9, e_8_10, e_8_11, e_9_0, e_9_1, e_9_2, e_9_3, e_9_4, e_9_5, e_9_6, e_9_7, e_9_8, e_9_10, e_9_11, e_10_0, e_10_1, e_10_2, e_10_3, e_10_4, e_10_5, e_10_6, e_10_7, e_10_8, e_10_9, e_10_11, e_11_0, e_11_1, e_11_2, e_11_3, e_11_4, e_11_5, e_11_6, e_11_7, e_11_8, e_11_9, e_11_10, e_38_42, e_38_43, e_38_45, e_38_47, e_38_60, e_38_61, e_38_62, e_38_124, e_42_38, e_42_43, e_42_45, e_42_47, e_42_60, e_42_61, e_42_62, e_42_124, e_43_38, e_43_42, e_43_45, e_43_47, e_43_60, e_43_61, e_43_62, e_43_124, e_45_38, e_45_42, e_45_43, e_45_47, e_45_60, e_45_61, e_45_62, e_45_124, e_47_38, e_47_42, e_47_43, e_47_45, e_47_60, e_47_61, e_47_62, e_47_124, e_60_38, e_60_42, e_60_43, e_60_45, e_60_47, e_60_61, e_60_62, e_60_124, e_61_38, e_61_42, e_61_43, e_61_45, e_61_47, e_61_60, e_61_62, e_61_124, e_62_38, e_62_42, e_62_43, e_62_45, e_62_47, e_62_60, e_62_61, e_62_124, e_124_38, e_124_42, e_124_43, e_124_45, e_124_47, e_124_60, e_124_61, e_124_62, ↓reduceIte]
    rw [e]; decide +kernel
/-- a token of the class's codes -/
theorem cl_0 {b e i : Nat} {σ : Sg} {C A B : List Int32} {x : Int32} {lt : Nat → Int32} {s : List Int32} (h : Lz_ σ b e C lt s) (eC : C = A ++ x :: B) (ei : A.length = i) (hC : C.length ≤ 720) : sg_R σ b 0 = some (b + 1) ∧ sg_L σ (b + 1) = C.length ∧ sg_I σ (b + 1) i = x ∧ Int32.ofNat i < Int32.ofNat C.length ∧ ¬ (Int32.ofNat i < 0 ∨ C.length ≤ i) ∧ (Int32.ofNat i).toNatClampNeg = i ∧ sg_L σ e = 6 ∧ (∀ k, k < 6 → sg_I σ e k = lt k) ∧ i < 720 := by
  obtain ⟨⟨q1, q2, q3, q4, q5, q6, q7, q8, q9⟩, -⟩ := id h
  have hi : i < C.length := by rw [eC, List.length_append, List.length_cons]; omega
  refine ⟨q1, q3, by rw [← ei]; exact sl_at q5 eC, (o_lt (by omega) (by omega)).mpr hi, ?_, o_tn (by omega), q6, q7, by omega⟩
  have := o_in (k := i) (L := C.length) hi (by omega)
  rw [o_tn (by omega)] at this
  exact this
theorem cl_a {N n b e i : Nat} {σ : Sg} {C A B : List Int32} {x : Int32} {lt : Nat → Int32} {s : List Int32} (h : Lz_ σ b e C lt s) (eC : C = A ++ x :: B) (ei : A.length = i) (hC : C.length ≤ 720) (hx : 0 ≤ x.toInt) (hl : s.length < 62) : ∃ τ, f_X2_worth_L7 N b (n + 1) (some e) (Int32.ofNat i) σ = f_X2_worth_L7 N b n (some e) (Int32.ofNat (i + 1)) τ ∧ Lz_ τ b e C lt (x :: s) ∧ KL b σ τ := by
  obtain ⟨q1, q3, ec, p1, p2, p3, q6, q7, hi⟩ := cl_0 h eC ei hC
  obtain ⟨τ, t1, t2, t3⟩ := pi_v (v := x) h (by omega)
  refine ⟨τ, ?_, t2, t3⟩
  obtain ⟨k1, k2, k3, k4⟩ := nn_c hx
  rw [f_X2_worth_L7]
  simp only [q1, Option.bind_some, q3, p3]
  rw [if_pos p1, if_neg p2, ec, if_neg k1, if_neg k2, if_neg k3, if_neg k4, t1]
  simp only [Option.bind_some, f_X2_worth_B176]
  rw [o_s]
theorem cl_b {N n b e i m : Nat} {σ : Sg} {C A B : List Int32} {lt : Nat → Int32} {s : List Int32} (h : Lz_ σ b e C lt s) (eC : C = A ++ (-1 - Int32.ofNat m) :: B) (ei : A.length = i) (hC : C.length ≤ 720) (hm : m ≤ 5) (hl : s.length < 62) : ∃ τ, f_X2_worth_L7 N b (n + 1) (some e) (Int32.ofNat i) σ = f_X2_worth_L7 N b n (some e) (Int32.ofNat (i + 1)) τ ∧ Lz_ τ b e C lt (lt m :: s) ∧ KL b σ τ := by
  obtain ⟨q1, q3, ec, p1, p2, p3, q6, q7, hi⟩ := cl_0 h eC ei hC
  obtain ⟨τ, t1, t2, t3⟩ := pi_v (v := lt m) h (by omega)
  refine ⟨τ, ?_, t2, t3⟩
  obtain ⟨k1, k2, k3, k4, k5⟩ := lt_c m hm
  rw [f_X2_worth_L7]
  simp only [q1, Option.bind_some, q3, p3]
  rw [if_pos p1, if_neg p2, ec, if_neg k1, if_neg k2, if_neg k3, if_pos k4, k5]
  simp only [q6]
  rw [if_pos (by rw [o_lt (by omega) (by omega)]; omega), if_neg (o_in (by omega) (by omega)), o_tn (by omega), q7 _ (by omega), t1]
  simp only [Option.bind_some, f_X2_worth_B176]
  rw [o_s]
theorem cl_c {N n b e i : Nat} {σ : Sg} {C A B : List Int32} {a : Int32} {lt : Nat → Int32} {r : List Int32} (h : Lz_ σ b e C lt (a :: r)) (eC : C = A ++ (-10) :: B) (ei : A.length = i) (hC : C.length ≤ 720) (hlen : r.length + 1 ≤ 62) : ∃ τ, f_X2_worth_L7 N b (n + 1) (some e) (Int32.ofNat i) σ = f_X2_worth_L7 N b n (some e) (Int32.ofNat (i + 1)) τ ∧ Lz_ τ b e C lt ((1 - a) :: r) ∧ KL b σ τ := by
  obtain ⟨q1, q3, ec, p1, p2, p3, q6, q7, hi⟩ := cl_0 h eC ei hC
  obtain ⟨υ, u1, u2, u3⟩ := pu_v h (by omega)
  obtain ⟨τ, t1, t2, t3⟩ := pi_v (v := 1 - a) u2 (by omega)
  refine ⟨τ, ?_, t2, u3.tr t3⟩
  rw [f_X2_worth_L7]
  simp only [q1, Option.bind_some, q3, p3]
  rw [if_pos p1, if_neg p2, ec, if_neg (by decide), if_neg (by decide), if_pos rfl, u1]
  simp only [Option.bind_some]
  rw [t1]
  simp only [Option.bind_some, f_X2_worth_B176]
  rw [o_s]
theorem cl_d {N n b e i : Nat} {σ : Sg} {C A B : List Int32} {x y a d : Int32} {lt : Nat → Int32} {r : List Int32} (h : Lz_ σ b e C lt (d :: a :: r)) (eC : C = A ++ x :: B) (ei : A.length = i) (hC : C.length ≤ 720) (hlen : r.length + 2 ≤ 62) (hx : ¬ x = -12 ∧ ¬ x = -11 ∧ ¬ x = -10 ∧ x < 0 ∧ ¬ (-1 - x < Int32.ofNat 6)) (jc : ((f_X2_joined (-100 - x) a d).bind fun p => f_X11_within p (-1000000) 1000000) = some y) : ∃ τ, f_X2_worth_L7 N b (n + 1) (some e) (Int32.ofNat i) σ = f_X2_worth_L7 N b n (some e) (Int32.ofNat (i + 1)) τ ∧ Lz_ τ b e C lt (y :: r) ∧ KL b σ τ := by
  obtain ⟨q1, q3, ec, p1, p2, p3, q6, q7, hi⟩ := cl_0 h eC ei hC
  obtain ⟨υ, u1, u2, u3⟩ := pu_v h (by rw [List.length_cons]; omega)
  obtain ⟨ω, w1, w2, w3⟩ := pu_v u2 (by omega)
  obtain ⟨τ, t1, t2, t3⟩ := pi_v (v := y) w2 (by omega)
  refine ⟨τ, ?_, t2, (u3.tr w3).tr t3⟩
  obtain ⟨k1, k2, k3, k4, k5⟩ := hx
  obtain ⟨p12, j1, j2⟩ : ∃ p, f_X2_joined (-100 - x) a d = some p ∧ f_X11_within p (-1000000) 1000000 = some y := by
    cases hj : f_X2_joined (-100 - x) a d with
    | none => rw [hj] at jc; cases jc
    | some p => rw [hj] at jc; exact ⟨p, rfl, jc⟩
  rw [f_X2_worth_L7]
  simp only [q1, Option.bind_some, q3, p3]
  rw [if_pos p1, if_neg p2, ec, if_neg k1, if_neg k2, if_neg k3, if_pos k4]
  simp only [q6]
  rw [if_neg k5, u1]
  simp only [Option.bind_some]
  rw [w1]
  simp only [Option.bind_some]
  rw [j1]
  simp only [Option.bind_some]
  rw [j2]
  simp only [Option.bind_some]
  rw [t1]
  simp only [Option.bind_some, f_X2_worth_B176]
  rw [o_s]
theorem cl_1 {N n b e i : Nat} {σ : Sg} {C A B : List Int32} {t : Tk} {lt : Nat → Int32} {s : List Int32} {ks ks' : List Bool} (h : Lz_ σ b e C lt s) (eC : C = A ++ tk_c t :: B) (ei : A.length = i) (hC : C.length ≤ 720) (hk : ck_1 t ks = some ks') (hs : okv ks s) (hl : ∀ k, k < 6 → -1000000 ≤ (lt k).toInt ∧ (lt k).toInt ≤ 1000000) (h64 : s.length ≤ 62) : ∃ τ, f_X2_worth_L7 N b (n + 1) (some e) (Int32.ofNat i) σ = f_X2_worth_L7 N b n (some e) (Int32.ofNat (i + 1)) τ ∧ Lz_ τ b e C lt (ev_1 lt t s) ∧ KL b σ τ := by
  obtain ⟨hc, -⟩ := ck_c hk hs hl
  rcases hc with ⟨c0, c1, c2, c3, c4⟩ | ⟨c0, c1, c2, c3, c4⟩ | ⟨c0, a, r, c1, c2, c3⟩ | ⟨c0, a, d, r, c1, c2, c3, c4, c5⟩
  · rw [tk_n c0] at eC
    rw [c4]
    exact cl_a h eC ei hC c1 c3
  · obtain ⟨m, m1, m2⟩ := x_ob (B := 5) ⟨c1, c2⟩
    rw [tk_l c0, m2] at eC
    rw [c4, m2, o_tn (by omega)]
    exact cl_b h eC ei hC m1 c3
  · subst c1
    rw [tk_9 c0] at eC
    rw [c3]
    exact cl_c h eC ei hC (by rw [List.length_cons] at h64; exact h64)
  · subst c1
    rw [c5]
    exact cl_d h eC ei hC (by rw [List.length_cons, List.length_cons] at h64; exact h64) (s2_c c0) (jc_v (v := t.2) c0 c2 c3 c4)
theorem ck_len {t : Tk} {ks ks' : List Bool} (h : ck_1 t ks = some ks') (hl : ks.length ≤ 62) : ks'.length ≤ 62 := by
  unfold ck_1 at h
  split at h
  · split at h
    · rename_i q
      cases h
      simp
      omega
    · cases h
  · split at h
    · split at h
      · cases h; exact hl
      · cases h
    · split at h
      · split at h
        · cases h
          simp at hl ⊢
          omega
        · cases h
      · split at h
        · split at h
          · cases h
            simp at hl ⊢
            omega
          · cases h
        · split at h
          · split at h
            · cases h
              simp at hl ⊢
              omega
            · cases h
          · cases h
theorem cl_l {N b e : Nat} {C : List Int32} {lt : Nat → Int32} (hC : C.length ≤ 720) (hl : ∀ k, k < 6 → -1000000 ≤ (lt k).toInt ∧ (lt k).toInt ≤ 1000000) : ∀ (l : List Tk) (n : Nat) (σ : Sg) (A B : List Int32) (s : List Int32) (ks ks' : List Bool), Lz_ σ b e C lt s → C = A ++ (l.map tk_c ++ B) → ck_ l ks = some ks' → okv ks s → ks.length ≤ 62 → ∃ τ, f_X2_worth_L7 N b (n + l.length) (some e) (Int32.ofNat A.length) σ = f_X2_worth_L7 N b n (some e) (Int32.ofNat (A.length + l.length)) τ ∧ Lz_ τ b e C lt (ev_ lt l s) ∧ KL b σ τ ∧ okv ks' (ev_ lt l s) := by
  intro l
  induction l with
  | nil =>
    intro n σ A B s ks ks' h eC hk hs h62
    cases hk
    exact ⟨σ, rfl, h, KL.rf, hs⟩
  | cons t l ih =>
    intro n σ A B s ks ks' h eC hk hs h62
    have hk : (ck_1 t ks).bind (ck_ l) = some ks' := hk
    cases h1 : ck_1 t ks with
    | none => rw [h1] at hk; cases hk
    | some k1 =>
      rw [h1] at hk
      have hlen := okv_len hs
      obtain ⟨υ, u1, u2, u3⟩ := cl_1 (N := N) (n := n + l.length) h (A := A) (B := l.map tk_c ++ B) eC rfl hC h1 hs hl (by omega)
      have ok1 := (ck_c h1 hs hl).2
      have h62' : k1.length ≤ 62 := ck_len h1 h62
      obtain ⟨τ, t1, t2, t3, t4⟩ := ih n υ (A ++ [tk_c t]) B _ k1 ks' u2 (by rw [eC]; simp) hk ok1 h62'
      refine ⟨τ, ?_, t2, u3.tr t3, t4⟩
      have e1 : (A ++ [tk_c t]).length = A.length + 1 := by simp
      rw [e1] at t1
      have e2 : n + (t :: l).length = n + l.length + 1 := by simp; omega
      have e3 : A.length + (t :: l).length = A.length + 1 + l.length := by simp; omega
      rw [e2, e3, u1, t1]
/-! the reference's machine -/
def KT (σ τ : Sg) : Prop := kp_ σ τ ∧ ∀ a, a ≠ 354 → sg_I τ a = sg_I σ a
theorem KT.rf {σ : Sg} : KT σ σ := ⟨kp_.rf, fun _ _ => rfl⟩
theorem KT.tr {σ τ υ : Sg} (h : KT σ τ) (k : KT τ υ) : KT σ υ := ⟨h.1.tr k.1, fun a h1 => (k.2 a h1).trans (h.2 a h1)⟩
theorem KT.put {σ : Sg} {j : Nat} {v : Int32} : KT σ (put_I σ 354 j v) := ⟨kp_.put, fun _ h => gI_a h⟩
/-- a token of the reference's codes -/
theorem rl_1 {N n i o z : Nat} {v : Int32} {ρ : Sg} {t : Tk} {lt : Nat → Int32} {s : List Int32} {ks ks' : List Bool} (d : RF (sg_R ρ) (sg_L ρ)) (hi : i < 5) (ho : o < z) (hz : z ≤ 520) (ez : v = Int32.ofNat z) (e1 : sg_I ρ 346 (520 * i + o) = t.1) (e2 : sg_I ρ 347 (520 * i + o) = t.2) (el : ∀ k, k < 6 → sg_I ρ 353 k = lt k) (S : sk_ (sg_I ρ 354) s) (hk : ck_1 t ks = some ks') (hs : okv ks s) (hl : ∀ k, k < 6 → -1000000 ≤ (lt k).toInt ∧ (lt k).toInt ≤ 1000000) (h64 : s.length ≤ 62) : ∃ τ, f_X12_workOut_L12 N 344 (n + 1) (Int32.ofNat i) v (Int32.ofNat s.length) (Int32.ofNat (520 * i + o)) ρ = f_X12_workOut_L12 N 344 n (Int32.ofNat i) v (Int32.ofNat (ev_1 lt t s).length) (Int32.ofNat (520 * i + (o + 1))) τ ∧ KT ρ τ ∧ sk_ (sg_I τ 354) (ev_1 lt t s) := by
  subst ez
  have g1 : ¬ (Int32.ofNat (520 * i + o) < 0 ∨ 2600 ≤ (Int32.ofNat (520 * i + o)).toNatClampNeg) := o_in (by omega) (by omega)
  have g2 : (Int32.ofNat (520 * i + o)).toNatClampNeg = 520 * i + o := o_tn (by omega)
  have h1 : ¬ (Int32.ofNat (520 * i + o) < 0 ∨ 2600 ≤ 520 * i + o) := by rw [g2] at g1; exact g1
  have g3 : Int32.ofNat (520 * i + o) < 520 * Int32.ofNat i + Int32.ofNat z := by
    rw [l_520, o_mul, o_add, o_lt (by omega) (by omega)]
    omega
  have g4 : Int32.ofNat (520 * i + o) + 1 = Int32.ofNat (520 * i + (o + 1)) := by rw [o_s]; rfl
  obtain ⟨hc, -⟩ := ck_c hk hs hl
  rcases hc with ⟨c0, c1, c2, c3, c4⟩ | ⟨c0, c1, c2, c3, c4⟩ | ⟨c0, a, r, c1, c2, c3⟩ | ⟨c0, a, b, r, c1, c2, c3, c4, c5⟩
  · refine ⟨put_I ρ 354 s.length t.2, ?_, KT.put, ?_⟩
    · rw [f_X12_workOut_L12, if_pos g3]
      simp only [d, Option.bind_some]
      rw [if_neg g1, g2, e1, if_pos c0]
      unfold f_X12_workOut_B45 f_X12_workOut_B83 f_X12_workOut_B165
      simp only [d, Option.bind_some]
      rw [if_neg g1, g2, e1, if_pos c0, if_neg h1, e2, if_neg (o_in (by omega) (by omega)), o_tn (by omega), o_s, g4, c4]
      rfl
    · rw [c4]
      exact sk_cons S gI_e (fun i hi => gI_n (by omega))
  · have ht : t.2.toNatClampNeg < 6 := by rw [i_tn]; omega
    refine ⟨put_I ρ 354 s.length (lt t.2.toNatClampNeg), ?_, KT.put, ?_⟩
    · rw [f_X12_workOut_L12, if_pos g3]
      simp only [d, Option.bind_some]
      rw [if_neg g1, g2, e1, if_neg (by rw [c0]; decide), if_neg h1, if_pos c0]
      unfold f_X12_workOut_B45 f_X12_workOut_B83 f_X12_workOut_B165
      simp only [d, Option.bind_some]
      rw [if_neg g1, g2, e1, if_neg (by rw [c0]; decide), if_neg h1, e2, if_neg (x_in c1 (by omega)), el _ ht, if_neg (o_in (by omega) (by omega)), o_tn (by omega), o_s, g4, c4]
      rfl
    · rw [c4]
      exact sk_cons S gI_e (fun i hi => gI_n (by omega))
  · subst c1
    have hlen : r.length + 1 ≤ 62 := by simpa using h64
    refine ⟨put_I ρ 354 r.length (1 - a), ?_, KT.put, ?_⟩
    · rw [f_X12_workOut_L12, if_pos g3]
      simp only [d, Option.bind_some]
      rw [if_neg g1, g2, e1, if_neg (by rw [c0]; decide), if_neg h1, if_neg (by rw [c0]; decide), if_neg h1, if_pos c0]
      have es : Int32.ofNat (a :: r).length - 1 = Int32.ofNat r.length := by
        rw [List.length_cons, l_1, o_sub (by omega)]
        rfl
      rw [es, if_neg (o_in (by omega) (by omega)), if_neg (o_in (by omega) (by omega)), o_tn (by omega), sk_top S]
      unfold f_X12_workOut_B165
      rw [g4, c3]
      rfl
    · rw [c3]
      exact sk_cons (sk_tl S) gI_e (fun i hi => gI_n (by omega))
  · subst c1
    have hlen : r.length + 2 ≤ 62 := by simpa using h64
    have n0 : ¬ t.1 = 0 := by rcases c0 with q | q | q | q | q | q | q | q | q <;> rw [q] <;> decide
    have n1 : ¬ t.1 = 1 := by rcases c0 with q | q | q | q | q | q | q | q | q <;> rw [q] <;> decide
    have n9 : ¬ t.1 = 9 := by rcases c0 with q | q | q | q | q | q | q | q | q <;> rw [q] <;> decide
    refine ⟨put_I ρ 354 r.length (jn_ t.1 a b), ?_, KT.put, ?_⟩
    · rw [f_X12_workOut_L12, if_pos g3]
      simp only [d, Option.bind_some]
      rw [if_neg g1, g2, e1, if_neg n0, if_neg h1, if_neg n1, if_neg h1, if_neg n9, if_neg h1]
      have es : Int32.ofNat (b :: a :: r).length + (-1) = Int32.ofNat (r.length + 1) := o_m1 (r.length + 1)
      have et : Int32.ofNat (r.length + 1) - 1 = Int32.ofNat r.length := by
        rw [l_1, o_sub (by omega)]
        rfl
      rw [es, et, if_neg (o_in (by omega) (by omega)), if_neg (o_in (by omega) (by omega)), o_tn (by omega), o_tn (by omega), sk_top (sk_tl S), show sg_I ρ 354 (r.length + 1) = b from sk_top S, (jn_b (a := a) (b := b) c0).1]
      simp only [Option.bind_some]
      rw [if_neg (o_in (by omega) (by omega))]
      unfold f_X12_workOut_B165
      rw [g4, c5]
      rfl
    · rw [c5]
      exact sk_cons (sk_tl (sk_tl S)) gI_e (fun i hi => gI_n (by omega))
theorem rl_l {N i z : Nat} {v : Int32} {lt : Nat → Int32} (hi : i < 5) (hz : z ≤ 520) (ez : v = Int32.ofNat z) (hl : ∀ k, k < 6 → -1000000 ≤ (lt k).toInt ∧ (lt k).toInt ≤ 1000000) : ∀ (l : List Tk) (n o : Nat) (ρ : Sg) (s : List Int32) (ks ks' : List Bool), RF (sg_R ρ) (sg_L ρ) → o + l.length = z → (∀ j, j < l.length → sg_I ρ 346 (520 * i + (o + j)) = (l.getD j (0, 0)).1 ∧ sg_I ρ 347 (520 * i + (o + j)) = (l.getD j (0, 0)).2) → (∀ k, k < 6 → sg_I ρ 353 k = lt k) → sk_ (sg_I ρ 354) s → ck_ l ks = some ks' → okv ks s → ks.length ≤ 62 → ∃ τ, f_X12_workOut_L12 N 344 (n + l.length) (Int32.ofNat i) v (Int32.ofNat s.length) (Int32.ofNat (520 * i + o)) ρ = f_X12_workOut_L12 N 344 n (Int32.ofNat i) v (Int32.ofNat (ev_ lt l s).length) (Int32.ofNat (520 * i + z)) τ ∧ KT ρ τ ∧ sk_ (sg_I τ 354) (ev_ lt l s) ∧ okv ks' (ev_ lt l s) := by
  intro l
  induction l with
  | nil =>
    intro n o ρ s ks ks' d eo ex el S hk hs h62
    cases hk
    have : o = z := by simpa using eo
    subst this
    exact ⟨ρ, rfl, KT.rf, S, hs⟩
  | cons t l ih =>
    intro n o ρ s ks ks' d eo ex el S hk hs h62
    have eo : o + (l.length + 1) = z := by simpa using eo
    have hk : (ck_1 t ks).bind (ck_ l) = some ks' := hk
    cases h1 : ck_1 t ks with
    | none => rw [h1] at hk; cases hk
    | some k1 =>
      rw [h1] at hk
      have hlen := okv_len hs
      obtain ⟨x1, x2⟩ := ex 0 (by simp)
      obtain ⟨υ, u1, u2, u3⟩ := rl_1 (N := N) (n := n + l.length) (t := t) d hi (show o < z by omega) hz ez x1 x2 el S h1 hs hl (by omega)
      have ok1 := (ck_c h1 hs hl).2
      have h62' : k1.length ≤ 62 := ck_len h1 h62
      obtain ⟨τ, t1, t2, t3, t4⟩ := ih n (o + 1) υ _ k1 ks' (by rw [u2.1.2.1, u2.1.2.2.1]; exact d) (by omega) (fun j hj => by
        have q := ex (j + 1) (by simp; omega)
        rw [show o + (j + 1) = o + 1 + j by omega] at q
        rw [u2.2 346 (by decide), u2.2 347 (by decide)]
        simpa using q) (fun k hk => by rw [u2.2 353 (by decide)]; exact el k hk) u3 hk ok1 h62'
      refine ⟨τ, ?_, u2.tr t2, t3, t4⟩
      have e2 : n + (t :: l).length = n + l.length + 1 := by simp; omega
      rw [e2, u1, t1]
      rfl
