/-! ===== texts: what the class makes of a strip or a law ===== -/
theorem cp_v {σ : Sg} {b n M : Nat} (hL : sg_L σ b = M) (hn : n ≤ M) (hM : M ≤ 1000) (hb : b < sg_N σ) : ∃ τ, f_J7_copyOf_59c91 (some b) (Int32.ofNat n) σ = some (some (sg_N σ), τ) ∧ sg_N τ = sg_N σ + 1 ∧ (∀ a, a ≠ sg_N σ → sg_L τ a = sg_L σ a ∧ sg_R τ a = sg_R σ a ∧ sg_I τ a = sg_I σ a ∧ sg_J τ a = sg_J σ a) ∧ sg_L τ (sg_N σ) = n ∧ (∀ j, j < n → sg_I τ (sg_N σ) j = sg_I σ b j) ∧ sg_S τ = sg_S σ + n := by
  unfold f_J7_copyOf_59c91
  rw [f_of rfl, hL]
  by_cases e : n = M
  · subst e
    rw [if_pos rfl]
    unfold f_J7_copyOf_59c91_B10
    rw [f_of rfl]
    refine ⟨_, rfl, rfl, fun a ha => ⟨va_up_ne _ _ ha, va_up_ne _ _ ha, va_up_ne _ _ ha, va_up_ne _ _ ha⟩, ?_, fun j _ => ?_, by rw [sg_S_cln, hL]⟩
    · show va_up σ.2.2.1 σ.1 (σ.2.2.1 b) σ.1 = n
      rw [va_up_self]
      exact hL
    · show va_up σ.2.2.2.1 σ.1 (σ.2.2.2.1 b) σ.1 j = _
      rw [va_up_self]
      rfl
  · have t : (Int32.ofNat n).toNatClampNeg = n := o_tn (by omega)
    have hLb : sg_L (new_C σ 12 n) b = M := by
      show va_up σ.2.2.1 σ.1 n b = M
      rw [va_up_ne _ _ (by unfold sg_N at hb; omega)]
      exact hL
    have hLn : sg_L (new_C σ 12 n) (sg_N σ) = n := va_up_self _ _ _
    have mn : f_J9_min_7cf53 (Int32.ofNat M) (Int32.ofNat n) = some (Int32.ofNat n) := by
      unfold f_J9_min_7cf53
      rw [if_pos (by rw [o_lt (by omega) (by omega)]; omega)]
    rw [if_neg (by rw [o_eq (by omega) (by omega)]; exact e), t, if_neg (by intro z; rcases z with z | z; exact o_nn (by omega) z; omega)]
    unfold f_J7_copyOf_59c91_B17
    rw [f_of rfl, hLb, f_of mn, f_of rfl, hLn, t]
    have z0 : (0 : Int32).toNatClampNeg = 0 := rfl
    rw [z0, if_neg (by
      intro z
      rcases z with z | z | z | z | z
      · exact absurd z (by decide)
      · exact absurd z (by decide)
      · exact o_nn (by omega) z
      · omega
      · omega)]
    refine ⟨_, rfl, rfl, fun a ha => ⟨va_up_ne _ _ ha, va_up_ne _ _ ha, ?_, va_up_ne _ _ ha⟩, hLn, fun j hj => ?_, ?_⟩
    · funext j
      rw [gI_C, if_neg ha]
      exact congrFun (va_up_ne _ _ ha) j
    · rw [gI_C, if_pos rfl]
      unfold va_cpy
      rw [if_pos (by omega)]
      show va_up σ.2.2.2.1 σ.1 (fun _ => 0) b (0 + (j - 0)) = _
      rw [va_up_ne _ _ (by unfold sg_N at hb; omega), show 0 + (j - 0) = j by omega]
      rfl
    · show sg_S (new_C σ 12 n) = _
      rw [sg_S_new]
      rfl
theorem gR_e {σ : Sg} {a j : Nat} {v : Option Nat} : sg_R (put_R σ a j v) a j = v := by
  show up_2 σ.2.2.2.2.1 a j v a j = v
  unfold up_2
  rw [if_pos ⟨rfl, rfl⟩]
theorem gR_n {σ : Sg} {a j b k : Nat} {v : Option Nat} (h : b ≠ a ∨ k ≠ j) : sg_R (put_R σ a j v) b k = sg_R σ b k := by
  show up_2 σ.2.2.2.2.1 a j v b k = _
  unfold up_2
  rw [if_neg (by omega)]
  rfl
/-- a new strip -/
theorem ts_v {υ : Sg} {k n : Nat} (c : CF (sg_R υ) (sg_L υ)) (h371 : 371 ≤ sg_N υ) (hk : sg_I υ 0 9 = Int32.ofNat k) (hk6 : k < 6) (hn : sg_I υ 9 4 = Int32.ofNat n) (h16 : n ≤ 16) : ∃ τ, f_X11_tellStrip 0 υ = some (Int32.ofNat k, τ) ∧ sg_N τ = sg_N υ + 2 ∧ (∀ a, a < sg_N υ → sg_L τ a = sg_L υ a ∧ sg_J τ a = sg_J υ a) ∧ sg_L τ (sg_N υ + 1) = n ∧ (∀ a j, a < sg_N υ → sg_R τ a j = if a = 13 ∧ j = k then some (sg_N υ) else sg_R υ a j) ∧ sg_R τ (sg_N υ) 0 = some (sg_N υ + 1) ∧ (∀ a j, a < sg_N υ → sg_I τ a j = if a = 0 ∧ j = 9 then Int32.ofNat (k + 1) else sg_I υ a j) ∧ (∀ j, j < n → sg_I τ (sg_N υ + 1) j = sg_I υ 11 j) ∧ sg_S τ ≤ sg_S υ + 100 := by
  have R8 : sg_R υ 0 8 = some 13 := by simp only [c]
  have L13 : sg_L υ 13 = 6 := by simp only [c]
  have R4 : sg_R υ 0 4 = some 9 := by simp only [c]
  have R93 : sg_R υ 9 3 = some 11 := by simp only [c]
  have L11 : sg_L υ 11 = 16 := by simp only [c]
  have nw : ∀ a, a ≠ sg_N υ → sg_L (new_C υ 7 0) a = sg_L υ a ∧ sg_R (new_C υ 7 0) a = sg_R υ a ∧ sg_I (new_C υ 7 0) a = sg_I υ a ∧ sg_J (new_C υ 7 0) a = sg_J υ a := fun a ha => ⟨va_up_ne _ _ ha, va_up_ne _ _ ha, va_up_ne _ _ ha, va_up_ne _ _ ha⟩
  have nN : sg_N (new_C υ 7 0) = sg_N υ + 1 := rfl
  have nS : sg_S (new_C υ 7 0) ≤ sg_S υ + 50 := by
    rw [sg_S_new]
    have : ce_ 7 0 ≤ 50 := by decide
    omega
  obtain ⟨τ, c1, c2, c3, c4, c5, c6⟩ := cp_v (σ := new_C υ 7 0) (b := 11) (n := n) (M := 16) (by rw [(nw 11 (by omega)).1]; exact L11) h16 (by omega) (by rw [nN]; omega)
  rw [nN] at c1 c2 c3 c4 c5
  have wr : f_X9_written 9 (new_C υ 7 0) = some (some (sg_N υ + 1), τ) := by
    unfold f_X9_written f_X9_written_B11
    rw [(nw 9 (by omega)).2.1, R93, (nw 9 (by omega)).2.2.1, hn, f_of c1]
  have t13 : sg_L (put_R τ (sg_N υ) 0 (some (sg_N υ + 1))) 13 = 6 := by
    show sg_L τ 13 = 6
    rw [(c3 13 (by omega)).1, (nw 13 (by omega)).1]
    exact L13
  have i09 : sg_I (put_R (put_R τ (sg_N υ) 0 (some (sg_N υ + 1))) 13 k (some (sg_N υ))) 0 9 = Int32.ofNat k := by
    show sg_I τ 0 9 = _
    rw [(c3 0 (by omega)).2.2.1, (nw 0 (by omega)).2.2.1]
    exact hk
  refine ⟨put_I (put_R (put_R τ (sg_N υ) 0 (some (sg_N υ + 1))) 13 k (some (sg_N υ))) 0 9 (Int32.ofNat (k + 1)), ?_, c2, fun a ha => ?_, c4, fun a j ha => ?_, ?_, fun a j ha => ?_, fun j hj => ?_, ?_⟩
  · unfold f_X11_tellStrip
    rw [f_of R8, L13, hk, if_pos (by rw [o_lt (by omega) (by omega)]; exact hk6), R8]
    unfold f_X11_tellStrip_B25
    rw [(nw 0 (by omega)).2.1, f_of R4, f_of wr]
    dsimp only
    unfold f_X11_tellStrip_B33 f_X8_init
    rw [f_of rfl, f_of rfl]
    unfold f_X11_tellStrip_B36
    rw [f_of rfl, f_of rfl, t13, if_neg (o_in (by omega) (by omega)), o_tn (by omega), i09, o_s k, gI_e, l_1, o_sub (by omega)]
    rfl
  · show sg_L τ a = _ ∧ sg_J τ a = _
    rw [(c3 a (by omega)).1, (nw a (by omega)).1, (c3 a (by omega)).2.2.2, (nw a (by omega)).2.2.2]
    exact ⟨rfl, rfl⟩
  · show sg_R (put_R (put_R τ (sg_N υ) 0 (some (sg_N υ + 1))) 13 k (some (sg_N υ))) a j = _
    by_cases e : a = 13 ∧ j = k
    · obtain ⟨rfl, rfl⟩ := e
      rw [if_pos ⟨rfl, rfl⟩, gR_e]
    · rw [if_neg e, gR_n (by omega), gR_n (by omega), (c3 a (by omega)).2.1, (nw a (by omega)).2.1]
  · show sg_R (put_R (put_R τ (sg_N υ) 0 (some (sg_N υ + 1))) 13 k (some (sg_N υ))) (sg_N υ) 0 = _
    rw [gR_n (by omega), gR_e]
  · by_cases e : a = 0 ∧ j = 9
    · obtain ⟨rfl, rfl⟩ := e
      rw [if_pos ⟨rfl, rfl⟩, gI_e]
    · rw [if_neg e, gI_n (by omega)]
      show sg_I τ a j = _
      rw [(c3 a (by omega)).2.2.1, (nw a (by omega)).2.2.1]
  · rw [gI_n (by omega)]
    show sg_I τ (sg_N υ + 1) j = _
    rw [c5 j hj, (nw 11 (by omega)).2.2.1]
  · show sg_S τ ≤ _
    rw [c6]
    omega
/-- a new law -/
theorem tla_v {υ : Sg} {k n : Nat} (c : CF (sg_R υ) (sg_L υ)) (h371 : 371 ≤ sg_N υ) (hk : sg_I υ 0 6 = Int32.ofNat k) (hk4 : k < 4) (hn : sg_I υ 6 4 = Int32.ofNat n) (h720 : n ≤ 240) : ∃ τ, f_X11_tellLaw 0 υ = some (Int32.ofNat k, τ) ∧ sg_N τ = sg_N υ + 3 ∧ (∀ a, a < sg_N υ → sg_L τ a = sg_L υ a ∧ sg_J τ a = sg_J υ a) ∧ sg_L τ (sg_N υ + 1) = n ∧ sg_L τ (sg_N υ + 2) = 64 ∧ (∀ a j, a < sg_N υ → sg_R τ a j = if a = 12 ∧ j = k then some (sg_N υ) else sg_R υ a j) ∧ sg_R τ (sg_N υ) 0 = some (sg_N υ + 1) ∧ sg_R τ (sg_N υ) 1 = some (sg_N υ + 2) ∧ (∀ a j, a < sg_N υ → sg_I τ a j = if a = 0 ∧ j = 6 then Int32.ofNat (k + 1) else sg_I υ a j) ∧ (∀ j, j < n → sg_I τ (sg_N υ + 1) j = sg_I υ 8 j) ∧ sg_S τ ≤ sg_S υ + 400 := by
  have R5 : sg_R υ 0 5 = some 12 := by simp only [c]
  have L12 : sg_L υ 12 = 4 := by simp only [c]
  have R3 : sg_R υ 0 3 = some 6 := by simp only [c]
  have R63 : sg_R υ 6 3 = some 8 := by simp only [c]
  have L8 : sg_L υ 8 = 720 := by simp only [c]
  have nw : ∀ a, a ≠ sg_N υ → sg_L (new_C υ 2 0) a = sg_L υ a ∧ sg_R (new_C υ 2 0) a = sg_R υ a ∧ sg_I (new_C υ 2 0) a = sg_I υ a ∧ sg_J (new_C υ 2 0) a = sg_J υ a := fun a ha => ⟨va_up_ne _ _ ha, va_up_ne _ _ ha, va_up_ne _ _ ha, va_up_ne _ _ ha⟩
  have nN : sg_N (new_C υ 2 0) = sg_N υ + 1 := rfl
  have nS : sg_S (new_C υ 2 0) ≤ sg_S υ + 50 := by
    rw [sg_S_new]
    have : ce_ 2 0 ≤ 50 := by decide
    omega
  obtain ⟨τ, c1, c2, c3, c4, c5, c6⟩ := cp_v (σ := new_C υ 2 0) (b := 8) (n := n) (M := 720) (by rw [(nw 8 (by omega)).1]; exact L8) (by omega) (by omega) (by rw [nN]; omega)
  rw [nN] at c1 c2 c3 c4 c5
  have wr : f_X3_written 6 (new_C υ 2 0) = some (some (sg_N υ + 1), τ) := by
    unfold f_X3_written f_X3_written_B11
    rw [(nw 6 (by omega)).2.1, R63, (nw 6 (by omega)).2.2.1, hn, f_of c1]
  have nw2 : ∀ a, a ≠ sg_N υ + 2 → sg_L (new_C τ 12 64) a = sg_L τ a ∧ sg_R (new_C τ 12 64) a = sg_R τ a ∧ sg_I (new_C τ 12 64) a = sg_I τ a ∧ sg_J (new_C τ 12 64) a = sg_J τ a := fun a ha => by
    have ha : a ≠ sg_N τ := by rw [c2]; exact ha
    exact ⟨va_up_ne _ _ ha, va_up_ne _ _ ha, va_up_ne _ _ ha, va_up_ne _ _ ha⟩
  have l2 : sg_L (new_C τ 12 64) (sg_N υ + 2) = 64 := by
    rw [show sg_N υ + 2 = sg_N τ from c2.symm]
    exact va_up_self _ _ _
  have in2 : f_X2_init (sg_N υ) (some (sg_N υ + 1)) τ = some (put_R (put_I (put_R (new_C τ 12 64) (sg_N υ) 1 (some (sg_N υ + 2))) (sg_N υ) 2 0) (sg_N υ) 0 (some (sg_N υ + 1))) := by
    unfold f_X2_init f_X2_init_B9
    rw [f_of rfl, c2]
    rfl
  have hy : ∃ ψ, put_R (put_I (put_R (new_C τ 12 64) (sg_N υ) 1 (some (sg_N υ + 2))) (sg_N υ) 2 0) (sg_N υ) 0 (some (sg_N υ + 1)) = ψ := ⟨_, rfl⟩
  obtain ⟨ψ, hψ⟩ := hy
  rw [hψ] at in2
  have pN : sg_N ψ = sg_N υ + 3 := by
    rw [← hψ]
    show sg_N τ + 1 = _
    rw [c2]
  have pL : ∀ a, a ≠ sg_N υ + 2 → sg_L ψ a = sg_L τ a := fun a ha => by rw [← hψ]; exact (nw2 a ha).1
  have pL2 : sg_L ψ (sg_N υ + 2) = 64 := by rw [← hψ]; exact l2
  have pJ : ∀ a, a ≠ sg_N υ + 2 → sg_J ψ a = sg_J τ a := fun a ha => by rw [← hψ]; exact (nw2 a ha).2.2.2
  have pR0 : sg_R ψ (sg_N υ) 0 = some (sg_N υ + 1) := by rw [← hψ, gR_e]
  have pR1 : sg_R ψ (sg_N υ) 1 = some (sg_N υ + 2) := by
    rw [← hψ, gR_n (by omega)]
    show sg_R (put_R (new_C τ 12 64) (sg_N υ) 1 (some (sg_N υ + 2))) (sg_N υ) 1 = _
    rw [gR_e]
  have pR : ∀ a j, a < sg_N υ → sg_R ψ a j = sg_R τ a j := fun a j ha => by
    rw [← hψ, gR_n (by omega)]
    show sg_R (put_R (new_C τ 12 64) (sg_N υ) 1 (some (sg_N υ + 2))) a j = _
    rw [gR_n (by omega), (nw2 a (by omega)).2.1]
  have pI : ∀ a j, a ≠ sg_N υ → a ≠ sg_N υ + 2 → sg_I ψ a j = sg_I τ a j := fun a j h1 h2 => by
    rw [← hψ]
    show sg_I (put_I (put_R (new_C τ 12 64) (sg_N υ) 1 (some (sg_N υ + 2))) (sg_N υ) 2 0) a j = _
    rw [gI_n (by omega)]
    show sg_I (new_C τ 12 64) a j = _
    rw [(nw2 a h2).2.2.1]
  have pS : sg_S ψ = sg_S τ + 64 := by
    rw [← hψ]
    show sg_S (new_C τ 12 64) = _
    rw [sg_S_new]
    rfl
  have t12 : sg_L ψ 12 = 4 := by
    rw [pL 12 (by omega), (c3 12 (by omega)).1, (nw 12 (by omega)).1]
    exact L12
  have i06 : sg_I (put_R ψ 12 k (some (sg_N υ))) 0 6 = Int32.ofNat k := by
    show sg_I ψ 0 6 = _
    rw [pI 0 6 (by omega) (by omega), (c3 0 (by omega)).2.2.1, (nw 0 (by omega)).2.2.1]
    exact hk
  refine ⟨put_I (put_R ψ 12 k (some (sg_N υ))) 0 6 (Int32.ofNat (k + 1)), ?_, pN, fun a ha => ?_, ?_, pL2, fun a j ha => ?_, ?_, ?_, fun a j ha => ?_, fun j hj => ?_, ?_⟩
  · unfold f_X11_tellLaw
    rw [f_of R5, L12, hk, if_pos (by rw [o_lt (by omega) (by omega)]; exact hk4), R5]
    unfold f_X11_tellLaw_B25
    rw [(nw 0 (by omega)).2.1, f_of R3, f_of wr]
    dsimp only
    unfold f_X11_tellLaw_B33
    rw [f_of rfl, f_of in2]
    unfold f_X11_tellLaw_B36
    rw [f_of rfl, f_of rfl, t12, if_neg (o_in (by omega) (by omega)), o_tn (by omega), i06, o_s k, gI_e, l_1, o_sub (by omega)]
    rfl
  · show sg_L ψ a = _ ∧ sg_J ψ a = _
    rw [pL a (by omega), pJ a (by omega), (c3 a (by omega)).1, (nw a (by omega)).1, (c3 a (by omega)).2.2.2, (nw a (by omega)).2.2.2]
    exact ⟨rfl, rfl⟩
  · show sg_L ψ (sg_N υ + 1) = n
    rw [pL _ (by omega)]
    exact c4
  · show sg_R (put_R ψ 12 k (some (sg_N υ))) a j = _
    by_cases e : a = 12 ∧ j = k
    · obtain ⟨rfl, rfl⟩ := e
      rw [if_pos ⟨rfl, rfl⟩, gR_e]
    · rw [if_neg e, gR_n (by omega), pR a j ha, (c3 a (by omega)).2.1, (nw a (by omega)).2.1]
  · show sg_R (put_R ψ 12 k (some (sg_N υ))) (sg_N υ) 0 = _
    rw [gR_n (by omega), pR0]
  · show sg_R (put_R ψ 12 k (some (sg_N υ))) (sg_N υ) 1 = _
    rw [gR_n (by omega), pR1]
  · by_cases e : a = 0 ∧ j = 6
    · obtain ⟨rfl, rfl⟩ := e
      rw [if_pos ⟨rfl, rfl⟩, gI_e]
    · rw [if_neg e, gI_n (by omega)]
      show sg_I ψ a j = _
      rw [pI a j (by omega) (by omega), (c3 a (by omega)).2.2.1, (nw a (by omega)).2.2.1]
  · rw [gI_n (by omega)]
    show sg_I ψ (sg_N υ + 1) j = _
    rw [pI _ j (by omega) (by omega), c5 j hj, (nw 8 (by omega)).2.2.1]
  · show sg_S ψ ≤ _
    rw [pS, c6]
    omega
