/-! ===== all three readers, from their starts ===== -/
theorem lan_2 {t : Nat} {x : Nat → Int32} {σ ρ : Sg} (hx : XT t x) (ct : CT 2 t x σ) (hR3 : sg_R σ 2 3 = some 4) (hR5 : sg_R σ 2 5 = some 5) (hL4 : sg_L σ 4 = 3) (hL5 : sg_L σ 5 = 16) (h2 : sg_I σ 2 2 = 0) (rt : RT t x ρ) (d : RF (sg_R ρ) (sg_L ρ)) : WN σ ρ (f_X1_isWhole 20000 2 σ) (f_X12_readLantern 20000 344 ρ) := by
  have ht := hx.1
  have R17 : sg_R ρ 344 17 = some 355 := by simp only [d]
  have L55 : sg_L ρ 355 = 3 := by simp only [d]
  have u0 : f_X12_usual 115 0 = some 6 := rfl
  have u1 : f_X12_usual 115 (0 + 1) = some 40 := rfl
  have u2 : f_X12_usual 115 (0 + 1 + 1) = some 20 := rfl
  have lg : ∀ τ : Sg, sg_R τ 344 17 = some 355 → sg_L τ 355 = 3 → f_X12_readLantern_L19 20000 344 20000 0 0 τ = f_X12_readLantern_L44 20000 344 20000 0 1 (put_I (put_I (put_I τ 355 0 6) 355 1 40) 355 2 20) := by
    intro τ z1 z2
    have z1a : sg_R (put_I τ 355 0 6) 344 17 = some 355 := z1
    have z2a : sg_L (put_I τ 355 0 6) 355 = 3 := z2
    have z1b : sg_R (put_I (put_I τ 355 0 6) 355 1 40) 344 17 = some 355 := z1
    have z2b : sg_L (put_I (put_I τ 355 0 6) 355 1 40) 355 = 3 := z2
    have i0 : ¬ ((0 : Int32) < 0 ∨ 3 ≤ (0 : Int32).toNatClampNeg) := by decide
    have i1 : ¬ ((0 + 1 : Int32) < 0 ∨ 3 ≤ (0 + 1 : Int32).toNatClampNeg) := by decide
    have i2 : ¬ ((0 + 1 + 1 : Int32) < 0 ∨ 3 ≤ (0 + 1 + 1 : Int32).toNatClampNeg) := by decide
    have t0 : (0 : Int32).toNatClampNeg = 0 := by decide
    have t1 : (0 + 1 : Int32).toNatClampNeg = 1 := by decide
    have t2 : (0 + 1 + 1 : Int32).toNatClampNeg = 2 := by decide
    rw [f_X12_readLantern_L19, if_pos (by decide), f_of u0, f_of z1, z2, if_neg i0, t0, f_X12_readLantern_L19, if_pos (by decide), f_of u1, f_of z1a, z2a, if_neg i1, t1, f_X12_readLantern_L19, if_pos (by decide), f_of u2, f_of z1b, z2b, if_neg i2, t2, f_X12_readLantern_L19, if_neg (by decide)]
  have c0 : ∀ j, sg_I (put_I (put_I (cpy_K σ 2 4 0 0 3) 2 4 0) 2 6 0) 4 j = if 0 ≤ j ∧ j < 0 + 3 then kv_ 2 (0 + (j - 0)) else sg_I σ 4 j := fun j => by
    rw [gI_n (by omega), gI_n (by omega), gI_Q, if_pos rfl]
    rfl
  have c2 : ∀ j, j ≠ 4 → j ≠ 6 → sg_I (put_I (put_I (cpy_K σ 2 4 0 0 3) 2 4 0) 2 6 0) 2 j = sg_I σ 2 j := fun j h1 h2 => by
    rw [gI_n (by omega), gI_n (by omega), gI_Q, if_neg (by decide)]
  have kz : KZ 2 σ (put_I (put_I (cpy_K σ 2 4 0 0 3) 2 4 0) 2 6 0) := ⟨⟨rfl, rfl, rfl, rfl, rfl⟩, fun a ha => by funext j; rw [gI_n (by omega), gI_n (by omega), gI_Q, if_neg (by omega)], c2 1 (by decide) (by decide)⟩
  have ki : KI PL ρ (put_I (put_I (put_I (put_I (put_I (put_I ρ 344 3 0) 344 4 (-1)) 344 19 0) 355 0 6) 355 1 40) 355 2 20) := (KI.put (Or.inl ⟨rfl, Or.inl rfl⟩)).tr ((KI.put (Or.inl ⟨rfl, Or.inr (Or.inl rfl)⟩)).tr ((KI.put (Or.inl ⟨rfl, Or.inr (Or.inr rfl)⟩)).tr ((KI.put (Or.inr (Or.inl rfl))).tr ((KI.put (Or.inr (Or.inl rfl))).tr (KI.put (Or.inr (Or.inl rfl)))))))
  have r5 : ∀ j, j < 3 → sg_I (put_I (put_I (put_I (put_I (put_I (put_I ρ 344 3 0) 344 4 (-1)) 344 19 0) 355 0 6) 355 1 40) 355 2 20) 355 j = Int32.ofNat (sUs j) := by
    intro j hj
    match j, hj with
    | 0, _ => rw [gI_n (by omega), gI_n (by omega), gI_e]; rfl
    | 1, _ => rw [gI_n (by omega), gI_e]; rfl
    | 2, _ => rw [gI_e]; rfl
  have us4 : ∀ j, j < 3 → sg_I (put_I (put_I (cpy_K σ 2 4 0 0 3) 2 4 0) 2 6 0) 4 j = Int32.ofNat (sUs j) := fun j hj => by
    rw [c0, if_pos (by omega), show 0 + (j - 0) = j by omega]
    exact (s_us j hj).2.1
  have ns : NS t x (put_I (put_I (cpy_K σ 2 4 0 0 3) 2 4 0) 2 6 0) (put_I (put_I (put_I (put_I (put_I (put_I ρ 344 3 0) 344 4 (-1)) 344 19 0) 355 0 6) 355 1 40) 355 2 20) 0 0 0 := by
    refine ⟨kz.ct ct, hR3, hR5, hL4, hL5, (((((rt.put (by decide) (by decide)).put (by decide) (by decide)).put (by decide) (by decide)).put (by decide) (by decide)).put (by decide) (by decide)).put (by decide) (by decide), d, by omega, ?_, ?_, ?_, ?_, by omega, gI_e, ?_, by omega, fun j hj => ⟨sUs j, us4 j hj, r5 j hj, (s_us j hj).2.2⟩, fun _ => us4, fun w hw => absurd hw (by omega)⟩
    · rw [c2 2 (by decide) (by decide)]; exact h2
    · rw [gI_n (by omega), gI_n (by omega), gI_n (by omega), gI_n (by omega), gI_n (by omega), gI_e]; rfl
    · rw [gI_n (by omega), gI_n (by omega), gI_n (by omega), gI_n (by omega), gI_e]
    · rw [gI_n (by omega), gI_e]; rfl
    · rw [gI_n (by omega), gI_n (by omega), gI_n (by omega), gI_e]; rfl
  have w := ln_w hx 20000 20000 0 0 0 0 _ _ (by omega) (by omega) (by omega) ns
  have eA : f_X1_isWhole 20000 2 σ = f_X1_isWhole_L25 20000 2 20000 (Int32.ofNat 0) (put_I (put_I (cpy_K σ 2 4 0 0 3) 2 4 0) 2 6 0) := by
    unfold f_X1_isWhole
    have e0 : ¬ ((0 : Int32) < 0 ∨ (0 : Int32) < 0 ∨ (3 : Int32) < 0 ∨ kn_ 2 < (0 : Int32).toNatClampNeg + (3 : Int32).toNatClampNeg ∨ 3 < (0 : Int32).toNatClampNeg + (3 : Int32).toNatClampNeg) := by decide
    rw [f_of hR3, hL4, if_neg e0]
    rfl
  have eB : f_X12_readLantern 20000 344 ρ = f_X12_readLantern_L44 20000 344 20000 (Int32.ofNat 0) 1 (put_I (put_I (put_I (put_I (put_I (put_I ρ 344 3 0) 344 4 (-1)) 344 19 0) 355 0 6) 355 1 40) 355 2 20) := by
    unfold f_X12_readLantern
    rw [lg (put_I (put_I (put_I ρ 344 3 0) 344 4 (-1)) 344 19 0) R17 L55]
    rfl
  rw [eA, eB]
  exact w.up kz ki
theorem str_2 {t s : Nat} {x : Nat → Int32} {σ ρ : Sg} (hx : XT t x) (hs : s ≤ 6) (ct : CT 9 t x σ) (hR : sg_R σ 9 3 = some 11) (hL : sg_L σ 11 = 16) (h2 : sg_I σ 9 2 = 0) (rt : RT t x ρ) (d : RF (sg_R ρ) (sg_L ρ)) : SOS s σ ρ (f_X9_isWhole 20000 9 σ) (f_X12_readStrip 20000 344 (Int32.ofNat s) ρ) := by
  have ht := hx.1
  have R22 : sg_R (put_I (put_I ρ 344 3 0) 344 4 (-1)) 344 22 = some 358 := by
    show sg_R ρ 344 22 = some 358
    simp only [d]
  have L58 : sg_L (put_I (put_I ρ 344 3 0) 344 4 (-1)) 358 = 7 := by
    show sg_L ρ 358 = 7
    simp only [d]
  have w := sr_2 hx hs ct rt hR hL d 20000 20000 0 0 0 (put_I σ 9 4 0) (put_I (put_I (put_I ρ 344 3 0) 344 4 (-1)) 358 s 0) (by omega) (by omega) (by omega) (by omega) (KZ.put (by omega) (by omega)) ((KH.put (by omega)).tr ((KH.put (by omega)).tr (KH.put (by omega)))) (by rw [gI_n (by omega)]; exact h2) (by rw [gI_n (by omega), gI_n (by omega), gI_e]; rfl) (by rw [gI_n (by omega), gI_e]) gI_e (by omega) gI_e (fun i hi => absurd hi (by omega))
  have eB : f_X12_readStrip 20000 344 (Int32.ofNat s) ρ = f_X12_readStrip_L17 20000 344 20000 (Int32.ofNat s) (put_I (put_I (put_I ρ 344 3 0) 344 4 (-1)) 358 s 0) := by
    unfold f_X12_readStrip
    rw [f_of R22, L58, if_neg (o_in (by omega) (by omega)), o_tn (by omega)]
  rw [eB]
  exact w
/-- the class's start of a reader -/
theorem stt_v {b t : Nat} {σ : Sg} (hb : b = 2 ∨ b = 6 ∨ b = 9) (hL : sg_L σ 1 = 240) (ht : t ≤ 240) : f_X6_start b (some 1) (Int32.ofNat t) σ = some (put_I (put_I (put_R σ b 0 (some 1)) b 1 (Int32.ofNat t)) b 2 0) := by
  have mn : f_J9_min_7cf53 (Int32.ofNat t) (Int32.ofNat (sg_L (put_R σ b 0 (some 1)) 1)) = some (Int32.ofNat t) := by
    unfold f_J9_min_7cf53
    rw [show sg_L (put_R σ b 0 (some 1)) 1 = 240 from hL, if_neg (by rw [o_lt (by omega) (by omega)]; omega)]
  unfold f_X6_start
  rw [f_of rfl, f_of mn]
theorem stt_k {b t : Nat} {σ : Sg} (hb : b = 2 ∨ b = 6 ∨ b = 9) : KC σ (put_I (put_I (put_R σ b 0 (some 1)) b 1 (Int32.ofNat t)) b 2 0) := by
  refine ⟨rfl, ⟨fun _ _ => rfl, fun a j ha => ?_, fun a j ha => ?_⟩, fun a h1 h2 => ⟨?_, ?_, rfl, rfl⟩⟩
  · show up_2 σ.2.2.2.2.1 b 0 (some 1) a j = _
    unfold up_2
    rw [if_neg (fun z => ha (Or.inl ⟨by omega, z.2⟩))]
    rfl
  · rw [gI_n, gI_n]
    · rfl
    · exact Or.inl (fun z => ha (Or.inl (by omega)))
    · exact Or.inl (fun z => ha (Or.inl (by omega)))
  · rw [gI_a (by omega), gI_a (by omega)]
    rfl
  · show up_2 σ.2.2.2.2.1 b 0 (some 1) a = _
    rw [up_2_ne _ _ (by omega)]
    rfl
theorem stt_c {b t : Nat} {σ : Sg} (hb : b = 2 ∨ b = 6 ∨ b = 9) (hL : sg_L σ 1 = 240) : CT b t (sg_I σ 1) (put_I (put_I (put_R σ b 0 (some 1)) b 1 (Int32.ofNat t)) b 2 0) := by
  refine ⟨?_, hL, by rw [gI_n (by omega), gI_e], fun i hi => by rw [gI_n (by omega), gI_n (by omega)]; rfl⟩
  show up_2 σ.2.2.2.2.1 b 0 (some 1) b 0 = _
  unfold up_2
  rw [if_pos ⟨rfl, rfl⟩]
theorem stt_r {b a j t : Nat} {σ : Sg} (h : j ≠ 0) : sg_R (put_I (put_I (put_R σ b 0 (some 1)) b 1 (Int32.ofNat t)) b 2 0) a j = sg_R σ a j := by
  show up_2 σ.2.2.2.2.1 b 0 (some 1) a j = _
  unfold up_2
  rw [if_neg (fun z => h z.2)]
  rfl
