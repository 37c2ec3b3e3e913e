theorem tx_0 {σ ρ : Sg} (r : Rel σ ρ) (hB : lw_B σ) : TX σ ρ (f_X11_text 20000 0 0 σ) (f_X12_text 20000 344 0 ρ) := by
  obtain ⟨k2, k6, k9⟩ := kd_v r.cf hB
  obtain ⟨τ, s1, s2, s3, s4, c, υ, e, φ, w1, w2, w3, w4, w5⟩ := rd_0 r
  have kc : KC σ υ := s2.tr w3.kc
  have hK : sg_K υ = sg_K σ := w3.1.2.2.2.2.trans s3
  unfold f_X11_text f_X12_text
  rw [f_of s1, if_pos rfl, f_of w2]
  dsimp only
  rw [if_pos (by rw [s3]; exact k2), f_of w1]
  dsimp only
  rcases w5 with ⟨rfl, w6, w7⟩ | ⟨rfl, rfl, n, n1, n2, n3, n4, n5, n6⟩
  · unfold f_X12_text_B22 f_X12_text_B69
    rw [if_pos rfl, if_neg w7, if_neg (by decide), if_neg (by decide)]
    exact TX.k r kc w4.krp hK
  · have r' : Rel υ ρ := kc.rel r
    have cf := r'.cf
    have d := r.rf
    have R2 : sg_R υ 0 2 = some 2 := by simp only [cf]
    have R13 : sg_R υ 0 13 = some 17 := by simp only [cf]
    have R23 : sg_R υ 2 3 = some 4 := by simp only [cf]
    have L4 : sg_L υ 4 = 3 := by simp only [cf]
    have hl : ∀ q, 1 ≤ hL (sg_I ρ) q ∧ hL (sg_I ρ) q ≤ 16 := fun q => by
      obtain ⟨bb, cc, ⟨-, -, z1, z2, -⟩, -, -⟩ := r'.sp q
      exact ⟨z1, z2⟩
    obtain ⟨a, ha⟩ : ∃ a : Nat → Nat, ∀ j, j < 3 → sg_I υ 4 j = Int32.ofNat (a j) ∧ sg_I φ 355 j = Int32.ofNat (a j) ∧ sLo j ≤ a j ∧ a j ≤ sHi j := ⟨fun j => (sg_I υ 4 j).toNatClampNeg, fun j hj => by
      obtain ⟨v, v1, v2, v3, v4⟩ := n5 j hj
      have : v ≤ 99 := Nat.le_trans v4 (s_tab j hj).2.2.2.2
      show sg_I υ 4 j = Int32.ofNat (sg_I υ 4 j).toNatClampNeg ∧ _ = Int32.ofNat (sg_I υ 4 j).toNatClampNeg ∧ _ ≤ (sg_I υ 4 j).toNatClampNeg ∧ (sg_I υ 4 j).toNatClampNeg ≤ _
      rw [v1, o_tn (by omega)]
      exact ⟨rfl, v2, v3, v4⟩⟩
    obtain ⟨b, hb⟩ : ∃ b : Nat → Nat → Nat, ∀ w, w < n → ∀ j, j < 4 → sg_I υ 5 (4 * w + j) = Int32.ofNat (b w j) ∧ sg_I φ 356 (4 * w + j) = Int32.ofNat (b w j) ∧ b w j ≤ wHi j := ⟨fun w j => (sg_I υ 5 (4 * w + j)).toNatClampNeg, fun w hw j hj => by
      obtain ⟨v, v1, v2, v3, v4⟩ := n6 w hw j hj
      have : v ≤ 99 := Nat.le_trans v4 (w_tab j hj).2.2.2.2
      show sg_I υ 5 (4 * w + j) = Int32.ofNat (sg_I υ 5 (4 * w + j)).toNatClampNeg ∧ _ = Int32.ofNat (sg_I υ 5 (4 * w + j)).toNatClampNeg ∧ (sg_I υ 5 (4 * w + j)).toNatClampNeg ≤ _
      rw [v1, o_tn (by omega)]
      exact ⟨rfl, v2, v4⟩⟩
    have hb1 : ∀ w, w < n → b w 1 ≤ 1 := fun w hw => (hb w hw 1 (by omega)).2.2
    have hP : ∀ w, w < n → b w 2 ≤ 15 := fun w hw => (hb w hw 2 (by omega)).2.2
    have hQ : ∀ w, w < n → b w 3 ≤ 5 := fun w hw => (hb w hw 3 (by omega)).2.2
    obtain ⟨S, p1, p2, p3, p4, p5, p6, p7, p8, p9⟩ := te_v R23 L4
    obtain ⟨T, t1, t2, t3, t4⟩ := tw_v n2 hb1 n 0 20000 S (by omega) (by omega) (by rw [p2.2.1, p2.2.2.1]; exact cf) (fun w hw => by rw [p2.2.1]; exact r'.1.1.2.2.1.2.2.1 w hw) (by rw [p3 2 (by decide)]; exact n3) (fun w hw l hl => by rw [p3 5 (by decide)]; exact (hb w hw l hl).1)
    obtain ⟨U, u1, u2, u3, u4⟩ := tpl_v r' (P := fun w => b w 2) (Q := fun w => b w 3) n2 hQ hP n 0 20000 T (by omega) (by omega) (p2.tr t2) (by rw [t3 0 (by omega), p3 0 (by decide)]) (by rw [t3 17 (by omega), p4]; exact n3) (fun w hw => t4 w (by omega) hw 3 (by omega)) (fun w _ hw => t4 w (by omega) hw 2 (by omega))
    have kpφ : kp_ ρ φ := ⟨w4.1.1, w4.1.2.1, w4.1.2.2.1, w4.1.2.2.2.1⟩
    have e19 : sg_I (put_I φ 344 2 0) 344 19 = Int32.ofNat n := by rw [gI_n (by omega)]; exact n4
    obtain ⟨A, A1, A2, A3, A4, A5⟩ := tzz_v d 261 0 20000 (put_I (put_I φ 344 2 0) 344 20 (Int32.ofNat n)) (by omega) (by omega) (kpφ.tr (kp_.put.tr kp_.put))
    have ea : ∀ c j, c ≠ 359 → ¬ (c = 344 ∧ (j = 2 ∨ j = 20)) → sg_I A c j = sg_I φ c j := fun c j h1 h2 => by rw [A3 c h1, gI_n (by omega), gI_n (by omega)]
    have A20 : sg_I A 344 20 = Int32.ofNat n := by rw [A3 344 (by omega), gI_e]
    obtain ⟨B, B1, B2, B3, B4, B5⟩ := ty_v d n2 (4 * n) 0 20000 A (by omega) (by omega) A2 A20
    have B9 : ∀ w, w < n → ∀ j, j < 4 → sg_I B 359 (4 * w + j) = Int32.ofNat (b w j) := fun w hw j hj => by
      rw [B5 (4 * w + j) (by omega) (by omega), ea 356 _ (by omega) (by omega)]
      exact (hb w hw j hj).2.1
    have eb : ∀ c j, c ≠ 359 → ¬ (c = 344 ∧ (j = 2 ∨ j = 20)) → ¬ PL c j → sg_I B c j = sg_I ρ c j := fun c j h1 h2 h3 => by rw [B3 c h1, ea c j h1 h2, w4.2 c j h3]
    have e23 : sg_I B 344 23 = sg_I ρ 344 23 := eb 344 23 (by omega) (by omega) (by unfold PL; omega)
    have e58 : sg_I B 358 = sg_I ρ 358 := by funext j; exact eb 358 j (by omega) (by omega) (by unfold PL; omega)
    have B20 : sg_I B 344 20 = Int32.ofNat n := by rw [B3 344 (by omega)]; exact A20
    obtain ⟨C, C1, C2, C3, C4, C5⟩ := tv_v r' (P := fun w => b w 2) (Q := fun w => b w 3) n2 hQ hP n 0 20000 B (by omega) (by omega) B2 e23 e58 B20 (fun w hw => B9 w hw 3 (by omega)) (fun w _ hw => B9 w hw 2 (by omega))
    have B55 : ∀ j, j < 3 → sg_I B 355 j = Int32.ofNat (a j) := fun j hj => by
      rw [B3 355 (by omega), ea 355 j (by omega) (by omega)]
      exact (ha j hj).2.1
    have c0 := B55 0 (by omega)
    have c1 := B55 1 (by omega)
    have c2 := B55 2 (by omega)
    rw [c0, c1, c2] at C1
    have TL : f_X11_tellLantern 20000 0 υ = some (Int32.ofNat n, put_I (put_I (put_I U 24 2 0) 313 3 0) 0 16 0) := by
      have t1' : f_X1_tell_L50 20000 2 20000 (some 17) 0 S = some T := t1
      have u1' : f_X11_tellLantern_L13 20000 0 20000 0 T = some (Int32.ofNat n, put_I (put_I (put_I U 24 2 0) 313 3 0) 0 16 0) := u1
      unfold f_X11_tellLantern
      rw [f_of R2, R13, f_of (p1.trans t1')]
      exact u1'
    have TK : f_X12_takeLantern 20000 344 (put_I φ 344 2 0) = some (Int32.ofNat n, put_I (put_I (put_I (put_I (put_I (put_I C 359 16 (Int32.ofNat (a 0))) 359 17 (Int32.ofNat (a 1))) 359 18 (Int32.ofNat (a 2))) 344 37 0) 344 29 0) 344 40 0) := by
      have A1' : f_X12_takeLantern_L10 20000 344 20000 0 (put_I (put_I φ 344 2 0) 344 20 (Int32.ofNat n)) = f_X12_takeLantern_L32 20000 344 20000 0 A := A1
      have B1' : f_X12_takeLantern_L32 20000 344 20000 0 A = f_X12_takeLantern_L62 20000 344 20000 0 B := B1
      have C1' : f_X12_takeLantern_L62 20000 344 20000 0 B = some (Int32.ofNat n, put_I (put_I (put_I (put_I (put_I (put_I C 359 16 (Int32.ofNat (a 0))) 359 17 (Int32.ofNat (a 1))) 359 18 (Int32.ofNat (a 2))) 344 37 0) 344 29 0) 344 40 0) := C1
      unfold f_X12_takeLantern
      rw [e19, A1', B1', C1']
    have hm : ∀ w, w < n → ∀ k, k < 4 → sg_I U (20 + w) k = sg_I C 359 (4 * w + k) := fun w hw k hk => by
      by_cases e : k = 2
      · subst e
        rw [u4 w (by omega) hw, C5 w (by omega) hw]
      · rw [u3 (20 + w) k (by omega), t4 w (by omega) hw k hk, C4 (4 * w + k) (fun w' _ h2 => by omega), B9 w hw k hk]
    rw [if_neg (show ¬ (1 : Int32) = 0 by decide), if_pos (rfl : (0 : Int32) = 0), f_of TL, if_pos (rfl : (-1 : Int32) = -1), f_of TK]
    unfold f_X11_text_B46
    dsimp only
    rw [if_neg (o_m (by omega))]
    refine ⟨_, _, rfl, rfl, rfl, ⟨?_, ?_⟩, ?_, ?_, ?_, ?_⟩
    · show rl_ (sg_R U) (sg_L U) _ _ (sg_N U)
      rw [u2.2.1, u2.2.2.1, u2.1]
      refine rx_0 (n := n) (a := a) (b := b) r'.1 ⟨n1, n2⟩ (fun j hj => (ha j hj).2.2) (fun w hw j hj => (hb w hw j hj).2.2) hl (fun c j h1 h2 h3 h4 h5 h6 => ?_) gI_e ?_ ?_ ?_ ?_ ?_ ?_ ?_ ?_ ?_ (fun w hw k hk => ?_) (fun c h1 h2 h3 h4 => ?_) (fun j h1 h2 h3 h4 h5 h6 h7 h8 => ?_) ?_ ?_ ?_ ?_ gI_e (fun w hw => ?_) ?_ ?_ ?_ ?_ ?_
      · rw [gI_n (by omega), gI_n (by omega), gI_n (by omega), gI_n (by omega), u3 c j (by omega), t3 c (by omega), p3 c (by omega)]
      · rw [gI_n (by omega), gI_e]
      · rw [gI_n (by omega), gI_n (by omega), gI_n (by omega), gI_e]
      · rw [gI_n (by omega), gI_n (by omega), gI_e]
      · rw [gI_n (by omega), gI_n (by omega), gI_n (by omega), gI_n (by omega), u3 17 1 (by omega), t3 17 (by omega), p4]
        exact n3
      · rw [gI_n (by omega), gI_n (by omega), gI_n (by omega), gI_n (by omega), u3 17 2 (by omega), t3 17 (by omega), p5]
        exact (ha 0 (by omega)).1
      · rw [gI_n (by omega), gI_n (by omega), gI_n (by omega), gI_n (by omega), u3 17 3 (by omega), t3 17 (by omega), p6]
        exact (ha 1 (by omega)).1
      · rw [gI_n (by omega), gI_n (by omega), gI_n (by omega), gI_n (by omega), u3 17 4 (by omega), t3 17 (by omega), p7]
        exact (ha 2 (by omega)).1
      · rw [gI_n (by omega), gI_n (by omega), gI_n (by omega), gI_n (by omega), u3 17 5 (by omega), t3 17 (by omega), p8]
      · rw [gI_n (by omega), gI_n (by omega), gI_n (by omega), gI_n (by omega), u3 17 7 (by omega), t3 17 (by omega), p9]
      · rw [gI_n (by omega), gI_n (by omega), gI_n (by omega), gI_n (by omega), gI_n (by omega), gI_n (by omega), gI_n (by omega), gI_n (by omega), gI_n (by omega), gI_n (by omega)]
        exact hm w hw k hk
      · rw [gI_a h1, gI_a h1, gI_a h1, gI_a h4, gI_a h4, gI_a h4, C3 c h4]
        funext j
        exact eb c j h4 (by omega) (by unfold PL; omega)
      · rw [gI_n (by omega), gI_n (by omega), gI_n (by omega), gI_n (by omega), gI_n (by omega), gI_n (by omega), C3 344 (by omega)]
        exact eb 344 j (by omega) (by omega) (by unfold PL; omega)
      · rw [gI_n (by omega), gI_n (by omega), gI_n (by omega), gI_n (by omega), gI_n (by omega), gI_n (by omega), C3 344 (by omega), B3 344 (by omega), A3 344 (by omega), gI_n (by omega), gI_e]
      · rw [gI_n (by omega), gI_n (by omega), gI_n (by omega), gI_n (by omega), gI_n (by omega), gI_n (by omega), C3 344 (by omega)]
        exact B20
      · rw [gI_n (by omega), gI_e]
      · rw [gI_n (by omega), gI_n (by omega), gI_e]
      · have q0 := B9 w hw 0 (by omega)
        rw [Nat.add_zero] at q0
        have z : ∀ j, j < 4 → j ≠ 2 → sg_I C 359 (4 * w + j) = sg_I B 359 (4 * w + j) := fun j hj h2 => C4 (4 * w + j) (fun w' _ h2 => by omega)
        have z0 := z 0 (by omega) (by omega)
        rw [Nat.add_zero] at z0
        refine ⟨?_, ?_, ?_, ?_⟩
        · rw [gI_n (by omega), gI_n (by omega), gI_n (by omega), gI_n (by omega), gI_n (by omega), gI_n (by omega), z0, q0]
        · rw [gI_n (by omega), gI_n (by omega), gI_n (by omega), gI_n (by omega), gI_n (by omega), gI_n (by omega), z 1 (by omega) (by omega), B9 w hw 1 (by omega)]
        · rw [gI_n (by omega), gI_n (by omega), gI_n (by omega), gI_n (by omega), gI_n (by omega), gI_n (by omega), C5 w (by omega) hw]
        · rw [gI_n (by omega), gI_n (by omega), gI_n (by omega), gI_n (by omega), gI_n (by omega), gI_n (by omega), z 3 (by omega) (by omega), B9 w hw 3 (by omega)]
      · rw [gI_n (by omega), gI_n (by omega), gI_n (by omega), gI_n (by omega), gI_n (by omega), gI_e]
      · rw [gI_n (by omega), gI_n (by omega), gI_n (by omega), gI_n (by omega), gI_e]
      · rw [gI_n (by omega), gI_n (by omega), gI_n (by omega), gI_e]
      · rw [gI_n (by omega), gI_n (by omega), gI_n (by omega), gI_n (by omega), gI_n (by omega), gI_n (by omega), C4 19 (fun w' _ h2 => by omega), B4 19 (by omega), A5 19 (by omega) (by omega)]
      · rw [gI_n (by omega), gI_n (by omega), gI_n (by omega), gI_n (by omega), gI_n (by omega), gI_n (by omega), C4 20 (fun w' _ h2 => by omega), B4 20 (by omega), A5 20 (by omega) (by omega)]
    · exact rs_q (fun c _ _ => ⟨by show sg_R C c = _; rw [C2.2.1], by show sg_L C c = _; rw [C2.2.2.1]⟩) r.2
    · refine kc.2.2.tr (fun c h1 h2 => ⟨?_, by show sg_R U c = _; rw [u2.2.1], by show sg_L U c = _; rw [u2.2.2.1], by show sg_J U c = _; rw [u2.2.2.2.1]⟩)
      rw [gI_a (by omega), gI_a (by omega), gI_a (by omega), gI_a (by omega)]
      funext j
      rw [u3 c j (by omega), t3 c (by omega), p3 c (by omega)]
    · refine ⟨C2.1, fun c hc => ⟨?_, by show sg_R C c = _; rw [C2.2.1], by show sg_L C c = _; rw [C2.2.2.1]⟩⟩
      rw [gI_a (by omega), gI_a (by omega), gI_a (by omega), gI_a (by omega), gI_a (by omega), gI_a (by omega), C3 c (by omega)]
      funext j
      exact eb c j (by omega) (by omega) (by unfold PL; omega)
    · show sg_N U ≤ _
      rw [u2.1, kc.1]
      omega
    · show sg_S U ≤ _
      have x1 := sS_k u2.1 u2.2.2.2.2 (fun c => by rw [u2.2.2.1])
      have x2 := sS_k kc.1 hK kc.ll
      omega
