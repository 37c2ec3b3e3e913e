theorem tx_l {σ ρ : Sg} (r : Rel σ ρ) (hB : lw_B σ) : TX σ ρ (f_X11_text 20000 0 1 σ) (f_X12_text 20000 344 1 ρ) := by
  obtain ⟨k2, k6, k9⟩ := kd_v r.cf hB
  obtain ⟨k, s1, s2, s3, -⟩ := r.1.2.2.2.2.1
  unfold f_X12_text f_X12_text_B22
  rw [if_neg (by decide), if_pos rfl, s3]
  have b69 : ∀ τ, f_X12_text_B69 20000 344 1 τ = some (-1, τ) := fun τ => by
    unfold f_X12_text_B69
    rw [if_neg (by decide)]
  by_cases c4 : k < 4
  · obtain ⟨τ, t1, t2, t3, t4, c, υ, e, φ, w1, w2, w3, w4, w5⟩ := rd_1 r (i := k) (by omega)
    have kc : KC σ υ := t2.tr w3.kc
    have hK : sg_K υ = sg_K σ := w3.1.2.2.2.2.trans t3
    have s3' : sg_I (put_I ρ 344 14 (Int32.ofNat k)) 344 13 = Int32.ofNat k := by rw [gI_n (by omega)]; exact s3
    rw [if_pos (by rw [l_4, o_lt (by omega) (by omega)]; exact c4), f_of w2]
    dsimp only
    unfold f_X11_text
    rw [f_of t1]
    dsimp only
    rw [if_neg (by rw [t3, k6]; decide), if_pos (by rw [t3]; exact k6), f_of w1]
    dsimp only
    rcases w5 with ⟨rfl, w6, w7⟩ | ⟨rfl, rfl, K, n1, n2, n3, n4, n5, n6, n7⟩
    · rw [if_pos rfl, if_neg w7, b69]
      exact TX.k r kc ((KR.put (by omega)).tr (w4.kr s3' s1 (Nat.le_refl k))) hK
    · have r' : Rel υ ρ := kc.rel r
      have e6 : sg_I υ 0 6 = Int32.ofNat k := by rw [kc.2.1.2.2 0 6 (scI_lo (by omega))]; exact s2
      obtain ⟨τ2, y1, y2, y3, y4, y4', y5, y6, y6', y7, y8, y9⟩ := tla_v r'.cf r'.1.2.1 e6 c4 n1.1 n5
      have h371 : 371 ≤ sg_N υ := r'.1.2.1
      have e13 : sg_I (put_I φ 344 2 0) 344 13 = Int32.ofNat k := by rw [gI_n (by omega), w4.2.2.1 13 (by decide) (by decide) (by decide)]; exact s3'
      rw [if_neg (show ¬ (1 : Int32) = 0 by decide), if_neg (show ¬ (1 : Int32) = 0 by decide), if_pos rfl, f_of y1, if_pos rfl, e13, o_s k, gI_e]
      unfold f_X11_text_B39 f_X11_text_B46
      dsimp only
      rw [if_neg (o_m (by omega)), show Int32.ofNat (k + 1) - 1 = Int32.ofNat k by rw [l_1, o_sub (by omega)]; rfl]
      have hN : sg_N (put_I τ2 0 1 0) = sg_N υ + 3 := y2
      refine ⟨_, _, rfl, rfl, rfl, ⟨?_, ?_⟩, ?_, ?_, ?_, ?_⟩
      · show rl_ _ _ _ _ (sg_N (put_I τ2 0 1 0))
        rw [hN]
        refine rx_l (k := k) (K := K) r'.1 e6 c4 (fun a j h1 h2 h3 => ?_) ?_ gI_e (fun a j h1 h2 => ?_) ?_ y6 y6' (fun a ha => (y3 a ha).1) y4 y4' (fun a h1 => ?_) (fun j h1 h2 h3 h4 h5 h6 => ?_) ?_ gI_e (fun j hj => ?_) (fun j hj => ?_) (fun j hj => ?_) (fun j hj => ?_) (fun j hj => ?_) ⟨?_, fun c hc => ?_⟩ n4 n5 n6 n7
        · rw [gI_n (by omega), y7 a j h1, if_neg (by omega)]
        · rw [gI_n (by omega), y7 0 6 (by omega), if_pos ⟨rfl, rfl⟩]
        · show sg_R τ2 a j = _
          rw [y5 a j h1, if_neg h2]
        · show sg_R τ2 12 k = _
          rw [y5 12 k (by omega), if_pos ⟨rfl, rfl⟩]
        · rw [gI_a (by omega), gI_a (by omega), w4.2.1 a (by omega), gI_a (by omega)]
        · rw [gI_n (by omega), gI_n (by omega), w4.2.2.1 j h2 h3 h4, gI_n (by omega)]
        · rw [gI_n (by omega), gI_e]
        · rw [gI_n (by omega), gI_n (by omega), gI_n (by omega), gI_n (by omega), (w4.2.2.2.1 j hj).1, (w4.2.2.2.1 j hj).2, gI_n (by omega), gI_n (by omega)]
          exact ⟨rfl, rfl⟩
        · rw [gI_a (by omega), gI_a (by omega), gI_a (by omega), gI_a (by omega), gI_a (by omega), gI_a (by omega), (w4.2.2.2.2.1 j hj).1, (w4.2.2.2.2.1 j hj).2.1, (w4.2.2.2.2.1 j hj).2.2, gI_a (by omega), gI_a (by omega), gI_a (by omega)]
          exact ⟨rfl, rfl, rfl⟩
        · rw [gI_n (by omega), gI_n (by omega), w4.2.2.2.2.2 j hj, gI_n (by omega)]
        · rw [gI_n (by omega), y8 j hj]
          exact n1.2 j hj
        · rw [gI_n (by omega), gI_n (by omega), gI_n (by omega), gI_n (by omega)]
          exact n2.2 j hj
        · rw [gI_n (by omega), gI_n (by omega)]
          exact n3.1
        · rw [gI_a (by omega), gI_a (by omega), gI_a (by omega), gI_a (by omega), gI_a (by omega), gI_a (by omega)]
          exact n3.2 c hc
      · exact rs_q (fun a _ _ => ⟨by show sg_R φ a = _; rw [w4.1.2.1]; rfl, by show sg_L φ a = _; rw [w4.1.2.2.1]; rfl⟩) r.2
      · refine kc.2.2.tr (fun a h1 h2 => ⟨?_, ?_, (y3 a (by omega)).1, (y3 a (by omega)).2⟩)
        · rw [gI_a (by omega)]
          funext j
          rw [y7 a j (by omega), if_neg (by omega)]
        · funext j
          show sg_R τ2 a j = _
          rw [y5 a j (by omega), if_neg (by omega)]
      · refine ⟨w4.1.1, fun a ha => ⟨?_, by show sg_R φ a = _; rw [w4.1.2.1]; rfl, by show sg_L φ a = _; rw [w4.1.2.2.1]; rfl⟩⟩
        rw [gI_a (by omega), gI_a (by omega), w4.2.1 a (by omega), gI_a (by omega)]
      · rw [hN, kc.1]
        omega
      · show sg_S τ2 ≤ _
        have := sS_k kc.1 hK kc.ll
        omega
  · obtain ⟨τ, t1, t2, t3, t4, c, υ, e, φ, w1, w2, w3, w4, w5⟩ := rd_1 r (i := 4) (by omega)
    have kc : KC σ υ := t2.tr w3.kc
    have hK : sg_K υ = sg_K σ := w3.1.2.2.2.2.trans t3
    have r' : Rel υ ρ := kc.rel r
    have cf := r'.cf
    have R5 : sg_R υ 0 5 = some 12 := by simp only [cf]
    have L12 : sg_L υ 12 = 4 := by simp only [cf]
    have e6 : sg_I υ 0 6 = Int32.ofNat k := by rw [kc.2.1.2.2 0 6 (scI_lo (by omega))]; exact s2
    rw [if_neg (by rw [l_4, o_lt (by omega) (by omega)]; exact c4), b69]
    unfold f_X11_text
    rw [f_of t1]
    dsimp only
    rw [if_neg (by rw [t3, k6]; decide), if_pos (by rw [t3]; exact k6), f_of w1]
    dsimp only
    rcases w5 with ⟨rfl, w6, w7⟩ | ⟨rfl, rfl, -⟩
    · rw [if_pos rfl]
      exact TX.k r kc KR.rf hK
    · unfold f_X11_tellLaw f_X11_text_B39 f_X11_text_B46
      rw [if_neg (show ¬ (1 : Int32) = 0 by decide), if_neg (show ¬ (1 : Int32) = 0 by decide), if_pos rfl, f_of R5, L12, e6, if_neg (by rw [o_lt (by omega) (by omega)]; omega), f_of rfl]
      dsimp only
      rw [if_pos rfl]
      exact TX.k r kc KR.rf hK
