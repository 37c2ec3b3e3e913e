theorem sS_k {σ τ : Sg} (hN : sg_N τ = sg_N σ) (hK : sg_K τ = sg_K σ) (hL : ∀ a, sg_L τ a = sg_L σ a) : sg_S τ = sg_S σ := by
  have hL : sg_L τ = sg_L σ := funext hL
  unfold sg_S
  rw [hN, hK, hL]
theorem KC.ll {σ τ : Sg} (h : KC σ τ) (a : Nat) : sg_L τ a = sg_L σ a := by
  by_cases c : a < 344 ∨ 370 < a
  · exact h.2.1.1 a c
  · exact (h.2.2 a (by omega) (by omega)).2.2.1
/-- what a text must do, on both sides -/
def TX (σ ρ : Sg) (A B : Option (Int32 × Sg)) : Prop := ∃ p q, A = some p ∧ B = some q ∧ p.1 = q.1 ∧ Rel p.2 q.2 ∧ FC σ p.2 ∧ FR ρ q.2 ∧ sg_N p.2 ≤ 3 + sg_N σ ∧ sg_S p.2 ≤ 800 + sg_S σ
theorem TX.k {σ ρ υ φ : Sg} (r : Rel σ ρ) {v : Int32} (kc : KC σ υ) (kr : KR ρ φ) (hK : sg_K υ = sg_K σ) : TX σ ρ (some (v, υ)) (some (v, φ)) := ⟨_, _, rfl, rfl, rfl, kr.rel (kc.rel r), kc.2.2, kr.2.1, by show sg_N υ ≤ _; rw [kc.1]; omega, by show sg_S υ ≤ _; rw [sS_k kc.1 hK kc.ll]; omega⟩
theorem tx_s {σ ρ : Sg} (r : Rel σ ρ) (hB : lw_B σ) : TX σ ρ (f_X11_text 20000 0 2 σ) (f_X12_text 20000 344 2 ρ) := by
  obtain ⟨k2, k6, k9⟩ := kd_v r.cf hB
  obtain ⟨k, s1, s2, s3, -⟩ := r.1.2.2.2.1
  unfold f_X12_text f_X12_text_B22 f_X12_text_B69
  rw [if_neg (by decide), if_neg (by decide), if_pos rfl, s3]
  by_cases c6 : k < 6
  · obtain ⟨τ, t1, t2, t3, t4, c, υ, e, φ, w1, w2, w3, w4, w5⟩ := rd_s r (s := k) (by omega)
    have kc : KC σ υ := t2.tr w3.kc
    have hK : sg_K υ = sg_K σ := w3.1.2.2.2.2.trans t3
    rw [if_pos (by rw [l_6, o_lt (by omega) (by omega)]; exact c6), f_of w2]
    dsimp only
    unfold f_X11_text
    rw [f_of t1]
    dsimp only
    rw [if_neg (by rw [t3, k9]; decide), if_neg (by rw [t3, k9]; decide), f_of w1]
    dsimp only
    rcases w5 with ⟨rfl, w6, w7⟩ | ⟨rfl, rfl, n, n1, n2, n3, n4, n5⟩
    · rw [if_pos rfl, if_neg w7]
      exact TX.k r kc (w4.kr s3 s1 (Nat.le_refl k)) hK
    · have r' : Rel υ ρ := kc.rel r
      have e9 : sg_I υ 0 9 = Int32.ofNat k := by rw [kc.2.1.2.2 0 9 (scI_lo (by omega))]; exact s2
      obtain ⟨τ2, y1, y2, y3, y4, y5, y6, y7, y8, y9⟩ := ts_v r'.cf r'.1.2.1 e9 c6 n3 n2
      have h371 : 371 ≤ sg_N υ := r'.1.2.1
      have e23 : sg_I (put_I φ 344 2 0) 344 23 = Int32.ofNat k := by rw [gI_n (by omega), w4.2.2.1 23 (by decide) (by decide)]; exact s3
      rw [if_neg (show ¬ (1 : Int32) = 0 by decide), if_neg (show ¬ (2 : Int32) = 0 by decide), if_neg (show ¬ (2 : Int32) = 1 by decide), f_of y1, if_pos rfl, e23, o_s k, gI_e]
      unfold f_X11_text_B46
      dsimp only
      rw [if_neg (o_m (by omega)), show Int32.ofNat (k + 1) - 1 = Int32.ofNat k by rw [l_1, o_sub (by omega)]; rfl]
      have hN : sg_N (put_I τ2 0 1 0) = sg_N υ + 2 := y2
      refine ⟨_, _, rfl, rfl, rfl, ⟨?_, ?_⟩, ?_, ?_, ?_, ?_⟩
      · show rl_ _ _ _ _ (sg_N (put_I τ2 0 1 0))
        rw [hN]
        refine rx_s (k := k) (n := n) r'.1 e9 c6 ⟨n1, n2⟩ (fun a j h1 h2 h3 => ?_) ?_ gI_e (fun a j h1 h2 => ?_) ?_ y6 (fun a ha => (y3 a ha).1) y4 (fun a h1 h2 h3 => ?_) (fun j h1 h2 h3 h4 => ?_) ?_ gI_e (fun j hj => ?_) (fun j hj => ?_) ?_ (fun i hi => ?_)
        · rw [gI_n (by omega), y7 a j h1, if_neg (by omega)]
        · rw [gI_n (by omega), y7 0 9 (by omega), if_pos ⟨rfl, rfl⟩]
        · show sg_R τ2 a j = _
          rw [y5 a j h1, if_neg h2]
        · show sg_R τ2 13 k = _
          rw [y5 13 k (by omega), if_pos ⟨rfl, rfl⟩]
        · rw [gI_a h1, gI_a h1, w4.2.1 a h1 h2 h3]
        · rw [gI_n (by omega), gI_n (by omega), w4.2.2.1 j h2 h3]
        · rw [gI_n (by omega), gI_e]
        · rw [gI_n (by omega), gI_n (by omega), w4.2.2.2.1 j hj]
        · rw [gI_n (by omega), gI_n (by omega), w4.2.2.2.2 j hj]
        · rw [gI_n (by omega), gI_n (by omega)]
          exact n4
        · rw [gI_n (by omega), gI_n (by omega), gI_n (by omega), y8 i hi]
          exact n5 i hi
      · exact rs_q (fun a _ _ => ⟨by show sg_R φ a = _; rw [w4.1.2.1], by show sg_L φ a = _; rw [w4.1.2.2.1]⟩) r.2
      · refine kc.2.2.tr (fun a h1 h2 => ⟨?_, ?_, (y3 a (by omega)).1, (y3 a (by omega)).2⟩)
        · rw [gI_a (by omega)]
          funext j
          rw [y7 a j (by omega), if_neg (by omega)]
        · funext j
          show sg_R τ2 a j = _
          rw [y5 a j (by omega), if_neg (by omega)]
      · refine ⟨w4.1.1, fun a ha => ⟨?_, by show sg_R φ a = _; rw [w4.1.2.1], by show sg_L φ a = _; rw [w4.1.2.2.1]⟩⟩
        rw [gI_a (by omega), gI_a (by omega), w4.2.1 a (by omega) (by omega) (by omega)]
      · rw [hN, kc.1]
        omega
      · show sg_S τ2 ≤ _
        have := sS_k kc.1 hK kc.ll
        omega
  · obtain ⟨τ, t1, t2, t3, t4, c, υ, e, φ, w1, w2, w3, w4, w5⟩ := rd_s r (s := 6) (by omega)
    have kc : KC σ υ := t2.tr w3.kc
    have hK : sg_K υ = sg_K σ := w3.1.2.2.2.2.trans t3
    have r' : Rel υ ρ := kc.rel r
    have cf := r'.cf
    have R8 : sg_R υ 0 8 = some 13 := by simp only [cf]
    have L13 : sg_L υ 13 = 6 := by simp only [cf]
    have e9 : sg_I υ 0 9 = Int32.ofNat k := by rw [kc.2.1.2.2 0 9 (scI_lo (by omega))]; exact s2
    rw [if_neg (by rw [l_6, o_lt (by omega) (by omega)]; exact c6)]
    unfold f_X11_text
    rw [f_of t1]
    dsimp only
    rw [if_neg (by rw [t3, k9]; decide), if_neg (by rw [t3, k9]; decide), f_of w1]
    dsimp only
    rcases w5 with ⟨rfl, w6, w7⟩ | ⟨rfl, rfl, -⟩
    · rw [if_pos rfl]
      exact TX.k r kc KR.rf hK
    · unfold f_X11_tellStrip f_X11_text_B46
      rw [if_neg (show ¬ (1 : Int32) = 0 by decide), if_neg (show ¬ (2 : Int32) = 0 by decide), if_neg (show ¬ (2 : Int32) = 1 by decide), f_of R8, L13, e9, if_neg (by rw [o_lt (by omega) (by omega)]; omega), f_of rfl]
      dsimp only
      rw [if_pos rfl]
      exact TX.k r kc KR.rf hK
