theorem p2_text_ : so_text p2_I 20000 := by
  intro x1 σ r0 hB
  have h : ∀ ρ, Rel σ ρ → TX σ ρ (f_X11_text 20000 0 x1 σ) (f_X12_text 20000 344 x1 ρ) := by
    intro ρ r
    by_cases c0 : x1 = 0
    · subst c0
      exact tx_0 r hB
    by_cases c1 : x1 = 1
    · subst c1
      exact tx_l r hB
    by_cases c2 : x1 = 2
    · subst c2
      exact tx_s r hB
    · unfold f_X11_text f_X12_text f_X12_text_B22 f_X12_text_B69
      rw [f_of (rd_n ⟨c0, c1, c2⟩)]
      dsimp only
      rw [if_neg c0, if_neg c1, if_neg c2]
      exact TX.k r KC.rf KR.rf rfl
  obtain ⟨p, -, h1, -, -, -, h2, -⟩ := h σ r0
  obtain ⟨p', q, g1, g2, g3, g4, g5, g6, g7, g8⟩ := h p.2 (r0.ref h2)
  rw [h1] at g1
  cases g1
  exact ⟨p, q, h1, g2, g3, g4.cls g6, g7, g8⟩
