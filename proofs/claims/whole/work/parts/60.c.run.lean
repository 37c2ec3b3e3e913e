theorem cl_1 {N n b e i : Nat} {σ : Sg} {C A B : List Int32} {t : Tk} {lt : Nat → Int32} {s : List Int32} {ks ks' : List Bool} (h : Lz_ σ b e C lt s) (eC : C = A ++ tk_c t :: B) (ei : A.length = i) (hC : C.length ≤ 720) (hk : ck_1 t ks = some ks') (hs : okv ks s) (hl : ∀ k, k < 6 → -1000000 ≤ (lt k).toInt ∧ (lt k).toInt ≤ 1000000) (h64 : s.length ≤ 62) : ∃ τ, f_X2_worth_L7 N b (n + 1) (some e) (Int32.ofNat i) σ = f_X2_worth_L7 N b n (some e) (Int32.ofNat (i + 1)) τ ∧ Lz_ τ b e C lt (ev_1 lt t s) ∧ KL b σ τ := by
  obtain ⟨hc, -⟩ := ck_c hk hs hl
  rcases hc with ⟨c0, c1, c2, c3, c4⟩ | ⟨c0, c1, c2, c3, c4⟩ | ⟨c0, a, r, c1, c2, c3⟩ | ⟨c0, a, d, r, c1, c2, c3, c4, c5⟩
  · rw [tk_n c0] at eC
    rw [c4]
    exact cl_a h eC ei hC c1 c3
  · obtain ⟨m, m1, m2⟩ := x_ob (B := 5) ⟨c1, c2⟩
    rw [tk_l c0, m2] at eC
    rw [c4, m2, o_tn (by omega)]
    exact cl_b h eC ei hC m1 c3
  · subst c1
    rw [tk_9 c0] at eC
    rw [c3]
    exact cl_c h eC ei hC (by rw [List.length_cons] at h64; exact h64)
  · subst c1
    rw [c5]
    exact cl_d h eC ei hC (by rw [List.length_cons, List.length_cons] at h64; exact h64) (s2_c c0) (jc_v (v := t.2) c0 c2 c3 c4)
theorem ck_len {t : Tk} {ks ks' : List Bool} (h : ck_1 t ks = some ks') (hl : ks.length ≤ 62) : ks'.length ≤ 62 := by
  unfold ck_1 at h
  split at h
  · split at h
    · rename_i q
      cases h
      simp
      omega
    · cases h
  · split at h
    · split at h
      · cases h; exact hl
      · cases h
    · split at h
      · split at h
        · cases h
          simp at hl ⊢
          omega
        · cases h
      · split at h
        · split at h
          · cases h
            simp at hl ⊢
            omega
          · cases h
        · split at h
          · split at h
            · cases h
              simp at hl ⊢
              omega
            · cases h
          · cases h
theorem cl_l {N b e : Nat} {C : List Int32} {lt : Nat → Int32} (hC : C.length ≤ 720) (hl : ∀ k, k < 6 → -1000000 ≤ (lt k).toInt ∧ (lt k).toInt ≤ 1000000) : ∀ (l : List Tk) (n : Nat) (σ : Sg) (A B : List Int32) (s : List Int32) (ks ks' : List Bool), Lz_ σ b e C lt s → C = A ++ (l.map tk_c ++ B) → ck_ l ks = some ks' → okv ks s → ks.length ≤ 62 → ∃ τ, f_X2_worth_L7 N b (n + l.length) (some e) (Int32.ofNat A.length) σ = f_X2_worth_L7 N b n (some e) (Int32.ofNat (A.length + l.length)) τ ∧ Lz_ τ b e C lt (ev_ lt l s) ∧ KL b σ τ ∧ okv ks' (ev_ lt l s) := by
  intro l
  induction l with
  | nil =>
    intro n σ A B s ks ks' h eC hk hs h62
    cases hk
    exact ⟨σ, rfl, h, KL.rf, hs⟩
  | cons t l ih =>
    intro n σ A B s ks ks' h eC hk hs h62
    have hk : (ck_1 t ks).bind (ck_ l) = some ks' := hk
    cases h1 : ck_1 t ks with
    | none => rw [h1] at hk; cases hk
    | some k1 =>
      rw [h1] at hk
      have hlen := okv_len hs
      obtain ⟨υ, u1, u2, u3⟩ := cl_1 (N := N) (n := n + l.length) h (A := A) (B := l.map tk_c ++ B) eC rfl hC h1 hs hl (by omega)
      have ok1 := (ck_c h1 hs hl).2
      have h62' : k1.length ≤ 62 := ck_len h1 h62
      obtain ⟨τ, t1, t2, t3, t4⟩ := ih n υ (A ++ [tk_c t]) B _ k1 ks' u2 (by rw [eC]; simp) hk ok1 h62'
      refine ⟨τ, ?_, t2, u3.tr t3, t4⟩
      have e1 : (A ++ [tk_c t]).length = A.length + 1 := by simp
      rw [e1] at t1
      have e2 : n + (t :: l).length = n + l.length + 1 := by simp; omega
      have e3 : A.length + (t :: l).length = A.length + 1 + l.length := by simp; omega
      rw [e2, e3, u1, t1]
/-! the reference's machine -/
def KT (σ τ : Sg) : Prop := kp_ σ τ ∧ ∀ a, a ≠ 354 → sg_I τ a = sg_I σ a
theorem KT.rf {σ : Sg} : KT σ σ := ⟨kp_.rf, fun _ _ => rfl⟩
theorem KT.tr {σ τ υ : Sg} (h : KT σ τ) (k : KT τ υ) : KT σ υ := ⟨h.1.tr k.1, fun a h1 => (k.2 a h1).trans (h.2 a h1)⟩
theorem KT.put {σ : Sg} {j : Nat} {v : Int32} : KT σ (put_I σ 354 j v) := ⟨kp_.put, fun _ h => gI_a h⟩
