theorem rl_1 {N n i o z : Nat} {v : Int32} {ρ : Sg} {t : Tk} {lt : Nat → Int32} {s : List Int32} {ks ks' : List Bool} (d : RF (sg_R ρ) (sg_L ρ)) (hi : i < 5) (ho : o < z) (hz : z ≤ 520) (ez : v = Int32.ofNat z) (e1 : sg_I ρ 346 (520 * i + o) = t.1) (e2 : sg_I ρ 347 (520 * i + o) = t.2) (el : ∀ k, k < 6 → sg_I ρ 353 k = lt k) (S : sk_ (sg_I ρ 354) s) (hk : ck_1 t ks = some ks') (hs : okv ks s) (hl : ∀ k, k < 6 → -1000000 ≤ (lt k).toInt ∧ (lt k).toInt ≤ 1000000) (h64 : s.length ≤ 62) : ∃ τ, f_X12_workOut_L12 N 344 (n + 1) (Int32.ofNat i) v (Int32.ofNat s.length) (Int32.ofNat (520 * i + o)) ρ = f_X12_workOut_L12 N 344 n (Int32.ofNat i) v (Int32.ofNat (ev_1 lt t s).length) (Int32.ofNat (520 * i + (o + 1))) τ ∧ KT ρ τ ∧ sk_ (sg_I τ 354) (ev_1 lt t s) := by
  subst ez
  obtain ⟨hc, -⟩ := ck_c hk hs hl
  rcases hc with ⟨c0, c1, c2, c3, c4⟩ | ⟨c0, c1, c2, c3, c4⟩ | ⟨c0, a, r, c1, c2, c3⟩ | ⟨c0, a, b, r, c1, c2, c3, c4, c5⟩
  · rw [c4]
    exact ⟨put_I ρ 354 s.length t.2, rl_a (lt := lt) d hi ho hz e1 e2 c0 h64, KT.put, sk_cons S gI_e (fun i hi => gI_n (by omega))⟩
  · rw [c4]
    exact ⟨put_I ρ 354 s.length (lt t.2.toNatClampNeg), rl_b d hi ho hz e1 e2 el c0 c1 c2 h64, KT.put, sk_cons S gI_e (fun i hi => gI_n (by omega))⟩
  · subst c1
    rw [c3]
    exact ⟨put_I ρ 354 r.length (1 - a), rl_c0 (lt := lt) d hi ho hz e1 e2 (sk_top S) c0 (by rw [List.length_cons] at h64; exact h64), KT.put, sk_cons (sk_tl S) gI_e (fun i hi => gI_n (by omega))⟩
  · subst c1
    have n0 : ¬ t.1 = 0 := by rcases c0 with q | q | q | q | q | q | q | q | q <;> rw [q] <;> decide
    have n1 : ¬ t.1 = 1 := by rcases c0 with q | q | q | q | q | q | q | q | q <;> rw [q] <;> decide
    have n9 : ¬ t.1 = 9 := by rcases c0 with q | q | q | q | q | q | q | q | q <;> rw [q] <;> decide
    rw [c5]
    exact ⟨put_I ρ 354 r.length (jn_ t.1 a b), rl_d (lt := lt) d hi ho hz e1 e2 (sk_top (sk_tl S)) (sk_top S) n0 n1 n9 (jn_b (a := a) (b := b) c0).1 (by rw [List.length_cons, List.length_cons] at h64; exact h64), KT.put, sk_cons (sk_tl (sk_tl S)) gI_e (fun i hi => gI_n (by omega))⟩
theorem rl_l {N i z : Nat} {v : Int32} {lt : Nat → Int32} (hi : i < 5) (hz : z ≤ 520) (ez : v = Int32.ofNat z) (hl : ∀ k, k < 6 → -1000000 ≤ (lt k).toInt ∧ (lt k).toInt ≤ 1000000) : ∀ (l : List Tk) (n o : Nat) (ρ : Sg) (s : List Int32) (ks ks' : List Bool), RF (sg_R ρ) (sg_L ρ) → o + l.length = z → (∀ j, j < l.length → sg_I ρ 346 (520 * i + (o + j)) = (l.getD j (0, 0)).1 ∧ sg_I ρ 347 (520 * i + (o + j)) = (l.getD j (0, 0)).2) → (∀ k, k < 6 → sg_I ρ 353 k = lt k) → sk_ (sg_I ρ 354) s → ck_ l ks = some ks' → okv ks s → ks.length ≤ 62 → ∃ τ, f_X12_workOut_L12 N 344 (n + l.length) (Int32.ofNat i) v (Int32.ofNat s.length) (Int32.ofNat (520 * i + o)) ρ = f_X12_workOut_L12 N 344 n (Int32.ofNat i) v (Int32.ofNat (ev_ lt l s).length) (Int32.ofNat (520 * i + z)) τ ∧ KT ρ τ ∧ sk_ (sg_I τ 354) (ev_ lt l s) ∧ okv ks' (ev_ lt l s) := by
  intro l
  induction l with
  | nil =>
    intro n o ρ s ks ks' d eo ex el S hk hs h62
    cases hk
    have : o = z := by simpa using eo
    subst this
    exact ⟨ρ, rfl, KT.rf, S, hs⟩
  | cons t l ih =>
    intro n o ρ s ks ks' d eo ex el S hk hs h62
    have eo : o + (l.length + 1) = z := by simpa using eo
    have hk : (ck_1 t ks).bind (ck_ l) = some ks' := hk
    cases h1 : ck_1 t ks with
    | none => rw [h1] at hk; cases hk
    | some k1 =>
      rw [h1] at hk
      have hlen := okv_len hs
      obtain ⟨x1, x2⟩ := ex 0 (by simp)
      obtain ⟨υ, u1, u2, u3⟩ := rl_1 (N := N) (n := n + l.length) (t := t) d hi (show o < z by omega) hz ez x1 x2 el S h1 hs hl (by omega)
      have ok1 := (ck_c h1 hs hl).2
      have h62' : k1.length ≤ 62 := ck_len h1 h62
      obtain ⟨τ, t1, t2, t3, t4⟩ := ih n (o + 1) υ _ k1 ks' (by rw [u2.1.2.1, u2.1.2.2.1]; exact d) (by omega) (fun j hj => by
        have q := ex (j + 1) (by simp; omega)
        rw [show o + (j + 1) = o + 1 + j by omega] at q
        rw [u2.2 346 (by decide), u2.2 347 (by decide)]
        simpa using q) (fun k hk => by rw [u2.2 353 (by decide)]; exact el k hk) u3 hk ok1 h62'
      refine ⟨τ, ?_, u2.tr t2, t3, t4⟩
      have e2 : n + (t :: l).length = n + l.length + 1 := by simp; omega
      rw [e2, u1, t1]
      rfl
