/-! ===== texts: the tie anew ===== -/
theorem bd_m {h h' : Nat → Nat → Int32} {b o b' o' n : Nat} (hn : n ≤ 4) (lm : ∀ r : Int32, 0 ≤ r.toInt → ln_ h r ≤ ln_ h' r) (q : hq_ h' b' o' h b o) (d : bd_ h b o n) : bd_ h' b' o' n := by
  obtain ⟨d1, d2, d3, d4, d5⟩ := d
  unfold bd_
  rw [q 16 (by omega), q 17 (by omega), q 18 (by omega), q 19 (by omega)]
  refine ⟨d1, d2, d3, d4, fun w hw => ?_⟩
  obtain ⟨f1, f2, ⟨f3, f4⟩, f5⟩ := d5 w hw
  rw [Nat.add_assoc o' (4 * w) 1, Nat.add_assoc o' (4 * w) 2, Nat.add_assoc o' (4 * w) 3, q (4 * w) (by omega), q (4 * w + 1) (by omega), q (4 * w + 2) (by omega), q (4 * w + 3) (by omega), ← Nat.add_assoc o (4 * w) 1, ← Nat.add_assoc o (4 * w) 2, ← Nat.add_assoc o (4 * w) 3]
  exact ⟨f1, f2, ⟨f3, Int.lt_of_lt_of_le f4 (lm _ f5.1)⟩, f5⟩
theorem sc_m {g h g' h' : Nat → Nat → Int32} {s b o n : Nat} (hn : n ≤ 4) (p : sq_ g' s g s) (q : hq_ h' b o h b o) (lm : ∀ r : Int32, 0 ≤ r.toInt → ln_ h r ≤ ln_ h' r) (d : sc_ g h s b o n) : sc_ g' h' s b o n := by
  obtain ⟨d1, d2, d3, d4, d5, d6, d7, d8⟩ := d
  refine ⟨?_, ?_, ?_, ?_, ?_, ?_, lg_q p q d7, fun h0 => bd_m hn lm q (d8 h0)⟩
  · rw [p.1 1 (by omega) (by omega) (by omega)]; exact d1
  · rw [p.1 2 (by omega) (by omega) (by omega), q 16 (by omega)]; exact d2
  · rw [p.1 3 (by omega) (by omega) (by omega), q 17 (by omega)]; exact d3
  · rw [p.1 4 (by omega) (by omega) (by omega), q 18 (by omega)]; exact d4
  · rw [p.1 5 (by omega) (by omega) (by omega), q 19 (by omega)]; exact d5
  · intro w hw k hk
    rw [p.2.2 w (by omega) k hk, Nat.add_assoc o (4 * w) k, q _ (by omega), ← Nat.add_assoc o (4 * w) k]
    exact d6 w hw k hk
theorem sw_m {g h g' h' : Nat → Nat → Int32} (E : ∀ a j, 17 ≤ a → a < 313 → g' a j = g a j) (E1 : g' 0 16 = g 0 16) (F : ∀ a, a = 359 ∨ a = 361 ∨ a = 369 → h' a = h a) (F1 : ∀ j, j = 20 ∨ j = 29 ∨ j = 40 → h' 344 j = h 344 j) (lm : ∀ r : Int32, 0 ≤ r.toInt → ln_ h r ≤ ln_ h' r) (d : sw_ g h) : sw_ g' h' := by
  obtain ⟨n, d1, d2, d3, ⟨m, x, m1, m2, m3, m4, m5, m6⟩, d5, d6⟩ := d
  refine ⟨n, d1, by rw [F1 20 (by omega)]; exact d2, sc_m d1 (sq_r fun a j h1 h2 => E a j (by omega) (by omega)) (hq_r (F 359 (by omega))) lm d3, ⟨m, x, m1, m2, ?_, ?_, ?_, ?_⟩, ?_, ?_⟩
  · rw [E 24 2 (by omega) (by omega)]; exact m3
  · rw [F1 29 (by omega)]; exact m4
  · rw [E 24 1 (by omega) (by omega)]; exact m5
  · intro i hi
    have := Nat.mod_lt (x + 39 - i) (show 0 < 40 by omega)
    exact sc_m d1 (sq_r fun a j h1 h2 => E a j (by omega) (by omega)) (hq_r (F 361 (by omega))) lm (m6 i hi)
  · rw [E1, F1 40 (by omega)]; exact d5
  · rw [E1]
    rcases d6 with d6 | ⟨q1, q2, q3⟩
    · exact Or.inl d6
    · exact Or.inr ⟨q1, q2, sc_m d1 (sq_r fun a j h1 h2 => E a j (by omega) (by omega)) (hq_r (F 369 (by omega))) lm q3⟩
theorem cs_x {R R' : Nat → Nat → Option Nat} {L L' : Nat → Nat} (hR : ∀ a j, a < 344 → a ≠ 12 → a ≠ 13 → R' a j = R a j) (hL : ∀ a, a < 344 → L' a = L a) (h : cs_ R L) : cs_ R' L' := by
  obtain ⟨h1, h2, h3, h4, h5, h6⟩ := h
  have hs : ∀ s, 14 ≤ s → s + 6 < 344 → sn_ R L s → sn_ R' L' s := by
    intro s b1 b2 ⟨q1, q2, q3, q4, q5⟩
    exact ⟨by rw [hR s 0 (by omega) (by omega) (by omega)]; exact q1, by rw [hR s 6 (by omega) (by omega) (by omega)]; exact q2, fun w hw => by rw [hR (s + 1) w (by omega) (by omega) (by omega)]; exact q3 w hw, by rw [hL (s + 1) (by omega)]; exact q4, by rw [hL (s + 2) (by omega)]; exact q5⟩
  refine ⟨?_, ?_, hs 17 (by omega) (by omega) h3, hs 306 (by omega) (by omega) h4, ?_, ?_⟩
  · intro q hq
    have hk : ∀ q ∈ cs_R, q.1 < 344 ∧ q.1 ≠ 12 ∧ q.1 ≠ 13 := by decide
    obtain ⟨k1, k2, k3⟩ := hk q hq
    rw [hR q.1 q.2.1 k1 k2 k3]
    exact h1 q hq
  · intro q hq
    have hk : ∀ q ∈ cs_L, q.1 < 344 := by decide
    rw [hL q.1 (hk q hq)]
    exact h2 q hq
  · intro i hi
    obtain ⟨q1, q2⟩ := h5 i hi
    exact ⟨by rw [hR 25 i (by omega) (by omega) (by omega)]; exact q1, hs _ (by omega) (by omega) q2⟩
  · intro w hw
    obtain ⟨q1, q2, q3, q4, q5, q6, q7⟩ := h6 w hw
    rw [hR 319 w (by omega) (by omega) (by omega), hR (320 + 6 * w) 5 (by omega) (by omega) (by omega), hR (320 + 6 * w) 6 (by omega) (by omega) (by omega), hR (320 + 6 * w) 7 (by omega) (by omega) (by omega), hL _ (by omega), hL _ (by omega), hL _ (by omega)]
    exact ⟨q1, q2, q3, q4, q5, q6, q7⟩
/-- after a new strip -/
theorem rx_s {R R' : Nat → Nat → Option Nat} {L L' : Nat → Nat} {g g' h h' : Nat → Nat → Int32} {N k n : Nat} (r : rl_ R L g h N) (hk : g 0 9 = Int32.ofNat k) (hk6 : k < 6) (hn : 1 ≤ n ∧ n ≤ 16)
    (G : ∀ a j, a < N → ¬ (a = 0 ∧ (j = 9 ∨ j = 1)) → ¬ (2 ≤ a ∧ a ≤ 11) → g' a j = g a j) (G9 : g' 0 9 = Int32.ofNat (k + 1)) (G1 : g' 0 1 = 0)
    (Rf : ∀ a j, a < N → ¬ (a = 13 ∧ j = k) → R' a j = R a j) (Rk : R' 13 k = some N) (RN : R' N 0 = some (N + 1)) (Lf : ∀ a, a < N → L' a = L a) (LN : L' (N + 1) = n)
    (H : ∀ a, a ≠ 344 → a ≠ 357 → a ≠ 358 → h' a = h a) (H4 : ∀ j, j ≠ 2 → j ≠ 3 → j ≠ 4 → j ≠ 23 → h' 344 j = h 344 j) (H2 : h' 344 2 = 0) (H23 : h' 344 23 = Int32.ofNat (k + 1)) (H7 : ∀ j, j < 16 * k → h' 357 j = h 357 j) (H8 : ∀ j, j ≠ k → h' 358 j = h 358 j) (H8k : h' 358 k = Int32.ofNat n)
    (GN : ∀ i, i < n → g' (N + 1) i = h' 357 (16 * k + i) ∧ 0 ≤ (h' 357 (16 * k + i)).toInt ∧ (h' 357 (16 * k + i)).toInt ≤ 26) : rl_ R' L' g' h' (N + 2) := by
  obtain ⟨r1, r2, r3, ⟨k', k1, k2, k3, k4, k5, k6⟩, ⟨m, m1, m2, m3, m4, m5, m6, m7⟩, r6, r7, r8, r9, r10⟩ := r
  have ek : k' = k := by
    rw [hk, o_eq (by omega) (by omega)] at k2
    omega
  subst ek
  have g0 : ∀ a, a < N → a ≠ 0 → ¬ (2 ≤ a ∧ a ≤ 11) → g' a = g a := fun a ha h0 h1 => by funext j; exact G a j ha (by omega) h1
  have lm : ∀ r : Int32, 0 ≤ r.toInt → ln_ h r ≤ ln_ h' r := by
    intro r hr
    unfold ln_
    rw [k3, H23, o_ti (by omega), o_ti (by omega)]
    by_cases c : r.toInt < (k' : Int)
    · rw [if_pos c, if_pos (by omega), H8 _ (by rw [i_tn]; omega)]
      exact Int.le_refl _
    · rw [if_neg c]
      by_cases c2 : r.toInt < ((k' + 1 : Nat) : Int)
      · rw [if_pos c2, show r.toNatClampNeg = k' by rw [i_tn]; omega, H8k, o_ti (by omega)]
        omega
      · rw [if_neg c2]
        exact Int.le_refl _
  refine ⟨cs_x (fun a j h1 h2 h3 => Rf a j (by omega) (by omega)) (fun a ha => Lf a (by omega)) r1, by omega, ⟨0, by omega, G1, H2, fun i hi => absurd hi (by omega)⟩, ⟨k' + 1, by omega, G9, H23, fun s hs => ?_, fun s h1 h2 => ?_, by rw [g0 15 (by omega) (by omega) (by omega)]; exact k6⟩, ⟨m, m1, ?_, ?_, ?_, ?_, ?_, fun i hi => ?_⟩, ⟨?_, ?_, ?_⟩, ?_, ?_, ?_, ?_⟩
  · by_cases e : s = k'
    · subst e
      refine ⟨N, by omega, by omega, Rk, RN, ?_⟩
      unfold sp_
      rw [LN]
      exact ⟨hn.1, hn.2, H8k, GN⟩
    · obtain ⟨b, b1, b2, b3, b4, b5⟩ := k4 s (by omega)
      refine ⟨b, b1, by omega, by rw [Rf 13 s (by omega) (by omega)]; exact b3, by rw [Rf b 0 (by omega) (by omega)]; exact b4, ?_⟩
      obtain ⟨c1, c2, c3, c4⟩ := b5
      unfold sp_
      rw [Lf (b + 1) (by omega), g0 (b + 1) (by omega) (by omega) (by omega), H8 s e]
      refine ⟨c1, c2, c3, fun i hi => ?_⟩
      rw [H7 _ (by omega)]
      exact c4 i hi
  · rw [Rf 13 s (by omega) (by omega)]
    exact k5 s (by omega) h2
  · rw [G 0 6 (by omega) (by omega) (by omega)]; exact m2
  · rw [H4 13 (by decide) (by decide) (by decide) (by decide)]; exact m3
  · rw [G 0 7 (by omega) (by omega) (by omega), H4 26 (by decide) (by decide) (by decide) (by decide)]; exact m4
  · rw [G 0 7 (by omega) (by omega) (by omega)]; exact m5
  · rw [G 0 7 (by omega) (by omega) (by omega)]; exact m6
  · obtain ⟨b, K, b1, b2, b3, b4⟩ := m7 i hi
    refine ⟨b, K, b1, by omega, by rw [Rf 12 i (by omega) (by omega)]; exact b3, ?_⟩
    unfold lw_1
    rw [Rf b 0 (by omega) (by omega), Rf b 1 (by omega) (by omega), Lf (b + 1) (by omega), Lf (b + 2) (by omega), g0 (b + 1) (by omega) (by omega) (by omega), H 346 (by decide) (by decide) (by decide), H 347 (by decide) (by decide) (by decide), H 349 (by decide) (by decide) (by decide), H 350 (by decide) (by decide) (by decide), H 351 (by decide) (by decide) (by decide), H 352 (by decide) (by decide) (by decide)]
    exact b4
  · intro i j b c h1 h2 h3 h4 h5
    rw [Rf 12 i (by omega) (by omega)] at h4
    rw [Rf 12 j (by omega) (by omega)] at h5
    exact r6.1 i j b c h1 h2 h3 h4 h5
  · intro i s b c h1 h2 h4 h5
    rw [Rf 12 i (by omega) (by omega)] at h4
    by_cases e : s = k'
    · subst e
      rw [Rk] at h5
      have h5 := Option.some.inj h5
      have := r6.2.2 i b h1 h4
      omega
    · rw [Rf 13 s (by omega) (by omega)] at h5
      exact r6.2.1 i s b c h1 h2 h4 h5
  · intro i b h1 h4
    rw [Rf 12 i (by omega) (by omega)] at h4
    have := r6.2.2 i b h1 h4
    omega
  · exact sw_m (fun a j h1 h2 => G a j (by omega) (by omega) (by omega)) (G 0 16 (by omega) (by omega) (by omega)) (fun a ha => H a (by omega) (by omega) (by omega)) (fun j hj => H4 j (by omega) (by omega) (by omega) (by omega)) lm r7
  · exact ba_q (fun a h1 h2 => G a 1 (by omega) (by omega) (by omega)) r8
  · exact mi_q (G 0 11 (by omega) (by omega) (by omega)) (g0 16 (by omega) (by omega) (by omega)) (H4 27 (by decide) (by decide) (by decide) (by decide)) (H 360 (by decide) (by decide) (by decide)) r9
  · exact no_q (G 313 3 (by omega) (by omega) (by omega)) (g0 314 (by omega) (by omega) (by omega)) (g0 315 (by omega) (by omega) (by omega)) (g0 316 (by omega) (by omega) (by omega)) (H4 37 (by decide) (by decide) (by decide) (by decide)) (H 365 (by decide) (by decide) (by decide)) (H 366 (by decide) (by decide) (by decide)) (H 367 (by decide) (by decide) (by decide)) r10
