/-- after a new law -/
theorem rx_l {R R' : Nat → Nat → Option Nat} {L L' : Nat → Nat} {g g' h h' : Nat → Nat → Int32} {N k : Nat} {K : List Kl} (r : rl_ R L g h N) (hk : g 0 6 = Int32.ofNat k) (hk4 : k < 4)
    (G : ∀ a j, a < N → ¬ (a = 0 ∧ (j = 6 ∨ j = 1)) → ¬ (2 ≤ a ∧ a ≤ 11) → g' a j = g a j) (G6 : g' 0 6 = Int32.ofNat (k + 1)) (G1 : g' 0 1 = 0)
    (Rf : ∀ a j, a < N → ¬ (a = 12 ∧ j = k) → R' a j = R a j) (Rk : R' 12 k = some N) (RN : R' N 0 = some (N + 1)) (RN1 : R' N 1 = some (N + 2)) (Lf : ∀ a, a < N → L' a = L a) (LN : L' (N + 1) = (ks_c 0 K).length) (LN2 : L' (N + 2) = 64)
    (H : ∀ a, a = 345 ∨ 352 < a → h' a = h a) (H4 : ∀ j, j ≠ 2 → j ≠ 3 → j ≠ 4 → j ≠ 5 → j ≠ 13 → j ≠ 14 → h' 344 j = h 344 j) (H2 : h' 344 2 = 0) (H13 : h' 344 13 = Int32.ofNat (k + 1)) (H6 : ∀ j, j < 520 * k → h' 346 j = h 346 j ∧ h' 347 j = h 347 j) (H0 : ∀ j, j < 140 * k → h' 350 j = h 350 j ∧ h' 351 j = h 351 j ∧ h' 352 j = h 352 j) (H9 : ∀ j, j ≠ k → h' 349 j = h 349 j)
    (GN : ∀ j, j < (ks_c 0 K).length → g' (N + 1) j = (ks_c 0 K).getD j 0) (lt : ∀ j, j < (ks_t K).length → h' 346 (520 * k + j) = ((ks_t K).getD j (0, 0)).1 ∧ h' 347 (520 * k + j) = ((ks_t K).getD j (0, 0)).2)
    (li : h' 349 k = Int32.ofNat K.length ∧ ∀ c, c < K.length → h' 350 (140 * k + c) = Int32.ofNat (ks_o K c) ∧ h' 351 (140 * k + c) = Int32.ofNat (ks_o K c + (K.getD c ([], [])).1.length) ∧ h' 352 (140 * k + c) = Int32.ofNat (ks_o K (c + 1))) (b1 : K.length ≤ 120) (b2 : (ks_c 0 K).length ≤ 240) (b3 : (ks_t K).length ≤ 240) (ok : ∀ q ∈ K, ok_k q) : rl_ R' L' g' h' (N + 3) := by
  obtain ⟨r1, r2, r3, ⟨k', k1, k2, k3, k4, k5, k6⟩, ⟨m, m1, m2, m3, m4, m5, m6, m7⟩, r6, r7, r8, r9, r10⟩ := r
  have ek : m = k := by
    rw [hk, o_eq (by omega) (by omega)] at m2
    omega
  subst ek
  have g0 : ∀ a, a < N → a ≠ 0 → ¬ (2 ≤ a ∧ a ≤ 11) → g' a = g a := fun a ha h0 h1 => by funext j; exact G a j ha (by omega) h1
  refine ⟨cs_x (fun a j h1 h2 h3 => Rf a j (by omega) (by omega)) (fun a ha => Lf a (by omega)) r1, by omega, ⟨0, by omega, G1, H2, fun i hi => absurd hi (by omega)⟩, ⟨k', k1, ?_, ?_, fun s hs => ?_, fun s h1 h2 => ?_, by rw [g0 15 (by omega) (by omega) (by omega)]; exact k6⟩, ⟨m + 1, by omega, G6, H13, ?_, ?_, ?_, fun i hi => ?_⟩, ⟨?_, ?_, ?_⟩, ?_, ?_, ?_, ?_⟩
  · rw [G 0 9 (by omega) (by omega) (by omega)]; exact k2
  · rw [H4 23 (by decide) (by decide) (by decide) (by decide) (by decide) (by decide)]; exact k3
  · obtain ⟨b, b1, b2, b3, b4, b5⟩ := k4 s hs
    refine ⟨b, b1, by omega, by rw [Rf 13 s (by omega) (by omega)]; exact b3, by rw [Rf b 0 (by omega) (by omega)]; exact b4, ?_⟩
    unfold sp_
    rw [Lf (b + 1) (by omega), g0 (b + 1) (by omega) (by omega) (by omega), H 357 (by omega), H 358 (by omega)]
    exact b5
  · rw [Rf 13 s (by omega) (by omega)]
    exact k5 s h1 h2
  · rw [G 0 7 (by omega) (by omega) (by omega), H4 26 (by decide) (by decide) (by decide) (by decide) (by decide) (by decide)]; exact m4
  · rw [G 0 7 (by omega) (by omega) (by omega)]; exact m5
  · rw [G 0 7 (by omega) (by omega) (by omega)]; omega
  · by_cases e : i = m
    · subst e
      refine ⟨N, K, by omega, by omega, Rk, RN, RN1, LN2, LN, by omega, fun j hj => by rw [Nat.zero_add]; exact GN j hj, li.1, by omega, by omega, fun j hj => ?_, fun j hj => ?_, li.2, ok⟩
      · rw [List.length_map] at hj
        rw [(lt j hj).1, List.getD_eq_getElem?_getD, List.getD_eq_getElem?_getD, List.getElem?_map, List.getElem?_eq_getElem hj]
        rfl
      · rw [List.length_map] at hj
        rw [(lt j hj).2, List.getD_eq_getElem?_getD, List.getD_eq_getElem?_getD, List.getElem?_map, List.getElem?_eq_getElem hj]
        rfl
    · obtain ⟨b, Kl, b1, b2, b3, c1, c2, c3, c4, c5, c6, c7, c8, c9, c10, c11, c12, c13⟩ := m7 i (by omega)
      refine ⟨b, Kl, b1, by omega, by rw [Rf 12 i (by omega) (by omega)]; exact b3, by rw [Rf b 0 (by omega) (by omega)]; exact c1, by rw [Rf b 1 (by omega) (by omega)]; exact c2, by rw [Lf (b + 2) (by omega)]; exact c3, by rw [Lf (b + 1) (by omega)]; exact c4, c5, by rw [g0 (b + 1) (by omega) (by omega) (by omega)]; exact c6, by rw [H9 i e]; exact c7, c8, c9, sl_q (fun j _ hj => ?_) c10, sl_q (fun j _ hj => ?_) c11, ?_, c13⟩
      · rw [List.length_map] at hj
        exact (H6 j (by omega)).1
      · rw [List.length_map] at hj
        exact (H6 j (by omega)).2
      · intro c hc
        rw [(H0 _ (by omega)).1, (H0 _ (by omega)).2.1, (H0 _ (by omega)).2.2]
        exact c12 c hc
  · intro i j b c h1 h2 h3 h4 h5
    by_cases e : i = m
    · subst e
      rw [Rk] at h4
      have h4 := Option.some.inj h4
      rw [Rf 12 j (by omega) (by omega)] at h5
      have := r6.2.2 j c h2 h5
      omega
    · rw [Rf 12 i (by omega) (by omega)] at h4
      by_cases e2 : j = m
      · subst e2
        rw [Rk] at h5
        have h5 := Option.some.inj h5
        have := r6.2.2 i b h1 h4
        omega
      · rw [Rf 12 j (by omega) (by omega)] at h5
        exact r6.1 i j b c h1 h2 h3 h4 h5
  · intro i s b c h1 h2 h4 h5
    rw [Rf 13 s (by omega) (by omega)] at h5
    by_cases e : i = m
    · subst e
      rw [Rk] at h4
      have h4 := Option.some.inj h4
      by_cases e2 : s < k'
      · obtain ⟨b', z1, z2, z3, z4⟩ := k4 s e2
        rw [z3] at h5
        have h5 := Option.some.inj h5
        omega
      · rw [k5 s (by omega) h2] at h5
        cases h5
    · rw [Rf 12 i (by omega) (by omega)] at h4
      exact r6.2.1 i s b c h1 h2 h4 h5
  · intro i b h1 h4
    by_cases e : i = m
    · subst e
      rw [Rk] at h4
      have h4 := Option.some.inj h4
      omega
    · rw [Rf 12 i (by omega) (by omega)] at h4
      have := r6.2.2 i b h1 h4
      omega
  · exact sw_q (fun a j h1 h2 => G a j (by omega) (by omega) (by omega)) (G 0 16 (by omega) (by omega) (by omega)) (fun a ha => H a (by omega)) (fun j hj => H4 j (by omega) (by omega) (by omega) (by omega) (by omega) (by omega)) (fun j _ => by rw [H 358 (by omega)]) r7
  · exact ba_q (fun a h1 h2 => G a 1 (by omega) (by omega) (by omega)) r8
  · exact mi_q (G 0 11 (by omega) (by omega) (by omega)) (g0 16 (by omega) (by omega) (by omega)) (H4 27 (by decide) (by decide) (by decide) (by decide) (by decide) (by decide)) (H 360 (by omega)) r9
  · exact no_q (G 313 3 (by omega) (by omega) (by omega)) (g0 314 (by omega) (by omega) (by omega)) (g0 315 (by omega) (by omega) (by omega)) (g0 316 (by omega) (by omega) (by omega)) (H4 37 (by decide) (by decide) (by decide) (by decide) (by decide) (by decide)) (H 365 (by omega)) (H 366 (by omega)) (H 367 (by omega)) r10
