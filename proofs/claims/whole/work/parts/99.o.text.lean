/-- after a new lantern -/
theorem rx_0 {R : Nat → Nat → Option Nat} {L : Nat → Nat} {g g' h h' : Nat → Nat → Int32} {N n : Nat} {a : Nat → Nat} {b : Nat → Nat → Nat} (r : rl_ R L g h N) (hn : 1 ≤ n ∧ n ≤ 4) (ha : ∀ j, j < 3 → sLo j ≤ a j ∧ a j ≤ sHi j) (hb : ∀ w, w < n → ∀ j, j < 4 → b w j ≤ wHi j)
    (hl : ∀ q, 1 ≤ hL h q ∧ hL h q ≤ 16)
    (G : ∀ c j, c < 2 ∨ 11 < c → ¬ (c = 0 ∧ (j = 1 ∨ j = 16)) → c ≠ 17 → ¬ (20 ≤ c ∧ c < 20 + n) → ¬ (c = 24 ∧ j = 2) → ¬ (c = 313 ∧ j = 3) → g' c j = g c j)
    (G01 : g' 0 1 = 0) (G016 : g' 0 16 = 0) (G24 : g' 24 2 = 0) (G313 : g' 313 3 = 0) (G1 : g' 17 1 = Int32.ofNat n) (G2 : g' 17 2 = Int32.ofNat (a 0)) (G3 : g' 17 3 = Int32.ofNat (a 1)) (G4 : g' 17 4 = Int32.ofNat (a 2)) (G5 : g' 17 5 = 0) (G7 : g' 17 7 = 0)
    (GW : ∀ w, w < n → ∀ k, k < 4 → g' (20 + w) k = h' 359 (4 * w + k))
    (H : ∀ c, c ≠ 344 → c ≠ 355 → c ≠ 356 → c ≠ 359 → h' c = h c) (H4 : ∀ j, j ≠ 2 → j ≠ 3 → j ≠ 4 → j ≠ 19 → j ≠ 20 → j ≠ 29 → j ≠ 37 → j ≠ 40 → h' 344 j = h 344 j) (H2 : h' 344 2 = 0) (H20 : h' 344 20 = Int32.ofNat n) (H29 : h' 344 29 = 0) (H37 : h' 344 37 = 0) (H40 : h' 344 40 = 0)
    (K : ∀ w, w < n → h' 359 (4 * w) = Int32.ofNat (b w 0) ∧ h' 359 (4 * w + 1) = Int32.ofNat (b w 1) ∧ h' 359 (4 * w + 2) = Int32.ofNat (b w 2 % hL h (b w 3)) ∧ h' 359 (4 * w + 3) = Int32.ofNat (b w 3)) (K6 : h' 359 16 = Int32.ofNat (a 0)) (K7 : h' 359 17 = Int32.ofNat (a 1)) (K8 : h' 359 18 = Int32.ofNat (a 2)) (K9 : h' 359 19 = 0) (K0 : h' 359 20 = 0) : rl_ R L g' h' N := by
  obtain ⟨r1, r2, r3, ⟨k', k1, k2, k3, k4, k5, k6⟩, r5, r6, ⟨n0, d1, d2, d3, ⟨m, x, m1, m2, m3, m4, m5, m6⟩, d5⟩, r8, r9, ⟨q, q1, q2, q3, q4⟩⟩ := r
  have g0 : ∀ c, 11 < c → c ≠ 17 → ¬ (20 ≤ c ∧ c < 20 + n) → c ≠ 24 → c ≠ 313 → g' c = g c := fun c h1 h2 h3 h4 h5 => by funext j; exact G c j (by omega) (by omega) h2 h3 (by omega) (by omega)
  have b0 : ∀ w, w < n → b w 0 ≤ 9 ∧ b w 1 ≤ 1 ∧ b w 2 ≤ 15 ∧ b w 3 ≤ 5 := fun w hw => ⟨hb w hw 0 (by omega), hb w hw 1 (by omega), hb w hw 2 (by omega), hb w hw 3 (by omega)⟩
  have a0 : 1 ≤ a 0 ∧ a 0 ≤ 60 := ha 0 (by omega)
  have a1 : a 1 ≤ 99 := (ha 1 (by omega)).2
  have a2 : a 2 ≤ 99 := (ha 2 (by omega)).2
  have z0 : (0 : Int32).toInt = 0 := rfl
  have ek : hS h = k' := by
    unfold hS
    rw [k3, o_ti (by omega)]
    omega
  have el : ∀ p, p ≤ 5 → ln_ h' (Int32.ofNat p) = hL h p := by
    intro p hp
    have := hl p
    unfold ln_
    unfold hL at this ⊢
    rw [H4 23 (by decide) (by decide) (by decide) (by decide) (by decide) (by decide) (by decide) (by decide), H 358 (by decide) (by decide) (by decide) (by decide), k3, o_ti (by omega), o_ti (by omega), o_tn (by omega), ek]
    rw [ek] at this
    by_cases c : p < k'
    · rw [if_pos (by omega), if_pos c]
      rw [if_pos c] at this
      omega
    · rw [if_neg (by omega), if_neg c]
      rfl
  refine ⟨r1, r2, ⟨0, by omega, G01, H2, fun i hi => absurd hi (by omega)⟩, st_q (G 0 9 (by omega) (by omega) (by omega) (by omega) (by omega) (by omega)) (by rw [g0 15 (by omega) (by omega) (by omega) (by omega) (by omega)]) (fun c hc => g0 c (by omega) (by omega) (by omega) (by omega) (by omega)) (H4 23 (by decide) (by decide) (by decide) (by decide) (by decide) (by decide) (by decide) (by decide)) (H 357 (by decide) (by decide) (by decide) (by decide)) (H 358 (by decide) (by decide) (by decide) (by decide)) ⟨k', k1, k2, k3, k4, k5, k6⟩, la_q (G 0 6 (by omega) (by omega) (by omega) (by omega) (by omega) (by omega)) (G 0 7 (by omega) (by omega) (by omega) (by omega) (by omega) (by omega)) (fun c hc => g0 c (by omega) (by omega) (by omega) (by omega) (by omega)) (H4 13 (by decide) (by decide) (by decide) (by decide) (by decide) (by decide) (by decide) (by decide)) (H4 26 (by decide) (by decide) (by decide) (by decide) (by decide) (by decide) (by decide) (by decide)) (fun c hc => H c (by omega) (by omega) (by omega) (by omega)) r5, r6, ⟨n, hn.2, H20, ⟨G1, ?_, ?_, ?_, ?_, fun w hw k hk => ?_, ⟨0, G7, by omega, K0, fun i hi => absurd hi (by omega)⟩, fun _ => ⟨?_, ?_, ?_, ?_, fun w hw => ?_⟩⟩, ⟨0, x, by omega, m2, G24, H29, ?_, fun i hi => absurd hi (by omega)⟩, by rw [G016, H40], Or.inl G016⟩, ⟨fun w hw => ?_, fun w hw => ?_, fun i hi w hw => ?_⟩, mi_q (G 0 11 (by omega) (by omega) (by omega) (by omega) (by omega) (by omega)) (g0 16 (by omega) (by omega) (by omega) (by omega) (by omega)) (H4 27 (by decide) (by decide) (by decide) (by decide) (by decide) (by decide) (by decide) (by decide)) (H 360 (by decide) (by decide) (by decide) (by decide)) r9, ⟨0, by omega, G313, H37, fun i hi => absurd hi (by omega)⟩⟩
  · rw [Nat.zero_add, G2, K6]
  · rw [Nat.zero_add, G3, K7]
  · rw [Nat.zero_add, G4, K8]
  · rw [Nat.zero_add, G5, K9]
  · rw [Nat.zero_add]
    exact GW w hw k hk
  · rw [Nat.zero_add, K6, o_ti (by omega)]
    omega
  · rw [Nat.zero_add, K7, o_ti (by omega)]
    omega
  · rw [Nat.zero_add, K8, o_ti (by omega)]
    omega
  · rw [Nat.zero_add, K9, z0]
    omega
  · obtain ⟨y1, y2, y3, y4⟩ := K w hw
    obtain ⟨c1, c2, c3, c4⟩ := b0 w hw
    have hm := Nat.mod_lt (b w 2) (show 0 < hL h (b w 3) from (hl (b w 3)).1)
    have h16 := (hl (b w 3)).2
    rw [Nat.zero_add, y1, y2, y3, y4, el _ c4, o_ti (by omega), o_ti (by omega), o_ti (by omega)]
    refine ⟨by omega, ?_, by omega, by omega⟩
    have : b w 1 = 0 ∨ b w 1 = 1 := by omega
    rcases this with e | e <;> rw [e]
    · exact Or.inl rfl
    · exact Or.inr rfl
  · rw [G 24 1 (by omega) (by omega) (by omega) (by omega) (by omega) (by omega)]
    exact m5
  · by_cases e : w < n
    · have y := GW w e 1 (by omega)
      rw [show 17 + 3 + w = 20 + w from rfl, y, (K w e).2.1]
      have : b w 1 = 0 ∨ b w 1 = 1 := by have := b0 w e; omega
      rcases this with e | e <;> rw [e]
      · exact Or.inl rfl
      · exact Or.inr rfl
    · rw [G _ 1 (by omega) (by omega) (by omega) (by omega) (by omega) (by omega)]
      exact r8.1 w hw
  · rw [G _ 1 (by omega) (by omega) (by omega) (by omega) (by omega) (by omega)]
    exact r8.2.1 w hw
  · rw [G _ 1 (by omega) (by omega) (by omega) (by omega) (by omega) (by omega)]
    exact r8.2.2 i hi w hw
