/-! ===== the start ===== -/
def sz_I (g : Nat → Nat → Int32) : Prop := (g 0 1 = 0 ∧ g 344 2 = 0) ∧ (g 0 9 = 0 ∧ g 344 23 = 0 ∧ g 15 0 = 26) ∧ (g 0 6 = 0 ∧ g 344 13 = 0 ∧ g 0 7 = -1 ∧ g 344 26 = -1) ∧ (g 344 20 = 0 ∧ g 17 1 = 0 ∧ g 17 2 = g 359 16 ∧ g 17 3 = g 359 17 ∧ g 17 4 = g 359 18 ∧ g 17 5 = g 359 19 ∧ g 17 7 = 0 ∧ g 359 20 = 0) ∧ (g 24 2 = 0 ∧ g 344 29 = 0 ∧ g 24 1 = 0) ∧ (g 0 16 = 0 ∧ g 344 40 = 0) ∧ (g 0 11 = 3 ∧ g 344 27 = 3 ∧ ∀ j, j < 5 → g 16 j = g 360 j) ∧ (g 313 3 = 0 ∧ g 344 37 = 0)
def sz_B (g : Nat → Nat → Int32) : Prop := (∀ w, w < 4 → g (17 + 3 + w) 1 = 0) ∧ (∀ w, w < 4 → g (306 + 3 + w) 1 = 0) ∧ ∀ i, i < 40 → ∀ w, w < 4 → g (26 + 7 * i + 3 + w) 1 = 0
def sz_R (R : Nat → Nat → Option Nat) : Prop := (∀ s, s < 6 → R 13 s = none) ∧ ∀ i, i < 4 → R 12 i = none
def sz_c (σ1 σ2 : Sg) : Bool := decide (sg_N σ1 = 344) && (decide (sg_S σ1 ≤ 100000) && (decide (sg_N σ2 = 370) && (decide (sg_S σ2 ≤ 200000) && (@decide (sz_I (sg_I (new_C σ2 19 1))) (by unfold sz_I; infer_instance) && (@decide (sz_B (sg_I (new_C σ2 19 1))) (by unfold sz_B; infer_instance) && @decide (sz_R (sg_R (new_C σ2 19 1))) (by unfold sz_R; infer_instance))))))
def sz_0 : Option Bool := (f_X11_init 20000 0 (new_C em_ 10 0)).bind fun σ1 => (f_X12_init 344 (new_C σ1 11 0)).bind fun σ2 => some (sz_c σ1 σ2)
set_option maxRecDepth 1000000 in
theorem sz_k : sz_0 = some true := by decide +kernel
theorem sz_b {α β : Type} {o : Option α} {k : α → Option β} {b : β} (h : o.bind k = some b) : ∃ a, o = some a ∧ k a = some b := by
  cases o with
  | none => cases h
  | some a => exact ⟨a, rfl, h⟩
theorem p2_st : lw_st p2_I 20000 := by
  have h := sz_k
  have k := p2_0k
  unfold sz_0 at h
  unfold p2_0 at k
  obtain ⟨σ1, f1, h⟩ := sz_b h
  obtain ⟨σ2, f2, h⟩ := sz_b h
  rw [f_of f1, f_of f2] at k
  have h : sz_c σ1 σ2 = true := Option.some.inj h
  have k : p2_k (new_C σ2 19 1) = true := Option.some.inj k
  unfold sz_c at h
  unfold p2_k at k
  simp only [Bool.and_eq_true, decide_eq_true_eq] at h k
  obtain ⟨h1, h2, h3, h4, ⟨⟨a1, a2⟩, ⟨a3, a4, a5⟩, ⟨a6, a7, a8, a9⟩, ⟨b1, b2, b3, b4, b5, b6, b7, b8⟩, ⟨c1, c2, c3⟩, ⟨c4, c5⟩, ⟨c6, c7, c8⟩, ⟨c9, d1⟩⟩, ⟨e1, e2, e3⟩, e4, e5⟩ := h
  obtain ⟨⟨k1, k2⟩, k3⟩ := k
  refine ⟨σ1, σ2, f1, h1, h2, f2, h3, h4, ⟨k1, by omega, ⟨0, by omega, a1, a2, fun i hi => absurd hi (by omega)⟩, ⟨0, by omega, a3, a4, fun s hs => absurd hs (by omega), fun s _ hs => e4 s hs, a5⟩, ⟨0, by omega, a6, a7, by rw [a8, a9], by rw [a8]; decide, by rw [a8]; decide, fun i hi => absurd hi (by omega)⟩, ⟨fun i j b c hi hj _ hb _ => ?_, fun i s b c hi hs hb _ => ?_, fun i b hi hb => ?_⟩, ⟨0, by omega, b1, ⟨b2, b3, b4, b5, b6, fun w hw => absurd hw (by omega), ⟨0, b7, by omega, b8, fun i hi => absurd hi (by omega)⟩, fun hz => absurd hz (by omega)⟩, ⟨0, 0, by omega, by omega, c1, c2, c3, fun i hi => absurd hi (by omega)⟩, ⟨by rw [c4, c5], Or.inl c4⟩⟩, ⟨fun w hw => Or.inl (e1 w hw), fun w hw => Or.inl (e2 w hw), fun i hi w hw => Or.inl (e3 i hi w hw)⟩, ⟨by rw [c6, c7], by rw [c6]; decide, by rw [c6]; decide, c8⟩, ⟨0, by omega, c9, d1, fun i hi => absurd hi (by omega)⟩⟩, k2⟩
  · rw [e5 i hi] at hb
    cases hb
  · rw [e5 i hi] at hb
    cases hb
  · rw [e5 i hi] at hb
    cases hb
