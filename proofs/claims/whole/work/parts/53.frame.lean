/-! ===== phase 2: what both pools keep; facts for simp ===== -/
abbrev CF (R : Nat → Nat → Option Nat) (L : Nat → Nat) : Prop := R 0 0 = some 1 ∧ R 0 2 = some 2 ∧ R 0 3 = some 6 ∧ R 0 4 = some 9 ∧ R 0 5 = some 12 ∧ R 0 8 = some 13 ∧ R 0 10 = some 14 ∧ R 0 12 = some 16 ∧ R 0 13 = some 17 ∧ R 0 14 = some 24 ∧ R 0 15 = some 306 ∧ R 0 17 = some 313 ∧ R 0 18 = some 319 ∧ R 2 3 = some 4 ∧ R 2 5 = some 5 ∧ R 6 3 = some 8 ∧ R 9 3 = some 11 ∧ R 14 0 = some 15 ∧ R 24 0 = some 25 ∧ R 313 0 = some 314 ∧ R 313 1 = some 315 ∧ R 313 2 = some 316 ∧ R 313 4 = some 317 ∧ R 313 6 = some 318 ∧ L 1 = 240 ∧ L 4 = 3 ∧ L 5 = 16 ∧ L 8 = 720 ∧ L 11 = 16 ∧ L 12 = 4 ∧ L 13 = 6 ∧ L 15 = 1 ∧ L 16 = 5 ∧ L 25 = 40 ∧ L 314 = 10 ∧ L 315 = 10 ∧ L 316 = 10 ∧ L 317 = 960 ∧ L 318 = 27 ∧ L 319 = 4 ∧ R 17 0 = some 18 ∧ R 17 6 = some 19 ∧ L 18 = 4 ∧ L 19 = 60 ∧ R 18 0 = some 20 ∧ R 18 1 = some 21 ∧ R 18 2 = some 22 ∧ R 18 3 = some 23 ∧ R 306 0 = some 307 ∧ R 306 6 = some 308 ∧ L 307 = 4 ∧ L 308 = 60
theorem cs_f {R : Nat → Nat → Option Nat} {L : Nat → Nat} (h : cs_ R L) : CF R L := ⟨h.1 (0, 0, 1) (by decide), h.1 (0, 2, 2) (by decide), h.1 (0, 3, 6) (by decide), h.1 (0, 4, 9) (by decide), h.1 (0, 5, 12) (by decide), h.1 (0, 8, 13) (by decide), h.1 (0, 10, 14) (by decide), h.1 (0, 12, 16) (by decide), h.1 (0, 13, 17) (by decide), h.1 (0, 14, 24) (by decide), h.1 (0, 15, 306) (by decide), h.1 (0, 17, 313) (by decide), h.1 (0, 18, 319) (by decide), h.1 (2, 3, 4) (by decide), h.1 (2, 5, 5) (by decide), h.1 (6, 3, 8) (by decide), h.1 (9, 3, 11) (by decide), h.1 (14, 0, 15) (by decide), h.1 (24, 0, 25) (by decide), h.1 (313, 0, 314) (by decide), h.1 (313, 1, 315) (by decide), h.1 (313, 2, 316) (by decide), h.1 (313, 4, 317) (by decide), h.1 (313, 6, 318) (by decide), h.2.1 (1, 240) (by decide), h.2.1 (4, 3) (by decide), h.2.1 (5, 16) (by decide), h.2.1 (8, 720) (by decide), h.2.1 (11, 16) (by decide), h.2.1 (12, 4) (by decide), h.2.1 (13, 6) (by decide), h.2.1 (15, 1) (by decide), h.2.1 (16, 5) (by decide), h.2.1 (25, 40) (by decide), h.2.1 (314, 10) (by decide), h.2.1 (315, 10) (by decide), h.2.1 (316, 10) (by decide), h.2.1 (317, 960) (by decide), h.2.1 (318, 27) (by decide), h.2.1 (319, 4) (by decide), h.2.2.1.1, h.2.2.1.2.1, h.2.2.1.2.2.2.1, h.2.2.1.2.2.2.2, h.2.2.1.2.2.1 0 (by decide), h.2.2.1.2.2.1 1 (by decide), h.2.2.1.2.2.1 2 (by decide), h.2.2.1.2.2.1 3 (by decide), h.2.2.2.1.1, h.2.2.2.1.2.1, h.2.2.2.1.2.2.2.1, h.2.2.2.1.2.2.2.2⟩
abbrev RF (R : Nat → Nat → Option Nat) (L : Nat → Nat) : Prop := R 344 1 = some 345 ∧ R 344 6 = some 346 ∧ R 344 7 = some 347 ∧ R 344 8 = some 348 ∧ R 344 9 = some 349 ∧ R 344 10 = some 350 ∧ R 344 11 = some 351 ∧ R 344 12 = some 352 ∧ R 344 15 = some 353 ∧ R 344 16 = some 354 ∧ R 344 17 = some 355 ∧ R 344 18 = some 356 ∧ R 344 21 = some 357 ∧ R 344 22 = some 358 ∧ R 344 24 = some 359 ∧ R 344 25 = some 360 ∧ R 344 28 = some 361 ∧ R 344 31 = some 362 ∧ R 344 32 = some 363 ∧ R 344 33 = some 364 ∧ R 344 34 = some 365 ∧ R 344 35 = some 366 ∧ R 344 36 = some 367 ∧ R 344 38 = some 368 ∧ R 344 39 = some 369 ∧ L 345 = 240 ∧ L 346 = 2600 ∧ L 347 = 2600 ∧ L 348 = 5 ∧ L 349 = 5 ∧ L 350 = 700 ∧ L 351 = 700 ∧ L 352 = 700 ∧ L 353 = 6 ∧ L 354 = 80 ∧ L 355 = 3 ∧ L 356 = 16 ∧ L 357 = 112 ∧ L 358 = 7 ∧ L 359 = 261 ∧ L 360 = 5 ∧ L 361 = 10440 ∧ L 362 = 361 ∧ L 363 = 61 ∧ L 364 = 4 ∧ L 365 = 10 ∧ L 366 = 10 ∧ L 367 = 10 ∧ L 368 = 1647 ∧ L 369 = 261
theorem rs_f {R : Nat → Nat → Option Nat} {L : Nat → Nat} (h : rs_ R L) : RF R L := ⟨h.1 (1, 345) (by decide), h.1 (6, 346) (by decide), h.1 (7, 347) (by decide), h.1 (8, 348) (by decide), h.1 (9, 349) (by decide), h.1 (10, 350) (by decide), h.1 (11, 351) (by decide), h.1 (12, 352) (by decide), h.1 (15, 353) (by decide), h.1 (16, 354) (by decide), h.1 (17, 355) (by decide), h.1 (18, 356) (by decide), h.1 (21, 357) (by decide), h.1 (22, 358) (by decide), h.1 (24, 359) (by decide), h.1 (25, 360) (by decide), h.1 (28, 361) (by decide), h.1 (31, 362) (by decide), h.1 (32, 363) (by decide), h.1 (33, 364) (by decide), h.1 (34, 365) (by decide), h.1 (35, 366) (by decide), h.1 (36, 367) (by decide), h.1 (38, 368) (by decide), h.1 (39, 369) (by decide), h.2 (345, 240) (by decide), h.2 (346, 2600) (by decide), h.2 (347, 2600) (by decide), h.2 (348, 5) (by decide), h.2 (349, 5) (by decide), h.2 (350, 700) (by decide), h.2 (351, 700) (by decide), h.2 (352, 700) (by decide), h.2 (353, 6) (by decide), h.2 (354, 80) (by decide), h.2 (355, 3) (by decide), h.2 (356, 16) (by decide), h.2 (357, 112) (by decide), h.2 (358, 7) (by decide), h.2 (359, 261) (by decide), h.2 (360, 5) (by decide), h.2 (361, 10440) (by decide), h.2 (362, 361) (by decide), h.2 (363, 61) (by decide), h.2 (364, 4) (by decide), h.2 (365, 10) (by decide), h.2 (366, 10) (by decide), h.2 (367, 10) (by decide), h.2 (368, 1647) (by decide), h.2 (369, 261) (by decide)⟩
theorem l_0 : (0 : Int32) = Int32.ofNat 0 := rfl
theorem l_1 : (1 : Int32) = Int32.ofNat 1 := rfl
theorem l_2 : (2 : Int32) = Int32.ofNat 2 := rfl
theorem l_3 : (3 : Int32) = Int32.ofNat 3 := rfl
theorem l_4 : (4 : Int32) = Int32.ofNat 4 := rfl
theorem l_5 : (5 : Int32) = Int32.ofNat 5 := rfl
theorem l_6 : (6 : Int32) = Int32.ofNat 6 := rfl
theorem l_7 : (7 : Int32) = Int32.ofNat 7 := rfl
theorem l_8 : (8 : Int32) = Int32.ofNat 8 := rfl
theorem l_9 : (9 : Int32) = Int32.ofNat 9 := rfl
theorem l_10 : (10 : Int32) = Int32.ofNat 10 := rfl
theorem l_12 : (12 : Int32) = Int32.ofNat 12 := rfl
theorem l_13 : (13 : Int32) = Int32.ofNat 13 := rfl
theorem l_15 : (15 : Int32) = Int32.ofNat 15 := rfl
theorem l_16 : (16 : Int32) = Int32.ofNat 16 := rfl
theorem l_17 : (17 : Int32) = Int32.ofNat 17 := rfl
theorem l_18 : (18 : Int32) = Int32.ofNat 18 := rfl
theorem l_19 : (19 : Int32) = Int32.ofNat 19 := rfl
theorem l_20 : (20 : Int32) = Int32.ofNat 20 := rfl
theorem l_21 : (21 : Int32) = Int32.ofNat 21 := rfl
theorem l_24 : (24 : Int32) = Int32.ofNat 24 := rfl
theorem l_26 : (26 : Int32) = Int32.ofNat 26 := rfl
theorem l_27 : (27 : Int32) = Int32.ofNat 27 := rfl
theorem l_30 : (30 : Int32) = Int32.ofNat 30 := rfl
theorem l_40 : (40 : Int32) = Int32.ofNat 40 := rfl
theorem l_50 : (50 : Int32) = Int32.ofNat 50 := rfl
theorem l_60 : (60 : Int32) = Int32.ofNat 60 := rfl
theorem l_61 : (61 : Int32) = Int32.ofNat 61 := rfl
theorem l_99 : (99 : Int32) = Int32.ofNat 99 := rfl
theorem l_100 : (100 : Int32) = Int32.ofNat 100 := rfl
theorem l_255 : (255 : Int32) = Int32.ofNat 255 := rfl
theorem l_261 : (261 : Int32) = Int32.ofNat 261 := rfl
theorem l_520 : (520 : Int32) = Int32.ofNat 520 := rfl
theorem l_140 : (140 : Int32) = Int32.ofNat 140 := rfl
theorem l_360 : (360 : Int32) = Int32.ofNat 360 := rfl
theorem l_361 : (361 : Int32) = Int32.ofNat 361 := rfl
theorem l_999 : (999 : Int32) = Int32.ofNat 999 := rfl
theorem l_1000 : (1000 : Int32) = Int32.ofNat 1000 := rfl
theorem l_1647 : (1647 : Int32) = Int32.ofNat 1647 := rfl
theorem l_9999 : (9999 : Int32) = Int32.ofNat 9999 := rfl
theorem l_10440 : (10440 : Int32) = Int32.ofNat 10440 := rfl
theorem l_240 : (240 : Int32) = Int32.ofNat 240 := rfl
theorem l_720 : (720 : Int32) = Int32.ofNat 720 := rfl
/-! an option's answer, and what holds of it -/
def Wp {α : Type} (o : Option α) (Q : α → Prop) : Prop := ∃ a, o = some a ∧ Q a
theorem wp_s {α : Type} {a : α} {Q : α → Prop} (h : Q a) : Wp (some a) Q := ⟨a, rfl, h⟩
theorem wp_b {α β : Type} {o : Option α} {k : α → Option β} {Q : β → Prop} (h : Wp o (fun a => Wp (k a) Q)) : Wp (o.bind k) Q := by
  obtain ⟨a, e, b, e2, h2⟩ := h
  exact ⟨b, by rw [e]; exact e2, h2⟩
theorem wp_e {α β : Type} {o : Option α} {a : α} {k : α → Option β} {Q : β → Prop} (e : o = some a) (h : Wp (k a) Q) : Wp (o.bind k) Q := by
  rw [e]
  exact h
theorem wp_m {α : Type} {o : Option α} {P Q : α → Prop} (h : Wp o P) (hq : ∀ a, P a → Q a) : Wp o Q := by
  obtain ⟨a, e, h⟩ := h
  exact ⟨a, e, hq a h⟩
theorem wp_n {α : Type} {c : Prop} {d : Decidable c} {b : Option α} {Q : α → Prop} (h : ¬ c) (h2 : Wp b Q) : Wp (@ite _ c d none b) Q := by
  rw [if_neg h]
  exact h2
theorem wp_i {α : Type} {c : Prop} {d : Decidable c} {a b : Option α} {Q : α → Prop} (h1 : c → Wp a Q) (h2 : ¬ c → Wp b Q) : Wp (@ite _ c d a b) Q := by
  by_cases h : c
  · rw [if_pos h]; exact h1 h
  · rw [if_neg h]; exact h2 h
/-- a loop that has k rounds to go -/
theorem wp_l {α S : Type} {F : Nat → S → Option α} {Q : α → Prop} (P : Nat → S → Prop) (h0 : ∀ n s, P 0 s → Wp (F (n + 1) s) Q) (h1 : ∀ n k s, P (k + 1) s → (∀ s', P k s' → Wp (F n s') Q) → Wp (F (n + 1) s) Q) : ∀ k n s, P k s → k < n → Wp (F n s) Q := by
  intro k
  induction k with
  | zero =>
    intro n s h hn
    obtain ⟨m, rfl⟩ : ∃ m, n = m + 1 := ⟨n - 1, by omega⟩
    exact h0 m s h
  | succ k ih =>
    intro n s h hn
    obtain ⟨m, rfl⟩ : ∃ m, n = m + 1 := ⟨n - 1, by omega⟩
    exact h1 m k s h (fun s' hs => ih m s' hs (by omega))
/-! what calls may leave otherwise in the class's cells -/
def scR (a j : Nat) : Prop := ((a = 2 ∨ a = 6 ∨ a = 9) ∧ j = 0) ∨ (320 ≤ a ∧ a < 344 ∧ (j = 2 ∨ j = 3)) ∨ (344 ≤ a ∧ a ≤ 370)
def scI (R : Nat → Nat → Option Nat) (a j : Nat) : Prop := (2 ≤ a ∧ a ≤ 11) ∨ (a = 313 ∧ j = 5) ∨ a = 317 ∨ a = 318 ∨ (320 ≤ a ∧ a ≤ 370) ∨ ∃ i b, i < 4 ∧ R 12 i = some b ∧ 371 ≤ b ∧ (a = b ∧ j = 2 ∨ a = b + 2)
def KG (R : Nat → Nat → Option Nat) (L : Nat → Nat) (g : Nat → Nat → Int32) (R' : Nat → Nat → Option Nat) (L' : Nat → Nat) (g' : Nat → Nat → Int32) : Prop := (∀ a, a < 344 ∨ 370 < a → L' a = L a) ∧ (∀ a j, ¬ scR a j → R' a j = R a j) ∧ (∀ a j, ¬ scI R a j → g' a j = g a j)
theorem scI_lo {R : Nat → Nat → Option Nat} {a j : Nat} (h : a < 2 ∨ (12 ≤ a ∧ a < 313) ∨ (313 ≤ a ∧ a ≤ 316 ∧ (a = 313 → j ≠ 5)) ∨ a = 319) : ¬ scI R a j := by
  intro q
  rcases q with q | q | q | q | q | ⟨i, b, q1, q2, q3, q4⟩ <;> omega
theorem scR_lo {a j : Nat} (h : a < 2 ∨ (12 ≤ a ∧ a < 320) ∨ 371 ≤ a ∨ (j ≠ 0 ∧ a < 320) ∨ (j ≠ 2 ∧ j ≠ 3 ∧ 12 ≤ a ∧ a < 344)) : ¬ scR a j := by
  intro q
  rcases q with q | q | q <;> omega
theorem cs_g {R : Nat → Nat → Option Nat} {L : Nat → Nat} {g : Nat → Nat → Int32} {R' : Nat → Nat → Option Nat} {L' : Nat → Nat} {g' : Nat → Nat → Int32} (K : KG R L g R' L' g') (h : cs_ R L) : cs_ R' L' := by
  obtain ⟨h1, h2, h3, h4, h5, h6⟩ := h
  have hs : ∀ s, 12 ≤ s → s + 6 < 320 → sn_ R L s → sn_ R' L' s := by
    intro s b1 b2 ⟨q1, q2, q3, q4, q5⟩
    refine ⟨?_, ?_, ?_, ?_, ?_⟩
    · rw [K.2.1 s 0 (scR_lo (by omega))]; exact q1
    · rw [K.2.1 s 6 (scR_lo (by omega))]; exact q2
    · intro w hw
      rw [K.2.1 (s + 1) w (scR_lo (by omega))]
      exact q3 w hw
    · rw [K.1 (s + 1) (by omega)]; exact q4
    · rw [K.1 (s + 2) (by omega)]; exact q5
  refine ⟨?_, ?_, hs 17 (by omega) (by omega) h3, hs 306 (by omega) (by omega) h4, ?_, ?_⟩
  · intro q hq
    have hk : ∀ q ∈ cs_R, q.1 < 2 ∨ (12 ≤ q.1 ∧ q.1 < 320) ∨ 371 ≤ q.1 ∨ (q.2.1 ≠ 0 ∧ q.1 < 320) ∨ (q.2.1 ≠ 2 ∧ q.2.1 ≠ 3 ∧ 12 ≤ q.1 ∧ q.1 < 344) := by decide
    rw [K.2.1 q.1 q.2.1 (scR_lo (hk q hq))]
    exact h1 q hq
  · intro q hq
    have hk : ∀ q ∈ cs_L, q.1 < 344 ∨ 370 < q.1 := by decide
    rw [K.1 q.1 (hk q hq)]
    exact h2 q hq
  · intro i hi
    obtain ⟨q1, q2⟩ := h5 i hi
    refine ⟨?_, hs _ (by omega) (by omega) q2⟩
    rw [K.2.1 25 i (scR_lo (by omega))]
    exact q1
  · intro w hw
    obtain ⟨q1, q2, q3, q4, q5, q6, q7⟩ := h6 w hw
    refine ⟨?_, ?_, ?_, ?_, ?_, ?_, ?_⟩
    · rw [K.2.1 319 w (scR_lo (by omega))]; exact q1
    · rw [K.2.1 (320 + 6 * w) 5 (scR_lo (by omega))]; exact q2
    · rw [K.2.1 (320 + 6 * w) 6 (scR_lo (by omega))]; exact q3
    · rw [K.2.1 (320 + 6 * w) 7 (scR_lo (by omega))]; exact q4
    · rw [K.1 _ (by omega)]; exact q5
    · rw [K.1 _ (by omega)]; exact q6
    · rw [K.1 _ (by omega)]; exact q7
/-- the scene at s is in g' what the scene at t is in g -/
def sq_ (g' : Nat → Nat → Int32) (s : Nat) (g : Nat → Nat → Int32) (t : Nat) : Prop := (∀ k, 1 ≤ k → k ≤ 7 → k ≠ 6 → g' s k = g t k) ∧ (∀ i, i < 60 → g' (s + 2) i = g (t + 2) i) ∧ ∀ w, w < 4 → ∀ k, k < 4 → g' (s + 3 + w) k = g (t + 3 + w) k
/-- the row at b' from o' on is in h' what that at b from o on is in h -/
def hq_ (h' : Nat → Nat → Int32) (b' o' : Nat) (h : Nat → Nat → Int32) (b o : Nat) : Prop := ∀ j, j < 261 → h' b' (o' + j) = h b (o + j)
theorem ln_q {h h' : Nat → Nat → Int32} (e : h' 344 23 = h 344 23) (e2 : ∀ j : Nat, (j : Int) < (h 344 23).toInt → h' 358 j = h 358 j) {r : Int32} (hr : 0 ≤ r.toInt) : ln_ h' r = ln_ h r := by
  unfold ln_
  rw [e]
  by_cases q : r.toInt < (h 344 23).toInt
  · rw [if_pos q, if_pos q, e2 _ (by rw [i_tn]; omega)]
  · rw [if_neg q, if_neg q]
theorem bd_q {h h' : Nat → Nat → Int32} {b o b' o' n : Nat} (hn : n ≤ 4) (e : h' 344 23 = h 344 23) (e2 : ∀ j : Nat, (j : Int) < (h 344 23).toInt → h' 358 j = h 358 j) (q : hq_ h' b' o' h b o) (d : bd_ h b o n) : bd_ h' b' o' n := by
  obtain ⟨d1, d2, d3, d4, d5⟩ := d
  unfold bd_
  rw [q 16 (by omega), q 17 (by omega), q 18 (by omega), q 19 (by omega)]
  refine ⟨d1, d2, d3, d4, fun w hw => ?_⟩
  have f := d5 w hw
  rw [Nat.add_assoc o' (4 * w) 1, Nat.add_assoc o' (4 * w) 2, Nat.add_assoc o' (4 * w) 3, q (4 * w) (by omega), q (4 * w + 1) (by omega), q (4 * w + 2) (by omega), q (4 * w + 3) (by omega), ← Nat.add_assoc o (4 * w) 1, ← Nat.add_assoc o (4 * w) 2, ← Nat.add_assoc o (4 * w) 3, ln_q e e2 f.2.2.2.1]
  exact f
theorem lg_q {g h g' h' : Nat → Nat → Int32} {s t b o b' o' : Nat} (p : sq_ g' s g t) (q : hq_ h' b' o' h b o) (d : lg_ g h t b o) : lg_ g' h' s b' o' := by
  obtain ⟨e, d1, d2, d3, d4⟩ := d
  refine ⟨e, ?_, ?_, ?_, ?_⟩
  · rw [p.1 7 (by omega) (by omega) (by omega)]; exact d1
  · rw [p.1 5 (by omega) (by omega) (by omega)]; exact d2
  · rw [q 20 (by omega)]; exact d3
  · intro i hi w hw
    have d5 := d4 i hi w hw
    rw [p.2.1 _ (Nat.mod_lt _ (by omega)), Nat.add_assoc (o' + 21) _ w, Nat.add_assoc o' 21 _, q _ (by omega), ← Nat.add_assoc o 21 _, ← Nat.add_assoc (o + 21) _ w]
    exact d5
theorem sc_q {g h g' h' : Nat → Nat → Int32} {s t b o b' o' n : Nat} (hn : n ≤ 4) (p : sq_ g' s g t) (q : hq_ h' b' o' h b o) (e : h' 344 23 = h 344 23) (e2 : ∀ j : Nat, (j : Int) < (h 344 23).toInt → h' 358 j = h 358 j) (d : sc_ g h t b o n) : sc_ g' h' s b' o' n := by
  obtain ⟨d1, d2, d3, d4, d5, d6, d7, d8⟩ := d
  refine ⟨?_, ?_, ?_, ?_, ?_, ?_, lg_q p q d7, fun h0 => bd_q hn e e2 q (d8 h0)⟩
  · rw [p.1 1 (by omega) (by omega) (by omega)]; exact d1
  · rw [p.1 2 (by omega) (by omega) (by omega), q 16 (by omega)]; exact d2
  · rw [p.1 3 (by omega) (by omega) (by omega), q 17 (by omega)]; exact d3
  · rw [p.1 4 (by omega) (by omega) (by omega), q 18 (by omega)]; exact d4
  · rw [p.1 5 (by omega) (by omega) (by omega), q 19 (by omega)]; exact d5
  · intro w hw k hk
    rw [p.2.2 w (by omega) k hk, Nat.add_assoc o' (4 * w) k, q _ (by omega), ← Nat.add_assoc o (4 * w) k]
    exact d6 w hw k hk
theorem hq_r {h h' : Nat → Nat → Int32} {b o : Nat} (e : h' b = h b) : hq_ h' b o h b o := fun j _ => by rw [e]
theorem sq_r {g g' : Nat → Nat → Int32} {s : Nat} (e : ∀ a j, s ≤ a → a ≤ s + 6 → g' a j = g a j) : sq_ g' s g s := ⟨fun k _ _ _ => e s k (by omega) (by omega), fun i _ => e _ i (by omega) (by omega), fun w hw k _ => e _ k (by omega) (by omega)⟩
theorem sw_n {g h : Nat → Nat → Int32} (h0 : sw_ g h) : ∃ n : Nat, n ≤ 4 ∧ h 344 20 = Int32.ofNat n ∧ g 17 1 = Int32.ofNat n := by
  obtain ⟨n, h1, h2, h3, -⟩ := h0
  exact ⟨n, h1, h2, h3.1⟩
theorem sw_q {g h g' h' : Nat → Nat → Int32} (E : ∀ a j, 17 ≤ a → a < 313 → g' a j = g a j) (E1 : g' 0 16 = g 0 16) (F : ∀ a, a = 359 ∨ a = 361 ∨ a = 369 → h' a = h a) (F1 : ∀ j, j = 20 ∨ j = 23 ∨ j = 29 ∨ j = 40 → h' 344 j = h 344 j) (F2 : ∀ j : Nat, (j : Int) < (h 344 23).toInt → h' 358 j = h 358 j) (d : sw_ g h) : sw_ g' h' := by
  obtain ⟨n, d1, d2, d3, ⟨m, x, m1, m2, m3, m4, m5, m6⟩, d5, d6⟩ := d
  refine ⟨n, d1, by rw [F1 20 (by omega)]; exact d2, sc_q d1 (sq_r fun a j h1 h2 => E a j (by omega) (by omega)) (hq_r (F 359 (by omega))) (F1 23 (by omega)) F2 d3, ⟨m, x, m1, m2, ?_, ?_, ?_, ?_⟩, ?_, ?_⟩
  · rw [E 24 2 (by omega) (by omega)]; exact m3
  · rw [F1 29 (by omega)]; exact m4
  · rw [E 24 1 (by omega) (by omega)]; exact m5
  · intro i hi
    have := Nat.mod_lt (x + 39 - i) (show 0 < 40 by omega)
    exact sc_q d1 (sq_r fun a j h1 h2 => E a j (by omega) (by omega)) (hq_r (F 361 (by omega))) (F1 23 (by omega)) F2 (m6 i hi)
  · rw [E1, F1 40 (by omega)]; exact d5
  · rw [E1]
    rcases d6 with d6 | ⟨q1, q2, q3⟩
    · exact Or.inl d6
    · exact Or.inr ⟨q1, q2, sc_q d1 (sq_r fun a j h1 h2 => E a j (by omega) (by omega)) (hq_r (F 369 (by omega))) (F1 23 (by omega)) F2 q3⟩
theorem sl_q {f f' : Nat → Int32} {o : Nat} {l : List Int32} (e : ∀ j, o ≤ j → j < o + l.length → f' j = f j) (h : sl_ f o l) : sl_ f' o l := fun j hj => by rw [e _ (by omega) (by omega)]; exact h j hj
theorem rl_g {R : Nat → Nat → Option Nat} {L : Nat → Nat} {g h : Nat → Nat → Int32} {N : Nat} {R' : Nat → Nat → Option Nat} {L' : Nat → Nat} {g' : Nat → Nat → Int32} (K : KG R L g R' L' g') (r : rl_ R L g h N) : rl_ R' L' g' h N := by
  obtain ⟨r1, r2, ⟨t, t1, t2, t3, t4⟩, ⟨k, k1, k2, k3, k4, k5, k6⟩, ⟨m, m1, m2, m3, m4, m5, m6, m7⟩, r6, r7, r8, ⟨r9, r10, r11, r12⟩, ⟨q, q1, q2, q3, q4⟩⟩ := r
  have E : ∀ a j, (a < 2 ∨ (12 ≤ a ∧ a < 313) ∨ (313 ≤ a ∧ a ≤ 316 ∧ (a = 313 → j ≠ 5)) ∨ a = 319) → g' a j = g a j := fun a j h => K.2.2 a j (scI_lo h)
  have e12 : ∀ j, R' 12 j = R 12 j := fun j => K.2.1 12 j (scR_lo (by omega))
  have e13 : ∀ j, R' 13 j = R 13 j := fun j => K.2.1 13 j (scR_lo (by omega))
  have eR : ∀ a j, 371 ≤ a → R' a j = R a j := fun a j h => K.2.1 a j (scR_lo (by omega))
  have eL : ∀ a, 371 ≤ a → L' a = L a := fun a h => K.1 a (by omega)
  refine ⟨cs_g K r1, r2, ⟨t, t1, ?_, t3, ?_⟩, ⟨k, k1, ?_, k3, ?_, ?_, ?_⟩, ⟨m, m1, ?_, m3, ?_, ?_, ?_, ?_⟩, ?_, ?_, ?_, ⟨?_, ?_, ?_, ?_⟩, ⟨q, q1, ?_, q3, ?_⟩⟩
  · rw [E 0 1 (by omega)]; exact t2
  · intro i hi
    rw [E 1 i (by omega)]; exact t4 i hi
  · rw [E 0 9 (by omega)]; exact k2
  · intro s hs
    obtain ⟨b, b1, b2, b3, b4, b5, b6, b7, b8⟩ := k4 s hs
    have hg : ∀ j, g' (b + 1) j = g (b + 1) j := fun j => K.2.2 _ _ (by
      intro w
      rcases w with w | w | w | w | w | ⟨i, c, w1, w2, w3, w4⟩
      · omega
      · omega
      · omega
      · omega
      · omega
      · have := r6.2.1 i s c b w1 (by omega) w2 b3
        omega)
    refine ⟨b, b1, b2, by rw [e13]; exact b3, by rw [eR b 0 b1]; exact b4, ?_⟩
    unfold sp_
    rw [eL (b + 1) (by omega)]
    exact ⟨b5, b6, b7, fun i hi => by rw [hg]; exact b8 i hi⟩
  · intro s h1 h2
    rw [e13]; exact k5 s h1 h2
  · rw [E 15 0 (by omega)]; exact k6
  · rw [E 0 6 (by omega)]; exact m2
  · rw [E 0 7 (by omega)]; exact m4
  · rw [E 0 7 (by omega)]; exact m5
  · rw [E 0 7 (by omega)]; exact m6
  · intro i hi
    obtain ⟨b, Kl, b1, b2, b3, c1, c2, c3, c4, c5, c6, c7⟩ := m7 i hi
    have hg : ∀ j, g' (b + 1) j = g (b + 1) j := fun j => K.2.2 _ _ (by
      intro w
      rcases w with w | w | w | w | w | ⟨i2, c, w1, w2, w3, w4⟩
      · omega
      · omega
      · omega
      · omega
      · omega
      · by_cases hii : i = i2
        · subst hii
          rw [b3] at w2
          have w2 := Option.some.inj w2
          omega
        · have := r6.1 i i2 b c (by omega) w1 hii b3 w2
          omega)
    refine ⟨b, Kl, b1, b2, by rw [e12]; exact b3, by rw [eR b 0 b1]; exact c1, by rw [eR b 1 b1]; exact c2, by rw [eL (b + 2) (by omega)]; exact c3, by rw [eL (b + 1) (by omega)]; exact c4, c5, sl_q (fun j _ _ => hg j) c6, c7⟩
  · exact ⟨fun i j b c h1 h2 h3 h4 h5 => r6.1 i j b c h1 h2 h3 (by rw [← e12]; exact h4) (by rw [← e12]; exact h5), fun i s b c h1 h2 h4 h5 => r6.2.1 i s b c h1 h2 (by rw [← e12]; exact h4) (by rw [← e13]; exact h5), fun i b h1 h4 => r6.2.2 i b h1 (by rw [← e12]; exact h4)⟩
  · exact sw_q (fun a j h1 h2 => E a j (by omega)) (E 0 16 (by omega)) (fun _ _ => rfl) (fun _ _ => rfl) (fun _ _ => rfl) r7
  · refine ⟨fun w hw => ?_, fun w hw => ?_, fun i hi w hw => ?_⟩
    · rw [E _ 1 (by omega)]; exact r8.1 w hw
    · rw [E _ 1 (by omega)]; exact r8.2.1 w hw
    · rw [E _ 1 (by omega)]; exact r8.2.2 i hi w hw
  · rw [E 0 11 (by omega)]; exact r9
  · rw [E 0 11 (by omega)]; exact r10
  · rw [E 0 11 (by omega)]; exact r11
  · intro j hj
    rw [E 16 j (by omega)]; exact r12 j hj
  · rw [E 313 3 (by omega)]; exact q2
  · intro i hi
    rw [E 314 i (by omega), E 315 i (by omega), E 316 i (by omega)]; exact q4 i hi
/-- what calls keep in the reference's cells -/
def HK (h h' : Nat → Nat → Int32) : Prop := (∀ a, a = 345 ∨ a = 359 ∨ a = 360 ∨ a = 361 ∨ a = 365 ∨ a = 366 ∨ a = 367 ∨ a = 369 → h' a = h a) ∧ (∀ j, j = 2 ∨ j = 13 ∨ j = 20 ∨ j = 23 ∨ j = 26 ∨ j = 27 ∨ j = 29 ∨ j = 37 ∨ j = 40 → h' 344 j = h 344 j) ∧ (∀ k : Nat, h 344 13 = Int32.ofNat k → k ≤ 4 → (∀ j, j < 520 * k → h' 346 j = h 346 j ∧ h' 347 j = h 347 j) ∧ (∀ j, j < 140 * k → h' 350 j = h 350 j ∧ h' 351 j = h 351 j ∧ h' 352 j = h 352 j) ∧ ∀ j, j < k → h' 349 j = h 349 j) ∧ (∀ k : Nat, h 344 23 = Int32.ofNat k → k ≤ 6 → (∀ j, j < 16 * k → h' 357 j = h 357 j) ∧ ∀ j, j < k → h' 358 j = h 358 j)
theorem rl_h {R : Nat → Nat → Option Nat} {L : Nat → Nat} {g h : Nat → Nat → Int32} {N : Nat} {h' : Nat → Nat → Int32} (K : HK h h') (r : rl_ R L g h N) : rl_ R L g h' N := by
  obtain ⟨r1, r2, ⟨t, t1, t2, t3, t4⟩, ⟨k, k1, k2, k3, k4, k5, k6⟩, ⟨m, m1, m2, m3, m4, m5, m6, m7⟩, r6, r7, r8, ⟨r9, r10, r11, r12⟩, ⟨q, q1, q2, q3, q4⟩⟩ := r
  obtain ⟨K1, K2, K3, K4⟩ := K
  obtain ⟨K3a, K3b, K3c⟩ := K3 m m3 m1
  obtain ⟨K4a, K4b⟩ := K4 k k3 k1
  refine ⟨r1, r2, ⟨t, t1, t2, ?_, ?_⟩, ⟨k, k1, k2, ?_, ?_, k5, k6⟩, ⟨m, m1, m2, ?_, ?_, m5, m6, ?_⟩, r6, ?_, r8, ⟨?_, r10, r11, ?_⟩, ⟨q, q1, q2, ?_, ?_⟩⟩
  · rw [K2 2 (by omega)]; exact t3
  · rw [K1 345 (by omega)]; exact t4
  · rw [K2 23 (by omega)]; exact k3
  · intro s hs
    obtain ⟨b, b1, b2, b3, b4, b5, b6, b7, b8⟩ := k4 s hs
    refine ⟨b, b1, b2, b3, b4, b5, b6, by rw [K4b s hs]; exact b7, fun i hi => ?_⟩
    rw [K4a _ (by omega)]; exact b8 i hi
  · rw [K2 13 (by omega)]; exact m3
  · rw [K2 26 (by omega)]; exact m4
  · intro i hi
    obtain ⟨b, Kl, b1, b2, b3, c1, c2, c3, c4, c5, c6, c7, c8, c9, c10, c11, c12, c13⟩ := m7 i hi
    refine ⟨b, Kl, b1, b2, b3, c1, c2, c3, c4, c5, c6, by rw [K3c i hi]; exact c7, c8, c9, sl_q (fun j _ hj => ?_) c10, sl_q (fun j _ hj => ?_) c11, ?_, c13⟩
    · rw [List.length_map] at hj
      exact (K3a j (by omega)).1
    · rw [List.length_map] at hj
      exact (K3a j (by omega)).2
    · intro c hc
      rw [(K3b _ (by omega)).1, (K3b _ (by omega)).2.1, (K3b _ (by omega)).2.2]
      exact c12 c hc
  · refine sw_q (fun _ _ _ _ => rfl) rfl (fun a ha => K1 a (by omega)) (fun j hj => K2 j (by omega)) (fun j hj => K4b j ?_) r7
    rw [k3, o_ti (by omega)] at hj
    omega
  · rw [K2 27 (by omega)]; exact r9
  · rw [K1 360 (by omega)]; exact r12
  · rw [K2 37 (by omega)]; exact q3
  · rw [K1 365 (by omega), K1 366 (by omega), K1 367 (by omega)]; exact q4
/-! over pools -/
theorem FC.rf {σ : Sg} : FC σ σ := fun _ _ _ => ⟨rfl, rfl, rfl, rfl⟩
theorem FC.tr {σ τ υ : Sg} (h : FC σ τ) (k : FC τ υ) : FC σ υ := fun a h1 h2 => ⟨(k a h1 h2).1.trans (h a h1 h2).1, (k a h1 h2).2.1.trans (h a h1 h2).2.1, (k a h1 h2).2.2.1.trans (h a h1 h2).2.2.1, (k a h1 h2).2.2.2.trans (h a h1 h2).2.2.2⟩
theorem FR.rf {σ : Sg} : FR σ σ := ⟨rfl, fun _ _ => ⟨rfl, rfl, rfl⟩⟩
theorem FR.tr {σ τ υ : Sg} (h : FR σ τ) (k : FR τ υ) : FR σ υ := ⟨k.1.trans h.1, fun a h1 => ⟨(k.2 a h1).1.trans (h.2 a h1).1, (k.2 a h1).2.1.trans (h.2 a h1).2.1, (k.2 a h1).2.2.trans (h.2 a h1).2.2⟩⟩
theorem HK.rf {h : Nat → Nat → Int32} : HK h h := ⟨fun _ _ => rfl, fun _ _ => rfl, fun _ _ _ => ⟨fun _ _ => ⟨rfl, rfl⟩, fun _ _ => ⟨rfl, rfl, rfl⟩, fun _ _ => rfl⟩, fun _ _ _ => ⟨fun _ _ => rfl, fun _ _ => rfl⟩⟩
theorem HK.of {h h' : Nat → Nat → Int32} (e : ∀ a, a ≠ 344 → a ≠ 353 → a ≠ 354 → a ≠ 355 → a ≠ 356 → a ≠ 362 → a ≠ 363 → a ≠ 364 → a ≠ 368 → h' a = h a) (e2 : ∀ j, j = 2 ∨ j = 13 ∨ j = 20 ∨ j = 23 ∨ j = 26 ∨ j = 27 ∨ j = 29 ∨ j = 37 ∨ j = 40 → h' 344 j = h 344 j) : HK h h' := ⟨fun a ha => e a (by omega) (by omega) (by omega) (by omega) (by omega) (by omega) (by omega) (by omega) (by omega), e2, fun _ _ _ => ⟨fun _ _ => ⟨by rw [e 346 (by decide) (by decide) (by decide) (by decide) (by decide) (by decide) (by decide) (by decide) (by decide)], by rw [e 347 (by decide) (by decide) (by decide) (by decide) (by decide) (by decide) (by decide) (by decide) (by decide)]⟩, fun _ _ => ⟨by rw [e 350 (by decide) (by decide) (by decide) (by decide) (by decide) (by decide) (by decide) (by decide) (by decide)], by rw [e 351 (by decide) (by decide) (by decide) (by decide) (by decide) (by decide) (by decide) (by decide) (by decide)], by rw [e 352 (by decide) (by decide) (by decide) (by decide) (by decide) (by decide) (by decide) (by decide) (by decide)]⟩, fun _ _ => by rw [e 349 (by decide) (by decide) (by decide) (by decide) (by decide) (by decide) (by decide) (by decide) (by decide)]⟩, fun _ _ _ => ⟨fun _ _ => by rw [e 357 (by decide) (by decide) (by decide) (by decide) (by decide) (by decide) (by decide) (by decide) (by decide)], fun _ _ => by rw [e 358 (by decide) (by decide) (by decide) (by decide) (by decide) (by decide) (by decide) (by decide) (by decide)]⟩⟩
/-- the class's scratch alone has changed -/
def KC (σ τ : Sg) : Prop := sg_N τ = sg_N σ ∧ KG (sg_R σ) (sg_L σ) (sg_I σ) (sg_R τ) (sg_L τ) (sg_I τ) ∧ FC σ τ
theorem KC.rf {σ : Sg} : KC σ σ := ⟨rfl, ⟨fun _ _ => rfl, fun _ _ _ => rfl, fun _ _ _ => rfl⟩, FC.rf⟩
theorem KC.tr {σ τ υ : Sg} (h : KC σ τ) (k : KC τ υ) : KC σ υ := by
  refine ⟨k.1.trans h.1, ⟨fun a ha => (k.2.1.1 a ha).trans (h.2.1.1 a ha), fun a j ha => (k.2.1.2.1 a j ha).trans (h.2.1.2.1 a j ha), fun a j ha => ?_⟩, h.2.2.tr k.2.2⟩
  rw [k.2.1.2.2 a j ?_, h.2.1.2.2 a j ha]
  intro q
  apply ha
  rcases q with q | q | q | q | q | ⟨i, b, q1, q2, q3⟩
  · exact Or.inl q
  · exact Or.inr (Or.inl q)
  · exact Or.inr (Or.inr (Or.inl q))
  · exact Or.inr (Or.inr (Or.inr (Or.inl q)))
  · exact Or.inr (Or.inr (Or.inr (Or.inr (Or.inl q))))
  · refine Or.inr (Or.inr (Or.inr (Or.inr (Or.inr ⟨i, b, q1, ?_, q3⟩))))
    rw [← h.2.1.2.1 12 i (scR_lo (by omega))]
    exact q2
theorem KC.rel {σ τ ρ : Sg} (h : KC σ τ) (r : Rel σ ρ) : Rel τ ρ := ⟨by rw [h.1]; exact rl_g h.2.1 r.1, r.2⟩
/-- of the reference's cells scratch alone has changed -/
def KR (σ τ : Sg) : Prop := HK (sg_I σ) (sg_I τ) ∧ FR σ τ ∧ (∀ a, 344 ≤ a → a ≤ 369 → sg_R τ a = sg_R σ a ∧ sg_L τ a = sg_L σ a)
theorem KR.rf {σ : Sg} : KR σ σ := ⟨HK.rf, FR.rf, fun _ _ _ => ⟨rfl, rfl⟩⟩
theorem rs_q {R R' : Nat → Nat → Option Nat} {L L' : Nat → Nat} (e : ∀ a, 344 ≤ a → a ≤ 369 → R' a = R a ∧ L' a = L a) (r : rs_ R L) : rs_ R' L' := by
  refine ⟨fun q hq => ?_, fun q hq => ?_⟩
  · rw [(e 344 (by omega) (by omega)).1]; exact r.1 q hq
  · have hk : ∀ q ∈ rs_L, 344 ≤ q.1 ∧ q.1 ≤ 369 := by decide
    rw [(e q.1 (hk q hq).1 (hk q hq).2).2]; exact r.2 q hq
theorem KR.rel {σ τ ρ : Sg} (h : KR σ τ) (r : Rel ρ σ) : Rel ρ τ := ⟨rl_h h.1 r.1, rs_q h.2.2 r.2⟩
theorem Rel.ref {σ ρ τ : Sg} (r : Rel σ ρ) (e : FC ρ τ) : Rel σ τ :=
  ⟨rl_h ⟨fun a ha => (e a (by omega) (by omega)).1, fun j _ => by rw [(e 344 (by omega) (by omega)).1], fun k _ _ => ⟨fun j _ => ⟨by rw [(e 346 (by omega) (by omega)).1], by rw [(e 347 (by omega) (by omega)).1]⟩, fun j _ => ⟨by rw [(e 350 (by omega) (by omega)).1], by rw [(e 351 (by omega) (by omega)).1], by rw [(e 352 (by omega) (by omega)).1]⟩, fun j _ => by rw [(e 349 (by omega) (by omega)).1]⟩, fun k _ _ => ⟨fun j _ => by rw [(e 357 (by omega) (by omega)).1], fun j _ => by rw [(e 358 (by omega) (by omega)).1]⟩⟩ r.1, rs_q (fun a h1 h2 => ⟨(e a h1 (by omega)).2.1, (e a h1 (by omega)).2.2.1⟩) r.2⟩
theorem Rel.cls {σ ρ τ : Sg} (r : Rel σ ρ) (e : FR σ τ) : Rel τ ρ := by
  refine ⟨?_, r.2⟩
  rw [e.1]
  refine rl_g ⟨fun a ha => (e.2 a (by omega)).2.2, fun a j ha => ?_, fun a j ha => ?_⟩ r.1
  · rw [(e.2 a ?_).2.1]
    apply Classical.byContradiction
    intro q
    exact ha (Or.inr (Or.inr (by omega)))
  · rw [(e.2 a ?_).1]
    apply Classical.byContradiction
    intro q
    exact ha (Or.inr (Or.inr (Or.inr (Or.inr (Or.inl (by omega))))))
/-- both sides, each over its own pool, answer alike and stay tied -/
def Sm {α : Type} (A B : Sg → Option (α × Sg)) : Prop := ∀ σ ρ, Rel σ ρ → ∃ p q, A σ = some p ∧ B ρ = some q ∧ p.1 = q.1 ∧ Rel p.2 q.2 ∧ FC σ p.2 ∧ FR ρ q.2
theorem Sm.so {α : Type} {A B : Sg → Option (α × Sg)} (h : Sm A B) (σ : Sg) (r : p2_I σ) : ∃ p q, A σ = some p ∧ B p.2 = some q ∧ p.1 = q.1 ∧ p2_I q.2 := by
  obtain ⟨p, -, h1, -, -, -, h2, -⟩ := h σ σ r
  obtain ⟨p', q, g1, g2, g3, g4, g5, g6⟩ := h σ p.2 (r.ref h2)
  rw [h1] at g1
  cases g1
  exact ⟨p, q, h1, g2, g3, g4.cls g6⟩
/-- the same for what changes nothing but scratch -/
theorem Sm.of {α : Type} {A B : Sg → Option (α × Sg)} (h : ∀ σ ρ, Rel σ ρ → ∃ p q, A σ = some p ∧ B ρ = some q ∧ p.1 = q.1 ∧ KC σ p.2 ∧ KR ρ q.2) : Sm A B := by
  intro σ ρ r
  obtain ⟨p, q, h1, h2, h3, h4, h5⟩ := h σ ρ r
  exact ⟨p, q, h1, h2, h3, h5.rel (h4.rel r), h4.2.2, h5.2.1⟩
/-! the tie's pieces, each by itself -/
theorem gI_n {σ : Sg} {a j b k : Nat} {v : Int32} (h : b ≠ a ∨ k ≠ j) : sg_I (put_I σ a j v) b k = sg_I σ b k := by
  rw [gI_I, if_neg (by omega)]
theorem gI_e {σ : Sg} {a j : Nat} {v : Int32} : sg_I (put_I σ a j v) a j = v := by
  rw [gI_I, if_pos ⟨rfl, rfl⟩]
theorem gI_a {σ : Sg} {a j b : Nat} {v : Int32} (h : b ≠ a) : sg_I (put_I σ a j v) b = sg_I σ b := by
  funext k
  rw [gI_I, if_neg (by omega)]
theorem rl_x {R : Nat → Nat → Option Nat} {L : Nat → Nat} {g h g' h' : Nat → Nat → Int32} {N : Nat} (r : rl_ R L g h N) (t : tp_ g' h') (s : st_ R L g' h' N) (l : la_ R L g' h' N) (w : sw_ g' h') (b : ba_ g') (m : mi_ g' h') (n : no_ g' h') : rl_ R L g' h' N := ⟨r.1, r.2.1, t, s, l, r.2.2.2.2.2.1, w, b, m, n⟩
theorem tp_q {g h g' h' : Nat → Nat → Int32} (E1 : g' 0 1 = g 0 1) (E2 : g' 1 = g 1) (F1 : h' 344 2 = h 344 2) (F2 : h' 345 = h 345) (d : tp_ g h) : tp_ g' h' := by
  unfold tp_
  rw [E1, E2, F1, F2]
  exact d
theorem st_q {R : Nat → Nat → Option Nat} {L : Nat → Nat} {g h g' h' : Nat → Nat → Int32} {N : Nat} (E1 : g' 0 9 = g 0 9) (E2 : g' 15 0 = g 15 0) (E3 : ∀ a, 371 ≤ a → g' a = g a) (F1 : h' 344 23 = h 344 23) (F2 : h' 357 = h 357) (F3 : h' 358 = h 358) (d : st_ R L g h N) : st_ R L g' h' N := by
  obtain ⟨k, k1, k2, k3, k4, k5, k6⟩ := d
  refine ⟨k, k1, E1.trans k2, F1.trans k3, fun s hs => ?_, k5, E2.trans k6⟩
  obtain ⟨b, b1, b2, b3, b4, b5⟩ := k4 s hs
  refine ⟨b, b1, b2, b3, b4, ?_⟩
  unfold sp_
  rw [E3 (b + 1) (by omega), F2, F3]
  exact b5
theorem la_q {R : Nat → Nat → Option Nat} {L : Nat → Nat} {g h g' h' : Nat → Nat → Int32} {N : Nat} (E1 : g' 0 6 = g 0 6) (E2 : g' 0 7 = g 0 7) (E3 : ∀ a, 371 ≤ a → g' a = g a) (F1 : h' 344 13 = h 344 13) (F2 : h' 344 26 = h 344 26) (F3 : ∀ a, a = 346 ∨ a = 347 ∨ a = 349 ∨ a = 350 ∨ a = 351 ∨ a = 352 → h' a = h a) (d : la_ R L g h N) : la_ R L g' h' N := by
  obtain ⟨m, m1, m2, m3, m4, m5, m6, m7⟩ := d
  refine ⟨m, m1, E1.trans m2, F1.trans m3, by rw [E2, F2]; exact m4, by rw [E2]; exact m5, by rw [E2]; exact m6, fun i hi => ?_⟩
  obtain ⟨b, K, b1, b2, b3, b4⟩ := m7 i hi
  refine ⟨b, K, b1, b2, b3, ?_⟩
  unfold lw_1
  rw [E3 (b + 1) (by omega), F3 346 (by omega), F3 347 (by omega), F3 349 (by omega), F3 350 (by omega), F3 351 (by omega), F3 352 (by omega)]
  exact b4
theorem ba_q {g g' : Nat → Nat → Int32} (E : ∀ a, 17 ≤ a → a < 313 → g' a 1 = g a 1) (d : ba_ g) : ba_ g' := by
  refine ⟨fun w hw => ?_, fun w hw => ?_, fun i hi w hw => ?_⟩
  · rw [E _ (by omega) (by omega)]; exact d.1 w hw
  · rw [E _ (by omega) (by omega)]; exact d.2.1 w hw
  · rw [E _ (by omega) (by omega)]; exact d.2.2 i hi w hw
theorem mi_q {g h g' h' : Nat → Nat → Int32} (E1 : g' 0 11 = g 0 11) (E2 : g' 16 = g 16) (F1 : h' 344 27 = h 344 27) (F2 : h' 360 = h 360) (d : mi_ g h) : mi_ g' h' := by
  unfold mi_
  rw [E1, E2, F1, F2]
  exact d
theorem no_q {g h g' h' : Nat → Nat → Int32} (E1 : g' 313 3 = g 313 3) (E2 : g' 314 = g 314) (E3 : g' 315 = g 315) (E4 : g' 316 = g 316) (F1 : h' 344 37 = h 344 37) (F2 : h' 365 = h 365) (F3 : h' 366 = h 366) (F4 : h' 367 = h 367) (d : no_ g h) : no_ g' h' := by
  unfold no_
  rw [E1, E2, E3, E4, F1, F2, F3, F4]
  exact d
theorem so_q {α : Type} {A B : Option α} {σ : Sg} (v : α) (h1 : A = some v) (h2 : B = some v) (r : p2_I σ) : ∃ p q, A = some p ∧ B = some q ∧ p = q ∧ p2_I σ := ⟨v, v, h1, h2, rfl, r⟩
theorem FC.put {σ : Sg} {a j : Nat} {v : Int32} (h : a < 344 ∨ 370 < a) : FC σ (put_I σ a j v) := fun b h1 h2 => ⟨gI_a (by omega), rfl, rfl, rfl⟩
theorem FR.put {σ : Sg} {a j : Nat} {v : Int32} (h : 344 ≤ a ∧ a < 370) : FR σ (put_I σ a j v) := ⟨rfl, fun b h1 => ⟨gI_a (by omega), rfl, rfl⟩⟩
theorem KC.put {σ : Sg} {a j : Nat} {v : Int32} (h : scI (sg_R σ) a j) (h2 : a < 344 ∨ 370 < a) : KC σ (put_I σ a j v) := ⟨rfl, ⟨fun _ _ => rfl, fun _ _ _ => rfl, fun b k hb => gI_n (by
  apply Classical.byContradiction
  intro q
  have q1 : b = a := by omega
  have q2 : k = j := by omega
  subst q1 q2
  exact hb h)⟩, FC.put h2⟩
theorem KR.put {σ : Sg} {a j : Nat} {v : Int32} (h : (a = 344 ∧ j ≠ 2 ∧ j ≠ 13 ∧ j ≠ 20 ∧ j ≠ 23 ∧ j ≠ 26 ∧ j ≠ 27 ∧ j ≠ 29 ∧ j ≠ 37 ∧ j ≠ 40) ∨ a = 353 ∨ a = 354 ∨ a = 355 ∨ a = 356 ∨ a = 362 ∨ a = 363 ∨ a = 364 ∨ a = 368) : KR σ (put_I σ a j v) := ⟨HK.of (fun b _ _ _ _ _ _ _ _ _ => gI_a (by omega)) (fun k hk => gI_n (by omega)), FR.put (by omega), fun _ _ _ => ⟨rfl, rfl⟩⟩
theorem HK.tr {h h' h'' : Nat → Nat → Int32} (p : HK h h') (q : HK h' h'') : HK h h'' := by
  refine ⟨fun a ha => (q.1 a ha).trans (p.1 a ha), fun j hj => (q.2.1 j hj).trans (p.2.1 j hj), fun k e hk => ?_, fun k e hk => ?_⟩
  · obtain ⟨p1, p2, p3⟩ := p.2.2.1 k e hk
    obtain ⟨q1, q2, q3⟩ := q.2.2.1 k ((p.2.1 13 (by omega)).trans e) hk
    exact ⟨fun j hj => ⟨(q1 j hj).1.trans (p1 j hj).1, (q1 j hj).2.trans (p1 j hj).2⟩, fun j hj => ⟨(q2 j hj).1.trans (p2 j hj).1, (q2 j hj).2.1.trans (p2 j hj).2.1, (q2 j hj).2.2.trans (p2 j hj).2.2⟩, fun j hj => (q3 j hj).trans (p3 j hj)⟩
  · obtain ⟨p1, p2⟩ := p.2.2.2 k e hk
    obtain ⟨q1, q2⟩ := q.2.2.2 k ((p.2.1 23 (by omega)).trans e) hk
    exact ⟨fun j hj => (q1 j hj).trans (p1 j hj), fun j hj => (q2 j hj).trans (p2 j hj)⟩
theorem KR.tr {σ τ υ : Sg} (h : KR σ τ) (k : KR τ υ) : KR σ υ := ⟨h.1.tr k.1, h.2.1.tr k.2.1, fun a h1 h2 => ⟨(k.2.2 a h1 h2).1.trans (h.2.2 a h1 h2).1, (k.2.2 a h1 h2).2.trans (h.2.2 a h1 h2).2⟩⟩
