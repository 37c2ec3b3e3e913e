theorem cl_d {N n b e i : Nat} {σ : Sg} {C A B : List Int32} {x y a d : Int32} {lt : Nat → Int32} {r : List Int32} (h : Lz_ σ b e C lt (d :: a :: r)) (eC : C = A ++ x :: B) (ei : A.length = i) (hC : C.length ≤ 720) (hlen : r.length + 2 ≤ 62) (hx : ¬ x = -12 ∧ ¬ x = -11 ∧ ¬ x = -10 ∧ x < 0 ∧ ¬ (-1 - x < Int32.ofNat 6)) (jc : ((f_X2_joined (-100 - x) a d).bind fun p => f_X11_within p (-1000000) 1000000) = some y) : ∃ τ, f_X2_worth_L7 N b (n + 1) (some e) (Int32.ofNat i) σ = f_X2_worth_L7 N b n (some e) (Int32.ofNat (i + 1)) τ ∧ Lz_ τ b e C lt (y :: r) ∧ KL b σ τ := by
  obtain ⟨q1, q3, ec, p1, p2, p3, q6, q7, hi⟩ := cl_0 h eC ei hC
  obtain ⟨υ, u1, u2, u3⟩ := pu_v h (by rw [List.length_cons]; omega)
  obtain ⟨ω, w1, w2, w3⟩ := pu_v u2 (by omega)
  obtain ⟨τ, t1, t2, t3⟩ := pi_v (v := y) w2 (by omega)
  refine ⟨τ, ?_, t2, (u3.tr w3).tr t3⟩
  obtain ⟨k1, k2, k3, k4, k5⟩ := hx
  obtain ⟨p12, j1, j2⟩ : ∃ p, f_X2_joined (-100 - x) a d = some p ∧ f_X11_within p (-1000000) 1000000 = some y := by
    cases hj : f_X2_joined (-100 - x) a d with
    | none => rw [hj] at jc; cases jc
    | some p =>
      rw [hj, f_of (rfl : some p = some p)] at jc
      exact ⟨p, rfl, jc⟩
  rw [f_X2_worth_L7]
  simp only [q1, Option.bind_some, q3, p3]
  rw [if_pos p1, if_neg p2, ec, if_neg k1, if_neg k2, if_neg k3, if_pos k4]
  simp only [q6]
  rw [if_neg k5, f_of u1, f_of (show f_X2_pull b (d, υ).2 = some (a, ω) from w1), f_of (show f_X2_joined (-100 - x) (a, ω).1 (d, υ).1 = some p12 from j1), f_of j2, f_of (show f_X2_pile b y (a, ω).2 = some τ from t1)]
  unfold f_X2_worth_B176
  rw [o_s]
