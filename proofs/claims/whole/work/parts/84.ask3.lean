theorem ak_f {σ ρ : Sg} (r : Rel σ ρ) : ∀ x ∈ fs_ (sg_I ρ) (hS (sg_I ρ)) 0, Fok (sg_I ρ) x := by
  refine fok_s (fun s => ?_) (hS (sg_I ρ)) 0 (by omega)
  obtain ⟨bb, cc, ⟨-, -, s1, s2, -⟩, -, -⟩ := r.sp s
  exact s2
theorem ak_0 {F : List Nat} (h0 : 0 < F.length) {f : Nat → Nat → Int32} (hF : F.length ≤ 960) : bq_ (fun t => mx_ (cc_ f t F) 27) 61 0 (-1) (F.length + 1) = bq_ (fun t => mx_ (cc_ f t F) 27) 60 1 (Int32.ofNat 0) (mx_ (cc_ f 0 F) 27) := by
  have hmx := mx_le (f := cc_ f 0 F) (b := F.length) (fun k => cc_le _) 27
  rw [bq_, if_pos (by omega)]
theorem ak_c {σ ρ : Sg} (r : Rel σ ρ) {F : List Nat} (eF : F = fs_ (sg_I ρ) (hS (sg_I ρ)) 0) : F.length ≤ 960 ∧ ∃ υ, f_X11_ask 20000 0 σ = some (if 0 < F.length then bq_ (fun t => mx_ (cc_ (sg_I ρ) t F) 27) 60 1 (Int32.ofNat 0) (mx_ (cc_ (sg_I ρ) 0 F) 27) else -1, υ) ∧ KC σ υ := by
  obtain ⟨τ, t1, t2, t3⟩ := fd_e r
  have hok := ak_f r
  rw [← eF] at t2 t3 hok
  have c := r.cf
  have c' := (t2.1.rel r).cf
  have R17 : sg_R σ 0 17 = some 313 := by simp only [c]
  have R8 : sg_R σ 0 8 = some 13 := by simp only [c]
  have R17' : sg_R τ 0 17 = some 313 := by simp only [c']
  have R8' : sg_R τ 0 8 = some 13 := by simp only [c']
  refine ⟨t3, ?_⟩
  unfold f_X11_ask f_X4_bestTick
  rw [f_of R17, R8, f_of t1, f_of R17', R8', t2.2.1, o_s F.length]
  by_cases h0 : 0 < F.length
  · obtain ⟨υ, u1, u2⟩ := bq_c r t3 h0 hok 61 0 20000 (F.length + 1) (-1) τ (by omega) (by omega) (by omega) t2
    have u1' : f_X4_bestTick_L12 20000 313 20000 (some 13) (-1) (Int32.ofNat (F.length + 1)) 0 τ = some (bq_ (fun t => mx_ (cc_ (sg_I ρ) t F) 27) 61 0 (-1) (F.length + 1), υ) := u1
    rw [ak_0 h0 t3] at u1'
    refine ⟨υ, ?_, u2.1⟩
    rw [f_of u1', if_pos h0]
  · have u1' : f_X4_bestTick_L12 20000 313 20000 (some 13) (-1) (Int32.ofNat (F.length + 1)) 0 τ = some (-1, τ) := by
      rw [f_X4_bestTick_L12, if_neg (by decide), t2.2.1, if_neg (by rw [l_0, o_lt (by omega) (by omega)]; exact h0)]
    refine ⟨τ, ?_, t2.1⟩
    rw [f_of u1', if_neg h0]
theorem ak_r {σ ρ : Sg} (r : Rel σ ρ) {F : List Nat} (eF : F = fs_ (sg_I ρ) (hS (sg_I ρ)) 0) (hF : F.length ≤ 960) : ∃ υ, f_X12_ask 20000 344 ρ = some (if 0 < F.length then bq_ (fun t => mx_ (cc_ (sg_I ρ) t F) 27) 60 1 (Int32.ofNat 0) (mx_ (cc_ (sg_I ρ) 0 F) 27) else -1, υ) ∧ KR ρ υ := by
  obtain ⟨g1, g2, g3⟩ := r.hs
  have hok := ak_f r
  have ft : f_X12_fits 20000 344 0 ρ = some (sf_ 0 (fs_ (sg_I ρ) (hS (sg_I ρ)) 0) 0) := ft_s r 0 (by decide)
  rw [← eF] at hok ft
  have s0 : sf_ 0 F 0 = if 0 < F.length then Int32.ofNat (F.getD 0 0) else -1 := sf_n F 0 0 (by omega) (by omega) (by omega)
  rw [s0] at ft
  unfold f_X12_ask
  rw [f_of ft]
  by_cases h0 : 0 < F.length
  · have hx : F.getD 0 0 ∈ F := by
      rw [List.getD_eq_getElem?_getD, List.getElem?_eq_getElem h0]
      exact List.getElem_mem h0
    have fx := (hok _ hx).1
    have nm : ¬ Int32.ofNat (F.getD 0 0) = -1 := by
      rw [i_eq, o_ti (by omega)]
      have : (-1 : Int32).toInt = -1 := rfl
      omega
    obtain ⟨φ, f1, f2, f3⟩ := tg_z r.rf 1647 0 20000 ρ (by omega) (by omega) KA.rf (fun i hi => absurd hi (by omega))
    have tg0 : TG ρ φ [] := ⟨f2, fun t ht p hp => f3 _ (by omega)⟩
    obtain ⟨υ, u1, u2⟩ := tg_k r (1000 * hS (sg_I ρ)) 0 20000 φ [] (by omega) (by omega) tg0 (Nat.le_refl 0)
    have hpos : 0 < hS (sg_I ρ) := by
      by_cases h : 0 < hS (sg_I ρ)
      · exact h
      · have hz : hS (sg_I ρ) = 0 := by omega
        rw [eF, hz] at h0
        exact absurd h0 (by show ¬ 0 < 0; omega)
    rw [if_pos (by omega), rk_0 hpos, List.nil_append, ← eF] at u2
    have hmx := mx_le (f := cc_ (sg_I ρ) 0 F) (b := F.length) (fun k => cc_le _) 27
    have i1 := tg_m r.rf u2 (by omega) (show 0 ≤ 60 by omega) (best := -1) (few := 0) (K := f_X12_ask_L148 20000 344 19999) 27 0 20000 (by omega) (by omega)
    rw [if_pos (Or.inl rfl)] at i1
    have i2 := tg_b r.rf u2 hF 60 1 19999 (mx_ (cc_ (sg_I ρ) 0 F) 27) (Int32.ofNat 0) (by omega) (by omega) (by omega) (by decide)
    refine ⟨υ, ?_, u2.1.kr⟩
    rw [if_pos h0, if_pos h0, if_neg nm]
    refine (show _ = _ from f1).trans ((show _ = _ from u1).trans ?_)
    rw [f_X12_ask_L148, if_neg (by decide)]
    exact (show _ = _ from i1).trans i2
  · refine ⟨ρ, ?_, KR.rf⟩
    rw [if_neg h0, if_neg h0, if_pos rfl]
theorem p2_ask : so_ask p2_I 20000 := by
  refine Sm.so (Sm.of ?_)
  intro σ ρ r
  obtain ⟨a1, υ, a2, a3⟩ := ak_c r rfl
  obtain ⟨φ, b1, b2⟩ := ak_r r rfl a1
  exact ⟨_, _, a2, b1, rfl, a3, b2⟩
