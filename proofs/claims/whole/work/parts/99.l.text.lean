theorem tpl_v {υ ρ : Sg} (r : Rel υ ρ) {n : Nat} {P Q : Nat → Nat} (hn : n ≤ 4) (hQ : ∀ w, w < n → Q w ≤ 5) (hP : ∀ w, w < n → P w ≤ 15) : ∀ (j v m : Nat) (σ : Sg), v + j = n → j < m → kq_ υ σ → sg_I σ 0 9 = sg_I υ 0 9 → sg_I σ 17 1 = Int32.ofNat n → (∀ w, w < n → sg_I σ (20 + w) 3 = Int32.ofNat (Q w)) → (∀ w, v ≤ w → w < n → sg_I σ (20 + w) 2 = Int32.ofNat (P w)) → ∃ τ, f_X11_tellLantern_L13 20000 0 m (Int32.ofNat v) σ = some (Int32.ofNat n, put_I (put_I (put_I τ 24 2 0) 313 3 0) 0 16 0) ∧ kq_ υ τ ∧ (∀ a l, ¬ (20 + v ≤ a ∧ a < 20 + n ∧ l = 2) → sg_I τ a l = sg_I σ a l) ∧ (∀ w, v ≤ w → w < n → sg_I τ (20 + w) 2 = Int32.ofNat (P w % hL (sg_I ρ) (Q w))) := by
  have c := r.cf
  have R13 : sg_R υ 0 13 = some 17 := by simp only [c]
  have R14 : sg_R υ 0 14 = some 24 := by simp only [c]
  have R17 : sg_R υ 0 17 = some 313 := by simp only [c]
  have R170 : sg_R υ 17 0 = some 18 := by simp only [c]
  have L18 : sg_L υ 18 = 4 := by simp only [c]
  have sn := r.1.1.2.2.1.2.2.1
  intro j
  induction j with
  | zero =>
    intro v m σ hv hm kq e9 e1 e3 e2
    obtain ⟨m, rfl⟩ : ∃ y, m = y + 1 := ⟨m - 1, by omega⟩
    refine ⟨σ, ?_, kq, fun _ _ _ => rfl, fun w h1 h2 => absurd h2 (by omega)⟩
    have a13 : sg_R σ 0 13 = some 17 := by rw [kq.2.1]; exact R13
    have a14 : sg_R σ 0 14 = some 24 := by rw [kq.2.1]; exact R14
    have a17 : sg_R (put_I σ 24 2 0) 0 17 = some 313 := by show sg_R σ 0 17 = _; rw [kq.2.1]; exact R17
    have a13' : sg_R (put_I (put_I (put_I σ 24 2 0) 313 3 0) 0 16 0) 0 13 = some 17 := a13
    have e1' : sg_I (put_I (put_I (put_I σ 24 2 0) 313 3 0) 0 16 0) 17 1 = Int32.ofNat n := by rw [gI_n (by omega), gI_n (by omega), gI_n (by omega)]; exact e1
    have x5 : f_X5_clear 24 σ = some (put_I σ 24 2 0) := rfl
    have x4 : f_X4_clear 313 (put_I σ 24 2 0) = some (put_I (put_I σ 24 2 0) 313 3 0) := rfl
    rw [f_X11_tellLantern_L13, f_of a13, e1, if_neg (by rw [o_lt (by omega) (by omega)]; omega), f_of a14, f_of x5, f_of a17, f_of x4, f_of a13', e1']
  | succ j ih =>
    intro v m σ hv hm kq e9 e1 e3 e2
    obtain ⟨m, rfl⟩ : ∃ y, m = y + 1 := ⟨m - 1, by omega⟩
    have a13 : sg_R σ 0 13 = some 17 := by rw [kq.2.1]; exact R13
    have a0 : sg_R σ 17 0 = some 18 := by rw [kq.2.1]; exact R170
    have aL : sg_L σ 18 = 4 := by rw [kq.2.2.1]; exact L18
    have aw : sg_R σ 18 v = some (20 + v) := by
      rw [kq.2.1]
      have := sn v (by omega)
      rw [show 17 + 1 = 18 from rfl, show 17 + 3 + v = 20 + v from rfl] at this
      exact this
    have hp := hP v (by omega)
    have hq := hQ v (by omega)
    obtain ⟨b, b1, b2, b3, b4⟩ := so_t r kq e9 (a := 20 + v) (q := Q v) (by omega) (e3 v (by omega))
    have rd : f_X11_round (Int32.ofNat (P v)) (Int32.ofNat (hL (sg_I ρ) (Q v))) = some (Int32.ofNat (P v % hL (sg_I ρ) (Q v))) := by
      rw [rd_c (by rw [o_ti (by omega)]; omega), md_o (by omega) (by omega) (by omega)]
    obtain ⟨τ, u1, u2, u3, u4⟩ := ih (v + 1) m (put_I σ (20 + v) 2 (Int32.ofNat (P v % hL (sg_I ρ) (Q v)))) (by omega) (by omega) (kq.tr kq_.put) (by rw [gI_n (by omega)]; exact e9) (by rw [gI_n (by omega)]; exact e1) (fun w hw => by rw [gI_n (by omega)]; exact e3 w hw) (fun w h1 h2 => by rw [gI_n (by omega)]; exact e2 w (by omega) h2)
    refine ⟨τ, ?_, u2, fun a l h => ?_, fun w h1 h2 => ?_⟩
    · rw [f_X11_tellLantern_L13, f_of a13, e1, if_pos (by rw [o_lt (by omega) (by omega)]; omega), f_of a0, aL, if_neg (o_in (by omega) (by omega)), o_tn (by omega), f_of aw, aw, f_of b1, f_of rfl, f_of b2, e2 v (by omega) (by omega), f_of rd, o_s v]
      exact u1
    · rw [u3 a l (by omega), gI_n (by omega)]
    · by_cases e : w = v
      · subst e
        rw [u3 (20 + w) 2 (by omega), gI_e]
      · exact u4 w (by omega) h2
