/-! ===== the reader of laws: atoms ===== -/
theorem obi_ {α : Type} (o : Option α) : (o.bind fun a => some a) = o := by cases o <;> rfl
theorem pn_j {t i p k : Nat} {x : Nat → Int32} {σ ρ : Sg} {C : List Int32} {T : List Tk} (hx : XT t x) (h : LSt t i x σ ρ p k C T) (h0 : dg_ (sx_ x t p)) : ∀ (J n v m m' : Nat), n + J = 4 → J + 2 ≤ m → J < m' → v < 10 ^ n → p + n ≤ t →
    (∃ w e, w ≤ 9999 ∧ 1 ≤ e ∧ p + e ≤ t ∧ f_X6_number_L23 20000 6 m (Int32.ofNat 4) (Int32.ofNat 0) (Int32.ofNat 9999) (Int32.ofNat n) (Int32.ofNat v) (Int32.ofNat (min t (p + 4 + 1))) σ = some (Int32.ofNat w, put_I σ 6 2 (Int32.ofNat (p + e))) ∧ f_X12_plainNumber_L4 20000 344 m' (Int32.ofNat v) (Int32.ofNat n) (put_I ρ 344 3 (Int32.ofNat (p + n))) = some (Int32.ofNat w, put_I ρ 344 3 (Int32.ofNat (p + e)))) ∨
    (p + 4 ≤ t ∧ ∃ w, f_X6_number_L23 20000 6 m (Int32.ofNat 4) (Int32.ofNat 0) (Int32.ofNat 9999) (Int32.ofNat n) (Int32.ofNat v) (Int32.ofNat (min t (p + 4 + 1))) σ = some (-1, put_I σ 6 2 (Int32.ofNat (p + 4))) ∧ f_X12_plainNumber_L4 20000 344 m' (Int32.ofNat v) (Int32.ofNat n) (put_I ρ 344 3 (Int32.ofNat (p + n))) = some (w, put_I (put_I ρ 344 3 (Int32.ofNat (p + 4))) 344 4 (Int32.ofNat (p + 4)))) := by
  have ht := hx.1
  obtain ⟨⟨b1, b2, b3, b4, b5, b6, b7⟩, a2, a3, a4, a5, a6, a7, a8, a9, a10⟩ := h
  have hr : ∀ e, p + e ≤ t → f_X12_here 344 (put_I ρ 344 3 (Int32.ofNat (p + e))) = some (sx_ x t (p + e)) := fun e he => hr_v hx (b4.put (by decide) (by decide)) gI_e (by omega)
  intro J
  induction J with
  | zero =>
    intro n v m m' hn hm hm' hv hp
    have n4 : n = 4 := by omega
    subst n4
    obtain ⟨m, rfl⟩ : ∃ y, m = y + 2 := ⟨m - 2, by omega⟩
    obtain ⟨m', rfl⟩ : ∃ y, m' = y + 1 := ⟨m' - 1, by omega⟩
    have hv : v < 10000 := hv
    have rl : f_X12_plainNumber_L4 20000 344 (m' + 1) (Int32.ofNat v) (Int32.ofNat 4) (put_I ρ 344 3 (Int32.ofNat (p + 4))) = f_X12_plainNumber_B48 20000 344 (Int32.ofNat v) (put_I ρ 344 3 (Int32.ofNat (p + 4))) := by
      rw [f_X12_plainNumber_L4, if_neg (by decide)]
    by_cases g : dg_ (sx_ x t (p + 4))
    · obtain ⟨d, d1, d2, d3, d4⟩ := nm_d (m := m + 1) (lo := Int32.ofNat 0) (hi := Int32.ofNat 9999) hx b1 a3 a2 (show 4 ≤ 4 by omega) (show 4 ≤ 4 by omega) (show v < 100000 by omega) g
      have ee := nm_n (m := m) (v := Int32.ofNat (10 * v + d)) (lo := Int32.ofNat 0) (hi := Int32.ofNat 9999) hx b1 a3 a2 (show 4 ≤ 4 by omega) (k := 4 + 1) (Or.inl rfl)
      have eb := nm_b (k := 4 + 1) (v := 10 * v + d) (lo := 0) (hi := 9999) (mx := 4) a3 (by omega) (by omega) (by omega) (by omega) (by omega) (by omega)
      rw [if_neg (by omega), if_pos (by omega)] at eb
      refine Or.inr ⟨hp, Int32.ofNat v, d4.trans (ee.trans eb), ?_⟩
      rw [rl]
      unfold f_X12_plainNumber_B48
      rw [f_of (hr 4 hp), f_of (dg_r g), if_neg (show ¬ (1 : Int32) = 0 by decide), f_of (bad_v (by rw [gI_n (by omega)]; exact a5)), gI_e]
    · have ee := nm_n (m := m + 1) (v := Int32.ofNat v) (lo := Int32.ofNat 0) (hi := Int32.ofNat 9999) hx b1 a3 a2 (show 4 ≤ 4 by omega) (k := 4) (Or.inr ⟨by omega, g⟩)
      have eb := nm_b (k := 4) (v := v) (lo := 0) (hi := 9999) (mx := 4) a3 (by omega) (by omega) (by omega) (by omega) (by omega) (by omega)
      rw [if_neg (by omega), if_neg (by omega), if_neg (by omega)] at eb
      refine Or.inl ⟨v, 4, by omega, by omega, hp, ee.trans eb, ?_⟩
      rw [rl]
      unfold f_X12_plainNumber_B48
      rw [f_of (hr 4 hp), f_of (dg_n g), if_pos rfl]
  | succ J ih =>
    intro n v m m' hn hm hm' hv hp
    obtain ⟨m, rfl⟩ : ∃ y, m = y + 1 := ⟨m - 1, by omega⟩
    obtain ⟨m', rfl⟩ : ∃ y, m' = y + 1 := ⟨m' - 1, by omega⟩
    have hv5 : v < 10000 := Nat.lt_of_lt_of_le hv (Nat.pow_le_pow_right (by omega) (show n ≤ 4 by omega))
    by_cases g : dg_ (sx_ x t (p + n))
    · obtain ⟨d, d1, d2, d3, d4⟩ := nm_d (m := m) (lo := Int32.ofNat 0) (hi := Int32.ofNat 9999) hx b1 a3 a2 (show 4 ≤ 4 by omega) (show n ≤ 4 by omega) (show v < 100000 by omega) g
      have hpow : 10 * v + d < 10 ^ (n + 1) := by
        rw [Nat.pow_succ]
        omega
      have ih1 := ih (n + 1) (10 * v + d) m m' (by omega) (by omega) (by omega) hpow (by omega)
      rw [d4]
      have ev : (10 : Int32) * Int32.ofNat v + Int32.ofNat (48 + d) - 48 = Int32.ofNat (10 * v + d) := by
        rw [l_10, o_mul, o_add, show (48 : Int32) = Int32.ofNat 48 from rfl, o_sub (by omega)]
        congr 1
        omega
      have rl : f_X12_plainNumber_L4 20000 344 (m' + 1) (Int32.ofNat v) (Int32.ofNat n) (put_I ρ 344 3 (Int32.ofNat (p + n))) = f_X12_plainNumber_L4 20000 344 m' (Int32.ofNat (10 * v + d)) (Int32.ofNat (n + 1)) (put_I ρ 344 3 (Int32.ofNat (p + (n + 1)))) := by
        rw [f_X12_plainNumber_L4, if_pos (by rw [l_4, o_lt (by omega) (by omega)]; omega), f_of (hr n hp), f_of (dg_r g), if_neg (show ¬ (1 : Int32) = 0 by decide), f_of (hr n hp), d2, ev, gI_e, o_s, o_s, pI_2, Nat.add_assoc]
      rw [rl]
      exact ih1
    · have n0 : n ≠ 0 := fun e => g (by rw [e]; exact h0)
      have ee := nm_n (m := m) (v := Int32.ofNat v) (lo := Int32.ofNat 0) (hi := Int32.ofNat 9999) hx b1 a3 a2 (show 4 ≤ 4 by omega) (k := n) (Or.inr ⟨by omega, g⟩)
      have eb := nm_b (k := n) (v := v) (lo := 0) (hi := 9999) (mx := 4) a3 (by omega) (by omega) (by omega) (by omega) (by omega) (by omega)
      rw [if_neg (by omega), if_neg (by omega), if_neg (by omega)] at eb
      refine Or.inl ⟨v, n, by omega, by omega, hp, ee.trans eb, ?_⟩
      rw [f_X12_plainNumber_L4, if_pos (by rw [l_4, o_lt (by omega) (by omega)]; omega), f_of (hr n hp), f_of (dg_n g), if_pos rfl]
      unfold f_X12_plainNumber_B48
      rw [f_of (hr n hp), f_of (dg_n g), if_pos rfl]
theorem pnu_v {t i p k : Nat} {x : Nat → Int32} {σ ρ : Sg} {C : List Int32} {T : List Tk} (hx : XT t x) (h : LSt t i x σ ρ p k C T) (h0 : dg_ (sx_ x t p)) :
    (∃ w e, w ≤ 9999 ∧ 1 ≤ e ∧ p + e ≤ t ∧ f_X6_number 20000 6 4 0 9999 σ = some (Int32.ofNat w, put_I σ 6 2 (Int32.ofNat (p + e))) ∧ f_X12_plainNumber 20000 344 ρ = some (Int32.ofNat w, put_I ρ 344 3 (Int32.ofNat (p + e)))) ∨
    (p + 4 ≤ t ∧ ∃ w, f_X6_number 20000 6 4 0 9999 σ = some (-1, put_I σ 6 2 (Int32.ofNat (p + 4))) ∧ f_X12_plainNumber 20000 344 ρ = some (w, put_I (put_I ρ 344 3 (Int32.ofNat (p + 4))) 344 4 (Int32.ofNat (p + 4)))) := by
  have j := pn_j hx h h0 4 0 0 20000 20000 (by omega) (by omega) (by omega) (by decide) h.2.1
  have e1 : f_X6_number 20000 6 4 0 9999 σ = f_X6_number_L23 20000 6 20000 (Int32.ofNat 4) (Int32.ofNat 0) (Int32.ofNat 9999) (Int32.ofNat 0) (Int32.ofNat 0) (Int32.ofNat (min t (p + 4 + 1))) σ := nm_s (mx := 4) h.1.1.2.2.1 h.2.2.1 hx.1 h.2.1 (by omega)
  have e2 : f_X12_plainNumber 20000 344 ρ = f_X12_plainNumber_L4 20000 344 20000 (Int32.ofNat 0) (Int32.ofNat 0) (put_I ρ 344 3 (Int32.ofNat (p + 0))) := by
    rw [Nat.add_zero, pI_s h.2.2.2.1]
    rfl
  rw [e1, e2]
  exact j
theorem pn_0 {t i p k : Nat} {x : Nat → Int32} {σ ρ : Sg} {C : List Int32} {T : List Tk} (hx : XT t x) (h : LSt t i x σ ρ p k C T) (h0 : ¬ dg_ (sx_ x t p)) : f_X6_number 20000 6 4 0 9999 σ = some (-1, σ) := by
  have ht := hx.1
  have e1 : f_X6_number 20000 6 4 0 9999 σ = f_X6_number_L23 20000 6 20000 (Int32.ofNat 4) (Int32.ofNat 0) (Int32.ofNat 9999) (Int32.ofNat 0) (Int32.ofNat 0) (Int32.ofNat (min t (p + 4 + 1))) σ := nm_s (mx := 4) h.1.1.2.2.1 h.2.2.1 hx.1 h.2.1 (by omega)
  have ee := nm_n (m := 19999) (v := Int32.ofNat 0) (lo := Int32.ofNat 0) (hi := Int32.ofNat 9999) hx h.1.1 h.2.2.1 h.2.1 (show 4 ≤ 4 by omega) (k := 0) (Or.inr ⟨by omega, h0⟩)
  have eb := nm_b (k := 0) (v := 0) (lo := 0) (hi := 9999) (mx := 4) h.2.2.1 (by have := h.2.1; omega) (by omega) (by omega) (by omega) (by omega) (by omega)
  rw [if_pos rfl] at eb
  exact e1.trans (ee.trans eb)
/-- both readers of one thing, at depth n, alike -/
def PX (t i : Nat) (x : Nat → Int32) (a b r c : Nat) (G : Nat → List Tk → Prop) (n : Nat) : Prop := ∀ (d d' p k : Nat) (C : List Int32) (T : List Tk) (σ ρ : Sg), n ≤ d → n ≤ d' → k ≤ 6 → 10 * (6 - k) + r ≤ n → LSt t i x σ ρ p k C T → LR t i x σ ρ p k C T (G (c + 2 * (6 - k))) (g_X3_law 20000 d a 6 (Int32.ofNat k) σ) (g_X12_law 20000 d' b 344 ρ)
theorem ck_vv {u : Tk} (h : (u.1 = 0 ∨ u.1 = 1) ∧ 0 ≤ u.2.toInt ∧ u.2.toInt ≤ 9999 ∧ (u.1 = 1 → u.2.toInt ≤ 5)) (s : List Bool) (hs : s.length < 62) : ck_ [u] s = some (false :: s) := by
  show (ck_1 u s).bind _ = _
  unfold ck_1
  rw [if_pos h.1, if_pos ⟨hs, h.2⟩]
  rfl
theorem px_at {t i n : Nat} {x : Nat → Int32} (hx : XT t x) (ps : PX t i x 6 5 3 3 GN n) : PX t i x 8 7 1 1 GN (n + 1) := by
  have ht := hx.1
  intro d d' p k C T σ ρ hd hd' hk hn h
  obtain ⟨d, rfl⟩ : ∃ y, d = y + 1 := ⟨d - 1, by omega⟩
  obtain ⟨d', rfl⟩ : ∃ y, d' = y + 1 := ⟨d' - 1, by omega⟩
  show LR t i x σ ρ p k C T (GN (1 + 2 * (6 - k))) (f_X3_isAtom_o 20000 (g_X3_law 20000 d) 6 (Int32.ofNat k) σ) (f_X12_atom_o 20000 (g_X12_law 20000 d') 344 ρ)
  obtain ⟨l1, l2, q1, q2, q3, l3⟩ := h.lk hx
  generalize pb_ x t p = q at l1 l2 q1 q2 q3 l3
  have kz1 : KZ 6 σ (put_I σ 6 2 (Int32.ofNat q)) := KZ.put (by omega) (by omega)
  have ke1 : KE i ρ (put_I ρ 344 3 (Int32.ofNat q)) := KE.put (by omega)
  unfold f_X3_isAtom_o f_X12_atom_o
  rw [f_of l1, f_of l2]
  dsimp only
  refine LR.up ?_ kz1 ke1 q1
  have g2 : sg_I (put_I σ 6 2 (Int32.ofNat q)) 6 2 = Int32.ofNat q := gI_e
  have g3 : sg_I (put_I ρ 344 3 (Int32.ofNat q)) 344 3 = Int32.ofNat q := gI_e
  generalize put_I σ 6 2 (Int32.ofNat q) = σ1 at l3 g2 ⊢
  generalize put_I ρ 344 3 (Int32.ofNat q) = ρ1 at l3 g3 ⊢
  obtain ⟨lv, v1, v2⟩ := ltv_ (sx_ x t q)
  have lo := (lt_a hx q (σ := σ1)).1
  rw [v1] at lo
  by_cases c1 : sx_ x t q = 91
  · have lvm : lv = -1 := by
      rcases v2 with v2 | ⟨e, e1, e2, e3, e4⟩
      · exact v2
      · exact absurd c1 e4
    rw [if_pos c1, f_of (dg_n (by rw [c1]; unfold dg_; decide)), if_pos rfl, f_of v1, if_pos lvm, if_pos c1, g2]
    have ql := sx_l hx c1 (by decide)
    by_cases c2 : k < 6
    · obtain ⟨o1, o2⟩ := opn_g l3 c2 ql
      have r := ps d d' (q + 1) (k + 1) C T _ _ (by omega) (by omega) (by omega) (by omega) o2
      have h4 := o2.2.2.2.2.1
      rw [if_pos (by rw [l_6, o_lt (by omega) (by omega)]; exact c2), f_of o1, if_pos h4, o_s q, o_s k]
      refine LR.up (σ' := put_I σ1 6 2 (Int32.ofNat (q + 1))) (ρ' := put_I (put_I ρ1 344 5 (Int32.ofNat (k + 1))) 344 3 (Int32.ofNat (q + 1))) (b' := q) ?_ (KZ.put (by omega) (by omega)) ((KE.put (by omega)).tr (KE.put (by omega))) (Nat.le_refl q)
      refine LR.bi (KA := fun s => (f_X6_takes 20000 6 93 s).bind fun r => if r.1 = 0 then some (0, r.2) else some (1, r.2)) (KB := fun s => (f_X12_closes 20000 344 93 s).bind fun p11 => some p11) r (by omega) (fun υ φ U q' m1 m2 m3 => ?_) (fun υ φ q' n' m1 m2 m3 => ?_)
      · have e : ((f_X12_closes 20000 344 93 φ).bind fun p11 => some p11) = f_X12_closes 20000 344 93 φ := obi_ _
        show LR t i x υ φ (q + U.length) k (C ++ U.map tk_c) (T ++ U) _ _ ((f_X12_closes 20000 344 93 φ).bind fun p11 => some p11)
        rw [e]
        refine cls_g hx (by decide) m1 (by omega) ?_
        show GN (1 + 2 * (6 - k)) (U ++ [])
        rw [List.append_nil]
        intro s hs
        exact m3 s (by omega)
      · obtain ⟨φ', b1, b2, b3⟩ := cls_b (c := 93) hx m1
        exact ⟨φ', n', by show (f_X12_closes 20000 344 93 φ).bind _ = _; rw [f_of b1], b2, b3, by omega⟩
    · obtain ⟨φ, o1, o2, o3⟩ := opn_b l3 (by omega)
      rw [if_neg (by rw [l_6, o_lt (by omega) (by omega)]; exact c2), f_of o1, if_neg (o3.nm hx)]
      exact ⟨0, σ1, φ, rfl, rfl, KZ.rf, o2, Or.inr ⟨rfl, q, T.length, o3, Nat.le_refl q, by omega⟩⟩
  · rw [if_neg c1, f_of lo]
    rcases v2 with v2 | ⟨e, e1, e2, e3, e4⟩
    · subst v2
      rw [if_pos (by decide)]
      by_cases c2 : dg_ (sx_ x t q)
      · rw [f_of (dg_r c2), if_neg (show ¬ (1 : Int32) = 0 by decide)]
        rcases pnu_v hx l3 c2 with ⟨w, e, w1, w2, w3, w4, w5⟩ | ⟨w1, w, w4, w5⟩
        · have lm := l3.mv (q := q + e) (by omega) w3
          have c9 := l3.2.2.2.2.2.2.2.2
          obtain ⟨υ, φ, u1, u2, u3, u4, u5⟩ := lm.wr hx (0, Int32.ofNat w) (by omega) (by omega)
          have u1' : f_X3_write 6 (Int32.ofNat w) (put_I σ1 6 2 (Int32.ofNat (q + e))) = some υ := u1
          have u2' : f_X12_put 344 0 (Int32.ofNat w) (put_I ρ1 344 3 (Int32.ofNat (q + e))) = some φ := u2
          rw [f_of w4, f_of w5]
          dsimp only
          rw [if_neg (o_m (by omega)), f_of u1', f_of u2']
          refine ⟨1, υ, φ, rfl, rfl, (KZ.put (by omega) (by omega)).tr u3, (KE.put (by omega)).tr u4, Or.inl ⟨rfl, [(0, Int32.ofNat w)], q + e, u5, by show 1 + q ≤ q + e; omega, fun s hs => ck_vv ⟨Or.inl rfl, ?_, ?_, fun z => absurd (show (0 : Int32) = 1 from z) (by decide)⟩ s (by omega)⟩⟩
          · show 0 ≤ (Int32.ofNat w).toInt
            rw [o_ti (by omega)]; omega
          · show (Int32.ofNat w).toInt ≤ 9999
            rw [o_ti (by omega)]; omega
        · have lm := (l3.mv (q := q + 4) (by omega) w1).bd
          have c9 := l3.2.2.2.2.2.2.2.2
          obtain ⟨φ, f1, f2, f3⟩ := lm.2.2.pt hx (by omega) 0 w
          rw [f_of w4, f_of w5]
          dsimp only
          rw [if_pos rfl, f_of f1]
          exact ⟨0, _, φ, rfl, rfl, KZ.put (by omega) (by omega), (KE.put (by omega)).tr (lm.2.1.tr f2), Or.inr ⟨rfl, q + 4, T.length + 1, f3, by omega, by omega⟩⟩
      · rw [f_of (pn_0 hx l3 c2), f_of (dg_n c2), if_pos rfl, f_of v1, if_pos rfl, if_neg c1]
        dsimp only
        rw [if_pos rfl, show ((f_X12_bad 344 ρ1).bind fun p7 => some p7) = f_X12_bad 344 ρ1 from obi_ _]
        exact LR.bd l3 (Nat.le_refl q)
    · subst e2
      have ql : q < t := by
        apply Classical.byContradiction
        intro z
        have z1 := (sx_b hx q).2.2.2.mpr z
        rw [z1] at v1
        have z2 : f_X12_letterOf (-1) = some (-1) := rfl
        rw [z2] at v1
        exact o_m (p := e) (by omega) (Option.some.inj v1).symm
      have lm := l3.mv (q := q + 1) (by omega) (by omega)
      have c9 := l3.2.2.2.2.2.2.2.2
      obtain ⟨υ, φ, u1, u2, u3, u4, u5⟩ := lm.wr hx (1, Int32.ofNat e) (by omega) (by omega)
      have u1' : f_X3_write 6 (-1 - Int32.ofNat e) (put_I σ1 6 2 (Int32.ofNat (q + 1))) = some υ := u1
      have u2' : f_X12_put 344 1 (Int32.ofNat e) (put_I ρ1 344 3 (Int32.ofNat (q + 1))) = some φ := u2
      have lc : f_X2_letterCode (Int32.ofNat e) = some (-1 - Int32.ofNat e) := rfl
      rw [if_neg (o_nn (by omega)), f_of lc, f_of (dg_n e3), if_pos rfl, f_of v1, if_neg (o_m (by omega)), f_of v1, g2, g3, o_s q, f_of u1', f_of u2']
      refine ⟨1, υ, φ, rfl, rfl, (KZ.put (by omega) (by omega)).tr u3, (KE.put (by omega)).tr u4, Or.inl ⟨rfl, [(1, Int32.ofNat e)], q + 1, u5, by show 1 + q ≤ q + 1; omega, fun s hs => ck_vv ⟨Or.inr rfl, ?_, ?_, fun z => ?_⟩ s (by omega)⟩⟩
      · show 0 ≤ (Int32.ofNat e).toInt
        rw [o_ti (by omega)]; omega
      · show (Int32.ofNat e).toInt ≤ 9999
        rw [o_ti (by omega)]; omega
      · show (Int32.ofNat e).toInt ≤ 5
        rw [o_ti (by omega)]; omega
