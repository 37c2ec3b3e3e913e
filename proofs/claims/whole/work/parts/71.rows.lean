/-! ===== least turnings, rows ===== -/
theorem cm_v (u v : Int32) : ∃ c, f_J6_compare_7cf53 u v = some c ∧ (c = 0 ↔ u = v) ∧ (c < 0 ↔ u < v) := by
  unfold f_J6_compare_7cf53
  by_cases q : u < v
  · refine ⟨-1, if_pos q, ⟨fun h => absurd h (by decide), fun h => ?_⟩, fun _ => q, fun _ => by decide⟩
    rw [h, i_lt] at q
    omega
  · rw [if_neg q]
    by_cases q2 : u = v
    · exact ⟨0, if_pos q2, ⟨fun _ => q2, fun _ => rfl⟩, fun h => absurd h (by decide), fun h => absurd h q⟩
    · exact ⟨1, if_neg q2, ⟨fun h => absurd h (by decide), fun h => absurd h q2⟩, fun h => absurd h (by decide), fun h => absurd h q⟩
theorem tn_0 {l : Nat} {P : Nat → Int32} {u k : Nat} : tn_ l P u 0 k = P ((u + k) % l) := by
  unfold tn_
  rw [if_pos rfl]
/-- both rows of l pictures, one against the other -/
theorem la_v {σ ρ : Sg} (r : Rel σ ρ) {s b : Nat} (hs : s < hS (sg_I ρ)) (h : SP σ b (hL (sg_I ρ) s) (hP (sg_I ρ) s)) {u v : Nat} (hu : u ≤ 100) (hv : v ≤ 100) : ∃ c, f_X8_compareRows 20000 b (Int32.ofNat u) (Int32.ofNat v) (Int32.ofNat (hL (sg_I ρ) s)) σ = some c ∧ f_X12_isAhead 20000 344 (Int32.ofNat s) (Int32.ofNat u) (Int32.ofNat v) ρ = some (bi_ (decide (c < 0))) := by
  obtain ⟨-, -, -, b3, b4, b5⟩ := r.ss hs
  have d := r.rf
  have g6 := r.hs.1
  have lp : ∀ (j i m m' : Nat), i + j = hL (sg_I ρ) s → j < m → j < m' → ∃ c, f_X8_compareRows_L3 20000 b m (Int32.ofNat u) (Int32.ofNat v) (Int32.ofNat (hL (sg_I ρ) s)) (Int32.ofNat i) σ = some c ∧ f_X12_isAhead_L3 20000 344 m' (Int32.ofNat s) (Int32.ofNat u) (Int32.ofNat v) (Int32.ofNat i) ρ = some (bi_ (decide (c < 0))) := by
    intro j
    induction j with
    | zero =>
      intro i m m' hi hm hm'
      obtain ⟨m, rfl⟩ : ∃ x, m = x + 1 := ⟨m - 1, by omega⟩
      obtain ⟨m', rfl⟩ : ∃ x, m' = x + 1 := ⟨m' - 1, by omega⟩
      refine ⟨0, ?_, ?_⟩
      · rw [f_X8_compareRows_L3, if_neg (by rw [o_lt (by omega) (by omega)]; omega)]
      · rw [f_X12_isAhead_L3]
        simp only [d, Option.bind_some]
        rw [if_neg (o_in (by omega) (by omega)), o_tn (by omega), b3, if_neg (by rw [o_lt (by omega) (by omega)]; omega)]
        rfl
    | succ j ih =>
      intro i m m' hi hm hm'
      obtain ⟨m, rfl⟩ : ∃ x, m = x + 1 := ⟨m - 1, by omega⟩
      obtain ⟨m', rfl⟩ : ∃ x, m' = x + 1 := ⟨m' - 1, by omega⟩
      obtain ⟨c, c1, c2⟩ := ih (i + 1) m m' (by omega) (by omega) (by omega)
      obtain ⟨k, k1, k2, k3⟩ := cm_v (hP (sg_I ρ) s ((u + i) % hL (sg_I ρ) s)) (hP (sg_I ρ) s ((v + i) % hL (sg_I ρ) s))
      rw [f_X8_compareRows_L3, if_pos (by rw [o_lt (by omega) (by omega)]; omega), o_add, o_add, h.sa (by omega), h.sa (by omega), f_X12_isAhead_L3]
      simp only [d, Option.bind_some]
      rw [k1, if_neg (o_in (by omega) (by omega)), o_tn (by omega), b3, if_pos (by rw [o_lt (by omega) (by omega)]; omega), tu_v r hs (by omega) 0, tu_v r hs (by omega) 0]
      simp only [Option.bind_some, tn_0]
      by_cases q : hP (sg_I ρ) s ((u + i) % hL (sg_I ρ) s) = hP (sg_I ρ) s ((v + i) % hL (sg_I ρ) s)
      · rw [if_pos (k2.mpr q), if_pos q, o_s]
        exact ⟨c, c1, c2⟩
      · rw [if_neg (fun e => q (k2.mp e)), if_neg q]
        refine ⟨k, rfl, ?_⟩
        by_cases q2 : hP (sg_I ρ) s ((u + i) % hL (sg_I ρ) s) < hP (sg_I ρ) s ((v + i) % hL (sg_I ρ) s)
        · rw [if_pos q2, decide_eq_true (k3.mpr q2)]
          rfl
        · rw [if_neg q2, decide_eq_false (fun e => q2 (k3.mp e))]
          rfl
  exact lp (hL (sg_I ρ) s) 0 20000 20000 (by omega) (by omega) (by omega)
theorem p2_least : so_least p2_I 20000 := by
  intro x σ r
  have c := Rel.cf r
  have d := Rel.rf r
  have is := is_v r x
  have js := js_v r x
  by_cases g : 0 ≤ x.toInt ∧ x.toInt < hS (sg_I σ)
  · rw [if_pos g] at is js
    obtain ⟨s, hs, rfl⟩ := x_lt g
    obtain ⟨b, b1, b2, b3, b4, b5⟩ := Rel.ss r hs
    have g6 := (Rel.hs r).1
    have lp : ∀ (j k u m m' : Nat), k + j = hL (sg_I σ) s → u < hL (sg_I σ) s → j < m → j < m' → ∃ v, f_X8_leastTurning_L4 20000 b m (Int32.ofNat u) (Int32.ofNat k) σ = some v ∧ f_X12_least_L14 20000 344 m' (Int32.ofNat s) (Int32.ofNat u) (Int32.ofNat k) σ = some v := by
      intro j
      induction j with
      | zero =>
        intro k u m m' hk hu hm hm'
        obtain ⟨m, rfl⟩ : ∃ x, m = x + 1 := ⟨m - 1, by omega⟩
        obtain ⟨m', rfl⟩ : ∃ x, m' = x + 1 := ⟨m' - 1, by omega⟩
        refine ⟨Int32.ofNat u, ?_, ?_⟩
        · rw [f_X8_leastTurning_L4, b2.sz]
          simp only [Option.bind_some]
          rw [if_neg (by rw [o_lt (by omega) (by omega)]; omega)]
        · rw [f_X12_least_L14]
          simp only [d, Option.bind_some]
          rw [if_neg (o_in (by omega) (by omega)), o_tn (by omega), b3, if_neg (by rw [o_lt (by omega) (by omega)]; omega)]
      | succ j ih =>
        intro k u m m' hk hu hm hm'
        obtain ⟨m, rfl⟩ : ∃ x, m = x + 1 := ⟨m - 1, by omega⟩
        obtain ⟨m', rfl⟩ : ∃ x, m' = x + 1 := ⟨m' - 1, by omega⟩
        obtain ⟨v, v1, v2⟩ := ih (k + 1) u m m' (by omega) (by omega) (by omega) (by omega)
        obtain ⟨w, w1, w2⟩ := ih (k + 1) k m m' (by omega) (by omega) (by omega) (by omega)
        obtain ⟨q, q1, q2⟩ := la_v r hs b2 (u := k) (v := u) (by omega) (by omega)
        rw [f_X8_leastTurning_L4, b2.sz, f_X12_least_L14]
        simp only [d, Option.bind_some]
        rw [if_pos (by rw [o_lt (by omega) (by omega)]; omega), if_neg (o_in (by omega) (by omega)), o_tn (by omega), b3, if_pos (by rw [o_lt (by omega) (by omega)]; omega), q1, q2]
        simp only [Option.bind_some, f_X8_leastTurning_B30, f_X12_least_B39, o_s]
        by_cases q3 : q < 0
        · rw [if_pos q3, decide_eq_true q3, if_neg (by decide)]
          exact ⟨w, w1, w2⟩
        · rw [if_neg q3, decide_eq_false q3, if_pos bi_f]
          exact ⟨v, v1, v2⟩
    obtain ⟨v, v1, v2⟩ := lp (hL (sg_I σ) s - 1) 1 0 20000 20000 (by omega) (by omega) (by omega) (by omega)
    have v1' : f_X8_leastTurning_L4 20000 b 20000 0 1 σ = some v := v1
    have v2' : f_X12_least_L14 20000 344 20000 (Int32.ofNat s) 0 1 σ = some v := v2
    have i1 : ¬ Int32.ofNat s < 0 ∧ ¬ 6 ≤ s := ⟨o_nn (by omega), by omega⟩
    have i3 : (Int32.ofNat s).toNatClampNeg = s := o_tn (by omega)
    exact so_q v (by unfold f_X11_least f_X8_leastTurning; simp only [Option.bind_some, ↓reduceIte, gI_I, gI_R, gI_J, gR_I, gR_R, gR_J, gL_I, gL_R, gL_J, gN_I, gN_R, gN_J, gJ_I, gJ_R, Int32.reduceLT, e_1_0, Int32.reduceToNatClampNeg, Int32.reduceToInt, Int.reduceLE, Int.reduceLT, Int.reduceNeg, Int.reduceEq,  Nat.reduceLT, Nat.reduceLeDiff, Nat.reduceEqDiff, Nat.reduceAdd, Nat.reduceMul, false_or, or_false, true_and, and_true, false_and, and_false, not_false_eq_true, not_true_eq_false, or_self, and_self, true_or, or_true, is, c, i1, i3, b1, v1']) (by unfold f_X12_least; simp only [Option.bind_some, ↓reduceIte, gI_I, gI_R, gI_J, gR_I, gR_R, gR_J, gL_I, gL_R, gL_J, gN_I, gN_R, gN_J, gJ_I, gJ_R, Int32.reduceLT, e_1_0, Int32.reduceToNatClampNeg, Int32.reduceToInt, Int.reduceLE, Int.reduceLT, Int.reduceNeg, Int.reduceEq,  Nat.reduceLT, Nat.reduceLeDiff, Nat.reduceEqDiff, Nat.reduceAdd, Nat.reduceMul, false_or, or_false, true_and, and_true, false_and, and_false, not_false_eq_true, not_true_eq_false, or_self, and_self, true_or, or_true, js, v2']) r
  · rw [if_neg g] at is js
    exact so_q (-1) (by unfold f_X11_least; simp only [Option.bind_some, ↓reduceIte, gI_I, gI_R, gI_J, gR_I, gR_R, gR_J, gL_I, gL_R, gL_J, gN_I, gN_R, gN_J, gJ_I, gJ_R, Int32.reduceLT, e_1_0, Int32.reduceToNatClampNeg, Int32.reduceToInt, Int.reduceLE, Int.reduceLT, Int.reduceNeg, Int.reduceEq,  Nat.reduceLT, Nat.reduceLeDiff, Nat.reduceEqDiff, Nat.reduceAdd, Nat.reduceMul, false_or, or_false, true_and, and_true, false_and, and_false, not_false_eq_true, not_true_eq_false, or_self, and_self, true_or, or_true, is]) (by unfold f_X12_least; simp only [Option.bind_some, ↓reduceIte, gI_I, gI_R, gI_J, gR_I, gR_R, gR_J, gL_I, gL_R, gL_J, gN_I, gN_R, gN_J, gJ_I, gJ_R, Int32.reduceLT, e_1_0, Int32.reduceToNatClampNeg, Int32.reduceToInt, Int.reduceLE, Int.reduceLT, Int.reduceNeg, Int.reduceEq,  Nat.reduceLT, Nat.reduceLeDiff, Nat.reduceEqDiff, Nat.reduceAdd, Nat.reduceMul, false_or, or_false, true_and, and_true, false_and, and_false, not_false_eq_true, not_true_eq_false, or_self, and_self, true_or, or_true, js]) r
/-- rows of n pictures -/
theorem cr_v {σ : Sg} {b l n : Nat} {P : Nat → Int32} (h : SP σ b l P) {u v : Nat} (hu : u ≤ 100) (hv : v ≤ 100) (hn : n ≤ 100) : ∃ c, f_X8_compareRows 20000 b (Int32.ofNat u) (Int32.ofNat v) (Int32.ofNat n) σ = some c ∧ (c = 0 ↔ rq_ (tn_ l P u 0) (tn_ l P v 0) n = true) := by
  have lp : ∀ (j i m : Nat), i + j = n → j < m → rq_ (tn_ l P u 0) (tn_ l P v 0) i = true → ∃ c, f_X8_compareRows_L3 20000 b m (Int32.ofNat u) (Int32.ofNat v) (Int32.ofNat n) (Int32.ofNat i) σ = some c ∧ (c = 0 ↔ rq_ (tn_ l P u 0) (tn_ l P v 0) n = true) := by
    intro j
    induction j with
    | zero =>
      intro i m hi hm hb
      obtain ⟨m, rfl⟩ : ∃ x, m = x + 1 := ⟨m - 1, by omega⟩
      have hi : i = n := by omega
      rw [← hi, hb, f_X8_compareRows_L3, if_neg (by rw [o_lt (by omega) (by omega)]; omega)]
      exact ⟨0, rfl, ⟨fun _ => rfl, fun _ => rfl⟩⟩
    | succ j ih =>
      intro i m hi hm hb
      obtain ⟨m, rfl⟩ : ∃ x, m = x + 1 := ⟨m - 1, by omega⟩
      obtain ⟨k, k1, k2, k3⟩ := cm_v (P ((u + i) % l)) (P ((v + i) % l))
      rw [f_X8_compareRows_L3, if_pos (by rw [o_lt (by omega) (by omega)]; omega), o_add, o_add, h.sa (by omega), h.sa (by omega)]
      simp only [Option.bind_some]
      rw [k1]
      simp only [Option.bind_some]
      have es := rq_s hb
      rw [tn_0, tn_0] at es
      by_cases q : P ((u + i) % l) = P ((v + i) % l)
      · rw [if_pos (k2.mpr q), o_s]
        exact ih (i + 1) m (by omega) (by omega) (by rw [es, decide_eq_true q])
      · rw [if_neg (fun e => q (k2.mp e))]
        rw [decide_eq_false q] at es
        refine ⟨k, rfl, fun e => absurd (k2.mp e) q, fun e => ?_⟩
        rw [rq_g es (show i + 1 ≤ n by omega)] at e
        cases e
  exact lp n 0 20000 (by omega) (by omega) rfl
theorem ar_v {σ ρ : Sg} (r : Rel σ ρ) {s n : Nat} (hs : s < hS (sg_I ρ)) {u v : Nat} (hu : u ≤ 100) (hv : v ≤ 100) (hn : n ≤ 100) : f_X12_areRowsAlike 20000 344 (Int32.ofNat s) (Int32.ofNat u) (Int32.ofNat v) (Int32.ofNat n) ρ = some (bi_ (rq_ (tn_ (hL (sg_I ρ) s) (hP (sg_I ρ) s) u 0) (tn_ (hL (sg_I ρ) s) (hP (sg_I ρ) s) v 0) n)) := by
  have lp : ∀ (j i m : Nat), i + j = n → j < m → rq_ (tn_ (hL (sg_I ρ) s) (hP (sg_I ρ) s) u 0) (tn_ (hL (sg_I ρ) s) (hP (sg_I ρ) s) v 0) i = true → f_X12_areRowsAlike_L3 20000 344 m (Int32.ofNat s) (Int32.ofNat u) (Int32.ofNat v) (Int32.ofNat n) (Int32.ofNat i) ρ = some (bi_ (rq_ (tn_ (hL (sg_I ρ) s) (hP (sg_I ρ) s) u 0) (tn_ (hL (sg_I ρ) s) (hP (sg_I ρ) s) v 0) n)) := by
    intro j
    induction j with
    | zero =>
      intro i m hi hm hb
      obtain ⟨m, rfl⟩ : ∃ x, m = x + 1 := ⟨m - 1, by omega⟩
      have hi : i = n := by omega
      rw [← hi, hb, f_X12_areRowsAlike_L3, if_neg (by rw [o_lt (by omega) (by omega)]; omega)]
      rfl
    | succ j ih =>
      intro i m hi hm hb
      obtain ⟨m, rfl⟩ : ∃ x, m = x + 1 := ⟨m - 1, by omega⟩
      rw [f_X12_areRowsAlike_L3, if_pos (by rw [o_lt (by omega) (by omega)]; omega), tu_v r hs (by omega) 0, tu_v r hs (by omega) 0]
      simp only [Option.bind_some]
      by_cases q : tn_ (hL (sg_I ρ) s) (hP (sg_I ρ) s) u 0 i = tn_ (hL (sg_I ρ) s) (hP (sg_I ρ) s) v 0 i
      · rw [if_pos q, o_s]
        exact ih (i + 1) m (by omega) (by omega) (by rw [rq_s hb, decide_eq_true q])
      · rw [if_neg q, rq_g (show rq_ _ _ (i + 1) = false by rw [rq_s hb, decide_eq_false q]) (show i + 1 ≤ n by omega)]
        rfl
  exact lp n 0 20000 (by omega) (by omega) rfl
def fb_ (Q : Nat → Bool) : Nat → Bool
  | 0 => true
  | o + 1 => fb_ Q o && !Q o
theorem fb_f {Q : Nat → Bool} {k : Nat} (h : fb_ Q k = false) : ∀ j, fb_ Q (k + j) = false
  | 0 => h
  | j + 1 => by
    show (fb_ Q (k + j) && _) = false
    rw [fb_f h j]
    rfl
theorem fb_s {Q : Nat → Bool} {k : Nat} (h : fb_ Q k = true) : fb_ Q (k + 1) = !Q k := by
  show (fb_ Q k && _) = _
  rw [h]
  rfl
theorem ui_v {σ : Sg} {b l n : Nat} {P : Nat → Int32} (h : SP σ b l P) {i : Nat} (hi : i ≤ 100) (hn : n ≤ 100) {k4 : Int32 → Int32 → Int32 → Option Int32} {c : Int32} : ∀ (j o m : Nat), o + j = i → j < m → f_X8_unlikeRows_L18 20000 b k4 m (Int32.ofNat n) c (Int32.ofNat i) (bi_ (fb_ (fun o => rq_ (tn_ l P i 0) (tn_ l P o 0) n) o)) (Int32.ofNat o) σ = k4 (Int32.ofNat n) (c + bi_ (fb_ (fun o => rq_ (tn_ l P i 0) (tn_ l P o 0) n) i)) (Int32.ofNat (i + 1)) := by
  have B : ∀ x : Bool, f_X8_unlikeRows_B53 20000 b k4 (Int32.ofNat n) c (Int32.ofNat i) (bi_ x) σ = k4 (Int32.ofNat n) (c + bi_ x) (Int32.ofNat (i + 1)) := by
    intro x
    unfold f_X8_unlikeRows_B53 f_X8_unlikeRows_B64
    rw [o_s]
    cases x <;> rfl
  intro j
  induction j with
  | zero =>
    intro o m ho hm
    obtain ⟨m, rfl⟩ : ∃ x, m = x + 1 := ⟨m - 1, by omega⟩
    have ho : o = i := by omega
    rw [f_X8_unlikeRows_L18, if_neg (by rw [o_lt (by omega) (by omega)]; omega), ho]
    exact B _
  | succ j ih =>
    intro o m ho hm
    obtain ⟨m, rfl⟩ : ∃ x, m = x + 1 := ⟨m - 1, by omega⟩
    have ih1 := ih (o + 1) m (by omega) (by omega)
    rw [f_X8_unlikeRows_L18, if_pos (by rw [o_lt (by omega) (by omega)]; omega)]
    cases hb : fb_ (fun o => rq_ (tn_ l P i 0) (tn_ l P o 0) n) o with
    | false =>
      have h6 := fb_f hb (i - o)
      rw [show o + (i - o) = i by omega] at h6
      rw [if_pos bi_f, h6]
      exact B false
    | true =>
      obtain ⟨q, q1, q2⟩ := cr_v h (n := n) (u := i) (v := o) (by omega) (by omega) hn
      rw [fb_s hb] at ih1
      rw [if_neg (by decide), q1]
      simp only [Option.bind_some, f_X8_unlikeRows_B45, o_s]
      cases hc : rq_ (tn_ l P i 0) (tn_ l P o 0) n with
      | false =>
        rw [hc] at ih1 q2
        rw [if_neg (fun e => absurd (q2.mp e) (by decide))]
        exact ih1
      | true =>
        rw [hc] at ih1 q2
        rw [if_pos (q2.mpr rfl)]
        exact ih1
theorem uj_v {σ ρ : Sg} (r : Rel σ ρ) {s n : Nat} (hs : s < hS (sg_I ρ)) {i : Nat} (hi : i ≤ 100) (hn : n ≤ 100) {k4 : Int32 → Int32 → Int32 → Int32 → Option Int32} {c : Int32} : ∀ (j o m : Nat), o + j = i → j < m → f_X12_rows_L42 20000 344 k4 m (Int32.ofNat s) (Int32.ofNat n) c (Int32.ofNat i) (bi_ (fb_ (fun o => rq_ (tn_ (hL (sg_I ρ) s) (hP (sg_I ρ) s) i 0) (tn_ (hL (sg_I ρ) s) (hP (sg_I ρ) s) o 0) n) o)) (Int32.ofNat o) ρ = k4 (Int32.ofNat s) (Int32.ofNat n) (c + bi_ (fb_ (fun o => rq_ (tn_ (hL (sg_I ρ) s) (hP (sg_I ρ) s) i 0) (tn_ (hL (sg_I ρ) s) (hP (sg_I ρ) s) o 0) n) i)) (Int32.ofNat (i + 1)) := by
  intro j
  induction j with
  | zero =>
    intro o m ho hm
    obtain ⟨m, rfl⟩ : ∃ x, m = x + 1 := ⟨m - 1, by omega⟩
    have ho : o = i := by omega
    rw [f_X12_rows_L42, if_neg (by rw [o_lt (by omega) (by omega)]; omega), ho]
    simp only [f_X12_rows_B91, o_s]
    cases fb_ (fun o => rq_ (tn_ (hL (sg_I ρ) s) (hP (sg_I ρ) s) i 0) (tn_ (hL (sg_I ρ) s) (hP (sg_I ρ) s) o 0) n) i <;> rfl
  | succ j ih =>
    intro o m ho hm
    obtain ⟨m, rfl⟩ : ∃ x, m = x + 1 := ⟨m - 1, by omega⟩
    have ih1 := ih (o + 1) m (by omega) (by omega)
    rw [f_X12_rows_L42, if_pos (by rw [o_lt (by omega) (by omega)]; omega)]
    cases hb : fb_ (fun o => rq_ (tn_ (hL (sg_I ρ) s) (hP (sg_I ρ) s) i 0) (tn_ (hL (sg_I ρ) s) (hP (sg_I ρ) s) o 0) n) o with
    | false =>
      rw [fb_f hb 1] at ih1
      rw [if_pos bi_f]
      simp only [f_X12_rows_B71, f_X12_rows_B72, o_s]
      exact ih1
    | true =>
      rw [fb_s hb] at ih1
      rw [if_neg (by decide), ar_v r hs (by omega) (by omega) hn]
      simp only [Option.bind_some, f_X12_rows_B71, f_X12_rows_B72, o_s]
      cases hc : rq_ (tn_ (hL (sg_I ρ) s) (hP (sg_I ρ) s) i 0) (tn_ (hL (sg_I ρ) s) (hP (sg_I ρ) s) o 0) n with
      | false =>
        rw [hc] at ih1
        rw [if_pos bi_f]
        exact ih1
      | true =>
        rw [hc] at ih1
        rw [if_neg (by decide)]
        exact ih1
theorem p2_rows : so_rows p2_I 20000 := by
  intro x y σ r
  have c := Rel.cf r
  have d := Rel.rf r
  have is := is_v r x
  have js := js_v r x
  have e1 : (1 : Int32).toInt = 1 := rfl
  have e8 : (8 : Int32).toInt = 8 := rfl
  by_cases g : 0 ≤ x.toInt ∧ x.toInt < hS (sg_I σ)
  · rw [if_pos g] at is js
    by_cases gy : 1 ≤ y.toInt ∧ y.toInt ≤ 8
    · obtain ⟨s, hs, rfl⟩ := x_lt g
      obtain ⟨n, n1, n2, rfl⟩ := x_1 (a := 1) (b := 8) gy
      obtain ⟨b, b1, b2, b3, b4, b5⟩ := Rel.ss r hs
      have g6 := (Rel.hs r).1
      have lp : ∀ (j i m m' : Nat) (k : Int32), i + j = hL (sg_I σ) s → j < m → j < m' → ∃ v, f_X8_unlikeRows_L4 20000 b m (Int32.ofNat n) k (Int32.ofNat i) σ = some v ∧ f_X12_rows_L25 20000 344 m' (Int32.ofNat s) (Int32.ofNat n) k (Int32.ofNat i) σ = some v := by
        intro j
        induction j with
        | zero =>
          intro i m m' k hi hm hm'
          obtain ⟨m, rfl⟩ : ∃ x, m = x + 1 := ⟨m - 1, by omega⟩
          obtain ⟨m', rfl⟩ : ∃ x, m' = x + 1 := ⟨m' - 1, by omega⟩
          refine ⟨k, ?_, ?_⟩
          · rw [f_X8_unlikeRows_L4, b2.sz]
            simp only [Option.bind_some]
            rw [if_neg (by rw [o_lt (by omega) (by omega)]; omega)]
          · rw [f_X12_rows_L25]
            simp only [d, Option.bind_some]
            rw [if_neg (o_in (by omega) (by omega)), o_tn (by omega), b3, if_neg (by rw [o_lt (by omega) (by omega)]; omega)]
        | succ j ih =>
          intro i m m' k hi hm hm'
          obtain ⟨m, rfl⟩ : ∃ x, m = x + 1 := ⟨m - 1, by omega⟩
          obtain ⟨m', rfl⟩ : ∃ x, m' = x + 1 := ⟨m' - 1, by omega⟩
          obtain ⟨v, v1, v2⟩ := ih (i + 1) m m' (k + bi_ (fb_ (fun o => rq_ (tn_ (hL (sg_I σ) s) (hP (sg_I σ) s) i 0) (tn_ (hL (sg_I σ) s) (hP (sg_I σ) s) o 0) n) i)) (by omega) (by omega) (by omega)
          have u1 := ui_v b2 (n := n) (i := i) (by omega) (by omega) (k4 := fun v1 v2 v3 => f_X8_unlikeRows_L4 20000 b m v1 v2 v3 σ) (c := k) i 0 20000 (by omega) (by omega)
          have u2 := uj_v r hs (n := n) (i := i) (by omega) (by omega) (k4 := fun v1 v2 v3 v4 => f_X12_rows_L25 20000 344 m' v1 v2 v3 v4 σ) (c := k) i 0 20000 (by omega) (by omega)
          refine ⟨v, ?_, ?_⟩
          · rw [f_X8_unlikeRows_L4, b2.sz]
            simp only [Option.bind_some]
            rw [if_pos (by rw [o_lt (by omega) (by omega)]; omega)]
            exact u1.trans v1
          · rw [f_X12_rows_L25]
            simp only [d, Option.bind_some]
            rw [if_neg (o_in (by omega) (by omega)), o_tn (by omega), b3, if_pos (by rw [o_lt (by omega) (by omega)]; omega)]
            exact u2.trans v2
      obtain ⟨v, v1, v2⟩ := lp (hL (sg_I σ) s) 0 20000 20000 0 (by omega) (by omega) (by omega)
      have v1' : f_X8_unlikeRows_L4 20000 b 20000 (Int32.ofNat n) 0 0 σ = some v := v1
      have v2' : f_X12_rows_L25 20000 344 20000 (Int32.ofNat s) (Int32.ofNat n) 0 0 σ = some v := v2
      have i1 : ¬ Int32.ofNat s < 0 ∧ ¬ 6 ≤ s := ⟨o_nn (by omega), by omega⟩
      have i3 : (Int32.ofNat s).toNatClampNeg = s := o_tn (by omega)
      have y1 : ¬ Int32.ofNat n < 1 := by rw [i_lt]; omega
      have y2 : ¬ 8 < Int32.ofNat n := by rw [i_lt]; omega
      exact so_q v (by unfold f_X11_rows f_X8_unlikeRows; simp only [Option.bind_some, ↓reduceIte, gI_I, gI_R, gI_J, gR_I, gR_R, gR_J, gL_I, gL_R, gL_J, gN_I, gN_R, gN_J, gJ_I, gJ_R, Int32.reduceLT, e_1_0, Int32.reduceToNatClampNeg, Int32.reduceToInt, Int.reduceLE, Int.reduceLT, Int.reduceNeg, Int.reduceEq,  Nat.reduceLT, Nat.reduceLeDiff, Nat.reduceEqDiff, Nat.reduceAdd, Nat.reduceMul, false_or, or_false, true_and, and_true, false_and, and_false, not_false_eq_true, not_true_eq_false, or_self, and_self, true_or, or_true, is, c, i1, i3, b1, y1, y2, v1']) (by unfold f_X12_rows; simp only [Option.bind_some, ↓reduceIte, gI_I, gI_R, gI_J, gR_I, gR_R, gR_J, gL_I, gL_R, gL_J, gN_I, gN_R, gN_J, gJ_I, gJ_R, Int32.reduceLT, e_1_0, Int32.reduceToNatClampNeg, Int32.reduceToInt, Int.reduceLE, Int.reduceLT, Int.reduceNeg, Int.reduceEq,  Nat.reduceLT, Nat.reduceLeDiff, Nat.reduceEqDiff, Nat.reduceAdd, Nat.reduceMul, false_or, or_false, true_and, and_true, false_and, and_false, not_false_eq_true, not_true_eq_false, or_self, and_self, true_or, or_true, js, in_v, gy, v2']) r
    · refine so_q (-1) ?_ (by unfold f_X12_rows; simp only [Option.bind_some, ↓reduceIte, gI_I, gI_R, gI_J, gR_I, gR_R, gR_J, gL_I, gL_R, gL_J, gN_I, gN_R, gN_J, gJ_I, gJ_R, Int32.reduceLT, e_1_0, Int32.reduceToNatClampNeg, Int32.reduceToInt, Int.reduceLE, Int.reduceLT, Int.reduceNeg, Int.reduceEq,  Nat.reduceLT, Nat.reduceLeDiff, Nat.reduceEqDiff, Nat.reduceAdd, Nat.reduceMul, false_or, or_false, true_and, and_true, false_and, and_false, not_false_eq_true, not_true_eq_false, or_self, and_self, true_or, or_true, js, in_v, gy]) r
      unfold f_X11_rows
      by_cases x1 : y < 1
      · simp only [Option.bind_some, ↓reduceIte, gI_I, gI_R, gI_J, gR_I, gR_R, gR_J, gL_I, gL_R, gL_J, gN_I, gN_R, gN_J, gJ_I, gJ_R, Int32.reduceLT, e_1_0, Int32.reduceToNatClampNeg, Int32.reduceToInt, Int.reduceLE, Int.reduceLT, Int.reduceNeg, Int.reduceEq,  Nat.reduceLT, Nat.reduceLeDiff, Nat.reduceEqDiff, Nat.reduceAdd, Nat.reduceMul, false_or, or_false, true_and, and_true, false_and, and_false, not_false_eq_true, not_true_eq_false, or_self, and_self, true_or, or_true, is, x1]
      · have x2 : 8 < y := by rw [i_lt] at x1 ⊢; omega
        simp only [Option.bind_some, ↓reduceIte, gI_I, gI_R, gI_J, gR_I, gR_R, gR_J, gL_I, gL_R, gL_J, gN_I, gN_R, gN_J, gJ_I, gJ_R, Int32.reduceLT, e_1_0, Int32.reduceToNatClampNeg, Int32.reduceToInt, Int.reduceLE, Int.reduceLT, Int.reduceNeg, Int.reduceEq,  Nat.reduceLT, Nat.reduceLeDiff, Nat.reduceEqDiff, Nat.reduceAdd, Nat.reduceMul, false_or, or_false, true_and, and_true, false_and, and_false, not_false_eq_true, not_true_eq_false, or_self, and_self, true_or, or_true, is, x1, x2]
  · rw [if_neg g] at is js
    exact so_q (-1) (by unfold f_X11_rows; simp only [Option.bind_some, ↓reduceIte, gI_I, gI_R, gI_J, gR_I, gR_R, gR_J, gL_I, gL_R, gL_J, gN_I, gN_R, gN_J, gJ_I, gJ_R, Int32.reduceLT, e_1_0, Int32.reduceToNatClampNeg, Int32.reduceToInt, Int.reduceLE, Int.reduceLT, Int.reduceNeg, Int.reduceEq,  Nat.reduceLT, Nat.reduceLeDiff, Nat.reduceEqDiff, Nat.reduceAdd, Nat.reduceMul, false_or, or_false, true_and, and_true, false_and, and_false, not_false_eq_true, not_true_eq_false, or_self, and_self, true_or, or_true, is]) (by unfold f_X12_rows; simp only [Option.bind_some, ↓reduceIte, gI_I, gI_R, gI_J, gR_I, gR_R, gR_J, gL_I, gL_R, gL_J, gN_I, gN_R, gN_J, gJ_I, gJ_R, Int32.reduceLT, e_1_0, Int32.reduceToNatClampNeg, Int32.reduceToInt, Int.reduceLE, Int.reduceLT, Int.reduceNeg, Int.reduceEq,  Nat.reduceLT, Nat.reduceLeDiff, Nat.reduceEqDiff, Nat.reduceAdd, Nat.reduceMul, false_or, or_false, true_and, and_true, false_and, and_false, not_false_eq_true, not_true_eq_false, or_self, and_self, true_or, or_true, js]) r
