/-! ===== strips ===== -/
def rq_ (A B : Nat → Int32) : Nat → Bool
  | 0 => true
  | n + 1 => rq_ A B n && decide (A n = B n)
theorem rq_f {A B : Nat → Int32} {k : Nat} (h : rq_ A B k = false) : ∀ j, rq_ A B (k + j) = false
  | 0 => h
  | j + 1 => by
    show (rq_ A B (k + j) && _) = false
    rw [rq_f h j]
    rfl
theorem rq_g {A B : Nat → Int32} {k n : Nat} (h : rq_ A B k = false) (hn : k ≤ n) : rq_ A B n = false := by
  have e := rq_f h (n - k)
  rw [show k + (n - k) = n by omega] at e
  exact e
theorem rq_s {A B : Nat → Int32} {k : Nat} (h : rq_ A B k = true) : rq_ A B (k + 1) = decide (A k = B k) := by
  show (rq_ A B k && _) = _
  rw [h]
  rfl
theorem rq_t {A B : Nat → Int32} : ∀ {n : Nat}, (∀ i, i < n → A i = B i) → rq_ A B n = true
  | 0, _ => rfl
  | n + 1, h => by
    show (rq_ A B n && decide (A n = B n)) = true
    rw [rq_t (n := n) (fun i hi => h i (by omega)), decide_eq_true (h n (by omega))]
    rfl
/-- the strip l long with pictures P, at b in the class's cells -/
def SP (σ : Sg) (b l : Nat) (P : Nat → Int32) : Prop := ∃ c, sg_R σ b 0 = some c ∧ sg_L σ c = l ∧ 1 ≤ l ∧ l ≤ 16 ∧ ∀ i, i < l → sg_I σ c i = P i
theorem SP.sa {σ : Sg} {b l : Nat} {P : Nat → Int32} (h : SP σ b l P) {k : Nat} (hk : k < 1000000) : f_X8_shownAt b (Int32.ofNat k) σ = some (P (k % l)) := by
  obtain ⟨c, h1, h2, h3, h4, h5⟩ := h
  rw [sa_v h1 h2 h3 h4 h5, o_ti (by omega), em_n]
theorem ng_m {k l : Nat} (hl : 1 ≤ l) : ((-1 - (k : Int)) % (l : Int)).toNat = l - 1 - k % l := by
  have h := Nat.div_add_mod k l
  have h2 := Nat.mod_lt k (show 0 < l by omega)
  generalize k / l = u at h
  generalize k % l = v at h h2 ⊢
  have e : (-1 - (k : Int)) = ((l : Int) - 1 - (v : Int)) + (l : Int) * (-(u : Int) - 1) := by
    rw [← h, Int.natCast_add, Int.natCast_mul, Int.mul_sub, Int.mul_neg, Int.mul_one]
    omega
  rw [e, Int.add_mul_emod_self_left, Int.emod_eq_of_lt (by omega) (by omega)]
  omega
theorem SP.sb {σ : Sg} {b l : Nat} {P : Nat → Int32} (h : SP σ b l P) {k : Nat} (hk : k < 1000000) : f_X8_shownAt b ((-1) - Int32.ofNat k) σ = some (P (l - 1 - k % l)) := by
  obtain ⟨c, h1, h2, h3, h4, h5⟩ := h
  have em : (-1 : Int32).toInt = -1 := rfl
  have ek := o_ti (show k < 2147483648 by omega)
  rw [sa_v h1 h2 h3 h4 h5, i_sub (by omega) (by omega), em, ek, ng_m h3]
theorem SP.sz {σ : Sg} {b l : Nat} {P : Nat → Int32} (h : SP σ b l P) : f_X8_size b σ = some (Int32.ofNat l) := by
  obtain ⟨c, h1, h2, -⟩ := h
  exact sz_v h1 h2
theorem Rel.ss {σ ρ : Sg} (r : Rel σ ρ) {s : Nat} (hs : s < hS (sg_I ρ)) : ∃ b, sg_R σ 13 s = some b ∧ SP σ b (hL (sg_I ρ) s) (hP (sg_I ρ) s) ∧ sg_I ρ 358 s = Int32.ofNat (hL (sg_I ρ) s) ∧ 1 ≤ hL (sg_I ρ) s ∧ hL (sg_I ρ) s ≤ 16 := by
  obtain ⟨b, c, ⟨h1, h2, h3, h4, h5⟩, h6, -⟩ := r.sp s
  obtain ⟨h7, h8, h9⟩ := h6 hs
  exact ⟨b, h7, ⟨c, h1, h2, h3, h4, fun i hi => (h5 i hi).1⟩, h9, h3, h4⟩
/-- the k-th picture of a strip turned by u, over if x -/
def tn_ (l : Nat) (P : Nat → Int32) (u : Nat) (x : Int32) (k : Nat) : Int32 := P (if x = 0 then (u + k) % l else l - 1 - (u + k) % l)
theorem ir_b {K : Option Nat → Int32 → Int32 → Int32 → Int32 → Option Int32} {σ : Sg} {b b' i : Nat} {kk x pl : Int32} {u v : Int32} (h1 : f_X8_shownAt b pl σ = some u) (h2 : f_X8_shownAt b' (Int32.ofNat i) σ = some v) : f_X8_isRow_B40 20000 b K (some b') kk x (Int32.ofNat i) pl (some b) σ = K (some b') kk x (bi_ (decide (u = v))) (Int32.ofNat (i + 1)) := by
  unfold f_X8_isRow_B40 f_X8_isRow_B57
  simp only [Option.bind_some, h1, h2, o_s]
  by_cases q : u = v
  · rw [if_pos q, decide_eq_true q]
    rfl
  · rw [if_neg q, decide_eq_false q]
    rfl
theorem ir_v {σ : Sg} {b b' l : Nat} {P P' : Nat → Int32} (h : SP σ b l P) (h' : SP σ b' l P') {k : Nat} (hk : k ≤ 100) (x : Int32) : f_X8_isRow 20000 b (some b') (Int32.ofNat k) x σ = some (bi_ (rq_ (tn_ l P k x) P' l)) := by
  have hl : 1 ≤ l ∧ l ≤ 16 := by
    obtain ⟨c, h1, h2, h3, h4, h5⟩ := h
    exact ⟨h3, h4⟩
  have lp : ∀ (j i m : Nat), i + j = l → j < m → f_X8_isRow_L6 20000 b m (some b') (Int32.ofNat k) x (bi_ (rq_ (tn_ l P k x) P' i)) (Int32.ofNat i) σ = some (bi_ (rq_ (tn_ l P k x) P' l)) := by
    intro j
    induction j with
    | zero =>
      intro i m hi hm
      obtain ⟨m, rfl⟩ : ∃ x, m = x + 1 := ⟨m - 1, by omega⟩
      have hi : i = l := by omega
      subst hi
      rw [f_X8_isRow_L6, h.sz]
      simp only [Option.bind_some]
      rw [if_neg (by rw [o_lt (by omega) (by omega)]; omega)]
      cases rq_ (tn_ i P k x) P' i <;> rfl
    | succ j ih =>
      intro i m hi hm
      obtain ⟨m, rfl⟩ : ∃ x, m = x + 1 := ⟨m - 1, by omega⟩
      have ih1 := ih (i + 1) m (by omega) (by omega)
      rw [f_X8_isRow_L6, h.sz]
      simp only [Option.bind_some]
      rw [if_pos (by rw [o_lt (by omega) (by omega)]; omega)]
      cases hb : rq_ (tn_ l P k x) P' i with
      | false =>
        rw [if_pos bi_f, rq_g hb (show i ≤ l by omega)]
        rfl
      | true =>
        rw [rq_s hb] at ih1
        have e2 : f_X8_shownAt b' (Int32.ofNat i) σ = some (P' i) := by
          rw [h'.sa (by omega), Nat.mod_eq_of_lt (by omega)]
        rw [if_neg (by decide)]
        by_cases hx : x = 0
        · have e1 : f_X8_shownAt b (Int32.ofNat k + Int32.ofNat i) σ = some (tn_ l P k x i) := by
            unfold tn_
            rw [o_add, h.sa (by omega), if_pos hx]
          rw [if_pos hx, ir_b e1 e2]
          exact ih1
        · have e1 : f_X8_shownAt b ((-1) - (Int32.ofNat k + Int32.ofNat i)) σ = some (tn_ l P k x i) := by
            unfold tn_
            rw [o_add, h.sb (by omega), if_neg hx]
          rw [if_neg hx, ir_b e1 e2]
          exact ih1
  exact lp l 0 20000 (by omega) (by omega)
theorem tu_v {σ ρ : Sg} (r : Rel σ ρ) {s : Nat} (hs : s < hS (sg_I ρ)) {u k : Nat} (hu : u + k < 1000000) (x : Int32) : f_X12_turned 344 (Int32.ofNat s) (Int32.ofNat u) (Int32.ofNat k) x ρ = some (tn_ (hL (sg_I ρ) s) (hP (sg_I ρ) s) u x k) := by
  obtain ⟨b, b1, b2, b3, b4, b5⟩ := r.ss hs
  have d := r.rf
  have g := r.hs.1
  have d7 : sg_L ρ 357 = 112 := by simp only [d]
  have hm := Nat.mod_lt (u + k) (show 0 < hL (sg_I ρ) s by omega)
  unfold f_X12_turned tn_ hP
  simp only [d, Option.bind_some]
  rw [if_neg (o_in (by omega) (by omega)), o_tn (by omega), b3, if_neg (by rw [l_0, o_eq (by omega) (by omega)]; omega), o_add, rm_o (by omega) (by omega), l_16, o_mul, if_pos hs]
  by_cases hx : x = 0
  · rw [if_pos hx, if_pos hx]
    unfold f_X12_turned_B41
    simp only [Option.bind_some]
    rw [o_add, d7, if_neg (o_in (by omega) (by omega)), o_tn (by omega)]
  · rw [if_neg hx, if_neg hx]
    unfold f_X12_turned_B41
    simp only [Option.bind_some]
    rw [l_1, o_sub (by omega), o_sub (by omega), o_add, d7, if_neg (o_in (by omega) (by omega)), o_tn (by omega)]
theorem ia_v {σ ρ : Sg} (r : Rel σ ρ) {s o : Nat} (hs : s < hS (sg_I ρ)) (ho : o < hS (sg_I ρ)) {u : Nat} (hu : u ≤ 100) (x : Int32) : f_X12_isAlike 20000 344 (Int32.ofNat s) (Int32.ofNat u) x (Int32.ofNat o) ρ = some (bi_ (rq_ (tn_ (hL (sg_I ρ) s) (hP (sg_I ρ) s) u x) (hP (sg_I ρ) o) (hL (sg_I ρ) s))) := by
  obtain ⟨b, b1, b2, b3, b4, b5⟩ := r.ss hs
  have d := r.rf
  have g := r.hs.1
  have lp : ∀ (j i m : Nat), i + j = hL (sg_I ρ) s → j < m → rq_ (tn_ (hL (sg_I ρ) s) (hP (sg_I ρ) s) u x) (hP (sg_I ρ) o) i = true → f_X12_isAlike_L3 20000 344 m (Int32.ofNat s) (Int32.ofNat u) x (Int32.ofNat o) (Int32.ofNat i) ρ = some (bi_ (rq_ (tn_ (hL (sg_I ρ) s) (hP (sg_I ρ) s) u x) (hP (sg_I ρ) o) (hL (sg_I ρ) s))) := by
    intro j
    induction j with
    | zero =>
      intro i m hi hm hb
      obtain ⟨m, rfl⟩ : ∃ x, m = x + 1 := ⟨m - 1, by omega⟩
      have hi : i = hL (sg_I ρ) s := by omega
      rw [hi] at hb
      rw [hb, f_X12_isAlike_L3]
      simp only [d, Option.bind_some]
      rw [if_neg (o_in (by omega) (by omega)), o_tn (by omega), b3, if_neg (by rw [o_lt (by omega) (by omega)]; omega)]
      rfl
    | succ j ih =>
      intro i m hi hm hb
      obtain ⟨m, rfl⟩ : ∃ x, m = x + 1 := ⟨m - 1, by omega⟩
      have hq : hP (sg_I ρ) o i = sg_I ρ 357 (16 * o + i) := by
        unfold hP
        rw [if_pos ho]
      rw [f_X12_isAlike_L3]
      simp only [d, Option.bind_some]
      rw [if_neg (o_in (by omega) (by omega)), o_tn (by omega), b3, if_pos (by rw [o_lt (by omega) (by omega)]; omega), tu_v r hs (by omega) x]
      simp only [Option.bind_some]
      rw [l_16, o_mul, o_add, if_neg (o_in (by omega) (by omega)), o_tn (by omega), ← hq]
      by_cases q : tn_ (hL (sg_I ρ) s) (hP (sg_I ρ) s) u x i = hP (sg_I ρ) o i
      · rw [if_pos q, o_s]
        exact ih (i + 1) m (by omega) (by omega) (by rw [rq_s hb, decide_eq_true q])
      · rw [if_neg q, rq_g (show rq_ _ _ (i + 1) = false by rw [rq_s hb, decide_eq_false q]) (show i + 1 ≤ hL (sg_I ρ) s by omega)]
        rfl
  exact lp (hL (sg_I ρ) s) 0 20000 (by omega) (by omega) rfl
theorem p2_period : so_period p2_I 20000 := by
  intro x σ r
  have c := Rel.cf r
  have d := Rel.rf r
  have is := is_v r x
  have js := js_v r x
  by_cases g : 0 ≤ x.toInt ∧ x.toInt < hS (sg_I σ)
  · rw [if_pos g] at is js
    obtain ⟨s, hs, rfl⟩ := x_lt g
    obtain ⟨b, b1, b2, b3, b4, b5⟩ := Rel.ss r hs
    have g6 := (Rel.hs r).1
    have lp : ∀ (j k m m' : Nat), k + j = hL (sg_I σ) s → 1 ≤ k → j < m → j < m' → ∃ v, f_X8_leastPeriod_L2 20000 b m (Int32.ofNat k) σ = some v ∧ f_X12_period_L12 20000 344 m' (Int32.ofNat s) (Int32.ofNat k) σ = some v := by
      intro j
      induction j with
      | zero =>
        intro k m m' hk h1 hm hm'
        obtain ⟨m, rfl⟩ : ∃ x, m = x + 1 := ⟨m - 1, by omega⟩
        obtain ⟨m', rfl⟩ : ∃ x, m' = x + 1 := ⟨m' - 1, by omega⟩
        have hk : k = hL (sg_I σ) s := by omega
        refine ⟨Int32.ofNat k, ?_, ?_⟩
        · rw [f_X8_leastPeriod_L2, b2.sz]
          simp only [Option.bind_some]
          rw [if_neg (by rw [o_lt (by omega) (by omega)]; omega), hk]
        · rw [f_X12_period_L12, ia_v r hs hs (by omega) 0]
          simp only [Option.bind_some]
          rw [rq_t (fun i hi => by
            unfold tn_
            rw [if_pos rfl, hk, Nat.add_mod_left, Nat.mod_eq_of_lt hi]), if_neg (by decide)]
      | succ j ih =>
        intro k m m' hk h1 hm hm'
        obtain ⟨m, rfl⟩ : ∃ x, m = x + 1 := ⟨m - 1, by omega⟩
        obtain ⟨m', rfl⟩ : ∃ x, m' = x + 1 := ⟨m' - 1, by omega⟩
        obtain ⟨v, v1, v2⟩ := ih (k + 1) m m' (by omega) (by omega) (by omega) (by omega)
        rw [f_X8_leastPeriod_L2, b2.sz, f_X12_period_L12, ia_v r hs hs (by omega) 0]
        simp only [Option.bind_some]
        rw [if_pos (by rw [o_lt (by omega) (by omega)]; omega), ir_v b2 b2 (by omega) 0]
        simp only [Option.bind_some]
        cases rq_ (tn_ (hL (sg_I σ) s) (hP (sg_I σ) s) k 0) (hP (sg_I σ) s) (hL (sg_I σ) s) with
        | false =>
          rw [if_pos bi_f, if_pos bi_f, o_s]
          exact ⟨v, v1, v2⟩
        | true =>
          rw [if_neg (by decide), if_neg (by decide)]
          exact ⟨_, rfl, rfl⟩
    obtain ⟨v, v1, v2⟩ := lp (hL (sg_I σ) s - 1) 1 20000 20000 (by omega) (by omega) (by omega) (by omega)
    have v1' : f_X8_leastPeriod_L2 20000 b 20000 1 σ = some v := v1
    have v2' : f_X12_period_L12 20000 344 20000 (Int32.ofNat s) 1 σ = some v := v2
    have i1 : ¬ Int32.ofNat s < 0 ∧ ¬ 6 ≤ s := ⟨o_nn (by omega), by omega⟩
    have i3 : (Int32.ofNat s).toNatClampNeg = s := o_tn (by omega)
    exact so_q v (by unfold f_X11_period f_X8_leastPeriod; simp only [Option.bind_some, ↓reduceIte, gI_I, gI_R, gI_J, gR_I, gR_R, gR_J, gL_I, gL_R, gL_J, gN_I, gN_R, gN_J, gJ_I, gJ_R, Int32.reduceLT, e_1_0, Int32.reduceToNatClampNeg, Int32.reduceToInt, Int.reduceLE, Int.reduceLT, Int.reduceNeg, Int.reduceEq,  Nat.reduceLT, Nat.reduceLeDiff, Nat.reduceEqDiff, Nat.reduceAdd, Nat.reduceMul, false_or, or_false, true_and, and_true, false_and, and_false, not_false_eq_true, not_true_eq_false, or_self, and_self, true_or, or_true, is, c, i1, i3, b1, v1']) (by unfold f_X12_period; simp only [Option.bind_some, ↓reduceIte, gI_I, gI_R, gI_J, gR_I, gR_R, gR_J, gL_I, gL_R, gL_J, gN_I, gN_R, gN_J, gJ_I, gJ_R, Int32.reduceLT, e_1_0, Int32.reduceToNatClampNeg, Int32.reduceToInt, Int.reduceLE, Int.reduceLT, Int.reduceNeg, Int.reduceEq,  Nat.reduceLT, Nat.reduceLeDiff, Nat.reduceEqDiff, Nat.reduceAdd, Nat.reduceMul, false_or, or_false, true_and, and_true, false_and, and_false, not_false_eq_true, not_true_eq_false, or_self, and_self, true_or, or_true, js, v2']) r
  · rw [if_neg g] at is js
    exact so_q (-1) (by unfold f_X11_period; simp only [Option.bind_some, ↓reduceIte, gI_I, gI_R, gI_J, gR_I, gR_R, gR_J, gL_I, gL_R, gL_J, gN_I, gN_R, gN_J, gJ_I, gJ_R, Int32.reduceLT, e_1_0, Int32.reduceToNatClampNeg, Int32.reduceToInt, Int.reduceLE, Int.reduceLT, Int.reduceNeg, Int.reduceEq,  Nat.reduceLT, Nat.reduceLeDiff, Nat.reduceEqDiff, Nat.reduceAdd, Nat.reduceMul, false_or, or_false, true_and, and_true, false_and, and_false, not_false_eq_true, not_true_eq_false, or_self, and_self, true_or, or_true, is]) (by unfold f_X12_period; simp only [Option.bind_some, ↓reduceIte, gI_I, gI_R, gI_J, gR_I, gR_R, gR_J, gL_I, gL_R, gL_J, gN_I, gN_R, gN_J, gJ_I, gJ_R, Int32.reduceLT, e_1_0, Int32.reduceToNatClampNeg, Int32.reduceToInt, Int.reduceLE, Int.reduceLT, Int.reduceNeg, Int.reduceEq,  Nat.reduceLT, Nat.reduceLeDiff, Nat.reduceEqDiff, Nat.reduceAdd, Nat.reduceMul, false_or, or_false, true_and, and_true, false_and, and_false, not_false_eq_true, not_true_eq_false, or_self, and_self, true_or, or_true, js]) r
/-- turnings that make one strip the other -/
theorem tt_v {σ ρ : Sg} (r : Rel σ ρ) {s o b b' : Nat} (hs : s < hS (sg_I ρ)) (ho : o < hS (sg_I ρ)) (h : SP σ b (hL (sg_I ρ) s) (hP (sg_I ρ) s)) (h' : SP σ b' (hL (sg_I ρ) o) (hP (sg_I ρ) o)) (x : Int32) : ∃ v, f_X8_turningTo 20000 b (some b') x σ = some v ∧ f_X12_alikeBy 20000 344 (Int32.ofNat s) (Int32.ofNat o) x ρ = some v := by
  obtain ⟨-, -, -, b3, b4, b5⟩ := r.ss hs
  obtain ⟨-, -, -, c3, c4, c5⟩ := r.ss ho
  have d := r.rf
  have g6 := r.hs.1
  have ab : f_X12_alikeBy 20000 344 (Int32.ofNat s) (Int32.ofNat o) x ρ = if Int32.ofNat (hL (sg_I ρ) s) = Int32.ofNat (hL (sg_I ρ) o) then f_X12_alikeBy_L20 20000 344 20000 (Int32.ofNat s) (Int32.ofNat o) x 0 ρ else some (-1) := by
    unfold f_X12_alikeBy
    simp only [d, Option.bind_some]
    rw [if_neg (o_in (by omega) (by omega)), if_neg (o_in (by omega) (by omega)), o_tn (by omega), o_tn (by omega), b3, c3]
  by_cases e : hL (sg_I ρ) s = hL (sg_I ρ) o
  · rw [ab, if_pos (by rw [e])]
    have h2 : SP σ b' (hL (sg_I ρ) s) (hP (sg_I ρ) o) := by rw [e]; exact h'
    have lp : ∀ (j k m m' : Nat), k + j = hL (sg_I ρ) s → j < m → j < m' → ∃ v, f_X8_turningTo_L2 20000 b m (some b') x (Int32.ofNat k) σ = some v ∧ f_X12_alikeBy_L20 20000 344 m' (Int32.ofNat s) (Int32.ofNat o) x (Int32.ofNat k) ρ = some v := by
      intro j
      induction j with
      | zero =>
        intro k m m' hk hm hm'
        obtain ⟨m, rfl⟩ : ∃ x, m = x + 1 := ⟨m - 1, by omega⟩
        obtain ⟨m', rfl⟩ : ∃ x, m' = x + 1 := ⟨m' - 1, by omega⟩
        refine ⟨-1, ?_, ?_⟩
        · rw [f_X8_turningTo_L2, h.sz]
          simp only [Option.bind_some]
          rw [if_neg (by rw [o_lt (by omega) (by omega)]; omega)]
        · rw [f_X12_alikeBy_L20]
          simp only [d, Option.bind_some]
          rw [if_neg (o_in (by omega) (by omega)), o_tn (by omega), b3, if_neg (by rw [o_lt (by omega) (by omega)]; omega)]
      | succ j ih =>
        intro k m m' hk hm hm'
        obtain ⟨m, rfl⟩ : ∃ x, m = x + 1 := ⟨m - 1, by omega⟩
        obtain ⟨m', rfl⟩ : ∃ x, m' = x + 1 := ⟨m' - 1, by omega⟩
        obtain ⟨v, v1, v2⟩ := ih (k + 1) m m' (by omega) (by omega) (by omega)
        rw [f_X8_turningTo_L2, h.sz, f_X12_alikeBy_L20]
        simp only [d, Option.bind_some]
        rw [if_pos (by rw [o_lt (by omega) (by omega)]; omega), h2.sz]
        simp only [Option.bind_some]
        rw [if_pos trivial, ir_v h h2 (by omega) x, if_neg (o_in (by omega) (by omega)), o_tn (by omega), b3, if_pos (by rw [o_lt (by omega) (by omega)]; omega), ia_v r hs ho (by omega) x]
        simp only [Option.bind_some]
        cases rq_ (tn_ (hL (sg_I ρ) s) (hP (sg_I ρ) s) k x) (hP (sg_I ρ) o) (hL (sg_I ρ) s) with
        | false =>
          rw [if_pos bi_f, if_pos bi_f, o_s]
          exact ⟨v, v1, v2⟩
        | true =>
          rw [if_neg (by decide), if_neg (by decide)]
          exact ⟨_, rfl, rfl⟩
    exact lp (hL (sg_I ρ) s) 0 20000 20000 (by omega) (by omega) (by omega)
  · refine ⟨-1, ?_, ?_⟩
    · unfold f_X8_turningTo
      rw [f_X8_turningTo_L2, h.sz]
      simp only [Option.bind_some]
      rw [if_pos (by rw [l_0, o_lt (by omega) (by omega)]; omega), h'.sz]
      simp only [Option.bind_some]
      rw [if_neg (by rw [o_eq (by omega) (by omega)]; exact e)]
    · rw [ab, if_neg (by rw [o_eq (by omega) (by omega)]; exact e)]
theorem p2_alike : so_alike p2_I 20000 := by
  intro x y z σ r
  have c := Rel.cf r
  have is := is_v r x
  have js := js_v r x
  have is2 := is_v r y
  have js2 := js_v r y
  have g6 := (Rel.hs r).1
  by_cases g : 0 ≤ x.toInt ∧ x.toInt < hS (sg_I σ)
  · rw [if_pos g] at is js
    by_cases g2 : 0 ≤ y.toInt ∧ y.toInt < hS (sg_I σ)
    · rw [if_pos g2] at is2 js2
      obtain ⟨s, hs, rfl⟩ := x_lt g
      obtain ⟨o, ho, rfl⟩ := x_lt g2
      obtain ⟨b, b1, b2, b3, b4, b5⟩ := Rel.ss r hs
      obtain ⟨b', c1, c2, c3, c4, c5⟩ := Rel.ss r ho
      obtain ⟨v, v1, v2⟩ := tt_v r hs ho b2 c2 z
      have i1 : ¬ Int32.ofNat s < 0 ∧ ¬ 6 ≤ s := ⟨o_nn (by omega), by omega⟩
      have i3 : (Int32.ofNat s).toNatClampNeg = s := o_tn (by omega)
      have j1 : ¬ Int32.ofNat o < 0 ∧ ¬ 6 ≤ o := ⟨o_nn (by omega), by omega⟩
      have j3 : (Int32.ofNat o).toNatClampNeg = o := o_tn (by omega)
      exact so_q v (by unfold f_X11_alike; simp only [Option.bind_some, ↓reduceIte, gI_I, gI_R, gI_J, gR_I, gR_R, gR_J, gL_I, gL_R, gL_J, gN_I, gN_R, gN_J, gJ_I, gJ_R, Int32.reduceLT, e_1_0, Int32.reduceToNatClampNeg, Int32.reduceToInt, Int.reduceLE, Int.reduceLT, Int.reduceNeg, Int.reduceEq,  Nat.reduceLT, Nat.reduceLeDiff, Nat.reduceEqDiff, Nat.reduceAdd, Nat.reduceMul, false_or, or_false, true_and, and_true, false_and, and_false, not_false_eq_true, not_true_eq_false, or_self, and_self, true_or, or_true, is, is2, c, i1, i3, j1, j3, b1, c1, v1]) (by unfold f_X12_alike; simp only [Option.bind_some, ↓reduceIte, gI_I, gI_R, gI_J, gR_I, gR_R, gR_J, gL_I, gL_R, gL_J, gN_I, gN_R, gN_J, gJ_I, gJ_R, Int32.reduceLT, e_1_0, Int32.reduceToNatClampNeg, Int32.reduceToInt, Int.reduceLE, Int.reduceLT, Int.reduceNeg, Int.reduceEq,  Nat.reduceLT, Nat.reduceLeDiff, Nat.reduceEqDiff, Nat.reduceAdd, Nat.reduceMul, false_or, or_false, true_and, and_true, false_and, and_false, not_false_eq_true, not_true_eq_false, or_self, and_self, true_or, or_true, js, js2, v2]) r
    · rw [if_neg g2] at is2 js2
      exact so_q (-1) (by unfold f_X11_alike; simp only [Option.bind_some, ↓reduceIte, gI_I, gI_R, gI_J, gR_I, gR_R, gR_J, gL_I, gL_R, gL_J, gN_I, gN_R, gN_J, gJ_I, gJ_R, Int32.reduceLT, e_1_0, Int32.reduceToNatClampNeg, Int32.reduceToInt, Int.reduceLE, Int.reduceLT, Int.reduceNeg, Int.reduceEq,  Nat.reduceLT, Nat.reduceLeDiff, Nat.reduceEqDiff, Nat.reduceAdd, Nat.reduceMul, false_or, or_false, true_and, and_true, false_and, and_false, not_false_eq_true, not_true_eq_false, or_self, and_self, true_or, or_true, is, is2]) (by unfold f_X12_alike; simp only [Option.bind_some, ↓reduceIte, gI_I, gI_R, gI_J, gR_I, gR_R, gR_J, gL_I, gL_R, gL_J, gN_I, gN_R, gN_J, gJ_I, gJ_R, Int32.reduceLT, e_1_0, Int32.reduceToNatClampNeg, Int32.reduceToInt, Int.reduceLE, Int.reduceLT, Int.reduceNeg, Int.reduceEq,  Nat.reduceLT, Nat.reduceLeDiff, Nat.reduceEqDiff, Nat.reduceAdd, Nat.reduceMul, false_or, or_false, true_and, and_true, false_and, and_false, not_false_eq_true, not_true_eq_false, or_self, and_self, true_or, or_true, js, js2]) r
  · rw [if_neg g] at is js
    exact so_q (-1) (by unfold f_X11_alike; simp only [Option.bind_some, ↓reduceIte, gI_I, gI_R, gI_J, gR_I, gR_R, gR_J, gL_I, gL_R, gL_J, gN_I, gN_R, gN_J, gJ_I, gJ_R, Int32.reduceLT, e_1_0, Int32.reduceToNatClampNeg, Int32.reduceToInt, Int.reduceLE, Int.reduceLT, Int.reduceNeg, Int.reduceEq,  Nat.reduceLT, Nat.reduceLeDiff, Nat.reduceEqDiff, Nat.reduceAdd, Nat.reduceMul, false_or, or_false, true_and, and_true, false_and, and_false, not_false_eq_true, not_true_eq_false, or_self, and_self, true_or, or_true, is]) (by unfold f_X12_alike; simp only [Option.bind_some, ↓reduceIte, gI_I, gI_R, gI_J, gR_I, gR_R, gR_J, gL_I, gL_R, gL_J, gN_I, gN_R, gN_J, gJ_I, gJ_R, Int32.reduceLT, e_1_0, Int32.reduceToNatClampNeg, Int32.reduceToInt, Int.reduceLE, Int.reduceLT, Int.reduceNeg, Int.reduceEq,  Nat.reduceLT, Nat.reduceLeDiff, Nat.reduceEqDiff, Nat.reduceAdd, Nat.reduceMul, false_or, or_false, true_and, and_true, false_and, and_false, not_false_eq_true, not_true_eq_false, or_self, and_self, true_or, or_true, js]) r
theorem p2_mirror : so_mirror p2_I 20000 := by
  intro x σ r
  have c := Rel.cf r
  have is := is_v r x
  have js := js_v r x
  have g6 := (Rel.hs r).1
  by_cases g : 0 ≤ x.toInt ∧ x.toInt < hS (sg_I σ)
  · rw [if_pos g] at is js
    obtain ⟨s, hs, rfl⟩ := x_lt g
    obtain ⟨b, b1, b2, b3, b4, b5⟩ := Rel.ss r hs
    obtain ⟨v, v1, v2⟩ := tt_v r hs hs b2 b2 1
    have i1 : ¬ Int32.ofNat s < 0 ∧ ¬ 6 ≤ s := ⟨o_nn (by omega), by omega⟩
    have i3 : (Int32.ofNat s).toNatClampNeg = s := o_tn (by omega)
    refine so_q (if v = -1 then 0 else 1) ?_ ?_ r
    · unfold f_X11_mirror
      simp only [Option.bind_some, ↓reduceIte, gI_I, gI_R, gI_J, gR_I, gR_R, gR_J, gL_I, gL_R, gL_J, gN_I, gN_R, gN_J, gJ_I, gJ_R, Int32.reduceLT, e_1_0, Int32.reduceToNatClampNeg, Int32.reduceToInt, Int.reduceLE, Int.reduceLT, Int.reduceNeg, Int.reduceEq,  Nat.reduceLT, Nat.reduceLeDiff, Nat.reduceEqDiff, Nat.reduceAdd, Nat.reduceMul, false_or, or_false, true_and, and_true, false_and, and_false, not_false_eq_true, not_true_eq_false, or_self, and_self, true_or, or_true, is, c, i1, i3, b1, v1]
      by_cases q : v = -1
      · rw [if_pos q, if_pos q]
      · rw [if_neg q, if_neg q]
    · unfold f_X12_mirror
      simp only [Option.bind_some, ↓reduceIte, gI_I, gI_R, gI_J, gR_I, gR_R, gR_J, gL_I, gL_R, gL_J, gN_I, gN_R, gN_J, gJ_I, gJ_R, Int32.reduceLT, e_1_0, Int32.reduceToNatClampNeg, Int32.reduceToInt, Int.reduceLE, Int.reduceLT, Int.reduceNeg, Int.reduceEq,  Nat.reduceLT, Nat.reduceLeDiff, Nat.reduceEqDiff, Nat.reduceAdd, Nat.reduceMul, false_or, or_false, true_and, and_true, false_and, and_false, not_false_eq_true, not_true_eq_false, or_self, and_self, true_or, or_true, js, v2]
      by_cases q : v = -1
      · rw [if_pos q, if_pos q]
      · rw [if_neg q, if_neg q]
  · rw [if_neg g] at is js
    exact so_q (-1) (by unfold f_X11_mirror; simp only [Option.bind_some, ↓reduceIte, gI_I, gI_R, gI_J, gR_I, gR_R, gR_J, gL_I, gL_R, gL_J, gN_I, gN_R, gN_J, gJ_I, gJ_R, Int32.reduceLT, e_1_0, Int32.reduceToNatClampNeg, Int32.reduceToInt, Int.reduceLE, Int.reduceLT, Int.reduceNeg, Int.reduceEq,  Nat.reduceLT, Nat.reduceLeDiff, Nat.reduceEqDiff, Nat.reduceAdd, Nat.reduceMul, false_or, or_false, true_and, and_true, false_and, and_false, not_false_eq_true, not_true_eq_false, or_self, and_self, true_or, or_true, is]) (by unfold f_X12_mirror; simp only [Option.bind_some, ↓reduceIte, gI_I, gI_R, gI_J, gR_I, gR_R, gR_J, gL_I, gL_R, gL_J, gN_I, gN_R, gN_J, gJ_I, gJ_R, Int32.reduceLT, e_1_0, Int32.reduceToNatClampNeg, Int32.reduceToInt, Int.reduceLE, Int.reduceLT, Int.reduceNeg, Int.reduceEq,  Nat.reduceLT, Nat.reduceLeDiff, Nat.reduceEqDiff, Nat.reduceAdd, Nat.reduceMul, false_or, or_false, true_and, and_true, false_and, and_false, not_false_eq_true, not_true_eq_false, or_self, and_self, true_or, or_true, js]) r
