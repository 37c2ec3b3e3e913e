/-! ===== flashes by which wheels stand ===== -/
def cj_ (Q : Nat → Bool) : Nat → Bool
  | 0 => true
  | k + 1 => cj_ Q k && Q k
theorem cj_f {Q : Nat → Bool} {k : Nat} (h : cj_ Q k = false) : ∀ j, cj_ Q (k + j) = false
  | 0 => h
  | j + 1 => by
    show (cj_ Q (k + j) && _) = false
    rw [cj_f h j]
    rfl
theorem cj_g {Q : Nat → Bool} {k n : Nat} (h : cj_ Q k = false) (hn : k ≤ n) : cj_ Q n = false := by
  have e := cj_f h (n - k)
  rw [show k + (n - k) = n by omega] at e
  exact e
theorem cj_s {Q : Nat → Bool} {k : Nat} (h : cj_ Q k = true) : cj_ Q (k + 1) = Q k := by
  show (cj_ Q k && _) = _
  rw [h]
  rfl
/-- how many are so -/
def ct_ (Q : Nat → Bool) : Nat → Nat
  | 0 => 0
  | k + 1 => ct_ Q k + (if Q k = true then 1 else 0)
theorem ct_le {Q : Nat → Bool} : ∀ k, ct_ Q k ≤ k
  | 0 => Nat.le_refl 0
  | k + 1 => by
    have h := ct_le (Q := Q) k
    show ct_ Q k + (if Q k = true then 1 else 0) ≤ k + 1
    split <;> omega
theorem ct_n {Q : Nat → Bool} : ∀ k, ct_ Q k = k ↔ cj_ Q k = true
  | 0 => ⟨fun _ => rfl, fun _ => rfl⟩
  | k + 1 => by
    have h := ct_le (Q := Q) k
    have ih := ct_n (Q := Q) k
    show ct_ Q k + (if Q k = true then 1 else 0) = k + 1 ↔ (cj_ Q k && Q k) = true
    cases hq : Q k with
    | false =>
      rw [Bool.and_false, if_neg (by decide)]
      exact ⟨fun e => by omega, fun e => by cases e⟩
    | true =>
      rw [Bool.and_true, if_pos rfl, ← ih]
      omega
/-- the first that is so -/
def ff_ (A : Nat → Bool) : Nat → Nat → Int32
  | 0, _ => -1
  | j + 1, f => if A f = true then Int32.ofNat f else ff_ A j (f + 1)
/-- the reference's trail alone has changed -/
def KQ (σ τ : Sg) : Prop := kp_ σ τ ∧ ∀ a, a ≠ 353 → a ≠ 354 → a ≠ 362 → sg_I τ a = sg_I σ a
theorem KQ.tr {σ τ υ : Sg} (h : KQ σ τ) (k : KQ τ υ) : KQ σ υ := ⟨h.1.tr k.1, fun a h1 h2 h3 => (k.2 a h1 h2 h3).trans (h.2 a h1 h2 h3)⟩
theorem KQ.put {σ : Sg} {j : Nat} {v : Int32} : KQ σ (put_I σ 362 j v) := ⟨kp_.put, fun b _ _ h => gI_a h⟩
theorem KU.kq {σ τ : Sg} (h : KU σ τ) : KQ σ τ := ⟨h.1, fun a h1 h2 _ => h.2 a h1 h2⟩
theorem KQ.ks {σ τ : Sg} (h : KQ σ τ) : KS σ τ := ⟨h.1, fun a h1 h2 h3 _ _ => h.2 a h1 h2 h3⟩
theorem lt_w {σ ρ ρ' : Sg} (r : Rel σ ρ) {law : Option Nat} {K : Option (List Kl)} (H : HO σ ρ law K) {n w : Nat} (e : sg_I ρ 344 20 = Int32.ofNat n) (hn : n ≤ 4) (hw : w < n) (ks : KS ρ ρ') : ∃ τ, f_X12_layTrail 20000 344 (Int32.ofNat w) ρ' = some τ ∧ KQ ρ' τ ∧ ∀ k, k ≤ 360 → sg_I τ 362 k = Int32.ofNat (tj_ K (sg_I ρ) w k) := by
  obtain ⟨f1, f2, t1, i1, i4, -, -⟩ := r.gn e hn (by omega)
  obtain ⟨v, z, v1, z1, q1, p1, s1, s2, ev, w1, w2, w3, w4, -⟩ := r.wn e hn hw
  have d := r.rf
  have lp : ∀ (j k m : Nat) (υ : Sg), k + j = 360 → j < m → KQ ρ' υ → (∀ i, i ≤ k → sg_I υ 362 i = Int32.ofNat (tj_ K (sg_I ρ) w i)) → ∃ τ, f_X12_layTrail_L14 20000 344 m (Int32.ofNat w) (Int32.ofNat k) υ = some τ ∧ KQ ρ' τ ∧ ∀ i, i ≤ 360 → sg_I τ 362 i = Int32.ofNat (tj_ K (sg_I ρ) w i) := by
    intro j
    induction j with
    | zero =>
      intro k m υ hk hm kq hi
      obtain ⟨m, rfl⟩ : ∃ x, m = x + 1 := ⟨m - 1, by omega⟩
      refine ⟨υ, ?_, kq, fun i h => hi i (by omega)⟩
      rw [f_X12_layTrail_L14, if_neg (by rw [l_360, o_lt (by omega) (by omega)]; omega)]
    | succ j ih =>
      intro k m υ hk hm kq hi
      obtain ⟨m, rfl⟩ : ∃ x, m = x + 1 := ⟨m - 1, by omega⟩
      have ks' := ks.tr kq.ks
      obtain ⟨φ, a1, a2⟩ := nx_s r H e hn hw ks' (i := k) (by omega)
      obtain ⟨τ, b1, b2, b3⟩ := ih (k + 1) m (put_I φ 362 (k + 1) (Int32.ofNat (tj_ K (sg_I ρ) w (k + 1)))) (by omega) (by omega) ((kq.tr a2.kq).tr KQ.put) (fun i h => by
        by_cases q : i = k + 1
        · subst q
          exact gI_e
        · rw [gI_n (by omega), a2.2 362 (by decide) (by decide)]
          exact hi i (by omega))
      have d' : RF (sg_R υ) (sg_L υ) := by rw [ks'.1.2.1, ks'.1.2.2.1]; exact d
      have e19 : sg_I υ 359 19 = Int32.ofNat (wt0 (sg_I ρ)) := by rw [ks'.h.2.1]; exact i4
      have n1 : ¬ Int32.ofNat k < 0 ∧ ¬ 361 ≤ k := ⟨o_nn (by omega), by omega⟩
      have n2 : ¬ Int32.ofNat (k + 1) < 0 ∧ ¬ 361 ≤ k + 1 := ⟨o_nn (by omega), by omega⟩
      refine ⟨τ, ?_, b2, b3⟩
      rw [f_X12_layTrail_L14, if_pos (by rw [l_360, o_lt (by omega) (by omega)]; omega)]
      simp only [Option.bind_some, ↓reduceIte, gI_I, gI_R, gI_J, gR_I, gR_R, gR_J, gL_I, gL_R, gL_J, gN_I, gN_R, gN_J, gJ_I, gJ_R, Int32.reduceLT, e_1_0, Int32.reduceToNatClampNeg, Int32.reduceToInt, Int.reduceLE, Int.reduceLT, Int.reduceNeg, Int.reduceEq,  Nat.reduceLT, Nat.reduceLeDiff, Nat.reduceEqDiff, Nat.reduceAdd, Nat.reduceMul, false_or, or_false, true_and, and_true, false_and, and_false, not_false_eq_true, not_true_eq_false, or_self, and_self, true_or, or_true, d', e19, n1, o_tn (show k < 2147483648 by omega), hi k (Nat.le_refl k), o_add, a1, a2.1.2.2.1, o_s, o_tn (show k + 1 < 2147483648 by omega), n2]
      exact b1
  have d' : RF (sg_R ρ') (sg_L ρ') := by rw [ks.1.2.1, ks.1.2.2.1]; exact d
  obtain ⟨τ, a1, a2, a3⟩ := lp 360 0 20000 (put_I ρ' 362 0 (Int32.ofNat (wp0 (sg_I ρ) w))) (by omega) (by omega) KQ.put (fun i hi => by
    have : i = 0 := by omega
    subst this
    exact gI_e)
  have a1' : f_X12_layTrail_L14 20000 344 20000 (Int32.ofNat w) 0 (put_I ρ' 362 0 (Int32.ofNat (wp0 (sg_I ρ) w))) = some τ := a1
  refine ⟨τ, ?_, a2, a3⟩
  unfold f_X12_layTrail
  rw [of_2 d' (by omega), ks.h.2.1, w3]
  simp only [Option.bind_some, ↓reduceIte, gI_I, gI_R, gI_J, gR_I, gR_R, gR_J, gL_I, gL_R, gL_J, gN_I, gN_R, gN_J, gJ_I, gJ_R, Int32.reduceLT, e_1_0, Int32.reduceToNatClampNeg, Int32.reduceToInt, Int.reduceLE, Int.reduceLT, Int.reduceNeg, Int.reduceEq,  Nat.reduceLT, Nat.reduceLeDiff, Nat.reduceEqDiff, Nat.reduceAdd, Nat.reduceMul, false_or, or_false, true_and, and_true, false_and, and_false, not_false_eq_true, not_true_eq_false, or_self, and_self, true_or, or_true, d', a1']
theorem sb_v {ρ : Sg} (d : RF (sg_R ρ) (sg_L ρ)) {g : Nat → Nat} (hg : ∀ k, g k < 16) (ht : ∀ k, k ≤ 360 → sg_I ρ 362 k = Int32.ofNat (g k)) {f : Nat} (hf : f ≤ 60) : f_X12_standsBy 20000 344 (Int32.ofNat f) ρ = some (bi_ (sy_ g (g 0) f 6)) := by
  have lp : ∀ (j k m : Nat), k + j = 6 → j < m → sy_ g (g 0) f k = true → f_X12_standsBy_L2 20000 344 m (Int32.ofNat f) (Int32.ofNat (k + 1)) ρ = some (bi_ (sy_ g (g 0) f 6)) := by
    intro j
    induction j with
    | zero =>
      intro k m hk hm hb
      obtain ⟨m, rfl⟩ : ∃ x, m = x + 1 := ⟨m - 1, by omega⟩
      have hk : k = 6 := by omega
      subst hk
      rw [f_X12_standsBy_L2, if_pos (by decide), hb]
      rfl
    | succ j ih =>
      intro k m hk hm hb
      obtain ⟨m, rfl⟩ : ∃ x, m = x + 1 := ⟨m - 1, by omega⟩
      have hkn : (k + 1) * f ≤ 6 * 60 := Nat.mul_le_mul (by omega) hf
      have e : sy_ g (g 0) f (k + 1) = decide (g ((k + 1) * f) = g 0) := by
        show (sy_ g (g 0) f k && _) = _
        rw [hb]
        rfl
      have g1 := hg ((k + 1) * f)
      have g2 := hg 0
      rw [f_X12_standsBy_L2, if_neg (by rw [l_6, o_lt (by omega) (by omega)]; omega), o_mul]
      simp only [d, Option.bind_some]
      rw [if_neg (o_in (by omega) (by omega)), o_tn (by omega), if_neg (by decide), ht _ (by omega)]
      show (if Int32.ofNat (g ((k + 1) * f)) = sg_I ρ 362 0 then _ else _) = _
      rw [ht 0 (by omega)]
      by_cases q : g ((k + 1) * f) = g 0
      · rw [if_pos (by rw [q]), o_s]
        exact ih (k + 1) m (by omega) (by omega) (by rw [e, decide_eq_true q])
      · rw [if_neg (by rw [o_eq (by omega) (by omega)]; exact q)]
        have h6 := sy_f (show sy_ g (g 0) f (k + 1) = false by rw [e, decide_eq_false q]) (6 - (k + 1))
        rw [show k + 1 + (6 - (k + 1)) = 6 by omega] at h6
        rw [h6]
        rfl
  exact lp 6 0 20000 (by omega) (by omega) rfl
theorem p2_stands : so_stands p2_I 20000 := by
  intro x i
  refine Sm.so (Sm.of ?_)
  intro σ ρ r
  obtain ⟨n, h1, h2, h3, h4, h5⟩ := r.nw
  have c := r.cf
  have d := r.rf
  have iw := iw_v c h1 h3 x
  have jw := jw_v h1 h2 x
  have em : (-1 : Int32).toInt = -1 := rfl
  by_cases g : 0 ≤ x.toInt ∧ x.toInt < n
  · rw [if_pos g] at iw jw
    obtain ⟨w, hw, rfl⟩ := x_lt g
    obtain ⟨law, K, H⟩ := r.ho
    obtain ⟨v, z, v1, z1, q1, p1, s1, s2, ev, w1, w2, w3, w4, -⟩ := r.wn h2 h1 hw
    obtain ⟨τ, a1, ⟨S, L, T⟩, a3, -⟩ := tc_w r H h2 h1 hw
    have hlt := fun i => tj_lt r h2 h1 hw (K := K) i
    have st : ∀ f, f ≤ 60 → f_X0_isStillBy 20000 (320 + 6 * w) (Int32.ofNat f) τ = some (bi_ (sy_ (tj_ K (sg_I ρ) w) (wp0 (sg_I ρ) w) f 6)) := fun f hf => st_v T hf
    have C2 : ∀ (j k m c : Nat), k + j = 61 → j < m → c ≤ k → f_X11_stands_L22 20000 0 m i (some (320 + 6 * w)) (Int32.ofNat c) (Int32.ofNat k) τ = some (sr_ (fun f => sy_ (tj_ K (sg_I ρ) w) (wp0 (sg_I ρ) w) f 6) Int32.ofNat i j k c, τ) := by
      intro j
      induction j with
      | zero =>
        intro k m c hk hm hc
        obtain ⟨m, rfl⟩ : ∃ x, m = x + 1 := ⟨m - 1, by omega⟩
        rw [f_X11_stands_L22, if_pos (by rw [l_60, o_lt (by omega) (by omega)]; omega), sr_]
        split <;> rfl
      | succ j ih =>
        intro k m c hk hm hc
        obtain ⟨m, rfl⟩ : ∃ x, m = x + 1 := ⟨m - 1, by omega⟩
        rw [f_X11_stands_L22, if_neg (by rw [l_60, o_lt (by omega) (by omega)]; omega), sr_]
        simp only [Option.bind_some]
        rw [st k (by omega)]
        simp only [Option.bind_some, f_X11_stands_B50, o_s]
        cases hb : sy_ (tj_ K (sg_I ρ) w) (wp0 (sg_I ρ) w) k 6 with
        | false =>
          rw [if_pos bi_f, if_neg (by decide)]
          exact ih (k + 1) m c (by omega) (by omega) (by omega)
        | true =>
          rw [if_neg (by decide), if_pos rfl]
          by_cases hi : Int32.ofNat c = i
          · rw [if_pos hi, if_pos hi]
          · rw [if_neg hi, if_neg hi]
            exact ih (k + 1) m (c + 1) (by omega) (by omega) (by omega)
    have v1' : f_X11_stands_L22 20000 0 20000 i (some (320 + 6 * w)) 0 1 τ = some (sr_ (fun f => sy_ (tj_ K (sg_I ρ) w) (wp0 (sg_I ρ) w) f 6) Int32.ofNat i 60 1 0, τ) := C2 60 1 20000 0 (by omega) (by omega) (by omega)
    have cl : f_X11_stands 20000 0 (Int32.ofNat w) i σ = some (sr_ (fun f => sy_ (tj_ K (sg_I ρ) w) (wp0 (sg_I ρ) w) f 6) Int32.ofNat i 60 1 0, τ) := by
      unfold f_X11_stands
      simp only [Option.bind_some, ↓reduceIte, gI_I, gI_R, gI_J, gR_I, gR_R, gR_J, gL_I, gL_R, gL_J, gN_I, gN_R, gN_J, gJ_I, gJ_R, Int32.reduceLT, e_1_0, Int32.reduceToNatClampNeg, Int32.reduceToInt, Int.reduceLE, Int.reduceLT, Int.reduceNeg, Int.reduceEq,  Nat.reduceLT, Nat.reduceLeDiff, Nat.reduceEqDiff, Nat.reduceAdd, Nat.reduceMul, false_or, or_false, true_and, and_true, false_and, and_false, not_false_eq_true, not_true_eq_false, or_self, and_self, true_or, or_true, iw, a1, v1']
    by_cases hi : i < -1
    · refine ⟨_, (-1, ρ), cl, by unfold f_X12_stands; simp only [Option.bind_some, ↓reduceIte, gI_I, gI_R, gI_J, gR_I, gR_R, gR_J, gL_I, gL_R, gL_J, gN_I, gN_R, gN_J, gJ_I, gJ_R, Int32.reduceLT, e_1_0, Int32.reduceToNatClampNeg, Int32.reduceToInt, Int.reduceLE, Int.reduceLT, Int.reduceNeg, Int.reduceEq,  Nat.reduceLT, Nat.reduceLeDiff, Nat.reduceEqDiff, Nat.reduceAdd, Nat.reduceMul, false_or, or_false, true_and, and_true, false_and, and_false, not_false_eq_true, not_true_eq_false, or_self, and_self, true_or, or_true, jw, hi], ?_, a3, KR.rf⟩
      exact sr_n (by rw [i_lt] at hi; omega) _ _ _ (by omega)
    · obtain ⟨υ, b1, b2, b3⟩ := lt_w r H h2 h1 hw KS.rf
      have d' : RF (sg_R υ) (sg_L υ) := by rw [b2.1.2.1, b2.1.2.2.1]; exact d
      have sb := fun f hf => sb_v d' (g := tj_ K (sg_I ρ) w) (fun k => Nat.lt_of_lt_of_le (hlt k) s2) b3 (f := f) hf
      have R2 : ∀ (j k m c : Nat), k + j = 61 → j < m → c ≤ k → f_X12_stands_L25 20000 344 m i (Int32.ofNat c) (Int32.ofNat k) υ = some (sr_ (fun f => sy_ (tj_ K (sg_I ρ) w) (wp0 (sg_I ρ) w) f 6) Int32.ofNat i j k c, υ) := by
        intro j
        induction j with
        | zero =>
          intro k m c hk hm hc
          obtain ⟨m, rfl⟩ : ∃ x, m = x + 1 := ⟨m - 1, by omega⟩
          rw [f_X12_stands_L25, if_pos (by rw [l_60, o_lt (by omega) (by omega)]; omega), sr_]
          split <;> rfl
        | succ j ih =>
          intro k m c hk hm hc
          obtain ⟨m, rfl⟩ : ∃ x, m = x + 1 := ⟨m - 1, by omega⟩
          have sbk : f_X12_standsBy 20000 344 (Int32.ofNat k) υ = some (bi_ (sy_ (tj_ K (sg_I ρ) w) (wp0 (sg_I ρ) w) k 6)) := sb k (by omega)
          rw [f_X12_stands_L25, if_neg (by rw [l_60, o_lt (by omega) (by omega)]; omega), sr_, sbk]
          simp only [Option.bind_some, f_X12_stands_B52, o_s]
          cases hb : sy_ (tj_ K (sg_I ρ) w) (wp0 (sg_I ρ) w) k 6 with
          | false =>
            rw [if_pos bi_f, if_neg (by decide)]
            exact ih (k + 1) m c (by omega) (by omega) (by omega)
          | true =>
            rw [if_neg (by decide), if_pos rfl]
            by_cases hi : Int32.ofNat c = i
            · rw [if_pos hi, if_pos hi]
            · rw [if_neg hi, if_neg hi]
              exact ih (k + 1) m (c + 1) (by omega) (by omega) (by omega)
      have v2' : f_X12_stands_L25 20000 344 20000 i 0 1 υ = some (sr_ (fun f => sy_ (tj_ K (sg_I ρ) w) (wp0 (sg_I ρ) w) f 6) Int32.ofNat i 60 1 0, υ) := R2 60 1 20000 0 (by omega) (by omega) (by omega)
      refine ⟨(_, τ), (_, υ), cl, ?_, rfl, a3, b2.ks.kr⟩
      unfold f_X12_stands
      simp only [Option.bind_some, ↓reduceIte, gI_I, gI_R, gI_J, gR_I, gR_R, gR_J, gL_I, gL_R, gL_J, gN_I, gN_R, gN_J, gJ_I, gJ_R, Int32.reduceLT, e_1_0, Int32.reduceToNatClampNeg, Int32.reduceToInt, Int.reduceLE, Int.reduceLT, Int.reduceNeg, Int.reduceEq,  Nat.reduceLT, Nat.reduceLeDiff, Nat.reduceEqDiff, Nat.reduceAdd, Nat.reduceMul, false_or, or_false, true_and, and_true, false_and, and_false, not_false_eq_true, not_true_eq_false, or_self, and_self, true_or, or_true, jw, hi, b1, v2']
  · rw [if_neg g] at iw jw
    exact ⟨(-1, σ), (-1, ρ), by unfold f_X11_stands; simp only [Option.bind_some, ↓reduceIte, gI_I, gI_R, gI_J, gR_I, gR_R, gR_J, gL_I, gL_R, gL_J, gN_I, gN_R, gN_J, gJ_I, gJ_R, Int32.reduceLT, e_1_0, Int32.reduceToNatClampNeg, Int32.reduceToInt, Int.reduceLE, Int.reduceLT, Int.reduceNeg, Int.reduceEq,  Nat.reduceLT, Nat.reduceLeDiff, Nat.reduceEqDiff, Nat.reduceAdd, Nat.reduceMul, false_or, or_false, true_and, and_true, false_and, and_false, not_false_eq_true, not_true_eq_false, or_self, and_self, true_or, or_true, iw], by unfold f_X12_stands; simp only [Option.bind_some, ↓reduceIte, gI_I, gI_R, gI_J, gR_I, gR_R, gR_J, gL_I, gL_R, gL_J, gN_I, gN_R, gN_J, gJ_I, gJ_R, Int32.reduceLT, e_1_0, Int32.reduceToNatClampNeg, Int32.reduceToInt, Int.reduceLE, Int.reduceLT, Int.reduceNeg, Int.reduceEq,  Nat.reduceLT, Nat.reduceLeDiff, Nat.reduceEqDiff, Nat.reduceAdd, Nat.reduceMul, false_or, or_false, true_and, and_true, false_and, and_false, not_false_eq_true, not_true_eq_false, or_self, and_self, true_or, or_true, jw], rfl, KC.rf, KR.rf⟩
/-! together -/
theorem p2_together : so_together p2_I 20000 := by
  refine Sm.so (A := f_X11_together 20000 0) (B := f_X12_together 20000 344) (Sm.of ?_)
  intro σ ρ r
  obtain ⟨n, h1, h2, h3, h4, h5⟩ := r.nw
  have c := r.cf
  have d := r.rf
  have il := il_v c h1 h3
  by_cases g : 0 < n
  · rw [if_pos g] at il
    have n0 : ¬ sg_I ρ 344 20 = 0 := by rw [h2, l_0, o_eq (by omega) (by omega)]; omega
    obtain ⟨law, K, H⟩ := r.ho
    obtain ⟨τ, a1, a3, TT⟩ := ta_w r H h2 h1
    have st : ∀ w f, w < n → f ≤ 60 → f_X0_isStillBy 20000 (320 + 6 * w) (Int32.ofNat f) τ = some (bi_ (sy_ (tj_ K (sg_I ρ) w) (wp0 (sg_I ρ) w) f 6)) := fun w f hw hf => by
      obtain ⟨S, L, T⟩ := TT w hw
      exact st_v T hf
    have r' : Rel τ ρ := a3.rel r
    have c' := r'.cf
    have q1 : sg_I τ 17 1 = Int32.ofNat n := by rw [a3.i (by omega)]; exact h3
    have e319 : ∀ w, w < 4 → sg_R τ 319 w = some (320 + 6 * w) := fun w hw => (r'.1.1.2.2.2.2.2 w hw).1
    have CI : ∀ (f m0 : Nat), f ≤ 60 → ∀ (j k m : Nat), k + j = n → j < m → f_X11_together_L25 20000 0 (f_X11_together_L15 20000 0 m0) m (Int32.ofNat f) (bi_ (cj_ (fun w => sy_ (tj_ K (sg_I ρ) w) (wp0 (sg_I ρ) w) f 6) k)) (Int32.ofNat k) τ = if cj_ (fun w => sy_ (tj_ K (sg_I ρ) w) (wp0 (sg_I ρ) w) f 6) n = true then some (Int32.ofNat f, τ) else f_X11_together_L15 20000 0 m0 (Int32.ofNat (f + 1)) τ := by
      intro f m0 hf
      have B : ∀ b, f_X11_together_B57 20000 0 (f_X11_together_L15 20000 0 m0) (Int32.ofNat f) (bi_ b) τ = if b = true then some (Int32.ofNat f, τ) else f_X11_together_L15 20000 0 m0 (Int32.ofNat (f + 1)) τ := by
        intro b
        unfold f_X11_together_B57
        rw [o_s]
        cases b <;> rfl
      intro j
      induction j with
      | zero =>
        intro k m hk hm
        obtain ⟨m, rfl⟩ : ∃ x, m = x + 1 := ⟨m - 1, by omega⟩
        have hk : k = n := by omega
        subst hk
        rw [f_X11_together_L25]
        simp only [c', Option.bind_some, q1]
        rw [if_neg (by rw [o_lt (by omega) (by omega)]; omega)]
        exact B _
      | succ j ih =>
        intro k m hk hm
        obtain ⟨m, rfl⟩ : ∃ x, m = x + 1 := ⟨m - 1, by omega⟩
        have ih1 := ih (k + 1) m (by omega) (by omega)
        rw [f_X11_together_L25]
        simp only [c', Option.bind_some, q1]
        rw [if_pos (by rw [o_lt (by omega) (by omega)]; omega)]
        cases hb : cj_ (fun w => sy_ (tj_ K (sg_I ρ) w) (wp0 (sg_I ρ) w) f 6) k with
        | false =>
          rw [if_pos bi_f, cj_g hb (show k ≤ n by omega)]
          exact B false
        | true =>
          rw [cj_s hb] at ih1
          rw [if_neg (by decide), if_neg (o_in (by omega) (by omega)), o_tn (by omega), e319 k (by omega)]
          simp only [Option.bind_some]
          rw [st k f (by omega) hf]
          simp only [Option.bind_some]
          rw [o_s]
          exact ih1
    have CO2 : ∀ (j f m : Nat), f + j = 61 → j < m → f_X11_together_L15 20000 0 m (Int32.ofNat f) τ = some (ff_ (fun f => cj_ (fun w => sy_ (tj_ K (sg_I ρ) w) (wp0 (sg_I ρ) w) f 6) n) j f, τ) := by
      intro j
      induction j with
      | zero =>
        intro f m hf hm
        obtain ⟨m, rfl⟩ : ∃ x, m = x + 1 := ⟨m - 1, by omega⟩
        rw [f_X11_together_L15, if_pos (by rw [l_60, o_lt (by omega) (by omega)]; omega)]
        rfl
      | succ j ih =>
        intro f m hf hm
        obtain ⟨m, rfl⟩ : ∃ x, m = x + 1 := ⟨m - 1, by omega⟩
        have ci := CI f m (by omega) n 0 20000 (by omega) (by omega)
        rw [f_X11_together_L15, if_neg (by rw [l_60, o_lt (by omega) (by omega)]; omega)]
        refine ci.trans ?_
        rw [ff_]
        by_cases q : cj_ (fun w => sy_ (tj_ K (sg_I ρ) w) (wp0 (sg_I ρ) w) f 6) n = true
        · rw [if_pos q, if_pos q]
        · rw [if_neg q, if_neg q]
          exact ih (f + 1) m (by omega) (by omega)
    have v1 : f_X11_together_L15 20000 0 20000 1 τ = some (ff_ (fun f => cj_ (fun w => sy_ (tj_ K (sg_I ρ) w) (wp0 (sg_I ρ) w) f 6) n) 60 1, τ) := CO2 60 1 20000 (by omega) (by omega)

    have D : ∀ {υ : Sg}, KS ρ υ → RF (sg_R υ) (sg_L υ) ∧ sg_I υ 344 20 = Int32.ofNat n := fun k => ⟨by rw [k.1.2.1, k.1.2.2.1]; exact d, by rw [k.h.1]; exact h2⟩
    have RE : ∀ (υ : Sg), KS ρ υ → (∀ f, 1 ≤ f → f ≤ 60 → sg_I υ 363 f = Int32.ofNat (ct_ (fun w => sy_ (tj_ K (sg_I ρ) w) (wp0 (sg_I ρ) w) f 6) n)) → ∀ (f m : Nat), f ≤ 60 → f < m → f_X12_together_L92 20000 344 m (ff_ (fun f => cj_ (fun w => sy_ (tj_ K (sg_I ρ) w) (wp0 (sg_I ρ) w) f 6) n) (60 - f) (f + 1)) (Int32.ofNat f) υ = some (ff_ (fun f => cj_ (fun w => sy_ (tj_ K (sg_I ρ) w) (wp0 (sg_I ρ) w) f 6) n) 60 1, υ) := by
      intro υ ks hs f
      obtain ⟨d', e20⟩ := D ks
      induction f with
      | zero =>
        intro m hf hm
        obtain ⟨m, rfl⟩ : ∃ x, m = x + 1 := ⟨m - 1, by omega⟩
        rw [f_X12_together_L92, if_pos (by decide)]
      | succ f ih =>
        intro m hf hm
        obtain ⟨m, rfl⟩ : ∃ x, m = x + 1 := ⟨m - 1, by omega⟩
        have ih1 := ih m (by omega) (by omega)
        have hc := ct_le (Q := fun w => sy_ (tj_ K (sg_I ρ) w) (wp0 (sg_I ρ) w) (f + 1) 6) n
        have hn := ct_n (Q := fun w => sy_ (tj_ K (sg_I ρ) w) (wp0 (sg_I ρ) w) (f + 1) 6) n
        rw [show 60 - f = (60 - (f + 1)) + 1 by omega, ff_] at ih1
        rw [f_X12_together_L92, if_neg (by rw [l_1, o_lt (by omega) (by omega)]; omega)]
        simp only [d', Option.bind_some]
        rw [if_neg (o_in (by omega) (by omega)), o_tn (by omega), hs (f + 1) (by omega) (by omega), e20]
        unfold f_X12_together_B115
        rw [o_m1]
        by_cases q : cj_ (fun w => sy_ (tj_ K (sg_I ρ) w) (wp0 (sg_I ρ) w) (f + 1) 6) n = true
        · rw [if_pos q] at ih1
          rw [if_pos (by rw [hn.mpr q])]
          exact ih1
        · rw [if_neg q] at ih1
          rw [if_neg (by rw [o_eq (by omega) (by omega)]; exact fun e => q (hn.mp e))]
          exact ih1
    have RI : ∀ (w m0 : Nat), w < n → ∀ (j f m : Nat) (υ : Sg), f + j = 61 → 1 ≤ f → j < m → KS ρ υ → (∀ k, k ≤ 360 → sg_I υ 362 k = Int32.ofNat (tj_ K (sg_I ρ) w k)) → (∀ k, 1 ≤ k → k ≤ 60 → sg_I υ 363 k = Int32.ofNat (ct_ (fun w => sy_ (tj_ K (sg_I ρ) w) (wp0 (sg_I ρ) w) k 6) (if k < f then w + 1 else w))) → ∃ φ, f_X12_together_L47 20000 344 (f_X12_together_L32 20000 344 m0) m (Int32.ofNat w) (Int32.ofNat f) υ = f_X12_together_L32 20000 344 m0 (Int32.ofNat (w + 1)) φ ∧ KS ρ φ ∧ ∀ k, 1 ≤ k → k ≤ 60 → sg_I φ 363 k = Int32.ofNat (ct_ (fun w => sy_ (tj_ K (sg_I ρ) w) (wp0 (sg_I ρ) w) k 6) (w + 1)) := by
      intro w m0 hw j
      obtain ⟨-, -, -, -, -, -, -, s2, -⟩ := r.wn h2 h1 hw
      have hlt := fun i => tj_lt r h2 h1 hw (K := K) i
      induction j with
      | zero =>
        intro f m υ hf f1 hm ks ht hs
        obtain ⟨m, rfl⟩ : ∃ x, m = x + 1 := ⟨m - 1, by omega⟩
        refine ⟨υ, ?_, ks, fun k k1 k2 => ?_⟩
        · rw [f_X12_together_L47, if_pos (by rw [l_60, o_lt (by omega) (by omega)]; omega), o_s]
        · have := hs k k1 k2
          rw [if_pos (by omega)] at this
          exact this
      | succ j ih =>
        intro f m υ hf f1 hm ks ht hs
        obtain ⟨m, rfl⟩ : ∃ x, m = x + 1 := ⟨m - 1, by omega⟩
        obtain ⟨d', e20⟩ := D ks
        have sb : f_X12_standsBy 20000 344 (Int32.ofNat f) υ = some (bi_ (sy_ (tj_ K (sg_I ρ) w) (wp0 (sg_I ρ) w) f 6)) := sb_v d' (g := tj_ K (sg_I ρ) w) (fun k => Nat.lt_of_lt_of_le (hlt k) s2) ht (show f ≤ 60 by omega)
        have hsf := hs f f1 (by omega)
        rw [if_neg (by omega)] at hsf
        have key : ∀ (x : Nat), x = ct_ (fun w => sy_ (tj_ K (sg_I ρ) w) (wp0 (sg_I ρ) w) f 6) (w + 1) → ∃ φ, f_X12_together_L47 20000 344 (f_X12_together_L32 20000 344 m0) m (Int32.ofNat w) (Int32.ofNat (f + 1)) (put_I υ 363 f (Int32.ofNat x)) = f_X12_together_L32 20000 344 m0 (Int32.ofNat (w + 1)) φ ∧ KS ρ φ ∧ ∀ k, 1 ≤ k → k ≤ 60 → sg_I φ 363 k = Int32.ofNat (ct_ (fun w => sy_ (tj_ K (sg_I ρ) w) (wp0 (sg_I ρ) w) k 6) (w + 1)) := by
          intro x hx
          refine ih (f + 1) m _ (by omega) (by omega) (by omega) (ks.tr (KS.put (by omega))) (fun k hk => by rw [gI_a (by decide)]; exact ht k hk) (fun k k1 k2 => ?_)
          by_cases q : k = f
          · subst q
            rw [gI_e, if_pos (by omega), hx]
          · rw [gI_n (by omega), hs k k1 k2]
            by_cases q2 : k < f
            · rw [if_pos q2, if_pos (by omega)]
            · rw [if_neg q2, if_neg (by omega)]
        rw [f_X12_together_L47, if_neg (by rw [l_60, o_lt (by omega) (by omega)]; omega), sb]
        simp only [d', Option.bind_some]
        rw [if_neg (o_in (by omega) (by omega)), o_tn (by omega), hsf]
        unfold f_X12_together_B73
        simp only [Option.bind_some, d', o_tn (show f < 2147483648 by omega)]
        have nf : ¬ (Int32.ofNat f < 0 ∨ 61 ≤ f) := by
          have := o_in (k := f) (L := 61) (by omega) (by omega)
          rw [o_tn (by omega)] at this
          exact this
        cases hb : sy_ (tj_ K (sg_I ρ) w) (wp0 (sg_I ρ) w) f 6 with
        | false =>
          rw [if_pos bi_f, if_neg nf, o_s, l_0, o_add]
          refine key _ ?_
          show _ = ct_ (fun w => sy_ (tj_ K (sg_I ρ) w) (wp0 (sg_I ρ) w) f 6) w + (if sy_ (tj_ K (sg_I ρ) w) (wp0 (sg_I ρ) w) f 6 = true then 1 else 0)
          rw [hb]
          rfl
        | true =>
          rw [if_neg (by decide), if_neg nf, o_s, o_s]
          refine key _ ?_
          show _ = ct_ (fun w => sy_ (tj_ K (sg_I ρ) w) (wp0 (sg_I ρ) w) f 6) w + (if sy_ (tj_ K (sg_I ρ) w) (wp0 (sg_I ρ) w) f 6 = true then 1 else 0)
          rw [hb]
          rfl
    have RO : ∀ (j w m : Nat) (υ : Sg), w + j = n → j < m → KS ρ υ → (∀ k, 1 ≤ k → k ≤ 60 → sg_I υ 363 k = Int32.ofNat (ct_ (fun w => sy_ (tj_ K (sg_I ρ) w) (wp0 (sg_I ρ) w) k 6) w)) → ∃ φ, f_X12_together_L32 20000 344 m (Int32.ofNat w) υ = some (ff_ (fun f => cj_ (fun w => sy_ (tj_ K (sg_I ρ) w) (wp0 (sg_I ρ) w) f 6) n) 60 1, φ) ∧ KS ρ φ := by
      intro j
      induction j with
      | zero =>
        intro w m υ hw hm ks hs
        obtain ⟨m, rfl⟩ : ∃ x, m = x + 1 := ⟨m - 1, by omega⟩
        have hw : w = n := by omega
        subst hw
        obtain ⟨d', e20⟩ := D ks
        refine ⟨υ, ?_, ks⟩
        rw [f_X12_together_L32, e20, if_neg (by rw [o_lt (by omega) (by omega)]; omega)]
        exact RE υ ks hs 60 20000 (by omega) (by omega)
      | succ j ih =>
        intro w m υ hw hm ks hs
        obtain ⟨m, rfl⟩ : ∃ x, m = x + 1 := ⟨m - 1, by omega⟩
        obtain ⟨d', e20⟩ := D ks
        obtain ⟨φ, b1, b2, b3⟩ := lt_w r H h2 h1 (show w < n by omega) ks
        obtain ⟨ψ, c1, c2, c3⟩ := RI w m (by omega) 60 1 20000 φ (by omega) (by omega) (by omega) (ks.tr b2.ks) b3 (fun k k1 k2 => by
          rw [b2.2 363 (by decide) (by decide) (by decide), if_neg (by omega)]
          exact hs k k1 k2)
        obtain ⟨χ, x1, x2⟩ := ih (w + 1) m ψ (by omega) (by omega) c2 c3
        refine ⟨χ, ?_, x2⟩
        rw [f_X12_together_L32, e20, if_pos (by rw [o_lt (by omega) (by omega)]; omega), b1]
        simp only [Option.bind_some]
        exact c1.trans x1
    have RZ : ∀ (j f m : Nat) (υ : Sg), f + j = 61 → 1 ≤ f → j < m → KS ρ υ → (∀ k, 1 ≤ k → k < f → sg_I υ 363 k = 0) → ∃ φ, f_X12_together_L11 20000 344 m (Int32.ofNat f) υ = some (ff_ (fun f => cj_ (fun w => sy_ (tj_ K (sg_I ρ) w) (wp0 (sg_I ρ) w) f 6) n) 60 1, φ) ∧ KS ρ φ := by
      intro j
      induction j with
      | zero =>
        intro f m υ hf f1 hm ks hs
        obtain ⟨m, rfl⟩ : ∃ x, m = x + 1 := ⟨m - 1, by omega⟩
        obtain ⟨φ, x1, x2⟩ := RO n 0 20000 υ (by omega) (by omega) ks (fun k k1 k2 => hs k k1 (by omega))
        refine ⟨φ, ?_, x2⟩
        rw [f_X12_together_L11, if_pos (by rw [l_60, o_lt (by omega) (by omega)]; omega)]
        exact x1
      | succ j ih =>
        intro f m υ hf f1 hm ks hs
        obtain ⟨m, rfl⟩ : ∃ x, m = x + 1 := ⟨m - 1, by omega⟩
        obtain ⟨d', e20⟩ := D ks
        obtain ⟨φ, x1, x2⟩ := ih (f + 1) m (put_I υ 363 f 0) (by omega) (by omega) (by omega) (ks.tr (KS.put (by omega))) (fun k k1 k2 => by
          by_cases q : k = f
          · subst q; exact gI_e
          · rw [gI_n (by omega)]; exact hs k k1 (by omega))
        refine ⟨φ, ?_, x2⟩
        rw [f_X12_together_L11, if_neg (by rw [l_60, o_lt (by omega) (by omega)]; omega)]
        simp only [d', Option.bind_some]
        rw [if_neg (o_in (by omega) (by omega)), o_tn (by omega), o_s]
        exact x1
    obtain ⟨φ, x1, x2⟩ := RZ 60 1 20000 ρ (by omega) (by omega) (by omega) KS.rf (fun k k1 k2 => by omega)
    have x1' : f_X12_together_L11 20000 344 20000 1 ρ = some (ff_ (fun f => cj_ (fun w => sy_ (tj_ K (sg_I ρ) w) (wp0 (sg_I ρ) w) f 6) n) 60 1, φ) := x1
    have C0 : f_X11_together 20000 0 σ = some (ff_ (fun f => cj_ (fun w => sy_ (tj_ K (sg_I ρ) w) (wp0 (sg_I ρ) w) f 6) n) 60 1, τ) := by
      unfold f_X11_together
      simp only [Option.bind_some, ↓reduceIte, gI_I, gI_R, gI_J, gR_I, gR_R, gR_J, gL_I, gL_R, gL_J, gN_I, gN_R, gN_J, gJ_I, gJ_R, Int32.reduceLT, e_1_0, Int32.reduceToNatClampNeg, Int32.reduceToInt, Int.reduceLE, Int.reduceLT, Int.reduceNeg, Int.reduceEq,  Nat.reduceLT, Nat.reduceLeDiff, Nat.reduceEqDiff, Nat.reduceAdd, Nat.reduceMul, false_or, or_false, true_and, and_true, false_and, and_false, not_false_eq_true, not_true_eq_false, or_self, and_self, true_or, or_true, il, a1, v1]
    have R0 : f_X12_together 20000 344 ρ = some (ff_ (fun f => cj_ (fun w => sy_ (tj_ K (sg_I ρ) w) (wp0 (sg_I ρ) w) f 6) n) 60 1, φ) := by
      unfold f_X12_together
      simp only [Option.bind_some, ↓reduceIte, gI_I, gI_R, gI_J, gR_I, gR_R, gR_J, gL_I, gL_R, gL_J, gN_I, gN_R, gN_J, gJ_I, gJ_R, Int32.reduceLT, e_1_0, Int32.reduceToNatClampNeg, Int32.reduceToInt, Int.reduceLE, Int.reduceLT, Int.reduceNeg, Int.reduceEq,  Nat.reduceLT, Nat.reduceLeDiff, Nat.reduceEqDiff, Nat.reduceAdd, Nat.reduceMul, false_or, or_false, true_and, and_true, false_and, and_false, not_false_eq_true, not_true_eq_false, or_self, and_self, true_or, or_true, n0, x1']
    exact ⟨_, _, C0, R0, rfl, a3, x2.kr⟩
  · rw [if_neg g] at il
    have n0 : sg_I ρ 344 20 = 0 := by rw [h2, l_0, o_eq (by omega) (by omega)]; omega
    exact ⟨(-1, σ), (-1, ρ), by unfold f_X11_together; simp only [Option.bind_some, ↓reduceIte, gI_I, gI_R, gI_J, gR_I, gR_R, gR_J, gL_I, gL_R, gL_J, gN_I, gN_R, gN_J, gJ_I, gJ_R, Int32.reduceLT, e_1_0, Int32.reduceToNatClampNeg, Int32.reduceToInt, Int.reduceLE, Int.reduceLT, Int.reduceNeg, Int.reduceEq,  Nat.reduceLT, Nat.reduceLeDiff, Nat.reduceEqDiff, Nat.reduceAdd, Nat.reduceMul, false_or, or_false, true_and, and_true, false_and, and_false, not_false_eq_true, not_true_eq_false, or_self, and_self, true_or, or_true, il], by unfold f_X12_together; simp only [Option.bind_some, ↓reduceIte, gI_I, gI_R, gI_J, gR_I, gR_R, gR_J, gL_I, gL_R, gL_J, gN_I, gN_R, gN_J, gJ_I, gJ_R, Int32.reduceLT, e_1_0, Int32.reduceToNatClampNeg, Int32.reduceToInt, Int.reduceLE, Int.reduceLT, Int.reduceNeg, Int.reduceEq,  Nat.reduceLT, Nat.reduceLeDiff, Nat.reduceEqDiff, Nat.reduceAdd, Nat.reduceMul, false_or, or_false, true_and, and_true, false_and, and_false, not_false_eq_true, not_true_eq_false, or_self, and_self, true_or, or_true, n0], rfl, KC.rf, KR.rf⟩
