/-! ===== the log ===== -/
theorem pu_s {σ : Sg} {a j : Nat} {v : Int32} (h : sg_I σ a j = v) : put_I σ a j v = σ := by
  have e : up_2 σ.2.2.2.1 a j v = σ.2.2.2.1 := by
    funext x y
    unfold up_2
    by_cases q : x = a ∧ y = j
    · rw [if_pos q, q.1, q.2]
      exact h.symm
    · rw [if_neg q]
  show (σ.1, σ.2.1, σ.2.2.1, up_2 σ.2.2.2.1 a j v, σ.2.2.2.2.1, σ.2.2.2.2.2) = σ
  rw [e]
/-- what wheel w shows (a bare place: blank) -/
def sh_ (ρ : Sg) (n w : Nat) : Int32 := if w < n then hP (sg_I ρ) (sg_I ρ 359 (4 * w + 3)).toNatClampNeg (sg_I ρ 359 (4 * w + 2)).toNatClampNeg else 26
theorem sh_b {σ ρ : Sg} (r : Rel σ ρ) {n : Nat} (hn : n ≤ 4) (e : sg_I ρ 344 20 = Int32.ofNat n) (w : Nat) : 0 ≤ (sh_ ρ n w).toInt ∧ (sh_ ρ n w).toInt ≤ 26 := by
  unfold sh_
  by_cases hw : w < n
  · rw [if_pos hw]
    obtain ⟨v, z, p, q, v1, z1, q1, p1, p2, w1, w2, w3, w4, w5, w6, w7, w8⟩ := r.wh e hn hw
    obtain ⟨b, d, ⟨-, -, s1, s2, s3⟩, -, -⟩ := r.sp q
    rw [w3, w4, o_tn (by omega), o_tn (by omega)]
    exact (s3 p p1).2
  · rw [if_neg hw]
    decide
theorem sh_c {σ ρ : Sg} (r : Rel σ ρ) {n w : Nat} (hn : n ≤ 4) (e : sg_I ρ 344 20 = Int32.ofNat n) (hw : w < n) : f_X11_shown 0 (some (20 + w)) σ = some (sh_ ρ n w) := by
  obtain ⟨v, z, p, q, v1, z1, q1, p1, p2, w1, w2, w3, w4, w5, w6, w7, w8⟩ := r.wh e hn hw
  unfold sh_
  rw [if_pos hw, w3, w4, o_tn (by omega), o_tn (by omega)]
  exact sh_v r (by omega) w8 w7 p1
theorem sh_r {σ ρ : Sg} (r : Rel σ ρ) {n w : Nat} (hn : n ≤ 4) (e : sg_I ρ 344 20 = Int32.ofNat n) (hw : w < n) {ρ' : Sg} (d' : RF (sg_R ρ') (sg_L ρ')) (a1 : sg_I ρ' 344 23 = sg_I ρ 344 23) (a2 : sg_I ρ' 357 = sg_I ρ 357) (a3 : ∀ j, j < 16 → sg_I ρ' 359 j = sg_I ρ 359 j) : f_X12_showsOf 344 (Int32.ofNat w) ρ' = some (sh_ ρ n w) := by
  obtain ⟨v, z, p, q, v1, z1, q1, p1, p2, w1, w2, w3, w4, w5, w6, w7, w8⟩ := r.wh e hn hw
  obtain ⟨g1, g2, g3⟩ := r.hs
  unfold sh_ f_X12_showsOf f_X12_pictureAt hP
  rw [if_pos hw, w3, w4, o_tn (by omega), o_tn (by omega), of_3 d' (by omega), of_2 d' (by omega), a3 _ (by omega), a3 _ (by omega), w3, w4]
  simp only [Option.bind_some, a1, g3, o_lt (show q < 2147483648 by omega) (show hS (sg_I ρ) < 2147483648 by omega)]
  by_cases hk : q < hS (sg_I ρ)
  · rw [if_pos hk, if_pos hk]
    simp only [d', Option.bind_some]
    rw [l_16, o_mul, o_add, if_neg (o_in (by omega) (by omega)), o_tn (by omega), a2]
    rfl
  · rw [if_neg hk, if_neg hk]
    rfl
/-- a row of the class's log -/
def rw_ (s : Nat → Int32) : Nat → Int32
  | 0 => 0
  | k + 1 => rw_ s k ||| (s k <<< ((5 * Int32.ofNat k) &&& 31))
theorem bit_5 {x : Int32} (h : 0 ≤ x.toInt ∧ x.toInt ≤ 26) : ∀ i, 5 ≤ i → x.toBitVec.getLsbD i = false := by
  intro i hi
  obtain ⟨k, k1, rfl⟩ := x_ob (B := 26) h
  show (BitVec.ofNat 32 k).getLsbD i = false
  rw [BitVec.getLsbD_ofNat]
  have : Nat.testBit k i = false := Nat.testBit_lt_two_pow (Nat.lt_of_lt_of_le (by omega : k < 2 ^ 5) (Nat.pow_le_pow_right (by omega) hi))
  rw [this, Bool.and_false]
theorem rw_4 (s : Nat → Int32) : (rw_ s 4).toBitVec = ((((0#32 ||| (s 0).toBitVec <<< 0) ||| (s 1).toBitVec <<< 5) ||| (s 2).toBitVec <<< 10) ||| (s 3).toBitVec <<< 15) := rfl
theorem lgw_a {x : Int32} {w k : Nat} (hk : k ≤ 15) (e : ((5 * Int32.ofNat w) &&& 31).toBitVec.smod 32 = BitVec.ofNat 32 k) : (lg_w x w).toBitVec = (x.toBitVec >>> k) &&& 31#32 := by
  show (x.toBitVec.sshiftRight' (((5 * Int32.ofNat w) &&& 31).toBitVec.smod 32)) &&& 31#32 = _
  rw [e]
  have ek : (BitVec.ofNat 32 k).toNat = k := by
    rw [BitVec.toNat_ofNat]
    exact Nat.mod_eq_of_lt (by omega)
  apply BitVec.eq_of_getLsbD_eq
  intro i hi
  rw [BitVec.getLsbD_and, BitVec.getLsbD_and]
  by_cases h8 : i < 5
  · congr 1
    rw [BitVec.getLsbD_ushiftRight, BitVec.sshiftRight_eq', BitVec.getLsbD_sshiftRight, ek]
    rw [if_pos (by omega)]
    have : decide (32 ≤ i) = false := decide_eq_false (by omega)
    rw [this]
    rfl
  · have : (31#32).getLsbD i = false := by
      have hx : (31#32) = BitVec.ofNat 32 31 := rfl
      rw [hx, BitVec.getLsbD_ofNat]
      have : Nat.testBit 31 i = false := Nat.testBit_lt_two_pow (Nat.lt_of_lt_of_le (by decide : 31 < 2 ^ 5) (Nat.pow_le_pow_right (by omega) (by omega)))
      rw [this, Bool.and_false]
    rw [this, Bool.and_false, Bool.and_false]
theorem b31 : ∀ i, i < 5 → (31#32).getLsbD i = true := by decide
theorem b31' : ∀ i, 5 ≤ i → (31#32).getLsbD i = false := by
  intro i hi
  have hx : (31#32) = BitVec.ofNat 32 31 := rfl
  rw [hx, BitVec.getLsbD_ofNat]
  have : Nat.testBit 31 i = false := Nat.testBit_lt_two_pow (Nat.lt_of_lt_of_le (by decide : 31 < 2 ^ 5) (Nat.pow_le_pow_right (by omega) hi))
  rw [this, Bool.and_false]
theorem lgw_v {s : Nat → Int32} (hs : ∀ w, 0 ≤ (s w).toInt ∧ (s w).toInt ≤ 26) {w : Nat} (hw : w < 4) : lg_w (rw_ s 4) w = s w := by
  have key : ∀ k, k = 5 * w → (lg_w (rw_ s 4) w).toBitVec = ((rw_ s 4).toBitVec >>> k) &&& 31#32 := by
    intro k hk
    match w, hw with
    | 0, _ => subst hk; exact lgw_a (by omega) (by decide)
    | 1, _ => subst hk; exact lgw_a (by omega) (by decide)
    | 2, _ => subst hk; exact lgw_a (by omega) (by decide)
    | 3, _ => subst hk; exact lgw_a (by omega) (by decide)
  apply Int32.toBitVec_inj.mp
  rw [key _ rfl, rw_4]
  apply BitVec.eq_of_getLsbD_eq
  intro i hi
  rw [BitVec.getLsbD_and, BitVec.getLsbD_ushiftRight, BitVec.getLsbD_or, BitVec.getLsbD_or, BitVec.getLsbD_or, BitVec.getLsbD_or, BitVec.getLsbD_shiftLeft, BitVec.getLsbD_shiftLeft, BitVec.getLsbD_shiftLeft, BitVec.getLsbD_shiftLeft]
  have z : (0#32).getLsbD (5 * w + i) = false := BitVec.getLsbD_zero
  rw [z, Bool.false_or]
  by_cases h5 : i < 5
  · rw [b31 i h5, Bool.and_true]
    have lt : decide (5 * w + i < 32) = true := decide_eq_true (by omega)
    rw [lt]
    simp only [Bool.true_and]
    have t0 : decide (5 * w + i < 0) = false := decide_eq_false (by omega)
    rw [t0]
    have B : ∀ v j, 5 ≤ j → (s v).toBitVec.getLsbD j = false := fun v j hj => bit_5 (hs v) j hj
    match w, hw with
    | 0, _ =>
      rw [decide_eq_true (show 5 * 0 + i < 5 by omega), decide_eq_true (show 5 * 0 + i < 10 by omega), decide_eq_true (show 5 * 0 + i < 15 by omega)]
      simp
    | 1, _ =>
      rw [decide_eq_false (show ¬ 5 * 1 + i < 5 by omega), decide_eq_true (show 5 * 1 + i < 10 by omega), decide_eq_true (show 5 * 1 + i < 15 by omega), B 0 (5 * 1 + i - 0) (by omega), show 5 * 1 + i - 5 = i by omega]
      simp
    | 2, _ =>
      rw [decide_eq_false (show ¬ 5 * 2 + i < 5 by omega), decide_eq_false (show ¬ 5 * 2 + i < 10 by omega), decide_eq_true (show 5 * 2 + i < 15 by omega), B 0 (5 * 2 + i - 0) (by omega), B 1 (5 * 2 + i - 5) (by omega), show 5 * 2 + i - 10 = i by omega]
      simp
    | 3, _ =>
      rw [decide_eq_false (show ¬ 5 * 3 + i < 5 by omega), decide_eq_false (show ¬ 5 * 3 + i < 10 by omega), decide_eq_false (show ¬ 5 * 3 + i < 15 by omega), B 0 (5 * 3 + i - 0) (by omega), B 1 (5 * 3 + i - 5) (by omega), B 2 (5 * 3 + i - 10) (by omega), show 5 * 3 + i - 15 = i by omega]
      simp
  · rw [b31' i (by omega), Bool.and_false, bit_5 (hs w) i (by omega)]
def bi_ : Bool → Int32
  | true => 1
  | false => 0
theorem bi_f : bi_ false = 0 := rfl
theorem bi_t : ¬ bi_ true = 0 := by decide
/-- whether all show one, as the class goes on and as the reference does -/
def ca_ (n : Nat) (s : Nat → Int32) : Nat → Bool
  | 0 => decide (1 < n) && decide (s 0 ≠ 26)
  | k + 1 => ca_ n s k && decide (s (k + 1) = s 0)
def ra_ (n : Nat) (s : Nat → Int32) : Nat → Bool
  | 0 => decide (1 < n)
  | k + 1 => ra_ n s k && (decide (n ≤ k) || (decide (s k ≠ 26) && decide (s k = s 0)))
theorem ca_ra {n : Nat} {s : Nat → Int32} (h0 : 0 < n) (hn : n ≤ 4) : ca_ n s (n - 1) = ra_ n s 4 := by
  have q : n = 1 ∨ n = 2 ∨ n = 3 ∨ n = 4 := by omega
  by_cases e0 : s 0 = 26 <;> by_cases e1 : s 1 = s 0 <;> by_cases e2 : s 2 = s 0 <;> by_cases e3 : s 3 = s 0 <;> rcases q with rfl | rfl | rfl | rfl <;> simp [ca_, ra_, e0, e1, e2, e3]
theorem al_v {σ : Sg} {n : Nat} {s : Nat → Int32} (c : CF (sg_R σ) (sg_L σ)) (w18 : ∀ w, w < 4 → sg_R σ 18 w = some (20 + w)) (h0 : 0 < n) (hn : n ≤ 4) (e : sg_I σ 17 1 = Int32.ofNat n) (hs : ∀ w, w < n → f_X11_shown 0 (some (20 + w)) σ = some (s w)) : f_X11_allShowOne 20000 0 σ = some (bi_ (ca_ n s (n - 1))) := by
  have lp : ∀ (j k m : Nat), k + 1 + j = n → j < m → f_X11_allShowOne_L39 20000 0 m (s 0) (bi_ (ca_ n s k)) (Int32.ofNat (k + 1)) σ = some (bi_ (ca_ n s (n - 1))) := by
    intro j
    induction j with
    | zero =>
      intro k m hk hm
      obtain ⟨m, rfl⟩ : ∃ x, m = x + 1 := ⟨m - 1, by omega⟩
      rw [f_X11_allShowOne_L39]
      simp only [c, Option.bind_some, e]
      rw [if_neg (by rw [o_lt (by omega) (by omega)]; omega), show n - 1 = k by omega]
      cases ca_ n s k with
      | true => rfl
      | false => rfl
    | succ j ih =>
      intro k m hk hm
      obtain ⟨m, rfl⟩ : ∃ x, m = x + 1 := ⟨m - 1, by omega⟩
      have ih1 := ih (k + 1) m (by omega) (by omega)
      have I4 := iw_4 (show k + 1 < 4 by omega)
      rw [f_X11_allShowOne_L39]
      simp only [c, Option.bind_some, e]
      rw [if_pos (by rw [o_lt (by omega) (by omega)]; omega)]
      cases hb : ca_ n s k with
      | false =>
        have hc : ca_ n s (k + 1) = false := by simp [ca_, hb]
        rw [hc] at ih1
        rw [if_pos bi_f]
        unfold f_X11_allShowOne_B75 f_X11_allShowOne_B76
        rw [o_s]
        exact ih1
      | true =>
        rw [if_neg (by decide)]
        simp only [Option.bind_some, ↓reduceIte, gI_I, gI_R, gI_J, gR_I, gR_R, gR_J, gL_I, gL_R, gL_J, gN_I, gN_R, gN_J, gJ_I, gJ_R, Int32.reduceLT, e_1_0, Int32.reduceToNatClampNeg, Int32.reduceToInt, Int.reduceLE, Int.reduceLT, Int.reduceNeg, Int.reduceEq,  Nat.reduceLT, Nat.reduceLeDiff, Nat.reduceEqDiff, Nat.reduceAdd, Nat.reduceMul, false_or, or_false, true_and, and_true, false_and, and_false, not_false_eq_true, not_true_eq_false, or_self, and_self, true_or, or_true, I4, w18 (k + 1) (by omega), hs (k + 1) (by omega)]
        by_cases q : s (k + 1) = s 0
        · have hc : ca_ n s (k + 1) = true := by simp [ca_, hb, q]
          rw [hc] at ih1
          rw [if_pos q]
          unfold f_X11_allShowOne_B76
          rw [o_s]
          exact ih1
        · have hc : ca_ n s (k + 1) = false := by simp [ca_, hb, q]
          rw [hc] at ih1
          rw [if_neg q]
          unfold f_X11_allShowOne_B75 f_X11_allShowOne_B76
          rw [o_s]
          exact ih1
  have l0 := lp (n - 1) 0 20000 (by omega) (by omega)
  have l0' : f_X11_allShowOne_L39 20000 0 20000 (s 0) (bi_ (ca_ n s 0)) 1 σ = some (bi_ (ca_ n s (n - 1))) := l0
  have e20 := hs 0 h0
  have e20' : f_X11_shown 0 (some 20) σ = some (s 0) := e20
  unfold f_X11_allShowOne
  simp only [Option.bind_some, ↓reduceIte, gI_I, gI_R, gI_J, gR_I, gR_R, gR_J, gL_I, gL_R, gL_J, gN_I, gN_R, gN_J, gJ_I, gJ_R, Int32.reduceLT, e_1_0, Int32.reduceToNatClampNeg, Int32.reduceToInt, Int.reduceLE, Int.reduceLT, Int.reduceNeg, Int.reduceEq,  Nat.reduceLT, Nat.reduceLeDiff, Nat.reduceEqDiff, Nat.reduceAdd, Nat.reduceMul, false_or, or_false, true_and, and_true, false_and, and_false, not_false_eq_true, not_true_eq_false, or_self, and_self, true_or, or_true, c, e20', e]
  by_cases n1 : 1 < n
  · rw [if_pos (by rw [l_1, o_lt (by omega) (by omega)]; exact n1)]
    by_cases q : s 0 = 26
    · have hc : ca_ n s 0 = false := by simp [ca_, q]
      rw [hc] at l0'
      rw [if_pos q]
      exact l0'
    · have hc : ca_ n s 0 = true := by simp [ca_, q, n1]
      rw [hc] at l0'
      rw [if_neg q]
      exact l0'
  · have hc : ca_ n s 0 = false := by simp [ca_, n1]
    rw [hc] at l0'
    rw [if_neg (by rw [l_1, o_lt (by omega) (by omega)]; exact n1)]
    exact l0'
theorem lk_v {σ : Sg} {n : Nat} {s : Nat → Int32} (c : CF (sg_R σ) (sg_L σ)) (w18 : ∀ w, w < 4 → sg_R σ 18 w = some (20 + w)) (hn : n ≤ 4) (e : sg_I σ 17 1 = Int32.ofNat n) (hs : ∀ w, w < n → f_X11_shown 0 (some (20 + w)) σ = some (s w)) (hs2 : ∀ w, n ≤ w → s w = 26) : ∀ (j k m : Nat), k + j = 4 → j < m → ∃ m', f_X11_lookOnce_L4 20000 0 m (rw_ s k) (Int32.ofNat k) σ = f_X11_lookOnce_L4 20000 0 (m' + 1) (rw_ s 4) (Int32.ofNat 4) σ := by
  intro j
  induction j with
  | zero =>
    intro k m hk hm
    obtain ⟨m, rfl⟩ : ∃ x, m = x + 1 := ⟨m - 1, by omega⟩
    have hk : k = 4 := by omega
    subst hk
    exact ⟨m, rfl⟩
  | succ j ih =>
    intro k m hk hm
    obtain ⟨m, rfl⟩ : ∃ x, m = x + 1 := ⟨m - 1, by omega⟩
    obtain ⟨m', h⟩ := ih (k + 1) m (by omega) (by omega)
    have I4 := iw_4 (show k < 4 by omega)
    refine ⟨m', ?_⟩
    rw [← h, f_X11_lookOnce_L4, if_pos (by rw [l_4, o_lt (by omega) (by omega)]; omega)]
    simp only [c, Option.bind_some, e]
    by_cases q : k < n
    · rw [if_pos (by rw [o_lt (by omega) (by omega)]; exact q)]
      simp only [Option.bind_some, ↓reduceIte, gI_I, gI_R, gI_J, gR_I, gR_R, gR_J, gL_I, gL_R, gL_J, gN_I, gN_R, gN_J, gJ_I, gJ_R, Int32.reduceLT, e_1_0, Int32.reduceToNatClampNeg, Int32.reduceToInt, Int.reduceLE, Int.reduceLT, Int.reduceNeg, Int.reduceEq,  Nat.reduceLT, Nat.reduceLeDiff, Nat.reduceEqDiff, Nat.reduceAdd, Nat.reduceMul, false_or, or_false, true_and, and_true, false_and, and_false, not_false_eq_true, not_true_eq_false, or_self, and_self, true_or, or_true, I4, w18 k (by omega), hs k q]
      unfold f_X11_lookOnce_B38
      rw [o_s]
      rfl
    · rw [if_neg (by rw [o_lt (by omega) (by omega)]; exact q)]
      unfold f_X11_lookOnce_B38
      rw [o_s, ← hs2 k (by omega)]
      rfl
/-- the reference's new row -/
def nr_ (ρ : Sg) (m : Nat) (s : Nat → Int32) : Nat → Sg
  | 0 => ρ
  | k + 1 => put_I (nr_ ρ m s k) 359 (21 + 4 * m + k) (s k)
theorem nr_k {ρ : Sg} {m : Nat} {s : Nat → Int32} : ∀ k, kp_ ρ (nr_ ρ m s k)
  | 0 => kp_.rf
  | k + 1 => (nr_k k).tr kp_.put
theorem nr_I {ρ : Sg} {m : Nat} {s : Nat → Int32} : ∀ k b j, sg_I (nr_ ρ m s k) b j = if b = 359 ∧ 21 + 4 * m ≤ j ∧ j < 21 + 4 * m + k then s (j - (21 + 4 * m)) else sg_I ρ b j := by
  intro k
  induction k with
  | zero =>
    intro b j
    rw [if_neg (by omega)]
    rfl
  | succ k ih =>
    intro b j
    unfold nr_
    rw [gI_I]
    by_cases q : b = 359 ∧ j = 21 + 4 * m + k
    · rw [if_pos q, if_pos (by omega)]
      congr 1
      omega
    · rw [if_neg q, ih]
      by_cases q2 : b = 359 ∧ 21 + 4 * m ≤ j ∧ j < 21 + 4 * m + k
      · rw [if_pos q2, if_pos (by omega)]
      · rw [if_neg q2, if_neg (by omega)]
theorem nr_a {ρ : Sg} {m : Nat} {s : Nat → Int32} {k a : Nat} (h : a ≠ 359) : sg_I (nr_ ρ m s k) a = sg_I ρ a := by
  funext j
  rw [nr_I, if_neg (by omega)]
theorem pl_74 {σ ρ : Sg} (r : Rel σ ρ) {n m : Nat} (hm : m < 60) (hn : n ≤ 4) (h0 : 0 < n) (e : sg_I ρ 344 20 = Int32.ofNat n) {ρa : Sg} (ka : kp_ ρ ρa) (a1 : ∀ a, a ≠ 359 → sg_I ρa a = sg_I ρ a) (a3 : ∀ j, j < 16 → sg_I ρa 359 j = sg_I ρ 359 j) (a20 : sg_I ρa 359 20 = Int32.ofNat m) : ∀ (j k f : Nat), k + j = 4 → j < f → ∃ f', f_X12_putLog_L74 20000 344 f (bi_ (ra_ n (sh_ ρ n) k)) (Int32.ofNat k) (nr_ ρa m (sh_ ρ n) k) = f_X12_putLog_L74 20000 344 (f' + 1) (bi_ (ra_ n (sh_ ρ n) 4)) (Int32.ofNat 4) (nr_ ρa m (sh_ ρ n) 4) := by
  have d := r.rf
  intro j
  induction j with
  | zero =>
    intro k f hk hf
    obtain ⟨f, rfl⟩ : ∃ x, f = x + 1 := ⟨f - 1, by omega⟩
    have hk : k = 4 := by omega
    subst hk
    exact ⟨f, rfl⟩
  | succ j ih =>
    intro k f hk hf
    obtain ⟨f, rfl⟩ : ∃ x, f = x + 1 := ⟨f - 1, by omega⟩
    obtain ⟨f', h⟩ := ih (k + 1) f (by omega) (by omega)
    have kn := nr_k (ρ := ρa) (m := m) (s := sh_ ρ n) k
    have kn1 := nr_k (ρ := ρa) (m := m) (s := sh_ ρ n) (k + 1)
    have dk : RF (sg_R (nr_ ρa m (sh_ ρ n) k)) (sg_L (nr_ ρa m (sh_ ρ n) k)) := by rw [kn.2.1, kn.2.2.1, ka.2.1, ka.2.2.1]; exact d
    have dk1 : RF (sg_R (nr_ ρa m (sh_ ρ n) (k + 1))) (sg_L (nr_ ρa m (sh_ ρ n) (k + 1))) := by rw [kn1.2.1, kn1.2.2.1, ka.2.1, ka.2.2.1]; exact d
    have f20 : sg_I (nr_ ρa m (sh_ ρ n) k) 359 20 = Int32.ofNat m := by rw [nr_I, if_neg (by omega)]; exact a20
    have g20 : sg_I (nr_ ρa m (sh_ ρ n) k) 344 20 = Int32.ofNat n := by rw [nr_a (by decide), a1 344 (by decide)]; exact e
    have g21 : sg_I (nr_ ρa m (sh_ ρ n) (k + 1)) 344 20 = Int32.ofNat n := by rw [nr_a (by decide), a1 344 (by decide)]; exact e
    have sA : ∀ w, w < n → f_X12_showsOf 344 (Int32.ofNat w) (nr_ ρa m (sh_ ρ n) k) = some (sh_ ρ n w) := fun w hw => sh_r r hn e hw dk (by rw [nr_a (by decide), a1 344 (by decide)]) (by rw [nr_a (by decide), a1 357 (by decide)]) (fun j hj => by rw [nr_I, if_neg (by omega)]; exact a3 j hj)
    have sB : ∀ w, w < n → f_X12_showsOf 344 (Int32.ofNat w) (nr_ ρa m (sh_ ρ n) (k + 1)) = some (sh_ ρ n w) := fun w hw => sh_r r hn e hw dk1 (by rw [nr_a (by decide), a1 344 (by decide)]) (by rw [nr_a (by decide), a1 357 (by decide)]) (fun j hj => by rw [nr_I, if_neg (by omega)]; exact a3 j hj)
    have sB0 : f_X12_showsOf 344 0 (nr_ ρa m (sh_ ρ n) (k + 1)) = some (sh_ ρ n 0) := sB 0 h0
    have ix : ((21 : Int32) + 4 * Int32.ofNat m + Int32.ofNat k) = Int32.ofNat (21 + 4 * m + k) := by rw [l_21, l_4, o_mul, o_add, o_add]
    have ixn : ¬ Int32.ofNat (21 + 4 * m + k) < 0 := o_nn (by omega)
    have ixt : (Int32.ofNat (21 + 4 * m + k)).toNatClampNeg = 21 + 4 * m + k := o_tn (by omega)
    have ixl : ¬ 261 ≤ 21 + 4 * m + k := by omega
    have pk : ∀ v, v = sh_ ρ n k → put_I (nr_ ρa m (sh_ ρ n) k) 359 (21 + 4 * m + k) v = nr_ ρa m (sh_ ρ n) (k + 1) := fun v hv => by rw [hv]; rfl
    have fin : ∀ v, v = sh_ ρ n k → f_X12_putLog_B115 20000 344 (f_X12_putLog_L74 20000 344 f) (bi_ (ra_ n (sh_ ρ n) k)) (Int32.ofNat k) v (Int32.ofNat (21 + 4 * m + k)) (some 359) (nr_ ρa m (sh_ ρ n) k) = f_X12_putLog_L74 20000 344 f (bi_ (ra_ n (sh_ ρ n) (k + 1))) (Int32.ofNat (k + 1)) (nr_ ρa m (sh_ ρ n) (k + 1)) := by
      intro v hv
      unfold f_X12_putLog_B115 f_X12_putLog_B155 f_X12_putLog_B151 f_X12_putLog_B156
      simp only [Option.bind_some, dk, ixt, pk v hv]
      rw [if_neg (by exact fun o_ => o_.elim (fun x => ixn x) (fun x => ixl x))]
      cases hb : ra_ n (sh_ ρ n) k with
      | false =>
        have hc : ra_ n (sh_ ρ n) (k + 1) = false := by simp [ra_, hb]
        rw [hc, if_pos bi_f, o_s]
        rfl
      | true =>
        rw [if_neg (by decide), g21]
        by_cases q : k < n
        · rw [if_pos (by rw [o_lt (by omega) (by omega)]; exact q), sB k q, sB0]
          simp only [Option.bind_some]
          by_cases q1 : sh_ ρ n k = 26
          · have hc : ra_ n (sh_ ρ n) (k + 1) = false := by simp [ra_, hb, q1]; omega
            rw [if_pos q1, hc, o_s]
            rfl
          · rw [if_neg q1]
            by_cases q2 : sh_ ρ n k = sh_ ρ n 0
            · have hc : ra_ n (sh_ ρ n) (k + 1) = true := by simp only [ra_, hb, Bool.true_and, decide_eq_true q1, decide_eq_true q2, Bool.and_self, Bool.or_true]
              rw [if_pos q2, hc, o_s]
              rfl
            · have hc : ra_ n (sh_ ρ n) (k + 1) = false := by simp only [ra_, hb, Bool.true_and, decide_eq_false q2, Bool.and_false, Bool.or_false, decide_eq_false (show ¬ n ≤ k by omega)]
              rw [if_neg q2, hc, o_s]
              rfl
        · have hc : ra_ n (sh_ ρ n) (k + 1) = true := by simp only [ra_, hb, Bool.true_and, decide_eq_true (show n ≤ k by omega), Bool.true_or]
          rw [if_neg (by rw [o_lt (by omega) (by omega)]; exact q), hc, o_s]
          rfl
    refine ⟨f', ?_⟩
    rw [← h, f_X12_putLog_L74, if_pos (by rw [l_4, o_lt (by omega) (by omega)]; omega)]
    simp only [Option.bind_some, ↓reduceIte, gI_I, gI_R, gI_J, gR_I, gR_R, gR_J, gL_I, gL_R, gL_J, gN_I, gN_R, gN_J, gJ_I, gJ_R, Int32.reduceLT, e_1_0, Int32.reduceToNatClampNeg, Int32.reduceToInt, Int.reduceLE, Int.reduceLT, Int.reduceNeg, Int.reduceEq,  Nat.reduceLT, Nat.reduceLeDiff, Nat.reduceEqDiff, Nat.reduceAdd, Nat.reduceMul, false_or, or_false, true_and, and_true, false_and, and_false, not_false_eq_true, not_true_eq_false, or_self, and_self, true_or, or_true, dk, g20, f20, ix]
    by_cases q : k < n
    · rw [if_pos (by rw [o_lt (by omega) (by omega)]; exact q), sA k q]
      simp only [Option.bind_some]
      exact fin _ rfl
    · rw [if_neg (by rw [o_lt (by omega) (by omega)]; exact q)]
      exact fin 26 (by unfold sh_; rw [if_neg q])
