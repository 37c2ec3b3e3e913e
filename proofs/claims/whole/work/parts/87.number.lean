/-! ===== the readers: letters and numbers ===== -/
theorem lt_l {v0 : Nat} {a b : Int32} {σ : Sg} : ∀ (m : Nat) (i : Int32), f_J1_indexOfChar_4cfef_L7 20000 m v0 a b i σ = f_J1_indexOfChar_4cfef_L7 20000 m v0 a b i em_
  | 0, i => rfl
  | m + 1, i => by
    rw [f_J1_indexOfChar_4cfef_L7, f_J1_indexOfChar_4cfef_L7, lt_l m (i + 1)]
theorem lt_i {c : Nat} {x : Int32} {σ : Sg} : f_X6_letterOf 20000 c x σ = f_X6_letterOf 20000 c x em_ := by
  unfold f_X6_letterOf f_J0_indexOf_0f7a4 f_J0_indexOf_7cf53 f_J1_indexOf_4cfef f_J1_indexOfChar_4cfef
  simp only [lt_l (σ := σ)]
  rfl
def lt_k : Bool := decide (∀ n : Fin 256, f_X6_letterOf 20000 8 (Int32.ofNat n.val) em_ = f_X12_letterOf (Int32.ofNat n.val)) && (decide (∀ n : Fin 256, f_X6_letterOf 20000 6 (Int32.ofNat n.val) em_ = f_X12_itemOf 115 (Int32.ofNat n.val)) && decide (∀ n : Fin 256, f_X6_letterOf 20000 7 (Int32.ofNat n.val) em_ = f_X12_itemOf 119 (Int32.ofNat n.val)))
set_option maxRecDepth 100000 in
theorem lt_d : lt_k = true := by decide +kernel
theorem lt_a {t : Nat} {x : Nat → Int32} (hx : XT t x) (p : Nat) {σ : Sg} : f_X6_letterOf 20000 8 (sx_ x t p) σ = f_X12_letterOf (sx_ x t p) ∧ f_X6_letterOf 20000 6 (sx_ x t p) σ = f_X12_itemOf 115 (sx_ x t p) ∧ f_X6_letterOf 20000 7 (sx_ x t p) σ = f_X12_itemOf 119 (sx_ x t p) := by
  obtain ⟨h1, h2, h3, h4⟩ := sx_b hx p
  have k := lt_d
  unfold lt_k at k
  rw [Bool.and_eq_true, Bool.and_eq_true] at k
  obtain ⟨k1, k2, k3⟩ := k
  rw [lt_i (c := 8), lt_i (c := 6), lt_i (c := 7)]
  by_cases c : sx_ x t p = -1
  · rw [c]
    exact ⟨rfl, rfl, rfl⟩
  · have h0 : 0 ≤ (sx_ x t p).toInt := by
      have e : (-1 : Int32).toInt = -1 := rfl
      have : (sx_ x t p).toInt ≠ -1 := fun q => c (i_eq.mpr (q.trans e.symm))
      omega
    obtain ⟨n, n1, n2⟩ := x_ob (x := sx_ x t p) (B := 255) ⟨h0, h2⟩
    rw [n2]
    have f1 := of_decide_eq_true k1 ⟨n, by omega⟩
    have f2 := of_decide_eq_true k2 ⟨n, by omega⟩
    have f3 := of_decide_eq_true k3 ⟨n, by omega⟩
    exact ⟨f1, f2, f3⟩
def dg_ (c : Int32) : Prop := 48 ≤ c.toInt ∧ c.toInt ≤ 57
theorem dg_r {c : Int32} (h : dg_ c) : f_X12_isDigit c = some 1 := by
  unfold f_X12_isDigit
  rw [if_neg (by rw [i_lt, show (48 : Int32).toInt = 48 from rfl]; have := h.1; omega), if_neg (by rw [i_lt, show (57 : Int32).toInt = 57 from rfl]; have := h.2; omega)]
theorem dg_n {c : Int32} (h : ¬ dg_ c) : f_X12_isDigit c = some 0 := by
  unfold f_X12_isDigit dg_ at *
  by_cases g1 : c < 48
  · rw [if_pos g1]
  · rw [if_neg g1, if_pos]
    rw [i_lt, show (48 : Int32).toInt = 48 from rfl] at g1
    rw [i_lt, show (57 : Int32).toInt = 57 from rfl]
    omega
/-- a step of the class's number: one more digit -/
theorem nm_d {b t p k v mx m : Nat} {x : Nat → Int32} {σ : Sg} {lo hi : Int32} (hx : XT t x) (h : CT b t x σ) (h2 : sg_I σ b 2 = Int32.ofNat p) (hp : p ≤ t) (hm : mx ≤ 4) (hk : k ≤ mx) (hv : v < 100000) (hd : dg_ (sx_ x t (p + k))) : ∃ d : Nat, d ≤ 9 ∧ sx_ x t (p + k) = Int32.ofNat (48 + d) ∧ p + k < t ∧ f_X6_number_L23 20000 b (m + 1) (Int32.ofNat mx) lo hi (Int32.ofNat k) (Int32.ofNat v) (Int32.ofNat (min t (p + mx + 1))) σ = f_X6_number_L23 20000 b m (Int32.ofNat mx) lo hi (Int32.ofNat (k + 1)) (Int32.ofNat (10 * v + d)) (Int32.ofNat (min t (p + mx + 1))) σ := by
  have ht := hx.1
  have hl : p + k < t := by
    apply Classical.byContradiction
    intro q
    have e := (sx_b hx (p + k)).2.2.2.mpr q
    rw [e] at hd
    exact absurd hd (by unfold dg_; decide)
  have e : sx_ x t (p + k) = x (p + k) := if_pos hl
  obtain ⟨n, n1, n2⟩ := x_ob (x := sx_ x t (p + k)) (B := 57) ⟨by have := hd.1; omega, hd.2⟩
  have n3 : 48 ≤ n := by
    have := hd.1
    rw [n2, o_ti (by omega)] at this
    omega
  refine ⟨n - 48, by omega, by rw [n2]; congr 1; omega, hl, ?_⟩
  have hxe : sg_I σ 1 (p + k) = Int32.ofNat n := by rw [h.2.2.2 _ hl, ← e, n2]
  have ip : sg_I σ b 2 + Int32.ofNat k = Int32.ofNat (p + k) := by rw [h2, o_add]
  have n240 : ¬ (Int32.ofNat (p + k) < 0 ∨ 240 ≤ (Int32.ofNat (p + k)).toNatClampNeg) := o_in (by omega) (by omega)
  have t240 : (Int32.ofNat (p + k)).toNatClampNeg = p + k := o_tn (by omega)
  have n240' : ¬ (Int32.ofNat (p + k) < 0 ∨ 240 ≤ p + k) := by rw [t240] at n240; exact n240
  have ev : Int32.ofNat v * 10 + Int32.ofNat n - 48 = Int32.ofNat (10 * v + (n - 48)) := by
    rw [l_10, o_mul, o_add, show (48 : Int32) = Int32.ofNat 48 from rfl, o_sub (by omega)]
    congr 1
    omega
  rw [f_X6_number_L23, ip, if_pos (by rw [o_lt (by omega) (by omega)]; omega), f_of h.1, h.2.1, if_neg n240, t240, hxe, if_neg (by rw [show (48 : Int32) = Int32.ofNat 48 from rfl, o_lt (by omega) (by omega)]; omega), if_neg n240', if_neg (by rw [show (57 : Int32) = Int32.ofNat 57 from rfl, o_lt (by omega) (by omega)]; omega), if_neg n240', ev, o_s k]
/-- and the step that ends it -/
theorem nm_n {b t p k mx m : Nat} {x : Nat → Int32} {σ : Sg} {v lo hi : Int32} (hx : XT t x) (h : CT b t x σ) (h2 : sg_I σ b 2 = Int32.ofNat p) (hp : p ≤ t) (hm : mx ≤ 4) (hk : k = mx + 1 ∨ (k ≤ mx ∧ ¬ dg_ (sx_ x t (p + k)))) : f_X6_number_L23 20000 b (m + 1) (Int32.ofNat mx) lo hi (Int32.ofNat k) v (Int32.ofNat (min t (p + mx + 1))) σ = f_X6_number_B98 20000 b (Int32.ofNat mx) lo hi (Int32.ofNat k) v σ := by
  have ht := hx.1
  have ip : sg_I σ b 2 + Int32.ofNat k = Int32.ofNat (p + k) := by rw [h2, o_add]
  rw [f_X6_number_L23, ip]
  by_cases q : p + k < min t (p + mx + 1)
  · rw [if_pos (by rw [o_lt (by omega) (by omega)]; exact q)]
    have hl : p + k < t := by omega
    obtain ⟨k1, k2⟩ := hk.resolve_left (by omega)
    have e : sx_ x t (p + k) = x (p + k) := if_pos hl
    have n240 : ¬ (Int32.ofNat (p + k) < 0 ∨ 240 ≤ (Int32.ofNat (p + k)).toNatClampNeg) := o_in (by omega) (by omega)
    have t240 : (Int32.ofNat (p + k)).toNatClampNeg = p + k := o_tn (by omega)
    have n240' : ¬ (Int32.ofNat (p + k) < 0 ∨ 240 ≤ p + k) := by rw [t240] at n240; exact n240
    have hxe : sg_I σ 1 (p + k) = sx_ x t (p + k) := by rw [h.2.2.2 _ hl, ← e]
    rw [f_of h.1, h.2.1, if_neg n240, t240, hxe]
    by_cases g1 : sx_ x t (p + k) < 48
    · rw [if_pos g1]
    · rw [if_neg g1, if_neg n240', if_pos]
      unfold dg_ at k2
      rw [i_lt, show (48 : Int32).toInt = 48 from rfl] at g1
      rw [i_lt, show (57 : Int32).toInt = 57 from rfl]
      omega
  · rw [if_neg (by rw [o_lt (by omega) (by omega)]; exact q)]
theorem nm_b {b p k v mx lo hi : Nat} {σ : Sg} (h2 : sg_I σ b 2 = Int32.ofNat p) (hp : p ≤ 240) (hm : mx ≤ 4) (hk : k ≤ 5) (hv : v < 1000000) (hl : lo ≤ 9999) (hh : hi ≤ 9999) : f_X6_number_B98 20000 b (Int32.ofNat mx) (Int32.ofNat lo) (Int32.ofNat hi) (Int32.ofNat k) (Int32.ofNat v) σ = if k = 0 then some (-1, σ) else if mx < k then some (-1, put_I σ b 2 (Int32.ofNat (p + mx))) else if v < lo ∨ hi < v then some (-1, put_I σ b 2 (Int32.ofNat (p + k - 1))) else some (Int32.ofNat v, put_I σ b 2 (Int32.ofNat (p + k))) := by
  unfold f_X6_number_B98 f_X6_number_B139 f_X6_number_B140 f_X6_number_B161
  rw [h2]
  by_cases c1 : k = 0
  · rw [if_pos c1, if_pos (by rw [c1]; rfl)]
  · rw [if_neg c1, if_neg (by rw [l_0, o_eq (by omega) (by omega)]; exact c1)]
    by_cases c2 : mx < k
    · rw [if_pos c2, if_pos (by rw [o_lt (by omega) (by omega)]; exact c2), o_add]
    · rw [if_neg c2, if_neg (by rw [o_lt (by omega) (by omega)]; exact c2), if_pos rfl, if_neg (show ¬ (1 : Int32) = 0 by decide), f_of (rfl : some b = some b), f_of (rfl : some b = some b), if_pos rfl, if_neg (show ¬ (1 : Int32) = 0 by decide), l_1, o_sub (by omega), o_add, o_add, ← Nat.add_sub_assoc (by omega)]
      by_cases c3 : v < lo
      · rw [if_pos (by rw [o_lt (by omega) (by omega)]; exact c3), if_pos (Or.inl c3)]
      · rw [if_neg (by rw [o_lt (by omega) (by omega)]; exact c3)]
        by_cases c4 : hi < v
        · rw [if_pos (by rw [o_lt (by omega) (by omega)]; exact c4), if_pos (Or.inr c4)]
        · rw [if_neg (by rw [o_lt (by omega) (by omega)]; exact c4), if_neg (by omega)]
theorem nm_s {b t p mx : Nat} {σ : Sg} {lo hi : Int32} (h1 : sg_I σ b 1 = Int32.ofNat t) (h2 : sg_I σ b 2 = Int32.ofNat p) (ht : t ≤ 240) (hp : p ≤ t) (hm : mx ≤ 4) : f_X6_number 20000 b (Int32.ofNat mx) lo hi σ = f_X6_number_L23 20000 b 20000 (Int32.ofNat mx) lo hi (Int32.ofNat 0) (Int32.ofNat 0) (Int32.ofNat (min t (p + mx + 1))) σ := by
  have mn : f_J9_min_7cf53 (sg_I σ b 1) (sg_I σ b 2 + Int32.ofNat mx + 1) = some (Int32.ofNat (min t (p + mx + 1))) := by
    unfold f_J9_min_7cf53
    rw [h1, h2, o_add, o_s]
    by_cases q : p + mx + 1 < t
    · rw [if_pos (by rw [o_lt (by omega) (by omega)]; exact q), Nat.min_eq_right (by omega)]
    · rw [if_neg (by rw [o_lt (by omega) (by omega)]; exact q), Nat.min_eq_left (by omega)]
  unfold f_X6_number
  rw [f_of mn]
  rfl
