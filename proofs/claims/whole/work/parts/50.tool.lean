/-! ===== phase 2 begins: numbers ===== -/
theorem i_lt {x y : Int32} : x < y ↔ x.toInt < y.toInt := Int32.lt_iff_toInt_lt
theorem i_eq {x y : Int32} : x = y ↔ x.toInt = y.toInt := Int32.toInt_inj.symm
theorem i_lo (x : Int32) : -2147483648 ≤ x.toInt := Int32.le_toInt x
theorem i_hi (x : Int32) : x.toInt < 2147483648 := Int32.toInt_lt x
theorem i_add {x y : Int32} (h1 : -2147483648 ≤ x.toInt + y.toInt) (h2 : x.toInt + y.toInt < 2147483648) : (x + y).toInt = x.toInt + y.toInt := by
  rw [Int32.toInt_add]
  exact Int.bmod_eq_of_le (by omega) (by omega)
theorem i_sub {x y : Int32} (h1 : -2147483648 ≤ x.toInt - y.toInt) (h2 : x.toInt - y.toInt < 2147483648) : (x - y).toInt = x.toInt - y.toInt := by
  rw [Int32.toInt_sub]
  exact Int.bmod_eq_of_le (by omega) (by omega)
theorem i_mul {x y : Int32} (h1 : -2147483648 ≤ x.toInt * y.toInt) (h2 : x.toInt * y.toInt < 2147483648) : (x * y).toInt = x.toInt * y.toInt := by
  rw [Int32.toInt_mul]
  exact Int.bmod_eq_of_le (by omega) (by omega)
theorem i_tn (x : Int32) : x.toNatClampNeg = x.toInt.toNat := rfl
theorem o_ti {n : Nat} (h : n < 2147483648) : (Int32.ofNat n).toInt = n := Int32.toInt_ofNat_of_lt h
theorem o_tn {n : Nat} (h : n < 2147483648) : (Int32.ofNat n).toNatClampNeg = n := Int32.toNatClampNeg_ofNat_of_lt h
theorem o_lt {a b : Nat} (ha : a < 2147483648) (hb : b < 2147483648) : Int32.ofNat a < Int32.ofNat b ↔ a < b := by
  rw [i_lt, o_ti ha, o_ti hb]
  omega
theorem o_eq {a b : Nat} (ha : a < 2147483648) (hb : b < 2147483648) : Int32.ofNat a = Int32.ofNat b ↔ a = b := by
  rw [i_eq, o_ti ha, o_ti hb]
  omega
theorem o_s (n : Nat) : Int32.ofNat n + 1 = Int32.ofNat (n + 1) := (Int32.ofNat_add n 1).symm
theorem o_add (a b : Nat) : Int32.ofNat a + Int32.ofNat b = Int32.ofNat (a + b) := (Int32.ofNat_add a b).symm
theorem o_mul (a b : Nat) : Int32.ofNat a * Int32.ofNat b = Int32.ofNat (a * b) := (Int32.ofNat_mul a b).symm
theorem o_sub {a b : Nat} (h : b ≤ a) : Int32.ofNat a - Int32.ofNat b = Int32.ofNat (a - b) := (Int32.ofNat_sub a b h).symm
theorem o_in {k L : Nat} (hk : k < L) (hL : L < 2147483648) : ¬ (Int32.ofNat k < 0 ∨ L ≤ (Int32.ofNat k).toNatClampNeg) := by
  rw [o_tn (by omega), i_lt, o_ti (by omega)]
  have : (0 : Int32).toInt = 0 := rfl
  omega
theorem o_nn {k : Nat} (hk : k < 2147483648) : ¬ Int32.ofNat k < 0 := by
  rw [i_lt, o_ti hk]
  have : (0 : Int32).toInt = 0 := rfl
  omega
theorem x_in {x : Int32} {L : Nat} (h0 : 0 ≤ x.toInt) (h1 : x.toInt < L) : ¬ (x < 0 ∨ L ≤ x.toNatClampNeg) := by
  rw [i_lt, i_tn]
  have : (0 : Int32).toInt = 0 := rfl
  omega
theorem x_of {x : Int32} (h : 0 ≤ x.toInt) : x = Int32.ofNat x.toInt.toNat := by
  have h2 := i_hi x
  rw [i_eq, o_ti (by omega)]
  omega
theorem x_o {x : Int32} (h : ¬ x < 0) : ∃ n : Nat, n < 2147483648 ∧ x = Int32.ofNat n := by
  have h2 := i_hi x
  rw [i_lt] at h
  have e : (0 : Int32).toInt = 0 := rfl
  exact ⟨x.toInt.toNat, by omega, x_of (by omega)⟩
theorem rm_ti (x y : Int32) : (rm_ x y).toInt = x.toInt.tmod y.toInt := rem_toInt x y
theorem xor_lt (x y : Int32) : x ^^^ y < 0 ↔ ((x < 0) ↔ ¬ (y < 0)) := by
  have e : ∀ z : Int32, (z < 0) ↔ z.toBitVec.msb = true := fun z => by
    show z.toBitVec.slt (0 : Int32).toBitVec = true ↔ _
    rw [show (0 : Int32).toBitVec = 0#32 from rfl, BitVec.slt_zero_eq_msb]
  rw [e, e, e, show (x ^^^ y).toBitVec = x.toBitVec ^^^ y.toBitVec from rfl, BitVec.msb_xor]
  cases x.toBitVec.msb <;> cases y.toBitVec.msb <;> simp
/-- the remainder that is never below 0 -/
def md_ (x n : Int32) : Int32 := Int32.ofInt (x.toInt % n.toInt)
theorem md_ti {x n : Int32} (hn : 0 < n.toInt) : (md_ x n).toInt = x.toInt % n.toInt := by
  have h1 := Int.emod_nonneg x.toInt (by omega : n.toInt ≠ 0)
  have h2 := Int.emod_lt_of_pos x.toInt hn
  have h3 := i_hi n
  exact Int32.toInt_ofInt_of_le (by omega) (by omega)
theorem rd_c {x n : Int32} (hn : 0 < n.toInt) : f_X11_round x n = some (md_ x n) := by
  have e1 : (1 : Int32).toInt = 1 := rfl
  have e0 : (0 : Int32).toInt = 0 := rfl
  have h1 := Int.emod_nonneg x.toInt (by omega : n.toInt ≠ 0)
  have h2 := Int.emod_lt_of_pos x.toInt hn
  have h3 := i_hi n
  have hm := md_ti (x := x) hn
  have ht := rm_ti x n
  have hs : (n.toInt.natAbs : Int) = n.toInt := by omega
  have ht' : (rm_ x n).toInt = x.toInt % n.toInt - if 0 ≤ x.toInt ∨ n.toInt ∣ x.toInt then 0 else n.toInt := by
    rw [ht, Int.tmod_eq_emod]
    by_cases hc : 0 ≤ x.toInt ∨ n.toInt ∣ x.toInt
    · rw [if_pos hc, if_pos hc]; rfl
    · rw [if_neg hc, if_neg hc, hs]
  unfold f_X11_round f_J9_floorMod_7cf53
  rw [if_neg (by rw [i_lt]; omega), if_neg (by rw [i_eq]; omega)]
  by_cases hx : x < 0
  · have hx' := i_lt.mp hx
    rw [if_pos ((xor_lt x n).mpr ⟨fun _ => by rw [i_lt]; omega, fun _ => hx⟩)]
    by_cases hd : n.toInt ∣ x.toInt
    · have hz : x.toInt % n.toInt = 0 := Int.emod_eq_zero_of_dvd hd
      rw [if_pos (Or.inr hd)] at ht'
      rw [if_pos (by rw [i_eq]; omega)]
      simp only [Option.bind_some]
      congr 1
      rw [i_eq]
      omega
    · have hz : x.toInt % n.toInt ≠ 0 := fun h => hd (Int.dvd_of_emod_eq_zero h)
      rw [if_neg (by omega)] at ht'
      rw [if_neg (by rw [i_eq]; omega)]
      simp only [Option.bind_some]
      congr 1
      rw [i_eq, i_add (by omega) (by omega)]
      omega
  · have hx' : ¬ x.toInt < (0 : Int32).toInt := fun h => hx (i_lt.mpr h)
    rw [if_neg (fun h => by
      have := (xor_lt x n).mp h
      exact hx (this.mpr (by rw [i_lt]; omega)))]
    rw [if_pos (Or.inl (by omega))] at ht'
    simp only [Option.bind_some]
    congr 1
    rw [i_eq]
    omega
theorem rd_r {x n : Int32} (hn : 0 < n.toInt) (hb : n.toInt ≤ 1000000) : f_X12_round x n = some (md_ x n) := by
  have e0 : (0 : Int32).toInt = 0 := rfl
  unfold f_X12_round
  rw [if_neg (by rw [i_eq]; omega), if_neg (by rw [i_eq]; omega)]
  congr 1
  have ht := rm_ti x n
  have hb1 := tmod_bounds (a := x.toInt) hn
  rw [i_eq, rm_ti, i_add (by omega) (by omega), ht, md_ti hn, Int.tmod_eq_emod_of_nonneg (by omega), Int.tmod_def]
  rw [show x.toInt - n.toInt * x.toInt.tdiv n.toInt + n.toInt = x.toInt + n.toInt * (1 - x.toInt.tdiv n.toInt) by rw [Int.mul_sub]; omega]
  exact Int.add_mul_emod_self_left _ _ _
/-! the pool's places -/
theorem gI_I (σ : Sg) (a j : Nat) (v : Int32) (b k : Nat) : sg_I (put_I σ a j v) b k = if b = a ∧ k = j then v else sg_I σ b k := rfl
theorem gI_R (σ : Sg) (a j : Nat) (v : Option Nat) : sg_I (put_R σ a j v) = sg_I σ := rfl
theorem gI_J (σ : Sg) (a j : Nat) (v : Int64) : sg_I (put_J σ a j v) = sg_I σ := rfl
theorem gR_I (σ : Sg) (a j : Nat) (v : Int32) : sg_R (put_I σ a j v) = sg_R σ := rfl
theorem gR_R (σ : Sg) (a j : Nat) (v : Option Nat) (b k : Nat) : sg_R (put_R σ a j v) b k = if b = a ∧ k = j then v else sg_R σ b k := rfl
theorem gR_J (σ : Sg) (a j : Nat) (v : Int64) : sg_R (put_J σ a j v) = sg_R σ := rfl
theorem gL_I (σ : Sg) (a j : Nat) (v : Int32) : sg_L (put_I σ a j v) = sg_L σ := rfl
theorem gL_R (σ : Sg) (a j : Nat) (v : Option Nat) : sg_L (put_R σ a j v) = sg_L σ := rfl
theorem gL_J (σ : Sg) (a j : Nat) (v : Int64) : sg_L (put_J σ a j v) = sg_L σ := rfl
theorem gJ_I (σ : Sg) (a j : Nat) (v : Int32) : sg_J (put_I σ a j v) = sg_J σ := rfl
theorem gJ_R (σ : Sg) (a j : Nat) (v : Option Nat) : sg_J (put_R σ a j v) = sg_J σ := rfl
theorem gN_I (σ : Sg) (a j : Nat) (v : Int32) : sg_N (put_I σ a j v) = sg_N σ := rfl
theorem gN_R (σ : Sg) (a j : Nat) (v : Option Nat) : sg_N (put_R σ a j v) = sg_N σ := rfl
theorem gN_J (σ : Sg) (a j : Nat) (v : Int64) : sg_N (put_J σ a j v) = sg_N σ := rfl
theorem gI_C (σ : Sg) (a b i j n c k : Nat) : sg_I (cpy_I σ a b i j n) c k = if c = b then va_cpy (sg_I σ a) (sg_I σ b) i j n k else sg_I σ c k := by
  show (va_up σ.2.2.2.1 b (va_cpy (σ.2.2.2.1 a) (σ.2.2.2.1 b) i j n) c) k = _
  unfold va_up
  split <;> rfl
theorem gR_C (σ : Sg) (a b i j n : Nat) : sg_R (cpy_I σ a b i j n) = sg_R σ := rfl
theorem gL_C (σ : Sg) (a b i j n : Nat) : sg_L (cpy_I σ a b i j n) = sg_L σ := rfl
theorem gJ_C (σ : Sg) (a b i j n : Nat) : sg_J (cpy_I σ a b i j n) = sg_J σ := rfl
theorem gN_C (σ : Sg) (a b i j n : Nat) : sg_N (cpy_I σ a b i j n) = sg_N σ := rfl
