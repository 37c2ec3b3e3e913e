/-! ===== draws and years ===== -/
theorem gJ_J (σ : Sg) (a j : Nat) (v : Int64) (b k : Nat) : sg_J (put_J σ a j v) b k = if b = a ∧ k = j then v else sg_J σ b k := rfl
theorem rmL_ti (x y : Int64) : (rm_L x y).toInt = x.toInt.tmod y.toInt := by
  rw [← Int64.toInt_mod]
  have h1 := Int64.le_toInt (x % y)
  have h2 := Int64.toInt_lt (x % y)
  unfold rm_L
  rw [Int64.toInt_sub, Int64.toInt_mul, Int64.toInt_div, Int.bmod_mul_bmod, Int.sub_bmod_bmod, Int.mul_comm (x.toInt.tdiv y.toInt), ← Int.tmod_def, ← Int64.toInt_mod]
  exact Int.bmod_eq_of_le_mul_two (by omega) (by omega)
def dj_ (J : Int64) : Int64 := J * 6364136223846793005 + 1442695040888963407
def dv_ (J : Int64) (j : Nat) : Int32 := (rm_L ((J.toUInt64 >>> ((33 : Int32).toInt64.toUInt64 &&& Int64.toUInt64 63)).toInt64) ((Int32.ofNat j).toInt64)).toInt32
theorem dv_b (J : Int64) {j : Nat} (h : 1 ≤ j ∧ j ≤ 100) : ∃ k, k < j ∧ dv_ J j = Int32.ofNat k := by
  have eu : ((33 : Int32).toInt64.toUInt64 &&& Int64.toUInt64 63) = 33 := by decide
  have hn : (J.toUInt64 >>> (33 : UInt64)).toNat = J.toUInt64.toNat >>> 33 := by
    rw [UInt64.toNat_shiftRight]
    rfl
  have hlt : J.toUInt64.toNat < 2 ^ 64 := UInt64.toNat_lt _
  have h2 : (J.toUInt64 >>> (33 : UInt64)).toNat < 2147483648 := by
    rw [hn, Nat.shiftRight_eq_div_pow]
    omega
  have ui : ((J.toUInt64 >>> (33 : UInt64)).toInt64).toInt = ((J.toUInt64 >>> (33 : UInt64)).toNat : Int) := by
    show (J.toUInt64 >>> (33 : UInt64)).toBitVec.toInt = ((J.toUInt64 >>> (33 : UInt64)).toBitVec.toNat : Int)
    exact BitVec.toInt_eq_toNat_of_lt (by
      have : (J.toUInt64 >>> (33 : UInt64)).toBitVec.toNat < 2147483648 := h2
      omega)
  have mi : ((Int32.ofNat j).toInt64).toInt = (j : Int) := by rw [Int32.toInt_toInt64, o_ti (by omega)]
  have rt := rmL_ti ((J.toUInt64 >>> (33 : UInt64)).toInt64) ((Int32.ofNat j).toInt64)
  rw [ui, mi, Int.tmod_eq_emod_of_nonneg (by omega)] at rt
  have g1 := Int.emod_nonneg ((J.toUInt64 >>> (33 : UInt64)).toNat : Int) (show (j : Int) ≠ 0 by omega)
  have g2 := Int.emod_lt_of_pos ((J.toUInt64 >>> (33 : UInt64)).toNat : Int) (show (0 : Int) < j by omega)
  refine ⟨(((J.toUInt64 >>> (33 : UInt64)).toNat : Int) % (j : Int)).toNat, by omega, ?_⟩
  unfold dv_
  rw [eu, i_eq, Int64.toInt_toInt32, rt, o_ti (by omega), Int.bmod_eq_of_le (by omega) (by omega)]
  omega
theorem dc_v {σ : Sg} {j : Nat} (h : 1 ≤ j ∧ j ≤ 100) : f_X11_draw 0 (Int32.ofNat j) σ = some (dv_ (dj_ (sg_J σ 0 19)) j, put_J σ 0 19 (dj_ (sg_J σ 0 19))) := by
  unfold f_X11_draw
  rw [if_neg (by rw [l_1, o_lt (by omega) (by omega)]; omega), if_neg (fun q => by
    have := congrArg Int64.toInt q
    rw [Int32.toInt_toInt64, o_ti (by omega)] at this
    have e : (0 : Int64).toInt = 0 := rfl
    omega), gJ_J, if_pos ⟨rfl, rfl⟩]
  rfl
theorem dr_v {ρ : Sg} {j : Nat} (h : 1 ≤ j ∧ j ≤ 100) : f_X12_draw 344 (Int32.ofNat j) ρ = some (dv_ (dj_ (sg_J ρ 344 30)) j, put_J ρ 344 30 (dj_ (sg_J ρ 344 30))) := by
  unfold f_X12_draw
  rw [if_neg (fun q => by
    have := congrArg Int64.toInt q
    rw [Int32.toInt_toInt64, o_ti (by omega)] at this
    have e : (0 : Int64).toInt = 0 := rfl
    omega), gJ_J, if_pos ⟨rfl, rfl⟩]
  rfl
theorem FC.putJ {σ : Sg} {a j : Nat} {v : Int64} (h : a < 344 ∨ 370 < a) : FC σ (put_J σ a j v) := fun b h1 h2 => ⟨rfl, rfl, rfl, by
  funext k
  rw [gJ_J, if_neg (by omega)]⟩
theorem FR.putJ {σ : Sg} {a j : Nat} {v : Int64} : FR σ (put_J σ a j v) := ⟨rfl, fun b h1 => ⟨rfl, rfl, rfl⟩⟩
/-- the draws go on alike -/
def DJ (σ ρ : Sg) : Prop := sg_J σ 0 19 = sg_J ρ 344 30
/-- both sides' pools behind a stretch of years -/
def YS (σ ρ τ υ : Sg) (n : Nat) : Prop := Rel τ υ ∧ FC σ τ ∧ FR ρ υ ∧ DJ τ υ ∧ sg_I υ 344 20 = Int32.ofNat n ∧ sg_I υ 359 19 = sg_I ρ 359 19
theorem YS.tr {σ ρ τ υ φ ψ : Sg} {n : Nat} (h : YS σ ρ τ υ n) (k : YS τ υ φ ψ n) : YS σ ρ φ ψ n := ⟨k.1, h.2.1.tr k.2.1, h.2.2.1.tr k.2.2.1, k.2.2.2.1, k.2.2.2.2.1, k.2.2.2.2.2.trans h.2.2.2.2.2⟩
theorem YS.dj {σ ρ : Sg} {n : Nat} (r : Rel σ ρ) (J : DJ σ ρ) (e : sg_I ρ 344 20 = Int32.ofNat n) : YS σ ρ (put_J σ 0 19 (dj_ (sg_J σ 0 19))) (put_J ρ 344 30 (dj_ (sg_J ρ 344 30))) n := ⟨r, FC.putJ (by omega), FR.putJ, by
  show sg_J _ 0 19 = sg_J _ 344 30
  rw [gJ_J, if_pos ⟨rfl, rfl⟩, gJ_J, if_pos ⟨rfl, rfl⟩, J], e, rfl⟩
theorem dd_v {σ ρ : Sg} (r : Rel σ ρ) {n : Nat} (e : sg_I ρ 344 20 = Int32.ofNat n) (J : DJ σ ρ) {j : Nat} (h : 1 ≤ j ∧ j ≤ 100) : ∃ k τ υ, k < j ∧ f_X11_draw 0 (Int32.ofNat j) σ = some (Int32.ofNat k, τ) ∧ f_X12_draw 344 (Int32.ofNat j) ρ = some (Int32.ofNat k, υ) ∧ YS σ ρ τ υ n ∧ sg_I τ = sg_I σ ∧ sg_I υ = sg_I ρ := by
  have Y := YS.dj r J e
  have a := dc_v (σ := σ) h
  have b := dr_v (ρ := ρ) h
  rw [← J] at b Y
  obtain ⟨k, hk, ek⟩ := dv_b (dj_ (sg_J σ 0 19)) h
  rw [ek] at a b
  exact ⟨k, _, _, hk, a, b, Y, rfl, rfl⟩
theorem m1_v {σ ρ : Sg} (r : Rel σ ρ) {n : Nat} (hn : n ≤ 4) (h0 : 0 < n) (e : sg_I ρ 344 20 = Int32.ofNat n) (J : DJ σ ρ) : ∃ τ υ, f_X11_meddle_B106 0 σ = some τ ∧ f_X12_drawTick_B70 344 ρ = some υ ∧ YS σ ρ τ υ n := by
  have c := r.cf
  have d := r.rf
  obtain ⟨f, o, c', t, g1, g2, g3, g4, g5, i1, i2, i3, i4, i5, i6, i7, i8⟩ := r.gl e hn h0
  have mn : f_J9_min_7cf53 999 (Int32.ofNat (o + 1)) = some (Int32.ofNat (min 999 (o + 1))) := min_v (a := 999) (b := o + 1) (by decide) (by omega)
  have R := rl_oil (n := n) (o' := min 999 (o + 1)) r hn e (f := f) (o := o) (c := c') (t := t) (by omega) ⟨i1, i2, i3, i4, i5, i6, i7, i8⟩
  refine ⟨put_I σ 17 3 (Int32.ofNat (min 999 (o + 1))), put_I ρ 359 17 (Int32.ofNat (min 999 (o + 1))), ?_, ?_, R.1, R.2.1, R.2.2, J, by rw [gI_a (by decide)]; exact e, gI_n (by omega)⟩
  · have R13 : sg_R σ 0 13 = some 17 := by simp only [c]
    unfold f_X11_meddle_B106
    rw [f_of R13, i6, o_s, f_of mn]
  · have R24 : sg_R ρ 344 24 = some 359 := by simp only [d]
    have L59 : sg_L ρ 359 = 261 := by simp only [d]
    have n17 : ¬ ((17 : Int32) < 0 ∨ 261 ≤ 17) := by decide
    have t17 : (17 : Int32).toNatClampNeg = 17 := rfl
    unfold f_X12_drawTick_B70
    rw [f_of R24, L59, t17, if_neg n17, i2, o_s, f_of mn, if_neg n17]
theorem m2_v {σ ρ : Sg} (r : Rel σ ρ) {n : Nat} (hn : n ≤ 4) (h0 : 0 < n) (e : sg_I ρ 344 20 = Int32.ofNat n) (J : DJ σ ρ) : ∃ τ υ, f_X11_meddle_B56 0 σ = some τ ∧ f_X12_drawTick_B35 344 ρ = some υ ∧ YS σ ρ τ υ n := by
  obtain ⟨n', q1, q2, q3, -⟩ := r.nw
  have en : n' = n := (o_eq (by omega) (by omega)).mp (q2.symm.trans e)
  subst en
  obtain ⟨k1, σ1, ρ1, hk1, a1, b1, Y1, I1, I1'⟩ := dd_v r e J (j := 10) (by omega)
  have a1' : f_X11_draw 0 10 σ = some (Int32.ofNat k1, σ1) := a1
  have b1' : f_X12_draw 344 10 ρ = some (Int32.ofNat k1, ρ1) := b1
  unfold f_X11_meddle_B56 f_X12_drawTick_B35
  rw [f_of a1', f_of b1']
  dsimp only
  by_cases g : Int32.ofNat k1 < 2
  · rw [if_pos g, if_pos g]
    obtain ⟨w, σ2, ρ2, hw, a2, b2, Y2, I2, I2'⟩ := dd_v Y1.1 Y1.2.2.2.2.1 Y1.2.2.2.1 (j := n') (by omega)
    obtain ⟨s, σ3, ρ3, hs, a3, b3, Y3, I3, I3'⟩ := dd_v Y2.1 Y2.2.2.2.2.1 Y2.2.2.2.1 (j := 10) (by omega)
    have a3' : f_X11_draw 0 10 σ2 = some (Int32.ofNat s, σ3) := a3
    have b3' : f_X12_draw 344 10 ρ2 = some (Int32.ofNat s, ρ3) := b3
    have r3 := Y3.1
    have c1 := Y1.1.cf
    have c3 := r3.cf
    have d2 := Y2.1.rf
    have d3 := r3.rf
    have s2 := Y3.2.2.2.2.1
    have s3 : sg_I σ3 17 1 = Int32.ofNat n' := by rw [I3, I2, I1]; exact q3
    have e1 : sg_I σ1 17 1 = Int32.ofNat n' := by rw [I1]; exact q3
    have e2 : sg_I ρ1 344 20 = Int32.ofNat n' := Y1.2.2.2.2.1
    have iw := iw_v c3 hn s3 (Int32.ofNat w)
    rw [if_pos (by rw [o_ti (by omega)]; omega)] at iw
    have e18 := r3.w18 w (by omega)
    have J0 := (ix_0 (show w < 4 by omega)).1
    obtain ⟨v, z, p, q, v1, z1, qq1, p1, p2, w1, w2, w3, w4, w5, w6, w7, w8⟩ := r3.wh s2 hn hw
    have R := rl_1w (w := w) (τ := put_I σ3 (20 + w) 0 (Int32.ofNat s)) (υ := put_I ρ3 359 (4 * w) (Int32.ofNat s)) r3 kp_.put kp_.put h0 hn s2 hw (fun a ha => gI_a ha) (fun a ha => gI_a ha) (fun j hj => gI_n (by omega)) ⟨s, z, p, q, by omega, z1, qq1, p1, gI_e, by rw [gI_n (by omega)]; exact w2, by rw [gI_n (by omega)]; exact w3, by rw [gI_n (by omega)]; exact w4, gI_e, by rw [gI_n (by omega)]; exact w6, by rw [gI_n (by omega)]; exact w7, by rw [gI_n (by omega)]; exact w8⟩
    have Y4 : YS σ3 ρ3 (put_I σ3 (20 + w) 0 (Int32.ofNat s)) (put_I ρ3 359 (4 * w) (Int32.ofNat s)) n' := ⟨R.1, R.2.1, R.2.2, Y3.2.2.2.1, by rw [gI_a (by decide)]; exact s2, gI_n (by omega)⟩
    obtain ⟨τ, υ, x1, x2, x3⟩ := m1_v Y4.1 hn h0 Y4.2.2.2.2.1 Y4.2.2.2.1
    have R1 : sg_R σ1 0 13 = some 17 := by simp only [c1]
    have R3 : sg_R σ3 0 13 = some 17 := by simp only [c3]
    have R3' : sg_R σ3 17 0 = some 18 := by simp only [c3]
    have L3 : sg_L σ3 18 = 4 := by simp only [c3]
    have R4 : sg_R ρ2 344 24 = some 359 := by simp only [d2]
    have L4 : sg_L ρ3 359 = 261 := by simp only [d3]
    refine ⟨τ, υ, ?_, ?_, (((Y1.tr Y2).tr Y3).tr Y4).tr x3⟩
    · rw [f_of R1, e1, f_of a2]
      dsimp only
      rw [f_of a3']
      dsimp only
      rw [f_of iw, if_neg (by decide), f_of R3, f_of R3', L3, if_neg (o_in (by omega) (by omega)), o_tn (by omega), f_of e18]
      exact x1
    · rw [e2, f_of b2]
      dsimp only
      rw [f_of b3']
      dsimp only
      rw [f_of R4, J0, L4, if_neg (o_in (by omega) (by omega)), o_tn (by omega)]
      exact x2
  · rw [if_neg g, if_neg g]
    obtain ⟨τ, υ, x1, x2, x3⟩ := m1_v Y1.1 hn h0 Y1.2.2.2.2.1 Y1.2.2.2.1
    exact ⟨τ, υ, x1, x2, Y1.tr x3⟩
theorem m3_v {σ ρ : Sg} (r : Rel σ ρ) {n : Nat} (hn : n ≤ 4) (h0 : 0 < n) (e : sg_I ρ 344 20 = Int32.ofNat n) (J : DJ σ ρ) : ∃ τ υ, f_X11_meddle 0 σ = some τ ∧ f_X12_drawTick 344 ρ = some υ ∧ YS σ ρ τ υ n := by
  obtain ⟨n', q1, q2, q3, -⟩ := r.nw
  have en : n' = n := (o_eq (by omega) (by omega)).mp (q2.symm.trans e)
  subst en
  have mi := r.1.2.2.2.2.2.2.2.2.1.1
  obtain ⟨k1, σ1, ρ1, hk1, a1, b1, Y1, I1, I1'⟩ := dd_v r e J (j := 10) (by omega)
  have a1' : f_X11_draw 0 10 σ = some (Int32.ofNat k1, σ1) := a1
  have b1' : f_X12_draw 344 10 ρ = some (Int32.ofNat k1, ρ1) := b1
  have mi' : sg_I σ1 0 11 = sg_I ρ1 344 27 := by rw [I1, I1']; exact mi
  unfold f_X11_meddle f_X12_drawTick
  rw [f_of a1', f_of b1']
  dsimp only
  rw [mi']
  by_cases g : Int32.ofNat k1 < sg_I ρ1 344 27
  · rw [if_pos g, if_pos g]
    obtain ⟨w, σ2, ρ2, hw, a2, b2, Y2, I2, I2'⟩ := dd_v Y1.1 Y1.2.2.2.2.1 Y1.2.2.2.1 (j := n') (by omega)
    obtain ⟨s, σ3, ρ3, hs, a3, b3, Y3, I3, I3'⟩ := dd_v Y2.1 Y2.2.2.2.2.1 Y2.2.2.2.1 (j := 9) (by omega)
    have a3' : f_X11_draw 0 9 σ2 = some (Int32.ofNat s, σ3) := a3
    have b3' : f_X12_draw 344 9 ρ2 = some (Int32.ofNat s, ρ3) := b3
    have r3 := Y3.1
    have c1 := Y1.1.cf
    have c3 := r3.cf
    have s2 := Y3.2.2.2.2.1
    have s3 : sg_I σ3 17 1 = Int32.ofNat n' := by rw [I3, I2, I1]; exact q3
    have e1 : sg_I σ1 17 1 = Int32.ofNat n' := by rw [I1]; exact q3
    have e2 : sg_I ρ1 344 20 = Int32.ofNat n' := Y1.2.2.2.2.1
    have iw := iw_v c3 hn s3 (Int32.ofNat w)
    rw [if_pos (by rw [o_ti (by omega)]; omega)] at iw
    have e18 := r3.w18 w (by omega)
    obtain ⟨v, z, p, q, v1, z1, qq1, p1, p2, w1, w2, w3, w4, w5, w6, w7, w8⟩ := r3.wh s2 hn hw
    obtain ⟨bb, cc, ⟨-, -, t1, t2, -⟩, -, -⟩ := r3.sp q
    have sv := sv_v (w := w) (y := s + 1) r3 (q := q) (p := p) (by omega) w8 w7 (by omega)
    have pn := pn_v (w := w) (y := s + 1) r3 (q := q) (p := p) (by omega) (by omega) w4 w3 (by omega)
    have R := rl_p (n := n') (w := w) (v := v) (z := z) (q := q) (p := (p + (s + 1)) % hL (sg_I ρ3) q) r3 hn s2 hw ⟨v1, z1, qq1, Nat.mod_lt _ (by omega)⟩ w1 w2 w4 w5 w6 w8
    have Y4 : YS σ3 ρ3 (put_I σ3 (20 + w) 2 (Int32.ofNat ((p + (s + 1)) % hL (sg_I ρ3) q))) (put_I ρ3 359 (4 * w + 2) (Int32.ofNat ((p + (s + 1)) % hL (sg_I ρ3) q))) n' := ⟨R.1, R.2.1, R.2.2, Y3.2.2.2.1, by rw [gI_a (by decide)]; exact s2, gI_n (by omega)⟩
    obtain ⟨τ, υ, x1, x2, x3⟩ := m2_v Y4.1 hn h0 Y4.2.2.2.2.1 Y4.2.2.2.1
    have R1 : sg_R σ1 0 13 = some 17 := by simp only [c1]
    have R3 : sg_R σ3 0 13 = some 17 := by simp only [c3]
    have R3' : sg_R σ3 17 0 = some 18 := by simp only [c3]
    have L3 : sg_L σ3 18 = 4 := by simp only [c3]
    refine ⟨τ, υ, ?_, ?_, (((Y1.tr Y2).tr Y3).tr Y4).tr x3⟩
    · rw [f_of R1, e1, f_of a2]
      dsimp only
      rw [f_of a3']
      dsimp only
      rw [f_of iw, if_neg (by decide), f_of R3, f_of R3', L3, if_neg (o_in (by omega) (by omega)), o_tn (by omega), e18, o_s, f_of sv]
      exact x1
    · rw [e2, f_of b2]
      dsimp only
      rw [f_of b3']
      dsimp only
      rw [o_s, f_of pn]
      exact x2
  · rw [if_neg g, if_neg g]
    obtain ⟨τ, υ, x1, x2, x3⟩ := m2_v Y1.1 hn h0 Y1.2.2.2.2.1 Y1.2.2.2.1
    exact ⟨τ, υ, x1, x2, Y1.tr x3⟩
theorem yz_v {n y : Nat} (hn : n ≤ 4) (h0 : 0 < n) (hy : y ≤ 60) : ∀ (j k m m' t : Nat) (σ ρ : Sg), k + j = y → j < m → j < m' → Rel σ ρ → DJ σ ρ → sg_I ρ 344 20 = Int32.ofNat n → sg_I ρ 359 19 = Int32.ofNat t → t + j ≤ 9999 → ∃ p q, f_X11_years_L43 20000 0 m (Int32.ofNat y) (Int32.ofNat k) σ = some p ∧ f_X12_years_L25 20000 344 m' (Int32.ofNat y) (Int32.ofNat k) ρ = some q ∧ p.1 = q.1 ∧ Rel p.2 q.2 ∧ FC σ p.2 ∧ FR ρ q.2 := by
  intro j
  induction j with
  | zero =>
    intro k m m' t σ ρ hk hm hm' r J e i4 ht
    obtain ⟨m, rfl⟩ : ∃ x, m = x + 1 := ⟨m - 1, by omega⟩
    obtain ⟨m', rfl⟩ : ∃ x, m' = x + 1 := ⟨m' - 1, by omega⟩
    have c := r.cf
    have d := r.rf
    obtain ⟨f, o, c', t', g1, g2, g3, g4, g5, i1, i2, i3, i4', i5, i6, i7, i8⟩ := r.gl e hn h0
    have nl : ¬ Int32.ofNat k < Int32.ofNat y := by rw [o_lt (by omega) (by omega)]; omega
    refine ⟨(sg_I σ 17 5, σ), (sg_I ρ 359 19, ρ), ?_, ?_, i8.trans i4'.symm, r, FC.rf, FR.rf⟩
    · rw [f_X11_years_L43, if_neg nl]
      simp only [c, Option.bind_some]
    · rw [f_X12_years_L25, if_neg nl]
      simp only [Option.bind_some, ↓reduceIte, gI_I, gI_R, gI_J, gR_I, gR_R, gR_J, gL_I, gL_R, gL_J, gN_I, gN_R, gN_J, gJ_I, gJ_R, Int32.reduceLT, e_1_0, Int32.reduceToNatClampNeg, Int32.reduceToInt, Int.reduceLE, Int.reduceLT, Int.reduceNeg, Int.reduceEq,  Nat.reduceLT, Nat.reduceLeDiff, Nat.reduceEqDiff, Nat.reduceAdd, Nat.reduceMul, false_or, or_false, true_and, and_true, false_and, and_false, not_false_eq_true, not_true_eq_false, or_self, and_self, true_or, or_true, d]
  | succ j ih =>
    intro k m m' t σ ρ hk hm hm' r J e i4 ht
    obtain ⟨m, rfl⟩ : ∃ x, m = x + 1 := ⟨m - 1, by omega⟩
    obtain ⟨m', rfl⟩ : ∃ x, m' = x + 1 := ⟨m' - 1, by omega⟩
    have c := r.cf
    obtain ⟨τ1, υ1, k1, k2, k3, k4, k5, k6, k7, k8, k9, k10, k11⟩ := ke_v r
    have J1 : DJ τ1 υ1 := by
      show sg_J τ1 0 19 = sg_J υ1 344 30
      rw [k6.2.2.2, k7.2.2.2]
      exact J
    obtain ⟨τ2, υ2, m1, m2, m3⟩ := m3_v k3 hn h0 (by rw [k10 20 (by omega)]; exact e) J1
    obtain ⟨τ3, υ3, a1, a2, a3, a4, a5, a6, a7, a8, a9⟩ := tc_v m3.1 hn h0 m3.2.2.2.2.1 (t := t) (by rw [m3.2.2.2.2.2, k9 359 (by omega) (by omega)]; exact i4) (by omega)
    obtain ⟨p, q, b1, b2, b3, b4, b5, b6⟩ := ih (k + 1) m m' (t + 1) τ3 υ3 (by omega) (by omega) (by omega) a3 (by
      show sg_J τ3 0 19 = sg_J υ3 344 30
      rw [a6, a7]
      exact m3.2.2.2.1) a8 a9 (by omega)
    have pl : Int32.ofNat k < Int32.ofNat y := by rw [o_lt (by omega) (by omega)]; omega
    refine ⟨p, q, ?_, ?_, b3, b4, ((k4.tr m3.2.1).tr a4).tr b5, ((k5.tr m3.2.2.1).tr a5).tr b6⟩
    · rw [f_X11_years_L43, if_pos pl]
      simp only [c, Option.bind_some, k1, m1, a1, o_s, b1]
    · rw [f_X12_years_L25, if_pos pl]
      simp only [Option.bind_some, k2, m2, a2, o_s, b2]
theorem p2_years : so_years p2_I 20000 := by
  intro x s
  refine Sm.so ?_
  intro σ ρ r
  obtain ⟨n, h1, h2, h3, h4, h5⟩ := r.nw
  have c := r.cf
  have d := r.rf
  have il := il_v c h1 h3
  have e1 : (1 : Int32).toInt = 1 := rfl
  have e60 : (60 : Int32).toInt = 60 := rfl
  by_cases g : 0 < n
  · rw [if_pos g] at il
    have n0 : ¬ sg_I ρ 344 20 = 0 := by rw [h2, l_0, o_eq (by omega) (by omega)]; omega
    by_cases gx : 1 ≤ x.toInt ∧ x.toInt ≤ 60
    · have x1 : ¬ x < 1 := by rw [i_lt]; omega
      have x2 : ¬ 60 < x := by rw [i_lt]; omega
      obtain ⟨f, o, c', t, f1, f2, o1, c1, t1, i1, i2, i3, i4, i5, i6, i7, i8⟩ := r.gl h2 h1 g
      obtain ⟨y, y1, y2, rfl⟩ := x_1 (a := 1) (b := 60) gx
      have sm := o_add t y
      by_cases gc : 9999 < t + y
      · have gs : (9999 : Int32) < Int32.ofNat (t + y) := by rw [l_9999, o_lt (by omega) (by omega)]; exact gc
        exact ⟨(-1, σ), (-1, ρ), by unfold f_X11_years; simp only [Option.bind_some, ↓reduceIte, gI_I, gI_R, gI_J, gR_I, gR_R, gR_J, gL_I, gL_R, gL_J, gN_I, gN_R, gN_J, gJ_I, gJ_R, Int32.reduceLT, e_1_0, Int32.reduceToNatClampNeg, Int32.reduceToInt, Int.reduceLE, Int.reduceLT, Int.reduceNeg, Int.reduceEq,  Nat.reduceLT, Nat.reduceLeDiff, Nat.reduceEqDiff, Nat.reduceAdd, Nat.reduceMul, false_or, or_false, true_and, and_true, false_and, and_false, not_false_eq_true, not_true_eq_false, or_self, and_self, true_or, or_true, il, x1, x2, c, i8, sm, gs], by unfold f_X12_years f_X12_areTicks; simp only [Option.bind_some, ↓reduceIte, gI_I, gI_R, gI_J, gR_I, gR_R, gR_J, gL_I, gL_R, gL_J, gN_I, gN_R, gN_J, gJ_I, gJ_R, Int32.reduceLT, e_1_0, Int32.reduceToNatClampNeg, Int32.reduceToInt, Int.reduceLE, Int.reduceLT, Int.reduceNeg, Int.reduceEq,  Nat.reduceLT, Nat.reduceLeDiff, Nat.reduceEqDiff, Nat.reduceAdd, Nat.reduceMul, false_or, or_false, true_and, and_true, false_and, and_false, not_false_eq_true, not_true_eq_false, or_self, and_self, true_or, or_true, n0, in_v, gx, d, i4, sm, gs], rfl, r, FC.rf, FR.rf⟩
      · have gs : ¬ (9999 : Int32) < Int32.ofNat (t + y) := by rw [l_9999, o_lt (by omega) (by omega)]; exact gc
        obtain ⟨p, q, a1, a2, a3, a4, a5, a6⟩ := yz_v (n := n) (y := y) h1 g y2 y 0 20000 20000 t (put_J σ 0 19 s) (put_J ρ 344 30 s) (by omega) (by omega) (by omega) r (by
          show sg_J _ 0 19 = sg_J _ 344 30
          rw [gJ_J, if_pos ⟨rfl, rfl⟩, gJ_J, if_pos ⟨rfl, rfl⟩]) h2 i4 (by omega)
        have a1' : f_X11_years_L43 20000 0 20000 (Int32.ofNat y) 0 (put_J σ 0 19 s) = some p := a1
        have a2' : f_X12_years_L25 20000 344 20000 (Int32.ofNat y) 0 (put_J ρ 344 30 s) = some q := a2
        exact ⟨p, q, by unfold f_X11_years; simp only [Option.bind_some, ↓reduceIte, gI_I, gI_R, gI_J, gR_I, gR_R, gR_J, gL_I, gL_R, gL_J, gN_I, gN_R, gN_J, gJ_I, gJ_R, Int32.reduceLT, e_1_0, Int32.reduceToNatClampNeg, Int32.reduceToInt, Int.reduceLE, Int.reduceLT, Int.reduceNeg, Int.reduceEq,  Nat.reduceLT, Nat.reduceLeDiff, Nat.reduceEqDiff, Nat.reduceAdd, Nat.reduceMul, false_or, or_false, true_and, and_true, false_and, and_false, not_false_eq_true, not_true_eq_false, or_self, and_self, true_or, or_true, il, x1, x2, c, i8, sm, gs, a1'], by unfold f_X12_years f_X12_areTicks; simp only [Option.bind_some, ↓reduceIte, gI_I, gI_R, gI_J, gR_I, gR_R, gR_J, gL_I, gL_R, gL_J, gN_I, gN_R, gN_J, gJ_I, gJ_R, Int32.reduceLT, e_1_0, Int32.reduceToNatClampNeg, Int32.reduceToInt, Int.reduceLE, Int.reduceLT, Int.reduceNeg, Int.reduceEq,  Nat.reduceLT, Nat.reduceLeDiff, Nat.reduceEqDiff, Nat.reduceAdd, Nat.reduceMul, false_or, or_false, true_and, and_true, false_and, and_false, not_false_eq_true, not_true_eq_false, or_self, and_self, true_or, or_true, n0, in_v, gx, d, i4, sm, gs, a2'], a3, a4, (FC.putJ (by omega)).tr a5, FR.putJ.tr a6⟩
    · refine ⟨(-1, σ), (-1, ρ), ?_, ?_, rfl, r, FC.rf, FR.rf⟩
      · unfold f_X11_years
        by_cases x1 : x < 1
        · simp only [Option.bind_some, ↓reduceIte, gI_I, gI_R, gI_J, gR_I, gR_R, gR_J, gL_I, gL_R, gL_J, gN_I, gN_R, gN_J, gJ_I, gJ_R, Int32.reduceLT, e_1_0, Int32.reduceToNatClampNeg, Int32.reduceToInt, Int.reduceLE, Int.reduceLT, Int.reduceNeg, Int.reduceEq,  Nat.reduceLT, Nat.reduceLeDiff, Nat.reduceEqDiff, Nat.reduceAdd, Nat.reduceMul, false_or, or_false, true_and, and_true, false_and, and_false, not_false_eq_true, not_true_eq_false, or_self, and_self, true_or, or_true, il, x1]
        · have x2 : 60 < x := by rw [i_lt] at x1 ⊢; omega
          simp only [Option.bind_some, ↓reduceIte, gI_I, gI_R, gI_J, gR_I, gR_R, gR_J, gL_I, gL_R, gL_J, gN_I, gN_R, gN_J, gJ_I, gJ_R, Int32.reduceLT, e_1_0, Int32.reduceToNatClampNeg, Int32.reduceToInt, Int.reduceLE, Int.reduceLT, Int.reduceNeg, Int.reduceEq,  Nat.reduceLT, Nat.reduceLeDiff, Nat.reduceEqDiff, Nat.reduceAdd, Nat.reduceMul, false_or, or_false, true_and, and_true, false_and, and_false, not_false_eq_true, not_true_eq_false, or_self, and_self, true_or, or_true, il, x1, x2]
      · unfold f_X12_years f_X12_areTicks
        simp only [Option.bind_some, ↓reduceIte, gI_I, gI_R, gI_J, gR_I, gR_R, gR_J, gL_I, gL_R, gL_J, gN_I, gN_R, gN_J, gJ_I, gJ_R, Int32.reduceLT, e_1_0, Int32.reduceToNatClampNeg, Int32.reduceToInt, Int.reduceLE, Int.reduceLT, Int.reduceNeg, Int.reduceEq,  Nat.reduceLT, Nat.reduceLeDiff, Nat.reduceEqDiff, Nat.reduceAdd, Nat.reduceMul, false_or, or_false, true_and, and_true, false_and, and_false, not_false_eq_true, not_true_eq_false, or_self, and_self, true_or, or_true, n0, in_v, gx]
  · rw [if_neg g] at il
    have n0 : sg_I ρ 344 20 = 0 := by rw [h2, l_0, o_eq (by omega) (by omega)]; omega
    exact ⟨(-1, σ), (-1, ρ), by unfold f_X11_years; simp only [Option.bind_some, ↓reduceIte, gI_I, gI_R, gI_J, gR_I, gR_R, gR_J, gL_I, gL_R, gL_J, gN_I, gN_R, gN_J, gJ_I, gJ_R, Int32.reduceLT, e_1_0, Int32.reduceToNatClampNeg, Int32.reduceToInt, Int.reduceLE, Int.reduceLT, Int.reduceNeg, Int.reduceEq,  Nat.reduceLT, Nat.reduceLeDiff, Nat.reduceEqDiff, Nat.reduceAdd, Nat.reduceMul, false_or, or_false, true_and, and_true, false_and, and_false, not_false_eq_true, not_true_eq_false, or_self, and_self, true_or, or_true, il], by unfold f_X12_years; simp only [Option.bind_some, ↓reduceIte, gI_I, gI_R, gI_J, gR_I, gR_R, gR_J, gL_I, gL_R, gL_J, gN_I, gN_R, gN_J, gJ_I, gJ_R, Int32.reduceLT, e_1_0, Int32.reduceToNatClampNeg, Int32.reduceToInt, Int.reduceLE, Int.reduceLT, Int.reduceNeg, Int.reduceEq,  Nat.reduceLT, Nat.reduceLeDiff, Nat.reduceEqDiff, Nat.reduceAdd, Nat.reduceMul, false_or, or_false, true_and, and_true, false_and, and_false, not_false_eq_true, not_true_eq_false, or_self, and_self, true_or, or_true, n0], rfl, r, FC.rf, FR.rf⟩
