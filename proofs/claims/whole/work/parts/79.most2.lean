/-! ===== what wheels show now ===== -/
theorem ms_v (a x : Int32) : (a ||| x) &&& 67108863 = (a &&& 67108863) ||| (x &&& 67108863) := by
  rw [← Int32.toBitVec_inj]
  exact BitVec.and_or_distrib_right
set_option maxRecDepth 100000 in
theorem ms_k : ∀ k : Nat, k ≤ 26 → ((1 : Int32) <<< (Int32.ofNat k &&& 31)) &&& 67108863 = (if k = 26 then (0 : Int32) else (1 : Int32) <<< (Int32.ofNat k &&& 31)) := by decide +kernel
theorem sh_w {σ ρ : Sg} (r : Rel σ ρ) {n w : Nat} (hn : n ≤ 4) (e : sg_I ρ 344 20 = Int32.ofNat n) (hw : w < n) : f_X12_showsOf 344 (Int32.ofNat w) ρ = some (sh_ ρ n w) := sh_r r hn e hw r.rf rfl rfl (fun _ _ => rfl)
theorem sn_e {σ ρ : Sg} (r : Rel σ ρ) {n : Nat} (hn : n ≤ 4) (e : sg_I ρ 344 20 = Int32.ofNat n) (h3 : sg_I σ 17 1 = Int32.ofNat n) : ∃ v, f_X11_shownNow 20000 0 σ = some v ∧ f_X12_shownOnes 20000 344 ρ = some v := by
  obtain ⟨R1, R2, L2⟩ := cr_3 r.cf
  have w18 := r.w18
  have lp : ∀ (j k m m' : Nat) (a b : Int32), k + j = n → j < m → j < m' → a &&& 67108863 = b → ∃ v, f_X11_shownNow_L4 20000 0 m a (Int32.ofNat k) σ = some v ∧ f_X12_shownOnes_L4 20000 344 m' b (Int32.ofNat k) ρ = some v := by
    intro j
    induction j with
    | zero =>
      intro k m m' a b hk hm hm' hab
      obtain ⟨m, rfl⟩ : ∃ x, m = x + 1 := ⟨m - 1, by omega⟩
      obtain ⟨m', rfl⟩ : ∃ x, m' = x + 1 := ⟨m' - 1, by omega⟩
      have nl : ¬ Int32.ofNat k < Int32.ofNat n := by rw [o_lt (by omega) (by omega)]; omega
      have wb : f_X11_withoutBlank a = some b := by rw [← hab]; rfl
      exact ⟨b, by rw [f_X11_shownNow_L4, f_of R1, h3, if_neg nl, f_of wb], by rw [f_X12_shownOnes_L4, e, if_neg nl]⟩
    | succ j ih =>
      intro k m m' a b hk hm hm' hab
      obtain ⟨m, rfl⟩ : ∃ x, m = x + 1 := ⟨m - 1, by omega⟩
      obtain ⟨m', rfl⟩ : ∃ x, m' = x + 1 := ⟨m' - 1, by omega⟩
      have pl : Int32.ofNat k < Int32.ofNat n := by rw [o_lt (by omega) (by omega)]; omega
      obtain ⟨p, p1, p2⟩ := x_ob (B := 26) (sh_b r hn e k)
      have sc := sh_c r hn e (show k < n by omega)
      have sr := sh_w r hn e (show k < n by omega)
      rw [p2] at sc sr
      have mk := ms_k p p1
      rw [f_X11_shownNow_L4, f_of R1, h3, if_pos pl, f_of R2, L2, if_neg (o_in (by omega) (by omega)), o_tn (by omega), w18 k (by omega), f_of sc, f_X12_shownOnes_L4, e, if_pos pl, f_of sr, o_s k]
      unfold f_X12_shownOnes_B34
      rw [o_s k]
      by_cases q : p = 26
      · rw [if_pos q] at mk
        obtain ⟨v, v1, v2⟩ := ih (k + 1) m m' (a ||| (1 <<< (Int32.ofNat p &&& 31))) (b ||| 0) (by omega) (by omega) (by omega) (by rw [ms_v, hab, mk])
        refine ⟨v, v1, ?_⟩
        rw [if_pos (by rw [q]; rfl)]
        exact v2
      · rw [if_neg q] at mk
        obtain ⟨v, v1, v2⟩ := ih (k + 1) m m' (a ||| (1 <<< (Int32.ofNat p &&& 31))) (b ||| (1 <<< (Int32.ofNat p &&& 31))) (by omega) (by omega) (by omega) (by rw [ms_v, hab, mk])
        refine ⟨v, v1, ?_⟩
        rw [if_neg (by rw [l_26, o_eq (by omega) (by omega)]; exact q), f_of sr]
        exact v2
  obtain ⟨v, v1, v2⟩ := lp n 0 20000 20000 0 0 (by omega) (by omega) (by omega) (by decide)
  refine ⟨v, ?_, ?_⟩
  · unfold f_X11_shownNow
    exact v1
  · unfold f_X12_shownOnes
    exact v2
/-! twins -/
/-- the sum of c numbers from s on -/
def su_ (F : Nat → Nat) : Nat → Nat → Nat
  | 0, _ => 0
  | c + 1, s => F s + su_ F c (s + 1)
def tw_ (s : Nat → Int32) (i j : Nat) : Nat := if s i ≠ 26 ∧ s j = s i then 1 else 0
theorem tw_le {s : Nat → Int32} {i j : Nat} : tw_ s i j ≤ 1 := by
  unfold tw_
  split <;> omega
theorem tw_c {s : Nat → Int32} {i j : Nat} : tw_ s i j = tw_ s j i := by
  unfold tw_
  by_cases h : s j = s i
  · rw [h]
  · rw [if_neg (fun q => h q.2), if_neg (fun q => h q.2.symm)]
theorem su_le {F : Nat → Nat} {b : Nat} (h : ∀ k, F k ≤ b) : ∀ c s, su_ F c s ≤ b * c
  | 0, s => by show 0 ≤ b * 0; omega
  | c + 1, s => by
    have h1 := su_le h c (s + 1)
    have h2 := h s
    show F s + su_ F c (s + 1) ≤ b * (c + 1)
    rw [Nat.mul_add, Nat.mul_one]
    omega
theorem tc_i {σ : Sg} {n i : Nat} {s : Nat → Int32} (c : CF (sg_R σ) (sg_L σ)) (w18 : ∀ w, w < 4 → sg_R σ 18 w = some (20 + w)) (hn : n ≤ 4) (e : sg_I σ 17 1 = Int32.ofNat n) (hs : ∀ w, w < n → f_X11_shown 0 (some (20 + w)) σ = some (s w)) {k4 : Int32 → Int32 → Option Int32} : ∀ (j k m a : Nat), k + j = n → j < m → f_X11_twins_L34 20000 0 k4 m (Int32.ofNat a) (Int32.ofNat i) (s i) (Int32.ofNat k) σ = k4 (Int32.ofNat (a + su_ (tw_ s i) j k)) (Int32.ofNat (i + 1)) := by
  obtain ⟨R1, R2, L2⟩ := cr_3 c
  have z : s i = 26 → ∀ j k, su_ (tw_ s i) j k = 0 := by
    intro h j
    induction j with
    | zero => intro k; rfl
    | succ j ih =>
      intro k
      show tw_ s i k + su_ (tw_ s i) j (k + 1) = 0
      rw [ih]
      unfold tw_
      rw [if_neg (fun q => q.1 h)]
  intro j
  induction j with
  | zero =>
    intro k m a hk hm
    obtain ⟨m, rfl⟩ : ∃ x, m = x + 1 := ⟨m - 1, by omega⟩
    rw [f_X11_twins_L34, f_of R1, e, if_neg (by rw [o_lt (by omega) (by omega)]; omega)]
    unfold f_X11_twins_B84
    rw [o_s]
    rfl
  | succ j ih =>
    intro k m a hk hm
    obtain ⟨m, rfl⟩ : ∃ x, m = x + 1 := ⟨m - 1, by omega⟩
    rw [f_X11_twins_L34, f_of R1, e, if_pos (by rw [o_lt (by omega) (by omega)]; omega)]
    by_cases q : s i = 26
    · rw [if_pos q, z q]
      unfold f_X11_twins_B84
      rw [o_s]
      rfl
    · rw [if_neg q, f_of R2, L2, if_neg (o_in (by omega) (by omega)), o_tn (by omega), w18 k (by omega), f_of (hs k (by omega))]
      unfold f_X11_twins_B76
      have es : su_ (tw_ s i) (j + 1) k = tw_ s i k + su_ (tw_ s i) j (k + 1) := rfl
      by_cases q2 : s k = s i
      · have et : tw_ s i k = 1 := if_pos ⟨q, q2⟩
        rw [if_pos q2, es, et, o_s, o_s, ← Nat.add_assoc]
        exact ih (k + 1) m (a + 1) (by omega) (by omega)
      · have et : tw_ s i k = 0 := if_neg (fun h => q2 h.2)
        rw [if_neg q2, es, et, Int32.add_zero, o_s, Nat.zero_add]
        exact ih (k + 1) m a (by omega) (by omega)
theorem tr_i {ρ : Sg} {w : Nat} {s : Nat → Int32} (hw : w < 4) (hs : ∀ v, v ≤ w → f_X12_showsOf 344 (Int32.ofNat v) ρ = some (s v)) {k4 : Int32 → Int32 → Option Int32} : ∀ (j k m a : Nat), k + j = w → j < m → f_X12_twins_L14 20000 344 k4 m (Int32.ofNat a) (Int32.ofNat w) (Int32.ofNat k) ρ = k4 (Int32.ofNat (a + su_ (tw_ s w) j k)) (Int32.ofNat (w + 1)) := by
  intro j
  induction j with
  | zero =>
    intro k m a hk hm
    obtain ⟨m, rfl⟩ : ∃ x, m = x + 1 := ⟨m - 1, by omega⟩
    rw [f_X12_twins_L14, if_neg (by rw [o_lt (by omega) (by omega)]; omega), o_s]
    rfl
  | succ j ih =>
    intro k m a hk hm
    obtain ⟨m, rfl⟩ : ∃ x, m = x + 1 := ⟨m - 1, by omega⟩
    have es : su_ (tw_ s w) (j + 1) k = tw_ s w k + su_ (tw_ s w) j (k + 1) := rfl
    have ih0 := ih (k + 1) m a (by omega) (by omega)
    have ih1 := ih (k + 1) m (a + 1) (by omega) (by omega)
    rw [f_X12_twins_L14, if_pos (by rw [o_lt (by omega) (by omega)]; omega), f_of (hs w (by omega))]
    unfold f_X12_twins_B47 f_X12_twins_B48
    rw [o_s k, es]
    by_cases q : s w = 26
    · have et : tw_ s w k = 0 := if_neg (fun h => h.1 q)
      rw [if_pos q, et, Int32.add_zero, Nat.zero_add]
      exact ih0
    · rw [if_neg q, f_of (hs w (by omega)), f_of (hs k (by omega))]
      by_cases q2 : s w = s k
      · have et : tw_ s w k = 1 := if_pos ⟨q, q2.symm⟩
        rw [if_pos q2, et, o_s, ← Nat.add_assoc]
        exact ih1
      · have et : tw_ s w k = 0 := if_neg (fun h => q2 h.2.symm)
        rw [if_neg q2, et, Int32.add_zero, Nat.zero_add]
        exact ih0
theorem tw_e {σ ρ : Sg} (r : Rel σ ρ) {n : Nat} (hn : n ≤ 4) (e : sg_I ρ 344 20 = Int32.ofNat n) (h3 : sg_I σ 17 1 = Int32.ofNat n) : ∃ v, f_X11_twins 20000 0 σ = some v ∧ f_X12_twins 20000 344 ρ = some v := by
  obtain ⟨R1, R2, L2⟩ := cr_3 r.cf
  have w18 := r.w18
  have sc : ∀ w, w < n → f_X11_shown 0 (some (20 + w)) σ = some (sh_ ρ n w) := fun w hw => sh_c r hn e hw
  have sr : ∀ w, w < n → f_X12_showsOf 344 (Int32.ofNat w) ρ = some (sh_ ρ n w) := fun w hw => sh_w r hn e hw
  generalize sh_ ρ n = s at sc sr
  have CO2 : ∀ (j i m a : Nat), i + j = n → j < m → f_X11_twins_L4 20000 0 m (Int32.ofNat a) (Int32.ofNat i) σ = some (Int32.ofNat (a + su_ (fun i => su_ (tw_ s i) (n - (i + 1)) (i + 1)) j i)) := by
    intro j
    induction j with
    | zero =>
      intro i m a hi hm
      obtain ⟨m, rfl⟩ : ∃ x, m = x + 1 := ⟨m - 1, by omega⟩
      rw [f_X11_twins_L4, f_of R1, h3, if_neg (by rw [o_lt (by omega) (by omega)]; omega)]
      rfl
    | succ j ih =>
      intro i m a hi hm
      obtain ⟨m, rfl⟩ : ∃ x, m = x + 1 := ⟨m - 1, by omega⟩
      have ti := tc_i r.cf w18 hn h3 sc (i := i) (k4 := fun v1 v2 => f_X11_twins_L4 20000 0 m v1 v2 σ) (n - (i + 1)) (i + 1) 20000 a (by omega) (by omega)
      have ih1 := ih (i + 1) m (a + su_ (tw_ s i) (n - (i + 1)) (i + 1)) (by omega) (by omega)
      rw [f_X11_twins_L4, f_of R1, h3, if_pos (by rw [o_lt (by omega) (by omega)]; omega), f_of R2, L2, if_neg (o_in (by omega) (by omega)), o_tn (by omega), w18 i (by omega), f_of (sc i (by omega)), o_s i]
      refine ti.trans (ih1.trans ?_)
      rw [Nat.add_assoc]
      rfl
  have RO2 : ∀ (j w m a : Nat), w + j = n → j < m → f_X12_twins_L4 20000 344 m (Int32.ofNat a) (Int32.ofNat w) ρ = some (Int32.ofNat (a + su_ (fun w => su_ (tw_ s w) w 0) j w)) := by
    intro j
    induction j with
    | zero =>
      intro w m a hw hm
      obtain ⟨m, rfl⟩ : ∃ x, m = x + 1 := ⟨m - 1, by omega⟩
      rw [f_X12_twins_L4, e, if_neg (by rw [o_lt (by omega) (by omega)]; omega)]
      rfl
    | succ j ih =>
      intro w m a hw hm
      obtain ⟨m, rfl⟩ : ∃ x, m = x + 1 := ⟨m - 1, by omega⟩
      have ti := tr_i (w := w) (s := s) (by omega) (fun v hv => sr v (by omega)) (k4 := fun v1 v2 => f_X12_twins_L4 20000 344 m v1 v2 ρ) w 0 20000 a (by omega) (by omega)
      have ih1 := ih (w + 1) m (a + su_ (tw_ s w) w 0) (by omega) (by omega)
      rw [f_X12_twins_L4, e, if_pos (by rw [o_lt (by omega) (by omega)]; omega)]
      refine ti.trans (ih1.trans ?_)
      rw [Nat.add_assoc]
      rfl
  have a := CO2 n 0 20000 0 (by omega) (by omega)
  have b := RO2 n 0 20000 0 (by omega) (by omega)
  have key : su_ (fun i => su_ (tw_ s i) (n - (i + 1)) (i + 1)) n 0 = su_ (fun w => su_ (tw_ s w) w 0) n 0 := by
    have t01 := tw_c (s := s) (i := 0) (j := 1)
    have t02 := tw_c (s := s) (i := 0) (j := 2)
    have t03 := tw_c (s := s) (i := 0) (j := 3)
    have t12 := tw_c (s := s) (i := 1) (j := 2)
    have t13 := tw_c (s := s) (i := 1) (j := 3)
    have t23 := tw_c (s := s) (i := 2) (j := 3)
    match n, hn with
    | 0, _ => rfl
    | 1, _ => rfl
    | 2, _ =>
      show (tw_ s 0 1 + 0) + (0 + 0) = 0 + ((tw_ s 1 0 + 0) + 0)
      omega
    | 3, _ =>
      show (tw_ s 0 1 + (tw_ s 0 2 + 0)) + ((tw_ s 1 2 + 0) + (0 + 0)) = 0 + ((tw_ s 1 0 + 0) + ((tw_ s 2 0 + (tw_ s 2 1 + 0)) + 0))
      omega
    | 4, _ =>
      show (tw_ s 0 1 + (tw_ s 0 2 + (tw_ s 0 3 + 0))) + ((tw_ s 1 2 + (tw_ s 1 3 + 0)) + ((tw_ s 2 3 + 0) + (0 + 0))) = 0 + ((tw_ s 1 0 + 0) + ((tw_ s 2 0 + (tw_ s 2 1 + 0)) + ((tw_ s 3 0 + (tw_ s 3 1 + (tw_ s 3 2 + 0))) + 0)))
      omega
  rw [key] at a
  refine ⟨Int32.ofNat (0 + su_ (fun w => su_ (tw_ s w) w 0) n 0), ?_, ?_⟩
  · unfold f_X11_twins
    exact a
  · unfold f_X12_twins
    exact b
/-! bits of wheels -/
theorem B92 {K : Int32 → Int32 → Int32 → Sg → Option (Int32 × Sg)} {x a : Int32} {k : Nat} {b : Bool} {ρ : Sg} : f_X12_onesWho_B92 20000 344 K x a (Int32.ofNat k) (bi_ b) ρ = K x (a ||| (if b = true then 1 <<< (Int32.ofNat k &&& 31) else 0)) (Int32.ofNat (k + 1)) ρ := by
  unfold f_X12_onesWho_B92 f_X12_onesWho_B107
  rw [o_s k]
  cases b with
  | false => rw [if_pos bi_f, if_neg (by decide)]
  | true => rw [if_neg bi_t, if_pos rfl]
def bw_ (Q : Nat → Bool) : Nat → Nat → Int32 → Int32
  | 0, _, a => a
  | j + 1, k, a => bw_ Q j (k + 1) (a ||| (if Q k = true then 1 <<< (Int32.ofNat k &&& 31) else 0))
theorem bk_e {σ ρ : Sg} (r : Rel σ ρ) {n : Nat} (hn : n ≤ 4) (e : sg_I ρ 344 20 = Int32.ofNat n) (h3 : sg_I σ 17 1 = Int32.ofNat n) : ∃ v, f_X11_turningBack 20000 0 σ = some v ∧ f_X12_onesWho 20000 344 0 ρ = some (v, ρ) := by
  obtain ⟨R1, R2, L2⟩ := cr_3 r.cf
  have w18 := r.w18
  have d := r.rf
  have lp : ∀ (j k m m' : Nat) (a : Int32), k + j = n → j < m → j < m' → ∃ v, f_X11_turningBack_L4 20000 0 m a (Int32.ofNat k) σ = some v ∧ f_X12_onesWho_L4 20000 344 m' 0 a (Int32.ofNat k) ρ = some (v, ρ) := by
    intro j
    induction j with
    | zero =>
      intro k m m' a hk hm hm'
      obtain ⟨m, rfl⟩ : ∃ x, m = x + 1 := ⟨m - 1, by omega⟩
      obtain ⟨m', rfl⟩ : ∃ x, m' = x + 1 := ⟨m' - 1, by omega⟩
      have nl : ¬ Int32.ofNat k < Int32.ofNat n := by rw [o_lt (by omega) (by omega)]; omega
      exact ⟨a, by rw [f_X11_turningBack_L4, f_of R1, h3, if_neg nl], by rw [f_X12_onesWho_L4, e, if_neg nl]⟩
    | succ j ih =>
      intro k m m' a hk hm hm'
      obtain ⟨m, rfl⟩ : ∃ x, m = x + 1 := ⟨m - 1, by omega⟩
      obtain ⟨m', rfl⟩ : ∃ x, m' = x + 1 := ⟨m' - 1, by omega⟩
      have pl : Int32.ofNat k < Int32.ofNat n := by rw [o_lt (by omega) (by omega)]; omega
      obtain ⟨v, z, p, q, v1, z1, q1, p1, p2, w1, w2, w3, w4, w5, w6, w7, w8⟩ := r.wh e hn (show k < n by omega)
      have o1 : f_X12_of 344 (Int32.ofNat k) 1 ρ = some (Int32.ofNat z) := by rw [of_1 d (by omega), w2]
      rw [f_X11_turningBack_L4, f_of R1, h3, if_pos pl, f_of R2, L2, if_neg (o_in (by omega) (by omega)), o_tn (by omega), f_of (w18 k (by omega)), w6, f_X12_onesWho_L4, e, if_pos pl, if_pos rfl, f_of o1]
      unfold f_X11_turningBack_B38
      rw [o_s k]
      have hz2 : z = 0 ∨ z = 1 := by omega
      rcases hz2 with rfl | rfl
      · obtain ⟨v, v1, v2⟩ := ih (k + 1) m m' (a ||| 0) (by omega) (by omega) (by omega)
        refine ⟨v, ?_, ?_⟩
        · rw [if_pos (show Int32.ofNat 0 = 0 from rfl)]
          exact v1
        · rw [if_neg (show ¬ Int32.ofNat 0 = 1 by decide)]
          exact (B92 (b := false)).trans v2
      · obtain ⟨v, v1, v2⟩ := ih (k + 1) m m' (a ||| (1 <<< (Int32.ofNat k &&& 31))) (by omega) (by omega) (by omega)
        refine ⟨v, ?_, ?_⟩
        · rw [if_neg (show ¬ Int32.ofNat 1 = 0 by decide)]
          exact v1
        · rw [if_pos (show Int32.ofNat 1 = 1 from rfl)]
          exact (B92 (b := true)).trans v2
  obtain ⟨v, v1, v2⟩ := lp n 0 20000 20000 0 (by omega) (by omega) (by omega)
  refine ⟨v, ?_, ?_⟩
  · unfold f_X11_turningBack
    exact v1
  · unfold f_X12_onesWho
    exact v2
theorem br_e {σ ρ : Sg} (r : Rel σ ρ) {n : Nat} (hn : n ≤ 4) (e : sg_I ρ 344 20 = Int32.ofNat n) (h3 : sg_I σ 17 1 = Int32.ofNat n) : ∃ v, f_X11_bareNow 20000 0 σ = some v ∧ f_X12_onesWho 20000 344 1 ρ = some (v, ρ) := by
  obtain ⟨R1, R2, L2⟩ := cr_3 r.cf
  have w18 := r.w18
  have d := r.rf
  have lp : ∀ (j k m m' : Nat) (a : Int32), k + j = n → j < m → j < m' → ∃ v, f_X11_bareNow_L4 20000 0 m a (Int32.ofNat k) σ = some v ∧ f_X12_onesWho_L4 20000 344 m' 1 a (Int32.ofNat k) ρ = some (v, ρ) := by
    intro j
    induction j with
    | zero =>
      intro k m m' a hk hm hm'
      obtain ⟨m, rfl⟩ : ∃ x, m = x + 1 := ⟨m - 1, by omega⟩
      obtain ⟨m', rfl⟩ : ∃ x, m' = x + 1 := ⟨m' - 1, by omega⟩
      have nl : ¬ Int32.ofNat k < Int32.ofNat n := by rw [o_lt (by omega) (by omega)]; omega
      exact ⟨a, by rw [f_X11_bareNow_L4, f_of R1, h3, if_neg nl], by rw [f_X12_onesWho_L4, e, if_neg nl]⟩
    | succ j ih =>
      intro k m m' a hk hm hm'
      obtain ⟨m, rfl⟩ : ∃ x, m = x + 1 := ⟨m - 1, by omega⟩
      obtain ⟨m', rfl⟩ : ∃ x, m' = x + 1 := ⟨m' - 1, by omega⟩
      have pl : Int32.ofNat k < Int32.ofNat n := by rw [o_lt (by omega) (by omega)]; omega
      obtain ⟨v, z, p, q, v1, z1, q1, p1, p2, w1, w2, w3, w4, w5, w6, w7, w8⟩ := r.wh e hn (show k < n by omega)
      have o3 : f_X12_of 344 (Int32.ofNat k) 3 ρ = some (Int32.ofNat q) := by rw [of_3 d (by omega), w4]
      have is := is_v r (Int32.ofNat q)
      have js := js_v r (Int32.ofNat q)
      have z10 : ¬ (1 : Int32) = 0 := by decide
      by_cases g : 0 ≤ (Int32.ofNat q).toInt ∧ (Int32.ofNat q).toInt < hS (sg_I ρ)
      · obtain ⟨v, v1, v2⟩ := ih (k + 1) m m' (a ||| 0) (by omega) (by omega) (by omega)
        rw [if_pos g] at is js
        refine ⟨v, ?_, ?_⟩
        · rw [f_X11_bareNow_L4, f_of R1, h3, if_pos pl, f_of R2, L2, if_neg (o_in (by omega) (by omega)), o_tn (by omega), f_of (w18 k (by omega)), w8, f_of is, if_neg z10]
          unfold f_X11_bareNow_B42
          rw [o_s k]
          exact v1
        · rw [f_X12_onesWho_L4, e, if_pos pl, if_neg z10, if_pos rfl, f_of o3, f_of js, if_neg z10]
          exact (B92 (b := false)).trans v2
      · obtain ⟨v, v1, v2⟩ := ih (k + 1) m m' (a ||| (1 <<< (Int32.ofNat k &&& 31))) (by omega) (by omega) (by omega)
        rw [if_neg g] at is js
        refine ⟨v, ?_, ?_⟩
        · rw [f_X11_bareNow_L4, f_of R1, h3, if_pos pl, f_of R2, L2, if_neg (o_in (by omega) (by omega)), o_tn (by omega), f_of (w18 k (by omega)), w8, f_of is, if_pos rfl]
          unfold f_X11_bareNow_B42
          rw [o_s k]
          exact v1
        · rw [f_X12_onesWho_L4, e, if_pos pl, if_neg z10, if_pos rfl, f_of o3, f_of js, if_pos rfl]
          exact (B92 (b := true)).trans v2
  obtain ⟨v, v1, v2⟩ := lp n 0 20000 20000 0 (by omega) (by omega) (by omega)
  refine ⟨v, ?_, ?_⟩
  · unfold f_X11_bareNow
    exact v1
  · unfold f_X12_onesWho
    exact v2
theorem st_e {σ0 ρ0 : Sg} (r0 : Rel σ0 ρ0) {n : Nat} (hn : n ≤ 4) (e0 : sg_I ρ0 344 20 = Int32.ofNat n) : ∃ v τ υ, f_X11_still 20000 0 σ0 = some (v, τ) ∧ f_X12_onesWho 20000 344 2 ρ0 = some (v, υ) ∧ KC σ0 τ ∧ KU ρ0 υ := by
  have lp : ∀ (j k m m' : Nat) (a : Int32) (σ ρ : Sg), k + j = n → j < m → j < m' → Rel σ ρ → sg_I ρ 344 20 = Int32.ofNat n → ∃ v τ υ, f_X11_still_L4 20000 0 m a (Int32.ofNat k) σ = some (v, τ) ∧ f_X12_onesWho_L4 20000 344 m' 2 a (Int32.ofNat k) ρ = some (v, υ) ∧ KC σ τ ∧ KU ρ υ := by
    intro j
    induction j with
    | zero =>
      intro k m m' a σ ρ hk hm hm' r e
      obtain ⟨m, rfl⟩ : ∃ x, m = x + 1 := ⟨m - 1, by omega⟩
      obtain ⟨m', rfl⟩ : ∃ x, m' = x + 1 := ⟨m' - 1, by omega⟩
      obtain ⟨R1, R2, L2⟩ := cr_3 r.cf
      obtain ⟨n', q1, q2, h3, -⟩ := r.nw
      have en : n' = n := (o_eq (by omega) (by omega)).mp (q2.symm.trans e)
      subst en
      have nl : ¬ Int32.ofNat k < Int32.ofNat n' := by rw [o_lt (by omega) (by omega)]; omega
      exact ⟨a, σ, ρ, by rw [f_X11_still_L4, f_of R1, h3, if_neg nl], by rw [f_X12_onesWho_L4, e, if_neg nl], KC.rf, KU.rf⟩
    | succ j ih =>
      intro k m m' a σ ρ hk hm hm' r e
      obtain ⟨m, rfl⟩ : ∃ x, m = x + 1 := ⟨m - 1, by omega⟩
      obtain ⟨m', rfl⟩ : ∃ x, m' = x + 1 := ⟨m' - 1, by omega⟩
      obtain ⟨R1, R2, L2⟩ := cr_3 r.cf
      have d := r.rf
      obtain ⟨n', q1, q2, h3, -⟩ := r.nw
      have en : n' = n := (o_eq (by omega) (by omega)).mp (q2.symm.trans e)
      subst en
      have pl : Int32.ofNat k < Int32.ofNat n' := by rw [o_lt (by omega) (by omega)]; omega
      obtain ⟨v, z, p, q, v1, z1, qq1, p1, p2, w1, w2, w3, w4, w5, w6, w7, w8⟩ := r.wh e hn (show k < n' by omega)
      obtain ⟨x, τ, υ, a1, a2, a3, a4, -⟩ := tk_1 r hn e (show k < n' by omega)
      rw [w3] at a2
      have r2 : Rel τ υ := a4.kr.rel (a3.rel r)
      obtain ⟨R1', R2', L2'⟩ := cr_3 r2.cf
      have e2 : sg_I υ 344 20 = Int32.ofNat n' := by rw [a4.2 344 (by decide) (by decide)]; exact e
      have o2 : f_X12_of 344 (Int32.ofNat k) 2 ρ = some (Int32.ofNat p) := by rw [of_2 d (by omega), w3]
      have o2' : f_X12_of 344 (Int32.ofNat k) 2 υ = some (Int32.ofNat p) := by rw [of_2 r2.rf (by omega), a4.2 359 (by decide) (by decide), w3]
      have R24 : sg_R ρ 344 24 = some 359 := by simp only [d]
      have L59 : sg_L ρ 359 = 261 := by simp only [d]
      have n19 : ¬ ((19 : Int32) < 0 ∨ 261 ≤ 19) := by decide
      have t19 : (19 : Int32).toNatClampNeg = 19 := rfl
      have ep : sg_I τ (20 + k) 2 = Int32.ofNat p := by rw [a3.i (by omega)]; exact w7
      rw [f_X11_still_L4, f_of R1, h3, if_pos pl, f_of a1, f_X12_onesWho_L4, e, if_pos pl, if_neg (by decide), if_neg (by decide), f_of o2, f_of R24, L59, t19, if_neg n19, f_of a2]
      dsimp only
      rw [f_of R1', f_of R2', L2', if_neg (o_in (by omega) (by omega)), o_tn (by omega), f_of (r2.w18 k (by omega)), ep, f_of o2']
      unfold f_X11_still_B43
      rw [o_s k]
      by_cases g : x = Int32.ofNat p
      · obtain ⟨v, τ2, υ2, y1, y2, y3, y4⟩ := ih (k + 1) m m' (a ||| (1 <<< (Int32.ofNat k &&& 31))) τ υ (by omega) (by omega) (by omega) r2 e2
        rw [if_pos g, if_pos g]
        exact ⟨v, τ2, υ2, y1, (B92 (b := true)).trans y2, a3.tr y3, a4.tr y4⟩
      · obtain ⟨v, τ2, υ2, y1, y2, y3, y4⟩ := ih (k + 1) m m' (a ||| 0) τ υ (by omega) (by omega) (by omega) r2 e2
        rw [if_neg g, if_neg g]
        exact ⟨v, τ2, υ2, y1, (B92 (b := false)).trans y2, a3.tr y3, a4.tr y4⟩
  obtain ⟨v, τ, υ, y1, y2, y3, y4⟩ := lp n 0 20000 20000 0 σ0 ρ0 (by omega) (by omega) (by omega) r0 e0
  refine ⟨v, τ, υ, ?_, ?_, y3, y4⟩
  · unfold f_X11_still
    exact y1
  · unfold f_X12_onesWho
    exact y2
