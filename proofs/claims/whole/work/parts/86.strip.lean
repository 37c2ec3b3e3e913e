/-! ===== the reader of strips ===== -/
def pq_ (c : Int32) : Int32 := if c < 97 then (if c = 46 then 26 else -1) else if 122 < c then (if c = 46 then 26 else -1) else c - 97
theorem pq_c (c : Int32) : f_X9_pictureOf c = some (pq_ c) := by
  unfold f_X9_pictureOf f_X9_pictureOf_B17 pq_
  by_cases h1 : c < 97
  · rw [if_pos h1, if_pos h1]
    by_cases h2 : c = 46
    · rw [if_pos h2, if_pos h2]
    · rw [if_neg h2, if_neg h2]
  · rw [if_neg h1, if_neg h1]
    by_cases h3 : 122 < c
    · rw [if_pos h3, if_pos h3]
      by_cases h2 : c = 46
      · rw [if_pos h2, if_pos h2]
      · rw [if_neg h2, if_neg h2]
    · rw [if_neg h3, if_neg h3]
theorem pq_b (c : Int32) : pq_ c = -1 ∨ (0 ≤ (pq_ c).toInt ∧ (pq_ c).toInt ≤ 26 ∧ pq_ c = if c = 46 then 26 else c - 97) := by
  unfold pq_
  by_cases h1 : c < 97
  · rw [if_pos h1]
    by_cases h2 : c = 46
    · rw [if_pos h2, if_pos h2]; exact Or.inr (by decide)
    · rw [if_neg h2]; exact Or.inl rfl
  · rw [if_neg h1]
    by_cases h3 : 122 < c
    · rw [if_pos h3]
      by_cases h2 : c = 46
      · rw [if_pos h2, if_pos h2]; exact Or.inr (by decide)
      · rw [if_neg h2]; exact Or.inl rfl
    · rw [if_neg h3]
      have e1 : (97 : Int32).toInt = 97 := rfl
      have e2 : (122 : Int32).toInt = 122 := rfl
      rw [i_lt] at h1 h3
      have e3 := i_sub (x := c) (y := 97) (by omega) (by omega)
      have h2 : ¬ c = 46 := by
        rw [i_eq, show (46 : Int32).toInt = 46 from rfl]
        omega
      rw [if_neg h2]
      exact Or.inr ⟨by omega, by omega, rfl⟩
theorem pq_r (c : Int32) : f_X12_isPicture c = some (if pq_ c = -1 then 0 else 1) := by
  unfold f_X12_isPicture f_X12_isPicture_B12
  by_cases h1 : c < 97
  · have e : pq_ c = if c = 46 then 26 else -1 := if_pos h1
    rw [if_pos h1, e]
    by_cases h2 : c = 46
    · rw [if_pos h2, if_pos h2, if_neg (by decide)]
    · rw [if_neg h2, if_neg h2, if_pos rfl]
  · by_cases h3 : 122 < c
    · have e : pq_ c = if c = 46 then 26 else -1 := by
        unfold pq_
        rw [if_neg h1, if_pos h3]
      rw [if_neg h1, if_pos h3, e]
      by_cases h2 : c = 46
      · rw [if_pos h2, if_pos h2, if_neg (by decide)]
      · rw [if_neg h2, if_neg h2, if_pos rfl]
    · have e : pq_ c = c - 97 := by
        unfold pq_
        rw [if_neg h1, if_neg h3]
      rw [if_neg h1, if_neg h3, e, if_neg]
      have e1 : (97 : Int32).toInt = 97 := rfl
      have e2 : (122 : Int32).toInt = 122 := rfl
      have e4 : (-1 : Int32).toInt = -1 := rfl
      rw [i_lt] at h1 h3
      rw [i_eq, i_sub (by omega) (by omega)]
      omega
theorem pq_m : pq_ (-1) = -1 := by decide
/-- of the reference's cells the strip s and the reading's alone have changed -/
def KH (s : Nat) (ρ τ : Sg) : Prop := kp_ ρ τ ∧ (∀ a, a ≠ 344 → a ≠ 357 → a ≠ 358 → sg_I τ a = sg_I ρ a) ∧ (∀ j, j ≠ 3 → j ≠ 4 → sg_I τ 344 j = sg_I ρ 344 j) ∧ (∀ j, j < 16 * s → sg_I τ 357 j = sg_I ρ 357 j) ∧ (∀ j, j ≠ s → sg_I τ 358 j = sg_I ρ 358 j)
theorem KH.rf {s : Nat} {σ : Sg} : KH s σ σ := ⟨kp_.rf, fun _ _ _ _ => rfl, fun _ _ _ => rfl, fun _ _ => rfl, fun _ _ => rfl⟩
theorem KH.tr {s : Nat} {σ τ υ : Sg} (h : KH s σ τ) (k : KH s τ υ) : KH s σ υ := ⟨h.1.tr k.1, fun a h1 h2 h3 => (k.2.1 a h1 h2 h3).trans (h.2.1 a h1 h2 h3), fun j h1 h2 => (k.2.2.1 j h1 h2).trans (h.2.2.1 j h1 h2), fun j h1 => (k.2.2.2.1 j h1).trans (h.2.2.2.1 j h1), fun j h1 => (k.2.2.2.2 j h1).trans (h.2.2.2.2 j h1)⟩
theorem KH.put {s a j : Nat} {σ : Sg} {v : Int32} (h : (a = 344 ∧ (j = 3 ∨ j = 4)) ∨ (a = 357 ∧ 16 * s ≤ j) ∨ (a = 358 ∧ j = s)) : KH s σ (put_I σ a j v) := ⟨kp_.put, fun c h1 h2 h3 => gI_a (by omega), fun c h1 h2 => gI_n (by omega), fun c h1 => gI_n (by omega), fun c h1 => gI_n (by omega)⟩
theorem KH.rt {s t : Nat} {x : Nat → Int32} {σ τ : Sg} (h : KH s σ τ) (c : RT t x σ) : RT t x τ := ⟨by rw [h.1.2.1]; exact c.1, by rw [h.1.2.2.1]; exact c.2.1, by rw [h.2.2.1 2 (by decide) (by decide)]; exact c.2.2.1, fun i hi => by rw [h.2.1 345 (by decide) (by decide) (by decide)]; exact c.2.2.2 i hi⟩
theorem ad_c {k : Nat} {pic : Int32} (hk : k ≤ 9) : ∀ (j i m n : Nat) (σ : Sg), i + j = k → j < m → n + j ≤ 16 → sg_R σ 9 3 = some 11 → sg_L σ 11 = 16 → sg_I σ 9 4 = Int32.ofNat n → ∃ υ, f_X9_add_L2 20000 9 m pic (Int32.ofNat k) (Int32.ofNat i) σ = some υ ∧ KZ 9 σ υ ∧ sg_I υ 9 2 = sg_I σ 9 2 ∧ sg_I υ 9 4 = Int32.ofNat (n + j) ∧ (∀ q, q < n → sg_I υ 11 q = sg_I σ 11 q) ∧ (∀ q, n ≤ q → q < n + j → sg_I υ 11 q = pic) := by
  intro j
  induction j with
  | zero =>
    intro i m n σ hi hm hn hR hL h4
    obtain ⟨m, rfl⟩ : ∃ y, m = y + 1 := ⟨m - 1, by omega⟩
    refine ⟨σ, ?_, KZ.rf, rfl, h4, fun _ _ => rfl, fun q h1 h2 => absurd h2 (by omega)⟩
    rw [f_X9_add_L2, if_neg (by rw [o_lt (by omega) (by omega)]; omega)]
  | succ j ih =>
    intro i m n σ hi hm hn hR hL h4
    obtain ⟨m, rfl⟩ : ∃ y, m = y + 1 := ⟨m - 1, by omega⟩
    have h4' : sg_I (put_I σ 11 n pic) 9 4 = Int32.ofNat n := by rw [gI_n (by omega)]; exact h4
    obtain ⟨υ, u1, u2, u3, u4, u5, u6⟩ := ih (i + 1) m (n + 1) (put_I (put_I σ 11 n pic) 9 4 (Int32.ofNat (n + 1))) (by omega) (by omega) (by omega) hR hL gI_e
    refine ⟨υ, ?_, (KZ.put (by omega) (by omega)).tr ((KZ.put (by omega) (by omega)).tr u2), ?_, ?_, fun q hq => ?_, fun q h1 h2 => ?_⟩
    · rw [f_X9_add_L2, if_pos (by rw [o_lt (by omega) (by omega)]; omega), f_of hR, hL, h4, if_pos (by rw [o_lt (by omega) (by omega)]; omega), if_neg (o_in (by omega) (by omega)), o_tn (by omega), h4', o_s n, o_s i]
      exact u1
    · rw [u3, gI_n (by omega), gI_n (by omega)]
    · rw [u4, show n + 1 + j = n + (j + 1) by omega]
    · rw [u5 q (by omega), gI_n (by omega), gI_n (by omega)]
    · by_cases e : q = n
      · subst e
        rw [u5 q (by omega), gI_n (by omega), gI_e]
      · exact u6 q (by omega) (by omega)
theorem ad_r {k s : Nat} {c : Int32} (hk : k ≤ 9) (hs : s ≤ 6) : ∀ (j i m n : Nat) (ρ : Sg), i + j = k → j < m → n + j ≤ 16 → RF (sg_R ρ) (sg_L ρ) → sg_I ρ 358 s = Int32.ofNat n → ∃ υ, f_X12_readPicture_L38 20000 344 m (Int32.ofNat s) (Int32.ofNat k) c (Int32.ofNat i) ρ = some υ ∧ KH s ρ υ ∧ sg_I υ 344 3 = sg_I ρ 344 3 + 1 ∧ sg_I υ 344 4 = sg_I ρ 344 4 ∧ sg_I υ 358 s = Int32.ofNat (n + j) ∧ (∀ q, q < n → sg_I υ 357 (16 * s + q) = sg_I ρ 357 (16 * s + q)) ∧ (∀ q, n ≤ q → q < n + j → sg_I υ 357 (16 * s + q) = if c = 46 then 26 else c - 97) := by
  intro j
  induction j with
  | zero =>
    intro i m n ρ hi hm hn d h8
    obtain ⟨m, rfl⟩ : ∃ y, m = y + 1 := ⟨m - 1, by omega⟩
    refine ⟨put_I ρ 344 3 (sg_I ρ 344 3 + 1), ?_, KH.put (by omega), gI_e, gI_n (by omega), by rw [gI_n (by omega)]; exact h8, fun q _ => gI_n (by omega), fun q h1 h2 => absurd h2 (by omega)⟩
    rw [f_X12_readPicture_L38, if_neg (by rw [o_lt (by omega) (by omega)]; omega)]
  | succ j ih =>
    intro i m n ρ hi hm hn d h8
    obtain ⟨m, rfl⟩ : ∃ y, m = y + 1 := ⟨m - 1, by omega⟩
    have R22 : sg_R ρ 344 22 = some 358 := by simp only [d]
    have R21 : sg_R ρ 344 21 = some 357 := by simp only [d]
    have L58 : sg_L ρ 358 = 7 := by simp only [d]
    have L57 : sg_L ρ 357 = 112 := by simp only [d]
    have stp : ∀ w : Int32, ∃ υ, f_X12_readPicture_B74 20000 344 (f_X12_readPicture_L38 20000 344 m) (Int32.ofNat s) (Int32.ofNat k) c (Int32.ofNat i) w (Int32.ofNat (16 * s + n)) (some 357) ρ = some υ ∧ KH s ρ υ ∧ sg_I υ 344 3 = sg_I ρ 344 3 + 1 ∧ sg_I υ 344 4 = sg_I ρ 344 4 ∧ sg_I υ 358 s = Int32.ofNat (n + (j + 1)) ∧ (∀ q, q < n → sg_I υ 357 (16 * s + q) = sg_I ρ 357 (16 * s + q)) ∧ sg_I υ 357 (16 * s + n) = w ∧ (∀ q, n < q → q < n + (j + 1) → sg_I υ 357 (16 * s + q) = if c = 46 then 26 else c - 97) := by
      intro w
      have R22' : sg_R (put_I ρ 357 (16 * s + n) w) 344 22 = some 358 := R22
      have L58' : sg_L (put_I ρ 357 (16 * s + n) w) 358 = 7 := L58
      have h8' : sg_I (put_I ρ 357 (16 * s + n) w) 358 s = Int32.ofNat n := by rw [gI_n (by omega)]; exact h8
      obtain ⟨υ, u1, u2, u3, u4, u5, u6, u7⟩ := ih (i + 1) m (n + 1) (put_I (put_I ρ 357 (16 * s + n) w) 358 s (Int32.ofNat (n + 1))) (by omega) (by omega) (by omega) d gI_e
      refine ⟨υ, ?_, (KH.put (by omega)).tr ((KH.put (by omega)).tr u2), ?_, ?_, ?_, fun q hq => ?_, ?_, fun q h1 h2 => u7 q (by omega) (by omega)⟩
      · unfold f_X12_readPicture_B74
        have n7 : ¬ (Int32.ofNat s < 0 ∨ 7 ≤ (Int32.ofNat s).toNatClampNeg) := o_in (by omega) (by omega)
        have t7 : (Int32.ofNat s).toNatClampNeg = s := o_tn (by omega)
        have n7' : ¬ (Int32.ofNat s < 0 ∨ 7 ≤ s) := by rw [t7] at n7; exact n7
        rw [f_of (rfl : some 357 = some 357), L57, if_neg (o_in (by omega) (by omega)), o_tn (by omega), f_of R22', L58', if_neg n7, t7, if_neg n7', h8', o_s n, o_s i]
        exact u1
      · rw [u3, gI_n (by omega), gI_n (by omega)]
      · rw [u4, gI_n (by omega), gI_n (by omega)]
      · rw [u5, show n + 1 + j = n + (j + 1) by omega]
      · rw [u6 q (by omega), gI_n (by omega), gI_n (by omega)]
      · rw [u6 n (by omega), gI_n (by omega), gI_e]
    have hL : f_X12_readPicture_L38 20000 344 (m + 1) (Int32.ofNat s) (Int32.ofNat k) c (Int32.ofNat i) ρ = f_X12_readPicture_B74 20000 344 (f_X12_readPicture_L38 20000 344 m) (Int32.ofNat s) (Int32.ofNat k) c (Int32.ofNat i) (if c = 46 then 26 else c - 97) (Int32.ofNat (16 * s + n)) (some 357) ρ := by
      rw [f_X12_readPicture_L38, if_pos (by rw [o_lt (by omega) (by omega)]; omega), f_of R22, L58, if_neg (o_in (by omega) (by omega)), o_tn (by omega), h8, R21, l_16, o_mul, o_add]
      by_cases q : c = 46
      · rw [if_pos q, if_pos q]
      · rw [if_neg q, if_neg q]
    obtain ⟨υ, u1, u2, u3, u4, u5, u6, u7, u8⟩ := stp (if c = 46 then 26 else c - 97)
    refine ⟨υ, by rw [hL]; exact u1, u2, u3, u4, u5, u6, fun q h1 h2 => ?_⟩
    by_cases e : q = n
    · subst e; exact u7
    · exact u8 q (by omega) h2
/-- both readers answer alike, from σ0 and ρ0 on -/
def SOS (s : Nat) (σ0 ρ0 : Sg) (A B : Option (Int32 × Sg)) : Prop := ∃ c υ e φ, A = some (c, υ) ∧ B = some (e, φ) ∧ KZ 9 σ0 υ ∧ KH s ρ0 φ ∧ ((c = 0 ∧ e = sg_I υ 9 2 ∧ ¬ e = -1) ∨ (c = 1 ∧ e = -1 ∧ ∃ n, 1 ≤ n ∧ n ≤ 16 ∧ sg_I υ 9 4 = Int32.ofNat n ∧ sg_I φ 358 s = Int32.ofNat n ∧ ∀ i, i < n → sg_I υ 11 i = sg_I φ 357 (16 * s + i) ∧ 0 ≤ (sg_I φ 357 (16 * s + i)).toInt ∧ (sg_I φ 357 (16 * s + i)).toInt ≤ 26))
theorem sr_e {s q m : Nat} {φ : Sg} (hq : q < 2147483648) (h : sg_I φ 344 4 = Int32.ofNat q) : f_X12_readStrip_L17 20000 344 (m + 1) (Int32.ofNat s) φ = some (Int32.ofNat q, φ) := by
  have hm : ¬ sg_I φ 344 4 = -1 := by rw [h]; exact o_m hq
  rw [f_X12_readStrip_L17, if_neg hm]
  unfold f_X12_readStrip_B82 f_X12_readStrip_B103
  rw [if_neg hm, h]
theorem sr_p {t s q p' k v n m m' : Nat} {x : Nat → Int32} (hx : XT t x) (hs : s ≤ 6) {σ0 ρ0 σ ρ : Sg} (rt0 : RT t x ρ0) (hR : sg_R σ0 9 3 = some 11) (hL : sg_L σ0 11 = 16) (d : RF (sg_R ρ0) (sg_L ρ0)) (hk : 1 ≤ k ∧ k ≤ 9) (hp : p' ≤ t) (hq : pb_ x t p' = q) (kz : KZ 9 σ0 σ) (kh : KH s ρ0 ρ) (h2 : sg_I σ 9 2 = Int32.ofNat q) (h3 : sg_I ρ 344 3 = Int32.ofNat p') (h4 : sg_I ρ 344 4 = -1) (h5 : sg_I σ 9 4 = Int32.ofNat n) (hn : n ≤ 16) (h6 : sg_I ρ 358 s = Int32.ofNat n) (h7 : ∀ i, i < n → sg_I σ 11 i = sg_I ρ 357 (16 * s + i) ∧ 0 ≤ (sg_I ρ 357 (16 * s + i)).toInt ∧ (sg_I ρ 357 (16 * s + i)).toInt ≤ 26)
    (ih : ∀ (n : Nat) (σ ρ : Sg), q < t → KZ 9 σ0 σ → KH s ρ0 ρ → sg_I σ 9 2 = Int32.ofNat (q + 1) → sg_I ρ 344 3 = Int32.ofNat (q + 1) → sg_I ρ 344 4 = -1 → sg_I σ 9 4 = Int32.ofNat n → n ≤ 16 → sg_I ρ 358 s = Int32.ofNat n → (∀ i, i < n → sg_I σ 11 i = sg_I ρ 357 (16 * s + i) ∧ 0 ≤ (sg_I ρ 357 (16 * s + i)).toInt ∧ (sg_I ρ 357 (16 * s + i)).toInt ≤ 26) → SOS s σ0 ρ0 (f_X9_isWhole_L7 20000 9 m (Int32.ofNat (v + 1)) σ) (f_X12_readStrip_L17 20000 344 (m' + 1) (Int32.ofNat s) ρ)) :
    SOS s σ0 ρ0 (f_X9_isWhole_B71 20000 9 (f_X9_isWhole_L7 20000 9 m) (Int32.ofNat v) (sx_ x t q) (Int32.ofNat k) σ) ((f_X12_readPicture 20000 344 (Int32.ofNat s) (Int32.ofNat k) ρ).bind fun r => f_X12_readStrip_L17 20000 344 (m' + 1) (Int32.ofNat s) r) := by
  have ht := hx.1
  obtain ⟨q1, q2, q3⟩ := pb_b (x := x) hp
  have lq := lq_v hx (kh.rt rt0) hp h3
  rw [hq] at q1 q2 q3 lq
  have d' : RF (sg_R ρ) (sg_L ρ) := by rw [kh.1.2.1, kh.1.2.2.1]; exact d
  have R22 : sg_R (put_I ρ 344 3 (Int32.ofNat q)) 344 22 = some 358 := by
    show sg_R ρ 344 22 = some 358
    simp only [d']
  have L58 : sg_L (put_I ρ 344 3 (Int32.ofNat q)) 358 = 7 := by
    show sg_L ρ 358 = 7
    simp only [d']
  have bd := bad_v (ρ := put_I ρ 344 3 (Int32.ofNat q)) (by rw [gI_n (by omega)]; exact h4)
  rw [gI_e] at bd
  have h6' : sg_I (put_I ρ 344 3 (Int32.ofNat q)) 358 s = Int32.ofNat n := by rw [gI_n (by omega)]; exact h6
  have khb : KH s ρ0 (put_I (put_I ρ 344 3 (Int32.ofNat q)) 344 4 (Int32.ofNat q)) := kh.tr ((KH.put (by omega)).tr (KH.put (by omega)))
  have fail : ∀ B : Option (Int32 × Sg), B = some (Int32.ofNat q, put_I (put_I ρ 344 3 (Int32.ofNat q)) 344 4 (Int32.ofNat q)) → ∀ A : Option (Int32 × Sg), A = some (0, σ) → SOS s σ0 ρ0 A B := fun B hB A hA => ⟨0, σ, _, _, hA, hB, kz, khb, Or.inl ⟨rfl, h2.symm, o_m (by omega)⟩⟩
  have rb : ((f_X12_readPicture_B30 20000 344 (put_I ρ 344 3 (Int32.ofNat q))).bind fun r => f_X12_readStrip_L17 20000 344 (m' + 1) (Int32.ofNat s) r) = some (Int32.ofNat q, put_I (put_I ρ 344 3 (Int32.ofNat q)) 344 4 (Int32.ofNat q)) := by
    unfold f_X12_readPicture_B30
    rw [f_of bd]
    exact sr_e (by omega) gI_e
  unfold f_X9_isWhole_B71 f_X12_readPicture
  rw [f_of (pq_c _), f_of lq]
  dsimp only
  by_cases c1 : pq_ (sx_ x t q) = -1
  · rw [if_pos c1]
    refine fail _ ?_ _ rfl
    by_cases c2 : sx_ x t q = -1
    · rw [if_pos c2]; exact rb
    · rw [if_neg c2, f_of (pq_r _), if_pos c1, if_pos rfl]; exact rb
  · have c2 : ¬ sx_ x t q = -1 := fun e => c1 (by rw [e]; exact pq_m)
    have qt : q < t := by
      apply Classical.byContradiction
      intro e
      exact c2 ((sx_b hx q).2.2.2.mpr e)
    rw [if_neg c1, if_neg c2, f_of (pq_r _), if_neg c1, if_neg (show ¬ (1 : Int32) = 0 by decide), f_of R22, L58, if_neg (o_in (by omega) (by omega)), o_tn (by omega), h6', h5, o_add, l_16]
    by_cases c3 : 16 < n + k
    · rw [if_pos (by rw [o_lt (by omega) (by omega)]; exact c3), if_pos (by rw [o_lt (by omega) (by omega)]; exact c3)]
      exact fail _ rb _ rfl
    · have pb := (pq_b (sx_ x t q)).resolve_left c1
      obtain ⟨υ, u1, u2, u3, u4, u5, u6⟩ := ad_c (pic := pq_ (sx_ x t q)) hk.2 k 0 20000 n (put_I σ 9 2 (Int32.ofNat (q + 1))) (by omega) (by omega) (by omega) (by rw [show sg_R (put_I σ 9 2 (Int32.ofNat (q + 1))) = sg_R σ from rfl, kz.1.2.1]; exact hR) (by rw [show sg_L (put_I σ 9 2 (Int32.ofNat (q + 1))) = sg_L σ from rfl, kz.1.2.2.1]; exact hL) (by rw [gI_n (by omega)]; exact h5)
      obtain ⟨φ, f1, f2, f3, f4, f5, f6, f7⟩ := ad_r (c := sx_ x t q) hk.2 hs k 0 20000 n (put_I ρ 344 3 (Int32.ofNat q)) (by omega) (by omega) (by omega) d' h6'
      rw [gI_e] at u3
      rw [gI_e, o_s] at f3
      rw [gI_n (by omega), h4] at f4
      have u1' : f_X9_add 20000 9 (pq_ (sx_ x t q)) (Int32.ofNat k) (put_I σ 9 2 (Int32.ofNat (q + 1))) = some υ := u1
      have f1' : f_X12_readPicture_L38 20000 344 20000 (Int32.ofNat s) (Int32.ofNat k) (sx_ x t q) 0 (put_I ρ 344 3 (Int32.ofNat q)) = some φ := f1
      rw [if_neg (by rw [o_lt (by omega) (by omega)]; exact c3), if_neg (by rw [o_lt (by omega) (by omega)]; exact c3), h2, o_s q, f_of u1', f_of f1', o_s v]
      refine ih (n + k) υ φ qt (kz.tr ((KZ.put (by omega) (by omega)).tr u2)) (kh.tr ((KH.put (by omega)).tr f2)) u3 f3 f4 u4 (by omega) f5 (fun i hi => ?_)
      by_cases e : i < n
      · rw [u5 i e, f6 i e, gI_n (by omega), gI_n (by omega)]
        exact h7 i e
      · rw [u6 i (by omega) hi, f7 i (by omega) hi, ← pb.2.2]
        exact ⟨rfl, pb.1, pb.2.1⟩
theorem sr_2 {t s : Nat} {x : Nat → Int32} (hx : XT t x) (hs : s ≤ 6) {σ0 ρ0 : Sg} (ct0 : CT 9 t x σ0) (rt0 : RT t x ρ0) (hR : sg_R σ0 9 3 = some 11) (hL : sg_L σ0 11 = 16) (d : RF (sg_R ρ0) (sg_L ρ0)) : ∀ (m m' p v n : Nat) (σ ρ : Sg), p ≤ t → t - p < m → t - p < m' → v ≤ p → KZ 9 σ0 σ → KH s ρ0 ρ → sg_I σ 9 2 = Int32.ofNat p → sg_I ρ 344 3 = Int32.ofNat p → sg_I ρ 344 4 = -1 → sg_I σ 9 4 = Int32.ofNat n → n ≤ 16 → sg_I ρ 358 s = Int32.ofNat n → (∀ i, i < n → sg_I σ 11 i = sg_I ρ 357 (16 * s + i) ∧ 0 ≤ (sg_I ρ 357 (16 * s + i)).toInt ∧ (sg_I ρ 357 (16 * s + i)).toInt ≤ 26) → SOS s σ0 ρ0 (f_X9_isWhole_L7 20000 9 m (Int32.ofNat v) σ) (f_X12_readStrip_L17 20000 344 m' (Int32.ofNat s) ρ) := by
  have ht := hx.1
  intro m
  induction m with
  | zero => intro m' p v n σ ρ hp h1; exact absurd h1 (by omega)
  | succ m ih =>
    intro m' p v n σ ρ hp hm hm' hv kz kh h2 h3 h4 h5 hn h6 h7
    obtain ⟨m', rfl⟩ : ∃ y, m' = y + 1 := ⟨m' - 1, by omega⟩
    obtain ⟨q1, q2, q3⟩ := pb_b (x := x) hp
    have ns := ns_v hx (by decide) (kz.ct ct0) hp h2
    have lq := lq_v hx (kh.rt rt0) hp h3
    have q4 := sx_b hx (pb_ x t p)
    have qq := pb_k (x := x) hp
    generalize pb_ x t p = q at q1 q2 q3 q4 ns lq qq
    have kz1 : KZ 9 σ0 (put_I σ 9 2 (Int32.ofNat q)) := kz.tr (KZ.put (by omega) (by omega))
    have kh1 : KH s ρ0 (put_I ρ 344 3 (Int32.ofNat q)) := kh.tr (KH.put (by omega))
    have h4' : sg_I (put_I ρ 344 3 (Int32.ofNat q)) 344 4 = -1 := by rw [gI_n (by omega)]; exact h4
    have h5' : sg_I (put_I σ 9 2 (Int32.ofNat q)) 9 4 = Int32.ofNat n := by rw [gI_n (by omega)]; exact h5
    have h6' : sg_I (put_I ρ 344 3 (Int32.ofNat q)) 358 s = Int32.ofNat n := by rw [gI_n (by omega)]; exact h6
    have h7' : ∀ i, i < n → sg_I (put_I σ 9 2 (Int32.ofNat q)) 11 i = sg_I (put_I ρ 344 3 (Int32.ofNat q)) 357 (16 * s + i) ∧ 0 ≤ (sg_I (put_I ρ 344 3 (Int32.ofNat q)) 357 (16 * s + i)).toInt ∧ (sg_I (put_I ρ 344 3 (Int32.ofNat q)) 357 (16 * s + i)).toInt ≤ 26 := fun i hi => by
      rw [gI_n (by omega), gI_n (by omega)]; exact h7 i hi
    rw [f_X9_isWhole_L7, f_X12_readStrip_L17, if_neg (by rw [l_240, o_lt (by omega) (by omega)]; omega), f_of ns, if_pos h4, f_of lq]
    dsimp only
    by_cases c1 : sx_ x t q = -1
    · have d' : RF (sg_R ρ) (sg_L ρ) := by rw [kh.1.2.1, kh.1.2.2.1]; exact d
      have R22 : sg_R (put_I ρ 344 3 (Int32.ofNat q)) 344 22 = some 358 := by
        show sg_R ρ 344 22 = some 358
        simp only [d']
      have L58 : sg_L (put_I ρ 344 3 (Int32.ofNat q)) 358 = 7 := by
        show sg_L ρ 358 = 7
        simp only [d']
      have bd := bad_v (ρ := put_I ρ 344 3 (Int32.ofNat q)) h4'
      rw [gI_e] at bd
      rw [if_pos c1, if_pos c1, h5', l_0]
      unfold f_X12_readStrip_B82 f_X12_readStrip_B103
      rw [if_pos h4', f_of R22, L58, if_neg (o_in (by omega) (by omega)), o_tn (by omega), h6']
      by_cases c2 : 0 < n
      · rw [if_pos (by rw [o_lt (by omega) (by omega)]; exact c2), if_neg (by rw [l_0, o_eq (by omega) (by omega)]; omega), h4']
        exact ⟨_, _, _, _, rfl, rfl, kz1, kh1, Or.inr ⟨rfl, rfl, n, c2, hn, h5', h6', h7'⟩⟩
      · have n0 : n = 0 := by omega
        rw [if_neg (by rw [o_lt (by omega) (by omega)]; exact c2), if_pos (by rw [n0]; rfl), f_of bd, gI_e]
        exact ⟨_, _, _, _, rfl, rfl, kz1, kh1.tr (KH.put (by omega)), Or.inl ⟨rfl, by rw [gI_e], o_m (by omega)⟩⟩
    · have qt : q < t := by
        apply Classical.byContradiction
        intro e
        exact c1 (q4.2.2.2.mpr e)
      obtain ⟨m', rfl⟩ : ∃ y, m' = y + 1 := ⟨m' - 1, by omega⟩
      have lq2 := lq_v hx (kh1.rt rt0) q2 gI_e
      rw [qq, pI_2] at lq2
      have e48 : (48 : Int32).toInt = 48 := rfl
      have e50 : (50 : Int32).toInt = 50 := rfl
      have e57 : (57 : Int32).toInt = 57 := rfl
      have dg : f_X12_isDigit (sx_ x t q) = some (if (sx_ x t q).toInt < 48 ∨ 57 < (sx_ x t q).toInt then 0 else 1) := by
        unfold f_X12_isDigit
        by_cases g1 : sx_ x t q < 48
        · rw [if_pos g1, if_pos (show (sx_ x t q).toInt < 48 ∨ 57 < (sx_ x t q).toInt from Or.inl (i_lt.mp g1))]
        · rw [if_neg g1]
          by_cases g2 : 57 < sx_ x t q
          · rw [if_pos g2, if_pos (show (sx_ x t q).toInt < 48 ∨ 57 < (sx_ x t q).toInt from Or.inr (i_lt.mp g2))]
          · rw [if_neg g2, if_neg (show ¬ ((sx_ x t q).toInt < 48 ∨ 57 < (sx_ x t q).toInt) from fun g => g.elim (fun g => g1 (i_lt.mpr g)) (fun g => g2 (i_lt.mpr g)))]
      rw [if_neg c1, if_neg c1, f_of lq2]
      dsimp only
      rw [f_of dg]
      by_cases c2 : (sx_ x t q).toInt < 50 ∨ 57 < (sx_ x t q).toInt
      · have A : (if sx_ x t q < 50 then f_X9_isWhole_B71 20000 9 (f_X9_isWhole_L7 20000 9 m) (Int32.ofNat v) (sx_ x t q) 1 (put_I σ 9 2 (Int32.ofNat q)) else if 57 < sx_ x t q then f_X9_isWhole_B71 20000 9 (f_X9_isWhole_L7 20000 9 m) (Int32.ofNat v) (sx_ x t q) 1 (put_I σ 9 2 (Int32.ofNat q)) else (f_X6_nextSign 20000 9 (put_I (put_I σ 9 2 (Int32.ofNat q)) 9 2 (sg_I (put_I σ 9 2 (Int32.ofNat q)) 9 2 + 1))).bind fun p10 => f_X9_isWhole_B71 20000 9 (f_X9_isWhole_L7 20000 9 m) (Int32.ofNat v) p10.1 (sx_ x t q - 48) p10.2) = f_X9_isWhole_B71 20000 9 (f_X9_isWhole_L7 20000 9 m) (Int32.ofNat v) (sx_ x t q) (Int32.ofNat 1) (put_I σ 9 2 (Int32.ofNat q)) := by
          by_cases g1 : sx_ x t q < 50
          · rw [if_pos g1]; rfl
          · rw [if_neg g1, if_pos (by rw [i_lt] at g1 ⊢; omega)]; rfl
        have sp := sr_p (k := 1) (v := v) (m := m) (m' := m') hx hs rt0 hR hL d (by omega) q2 qq kz1 kh1 gI_e gI_e h4' h5' hn h6' h7' (fun n σ ρ g1 g2 g3 g4 g5 g6 g7 g8 g9 g10 => ih (m' + 1) (q + 1) (v + 1) n σ ρ (by omega) (by omega) (by omega) (by omega) g2 g3 g4 g5 g6 g7 g8 g9 g10)
        refine (show SOS s σ0 ρ0 _ _ from ?_)
        rw [A]
        by_cases g3 : (sx_ x t q).toInt < 48 ∨ 57 < (sx_ x t q).toInt
        · rw [if_pos g3, if_pos rfl]
          exact sp
        · rw [if_neg g3, if_neg (by decide), if_pos (by rw [i_lt]; omega)]
          exact sp
      · obtain ⟨k, k1, k2⟩ := x_ob (x := sx_ x t q) (B := 57) ⟨by omega, by omega⟩
        have k3 : 50 ≤ k := by rw [k2, o_ti (by omega)] at c2; omega
        have e3 : sx_ x t q - 48 = Int32.ofNat (k - 48) := by
          rw [k2, show (48 : Int32) = Int32.ofNat 48 from rfl, o_sub (by omega)]
        have ns2 := ns_v hx (by decide) ((kz1.tr (KZ.put (a := 9) (j := 2) (v := Int32.ofNat (q + 1)) (by omega) (by omega))).ct ct0) (show q + 1 ≤ t by omega) gI_e
        have r1 := pb_b (x := x) (show q + 1 ≤ t by omega)
        rw [pI_2, pI_2] at ns2
        have hq1 : sg_I (put_I σ 9 2 (Int32.ofNat q)) 9 2 + 1 = Int32.ofNat (q + 1) := by rw [gI_e, o_s]
        have hq2 : sg_I (put_I ρ 344 3 (Int32.ofNat q)) 344 3 + 1 = Int32.ofNat (q + 1) := by rw [gI_e, o_s]
        have sp := sr_p (k := k - 48) (v := v) (m := m) (m' := m') (q := pb_ x t (q + 1)) (p' := q + 1) (σ := put_I σ 9 2 (Int32.ofNat (pb_ x t (q + 1)))) (ρ := put_I ρ 344 3 (Int32.ofNat (q + 1))) (n := n) hx hs rt0 hR hL d (by omega) (by omega) rfl (kz.tr (KZ.put (by omega) (by omega))) (kh.tr (KH.put (by omega))) gI_e gI_e (by rw [gI_n (by omega)]; exact h4) (by rw [gI_n (by omega)]; exact h5) hn (by rw [gI_n (by omega)]; exact h6) (fun i hi => by rw [gI_n (by omega), gI_n (by omega)]; exact h7 i hi) (fun n σ ρ g1 g2 g3 g4 g5 g6 g7 g8 g9 g10 => ih (m' + 1) (pb_ x t (q + 1) + 1) (v + 1) n σ ρ (by omega) (by omega) (by omega) (by omega) g2 g3 g4 g5 g6 g7 g8 g9 g10)
        rw [if_neg (by rw [i_lt]; omega), if_neg (by rw [i_lt]; omega), hq1, pI_2, f_of ns2]
        dsimp only
        rw [e3, if_neg (show ¬ ((sx_ x t q).toInt < 48 ∨ 57 < (sx_ x t q).toInt) by omega), if_neg (show ¬ (1 : Int32) = 0 by decide), if_neg (by rw [i_lt]; omega), hq2, pI_2]
        exact sp
