/-! ===== scenes: copies, the past, images ===== -/
def kp_ (σ τ : Sg) : Prop := sg_N τ = sg_N σ ∧ sg_R τ = sg_R σ ∧ sg_L τ = sg_L σ ∧ sg_J τ = sg_J σ
theorem kp_.rf {σ : Sg} : kp_ σ σ := ⟨rfl, rfl, rfl, rfl⟩
theorem kp_.tr {σ τ υ : Sg} (h : kp_ σ τ) (k : kp_ τ υ) : kp_ σ υ := ⟨k.1.trans h.1, k.2.1.trans h.2.1, k.2.2.1.trans h.2.2.1, k.2.2.2.trans h.2.2.2⟩
theorem kp_.put {σ : Sg} {a j : Nat} {v : Int32} : kp_ σ (put_I σ a j v) := ⟨rfl, rfl, rfl, rfl⟩
theorem kp_.cpy {σ : Sg} {a b i j n : Nat} : kp_ σ (cpy_I σ a b i j n) := ⟨rfl, rfl, rfl, rfl⟩
theorem wc_v {σ : Sg} {a b : Nat} (h : sg_I σ b 1 = 0 ∨ sg_I σ b 1 = 1) (hne : b ≠ a) : ∃ τ, f_X10_copyFrom a (some b) σ = some τ ∧ kp_ σ τ ∧ (∀ c, c ≠ a → sg_I τ c = sg_I σ c) ∧ (∀ k, k < 4 → sg_I τ a k = sg_I σ b k) := by
  unfold f_X10_copyFrom
  simp only [Option.bind_some, gI_n (Or.inl hne)]
  rw [if_neg (fun q => q h)]
  refine ⟨_, rfl, ((kp_.put.tr kp_.put).tr kp_.put).tr kp_.put, fun c hc => ?_, fun k hk => ?_⟩
  · rw [gI_a hc, gI_a hc, gI_a hc, gI_a hc]
  · match k, hk with
    | 0, _ => rw [gI_n (by omega), gI_n (by omega), gI_n (by omega), gI_e]
    | 1, _ => rw [gI_n (by omega), gI_n (by omega), gI_e]
    | 2, _ => rw [gI_n (by omega), gI_e]
    | 3, _ => rw [gI_e]
theorem cl_v {N s t : Nat} (hd : s + 6 < t ∨ t + 6 < s) : ∀ (j k n : Nat) (σ : Sg), k + j = 4 → j < n → sn_ (sg_R σ) (sg_L σ) s → sn_ (sg_R σ) (sg_L σ) t → bk_ (sg_I σ) t → ∃ τ m, f_X7_copyFrom_L2 N s n (some t) (Int32.ofNat k) σ = f_X7_copyFrom_L2 N s (m + 1) (some t) (Int32.ofNat 4) τ ∧ kp_ σ τ ∧ (∀ a, a < s + 3 + k ∨ s + 6 < a → sg_I τ a = sg_I σ a) ∧ (∀ w, k ≤ w → w < 4 → ∀ i, i < 4 → sg_I τ (s + 3 + w) i = sg_I σ (t + 3 + w) i) := by
  intro j
  induction j with
  | zero =>
    intro k n σ hk hn hs ht hb
    obtain ⟨n, rfl⟩ : ∃ m, n = m + 1 := ⟨n - 1, by omega⟩
    have hk : k = 4 := by omega
    subst hk
    exact ⟨σ, n, rfl, kp_.rf, fun _ _ => rfl, fun w h1 h2 => by omega⟩
  | succ j ih =>
    intro k n σ hk hn hs ht hb
    obtain ⟨n, rfl⟩ : ∃ m, n = m + 1 := ⟨n - 1, by omega⟩
    obtain ⟨υ, u1, u2, u3, u4⟩ := wc_v (σ := σ) (a := s + 3 + k) (b := t + 3 + k) (hb k (by omega)) (by omega)
    obtain ⟨τ, m, v1, v2, v3, v4⟩ := ih (k + 1) n υ (by omega) (by omega) (by rw [u2.2.1, u2.2.2.1]; exact hs) (by rw [u2.2.1, u2.2.2.1]; exact ht) (fun w hw => by rw [u3 _ (by omega)]; exact hb w hw)
    refine ⟨τ, m, ?_, u2.tr v2, fun a ha => ?_, fun w h1 h2 i hi => ?_⟩
    · rw [← v1, f_X7_copyFrom_L2]
      simp only [hs.1, ht.1, Option.bind_some, hs.2.2.2.1, ht.2.2.2.1]
      rw [if_pos (by rw [o_lt (by omega) (by omega)]; omega), if_neg (o_in (by omega) (by omega)), if_neg (o_in (by omega) (by omega)), o_tn (by omega), hs.2.2.1 k (by omega), ht.2.2.1 k (by omega)]
      simp only [Option.bind_some]
      rw [u1, o_s]
      rfl
    · rw [v3 a (by omega), u3 a (by omega)]
    · by_cases hw : w = k
      · subst hw
        rw [v3 _ (by omega), u4 i hi]
      · rw [v4 w (by omega) h2 i hi, u3 _ (by omega)]
def CP (σ τ : Sg) (s t : Nat) : Prop := kp_ σ τ ∧ (∀ a, a < s ∨ s + 6 < a → sg_I τ a = sg_I σ a) ∧ sq_ (sg_I τ) s (sg_I σ) t
theorem cf_v {N : Nat} {σ : Sg} {s t : Nat} (hs : sn_ (sg_R σ) (sg_L σ) s) (ht : sn_ (sg_R σ) (sg_L σ) t) (hb : bk_ (sg_I σ) t) (hd : s + 6 < t ∨ t + 6 < s) (hN : 5 ≤ N) : ∃ τ, f_X7_copyFrom N s (some t) σ = some τ ∧ CP σ τ s t := by
  obtain ⟨υ, m, u1, u2, u3, u4⟩ := cl_v (N := N) hd 4 0 N σ (by omega) (by omega) hs ht hb
  have hs' : sn_ (sg_R υ) (sg_L υ) s := by rw [u2.2.1, u2.2.2.1]; exact hs
  have ht' : sn_ (sg_R υ) (sg_L υ) t := by rw [u2.2.1, u2.2.2.1]; exact ht
  have nst : t ≠ s := by omega
  unfold f_X7_copyFrom
  rw [show (0 : Int32) = Int32.ofNat 0 from rfl, u1, f_X7_copyFrom_L2]
  simp only [hs'.1, Option.bind_some, hs'.2.2.2.1]
  rw [if_neg (by rw [o_lt (by omega) (by omega)]; omega)]
  simp only [Option.bind_some, gR_I, gL_I, hs'.2.1, ht'.2.1, hs'.2.2.2.2, ht'.2.2.2.2, gI_n (Or.inl nst)]
  rw [if_neg (by decide)]
  refine ⟨_, rfl, ?_, ?_, ?_, ?_, ?_⟩
  · exact u2.tr ((((((kp_.put.tr kp_.put).tr kp_.put).tr kp_.put).tr kp_.put).tr kp_.cpy).tr kp_.put)
  · intro a ha
    rw [gI_a (by omega)]
    funext k
    rw [gI_C, if_neg (by omega), gI_a (by omega), gI_a (by omega), gI_a (by omega), gI_a (by omega), gI_a (by omega), u3 a (by omega)]
  · intro k h1 h2 h3
    have q : k = 1 ∨ k = 2 ∨ k = 3 ∨ k = 4 ∨ k = 5 ∨ k = 7 := by omega
    rcases q with rfl | rfl | rfl | rfl | rfl | rfl
    · rw [gI_n (by omega), gI_C, if_neg (by omega), gI_n (by omega), gI_n (by omega), gI_n (by omega), gI_n (by omega), gI_e, u3 _ (by omega)]
    · rw [gI_n (by omega), gI_C, if_neg (by omega), gI_n (by omega), gI_n (by omega), gI_n (by omega), gI_e, u3 _ (by omega)]
    · rw [gI_n (by omega), gI_C, if_neg (by omega), gI_n (by omega), gI_n (by omega), gI_e, u3 _ (by omega)]
    · rw [gI_n (by omega), gI_C, if_neg (by omega), gI_n (by omega), gI_e, u3 _ (by omega)]
    · rw [gI_n (by omega), gI_C, if_neg (by omega), gI_e, u3 _ (by omega)]
    · rw [gI_e, gI_C, if_neg (by omega), gI_n (by omega), gI_n (by omega), gI_n (by omega), gI_n (by omega), gI_n (by omega), u3 _ (by omega)]
  · intro i hi
    rw [gI_n (by omega), gI_C, if_pos rfl]
    unfold va_cpy
    rw [if_pos ⟨by exact Nat.zero_le _, by show i < 0 + 60; omega⟩]
    show sg_I _ (t + 2) (0 + (i - 0)) = _
    rw [show 0 + (i - 0) = i by omega, gI_n (by omega), gI_n (by omega), gI_n (by omega), gI_n (by omega), gI_n (by omega), u3 _ (by omega)]
  · intro w hw k hk
    rw [gI_n (by omega), gI_C, if_neg (by omega), gI_n (by omega), gI_n (by omega), gI_n (by omega), gI_n (by omega), gI_n (by omega), u4 w (by omega) hw k hk]
/-! rows of the reference, copied -/
def cw_ (ρ : Sg) (bS sO bD dO : Nat) : Nat → Sg
  | 0 => ρ
  | k + 1 => put_I (cw_ ρ bS sO bD dO k) bD (dO + k) (sg_I (cw_ ρ bS sO bD dO k) bS (sO + k))
theorem cw_k {ρ : Sg} {bS sO bD dO : Nat} : ∀ k, kp_ ρ (cw_ ρ bS sO bD dO k)
  | 0 => kp_.rf
  | k + 1 => (cw_k k).tr kp_.put
theorem cw_I {ρ : Sg} {bS sO bD dO : Nat} (h : bS ≠ bD ∨ dO ≤ sO) : ∀ k b j, sg_I (cw_ ρ bS sO bD dO k) b j = if b = bD ∧ dO ≤ j ∧ j < dO + k then sg_I ρ bS (sO + (j - dO)) else sg_I ρ b j := by
  intro k
  induction k with
  | zero =>
    intro b j
    rw [if_neg (by omega)]
    rfl
  | succ k ih =>
    intro b j
    unfold cw_
    rw [gI_I]
    by_cases q : b = bD ∧ j = dO + k
    · rw [if_pos q, ih, if_neg (by omega), if_pos (by omega)]
      congr 1
      omega
    · rw [if_neg q, ih]
      by_cases q2 : b = bD ∧ dO ≤ j ∧ j < dO + k
      · rw [if_pos q2, if_pos (by omega)]
      · rw [if_neg q2, if_neg (by omega)]
theorem cw_o {ρ : Sg} {bS sO bD dO k b : Nat} (h : bS ≠ bD ∨ dO ≤ sO) (hb : b ≠ bD) : sg_I (cw_ ρ bS sO bD dO k) b = sg_I ρ b := by
  funext j
  rw [cw_I h, if_neg (by omega)]
theorem ck_v {N : Nat} {ρ : Sg} (d : RF (sg_R ρ) (sg_L ρ)) {m : Nat} (hm : m < 40) (e : sg_I ρ 344 29 = Int32.ofNat m) : ∀ (j k n : Nat), k + j = 261 → j < n → f_X12_keep_L54 N 344 n (Int32.ofNat k) (cw_ ρ 359 0 361 (261 * m) k) = some (put_I (cw_ ρ 359 0 361 (261 * m) 261) 344 29 (Int32.ofNat (m + 1))) := by
  intro j
  induction j with
  | zero =>
    intro k n hk hn
    obtain ⟨n, rfl⟩ : ∃ m, n = m + 1 := ⟨n - 1, by omega⟩
    have hk : k = 261 := by omega
    subst hk
    rw [f_X12_keep_L54, if_neg (by decide), cw_o (Or.inl (by decide)) (by decide), e, o_s]
  | succ j ih =>
    intro k n hk hn
    obtain ⟨n, rfl⟩ : ∃ m, n = m + 1 := ⟨n - 1, by omega⟩
    have kp := cw_k (ρ := ρ) (bS := 359) (sO := 0) (bD := 361) (dO := 261 * m) k
    rw [← ih (k + 1) n (by omega) (by omega), f_X12_keep_L54, if_pos (by rw [l_261, o_lt (by omega) (by omega)]; omega), kp.2.1, kp.2.2.1, cw_o (b := 344) (Or.inl (by decide)) (by decide), e]
    simp only [d, Option.bind_some]
    rw [l_261, o_mul, o_add, if_neg (o_in (by omega) (by omega)), if_neg (o_in (by omega) (by omega)), o_tn (by omega), o_tn (by omega), o_s]
    simp only [cw_, Nat.zero_add]
theorem cs_v {N : Nat} {ρ : Sg} (d : RF (sg_R ρ) (sg_L ρ)) (e : sg_I ρ 344 29 = 40) : ∀ (j k n : Nat), k + j = 10179 → j < n → f_X12_keep_L13 N 344 n (Int32.ofNat (261 + k)) (cw_ ρ 361 261 361 0 k) = f_X12_keep_B52 N 344 (put_I (cw_ ρ 361 261 361 0 10179) 344 29 (Int32.ofNat 39)) := by
  intro j
  induction j with
  | zero =>
    intro k n hk hn
    obtain ⟨n, rfl⟩ : ∃ m, n = m + 1 := ⟨n - 1, by omega⟩
    have hk : k = 10179 := by omega
    subst hk
    rw [f_X12_keep_L13, if_neg (by decide), cw_o (Or.inr (by decide)) (by decide), e]
    rfl
  | succ j ih =>
    intro k n hk hn
    obtain ⟨n, rfl⟩ : ∃ m, n = m + 1 := ⟨n - 1, by omega⟩
    have kp := cw_k (ρ := ρ) (bS := 361) (sO := 261) (bD := 361) (dO := 0) k
    rw [← ih (k + 1) n (by omega) (by omega), f_X12_keep_L13, if_pos (by rw [l_10440, o_lt (by omega) (by omega)]; omega), kp.2.1, kp.2.2.1]
    simp only [d, Option.bind_some]
    rw [l_261, o_sub (by omega), if_neg (o_in (by omega) (by omega)), if_neg (o_in (by omega) (by omega)), o_tn (by omega), o_tn (by omega), o_s]
    have e1 : 261 + k - 261 = 0 + k := by omega
    rw [e1]
    rfl
/-- what both sides keep of an act -/
theorem ke_v {σ ρ : Sg} (r : Rel σ ρ) : ∃ τ υ, f_X5_keep 20000 24 (some 17) σ = some τ ∧ f_X12_keep 20000 344 ρ = some υ ∧ Rel τ υ ∧ FC σ τ ∧ FR ρ υ ∧ kp_ σ τ ∧ kp_ ρ υ ∧ (∀ a, a < 24 → sg_I τ a = sg_I σ a) ∧ (∀ a, a ≠ 344 → a ≠ 361 → sg_I υ a = sg_I ρ a) ∧ (∀ j, j ≠ 29 → sg_I υ 344 j = sg_I ρ 344 j) ∧ (∀ a, 306 ≤ a → sg_I τ a = sg_I σ a) := by
  have c := r.cf
  have d := r.rf
  obtain ⟨r1, r2, r3, r4, r5, r6, ⟨n, n1, n2, n3, ⟨m, x, m1, m2, m3, m4, m5, m6⟩, n5⟩, r8, r9, r10⟩ := r.1
  obtain ⟨p1, p2⟩ := r1.2.2.2.2.1 x m2
  obtain ⟨τ0, t1, t2, t3, t4⟩ := cf_v (N := 20000) p2 r1.2.2.1 r8.1 (by omega) (by omega)
  have k5 : f_X5_keep 20000 24 (some 17) σ = some (put_I (put_I τ0 24 1 (Int32.ofNat ((x + 1) % 40))) 24 2 (Int32.ofNat (min 40 (m + 1)))) := by
    unfold f_X5_keep
    rw [m5, l_40, rd_o (by omega) (by omega), o_ti (by omega)]
    have ex : ((x : Int) % ((40 : Nat) : Int)).toNat = x := by omega
    rw [ex]
    simp only [Option.bind_some, c]
    rw [if_neg (o_in (by omega) (by omega)), o_tn (by omega), p1]
    simp only [Option.bind_some]
    rw [t1]
    simp only [Option.bind_some]
    rw [t3 24 (by omega), m5, o_s, rd_o (by omega) (by omega), o_ti (by omega)]
    have ex2 : (((x + 1 : Nat) : Int) % ((40 : Nat) : Int)).toNat = (x + 1) % 40 := by omega
    rw [ex2]
    simp only [Option.bind_some]
    rw [gI_n (by omega), t3 24 (by omega), m3, o_s, min_v (by omega) (by omega)]
    rfl
  have kE : ∀ a, a < 24 ∨ 306 ≤ a → sg_I (put_I (put_I τ0 24 1 (Int32.ofNat ((x + 1) % 40))) 24 2 (Int32.ofNat (min 40 (m + 1)))) a = sg_I σ a := by
    intro a ha
    rw [gI_a (by omega), gI_a (by omega), t3 a (by omega)]
  have tC : FC σ (put_I (put_I τ0 24 1 (Int32.ofNat ((x + 1) % 40))) 24 2 (Int32.ofNat (min 40 (m + 1)))) := by
    intro a h1 h2
    refine ⟨kE a (by omega), ?_, ?_, ?_⟩
    · show sg_R τ0 a = _
      rw [t2.2.1]
    · show sg_L τ0 a = _
      rw [t2.2.2.1]
    · show sg_J τ0 a = _
      rw [t2.2.2.2]
  -- the reference's rows then
  have ref : ∃ υ, f_X12_keep 20000 344 ρ = some υ ∧ kp_ ρ υ ∧ (∀ a, a ≠ 344 → a ≠ 361 → sg_I υ a = sg_I ρ a) ∧ (∀ j, j ≠ 29 → sg_I υ 344 j = sg_I ρ 344 j) ∧ sg_I υ 344 29 = Int32.ofNat (min 40 (m + 1)) ∧ (∀ j, j < 261 → sg_I υ 361 (261 * (min 40 (m + 1) - 1) + j) = sg_I ρ 359 (0 + j)) ∧ (∀ i, 1 ≤ i → i < min 40 (m + 1) → ∀ j, j < 261 → sg_I υ 361 (261 * (min 40 (m + 1) - 1 - i) + j) = sg_I ρ 361 (261 * (m - 1 - (i - 1)) + j)) := by
    by_cases hm : m = 40
    · subst hm
      have e40 : sg_I ρ 344 29 = 40 := m4
      have d' : RF (sg_R (put_I (cw_ ρ 361 261 361 0 10179) 344 29 (Int32.ofNat 39))) (sg_L (put_I (cw_ ρ 361 261 361 0 10179) 344 29 (Int32.ofNat 39))) := by
        rw [gR_I, gL_I, (cw_k 10179).2.1, (cw_k 10179).2.2.1]
        exact d
      have e1 : f_X12_keep 20000 344 ρ = some (put_I (cw_ (put_I (cw_ ρ 361 261 361 0 10179) 344 29 (Int32.ofNat 39)) 359 0 361 (261 * 39) 261) 344 29 (Int32.ofNat (39 + 1))) := by
        unfold f_X12_keep
        rw [if_pos e40]
        have q1 := cs_v (N := 20000) d e40 10179 0 20000 (by omega) (by omega)
        have q2 := ck_v (N := 20000) d' (by omega) gI_e 261 0 20000 (by omega) (by omega)
        exact q1.trans q2
      refine ⟨_, e1, (((cw_k _).tr kp_.put).tr (cw_k _)).tr kp_.put, fun a h1 h2 => ?_, fun j hj => ?_, gI_e, fun j hj => ?_, fun i h1 h2 j hj => ?_⟩
      · rw [gI_a h1, cw_o (Or.inl (by decide)) h2, gI_a h1, cw_o (Or.inr (by decide)) h2]
      · rw [gI_n (by omega), cw_o (Or.inl (by decide)) (by decide), gI_n (by omega), cw_o (Or.inr (by decide)) (by decide)]
      · rw [gI_a (by decide), cw_I (Or.inl (by decide)), if_pos (by omega), gI_a (by decide), cw_o (Or.inr (by decide)) (by decide)]
        exact congrArg (sg_I ρ 359) (by omega)
      · rw [gI_a (by decide), cw_I (Or.inl (by decide)), if_neg (by omega), gI_a (by decide), cw_I (Or.inr (by decide)), if_pos (by omega)]
        congr 1
        omega
    · have e1 : f_X12_keep 20000 344 ρ = some (put_I (cw_ ρ 359 0 361 (261 * m) 261) 344 29 (Int32.ofNat (m + 1))) := by
        unfold f_X12_keep
        rw [if_neg (by rw [m4, l_40, o_eq (by omega) (by omega)]; exact hm)]
        exact ck_v (N := 20000) d (by omega) m4 261 0 20000 (by omega) (by omega)
      have em : min 40 (m + 1) = m + 1 := by omega
      rw [em]
      refine ⟨_, e1, (cw_k _).tr kp_.put, fun a h1 h2 => ?_, fun j hj => ?_, gI_e, fun j hj => ?_, fun i h1 h2 j hj => ?_⟩
      · rw [gI_a h1, cw_o (Or.inl (by decide)) h2]
      · rw [gI_n (by omega), cw_o (Or.inl (by decide)) (by decide)]
      · rw [gI_a (by decide), cw_I (Or.inl (by decide)), if_pos (by omega)]
        congr 1
        omega
      · rw [gI_a (by decide), cw_I (Or.inl (by decide)), if_neg (by omega)]
        congr 1
        omega
  obtain ⟨υ, u1, u2, u3, u4, u5, u6, u7⟩ := ref
  have uR : FR ρ υ := ⟨u2.1, fun a ha => ⟨u3 a (by omega) (by omega), by rw [u2.2.1], by rw [u2.2.2.1]⟩⟩
  refine ⟨_, υ, k5, u1, ⟨?_, by rw [u2.2.1, u2.2.2.1]; exact r.2⟩, tC, uR, t2.tr (kp_.put.tr kp_.put), u2, fun a ha => kE a (by omega), u3, u4, fun a ha => kE a (by omega)⟩
  rw [show sg_R (put_I (put_I τ0 24 1 (Int32.ofNat ((x + 1) % 40))) 24 2 (Int32.ofNat (min 40 (m + 1)))) = sg_R σ from t2.2.1, show sg_L (put_I (put_I τ0 24 1 (Int32.ofNat ((x + 1) % 40))) 24 2 (Int32.ofNat (min 40 (m + 1)))) = sg_L σ from t2.2.2.1, show sg_N (put_I (put_I τ0 24 1 (Int32.ofNat ((x + 1) % 40))) 24 2 (Int32.ofNat (min 40 (m + 1)))) = sg_N σ from t2.1]
  have F23 := u4 23 (by omega)
  have F58 : ∀ j : Nat, (j : Int) < (sg_I ρ 344 23).toInt → sg_I υ 358 j = sg_I ρ 358 j := fun j _ => by rw [u3 358 (by omega) (by omega)]
  refine rl_x r.1 (tp_d r3 (by rw [kE 0 (by omega)]) (kE 1 (by omega)) (u4 2 (by omega)) (u3 345 (by omega) (by omega))) (st_d r4 (by rw [kE 0 (by omega)]) (by rw [kE 15 (by omega)]) (fun a ha => kE a (by omega)) F23 (u3 357 (by omega) (by omega)) (u3 358 (by omega) (by omega))) (la_d r5 (by rw [kE 0 (by omega)]) (by rw [kE 0 (by omega)]) (fun a ha => kE a (by omega)) (u4 13 (by omega)) (u4 26 (by omega)) (fun a ha => u3 a (by omega) (by omega))) ⟨n, n1, (u4 20 (by omega)).trans n2, ?_, ⟨min 40 (m + 1), (x + 1) % 40, by omega, by omega, gI_e, u5, ?_, fun i hi => ?_⟩, ?_⟩ ?_ (mi_d r9 (by rw [kE 0 (by omega)]) (kE 16 (by omega)) (u4 27 (by omega)) (u3 360 (by omega) (by omega))) (no_d r10 (by rw [kE 313 (by omega)]) (kE 314 (by omega)) (kE 315 (by omega)) (kE 316 (by omega)) (u4 37 (by omega)) (u3 365 (by omega) (by omega)) (u3 366 (by omega) (by omega)) (u3 367 (by omega) (by omega)))
  · exact sc_q n1 (sq_r fun a j h1 h2 => by rw [kE a (by omega)]) (hq_r (u3 359 (by omega) (by omega))) F23 F58 n3
  · rw [gI_n (by omega), gI_e]
  · by_cases hi0 : i = 0
    · subst hi0
      have ex : ((x + 1) % 40 + 39 - 0) % 40 = x := by omega
      rw [ex]
      refine sc_q n1 ⟨fun k h1 h2 h3 => ?_, fun k h1 => ?_, fun w hw k hk => ?_⟩ (fun j hj => ?_) F23 F58 n3
      · rw [gI_a (by omega), gI_a (by omega), t4.1 k h1 h2 h3]
      · rw [gI_a (by omega), gI_a (by omega), t4.2.1 k h1]
      · rw [gI_a (by omega), gI_a (by omega), t4.2.2 w hw k hk]
      · exact u6 j hj
    · have ex : ((x + 1) % 40 + 39 - i) % 40 = (x + 39 - (i - 1)) % 40 := by omega
      have ey : (x + 39 - (i - 1)) % 40 ≠ x := by omega
      have ez := Nat.mod_lt (x + 39 - (i - 1)) (show 0 < 40 by omega)
      rw [ex]
      refine sc_q n1 (sq_r fun a j h1 h2 => ?_) (fun j hj => ?_) F23 F58 (m6 (i - 1) (by omega))
      · rw [gI_a (by omega), gI_a (by omega), t3 a (by omega)]
      · exact u7 i (by omega) hi j hj
  · refine ⟨by rw [kE 0 (by omega), u4 40 (by omega)]; exact n5.1, ?_⟩
    rw [kE 0 (by omega)]
    rcases n5.2 with q | ⟨q1, q2, q3⟩
    · exact Or.inl q
    · exact Or.inr ⟨q1, q2, sc_q n1 (sq_r fun a j h1 h2 => by rw [kE a (by omega)]) (hq_r (u3 369 (by omega) (by omega))) F23 F58 q3⟩
  · refine ⟨fun w hw => ?_, fun w hw => ?_, fun i hi w hw => ?_⟩
    · rw [kE _ (by omega)]; exact r8.1 w hw
    · rw [kE _ (by omega)]; exact r8.2.1 w hw
    · by_cases hx : i = x
      · subst hx
        rw [gI_a (by omega), gI_a (by omega), t4.2.2 w hw 1 (by omega)]
        exact r8.1 w hw
      · rw [gI_a (by omega), gI_a (by omega), t3 _ (by omega)]
        exact r8.2.2 i hi w hw
