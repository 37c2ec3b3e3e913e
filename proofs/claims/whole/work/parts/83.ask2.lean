theorem FD.k8 {σ τ υ : Sg} {F : List Nat} (h : FD σ τ F) (k : kp_ τ υ) (e : ∀ a, a ≠ 318 → sg_I υ a = sg_I τ a) : FD σ υ F := by
  refine ⟨h.1.tr ⟨k.1, ⟨fun a _ => by rw [k.2.2.1], fun a j _ => by rw [k.2.1], fun a j ha => ?_⟩, fun a h1 h2 => ⟨e a (by omega), by rw [k.2.1], by rw [k.2.2.1], by rw [k.2.2.2]⟩⟩, by rw [e 313 (by decide)]; exact h.2.1, fun i hi => by rw [e 317 (by decide)]; exact h.2.2 i hi⟩
  rw [e a (fun q => ha (Or.inr (Or.inr (Or.inr (Or.inl q)))))]
theorem tk_s {h : Nat → Nat → Int32} {t p i : Nat} {F : List Nat} (hi : i < F.length) : cc_ h t (F.take (i + 1)) p = cc_ h t (F.take i) p + (if pc_ h t (F.getD i 0) = p then 1 else 0) := by
  rw [List.take_succ, cc_app, List.getElem?_eq_getElem hi, List.getD_eq_getElem?_getD, List.getElem?_eq_getElem hi]
  show _ + (0 + _) = _
  rw [Nat.zero_add]
  rfl
theorem ma_c {σ ρ : Sg} (r : Rel σ ρ) {F : List Nat} (hF : F.length ≤ 960) (hok : ∀ x ∈ F, Fok (sg_I ρ) x) {t : Nat} (ht : t ≤ 60) : ∀ (j i m : Nat) (τ : Sg), i + j = F.length → j < m → FD σ τ F → (∀ p, p < 27 → sg_I τ 318 p = Int32.ofNat (cc_ (sg_I ρ) t (F.take i) p)) → ∃ υ, f_X4_mostAlike_L13 20000 313 m (some 13) (Int32.ofNat t) (Int32.ofNat (mx_ (cc_ (sg_I ρ) t (F.take i)) 27)) (Int32.ofNat i) τ = some (Int32.ofNat (mx_ (cc_ (sg_I ρ) t F) 27), υ) ∧ FD σ υ F := by
  have g6 := r.hs.1
  intro j
  induction j with
  | zero =>
    intro i m τ hi hm fd hs
    obtain ⟨m, rfl⟩ : ∃ x, m = x + 1 := ⟨m - 1, by omega⟩
    refine ⟨τ, ?_, fd⟩
    rw [f_X4_mostAlike_L13, fd.2.1, if_neg (by rw [o_lt (by omega) (by omega)]; omega), List.take_of_length_le (by omega)]
  | succ j ih =>
    intro i m τ hi hm fd hs
    obtain ⟨m, rfl⟩ : ∃ x, m = x + 1 := ⟨m - 1, by omega⟩
    have r' := fd.1.rel r
    have c := r'.cf
    have R4 : sg_R τ 313 4 = some 317 := by simp only [c]
    have L317 : sg_L τ 317 = 960 := by simp only [c]
    have R6 : sg_R τ 313 6 = some 318 := by simp only [c]
    have L318 : sg_L τ 318 = 27 := by simp only [c]
    have L13 : sg_L τ 13 = 6 := by simp only [c]
    have hiF : i < F.length := by omega
    have hx : F.getD i 0 ∈ F := by
      rw [List.getD_eq_getElem?_getD, List.getElem?_eq_getElem hiF]
      exact List.getElem_mem hiF
    have fx := fd.2.2 i hiF
    obtain ⟨o1, o2⟩ := hok _ hx
    have tk := fun p => tk_s (h := sg_I ρ) (t := t) (p := p) hiF
    generalize F.getD i 0 = x at fx o1 o2 tk
    obtain ⟨⟨k1, k2, k3⟩, k4, k5, k6, k7, -⟩ := ref_k r o1
    obtain ⟨b, b1, b2, b3, b4, b5⟩ := r'.ss k4
    obtain ⟨p1, p2⟩ := pc_b r t x
    have hvt : x / 100 % 10 * t ≤ 9 * 60 := Nat.mul_le_mul (by omega) ht
    have sa : f_X8_shownAt b (Int32.ofNat (x % 100) + Int32.ofNat (x / 100 % 10) * Int32.ofNat t) τ = some (Int32.ofNat (pc_ (sg_I ρ) t x)) := by
      rw [o_mul, o_add, b2.sa (by omega), p2]
    have hc := cc_le (h := sg_I ρ) (t := t) (p := pc_ (sg_I ρ) t x) (F.take i)
    have hmx := mx_le (f := cc_ (sg_I ρ) t (F.take i)) (b := (F.take i).length) (fun k => cc_le _) 27
    have htl : (F.take i).length ≤ 960 := by rw [List.length_take]; omega
    have mu := mx_u (f := cc_ (sg_I ρ) t (F.take i)) (g := cc_ (sg_I ρ) t (F.take (i + 1))) (c := pc_ (sg_I ρ) t x) (by rw [tk, if_pos rfl]) (fun k hk => by rw [tk, if_neg (fun q => hk q.symm), Nat.add_zero]) 27
    rw [if_pos (by omega)] at mu
    have fd' : FD σ (put_I τ 318 (pc_ (sg_I ρ) t x) (Int32.ofNat (cc_ (sg_I ρ) t (F.take i) (pc_ (sg_I ρ) t x) + 1))) F := fd.k8 kp_.put (fun a ha => gI_a ha)
    obtain ⟨υ, u1, u2⟩ := ih (i + 1) m _ (by omega) (by omega) fd' (fun p hp => by
      rw [tk p]
      by_cases q : p = pc_ (sg_I ρ) t x
      · rw [← q, gI_e, if_pos rfl]
      · rw [gI_n (by omega), if_neg (fun h => q h.symm), Nat.add_zero]
        exact hs p hp)
    have n27 : ¬ (Int32.ofNat (pc_ (sg_I ρ) t x) < 0 ∨ 27 ≤ (Int32.ofNat (pc_ (sg_I ρ) t x)).toNatClampNeg) := o_in (by omega) (by omega)
    have t27 : (Int32.ofNat (pc_ (sg_I ρ) t x)).toNatClampNeg = pc_ (sg_I ρ) t x := o_tn (by omega)
    have n27' : ¬ (Int32.ofNat (pc_ (sg_I ρ) t x) < 0 ∨ 27 ≤ pc_ (sg_I ρ) t x) := by rw [t27] at n27; exact n27
    have n960 : ¬ (Int32.ofNat i < 0 ∨ 960 ≤ (Int32.ofNat i).toNatClampNeg) := o_in (by omega) (by omega)
    have t960 : (Int32.ofNat i).toNatClampNeg = i := o_tn (by omega)
    have n960' : ¬ (Int32.ofNat i < 0 ∨ 960 ≤ i) := by rw [t960] at n960; exact n960
    have n6 : ¬ (Int32.ofNat (x / 1000) < 0 ∨ 6 ≤ (Int32.ofNat (x / 1000)).toNatClampNeg) := o_in (by omega) (by omega)
    have t6 : (Int32.ofNat (x / 1000)).toNatClampNeg = x / 1000 := o_tn (by omega)
    have n6' : ¬ (Int32.ofNat (x / 1000) < 0 ∨ 6 ≤ x / 1000) := by rw [t6] at n6; exact n6
    have R6' : sg_R (put_I τ 318 (pc_ (sg_I ρ) t x) (Int32.ofNat (cc_ (sg_I ρ) t (F.take i) (pc_ (sg_I ρ) t x) + 1))) 313 6 = some 318 := R6
    have L318' : sg_L (put_I τ 318 (pc_ (sg_I ρ) t x) (Int32.ofNat (cc_ (sg_I ρ) t (F.take i) (pc_ (sg_I ρ) t x) + 1))) 318 = 27 := L318
    refine ⟨υ, ?_, u2⟩
    rw [f_X4_mostAlike_L13, fd.2.1, if_pos (by rw [o_lt (by omega) (by omega)]; omega), f_of R4, L317, if_pos (by rw [o_lt (by omega) (by omega)]; omega), if_neg n960, t960, if_neg n960', if_neg n960', fx, k1, k2, k3, if_neg (o_nn (by omega)), f_of (rfl : some 13 = some 13), L13, if_pos (by rw [o_lt (by omega) (by omega)]; omega), if_neg n6, t6, b1]
    dsimp only
    rw [if_neg n6', f_of sa, if_neg (o_nn (by omega)), f_of R6, L318, if_pos (by rw [o_lt (by omega) (by omega)]; omega), if_neg n27, t27, if_neg n27', hs _ (by omega), o_s, f_of R6', L318', if_neg n27', gI_e, f_of (mx_2 (by omega) (by omega)), ← mu]
    unfold f_X4_mostAlike_B145
    rw [o_s i]
    exact u1
theorem ma_v {σ ρ τ : Sg} (r : Rel σ ρ) {F : List Nat} (hF : F.length ≤ 960) (hok : ∀ x ∈ F, Fok (sg_I ρ) x) {t : Nat} (ht : t ≤ 60) (fd : FD σ τ F) : ∃ υ, f_X4_mostAlike 20000 313 (some 13) (Int32.ofNat t) τ = some (Int32.ofNat (mx_ (cc_ (sg_I ρ) t F) 27), υ) ∧ FD σ υ F := by
  have c := (fd.1.rel r).cf
  have R6 : sg_R τ 313 6 = some 318 := by simp only [c]
  have L318 : sg_L τ 318 = 27 := by simp only [c]
  obtain ⟨φ, f1, f2, f3, f4⟩ := fl_v (b := 318) (len := 27) (v := 0) (by omega) 27 0 20000 τ (by omega) (by omega) L318
  have fd' : FD σ φ F := fd.k8 f2 (fun a ha => by funext i; exact f3 a i (Or.inl ha))
  obtain ⟨υ, u1, u2⟩ := ma_c r hF hok ht F.length 0 20000 φ (by omega) (by omega) fd' (fun p hp => f4 p (by omega) hp)
  refine ⟨υ, ?_, u2⟩
  have m0 : mx_ (cc_ (sg_I ρ) t (F.take 0)) 27 = 0 := by
    have h := mx_le (f := cc_ (sg_I ρ) t (F.take 0)) (b := 0) (fun k => cc_le (h := sg_I ρ) (t := t) (p := k) (F.take 0)) 27
    omega
  rw [m0] at u1
  have f1' : f_J7_fill_53178_L5 20000 20000 (some 318) 0 0 (Int32.ofNat 27) τ = some φ := f1
  have fl : f_J7_fill_53178 20000 (some 318) 0 τ = some φ := by
    unfold f_J7_fill_53178
    rw [f_of (rfl : some 318 = some 318), L318, f1']
  unfold f_X4_mostAlike
  rw [R6, f_of fl]
  exact u1
/-- the tick with the fewest -/
def bq_ (M : Nat → Nat) : Nat → Nat → Int32 → Nat → Int32
  | 0, _, best, _ => best
  | j + 1, t, best, few => if M t < few then bq_ M j (t + 1) (Int32.ofNat t) (M t) else bq_ M j (t + 1) best few
theorem bq_c {σ ρ : Sg} (r : Rel σ ρ) {F : List Nat} (hF : F.length ≤ 960) (h0 : 0 < F.length) (hok : ∀ x ∈ F, Fok (sg_I ρ) x) : ∀ (j t m few : Nat) (best : Int32) (τ : Sg), t + j = 61 → j < m → few ≤ 961 → FD σ τ F → ∃ υ, f_X4_bestTick_L12 20000 313 m (some 13) best (Int32.ofNat few) (Int32.ofNat t) τ = some (bq_ (fun t => mx_ (cc_ (sg_I ρ) t F) 27) j t best few, υ) ∧ FD σ υ F := by
  intro j
  induction j with
  | zero =>
    intro t m few best τ ht hm hf fd
    obtain ⟨m, rfl⟩ : ∃ x, m = x + 1 := ⟨m - 1, by omega⟩
    exact ⟨τ, by rw [f_X4_bestTick_L12, if_pos (by rw [l_60, o_lt (by omega) (by omega)]; omega), bq_], fd⟩
  | succ j ih =>
    intro t m few best τ ht hm hf fd
    obtain ⟨m, rfl⟩ : ∃ x, m = x + 1 := ⟨m - 1, by omega⟩
    obtain ⟨φ, f1, f2⟩ := ma_v r hF hok (show t ≤ 60 by omega) fd
    have hmx := mx_le (f := cc_ (sg_I ρ) t F) (b := F.length) (fun k => cc_le _) 27
    rw [f_X4_bestTick_L12, if_neg (by rw [l_60, o_lt (by omega) (by omega)]; omega), fd.2.1, if_pos (by rw [l_0, o_lt (by omega) (by omega)]; exact h0), f_of f1, bq_]
    dsimp only
    unfold f_X4_bestTick_B47
    rw [o_s t]
    by_cases q : mx_ (cc_ (sg_I ρ) t F) 27 < few
    · rw [if_pos (by rw [o_lt (by omega) (by omega)]; exact q), if_pos q]
      exact ih (t + 1) m _ _ φ (by omega) (by omega) (by omega) f2
    · rw [if_neg (by rw [o_lt (by omega) (by omega)]; exact q), if_neg q]
      exact ih (t + 1) m few best φ (by omega) (by omega) hf f2
/-! the reference's -/
def KA (ρ τ : Sg) : Prop := kp_ ρ τ ∧ ∀ a, a ≠ 368 → sg_I τ a = sg_I ρ a
theorem KA.rf {σ : Sg} : KA σ σ := ⟨kp_.rf, fun _ _ => rfl⟩
theorem KA.tr {σ τ υ : Sg} (h : KA σ τ) (k : KA τ υ) : KA σ υ := ⟨h.1.tr k.1, fun a h1 => (k.2 a h1).trans (h.2 a h1)⟩
theorem KA.put {σ : Sg} {j : Nat} {v : Int32} : KA σ (put_I σ 368 j v) := ⟨kp_.put, fun b h => gI_a h⟩
theorem KA.kr {σ τ : Sg} (h : KA σ τ) : KR σ τ := ⟨HK.of (fun a _ _ _ _ _ _ _ _ h1 => h.2 a h1) (fun j _ => by rw [h.2 344 (by decide)]), ⟨h.1.1, fun a ha => ⟨h.2 a (by omega), by rw [h.1.2.1], by rw [h.1.2.2.1]⟩⟩, fun a _ _ => ⟨by rw [h.1.2.1], by rw [h.1.2.2.1]⟩⟩
theorem KA.h {ρ τ : Sg} (k : KA ρ τ) : sg_I τ 344 = sg_I ρ 344 ∧ hS (sg_I τ) = hS (sg_I ρ) ∧ hL (sg_I τ) = hL (sg_I ρ) ∧ hP (sg_I τ) = hP (sg_I ρ) ∧ fi_ (sg_I τ) = fi_ (sg_I ρ) := by
  have e4 := k.2 344 (by decide)
  have eS : hS (sg_I τ) = hS (sg_I ρ) := by unfold hS; rw [e4]
  have eL : hL (sg_I τ) = hL (sg_I ρ) := hL_q (by rw [e4]) (k.2 358 (by decide))
  have eP : hP (sg_I τ) = hP (sg_I ρ) := by
    funext q i
    unfold hP
    rw [eS, k.2 357 (by decide)]
  refine ⟨e4, eS, eL, eP, ?_⟩
  funext s v p
  unfold fi_ fq_
  rw [eP, eL, e4, k.2 365 (by decide), k.2 366 (by decide), k.2 367 (by decide)]
/-- the counters tell the row P -/
def TG (ρ τ : Sg) (P : List Nat) : Prop := KA ρ τ ∧ ∀ t, t ≤ 60 → ∀ p, p ≤ 26 → sg_I τ 368 (27 * t + p) = Int32.ofNat (cc_ (sg_I ρ) t P p)
theorem cc_s {h : Nat → Nat → Int32} {t p x : Nat} {P : List Nat} : cc_ h t (P ++ [x]) p = cc_ h t P p + (if pc_ h t x = p then 1 else 0) := by
  rw [cc_app]
  show _ + (0 + _) = _
  rw [Nat.zero_add]
theorem tg_i {σ ρ : Sg} (r : Rel σ ρ) {x : Nat} (hx : x < 1000 * hS (sg_I ρ)) (hp : x % 100 < hL (sg_I ρ) (x / 1000)) {P : List Nat} (hP' : P.length ≤ 6000) {k35 : Int32 → Sg → Option (Int32 × Sg)} : ∀ (j t m : Nat) (τ : Sg), t + j = 61 → j < m → KA ρ τ → (∀ u, u ≤ 60 → ∀ p, p ≤ 26 → sg_I τ 368 (27 * u + p) = Int32.ofNat (cc_ (sg_I ρ) u (if u < t then P ++ [x] else P) p)) → ∃ υ, f_X12_ask_L89 20000 344 k35 m (Int32.ofNat x) (Int32.ofNat t) τ = k35 (Int32.ofNat (x + 1)) υ ∧ TG ρ υ (P ++ [x]) := by
  have g6 := r.hs.1
  intro j
  induction j with
  | zero =>
    intro t m τ ht hm ka hs
    obtain ⟨m, rfl⟩ : ∃ x, m = x + 1 := ⟨m - 1, by omega⟩
    refine ⟨τ, ?_, ka, fun u hu p hp => ?_⟩
    · rw [f_X12_ask_L89, if_pos (by rw [l_60, o_lt (by omega) (by omega)]; omega)]
      unfold f_X12_ask_B136
      rw [o_s x]
    · have := hs u hu p hp
      rw [if_pos (by omega)] at this
      exact this
  | succ j ih =>
    intro t m τ ht hm ka hs
    obtain ⟨m, rfl⟩ : ∃ x, m = x + 1 := ⟨m - 1, by omega⟩
    obtain ⟨⟨k1, k2, k3⟩, k4, k5, k6, k7, -⟩ := ref_k r hx
    obtain ⟨e4, eS, eL, eP, eF⟩ := ka.h
    have r' := ka.kr.rel r
    have d := r'.rf
    have R38 : sg_R τ 344 38 = some 368 := by simp only [d]
    have L38 : sg_L τ 368 = 1647 := by simp only [d]
    obtain ⟨p1, p2⟩ := pc_b r t x
    have sb := sb_w r' (s := x / 1000) (v := x / 100 % 10) (p := x % 100) (t := t) (by rw [eS]; exact k4) (by omega) (by omega) (by omega)
    rw [eP, eL, p2] at sb
    have hst := hs t (by omega) _ p1
    rw [if_neg (by omega)] at hst
    have hc := cc_le (h := sg_I ρ) (t := t) (p := pc_ (sg_I ρ) t x) P
    have n1 : ¬ (Int32.ofNat (27 * t + pc_ (sg_I ρ) t x) < 0 ∨ 1647 ≤ (Int32.ofNat (27 * t + pc_ (sg_I ρ) t x)).toNatClampNeg) := o_in (by omega) (by omega)
    have t1 : (Int32.ofNat (27 * t + pc_ (sg_I ρ) t x)).toNatClampNeg = 27 * t + pc_ (sg_I ρ) t x := o_tn (by omega)
    have n1' : ¬ (Int32.ofNat (27 * t + pc_ (sg_I ρ) t x) < 0 ∨ 1647 ≤ 27 * t + pc_ (sg_I ρ) t x) := by rw [t1] at n1; exact n1
    obtain ⟨υ, u1, u2⟩ := ih (t + 1) m (put_I τ 368 (27 * t + pc_ (sg_I ρ) t x) (Int32.ofNat (cc_ (sg_I ρ) t P (pc_ (sg_I ρ) t x) + 1))) (by omega) (by omega) (ka.tr KA.put) (fun u hu p hp => by
      by_cases q : u = t ∧ p = pc_ (sg_I ρ) t x
      · obtain ⟨rfl, rfl⟩ := q
        rw [gI_e, if_pos (by omega), cc_s, if_pos rfl]
      · rw [gI_n (by omega), hs u hu p hp]
        by_cases q2 : u < t
        · rw [if_pos q2, if_pos (by omega)]
        · rw [if_neg q2]
          by_cases q3 : u = t
          · subst q3
            rw [if_pos (by omega), cc_s, if_neg (fun h => q ⟨rfl, h.symm⟩), Nat.add_zero]
          · rw [if_neg (by omega)])
    refine ⟨υ, ?_, u2⟩
    rw [f_X12_ask_L89, if_neg (by rw [l_60, o_lt (by omega) (by omega)]; omega), k1, k2, k3, f_of sb, f_of R38, L38, l_27, o_mul, o_add, if_neg n1, t1, if_neg n1', hst, o_s (cc_ (sg_I ρ) t P (pc_ (sg_I ρ) t x)), o_s t]
    exact u1
theorem tg_k {σ ρ : Sg} (r : Rel σ ρ) : ∀ (j k m : Nat) (τ : Sg) (P : List Nat), k + j = 1000 * hS (sg_I ρ) → j < m → TG ρ τ P → P.length ≤ k → ∃ υ, f_X12_ask_L35 20000 344 m (Int32.ofNat k) τ = f_X12_ask_L148 20000 344 20000 (-1) 0 0 υ ∧ TG ρ υ (P ++ (if k < 1000 * hS (sg_I ρ) then rk_ (sg_I ρ) k else [])) := by
  obtain ⟨g1, g2, g3⟩ := r.hs
  have e1 : (1000 : Int32) * Int32.ofNat (hS (sg_I ρ)) = Int32.ofNat (1000 * hS (sg_I ρ)) := by rw [l_1000, o_mul]
  intro j
  induction j with
  | zero =>
    intro k m τ P hk hm tg hP'
    obtain ⟨m, rfl⟩ : ∃ x, m = x + 1 := ⟨m - 1, by omega⟩
    have e23 : sg_I τ 344 23 = Int32.ofNat (hS (sg_I ρ)) := by rw [tg.1.h.1]; exact g3
    refine ⟨τ, ?_, by rw [if_neg (by omega), List.append_nil]; exact tg⟩
    rw [f_X12_ask_L35, e23, e1, if_neg (by rw [o_lt (by omega) (by omega)]; omega)]
  | succ j ih =>
    intro k m τ P hk hm tg hP'
    obtain ⟨m, rfl⟩ : ∃ x, m = x + 1 := ⟨m - 1, by omega⟩
    obtain ⟨e4, eS, eL, eP, eF⟩ := tg.1.h
    have e23 : sg_I τ 344 23 = Int32.ofNat (hS (sg_I ρ)) := by rw [e4]; exact g3
    have r' := tg.1.kr.rel r
    have d := r'.rf
    have R22 : sg_R τ 344 22 = some 358 := by simp only [d]
    have L22 : sg_L τ 358 = 7 := by simp only [d]
    obtain ⟨⟨k1, k2, k3⟩, k4, k5, k6, k7, k8⟩ := ref_k r (show k < 1000 * hS (sg_I ρ) by omega)
    have k5' : sg_I τ 358 (k / 1000) = Int32.ofNat (hL (sg_I ρ) (k / 1000)) := by rw [tg.1.2 358 (by decide)]; exact k5
    have fit := is_r r' (s := k / 1000) (v := k / 100 % 10) (p := k % 100) (by rw [eS]; exact k4) (by omega) (by omega)
    rw [eF] at fit
    rw [f_X12_ask_L35, e23, e1, if_pos (by rw [o_lt (by omega) (by omega)]; omega), f_of R22, L22, k1, k2, k3, if_neg (o_in (by omega) (by omega)), o_tn (by omega), k5', if_pos (show k < 1000 * hS (sg_I ρ) by omega), f_of fit]
    by_cases hp : k % 100 < hL (sg_I ρ) (k / 1000)
    · have hn : k + 1 < 1000 * hS (sg_I ρ) := by omega
      rw [if_pos (k8.mp hp), rk_a k7 hp]
      cases hb : fi_ (sg_I ρ) (k / 1000) (k / 100 % 10) (k % 100) with
      | false =>
        obtain ⟨υ, u1, u2⟩ := ih (k + 1) m τ P (by omega) (by omega) tg (by omega)
        rw [if_pos hn] at u2
        refine ⟨υ, ?_, by rw [if_neg (by decide), List.nil_append]; exact u2⟩
        rw [if_pos bi_f]
        unfold f_X12_ask_B136
        rw [o_s k]
        exact u1
      | true =>
        obtain ⟨φ, f1, f2⟩ := tg_i r (show k < 1000 * hS (sg_I ρ) by omega) hp (P := P) (by omega) (k35 := f_X12_ask_L35 20000 344 m) 61 0 20000 τ (by omega) (by omega) tg.1 (fun u hu p hp => by rw [if_neg (by omega)]; exact tg.2 u hu p hp)
        obtain ⟨υ, u1, u2⟩ := ih (k + 1) m φ (P ++ [k]) (by omega) (by omega) f2 (by rw [List.length_append]; show P.length + 1 ≤ _; omega)
        rw [if_pos hn, List.append_assoc] at u2
        refine ⟨υ, ?_, by rw [if_pos rfl]; exact u2⟩
        rw [if_neg bi_t]
        exact (show _ = _ from f1).trans u1
    · obtain ⟨υ, u1, u2⟩ := ih (k + 1) m τ P (by omega) (by omega) tg (by omega)
      refine ⟨υ, ?_, ?_⟩
      · rw [if_neg (fun q => hp (k8.mpr q))]
        unfold f_X12_ask_B136
        rw [o_s k]
        exact u1
      · by_cases hn : k + 1 < 1000 * hS (sg_I ρ)
        · rw [if_pos hn] at u2
          rw [rk_b hn k6 (by omega)]
          exact u2
        · rw [if_neg hn] at u2
          rw [rk_z (by omega) k7]
          exact u2
theorem tg_z {ρ0 : Sg} (d : RF (sg_R ρ0) (sg_L ρ0)) : ∀ (j k m : Nat) (τ : Sg), k + j = 1647 → j < m → KA ρ0 τ → (∀ i, i < k → sg_I τ 368 i = 0) → ∃ υ, f_X12_ask_L13 20000 344 m (Int32.ofNat k) τ = f_X12_ask_L35 20000 344 20000 0 υ ∧ KA ρ0 υ ∧ ∀ i, i < 1647 → sg_I υ 368 i = 0 := by
  intro j
  induction j with
  | zero =>
    intro k m τ hk hm ka hz
    obtain ⟨m, rfl⟩ : ∃ x, m = x + 1 := ⟨m - 1, by omega⟩
    exact ⟨τ, by rw [f_X12_ask_L13, if_neg (by rw [l_1647, o_lt (by omega) (by omega)]; omega)], ka, fun i hi => hz i (by omega)⟩
  | succ j ih =>
    intro k m τ hk hm ka hz
    obtain ⟨m, rfl⟩ : ∃ x, m = x + 1 := ⟨m - 1, by omega⟩
    have R38 : sg_R τ 344 38 = some 368 := by rw [ka.1.2.1]; simp only [d]
    have L38 : sg_L τ 368 = 1647 := by rw [ka.1.2.2.1]; simp only [d]
    obtain ⟨υ, u1, u2, u3⟩ := ih (k + 1) m (put_I τ 368 k 0) (by omega) (by omega) (ka.tr KA.put) (fun i hi => by
      by_cases q : i = k
      · subst q; exact gI_e
      · rw [gI_n (by omega)]; exact hz i (by omega))
    refine ⟨υ, ?_, u2, u3⟩
    rw [f_X12_ask_L13, if_pos (by rw [l_1647, o_lt (by omega) (by omega)]; omega), f_of R38, L38, if_neg (o_in (by omega) (by omega)), o_tn (by omega), o_s k]
    exact u1
theorem tg_m {ρ τ : Sg} {F : List Nat} (d : RF (sg_R ρ) (sg_L ρ)) (tg : TG ρ τ F) (hF : F.length ≤ 6000) {t : Nat} (ht : t ≤ 60) {best few : Int32} {K : Int32 → Int32 → Int32 → Sg → Option (Int32 × Sg)} : ∀ (j k m : Nat), k + j = 27 → j < m → f_X12_ask_L160 20000 344 K m best few (Int32.ofNat t) (Int32.ofNat (mx_ (cc_ (sg_I ρ) t F) k)) (Int32.ofNat k) τ = if best = -1 ∨ Int32.ofNat (mx_ (cc_ (sg_I ρ) t F) 27) < few then K (Int32.ofNat t) (Int32.ofNat (mx_ (cc_ (sg_I ρ) t F) 27)) (Int32.ofNat (t + 1)) τ else K best few (Int32.ofNat (t + 1)) τ := by
  have R38 : sg_R τ 344 38 = some 368 := by rw [tg.1.1.2.1]; simp only [d]
  have L38 : sg_L τ 368 = 1647 := by rw [tg.1.1.2.2.1]; simp only [d]
  intro j
  induction j with
  | zero =>
    intro k m hk hm
    obtain ⟨m, rfl⟩ : ∃ x, m = x + 1 := ⟨m - 1, by omega⟩
    have hk : k = 27 := by omega
    subst hk
    rw [f_X12_ask_L160, if_pos (by decide)]
    unfold f_X12_ask_B203 f_X12_ask_B208
    rw [o_s t]
    by_cases q : best = -1
    · rw [if_pos q, if_pos (Or.inl q)]
    · rw [if_neg q]
      by_cases q2 : Int32.ofNat (mx_ (cc_ (sg_I ρ) t F) 27) < few
      · rw [if_pos q2, if_pos (Or.inr q2)]
      · rw [if_neg q2, if_neg (fun h => h.elim q q2)]
  | succ j ih =>
    intro k m hk hm
    obtain ⟨m, rfl⟩ : ∃ x, m = x + 1 := ⟨m - 1, by omega⟩
    have hmx := mx_le (f := cc_ (sg_I ρ) t F) (b := F.length) (fun k => cc_le _) k
    have hc := cc_le (h := sg_I ρ) (t := t) (p := k) F
    have em : mx_ (cc_ (sg_I ρ) t F) (k + 1) = max (mx_ (cc_ (sg_I ρ) t F) k) (cc_ (sg_I ρ) t F k) := rfl
    have ih1 := ih (k + 1) m (by omega) (by omega)
    rw [em] at ih1
    rw [f_X12_ask_L160, if_neg (by rw [l_26, o_lt (by omega) (by omega)]; omega), f_of R38, L38, l_27, o_mul, o_add, if_neg (o_in (by omega) (by omega)), o_tn (by omega), tg.2 t ht k (by omega), f_of (mx_2 (by omega) (by omega)), o_s k]
    exact ih1
theorem tg_b {ρ τ : Sg} {F : List Nat} (d : RF (sg_R ρ) (sg_L ρ)) (tg : TG ρ τ F) (hF : F.length ≤ 960) : ∀ (j t m few : Nat) (best : Int32), t + j = 61 → j < m → few ≤ 960 → ¬ best = -1 → f_X12_ask_L148 20000 344 m best (Int32.ofNat few) (Int32.ofNat t) τ = some (bq_ (fun t => mx_ (cc_ (sg_I ρ) t F) 27) j t best few, τ) := by
  intro j
  induction j with
  | zero =>
    intro t m few best ht hm hf hb
    obtain ⟨m, rfl⟩ : ∃ x, m = x + 1 := ⟨m - 1, by omega⟩
    rw [f_X12_ask_L148, if_pos (by rw [l_60, o_lt (by omega) (by omega)]; omega), bq_]
  | succ j ih =>
    intro t m few best ht hm hf hb
    obtain ⟨m, rfl⟩ : ∃ x, m = x + 1 := ⟨m - 1, by omega⟩
    have hmx := mx_le (f := cc_ (sg_I ρ) t F) (b := F.length) (fun k => cc_le _) 27
    have i1 := tg_m d tg (by omega) (show t ≤ 60 by omega) (best := best) (few := Int32.ofNat few) (K := f_X12_ask_L148 20000 344 m) 27 0 20000 (by omega) (by omega)
    rw [f_X12_ask_L148, if_neg (by rw [l_60, o_lt (by omega) (by omega)]; omega), bq_]
    refine (show _ = _ from i1).trans ?_
    by_cases q : mx_ (cc_ (sg_I ρ) t F) 27 < few
    · rw [if_pos (Or.inr (by rw [o_lt (by omega) (by omega)]; exact q)), if_pos q]
      refine ih (t + 1) m _ _ (by omega) (by omega) (by omega) ?_
      rw [i_eq, o_ti (by omega)]
      have : (-1 : Int32).toInt = -1 := rfl
      omega
    · rw [if_neg (fun h => h.elim hb (fun h => q ((o_lt (by omega) (by omega)).mp h))), if_neg q]
      exact ih (t + 1) m few best (by omega) (by omega) hf hb
