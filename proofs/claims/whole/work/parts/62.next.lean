/-! ===== where a wheel is a tick later ===== -/
def vl_ (v z : Nat) : Int32 := if z = 0 then Int32.ofNat v else -(Int32.ofNat v)
theorem vl_b {v z : Nat} (h : v ≤ 9) : -9 ≤ (vl_ v z).toInt ∧ (vl_ v z).toInt ≤ 9 := by
  unfold vl_
  have := o_ti (show v < 2147483648 by omega)
  by_cases hz : z = 0
  · rw [if_pos hz]; omega
  · rw [if_neg hz, Int32.toInt_neg, Int.bmod_eq_of_le (by omega) (by omega)]; omega
def lt_ (V : Int32) (spot l : Nat) (pic : Int32) (t f : Nat) : Nat → Int32 := fun k => if k = 0 then V else if k = 1 then Int32.ofNat spot else if k = 2 then Int32.ofNat l else if k = 3 then pic else if k = 4 then Int32.ofNat (t % 24) else Int32.ofNat f
theorem lt_b {V : Int32} {spot l : Nat} {pic : Int32} {t f : Nat} (h1 : -9 ≤ V.toInt ∧ V.toInt ≤ 9) (h2 : spot ≤ 16) (h3 : l ≤ 16) (h4 : 0 ≤ pic.toInt ∧ pic.toInt ≤ 26) (h5 : f ≤ 60) : ∀ k, k < 6 → -1000000 ≤ (lt_ V spot l pic t f k).toInt ∧ (lt_ V spot l pic t f k).toInt ≤ 1000000 := by
  intro k hk
  have e1 := o_ti (show spot < 2147483648 by omega)
  have e2 := o_ti (show l < 2147483648 by omega)
  have e3 := o_ti (show t % 24 < 2147483648 by omega)
  have e4 := o_ti (show f < 2147483648 by omega)
  unfold lt_
  match k, hk with
  | 0, _ => simp only [↓reduceIte]; omega
  | 1, _ => simp only [↓reduceIte, Nat.reduceEqDiff]; omega
  | 2, _ => simp only [↓reduceIte, Nat.reduceEqDiff]; omega
  | 3, _ => simp only [↓reduceIte, Nat.reduceEqDiff]; omega
  | 4, _ => simp only [↓reduceIte, Nat.reduceEqDiff]; omega
  | 5, _ => simp only [↓reduceIte, Nat.reduceEqDiff]; omega
def mv_ (K : Option (List Kl)) (V : Int32) (l : Nat) (P : Nat → Int32) (f spot t : Nat) : Int := match K with
  | none => V.toInt
  | some K => max (-15) (min 15 (wo_ (lt_ V spot l (P spot) t f) K).toInt)
/-- the next place -/
def nx_ (K : Option (List Kl)) (V : Int32) (l : Nat) (P : Nat → Int32) (f spot t : Nat) : Nat := (((spot : Int) + mv_ K V l P f spot t) % (l : Int)).toNat
theorem nx_lt {K : Option (List Kl)} {V : Int32} {l : Nat} {P : Nat → Int32} {f spot t : Nat} (h : 1 ≤ l) : nx_ K V l P f spot t < l := by
  unfold nx_
  have h3 := Int.emod_nonneg ((spot : Int) + mv_ K V l P f spot t) (show (l : Int) ≠ 0 by omega)
  have h4 := Int.emod_lt_of_pos ((spot : Int) + mv_ K V l P f spot t) (show (0 : Int) < l by omega)
  omega
theorem mv_b {K : Option (List Kl)} {V : Int32} {l : Nat} {P : Nat → Int32} {f spot t : Nat} (h : -9 ≤ V.toInt ∧ V.toInt ≤ 9) : -15 ≤ mv_ K V l P f spot t ∧ mv_ K V l P f spot t ≤ 15 := by
  unfold mv_
  split <;> omega
theorem mv_24 {K : Option (List Kl)} {V : Int32} {l : Nat} {P : Nat → Int32} {f spot t t' : Nat} (h : t % 24 = t' % 24) : mv_ K V l P f spot t = mv_ K V l P f spot t' := by
  unfold mv_ lt_
  rw [h]
/-- a law in the class's cells -/
def lk_ (σ : Sg) (b : Nat) (K : List Kl) : Prop := sg_R σ b 0 = some (b + 1) ∧ sg_R σ b 1 = some (b + 2) ∧ sg_L σ (b + 2) = 64 ∧ sg_L σ (b + 1) = (ks_c 0 K).length ∧ (ks_c 0 K).length ≤ 720 ∧ sl_ (sg_I σ (b + 1)) 0 (ks_c 0 K) ∧ ∀ q ∈ K, ok_k q
/-- the course of wheel w stands ready: speed, length, pictures, flash, tick, place, law -/
def CO (σ : Sg) (w : Nat) (V : Int32) (l : Nat) (P : Nat → Int32) (f t p : Nat) (law : Option Nat) (K : Option (List Kl)) : Prop :=
  (∃ bs c, sg_R σ (320 + 6 * w) 2 = some bs ∧ sg_R σ bs 0 = some c ∧ sg_L σ c = l ∧ (∀ i, i < l → sg_I σ c i = P i) ∧ (c < 320 ∨ 343 < c) ∧ (∀ b, law = some b → c ≠ b ∧ c ≠ b + 2)) ∧ sg_R σ (320 + 6 * w) 3 = law ∧
  (sg_R σ (320 + 6 * w) 5 = some (323 + 6 * w) ∧ sg_R σ (320 + 6 * w) 6 = some (324 + 6 * w) ∧ sg_R σ (320 + 6 * w) 7 = some (325 + 6 * w) ∧ sg_L σ (323 + 6 * w) = 6 ∧ sg_L σ (324 + 6 * w) = 385 ∧ sg_L σ (325 + 6 * w) = 384) ∧
  (sg_I σ (320 + 6 * w) 0 = V ∧ sg_I σ (320 + 6 * w) 1 = Int32.ofNat p ∧ sg_I σ (320 + 6 * w) 4 = Int32.ofNat t) ∧
  (sg_I σ (323 + 6 * w) 0 = V ∧ sg_I σ (323 + 6 * w) 2 = Int32.ofNat l ∧ sg_I σ (323 + 6 * w) 5 = Int32.ofNat f) ∧
  (1 ≤ l ∧ l ≤ 16 ∧ f ≤ 60 ∧ (-9 ≤ V.toInt ∧ V.toInt ≤ 9) ∧ (∀ i, i < l → 0 ≤ (P i).toInt ∧ (P i).toInt ≤ 26) ∧ w < 4) ∧
  ((law = none ∧ K = none) ∨ ∃ b K', law = some b ∧ K = some K' ∧ 371 ≤ b ∧ (∃ i, i < 4 ∧ sg_R σ 12 i = some b) ∧ lk_ σ b K')
/-- what a move leaves otherwise: letters and the law's pile -/
def KV (w : Nat) (law : Option Nat) (σ τ : Sg) : Prop := kp_ σ τ ∧ ∀ a j, ¬ (a = 323 + 6 * w ∧ (j = 1 ∨ j = 3 ∨ j = 4)) → (∀ b, law = some b → ¬ (a = b ∧ j = 2) ∧ a ≠ b + 2) → sg_I τ a j = sg_I σ a j
theorem KV.rf {w : Nat} {law : Option Nat} {σ : Sg} : KV w law σ σ := ⟨kp_.rf, fun _ _ _ _ => rfl⟩
theorem KV.tr {w : Nat} {law : Option Nat} {σ τ υ : Sg} (h : KV w law σ τ) (k : KV w law τ υ) : KV w law σ υ := ⟨h.1.tr k.1, fun a j h1 h2 => (k.2 a j h1 h2).trans (h.2 a j h1 h2)⟩
theorem CO.mv {σ τ : Sg} {w : Nat} {V : Int32} {l : Nat} {P : Nat → Int32} {f t p : Nat} {law : Option Nat} {K : Option (List Kl)} (h : CO σ w V l P f t p law K) (k : KV w law σ τ) : CO τ w V l P f t p law K := by
  obtain ⟨⟨bs, c, h1, h2, h3, h4, h5, h6⟩, h7, h8, ⟨h9, h10, h11⟩, ⟨h12, h13, h14⟩, h15, h16⟩ := h
  have lo : ∀ b, law = some b → 371 ≤ b := by
    intro b hb
    rcases h16 with ⟨q1, -⟩ | ⟨b', K', q1, q2, q3, -⟩
    · rw [q1] at hb; cases hb
    · rw [q1] at hb; cases hb; exact q3
  have e : ∀ a j, a < 371 → ¬ (a = 323 + 6 * w ∧ (j = 1 ∨ j = 3 ∨ j = 4)) → sg_I τ a j = sg_I σ a j := fun a j ha hn => k.2 a j hn (fun b hb => by have := lo b hb; omega)
  have hw := h15.2.2.2.2.2
  refine ⟨⟨bs, c, by rw [k.1.2.1]; exact h1, by rw [k.1.2.1]; exact h2, by rw [k.1.2.2.1]; exact h3, fun i hi => ?_, h5, h6⟩, by rw [k.1.2.1]; exact h7, by rw [k.1.2.1, k.1.2.2.1]; exact h8, ⟨?_, ?_, ?_⟩, ⟨?_, ?_, ?_⟩, h15, ?_⟩
  · rw [k.2 c i (by omega) (fun b hb => ⟨fun q => (h6 b hb).1 q.1, (h6 b hb).2⟩)]
    exact h4 i hi
  · rw [e _ _ (by omega) (by omega)]; exact h9
  · rw [e _ _ (by omega) (by omega)]; exact h10
  · rw [e _ _ (by omega) (by omega)]; exact h11
  · rw [e _ _ (by omega) (by omega)]; exact h12
  · rw [e _ _ (by omega) (by omega)]; exact h13
  · rw [e _ _ (by omega) (by omega)]; exact h14
  · rcases h16 with q | ⟨b, K', q1, q2, q3, q4, q5, q6, q7, q8, q9, q10, q11⟩
    · exact Or.inl q
    · refine Or.inr ⟨b, K', q1, q2, q3, by rw [k.1.2.1]; exact q4, by rw [k.1.2.1]; exact q5, by rw [k.1.2.1]; exact q6, by rw [k.1.2.2.1]; exact q7, by rw [k.1.2.2.1]; exact q8, q9, sl_q (fun j _ _ => k.2 _ _ (by omega) (fun b' hb' => ?_)) q10, q11⟩
      rw [q1] at hb'
      cases hb'
      omega
theorem CO.kc {σ τ : Sg} {w : Nat} {V : Int32} {l : Nat} {P : Nat → Int32} {f t p : Nat} {law : Option Nat} {K : Option (List Kl)} (h : CO σ w V l P f t p law K) (k : KV w law σ τ) : KC σ τ := by
  obtain ⟨-, -, -, -, -, ⟨-, -, -, -, -, hw⟩, h16⟩ := h
  refine ⟨k.1.1, ⟨fun a _ => by rw [k.1.2.2.1], fun a j _ => by rw [k.1.2.1], fun a j ha => k.2 a j (fun q => ha (Or.inr (Or.inr (Or.inr (Or.inr (Or.inl (by omega))))))) (fun b hb => ?_)⟩, fun a h1 h2 => ⟨?_, by rw [k.1.2.1], by rw [k.1.2.2.1], by rw [k.1.2.2.2]⟩⟩
  · rcases h16 with ⟨q1, -⟩ | ⟨b', K', q1, q2, q3, ⟨i, q4, q5⟩, -⟩
    · rw [q1] at hb; cases hb
    · rw [q1] at hb
      cases hb
      exact ⟨fun q => ha (Or.inr (Or.inr (Or.inr (Or.inr (Or.inr ⟨i, b, q4, q5, q3, Or.inl q⟩))))), fun q => ha (Or.inr (Or.inr (Or.inr (Or.inr (Or.inr ⟨i, b, q4, q5, q3, Or.inr q⟩)))))⟩
  · funext j
    refine k.2 a j (by omega) (fun b hb => ?_)
    rcases h16 with ⟨q1, -⟩ | ⟨b', K', q1, q2, q3, -⟩
    · rw [q1] at hb; cases hb
    · rw [q1] at hb; cases hb; omega
theorem m5_v {x : Int32} : ∃ y, f_X11_within x.toInt64 (-15) 15 = some y ∧ y.toInt = max (-15) (min 15 x.toInt) := by
  have e1 : (15 : Int32).toInt = 15 := by decide
  have e2 : (-15 : Int32).toInt = -15 := by decide
  obtain ⟨y, h1, h2⟩ := wi_v x.toInt64 (-15) 15 (by omega)
  rw [e1, e2, Int32.toInt_toInt64] at h2
  exact ⟨y, h1, h2⟩
theorem mo_v {σ : Sg} {w : Nat} {V : Int32} {l : Nat} {P : Nat → Int32} {f t p : Nat} {law : Option Nat} {K : Option (List Kl)} (h : CO σ w V l P f t p law K) {spot tt : Nat} (hs : spot < l) (ht : tt < 100000) : ∃ τ, f_X0_movedFrom 20000 (320 + 6 * w) (Int32.ofNat spot) (Int32.ofNat tt) σ = some (Int32.ofNat (nx_ K V l P f spot tt), τ) ∧ KV w law σ τ := by
  have h0 := h
  obtain ⟨⟨bs, c, h1, h2, h3, h4, h5, h6⟩, h7, ⟨l1, l2, l3, l4, l5, l6⟩, ⟨h9, h10, h11⟩, ⟨h12, h13, h14⟩, ⟨b1, b2, b3, b4, b5, hw⟩, h16⟩ := h
  have fin : ∀ (υ : Sg) (y : Int32), KV w law σ υ → y.toInt = mv_ K V l P f spot tt → f_X0_movedFrom_B65 20000 (320 + 6 * w) (Int32.ofNat spot) y υ = some (Int32.ofNat (nx_ K V l P f spot tt), υ) := by
    intro υ y ku ey
    have b6 := mv_b (K := K) (l := l) (P := P) (f := f) (spot := spot) (t := tt) b4
    unfold f_X0_movedFrom_B65
    rw [ku.1.2.1, h1]
    simp only [Option.bind_some]
    rw [sz_v (σ := υ) (b := bs) (c := c) (l := l) (by rw [ku.1.2.1]; exact h2) (by rw [ku.1.2.2.1]; exact h3)]
    simp only [Option.bind_some]
    have e1 := o_ti (show spot < 2147483648 by omega)
    rw [rd_o (by omega) (by omega), i_add (by omega) (by omega), e1, ey]
    rfl
  rcases h16 with ⟨q1, q2⟩ | ⟨b, K', q1, q2, q3, q4, q5, q6, q7, q8, q9, q10, q11⟩
  · refine ⟨σ, ?_, KV.rf⟩
    unfold f_X0_movedFrom
    rw [h7, q1]
    show f_X0_movedFrom_B65 _ _ _ _ _ = _
    rw [h9]
    exact fin σ V KV.rf (by rw [q2]; rfl)
  · have lo : 371 ≤ b := q3
    have kv : KV w law σ (put_I (put_I (put_I (put_I σ (323 + 6 * w) 1 (Int32.ofNat spot)) (323 + 6 * w) 3 (P spot)) (323 + 6 * w) 4 (Int32.ofNat (tt % 24))) b 2 0) := ⟨((kp_.put.tr kp_.put).tr kp_.put).tr kp_.put, fun a j n1 n2 => by
      have := n2 b q1
      rw [gI_n (by omega), gI_n (by omega), gI_n (by omega), gI_n (by omega)]⟩
    have LSS : Lz_ (put_I (put_I (put_I (put_I σ (323 + 6 * w) 1 (Int32.ofNat spot)) (323 + 6 * w) 3 (P spot)) (323 + 6 * w) 4 (Int32.ofNat (tt % 24))) b 2 0) b (323 + 6 * w) (ks_c 0 K') (lt_ V spot l (P spot) tt f) [] := by
      refine ⟨⟨q5, q6, q8, q7, sl_q (fun j _ _ => ?_) q10, l4, fun k hk => ?_, by omega, by omega⟩, gI_e, sk_nil⟩
      · rw [gI_n (by omega), gI_n (by omega), gI_n (by omega), gI_n (by omega)]
      · unfold lt_
        match k, hk with
        | 0, _ => rw [gI_n (by omega), gI_n (by omega), gI_n (by omega), gI_n (by omega)]; exact h12
        | 1, _ => rw [gI_n (by omega), gI_n (by omega), gI_n (by omega), gI_e]; rfl
        | 2, _ => rw [gI_n (by omega), gI_n (by omega), gI_n (by omega), gI_n (by omega)]; exact h13
        | 3, _ => rw [gI_n (by omega), gI_n (by omega), gI_e]; rfl
        | 4, _ => rw [gI_n (by omega), gI_e]; rfl
        | 5, _ => rw [gI_n (by omega), gI_n (by omega), gI_n (by omega), gI_n (by omega)]; exact h14
    obtain ⟨τ, t1, t2⟩ := cw_v (N := 20000) (n := 20000) q9 (lt_b b4 (by omega) b2 (b5 spot hs) b3) K' _ [] LSS rfl q11 (by show (ks_c 0 K').length < 20000; omega)
    have kl : KV w law σ τ := kv.tr ⟨t2.1, fun a j _ n2 => t2.2 a j (n2 b q1).1 (n2 b q1).2⟩
    refine ⟨τ, ?_, kl⟩
    have e24 : f_X11_round (Int32.ofNat tt) 24 = some (Int32.ofNat (tt % 24)) := by
      rw [l_24, rd_o (by omega) (by omega), o_ti (by omega)]
      have : ((tt : Int) % ((24 : Nat) : Int)).toNat = tt % 24 := by omega
      rw [this]
    have sa : f_X8_shownAt bs (Int32.ofNat spot) (put_I σ (323 + 6 * w) 1 (Int32.ofNat spot)) = some (P spot) := by
      rw [sa_v (σ := put_I σ (323 + 6 * w) 1 (Int32.ofNat spot)) (c := c) (l := l) (f := P) h2 h3 b1 b2 (fun i hi => by rw [gI_n (by omega)]; exact h4 i hi), o_ti (by omega), Int.emod_eq_of_lt (by omega) (by omega)]
      rfl
    obtain ⟨y, y1, y2⟩ := m5_v (x := wo_ (lt_ V spot l (P spot) tt f) K')
    unfold f_X0_movedFrom
    rw [h7, q1]
    simp only [l1, Option.bind_some, l4, gR_I, gL_I, h1, Int32.reduceToNatClampNeg, Int32.reduceLT, Nat.reduceLeDiff, or_self, ↓reduceIte, sa, e24]
    rw [h7, q1]
    simp only [Option.bind_some]
    unfold f_X2_worth
    have t1' : f_X2_worth_L7 20000 b 20000 (some (323 + 6 * w)) 0 (put_I (put_I (put_I (put_I σ (323 + 6 * w) 1 (Int32.ofNat spot)) (323 + 6 * w) 3 (P spot)) (323 + 6 * w) 4 (Int32.ofNat (tt % 24))) b 2 0) = some (wo_ (lt_ V spot l (P spot) tt f) K', τ) := t1
    rw [t1']
    simp only [Option.bind_some]
    rw [y1]
    simp only [Option.bind_some]
    exact fin τ y kl (by rw [q2, y2]; rfl)
/-! the reference's -/
def KU (σ τ : Sg) : Prop := kp_ σ τ ∧ ∀ a, a ≠ 353 → a ≠ 354 → sg_I τ a = sg_I σ a
theorem KU.rf {σ : Sg} : KU σ σ := ⟨kp_.rf, fun _ _ _ => rfl⟩
theorem KU.tr {σ τ υ : Sg} (h : KU σ τ) (k : KU τ υ) : KU σ υ := ⟨h.1.tr k.1, fun a h1 h2 => (k.2 a h1 h2).trans (h.2 a h1 h2)⟩
theorem KU.put {σ : Sg} {j : Nat} {v : Int32} : KU σ (put_I σ 353 j v) := ⟨kp_.put, fun _ h _ => gI_a h⟩
theorem KU.kr {σ τ : Sg} (h : KU σ τ) : KR σ τ := ⟨HK.of (fun a _ h1 h2 _ _ _ _ _ _ => h.2 a h1 h2) (fun j _ => by rw [h.2 344 (by decide) (by decide)]), ⟨h.1.1, fun a ha => ⟨h.2 a (by omega) (by omega), by rw [h.1.2.1], by rw [h.1.2.2.1]⟩⟩, fun a _ _ => ⟨by rw [h.1.2.1], by rw [h.1.2.2.1]⟩⟩
/-- which law holds, on both sides -/
def HO (σ ρ : Sg) (law : Option Nat) (K : Option (List Kl)) : Prop := (law = none ∧ K = none ∧ sg_I ρ 344 26 = -1 ∧ sg_I σ 0 7 = -1) ∨ ∃ i b K', i < 4 ∧ law = some b ∧ K = some K' ∧ sg_I ρ 344 26 = Int32.ofNat i ∧ sg_I σ 0 7 = Int32.ofNat i ∧ (∃ m, i < m ∧ m ≤ 4 ∧ sg_I σ 0 6 = Int32.ofNat m) ∧ 371 ≤ b ∧ sg_R σ 12 i = some b ∧ lw_1 (sg_R σ) (sg_L σ) (sg_I σ) (sg_I ρ) i b K'
theorem Rel.ho {σ ρ : Sg} (r : Rel σ ρ) : ∃ law K, HO σ ρ law K := by
  obtain ⟨m, m1, m2, m3, m4, m5, m6, m7⟩ := r.1.2.2.2.2.1
  have em : (-1 : Int32).toInt = -1 := rfl
  by_cases h : sg_I σ 0 7 = -1
  · exact ⟨none, none, Or.inl ⟨rfl, rfl, m4.symm.trans h, h⟩⟩
  · have h' : (sg_I σ 0 7).toInt ≠ -1 := fun q => h (i_eq.mpr q)
    obtain ⟨i, i1, i2⟩ := x_lt (x := sg_I σ 0 7) (B := m) (by omega)
    obtain ⟨b, K, b1, b2, b3, b4⟩ := m7 i i1
    exact ⟨some b, some K, Or.inr ⟨i, b, K, by omega, rfl, rfl, m4.symm.trans i2, i2, ⟨m, i1, m1, m2⟩, b1, b3, b4⟩⟩
theorem rm_24 {t : Nat} (h : t < 2147483648) : rm_ (Int32.ofNat t) 24 = Int32.ofNat (t % 24) := by
  have e : (24 : Int32).toInt = 24 := rfl
  rw [i_eq, rm_ti, o_ti h, e, o_ti (by omega), Int.tmod_eq_emod_of_nonneg (by omega)]
  omega
theorem no_v {σ ρ : Sg} (r : Rel σ ρ) {law : Option Nat} {K : Option (List Kl)} (H : HO σ ρ law K) {w v z q f spot tt : Nat} (hw : w < 4) (hv : v ≤ 9) (hz : z ≤ 1) (hq : q ≤ 5) (hf : f ≤ 60) (hs : spot < hL (sg_I ρ) q) (ht : tt < 100000) (e0 : sg_I ρ 359 (4 * w) = Int32.ofNat v) (e1 : sg_I ρ 359 (4 * w + 1) = Int32.ofNat z) (e3 : sg_I ρ 359 (4 * w + 3) = Int32.ofNat q) (e16 : sg_I ρ 359 16 = Int32.ofNat f) : ∃ τ, f_X12_nextOf 20000 344 (Int32.ofNat w) (Int32.ofNat spot) (Int32.ofNat tt) ρ = some (Int32.ofNat (nx_ K (vl_ v z) (hL (sg_I ρ) q) (hP (sg_I ρ) q) f spot tt), τ) ∧ KU ρ τ := by
  have d := r.rf
  obtain ⟨bb, cc, ⟨-, -, s1, s2, s3⟩, -, -⟩ := r.sp q
  have vb := vl_b (z := z) hv
  have o1 : f_X12_of 344 (Int32.ofNat w) 1 ρ = some (Int32.ofNat z) := by rw [l_1, of_v d hw (by omega), e1]
  have o0 : f_X12_of 344 (Int32.ofNat w) 0 ρ = some (Int32.ofNat v) := by rw [l_0, of_v d hw (by omega)]; exact congrArg some e0
  have mb : f_X12_moveBy 20000 344 (Int32.ofNat w) (Int32.ofNat spot) (Int32.ofNat tt) ρ = f_X12_moveBy_B26 20000 344 (Int32.ofNat w) (Int32.ofNat spot) (Int32.ofNat tt) (vl_ v z) ρ := by
    unfold f_X12_moveBy vl_
    rw [o1]
    simp only [Option.bind_some]
    have hz2 : z = 0 ∨ z = 1 := by omega
    rcases hz2 with rfl | rfl
    · rw [if_neg (by decide), o0, if_pos rfl]
      rfl
    · rw [if_pos (show Int32.ofNat 1 = 1 from rfl), o0, if_neg (by decide)]
      rfl
  have fin : ∀ (υ : Sg) (y : Int32), KU ρ υ → f_X12_moveBy 20000 344 (Int32.ofNat w) (Int32.ofNat spot) (Int32.ofNat tt) ρ = some (y, υ) → y.toInt = mv_ K (vl_ v z) (hL (sg_I ρ) q) (hP (sg_I ρ) q) f spot tt → f_X12_nextOf 20000 344 (Int32.ofNat w) (Int32.ofNat spot) (Int32.ofNat tt) ρ = some (Int32.ofNat (nx_ K (vl_ v z) (hL (sg_I ρ) q) (hP (sg_I ρ) q) f spot tt), υ) := by
    intro υ y ku eb ey
    have ru : Rel σ υ := ku.kr.rel r
    have hh : hL (sg_I υ) q = hL (sg_I ρ) q := by
      unfold hL hS
      rw [ku.2 344 (by decide) (by decide), ku.2 358 (by decide) (by decide)]
    have b6 := mv_b (K := K) (l := hL (sg_I ρ) q) (P := hP (sg_I ρ) q) (f := f) (spot := spot) (t := tt) vb
    unfold f_X12_nextOf
    rw [eb]
    simp only [Option.bind_some]
    rw [lo_v ru (q := q) hw (by omega) (by rw [ku.2 359 (by decide) (by decide)]; exact e3), hh]
    simp only [Option.bind_some]
    have ee := o_ti (show spot < 2147483648 by omega)
    rw [rd_p (by omega) (by omega), i_add (by omega) (by omega), ee, ey]
    rfl
  rcases H with ⟨q1, q2, q3, q4⟩ | ⟨i, b, K', i1, i2, i3, i4, i5, i6, i7, i8, i9⟩
  · refine ⟨ρ, fin ρ (vl_ v z) KU.rf ?_ (by rw [q2]; rfl), KU.rf⟩
    rw [mb]
    unfold f_X12_moveBy_B26
    rw [if_pos q3]
  · obtain ⟨c1, c2, c3, c4, c5, c6, c7, c8, c9, c10, c11, c12, c13⟩ := i9
    have n26 : ¬ sg_I ρ 344 26 = -1 := by
      rw [i4, i_eq, o_ti (by omega)]
      have : (-1 : Int32).toInt = -1 := rfl
      omega
    have k1 : KU ρ (put_I (put_I ρ 353 0 (vl_ v z)) 353 1 (Int32.ofNat spot)) := KU.put.tr KU.put
    have k2 : KU ρ (put_I (put_I (put_I ρ 353 0 (vl_ v z)) 353 1 (Int32.ofNat spot)) 353 2 (Int32.ofNat (hL (sg_I ρ) q))) := k1.tr KU.put
    have k3 := ((k2.tr (KU.put (j := 3) (v := hP (sg_I ρ) q spot))).tr (KU.put (j := 4) (v := Int32.ofNat (tt % 24)))).tr (KU.put (j := 5) (v := Int32.ofNat f))
    have g1 : f_X12_longOf 344 (Int32.ofNat w) (put_I (put_I ρ 353 0 (vl_ v z)) 353 1 (Int32.ofNat spot)) = some (Int32.ofNat (hL (sg_I ρ) q)) := lo_v (k1.kr.rel r) hw (by omega) e3
    have g2 : f_X12_of 344 (Int32.ofNat w) 3 (put_I (put_I (put_I ρ 353 0 (vl_ v z)) 353 1 (Int32.ofNat spot)) 353 2 (Int32.ofNat (hL (sg_I ρ) q))) = some (Int32.ofNat q) := (of_v (ρ := put_I (put_I (put_I ρ 353 0 (vl_ v z)) 353 1 (Int32.ofNat spot)) 353 2 (Int32.ofNat (hL (sg_I ρ) q))) (k := 3) d hw (by omega)).trans (congrArg some e3)
    have g3 : f_X12_pictureAt 344 (Int32.ofNat q) (Int32.ofNat spot) (put_I (put_I (put_I ρ 353 0 (vl_ v z)) 353 1 (Int32.ofNat spot)) 353 2 (Int32.ofNat (hL (sg_I ρ) q))) = some (hP (sg_I ρ) q spot) := pa_v (k2.kr.rel r) (by omega) (by omega)
    obtain ⟨τ, t1, t2⟩ := rw_v (i := i) (lt := lt_ (vl_ v z) spot (hL (sg_I ρ) q) (hP (sg_I ρ) q spot) tt f) (by omega) (lt_b vb (by omega) s2 (s3 spot hs).2 hf) (K := K') c9 c8 c13 K'.length 0 20000 _ (by omega) (by omega) (by rw [k3.1.2.1, k3.1.2.2.1]; exact d) (by rw [k3.2 349 (by decide) (by decide)]; exact c7) (by rw [k3.2 346 (by decide) (by decide)]; exact c10) (by rw [k3.2 347 (by decide) (by decide)]; exact c11) (by rw [k3.2 350 (by decide) (by decide), k3.2 351 (by decide) (by decide), k3.2 352 (by decide) (by decide)]; exact c12) (fun k hk => by
      unfold lt_
      match k, hk with
      | 0, _ => rw [gI_n (by omega), gI_n (by omega), gI_n (by omega), gI_n (by omega), gI_n (by omega), gI_e]; rfl
      | 1, _ => rw [gI_n (by omega), gI_n (by omega), gI_n (by omega), gI_n (by omega), gI_e]; rfl
      | 2, _ => rw [gI_n (by omega), gI_n (by omega), gI_n (by omega), gI_e]; rfl
      | 3, _ => rw [gI_n (by omega), gI_n (by omega), gI_e]; rfl
      | 4, _ => rw [gI_n (by omega), gI_e]; rfl
      | 5, _ => rw [gI_e]; rfl)
    have ku : KU ρ τ := k3.tr ⟨t2.1, fun a _ h2 => t2.2 a h2⟩
    obtain ⟨y, y1, y2⟩ : ∃ y, ((f_J9_min_7cf53 15 (wo_ (lt_ (vl_ v z) spot (hL (sg_I ρ) q) (hP (sg_I ρ) q spot) tt f) K')).bind fun p => f_J9_max_7cf53 (-15) p) = some y ∧ y.toInt = max (-15) (min 15 (wo_ (lt_ (vl_ v z) spot (hL (sg_I ρ) q) (hP (sg_I ρ) q spot) tt f) K').toInt) := by
      have e15 : (15 : Int32).toInt = 15 := by decide
      have em : (-15 : Int32).toInt = -15 := by decide
      unfold f_J9_min_7cf53 f_J9_max_7cf53
      generalize wo_ (lt_ (vl_ v z) spot (hL (sg_I ρ) q) (hP (sg_I ρ) q spot) tt f) K' = x
      simp only [i_lt, e15, em]
      by_cases x1 : x.toInt < 15
      · rw [if_pos x1]
        simp only [Option.bind_some]
        by_cases x2 : -15 < x.toInt
        · exact ⟨x, by rw [if_pos x2], by omega⟩
        · exact ⟨-15, by rw [if_neg x2], by omega⟩
      · rw [if_neg x1]
        simp only [Option.bind_some, e15]
        exact ⟨15, by rw [if_pos (by omega)], by omega⟩
    refine ⟨τ, fin τ y ku ?_ (by rw [i3, y2]; rfl), ku⟩
    rw [mb]
    unfold f_X12_moveBy_B26
    rw [if_neg n26]
    simp only [d, Option.bind_some, gR_I, gL_I, Int32.reduceToNatClampNeg, Int32.reduceLT, Nat.reduceLeDiff, or_self, ↓reduceIte, g1, g2, g3, rm_24 (show tt < 2147483648 by omega)]
    rw [show sg_I (put_I (put_I (put_I (put_I (put_I ρ 353 0 (vl_ v z)) 353 1 (Int32.ofNat spot)) 353 2 (Int32.ofNat (hL (sg_I ρ) q))) 353 3 (hP (sg_I ρ) q spot)) 353 4 (Int32.ofNat (tt % 24))) 359 16 = Int32.ofNat f from e16]
    rw [show sg_I (put_I (put_I (put_I (put_I (put_I (put_I ρ 353 0 (vl_ v z)) 353 1 (Int32.ofNat spot)) 353 2 (Int32.ofNat (hL (sg_I ρ) q))) 353 3 (hP (sg_I ρ) q spot)) 353 4 (Int32.ofNat (tt % 24))) 353 5 (Int32.ofNat f)) 344 26 = Int32.ofNat i from i4]
    unfold f_X12_worthOf
    rw [l_140, o_mul]
    have t1' : f_X12_worthOf_L6 20000 344 20000 (Int32.ofNat i) (Int32.ofNat (140 * i)) (put_I (put_I (put_I (put_I (put_I (put_I ρ 353 0 (vl_ v z)) 353 1 (Int32.ofNat spot)) 353 2 (Int32.ofNat (hL (sg_I ρ) q))) 353 3 (hP (sg_I ρ) q spot)) 353 4 (Int32.ofNat (tt % 24))) 353 5 (Int32.ofNat f)) = some (wo_ (lt_ (vl_ v z) spot (hL (sg_I ρ) q) (hP (sg_I ρ) q spot) tt f) K', τ) := t1
    rw [t1']
    simp only [Option.bind_some]
    cases hm : f_J9_min_7cf53 15 (wo_ (lt_ (vl_ v z) spot (hL (sg_I ρ) q) (hP (sg_I ρ) q spot) tt f) K') with
    | none => rw [hm] at y1; cases y1
    | some m =>
      rw [hm] at y1
      simp only [Option.bind_some] at y1 ⊢
      rw [y1]
      rfl
