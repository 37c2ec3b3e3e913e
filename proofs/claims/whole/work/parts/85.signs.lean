/-! ===== the readers: signs ===== -/
theorem pI_2 {σ : Sg} {a j : Nat} {v w : Int32} : put_I (put_I σ a j v) a j w = put_I σ a j w := by
  have e : up_2 (up_2 σ.2.2.2.1 a j v) a j w = up_2 σ.2.2.2.1 a j w := by
    funext b k
    unfold up_2
    by_cases h : b = a ∧ k = j
    · rw [if_pos h, if_pos h]
    · rw [if_neg h, if_neg h, if_neg h]
  show (σ.1, σ.2.1, σ.2.2.1, up_2 (up_2 σ.2.2.2.1 a j v) a j w, σ.2.2.2.2.1, σ.2.2.2.2.2) = _
  rw [e]
  rfl
theorem pI_s {σ : Sg} {a j : Nat} {v : Int32} (h : sg_I σ a j = v) : put_I σ a j v = σ := by
  have e : up_2 σ.2.2.2.1 a j v = σ.2.2.2.1 := by
    funext b k
    unfold up_2
    by_cases q : b = a ∧ k = j
    · obtain ⟨rfl, rfl⟩ := q
      rw [if_pos ⟨rfl, rfl⟩]
      exact h.symm
    · rw [if_neg q]
  show (σ.1, σ.2.1, σ.2.2.1, up_2 σ.2.2.2.1 a j v, σ.2.2.2.2.1, σ.2.2.2.2.2) = _
  rw [e]
/-- the sign at p; -1: the text is over -/
def sx_ (x : Nat → Int32) (t p : Nat) : Int32 := if p < t then x p else -1
def sj_ (x : Nat → Int32) : Nat → Nat → Nat
  | 0, p => p
  | j + 1, p => if x p = 32 then sj_ x j (p + 1) else p
/-- past the blanks -/
def pb_ (x : Nat → Int32) (t p : Nat) : Nat := sj_ x (t - p) p
def XT (t : Nat) (x : Nat → Int32) : Prop := t ≤ 240 ∧ ∀ i, i < t → 1 ≤ (x i).toInt ∧ (x i).toInt ≤ 255
theorem sj_b {x : Nat → Int32} {t : Nat} : ∀ j p, p + j = t → p ≤ sj_ x j p ∧ sj_ x j p ≤ t ∧ sx_ x t (sj_ x j p) ≠ 32
  | 0, p, h => ⟨Nat.le_refl p, by show p ≤ t; omega, by
    show (if p < t then x p else -1) ≠ 32
    rw [if_neg (by omega)]
    decide⟩
  | j + 1, p, h => by
    show p ≤ (if x p = 32 then sj_ x j (p + 1) else p) ∧ (if x p = 32 then sj_ x j (p + 1) else p) ≤ t ∧ sx_ x t (if x p = 32 then sj_ x j (p + 1) else p) ≠ 32
    by_cases q : x p = 32
    · rw [if_pos q]
      obtain ⟨h1, h2, h3⟩ := sj_b (x := x) (t := t) j (p + 1) (by omega)
      exact ⟨by omega, h2, h3⟩
    · rw [if_neg q]
      refine ⟨Nat.le_refl p, by omega, ?_⟩
      unfold sx_
      rw [if_pos (by omega)]
      exact q
theorem pb_b {x : Nat → Int32} {t p : Nat} (h : p ≤ t) : p ≤ pb_ x t p ∧ pb_ x t p ≤ t ∧ sx_ x t (pb_ x t p) ≠ 32 := sj_b (t - p) p (by omega)
theorem pb_0 {x : Nat → Int32} {t p : Nat} (h : sx_ x t p ≠ 32) : pb_ x t p = p := by
  unfold pb_
  cases e : t - p with
  | zero => rfl
  | succ j =>
    unfold sx_ at h
    rw [if_pos (by omega)] at h
    show (if x p = 32 then _ else p) = p
    rw [if_neg h]
theorem pb_k {x : Nat → Int32} {t p : Nat} (h : p ≤ t) : pb_ x t (pb_ x t p) = pb_ x t p := pb_0 (pb_b h).2.2
theorem sx_b {x : Nat → Int32} {t : Nat} (hx : XT t x) (p : Nat) : -1 ≤ (sx_ x t p).toInt ∧ (sx_ x t p).toInt ≤ 255 ∧ (sx_ x t p).toInt ≠ 0 ∧ (sx_ x t p = -1 ↔ ¬ p < t) := by
  have em : (-1 : Int32).toInt = -1 := rfl
  unfold sx_
  by_cases h : p < t
  · rw [if_pos h]
    have := hx.2 p h
    refine ⟨by omega, by omega, by omega, fun q => ?_, fun q => absurd h q⟩
    rw [q] at this
    omega
  · rw [if_neg h]
    exact ⟨by omega, by omega, by omega, fun _ => h, fun _ => rfl⟩
/-- a reader of the class, at b, over the text -/
def CT (b t : Nat) (x : Nat → Int32) (σ : Sg) : Prop := sg_R σ b 0 = some 1 ∧ sg_L σ 1 = 240 ∧ sg_I σ b 1 = Int32.ofNat t ∧ ∀ i, i < t → sg_I σ 1 i = x i
def RT (t : Nat) (x : Nat → Int32) (ρ : Sg) : Prop := sg_R ρ 344 1 = some 345 ∧ sg_L ρ 345 = 240 ∧ sg_I ρ 344 2 = Int32.ofNat t ∧ ∀ i, i < t → sg_I ρ 345 i = x i
theorem CT.put {b t j a : Nat} {x : Nat → Int32} {σ : Sg} {v : Int32} (h : CT b t x σ) (ha : a ≠ 1) (hj : a = b → j ≠ 1) : CT b t x (put_I σ a j v) := ⟨h.1, h.2.1, by rw [gI_n (by omega)]; exact h.2.2.1, fun i hi => by rw [gI_n (by omega)]; exact h.2.2.2 i hi⟩
theorem RT.put {t j a : Nat} {x : Nat → Int32} {σ : Sg} {v : Int32} (h : RT t x σ) (ha : a ≠ 345) (hj : a = 344 → j ≠ 2) : RT t x (put_I σ a j v) := ⟨h.1, h.2.1, by rw [gI_n (by omega)]; exact h.2.2.1, fun i hi => by rw [gI_n (by omega)]; exact h.2.2.2 i hi⟩
theorem hr_v {t p : Nat} {x : Nat → Int32} {ρ : Sg} (hx : XT t x) (h : RT t x ρ) (hp : sg_I ρ 344 3 = Int32.ofNat p) (hb : p < 2147483648) : f_X12_here 344 ρ = some (sx_ x t p) := by
  have h1 := hx.1
  unfold f_X12_here sx_
  rw [hp, h.2.2.1]
  by_cases q : p < t
  · rw [if_pos (by rw [o_lt (by omega) (by omega)]; exact q), if_pos q, f_of h.1, h.2.1, if_neg (o_in (by omega) (by omega)), o_tn (by omega), h.2.2.2 p q]
  · rw [if_neg (by rw [o_lt (by omega) (by omega)]; exact q), if_neg q]
theorem lq_j {t : Nat} {x : Nat → Int32} (hx : XT t x) : ∀ (j p m : Nat) (ρ : Sg), p + j = t → j < m → RT t x ρ → sg_I ρ 344 3 = Int32.ofNat p → f_X12_look_L0 20000 344 m ρ = some (sx_ x t (sj_ x j p), put_I ρ 344 3 (Int32.ofNat (sj_ x j p))) := by
  have h1 := hx.1
  intro j
  induction j with
  | zero =>
    intro p m ρ hp hm rt h3
    obtain ⟨m, rfl⟩ : ∃ y, m = y + 1 := ⟨m - 1, by omega⟩
    have hh := hr_v hx rt h3 (by omega)
    have e : sx_ x t p = -1 := (sx_b hx p).2.2.2.mpr (by omega)
    rw [f_X12_look_L0, f_of hh, if_neg (by rw [e]; decide)]
    show _ = some (sx_ x t p, put_I ρ 344 3 (Int32.ofNat p))
    rw [pI_s h3, f_of hh]
  | succ j ih =>
    intro p m ρ hp hm rt h3
    obtain ⟨m, rfl⟩ : ∃ y, m = y + 1 := ⟨m - 1, by omega⟩
    have hh := hr_v hx rt h3 (by omega)
    have e : sx_ x t p = x p := if_pos (by omega)
    have es : sj_ x (j + 1) p = if x p = 32 then sj_ x j (p + 1) else p := rfl
    rw [f_X12_look_L0, f_of hh, e, es]
    by_cases q : x p = 32
    · rw [if_pos q, if_pos q, h3, o_s p, ih (p + 1) m _ (by omega) (by omega) (rt.put (by decide) (by decide)) gI_e, pI_2]
    · rw [if_neg q, if_neg q, f_of hh, pI_s h3]
theorem lq_v {t p : Nat} {x : Nat → Int32} {ρ : Sg} (hx : XT t x) (h : RT t x ρ) (hp : p ≤ t) (h3 : sg_I ρ 344 3 = Int32.ofNat p) : f_X12_look 20000 344 ρ = some (sx_ x t (pb_ x t p), put_I ρ 344 3 (Int32.ofNat (pb_ x t p))) := by
  have h1 := hx.1
  exact lq_j hx (t - p) p 20000 ρ (by omega) (by omega) h h3
theorem nb_v {b t p : Nat} {x : Nat → Int32} {σ : Sg} (hx : XT t x) (h : CT b t x σ) (hp : sg_I σ b 2 = Int32.ofNat p) (hb : p < 2147483648) : f_X6_nextSign_B38 20000 b σ = some (sx_ x t p, σ) := by
  have h1 := hx.1
  unfold f_X6_nextSign_B38 sx_
  rw [hp, h.2.2.1]
  by_cases q : p < t
  · rw [if_pos (by rw [o_lt (by omega) (by omega)]; exact q), if_pos q, f_of h.1, h.2.1, if_neg (o_in (by omega) (by omega)), o_tn (by omega), h.2.2.2 p q]
  · rw [if_neg (by rw [o_lt (by omega) (by omega)]; exact q), if_neg q]
theorem ns_j {b t : Nat} {x : Nat → Int32} (hx : XT t x) (hb : b ≠ 1) : ∀ (j p m : Nat) (σ : Sg), p + j = t → j < m → CT b t x σ → sg_I σ b 2 = Int32.ofNat p → f_X6_nextSign_L0 20000 b m σ = some (sx_ x t (sj_ x j p), put_I σ b 2 (Int32.ofNat (sj_ x j p))) := by
  have h1 := hx.1
  intro j
  induction j with
  | zero =>
    intro p m σ hp hm ct h2
    obtain ⟨m, rfl⟩ : ∃ y, m = y + 1 := ⟨m - 1, by omega⟩
    rw [f_X6_nextSign_L0, nb_v hx ct h2 (by omega), h2, ct.2.2.1, if_neg (by rw [o_lt (by omega) (by omega)]; omega)]
    show _ = some (sx_ x t p, put_I σ b 2 (Int32.ofNat p))
    rw [pI_s h2]
  | succ j ih =>
    intro p m σ hp hm ct h2
    obtain ⟨m, rfl⟩ : ∃ y, m = y + 1 := ⟨m - 1, by omega⟩
    have es : sj_ x (j + 1) p = if x p = 32 then sj_ x j (p + 1) else p := rfl
    rw [f_X6_nextSign_L0, nb_v hx ct h2 (by omega), h2, ct.2.2.1, if_pos (by rw [o_lt (by omega) (by omega)]; omega), f_of ct.1, ct.2.1, if_neg (o_in (by omega) (by omega)), o_tn (by omega), ct.2.2.2 p (by omega), es]
    by_cases q : x p = 32
    · rw [if_pos q, if_pos q, o_s p, ih (p + 1) m _ (by omega) (by omega) (ct.put hb (by omega)) gI_e, pI_2]
    · rw [if_neg q, if_neg q, pI_s h2]
theorem ns_v {b t p : Nat} {x : Nat → Int32} {σ : Sg} (hx : XT t x) (hb : b ≠ 1) (h : CT b t x σ) (hp : p ≤ t) (h2 : sg_I σ b 2 = Int32.ofNat p) : f_X6_nextSign 20000 b σ = some (sx_ x t (pb_ x t p), put_I σ b 2 (Int32.ofNat (pb_ x t p))) := by
  have h1 := hx.1
  exact ns_j hx hb (t - p) p 20000 σ (by omega) (by omega) h h2
theorem bad_v {ρ : Sg} (h : sg_I ρ 344 4 = -1) : f_X12_bad 344 ρ = some (put_I ρ 344 4 (sg_I ρ 344 3)) := by
  unfold f_X12_bad f_X12_bad_B20
  rw [if_pos h, f_of rfl]
theorem o_m {p : Nat} (h : p < 2147483648) : ¬ Int32.ofNat p = -1 := by
  rw [i_eq, o_ti h]
  have : (-1 : Int32).toInt = -1 := rfl
  omega
/-- no cell is another, nor of another kind -/
def kq_ (σ τ : Sg) : Prop := sg_N τ = sg_N σ ∧ sg_R τ = sg_R σ ∧ sg_L τ = sg_L σ ∧ sg_J τ = sg_J σ ∧ sg_K τ = sg_K σ
theorem kq_.rf {σ : Sg} : kq_ σ σ := ⟨rfl, rfl, rfl, rfl, rfl⟩
theorem kq_.tr {σ τ υ : Sg} (h : kq_ σ τ) (k : kq_ τ υ) : kq_ σ υ := ⟨k.1.trans h.1, k.2.1.trans h.2.1, k.2.2.1.trans h.2.2.1, k.2.2.2.1.trans h.2.2.2.1, k.2.2.2.2.trans h.2.2.2.2⟩
theorem kq_.put {σ : Sg} {a j : Nat} {v : Int32} : kq_ σ (put_I σ a j v) := ⟨rfl, rfl, rfl, rfl, rfl⟩
/-- of the class's cells those of the readers alone have changed -/
def KZ (b : Nat) (σ τ : Sg) : Prop := kq_ σ τ ∧ (∀ a, a < 2 ∨ 11 < a → sg_I τ a = sg_I σ a) ∧ sg_I τ b 1 = sg_I σ b 1
theorem KZ.rf {b : Nat} {σ : Sg} : KZ b σ σ := ⟨kq_.rf, fun _ _ => rfl, rfl⟩
theorem KZ.tr {b : Nat} {σ τ υ : Sg} (h : KZ b σ τ) (k : KZ b τ υ) : KZ b σ υ := ⟨h.1.tr k.1, fun a h1 => (k.2.1 a h1).trans (h.2.1 a h1), k.2.2.trans h.2.2⟩
theorem KZ.put {b a j : Nat} {σ : Sg} {v : Int32} (h : 2 ≤ a ∧ a ≤ 11) (hj : a = b → j ≠ 1) : KZ b σ (put_I σ a j v) := ⟨kq_.put, fun c hc => gI_a (by omega), gI_n (by omega)⟩
theorem KZ.ct {b t : Nat} {x : Nat → Int32} {σ τ : Sg} (h : KZ b σ τ) (c : CT b t x σ) : CT b t x τ := ⟨by rw [h.1.2.1]; exact c.1, by rw [h.1.2.2.1]; exact c.2.1, h.2.2.trans c.2.2.1, fun i hi => by rw [h.2.1 1 (by omega)]; exact c.2.2.2 i hi⟩
theorem KZ.kc {b : Nat} {σ τ : Sg} (h : KZ b σ τ) : KC σ τ := ⟨h.1.1, ⟨fun a _ => by rw [h.1.2.2.1], fun a j _ => by rw [h.1.2.1], fun a j ha => by
  rw [h.2.1 a]
  apply Classical.byContradiction
  intro q
  exact ha (Or.inl (by omega))⟩, fun a h1 h2 => ⟨h.2.1 a (by omega), by rw [h.1.2.1], by rw [h.1.2.2.1], by rw [h.1.2.2.2.1]⟩⟩
