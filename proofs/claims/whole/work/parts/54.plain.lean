/-! ===== plain answers ===== -/
theorem in_v (x a b : Int32) : f_X12_in x a b = some (if a.toInt ≤ x.toInt ∧ x.toInt ≤ b.toInt then 1 else 0) := by
  unfold f_X12_in
  simp only [i_lt]
  by_cases h1 : x.toInt < a.toInt
  · rw [if_pos h1, if_neg (by omega)]
  · rw [if_neg h1]
    by_cases h2 : b.toInt < x.toInt
    · rw [if_pos h2, if_neg (by omega)]
    · rw [if_neg h2, if_pos (by omega)]
theorem o_p {n : Nat} (h : n < 2147483648) : (Int32.ofNat n - 1).toInt = (n : Int) - 1 := by
  have e : (1 : Int32).toInt = 1 := rfl
  have := o_ti h
  rw [i_sub (by omega) (by omega), e, this]
theorem x_ob {x : Int32} {B : Nat} (h : 0 ≤ x.toInt ∧ x.toInt ≤ B) : ∃ n : Nat, n ≤ B ∧ x = Int32.ofNat n := ⟨x.toInt.toNat, by omega, x_of h.1⟩
theorem x_lt {x : Int32} {B : Nat} (h : 0 ≤ x.toInt ∧ x.toInt < B) : ∃ n : Nat, n < B ∧ x = Int32.ofNat n := ⟨x.toInt.toNat, by omega, x_of h.1⟩
theorem min_v {a b : Nat} (ha : a < 2147483648) (hb : b < 2147483648) : f_J9_min_7cf53 (Int32.ofNat a) (Int32.ofNat b) = some (Int32.ofNat (min a b)) := by
  unfold f_J9_min_7cf53
  simp only [o_lt hb ha]
  by_cases h : b < a
  · rw [if_pos h, Nat.min_eq_right (by omega)]
  · rw [if_neg h, Nat.min_eq_left (by omega)]
theorem md_o {a b : Nat} (hb : 0 < b) (hb2 : b < 2147483648) (ha : a < 2147483648) : md_ (Int32.ofNat a) (Int32.ofNat b) = Int32.ofNat (a % b) := by
  have h1 := o_ti ha
  have h2 := o_ti hb2
  have h3 := Nat.mod_lt a hb
  rw [i_eq, md_ti (by omega), h1, h2, o_ti (by omega)]
  exact (Int.natCast_emod a b).symm
theorem md_x {x : Int32} {b : Nat} (hb : 0 < b) (hb2 : b < 2147483648) : md_ x (Int32.ofNat b) = Int32.ofNat (x.toInt % b).toNat := by
  have h2 := o_ti hb2
  have h3 := Int.emod_nonneg x.toInt (show (b : Int) ≠ 0 by omega)
  have h4 := Int.emod_lt_of_pos x.toInt (show (0 : Int) < b by omega)
  rw [i_eq, md_ti (by omega), h2, o_ti (by omega)]
  omega
theorem rd_o {x : Int32} {b : Nat} (hb : 0 < b) (hb2 : b < 2147483648) : f_X11_round x (Int32.ofNat b) = some (Int32.ofNat (x.toInt % b).toNat) := by
  rw [rd_c (by rw [o_ti hb2]; omega), md_x hb hb2]
theorem rd_p {x : Int32} {b : Nat} (hb : 0 < b) (hb2 : b ≤ 1000000) : f_X12_round x (Int32.ofNat b) = some (Int32.ofNat (x.toInt % b).toNat) := by
  rw [rd_r (by rw [o_ti (by omega)]; omega) (by rw [o_ti (by omega)]; omega), md_x hb (by omega)]
theorem Rel.cf {σ ρ : Sg} (r : Rel σ ρ) : CF (sg_R σ) (sg_L σ) := cs_f r.1.1
theorem Rel.rf {σ ρ : Sg} (r : Rel σ ρ) : RF (sg_R ρ) (sg_L ρ) := rs_f r.2
theorem Rel.w18 {σ ρ : Sg} (r : Rel σ ρ) : ∀ w, w < 4 → sg_R σ 18 w = some (20 + w) := r.1.1.2.2.1.2.2.1
theorem Rel.nw {σ ρ : Sg} (r : Rel σ ρ) : ∃ n : Nat, n ≤ 4 ∧ sg_I ρ 344 20 = Int32.ofNat n ∧ sg_I σ 17 1 = Int32.ofNat n ∧ sc_ (sg_I σ) (sg_I ρ) 17 359 0 n ∧ (0 < n → bd_ (sg_I ρ) 359 0 n) := by
  obtain ⟨n, h1, h2, h3, -⟩ := r.1.2.2.2.2.2.2.1
  exact ⟨n, h1, h2, h3.1, h3, h3.2.2.2.2.2.2.2⟩
/-- how many strips there are; how long the strip r is; its pictures -/
def hS (h : Nat → Nat → Int32) : Nat := (h 344 23).toInt.toNat
def hL (h : Nat → Nat → Int32) (r : Nat) : Nat := if r < hS h then (h 358 r).toInt.toNat else 1
def hP (h : Nat → Nat → Int32) (r i : Nat) : Int32 := if r < hS h then h 357 (16 * r + i) else 26
theorem Rel.hs {σ ρ : Sg} (r : Rel σ ρ) : hS (sg_I ρ) ≤ 6 ∧ sg_I σ 0 9 = Int32.ofNat (hS (sg_I ρ)) ∧ sg_I ρ 344 23 = Int32.ofNat (hS (sg_I ρ)) := by
  obtain ⟨k, h1, h2, h3, -⟩ := r.1.2.2.2.1
  have e : hS (sg_I ρ) = k := by
    unfold hS
    rw [h3, o_ti (by omega)]
    omega
  rw [e]
  exact ⟨h1, h2, h3⟩
theorem Rel.sp {σ ρ : Sg} (r : Rel σ ρ) (q : Nat) : ∃ b c, (sg_R σ b 0 = some c ∧ sg_L σ c = hL (sg_I ρ) q ∧ 1 ≤ hL (sg_I ρ) q ∧ hL (sg_I ρ) q ≤ 16 ∧ ∀ i, i < hL (sg_I ρ) q → sg_I σ c i = hP (sg_I ρ) q i ∧ 0 ≤ (hP (sg_I ρ) q i).toInt ∧ (hP (sg_I ρ) q i).toInt ≤ 26) ∧ (q < hS (sg_I ρ) → sg_R σ 13 q = some b ∧ 371 ≤ b ∧ sg_I ρ 358 q = Int32.ofNat (hL (sg_I ρ) q)) ∧ (hS (sg_I ρ) ≤ q → b = 14) := by
  obtain ⟨k, h1, h2, h3, h4, h5, h6⟩ := r.1.2.2.2.1
  have c := r.cf
  have e : hS (sg_I ρ) = k := by
    unfold hS
    rw [h3, o_ti (by omega)]
    omega
  by_cases hq : q < k
  · obtain ⟨b, b1, b2, b3, b4, b5, b6, b7, b8⟩ := h4 q hq
    have el : hL (sg_I ρ) q = sg_L σ (b + 1) := by
      unfold hL
      rw [e, if_pos hq, b7, o_ti (by omega)]
      omega
    refine ⟨b, b + 1, ⟨b4, el.symm, by omega, by omega, fun i hi => ?_⟩, fun _ => ⟨b3, b1, by rw [el]; exact b7⟩, fun h => by omega⟩
    unfold hP
    rw [e, if_pos hq]
    exact b8 i (by omega)
  · have el : hL (sg_I ρ) q = 1 := by
      unfold hL
      rw [e, if_neg hq]
    refine ⟨14, 15, ⟨by simp only [c], by rw [el]; simp only [c], by omega, by omega, fun i hi => ?_⟩, fun h => by omega, fun _ => rfl⟩
    unfold hP
    rw [e, if_neg hq]
    have hi : i = 0 := by omega
    subst hi
    exact ⟨h6, by decide, by decide⟩
theorem sa_v {σ : Sg} {b c l : Nat} {f : Nat → Int32} {x : Int32} (h1 : sg_R σ b 0 = some c) (h2 : sg_L σ c = l) (h3 : 1 ≤ l) (h4 : l ≤ 16) (h5 : ∀ i, i < l → sg_I σ c i = f i) : f_X8_shownAt b x σ = some (f (x.toInt % l).toNat) := by
  have h6 := Int.emod_nonneg x.toInt (show (l : Int) ≠ 0 by omega)
  have h7 := Int.emod_lt_of_pos x.toInt (show (0 : Int) < l by omega)
  unfold f_X8_shownAt
  simp only [h1, Option.bind_some, h2]
  rw [if_neg (by rw [l_1, o_lt (by omega) (by omega)]; omega), rd_o (by omega) (by omega)]
  simp only [Option.bind_some]
  rw [if_neg (o_in (by omega) (by omega)), o_tn (by omega), h5 _ (by omega)]
theorem sz_v {σ : Sg} {b c l : Nat} (h1 : sg_R σ b 0 = some c) (h2 : sg_L σ c = l) : f_X8_size b σ = some (Int32.ofNat l) := by
  unfold f_X8_size
  simp only [h1, Option.bind_some, h2]
theorem is_v {σ ρ : Sg} (r : Rel σ ρ) (x : Int32) : f_X11_isStrip 0 x σ = some (if 0 ≤ x.toInt ∧ x.toInt < hS (sg_I ρ) then 1 else 0) := by
  obtain ⟨h1, h2, h3⟩ := r.hs
  have c := r.cf
  have e0 : (0 : Int32).toInt = 0 := rfl
  have e1 := o_ti (show hS (sg_I ρ) < 2147483648 by omega)
  unfold f_X11_isStrip
  simp only [i_lt, e0, h2, e1]
  by_cases g1 : x.toInt < 0
  · rw [if_pos g1, if_neg (by omega)]
  · rw [if_neg g1]
    by_cases g2 : x.toInt < hS (sg_I ρ)
    · obtain ⟨b, d, -, hb, -⟩ := r.sp x.toInt.toNat
      rw [if_pos g2, if_pos (by omega)]
      simp only [c, Option.bind_some]
      rw [if_neg (by rw [i_tn]; omega), i_tn, (hb (by omega)).1]
    · rw [if_neg g2, if_neg (by omega)]
theorem js_v {σ ρ : Sg} (r : Rel σ ρ) (x : Int32) : f_X12_isStrip 344 x ρ = some (if 0 ≤ x.toInt ∧ x.toInt < hS (sg_I ρ) then 1 else 0) := by
  obtain ⟨h1, h2, h3⟩ := r.hs
  have e0 : (0 : Int32).toInt = 0 := rfl
  unfold f_X12_isStrip
  rw [in_v, h3, o_p (by omega), e0]
  simp only [Option.bind_some]
  by_cases g : 0 ≤ x.toInt ∧ x.toInt < hS (sg_I ρ)
  · rw [if_pos g, if_pos (by omega)]
  · rw [if_neg g, if_neg (by omega)]
theorem iw_v {σ : Sg} (c : CF (sg_R σ) (sg_L σ)) {n : Nat} (hn : n ≤ 4) (e : sg_I σ 17 1 = Int32.ofNat n) (x : Int32) : f_X11_isWheel 0 x σ = some (if 0 ≤ x.toInt ∧ x.toInt < n then 1 else 0) := by
  have e0 : (0 : Int32).toInt = 0 := rfl
  have e1 := o_ti (show n < 2147483648 by omega)
  unfold f_X11_isWheel
  simp only [c, Option.bind_some, e, i_lt, e0, e1]
  by_cases g1 : x.toInt < 0
  · rw [if_pos g1, if_neg (by omega)]
  · rw [if_neg g1]
    by_cases g2 : x.toInt < n
    · rw [if_pos g2, if_pos (by omega)]
    · rw [if_neg g2, if_neg (by omega)]
theorem jw_v {ρ : Sg} {n : Nat} (hn : n ≤ 4) (e : sg_I ρ 344 20 = Int32.ofNat n) (x : Int32) : f_X12_isWheel 344 x ρ = some (if 0 ≤ x.toInt ∧ x.toInt < n then 1 else 0) := by
  have e0 : (0 : Int32).toInt = 0 := rfl
  unfold f_X12_isWheel
  rw [in_v, e, o_p (by omega), e0]
  simp only [Option.bind_some]
  by_cases g : 0 ≤ x.toInt ∧ x.toInt < n
  · rw [if_pos g, if_pos (by omega)]
  · rw [if_neg g, if_neg (by omega)]
theorem il_v {σ : Sg} (c : CF (sg_R σ) (sg_L σ)) {n : Nat} (hn : n ≤ 4) (e : sg_I σ 17 1 = Int32.ofNat n) : f_X11_isLit 0 σ = some (if 0 < n then 1 else 0) := by
  unfold f_X11_isLit
  simp only [c, Option.bind_some, e]
  rw [l_0]
  simp only [o_lt (show 0 < 2147483648 by omega) (show n < 2147483648 by omega)]
  by_cases g : 0 < n
  · rw [if_pos g, if_pos g]; rfl
  · rw [if_neg g, if_neg g]; rfl
/-- the strip of a number, as the class finds it -/
theorem so_v {σ ρ : Sg} (r : Rel σ ρ) {a q : Nat} (hq : q ≤ 100) (e : sg_I σ a 3 = Int32.ofNat q) : ∃ b c, f_X11_stripOf 0 (some a) σ = some (some b) ∧ sg_R σ b 0 = some c ∧ sg_L σ c = hL (sg_I ρ) q ∧ 1 ≤ hL (sg_I ρ) q ∧ hL (sg_I ρ) q ≤ 16 ∧ (∀ i, i < hL (sg_I ρ) q → sg_I σ c i = hP (sg_I ρ) q i ∧ 0 ≤ (hP (sg_I ρ) q i).toInt ∧ (hP (sg_I ρ) q i).toInt ≤ 26) := by
  obtain ⟨b, d, h1, h2, h3⟩ := r.sp q
  obtain ⟨g1, g2, g3⟩ := r.hs
  have c := r.cf
  refine ⟨b, d, ?_, h1⟩
  unfold f_X11_stripOf
  simp only [Option.bind_some, e, is_v r, o_ti (show q < 2147483648 by omega)]
  by_cases hk : q < hS (sg_I ρ)
  · rw [if_pos (show (0 : Int) ≤ q ∧ (q : Int) < hS (sg_I ρ) by omega), if_neg (by decide)]
    simp only [c, Option.bind_some]
    rw [if_neg (o_in (by omega) (by omega)), o_tn (by omega), (h2 hk).1]
  · rw [if_neg (show ¬ ((0 : Int) ≤ q ∧ (q : Int) < hS (sg_I ρ)) by omega), if_pos rfl, h3 (by omega)]
    simp only [c]
theorem sh_v {σ ρ : Sg} (r : Rel σ ρ) {a q p : Nat} (hq : q ≤ 100) (e : sg_I σ a 3 = Int32.ofNat q) (e2 : sg_I σ a 2 = Int32.ofNat p) (hp : p < hL (sg_I ρ) q) : f_X11_shown 0 (some a) σ = some (hP (sg_I ρ) q p) := by
  obtain ⟨b, c, h1, h2, h3, h4, h5, h6⟩ := so_v r hq e
  unfold f_X11_shown
  simp only [h1, Option.bind_some, e2]
  rw [sa_v h2 h3 h4 h5 (fun i hi => (h6 i hi).1), o_ti (by omega), Int.emod_eq_of_lt (by omega) (by omega)]
  rfl
/-! the reference's -/
theorem of_v {ρ : Sg} (c : RF (sg_R ρ) (sg_L ρ)) {w k : Nat} (hw : w < 4) (hk : k < 4) : f_X12_of 344 (Int32.ofNat w) (Int32.ofNat k) ρ = some (sg_I ρ 359 (4 * w + k)) := by
  unfold f_X12_of
  simp only [c, Option.bind_some]
  rw [l_4, o_mul, o_add, if_neg (o_in (by omega) (by omega)), o_tn (by omega)]
theorem sl_v {σ ρ : Sg} (r : Rel σ ρ) {q : Nat} (hq : q ≤ 100) : f_X12_stripLongOf 344 (Int32.ofNat q) ρ = some (Int32.ofNat (hL (sg_I ρ) q)) := by
  obtain ⟨b, d, h1, h2, h3⟩ := r.sp q
  obtain ⟨g1, g2, g3⟩ := r.hs
  have c := r.rf
  unfold f_X12_stripLongOf
  simp only [g3, o_lt (show q < 2147483648 by omega) (show hS (sg_I ρ) < 2147483648 by omega)]
  by_cases hk : q < hS (sg_I ρ)
  · rw [if_pos hk]
    simp only [c, Option.bind_some]
    rw [if_neg (o_in (by omega) (by omega)), o_tn (by omega), (h2 hk).2.2]
  · rw [if_neg hk]
    unfold hL
    rw [if_neg hk]
    rfl
theorem pa_v {σ ρ : Sg} (r : Rel σ ρ) {q p : Nat} (hq : q ≤ 100) (hp : p < 16) : f_X12_pictureAt 344 (Int32.ofNat q) (Int32.ofNat p) ρ = some (hP (sg_I ρ) q p) := by
  obtain ⟨g1, g2, g3⟩ := r.hs
  have c := r.rf
  unfold f_X12_pictureAt
  simp only [g3, o_lt (show q < 2147483648 by omega) (show hS (sg_I ρ) < 2147483648 by omega)]
  unfold hP
  by_cases hk : q < hS (sg_I ρ)
  · rw [if_pos hk, if_pos hk]
    simp only [c, Option.bind_some]
    rw [l_16, o_mul, o_add, if_neg (o_in (by omega) (by omega)), o_tn (by omega)]
  · rw [if_neg hk, if_neg hk]
/-- a wheel's four numbers -/
theorem Rel.wh {σ ρ : Sg} (r : Rel σ ρ) {n w : Nat} (e : sg_I ρ 344 20 = Int32.ofNat n) (hn : n ≤ 4) (hw : w < n) : ∃ v z p q : Nat, v ≤ 9 ∧ z ≤ 1 ∧ q ≤ 5 ∧ p < hL (sg_I ρ) q ∧ p < 16 ∧ sg_I ρ 359 (4 * w) = Int32.ofNat v ∧ sg_I ρ 359 (4 * w + 1) = Int32.ofNat z ∧ sg_I ρ 359 (4 * w + 2) = Int32.ofNat p ∧ sg_I ρ 359 (4 * w + 3) = Int32.ofNat q ∧ sg_I σ (20 + w) 0 = Int32.ofNat v ∧ sg_I σ (20 + w) 1 = Int32.ofNat z ∧ sg_I σ (20 + w) 2 = Int32.ofNat p ∧ sg_I σ (20 + w) 3 = Int32.ofNat q := by
  obtain ⟨m, h1, h2, h3, h4, h5⟩ := r.nw
  have em : m = n := by
    rw [h2] at e
    exact (o_eq (by omega) (by omega)).mp e
  subst em
  obtain ⟨d1, d2, d3, d4, d5⟩ := h5 (by omega)
  obtain ⟨f1, f2, f3, f4⟩ := d5 w hw
  have sc := h4.2.2.2.2.2.1 w hw
  simp only [Nat.zero_add] at f1 f2 f3 f4 sc
  obtain ⟨v, v1, v2⟩ := x_ob (B := 9) f1
  obtain ⟨q, q1, q2⟩ := x_ob (B := 5) f4
  obtain ⟨b, d, ⟨s1, s2, s3, s4, s5⟩, s6, s7⟩ := r.sp q
  obtain ⟨g1, g2, g3⟩ := r.hs
  have el : ln_ (sg_I ρ) (sg_I ρ 359 (4 * w + 3)) = hL (sg_I ρ) q := by
    unfold ln_
    rw [q2, g3, o_ti (by omega), o_ti (by omega), o_tn (by omega)]
    by_cases hk : q < hS (sg_I ρ)
    · rw [if_pos (by omega), (s6 hk).2.2, o_ti (by omega)]
    · rw [if_neg (by omega)]
      unfold hL
      rw [if_neg hk]
      rfl
  rw [el] at f3
  obtain ⟨p, p1, p2⟩ := x_lt (B := hL (sg_I ρ) q) f3
  obtain ⟨z, z1, z2⟩ : ∃ z : Nat, z ≤ 1 ∧ sg_I ρ 359 (4 * w + 1) = Int32.ofNat z := by
    rcases f2 with f2 | f2
    · exact ⟨0, by omega, f2⟩
    · exact ⟨1, by omega, f2⟩
  refine ⟨v, z, p, q, v1, z1, q1, p1, by omega, v2, z2, p2, q2, ?_, ?_, ?_, ?_⟩
  · rw [← v2]; exact sc 0 (by omega)
  · rw [← z2]; exact sc 1 (by omega)
  · rw [← p2]; exact sc 2 (by omega)
  · rw [← q2]; exact sc 3 (by omega)
theorem Rel.gl {σ ρ : Sg} (r : Rel σ ρ) {n : Nat} (e : sg_I ρ 344 20 = Int32.ofNat n) (hn : n ≤ 4) (h0 : 0 < n) : ∃ f o c t : Nat, 1 ≤ f ∧ f ≤ 60 ∧ o ≤ 999 ∧ c ≤ 999 ∧ t ≤ 9999 ∧ sg_I ρ 359 16 = Int32.ofNat f ∧ sg_I ρ 359 17 = Int32.ofNat o ∧ sg_I ρ 359 18 = Int32.ofNat c ∧ sg_I ρ 359 19 = Int32.ofNat t ∧ sg_I σ 17 2 = Int32.ofNat f ∧ sg_I σ 17 3 = Int32.ofNat o ∧ sg_I σ 17 4 = Int32.ofNat c ∧ sg_I σ 17 5 = Int32.ofNat t := by
  obtain ⟨m, h1, h2, h3, h4, h5⟩ := r.nw
  have em : m = n := by
    rw [h2] at e
    exact (o_eq (by omega) (by omega)).mp e
  subst em
  obtain ⟨d1, d2, d3, d4, d5⟩ := h5 (by omega)
  simp only [Nat.zero_add] at d1 d2 d3 d4
  obtain ⟨s1, s2, s3, s4, s5, -⟩ := h4
  simp only [Nat.zero_add] at s2 s3 s4 s5
  obtain ⟨f, f1, f2⟩ := x_ob (B := 60) (x := sg_I ρ 359 16) (by omega)
  obtain ⟨o, o1, o2⟩ := x_ob (B := 999) d2
  obtain ⟨c, c1, c2⟩ := x_ob (B := 999) d3
  obtain ⟨t, t1, t2⟩ := x_ob (B := 9999) d4
  have ff : 1 ≤ f := by
    have := o_ti (show f < 2147483648 by omega)
    rw [f2] at d1
    omega
  exact ⟨f, o, c, t, ff, f1, o1, c1, t1, f2, o2, c2, t2, by rw [s2, f2], by rw [s3, o2], by rw [s4, c2], by rw [s5, t2]⟩
theorem sw_v {σ ρ : Sg} (r : Rel σ ρ) {w q p : Nat} (hw : w < 4) (hq : q ≤ 100) (hp : p < 16) (e3 : sg_I ρ 359 (4 * w + 3) = Int32.ofNat q) (e2 : sg_I ρ 359 (4 * w + 2) = Int32.ofNat p) : f_X12_showsOf 344 (Int32.ofNat w) ρ = some (hP (sg_I ρ) q p) := by
  have c := r.rf
  unfold f_X12_showsOf
  rw [l_3, l_2, of_v c hw (by omega), of_v c hw (by omega)]
  simp only [Option.bind_some, e3, e2]
  rw [pa_v r hq hp]
  rfl
theorem lo_v {σ ρ : Sg} (r : Rel σ ρ) {w q : Nat} (hw : w < 4) (hq : q ≤ 100) (e3 : sg_I ρ 359 (4 * w + 3) = Int32.ofNat q) : f_X12_longOf 344 (Int32.ofNat w) ρ = some (Int32.ofNat (hL (sg_I ρ) q)) := by
  have c := r.rf
  unfold f_X12_longOf
  rw [l_3, of_v c hw (by omega)]
  simp only [Option.bind_some, e3]
  rw [sl_v r hq]
  rfl
/-! ===== the plain calls ===== -/
theorem p2_rule : so_rule p2_I 20000 := by
  intro x σ r
  obtain ⟨n, h1, h2, h3, ⟨-, s2, s3, s4, -⟩, h5⟩ := Rel.nw r
  have c := Rel.cf r
  have d := Rel.rf r
  have il := il_v c h1 h3
  by_cases g : 0 < n
  · rw [if_pos g] at il
    have h0 : (0 : Int32) < sg_I σ 344 20 := by rw [h2, l_0, o_lt (by omega) (by omega)]; exact g
    by_cases x0 : x = 0
    · subst x0
      exact so_q (sg_I σ 359 16) (by unfold f_X11_rule; simp only [Option.bind_some, ↓reduceIte, gI_I, gI_R, gI_J, gR_I, gR_R, gR_J, gL_I, gL_R, gL_J, gN_I, gN_R, gN_J, gJ_I, gJ_R, Int32.reduceLT, Int32.reduceEq, Int32.reduceNe, Int32.reduceToNatClampNeg, Int32.reduceToInt, Int32.reduceNeg, Int.reduceLE, Int.reduceLT, Int.reduceNeg, Int.reduceEq,  Nat.reduceLT, Nat.reduceLeDiff, Nat.reduceEqDiff, Nat.reduceAdd, Nat.reduceMul, false_or, or_false, true_and, and_true, false_and, and_false, not_false_eq_true, not_true_eq_false, or_self, and_self, true_or, or_true, il, c, s2]) (by unfold f_X12_rule; simp only [Option.bind_some, ↓reduceIte, gI_I, gI_R, gI_J, gR_I, gR_R, gR_J, gL_I, gL_R, gL_J, gN_I, gN_R, gN_J, gJ_I, gJ_R, Int32.reduceLT, Int32.reduceEq, Int32.reduceNe, Int32.reduceToNatClampNeg, Int32.reduceToInt, Int32.reduceNeg, Int.reduceLE, Int.reduceLT, Int.reduceNeg, Int.reduceEq,  Nat.reduceLT, Nat.reduceLeDiff, Nat.reduceEqDiff, Nat.reduceAdd, Nat.reduceMul, false_or, or_false, true_and, and_true, false_and, and_false, not_false_eq_true, not_true_eq_false, or_self, and_self, true_or, or_true, in_v, h0, d, Int32.reduceAdd]) r
    · by_cases x1 : x = 1
      · subst x1
        exact so_q (sg_I σ 359 17) (by unfold f_X11_rule; simp only [Option.bind_some, ↓reduceIte, gI_I, gI_R, gI_J, gR_I, gR_R, gR_J, gL_I, gL_R, gL_J, gN_I, gN_R, gN_J, gJ_I, gJ_R, Int32.reduceLT, Int32.reduceEq, Int32.reduceNe, Int32.reduceToNatClampNeg, Int32.reduceToInt, Int32.reduceNeg, Int.reduceLE, Int.reduceLT, Int.reduceNeg, Int.reduceEq,  Nat.reduceLT, Nat.reduceLeDiff, Nat.reduceEqDiff, Nat.reduceAdd, Nat.reduceMul, false_or, or_false, true_and, and_true, false_and, and_false, not_false_eq_true, not_true_eq_false, or_self, and_self, true_or, or_true, il, c, s3]) (by unfold f_X12_rule; simp only [Option.bind_some, ↓reduceIte, gI_I, gI_R, gI_J, gR_I, gR_R, gR_J, gL_I, gL_R, gL_J, gN_I, gN_R, gN_J, gJ_I, gJ_R, Int32.reduceLT, Int32.reduceEq, Int32.reduceNe, Int32.reduceToNatClampNeg, Int32.reduceToInt, Int32.reduceNeg, Int.reduceLE, Int.reduceLT, Int.reduceNeg, Int.reduceEq,  Nat.reduceLT, Nat.reduceLeDiff, Nat.reduceEqDiff, Nat.reduceAdd, Nat.reduceMul, false_or, or_false, true_and, and_true, false_and, and_false, not_false_eq_true, not_true_eq_false, or_self, and_self, true_or, or_true, in_v, h0, d, Int32.reduceAdd]) r
      · by_cases x2 : x = 2
        · subst x2
          exact so_q (sg_I σ 359 18) (by unfold f_X11_rule; simp only [Option.bind_some, ↓reduceIte, gI_I, gI_R, gI_J, gR_I, gR_R, gR_J, gL_I, gL_R, gL_J, gN_I, gN_R, gN_J, gJ_I, gJ_R, Int32.reduceLT, Int32.reduceEq, Int32.reduceNe, Int32.reduceToNatClampNeg, Int32.reduceToInt, Int32.reduceNeg, Int.reduceLE, Int.reduceLT, Int.reduceNeg, Int.reduceEq,  Nat.reduceLT, Nat.reduceLeDiff, Nat.reduceEqDiff, Nat.reduceAdd, Nat.reduceMul, false_or, or_false, true_and, and_true, false_and, and_false, not_false_eq_true, not_true_eq_false, or_self, and_self, true_or, or_true, il, c, s4]) (by unfold f_X12_rule; simp only [Option.bind_some, ↓reduceIte, gI_I, gI_R, gI_J, gR_I, gR_R, gR_J, gL_I, gL_R, gL_J, gN_I, gN_R, gN_J, gJ_I, gJ_R, Int32.reduceLT, Int32.reduceEq, Int32.reduceNe, Int32.reduceToNatClampNeg, Int32.reduceToInt, Int32.reduceNeg, Int.reduceLE, Int.reduceLT, Int.reduceNeg, Int.reduceEq,  Nat.reduceLT, Nat.reduceLeDiff, Nat.reduceEqDiff, Nat.reduceAdd, Nat.reduceMul, false_or, or_false, true_and, and_true, false_and, and_false, not_false_eq_true, not_true_eq_false, or_self, and_self, true_or, or_true, in_v, h0, d, Int32.reduceAdd]) r
        · have hx : ¬ (0 ≤ x.toInt ∧ x.toInt ≤ 2) := by
            have e0 : (0 : Int32).toInt = 0 := rfl
            have e1 : (1 : Int32).toInt = 1 := rfl
            have e2 : (2 : Int32).toInt = 2 := rfl
            have y0 := fun h => x0 (i_eq.mpr h)
            have y1 := fun h => x1 (i_eq.mpr h)
            have y2 := fun h => x2 (i_eq.mpr h)
            omega
          exact so_q (-1) (by unfold f_X11_rule; simp only [Option.bind_some, ↓reduceIte, gI_I, gI_R, gI_J, gR_I, gR_R, gR_J, gL_I, gL_R, gL_J, gN_I, gN_R, gN_J, gJ_I, gJ_R, Int32.reduceLT, Int32.reduceEq, Int32.reduceNe, Int32.reduceToNatClampNeg, Int32.reduceToInt, Int32.reduceNeg, Int.reduceLE, Int.reduceLT, Int.reduceNeg, Int.reduceEq,  Nat.reduceLT, Nat.reduceLeDiff, Nat.reduceEqDiff, Nat.reduceAdd, Nat.reduceMul, false_or, or_false, true_and, and_true, false_and, and_false, not_false_eq_true, not_true_eq_false, or_self, and_self, true_or, or_true, il, x0, x1, x2]) (by unfold f_X12_rule; simp only [Option.bind_some, ↓reduceIte, gI_I, gI_R, gI_J, gR_I, gR_R, gR_J, gL_I, gL_R, gL_J, gN_I, gN_R, gN_J, gJ_I, gJ_R, Int32.reduceLT, Int32.reduceEq, Int32.reduceNe, Int32.reduceToNatClampNeg, Int32.reduceToInt, Int32.reduceNeg, Int.reduceLE, Int.reduceLT, Int.reduceNeg, Int.reduceEq,  Nat.reduceLT, Nat.reduceLeDiff, Nat.reduceEqDiff, Nat.reduceAdd, Nat.reduceMul, false_or, or_false, true_and, and_true, false_and, and_false, not_false_eq_true, not_true_eq_false, or_self, and_self, true_or, or_true, in_v, h0, hx]) r
  · rw [if_neg g] at il
    have h0 : ¬ (0 : Int32) < sg_I σ 344 20 := by rw [h2, l_0, o_lt (by omega) (by omega)]; exact g
    exact so_q (-1) (by unfold f_X11_rule; simp only [Option.bind_some, ↓reduceIte, gI_I, gI_R, gI_J, gR_I, gR_R, gR_J, gL_I, gL_R, gL_J, gN_I, gN_R, gN_J, gJ_I, gJ_R, Int32.reduceLT, Int32.reduceEq, Int32.reduceNe, Int32.reduceToNatClampNeg, Int32.reduceToInt, Int32.reduceNeg, Int.reduceLE, Int.reduceLT, Int.reduceNeg, Int.reduceEq,  Nat.reduceLT, Nat.reduceLeDiff, Nat.reduceEqDiff, Nat.reduceAdd, Nat.reduceMul, false_or, or_false, true_and, and_true, false_and, and_false, not_false_eq_true, not_true_eq_false, or_self, and_self, true_or, or_true, il]) (by unfold f_X12_rule; simp only [Option.bind_some, ↓reduceIte, gI_I, gI_R, gI_J, gR_I, gR_R, gR_J, gL_I, gL_R, gL_J, gN_I, gN_R, gN_J, gJ_I, gJ_R, Int32.reduceLT, Int32.reduceEq, Int32.reduceNe, Int32.reduceToNatClampNeg, Int32.reduceToInt, Int32.reduceNeg, Int.reduceLE, Int.reduceLT, Int.reduceNeg, Int.reduceEq,  Nat.reduceLT, Nat.reduceLeDiff, Nat.reduceEqDiff, Nat.reduceAdd, Nat.reduceMul, false_or, or_false, true_and, and_true, false_and, and_false, not_false_eq_true, not_true_eq_false, or_self, and_self, true_or, or_true, h0]) r
theorem p2_status : so_status p2_I 20000 := by
  intro x σ r
  have c := Rel.cf r
  have d := Rel.rf r
  have e0 : (0 : Int32).toInt = 0 := rfl
  have e5 : (Int32.ofNat 5).toInt = 5 := rfl
  have mi := r.1.2.2.2.2.2.2.2.2.1
  by_cases g : 0 ≤ x.toInt ∧ x.toInt ≤ 4
  · obtain ⟨k, hk, rfl⟩ := x_ob (B := 4) g
    refine so_q (sg_I σ 360 k) ?_ ?_ r
    · unfold f_X11_status
      simp only [c, Option.bind_some]
      rw [if_neg (o_nn (by omega)), if_pos (by rw [o_lt (by omega) (by omega)]; omega), if_neg (o_in (by omega) (by omega)), o_tn (by omega)]
      exact congrArg some (mi.2.2.2 k (by omega))
    · unfold f_X12_status
      simp only [Option.bind_some, ↓reduceIte, gI_I, gI_R, gI_J, gR_I, gR_R, gR_J, gL_I, gL_R, gL_J, gN_I, gN_R, gN_J, gJ_I, gJ_R, Int32.reduceLT, Int32.reduceEq, Int32.reduceNe, Int32.reduceToNatClampNeg, Int32.reduceToInt, Int32.reduceNeg, Int.reduceLE, Int.reduceLT, Int.reduceNeg, Int.reduceEq,  Nat.reduceLT, Nat.reduceLeDiff, Nat.reduceEqDiff, Nat.reduceAdd, Nat.reduceMul, false_or, or_false, true_and, and_true, false_and, and_false, not_false_eq_true, not_true_eq_false, or_self, and_self, true_or, or_true, in_v, g, d]
      rw [if_neg (o_in (by omega) (by omega)), o_tn (by omega)]
  · refine so_q (-1) ?_ ?_ r
    · unfold f_X11_status
      simp only [c, Option.bind_some, i_lt, e0, e5]
      by_cases g1 : x.toInt < 0
      · rw [if_pos g1]
      · rw [if_neg g1, if_neg (by omega)]
    · unfold f_X12_status
      simp only [Option.bind_some, ↓reduceIte, gI_I, gI_R, gI_J, gR_I, gR_R, gR_J, gL_I, gL_R, gL_J, gN_I, gN_R, gN_J, gJ_I, gJ_R, Int32.reduceLT, Int32.reduceEq, Int32.reduceNe, Int32.reduceToNatClampNeg, Int32.reduceToInt, Int32.reduceNeg, Int.reduceLE, Int.reduceLT, Int.reduceNeg, Int.reduceEq,  Nat.reduceLT, Nat.reduceLeDiff, Nat.reduceEqDiff, Nat.reduceAdd, Nat.reduceMul, false_or, or_false, true_and, and_true, false_and, and_false, not_false_eq_true, not_true_eq_false, or_self, and_self, true_or, or_true, in_v, g]
theorem p2_count : so_count p2_I 20000 := by
  intro x σ r
  obtain ⟨n, h1, h2, h3, ⟨-, s2, s3, s4, s5, s6, s7, s8⟩, h5⟩ := Rel.nw r
  have c := Rel.cf r
  have d := Rel.rf r
  obtain ⟨-, -, ⟨t, t1, t2, t3, -⟩, ⟨k, k1, k2, k3, -⟩, ⟨m, m1, m2, m3, m4, -⟩, -, ⟨-, -, -, -, ⟨a, -, a1, a2, a3, a4, -⟩, -⟩, -, mi, ⟨q, q1, q2, q3, -⟩⟩ := r.1
  obtain ⟨e, f1, f2, f3, -⟩ := s7
  have f2' : e < 2147483648 := by
    have := i_hi (sg_I σ 17 5)
    omega
  have hrc : f_X7_rowCount 17 σ = some (sg_I σ 359 20) := by
    unfold f_X7_rowCount
    rw [f1, l_60, min_v (by omega) f2']
    exact congrArg some f3.symm
  unfold f_X11_count f_X12_count
  by_cases x0 : x = 0
  · exact so_q (Int32.ofNat n) (by simp only [Option.bind_some, ↓reduceIte, gI_I, gI_R, gI_J, gR_I, gR_R, gR_J, gL_I, gL_R, gL_J, gN_I, gN_R, gN_J, gJ_I, gJ_R, Int32.reduceLT, Int32.reduceEq, Int32.reduceNe, Int32.reduceToNatClampNeg, Int32.reduceToInt, Int32.reduceNeg, Int.reduceLE, Int.reduceLT, Int.reduceNeg, Int.reduceEq,  Nat.reduceLT, Nat.reduceLeDiff, Nat.reduceEqDiff, Nat.reduceAdd, Nat.reduceMul, false_or, or_false, true_and, and_true, false_and, and_false, not_false_eq_true, not_true_eq_false, or_self, and_self, true_or, or_true, x0, c, h3]) (by simp only [Option.bind_some, ↓reduceIte, gI_I, gI_R, gI_J, gR_I, gR_R, gR_J, gL_I, gL_R, gL_J, gN_I, gN_R, gN_J, gJ_I, gJ_R, Int32.reduceLT, Int32.reduceEq, Int32.reduceNe, Int32.reduceToNatClampNeg, Int32.reduceToInt, Int32.reduceNeg, Int.reduceLE, Int.reduceLT, Int.reduceNeg, Int.reduceEq,  Nat.reduceLT, Nat.reduceLeDiff, Nat.reduceEqDiff, Nat.reduceAdd, Nat.reduceMul, false_or, or_false, true_and, and_true, false_and, and_false, not_false_eq_true, not_true_eq_false, or_self, and_self, true_or, or_true, x0, h2]) r
  by_cases x1 : x = 1
  · exact so_q (Int32.ofNat m) (by simp only [Option.bind_some, ↓reduceIte, gI_I, gI_R, gI_J, gR_I, gR_R, gR_J, gL_I, gL_R, gL_J, gN_I, gN_R, gN_J, gJ_I, gJ_R, Int32.reduceLT, Int32.reduceEq, Int32.reduceNe, Int32.reduceToNatClampNeg, Int32.reduceToInt, Int32.reduceNeg, Int.reduceLE, Int.reduceLT, Int.reduceNeg, Int.reduceEq,  Nat.reduceLT, Nat.reduceLeDiff, Nat.reduceEqDiff, Nat.reduceAdd, Nat.reduceMul, false_or, or_false, true_and, and_true, false_and, and_false, not_false_eq_true, not_true_eq_false, or_self, and_self, true_or, or_true, x1, m2]) (by simp only [Option.bind_some, ↓reduceIte, gI_I, gI_R, gI_J, gR_I, gR_R, gR_J, gL_I, gL_R, gL_J, gN_I, gN_R, gN_J, gJ_I, gJ_R, Int32.reduceLT, Int32.reduceEq, Int32.reduceNe, Int32.reduceToNatClampNeg, Int32.reduceToInt, Int32.reduceNeg, Int.reduceLE, Int.reduceLT, Int.reduceNeg, Int.reduceEq,  Nat.reduceLT, Nat.reduceLeDiff, Nat.reduceEqDiff, Nat.reduceAdd, Nat.reduceMul, false_or, or_false, true_and, and_true, false_and, and_false, not_false_eq_true, not_true_eq_false, or_self, and_self, true_or, or_true, x1, m3]) r
  by_cases x2 : x = 2
  · exact so_q (Int32.ofNat k) (by simp only [Option.bind_some, ↓reduceIte, gI_I, gI_R, gI_J, gR_I, gR_R, gR_J, gL_I, gL_R, gL_J, gN_I, gN_R, gN_J, gJ_I, gJ_R, Int32.reduceLT, Int32.reduceEq, Int32.reduceNe, Int32.reduceToNatClampNeg, Int32.reduceToInt, Int32.reduceNeg, Int.reduceLE, Int.reduceLT, Int.reduceNeg, Int.reduceEq,  Nat.reduceLT, Nat.reduceLeDiff, Nat.reduceEqDiff, Nat.reduceAdd, Nat.reduceMul, false_or, or_false, true_and, and_true, false_and, and_false, not_false_eq_true, not_true_eq_false, or_self, and_self, true_or, or_true, x2, k2]) (by simp only [Option.bind_some, ↓reduceIte, gI_I, gI_R, gI_J, gR_I, gR_R, gR_J, gL_I, gL_R, gL_J, gN_I, gN_R, gN_J, gJ_I, gJ_R, Int32.reduceLT, Int32.reduceEq, Int32.reduceNe, Int32.reduceToNatClampNeg, Int32.reduceToInt, Int32.reduceNeg, Int.reduceLE, Int.reduceLT, Int.reduceNeg, Int.reduceEq,  Nat.reduceLT, Nat.reduceLeDiff, Nat.reduceEqDiff, Nat.reduceAdd, Nat.reduceMul, false_or, or_false, true_and, and_true, false_and, and_false, not_false_eq_true, not_true_eq_false, or_self, and_self, true_or, or_true, x2, k3]) r
  by_cases x3 : x = 3
  · exact so_q (Int32.ofNat t) (by simp only [Option.bind_some, ↓reduceIte, gI_I, gI_R, gI_J, gR_I, gR_R, gR_J, gL_I, gL_R, gL_J, gN_I, gN_R, gN_J, gJ_I, gJ_R, Int32.reduceLT, Int32.reduceEq, Int32.reduceNe, Int32.reduceToNatClampNeg, Int32.reduceToInt, Int32.reduceNeg, Int.reduceLE, Int.reduceLT, Int.reduceNeg, Int.reduceEq,  Nat.reduceLT, Nat.reduceLeDiff, Nat.reduceEqDiff, Nat.reduceAdd, Nat.reduceMul, false_or, or_false, true_and, and_true, false_and, and_false, not_false_eq_true, not_true_eq_false, or_self, and_self, true_or, or_true, x3, t2]) (by simp only [Option.bind_some, ↓reduceIte, gI_I, gI_R, gI_J, gR_I, gR_R, gR_J, gL_I, gL_R, gL_J, gN_I, gN_R, gN_J, gJ_I, gJ_R, Int32.reduceLT, Int32.reduceEq, Int32.reduceNe, Int32.reduceToNatClampNeg, Int32.reduceToInt, Int32.reduceNeg, Int.reduceLE, Int.reduceLT, Int.reduceNeg, Int.reduceEq,  Nat.reduceLT, Nat.reduceLeDiff, Nat.reduceEqDiff, Nat.reduceAdd, Nat.reduceMul, false_or, or_false, true_and, and_true, false_and, and_false, not_false_eq_true, not_true_eq_false, or_self, and_self, true_or, or_true, x3, t3]) r
  by_cases x4 : x = 4
  · exact so_q (sg_I σ 344 26) (by simp only [Option.bind_some, ↓reduceIte, gI_I, gI_R, gI_J, gR_I, gR_R, gR_J, gL_I, gL_R, gL_J, gN_I, gN_R, gN_J, gJ_I, gJ_R, Int32.reduceLT, Int32.reduceEq, Int32.reduceNe, Int32.reduceToNatClampNeg, Int32.reduceToInt, Int32.reduceNeg, Int.reduceLE, Int.reduceLT, Int.reduceNeg, Int.reduceEq,  Nat.reduceLT, Nat.reduceLeDiff, Nat.reduceEqDiff, Nat.reduceAdd, Nat.reduceMul, false_or, or_false, true_and, and_true, false_and, and_false, not_false_eq_true, not_true_eq_false, or_self, and_self, true_or, or_true, x4, m4]) (by simp only [Option.bind_some, ↓reduceIte, gI_I, gI_R, gI_J, gR_I, gR_R, gR_J, gL_I, gL_R, gL_J, gN_I, gN_R, gN_J, gJ_I, gJ_R, Int32.reduceLT, Int32.reduceEq, Int32.reduceNe, Int32.reduceToNatClampNeg, Int32.reduceToInt, Int32.reduceNeg, Int.reduceLE, Int.reduceLT, Int.reduceNeg, Int.reduceEq,  Nat.reduceLT, Nat.reduceLeDiff, Nat.reduceEqDiff, Nat.reduceAdd, Nat.reduceMul, false_or, or_false, true_and, and_true, false_and, and_false, not_false_eq_true, not_true_eq_false, or_self, and_self, true_or, or_true, x4]) r
  by_cases x5 : x = 5
  · exact so_q (sg_I σ 359 19) (by simp only [Option.bind_some, ↓reduceIte, gI_I, gI_R, gI_J, gR_I, gR_R, gR_J, gL_I, gL_R, gL_J, gN_I, gN_R, gN_J, gJ_I, gJ_R, Int32.reduceLT, Int32.reduceEq, Int32.reduceNe, Int32.reduceToNatClampNeg, Int32.reduceToInt, Int32.reduceNeg, Int.reduceLE, Int.reduceLT, Int.reduceNeg, Int.reduceEq,  Nat.reduceLT, Nat.reduceLeDiff, Nat.reduceEqDiff, Nat.reduceAdd, Nat.reduceMul, false_or, or_false, true_and, and_true, false_and, and_false, not_false_eq_true, not_true_eq_false, or_self, and_self, true_or, or_true, x5, c, s5]) (by simp only [Option.bind_some, ↓reduceIte, gI_I, gI_R, gI_J, gR_I, gR_R, gR_J, gL_I, gL_R, gL_J, gN_I, gN_R, gN_J, gJ_I, gJ_R, Int32.reduceLT, Int32.reduceEq, Int32.reduceNe, Int32.reduceToNatClampNeg, Int32.reduceToInt, Int32.reduceNeg, Int.reduceLE, Int.reduceLT, Int.reduceNeg, Int.reduceEq,  Nat.reduceLT, Nat.reduceLeDiff, Nat.reduceEqDiff, Nat.reduceAdd, Nat.reduceMul, false_or, or_false, true_and, and_true, false_and, and_false, not_false_eq_true, not_true_eq_false, or_self, and_self, true_or, or_true, x5, d]) r
  by_cases x6 : x = 6
  · exact so_q (sg_I σ 344 27) (by simp only [Option.bind_some, ↓reduceIte, gI_I, gI_R, gI_J, gR_I, gR_R, gR_J, gL_I, gL_R, gL_J, gN_I, gN_R, gN_J, gJ_I, gJ_R, Int32.reduceLT, Int32.reduceEq, Int32.reduceNe, Int32.reduceToNatClampNeg, Int32.reduceToInt, Int32.reduceNeg, Int.reduceLE, Int.reduceLT, Int.reduceNeg, Int.reduceEq,  Nat.reduceLT, Nat.reduceLeDiff, Nat.reduceEqDiff, Nat.reduceAdd, Nat.reduceMul, false_or, or_false, true_and, and_true, false_and, and_false, not_false_eq_true, not_true_eq_false, or_self, and_self, true_or, or_true, x6, mi.1]) (by simp only [Option.bind_some, ↓reduceIte, gI_I, gI_R, gI_J, gR_I, gR_R, gR_J, gL_I, gL_R, gL_J, gN_I, gN_R, gN_J, gJ_I, gJ_R, Int32.reduceLT, Int32.reduceEq, Int32.reduceNe, Int32.reduceToNatClampNeg, Int32.reduceToInt, Int32.reduceNeg, Int.reduceLE, Int.reduceLT, Int.reduceNeg, Int.reduceEq,  Nat.reduceLT, Nat.reduceLeDiff, Nat.reduceEqDiff, Nat.reduceAdd, Nat.reduceMul, false_or, or_false, true_and, and_true, false_and, and_false, not_false_eq_true, not_true_eq_false, or_self, and_self, true_or, or_true, x6]) r
  by_cases x7 : x = 7
  · exact so_q (Int32.ofNat q) (by simp only [Option.bind_some, ↓reduceIte, gI_I, gI_R, gI_J, gR_I, gR_R, gR_J, gL_I, gL_R, gL_J, gN_I, gN_R, gN_J, gJ_I, gJ_R, Int32.reduceLT, Int32.reduceEq, Int32.reduceNe, Int32.reduceToNatClampNeg, Int32.reduceToInt, Int32.reduceNeg, Int.reduceLE, Int.reduceLT, Int.reduceNeg, Int.reduceEq,  Nat.reduceLT, Nat.reduceLeDiff, Nat.reduceEqDiff, Nat.reduceAdd, Nat.reduceMul, false_or, or_false, true_and, and_true, false_and, and_false, not_false_eq_true, not_true_eq_false, or_self, and_self, true_or, or_true, x7, c, q2]) (by simp only [Option.bind_some, ↓reduceIte, gI_I, gI_R, gI_J, gR_I, gR_R, gR_J, gL_I, gL_R, gL_J, gN_I, gN_R, gN_J, gJ_I, gJ_R, Int32.reduceLT, Int32.reduceEq, Int32.reduceNe, Int32.reduceToNatClampNeg, Int32.reduceToInt, Int32.reduceNeg, Int.reduceLE, Int.reduceLT, Int.reduceNeg, Int.reduceEq,  Nat.reduceLT, Nat.reduceLeDiff, Nat.reduceEqDiff, Nat.reduceAdd, Nat.reduceMul, false_or, or_false, true_and, and_true, false_and, and_false, not_false_eq_true, not_true_eq_false, or_self, and_self, true_or, or_true, x7, q3]) r
  by_cases x8 : x = 8
  · exact so_q (sg_I σ 359 20) (by simp only [Option.bind_some, ↓reduceIte, gI_I, gI_R, gI_J, gR_I, gR_R, gR_J, gL_I, gL_R, gL_J, gN_I, gN_R, gN_J, gJ_I, gJ_R, Int32.reduceLT, Int32.reduceEq, Int32.reduceNe, Int32.reduceToNatClampNeg, Int32.reduceToInt, Int32.reduceNeg, Int.reduceLE, Int.reduceLT, Int.reduceNeg, Int.reduceEq,  Nat.reduceLT, Nat.reduceLeDiff, Nat.reduceEqDiff, Nat.reduceAdd, Nat.reduceMul, false_or, or_false, true_and, and_true, false_and, and_false, not_false_eq_true, not_true_eq_false, or_self, and_self, true_or, or_true, x8, c, hrc]) (by simp only [Option.bind_some, ↓reduceIte, gI_I, gI_R, gI_J, gR_I, gR_R, gR_J, gL_I, gL_R, gL_J, gN_I, gN_R, gN_J, gJ_I, gJ_R, Int32.reduceLT, Int32.reduceEq, Int32.reduceNe, Int32.reduceToNatClampNeg, Int32.reduceToInt, Int32.reduceNeg, Int.reduceLE, Int.reduceLT, Int.reduceNeg, Int.reduceEq,  Nat.reduceLT, Nat.reduceLeDiff, Nat.reduceEqDiff, Nat.reduceAdd, Nat.reduceMul, false_or, or_false, true_and, and_true, false_and, and_false, not_false_eq_true, not_true_eq_false, or_self, and_self, true_or, or_true, x8, d]) r
  by_cases x9 : x = 9
  · exact so_q (Int32.ofNat a) (by simp only [Option.bind_some, ↓reduceIte, gI_I, gI_R, gI_J, gR_I, gR_R, gR_J, gL_I, gL_R, gL_J, gN_I, gN_R, gN_J, gJ_I, gJ_R, Int32.reduceLT, Int32.reduceEq, Int32.reduceNe, Int32.reduceToNatClampNeg, Int32.reduceToInt, Int32.reduceNeg, Int.reduceLE, Int.reduceLT, Int.reduceNeg, Int.reduceEq,  Nat.reduceLT, Nat.reduceLeDiff, Nat.reduceEqDiff, Nat.reduceAdd, Nat.reduceMul, false_or, or_false, true_and, and_true, false_and, and_false, not_false_eq_true, not_true_eq_false, or_self, and_self, true_or, or_true, x9, c, a3]) (by simp only [Option.bind_some, ↓reduceIte, gI_I, gI_R, gI_J, gR_I, gR_R, gR_J, gL_I, gL_R, gL_J, gN_I, gN_R, gN_J, gJ_I, gJ_R, Int32.reduceLT, Int32.reduceEq, Int32.reduceNe, Int32.reduceToNatClampNeg, Int32.reduceToInt, Int32.reduceNeg, Int.reduceLE, Int.reduceLT, Int.reduceNeg, Int.reduceEq,  Nat.reduceLT, Nat.reduceLeDiff, Nat.reduceEqDiff, Nat.reduceAdd, Nat.reduceMul, false_or, or_false, true_and, and_true, false_and, and_false, not_false_eq_true, not_true_eq_false, or_self, and_self, true_or, or_true, x9, a4]) r
  exact so_q (-1000000) (by simp only [Option.bind_some, ↓reduceIte, gI_I, gI_R, gI_J, gR_I, gR_R, gR_J, gL_I, gL_R, gL_J, gN_I, gN_R, gN_J, gJ_I, gJ_R, Int32.reduceLT, Int32.reduceEq, Int32.reduceNe, Int32.reduceToNatClampNeg, Int32.reduceToInt, Int32.reduceNeg, Int.reduceLE, Int.reduceLT, Int.reduceNeg, Int.reduceEq,  Nat.reduceLT, Nat.reduceLeDiff, Nat.reduceEqDiff, Nat.reduceAdd, Nat.reduceMul, false_or, or_false, true_and, and_true, false_and, and_false, not_false_eq_true, not_true_eq_false, or_self, and_self, true_or, or_true, x0, x1, x2, x3, x4, x5, x6, x7, x8, x9]) (by simp only [Option.bind_some, ↓reduceIte, gI_I, gI_R, gI_J, gR_I, gR_R, gR_J, gL_I, gL_R, gL_J, gN_I, gN_R, gN_J, gJ_I, gJ_R, Int32.reduceLT, Int32.reduceEq, Int32.reduceNe, Int32.reduceToNatClampNeg, Int32.reduceToInt, Int32.reduceNeg, Int.reduceLE, Int.reduceLT, Int.reduceNeg, Int.reduceEq,  Nat.reduceLT, Nat.reduceLeDiff, Nat.reduceEqDiff, Nat.reduceAdd, Nat.reduceMul, false_or, or_false, true_and, and_true, false_and, and_false, not_false_eq_true, not_true_eq_false, or_self, and_self, true_or, or_true, x0, x1, x2, x3, x4, x5, x6, x7, x8, x9]) r
theorem p2_picture : so_picture p2_I 20000 := by
  intro x y σ r
  have c := Rel.cf r
  have d := Rel.rf r
  obtain ⟨g1, g2, g3⟩ := Rel.hs r
  have is := is_v r x
  have js := js_v r x
  have em : (-1 : Int32).toInt = -1 := rfl
  by_cases g : 0 ≤ x.toInt ∧ x.toInt < hS (sg_I σ)
  · rw [if_pos g] at is js
    obtain ⟨s, hs, rfl⟩ := x_lt g
    obtain ⟨b, e, ⟨b1, b2, b3, b4, b5⟩, b6, -⟩ := Rel.sp r s
    obtain ⟨b7, -, b9⟩ := b6 hs
    have i1 : ¬ (Int32.ofNat s < 0 ∨ 6 ≤ (Int32.ofNat s).toNatClampNeg) := o_in (by omega) (by omega)
    have i2 : ¬ (Int32.ofNat s < 0 ∨ 7 ≤ (Int32.ofNat s).toNatClampNeg) := o_in (by omega) (by omega)
    have i3 : (Int32.ofNat s).toNatClampNeg = s := o_tn (by omega)
    have sz := sz_v b1 b2
    by_cases y1 : y = -1
    · subst y1
      refine so_q (Int32.ofNat (hL (sg_I σ) s)) ?_ ?_ r
      · unfold f_X11_picture
        simp only [Option.bind_some, ↓reduceIte, gI_I, gI_R, gI_J, gR_I, gR_R, gR_J, gL_I, gL_R, gL_J, gN_I, gN_R, gN_J, gJ_I, gJ_R, Int32.reduceLT, Int32.reduceEq, Int32.reduceNe, Int32.reduceToNatClampNeg, Int32.reduceToInt, Int32.reduceNeg, Int.reduceLE, Int.reduceLT, Int.reduceNeg, Int.reduceEq,  Nat.reduceLT, Nat.reduceLeDiff, Nat.reduceEqDiff, Nat.reduceAdd, Nat.reduceMul, false_or, or_false, true_and, and_true, false_and, and_false, not_false_eq_true, not_true_eq_false, or_self, and_self, true_or, or_true, is, c, i1, i3, b7, sz]
      · unfold f_X12_picture
        simp only [Option.bind_some, ↓reduceIte, gI_I, gI_R, gI_J, gR_I, gR_R, gR_J, gL_I, gL_R, gL_J, gN_I, gN_R, gN_J, gJ_I, gJ_R, Int32.reduceLT, Int32.reduceEq, Int32.reduceNe, Int32.reduceToNatClampNeg, Int32.reduceToInt, Int32.reduceNeg, Int.reduceLE, Int.reduceLT, Int.reduceNeg, Int.reduceEq,  Nat.reduceLT, Nat.reduceLeDiff, Nat.reduceEqDiff, Nat.reduceAdd, Nat.reduceMul, false_or, or_false, true_and, and_true, false_and, and_false, not_false_eq_true, not_true_eq_false, or_self, and_self, true_or, or_true, js, d, i2, i3, in_v, em, b9, o_p (show hL (sg_I σ) s < 2147483648 by omega)]
        rw [if_pos (by omega)]
        simp only [Option.bind_some, ↓reduceIte, gI_I, gI_R, gI_J, gR_I, gR_R, gR_J, gL_I, gL_R, gL_J, gN_I, gN_R, gN_J, gJ_I, gJ_R, Int32.reduceLT, Int32.reduceEq, Int32.reduceNe, Int32.reduceToNatClampNeg, Int32.reduceToInt, Int32.reduceNeg, Int.reduceLE, Int.reduceLT, Int.reduceNeg, Int.reduceEq,  Nat.reduceLT, Nat.reduceLeDiff, Nat.reduceEqDiff, Nat.reduceAdd, Nat.reduceMul, false_or, or_false, true_and, and_true, false_and, and_false, not_false_eq_true, not_true_eq_false, or_self, and_self, true_or, or_true]
    · by_cases g4 : 0 ≤ y.toInt ∧ y.toInt < hL (sg_I σ) s
      · obtain ⟨k, hk, rfl⟩ := x_lt g4
        have yn : ¬ Int32.ofNat k < 0 := o_nn (by omega)
        have yl : Int32.ofNat k < Int32.ofNat (hL (sg_I σ) s) := (o_lt (by omega) (by omega)).mpr hk
        refine so_q (hP (sg_I σ) s k) ?_ ?_ r
        · unfold f_X11_picture
          simp only [Option.bind_some, ↓reduceIte, gI_I, gI_R, gI_J, gR_I, gR_R, gR_J, gL_I, gL_R, gL_J, gN_I, gN_R, gN_J, gJ_I, gJ_R, Int32.reduceLT, Int32.reduceEq, Int32.reduceNe, Int32.reduceToNatClampNeg, Int32.reduceToInt, Int32.reduceNeg, Int.reduceLE, Int.reduceLT, Int.reduceNeg, Int.reduceEq,  Nat.reduceLT, Nat.reduceLeDiff, Nat.reduceEqDiff, Nat.reduceAdd, Nat.reduceMul, false_or, or_false, true_and, and_true, false_and, and_false, not_false_eq_true, not_true_eq_false, or_self, and_self, true_or, or_true, is, c, i1, i3, b7, sz, y1, yn, yl, sa_v b1 b2 b3 b4 (fun i hi => (b5 i hi).1), o_ti (show k < 2147483648 by omega)]
          rw [Int.emod_eq_of_lt (by omega) (by omega)]
          rfl
        · unfold f_X12_picture
          simp only [Option.bind_some, ↓reduceIte, gI_I, gI_R, gI_J, gR_I, gR_R, gR_J, gL_I, gL_R, gL_J, gN_I, gN_R, gN_J, gJ_I, gJ_R, Int32.reduceLT, Int32.reduceEq, Int32.reduceNe, Int32.reduceToNatClampNeg, Int32.reduceToInt, Int32.reduceNeg, Int.reduceLE, Int.reduceLT, Int.reduceNeg, Int.reduceEq,  Nat.reduceLT, Nat.reduceLeDiff, Nat.reduceEqDiff, Nat.reduceAdd, Nat.reduceMul, false_or, or_false, true_and, and_true, false_and, and_false, not_false_eq_true, not_true_eq_false, or_self, and_self, true_or, or_true, js, d, i2, i3, in_v, em, b9, o_p (show hL (sg_I σ) s < 2147483648 by omega), o_ti (show k < 2147483648 by omega)]
          rw [if_pos (by omega)]
          simp only [Option.bind_some, ↓reduceIte, gI_I, gI_R, gI_J, gR_I, gR_R, gR_J, gL_I, gL_R, gL_J, gN_I, gN_R, gN_J, gJ_I, gJ_R, Int32.reduceLT, Int32.reduceEq, Int32.reduceNe, Int32.reduceToNatClampNeg, Int32.reduceToInt, Int32.reduceNeg, Int.reduceLE, Int.reduceLT, Int.reduceNeg, Int.reduceEq,  Nat.reduceLT, Nat.reduceLeDiff, Nat.reduceEqDiff, Nat.reduceAdd, Nat.reduceMul, false_or, or_false, true_and, and_true, false_and, and_false, not_false_eq_true, not_true_eq_false, or_self, and_self, true_or, or_true, y1]
          rw [l_16, o_mul, o_add, if_neg (o_in (by omega) (by omega)), o_tn (by omega)]
          unfold hP
          rw [if_pos hs]
      · have y2 : y.toInt ≠ -1 := fun h => y1 (i_eq.mpr h)
        refine so_q (-1) ?_ ?_ r
        · unfold f_X11_picture
          simp only [Option.bind_some, ↓reduceIte, gI_I, gI_R, gI_J, gR_I, gR_R, gR_J, gL_I, gL_R, gL_J, gN_I, gN_R, gN_J, gJ_I, gJ_R, Int32.reduceLT, Int32.reduceEq, Int32.reduceNe, Int32.reduceToNatClampNeg, Int32.reduceToInt, Int32.reduceNeg, Int.reduceLE, Int.reduceLT, Int.reduceNeg, Int.reduceEq,  Nat.reduceLT, Nat.reduceLeDiff, Nat.reduceEqDiff, Nat.reduceAdd, Nat.reduceMul, false_or, or_false, true_and, and_true, false_and, and_false, not_false_eq_true, not_true_eq_false, or_self, and_self, true_or, or_true, is, c, i1, i3, b7, sz, y1, i_lt, o_ti (show hL (sg_I σ) s < 2147483648 by omega)]
          by_cases g5 : y.toInt < 0
          · rw [if_pos g5]
          · rw [if_neg g5, if_neg (by omega)]
        · unfold f_X12_picture
          simp only [Option.bind_some, ↓reduceIte, gI_I, gI_R, gI_J, gR_I, gR_R, gR_J, gL_I, gL_R, gL_J, gN_I, gN_R, gN_J, gJ_I, gJ_R, Int32.reduceLT, Int32.reduceEq, Int32.reduceNe, Int32.reduceToNatClampNeg, Int32.reduceToInt, Int32.reduceNeg, Int.reduceLE, Int.reduceLT, Int.reduceNeg, Int.reduceEq,  Nat.reduceLT, Nat.reduceLeDiff, Nat.reduceEqDiff, Nat.reduceAdd, Nat.reduceMul, false_or, or_false, true_and, and_true, false_and, and_false, not_false_eq_true, not_true_eq_false, or_self, and_self, true_or, or_true, js, d, i2, i3, in_v, em, b9, o_p (show hL (sg_I σ) s < 2147483648 by omega)]
          rw [if_neg (by omega)]
          simp only [Option.bind_some, ↓reduceIte, gI_I, gI_R, gI_J, gR_I, gR_R, gR_J, gL_I, gL_R, gL_J, gN_I, gN_R, gN_J, gJ_I, gJ_R, Int32.reduceLT, Int32.reduceEq, Int32.reduceNe, Int32.reduceToNatClampNeg, Int32.reduceToInt, Int32.reduceNeg, Int.reduceLE, Int.reduceLT, Int.reduceNeg, Int.reduceEq,  Nat.reduceLT, Nat.reduceLeDiff, Nat.reduceEqDiff, Nat.reduceAdd, Nat.reduceMul, false_or, or_false, true_and, and_true, false_and, and_false, not_false_eq_true, not_true_eq_false, or_self, and_self, true_or, or_true]
  · rw [if_neg g] at is js
    exact so_q (-1) (by unfold f_X11_picture; simp only [Option.bind_some, ↓reduceIte, gI_I, gI_R, gI_J, gR_I, gR_R, gR_J, gL_I, gL_R, gL_J, gN_I, gN_R, gN_J, gJ_I, gJ_R, Int32.reduceLT, Int32.reduceEq, Int32.reduceNe, Int32.reduceToNatClampNeg, Int32.reduceToInt, Int32.reduceNeg, Int.reduceLE, Int.reduceLT, Int.reduceNeg, Int.reduceEq,  Nat.reduceLT, Nat.reduceLeDiff, Nat.reduceEqDiff, Nat.reduceAdd, Nat.reduceMul, false_or, or_false, true_and, and_true, false_and, and_false, not_false_eq_true, not_true_eq_false, or_self, and_self, true_or, or_true, is]) (by unfold f_X12_picture; simp only [Option.bind_some, ↓reduceIte, gI_I, gI_R, gI_J, gR_I, gR_R, gR_J, gL_I, gL_R, gL_J, gN_I, gN_R, gN_J, gJ_I, gJ_R, Int32.reduceLT, Int32.reduceEq, Int32.reduceNe, Int32.reduceToNatClampNeg, Int32.reduceToInt, Int32.reduceNeg, Int.reduceLE, Int.reduceLT, Int.reduceNeg, Int.reduceEq,  Nat.reduceLT, Nat.reduceLeDiff, Nat.reduceEqDiff, Nat.reduceAdd, Nat.reduceMul, false_or, or_false, true_and, and_true, false_and, and_false, not_false_eq_true, not_true_eq_false, or_self, and_self, true_or, or_true, js]) r
theorem p2_touch : so_touch p2_I 20000 := by
  intro x
  refine Sm.so ?_
  intro σ ρ r
  obtain ⟨r1, r2, r3, r4, r5, r6, r7, r8, ⟨m1, m2, m3, m4⟩, r10⟩ := r.1
  have e0 : (0 : Int32).toInt = 0 := rfl
  have e9 : (9 : Int32).toInt = 9 := rfl
  by_cases g : 0 ≤ x.toInt ∧ x.toInt ≤ 9
  · by_cases g2 : x = sg_I ρ 344 27
    · refine ⟨(0, σ), (0, ρ), ?_, ?_, rfl, r, FC.rf, FR.rf⟩
      · unfold f_X11_touch
        simp only [i_lt, e0, e9]
        rw [if_neg (by omega), if_neg (by omega), if_pos (g2.trans m1.symm)]
      · unfold f_X12_touch
        simp only [Option.bind_some, ↓reduceIte, gI_I, gI_R, gI_J, gR_I, gR_R, gR_J, gL_I, gL_R, gL_J, gN_I, gN_R, gN_J, gJ_I, gJ_R, Int32.reduceLT, Int32.reduceEq, Int32.reduceNe, Int32.reduceToNatClampNeg, Int32.reduceToInt, Int32.reduceNeg, Int.reduceLE, Int.reduceLT, Int.reduceNeg, Int.reduceEq,  Nat.reduceLT, Nat.reduceLeDiff, Nat.reduceEqDiff, Nat.reduceAdd, Nat.reduceMul, false_or, or_false, true_and, and_true, false_and, and_false, not_false_eq_true, not_true_eq_false, or_self, and_self, true_or, or_true, in_v, g]
        rw [if_pos g2]
    · refine ⟨(1, put_I σ 0 11 x), (1, put_I ρ 344 27 x), ?_, ?_, rfl, ⟨?_, r.2⟩, FC.put (by omega), FR.put (by omega)⟩
      · unfold f_X11_touch
        simp only [i_lt, e0, e9]
        rw [if_neg (by omega), if_neg (by omega), if_neg (fun h => g2 (h.trans m1))]
      · unfold f_X12_touch
        simp only [Option.bind_some, ↓reduceIte, gI_I, gI_R, gI_J, gR_I, gR_R, gR_J, gL_I, gL_R, gL_J, gN_I, gN_R, gN_J, gJ_I, gJ_R, Int32.reduceLT, Int32.reduceEq, Int32.reduceNe, Int32.reduceToNatClampNeg, Int32.reduceToInt, Int32.reduceNeg, Int.reduceLE, Int.reduceLT, Int.reduceNeg, Int.reduceEq,  Nat.reduceLT, Nat.reduceLeDiff, Nat.reduceEqDiff, Nat.reduceAdd, Nat.reduceMul, false_or, or_false, true_and, and_true, false_and, and_false, not_false_eq_true, not_true_eq_false, or_self, and_self, true_or, or_true, in_v, g]
        rw [if_neg g2]
      · exact rl_x r.1 (tp_q rfl rfl rfl rfl r3) (st_q rfl rfl (fun a ha => gI_a (by omega)) rfl rfl rfl r4) (la_q rfl rfl (fun a ha => gI_a (by omega)) rfl rfl (fun a ha => gI_a (by omega)) r5) (sw_q (fun a j h1 h2 => gI_n (by omega)) rfl (fun a ha => gI_a (by omega)) (fun j hj => gI_n (by omega)) (fun j _ => rfl) r7) (ba_q (fun a h1 h2 => gI_n (by omega)) r8) ⟨rfl, g.1, g.2, m4⟩ (no_q rfl rfl rfl rfl rfl rfl rfl rfl r10)
  · refine ⟨(0, σ), (0, ρ), ?_, ?_, rfl, r, FC.rf, FR.rf⟩
    · unfold f_X11_touch
      simp only [i_lt, e0, e9]
      by_cases g1 : x.toInt < 0
      · rw [if_pos g1]
      · rw [if_neg g1, if_pos (by omega)]
    · unfold f_X12_touch
      simp only [Option.bind_some, ↓reduceIte, gI_I, gI_R, gI_J, gR_I, gR_R, gR_J, gL_I, gL_R, gL_J, gN_I, gN_R, gN_J, gJ_I, gJ_R, Int32.reduceLT, Int32.reduceEq, Int32.reduceNe, Int32.reduceToNatClampNeg, Int32.reduceToInt, Int32.reduceNeg, Int.reduceLE, Int.reduceLT, Int.reduceNeg, Int.reduceEq,  Nat.reduceLT, Nat.reduceLeDiff, Nat.reduceEqDiff, Nat.reduceAdd, Nat.reduceMul, false_or, or_false, true_and, and_true, false_and, and_false, not_false_eq_true, not_true_eq_false, or_self, and_self, true_or, or_true, in_v, g]
theorem p2_law : so_law p2_I 20000 := by
  intro x
  refine Sm.so ?_
  intro σ ρ r
  obtain ⟨r1, r2, r3, r4, ⟨m, m1, m2, m3, m4, m5, m6, m7⟩, r6, r7, r8, r9, r10⟩ := r.1
  have em : (-1 : Int32).toInt = -1 := rfl
  have eo := o_ti (show m < 2147483648 by omega)
  by_cases g : -1 ≤ x.toInt ∧ x.toInt < m
  · refine ⟨(1, put_I σ 0 7 x), (1, put_I ρ 344 26 x), ?_, ?_, rfl, ⟨?_, r.2⟩, FC.put (by omega), FR.put (by omega)⟩
    · unfold f_X11_law
      simp only [m2, i_lt, em, eo]
      rw [if_neg (by omega), if_pos (by omega)]
    · unfold f_X12_law
      rw [in_v, m3, o_p (by omega), em, if_pos (by omega)]
      simp only [Option.bind_some, ↓reduceIte, gI_I, gI_R, gI_J, gR_I, gR_R, gR_J, gL_I, gL_R, gL_J, gN_I, gN_R, gN_J, gJ_I, gJ_R, Int32.reduceLT, Int32.reduceEq, Int32.reduceNe, Int32.reduceToNatClampNeg, Int32.reduceToInt, Int32.reduceNeg, Int.reduceLE, Int.reduceLT, Int.reduceNeg, Int.reduceEq,  Nat.reduceLT, Nat.reduceLeDiff, Nat.reduceEqDiff, Nat.reduceAdd, Nat.reduceMul, false_or, or_false, true_and, and_true, false_and, and_false, not_false_eq_true, not_true_eq_false, or_self, and_self, true_or, or_true]
    · exact rl_x r.1 (tp_q rfl rfl rfl rfl r3) (st_q rfl rfl (fun a ha => gI_a (by omega)) rfl rfl rfl r4) ⟨m, m1, m2, m3, rfl, g.1, g.2, fun i hi => by
          obtain ⟨b, K, b1, b2, b3, b4⟩ := m7 i hi
          refine ⟨b, K, b1, b2, b3, ?_⟩
          unfold lw_1
          rw [gI_a (show b + 1 ≠ 0 by omega), gI_a (show 346 ≠ 344 by decide), gI_a (show 347 ≠ 344 by decide), gI_a (show 349 ≠ 344 by decide), gI_a (show 350 ≠ 344 by decide), gI_a (show 351 ≠ 344 by decide), gI_a (show 352 ≠ 344 by decide)]
          exact b4⟩ (sw_q (fun a j h1 h2 => gI_n (by omega)) rfl (fun a ha => gI_a (by omega)) (fun j hj => gI_n (by omega)) (fun j _ => rfl) r7) (ba_q (fun a h1 h2 => gI_n (by omega)) r8) (mi_q rfl rfl rfl rfl r9) (no_q rfl rfl rfl rfl rfl rfl rfl rfl r10)
  · refine ⟨(0, σ), (0, ρ), ?_, ?_, rfl, r, FC.rf, FR.rf⟩
    · unfold f_X11_law
      simp only [m2, i_lt, em, eo]
      by_cases g1 : x.toInt < -1
      · rw [if_pos g1]
      · rw [if_neg g1, if_neg (by omega)]
    · unfold f_X12_law
      rw [in_v, m3, o_p (by omega), em, if_neg (by omega)]
      simp only [Option.bind_some, ↓reduceIte, gI_I, gI_R, gI_J, gR_I, gR_R, gR_J, gL_I, gL_R, gL_J, gN_I, gN_R, gN_J, gJ_I, gJ_R, Int32.reduceLT, Int32.reduceEq, Int32.reduceNe, Int32.reduceToNatClampNeg, Int32.reduceToInt, Int32.reduceNeg, Int.reduceLE, Int.reduceLT, Int.reduceNeg, Int.reduceEq,  Nat.reduceLT, Nat.reduceLeDiff, Nat.reduceEqDiff, Nat.reduceAdd, Nat.reduceMul, false_or, or_false, true_and, and_true, false_and, and_false, not_false_eq_true, not_true_eq_false, or_self, and_self, true_or, or_true]
theorem p2_end : so_end p2_I 20000 := by
  intro x
  refine Sm.so ?_
  intro σ ρ r
  obtain ⟨r1, r2, ⟨t, t1, t2, t3, t4⟩, r4, r5, r6, r7, r8, r9, r10⟩ := r.1
  have e0 : (0 : Int32).toInt = 0 := rfl
  have eo := o_ti (show t < 2147483648 by omega)
  by_cases g : 0 ≤ x.toInt ∧ x.toInt ≤ t
  · refine ⟨(1, put_I σ 0 1 x), (1, put_I ρ 344 2 x), ?_, ?_, rfl, ⟨?_, r.2⟩, FC.put (by omega), FR.put (by omega)⟩
    · unfold f_X11_end
      simp only [t2, i_lt, e0, eo]
      rw [if_neg (by omega), if_neg (by omega)]
    · unfold f_X12_end
      simp only [t3, i_lt, e0, eo]
      rw [if_neg (by omega), if_neg (by omega)]
    · obtain ⟨k, hk, rfl⟩ := x_ob g
      exact rl_x r.1 ⟨k, by omega, rfl, rfl, fun i hi => t4 i (by omega)⟩ (st_q rfl rfl (fun a ha => gI_a (by omega)) rfl rfl rfl r4) (la_q rfl rfl (fun a ha => gI_a (by omega)) rfl rfl (fun a ha => gI_a (by omega)) r5) (sw_q (fun a j h1 h2 => gI_n (by omega)) rfl (fun a ha => gI_a (by omega)) (fun j hj => gI_n (by omega)) (fun j _ => rfl) r7) (ba_q (fun a h1 h2 => gI_n (by omega)) r8) (mi_q rfl rfl rfl rfl r9) (no_q rfl rfl rfl rfl rfl rfl rfl rfl r10)
  · refine ⟨(0, σ), (0, ρ), ?_, ?_, rfl, r, FC.rf, FR.rf⟩
    · unfold f_X11_end
      simp only [t2, i_lt, e0, eo]
      by_cases g1 : x.toInt < 0
      · rw [if_pos g1]
      · rw [if_neg g1, if_pos (by omega)]
    · unfold f_X12_end
      simp only [t3, i_lt, e0, eo]
      by_cases g1 : x.toInt < 0
      · rw [if_pos g1]
      · rw [if_neg g1, if_pos (by omega)]
theorem and1_ (x : Int32) : x &&& 1 = 0 ∨ x &&& 1 = 1 := by
  have e : (x &&& 1).toBitVec = (BitVec.ofBool (x.toBitVec.getLsbD 0)).setWidth 32 := by
    show x.toBitVec &&& 1#32 = _
    exact BitVec.and_one_eq_setWidth_ofBool_getLsbD
  cases h : x.toBitVec.getLsbD 0 with
  | false =>
    left
    apply Int32.toBitVec_inj.mp
    rw [e, h]
    rfl
  | true =>
    right
    apply Int32.toBitVec_inj.mp
    rw [e, h]
    rfl
theorem p2_log : so_log p2_I 20000 := by
  intro x y σ r
  obtain ⟨n, h1, h2, h3, ⟨-, s2, s3, s4, s5, s6, s7, s8⟩, h5⟩ := Rel.nw r
  have c := Rel.cf r
  have d := Rel.rf r
  obtain ⟨e, f1, f2, f3, f4⟩ := s7
  simp only [Nat.zero_add] at f3 f4
  have f2' : e < 2147483648 := by
    have := i_hi (sg_I σ 17 5)
    omega
  have hrc : f_X7_rowCount 17 σ = some (Int32.ofNat (min 60 e)) := by
    unfold f_X7_rowCount
    rw [f1, l_60, min_v (by omega) f2']
    rfl
  have e0 : (0 : Int32).toInt = 0 := rfl
  have e3 : (3 : Int32).toInt = 3 := rfl
  have e4 : (4 : Int32).toInt = 4 := rfl
  have eo := o_ti (show min 60 e < 2147483648 by omega)
  by_cases g : 0 ≤ x.toInt ∧ x.toInt < (min 60 e : Nat)
  · by_cases gy : 0 ≤ y.toInt ∧ y.toInt ≤ 3
    · obtain ⟨i, hi, rfl⟩ := x_lt g
      obtain ⟨w, hw, rfl⟩ := x_ob (B := 3) gy
      refine so_q (sg_I σ 359 (21 + 4 * (min 60 e - 1 - i) + w)) ?_ ?_ r
      · have hrb : f_X7_rowBefore 17 (Int32.ofNat i) σ = some (sg_I σ 19 ((e - 1 - i) % 60)) := by
          unfold f_X7_rowBefore
          rw [f1, l_1, o_sub (by omega), o_sub (by omega), l_60, rd_o (by omega) (by omega), o_ti (by omega)]
          have em : (((e - 1 - i : Nat) : Int) % ((60 : Nat) : Int)).toNat = (e - 1 - i) % 60 := by omega
          rw [em]
          simp only [Option.bind_some, c]
          rw [if_neg (o_in (by omega) (by omega)), o_tn (by omega)]
        unfold f_X11_log
        rw [if_neg (o_nn (by omega))]
        simp only [Option.bind_some, c, hrc]
        rw [if_pos (by rw [o_lt (by omega) (by omega)]; exact hi), if_neg (o_nn (by omega)), if_pos (by rw [l_4, o_lt (by omega) (by omega)]; omega), hrb]
        exact congrArg some (f4 i hi w (by omega))
      · unfold f_X12_log
        simp only [Option.bind_some, ↓reduceIte, gI_I, gI_R, gI_J, gR_I, gR_R, gR_J, gL_I, gL_R, gL_J, gN_I, gN_R, gN_J, gJ_I, gJ_R, Int32.reduceLT, Int32.reduceEq, Int32.reduceNe, Int32.reduceToNatClampNeg, Int32.reduceToInt, Int32.reduceNeg, Int.reduceLE, Int.reduceLT, Int.reduceNeg, Int.reduceEq,  Nat.reduceLT, Nat.reduceLeDiff, Nat.reduceEqDiff, Nat.reduceAdd, Nat.reduceMul, false_or, or_false, true_and, and_true, false_and, and_false, not_false_eq_true, not_true_eq_false, or_self, and_self, true_or, or_true, d, f3, in_v, o_p (show min 60 e < 2147483648 by omega), o_ti (show i < 2147483648 by omega), o_ti (show w < 2147483648 by omega)]
        rw [if_pos (by omega)]
        simp only [Option.bind_some, ↓reduceIte, gI_I, gI_R, gI_J, gR_I, gR_R, gR_J, gL_I, gL_R, gL_J, gN_I, gN_R, gN_J, gJ_I, gJ_R, Int32.reduceLT, Int32.reduceEq, Int32.reduceNe, Int32.reduceToNatClampNeg, Int32.reduceToInt, Int32.reduceNeg, Int.reduceLE, Int.reduceLT, Int.reduceNeg, Int.reduceEq,  Nat.reduceLT, Nat.reduceLeDiff, Nat.reduceEqDiff, Nat.reduceAdd, Nat.reduceMul, false_or, or_false, true_and, and_true, false_and, and_false, not_false_eq_true, not_true_eq_false, or_self, and_self, true_or, or_true]
        rw [if_pos (by omega)]
        simp only [Option.bind_some, ↓reduceIte, gI_I, gI_R, gI_J, gR_I, gR_R, gR_J, gL_I, gL_R, gL_J, gN_I, gN_R, gN_J, gJ_I, gJ_R, Int32.reduceLT, Int32.reduceEq, Int32.reduceNe, Int32.reduceToNatClampNeg, Int32.reduceToInt, Int32.reduceNeg, Int.reduceLE, Int.reduceLT, Int.reduceNeg, Int.reduceEq,  Nat.reduceLT, Nat.reduceLeDiff, Nat.reduceEqDiff, Nat.reduceAdd, Nat.reduceMul, false_or, or_false, true_and, and_true, false_and, and_false, not_false_eq_true, not_true_eq_false, or_self, and_self, true_or, or_true]
        rw [l_1, o_sub (by omega), o_sub (by omega), l_4, o_mul, l_21, o_add, o_add, if_neg (o_in (by omega) (by omega)), o_tn (by omega)]
    · refine so_q (-1) ?_ ?_ r
      · unfold f_X11_log
        simp only [i_lt, Option.bind_some, c, hrc, e0, e4, eo]
        rw [if_neg (by omega), if_pos (by omega)]
        by_cases q : y.toInt < 0
        · rw [if_pos q]
        · rw [if_neg q, if_neg (by omega)]
      · unfold f_X12_log
        simp only [Option.bind_some, ↓reduceIte, gI_I, gI_R, gI_J, gR_I, gR_R, gR_J, gL_I, gL_R, gL_J, gN_I, gN_R, gN_J, gJ_I, gJ_R, Int32.reduceLT, Int32.reduceEq, Int32.reduceNe, Int32.reduceToNatClampNeg, Int32.reduceToInt, Int32.reduceNeg, Int.reduceLE, Int.reduceLT, Int.reduceNeg, Int.reduceEq,  Nat.reduceLT, Nat.reduceLeDiff, Nat.reduceEqDiff, Nat.reduceAdd, Nat.reduceMul, false_or, or_false, true_and, and_true, false_and, and_false, not_false_eq_true, not_true_eq_false, or_self, and_self, true_or, or_true, d, f3, in_v, o_p (show min 60 e < 2147483648 by omega)]
        rw [if_pos (by omega)]
        simp only [Option.bind_some, ↓reduceIte, gI_I, gI_R, gI_J, gR_I, gR_R, gR_J, gL_I, gL_R, gL_J, gN_I, gN_R, gN_J, gJ_I, gJ_R, Int32.reduceLT, Int32.reduceEq, Int32.reduceNe, Int32.reduceToNatClampNeg, Int32.reduceToInt, Int32.reduceNeg, Int.reduceLE, Int.reduceLT, Int.reduceNeg, Int.reduceEq,  Nat.reduceLT, Nat.reduceLeDiff, Nat.reduceEqDiff, Nat.reduceAdd, Nat.reduceMul, false_or, or_false, true_and, and_true, false_and, and_false, not_false_eq_true, not_true_eq_false, or_self, and_self, true_or, or_true]
        rw [if_neg (by omega)]
        simp only [Option.bind_some, ↓reduceIte, gI_I, gI_R, gI_J, gR_I, gR_R, gR_J, gL_I, gL_R, gL_J, gN_I, gN_R, gN_J, gJ_I, gJ_R, Int32.reduceLT, Int32.reduceEq, Int32.reduceNe, Int32.reduceToNatClampNeg, Int32.reduceToInt, Int32.reduceNeg, Int.reduceLE, Int.reduceLT, Int.reduceNeg, Int.reduceEq,  Nat.reduceLT, Nat.reduceLeDiff, Nat.reduceEqDiff, Nat.reduceAdd, Nat.reduceMul, false_or, or_false, true_and, and_true, false_and, and_false, not_false_eq_true, not_true_eq_false, or_self, and_self, true_or, or_true]
  · refine so_q (-1) ?_ ?_ r
    · unfold f_X11_log
      simp only [i_lt, Option.bind_some, c, hrc, e0, e4, eo]
      by_cases q : x.toInt < 0
      · rw [if_pos q]
      · rw [if_neg q, if_neg (by omega)]
    · unfold f_X12_log
      simp only [Option.bind_some, ↓reduceIte, gI_I, gI_R, gI_J, gR_I, gR_R, gR_J, gL_I, gL_R, gL_J, gN_I, gN_R, gN_J, gJ_I, gJ_R, Int32.reduceLT, Int32.reduceEq, Int32.reduceNe, Int32.reduceToNatClampNeg, Int32.reduceToInt, Int32.reduceNeg, Int.reduceLE, Int.reduceLT, Int.reduceNeg, Int.reduceEq,  Nat.reduceLT, Nat.reduceLeDiff, Nat.reduceEqDiff, Nat.reduceAdd, Nat.reduceMul, false_or, or_false, true_and, and_true, false_and, and_false, not_false_eq_true, not_true_eq_false, or_self, and_self, true_or, or_true, d, f3, in_v, o_p (show min 60 e < 2147483648 by omega)]
      rw [if_neg (by omega)]
      simp only [Option.bind_some, ↓reduceIte, gI_I, gI_R, gI_J, gR_I, gR_R, gR_J, gL_I, gL_R, gL_J, gN_I, gN_R, gN_J, gJ_I, gJ_R, Int32.reduceLT, Int32.reduceEq, Int32.reduceNe, Int32.reduceToNatClampNeg, Int32.reduceToInt, Int32.reduceNeg, Int.reduceLE, Int.reduceLT, Int.reduceNeg, Int.reduceEq,  Nat.reduceLT, Nat.reduceLeDiff, Nat.reduceEqDiff, Nat.reduceAdd, Nat.reduceMul, false_or, or_false, true_and, and_true, false_and, and_false, not_false_eq_true, not_true_eq_false, or_self, and_self, true_or, or_true]
theorem p2_noted : so_noted p2_I 20000 := by
  intro x y z
  refine Sm.so ?_
  intro σ ρ r
  obtain ⟨r1, r2, r3, r4, r5, r6, r7, r8, r9, ⟨q, q1, q2, q3, q4⟩⟩ := r.1
  have c := Rel.cf r
  have d := Rel.rf r
  have e0 : (0 : Int32).toInt = 0 := rfl
  have e99 : (99 : Int32).toInt = 99 := rfl
  have e26 : (26 : Int32).toInt = 26 := rfl
  by_cases gx : 0 ≤ x.toInt ∧ x.toInt ≤ 99
  · by_cases gy : 0 ≤ y.toInt ∧ y.toInt ≤ 26
    · by_cases gq : q = 10
      · subst gq
        refine ⟨(-1, σ), (-1, ρ), ?_, ?_, rfl, r, FC.rf, FR.rf⟩
        · unfold f_X11_noted f_X4_add
          simp only [i_lt, Option.bind_some, c, e0, e99, e26, q2, l_10]
          rw [if_neg (by omega), if_neg (by omega), if_neg (by omega), if_neg (by omega), if_neg (by omega)]
          rfl
        · unfold f_X12_noted
          simp only [Option.bind_some, ↓reduceIte, gI_I, gI_R, gI_J, gR_I, gR_R, gR_J, gL_I, gL_R, gL_J, gN_I, gN_R, gN_J, gJ_I, gJ_R, Int32.reduceLT, Int32.reduceEq, Int32.reduceNe, Int32.reduceToNatClampNeg, Int32.reduceToInt, Int32.reduceNeg, Int.reduceLE, Int.reduceLT, Int.reduceNeg, Int.reduceEq,  Nat.reduceLT, Nat.reduceLeDiff, Nat.reduceEqDiff, Nat.reduceAdd, Nat.reduceMul, false_or, or_false, true_and, and_true, false_and, and_false, not_false_eq_true, not_true_eq_false, or_self, and_self, true_or, or_true, in_v, gx, gy, q3, l_10]
      · have hq : ¬ (Int32.ofNat q < 0 ∨ 10 ≤ (Int32.ofNat q).toNatClampNeg) := o_in (by omega) (by omega)
        have hn : (Int32.ofNat q).toNatClampNeg = q := o_tn (by omega)
        refine ⟨(Int32.ofNat (q + 1), put_I (put_I (put_I (put_I σ 314 q x) 315 q y) 316 q (z &&& 1)) 313 3 (Int32.ofNat (q + 1))), (Int32.ofNat (q + 1), put_I (put_I (put_I (put_I ρ 365 q x) 366 q y) 367 q (z &&& 1)) 344 37 (Int32.ofNat (q + 1))), ?_, ?_, rfl, ⟨?_, r.2⟩, (((FC.put (by omega)).tr (FC.put (by omega))).tr (FC.put (by omega))).tr (FC.put (by omega)), (((FR.put (by omega)).tr (FR.put (by omega))).tr (FR.put (by omega))).tr (FR.put (by omega))⟩
        · unfold f_X11_noted
          simp only [i_lt, e0, e99, e26]
          rw [if_neg (by omega), if_neg (by omega), if_neg (by omega), if_neg (by omega)]
          unfold f_X4_add
          simp only [Option.bind_some, ↓reduceIte, gI_I, gI_R, gI_J, gR_I, gR_R, gR_J, gL_I, gL_R, gL_J, gN_I, gN_R, gN_J, gJ_I, gJ_R, Int32.reduceLT, Int32.reduceEq, Int32.reduceNe, Int32.reduceToNatClampNeg, Int32.reduceToInt, Int32.reduceNeg, Int.reduceLE, Int.reduceLT, Int.reduceNeg, Int.reduceEq,  Nat.reduceLT, Nat.reduceLeDiff, Nat.reduceEqDiff, Nat.reduceAdd, Nat.reduceMul, false_or, or_false, true_and, and_true, false_and, and_false, not_false_eq_true, not_true_eq_false, or_self, and_self, true_or, or_true, c, q2, hq, hn]
          rw [if_pos (by rw [l_10, o_lt (by omega) (by omega)]; omega), o_s]
        · unfold f_X12_noted
          simp only [Option.bind_some, ↓reduceIte, gI_I, gI_R, gI_J, gR_I, gR_R, gR_J, gL_I, gL_R, gL_J, gN_I, gN_R, gN_J, gJ_I, gJ_R, Int32.reduceLT, Int32.reduceEq, Int32.reduceNe, Int32.reduceToNatClampNeg, Int32.reduceToInt, Int32.reduceNeg, Int.reduceLE, Int.reduceLT, Int.reduceNeg, Int.reduceEq,  Nat.reduceLT, Nat.reduceLeDiff, Nat.reduceEqDiff, Nat.reduceAdd, Nat.reduceMul, false_or, or_false, true_and, and_true, false_and, and_false, not_false_eq_true, not_true_eq_false, or_self, and_self, true_or, or_true, in_v, gx, gy, d, q3, hq, hn]
          rw [if_neg (by rw [l_10, o_eq (by omega) (by omega)]; exact gq), o_s]
        · refine rl_x r.1 (tp_q rfl rfl rfl rfl r3) (st_q rfl rfl (fun a ha => ?_) rfl rfl rfl r4) (la_q rfl rfl (fun a ha => ?_) rfl rfl (fun a ha => ?_) r5) (sw_q (fun a j h1 h2 => ?_) rfl (fun a ha => ?_) (fun j hj => ?_) (fun j _ => rfl) r7) (ba_q (fun a h1 h2 => ?_) r8) (mi_q rfl rfl rfl rfl r9) ⟨q + 1, by omega, rfl, rfl, fun i hi => ?_⟩
          · rw [gI_a (by omega), gI_a (by omega), gI_a (by omega), gI_a (by omega)]
          · rw [gI_a (by omega), gI_a (by omega), gI_a (by omega), gI_a (by omega)]
          · rw [gI_a (by omega), gI_a (by omega), gI_a (by omega), gI_a (by omega)]
          · rw [gI_a (by omega), gI_a (by omega), gI_a (by omega), gI_a (by omega)]
          · rw [gI_a (by omega), gI_a (by omega), gI_a (by omega), gI_a (by omega)]
          · rw [gI_n (by omega), gI_n (by omega), gI_n (by omega), gI_n (by omega)]
          · rw [gI_n (by omega), gI_n (by omega), gI_n (by omega), gI_n (by omega)]
          · by_cases hi2 : i = q
            · subst hi2
              simp only [Option.bind_some, ↓reduceIte, gI_I, gI_R, gI_J, gR_I, gR_R, gR_J, gL_I, gL_R, gL_J, gN_I, gN_R, gN_J, gJ_I, gJ_R, Int32.reduceLT, Int32.reduceEq, Int32.reduceNe, Int32.reduceToNatClampNeg, Int32.reduceToInt, Int32.reduceNeg, Int.reduceLE, Int.reduceLT, Int.reduceNeg, Int.reduceEq,  Nat.reduceLT, Nat.reduceLeDiff, Nat.reduceEqDiff, Nat.reduceAdd, Nat.reduceMul, false_or, or_false, true_and, and_true, false_and, and_false, not_false_eq_true, not_true_eq_false, or_self, and_self, true_or, or_true]
              exact ⟨gx.1, gx.2, gy.1, gy.2, and1_ z⟩
            · have q5 := q4 i (by omega)
              simp only [Option.bind_some, ↓reduceIte, gI_I, gI_R, gI_J, gR_I, gR_R, gR_J, gL_I, gL_R, gL_J, gN_I, gN_R, gN_J, gJ_I, gJ_R, Int32.reduceLT, Int32.reduceEq, Int32.reduceNe, Int32.reduceToNatClampNeg, Int32.reduceToInt, Int32.reduceNeg, Int.reduceLE, Int.reduceLT, Int.reduceNeg, Int.reduceEq,  Nat.reduceLT, Nat.reduceLeDiff, Nat.reduceEqDiff, Nat.reduceAdd, Nat.reduceMul, false_or, or_false, true_and, and_true, false_and, and_false, not_false_eq_true, not_true_eq_false, or_self, and_self, true_or, or_true, hi2]
              exact q5
    · refine ⟨(-1, σ), (-1, ρ), ?_, ?_, rfl, r, FC.rf, FR.rf⟩
      · unfold f_X11_noted
        simp only [i_lt, e0, e99, e26]
        rw [if_neg (by omega), if_neg (by omega)]
        by_cases g1 : y.toInt < 0
        · rw [if_pos g1]
        · rw [if_neg g1, if_pos (by omega)]
      · unfold f_X12_noted
        simp only [Option.bind_some, ↓reduceIte, gI_I, gI_R, gI_J, gR_I, gR_R, gR_J, gL_I, gL_R, gL_J, gN_I, gN_R, gN_J, gJ_I, gJ_R, Int32.reduceLT, Int32.reduceEq, Int32.reduceNe, Int32.reduceToNatClampNeg, Int32.reduceToInt, Int32.reduceNeg, Int.reduceLE, Int.reduceLT, Int.reduceNeg, Int.reduceEq,  Nat.reduceLT, Nat.reduceLeDiff, Nat.reduceEqDiff, Nat.reduceAdd, Nat.reduceMul, false_or, or_false, true_and, and_true, false_and, and_false, not_false_eq_true, not_true_eq_false, or_self, and_self, true_or, or_true, in_v, gx, gy]
  · refine ⟨(-1, σ), (-1, ρ), ?_, ?_, rfl, r, FC.rf, FR.rf⟩
    · unfold f_X11_noted
      simp only [i_lt, e0, e99, e26]
      by_cases g1 : x.toInt < 0
      · rw [if_pos g1]
      · rw [if_neg g1, if_pos (by omega)]
    · unfold f_X12_noted
      simp only [Option.bind_some, ↓reduceIte, gI_I, gI_R, gI_J, gR_I, gR_R, gR_J, gL_I, gL_R, gL_J, gN_I, gN_R, gN_J, gJ_I, gJ_R, Int32.reduceLT, Int32.reduceEq, Int32.reduceNe, Int32.reduceToNatClampNeg, Int32.reduceToInt, Int32.reduceNeg, Int.reduceLE, Int.reduceLT, Int.reduceNeg, Int.reduceEq,  Nat.reduceLT, Nat.reduceLeDiff, Nat.reduceEqDiff, Nat.reduceAdd, Nat.reduceMul, false_or, or_false, true_and, and_true, false_and, and_false, not_false_eq_true, not_true_eq_false, or_self, and_self, true_or, or_true, in_v, gx]
