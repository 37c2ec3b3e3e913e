/-! the tie's pieces, the old tie said first -/
theorem tp_d {g h g' h' : Nat → Nat → Int32} (d : tp_ g h) (E1 : g' 0 1 = g 0 1) (E2 : g' 1 = g 1) (F1 : h' 344 2 = h 344 2) (F2 : h' 345 = h 345) : tp_ g' h' := tp_q E1 E2 F1 F2 d
theorem st_d {R : Nat → Nat → Option Nat} {L : Nat → Nat} {g h g' h' : Nat → Nat → Int32} {N : Nat} (d : st_ R L g h N) (E1 : g' 0 9 = g 0 9) (E2 : g' 15 0 = g 15 0) (E3 : ∀ a, 371 ≤ a → g' a = g a) (F1 : h' 344 23 = h 344 23) (F2 : h' 357 = h 357) (F3 : h' 358 = h 358) : st_ R L g' h' N := st_q E1 E2 E3 F1 F2 F3 d
theorem la_d {R : Nat → Nat → Option Nat} {L : Nat → Nat} {g h g' h' : Nat → Nat → Int32} {N : Nat} (d : la_ R L g h N) (E1 : g' 0 6 = g 0 6) (E2 : g' 0 7 = g 0 7) (E3 : ∀ a, 371 ≤ a → g' a = g a) (F1 : h' 344 13 = h 344 13) (F2 : h' 344 26 = h 344 26) (F3 : ∀ a, a = 346 ∨ a = 347 ∨ a = 349 ∨ a = 350 ∨ a = 351 ∨ a = 352 → h' a = h a) : la_ R L g' h' N := la_q E1 E2 E3 F1 F2 F3 d
theorem ba_d {g g' : Nat → Nat → Int32} (d : ba_ g) (E : ∀ a, 17 ≤ a → a < 313 → g' a 1 = g a 1) : ba_ g' := ba_q E d
theorem mi_d {g h g' h' : Nat → Nat → Int32} (d : mi_ g h) (E1 : g' 0 11 = g 0 11) (E2 : g' 16 = g 16) (F1 : h' 344 27 = h 344 27) (F2 : h' 360 = h 360) : mi_ g' h' := mi_q E1 E2 F1 F2 d
theorem no_d {g h g' h' : Nat → Nat → Int32} (d : no_ g h) (E1 : g' 313 3 = g 313 3) (E2 : g' 314 = g 314) (E3 : g' 315 = g 315) (E4 : g' 316 = g 316) (F1 : h' 344 37 = h 344 37) (F2 : h' 365 = h 365) (F3 : h' 366 = h 366) (F4 : h' 367 = h 367) : no_ g' h' := no_q E1 E2 E3 E4 F1 F2 F3 F4 d
theorem sw_d {g h g' h' : Nat → Nat → Int32} (d : sw_ g h) (E : ∀ a j, 17 ≤ a → a < 313 → g' a j = g a j) (E1 : g' 0 16 = g 0 16) (F : ∀ a, a = 359 ∨ a = 361 ∨ a = 369 → h' a = h a) (F1 : ∀ j, j = 20 ∨ j = 23 ∨ j = 29 ∨ j = 40 → h' 344 j = h 344 j) (F2 : ∀ j : Nat, (j : Int) < (h 344 23).toInt → h' 358 j = h 358 j) : sw_ g' h' := sw_q E E1 F F1 F2 d
/-! ===== plain answers ===== -/
theorem in_v (x a b : Int32) : f_X12_in x a b = some (if a.toInt ≤ x.toInt ∧ x.toInt ≤ b.toInt then 1 else 0) := by
  unfold f_X12_in
  simp only [i_lt]
  by_cases h1 : x.toInt < a.toInt
  · rw [if_pos h1, if_neg (by omega)]
  · rw [if_neg h1]
    by_cases h2 : b.toInt < x.toInt
    · rw [if_pos h2, if_neg (by omega)]
    · rw [if_neg h2, if_pos (by omega)]
theorem in_p {x a b : Int32} (h : a.toInt ≤ x.toInt ∧ x.toInt ≤ b.toInt) : f_X12_in x a b = some 1 := by rw [in_v, if_pos h]
theorem in_m {x a b : Int32} (h : ¬ (a.toInt ≤ x.toInt ∧ x.toInt ≤ b.toInt)) : f_X12_in x a b = some 0 := by rw [in_v, if_neg h]
theorem o_p {n : Nat} (h : n < 2147483648) : (Int32.ofNat n - 1).toInt = (n : Int) - 1 := by
  have e : (1 : Int32).toInt = 1 := rfl
  have := o_ti h
  rw [i_sub (by omega) (by omega), e, this]
theorem x_ob {x : Int32} {B : Nat} (h : 0 ≤ x.toInt ∧ x.toInt ≤ B) : ∃ n : Nat, n ≤ B ∧ x = Int32.ofNat n := ⟨x.toInt.toNat, by omega, x_of h.1⟩
theorem x_lt {x : Int32} {B : Nat} (h : 0 ≤ x.toInt ∧ x.toInt < B) : ∃ n : Nat, n < B ∧ x = Int32.ofNat n := ⟨x.toInt.toNat, by omega, x_of h.1⟩
theorem min_v {a b : Nat} (ha : a < 2147483648) (hb : b < 2147483648) : f_J9_min_7cf53 (Int32.ofNat a) (Int32.ofNat b) = some (Int32.ofNat (min a b)) := by
  unfold f_J9_min_7cf53
  simp only [o_lt hb ha]
  by_cases h : b < a
  · rw [if_pos h, Nat.min_eq_right (by omega)]
  · rw [if_neg h, Nat.min_eq_left (by omega)]
theorem md_o {a b : Nat} (hb : 0 < b) (hb2 : b < 2147483648) (ha : a < 2147483648) : md_ (Int32.ofNat a) (Int32.ofNat b) = Int32.ofNat (a % b) := by
  have h1 := o_ti ha
  have h2 := o_ti hb2
  have h3 := Nat.mod_lt a hb
  rw [i_eq, md_ti (by omega), h1, h2, o_ti (by omega)]
  exact (Int.natCast_emod a b).symm
theorem md_x {x : Int32} {b : Nat} (hb : 0 < b) (hb2 : b < 2147483648) : md_ x (Int32.ofNat b) = Int32.ofNat (x.toInt % b).toNat := by
  have h2 := o_ti hb2
  have h3 := Int.emod_nonneg x.toInt (show (b : Int) ≠ 0 by omega)
  have h4 := Int.emod_lt_of_pos x.toInt (show (0 : Int) < b by omega)
  rw [i_eq, md_ti (by omega), h2, o_ti (by omega)]
  omega
theorem rd_o {x : Int32} {b : Nat} (hb : 0 < b) (hb2 : b < 2147483648) : f_X11_round x (Int32.ofNat b) = some (Int32.ofNat (x.toInt % b).toNat) := by
  rw [rd_c (by rw [o_ti hb2]; omega), md_x hb hb2]
theorem rd_p {x : Int32} {b : Nat} (hb : 0 < b) (hb2 : b ≤ 1000000) : f_X12_round x (Int32.ofNat b) = some (Int32.ofNat (x.toInt % b).toNat) := by
  rw [rd_r (by rw [o_ti (by omega)]; omega) (by rw [o_ti (by omega)]; omega), md_x hb (by omega)]
theorem Rel.cf {σ ρ : Sg} (r : Rel σ ρ) : CF (sg_R σ) (sg_L σ) := cs_f r.1.1
theorem Rel.rf {σ ρ : Sg} (r : Rel σ ρ) : RF (sg_R ρ) (sg_L ρ) := rs_f r.2
theorem Rel.w18 {σ ρ : Sg} (r : Rel σ ρ) : ∀ w, w < 4 → sg_R σ 18 w = some (20 + w) := r.1.1.2.2.1.2.2.1
theorem Rel.nw {σ ρ : Sg} (r : Rel σ ρ) : ∃ n : Nat, n ≤ 4 ∧ sg_I ρ 344 20 = Int32.ofNat n ∧ sg_I σ 17 1 = Int32.ofNat n ∧ sc_ (sg_I σ) (sg_I ρ) 17 359 0 n ∧ (0 < n → bd_ (sg_I ρ) 359 0 n) := by
  obtain ⟨n, h1, h2, h3, -⟩ := r.1.2.2.2.2.2.2.1
  exact ⟨n, h1, h2, h3.1, h3, h3.2.2.2.2.2.2.2⟩
/-- how many strips there are; how long the strip r is; its pictures -/
def hS (h : Nat → Nat → Int32) : Nat := (h 344 23).toInt.toNat
def hL (h : Nat → Nat → Int32) (r : Nat) : Nat := if r < hS h then (h 358 r).toInt.toNat else 1
def hP (h : Nat → Nat → Int32) (r i : Nat) : Int32 := if r < hS h then h 357 (16 * r + i) else 26
theorem Rel.hs {σ ρ : Sg} (r : Rel σ ρ) : hS (sg_I ρ) ≤ 6 ∧ sg_I σ 0 9 = Int32.ofNat (hS (sg_I ρ)) ∧ sg_I ρ 344 23 = Int32.ofNat (hS (sg_I ρ)) := by
  obtain ⟨k, h1, h2, h3, -⟩ := r.1.2.2.2.1
  have e : hS (sg_I ρ) = k := by
    unfold hS
    rw [h3, o_ti (by omega)]
    omega
  rw [e]
  exact ⟨h1, h2, h3⟩
theorem Rel.sp {σ ρ : Sg} (r : Rel σ ρ) (q : Nat) : ∃ b c, (sg_R σ b 0 = some c ∧ sg_L σ c = hL (sg_I ρ) q ∧ 1 ≤ hL (sg_I ρ) q ∧ hL (sg_I ρ) q ≤ 16 ∧ ∀ i, i < hL (sg_I ρ) q → sg_I σ c i = hP (sg_I ρ) q i ∧ 0 ≤ (hP (sg_I ρ) q i).toInt ∧ (hP (sg_I ρ) q i).toInt ≤ 26) ∧ (q < hS (sg_I ρ) → sg_R σ 13 q = some b ∧ 371 ≤ b ∧ sg_I ρ 358 q = Int32.ofNat (hL (sg_I ρ) q)) ∧ (hS (sg_I ρ) ≤ q → b = 14) := by
  obtain ⟨k, h1, h2, h3, h4, h5, h6⟩ := r.1.2.2.2.1
  have c := r.cf
  have e : hS (sg_I ρ) = k := by
    unfold hS
    rw [h3, o_ti (by omega)]
    omega
  by_cases hq : q < k
  · obtain ⟨b, b1, b2, b3, b4, b5, b6, b7, b8⟩ := h4 q hq
    have el : hL (sg_I ρ) q = sg_L σ (b + 1) := by
      unfold hL
      rw [e, if_pos hq, b7, o_ti (by omega)]
      omega
    refine ⟨b, b + 1, ⟨b4, el.symm, by omega, by omega, fun i hi => ?_⟩, fun _ => ⟨b3, b1, by rw [el]; exact b7⟩, fun h => by omega⟩
    unfold hP
    rw [e, if_pos hq]
    exact b8 i (by omega)
  · have el : hL (sg_I ρ) q = 1 := by
      unfold hL
      rw [e, if_neg hq]
    refine ⟨14, 15, ⟨by simp only [c], by rw [el]; simp only [c], by omega, by omega, fun i hi => ?_⟩, fun h => by omega, fun _ => rfl⟩
    unfold hP
    rw [e, if_neg hq]
    have hi : i = 0 := by omega
    subst hi
    exact ⟨h6, by decide, by decide⟩
theorem sa_v {σ : Sg} {b c l : Nat} {f : Nat → Int32} {x : Int32} (h1 : sg_R σ b 0 = some c) (h2 : sg_L σ c = l) (h3 : 1 ≤ l) (h4 : l ≤ 16) (h5 : ∀ i, i < l → sg_I σ c i = f i) : f_X8_shownAt b x σ = some (f (x.toInt % l).toNat) := by
  have h6 := Int.emod_nonneg x.toInt (show (l : Int) ≠ 0 by omega)
  have h7 := Int.emod_lt_of_pos x.toInt (show (0 : Int) < l by omega)
  unfold f_X8_shownAt
  simp only [h1, Option.bind_some, h2]
  rw [if_neg (by rw [l_1, o_lt (by omega) (by omega)]; omega), rd_o (by omega) (by omega)]
  simp only [Option.bind_some]
  rw [if_neg (o_in (by omega) (by omega)), o_tn (by omega), h5 _ (by omega)]
theorem sz_v {σ : Sg} {b c l : Nat} (h1 : sg_R σ b 0 = some c) (h2 : sg_L σ c = l) : f_X8_size b σ = some (Int32.ofNat l) := by
  unfold f_X8_size
  simp only [h1, Option.bind_some, h2]
theorem is_v {σ ρ : Sg} (r : Rel σ ρ) (x : Int32) : f_X11_isStrip 0 x σ = some (if 0 ≤ x.toInt ∧ x.toInt < hS (sg_I ρ) then 1 else 0) := by
  obtain ⟨h1, h2, h3⟩ := r.hs
  have c := r.cf
  have e0 : (0 : Int32).toInt = 0 := rfl
  have e1 := o_ti (show hS (sg_I ρ) < 2147483648 by omega)
  unfold f_X11_isStrip
  simp only [i_lt, e0, h2, e1]
  by_cases g1 : x.toInt < 0
  · rw [if_pos g1, if_neg (by omega)]
  · rw [if_neg g1]
    by_cases g2 : x.toInt < hS (sg_I ρ)
    · obtain ⟨b, d, -, hb, -⟩ := r.sp x.toInt.toNat
      rw [if_pos g2, if_pos (by omega)]
      simp only [c, Option.bind_some]
      rw [if_neg (by rw [i_tn]; omega), i_tn, (hb (by omega)).1]
    · rw [if_neg g2, if_neg (by omega)]
theorem js_v {σ ρ : Sg} (r : Rel σ ρ) (x : Int32) : f_X12_isStrip 344 x ρ = some (if 0 ≤ x.toInt ∧ x.toInt < hS (sg_I ρ) then 1 else 0) := by
  obtain ⟨h1, h2, h3⟩ := r.hs
  have e0 : (0 : Int32).toInt = 0 := rfl
  unfold f_X12_isStrip
  rw [in_v, h3, o_p (by omega), e0]
  simp only [Option.bind_some]
  by_cases g : 0 ≤ x.toInt ∧ x.toInt < hS (sg_I ρ)
  · rw [if_pos g, if_pos (by omega)]
  · rw [if_neg g, if_neg (by omega)]
theorem iw_v {σ : Sg} (c : CF (sg_R σ) (sg_L σ)) {n : Nat} (hn : n ≤ 4) (e : sg_I σ 17 1 = Int32.ofNat n) (x : Int32) : f_X11_isWheel 0 x σ = some (if 0 ≤ x.toInt ∧ x.toInt < n then 1 else 0) := by
  have e0 : (0 : Int32).toInt = 0 := rfl
  have e1 := o_ti (show n < 2147483648 by omega)
  unfold f_X11_isWheel
  simp only [c, Option.bind_some, e, i_lt, e0, e1]
  by_cases g1 : x.toInt < 0
  · rw [if_pos g1, if_neg (by omega)]
  · rw [if_neg g1]
    by_cases g2 : x.toInt < n
    · rw [if_pos g2, if_pos (by omega)]
    · rw [if_neg g2, if_neg (by omega)]
theorem jw_v {ρ : Sg} {n : Nat} (hn : n ≤ 4) (e : sg_I ρ 344 20 = Int32.ofNat n) (x : Int32) : f_X12_isWheel 344 x ρ = some (if 0 ≤ x.toInt ∧ x.toInt < n then 1 else 0) := by
  have e0 : (0 : Int32).toInt = 0 := rfl
  unfold f_X12_isWheel
  rw [in_v, e, o_p (by omega), e0]
  simp only [Option.bind_some]
  by_cases g : 0 ≤ x.toInt ∧ x.toInt < n
  · rw [if_pos g, if_pos (by omega)]
  · rw [if_neg g, if_neg (by omega)]
theorem il_v {σ : Sg} (c : CF (sg_R σ) (sg_L σ)) {n : Nat} (hn : n ≤ 4) (e : sg_I σ 17 1 = Int32.ofNat n) : f_X11_isLit 0 σ = some (if 0 < n then 1 else 0) := by
  unfold f_X11_isLit
  simp only [c, Option.bind_some, e]
  rw [l_0]
  simp only [o_lt (show 0 < 2147483648 by omega) (show n < 2147483648 by omega)]
  by_cases g : 0 < n
  · rw [if_pos g, if_pos g]
  · rw [if_neg g, if_neg g]
/-- the strip of a number, as the class finds it -/
theorem so_v {σ ρ : Sg} (r : Rel σ ρ) {a q : Nat} (hq : q ≤ 100) (e : sg_I σ a 3 = Int32.ofNat q) : ∃ b c, f_X11_stripOf 0 (some a) σ = some (some b) ∧ sg_R σ b 0 = some c ∧ sg_L σ c = hL (sg_I ρ) q ∧ 1 ≤ hL (sg_I ρ) q ∧ hL (sg_I ρ) q ≤ 16 ∧ (∀ i, i < hL (sg_I ρ) q → sg_I σ c i = hP (sg_I ρ) q i ∧ 0 ≤ (hP (sg_I ρ) q i).toInt ∧ (hP (sg_I ρ) q i).toInt ≤ 26) := by
  obtain ⟨b, d, h1, h2, h3⟩ := r.sp q
  obtain ⟨g1, g2, g3⟩ := r.hs
  have c := r.cf
  refine ⟨b, d, ?_, h1⟩
  unfold f_X11_stripOf
  simp only [Option.bind_some, e, is_v r, o_ti (show q < 2147483648 by omega)]
  by_cases hk : q < hS (sg_I ρ)
  · rw [if_pos (show (0 : Int) ≤ q ∧ (q : Int) < hS (sg_I ρ) by omega), if_neg (by decide)]
    simp only [c, Option.bind_some]
    rw [if_neg (o_in (by omega) (by omega)), o_tn (by omega), (h2 hk).1]
  · rw [if_neg (show ¬ ((0 : Int) ≤ q ∧ (q : Int) < hS (sg_I ρ)) by omega), if_pos rfl, h3 (by omega)]
    simp only [c]
theorem sh_v {σ ρ : Sg} (r : Rel σ ρ) {a q p : Nat} (hq : q ≤ 100) (e : sg_I σ a 3 = Int32.ofNat q) (e2 : sg_I σ a 2 = Int32.ofNat p) (hp : p < hL (sg_I ρ) q) : f_X11_shown 0 (some a) σ = some (hP (sg_I ρ) q p) := by
  obtain ⟨b, c, h1, h2, h3, h4, h5, h6⟩ := so_v r hq e
  unfold f_X11_shown
  simp only [h1, Option.bind_some, e2]
  rw [sa_v h2 h3 h4 h5 (fun i hi => (h6 i hi).1), o_ti (by omega), Int.emod_eq_of_lt (by omega) (by omega)]
  rfl
/-! the reference's -/
theorem of_v {ρ : Sg} (c : RF (sg_R ρ) (sg_L ρ)) {w k : Nat} (hw : w < 4) (hk : k < 4) : f_X12_of 344 (Int32.ofNat w) (Int32.ofNat k) ρ = some (sg_I ρ 359 (4 * w + k)) := by
  unfold f_X12_of
  simp only [c, Option.bind_some]
  rw [l_4, o_mul, o_add, if_neg (o_in (by omega) (by omega)), o_tn (by omega)]
theorem sl_v {σ ρ : Sg} (r : Rel σ ρ) {q : Nat} (hq : q ≤ 100) : f_X12_stripLongOf 344 (Int32.ofNat q) ρ = some (Int32.ofNat (hL (sg_I ρ) q)) := by
  obtain ⟨b, d, h1, h2, h3⟩ := r.sp q
  obtain ⟨g1, g2, g3⟩ := r.hs
  have c := r.rf
  unfold f_X12_stripLongOf
  simp only [g3, o_lt (show q < 2147483648 by omega) (show hS (sg_I ρ) < 2147483648 by omega)]
  by_cases hk : q < hS (sg_I ρ)
  · rw [if_pos hk]
    simp only [c, Option.bind_some]
    rw [if_neg (o_in (by omega) (by omega)), o_tn (by omega), (h2 hk).2.2]
  · rw [if_neg hk]
    unfold hL
    rw [if_neg hk]
    rfl
theorem pa_v {σ ρ : Sg} (r : Rel σ ρ) {q p : Nat} (hq : q ≤ 100) (hp : p < 16) : f_X12_pictureAt 344 (Int32.ofNat q) (Int32.ofNat p) ρ = some (hP (sg_I ρ) q p) := by
  obtain ⟨g1, g2, g3⟩ := r.hs
  have c := r.rf
  unfold f_X12_pictureAt
  simp only [g3, o_lt (show q < 2147483648 by omega) (show hS (sg_I ρ) < 2147483648 by omega)]
  unfold hP
  by_cases hk : q < hS (sg_I ρ)
  · rw [if_pos hk, if_pos hk]
    simp only [c, Option.bind_some]
    rw [l_16, o_mul, o_add, if_neg (o_in (by omega) (by omega)), o_tn (by omega)]
  · rw [if_neg hk, if_neg hk]
/-- a wheel's four numbers -/
theorem Rel.wh {σ ρ : Sg} (r : Rel σ ρ) {n w : Nat} (e : sg_I ρ 344 20 = Int32.ofNat n) (hn : n ≤ 4) (hw : w < n) : ∃ v z p q : Nat, v ≤ 9 ∧ z ≤ 1 ∧ q ≤ 5 ∧ p < hL (sg_I ρ) q ∧ p < 16 ∧ sg_I ρ 359 (4 * w) = Int32.ofNat v ∧ sg_I ρ 359 (4 * w + 1) = Int32.ofNat z ∧ sg_I ρ 359 (4 * w + 2) = Int32.ofNat p ∧ sg_I ρ 359 (4 * w + 3) = Int32.ofNat q ∧ sg_I σ (20 + w) 0 = Int32.ofNat v ∧ sg_I σ (20 + w) 1 = Int32.ofNat z ∧ sg_I σ (20 + w) 2 = Int32.ofNat p ∧ sg_I σ (20 + w) 3 = Int32.ofNat q := by
  obtain ⟨m, h1, h2, h3, h4, h5⟩ := r.nw
  have em : m = n := by
    rw [h2] at e
    exact (o_eq (by omega) (by omega)).mp e
  subst em
  obtain ⟨d1, d2, d3, d4, d5⟩ := h5 (by omega)
  obtain ⟨f1, f2, f3, f4⟩ := d5 w hw
  have sc := h4.2.2.2.2.2.1 w hw
  simp only [Nat.zero_add] at f1 f2 f3 f4 sc
  obtain ⟨v, v1, v2⟩ := x_ob (B := 9) f1
  obtain ⟨q, q1, q2⟩ := x_ob (B := 5) f4
  obtain ⟨b, d, ⟨s1, s2, s3, s4, s5⟩, s6, s7⟩ := r.sp q
  obtain ⟨g1, g2, g3⟩ := r.hs
  have el : ln_ (sg_I ρ) (sg_I ρ 359 (4 * w + 3)) = hL (sg_I ρ) q := by
    unfold ln_
    rw [q2, g3, o_ti (by omega), o_ti (by omega), o_tn (by omega)]
    by_cases hk : q < hS (sg_I ρ)
    · rw [if_pos (by omega), (s6 hk).2.2, o_ti (by omega)]
    · rw [if_neg (by omega)]
      unfold hL
      rw [if_neg hk]
      rfl
  rw [el] at f3
  obtain ⟨p, p1, p2⟩ := x_lt (B := hL (sg_I ρ) q) f3
  obtain ⟨z, z1, z2⟩ : ∃ z : Nat, z ≤ 1 ∧ sg_I ρ 359 (4 * w + 1) = Int32.ofNat z := by
    rcases f2 with f2 | f2
    · exact ⟨0, by omega, f2⟩
    · exact ⟨1, by omega, f2⟩
  refine ⟨v, z, p, q, v1, z1, q1, p1, by omega, v2, z2, p2, q2, ?_, ?_, ?_, ?_⟩
  · rw [← v2]; exact sc 0 (by omega)
  · rw [← z2]; exact sc 1 (by omega)
  · rw [← p2]; exact sc 2 (by omega)
  · rw [← q2]; exact sc 3 (by omega)
theorem Rel.gl {σ ρ : Sg} (r : Rel σ ρ) {n : Nat} (e : sg_I ρ 344 20 = Int32.ofNat n) (hn : n ≤ 4) (h0 : 0 < n) : ∃ f o c t : Nat, 1 ≤ f ∧ f ≤ 60 ∧ o ≤ 999 ∧ c ≤ 999 ∧ t ≤ 9999 ∧ sg_I ρ 359 16 = Int32.ofNat f ∧ sg_I ρ 359 17 = Int32.ofNat o ∧ sg_I ρ 359 18 = Int32.ofNat c ∧ sg_I ρ 359 19 = Int32.ofNat t ∧ sg_I σ 17 2 = Int32.ofNat f ∧ sg_I σ 17 3 = Int32.ofNat o ∧ sg_I σ 17 4 = Int32.ofNat c ∧ sg_I σ 17 5 = Int32.ofNat t := by
  obtain ⟨m, h1, h2, h3, h4, h5⟩ := r.nw
  have em : m = n := by
    rw [h2] at e
    exact (o_eq (by omega) (by omega)).mp e
  subst em
  obtain ⟨d1, d2, d3, d4, d5⟩ := h5 (by omega)
  simp only [Nat.zero_add] at d1 d2 d3 d4
  obtain ⟨s1, s2, s3, s4, s5, -⟩ := h4
  simp only [Nat.zero_add] at s2 s3 s4 s5
  obtain ⟨f, f1, f2⟩ := x_ob (B := 60) (x := sg_I ρ 359 16) (by omega)
  obtain ⟨o, o1, o2⟩ := x_ob (B := 999) d2
  obtain ⟨c, c1, c2⟩ := x_ob (B := 999) d3
  obtain ⟨t, t1, t2⟩ := x_ob (B := 9999) d4
  have ff : 1 ≤ f := by
    have := o_ti (show f < 2147483648 by omega)
    rw [f2] at d1
    omega
  exact ⟨f, o, c, t, ff, f1, o1, c1, t1, f2, o2, c2, t2, by rw [s2, f2], by rw [s3, o2], by rw [s4, c2], by rw [s5, t2]⟩
theorem sw_v {σ ρ : Sg} (r : Rel σ ρ) {w q p : Nat} (hw : w < 4) (hq : q ≤ 100) (hp : p < 16) (e3 : sg_I ρ 359 (4 * w + 3) = Int32.ofNat q) (e2 : sg_I ρ 359 (4 * w + 2) = Int32.ofNat p) : f_X12_showsOf 344 (Int32.ofNat w) ρ = some (hP (sg_I ρ) q p) := by
  have c := r.rf
  unfold f_X12_showsOf
  rw [l_3, l_2, of_v c hw (by omega), of_v c hw (by omega)]
  simp only [Option.bind_some, e3, e2]
  rw [pa_v r hq hp]
  rfl
theorem lo_v {σ ρ : Sg} (r : Rel σ ρ) {w q : Nat} (hw : w < 4) (hq : q ≤ 100) (e3 : sg_I ρ 359 (4 * w + 3) = Int32.ofNat q) : f_X12_longOf 344 (Int32.ofNat w) ρ = some (Int32.ofNat (hL (sg_I ρ) q)) := by
  have c := r.rf
  unfold f_X12_longOf
  rw [l_3, of_v c hw (by omega)]
  simp only [Option.bind_some, e3]
  rw [sl_v r hq]
  rfl
/-! ===== the plain calls ===== -/
theorem p2_rule : so_rule p2_I 20000 := by
  intro x σ r
  obtain ⟨n, h1, h2, h3, ⟨-, s2, s3, s4, -⟩, h5⟩ := Rel.nw r
  have c := Rel.cf r
  have d := Rel.rf r
  have il := il_v c h1 h3
  by_cases g : 0 < n
  · rw [if_pos g] at il
    have h0 : (0 : Int32) < sg_I σ 344 20 := by rw [h2, l_0, o_lt (by omega) (by omega)]; exact g
    by_cases x0 : x = 0
    · subst x0
      exact so_q (sg_I σ 359 16) (by unfold f_X11_rule; simp only [Option.bind_some, ↓reduceIte, gI_I, gI_R, gI_J, gR_I, gR_R, gR_J, gL_I, gL_R, gL_J, gN_I, gN_R, gN_J, gJ_I, gJ_R, Int32.reduceLT, e_1_0, Int32.reduceToNatClampNeg, Int32.reduceToInt, Int.reduceLE, Int.reduceLT, Int.reduceNeg, Int.reduceEq,  Nat.reduceLT, Nat.reduceLeDiff, Nat.reduceEqDiff, Nat.reduceAdd, Nat.reduceMul, false_or, or_false, true_and, and_true, false_and, and_false, not_false_eq_true, not_true_eq_false, or_self, and_self, true_or, or_true, e_0_1, e_0_2, e_0_3, e_0_4, e_0_5, e_0_6, e_0_7, e_0_8, e_0_9, e_0_10, e_0_11, e_1_0, e_1_2, e_1_3, e_1_4, e_1_5, e_1_6, e_1_7, e_1_8, e_1_9, e_1_10, e_1_11, e_2_0, e_2_1, e_2_3, e_2_4, e_2_5, e_2_6, e_2_7, e_2_8, e_2_9, e_2_10, e_2_11, e_3_0, e_3_1, e_3_2, e_3_4, e_3_5, e_3_6, e_3_7, e_3_8, e_3_9, e_3_10, e_3_11, e_4_0, e_4_1, e_4_2, e_4_3, e_4_5, e_4_6, e_4_7, e_4_8, e_4_9, e_4_10, e_4_11, e_5_0, e_5_1, e_5_2, e_5_3, e_5_4, e_5_6, e_5_7, e_5_8, e_5_9, e_5_10, e_5_11, e_6_0, e_6_1, e_6_2, e_6_3, e_6_4, e_6_5, e_6_7, e_6_8, e_6_9, e_6_10, e_6_11, e_7_0, e_7_1, e_7_2, e_7_3, e_7_4, e_7_5, e_7_6, e_7_8, e_7_9, e_7_10, e_7_11, e_8_0, e_8_1, e_8_2, e_8_3, e_8_4, e_8_5, e_8_6, e_8_7, e_8_9, e_8_10, e_8_11, e_9_0, e_9_1, e_9_2, e_9_3, e_9_4, e_9_5, e_9_6, e_9_7, e_9_8, e_9_10, e_9_11, e_10_0, e_10_1, e_10_2, e_10_3, e_10_4, e_10_5, e_10_6, e_10_7, e_10_8, e_10_9, e_10_11, e_11_0, e_11_1, e_11_2, e_11_3, e_11_4, e_11_5, e_11_6, e_11_7, e_11_8, e_11_9, e_11_10, e_38_42, e_38_43, e_38_45, e_38_47, e_38_60, e_38_61, e_38_62, e_38_124, e_42_38, e_42_43, e_42_45, e_42_47, e_42_60, e_42_61, e_42_62, e_42_124, e_43_38, e_43_42, e_43_45, e_43_47, e_43_60, e_43_61, e_43_62, e_43_124, e_45_38, e_45_42, e_45_43, e_45_47, e_45_60, e_45_61, e_45_62, e_45_124, e_47_38, e_47_42, e_47_43, e_47_45, e_47_60, e_47_61, e_47_62, e_47_124, e_60_38, e_60_42, e_60_43, e_60_45, e_60_47, e_60_61, e_60_62, e_60_124, e_61_38, e_61_42, e_61_43, e_61_45, e_61_47, e_61_60, e_61_62, e_61_124, e_62_38, e_62_42, e_62_43, e_62_45, e_62_47, e_62_60, e_62_61, e_62_124, e_124_38, e_124_42, e_124_43, e_124_45, e_124_47, e_124_60, e_124_61, e_124_62, il, c, s2]) (by unfold f_X12_rule; simp only [Option.bind_some, ↓reduceIte, gI_I, gI_R, gI_J, gR_I, gR_R, gR_J, gL_I, gL_R, gL_J, gN_I, gN_R, gN_J, gJ_I, gJ_R, Int32.reduceLT, e_1_0, Int32.reduceToNatClampNeg, Int32.reduceToInt, Int.reduceLE, Int.reduceLT, Int.reduceNeg, Int.reduceEq,  Nat.reduceLT, Nat.reduceLeDiff, Nat.reduceEqDiff, Nat.reduceAdd, Nat.reduceMul, false_or, or_false, true_and, and_true, false_and, and_false, not_false_eq_true, not_true_eq_false, or_self, and_self, true_or, or_true, e_0_1, e_0_2, e_0_3, e_0_4, e_0_5, e_0_6, e_0_7, e_0_8, e_0_9, e_0_10, e_0_11, e_1_0, e_1_2, e_1_3, e_1_4, e_1_5, e_1_6, e_1_7, e_1_8, e_1_9, e_1_10, e_1_11, e_2_0, e_2_1, e_2_3, e_2_4, e_2_5, e_2_6, e_2_7, e_2_8, e_2_9, e_2_10, e_2_11, e_3_0, e_3_1, e_3_2, e_3_4, e_3_5, e_3_6, e_3_7, e_3_8, e_3_9, e_3_10, e_3_11, e_4_0, e_4_1, e_4_2, e_4_3, e_4_5, e_4_6, e_4_7, e_4_8, e_4_9, e_4_10, e_4_11, e_5_0, e_5_1, e_5_2, e_5_3, e_5_4, e_5_6, e_5_7, e_5_8, e_5_9, e_5_10, e_5_11, e_6_0, e_6_1, e_6_2, e_6_3, e_6_4, e_6_5, e_6_7, e_6_8, e_6_9, e_6_10, e_6_11, e_7_0, e_7_1, e_7_2, e_7_3, e_7_4, e_7_5, e_7_6, e_7_8, e_7_9, e_7_10, e_7_11, e_8_0, e_8_1, e_8_2, e_8_3, e_8_4, e_8_5, e_8_6, e_8_7, e_8_9, e_8_10, e_8_11, e_9_0, e_9_1, e_9_2, e_9_3, e_9_4, e_9_5, e_9_6, e_9_7, e_9_8, e_9_10, e_9_11, e_10_0, e_10_1, e_10_2, e_10_3, e_10_4, e_10_5, e_10_6, e_10_7, e_10_8, e_10_9, e_10_11, e_11_0, e_11_1, e_11_2, e_11_3, e_11_4, e_11_5, e_11_6, e_11_7, e_11_8, e_11_9, e_11_10, e_38_42, e_38_43, e_38_45, e_38_47, e_38_60, e_38_61, e_38_62, e_38_124, e_42_38, e_42_43, e_42_45, e_42_47, e_42_60, e_42_61, e_42_62, e_42_124, e_43_38, e_43_42, e_43_45, e_43_47, e_43_60, e_43_61, e_43_62, e_43_124, e_45_38, e_45_42, e_45_43, e_45_47, e_45_60, e_45_61, e_45_62, e_45_124, e_47_38, e_47_42, e_47_43, e_47_45, e_47_60, e_47_61, e_47_62, e_47_124, e_60_38, e_60_42, e_60_43, e_60_45, e_60_47, e_60_61, e_60_62, e_60_124, e_61_38, e_61_42, e_61_43, e_61_45, e_61_47, e_61_60, e_61_62, e_61_124, e_62_38, e_62_42, e_62_43, e_62_45, e_62_47, e_62_60, e_62_61, e_62_124, e_124_38, e_124_42, e_124_43, e_124_45, e_124_47, e_124_60, e_124_61, e_124_62, in_v, h0, d, Int32.reduceAdd]) r
    · by_cases x1 : x = 1
      · subst x1
        exact so_q (sg_I σ 359 17) (by unfold f_X11_rule; simp only [Option.bind_some, ↓reduceIte, gI_I, gI_R, gI_J, gR_I, gR_R, gR_J, gL_I, gL_R, gL_J, gN_I, gN_R, gN_J, gJ_I, gJ_R, Int32.reduceLT, e_1_0, Int32.reduceToNatClampNeg, Int32.reduceToInt, Int.reduceLE, Int.reduceLT, Int.reduceNeg, Int.reduceEq,  Nat.reduceLT, Nat.reduceLeDiff, Nat.reduceEqDiff, Nat.reduceAdd, Nat.reduceMul, false_or, or_false, true_and, and_true, false_and, and_false, not_false_eq_true, not_true_eq_false, or_self, and_self, true_or, or_true, e_0_1, e_0_2, e_0_3, e_0_4, e_0_5, e_0_6, e_0_7, e_0_8, e_0_9, e_0_10, e_0_11, e_1_0, e_1_2, e_1_3, e_1_4, e_1_5, e_1_6, e_1_7, e_1_8, e_1_9, e_1_10, e_1_11, e_2_0, e_2_1, e_2_3, e_2_4, e_2_5, e_2_6, e_2_7, e_2_8, e_2_9, e_2_10, e_2_11, e_3_0, e_3_1, e_3_2, e_3_4, e_3_5, e_3_6, e_3_7, e_3_8, e_3_9, e_3_10, e_3_11, e_4_0, e_4_1, e_4_2, e_4_3, e_4_5, e_4_6, e_4_7, e_4_8, e_4_9, e_4_10, e_4_11, e_5_0, e_5_1, e_5_2, e_5_3, e_5_4, e_5_6, e_5_7, e_5_8, e_5_9, e_5_10, e_5_11, e_6_0, e_6_1, e_6_2, e_6_3, e_6_4, e_6_5, e_6_7, e_6_8, e_6_9, e_6_10, e_6_11, e_7_0, e_7_1, e_7_2, e_7_3, e_7_4, e_7_5, e_7_6, e_7_8, e_7_9, e_7_10, e_7_11, e_8_0, e_8_1, e_8_2, e_8_3, e_8_4, e_8_5, e_8_6, e_8_7, e_8_9, e_8_10, e_8_11, e_9_0, e_9_1, e_9_2, e_9_3, e_9_4, e_9_5, e_9_6, e_9_7, e_9_8, e_9_10, e_9_11, e_10_0, e_10_1, e_10_2, e_10_3, e_10_4, e_10_5, e_10_6, e_10_7, e_10_8, e_10_9, e_10_11, e_11_0, e_11_1, e_11_2, e_11_3, e_11_4, e_11_5, e_11_6, e_11_7, e_11_8, e_11_9, e_11_10, e_38_42, e_38_43, e_38_45, e_38_47, e_38_60, e_38_61, e_38_62, e_38_124, e_42_38, e_42_43, e_42_45, e_42_47, e_42_60, e_42_61, e_42_62, e_42_124, e_43_38, e_43_42, e_43_45, e_43_47, e_43_60, e_43_61, e_43_62, e_43_124, e_45_38, e_45_42, e_45_43, e_45_47, e_45_60, e_45_61, e_45_62, e_45_124, e_47_38, e_47_42, e_47_43, e_47_45, e_47_60, e_47_61, e_47_62, e_47_124, e_60_38, e_60_42, e_60_43, e_60_45, e_60_47, e_60_61, e_60_62, e_60_124, e_61_38, e_61_42, e_61_43, e_61_45, e_61_47, e_61_60, e_61_62, e_61_124, e_62_38, e_62_42, e_62_43, e_62_45, e_62_47, e_62_60, e_62_61, e_62_124, e_124_38, e_124_42, e_124_43, e_124_45, e_124_47, e_124_60, e_124_61, e_124_62, il, c, s3]) (by unfold f_X12_rule; simp only [Option.bind_some, ↓reduceIte, gI_I, gI_R, gI_J, gR_I, gR_R, gR_J, gL_I, gL_R, gL_J, gN_I, gN_R, gN_J, gJ_I, gJ_R, Int32.reduceLT, e_1_0, Int32.reduceToNatClampNeg, Int32.reduceToInt, Int.reduceLE, Int.reduceLT, Int.reduceNeg, Int.reduceEq,  Nat.reduceLT, Nat.reduceLeDiff, Nat.reduceEqDiff, Nat.reduceAdd, Nat.reduceMul, false_or, or_false, true_and, and_true, false_and, and_false, not_false_eq_true, not_true_eq_false, or_self, and_self, true_or, or_true, e_0_1, e_0_2, e_0_3, e_0_4, e_0_5, e_0_6, e_0_7, e_0_8, e_0_9, e_0_10, e_0_11, e_1_0, e_1_2, e_1_3, e_1_4, e_1_5, e_1_6, e_1_7, e_1_8, e_1_9, e_1_10, e_1_11, e_2_0, e_2_1, e_2_3, e_2_4, e_2_5, e_2_6, e_2_7, e_2_8, e_2_9, e_2_10, e_2_11, e_3_0, e_3_1, e_3_2, e_3_4, e_3_5, e_3_6, e_3_7, e_3_8, e_3_9, e_3_10, e_3_11, e_4_0, e_4_1, e_4_2, e_4_3, e_4_5, e_4_6, e_4_7, e_4_8, e_4_9, e_4_10, e_4_11, e_5_0, e_5_1, e_5_2, e_5_3, e_5_4, e_5_6, e_5_7, e_5_8, e_5_9, e_5_10, e_5_11, e_6_0, e_6_1, e_6_2, e_6_3, e_6_4, e_6_5, e_6_7, e_6_8, e_6_9, e_6_10, e_6_11, e_7_0, e_7_1, e_7_2, e_7_3, e_7_4, e_7_5, e_7_6, e_7_8, e_7_9, e_7_10, e_7_11, e_8_0, e_8_1, e_8_2, e_8_3, e_8_4, e_8_5, e_8_6, e_8_7, e_8_9, e_8_10, e_8_11, e_9_0, e_9_1, e_9_2, e_9_3, e_9_4, e_9_5, e_9_6, e_9_7, e_9_8, e_9_10, e_9_11, e_10_0, e_10_1, e_10_2, e_10_3, e_10_4, e_10_5, e_10_6, e_10_7, e_10_8, e_10_9, e_10_11, e_11_0, e_11_1, e_11_2, e_11_3, e_11_4, e_11_5, e_11_6, e_11_7, e_11_8, e_11_9, e_11_10, e_38_42, e_38_43, e_38_45, e_38_47, e_38_60, e_38_61, e_38_62, e_38_124, e_42_38, e_42_43, e_42_45, e_42_47, e_42_60, e_42_61, e_42_62, e_42_124, e_43_38, e_43_42, e_43_45, e_43_47, e_43_60, e_43_61, e_43_62, e_43_124, e_45_38, e_45_42, e_45_43, e_45_47, e_45_60, e_45_61, e_45_62, e_45_124, e_47_38, e_47_42, e_47_43, e_47_45, e_47_60, e_47_61, e_47_62, e_47_124, e_60_38, e_60_42, e_60_43, e_60_45, e_60_47, e_60_61, e_60_62, e_60_124, e_61_38, e_61_42, e_61_43, e_61_45, e_61_47, e_61_60, e_61_62, e_61_124, e_62_38, e_62_42, e_62_43, e_62_45, e_62_47, e_62_60, e_62_61, e_62_124, e_124_38, e_124_42, e_124_43, e_124_45, e_124_47, e_124_60, e_124_61, e_124_62, in_v, h0, d, Int32.reduceAdd]) r
      · by_cases x2 : x = 2
        · subst x2
          exact so_q (sg_I σ 359 18) (by unfold f_X11_rule; simp only [Option.bind_some, ↓reduceIte, gI_I, gI_R, gI_J, gR_I, gR_R, gR_J, gL_I, gL_R, gL_J, gN_I, gN_R, gN_J, gJ_I, gJ_R, Int32.reduceLT, e_1_0, Int32.reduceToNatClampNeg, Int32.reduceToInt, Int.reduceLE, Int.reduceLT, Int.reduceNeg, Int.reduceEq,  Nat.reduceLT, Nat.reduceLeDiff, Nat.reduceEqDiff, Nat.reduceAdd, Nat.reduceMul, false_or, or_false, true_and, and_true, false_and, and_false, not_false_eq_true, not_true_eq_false, or_self, and_self, true_or, or_true, e_0_1, e_0_2, e_0_3, e_0_4, e_0_5, e_0_6, e_0_7, e_0_8, e_0_9, e_0_10, e_0_11, e_1_0, e_1_2, e_1_3, e_1_4, e_1_5, e_1_6, e_1_7, e_1_8, e_1_9, e_1_10, e_1_11, e_2_0, e_2_1, e_2_3, e_2_4, e_2_5, e_2_6, e_2_7, e_2_8, e_2_9, e_2_10, e_2_11, e_3_0, e_3_1, e_3_2, e_3_4, e_3_5, e_3_6, e_3_7, e_3_8, e_3_9, e_3_10, e_3_11, e_4_0, e_4_1, e_4_2, e_4_3, e_4_5, e_4_6, e_4_7, e_4_8, e_4_9, e_4_10, e_4_11, e_5_0, e_5_1, e_5_2, e_5_3, e_5_4, e_5_6, e_5_7, e_5_8, e_5_9, e_5_10, e_5_11, e_6_0, e_6_1, e_6_2, e_6_3, e_6_4, e_6_5, e_6_7, e_6_8, e_6_9, e_6_10, e_6_11, e_7_0, e_7_1, e_7_2, e_7_3, e_7_4, e_7_5, e_7_6, e_7_8, e_7_9, e_7_10, e_7_11, e_8_0, e_8_1, e_8_2, e_8_3, e_8_4, e_8_5, e_8_6, e_8_7, e_8_9, e_8_10, e_8_11, e_9_0, e_9_1, e_9_2, e_9_3, e_9_4, e_9_5, e_9_6, e_9_7, e_9_8, e_9_10, e_9_11, e_10_0, e_10_1, e_10_2, e_10_3, e_10_4, e_10_5, e_10_6, e_10_7, e_10_8, e_10_9, e_10_11, e_11_0, e_11_1, e_11_2, e_11_3, e_11_4, e_11_5, e_11_6, e_11_7, e_11_8, e_11_9, e_11_10, e_38_42, e_38_43, e_38_45, e_38_47, e_38_60, e_38_61, e_38_62, e_38_124, e_42_38, e_42_43, e_42_45, e_42_47, e_42_60, e_42_61, e_42_62, e_42_124, e_43_38, e_43_42, e_43_45, e_43_47, e_43_60, e_43_61, e_43_62, e_43_124, e_45_38, e_45_42, e_45_43, e_45_47, e_45_60, e_45_61, e_45_62, e_45_124, e_47_38, e_47_42, e_47_43, e_47_45, e_47_60, e_47_61, e_47_62, e_47_124, e_60_38, e_60_42, e_60_43, e_60_45, e_60_47, e_60_61, e_60_62, e_60_124, e_61_38, e_61_42, e_61_43, e_61_45, e_61_47, e_61_60, e_61_62, e_61_124, e_62_38, e_62_42, e_62_43, e_62_45, e_62_47, e_62_60, e_62_61, e_62_124, e_124_38, e_124_42, e_124_43, e_124_45, e_124_47, e_124_60, e_124_61, e_124_62, il, c, s4]) (by unfold f_X12_rule; simp only [Option.bind_some, ↓reduceIte, gI_I, gI_R, gI_J, gR_I, gR_R, gR_J, gL_I, gL_R, gL_J, gN_I, gN_R, gN_J, gJ_I, gJ_R, Int32.reduceLT, e_1_0, Int32.reduceToNatClampNeg, Int32.reduceToInt, Int.reduceLE, Int.reduceLT, Int.reduceNeg, Int.reduceEq,  Nat.reduceLT, Nat.reduceLeDiff, Nat.reduceEqDiff, Nat.reduceAdd, Nat.reduceMul, false_or, or_false, true_and, and_true, false_and, and_false, not_false_eq_true, not_true_eq_false, or_self, and_self, true_or, or_true, e_0_1, e_0_2, e_0_3, e_0_4, e_0_5, e_0_6, e_0_7, e_0_8, e_0_9, e_0_10, e_0_11, e_1_0, e_1_2, e_1_3, e_1_4, e_1_5, e_1_6, e_1_7, e_1_8, e_1_9, e_1_10, e_1_11, e_2_0, e_2_1, e_2_3, e_2_4, e_2_5, e_2_6, e_2_7, e_2_8, e_2_9, e_2_10, e_2_11, e_3_0, e_3_1, e_3_2, e_3_4, e_3_5, e_3_6, e_3_7, e_3_8, e_3_9, e_3_10, e_3_11, e_4_0, e_4_1, e_4_2, e_4_3, e_4_5, e_4_6, e_4_7, e_4_8, e_4_9, e_4_10, e_4_11, e_5_0, e_5_1, e_5_2, e_5_3, e_5_4, e_5_6, e_5_7, e_5_8, e_5_9, e_5_10, e_5_11, e_6_0, e_6_1, e_6_2, e_6_3, e_6_4, e_6_5, e_6_7, e_6_8, e_6_9, e_6_10, e_6_11, e_7_0, e_7_1, e_7_2, e_7_3, e_7_4, e_7_5, e_7_6, e_7_8, e_7_9, e_7_10, e_7_11, e_8_0, e_8_1, e_8_2, e_8_3, e_8_4, e_8_5, e_8_6, e_8_7, e_8_9, e_8_10, e_8_11, e_9_0, e_9_1, e_9_2, e_9_3, e_9_4, e_9_5, e_9_6, e_9_7, e_9_8, e_9_10, e_9_11, e_10_0, e_10_1, e_10_2, e_10_3, e_10_4, e_10_5, e_10_6, e_10_7, e_10_8, e_10_9, e_10_11, e_11_0, e_11_1, e_11_2, e_11_3, e_11_4, e_11_5, e_11_6, e_11_7, e_11_8, e_11_9, e_11_10, e_38_42, e_38_43, e_38_45, e_38_47, e_38_60, e_38_61, e_38_62, e_38_124, e_42_38, e_42_43, e_42_45, e_42_47, e_42_60, e_42_61, e_42_62, e_42_124, e_43_38, e_43_42, e_43_45, e_43_47, e_43_60, e_43_61, e_43_62, e_43_124, e_45_38, e_45_42, e_45_43, e_45_47, e_45_60, e_45_61, e_45_62, e_45_124, e_47_38, e_47_42, e_47_43, e_47_45, e_47_60, e_47_61, e_47_62, e_47_124, e_60_38, e_60_42, e_60_43, e_60_45, e_60_47, e_60_61, e_60_62, e_60_124, e_61_38, e_61_42, e_61_43, e_61_45, e_61_47, e_61_60, e_61_62, e_61_124, e_62_38, e_62_42, e_62_43, e_62_45, e_62_47, e_62_60, e_62_61, e_62_124, e_124_38, e_124_42, e_124_43, e_124_45, e_124_47, e_124_60, e_124_61, e_124_62, in_v, h0, d, Int32.reduceAdd]) r
        · have hx : ¬ (0 ≤ x.toInt ∧ x.toInt ≤ 2) := by
            have e0 : (0 : Int32).toInt = 0 := rfl
            have e1 : (1 : Int32).toInt = 1 := rfl
            have e2 : (2 : Int32).toInt = 2 := rfl
            have y0 : x.toInt ≠ 0 := fun h => x0 (i_eq.mpr h)
            have y1 : x.toInt ≠ 1 := fun h => x1 (i_eq.mpr h)
            have y2 : x.toInt ≠ 2 := fun h => x2 (i_eq.mpr h)
            omega
          exact so_q (-1) (by unfold f_X11_rule; simp only [Option.bind_some, ↓reduceIte, gI_I, gI_R, gI_J, gR_I, gR_R, gR_J, gL_I, gL_R, gL_J, gN_I, gN_R, gN_J, gJ_I, gJ_R, Int32.reduceLT, e_1_0, Int32.reduceToNatClampNeg, Int32.reduceToInt, Int.reduceLE, Int.reduceLT, Int.reduceNeg, Int.reduceEq,  Nat.reduceLT, Nat.reduceLeDiff, Nat.reduceEqDiff, Nat.reduceAdd, Nat.reduceMul, false_or, or_false, true_and, and_true, false_and, and_false, not_false_eq_true, not_true_eq_false, or_self, and_self, true_or, or_true, e_0_1, e_0_2, e_0_3, e_0_4, e_0_5, e_0_6, e_0_7, e_0_8, e_0_9, e_0_10, e_0_11, e_1_0, e_1_2, e_1_3, e_1_4, e_1_5, e_1_6, e_1_7, e_1_8, e_1_9, e_1_10, e_1_11, e_2_0, e_2_1, e_2_3, e_2_4, e_2_5, e_2_6, e_2_7, e_2_8, e_2_9, e_2_10, e_2_11, e_3_0, e_3_1, e_3_2, e_3_4, e_3_5, e_3_6, e_3_7, e_3_8, e_3_9, e_3_10, e_3_11, e_4_0, e_4_1, e_4_2, e_4_3, e_4_5, e_4_6, e_4_7, e_4_8, e_4_9, e_4_10, e_4_11, e_5_0, e_5_1, e_5_2, e_5_3, e_5_4, e_5_6, e_5_7, e_5_8, e_5_9, e_5_10, e_5_11, e_6_0, e_6_1, e_6_2, e_6_3, e_6_4, e_6_5, e_6_7, e_6_8, e_6_9, e_6_10, e_6_11, e_7_0, e_7_1, e_7_2, e_7_3, e_7_4, e_7_5, e_7_6, e_7_8, e_7_9, e_7_10, e_7_11, e_8_0, e_8_1, e_8_2, e_8_3, e_8_4, e_8_5, e_8_6, e_8_7, e_8_9, e_8_10, e_8_11, e_9_0, e_9_1, e_9_2, e_9_3, e_9_4, e_9_5, e_9_6, e_9_7, e_9_8, e_9_10, e_9_11, e_10_0, e_10_1, e_10_2, e_10_3, e_10_4, e_10_5, e_10_6, e_10_7, e_10_8, e_10_9, e_10_11, e_11_0, e_11_1, e_11_2, e_11_3, e_11_4, e_11_5, e_11_6, e_11_7, e_11_8, e_11_9, e_11_10, e_38_42, e_38_43, e_38_45, e_38_47, e_38_60, e_38_61, e_38_62, e_38_124, e_42_38, e_42_43, e_42_45, e_42_47, e_42_60, e_42_61, e_42_62, e_42_124, e_43_38, e_43_42, e_43_45, e_43_47, e_43_60, e_43_61, e_43_62, e_43_124, e_45_38, e_45_42, e_45_43, e_45_47, e_45_60, e_45_61, e_45_62, e_45_124, e_47_38, e_47_42, e_47_43, e_47_45, e_47_60, e_47_61, e_47_62, e_47_124, e_60_38, e_60_42, e_60_43, e_60_45, e_60_47, e_60_61, e_60_62, e_60_124, e_61_38, e_61_42, e_61_43, e_61_45, e_61_47, e_61_60, e_61_62, e_61_124, e_62_38, e_62_42, e_62_43, e_62_45, e_62_47, e_62_60, e_62_61, e_62_124, e_124_38, e_124_42, e_124_43, e_124_45, e_124_47, e_124_60, e_124_61, e_124_62, il, x0, x1, x2]) (by unfold f_X12_rule; simp only [Option.bind_some, ↓reduceIte, gI_I, gI_R, gI_J, gR_I, gR_R, gR_J, gL_I, gL_R, gL_J, gN_I, gN_R, gN_J, gJ_I, gJ_R, Int32.reduceLT, e_1_0, Int32.reduceToNatClampNeg, Int32.reduceToInt, Int.reduceLE, Int.reduceLT, Int.reduceNeg, Int.reduceEq,  Nat.reduceLT, Nat.reduceLeDiff, Nat.reduceEqDiff, Nat.reduceAdd, Nat.reduceMul, false_or, or_false, true_and, and_true, false_and, and_false, not_false_eq_true, not_true_eq_false, or_self, and_self, true_or, or_true, e_0_1, e_0_2, e_0_3, e_0_4, e_0_5, e_0_6, e_0_7, e_0_8, e_0_9, e_0_10, e_0_11, e_1_0, e_1_2, e_1_3, e_1_4, e_1_5, e_1_6, e_1_7, e_1_8, e_1_9, e_1_10, e_1_11, e_2_0, e_2_1, e_2_3, e_2_4, e_2_5, e_2_6, e_2_7, e_2_8, e_2_9, e_2_10, e_2_11, e_3_0, e_3_1, e_3_2, e_3_4, e_3_5, e_3_6, e_3_7, e_3_8, e_3_9, e_3_10, e_3_11, e_4_0, e_4_1, e_4_2, e_4_3, e_4_5, e_4_6, e_4_7, e_4_8, e_4_9, e_4_10, e_4_11, e_5_0, e_5_1, e_5_2, e_5_3, e_5_4, e_5_6, e_5_7, e_5_8, e_5_9, e_5_10, e_5_11, e_6_0, e_6_1, e_6_2, e_6_3, e_6_4, e_6_5, e_6_7, e_6_8, e_6_9, e_6_10, e_6_11, e_7_0, e_7_1, e_7_2, e_7_3, e_7_4, e_7_5, e_7_6, e_7_8, e_7_9, e_7_10, e_7_11, e_8_0, e_8_1, e_8_2, e_8_3, e_8_4, e_8_5, e_8_6, e_8_7, e_8_9, e_8_10, e_8_11, e_9_0, e_9_1, e_9_2, e_9_3, e_9_4, e_9_5, e_9_6, e_9_7, e_9_8, e_9_10, e_9_11, e_10_0, e_10_1, e_10_2, e_10_3, e_10_4, e_10_5, e_10_6, e_10_7, e_10_8, e_10_9, e_10_11, e_11_0, e_11_1, e_11_2, e_11_3, e_11_4, e_11_5, e_11_6, e_11_7, e_11_8, e_11_9, e_11_10, e_38_42, e_38_43, e_38_45, e_38_47, e_38_60, e_38_61, e_38_62, e_38_124, e_42_38, e_42_43, e_42_45, e_42_47, e_42_60, e_42_61, e_42_62, e_42_124, e_43_38, e_43_42, e_43_45, e_43_47, e_43_60, e_43_61, e_43_62, e_43_124, e_45_38, e_45_42, e_45_43, e_45_47, e_45_60, e_45_61, e_45_62, e_45_124, e_47_38, e_47_42, e_47_43, e_47_45, e_47_60, e_47_61, e_47_62, e_47_124, e_60_38, e_60_42, e_60_43, e_60_45, e_60_47, e_60_61, e_60_62, e_60_124, e_61_38, e_61_42, e_61_43, e_61_45, e_61_47, e_61_60, e_61_62, e_61_124, e_62_38, e_62_42, e_62_43, e_62_45, e_62_47, e_62_60, e_62_61, e_62_124, e_124_38, e_124_42, e_124_43, e_124_45, e_124_47, e_124_60, e_124_61, e_124_62, in_v, h0, hx]) r
  · rw [if_neg g] at il
    have h0 : ¬ (0 : Int32) < sg_I σ 344 20 := by rw [h2, l_0, o_lt (by omega) (by omega)]; exact g
    exact so_q (-1) (by unfold f_X11_rule; simp only [Option.bind_some, ↓reduceIte, gI_I, gI_R, gI_J, gR_I, gR_R, gR_J, gL_I, gL_R, gL_J, gN_I, gN_R, gN_J, gJ_I, gJ_R, Int32.reduceLT, e_1_0, Int32.reduceToNatClampNeg, Int32.reduceToInt, Int.reduceLE, Int.reduceLT, Int.reduceNeg, Int.reduceEq,  Nat.reduceLT, Nat.reduceLeDiff, Nat.reduceEqDiff, Nat.reduceAdd, Nat.reduceMul, false_or, or_false, true_and, and_true, false_and, and_false, not_false_eq_true, not_true_eq_false, or_self, and_self, true_or, or_true, e_0_1, e_0_2, e_0_3, e_0_4, e_0_5, e_0_6, e_0_7, e_0_8, e_0_9, e_0_10, e_0_11, e_1_0, e_1_2, e_1_3, e_1_4, e_1_5, e_1_6, e_1_7, e_1_8, e_1_9, e_1_10, e_1_11, e_2_0, e_2_1, e_2_3, e_2_4, e_2_5, e_2_6, e_2_7, e_2_8, e_2_9, e_2_10, e_2_11, e_3_0, e_3_1, e_3_2, e_3_4, e_3_5, e_3_6, e_3_7, e_3_8, e_3_9, e_3_10, e_3_11, e_4_0, e_4_1, e_4_2, e_4_3, e_4_5, e_4_6, e_4_7, e_4_8, e_4_9, e_4_10, e_4_11, e_5_0, e_5_1, e_5_2, e_5_3, e_5_4, e_5_6, e_5_7, e_5_8, e_5_9, e_5_10, e_5_11, e_6_0, e_6_1, e_6_2, e_6_3, e_6_4, e_6_5, e_6_7, e_6_8, e_6_9, e_6_10, e_6_11, e_7_0, e_7_1, e_7_2, e_7_3, e_7_4, e_7_5, e_7_6, e_7_8, e_7_9, e_7_10, e_7_11, e_8_0, e_8_1, e_8_2, e_8_3, e_8_4, e_8_5, e_8_6, e_8_7, e_8_9, e_8_10, e_8_11, e_9_0, e_9_1, e_9_2, e_9_3, e_9_4, e_9_5, e_9_6, e_9_7, e_9_8, e_9_10, e_9_11, e_10_0, e_10_1, e_10_2, e_10_3, e_10_4, e_10_5, e_10_6, e_10_7, e_10_8, e_10_9, e_10_11, e_11_0, e_11_1, e_11_2, e_11_3, e_11_4, e_11_5, e_11_6, e_11_7, e_11_8, e_11_9, e_11_10, e_38_42, e_38_43, e_38_45, e_38_47, e_38_60, e_38_61, e_38_62, e_38_124, e_42_38, e_42_43, e_42_45, e_42_47, e_42_60, e_42_61, e_42_62, e_42_124, e_43_38, e_43_42, e_43_45, e_43_47, e_43_60, e_43_61, e_43_62, e_43_124, e_45_38, e_45_42, e_45_43, e_45_47, e_45_60, e_45_61, e_45_62, e_45_124, e_47_38, e_47_42, e_47_43, e_47_45, e_47_60, e_47_61, e_47_62, e_47_124, e_60_38, e_60_42, e_60_43, e_60_45, e_60_47, e_60_61, e_60_62, e_60_124, e_61_38, e_61_42, e_61_43, e_61_45, e_61_47, e_61_60, e_61_62, e_61_124, e_62_38, e_62_42, e_62_43, e_62_45, e_62_47, e_62_60, e_62_61, e_62_124, e_124_38, e_124_42, e_124_43, e_124_45, e_124_47, e_124_60, e_124_61, e_124_62, il]) (by unfold f_X12_rule; simp only [Option.bind_some, ↓reduceIte, gI_I, gI_R, gI_J, gR_I, gR_R, gR_J, gL_I, gL_R, gL_J, gN_I, gN_R, gN_J, gJ_I, gJ_R, Int32.reduceLT, e_1_0, Int32.reduceToNatClampNeg, Int32.reduceToInt, Int.reduceLE, Int.reduceLT, Int.reduceNeg, Int.reduceEq,  Nat.reduceLT, Nat.reduceLeDiff, Nat.reduceEqDiff, Nat.reduceAdd, Nat.reduceMul, false_or, or_false, true_and, and_true, false_and, and_false, not_false_eq_true, not_true_eq_false, or_self, and_self, true_or, or_true, e_0_1, e_0_2, e_0_3, e_0_4, e_0_5, e_0_6, e_0_7, e_0_8, e_0_9, e_0_10, e_0_11, e_1_0, e_1_2, e_1_3, e_1_4, e_1_5, e_1_6, e_1_7, e_1_8, e_1_9, e_1_10, e_1_11, e_2_0, e_2_1, e_2_3, e_2_4, e_2_5, e_2_6, e_2_7, e_2_8, e_2_9, e_2_10, e_2_11, e_3_0, e_3_1, e_3_2, e_3_4, e_3_5, e_3_6, e_3_7, e_3_8, e_3_9, e_3_10, e_3_11, e_4_0, e_4_1, e_4_2, e_4_3, e_4_5, e_4_6, e_4_7, e_4_8, e_4_9, e_4_10, e_4_11, e_5_0, e_5_1, e_5_2, e_5_3, e_5_4, e_5_6, e_5_7, e_5_8, e_5_9, e_5_10, e_5_11, e_6_0, e_6_1, e_6_2, e_6_3, e_6_4, e_6_5, e_6_7, e_6_8, e_6_9, e_6_10, e_6_11, e_7_0, e_7_1, e_7_2, e_7_3, e_7_4, e_7_5, e_7_6, e_7_8, e_7_9, e_7_10, e_7_11, e_8_0, e_8_1, e_8_2, e_8_3, e_8_4, e_8_5, e_8_6, e_8_7, e_8_9, e_8_10, e_8_11, e_9_0, e_9_1, e_9_2, e_9_3, e_9_4, e_9_5, e_9_6, e_9_7, e_9_8, e_9_10, e_9_11, e_10_0, e_10_1, e_10_2, e_10_3, e_10_4, e_10_5, e_10_6, e_10_7, e_10_8, e_10_9, e_10_11, e_11_0, e_11_1, e_11_2, e_11_3, e_11_4, e_11_5, e_11_6, e_11_7, e_11_8, e_11_9, e_11_10, e_38_42, e_38_43, e_38_45, e_38_47, e_38_60, e_38_61, e_38_62, e_38_124, e_42_38, e_42_43, e_42_45, e_42_47, e_42_60, e_42_61, e_42_62, e_42_124, e_43_38, e_43_42, e_43_45, e_43_47, e_43_60, e_43_61, e_43_62, e_43_124, e_45_38, e_45_42, e_45_43, e_45_47, e_45_60, e_45_61, e_45_62, e_45_124, e_47_38, e_47_42, e_47_43, e_47_45, e_47_60, e_47_61, e_47_62, e_47_124, e_60_38, e_60_42, e_60_43, e_60_45, e_60_47, e_60_61, e_60_62, e_60_124, e_61_38, e_61_42, e_61_43, e_61_45, e_61_47, e_61_60, e_61_62, e_61_124, e_62_38, e_62_42, e_62_43, e_62_45, e_62_47, e_62_60, e_62_61, e_62_124, e_124_38, e_124_42, e_124_43, e_124_45, e_124_47, e_124_60, e_124_61, e_124_62, h0]) r
theorem p2_status : so_status p2_I 20000 := by
  intro x σ r
  have c := Rel.cf r
  have d := Rel.rf r
  have e0 : (0 : Int32).toInt = 0 := rfl
  have e5 : (Int32.ofNat 5).toInt = 5 := rfl
  have mi := r.1.2.2.2.2.2.2.2.2.1
  by_cases g : 0 ≤ x.toInt ∧ x.toInt ≤ 4
  · obtain ⟨k, hk, rfl⟩ := x_ob (B := 4) g
    refine so_q (sg_I σ 360 k) ?_ ?_ r
    · unfold f_X11_status
      simp only [c, Option.bind_some]
      rw [if_neg (o_nn (by omega)), if_pos (by rw [o_lt (by omega) (by omega)]; omega), if_neg (o_in (by omega) (by omega)), o_tn (by omega)]
      exact congrArg some (mi.2.2.2 k (by omega))
    · unfold f_X12_status
      simp only [Option.bind_some, ↓reduceIte, gI_I, gI_R, gI_J, gR_I, gR_R, gR_J, gL_I, gL_R, gL_J, gN_I, gN_R, gN_J, gJ_I, gJ_R, Int32.reduceLT, e_1_0, Int32.reduceToNatClampNeg, Int32.reduceToInt, Int.reduceLE, Int.reduceLT, Int.reduceNeg, Int.reduceEq,  Nat.reduceLT, Nat.reduceLeDiff, Nat.reduceEqDiff, Nat.reduceAdd, Nat.reduceMul, false_or, or_false, true_and, and_true, false_and, and_false, not_false_eq_true, not_true_eq_false, or_self, and_self, true_or, or_true, in_v, g, d]
      rw [if_neg (o_in (by omega) (by omega)), o_tn (by omega)]
  · refine so_q (-1) ?_ ?_ r
    · unfold f_X11_status
      simp only [c, Option.bind_some, i_lt, e0, e5]
      by_cases g1 : x.toInt < 0
      · rw [if_pos g1]
      · rw [if_neg g1, if_neg (by omega)]
    · unfold f_X12_status
      simp only [Option.bind_some, ↓reduceIte, gI_I, gI_R, gI_J, gR_I, gR_R, gR_J, gL_I, gL_R, gL_J, gN_I, gN_R, gN_J, gJ_I, gJ_R, Int32.reduceLT, e_1_0, Int32.reduceToNatClampNeg, Int32.reduceToInt, Int.reduceLE, Int.reduceLT, Int.reduceNeg, Int.reduceEq,  Nat.reduceLT, Nat.reduceLeDiff, Nat.reduceEqDiff, Nat.reduceAdd, Nat.reduceMul, false_or, or_false, true_and, and_true, false_and, and_false, not_false_eq_true, not_true_eq_false, or_self, and_self, true_or, or_true, in_v, g]
theorem p2_count : so_count p2_I 20000 := by
  intro x σ r
  obtain ⟨n, h1, h2, h3, ⟨-, s2, s3, s4, s5, s6, s7, s8⟩, h5⟩ := Rel.nw r
  have c := Rel.cf r
  have d := Rel.rf r
  obtain ⟨-, -, ⟨t, t1, t2, t3, -⟩, ⟨k, k1, k2, k3, -⟩, ⟨m, m1, m2, m3, m4, -⟩, -, ⟨-, -, -, -, ⟨a, -, a1, a2, a3, a4, -⟩, -⟩, -, mi, ⟨q, q1, q2, q3, -⟩⟩ := r.1
  obtain ⟨e, f1, f2, f3, -⟩ := s7
  have f2' : e < 2147483648 := by
    have := i_hi (sg_I σ 17 5)
    omega
  have hrc : f_X7_rowCount 17 σ = some (sg_I σ 359 20) := by
    unfold f_X7_rowCount
    rw [f1, l_60, min_v (by omega) f2']
    exact congrArg some f3.symm
  unfold f_X11_count f_X12_count
  by_cases x0 : x = 0
  · exact so_q (Int32.ofNat n) (by simp only [Option.bind_some, ↓reduceIte, gI_I, gI_R, gI_J, gR_I, gR_R, gR_J, gL_I, gL_R, gL_J, gN_I, gN_R, gN_J, gJ_I, gJ_R, Int32.reduceLT, e_1_0, Int32.reduceToNatClampNeg, Int32.reduceToInt, Int.reduceLE, Int.reduceLT, Int.reduceNeg, Int.reduceEq,  Nat.reduceLT, Nat.reduceLeDiff, Nat.reduceEqDiff, Nat.reduceAdd, Nat.reduceMul, false_or, or_false, true_and, and_true, false_and, and_false, not_false_eq_true, not_true_eq_false, or_self, and_self, true_or, or_true, e_0_1, e_0_2, e_0_3, e_0_4, e_0_5, e_0_6, e_0_7, e_0_8, e_0_9, e_0_10, e_0_11, e_1_0, e_1_2, e_1_3, e_1_4, e_1_5, e_1_6, e_1_7, e_1_8, e_1_9, e_1_10, e_1_11, e_2_0, e_2_1, e_2_3, e_2_4, e_2_5, e_2_6, e_2_7, e_2_8, e_2_9, e_2_10, e_2_11, e_3_0, e_3_1, e_3_2, e_3_4, e_3_5, e_3_6, e_3_7, e_3_8, e_3_9, e_3_10, e_3_11, e_4_0, e_4_1, e_4_2, e_4_3, e_4_5, e_4_6, e_4_7, e_4_8, e_4_9, e_4_10, e_4_11, e_5_0, e_5_1, e_5_2, e_5_3, e_5_4, e_5_6, e_5_7, e_5_8, e_5_9, e_5_10, e_5_11, e_6_0, e_6_1, e_6_2, e_6_3, e_6_4, e_6_5, e_6_7, e_6_8, e_6_9, e_6_10, e_6_11, e_7_0, e_7_1, e_7_2, e_7_3, e_7_4, e_7_5, e_7_6, e_7_8, e_7_9, e_7_10, e_7_11, e_8_0, e_8_1, e_8_2, e_8_3, e_8_4, e_8_5, e_8_6, e_8_7, e_8_9, e_8_10, e_8_11, e_9_0, e_9_1, e_9_2, e_9_3, e_9_4, e_9_5, e_9_6, e_9_7, e_9_8, e_9_10, e_9_11, e_10_0, e_10_1, e_10_2, e_10_3, e_10_4, e_10_5, e_10_6, e_10_7, e_10_8, e_10_9, e_10_11, e_11_0, e_11_1, e_11_2, e_11_3, e_11_4, e_11_5, e_11_6, e_11_7, e_11_8, e_11_9, e_11_10, e_38_42, e_38_43, e_38_45, e_38_47, e_38_60, e_38_61, e_38_62, e_38_124, e_42_38, e_42_43, e_42_45, e_42_47, e_42_60, e_42_61, e_42_62, e_42_124, e_43_38, e_43_42, e_43_45, e_43_47, e_43_60, e_43_61, e_43_62, e_43_124, e_45_38, e_45_42, e_45_43, e_45_47, e_45_60, e_45_61, e_45_62, e_45_124, e_47_38, e_47_42, e_47_43, e_47_45, e_47_60, e_47_61, e_47_62, e_47_124, e_60_38, e_60_42, e_60_43, e_60_45, e_60_47, e_60_61, e_60_62, e_60_124, e_61_38, e_61_42, e_61_43, e_61_45, e_61_47, e_61_60, e_61_62, e_61_124, e_62_38, e_62_42, e_62_43, e_62_45, e_62_47, e_62_60, e_62_61, e_62_124, e_124_38, e_124_42, e_124_43, e_124_45, e_124_47, e_124_60, e_124_61, e_124_62, x0, c, h3]) (by simp only [Option.bind_some, ↓reduceIte, gI_I, gI_R, gI_J, gR_I, gR_R, gR_J, gL_I, gL_R, gL_J, gN_I, gN_R, gN_J, gJ_I, gJ_R, Int32.reduceLT, e_1_0, Int32.reduceToNatClampNeg, Int32.reduceToInt, Int.reduceLE, Int.reduceLT, Int.reduceNeg, Int.reduceEq,  Nat.reduceLT, Nat.reduceLeDiff, Nat.reduceEqDiff, Nat.reduceAdd, Nat.reduceMul, false_or, or_false, true_and, and_true, false_and, and_false, not_false_eq_true, not_true_eq_false, or_self, and_self, true_or, or_true, e_0_1, e_0_2, e_0_3, e_0_4, e_0_5, e_0_6, e_0_7, e_0_8, e_0_9, e_0_10, e_0_11, e_1_0, e_1_2, e_1_3, e_1_4, e_1_5, e_1_6, e_1_7, e_1_8, e_1_9, e_1_10, e_1_11, e_2_0, e_2_1, e_2_3, e_2_4, e_2_5, e_2_6, e_2_7, e_2_8, e_2_9, e_2_10, e_2_11, e_3_0, e_3_1, e_3_2, e_3_4, e_3_5, e_3_6, e_3_7, e_3_8, e_3_9, e_3_10, e_3_11, e_4_0, e_4_1, e_4_2, e_4_3, e_4_5, e_4_6, e_4_7, e_4_8, e_4_9, e_4_10, e_4_11, e_5_0, e_5_1, e_5_2, e_5_3, e_5_4, e_5_6, e_5_7, e_5_8, e_5_9, e_5_10, e_5_11, e_6_0, e_6_1, e_6_2, e_6_3, e_6_4, e_6_5, e_6_7, e_6_8, e_6_9, e_6_10, e_6_11, e_7_0, e_7_1, e_7_2, e_7_3, e_7_4, e_7_5, e_7_6, e_7_8, e_7_9, e_7_10, e_7_11, e_8_0, e_8_1, e_8_2, e_8_3, e_8_4, e_8_5, e_8_6, e_8_7, e_8_9, e_8_10, e_8_11, e_9_0, e_9_1, e_9_2, e_9_3, e_9_4, e_9_5, e_9_6, e_9_7, e_9_8, e_9_10, e_9_11, e_10_0, e_10_1, e_10_2, e_10_3, e_10_4, e_10_5, e_10_6, e_10_7, e_10_8, e_10_9, e_10_11, e_11_0, e_11_1, e_11_2, e_11_3, e_11_4, e_11_5, e_11_6, e_11_7, e_11_8, e_11_9, e_11_10, e_38_42, e_38_43, e_38_45, e_38_47, e_38_60, e_38_61, e_38_62, e_38_124, e_42_38, e_42_43, e_42_45, e_42_47, e_42_60, e_42_61, e_42_62, e_42_124, e_43_38, e_43_42, e_43_45, e_43_47, e_43_60, e_43_61, e_43_62, e_43_124, e_45_38, e_45_42, e_45_43, e_45_47, e_45_60, e_45_61, e_45_62, e_45_124, e_47_38, e_47_42, e_47_43, e_47_45, e_47_60, e_47_61, e_47_62, e_47_124, e_60_38, e_60_42, e_60_43, e_60_45, e_60_47, e_60_61, e_60_62, e_60_124, e_61_38, e_61_42, e_61_43, e_61_45, e_61_47, e_61_60, e_61_62, e_61_124, e_62_38, e_62_42, e_62_43, e_62_45, e_62_47, e_62_60, e_62_61, e_62_124, e_124_38, e_124_42, e_124_43, e_124_45, e_124_47, e_124_60, e_124_61, e_124_62, x0, h2]) r
  by_cases x1 : x = 1
  · exact so_q (Int32.ofNat m) (by simp only [Option.bind_some, ↓reduceIte, gI_I, gI_R, gI_J, gR_I, gR_R, gR_J, gL_I, gL_R, gL_J, gN_I, gN_R, gN_J, gJ_I, gJ_R, Int32.reduceLT, e_1_0, Int32.reduceToNatClampNeg, Int32.reduceToInt, Int.reduceLE, Int.reduceLT, Int.reduceNeg, Int.reduceEq,  Nat.reduceLT, Nat.reduceLeDiff, Nat.reduceEqDiff, Nat.reduceAdd, Nat.reduceMul, false_or, or_false, true_and, and_true, false_and, and_false, not_false_eq_true, not_true_eq_false, or_self, and_self, true_or, or_true, e_0_1, e_0_2, e_0_3, e_0_4, e_0_5, e_0_6, e_0_7, e_0_8, e_0_9, e_0_10, e_0_11, e_1_0, e_1_2, e_1_3, e_1_4, e_1_5, e_1_6, e_1_7, e_1_8, e_1_9, e_1_10, e_1_11, e_2_0, e_2_1, e_2_3, e_2_4, e_2_5, e_2_6, e_2_7, e_2_8, e_2_9, e_2_10, e_2_11, e_3_0, e_3_1, e_3_2, e_3_4, e_3_5, e_3_6, e_3_7, e_3_8, e_3_9, e_3_10, e_3_11, e_4_0, e_4_1, e_4_2, e_4_3, e_4_5, e_4_6, e_4_7, e_4_8, e_4_9, e_4_10, e_4_11, e_5_0, e_5_1, e_5_2, e_5_3, e_5_4, e_5_6, e_5_7, e_5_8, e_5_9, e_5_10, e_5_11, e_6_0, e_6_1, e_6_2, e_6_3, e_6_4, e_6_5, e_6_7, e_6_8, e_6_9, e_6_10, e_6_11, e_7_0, e_7_1, e_7_2, e_7_3, e_7_4, e_7_5, e_7_6, e_7_8, e_7_9, e_7_10, e_7_11, e_8_0, e_8_1, e_8_2, e_8_3, e_8_4, e_8_5, e_8_6, e_8_7, e_8_9, e_8_10, e_8_11, e_9_0, e_9_1, e_9_2, e_9_3, e_9_4, e_9_5, e_9_6, e_9_7, e_9_8, e_9_10, e_9_11, e_10_0, e_10_1, e_10_2, e_10_3, e_10_4, e_10_5, e_10_6, e_10_7, e_10_8, e_10_9, e_10_11, e_11_0, e_11_1, e_11_2, e_11_3, e_11_4, e_11_5, e_11_6, e_11_7, e_11_8, e_11_9, e_11_10, e_38_42, e_38_43, e_38_45, e_38_47, e_38_60, e_38_61, e_38_62, e_38_124, e_42_38, e_42_43, e_42_45, e_42_47, e_42_60, e_42_61, e_42_62, e_42_124, e_43_38, e_43_42, e_43_45, e_43_47, e_43_60, e_43_61, e_43_62, e_43_124, e_45_38, e_45_42, e_45_43, e_45_47, e_45_60, e_45_61, e_45_62, e_45_124, e_47_38, e_47_42, e_47_43, e_47_45, e_47_60, e_47_61, e_47_62, e_47_124, e_60_38, e_60_42, e_60_43, e_60_45, e_60_47, e_60_61, e_60_62, e_60_124, e_61_38, e_61_42, e_61_43, e_61_45, e_61_47, e_61_60, e_61_62, e_61_124, e_62_38, e_62_42, e_62_43, e_62_45, e_62_47, e_62_60, e_62_61, e_62_124, e_124_38, e_124_42, e_124_43, e_124_45, e_124_47, e_124_60, e_124_61, e_124_62, x1, m2]) (by simp only [Option.bind_some, ↓reduceIte, gI_I, gI_R, gI_J, gR_I, gR_R, gR_J, gL_I, gL_R, gL_J, gN_I, gN_R, gN_J, gJ_I, gJ_R, Int32.reduceLT, e_1_0, Int32.reduceToNatClampNeg, Int32.reduceToInt, Int.reduceLE, Int.reduceLT, Int.reduceNeg, Int.reduceEq,  Nat.reduceLT, Nat.reduceLeDiff, Nat.reduceEqDiff, Nat.reduceAdd, Nat.reduceMul, false_or, or_false, true_and, and_true, false_and, and_false, not_false_eq_true, not_true_eq_false, or_self, and_self, true_or, or_true, e_0_1, e_0_2, e_0_3, e_0_4, e_0_5, e_0_6, e_0_7, e_0_8, e_0_9, e_0_10, e_0_11, e_1_0, e_1_2, e_1_3, e_1_4, e_1_5, e_1_6, e_1_7, e_1_8, e_1_9, e_1_10, e_1_11, e_2_0, e_2_1, e_2_3, e_2_4, e_2_5, e_2_6, e_2_7, e_2_8, e_2_9, e_2_10, e_2_11, e_3_0, e_3_1, e_3_2, e_3_4, e_3_5, e_3_6, e_3_7, e_3_8, e_3_9, e_3_10, e_3_11, e_4_0, e_4_1, e_4_2, e_4_3, e_4_5, e_4_6, e_4_7, e_4_8, e_4_9, e_4_10, e_4_11, e_5_0, e_5_1, e_5_2, e_5_3, e_5_4, e_5_6, e_5_7, e_5_8, e_5_9, e_5_10, e_5_11, e_6_0, e_6_1, e_6_2, e_6_3, e_6_4, e_6_5, e_6_7, e_6_8, e_6_9, e_6_10, e_6_11, e_7_0, e_7_1, e_7_2, e_7_3, e_7_4, e_7_5, e_7_6, e_7_8, e_7_9, e_7_10, e_7_11, e_8_0, e_8_1, e_8_2, e_8_3, e_8_4, e_8_5, e_8_6, e_8_7, e_8_9, e_8_10, e_8_11, e_9_0, e_9_1, e_9_2, e_9_3, e_9_4, e_9_5, e_9_6, e_9_7, e_9_8, e_9_10, e_9_11, e_10_0, e_10_1, e_10_2, e_10_3, e_10_4, e_10_5, e_10_6, e_10_7, e_10_8, e_10_9, e_10_11, e_11_0, e_11_1, e_11_2, e_11_3, e_11_4, e_11_5, e_11_6, e_11_7, e_11_8, e_11_9, e_11_10, e_38_42, e_38_43, e_38_45, e_38_47, e_38_60, e_38_61, e_38_62, e_38_124, e_42_38, e_42_43, e_42_45, e_42_47, e_42_60, e_42_61, e_42_62, e_42_124, e_43_38, e_43_42, e_43_45, e_43_47, e_43_60, e_43_61, e_43_62, e_43_124, e_45_38, e_45_42, e_45_43, e_45_47, e_45_60, e_45_61, e_45_62, e_45_124, e_47_38, e_47_42, e_47_43, e_47_45, e_47_60, e_47_61, e_47_62, e_47_124, e_60_38, e_60_42, e_60_43, e_60_45, e_60_47, e_60_61, e_60_62, e_60_124, e_61_38, e_61_42, e_61_43, e_61_45, e_61_47, e_61_60, e_61_62, e_61_124, e_62_38, e_62_42, e_62_43, e_62_45, e_62_47, e_62_60, e_62_61, e_62_124, e_124_38, e_124_42, e_124_43, e_124_45, e_124_47, e_124_60, e_124_61, e_124_62, x1, m3]) r
  by_cases x2 : x = 2
  · exact so_q (Int32.ofNat k) (by simp only [Option.bind_some, ↓reduceIte, gI_I, gI_R, gI_J, gR_I, gR_R, gR_J, gL_I, gL_R, gL_J, gN_I, gN_R, gN_J, gJ_I, gJ_R, Int32.reduceLT, e_1_0, Int32.reduceToNatClampNeg, Int32.reduceToInt, Int.reduceLE, Int.reduceLT, Int.reduceNeg, Int.reduceEq,  Nat.reduceLT, Nat.reduceLeDiff, Nat.reduceEqDiff, Nat.reduceAdd, Nat.reduceMul, false_or, or_false, true_and, and_true, false_and, and_false, not_false_eq_true, not_true_eq_false, or_self, and_self, true_or, or_true, e_0_1, e_0_2, e_0_3, e_0_4, e_0_5, e_0_6, e_0_7, e_0_8, e_0_9, e_0_10, e_0_11, e_1_0, e_1_2, e_1_3, e_1_4, e_1_5, e_1_6, e_1_7, e_1_8, e_1_9, e_1_10, e_1_11, e_2_0, e_2_1, e_2_3, e_2_4, e_2_5, e_2_6, e_2_7, e_2_8, e_2_9, e_2_10, e_2_11, e_3_0, e_3_1, e_3_2, e_3_4, e_3_5, e_3_6, e_3_7, e_3_8, e_3_9, e_3_10, e_3_11, e_4_0, e_4_1, e_4_2, e_4_3, e_4_5, e_4_6, e_4_7, e_4_8, e_4_9, e_4_10, e_4_11, e_5_0, e_5_1, e_5_2, e_5_3, e_5_4, e_5_6, e_5_7, e_5_8, e_5_9, e_5_10, e_5_11, e_6_0, e_6_1, e_6_2, e_6_3, e_6_4, e_6_5, e_6_7, e_6_8, e_6_9, e_6_10, e_6_11, e_7_0, e_7_1, e_7_2, e_7_3, e_7_4, e_7_5, e_7_6, e_7_8, e_7_9, e_7_10, e_7_11, e_8_0, e_8_1, e_8_2, e_8_3, e_8_4, e_8_5, e_8_6, e_8_7, e_8_9, e_8_10, e_8_11, e_9_0, e_9_1, e_9_2, e_9_3, e_9_4, e_9_5, e_9_6, e_9_7, e_9_8, e_9_10, e_9_11, e_10_0, e_10_1, e_10_2, e_10_3, e_10_4, e_10_5, e_10_6, e_10_7, e_10_8, e_10_9, e_10_11, e_11_0, e_11_1, e_11_2, e_11_3, e_11_4, e_11_5, e_11_6, e_11_7, e_11_8, e_11_9, e_11_10, e_38_42, e_38_43, e_38_45, e_38_47, e_38_60, e_38_61, e_38_62, e_38_124, e_42_38, e_42_43, e_42_45, e_42_47, e_42_60, e_42_61, e_42_62, e_42_124, e_43_38, e_43_42, e_43_45, e_43_47, e_43_60, e_43_61, e_43_62, e_43_124, e_45_38, e_45_42, e_45_43, e_45_47, e_45_60, e_45_61, e_45_62, e_45_124, e_47_38, e_47_42, e_47_43, e_47_45, e_47_60, e_47_61, e_47_62, e_47_124, e_60_38, e_60_42, e_60_43, e_60_45, e_60_47, e_60_61, e_60_62, e_60_124, e_61_38, e_61_42, e_61_43, e_61_45, e_61_47, e_61_60, e_61_62, e_61_124, e_62_38, e_62_42, e_62_43, e_62_45, e_62_47, e_62_60, e_62_61, e_62_124, e_124_38, e_124_42, e_124_43, e_124_45, e_124_47, e_124_60, e_124_61, e_124_62, x2, k2]) (by simp only [Option.bind_some, ↓reduceIte, gI_I, gI_R, gI_J, gR_I, gR_R, gR_J, gL_I, gL_R, gL_J, gN_I, gN_R, gN_J, gJ_I, gJ_R, Int32.reduceLT, e_1_0, Int32.reduceToNatClampNeg, Int32.reduceToInt, Int.reduceLE, Int.reduceLT, Int.reduceNeg, Int.reduceEq,  Nat.reduceLT, Nat.reduceLeDiff, Nat.reduceEqDiff, Nat.reduceAdd, Nat.reduceMul, false_or, or_false, true_and, and_true, false_and, and_false, not_false_eq_true, not_true_eq_false, or_self, and_self, true_or, or_true, e_0_1, e_0_2, e_0_3, e_0_4, e_0_5, e_0_6, e_0_7, e_0_8, e_0_9, e_0_10, e_0_11, e_1_0, e_1_2, e_1_3, e_1_4, e_1_5, e_1_6, e_1_7, e_1_8, e_1_9, e_1_10, e_1_11, e_2_0, e_2_1, e_2_3, e_2_4, e_2_5, e_2_6, e_2_7, e_2_8, e_2_9, e_2_10, e_2_11, e_3_0, e_3_1, e_3_2, e_3_4, e_3_5, e_3_6, e_3_7, e_3_8, e_3_9, e_3_10, e_3_11, e_4_0, e_4_1, e_4_2, e_4_3, e_4_5, e_4_6, e_4_7, e_4_8, e_4_9, e_4_10, e_4_11, e_5_0, e_5_1, e_5_2, e_5_3, e_5_4, e_5_6, e_5_7, e_5_8, e_5_9, e_5_10, e_5_11, e_6_0, e_6_1, e_6_2, e_6_3, e_6_4, e_6_5, e_6_7, e_6_8, e_6_9, e_6_10, e_6_11, e_7_0, e_7_1, e_7_2, e_7_3, e_7_4, e_7_5, e_7_6, e_7_8, e_7_9, e_7_10, e_7_11, e_8_0, e_8_1, e_8_2, e_8_3, e_8_4, e_8_5, e_8_6, e_8_7, e_8_9, e_8_10, e_8_11, e_9_0, e_9_1, e_9_2, e_9_3, e_9_4, e_9_5, e_9_6, e_9_7, e_9_8, e_9_10, e_9_11, e_10_0, e_10_1, e_10_2, e_10_3, e_10_4, e_10_5, e_10_6, e_10_7, e_10_8, e_10_9, e_10_11, e_11_0, e_11_1, e_11_2, e_11_3, e_11_4, e_11_5, e_11_6, e_11_7, e_11_8, e_11_9, e_11_10, e_38_42, e_38_43, e_38_45, e_38_47, e_38_60, e_38_61, e_38_62, e_38_124, e_42_38, e_42_43, e_42_45, e_42_47, e_42_60, e_42_61, e_42_62, e_42_124, e_43_38, e_43_42, e_43_45, e_43_47, e_43_60, e_43_61, e_43_62, e_43_124, e_45_38, e_45_42, e_45_43, e_45_47, e_45_60, e_45_61, e_45_62, e_45_124, e_47_38, e_47_42, e_47_43, e_47_45, e_47_60, e_47_61, e_47_62, e_47_124, e_60_38, e_60_42, e_60_43, e_60_45, e_60_47, e_60_61, e_60_62, e_60_124, e_61_38, e_61_42, e_61_43, e_61_45, e_61_47, e_61_60, e_61_62, e_61_124, e_62_38, e_62_42, e_62_43, e_62_45, e_62_47, e_62_60, e_62_61, e_62_124, e_124_38, e_124_42, e_124_43, e_124_45, e_124_47, e_124_60, e_124_61, e_124_62, x2, k3]) r
  by_cases x3 : x = 3
  · exact so_q (Int32.ofNat t) (by simp only [Option.bind_some, ↓reduceIte, gI_I, gI_R, gI_J, gR_I, gR_R, gR_J, gL_I, gL_R, gL_J, gN_I, gN_R, gN_J, gJ_I, gJ_R, Int32.reduceLT, e_1_0, Int32.reduceToNatClampNeg, Int32.reduceToInt, Int.reduceLE, Int.reduceLT, Int.reduceNeg, Int.reduceEq,  Nat.reduceLT, Nat.reduceLeDiff, Nat.reduceEqDiff, Nat.reduceAdd, Nat.reduceMul, false_or, or_false, true_and, and_true, false_and, and_false, not_false_eq_true, not_true_eq_false, or_self, and_self, true_or, or_true, e_0_1, e_0_2, e_0_3, e_0_4, e_0_5, e_0_6, e_0_7, e_0_8, e_0_9, e_0_10, e_0_11, e_1_0, e_1_2, e_1_3, e_1_4, e_1_5, e_1_6, e_1_7, e_1_8, e_1_9, e_1_10, e_1_11, e_2_0, e_2_1, e_2_3, e_2_4, e_2_5, e_2_6, e_2_7, e_2_8, e_2_9, e_2_10, e_2_11, e_3_0, e_3_1, e_3_2, e_3_4, e_3_5, e_3_6, e_3_7, e_3_8, e_3_9, e_3_10, e_3_11, e_4_0, e_4_1, e_4_2, e_4_3, e_4_5, e_4_6, e_4_7, e_4_8, e_4_9, e_4_10, e_4_11, e_5_0, e_5_1, e_5_2, e_5_3, e_5_4, e_5_6, e_5_7, e_5_8, e_5_9, e_5_10, e_5_11, e_6_0, e_6_1, e_6_2, e_6_3, e_6_4, e_6_5, e_6_7, e_6_8, e_6_9, e_6_10, e_6_11, e_7_0, e_7_1, e_7_2, e_7_3, e_7_4, e_7_5, e_7_6, e_7_8, e_7_9, e_7_10, e_7_11, e_8_0, e_8_1, e_8_2, e_8_3, e_8_4, e_8_5, e_8_6, e_8_7, e_8_9, e_8_10, e_8_11, e_9_0, e_9_1, e_9_2, e_9_3, e_9_4, e_9_5, e_9_6, e_9_7, e_9_8, e_9_10, e_9_11, e_10_0, e_10_1, e_10_2, e_10_3, e_10_4, e_10_5, e_10_6, e_10_7, e_10_8, e_10_9, e_10_11, e_11_0, e_11_1, e_11_2, e_11_3, e_11_4, e_11_5, e_11_6, e_11_7, e_11_8, e_11_9, e_11_10, e_38_42, e_38_43, e_38_45, e_38_47, e_38_60, e_38_61, e_38_62, e_38_124, e_42_38, e_42_43, e_42_45, e_42_47, e_42_60, e_42_61, e_42_62, e_42_124, e_43_38, e_43_42, e_43_45, e_43_47, e_43_60, e_43_61, e_43_62, e_43_124, e_45_38, e_45_42, e_45_43, e_45_47, e_45_60, e_45_61, e_45_62, e_45_124, e_47_38, e_47_42, e_47_43, e_47_45, e_47_60, e_47_61, e_47_62, e_47_124, e_60_38, e_60_42, e_60_43, e_60_45, e_60_47, e_60_61, e_60_62, e_60_124, e_61_38, e_61_42, e_61_43, e_61_45, e_61_47, e_61_60, e_61_62, e_61_124, e_62_38, e_62_42, e_62_43, e_62_45, e_62_47, e_62_60, e_62_61, e_62_124, e_124_38, e_124_42, e_124_43, e_124_45, e_124_47, e_124_60, e_124_61, e_124_62, x3, t2]) (by simp only [Option.bind_some, ↓reduceIte, gI_I, gI_R, gI_J, gR_I, gR_R, gR_J, gL_I, gL_R, gL_J, gN_I, gN_R, gN_J, gJ_I, gJ_R, Int32.reduceLT, e_1_0, Int32.reduceToNatClampNeg, Int32.reduceToInt, Int.reduceLE, Int.reduceLT, Int.reduceNeg, Int.reduceEq,  Nat.reduceLT, Nat.reduceLeDiff, Nat.reduceEqDiff, Nat.reduceAdd, Nat.reduceMul, false_or, or_false, true_and, and_true, false_and, and_false, not_false_eq_true, not_true_eq_false, or_self, and_self, true_or, or_true, e_0_1, e_0_2, e_0_3, e_0_4, e_0_5, e_0_6, e_0_7, e_0_8, e_0_9, e_0_10, e_0_11, e_1_0, e_1_2, e_1_3, e_1_4, e_1_5, e_1_6, e_1_7, e_1_8, e_1_9, e_1_10, e_1_11, e_2_0, e_2_1, e_2_3, e_2_4, e_2_5, e_2_6, e_2_7, e_2_8, e_2_9, e_2_10, e_2_11, e_3_0, e_3_1, e_3_2, e_3_4, e_3_5, e_3_6, e_3_7, e_3_8, e_3_9, e_3_10, e_3_11, e_4_0, e_4_1, e_4_2, e_4_3, e_4_5, e_4_6, e_4_7, e_4_8, e_4_9, e_4_10, e_4_11, e_5_0, e_5_1, e_5_2, e_5_3, e_5_4, e_5_6, e_5_7, e_5_8, e_5_9, e_5_10, e_5_11, e_6_0, e_6_1, e_6_2, e_6_3, e_6_4, e_6_5, e_6_7, e_6_8, e_6_9, e_6_10, e_6_11, e_7_0, e_7_1, e_7_2, e_7_3, e_7_4, e_7_5, e_7_6, e_7_8, e_7_9, e_7_10, e_7_11, e_8_0, e_8_1, e_8_2, e_8_3, e_8_4, e_8_5, e_8_6, e_8_7, e_8_9, e_8_10, e_8_11, e_9_0, e_9_1, e_9_2, e_9_3, e_9_4, e_9_5, e_9_6, e_9_7, e_9_8, e_9_10, e_9_11, e_10_0, e_10_1, e_10_2, e_10_3, e_10_4, e_10_5, e_10_6, e_10_7, e_10_8, e_10_9, e_10_11, e_11_0, e_11_1, e_11_2, e_11_3, e_11_4, e_11_5, e_11_6, e_11_7, e_11_8, e_11_9, e_11_10, e_38_42, e_38_43, e_38_45, e_38_47, e_38_60, e_38_61, e_38_62, e_38_124, e_42_38, e_42_43, e_42_45, e_42_47, e_42_60, e_42_61, e_42_62, e_42_124, e_43_38, e_43_42, e_43_45, e_43_47, e_43_60, e_43_61, e_43_62, e_43_124, e_45_38, e_45_42, e_45_43, e_45_47, e_45_60, e_45_61, e_45_62, e_45_124, e_47_38, e_47_42, e_47_43, e_47_45, e_47_60, e_47_61, e_47_62, e_47_124, e_60_38, e_60_42, e_60_43, e_60_45, e_60_47, e_60_61, e_60_62, e_60_124, e_61_38, e_61_42, e_61_43, e_61_45, e_61_47, e_61_60, e_61_62, e_61_124, e_62_38, e_62_42, e_62_43, e_62_45, e_62_47, e_62_60, e_62_61, e_62_124, e_124_38, e_124_42, e_124_43, e_124_45, e_124_47, e_124_60, e_124_61, e_124_62, x3, t3]) r
  by_cases x4 : x = 4
  · exact so_q (sg_I σ 344 26) (by simp only [Option.bind_some, ↓reduceIte, gI_I, gI_R, gI_J, gR_I, gR_R, gR_J, gL_I, gL_R, gL_J, gN_I, gN_R, gN_J, gJ_I, gJ_R, Int32.reduceLT, e_1_0, Int32.reduceToNatClampNeg, Int32.reduceToInt, Int.reduceLE, Int.reduceLT, Int.reduceNeg, Int.reduceEq,  Nat.reduceLT, Nat.reduceLeDiff, Nat.reduceEqDiff, Nat.reduceAdd, Nat.reduceMul, false_or, or_false, true_and, and_true, false_and, and_false, not_false_eq_true, not_true_eq_false, or_self, and_self, true_or, or_true, e_0_1, e_0_2, e_0_3, e_0_4, e_0_5, e_0_6, e_0_7, e_0_8, e_0_9, e_0_10, e_0_11, e_1_0, e_1_2, e_1_3, e_1_4, e_1_5, e_1_6, e_1_7, e_1_8, e_1_9, e_1_10, e_1_11, e_2_0, e_2_1, e_2_3, e_2_4, e_2_5, e_2_6, e_2_7, e_2_8, e_2_9, e_2_10, e_2_11, e_3_0, e_3_1, e_3_2, e_3_4, e_3_5, e_3_6, e_3_7, e_3_8, e_3_9, e_3_10, e_3_11, e_4_0, e_4_1, e_4_2, e_4_3, e_4_5, e_4_6, e_4_7, e_4_8, e_4_9, e_4_10, e_4_11, e_5_0, e_5_1, e_5_2, e_5_3, e_5_4, e_5_6, e_5_7, e_5_8, e_5_9, e_5_10, e_5_11, e_6_0, e_6_1, e_6_2, e_6_3, e_6_4, e_6_5, e_6_7, e_6_8, e_6_9, e_6_10, e_6_11, e_7_0, e_7_1, e_7_2, e_7_3, e_7_4, e_7_5, e_7_6, e_7_8, e_7_9, e_7_10, e_7_11, e_8_0, e_8_1, e_8_2, e_8_3, e_8_4, e_8_5, e_8_6, e_8_7, e_8_9, e_8_10, e_8_11, e_9_0, e_9_1, e_9_2, e_9_3, e_9_4, e_9_5, e_9_6, e_9_7, e_9_8, e_9_10, e_9_11, e_10_0, e_10_1, e_10_2, e_10_3, e_10_4, e_10_5, e_10_6, e_10_7, e_10_8, e_10_9, e_10_11, e_11_0, e_11_1, e_11_2, e_11_3, e_11_4, e_11_5, e_11_6, e_11_7, e_11_8, e_11_9, e_11_10, e_38_42, e_38_43, e_38_45, e_38_47, e_38_60, e_38_61, e_38_62, e_38_124, e_42_38, e_42_43, e_42_45, e_42_47, e_42_60, e_42_61, e_42_62, e_42_124, e_43_38, e_43_42, e_43_45, e_43_47, e_43_60, e_43_61, e_43_62, e_43_124, e_45_38, e_45_42, e_45_43, e_45_47, e_45_60, e_45_61, e_45_62, e_45_124, e_47_38, e_47_42, e_47_43, e_47_45, e_47_60, e_47_61, e_47_62, e_47_124, e_60_38, e_60_42, e_60_43, e_60_45, e_60_47, e_60_61, e_60_62, e_60_124, e_61_38, e_61_42, e_61_43, e_61_45, e_61_47, e_61_60, e_61_62, e_61_124, e_62_38, e_62_42, e_62_43, e_62_45, e_62_47, e_62_60, e_62_61, e_62_124, e_124_38, e_124_42, e_124_43, e_124_45, e_124_47, e_124_60, e_124_61, e_124_62, x4, m4]) (by simp only [Option.bind_some, ↓reduceIte, gI_I, gI_R, gI_J, gR_I, gR_R, gR_J, gL_I, gL_R, gL_J, gN_I, gN_R, gN_J, gJ_I, gJ_R, Int32.reduceLT, e_1_0, Int32.reduceToNatClampNeg, Int32.reduceToInt, Int.reduceLE, Int.reduceLT, Int.reduceNeg, Int.reduceEq,  Nat.reduceLT, Nat.reduceLeDiff, Nat.reduceEqDiff, Nat.reduceAdd, Nat.reduceMul, false_or, or_false, true_and, and_true, false_and, and_false, not_false_eq_true, not_true_eq_false, or_self, and_self, true_or, or_true, e_0_1, e_0_2, e_0_3, e_0_4, e_0_5, e_0_6, e_0_7, e_0_8, e_0_9, e_0_10, e_0_11, e_1_0, e_1_2, e_1_3, e_1_4, e_1_5, e_1_6, e_1_7, e_1_8, e_1_9, e_1_10, e_1_11, e_2_0, e_2_1, e_2_3, e_2_4, e_2_5, e_2_6, e_2_7, e_2_8, e_2_9, e_2_10, e_2_11, e_3_0, e_3_1, e_3_2, e_3_4, e_3_5, e_3_6, e_3_7, e_3_8, e_3_9, e_3_10, e_3_11, e_4_0, e_4_1, e_4_2, e_4_3, e_4_5, e_4_6, e_4_7, e_4_8, e_4_9, e_4_10, e_4_11, e_5_0, e_5_1, e_5_2, e_5_3, e_5_4, e_5_6, e_5_7, e_5_8, e_5_9, e_5_10, e_5_11, e_6_0, e_6_1, e_6_2, e_6_3, e_6_4, e_6_5, e_6_7, e_6_8, e_6_9, e_6_10, e_6_11, e_7_0, e_7_1, e_7_2, e_7_3, e_7_4, e_7_5, e_7_6, e_7_8, e_7_9, e_7_10, e_7_11, e_8_0, e_8_1, e_8_2, e_8_3, e_8_4, e_8_5, e_8_6, e_8_7, e_8_9, e_8_10, e_8_11, e_9_0, e_9_1, e_9_2, e_9_3, e_9_4, e_9_5, e_9_6, e_9_7, e_9_8, e_9_10, e_9_11, e_10_0, e_10_1, e_10_2, e_10_3, e_10_4, e_10_5, e_10_6, e_10_7, e_10_8, e_10_9, e_10_11, e_11_0, e_11_1, e_11_2, e_11_3, e_11_4, e_11_5, e_11_6, e_11_7, e_11_8, e_11_9, e_11_10, e_38_42, e_38_43, e_38_45, e_38_47, e_38_60, e_38_61, e_38_62, e_38_124, e_42_38, e_42_43, e_42_45, e_42_47, e_42_60, e_42_61, e_42_62, e_42_124, e_43_38, e_43_42, e_43_45, e_43_47, e_43_60, e_43_61, e_43_62, e_43_124, e_45_38, e_45_42, e_45_43, e_45_47, e_45_60, e_45_61, e_45_62, e_45_124, e_47_38, e_47_42, e_47_43, e_47_45, e_47_60, e_47_61, e_47_62, e_47_124, e_60_38, e_60_42, e_60_43, e_60_45, e_60_47, e_60_61, e_60_62, e_60_124, e_61_38, e_61_42, e_61_43, e_61_45, e_61_47, e_61_60, e_61_62, e_61_124, e_62_38, e_62_42, e_62_43, e_62_45, e_62_47, e_62_60, e_62_61, e_62_124, e_124_38, e_124_42, e_124_43, e_124_45, e_124_47, e_124_60, e_124_61, e_124_62, x4]) r
  by_cases x5 : x = 5
  · exact so_q (sg_I σ 359 19) (by simp only [Option.bind_some, ↓reduceIte, gI_I, gI_R, gI_J, gR_I, gR_R, gR_J, gL_I, gL_R, gL_J, gN_I, gN_R, gN_J, gJ_I, gJ_R, Int32.reduceLT, e_1_0, Int32.reduceToNatClampNeg, Int32.reduceToInt, Int.reduceLE, Int.reduceLT, Int.reduceNeg, Int.reduceEq,  Nat.reduceLT, Nat.reduceLeDiff, Nat.reduceEqDiff, Nat.reduceAdd, Nat.reduceMul, false_or, or_false, true_and, and_true, false_and, and_false, not_false_eq_true, not_true_eq_false, or_self, and_self, true_or, or_true, e_0_1, e_0_2, e_0_3, e_0_4, e_0_5, e_0_6, e_0_7, e_0_8, e_0_9, e_0_10, e_0_11, e_1_0, e_1_2, e_1_3, e_1_4, e_1_5, e_1_6, e_1_7, e_1_8, e_1_9, e_1_10, e_1_11, e_2_0, e_2_1, e_2_3, e_2_4, e_2_5, e_2_6, e_2_7, e_2_8, e_2_9, e_2_10, e_2_11, e_3_0, e_3_1, e_3_2, e_3_4, e_3_5, e_3_6, e_3_7, e_3_8, e_3_9, e_3_10, e_3_11, e_4_0, e_4_1, e_4_2, e_4_3, e_4_5, e_4_6, e_4_7, e_4_8, e_4_9, e_4_10, e_4_11, e_5_0, e_5_1, e_5_2, e_5_3, e_5_4, e_5_6, e_5_7, e_5_8, e_5_9, e_5_10, e_5_11, e_6_0, e_6_1, e_6_2, e_6_3, e_6_4, e_6_5, e_6_7, e_6_8, e_6_9, e_6_10, e_6_11, e_7_0, e_7_1, e_7_2, e_7_3, e_7_4, e_7_5, e_7_6, e_7_8, e_7_9, e_7_10, e_7_11, e_8_0, e_8_1, e_8_2, e_8_3, e_8_4, e_8_5, e_8_6, e_8_7, e_8_9, e_8_10, e_8_11, e_9_0, e_9_1, e_9_2, e_9_3, e_9_4, e_9_5, e_9_6, e_9_7, e_9_8, e_9_10, e_9_11, e_10_0, e_10_1, e_10_2, e_10_3, e_10_4, e_10_5, e_10_6, e_10_7, e_10_8, e_10_9, e_10_11, e_11_0, e_11_1, e_11_2, e_11_3, e_11_4, e_11_5, e_11_6, e_11_7, e_11_8, e_11_9, e_11_10, e_38_42, e_38_43, e_38_45, e_38_47, e_38_60, e_38_61, e_38_62, e_38_124, e_42_38, e_42_43, e_42_45, e_42_47, e_42_60, e_42_61, e_42_62, e_42_124, e_43_38, e_43_42, e_43_45, e_43_47, e_43_60, e_43_61, e_43_62, e_43_124, e_45_38, e_45_42, e_45_43, e_45_47, e_45_60, e_45_61, e_45_62, e_45_124, e_47_38, e_47_42, e_47_43, e_47_45, e_47_60, e_47_61, e_47_62, e_47_124, e_60_38, e_60_42, e_60_43, e_60_45, e_60_47, e_60_61, e_60_62, e_60_124, e_61_38, e_61_42, e_61_43, e_61_45, e_61_47, e_61_60, e_61_62, e_61_124, e_62_38, e_62_42, e_62_43, e_62_45, e_62_47, e_62_60, e_62_61, e_62_124, e_124_38, e_124_42, e_124_43, e_124_45, e_124_47, e_124_60, e_124_61, e_124_62, x5, c, s5]) (by simp only [Option.bind_some, ↓reduceIte, gI_I, gI_R, gI_J, gR_I, gR_R, gR_J, gL_I, gL_R, gL_J, gN_I, gN_R, gN_J, gJ_I, gJ_R, Int32.reduceLT, e_1_0, Int32.reduceToNatClampNeg, Int32.reduceToInt, Int.reduceLE, Int.reduceLT, Int.reduceNeg, Int.reduceEq,  Nat.reduceLT, Nat.reduceLeDiff, Nat.reduceEqDiff, Nat.reduceAdd, Nat.reduceMul, false_or, or_false, true_and, and_true, false_and, and_false, not_false_eq_true, not_true_eq_false, or_self, and_self, true_or, or_true, e_0_1, e_0_2, e_0_3, e_0_4, e_0_5, e_0_6, e_0_7, e_0_8, e_0_9, e_0_10, e_0_11, e_1_0, e_1_2, e_1_3, e_1_4, e_1_5, e_1_6, e_1_7, e_1_8, e_1_9, e_1_10, e_1_11, e_2_0, e_2_1, e_2_3, e_2_4, e_2_5, e_2_6, e_2_7, e_2_8, e_2_9, e_2_10, e_2_11, e_3_0, e_3_1, e_3_2, e_3_4, e_3_5, e_3_6, e_3_7, e_3_8, e_3_9, e_3_10, e_3_11, e_4_0, e_4_1, e_4_2, e_4_3, e_4_5, e_4_6, e_4_7, e_4_8, e_4_9, e_4_10, e_4_11, e_5_0, e_5_1, e_5_2, e_5_3, e_5_4, e_5_6, e_5_7, e_5_8, e_5_9, e_5_10, e_5_11, e_6_0, e_6_1, e_6_2, e_6_3, e_6_4, e_6_5, e_6_7, e_6_8, e_6_9, e_6_10, e_6_11, e_7_0, e_7_1, e_7_2, e_7_3, e_7_4, e_7_5, e_7_6, e_7_8, e_7_9, e_7_10, e_7_11, e_8_0, e_8_1, e_8_2, e_8_3, e_8_4, e_8_5, e_8_6, e_8_7, e_8_9, e_8_10, e_8_11, e_9_0, e_9_1, e_9_2, e_9_3, e_9_4, e_9_5, e_9_6, e_9_7, e_9_8, e_9_10, e_9_11, e_10_0, e_10_1, e_10_2, e_10_3, e_10_4, e_10_5, e_10_6, e_10_7, e_10_8, e_10_9, e_10_11, e_11_0, e_11_1, e_11_2, e_11_3, e_11_4, e_11_5, e_11_6, e_11_7, e_11_8, e_11_9, e_11_10, e_38_42, e_38_43, e_38_45, e_38_47, e_38_60, e_38_61, e_38_62, e_38_124, e_42_38, e_42_43, e_42_45, e_42_47, e_42_60, e_42_61, e_42_62, e_42_124, e_43_38, e_43_42, e_43_45, e_43_47, e_43_60, e_43_61, e_43_62, e_43_124, e_45_38, e_45_42, e_45_43, e_45_47, e_45_60, e_45_61, e_45_62, e_45_124, e_47_38, e_47_42, e_47_43, e_47_45, e_47_60, e_47_61, e_47_62, e_47_124, e_60_38, e_60_42, e_60_43, e_60_45, e_60_47, e_60_61, e_60_62, e_60_124, e_61_38, e_61_42, e_61_43, e_61_45, e_61_47, e_61_60, e_61_62, e_61_124, e_62_38, e_62_42, e_62_43, e_62_45, e_62_47, e_62_60, e_62_61, e_62_124, e_124_38, e_124_42, e_124_43, e_124_45, e_124_47, e_124_60, e_124_61, e_124_62, x5, d]) r
  by_cases x6 : x = 6
  · exact so_q (sg_I σ 344 27) (by simp only [Option.bind_some, ↓reduceIte, gI_I, gI_R, gI_J, gR_I, gR_R, gR_J, gL_I, gL_R, gL_J, gN_I, gN_R, gN_J, gJ_I, gJ_R, Int32.reduceLT, e_1_0, Int32.reduceToNatClampNeg, Int32.reduceToInt, Int.reduceLE, Int.reduceLT, Int.reduceNeg, Int.reduceEq,  Nat.reduceLT, Nat.reduceLeDiff, Nat.reduceEqDiff, Nat.reduceAdd, Nat.reduceMul, false_or, or_false, true_and, and_true, false_and, and_false, not_false_eq_true, not_true_eq_false, or_self, and_self, true_or, or_true, e_0_1, e_0_2, e_0_3, e_0_4, e_0_5, e_0_6, e_0_7, e_0_8, e_0_9, e_0_10, e_0_11, e_1_0, e_1_2, e_1_3, e_1_4, e_1_5, e_1_6, e_1_7, e_1_8, e_1_9, e_1_10, e_1_11, e_2_0, e_2_1, e_2_3, e_2_4, e_2_5, e_2_6, e_2_7, e_2_8, e_2_9, e_2_10, e_2_11, e_3_0, e_3_1, e_3_2, e_3_4, e_3_5, e_3_6, e_3_7, e_3_8, e_3_9, e_3_10, e_3_11, e_4_0, e_4_1, e_4_2, e_4_3, e_4_5, e_4_6, e_4_7, e_4_8, e_4_9, e_4_10, e_4_11, e_5_0, e_5_1, e_5_2, e_5_3, e_5_4, e_5_6, e_5_7, e_5_8, e_5_9, e_5_10, e_5_11, e_6_0, e_6_1, e_6_2, e_6_3, e_6_4, e_6_5, e_6_7, e_6_8, e_6_9, e_6_10, e_6_11, e_7_0, e_7_1, e_7_2, e_7_3, e_7_4, e_7_5, e_7_6, e_7_8, e_7_9, e_7_10, e_7_11, e_8_0, e_8_1, e_8_2, e_8_3, e_8_4, e_8_5, e_8_6, e_8_7, e_8_9, e_8_10, e_8_11, e_9_0, e_9_1, e_9_2, e_9_3, e_9_4, e_9_5, e_9_6, e_9_7, e_9_8, e_9_10, e_9_11, e_10_0, e_10_1, e_10_2, e_10_3, e_10_4, e_10_5, e_10_6, e_10_7, e_10_8, e_10_9, e_10_11, e_11_0, e_11_1, e_11_2, e_11_3, e_11_4, e_11_5, e_11_6, e_11_7, e_11_8, e_11_9, e_11_10, e_38_42, e_38_43, e_38_45, e_38_47, e_38_60, e_38_61, e_38_62, e_38_124, e_42_38, e_42_43, e_42_45, e_42_47, e_42_60, e_42_61, e_42_62, e_42_124, e_43_38, e_43_42, e_43_45, e_43_47, e_43_60, e_43_61, e_43_62, e_43_124, e_45_38, e_45_42, e_45_43, e_45_47, e_45_60, e_45_61, e_45_62, e_45_124, e_47_38, e_47_42, e_47_43, e_47_45, e_47_60, e_47_61, e_47_62, e_47_124, e_60_38, e_60_42, e_60_43, e_60_45, e_60_47, e_60_61, e_60_62, e_60_124, e_61_38, e_61_42, e_61_43, e_61_45, e_61_47, e_61_60, e_61_62, e_61_124, e_62_38, e_62_42, e_62_43, e_62_45, e_62_47, e_62_60, e_62_61, e_62_124, e_124_38, e_124_42, e_124_43, e_124_45, e_124_47, e_124_60, e_124_61, e_124_62, x6, mi.1]) (by simp only [Option.bind_some, ↓reduceIte, gI_I, gI_R, gI_J, gR_I, gR_R, gR_J, gL_I, gL_R, gL_J, gN_I, gN_R, gN_J, gJ_I, gJ_R, Int32.reduceLT, e_1_0, Int32.reduceToNatClampNeg, Int32.reduceToInt, Int.reduceLE, Int.reduceLT, Int.reduceNeg, Int.reduceEq,  Nat.reduceLT, Nat.reduceLeDiff, Nat.reduceEqDiff, Nat.reduceAdd, Nat.reduceMul, false_or, or_false, true_and, and_true, false_and, and_false, not_false_eq_true, not_true_eq_false, or_self, and_self, true_or, or_true, e_0_1, e_0_2, e_0_3, e_0_4, e_0_5, e_0_6, e_0_7, e_0_8, e_0_9, e_0_10, e_0_11, e_1_0, e_1_2, e_1_3, e_1_4, e_1_5, e_1_6, e_1_7, e_1_8, e_1_9, e_1_10, e_1_11, e_2_0, e_2_1, e_2_3, e_2_4, e_2_5, e_2_6, e_2_7, e_2_8, e_2_9, e_2_10, e_2_11, e_3_0, e_3_1, e_3_2, e_3_4, e_3_5, e_3_6, e_3_7, e_3_8, e_3_9, e_3_10, e_3_11, e_4_0, e_4_1, e_4_2, e_4_3, e_4_5, e_4_6, e_4_7, e_4_8, e_4_9, e_4_10, e_4_11, e_5_0, e_5_1, e_5_2, e_5_3, e_5_4, e_5_6, e_5_7, e_5_8, e_5_9, e_5_10, e_5_11, e_6_0, e_6_1, e_6_2, e_6_3, e_6_4, e_6_5, e_6_7, e_6_8, e_6_9, e_6_10, e_6_11, e_7_0, e_7_1, e_7_2, e_7_3, e_7_4, e_7_5, e_7_6, e_7_8, e_7_9, e_7_10, e_7_11, e_8_0, e_8_1, e_8_2, e_8_3, e_8_4, e_8_5, e_8_6, e_8_7, e_8_9, e_8_10, e_8_11, e_9_0, e_9_1, e_9_2, e_9_3, e_9_4, e_9_5, e_9_6, e_9_7, e_9_8, e_9_10, e_9_11, e_10_0, e_10_1, e_10_2, e_10_3, e_10_4, e_10_5, e_10_6, e_10_7, e_10_8, e_10_9, e_10_11, e_11_0, e_11_1, e_11_2, e_11_3, e_11_4, e_11_5, e_11_6, e_11_7, e_11_8, e_11_9, e_11_10, e_38_42, e_38_43, e_38_45, e_38_47, e_38_60, e_38_61, e_38_62, e_38_124, e_42_38, e_42_43, e_42_45, e_42_47, e_42_60, e_42_61, e_42_62, e_42_124, e_43_38, e_43_42, e_43_45, e_43_47, e_43_60, e_43_61, e_43_62, e_43_124, e_45_38, e_45_42, e_45_43, e_45_47, e_45_60, e_45_61, e_45_62, e_45_124, e_47_38, e_47_42, e_47_43, e_47_45, e_47_60, e_47_61, e_47_62, e_47_124, e_60_38, e_60_42, e_60_43, e_60_45, e_60_47, e_60_61, e_60_62, e_60_124, e_61_38, e_61_42, e_61_43, e_61_45, e_61_47, e_61_60, e_61_62, e_61_124, e_62_38, e_62_42, e_62_43, e_62_45, e_62_47, e_62_60, e_62_61, e_62_124, e_124_38, e_124_42, e_124_43, e_124_45, e_124_47, e_124_60, e_124_61, e_124_62, x6]) r
  by_cases x7 : x = 7
  · exact so_q (Int32.ofNat q) (by simp only [Option.bind_some, ↓reduceIte, gI_I, gI_R, gI_J, gR_I, gR_R, gR_J, gL_I, gL_R, gL_J, gN_I, gN_R, gN_J, gJ_I, gJ_R, Int32.reduceLT, e_1_0, Int32.reduceToNatClampNeg, Int32.reduceToInt, Int.reduceLE, Int.reduceLT, Int.reduceNeg, Int.reduceEq,  Nat.reduceLT, Nat.reduceLeDiff, Nat.reduceEqDiff, Nat.reduceAdd, Nat.reduceMul, false_or, or_false, true_and, and_true, false_and, and_false, not_false_eq_true, not_true_eq_false, or_self, and_self, true_or, or_true, e_0_1, e_0_2, e_0_3, e_0_4, e_0_5, e_0_6, e_0_7, e_0_8, e_0_9, e_0_10, e_0_11, e_1_0, e_1_2, e_1_3, e_1_4, e_1_5, e_1_6, e_1_7, e_1_8, e_1_9, e_1_10, e_1_11, e_2_0, e_2_1, e_2_3, e_2_4, e_2_5, e_2_6, e_2_7, e_2_8, e_2_9, e_2_10, e_2_11, e_3_0, e_3_1, e_3_2, e_3_4, e_3_5, e_3_6, e_3_7, e_3_8, e_3_9, e_3_10, e_3_11, e_4_0, e_4_1, e_4_2, e_4_3, e_4_5, e_4_6, e_4_7, e_4_8, e_4_9, e_4_10, e_4_11, e_5_0, e_5_1, e_5_2, e_5_3, e_5_4, e_5_6, e_5_7, e_5_8, e_5_9, e_5_10, e_5_11, e_6_0, e_6_1, e_6_2, e_6_3, e_6_4, e_6_5, e_6_7, e_6_8, e_6_9, e_6_10, e_6_11, e_7_0, e_7_1, e_7_2, e_7_3, e_7_4, e_7_5, e_7_6, e_7_8, e_7_9, e_7_10, e_7_11, e_8_0, e_8_1, e_8_2, e_8_3, e_8_4, e_8_5, e_8_6, e_8_7, e_8_9, e_8_10, e_8_11, e_9_0, e_9_1, e_9_2, e_9_3, e_9_4, e_9_5, e_9_6, e_9_7, e_9_8, e_9_10, e_9_11, e_10_0, e_10_1, e_10_2, e_10_3, e_10_4, e_10_5, e_10_6, e_10_7, e_10_8, e_10_9, e_10_11, e_11_0, e_11_1, e_11_2, e_11_3, e_11_4, e_11_5, e_11_6, e_11_7, e_11_8, e_11_9, e_11_10, e_38_42, e_38_43, e_38_45, e_38_47, e_38_60, e_38_61, e_38_62, e_38_124, e_42_38, e_42_43, e_42_45, e_42_47, e_42_60, e_42_61, e_42_62, e_42_124, e_43_38, e_43_42, e_43_45, e_43_47, e_43_60, e_43_61, e_43_62, e_43_124, e_45_38, e_45_42, e_45_43, e_45_47, e_45_60, e_45_61, e_45_62, e_45_124, e_47_38, e_47_42, e_47_43, e_47_45, e_47_60, e_47_61, e_47_62, e_47_124, e_60_38, e_60_42, e_60_43, e_60_45, e_60_47, e_60_61, e_60_62, e_60_124, e_61_38, e_61_42, e_61_43, e_61_45, e_61_47, e_61_60, e_61_62, e_61_124, e_62_38, e_62_42, e_62_43, e_62_45, e_62_47, e_62_60, e_62_61, e_62_124, e_124_38, e_124_42, e_124_43, e_124_45, e_124_47, e_124_60, e_124_61, e_124_62, x7, c, q2]) (by simp only [Option.bind_some, ↓reduceIte, gI_I, gI_R, gI_J, gR_I, gR_R, gR_J, gL_I, gL_R, gL_J, gN_I, gN_R, gN_J, gJ_I, gJ_R, Int32.reduceLT, e_1_0, Int32.reduceToNatClampNeg, Int32.reduceToInt, Int.reduceLE, Int.reduceLT, Int.reduceNeg, Int.reduceEq,  Nat.reduceLT, Nat.reduceLeDiff, Nat.reduceEqDiff, Nat.reduceAdd, Nat.reduceMul, false_or, or_false, true_and, and_true, false_and, and_false, not_false_eq_true, not_true_eq_false, or_self, and_self, true_or, or_true, e_0_1, e_0_2, e_0_3, e_0_4, e_0_5, e_0_6, e_0_7, e_0_8, e_0_9, e_0_10, e_0_11, e_1_0, e_1_2, e_1_3, e_1_4, e_1_5, e_1_6, e_1_7, e_1_8, e_1_9, e_1_10, e_1_11, e_2_0, e_2_1, e_2_3, e_2_4, e_2_5, e_2_6, e_2_7, e_2_8, e_2_9, e_2_10, e_2_11, e_3_0, e_3_1, e_3_2, e_3_4, e_3_5, e_3_6, e_3_7, e_3_8, e_3_9, e_3_10, e_3_11, e_4_0, e_4_1, e_4_2, e_4_3, e_4_5, e_4_6, e_4_7, e_4_8, e_4_9, e_4_10, e_4_11, e_5_0, e_5_1, e_5_2, e_5_3, e_5_4, e_5_6, e_5_7, e_5_8, e_5_9, e_5_10, e_5_11, e_6_0, e_6_1, e_6_2, e_6_3, e_6_4, e_6_5, e_6_7, e_6_8, e_6_9, e_6_10, e_6_11, e_7_0, e_7_1, e_7_2, e_7_3, e_7_4, e_7_5, e_7_6, e_7_8, e_7_9, e_7_10, e_7_11, e_8_0, e_8_1, e_8_2, e_8_3, e_8_4, e_8_5, e_8_6, e_8_7, e_8_9, e_8_10, e_8_11, e_9_0, e_9_1, e_9_2, e_9_3, e_9_4, e_9_5, e_9_6, e_9_7, e_9_8, e_9_10, e_9_11, e_10_0, e_10_1, e_10_2, e_10_3, e_10_4, e_10_5, e_10_6, e_10_7, e_10_8, e_10_9, e_10_11, e_11_0, e_11_1, e_11_2, e_11_3, e_11_4, e_11_5, e_11_6, e_11_7, e_11_8, e_11_9, e_11_10, e_38_42, e_38_43, e_38_45, e_38_47, e_38_60, e_38_61, e_38_62, e_38_124, e_42_38, e_42_43, e_42_45, e_42_47, e_42_60, e_42_61, e_42_62, e_42_124, e_43_38, e_43_42, e_43_45, e_43_47, e_43_60, e_43_61, e_43_62, e_43_124, e_45_38, e_45_42, e_45_43, e_45_47, e_45_60, e_45_61, e_45_62, e_45_124, e_47_38, e_47_42, e_47_43, e_47_45, e_47_60, e_47_61, e_47_62, e_47_124, e_60_38, e_60_42, e_60_43, e_60_45, e_60_47, e_60_61, e_60_62, e_60_124, e_61_38, e_61_42, e_61_43, e_61_45, e_61_47, e_61_60, e_61_62, e_61_124, e_62_38, e_62_42, e_62_43, e_62_45, e_62_47, e_62_60, e_62_61, e_62_124, e_124_38, e_124_42, e_124_43, e_124_45, e_124_47, e_124_60, e_124_61, e_124_62, x7, q3]) r
  by_cases x8 : x = 8
  · exact so_q (sg_I σ 359 20) (by simp only [Option.bind_some, ↓reduceIte, gI_I, gI_R, gI_J, gR_I, gR_R, gR_J, gL_I, gL_R, gL_J, gN_I, gN_R, gN_J, gJ_I, gJ_R, Int32.reduceLT, e_1_0, Int32.reduceToNatClampNeg, Int32.reduceToInt, Int.reduceLE, Int.reduceLT, Int.reduceNeg, Int.reduceEq,  Nat.reduceLT, Nat.reduceLeDiff, Nat.reduceEqDiff, Nat.reduceAdd, Nat.reduceMul, false_or, or_false, true_and, and_true, false_and, and_false, not_false_eq_true, not_true_eq_false, or_self, and_self, true_or, or_true, e_0_1, e_0_2, e_0_3, e_0_4, e_0_5, e_0_6, e_0_7, e_0_8, e_0_9, e_0_10, e_0_11, e_1_0, e_1_2, e_1_3, e_1_4, e_1_5, e_1_6, e_1_7, e_1_8, e_1_9, e_1_10, e_1_11, e_2_0, e_2_1, e_2_3, e_2_4, e_2_5, e_2_6, e_2_7, e_2_8, e_2_9, e_2_10, e_2_11, e_3_0, e_3_1, e_3_2, e_3_4, e_3_5, e_3_6, e_3_7, e_3_8, e_3_9, e_3_10, e_3_11, e_4_0, e_4_1, e_4_2, e_4_3, e_4_5, e_4_6, e_4_7, e_4_8, e_4_9, e_4_10, e_4_11, e_5_0, e_5_1, e_5_2, e_5_3, e_5_4, e_5_6, e_5_7, e_5_8, e_5_9, e_5_10, e_5_11, e_6_0, e_6_1, e_6_2, e_6_3, e_6_4, e_6_5, e_6_7, e_6_8, e_6_9, e_6_10, e_6_11, e_7_0, e_7_1, e_7_2, e_7_3, e_7_4, e_7_5, e_7_6, e_7_8, e_7_9, e_7_10, e_7_11, e_8_0, e_8_1, e_8_2, e_8_3, e_8_4, e_8_5, e_8_6, e_8_7, e_8_9, e_8_10, e_8_11, e_9_0, e_9_1, e_9_2, e_9_3, e_9_4, e_9_5, e_9_6, e_9_7, e_9_8, e_9_10, e_9_11, e_10_0, e_10_1, e_10_2, e_10_3, e_10_4, e_10_5, e_10_6, e_10_7, e_10_8, e_10_9, e_10_11, e_11_0, e_11_1, e_11_2, e_11_3, e_11_4, e_11_5, e_11_6, e_11_7, e_11_8, e_11_9, e_11_10, e_38_42, e_38_43, e_38_45, e_38_47, e_38_60, e_38_61, e_38_62, e_38_124, e_42_38, e_42_43, e_42_45, e_42_47, e_42_60, e_42_61, e_42_62, e_42_124, e_43_38, e_43_42, e_43_45, e_43_47, e_43_60, e_43_61, e_43_62, e_43_124, e_45_38, e_45_42, e_45_43, e_45_47, e_45_60, e_45_61, e_45_62, e_45_124, e_47_38, e_47_42, e_47_43, e_47_45, e_47_60, e_47_61, e_47_62, e_47_124, e_60_38, e_60_42, e_60_43, e_60_45, e_60_47, e_60_61, e_60_62, e_60_124, e_61_38, e_61_42, e_61_43, e_61_45, e_61_47, e_61_60, e_61_62, e_61_124, e_62_38, e_62_42, e_62_43, e_62_45, e_62_47, e_62_60, e_62_61, e_62_124, e_124_38, e_124_42, e_124_43, e_124_45, e_124_47, e_124_60, e_124_61, e_124_62, x8, c, hrc]) (by simp only [Option.bind_some, ↓reduceIte, gI_I, gI_R, gI_J, gR_I, gR_R, gR_J, gL_I, gL_R, gL_J, gN_I, gN_R, gN_J, gJ_I, gJ_R, Int32.reduceLT, e_1_0, Int32.reduceToNatClampNeg, Int32.reduceToInt, Int.reduceLE, Int.reduceLT, Int.reduceNeg, Int.reduceEq,  Nat.reduceLT, Nat.reduceLeDiff, Nat.reduceEqDiff, Nat.reduceAdd, Nat.reduceMul, false_or, or_false, true_and, and_true, false_and, and_false, not_false_eq_true, not_true_eq_false, or_self, and_self, true_or, or_true, e_0_1, e_0_2, e_0_3, e_0_4, e_0_5, e_0_6, e_0_7, e_0_8, e_0_9, e_0_10, e_0_11, e_1_0, e_1_2, e_1_3, e_1_4, e_1_5, e_1_6, e_1_7, e_1_8, e_1_9, e_1_10, e_1_11, e_2_0, e_2_1, e_2_3, e_2_4, e_2_5, e_2_6, e_2_7, e_2_8, e_2_9, e_2_10, e_2_11, e_3_0, e_3_1, e_3_2, e_3_4, e_3_5, e_3_6, e_3_7, e_3_8, e_3_9, e_3_10, e_3_11, e_4_0, e_4_1, e_4_2, e_4_3, e_4_5, e_4_6, e_4_7, e_4_8, e_4_9, e_4_10, e_4_11, e_5_0, e_5_1, e_5_2, e_5_3, e_5_4, e_5_6, e_5_7, e_5_8, e_5_9, e_5_10, e_5_11, e_6_0, e_6_1, e_6_2, e_6_3, e_6_4, e_6_5, e_6_7, e_6_8, e_6_9, e_6_10, e_6_11, e_7_0, e_7_1, e_7_2, e_7_3, e_7_4, e_7_5, e_7_6, e_7_8, e_7_9, e_7_10, e_7_11, e_8_0, e_8_1, e_8_2, e_8_3, e_8_4, e_8_5, e_8_6, e_8_7, e_8_9, e_8_10, e_8_11, e_9_0, e_9_1, e_9_2, e_9_3, e_9_4, e_9_5, e_9_6, e_9_7, e_9_8, e_9_10, e_9_11, e_10_0, e_10_1, e_10_2, e_10_3, e_10_4, e_10_5, e_10_6, e_10_7, e_10_8, e_10_9, e_10_11, e_11_0, e_11_1, e_11_2, e_11_3, e_11_4, e_11_5, e_11_6, e_11_7, e_11_8, e_11_9, e_11_10, e_38_42, e_38_43, e_38_45, e_38_47, e_38_60, e_38_61, e_38_62, e_38_124, e_42_38, e_42_43, e_42_45, e_42_47, e_42_60, e_42_61, e_42_62, e_42_124, e_43_38, e_43_42, e_43_45, e_43_47, e_43_60, e_43_61, e_43_62, e_43_124, e_45_38, e_45_42, e_45_43, e_45_47, e_45_60, e_45_61, e_45_62, e_45_124, e_47_38, e_47_42, e_47_43, e_47_45, e_47_60, e_47_61, e_47_62, e_47_124, e_60_38, e_60_42, e_60_43, e_60_45, e_60_47, e_60_61, e_60_62, e_60_124, e_61_38, e_61_42, e_61_43, e_61_45, e_61_47, e_61_60, e_61_62, e_61_124, e_62_38, e_62_42, e_62_43, e_62_45, e_62_47, e_62_60, e_62_61, e_62_124, e_124_38, e_124_42, e_124_43, e_124_45, e_124_47, e_124_60, e_124_61, e_124_62, x8, d]) r
  by_cases x9 : x = 9
  · exact so_q (Int32.ofNat a) (by simp only [Option.bind_some, ↓reduceIte, gI_I, gI_R, gI_J, gR_I, gR_R, gR_J, gL_I, gL_R, gL_J, gN_I, gN_R, gN_J, gJ_I, gJ_R, Int32.reduceLT, e_1_0, Int32.reduceToNatClampNeg, Int32.reduceToInt, Int.reduceLE, Int.reduceLT, Int.reduceNeg, Int.reduceEq,  Nat.reduceLT, Nat.reduceLeDiff, Nat.reduceEqDiff, Nat.reduceAdd, Nat.reduceMul, false_or, or_false, true_and, and_true, false_and, and_false, not_false_eq_true, not_true_eq_false, or_self, and_self, true_or, or_true, e_0_1, e_0_2, e_0_3, e_0_4, e_0_5, e_0_6, e_0_7, e_0_8, e_0_9, e_0_10, e_0_11, e_1_0, e_1_2, e_1_3, e_1_4, e_1_5, e_1_6, e_1_7, e_1_8, e_1_9, e_1_10, e_1_11, e_2_0, e_2_1, e_2_3, e_2_4, e_2_5, e_2_6, e_2_7, e_2_8, e_2_9, e_2_10, e_2_11, e_3_0, e_3_1, e_3_2, e_3_4, e_3_5, e_3_6, e_3_7, e_3_8, e_3_9, e_3_10, e_3_11, e_4_0, e_4_1, e_4_2, e_4_3, e_4_5, e_4_6, e_4_7, e_4_8, e_4_9, e_4_10, e_4_11, e_5_0, e_5_1, e_5_2, e_5_3, e_5_4, e_5_6, e_5_7, e_5_8, e_5_9, e_5_10, e_5_11, e_6_0, e_6_1, e_6_2, e_6_3, e_6_4, e_6_5, e_6_7, e_6_8, e_6_9, e_6_10, e_6_11, e_7_0, e_7_1, e_7_2, e_7_3, e_7_4, e_7_5, e_7_6, e_7_8, e_7_9, e_7_10, e_7_11, e_8_0, e_8_1, e_8_2, e_8_3, e_8_4, e_8_5, e_8_6, e_8_7, e_8_9, e_8_10, e_8_11, e_9_0, e_9_1, e_9_2, e_9_3, e_9_4, e_9_5, e_9_6, e_9_7, e_9_8, e_9_10, e_9_11, e_10_0, e_10_1, e_10_2, e_10_3, e_10_4, e_10_5, e_10_6, e_10_7, e_10_8, e_10_9, e_10_11, e_11_0, e_11_1, e_11_2, e_11_3, e_11_4, e_11_5, e_11_6, e_11_7, e_11_8, e_11_9, e_11_10, e_38_42, e_38_43, e_38_45, e_38_47, e_38_60, e_38_61, e_38_62, e_38_124, e_42_38, e_42_43, e_42_45, e_42_47, e_42_60, e_42_61, e_42_62, e_42_124, e_43_38, e_43_42, e_43_45, e_43_47, e_43_60, e_43_61, e_43_62, e_43_124, e_45_38, e_45_42, e_45_43, e_45_47, e_45_60, e_45_61, e_45_62, e_45_124, e_47_38, e_47_42, e_47_43, e_47_45, e_47_60, e_47_61, e_47_62, e_47_124, e_60_38, e_60_42, e_60_43, e_60_45, e_60_47, e_60_61, e_60_62, e_60_124, e_61_38, e_61_42, e_61_43, e_61_45, e_61_47, e_61_60, e_61_62, e_61_124, e_62_38, e_62_42, e_62_43, e_62_45, e_62_47, e_62_60, e_62_61, e_62_124, e_124_38, e_124_42, e_124_43, e_124_45, e_124_47, e_124_60, e_124_61, e_124_62, x9, c, a3]) (by simp only [Option.bind_some, ↓reduceIte, gI_I, gI_R, gI_J, gR_I, gR_R, gR_J, gL_I, gL_R, gL_J, gN_I, gN_R, gN_J, gJ_I, gJ_R, Int32.reduceLT, e_1_0, Int32.reduceToNatClampNeg, Int32.reduceToInt, Int.reduceLE, Int.reduceLT, Int.reduceNeg, Int.reduceEq,  Nat.reduceLT, Nat.reduceLeDiff, Nat.reduceEqDiff, Nat.reduceAdd, Nat.reduceMul, false_or, or_false, true_and, and_true, false_and, and_false, not_false_eq_true, not_true_eq_false, or_self, and_self, true_or, or_true, e_0_1, e_0_2, e_0_3, e_0_4, e_0_5, e_0_6, e_0_7, e_0_8, e_0_9, e_0_10, e_0_11, e_1_0, e_1_2, e_1_3, e_1_4, e_1_5, e_1_6, e_1_7, e_1_8, e_1_9, e_1_10, e_1_11, e_2_0, e_2_1, e_2_3, e_2_4, e_2_5, e_2_6, e_2_7, e_2_8, e_2_9, e_2_10, e_2_11, e_3_0, e_3_1, e_3_2, e_3_4, e_3_5, e_3_6, e_3_7, e_3_8, e_3_9, e_3_10, e_3_11, e_4_0, e_4_1, e_4_2, e_4_3, e_4_5, e_4_6, e_4_7, e_4_8, e_4_9, e_4_10, e_4_11, e_5_0, e_5_1, e_5_2, e_5_3, e_5_4, e_5_6, e_5_7, e_5_8, e_5_9, e_5_10, e_5_11, e_6_0, e_6_1, e_6_2, e_6_3, e_6_4, e_6_5, e_6_7, e_6_8, e_6_9, e_6_10, e_6_11, e_7_0, e_7_1, e_7_2, e_7_3, e_7_4, e_7_5, e_7_6, e_7_8, e_7_9, e_7_10, e_7_11, e_8_0, e_8_1, e_8_2, e_8_3, e_8_4, e_8_5, e_8_6, e_8_7, e_8_9, e_8_10, e_8_11, e_9_0, e_9_1, e_9_2, e_9_3, e_9_4, e_9_5, e_9_6, e_9_7, e_9_8, e_9_10, e_9_11, e_10_0, e_10_1, e_10_2, e_10_3, e_10_4, e_10_5, e_10_6, e_10_7, e_10_8, e_10_9, e_10_11, e_11_0, e_11_1, e_11_2, e_11_3, e_11_4, e_11_5, e_11_6, e_11_7, e_11_8, e_11_9, e_11_10, e_38_42, e_38_43, e_38_45, e_38_47, e_38_60, e_38_61, e_38_62, e_38_124, e_42_38, e_42_43, e_42_45, e_42_47, e_42_60, e_42_61, e_42_62, e_42_124, e_43_38, e_43_42, e_43_45, e_43_47, e_43_60, e_43_61, e_43_62, e_43_124, e_45_38, e_45_42, e_45_43, e_45_47, e_45_60, e_45_61, e_45_62, e_45_124, e_47_38, e_47_42, e_47_43, e_47_45, e_47_60, e_47_61, e_47_62, e_47_124, e_60_38, e_60_42, e_60_43, e_60_45, e_60_47, e_60_61, e_60_62, e_60_124, e_61_38, e_61_42, e_61_43, e_61_45, e_61_47, e_61_60, e_61_62, e_61_124, e_62_38, e_62_42, e_62_43, e_62_45, e_62_47, e_62_60, e_62_61, e_62_124, e_124_38, e_124_42, e_124_43, e_124_45, e_124_47, e_124_60, e_124_61, e_124_62, x9, a4]) r
  exact so_q (-1000000) (by simp only [Option.bind_some, ↓reduceIte, gI_I, gI_R, gI_J, gR_I, gR_R, gR_J, gL_I, gL_R, gL_J, gN_I, gN_R, gN_J, gJ_I, gJ_R, Int32.reduceLT, e_1_0, Int32.reduceToNatClampNeg, Int32.reduceToInt, Int.reduceLE, Int.reduceLT, Int.reduceNeg, Int.reduceEq,  Nat.reduceLT, Nat.reduceLeDiff, Nat.reduceEqDiff, Nat.reduceAdd, Nat.reduceMul, false_or, or_false, true_and, and_true, false_and, and_false, not_false_eq_true, not_true_eq_false, or_self, and_self, true_or, or_true, e_0_1, e_0_2, e_0_3, e_0_4, e_0_5, e_0_6, e_0_7, e_0_8, e_0_9, e_0_10, e_0_11, e_1_0, e_1_2, e_1_3, e_1_4, e_1_5, e_1_6, e_1_7, e_1_8, e_1_9, e_1_10, e_1_11, e_2_0, e_2_1, e_2_3, e_2_4, e_2_5, e_2_6, e_2_7, e_2_8, e_2_9, e_2_10, e_2_11, e_3_0, e_3_1, e_3_2, e_3_4, e_3_5, e_3_6, e_3_7, e_3_8, e_3_9, e_3_10, e_3_11, e_4_0, e_4_1, e_4_2, e_4_3, e_4_5, e_4_6, e_4_7, e_4_8, e_4_9, e_4_10, e_4_11, e_5_0, e_5_1, e_5_2, e_5_3, e_5_4, e_5_6, e_5_7, e_5_8, e_5_9, e_5_10, e_5_11, e_6_0, e_6_1, e_6_2, e_6_3, e_6_4, e_6_5, e_6_7, e_6_8, e_6_9, e_6_10, e_6_11, e_7_0, e_7_1, e_7_2, e_7_3, e_7_4, e_7_5, e_7_6, e_7_8, e_7_9, e_7_10, e_7_11, e_8_0, e_8_1, e_8_2, e_8_3, e_8_4, e_8_5, e_8_6, e_8_7, e_8_9, e_8_10, e_8_11, e_9_0, e_9_1, e_9_2, e_9_3, e_9_4, e_9_5, e_9_6, e_9_7, e_9_8, e_9_10, e_9_11, e_10_0, e_10_1, e_10_2, e_10_3, e_10_4, e_10_5, e_10_6, e_10_7, e_10_8, e_10_9, e_10_11, e_11_0, e_11_1, e_11_2, e_11_3, e_11_4, e_11_5, e_11_6, e_11_7, e_11_8, e_11_9, e_11_10, e_38_42, e_38_43, e_38_45, e_38_47, e_38_60, e_38_61, e_38_62, e_38_124, e_42_38, e_42_43, e_42_45, e_42_47, e_42_60, e_42_61, e_42_62, e_42_124, e_43_38, e_43_42, e_43_45, e_43_47, e_43_60, e_43_61, e_43_62, e_43_124, e_45_38, e_45_42, e_45_43, e_45_47, e_45_60, e_45_61, e_45_62, e_45_124, e_47_38, e_47_42, e_47_43, e_47_45, e_47_60, e_47_61, e_47_62, e_47_124, e_60_38, e_60_42, e_60_43, e_60_45, e_60_47, e_60_61, e_60_62, e_60_124, e_61_38, e_61_42, e_61_43, e_61_45, e_61_47, e_61_60, e_61_62, e_61_124, e_62_38, e_62_42, e_62_43, e_62_45, e_62_47, e_62_60, e_62_61, e_62_124, e_124_38, e_124_42, e_124_43, e_124_45, e_124_47, e_124_60, e_124_61, e_124_62, x0, x1, x2, x3, x4, x5, x6, x7, x8, x9]) (by simp only [Option.bind_some, ↓reduceIte, gI_I, gI_R, gI_J, gR_I, gR_R, gR_J, gL_I, gL_R, gL_J, gN_I, gN_R, gN_J, gJ_I, gJ_R, Int32.reduceLT, e_1_0, Int32.reduceToNatClampNeg, Int32.reduceToInt, Int.reduceLE, Int.reduceLT, Int.reduceNeg, Int.reduceEq,  Nat.reduceLT, Nat.reduceLeDiff, Nat.reduceEqDiff, Nat.reduceAdd, Nat.reduceMul, false_or, or_false, true_and, and_true, false_and, and_false, not_false_eq_true, not_true_eq_false, or_self, and_self, true_or, or_true, e_0_1, e_0_2, e_0_3, e_0_4, e_0_5, e_0_6, e_0_7, e_0_8, e_0_9, e_0_10, e_0_11, e_1_0, e_1_2, e_1_3, e_1_4, e_1_5, e_1_6, e_1_7, e_1_8, e_1_9, e_1_10, e_1_11, e_2_0, e_2_1, e_2_3, e_2_4, e_2_5, e_2_6, e_2_7, e_2_8, e_2_9, e_2_10, e_2_11, e_3_0, e_3_1, e_3_2, e_3_4, e_3_5, e_3_6, e_3_7, e_3_8, e_3_9, e_3_10, e_3_11, e_4_0, e_4_1, e_4_2, e_4_3, e_4_5, e_4_6, e_4_7, e_4_8, e_4_9, e_4_10, e_4_11, e_5_0, e_5_1, e_5_2, e_5_3, e_5_4, e_5_6, e_5_7, e_5_8, e_5_9, e_5_10, e_5_11, e_6_0, e_6_1, e_6_2, e_6_3, e_6_4, e_6_5, e_6_7, e_6_8, e_6_9, e_6_10, e_6_11, e_7_0, e_7_1, e_7_2, e_7_3, e_7_4, e_7_5, e_7_6, e_7_8, e_7_9, e_7_10, e_7_11, e_8_0, e_8_1, e_8_2, e_8_3, e_8_4, e_8_5, e_8_6, e_8_7, e_8_9, e_8_10, e_8_11, e_9_0, e_9_1, e_9_2, e_9_3, e_9_4, e_9_5, e_9_6, e_9_7, e_9_8, e_9_10, e_9_11, e_10_0, e_10_1, e_10_2, e_10_3, e_10_4, e_10_5, e_10_6, e_10_7, e_10_8, e_10_9, e_10_11, e_11_0, e_11_1, e_11_2, e_11_3, e_11_4, e_11_5, e_11_6, e_11_7, e_11_8, e_11_9, e_11_10, e_38_42, e_38_43, e_38_45, e_38_47, e_38_60, e_38_61, e_38_62, e_38_124, e_42_38, e_42_43, e_42_45, e_42_47, e_42_60, e_42_61, e_42_62, e_42_124, e_43_38, e_43_42, e_43_45, e_43_47, e_43_60, e_43_61, e_43_62, e_43_124, e_45_38, e_45_42, e_45_43, e_45_47, e_45_60, e_45_61, e_45_62, e_45_124, e_47_38, e_47_42, e_47_43, e_47_45, e_47_60, e_47_61, e_47_62, e_47_124, e_60_38, e_60_42, e_60_43, e_60_45, e_60_47, e_60_61, e_60_62, e_60_124, e_61_38, e_61_42, e_61_43, e_61_45, e_61_47, e_61_60, e_61_62, e_61_124, e_62_38, e_62_42, e_62_43, e_62_45, e_62_47, e_62_60, e_62_61, e_62_124, e_124_38, e_124_42, e_124_43, e_124_45, e_124_47, e_124_60, e_124_61, e_124_62, x0, x1, x2, x3, x4, x5, x6, x7, x8, x9]) r
theorem p2_picture : so_picture p2_I 20000 := by
  intro x y σ r
  have c := Rel.cf r
  have d := Rel.rf r
  obtain ⟨g1, g2, g3⟩ := Rel.hs r
  have is := is_v r x
  have js := js_v r x
  have em : (-1 : Int32).toInt = -1 := rfl
  by_cases g : 0 ≤ x.toInt ∧ x.toInt < hS (sg_I σ)
  · rw [if_pos g] at is js
    obtain ⟨s, hs, rfl⟩ := x_lt g
    obtain ⟨b, e, ⟨b1, b2, b3, b4, b5⟩, b6, -⟩ := Rel.sp r s
    obtain ⟨b7, -, b9⟩ := b6 hs
    have i1 : ¬ Int32.ofNat s < 0 ∧ ¬ 6 ≤ s := ⟨o_nn (by omega), by omega⟩
    have i2 : ¬ Int32.ofNat s < 0 ∧ ¬ 7 ≤ s := ⟨o_nn (by omega), by omega⟩
    have i4 : ¬ (Int32.ofNat s).toInt < 0 := by rw [o_ti (by omega)]; omega
    have i3 : (Int32.ofNat s).toNatClampNeg = s := o_tn (by omega)
    have sz := sz_v b1 b2
    by_cases y1 : y = -1
    · subst y1
      refine so_q (Int32.ofNat (hL (sg_I σ) s)) ?_ ?_ r
      · unfold f_X11_picture
        simp only [Option.bind_some, ↓reduceIte, gI_I, gI_R, gI_J, gR_I, gR_R, gR_J, gL_I, gL_R, gL_J, gN_I, gN_R, gN_J, gJ_I, gJ_R, Int32.reduceLT, e_1_0, Int32.reduceToNatClampNeg, Int32.reduceToInt, Int.reduceLE, Int.reduceLT, Int.reduceNeg, Int.reduceEq,  Nat.reduceLT, Nat.reduceLeDiff, Nat.reduceEqDiff, Nat.reduceAdd, Nat.reduceMul, false_or, or_false, true_and, and_true, false_and, and_false, not_false_eq_true, not_true_eq_false, or_self, and_self, true_or, or_true, is, c, i1, i3, b7, sz]
      · unfold f_X12_picture
        have iv : f_X12_in (-1) (-1) (Int32.ofNat (hL (sg_I σ) s) - 1) = some 1 := in_p (by rw [o_p (by omega)]; omega)
        simp only [Option.bind_some, ↓reduceIte, gI_I, gI_R, gI_J, gR_I, gR_R, gR_J, gL_I, gL_R, gL_J, gN_I, gN_R, gN_J, gJ_I, gJ_R, Int32.reduceLT, e_1_0, Int32.reduceToNatClampNeg, Int32.reduceToInt, Int.reduceLE, Int.reduceLT, Int.reduceNeg, Int.reduceEq,  Nat.reduceLT, Nat.reduceLeDiff, Nat.reduceEqDiff, Nat.reduceAdd, Nat.reduceMul, false_or, or_false, true_and, and_true, false_and, and_false, not_false_eq_true, not_true_eq_false, or_self, and_self, true_or, or_true, js, d, i2, i3, b9, iv]
    · by_cases g4 : 0 ≤ y.toInt ∧ y.toInt < hL (sg_I σ) s
      · obtain ⟨k, hk, rfl⟩ := x_lt g4
        have yn : ¬ Int32.ofNat k < 0 := o_nn (by omega)
        have yl : Int32.ofNat k < Int32.ofNat (hL (sg_I σ) s) := (o_lt (by omega) (by omega)).mpr hk
        refine so_q (hP (sg_I σ) s k) ?_ ?_ r
        · unfold f_X11_picture
          simp only [Option.bind_some, ↓reduceIte, gI_I, gI_R, gI_J, gR_I, gR_R, gR_J, gL_I, gL_R, gL_J, gN_I, gN_R, gN_J, gJ_I, gJ_R, Int32.reduceLT, e_1_0, Int32.reduceToNatClampNeg, Int32.reduceToInt, Int.reduceLE, Int.reduceLT, Int.reduceNeg, Int.reduceEq,  Nat.reduceLT, Nat.reduceLeDiff, Nat.reduceEqDiff, Nat.reduceAdd, Nat.reduceMul, false_or, or_false, true_and, and_true, false_and, and_false, not_false_eq_true, not_true_eq_false, or_self, and_self, true_or, or_true, is, c, i1, i3, b7, sz, y1, yn, yl, sa_v b1 b2 b3 b4 (fun i hi => (b5 i hi).1), o_ti (show k < 2147483648 by omega)]
          rw [Int.emod_eq_of_lt (by omega) (by omega)]
          rfl
        · unfold f_X12_picture
          have iv : f_X12_in (Int32.ofNat k) (-1) (Int32.ofNat (hL (sg_I σ) s) - 1) = some 1 := in_p (by rw [o_p (by omega), o_ti (by omega)]; omega)
          simp only [Option.bind_some, ↓reduceIte, gI_I, gI_R, gI_J, gR_I, gR_R, gR_J, gL_I, gL_R, gL_J, gN_I, gN_R, gN_J, gJ_I, gJ_R, Int32.reduceLT, e_1_0, Int32.reduceToNatClampNeg, Int32.reduceToInt, Int.reduceLE, Int.reduceLT, Int.reduceNeg, Int.reduceEq,  Nat.reduceLT, Nat.reduceLeDiff, Nat.reduceEqDiff, Nat.reduceAdd, Nat.reduceMul, false_or, or_false, true_and, and_true, false_and, and_false, not_false_eq_true, not_true_eq_false, or_self, and_self, true_or, or_true, js, d, i2, i3, b9, iv, y1]
          rw [l_16, o_mul, o_add, if_neg (o_in (by omega) (by omega)), o_tn (by omega)]
          unfold hP
          rw [if_pos hs]
      · have y2 : y.toInt ≠ -1 := fun h => y1 (i_eq.mpr h)
        refine so_q (-1) ?_ ?_ r
        · unfold f_X11_picture
          simp only [Option.bind_some, ↓reduceIte, gI_I, gI_R, gI_J, gR_I, gR_R, gR_J, gL_I, gL_R, gL_J, gN_I, gN_R, gN_J, gJ_I, gJ_R, Int32.reduceLT, e_1_0, Int32.reduceToNatClampNeg, Int32.reduceToInt, Int.reduceLE, Int.reduceLT, Int.reduceNeg, Int.reduceEq,  Nat.reduceLT, Nat.reduceLeDiff, Nat.reduceEqDiff, Nat.reduceAdd, Nat.reduceMul, false_or, or_false, true_and, and_true, false_and, and_false, not_false_eq_true, not_true_eq_false, or_self, and_self, true_or, or_true, is, c, i1, i4, i3, b7, sz, y1, i_lt, o_ti (show hL (sg_I σ) s < 2147483648 by omega)]
          by_cases g5 : y.toInt < 0
          · rw [if_pos g5]
          · rw [if_neg g5, if_neg (by omega)]
        · unfold f_X12_picture
          have iv : f_X12_in y (-1) (Int32.ofNat (hL (sg_I σ) s) - 1) = some 0 := in_m (by rw [o_p (by omega)]; omega)
          simp only [Option.bind_some, ↓reduceIte, gI_I, gI_R, gI_J, gR_I, gR_R, gR_J, gL_I, gL_R, gL_J, gN_I, gN_R, gN_J, gJ_I, gJ_R, Int32.reduceLT, e_1_0, Int32.reduceToNatClampNeg, Int32.reduceToInt, Int.reduceLE, Int.reduceLT, Int.reduceNeg, Int.reduceEq,  Nat.reduceLT, Nat.reduceLeDiff, Nat.reduceEqDiff, Nat.reduceAdd, Nat.reduceMul, false_or, or_false, true_and, and_true, false_and, and_false, not_false_eq_true, not_true_eq_false, or_self, and_self, true_or, or_true, js, d, i2, i3, b9, iv]
  · rw [if_neg g] at is js
    exact so_q (-1) (by unfold f_X11_picture; simp only [Option.bind_some, ↓reduceIte, gI_I, gI_R, gI_J, gR_I, gR_R, gR_J, gL_I, gL_R, gL_J, gN_I, gN_R, gN_J, gJ_I, gJ_R, Int32.reduceLT, e_1_0, Int32.reduceToNatClampNeg, Int32.reduceToInt, Int.reduceLE, Int.reduceLT, Int.reduceNeg, Int.reduceEq,  Nat.reduceLT, Nat.reduceLeDiff, Nat.reduceEqDiff, Nat.reduceAdd, Nat.reduceMul, false_or, or_false, true_and, and_true, false_and, and_false, not_false_eq_true, not_true_eq_false, or_self, and_self, true_or, or_true, is]) (by unfold f_X12_picture; simp only [Option.bind_some, ↓reduceIte, gI_I, gI_R, gI_J, gR_I, gR_R, gR_J, gL_I, gL_R, gL_J, gN_I, gN_R, gN_J, gJ_I, gJ_R, Int32.reduceLT, e_1_0, Int32.reduceToNatClampNeg, Int32.reduceToInt, Int.reduceLE, Int.reduceLT, Int.reduceNeg, Int.reduceEq,  Nat.reduceLT, Nat.reduceLeDiff, Nat.reduceEqDiff, Nat.reduceAdd, Nat.reduceMul, false_or, or_false, true_and, and_true, false_and, and_false, not_false_eq_true, not_true_eq_false, or_self, and_self, true_or, or_true, js]) r
theorem p2_touch : so_touch p2_I 20000 := by
  intro x
  refine Sm.so ?_
  intro σ ρ r
  obtain ⟨r1, r2, r3, r4, r5, r6, r7, r8, ⟨m1, m2, m3, m4⟩, r10⟩ := r.1
  have e0 : (0 : Int32).toInt = 0 := rfl
  have e9 : (9 : Int32).toInt = 9 := rfl
  by_cases g : 0 ≤ x.toInt ∧ x.toInt ≤ 9
  · by_cases g2 : x = sg_I ρ 344 27
    · refine ⟨(0, σ), (0, ρ), ?_, ?_, rfl, r, FC.rf, FR.rf⟩
      · unfold f_X11_touch
        simp only [i_lt, e0, e9]
        rw [if_neg (by omega), if_neg (by omega), if_pos (g2.trans m1.symm)]
      · unfold f_X12_touch
        simp only [Option.bind_some, ↓reduceIte, gI_I, gI_R, gI_J, gR_I, gR_R, gR_J, gL_I, gL_R, gL_J, gN_I, gN_R, gN_J, gJ_I, gJ_R, Int32.reduceLT, e_1_0, Int32.reduceToNatClampNeg, Int32.reduceToInt, Int.reduceLE, Int.reduceLT, Int.reduceNeg, Int.reduceEq,  Nat.reduceLT, Nat.reduceLeDiff, Nat.reduceEqDiff, Nat.reduceAdd, Nat.reduceMul, false_or, or_false, true_and, and_true, false_and, and_false, not_false_eq_true, not_true_eq_false, or_self, and_self, true_or, or_true, in_v, g]
        rw [if_pos g2]
    · have R : Rel (put_I σ 0 11 x) (put_I ρ 344 27 x) := ⟨rl_x r.1 (tp_d r3 rfl rfl rfl rfl) (st_d r4 rfl rfl (fun a ha => gI_a (by omega)) rfl rfl rfl) (la_d r5 rfl rfl (fun a ha => gI_a (by omega)) rfl rfl (fun a ha => gI_a (by omega))) (sw_d r7 (fun a j h1 h2 => gI_n (by omega)) rfl (fun a ha => gI_a (by omega)) (fun j hj => gI_n (by omega)) (fun j _ => rfl)) (ba_d r8 (fun a h1 h2 => gI_n (by omega))) ⟨rfl, g.1, g.2, m4⟩ (no_d r10 rfl rfl rfl rfl rfl rfl rfl rfl), r.2⟩
      refine ⟨(1, put_I σ 0 11 x), (1, put_I ρ 344 27 x), ?_, ?_, rfl, R, FC.put (by omega), FR.put (by omega)⟩
      · unfold f_X11_touch
        simp only [i_lt, e0, e9]
        rw [if_neg (by omega), if_neg (by omega), if_neg (fun h => g2 (h.trans m1))]
      · unfold f_X12_touch
        simp only [Option.bind_some, ↓reduceIte, gI_I, gI_R, gI_J, gR_I, gR_R, gR_J, gL_I, gL_R, gL_J, gN_I, gN_R, gN_J, gJ_I, gJ_R, Int32.reduceLT, e_1_0, Int32.reduceToNatClampNeg, Int32.reduceToInt, Int.reduceLE, Int.reduceLT, Int.reduceNeg, Int.reduceEq,  Nat.reduceLT, Nat.reduceLeDiff, Nat.reduceEqDiff, Nat.reduceAdd, Nat.reduceMul, false_or, or_false, true_and, and_true, false_and, and_false, not_false_eq_true, not_true_eq_false, or_self, and_self, true_or, or_true, in_v, g]
        rw [if_neg g2]
  · refine ⟨(0, σ), (0, ρ), ?_, ?_, rfl, r, FC.rf, FR.rf⟩
    · unfold f_X11_touch
      simp only [i_lt, e0, e9]
      by_cases g1 : x.toInt < 0
      · rw [if_pos g1]
      · rw [if_neg g1, if_pos (by omega)]
    · unfold f_X12_touch
      simp only [Option.bind_some, ↓reduceIte, gI_I, gI_R, gI_J, gR_I, gR_R, gR_J, gL_I, gL_R, gL_J, gN_I, gN_R, gN_J, gJ_I, gJ_R, Int32.reduceLT, e_1_0, Int32.reduceToNatClampNeg, Int32.reduceToInt, Int.reduceLE, Int.reduceLT, Int.reduceNeg, Int.reduceEq,  Nat.reduceLT, Nat.reduceLeDiff, Nat.reduceEqDiff, Nat.reduceAdd, Nat.reduceMul, false_or, or_false, true_and, and_true, false_and, and_false, not_false_eq_true, not_true_eq_false, or_self, and_self, true_or, or_true, in_v, g]
theorem p2_law : so_law p2_I 20000 := by
  intro x
  refine Sm.so ?_
  intro σ ρ r
  obtain ⟨r1, r2, r3, r4, ⟨m, m1, m2, m3, m4, m5, m6, m7⟩, r6, r7, r8, r9, r10⟩ := r.1
  have em : (-1 : Int32).toInt = -1 := rfl
  have eo := o_ti (show m < 2147483648 by omega)
  by_cases g : -1 ≤ x.toInt ∧ x.toInt < m
  · have R : Rel (put_I σ 0 7 x) (put_I ρ 344 26 x) := ⟨rl_x r.1 (tp_d r3 rfl rfl rfl rfl) (st_d r4 rfl rfl (fun a ha => gI_a (by omega)) rfl rfl rfl) ⟨m, m1, m2, m3, rfl, g.1, g.2, fun i hi => by
          obtain ⟨b, K, b1, b2, b3, b4⟩ := m7 i hi
          refine ⟨b, K, b1, b2, b3, ?_⟩
          unfold lw_1
          rw [gI_a (show b + 1 ≠ 0 by omega), gI_a (show 346 ≠ 344 by decide), gI_a (show 347 ≠ 344 by decide), gI_a (show 349 ≠ 344 by decide), gI_a (show 350 ≠ 344 by decide), gI_a (show 351 ≠ 344 by decide), gI_a (show 352 ≠ 344 by decide)]
          exact b4⟩ (sw_d r7 (fun a j h1 h2 => gI_n (by omega)) rfl (fun a ha => gI_a (by omega)) (fun j hj => gI_n (by omega)) (fun j _ => rfl)) (ba_d r8 (fun a h1 h2 => gI_n (by omega))) (mi_d r9 rfl rfl rfl rfl) (no_d r10 rfl rfl rfl rfl rfl rfl rfl rfl), r.2⟩
    refine ⟨(1, put_I σ 0 7 x), (1, put_I ρ 344 26 x), ?_, ?_, rfl, R, FC.put (by omega), FR.put (by omega)⟩
    · unfold f_X11_law
      simp only [m2, i_lt, em, eo]
      rw [if_neg (by omega), if_pos (by omega)]
    · unfold f_X12_law
      rw [in_v, m3, o_p (by omega), em, if_pos (by omega)]
      simp only [Option.bind_some, ↓reduceIte, gI_I, gI_R, gI_J, gR_I, gR_R, gR_J, gL_I, gL_R, gL_J, gN_I, gN_R, gN_J, gJ_I, gJ_R, Int32.reduceLT, e_1_0, Int32.reduceToNatClampNeg, Int32.reduceToInt, Int.reduceLE, Int.reduceLT, Int.reduceNeg, Int.reduceEq,  Nat.reduceLT, Nat.reduceLeDiff, Nat.reduceEqDiff, Nat.reduceAdd, Nat.reduceMul, false_or, or_false, true_and, and_true, false_and, and_false, not_false_eq_true, not_true_eq_false, or_self, and_self, true_or, or_true]
  · refine ⟨(0, σ), (0, ρ), ?_, ?_, rfl, r, FC.rf, FR.rf⟩
    · unfold f_X11_law
      simp only [m2, i_lt, em, eo]
      by_cases g1 : x.toInt < -1
      · rw [if_pos g1]
      · rw [if_neg g1, if_neg (by omega)]
    · unfold f_X12_law
      rw [in_v, m3, o_p (by omega), em, if_neg (by omega)]
      simp only [Option.bind_some, ↓reduceIte, gI_I, gI_R, gI_J, gR_I, gR_R, gR_J, gL_I, gL_R, gL_J, gN_I, gN_R, gN_J, gJ_I, gJ_R, Int32.reduceLT, e_1_0, Int32.reduceToNatClampNeg, Int32.reduceToInt, Int.reduceLE, Int.reduceLT, Int.reduceNeg, Int.reduceEq,  Nat.reduceLT, Nat.reduceLeDiff, Nat.reduceEqDiff, Nat.reduceAdd, Nat.reduceMul, false_or, or_false, true_and, and_true, false_and, and_false, not_false_eq_true, not_true_eq_false, or_self, and_self, true_or, or_true]
theorem p2_end : so_end p2_I 20000 := by
  intro x
  refine Sm.so ?_
  intro σ ρ r
  obtain ⟨r1, r2, ⟨t, t1, t2, t3, t4⟩, r4, r5, r6, r7, r8, r9, r10⟩ := r.1
  have e0 : (0 : Int32).toInt = 0 := rfl
  have eo := o_ti (show t < 2147483648 by omega)
  by_cases g : 0 ≤ x.toInt ∧ x.toInt ≤ t
  · have R : Rel (put_I σ 0 1 x) (put_I ρ 344 2 x) := by
      obtain ⟨k, hk, rfl⟩ := x_ob g
      exact ⟨rl_x r.1 ⟨k, by omega, rfl, rfl, fun i hi => t4 i (by omega)⟩ (st_d r4 rfl rfl (fun a ha => gI_a (by omega)) rfl rfl rfl) (la_d r5 rfl rfl (fun a ha => gI_a (by omega)) rfl rfl (fun a ha => gI_a (by omega))) (sw_d r7 (fun a j h1 h2 => gI_n (by omega)) rfl (fun a ha => gI_a (by omega)) (fun j hj => gI_n (by omega)) (fun j _ => rfl)) (ba_d r8 (fun a h1 h2 => gI_n (by omega))) (mi_d r9 rfl rfl rfl rfl) (no_d r10 rfl rfl rfl rfl rfl rfl rfl rfl), r.2⟩
    refine ⟨(1, put_I σ 0 1 x), (1, put_I ρ 344 2 x), ?_, ?_, rfl, R, FC.put (by omega), FR.put (by omega)⟩
    · unfold f_X11_end
      simp only [t2, i_lt, e0, eo]
      rw [if_neg (by omega), if_neg (by omega)]
    · unfold f_X12_end
      simp only [t3, i_lt, e0, eo]
      rw [if_neg (by omega), if_neg (by omega)]
  · refine ⟨(0, σ), (0, ρ), ?_, ?_, rfl, r, FC.rf, FR.rf⟩
    · unfold f_X11_end
      simp only [t2, i_lt, e0, eo]
      by_cases g1 : x.toInt < 0
      · rw [if_pos g1]
      · rw [if_neg g1, if_pos (by omega)]
    · unfold f_X12_end
      simp only [t3, i_lt, e0, eo]
      by_cases g1 : x.toInt < 0
      · rw [if_pos g1]
      · rw [if_neg g1, if_pos (by omega)]
theorem and1_ (x : Int32) : x &&& 1 = 0 ∨ x &&& 1 = 1 := by
  have e : (x &&& 1).toBitVec = (BitVec.ofBool (x.toBitVec.getLsbD 0)).setWidth 32 := by
    show x.toBitVec &&& 1#32 = _
    exact BitVec.and_one_eq_setWidth_ofBool_getLsbD
  cases h : x.toBitVec.getLsbD 0 with
  | false =>
    left
    apply Int32.toBitVec_inj.mp
    rw [e, h]
    rfl
  | true =>
    right
    apply Int32.toBitVec_inj.mp
    rw [e, h]
    rfl
theorem p2_log : so_log p2_I 20000 := by
  intro x y σ r
  obtain ⟨n, h1, h2, h3, ⟨-, s2, s3, s4, s5, s6, s7, s8⟩, h5⟩ := Rel.nw r
  have c := Rel.cf r
  have d := Rel.rf r
  obtain ⟨e, f1, f2, f3, f4⟩ := s7
  simp only [Nat.zero_add] at f3 f4
  have f2' : e < 2147483648 := by
    have := i_hi (sg_I σ 17 5)
    omega
  have hrc : f_X7_rowCount 17 σ = some (Int32.ofNat (min 60 e)) := by
    unfold f_X7_rowCount
    rw [f1, l_60, min_v (by omega) f2']
    rfl
  have e0 : (0 : Int32).toInt = 0 := rfl
  have e3 : (3 : Int32).toInt = 3 := rfl
  have e4 : (4 : Int32).toInt = 4 := rfl
  have eo := o_ti (show min 60 e < 2147483648 by omega)
  by_cases g : 0 ≤ x.toInt ∧ x.toInt < (min 60 e : Nat)
  · by_cases gy : 0 ≤ y.toInt ∧ y.toInt ≤ 3
    · obtain ⟨i, hi, rfl⟩ := x_lt g
      obtain ⟨w, hw, rfl⟩ := x_ob (B := 3) gy
      refine so_q (sg_I σ 359 (21 + 4 * (min 60 e - 1 - i) + w)) ?_ ?_ r
      · have hrb : f_X7_rowBefore 17 (Int32.ofNat i) σ = some (sg_I σ 19 ((e - 1 - i) % 60)) := by
          unfold f_X7_rowBefore
          rw [f1, l_1, o_sub (by omega), o_sub (by omega), l_60, rd_o (by omega) (by omega), o_ti (by omega)]
          have em : (((e - 1 - i : Nat) : Int) % ((60 : Nat) : Int)).toNat = (e - 1 - i) % 60 := by omega
          rw [em]
          simp only [Option.bind_some, c]
          rw [if_neg (o_in (by omega) (by omega)), o_tn (by omega)]
        unfold f_X11_log
        rw [if_neg (o_nn (by omega))]
        simp only [Option.bind_some, c, hrc]
        rw [if_pos (by rw [o_lt (by omega) (by omega)]; exact hi), if_neg (o_nn (by omega)), if_pos (by rw [l_4, o_lt (by omega) (by omega)]; omega), hrb]
        exact congrArg some (f4 i hi w (by omega))
      · unfold f_X12_log
        have iv : f_X12_in (Int32.ofNat i) 0 (Int32.ofNat (min 60 e) - 1) = some 1 := in_p (by rw [o_p (by omega), o_ti (by omega)]; omega)
        have iu : f_X12_in (Int32.ofNat w) 0 3 = some 1 := in_p (by rw [o_ti (by omega)]; omega)
        simp only [Option.bind_some, ↓reduceIte, gI_I, gI_R, gI_J, gR_I, gR_R, gR_J, gL_I, gL_R, gL_J, gN_I, gN_R, gN_J, gJ_I, gJ_R, Int32.reduceLT, e_1_0, Int32.reduceToNatClampNeg, Int32.reduceToInt, Int.reduceLE, Int.reduceLT, Int.reduceNeg, Int.reduceEq,  Nat.reduceLT, Nat.reduceLeDiff, Nat.reduceEqDiff, Nat.reduceAdd, Nat.reduceMul, false_or, or_false, true_and, and_true, false_and, and_false, not_false_eq_true, not_true_eq_false, or_self, and_self, true_or, or_true, d, f3, iv, iu]
        rw [l_1, o_sub (by omega), o_sub (by omega), l_4, o_mul, l_21, o_add, o_add, if_neg (o_in (by omega) (by omega)), o_tn (by omega)]
    · refine so_q (-1) ?_ ?_ r
      · unfold f_X11_log
        simp only [i_lt, Option.bind_some, c, hrc, e0, e4, eo]
        rw [if_neg (by omega), if_pos (by omega)]
        by_cases q : y.toInt < 0
        · rw [if_pos q]
        · rw [if_neg q, if_neg (by omega)]
      · unfold f_X12_log
        have iv : f_X12_in x 0 (Int32.ofNat (min 60 e) - 1) = some 1 := in_p (by rw [o_p (by omega)]; omega)
        have iu : f_X12_in y 0 3 = some 0 := in_m (by omega)
        simp only [Option.bind_some, ↓reduceIte, gI_I, gI_R, gI_J, gR_I, gR_R, gR_J, gL_I, gL_R, gL_J, gN_I, gN_R, gN_J, gJ_I, gJ_R, Int32.reduceLT, e_1_0, Int32.reduceToNatClampNeg, Int32.reduceToInt, Int.reduceLE, Int.reduceLT, Int.reduceNeg, Int.reduceEq,  Nat.reduceLT, Nat.reduceLeDiff, Nat.reduceEqDiff, Nat.reduceAdd, Nat.reduceMul, false_or, or_false, true_and, and_true, false_and, and_false, not_false_eq_true, not_true_eq_false, or_self, and_self, true_or, or_true, d, f3, iv, iu]
  · refine so_q (-1) ?_ ?_ r
    · unfold f_X11_log
      simp only [i_lt, Option.bind_some, c, hrc, e0, e4, eo]
      by_cases q : x.toInt < 0
      · rw [if_pos q]
      · rw [if_neg q, if_neg (by omega)]
    · unfold f_X12_log
      have iv : f_X12_in x 0 (Int32.ofNat (min 60 e) - 1) = some 0 := in_m (by rw [o_p (by omega)]; omega)
      simp only [Option.bind_some, ↓reduceIte, gI_I, gI_R, gI_J, gR_I, gR_R, gR_J, gL_I, gL_R, gL_J, gN_I, gN_R, gN_J, gJ_I, gJ_R, Int32.reduceLT, e_1_0, Int32.reduceToNatClampNeg, Int32.reduceToInt, Int.reduceLE, Int.reduceLT, Int.reduceNeg, Int.reduceEq,  Nat.reduceLT, Nat.reduceLeDiff, Nat.reduceEqDiff, Nat.reduceAdd, Nat.reduceMul, false_or, or_false, true_and, and_true, false_and, and_false, not_false_eq_true, not_true_eq_false, or_self, and_self, true_or, or_true, d, f3, iv]
theorem p2_noted : so_noted p2_I 20000 := by
  intro x y z
  refine Sm.so ?_
  intro σ ρ r
  obtain ⟨r1, r2, r3, r4, r5, r6, r7, r8, r9, ⟨q, q1, q2, q3, q4⟩⟩ := r.1
  have c := Rel.cf r
  have d := Rel.rf r
  have e0 : (0 : Int32).toInt = 0 := rfl
  have e99 : (99 : Int32).toInt = 99 := rfl
  have e26 : (26 : Int32).toInt = 26 := rfl
  by_cases gx : 0 ≤ x.toInt ∧ x.toInt ≤ 99
  · by_cases gy : 0 ≤ y.toInt ∧ y.toInt ≤ 26
    · by_cases gq : q = 10
      · subst gq
        refine ⟨(-1, σ), (-1, ρ), ?_, ?_, rfl, r, FC.rf, FR.rf⟩
        · unfold f_X11_noted f_X4_add
          simp only [i_lt, Option.bind_some, c, e0, e99, e26, q2, l_10]
          rw [if_neg (by omega), if_neg (by omega), if_neg (by omega), if_neg (by omega), if_neg (by omega)]
          rfl
        · unfold f_X12_noted
          simp only [Option.bind_some, ↓reduceIte, gI_I, gI_R, gI_J, gR_I, gR_R, gR_J, gL_I, gL_R, gL_J, gN_I, gN_R, gN_J, gJ_I, gJ_R, Int32.reduceLT, e_1_0, Int32.reduceToNatClampNeg, Int32.reduceToInt, Int.reduceLE, Int.reduceLT, Int.reduceNeg, Int.reduceEq,  Nat.reduceLT, Nat.reduceLeDiff, Nat.reduceEqDiff, Nat.reduceAdd, Nat.reduceMul, false_or, or_false, true_and, and_true, false_and, and_false, not_false_eq_true, not_true_eq_false, or_self, and_self, true_or, or_true, in_v, gx, gy, q3, l_10]
      · have hq : ¬ Int32.ofNat q < 0 ∧ ¬ 10 ≤ q := ⟨o_nn (by omega), by omega⟩
        have hn : (Int32.ofNat q).toNatClampNeg = q := o_tn (by omega)
        have R : Rel (put_I (put_I (put_I (put_I σ 314 q x) 315 q y) 316 q (z &&& 1)) 313 3 (Int32.ofNat (q + 1))) (put_I (put_I (put_I (put_I ρ 365 q x) 366 q y) 367 q (z &&& 1)) 344 37 (Int32.ofNat (q + 1))) := by
          refine ⟨rl_x r.1 (tp_d r3 rfl rfl rfl rfl) (st_d r4 rfl rfl (fun a ha => ?_) rfl rfl rfl) (la_d r5 rfl rfl (fun a ha => ?_) rfl rfl (fun a ha => ?_)) (sw_d r7 (fun a j h1 h2 => ?_) rfl (fun a ha => ?_) (fun j hj => ?_) (fun j _ => rfl)) (ba_d r8 (fun a h1 h2 => ?_)) (mi_d r9 rfl rfl rfl rfl) ⟨q + 1, by omega, rfl, rfl, fun i hi => ?_⟩, r.2⟩
          · rw [gI_a (by omega), gI_a (by omega), gI_a (by omega), gI_a (by omega)]
          · rw [gI_a (by omega), gI_a (by omega), gI_a (by omega), gI_a (by omega)]
          · rw [gI_a (by omega), gI_a (by omega), gI_a (by omega), gI_a (by omega)]
          · rw [gI_a (by omega), gI_a (by omega), gI_a (by omega), gI_a (by omega)]
          · rw [gI_a (by omega), gI_a (by omega), gI_a (by omega), gI_a (by omega)]
          · rw [gI_n (by omega), gI_n (by omega), gI_n (by omega), gI_n (by omega)]
          · rw [gI_n (by omega), gI_n (by omega), gI_n (by omega), gI_n (by omega)]
          · by_cases hi2 : i = q
            · subst hi2
              simp only [Option.bind_some, ↓reduceIte, gI_I, gI_R, gI_J, gR_I, gR_R, gR_J, gL_I, gL_R, gL_J, gN_I, gN_R, gN_J, gJ_I, gJ_R, Int32.reduceLT, e_1_0, Int32.reduceToNatClampNeg, Int32.reduceToInt, Int.reduceLE, Int.reduceLT, Int.reduceNeg, Int.reduceEq,  Nat.reduceLT, Nat.reduceLeDiff, Nat.reduceEqDiff, Nat.reduceAdd, Nat.reduceMul, false_or, or_false, true_and, and_true, false_and, and_false, not_false_eq_true, not_true_eq_false, or_self, and_self, true_or, or_true]
              exact ⟨gx.1, gx.2, gy.1, gy.2, and1_ z⟩
            · have q5 := q4 i (by omega)
              simp only [Option.bind_some, ↓reduceIte, gI_I, gI_R, gI_J, gR_I, gR_R, gR_J, gL_I, gL_R, gL_J, gN_I, gN_R, gN_J, gJ_I, gJ_R, Int32.reduceLT, e_1_0, Int32.reduceToNatClampNeg, Int32.reduceToInt, Int.reduceLE, Int.reduceLT, Int.reduceNeg, Int.reduceEq,  Nat.reduceLT, Nat.reduceLeDiff, Nat.reduceEqDiff, Nat.reduceAdd, Nat.reduceMul, false_or, or_false, true_and, and_true, false_and, and_false, not_false_eq_true, not_true_eq_false, or_self, and_self, true_or, or_true, hi2]
              exact q5
        refine ⟨(Int32.ofNat (q + 1), put_I (put_I (put_I (put_I σ 314 q x) 315 q y) 316 q (z &&& 1)) 313 3 (Int32.ofNat (q + 1))), (Int32.ofNat (q + 1), put_I (put_I (put_I (put_I ρ 365 q x) 366 q y) 367 q (z &&& 1)) 344 37 (Int32.ofNat (q + 1))), ?_, ?_, rfl, R, (((FC.put (by omega)).tr (FC.put (by omega))).tr (FC.put (by omega))).tr (FC.put (by omega)), (((FR.put (by omega)).tr (FR.put (by omega))).tr (FR.put (by omega))).tr (FR.put (by omega))⟩
        · unfold f_X11_noted
          simp only [i_lt, e0, e99, e26]
          rw [if_neg (by omega), if_neg (by omega), if_neg (by omega), if_neg (by omega)]
          unfold f_X4_add
          simp only [Option.bind_some, ↓reduceIte, gI_I, gI_R, gI_J, gR_I, gR_R, gR_J, gL_I, gL_R, gL_J, gN_I, gN_R, gN_J, gJ_I, gJ_R, Int32.reduceLT, e_1_0, Int32.reduceToNatClampNeg, Int32.reduceToInt, Int.reduceLE, Int.reduceLT, Int.reduceNeg, Int.reduceEq,  Nat.reduceLT, Nat.reduceLeDiff, Nat.reduceEqDiff, Nat.reduceAdd, Nat.reduceMul, false_or, or_false, true_and, and_true, false_and, and_false, not_false_eq_true, not_true_eq_false, or_self, and_self, true_or, or_true, c, q2, hq, hn]
          rw [if_pos (by rw [l_10, o_lt (by omega) (by omega)]; omega), o_s]
          rfl
        · unfold f_X12_noted
          simp only [Option.bind_some, ↓reduceIte, gI_I, gI_R, gI_J, gR_I, gR_R, gR_J, gL_I, gL_R, gL_J, gN_I, gN_R, gN_J, gJ_I, gJ_R, Int32.reduceLT, e_1_0, Int32.reduceToNatClampNeg, Int32.reduceToInt, Int.reduceLE, Int.reduceLT, Int.reduceNeg, Int.reduceEq,  Nat.reduceLT, Nat.reduceLeDiff, Nat.reduceEqDiff, Nat.reduceAdd, Nat.reduceMul, false_or, or_false, true_and, and_true, false_and, and_false, not_false_eq_true, not_true_eq_false, or_self, and_self, true_or, or_true, in_v, gx, gy, d, q3, hq, hn]
          rw [if_neg (by rw [l_10, o_eq (by omega) (by omega)]; exact gq), o_s]
    · refine ⟨(-1, σ), (-1, ρ), ?_, ?_, rfl, r, FC.rf, FR.rf⟩
      · unfold f_X11_noted
        simp only [i_lt, e0, e99, e26]
        rw [if_neg (by omega), if_neg (by omega)]
        by_cases g1 : y.toInt < 0
        · rw [if_pos g1]
        · rw [if_neg g1, if_pos (by omega)]
      · unfold f_X12_noted
        simp only [Option.bind_some, ↓reduceIte, gI_I, gI_R, gI_J, gR_I, gR_R, gR_J, gL_I, gL_R, gL_J, gN_I, gN_R, gN_J, gJ_I, gJ_R, Int32.reduceLT, e_1_0, Int32.reduceToNatClampNeg, Int32.reduceToInt, Int.reduceLE, Int.reduceLT, Int.reduceNeg, Int.reduceEq,  Nat.reduceLT, Nat.reduceLeDiff, Nat.reduceEqDiff, Nat.reduceAdd, Nat.reduceMul, false_or, or_false, true_and, and_true, false_and, and_false, not_false_eq_true, not_true_eq_false, or_self, and_self, true_or, or_true, in_v, gx, gy]
  · refine ⟨(-1, σ), (-1, ρ), ?_, ?_, rfl, r, FC.rf, FR.rf⟩
    · unfold f_X11_noted
      simp only [i_lt, e0, e99, e26]
      by_cases g1 : x.toInt < 0
      · rw [if_pos g1]
      · rw [if_neg g1, if_pos (by omega)]
    · unfold f_X12_noted
      simp only [Option.bind_some, ↓reduceIte, gI_I, gI_R, gI_J, gR_I, gR_R, gR_J, gL_I, gL_R, gL_J, gN_I, gN_R, gN_J, gJ_I, gJ_R, Int32.reduceLT, e_1_0, Int32.reduceToNatClampNeg, Int32.reduceToInt, Int.reduceLE, Int.reduceLT, Int.reduceNeg, Int.reduceEq,  Nat.reduceLT, Nat.reduceLeDiff, Nat.reduceEqDiff, Nat.reduceAdd, Nat.reduceMul, false_or, or_false, true_and, and_true, false_and, and_false, not_false_eq_true, not_true_eq_false, or_self, and_self, true_or, or_true, in_v, gx]
