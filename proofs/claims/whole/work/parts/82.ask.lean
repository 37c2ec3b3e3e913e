/-! ===== fits ===== -/
theorem ref_k {σ ρ : Sg} (r : Rel σ ρ) {k : Nat} (hk : k < 1000 * hS (sg_I ρ)) : (Int32.ofNat k / 1000 = Int32.ofNat (k / 1000) ∧ rm_ (Int32.ofNat k) 100 = Int32.ofNat (k % 100) ∧ rm_ (Int32.ofNat k / 100) 10 = Int32.ofNat (k / 100 % 10)) ∧ k / 1000 < hS (sg_I ρ) ∧ sg_I ρ 358 (k / 1000) = Int32.ofNat (hL (sg_I ρ) (k / 1000)) ∧ 1 ≤ hL (sg_I ρ) (k / 1000) ∧ hL (sg_I ρ) (k / 1000) ≤ 16 ∧ (k % 100 < hL (sg_I ρ) (k / 1000) ↔ Int32.ofNat (k % 100) < Int32.ofNat (hL (sg_I ρ) (k / 1000))) := by
  have g6 := r.hs.1
  obtain ⟨b, b1, b2, b3, b4, b5⟩ := r.ss (show k / 1000 < hS (sg_I ρ) by omega)
  refine ⟨⟨?_, ?_, ?_⟩, by omega, b3, b4, b5, ?_⟩
  · rw [l_1000, o_div (by omega) (by omega)]
  · rw [l_100, rm_o (by omega) (by omega)]
  · rw [l_100, o_div (by omega) (by omega), l_10, rm_o (by omega) (by omega)]
  · rw [o_lt (by omega) (by omega)]
theorem ft_r {σ ρ : Sg} (r : Rel σ ρ) (i : Int32) : ∀ (j k m c : Nat), k + j = 1000 * hS (sg_I ρ) → j < m → c ≤ k → f_X12_fits_L11 20000 344 m i (Int32.ofNat c) (Int32.ofNat k) ρ = some (sf_ i (if k < 1000 * hS (sg_I ρ) then rk_ (sg_I ρ) k else []) c) := by
  obtain ⟨g1, g2, g3⟩ := r.hs
  have d := r.rf
  have R22 : sg_R ρ 344 22 = some 358 := by simp only [d]
  have L22 : sg_L ρ 358 = 7 := by simp only [d]
  have e1 : (1000 : Int32) * Int32.ofNat (hS (sg_I ρ)) = Int32.ofNat (1000 * hS (sg_I ρ)) := by rw [l_1000, o_mul]
  intro j
  induction j with
  | zero =>
    intro k m c hk hm hc
    obtain ⟨m, rfl⟩ : ∃ x, m = x + 1 := ⟨m - 1, by omega⟩
    rw [f_X12_fits_L11, g3, e1, if_neg (by rw [o_lt (by omega) (by omega)]; omega), if_neg (show ¬ k < 1000 * hS (sg_I ρ) by omega), sf_]
    split <;> rfl
  | succ j ih =>
    intro k m c hk hm hc
    obtain ⟨m, rfl⟩ : ∃ x, m = x + 1 := ⟨m - 1, by omega⟩
    obtain ⟨⟨k1, k2, k3⟩, k4, k5, k6, k7, k8⟩ := ref_k r (show k < 1000 * hS (sg_I ρ) by omega)
    have fit := is_r r k4 (show k / 100 % 10 ≤ 9 by omega) (show k % 100 ≤ 100 by omega)
    rw [f_X12_fits_L11, g3, e1, if_pos (by rw [o_lt (by omega) (by omega)]; omega), f_of R22, L22, k1, k2, k3, if_neg (o_in (by omega) (by omega)), o_tn (by omega), k5, if_pos (show k < 1000 * hS (sg_I ρ) by omega), f_of fit]
    unfold f_X12_fits_B73
    rw [o_s k]
    have nx : ∀ c', c' ≤ k + 1 → f_X12_fits_L11 20000 344 m i (Int32.ofNat c') (Int32.ofNat (k + 1)) ρ = some (sf_ i (if k + 1 < 1000 * hS (sg_I ρ) then rk_ (sg_I ρ) (k + 1) else []) c') := fun c' hc' => ih (k + 1) m c' (by omega) (by omega) hc'
    by_cases hp : k % 100 < hL (sg_I ρ) (k / 1000)
    · have hn : k + 1 < 1000 * hS (sg_I ρ) := by omega
      rw [if_pos (k8.mp hp), rk_a k7 hp]
      rw [if_pos hn] at nx
      cases hb : fi_ (sg_I ρ) (k / 1000) (k / 100 % 10) (k % 100) with
      | false =>
        rw [if_pos bi_f, if_neg (by decide), List.nil_append]
        exact nx c (by omega)
      | true =>
        rw [if_neg bi_t, if_pos rfl]
        show _ = some (sf_ i (k :: rk_ (sg_I ρ) (k + 1)) c)
        rw [sf_]
        by_cases hi : Int32.ofNat c = i
        · rw [if_pos hi, if_pos hi]
        · rw [if_neg hi, if_neg hi, o_s c]
          exact nx (c + 1) (by omega)
    · rw [if_neg (fun q => hp (k8.mpr q))]
      by_cases hn : k + 1 < 1000 * hS (sg_I ρ)
      · rw [if_pos hn] at nx
        rw [rk_b hn k6 (by omega)]
        exact nx c (by omega)
      · rw [if_neg hn] at nx
        rw [rk_z (by omega) k7]
        exact nx c (by omega)
theorem ft_s {σ ρ : Sg} (r : Rel σ ρ) (i : Int32) (hi : ¬ i < -1) : f_X12_fits 20000 344 i ρ = some (sf_ i (fs_ (sg_I ρ) (hS (sg_I ρ)) 0) 0) := by
  have a := ft_r r i (1000 * hS (sg_I ρ)) 0 20000 0 (by omega) (by have := r.hs.1; omega) (by omega)
  have e : (if 0 < 1000 * hS (sg_I ρ) then rk_ (sg_I ρ) 0 else []) = fs_ (sg_I ρ) (hS (sg_I ρ)) 0 := by
    by_cases h : 0 < hS (sg_I ρ)
    · rw [if_pos (by omega), rk_0 h]
    · have h0 : hS (sg_I ρ) = 0 := by omega
      rw [if_neg (by omega), h0]
      rfl
  rw [e] at a
  unfold f_X12_fits
  rw [if_neg hi]
  exact a
theorem sf_m : ∀ (F : List Nat) (c : Nat), c + F.length < 2147483648 → sf_ (-1) F c = Int32.ofNat (c + F.length)
  | [], c, h => rfl
  | x :: l, c, h => by
    rw [List.length_cons] at h
    rw [sf_, if_neg (by
      rw [i_eq, o_ti (by omega)]
      have : (-1 : Int32).toInt = -1 := rfl
      omega), sf_m l (c + 1) (by omega), List.length_cons, show c + 1 + l.length = c + (l.length + 1) by omega]
theorem sf_n : ∀ (F : List Nat) (c n : Nat), c ≤ n → n < 2147483648 → c + F.length < 2147483648 → sf_ (Int32.ofNat n) F c = if n - c < F.length then Int32.ofNat (F.getD (n - c) 0) else -1
  | [], c, n, h, h2, h3 => by
    rw [sf_, if_neg (by
      rw [i_eq, o_ti (by omega)]
      have : (-1 : Int32).toInt = -1 := rfl
      omega)]
    rfl
  | x :: l, c, n, h, h2, h3 => by
    rw [List.length_cons] at h3
    rw [sf_]
    by_cases q : c = n
    · subst q
      rw [if_pos rfl, Nat.sub_self, if_pos (by rw [List.length_cons]; omega)]
      rfl
    · rw [if_neg (by rw [o_eq (by omega) (by omega)]; exact q), sf_n l (c + 1) n (by omega) h2 (by omega), List.length_cons]
      have e : n - c = (n - (c + 1)) + 1 := by omega
      rw [e]
      by_cases q2 : n - (c + 1) < l.length
      · rw [if_pos q2, if_pos (by omega)]
        rfl
      · rw [if_neg q2, if_neg (by omega)]
theorem fa_v {σ τ : Sg} {F : List Nat} (c : CF (sg_R τ) (sg_L τ)) (fd : FD σ τ F) (hF : F.length ≤ 960) (i : Int32) (hi : ¬ i = -1) : f_X4_foundAt 313 i τ = some (if i < 0 then -1 else sf_ i F 0) := by
  have R4 : sg_R τ 313 4 = some 317 := by simp only [c]
  have L317 : sg_L τ 317 = 960 := by simp only [c]
  unfold f_X4_foundAt
  by_cases h : i < 0
  · rw [if_pos h, if_pos h]
  · obtain ⟨n, n1, rfl⟩ := x_o h
    rw [if_neg h, if_neg h, fd.2.1, sf_n F 0 n (by omega) n1 (by omega), Nat.sub_zero]
    by_cases q : n < F.length
    · rw [if_pos (by rw [o_lt (by omega) (by omega)]; exact q), if_pos q, f_of R4, L317, if_neg (o_in (by omega) (by omega)), o_tn (by omega), fd.2.2 n q]
    · rw [if_neg (by rw [o_lt (by omega) (by omega)]; exact q), if_neg q]
/-- the finds of both sides at once, the reference's cells as the class leaves them -/
theorem fd_2 {σ : Sg} (r : p2_I σ) : ∃ τ, f_X4_find 20000 313 (some 13) σ = some τ ∧ FD σ τ (fs_ (sg_I τ) (hS (sg_I τ)) 0) ∧ (fs_ (sg_I τ) (hS (sg_I τ)) 0).length ≤ 960 ∧ p2_I τ := by
  obtain ⟨τ, t1, t2, t3⟩ := fd_e r
  have r2 : Rel σ τ := Rel.ref r t2.1.2.2
  obtain ⟨τ', s1, s2, s3⟩ := fd_e r2
  rw [t1] at s1
  cases s1
  exact ⟨τ, t1, s2, s3, s2.1.rel r2⟩
theorem p2_fits : so_fits p2_I 20000 := by
  intro x σ r
  obtain ⟨τ, t1, t2, t3, t4⟩ := fd_2 r
  have c := Rel.cf r
  have c' := Rel.cf t4
  have R17 : sg_R σ 0 17 = some 313 := by simp only [c]
  have R8 : sg_R σ 0 8 = some 13 := by simp only [c]
  have R17' : sg_R τ 0 17 = some 313 := by simp only [c']
  by_cases hx : x = -1
  · subst hx
    have rf := ft_s t4 (-1) (by decide)
    rw [sf_m _ 0 (by omega), Nat.zero_add] at rf
    refine ⟨(Int32.ofNat (fs_ (sg_I τ) (hS (sg_I τ)) 0).length, τ), _, ?_, rf, rfl, t4⟩
    unfold f_X11_fits
    rw [f_of R17, R8, f_of t1, if_pos rfl, f_of R17', t2.2.1]
  · have fa := fa_v c' t2 t3 x hx
    have cl : f_X11_fits 20000 0 x σ = some (if x < 0 then -1 else sf_ x (fs_ (sg_I τ) (hS (sg_I τ)) 0) 0, τ) := by
      unfold f_X11_fits
      rw [f_of R17, R8, f_of t1, if_neg hx, f_of R17', f_of fa]
    by_cases hx2 : x < -1
    · refine ⟨_, -1, cl, by unfold f_X12_fits; rw [if_pos hx2], ?_, t4⟩
      have e0 : (0 : Int32).toInt = 0 := rfl
      have em : (-1 : Int32).toInt = -1 := rfl
      show (if x < 0 then -1 else sf_ x (fs_ (sg_I τ) (hS (sg_I τ)) 0) 0) = -1
      rw [if_pos (by rw [i_lt] at hx2 ⊢; omega)]
    · have rf := ft_s t4 x hx2
      refine ⟨_, _, cl, rf, ?_, t4⟩
      have e0 : (0 : Int32).toInt = 0 := rfl
      have em : (-1 : Int32).toInt = -1 := rfl
      have hx' : x.toInt ≠ -1 := fun h => hx (i_eq.mpr h)
      show (if x < 0 then -1 else sf_ x (fs_ (sg_I τ) (hS (sg_I τ)) 0) 0) = _
      rw [if_neg (by rw [i_lt] at hx2 ⊢; omega)]
/-! ===== when to look ===== -/
/-- the picture of a find at a tick -/
def pc_ (h : Nat → Nat → Int32) (t x : Nat) : Nat := (hP h (x / 1000) ((x % 100 + x / 100 % 10 * t) % hL h (x / 1000))).toNatClampNeg
def cc_ (h : Nat → Nat → Int32) (t : Nat) : List Nat → Nat → Nat
  | [], _ => 0
  | x :: l, p => cc_ h t l p + (if pc_ h t x = p then 1 else 0)
def mx_ (f : Nat → Nat) : Nat → Nat
  | 0 => 0
  | k + 1 => max (mx_ f k) (f k)
theorem mx_u {f g : Nat → Nat} {c : Nat} (hc : g c = f c + 1) (hg : ∀ k, k ≠ c → g k = f k) : ∀ n, mx_ g n = if c < n then max (mx_ f n) (f c + 1) else mx_ f n
  | 0 => by rw [if_neg (by omega)]; rfl
  | n + 1 => by
    have ih := mx_u hc hg n
    show max (mx_ g n) (g n) = _
    have en : mx_ f (n + 1) = max (mx_ f n) (f n) := rfl
    rw [ih, en]
    by_cases q : c < n
    · rw [if_pos q, if_pos (by omega), hg n (by omega)]
      omega
    · rw [if_neg q]
      by_cases q2 : n = c
      · subst q2
        rw [if_pos (by omega), hc]
        omega
      · rw [if_neg (by omega), hg n q2]
theorem cc_le {h : Nat → Nat → Int32} {t p : Nat} : ∀ l : List Nat, cc_ h t l p ≤ l.length
  | [] => Nat.le_refl 0
  | x :: l => by
    have := cc_le (h := h) (t := t) (p := p) l
    show cc_ h t l p + (if pc_ h t x = p then 1 else 0) ≤ l.length + 1
    split <;> omega
theorem mx_le {f : Nat → Nat} {b : Nat} (h : ∀ k, f k ≤ b) : ∀ n, mx_ f n ≤ b
  | 0 => Nat.zero_le b
  | n + 1 => by
    have h1 := mx_le h n
    have h2 := h n
    show max (mx_ f n) (f n) ≤ b
    omega
theorem cc_app {h : Nat → Nat → Int32} {t p : Nat} : ∀ (l m : List Nat), cc_ h t (l ++ m) p = cc_ h t l p + cc_ h t m p
  | [], m => by rw [List.nil_append]; show _ = 0 + _; omega
  | x :: l, m => by
    show cc_ h t (l ++ m) p + _ = cc_ h t l p + _ + _
    rw [cc_app l m]
    omega
theorem mx_2 {a b : Nat} (ha : a < 2147483648) (hb : b < 2147483648) : f_J9_max_7cf53 (Int32.ofNat a) (Int32.ofNat b) = some (Int32.ofNat (max a b)) := by
  unfold f_J9_max_7cf53
  by_cases h : a < b
  · rw [if_pos (by rw [o_lt ha hb]; exact h), Nat.max_eq_right (by omega)]
  · rw [if_neg (by rw [o_lt ha hb]; exact h), Nat.max_eq_left (by omega)]
/-- a find names a strip that is there, a speed, a place -/
def Fok (h : Nat → Nat → Int32) (x : Nat) : Prop := x < 1000 * hS h ∧ x % 100 < hL h (x / 1000)
theorem fok_p {h : Nat → Nat → Int32} {s v : Nat} (hs : s < hS h) (hv : v ≤ 9) (hl : hL h s ≤ 16) : ∀ (j p : Nat), p + j ≤ hL h s → ∀ x ∈ fp_ h s v j p, Fok h x
  | 0, p, _, x, hx => by cases hx
  | j + 1, p, hp, x, hx => by
    have hx : x ∈ (if fi_ h s v p = true then [1000 * s + 100 * v + p] else []) ++ fp_ h s v j (p + 1) := hx
    rw [List.mem_append] at hx
    rcases hx with hx | hx
    · by_cases q : fi_ h s v p = true
      · rw [if_pos q, List.mem_singleton] at hx
        subst hx
        have e1 : (1000 * s + 100 * v + p) / 1000 = s := by omega
        have e2 : (1000 * s + 100 * v + p) % 100 = p := by omega
        refine ⟨by omega, ?_⟩
        rw [e1, e2]
        omega
      · rw [if_neg q] at hx
        cases hx
    · exact fok_p hs hv hl j (p + 1) (by omega) x hx
theorem fok_v {h : Nat → Nat → Int32} {s : Nat} (hs : s < hS h) (hl : hL h s ≤ 16) : ∀ (j v : Nat), v + j ≤ 10 → ∀ x ∈ fv_ h s j v, Fok h x
  | 0, v, _, x, hx => by cases hx
  | j + 1, v, hv, x, hx => by
    have hx : x ∈ fp_ h s v (hL h s) 0 ++ fv_ h s j (v + 1) := hx
    rw [List.mem_append] at hx
    rcases hx with hx | hx
    · exact fok_p hs (by omega) hl (hL h s) 0 (by omega) x hx
    · exact fok_v hs hl j (v + 1) (by omega) x hx
theorem fok_s {h : Nat → Nat → Int32} (hl : ∀ s, hL h s ≤ 16) : ∀ (j s : Nat), s + j ≤ hS h → ∀ x ∈ fs_ h j s, Fok h x
  | 0, s, _, x, hx => by cases hx
  | j + 1, s, hs, x, hx => by
    have hx : x ∈ fv_ h s 10 0 ++ fs_ h j (s + 1) := hx
    rw [List.mem_append] at hx
    rcases hx with hx | hx
    · exact fok_v (by omega) (hl s) 10 0 (by omega) x hx
    · exact fok_s hl j (s + 1) (by omega) x hx
theorem pc_b {σ ρ : Sg} (r : Rel σ ρ) (t x : Nat) : pc_ (sg_I ρ) t x ≤ 26 ∧ hP (sg_I ρ) (x / 1000) ((x % 100 + x / 100 % 10 * t) % hL (sg_I ρ) (x / 1000)) = Int32.ofNat (pc_ (sg_I ρ) t x) := by
  obtain ⟨b, c, ⟨h1, h2, h3, h4, h5⟩, -, -⟩ := r.sp (x / 1000)
  have hm := Nat.mod_lt (x % 100 + x / 100 % 10 * t) (show 0 < hL (sg_I ρ) (x / 1000) by omega)
  obtain ⟨k, k1, k2⟩ := x_ob (B := 26) (h5 _ hm).2
  unfold pc_
  rw [k2, o_tn (by omega)]
  exact ⟨k1, rfl⟩
