/-! ===== the unknown wheel: what fits ===== -/
def fq_ (h : Nat → Nat → Int32) (s v p i : Nat) : Bool := decide ((if hP h s ((p + v * (h 365 i).toNatClampNeg) % hL h s) = h 366 i then (1 : Int32) else 0) = h 367 i)
def fi_ (h : Nat → Nat → Int32) (s v p : Nat) : Bool := cj_ (fq_ h s v p) (h 344 37).toNatClampNeg
theorem Rel.nt {σ ρ : Sg} (r : Rel σ ρ) : (sg_I ρ 344 37).toNatClampNeg ≤ 10 ∧ sg_I σ 313 3 = Int32.ofNat (sg_I ρ 344 37).toNatClampNeg ∧ sg_I ρ 344 37 = Int32.ofNat (sg_I ρ 344 37).toNatClampNeg ∧ ∀ i, i < (sg_I ρ 344 37).toNatClampNeg → sg_I σ 314 i = sg_I ρ 365 i ∧ (sg_I ρ 365 i).toNatClampNeg ≤ 99 ∧ sg_I ρ 365 i = Int32.ofNat (sg_I ρ 365 i).toNatClampNeg ∧ sg_I σ 315 i = sg_I ρ 366 i ∧ sg_I σ 316 i = sg_I ρ 367 i := by
  obtain ⟨q, q1, q2, q3, q4⟩ := r.1.2.2.2.2.2.2.2.2.2
  have e : (sg_I ρ 344 37).toNatClampNeg = q := by rw [q3, o_tn (by omega)]
  rw [e]
  refine ⟨q1, q2, q3, fun i hi => ?_⟩
  obtain ⟨a1, a2, a3, a4, a5, a6, a7, a8⟩ := q4 i hi
  obtain ⟨t, t1, t2⟩ := x_ob (B := 99) ⟨a2, a3⟩
  have et : (sg_I ρ 365 i).toNatClampNeg = t := by rw [t2, o_tn (by omega)]
  rw [et]
  exact ⟨a1, t1, t2, a4, a7⟩
theorem is_c {σ ρ : Sg} (r : Rel σ ρ) {b s v p : Nat} (S : SP σ b (hL (sg_I ρ) s) (hP (sg_I ρ) s)) (hv : v ≤ 9) (hp : p ≤ 100) : f_X4_isSo 20000 313 (some b) (Int32.ofNat v) (Int32.ofNat p) σ = some (bi_ (fi_ (sg_I ρ) s v p)) := by
  obtain ⟨q1, q2, q3, q4⟩ := r.nt
  have c := r.cf
  have R0 : sg_R σ 313 0 = some 314 := by simp only [c]
  have R1 : sg_R σ 313 1 = some 315 := by simp only [c]
  have R2 : sg_R σ 313 2 = some 316 := by simp only [c]
  have L0 : sg_L σ 314 = 10 := by simp only [c]
  have L1 : sg_L σ 315 = 10 := by simp only [c]
  have L2 : sg_L σ 316 = 10 := by simp only [c]
  unfold fi_
  generalize hq : (sg_I ρ 344 37).toNatClampNeg = q at *
  have lp : ∀ (j i m : Nat), i + j = q → j < m → f_X4_isSo_L6 20000 313 m (some b) (Int32.ofNat v) (Int32.ofNat p) (bi_ (cj_ (fq_ (sg_I ρ) s v p) i)) (Int32.ofNat i) σ = some (bi_ (cj_ (fq_ (sg_I ρ) s v p) q)) := by
    intro j
    induction j with
    | zero =>
      intro i m hi hm
      obtain ⟨m, rfl⟩ : ∃ x, m = x + 1 := ⟨m - 1, by omega⟩
      have hi : i = q := by omega
      rw [f_X4_isSo_L6, q2, if_neg (by rw [o_lt (by omega) (by omega)]; omega), hi]
      cases cj_ (fq_ (sg_I ρ) s v p) q <;> rfl
    | succ j ih =>
      intro i m hi hm
      obtain ⟨m, rfl⟩ : ∃ x, m = x + 1 := ⟨m - 1, by omega⟩
      obtain ⟨a1, a2, a3, a4, a5⟩ := q4 i (by omega)
      have ih1 := ih (i + 1) m (by omega) (by omega)
      rw [f_X4_isSo_L6, q2, if_pos (by rw [o_lt (by omega) (by omega)]; omega), if_pos (by rw [l_10, o_lt (by omega) (by omega)]; omega)]
      cases hb : cj_ (fq_ (sg_I ρ) s v p) i with
      | false =>
        rw [if_pos bi_f, cj_g hb (show i ≤ q by omega)]
        rfl
      | true =>
        rw [cj_s hb] at ih1
        have hvt : v * (sg_I ρ 365 i).toNatClampNeg ≤ 9 * 99 := Nat.mul_le_mul hv a2
        have n10 : ¬ (Int32.ofNat i < 0 ∨ 10 ≤ (Int32.ofNat i).toNatClampNeg) := o_in (by omega) (by omega)
        have tn : (Int32.ofNat i).toNatClampNeg = i := o_tn (by omega)
        have n10' : ¬ (Int32.ofNat i < 0 ∨ 10 ≤ i) := by rw [tn] at n10; exact n10
        have sa : f_X8_shownAt b (Int32.ofNat p + Int32.ofNat v * sg_I ρ 365 i) σ = some (hP (sg_I ρ) s ((p + v * (sg_I ρ 365 i).toNatClampNeg) % hL (sg_I ρ) s)) := by
          rw [a3, o_mul, o_add, S.sa (by omega), o_tn (by omega)]
        have B : ∀ x : Int32, f_X4_isSo_B57 20000 313 (fun v1 v2 v3 v4 v5 => f_X4_isSo_L6 20000 313 m v1 v2 v3 v4 v5 σ) (some b) (Int32.ofNat v) (Int32.ofNat p) (Int32.ofNat i) x σ = f_X4_isSo_L6 20000 313 m (some b) (Int32.ofNat v) (Int32.ofNat p) (bi_ (decide (x = sg_I ρ 367 i))) (Int32.ofNat (i + 1)) σ := by
          intro x
          unfold f_X4_isSo_B57 f_X4_isSo_B72
          rw [f_of R2, L2, if_neg n10, tn, a5, o_s i]
          by_cases q : x = sg_I ρ 367 i
          · rw [if_pos q, decide_eq_true q]
            rfl
          · rw [if_neg q, decide_eq_false q]
            rfl
        rw [if_neg bi_t, f_of R0, L0, if_neg n10, tn, a1, f_of (rfl : some b = some b), f_of sa, f_of R1, L1, if_neg n10', a4, B, B]
        unfold fq_ at ih1
        by_cases q : hP (sg_I ρ) s ((p + v * (sg_I ρ 365 i).toNatClampNeg) % hL (sg_I ρ) s) = sg_I ρ 366 i
        · rw [if_pos q] at ih1 ⊢
          exact ih1
        · rw [if_neg q] at ih1 ⊢
          exact ih1
  have l0 := lp q 0 20000 (by omega) (by omega)
  unfold f_X4_isSo
  exact l0
theorem sb_w {σ ρ : Sg} (r : Rel σ ρ) {s v p t : Nat} (hs : s < hS (sg_I ρ)) (hv : v ≤ 9) (hp : p ≤ 100) (ht : t ≤ 99) : f_X12_shownBy 344 (Int32.ofNat s) (Int32.ofNat v) (Int32.ofNat p) (Int32.ofNat t) ρ = some (hP (sg_I ρ) s ((p + v * t) % hL (sg_I ρ) s)) := by
  obtain ⟨b, b1, b2, b3, b4, b5⟩ := r.ss hs
  have g6 := r.hs.1
  have d := r.rf
  have R22 : sg_R ρ 344 22 = some 358 := by simp only [d]
  have L22 : sg_L ρ 358 = 7 := by simp only [d]
  have R21 : sg_R ρ 344 21 = some 357 := by simp only [d]
  have L21 : sg_L ρ 357 = 112 := by simp only [d]
  have hvt : v * t ≤ 9 * 99 := Nat.mul_le_mul hv ht
  have hm := Nat.mod_lt (p + v * t) (show 0 < hL (sg_I ρ) s by omega)
  unfold f_X12_shownBy
  rw [f_of R22, L22, if_neg (o_in (by omega) (by omega)), o_tn (by omega), b3, if_neg (by rw [l_0, o_eq (by omega) (by omega)]; omega), f_of R21, L21, o_mul v t, o_add p, rm_o (by omega) (by omega), l_16, o_mul, o_add, if_neg (o_in (by omega) (by omega)), o_tn (by omega)]
  unfold hP
  rw [if_pos hs]
theorem is_r {σ ρ : Sg} (r : Rel σ ρ) {s v p : Nat} (hs : s < hS (sg_I ρ)) (hv : v ≤ 9) (hp : p ≤ 100) : f_X12_isFit 20000 344 (Int32.ofNat s) (Int32.ofNat v) (Int32.ofNat p) ρ = some (bi_ (fi_ (sg_I ρ) s v p)) := by
  obtain ⟨q1, q2, q3, q4⟩ := r.nt
  have d := r.rf
  have R0 : sg_R ρ 344 34 = some 365 := by simp only [d]
  have R1 : sg_R ρ 344 35 = some 366 := by simp only [d]
  have R2 : sg_R ρ 344 36 = some 367 := by simp only [d]
  have L0 : sg_L ρ 365 = 10 := by simp only [d]
  have L1 : sg_L ρ 366 = 10 := by simp only [d]
  have L2 : sg_L ρ 367 = 10 := by simp only [d]
  unfold fi_
  generalize hq : (sg_I ρ 344 37).toNatClampNeg = q at *
  have lp : ∀ (j i m : Nat), i + j = q → j < m → cj_ (fq_ (sg_I ρ) s v p) i = true → f_X12_isFit_L3 20000 344 m (Int32.ofNat s) (Int32.ofNat v) (Int32.ofNat p) (Int32.ofNat i) ρ = some (bi_ (cj_ (fq_ (sg_I ρ) s v p) q)) := by
    intro j
    induction j with
    | zero =>
      intro i m hi hm hb
      obtain ⟨m, rfl⟩ : ∃ x, m = x + 1 := ⟨m - 1, by omega⟩
      have hi : i = q := by omega
      rw [hi] at hb
      rw [f_X12_isFit_L3, q3, if_neg (by rw [o_lt (by omega) (by omega)]; omega), hb]
      rfl
    | succ j ih =>
      intro i m hi hm hb
      obtain ⟨m, rfl⟩ : ∃ x, m = x + 1 := ⟨m - 1, by omega⟩
      obtain ⟨a1, a2, a3, a4, a5⟩ := q4 i (by omega)
      have es := cj_s hb
      have n10 : ¬ (Int32.ofNat i < 0 ∨ 10 ≤ (Int32.ofNat i).toNatClampNeg) := o_in (by omega) (by omega)
      have tn : (Int32.ofNat i).toNatClampNeg = i := o_tn (by omega)
      have n10' : ¬ (Int32.ofNat i < 0 ∨ 10 ≤ i) := by rw [tn] at n10; exact n10
      have sb := sb_w r hs hv hp a2
      rw [← a3] at sb
      have B : ∀ x : Int32, decide (x = sg_I ρ 367 i) = fq_ (sg_I ρ) s v p i → f_X12_isFit_B41 20000 344 (fun v1 v2 v3 v4 => f_X12_isFit_L3 20000 344 m v1 v2 v3 v4 ρ) (Int32.ofNat s) (Int32.ofNat v) (Int32.ofNat p) (Int32.ofNat i) x ρ = some (bi_ (cj_ (fq_ (sg_I ρ) s v p) q)) := by
        intro x hx
        unfold f_X12_isFit_B41
        rw [f_of R2, L2, if_neg n10, tn, o_s i]
        by_cases q' : x = sg_I ρ 367 i
        · rw [decide_eq_true q'] at hx
          rw [if_pos q']
          exact ih (i + 1) m (by omega) (by omega) (by rw [es, ← hx])
        · rw [decide_eq_false q'] at hx
          rw [if_neg q', cj_g (show cj_ (fq_ (sg_I ρ) s v p) (i + 1) = false by rw [es, ← hx]) (show i + 1 ≤ q by omega)]
          rfl
      rw [f_X12_isFit_L3, q3, if_pos (by rw [o_lt (by omega) (by omega)]; omega), f_of R0, L0, if_neg n10, tn, f_of sb, f_of R1, L1, if_neg n10']
      by_cases q : hP (sg_I ρ) s ((p + v * (sg_I ρ 365 i).toNatClampNeg) % hL (sg_I ρ) s) = sg_I ρ 366 i
      · rw [if_pos q]
        refine B 1 ?_
        unfold fq_
        rw [if_pos q]
      · rw [if_neg q]
        refine B 0 ?_
        unfold fq_
        rw [if_neg q]
  have l0 := lp q 0 20000 (by omega) (by omega) rfl
  unfold f_X12_isFit
  exact l0
/-! the row of all that fits -/
def fp_ (h : Nat → Nat → Int32) (s v : Nat) : Nat → Nat → List Nat
  | 0, _ => []
  | j + 1, p => (if fi_ h s v p = true then [1000 * s + 100 * v + p] else []) ++ fp_ h s v j (p + 1)
def fv_ (h : Nat → Nat → Int32) (s : Nat) : Nat → Nat → List Nat
  | 0, _ => []
  | j + 1, v => fp_ h s v (hL h s) 0 ++ fv_ h s j (v + 1)
def fs_ (h : Nat → Nat → Int32) : Nat → Nat → List Nat
  | 0, _ => []
  | j + 1, s => fv_ h s 10 0 ++ fs_ h j (s + 1)
/-- the class's finds are the row F -/
def FD (σ τ : Sg) (F : List Nat) : Prop := KC σ τ ∧ sg_I τ 313 5 = Int32.ofNat F.length ∧ ∀ i, i < F.length → sg_I τ 317 i = Int32.ofNat (F.getD i 0)
theorem KC.fd {σ : Sg} {a j : Nat} {v : Int32} (h : (a = 313 ∧ j = 5) ∨ a = 317 ∨ a = 318) : KC σ (put_I σ a j v) := by
  refine KC.put ?_ (by omega)
  rcases h with h | h | h
  · exact Or.inr (Or.inl h)
  · exact Or.inr (Or.inr (Or.inl h))
  · exact Or.inr (Or.inr (Or.inr (Or.inl h)))
theorem FD.sn {σ τ : Sg} {F : List Nat} (h : FD σ τ F) {x : Nat} (hF : F.length < 960) : FD σ (put_I (put_I τ 317 F.length (Int32.ofNat x)) 313 5 (Int32.ofNat (F.length + 1))) (F ++ [x]) := by
  refine ⟨(h.1.tr (KC.fd (by omega))).tr (KC.fd (by omega)), ?_, fun i hi => ?_⟩
  · rw [gI_e, List.length_append]
    rfl
  · rw [List.length_append] at hi
    have hi : i < F.length + 1 := hi
    rw [gI_n (by omega)]
    by_cases q : i = F.length
    · subst q
      rw [gI_e, List.getD_eq_getElem?_getD, List.getElem?_append_right (Nat.le_refl _), Nat.sub_self]
      rfl
    · rw [gI_n (by omega), h.2.2 i (by omega), List.getD_eq_getElem?_getD, List.getD_eq_getElem?_getD, List.getElem?_append_left (by omega)]
theorem fd_p {σ ρ : Sg} (r : Rel σ ρ) {s v : Nat} (hs : s < hS (sg_I ρ)) (hv : v ≤ 9) {k7 : Option Nat → Int32 → Sg → Option Sg} {k15 : Option Nat → Int32 → Int32 → Sg → Option Sg} : ∀ (j p m : Nat) (τ : Sg) (F : List Nat), p + j = hL (sg_I ρ) s → j < m → FD σ τ F → F.length ≤ 160 * s + 16 * v + p → ∃ υ, f_X4_find_L30 20000 313 k7 k15 m (some 13) (Int32.ofNat s) (Int32.ofNat v) (Int32.ofNat p) τ = k15 (some 13) (Int32.ofNat s) (Int32.ofNat (v + 1)) υ ∧ FD σ υ (F ++ fp_ (sg_I ρ) s v j p) := by
  have g6 := r.hs.1
  intro j
  induction j with
  | zero =>
    intro p m τ F hp hm fd hF
    obtain ⟨m, rfl⟩ : ∃ x, m = x + 1 := ⟨m - 1, by omega⟩
    have r' := fd.1.rel r
    have c := r'.cf
    obtain ⟨b, b1, b2, b3, b4, b5⟩ := r'.ss hs
    have L13 : sg_L τ 13 = 6 := by simp only [c]
    refine ⟨τ, ?_, by rw [fp_, List.append_nil]; exact fd⟩
    rw [f_X4_find_L30, f_of (rfl : some 13 = some 13), L13, if_neg (o_in (by omega) (by omega)), o_tn (by omega), f_of b1, f_of b2.sz, if_neg (by rw [o_lt (by omega) (by omega)]; omega), o_s v]
  | succ j ih =>
    intro p m τ F hp hm fd hF
    obtain ⟨m, rfl⟩ : ∃ x, m = x + 1 := ⟨m - 1, by omega⟩
    have r' := fd.1.rel r
    have c := r'.cf
    obtain ⟨b, b1, b2, b3, b4, b5⟩ := r'.ss hs
    have L13 : sg_L τ 13 = 6 := by simp only [c]
    have R4 : sg_R τ 313 4 = some 317 := by simp only [c]
    have L317 : sg_L τ 317 = 960 := by simp only [c]
    have n6 : ¬ (Int32.ofNat s < 0 ∨ 6 ≤ (Int32.ofNat s).toNatClampNeg) := o_in (by omega) (by omega)
    have tn : (Int32.ofNat s).toNatClampNeg = s := o_tn (by omega)
    have n6' : ¬ (Int32.ofNat s < 0 ∨ 6 ≤ s) := by rw [tn] at n6; exact n6
    have is := is_c r' (s := s) (v := v) (p := p) b2 hv (by omega)
    have ef : fp_ (sg_I ρ) s v (j + 1) p = (if fi_ (sg_I ρ) s v p = true then [1000 * s + 100 * v + p] else []) ++ fp_ (sg_I ρ) s v j (p + 1) := rfl
    rw [f_X4_find_L30, f_of (rfl : some 13 = some 13), L13, if_neg n6, tn, f_of b1, f_of b2.sz, if_pos (by rw [o_lt (by omega) (by omega)]; omega), if_neg n6', b1, f_of is, ef]
    unfold f_X4_find_B98
    rw [o_s p]
    cases hb : fi_ (sg_I ρ) s v p with
    | false =>
      rw [if_pos bi_f, if_neg (by decide), List.nil_append]
      exact ih (p + 1) m τ F (by omega) (by omega) fd (by omega)
    | true =>
      have fl := fd.2.1
      have hlt : F.length < 960 := by omega
      have sn := fd.sn (x := 1000 * s + 100 * v + p) hlt
      have i5 : sg_I (put_I τ 317 F.length (Int32.ofNat (1000 * s + 100 * v + p))) 313 5 = Int32.ofNat F.length := by rw [gI_n (by omega)]; exact fl
      have ex : (1000 : Int32) * Int32.ofNat s + 100 * Int32.ofNat v + Int32.ofNat p = Int32.ofNat (1000 * s + 100 * v + p) := by rw [l_1000, l_100, o_mul, o_mul, o_add, o_add]
      obtain ⟨υ, u1, u2⟩ := ih (p + 1) m _ _ (by omega) (by omega) sn (by rw [List.length_append]; show F.length + 1 ≤ _; omega)
      refine ⟨υ, ?_, by rw [if_pos rfl, ← List.append_assoc]; exact u2⟩
      rw [if_neg bi_t, f_of R4, L317, fl, if_pos (by rw [o_lt (by omega) (by omega)]; exact hlt), if_neg (o_in (by omega) (by omega)), o_tn (by omega), ex, i5, o_s F.length]
      exact u1
theorem fd_v {σ ρ : Sg} (r : Rel σ ρ) {s : Nat} (hs : s < hS (sg_I ρ)) {k7 : Option Nat → Int32 → Sg → Option Sg} : ∀ (j v m : Nat) (τ : Sg) (F : List Nat), v + j = 10 → j < m → FD σ τ F → F.length ≤ 160 * s + 16 * v → ∃ υ, f_X4_find_L15 20000 313 k7 m (some 13) (Int32.ofNat s) (Int32.ofNat v) τ = k7 (some 13) (Int32.ofNat (s + 1)) υ ∧ FD σ υ (F ++ fv_ (sg_I ρ) s j v) ∧ (F ++ fv_ (sg_I ρ) s j v).length ≤ 160 * (s + 1) := by
  have g6 := r.hs.1
  have lenp : ∀ v j p, (fp_ (sg_I ρ) s v j p).length ≤ j := by
    intro v j
    induction j with
    | zero => intro p; exact Nat.le_refl 0
    | succ j ih =>
      intro p
      have := ih (p + 1)
      show ((if fi_ (sg_I ρ) s v p = true then [1000 * s + 100 * v + p] else []) ++ fp_ (sg_I ρ) s v j (p + 1)).length ≤ j + 1
      rw [List.length_append]
      split
      · show 1 + _ ≤ _; omega
      · show 0 + _ ≤ _; omega
  obtain ⟨-, -, -, -, b4, b5⟩ := r.ss hs
  intro j
  induction j with
  | zero =>
    intro v m τ F hv hm fd hF
    obtain ⟨m, rfl⟩ : ∃ x, m = x + 1 := ⟨m - 1, by omega⟩
    refine ⟨τ, ?_, by rw [fv_, List.append_nil]; exact fd, by rw [fv_, List.append_nil]; omega⟩
    rw [f_X4_find_L15, if_pos (by rw [l_9, o_lt (by omega) (by omega)]; omega)]
    unfold f_X4_find_B110
    rw [o_s s]
  | succ j ih =>
    intro v m τ F hv hm fd hF
    obtain ⟨m, rfl⟩ : ∃ x, m = x + 1 := ⟨m - 1, by omega⟩
    have r' := fd.1.rel r
    have c := r'.cf
    obtain ⟨b, b1, b2, b3, -, -⟩ := r'.ss hs
    have L13 : sg_L τ 13 = 6 := by simp only [c]
    obtain ⟨υ, u1, u2⟩ := fd_p r hs (show v ≤ 9 by omega) (k7 := k7) (k15 := f_X4_find_L15 20000 313 k7 m) (hL (sg_I ρ) s) 0 20000 τ F (by omega) (by omega) fd (by omega)
    have hl := lenp v (hL (sg_I ρ) s) 0
    obtain ⟨φ, x1, x2, x3⟩ := ih (v + 1) m υ (F ++ fp_ (sg_I ρ) s v (hL (sg_I ρ) s) 0) (by omega) (by omega) u2 (by rw [List.length_append]; omega)
    have ef : fv_ (sg_I ρ) s (j + 1) v = fp_ (sg_I ρ) s v (hL (sg_I ρ) s) 0 ++ fv_ (sg_I ρ) s j (v + 1) := rfl
    rw [List.append_assoc, ← ef] at x2 x3
    refine ⟨φ, ?_, x2, x3⟩
    rw [f_X4_find_L15, if_neg (by rw [l_9, o_lt (by omega) (by omega)]; omega), f_of (rfl : some 13 = some 13), L13, if_neg (o_in (by omega) (by omega)), o_tn (by omega), b1]
    show f_X4_find_L30 20000 313 k7 (f_X4_find_L15 20000 313 k7 m) 20000 (some 13) (Int32.ofNat s) (Int32.ofNat v) 0 τ = _
    exact (show _ = _ from u1).trans x1
theorem fd_e {σ ρ : Sg} (r : Rel σ ρ) : ∃ τ, f_X4_find 20000 313 (some 13) σ = some τ ∧ FD σ τ (fs_ (sg_I ρ) (hS (sg_I ρ)) 0) ∧ (fs_ (sg_I ρ) (hS (sg_I ρ)) 0).length ≤ 960 := by
  have g6 := r.hs.1
  have nul : ∀ (j s m : Nat) (τ : Sg), s + j = 6 → j < m → hS (sg_I ρ) ≤ s → KC σ τ → f_X4_find_L7 20000 313 m (some 13) (Int32.ofNat s) τ = some τ := by
    intro j
    induction j with
    | zero =>
      intro s m τ hs hm h6 kc
      obtain ⟨m, rfl⟩ : ∃ x, m = x + 1 := ⟨m - 1, by omega⟩
      have c := (kc.rel r).cf
      have L13 : sg_L τ 13 = 6 := by simp only [c]
      rw [f_X4_find_L7, f_of (rfl : some 13 = some 13), L13, if_neg (by rw [o_lt (by omega) (by omega)]; omega)]
    | succ j ih =>
      intro s m τ hs hm h6 kc
      obtain ⟨m, rfl⟩ : ∃ x, m = x + 1 := ⟨m - 1, by omega⟩
      have r' := kc.rel r
      have c := r'.cf
      have L13 : sg_L τ 13 = 6 := by simp only [c]
      have rn : sg_R τ 13 s = none := by
        obtain ⟨k, k1, k2, k3, k4, k5, k6⟩ := r'.1.2.2.2.1
        refine k5 s ?_ (by omega)
        have : hS (sg_I ρ) = k := by
          unfold hS
          rw [k3, o_ti (by omega)]
          omega
        omega
      have i1 := ih (s + 1) m τ (by omega) (by omega) (by omega) kc
      rw [f_X4_find_L7, f_of (rfl : some 13 = some 13), L13, if_pos (by rw [o_lt (by omega) (by omega)]; omega)]
      show f_X4_find_L15 20000 313 (f_X4_find_L7 20000 313 m) (19999 + 1) (some 13) (Int32.ofNat s) 0 τ = some τ
      rw [f_X4_find_L15, if_neg (by decide), f_of (rfl : some 13 = some 13), L13, if_neg (o_in (by omega) (by omega)), o_tn (by omega), rn]
      show f_X4_find_B110 20000 313 (f_X4_find_L7 20000 313 m) (some 13) (Int32.ofNat s) τ = some τ
      unfold f_X4_find_B110
      rw [o_s s]
      exact i1
  have lp : ∀ (j s m : Nat) (τ : Sg) (F : List Nat), s + j = hS (sg_I ρ) → j + 6 < m → FD σ τ F → F.length ≤ 160 * s → ∃ υ, f_X4_find_L7 20000 313 m (some 13) (Int32.ofNat s) τ = some υ ∧ FD σ υ (F ++ fs_ (sg_I ρ) j s) ∧ (F ++ fs_ (sg_I ρ) j s).length ≤ 960 := by
    intro j
    induction j with
    | zero =>
      intro s m τ F hs hm fd hF
      refine ⟨τ, nul (6 - s) s m τ (by omega) (by omega) (by omega) fd.1, by rw [fs_, List.append_nil]; exact fd, by rw [fs_, List.append_nil]; omega⟩
    | succ j ih =>
      intro s m τ F hs hm fd hF
      obtain ⟨m, rfl⟩ : ∃ x, m = x + 1 := ⟨m - 1, by omega⟩
      have c := (fd.1.rel r).cf
      have L13 : sg_L τ 13 = 6 := by simp only [c]
      obtain ⟨υ, u1, u2, u3⟩ := fd_v r (show s < hS (sg_I ρ) by omega) (k7 := f_X4_find_L7 20000 313 m) 10 0 20000 τ F (by omega) (by omega) fd (by omega)
      obtain ⟨φ, x1, x2, x3⟩ := ih (s + 1) m υ _ (by omega) (by omega) u2 u3
      have ef : fs_ (sg_I ρ) (j + 1) s = fv_ (sg_I ρ) s 10 0 ++ fs_ (sg_I ρ) j (s + 1) := rfl
      rw [List.append_assoc, ← ef] at x2 x3
      refine ⟨φ, ?_, x2, x3⟩
      rw [f_X4_find_L7, f_of (rfl : some 13 = some 13), L13, if_pos (by rw [o_lt (by omega) (by omega)]; omega)]
      exact (show _ = _ from u1).trans x1
  obtain ⟨τ, t1, t2, t3⟩ := lp (hS (sg_I ρ)) 0 20000 (put_I σ 313 5 0) [] (by omega) (by omega) ⟨KC.fd (by omega), gI_e, fun i hi => absurd hi (Nat.not_lt_zero i)⟩ (Nat.zero_le _)
  refine ⟨τ, ?_, t2, t3⟩
  unfold f_X4_find
  exact t1
/-! the reference's search -/
def sf_ (i : Int32) : List Nat → Nat → Int32
  | [], c => if i = -1 then Int32.ofNat c else -1
  | x :: l, c => if Int32.ofNat c = i then Int32.ofNat x else sf_ i l (c + 1)
/-- what is left from k on -/
def rk_ (h : Nat → Nat → Int32) (k : Nat) : List Nat := fp_ h (k / 1000) (k / 100 % 10) (hL h (k / 1000) - k % 100) (k % 100) ++ (fv_ h (k / 1000) (9 - k / 100 % 10) (k / 100 % 10 + 1) ++ fs_ h (hS h - (k / 1000 + 1)) (k / 1000 + 1))
theorem rk_a {h : Nat → Nat → Int32} {k : Nat} (hl : hL h (k / 1000) ≤ 16) (hp : k % 100 < hL h (k / 1000)) : rk_ h k = (if fi_ h (k / 1000) (k / 100 % 10) (k % 100) = true then [k] else []) ++ rk_ h (k + 1) := by
  have e1 : (k + 1) / 1000 = k / 1000 := by omega
  have e2 : (k + 1) / 100 % 10 = k / 100 % 10 := by omega
  have e3 : (k + 1) % 100 = k % 100 + 1 := by omega
  have e4 : hL h (k / 1000) - k % 100 = (hL h (k / 1000) - (k % 100 + 1)) + 1 := by omega
  have e5 : 1000 * (k / 1000) + 100 * (k / 100 % 10) + k % 100 = k := by omega
  unfold rk_
  rw [e1, e2, e3, e4, fp_, e5, List.append_assoc]
theorem rk_b {h : Nat → Nat → Int32} {k : Nat} (hk : k + 1 < 1000 * hS h) (hl : 1 ≤ hL h (k / 1000)) (hp : hL h (k / 1000) ≤ k % 100) : rk_ h k = rk_ h (k + 1) := by
  have z : ∀ s v p, fp_ h s v 0 p = [] := fun _ _ _ => rfl
  have d0 : hL h (k / 1000) - k % 100 = 0 := by omega
  by_cases c1 : k % 100 < 99
  · have e1 : (k + 1) / 1000 = k / 1000 := by omega
    have e2 : (k + 1) / 100 % 10 = k / 100 % 10 := by omega
    have e3 : (k + 1) % 100 = k % 100 + 1 := by omega
    have d1 : hL h (k / 1000) - (k % 100 + 1) = 0 := by omega
    unfold rk_
    rw [e1, e2, e3, d0, d1, z, z]
  · by_cases c2 : k / 100 % 10 < 9
    · have e1 : (k + 1) / 1000 = k / 1000 := by omega
      have e2 : (k + 1) / 100 % 10 = k / 100 % 10 + 1 := by omega
      have e3 : (k + 1) % 100 = 0 := by omega
      have e4 : 9 - k / 100 % 10 = (9 - (k / 100 % 10 + 1)) + 1 := by omega
      unfold rk_
      rw [e1, e2, e3, d0, z, e4, fv_, List.nil_append, Nat.sub_zero, List.append_assoc]
    · have e1 : (k + 1) / 1000 = k / 1000 + 1 := by omega
      have e2 : (k + 1) / 100 % 10 = 0 := by omega
      have e3 : (k + 1) % 100 = 0 := by omega
      have e4 : 9 - k / 100 % 10 = 0 := by omega
      have e5 : hS h - (k / 1000 + 1) = (hS h - (k / 1000 + 1 + 1)) + 1 := by omega
      have zv : ∀ s v, fv_ h s 0 v = [] := fun _ _ => rfl
      have f10 : fv_ h (k / 1000 + 1) 10 0 = fp_ h (k / 1000 + 1) 0 (hL h (k / 1000 + 1)) 0 ++ fv_ h (k / 1000 + 1) 9 1 := rfl
      unfold rk_
      rw [e1, e2, e3, d0, z, e4, zv, e5, fs_, List.nil_append, List.nil_append, f10, Nat.sub_zero, List.append_assoc]
theorem rk_z {h : Nat → Nat → Int32} {k : Nat} (hk : k + 1 = 1000 * hS h) (hl : hL h (k / 1000) ≤ 16) : rk_ h k = [] := by
  have d0 : hL h (k / 1000) - k % 100 = 0 := by omega
  have e4 : 9 - k / 100 % 10 = 0 := by omega
  have e5 : hS h - (k / 1000 + 1) = 0 := by omega
  unfold rk_
  rw [d0, e4, e5]
  rfl
theorem rk_0 {h : Nat → Nat → Int32} (hs : 0 < hS h) : rk_ h 0 = fs_ h (hS h) 0 := by
  have e5 : hS h = (hS h - 1) + 1 := by omega
  have f10 : fv_ h 0 10 0 = fp_ h 0 0 (hL h 0) 0 ++ fv_ h 0 9 1 := rfl
  show fp_ h 0 0 (hL h 0 - 0) 0 ++ (fv_ h 0 9 1 ++ fs_ h (hS h - 1) 1) = _
  rw [Nat.sub_zero, ← List.append_assoc, ← f10]
  generalize hS h - 1 = m at e5 ⊢
  rw [e5]
  rfl
