/-! ===== the course goes round ===== -/
theorem pg_ : ∀ (m n : Nat) (f : Nat → Nat), (∀ i, i < n → f i < m) → (∀ i j, i < j → j < n → f i ≠ f j) → n ≤ m := by
  intro m
  induction m with
  | zero =>
    intro n f h1 h2
    apply Classical.byContradiction
    intro q
    exact absurd (h1 0 (by omega)) (by omega)
  | succ m ih =>
    intro n f h1 h2
    by_cases h : ∃ i, i < n ∧ f i = m
    · obtain ⟨i, i1, i2⟩ := h
      have q := ih (n - 1) (fun j => if j < i then f j else f (j + 1)) (fun j hj => by
        show (if j < i then f j else f (j + 1)) < m
        by_cases c : j < i
        · rw [if_pos c]
          have a1 := h1 j (by omega)
          have a2 := h2 j i c i1
          omega
        · rw [if_neg c]
          have a1 := h1 (j + 1) (by omega)
          have a2 := h2 i (j + 1) (by omega) (by omega)
          omega) (fun j k hjk hk => by
        show (if j < i then f j else f (j + 1)) ≠ (if k < i then f k else f (k + 1))
        by_cases c : j < i
        · rw [if_pos c]
          by_cases c2 : k < i
          · rw [if_pos c2]
            exact h2 j k hjk (by omega)
          · rw [if_neg c2]
            exact h2 j (k + 1) (by omega) (by omega)
        · rw [if_neg c, if_neg (by omega)]
          exact h2 (j + 1) (k + 1) (by omega) (by omega))
      omega
    · have q := ih n f (fun i hi => by
        have a1 := h1 i hi
        have a2 : f i ≠ m := fun e => h ⟨i, hi, e⟩
        omega) h2
      omega
/-- places from now on -/
def pt_ (K : Option (List Kl)) (V : Int32) (l : Nat) (P : Nat → Int32) (f t p : Nat) : Nat → Nat
  | 0 => p
  | n + 1 => nx_ K V l P f (pt_ K V l P f t p n) (t + n)
theorem pt_lt {K : Option (List Kl)} {V : Int32} {l : Nat} {P : Nat → Int32} {f t p : Nat} (h : 1 ≤ l) (hp : p < l) : ∀ n, pt_ K V l P f t p n < l
  | 0 => hp
  | _ + 1 => nx_lt h
def ts_ (K : Option (List Kl)) (t i : Nat) : Nat := match K with
  | none => 0
  | some _ => (t + i) % 24
theorem ts_lt {K : Option (List Kl)} {t i : Nat} : ts_ K t i < 24 := by
  unfold ts_
  split
  · omega
  · exact Nat.mod_lt _ (by omega)
theorem ts_s {K : Option (List Kl)} {t i j : Nat} (h : ts_ K t i = ts_ K t j) : ts_ K t (i + 1) = ts_ K t (j + 1) := by
  cases K with
  | none => rfl
  | some K =>
    have h : (t + i) % 24 = (t + j) % 24 := h
    show (t + (i + 1)) % 24 = (t + (j + 1)) % 24
    omega
theorem nx_ts {K : Option (List Kl)} {V : Int32} {l : Nat} {P : Nat → Int32} {f t s i j : Nat} (h : ts_ K t i = ts_ K t j) : nx_ K V l P f s (t + i) = nx_ K V l P f s (t + j) := by
  cases K with
  | none => rfl
  | some K =>
    have h : (t + i) % 24 = (t + j) % 24 := h
    unfold nx_
    rw [mv_24 h]
theorem pt_p {K : Option (List Kl)} {V : Int32} {l : Nat} {P : Nat → Int32} {f t p S L : Nat} (h1 : pt_ K V l P f t p S = pt_ K V l P f t p L) (h2 : ts_ K t S = ts_ K t L) : ∀ k, pt_ K V l P f t p (S + k) = pt_ K V l P f t p (L + k) ∧ ts_ K t (S + k) = ts_ K t (L + k) := by
  intro k
  induction k with
  | zero => exact ⟨h1, h2⟩
  | succ k ih =>
    refine ⟨?_, ts_s ih.2⟩
    show nx_ K V l P f (pt_ K V l P f t p (S + k)) (t + (S + k)) = nx_ K V l P f (pt_ K V l P f t p (L + k)) (t + (L + k))
    rw [ih.1, nx_ts ih.2]
theorem pt_m {g : Nat → Nat} {S L : Nat} (hL : L < S) (h : ∀ k, g (S + k) = g (L + k)) : ∀ n, S ≤ n → g n = g (L + (n - L) % (S - L)) := by
  intro n
  induction n using Nat.strongRecOn with
  | _ n ih =>
    intro hn
    have e1 : g n = g (n - (S - L)) := by
      have := h (n - S)
      rw [show S + (n - S) = n by omega, show L + (n - S) = n - (S - L) by omega] at this
      exact this
    rw [Nat.mod_eq_sub_mod (show n - L ≥ S - L by omega), e1]
    by_cases q : S ≤ n - (S - L)
    · rw [ih (n - (S - L)) (by omega) q, show n - (S - L) - L = n - L - (S - L) by omega]
    · rw [Nat.mod_eq_of_lt (by omega)]
      congr 1
      omega
theorem fl_v {b len : Nat} {v : Int32} (hl : len < 19999) : ∀ (j k m : Nat) (σ : Sg), k + j = len → j < m → sg_L σ b = len → ∃ τ, f_J7_fill_53178_L5 20000 m (some b) v (Int32.ofNat k) (Int32.ofNat len) σ = some τ ∧ kp_ σ τ ∧ (∀ a i, a ≠ b ∨ i < k → sg_I τ a i = sg_I σ a i) ∧ ∀ i, k ≤ i → i < len → sg_I τ b i = v := by
  intro j
  induction j with
  | zero =>
    intro k m σ hk hm hL
    obtain ⟨m, rfl⟩ : ∃ x, m = x + 1 := ⟨m - 1, by omega⟩
    refine ⟨σ, ?_, kp_.rf, fun _ _ _ => rfl, fun i h1 h2 => by omega⟩
    rw [f_J7_fill_53178_L5, if_neg (by rw [o_lt (by omega) (by omega)]; omega)]
  | succ j ih =>
    intro k m σ hk hm hL
    obtain ⟨m, rfl⟩ : ∃ x, m = x + 1 := ⟨m - 1, by omega⟩
    obtain ⟨τ, t1, t2, t3, t4⟩ := ih (k + 1) m (put_I σ b k v) (by omega) (by omega) hL
    refine ⟨τ, ?_, kp_.put.tr t2, fun a i h => ?_, fun i h1 h2 => ?_⟩
    · rw [f_J7_fill_53178_L5, if_pos (by rw [o_lt (by omega) (by omega)]; omega)]
      simp only [Option.bind_some]
      rw [hL, if_neg (o_in (by omega) (by omega)), o_tn (by omega), o_s]
      exact t1
    · rw [t3 a i (by omega), gI_n (by omega)]
    · by_cases q : i = k
      · subst q
        rw [t3 b i (by omega), gI_e]
      · exact t4 i (by omega) h2
theorem CO.q {σ τ : Sg} {w : Nat} {V : Int32} {l : Nat} {P : Nat → Int32} {f t p : Nat} {law : Option Nat} {K : Option (List Kl)} (h : CO σ w V l P f t p law K) (hR : ∀ a j, (a = 320 + 6 * w ∨ (j ≠ 2 ∧ j ≠ 3) ∨ a < 320) → sg_R τ a j = sg_R σ a j) (hL : sg_L τ = sg_L σ) (hI : ∀ a j, (a < 320 ∨ 343 < a ∨ (a = 320 + 6 * w ∧ j ≤ 4) ∨ (a = 323 + 6 * w ∧ (j = 0 ∨ j = 2 ∨ j = 5))) → (∀ b, law = some b → ¬ (a = b ∧ j = 2) ∧ a ≠ b + 2) → sg_I τ a j = sg_I σ a j) : CO τ w V l P f t p law K := by
  obtain ⟨⟨bs, c, h1, h2, h3, h4, h5, h6⟩, h7, ⟨k1, k2, k3, k4, k5, k6⟩, ⟨h9, h10, h11⟩, ⟨h12, h13, h14⟩, h15, h16⟩ := h
  have lo : ∀ b, law = some b → 371 ≤ b := by
    intro b hb
    rcases h16 with ⟨q1, -⟩ | ⟨b', K', q1, q2, q3, -⟩
    · rw [q1] at hb; cases hb
    · rw [q1] at hb; cases hb; exact q3
  have hw := h15.2.2.2.2.2
  have e : ∀ a j, a < 371 → (a < 320 ∨ 343 < a ∨ (a = 320 + 6 * w ∧ j ≤ 4) ∨ (a = 323 + 6 * w ∧ (j = 0 ∨ j = 2 ∨ j = 5))) → sg_I τ a j = sg_I σ a j := fun a j ha hn => hI a j hn (fun b hb => by have := lo b hb; omega)
  refine ⟨⟨bs, c, by rw [hR _ _ (by omega)]; exact h1, by rw [hR _ _ (by omega)]; exact h2, by rw [hL]; exact h3, fun i hi => ?_, h5, h6⟩, by rw [hR _ _ (by omega)]; exact h7, ⟨by rw [hR _ _ (by omega)]; exact k1, by rw [hR _ _ (by omega)]; exact k2, by rw [hR _ _ (by omega)]; exact k3, by rw [hL]; exact k4, by rw [hL]; exact k5, by rw [hL]; exact k6⟩, ⟨?_, ?_, ?_⟩, ⟨?_, ?_, ?_⟩, h15, ?_⟩
  · rw [hI c i (by omega) (fun b hb => ⟨fun q => (h6 b hb).1 q.1, (h6 b hb).2⟩)]
    exact h4 i hi
  · rw [e _ _ (by omega) (by omega)]; exact h9
  · rw [e _ _ (by omega) (by omega)]; exact h10
  · rw [e _ _ (by omega) (by omega)]; exact h11
  · rw [e _ _ (by omega) (by omega)]; exact h12
  · rw [e _ _ (by omega) (by omega)]; exact h13
  · rw [e _ _ (by omega) (by omega)]; exact h14
  · rcases h16 with q | ⟨b, K', q1, q2, q3, ⟨i, i1, i2⟩, q5, q6, q7, q8, q9, q10, q11⟩
    · exact Or.inl q
    · refine Or.inr ⟨b, K', q1, q2, q3, ⟨i, i1, by rw [hR _ _ (by omega)]; exact i2⟩, by rw [hR _ _ (by omega)]; exact q5, by rw [hR _ _ (by omega)]; exact q6, by rw [hL]; exact q7, by rw [hL]; exact q8, q9, sl_q (fun j _ _ => hI _ _ (by omega) (fun b' hb' => ?_)) q10, q11⟩
      rw [q1] at hb'
      cases hb'
      omega
/-- while wheel w is traced: its own course and the law's pile alone change -/
def KX (w : Nat) (law : Option Nat) (σ τ : Sg) : Prop := kp_ σ τ ∧ ∀ a j, (a < 320 + 6 * w ∨ 325 + 6 * w < a ∨ (a = 320 + 6 * w ∧ j ≤ 4) ∨ (a = 323 + 6 * w ∧ (j = 0 ∨ j = 2 ∨ j = 5))) → (∀ b, law = some b → ¬ (a = b ∧ j = 2) ∧ a ≠ b + 2) → sg_I τ a j = sg_I σ a j
theorem KX.rf {w : Nat} {law : Option Nat} {σ : Sg} : KX w law σ σ := ⟨kp_.rf, fun _ _ _ _ => rfl⟩
theorem KX.tr {w : Nat} {law : Option Nat} {σ τ υ : Sg} (h : KX w law σ τ) (k : KX w law τ υ) : KX w law σ υ := ⟨h.1.tr k.1, fun a j h1 h2 => (k.2 a j h1 h2).trans (h.2 a j h1 h2)⟩
theorem KX.put {w : Nat} {law : Option Nat} {σ : Sg} {a j : Nat} {v : Int32} (h : a = 324 + 6 * w ∨ a = 325 + 6 * w ∨ (a = 320 + 6 * w ∧ 4 < j)) : KX w law σ (put_I σ a j v) := ⟨kp_.put, fun b k h1 _ => gI_n (by omega)⟩
theorem KV.kx {w : Nat} {law : Option Nat} {σ τ : Sg} (h : KV w law σ τ) : KX w law σ τ := ⟨h.1, fun a j h1 h2 => h.2 a j (by omega) h2⟩
theorem CO.kx {σ τ : Sg} {w : Nat} {V : Int32} {l : Nat} {P : Nat → Int32} {f t p : Nat} {law : Option Nat} {K : Option (List Kl)} (h : CO σ w V l P f t p law K) (k : KX w law σ τ) : CO τ w V l P f t p law K := by
  have hw := h.2.2.2.2.2.1.2.2.2.2.2
  exact h.q (fun a j _ => by rw [k.1.2.1]) k.1.2.2.1 (fun a j h1 h2 => k.2 a j (by omega) h2)
theorem CO.kc2 {σ τ : Sg} {w : Nat} {V : Int32} {l : Nat} {P : Nat → Int32} {f t p : Nat} {law : Option Nat} {K : Option (List Kl)} (h : CO σ w V l P f t p law K) (k : KX w law σ τ) : KC σ τ := by
  obtain ⟨-, -, -, -, -, ⟨-, -, -, -, -, hw⟩, h16⟩ := h
  refine ⟨k.1.1, ⟨fun a _ => by rw [k.1.2.2.1], fun a j _ => by rw [k.1.2.1], fun a j ha => ?_⟩, fun a h1 h2 => ⟨?_, by rw [k.1.2.1], by rw [k.1.2.2.1], by rw [k.1.2.2.2]⟩⟩
  · have ha2 : ¬ (320 ≤ a ∧ a ≤ 370) := fun q => ha (Or.inr (Or.inr (Or.inr (Or.inr (Or.inl q)))))
    refine k.2 a j (by omega) (fun b hb => ?_)
    rcases h16 with ⟨q1, -⟩ | ⟨b', K', q1, q2, q3, ⟨i, q4, q5⟩, -⟩
    · rw [q1] at hb; cases hb
    · rw [q1] at hb
      cases hb
      exact ⟨fun q => ha (Or.inr (Or.inr (Or.inr (Or.inr (Or.inr ⟨i, b, q4, q5, q3, Or.inl q⟩))))), fun q => ha (Or.inr (Or.inr (Or.inr (Or.inr (Or.inr ⟨i, b, q4, q5, q3, Or.inr q⟩)))))⟩
  · funext j
    refine k.2 a j (by omega) (fun b hb => ?_)
    rcases h16 with ⟨q1, -⟩ | ⟨b', K', q1, q2, q3, -⟩
    · rw [q1] at hb; cases hb
    · rw [q1] at hb; cases hb; omega
/-- a course traced -/
def TR (σ : Sg) (w : Nat) (V : Int32) (l : Nat) (P : Nat → Int32) (f t p : Nat) (law : Option Nat) (K : Option (List Kl)) (S L : Nat) : Prop := CO σ w V l P f t p law K ∧ sg_I σ (320 + 6 * w) 8 = Int32.ofNat S ∧ sg_I σ (320 + 6 * w) 9 = Int32.ofNat L ∧ L < S ∧ S ≤ 384 ∧ (∀ i, i < S → sg_I σ (324 + 6 * w) i = Int32.ofNat (pt_ K V l P f t p i)) ∧ p < l ∧ ∀ n, S ≤ n → pt_ K V l P f t p n = pt_ K V l P f t p (L + (n - L) % (S - L))
theorem tl_w {w : Nat} {V : Int32} {l : Nat} {P : Nat → Int32} {f t p : Nat} {law : Option Nat} {K : Option (List Kl)} (hp : p < l) (ht : t ≤ 9999) : ∀ (j s m : Nat) (σ : Sg), s + j = 384 → j + 1 < m → CO σ w V l P f t p law K → sg_I σ (320 + 6 * w) 8 = Int32.ofNat s → sg_I σ (320 + 6 * w) 9 = 0 → (∀ i, i < s → sg_I σ (324 + 6 * w) i = Int32.ofNat (pt_ K V l P f t p i)) → (∀ i, i < s → sg_I σ (325 + 6 * w) (pt_ K V l P f t p i * 24 + ts_ K t i) = Int32.ofNat i) → (∀ x, x < 384 → (∀ i, i < s → pt_ K V l P f t p i * 24 + ts_ K t i ≠ x) → sg_I σ (325 + 6 * w) x = -1) → (∀ i k, i < k → k < s → pt_ K V l P f t p i * 24 + ts_ K t i ≠ pt_ K V l P f t p k * 24 + ts_ K t k) → ∃ τ S L, f_X0_trace_L23 20000 (320 + 6 * w) m (Int32.ofNat (pt_ K V l P f t p s)) σ = some τ ∧ TR τ w V l P f t p law K S L ∧ KX w law σ τ := by
  intro j
  induction j with
  | zero =>
    intro s m σ hs hm C e8 e9 eP eF eN eD
    obtain ⟨m, rfl⟩ : ∃ x, m = x + 1 := ⟨m - 1, by omega⟩
    obtain ⟨-, C2, ⟨-, C4, C5, -, C7, C8⟩, ⟨C9, C10, C11⟩, -, ⟨b1, b2, b3, b4, b5, hw⟩, C16⟩ := id C
    have hs : s = 384 := by omega
    subst hs
    have lt : ∀ i, pt_ K V l P f t p i * 24 + ts_ K t i < 384 := fun i => by
      have h1 := pt_lt (K := K) (V := V) (P := P) (f := f) (t := t) b1 hp i
      have h2 := ts_lt (K := K) (t := t) (i := i)
      omega
    have rep : ∃ i, i < 384 ∧ pt_ K V l P f t p i * 24 + ts_ K t i = pt_ K V l P f t p 384 * 24 + ts_ K t 384 := by
      apply Classical.byContradiction
      intro q
      have := pg_ 384 385 (fun i => pt_ K V l P f t p i * 24 + ts_ K t i) (fun i _ => lt i) (fun i k hik hk => by
        by_cases c : k = 384
        · subst c
          exact fun e => q ⟨i, by omega, e⟩
        · exact eD i k hik (by omega))
      omega
    obtain ⟨i, i1, i2⟩ := rep
    have h1 := ts_lt (K := K) (t := t) (i := i)
    have h2 := ts_lt (K := K) (t := t) (i := 384)
    have pe := pt_p (K := K) (V := V) (l := l) (P := P) (f := f) (t := t) (p := p) (S := 384) (L := i) (by omega) (by omega)
    refine ⟨put_I σ (320 + 6 * w) 9 (Int32.ofNat i), 384, i, ?_, ⟨C.kx (KX.put (by omega)), by rw [gI_n (by omega)]; exact e8, gI_e, i1, by omega, fun k hk => by rw [gI_n (by omega)]; exact eP k hk, hp, pt_m i1 (fun k => (pe k).1)⟩, KX.put (by omega)⟩
    have B : ∀ x, x = Int32.ofNat (ts_ K t 384) → f_X0_trace_B64 20000 (320 + 6 * w) (f_X0_trace_L23 20000 (320 + 6 * w) m) (Int32.ofNat (pt_ K V l P f t p 384)) x (Int32.ofNat (pt_ K V l P f t p 384) * 24) σ = some (put_I σ (320 + 6 * w) 9 (Int32.ofNat i)) := by
      intro x hx
      have hl := lt 384
      unfold f_X0_trace_B64
      rw [hx, l_24, o_mul, o_add, if_neg (o_nn (by omega))]
      simp only [C5, Option.bind_some, C8]
      have ef := eF i i1
      rw [i2] at ef
      rw [if_pos (by rw [o_lt (by omega) (by omega)]; omega), if_neg (o_in (by omega) (by omega)), o_tn (by omega), ef, if_neg (by
        rw [i_eq, o_ti (by omega)]
        have : (-1 : Int32).toInt = -1 := rfl
        omega), if_neg (by
        have := o_in (k := pt_ K V l P f t p 384 * 24 + ts_ K t 384) (L := 384) (by omega) (by omega)
        rw [o_tn (by omega)] at this
        exact this)]
    rw [f_X0_trace_L23]
    simp only [C4, Option.bind_some, C7, e8]
    rw [if_pos (by rw [o_lt (by omega) (by omega)]; omega), C2]
    rcases C16 with ⟨q1, q2⟩ | ⟨b, K', q1, q2, -⟩
    · rw [q1]
      exact B 0 (by rw [q2]; rfl)
    · rw [q1]
      show (Option.bind (f_X11_round (sg_I σ (320 + 6 * w) 4 + Int32.ofNat 384) 24) fun p6 => _) = _
      rw [C11, o_add, l_24, rd_o (by omega) (by omega), o_ti (by omega), em_n]
      simp only [Option.bind_some]
      exact B _ (by rw [q2]; rfl)
  | succ j ih =>
    intro s m σ hs hm C e8 e9 eP eF eN eD
    obtain ⟨m, rfl⟩ : ∃ x, m = x + 1 := ⟨m - 1, by omega⟩
    obtain ⟨-, C2, ⟨-, C4, C5, -, C7, C8⟩, ⟨C9, C10, C11⟩, -, ⟨b1, b2, b3, b4, b5, hw⟩, C16⟩ := id C
    have lt : ∀ i, pt_ K V l P f t p i * 24 + ts_ K t i < 384 := fun i => by
      have h1 := pt_lt (K := K) (V := V) (P := P) (f := f) (t := t) b1 hp i
      have h2 := ts_lt (K := K) (t := t) (i := i)
      omega
    have red : ∀ τ, (∀ x, x = Int32.ofNat (ts_ K t s) → f_X0_trace_B64 20000 (320 + 6 * w) (f_X0_trace_L23 20000 (320 + 6 * w) m) (Int32.ofNat (pt_ K V l P f t p s)) x (Int32.ofNat (pt_ K V l P f t p s) * 24) σ = some τ) → f_X0_trace_L23 20000 (320 + 6 * w) (m + 1) (Int32.ofNat (pt_ K V l P f t p s)) σ = some τ := by
      intro τ B
      rw [f_X0_trace_L23]
      simp only [C4, Option.bind_some, C7, e8]
      rw [if_pos (by rw [o_lt (by omega) (by omega)]; omega), C2]
      rcases C16 with ⟨q1, q2⟩ | ⟨b, K', q1, q2, -⟩
      · rw [q1]
        exact B 0 (by rw [q2]; rfl)
      · rw [q1]
        show (Option.bind (f_X11_round (sg_I σ (320 + 6 * w) 4 + Int32.ofNat s) 24) fun p6 => _) = _
        rw [C11, o_add, l_24, rd_o (by omega) (by omega), o_ti (by omega), em_n]
        simp only [Option.bind_some]
        exact B _ (by rw [q2]; rfl)
    have hl := lt s
    have ni : ¬ (Int32.ofNat (pt_ K V l P f t p s * 24 + ts_ K t s) < 0 ∨ 384 ≤ pt_ K V l P f t p s * 24 + ts_ K t s) := by
      have := o_in (k := pt_ K V l P f t p s * 24 + ts_ K t s) (L := 384) (by omega) (by omega)
      rw [o_tn (by omega)] at this
      exact this
    by_cases rep : ∃ i, i < s ∧ pt_ K V l P f t p i * 24 + ts_ K t i = pt_ K V l P f t p s * 24 + ts_ K t s
    · obtain ⟨i, i1, i2⟩ := rep
      have h1 := ts_lt (K := K) (t := t) (i := i)
      have h2 := ts_lt (K := K) (t := t) (i := s)
      have pe := pt_p (K := K) (V := V) (l := l) (P := P) (f := f) (t := t) (p := p) (S := s) (L := i) (by omega) (by omega)
      refine ⟨put_I σ (320 + 6 * w) 9 (Int32.ofNat i), s, i, red _ (fun x hx => ?_), ⟨C.kx (KX.put (by omega)), by rw [gI_n (by omega)]; exact e8, gI_e, i1, by omega, fun k hk => by rw [gI_n (by omega)]; exact eP k hk, hp, pt_m i1 (fun k => (pe k).1)⟩, KX.put (by omega)⟩
      unfold f_X0_trace_B64
      rw [hx, l_24, o_mul, o_add, if_neg (o_nn (by omega))]
      simp only [C5, Option.bind_some, C8]
      have ef := eF i i1
      rw [i2] at ef
      rw [if_pos (by rw [o_lt (by omega) (by omega)]; omega), o_tn (by omega), if_neg ni, ef, if_neg (by
        rw [i_eq, o_ti (by omega)]
        have : (-1 : Int32).toInt = -1 := rfl
        omega), if_neg ni]
    · have eM := eN (pt_ K V l P f t p s * 24 + ts_ K t s) hl (fun i hi e => rep ⟨i, hi, e⟩)
      have x1 : KX w law σ (put_I (put_I σ (325 + 6 * w) (pt_ K V l P f t p s * 24 + ts_ K t s) (Int32.ofNat s)) (324 + 6 * w) s (Int32.ofNat (pt_ K V l P f t p s))) := (KX.put (by omega)).tr (KX.put (by omega))
      obtain ⟨υ, u1, u2⟩ := mo_v (C.kx x1) (spot := pt_ K V l P f t p s) (tt := t + s) (pt_lt b1 hp s) (by omega)
      have lo : ∀ b, law = some b → 371 ≤ b := by
        intro b hb
        rcases C16 with ⟨q1, -⟩ | ⟨b', K', q1, q2, q3, -⟩
        · rw [q1] at hb; cases hb
        · rw [q1] at hb; cases hb; exact q3
      have ue : ∀ a k, a < 371 → a ≠ 323 + 6 * w → sg_I υ a k = sg_I (put_I (put_I σ (325 + 6 * w) (pt_ K V l P f t p s * 24 + ts_ K t s) (Int32.ofNat s)) (324 + 6 * w) s (Int32.ofNat (pt_ K V l P f t p s))) a k := fun a k h1 h2 => u2.2 a k (by omega) (fun b hb => by have := lo b hb; omega)
      have x2 : KX w law σ (put_I υ (320 + 6 * w) 8 (Int32.ofNat (s + 1))) := (x1.tr u2.kx).tr (KX.put (by omega))
      obtain ⟨τ, S, L, a1, a2, a3⟩ := ih (s + 1) m (put_I υ (320 + 6 * w) 8 (Int32.ofNat (s + 1))) (by omega) (by omega) (C.kx x2) gI_e (by rw [gI_n (by omega), ue _ _ (by omega) (by omega), gI_n (by omega), gI_n (by omega)]; exact e9) (fun i hi => by
        rw [gI_n (by omega), ue _ _ (by omega) (by omega)]
        by_cases c : i = s
        · subst c
          rw [gI_e]
        · rw [gI_n (by omega), gI_n (by omega)]
          exact eP i (by omega)) (fun i hi => by
        rw [gI_n (by omega), ue _ _ (by omega) (by omega), gI_n (by omega)]
        by_cases c : i = s
        · subst c
          rw [gI_e]
        · rw [gI_n (Or.inr (fun e => rep ⟨i, by omega, e⟩))]
          exact eF i (by omega)) (fun x hx hn => by
        rw [gI_n (by omega), ue _ _ (by omega) (by omega), gI_n (by omega), gI_n (Or.inr (fun e => hn s (by omega) e.symm))]
        exact eN x hx (fun i hi => hn i (by omega))) (fun i k hik hk => by
        by_cases c : k = s
        · subst c
          exact fun e => rep ⟨i, hik, e⟩
        · exact eD i k hik (by omega))
      refine ⟨τ, S, L, red _ (fun x hx => ?_), a2, x2.tr a3⟩
      have n20 : ¬ 320 + 6 * w = 325 + 6 * w := by omega
      have e8' : sg_I (put_I σ (325 + 6 * w) (pt_ K V l P f t p s * 24 + ts_ K t s) (Int32.ofNat s)) (320 + 6 * w) 8 = Int32.ofNat s := by rw [gI_n (by omega)]; exact e8
      have e8'' : sg_I (put_I (put_I σ (325 + 6 * w) (pt_ K V l P f t p s * 24 + ts_ K t s) (Int32.ofNat s)) (324 + 6 * w) s (Int32.ofNat (pt_ K V l P f t p s))) (320 + 6 * w) 8 = Int32.ofNat s := by rw [gI_n (by omega)]; exact e8'
      have e4'' : sg_I (put_I (put_I σ (325 + 6 * w) (pt_ K V l P f t p s * 24 + ts_ K t s) (Int32.ofNat s)) (324 + 6 * w) s (Int32.ofNat (pt_ K V l P f t p s))) (320 + 6 * w) 4 = Int32.ofNat t := by rw [gI_n (by omega), gI_n (by omega)]; exact C11
      have e8υ : sg_I υ (320 + 6 * w) 8 = Int32.ofNat s := by rw [ue _ _ (by omega) (by omega)]; exact e8''
      unfold f_X0_trace_B64
      rw [hx, l_24, o_mul, o_add, if_neg (o_nn (by omega))]
      simp only [C5, Option.bind_some, C8]
      rw [if_pos (by rw [o_lt (by omega) (by omega)]; omega), o_tn (by omega), if_neg ni, eM, if_pos rfl, if_neg ni, e8]
      simp only [gR_I, gL_I, C4, Option.bind_some, C7, e8']
      rw [if_neg (o_in (by omega) (by omega)), o_tn (by omega), e4'', e8'', o_add, u1]
      simp only [Option.bind_some, e8υ, o_s]
      exact a1
theorem tr_w {σ : Sg} {w : Nat} {V : Int32} {l : Nat} {P : Nat → Int32} {f t p : Nat} {law : Option Nat} {K : Option (List Kl)} (C : CO σ w V l P f t p law K) (hp : p < l) (ht : t ≤ 9999) : ∃ τ S L, f_X0_trace 20000 (320 + 6 * w) σ = some τ ∧ TR τ w V l P f t p law K S L ∧ KX w law σ τ := by
  obtain ⟨-, C2, ⟨-, C4, C5, -, C7, C8⟩, ⟨C9, C10, C11⟩, -, ⟨b1, b2, b3, b4, b5, hw⟩, C16⟩ := id C
  obtain ⟨υ, u1, u2, u3, u4⟩ := fl_v (b := 325 + 6 * w) (len := 384) (v := -1) (by omega) 384 0 20000 σ (by omega) (by omega) C8
  have x1 : KX w law σ υ := ⟨u2, fun a k h _ => u3 a k (by omega)⟩
  have x2 : KX w law σ (put_I (put_I υ (320 + 6 * w) 9 0) (320 + 6 * w) 8 0) := (x1.tr (KX.put (by omega))).tr (KX.put (by omega))
  obtain ⟨τ, S, L, a1, a2, a3⟩ := tl_w hp ht 384 0 20000 (put_I (put_I υ (320 + 6 * w) 9 0) (320 + 6 * w) 8 0) (by omega) (by omega) (C.kx x2) gI_e (by rw [gI_n (by omega), gI_e]) (fun i hi => absurd hi (by omega)) (fun i hi => absurd hi (by omega)) (fun x hx _ => by rw [gI_n (by omega), gI_n (by omega)]; exact u4 x (by omega) hx) (fun i k _ hk => absurd hk (by omega))
  refine ⟨τ, S, L, ?_, a2, x2.tr a3⟩
  have e1 : sg_I (put_I υ (320 + 6 * w) 9 0) (320 + 6 * w) 1 = Int32.ofNat p := by rw [gI_n (by omega), u3 _ _ (by omega)]; exact C10
  have u1' : f_J7_fill_53178_L5 20000 20000 (some (325 + 6 * w)) (-1) 0 (Int32.ofNat 384) σ = some υ := u1
  unfold f_X0_trace f_J7_fill_53178
  rw [C5]
  simp only [Option.bind_some]
  rw [C8, u1']
  simp only [Option.bind_some]
  rw [e1]
  exact a1
/-! what a traced course tells -/
theorem pb_v {σ : Sg} {w : Nat} {V : Int32} {l : Nat} {P : Nat → Int32} {f t p : Nat} {law : Option Nat} {K : Option (List Kl)} {S L : Nat} (T : TR σ w V l P f t p law K S L) {i : Nat} (hi : i < S) : f_X0_placeAfter_B35 (320 + 6 * w) (Int32.ofNat i) σ = some (Int32.ofNat (pt_ K V l P f t p i)) := by
  obtain ⟨⟨-, -, ⟨-, C4, -, -, C7, -⟩, -⟩, e8, e9, h1, h2, h3, -⟩ := T
  unfold f_X0_placeAfter_B35
  rw [if_neg (o_nn (by omega))]
  simp only [C4, Option.bind_some, C7]
  rw [if_pos (by rw [o_lt (by omega) (by omega)]; omega), if_neg (o_in (by omega) (by omega)), o_tn (by omega), h3 i hi]
theorem pf_v {σ : Sg} {w : Nat} {V : Int32} {l : Nat} {P : Nat → Int32} {f t p : Nat} {law : Option Nat} {K : Option (List Kl)} {S L : Nat} (T : TR σ w V l P f t p law K S L) {n : Nat} (hn : n < 1000000) : f_X0_placeAfter (320 + 6 * w) (Int32.ofNat n) σ = some (Int32.ofNat (pt_ K V l P f t p n)) := by
  obtain ⟨-, e8, e9, h1, h2, h3, h4, h5⟩ := id T
  unfold f_X0_placeAfter
  rw [e8, e9]
  by_cases q : n < S
  · rw [if_pos (by rw [o_lt (by omega) (by omega)]; exact q)]
    exact pb_v T q
  · have hm := Nat.mod_lt (n - L) (show 0 < S - L by omega)
    rw [if_neg (by rw [o_lt (by omega) (by omega)]; exact q), o_sub (by omega), o_sub (by omega), rd_o (by omega) (by omega), o_ti (by omega), em_n]
    simp only [Option.bind_some]
    rw [o_add, pb_v T (by omega), ← h5 n (by omega)]
theorem sf_v {σ : Sg} {w : Nat} {V : Int32} {l : Nat} {P : Nat → Int32} {f t p : Nat} {law : Option Nat} {K : Option (List Kl)} {S L : Nat} (T : TR σ w V l P f t p law K S L) {n : Nat} (hn : n < 1000000) : f_X0_shownAfter (320 + 6 * w) (Int32.ofNat n) σ = some (P (pt_ K V l P f t p n)) := by
  obtain ⟨⟨⟨bs, c, c1, c2, c3, c4, -, -⟩, -, -, -, -, ⟨b1, b2, -⟩, -⟩, -, -, -, -, -, hp, -⟩ := id T
  have hlt := pt_lt (K := K) (V := V) (P := P) (f := f) (t := t) b1 hp n
  unfold f_X0_shownAfter
  rw [pf_v T hn]
  simp only [Option.bind_some, c1]
  rw [sa_v c2 c3 b1 b2 c4, o_ti (by omega), em_n, Nat.mod_eq_of_lt hlt]
  rfl
theorem hf_v {σ : Sg} {w : Nat} {V : Int32} {l : Nat} {P : Nat → Int32} {f t p : Nat} {law : Option Nat} {K : Option (List Kl)} {S L : Nat} (T : TR σ w V l P f t p law K S L) {n : Nat} (hn : n < 1000000) : f_X0_isHomeAfter (320 + 6 * w) (Int32.ofNat n) σ = some (bi_ (decide (pt_ K V l P f t p n = p))) := by
  obtain ⟨⟨-, -, -, ⟨-, C10, -⟩, -, ⟨b1, b2, -⟩, -⟩, -, -, -, -, -, hp, -⟩ := id T
  have hlt := pt_lt (K := K) (V := V) (P := P) (f := f) (t := t) b1 hp n
  unfold f_X0_isHomeAfter
  rw [pf_v T hn]
  simp only [Option.bind_some, C10]
  by_cases q : pt_ K V l P f t p n = p
  · rw [if_pos (by rw [q]), decide_eq_true q]
    rfl
  · rw [if_neg (by rw [o_eq (by omega) (by omega)]; exact q), decide_eq_false q]
    rfl
/-- home again by each of the first k flashes -/
def sy_ (g : Nat → Nat) (p f : Nat) : Nat → Bool
  | 0 => true
  | k + 1 => sy_ g p f k && decide (g ((k + 1) * f) = p)
theorem sy_f {g : Nat → Nat} {p f k : Nat} (h : sy_ g p f k = false) : ∀ j, sy_ g p f (k + j) = false
  | 0 => h
  | j + 1 => by
    show (sy_ g p f (k + j) && _) = false
    rw [sy_f h j]
    rfl
theorem st_v {σ : Sg} {w : Nat} {V : Int32} {l : Nat} {P : Nat → Int32} {f t p : Nat} {law : Option Nat} {K : Option (List Kl)} {S L : Nat} (T : TR σ w V l P f t p law K S L) {n : Nat} (hn : n ≤ 60) : f_X0_isStillBy 20000 (320 + 6 * w) (Int32.ofNat n) σ = some (bi_ (sy_ (pt_ K V l P f t p) p n 6)) := by
  have lp : ∀ (j k m : Nat), k + j = 6 → j < m → f_X0_isStillBy_L4 20000 (320 + 6 * w) m (Int32.ofNat n) (bi_ (sy_ (pt_ K V l P f t p) p n k)) (Int32.ofNat (k + 1)) σ = some (bi_ (sy_ (pt_ K V l P f t p) p n 6)) := by
    intro j
    induction j with
    | zero =>
      intro k m hk hm
      obtain ⟨m, rfl⟩ : ∃ x, m = x + 1 := ⟨m - 1, by omega⟩
      have hk : k = 6 := by omega
      subst hk
      rw [f_X0_isStillBy_L4, if_pos (by decide)]
      cases sy_ (pt_ K V l P f t p) p n 6 <;> rfl
    | succ j ih =>
      intro k m hk hm
      obtain ⟨m, rfl⟩ : ∃ x, m = x + 1 := ⟨m - 1, by omega⟩
      have ih1 := ih (k + 1) m (by omega) (by omega)
      rw [f_X0_isStillBy_L4, if_neg (by rw [l_6, o_lt (by omega) (by omega)]; omega)]
      cases hb : sy_ (pt_ K V l P f t p) p n k with
      | false =>
        have h6 := sy_f hb (6 - k)
        rw [show k + (6 - k) = 6 by omega] at h6
        rw [if_pos bi_f, h6]
        rfl
      | true =>
        have e : sy_ (pt_ K V l P f t p) p n (k + 1) = decide (pt_ K V l P f t p ((k + 1) * n) = p) := by
          show (sy_ (pt_ K V l P f t p) p n k && _) = _
          rw [hb]
          rfl
        have hkn : (k + 1) * n ≤ 6 * 60 := Nat.mul_le_mul (by omega) hn
        rw [e] at ih1
        rw [if_neg (by decide), o_mul, hf_v T (by omega)]
        simp only [Option.bind_some]
        rw [o_s]
        exact ih1
  exact lp 6 0 20000 (by omega) (by omega)
