/-! ===== wheels by place ===== -/
set_option maxRecDepth 100000 in
theorem ob_1 : ∀ t : Nat, t < 16 → ∀ w : Nat, w < 4 → decide ((((Int32.ofNat t) >>> ((Int32.ofNat w) &&& 31)) &&& 1 : Int32) = 0) = decide (t / 2 ^ w % 2 = 0) := by decide +kernel
set_option maxRecDepth 100000 in
theorem ob_2 : ∀ t : Nat, t < 16 → ∀ v : Nat, v < 4 → t / 2 ^ v % 2 = 0 → (Int32.ofNat t ||| ((1 : Int32) <<< (Int32.ofNat v &&& 31))) = Int32.ofNat (t + 2 ^ v) := by decide +kernel
def cn_ (t : Nat) : Nat := t % 2 + t / 2 % 2 + t / 4 % 2 + t / 8 % 2
def ob_b (n t v : Nat) : Bool := decide (t < 2 ^ n ∧ v < n ∧ t / 2 ^ v % 2 = 0 → cn_ t < n ∧ t + 2 ^ v < 2 ^ n ∧ cn_ (t + 2 ^ v) = cn_ t + 1)
set_option maxRecDepth 100000 in
theorem ob_c : ∀ n : Nat, n < 5 → ∀ t : Nat, t < 16 → ∀ v : Nat, v < 4 → ob_b n t v = true := by decide +kernel
theorem ob_3 (n : Nat) (hn : n ≤ 4) (t : Nat) (ht : t < 16) (v : Nat) (hv : v < 4) (h : t < 2 ^ n ∧ v < n ∧ t / 2 ^ v % 2 = 0) : cn_ t < n ∧ t + 2 ^ v < 2 ^ n ∧ cn_ (t + 2 ^ v) = cn_ t + 1 := of_decide_eq_true (ob_c n (by omega) t ht v hv) h
set_option maxRecDepth 100000 in
theorem ob_6 : ∀ t : Nat, t < 16 → ∀ v : Nat, v < 4 → t / 2 ^ v % 2 = 0 → ∀ w : Nat, w < 4 → (t + 2 ^ v) / 2 ^ w % 2 = (if w = v then 1 else t / 2 ^ w % 2) := by decide +kernel
set_option maxRecDepth 100000 in
theorem ob_4 : ∀ n : Nat, n ≤ 4 → ∀ t : Nat, t < 2 ^ n → (∀ w : Nat, w < n → t / 2 ^ w % 2 = 1) → cn_ t = n := by decide +kernel
theorem ob_5 : ∀ n : Nat, n ≤ 4 → 2 ^ n ≤ 16 := by decide
/-- the one that comes next -/
def pk_ (p : Nat → Nat) (w : Nat) : Option Nat → Option Nat
  | none => some w
  | some u => if p w < p u then some w else some u
def sl1 (p : Nat → Nat) (t : Nat) : Nat → Nat → Option Nat → Option Nat
  | 0, _, cur => cur
  | j + 1, w, cur => sl1 p t j (w + 1) (if t / 2 ^ w % 2 = 0 then pk_ p w cur else cur)
theorem sl_r {p : Nat → Nat} {t n v : Nat} (hv : v < n) (ho : t / 2 ^ v % 2 = 0) (hm : ∀ w, w < n → t / 2 ^ w % 2 = 0 → p v < p w ∨ (p v = p w ∧ v ≤ w)) : ∀ (j w : Nat) (cur : Option Nat), w + j = n → ((cur = some v ∧ v < w) ∨ (w ≤ v ∧ (cur = none ∨ ∃ u, cur = some u ∧ u < w ∧ t / 2 ^ u % 2 = 0))) → sl1 p t j w cur = some v := by
  intro j
  induction j with
  | zero =>
    intro w cur hw h
    rcases h with ⟨h1, -⟩ | ⟨h1, -⟩
    · exact h1
    · omega
  | succ j ih =>
    intro w cur hw h
    rw [sl1]
    refine ih (w + 1) _ (by omega) ?_
    rcases h with ⟨rfl, h2⟩ | ⟨h1, h2⟩
    · left
      refine ⟨?_, by omega⟩
      by_cases q : t / 2 ^ w % 2 = 0
      · have := hm w (by omega) q
        rw [if_pos q]
        show (if p w < p v then some w else some v) = some v
        rw [if_neg (by omega)]
      · rw [if_neg q]
    · by_cases hwv : w = v
      · subst hwv
        left
        refine ⟨?_, by omega⟩
        rw [if_pos ho]
        rcases h2 with rfl | ⟨u, rfl, u1, u2⟩
        · rfl
        · have := hm u (by omega) u2
          show (if p w < p u then some w else some u) = some w
          rw [if_pos (by omega)]
      · right
        refine ⟨by omega, ?_⟩
        by_cases q : t / 2 ^ w % 2 = 0
        · rw [if_pos q]
          rcases h2 with rfl | ⟨u, rfl, u1, u2⟩
          · exact Or.inr ⟨w, rfl, by omega, q⟩
          · have ep : pk_ p w (some u) = if p w < p u then some w else some u := rfl
            rw [ep]
            by_cases q2 : p w < p u
            · rw [if_pos q2]
              exact Or.inr ⟨w, rfl, by omega, q⟩
            · rw [if_neg q2]
              exact Or.inr ⟨u, rfl, by omega, u2⟩
        · rw [if_neg q]
          rcases h2 with h2 | ⟨u, h3, u1, u2⟩
          · exact Or.inl h2
          · exact Or.inr ⟨u, h3, by omega, u2⟩
def en_ : Option Nat → Int32
  | none => -1
  | some u => Int32.ofNat u
theorem en_n {u : Nat} (h : u < 4) : ¬ Int32.ofNat u = -1 := by
  rw [i_eq, o_ti (by omega)]
  have : (-1 : Int32).toInt = -1 := rfl
  omega
theorem bp_i {σ : Sg} {n t k v : Nat} {p : Nat → Nat} (c : CF (sg_R σ) (sg_L σ)) (w18 : ∀ w, w < 4 → sg_R σ 18 w = some (20 + w)) (hn : n ≤ 4) (e : sg_I σ 17 1 = Int32.ofNat n) (hp : ∀ w, w < n → p w ≤ 1000 ∧ sg_I σ (20 + w) 2 = Int32.ofNat (p w)) (ht : t < 16) (hv : v < 4) {K : Int32 → Int32 → Int32 → Option Int32} {row : Int32} : ∀ (j w m : Nat) (cur : Option Nat), w + j = n → j < m → (∀ u, cur = some u → u < n) → sl1 p t j w cur = some v → f_X11_byPlace_L23 20000 0 K m row (Int32.ofNat t) (Int32.ofNat k) (en_ cur) (Int32.ofNat w) σ = K (row * 10 + Int32.ofNat v) (Int32.ofNat t ||| (1 <<< (Int32.ofNat v &&& 31))) (Int32.ofNat (k + 1)) := by
  obtain ⟨R1, R2, L2⟩ := cr_3 c
  intro j
  induction j with
  | zero =>
    intro w m cur hw hm hc hs
    obtain ⟨m, rfl⟩ : ∃ x, m = x + 1 := ⟨m - 1, by omega⟩
    have hs : cur = some v := hs
    subst hs
    have ee : en_ (some v) = Int32.ofNat v := rfl
    rw [f_X11_byPlace_L23, f_of R1, e, if_neg (by rw [o_lt (by omega) (by omega)]; omega), ee, if_neg (en_n hv)]
    unfold f_X11_byPlace_B116
    rw [o_s]
  | succ j ih =>
    intro w m cur hw hm hc hs
    obtain ⟨m, rfl⟩ : ∃ x, m = x + 1 := ⟨m - 1, by omega⟩
    have b1 := ob_1 t ht w (by omega)
    have z10 : ¬ (1 : Int32) = 0 := by decide
    rw [sl1] at hs
    rw [f_X11_byPlace_L23, f_of R1, e, if_pos (by rw [o_lt (by omega) (by omega)]; omega)]
    unfold f_X11_byPlace_B49 f_X11_byPlace_B91 f_X11_byPlace_B95
    rw [o_s w]
    by_cases q : t / 2 ^ w % 2 = 0
    · rw [decide_eq_true q] at b1
      rw [if_pos q] at hs
      rw [if_pos (of_decide_eq_true b1), if_neg z10]
      cases cur with
      | none =>
        rw [if_pos (show en_ none = -1 from rfl)]
        exact ih (w + 1) m (some w) (by omega) (by omega) (fun u hu => by cases hu; omega) hs
      | some u =>
        have hu := hc u rfl
        obtain ⟨p1, p2⟩ := hp w (by omega)
        obtain ⟨p3, p4⟩ := hp u hu
        rw [if_neg (show ¬ en_ (some u) = -1 from en_n (by omega)), f_of R1, f_of R2, L2, if_neg (o_in (by omega) (by omega)), o_tn (by omega), f_of (w18 w (by omega))]
        show (if (Int32.ofNat u) < 0 ∨ 4 ≤ (Int32.ofNat u).toNatClampNeg then none else Option.bind (sg_R σ 18 (Int32.ofNat u).toNatClampNeg) fun b14 => _) = _
        rw [if_neg (o_in (by omega) (by omega)), o_tn (by omega), f_of (w18 u (by omega)), p2, p4]
        have hs : sl1 p t j (w + 1) (if p w < p u then some w else some u) = some v := hs
        by_cases q2 : p w < p u
        · rw [if_pos q2] at hs
          rw [if_pos (by rw [o_lt (by omega) (by omega)]; exact q2)]
          exact ih (w + 1) m (some w) (by omega) (by omega) (fun u hu => by cases hu; omega) hs
        · rw [if_neg q2] at hs
          rw [if_neg (by rw [o_lt (by omega) (by omega)]; exact q2)]
          exact ih (w + 1) m (some u) (by omega) (by omega) hc hs
    · rw [decide_eq_false q] at b1
      rw [if_neg q] at hs
      rw [if_neg (of_decide_eq_false b1), if_pos rfl]
      exact ih (w + 1) m cur (by omega) (by omega) hc hs
/-- which wheels are told by spot S and wheel v -/
def I1_ (p : Nat → Nat) (n S v t : Nat) : Prop := t < 2 ^ n ∧ ∀ w, w < n → (t / 2 ^ w % 2 = 0 ↔ ¬ (p w < S ∨ (p w = S ∧ w < v)))
theorem or_e {σ ρ : Sg} (r : Rel σ ρ) {n : Nat} (hn : n ≤ 4) (e : sg_I ρ 344 20 = Int32.ofNat n) (h3 : sg_I σ 17 1 = Int32.ofNat n) : ∃ v, f_X11_byPlace 20000 0 σ = some v ∧ f_X12_orderRow 20000 344 ρ = some v := by
  obtain ⟨R1, R2, L2⟩ := cr_3 r.cf
  have d := r.rf
  have w18 := r.w18
  have n16 := ob_5 n hn
  obtain ⟨p, hp⟩ : ∃ p : Nat → Nat, ∀ w, w < n → p w < 16 ∧ sg_I σ (20 + w) 2 = Int32.ofNat (p w) ∧ f_X12_of 344 (Int32.ofNat w) 2 ρ = some (Int32.ofNat (p w)) := by
    refine ⟨fun w => (sg_I ρ 359 (4 * w + 2)).toNatClampNeg, fun w hw => ?_⟩
    obtain ⟨v, z, p, q, v1, z1, q1, p1, p2, w1, w2, w3, w4, w5, w6, w7, w8⟩ := r.wh e hn hw
    have ep : (sg_I ρ 359 (4 * w + 2)).toNatClampNeg = p := by rw [w3, o_tn (by omega)]
    show (sg_I ρ 359 (4 * w + 2)).toNatClampNeg < 16 ∧ sg_I σ (20 + w) 2 = Int32.ofNat (sg_I ρ 359 (4 * w + 2)).toNatClampNeg ∧ _ = some (Int32.ofNat (sg_I ρ 359 (4 * w + 2)).toNatClampNeg)
    rw [ep]
    exact ⟨p2, w7, by rw [of_2 d (by omega), w3]⟩
  have ROUND : ∀ (m t k v : Nat) (row : Int32), t < 2 ^ n → v < n → k < n → t / 2 ^ v % 2 = 0 → (∀ w, w < n → t / 2 ^ w % 2 = 0 → p v < p w ∨ (p v = p w ∧ v ≤ w)) → f_X11_byPlace_L6 20000 0 (m + 1) row (Int32.ofNat t) (Int32.ofNat k) σ = f_X11_byPlace_L6 20000 0 m (row * 10 + Int32.ofNat v) (Int32.ofNat (t + 2 ^ v)) (Int32.ofNat (k + 1)) σ := by
    intro m t k v row h1 h2 h3' h4 h5
    have s := sl_r h2 h4 h5 n 0 none (by omega) (Or.inr ⟨by omega, Or.inl rfl⟩)
    have i := bp_i r.cf w18 hn h3 (fun w hw => ⟨by have := (hp w hw).1; omega, (hp w hw).2.1⟩) (show t < 16 by omega) (show v < 4 by omega) (k := k) (K := fun v1 v2 v3 => f_X11_byPlace_L6 20000 0 m v1 v2 v3 σ) (row := row) n 0 20000 none (by omega) (by omega) (fun u hu => by cases hu) s
    rw [ob_2 t (by omega) v (by omega) h4] at i
    rw [f_X11_byPlace_L6, f_of R1, h3, if_pos (by rw [o_lt (by omega) (by omega)]; omega)]
    exact i
  have IN : ∀ (S : Nat), S < 16 → ∀ (K : Int32 → Int32 → Option Int32), (∀ (row : Int32) (t : Nat), I1_ p n (S + 1) 0 t → ∃ X, (∀ m, n - cn_ t < m → f_X11_byPlace_L6 20000 0 m row (Int32.ofNat t) (Int32.ofNat (cn_ t)) σ = some X) ∧ K row (Int32.ofNat (S + 1)) = some X) → ∀ (j v m' : Nat) (row : Int32) (t : Nat), v + j = n → j < m' → I1_ p n S v t → ∃ X, (∀ m, n - cn_ t < m → f_X11_byPlace_L6 20000 0 m row (Int32.ofNat t) (Int32.ofNat (cn_ t)) σ = some X) ∧ f_X12_orderRow_L12 20000 344 K m' row (Int32.ofNat S) (Int32.ofNat v) ρ = some X := by
    intro S hS K HK j
    induction j with
    | zero =>
      intro v m' row t hv hm' h
      obtain ⟨m', rfl⟩ : ∃ x, m' = x + 1 := ⟨m' - 1, by omega⟩
      obtain ⟨X, x1, x2⟩ := HK row t ⟨h.1, fun w hw => (h.2 w hw).trans (by constructor <;> intro q1 q2 <;> apply q1 <;> omega)⟩
      refine ⟨X, x1, ?_⟩
      rw [f_X12_orderRow_L12, e, if_neg (by rw [o_lt (by omega) (by omega)]; omega), o_s]
      exact x2
    | succ j ih =>
      intro v m' row t hv hm' h
      obtain ⟨m', rfl⟩ : ∃ x, m' = x + 1 := ⟨m' - 1, by omega⟩
      obtain ⟨p1, p2, p3⟩ := hp v (by omega)
      rw [f_X12_orderRow_L12, e, if_pos (by rw [o_lt (by omega) (by omega)]; omega), f_of p3]
      unfold f_X12_orderRow_B40
      rw [o_s v]
      by_cases q : p v = S
      · have ho : t / 2 ^ v % 2 = 0 := (h.2 v (by omega)).mpr (by omega)
        obtain ⟨o1, o2, o3⟩ := ob_3 n hn t (by have := h.1; omega) v (by omega) ⟨h.1, by omega, ho⟩
        have o4 := ob_6 t (by have := h.1; omega) v (by omega) ho
        obtain ⟨X, x1, x2⟩ := ih (v + 1) m' (row * 10 + Int32.ofNat v) (t + 2 ^ v) (by omega) (by omega) ⟨o2, fun w hw => by
          rw [o4 w (by omega)]
          by_cases hwv : w = v
          · subst hwv
            rw [if_pos rfl]
            exact ⟨fun h => by omega, fun h => absurd (Or.inr ⟨q, by omega⟩) h⟩
          · rw [if_neg hwv]
            exact (h.2 w hw).trans (by constructor <;> intro q1 q2 <;> apply q1 <;> omega)⟩
        refine ⟨X, fun m hm => ?_, ?_⟩
        · obtain ⟨m, rfl⟩ : ∃ x, m = x + 1 := ⟨m - 1, by omega⟩
          rw [ROUND m t (cn_ t) v row h.1 (by omega) o1 ho (fun w hw hw0 => by
            have := (h.2 w hw).mp hw0
            omega), ← o3]
          exact x1 m (by omega)
        · rw [if_pos (by rw [q]), l_10, Int32.mul_comm, ← l_10]
          exact x2
      · obtain ⟨X, x1, x2⟩ := ih (v + 1) m' row t (by omega) (by omega) ⟨h.1, fun w hw => (h.2 w hw).trans (by
          by_cases hwv : w = v
          · subst hwv
            constructor <;> intro q1 q2 <;> apply q1 <;> omega
          · constructor <;> intro q1 q2 <;> apply q1 <;> omega)⟩
        refine ⟨X, x1, ?_⟩
        rw [if_neg (by rw [o_eq (by omega) (by omega)]; exact q)]
        exact x2
  have OUT : ∀ (j S m' : Nat) (row : Int32) (t : Nat), S + j = 16 → j < m' → I1_ p n S 0 t → ∃ X, (∀ m, n - cn_ t < m → f_X11_byPlace_L6 20000 0 m row (Int32.ofNat t) (Int32.ofNat (cn_ t)) σ = some X) ∧ f_X12_orderRow_L4 20000 344 m' row (Int32.ofNat S) ρ = some X := by
    intro j
    induction j with
    | zero =>
      intro S m' row t hS hm' h
      obtain ⟨m', rfl⟩ : ∃ x, m' = x + 1 := ⟨m' - 1, by omega⟩
      have cn : cn_ t = n := ob_4 n hn t h.1 (fun w hw => by
        have h1 := h.2 w hw
        have h2 := (hp w hw).1
        have h3 : ¬ t / 2 ^ w % 2 = 0 := fun q => h1.mp q (by omega)
        omega)
      refine ⟨row, fun m hm => ?_, ?_⟩
      · obtain ⟨m, rfl⟩ : ∃ x, m = x + 1 := ⟨m - 1, by omega⟩
        rw [f_X11_byPlace_L6, f_of R1, h3, cn, if_neg (by rw [o_lt (by omega) (by omega)]; omega)]
      · rw [f_X12_orderRow_L4, if_neg (by rw [l_16, o_lt (by omega) (by omega)]; omega)]
    | succ j ih =>
      intro S m' row t hS hm' h
      obtain ⟨m', rfl⟩ : ∃ x, m' = x + 1 := ⟨m' - 1, by omega⟩
      obtain ⟨X, x1, x2⟩ := IN S (by omega) (fun v1 v2 => f_X12_orderRow_L4 20000 344 m' v1 v2 ρ) (fun row t h => ih (S + 1) m' row t (by omega) (by omega) h) n 0 20000 row t (by omega) (by omega) h
      refine ⟨X, x1, ?_⟩
      rw [f_X12_orderRow_L4, if_pos (by rw [l_16, o_lt (by omega) (by omega)]; omega)]
      exact x2
  obtain ⟨X, x1, x2⟩ := OUT 16 0 20000 0 0 (by omega) (by omega) ⟨Nat.two_pow_pos n, fun w hw => ⟨fun _ => by omega, fun _ => by rw [Nat.zero_div]⟩⟩
  have x1' := x1 20000 (by omega)
  refine ⟨X, ?_, ?_⟩
  · unfold f_X11_byPlace
    exact x1'
  · unfold f_X12_orderRow
    exact x2
theorem p2_most : so_most p2_I 20000 := by
  intro x
  refine Sm.so (Sm.of ?_)
  intro σ ρ r
  obtain ⟨n, h1, h2, h3, h4, h5⟩ := r.nw
  have c := r.cf
  have d := r.rf
  have il := il_v c h1 h3
  have z10 : ¬ (1 : Int32) = 0 := by decide
  by_cases g : 0 < n
  · rw [if_pos g] at il
    have n0 : ¬ sg_I ρ 344 20 = 0 := by rw [h2, l_0, o_eq (by omega) (by omega)]; omega
    have e0 : (0 : Int32).toInt = 0 := rfl
    have e9 : (9 : Int32).toInt = 9 := rfl
    by_cases gx : 0 ≤ x.toInt ∧ x.toInt ≤ 9
    · have iv : f_X12_in x 0 9 = some 1 := in_p (by rw [e0, e9]; exact gx)
      obtain ⟨k, hk, rfl⟩ := x_ob (B := 9) gx
      have W : ∀ w, w < n → ∃ v q, v ≤ 9 ∧ q ≤ 5 ∧ hL (sg_I ρ) q ≤ 16 ∧ sg_I σ (20 + w) 0 = Int32.ofNat v ∧ sg_I σ (20 + w) 3 = Int32.ofNat q ∧ f_X12_of 344 (Int32.ofNat w) 0 ρ = some (Int32.ofNat v) ∧ f_X12_longOf 344 (Int32.ofNat w) ρ = some (Int32.ofNat (hL (sg_I ρ) q)) := by
        intro w hw
        obtain ⟨v, z, p, q, v1, z1, q1, p1, p2, w1, w2, w3, w4, w5, w6, w7, w8⟩ := r.wh h2 h1 hw
        obtain ⟨bb, cc, ⟨-, -, s1, s2, -⟩, -, -⟩ := r.sp q
        exact ⟨v, q, v1, q1, s2, w5, w8, by rw [of_0 d (by omega), w1], lo_v r (by omega) (by omega) w4⟩
      unfold f_X11_most f_X12_most
      rw [f_of il, if_neg z10, if_neg n0, f_of iv, if_neg z10]
      match k, hk with
      | 0, _ =>
        obtain ⟨f, hf⟩ : ∃ f : Nat → Nat, ∀ w, w < n → f w ≤ 9 ∧ sg_I σ (20 + w) 0 = Int32.ofNat (f w) ∧ f_X12_of 344 (Int32.ofNat w) 0 ρ = some (Int32.ofNat (f w)) := by
          refine ⟨fun w => (sg_I σ (20 + w) 0).toNatClampNeg, fun w hw => ?_⟩
          obtain ⟨v, q, v1, q1, s2, a1, a2, a3, a4⟩ := W w hw
          have ev : (sg_I σ (20 + w) 0).toNatClampNeg = v := by rw [a1, o_tn (by omega)]
          show (sg_I σ (20 + w) 0).toNatClampNeg ≤ 9 ∧ sg_I σ (20 + w) 0 = Int32.ofNat (sg_I σ (20 + w) 0).toNatClampNeg ∧ _ = some (Int32.ofNat (sg_I σ (20 + w) 0).toNatClampNeg)
          rw [ev]
          exact ⟨v1, a1, a3⟩
        have a := fa_c c r.w18 h1 h3 (f := f) (fun w hw => ⟨(hf w hw).2.1, by have := (hf w hw).1; omega⟩) (n - 1) 1 0 20000 (by omega) g (by omega)
        have b := tb_r h1 h2 (f := f) (x := 1) (fun w hw => ⟨by have := (hf w hw).1; omega, by rw [if_neg z10]; exact (hf w hw).2.2⟩) (n - 1) 1 0 20000 (by omega) g (by omega)
        have a' : f_X11_fastest 20000 0 σ = some (Int32.ofNat (tb_ f (n - 1) 1 0)) := a
        have b' : f_X12_topBy 20000 344 1 ρ = some (Int32.ofNat (tb_ f (n - 1) 1 0)) := b
        exact ⟨(Int32.ofNat (tb_ f (n - 1) 1 0), σ), (Int32.ofNat (tb_ f (n - 1) 1 0), ρ), by rw [if_pos (show Int32.ofNat 0 = 0 from rfl), f_of a'], by rw [if_pos (show Int32.ofNat 0 = 0 from rfl), f_of b'], rfl, KC.rf, KR.rf⟩
      | 1, _ =>
        obtain ⟨f, hf⟩ : ∃ f : Nat → Nat, ∀ w, w < n → f w ≤ 5 ∧ sg_I σ (20 + w) 3 = Int32.ofNat (f w) ∧ hL (sg_I ρ) (f w) ≤ 16 ∧ f_X12_longOf 344 (Int32.ofNat w) ρ = some (Int32.ofNat (hL (sg_I ρ) (f w))) := by
          refine ⟨fun w => (sg_I σ (20 + w) 3).toNatClampNeg, fun w hw => ?_⟩
          obtain ⟨v, q, v1, q1, s2, a1, a2, a3, a4⟩ := W w hw
          have ev : (sg_I σ (20 + w) 3).toNatClampNeg = q := by rw [a2, o_tn (by omega)]
          show (sg_I σ (20 + w) 3).toNatClampNeg ≤ 5 ∧ sg_I σ (20 + w) 3 = Int32.ofNat (sg_I σ (20 + w) 3).toNatClampNeg ∧ hL (sg_I ρ) (sg_I σ (20 + w) 3).toNatClampNeg ≤ 16 ∧ _ = some (Int32.ofNat (hL (sg_I ρ) (sg_I σ (20 + w) 3).toNatClampNeg))
          rw [ev]
          exact ⟨q1, a2, s2, a4⟩
        have a := lo_c r h1 h3 (g := f) (fun w hw => ⟨(hf w hw).1, (hf w hw).2.1⟩) (n - 1) 1 0 20000 (by omega) g (by omega)
        have b := tb_r h1 h2 (f := fun w => hL (sg_I ρ) (f w)) (x := 0) (fun w hw => ⟨by have := (hf w hw).2.2.1; show hL (sg_I ρ) (f w) ≤ 1000; omega, by rw [if_pos rfl]; exact (hf w hw).2.2.2⟩) (n - 1) 1 0 20000 (by omega) g (by omega)
        have a' : f_X11_longest 20000 0 σ = some (Int32.ofNat (tb_ (fun w => hL (sg_I ρ) (f w)) (n - 1) 1 0)) := a
        have b' : f_X12_topBy 20000 344 0 ρ = some (Int32.ofNat (tb_ (fun w => hL (sg_I ρ) (f w)) (n - 1) 1 0)) := b
        exact ⟨(Int32.ofNat (tb_ (fun w => hL (sg_I ρ) (f w)) (n - 1) 1 0), σ), (Int32.ofNat (tb_ (fun w => hL (sg_I ρ) (f w)) (n - 1) 1 0), ρ), by rw [if_neg (by decide), if_pos (show Int32.ofNat 1 = 1 from rfl), f_of a'], by rw [if_neg (by decide), if_pos (show Int32.ofNat 1 = 1 from rfl), f_of b'], rfl, KC.rf, KR.rf⟩
      | 2, _ =>
        obtain ⟨v, a, b⟩ := cm_e r
        exact ⟨(v, σ), (v, ρ), by rw [if_neg (by decide), if_neg (by decide), if_pos (show Int32.ofNat 2 = 2 from rfl), f_of a], by rw [if_neg (by decide), if_neg (by decide), if_pos (show Int32.ofNat 2 = 2 from rfl), f_of b], rfl, KC.rf, KR.rf⟩
      | 3, _ =>
        obtain ⟨v, a, b⟩ := sn_e r h1 h2 h3
        exact ⟨(v, σ), (v, ρ), by rw [if_neg (by decide), if_neg (by decide), if_neg (by decide), if_pos (show Int32.ofNat 3 = 3 from rfl), f_of a], by rw [if_neg (by decide), if_neg (by decide), if_neg (by decide), if_pos (show Int32.ofNat 3 = 3 from rfl), f_of b], rfl, KC.rf, KR.rf⟩
      | 4, _ =>
        obtain ⟨v, a, b⟩ := tw_e r h1 h2 h3
        exact ⟨(v, σ), (v, ρ), by rw [if_neg (by decide), if_neg (by decide), if_neg (by decide), if_neg (by decide), if_pos (show Int32.ofNat 4 = 4 from rfl), f_of a], by rw [if_neg (by decide), if_neg (by decide), if_neg (by decide), if_neg (by decide), if_pos (show Int32.ofNat 4 = 4 from rfl), f_of b], rfl, KC.rf, KR.rf⟩
      | 5, _ =>
        obtain ⟨v, a, b⟩ := bk_e r h1 h2 h3
        exact ⟨(v, σ), (v, ρ), by rw [if_neg (by decide), if_neg (by decide), if_neg (by decide), if_neg (by decide), if_neg (by decide), if_pos (show Int32.ofNat 5 = 5 from rfl), f_of a], by rw [if_neg (by decide), if_neg (by decide), if_neg (by decide), if_neg (by decide), if_neg (by decide), if_pos (show Int32.ofNat 5 = 5 from rfl), show Int32.ofNat 5 - 5 = 0 from rfl, f_of b], rfl, KC.rf, KR.rf⟩
      | 6, _ =>
        obtain ⟨v, a, b⟩ := br_e r h1 h2 h3
        exact ⟨(v, σ), (v, ρ), by rw [if_neg (by decide), if_neg (by decide), if_neg (by decide), if_neg (by decide), if_neg (by decide), if_neg (by decide), if_pos (show Int32.ofNat 6 = 6 from rfl), f_of a], by rw [if_neg (by decide), if_neg (by decide), if_neg (by decide), if_neg (by decide), if_neg (by decide), if_neg (by decide), if_pos (show Int32.ofNat 6 = 6 from rfl), show Int32.ofNat 6 - 5 = 1 from rfl, f_of b], rfl, KC.rf, KR.rf⟩
      | 7, _ =>
        obtain ⟨v, τ, υ, a, b, y3, y4⟩ := st_e r h1 h2
        exact ⟨(v, τ), (v, υ), by rw [if_neg (by decide), if_neg (by decide), if_neg (by decide), if_neg (by decide), if_neg (by decide), if_neg (by decide), if_neg (by decide), if_pos (show Int32.ofNat 7 = 7 from rfl), f_of a], by rw [if_neg (by decide), if_neg (by decide), if_neg (by decide), if_neg (by decide), if_neg (by decide), if_neg (by decide), if_neg (by decide), if_pos (show Int32.ofNat 7 = 7 from rfl), show Int32.ofNat 7 - 5 = 2 from rfl, f_of b], rfl, y3, y4.kr⟩
      | 8, _ =>
        obtain ⟨v, a, b⟩ := or_e r h1 h2 h3
        exact ⟨(v, σ), (v, ρ), by rw [if_neg (by decide), if_neg (by decide), if_neg (by decide), if_neg (by decide), if_neg (by decide), if_neg (by decide), if_neg (by decide), if_neg (by decide), if_pos (show Int32.ofNat 8 = 8 from rfl), f_of a], by rw [if_neg (by decide), if_neg (by decide), if_neg (by decide), if_neg (by decide), if_neg (by decide), if_neg (by decide), if_neg (by decide), if_neg (by decide), if_pos (show Int32.ofNat 8 = 8 from rfl), f_of b], rfl, KC.rf, KR.rf⟩
      | 9, _ =>
        obtain ⟨f, o, c', t, f1, f2, o1, c1, t1, i1, i2, i3, i4, i5, i6, i7, i8⟩ := r.gl h2 h1 g
        obtain ⟨R1, R2, L2⟩ := cr_3 c
        have R24 : sg_R ρ 344 24 = some 359 := by simp only [d]
        have L59 : sg_L ρ 359 = 261 := by simp only [d]
        have n16 : ¬ ((16 : Int32) < 0 ∨ 261 ≤ 16) := by decide
        have n19 : ¬ ((19 : Int32) < 0 ∨ 261 ≤ 19) := by decide
        have t16 : (16 : Int32).toNatClampNeg = 16 := rfl
        have t19 : (19 : Int32).toNatClampNeg = 19 := rfl
        have rd : f_X11_round (Int32.ofNat t) (Int32.ofNat f) = some (Int32.ofNat (t % f)) := by rw [rd_o (by omega) (by omega), o_ti (by omega), em_n]
        exact ⟨(Int32.ofNat f - Int32.ofNat (t % f), σ), (Int32.ofNat f - Int32.ofNat (t % f), ρ), by rw [if_neg (by decide), if_neg (by decide), if_neg (by decide), if_neg (by decide), if_neg (by decide), if_neg (by decide), if_neg (by decide), if_neg (by decide), if_neg (by decide), if_pos (show Int32.ofNat 9 = 9 from rfl), f_of R1, i8, i5, f_of rd], by rw [if_neg (by decide), if_neg (by decide), if_neg (by decide), if_neg (by decide), if_neg (by decide), if_neg (by decide), if_neg (by decide), if_neg (by decide), if_neg (by decide), if_pos (show Int32.ofNat 9 = 9 from rfl), f_of R24, L59, t16, t19, if_neg n16, if_neg n19, if_neg n16, i1, i4, if_neg (by rw [l_0, o_eq (by omega) (by omega)]; omega), rm_o (by omega) (by omega)], rfl, KC.rf, KR.rf⟩
    · have iv : f_X12_in x 0 9 = some 0 := in_m (by rw [e0, e9]; exact gx)
      have ne : ∀ k : Nat, k ≤ 9 → ¬ x = Int32.ofNat k := fun k hk q => gx (by rw [q, o_ti (by omega)]; omega)
      refine ⟨(-1, σ), (-1, ρ), ?_, by unfold f_X12_most; rw [if_neg n0, f_of iv, if_pos rfl], rfl, KC.rf, KR.rf⟩
      unfold f_X11_most
      rw [f_of il, if_neg z10, if_neg (show ¬ x = 0 from ne 0 (by omega)), if_neg (show ¬ x = 1 from ne 1 (by omega)), if_neg (show ¬ x = 2 from ne 2 (by omega)), if_neg (show ¬ x = 3 from ne 3 (by omega)), if_neg (show ¬ x = 4 from ne 4 (by omega)), if_neg (show ¬ x = 5 from ne 5 (by omega)), if_neg (show ¬ x = 6 from ne 6 (by omega)), if_neg (show ¬ x = 7 from ne 7 (by omega)), if_neg (show ¬ x = 8 from ne 8 (by omega)), if_neg (show ¬ x = 9 from ne 9 (by omega))]
  · rw [if_neg g] at il
    have n0 : sg_I ρ 344 20 = 0 := by rw [h2, l_0, o_eq (by omega) (by omega)]; omega
    exact ⟨(-1, σ), (-1, ρ), by unfold f_X11_most; rw [f_of il, if_pos rfl], by unfold f_X12_most; rw [if_pos n0], rfl, KC.rf, KR.rf⟩
