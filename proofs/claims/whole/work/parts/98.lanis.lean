/-! ===== the reader of lanterns: items ===== -/
/-- but for what P names all ints are as they were -/
def KI (P : Nat → Nat → Prop) (σ τ : Sg) : Prop := kq_ σ τ ∧ ∀ a j, ¬ P a j → sg_I τ a j = sg_I σ a j
theorem KI.rf {P : Nat → Nat → Prop} {σ : Sg} : KI P σ σ := ⟨kq_.rf, fun _ _ _ => rfl⟩
theorem KI.tr {P : Nat → Nat → Prop} {σ τ υ : Sg} (h : KI P σ τ) (k : KI P τ υ) : KI P σ υ := ⟨h.1.tr k.1, fun a j hj => (k.2 a j hj).trans (h.2 a j hj)⟩
theorem KI.put {P : Nat → Nat → Prop} {σ : Sg} {a j : Nat} {v : Int32} (h : P a j) : KI P σ (put_I σ a j v) := ⟨kq_.put, fun b k hk => gI_n (by
  apply Classical.byContradiction
  intro q
  have q1 : b = a := by omega
  have q2 : k = j := by omega
  subst q1 q2
  exact hk h)⟩
theorem KI.mo {P Q : Nat → Nat → Prop} {σ τ : Sg} (h : KI P σ τ) (hq : ∀ a j, P a j → Q a j) : KI Q σ τ := ⟨h.1, fun a j hj => h.2 a j (fun q => hj (hq a j q))⟩
def PC (b o c : Nat) (a j : Nat) : Prop := (a = 2 ∧ j = 2) ∨ (a = b ∧ o ≤ j ∧ j < o + c)
def PR (b o c : Nat) (a j : Nat) : Prop := (a = 344 ∧ (j = 3 ∨ j = 4)) ∨ (a = b ∧ o ≤ j ∧ j < o + c)
theorem KI.ct {b o c t : Nat} {x : Nat → Int32} {σ τ : Sg} (h : KI (PC b o c) σ τ) (hb : b = 4 ∨ b = 5) (k : CT 2 t x σ) : CT 2 t x τ := ⟨by rw [h.1.2.1]; exact k.1, by rw [h.1.2.2.1]; exact k.2.1, by rw [h.2 2 1 (by unfold PC; omega)]; exact k.2.2.1, fun i hi => by rw [h.2 1 i (by unfold PC; omega)]; exact k.2.2.2 i hi⟩
theorem KI.rt {b o c t : Nat} {x : Nat → Int32} {σ τ : Sg} (h : KI (PR b o c) σ τ) (hb : b = 355 ∨ b = 356) (k : RT t x σ) : RT t x τ := ⟨by rw [h.1.2.1]; exact k.1, by rw [h.1.2.2.1]; exact k.2.1, by rw [h.2 344 2 (by unfold PR; omega)]; exact k.2.2.1, fun i hi => by rw [h.2 345 i (by unfold PR; omega)]; exact k.2.2.2 i hi⟩
/-- how items end: read; failed; or at a sign that nothing can go on with -/
def IR (t : Nat) (x : Nat → Int32) (b b' o c : Nat) (lo hi : Nat → Nat) (q : Nat) (σ ρ : Sg) (A : Option (Int32 × Sg)) (B : Option Sg) : Prop := ∃ r υ φ, A = some (r, υ) ∧ B = some φ ∧ KI (PC b o c) σ υ ∧ KI (PR b' o c) ρ φ ∧ ((r = 1 ∧ ∃ q', q ≤ q' ∧ q' ≤ t ∧ pb_ x t q' = q' ∧ sg_I υ 2 2 = Int32.ofNat q' ∧ sg_I φ 344 3 = Int32.ofNat q' ∧ sg_I φ 344 4 = -1 ∧ ∀ j, j < c → ∃ v, sg_I υ b (o + j) = Int32.ofNat v ∧ sg_I φ b' (o + j) = Int32.ofNat v ∧ lo j ≤ v ∧ v ≤ hi j) ∨ (r = 0 ∧ ∃ f, f ≤ t ∧ sg_I υ 2 2 = Int32.ofNat f ∧ sg_I φ 344 4 = Int32.ofNat f) ∨ (r = 0 ∧ ∃ q', q' ≤ t ∧ pb_ x t q' = q' ∧ sg_I υ 2 2 = Int32.ofNat q' ∧ sg_I φ 344 3 = Int32.ofNat q' ∧ sg_I φ 344 4 = -1 ∧ ¬ sx_ x t q' = 59 ∧ ¬ sx_ x t q' = -1))
theorem IR.up {t b b' o c q q0 : Nat} {x : Nat → Int32} {lo hi : Nat → Nat} {σ ρ σ' ρ' : Sg} {A : Option (Int32 × Sg)} {B : Option Sg} (h : IR t x b b' o c lo hi q σ' ρ' A B) (k1 : KI (PC b o c) σ σ') (k2 : KI (PR b' o c) ρ ρ') (hq : q0 ≤ q) : IR t x b b' o c lo hi q0 σ ρ A B := by
  obtain ⟨r, υ, φ, h1, h2, h3, h4, h5⟩ := h
  refine ⟨r, υ, φ, h1, h2, k1.tr h3, k2.tr h4, ?_⟩
  rcases h5 with ⟨h5, q', h6, h7⟩ | h5
  · exact Or.inl ⟨h5, q', by omega, h7⟩
  · exact Or.inr h5
theorem pop_b (M : Nat) : pop_ M ≤ 4 ∧ (M < 8 → pop_ M ≤ 3) := by
  unfold pop_
  omega
def sLo (j : Nat) : Nat := if j = 0 then 1 else 0
def sHi (j : Nat) : Nat := if j = 0 then 60 else 99
def wLo (_ : Nat) : Nat := 0
def wHi (j : Nat) : Nat := if j = 0 then 9 else if j = 1 then 1 else if j = 2 then 15 else 5
theorem s_tab : ∀ j : Nat, j < 3 → kv_ 0 j = Int32.ofNat (sLo j) ∧ kv_ 1 j = Int32.ofNat (sHi j) ∧ f_X12_highest 115 (Int32.ofNat j) = some (Int32.ofNat (sHi j)) ∧ sLo j ≤ sHi j ∧ sHi j ≤ 99 := by decide
theorem w_tab : ∀ j : Nat, j < 4 → kv_ 3 j = Int32.ofNat (wLo j) ∧ kv_ 4 j = Int32.ofNat (wHi j) ∧ f_X12_highest 119 (Int32.ofNat j) = some (Int32.ofNat (wHi j)) ∧ wLo j ≤ wHi j ∧ wHi j ≤ 99 := by decide
theorem s_len {σ : Sg} : f_J0_length_8abf5 6 σ = some (Int32.ofNat 3) := rfl
theorem w_len {σ : Sg} : f_J0_length_8abf5 7 σ = some (Int32.ofNat 4) := rfl
theorem s_itm (c : Int32) : ∃ v, f_X12_itemOf 115 c = some v ∧ (v = -1 ∨ ∃ j : Nat, j < 3 ∧ v = Int32.ofNat j ∧ ¬ c = 59 ∧ ¬ c = -1) := by
  unfold f_X12_itemOf
  rw [if_pos rfl]
  by_cases h0 : c = 102
  · rw [if_pos h0, h0]; exact ⟨_, rfl, Or.inr ⟨0, by decide, rfl, by decide, by decide⟩⟩
  rw [if_neg h0]
  by_cases h1 : c = 111
  · rw [if_pos h1, h1]; exact ⟨_, rfl, Or.inr ⟨1, by decide, rfl, by decide, by decide⟩⟩
  rw [if_neg h1]
  by_cases h2 : c = 107
  · rw [if_pos h2, h2]; exact ⟨_, rfl, Or.inr ⟨2, by decide, rfl, by decide, by decide⟩⟩
  rw [if_neg h2]
  exact ⟨_, rfl, Or.inl rfl⟩
theorem w_itm (c : Int32) : ∃ v, f_X12_itemOf 119 c = some v ∧ (v = -1 ∨ ∃ j : Nat, j < 4 ∧ v = Int32.ofNat j ∧ ¬ c = 59 ∧ ¬ c = -1) := by
  unfold f_X12_itemOf
  rw [if_neg (show ¬ (119 : Int32) = 115 by decide)]
  by_cases h0 : c = 118
  · rw [if_pos h0, h0]; exact ⟨_, rfl, Or.inr ⟨0, by decide, rfl, by decide, by decide⟩⟩
  rw [if_neg h0]
  by_cases h1 : c = 98
  · rw [if_pos h1, h1]; exact ⟨_, rfl, Or.inr ⟨1, by decide, rfl, by decide, by decide⟩⟩
  rw [if_neg h1]
  by_cases h2 : c = 112
  · rw [if_pos h2, h2]; exact ⟨_, rfl, Or.inr ⟨2, by decide, rfl, by decide, by decide⟩⟩
  rw [if_neg h2]
  by_cases h3 : c = 114
  · rw [if_pos h3, h3]; exact ⟨_, rfl, Or.inr ⟨3, by decide, rfl, by decide, by decide⟩⟩
  rw [if_neg h3]
  exact ⟨_, rfl, Or.inl rfl⟩
theorem has_v (M j : Int32) : f_X12_has M j = some (if ((M >>> (j &&& 31)) &&& 1) = 1 then 1 else 0) := by
  unfold f_X12_has
  by_cases h : ((M >>> (j &&& 31)) &&& 1) = 1
  · rw [if_pos h, if_pos h]
  · rw [if_neg h, if_neg h]
theorem s_its {t o : Nat} {x : Nat → Int32} (hx : XT t x) (ho : o + 3 ≤ 3) : ∀ (m m' p q M : Nat) (σ ρ : Sg), t - q < m → t - q < m' → M < 8 → p ≤ t → pb_ x t p = q → CT 2 t x σ → RT t x ρ → RF (sg_R ρ) (sg_L ρ) → sg_L σ 4 = 3 → sg_I σ 2 2 = Int32.ofNat p → sg_I ρ 344 3 = Int32.ofNat q → sg_I ρ 344 4 = -1 → (∀ j, j < 3 → ∃ v, sg_I σ 4 (o + j) = Int32.ofNat v ∧ sg_I ρ 355 (o + j) = Int32.ofNat v ∧ sLo j ≤ v ∧ v ≤ sHi j) → IR t x 4 355 o 3 sLo sHi q σ ρ (f_X1_areItems_L6 20000 2 m 6 0 1 (some 4) (Int32.ofNat o) (Int32.ofNat M) (Int32.ofNat (pop_ M)) σ) ((f_X12_itemOf 115 (sx_ x t q)).bind fun v6 => f_X12_items_L41 20000 344 m' 115 (some 355) (Int32.ofNat o) (Int32.ofNat M) v6 ρ) := by
  have ht := hx.1
  intro m
  induction m with
  | zero => intro m' p q M σ ρ h1; exact absurd h1 (by omega)
  | succ m ih =>
    intro m' p q M σ ρ hm hm' hM hp hq ct rt d hL h2 h3 h4 h5
    obtain ⟨m', rfl⟩ : ∃ y, m' = y + 1 := ⟨m' - 1, by omega⟩
    have qb := pb_b (x := x) hp
    have qk := pb_k (x := x) hp
    have ns := ns_v hx (by decide) ct hp h2
    rw [hq] at qb qk ns
    obtain ⟨q1, q2, q3⟩ := qb
    have pp := pop_b M
    obtain ⟨v, v1, v2⟩ := s_itm (sx_ x t q)
    have lo := (lt_a hx q (σ := put_I σ 2 2 (Int32.ofNat q))).2.1
    rw [v1] at lo
    have kc : KI (PC 4 o 3) σ (put_I σ 2 2 (Int32.ofNat q)) := KI.put (Or.inl ⟨rfl, rfl⟩)
    rw [f_X1_areItems_L6, f_of s_len, if_neg (by rw [o_lt (by omega) (by omega)]; omega), f_of ns]
    dsimp only
    rw [f_of lo, f_of v1]
    rcases v2 with v2 | ⟨j, j1, j2, j3, j4⟩
    · subst v2
      rw [if_pos (by decide), f_X12_items_L41, if_pos h4, if_pos rfl]
      exact ⟨1, _, ρ, rfl, rfl, kc, KI.rf, Or.inl ⟨rfl, q, Nat.le_refl q, q2, qk, gI_e, h3, h4, fun j hj => by rw [gI_n (by omega)]; exact h5 j hj⟩⟩
    · subst j2
      have ql : q < t := by
        apply Classical.byContradiction
        intro z
        exact j4 ((sx_b hx q).2.2.2.mpr z)
      obtain ⟨m', rfl⟩ : ∃ y, m' = y + 1 := ⟨m' - 1, by omega⟩
      obtain ⟨k1, k2, k3, k4, k5⟩ := mk_v (M := M) (j := j) (by omega) (by omega)
      obtain ⟨t1, t2, t3, t4, t5⟩ := s_tab j j1
      have kn2 : Int32.ofNat (kn_ 0) = Int32.ofNat 3 := rfl
      have kn3 : Int32.ofNat (kn_ 1) = Int32.ofNat 3 := rfl
      have kk2 : kn_ 0 = 3 := rfl
      have kk3 : kn_ 1 = 3 := rfl
      have nj : ¬ (Int32.ofNat j < 0 ∨ 3 ≤ (Int32.ofNat j).toNatClampNeg) := o_in (by omega) (by omega)
      have tj : (Int32.ofNat j).toNatClampNeg = j := o_tn (by omega)
      have nj' : ¬ (Int32.ofNat j < 0 ∨ 3 ≤ j) := by rw [tj] at nj; exact nj
      rw [if_neg (o_nn (by omega)), kn2, kn3, if_pos (by rw [o_lt (by omega) (by omega)]; exact j1), if_pos (by rw [o_lt (by omega) (by omega)]; exact j1), f_X12_items_L41, if_pos h4, if_neg (o_m (by omega)), f_of (has_v _ _), k1, k2, kk2, kk3]
      by_cases bt : M / 2 ^ j % 2 = 1
      · rw [if_pos bt, if_neg (show ¬ (1 : Int32) = 0 by decide), if_pos rfl, if_neg (show ¬ (1 : Int32) = 0 by decide)]
        exact ⟨0, _, ρ, rfl, rfl, kc, KI.rf, Or.inr (Or.inr ⟨rfl, q, q2, qk, gI_e, h3, h4, j3, j4⟩)⟩
      · have ct1 := (KI.put (P := PC 4 o 3) (σ := σ) (v := Int32.ofNat (q + 1)) (Or.inl ⟨rfl, rfl⟩)).ct (by omega) ct
        have rt1 := (KI.put (P := PR 355 o 3) (σ := ρ) (v := Int32.ofNat (q + 1)) (Or.inl ⟨rfl, Or.inl rfl⟩)).rt (by omega) rt
        have ns2 := ns_v hx (by decide) ct1 (show q + 1 ≤ t by omega) gI_e
        rw [pI_2] at ns2
        have r1 := pb_b (x := x) (show q + 1 ≤ t by omega)
        have ct2 := (KI.put (P := PC 4 o 3) (σ := σ) (v := Int32.ofNat (pb_ x t (q + 1))) (Or.inl ⟨rfl, rfl⟩)).ct (by omega) ct
        have nu := nu_2 (lo := sLo j) (hi := sHi j) hx ct2 rt1 rfl (show q + 1 ≤ t by omega) gI_e gI_e (by rw [gI_n (by omega)]; exact h4) t4 t5
        have h01 : ¬ (0 : Int32) = 1 := by decide
        rw [if_neg bt, if_pos rfl, if_neg h01, if_pos rfl, gI_e, o_s q, pI_2, f_of ns2]
        dsimp only
        rw [if_neg nj, if_neg nj, tj, t1, t2, h3, o_s q, o_add, o_s (pop_ M)]
        have refs : (if (115 : Int32) = 115 then if Int32.ofNat j = 0 then f_X12_items_B106 20000 344 (f_X12_items_L41 20000 344 (m' + 1)) 115 (some 355) (Int32.ofNat o) (Int32.ofNat (M ||| 2 ^ j)) (Int32.ofNat j) 1 (some 344) (Int32.ofNat (o + j)) (some 355) (put_I ρ 344 3 (Int32.ofNat (q + 1))) else f_X12_items_B105 20000 344 (f_X12_items_L41 20000 344 (m' + 1)) 115 (some 355) (Int32.ofNat o) (Int32.ofNat (M ||| 2 ^ j)) (Int32.ofNat j) (some 344) (Int32.ofNat (o + j)) (some 355) (put_I ρ 344 3 (Int32.ofNat (q + 1))) else f_X12_items_B105 20000 344 (f_X12_items_L41 20000 344 (m' + 1)) 115 (some 355) (Int32.ofNat o) (Int32.ofNat (M ||| 2 ^ j)) (Int32.ofNat j) (some 344) (Int32.ofNat (o + j)) (some 355) (put_I ρ 344 3 (Int32.ofNat (q + 1)))) = f_X12_items_B106 20000 344 (f_X12_items_L41 20000 344 (m' + 1)) 115 (some 355) (Int32.ofNat o) (Int32.ofNat (M ||| 2 ^ j)) (Int32.ofNat j) (Int32.ofNat (sLo j)) (some 344) (Int32.ofNat (o + j)) (some 355) (put_I ρ 344 3 (Int32.ofNat (q + 1))) := by
          rw [if_pos rfl]
          by_cases e : j = 0
          · subst e
            rw [if_pos (show Int32.ofNat 0 = 0 from rfl)]
            rfl
          · rw [if_neg (by rw [l_0, o_eq (by omega) (by omega)]; exact e)]
            unfold f_X12_items_B105 sLo
            rw [if_neg e]
            rfl
        rw [refs]
        unfold f_X12_items_B106 f_X12_items_B136
        have L2 : sg_L ρ 355 = 3 := by simp only [d]
        rw [f_of t3, f_of (rfl : some 344 = some 344)]
        generalize pb_ x t (q + 1) = q2' at ns2 r1 ct2 nu ⊢
        rcases nu with ⟨w, e, w1, w2, w3, w4, w5, w6⟩ | ⟨f, w, w1, w2, w3, w4⟩
        · rw [pI_2] at w5 w6
          rw [f_of w5, f_of w6]
          dsimp only
          rw [if_neg (o_m (by omega)), f_of (rfl : some 4 = some 4), f_of (rfl : some 355 = some 355)]
          have La : sg_L (put_I σ 2 2 (Int32.ofNat (q2' + e))) 4 = 3 := hL
          have Lc : sg_L (put_I ρ 344 3 (Int32.ofNat (q2' + e))) 355 = 3 := L2
          have noj : ¬ (Int32.ofNat (o + j) < 0 ∨ 3 ≤ (Int32.ofNat (o + j)).toNatClampNeg) := o_in (by omega) (by omega)
          have toj : (Int32.ofNat (o + j)).toNatClampNeg = o + j := o_tn (by omega)
          rw [La, Lc, if_pos (by rw [o_lt (by omega) (by omega)]; omega), if_neg noj, if_neg noj, toj]
          have h4' : sg_I (put_I (put_I ρ 344 3 (Int32.ofNat (q2' + e))) 355 (o + j) (Int32.ofNat w)) 344 4 = -1 := by rw [gI_n (by omega), gI_n (by omega)]; exact h4
          have kc2 : KI (PC 4 o 3) σ (put_I (put_I σ 2 2 (Int32.ofNat (q2' + e))) 4 (o + j) (Int32.ofNat w)) := (KI.put (Or.inl ⟨rfl, rfl⟩)).tr (KI.put (Or.inr ⟨rfl, by omega, by omega⟩))
          have kr2 : KI (PR 355 o 3) ρ (put_I (put_I ρ 344 3 (Int32.ofNat (q2' + e))) 355 (o + j) (Int32.ofNat w)) := (KI.put (Or.inl ⟨rfl, Or.inl rfl⟩)).tr (KI.put (Or.inr ⟨rfl, by omega, by omega⟩))
          have lk := lq_v hx (kr2.rt (by omega) rt) (show q2' + e ≤ t by omega) (by rw [gI_n (by omega), gI_e])
          have r3 := pb_b (x := x) (show q2' + e ≤ t by omega)
          rw [if_pos h4', f_of lk]
          dsimp only
          have kr3 : KI (PR 355 o 3) ρ (put_I (put_I (put_I ρ 344 3 (Int32.ofNat (q2' + e))) 355 (o + j) (Int32.ofNat w)) 344 3 (Int32.ofNat (pb_ x t (q2' + e)))) := kr2.tr (KI.put (Or.inl ⟨rfl, Or.inl rfl⟩))
          have r := ih (m' + 1) (q2' + e) (pb_ x t (q2' + e)) (M ||| 2 ^ j) _ _ (by omega) (by omega) (by omega) (by omega) rfl (kc2.ct (by omega) ct) (kr3.rt (by omega) rt) (by rw [kr3.1.2.1, kr3.1.2.2.1]; exact d) (by rw [kc2.1.2.2.1]; exact hL) (by rw [gI_n (by omega), gI_e]) gI_e (by rw [gI_n (by omega)]; exact h4') (fun l hl => by
            by_cases el : l = j
            · subst el
              exact ⟨w, gI_e, by rw [gI_n (by omega), gI_e], w1, w2⟩
            · obtain ⟨y, y1, y2, y3⟩ := h5 l hl
              exact ⟨y, by rw [gI_n (by omega), gI_n (by omega)]; exact y1, by rw [gI_n (by omega), gI_n (by omega), gI_n (by omega)]; exact y2, y3⟩)
          rw [k3 bt] at r
          exact r.up kc2 kr3 (by omega)
        · rw [pI_2] at w3 w4
          rw [f_of w3, f_of w4]
          dsimp only
          have Lc : sg_L (put_I (put_I ρ 344 3 (Int32.ofNat f)) 344 4 (Int32.ofNat f)) 355 = 3 := L2
          have h4' : sg_I (put_I (put_I (put_I ρ 344 3 (Int32.ofNat f)) 344 4 (Int32.ofNat f)) 355 (o + j) w) 344 4 = Int32.ofNat f := by rw [gI_n (by omega), gI_e]
          rw [if_pos rfl, f_of (rfl : some 355 = some 355), Lc, if_neg (o_in (show o + j < 3 by omega) (by omega)), o_tn (show o + j < 2147483648 by omega), if_neg (by rw [h4']; exact o_m (by omega)), f_X12_items_L41, if_neg (by rw [h4']; exact o_m (by omega))]
          exact ⟨0, _, _, rfl, rfl, KI.put (Or.inl ⟨rfl, rfl⟩), (KI.put (Or.inl ⟨rfl, Or.inl rfl⟩)).tr ((KI.put (Or.inl ⟨rfl, Or.inr rfl⟩)).tr (KI.put (Or.inr ⟨rfl, by omega, by omega⟩))), Or.inr (Or.inl ⟨rfl, f, w1, gI_e, h4'⟩)⟩
theorem w_its {t o : Nat} {x : Nat → Int32} (hx : XT t x) (ho : o + 4 ≤ 16) : ∀ (m m' p q M : Nat) (σ ρ : Sg), t - q < m → t - q < m' → M < 16 → p ≤ t → pb_ x t p = q → CT 2 t x σ → RT t x ρ → RF (sg_R ρ) (sg_L ρ) → sg_L σ 5 = 16 → sg_I σ 2 2 = Int32.ofNat p → sg_I ρ 344 3 = Int32.ofNat q → sg_I ρ 344 4 = -1 → (∀ j, j < 4 → ∃ v, sg_I σ 5 (o + j) = Int32.ofNat v ∧ sg_I ρ 356 (o + j) = Int32.ofNat v ∧ wLo j ≤ v ∧ v ≤ wHi j) → IR t x 5 356 o 4 wLo wHi q σ ρ (f_X1_areItems_L6 20000 2 m 7 3 4 (some 5) (Int32.ofNat o) (Int32.ofNat M) (Int32.ofNat (pop_ M)) σ) ((f_X12_itemOf 119 (sx_ x t q)).bind fun v6 => f_X12_items_L41 20000 344 m' 119 (some 356) (Int32.ofNat o) (Int32.ofNat M) v6 ρ) := by
  have ht := hx.1
  intro m
  induction m with
  | zero => intro m' p q M σ ρ h1; exact absurd h1 (by omega)
  | succ m ih =>
    intro m' p q M σ ρ hm hm' hM hp hq ct rt d hL h2 h3 h4 h5
    obtain ⟨m', rfl⟩ : ∃ y, m' = y + 1 := ⟨m' - 1, by omega⟩
    have qb := pb_b (x := x) hp
    have qk := pb_k (x := x) hp
    have ns := ns_v hx (by decide) ct hp h2
    rw [hq] at qb qk ns
    obtain ⟨q1, q2, q3⟩ := qb
    have pp := pop_b M
    obtain ⟨v, v1, v2⟩ := w_itm (sx_ x t q)
    have lo := (lt_a hx q (σ := put_I σ 2 2 (Int32.ofNat q))).2.2
    rw [v1] at lo
    have kc : KI (PC 5 o 4) σ (put_I σ 2 2 (Int32.ofNat q)) := KI.put (Or.inl ⟨rfl, rfl⟩)
    rw [f_X1_areItems_L6, f_of w_len, if_neg (by rw [o_lt (by omega) (by omega)]; omega), f_of ns]
    dsimp only
    rw [f_of lo, f_of v1]
    rcases v2 with v2 | ⟨j, j1, j2, j3, j4⟩
    · subst v2
      rw [if_pos (by decide), f_X12_items_L41, if_pos h4, if_pos rfl]
      exact ⟨1, _, ρ, rfl, rfl, kc, KI.rf, Or.inl ⟨rfl, q, Nat.le_refl q, q2, qk, gI_e, h3, h4, fun j hj => by rw [gI_n (by omega)]; exact h5 j hj⟩⟩
    · subst j2
      have ql : q < t := by
        apply Classical.byContradiction
        intro z
        exact j4 ((sx_b hx q).2.2.2.mpr z)
      obtain ⟨m', rfl⟩ : ∃ y, m' = y + 1 := ⟨m' - 1, by omega⟩
      obtain ⟨k1, k2, k3, k4, k5⟩ := mk_v (M := M) (j := j) (by omega) (by omega)
      obtain ⟨t1, t2, t3, t4, t5⟩ := w_tab j j1
      have kn2 : Int32.ofNat (kn_ 3) = Int32.ofNat 4 := rfl
      have kn3 : Int32.ofNat (kn_ 4) = Int32.ofNat 4 := rfl
      have kk2 : kn_ 3 = 4 := rfl
      have kk3 : kn_ 4 = 4 := rfl
      have nj : ¬ (Int32.ofNat j < 0 ∨ 4 ≤ (Int32.ofNat j).toNatClampNeg) := o_in (by omega) (by omega)
      have tj : (Int32.ofNat j).toNatClampNeg = j := o_tn (by omega)
      have nj' : ¬ (Int32.ofNat j < 0 ∨ 4 ≤ j) := by rw [tj] at nj; exact nj
      rw [if_neg (o_nn (by omega)), kn2, kn3, if_pos (by rw [o_lt (by omega) (by omega)]; exact j1), if_pos (by rw [o_lt (by omega) (by omega)]; exact j1), f_X12_items_L41, if_pos h4, if_neg (o_m (by omega)), f_of (has_v _ _), k1, k2, kk2, kk3]
      by_cases bt : M / 2 ^ j % 2 = 1
      · rw [if_pos bt, if_neg (show ¬ (1 : Int32) = 0 by decide), if_pos rfl, if_neg (show ¬ (1 : Int32) = 0 by decide)]
        exact ⟨0, _, ρ, rfl, rfl, kc, KI.rf, Or.inr (Or.inr ⟨rfl, q, q2, qk, gI_e, h3, h4, j3, j4⟩)⟩
      · have ct1 := (KI.put (P := PC 5 o 4) (σ := σ) (v := Int32.ofNat (q + 1)) (Or.inl ⟨rfl, rfl⟩)).ct (by omega) ct
        have rt1 := (KI.put (P := PR 356 o 4) (σ := ρ) (v := Int32.ofNat (q + 1)) (Or.inl ⟨rfl, Or.inl rfl⟩)).rt (by omega) rt
        have ns2 := ns_v hx (by decide) ct1 (show q + 1 ≤ t by omega) gI_e
        rw [pI_2] at ns2
        have r1 := pb_b (x := x) (show q + 1 ≤ t by omega)
        have ct2 := (KI.put (P := PC 5 o 4) (σ := σ) (v := Int32.ofNat (pb_ x t (q + 1))) (Or.inl ⟨rfl, rfl⟩)).ct (by omega) ct
        have nu := nu_2 (lo := wLo j) (hi := wHi j) hx ct2 rt1 rfl (show q + 1 ≤ t by omega) gI_e gI_e (by rw [gI_n (by omega)]; exact h4) t4 t5
        have h01 : ¬ (0 : Int32) = 1 := by decide
        rw [if_neg bt, if_pos rfl, if_neg h01, if_pos rfl, gI_e, o_s q, pI_2, f_of ns2]
        dsimp only
        rw [if_neg nj, if_neg nj, tj, t1, t2, h3, o_s q, o_add, o_s (pop_ M)]
        have refs : (if (119 : Int32) = 115 then if Int32.ofNat j = 0 then f_X12_items_B106 20000 344 (f_X12_items_L41 20000 344 (m' + 1)) 119 (some 356) (Int32.ofNat o) (Int32.ofNat (M ||| 2 ^ j)) (Int32.ofNat j) 1 (some 344) (Int32.ofNat (o + j)) (some 356) (put_I ρ 344 3 (Int32.ofNat (q + 1))) else f_X12_items_B105 20000 344 (f_X12_items_L41 20000 344 (m' + 1)) 119 (some 356) (Int32.ofNat o) (Int32.ofNat (M ||| 2 ^ j)) (Int32.ofNat j) (some 344) (Int32.ofNat (o + j)) (some 356) (put_I ρ 344 3 (Int32.ofNat (q + 1))) else f_X12_items_B105 20000 344 (f_X12_items_L41 20000 344 (m' + 1)) 119 (some 356) (Int32.ofNat o) (Int32.ofNat (M ||| 2 ^ j)) (Int32.ofNat j) (some 344) (Int32.ofNat (o + j)) (some 356) (put_I ρ 344 3 (Int32.ofNat (q + 1)))) = f_X12_items_B106 20000 344 (f_X12_items_L41 20000 344 (m' + 1)) 119 (some 356) (Int32.ofNat o) (Int32.ofNat (M ||| 2 ^ j)) (Int32.ofNat j) (Int32.ofNat (wLo j)) (some 344) (Int32.ofNat (o + j)) (some 356) (put_I ρ 344 3 (Int32.ofNat (q + 1))) := by
          rw [if_neg (show ¬ (119 : Int32) = 115 by decide)]
          rfl
        rw [refs]
        unfold f_X12_items_B106 f_X12_items_B136
        have L2 : sg_L ρ 356 = 16 := by simp only [d]
        rw [f_of t3, f_of (rfl : some 344 = some 344)]
        generalize pb_ x t (q + 1) = q2' at ns2 r1 ct2 nu ⊢
        rcases nu with ⟨w, e, w1, w2, w3, w4, w5, w6⟩ | ⟨f, w, w1, w2, w3, w4⟩
        · rw [pI_2] at w5 w6
          rw [f_of w5, f_of w6]
          dsimp only
          rw [if_neg (o_m (by omega)), f_of (rfl : some 5 = some 5), f_of (rfl : some 356 = some 356)]
          have La : sg_L (put_I σ 2 2 (Int32.ofNat (q2' + e))) 5 = 16 := hL
          have Lc : sg_L (put_I ρ 344 3 (Int32.ofNat (q2' + e))) 356 = 16 := L2
          have noj : ¬ (Int32.ofNat (o + j) < 0 ∨ 16 ≤ (Int32.ofNat (o + j)).toNatClampNeg) := o_in (by omega) (by omega)
          have toj : (Int32.ofNat (o + j)).toNatClampNeg = o + j := o_tn (by omega)
          rw [La, Lc, if_pos (by rw [o_lt (by omega) (by omega)]; omega), if_neg noj, if_neg noj, toj]
          have h4' : sg_I (put_I (put_I ρ 344 3 (Int32.ofNat (q2' + e))) 356 (o + j) (Int32.ofNat w)) 344 4 = -1 := by rw [gI_n (by omega), gI_n (by omega)]; exact h4
          have kc2 : KI (PC 5 o 4) σ (put_I (put_I σ 2 2 (Int32.ofNat (q2' + e))) 5 (o + j) (Int32.ofNat w)) := (KI.put (Or.inl ⟨rfl, rfl⟩)).tr (KI.put (Or.inr ⟨rfl, by omega, by omega⟩))
          have kr2 : KI (PR 356 o 4) ρ (put_I (put_I ρ 344 3 (Int32.ofNat (q2' + e))) 356 (o + j) (Int32.ofNat w)) := (KI.put (Or.inl ⟨rfl, Or.inl rfl⟩)).tr (KI.put (Or.inr ⟨rfl, by omega, by omega⟩))
          have lk := lq_v hx (kr2.rt (by omega) rt) (show q2' + e ≤ t by omega) (by rw [gI_n (by omega), gI_e])
          have r3 := pb_b (x := x) (show q2' + e ≤ t by omega)
          rw [if_pos h4', f_of lk]
          dsimp only
          have kr3 : KI (PR 356 o 4) ρ (put_I (put_I (put_I ρ 344 3 (Int32.ofNat (q2' + e))) 356 (o + j) (Int32.ofNat w)) 344 3 (Int32.ofNat (pb_ x t (q2' + e)))) := kr2.tr (KI.put (Or.inl ⟨rfl, Or.inl rfl⟩))
          have r := ih (m' + 1) (q2' + e) (pb_ x t (q2' + e)) (M ||| 2 ^ j) _ _ (by omega) (by omega) (by omega) (by omega) rfl (kc2.ct (by omega) ct) (kr3.rt (by omega) rt) (by rw [kr3.1.2.1, kr3.1.2.2.1]; exact d) (by rw [kc2.1.2.2.1]; exact hL) (by rw [gI_n (by omega), gI_e]) gI_e (by rw [gI_n (by omega)]; exact h4') (fun l hl => by
            by_cases el : l = j
            · subst el
              exact ⟨w, gI_e, by rw [gI_n (by omega), gI_e], w1, w2⟩
            · obtain ⟨y, y1, y2, y3⟩ := h5 l hl
              exact ⟨y, by rw [gI_n (by omega), gI_n (by omega)]; exact y1, by rw [gI_n (by omega), gI_n (by omega), gI_n (by omega)]; exact y2, y3⟩)
          rw [k3 bt] at r
          exact r.up kc2 kr3 (by omega)
        · rw [pI_2] at w3 w4
          rw [f_of w3, f_of w4]
          dsimp only
          have Lc : sg_L (put_I (put_I ρ 344 3 (Int32.ofNat f)) 344 4 (Int32.ofNat f)) 356 = 16 := L2
          have h4' : sg_I (put_I (put_I (put_I ρ 344 3 (Int32.ofNat f)) 344 4 (Int32.ofNat f)) 356 (o + j) w) 344 4 = Int32.ofNat f := by rw [gI_n (by omega), gI_e]
          rw [if_pos rfl, f_of (rfl : some 356 = some 356), Lc, if_neg (o_in (show o + j < 16 by omega) (by omega)), o_tn (show o + j < 2147483648 by omega), if_neg (by rw [h4']; exact o_m (by omega)), f_X12_items_L41, if_neg (by rw [h4']; exact o_m (by omega))]
          exact ⟨0, _, _, rfl, rfl, KI.put (Or.inl ⟨rfl, rfl⟩), (KI.put (Or.inl ⟨rfl, Or.inl rfl⟩)).tr ((KI.put (Or.inl ⟨rfl, Or.inr rfl⟩)).tr (KI.put (Or.inr ⟨rfl, by omega, by omega⟩))), Or.inr (Or.inl ⟨rfl, f, w1, gI_e, h4'⟩)⟩
