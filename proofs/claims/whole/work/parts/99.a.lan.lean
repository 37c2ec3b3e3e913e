/-! ===== the reader of lanterns: clauses ===== -/
theorem gI_Q (σ : Sg) (i b a j n c k : Nat) : sg_I (cpy_K σ i b a j n) c k = if c = b then va_cpy (kv_ i) (sg_I σ b) a j n k else sg_I σ c k := by
  show va_up σ.2.2.2.1 b _ c k = _
  unfold va_up
  by_cases h : c = b
  · rw [if_pos h, if_pos h]; rfl
  · rw [if_neg h, if_neg h]; rfl
theorem tk2_v {t p : Nat} {x : Nat → Int32} {σ : Sg} {c : Int32} (hx : XT t x) (ct : CT 2 t x σ) (hp : p ≤ t) (h2 : sg_I σ 2 2 = Int32.ofNat p) : f_X6_takes 20000 2 c σ = if sx_ x t (pb_ x t p) = c then some (1, put_I σ 2 2 (Int32.ofNat (pb_ x t p + 1))) else some (0, put_I σ 2 2 (Int32.ofNat (pb_ x t p))) := by
  have l1 := ns_v hx (by decide) ct hp h2
  unfold f_X6_takes f_X6_takes_B13 f_X6_takes_B28
  rw [f_of l1]
  dsimp only
  by_cases q : sx_ x t (pb_ x t p) = c
  · rw [if_pos q, if_pos q, if_neg (show ¬ (1 : Int32) = 0 by decide), f_of rfl, if_neg (show ¬ ¬ ((1 : Int32) = 0 ∨ (1 : Int32) = 1) by decide), gI_e, o_s, pI_2]
  · rw [if_neg q, if_neg q, if_pos rfl, f_of rfl, if_neg (show ¬ ¬ ((0 : Int32) = 0 ∨ (0 : Int32) = 1) by decide), gI_e, show Int32.ofNat (pb_ x t p) + 0 = Int32.ofNat (pb_ x t p) from Int32.add_zero _, pI_2]
/-- the reference lays the usual values first -/
theorem df_l {o c L b : Nat} {v1 : Int32} {us : Nat → Int32} (hu : ∀ l, l < c → f_X12_usual v1 (Int32.ofNat l) = some (us l)) (ho : o + c ≤ L) (hL : L ≤ 1000) : ∀ (j k m : Nat) (ρ : Sg), k + j = c → j < m → sg_L ρ b = L → ∃ φ, f_X12_items_L3 20000 344 m v1 (some b) (Int32.ofNat o) (Int32.ofNat c) (Int32.ofNat k) ρ = ((f_X12_look 20000 344 φ).bind fun p2 => (f_X12_itemOf v1 p2.1).bind fun p3 => f_X12_items_L41 20000 344 20000 v1 (some b) (Int32.ofNat o) 0 p3 p2.2) ∧ KI (fun a l => a = b ∧ o ≤ l ∧ l < o + c) ρ φ ∧ (∀ l, l < k → sg_I φ b (o + l) = sg_I ρ b (o + l)) ∧ ∀ l, k ≤ l → l < c → sg_I φ b (o + l) = us l := by
  intro j
  induction j with
  | zero =>
    intro k m ρ hk hm hl
    obtain ⟨m, rfl⟩ : ∃ y, m = y + 1 := ⟨m - 1, by omega⟩
    refine ⟨ρ, ?_, KI.rf, fun _ _ => rfl, fun l h1 h2 => absurd h2 (by omega)⟩
    rw [f_X12_items_L3, if_neg (by rw [o_lt (by omega) (by omega)]; omega)]
  | succ j ih =>
    intro k m ρ hk hm hl
    obtain ⟨m, rfl⟩ : ∃ y, m = y + 1 := ⟨m - 1, by omega⟩
    obtain ⟨φ, f1, f2, f3, f4⟩ := ih (k + 1) m (put_I ρ b (o + k) (us k)) (by omega) (by omega) hl
    refine ⟨φ, ?_, (KI.put ⟨rfl, by omega, by omega⟩).tr f2, fun l h1 => by rw [f3 l (by omega), gI_n (by omega)], fun l h1 h2 => ?_⟩
    · rw [f_X12_items_L3, if_pos (by rw [o_lt (by omega) (by omega)]; omega), f_of (hu k (by omega)), f_of (rfl : some b = some b), o_add, hl, if_neg (o_in (by omega) (by omega)), o_tn (by omega), o_s k]
      exact f1
    · by_cases e : l = k
      · subst e
        rw [f3 l (by omega), gI_e]
      · exact f4 l (by omega) h2
def sUs (j : Nat) : Nat := if j = 0 then 6 else if j = 1 then 40 else 20
def wUs (j : Nat) : Nat := if j = 0 then 1 else 0
theorem s_us : ∀ l : Nat, l < 3 → f_X12_usual 115 (Int32.ofNat l) = some (Int32.ofNat (sUs l)) ∧ kv_ 2 l = Int32.ofNat (sUs l) ∧ sLo l ≤ sUs l ∧ sUs l ≤ sHi l := by decide
theorem w_us : ∀ l : Nat, l < 4 → f_X12_usual 119 (Int32.ofNat l) = some (Int32.ofNat (wUs l)) ∧ kv_ 5 l = Int32.ofNat (wUs l) ∧ wLo l ≤ wUs l ∧ wUs l ≤ wHi l := by decide
/-- what follows a clause that failed -/
theorem b54_b {f m : Nat} {φ : Sg} {v1 : Int32} (hf : f ≤ 240) (h : sg_I φ 344 4 = Int32.ofNat f) : f_X12_readLantern_B154 20000 344 (f_X12_readLantern_L44 20000 344 (m + 1)) v1 φ = some (Int32.ofNat f, φ) := by
  have n : ¬ sg_I φ 344 4 = -1 := by rw [h]; exact o_m (by omega)
  unfold f_X12_readLantern_B154 f_X12_readLantern_B175 f_X12_readLantern_B176 f_X12_readLantern_B191
  rw [if_neg n, if_pos rfl, f_of rfl, show sg_I φ 344 3 + 0 = sg_I φ 344 3 from Int32.add_zero _, pI_s rfl, f_X12_readLantern_L44, if_pos rfl]
  unfold f_X12_readLantern_B198 f_X12_readLantern_B225
  rw [if_neg n, h]
theorem b54_n {t q m : Nat} {x : Nat → Int32} {φ : Sg} {v1 : Int32} (hx : XT t x) (rt : RT t x φ) (hq : q ≤ t) (qk : pb_ x t q = q) (h3 : sg_I φ 344 3 = Int32.ofNat q) (h4 : sg_I φ 344 4 = -1) (c : ¬ sx_ x t q = 59) : f_X12_readLantern_B154 20000 344 (f_X12_readLantern_L44 20000 344 (m + 1)) v1 φ = if sx_ x t q = -1 ∧ ¬ sg_I φ 344 19 = 0 then some (-1, φ) else some (Int32.ofNat q, put_I φ 344 4 (Int32.ofNat q)) := by
  have lk := lq_v hx rt hq h3
  rw [qk, pI_s h3] at lk
  have bd := bad_v h4
  rw [h3] at bd
  unfold f_X12_readLantern_B154 f_X12_readLantern_B175 f_X12_readLantern_B176 f_X12_readLantern_B191
  rw [if_pos h4, f_of lk]
  dsimp only
  rw [if_neg c, if_pos rfl, f_of rfl, show sg_I φ 344 3 + 0 = sg_I φ 344 3 from Int32.add_zero _, pI_s rfl, f_X12_readLantern_L44, if_pos rfl]
  unfold f_X12_readLantern_B198 f_X12_readLantern_B221 f_X12_readLantern_B225
  rw [if_pos h4, f_of lk]
  dsimp only
  rw [f_of bd, gI_e, h4]
  by_cases c1 : sx_ x t q = -1
  · rw [if_pos c1]
    by_cases c2 : sg_I φ 344 19 = 0
    · rw [if_pos c2, if_neg (fun z => z.2 c2)]
    · rw [if_neg c2, if_pos ⟨c1, c2⟩]
  · rw [if_neg c1, if_neg (fun z => c1 z.1)]
theorem b54_s {t q m : Nat} {x : Nat → Int32} {φ : Sg} {v1 : Int32} (hx : XT t x) (rt : RT t x φ) (hq : q ≤ t) (qk : pb_ x t q = q) (h3 : sg_I φ 344 3 = Int32.ofNat q) (h4 : sg_I φ 344 4 = -1) (c : sx_ x t q = 59) : f_X12_readLantern_B154 20000 344 (f_X12_readLantern_L44 20000 344 m) v1 φ = f_X12_readLantern_L44 20000 344 m v1 1 (put_I φ 344 3 (Int32.ofNat (q + 1))) := by
  have lk := lq_v hx rt hq h3
  rw [qk, pI_s h3] at lk
  unfold f_X12_readLantern_B154 f_X12_readLantern_B176 f_X12_readLantern_B191
  rw [if_pos h4, f_of lk]
  dsimp only
  rw [if_pos c, if_neg (show ¬ (1 : Int32) = 0 by decide), f_of rfl, h3, o_s q]
/-- a lantern under way: h: its s is read; n wheels -/
def NS (t : Nat) (x : Nat → Int32) (σ ρ : Sg) (p h n : Nat) : Prop := CT 2 t x σ ∧ sg_R σ 2 3 = some 4 ∧ sg_R σ 2 5 = some 5 ∧ sg_L σ 4 = 3 ∧ sg_L σ 5 = 16 ∧ RT t x ρ ∧ RF (sg_R ρ) (sg_L ρ) ∧ p ≤ t ∧ sg_I σ 2 2 = Int32.ofNat p ∧ sg_I ρ 344 3 = Int32.ofNat p ∧ sg_I ρ 344 4 = -1 ∧ sg_I σ 2 4 = Int32.ofNat h ∧ h ≤ 1 ∧ sg_I σ 2 6 = Int32.ofNat n ∧ sg_I ρ 344 19 = Int32.ofNat n ∧ n ≤ 4 ∧ (∀ j, j < 3 → ∃ v, sg_I σ 4 j = Int32.ofNat v ∧ sg_I ρ 355 j = Int32.ofNat v ∧ sLo j ≤ v ∧ v ≤ sHi j) ∧ (h = 0 → ∀ j, j < 3 → sg_I σ 4 j = Int32.ofNat (sUs j)) ∧ ∀ w, w < n → ∀ j, j < 4 → ∃ v, sg_I σ 5 (4 * w + j) = Int32.ofNat v ∧ sg_I ρ 356 (4 * w + j) = Int32.ofNat v ∧ wLo j ≤ v ∧ v ≤ wHi j
def PL (a j : Nat) : Prop := (a = 344 ∧ (j = 3 ∨ j = 4 ∨ j = 19)) ∨ a = 355 ∨ a = 356
/-- how a lantern's reading ends -/
def WN (σ ρ : Sg) (A B : Option (Int32 × Sg)) : Prop := ∃ c υ e φ, A = some (c, υ) ∧ B = some (e, φ) ∧ KZ 2 σ υ ∧ KI PL ρ φ ∧ ((c = 0 ∧ e = sg_I υ 2 2 ∧ ¬ e = -1) ∨ (c = 1 ∧ e = -1 ∧ ∃ n, 1 ≤ n ∧ n ≤ 4 ∧ sg_I υ 2 6 = Int32.ofNat n ∧ sg_I φ 344 19 = Int32.ofNat n ∧ (∀ j, j < 3 → ∃ v, sg_I υ 4 j = Int32.ofNat v ∧ sg_I φ 355 j = Int32.ofNat v ∧ sLo j ≤ v ∧ v ≤ sHi j) ∧ ∀ w, w < n → ∀ j, j < 4 → ∃ v, sg_I υ 5 (4 * w + j) = Int32.ofNat v ∧ sg_I φ 356 (4 * w + j) = Int32.ofNat v ∧ wLo j ≤ v ∧ v ≤ wHi j))
theorem WN.up {σ ρ σ' ρ' : Sg} {A B : Option (Int32 × Sg)} (h : WN σ' ρ' A B) (kz : KZ 2 σ σ') (k2 : KI PL ρ ρ') : WN σ ρ A B := by
  obtain ⟨c, υ, e, φ, h1, h2, h3, h4, h5⟩ := h
  exact ⟨c, υ, e, φ, h1, h2, kz.tr h3, k2.tr h4, h5⟩
theorem KI.kz {b o c : Nat} {σ τ : Sg} (h : KI (PC b o c) σ τ) (hb : b = 4 ∨ b = 5) : KZ 2 σ τ := ⟨h.1, fun a ha => by funext j; exact h.2 a j (by unfold PC; omega), h.2 2 1 (by unfold PC; omega)⟩
theorem KI.pl {b o c : Nat} {σ τ : Sg} (h : KI (PR b o c) σ τ) (hb : b = 355 ∨ b = 356) : KI PL σ τ := h.mo (fun a j q => by unfold PR at q; unfold PL; omega)
