/-! ===== the reader of lanterns: numbers and items ===== -/
theorem nu_2 {t p q lo hi : Nat} {x : Nat → Int32} {σ ρ : Sg} (hx : XT t x) (ct : CT 2 t x σ) (rt : RT t x ρ) (hq : pb_ x t p = q) (hp : p ≤ t) (h2 : sg_I σ 2 2 = Int32.ofNat q) (h3 : sg_I ρ 344 3 = Int32.ofNat p) (h4 : sg_I ρ 344 4 = -1) (hl : lo ≤ hi) (hh : hi ≤ 99) :
    (∃ v e, lo ≤ v ∧ v ≤ hi ∧ 1 ≤ e ∧ q + e ≤ t ∧ f_X6_number 20000 2 2 (Int32.ofNat lo) (Int32.ofNat hi) σ = some (Int32.ofNat v, put_I σ 2 2 (Int32.ofNat (q + e))) ∧ f_X12_number 20000 344 (Int32.ofNat lo) (Int32.ofNat hi) ρ = some (Int32.ofNat v, put_I ρ 344 3 (Int32.ofNat (q + e)))) ∨
    (∃ f w, f ≤ t ∧ q ≤ f ∧ f_X6_number 20000 2 2 (Int32.ofNat lo) (Int32.ofNat hi) σ = some (-1, put_I σ 2 2 (Int32.ofNat f)) ∧ f_X12_number 20000 344 (Int32.ofNat lo) (Int32.ofNat hi) ρ = some (w, put_I (put_I ρ 344 3 (Int32.ofNat f)) 344 4 (Int32.ofNat f))) := by
  have ht := hx.1
  have qb := pb_b (x := x) hp
  have lq := lq_v hx rt hp h3
  rw [hq] at qb lq
  obtain ⟨q1, q2, q3⟩ := qb
  have e1 : f_X6_number 20000 2 2 (Int32.ofNat lo) (Int32.ofNat hi) σ = f_X6_number_L23 20000 2 (19996 + 1 + 1 + 1 + 1) (Int32.ofNat 2) (Int32.ofNat lo) (Int32.ofNat hi) (Int32.ofNat 0) (Int32.ofNat 0) (Int32.ofNat (min t (q + 2 + 1))) σ := nm_s (mx := 2) ct.2.2.1 h2 ht q2 (by omega)
  have hr : ∀ e, q + e ≤ t → f_X12_here 344 (put_I ρ 344 3 (Int32.ofNat (q + e))) = some (sx_ x t (q + e)) := fun e he => hr_v hx (rt.put (by decide) (by decide)) gI_e (by omega)
  have bd : ∀ f, f_X12_bad 344 (put_I ρ 344 3 (Int32.ofNat f)) = some (put_I (put_I ρ 344 3 (Int32.ofNat f)) 344 4 (Int32.ofNat f)) := fun f => by
    have := bad_v (ρ := put_I ρ 344 3 (Int32.ofNat f)) (by rw [gI_n (by omega)]; exact h4)
    rw [gI_e] at this
    exact this
  have inr : ∀ v, v < 1000 → f_X12_in (Int32.ofNat v) (Int32.ofNat lo) (Int32.ofNat hi) = some (if v < lo ∨ hi < v then 0 else 1) := fun v hv => by
    unfold f_X12_in
    by_cases c1 : v < lo
    · rw [if_pos (by rw [o_lt (by omega) (by omega)]; exact c1), if_pos (Or.inl c1)]
    · rw [if_neg (by rw [o_lt (by omega) (by omega)]; exact c1)]
      by_cases c2 : hi < v
      · rw [if_pos (by rw [o_lt (by omega) (by omega)]; exact c2), if_pos (Or.inr c2)]
      · rw [if_neg (by rw [o_lt (by omega) (by omega)]; exact c2), if_neg (by omega)]
  have nb := fun k v (hk : k ≤ 5) (hv : v < 1000000) => nm_b (b := 2) (k := k) (v := v) (lo := lo) (hi := hi) (mx := 2) h2 (by omega) (by omega) hk hv (by omega) (by omega)
  /- what the reference does once the digits are read -/
  have fin : ∀ e v, 1 ≤ e → q + e ≤ t → v < 1000 → ¬ dg_ (sx_ x t (q + e)) → f_X12_number_B67 20000 344 (Int32.ofNat lo) (Int32.ofNat hi) (Int32.ofNat v) (put_I ρ 344 3 (Int32.ofNat (q + e))) = if v < lo ∨ hi < v then some (Int32.ofNat v, put_I (put_I ρ 344 3 (Int32.ofNat (q + e - 1))) 344 4 (Int32.ofNat (q + e - 1))) else some (Int32.ofNat v, put_I ρ 344 3 (Int32.ofNat (q + e))) := fun e v h1 h2 h3 h4 => by
    unfold f_X12_number_B67
    rw [f_of (hr e h2), f_of (dg_n h4), if_pos rfl, f_of (inr v h3)]
    by_cases c : v < lo ∨ hi < v
    · rw [if_pos c, if_pos c, if_pos rfl, gI_e, l_1, o_sub (by omega), pI_2, f_of (bd _)]
    · rw [if_neg c, if_neg c, if_neg (show ¬ (1 : Int32) = 0 by decide)]
  unfold f_X12_number
  rw [e1, f_of lq]
  dsimp only
  by_cases d0 : dg_ (sx_ x t q)
  · obtain ⟨a, a1, a2, a3, a4⟩ := nm_d (k := 0) (v := 0) (m := 19996 + 1 + 1 + 1) (lo := Int32.ofNat lo) (hi := Int32.ofNat hi) hx ct h2 q2 (show 2 ≤ 4 by omega) (by omega) (by omega) d0
    rw [a4, f_of (dg_r d0), if_neg (show ¬ (1 : Int32) = 0 by decide), f_of (show f_X12_here 344 (put_I ρ 344 3 (Int32.ofNat q)) = some (sx_ x t q) from hr 0 (by omega)), gI_e, o_s q, pI_2, f_of (hr 1 (by omega))]
    have a2' : sx_ x t q = Int32.ofNat (48 + a) := a2
    have s48 : Int32.ofNat (48 + a) - 48 = Int32.ofNat a := by rw [show (48 : Int32) = Int32.ofNat 48 from rfl, o_sub (by omega)]; congr 1; omega
    rw [a2', s48]
    by_cases d1 : dg_ (sx_ x t (q + 1))
    · obtain ⟨b, b1, b2, b3, b4⟩ := nm_d (k := 0 + 1) (v := 10 * 0 + a) (m := 19996 + 1 + 1) (lo := Int32.ofNat lo) (hi := Int32.ofNat hi) hx ct h2 q2 (show 2 ≤ 4 by omega) (by omega) (by omega) d1
      have ev : (10 : Int32) * Int32.ofNat a + Int32.ofNat (48 + b) - 48 = Int32.ofNat (10 * a + b) := by
        rw [l_10, o_mul, o_add, show (48 : Int32) = Int32.ofNat 48 from rfl, o_sub (by omega)]
        congr 1
        omega
      have b2' : sx_ x t (q + 1) = Int32.ofNat (48 + b) := b2
      rw [b4, f_of (dg_r d1), if_neg (show ¬ (1 : Int32) = 0 by decide), f_of (hr 1 (by omega)), gI_e, o_s (q + 1), pI_2, b2', ev]
      by_cases d2 : dg_ (sx_ x t (q + 2))
      · obtain ⟨c, c1, c2, c3, c4⟩ := nm_d (k := 0 + 1 + 1) (v := 10 * (10 * 0 + a) + b) (m := 19996 + 1) (lo := Int32.ofNat lo) (hi := Int32.ofNat hi) hx ct h2 q2 (show 2 ≤ 4 by omega) (by omega) (by omega) d2
        have ee := nm_n (m := 19996) (v := Int32.ofNat (10 * (10 * (10 * 0 + a) + b) + c)) (lo := Int32.ofNat lo) (hi := Int32.ofNat hi) hx ct h2 q2 (show 2 ≤ 4 by omega) (k := 0 + 1 + 1 + 1) (Or.inl rfl)
        have eb := nb (0 + 1 + 1 + 1) (10 * (10 * (10 * 0 + a) + b) + c) (by omega) (by omega)
        rw [if_neg (by omega), if_pos (by omega)] at eb
        refine Or.inr ⟨q + 2, Int32.ofNat (10 * a + b), by omega, by omega, c4.trans (ee.trans eb), ?_⟩
        unfold f_X12_number_B67
        rw [show q + 1 + 1 = q + 2 from rfl, f_of (hr 2 (by omega)), f_of (dg_r d2), if_neg (show ¬ (1 : Int32) = 0 by decide), f_of (bd _)]
      · have ee := nm_n (m := 19996 + 1) (v := Int32.ofNat (10 * (10 * 0 + a) + b)) (lo := Int32.ofNat lo) (hi := Int32.ofNat hi) hx ct h2 q2 (show 2 ≤ 4 by omega) (k := 0 + 1 + 1) (Or.inr ⟨by omega, d2⟩)
        have eb := nb (0 + 1 + 1) (10 * (10 * 0 + a) + b) (by omega) (by omega)
        have ev2 : 10 * (10 * 0 + a) + b = 10 * a + b := by omega
        rw [ev2] at ee eb
        rw [if_neg (by omega), if_neg (by omega)] at eb
        have f := fin 2 (10 * a + b) (by omega) (by omega) (by omega) d2
        rw [ev2, ee, eb, show q + 1 + 1 = q + 2 from rfl, f]
        by_cases c : 10 * a + b < lo ∨ hi < 10 * a + b
        · rw [if_pos c, if_pos c]
          exact Or.inr ⟨q + 1, _, by omega, by omega, rfl, rfl⟩
        · rw [if_neg c, if_neg c]
          exact Or.inl ⟨10 * a + b, 2, by omega, by omega, by omega, by omega, rfl, rfl⟩
    · have ee := nm_n (m := 19996 + 1 + 1) (v := Int32.ofNat (10 * 0 + a)) (lo := Int32.ofNat lo) (hi := Int32.ofNat hi) hx ct h2 q2 (show 2 ≤ 4 by omega) (k := 0 + 1) (Or.inr ⟨by omega, d1⟩)
      have eb := nb (0 + 1) (10 * 0 + a) (by omega) (by omega)
      have ev2 : 10 * 0 + a = a := by omega
      rw [ev2] at ee eb
      rw [if_neg (by omega), if_neg (by omega)] at eb
      have f := fin 1 a (by omega) (by omega) (by omega) d1
      rw [ev2, ee, eb, f_of (dg_n d1), if_pos rfl, f]
      by_cases c : a < lo ∨ hi < a
      · rw [if_pos c, if_pos c]
        exact Or.inr ⟨q, _, by omega, by omega, rfl, rfl⟩
      · rw [if_neg c, if_neg c]
        exact Or.inl ⟨a, 1, by omega, by omega, by omega, by omega, rfl, rfl⟩
  · have ee := nm_n (m := 19996 + 1 + 1 + 1) (v := Int32.ofNat 0) (lo := Int32.ofNat lo) (hi := Int32.ofNat hi) hx ct h2 q2 (show 2 ≤ 4 by omega) (k := 0) (Or.inr ⟨by omega, d0⟩)
    have eb := nb 0 0 (by omega) (by omega)
    rw [if_pos rfl] at eb
    rw [ee, eb, f_of (dg_n d0), if_pos rfl, f_of (bd q)]
    exact Or.inr ⟨q, _, q2, Nat.le_refl q, by rw [pI_s h2], rfl⟩
/-- marks -/
def pop_ (m : Nat) : Nat := m % 2 + m / 2 % 2 + m / 4 % 2 + m / 8 % 2
def mk_k : Bool := decide (∀ M : Fin 16, ∀ j : Fin 4, (Int32.ofNat M.val ||| ((1 : Int32) <<< (Int32.ofNat j.val &&& 31))) = Int32.ofNat (M.val ||| 2 ^ j.val) ∧ ((Int32.ofNat M.val >>> (Int32.ofNat j.val &&& 31)) &&& 1) = (if M.val / 2 ^ j.val % 2 = 1 then 1 else 0) ∧ (M.val / 2 ^ j.val % 2 ≠ 1 → pop_ (M.val ||| 2 ^ j.val) = pop_ M.val + 1) ∧ (M.val < 8 → j.val < 3 → M.val ||| 2 ^ j.val < 8) ∧ M.val ||| 2 ^ j.val < 16)
set_option maxRecDepth 100000 in
theorem mk_d : mk_k = true := by decide +kernel
theorem mk_v {M j : Nat} (hM : M < 16) (hj : j < 4) : (Int32.ofNat M ||| ((1 : Int32) <<< (Int32.ofNat j &&& 31))) = Int32.ofNat (M ||| 2 ^ j) ∧ ((Int32.ofNat M >>> (Int32.ofNat j &&& 31)) &&& 1) = (if M / 2 ^ j % 2 = 1 then 1 else 0) ∧ (M / 2 ^ j % 2 ≠ 1 → pop_ (M ||| 2 ^ j) = pop_ M + 1) ∧ (M < 8 → j < 3 → M ||| 2 ^ j < 8) ∧ M ||| 2 ^ j < 16 := of_decide_eq_true mk_d ⟨M, hM⟩ ⟨j, hj⟩
