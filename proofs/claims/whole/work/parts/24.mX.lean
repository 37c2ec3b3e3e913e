def f_J6_compare_7cf53 (x0 : Int32) (x1 : Int32) : Option Int32 :=
  if (x0) < (x1) then
  (some ((-1)))
  else
  (if (x0) = (x1) then
  (some (0))
  else
  (some (1)))
set_option maxHeartbeats 4000000 in
set_option maxRecDepth 100000 in
theorem t_J6_compare_7cf53 (x0 : Int32) (x1 : Int32) {σ : Sg} {r : Int32} (hf : f_J6_compare_7cf53 x0 x1 = some r) : Ct yJ6_compare_7cf53 cJ6_compare_7cf53 2 (some .int) 0 0 0 0 [vi x0, vi x1] σ (fun r_ τ_ => (r_ = some (vi r)) ∧ τ_ = σ) := by
  refine Ct.of (by decide +kernel) (Nat.le_of_ble_eq_true rfl) (fun Γ C1 => ?_)
  have C0 := C1.1
  unfold f_J6_compare_7cf53 at hf
  show J_ Γ 0 [(0, vi (x0)), (1, vi (x1))] [] σ 0 0
  refine J_iload_n (q := 1) C0 0 rfl rfl dJ6_compare_7cf53_0 rfl ?_
  refine J_iload_n (q := 2) C0 1 rfl rfl dJ6_compare_7cf53_1 rfl ?_
  refine J_icmp_ge (t := 9) (q := 5) C0 dJ6_compare_7cf53_2 (by decide) rfl hf (fun c1 hf => ?_) (fun c1 hf => ?_)
  · refine J_iload_n (q := 10) C0 0 rfl rfl dJ6_compare_7cf53_9 rfl ?_
    refine J_iload_n (q := 11) C0 1 rfl rfl dJ6_compare_7cf53_10 rfl ?_
    refine J_icmp_ne (t := 18) (q := 14) C0 dJ6_compare_7cf53_11 (by decide) rfl hf (fun c2 hf => ?_) (fun c2 hf => ?_)
    · refine J_iconst (q := 19) (v := 1) C0 dJ6_compare_7cf53_18 rfl rfl ?_
      obtain rfl := Option.some.inj hf; exact J_iret C1 dJ6_compare_7cf53_19 rfl (Nat.zero_le _) (Nat.zero_le _) ⟨rfl, rfl⟩
    · refine J_iconst (q := 15) (v := 0) C0 dJ6_compare_7cf53_14 rfl rfl ?_
      refine J_goto (q := 19) C0 dJ6_compare_7cf53_15 (by decide) ?_
      obtain rfl := Option.some.inj hf; exact J_iret C1 dJ6_compare_7cf53_19 rfl (Nat.zero_le _) (Nat.zero_le _) ⟨rfl, rfl⟩
  · refine J_iconst (q := 6) (v := (-1)) C0 dJ6_compare_7cf53_5 rfl rfl ?_
    refine J_goto (q := 19) C0 dJ6_compare_7cf53_6 (by decide) ?_
    obtain rfl := Option.some.inj hf; exact J_iret C1 dJ6_compare_7cf53_19 rfl (Nat.zero_le _) (Nat.zero_le _) ⟨rfl, rfl⟩
def f_X8_compareRows_L3 (N : Nat) (a0 : Nat) : Nat → Int32 → Int32 → Int32 → Int32 → Sg → Option Int32
  | 0, _, _, _, _, _ => none
  | n + 1, v1, v2, v3, v4, σ =>
  if (v4) < (v3) then
  (Option.bind (f_X8_shownAt a0 ((v1) + (v4)) σ) fun p2 =>
  Option.bind (f_X8_shownAt a0 ((v2) + (v4)) σ) fun p3 =>
  Option.bind (f_J6_compare_7cf53 (p2) (p3) ) fun p4 =>
  if (p4) = (0) then
  (f_X8_compareRows_L3 N a0 n (v1) (v2) (v3) (v4 + 1) σ)
  else
  (some (p4)))
  else
  (some (0))
def f_X8_compareRows (N : Nat) (a0 : Nat) (x1 : Int32) (x2 : Int32) (x3 : Int32) (σ : Sg) : Option Int32 :=
  f_X8_compareRows_L3 N a0 N (x1) (x2) (x3) (0) σ
set_option maxHeartbeats 4000000 in
set_option maxRecDepth 100000 in
theorem t_X8_compareRows_L3 {N : Nat} {a0 : Nat} {Γ : Gm} {σ : Sg} {r : Int32} (C1 : CM Γ cX8_compareRows RX8 6 (some .int) 3 64 0 0 (fun r_ τ_ => (r_ = some (vi r)) ∧ τ_ = σ)) (hT : sg_T σ) (h0 : is_A σ a0 7) : ∀ (n : Nat) (v1 : Int32) (v2 : Int32) (v3 : Int32) (v4 : Int32), f_X8_compareRows_L3 N a0  n v1 v2 v3 v4 σ = some r → J_ Γ 3 [(0, vr (some a0)), (1, vi (v1)), (2, vi (v2)), (3, vi (v3)), (4, vi (v4))] [] σ 0 0 := by
  have C0 := C1.1
  intro n
  induction n with
  | zero => intro v1 v2 v3 v4  hf; unfold f_X8_compareRows_L3 at hf; cases hf
  | succ n ih =>
    intro v1 v2 v3 v4  hf
    rw [f_X8_compareRows_L3] at hf
    refine J_iload (q := 5) C0 4 rfl dX8_compareRows_3 rfl ?_
    refine J_iload_n (q := 6) C0 3 rfl rfl dX8_compareRows_5 rfl ?_
    refine J_icmp_ge (t := 44) (q := 9) C0 dX8_compareRows_6 (by decide) rfl hf (fun c1 hf => ?_) (fun c1 hf => ?_)
    · refine J_iconst (q := 45) (v := 0) C0 dX8_compareRows_44 rfl rfl ?_
      obtain rfl := Option.some.inj hf; exact J_iret C1 dX8_compareRows_45 rfl (Nat.zero_le _) (Nat.zero_le _) ⟨rfl, rfl⟩
    · refine J_aload_n (q := 10) C0 0 rfl rfl dX8_compareRows_9 rfl trivial ?_
      refine J_iload_n (q := 11) C0 1 rfl rfl dX8_compareRows_10 rfl ?_
      refine J_iload (q := 13) C0 4 rfl dX8_compareRows_11 rfl ?_
      refine J_iadd (q := 14) C0 dX8_compareRows_13 rfl ?_
      refine K_some hf (fun p2 hp2 hf => ?_)
      refine J_callV (q := 17) (ci := 7) (as := [vi ((v1) + (v4))]) (rest := []) C0 rfl (h0) (t_X8_shownAt a0 ((v1) + (v4)) (hT) (h0)  hp2) ml_X8_shownAt lk_X8_27 im_X8_shownAt se_X8_shownAt rfl (by decide) dX8_compareRows_14 rfl rfl rfl (by simp [ac_]) C1.room (by decide) (by decide) (by decide) (by decide) (fun r_ τ_ hQ => ?_)
      obtain ⟨rfl, ht_⟩ := hQ; have ht_ := ht_.symm; subst ht_
      show J_ Γ 17 [(0, vr (some a0)), (1, vi (v1)), (2, vi (v2)), (3, vi (v3)), (4, vi (v4))] [vi (p2)] σ 0 0
      refine J_aload_n (q := 18) C0 0 rfl rfl dX8_compareRows_17 rfl trivial ?_
      refine J_iload_n (q := 19) C0 2 rfl rfl dX8_compareRows_18 rfl ?_
      refine J_iload (q := 21) C0 4 rfl dX8_compareRows_19 rfl ?_
      refine J_iadd (q := 22) C0 dX8_compareRows_21 rfl ?_
      refine K_some hf (fun p3 hp3 hf => ?_)
      refine J_callV (q := 25) (ci := 7) (as := [vi ((v2) + (v4))]) (rest := [vi (p2)]) C0 rfl (h0) (t_X8_shownAt a0 ((v2) + (v4)) (hT) (h0)  hp3) ml_X8_shownAt lk_X8_27 im_X8_shownAt se_X8_shownAt rfl (by decide) dX8_compareRows_22 rfl rfl rfl (by simp [ac_]) C1.room (by decide) (by decide) (by decide) (by decide) (fun r_ τ_ hQ => ?_)
      obtain ⟨rfl, ht_⟩ := hQ; have ht_ := ht_.symm; subst ht_
      show J_ Γ 25 [(0, vr (some a0)), (1, vi (v1)), (2, vi (v2)), (3, vi (v3)), (4, vi (v4))] [vi (p3), vi (p2)] σ 0 0
      refine K_some hf (fun p4 hp4 hf => ?_)
      refine J_callS (q := 28) (as := [vi (p2), vi (p3)]) (rest := []) C0 (t_J6_compare_7cf53 (p2) (p3)  hp4) ml_J6_compare_7cf53 lk_X8_35 sm_J6_compare_7cf53 dX8_compareRows_25 rfl rfl rfl (by simp [ac_]) C1.room (by decide) (by decide) (by decide) (by decide) (fun r_ τ_ hQ => ?_)
      obtain ⟨rfl, ht_⟩ := hQ; have ht_ := ht_.symm; subst ht_
      show J_ Γ 28 [(0, vr (some a0)), (1, vi (v1)), (2, vi (v2)), (3, vi (v3)), (4, vi (v4))] [vi (p4)] σ 0 0
      refine J_istore (q := 30) (lv' := [(5, vi (p4)), (0, vr (some a0)), (1, vi (v1)), (2, vi (v2)), (3, vi (v3)), (4, vi (v4))]) C0 (G_nl C1 (by decide)) dX8_compareRows_28 rfl rfl ?_
      refine J_iload (q := 32) C0 0 rfl dX8_compareRows_30 rfl ?_
      refine J_if_eq (t := 38) (q := 35) C0 dX8_compareRows_32 (by decide) rfl hf (fun c5 hf => ?_) (fun c5 hf => ?_)
      · refine J_iinc (q := 41) (v := v4 + 1) (lv' := [(4, vi (v4 + 1)), (5, vi (p4)), (0, vr (some a0)), (1, vi (v1)), (2, vi (v2)), (3, vi (v3))]) C0 5 rfl rfl (G_nl C1 (by decide)) dX8_compareRows_38 rfl rfl ?_
        refine J_goto (q := 3) C0 dX8_compareRows_41 (by decide) ?_
        refine J_sub (lv' := [(0, vr (some a0)), (1, vi (v1)), (2, vi (v2)), (3, vi (v3)), (4, vi (v4 + 1))]) [2, 3, 4, 5, 0] rfl ?_
        exact ih (v1) (v2) (v3) (v4 + 1)   hf
      · refine J_iload (q := 37) C0 0 rfl dX8_compareRows_35 rfl ?_
        obtain rfl := Option.some.inj hf; exact J_iret C1 dX8_compareRows_37 rfl (Nat.zero_le _) (Nat.zero_le _) ⟨rfl, rfl⟩
set_option maxHeartbeats 4000000 in
set_option maxRecDepth 100000 in
theorem t_X8_compareRows (N : Nat) (a0 : Nat) (x1 : Int32) (x2 : Int32) (x3 : Int32) {σ : Sg} (hT : sg_T σ) (h0 : is_A σ a0 7) {r : Int32} (hf : f_X8_compareRows N a0 x1 x2 x3 σ = some r) : Ct yX8_compareRows cX8_compareRows 6 (some .int) 3 64 0 0 [vr (some a0), vi x1, vi x2, vi x3] σ (fun r_ τ_ => (r_ = some (vi r)) ∧ τ_ = σ) := by
  refine Ct.of (by decide +kernel) (Nat.le_of_ble_eq_true rfl) (fun Γ C1 => ?_)
  have C0 := C1.1
  unfold f_X8_compareRows at hf
  show J_ Γ 0 [(0, vr (some a0)), (1, vi (x1)), (2, vi (x2)), (3, vi (x3))] [] σ 0 0
  refine J_iconst (q := 1) (v := 0) C0 dX8_compareRows_0 rfl rfl ?_
  refine J_istore (q := 3) (lv' := [(4, vi (0)), (0, vr (some a0)), (1, vi (x1)), (2, vi (x2)), (3, vi (x3))]) C0 (G_nl C1 (by decide)) dX8_compareRows_1 rfl rfl ?_
  refine J_sub (lv' := [(0, vr (some a0)), (1, vi (x1)), (2, vi (x2)), (3, vi (x3)), (4, vi (0))]) [1, 2, 3, 4, 0] rfl ?_
  exact t_X8_compareRows_L3 C1 (hT) (h0)    N (x1) (x2) (x3) (0)  hf
def f_X8_leastTurning_B30 (N : Nat) (a0 : Nat) (k4 : Int32 → Int32 → Option Int32) (v2 : Int32) (s0 : Int32) (σ : Sg) : Option Int32 :=
  k4 (s0) (v2 + 1)
def f_X8_leastTurning_L4 (N : Nat) (a0 : Nat) : Nat → Int32 → Int32 → Sg → Option Int32
  | 0, _, _, _ => none
  | n + 1, v1, v2, σ =>
  Option.bind (f_X8_size a0  σ) fun p1 =>
  if (v2) < (p1) then
  (Option.bind (f_X8_size a0  σ) fun p3 =>
  Option.bind (f_X8_compareRows N a0 (v2) (v1) (p3) σ) fun p4 =>
  if (p4) < (0) then
  (f_X8_leastTurning_B30 N a0 (fun v1 v2 => f_X8_leastTurning_L4 N a0 n v1 v2 σ) (v2) (v2) σ)
  else
  (f_X8_leastTurning_B30 N a0 (fun v1 v2 => f_X8_leastTurning_L4 N a0 n v1 v2 σ) (v2) (v1) σ))
  else
  (some (v1))
def f_X8_leastTurning (N : Nat) (a0 : Nat) (σ : Sg) : Option Int32 :=
  f_X8_leastTurning_L4 N a0 N (0) (1) σ
set_option maxHeartbeats 4000000 in
set_option maxRecDepth 100000 in
theorem t_X8_leastTurning_B30 {N : Nat} {a0 : Nat} {Γ : Gm} {σ : Sg} {r : Int32} (C1 : CM Γ cX8_leastTurning RX8 3 (some .int) 4 89 0 0 (fun r_ τ_ => (r_ = some (vi r)) ∧ τ_ = σ)) (hT : sg_T σ) (h0 : is_A σ a0 7) (k4 : Int32 → Int32 → Option Int32) (hk4 : ∀ (v1 : Int32) (v2 : Int32) , k4 v1 v2 = some r → J_ Γ 4 [(0, vr (some a0)), (1, vi v1), (2, vi v2)] [] σ 0 0) (v2 : Int32) (s0 : Int32) (hf : f_X8_leastTurning_B30 N a0 k4  v2 s0 σ = some r) : J_ Γ 30 [(0, vr (some a0)), (2, vi (v2))] [vi (s0)] σ 0 0 := by
  have C0 := C1.1
  unfold f_X8_leastTurning_B30 at hf
  refine J_istore_n (q := 31) (lv' := [(1, vi (s0)), (0, vr (some a0)), (2, vi (v2))]) C0 rfl (G_nl C1 (by decide)) dX8_leastTurning_30 rfl rfl ?_
  refine J_iinc (q := 34) (v := v2 + 1) (lv' := [(2, vi (v2 + 1)), (1, vi (s0)), (0, vr (some a0))]) C0 2 rfl rfl (G_nl C1 (by decide)) dX8_leastTurning_31 rfl rfl ?_
  refine J_goto (q := 4) C0 dX8_leastTurning_34 (by decide) ?_
  refine J_sub (lv' := [(0, vr (some a0)), (1, vi (s0)), (2, vi (v2 + 1))]) [2, 1, 0] rfl ?_
  exact hk4 (s0) (v2 + 1)  hf
set_option maxHeartbeats 4000000 in
set_option maxRecDepth 100000 in
theorem t_X8_leastTurning_L4 {N : Nat} {a0 : Nat} {Γ : Gm} {σ : Sg} {r : Int32} (C1 : CM Γ cX8_leastTurning RX8 3 (some .int) 4 89 0 0 (fun r_ τ_ => (r_ = some (vi r)) ∧ τ_ = σ)) (hT : sg_T σ) (h0 : is_A σ a0 7) : ∀ (n : Nat) (v1 : Int32) (v2 : Int32), f_X8_leastTurning_L4 N a0  n v1 v2 σ = some r → J_ Γ 4 [(0, vr (some a0)), (1, vi (v1)), (2, vi (v2))] [] σ 0 0 := by
  have C0 := C1.1
  intro n
  induction n with
  | zero => intro v1 v2  hf; unfold f_X8_leastTurning_L4 at hf; cases hf
  | succ n ih =>
    intro v1 v2  hf
    rw [f_X8_leastTurning_L4] at hf
    refine J_iload_n (q := 5) C0 2 rfl rfl dX8_leastTurning_4 rfl ?_
    refine J_aload_n (q := 6) C0 0 rfl rfl dX8_leastTurning_5 rfl trivial ?_
    refine K_some hf (fun p1 hp1 hf => ?_)
    refine J_callV (q := 9) (ci := 7) (as := []) (rest := [vi (v2)]) C0 rfl (h0) (t_X8_size a0  (hT) (h0)  hp1) ml_X8_size lk_X8_19 im_X8_size se_X8_size rfl (by decide) dX8_leastTurning_6 rfl rfl rfl (by simp [ac_]) C1.room (by decide) (by decide) (by decide) (by decide) (fun r_ τ_ hQ => ?_)
    obtain ⟨rfl, ht_⟩ := hQ; have ht_ := ht_.symm; subst ht_
    show J_ Γ 9 [(0, vr (some a0)), (1, vi (v1)), (2, vi (v2))] [vi (p1), vi (v2)] σ 0 0
    refine J_icmp_ge (t := 37) (q := 12) C0 dX8_leastTurning_9 (by decide) rfl hf (fun c2 hf => ?_) (fun c2 hf => ?_)
    · refine J_iload_n (q := 38) C0 1 rfl rfl dX8_leastTurning_37 rfl ?_
      obtain rfl := Option.some.inj hf; exact J_iret C1 dX8_leastTurning_38 rfl (Nat.zero_le _) (Nat.zero_le _) ⟨rfl, rfl⟩
    · refine J_aload_n (q := 13) C0 0 rfl rfl dX8_leastTurning_12 rfl trivial ?_
      refine J_iload_n (q := 14) C0 2 rfl rfl dX8_leastTurning_13 rfl ?_
      refine J_iload_n (q := 15) C0 1 rfl rfl dX8_leastTurning_14 rfl ?_
      refine J_aload_n (q := 16) C0 0 rfl rfl dX8_leastTurning_15 rfl trivial ?_
      refine K_some hf (fun p3 hp3 hf => ?_)
      refine J_callV (q := 19) (ci := 7) (as := []) (rest := [vi (v1), vi (v2), vr (some a0)]) C0 rfl (h0) (t_X8_size a0  (hT) (h0)  hp3) ml_X8_size lk_X8_19 im_X8_size se_X8_size rfl (by decide) dX8_leastTurning_16 rfl rfl rfl (by simp [ac_]) C1.room (by decide) (by decide) (by decide) (by decide) (fun r_ τ_ hQ => ?_)
      obtain ⟨rfl, ht_⟩ := hQ; have ht_ := ht_.symm; subst ht_
      show J_ Γ 19 [(0, vr (some a0)), (1, vi (v1)), (2, vi (v2))] [vi (p3), vi (v1), vi (v2), vr (some a0)] σ 0 0
      refine K_some hf (fun p4 hp4 hf => ?_)
      refine J_callV (q := 22) (ci := 7) (as := [vi (v2), vi (v1), vi (p3)]) (rest := []) C0 rfl (h0) (t_X8_compareRows N a0 (v2) (v1) (p3) (hT) (h0)  hp4) ml_X8_compareRows lk_X8_31 im_X8_compareRows se_X8_compareRows rfl (by decide) dX8_leastTurning_19 rfl rfl rfl (by simp [ac_]) C1.room (by decide) (by decide) (by decide) (by decide) (fun r_ τ_ hQ => ?_)
      obtain ⟨rfl, ht_⟩ := hQ; have ht_ := ht_.symm; subst ht_
      show J_ Γ 22 [(0, vr (some a0)), (1, vi (v1)), (2, vi (v2))] [vi (p4)] σ 0 0
      refine J_if_ge (t := 29) (q := 25) C0 dX8_leastTurning_22 (by decide) rfl hf (fun c5 hf => ?_) (fun c5 hf => ?_)
      · refine J_iload_n (q := 30) C0 1 rfl rfl dX8_leastTurning_29 rfl ?_
        refine J_sub (lv' := [(0, vr (some a0)), (2, vi (v2))]) [0, 2] rfl ?_
        exact t_X8_leastTurning_B30 C1 (hT) (h0) (fun v1 v2 => f_X8_leastTurning_L4 N a0 n v1 v2 σ)  ih  (v2) (v1)  hf
      · refine J_iload_n (q := 26) C0 2 rfl rfl dX8_leastTurning_25 rfl ?_
        refine J_goto (q := 30) C0 dX8_leastTurning_26 (by decide) ?_
        refine J_sub (lv' := [(0, vr (some a0)), (2, vi (v2))]) [0, 2] rfl ?_
        exact t_X8_leastTurning_B30 C1 (hT) (h0) (fun v1 v2 => f_X8_leastTurning_L4 N a0 n v1 v2 σ)  ih  (v2) (v2)  hf
set_option maxHeartbeats 4000000 in
set_option maxRecDepth 100000 in
theorem t_X8_leastTurning (N : Nat) (a0 : Nat) {σ : Sg} (hT : sg_T σ) (h0 : is_A σ a0 7) {r : Int32} (hf : f_X8_leastTurning N a0  σ = some r) : Ct yX8_leastTurning cX8_leastTurning 3 (some .int) 4 89 0 0 [vr (some a0)] σ (fun r_ τ_ => (r_ = some (vi r)) ∧ τ_ = σ) := by
  refine Ct.of (by decide +kernel) (Nat.le_of_ble_eq_true rfl) (fun Γ C1 => ?_)
  have C0 := C1.1
  unfold f_X8_leastTurning at hf
  show J_ Γ 0 [(0, vr (some a0))] [] σ 0 0
  refine J_iconst (q := 1) (v := 0) C0 dX8_leastTurning_0 rfl rfl ?_
  refine J_istore_n (q := 2) (lv' := [(1, vi (0)), (0, vr (some a0))]) C0 rfl (G_nl C1 (by decide)) dX8_leastTurning_1 rfl rfl ?_
  refine J_iconst (q := 3) (v := 1) C0 dX8_leastTurning_2 rfl rfl ?_
  refine J_istore_n (q := 4) (lv' := [(2, vi (1)), (1, vi (0)), (0, vr (some a0))]) C0 rfl (G_nl C1 (by decide)) dX8_leastTurning_3 rfl rfl ?_
  refine J_sub (lv' := [(0, vr (some a0)), (1, vi (0)), (2, vi (1))]) [2, 1, 0] rfl ?_
  exact t_X8_leastTurning_L4 C1 (hT) (h0)    N (0) (1)  hf
def f_X8_unlikeRows_B64 (N : Nat) (a0 : Nat) (k4 : Int32 → Int32 → Int32 → Option Int32) (v1 : Int32) (v3 : Int32) (s0 : Int32) (s1 : Int32) (σ : Sg) : Option Int32 :=
  k4 (v1) ((s1) + (s0)) (v3 + 1)
def f_X8_unlikeRows_B53 (N : Nat) (a0 : Nat) (k4 : Int32 → Int32 → Int32 → Option Int32) (v1 : Int32) (v2 : Int32) (v3 : Int32) (v4 : Int32) (σ : Sg) : Option Int32 :=
  if (v4) = (0) then
  (f_X8_unlikeRows_B64 N a0 k4 (v1) (v3) (0) (v2) σ)
  else
  (f_X8_unlikeRows_B64 N a0 k4 (v1) (v3) (1) (v2) σ)
def f_X8_unlikeRows_B45 (N : Nat) (a0 : Nat) (k4 : Int32 → Int32 → Int32 → Option Int32) (k18 : Int32 → Int32 → Int32 → Int32 → Int32 → Option Int32) (v1 : Int32) (v2 : Int32) (v3 : Int32) (v5 : Int32) (s0 : Int32) (σ : Sg) : Option Int32 :=
  k18 (v1) (v2) (v3) (s0) (v5 + 1)
def f_X8_unlikeRows_L18 (N : Nat) (a0 : Nat) (k4 : Int32 → Int32 → Int32 → Option Int32) : Nat → Int32 → Int32 → Int32 → Int32 → Int32 → Sg → Option Int32
  | 0, _, _, _, _, _, _ => none
  | n + 1, v1, v2, v3, v4, v5, σ =>
  if (v5) < (v3) then
  (if (v4) = (0) then
  (f_X8_unlikeRows_B53 N a0 k4 (v1) (v2) (v3) (v4) σ)
  else
  (Option.bind (f_X8_compareRows N a0 (v3) (v5) (v1) σ) fun p6 =>
  if (p6) = (0) then
  (f_X8_unlikeRows_B45 N a0 k4 (fun v1 v2 v3 v4 v5 => f_X8_unlikeRows_L18 N a0 k4 n v1 v2 v3 v4 v5 σ) (v1) (v2) (v3) (v5) (0) σ)
  else
  (f_X8_unlikeRows_B45 N a0 k4 (fun v1 v2 v3 v4 v5 => f_X8_unlikeRows_L18 N a0 k4 n v1 v2 v3 v4 v5 σ) (v1) (v2) (v3) (v5) (1) σ)))
  else
  (f_X8_unlikeRows_B53 N a0 k4 (v1) (v2) (v3) (v4) σ)
def f_X8_unlikeRows_L4 (N : Nat) (a0 : Nat) : Nat → Int32 → Int32 → Int32 → Sg → Option Int32
  | 0, _, _, _, _ => none
  | n + 1, v1, v2, v3, σ =>
  Option.bind (f_X8_size a0  σ) fun p1 =>
  if (v3) < (p1) then
  (f_X8_unlikeRows_L18 N a0 (fun v1 v2 v3 => f_X8_unlikeRows_L4 N a0 n v1 v2 v3 σ) N (v1) (v2) (v3) (1) (0) σ)
  else
  (some (v2))
def f_X8_unlikeRows (N : Nat) (a0 : Nat) (x1 : Int32) (σ : Sg) : Option Int32 :=
  f_X8_unlikeRows_L4 N a0 N (x1) (0) (0) σ
set_option maxHeartbeats 4000000 in
set_option maxRecDepth 100000 in
theorem t_X8_unlikeRows_B64 {N : Nat} {a0 : Nat} {Γ : Gm} {σ : Sg} {r : Int32} (C1 : CM Γ cX8_unlikeRows RX8 6 (some .int) 4 89 0 0 (fun r_ τ_ => (r_ = some (vi r)) ∧ τ_ = σ)) (hT : sg_T σ) (h0 : is_A σ a0 7) (k4 : Int32 → Int32 → Int32 → Option Int32) (hk4 : ∀ (v1 : Int32) (v2 : Int32) (v3 : Int32) , k4 v1 v2 v3 = some r → J_ Γ 4 [(0, vr (some a0)), (1, vi v1), (2, vi v2), (3, vi v3)] [] σ 0 0) (v1 : Int32) (v3 : Int32) (s0 : Int32) (s1 : Int32) (hf : f_X8_unlikeRows_B64 N a0 k4  v1 v3 s0 s1 σ = some r) : J_ Γ 64 [(0, vr (some a0)), (1, vi (v1)), (3, vi (v3))] [vi (s0), vi (s1)] σ 0 0 := by
  have C0 := C1.1
  unfold f_X8_unlikeRows_B64 at hf
  refine J_iadd (q := 65) C0 dX8_unlikeRows_64 rfl ?_
  refine J_istore_n (q := 66) (lv' := [(2, vi ((s1) + (s0))), (0, vr (some a0)), (1, vi (v1)), (3, vi (v3))]) C0 rfl (G_nl C1 (by decide)) dX8_unlikeRows_65 rfl rfl ?_
  refine J_iinc (q := 69) (v := v3 + 1) (lv' := [(3, vi (v3 + 1)), (2, vi ((s1) + (s0))), (0, vr (some a0)), (1, vi (v1))]) C0 3 rfl rfl (G_nl C1 (by decide)) dX8_unlikeRows_66 rfl rfl ?_
  refine J_goto (q := 4) C0 dX8_unlikeRows_69 (by decide) ?_
  refine J_sub (lv' := [(0, vr (some a0)), (1, vi (v1)), (2, vi ((s1) + (s0))), (3, vi (v3 + 1))]) [2, 3, 1, 0] rfl ?_
  exact hk4 (v1) ((s1) + (s0)) (v3 + 1)  hf
set_option maxHeartbeats 4000000 in
set_option maxRecDepth 100000 in
theorem t_X8_unlikeRows_B53 {N : Nat} {a0 : Nat} {Γ : Gm} {σ : Sg} {r : Int32} (C1 : CM Γ cX8_unlikeRows RX8 6 (some .int) 4 89 0 0 (fun r_ τ_ => (r_ = some (vi r)) ∧ τ_ = σ)) (hT : sg_T σ) (h0 : is_A σ a0 7) (k4 : Int32 → Int32 → Int32 → Option Int32) (hk4 : ∀ (v1 : Int32) (v2 : Int32) (v3 : Int32) , k4 v1 v2 v3 = some r → J_ Γ 4 [(0, vr (some a0)), (1, vi v1), (2, vi v2), (3, vi v3)] [] σ 0 0) (v1 : Int32) (v2 : Int32) (v3 : Int32) (v4 : Int32) (hf : f_X8_unlikeRows_B53 N a0 k4  v1 v2 v3 v4 σ = some r) : J_ Γ 53 [(0, vr (some a0)), (1, vi (v1)), (2, vi (v2)), (3, vi (v3)), (4, vi (v4))] [] σ 0 0 := by
  have C0 := C1.1
  unfold f_X8_unlikeRows_B53 at hf
  refine J_iload_n (q := 54) C0 2 rfl rfl dX8_unlikeRows_53 rfl ?_
  refine J_iload (q := 56) C0 4 rfl dX8_unlikeRows_54 rfl ?_
  refine J_if_eq (t := 63) (q := 59) C0 dX8_unlikeRows_56 (by decide) rfl hf (fun c4 hf => ?_) (fun c4 hf => ?_)
  · refine J_iconst (q := 64) (v := 0) C0 dX8_unlikeRows_63 rfl rfl ?_
    refine J_sub (lv' := [(0, vr (some a0)), (1, vi (v1)), (3, vi (v3))]) [0, 1, 3] rfl ?_
    exact t_X8_unlikeRows_B64 C1 (hT) (h0) k4  hk4  (v1) (v3) (0) (v2)  hf
  · refine J_iconst (q := 60) (v := 1) C0 dX8_unlikeRows_59 rfl rfl ?_
    refine J_goto (q := 64) C0 dX8_unlikeRows_60 (by decide) ?_
    refine J_sub (lv' := [(0, vr (some a0)), (1, vi (v1)), (3, vi (v3))]) [0, 1, 3] rfl ?_
    exact t_X8_unlikeRows_B64 C1 (hT) (h0) k4  hk4  (v1) (v3) (1) (v2)  hf
set_option maxHeartbeats 4000000 in
set_option maxRecDepth 100000 in
theorem t_X8_unlikeRows_B45 {N : Nat} {a0 : Nat} {Γ : Gm} {σ : Sg} {r : Int32} (C1 : CM Γ cX8_unlikeRows RX8 6 (some .int) 4 89 0 0 (fun r_ τ_ => (r_ = some (vi r)) ∧ τ_ = σ)) (hT : sg_T σ) (h0 : is_A σ a0 7) (k4 : Int32 → Int32 → Int32 → Option Int32) (k18 : Int32 → Int32 → Int32 → Int32 → Int32 → Option Int32) (hk4 : ∀ (v1 : Int32) (v2 : Int32) (v3 : Int32) , k4 v1 v2 v3 = some r → J_ Γ 4 [(0, vr (some a0)), (1, vi v1), (2, vi v2), (3, vi v3)] [] σ 0 0) (hk18 : ∀ (v1 : Int32) (v2 : Int32) (v3 : Int32) (v4 : Int32) (v5 : Int32) , k18 v1 v2 v3 v4 v5 = some r → J_ Γ 18 [(0, vr (some a0)), (1, vi v1), (2, vi v2), (3, vi v3), (4, vi v4), (5, vi v5)] [] σ 0 0) (v1 : Int32) (v2 : Int32) (v3 : Int32) (v5 : Int32) (s0 : Int32) (hf : f_X8_unlikeRows_B45 N a0 k4 k18  v1 v2 v3 v5 s0 σ = some r) : J_ Γ 45 [(0, vr (some a0)), (1, vi (v1)), (2, vi (v2)), (3, vi (v3)), (5, vi (v5))] [vi (s0)] σ 0 0 := by
  have C0 := C1.1
  unfold f_X8_unlikeRows_B45 at hf
  refine J_istore (q := 47) (lv' := [(4, vi (s0)), (0, vr (some a0)), (1, vi (v1)), (2, vi (v2)), (3, vi (v3)), (5, vi (v5))]) C0 (G_nl C1 (by decide)) dX8_unlikeRows_45 rfl rfl ?_
  refine J_iinc (q := 50) (v := v5 + 1) (lv' := [(5, vi (v5 + 1)), (4, vi (s0)), (0, vr (some a0)), (1, vi (v1)), (2, vi (v2)), (3, vi (v3))]) C0 5 rfl rfl (G_nl C1 (by decide)) dX8_unlikeRows_47 rfl rfl ?_
  refine J_goto (q := 18) C0 dX8_unlikeRows_50 (by decide) ?_
  refine J_sub (lv' := [(0, vr (some a0)), (1, vi (v1)), (2, vi (v2)), (3, vi (v3)), (4, vi (s0)), (5, vi (v5 + 1))]) [2, 3, 4, 5, 1, 0] rfl ?_
  exact hk18 (v1) (v2) (v3) (s0) (v5 + 1)  hf
set_option maxHeartbeats 4000000 in
set_option maxRecDepth 100000 in
theorem t_X8_unlikeRows_L18 {N : Nat} {a0 : Nat} {Γ : Gm} {σ : Sg} {r : Int32} (C1 : CM Γ cX8_unlikeRows RX8 6 (some .int) 4 89 0 0 (fun r_ τ_ => (r_ = some (vi r)) ∧ τ_ = σ)) (hT : sg_T σ) (h0 : is_A σ a0 7) (k4 : Int32 → Int32 → Int32 → Option Int32) (hk4 : ∀ (v1 : Int32) (v2 : Int32) (v3 : Int32) , k4 v1 v2 v3 = some r → J_ Γ 4 [(0, vr (some a0)), (1, vi v1), (2, vi v2), (3, vi v3)] [] σ 0 0) : ∀ (n : Nat) (v1 : Int32) (v2 : Int32) (v3 : Int32) (v4 : Int32) (v5 : Int32), f_X8_unlikeRows_L18 N a0 k4  n v1 v2 v3 v4 v5 σ = some r → J_ Γ 18 [(0, vr (some a0)), (1, vi (v1)), (2, vi (v2)), (3, vi (v3)), (4, vi (v4)), (5, vi (v5))] [] σ 0 0 := by
  have C0 := C1.1
  intro n
  induction n with
  | zero => intro v1 v2 v3 v4 v5  hf; unfold f_X8_unlikeRows_L18 at hf; cases hf
  | succ n ih =>
    intro v1 v2 v3 v4 v5  hf
    rw [f_X8_unlikeRows_L18] at hf
    refine J_iload (q := 20) C0 5 rfl dX8_unlikeRows_18 rfl ?_
    refine J_iload_n (q := 21) C0 3 rfl rfl dX8_unlikeRows_20 rfl ?_
    refine J_icmp_ge (t := 53) (q := 24) C0 dX8_unlikeRows_21 (by decide) rfl hf (fun c3 hf => ?_) (fun c3 hf => ?_)
    · refine J_sub (lv' := [(0, vr (some a0)), (1, vi (v1)), (2, vi (v2)), (3, vi (v3)), (4, vi (v4))]) [0, 1, 2, 3, 4] rfl ?_
      exact t_X8_unlikeRows_B53 C1 (hT) (h0) k4  hk4  (v1) (v2) (v3) (v4)  hf
    · refine J_iload (q := 26) C0 4 rfl dX8_unlikeRows_24 rfl ?_
      refine J_if_eq (t := 53) (q := 29) C0 dX8_unlikeRows_26 (by decide) rfl hf (fun c5 hf => ?_) (fun c5 hf => ?_)
      · refine J_sub (lv' := [(0, vr (some a0)), (1, vi (v1)), (2, vi (v2)), (3, vi (v3)), (4, vi (v4))]) [0, 1, 2, 3, 4] rfl ?_
        exact t_X8_unlikeRows_B53 C1 (hT) (h0) k4  hk4  (v1) (v2) (v3) (v4)  hf
      · refine J_aload_n (q := 30) C0 0 rfl rfl dX8_unlikeRows_29 rfl trivial ?_
        refine J_iload_n (q := 31) C0 3 rfl rfl dX8_unlikeRows_30 rfl ?_
        refine J_iload (q := 33) C0 5 rfl dX8_unlikeRows_31 rfl ?_
        refine J_iload_n (q := 34) C0 1 rfl rfl dX8_unlikeRows_33 rfl ?_
        refine K_some hf (fun p6 hp6 hf => ?_)
        refine J_callV (q := 37) (ci := 7) (as := [vi (v3), vi (v5), vi (v1)]) (rest := []) C0 rfl (h0) (t_X8_compareRows N a0 (v3) (v5) (v1) (hT) (h0)  hp6) ml_X8_compareRows lk_X8_31 im_X8_compareRows se_X8_compareRows rfl (by decide) dX8_unlikeRows_34 rfl rfl rfl (by simp [ac_]) C1.room (by decide) (by decide) (by decide) (by decide) (fun r_ τ_ hQ => ?_)
        obtain ⟨rfl, ht_⟩ := hQ; have ht_ := ht_.symm; subst ht_
        show J_ Γ 37 [(0, vr (some a0)), (1, vi (v1)), (2, vi (v2)), (3, vi (v3)), (4, vi (v4)), (5, vi (v5))] [vi (p6)] σ 0 0
        refine J_if_eq (t := 44) (q := 40) C0 dX8_unlikeRows_37 (by decide) rfl hf (fun c7 hf => ?_) (fun c7 hf => ?_)
        · refine J_iconst (q := 45) (v := 0) C0 dX8_unlikeRows_44 rfl rfl ?_
          refine J_sub (lv' := [(0, vr (some a0)), (1, vi (v1)), (2, vi (v2)), (3, vi (v3)), (5, vi (v5))]) [0, 1, 2, 3, 5] rfl ?_
          exact t_X8_unlikeRows_B45 C1 (hT) (h0) k4  (fun v1 v2 v3 v4 v5 => f_X8_unlikeRows_L18 N a0 k4 n v1 v2 v3 v4 v5 σ)  hk4  ih  (v1) (v2) (v3) (v5) (0)  hf
        · refine J_iconst (q := 41) (v := 1) C0 dX8_unlikeRows_40 rfl rfl ?_
          refine J_goto (q := 45) C0 dX8_unlikeRows_41 (by decide) ?_
          refine J_sub (lv' := [(0, vr (some a0)), (1, vi (v1)), (2, vi (v2)), (3, vi (v3)), (5, vi (v5))]) [0, 1, 2, 3, 5] rfl ?_
          exact t_X8_unlikeRows_B45 C1 (hT) (h0) k4  (fun v1 v2 v3 v4 v5 => f_X8_unlikeRows_L18 N a0 k4 n v1 v2 v3 v4 v5 σ)  hk4  ih  (v1) (v2) (v3) (v5) (1)  hf
set_option maxHeartbeats 4000000 in
set_option maxRecDepth 100000 in
theorem t_X8_unlikeRows_L4 {N : Nat} {a0 : Nat} {Γ : Gm} {σ : Sg} {r : Int32} (C1 : CM Γ cX8_unlikeRows RX8 6 (some .int) 4 89 0 0 (fun r_ τ_ => (r_ = some (vi r)) ∧ τ_ = σ)) (hT : sg_T σ) (h0 : is_A σ a0 7) : ∀ (n : Nat) (v1 : Int32) (v2 : Int32) (v3 : Int32), f_X8_unlikeRows_L4 N a0  n v1 v2 v3 σ = some r → J_ Γ 4 [(0, vr (some a0)), (1, vi (v1)), (2, vi (v2)), (3, vi (v3))] [] σ 0 0 := by
  have C0 := C1.1
  intro n
  induction n with
  | zero => intro v1 v2 v3  hf; unfold f_X8_unlikeRows_L4 at hf; cases hf
  | succ n ih =>
    intro v1 v2 v3  hf
    rw [f_X8_unlikeRows_L4] at hf
    refine J_iload_n (q := 5) C0 3 rfl rfl dX8_unlikeRows_4 rfl ?_
    refine J_aload_n (q := 6) C0 0 rfl rfl dX8_unlikeRows_5 rfl trivial ?_
    refine K_some hf (fun p1 hp1 hf => ?_)
    refine J_callV (q := 9) (ci := 7) (as := []) (rest := [vi (v3)]) C0 rfl (h0) (t_X8_size a0  (hT) (h0)  hp1) ml_X8_size lk_X8_19 im_X8_size se_X8_size rfl (by decide) dX8_unlikeRows_6 rfl rfl rfl (by simp [ac_]) C1.room (by decide) (by decide) (by decide) (by decide) (fun r_ τ_ hQ => ?_)
    obtain ⟨rfl, ht_⟩ := hQ; have ht_ := ht_.symm; subst ht_
    show J_ Γ 9 [(0, vr (some a0)), (1, vi (v1)), (2, vi (v2)), (3, vi (v3))] [vi (p1), vi (v3)] σ 0 0
    refine J_icmp_ge (t := 72) (q := 12) C0 dX8_unlikeRows_9 (by decide) rfl hf (fun c2 hf => ?_) (fun c2 hf => ?_)
    · refine J_iload_n (q := 73) C0 2 rfl rfl dX8_unlikeRows_72 rfl ?_
      obtain rfl := Option.some.inj hf; exact J_iret C1 dX8_unlikeRows_73 rfl (Nat.zero_le _) (Nat.zero_le _) ⟨rfl, rfl⟩
    · refine J_iconst (q := 13) (v := 1) C0 dX8_unlikeRows_12 rfl rfl ?_
      refine J_istore (q := 15) (lv' := [(4, vi (1)), (0, vr (some a0)), (1, vi (v1)), (2, vi (v2)), (3, vi (v3))]) C0 (G_nl C1 (by decide)) dX8_unlikeRows_13 rfl rfl ?_
      refine J_iconst (q := 16) (v := 0) C0 dX8_unlikeRows_15 rfl rfl ?_
      refine J_istore (q := 18) (lv' := [(5, vi (0)), (4, vi (1)), (0, vr (some a0)), (1, vi (v1)), (2, vi (v2)), (3, vi (v3))]) C0 (G_nl C1 (by decide)) dX8_unlikeRows_16 rfl rfl ?_
      refine J_sub (lv' := [(0, vr (some a0)), (1, vi (v1)), (2, vi (v2)), (3, vi (v3)), (4, vi (1)), (5, vi (0))]) [2, 3, 4, 5, 1, 0] rfl ?_
      exact t_X8_unlikeRows_L18 C1 (hT) (h0)  (fun v1 v2 v3 => f_X8_unlikeRows_L4 N a0 n v1 v2 v3 σ)  ih  N (v1) (v2) (v3) (1) (0)  hf
set_option maxHeartbeats 4000000 in
set_option maxRecDepth 100000 in
theorem t_X8_unlikeRows (N : Nat) (a0 : Nat) (x1 : Int32) {σ : Sg} (hT : sg_T σ) (h0 : is_A σ a0 7) {r : Int32} (hf : f_X8_unlikeRows N a0 x1 σ = some r) : Ct yX8_unlikeRows cX8_unlikeRows 6 (some .int) 4 89 0 0 [vr (some a0), vi x1] σ (fun r_ τ_ => (r_ = some (vi r)) ∧ τ_ = σ) := by
  refine Ct.of (by decide +kernel) (Nat.le_of_ble_eq_true rfl) (fun Γ C1 => ?_)
  have C0 := C1.1
  unfold f_X8_unlikeRows at hf
  show J_ Γ 0 [(0, vr (some a0)), (1, vi (x1))] [] σ 0 0
  refine J_iconst (q := 1) (v := 0) C0 dX8_unlikeRows_0 rfl rfl ?_
  refine J_istore_n (q := 2) (lv' := [(2, vi (0)), (0, vr (some a0)), (1, vi (x1))]) C0 rfl (G_nl C1 (by decide)) dX8_unlikeRows_1 rfl rfl ?_
  refine J_iconst (q := 3) (v := 0) C0 dX8_unlikeRows_2 rfl rfl ?_
  refine J_istore_n (q := 4) (lv' := [(3, vi (0)), (2, vi (0)), (0, vr (some a0)), (1, vi (x1))]) C0 rfl (G_nl C1 (by decide)) dX8_unlikeRows_3 rfl rfl ?_
  refine J_sub (lv' := [(0, vr (some a0)), (1, vi (x1)), (2, vi (0)), (3, vi (0))]) [2, 3, 1, 0] rfl ?_
  exact t_X8_unlikeRows_L4 C1 (hT) (h0)    N (x1) (0) (0)  hf
def f_X9_pictureOf_B17 (v0 : Int32) : Option Int32 :=
  if (v0) = (46) then
  (some (26))
  else
  (some ((-1)))
def f_X9_pictureOf (x0 : Int32) : Option Int32 :=
  if (x0) < (97) then
  (f_X9_pictureOf_B17 (x0) )
  else
  (if (122) < (x0) then
  (f_X9_pictureOf_B17 (x0) )
  else
  (some ((x0) - (97))))
set_option maxHeartbeats 4000000 in
set_option maxRecDepth 100000 in
theorem t_X9_pictureOf_B17 {Γ : Gm} {σ : Sg} {r : Int32} (C1 : CM Γ cX9_pictureOf RX9 1 (some .int) 0 0 0 0 (fun r_ τ_ => (r_ = some (vi r)) ∧ τ_ = σ)) (v0 : Int32) (hf : f_X9_pictureOf_B17  v0 = some r) : J_ Γ 17 [(0, vi (v0))] [] σ 0 0 := by
  have C0 := C1.1
  unfold f_X9_pictureOf_B17 at hf
  refine J_iload_n (q := 18) C0 0 rfl rfl dX9_pictureOf_17 rfl ?_
  refine J_bipush (q := 20) (v := 46) C0 dX9_pictureOf_18 rfl rfl ?_
  refine J_icmp_ne (t := 28) (q := 23) C0 dX9_pictureOf_20 (by decide) rfl hf (fun c2 hf => ?_) (fun c2 hf => ?_)
  · refine J_iconst (q := 29) (v := (-1)) C0 dX9_pictureOf_28 rfl rfl ?_
    obtain rfl := Option.some.inj hf; exact J_iret C1 dX9_pictureOf_29 rfl (Nat.zero_le _) (Nat.zero_le _) ⟨rfl, rfl⟩
  · refine J_bipush (q := 25) (v := 26) C0 dX9_pictureOf_23 rfl rfl ?_
    refine J_goto (q := 29) C0 dX9_pictureOf_25 (by decide) ?_
    obtain rfl := Option.some.inj hf; exact J_iret C1 dX9_pictureOf_29 rfl (Nat.zero_le _) (Nat.zero_le _) ⟨rfl, rfl⟩
set_option maxHeartbeats 4000000 in
set_option maxRecDepth 100000 in
theorem t_X9_pictureOf (x0 : Int32) {σ : Sg} {r : Int32} (hf : f_X9_pictureOf x0 = some r) : Ct yX9_pictureOf cX9_pictureOf 1 (some .int) 0 0 0 0 [vi x0] σ (fun r_ τ_ => (r_ = some (vi r)) ∧ τ_ = σ) := by
  refine Ct.of (by decide +kernel) (Nat.le_of_ble_eq_true rfl) (fun Γ C1 => ?_)
  have C0 := C1.1
  unfold f_X9_pictureOf at hf
  show J_ Γ 0 [(0, vi (x0))] [] σ 0 0
  refine J_iload_n (q := 1) C0 0 rfl rfl dX9_pictureOf_0 rfl ?_
  refine J_bipush (q := 3) (v := 97) C0 dX9_pictureOf_1 rfl rfl ?_
  refine J_icmp_lt (t := 17) (q := 6) C0 dX9_pictureOf_3 (by decide) rfl hf (fun c1 hf => ?_) (fun c1 hf => ?_)
  · exact t_X9_pictureOf_B17 C1   (x0)  hf
  · refine J_iload_n (q := 7) C0 0 rfl rfl dX9_pictureOf_6 rfl ?_
    refine J_bipush (q := 9) (v := 122) C0 dX9_pictureOf_7 rfl rfl ?_
    refine J_icmp_gt (t := 17) (q := 12) C0 dX9_pictureOf_9 (by decide) rfl hf (fun c3 hf => ?_) (fun c3 hf => ?_)
    · exact t_X9_pictureOf_B17 C1   (x0)  hf
    · refine J_iload_n (q := 13) C0 0 rfl rfl dX9_pictureOf_12 rfl ?_
      refine J_bipush (q := 15) (v := 97) C0 dX9_pictureOf_13 rfl rfl ?_
      refine J_isub (q := 16) C0 dX9_pictureOf_15 rfl ?_
      obtain rfl := Option.some.inj hf; exact J_iret C1 dX9_pictureOf_16 rfl (Nat.zero_le _) (Nat.zero_le _) ⟨rfl, rfl⟩
def f_X9_add_L2 (N : Nat) (a0 : Nat) : Nat → Int32 → Int32 → Int32 → Sg → Option Sg
  | 0, _, _, _, _ => none
  | n + 1, v1, v2, v3, σ =>
  if (v3) < (v2) then
  (Option.bind (sg_R σ a0 3) fun b2 =>
  if (sg_I σ a0 4) < (Int32.ofNat (sg_L σ b2)) then
  (if (sg_I σ a0 4) < 0 ∨ sg_L σ b2 ≤ (sg_I σ a0 4).toNatClampNeg then none else
  f_X9_add_L2 N a0 n (v1) (v2) (v3 + 1) (put_I (put_I σ b2 (sg_I σ a0 4).toNatClampNeg (v1)) a0 4 ((sg_I (put_I σ b2 (sg_I σ a0 4).toNatClampNeg (v1)) a0 4) + (1))))
  else
  (some (σ)))
  else
  (some (σ))
def f_X9_add (N : Nat) (a0 : Nat) (x1 : Int32) (x2 : Int32) (σ : Sg) : Option Sg :=
  f_X9_add_L2 N a0 N (x1) (x2) (0) σ
set_option maxHeartbeats 4000000 in
set_option maxRecDepth 100000 in
theorem t_X9_add_L2 {N : Nat} {a0 : Nat} {Γ : Gm} {σ0 : Sg} {r : Sg} (C1 : CM Γ cX9_add RX9 4 none 0 0 0 0 (fun r_ τ_ => (r_ = none) ∧ τ_ = r ∧ sg_T τ_ ∧ sg_E σ0 τ_)) : ∀ (n : Nat) (v1 : Int32) (v2 : Int32) (v3 : Int32) (σ : Sg), sg_T σ → sg_E σ0 σ → is_A σ a0 8 → f_X9_add_L2 N a0  n v1 v2 v3 σ = some r → J_ Γ 2 [(0, vr (some a0)), (1, vi (v1)), (2, vi (v2)), (3, vi (v3))] [] σ 0 0 := by
  have C0 := C1.1
  intro n
  induction n with
  | zero => intro v1 v2 v3 σ hT hE h0  hf; unfold f_X9_add_L2 at hf; cases hf
  | succ n ih =>
    intro v1 v2 v3 σ hT hE h0  hf
    rw [f_X9_add_L2] at hf
    refine J_iload_n (q := 3) C0 3 rfl rfl dX9_add_2 rfl ?_
    refine J_iload_n (q := 4) C0 2 rfl rfl dX9_add_3 rfl ?_
    refine J_icmp_ge (t := 45) (q := 7) C0 dX9_add_4 (by decide) rfl hf (fun c1 hf => ?_) (fun c1 hf => ?_)
    · obtain rfl := Option.some.inj hf; exact J_vret C1 dX9_add_45 rfl (Nat.zero_le _) (Nat.zero_le _) ⟨rfl, rfl, hT, hE⟩
    · refine J_aload_n (q := 8) C0 0 rfl rfl dX9_add_7 rfl trivial ?_
      refine J_getI (q := 11) C0 fl_X9_15_8 rfl (h0) rfl dX9_add_8 rfl ?_
      refine J_aload_n (q := 12) C0 0 rfl rfl dX9_add_11 rfl trivial ?_
      refine J_getR (q := 15) C0 fl_X9_9_8 rfl (h0) rfl dX9_add_12 rfl ?_
      refine K_some hf (fun b2 hb2 hf => ?_)
      have ab2 : is_A σ b2 12 := ((sg_T.op hT (j := 3) (h0) rfl)) b2 hb2
      refine J_alen (q := 16) C0 hb2 (ab2) (by decide) dX9_add_15 rfl ?_
      refine J_icmp_ge (t := 45) (q := 19) C0 dX9_add_16 (by decide) rfl hf (fun c3 hf => ?_) (fun c3 hf => ?_)
      · obtain rfl := Option.some.inj hf; exact J_vret C1 dX9_add_45 rfl (Nat.zero_le _) (Nat.zero_le _) ⟨rfl, rfl, hT, hE⟩
      · refine J_aload_n (q := 20) C0 0 rfl rfl dX9_add_19 rfl trivial ?_
        refine J_getR (q := 23) C0 fl_X9_9_8 rfl (h0) rfl dX9_add_20 rfl ?_
        refine J_aload_n (q := 24) C0 0 rfl rfl dX9_add_23 rfl trivial ?_
        refine J_getI (q := 27) C0 fl_X9_15_8 rfl (h0) rfl dX9_add_24 rfl ?_
        refine J_iload_n (q := 28) C0 1 rfl rfl dX9_add_27 rfl ?_
        refine K_chk hf (fun c4 hf => ?_)
        refine J_iast (q := 29) C0 hb2 (ab2) c4 dX9_add_28 rfl ?_
        refine J_aload_n (q := 30) C0 0 rfl rfl dX9_add_29 rfl trivial ?_
        refine J_dup (q := 31) C0 dX9_add_30 rfl rfl ?_
        refine J_getI (q := 34) C0 fl_X9_15_8 rfl ((h0).putI) rfl dX9_add_31 rfl ?_
        refine J_iconst (q := 35) (v := 1) C0 dX9_add_34 rfl rfl ?_
        refine J_iadd (q := 36) C0 dX9_add_35 rfl ?_
        refine J_putI (q := 39) C0 fl_X9_15_8 rfl ((h0).putI) rfl dX9_add_36 rfl ?_
        refine J_iinc (q := 42) (v := v3 + 1) (lv' := [(3, vi (v3 + 1)), (0, vr (some a0)), (1, vi (v1)), (2, vi (v2))]) C0 3 rfl rfl (G_nl C1 (by decide)) dX9_add_39 rfl rfl ?_
        refine J_goto (q := 2) C0 dX9_add_42 (by decide) ?_
        refine J_sub (lv' := [(0, vr (some a0)), (1, vi (v1)), (2, vi (v2)), (3, vi (v3 + 1))]) [1, 2, 3, 0] rfl ?_
        exact ih (v1) (v2) (v3 + 1) (put_I (put_I σ b2 (sg_I σ a0 4).toNatClampNeg (v1)) a0 4 ((sg_I (put_I σ b2 (sg_I σ a0 4).toNatClampNeg (v1)) a0 4) + (1))) (((hT).putI).putI) (((hE).putI).putI) (((h0).putI).putI)  hf
set_option maxHeartbeats 4000000 in
set_option maxRecDepth 100000 in
theorem t_X9_add (N : Nat) (a0 : Nat) (x1 : Int32) (x2 : Int32) {σ : Sg} (hT : sg_T σ) (h0 : is_A σ a0 8) {r : Sg} (hf : f_X9_add N a0 x1 x2 σ = some r) : Ct yX9_add cX9_add 4 none 0 0 0 0 [vr (some a0), vi x1, vi x2] σ (fun r_ τ_ => (r_ = none) ∧ τ_ = r ∧ sg_T τ_ ∧ sg_E σ τ_) := by
  refine Ct.of (by decide +kernel) (Nat.le_of_ble_eq_true rfl) (fun Γ C1 => ?_)
  have C0 := C1.1
  have hE : sg_E σ σ := sg_E.rf
  unfold f_X9_add at hf
  show J_ Γ 0 [(0, vr (some a0)), (1, vi (x1)), (2, vi (x2))] [] σ 0 0
  refine J_iconst (q := 1) (v := 0) C0 dX9_add_0 rfl rfl ?_
  refine J_istore_n (q := 2) (lv' := [(3, vi (0)), (0, vr (some a0)), (1, vi (x1)), (2, vi (x2))]) C0 rfl (G_nl C1 (by decide)) dX9_add_1 rfl rfl ?_
  refine J_sub (lv' := [(0, vr (some a0)), (1, vi (x1)), (2, vi (x2)), (3, vi (0))]) [1, 2, 3, 0] rfl ?_
  exact t_X9_add_L2 C1    N (x1) (x2) (0) σ (hT) (hE) (h0)  hf
def f_X9_isWhole_B71 (N : Nat) (a0 : Nat) (k7 : Int32 → Sg → Option (Int32 × Sg)) (v1 : Int32) (v2 : Int32) (v3 : Int32) (σ : Sg) : Option (Int32 × Sg) :=
  Option.bind (f_X9_pictureOf (v2) ) fun p5 =>
  if (p5) = ((-1)) then
  (some (0, σ))
  else
  (if (16) < ((sg_I σ a0 4) + (v3)) then
  (some (0, σ))
  else
  (Option.bind (f_X9_add N a0 (p5) (v3) (put_I σ a0 2 ((sg_I σ a0 2) + (1)))) fun p8 =>
  k7 (v1 + 1) (p8)))
def f_X9_isWhole_L7 (N : Nat) (a0 : Nat) : Nat → Int32 → Sg → Option (Int32 × Sg)
  | 0, _, _ => none
  | n + 1, v1, σ =>
  if (240) < (v1) then
  (some (0, σ))
  else
  (Option.bind (f_X6_nextSign N a0  σ) fun p2 =>
  if (p2.1) = ((-1)) then
  (if (0) < (sg_I p2.2 a0 4) then
  (some (1, p2.2))
  else
  (some (0, p2.2)))
  else
  (if (p2.1) < (50) then
  (f_X9_isWhole_B71 N a0 (f_X9_isWhole_L7 N a0 n) (v1) (p2.1) (1) (p2.2))
  else
  (if (57) < (p2.1) then
  (f_X9_isWhole_B71 N a0 (f_X9_isWhole_L7 N a0 n) (v1) (p2.1) (1) (p2.2))
  else
  (Option.bind (f_X6_nextSign N a0  (put_I p2.2 a0 2 ((sg_I p2.2 a0 2) + (1)))) fun p10 =>
  f_X9_isWhole_B71 N a0 (f_X9_isWhole_L7 N a0 n) (v1) (p10.1) ((p2.1) - (48)) (p10.2)))))
def f_X9_isWhole (N : Nat) (a0 : Nat) (σ : Sg) : Option (Int32 × Sg) :=
  f_X9_isWhole_L7 N a0 N (0) (put_I σ a0 4 (0))
set_option maxHeartbeats 4000000 in
set_option maxRecDepth 100000 in
theorem t_X9_isWhole_B71 {N : Nat} {a0 : Nat} {Γ : Gm} {σ0 : Sg} {r : (Int32 × Sg)} (C1 : CM Γ cX9_isWhole RX9 5 (some .boolean) 1 23 0 0 (fun r_ τ_ => (r_ = some (vi r.1) ∧ (r.1 = 0 ∨ r.1 = 1)) ∧ τ_ = r.2 ∧ sg_T τ_ ∧ sg_E σ0 τ_)) (k7 : Int32 → Sg → Option (Int32 × Sg)) (hk7 : ∀ (v1 : Int32) (σ : Sg), sg_T σ → sg_E σ0 σ → is_A σ a0 8 → k7 v1 σ = some r → J_ Γ 7 [(0, vr (some a0)), (1, vi v1)] [] σ 0 0) (v1 : Int32) (v2 : Int32) (v3 : Int32) (σ : Sg) (hT : sg_T σ) (hE : sg_E σ0 σ) (h0 : is_A σ a0 8) (hf : f_X9_isWhole_B71 N a0 k7  v1 v2 v3 σ = some r) : J_ Γ 71 [(0, vr (some a0)), (1, vi (v1)), (2, vi (v2)), (3, vi (v3))] [] σ 0 0 := by
  have C0 := C1.1
  unfold f_X9_isWhole_B71 at hf
  refine J_iload_n (q := 72) C0 2 rfl rfl dX9_isWhole_71 rfl ?_
  refine K_some hf (fun p5 hp5 hf => ?_)
  refine J_callS (q := 75) (as := [vi (v2)]) (rest := []) C0 (t_X9_pictureOf (v2)  hp5) ml_X9_pictureOf lk_X9_26 sm_X9_pictureOf dX9_isWhole_72 rfl rfl rfl (by simp [ac_]) C1.room (by decide) (by decide) (by decide) (by decide) (fun r_ τ_ hQ => ?_)
  obtain ⟨rfl, ht_⟩ := hQ; have ht_ := ht_.symm; subst ht_
  show J_ Γ 75 [(0, vr (some a0)), (1, vi (v1)), (2, vi (v2)), (3, vi (v3))] [vi (p5)] σ 0 0
  refine J_istore (q := 77) (lv' := [(4, vi (p5)), (0, vr (some a0)), (1, vi (v1)), (2, vi (v2)), (3, vi (v3))]) C0 (G_nl C1 (by decide)) dX9_isWhole_75 rfl rfl ?_
  refine J_iload (q := 79) C0 0 rfl dX9_isWhole_77 rfl ?_
  refine J_iconst (q := 80) (v := (-1)) C0 dX9_isWhole_79 rfl rfl ?_
  refine J_icmp_eq (t := 94) (q := 83) C0 dX9_isWhole_80 (by decide) rfl hf (fun c6 hf => ?_) (fun c6 hf => ?_)
  · refine J_iconst (q := 95) (v := 0) C0 dX9_isWhole_94 rfl rfl ?_
    obtain rfl := Option.some.inj hf; exact J_zret C1 dX9_isWhole_95 rfl (Or.inl rfl) (Nat.zero_le _) (Nat.zero_le _) ⟨⟨rfl, (Or.inl rfl)⟩, rfl, hT, hE⟩
  · refine J_aload_n (q := 84) C0 1 rfl rfl dX9_isWhole_83 rfl trivial ?_
    refine J_getI (q := 87) C0 fl_X9_15_8 rfl (h0) rfl dX9_isWhole_84 rfl ?_
    refine J_iload_n (q := 88) C0 4 rfl rfl dX9_isWhole_87 rfl ?_
    refine J_iadd (q := 89) C0 dX9_isWhole_88 rfl ?_
    refine J_bipush (q := 91) (v := 16) C0 dX9_isWhole_89 rfl rfl ?_
    refine J_icmp_le (t := 96) (q := 94) C0 dX9_isWhole_91 (by decide) rfl hf (fun c7 hf => ?_) (fun c7 hf => ?_)
    · refine J_aload_n (q := 97) C0 1 rfl rfl dX9_isWhole_96 rfl trivial ?_
      refine J_dup (q := 98) C0 dX9_isWhole_97 rfl rfl ?_
      refine J_getI (q := 101) C0 fl_X9_23_8 rfl (h0) rfl dX9_isWhole_98 rfl ?_
      refine J_iconst (q := 102) (v := 1) C0 dX9_isWhole_101 rfl rfl ?_
      refine J_iadd (q := 103) C0 dX9_isWhole_102 rfl ?_
      refine J_putI (q := 106) C0 fl_X9_23_8 rfl (h0) rfl dX9_isWhole_103 rfl ?_
      refine J_aload_n (q := 107) C0 1 rfl rfl dX9_isWhole_106 rfl trivial ?_
      refine J_iload (q := 109) C0 0 rfl dX9_isWhole_107 rfl ?_
      refine J_iload_n (q := 110) C0 4 rfl rfl dX9_isWhole_109 rfl ?_
      refine K_some hf (fun p8 hp8 hf => ?_)
      refine J_callV (q := 113) (ci := 8) (as := [vi (p5), vi (v3)]) (rest := []) C0 rfl ((h0).putI) (t_X9_add N a0 (p5) (v3) ((hT).putI) ((h0).putI)  hp8) ml_X9_add lk_X9_30 im_X9_add se_X9_add rfl (by decide) dX9_isWhole_110 rfl rfl rfl (by simp [ac_]) C1.room (by decide) (by decide) (by decide) (by decide) (fun r_ τ_ hQ => ?_)
      obtain ⟨rfl, ht_, Tp8, Ep8⟩ := hQ; have ht_ := ht_.symm; subst ht_
      show J_ Γ 113 [(4, vi (p5)), (0, vr (some a0)), (1, vi (v1)), (2, vi (v2)), (3, vi (v3))] [] p8 0 0
      refine J_iinc (q := 116) (v := v1 + 1) (lv' := [(1, vi (v1 + 1)), (4, vi (p5)), (0, vr (some a0)), (2, vi (v2)), (3, vi (v3))]) C0 2 rfl rfl (G_nl C1 (by decide)) dX9_isWhole_113 rfl rfl ?_
      refine J_goto (q := 7) C0 dX9_isWhole_116 (by decide) ?_
      refine J_sub (lv' := [(0, vr (some a0)), (1, vi (v1 + 1))]) [2, 0] rfl ?_
      exact hk7 (v1 + 1) (p8) (Tp8) (((hE).putI).tr Ep8)  ((Ep8.at (h0).putI))  hf
    · refine J_iconst (q := 95) (v := 0) C0 dX9_isWhole_94 rfl rfl ?_
      obtain rfl := Option.some.inj hf; exact J_zret C1 dX9_isWhole_95 rfl (Or.inl rfl) (Nat.zero_le _) (Nat.zero_le _) ⟨⟨rfl, (Or.inl rfl)⟩, rfl, hT, hE⟩
set_option maxHeartbeats 4000000 in
set_option maxRecDepth 100000 in
theorem t_X9_isWhole_L7 {N : Nat} {a0 : Nat} {Γ : Gm} {σ0 : Sg} {r : (Int32 × Sg)} (C1 : CM Γ cX9_isWhole RX9 5 (some .boolean) 1 23 0 0 (fun r_ τ_ => (r_ = some (vi r.1) ∧ (r.1 = 0 ∨ r.1 = 1)) ∧ τ_ = r.2 ∧ sg_T τ_ ∧ sg_E σ0 τ_)) : ∀ (n : Nat) (v1 : Int32) (σ : Sg), sg_T σ → sg_E σ0 σ → is_A σ a0 8 → f_X9_isWhole_L7 N a0  n v1 σ = some r → J_ Γ 7 [(0, vr (some a0)), (1, vi (v1))] [] σ 0 0 := by
  have C0 := C1.1
  intro n
  induction n with
  | zero => intro v1 σ hT hE h0  hf; unfold f_X9_isWhole_L7 at hf; cases hf
  | succ n ih =>
    intro v1 σ hT hE h0  hf
    rw [f_X9_isWhole_L7] at hf
    refine J_iload_n (q := 8) C0 1 rfl rfl dX9_isWhole_7 rfl ?_
    refine J_sipush (q := 11) (v := 240) C0 dX9_isWhole_8 rfl rfl ?_
    refine J_icmp_gt (t := 119) (q := 14) C0 dX9_isWhole_11 (by decide) rfl hf (fun c1 hf => ?_) (fun c1 hf => ?_)
    · refine J_iconst (q := 120) (v := 0) C0 dX9_isWhole_119 rfl rfl ?_
      obtain rfl := Option.some.inj hf; exact J_zret C1 dX9_isWhole_120 rfl (Or.inl rfl) (Nat.zero_le _) (Nat.zero_le _) ⟨⟨rfl, (Or.inl rfl)⟩, rfl, hT, hE⟩
    · refine J_aload_n (q := 15) C0 0 rfl rfl dX9_isWhole_14 rfl trivial ?_
      refine K_some hf (fun p2 hp2 hf => ?_)
      refine J_callU (q := 18) (ci := 8) (as := []) (rest := []) C0 rfl (h0) (t_X6_nextSign_k8 N a0  (hT) (h0)  hp2) rfl ml_X6_nextSign lk_X9_19 sa_722 im_X6_nextSign se_723 rfl (by decide) dX9_isWhole_15 rfl rfl rfl (by simp [ac_]) C1.room (by decide) (by decide) (by decide) (by decide) (fun r_ τ_ hQ => ?_)
      obtain ⟨rfl, rfl, Tp2, Ep2⟩ := hQ
      show J_ Γ 18 [(0, vr (some a0)), (1, vi (v1))] [vi (p2.1)] p2.2 0 0
      refine J_istore_n (q := 19) (lv' := [(2, vi (p2.1)), (0, vr (some a0)), (1, vi (v1))]) C0 rfl (G_nl C1 (by decide)) dX9_isWhole_18 rfl rfl ?_
      refine J_iload_n (q := 20) C0 0 rfl rfl dX9_isWhole_19 rfl ?_
      refine J_iconst (q := 21) (v := (-1)) C0 dX9_isWhole_20 rfl rfl ?_
      refine J_icmp_ne (t := 37) (q := 24) C0 dX9_isWhole_21 (by decide) rfl hf (fun c3 hf => ?_) (fun c3 hf => ?_)
      · refine J_iconst (q := 38) (v := 1) C0 dX9_isWhole_37 rfl rfl ?_
        refine J_istore_n (q := 39) (lv' := [(3, vi (1)), (2, vi (p2.1)), (0, vr (some a0)), (1, vi (v1))]) C0 rfl (G_nl C1 (by decide)) dX9_isWhole_38 rfl rfl ?_
        refine J_iload_n (q := 40) C0 1 rfl rfl dX9_isWhole_39 rfl ?_
        refine J_bipush (q := 42) (v := 50) C0 dX9_isWhole_40 rfl rfl ?_
        refine J_icmp_lt (t := 71) (q := 45) C0 dX9_isWhole_42 (by decide) rfl hf (fun c4 hf => ?_) (fun c4 hf => ?_)
        · refine J_sub (lv' := [(0, vr (some a0)), (1, vi (v1)), (2, vi (p2.1)), (3, vi (1))]) [2, 3, 1, 0] rfl ?_
          exact t_X9_isWhole_B71 C1  (f_X9_isWhole_L7 N a0 n)  ih  (v1) (p2.1) (1) (p2.2) (Tp2) ((hE).tr Ep2) ((Ep2.at h0))  hf
        · refine J_iload_n (q := 46) C0 1 rfl rfl dX9_isWhole_45 rfl ?_
          refine J_bipush (q := 48) (v := 57) C0 dX9_isWhole_46 rfl rfl ?_
          refine J_icmp_gt (t := 71) (q := 51) C0 dX9_isWhole_48 (by decide) rfl hf (fun c9 hf => ?_) (fun c9 hf => ?_)
          · refine J_sub (lv' := [(0, vr (some a0)), (1, vi (v1)), (2, vi (p2.1)), (3, vi (1))]) [2, 3, 1, 0] rfl ?_
            exact t_X9_isWhole_B71 C1  (f_X9_isWhole_L7 N a0 n)  ih  (v1) (p2.1) (1) (p2.2) (Tp2) ((hE).tr Ep2) ((Ep2.at h0))  hf
          · refine J_iload_n (q := 52) C0 1 rfl rfl dX9_isWhole_51 rfl ?_
            refine J_bipush (q := 54) (v := 48) C0 dX9_isWhole_52 rfl rfl ?_
            refine J_isub (q := 55) C0 dX9_isWhole_54 rfl ?_
            refine J_istore_n (q := 56) (lv' := [(3, vi ((p2.1) - (48))), (2, vi (p2.1)), (0, vr (some a0)), (1, vi (v1))]) C0 rfl (G_nl C1 (by decide)) dX9_isWhole_55 rfl rfl ?_
            refine J_aload_n (q := 57) C0 2 rfl rfl dX9_isWhole_56 rfl trivial ?_
            refine J_dup (q := 58) C0 dX9_isWhole_57 rfl rfl ?_
            refine J_getI (q := 61) C0 fl_X9_23_8 rfl ((Ep2.at h0)) rfl dX9_isWhole_58 rfl ?_
            refine J_iconst (q := 62) (v := 1) C0 dX9_isWhole_61 rfl rfl ?_
            refine J_iadd (q := 63) C0 dX9_isWhole_62 rfl ?_
            refine J_putI (q := 66) C0 fl_X9_23_8 rfl ((Ep2.at h0)) rfl dX9_isWhole_63 rfl ?_
            refine J_aload_n (q := 67) C0 2 rfl rfl dX9_isWhole_66 rfl trivial ?_
            refine K_some hf (fun p10 hp10 hf => ?_)
            refine J_callU (q := 70) (ci := 8) (as := []) (rest := []) C0 rfl (((Ep2.at h0)).putI) (t_X6_nextSign_k8 N a0  ((Tp2).putI) (((Ep2.at h0)).putI)  hp10) rfl ml_X6_nextSign lk_X9_19 sa_722 im_X6_nextSign se_723 rfl (by decide) dX9_isWhole_67 rfl rfl rfl (by simp [ac_]) C1.room (by decide) (by decide) (by decide) (by decide) (fun r_ τ_ hQ => ?_)
            obtain ⟨rfl, rfl, Tp10, Ep10⟩ := hQ
            show J_ Γ 70 [(3, vi ((p2.1) - (48))), (2, vi (p2.1)), (0, vr (some a0)), (1, vi (v1))] [vi (p10.1)] p10.2 0 0
            refine J_istore_n (q := 71) (lv' := [(2, vi (p10.1)), (3, vi ((p2.1) - (48))), (0, vr (some a0)), (1, vi (v1))]) C0 rfl (G_nl C1 (by decide)) dX9_isWhole_70 rfl rfl ?_
            refine J_sub (lv' := [(0, vr (some a0)), (1, vi (v1)), (2, vi (p10.1)), (3, vi ((p2.1) - (48)))]) [2, 3, 0, 1] rfl ?_
            exact t_X9_isWhole_B71 C1  (f_X9_isWhole_L7 N a0 n)  ih  (v1) (p10.1) ((p2.1) - (48)) (p10.2) (Tp10) ((((hE).tr Ep2).putI).tr Ep10) ((Ep10.at ((Ep2.at h0)).putI))  hf
      · refine J_aload_n (q := 25) C0 1 rfl rfl dX9_isWhole_24 rfl trivial ?_
        refine J_getI (q := 28) C0 fl_X9_15_8 rfl ((Ep2.at h0)) rfl dX9_isWhole_25 rfl ?_
        refine J_if_le (t := 35) (q := 31) C0 dX9_isWhole_28 (by decide) rfl hf (fun c11 hf => ?_) (fun c11 hf => ?_)
        · refine J_iconst (q := 36) (v := 0) C0 dX9_isWhole_35 rfl rfl ?_
          obtain rfl := Option.some.inj hf; exact J_zret C1 dX9_isWhole_36 rfl (Or.inl rfl) (Nat.zero_le _) (Nat.zero_le _) ⟨⟨rfl, (Or.inl rfl)⟩, rfl, Tp2, (hE).tr Ep2⟩
        · refine J_iconst (q := 32) (v := 1) C0 dX9_isWhole_31 rfl rfl ?_
          refine J_goto (q := 36) C0 dX9_isWhole_32 (by decide) ?_
          obtain rfl := Option.some.inj hf; exact J_zret C1 dX9_isWhole_36 rfl (Or.inr rfl) (Nat.zero_le _) (Nat.zero_le _) ⟨⟨rfl, (Or.inr rfl)⟩, rfl, Tp2, (hE).tr Ep2⟩
set_option maxHeartbeats 4000000 in
set_option maxRecDepth 100000 in
theorem t_X9_isWhole (N : Nat) (a0 : Nat) {σ : Sg} (hT : sg_T σ) (h0 : is_A σ a0 8) {r : (Int32 × Sg)} (hf : f_X9_isWhole N a0  σ = some r) : Ct yX9_isWhole cX9_isWhole 5 (some .boolean) 1 23 0 0 [vr (some a0)] σ (fun r_ τ_ => (r_ = some (vi r.1) ∧ (r.1 = 0 ∨ r.1 = 1)) ∧ τ_ = r.2 ∧ sg_T τ_ ∧ sg_E σ τ_) := by
  refine Ct.of (by decide +kernel) (Nat.le_of_ble_eq_true rfl) (fun Γ C1 => ?_)
  have C0 := C1.1
  have hE : sg_E σ σ := sg_E.rf
  unfold f_X9_isWhole at hf
  show J_ Γ 0 [(0, vr (some a0))] [] σ 0 0
  refine J_aload_n (q := 1) C0 0 rfl rfl dX9_isWhole_0 rfl trivial ?_
  refine J_iconst (q := 2) (v := 0) C0 dX9_isWhole_1 rfl rfl ?_
  refine J_putI (q := 5) C0 fl_X9_15_8 rfl (h0) rfl dX9_isWhole_2 rfl ?_
  refine J_iconst (q := 6) (v := 0) C0 dX9_isWhole_5 rfl rfl ?_
  refine J_istore_n (q := 7) (lv' := [(1, vi (0)), (0, vr (some a0))]) C0 rfl (G_nl C1 (by decide)) dX9_isWhole_6 rfl rfl ?_
  refine J_sub (lv' := [(0, vr (some a0)), (1, vi (0))]) [1, 0] rfl ?_
  exact t_X9_isWhole_L7 C1    N (0) (put_I σ a0 4 (0)) ((hT).putI) ((hE).putI) ((h0).putI)  hf
def f_X11_bytesIn_B25 (N : Nat) (k5 : Int32 → Int32 → Int32 → Option Int32) (v0 : Int32) (v2 : Int32) (s0 : Int32) (s1 : Int32) : Option Int32 :=
  k5 (v0) ((s1) + (s0)) (v2 + (-8))
def f_X11_bytesIn_L5 (N : Nat) : Nat → Int32 → Int32 → Int32 → Option Int32
  | 0, _, _, _ => none
  | n + 1, v0, v1, v2 =>
  if (v2) < (0) then
  (some (v1))
  else
  (if ((((v0).toUInt32 >>> ((v2).toUInt32 &&& Int32.toUInt32 31)).toInt32) &&& (255)) = (0) then
  (f_X11_bytesIn_B25 N (fun v0 v1 v2 => f_X11_bytesIn_L5 N n v0 v1 v2) (v0) (v2) (0) (v1) )
  else
  (f_X11_bytesIn_B25 N (fun v0 v1 v2 => f_X11_bytesIn_L5 N n v0 v1 v2) (v0) (v2) (1) (v1) ))
def f_X11_bytesIn (N : Nat) (x0 : Int32) : Option Int32 :=
  f_X11_bytesIn_L5 N N (x0) (0) (24) 
set_option maxHeartbeats 4000000 in
set_option maxRecDepth 100000 in
theorem t_X11_bytesIn_B25 {N : Nat} {Γ : Gm} {σ : Sg} {r : Int32} (C1 : CM Γ cX11_bytesIn RX11 3 (some .int) 0 0 0 0 (fun r_ τ_ => (r_ = some (vi r)) ∧ τ_ = σ)) (k5 : Int32 → Int32 → Int32 → Option Int32) (hk5 : ∀ (v0 : Int32) (v1 : Int32) (v2 : Int32) , k5 v0 v1 v2 = some r → J_ Γ 5 [(0, vi v0), (1, vi v1), (2, vi v2)] [] σ 0 0) (v0 : Int32) (v2 : Int32) (s0 : Int32) (s1 : Int32) (hf : f_X11_bytesIn_B25 N k5  v0 v2 s0 s1 = some r) : J_ Γ 25 [(0, vi (v0)), (2, vi (v2))] [vi (s0), vi (s1)] σ 0 0 := by
  have C0 := C1.1
  unfold f_X11_bytesIn_B25 at hf
  refine J_iadd (q := 26) C0 dX11_bytesIn_25 rfl ?_
  refine J_istore_n (q := 27) (lv' := [(1, vi ((s1) + (s0))), (0, vi (v0)), (2, vi (v2))]) C0 rfl (G_nl C1 (by decide)) dX11_bytesIn_26 rfl rfl ?_
  refine J_iinc (q := 30) (v := v2 + (-8)) (lv' := [(2, vi (v2 + (-8))), (1, vi ((s1) + (s0))), (0, vi (v0))]) C0 2 rfl (congrArg (fun t_ : Int32 => (v2) + t_) (by decide : Int32.ofInt (-8) = (-8 : Int32))) (G_nl C1 (by decide)) dX11_bytesIn_27 rfl rfl ?_
  refine J_goto (q := 5) C0 dX11_bytesIn_30 (by decide) ?_
  refine J_sub (lv' := [(0, vi (v0)), (1, vi ((s1) + (s0))), (2, vi (v2 + (-8)))]) [2, 1, 0] rfl ?_
  exact hk5 (v0) ((s1) + (s0)) (v2 + (-8))  hf
set_option maxHeartbeats 4000000 in
set_option maxRecDepth 100000 in
theorem t_X11_bytesIn_L5 {N : Nat} {Γ : Gm} {σ : Sg} {r : Int32} (C1 : CM Γ cX11_bytesIn RX11 3 (some .int) 0 0 0 0 (fun r_ τ_ => (r_ = some (vi r)) ∧ τ_ = σ)) : ∀ (n : Nat) (v0 : Int32) (v1 : Int32) (v2 : Int32), f_X11_bytesIn_L5 N  n v0 v1 v2 = some r → J_ Γ 5 [(0, vi (v0)), (1, vi (v1)), (2, vi (v2))] [] σ 0 0 := by
  have C0 := C1.1
  intro n
  induction n with
  | zero => intro v0 v1 v2  hf; unfold f_X11_bytesIn_L5 at hf; cases hf
  | succ n ih =>
    intro v0 v1 v2  hf
    rw [f_X11_bytesIn_L5] at hf
    refine J_iload_n (q := 6) C0 2 rfl rfl dX11_bytesIn_5 rfl ?_
    refine J_if_lt (t := 33) (q := 9) C0 dX11_bytesIn_6 (by decide) rfl hf (fun c1 hf => ?_) (fun c1 hf => ?_)
    · refine J_iload_n (q := 34) C0 1 rfl rfl dX11_bytesIn_33 rfl ?_
      obtain rfl := Option.some.inj hf; exact J_iret C1 dX11_bytesIn_34 rfl (Nat.zero_le _) (Nat.zero_le _) ⟨rfl, rfl⟩
    · refine J_iload_n (q := 10) C0 1 rfl rfl dX11_bytesIn_9 rfl ?_
      refine J_iload_n (q := 11) C0 0 rfl rfl dX11_bytesIn_10 rfl ?_
      refine J_iload_n (q := 12) C0 2 rfl rfl dX11_bytesIn_11 rfl ?_
      refine J_iushr (q := 13) (v := ((v0).toUInt32 >>> ((v2).toUInt32 &&& Int32.toUInt32 31)).toInt32) C0 dX11_bytesIn_12 rfl rfl ?_
      refine J_sipush (q := 16) (v := 255) C0 dX11_bytesIn_13 rfl rfl ?_
      refine J_iand (q := 17) C0 dX11_bytesIn_16 rfl ?_
      refine J_if_eq (t := 24) (q := 20) C0 dX11_bytesIn_17 (by decide) rfl hf (fun c2 hf => ?_) (fun c2 hf => ?_)
      · refine J_iconst (q := 25) (v := 0) C0 dX11_bytesIn_24 rfl rfl ?_
        refine J_sub (lv' := [(0, vi (v0)), (2, vi (v2))]) [0, 2] rfl ?_
        exact t_X11_bytesIn_B25 C1 (fun v0 v1 v2 => f_X11_bytesIn_L5 N n v0 v1 v2)  ih  (v0) (v2) (0) (v1)  hf
      · refine J_iconst (q := 21) (v := 1) C0 dX11_bytesIn_20 rfl rfl ?_
        refine J_goto (q := 25) C0 dX11_bytesIn_21 (by decide) ?_
        refine J_sub (lv' := [(0, vi (v0)), (2, vi (v2))]) [0, 2] rfl ?_
        exact t_X11_bytesIn_B25 C1 (fun v0 v1 v2 => f_X11_bytesIn_L5 N n v0 v1 v2)  ih  (v0) (v2) (1) (v1)  hf
set_option maxHeartbeats 4000000 in
set_option maxRecDepth 100000 in
theorem t_X11_bytesIn (N : Nat) (x0 : Int32) {σ : Sg} {r : Int32} (hf : f_X11_bytesIn N x0 = some r) : Ct yX11_bytesIn cX11_bytesIn 3 (some .int) 0 0 0 0 [vi x0] σ (fun r_ τ_ => (r_ = some (vi r)) ∧ τ_ = σ) := by
  refine Ct.of (by decide +kernel) (Nat.le_of_ble_eq_true rfl) (fun Γ C1 => ?_)
  have C0 := C1.1
  unfold f_X11_bytesIn at hf
  show J_ Γ 0 [(0, vi (x0))] [] σ 0 0
  refine J_iconst (q := 1) (v := 0) C0 dX11_bytesIn_0 rfl rfl ?_
  refine J_istore_n (q := 2) (lv' := [(1, vi (0)), (0, vi (x0))]) C0 rfl (G_nl C1 (by decide)) dX11_bytesIn_1 rfl rfl ?_
  refine J_bipush (q := 4) (v := 24) C0 dX11_bytesIn_2 rfl rfl ?_
  refine J_istore_n (q := 5) (lv' := [(2, vi (24)), (1, vi (0)), (0, vi (x0))]) C0 rfl (G_nl C1 (by decide)) dX11_bytesIn_4 rfl rfl ?_
  refine J_sub (lv' := [(0, vi (x0)), (1, vi (0)), (2, vi (24))]) [2, 1, 0] rfl ?_
  exact t_X11_bytesIn_L5 C1    N (x0) (0) (24)  hf
def f_X11_record_B51 (N : Nat) (a0 : Nat) (k3 : Int32 → Int32 → Sg → Option Sg) (v1 : Int32) (v2 : Int32) (σ : Sg) : Option Sg :=
  k3 (v1) (v2 + (-8)) σ
def f_X11_record_L3 (N : Nat) (a0 : Nat) : Nat → Int32 → Int32 → Sg → Option Sg
  | 0, _, _, _ => none
  | n + 1, v1, v2, σ =>
  if (v2) < (0) then
  (some (σ))
  else
  (if ((((v1).toUInt32 >>> ((v2).toUInt32 &&& Int32.toUInt32 31)).toInt32) &&& (255)) = (0) then
  (f_X11_record_B51 N a0 (f_X11_record_L3 N a0 n) (v1) (v2) σ)
  else
  (Option.bind (sg_R σ a0 0) fun b3 =>
  if (sg_I σ a0 1) < (Int32.ofNat (sg_L σ b3)) then
  (if (sg_I σ a0 1) < 0 ∨ sg_L σ b3 ≤ (sg_I σ a0 1).toNatClampNeg then none else
  f_X11_record_B51 N a0 (f_X11_record_L3 N a0 n) (v1) (v2) (put_I (put_I σ b3 (sg_I σ a0 1).toNatClampNeg ((((v1).toUInt32 >>> ((v2).toUInt32 &&& Int32.toUInt32 31)).toInt32) &&& (255))) a0 1 ((sg_I (put_I σ b3 (sg_I σ a0 1).toNatClampNeg ((((v1).toUInt32 >>> ((v2).toUInt32 &&& Int32.toUInt32 31)).toInt32) &&& (255))) a0 1) + (1))))
  else
  (f_X11_record_B51 N a0 (f_X11_record_L3 N a0 n) (v1) (v2) σ)))
def f_X11_record (N : Nat) (a0 : Nat) (x1 : Int32) (σ : Sg) : Option Sg :=
  f_X11_record_L3 N a0 N (x1) (24) σ
set_option maxHeartbeats 4000000 in
set_option maxRecDepth 100000 in
theorem t_X11_record_B51 {N : Nat} {a0 : Nat} {Γ : Gm} {σ0 : Sg} {r : Sg} (C1 : CM Γ cX11_record RX11 4 none 0 0 0 0 (fun r_ τ_ => (r_ = none) ∧ τ_ = r ∧ sg_T τ_ ∧ sg_E σ0 τ_)) (k3 : Int32 → Int32 → Sg → Option Sg) (hk3 : ∀ (v1 : Int32) (v2 : Int32) (σ : Sg), sg_T σ → sg_E σ0 σ → is_A σ a0 10 → k3 v1 v2 σ = some r → J_ Γ 3 [(0, vr (some a0)), (1, vi v1), (2, vi v2)] [] σ 0 0) (v1 : Int32) (v2 : Int32) (σ : Sg) (hT : sg_T σ) (hE : sg_E σ0 σ) (h0 : is_A σ a0 10) (hf : f_X11_record_B51 N a0 k3  v1 v2 σ = some r) : J_ Γ 51 [(0, vr (some a0)), (1, vi (v1)), (2, vi (v2))] [] σ 0 0 := by
  have C0 := C1.1
  unfold f_X11_record_B51 at hf
  refine J_iinc (q := 54) (v := v2 + (-8)) (lv' := [(2, vi (v2 + (-8))), (0, vr (some a0)), (1, vi (v1))]) C0 2 rfl (congrArg (fun t_ : Int32 => (v2) + t_) (by decide : Int32.ofInt (-8) = (-8 : Int32))) (G_nl C1 (by decide)) dX11_record_51 rfl rfl ?_
  refine J_goto (q := 3) C0 dX11_record_54 (by decide) ?_
  refine J_sub (lv' := [(0, vr (some a0)), (1, vi (v1)), (2, vi (v2 + (-8)))]) [1, 2, 0] rfl ?_
  exact hk3 (v1) (v2 + (-8)) σ (hT) (hE)  (h0)  hf
set_option maxHeartbeats 4000000 in
set_option maxRecDepth 100000 in
theorem t_X11_record_L3 {N : Nat} {a0 : Nat} {Γ : Gm} {σ0 : Sg} {r : Sg} (C1 : CM Γ cX11_record RX11 4 none 0 0 0 0 (fun r_ τ_ => (r_ = none) ∧ τ_ = r ∧ sg_T τ_ ∧ sg_E σ0 τ_)) : ∀ (n : Nat) (v1 : Int32) (v2 : Int32) (σ : Sg), sg_T σ → sg_E σ0 σ → is_A σ a0 10 → f_X11_record_L3 N a0  n v1 v2 σ = some r → J_ Γ 3 [(0, vr (some a0)), (1, vi (v1)), (2, vi (v2))] [] σ 0 0 := by
  have C0 := C1.1
  intro n
  induction n with
  | zero => intro v1 v2 σ hT hE h0  hf; unfold f_X11_record_L3 at hf; cases hf
  | succ n ih =>
    intro v1 v2 σ hT hE h0  hf
    rw [f_X11_record_L3] at hf
    refine J_iload_n (q := 4) C0 2 rfl rfl dX11_record_3 rfl ?_
    refine J_if_lt (t := 57) (q := 7) C0 dX11_record_4 (by decide) rfl hf (fun c1 hf => ?_) (fun c1 hf => ?_)
    · obtain rfl := Option.some.inj hf; exact J_vret C1 dX11_record_57 rfl (Nat.zero_le _) (Nat.zero_le _) ⟨rfl, rfl, hT, hE⟩
    · refine J_iload_n (q := 8) C0 1 rfl rfl dX11_record_7 rfl ?_
      refine J_iload_n (q := 9) C0 2 rfl rfl dX11_record_8 rfl ?_
      refine J_iushr (q := 10) (v := ((v1).toUInt32 >>> ((v2).toUInt32 &&& Int32.toUInt32 31)).toInt32) C0 dX11_record_9 rfl rfl ?_
      refine J_sipush (q := 13) (v := 255) C0 dX11_record_10 rfl rfl ?_
      refine J_iand (q := 14) C0 dX11_record_13 rfl ?_
      refine J_istore_n (q := 15) (lv' := [(3, vi ((((v1).toUInt32 >>> ((v2).toUInt32 &&& Int32.toUInt32 31)).toInt32) &&& (255))), (0, vr (some a0)), (1, vi (v1)), (2, vi (v2))]) C0 rfl (G_nl C1 (by decide)) dX11_record_14 rfl rfl ?_
      refine J_iload_n (q := 16) C0 0 rfl rfl dX11_record_15 rfl ?_
      refine J_if_eq (t := 51) (q := 19) C0 dX11_record_16 (by decide) rfl hf (fun c2 hf => ?_) (fun c2 hf => ?_)
      · refine J_sub (lv' := [(0, vr (some a0)), (1, vi (v1)), (2, vi (v2))]) [1, 2, 3] rfl ?_
        exact t_X11_record_B51 C1  (f_X11_record_L3 N a0 n)  ih  (v1) (v2) σ (hT) (hE) (h0)  hf
      · refine J_aload_n (q := 20) C0 1 rfl rfl dX11_record_19 rfl trivial ?_
        refine J_getI (q := 23) C0 fl_X11_13_10 rfl (h0) rfl dX11_record_20 rfl ?_
        refine J_aload_n (q := 24) C0 1 rfl rfl dX11_record_23 rfl trivial ?_
        refine J_getR (q := 27) C0 fl_X11_9_10 rfl (h0) rfl dX11_record_24 rfl ?_
        refine K_some hf (fun b3 hb3 hf => ?_)
        have ab3 : is_A σ b3 12 := ((sg_T.op hT (j := 0) (h0) rfl)) b3 hb3
        refine J_alen (q := 28) C0 hb3 (ab3) (by decide) dX11_record_27 rfl ?_
        refine J_icmp_ge (t := 51) (q := 31) C0 dX11_record_28 (by decide) rfl hf (fun c4 hf => ?_) (fun c4 hf => ?_)
        · refine J_sub (lv' := [(0, vr (some a0)), (1, vi (v1)), (2, vi (v2))]) [1, 2, 3] rfl ?_
          exact t_X11_record_B51 C1  (f_X11_record_L3 N a0 n)  ih  (v1) (v2) σ (hT) (hE) (h0)  hf
        · refine J_aload_n (q := 32) C0 1 rfl rfl dX11_record_31 rfl trivial ?_
          refine J_getR (q := 35) C0 fl_X11_9_10 rfl (h0) rfl dX11_record_32 rfl ?_
          refine J_aload_n (q := 36) C0 1 rfl rfl dX11_record_35 rfl trivial ?_
          refine J_getI (q := 39) C0 fl_X11_13_10 rfl (h0) rfl dX11_record_36 rfl ?_
          refine J_iload_n (q := 40) C0 0 rfl rfl dX11_record_39 rfl ?_
          refine K_chk hf (fun c5 hf => ?_)
          refine J_iast (q := 41) C0 hb3 (ab3) c5 dX11_record_40 rfl ?_
          refine J_aload_n (q := 42) C0 1 rfl rfl dX11_record_41 rfl trivial ?_
          refine J_dup (q := 43) C0 dX11_record_42 rfl rfl ?_
          refine J_getI (q := 46) C0 fl_X11_13_10 rfl ((h0).putI) rfl dX11_record_43 rfl ?_
          refine J_iconst (q := 47) (v := 1) C0 dX11_record_46 rfl rfl ?_
          refine J_iadd (q := 48) C0 dX11_record_47 rfl ?_
          refine J_putI (q := 51) C0 fl_X11_13_10 rfl ((h0).putI) rfl dX11_record_48 rfl ?_
          refine J_sub (lv' := [(0, vr (some a0)), (1, vi (v1)), (2, vi (v2))]) [1, 2, 3] rfl ?_
          exact t_X11_record_B51 C1  (f_X11_record_L3 N a0 n)  ih  (v1) (v2) (put_I (put_I σ b3 (sg_I σ a0 1).toNatClampNeg ((((v1).toUInt32 >>> ((v2).toUInt32 &&& Int32.toUInt32 31)).toInt32) &&& (255))) a0 1 ((sg_I (put_I σ b3 (sg_I σ a0 1).toNatClampNeg ((((v1).toUInt32 >>> ((v2).toUInt32 &&& Int32.toUInt32 31)).toInt32) &&& (255))) a0 1) + (1))) (((hT).putI).putI) (((hE).putI).putI) (((h0).putI).putI)  hf
set_option maxHeartbeats 4000000 in
set_option maxRecDepth 100000 in
theorem t_X11_record (N : Nat) (a0 : Nat) (x1 : Int32) {σ : Sg} (hT : sg_T σ) (h0 : is_A σ a0 10) {r : Sg} (hf : f_X11_record N a0 x1 σ = some r) : Ct yX11_record cX11_record 4 none 0 0 0 0 [vr (some a0), vi x1] σ (fun r_ τ_ => (r_ = none) ∧ τ_ = r ∧ sg_T τ_ ∧ sg_E σ τ_) := by
  refine Ct.of (by decide +kernel) (Nat.le_of_ble_eq_true rfl) (fun Γ C1 => ?_)
  have C0 := C1.1
  have hE : sg_E σ σ := sg_E.rf
  unfold f_X11_record at hf
  show J_ Γ 0 [(0, vr (some a0)), (1, vi (x1))] [] σ 0 0
  refine J_bipush (q := 2) (v := 24) C0 dX11_record_0 rfl rfl ?_
  refine J_istore_n (q := 3) (lv' := [(2, vi (24)), (0, vr (some a0)), (1, vi (x1))]) C0 rfl (G_nl C1 (by decide)) dX11_record_2 rfl rfl ?_
  refine J_sub (lv' := [(0, vr (some a0)), (1, vi (x1)), (2, vi (24))]) [1, 2, 0] rfl ?_
  exact t_X11_record_L3 C1    N (x1) (24) σ (hT) (hE) (h0)  hf
def f_X11_feed (N : Nat) (a0 : Nat) (x1 : Int32) (x2 : Int32) (x3 : Int32) (x4 : Int32) (x5 : Int32) (σ : Sg) : Option (Int32 × Sg) :=
  Option.bind (f_X11_bytesIn N (x1) ) fun p1 =>
  Option.bind (f_X11_bytesIn N (x2) ) fun p2 =>
  Option.bind (f_X11_bytesIn N (x3) ) fun p3 =>
  Option.bind (f_X11_bytesIn N (x4) ) fun p4 =>
  Option.bind (f_X11_bytesIn N (x5) ) fun p5 =>
  if (240) < ((sg_I σ a0 1) + (((((p1) + (p2)) + (p3)) + (p4)) + (p5))) then
  (some ((-1), σ))
  else
  (Option.bind (f_X11_record N a0 (x1) σ) fun p7 =>
  Option.bind (f_X11_record N a0 (x2) p7) fun p8 =>
  Option.bind (f_X11_record N a0 (x3) p8) fun p9 =>
  Option.bind (f_X11_record N a0 (x4) p9) fun p10 =>
  Option.bind (f_X11_record N a0 (x5) p10) fun p11 =>
  some (sg_I p11 a0 1, p11))
set_option maxHeartbeats 4000000 in
set_option maxRecDepth 100000 in
theorem t_X11_feed (N : Nat) (a0 : Nat) (x1 : Int32) (x2 : Int32) (x3 : Int32) (x4 : Int32) (x5 : Int32) {σ : Sg} (hT : sg_T σ) (h0 : is_A σ a0 10) {r : (Int32 × Sg)} (hf : f_X11_feed N a0 x1 x2 x3 x4 x5 σ = some r) : Ct yX11_feed cX11_feed 7 (some .int) 1 23 0 0 [vr (some a0), vi x1, vi x2, vi x3, vi x4, vi x5] σ (fun r_ τ_ => (r_ = some (vi r.1)) ∧ τ_ = r.2 ∧ sg_T τ_ ∧ sg_E σ τ_) := by
  refine Ct.of (by decide +kernel) (Nat.le_of_ble_eq_true rfl) (fun Γ C1 => ?_)
  have C0 := C1.1
  have hE : sg_E σ σ := sg_E.rf
  unfold f_X11_feed at hf
  show J_ Γ 0 [(0, vr (some a0)), (1, vi (x1)), (2, vi (x2)), (3, vi (x3)), (4, vi (x4)), (5, vi (x5))] [] σ 0 0
  refine J_iload_n (q := 1) C0 1 rfl rfl dX11_feed_0 rfl ?_
  refine K_some hf (fun p1 hp1 hf => ?_)
  refine J_callS (q := 4) (as := [vi (x1)]) (rest := []) C0 (t_X11_bytesIn N (x1)  hp1) ml_X11_bytesIn lk_X11_111 sm_X11_bytesIn dX11_feed_1 rfl rfl rfl (by simp [ac_]) C1.room (by decide) (by decide) (by decide) (by decide) (fun r_ τ_ hQ => ?_)
  obtain ⟨rfl, ht_⟩ := hQ; have ht_ := ht_.symm; subst ht_
  show J_ Γ 4 [(0, vr (some a0)), (1, vi (x1)), (2, vi (x2)), (3, vi (x3)), (4, vi (x4)), (5, vi (x5))] [vi (p1)] σ 0 0
  refine J_iload_n (q := 5) C0 2 rfl rfl dX11_feed_4 rfl ?_
  refine K_some hf (fun p2 hp2 hf => ?_)
  refine J_callS (q := 8) (as := [vi (x2)]) (rest := [vi (p1)]) C0 (t_X11_bytesIn N (x2)  hp2) ml_X11_bytesIn lk_X11_111 sm_X11_bytesIn dX11_feed_5 rfl rfl rfl (by simp [ac_]) C1.room (by decide) (by decide) (by decide) (by decide) (fun r_ τ_ hQ => ?_)
  obtain ⟨rfl, ht_⟩ := hQ; have ht_ := ht_.symm; subst ht_
  show J_ Γ 8 [(0, vr (some a0)), (1, vi (x1)), (2, vi (x2)), (3, vi (x3)), (4, vi (x4)), (5, vi (x5))] [vi (p2), vi (p1)] σ 0 0
  refine J_iadd (q := 9) C0 dX11_feed_8 rfl ?_
  refine J_iload_n (q := 10) C0 3 rfl rfl dX11_feed_9 rfl ?_
  refine K_some hf (fun p3 hp3 hf => ?_)
  refine J_callS (q := 13) (as := [vi (x3)]) (rest := [vi ((p1) + (p2))]) C0 (t_X11_bytesIn N (x3)  hp3) ml_X11_bytesIn lk_X11_111 sm_X11_bytesIn dX11_feed_10 rfl rfl rfl (by simp [ac_]) C1.room (by decide) (by decide) (by decide) (by decide) (fun r_ τ_ hQ => ?_)
  obtain ⟨rfl, ht_⟩ := hQ; have ht_ := ht_.symm; subst ht_
  show J_ Γ 13 [(0, vr (some a0)), (1, vi (x1)), (2, vi (x2)), (3, vi (x3)), (4, vi (x4)), (5, vi (x5))] [vi (p3), vi ((p1) + (p2))] σ 0 0
  refine J_iadd (q := 14) C0 dX11_feed_13 rfl ?_
  refine J_iload (q := 16) C0 4 rfl dX11_feed_14 rfl ?_
  refine K_some hf (fun p4 hp4 hf => ?_)
  refine J_callS (q := 19) (as := [vi (x4)]) (rest := [vi (((p1) + (p2)) + (p3))]) C0 (t_X11_bytesIn N (x4)  hp4) ml_X11_bytesIn lk_X11_111 sm_X11_bytesIn dX11_feed_16 rfl rfl rfl (by simp [ac_]) C1.room (by decide) (by decide) (by decide) (by decide) (fun r_ τ_ hQ => ?_)
  obtain ⟨rfl, ht_⟩ := hQ; have ht_ := ht_.symm; subst ht_
  show J_ Γ 19 [(0, vr (some a0)), (1, vi (x1)), (2, vi (x2)), (3, vi (x3)), (4, vi (x4)), (5, vi (x5))] [vi (p4), vi (((p1) + (p2)) + (p3))] σ 0 0
  refine J_iadd (q := 20) C0 dX11_feed_19 rfl ?_
  refine J_iload (q := 22) C0 5 rfl dX11_feed_20 rfl ?_
  refine K_some hf (fun p5 hp5 hf => ?_)
  refine J_callS (q := 25) (as := [vi (x5)]) (rest := [vi ((((p1) + (p2)) + (p3)) + (p4))]) C0 (t_X11_bytesIn N (x5)  hp5) ml_X11_bytesIn lk_X11_111 sm_X11_bytesIn dX11_feed_22 rfl rfl rfl (by simp [ac_]) C1.room (by decide) (by decide) (by decide) (by decide) (fun r_ τ_ hQ => ?_)
  obtain ⟨rfl, ht_⟩ := hQ; have ht_ := ht_.symm; subst ht_
  show J_ Γ 25 [(0, vr (some a0)), (1, vi (x1)), (2, vi (x2)), (3, vi (x3)), (4, vi (x4)), (5, vi (x5))] [vi (p5), vi ((((p1) + (p2)) + (p3)) + (p4))] σ 0 0
  refine J_iadd (q := 26) C0 dX11_feed_25 rfl ?_
  refine J_istore (q := 28) (lv' := [(6, vi (((((p1) + (p2)) + (p3)) + (p4)) + (p5))), (0, vr (some a0)), (1, vi (x1)), (2, vi (x2)), (3, vi (x3)), (4, vi (x4)), (5, vi (x5))]) C0 (G_nl C1 (by decide)) dX11_feed_26 rfl rfl ?_
  refine J_aload_n (q := 29) C0 1 rfl rfl dX11_feed_28 rfl trivial ?_
  refine J_getI (q := 32) C0 fl_X11_13_10 rfl (h0) rfl dX11_feed_29 rfl ?_
  refine J_iload (q := 34) C0 0 rfl dX11_feed_32 rfl ?_
  refine J_iadd (q := 35) C0 dX11_feed_34 rfl ?_
  refine J_sipush (q := 38) (v := 240) C0 dX11_feed_35 rfl rfl ?_
  refine J_icmp_le (t := 43) (q := 41) C0 dX11_feed_38 (by decide) rfl hf (fun c6 hf => ?_) (fun c6 hf => ?_)
  · refine J_aload_n (q := 44) C0 1 rfl rfl dX11_feed_43 rfl trivial ?_
    refine J_iload_n (q := 45) C0 2 rfl rfl dX11_feed_44 rfl ?_
    refine K_some hf (fun p7 hp7 hf => ?_)
    refine J_callV (q := 48) (ci := 10) (as := [vi (x1)]) (rest := []) C0 rfl (h0) (t_X11_record N a0 (x1) (hT) (h0)  hp7) ml_X11_record lk_X11_115 im_X11_record se_X11_record rfl (by decide) dX11_feed_45 rfl rfl rfl (by simp [ac_]) C1.room (by decide) (by decide) (by decide) (by decide) (fun r_ τ_ hQ => ?_)
    obtain ⟨rfl, ht_, Tp7, Ep7⟩ := hQ; have ht_ := ht_.symm; subst ht_
    show J_ Γ 48 [(6, vi (((((p1) + (p2)) + (p3)) + (p4)) + (p5))), (0, vr (some a0)), (1, vi (x1)), (2, vi (x2)), (3, vi (x3)), (4, vi (x4)), (5, vi (x5))] [] p7 0 0
    refine J_aload_n (q := 49) C0 1 rfl rfl dX11_feed_48 rfl trivial ?_
    refine J_iload_n (q := 50) C0 3 rfl rfl dX11_feed_49 rfl ?_
    refine K_some hf (fun p8 hp8 hf => ?_)
    refine J_callV (q := 53) (ci := 10) (as := [vi (x2)]) (rest := []) C0 rfl ((Ep7.at h0)) (t_X11_record N a0 (x2) (Tp7) ((Ep7.at h0))  hp8) ml_X11_record lk_X11_115 im_X11_record se_X11_record rfl (by decide) dX11_feed_50 rfl rfl rfl (by simp [ac_]) C1.room (by decide) (by decide) (by decide) (by decide) (fun r_ τ_ hQ => ?_)
    obtain ⟨rfl, ht_, Tp8, Ep8⟩ := hQ; have ht_ := ht_.symm; subst ht_
    show J_ Γ 53 [(6, vi (((((p1) + (p2)) + (p3)) + (p4)) + (p5))), (0, vr (some a0)), (1, vi (x1)), (2, vi (x2)), (3, vi (x3)), (4, vi (x4)), (5, vi (x5))] [] p8 0 0
    refine J_aload_n (q := 54) C0 1 rfl rfl dX11_feed_53 rfl trivial ?_
    refine J_iload_n (q := 55) C0 4 rfl rfl dX11_feed_54 rfl ?_
    refine K_some hf (fun p9 hp9 hf => ?_)
    refine J_callV (q := 58) (ci := 10) (as := [vi (x3)]) (rest := []) C0 rfl ((Ep8.at (Ep7.at h0))) (t_X11_record N a0 (x3) (Tp8) ((Ep8.at (Ep7.at h0)))  hp9) ml_X11_record lk_X11_115 im_X11_record se_X11_record rfl (by decide) dX11_feed_55 rfl rfl rfl (by simp [ac_]) C1.room (by decide) (by decide) (by decide) (by decide) (fun r_ τ_ hQ => ?_)
    obtain ⟨rfl, ht_, Tp9, Ep9⟩ := hQ; have ht_ := ht_.symm; subst ht_
    show J_ Γ 58 [(6, vi (((((p1) + (p2)) + (p3)) + (p4)) + (p5))), (0, vr (some a0)), (1, vi (x1)), (2, vi (x2)), (3, vi (x3)), (4, vi (x4)), (5, vi (x5))] [] p9 0 0
    refine J_aload_n (q := 59) C0 1 rfl rfl dX11_feed_58 rfl trivial ?_
    refine J_iload (q := 61) C0 5 rfl dX11_feed_59 rfl ?_
    refine K_some hf (fun p10 hp10 hf => ?_)
    refine J_callV (q := 64) (ci := 10) (as := [vi (x4)]) (rest := []) C0 rfl ((Ep9.at (Ep8.at (Ep7.at h0)))) (t_X11_record N a0 (x4) (Tp9) ((Ep9.at (Ep8.at (Ep7.at h0))))  hp10) ml_X11_record lk_X11_115 im_X11_record se_X11_record rfl (by decide) dX11_feed_61 rfl rfl rfl (by simp [ac_]) C1.room (by decide) (by decide) (by decide) (by decide) (fun r_ τ_ hQ => ?_)
    obtain ⟨rfl, ht_, Tp10, Ep10⟩ := hQ; have ht_ := ht_.symm; subst ht_
    show J_ Γ 64 [(6, vi (((((p1) + (p2)) + (p3)) + (p4)) + (p5))), (0, vr (some a0)), (1, vi (x1)), (2, vi (x2)), (3, vi (x3)), (4, vi (x4)), (5, vi (x5))] [] p10 0 0
    refine J_aload_n (q := 65) C0 1 rfl rfl dX11_feed_64 rfl trivial ?_
    refine J_iload (q := 67) C0 6 rfl dX11_feed_65 rfl ?_
    refine K_some hf (fun p11 hp11 hf => ?_)
    refine J_callV (q := 70) (ci := 10) (as := [vi (x5)]) (rest := []) C0 rfl ((Ep10.at (Ep9.at (Ep8.at (Ep7.at h0))))) (t_X11_record N a0 (x5) (Tp10) ((Ep10.at (Ep9.at (Ep8.at (Ep7.at h0)))))  hp11) ml_X11_record lk_X11_115 im_X11_record se_X11_record rfl (by decide) dX11_feed_67 rfl rfl rfl (by simp [ac_]) C1.room (by decide) (by decide) (by decide) (by decide) (fun r_ τ_ hQ => ?_)
    obtain ⟨rfl, ht_, Tp11, Ep11⟩ := hQ; have ht_ := ht_.symm; subst ht_
    show J_ Γ 70 [(6, vi (((((p1) + (p2)) + (p3)) + (p4)) + (p5))), (0, vr (some a0)), (1, vi (x1)), (2, vi (x2)), (3, vi (x3)), (4, vi (x4)), (5, vi (x5))] [] p11 0 0
    refine J_aload_n (q := 71) C0 1 rfl rfl dX11_feed_70 rfl trivial ?_
    refine J_getI (q := 74) C0 fl_X11_13_10 rfl ((Ep11.at (Ep10.at (Ep9.at (Ep8.at (Ep7.at h0)))))) rfl dX11_feed_71 rfl ?_
    obtain rfl := Option.some.inj hf; exact J_iret C1 dX11_feed_74 rfl (Nat.zero_le _) (Nat.zero_le _) ⟨rfl, rfl, Tp11, (((((hE).tr Ep7).tr Ep8).tr Ep9).tr Ep10).tr Ep11⟩
  · refine J_iconst (q := 42) (v := (-1)) C0 dX11_feed_41 rfl rfl ?_
    obtain rfl := Option.some.inj hf; exact J_iret C1 dX11_feed_42 rfl (Nat.zero_le _) (Nat.zero_le _) ⟨rfl, rfl, hT, hE⟩
def f_X11_end (a0 : Nat) (x1 : Int32) (σ : Sg) : Option (Int32 × Sg) :=
  if (x1) < (0) then
  (some (0, σ))
  else
  (if (sg_I σ a0 1) < (x1) then
  (some (0, σ))
  else
  (some (1, put_I σ a0 1 (x1))))
set_option maxHeartbeats 4000000 in
set_option maxRecDepth 100000 in
theorem t_X11_end (a0 : Nat) (x1 : Int32) {σ : Sg} (hT : sg_T σ) (h0 : is_A σ a0 10) {r : (Int32 × Sg)} (hf : f_X11_end a0 x1 σ = some r) : Ct yX11_end cX11_end 2 (some .boolean) 0 0 0 0 [vr (some a0), vi x1] σ (fun r_ τ_ => (r_ = some (vi r.1) ∧ (r.1 = 0 ∨ r.1 = 1)) ∧ τ_ = r.2 ∧ sg_T τ_ ∧ sg_E σ τ_) := by
  refine Ct.of (by decide +kernel) (Nat.le_of_ble_eq_true rfl) (fun Γ C1 => ?_)
  have C0 := C1.1
  have hE : sg_E σ σ := sg_E.rf
  unfold f_X11_end at hf
  show J_ Γ 0 [(0, vr (some a0)), (1, vi (x1))] [] σ 0 0
  refine J_iload_n (q := 1) C0 1 rfl rfl dX11_end_0 rfl ?_
  refine J_if_lt (t := 12) (q := 4) C0 dX11_end_1 (by decide) rfl hf (fun c1 hf => ?_) (fun c1 hf => ?_)
  · refine J_iconst (q := 13) (v := 0) C0 dX11_end_12 rfl rfl ?_
    obtain rfl := Option.some.inj hf; exact J_zret C1 dX11_end_13 rfl (Or.inl rfl) (Nat.zero_le _) (Nat.zero_le _) ⟨⟨rfl, (Or.inl rfl)⟩, rfl, hT, hE⟩
  · refine J_iload_n (q := 5) C0 1 rfl rfl dX11_end_4 rfl ?_
    refine J_aload_n (q := 6) C0 0 rfl rfl dX11_end_5 rfl trivial ?_
    refine J_getI (q := 9) C0 fl_X11_13_10 rfl (h0) rfl dX11_end_6 rfl ?_
    refine J_icmp_le (t := 14) (q := 12) C0 dX11_end_9 (by decide) rfl hf (fun c2 hf => ?_) (fun c2 hf => ?_)
    · refine J_aload_n (q := 15) C0 0 rfl rfl dX11_end_14 rfl trivial ?_
      refine J_iload_n (q := 16) C0 1 rfl rfl dX11_end_15 rfl ?_
      refine J_putI (q := 19) C0 fl_X11_13_10 rfl (h0) rfl dX11_end_16 rfl ?_
      refine J_iconst (q := 20) (v := 1) C0 dX11_end_19 rfl rfl ?_
      obtain rfl := Option.some.inj hf; exact J_zret C1 dX11_end_20 rfl (Or.inr rfl) (Nat.zero_le _) (Nat.zero_le _) ⟨⟨rfl, (Or.inr rfl)⟩, rfl, (hT).putI, (hE).putI⟩
    · refine J_iconst (q := 13) (v := 0) C0 dX11_end_12 rfl rfl ?_
      obtain rfl := Option.some.inj hf; exact J_zret C1 dX11_end_13 rfl (Or.inl rfl) (Nat.zero_le _) (Nat.zero_le _) ⟨⟨rfl, (Or.inl rfl)⟩, rfl, hT, hE⟩
def f_X11_isStrip (a0 : Nat) (x1 : Int32) (σ : Sg) : Option Int32 :=
  if (x1) < (0) then
  (some (0))
  else
  (if (x1) < (sg_I σ a0 9) then
  (Option.bind (sg_R σ a0 8) fun b3 =>
  if (x1) < 0 ∨ sg_L σ b3 ≤ (x1).toNatClampNeg then none else
  match sg_R σ b3 (x1).toNatClampNeg with
  | none => (some (0))
  | some b5 => (some (1)))
  else
  (some (0)))
set_option maxHeartbeats 4000000 in
set_option maxRecDepth 100000 in
theorem t_X11_isStrip (a0 : Nat) (x1 : Int32) {σ : Sg} (hT : sg_T σ) (h0 : is_A σ a0 10) {r : Int32} (hf : f_X11_isStrip a0 x1 σ = some r) : Ct yX11_isStrip cX11_isStrip 2 (some .boolean) 0 0 0 0 [vr (some a0), vi x1] σ (fun r_ τ_ => (r_ = some (vi r) ∧ (r = 0 ∨ r = 1)) ∧ τ_ = σ) := by
  refine Ct.of (by decide +kernel) (Nat.le_of_ble_eq_true rfl) (fun Γ C1 => ?_)
  have C0 := C1.1
  unfold f_X11_isStrip at hf
  show J_ Γ 0 [(0, vr (some a0)), (1, vi (x1))] [] σ 0 0
  refine J_iload_n (q := 1) C0 1 rfl rfl dX11_isStrip_0 rfl ?_
  refine J_if_lt (t := 25) (q := 4) C0 dX11_isStrip_1 (by decide) rfl hf (fun c1 hf => ?_) (fun c1 hf => ?_)
  · refine J_iconst (q := 26) (v := 0) C0 dX11_isStrip_25 rfl rfl ?_
    obtain rfl := Option.some.inj hf; exact J_zret C1 dX11_isStrip_26 rfl (Or.inl rfl) (Nat.zero_le _) (Nat.zero_le _) ⟨⟨rfl, (Or.inl rfl)⟩, rfl⟩
  · refine J_iload_n (q := 5) C0 1 rfl rfl dX11_isStrip_4 rfl ?_
    refine J_aload_n (q := 6) C0 0 rfl rfl dX11_isStrip_5 rfl trivial ?_
    refine J_getI (q := 9) C0 fl_X11_56_10 rfl (h0) rfl dX11_isStrip_6 rfl ?_
    refine J_icmp_ge (t := 25) (q := 12) C0 dX11_isStrip_9 (by decide) rfl hf (fun c2 hf => ?_) (fun c2 hf => ?_)
    · refine J_iconst (q := 26) (v := 0) C0 dX11_isStrip_25 rfl rfl ?_
      obtain rfl := Option.some.inj hf; exact J_zret C1 dX11_isStrip_26 rfl (Or.inl rfl) (Nat.zero_le _) (Nat.zero_le _) ⟨⟨rfl, (Or.inl rfl)⟩, rfl⟩
    · refine J_aload_n (q := 13) C0 0 rfl rfl dX11_isStrip_12 rfl trivial ?_
      refine J_getR (q := 16) C0 fl_X11_52_10 rfl (h0) rfl dX11_isStrip_13 rfl ?_
      refine J_iload_n (q := 17) C0 1 rfl rfl dX11_isStrip_16 rfl ?_
      refine K_some hf (fun b3 hb3 hf => ?_)
      have ab3 : is_A σ b3 17 := ((sg_T.op hT (j := 8) (h0) rfl)) b3 hb3
      refine K_chk hf (fun c4 hf => ?_)
      refine J_aald (q := 18) C0 hb3 (ab3) (by decide) c4 dX11_isStrip_17 rfl ?_
      refine J_ifnull (t := 25) (q := 21) C0 dX11_isStrip_18 (by decide) rfl (fun hn6 => ?_) (fun b5 hn6 => ?_)
      · rw [hn6] at hf
        refine J_iconst (q := 26) (v := 0) C0 dX11_isStrip_25 rfl rfl ?_
        obtain rfl := Option.some.inj hf; exact J_zret C1 dX11_isStrip_26 rfl (Or.inl rfl) (Nat.zero_le _) (Nat.zero_le _) ⟨⟨rfl, (Or.inl rfl)⟩, rfl⟩
      · rw [hn6] at hf
        refine J_iconst (q := 22) (v := 1) C0 dX11_isStrip_21 rfl rfl ?_
        refine J_goto (q := 26) C0 dX11_isStrip_22 (by decide) ?_
        obtain rfl := Option.some.inj hf; exact J_zret C1 dX11_isStrip_26 rfl (Or.inr rfl) (Nat.zero_le _) (Nat.zero_le _) ⟨⟨rfl, (Or.inr rfl)⟩, rfl⟩
def f_X11_stripOf (a0 : Nat) (e1 : Option Nat) (σ : Sg) : Option (Option Nat) :=
  Option.bind (e1) fun b1 =>
  Option.bind (f_X11_isStrip a0 (sg_I σ b1 3) σ) fun p2 =>
  if (p2) = (0) then
  (some (sg_R σ a0 10))
  else
  (Option.bind (sg_R σ a0 8) fun b4 =>
  if (sg_I σ b1 3) < 0 ∨ sg_L σ b4 ≤ (sg_I σ b1 3).toNatClampNeg then none else
  some (sg_R σ b4 (sg_I σ b1 3).toNatClampNeg))
set_option maxHeartbeats 4000000 in
set_option maxRecDepth 100000 in
theorem t_X11_stripOf (a0 : Nat) (e1 : Option Nat) {σ : Sg} (hT : sg_T σ) (h0 : is_A σ a0 10) (g1 : is_O σ e1 9) {r : (Option Nat)} (hf : f_X11_stripOf a0 e1 σ = some r) : Ct yX11_stripOf cX11_stripOf 2 (some (.object "SlitDrum$Strip")) 1 21 0 0 [vr (some a0), vr e1] σ (fun r_ τ_ => (r_ = some (vr r) ∧ is_O τ_ r 7) ∧ τ_ = σ) := by
  refine Ct.of (by decide +kernel) (Nat.le_of_ble_eq_true rfl) (fun Γ C1 => ?_)
  have C0 := C1.1
  unfold f_X11_stripOf at hf
  show J_ Γ 0 [(0, vr (some a0)), (1, vr (e1))] [] σ 0 0
  refine J_aload_n (q := 1) C0 0 rfl rfl dX11_stripOf_0 rfl trivial ?_
  refine J_aload_n (q := 2) C0 1 rfl rfl dX11_stripOf_1 rfl trivial ?_
  refine K_some hf (fun b1 hb1 hf => ?_)
  have ab1 : is_A σ b1 9 := (g1) b1 hb1
  refine J_getI (q := 5) C0 fl_X11_212_9 hb1 (ab1) rfl dX11_stripOf_2 rfl ?_
  refine K_some hf (fun p2 hp2 hf => ?_)
  refine J_callV (q := 8) (ci := 10) (as := [vi (sg_I σ b1 3)]) (rest := []) C0 rfl (h0) (t_X11_isStrip a0 (sg_I σ b1 3) (hT) (h0)  hp2) ml_X11_isStrip lk_X11_221 im_X11_isStrip se_X11_isStrip rfl (by decide) dX11_stripOf_5 rfl rfl rfl (by simp [ac_]) C1.room (by decide) (by decide) (by decide) (by decide) (fun r_ τ_ hQ => ?_)
  obtain ⟨⟨rfl, zp2⟩, ht_⟩ := hQ; have ht_ := ht_.symm; subst ht_
  show J_ Γ 8 [(0, vr (some a0)), (1, vr (e1))] [vi (p2)] σ 0 0
  refine J_if_eq (t := 23) (q := 11) C0 dX11_stripOf_8 (by decide) rfl hf (fun c3 hf => ?_) (fun c3 hf => ?_)
  · refine J_aload_n (q := 24) C0 0 rfl rfl dX11_stripOf_23 rfl trivial ?_
    refine J_getR (q := 27) C0 fl_X11_62_10 rfl (h0) rfl dX11_stripOf_24 rfl ?_
    have io9 : is_O σ (sg_R σ a0 10) 7 := (sg_T.op hT (j := 10) (h0) rfl); obtain rfl := Option.some.inj hf; exact J_aret C1 dX11_stripOf_27 rfl (Or.inl ⟨_, rfl⟩) (Nat.zero_le _) (Nat.zero_le _) ⟨⟨rfl, io9⟩, rfl⟩
  · refine J_aload_n (q := 12) C0 0 rfl rfl dX11_stripOf_11 rfl trivial ?_
    refine J_getR (q := 15) C0 fl_X11_52_10 rfl (h0) rfl dX11_stripOf_12 rfl ?_
    refine J_aload_n (q := 16) C0 1 rfl rfl dX11_stripOf_15 rfl trivial ?_
    refine J_getI (q := 19) C0 fl_X11_212_9 hb1 (ab1) rfl dX11_stripOf_16 rfl ?_
    refine K_some hf (fun b4 hb4 hf => ?_)
    have ab4 : is_A σ b4 17 := ((sg_T.op hT (j := 8) (h0) rfl)) b4 hb4
    refine K_chk hf (fun c5 hf => ?_)
    refine J_aald (q := 20) C0 hb4 (ab4) (by decide) c5 dX11_stripOf_19 rfl ?_
    refine J_goto (q := 27) C0 dX11_stripOf_20 (by decide) ?_
    have io9 : is_O σ (sg_R σ b4 (sg_I σ b1 3).toNatClampNeg) 7 := (sg_T.op hT (j := (sg_I σ b1 3).toNatClampNeg) (ab4) rfl); obtain rfl := Option.some.inj hf; exact J_aret C1 dX11_stripOf_27 rfl (Or.inl ⟨_, rfl⟩) (Nat.zero_le _) (Nat.zero_le _) ⟨⟨rfl, io9⟩, rfl⟩
def f_X11_tellLantern_L13 (N : Nat) (a0 : Nat) : Nat → Int32 → Sg → Option (Int32 × Sg)
  | 0, _, _ => none
  | n + 1, v1, σ =>
  Option.bind (sg_R σ a0 13) fun b3 =>
  if (v1) < (sg_I σ b3 1) then
  (Option.bind (sg_R σ b3 0) fun b10 =>
  if (v1) < 0 ∨ sg_L σ b10 ≤ (v1).toNatClampNeg then none else
  Option.bind (sg_R σ b10 (v1).toNatClampNeg) fun b12 =>
  Option.bind (f_X11_stripOf a0 (sg_R σ b10 (v1).toNatClampNeg) σ) fun p13 =>
  Option.bind (p13) fun b14 =>
  Option.bind (f_X8_size b14  σ) fun p15 =>
  Option.bind (f_X11_round (sg_I σ b12 2) (p15) ) fun p16 =>
  f_X11_tellLantern_L13 N a0 n (v1 + 1) (put_I σ b12 2 (p16)))
  else
  (Option.bind (sg_R σ a0 14) fun b5 =>
  Option.bind (f_X5_clear b5  σ) fun p6 =>
  Option.bind (sg_R p6 a0 17) fun b7 =>
  Option.bind (f_X4_clear b7  p6) fun p8 =>
  Option.bind (sg_R (put_I p8 a0 16 (0)) a0 13) fun b9 =>
  some (sg_I (put_I p8 a0 16 (0)) b9 1, put_I p8 a0 16 (0)))
def f_X11_tellLantern (N : Nat) (a0 : Nat) (σ : Sg) : Option (Int32 × Sg) :=
  Option.bind (sg_R σ a0 2) fun b1 =>
  Option.bind (f_X1_tell N b1 (sg_R σ a0 13) σ) fun p2 =>
  f_X11_tellLantern_L13 N a0 N (0) (p2)
set_option maxHeartbeats 4000000 in
set_option maxRecDepth 100000 in
theorem t_X11_tellLantern_L13 {N : Nat} {a0 : Nat} {Γ : Gm} {σ0 : Sg} {r : (Int32 × Sg)} (C1 : CM Γ cX11_tellLantern RX11 3 (some .int) 2 43 0 0 (fun r_ τ_ => (r_ = some (vi r.1)) ∧ τ_ = r.2 ∧ sg_T τ_ ∧ sg_E σ0 τ_)) : ∀ (n : Nat) (v1 : Int32) (σ : Sg), sg_T σ → sg_E σ0 σ → is_A σ a0 10 → f_X11_tellLantern_L13 N a0  n v1 σ = some r → J_ Γ 13 [(0, vr (some a0)), (1, vi (v1))] [] σ 0 0 := by
  have C0 := C1.1
  intro n
  induction n with
  | zero => intro v1 σ hT hE h0  hf; unfold f_X11_tellLantern_L13 at hf; cases hf
  | succ n ih =>
    intro v1 σ hT hE h0  hf
    rw [f_X11_tellLantern_L13] at hf
    refine J_iload_n (q := 14) C0 1 rfl rfl dX11_tellLantern_13 rfl ?_
    refine J_aload_n (q := 15) C0 0 rfl rfl dX11_tellLantern_14 rfl trivial ?_
    refine J_getR (q := 18) C0 fl_X11_75_10 rfl (h0) rfl dX11_tellLantern_15 rfl ?_
    refine K_some hf (fun b3 hb3 hf => ?_)
    have ab3 : is_A σ b3 6 := ((sg_T.op hT (j := 13) (h0) rfl)) b3 hb3
    refine J_getI (q := 21) C0 fl_X11_150_6 hb3 (ab3) rfl dX11_tellLantern_18 rfl ?_
    refine J_icmp_ge (t := 59) (q := 24) C0 dX11_tellLantern_21 (by decide) rfl hf (fun c4 hf => ?_) (fun c4 hf => ?_)
    · refine J_aload_n (q := 60) C0 0 rfl rfl dX11_tellLantern_59 rfl trivial ?_
      refine J_getR (q := 63) C0 fl_X11_82_10 rfl (h0) rfl dX11_tellLantern_60 rfl ?_
      refine K_some hf (fun b5 hb5 hf => ?_)
      have ab5 : is_A σ b5 5 := ((sg_T.op hT (j := 14) (h0) rfl)) b5 hb5
      refine K_some hf (fun p6 hp6 hf => ?_)
      refine J_callV (q := 66) (ci := 5) (as := []) (rest := []) C0 hb5 (ab5) (t_X5_clear b5  (hT) (ab5)  hp6) ml_X5_clear lk_X11_173 im_X5_clear se_X5_clear rfl (by decide) dX11_tellLantern_63 rfl rfl rfl (by simp [ac_]) C1.room (by decide) (by decide) (by decide) (by decide) (fun r_ τ_ hQ => ?_)
      obtain ⟨rfl, ht_, Tp6, Ep6⟩ := hQ; have ht_ := ht_.symm; subst ht_
      show J_ Γ 66 [(0, vr (some a0)), (1, vi (v1))] [] p6 0 0
      refine J_aload_n (q := 67) C0 0 rfl rfl dX11_tellLantern_66 rfl trivial ?_
      refine J_getR (q := 70) C0 fl_X11_96_10 rfl ((Ep6.at h0)) rfl dX11_tellLantern_67 rfl ?_
      refine K_some hf (fun b7 hb7 hf => ?_)
      have ab7 : is_A p6 b7 4 := ((sg_T.op Tp6 (j := 17) ((Ep6.at h0)) rfl)) b7 hb7
      refine K_some hf (fun p8 hp8 hf => ?_)
      refine J_callV (q := 73) (ci := 4) (as := []) (rest := []) C0 hb7 (ab7) (t_X4_clear b7  (Tp6) (ab7)  hp8) ml_X4_clear lk_X11_176 im_X4_clear se_X4_clear rfl (by decide) dX11_tellLantern_70 rfl rfl rfl (by simp [ac_]) C1.room (by decide) (by decide) (by decide) (by decide) (fun r_ τ_ hQ => ?_)
      obtain ⟨rfl, ht_, Tp8, Ep8⟩ := hQ; have ht_ := ht_.symm; subst ht_
      show J_ Γ 73 [(0, vr (some a0)), (1, vi (v1))] [] p8 0 0
      refine J_aload_n (q := 74) C0 0 rfl rfl dX11_tellLantern_73 rfl trivial ?_
      refine J_iconst (q := 75) (v := 0) C0 dX11_tellLantern_74 rfl rfl ?_
      refine J_putZ (q := 78) C0 (Or.inl rfl) fl_X11_89_10 rfl ((Ep8.at (Ep6.at h0))) rfl dX11_tellLantern_75 rfl ?_
      refine J_aload_n (q := 79) C0 0 rfl rfl dX11_tellLantern_78 rfl trivial ?_
      refine J_getR (q := 82) C0 fl_X11_75_10 rfl (((Ep8.at (Ep6.at h0))).putI) rfl dX11_tellLantern_79 rfl ?_
      refine K_some hf (fun b9 hb9 hf => ?_)
      have ab9 : is_A (put_I p8 a0 16 (0)) b9 6 := ((sg_T.op (Tp8).putI (j := 13) (((Ep8.at (Ep6.at h0))).putI) rfl)) b9 hb9
      refine J_getI (q := 85) C0 fl_X11_150_6 hb9 (ab9) rfl dX11_tellLantern_82 rfl ?_
      obtain rfl := Option.some.inj hf; exact J_iret C1 dX11_tellLantern_85 rfl (Nat.zero_le _) (Nat.zero_le _) ⟨rfl, rfl, (Tp8).putI, (((hE).tr Ep6).tr Ep8).putI⟩
    · refine J_aload_n (q := 25) C0 0 rfl rfl dX11_tellLantern_24 rfl trivial ?_
      refine J_getR (q := 28) C0 fl_X11_75_10 rfl (h0) rfl dX11_tellLantern_25 rfl ?_
      refine J_getR (q := 31) C0 fl_X11_153_6 hb3 (ab3) rfl dX11_tellLantern_28 rfl ?_
      refine J_iload_n (q := 32) C0 1 rfl rfl dX11_tellLantern_31 rfl ?_
      refine K_some hf (fun b10 hb10 hf => ?_)
      have ab10 : is_A σ b10 18 := ((sg_T.op hT (j := 0) (ab3) rfl)) b10 hb10
      refine K_chk hf (fun c11 hf => ?_)
      refine J_aald (q := 33) C0 hb10 (ab10) (by decide) c11 dX11_tellLantern_32 rfl ?_
      refine J_astore_n (q := 34) (lv' := [(2, vr (sg_R σ b10 (v1).toNatClampNeg)), (0, vr (some a0)), (1, vi (v1))]) C0 rfl (G_nl C1 (by decide)) dX11_tellLantern_33 rfl trivial rfl ?_
      refine J_aload_n (q := 35) C0 0 rfl rfl dX11_tellLantern_34 rfl trivial ?_
      refine J_aload_n (q := 36) C0 0 rfl rfl dX11_tellLantern_35 rfl trivial ?_
      refine K_some hf (fun b12 hb12 hf => ?_)
      have ab12 : is_A σ b12 9 := ((sg_T.op hT (j := (v1).toNatClampNeg) (ab10) rfl)) b12 hb12
      refine J_getI (q := 39) C0 fl_X11_157_9 hb12 (ab12) rfl dX11_tellLantern_36 rfl ?_
      refine J_aload_n (q := 40) C0 1 rfl rfl dX11_tellLantern_39 rfl trivial ?_
      refine J_aload_n (q := 41) C0 0 rfl rfl dX11_tellLantern_40 rfl trivial ?_
      refine K_some hf (fun p13 hp13 hf => ?_)
      refine J_callV (q := 44) (ci := 10) (as := [vr (sg_R σ b10 (v1).toNatClampNeg)]) (rest := [vi (sg_I σ b12 2), vr (sg_R σ b10 (v1).toNatClampNeg)]) C0 rfl (h0) (t_X11_stripOf a0 (sg_R σ b10 (v1).toNatClampNeg) (hT) (h0) ((by rw [hb12]; exact is_O.some (ab12))) hp13) ml_X11_stripOf lk_X11_162 im_X11_stripOf se_X11_stripOf rfl (by decide) dX11_tellLantern_41 rfl rfl rfl (by simp [ac_]) C1.room (by decide) (by decide) (by decide) (by decide) (fun r_ τ_ hQ => ?_)
      obtain ⟨⟨rfl, op13⟩, ht_⟩ := hQ; have ht_ := ht_.symm; subst ht_
      show J_ Γ 44 [(2, vr (sg_R σ b10 (v1).toNatClampNeg)), (0, vr (some a0)), (1, vi (v1))] [vr (p13), vi (sg_I σ b12 2), vr (sg_R σ b10 (v1).toNatClampNeg)] σ 0 0
      refine K_some hf (fun b14 hb14 hf => ?_)
      have ab14 : is_A σ b14 7 := (op13) b14 hb14
      refine K_some hf (fun p15 hp15 hf => ?_)
      refine J_callV (q := 47) (ci := 7) (as := []) (rest := [vi (sg_I σ b12 2), vr (sg_R σ b10 (v1).toNatClampNeg)]) C0 hb14 (ab14) (t_X8_size b14  (hT) (ab14)  hp15) ml_X8_size lk_X11_166 im_X8_size se_X8_size rfl (by decide) dX11_tellLantern_44 rfl rfl rfl (by simp [ac_]) C1.room (by decide) (by decide) (by decide) (by decide) (fun r_ τ_ hQ => ?_)
      obtain ⟨rfl, ht_⟩ := hQ; have ht_ := ht_.symm; subst ht_
      show J_ Γ 47 [(2, vr (sg_R σ b10 (v1).toNatClampNeg)), (0, vr (some a0)), (1, vi (v1))] [vi (p15), vi (sg_I σ b12 2), vr (sg_R σ b10 (v1).toNatClampNeg)] σ 0 0
      refine K_some hf (fun p16 hp16 hf => ?_)
      refine J_callS (q := 50) (as := [vi (sg_I σ b12 2), vi (p15)]) (rest := [vr (sg_R σ b10 (v1).toNatClampNeg)]) C0 (t_X11_round (sg_I σ b12 2) (p15)  hp16) ml_X11_round lk_X11_169 sm_X11_round dX11_tellLantern_47 rfl rfl rfl (by simp [ac_]) C1.room (by decide) (by decide) (by decide) (by decide) (fun r_ τ_ hQ => ?_)
      obtain ⟨rfl, ht_⟩ := hQ; have ht_ := ht_.symm; subst ht_
      show J_ Γ 50 [(2, vr (sg_R σ b10 (v1).toNatClampNeg)), (0, vr (some a0)), (1, vi (v1))] [vi (p16), vr (sg_R σ b10 (v1).toNatClampNeg)] σ 0 0
      refine J_putI (q := 53) C0 fl_X11_157_9 hb12 (ab12) rfl dX11_tellLantern_50 rfl ?_
      refine J_iinc (q := 56) (v := v1 + 1) (lv' := [(1, vi (v1 + 1)), (2, vr (sg_R σ b10 (v1).toNatClampNeg)), (0, vr (some a0))]) C0 2 rfl rfl (G_nl C1 (by decide)) dX11_tellLantern_53 rfl rfl ?_
      refine J_goto (q := 13) C0 dX11_tellLantern_56 (by decide) ?_
      refine J_sub (lv' := [(0, vr (some a0)), (1, vi (v1 + 1))]) [2, 0] rfl ?_
      exact ih (v1 + 1) (put_I σ b12 2 (p16)) ((hT).putI) ((hE).putI) ((h0).putI)  hf
set_option maxHeartbeats 4000000 in
set_option maxRecDepth 100000 in
theorem t_X11_tellLantern (N : Nat) (a0 : Nat) {σ : Sg} (hT : sg_T σ) (h0 : is_A σ a0 10) {r : (Int32 × Sg)} (hf : f_X11_tellLantern N a0  σ = some r) : Ct yX11_tellLantern cX11_tellLantern 3 (some .int) 2 43 0 0 [vr (some a0)] σ (fun r_ τ_ => (r_ = some (vi r.1)) ∧ τ_ = r.2 ∧ sg_T τ_ ∧ sg_E σ τ_) := by
  refine Ct.of (by decide +kernel) (Nat.le_of_ble_eq_true rfl) (fun Γ C1 => ?_)
  have C0 := C1.1
  have hE : sg_E σ σ := sg_E.rf
  unfold f_X11_tellLantern at hf
  show J_ Γ 0 [(0, vr (some a0))] [] σ 0 0
  refine J_aload_n (q := 1) C0 0 rfl rfl dX11_tellLantern_0 rfl trivial ?_
  refine J_getR (q := 4) C0 fl_X11_20_10 rfl (h0) rfl dX11_tellLantern_1 rfl ?_
  refine J_aload_n (q := 5) C0 0 rfl rfl dX11_tellLantern_4 rfl trivial ?_
  refine J_getR (q := 8) C0 fl_X11_75_10 rfl (h0) rfl dX11_tellLantern_5 rfl ?_
  refine K_some hf (fun b1 hb1 hf => ?_)
  have ab1 : is_A σ b1 1 := ((sg_T.op hT (j := 2) (h0) rfl)) b1 hb1
  refine K_some hf (fun p2 hp2 hf => ?_)
  refine J_callV (q := 11) (ci := 1) (as := [vr (sg_R σ a0 13)]) (rest := []) C0 hb1 (ab1) (t_X1_tell N b1 (sg_R σ a0 13) (hT) (ab1) ((sg_T.op hT (j := 13) (h0) rfl)) hp2) ml_X1_tell lk_X11_146 im_X1_tell se_X1_tell rfl (by decide) dX11_tellLantern_8 rfl rfl rfl (by simp [ac_]) C1.room (by decide) (by decide) (by decide) (by decide) (fun r_ τ_ hQ => ?_)
  obtain ⟨rfl, ht_, Tp2, Ep2⟩ := hQ; have ht_ := ht_.symm; subst ht_
  show J_ Γ 11 [(0, vr (some a0))] [] p2 0 0
  refine J_iconst (q := 12) (v := 0) C0 dX11_tellLantern_11 rfl rfl ?_
  refine J_istore_n (q := 13) (lv' := [(1, vi (0)), (0, vr (some a0))]) C0 rfl (G_nl C1 (by decide)) dX11_tellLantern_12 rfl rfl ?_
  refine J_sub (lv' := [(0, vr (some a0)), (1, vi (0))]) [1, 0] rfl ?_
  exact t_X11_tellLantern_L13 C1    N (0) (p2) (Tp2) ((hE).tr Ep2) ((Ep2.at h0))  hf
def f_X11_isLit (a0 : Nat) (σ : Sg) : Option Int32 :=
  Option.bind (sg_R σ a0 13) fun b1 =>
  if (0) < (sg_I σ b1 1) then
  (some (1))
  else
  (some (0))
set_option maxHeartbeats 4000000 in
set_option maxRecDepth 100000 in
theorem t_X11_isLit (a0 : Nat) {σ : Sg} (hT : sg_T σ) (h0 : is_A σ a0 10) {r : Int32} (hf : f_X11_isLit a0  σ = some r) : Ct yX11_isLit cX11_isLit 1 (some .boolean) 0 0 0 0 [vr (some a0)] σ (fun r_ τ_ => (r_ = some (vi r) ∧ (r = 0 ∨ r = 1)) ∧ τ_ = σ) := by
  refine Ct.of (by decide +kernel) (Nat.le_of_ble_eq_true rfl) (fun Γ C1 => ?_)
  have C0 := C1.1
  unfold f_X11_isLit at hf
  show J_ Γ 0 [(0, vr (some a0))] [] σ 0 0
  refine J_aload_n (q := 1) C0 0 rfl rfl dX11_isLit_0 rfl trivial ?_
  refine J_getR (q := 4) C0 fl_X11_75_10 rfl (h0) rfl dX11_isLit_1 rfl ?_
  refine K_some hf (fun b1 hb1 hf => ?_)
  have ab1 : is_A σ b1 6 := ((sg_T.op hT (j := 13) (h0) rfl)) b1 hb1
  refine J_getI (q := 7) C0 fl_X11_150_6 hb1 (ab1) rfl dX11_isLit_4 rfl ?_
  refine J_if_le (t := 14) (q := 10) C0 dX11_isLit_7 (by decide) rfl hf (fun c2 hf => ?_) (fun c2 hf => ?_)
  · refine J_iconst (q := 15) (v := 0) C0 dX11_isLit_14 rfl rfl ?_
    obtain rfl := Option.some.inj hf; exact J_zret C1 dX11_isLit_15 rfl (Or.inl rfl) (Nat.zero_le _) (Nat.zero_le _) ⟨⟨rfl, (Or.inl rfl)⟩, rfl⟩
  · refine J_iconst (q := 11) (v := 1) C0 dX11_isLit_10 rfl rfl ?_
    refine J_goto (q := 15) C0 dX11_isLit_11 (by decide) ?_
    obtain rfl := Option.some.inj hf; exact J_zret C1 dX11_isLit_15 rfl (Or.inr rfl) (Nat.zero_le _) (Nat.zero_le _) ⟨⟨rfl, (Or.inr rfl)⟩, rfl⟩
def f_X11_rule (a0 : Nat) (x1 : Int32) (σ : Sg) : Option Int32 :=
  Option.bind (f_X11_isLit a0  σ) fun p1 =>
  if (p1) = (0) then
  (some ((-1)))
  else
  (if (x1) = 0 then
  (Option.bind (sg_R σ a0 13) fun b4 =>
  some (sg_I σ b4 2))
  else
  if (x1) = 1 then
  (Option.bind (sg_R σ a0 13) fun b6 =>
  some (sg_I σ b6 3))
  else
  if (x1) = 2 then
  (Option.bind (sg_R σ a0 13) fun b8 =>
  some (sg_I σ b8 4))
  else
  (some ((-1))))
set_option maxHeartbeats 4000000 in
set_option maxRecDepth 100000 in
theorem t_X11_rule (a0 : Nat) (x1 : Int32) {σ : Sg} (hT : sg_T σ) (h0 : is_A σ a0 10) {r : Int32} (hf : f_X11_rule a0 x1 σ = some r) : Ct yX11_rule cX11_rule 2 (some .int) 1 20 0 0 [vr (some a0), vi x1] σ (fun r_ τ_ => (r_ = some (vi r)) ∧ τ_ = σ) := by
  refine Ct.of (by decide +kernel) (Nat.le_of_ble_eq_true rfl) (fun Γ C1 => ?_)
  have C0 := C1.1
  unfold f_X11_rule at hf
  show J_ Γ 0 [(0, vr (some a0)), (1, vi (x1))] [] σ 0 0
  refine J_aload_n (q := 1) C0 0 rfl rfl dX11_rule_0 rfl trivial ?_
  refine K_some hf (fun p1 hp1 hf => ?_)
  refine J_callV (q := 4) (ci := 10) (as := []) (rest := []) C0 rfl (h0) (t_X11_isLit a0  (hT) (h0)  hp1) ml_X11_isLit lk_X11_183 im_X11_isLit se_X11_isLit rfl (by decide) dX11_rule_1 rfl rfl rfl (by simp [ac_]) C1.room (by decide) (by decide) (by decide) (by decide) (fun r_ τ_ hQ => ?_)
  obtain ⟨⟨rfl, zp1⟩, ht_⟩ := hQ; have ht_ := ht_.symm; subst ht_
  show J_ Γ 4 [(0, vr (some a0)), (1, vi (x1))] [vi (p1)] σ 0 0
  refine J_if_ne (t := 9) (q := 7) C0 dX11_rule_4 (by decide) rfl hf (fun c2 hf => ?_) (fun c2 hf => ?_)
  · refine J_iload_n (q := 10) C0 1 rfl rfl dX11_rule_9 rfl ?_
    refine K_ite hf (fun c3 hf => ?_) (fun c3 hf => ?_)
    · refine J_tblIn (t := 36) (off := 26) C0 dX11_rule_10 (by rw [c3]; decide) (by rw [c3]; decide) (by rw [c3]; rfl) (by decide) ?_
      refine J_aload_n (q := 37) C0 0 rfl rfl dX11_rule_36 rfl trivial ?_
      refine J_getR (q := 40) C0 fl_X11_75_10 rfl (h0) rfl dX11_rule_37 rfl ?_
      refine K_some hf (fun b4 hb4 hf => ?_)
      have ab4 : is_A σ b4 6 := ((sg_T.op hT (j := 13) (h0) rfl)) b4 hb4
      refine J_getI (q := 43) C0 fl_X11_186_6 hb4 (ab4) rfl dX11_rule_40 rfl ?_
      obtain rfl := Option.some.inj hf; exact J_iret C1 dX11_rule_43 rfl (Nat.zero_le _) (Nat.zero_le _) ⟨rfl, rfl⟩
    refine K_ite hf (fun c5 hf => ?_) (fun c5 hf => ?_)
    · refine J_tblIn (t := 44) (off := 34) C0 dX11_rule_10 (by rw [c5]; decide) (by rw [c5]; decide) (by rw [c5]; rfl) (by decide) ?_
      refine J_aload_n (q := 45) C0 0 rfl rfl dX11_rule_44 rfl trivial ?_
      refine J_getR (q := 48) C0 fl_X11_75_10 rfl (h0) rfl dX11_rule_45 rfl ?_
      refine K_some hf (fun b6 hb6 hf => ?_)
      have ab6 : is_A σ b6 6 := ((sg_T.op hT (j := 13) (h0) rfl)) b6 hb6
      refine J_getI (q := 51) C0 fl_X11_189_6 hb6 (ab6) rfl dX11_rule_48 rfl ?_
      obtain rfl := Option.some.inj hf; exact J_iret C1 dX11_rule_51 rfl (Nat.zero_le _) (Nat.zero_le _) ⟨rfl, rfl⟩
    refine K_ite hf (fun c7 hf => ?_) (fun c7 hf => ?_)
    · refine J_tblIn (t := 52) (off := 42) C0 dX11_rule_10 (by rw [c7]; decide) (by rw [c7]; decide) (by rw [c7]; rfl) (by decide) ?_
      refine J_aload_n (q := 53) C0 0 rfl rfl dX11_rule_52 rfl trivial ?_
      refine J_getR (q := 56) C0 fl_X11_75_10 rfl (h0) rfl dX11_rule_53 rfl ?_
      refine K_some hf (fun b8 hb8 hf => ?_)
      have ab8 : is_A σ b8 6 := ((sg_T.op hT (j := 13) (h0) rfl)) b8 hb8
      refine J_getI (q := 59) C0 fl_X11_192_6 hb8 (ab8) rfl dX11_rule_56 rfl ?_
      obtain rfl := Option.some.inj hf; exact J_iret C1 dX11_rule_59 rfl (Nat.zero_le _) (Nat.zero_le _) ⟨rfl, rfl⟩
    refine J_tblOut (t := 60) C0 dX11_rule_10 (by have tc3 := lv_neT c3 (a := 0) (by decide); have tc5 := lv_neT c5 (a := 1) (by decide); have tc7 := lv_neT c7 (a := 2) (by decide); omega) (by decide) ?_
    refine J_iconst (q := 61) (v := (-1)) C0 dX11_rule_60 rfl rfl ?_
    obtain rfl := Option.some.inj hf; exact J_iret C1 dX11_rule_61 rfl (Nat.zero_le _) (Nat.zero_le _) ⟨rfl, rfl⟩
  · refine J_iconst (q := 8) (v := (-1)) C0 dX11_rule_7 rfl rfl ?_
    obtain rfl := Option.some.inj hf; exact J_iret C1 dX11_rule_8 rfl (Nat.zero_le _) (Nat.zero_le _) ⟨rfl, rfl⟩
def f_X11_isWheel (a0 : Nat) (x1 : Int32) (σ : Sg) : Option Int32 :=
  if (x1) < (0) then
  (some (0))
  else
  (Option.bind (sg_R σ a0 13) fun b2 =>
  if (x1) < (sg_I σ b2 1) then
  (some (1))
  else
  (some (0)))
set_option maxHeartbeats 4000000 in
set_option maxRecDepth 100000 in
theorem t_X11_isWheel (a0 : Nat) (x1 : Int32) {σ : Sg} (hT : sg_T σ) (h0 : is_A σ a0 10) {r : Int32} (hf : f_X11_isWheel a0 x1 σ = some r) : Ct yX11_isWheel cX11_isWheel 2 (some .boolean) 0 0 0 0 [vr (some a0), vi x1] σ (fun r_ τ_ => (r_ = some (vi r) ∧ (r = 0 ∨ r = 1)) ∧ τ_ = σ) := by
  refine Ct.of (by decide +kernel) (Nat.le_of_ble_eq_true rfl) (fun Γ C1 => ?_)
  have C0 := C1.1
  unfold f_X11_isWheel at hf
  show J_ Γ 0 [(0, vr (some a0)), (1, vi (x1))] [] σ 0 0
  refine J_iload_n (q := 1) C0 1 rfl rfl dX11_isWheel_0 rfl ?_
  refine J_if_lt (t := 19) (q := 4) C0 dX11_isWheel_1 (by decide) rfl hf (fun c1 hf => ?_) (fun c1 hf => ?_)
  · refine J_iconst (q := 20) (v := 0) C0 dX11_isWheel_19 rfl rfl ?_
    obtain rfl := Option.some.inj hf; exact J_zret C1 dX11_isWheel_20 rfl (Or.inl rfl) (Nat.zero_le _) (Nat.zero_le _) ⟨⟨rfl, (Or.inl rfl)⟩, rfl⟩
  · refine J_iload_n (q := 5) C0 1 rfl rfl dX11_isWheel_4 rfl ?_
    refine J_aload_n (q := 6) C0 0 rfl rfl dX11_isWheel_5 rfl trivial ?_
    refine J_getR (q := 9) C0 fl_X11_75_10 rfl (h0) rfl dX11_isWheel_6 rfl ?_
    refine K_some hf (fun b2 hb2 hf => ?_)
    have ab2 : is_A σ b2 6 := ((sg_T.op hT (j := 13) (h0) rfl)) b2 hb2
    refine J_getI (q := 12) C0 fl_X11_150_6 hb2 (ab2) rfl dX11_isWheel_9 rfl ?_
    refine J_icmp_ge (t := 19) (q := 15) C0 dX11_isWheel_12 (by decide) rfl hf (fun c3 hf => ?_) (fun c3 hf => ?_)
    · refine J_iconst (q := 20) (v := 0) C0 dX11_isWheel_19 rfl rfl ?_
      obtain rfl := Option.some.inj hf; exact J_zret C1 dX11_isWheel_20 rfl (Or.inl rfl) (Nat.zero_le _) (Nat.zero_le _) ⟨⟨rfl, (Or.inl rfl)⟩, rfl⟩
    · refine J_iconst (q := 16) (v := 1) C0 dX11_isWheel_15 rfl rfl ?_
      refine J_goto (q := 20) C0 dX11_isWheel_16 (by decide) ?_
      obtain rfl := Option.some.inj hf; exact J_zret C1 dX11_isWheel_20 rfl (Or.inr rfl) (Nat.zero_le _) (Nat.zero_le _) ⟨⟨rfl, (Or.inr rfl)⟩, rfl⟩
def f_X11_shown (a0 : Nat) (e1 : Option Nat) (σ : Sg) : Option Int32 :=
  Option.bind (f_X11_stripOf a0 (e1) σ) fun p1 =>
  Option.bind (e1) fun b2 =>
  Option.bind (p1) fun b3 =>
  Option.bind (f_X8_shownAt b3 (sg_I σ b2 2) σ) fun p4 =>
  some (p4)
set_option maxHeartbeats 4000000 in
set_option maxRecDepth 100000 in
theorem t_X11_shown (a0 : Nat) (e1 : Option Nat) {σ : Sg} (hT : sg_T σ) (h0 : is_A σ a0 10) (g1 : is_O σ e1 9) {r : Int32} (hf : f_X11_shown a0 e1 σ = some r) : Ct yX11_shown cX11_shown 2 (some .int) 3 64 0 0 [vr (some a0), vr e1] σ (fun r_ τ_ => (r_ = some (vi r)) ∧ τ_ = σ) := by
  refine Ct.of (by decide +kernel) (Nat.le_of_ble_eq_true rfl) (fun Γ C1 => ?_)
  have C0 := C1.1
  unfold f_X11_shown at hf
  show J_ Γ 0 [(0, vr (some a0)), (1, vr (e1))] [] σ 0 0
  refine J_aload_n (q := 1) C0 0 rfl rfl dX11_shown_0 rfl trivial ?_
  refine J_aload_n (q := 2) C0 1 rfl rfl dX11_shown_1 rfl trivial ?_
  refine K_some hf (fun p1 hp1 hf => ?_)
  refine J_callV (q := 5) (ci := 10) (as := [vr (e1)]) (rest := []) C0 rfl (h0) (t_X11_stripOf a0 (e1) (hT) (h0) (g1) hp1) ml_X11_stripOf lk_X11_162 im_X11_stripOf se_X11_stripOf rfl (by decide) dX11_shown_2 rfl rfl rfl (by simp [ac_]) C1.room (by decide) (by decide) (by decide) (by decide) (fun r_ τ_ hQ => ?_)
  obtain ⟨⟨rfl, op1⟩, ht_⟩ := hQ; have ht_ := ht_.symm; subst ht_
  show J_ Γ 5 [(0, vr (some a0)), (1, vr (e1))] [vr (p1)] σ 0 0
  refine J_aload_n (q := 6) C0 1 rfl rfl dX11_shown_5 rfl trivial ?_
  refine K_some hf (fun b2 hb2 hf => ?_)
  have ab2 : is_A σ b2 9 := (g1) b2 hb2
  refine J_getI (q := 9) C0 fl_X11_157_9 hb2 (ab2) rfl dX11_shown_6 rfl ?_
  refine K_some hf (fun b3 hb3 hf => ?_)
  have ab3 : is_A σ b3 7 := (op1) b3 hb3
  refine K_some hf (fun p4 hp4 hf => ?_)
  refine J_callV (q := 12) (ci := 7) (as := [vi (sg_I σ b2 2)]) (rest := []) C0 hb3 (ab3) (t_X8_shownAt b3 (sg_I σ b2 2) (hT) (ab3)  hp4) ml_X8_shownAt lk_X11_224 im_X8_shownAt se_X8_shownAt rfl (by decide) dX11_shown_9 rfl rfl rfl (by simp [ac_]) C1.room (by decide) (by decide) (by decide) (by decide) (fun r_ τ_ hQ => ?_)
  obtain ⟨rfl, ht_⟩ := hQ; have ht_ := ht_.symm; subst ht_
  show J_ Γ 12 [(0, vr (some a0)), (1, vr (e1))] [vi (p4)] σ 0 0
  obtain rfl := Option.some.inj hf; exact J_iret C1 dX11_shown_12 rfl (Nat.zero_le _) (Nat.zero_le _) ⟨rfl, rfl⟩
def f_X11_picture (a0 : Nat) (x1 : Int32) (x2 : Int32) (σ : Sg) : Option Int32 :=
  Option.bind (f_X11_isStrip a0 (x1) σ) fun p1 =>
  if (p1) = (0) then
  (some ((-1)))
  else
  (Option.bind (sg_R σ a0 8) fun b3 =>
  if (x1) < 0 ∨ sg_L σ b3 ≤ (x1).toNatClampNeg then none else
  Option.bind (sg_R σ b3 (x1).toNatClampNeg) fun b5 =>
  Option.bind (f_X8_size b5  σ) fun p6 =>
  if (x2) = ((-1)) then
  (some (p6))
  else
  (if (x2) < (0) then
  (some ((-1)))
  else
  (if (x2) < (p6) then
  (if (x1) < 0 ∨ sg_L σ b3 ≤ (x1).toNatClampNeg then none else
  Option.bind (f_X8_shownAt b5 (x2) σ) fun p11 =>
  some (p11))
  else
  (some ((-1))))))
set_option maxHeartbeats 4000000 in
set_option maxRecDepth 100000 in
theorem t_X11_picture (a0 : Nat) (x1 : Int32) (x2 : Int32) {σ : Sg} (hT : sg_T σ) (h0 : is_A σ a0 10) {r : Int32} (hf : f_X11_picture a0 x1 x2 σ = some r) : Ct yX11_picture cX11_picture 4 (some .int) 3 64 0 0 [vr (some a0), vi x1, vi x2] σ (fun r_ τ_ => (r_ = some (vi r)) ∧ τ_ = σ) := by
  refine Ct.of (by decide +kernel) (Nat.le_of_ble_eq_true rfl) (fun Γ C1 => ?_)
  have C0 := C1.1
  unfold f_X11_picture at hf
  show J_ Γ 0 [(0, vr (some a0)), (1, vi (x1)), (2, vi (x2))] [] σ 0 0
  refine J_aload_n (q := 1) C0 0 rfl rfl dX11_picture_0 rfl trivial ?_
  refine J_iload_n (q := 2) C0 1 rfl rfl dX11_picture_1 rfl ?_
  refine K_some hf (fun p1 hp1 hf => ?_)
  refine J_callV (q := 5) (ci := 10) (as := [vi (x1)]) (rest := []) C0 rfl (h0) (t_X11_isStrip a0 (x1) (hT) (h0)  hp1) ml_X11_isStrip lk_X11_221 im_X11_isStrip se_X11_isStrip rfl (by decide) dX11_picture_2 rfl rfl rfl (by simp [ac_]) C1.room (by decide) (by decide) (by decide) (by decide) (fun r_ τ_ hQ => ?_)
  obtain ⟨⟨rfl, zp1⟩, ht_⟩ := hQ; have ht_ := ht_.symm; subst ht_
  show J_ Γ 5 [(0, vr (some a0)), (1, vi (x1)), (2, vi (x2))] [vi (p1)] σ 0 0
  refine J_if_ne (t := 10) (q := 8) C0 dX11_picture_5 (by decide) rfl hf (fun c2 hf => ?_) (fun c2 hf => ?_)
  · refine J_aload_n (q := 11) C0 0 rfl rfl dX11_picture_10 rfl trivial ?_
    refine J_getR (q := 14) C0 fl_X11_52_10 rfl (h0) rfl dX11_picture_11 rfl ?_
    refine J_iload_n (q := 15) C0 1 rfl rfl dX11_picture_14 rfl ?_
    refine K_some hf (fun b3 hb3 hf => ?_)
    have ab3 : is_A σ b3 17 := ((sg_T.op hT (j := 8) (h0) rfl)) b3 hb3
    refine K_chk hf (fun c4 hf => ?_)
    refine J_aald (q := 16) C0 hb3 (ab3) (by decide) c4 dX11_picture_15 rfl ?_
    refine K_some hf (fun b5 hb5 hf => ?_)
    have ab5 : is_A σ b5 7 := ((sg_T.op hT (j := (x1).toNatClampNeg) (ab3) rfl)) b5 hb5
    refine K_some hf (fun p6 hp6 hf => ?_)
    refine J_callV (q := 19) (ci := 7) (as := []) (rest := []) C0 hb5 (ab5) (t_X8_size b5  (hT) (ab5)  hp6) ml_X8_size lk_X11_166 im_X8_size se_X8_size rfl (by decide) dX11_picture_16 rfl rfl rfl (by simp [ac_]) C1.room (by decide) (by decide) (by decide) (by decide) (fun r_ τ_ hQ => ?_)
    obtain ⟨rfl, ht_⟩ := hQ; have ht_ := ht_.symm; subst ht_
    show J_ Γ 19 [(0, vr (some a0)), (1, vi (x1)), (2, vi (x2))] [vi (p6)] σ 0 0
    refine J_istore_n (q := 20) (lv' := [(3, vi (p6)), (0, vr (some a0)), (1, vi (x1)), (2, vi (x2))]) C0 rfl (G_nl C1 (by decide)) dX11_picture_19 rfl rfl ?_
    refine J_iload_n (q := 21) C0 3 rfl rfl dX11_picture_20 rfl ?_
    refine J_iconst (q := 22) (v := (-1)) C0 dX11_picture_21 rfl rfl ?_
    refine J_icmp_ne (t := 27) (q := 25) C0 dX11_picture_22 (by decide) rfl hf (fun c7 hf => ?_) (fun c7 hf => ?_)
    · refine J_iload_n (q := 28) C0 3 rfl rfl dX11_picture_27 rfl ?_
      refine J_if_lt (t := 36) (q := 31) C0 dX11_picture_28 (by decide) rfl hf (fun c8 hf => ?_) (fun c8 hf => ?_)
      · refine J_iconst (q := 37) (v := (-1)) C0 dX11_picture_36 rfl rfl ?_
        refine J_goto (q := 50) C0 dX11_picture_37 (by decide) ?_
        obtain rfl := Option.some.inj hf; exact J_iret C1 dX11_picture_50 rfl (Nat.zero_le _) (Nat.zero_le _) ⟨rfl, rfl⟩
      · refine J_iload_n (q := 32) C0 3 rfl rfl dX11_picture_31 rfl ?_
        refine J_iload_n (q := 33) C0 0 rfl rfl dX11_picture_32 rfl ?_
        refine J_icmp_lt (t := 40) (q := 36) C0 dX11_picture_33 (by decide) rfl hf (fun c9 hf => ?_) (fun c9 hf => ?_)
        · refine J_aload_n (q := 41) C0 1 rfl rfl dX11_picture_40 rfl trivial ?_
          refine J_getR (q := 44) C0 fl_X11_52_10 rfl (h0) rfl dX11_picture_41 rfl ?_
          refine J_iload_n (q := 45) C0 2 rfl rfl dX11_picture_44 rfl ?_
          refine K_chk hf (fun c10 hf => ?_)
          refine J_aald (q := 46) C0 hb3 (ab3) (by decide) c10 dX11_picture_45 rfl ?_
          refine J_iload_n (q := 47) C0 3 rfl rfl dX11_picture_46 rfl ?_
          refine K_some hf (fun p11 hp11 hf => ?_)
          refine J_callV (q := 50) (ci := 7) (as := [vi (x2)]) (rest := []) C0 hb5 (ab5) (t_X8_shownAt b5 (x2) (hT) (ab5)  hp11) ml_X8_shownAt lk_X11_224 im_X8_shownAt se_X8_shownAt rfl (by decide) dX11_picture_47 rfl rfl rfl (by simp [ac_]) C1.room (by decide) (by decide) (by decide) (by decide) (fun r_ τ_ hQ => ?_)
          obtain ⟨rfl, ht_⟩ := hQ; have ht_ := ht_.symm; subst ht_
          show J_ Γ 50 [(3, vi (p6)), (0, vr (some a0)), (1, vi (x1)), (2, vi (x2))] [vi (p11)] σ 0 0
          obtain rfl := Option.some.inj hf; exact J_iret C1 dX11_picture_50 rfl (Nat.zero_le _) (Nat.zero_le _) ⟨rfl, rfl⟩
        · refine J_iconst (q := 37) (v := (-1)) C0 dX11_picture_36 rfl rfl ?_
          refine J_goto (q := 50) C0 dX11_picture_37 (by decide) ?_
          obtain rfl := Option.some.inj hf; exact J_iret C1 dX11_picture_50 rfl (Nat.zero_le _) (Nat.zero_le _) ⟨rfl, rfl⟩
    · refine J_iload_n (q := 26) C0 0 rfl rfl dX11_picture_25 rfl ?_
      obtain rfl := Option.some.inj hf; exact J_iret C1 dX11_picture_26 rfl (Nat.zero_le _) (Nat.zero_le _) ⟨rfl, rfl⟩
  · refine J_iconst (q := 9) (v := (-1)) C0 dX11_picture_8 rfl rfl ?_
    obtain rfl := Option.some.inj hf; exact J_iret C1 dX11_picture_9 rfl (Nat.zero_le _) (Nat.zero_le _) ⟨rfl, rfl⟩
def f_X11_law (a0 : Nat) (x1 : Int32) (σ : Sg) : Option (Int32 × Sg) :=
  if (x1) < ((-1)) then
  (some (0, σ))
  else
  (if (x1) < (sg_I σ a0 6) then
  (some (1, put_I σ a0 7 (x1)))
  else
  (some (0, σ)))
set_option maxHeartbeats 4000000 in
set_option maxRecDepth 100000 in
theorem t_X11_law (a0 : Nat) (x1 : Int32) {σ : Sg} (hT : sg_T σ) (h0 : is_A σ a0 10) {r : (Int32 × Sg)} (hf : f_X11_law a0 x1 σ = some r) : Ct yX11_law cX11_law 2 (some .boolean) 0 0 0 0 [vr (some a0), vi x1] σ (fun r_ τ_ => (r_ = some (vi r.1) ∧ (r.1 = 0 ∨ r.1 = 1)) ∧ τ_ = r.2 ∧ sg_T τ_ ∧ sg_E σ τ_) := by
  refine Ct.of (by decide +kernel) (Nat.le_of_ble_eq_true rfl) (fun Γ C1 => ?_)
  have C0 := C1.1
  have hE : sg_E σ σ := sg_E.rf
  unfold f_X11_law at hf
  show J_ Γ 0 [(0, vr (some a0)), (1, vi (x1))] [] σ 0 0
  refine J_iload_n (q := 1) C0 1 rfl rfl dX11_law_0 rfl ?_
  refine J_iconst (q := 2) (v := (-1)) C0 dX11_law_1 rfl rfl ?_
  refine J_icmp_lt (t := 13) (q := 5) C0 dX11_law_2 (by decide) rfl hf (fun c1 hf => ?_) (fun c1 hf => ?_)
  · refine J_iconst (q := 14) (v := 0) C0 dX11_law_13 rfl rfl ?_
    obtain rfl := Option.some.inj hf; exact J_zret C1 dX11_law_14 rfl (Or.inl rfl) (Nat.zero_le _) (Nat.zero_le _) ⟨⟨rfl, (Or.inl rfl)⟩, rfl, hT, hE⟩
  · refine J_iload_n (q := 6) C0 1 rfl rfl dX11_law_5 rfl ?_
    refine J_aload_n (q := 7) C0 0 rfl rfl dX11_law_6 rfl trivial ?_
    refine J_getI (q := 10) C0 fl_X11_44_10 rfl (h0) rfl dX11_law_7 rfl ?_
    refine J_icmp_lt (t := 15) (q := 13) C0 dX11_law_10 (by decide) rfl hf (fun c2 hf => ?_) (fun c2 hf => ?_)
    · refine J_aload_n (q := 16) C0 0 rfl rfl dX11_law_15 rfl trivial ?_
      refine J_iload_n (q := 17) C0 1 rfl rfl dX11_law_16 rfl ?_
      refine J_putI (q := 20) C0 fl_X11_47_10 rfl (h0) rfl dX11_law_17 rfl ?_
      refine J_iconst (q := 21) (v := 1) C0 dX11_law_20 rfl rfl ?_
      obtain rfl := Option.some.inj hf; exact J_zret C1 dX11_law_21 rfl (Or.inr rfl) (Nat.zero_le _) (Nat.zero_le _) ⟨⟨rfl, (Or.inr rfl)⟩, rfl, (hT).putI, (hE).putI⟩
    · refine J_iconst (q := 14) (v := 0) C0 dX11_law_13 rfl rfl ?_
      obtain rfl := Option.some.inj hf; exact J_zret C1 dX11_law_14 rfl (Or.inl rfl) (Nat.zero_le _) (Nat.zero_le _) ⟨⟨rfl, (Or.inl rfl)⟩, rfl, hT, hE⟩
def f_X11_touch (a0 : Nat) (x1 : Int32) (σ : Sg) : Option (Int32 × Sg) :=
  if (x1) < (0) then
  (some (0, σ))
  else
  (if (9) < (x1) then
  (some (0, σ))
  else
  (if (x1) = (sg_I σ a0 11) then
  (some (0, σ))
  else
  (some (1, put_I σ a0 11 (x1)))))
set_option maxHeartbeats 4000000 in
set_option maxRecDepth 100000 in
theorem t_X11_touch (a0 : Nat) (x1 : Int32) {σ : Sg} (hT : sg_T σ) (h0 : is_A σ a0 10) {r : (Int32 × Sg)} (hf : f_X11_touch a0 x1 σ = some r) : Ct yX11_touch cX11_touch 2 (some .boolean) 0 0 0 0 [vr (some a0), vi x1] σ (fun r_ τ_ => (r_ = some (vi r.1) ∧ (r.1 = 0 ∨ r.1 = 1)) ∧ τ_ = r.2 ∧ sg_T τ_ ∧ sg_E σ τ_) := by
  refine Ct.of (by decide +kernel) (Nat.le_of_ble_eq_true rfl) (fun Γ C1 => ?_)
  have C0 := C1.1
  have hE : sg_E σ σ := sg_E.rf
  unfold f_X11_touch at hf
  show J_ Γ 0 [(0, vr (some a0)), (1, vi (x1))] [] σ 0 0
  refine J_iload_n (q := 1) C0 1 rfl rfl dX11_touch_0 rfl ?_
  refine J_if_lt (t := 18) (q := 4) C0 dX11_touch_1 (by decide) rfl hf (fun c1 hf => ?_) (fun c1 hf => ?_)
  · refine J_iconst (q := 19) (v := 0) C0 dX11_touch_18 rfl rfl ?_
    obtain rfl := Option.some.inj hf; exact J_zret C1 dX11_touch_19 rfl (Or.inl rfl) (Nat.zero_le _) (Nat.zero_le _) ⟨⟨rfl, (Or.inl rfl)⟩, rfl, hT, hE⟩
  · refine J_iload_n (q := 5) C0 1 rfl rfl dX11_touch_4 rfl ?_
    refine J_bipush (q := 7) (v := 9) C0 dX11_touch_5 rfl rfl ?_
    refine J_icmp_gt (t := 18) (q := 10) C0 dX11_touch_7 (by decide) rfl hf (fun c2 hf => ?_) (fun c2 hf => ?_)
    · refine J_iconst (q := 19) (v := 0) C0 dX11_touch_18 rfl rfl ?_
      obtain rfl := Option.some.inj hf; exact J_zret C1 dX11_touch_19 rfl (Or.inl rfl) (Nat.zero_le _) (Nat.zero_le _) ⟨⟨rfl, (Or.inl rfl)⟩, rfl, hT, hE⟩
    · refine J_iload_n (q := 11) C0 1 rfl rfl dX11_touch_10 rfl ?_
      refine J_aload_n (q := 12) C0 0 rfl rfl dX11_touch_11 rfl trivial ?_
      refine J_getI (q := 15) C0 fl_X11_66_10 rfl (h0) rfl dX11_touch_12 rfl ?_
      refine J_icmp_ne (t := 20) (q := 18) C0 dX11_touch_15 (by decide) rfl hf (fun c3 hf => ?_) (fun c3 hf => ?_)
      · refine J_aload_n (q := 21) C0 0 rfl rfl dX11_touch_20 rfl trivial ?_
        refine J_iload_n (q := 22) C0 1 rfl rfl dX11_touch_21 rfl ?_
        refine J_putI (q := 25) C0 fl_X11_66_10 rfl (h0) rfl dX11_touch_22 rfl ?_
        refine J_iconst (q := 26) (v := 1) C0 dX11_touch_25 rfl rfl ?_
        obtain rfl := Option.some.inj hf; exact J_zret C1 dX11_touch_26 rfl (Or.inr rfl) (Nat.zero_le _) (Nat.zero_le _) ⟨⟨rfl, (Or.inr rfl)⟩, rfl, (hT).putI, (hE).putI⟩
      · refine J_iconst (q := 19) (v := 0) C0 dX11_touch_18 rfl rfl ?_
        obtain rfl := Option.some.inj hf; exact J_zret C1 dX11_touch_19 rfl (Or.inl rfl) (Nat.zero_le _) (Nat.zero_le _) ⟨⟨rfl, (Or.inl rfl)⟩, rfl, hT, hE⟩
def f_X11_lawNow_B30 (a0 : Nat) (σ : Sg) : Option (Option Nat) :=
  some (none)
def f_X11_lawNow (a0 : Nat) (σ : Sg) : Option (Option Nat) :=
  if (sg_I σ a0 7) < (0) then
  (f_X11_lawNow_B30 a0  σ)
  else
  (if (sg_I σ a0 7) < (sg_I σ a0 6) then
  (Option.bind (sg_R σ a0 5) fun b3 =>
  if (sg_I σ a0 7) < 0 ∨ sg_L σ b3 ≤ (sg_I σ a0 7).toNatClampNeg then none else
  some (sg_R σ b3 (sg_I σ a0 7).toNatClampNeg))
  else
  (f_X11_lawNow_B30 a0  σ))
set_option maxHeartbeats 4000000 in
set_option maxRecDepth 100000 in
theorem t_X11_lawNow_B30 {a0 : Nat} {Γ : Gm} {σ : Sg} {r : (Option Nat)} (C1 : CM Γ cX11_lawNow RX11 1 (some (.object "SlitDrum$Law")) 0 0 0 0 (fun r_ τ_ => (r_ = some (vr r) ∧ is_O τ_ r 2) ∧ τ_ = σ)) (hT : sg_T σ) (h0 : is_A σ a0 10)  (hf : f_X11_lawNow_B30 a0   σ = some r) : J_ Γ 30 [(0, vr (some a0))] [] σ 0 0 := by
  have C0 := C1.1
  unfold f_X11_lawNow_B30 at hf
  refine J_null (q := 31) C0 dX11_lawNow_30 rfl ?_
  have io9 : is_O σ (none) 2 := is_O.none; obtain rfl := Option.some.inj hf; exact J_aret C1 dX11_lawNow_31 rfl (Or.inl ⟨_, rfl⟩) (Nat.zero_le _) (Nat.zero_le _) ⟨⟨rfl, io9⟩, rfl⟩
set_option maxHeartbeats 4000000 in
set_option maxRecDepth 100000 in
theorem t_X11_lawNow (a0 : Nat) {σ : Sg} (hT : sg_T σ) (h0 : is_A σ a0 10) {r : (Option Nat)} (hf : f_X11_lawNow a0  σ = some r) : Ct yX11_lawNow cX11_lawNow 1 (some (.object "SlitDrum$Law")) 0 0 0 0 [vr (some a0)] σ (fun r_ τ_ => (r_ = some (vr r) ∧ is_O τ_ r 2) ∧ τ_ = σ) := by
  refine Ct.of (by decide +kernel) (Nat.le_of_ble_eq_true rfl) (fun Γ C1 => ?_)
  have C0 := C1.1
  unfold f_X11_lawNow at hf
  show J_ Γ 0 [(0, vr (some a0))] [] σ 0 0
  refine J_aload_n (q := 1) C0 0 rfl rfl dX11_lawNow_0 rfl trivial ?_
  refine J_getI (q := 4) C0 fl_X11_47_10 rfl (h0) rfl dX11_lawNow_1 rfl ?_
  refine J_if_lt (t := 30) (q := 7) C0 dX11_lawNow_4 (by decide) rfl hf (fun c1 hf => ?_) (fun c1 hf => ?_)
  · exact t_X11_lawNow_B30 C1 (hT) (h0)     hf
  · refine J_aload_n (q := 8) C0 0 rfl rfl dX11_lawNow_7 rfl trivial ?_
    refine J_getI (q := 11) C0 fl_X11_47_10 rfl (h0) rfl dX11_lawNow_8 rfl ?_
    refine J_aload_n (q := 12) C0 0 rfl rfl dX11_lawNow_11 rfl trivial ?_
    refine J_getI (q := 15) C0 fl_X11_44_10 rfl (h0) rfl dX11_lawNow_12 rfl ?_
    refine J_icmp_ge (t := 30) (q := 18) C0 dX11_lawNow_15 (by decide) rfl hf (fun c2 hf => ?_) (fun c2 hf => ?_)
    · exact t_X11_lawNow_B30 C1 (hT) (h0)     hf
    · refine J_aload_n (q := 19) C0 0 rfl rfl dX11_lawNow_18 rfl trivial ?_
      refine J_getR (q := 22) C0 fl_X11_40_10 rfl (h0) rfl dX11_lawNow_19 rfl ?_
      refine J_aload_n (q := 23) C0 0 rfl rfl dX11_lawNow_22 rfl trivial ?_
      refine J_getI (q := 26) C0 fl_X11_47_10 rfl (h0) rfl dX11_lawNow_23 rfl ?_
      refine K_some hf (fun b3 hb3 hf => ?_)
      have ab3 : is_A σ b3 15 := ((sg_T.op hT (j := 5) (h0) rfl)) b3 hb3
      refine K_chk hf (fun c4 hf => ?_)
      refine J_aald (q := 27) C0 hb3 (ab3) (by decide) c4 dX11_lawNow_26 rfl ?_
      refine J_goto (q := 31) C0 dX11_lawNow_27 (by decide) ?_
      have io9 : is_O σ (sg_R σ b3 (sg_I σ a0 7).toNatClampNeg) 2 := (sg_T.op hT (j := (sg_I σ a0 7).toNatClampNeg) (ab3) rfl); obtain rfl := Option.some.inj hf; exact J_aret C1 dX11_lawNow_31 rfl (Or.inl ⟨_, rfl⟩) (Nat.zero_le _) (Nat.zero_le _) ⟨⟨rfl, io9⟩, rfl⟩
def f_X11_refused (a0 : Nat) (x1 : Int32) (σ : Sg) : Option (Int32 × Sg) :=
  if (x1) < (0) then
  (some ((-1), σ))
  else
  (Option.bind (sg_R σ a0 12) fun b2 =>
  if (x1) < (Int32.ofNat (sg_L σ b2)) then
  (if (x1) < 0 ∨ sg_L σ b2 ≤ (x1).toNatClampNeg then none else
  if (x1) < 0 ∨ sg_L σ b2 ≤ (x1).toNatClampNeg then none else
  some ((-1), put_I σ b2 (x1).toNatClampNeg ((sg_I σ b2 (x1).toNatClampNeg) + (1))))
  else
  (some ((-1), σ)))
set_option maxHeartbeats 4000000 in
set_option maxRecDepth 100000 in
theorem t_X11_refused (a0 : Nat) (x1 : Int32) {σ : Sg} (hT : sg_T σ) (h0 : is_A σ a0 10) {r : (Int32 × Sg)} (hf : f_X11_refused a0 x1 σ = some r) : Ct yX11_refused cX11_refused 2 (some .int) 0 0 0 0 [vr (some a0), vi x1] σ (fun r_ τ_ => (r_ = some (vi r.1)) ∧ τ_ = r.2 ∧ sg_T τ_ ∧ sg_E σ τ_) := by
  refine Ct.of (by decide +kernel) (Nat.le_of_ble_eq_true rfl) (fun Γ C1 => ?_)
  have C0 := C1.1
  have hE : sg_E σ σ := sg_E.rf
  unfold f_X11_refused at hf
  show J_ Γ 0 [(0, vr (some a0)), (1, vi (x1))] [] σ 0 0
  refine J_iload_n (q := 1) C0 1 rfl rfl dX11_refused_0 rfl ?_
  refine J_if_lt (t := 23) (q := 4) C0 dX11_refused_1 (by decide) rfl hf (fun c1 hf => ?_) (fun c1 hf => ?_)
  · refine J_iconst (q := 24) (v := (-1)) C0 dX11_refused_23 rfl rfl ?_
    obtain rfl := Option.some.inj hf; exact J_iret C1 dX11_refused_24 rfl (Nat.zero_le _) (Nat.zero_le _) ⟨rfl, rfl, hT, hE⟩
  · refine J_iload_n (q := 5) C0 1 rfl rfl dX11_refused_4 rfl ?_
    refine J_aload_n (q := 6) C0 0 rfl rfl dX11_refused_5 rfl trivial ?_
    refine J_getR (q := 9) C0 fl_X11_69_10 rfl (h0) rfl dX11_refused_6 rfl ?_
    refine K_some hf (fun b2 hb2 hf => ?_)
    have ab2 : is_A σ b2 12 := ((sg_T.op hT (j := 12) (h0) rfl)) b2 hb2
    refine J_alen (q := 10) C0 hb2 (ab2) (by decide) dX11_refused_9 rfl ?_
    refine J_icmp_ge (t := 23) (q := 13) C0 dX11_refused_10 (by decide) rfl hf (fun c3 hf => ?_) (fun c3 hf => ?_)
    · refine J_iconst (q := 24) (v := (-1)) C0 dX11_refused_23 rfl rfl ?_
      obtain rfl := Option.some.inj hf; exact J_iret C1 dX11_refused_24 rfl (Nat.zero_le _) (Nat.zero_le _) ⟨rfl, rfl, hT, hE⟩
    · refine J_aload_n (q := 14) C0 0 rfl rfl dX11_refused_13 rfl trivial ?_
      refine J_getR (q := 17) C0 fl_X11_69_10 rfl (h0) rfl dX11_refused_14 rfl ?_
      refine J_iload_n (q := 18) C0 1 rfl rfl dX11_refused_17 rfl ?_
      refine J_dup2 (q := 19) C0 dX11_refused_18 rfl rfl rfl ?_
      refine K_chk hf (fun c4 hf => ?_)
      refine J_iald (q := 20) C0 hb2 (ab2) c4 dX11_refused_19 rfl ?_
      refine J_iconst (q := 21) (v := 1) C0 dX11_refused_20 rfl rfl ?_
      refine J_iadd (q := 22) C0 dX11_refused_21 rfl ?_
      refine K_chk hf (fun c5 hf => ?_)
      refine J_iast (q := 23) C0 hb2 (ab2) c5 dX11_refused_22 rfl ?_
      refine J_iconst (q := 24) (v := (-1)) C0 dX11_refused_23 rfl rfl ?_
      obtain rfl := Option.some.inj hf; exact J_iret C1 dX11_refused_24 rfl (Nat.zero_le _) (Nat.zero_le _) ⟨rfl, rfl, (hT).putI, (hE).putI⟩
def f_X11_courseOf (a0 : Nat) (x1 : Int32) (σ : Sg) : Option ((Option Nat) × Sg) :=
  Option.bind (sg_R σ a0 13) fun b1 =>
  Option.bind (sg_R σ b1 0) fun b2 =>
  if (x1) < 0 ∨ sg_L σ b2 ≤ (x1).toNatClampNeg then none else
  Option.bind (sg_R σ a0 18) fun b4 =>
  if (x1) < 0 ∨ sg_L σ b4 ≤ (x1).toNatClampNeg then none else
  Option.bind (f_X11_stripOf a0 (sg_R σ b2 (x1).toNatClampNeg) σ) fun p6 =>
  Option.bind (f_X11_lawNow a0  σ) fun p7 =>
  Option.bind (sg_R σ b4 (x1).toNatClampNeg) fun b8 =>
  Option.bind (f_X0_set b8 (sg_R σ b2 (x1).toNatClampNeg) (p6) (p7) (sg_I σ b1 2) (sg_I σ b1 5) σ) fun p9 =>
  Option.bind (sg_R p9 a0 18) fun b10 =>
  if (x1) < 0 ∨ sg_L p9 b10 ≤ (x1).toNatClampNeg then none else
  some (sg_R p9 b10 (x1).toNatClampNeg, p9)
set_option maxHeartbeats 4000000 in
set_option maxRecDepth 100000 in
theorem t_X11_courseOf (a0 : Nat) (x1 : Int32) {σ : Sg} (hT : sg_T σ) (h0 : is_A σ a0 10) {r : ((Option Nat) × Sg)} (hf : f_X11_courseOf a0 x1 σ = some r) : Ct yX11_courseOf cX11_courseOf 3 (some (.object "SlitDrum$Course")) 2 45 0 0 [vr (some a0), vi x1] σ (fun r_ τ_ => (r_ = some (vr r.1) ∧ is_O τ_ r.1 0) ∧ τ_ = r.2 ∧ sg_T τ_ ∧ sg_E σ τ_) := by
  refine Ct.of (by decide +kernel) (Nat.le_of_ble_eq_true rfl) (fun Γ C1 => ?_)
  have C0 := C1.1
  have hE : sg_E σ σ := sg_E.rf
  unfold f_X11_courseOf at hf
  show J_ Γ 0 [(0, vr (some a0)), (1, vi (x1))] [] σ 0 0
  refine J_aload_n (q := 1) C0 0 rfl rfl dX11_courseOf_0 rfl trivial ?_
  refine J_getR (q := 4) C0 fl_X11_75_10 rfl (h0) rfl dX11_courseOf_1 rfl ?_
  refine K_some hf (fun b1 hb1 hf => ?_)
  have ab1 : is_A σ b1 6 := ((sg_T.op hT (j := 13) (h0) rfl)) b1 hb1
  refine J_getR (q := 7) C0 fl_X11_153_6 hb1 (ab1) rfl dX11_courseOf_4 rfl ?_
  refine J_iload_n (q := 8) C0 1 rfl rfl dX11_courseOf_7 rfl ?_
  refine K_some hf (fun b2 hb2 hf => ?_)
  have ab2 : is_A σ b2 18 := ((sg_T.op hT (j := 0) (ab1) rfl)) b2 hb2
  refine K_chk hf (fun c3 hf => ?_)
  refine J_aald (q := 9) C0 hb2 (ab2) (by decide) c3 dX11_courseOf_8 rfl ?_
  refine J_astore_n (q := 10) (lv' := [(2, vr (sg_R σ b2 (x1).toNatClampNeg)), (0, vr (some a0)), (1, vi (x1))]) C0 rfl (G_nl C1 (by decide)) dX11_courseOf_9 rfl trivial rfl ?_
  refine J_aload_n (q := 11) C0 1 rfl rfl dX11_courseOf_10 rfl trivial ?_
  refine J_getR (q := 14) C0 fl_X11_102_10 rfl (h0) rfl dX11_courseOf_11 rfl ?_
  refine J_iload_n (q := 15) C0 2 rfl rfl dX11_courseOf_14 rfl ?_
  refine K_some hf (fun b4 hb4 hf => ?_)
  have ab4 : is_A σ b4 14 := ((sg_T.op hT (j := 18) (h0) rfl)) b4 hb4
  refine K_chk hf (fun c5 hf => ?_)
  refine J_aald (q := 16) C0 hb4 (ab4) (by decide) c5 dX11_courseOf_15 rfl ?_
  refine J_aload_n (q := 17) C0 0 rfl rfl dX11_courseOf_16 rfl trivial ?_
  refine J_aload_n (q := 18) C0 1 rfl rfl dX11_courseOf_17 rfl trivial ?_
  refine J_aload_n (q := 19) C0 0 rfl rfl dX11_courseOf_18 rfl trivial ?_
  refine K_some hf (fun p6 hp6 hf => ?_)
  refine J_callV (q := 22) (ci := 10) (as := [vr (sg_R σ b2 (x1).toNatClampNeg)]) (rest := [vr (sg_R σ b2 (x1).toNatClampNeg), vr (sg_R σ b4 (x1).toNatClampNeg)]) C0 rfl (h0) (t_X11_stripOf a0 (sg_R σ b2 (x1).toNatClampNeg) (hT) (h0) ((sg_T.op hT (j := (x1).toNatClampNeg) (ab2) rfl)) hp6) ml_X11_stripOf lk_X11_162 im_X11_stripOf se_X11_stripOf rfl (by decide) dX11_courseOf_19 rfl rfl rfl (by simp [ac_]) C1.room (by decide) (by decide) (by decide) (by decide) (fun r_ τ_ hQ => ?_)
  obtain ⟨⟨rfl, op6⟩, ht_⟩ := hQ; have ht_ := ht_.symm; subst ht_
  show J_ Γ 22 [(2, vr (sg_R σ b2 (x1).toNatClampNeg)), (0, vr (some a0)), (1, vi (x1))] [vr (p6), vr (sg_R σ b2 (x1).toNatClampNeg), vr (sg_R σ b4 (x1).toNatClampNeg)] σ 0 0
  refine J_aload_n (q := 23) C0 1 rfl rfl dX11_courseOf_22 rfl trivial ?_
  refine K_some hf (fun p7 hp7 hf => ?_)
  refine J_callV (q := 26) (ci := 10) (as := []) (rest := [vr (p6), vr (sg_R σ b2 (x1).toNatClampNeg), vr (sg_R σ b4 (x1).toNatClampNeg)]) C0 rfl (h0) (t_X11_lawNow a0  (hT) (h0)  hp7) ml_X11_lawNow lk_X11_306 im_X11_lawNow se_X11_lawNow rfl (by decide) dX11_courseOf_23 rfl rfl rfl (by simp [ac_]) C1.room (by decide) (by decide) (by decide) (by decide) (fun r_ τ_ hQ => ?_)
  obtain ⟨⟨rfl, op7⟩, ht_⟩ := hQ; have ht_ := ht_.symm; subst ht_
  show J_ Γ 26 [(2, vr (sg_R σ b2 (x1).toNatClampNeg)), (0, vr (some a0)), (1, vi (x1))] [vr (p7), vr (p6), vr (sg_R σ b2 (x1).toNatClampNeg), vr (sg_R σ b4 (x1).toNatClampNeg)] σ 0 0
  refine J_aload_n (q := 27) C0 1 rfl rfl dX11_courseOf_26 rfl trivial ?_
  refine J_getR (q := 30) C0 fl_X11_75_10 rfl (h0) rfl dX11_courseOf_27 rfl ?_
  refine J_getI (q := 33) C0 fl_X11_186_6 hb1 (ab1) rfl dX11_courseOf_30 rfl ?_
  refine J_aload_n (q := 34) C0 1 rfl rfl dX11_courseOf_33 rfl trivial ?_
  refine J_getR (q := 37) C0 fl_X11_75_10 rfl (h0) rfl dX11_courseOf_34 rfl ?_
  refine J_getI (q := 40) C0 fl_X11_230_6 hb1 (ab1) rfl dX11_courseOf_37 rfl ?_
  refine K_some hf (fun b8 hb8 hf => ?_)
  have ab8 : is_A σ b8 0 := ((sg_T.op hT (j := (x1).toNatClampNeg) (ab4) rfl)) b8 hb8
  refine K_some hf (fun p9 hp9 hf => ?_)
  refine J_callV (q := 43) (ci := 0) (as := [vr (sg_R σ b2 (x1).toNatClampNeg), vr (p6), vr (p7), vi (sg_I σ b1 2), vi (sg_I σ b1 5)]) (rest := []) C0 hb8 (ab8) (t_X0_set b8 (sg_R σ b2 (x1).toNatClampNeg) (p6) (p7) (sg_I σ b1 2) (sg_I σ b1 5) (hT) (ab8) ((sg_T.op hT (j := (x1).toNatClampNeg) (ab2) rfl)) (op6) (op7) hp9) ml_X0_set lk_X11_310 im_X0_set se_X0_set rfl (by decide) dX11_courseOf_40 rfl rfl rfl (by simp [ac_]) C1.room (by decide) (by decide) (by decide) (by decide) (fun r_ τ_ hQ => ?_)
  obtain ⟨rfl, ht_, Tp9, Ep9⟩ := hQ; have ht_ := ht_.symm; subst ht_
  show J_ Γ 43 [(2, vr (sg_R σ b2 (x1).toNatClampNeg)), (0, vr (some a0)), (1, vi (x1))] [] p9 0 0
  refine J_aload_n (q := 44) C0 1 rfl rfl dX11_courseOf_43 rfl trivial ?_
  refine J_getR (q := 47) C0 fl_X11_102_10 rfl ((Ep9.at h0)) rfl dX11_courseOf_44 rfl ?_
  refine J_iload_n (q := 48) C0 2 rfl rfl dX11_courseOf_47 rfl ?_
  refine K_some hf (fun b10 hb10 hf => ?_)
  have ab10 : is_A p9 b10 14 := ((sg_T.op Tp9 (j := 18) ((Ep9.at h0)) rfl)) b10 hb10
  refine K_chk hf (fun c11 hf => ?_)
  refine J_aald (q := 49) C0 hb10 (ab10) (by decide) c11 dX11_courseOf_48 rfl ?_
  have io9 : is_O p9 (sg_R p9 b10 (x1).toNatClampNeg) 0 := (sg_T.op Tp9 (j := (x1).toNatClampNeg) (ab10) rfl); obtain rfl := Option.some.inj hf; exact J_aret C1 dX11_courseOf_49 rfl (Or.inl ⟨_, rfl⟩) (Nat.zero_le _) (Nat.zero_le _) ⟨⟨rfl, io9⟩, rfl, Tp9, (hE).tr Ep9⟩
def f_X11_nextPlace (N : Nat) (a0 : Nat) (x1 : Int32) (σ : Sg) : Option (Int32 × Sg) :=
  Option.bind (f_X11_courseOf a0 (x1) σ) fun p1 =>
  Option.bind (sg_R p1.2 a0 13) fun b2 =>
  Option.bind (sg_R p1.2 b2 0) fun b3 =>
  if (x1) < 0 ∨ sg_L p1.2 b3 ≤ (x1).toNatClampNeg then none else
  Option.bind (sg_R p1.2 b3 (x1).toNatClampNeg) fun b5 =>
  Option.bind (p1.1) fun b6 =>
  Option.bind (f_X0_movedFrom N b6 (sg_I p1.2 b5 2) (sg_I p1.2 b2 5) p1.2) fun p7 =>
  some (p7.1, p7.2)
set_option maxHeartbeats 4000000 in
set_option maxRecDepth 100000 in
theorem t_X11_nextPlace (N : Nat) (a0 : Nat) (x1 : Int32) {σ : Sg} (hT : sg_T σ) (h0 : is_A σ a0 10) {r : (Int32 × Sg)} (hf : f_X11_nextPlace N a0 x1 σ = some r) : Ct yX11_nextPlace cX11_nextPlace 2 (some .int) 4 94 0 0 [vr (some a0), vi x1] σ (fun r_ τ_ => (r_ = some (vi r.1)) ∧ τ_ = r.2 ∧ sg_T τ_ ∧ sg_E σ τ_) := by
  refine Ct.of (by decide +kernel) (Nat.le_of_ble_eq_true rfl) (fun Γ C1 => ?_)
  have C0 := C1.1
  have hE : sg_E σ σ := sg_E.rf
  unfold f_X11_nextPlace at hf
  show J_ Γ 0 [(0, vr (some a0)), (1, vi (x1))] [] σ 0 0
  refine J_aload_n (q := 1) C0 0 rfl rfl dX11_nextPlace_0 rfl trivial ?_
  refine J_iload_n (q := 2) C0 1 rfl rfl dX11_nextPlace_1 rfl ?_
  refine K_some hf (fun p1 hp1 hf => ?_)
  refine J_callV (q := 5) (ci := 10) (as := [vi (x1)]) (rest := []) C0 rfl (h0) (t_X11_courseOf a0 (x1) (hT) (h0)  hp1) ml_X11_courseOf lk_X11_300 im_X11_courseOf se_X11_courseOf rfl (by decide) dX11_nextPlace_2 rfl rfl rfl (by simp [ac_]) C1.room (by decide) (by decide) (by decide) (by decide) (fun r_ τ_ hQ => ?_)
  obtain ⟨⟨rfl, op1⟩, rfl, Tp1, Ep1⟩ := hQ
  show J_ Γ 5 [(0, vr (some a0)), (1, vi (x1))] [vr (p1.1)] p1.2 0 0
  refine J_aload_n (q := 6) C0 0 rfl rfl dX11_nextPlace_5 rfl trivial ?_
  refine J_getR (q := 9) C0 fl_X11_75_10 rfl ((Ep1.at h0)) rfl dX11_nextPlace_6 rfl ?_
  refine K_some hf (fun b2 hb2 hf => ?_)
  have ab2 : is_A p1.2 b2 6 := ((sg_T.op Tp1 (j := 13) ((Ep1.at h0)) rfl)) b2 hb2
  refine J_getR (q := 12) C0 fl_X11_153_6 hb2 (ab2) rfl dX11_nextPlace_9 rfl ?_
  refine J_iload_n (q := 13) C0 1 rfl rfl dX11_nextPlace_12 rfl ?_
  refine K_some hf (fun b3 hb3 hf => ?_)
  have ab3 : is_A p1.2 b3 18 := ((sg_T.op Tp1 (j := 0) (ab2) rfl)) b3 hb3
  refine K_chk hf (fun c4 hf => ?_)
  refine J_aald (q := 14) C0 hb3 (ab3) (by decide) c4 dX11_nextPlace_13 rfl ?_
  refine K_some hf (fun b5 hb5 hf => ?_)
  have ab5 : is_A p1.2 b5 9 := ((sg_T.op Tp1 (j := (x1).toNatClampNeg) (ab3) rfl)) b5 hb5
  refine J_getI (q := 17) C0 fl_X11_157_9 hb5 (ab5) rfl dX11_nextPlace_14 rfl ?_
  refine J_aload_n (q := 18) C0 0 rfl rfl dX11_nextPlace_17 rfl trivial ?_
  refine J_getR (q := 21) C0 fl_X11_75_10 rfl ((Ep1.at h0)) rfl dX11_nextPlace_18 rfl ?_
  refine J_getI (q := 24) C0 fl_X11_230_6 hb2 (ab2) rfl dX11_nextPlace_21 rfl ?_
  refine K_some hf (fun b6 hb6 hf => ?_)
  have ab6 : is_A p1.2 b6 0 := (op1) b6 hb6
  refine K_some hf (fun p7 hp7 hf => ?_)
  refine J_callV (q := 27) (ci := 0) (as := [vi (sg_I p1.2 b5 2), vi (sg_I p1.2 b2 5)]) (rest := []) C0 hb6 (ab6) (t_X0_movedFrom N b6 (sg_I p1.2 b5 2) (sg_I p1.2 b2 5) (Tp1) (ab6)  hp7) ml_X0_movedFrom lk_X11_303 im_X0_movedFrom se_X0_movedFrom rfl (by decide) dX11_nextPlace_24 rfl rfl rfl (by simp [ac_]) C1.room (by decide) (by decide) (by decide) (by decide) (fun r_ τ_ hQ => ?_)
  obtain ⟨rfl, rfl, Tp7, Ep7⟩ := hQ
  show J_ Γ 27 [(0, vr (some a0)), (1, vi (x1))] [vi (p7.1)] p7.2 0 0
  obtain rfl := Option.some.inj hf; exact J_iret C1 dX11_nextPlace_27 rfl (Nat.zero_le _) (Nat.zero_le _) ⟨rfl, rfl, Tp7, ((hE).tr Ep1).tr Ep7⟩
def f_X11_allShowOne_B76 (N : Nat) (a0 : Nat) (k39 : Int32 → Int32 → Int32 → Option Int32) (v1 : Int32) (v3 : Int32) (s0 : Int32) (σ : Sg) : Option Int32 :=
  k39 (v1) (s0) (v3 + 1)
def f_X11_allShowOne_B75 (N : Nat) (a0 : Nat) (k39 : Int32 → Int32 → Int32 → Option Int32) (v1 : Int32) (v3 : Int32) (σ : Sg) : Option Int32 :=
  f_X11_allShowOne_B76 N a0 k39 (v1) (v3) (0) σ
def f_X11_allShowOne_L39 (N : Nat) (a0 : Nat) : Nat → Int32 → Int32 → Int32 → Sg → Option Int32
  | 0, _, _, _, _ => none
  | n + 1, v1, v2, v3, σ =>
  Option.bind (sg_R σ a0 13) fun b6 =>
  if (v3) < (sg_I σ b6 1) then
  (if (v2) = (0) then
  (f_X11_allShowOne_B75 N a0 (fun v1 v2 v3 => f_X11_allShowOne_L39 N a0 n v1 v2 v3 σ) (v1) (v3) σ)
  else
  (Option.bind (sg_R σ b6 0) fun b10 =>
  if (v3) < 0 ∨ sg_L σ b10 ≤ (v3).toNatClampNeg then none else
  Option.bind (f_X11_shown a0 (sg_R σ b10 (v3).toNatClampNeg) σ) fun p12 =>
  if (p12) = (v1) then
  (f_X11_allShowOne_B76 N a0 (fun v1 v2 v3 => f_X11_allShowOne_L39 N a0 n v1 v2 v3 σ) (v1) (v3) (1) σ)
  else
  (f_X11_allShowOne_B75 N a0 (fun v1 v2 v3 => f_X11_allShowOne_L39 N a0 n v1 v2 v3 σ) (v1) (v3) σ)))
  else
  (if ¬ ((v2) = 0 ∨ (v2) = 1) then none else
  some (v2))
def f_X11_allShowOne_B36 (N : Nat) (a0 : Nat) (v1 : Int32) (s0 : Int32) (σ : Sg) : Option Int32 :=
  f_X11_allShowOne_L39 N a0 N (v1) (s0) (1) σ
def f_X11_allShowOne_B35 (N : Nat) (a0 : Nat) (v1 : Int32) (σ : Sg) : Option Int32 :=
  f_X11_allShowOne_B36 N a0 (v1) (0) σ
def f_X11_allShowOne (N : Nat) (a0 : Nat) (σ : Sg) : Option Int32 :=
  Option.bind (sg_R σ a0 13) fun b1 =>
  Option.bind (sg_R σ b1 0) fun b2 =>
  if (0 : Int32) < 0 ∨ sg_L σ b2 ≤ (0 : Int32).toNatClampNeg then none else
  Option.bind (f_X11_shown a0 (sg_R σ b2 (0 : Int32).toNatClampNeg) σ) fun p4 =>
  if (1) < (sg_I σ b1 1) then
  (if (p4) = (26) then
  (f_X11_allShowOne_B35 N a0 (p4) σ)
  else
  (f_X11_allShowOne_B36 N a0 (p4) (1) σ))
  else
  (f_X11_allShowOne_B35 N a0 (p4) σ)
set_option maxHeartbeats 4000000 in
set_option maxRecDepth 100000 in
theorem t_X11_allShowOne_B76 {N : Nat} {a0 : Nat} {Γ : Gm} {σ : Sg} {r : Int32} (C1 : CM Γ cX11_allShowOne RX11 4 (some .boolean) 4 85 0 0 (fun r_ τ_ => (r_ = some (vi r) ∧ (r = 0 ∨ r = 1)) ∧ τ_ = σ)) (hT : sg_T σ) (h0 : is_A σ a0 10) (k39 : Int32 → Int32 → Int32 → Option Int32) (hk39 : ∀ (v1 : Int32) (v2 : Int32) (v3 : Int32) , k39 v1 v2 v3 = some r → J_ Γ 39 [(0, vr (some a0)), (1, vi v1), (2, vi v2), (3, vi v3)] [] σ 0 0) (v1 : Int32) (v3 : Int32) (s0 : Int32) (hf : f_X11_allShowOne_B76 N a0 k39  v1 v3 s0 σ = some r) : J_ Γ 76 [(0, vr (some a0)), (1, vi (v1)), (3, vi (v3))] [vi (s0)] σ 0 0 := by
  have C0 := C1.1
  unfold f_X11_allShowOne_B76 at hf
  refine J_istore_n (q := 77) (lv' := [(2, vi (s0)), (0, vr (some a0)), (1, vi (v1)), (3, vi (v3))]) C0 rfl (G_nl C1 (by decide)) dX11_allShowOne_76 rfl rfl ?_
  refine J_iinc (q := 80) (v := v3 + 1) (lv' := [(3, vi (v3 + 1)), (2, vi (s0)), (0, vr (some a0)), (1, vi (v1))]) C0 3 rfl rfl (G_nl C1 (by decide)) dX11_allShowOne_77 rfl rfl ?_
  refine J_goto (q := 39) C0 dX11_allShowOne_80 (by decide) ?_
  refine J_sub (lv' := [(0, vr (some a0)), (1, vi (v1)), (2, vi (s0)), (3, vi (v3 + 1))]) [2, 3, 1, 0] rfl ?_
  exact hk39 (v1) (s0) (v3 + 1)  hf
set_option maxHeartbeats 4000000 in
set_option maxRecDepth 100000 in
theorem t_X11_allShowOne_B75 {N : Nat} {a0 : Nat} {Γ : Gm} {σ : Sg} {r : Int32} (C1 : CM Γ cX11_allShowOne RX11 4 (some .boolean) 4 85 0 0 (fun r_ τ_ => (r_ = some (vi r) ∧ (r = 0 ∨ r = 1)) ∧ τ_ = σ)) (hT : sg_T σ) (h0 : is_A σ a0 10) (k39 : Int32 → Int32 → Int32 → Option Int32) (hk39 : ∀ (v1 : Int32) (v2 : Int32) (v3 : Int32) , k39 v1 v2 v3 = some r → J_ Γ 39 [(0, vr (some a0)), (1, vi v1), (2, vi v2), (3, vi v3)] [] σ 0 0) (v1 : Int32) (v3 : Int32) (hf : f_X11_allShowOne_B75 N a0 k39  v1 v3 σ = some r) : J_ Γ 75 [(0, vr (some a0)), (1, vi (v1)), (3, vi (v3))] [] σ 0 0 := by
  have C0 := C1.1
  unfold f_X11_allShowOne_B75 at hf
  refine J_iconst (q := 76) (v := 0) C0 dX11_allShowOne_75 rfl rfl ?_
  exact t_X11_allShowOne_B76 C1 (hT) (h0) k39  hk39  (v1) (v3) (0)  hf
set_option maxHeartbeats 4000000 in
set_option maxRecDepth 100000 in
theorem t_X11_allShowOne_L39 {N : Nat} {a0 : Nat} {Γ : Gm} {σ : Sg} {r : Int32} (C1 : CM Γ cX11_allShowOne RX11 4 (some .boolean) 4 85 0 0 (fun r_ τ_ => (r_ = some (vi r) ∧ (r = 0 ∨ r = 1)) ∧ τ_ = σ)) (hT : sg_T σ) (h0 : is_A σ a0 10) : ∀ (n : Nat) (v1 : Int32) (v2 : Int32) (v3 : Int32), f_X11_allShowOne_L39 N a0  n v1 v2 v3 σ = some r → J_ Γ 39 [(0, vr (some a0)), (1, vi (v1)), (2, vi (v2)), (3, vi (v3))] [] σ 0 0 := by
  have C0 := C1.1
  intro n
  induction n with
  | zero => intro v1 v2 v3  hf; unfold f_X11_allShowOne_L39 at hf; cases hf
  | succ n ih =>
    intro v1 v2 v3  hf
    rw [f_X11_allShowOne_L39] at hf
    refine J_iload_n (q := 40) C0 3 rfl rfl dX11_allShowOne_39 rfl ?_
    refine J_aload_n (q := 41) C0 0 rfl rfl dX11_allShowOne_40 rfl trivial ?_
    refine J_getR (q := 44) C0 fl_X11_75_10 rfl (h0) rfl dX11_allShowOne_41 rfl ?_
    refine K_some hf (fun b6 hb6 hf => ?_)
    have ab6 : is_A σ b6 6 := ((sg_T.op hT (j := 13) (h0) rfl)) b6 hb6
    refine J_getI (q := 47) C0 fl_X11_150_6 hb6 (ab6) rfl dX11_allShowOne_44 rfl ?_
    refine J_icmp_ge (t := 83) (q := 50) C0 dX11_allShowOne_47 (by decide) rfl hf (fun c7 hf => ?_) (fun c7 hf => ?_)
    · refine J_iload_n (q := 84) C0 2 rfl rfl dX11_allShowOne_83 rfl ?_
      refine K_chk hf (fun c8 hf => ?_)
      obtain rfl := Option.some.inj hf; exact J_zret C1 dX11_allShowOne_84 rfl (Decidable.not_not.mp c8) (Nat.zero_le _) (Nat.zero_le _) ⟨⟨rfl, (Decidable.not_not.mp c8)⟩, rfl⟩
    · refine J_iload_n (q := 51) C0 2 rfl rfl dX11_allShowOne_50 rfl ?_
      refine J_if_eq (t := 75) (q := 54) C0 dX11_allShowOne_51 (by decide) rfl hf (fun c9 hf => ?_) (fun c9 hf => ?_)
      · refine J_sub (lv' := [(0, vr (some a0)), (1, vi (v1)), (3, vi (v3))]) [0, 1, 3] rfl ?_
        exact t_X11_allShowOne_B75 C1 (hT) (h0) (fun v1 v2 v3 => f_X11_allShowOne_L39 N a0 n v1 v2 v3 σ)  ih  (v1) (v3)  hf
      · refine J_aload_n (q := 55) C0 0 rfl rfl dX11_allShowOne_54 rfl trivial ?_
        refine J_aload_n (q := 56) C0 0 rfl rfl dX11_allShowOne_55 rfl trivial ?_
        refine J_getR (q := 59) C0 fl_X11_75_10 rfl (h0) rfl dX11_allShowOne_56 rfl ?_
        refine J_getR (q := 62) C0 fl_X11_153_6 hb6 (ab6) rfl dX11_allShowOne_59 rfl ?_
        refine J_iload_n (q := 63) C0 3 rfl rfl dX11_allShowOne_62 rfl ?_
        refine K_some hf (fun b10 hb10 hf => ?_)
        have ab10 : is_A σ b10 18 := ((sg_T.op hT (j := 0) (ab6) rfl)) b10 hb10
        refine K_chk hf (fun c11 hf => ?_)
        refine J_aald (q := 64) C0 hb10 (ab10) (by decide) c11 dX11_allShowOne_63 rfl ?_
        refine K_some hf (fun p12 hp12 hf => ?_)
        refine J_callV (q := 67) (ci := 10) (as := [vr (sg_R σ b10 (v3).toNatClampNeg)]) (rest := []) C0 rfl (h0) (t_X11_shown a0 (sg_R σ b10 (v3).toNatClampNeg) (hT) (h0) ((sg_T.op hT (j := (v3).toNatClampNeg) (ab10) rfl)) hp12) ml_X11_shown lk_X11_215 im_X11_shown se_X11_shown rfl (by decide) dX11_allShowOne_64 rfl rfl rfl (by simp [ac_]) C1.room (by decide) (by decide) (by decide) (by decide) (fun r_ τ_ hQ => ?_)
        obtain ⟨rfl, ht_⟩ := hQ; have ht_ := ht_.symm; subst ht_
        show J_ Γ 67 [(0, vr (some a0)), (1, vi (v1)), (2, vi (v2)), (3, vi (v3))] [vi (p12)] σ 0 0
        refine J_iload_n (q := 68) C0 1 rfl rfl dX11_allShowOne_67 rfl ?_
        refine J_icmp_ne (t := 75) (q := 71) C0 dX11_allShowOne_68 (by decide) rfl hf (fun c13 hf => ?_) (fun c13 hf => ?_)
        · refine J_sub (lv' := [(0, vr (some a0)), (1, vi (v1)), (3, vi (v3))]) [0, 1, 3] rfl ?_
          exact t_X11_allShowOne_B75 C1 (hT) (h0) (fun v1 v2 v3 => f_X11_allShowOne_L39 N a0 n v1 v2 v3 σ)  ih  (v1) (v3)  hf
        · refine J_iconst (q := 72) (v := 1) C0 dX11_allShowOne_71 rfl rfl ?_
          refine J_goto (q := 76) C0 dX11_allShowOne_72 (by decide) ?_
          refine J_sub (lv' := [(0, vr (some a0)), (1, vi (v1)), (3, vi (v3))]) [0, 1, 3] rfl ?_
          exact t_X11_allShowOne_B76 C1 (hT) (h0) (fun v1 v2 v3 => f_X11_allShowOne_L39 N a0 n v1 v2 v3 σ)  ih  (v1) (v3) (1)  hf
set_option maxHeartbeats 4000000 in
set_option maxRecDepth 100000 in
theorem t_X11_allShowOne_B36 {N : Nat} {a0 : Nat} {Γ : Gm} {σ : Sg} {r : Int32} (C1 : CM Γ cX11_allShowOne RX11 4 (some .boolean) 4 85 0 0 (fun r_ τ_ => (r_ = some (vi r) ∧ (r = 0 ∨ r = 1)) ∧ τ_ = σ)) (hT : sg_T σ) (h0 : is_A σ a0 10) (v1 : Int32) (s0 : Int32) (hf : f_X11_allShowOne_B36 N a0  v1 s0 σ = some r) : J_ Γ 36 [(0, vr (some a0)), (1, vi (v1))] [vi (s0)] σ 0 0 := by
  have C0 := C1.1
  unfold f_X11_allShowOne_B36 at hf
  refine J_istore_n (q := 37) (lv' := [(2, vi (s0)), (0, vr (some a0)), (1, vi (v1))]) C0 rfl (G_nl C1 (by decide)) dX11_allShowOne_36 rfl rfl ?_
  refine J_iconst (q := 38) (v := 1) C0 dX11_allShowOne_37 rfl rfl ?_
  refine J_istore_n (q := 39) (lv' := [(3, vi (1)), (2, vi (s0)), (0, vr (some a0)), (1, vi (v1))]) C0 rfl (G_nl C1 (by decide)) dX11_allShowOne_38 rfl rfl ?_
  refine J_sub (lv' := [(0, vr (some a0)), (1, vi (v1)), (2, vi (s0)), (3, vi (1))]) [2, 3, 1, 0] rfl ?_
  exact t_X11_allShowOne_L39 C1 (hT) (h0)    N (v1) (s0) (1)  hf
set_option maxHeartbeats 4000000 in
set_option maxRecDepth 100000 in
theorem t_X11_allShowOne_B35 {N : Nat} {a0 : Nat} {Γ : Gm} {σ : Sg} {r : Int32} (C1 : CM Γ cX11_allShowOne RX11 4 (some .boolean) 4 85 0 0 (fun r_ τ_ => (r_ = some (vi r) ∧ (r = 0 ∨ r = 1)) ∧ τ_ = σ)) (hT : sg_T σ) (h0 : is_A σ a0 10) (v1 : Int32) (hf : f_X11_allShowOne_B35 N a0  v1 σ = some r) : J_ Γ 35 [(0, vr (some a0)), (1, vi (v1))] [] σ 0 0 := by
  have C0 := C1.1
  unfold f_X11_allShowOne_B35 at hf
  refine J_iconst (q := 36) (v := 0) C0 dX11_allShowOne_35 rfl rfl ?_
  exact t_X11_allShowOne_B36 C1 (hT) (h0)   (v1) (0)  hf
set_option maxHeartbeats 4000000 in
set_option maxRecDepth 100000 in
theorem t_X11_allShowOne (N : Nat) (a0 : Nat) {σ : Sg} (hT : sg_T σ) (h0 : is_A σ a0 10) {r : Int32} (hf : f_X11_allShowOne N a0  σ = some r) : Ct yX11_allShowOne cX11_allShowOne 4 (some .boolean) 4 85 0 0 [vr (some a0)] σ (fun r_ τ_ => (r_ = some (vi r) ∧ (r = 0 ∨ r = 1)) ∧ τ_ = σ) := by
  refine Ct.of (by decide +kernel) (Nat.le_of_ble_eq_true rfl) (fun Γ C1 => ?_)
  have C0 := C1.1
  unfold f_X11_allShowOne at hf
  show J_ Γ 0 [(0, vr (some a0))] [] σ 0 0
  refine J_aload_n (q := 1) C0 0 rfl rfl dX11_allShowOne_0 rfl trivial ?_
  refine J_aload_n (q := 2) C0 0 rfl rfl dX11_allShowOne_1 rfl trivial ?_
  refine J_getR (q := 5) C0 fl_X11_75_10 rfl (h0) rfl dX11_allShowOne_2 rfl ?_
  refine K_some hf (fun b1 hb1 hf => ?_)
  have ab1 : is_A σ b1 6 := ((sg_T.op hT (j := 13) (h0) rfl)) b1 hb1
  refine J_getR (q := 8) C0 fl_X11_153_6 hb1 (ab1) rfl dX11_allShowOne_5 rfl ?_
  refine J_iconst (q := 9) (v := 0) C0 dX11_allShowOne_8 rfl rfl ?_
  refine K_some hf (fun b2 hb2 hf => ?_)
  have ab2 : is_A σ b2 18 := ((sg_T.op hT (j := 0) (ab1) rfl)) b2 hb2
  refine K_chk hf (fun c3 hf => ?_)
  refine J_aald (q := 10) C0 hb2 (ab2) (by decide) c3 dX11_allShowOne_9 rfl ?_
  refine K_some hf (fun p4 hp4 hf => ?_)
  refine J_callV (q := 13) (ci := 10) (as := [vr (sg_R σ b2 (0 : Int32).toNatClampNeg)]) (rest := []) C0 rfl (h0) (t_X11_shown a0 (sg_R σ b2 (0 : Int32).toNatClampNeg) (hT) (h0) ((sg_T.op hT (j := (0 : Int32).toNatClampNeg) (ab2) rfl)) hp4) ml_X11_shown lk_X11_215 im_X11_shown se_X11_shown rfl (by decide) dX11_allShowOne_10 rfl rfl rfl (by simp [ac_]) C1.room (by decide) (by decide) (by decide) (by decide) (fun r_ τ_ hQ => ?_)
  obtain ⟨rfl, ht_⟩ := hQ; have ht_ := ht_.symm; subst ht_
  show J_ Γ 13 [(0, vr (some a0))] [vi (p4)] σ 0 0
  refine J_istore_n (q := 14) (lv' := [(1, vi (p4)), (0, vr (some a0))]) C0 rfl (G_nl C1 (by decide)) dX11_allShowOne_13 rfl rfl ?_
  refine J_aload_n (q := 15) C0 1 rfl rfl dX11_allShowOne_14 rfl trivial ?_
  refine J_getR (q := 18) C0 fl_X11_75_10 rfl (h0) rfl dX11_allShowOne_15 rfl ?_
  refine J_getI (q := 21) C0 fl_X11_150_6 hb1 (ab1) rfl dX11_allShowOne_18 rfl ?_
  refine J_iconst (q := 22) (v := 1) C0 dX11_allShowOne_21 rfl rfl ?_
  refine J_icmp_le (t := 35) (q := 25) C0 dX11_allShowOne_22 (by decide) rfl hf (fun c5 hf => ?_) (fun c5 hf => ?_)
  · refine J_sub (lv' := [(0, vr (some a0)), (1, vi (p4))]) [1, 0] rfl ?_
    exact t_X11_allShowOne_B35 C1 (hT) (h0)   (p4)  hf
  · refine J_iload_n (q := 26) C0 0 rfl rfl dX11_allShowOne_25 rfl ?_
    refine J_bipush (q := 28) (v := 26) C0 dX11_allShowOne_26 rfl rfl ?_
    refine J_icmp_eq (t := 35) (q := 31) C0 dX11_allShowOne_28 (by decide) rfl hf (fun c14 hf => ?_) (fun c14 hf => ?_)
    · refine J_sub (lv' := [(0, vr (some a0)), (1, vi (p4))]) [1, 0] rfl ?_
      exact t_X11_allShowOne_B35 C1 (hT) (h0)   (p4)  hf
    · refine J_iconst (q := 32) (v := 1) C0 dX11_allShowOne_31 rfl rfl ?_
      refine J_goto (q := 36) C0 dX11_allShowOne_32 (by decide) ?_
      refine J_sub (lv' := [(0, vr (some a0)), (1, vi (p4))]) [1, 0] rfl ?_
      exact t_X11_allShowOne_B36 C1 (hT) (h0)   (p4) (1)  hf
