def f_X12_commonest_B28 (N : Nat) (a0 : Nat) (k4 : Int32 → Int32 → Option Int32) (v2 : Int32) (s0 : Int32) (σ : Sg) : Option Int32 :=
  k4 (s0) (v2 + 1)
def f_X12_commonest_L4 (N : Nat) (a0 : Nat) : Nat → Int32 → Int32 → Sg → Option Int32
  | 0, _, _, _ => none
  | n + 1, v1, v2, σ =>
  if (v2) < (26) then
  (Option.bind (f_X12_stripsWith N a0 (v2) σ) fun p4 =>
  Option.bind (f_X12_stripsWith N a0 (v1) σ) fun p5 =>
  if (p5) < (p4) then
  (f_X12_commonest_B28 N a0 (fun v1 v2 => f_X12_commonest_L4 N a0 n v1 v2 σ) (v2) (v2) σ)
  else
  (f_X12_commonest_B28 N a0 (fun v1 v2 => f_X12_commonest_L4 N a0 n v1 v2 σ) (v2) (v1) σ))
  else
  (Option.bind (f_X12_stripsWith N a0 (v1) σ) fun p2 =>
  if (p2) = (0) then
  (some ((-1)))
  else
  (some (v1)))
def f_X12_commonest (N : Nat) (a0 : Nat) (σ : Sg) : Option Int32 :=
  f_X12_commonest_L4 N a0 N (0) (1) σ
set_option maxHeartbeats 4000000 in
set_option maxRecDepth 100000 in
theorem t_X12_commonest_B28 {N : Nat} {a0 : Nat} {Γ : Gm} {σ : Sg} {r : Int32} (C1 : CM Γ cX12_commonest RX12 3 (some .int) 1 25 0 0 (fun r_ τ_ => (r_ = some (vi r)) ∧ τ_ = σ)) (hT : sg_T σ) (h0 : is_A σ a0 11) (k4 : Int32 → Int32 → Option Int32) (hk4 : ∀ (v1 : Int32) (v2 : Int32) , k4 v1 v2 = some r → J_ Γ 4 [(0, vr (some a0)), (1, vi v1), (2, vi v2)] [] σ 0 0) (v2 : Int32) (s0 : Int32) (hf : f_X12_commonest_B28 N a0 k4  v2 s0 σ = some r) : J_ Γ 28 [(0, vr (some a0)), (2, vi (v2))] [vi (s0)] σ 0 0 := by
  have C0 := C1.1
  unfold f_X12_commonest_B28 at hf
  refine J_istore_n (q := 29) (lv' := [(1, vi (s0)), (0, vr (some a0)), (2, vi (v2))]) C0 rfl (G_nl C1 (by decide)) dX12_commonest_28 rfl rfl ?_
  refine J_iinc (q := 32) (v := v2 + 1) (lv' := [(2, vi (v2 + 1)), (1, vi (s0)), (0, vr (some a0))]) C0 2 rfl rfl (G_nl C1 (by decide)) dX12_commonest_29 rfl rfl ?_
  refine J_goto (q := 4) C0 dX12_commonest_32 (by decide) ?_
  refine J_sub (lv' := [(0, vr (some a0)), (1, vi (s0)), (2, vi (v2 + 1))]) [2, 1, 0] rfl ?_
  exact hk4 (s0) (v2 + 1)  hf
set_option maxHeartbeats 4000000 in
set_option maxRecDepth 100000 in
theorem t_X12_commonest_L4 {N : Nat} {a0 : Nat} {Γ : Gm} {σ : Sg} {r : Int32} (C1 : CM Γ cX12_commonest RX12 3 (some .int) 1 25 0 0 (fun r_ τ_ => (r_ = some (vi r)) ∧ τ_ = σ)) (hT : sg_T σ) (h0 : is_A σ a0 11) : ∀ (n : Nat) (v1 : Int32) (v2 : Int32), f_X12_commonest_L4 N a0  n v1 v2 σ = some r → J_ Γ 4 [(0, vr (some a0)), (1, vi (v1)), (2, vi (v2))] [] σ 0 0 := by
  have C0 := C1.1
  intro n
  induction n with
  | zero => intro v1 v2  hf; unfold f_X12_commonest_L4 at hf; cases hf
  | succ n ih =>
    intro v1 v2  hf
    rw [f_X12_commonest_L4] at hf
    refine J_iload_n (q := 5) C0 2 rfl rfl dX12_commonest_4 rfl ?_
    refine J_bipush (q := 7) (v := 26) C0 dX12_commonest_5 rfl rfl ?_
    refine J_icmp_ge (t := 35) (q := 10) C0 dX12_commonest_7 (by decide) rfl hf (fun c1 hf => ?_) (fun c1 hf => ?_)
    · refine J_aload_n (q := 36) C0 0 rfl rfl dX12_commonest_35 rfl trivial ?_
      refine J_iload_n (q := 37) C0 1 rfl rfl dX12_commonest_36 rfl ?_
      refine K_some hf (fun p2 hp2 hf => ?_)
      refine J_callV (q := 40) (ci := 11) (as := [vi (v1)]) (rest := []) C0 rfl (h0) (t_X12_stripsWith N a0 (v1) (hT) (h0)  hp2) ml_X12_stripsWith lk_X12_419 im_X12_stripsWith se_X12_stripsWith rfl (by decide) dX12_commonest_37 rfl rfl rfl (by simp [ac_]) C1.room (by decide) (by decide) (by decide) (by decide) (fun r_ τ_ hQ => ?_)
      obtain ⟨rfl, ht_⟩ := hQ; have ht_ := ht_.symm; subst ht_
      show J_ Γ 40 [(0, vr (some a0)), (1, vi (v1)), (2, vi (v2))] [vi (p2)] σ 0 0
      refine J_if_ne (t := 47) (q := 43) C0 dX12_commonest_40 (by decide) rfl hf (fun c3 hf => ?_) (fun c3 hf => ?_)
      · refine J_iload_n (q := 48) C0 1 rfl rfl dX12_commonest_47 rfl ?_
        obtain rfl := Option.some.inj hf; exact J_iret C1 dX12_commonest_48 rfl (Nat.zero_le _) (Nat.zero_le _) ⟨rfl, rfl⟩
      · refine J_iconst (q := 44) (v := (-1)) C0 dX12_commonest_43 rfl rfl ?_
        refine J_goto (q := 48) C0 dX12_commonest_44 (by decide) ?_
        obtain rfl := Option.some.inj hf; exact J_iret C1 dX12_commonest_48 rfl (Nat.zero_le _) (Nat.zero_le _) ⟨rfl, rfl⟩
    · refine J_aload_n (q := 11) C0 0 rfl rfl dX12_commonest_10 rfl trivial ?_
      refine J_iload_n (q := 12) C0 2 rfl rfl dX12_commonest_11 rfl ?_
      refine K_some hf (fun p4 hp4 hf => ?_)
      refine J_callV (q := 15) (ci := 11) (as := [vi (v2)]) (rest := []) C0 rfl (h0) (t_X12_stripsWith N a0 (v2) (hT) (h0)  hp4) ml_X12_stripsWith lk_X12_419 im_X12_stripsWith se_X12_stripsWith rfl (by decide) dX12_commonest_12 rfl rfl rfl (by simp [ac_]) C1.room (by decide) (by decide) (by decide) (by decide) (fun r_ τ_ hQ => ?_)
      obtain ⟨rfl, ht_⟩ := hQ; have ht_ := ht_.symm; subst ht_
      show J_ Γ 15 [(0, vr (some a0)), (1, vi (v1)), (2, vi (v2))] [vi (p4)] σ 0 0
      refine J_aload_n (q := 16) C0 0 rfl rfl dX12_commonest_15 rfl trivial ?_
      refine J_iload_n (q := 17) C0 1 rfl rfl dX12_commonest_16 rfl ?_
      refine K_some hf (fun p5 hp5 hf => ?_)
      refine J_callV (q := 20) (ci := 11) (as := [vi (v1)]) (rest := [vi (p4)]) C0 rfl (h0) (t_X12_stripsWith N a0 (v1) (hT) (h0)  hp5) ml_X12_stripsWith lk_X12_419 im_X12_stripsWith se_X12_stripsWith rfl (by decide) dX12_commonest_17 rfl rfl rfl (by simp [ac_]) C1.room (by decide) (by decide) (by decide) (by decide) (fun r_ τ_ hQ => ?_)
      obtain ⟨rfl, ht_⟩ := hQ; have ht_ := ht_.symm; subst ht_
      show J_ Γ 20 [(0, vr (some a0)), (1, vi (v1)), (2, vi (v2))] [vi (p5), vi (p4)] σ 0 0
      refine J_icmp_le (t := 27) (q := 23) C0 dX12_commonest_20 (by decide) rfl hf (fun c6 hf => ?_) (fun c6 hf => ?_)
      · refine J_iload_n (q := 28) C0 1 rfl rfl dX12_commonest_27 rfl ?_
        refine J_sub (lv' := [(0, vr (some a0)), (2, vi (v2))]) [0, 2] rfl ?_
        exact t_X12_commonest_B28 C1 (hT) (h0) (fun v1 v2 => f_X12_commonest_L4 N a0 n v1 v2 σ)  ih  (v2) (v1)  hf
      · refine J_iload_n (q := 24) C0 2 rfl rfl dX12_commonest_23 rfl ?_
        refine J_goto (q := 28) C0 dX12_commonest_24 (by decide) ?_
        refine J_sub (lv' := [(0, vr (some a0)), (2, vi (v2))]) [0, 2] rfl ?_
        exact t_X12_commonest_B28 C1 (hT) (h0) (fun v1 v2 => f_X12_commonest_L4 N a0 n v1 v2 σ)  ih  (v2) (v2)  hf
set_option maxHeartbeats 4000000 in
set_option maxRecDepth 100000 in
theorem t_X12_commonest (N : Nat) (a0 : Nat) {σ : Sg} (hT : sg_T σ) (h0 : is_A σ a0 11) {r : Int32} (hf : f_X12_commonest N a0  σ = some r) : Ct yX12_commonest cX12_commonest 3 (some .int) 1 25 0 0 [vr (some a0)] σ (fun r_ τ_ => (r_ = some (vi r)) ∧ τ_ = σ) := by
  refine Ct.of (by decide +kernel) (Nat.le_of_ble_eq_true rfl) (fun Γ C1 => ?_)
  have C0 := C1.1
  unfold f_X12_commonest at hf
  show J_ Γ 0 [(0, vr (some a0))] [] σ 0 0
  refine J_iconst (q := 1) (v := 0) C0 dX12_commonest_0 rfl rfl ?_
  refine J_istore_n (q := 2) (lv' := [(1, vi (0)), (0, vr (some a0))]) C0 rfl (G_nl C1 (by decide)) dX12_commonest_1 rfl rfl ?_
  refine J_iconst (q := 3) (v := 1) C0 dX12_commonest_2 rfl rfl ?_
  refine J_istore_n (q := 4) (lv' := [(2, vi (1)), (1, vi (0)), (0, vr (some a0))]) C0 rfl (G_nl C1 (by decide)) dX12_commonest_3 rfl rfl ?_
  refine J_sub (lv' := [(0, vr (some a0)), (1, vi (0)), (2, vi (1))]) [2, 1, 0] rfl ?_
  exact t_X12_commonest_L4 C1 (hT) (h0)    N (0) (1)  hf
def f_X12_shownOnes_B34 (N : Nat) (a0 : Nat) (k4 : Int32 → Int32 → Option Int32) (v2 : Int32) (s0 : Int32) (s1 : Int32) (σ : Sg) : Option Int32 :=
  k4 ((s1) ||| (s0)) (v2 + 1)
def f_X12_shownOnes_L4 (N : Nat) (a0 : Nat) : Nat → Int32 → Int32 → Sg → Option Int32
  | 0, _, _, _ => none
  | n + 1, v1, v2, σ =>
  if (v2) < (sg_I σ a0 20) then
  (Option.bind (f_X12_showsOf a0 (v2) σ) fun p2 =>
  if (p2) = (26) then
  (f_X12_shownOnes_B34 N a0 (fun v1 v2 => f_X12_shownOnes_L4 N a0 n v1 v2 σ) (v2) (0) (v1) σ)
  else
  (Option.bind (f_X12_showsOf a0 (v2) σ) fun p4 =>
  f_X12_shownOnes_B34 N a0 (fun v1 v2 => f_X12_shownOnes_L4 N a0 n v1 v2 σ) (v2) ((1) <<< ((p4) &&& 31)) (v1) σ))
  else
  (some (v1))
def f_X12_shownOnes (N : Nat) (a0 : Nat) (σ : Sg) : Option Int32 :=
  f_X12_shownOnes_L4 N a0 N (0) (0) σ
set_option maxHeartbeats 4000000 in
set_option maxRecDepth 100000 in
theorem t_X12_shownOnes_B34 {N : Nat} {a0 : Nat} {Γ : Gm} {σ : Sg} {r : Int32} (C1 : CM Γ cX12_shownOnes RX12 3 (some .int) 2 43 0 0 (fun r_ τ_ => (r_ = some (vi r)) ∧ τ_ = σ)) (hT : sg_T σ) (h0 : is_A σ a0 11) (k4 : Int32 → Int32 → Option Int32) (hk4 : ∀ (v1 : Int32) (v2 : Int32) , k4 v1 v2 = some r → J_ Γ 4 [(0, vr (some a0)), (1, vi v1), (2, vi v2)] [] σ 0 0) (v2 : Int32) (s0 : Int32) (s1 : Int32) (hf : f_X12_shownOnes_B34 N a0 k4  v2 s0 s1 σ = some r) : J_ Γ 34 [(0, vr (some a0)), (2, vi (v2))] [vi (s0), vi (s1)] σ 0 0 := by
  have C0 := C1.1
  unfold f_X12_shownOnes_B34 at hf
  refine J_ior (q := 35) C0 dX12_shownOnes_34 rfl ?_
  refine J_istore_n (q := 36) (lv' := [(1, vi ((s1) ||| (s0))), (0, vr (some a0)), (2, vi (v2))]) C0 rfl (G_nl C1 (by decide)) dX12_shownOnes_35 rfl rfl ?_
  refine J_iinc (q := 39) (v := v2 + 1) (lv' := [(2, vi (v2 + 1)), (1, vi ((s1) ||| (s0))), (0, vr (some a0))]) C0 2 rfl rfl (G_nl C1 (by decide)) dX12_shownOnes_36 rfl rfl ?_
  refine J_goto (q := 4) C0 dX12_shownOnes_39 (by decide) ?_
  refine J_sub (lv' := [(0, vr (some a0)), (1, vi ((s1) ||| (s0))), (2, vi (v2 + 1))]) [2, 1, 0] rfl ?_
  exact hk4 ((s1) ||| (s0)) (v2 + 1)  hf
set_option maxHeartbeats 4000000 in
set_option maxRecDepth 100000 in
theorem t_X12_shownOnes_L4 {N : Nat} {a0 : Nat} {Γ : Gm} {σ : Sg} {r : Int32} (C1 : CM Γ cX12_shownOnes RX12 3 (some .int) 2 43 0 0 (fun r_ τ_ => (r_ = some (vi r)) ∧ τ_ = σ)) (hT : sg_T σ) (h0 : is_A σ a0 11) : ∀ (n : Nat) (v1 : Int32) (v2 : Int32), f_X12_shownOnes_L4 N a0  n v1 v2 σ = some r → J_ Γ 4 [(0, vr (some a0)), (1, vi (v1)), (2, vi (v2))] [] σ 0 0 := by
  have C0 := C1.1
  intro n
  induction n with
  | zero => intro v1 v2  hf; unfold f_X12_shownOnes_L4 at hf; cases hf
  | succ n ih =>
    intro v1 v2  hf
    rw [f_X12_shownOnes_L4] at hf
    refine J_iload_n (q := 5) C0 2 rfl rfl dX12_shownOnes_4 rfl ?_
    refine J_aload_n (q := 6) C0 0 rfl rfl dX12_shownOnes_5 rfl trivial ?_
    refine J_getI (q := 9) C0 fl_X12_263_11 rfl (h0) rfl dX12_shownOnes_6 rfl ?_
    refine J_icmp_ge (t := 42) (q := 12) C0 dX12_shownOnes_9 (by decide) rfl hf (fun c1 hf => ?_) (fun c1 hf => ?_)
    · refine J_iload_n (q := 43) C0 1 rfl rfl dX12_shownOnes_42 rfl ?_
      obtain rfl := Option.some.inj hf; exact J_iret C1 dX12_shownOnes_43 rfl (Nat.zero_le _) (Nat.zero_le _) ⟨rfl, rfl⟩
    · refine J_iload_n (q := 13) C0 1 rfl rfl dX12_shownOnes_12 rfl ?_
      refine J_aload_n (q := 14) C0 0 rfl rfl dX12_shownOnes_13 rfl trivial ?_
      refine J_iload_n (q := 15) C0 2 rfl rfl dX12_shownOnes_14 rfl ?_
      refine K_some hf (fun p2 hp2 hf => ?_)
      refine J_callV (q := 18) (ci := 11) (as := [vi (v2)]) (rest := [vi (v1)]) C0 rfl (h0) (t_X12_showsOf a0 (v2) (hT) (h0)  hp2) ml_X12_showsOf lk_X12_304 im_X12_showsOf se_X12_showsOf rfl (by decide) dX12_shownOnes_15 rfl rfl rfl (by simp [ac_]) C1.room (by decide) (by decide) (by decide) (by decide) (fun r_ τ_ hQ => ?_)
      obtain ⟨rfl, ht_⟩ := hQ; have ht_ := ht_.symm; subst ht_
      show J_ Γ 18 [(0, vr (some a0)), (1, vi (v1)), (2, vi (v2))] [vi (p2), vi (v1)] σ 0 0
      refine J_bipush (q := 20) (v := 26) C0 dX12_shownOnes_18 rfl rfl ?_
      refine J_icmp_ne (t := 27) (q := 23) C0 dX12_shownOnes_20 (by decide) rfl hf (fun c3 hf => ?_) (fun c3 hf => ?_)
      · refine J_iconst (q := 28) (v := 1) C0 dX12_shownOnes_27 rfl rfl ?_
        refine J_aload_n (q := 29) C0 0 rfl rfl dX12_shownOnes_28 rfl trivial ?_
        refine J_iload_n (q := 30) C0 2 rfl rfl dX12_shownOnes_29 rfl ?_
        refine K_some hf (fun p4 hp4 hf => ?_)
        refine J_callV (q := 33) (ci := 11) (as := [vi (v2)]) (rest := [vi (1), vi (v1)]) C0 rfl (h0) (t_X12_showsOf a0 (v2) (hT) (h0)  hp4) ml_X12_showsOf lk_X12_304 im_X12_showsOf se_X12_showsOf rfl (by decide) dX12_shownOnes_30 rfl rfl rfl (by simp [ac_]) C1.room (by decide) (by decide) (by decide) (by decide) (fun r_ τ_ hQ => ?_)
        obtain ⟨rfl, ht_⟩ := hQ; have ht_ := ht_.symm; subst ht_
        show J_ Γ 33 [(0, vr (some a0)), (1, vi (v1)), (2, vi (v2))] [vi (p4), vi (1), vi (v1)] σ 0 0
        refine J_ishl (q := 34) C0 dX12_shownOnes_33 rfl ?_
        refine J_sub (lv' := [(0, vr (some a0)), (2, vi (v2))]) [0, 2] rfl ?_
        exact t_X12_shownOnes_B34 C1 (hT) (h0) (fun v1 v2 => f_X12_shownOnes_L4 N a0 n v1 v2 σ)  ih  (v2) ((1) <<< ((p4) &&& 31)) (v1)  hf
      · refine J_iconst (q := 24) (v := 0) C0 dX12_shownOnes_23 rfl rfl ?_
        refine J_goto (q := 34) C0 dX12_shownOnes_24 (by decide) ?_
        refine J_sub (lv' := [(0, vr (some a0)), (2, vi (v2))]) [0, 2] rfl ?_
        exact t_X12_shownOnes_B34 C1 (hT) (h0) (fun v1 v2 => f_X12_shownOnes_L4 N a0 n v1 v2 σ)  ih  (v2) (0) (v1)  hf
set_option maxHeartbeats 4000000 in
set_option maxRecDepth 100000 in
theorem t_X12_shownOnes (N : Nat) (a0 : Nat) {σ : Sg} (hT : sg_T σ) (h0 : is_A σ a0 11) {r : Int32} (hf : f_X12_shownOnes N a0  σ = some r) : Ct yX12_shownOnes cX12_shownOnes 3 (some .int) 2 43 0 0 [vr (some a0)] σ (fun r_ τ_ => (r_ = some (vi r)) ∧ τ_ = σ) := by
  refine Ct.of (by decide +kernel) (Nat.le_of_ble_eq_true rfl) (fun Γ C1 => ?_)
  have C0 := C1.1
  unfold f_X12_shownOnes at hf
  show J_ Γ 0 [(0, vr (some a0))] [] σ 0 0
  refine J_iconst (q := 1) (v := 0) C0 dX12_shownOnes_0 rfl rfl ?_
  refine J_istore_n (q := 2) (lv' := [(1, vi (0)), (0, vr (some a0))]) C0 rfl (G_nl C1 (by decide)) dX12_shownOnes_1 rfl rfl ?_
  refine J_iconst (q := 3) (v := 0) C0 dX12_shownOnes_2 rfl rfl ?_
  refine J_istore_n (q := 4) (lv' := [(2, vi (0)), (1, vi (0)), (0, vr (some a0))]) C0 rfl (G_nl C1 (by decide)) dX12_shownOnes_3 rfl rfl ?_
  refine J_sub (lv' := [(0, vr (some a0)), (1, vi (0)), (2, vi (0))]) [2, 1, 0] rfl ?_
  exact t_X12_shownOnes_L4 C1 (hT) (h0)    N (0) (0)  hf
def f_X12_twins_B48 (N : Nat) (a0 : Nat) (k4 : Int32 → Int32 → Option Int32) (k14 : Int32 → Int32 → Int32 → Option Int32) (v2 : Int32) (v3 : Int32) (s0 : Int32) (s1 : Int32) (σ : Sg) : Option Int32 :=
  k14 ((s1) + (s0)) (v2) (v3 + 1)
def f_X12_twins_B47 (N : Nat) (a0 : Nat) (k4 : Int32 → Int32 → Option Int32) (k14 : Int32 → Int32 → Int32 → Option Int32) (v2 : Int32) (v3 : Int32) (s0 : Int32) (σ : Sg) : Option Int32 :=
  f_X12_twins_B48 N a0 k4 k14 (v2) (v3) (0) (s0) σ
def f_X12_twins_L14 (N : Nat) (a0 : Nat) (k4 : Int32 → Int32 → Option Int32) : Nat → Int32 → Int32 → Int32 → Sg → Option Int32
  | 0, _, _, _, _ => none
  | n + 1, v1, v2, v3, σ =>
  if (v3) < (v2) then
  (Option.bind (f_X12_showsOf a0 (v2) σ) fun p3 =>
  if (p3) = (26) then
  (f_X12_twins_B47 N a0 k4 (fun v1 v2 v3 => f_X12_twins_L14 N a0 k4 n v1 v2 v3 σ) (v2) (v3) (v1) σ)
  else
  (Option.bind (f_X12_showsOf a0 (v2) σ) fun p5 =>
  Option.bind (f_X12_showsOf a0 (v3) σ) fun p6 =>
  if (p5) = (p6) then
  (f_X12_twins_B48 N a0 k4 (fun v1 v2 v3 => f_X12_twins_L14 N a0 k4 n v1 v2 v3 σ) (v2) (v3) (1) (v1) σ)
  else
  (f_X12_twins_B47 N a0 k4 (fun v1 v2 v3 => f_X12_twins_L14 N a0 k4 n v1 v2 v3 σ) (v2) (v3) (v1) σ)))
  else
  (k4 (v1) (v2 + 1))
def f_X12_twins_L4 (N : Nat) (a0 : Nat) : Nat → Int32 → Int32 → Sg → Option Int32
  | 0, _, _, _ => none
  | n + 1, v1, v2, σ =>
  if (v2) < (sg_I σ a0 20) then
  (f_X12_twins_L14 N a0 (fun v1 v2 => f_X12_twins_L4 N a0 n v1 v2 σ) N (v1) (v2) (0) σ)
  else
  (some (v1))
def f_X12_twins (N : Nat) (a0 : Nat) (σ : Sg) : Option Int32 :=
  f_X12_twins_L4 N a0 N (0) (0) σ
set_option maxHeartbeats 4000000 in
set_option maxRecDepth 100000 in
theorem t_X12_twins_B48 {N : Nat} {a0 : Nat} {Γ : Gm} {σ : Sg} {r : Int32} (C1 : CM Γ cX12_twins RX12 4 (some .int) 2 43 0 0 (fun r_ τ_ => (r_ = some (vi r)) ∧ τ_ = σ)) (hT : sg_T σ) (h0 : is_A σ a0 11) (k4 : Int32 → Int32 → Option Int32) (k14 : Int32 → Int32 → Int32 → Option Int32) (hk4 : ∀ (v1 : Int32) (v2 : Int32) , k4 v1 v2 = some r → J_ Γ 4 [(0, vr (some a0)), (1, vi v1), (2, vi v2)] [] σ 0 0) (hk14 : ∀ (v1 : Int32) (v2 : Int32) (v3 : Int32) , k14 v1 v2 v3 = some r → J_ Γ 14 [(0, vr (some a0)), (1, vi v1), (2, vi v2), (3, vi v3)] [] σ 0 0) (v2 : Int32) (v3 : Int32) (s0 : Int32) (s1 : Int32) (hf : f_X12_twins_B48 N a0 k4 k14  v2 v3 s0 s1 σ = some r) : J_ Γ 48 [(0, vr (some a0)), (2, vi (v2)), (3, vi (v3))] [vi (s0), vi (s1)] σ 0 0 := by
  have C0 := C1.1
  unfold f_X12_twins_B48 at hf
  refine J_iadd (q := 49) C0 dX12_twins_48 rfl ?_
  refine J_istore_n (q := 50) (lv' := [(1, vi ((s1) + (s0))), (0, vr (some a0)), (2, vi (v2)), (3, vi (v3))]) C0 rfl (G_nl C1 (by decide)) dX12_twins_49 rfl rfl ?_
  refine J_iinc (q := 53) (v := v3 + 1) (lv' := [(3, vi (v3 + 1)), (1, vi ((s1) + (s0))), (0, vr (some a0)), (2, vi (v2))]) C0 3 rfl rfl (G_nl C1 (by decide)) dX12_twins_50 rfl rfl ?_
  refine J_goto (q := 14) C0 dX12_twins_53 (by decide) ?_
  refine J_sub (lv' := [(0, vr (some a0)), (1, vi ((s1) + (s0))), (2, vi (v2)), (3, vi (v3 + 1))]) [2, 1, 3, 0] rfl ?_
  exact hk14 ((s1) + (s0)) (v2) (v3 + 1)  hf
set_option maxHeartbeats 4000000 in
set_option maxRecDepth 100000 in
theorem t_X12_twins_B47 {N : Nat} {a0 : Nat} {Γ : Gm} {σ : Sg} {r : Int32} (C1 : CM Γ cX12_twins RX12 4 (some .int) 2 43 0 0 (fun r_ τ_ => (r_ = some (vi r)) ∧ τ_ = σ)) (hT : sg_T σ) (h0 : is_A σ a0 11) (k4 : Int32 → Int32 → Option Int32) (k14 : Int32 → Int32 → Int32 → Option Int32) (hk4 : ∀ (v1 : Int32) (v2 : Int32) , k4 v1 v2 = some r → J_ Γ 4 [(0, vr (some a0)), (1, vi v1), (2, vi v2)] [] σ 0 0) (hk14 : ∀ (v1 : Int32) (v2 : Int32) (v3 : Int32) , k14 v1 v2 v3 = some r → J_ Γ 14 [(0, vr (some a0)), (1, vi v1), (2, vi v2), (3, vi v3)] [] σ 0 0) (v2 : Int32) (v3 : Int32) (s0 : Int32) (hf : f_X12_twins_B47 N a0 k4 k14  v2 v3 s0 σ = some r) : J_ Γ 47 [(0, vr (some a0)), (2, vi (v2)), (3, vi (v3))] [vi (s0)] σ 0 0 := by
  have C0 := C1.1
  unfold f_X12_twins_B47 at hf
  refine J_iconst (q := 48) (v := 0) C0 dX12_twins_47 rfl rfl ?_
  exact t_X12_twins_B48 C1 (hT) (h0) k4  k14  hk4  hk14  (v2) (v3) (0) (s0)  hf
set_option maxHeartbeats 4000000 in
set_option maxRecDepth 100000 in
theorem t_X12_twins_L14 {N : Nat} {a0 : Nat} {Γ : Gm} {σ : Sg} {r : Int32} (C1 : CM Γ cX12_twins RX12 4 (some .int) 2 43 0 0 (fun r_ τ_ => (r_ = some (vi r)) ∧ τ_ = σ)) (hT : sg_T σ) (h0 : is_A σ a0 11) (k4 : Int32 → Int32 → Option Int32) (hk4 : ∀ (v1 : Int32) (v2 : Int32) , k4 v1 v2 = some r → J_ Γ 4 [(0, vr (some a0)), (1, vi v1), (2, vi v2)] [] σ 0 0) : ∀ (n : Nat) (v1 : Int32) (v2 : Int32) (v3 : Int32), f_X12_twins_L14 N a0 k4  n v1 v2 v3 σ = some r → J_ Γ 14 [(0, vr (some a0)), (1, vi (v1)), (2, vi (v2)), (3, vi (v3))] [] σ 0 0 := by
  have C0 := C1.1
  intro n
  induction n with
  | zero => intro v1 v2 v3  hf; unfold f_X12_twins_L14 at hf; cases hf
  | succ n ih =>
    intro v1 v2 v3  hf
    rw [f_X12_twins_L14] at hf
    refine J_iload_n (q := 15) C0 3 rfl rfl dX12_twins_14 rfl ?_
    refine J_iload_n (q := 16) C0 2 rfl rfl dX12_twins_15 rfl ?_
    refine J_icmp_ge (t := 56) (q := 19) C0 dX12_twins_16 (by decide) rfl hf (fun c2 hf => ?_) (fun c2 hf => ?_)
    · refine J_iinc (q := 59) (v := v2 + 1) (lv' := [(2, vi (v2 + 1)), (0, vr (some a0)), (1, vi (v1)), (3, vi (v3))]) C0 2 rfl rfl (G_nl C1 (by decide)) dX12_twins_56 rfl rfl ?_
      refine J_goto (q := 4) C0 dX12_twins_59 (by decide) ?_
      refine J_sub (lv' := [(0, vr (some a0)), (1, vi (v1)), (2, vi (v2 + 1))]) [1, 2, 0] rfl ?_
      exact hk4 (v1) (v2 + 1)  hf
    · refine J_iload_n (q := 20) C0 1 rfl rfl dX12_twins_19 rfl ?_
      refine J_aload_n (q := 21) C0 0 rfl rfl dX12_twins_20 rfl trivial ?_
      refine J_iload_n (q := 22) C0 2 rfl rfl dX12_twins_21 rfl ?_
      refine K_some hf (fun p3 hp3 hf => ?_)
      refine J_callV (q := 25) (ci := 11) (as := [vi (v2)]) (rest := [vi (v1)]) C0 rfl (h0) (t_X12_showsOf a0 (v2) (hT) (h0)  hp3) ml_X12_showsOf lk_X12_304 im_X12_showsOf se_X12_showsOf rfl (by decide) dX12_twins_22 rfl rfl rfl (by simp [ac_]) C1.room (by decide) (by decide) (by decide) (by decide) (fun r_ τ_ hQ => ?_)
      obtain ⟨rfl, ht_⟩ := hQ; have ht_ := ht_.symm; subst ht_
      show J_ Γ 25 [(0, vr (some a0)), (1, vi (v1)), (2, vi (v2)), (3, vi (v3))] [vi (p3), vi (v1)] σ 0 0
      refine J_bipush (q := 27) (v := 26) C0 dX12_twins_25 rfl rfl ?_
      refine J_icmp_eq (t := 47) (q := 30) C0 dX12_twins_27 (by decide) rfl hf (fun c4 hf => ?_) (fun c4 hf => ?_)
      · refine J_sub (lv' := [(0, vr (some a0)), (2, vi (v2)), (3, vi (v3))]) [0, 2, 3] rfl ?_
        exact t_X12_twins_B47 C1 (hT) (h0) k4  (fun v1 v2 v3 => f_X12_twins_L14 N a0 k4 n v1 v2 v3 σ)  hk4  ih  (v2) (v3) (v1)  hf
      · refine J_aload_n (q := 31) C0 0 rfl rfl dX12_twins_30 rfl trivial ?_
        refine J_iload_n (q := 32) C0 2 rfl rfl dX12_twins_31 rfl ?_
        refine K_some hf (fun p5 hp5 hf => ?_)
        refine J_callV (q := 35) (ci := 11) (as := [vi (v2)]) (rest := [vi (v1)]) C0 rfl (h0) (t_X12_showsOf a0 (v2) (hT) (h0)  hp5) ml_X12_showsOf lk_X12_304 im_X12_showsOf se_X12_showsOf rfl (by decide) dX12_twins_32 rfl rfl rfl (by simp [ac_]) C1.room (by decide) (by decide) (by decide) (by decide) (fun r_ τ_ hQ => ?_)
        obtain ⟨rfl, ht_⟩ := hQ; have ht_ := ht_.symm; subst ht_
        show J_ Γ 35 [(0, vr (some a0)), (1, vi (v1)), (2, vi (v2)), (3, vi (v3))] [vi (p5), vi (v1)] σ 0 0
        refine J_aload_n (q := 36) C0 0 rfl rfl dX12_twins_35 rfl trivial ?_
        refine J_iload_n (q := 37) C0 3 rfl rfl dX12_twins_36 rfl ?_
        refine K_some hf (fun p6 hp6 hf => ?_)
        refine J_callV (q := 40) (ci := 11) (as := [vi (v3)]) (rest := [vi (p5), vi (v1)]) C0 rfl (h0) (t_X12_showsOf a0 (v3) (hT) (h0)  hp6) ml_X12_showsOf lk_X12_304 im_X12_showsOf se_X12_showsOf rfl (by decide) dX12_twins_37 rfl rfl rfl (by simp [ac_]) C1.room (by decide) (by decide) (by decide) (by decide) (fun r_ τ_ hQ => ?_)
        obtain ⟨rfl, ht_⟩ := hQ; have ht_ := ht_.symm; subst ht_
        show J_ Γ 40 [(0, vr (some a0)), (1, vi (v1)), (2, vi (v2)), (3, vi (v3))] [vi (p6), vi (p5), vi (v1)] σ 0 0
        refine J_icmp_ne (t := 47) (q := 43) C0 dX12_twins_40 (by decide) rfl hf (fun c7 hf => ?_) (fun c7 hf => ?_)
        · refine J_sub (lv' := [(0, vr (some a0)), (2, vi (v2)), (3, vi (v3))]) [0, 2, 3] rfl ?_
          exact t_X12_twins_B47 C1 (hT) (h0) k4  (fun v1 v2 v3 => f_X12_twins_L14 N a0 k4 n v1 v2 v3 σ)  hk4  ih  (v2) (v3) (v1)  hf
        · refine J_iconst (q := 44) (v := 1) C0 dX12_twins_43 rfl rfl ?_
          refine J_goto (q := 48) C0 dX12_twins_44 (by decide) ?_
          refine J_sub (lv' := [(0, vr (some a0)), (2, vi (v2)), (3, vi (v3))]) [0, 2, 3] rfl ?_
          exact t_X12_twins_B48 C1 (hT) (h0) k4  (fun v1 v2 v3 => f_X12_twins_L14 N a0 k4 n v1 v2 v3 σ)  hk4  ih  (v2) (v3) (1) (v1)  hf
set_option maxHeartbeats 4000000 in
set_option maxRecDepth 100000 in
theorem t_X12_twins_L4 {N : Nat} {a0 : Nat} {Γ : Gm} {σ : Sg} {r : Int32} (C1 : CM Γ cX12_twins RX12 4 (some .int) 2 43 0 0 (fun r_ τ_ => (r_ = some (vi r)) ∧ τ_ = σ)) (hT : sg_T σ) (h0 : is_A σ a0 11) : ∀ (n : Nat) (v1 : Int32) (v2 : Int32), f_X12_twins_L4 N a0  n v1 v2 σ = some r → J_ Γ 4 [(0, vr (some a0)), (1, vi (v1)), (2, vi (v2))] [] σ 0 0 := by
  have C0 := C1.1
  intro n
  induction n with
  | zero => intro v1 v2  hf; unfold f_X12_twins_L4 at hf; cases hf
  | succ n ih =>
    intro v1 v2  hf
    rw [f_X12_twins_L4] at hf
    refine J_iload_n (q := 5) C0 2 rfl rfl dX12_twins_4 rfl ?_
    refine J_aload_n (q := 6) C0 0 rfl rfl dX12_twins_5 rfl trivial ?_
    refine J_getI (q := 9) C0 fl_X12_263_11 rfl (h0) rfl dX12_twins_6 rfl ?_
    refine J_icmp_ge (t := 62) (q := 12) C0 dX12_twins_9 (by decide) rfl hf (fun c1 hf => ?_) (fun c1 hf => ?_)
    · refine J_iload_n (q := 63) C0 1 rfl rfl dX12_twins_62 rfl ?_
      obtain rfl := Option.some.inj hf; exact J_iret C1 dX12_twins_63 rfl (Nat.zero_le _) (Nat.zero_le _) ⟨rfl, rfl⟩
    · refine J_iconst (q := 13) (v := 0) C0 dX12_twins_12 rfl rfl ?_
      refine J_istore_n (q := 14) (lv' := [(3, vi (0)), (0, vr (some a0)), (1, vi (v1)), (2, vi (v2))]) C0 rfl (G_nl C1 (by decide)) dX12_twins_13 rfl rfl ?_
      refine J_sub (lv' := [(0, vr (some a0)), (1, vi (v1)), (2, vi (v2)), (3, vi (0))]) [1, 2, 3, 0] rfl ?_
      exact t_X12_twins_L14 C1 (hT) (h0)  (fun v1 v2 => f_X12_twins_L4 N a0 n v1 v2 σ)  ih  N (v1) (v2) (0)  hf
set_option maxHeartbeats 4000000 in
set_option maxRecDepth 100000 in
theorem t_X12_twins (N : Nat) (a0 : Nat) {σ : Sg} (hT : sg_T σ) (h0 : is_A σ a0 11) {r : Int32} (hf : f_X12_twins N a0  σ = some r) : Ct yX12_twins cX12_twins 4 (some .int) 2 43 0 0 [vr (some a0)] σ (fun r_ τ_ => (r_ = some (vi r)) ∧ τ_ = σ) := by
  refine Ct.of (by decide +kernel) (Nat.le_of_ble_eq_true rfl) (fun Γ C1 => ?_)
  have C0 := C1.1
  unfold f_X12_twins at hf
  show J_ Γ 0 [(0, vr (some a0))] [] σ 0 0
  refine J_iconst (q := 1) (v := 0) C0 dX12_twins_0 rfl rfl ?_
  refine J_istore_n (q := 2) (lv' := [(1, vi (0)), (0, vr (some a0))]) C0 rfl (G_nl C1 (by decide)) dX12_twins_1 rfl rfl ?_
  refine J_iconst (q := 3) (v := 0) C0 dX12_twins_2 rfl rfl ?_
  refine J_istore_n (q := 4) (lv' := [(2, vi (0)), (1, vi (0)), (0, vr (some a0))]) C0 rfl (G_nl C1 (by decide)) dX12_twins_3 rfl rfl ?_
  refine J_sub (lv' := [(0, vr (some a0)), (1, vi (0)), (2, vi (0))]) [2, 1, 0] rfl ?_
  exact t_X12_twins_L4 C1 (hT) (h0)    N (0) (0)  hf
def f_X12_onesWho_B107 (N : Nat) (a0 : Nat) (k4 : Int32 → Int32 → Int32 → Sg → Option (Int32 × Sg)) (v1 : Int32) (v3 : Int32) (s0 : Int32) (s1 : Int32) (σ : Sg) : Option (Int32 × Sg) :=
  k4 (v1) ((s1) ||| (s0)) (v3 + 1) σ
def f_X12_onesWho_B92 (N : Nat) (a0 : Nat) (k4 : Int32 → Int32 → Int32 → Sg → Option (Int32 × Sg)) (v1 : Int32) (v2 : Int32) (v3 : Int32) (s0 : Int32) (σ : Sg) : Option (Int32 × Sg) :=
  if (s0) = (0) then
  (f_X12_onesWho_B107 N a0 k4 (v1) (v3) (0) (v2) σ)
  else
  (f_X12_onesWho_B107 N a0 k4 (v1) (v3) ((1) <<< ((v3) &&& 31)) (v2) σ)
def f_X12_onesWho_L4 (N : Nat) (a0 : Nat) : Nat → Int32 → Int32 → Int32 → Sg → Option (Int32 × Sg)
  | 0, _, _, _, _ => none
  | n + 1, v1, v2, v3, σ =>
  if (v3) < (sg_I σ a0 20) then
  (if (v1) = (0) then
  (Option.bind (f_X12_of a0 (v3) (1) σ) fun p14 =>
  if (p14) = (1) then
  (f_X12_onesWho_B92 N a0 (f_X12_onesWho_L4 N a0 n) (v1) (v2) (v3) (1) σ)
  else
  (f_X12_onesWho_B92 N a0 (f_X12_onesWho_L4 N a0 n) (v1) (v2) (v3) (0) σ))
  else
  (if (v1) = (1) then
  (Option.bind (f_X12_of a0 (v3) (3) σ) fun p11 =>
  Option.bind (f_X12_isStrip a0 (p11) σ) fun p12 =>
  if (p12) = (0) then
  (f_X12_onesWho_B92 N a0 (f_X12_onesWho_L4 N a0 n) (v1) (v2) (v3) (1) σ)
  else
  (f_X12_onesWho_B92 N a0 (f_X12_onesWho_L4 N a0 n) (v1) (v2) (v3) (0) σ))
  else
  (Option.bind (f_X12_of a0 (v3) (2) σ) fun p4 =>
  Option.bind (sg_R σ a0 24) fun b5 =>
  if (19 : Int32) < 0 ∨ sg_L σ b5 ≤ (19 : Int32).toNatClampNeg then none else
  Option.bind (f_X12_nextOf N a0 (v3) (p4) (sg_I σ b5 (19 : Int32).toNatClampNeg) σ) fun p7 =>
  Option.bind (f_X12_of a0 (v3) (2) p7.2) fun p8 =>
  if (p7.1) = (p8) then
  (f_X12_onesWho_B92 N a0 (f_X12_onesWho_L4 N a0 n) (v1) (v2) (v3) (1) (p7.2))
  else
  (f_X12_onesWho_B92 N a0 (f_X12_onesWho_L4 N a0 n) (v1) (v2) (v3) (0) (p7.2)))))
  else
  (some (v2, σ))
def f_X12_onesWho (N : Nat) (a0 : Nat) (x1 : Int32) (σ : Sg) : Option (Int32 × Sg) :=
  f_X12_onesWho_L4 N a0 N (x1) (0) (0) σ
set_option maxHeartbeats 4000000 in
set_option maxRecDepth 100000 in
theorem t_X12_onesWho_B107 {N : Nat} {a0 : Nat} {Γ : Gm} {σ0 : Sg} {r : (Int32 × Sg)} (C1 : CM Γ cX12_onesWho RX12 5 (some .int) 7 162 0 0 (fun r_ τ_ => (r_ = some (vi r.1)) ∧ τ_ = r.2 ∧ sg_T τ_ ∧ sg_E σ0 τ_)) (k4 : Int32 → Int32 → Int32 → Sg → Option (Int32 × Sg)) (hk4 : ∀ (v1 : Int32) (v2 : Int32) (v3 : Int32) (σ : Sg), sg_T σ → sg_E σ0 σ → is_A σ a0 11 → k4 v1 v2 v3 σ = some r → J_ Γ 4 [(0, vr (some a0)), (1, vi v1), (2, vi v2), (3, vi v3)] [] σ 0 0) (v1 : Int32) (v3 : Int32) (s0 : Int32) (s1 : Int32) (σ : Sg) (hT : sg_T σ) (hE : sg_E σ0 σ) (h0 : is_A σ a0 11) (hf : f_X12_onesWho_B107 N a0 k4  v1 v3 s0 s1 σ = some r) : J_ Γ 107 [(0, vr (some a0)), (1, vi (v1)), (3, vi (v3))] [vi (s0), vi (s1)] σ 0 0 := by
  have C0 := C1.1
  unfold f_X12_onesWho_B107 at hf
  refine J_ior (q := 108) C0 dX12_onesWho_107 rfl ?_
  refine J_istore_n (q := 109) (lv' := [(2, vi ((s1) ||| (s0))), (0, vr (some a0)), (1, vi (v1)), (3, vi (v3))]) C0 rfl (G_nl C1 (by decide)) dX12_onesWho_108 rfl rfl ?_
  refine J_iinc (q := 112) (v := v3 + 1) (lv' := [(3, vi (v3 + 1)), (2, vi ((s1) ||| (s0))), (0, vr (some a0)), (1, vi (v1))]) C0 3 rfl rfl (G_nl C1 (by decide)) dX12_onesWho_109 rfl rfl ?_
  refine J_goto (q := 4) C0 dX12_onesWho_112 (by decide) ?_
  refine J_sub (lv' := [(0, vr (some a0)), (1, vi (v1)), (2, vi ((s1) ||| (s0))), (3, vi (v3 + 1))]) [2, 3, 1, 0] rfl ?_
  exact hk4 (v1) ((s1) ||| (s0)) (v3 + 1) σ (hT) (hE)  (h0)  hf
set_option maxHeartbeats 4000000 in
set_option maxRecDepth 100000 in
theorem t_X12_onesWho_B92 {N : Nat} {a0 : Nat} {Γ : Gm} {σ0 : Sg} {r : (Int32 × Sg)} (C1 : CM Γ cX12_onesWho RX12 5 (some .int) 7 162 0 0 (fun r_ τ_ => (r_ = some (vi r.1)) ∧ τ_ = r.2 ∧ sg_T τ_ ∧ sg_E σ0 τ_)) (k4 : Int32 → Int32 → Int32 → Sg → Option (Int32 × Sg)) (hk4 : ∀ (v1 : Int32) (v2 : Int32) (v3 : Int32) (σ : Sg), sg_T σ → sg_E σ0 σ → is_A σ a0 11 → k4 v1 v2 v3 σ = some r → J_ Γ 4 [(0, vr (some a0)), (1, vi v1), (2, vi v2), (3, vi v3)] [] σ 0 0) (v1 : Int32) (v2 : Int32) (v3 : Int32) (s0 : Int32) (σ : Sg) (hT : sg_T σ) (hE : sg_E σ0 σ) (h0 : is_A σ a0 11) (hf : f_X12_onesWho_B92 N a0 k4  v1 v2 v3 s0 σ = some r) : J_ Γ 92 [(0, vr (some a0)), (1, vi (v1)), (2, vi (v2)), (3, vi (v3))] [vi (s0)] σ 0 0 := by
  have C0 := C1.1
  unfold f_X12_onesWho_B92 at hf
  refine J_istore (q := 94) (lv' := [(4, vi (s0)), (0, vr (some a0)), (1, vi (v1)), (2, vi (v2)), (3, vi (v3))]) C0 (G_nl C1 (by decide)) dX12_onesWho_92 rfl rfl ?_
  refine J_iload_n (q := 95) C0 3 rfl rfl dX12_onesWho_94 rfl ?_
  refine J_iload (q := 97) C0 0 rfl dX12_onesWho_95 rfl ?_
  refine J_if_eq (t := 106) (q := 100) C0 dX12_onesWho_97 (by decide) rfl hf (fun c10 hf => ?_) (fun c10 hf => ?_)
  · refine J_iconst (q := 107) (v := 0) C0 dX12_onesWho_106 rfl rfl ?_
    refine J_sub (lv' := [(0, vr (some a0)), (1, vi (v1)), (3, vi (v3))]) [1, 2, 4] rfl ?_
    exact t_X12_onesWho_B107 C1  k4  hk4  (v1) (v3) (0) (v2) σ (hT) (hE) (h0)  hf
  · refine J_iconst (q := 101) (v := 1) C0 dX12_onesWho_100 rfl rfl ?_
    refine J_iload_n (q := 102) C0 4 rfl rfl dX12_onesWho_101 rfl ?_
    refine J_ishl (q := 103) C0 dX12_onesWho_102 rfl ?_
    refine J_goto (q := 107) C0 dX12_onesWho_103 (by decide) ?_
    refine J_sub (lv' := [(0, vr (some a0)), (1, vi (v1)), (3, vi (v3))]) [1, 2, 4] rfl ?_
    exact t_X12_onesWho_B107 C1  k4  hk4  (v1) (v3) ((1) <<< ((v3) &&& 31)) (v2) σ (hT) (hE) (h0)  hf
set_option maxHeartbeats 4000000 in
set_option maxRecDepth 100000 in
theorem t_X12_onesWho_L4 {N : Nat} {a0 : Nat} {Γ : Gm} {σ0 : Sg} {r : (Int32 × Sg)} (C1 : CM Γ cX12_onesWho RX12 5 (some .int) 7 162 0 0 (fun r_ τ_ => (r_ = some (vi r.1)) ∧ τ_ = r.2 ∧ sg_T τ_ ∧ sg_E σ0 τ_)) : ∀ (n : Nat) (v1 : Int32) (v2 : Int32) (v3 : Int32) (σ : Sg), sg_T σ → sg_E σ0 σ → is_A σ a0 11 → f_X12_onesWho_L4 N a0  n v1 v2 v3 σ = some r → J_ Γ 4 [(0, vr (some a0)), (1, vi (v1)), (2, vi (v2)), (3, vi (v3))] [] σ 0 0 := by
  have C0 := C1.1
  intro n
  induction n with
  | zero => intro v1 v2 v3 σ hT hE h0  hf; unfold f_X12_onesWho_L4 at hf; cases hf
  | succ n ih =>
    intro v1 v2 v3 σ hT hE h0  hf
    rw [f_X12_onesWho_L4] at hf
    refine J_iload_n (q := 5) C0 3 rfl rfl dX12_onesWho_4 rfl ?_
    refine J_aload_n (q := 6) C0 0 rfl rfl dX12_onesWho_5 rfl trivial ?_
    refine J_getI (q := 9) C0 fl_X12_263_11 rfl (h0) rfl dX12_onesWho_6 rfl ?_
    refine J_icmp_ge (t := 115) (q := 12) C0 dX12_onesWho_9 (by decide) rfl hf (fun c1 hf => ?_) (fun c1 hf => ?_)
    · refine J_iload_n (q := 116) C0 2 rfl rfl dX12_onesWho_115 rfl ?_
      obtain rfl := Option.some.inj hf; exact J_iret C1 dX12_onesWho_116 rfl (Nat.zero_le _) (Nat.zero_le _) ⟨rfl, rfl, hT, hE⟩
    · refine J_iload_n (q := 13) C0 1 rfl rfl dX12_onesWho_12 rfl ?_
      refine J_if_ne (t := 34) (q := 16) C0 dX12_onesWho_13 (by decide) rfl hf (fun c2 hf => ?_) (fun c2 hf => ?_)
      · refine J_iload_n (q := 35) C0 1 rfl rfl dX12_onesWho_34 rfl ?_
        refine J_iconst (q := 36) (v := 1) C0 dX12_onesWho_35 rfl rfl ?_
        refine J_icmp_ne (t := 60) (q := 39) C0 dX12_onesWho_36 (by decide) rfl hf (fun c3 hf => ?_) (fun c3 hf => ?_)
        · refine J_aload_n (q := 61) C0 0 rfl rfl dX12_onesWho_60 rfl trivial ?_
          refine J_iload_n (q := 62) C0 3 rfl rfl dX12_onesWho_61 rfl ?_
          refine J_aload_n (q := 63) C0 0 rfl rfl dX12_onesWho_62 rfl trivial ?_
          refine J_iload_n (q := 64) C0 3 rfl rfl dX12_onesWho_63 rfl ?_
          refine J_iconst (q := 65) (v := 2) C0 dX12_onesWho_64 rfl rfl ?_
          refine K_some hf (fun p4 hp4 hf => ?_)
          refine J_callV (q := 68) (ci := 11) (as := [vi (v3), vi (2)]) (rest := [vi (v3), vr (some a0)]) C0 rfl (h0) (t_X12_of a0 (v3) (2) (hT) (h0)  hp4) ml_X12_of lk_X12_254 im_X12_of se_X12_of rfl (by decide) dX12_onesWho_65 rfl rfl rfl (by simp [ac_]) C1.room (by decide) (by decide) (by decide) (by decide) (fun r_ τ_ hQ => ?_)
          obtain ⟨rfl, ht_⟩ := hQ; have ht_ := ht_.symm; subst ht_
          show J_ Γ 68 [(0, vr (some a0)), (1, vi (v1)), (2, vi (v2)), (3, vi (v3))] [vi (p4), vi (v3), vr (some a0)] σ 0 0
          refine J_aload_n (q := 69) C0 0 rfl rfl dX12_onesWho_68 rfl trivial ?_
          refine J_getR (q := 72) C0 fl_X12_52_11 rfl (h0) rfl dX12_onesWho_69 rfl ?_
          refine J_bipush (q := 74) (v := 19) C0 dX12_onesWho_72 rfl rfl ?_
          refine K_some hf (fun b5 hb5 hf => ?_)
          have ab5 : is_A σ b5 12 := ((sg_T.op hT (j := 24) (h0) rfl)) b5 hb5
          refine K_chk hf (fun c6 hf => ?_)
          refine J_iald (q := 75) C0 hb5 (ab5) c6 dX12_onesWho_74 rfl ?_
          refine K_some hf (fun p7 hp7 hf => ?_)
          refine J_callV (q := 78) (ci := 11) (as := [vi (v3), vi (p4), vi (sg_I σ b5 (19 : Int32).toNatClampNeg)]) (rest := []) C0 rfl (h0) (t_X12_nextOf N a0 (v3) (p4) (sg_I σ b5 (19 : Int32).toNatClampNeg) (hT) (h0)  hp7) ml_X12_nextOf lk_X12_298 im_X12_nextOf se_X12_nextOf rfl (by decide) dX12_onesWho_75 rfl rfl rfl (by simp [ac_]) C1.room (by decide) (by decide) (by decide) (by decide) (fun r_ τ_ hQ => ?_)
          obtain ⟨rfl, rfl, Tp7, Ep7⟩ := hQ
          show J_ Γ 78 [(0, vr (some a0)), (1, vi (v1)), (2, vi (v2)), (3, vi (v3))] [vi (p7.1)] p7.2 0 0
          refine J_aload_n (q := 79) C0 0 rfl rfl dX12_onesWho_78 rfl trivial ?_
          refine J_iload_n (q := 80) C0 3 rfl rfl dX12_onesWho_79 rfl ?_
          refine J_iconst (q := 81) (v := 2) C0 dX12_onesWho_80 rfl rfl ?_
          refine K_some hf (fun p8 hp8 hf => ?_)
          refine J_callV (q := 84) (ci := 11) (as := [vi (v3), vi (2)]) (rest := [vi (p7.1)]) C0 rfl ((Ep7.at h0)) (t_X12_of a0 (v3) (2) (Tp7) ((Ep7.at h0))  hp8) ml_X12_of lk_X12_254 im_X12_of se_X12_of rfl (by decide) dX12_onesWho_81 rfl rfl rfl (by simp [ac_]) C1.room (by decide) (by decide) (by decide) (by decide) (fun r_ τ_ hQ => ?_)
          obtain ⟨rfl, ht_⟩ := hQ; have ht_ := ht_.symm; subst ht_
          show J_ Γ 84 [(0, vr (some a0)), (1, vi (v1)), (2, vi (v2)), (3, vi (v3))] [vi (p8), vi (p7.1)] p7.2 0 0
          refine J_icmp_ne (t := 91) (q := 87) C0 dX12_onesWho_84 (by decide) rfl hf (fun c9 hf => ?_) (fun c9 hf => ?_)
          · refine J_iconst (q := 92) (v := 0) C0 dX12_onesWho_91 rfl rfl ?_
            exact t_X12_onesWho_B92 C1  (f_X12_onesWho_L4 N a0 n)  ih  (v1) (v2) (v3) (0) (p7.2) (Tp7) ((hE).tr Ep7) ((Ep7.at h0))  hf
          · refine J_iconst (q := 88) (v := 1) C0 dX12_onesWho_87 rfl rfl ?_
            refine J_goto (q := 92) C0 dX12_onesWho_88 (by decide) ?_
            exact t_X12_onesWho_B92 C1  (f_X12_onesWho_L4 N a0 n)  ih  (v1) (v2) (v3) (1) (p7.2) (Tp7) ((hE).tr Ep7) ((Ep7.at h0))  hf
        · refine J_aload_n (q := 40) C0 0 rfl rfl dX12_onesWho_39 rfl trivial ?_
          refine J_aload_n (q := 41) C0 0 rfl rfl dX12_onesWho_40 rfl trivial ?_
          refine J_iload_n (q := 42) C0 3 rfl rfl dX12_onesWho_41 rfl ?_
          refine J_iconst (q := 43) (v := 3) C0 dX12_onesWho_42 rfl rfl ?_
          refine K_some hf (fun p11 hp11 hf => ?_)
          refine J_callV (q := 46) (ci := 11) (as := [vi (v3), vi (3)]) (rest := [vr (some a0)]) C0 rfl (h0) (t_X12_of a0 (v3) (3) (hT) (h0)  hp11) ml_X12_of lk_X12_254 im_X12_of se_X12_of rfl (by decide) dX12_onesWho_43 rfl rfl rfl (by simp [ac_]) C1.room (by decide) (by decide) (by decide) (by decide) (fun r_ τ_ hQ => ?_)
          obtain ⟨rfl, ht_⟩ := hQ; have ht_ := ht_.symm; subst ht_
          show J_ Γ 46 [(0, vr (some a0)), (1, vi (v1)), (2, vi (v2)), (3, vi (v3))] [vi (p11), vr (some a0)] σ 0 0
          refine K_some hf (fun p12 hp12 hf => ?_)
          refine J_callV (q := 49) (ci := 11) (as := [vi (p11)]) (rest := []) C0 rfl (h0) (t_X12_isStrip a0 (p11) (h0)  hp12) ml_X12_isStrip lk_X12_310 im_X12_isStrip se_X12_isStrip rfl (by decide) dX12_onesWho_46 rfl rfl rfl (by simp [ac_]) C1.room (by decide) (by decide) (by decide) (by decide) (fun r_ τ_ hQ => ?_)
          obtain ⟨⟨rfl, zp12⟩, ht_⟩ := hQ; have ht_ := ht_.symm; subst ht_
          show J_ Γ 49 [(0, vr (some a0)), (1, vi (v1)), (2, vi (v2)), (3, vi (v3))] [vi (p12)] σ 0 0
          refine J_if_ne (t := 56) (q := 52) C0 dX12_onesWho_49 (by decide) rfl hf (fun c13 hf => ?_) (fun c13 hf => ?_)
          · refine J_iconst (q := 57) (v := 0) C0 dX12_onesWho_56 rfl rfl ?_
            refine J_goto (q := 92) C0 dX12_onesWho_57 (by decide) ?_
            exact t_X12_onesWho_B92 C1  (f_X12_onesWho_L4 N a0 n)  ih  (v1) (v2) (v3) (0) σ (hT) (hE) (h0)  hf
          · refine J_iconst (q := 53) (v := 1) C0 dX12_onesWho_52 rfl rfl ?_
            refine J_goto (q := 92) C0 dX12_onesWho_53 (by decide) ?_
            exact t_X12_onesWho_B92 C1  (f_X12_onesWho_L4 N a0 n)  ih  (v1) (v2) (v3) (1) σ (hT) (hE) (h0)  hf
      · refine J_aload_n (q := 17) C0 0 rfl rfl dX12_onesWho_16 rfl trivial ?_
        refine J_iload_n (q := 18) C0 3 rfl rfl dX12_onesWho_17 rfl ?_
        refine J_iconst (q := 19) (v := 1) C0 dX12_onesWho_18 rfl rfl ?_
        refine K_some hf (fun p14 hp14 hf => ?_)
        refine J_callV (q := 22) (ci := 11) (as := [vi (v3), vi (1)]) (rest := []) C0 rfl (h0) (t_X12_of a0 (v3) (1) (hT) (h0)  hp14) ml_X12_of lk_X12_254 im_X12_of se_X12_of rfl (by decide) dX12_onesWho_19 rfl rfl rfl (by simp [ac_]) C1.room (by decide) (by decide) (by decide) (by decide) (fun r_ τ_ hQ => ?_)
        obtain ⟨rfl, ht_⟩ := hQ; have ht_ := ht_.symm; subst ht_
        show J_ Γ 22 [(0, vr (some a0)), (1, vi (v1)), (2, vi (v2)), (3, vi (v3))] [vi (p14)] σ 0 0
        refine J_iconst (q := 23) (v := 1) C0 dX12_onesWho_22 rfl rfl ?_
        refine J_icmp_ne (t := 30) (q := 26) C0 dX12_onesWho_23 (by decide) rfl hf (fun c15 hf => ?_) (fun c15 hf => ?_)
        · refine J_iconst (q := 31) (v := 0) C0 dX12_onesWho_30 rfl rfl ?_
          refine J_goto (q := 92) C0 dX12_onesWho_31 (by decide) ?_
          exact t_X12_onesWho_B92 C1  (f_X12_onesWho_L4 N a0 n)  ih  (v1) (v2) (v3) (0) σ (hT) (hE) (h0)  hf
        · refine J_iconst (q := 27) (v := 1) C0 dX12_onesWho_26 rfl rfl ?_
          refine J_goto (q := 92) C0 dX12_onesWho_27 (by decide) ?_
          exact t_X12_onesWho_B92 C1  (f_X12_onesWho_L4 N a0 n)  ih  (v1) (v2) (v3) (1) σ (hT) (hE) (h0)  hf
set_option maxHeartbeats 4000000 in
set_option maxRecDepth 100000 in
theorem t_X12_onesWho (N : Nat) (a0 : Nat) (x1 : Int32) {σ : Sg} (hT : sg_T σ) (h0 : is_A σ a0 11) {r : (Int32 × Sg)} (hf : f_X12_onesWho N a0 x1 σ = some r) : Ct yX12_onesWho cX12_onesWho 5 (some .int) 7 162 0 0 [vr (some a0), vi x1] σ (fun r_ τ_ => (r_ = some (vi r.1)) ∧ τ_ = r.2 ∧ sg_T τ_ ∧ sg_E σ τ_) := by
  refine Ct.of (by decide +kernel) (Nat.le_of_ble_eq_true rfl) (fun Γ C1 => ?_)
  have C0 := C1.1
  have hE : sg_E σ σ := sg_E.rf
  unfold f_X12_onesWho at hf
  show J_ Γ 0 [(0, vr (some a0)), (1, vi (x1))] [] σ 0 0
  refine J_iconst (q := 1) (v := 0) C0 dX12_onesWho_0 rfl rfl ?_
  refine J_istore_n (q := 2) (lv' := [(2, vi (0)), (0, vr (some a0)), (1, vi (x1))]) C0 rfl (G_nl C1 (by decide)) dX12_onesWho_1 rfl rfl ?_
  refine J_iconst (q := 3) (v := 0) C0 dX12_onesWho_2 rfl rfl ?_
  refine J_istore_n (q := 4) (lv' := [(3, vi (0)), (2, vi (0)), (0, vr (some a0)), (1, vi (x1))]) C0 rfl (G_nl C1 (by decide)) dX12_onesWho_3 rfl rfl ?_
  refine J_sub (lv' := [(0, vr (some a0)), (1, vi (x1)), (2, vi (0)), (3, vi (0))]) [2, 3, 1, 0] rfl ?_
  exact t_X12_onesWho_L4 C1    N (x1) (0) (0) σ (hT) (hE) (h0)  hf
def f_X12_orderRow_B40 (N : Nat) (a0 : Nat) (k4 : Int32 → Int32 → Option Int32) (k12 : Int32 → Int32 → Int32 → Option Int32) (v2 : Int32) (v3 : Int32) (s0 : Int32) (σ : Sg) : Option Int32 :=
  k12 (s0) (v2) (v3 + 1)
def f_X12_orderRow_L12 (N : Nat) (a0 : Nat) (k4 : Int32 → Int32 → Option Int32) : Nat → Int32 → Int32 → Int32 → Sg → Option Int32
  | 0, _, _, _, _ => none
  | n + 1, v1, v2, v3, σ =>
  if (v3) < (sg_I σ a0 20) then
  (Option.bind (f_X12_of a0 (v3) (2) σ) fun p3 =>
  if (p3) = (v2) then
  (f_X12_orderRow_B40 N a0 k4 (fun v1 v2 v3 => f_X12_orderRow_L12 N a0 k4 n v1 v2 v3 σ) (v2) (v3) (((10) * (v1)) + (v3)) σ)
  else
  (f_X12_orderRow_B40 N a0 k4 (fun v1 v2 v3 => f_X12_orderRow_L12 N a0 k4 n v1 v2 v3 σ) (v2) (v3) (v1) σ))
  else
  (k4 (v1) (v2 + 1))
def f_X12_orderRow_L4 (N : Nat) (a0 : Nat) : Nat → Int32 → Int32 → Sg → Option Int32
  | 0, _, _, _ => none
  | n + 1, v1, v2, σ =>
  if (v2) < (16) then
  (f_X12_orderRow_L12 N a0 (fun v1 v2 => f_X12_orderRow_L4 N a0 n v1 v2 σ) N (v1) (v2) (0) σ)
  else
  (some (v1))
def f_X12_orderRow (N : Nat) (a0 : Nat) (σ : Sg) : Option Int32 :=
  f_X12_orderRow_L4 N a0 N (0) (0) σ
set_option maxHeartbeats 4000000 in
set_option maxRecDepth 100000 in
theorem t_X12_orderRow_B40 {N : Nat} {a0 : Nat} {Γ : Gm} {σ : Sg} {r : Int32} (C1 : CM Γ cX12_orderRow RX12 4 (some .int) 1 22 0 0 (fun r_ τ_ => (r_ = some (vi r)) ∧ τ_ = σ)) (hT : sg_T σ) (h0 : is_A σ a0 11) (k4 : Int32 → Int32 → Option Int32) (k12 : Int32 → Int32 → Int32 → Option Int32) (hk4 : ∀ (v1 : Int32) (v2 : Int32) , k4 v1 v2 = some r → J_ Γ 4 [(0, vr (some a0)), (1, vi v1), (2, vi v2)] [] σ 0 0) (hk12 : ∀ (v1 : Int32) (v2 : Int32) (v3 : Int32) , k12 v1 v2 v3 = some r → J_ Γ 12 [(0, vr (some a0)), (1, vi v1), (2, vi v2), (3, vi v3)] [] σ 0 0) (v2 : Int32) (v3 : Int32) (s0 : Int32) (hf : f_X12_orderRow_B40 N a0 k4 k12  v2 v3 s0 σ = some r) : J_ Γ 40 [(0, vr (some a0)), (2, vi (v2)), (3, vi (v3))] [vi (s0)] σ 0 0 := by
  have C0 := C1.1
  unfold f_X12_orderRow_B40 at hf
  refine J_istore_n (q := 41) (lv' := [(1, vi (s0)), (0, vr (some a0)), (2, vi (v2)), (3, vi (v3))]) C0 rfl (G_nl C1 (by decide)) dX12_orderRow_40 rfl rfl ?_
  refine J_iinc (q := 44) (v := v3 + 1) (lv' := [(3, vi (v3 + 1)), (1, vi (s0)), (0, vr (some a0)), (2, vi (v2))]) C0 3 rfl rfl (G_nl C1 (by decide)) dX12_orderRow_41 rfl rfl ?_
  refine J_goto (q := 12) C0 dX12_orderRow_44 (by decide) ?_
  refine J_sub (lv' := [(0, vr (some a0)), (1, vi (s0)), (2, vi (v2)), (3, vi (v3 + 1))]) [2, 1, 3, 0] rfl ?_
  exact hk12 (s0) (v2) (v3 + 1)  hf
set_option maxHeartbeats 4000000 in
set_option maxRecDepth 100000 in
theorem t_X12_orderRow_L12 {N : Nat} {a0 : Nat} {Γ : Gm} {σ : Sg} {r : Int32} (C1 : CM Γ cX12_orderRow RX12 4 (some .int) 1 22 0 0 (fun r_ τ_ => (r_ = some (vi r)) ∧ τ_ = σ)) (hT : sg_T σ) (h0 : is_A σ a0 11) (k4 : Int32 → Int32 → Option Int32) (hk4 : ∀ (v1 : Int32) (v2 : Int32) , k4 v1 v2 = some r → J_ Γ 4 [(0, vr (some a0)), (1, vi v1), (2, vi v2)] [] σ 0 0) : ∀ (n : Nat) (v1 : Int32) (v2 : Int32) (v3 : Int32), f_X12_orderRow_L12 N a0 k4  n v1 v2 v3 σ = some r → J_ Γ 12 [(0, vr (some a0)), (1, vi (v1)), (2, vi (v2)), (3, vi (v3))] [] σ 0 0 := by
  have C0 := C1.1
  intro n
  induction n with
  | zero => intro v1 v2 v3  hf; unfold f_X12_orderRow_L12 at hf; cases hf
  | succ n ih =>
    intro v1 v2 v3  hf
    rw [f_X12_orderRow_L12] at hf
    refine J_iload_n (q := 13) C0 3 rfl rfl dX12_orderRow_12 rfl ?_
    refine J_aload_n (q := 14) C0 0 rfl rfl dX12_orderRow_13 rfl trivial ?_
    refine J_getI (q := 17) C0 fl_X12_263_11 rfl (h0) rfl dX12_orderRow_14 rfl ?_
    refine J_icmp_ge (t := 47) (q := 20) C0 dX12_orderRow_17 (by decide) rfl hf (fun c2 hf => ?_) (fun c2 hf => ?_)
    · refine J_iinc (q := 50) (v := v2 + 1) (lv' := [(2, vi (v2 + 1)), (0, vr (some a0)), (1, vi (v1)), (3, vi (v3))]) C0 2 rfl rfl (G_nl C1 (by decide)) dX12_orderRow_47 rfl rfl ?_
      refine J_goto (q := 4) C0 dX12_orderRow_50 (by decide) ?_
      refine J_sub (lv' := [(0, vr (some a0)), (1, vi (v1)), (2, vi (v2 + 1))]) [1, 2, 0] rfl ?_
      exact hk4 (v1) (v2 + 1)  hf
    · refine J_aload_n (q := 21) C0 0 rfl rfl dX12_orderRow_20 rfl trivial ?_
      refine J_iload_n (q := 22) C0 3 rfl rfl dX12_orderRow_21 rfl ?_
      refine J_iconst (q := 23) (v := 2) C0 dX12_orderRow_22 rfl rfl ?_
      refine K_some hf (fun p3 hp3 hf => ?_)
      refine J_callV (q := 26) (ci := 11) (as := [vi (v3), vi (2)]) (rest := []) C0 rfl (h0) (t_X12_of a0 (v3) (2) (hT) (h0)  hp3) ml_X12_of lk_X12_254 im_X12_of se_X12_of rfl (by decide) dX12_orderRow_23 rfl rfl rfl (by simp [ac_]) C1.room (by decide) (by decide) (by decide) (by decide) (fun r_ τ_ hQ => ?_)
      obtain ⟨rfl, ht_⟩ := hQ; have ht_ := ht_.symm; subst ht_
      show J_ Γ 26 [(0, vr (some a0)), (1, vi (v1)), (2, vi (v2)), (3, vi (v3))] [vi (p3)] σ 0 0
      refine J_iload_n (q := 27) C0 2 rfl rfl dX12_orderRow_26 rfl ?_
      refine J_icmp_ne (t := 39) (q := 30) C0 dX12_orderRow_27 (by decide) rfl hf (fun c4 hf => ?_) (fun c4 hf => ?_)
      · refine J_iload_n (q := 40) C0 1 rfl rfl dX12_orderRow_39 rfl ?_
        refine J_sub (lv' := [(0, vr (some a0)), (2, vi (v2)), (3, vi (v3))]) [0, 2, 3] rfl ?_
        exact t_X12_orderRow_B40 C1 (hT) (h0) k4  (fun v1 v2 v3 => f_X12_orderRow_L12 N a0 k4 n v1 v2 v3 σ)  hk4  ih  (v2) (v3) (v1)  hf
      · refine J_bipush (q := 32) (v := 10) C0 dX12_orderRow_30 rfl rfl ?_
        refine J_iload_n (q := 33) C0 1 rfl rfl dX12_orderRow_32 rfl ?_
        refine J_imul (q := 34) C0 dX12_orderRow_33 rfl ?_
        refine J_iload_n (q := 35) C0 3 rfl rfl dX12_orderRow_34 rfl ?_
        refine J_iadd (q := 36) C0 dX12_orderRow_35 rfl ?_
        refine J_goto (q := 40) C0 dX12_orderRow_36 (by decide) ?_
        refine J_sub (lv' := [(0, vr (some a0)), (2, vi (v2)), (3, vi (v3))]) [0, 2, 3] rfl ?_
        exact t_X12_orderRow_B40 C1 (hT) (h0) k4  (fun v1 v2 v3 => f_X12_orderRow_L12 N a0 k4 n v1 v2 v3 σ)  hk4  ih  (v2) (v3) (((10) * (v1)) + (v3))  hf
set_option maxHeartbeats 4000000 in
set_option maxRecDepth 100000 in
theorem t_X12_orderRow_L4 {N : Nat} {a0 : Nat} {Γ : Gm} {σ : Sg} {r : Int32} (C1 : CM Γ cX12_orderRow RX12 4 (some .int) 1 22 0 0 (fun r_ τ_ => (r_ = some (vi r)) ∧ τ_ = σ)) (hT : sg_T σ) (h0 : is_A σ a0 11) : ∀ (n : Nat) (v1 : Int32) (v2 : Int32), f_X12_orderRow_L4 N a0  n v1 v2 σ = some r → J_ Γ 4 [(0, vr (some a0)), (1, vi (v1)), (2, vi (v2))] [] σ 0 0 := by
  have C0 := C1.1
  intro n
  induction n with
  | zero => intro v1 v2  hf; unfold f_X12_orderRow_L4 at hf; cases hf
  | succ n ih =>
    intro v1 v2  hf
    rw [f_X12_orderRow_L4] at hf
    refine J_iload_n (q := 5) C0 2 rfl rfl dX12_orderRow_4 rfl ?_
    refine J_bipush (q := 7) (v := 16) C0 dX12_orderRow_5 rfl rfl ?_
    refine J_icmp_ge (t := 53) (q := 10) C0 dX12_orderRow_7 (by decide) rfl hf (fun c1 hf => ?_) (fun c1 hf => ?_)
    · refine J_iload_n (q := 54) C0 1 rfl rfl dX12_orderRow_53 rfl ?_
      obtain rfl := Option.some.inj hf; exact J_iret C1 dX12_orderRow_54 rfl (Nat.zero_le _) (Nat.zero_le _) ⟨rfl, rfl⟩
    · refine J_iconst (q := 11) (v := 0) C0 dX12_orderRow_10 rfl rfl ?_
      refine J_istore_n (q := 12) (lv' := [(3, vi (0)), (0, vr (some a0)), (1, vi (v1)), (2, vi (v2))]) C0 rfl (G_nl C1 (by decide)) dX12_orderRow_11 rfl rfl ?_
      refine J_sub (lv' := [(0, vr (some a0)), (1, vi (v1)), (2, vi (v2)), (3, vi (0))]) [1, 2, 3, 0] rfl ?_
      exact t_X12_orderRow_L12 C1 (hT) (h0)  (fun v1 v2 => f_X12_orderRow_L4 N a0 n v1 v2 σ)  ih  N (v1) (v2) (0)  hf
set_option maxHeartbeats 4000000 in
set_option maxRecDepth 100000 in
theorem t_X12_orderRow (N : Nat) (a0 : Nat) {σ : Sg} (hT : sg_T σ) (h0 : is_A σ a0 11) {r : Int32} (hf : f_X12_orderRow N a0  σ = some r) : Ct yX12_orderRow cX12_orderRow 4 (some .int) 1 22 0 0 [vr (some a0)] σ (fun r_ τ_ => (r_ = some (vi r)) ∧ τ_ = σ) := by
  refine Ct.of (by decide +kernel) (Nat.le_of_ble_eq_true rfl) (fun Γ C1 => ?_)
  have C0 := C1.1
  unfold f_X12_orderRow at hf
  show J_ Γ 0 [(0, vr (some a0))] [] σ 0 0
  refine J_iconst (q := 1) (v := 0) C0 dX12_orderRow_0 rfl rfl ?_
  refine J_istore_n (q := 2) (lv' := [(1, vi (0)), (0, vr (some a0))]) C0 rfl (G_nl C1 (by decide)) dX12_orderRow_1 rfl rfl ?_
  refine J_iconst (q := 3) (v := 0) C0 dX12_orderRow_2 rfl rfl ?_
  refine J_istore_n (q := 4) (lv' := [(2, vi (0)), (1, vi (0)), (0, vr (some a0))]) C0 rfl (G_nl C1 (by decide)) dX12_orderRow_3 rfl rfl ?_
  refine J_sub (lv' := [(0, vr (some a0)), (1, vi (0)), (2, vi (0))]) [2, 1, 0] rfl ?_
  exact t_X12_orderRow_L4 C1 (hT) (h0)    N (0) (0)  hf
def f_X12_most (N : Nat) (a0 : Nat) (x1 : Int32) (σ : Sg) : Option (Int32 × Sg) :=
  if (sg_I σ a0 20) = (0) then
  (some ((-1), σ))
  else
  (Option.bind (f_X12_in (x1) (0) (9) ) fun p2 =>
  if (p2) = (0) then
  (some ((-1), σ))
  else
  (if (x1) = 0 then
  (Option.bind (f_X12_topBy N a0 (1) σ) fun p5 =>
  some (p5, σ))
  else
  if (x1) = 1 then
  (Option.bind (f_X12_topBy N a0 (0) σ) fun p7 =>
  some (p7, σ))
  else
  if (x1) = 2 then
  (Option.bind (f_X12_commonest N a0  σ) fun p9 =>
  some (p9, σ))
  else
  if (x1) = 3 then
  (Option.bind (f_X12_shownOnes N a0  σ) fun p11 =>
  some (p11, σ))
  else
  if (x1) = 4 then
  (Option.bind (f_X12_twins N a0  σ) fun p13 =>
  some (p13, σ))
  else
  if (x1) = 5 then
  (Option.bind (f_X12_onesWho N a0 ((x1) - (5)) σ) fun p15 =>
  some (p15.1, p15.2))
  else
  if (x1) = 6 then
  (Option.bind (f_X12_onesWho N a0 ((x1) - (5)) σ) fun p17 =>
  some (p17.1, p17.2))
  else
  if (x1) = 7 then
  (Option.bind (f_X12_onesWho N a0 ((x1) - (5)) σ) fun p19 =>
  some (p19.1, p19.2))
  else
  if (x1) = 8 then
  (Option.bind (f_X12_orderRow N a0  σ) fun p21 =>
  some (p21, σ))
  else
  if (x1) = 9 then
  (Option.bind (sg_R σ a0 24) fun b23 =>
  if (16 : Int32) < 0 ∨ sg_L σ b23 ≤ (16 : Int32).toNatClampNeg then none else
  if (19 : Int32) < 0 ∨ sg_L σ b23 ≤ (19 : Int32).toNatClampNeg then none else
  if (16 : Int32) < 0 ∨ sg_L σ b23 ≤ (16 : Int32).toNatClampNeg then none else
  if (sg_I σ b23 (16 : Int32).toNatClampNeg) = 0 then none else
  some ((sg_I σ b23 (16 : Int32).toNatClampNeg) - (rm_ (sg_I σ b23 (19 : Int32).toNatClampNeg) (sg_I σ b23 (16 : Int32).toNatClampNeg)), σ))
  else
  (Option.bind (f_X12_onesWho N a0 ((x1) - (5)) σ) fun p28 =>
  some (p28.1, p28.2))))
set_option maxHeartbeats 4000000 in
set_option maxRecDepth 100000 in
theorem t_X12_most (N : Nat) (a0 : Nat) (x1 : Int32) {σ : Sg} (hT : sg_T σ) (h0 : is_A σ a0 11) {r : (Int32 × Sg)} (hf : f_X12_most N a0 x1 σ = some r) : Ct yX12_most cX12_most 2 (some .int) 8 186 0 0 [vr (some a0), vi x1] σ (fun r_ τ_ => (r_ = some (vi r.1)) ∧ τ_ = r.2 ∧ sg_T τ_ ∧ sg_E σ τ_) := by
  refine Ct.of (by decide +kernel) (Nat.le_of_ble_eq_true rfl) (fun Γ C1 => ?_)
  have C0 := C1.1
  have hE : sg_E σ σ := sg_E.rf
  unfold f_X12_most at hf
  show J_ Γ 0 [(0, vr (some a0)), (1, vi (x1))] [] σ 0 0
  refine J_aload_n (q := 1) C0 0 rfl rfl dX12_most_0 rfl trivial ?_
  refine J_getI (q := 4) C0 fl_X12_263_11 rfl (h0) rfl dX12_most_1 rfl ?_
  refine J_if_eq (t := 17) (q := 7) C0 dX12_most_4 (by decide) rfl hf (fun c1 hf => ?_) (fun c1 hf => ?_)
  · refine J_iconst (q := 18) (v := (-1)) C0 dX12_most_17 rfl rfl ?_
    obtain rfl := Option.some.inj hf; exact J_iret C1 dX12_most_18 rfl (Nat.zero_le _) (Nat.zero_le _) ⟨rfl, rfl, hT, hE⟩
  · refine J_iload_n (q := 8) C0 1 rfl rfl dX12_most_7 rfl ?_
    refine J_iconst (q := 9) (v := 0) C0 dX12_most_8 rfl rfl ?_
    refine J_bipush (q := 11) (v := 9) C0 dX12_most_9 rfl rfl ?_
    refine K_some hf (fun p2 hp2 hf => ?_)
    refine J_callS (q := 14) (as := [vi (x1), vi (0), vi (9)]) (rest := []) C0 (t_X12_in (x1) (0) (9)  hp2) ml_X12_in lk_X12_208 sm_X12_in dX12_most_11 rfl rfl rfl (by simp [ac_]) C1.room (by decide) (by decide) (by decide) (by decide) (fun r_ τ_ hQ => ?_)
    obtain ⟨⟨rfl, zp2⟩, ht_⟩ := hQ; have ht_ := ht_.symm; subst ht_
    show J_ Γ 14 [(0, vr (some a0)), (1, vi (x1))] [vi (p2)] σ 0 0
    refine J_if_ne (t := 19) (q := 17) C0 dX12_most_14 (by decide) rfl hf (fun c3 hf => ?_) (fun c3 hf => ?_)
    · refine J_iload_n (q := 20) C0 1 rfl rfl dX12_most_19 rfl ?_
      refine K_ite hf (fun c4 hf => ?_) (fun c4 hf => ?_)
      · refine J_tblIn (t := 76) (off := 56) C0 dX12_most_20 (by rw [c4]; decide) (by rw [c4]; decide) (by rw [c4]; rfl) (by decide) ?_
        refine J_aload_n (q := 77) C0 0 rfl rfl dX12_most_76 rfl trivial ?_
        refine J_iconst (q := 78) (v := 1) C0 dX12_most_77 rfl rfl ?_
        refine K_some hf (fun p5 hp5 hf => ?_)
        refine J_callV (q := 81) (ci := 11) (as := [vi (1)]) (rest := []) C0 rfl (h0) (t_X12_topBy N a0 (1) (hT) (h0)  hp5) ml_X12_topBy lk_X12_422 im_X12_topBy se_X12_topBy rfl (by decide) dX12_most_78 rfl rfl rfl (by simp [ac_]) C1.room (by decide) (by decide) (by decide) (by decide) (fun r_ τ_ hQ => ?_)
        obtain ⟨rfl, ht_⟩ := hQ; have ht_ := ht_.symm; subst ht_
        show J_ Γ 81 [(0, vr (some a0)), (1, vi (x1))] [vi (p5)] σ 0 0
        obtain rfl := Option.some.inj hf; exact J_iret C1 dX12_most_81 rfl (Nat.zero_le _) (Nat.zero_le _) ⟨rfl, rfl, hT, hE⟩
      refine K_ite hf (fun c6 hf => ?_) (fun c6 hf => ?_)
      · refine J_tblIn (t := 82) (off := 62) C0 dX12_most_20 (by rw [c6]; decide) (by rw [c6]; decide) (by rw [c6]; rfl) (by decide) ?_
        refine J_aload_n (q := 83) C0 0 rfl rfl dX12_most_82 rfl trivial ?_
        refine J_iconst (q := 84) (v := 0) C0 dX12_most_83 rfl rfl ?_
        refine K_some hf (fun p7 hp7 hf => ?_)
        refine J_callV (q := 87) (ci := 11) (as := [vi (0)]) (rest := []) C0 rfl (h0) (t_X12_topBy N a0 (0) (hT) (h0)  hp7) ml_X12_topBy lk_X12_422 im_X12_topBy se_X12_topBy rfl (by decide) dX12_most_84 rfl rfl rfl (by simp [ac_]) C1.room (by decide) (by decide) (by decide) (by decide) (fun r_ τ_ hQ => ?_)
        obtain ⟨rfl, ht_⟩ := hQ; have ht_ := ht_.symm; subst ht_
        show J_ Γ 87 [(0, vr (some a0)), (1, vi (x1))] [vi (p7)] σ 0 0
        obtain rfl := Option.some.inj hf; exact J_iret C1 dX12_most_87 rfl (Nat.zero_le _) (Nat.zero_le _) ⟨rfl, rfl, hT, hE⟩
      refine K_ite hf (fun c8 hf => ?_) (fun c8 hf => ?_)
      · refine J_tblIn (t := 88) (off := 68) C0 dX12_most_20 (by rw [c8]; decide) (by rw [c8]; decide) (by rw [c8]; rfl) (by decide) ?_
        refine J_aload_n (q := 89) C0 0 rfl rfl dX12_most_88 rfl trivial ?_
        refine K_some hf (fun p9 hp9 hf => ?_)
        refine J_callV (q := 92) (ci := 11) (as := []) (rest := []) C0 rfl (h0) (t_X12_commonest N a0  (hT) (h0)  hp9) ml_X12_commonest lk_X12_426 im_X12_commonest se_X12_commonest rfl (by decide) dX12_most_89 rfl rfl rfl (by simp [ac_]) C1.room (by decide) (by decide) (by decide) (by decide) (fun r_ τ_ hQ => ?_)
        obtain ⟨rfl, ht_⟩ := hQ; have ht_ := ht_.symm; subst ht_
        show J_ Γ 92 [(0, vr (some a0)), (1, vi (x1))] [vi (p9)] σ 0 0
        obtain rfl := Option.some.inj hf; exact J_iret C1 dX12_most_92 rfl (Nat.zero_le _) (Nat.zero_le _) ⟨rfl, rfl, hT, hE⟩
      refine K_ite hf (fun c10 hf => ?_) (fun c10 hf => ?_)
      · refine J_tblIn (t := 93) (off := 73) C0 dX12_most_20 (by rw [c10]; decide) (by rw [c10]; decide) (by rw [c10]; rfl) (by decide) ?_
        refine J_aload_n (q := 94) C0 0 rfl rfl dX12_most_93 rfl trivial ?_
        refine K_some hf (fun p11 hp11 hf => ?_)
        refine J_callV (q := 97) (ci := 11) (as := []) (rest := []) C0 rfl (h0) (t_X12_shownOnes N a0  (hT) (h0)  hp11) ml_X12_shownOnes lk_X12_429 im_X12_shownOnes se_X12_shownOnes rfl (by decide) dX12_most_94 rfl rfl rfl (by simp [ac_]) C1.room (by decide) (by decide) (by decide) (by decide) (fun r_ τ_ hQ => ?_)
        obtain ⟨rfl, ht_⟩ := hQ; have ht_ := ht_.symm; subst ht_
        show J_ Γ 97 [(0, vr (some a0)), (1, vi (x1))] [vi (p11)] σ 0 0
        obtain rfl := Option.some.inj hf; exact J_iret C1 dX12_most_97 rfl (Nat.zero_le _) (Nat.zero_le _) ⟨rfl, rfl, hT, hE⟩
      refine K_ite hf (fun c12 hf => ?_) (fun c12 hf => ?_)
      · refine J_tblIn (t := 98) (off := 78) C0 dX12_most_20 (by rw [c12]; decide) (by rw [c12]; decide) (by rw [c12]; rfl) (by decide) ?_
        refine J_aload_n (q := 99) C0 0 rfl rfl dX12_most_98 rfl trivial ?_
        refine K_some hf (fun p13 hp13 hf => ?_)
        refine J_callV (q := 102) (ci := 11) (as := []) (rest := []) C0 rfl (h0) (t_X12_twins N a0  (hT) (h0)  hp13) ml_X12_twins lk_X12_432 im_X12_twins se_X12_twins rfl (by decide) dX12_most_99 rfl rfl rfl (by simp [ac_]) C1.room (by decide) (by decide) (by decide) (by decide) (fun r_ τ_ hQ => ?_)
        obtain ⟨rfl, ht_⟩ := hQ; have ht_ := ht_.symm; subst ht_
        show J_ Γ 102 [(0, vr (some a0)), (1, vi (x1))] [vi (p13)] σ 0 0
        obtain rfl := Option.some.inj hf; exact J_iret C1 dX12_most_102 rfl (Nat.zero_le _) (Nat.zero_le _) ⟨rfl, rfl, hT, hE⟩
      refine K_ite hf (fun c14 hf => ?_) (fun c14 hf => ?_)
      · refine J_tblIn (t := 132) (off := 112) C0 dX12_most_20 (by rw [c14]; decide) (by rw [c14]; decide) (by rw [c14]; rfl) (by decide) ?_
        refine J_aload_n (q := 133) C0 0 rfl rfl dX12_most_132 rfl trivial ?_
        refine J_iload_n (q := 134) C0 1 rfl rfl dX12_most_133 rfl ?_
        refine J_iconst (q := 135) (v := 5) C0 dX12_most_134 rfl rfl ?_
        refine J_isub (q := 136) C0 dX12_most_135 rfl ?_
        refine K_some hf (fun p15 hp15 hf => ?_)
        refine J_callV (q := 139) (ci := 11) (as := [vi ((x1) - (5))]) (rest := []) C0 rfl (h0) (t_X12_onesWho N a0 ((x1) - (5)) (hT) (h0)  hp15) ml_X12_onesWho lk_X12_438 im_X12_onesWho se_X12_onesWho rfl (by decide) dX12_most_136 rfl rfl rfl (by simp [ac_]) C1.room (by decide) (by decide) (by decide) (by decide) (fun r_ τ_ hQ => ?_)
        obtain ⟨rfl, rfl, Tp15, Ep15⟩ := hQ
        show J_ Γ 139 [(0, vr (some a0)), (1, vi (x1))] [vi (p15.1)] p15.2 0 0
        obtain rfl := Option.some.inj hf; exact J_iret C1 dX12_most_139 rfl (Nat.zero_le _) (Nat.zero_le _) ⟨rfl, rfl, Tp15, (hE).tr Ep15⟩
      refine K_ite hf (fun c16 hf => ?_) (fun c16 hf => ?_)
      · refine J_tblIn (t := 132) (off := 112) C0 dX12_most_20 (by rw [c16]; decide) (by rw [c16]; decide) (by rw [c16]; rfl) (by decide) ?_
        refine J_aload_n (q := 133) C0 0 rfl rfl dX12_most_132 rfl trivial ?_
        refine J_iload_n (q := 134) C0 1 rfl rfl dX12_most_133 rfl ?_
        refine J_iconst (q := 135) (v := 5) C0 dX12_most_134 rfl rfl ?_
        refine J_isub (q := 136) C0 dX12_most_135 rfl ?_
        refine K_some hf (fun p17 hp17 hf => ?_)
        refine J_callV (q := 139) (ci := 11) (as := [vi ((x1) - (5))]) (rest := []) C0 rfl (h0) (t_X12_onesWho N a0 ((x1) - (5)) (hT) (h0)  hp17) ml_X12_onesWho lk_X12_438 im_X12_onesWho se_X12_onesWho rfl (by decide) dX12_most_136 rfl rfl rfl (by simp [ac_]) C1.room (by decide) (by decide) (by decide) (by decide) (fun r_ τ_ hQ => ?_)
        obtain ⟨rfl, rfl, Tp17, Ep17⟩ := hQ
        show J_ Γ 139 [(0, vr (some a0)), (1, vi (x1))] [vi (p17.1)] p17.2 0 0
        obtain rfl := Option.some.inj hf; exact J_iret C1 dX12_most_139 rfl (Nat.zero_le _) (Nat.zero_le _) ⟨rfl, rfl, Tp17, (hE).tr Ep17⟩
      refine K_ite hf (fun c18 hf => ?_) (fun c18 hf => ?_)
      · refine J_tblIn (t := 132) (off := 112) C0 dX12_most_20 (by rw [c18]; decide) (by rw [c18]; decide) (by rw [c18]; rfl) (by decide) ?_
        refine J_aload_n (q := 133) C0 0 rfl rfl dX12_most_132 rfl trivial ?_
        refine J_iload_n (q := 134) C0 1 rfl rfl dX12_most_133 rfl ?_
        refine J_iconst (q := 135) (v := 5) C0 dX12_most_134 rfl rfl ?_
        refine J_isub (q := 136) C0 dX12_most_135 rfl ?_
        refine K_some hf (fun p19 hp19 hf => ?_)
        refine J_callV (q := 139) (ci := 11) (as := [vi ((x1) - (5))]) (rest := []) C0 rfl (h0) (t_X12_onesWho N a0 ((x1) - (5)) (hT) (h0)  hp19) ml_X12_onesWho lk_X12_438 im_X12_onesWho se_X12_onesWho rfl (by decide) dX12_most_136 rfl rfl rfl (by simp [ac_]) C1.room (by decide) (by decide) (by decide) (by decide) (fun r_ τ_ hQ => ?_)
        obtain ⟨rfl, rfl, Tp19, Ep19⟩ := hQ
        show J_ Γ 139 [(0, vr (some a0)), (1, vi (x1))] [vi (p19.1)] p19.2 0 0
        obtain rfl := Option.some.inj hf; exact J_iret C1 dX12_most_139 rfl (Nat.zero_le _) (Nat.zero_le _) ⟨rfl, rfl, Tp19, (hE).tr Ep19⟩
      refine K_ite hf (fun c20 hf => ?_) (fun c20 hf => ?_)
      · refine J_tblIn (t := 103) (off := 83) C0 dX12_most_20 (by rw [c20]; decide) (by rw [c20]; decide) (by rw [c20]; rfl) (by decide) ?_
        refine J_aload_n (q := 104) C0 0 rfl rfl dX12_most_103 rfl trivial ?_
        refine K_some hf (fun p21 hp21 hf => ?_)
        refine J_callV (q := 107) (ci := 11) (as := []) (rest := []) C0 rfl (h0) (t_X12_orderRow N a0  (hT) (h0)  hp21) ml_X12_orderRow lk_X12_435 im_X12_orderRow se_X12_orderRow rfl (by decide) dX12_most_104 rfl rfl rfl (by simp [ac_]) C1.room (by decide) (by decide) (by decide) (by decide) (fun r_ τ_ hQ => ?_)
        obtain ⟨rfl, ht_⟩ := hQ; have ht_ := ht_.symm; subst ht_
        show J_ Γ 107 [(0, vr (some a0)), (1, vi (x1))] [vi (p21)] σ 0 0
        obtain rfl := Option.some.inj hf; exact J_iret C1 dX12_most_107 rfl (Nat.zero_le _) (Nat.zero_le _) ⟨rfl, rfl, hT, hE⟩
      refine K_ite hf (fun c22 hf => ?_) (fun c22 hf => ?_)
      · refine J_tblIn (t := 108) (off := 88) C0 dX12_most_20 (by rw [c22]; decide) (by rw [c22]; decide) (by rw [c22]; rfl) (by decide) ?_
        refine J_aload_n (q := 109) C0 0 rfl rfl dX12_most_108 rfl trivial ?_
        refine J_getR (q := 112) C0 fl_X12_52_11 rfl (h0) rfl dX12_most_109 rfl ?_
        refine J_bipush (q := 114) (v := 16) C0 dX12_most_112 rfl rfl ?_
        refine K_some hf (fun b23 hb23 hf => ?_)
        have ab23 : is_A σ b23 12 := ((sg_T.op hT (j := 24) (h0) rfl)) b23 hb23
        refine K_chk hf (fun c24 hf => ?_)
        refine J_iald (q := 115) C0 hb23 (ab23) c24 dX12_most_114 rfl ?_
        refine J_aload_n (q := 116) C0 0 rfl rfl dX12_most_115 rfl trivial ?_
        refine J_getR (q := 119) C0 fl_X12_52_11 rfl (h0) rfl dX12_most_116 rfl ?_
        refine J_bipush (q := 121) (v := 19) C0 dX12_most_119 rfl rfl ?_
        refine K_chk hf (fun c25 hf => ?_)
        refine J_iald (q := 122) C0 hb23 (ab23) c25 dX12_most_121 rfl ?_
        refine J_aload_n (q := 123) C0 0 rfl rfl dX12_most_122 rfl trivial ?_
        refine J_getR (q := 126) C0 fl_X12_52_11 rfl (h0) rfl dX12_most_123 rfl ?_
        refine J_bipush (q := 128) (v := 16) C0 dX12_most_126 rfl rfl ?_
        refine K_chk hf (fun c26 hf => ?_)
        refine J_iald (q := 129) C0 hb23 (ab23) c26 dX12_most_128 rfl ?_
        refine K_chk hf (fun c27 hf => ?_)
        refine J_irem (q := 130) C0 dX12_most_129 rfl c27 ?_
        refine J_isub (q := 131) C0 dX12_most_130 rfl ?_
        obtain rfl := Option.some.inj hf; exact J_iret C1 dX12_most_131 rfl (Nat.zero_le _) (Nat.zero_le _) ⟨rfl, rfl, hT, hE⟩
      refine J_tblOut (t := 132) C0 dX12_most_20 (by have tc4 := lv_neT c4 (a := 0) (by decide); have tc6 := lv_neT c6 (a := 1) (by decide); have tc8 := lv_neT c8 (a := 2) (by decide); have tc10 := lv_neT c10 (a := 3) (by decide); have tc12 := lv_neT c12 (a := 4) (by decide); have tc14 := lv_neT c14 (a := 5) (by decide); have tc16 := lv_neT c16 (a := 6) (by decide); have tc18 := lv_neT c18 (a := 7) (by decide); have tc20 := lv_neT c20 (a := 8) (by decide); have tc22 := lv_neT c22 (a := 9) (by decide); omega) (by decide) ?_
      refine J_aload_n (q := 133) C0 0 rfl rfl dX12_most_132 rfl trivial ?_
      refine J_iload_n (q := 134) C0 1 rfl rfl dX12_most_133 rfl ?_
      refine J_iconst (q := 135) (v := 5) C0 dX12_most_134 rfl rfl ?_
      refine J_isub (q := 136) C0 dX12_most_135 rfl ?_
      refine K_some hf (fun p28 hp28 hf => ?_)
      refine J_callV (q := 139) (ci := 11) (as := [vi ((x1) - (5))]) (rest := []) C0 rfl (h0) (t_X12_onesWho N a0 ((x1) - (5)) (hT) (h0)  hp28) ml_X12_onesWho lk_X12_438 im_X12_onesWho se_X12_onesWho rfl (by decide) dX12_most_136 rfl rfl rfl (by simp [ac_]) C1.room (by decide) (by decide) (by decide) (by decide) (fun r_ τ_ hQ => ?_)
      obtain ⟨rfl, rfl, Tp28, Ep28⟩ := hQ
      show J_ Γ 139 [(0, vr (some a0)), (1, vi (x1))] [vi (p28.1)] p28.2 0 0
      obtain rfl := Option.some.inj hf; exact J_iret C1 dX12_most_139 rfl (Nat.zero_le _) (Nat.zero_le _) ⟨rfl, rfl, Tp28, (hE).tr Ep28⟩
    · refine J_iconst (q := 18) (v := (-1)) C0 dX12_most_17 rfl rfl ?_
      obtain rfl := Option.some.inj hf; exact J_iret C1 dX12_most_18 rfl (Nat.zero_le _) (Nat.zero_le _) ⟨rfl, rfl, hT, hE⟩
def f_X12_image_L11 (N : Nat) (a0 : Nat) : Nat → Int32 → Sg → Option (Int32 × Sg)
  | 0, _, _ => none
  | n + 1, v1, σ =>
  if (v1) < (261) then
  (Option.bind (sg_R σ a0 24) fun b5 =>
  if (v1) < 0 ∨ sg_L σ b5 ≤ (v1).toNatClampNeg then none else
  Option.bind (sg_R σ a0 39) fun b7 =>
  if (v1) < 0 ∨ sg_L σ b7 ≤ (v1).toNatClampNeg then none else
  f_X12_image_L11 N a0 n (v1 + 1) (put_I σ b7 (v1).toNatClampNeg (sg_I σ b5 (v1).toNatClampNeg)))
  else
  (Option.bind (sg_R (put_I σ a0 40 (1)) a0 24) fun b3 =>
  if (19 : Int32) < 0 ∨ sg_L (put_I σ a0 40 (1)) b3 ≤ (19 : Int32).toNatClampNeg then none else
  some (sg_I (put_I σ a0 40 (1)) b3 (19 : Int32).toNatClampNeg, put_I σ a0 40 (1)))
def f_X12_image (N : Nat) (a0 : Nat) (σ : Sg) : Option (Int32 × Sg) :=
  if (sg_I σ a0 20) = (0) then
  (some ((-1), σ))
  else
  (f_X12_image_L11 N a0 N (0) σ)
set_option maxHeartbeats 4000000 in
set_option maxRecDepth 100000 in
theorem t_X12_image_L11 {N : Nat} {a0 : Nat} {Γ : Gm} {σ0 : Sg} {r : (Int32 × Sg)} (C1 : CM Γ cX12_image RX12 2 (some .int) 0 0 0 0 (fun r_ τ_ => (r_ = some (vi r.1)) ∧ τ_ = r.2 ∧ sg_T τ_ ∧ sg_E σ0 τ_)) : ∀ (n : Nat) (v1 : Int32) (σ : Sg), sg_T σ → sg_E σ0 σ → is_A σ a0 11 → f_X12_image_L11 N a0  n v1 σ = some r → J_ Γ 11 [(0, vr (some a0)), (1, vi (v1))] [] σ 0 0 := by
  have C0 := C1.1
  intro n
  induction n with
  | zero => intro v1 σ hT hE h0  hf; unfold f_X12_image_L11 at hf; cases hf
  | succ n ih =>
    intro v1 σ hT hE h0  hf
    rw [f_X12_image_L11] at hf
    refine J_iload_n (q := 12) C0 1 rfl rfl dX12_image_11 rfl ?_
    refine J_sipush (q := 15) (v := 261) C0 dX12_image_12 rfl rfl ?_
    refine J_icmp_ge (t := 36) (q := 18) C0 dX12_image_15 (by decide) rfl hf (fun c2 hf => ?_) (fun c2 hf => ?_)
    · refine J_aload_n (q := 37) C0 0 rfl rfl dX12_image_36 rfl trivial ?_
      refine J_iconst (q := 38) (v := 1) C0 dX12_image_37 rfl rfl ?_
      refine J_putZ (q := 41) C0 (Or.inr rfl) fl_X12_275_11 rfl (h0) rfl dX12_image_38 rfl ?_
      refine J_aload_n (q := 42) C0 0 rfl rfl dX12_image_41 rfl trivial ?_
      refine J_getR (q := 45) C0 fl_X12_52_11 rfl ((h0).putI) rfl dX12_image_42 rfl ?_
      refine J_bipush (q := 47) (v := 19) C0 dX12_image_45 rfl rfl ?_
      refine K_some hf (fun b3 hb3 hf => ?_)
      have ab3 : is_A (put_I σ a0 40 (1)) b3 12 := ((sg_T.op (hT).putI (j := 24) ((h0).putI) rfl)) b3 hb3
      refine K_chk hf (fun c4 hf => ?_)
      refine J_iald (q := 48) C0 hb3 (ab3) c4 dX12_image_47 rfl ?_
      obtain rfl := Option.some.inj hf; exact J_iret C1 dX12_image_48 rfl (Nat.zero_le _) (Nat.zero_le _) ⟨rfl, rfl, (hT).putI, (hE).putI⟩
    · refine J_aload_n (q := 19) C0 0 rfl rfl dX12_image_18 rfl trivial ?_
      refine J_getR (q := 22) C0 fl_X12_90_11 rfl (h0) rfl dX12_image_19 rfl ?_
      refine J_iload_n (q := 23) C0 1 rfl rfl dX12_image_22 rfl ?_
      refine J_aload_n (q := 24) C0 0 rfl rfl dX12_image_23 rfl trivial ?_
      refine J_getR (q := 27) C0 fl_X12_52_11 rfl (h0) rfl dX12_image_24 rfl ?_
      refine J_iload_n (q := 28) C0 1 rfl rfl dX12_image_27 rfl ?_
      refine K_some hf (fun b5 hb5 hf => ?_)
      have ab5 : is_A σ b5 12 := ((sg_T.op hT (j := 24) (h0) rfl)) b5 hb5
      refine K_chk hf (fun c6 hf => ?_)
      refine J_iald (q := 29) C0 hb5 (ab5) c6 dX12_image_28 rfl ?_
      refine K_some hf (fun b7 hb7 hf => ?_)
      have ab7 : is_A σ b7 12 := ((sg_T.op hT (j := 39) (h0) rfl)) b7 hb7
      refine K_chk hf (fun c8 hf => ?_)
      refine J_iast (q := 30) C0 hb7 (ab7) c8 dX12_image_29 rfl ?_
      refine J_iinc (q := 33) (v := v1 + 1) (lv' := [(1, vi (v1 + 1)), (0, vr (some a0))]) C0 1 rfl rfl (G_nl C1 (by decide)) dX12_image_30 rfl rfl ?_
      refine J_goto (q := 11) C0 dX12_image_33 (by decide) ?_
      refine J_sub (lv' := [(0, vr (some a0)), (1, vi (v1 + 1))]) [1, 0] rfl ?_
      exact ih (v1 + 1) (put_I σ b7 (v1).toNatClampNeg (sg_I σ b5 (v1).toNatClampNeg)) ((hT).putI) ((hE).putI) ((h0).putI)  hf
set_option maxHeartbeats 4000000 in
set_option maxRecDepth 100000 in
theorem t_X12_image (N : Nat) (a0 : Nat) {σ : Sg} (hT : sg_T σ) (h0 : is_A σ a0 11) {r : (Int32 × Sg)} (hf : f_X12_image N a0  σ = some r) : Ct yX12_image cX12_image 2 (some .int) 0 0 0 0 [vr (some a0)] σ (fun r_ τ_ => (r_ = some (vi r.1)) ∧ τ_ = r.2 ∧ sg_T τ_ ∧ sg_E σ τ_) := by
  refine Ct.of (by decide +kernel) (Nat.le_of_ble_eq_true rfl) (fun Γ C1 => ?_)
  have C0 := C1.1
  have hE : sg_E σ σ := sg_E.rf
  unfold f_X12_image at hf
  show J_ Γ 0 [(0, vr (some a0))] [] σ 0 0
  refine J_aload_n (q := 1) C0 0 rfl rfl dX12_image_0 rfl trivial ?_
  refine J_getI (q := 4) C0 fl_X12_263_11 rfl (h0) rfl dX12_image_1 rfl ?_
  refine J_if_ne (t := 9) (q := 7) C0 dX12_image_4 (by decide) rfl hf (fun c1 hf => ?_) (fun c1 hf => ?_)
  · refine J_iconst (q := 10) (v := 0) C0 dX12_image_9 rfl rfl ?_
    refine J_istore_n (q := 11) (lv' := [(1, vi (0)), (0, vr (some a0))]) C0 rfl (G_nl C1 (by decide)) dX12_image_10 rfl rfl ?_
    refine J_sub (lv' := [(0, vr (some a0)), (1, vi (0))]) [1, 0] rfl ?_
    exact t_X12_image_L11 C1    N (0) σ (hT) (hE) (h0)  hf
  · refine J_iconst (q := 8) (v := (-1)) C0 dX12_image_7 rfl rfl ?_
    obtain rfl := Option.some.inj hf; exact J_iret C1 dX12_image_8 rfl (Nat.zero_le _) (Nat.zero_le _) ⟨rfl, rfl, hT, hE⟩
def f_X12_back_L11 (N : Nat) (a0 : Nat) : Nat → Int32 → Sg → Option (Int32 × Sg)
  | 0, _, _ => none
  | n + 1, v1, σ =>
  if (v1) < (261) then
  (Option.bind (sg_R σ a0 39) fun b5 =>
  if (v1) < 0 ∨ sg_L σ b5 ≤ (v1).toNatClampNeg then none else
  Option.bind (sg_R σ a0 24) fun b7 =>
  if (v1) < 0 ∨ sg_L σ b7 ≤ (v1).toNatClampNeg then none else
  f_X12_back_L11 N a0 n (v1 + 1) (put_I σ b7 (v1).toNatClampNeg (sg_I σ b5 (v1).toNatClampNeg)))
  else
  (Option.bind (sg_R (put_I σ a0 29 (0)) a0 24) fun b3 =>
  if (19 : Int32) < 0 ∨ sg_L (put_I σ a0 29 (0)) b3 ≤ (19 : Int32).toNatClampNeg then none else
  some (sg_I (put_I σ a0 29 (0)) b3 (19 : Int32).toNatClampNeg, put_I σ a0 29 (0)))
def f_X12_back (N : Nat) (a0 : Nat) (σ : Sg) : Option (Int32 × Sg) :=
  if (sg_I σ a0 40) = (0) then
  (some ((-1), σ))
  else
  (f_X12_back_L11 N a0 N (0) σ)
set_option maxHeartbeats 4000000 in
set_option maxRecDepth 100000 in
theorem t_X12_back_L11 {N : Nat} {a0 : Nat} {Γ : Gm} {σ0 : Sg} {r : (Int32 × Sg)} (C1 : CM Γ cX12_back RX12 2 (some .int) 0 0 0 0 (fun r_ τ_ => (r_ = some (vi r.1)) ∧ τ_ = r.2 ∧ sg_T τ_ ∧ sg_E σ0 τ_)) : ∀ (n : Nat) (v1 : Int32) (σ : Sg), sg_T σ → sg_E σ0 σ → is_A σ a0 11 → f_X12_back_L11 N a0  n v1 σ = some r → J_ Γ 11 [(0, vr (some a0)), (1, vi (v1))] [] σ 0 0 := by
  have C0 := C1.1
  intro n
  induction n with
  | zero => intro v1 σ hT hE h0  hf; unfold f_X12_back_L11 at hf; cases hf
  | succ n ih =>
    intro v1 σ hT hE h0  hf
    rw [f_X12_back_L11] at hf
    refine J_iload_n (q := 12) C0 1 rfl rfl dX12_back_11 rfl ?_
    refine J_sipush (q := 15) (v := 261) C0 dX12_back_12 rfl rfl ?_
    refine J_icmp_ge (t := 36) (q := 18) C0 dX12_back_15 (by decide) rfl hf (fun c2 hf => ?_) (fun c2 hf => ?_)
    · refine J_aload_n (q := 37) C0 0 rfl rfl dX12_back_36 rfl trivial ?_
      refine J_iconst (q := 38) (v := 0) C0 dX12_back_37 rfl rfl ?_
      refine J_putI (q := 41) C0 fl_X12_272_11 rfl (h0) rfl dX12_back_38 rfl ?_
      refine J_aload_n (q := 42) C0 0 rfl rfl dX12_back_41 rfl trivial ?_
      refine J_getR (q := 45) C0 fl_X12_52_11 rfl ((h0).putI) rfl dX12_back_42 rfl ?_
      refine J_bipush (q := 47) (v := 19) C0 dX12_back_45 rfl rfl ?_
      refine K_some hf (fun b3 hb3 hf => ?_)
      have ab3 : is_A (put_I σ a0 29 (0)) b3 12 := ((sg_T.op (hT).putI (j := 24) ((h0).putI) rfl)) b3 hb3
      refine K_chk hf (fun c4 hf => ?_)
      refine J_iald (q := 48) C0 hb3 (ab3) c4 dX12_back_47 rfl ?_
      obtain rfl := Option.some.inj hf; exact J_iret C1 dX12_back_48 rfl (Nat.zero_le _) (Nat.zero_le _) ⟨rfl, rfl, (hT).putI, (hE).putI⟩
    · refine J_aload_n (q := 19) C0 0 rfl rfl dX12_back_18 rfl trivial ?_
      refine J_getR (q := 22) C0 fl_X12_52_11 rfl (h0) rfl dX12_back_19 rfl ?_
      refine J_iload_n (q := 23) C0 1 rfl rfl dX12_back_22 rfl ?_
      refine J_aload_n (q := 24) C0 0 rfl rfl dX12_back_23 rfl trivial ?_
      refine J_getR (q := 27) C0 fl_X12_90_11 rfl (h0) rfl dX12_back_24 rfl ?_
      refine J_iload_n (q := 28) C0 1 rfl rfl dX12_back_27 rfl ?_
      refine K_some hf (fun b5 hb5 hf => ?_)
      have ab5 : is_A σ b5 12 := ((sg_T.op hT (j := 39) (h0) rfl)) b5 hb5
      refine K_chk hf (fun c6 hf => ?_)
      refine J_iald (q := 29) C0 hb5 (ab5) c6 dX12_back_28 rfl ?_
      refine K_some hf (fun b7 hb7 hf => ?_)
      have ab7 : is_A σ b7 12 := ((sg_T.op hT (j := 24) (h0) rfl)) b7 hb7
      refine K_chk hf (fun c8 hf => ?_)
      refine J_iast (q := 30) C0 hb7 (ab7) c8 dX12_back_29 rfl ?_
      refine J_iinc (q := 33) (v := v1 + 1) (lv' := [(1, vi (v1 + 1)), (0, vr (some a0))]) C0 1 rfl rfl (G_nl C1 (by decide)) dX12_back_30 rfl rfl ?_
      refine J_goto (q := 11) C0 dX12_back_33 (by decide) ?_
      refine J_sub (lv' := [(0, vr (some a0)), (1, vi (v1 + 1))]) [1, 0] rfl ?_
      exact ih (v1 + 1) (put_I σ b7 (v1).toNatClampNeg (sg_I σ b5 (v1).toNatClampNeg)) ((hT).putI) ((hE).putI) ((h0).putI)  hf
set_option maxHeartbeats 4000000 in
set_option maxRecDepth 100000 in
theorem t_X12_back (N : Nat) (a0 : Nat) {σ : Sg} (hT : sg_T σ) (h0 : is_A σ a0 11) {r : (Int32 × Sg)} (hf : f_X12_back N a0  σ = some r) : Ct yX12_back cX12_back 2 (some .int) 0 0 0 0 [vr (some a0)] σ (fun r_ τ_ => (r_ = some (vi r.1)) ∧ τ_ = r.2 ∧ sg_T τ_ ∧ sg_E σ τ_) := by
  refine Ct.of (by decide +kernel) (Nat.le_of_ble_eq_true rfl) (fun Γ C1 => ?_)
  have C0 := C1.1
  have hE : sg_E σ σ := sg_E.rf
  unfold f_X12_back at hf
  show J_ Γ 0 [(0, vr (some a0))] [] σ 0 0
  refine J_aload_n (q := 1) C0 0 rfl rfl dX12_back_0 rfl trivial ?_
  refine J_getI (q := 4) C0 fl_X12_275_11 rfl (h0) rfl dX12_back_1 rfl ?_
  refine J_if_ne (t := 9) (q := 7) C0 dX12_back_4 (by decide) rfl hf (fun c1 hf => ?_) (fun c1 hf => ?_)
  · refine J_iconst (q := 10) (v := 0) C0 dX12_back_9 rfl rfl ?_
    refine J_istore_n (q := 11) (lv' := [(1, vi (0)), (0, vr (some a0))]) C0 rfl (G_nl C1 (by decide)) dX12_back_10 rfl rfl ?_
    refine J_sub (lv' := [(0, vr (some a0)), (1, vi (0))]) [1, 0] rfl ?_
    exact t_X12_back_L11 C1    N (0) σ (hT) (hE) (h0)  hf
  · refine J_iconst (q := 8) (v := (-1)) C0 dX12_back_7 rfl rfl ?_
    obtain rfl := Option.some.inj hf; exact J_iret C1 dX12_back_8 rfl (Nat.zero_le _) (Nat.zero_le _) ⟨rfl, rfl, hT, hE⟩
def f_X12_count (a0 : Nat) (x1 : Int32) (σ : Sg) : Option Int32 :=
  if (x1) = 0 then
  (some (sg_I σ a0 20))
  else
  if (x1) = 1 then
  (some (sg_I σ a0 13))
  else
  if (x1) = 2 then
  (some (sg_I σ a0 23))
  else
  if (x1) = 3 then
  (some (sg_I σ a0 2))
  else
  if (x1) = 4 then
  (some (sg_I σ a0 26))
  else
  if (x1) = 5 then
  (Option.bind (sg_R σ a0 24) fun b7 =>
  if (19 : Int32) < 0 ∨ sg_L σ b7 ≤ (19 : Int32).toNatClampNeg then none else
  some (sg_I σ b7 (19 : Int32).toNatClampNeg))
  else
  if (x1) = 6 then
  (some (sg_I σ a0 27))
  else
  if (x1) = 7 then
  (some (sg_I σ a0 37))
  else
  if (x1) = 8 then
  (Option.bind (sg_R σ a0 24) fun b12 =>
  if (20 : Int32) < 0 ∨ sg_L σ b12 ≤ (20 : Int32).toNatClampNeg then none else
  some (sg_I σ b12 (20 : Int32).toNatClampNeg))
  else
  if (x1) = 9 then
  (some (sg_I σ a0 29))
  else
  (some ((-1000000)))
set_option maxHeartbeats 4000000 in
set_option maxRecDepth 100000 in
theorem t_X12_count (a0 : Nat) (x1 : Int32) {σ : Sg} (hT : sg_T σ) (h0 : is_A σ a0 11) {r : Int32} (hf : f_X12_count a0 x1 σ = some r) : Ct yX12_count cX12_count 2 (some .int) 0 0 0 0 [vr (some a0), vi x1] σ (fun r_ τ_ => (r_ = some (vi r)) ∧ τ_ = σ) := by
  refine Ct.of (by decide +kernel) (Nat.le_of_ble_eq_true rfl) (fun Γ C1 => ?_)
  have C0 := C1.1
  unfold f_X12_count at hf
  show J_ Γ 0 [(0, vr (some a0)), (1, vi (x1))] [] σ 0 0
  refine J_iload_n (q := 1) C0 1 rfl rfl dX12_count_0 rfl ?_
  refine K_ite hf (fun c1 hf => ?_) (fun c1 hf => ?_)
  · refine J_tblIn (t := 56) (off := 55) C0 dX12_count_1 (by rw [c1]; decide) (by rw [c1]; decide) (by rw [c1]; rfl) (by decide) ?_
    refine J_aload_n (q := 57) C0 0 rfl rfl dX12_count_56 rfl trivial ?_
    refine J_getI (q := 60) C0 fl_X12_263_11 rfl (h0) rfl dX12_count_57 rfl ?_
    obtain rfl := Option.some.inj hf; exact J_iret C1 dX12_count_60 rfl (Nat.zero_le _) (Nat.zero_le _) ⟨rfl, rfl⟩
  refine K_ite hf (fun c2 hf => ?_) (fun c2 hf => ?_)
  · refine J_tblIn (t := 61) (off := 60) C0 dX12_count_1 (by rw [c2]; decide) (by rw [c2]; decide) (by rw [c2]; rfl) (by decide) ?_
    refine J_aload_n (q := 62) C0 0 rfl rfl dX12_count_61 rfl trivial ?_
    refine J_getI (q := 65) C0 fl_X12_282_11 rfl (h0) rfl dX12_count_62 rfl ?_
    obtain rfl := Option.some.inj hf; exact J_iret C1 dX12_count_65 rfl (Nat.zero_le _) (Nat.zero_le _) ⟨rfl, rfl⟩
  refine K_ite hf (fun c3 hf => ?_) (fun c3 hf => ?_)
  · refine J_tblIn (t := 66) (off := 65) C0 dX12_count_1 (by rw [c3]; decide) (by rw [c3]; decide) (by rw [c3]; rfl) (by decide) ?_
    refine J_aload_n (q := 67) C0 0 rfl rfl dX12_count_66 rfl trivial ?_
    refine J_getI (q := 70) C0 fl_X12_251_11 rfl (h0) rfl dX12_count_67 rfl ?_
    obtain rfl := Option.some.inj hf; exact J_iret C1 dX12_count_70 rfl (Nat.zero_le _) (Nat.zero_le _) ⟨rfl, rfl⟩
  refine K_ite hf (fun c4 hf => ?_) (fun c4 hf => ?_)
  · refine J_tblIn (t := 71) (off := 70) C0 dX12_count_1 (by rw [c4]; decide) (by rw [c4]; decide) (by rw [c4]; rfl) (by decide) ?_
    refine J_aload_n (q := 72) C0 0 rfl rfl dX12_count_71 rfl trivial ?_
    refine J_getI (q := 75) C0 fl_X12_100_11 rfl (h0) rfl dX12_count_72 rfl ?_
    obtain rfl := Option.some.inj hf; exact J_iret C1 dX12_count_75 rfl (Nat.zero_le _) (Nat.zero_le _) ⟨rfl, rfl⟩
  refine K_ite hf (fun c5 hf => ?_) (fun c5 hf => ?_)
  · refine J_tblIn (t := 76) (off := 75) C0 dX12_count_1 (by rw [c5]; decide) (by rw [c5]; decide) (by rw [c5]; rfl) (by decide) ?_
    refine J_aload_n (q := 77) C0 0 rfl rfl dX12_count_76 rfl trivial ?_
    refine J_getI (q := 80) C0 fl_X12_58_11 rfl (h0) rfl dX12_count_77 rfl ?_
    obtain rfl := Option.some.inj hf; exact J_iret C1 dX12_count_80 rfl (Nat.zero_le _) (Nat.zero_le _) ⟨rfl, rfl⟩
  refine K_ite hf (fun c6 hf => ?_) (fun c6 hf => ?_)
  · refine J_tblIn (t := 81) (off := 80) C0 dX12_count_1 (by rw [c6]; decide) (by rw [c6]; decide) (by rw [c6]; rfl) (by decide) ?_
    refine J_aload_n (q := 82) C0 0 rfl rfl dX12_count_81 rfl trivial ?_
    refine J_getR (q := 85) C0 fl_X12_52_11 rfl (h0) rfl dX12_count_82 rfl ?_
    refine J_bipush (q := 87) (v := 19) C0 dX12_count_85 rfl rfl ?_
    refine K_some hf (fun b7 hb7 hf => ?_)
    have ab7 : is_A σ b7 12 := ((sg_T.op hT (j := 24) (h0) rfl)) b7 hb7
    refine K_chk hf (fun c8 hf => ?_)
    refine J_iald (q := 88) C0 hb7 (ab7) c8 dX12_count_87 rfl ?_
    obtain rfl := Option.some.inj hf; exact J_iret C1 dX12_count_88 rfl (Nat.zero_le _) (Nat.zero_le _) ⟨rfl, rfl⟩
  refine K_ite hf (fun c9 hf => ?_) (fun c9 hf => ?_)
  · refine J_tblIn (t := 89) (off := 88) C0 dX12_count_1 (by rw [c9]; decide) (by rw [c9]; decide) (by rw [c9]; rfl) (by decide) ?_
    refine J_aload_n (q := 90) C0 0 rfl rfl dX12_count_89 rfl trivial ?_
    refine J_getI (q := 93) C0 fl_X12_62_11 rfl (h0) rfl dX12_count_90 rfl ?_
    obtain rfl := Option.some.inj hf; exact J_iret C1 dX12_count_93 rfl (Nat.zero_le _) (Nat.zero_le _) ⟨rfl, rfl⟩
  refine K_ite hf (fun c10 hf => ?_) (fun c10 hf => ?_)
  · refine J_tblIn (t := 94) (off := 93) C0 dX12_count_1 (by rw [c10]; decide) (by rw [c10]; decide) (by rw [c10]; rfl) (by decide) ?_
    refine J_aload_n (q := 95) C0 0 rfl rfl dX12_count_94 rfl trivial ?_
    refine J_getI (q := 98) C0 fl_X12_269_11 rfl (h0) rfl dX12_count_95 rfl ?_
    obtain rfl := Option.some.inj hf; exact J_iret C1 dX12_count_98 rfl (Nat.zero_le _) (Nat.zero_le _) ⟨rfl, rfl⟩
  refine K_ite hf (fun c11 hf => ?_) (fun c11 hf => ?_)
  · refine J_tblIn (t := 99) (off := 98) C0 dX12_count_1 (by rw [c11]; decide) (by rw [c11]; decide) (by rw [c11]; rfl) (by decide) ?_
    refine J_aload_n (q := 100) C0 0 rfl rfl dX12_count_99 rfl trivial ?_
    refine J_getR (q := 103) C0 fl_X12_52_11 rfl (h0) rfl dX12_count_100 rfl ?_
    refine J_bipush (q := 105) (v := 20) C0 dX12_count_103 rfl rfl ?_
    refine K_some hf (fun b12 hb12 hf => ?_)
    have ab12 : is_A σ b12 12 := ((sg_T.op hT (j := 24) (h0) rfl)) b12 hb12
    refine K_chk hf (fun c13 hf => ?_)
    refine J_iald (q := 106) C0 hb12 (ab12) c13 dX12_count_105 rfl ?_
    obtain rfl := Option.some.inj hf; exact J_iret C1 dX12_count_106 rfl (Nat.zero_le _) (Nat.zero_le _) ⟨rfl, rfl⟩
  refine K_ite hf (fun c14 hf => ?_) (fun c14 hf => ?_)
  · refine J_tblIn (t := 107) (off := 106) C0 dX12_count_1 (by rw [c14]; decide) (by rw [c14]; decide) (by rw [c14]; rfl) (by decide) ?_
    refine J_aload_n (q := 108) C0 0 rfl rfl dX12_count_107 rfl trivial ?_
    refine J_getI (q := 111) C0 fl_X12_272_11 rfl (h0) rfl dX12_count_108 rfl ?_
    obtain rfl := Option.some.inj hf; exact J_iret C1 dX12_count_111 rfl (Nat.zero_le _) (Nat.zero_le _) ⟨rfl, rfl⟩
  refine J_tblOut (t := 112) C0 dX12_count_1 (by have tc1 := lv_neT c1 (a := 0) (by decide); have tc2 := lv_neT c2 (a := 1) (by decide); have tc3 := lv_neT c3 (a := 2) (by decide); have tc4 := lv_neT c4 (a := 3) (by decide); have tc5 := lv_neT c5 (a := 4) (by decide); have tc6 := lv_neT c6 (a := 5) (by decide); have tc9 := lv_neT c9 (a := 6) (by decide); have tc10 := lv_neT c10 (a := 7) (by decide); have tc11 := lv_neT c11 (a := 8) (by decide); have tc14 := lv_neT c14 (a := 9) (by decide); omega) (by decide) ?_
  refine J_ldc_w (q := 115) C0 kc_X12_345 dX12_count_112 rfl ?_
  obtain rfl := Option.some.inj hf; exact J_iret C1 dX12_count_115 rfl (Nat.zero_le _) (Nat.zero_le _) ⟨rfl, rfl⟩
