def f_X4_isSo_B72 (N : Nat) (a0 : Nat) (k6 : Option Nat → Int32 → Int32 → Int32 → Int32 → Option Int32) (v1 : Option Nat) (v2 : Int32) (v3 : Int32) (v5 : Int32) (s0 : Int32) (σ : Sg) : Option Int32 :=
  k6 (v1) (v2) (v3) (s0) (v5 + 1)
def f_X4_isSo_B57 (N : Nat) (a0 : Nat) (k6 : Option Nat → Int32 → Int32 → Int32 → Int32 → Option Int32) (v1 : Option Nat) (v2 : Int32) (v3 : Int32) (v5 : Int32) (s0 : Int32) (σ : Sg) : Option Int32 :=
  Option.bind (sg_R σ a0 2) fun b14 =>
  if (v5) < 0 ∨ sg_L σ b14 ≤ (v5).toNatClampNeg then none else
  if (s0) = (sg_I σ b14 (v5).toNatClampNeg) then
  (f_X4_isSo_B72 N a0 k6 (v1) (v2) (v3) (v5) (1) σ)
  else
  (f_X4_isSo_B72 N a0 k6 (v1) (v2) (v3) (v5) (0) σ)
def f_X4_isSo_L6 (N : Nat) (a0 : Nat) : Nat → Option Nat → Int32 → Int32 → Int32 → Int32 → Sg → Option Int32
  | 0, _, _, _, _, _, _ => none
  | n + 1, v1, v2, v3, v4, v5, σ =>
  if (v5) < (sg_I σ a0 3) then
  (if (v5) < (10) then
  (if (v4) = (0) then
  (if ¬ ((v4) = 0 ∨ (v4) = 1) then none else
  some (v4))
  else
  (Option.bind (sg_R σ a0 0) fun b7 =>
  if (v5) < 0 ∨ sg_L σ b7 ≤ (v5).toNatClampNeg then none else
  Option.bind (v1) fun b9 =>
  Option.bind (f_X8_shownAt b9 ((v3) + ((v2) * (sg_I σ b7 (v5).toNatClampNeg))) σ) fun p10 =>
  Option.bind (sg_R σ a0 1) fun b11 =>
  if (v5) < 0 ∨ sg_L σ b11 ≤ (v5).toNatClampNeg then none else
  if (p10) = (sg_I σ b11 (v5).toNatClampNeg) then
  (f_X4_isSo_B57 N a0 (fun v1 v2 v3 v4 v5 => f_X4_isSo_L6 N a0 n v1 v2 v3 v4 v5 σ) (v1) (v2) (v3) (v5) (1) σ)
  else
  (f_X4_isSo_B57 N a0 (fun v1 v2 v3 v4 v5 => f_X4_isSo_L6 N a0 n v1 v2 v3 v4 v5 σ) (v1) (v2) (v3) (v5) (0) σ)))
  else
  (if ¬ ((v4) = 0 ∨ (v4) = 1) then none else
  some (v4)))
  else
  (if ¬ ((v4) = 0 ∨ (v4) = 1) then none else
  some (v4))
def f_X4_isSo (N : Nat) (a0 : Nat) (e1 : Option Nat) (x2 : Int32) (x3 : Int32) (σ : Sg) : Option Int32 :=
  f_X4_isSo_L6 N a0 N (e1) (x2) (x3) (1) (0) σ
set_option maxHeartbeats 4000000 in
set_option maxRecDepth 100000 in
theorem t_X4_isSo_B72 {N : Nat} {a0 : Nat} {Γ : Gm} {σ : Sg} {r : Int32} (C1 : CM Γ cX4_isSo RX4 6 (some .boolean) 3 64 0 0 (fun r_ τ_ => (r_ = some (vi r) ∧ (r = 0 ∨ r = 1)) ∧ τ_ = σ)) (hT : sg_T σ) (h0 : is_A σ a0 4) (k6 : Option Nat → Int32 → Int32 → Int32 → Int32 → Option Int32) (hk6 : ∀ (v1 : Option Nat) (v2 : Int32) (v3 : Int32) (v4 : Int32) (v5 : Int32) , is_O σ v1 7 → k6 v1 v2 v3 v4 v5 = some r → J_ Γ 6 [(0, vr (some a0)), (1, vr v1), (2, vi v2), (3, vi v3), (4, vi v4), (5, vi v5)] [] σ 0 0) (v1 : Option Nat) (v2 : Int32) (v3 : Int32) (v5 : Int32) (s0 : Int32) (g_v1 : is_O σ v1 7) (hf : f_X4_isSo_B72 N a0 k6  v1 v2 v3 v5 s0 σ = some r) : J_ Γ 72 [(0, vr (some a0)), (1, vr (v1)), (2, vi (v2)), (3, vi (v3)), (5, vi (v5))] [vi (s0)] σ 0 0 := by
  have C0 := C1.1
  unfold f_X4_isSo_B72 at hf
  refine J_istore (q := 74) (lv' := [(4, vi (s0)), (0, vr (some a0)), (1, vr (v1)), (2, vi (v2)), (3, vi (v3)), (5, vi (v5))]) C0 (G_nl C1 (by decide)) dX4_isSo_72 rfl rfl ?_
  refine J_iinc (q := 77) (v := v5 + 1) (lv' := [(5, vi (v5 + 1)), (4, vi (s0)), (0, vr (some a0)), (1, vr (v1)), (2, vi (v2)), (3, vi (v3))]) C0 5 rfl rfl (G_nl C1 (by decide)) dX4_isSo_74 rfl rfl ?_
  refine J_goto (q := 6) C0 dX4_isSo_77 (by decide) ?_
  refine J_sub (lv' := [(0, vr (some a0)), (1, vr (v1)), (2, vi (v2)), (3, vi (v3)), (4, vi (s0)), (5, vi (v5 + 1))]) [2, 3, 4, 5, 1, 0] rfl ?_
  exact hk6 (v1) (v2) (v3) (s0) (v5 + 1) (g_v1) hf
set_option maxHeartbeats 4000000 in
set_option maxRecDepth 100000 in
theorem t_X4_isSo_B57 {N : Nat} {a0 : Nat} {Γ : Gm} {σ : Sg} {r : Int32} (C1 : CM Γ cX4_isSo RX4 6 (some .boolean) 3 64 0 0 (fun r_ τ_ => (r_ = some (vi r) ∧ (r = 0 ∨ r = 1)) ∧ τ_ = σ)) (hT : sg_T σ) (h0 : is_A σ a0 4) (k6 : Option Nat → Int32 → Int32 → Int32 → Int32 → Option Int32) (hk6 : ∀ (v1 : Option Nat) (v2 : Int32) (v3 : Int32) (v4 : Int32) (v5 : Int32) , is_O σ v1 7 → k6 v1 v2 v3 v4 v5 = some r → J_ Γ 6 [(0, vr (some a0)), (1, vr v1), (2, vi v2), (3, vi v3), (4, vi v4), (5, vi v5)] [] σ 0 0) (v1 : Option Nat) (v2 : Int32) (v3 : Int32) (v5 : Int32) (s0 : Int32) (g_v1 : is_O σ v1 7) (hf : f_X4_isSo_B57 N a0 k6  v1 v2 v3 v5 s0 σ = some r) : J_ Γ 57 [(0, vr (some a0)), (1, vr (v1)), (2, vi (v2)), (3, vi (v3)), (5, vi (v5))] [vi (s0)] σ 0 0 := by
  have C0 := C1.1
  unfold f_X4_isSo_B57 at hf
  refine J_aload_n (q := 58) C0 0 rfl rfl dX4_isSo_57 rfl trivial ?_
  refine J_getR (q := 61) C0 fl_X4_18_4 rfl (h0) rfl dX4_isSo_58 rfl ?_
  refine J_iload (q := 63) C0 4 rfl dX4_isSo_61 rfl ?_
  refine K_some hf (fun b14 hb14 hf => ?_)
  have ab14 : is_A σ b14 13 := ((sg_T.op hT (j := 2) (h0) rfl)) b14 hb14
  refine K_chk hf (fun c15 hf => ?_)
  refine J_zald (q := 64) C0 hb14 (ab14) c15 dX4_isSo_63 rfl ?_
  refine J_icmp_ne (t := 71) (q := 67) C0 dX4_isSo_64 (by decide) rfl hf (fun c16 hf => ?_) (fun c16 hf => ?_)
  · refine J_iconst (q := 72) (v := 0) C0 dX4_isSo_71 rfl rfl ?_
    exact t_X4_isSo_B72 C1 (hT) (h0) k6  hk6  (v1) (v2) (v3) (v5) (0) (g_v1) hf
  · refine J_iconst (q := 68) (v := 1) C0 dX4_isSo_67 rfl rfl ?_
    refine J_goto (q := 72) C0 dX4_isSo_68 (by decide) ?_
    exact t_X4_isSo_B72 C1 (hT) (h0) k6  hk6  (v1) (v2) (v3) (v5) (1) (g_v1) hf
set_option maxHeartbeats 4000000 in
set_option maxRecDepth 100000 in
theorem t_X4_isSo_L6 {N : Nat} {a0 : Nat} {Γ : Gm} {σ : Sg} {r : Int32} (C1 : CM Γ cX4_isSo RX4 6 (some .boolean) 3 64 0 0 (fun r_ τ_ => (r_ = some (vi r) ∧ (r = 0 ∨ r = 1)) ∧ τ_ = σ)) (hT : sg_T σ) (h0 : is_A σ a0 4) : ∀ (n : Nat) (v1 : Option Nat) (v2 : Int32) (v3 : Int32) (v4 : Int32) (v5 : Int32), is_O σ v1 7 → f_X4_isSo_L6 N a0  n v1 v2 v3 v4 v5 σ = some r → J_ Γ 6 [(0, vr (some a0)), (1, vr (v1)), (2, vi (v2)), (3, vi (v3)), (4, vi (v4)), (5, vi (v5))] [] σ 0 0 := by
  have C0 := C1.1
  intro n
  induction n with
  | zero => intro v1 v2 v3 v4 v5 g_v1 hf; unfold f_X4_isSo_L6 at hf; cases hf
  | succ n ih =>
    intro v1 v2 v3 v4 v5 g_v1 hf
    rw [f_X4_isSo_L6] at hf
    refine J_iload (q := 8) C0 5 rfl dX4_isSo_6 rfl ?_
    refine J_aload_n (q := 9) C0 0 rfl rfl dX4_isSo_8 rfl trivial ?_
    refine J_getI (q := 12) C0 fl_X4_22_4 rfl (h0) rfl dX4_isSo_9 rfl ?_
    refine J_icmp_ge (t := 80) (q := 15) C0 dX4_isSo_12 (by decide) rfl hf (fun c1 hf => ?_) (fun c1 hf => ?_)
    · refine J_iload (q := 82) C0 4 rfl dX4_isSo_80 rfl ?_
      refine K_chk hf (fun c2 hf => ?_)
      obtain rfl := Option.some.inj hf; exact J_zret C1 dX4_isSo_82 rfl (Decidable.not_not.mp c2) (Nat.zero_le _) (Nat.zero_le _) ⟨⟨rfl, (Decidable.not_not.mp c2)⟩, rfl⟩
    · refine J_iload (q := 17) C0 5 rfl dX4_isSo_15 rfl ?_
      refine J_bipush (q := 19) (v := 10) C0 dX4_isSo_17 rfl rfl ?_
      refine J_icmp_ge (t := 80) (q := 22) C0 dX4_isSo_19 (by decide) rfl hf (fun c3 hf => ?_) (fun c3 hf => ?_)
      · refine J_iload (q := 82) C0 4 rfl dX4_isSo_80 rfl ?_
        refine K_chk hf (fun c4 hf => ?_)
        obtain rfl := Option.some.inj hf; exact J_zret C1 dX4_isSo_82 rfl (Decidable.not_not.mp c4) (Nat.zero_le _) (Nat.zero_le _) ⟨⟨rfl, (Decidable.not_not.mp c4)⟩, rfl⟩
      · refine J_iload (q := 24) C0 4 rfl dX4_isSo_22 rfl ?_
        refine J_if_eq (t := 80) (q := 27) C0 dX4_isSo_24 (by decide) rfl hf (fun c5 hf => ?_) (fun c5 hf => ?_)
        · refine J_iload (q := 82) C0 4 rfl dX4_isSo_80 rfl ?_
          refine K_chk hf (fun c6 hf => ?_)
          obtain rfl := Option.some.inj hf; exact J_zret C1 dX4_isSo_82 rfl (Decidable.not_not.mp c6) (Nat.zero_le _) (Nat.zero_le _) ⟨⟨rfl, (Decidable.not_not.mp c6)⟩, rfl⟩
        · refine J_aload_n (q := 28) C0 1 rfl rfl dX4_isSo_27 rfl trivial ?_
          refine J_iload_n (q := 29) C0 3 rfl rfl dX4_isSo_28 rfl ?_
          refine J_iload_n (q := 30) C0 2 rfl rfl dX4_isSo_29 rfl ?_
          refine J_aload_n (q := 31) C0 0 rfl rfl dX4_isSo_30 rfl trivial ?_
          refine J_getR (q := 34) C0 fl_X4_9_4 rfl (h0) rfl dX4_isSo_31 rfl ?_
          refine J_iload (q := 36) C0 5 rfl dX4_isSo_34 rfl ?_
          refine K_some hf (fun b7 hb7 hf => ?_)
          have ab7 : is_A σ b7 12 := ((sg_T.op hT (j := 0) (h0) rfl)) b7 hb7
          refine K_chk hf (fun c8 hf => ?_)
          refine J_iald (q := 37) C0 hb7 (ab7) c8 dX4_isSo_36 rfl ?_
          refine J_imul (q := 38) C0 dX4_isSo_37 rfl ?_
          refine J_iadd (q := 39) C0 dX4_isSo_38 rfl ?_
          refine K_some hf (fun b9 hb9 hf => ?_)
          have ab9 : is_A σ b9 7 := (g_v1) b9 hb9
          refine K_some hf (fun p10 hp10 hf => ?_)
          refine J_callV (q := 42) (ci := 7) (as := [vi ((v3) + ((v2) * (sg_I σ b7 (v5).toNatClampNeg)))]) (rest := []) C0 hb9 (ab9) (t_X8_shownAt b9 ((v3) + ((v2) * (sg_I σ b7 (v5).toNatClampNeg))) (hT) (ab9)  hp10) ml_X8_shownAt lk_X4_44 im_X8_shownAt se_X8_shownAt rfl (by decide) dX4_isSo_39 rfl rfl rfl (by simp [ac_]) C1.room (by decide) (by decide) (by decide) (by decide) (fun r_ τ_ hQ => ?_)
          obtain ⟨rfl, ht_⟩ := hQ; have ht_ := ht_.symm; subst ht_
          show J_ Γ 42 [(0, vr (some a0)), (1, vr (v1)), (2, vi (v2)), (3, vi (v3)), (4, vi (v4)), (5, vi (v5))] [vi (p10)] σ 0 0
          refine J_aload_n (q := 43) C0 0 rfl rfl dX4_isSo_42 rfl trivial ?_
          refine J_getR (q := 46) C0 fl_X4_15_4 rfl (h0) rfl dX4_isSo_43 rfl ?_
          refine J_iload (q := 48) C0 5 rfl dX4_isSo_46 rfl ?_
          refine K_some hf (fun b11 hb11 hf => ?_)
          have ab11 : is_A σ b11 12 := ((sg_T.op hT (j := 1) (h0) rfl)) b11 hb11
          refine K_chk hf (fun c12 hf => ?_)
          refine J_iald (q := 49) C0 hb11 (ab11) c12 dX4_isSo_48 rfl ?_
          refine J_icmp_ne (t := 56) (q := 52) C0 dX4_isSo_49 (by decide) rfl hf (fun c13 hf => ?_) (fun c13 hf => ?_)
          · refine J_iconst (q := 57) (v := 0) C0 dX4_isSo_56 rfl rfl ?_
            refine J_sub (lv' := [(0, vr (some a0)), (1, vr (v1)), (2, vi (v2)), (3, vi (v3)), (5, vi (v5))]) [0, 1, 2, 3, 5] rfl ?_
            exact t_X4_isSo_B57 C1 (hT) (h0) (fun v1 v2 v3 v4 v5 => f_X4_isSo_L6 N a0 n v1 v2 v3 v4 v5 σ)  ih  (v1) (v2) (v3) (v5) (0) ((by rw [hb9]; exact is_O.some (ab9))) hf
          · refine J_iconst (q := 53) (v := 1) C0 dX4_isSo_52 rfl rfl ?_
            refine J_goto (q := 57) C0 dX4_isSo_53 (by decide) ?_
            refine J_sub (lv' := [(0, vr (some a0)), (1, vr (v1)), (2, vi (v2)), (3, vi (v3)), (5, vi (v5))]) [0, 1, 2, 3, 5] rfl ?_
            exact t_X4_isSo_B57 C1 (hT) (h0) (fun v1 v2 v3 v4 v5 => f_X4_isSo_L6 N a0 n v1 v2 v3 v4 v5 σ)  ih  (v1) (v2) (v3) (v5) (1) ((by rw [hb9]; exact is_O.some (ab9))) hf
set_option maxHeartbeats 4000000 in
set_option maxRecDepth 100000 in
theorem t_X4_isSo (N : Nat) (a0 : Nat) (e1 : Option Nat) (x2 : Int32) (x3 : Int32) {σ : Sg} (hT : sg_T σ) (h0 : is_A σ a0 4) (g1 : is_O σ e1 7) {r : Int32} (hf : f_X4_isSo N a0 e1 x2 x3 σ = some r) : Ct yX4_isSo cX4_isSo 6 (some .boolean) 3 64 0 0 [vr (some a0), vr e1, vi x2, vi x3] σ (fun r_ τ_ => (r_ = some (vi r) ∧ (r = 0 ∨ r = 1)) ∧ τ_ = σ) := by
  refine Ct.of (by decide +kernel) (Nat.le_of_ble_eq_true rfl) (fun Γ C1 => ?_)
  have C0 := C1.1
  unfold f_X4_isSo at hf
  show J_ Γ 0 [(0, vr (some a0)), (1, vr (e1)), (2, vi (x2)), (3, vi (x3))] [] σ 0 0
  refine J_iconst (q := 1) (v := 1) C0 dX4_isSo_0 rfl rfl ?_
  refine J_istore (q := 3) (lv' := [(4, vi (1)), (0, vr (some a0)), (1, vr (e1)), (2, vi (x2)), (3, vi (x3))]) C0 (G_nl C1 (by decide)) dX4_isSo_1 rfl rfl ?_
  refine J_iconst (q := 4) (v := 0) C0 dX4_isSo_3 rfl rfl ?_
  refine J_istore (q := 6) (lv' := [(5, vi (0)), (4, vi (1)), (0, vr (some a0)), (1, vr (e1)), (2, vi (x2)), (3, vi (x3))]) C0 (G_nl C1 (by decide)) dX4_isSo_4 rfl rfl ?_
  refine J_sub (lv' := [(0, vr (some a0)), (1, vr (e1)), (2, vi (x2)), (3, vi (x3)), (4, vi (1)), (5, vi (0))]) [2, 3, 4, 5, 1, 0] rfl ?_
  exact t_X4_isSo_L6 C1 (hT) (h0)    N (e1) (x2) (x3) (1) (0) (g1) hf
def f_X4_find_B110 (N : Nat) (a0 : Nat) (k7 : Option Nat → Int32 → Sg → Option Sg) (v1 : Option Nat) (v2 : Int32) (σ : Sg) : Option Sg :=
  k7 (v1) (v2 + 1) σ
def f_X4_find_B98 (N : Nat) (a0 : Nat) (k7 : Option Nat → Int32 → Sg → Option Sg) (k15 : Option Nat → Int32 → Int32 → Sg → Option Sg) (k30 : Option Nat → Int32 → Int32 → Int32 → Sg → Option Sg) (v1 : Option Nat) (v2 : Int32) (v3 : Int32) (v4 : Int32) (σ : Sg) : Option Sg :=
  k30 (v1) (v2) (v3) (v4 + 1) σ
def f_X4_find_L30 (N : Nat) (a0 : Nat) (k7 : Option Nat → Int32 → Sg → Option Sg) (k15 : Option Nat → Int32 → Int32 → Sg → Option Sg) : Nat → Option Nat → Int32 → Int32 → Int32 → Sg → Option Sg
  | 0, _, _, _, _, _ => none
  | n + 1, v1, v2, v3, v4, σ =>
  Option.bind (v1) fun b8 =>
  if (v2) < 0 ∨ sg_L σ b8 ≤ (v2).toNatClampNeg then none else
  Option.bind (sg_R σ b8 (v2).toNatClampNeg) fun b10 =>
  Option.bind (f_X8_size b10  σ) fun p11 =>
  if (v4) < (p11) then
  (if (v2) < 0 ∨ sg_L σ b8 ≤ (v2).toNatClampNeg then none else
  Option.bind (f_X4_isSo N a0 (sg_R σ b8 (v2).toNatClampNeg) (v3) (v4) σ) fun p14 =>
  if (p14) = (0) then
  (f_X4_find_B98 N a0 k7 k15 (f_X4_find_L30 N a0 k7 k15 n) (v1) (v2) (v3) (v4) σ)
  else
  (Option.bind (sg_R σ a0 4) fun b16 =>
  if (sg_I σ a0 5) < (Int32.ofNat (sg_L σ b16)) then
  (if (sg_I σ a0 5) < 0 ∨ sg_L σ b16 ≤ (sg_I σ a0 5).toNatClampNeg then none else
  f_X4_find_B98 N a0 k7 k15 (f_X4_find_L30 N a0 k7 k15 n) (v1) (v2) (v3) (v4) (put_I (put_I σ b16 (sg_I σ a0 5).toNatClampNeg ((((1000) * (v2)) + ((100) * (v3))) + (v4))) a0 5 ((sg_I (put_I σ b16 (sg_I σ a0 5).toNatClampNeg ((((1000) * (v2)) + ((100) * (v3))) + (v4))) a0 5) + (1))))
  else
  (f_X4_find_B98 N a0 k7 k15 (f_X4_find_L30 N a0 k7 k15 n) (v1) (v2) (v3) (v4) σ)))
  else
  (k15 (v1) (v2) (v3 + 1) σ)
def f_X4_find_L15 (N : Nat) (a0 : Nat) (k7 : Option Nat → Int32 → Sg → Option Sg) : Nat → Option Nat → Int32 → Int32 → Sg → Option Sg
  | 0, _, _, _, _ => none
  | n + 1, v1, v2, v3, σ =>
  if (9) < (v3) then
  (f_X4_find_B110 N a0 k7 (v1) (v2) σ)
  else
  (Option.bind (v1) fun b4 =>
  if (v2) < 0 ∨ sg_L σ b4 ≤ (v2).toNatClampNeg then none else
  match sg_R σ b4 (v2).toNatClampNeg with
  | none => (f_X4_find_B110 N a0 k7 (v1) (v2) σ)
  | some b6 => (f_X4_find_L30 N a0 k7 (f_X4_find_L15 N a0 k7 n) N (v1) (v2) (v3) (0) σ))
def f_X4_find_L7 (N : Nat) (a0 : Nat) : Nat → Option Nat → Int32 → Sg → Option Sg
  | 0, _, _, _ => none
  | n + 1, v1, v2, σ =>
  Option.bind (v1) fun b1 =>
  if (v2) < (Int32.ofNat (sg_L σ b1)) then
  (f_X4_find_L15 N a0 (f_X4_find_L7 N a0 n) N (v1) (v2) (0) σ)
  else
  (some (σ))
def f_X4_find (N : Nat) (a0 : Nat) (e1 : Option Nat) (σ : Sg) : Option Sg :=
  f_X4_find_L7 N a0 N (e1) (0) (put_I σ a0 5 (0))
set_option maxHeartbeats 4000000 in
set_option maxRecDepth 100000 in
theorem t_X4_find_B110 {N : Nat} {a0 : Nat} {Γ : Gm} {σ0 : Sg} {r : Sg} (C1 : CM Γ cX4_find RX4 5 none 4 89 0 0 (fun r_ τ_ => (r_ = none) ∧ τ_ = r ∧ sg_T τ_ ∧ sg_E σ0 τ_)) (k7 : Option Nat → Int32 → Sg → Option Sg) (hk7 : ∀ (v1 : Option Nat) (v2 : Int32) (σ : Sg), sg_T σ → sg_E σ0 σ → is_A σ a0 4 → is_O σ v1 17 → k7 v1 v2 σ = some r → J_ Γ 7 [(0, vr (some a0)), (1, vr v1), (2, vi v2)] [] σ 0 0) (v1 : Option Nat) (v2 : Int32) (σ : Sg) (hT : sg_T σ) (hE : sg_E σ0 σ) (h0 : is_A σ a0 4) (g_v1 : is_O σ v1 17) (hf : f_X4_find_B110 N a0 k7  v1 v2 σ = some r) : J_ Γ 110 [(0, vr (some a0)), (1, vr (v1)), (2, vi (v2))] [] σ 0 0 := by
  have C0 := C1.1
  unfold f_X4_find_B110 at hf
  refine J_iinc (q := 113) (v := v2 + 1) (lv' := [(2, vi (v2 + 1)), (0, vr (some a0)), (1, vr (v1))]) C0 2 rfl rfl (G_nl C1 (by decide)) dX4_find_110 rfl rfl ?_
  refine J_goto (q := 7) C0 dX4_find_113 (by decide) ?_
  refine J_sub (lv' := [(0, vr (some a0)), (1, vr (v1)), (2, vi (v2 + 1))]) [1, 2, 0] rfl ?_
  exact hk7 (v1) (v2 + 1) σ (hT) (hE)  (h0) (g_v1) hf
set_option maxHeartbeats 4000000 in
set_option maxRecDepth 100000 in
theorem t_X4_find_B98 {N : Nat} {a0 : Nat} {Γ : Gm} {σ0 : Sg} {r : Sg} (C1 : CM Γ cX4_find RX4 5 none 4 89 0 0 (fun r_ τ_ => (r_ = none) ∧ τ_ = r ∧ sg_T τ_ ∧ sg_E σ0 τ_)) (k7 : Option Nat → Int32 → Sg → Option Sg) (k15 : Option Nat → Int32 → Int32 → Sg → Option Sg) (k30 : Option Nat → Int32 → Int32 → Int32 → Sg → Option Sg) (hk7 : ∀ (v1 : Option Nat) (v2 : Int32) (σ : Sg), sg_T σ → sg_E σ0 σ → is_A σ a0 4 → is_O σ v1 17 → k7 v1 v2 σ = some r → J_ Γ 7 [(0, vr (some a0)), (1, vr v1), (2, vi v2)] [] σ 0 0) (hk15 : ∀ (v1 : Option Nat) (v2 : Int32) (v3 : Int32) (σ : Sg), sg_T σ → sg_E σ0 σ → is_A σ a0 4 → is_O σ v1 17 → k15 v1 v2 v3 σ = some r → J_ Γ 15 [(0, vr (some a0)), (1, vr v1), (2, vi v2), (3, vi v3)] [] σ 0 0) (hk30 : ∀ (v1 : Option Nat) (v2 : Int32) (v3 : Int32) (v4 : Int32) (σ : Sg), sg_T σ → sg_E σ0 σ → is_A σ a0 4 → is_O σ v1 17 → k30 v1 v2 v3 v4 σ = some r → J_ Γ 30 [(0, vr (some a0)), (1, vr v1), (2, vi v2), (3, vi v3), (4, vi v4)] [] σ 0 0) (v1 : Option Nat) (v2 : Int32) (v3 : Int32) (v4 : Int32) (σ : Sg) (hT : sg_T σ) (hE : sg_E σ0 σ) (h0 : is_A σ a0 4) (g_v1 : is_O σ v1 17) (hf : f_X4_find_B98 N a0 k7 k15 k30  v1 v2 v3 v4 σ = some r) : J_ Γ 98 [(0, vr (some a0)), (1, vr (v1)), (2, vi (v2)), (3, vi (v3)), (4, vi (v4))] [] σ 0 0 := by
  have C0 := C1.1
  unfold f_X4_find_B98 at hf
  refine J_iinc (q := 101) (v := v4 + 1) (lv' := [(4, vi (v4 + 1)), (0, vr (some a0)), (1, vr (v1)), (2, vi (v2)), (3, vi (v3))]) C0 4 rfl rfl (G_nl C1 (by decide)) dX4_find_98 rfl rfl ?_
  refine J_goto (q := 30) C0 dX4_find_101 (by decide) ?_
  refine J_sub (lv' := [(0, vr (some a0)), (1, vr (v1)), (2, vi (v2)), (3, vi (v3)), (4, vi (v4 + 1))]) [1, 2, 3, 4, 0] rfl ?_
  exact hk30 (v1) (v2) (v3) (v4 + 1) σ (hT) (hE)  (h0) (g_v1) hf
set_option maxHeartbeats 4000000 in
set_option maxRecDepth 100000 in
theorem t_X4_find_L30 {N : Nat} {a0 : Nat} {Γ : Gm} {σ0 : Sg} {r : Sg} (C1 : CM Γ cX4_find RX4 5 none 4 89 0 0 (fun r_ τ_ => (r_ = none) ∧ τ_ = r ∧ sg_T τ_ ∧ sg_E σ0 τ_)) (k7 : Option Nat → Int32 → Sg → Option Sg) (k15 : Option Nat → Int32 → Int32 → Sg → Option Sg) (hk7 : ∀ (v1 : Option Nat) (v2 : Int32) (σ : Sg), sg_T σ → sg_E σ0 σ → is_A σ a0 4 → is_O σ v1 17 → k7 v1 v2 σ = some r → J_ Γ 7 [(0, vr (some a0)), (1, vr v1), (2, vi v2)] [] σ 0 0) (hk15 : ∀ (v1 : Option Nat) (v2 : Int32) (v3 : Int32) (σ : Sg), sg_T σ → sg_E σ0 σ → is_A σ a0 4 → is_O σ v1 17 → k15 v1 v2 v3 σ = some r → J_ Γ 15 [(0, vr (some a0)), (1, vr v1), (2, vi v2), (3, vi v3)] [] σ 0 0) : ∀ (n : Nat) (v1 : Option Nat) (v2 : Int32) (v3 : Int32) (v4 : Int32) (σ : Sg), sg_T σ → sg_E σ0 σ → is_A σ a0 4 → is_O σ v1 17 → f_X4_find_L30 N a0 k7 k15  n v1 v2 v3 v4 σ = some r → J_ Γ 30 [(0, vr (some a0)), (1, vr (v1)), (2, vi (v2)), (3, vi (v3)), (4, vi (v4))] [] σ 0 0 := by
  have C0 := C1.1
  intro n
  induction n with
  | zero => intro v1 v2 v3 v4 σ hT hE h0 g_v1 hf; unfold f_X4_find_L30 at hf; cases hf
  | succ n ih =>
    intro v1 v2 v3 v4 σ hT hE h0 g_v1 hf
    rw [f_X4_find_L30] at hf
    refine J_iload (q := 32) C0 4 rfl dX4_find_30 rfl ?_
    refine J_aload_n (q := 33) C0 1 rfl rfl dX4_find_32 rfl trivial ?_
    refine J_iload_n (q := 34) C0 2 rfl rfl dX4_find_33 rfl ?_
    refine K_some hf (fun b8 hb8 hf => ?_)
    have ab8 : is_A σ b8 17 := (g_v1) b8 hb8
    refine K_chk hf (fun c9 hf => ?_)
    refine J_aald (q := 35) C0 hb8 (ab8) (by decide) c9 dX4_find_34 rfl ?_
    refine K_some hf (fun b10 hb10 hf => ?_)
    have ab10 : is_A σ b10 7 := ((sg_T.op hT (j := (v2).toNatClampNeg) (ab8) rfl)) b10 hb10
    refine K_some hf (fun p11 hp11 hf => ?_)
    refine J_callV (q := 38) (ci := 7) (as := []) (rest := [vi (v4)]) C0 hb10 (ab10) (t_X8_size b10  (hT) (ab10)  hp11) ml_X8_size lk_X4_35 im_X8_size se_X8_size rfl (by decide) dX4_find_35 rfl rfl rfl (by simp [ac_]) C1.room (by decide) (by decide) (by decide) (by decide) (fun r_ τ_ hQ => ?_)
    obtain ⟨rfl, ht_⟩ := hQ; have ht_ := ht_.symm; subst ht_
    show J_ Γ 38 [(0, vr (some a0)), (1, vr (v1)), (2, vi (v2)), (3, vi (v3)), (4, vi (v4))] [vi (p11), vi (v4)] σ 0 0
    refine J_icmp_ge (t := 104) (q := 41) C0 dX4_find_38 (by decide) rfl hf (fun c12 hf => ?_) (fun c12 hf => ?_)
    · refine J_iinc (q := 107) (v := v3 + 1) (lv' := [(3, vi (v3 + 1)), (0, vr (some a0)), (1, vr (v1)), (2, vi (v2)), (4, vi (v4))]) C0 3 rfl rfl (G_nl C1 (by decide)) dX4_find_104 rfl rfl ?_
      refine J_goto (q := 15) C0 dX4_find_107 (by decide) ?_
      refine J_sub (lv' := [(0, vr (some a0)), (1, vr (v1)), (2, vi (v2)), (3, vi (v3 + 1))]) [1, 2, 3, 0] rfl ?_
      exact hk15 (v1) (v2) (v3 + 1) σ (hT) (hE)  (h0) ((by rw [hb8]; exact is_O.some (ab8))) hf
    · refine J_aload_n (q := 42) C0 0 rfl rfl dX4_find_41 rfl trivial ?_
      refine J_aload_n (q := 43) C0 1 rfl rfl dX4_find_42 rfl trivial ?_
      refine J_iload_n (q := 44) C0 2 rfl rfl dX4_find_43 rfl ?_
      refine K_chk hf (fun c13 hf => ?_)
      refine J_aald (q := 45) C0 hb8 (ab8) (by decide) c13 dX4_find_44 rfl ?_
      refine J_iload_n (q := 46) C0 3 rfl rfl dX4_find_45 rfl ?_
      refine J_iload (q := 48) C0 4 rfl dX4_find_46 rfl ?_
      refine K_some hf (fun p14 hp14 hf => ?_)
      refine J_callV (q := 51) (ci := 4) (as := [vr (sg_R σ b8 (v2).toNatClampNeg), vi (v3), vi (v4)]) (rest := []) C0 rfl (h0) (t_X4_isSo N a0 (sg_R σ b8 (v2).toNatClampNeg) (v3) (v4) (hT) (h0) ((by rw [hb10]; exact is_O.some (ab10))) hp14) ml_X4_isSo lk_X4_40 im_X4_isSo se_X4_isSo rfl (by decide) dX4_find_48 rfl rfl rfl (by simp [ac_]) C1.room (by decide) (by decide) (by decide) (by decide) (fun r_ τ_ hQ => ?_)
      obtain ⟨⟨rfl, zp14⟩, ht_⟩ := hQ; have ht_ := ht_.symm; subst ht_
      show J_ Γ 51 [(0, vr (some a0)), (1, vr (v1)), (2, vi (v2)), (3, vi (v3)), (4, vi (v4))] [vi (p14)] σ 0 0
      refine J_if_eq (t := 98) (q := 54) C0 dX4_find_51 (by decide) rfl hf (fun c15 hf => ?_) (fun c15 hf => ?_)
      · exact t_X4_find_B98 C1  k7  k15  (f_X4_find_L30 N a0 k7 k15 n)  hk7  hk15  ih  (v1) (v2) (v3) (v4) σ (hT) (hE) (h0) ((by rw [hb8]; exact is_O.some (ab8))) hf
      · refine J_aload_n (q := 55) C0 0 rfl rfl dX4_find_54 rfl trivial ?_
        refine J_getI (q := 58) C0 fl_X4_29_4 rfl (h0) rfl dX4_find_55 rfl ?_
        refine J_aload_n (q := 59) C0 0 rfl rfl dX4_find_58 rfl trivial ?_
        refine J_getR (q := 62) C0 fl_X4_26_4 rfl (h0) rfl dX4_find_59 rfl ?_
        refine K_some hf (fun b16 hb16 hf => ?_)
        have ab16 : is_A σ b16 12 := ((sg_T.op hT (j := 4) (h0) rfl)) b16 hb16
        refine J_alen (q := 63) C0 hb16 (ab16) (by decide) dX4_find_62 rfl ?_
        refine J_icmp_ge (t := 98) (q := 66) C0 dX4_find_63 (by decide) rfl hf (fun c17 hf => ?_) (fun c17 hf => ?_)
        · exact t_X4_find_B98 C1  k7  k15  (f_X4_find_L30 N a0 k7 k15 n)  hk7  hk15  ih  (v1) (v2) (v3) (v4) σ (hT) (hE) (h0) ((by rw [hb8]; exact is_O.some (ab8))) hf
        · refine J_aload_n (q := 67) C0 0 rfl rfl dX4_find_66 rfl trivial ?_
          refine J_getR (q := 70) C0 fl_X4_26_4 rfl (h0) rfl dX4_find_67 rfl ?_
          refine J_aload_n (q := 71) C0 0 rfl rfl dX4_find_70 rfl trivial ?_
          refine J_getI (q := 74) C0 fl_X4_29_4 rfl (h0) rfl dX4_find_71 rfl ?_
          refine J_sipush (q := 77) (v := 1000) C0 dX4_find_74 rfl rfl ?_
          refine J_iload_n (q := 78) C0 2 rfl rfl dX4_find_77 rfl ?_
          refine J_imul (q := 79) C0 dX4_find_78 rfl ?_
          refine J_bipush (q := 81) (v := 100) C0 dX4_find_79 rfl rfl ?_
          refine J_iload_n (q := 82) C0 3 rfl rfl dX4_find_81 rfl ?_
          refine J_imul (q := 83) C0 dX4_find_82 rfl ?_
          refine J_iadd (q := 84) C0 dX4_find_83 rfl ?_
          refine J_iload (q := 86) C0 4 rfl dX4_find_84 rfl ?_
          refine J_iadd (q := 87) C0 dX4_find_86 rfl ?_
          refine K_chk hf (fun c18 hf => ?_)
          refine J_iast (q := 88) C0 hb16 (ab16) c18 dX4_find_87 rfl ?_
          refine J_aload_n (q := 89) C0 0 rfl rfl dX4_find_88 rfl trivial ?_
          refine J_dup (q := 90) C0 dX4_find_89 rfl rfl ?_
          refine J_getI (q := 93) C0 fl_X4_29_4 rfl ((h0).putI) rfl dX4_find_90 rfl ?_
          refine J_iconst (q := 94) (v := 1) C0 dX4_find_93 rfl rfl ?_
          refine J_iadd (q := 95) C0 dX4_find_94 rfl ?_
          refine J_putI (q := 98) C0 fl_X4_29_4 rfl ((h0).putI) rfl dX4_find_95 rfl ?_
          exact t_X4_find_B98 C1  k7  k15  (f_X4_find_L30 N a0 k7 k15 n)  hk7  hk15  ih  (v1) (v2) (v3) (v4) (put_I (put_I σ b16 (sg_I σ a0 5).toNatClampNeg ((((1000) * (v2)) + ((100) * (v3))) + (v4))) a0 5 ((sg_I (put_I σ b16 (sg_I σ a0 5).toNatClampNeg ((((1000) * (v2)) + ((100) * (v3))) + (v4))) a0 5) + (1))) (((hT).putI).putI) (((hE).putI).putI) (((h0).putI).putI) ((by rw [hb8]; exact is_O.some (((ab8).putI).putI))) hf
set_option maxHeartbeats 4000000 in
set_option maxRecDepth 100000 in
theorem t_X4_find_L15 {N : Nat} {a0 : Nat} {Γ : Gm} {σ0 : Sg} {r : Sg} (C1 : CM Γ cX4_find RX4 5 none 4 89 0 0 (fun r_ τ_ => (r_ = none) ∧ τ_ = r ∧ sg_T τ_ ∧ sg_E σ0 τ_)) (k7 : Option Nat → Int32 → Sg → Option Sg) (hk7 : ∀ (v1 : Option Nat) (v2 : Int32) (σ : Sg), sg_T σ → sg_E σ0 σ → is_A σ a0 4 → is_O σ v1 17 → k7 v1 v2 σ = some r → J_ Γ 7 [(0, vr (some a0)), (1, vr v1), (2, vi v2)] [] σ 0 0) : ∀ (n : Nat) (v1 : Option Nat) (v2 : Int32) (v3 : Int32) (σ : Sg), sg_T σ → sg_E σ0 σ → is_A σ a0 4 → is_O σ v1 17 → f_X4_find_L15 N a0 k7  n v1 v2 v3 σ = some r → J_ Γ 15 [(0, vr (some a0)), (1, vr (v1)), (2, vi (v2)), (3, vi (v3))] [] σ 0 0 := by
  have C0 := C1.1
  intro n
  induction n with
  | zero => intro v1 v2 v3 σ hT hE h0 g_v1 hf; unfold f_X4_find_L15 at hf; cases hf
  | succ n ih =>
    intro v1 v2 v3 σ hT hE h0 g_v1 hf
    rw [f_X4_find_L15] at hf
    refine J_iload_n (q := 16) C0 3 rfl rfl dX4_find_15 rfl ?_
    refine J_bipush (q := 18) (v := 9) C0 dX4_find_16 rfl rfl ?_
    refine J_icmp_gt (t := 110) (q := 21) C0 dX4_find_18 (by decide) rfl hf (fun c3 hf => ?_) (fun c3 hf => ?_)
    · refine J_sub (lv' := [(0, vr (some a0)), (1, vr (v1)), (2, vi (v2))]) [0, 1, 2] rfl ?_
      exact t_X4_find_B110 C1  k7  hk7  (v1) (v2) σ (hT) (hE) (h0) (g_v1) hf
    · refine J_aload_n (q := 22) C0 1 rfl rfl dX4_find_21 rfl trivial ?_
      refine J_iload_n (q := 23) C0 2 rfl rfl dX4_find_22 rfl ?_
      refine K_some hf (fun b4 hb4 hf => ?_)
      have ab4 : is_A σ b4 17 := (g_v1) b4 hb4
      refine K_chk hf (fun c5 hf => ?_)
      refine J_aald (q := 24) C0 hb4 (ab4) (by decide) c5 dX4_find_23 rfl ?_
      refine J_ifnull (t := 110) (q := 27) C0 dX4_find_24 (by decide) rfl (fun hn7 => ?_) (fun b6 hn7 => ?_)
      · rw [hn7] at hf
        refine J_sub (lv' := [(0, vr (some a0)), (1, vr (v1)), (2, vi (v2))]) [0, 1, 2] rfl ?_
        exact t_X4_find_B110 C1  k7  hk7  (v1) (v2) σ (hT) (hE) (h0) ((by rw [hb4]; exact is_O.some (ab4))) hf
      · rw [hn7] at hf
        refine J_iconst (q := 28) (v := 0) C0 dX4_find_27 rfl rfl ?_
        refine J_istore (q := 30) (lv' := [(4, vi (0)), (0, vr (some a0)), (1, vr (v1)), (2, vi (v2)), (3, vi (v3))]) C0 (G_nl C1 (by decide)) dX4_find_28 rfl rfl ?_
        refine J_sub (lv' := [(0, vr (some a0)), (1, vr (v1)), (2, vi (v2)), (3, vi (v3)), (4, vi (0))]) [1, 2, 3, 4, 0] rfl ?_
        exact t_X4_find_L30 C1  k7  (f_X4_find_L15 N a0 k7 n)  hk7  ih  N (v1) (v2) (v3) (0) σ (hT) (hE) (h0) ((by rw [hb4]; exact is_O.some (ab4))) hf
set_option maxHeartbeats 4000000 in
set_option maxRecDepth 100000 in
theorem t_X4_find_L7 {N : Nat} {a0 : Nat} {Γ : Gm} {σ0 : Sg} {r : Sg} (C1 : CM Γ cX4_find RX4 5 none 4 89 0 0 (fun r_ τ_ => (r_ = none) ∧ τ_ = r ∧ sg_T τ_ ∧ sg_E σ0 τ_)) : ∀ (n : Nat) (v1 : Option Nat) (v2 : Int32) (σ : Sg), sg_T σ → sg_E σ0 σ → is_A σ a0 4 → is_O σ v1 17 → f_X4_find_L7 N a0  n v1 v2 σ = some r → J_ Γ 7 [(0, vr (some a0)), (1, vr (v1)), (2, vi (v2))] [] σ 0 0 := by
  have C0 := C1.1
  intro n
  induction n with
  | zero => intro v1 v2 σ hT hE h0 g_v1 hf; unfold f_X4_find_L7 at hf; cases hf
  | succ n ih =>
    intro v1 v2 σ hT hE h0 g_v1 hf
    rw [f_X4_find_L7] at hf
    refine J_iload_n (q := 8) C0 2 rfl rfl dX4_find_7 rfl ?_
    refine J_aload_n (q := 9) C0 1 rfl rfl dX4_find_8 rfl trivial ?_
    refine K_some hf (fun b1 hb1 hf => ?_)
    have ab1 : is_A σ b1 17 := (g_v1) b1 hb1
    refine J_alen (q := 10) C0 hb1 (ab1) (by decide) dX4_find_9 rfl ?_
    refine J_icmp_ge (t := 116) (q := 13) C0 dX4_find_10 (by decide) rfl hf (fun c2 hf => ?_) (fun c2 hf => ?_)
    · obtain rfl := Option.some.inj hf; exact J_vret C1 dX4_find_116 rfl (Nat.zero_le _) (Nat.zero_le _) ⟨rfl, rfl, hT, hE⟩
    · refine J_iconst (q := 14) (v := 0) C0 dX4_find_13 rfl rfl ?_
      refine J_istore_n (q := 15) (lv' := [(3, vi (0)), (0, vr (some a0)), (1, vr (v1)), (2, vi (v2))]) C0 rfl (G_nl C1 (by decide)) dX4_find_14 rfl rfl ?_
      refine J_sub (lv' := [(0, vr (some a0)), (1, vr (v1)), (2, vi (v2)), (3, vi (0))]) [1, 2, 3, 0] rfl ?_
      exact t_X4_find_L15 C1  (f_X4_find_L7 N a0 n)  ih  N (v1) (v2) (0) σ (hT) (hE) (h0) ((by rw [hb1]; exact is_O.some (ab1))) hf
set_option maxHeartbeats 4000000 in
set_option maxRecDepth 100000 in
theorem t_X4_find (N : Nat) (a0 : Nat) (e1 : Option Nat) {σ : Sg} (hT : sg_T σ) (h0 : is_A σ a0 4) (g1 : is_O σ e1 17) {r : Sg} (hf : f_X4_find N a0 e1 σ = some r) : Ct yX4_find cX4_find 5 none 4 89 0 0 [vr (some a0), vr e1] σ (fun r_ τ_ => (r_ = none) ∧ τ_ = r ∧ sg_T τ_ ∧ sg_E σ τ_) := by
  refine Ct.of (by decide +kernel) (Nat.le_of_ble_eq_true rfl) (fun Γ C1 => ?_)
  have C0 := C1.1
  have hE : sg_E σ σ := sg_E.rf
  unfold f_X4_find at hf
  show J_ Γ 0 [(0, vr (some a0)), (1, vr (e1))] [] σ 0 0
  refine J_aload_n (q := 1) C0 0 rfl rfl dX4_find_0 rfl trivial ?_
  refine J_iconst (q := 2) (v := 0) C0 dX4_find_1 rfl rfl ?_
  refine J_putI (q := 5) C0 fl_X4_29_4 rfl (h0) rfl dX4_find_2 rfl ?_
  refine J_iconst (q := 6) (v := 0) C0 dX4_find_5 rfl rfl ?_
  refine J_istore_n (q := 7) (lv' := [(2, vi (0)), (0, vr (some a0)), (1, vr (e1))]) C0 rfl (G_nl C1 (by decide)) dX4_find_6 rfl rfl ?_
  refine J_sub (lv' := [(0, vr (some a0)), (1, vr (e1)), (2, vi (0))]) [1, 2, 0] rfl ?_
  exact t_X4_find_L7 C1    N (e1) (0) (put_I σ a0 5 (0)) ((hT).putI) ((hE).putI) ((h0).putI) ((fun b_ h_ => (g1 b_ h_).putI)) hf
def f_X4_foundAt (a0 : Nat) (x1 : Int32) (σ : Sg) : Option Int32 :=
  if (x1) < (0) then
  (some ((-1)))
  else
  (if (x1) < (sg_I σ a0 5) then
  (Option.bind (sg_R σ a0 4) fun b3 =>
  if (x1) < 0 ∨ sg_L σ b3 ≤ (x1).toNatClampNeg then none else
  some (sg_I σ b3 (x1).toNatClampNeg))
  else
  (some ((-1))))
set_option maxHeartbeats 4000000 in
set_option maxRecDepth 100000 in
theorem t_X4_foundAt (a0 : Nat) (x1 : Int32) {σ : Sg} (hT : sg_T σ) (h0 : is_A σ a0 4) {r : Int32} (hf : f_X4_foundAt a0 x1 σ = some r) : Ct yX4_foundAt cX4_foundAt 2 (some .int) 0 0 0 0 [vr (some a0), vi x1] σ (fun r_ τ_ => (r_ = some (vi r)) ∧ τ_ = σ) := by
  refine Ct.of (by decide +kernel) (Nat.le_of_ble_eq_true rfl) (fun Γ C1 => ?_)
  have C0 := C1.1
  unfold f_X4_foundAt at hf
  show J_ Γ 0 [(0, vr (some a0)), (1, vi (x1))] [] σ 0 0
  refine J_iload_n (q := 1) C0 1 rfl rfl dX4_foundAt_0 rfl ?_
  refine J_if_lt (t := 12) (q := 4) C0 dX4_foundAt_1 (by decide) rfl hf (fun c1 hf => ?_) (fun c1 hf => ?_)
  · refine J_iconst (q := 13) (v := (-1)) C0 dX4_foundAt_12 rfl rfl ?_
    refine J_goto (q := 22) C0 dX4_foundAt_13 (by decide) ?_
    obtain rfl := Option.some.inj hf; exact J_iret C1 dX4_foundAt_22 rfl (Nat.zero_le _) (Nat.zero_le _) ⟨rfl, rfl⟩
  · refine J_iload_n (q := 5) C0 1 rfl rfl dX4_foundAt_4 rfl ?_
    refine J_aload_n (q := 6) C0 0 rfl rfl dX4_foundAt_5 rfl trivial ?_
    refine J_getI (q := 9) C0 fl_X4_29_4 rfl (h0) rfl dX4_foundAt_6 rfl ?_
    refine J_icmp_lt (t := 16) (q := 12) C0 dX4_foundAt_9 (by decide) rfl hf (fun c2 hf => ?_) (fun c2 hf => ?_)
    · refine J_aload_n (q := 17) C0 0 rfl rfl dX4_foundAt_16 rfl trivial ?_
      refine J_getR (q := 20) C0 fl_X4_26_4 rfl (h0) rfl dX4_foundAt_17 rfl ?_
      refine J_iload_n (q := 21) C0 1 rfl rfl dX4_foundAt_20 rfl ?_
      refine K_some hf (fun b3 hb3 hf => ?_)
      have ab3 : is_A σ b3 12 := ((sg_T.op hT (j := 4) (h0) rfl)) b3 hb3
      refine K_chk hf (fun c4 hf => ?_)
      refine J_iald (q := 22) C0 hb3 (ab3) c4 dX4_foundAt_21 rfl ?_
      obtain rfl := Option.some.inj hf; exact J_iret C1 dX4_foundAt_22 rfl (Nat.zero_le _) (Nat.zero_le _) ⟨rfl, rfl⟩
    · refine J_iconst (q := 13) (v := (-1)) C0 dX4_foundAt_12 rfl rfl ?_
      refine J_goto (q := 22) C0 dX4_foundAt_13 (by decide) ?_
      obtain rfl := Option.some.inj hf; exact J_iret C1 dX4_foundAt_22 rfl (Nat.zero_le _) (Nat.zero_le _) ⟨rfl, rfl⟩
def f_X4_mostAlike_B145 (N : Nat) (a0 : Nat) (k13 : Option Nat → Int32 → Int32 → Int32 → Sg → Option (Int32 × Sg)) (v1 : Option Nat) (v2 : Int32) (v3 : Int32) (v4 : Int32) (σ : Sg) : Option (Int32 × Sg) :=
  k13 (v1) (v2) (v3) (v4 + 1) σ
def f_X4_mostAlike_L13 (N : Nat) (a0 : Nat) : Nat → Option Nat → Int32 → Int32 → Int32 → Sg → Option (Int32 × Sg)
  | 0, _, _, _, _, _ => none
  | n + 1, v1, v2, v3, v4, σ =>
  if (v4) < (sg_I σ a0 5) then
  (Option.bind (sg_R σ a0 4) fun b3 =>
  if (v4) < (Int32.ofNat (sg_L σ b3)) then
  (if (v4) < 0 ∨ sg_L σ b3 ≤ (v4).toNatClampNeg then none else
  if (v4) < 0 ∨ sg_L σ b3 ≤ (v4).toNatClampNeg then none else
  if (v4) < 0 ∨ sg_L σ b3 ≤ (v4).toNatClampNeg then none else
  if ((sg_I σ b3 (v4).toNatClampNeg) / (1000)) < (0) then
  (f_X4_mostAlike_B145 N a0 (f_X4_mostAlike_L13 N a0 n) (v1) (v2) (v3) (v4) σ)
  else
  (Option.bind (v1) fun b9 =>
  if ((sg_I σ b3 (v4).toNatClampNeg) / (1000)) < (Int32.ofNat (sg_L σ b9)) then
  (if ((sg_I σ b3 (v4).toNatClampNeg) / (1000)) < 0 ∨ sg_L σ b9 ≤ ((sg_I σ b3 (v4).toNatClampNeg) / (1000)).toNatClampNeg then none else
  match sg_R σ b9 ((sg_I σ b3 (v4).toNatClampNeg) / (1000)).toNatClampNeg with
  | none => (f_X4_mostAlike_B145 N a0 (f_X4_mostAlike_L13 N a0 n) (v1) (v2) (v3) (v4) σ)
  | some b12 => (if ((sg_I σ b3 (v4).toNatClampNeg) / (1000)) < 0 ∨ sg_L σ b9 ≤ ((sg_I σ b3 (v4).toNatClampNeg) / (1000)).toNatClampNeg then none else
  Option.bind (f_X8_shownAt b12 ((rm_ (sg_I σ b3 (v4).toNatClampNeg) (100)) + ((rm_ ((sg_I σ b3 (v4).toNatClampNeg) / (100)) (10)) * (v2))) σ) fun p15 =>
  if (p15) < (0) then
  (f_X4_mostAlike_B145 N a0 (f_X4_mostAlike_L13 N a0 n) (v1) (v2) (v3) (v4) σ)
  else
  (Option.bind (sg_R σ a0 6) fun b17 =>
  if (p15) < (Int32.ofNat (sg_L σ b17)) then
  (if (p15) < 0 ∨ sg_L σ b17 ≤ (p15).toNatClampNeg then none else
  if (p15) < 0 ∨ sg_L σ b17 ≤ (p15).toNatClampNeg then none else
  Option.bind (sg_R (put_I σ b17 (p15).toNatClampNeg ((sg_I σ b17 (p15).toNatClampNeg) + (1))) a0 6) fun b21 =>
  if (p15) < 0 ∨ sg_L (put_I σ b17 (p15).toNatClampNeg ((sg_I σ b17 (p15).toNatClampNeg) + (1))) b21 ≤ (p15).toNatClampNeg then none else
  Option.bind (f_J9_max_7cf53 (v3) (sg_I (put_I σ b17 (p15).toNatClampNeg ((sg_I σ b17 (p15).toNatClampNeg) + (1))) b21 (p15).toNatClampNeg) ) fun p23 =>
  f_X4_mostAlike_B145 N a0 (f_X4_mostAlike_L13 N a0 n) (v1) (v2) (p23) (v4) (put_I σ b17 (p15).toNatClampNeg ((sg_I σ b17 (p15).toNatClampNeg) + (1))))
  else
  (f_X4_mostAlike_B145 N a0 (f_X4_mostAlike_L13 N a0 n) (v1) (v2) (v3) (v4) σ))))
  else
  (f_X4_mostAlike_B145 N a0 (f_X4_mostAlike_L13 N a0 n) (v1) (v2) (v3) (v4) σ)))
  else
  (some (v3, σ)))
  else
  (some (v3, σ))
def f_X4_mostAlike (N : Nat) (a0 : Nat) (e1 : Option Nat) (x2 : Int32) (σ : Sg) : Option (Int32 × Sg) :=
  Option.bind (f_J7_fill_53178 N (sg_R σ a0 6) (0) σ) fun p1 =>
  f_X4_mostAlike_L13 N a0 N (e1) (x2) (0) (0) (p1)
set_option maxHeartbeats 4000000 in
set_option maxRecDepth 100000 in
theorem t_X4_mostAlike_B145 {N : Nat} {a0 : Nat} {Γ : Gm} {σ0 : Sg} {r : (Int32 × Sg)} (C1 : CM Γ cX4_mostAlike RX4 9 (some .int) 3 64 0 0 (fun r_ τ_ => (r_ = some (vi r.1)) ∧ τ_ = r.2 ∧ sg_T τ_ ∧ sg_E σ0 τ_)) (k13 : Option Nat → Int32 → Int32 → Int32 → Sg → Option (Int32 × Sg)) (hk13 : ∀ (v1 : Option Nat) (v2 : Int32) (v3 : Int32) (v4 : Int32) (σ : Sg), sg_T σ → sg_E σ0 σ → is_A σ a0 4 → is_O σ v1 17 → k13 v1 v2 v3 v4 σ = some r → J_ Γ 13 [(0, vr (some a0)), (1, vr v1), (2, vi v2), (3, vi v3), (4, vi v4)] [] σ 0 0) (v1 : Option Nat) (v2 : Int32) (v3 : Int32) (v4 : Int32) (σ : Sg) (hT : sg_T σ) (hE : sg_E σ0 σ) (h0 : is_A σ a0 4) (g_v1 : is_O σ v1 17) (hf : f_X4_mostAlike_B145 N a0 k13  v1 v2 v3 v4 σ = some r) : J_ Γ 145 [(0, vr (some a0)), (1, vr (v1)), (2, vi (v2)), (3, vi (v3)), (4, vi (v4))] [] σ 0 0 := by
  have C0 := C1.1
  unfold f_X4_mostAlike_B145 at hf
  refine J_iinc (q := 148) (v := v4 + 1) (lv' := [(4, vi (v4 + 1)), (0, vr (some a0)), (1, vr (v1)), (2, vi (v2)), (3, vi (v3))]) C0 4 rfl rfl (G_nl C1 (by decide)) dX4_mostAlike_145 rfl rfl ?_
  refine J_goto (q := 13) C0 dX4_mostAlike_148 (by decide) ?_
  refine J_sub (lv' := [(0, vr (some a0)), (1, vr (v1)), (2, vi (v2)), (3, vi (v3)), (4, vi (v4 + 1))]) [1, 2, 3, 4, 0] rfl ?_
  exact hk13 (v1) (v2) (v3) (v4 + 1) σ (hT) (hE)  (h0) (g_v1) hf
set_option maxHeartbeats 4000000 in
set_option maxRecDepth 100000 in
theorem t_X4_mostAlike_L13 {N : Nat} {a0 : Nat} {Γ : Gm} {σ0 : Sg} {r : (Int32 × Sg)} (C1 : CM Γ cX4_mostAlike RX4 9 (some .int) 3 64 0 0 (fun r_ τ_ => (r_ = some (vi r.1)) ∧ τ_ = r.2 ∧ sg_T τ_ ∧ sg_E σ0 τ_)) : ∀ (n : Nat) (v1 : Option Nat) (v2 : Int32) (v3 : Int32) (v4 : Int32) (σ : Sg), sg_T σ → sg_E σ0 σ → is_A σ a0 4 → is_O σ v1 17 → f_X4_mostAlike_L13 N a0  n v1 v2 v3 v4 σ = some r → J_ Γ 13 [(0, vr (some a0)), (1, vr (v1)), (2, vi (v2)), (3, vi (v3)), (4, vi (v4))] [] σ 0 0 := by
  have C0 := C1.1
  intro n
  induction n with
  | zero => intro v1 v2 v3 v4 σ hT hE h0 g_v1 hf; unfold f_X4_mostAlike_L13 at hf; cases hf
  | succ n ih =>
    intro v1 v2 v3 v4 σ hT hE h0 g_v1 hf
    rw [f_X4_mostAlike_L13] at hf
    refine J_iload (q := 15) C0 4 rfl dX4_mostAlike_13 rfl ?_
    refine J_aload_n (q := 16) C0 0 rfl rfl dX4_mostAlike_15 rfl trivial ?_
    refine J_getI (q := 19) C0 fl_X4_29_4 rfl (h0) rfl dX4_mostAlike_16 rfl ?_
    refine J_icmp_ge (t := 151) (q := 22) C0 dX4_mostAlike_19 (by decide) rfl hf (fun c2 hf => ?_) (fun c2 hf => ?_)
    · refine J_iload_n (q := 152) C0 3 rfl rfl dX4_mostAlike_151 rfl ?_
      obtain rfl := Option.some.inj hf; exact J_iret C1 dX4_mostAlike_152 rfl (Nat.zero_le _) (Nat.zero_le _) ⟨rfl, rfl, hT, hE⟩
    · refine J_iload (q := 24) C0 4 rfl dX4_mostAlike_22 rfl ?_
      refine J_aload_n (q := 25) C0 0 rfl rfl dX4_mostAlike_24 rfl trivial ?_
      refine J_getR (q := 28) C0 fl_X4_26_4 rfl (h0) rfl dX4_mostAlike_25 rfl ?_
      refine K_some hf (fun b3 hb3 hf => ?_)
      have ab3 : is_A σ b3 12 := ((sg_T.op hT (j := 4) (h0) rfl)) b3 hb3
      refine J_alen (q := 29) C0 hb3 (ab3) (by decide) dX4_mostAlike_28 rfl ?_
      refine J_icmp_ge (t := 151) (q := 32) C0 dX4_mostAlike_29 (by decide) rfl hf (fun c4 hf => ?_) (fun c4 hf => ?_)
      · refine J_iload_n (q := 152) C0 3 rfl rfl dX4_mostAlike_151 rfl ?_
        obtain rfl := Option.some.inj hf; exact J_iret C1 dX4_mostAlike_152 rfl (Nat.zero_le _) (Nat.zero_le _) ⟨rfl, rfl, hT, hE⟩
      · refine J_aload_n (q := 33) C0 0 rfl rfl dX4_mostAlike_32 rfl trivial ?_
        refine J_getR (q := 36) C0 fl_X4_26_4 rfl (h0) rfl dX4_mostAlike_33 rfl ?_
        refine J_iload (q := 38) C0 4 rfl dX4_mostAlike_36 rfl ?_
        refine K_chk hf (fun c5 hf => ?_)
        refine J_iald (q := 39) C0 hb3 (ab3) c5 dX4_mostAlike_38 rfl ?_
        refine J_sipush (q := 42) (v := 1000) C0 dX4_mostAlike_39 rfl rfl ?_
        refine J_idiv (q := 43) C0 dX4_mostAlike_42 rfl (by decide) ?_
        refine J_istore (q := 45) (lv' := [(5, vi ((sg_I σ b3 (v4).toNatClampNeg) / (1000))), (0, vr (some a0)), (1, vr (v1)), (2, vi (v2)), (3, vi (v3)), (4, vi (v4))]) C0 (G_nl C1 (by decide)) dX4_mostAlike_43 rfl rfl ?_
        refine J_aload_n (q := 46) C0 1 rfl rfl dX4_mostAlike_45 rfl trivial ?_
        refine J_getR (q := 49) C0 fl_X4_26_4 rfl (h0) rfl dX4_mostAlike_46 rfl ?_
        refine J_iload (q := 51) C0 5 rfl dX4_mostAlike_49 rfl ?_
        refine K_chk hf (fun c6 hf => ?_)
        refine J_iald (q := 52) C0 hb3 (ab3) c6 dX4_mostAlike_51 rfl ?_
        refine J_bipush (q := 54) (v := 100) C0 dX4_mostAlike_52 rfl rfl ?_
        refine J_idiv (q := 55) C0 dX4_mostAlike_54 rfl (by decide) ?_
        refine J_bipush (q := 57) (v := 10) C0 dX4_mostAlike_55 rfl rfl ?_
        refine J_irem (q := 58) C0 dX4_mostAlike_57 rfl (by decide) ?_
        refine J_istore (q := 60) (lv' := [(6, vi (rm_ ((sg_I σ b3 (v4).toNatClampNeg) / (100)) (10))), (5, vi ((sg_I σ b3 (v4).toNatClampNeg) / (1000))), (0, vr (some a0)), (1, vr (v1)), (2, vi (v2)), (3, vi (v3)), (4, vi (v4))]) C0 (G_nl C1 (by decide)) dX4_mostAlike_58 rfl rfl ?_
        refine J_aload_n (q := 61) C0 2 rfl rfl dX4_mostAlike_60 rfl trivial ?_
        refine J_getR (q := 64) C0 fl_X4_26_4 rfl (h0) rfl dX4_mostAlike_61 rfl ?_
        refine J_iload (q := 66) C0 6 rfl dX4_mostAlike_64 rfl ?_
        refine K_chk hf (fun c7 hf => ?_)
        refine J_iald (q := 67) C0 hb3 (ab3) c7 dX4_mostAlike_66 rfl ?_
        refine J_bipush (q := 69) (v := 100) C0 dX4_mostAlike_67 rfl rfl ?_
        refine J_irem (q := 70) C0 dX4_mostAlike_69 rfl (by decide) ?_
        refine J_istore (q := 72) (lv' := [(7, vi (rm_ (sg_I σ b3 (v4).toNatClampNeg) (100))), (6, vi (rm_ ((sg_I σ b3 (v4).toNatClampNeg) / (100)) (10))), (5, vi ((sg_I σ b3 (v4).toNatClampNeg) / (1000))), (0, vr (some a0)), (1, vr (v1)), (2, vi (v2)), (3, vi (v3)), (4, vi (v4))]) C0 (G_nl C1 (by decide)) dX4_mostAlike_70 rfl rfl ?_
        refine J_iload (q := 74) C0 2 rfl dX4_mostAlike_72 rfl ?_
        refine J_if_lt (t := 145) (q := 77) C0 dX4_mostAlike_74 (by decide) rfl hf (fun c8 hf => ?_) (fun c8 hf => ?_)
        · refine J_sub (lv' := [(0, vr (some a0)), (1, vr (v1)), (2, vi (v2)), (3, vi (v3)), (4, vi (v4))]) [3, 4, 5, 6, 7] rfl ?_
          exact t_X4_mostAlike_B145 C1  (f_X4_mostAlike_L13 N a0 n)  ih  (v1) (v2) (v3) (v4) σ (hT) (hE) (h0) (g_v1) hf
        · refine J_iload (q := 79) C0 2 rfl dX4_mostAlike_77 rfl ?_
          refine J_aload_n (q := 80) C0 4 rfl rfl dX4_mostAlike_79 rfl trivial ?_
          refine K_some hf (fun b9 hb9 hf => ?_)
          have ab9 : is_A σ b9 17 := (g_v1) b9 hb9
          refine J_alen (q := 81) C0 hb9 (ab9) (by decide) dX4_mostAlike_80 rfl ?_
          refine J_icmp_ge (t := 145) (q := 84) C0 dX4_mostAlike_81 (by decide) rfl hf (fun c10 hf => ?_) (fun c10 hf => ?_)
          · refine J_sub (lv' := [(0, vr (some a0)), (1, vr (v1)), (2, vi (v2)), (3, vi (v3)), (4, vi (v4))]) [3, 4, 5, 6, 7] rfl ?_
            exact t_X4_mostAlike_B145 C1  (f_X4_mostAlike_L13 N a0 n)  ih  (v1) (v2) (v3) (v4) σ (hT) (hE) (h0) ((by rw [hb9]; exact is_O.some (ab9))) hf
          · refine J_aload_n (q := 85) C0 4 rfl rfl dX4_mostAlike_84 rfl trivial ?_
            refine J_iload (q := 87) C0 2 rfl dX4_mostAlike_85 rfl ?_
            refine K_chk hf (fun c11 hf => ?_)
            refine J_aald (q := 88) C0 hb9 (ab9) (by decide) c11 dX4_mostAlike_87 rfl ?_
            refine J_ifnull (t := 145) (q := 91) C0 dX4_mostAlike_88 (by decide) rfl (fun hn13 => ?_) (fun b12 hn13 => ?_)
            · rw [hn13] at hf
              refine J_sub (lv' := [(0, vr (some a0)), (1, vr (v1)), (2, vi (v2)), (3, vi (v3)), (4, vi (v4))]) [3, 4, 5, 6, 7] rfl ?_
              exact t_X4_mostAlike_B145 C1  (f_X4_mostAlike_L13 N a0 n)  ih  (v1) (v2) (v3) (v4) σ (hT) (hE) (h0) ((by rw [hb9]; exact is_O.some (ab9))) hf
            · rw [hn13] at hf
              refine J_aload_n (q := 92) C0 4 rfl rfl dX4_mostAlike_91 rfl trivial ?_
              refine J_iload (q := 94) C0 2 rfl dX4_mostAlike_92 rfl ?_
              refine K_chk hf (fun c14 hf => ?_)
              refine J_aald (q := 95) C0 hb9 (ab9) (by decide) c14 dX4_mostAlike_94 rfl ?_
              refine J_iload (q := 97) C0 0 rfl dX4_mostAlike_95 rfl ?_
              refine J_iload (q := 99) C0 1 rfl dX4_mostAlike_97 rfl ?_
              refine J_iload_n (q := 100) C0 5 rfl rfl dX4_mostAlike_99 rfl ?_
              refine J_imul (q := 101) C0 dX4_mostAlike_100 rfl ?_
              refine J_iadd (q := 102) C0 dX4_mostAlike_101 rfl ?_
              refine K_some hf (fun p15 hp15 hf => ?_)
              refine J_callV (q := 105) (ci := 7) (as := [vi ((rm_ (sg_I σ b3 (v4).toNatClampNeg) (100)) + ((rm_ ((sg_I σ b3 (v4).toNatClampNeg) / (100)) (10)) * (v2)))]) (rest := []) C0 hn13 (((sg_T.op hT (j := ((sg_I σ b3 (v4).toNatClampNeg) / (1000)).toNatClampNeg) (ab9) rfl)) b12 hn13) (t_X8_shownAt b12 ((rm_ (sg_I σ b3 (v4).toNatClampNeg) (100)) + ((rm_ ((sg_I σ b3 (v4).toNatClampNeg) / (100)) (10)) * (v2))) (hT) (((sg_T.op hT (j := ((sg_I σ b3 (v4).toNatClampNeg) / (1000)).toNatClampNeg) (ab9) rfl)) b12 hn13)  hp15) ml_X8_shownAt lk_X4_44 im_X8_shownAt se_X8_shownAt rfl (by decide) dX4_mostAlike_102 rfl rfl rfl (by simp [ac_]) C1.room (by decide) (by decide) (by decide) (by decide) (fun r_ τ_ hQ => ?_)
              obtain ⟨rfl, ht_⟩ := hQ; have ht_ := ht_.symm; subst ht_
              show J_ Γ 105 [(7, vi (rm_ (sg_I σ b3 (v4).toNatClampNeg) (100))), (6, vi (rm_ ((sg_I σ b3 (v4).toNatClampNeg) / (100)) (10))), (5, vi ((sg_I σ b3 (v4).toNatClampNeg) / (1000))), (0, vr (some a0)), (1, vr (v1)), (2, vi (v2)), (3, vi (v3)), (4, vi (v4))] [vi (p15)] σ 0 0
              refine J_istore (q := 107) (lv' := [(8, vi (p15)), (7, vi (rm_ (sg_I σ b3 (v4).toNatClampNeg) (100))), (6, vi (rm_ ((sg_I σ b3 (v4).toNatClampNeg) / (100)) (10))), (5, vi ((sg_I σ b3 (v4).toNatClampNeg) / (1000))), (0, vr (some a0)), (1, vr (v1)), (2, vi (v2)), (3, vi (v3)), (4, vi (v4))]) C0 (G_nl C1 (by decide)) dX4_mostAlike_105 rfl rfl ?_
              refine J_iload (q := 109) C0 0 rfl dX4_mostAlike_107 rfl ?_
              refine J_if_lt (t := 145) (q := 112) C0 dX4_mostAlike_109 (by decide) rfl hf (fun c16 hf => ?_) (fun c16 hf => ?_)
              · refine J_sub (lv' := [(0, vr (some a0)), (1, vr (v1)), (2, vi (v2)), (3, vi (v3)), (4, vi (v4))]) [4, 5, 6, 7, 8] rfl ?_
                exact t_X4_mostAlike_B145 C1  (f_X4_mostAlike_L13 N a0 n)  ih  (v1) (v2) (v3) (v4) σ (hT) (hE) (h0) ((by rw [hb9]; exact is_O.some (ab9))) hf
              · refine J_iload (q := 114) C0 0 rfl dX4_mostAlike_112 rfl ?_
                refine J_aload_n (q := 115) C0 4 rfl rfl dX4_mostAlike_114 rfl trivial ?_
                refine J_getR (q := 118) C0 fl_X4_32_4 rfl (h0) rfl dX4_mostAlike_115 rfl ?_
                refine K_some hf (fun b17 hb17 hf => ?_)
                have ab17 : is_A σ b17 12 := ((sg_T.op hT (j := 6) (h0) rfl)) b17 hb17
                refine J_alen (q := 119) C0 hb17 (ab17) (by decide) dX4_mostAlike_118 rfl ?_
                refine J_icmp_ge (t := 145) (q := 122) C0 dX4_mostAlike_119 (by decide) rfl hf (fun c18 hf => ?_) (fun c18 hf => ?_)
                · refine J_sub (lv' := [(0, vr (some a0)), (1, vr (v1)), (2, vi (v2)), (3, vi (v3)), (4, vi (v4))]) [4, 5, 6, 7, 8] rfl ?_
                  exact t_X4_mostAlike_B145 C1  (f_X4_mostAlike_L13 N a0 n)  ih  (v1) (v2) (v3) (v4) σ (hT) (hE) (h0) ((by rw [hb9]; exact is_O.some (ab9))) hf
                · refine J_aload_n (q := 123) C0 4 rfl rfl dX4_mostAlike_122 rfl trivial ?_
                  refine J_getR (q := 126) C0 fl_X4_32_4 rfl (h0) rfl dX4_mostAlike_123 rfl ?_
                  refine J_iload (q := 128) C0 0 rfl dX4_mostAlike_126 rfl ?_
                  refine J_dup2 (q := 129) C0 dX4_mostAlike_128 rfl rfl rfl ?_
                  refine K_chk hf (fun c19 hf => ?_)
                  refine J_iald (q := 130) C0 hb17 (ab17) c19 dX4_mostAlike_129 rfl ?_
                  refine J_iconst (q := 131) (v := 1) C0 dX4_mostAlike_130 rfl rfl ?_
                  refine J_iadd (q := 132) C0 dX4_mostAlike_131 rfl ?_
                  refine K_chk hf (fun c20 hf => ?_)
                  refine J_iast (q := 133) C0 hb17 (ab17) c20 dX4_mostAlike_132 rfl ?_
                  refine J_iload_n (q := 134) C0 7 rfl rfl dX4_mostAlike_133 rfl ?_
                  refine J_aload_n (q := 135) C0 4 rfl rfl dX4_mostAlike_134 rfl trivial ?_
                  refine J_getR (q := 138) C0 fl_X4_32_4 rfl ((h0).putI) rfl dX4_mostAlike_135 rfl ?_
                  refine J_iload (q := 140) C0 0 rfl dX4_mostAlike_138 rfl ?_
                  refine K_some hf (fun b21 hb21 hf => ?_)
                  have ab21 : is_A (put_I σ b17 (p15).toNatClampNeg ((sg_I σ b17 (p15).toNatClampNeg) + (1))) b21 12 := ((sg_T.op (hT).putI (j := 6) ((h0).putI) rfl)) b21 hb21
                  refine K_chk hf (fun c22 hf => ?_)
                  refine J_iald (q := 141) C0 hb21 (ab21) c22 dX4_mostAlike_140 rfl ?_
                  refine K_some hf (fun p23 hp23 hf => ?_)
                  refine J_callS (q := 144) (as := [vi (v3), vi (sg_I (put_I σ b17 (p15).toNatClampNeg ((sg_I σ b17 (p15).toNatClampNeg) + (1))) b21 (p15).toNatClampNeg)]) (rest := []) C0 (t_J9_max_7cf53 (v3) (sg_I (put_I σ b17 (p15).toNatClampNeg ((sg_I σ b17 (p15).toNatClampNeg) + (1))) b21 (p15).toNatClampNeg)  hp23) ml_J9_max_7cf53 lk_X4_58 sm_J9_max_7cf53 dX4_mostAlike_141 rfl rfl rfl (by simp [ac_]) C1.room (by decide) (by decide) (by decide) (by decide) (fun r_ τ_ hQ => ?_)
                  obtain ⟨rfl, ht_⟩ := hQ; have ht_ := ht_.symm; subst ht_
                  show J_ Γ 144 [(8, vi (p15)), (7, vi (rm_ (sg_I σ b3 (v4).toNatClampNeg) (100))), (6, vi (rm_ ((sg_I σ b3 (v4).toNatClampNeg) / (100)) (10))), (5, vi ((sg_I σ b3 (v4).toNatClampNeg) / (1000))), (0, vr (some a0)), (1, vr (v1)), (2, vi (v2)), (3, vi (v3)), (4, vi (v4))] [vi (p23)] (put_I σ b17 (p15).toNatClampNeg ((sg_I σ b17 (p15).toNatClampNeg) + (1))) 0 0
                  refine J_istore_n (q := 145) (lv' := [(3, vi (p23)), (8, vi (p15)), (7, vi (rm_ (sg_I σ b3 (v4).toNatClampNeg) (100))), (6, vi (rm_ ((sg_I σ b3 (v4).toNatClampNeg) / (100)) (10))), (5, vi ((sg_I σ b3 (v4).toNatClampNeg) / (1000))), (0, vr (some a0)), (1, vr (v1)), (2, vi (v2)), (4, vi (v4))]) C0 rfl (G_nl C1 (by decide)) dX4_mostAlike_144 rfl rfl ?_
                  refine J_sub (lv' := [(0, vr (some a0)), (1, vr (v1)), (2, vi (v2)), (3, vi (p23)), (4, vi (v4))]) [5, 6, 7, 0, 8] rfl ?_
                  exact t_X4_mostAlike_B145 C1  (f_X4_mostAlike_L13 N a0 n)  ih  (v1) (v2) (p23) (v4) (put_I σ b17 (p15).toNatClampNeg ((sg_I σ b17 (p15).toNatClampNeg) + (1))) ((hT).putI) ((hE).putI) ((h0).putI) ((by rw [hb9]; exact is_O.some ((ab9).putI))) hf
set_option maxHeartbeats 4000000 in
set_option maxRecDepth 100000 in
theorem t_X4_mostAlike (N : Nat) (a0 : Nat) (e1 : Option Nat) (x2 : Int32) {σ : Sg} (hT : sg_T σ) (h0 : is_A σ a0 4) (g1 : is_O σ e1 17) {r : (Int32 × Sg)} (hf : f_X4_mostAlike N a0 e1 x2 σ = some r) : Ct yX4_mostAlike cX4_mostAlike 9 (some .int) 3 64 0 0 [vr (some a0), vr e1, vi x2] σ (fun r_ τ_ => (r_ = some (vi r.1)) ∧ τ_ = r.2 ∧ sg_T τ_ ∧ sg_E σ τ_) := by
  refine Ct.of (by decide +kernel) (Nat.le_of_ble_eq_true rfl) (fun Γ C1 => ?_)
  have C0 := C1.1
  have hE : sg_E σ σ := sg_E.rf
  unfold f_X4_mostAlike at hf
  show J_ Γ 0 [(0, vr (some a0)), (1, vr (e1)), (2, vi (x2))] [] σ 0 0
  refine J_aload_n (q := 1) C0 0 rfl rfl dX4_mostAlike_0 rfl trivial ?_
  refine J_getR (q := 4) C0 fl_X4_32_4 rfl (h0) rfl dX4_mostAlike_1 rfl ?_
  refine J_iconst (q := 5) (v := 0) C0 dX4_mostAlike_4 rfl rfl ?_
  refine K_some hf (fun p1 hp1 hf => ?_)
  refine J_callS (q := 8) (as := [vr (sg_R σ a0 6), vi (0)]) (rest := []) C0 (t_J7_fill_53178 N (sg_R σ a0 6) (0) (hT) ((sg_T.op hT (j := 6) (h0) rfl)) hp1) ml_J7_fill_53178 lk_X4_52 sm_J7_fill_53178 dX4_mostAlike_5 rfl rfl rfl (by simp [ac_]) C1.room (by decide) (by decide) (by decide) (by decide) (fun r_ τ_ hQ => ?_)
  obtain ⟨rfl, ht_, Tp1, Ep1⟩ := hQ; have ht_ := ht_.symm; subst ht_
  show J_ Γ 8 [(0, vr (some a0)), (1, vr (e1)), (2, vi (x2))] [] p1 0 0
  refine J_iconst (q := 9) (v := 0) C0 dX4_mostAlike_8 rfl rfl ?_
  refine J_istore_n (q := 10) (lv' := [(3, vi (0)), (0, vr (some a0)), (1, vr (e1)), (2, vi (x2))]) C0 rfl (G_nl C1 (by decide)) dX4_mostAlike_9 rfl rfl ?_
  refine J_iconst (q := 11) (v := 0) C0 dX4_mostAlike_10 rfl rfl ?_
  refine J_istore (q := 13) (lv' := [(4, vi (0)), (3, vi (0)), (0, vr (some a0)), (1, vr (e1)), (2, vi (x2))]) C0 (G_nl C1 (by decide)) dX4_mostAlike_11 rfl rfl ?_
  refine J_sub (lv' := [(0, vr (some a0)), (1, vr (e1)), (2, vi (x2)), (3, vi (0)), (4, vi (0))]) [2, 3, 4, 1, 0] rfl ?_
  exact t_X4_mostAlike_L13 C1    N (e1) (x2) (0) (0) (p1) (Tp1) ((hE).tr Ep1) ((Ep1.at h0)) ((Ep1.op g1)) hf
def f_X4_bestTick_B47 (N : Nat) (a0 : Nat) (k12 : Option Nat → Int32 → Int32 → Int32 → Sg → Option (Int32 × Sg)) (v1 : Option Nat) (v2 : Int32) (v3 : Int32) (v4 : Int32) (σ : Sg) : Option (Int32 × Sg) :=
  k12 (v1) (v2) (v3) (v4 + 1) σ
def f_X4_bestTick_L12 (N : Nat) (a0 : Nat) : Nat → Option Nat → Int32 → Int32 → Int32 → Sg → Option (Int32 × Sg)
  | 0, _, _, _, _, _ => none
  | n + 1, v1, v2, v3, v4, σ =>
  if (60) < (v4) then
  (some (v2, σ))
  else
  (if (0) < (sg_I σ a0 5) then
  (Option.bind (f_X4_mostAlike N a0 (v1) (v4) σ) fun p3 =>
  if (p3.1) < (v3) then
  (f_X4_bestTick_B47 N a0 (f_X4_bestTick_L12 N a0 n) (v1) (v4) (p3.1) (v4) (p3.2))
  else
  (f_X4_bestTick_B47 N a0 (f_X4_bestTick_L12 N a0 n) (v1) (v2) (v3) (v4) (p3.2)))
  else
  (some (v2, σ)))
def f_X4_bestTick (N : Nat) (a0 : Nat) (e1 : Option Nat) (σ : Sg) : Option (Int32 × Sg) :=
  f_X4_bestTick_L12 N a0 N (e1) ((-1)) ((sg_I σ a0 5) + (1)) (0) σ
set_option maxHeartbeats 4000000 in
set_option maxRecDepth 100000 in
theorem t_X4_bestTick_B47 {N : Nat} {a0 : Nat} {Γ : Gm} {σ0 : Sg} {r : (Int32 × Sg)} (C1 : CM Γ cX4_bestTick RX4 6 (some .int) 4 92 0 0 (fun r_ τ_ => (r_ = some (vi r.1)) ∧ τ_ = r.2 ∧ sg_T τ_ ∧ sg_E σ0 τ_)) (k12 : Option Nat → Int32 → Int32 → Int32 → Sg → Option (Int32 × Sg)) (hk12 : ∀ (v1 : Option Nat) (v2 : Int32) (v3 : Int32) (v4 : Int32) (σ : Sg), sg_T σ → sg_E σ0 σ → is_A σ a0 4 → is_O σ v1 17 → k12 v1 v2 v3 v4 σ = some r → J_ Γ 12 [(0, vr (some a0)), (1, vr v1), (2, vi v2), (3, vi v3), (4, vi v4)] [] σ 0 0) (v1 : Option Nat) (v2 : Int32) (v3 : Int32) (v4 : Int32) (σ : Sg) (hT : sg_T σ) (hE : sg_E σ0 σ) (h0 : is_A σ a0 4) (g_v1 : is_O σ v1 17) (hf : f_X4_bestTick_B47 N a0 k12  v1 v2 v3 v4 σ = some r) : J_ Γ 47 [(0, vr (some a0)), (1, vr (v1)), (2, vi (v2)), (3, vi (v3)), (4, vi (v4))] [] σ 0 0 := by
  have C0 := C1.1
  unfold f_X4_bestTick_B47 at hf
  refine J_iinc (q := 50) (v := v4 + 1) (lv' := [(4, vi (v4 + 1)), (0, vr (some a0)), (1, vr (v1)), (2, vi (v2)), (3, vi (v3))]) C0 4 rfl rfl (G_nl C1 (by decide)) dX4_bestTick_47 rfl rfl ?_
  refine J_goto (q := 12) C0 dX4_bestTick_50 (by decide) ?_
  refine J_sub (lv' := [(0, vr (some a0)), (1, vr (v1)), (2, vi (v2)), (3, vi (v3)), (4, vi (v4 + 1))]) [1, 2, 3, 4, 0] rfl ?_
  exact hk12 (v1) (v2) (v3) (v4 + 1) σ (hT) (hE)  (h0) (g_v1) hf
set_option maxHeartbeats 4000000 in
set_option maxRecDepth 100000 in
theorem t_X4_bestTick_L12 {N : Nat} {a0 : Nat} {Γ : Gm} {σ0 : Sg} {r : (Int32 × Sg)} (C1 : CM Γ cX4_bestTick RX4 6 (some .int) 4 92 0 0 (fun r_ τ_ => (r_ = some (vi r.1)) ∧ τ_ = r.2 ∧ sg_T τ_ ∧ sg_E σ0 τ_)) : ∀ (n : Nat) (v1 : Option Nat) (v2 : Int32) (v3 : Int32) (v4 : Int32) (σ : Sg), sg_T σ → sg_E σ0 σ → is_A σ a0 4 → is_O σ v1 17 → f_X4_bestTick_L12 N a0  n v1 v2 v3 v4 σ = some r → J_ Γ 12 [(0, vr (some a0)), (1, vr (v1)), (2, vi (v2)), (3, vi (v3)), (4, vi (v4))] [] σ 0 0 := by
  have C0 := C1.1
  intro n
  induction n with
  | zero => intro v1 v2 v3 v4 σ hT hE h0 g_v1 hf; unfold f_X4_bestTick_L12 at hf; cases hf
  | succ n ih =>
    intro v1 v2 v3 v4 σ hT hE h0 g_v1 hf
    rw [f_X4_bestTick_L12] at hf
    refine J_iload (q := 14) C0 4 rfl dX4_bestTick_12 rfl ?_
    refine J_bipush (q := 16) (v := 60) C0 dX4_bestTick_14 rfl rfl ?_
    refine J_icmp_gt (t := 53) (q := 19) C0 dX4_bestTick_16 (by decide) rfl hf (fun c1 hf => ?_) (fun c1 hf => ?_)
    · refine J_iload_n (q := 54) C0 2 rfl rfl dX4_bestTick_53 rfl ?_
      obtain rfl := Option.some.inj hf; exact J_iret C1 dX4_bestTick_54 rfl (Nat.zero_le _) (Nat.zero_le _) ⟨rfl, rfl, hT, hE⟩
    · refine J_aload_n (q := 20) C0 0 rfl rfl dX4_bestTick_19 rfl trivial ?_
      refine J_getI (q := 23) C0 fl_X4_29_4 rfl (h0) rfl dX4_bestTick_20 rfl ?_
      refine J_if_le (t := 53) (q := 26) C0 dX4_bestTick_23 (by decide) rfl hf (fun c2 hf => ?_) (fun c2 hf => ?_)
      · refine J_iload_n (q := 54) C0 2 rfl rfl dX4_bestTick_53 rfl ?_
        obtain rfl := Option.some.inj hf; exact J_iret C1 dX4_bestTick_54 rfl (Nat.zero_le _) (Nat.zero_le _) ⟨rfl, rfl, hT, hE⟩
      · refine J_aload_n (q := 27) C0 0 rfl rfl dX4_bestTick_26 rfl trivial ?_
        refine J_aload_n (q := 28) C0 1 rfl rfl dX4_bestTick_27 rfl trivial ?_
        refine J_iload (q := 30) C0 4 rfl dX4_bestTick_28 rfl ?_
        refine K_some hf (fun p3 hp3 hf => ?_)
        refine J_callV (q := 33) (ci := 4) (as := [vr (v1), vi (v4)]) (rest := []) C0 rfl (h0) (t_X4_mostAlike N a0 (v1) (v4) (hT) (h0) (g_v1) hp3) ml_X4_mostAlike lk_X4_48 im_X4_mostAlike se_X4_mostAlike rfl (by decide) dX4_bestTick_30 rfl rfl rfl (by simp [ac_]) C1.room (by decide) (by decide) (by decide) (by decide) (fun r_ τ_ hQ => ?_)
        obtain ⟨rfl, rfl, Tp3, Ep3⟩ := hQ
        show J_ Γ 33 [(0, vr (some a0)), (1, vr (v1)), (2, vi (v2)), (3, vi (v3)), (4, vi (v4))] [vi (p3.1)] p3.2 0 0
        refine J_istore (q := 35) (lv' := [(5, vi (p3.1)), (0, vr (some a0)), (1, vr (v1)), (2, vi (v2)), (3, vi (v3)), (4, vi (v4))]) C0 (G_nl C1 (by decide)) dX4_bestTick_33 rfl rfl ?_
        refine J_iload (q := 37) C0 0 rfl dX4_bestTick_35 rfl ?_
        refine J_iload_n (q := 38) C0 4 rfl rfl dX4_bestTick_37 rfl ?_
        refine J_icmp_ge (t := 47) (q := 41) C0 dX4_bestTick_38 (by decide) rfl hf (fun c4 hf => ?_) (fun c4 hf => ?_)
        · refine J_sub (lv' := [(0, vr (some a0)), (1, vr (v1)), (2, vi (v2)), (3, vi (v3)), (4, vi (v4))]) [1, 2, 3, 4, 5] rfl ?_
          exact t_X4_bestTick_B47 C1  (f_X4_bestTick_L12 N a0 n)  ih  (v1) (v2) (v3) (v4) (p3.2) (Tp3) ((hE).tr Ep3) ((Ep3.at h0)) ((Ep3.op g_v1)) hf
        · refine J_iload (q := 43) C0 5 rfl dX4_bestTick_41 rfl ?_
          refine J_istore_n (q := 44) (lv' := [(2, vi (v4)), (5, vi (p3.1)), (0, vr (some a0)), (1, vr (v1)), (3, vi (v3)), (4, vi (v4))]) C0 rfl (G_nl C1 (by decide)) dX4_bestTick_43 rfl rfl ?_
          refine J_iload (q := 46) C0 1 rfl dX4_bestTick_44 rfl ?_
          refine J_istore_n (q := 47) (lv' := [(3, vi (p3.1)), (2, vi (v4)), (5, vi (p3.1)), (0, vr (some a0)), (1, vr (v1)), (4, vi (v4))]) C0 rfl (G_nl C1 (by decide)) dX4_bestTick_46 rfl rfl ?_
          refine J_sub (lv' := [(0, vr (some a0)), (1, vr (v1)), (2, vi (v4)), (3, vi (p3.1)), (4, vi (v4))]) [3, 4, 1, 0, 5] rfl ?_
          exact t_X4_bestTick_B47 C1  (f_X4_bestTick_L12 N a0 n)  ih  (v1) (v4) (p3.1) (v4) (p3.2) (Tp3) ((hE).tr Ep3) ((Ep3.at h0)) ((Ep3.op g_v1)) hf
set_option maxHeartbeats 4000000 in
set_option maxRecDepth 100000 in
theorem t_X4_bestTick (N : Nat) (a0 : Nat) (e1 : Option Nat) {σ : Sg} (hT : sg_T σ) (h0 : is_A σ a0 4) (g1 : is_O σ e1 17) {r : (Int32 × Sg)} (hf : f_X4_bestTick N a0 e1 σ = some r) : Ct yX4_bestTick cX4_bestTick 6 (some .int) 4 92 0 0 [vr (some a0), vr e1] σ (fun r_ τ_ => (r_ = some (vi r.1)) ∧ τ_ = r.2 ∧ sg_T τ_ ∧ sg_E σ τ_) := by
  refine Ct.of (by decide +kernel) (Nat.le_of_ble_eq_true rfl) (fun Γ C1 => ?_)
  have C0 := C1.1
  have hE : sg_E σ σ := sg_E.rf
  unfold f_X4_bestTick at hf
  show J_ Γ 0 [(0, vr (some a0)), (1, vr (e1))] [] σ 0 0
  refine J_iconst (q := 1) (v := (-1)) C0 dX4_bestTick_0 rfl rfl ?_
  refine J_istore_n (q := 2) (lv' := [(2, vi ((-1))), (0, vr (some a0)), (1, vr (e1))]) C0 rfl (G_nl C1 (by decide)) dX4_bestTick_1 rfl rfl ?_
  refine J_aload_n (q := 3) C0 1 rfl rfl dX4_bestTick_2 rfl trivial ?_
  refine J_getI (q := 6) C0 fl_X4_29_4 rfl (h0) rfl dX4_bestTick_3 rfl ?_
  refine J_iconst (q := 7) (v := 1) C0 dX4_bestTick_6 rfl rfl ?_
  refine J_iadd (q := 8) C0 dX4_bestTick_7 rfl ?_
  refine J_istore_n (q := 9) (lv' := [(3, vi ((sg_I σ a0 5) + (1))), (2, vi ((-1))), (0, vr (some a0)), (1, vr (e1))]) C0 rfl (G_nl C1 (by decide)) dX4_bestTick_8 rfl rfl ?_
  refine J_iconst (q := 10) (v := 0) C0 dX4_bestTick_9 rfl rfl ?_
  refine J_istore (q := 12) (lv' := [(4, vi (0)), (3, vi ((sg_I σ a0 5) + (1))), (2, vi ((-1))), (0, vr (some a0)), (1, vr (e1))]) C0 (G_nl C1 (by decide)) dX4_bestTick_10 rfl rfl ?_
  refine J_sub (lv' := [(0, vr (some a0)), (1, vr (e1)), (2, vi ((-1))), (3, vi ((sg_I σ a0 5) + (1))), (4, vi (0))]) [3, 4, 2, 1, 0] rfl ?_
  exact t_X4_bestTick_L12 C1    N (e1) ((-1)) ((sg_I σ a0 5) + (1)) (0) σ (hT) (hE) (h0) (g1) hf
def f_X5_clear (a0 : Nat) (σ : Sg) : Option Sg :=
  some (put_I σ a0 2 (0))
set_option maxHeartbeats 4000000 in
set_option maxRecDepth 100000 in
theorem t_X5_clear (a0 : Nat) {σ : Sg} (hT : sg_T σ) (h0 : is_A σ a0 5) {r : Sg} (hf : f_X5_clear a0  σ = some r) : Ct yX5_clear cX5_clear 1 none 0 0 0 0 [vr (some a0)] σ (fun r_ τ_ => (r_ = none) ∧ τ_ = r ∧ sg_T τ_ ∧ sg_E σ τ_) := by
  refine Ct.of (by decide +kernel) (Nat.le_of_ble_eq_true rfl) (fun Γ C1 => ?_)
  have C0 := C1.1
  have hE : sg_E σ σ := sg_E.rf
  unfold f_X5_clear at hf
  show J_ Γ 0 [(0, vr (some a0))] [] σ 0 0
  refine J_aload_n (q := 1) C0 0 rfl rfl dX5_clear_0 rfl trivial ?_
  refine J_iconst (q := 2) (v := 0) C0 dX5_clear_1 rfl rfl ?_
  refine J_putI (q := 5) C0 fl_X5_21_5 rfl (h0) rfl dX5_clear_2 rfl ?_
  obtain rfl := Option.some.inj hf; exact J_vret C1 dX5_clear_5 rfl (Nat.zero_le _) (Nat.zero_le _) ⟨rfl, rfl, (hT).putI, (hE).putI⟩
def f_X10_copyFrom (a0 : Nat) (e1 : Option Nat) (σ : Sg) : Option Sg :=
  Option.bind (e1) fun b1 =>
  if ¬ ((sg_I (put_I σ a0 0 (sg_I σ b1 0)) b1 1) = 0 ∨ (sg_I (put_I σ a0 0 (sg_I σ b1 0)) b1 1) = 1) then none else
  some (put_I (put_I (put_I (put_I σ a0 0 (sg_I σ b1 0)) a0 1 (sg_I (put_I σ a0 0 (sg_I σ b1 0)) b1 1)) a0 2 (sg_I (put_I (put_I σ a0 0 (sg_I σ b1 0)) a0 1 (sg_I (put_I σ a0 0 (sg_I σ b1 0)) b1 1)) b1 2)) a0 3 (sg_I (put_I (put_I (put_I σ a0 0 (sg_I σ b1 0)) a0 1 (sg_I (put_I σ a0 0 (sg_I σ b1 0)) b1 1)) a0 2 (sg_I (put_I (put_I σ a0 0 (sg_I σ b1 0)) a0 1 (sg_I (put_I σ a0 0 (sg_I σ b1 0)) b1 1)) b1 2)) b1 3))
set_option maxHeartbeats 4000000 in
set_option maxRecDepth 100000 in
theorem t_X10_copyFrom (a0 : Nat) (e1 : Option Nat) {σ : Sg} (hT : sg_T σ) (h0 : is_A σ a0 9) (g1 : is_O σ e1 9) {r : Sg} (hf : f_X10_copyFrom a0 e1 σ = some r) : Ct yX10_copyFrom cX10_copyFrom 2 none 0 0 0 0 [vr (some a0), vr e1] σ (fun r_ τ_ => (r_ = none) ∧ τ_ = r ∧ sg_T τ_ ∧ sg_E σ τ_) := by
  refine Ct.of (by decide +kernel) (Nat.le_of_ble_eq_true rfl) (fun Γ C1 => ?_)
  have C0 := C1.1
  have hE : sg_E σ σ := sg_E.rf
  unfold f_X10_copyFrom at hf
  show J_ Γ 0 [(0, vr (some a0)), (1, vr (e1))] [] σ 0 0
  refine J_aload_n (q := 1) C0 0 rfl rfl dX10_copyFrom_0 rfl trivial ?_
  refine J_aload_n (q := 2) C0 1 rfl rfl dX10_copyFrom_1 rfl trivial ?_
  refine K_some hf (fun b1 hb1 hf => ?_)
  have ab1 : is_A σ b1 9 := (g1) b1 hb1
  refine J_getI (q := 5) C0 fl_X10_7_9 hb1 (ab1) rfl dX10_copyFrom_2 rfl ?_
  refine J_putI (q := 8) C0 fl_X10_7_9 rfl (h0) rfl dX10_copyFrom_5 rfl ?_
  refine J_aload_n (q := 9) C0 0 rfl rfl dX10_copyFrom_8 rfl trivial ?_
  refine J_aload_n (q := 10) C0 1 rfl rfl dX10_copyFrom_9 rfl trivial ?_
  refine J_getI (q := 13) C0 fl_X10_13_9 hb1 ((ab1).putI) rfl dX10_copyFrom_10 rfl ?_
  refine K_chk hf (fun c2 hf => ?_)
  refine J_putZ (q := 16) C0 (Decidable.not_not.mp c2) fl_X10_13_9 rfl ((h0).putI) rfl dX10_copyFrom_13 rfl ?_
  refine J_aload_n (q := 17) C0 0 rfl rfl dX10_copyFrom_16 rfl trivial ?_
  refine J_aload_n (q := 18) C0 1 rfl rfl dX10_copyFrom_17 rfl trivial ?_
  refine J_getI (q := 21) C0 fl_X10_17_9 hb1 (((ab1).putI).putI) rfl dX10_copyFrom_18 rfl ?_
  refine J_putI (q := 24) C0 fl_X10_17_9 rfl (((h0).putI).putI) rfl dX10_copyFrom_21 rfl ?_
  refine J_aload_n (q := 25) C0 0 rfl rfl dX10_copyFrom_24 rfl trivial ?_
  refine J_aload_n (q := 26) C0 1 rfl rfl dX10_copyFrom_25 rfl trivial ?_
  refine J_getI (q := 29) C0 fl_X10_20_9 hb1 ((((ab1).putI).putI).putI) rfl dX10_copyFrom_26 rfl ?_
  refine J_putI (q := 32) C0 fl_X10_20_9 rfl ((((h0).putI).putI).putI) rfl dX10_copyFrom_29 rfl ?_
  obtain rfl := Option.some.inj hf; exact J_vret C1 dX10_copyFrom_32 rfl (Nat.zero_le _) (Nat.zero_le _) ⟨rfl, rfl, ((((hT).putI).putI).putI).putI, ((((hE).putI).putI).putI).putI⟩
def f_X7_copyFrom_L2 (N : Nat) (a0 : Nat) : Nat → Option Nat → Int32 → Sg → Option Sg
  | 0, _, _, _ => none
  | n + 1, v1, v2, σ =>
  Option.bind (sg_R σ a0 0) fun b1 =>
  if (v2) < (Int32.ofNat (sg_L σ b1)) then
  (if (v2) < 0 ∨ sg_L σ b1 ≤ (v2).toNatClampNeg then none else
  Option.bind (v1) fun b8 =>
  Option.bind (sg_R σ b8 0) fun b9 =>
  if (v2) < 0 ∨ sg_L σ b9 ≤ (v2).toNatClampNeg then none else
  Option.bind (sg_R σ b1 (v2).toNatClampNeg) fun b11 =>
  Option.bind (f_X10_copyFrom b11 (sg_R σ b9 (v2).toNatClampNeg) σ) fun p12 =>
  f_X7_copyFrom_L2 N a0 n (v1) (v2 + 1) (p12))
  else
  (Option.bind (v1) fun b3 =>
  Option.bind (sg_R (put_I (put_I (put_I (put_I (put_I σ a0 1 (sg_I σ b3 1)) a0 2 (sg_I (put_I σ a0 1 (sg_I σ b3 1)) b3 2)) a0 3 (sg_I (put_I (put_I σ a0 1 (sg_I σ b3 1)) a0 2 (sg_I (put_I σ a0 1 (sg_I σ b3 1)) b3 2)) b3 3)) a0 4 (sg_I (put_I (put_I (put_I σ a0 1 (sg_I σ b3 1)) a0 2 (sg_I (put_I σ a0 1 (sg_I σ b3 1)) b3 2)) a0 3 (sg_I (put_I (put_I σ a0 1 (sg_I σ b3 1)) a0 2 (sg_I (put_I σ a0 1 (sg_I σ b3 1)) b3 2)) b3 3)) b3 4)) a0 5 (sg_I (put_I (put_I (put_I (put_I σ a0 1 (sg_I σ b3 1)) a0 2 (sg_I (put_I σ a0 1 (sg_I σ b3 1)) b3 2)) a0 3 (sg_I (put_I (put_I σ a0 1 (sg_I σ b3 1)) a0 2 (sg_I (put_I σ a0 1 (sg_I σ b3 1)) b3 2)) b3 3)) a0 4 (sg_I (put_I (put_I (put_I σ a0 1 (sg_I σ b3 1)) a0 2 (sg_I (put_I σ a0 1 (sg_I σ b3 1)) b3 2)) a0 3 (sg_I (put_I (put_I σ a0 1 (sg_I σ b3 1)) a0 2 (sg_I (put_I σ a0 1 (sg_I σ b3 1)) b3 2)) b3 3)) b3 4)) b3 5)) a0 6) fun b4 =>
  Option.bind (sg_R (put_I (put_I (put_I (put_I (put_I σ a0 1 (sg_I σ b3 1)) a0 2 (sg_I (put_I σ a0 1 (sg_I σ b3 1)) b3 2)) a0 3 (sg_I (put_I (put_I σ a0 1 (sg_I σ b3 1)) a0 2 (sg_I (put_I σ a0 1 (sg_I σ b3 1)) b3 2)) b3 3)) a0 4 (sg_I (put_I (put_I (put_I σ a0 1 (sg_I σ b3 1)) a0 2 (sg_I (put_I σ a0 1 (sg_I σ b3 1)) b3 2)) a0 3 (sg_I (put_I (put_I σ a0 1 (sg_I σ b3 1)) a0 2 (sg_I (put_I σ a0 1 (sg_I σ b3 1)) b3 2)) b3 3)) b3 4)) a0 5 (sg_I (put_I (put_I (put_I (put_I σ a0 1 (sg_I σ b3 1)) a0 2 (sg_I (put_I σ a0 1 (sg_I σ b3 1)) b3 2)) a0 3 (sg_I (put_I (put_I σ a0 1 (sg_I σ b3 1)) a0 2 (sg_I (put_I σ a0 1 (sg_I σ b3 1)) b3 2)) b3 3)) a0 4 (sg_I (put_I (put_I (put_I σ a0 1 (sg_I σ b3 1)) a0 2 (sg_I (put_I σ a0 1 (sg_I σ b3 1)) b3 2)) a0 3 (sg_I (put_I (put_I σ a0 1 (sg_I σ b3 1)) a0 2 (sg_I (put_I σ a0 1 (sg_I σ b3 1)) b3 2)) b3 3)) b3 4)) b3 5)) b3 6) fun b5 =>
  if (0 : Int32) < 0 ∨ (0 : Int32) < 0 ∨ (60 : Int32) < 0 ∨ sg_L (put_I (put_I (put_I (put_I (put_I σ a0 1 (sg_I σ b3 1)) a0 2 (sg_I (put_I σ a0 1 (sg_I σ b3 1)) b3 2)) a0 3 (sg_I (put_I (put_I σ a0 1 (sg_I σ b3 1)) a0 2 (sg_I (put_I σ a0 1 (sg_I σ b3 1)) b3 2)) b3 3)) a0 4 (sg_I (put_I (put_I (put_I σ a0 1 (sg_I σ b3 1)) a0 2 (sg_I (put_I σ a0 1 (sg_I σ b3 1)) b3 2)) a0 3 (sg_I (put_I (put_I σ a0 1 (sg_I σ b3 1)) a0 2 (sg_I (put_I σ a0 1 (sg_I σ b3 1)) b3 2)) b3 3)) b3 4)) a0 5 (sg_I (put_I (put_I (put_I (put_I σ a0 1 (sg_I σ b3 1)) a0 2 (sg_I (put_I σ a0 1 (sg_I σ b3 1)) b3 2)) a0 3 (sg_I (put_I (put_I σ a0 1 (sg_I σ b3 1)) a0 2 (sg_I (put_I σ a0 1 (sg_I σ b3 1)) b3 2)) b3 3)) a0 4 (sg_I (put_I (put_I (put_I σ a0 1 (sg_I σ b3 1)) a0 2 (sg_I (put_I σ a0 1 (sg_I σ b3 1)) b3 2)) a0 3 (sg_I (put_I (put_I σ a0 1 (sg_I σ b3 1)) a0 2 (sg_I (put_I σ a0 1 (sg_I σ b3 1)) b3 2)) b3 3)) b3 4)) b3 5)) b5 < (0 : Int32).toNatClampNeg + (60 : Int32).toNatClampNeg ∨ sg_L (put_I (put_I (put_I (put_I (put_I σ a0 1 (sg_I σ b3 1)) a0 2 (sg_I (put_I σ a0 1 (sg_I σ b3 1)) b3 2)) a0 3 (sg_I (put_I (put_I σ a0 1 (sg_I σ b3 1)) a0 2 (sg_I (put_I σ a0 1 (sg_I σ b3 1)) b3 2)) b3 3)) a0 4 (sg_I (put_I (put_I (put_I σ a0 1 (sg_I σ b3 1)) a0 2 (sg_I (put_I σ a0 1 (sg_I σ b3 1)) b3 2)) a0 3 (sg_I (put_I (put_I σ a0 1 (sg_I σ b3 1)) a0 2 (sg_I (put_I σ a0 1 (sg_I σ b3 1)) b3 2)) b3 3)) b3 4)) a0 5 (sg_I (put_I (put_I (put_I (put_I σ a0 1 (sg_I σ b3 1)) a0 2 (sg_I (put_I σ a0 1 (sg_I σ b3 1)) b3 2)) a0 3 (sg_I (put_I (put_I σ a0 1 (sg_I σ b3 1)) a0 2 (sg_I (put_I σ a0 1 (sg_I σ b3 1)) b3 2)) b3 3)) a0 4 (sg_I (put_I (put_I (put_I σ a0 1 (sg_I σ b3 1)) a0 2 (sg_I (put_I σ a0 1 (sg_I σ b3 1)) b3 2)) a0 3 (sg_I (put_I (put_I σ a0 1 (sg_I σ b3 1)) a0 2 (sg_I (put_I σ a0 1 (sg_I σ b3 1)) b3 2)) b3 3)) b3 4)) b3 5)) b4 < (0 : Int32).toNatClampNeg + (60 : Int32).toNatClampNeg then none else
  some (put_I (cpy_I (put_I (put_I (put_I (put_I (put_I σ a0 1 (sg_I σ b3 1)) a0 2 (sg_I (put_I σ a0 1 (sg_I σ b3 1)) b3 2)) a0 3 (sg_I (put_I (put_I σ a0 1 (sg_I σ b3 1)) a0 2 (sg_I (put_I σ a0 1 (sg_I σ b3 1)) b3 2)) b3 3)) a0 4 (sg_I (put_I (put_I (put_I σ a0 1 (sg_I σ b3 1)) a0 2 (sg_I (put_I σ a0 1 (sg_I σ b3 1)) b3 2)) a0 3 (sg_I (put_I (put_I σ a0 1 (sg_I σ b3 1)) a0 2 (sg_I (put_I σ a0 1 (sg_I σ b3 1)) b3 2)) b3 3)) b3 4)) a0 5 (sg_I (put_I (put_I (put_I (put_I σ a0 1 (sg_I σ b3 1)) a0 2 (sg_I (put_I σ a0 1 (sg_I σ b3 1)) b3 2)) a0 3 (sg_I (put_I (put_I σ a0 1 (sg_I σ b3 1)) a0 2 (sg_I (put_I σ a0 1 (sg_I σ b3 1)) b3 2)) b3 3)) a0 4 (sg_I (put_I (put_I (put_I σ a0 1 (sg_I σ b3 1)) a0 2 (sg_I (put_I σ a0 1 (sg_I σ b3 1)) b3 2)) a0 3 (sg_I (put_I (put_I σ a0 1 (sg_I σ b3 1)) a0 2 (sg_I (put_I σ a0 1 (sg_I σ b3 1)) b3 2)) b3 3)) b3 4)) b3 5)) b5 b4 (0 : Int32).toNatClampNeg (0 : Int32).toNatClampNeg (60 : Int32).toNatClampNeg) a0 7 (sg_I (cpy_I (put_I (put_I (put_I (put_I (put_I σ a0 1 (sg_I σ b3 1)) a0 2 (sg_I (put_I σ a0 1 (sg_I σ b3 1)) b3 2)) a0 3 (sg_I (put_I (put_I σ a0 1 (sg_I σ b3 1)) a0 2 (sg_I (put_I σ a0 1 (sg_I σ b3 1)) b3 2)) b3 3)) a0 4 (sg_I (put_I (put_I (put_I σ a0 1 (sg_I σ b3 1)) a0 2 (sg_I (put_I σ a0 1 (sg_I σ b3 1)) b3 2)) a0 3 (sg_I (put_I (put_I σ a0 1 (sg_I σ b3 1)) a0 2 (sg_I (put_I σ a0 1 (sg_I σ b3 1)) b3 2)) b3 3)) b3 4)) a0 5 (sg_I (put_I (put_I (put_I (put_I σ a0 1 (sg_I σ b3 1)) a0 2 (sg_I (put_I σ a0 1 (sg_I σ b3 1)) b3 2)) a0 3 (sg_I (put_I (put_I σ a0 1 (sg_I σ b3 1)) a0 2 (sg_I (put_I σ a0 1 (sg_I σ b3 1)) b3 2)) b3 3)) a0 4 (sg_I (put_I (put_I (put_I σ a0 1 (sg_I σ b3 1)) a0 2 (sg_I (put_I σ a0 1 (sg_I σ b3 1)) b3 2)) a0 3 (sg_I (put_I (put_I σ a0 1 (sg_I σ b3 1)) a0 2 (sg_I (put_I σ a0 1 (sg_I σ b3 1)) b3 2)) b3 3)) b3 4)) b3 5)) b5 b4 (0 : Int32).toNatClampNeg (0 : Int32).toNatClampNeg (60 : Int32).toNatClampNeg) b3 7)))
def f_X7_copyFrom (N : Nat) (a0 : Nat) (e1 : Option Nat) (σ : Sg) : Option Sg :=
  f_X7_copyFrom_L2 N a0 N (e1) (0) σ
set_option maxHeartbeats 4000000 in
set_option maxRecDepth 100000 in
theorem t_X7_copyFrom_L2 {N : Nat} {a0 : Nat} {Γ : Gm} {σ0 : Sg} {r : Sg} (C1 : CM Γ cX7_copyFrom RX7 3 none 1 26 0 0 (fun r_ τ_ => (r_ = none) ∧ τ_ = r ∧ sg_T τ_ ∧ sg_E σ0 τ_)) : ∀ (n : Nat) (v1 : Option Nat) (v2 : Int32) (σ : Sg), sg_T σ → sg_E σ0 σ → is_A σ a0 6 → is_O σ v1 6 → f_X7_copyFrom_L2 N a0  n v1 v2 σ = some r → J_ Γ 2 [(0, vr (some a0)), (1, vr (v1)), (2, vi (v2))] [] σ 0 0 := by
  have C0 := C1.1
  intro n
  induction n with
  | zero => intro v1 v2 σ hT hE h0 g_v1 hf; unfold f_X7_copyFrom_L2 at hf; cases hf
  | succ n ih =>
    intro v1 v2 σ hT hE h0 g_v1 hf
    rw [f_X7_copyFrom_L2] at hf
    refine J_iload_n (q := 3) C0 2 rfl rfl dX7_copyFrom_2 rfl ?_
    refine J_aload_n (q := 4) C0 0 rfl rfl dX7_copyFrom_3 rfl trivial ?_
    refine J_getR (q := 7) C0 fl_X7_11_6 rfl (h0) rfl dX7_copyFrom_4 rfl ?_
    refine K_some hf (fun b1 hb1 hf => ?_)
    have ab1 : is_A σ b1 18 := ((sg_T.op hT (j := 0) (h0) rfl)) b1 hb1
    refine J_alen (q := 8) C0 hb1 (ab1) (by decide) dX7_copyFrom_7 rfl ?_
    refine J_icmp_ge (t := 32) (q := 11) C0 dX7_copyFrom_8 (by decide) rfl hf (fun c2 hf => ?_) (fun c2 hf => ?_)
    · refine J_aload_n (q := 33) C0 0 rfl rfl dX7_copyFrom_32 rfl trivial ?_
      refine J_aload_n (q := 34) C0 1 rfl rfl dX7_copyFrom_33 rfl trivial ?_
      refine K_some hf (fun b3 hb3 hf => ?_)
      have ab3 : is_A σ b3 6 := (g_v1) b3 hb3
      refine J_getI (q := 37) C0 fl_X7_17_6 hb3 (ab3) rfl dX7_copyFrom_34 rfl ?_
      refine J_putI (q := 40) C0 fl_X7_17_6 rfl (h0) rfl dX7_copyFrom_37 rfl ?_
      refine J_aload_n (q := 41) C0 0 rfl rfl dX7_copyFrom_40 rfl trivial ?_
      refine J_aload_n (q := 42) C0 1 rfl rfl dX7_copyFrom_41 rfl trivial ?_
      refine J_getI (q := 45) C0 fl_X7_21_6 hb3 ((ab3).putI) rfl dX7_copyFrom_42 rfl ?_
      refine J_putI (q := 48) C0 fl_X7_21_6 rfl ((h0).putI) rfl dX7_copyFrom_45 rfl ?_
      refine J_aload_n (q := 49) C0 0 rfl rfl dX7_copyFrom_48 rfl trivial ?_
      refine J_aload_n (q := 50) C0 1 rfl rfl dX7_copyFrom_49 rfl trivial ?_
      refine J_getI (q := 53) C0 fl_X7_24_6 hb3 (((ab3).putI).putI) rfl dX7_copyFrom_50 rfl ?_
      refine J_putI (q := 56) C0 fl_X7_24_6 rfl (((h0).putI).putI) rfl dX7_copyFrom_53 rfl ?_
      refine J_aload_n (q := 57) C0 0 rfl rfl dX7_copyFrom_56 rfl trivial ?_
      refine J_aload_n (q := 58) C0 1 rfl rfl dX7_copyFrom_57 rfl trivial ?_
      refine J_getI (q := 61) C0 fl_X7_27_6 hb3 ((((ab3).putI).putI).putI) rfl dX7_copyFrom_58 rfl ?_
      refine J_putI (q := 64) C0 fl_X7_27_6 rfl ((((h0).putI).putI).putI) rfl dX7_copyFrom_61 rfl ?_
      refine J_aload_n (q := 65) C0 0 rfl rfl dX7_copyFrom_64 rfl trivial ?_
      refine J_aload_n (q := 66) C0 1 rfl rfl dX7_copyFrom_65 rfl trivial ?_
      refine J_getI (q := 69) C0 fl_X7_30_6 hb3 (((((ab3).putI).putI).putI).putI) rfl dX7_copyFrom_66 rfl ?_
      refine J_putI (q := 72) C0 fl_X7_30_6 rfl (((((h0).putI).putI).putI).putI) rfl dX7_copyFrom_69 rfl ?_
      refine J_aload_n (q := 73) C0 1 rfl rfl dX7_copyFrom_72 rfl trivial ?_
      refine J_getR (q := 76) C0 fl_X7_33_6 hb3 ((((((ab3).putI).putI).putI).putI).putI) rfl dX7_copyFrom_73 rfl ?_
      refine J_iconst (q := 77) (v := 0) C0 dX7_copyFrom_76 rfl rfl ?_
      refine J_aload_n (q := 78) C0 0 rfl rfl dX7_copyFrom_77 rfl trivial ?_
      refine J_getR (q := 81) C0 fl_X7_33_6 rfl ((((((h0).putI).putI).putI).putI).putI) rfl dX7_copyFrom_78 rfl ?_
      refine J_iconst (q := 82) (v := 0) C0 dX7_copyFrom_81 rfl rfl ?_
      refine J_bipush (q := 84) (v := 60) C0 dX7_copyFrom_82 rfl rfl ?_
      refine K_some hf (fun b4 hb4 hf => ?_)
      have ab4 : is_A (put_I (put_I (put_I (put_I (put_I σ a0 1 (sg_I σ b3 1)) a0 2 (sg_I (put_I σ a0 1 (sg_I σ b3 1)) b3 2)) a0 3 (sg_I (put_I (put_I σ a0 1 (sg_I σ b3 1)) a0 2 (sg_I (put_I σ a0 1 (sg_I σ b3 1)) b3 2)) b3 3)) a0 4 (sg_I (put_I (put_I (put_I σ a0 1 (sg_I σ b3 1)) a0 2 (sg_I (put_I σ a0 1 (sg_I σ b3 1)) b3 2)) a0 3 (sg_I (put_I (put_I σ a0 1 (sg_I σ b3 1)) a0 2 (sg_I (put_I σ a0 1 (sg_I σ b3 1)) b3 2)) b3 3)) b3 4)) a0 5 (sg_I (put_I (put_I (put_I (put_I σ a0 1 (sg_I σ b3 1)) a0 2 (sg_I (put_I σ a0 1 (sg_I σ b3 1)) b3 2)) a0 3 (sg_I (put_I (put_I σ a0 1 (sg_I σ b3 1)) a0 2 (sg_I (put_I σ a0 1 (sg_I σ b3 1)) b3 2)) b3 3)) a0 4 (sg_I (put_I (put_I (put_I σ a0 1 (sg_I σ b3 1)) a0 2 (sg_I (put_I σ a0 1 (sg_I σ b3 1)) b3 2)) a0 3 (sg_I (put_I (put_I σ a0 1 (sg_I σ b3 1)) a0 2 (sg_I (put_I σ a0 1 (sg_I σ b3 1)) b3 2)) b3 3)) b3 4)) b3 5)) b4 12 := ((sg_T.op (((((hT).putI).putI).putI).putI).putI (j := 6) ((((((h0).putI).putI).putI).putI).putI) rfl)) b4 hb4
      refine K_some hf (fun b5 hb5 hf => ?_)
      have ab5 : is_A (put_I (put_I (put_I (put_I (put_I σ a0 1 (sg_I σ b3 1)) a0 2 (sg_I (put_I σ a0 1 (sg_I σ b3 1)) b3 2)) a0 3 (sg_I (put_I (put_I σ a0 1 (sg_I σ b3 1)) a0 2 (sg_I (put_I σ a0 1 (sg_I σ b3 1)) b3 2)) b3 3)) a0 4 (sg_I (put_I (put_I (put_I σ a0 1 (sg_I σ b3 1)) a0 2 (sg_I (put_I σ a0 1 (sg_I σ b3 1)) b3 2)) a0 3 (sg_I (put_I (put_I σ a0 1 (sg_I σ b3 1)) a0 2 (sg_I (put_I σ a0 1 (sg_I σ b3 1)) b3 2)) b3 3)) b3 4)) a0 5 (sg_I (put_I (put_I (put_I (put_I σ a0 1 (sg_I σ b3 1)) a0 2 (sg_I (put_I σ a0 1 (sg_I σ b3 1)) b3 2)) a0 3 (sg_I (put_I (put_I σ a0 1 (sg_I σ b3 1)) a0 2 (sg_I (put_I σ a0 1 (sg_I σ b3 1)) b3 2)) b3 3)) a0 4 (sg_I (put_I (put_I (put_I σ a0 1 (sg_I σ b3 1)) a0 2 (sg_I (put_I σ a0 1 (sg_I σ b3 1)) b3 2)) a0 3 (sg_I (put_I (put_I σ a0 1 (sg_I σ b3 1)) a0 2 (sg_I (put_I σ a0 1 (sg_I σ b3 1)) b3 2)) b3 3)) b3 4)) b3 5)) b5 12 := ((sg_T.op (((((hT).putI).putI).putI).putI).putI (j := 6) ((((((ab3).putI).putI).putI).putI).putI) rfl)) b5 hb5
      refine K_chk hf (fun c6 hf => ?_)
      refine J_copyi (q := 87) C0 hb5 hb4 (ab5) (ab4) c6 lk_X7_45 na_copy st_copy iz_sys dX7_copyFrom_84 rfl C1.room (by decide) (by simp [ac_, nativeFrameWords]) ?_
      refine J_aload_n (q := 88) C0 0 rfl rfl dX7_copyFrom_87 rfl trivial ?_
      refine J_aload_n (q := 89) C0 1 rfl rfl dX7_copyFrom_88 rfl trivial ?_
      refine J_getI (q := 92) C0 fl_X7_37_6 hb3 (((((((ab3).putI).putI).putI).putI).putI).cpyI) rfl dX7_copyFrom_89 rfl ?_
      refine J_putI (q := 95) C0 fl_X7_37_6 rfl (((((((h0).putI).putI).putI).putI).putI).cpyI) rfl dX7_copyFrom_92 rfl ?_
      obtain rfl := Option.some.inj hf; exact J_vret C1 dX7_copyFrom_95 rfl (Nat.zero_le _) (Nat.zero_le _) ⟨rfl, rfl, (((((((hT).putI).putI).putI).putI).putI).cpyI).putI, (((((((hE).putI).putI).putI).putI).putI).cpyI).putI⟩
    · refine J_aload_n (q := 12) C0 0 rfl rfl dX7_copyFrom_11 rfl trivial ?_
      refine J_getR (q := 15) C0 fl_X7_11_6 rfl (h0) rfl dX7_copyFrom_12 rfl ?_
      refine J_iload_n (q := 16) C0 2 rfl rfl dX7_copyFrom_15 rfl ?_
      refine K_chk hf (fun c7 hf => ?_)
      refine J_aald (q := 17) C0 hb1 (ab1) (by decide) c7 dX7_copyFrom_16 rfl ?_
      refine J_aload_n (q := 18) C0 1 rfl rfl dX7_copyFrom_17 rfl trivial ?_
      refine K_some hf (fun b8 hb8 hf => ?_)
      have ab8 : is_A σ b8 6 := (g_v1) b8 hb8
      refine J_getR (q := 21) C0 fl_X7_11_6 hb8 (ab8) rfl dX7_copyFrom_18 rfl ?_
      refine J_iload_n (q := 22) C0 2 rfl rfl dX7_copyFrom_21 rfl ?_
      refine K_some hf (fun b9 hb9 hf => ?_)
      have ab9 : is_A σ b9 18 := ((sg_T.op hT (j := 0) (ab8) rfl)) b9 hb9
      refine K_chk hf (fun c10 hf => ?_)
      refine J_aald (q := 23) C0 hb9 (ab9) (by decide) c10 dX7_copyFrom_22 rfl ?_
      refine K_some hf (fun b11 hb11 hf => ?_)
      have ab11 : is_A σ b11 9 := ((sg_T.op hT (j := (v2).toNatClampNeg) (ab1) rfl)) b11 hb11
      refine K_some hf (fun p12 hp12 hf => ?_)
      refine J_callV (q := 26) (ci := 9) (as := [vr (sg_R σ b9 (v2).toNatClampNeg)]) (rest := []) C0 hb11 (ab11) (t_X10_copyFrom b11 (sg_R σ b9 (v2).toNatClampNeg) (hT) (ab11) ((sg_T.op hT (j := (v2).toNatClampNeg) (ab9) rfl)) hp12) ml_X10_copyFrom lk_X7_41 im_X10_copyFrom se_X10_copyFrom rfl (by decide) dX7_copyFrom_23 rfl rfl rfl (by simp [ac_]) C1.room (by decide) (by decide) (by decide) (by decide) (fun r_ τ_ hQ => ?_)
      obtain ⟨rfl, ht_, Tp12, Ep12⟩ := hQ; have ht_ := ht_.symm; subst ht_
      show J_ Γ 26 [(0, vr (some a0)), (1, vr (v1)), (2, vi (v2))] [] p12 0 0
      refine J_iinc (q := 29) (v := v2 + 1) (lv' := [(2, vi (v2 + 1)), (0, vr (some a0)), (1, vr (v1))]) C0 2 rfl rfl (G_nl C1 (by decide)) dX7_copyFrom_26 rfl rfl ?_
      refine J_goto (q := 2) C0 dX7_copyFrom_29 (by decide) ?_
      refine J_sub (lv' := [(0, vr (some a0)), (1, vr (v1)), (2, vi (v2 + 1))]) [1, 2, 0] rfl ?_
      exact ih (v1) (v2 + 1) (p12) (Tp12) ((hE).tr Ep12) ((Ep12.at h0)) ((by rw [hb8]; exact is_O.some ((Ep12.at ab8)))) hf
set_option maxHeartbeats 4000000 in
set_option maxRecDepth 100000 in
theorem t_X7_copyFrom (N : Nat) (a0 : Nat) (e1 : Option Nat) {σ : Sg} (hT : sg_T σ) (h0 : is_A σ a0 6) (g1 : is_O σ e1 6) {r : Sg} (hf : f_X7_copyFrom N a0 e1 σ = some r) : Ct yX7_copyFrom cX7_copyFrom 3 none 1 26 0 0 [vr (some a0), vr e1] σ (fun r_ τ_ => (r_ = none) ∧ τ_ = r ∧ sg_T τ_ ∧ sg_E σ τ_) := by
  refine Ct.of (by decide +kernel) (Nat.le_of_ble_eq_true rfl) (fun Γ C1 => ?_)
  have C0 := C1.1
  have hE : sg_E σ σ := sg_E.rf
  unfold f_X7_copyFrom at hf
  show J_ Γ 0 [(0, vr (some a0)), (1, vr (e1))] [] σ 0 0
  refine J_iconst (q := 1) (v := 0) C0 dX7_copyFrom_0 rfl rfl ?_
  refine J_istore_n (q := 2) (lv' := [(2, vi (0)), (0, vr (some a0)), (1, vr (e1))]) C0 rfl (G_nl C1 (by decide)) dX7_copyFrom_1 rfl rfl ?_
  refine J_sub (lv' := [(0, vr (some a0)), (1, vr (e1)), (2, vi (0))]) [1, 2, 0] rfl ?_
  exact t_X7_copyFrom_L2 C1    N (e1) (0) σ (hT) (hE) (h0) (g1) hf
def f_X5_keep (N : Nat) (a0 : Nat) (e1 : Option Nat) (σ : Sg) : Option Sg :=
  Option.bind (f_X11_round (sg_I σ a0 1) (40) ) fun p1 =>
  Option.bind (sg_R σ a0 0) fun b2 =>
  if (p1) < 0 ∨ sg_L σ b2 ≤ (p1).toNatClampNeg then none else
  Option.bind (sg_R σ b2 (p1).toNatClampNeg) fun b4 =>
  Option.bind (f_X7_copyFrom N b4 (e1) σ) fun p5 =>
  Option.bind (f_X11_round ((sg_I p5 a0 1) + (1)) (40) ) fun p6 =>
  Option.bind (f_J9_min_7cf53 (40) ((sg_I (put_I p5 a0 1 (p6)) a0 2) + (1)) ) fun p7 =>
  some (put_I (put_I p5 a0 1 (p6)) a0 2 (p7))
set_option maxHeartbeats 4000000 in
set_option maxRecDepth 100000 in
theorem t_X5_keep (N : Nat) (a0 : Nat) (e1 : Option Nat) {σ : Sg} (hT : sg_T σ) (h0 : is_A σ a0 5) (g1 : is_O σ e1 6) {r : Sg} (hf : f_X5_keep N a0 e1 σ = some r) : Ct yX5_keep cX5_keep 2 none 2 48 0 0 [vr (some a0), vr e1] σ (fun r_ τ_ => (r_ = none) ∧ τ_ = r ∧ sg_T τ_ ∧ sg_E σ τ_) := by
  refine Ct.of (by decide +kernel) (Nat.le_of_ble_eq_true rfl) (fun Γ C1 => ?_)
  have C0 := C1.1
  have hE : sg_E σ σ := sg_E.rf
  unfold f_X5_keep at hf
  show J_ Γ 0 [(0, vr (some a0)), (1, vr (e1))] [] σ 0 0
  refine J_aload_n (q := 1) C0 0 rfl rfl dX5_keep_0 rfl trivial ?_
  refine J_getR (q := 4) C0 fl_X5_11_5 rfl (h0) rfl dX5_keep_1 rfl ?_
  refine J_aload_n (q := 5) C0 0 rfl rfl dX5_keep_4 rfl trivial ?_
  refine J_getI (q := 8) C0 fl_X5_17_5 rfl (h0) rfl dX5_keep_5 rfl ?_
  refine J_bipush (q := 10) (v := 40) C0 dX5_keep_8 rfl rfl ?_
  refine K_some hf (fun p1 hp1 hf => ?_)
  refine J_callSN (q := 13) (as := [vi (sg_I σ a0 1), vi (40)]) (rest := [vr (sg_R σ a0 0)]) C0 (t_X11_round (sg_I σ a0 1) (40)  hp1) ml_X11_round lk_X5_25 sm_X11_round dX5_keep_10 rfl rfl rfl (by simp [ac_]) C1.room (by decide) (by decide) (by decide) (by decide) (fun r_ τ_ hQ => ?_)
  obtain ⟨rfl, ht_⟩ := hQ; have ht_ := ht_.symm; subst ht_
  show J_ Γ 13 [(0, vr (some a0)), (1, vr (e1))] [vi (p1), vr (sg_R σ a0 0)] σ 0 0
  refine K_some hf (fun b2 hb2 hf => ?_)
  have ab2 : is_A σ b2 16 := ((sg_T.op hT (j := 0) (h0) rfl)) b2 hb2
  refine K_chk hf (fun c3 hf => ?_)
  refine J_aald (q := 14) C0 hb2 (ab2) (by decide) c3 dX5_keep_13 rfl ?_
  refine J_aload_n (q := 15) C0 1 rfl rfl dX5_keep_14 rfl trivial ?_
  refine K_some hf (fun b4 hb4 hf => ?_)
  have ab4 : is_A σ b4 6 := ((sg_T.op hT (j := (p1).toNatClampNeg) (ab2) rfl)) b4 hb4
  refine K_some hf (fun p5 hp5 hf => ?_)
  refine J_callV (q := 18) (ci := 6) (as := [vr (e1)]) (rest := []) C0 hb4 (ab4) (t_X7_copyFrom N b4 (e1) (hT) (ab4) (g1) hp5) ml_X7_copyFrom lk_X5_29 im_X7_copyFrom se_X7_copyFrom rfl (by decide) dX5_keep_15 rfl rfl rfl (by simp [ac_]) C1.room (by decide) (by decide) (by decide) (by decide) (fun r_ τ_ hQ => ?_)
  obtain ⟨rfl, ht_, Tp5, Ep5⟩ := hQ; have ht_ := ht_.symm; subst ht_
  show J_ Γ 18 [(0, vr (some a0)), (1, vr (e1))] [] p5 0 0
  refine J_aload_n (q := 19) C0 0 rfl rfl dX5_keep_18 rfl trivial ?_
  refine J_aload_n (q := 20) C0 0 rfl rfl dX5_keep_19 rfl trivial ?_
  refine J_getI (q := 23) C0 fl_X5_17_5 rfl ((Ep5.at h0)) rfl dX5_keep_20 rfl ?_
  refine J_iconst (q := 24) (v := 1) C0 dX5_keep_23 rfl rfl ?_
  refine J_iadd (q := 25) C0 dX5_keep_24 rfl ?_
  refine J_bipush (q := 27) (v := 40) C0 dX5_keep_25 rfl rfl ?_
  refine K_some hf (fun p6 hp6 hf => ?_)
  refine J_callSN (q := 30) (as := [vi ((sg_I p5 a0 1) + (1)), vi (40)]) (rest := [vr (some a0)]) C0 (t_X11_round ((sg_I p5 a0 1) + (1)) (40)  hp6) ml_X11_round lk_X5_25 sm_X11_round dX5_keep_27 rfl rfl rfl (by simp [ac_]) C1.room (by decide) (by decide) (by decide) (by decide) (fun r_ τ_ hQ => ?_)
  obtain ⟨rfl, ht_⟩ := hQ; have ht_ := ht_.symm; subst ht_
  show J_ Γ 30 [(0, vr (some a0)), (1, vr (e1))] [vi (p6), vr (some a0)] p5 0 0
  refine J_putI (q := 33) C0 fl_X5_17_5 rfl ((Ep5.at h0)) rfl dX5_keep_30 rfl ?_
  refine J_aload_n (q := 34) C0 0 rfl rfl dX5_keep_33 rfl trivial ?_
  refine J_bipush (q := 36) (v := 40) C0 dX5_keep_34 rfl rfl ?_
  refine J_aload_n (q := 37) C0 0 rfl rfl dX5_keep_36 rfl trivial ?_
  refine J_getI (q := 40) C0 fl_X5_21_5 rfl (((Ep5.at h0)).putI) rfl dX5_keep_37 rfl ?_
  refine J_iconst (q := 41) (v := 1) C0 dX5_keep_40 rfl rfl ?_
  refine J_iadd (q := 42) C0 dX5_keep_41 rfl ?_
  refine K_some hf (fun p7 hp7 hf => ?_)
  refine J_callS (q := 45) (as := [vi (40), vi ((sg_I (put_I p5 a0 1 (p6)) a0 2) + (1))]) (rest := [vr (some a0)]) C0 (t_J9_min_7cf53 (40) ((sg_I (put_I p5 a0 1 (p6)) a0 2) + (1))  hp7) ml_J9_min_7cf53 lk_X5_33 sm_J9_min_7cf53 dX5_keep_42 rfl rfl rfl (by simp [ac_]) C1.room (by decide) (by decide) (by decide) (by decide) (fun r_ τ_ hQ => ?_)
  obtain ⟨rfl, ht_⟩ := hQ; have ht_ := ht_.symm; subst ht_
  show J_ Γ 45 [(0, vr (some a0)), (1, vr (e1))] [vi (p7), vr (some a0)] (put_I p5 a0 1 (p6)) 0 0
  refine J_putI (q := 48) C0 fl_X5_21_5 rfl (((Ep5.at h0)).putI) rfl dX5_keep_45 rfl ?_
  obtain rfl := Option.some.inj hf; exact J_vret C1 dX5_keep_48 rfl (Nat.zero_le _) (Nat.zero_le _) ⟨rfl, rfl, ((Tp5).putI).putI, (((hE).tr Ep5).putI).putI⟩
def f_X5_bringBack (N : Nat) (a0 : Nat) (e1 : Option Nat) (σ : Sg) : Option (Int32 × Sg) :=
  if (sg_I σ a0 2) < (1) then
  (some ((-1), σ))
  else
  (Option.bind (f_X11_round ((sg_I σ a0 1) - (1)) (40) ) fun p2 =>
  Option.bind (f_X11_round (sg_I (put_I σ a0 1 (p2)) a0 1) (40) ) fun p3 =>
  Option.bind (sg_R (put_I σ a0 1 (p2)) a0 0) fun b4 =>
  if (p3) < 0 ∨ sg_L (put_I σ a0 1 (p2)) b4 ≤ (p3).toNatClampNeg then none else
  Option.bind (e1) fun b6 =>
  Option.bind (f_X7_copyFrom N b6 (sg_R (put_I σ a0 1 (p2)) b4 (p3).toNatClampNeg) (put_I σ a0 1 (p2))) fun p7 =>
  some (sg_I (put_I p7 a0 2 ((sg_I p7 a0 2) - (1))) a0 2, put_I p7 a0 2 ((sg_I p7 a0 2) - (1))))
set_option maxHeartbeats 4000000 in
set_option maxRecDepth 100000 in
theorem t_X5_bringBack (N : Nat) (a0 : Nat) (e1 : Option Nat) {σ : Sg} (hT : sg_T σ) (h0 : is_A σ a0 5) (g1 : is_O σ e1 6) {r : (Int32 × Sg)} (hf : f_X5_bringBack N a0 e1 σ = some r) : Ct yX5_bringBack cX5_bringBack 2 (some .int) 2 48 0 0 [vr (some a0), vr e1] σ (fun r_ τ_ => (r_ = some (vi r.1)) ∧ τ_ = r.2 ∧ sg_T τ_ ∧ sg_E σ τ_) := by
  refine Ct.of (by decide +kernel) (Nat.le_of_ble_eq_true rfl) (fun Γ C1 => ?_)
  have C0 := C1.1
  have hE : sg_E σ σ := sg_E.rf
  unfold f_X5_bringBack at hf
  show J_ Γ 0 [(0, vr (some a0)), (1, vr (e1))] [] σ 0 0
  refine J_aload_n (q := 1) C0 0 rfl rfl dX5_bringBack_0 rfl trivial ?_
  refine J_getI (q := 4) C0 fl_X5_21_5 rfl (h0) rfl dX5_bringBack_1 rfl ?_
  refine J_iconst (q := 5) (v := 1) C0 dX5_bringBack_4 rfl rfl ?_
  refine J_icmp_ge (t := 10) (q := 8) C0 dX5_bringBack_5 (by decide) rfl hf (fun c1 hf => ?_) (fun c1 hf => ?_)
  · refine J_aload_n (q := 11) C0 0 rfl rfl dX5_bringBack_10 rfl trivial ?_
    refine J_aload_n (q := 12) C0 0 rfl rfl dX5_bringBack_11 rfl trivial ?_
    refine J_getI (q := 15) C0 fl_X5_17_5 rfl (h0) rfl dX5_bringBack_12 rfl ?_
    refine J_iconst (q := 16) (v := 1) C0 dX5_bringBack_15 rfl rfl ?_
    refine J_isub (q := 17) C0 dX5_bringBack_16 rfl ?_
    refine J_bipush (q := 19) (v := 40) C0 dX5_bringBack_17 rfl rfl ?_
    refine K_some hf (fun p2 hp2 hf => ?_)
    refine J_callSN (q := 22) (as := [vi ((sg_I σ a0 1) - (1)), vi (40)]) (rest := [vr (some a0)]) C0 (t_X11_round ((sg_I σ a0 1) - (1)) (40)  hp2) ml_X11_round lk_X5_25 sm_X11_round dX5_bringBack_19 rfl rfl rfl (by simp [ac_]) C1.room (by decide) (by decide) (by decide) (by decide) (fun r_ τ_ hQ => ?_)
    obtain ⟨rfl, ht_⟩ := hQ; have ht_ := ht_.symm; subst ht_
    show J_ Γ 22 [(0, vr (some a0)), (1, vr (e1))] [vi (p2), vr (some a0)] σ 0 0
    refine J_putI (q := 25) C0 fl_X5_17_5 rfl (h0) rfl dX5_bringBack_22 rfl ?_
    refine J_aload_n (q := 26) C0 1 rfl rfl dX5_bringBack_25 rfl trivial ?_
    refine J_aload_n (q := 27) C0 0 rfl rfl dX5_bringBack_26 rfl trivial ?_
    refine J_getR (q := 30) C0 fl_X5_11_5 rfl ((h0).putI) rfl dX5_bringBack_27 rfl ?_
    refine J_aload_n (q := 31) C0 0 rfl rfl dX5_bringBack_30 rfl trivial ?_
    refine J_getI (q := 34) C0 fl_X5_17_5 rfl ((h0).putI) rfl dX5_bringBack_31 rfl ?_
    refine J_bipush (q := 36) (v := 40) C0 dX5_bringBack_34 rfl rfl ?_
    refine K_some hf (fun p3 hp3 hf => ?_)
    refine J_callSN (q := 39) (as := [vi (sg_I (put_I σ a0 1 (p2)) a0 1), vi (40)]) (rest := [vr (sg_R (put_I σ a0 1 (p2)) a0 0), vr (e1)]) C0 (t_X11_round (sg_I (put_I σ a0 1 (p2)) a0 1) (40)  hp3) ml_X11_round lk_X5_25 sm_X11_round dX5_bringBack_36 rfl rfl rfl (by simp [ac_]) C1.room (by decide) (by decide) (by decide) (by decide) (fun r_ τ_ hQ => ?_)
    obtain ⟨rfl, ht_⟩ := hQ; have ht_ := ht_.symm; subst ht_
    show J_ Γ 39 [(0, vr (some a0)), (1, vr (e1))] [vi (p3), vr (sg_R (put_I σ a0 1 (p2)) a0 0), vr (e1)] (put_I σ a0 1 (p2)) 0 0
    refine K_some hf (fun b4 hb4 hf => ?_)
    have ab4 : is_A (put_I σ a0 1 (p2)) b4 16 := ((sg_T.op (hT).putI (j := 0) ((h0).putI) rfl)) b4 hb4
    refine K_chk hf (fun c5 hf => ?_)
    refine J_aald (q := 40) C0 hb4 (ab4) (by decide) c5 dX5_bringBack_39 rfl ?_
    refine K_some hf (fun b6 hb6 hf => ?_)
    have ab6 : is_A (put_I σ a0 1 (p2)) b6 6 := ((fun b_ h_ => (g1 b_ h_).putI)) b6 hb6
    refine K_some hf (fun p7 hp7 hf => ?_)
    refine J_callV (q := 43) (ci := 6) (as := [vr (sg_R (put_I σ a0 1 (p2)) b4 (p3).toNatClampNeg)]) (rest := []) C0 hb6 (ab6) (t_X7_copyFrom N b6 (sg_R (put_I σ a0 1 (p2)) b4 (p3).toNatClampNeg) ((hT).putI) (ab6) ((sg_T.op (hT).putI (j := (p3).toNatClampNeg) (ab4) rfl)) hp7) ml_X7_copyFrom lk_X5_29 im_X7_copyFrom se_X7_copyFrom rfl (by decide) dX5_bringBack_40 rfl rfl rfl (by simp [ac_]) C1.room (by decide) (by decide) (by decide) (by decide) (fun r_ τ_ hQ => ?_)
    obtain ⟨rfl, ht_, Tp7, Ep7⟩ := hQ; have ht_ := ht_.symm; subst ht_
    show J_ Γ 43 [(0, vr (some a0)), (1, vr (e1))] [] p7 0 0
    refine J_aload_n (q := 44) C0 0 rfl rfl dX5_bringBack_43 rfl trivial ?_
    refine J_dup (q := 45) C0 dX5_bringBack_44 rfl rfl ?_
    refine J_getI (q := 48) C0 fl_X5_21_5 rfl ((Ep7.at (h0).putI)) rfl dX5_bringBack_45 rfl ?_
    refine J_iconst (q := 49) (v := 1) C0 dX5_bringBack_48 rfl rfl ?_
    refine J_isub (q := 50) C0 dX5_bringBack_49 rfl ?_
    refine J_putI (q := 53) C0 fl_X5_21_5 rfl ((Ep7.at (h0).putI)) rfl dX5_bringBack_50 rfl ?_
    refine J_aload_n (q := 54) C0 0 rfl rfl dX5_bringBack_53 rfl trivial ?_
    refine J_getI (q := 57) C0 fl_X5_21_5 rfl (((Ep7.at (h0).putI)).putI) rfl dX5_bringBack_54 rfl ?_
    obtain rfl := Option.some.inj hf; exact J_iret C1 dX5_bringBack_57 rfl (Nat.zero_le _) (Nat.zero_le _) ⟨rfl, rfl, (Tp7).putI, (((hE).putI).tr Ep7).putI⟩
  · refine J_iconst (q := 9) (v := (-1)) C0 dX5_bringBack_8 rfl rfl ?_
    obtain rfl := Option.some.inj hf; exact J_iret C1 dX5_bringBack_9 rfl (Nat.zero_le _) (Nat.zero_le _) ⟨rfl, rfl, hT, hE⟩
def f_X6_start (a0 : Nat) (e1 : Option Nat) (x2 : Int32) (σ : Sg) : Option Sg :=
  Option.bind (e1) fun b1 =>
  Option.bind (f_J9_min_7cf53 (x2) (Int32.ofNat (sg_L (put_R σ a0 0 (e1)) b1)) ) fun p2 =>
  some (put_I (put_I (put_R σ a0 0 (e1)) a0 1 (p2)) a0 2 (0))
set_option maxHeartbeats 4000000 in
set_option maxRecDepth 100000 in
theorem t_X6_start_k1 (a0 : Nat) (e1 : Option Nat) (x2 : Int32) {σ : Sg} (hT : sg_T σ) (h0 : is_A σ a0 1) (g1 : is_O σ e1 12) {r : Sg} (hf : f_X6_start a0 e1 x2 σ = some r) : Ct yX6_start cX6_start 3 none 1 21 0 0 [vr (some a0), vr e1, vi x2] σ (fun r_ τ_ => (r_ = none) ∧ τ_ = r ∧ sg_T τ_ ∧ sg_E σ τ_) := by
  refine Ct.of (by decide +kernel) (Nat.le_of_ble_eq_true rfl) (fun Γ C1 => ?_)
  have C0 := C1.1
  have hE : sg_E σ σ := sg_E.rf
  unfold f_X6_start at hf
  show J_ Γ 0 [(0, vr (some a0)), (1, vr (e1)), (2, vi (x2))] [] σ 0 0
  refine J_aload_n (q := 1) C0 0 rfl rfl dX6_start_0 rfl trivial ?_
  refine J_aload_n (q := 2) C0 1 rfl rfl dX6_start_1 rfl trivial ?_
  refine J_putR (q := 5) C0 rfl fl_X6_9_1 rfl (h0) rfl dX6_start_2 rfl ?_
  refine J_aload_n (q := 6) C0 0 rfl rfl dX6_start_5 rfl trivial ?_
  refine J_iload_n (q := 7) C0 2 rfl rfl dX6_start_6 rfl ?_
  refine J_aload_n (q := 8) C0 1 rfl rfl dX6_start_7 rfl trivial ?_
  refine K_some hf (fun b1 hb1 hf => ?_)
  have ab1 : is_A (put_R σ a0 0 (e1)) b1 12 := ((fun b_ h_ => (g1 b_ h_).putR)) b1 hb1
  refine J_alen (q := 9) C0 hb1 (ab1) (by decide) dX6_start_8 rfl ?_
  refine K_some hf (fun p2 hp2 hf => ?_)
  refine J_callS (q := 12) (as := [vi (x2), vi (Int32.ofNat (sg_L (put_R σ a0 0 (e1)) b1))]) (rest := [vr (some a0)]) C0 (t_J9_min_7cf53 (x2) (Int32.ofNat (sg_L (put_R σ a0 0 (e1)) b1))  hp2) ml_J9_min_7cf53 lk_X6_22 sm_J9_min_7cf53 dX6_start_9 rfl rfl rfl (by simp [ac_]) C1.room (by decide) (by decide) (by decide) (by decide) (fun r_ τ_ hQ => ?_)
  obtain ⟨rfl, ht_⟩ := hQ; have ht_ := ht_.symm; subst ht_
  show J_ Γ 12 [(0, vr (some a0)), (1, vr (e1)), (2, vi (x2))] [vi (p2), vr (some a0)] (put_R σ a0 0 (e1)) 0 0
  refine J_putI (q := 15) C0 fl_X6_15_1 rfl ((h0).putR) rfl dX6_start_12 rfl ?_
  refine J_aload_n (q := 16) C0 0 rfl rfl dX6_start_15 rfl trivial ?_
  refine J_iconst (q := 17) (v := 0) C0 dX6_start_16 rfl rfl ?_
  refine J_putI (q := 20) C0 fl_X6_19_1 rfl (((h0).putR).putI) rfl dX6_start_17 rfl ?_
  obtain rfl := Option.some.inj hf; exact J_vret C1 dX6_start_20 rfl (Nat.zero_le _) (Nat.zero_le _) ⟨rfl, rfl, (((sg_T.putR hT (by rw [(h0).2]; exact g1))).putI).putI, (((hE).putR).putI).putI⟩
set_option maxHeartbeats 4000000 in
set_option maxRecDepth 100000 in
theorem t_X6_start_k3 (a0 : Nat) (e1 : Option Nat) (x2 : Int32) {σ : Sg} (hT : sg_T σ) (h0 : is_A σ a0 3) (g1 : is_O σ e1 12) {r : Sg} (hf : f_X6_start a0 e1 x2 σ = some r) : Ct yX6_start cX6_start 3 none 1 21 0 0 [vr (some a0), vr e1, vi x2] σ (fun r_ τ_ => (r_ = none) ∧ τ_ = r ∧ sg_T τ_ ∧ sg_E σ τ_) := by
  refine Ct.of (by decide +kernel) (Nat.le_of_ble_eq_true rfl) (fun Γ C1 => ?_)
  have C0 := C1.1
  have hE : sg_E σ σ := sg_E.rf
  unfold f_X6_start at hf
  show J_ Γ 0 [(0, vr (some a0)), (1, vr (e1)), (2, vi (x2))] [] σ 0 0
  refine J_aload_n (q := 1) C0 0 rfl rfl dX6_start_0 rfl trivial ?_
  refine J_aload_n (q := 2) C0 1 rfl rfl dX6_start_1 rfl trivial ?_
  refine J_putR (q := 5) C0 rfl fl_X6_9_3 rfl (h0) rfl dX6_start_2 rfl ?_
  refine J_aload_n (q := 6) C0 0 rfl rfl dX6_start_5 rfl trivial ?_
  refine J_iload_n (q := 7) C0 2 rfl rfl dX6_start_6 rfl ?_
  refine J_aload_n (q := 8) C0 1 rfl rfl dX6_start_7 rfl trivial ?_
  refine K_some hf (fun b1 hb1 hf => ?_)
  have ab1 : is_A (put_R σ a0 0 (e1)) b1 12 := ((fun b_ h_ => (g1 b_ h_).putR)) b1 hb1
  refine J_alen (q := 9) C0 hb1 (ab1) (by decide) dX6_start_8 rfl ?_
  refine K_some hf (fun p2 hp2 hf => ?_)
  refine J_callS (q := 12) (as := [vi (x2), vi (Int32.ofNat (sg_L (put_R σ a0 0 (e1)) b1))]) (rest := [vr (some a0)]) C0 (t_J9_min_7cf53 (x2) (Int32.ofNat (sg_L (put_R σ a0 0 (e1)) b1))  hp2) ml_J9_min_7cf53 lk_X6_22 sm_J9_min_7cf53 dX6_start_9 rfl rfl rfl (by simp [ac_]) C1.room (by decide) (by decide) (by decide) (by decide) (fun r_ τ_ hQ => ?_)
  obtain ⟨rfl, ht_⟩ := hQ; have ht_ := ht_.symm; subst ht_
  show J_ Γ 12 [(0, vr (some a0)), (1, vr (e1)), (2, vi (x2))] [vi (p2), vr (some a0)] (put_R σ a0 0 (e1)) 0 0
  refine J_putI (q := 15) C0 fl_X6_15_3 rfl ((h0).putR) rfl dX6_start_12 rfl ?_
  refine J_aload_n (q := 16) C0 0 rfl rfl dX6_start_15 rfl trivial ?_
  refine J_iconst (q := 17) (v := 0) C0 dX6_start_16 rfl rfl ?_
  refine J_putI (q := 20) C0 fl_X6_19_3 rfl (((h0).putR).putI) rfl dX6_start_17 rfl ?_
  obtain rfl := Option.some.inj hf; exact J_vret C1 dX6_start_20 rfl (Nat.zero_le _) (Nat.zero_le _) ⟨rfl, rfl, (((sg_T.putR hT (by rw [(h0).2]; exact g1))).putI).putI, (((hE).putR).putI).putI⟩
set_option maxHeartbeats 4000000 in
set_option maxRecDepth 100000 in
theorem t_X6_start_k8 (a0 : Nat) (e1 : Option Nat) (x2 : Int32) {σ : Sg} (hT : sg_T σ) (h0 : is_A σ a0 8) (g1 : is_O σ e1 12) {r : Sg} (hf : f_X6_start a0 e1 x2 σ = some r) : Ct yX6_start cX6_start 3 none 1 21 0 0 [vr (some a0), vr e1, vi x2] σ (fun r_ τ_ => (r_ = none) ∧ τ_ = r ∧ sg_T τ_ ∧ sg_E σ τ_) := by
  refine Ct.of (by decide +kernel) (Nat.le_of_ble_eq_true rfl) (fun Γ C1 => ?_)
  have C0 := C1.1
  have hE : sg_E σ σ := sg_E.rf
  unfold f_X6_start at hf
  show J_ Γ 0 [(0, vr (some a0)), (1, vr (e1)), (2, vi (x2))] [] σ 0 0
  refine J_aload_n (q := 1) C0 0 rfl rfl dX6_start_0 rfl trivial ?_
  refine J_aload_n (q := 2) C0 1 rfl rfl dX6_start_1 rfl trivial ?_
  refine J_putR (q := 5) C0 rfl fl_X6_9_8 rfl (h0) rfl dX6_start_2 rfl ?_
  refine J_aload_n (q := 6) C0 0 rfl rfl dX6_start_5 rfl trivial ?_
  refine J_iload_n (q := 7) C0 2 rfl rfl dX6_start_6 rfl ?_
  refine J_aload_n (q := 8) C0 1 rfl rfl dX6_start_7 rfl trivial ?_
  refine K_some hf (fun b1 hb1 hf => ?_)
  have ab1 : is_A (put_R σ a0 0 (e1)) b1 12 := ((fun b_ h_ => (g1 b_ h_).putR)) b1 hb1
  refine J_alen (q := 9) C0 hb1 (ab1) (by decide) dX6_start_8 rfl ?_
  refine K_some hf (fun p2 hp2 hf => ?_)
  refine J_callS (q := 12) (as := [vi (x2), vi (Int32.ofNat (sg_L (put_R σ a0 0 (e1)) b1))]) (rest := [vr (some a0)]) C0 (t_J9_min_7cf53 (x2) (Int32.ofNat (sg_L (put_R σ a0 0 (e1)) b1))  hp2) ml_J9_min_7cf53 lk_X6_22 sm_J9_min_7cf53 dX6_start_9 rfl rfl rfl (by simp [ac_]) C1.room (by decide) (by decide) (by decide) (by decide) (fun r_ τ_ hQ => ?_)
  obtain ⟨rfl, ht_⟩ := hQ; have ht_ := ht_.symm; subst ht_
  show J_ Γ 12 [(0, vr (some a0)), (1, vr (e1)), (2, vi (x2))] [vi (p2), vr (some a0)] (put_R σ a0 0 (e1)) 0 0
  refine J_putI (q := 15) C0 fl_X6_15_8 rfl ((h0).putR) rfl dX6_start_12 rfl ?_
  refine J_aload_n (q := 16) C0 0 rfl rfl dX6_start_15 rfl trivial ?_
  refine J_iconst (q := 17) (v := 0) C0 dX6_start_16 rfl rfl ?_
  refine J_putI (q := 20) C0 fl_X6_19_8 rfl (((h0).putR).putI) rfl dX6_start_17 rfl ?_
  obtain rfl := Option.some.inj hf; exact J_vret C1 dX6_start_20 rfl (Nat.zero_le _) (Nat.zero_le _) ⟨rfl, rfl, (((sg_T.putR hT (by rw [(h0).2]; exact g1))).putI).putI, (((hE).putR).putI).putI⟩
def f_X7_addRow (a0 : Nat) (x1 : Int32) (σ : Sg) : Option Sg :=
  Option.bind (f_X11_round (sg_I σ a0 7) (60) ) fun p1 =>
  Option.bind (sg_R σ a0 6) fun b2 =>
  if (p1) < 0 ∨ sg_L σ b2 ≤ (p1).toNatClampNeg then none else
  some (put_I (put_I σ b2 (p1).toNatClampNeg (x1)) a0 7 ((sg_I (put_I σ b2 (p1).toNatClampNeg (x1)) a0 7) + (1)))
set_option maxHeartbeats 4000000 in
set_option maxRecDepth 100000 in
theorem t_X7_addRow (a0 : Nat) (x1 : Int32) {σ : Sg} (hT : sg_T σ) (h0 : is_A σ a0 6) {r : Sg} (hf : f_X7_addRow a0 x1 σ = some r) : Ct yX7_addRow cX7_addRow 2 none 2 43 0 0 [vr (some a0), vi x1] σ (fun r_ τ_ => (r_ = none) ∧ τ_ = r ∧ sg_T τ_ ∧ sg_E σ τ_) := by
  refine Ct.of (by decide +kernel) (Nat.le_of_ble_eq_true rfl) (fun Γ C1 => ?_)
  have C0 := C1.1
  have hE : sg_E σ σ := sg_E.rf
  unfold f_X7_addRow at hf
  show J_ Γ 0 [(0, vr (some a0)), (1, vi (x1))] [] σ 0 0
  refine J_aload_n (q := 1) C0 0 rfl rfl dX7_addRow_0 rfl trivial ?_
  refine J_getR (q := 4) C0 fl_X7_33_6 rfl (h0) rfl dX7_addRow_1 rfl ?_
  refine J_aload_n (q := 5) C0 0 rfl rfl dX7_addRow_4 rfl trivial ?_
  refine J_getI (q := 8) C0 fl_X7_37_6 rfl (h0) rfl dX7_addRow_5 rfl ?_
  refine J_bipush (q := 10) (v := 60) C0 dX7_addRow_8 rfl rfl ?_
  refine K_some hf (fun p1 hp1 hf => ?_)
  refine J_callSN (q := 13) (as := [vi (sg_I σ a0 7), vi (60)]) (rest := [vr (sg_R σ a0 6)]) C0 (t_X11_round (sg_I σ a0 7) (60)  hp1) ml_X11_round lk_X7_51 sm_X11_round dX7_addRow_10 rfl rfl rfl (by simp [ac_]) C1.room (by decide) (by decide) (by decide) (by decide) (fun r_ τ_ hQ => ?_)
  obtain ⟨rfl, ht_⟩ := hQ; have ht_ := ht_.symm; subst ht_
  show J_ Γ 13 [(0, vr (some a0)), (1, vi (x1))] [vi (p1), vr (sg_R σ a0 6)] σ 0 0
  refine J_iload_n (q := 14) C0 1 rfl rfl dX7_addRow_13 rfl ?_
  refine K_some hf (fun b2 hb2 hf => ?_)
  have ab2 : is_A σ b2 12 := ((sg_T.op hT (j := 6) (h0) rfl)) b2 hb2
  refine K_chk hf (fun c3 hf => ?_)
  refine J_iast (q := 15) C0 hb2 (ab2) c3 dX7_addRow_14 rfl ?_
  refine J_aload_n (q := 16) C0 0 rfl rfl dX7_addRow_15 rfl trivial ?_
  refine J_dup (q := 17) C0 dX7_addRow_16 rfl rfl ?_
  refine J_getI (q := 20) C0 fl_X7_37_6 rfl ((h0).putI) rfl dX7_addRow_17 rfl ?_
  refine J_iconst (q := 21) (v := 1) C0 dX7_addRow_20 rfl rfl ?_
  refine J_iadd (q := 22) C0 dX7_addRow_21 rfl ?_
  refine J_putI (q := 25) C0 fl_X7_37_6 rfl ((h0).putI) rfl dX7_addRow_22 rfl ?_
  obtain rfl := Option.some.inj hf; exact J_vret C1 dX7_addRow_25 rfl (Nat.zero_le _) (Nat.zero_le _) ⟨rfl, rfl, ((hT).putI).putI, ((hE).putI).putI⟩
def f_X7_rowCount (a0 : Nat) (σ : Sg) : Option Int32 :=
  Option.bind (f_J9_min_7cf53 (60) (sg_I σ a0 7) ) fun p1 =>
  some (p1)
set_option maxHeartbeats 4000000 in
set_option maxRecDepth 100000 in
theorem t_X7_rowCount (a0 : Nat) {σ : Sg} (h0 : is_A σ a0 6) {r : Int32} (hf : f_X7_rowCount a0  σ = some r) : Ct yX7_rowCount cX7_rowCount 1 (some .int) 1 21 0 0 [vr (some a0)] σ (fun r_ τ_ => (r_ = some (vi r)) ∧ τ_ = σ) := by
  refine Ct.of (by decide +kernel) (Nat.le_of_ble_eq_true rfl) (fun Γ C1 => ?_)
  have C0 := C1.1
  unfold f_X7_rowCount at hf
  show J_ Γ 0 [(0, vr (some a0))] [] σ 0 0
  refine J_bipush (q := 2) (v := 60) C0 dX7_rowCount_0 rfl rfl ?_
  refine J_aload_n (q := 3) C0 0 rfl rfl dX7_rowCount_2 rfl trivial ?_
  refine J_getI (q := 6) C0 fl_X7_37_6 rfl (h0) rfl dX7_rowCount_3 rfl ?_
  refine K_some hf (fun p1 hp1 hf => ?_)
  refine J_callS (q := 9) (as := [vi (60), vi (sg_I σ a0 7)]) (rest := []) C0 (t_J9_min_7cf53 (60) (sg_I σ a0 7)  hp1) ml_J9_min_7cf53 lk_X7_55 sm_J9_min_7cf53 dX7_rowCount_6 rfl rfl rfl (by simp [ac_]) C1.room (by decide) (by decide) (by decide) (by decide) (fun r_ τ_ hQ => ?_)
  obtain ⟨rfl, ht_⟩ := hQ; have ht_ := ht_.symm; subst ht_
  show J_ Γ 9 [(0, vr (some a0))] [vi (p1)] σ 0 0
  obtain rfl := Option.some.inj hf; exact J_iret C1 dX7_rowCount_9 rfl (Nat.zero_le _) (Nat.zero_le _) ⟨rfl, rfl⟩
def f_X7_rowBefore (a0 : Nat) (x1 : Int32) (σ : Sg) : Option Int32 :=
  Option.bind (f_X11_round (((sg_I σ a0 7) - (1)) - (x1)) (60) ) fun p1 =>
  Option.bind (sg_R σ a0 6) fun b2 =>
  if (p1) < 0 ∨ sg_L σ b2 ≤ (p1).toNatClampNeg then none else
  some (sg_I σ b2 (p1).toNatClampNeg)
set_option maxHeartbeats 4000000 in
set_option maxRecDepth 100000 in
theorem t_X7_rowBefore (a0 : Nat) (x1 : Int32) {σ : Sg} (hT : sg_T σ) (h0 : is_A σ a0 6) {r : Int32} (hf : f_X7_rowBefore a0 x1 σ = some r) : Ct yX7_rowBefore cX7_rowBefore 2 (some .int) 2 43 0 0 [vr (some a0), vi x1] σ (fun r_ τ_ => (r_ = some (vi r)) ∧ τ_ = σ) := by
  refine Ct.of (by decide +kernel) (Nat.le_of_ble_eq_true rfl) (fun Γ C1 => ?_)
  have C0 := C1.1
  unfold f_X7_rowBefore at hf
  show J_ Γ 0 [(0, vr (some a0)), (1, vi (x1))] [] σ 0 0
  refine J_aload_n (q := 1) C0 0 rfl rfl dX7_rowBefore_0 rfl trivial ?_
  refine J_getR (q := 4) C0 fl_X7_33_6 rfl (h0) rfl dX7_rowBefore_1 rfl ?_
  refine J_aload_n (q := 5) C0 0 rfl rfl dX7_rowBefore_4 rfl trivial ?_
  refine J_getI (q := 8) C0 fl_X7_37_6 rfl (h0) rfl dX7_rowBefore_5 rfl ?_
  refine J_iconst (q := 9) (v := 1) C0 dX7_rowBefore_8 rfl rfl ?_
  refine J_isub (q := 10) C0 dX7_rowBefore_9 rfl ?_
  refine J_iload_n (q := 11) C0 1 rfl rfl dX7_rowBefore_10 rfl ?_
  refine J_isub (q := 12) C0 dX7_rowBefore_11 rfl ?_
  refine J_bipush (q := 14) (v := 60) C0 dX7_rowBefore_12 rfl rfl ?_
  refine K_some hf (fun p1 hp1 hf => ?_)
  refine J_callSN (q := 17) (as := [vi (((sg_I σ a0 7) - (1)) - (x1)), vi (60)]) (rest := [vr (sg_R σ a0 6)]) C0 (t_X11_round (((sg_I σ a0 7) - (1)) - (x1)) (60)  hp1) ml_X11_round lk_X7_51 sm_X11_round dX7_rowBefore_14 rfl rfl rfl (by simp [ac_]) C1.room (by decide) (by decide) (by decide) (by decide) (fun r_ τ_ hQ => ?_)
  obtain ⟨rfl, ht_⟩ := hQ; have ht_ := ht_.symm; subst ht_
  show J_ Γ 17 [(0, vr (some a0)), (1, vi (x1))] [vi (p1), vr (sg_R σ a0 6)] σ 0 0
  refine K_some hf (fun b2 hb2 hf => ?_)
  have ab2 : is_A σ b2 12 := ((sg_T.op hT (j := 6) (h0) rfl)) b2 hb2
  refine K_chk hf (fun c3 hf => ?_)
  refine J_iald (q := 18) C0 hb2 (ab2) c3 dX7_rowBefore_17 rfl ?_
  obtain rfl := Option.some.inj hf; exact J_iret C1 dX7_rowBefore_18 rfl (Nat.zero_le _) (Nat.zero_le _) ⟨rfl, rfl⟩
def f_X8_has_B42 (N : Nat) (a0 : Nat) (k14 : Int32 → Int32 → Option Nat → Int32 → Int32 → Option Int32) (v1 : Int32) (v3 : Option Nat) (v4 : Int32) (v5 : Int32) (s0 : Int32) (σ : Sg) : Option Int32 :=
  k14 (v1) (s0) (v3) (v4) (v5 + 1)
def f_X8_has_B37 (N : Nat) (a0 : Nat) (k14 : Int32 → Int32 → Option Nat → Int32 → Int32 → Option Int32) (v1 : Int32) (v3 : Option Nat) (v4 : Int32) (v5 : Int32) (σ : Sg) : Option Int32 :=
  f_X8_has_B42 N a0 k14 (v1) (v3) (v4) (v5) (1) σ
def f_X8_has_L14 (N : Nat) (a0 : Nat) : Nat → Int32 → Int32 → Option Nat → Int32 → Int32 → Sg → Option Int32
  | 0, _, _, _, _, _, _ => none
  | n + 1, v1, v2, v3, v4, v5, σ =>
  if (v5) < (v4) then
  (Option.bind (v3) fun b4 =>
  if (v5) < 0 ∨ sg_L σ b4 ≤ (v5).toNatClampNeg then none else
  if (v2) = (0) then
  (if (sg_I σ b4 (v5).toNatClampNeg) = (v1) then
  (f_X8_has_B37 N a0 (fun v1 v2 v3 v4 v5 => f_X8_has_L14 N a0 n v1 v2 v3 v4 v5 σ) (v1) (v3) (v4) (v5) σ)
  else
  (f_X8_has_B42 N a0 (fun v1 v2 v3 v4 v5 => f_X8_has_L14 N a0 n v1 v2 v3 v4 v5 σ) (v1) (v3) (v4) (v5) (0) σ))
  else
  (f_X8_has_B37 N a0 (fun v1 v2 v3 v4 v5 => f_X8_has_L14 N a0 n v1 v2 v3 v4 v5 σ) (v1) (v3) (v4) (v5) σ))
  else
  (if ¬ ((v2) = 0 ∨ (v2) = 1) then none else
  some (v2))
def f_X8_has (N : Nat) (a0 : Nat) (x1 : Int32) (σ : Sg) : Option Int32 :=
  Option.bind (sg_R σ a0 0) fun b1 =>
  f_X8_has_L14 N a0 N (x1) (0) (sg_R σ a0 0) (Int32.ofNat (sg_L σ b1)) (0) σ
set_option maxHeartbeats 4000000 in
set_option maxRecDepth 100000 in
theorem t_X8_has_B42 {N : Nat} {a0 : Nat} {Γ : Gm} {σ : Sg} {r : Int32} (C1 : CM Γ cX8_has RX8 7 (some .boolean) 0 0 0 0 (fun r_ τ_ => (r_ = some (vi r) ∧ (r = 0 ∨ r = 1)) ∧ τ_ = σ)) (hT : sg_T σ) (h0 : is_A σ a0 7) (k14 : Int32 → Int32 → Option Nat → Int32 → Int32 → Option Int32) (hk14 : ∀ (v1 : Int32) (v2 : Int32) (v3 : Option Nat) (v4 : Int32) (v5 : Int32) , is_O σ v3 12 → k14 v1 v2 v3 v4 v5 = some r → J_ Γ 14 [(0, vr (some a0)), (1, vi v1), (2, vi v2), (3, vr v3), (4, vi v4), (5, vi v5)] [] σ 0 0) (v1 : Int32) (v3 : Option Nat) (v4 : Int32) (v5 : Int32) (s0 : Int32) (g_v3 : is_O σ v3 12) (hf : f_X8_has_B42 N a0 k14  v1 v3 v4 v5 s0 σ = some r) : J_ Γ 42 [(0, vr (some a0)), (1, vi (v1)), (3, vr (v3)), (4, vi (v4)), (5, vi (v5))] [vi (s0)] σ 0 0 := by
  have C0 := C1.1
  unfold f_X8_has_B42 at hf
  refine J_istore_n (q := 43) (lv' := [(2, vi (s0)), (0, vr (some a0)), (1, vi (v1)), (3, vr (v3)), (4, vi (v4)), (5, vi (v5))]) C0 rfl (G_nl C1 (by decide)) dX8_has_42 rfl rfl ?_
  refine J_iinc (q := 46) (v := v5 + 1) (lv' := [(5, vi (v5 + 1)), (2, vi (s0)), (0, vr (some a0)), (1, vi (v1)), (3, vr (v3)), (4, vi (v4))]) C0 5 rfl rfl (G_nl C1 (by decide)) dX8_has_43 rfl rfl ?_
  refine J_goto (q := 14) C0 dX8_has_46 (by decide) ?_
  refine J_sub (lv' := [(0, vr (some a0)), (1, vi (v1)), (2, vi (s0)), (3, vr (v3)), (4, vi (v4)), (5, vi (v5 + 1))]) [2, 3, 1, 4, 5, 0] rfl ?_
  exact hk14 (v1) (s0) (v3) (v4) (v5 + 1) (g_v3) hf
set_option maxHeartbeats 4000000 in
set_option maxRecDepth 100000 in
theorem t_X8_has_B37 {N : Nat} {a0 : Nat} {Γ : Gm} {σ : Sg} {r : Int32} (C1 : CM Γ cX8_has RX8 7 (some .boolean) 0 0 0 0 (fun r_ τ_ => (r_ = some (vi r) ∧ (r = 0 ∨ r = 1)) ∧ τ_ = σ)) (hT : sg_T σ) (h0 : is_A σ a0 7) (k14 : Int32 → Int32 → Option Nat → Int32 → Int32 → Option Int32) (hk14 : ∀ (v1 : Int32) (v2 : Int32) (v3 : Option Nat) (v4 : Int32) (v5 : Int32) , is_O σ v3 12 → k14 v1 v2 v3 v4 v5 = some r → J_ Γ 14 [(0, vr (some a0)), (1, vi v1), (2, vi v2), (3, vr v3), (4, vi v4), (5, vi v5)] [] σ 0 0) (v1 : Int32) (v3 : Option Nat) (v4 : Int32) (v5 : Int32) (g_v3 : is_O σ v3 12) (hf : f_X8_has_B37 N a0 k14  v1 v3 v4 v5 σ = some r) : J_ Γ 37 [(0, vr (some a0)), (1, vi (v1)), (3, vr (v3)), (4, vi (v4)), (5, vi (v5))] [] σ 0 0 := by
  have C0 := C1.1
  unfold f_X8_has_B37 at hf
  refine J_iconst (q := 38) (v := 1) C0 dX8_has_37 rfl rfl ?_
  refine J_goto (q := 42) C0 dX8_has_38 (by decide) ?_
  exact t_X8_has_B42 C1 (hT) (h0) k14  hk14  (v1) (v3) (v4) (v5) (1) (g_v3) hf
set_option maxHeartbeats 4000000 in
set_option maxRecDepth 100000 in
theorem t_X8_has_L14 {N : Nat} {a0 : Nat} {Γ : Gm} {σ : Sg} {r : Int32} (C1 : CM Γ cX8_has RX8 7 (some .boolean) 0 0 0 0 (fun r_ τ_ => (r_ = some (vi r) ∧ (r = 0 ∨ r = 1)) ∧ τ_ = σ)) (hT : sg_T σ) (h0 : is_A σ a0 7) : ∀ (n : Nat) (v1 : Int32) (v2 : Int32) (v3 : Option Nat) (v4 : Int32) (v5 : Int32), is_O σ v3 12 → f_X8_has_L14 N a0  n v1 v2 v3 v4 v5 σ = some r → J_ Γ 14 [(0, vr (some a0)), (1, vi (v1)), (2, vi (v2)), (3, vr (v3)), (4, vi (v4)), (5, vi (v5))] [] σ 0 0 := by
  have C0 := C1.1
  intro n
  induction n with
  | zero => intro v1 v2 v3 v4 v5 g_v3 hf; unfold f_X8_has_L14 at hf; cases hf
  | succ n ih =>
    intro v1 v2 v3 v4 v5 g_v3 hf
    rw [f_X8_has_L14] at hf
    refine J_iload (q := 16) C0 5 rfl dX8_has_14 rfl ?_
    refine J_iload (q := 18) C0 4 rfl dX8_has_16 rfl ?_
    refine J_icmp_ge (t := 49) (q := 21) C0 dX8_has_18 (by decide) rfl hf (fun c2 hf => ?_) (fun c2 hf => ?_)
    · refine J_iload_n (q := 50) C0 2 rfl rfl dX8_has_49 rfl ?_
      refine K_chk hf (fun c3 hf => ?_)
      obtain rfl := Option.some.inj hf; exact J_zret C1 dX8_has_50 rfl (Decidable.not_not.mp c3) (Nat.zero_le _) (Nat.zero_le _) ⟨⟨rfl, (Decidable.not_not.mp c3)⟩, rfl⟩
    · refine J_aload_n (q := 22) C0 3 rfl rfl dX8_has_21 rfl trivial ?_
      refine J_iload (q := 24) C0 5 rfl dX8_has_22 rfl ?_
      refine K_some hf (fun b4 hb4 hf => ?_)
      have ab4 : is_A σ b4 12 := (g_v3) b4 hb4
      refine K_chk hf (fun c5 hf => ?_)
      refine J_iald (q := 25) C0 hb4 (ab4) c5 dX8_has_24 rfl ?_
      refine J_istore (q := 27) (lv' := [(6, vi (sg_I σ b4 (v5).toNatClampNeg)), (0, vr (some a0)), (1, vi (v1)), (2, vi (v2)), (3, vr (v3)), (4, vi (v4)), (5, vi (v5))]) C0 (G_nl C1 (by decide)) dX8_has_25 rfl rfl ?_
      refine J_iload_n (q := 28) C0 3 rfl rfl dX8_has_27 rfl ?_
      refine J_if_ne (t := 37) (q := 31) C0 dX8_has_28 (by decide) rfl hf (fun c6 hf => ?_) (fun c6 hf => ?_)
      · refine J_sub (lv' := [(0, vr (some a0)), (1, vi (v1)), (3, vr (v3)), (4, vi (v4)), (5, vi (v5))]) [1, 2, 4, 5, 6] rfl ?_
        exact t_X8_has_B37 C1 (hT) (h0) (fun v1 v2 v3 v4 v5 => f_X8_has_L14 N a0 n v1 v2 v3 v4 v5 σ)  ih  (v1) (v3) (v4) (v5) ((by rw [hb4]; exact is_O.some (ab4))) hf
      · refine J_iload (q := 33) C0 0 rfl dX8_has_31 rfl ?_
        refine J_iload_n (q := 34) C0 2 rfl rfl dX8_has_33 rfl ?_
        refine J_icmp_ne (t := 41) (q := 37) C0 dX8_has_34 (by decide) rfl hf (fun c7 hf => ?_) (fun c7 hf => ?_)
        · refine J_iconst (q := 42) (v := 0) C0 dX8_has_41 rfl rfl ?_
          refine J_sub (lv' := [(0, vr (some a0)), (1, vi (v1)), (3, vr (v3)), (4, vi (v4)), (5, vi (v5))]) [1, 2, 4, 5, 6] rfl ?_
          exact t_X8_has_B42 C1 (hT) (h0) (fun v1 v2 v3 v4 v5 => f_X8_has_L14 N a0 n v1 v2 v3 v4 v5 σ)  ih  (v1) (v3) (v4) (v5) (0) ((by rw [hb4]; exact is_O.some (ab4))) hf
        · refine J_sub (lv' := [(0, vr (some a0)), (1, vi (v1)), (3, vr (v3)), (4, vi (v4)), (5, vi (v5))]) [1, 2, 4, 5, 6] rfl ?_
          exact t_X8_has_B37 C1 (hT) (h0) (fun v1 v2 v3 v4 v5 => f_X8_has_L14 N a0 n v1 v2 v3 v4 v5 σ)  ih  (v1) (v3) (v4) (v5) ((by rw [hb4]; exact is_O.some (ab4))) hf
set_option maxHeartbeats 4000000 in
set_option maxRecDepth 100000 in
theorem t_X8_has (N : Nat) (a0 : Nat) (x1 : Int32) {σ : Sg} (hT : sg_T σ) (h0 : is_A σ a0 7) {r : Int32} (hf : f_X8_has N a0 x1 σ = some r) : Ct yX8_has cX8_has 7 (some .boolean) 0 0 0 0 [vr (some a0), vi x1] σ (fun r_ τ_ => (r_ = some (vi r) ∧ (r = 0 ∨ r = 1)) ∧ τ_ = σ) := by
  refine Ct.of (by decide +kernel) (Nat.le_of_ble_eq_true rfl) (fun Γ C1 => ?_)
  have C0 := C1.1
  unfold f_X8_has at hf
  show J_ Γ 0 [(0, vr (some a0)), (1, vi (x1))] [] σ 0 0
  refine J_iconst (q := 1) (v := 0) C0 dX8_has_0 rfl rfl ?_
  refine J_istore_n (q := 2) (lv' := [(2, vi (0)), (0, vr (some a0)), (1, vi (x1))]) C0 rfl (G_nl C1 (by decide)) dX8_has_1 rfl rfl ?_
  refine J_aload_n (q := 3) C0 1 rfl rfl dX8_has_2 rfl trivial ?_
  refine J_getR (q := 6) C0 fl_X8_9_7 rfl (h0) rfl dX8_has_3 rfl ?_
  refine J_astore_n (q := 7) (lv' := [(3, vr (sg_R σ a0 0)), (2, vi (0)), (0, vr (some a0)), (1, vi (x1))]) C0 rfl (G_nl C1 (by decide)) dX8_has_6 rfl trivial rfl ?_
  refine J_aload_n (q := 8) C0 0 rfl rfl dX8_has_7 rfl trivial ?_
  refine K_some hf (fun b1 hb1 hf => ?_)
  have ab1 : is_A σ b1 12 := ((sg_T.op hT (j := 0) (h0) rfl)) b1 hb1
  refine J_alen (q := 9) C0 hb1 (ab1) (by decide) dX8_has_8 rfl ?_
  refine J_istore (q := 11) (lv' := [(4, vi (Int32.ofNat (sg_L σ b1))), (3, vr (sg_R σ a0 0)), (2, vi (0)), (0, vr (some a0)), (1, vi (x1))]) C0 (G_nl C1 (by decide)) dX8_has_9 rfl rfl ?_
  refine J_iconst (q := 12) (v := 0) C0 dX8_has_11 rfl rfl ?_
  refine J_istore (q := 14) (lv' := [(5, vi (0)), (4, vi (Int32.ofNat (sg_L σ b1))), (3, vr (sg_R σ a0 0)), (2, vi (0)), (0, vr (some a0)), (1, vi (x1))]) C0 (G_nl C1 (by decide)) dX8_has_12 rfl rfl ?_
  refine J_sub (lv' := [(0, vr (some a0)), (1, vi (x1)), (2, vi (0)), (3, vr (sg_R σ a0 0)), (4, vi (Int32.ofNat (sg_L σ b1))), (5, vi (0))]) [4, 5, 3, 2, 1, 0] rfl ?_
  exact t_X8_has_L14 C1 (hT) (h0)    N (x1) (0) (sg_R σ a0 0) (Int32.ofNat (sg_L σ b1)) (0) ((by rw [hb1]; exact is_O.some (ab1))) hf
def f_X8_isRow_B57 (N : Nat) (a0 : Nat) (k6 : Option Nat → Int32 → Int32 → Int32 → Int32 → Option Int32) (v1 : Option Nat) (v2 : Int32) (v3 : Int32) (v5 : Int32) (s0 : Int32) (σ : Sg) : Option Int32 :=
  k6 (v1) (v2) (v3) (s0) (v5 + 1)
def f_X8_isRow_B40 (N : Nat) (a0 : Nat) (k6 : Option Nat → Int32 → Int32 → Int32 → Int32 → Option Int32) (v1 : Option Nat) (v2 : Int32) (v3 : Int32) (v5 : Int32) (s0 : Int32) (s1 : Option Nat) (σ : Sg) : Option Int32 :=
  Option.bind (s1) fun b7 =>
  Option.bind (f_X8_shownAt b7 (s0) σ) fun p8 =>
  Option.bind (v1) fun b9 =>
  Option.bind (f_X8_shownAt b9 (v5) σ) fun p10 =>
  if (p8) = (p10) then
  (f_X8_isRow_B57 N a0 k6 (v1) (v2) (v3) (v5) (1) σ)
  else
  (f_X8_isRow_B57 N a0 k6 (v1) (v2) (v3) (v5) (0) σ)
def f_X8_isRow_L6 (N : Nat) (a0 : Nat) : Nat → Option Nat → Int32 → Int32 → Int32 → Int32 → Sg → Option Int32
  | 0, _, _, _, _, _, _ => none
  | n + 1, v1, v2, v3, v4, v5, σ =>
  Option.bind (f_X8_size a0  σ) fun p1 =>
  if (v5) < (p1) then
  (if (v4) = (0) then
  (if ¬ ((v4) = 0 ∨ (v4) = 1) then none else
  some (v4))
  else
  (if (v3) = (0) then
  (f_X8_isRow_B40 N a0 (fun v1 v2 v3 v4 v5 => f_X8_isRow_L6 N a0 n v1 v2 v3 v4 v5 σ) (v1) (v2) (v3) (v5) ((v2) + (v5)) (some a0) σ)
  else
  (f_X8_isRow_B40 N a0 (fun v1 v2 v3 v4 v5 => f_X8_isRow_L6 N a0 n v1 v2 v3 v4 v5 σ) (v1) (v2) (v3) (v5) (((-1)) - ((v2) + (v5))) (some a0) σ)))
  else
  (if ¬ ((v4) = 0 ∨ (v4) = 1) then none else
  some (v4))
def f_X8_isRow (N : Nat) (a0 : Nat) (e1 : Option Nat) (x2 : Int32) (x3 : Int32) (σ : Sg) : Option Int32 :=
  f_X8_isRow_L6 N a0 N (e1) (x2) (x3) (1) (0) σ
set_option maxHeartbeats 4000000 in
set_option maxRecDepth 100000 in
theorem t_X8_isRow_B57 {N : Nat} {a0 : Nat} {Γ : Gm} {σ : Sg} {r : Int32} (C1 : CM Γ cX8_isRow RX8 7 (some .boolean) 3 64 0 0 (fun r_ τ_ => (r_ = some (vi r) ∧ (r = 0 ∨ r = 1)) ∧ τ_ = σ)) (hT : sg_T σ) (h0 : is_A σ a0 7) (k6 : Option Nat → Int32 → Int32 → Int32 → Int32 → Option Int32) (hk6 : ∀ (v1 : Option Nat) (v2 : Int32) (v3 : Int32) (v4 : Int32) (v5 : Int32) , is_O σ v1 7 → k6 v1 v2 v3 v4 v5 = some r → J_ Γ 6 [(0, vr (some a0)), (1, vr v1), (2, vi v2), (3, vi v3), (4, vi v4), (5, vi v5)] [] σ 0 0) (v1 : Option Nat) (v2 : Int32) (v3 : Int32) (v5 : Int32) (s0 : Int32) (g_v1 : is_O σ v1 7) (hf : f_X8_isRow_B57 N a0 k6  v1 v2 v3 v5 s0 σ = some r) : J_ Γ 57 [(0, vr (some a0)), (1, vr (v1)), (2, vi (v2)), (3, vi (v3)), (5, vi (v5))] [vi (s0)] σ 0 0 := by
  have C0 := C1.1
  unfold f_X8_isRow_B57 at hf
  refine J_istore (q := 59) (lv' := [(4, vi (s0)), (0, vr (some a0)), (1, vr (v1)), (2, vi (v2)), (3, vi (v3)), (5, vi (v5))]) C0 (G_nl C1 (by decide)) dX8_isRow_57 rfl rfl ?_
  refine J_iinc (q := 62) (v := v5 + 1) (lv' := [(5, vi (v5 + 1)), (4, vi (s0)), (0, vr (some a0)), (1, vr (v1)), (2, vi (v2)), (3, vi (v3))]) C0 5 rfl rfl (G_nl C1 (by decide)) dX8_isRow_59 rfl rfl ?_
  refine J_goto (q := 6) C0 dX8_isRow_62 (by decide) ?_
  refine J_sub (lv' := [(0, vr (some a0)), (1, vr (v1)), (2, vi (v2)), (3, vi (v3)), (4, vi (s0)), (5, vi (v5 + 1))]) [2, 3, 4, 5, 1, 0] rfl ?_
  exact hk6 (v1) (v2) (v3) (s0) (v5 + 1) (g_v1) hf
set_option maxHeartbeats 4000000 in
set_option maxRecDepth 100000 in
theorem t_X8_isRow_B40 {N : Nat} {a0 : Nat} {Γ : Gm} {σ : Sg} {r : Int32} (C1 : CM Γ cX8_isRow RX8 7 (some .boolean) 3 64 0 0 (fun r_ τ_ => (r_ = some (vi r) ∧ (r = 0 ∨ r = 1)) ∧ τ_ = σ)) (hT : sg_T σ) (h0 : is_A σ a0 7) (k6 : Option Nat → Int32 → Int32 → Int32 → Int32 → Option Int32) (hk6 : ∀ (v1 : Option Nat) (v2 : Int32) (v3 : Int32) (v4 : Int32) (v5 : Int32) , is_O σ v1 7 → k6 v1 v2 v3 v4 v5 = some r → J_ Γ 6 [(0, vr (some a0)), (1, vr v1), (2, vi v2), (3, vi v3), (4, vi v4), (5, vi v5)] [] σ 0 0) (v1 : Option Nat) (v2 : Int32) (v3 : Int32) (v5 : Int32) (s0 : Int32) (s1 : Option Nat) (g_v1 : is_O σ v1 7) (g_s1 : is_O σ s1 7) (hf : f_X8_isRow_B40 N a0 k6  v1 v2 v3 v5 s0 s1 σ = some r) : J_ Γ 40 [(0, vr (some a0)), (1, vr (v1)), (2, vi (v2)), (3, vi (v3)), (5, vi (v5))] [vi (s0), vr (s1)] σ 0 0 := by
  have C0 := C1.1
  unfold f_X8_isRow_B40 at hf
  refine K_some hf (fun b7 hb7 hf => ?_)
  have ab7 : is_A σ b7 7 := (g_s1) b7 hb7
  refine K_some hf (fun p8 hp8 hf => ?_)
  refine J_callV (q := 43) (ci := 7) (as := [vi (s0)]) (rest := []) C0 hb7 (ab7) (t_X8_shownAt b7 (s0) (hT) (ab7)  hp8) ml_X8_shownAt lk_X8_27 im_X8_shownAt se_X8_shownAt rfl (by decide) dX8_isRow_40 rfl rfl rfl (by simp [ac_]) C1.room (by decide) (by decide) (by decide) (by decide) (fun r_ τ_ hQ => ?_)
  obtain ⟨rfl, ht_⟩ := hQ; have ht_ := ht_.symm; subst ht_
  show J_ Γ 43 [(0, vr (some a0)), (1, vr (v1)), (2, vi (v2)), (3, vi (v3)), (5, vi (v5))] [vi (p8)] σ 0 0
  refine J_aload_n (q := 44) C0 1 rfl rfl dX8_isRow_43 rfl trivial ?_
  refine J_iload (q := 46) C0 4 rfl dX8_isRow_44 rfl ?_
  refine K_some hf (fun b9 hb9 hf => ?_)
  have ab9 : is_A σ b9 7 := (g_v1) b9 hb9
  refine K_some hf (fun p10 hp10 hf => ?_)
  refine J_callV (q := 49) (ci := 7) (as := [vi (v5)]) (rest := [vi (p8)]) C0 hb9 (ab9) (t_X8_shownAt b9 (v5) (hT) (ab9)  hp10) ml_X8_shownAt lk_X8_27 im_X8_shownAt se_X8_shownAt rfl (by decide) dX8_isRow_46 rfl rfl rfl (by simp [ac_]) C1.room (by decide) (by decide) (by decide) (by decide) (fun r_ τ_ hQ => ?_)
  obtain ⟨rfl, ht_⟩ := hQ; have ht_ := ht_.symm; subst ht_
  show J_ Γ 49 [(0, vr (some a0)), (1, vr (v1)), (2, vi (v2)), (3, vi (v3)), (5, vi (v5))] [vi (p10), vi (p8)] σ 0 0
  refine J_icmp_ne (t := 56) (q := 52) C0 dX8_isRow_49 (by decide) rfl hf (fun c11 hf => ?_) (fun c11 hf => ?_)
  · refine J_iconst (q := 57) (v := 0) C0 dX8_isRow_56 rfl rfl ?_
    exact t_X8_isRow_B57 C1 (hT) (h0) k6  hk6  (v1) (v2) (v3) (v5) (0) ((by rw [hb9]; exact is_O.some (ab9))) hf
  · refine J_iconst (q := 53) (v := 1) C0 dX8_isRow_52 rfl rfl ?_
    refine J_goto (q := 57) C0 dX8_isRow_53 (by decide) ?_
    exact t_X8_isRow_B57 C1 (hT) (h0) k6  hk6  (v1) (v2) (v3) (v5) (1) ((by rw [hb9]; exact is_O.some (ab9))) hf
set_option maxHeartbeats 4000000 in
set_option maxRecDepth 100000 in
theorem t_X8_isRow_L6 {N : Nat} {a0 : Nat} {Γ : Gm} {σ : Sg} {r : Int32} (C1 : CM Γ cX8_isRow RX8 7 (some .boolean) 3 64 0 0 (fun r_ τ_ => (r_ = some (vi r) ∧ (r = 0 ∨ r = 1)) ∧ τ_ = σ)) (hT : sg_T σ) (h0 : is_A σ a0 7) : ∀ (n : Nat) (v1 : Option Nat) (v2 : Int32) (v3 : Int32) (v4 : Int32) (v5 : Int32), is_O σ v1 7 → f_X8_isRow_L6 N a0  n v1 v2 v3 v4 v5 σ = some r → J_ Γ 6 [(0, vr (some a0)), (1, vr (v1)), (2, vi (v2)), (3, vi (v3)), (4, vi (v4)), (5, vi (v5))] [] σ 0 0 := by
  have C0 := C1.1
  intro n
  induction n with
  | zero => intro v1 v2 v3 v4 v5 g_v1 hf; unfold f_X8_isRow_L6 at hf; cases hf
  | succ n ih =>
    intro v1 v2 v3 v4 v5 g_v1 hf
    rw [f_X8_isRow_L6] at hf
    refine J_iload (q := 8) C0 5 rfl dX8_isRow_6 rfl ?_
    refine J_aload_n (q := 9) C0 0 rfl rfl dX8_isRow_8 rfl trivial ?_
    refine K_some hf (fun p1 hp1 hf => ?_)
    refine J_callV (q := 12) (ci := 7) (as := []) (rest := [vi (v5)]) C0 rfl (h0) (t_X8_size a0  (hT) (h0)  hp1) ml_X8_size lk_X8_19 im_X8_size se_X8_size rfl (by decide) dX8_isRow_9 rfl rfl rfl (by simp [ac_]) C1.room (by decide) (by decide) (by decide) (by decide) (fun r_ τ_ hQ => ?_)
    obtain ⟨rfl, ht_⟩ := hQ; have ht_ := ht_.symm; subst ht_
    show J_ Γ 12 [(0, vr (some a0)), (1, vr (v1)), (2, vi (v2)), (3, vi (v3)), (4, vi (v4)), (5, vi (v5))] [vi (p1), vi (v5)] σ 0 0
    refine J_icmp_ge (t := 65) (q := 15) C0 dX8_isRow_12 (by decide) rfl hf (fun c2 hf => ?_) (fun c2 hf => ?_)
    · refine J_iload (q := 67) C0 4 rfl dX8_isRow_65 rfl ?_
      refine K_chk hf (fun c3 hf => ?_)
      obtain rfl := Option.some.inj hf; exact J_zret C1 dX8_isRow_67 rfl (Decidable.not_not.mp c3) (Nat.zero_le _) (Nat.zero_le _) ⟨⟨rfl, (Decidable.not_not.mp c3)⟩, rfl⟩
    · refine J_iload (q := 17) C0 4 rfl dX8_isRow_15 rfl ?_
      refine J_if_eq (t := 65) (q := 20) C0 dX8_isRow_17 (by decide) rfl hf (fun c4 hf => ?_) (fun c4 hf => ?_)
      · refine J_iload (q := 67) C0 4 rfl dX8_isRow_65 rfl ?_
        refine K_chk hf (fun c5 hf => ?_)
        obtain rfl := Option.some.inj hf; exact J_zret C1 dX8_isRow_67 rfl (Decidable.not_not.mp c5) (Nat.zero_le _) (Nat.zero_le _) ⟨⟨rfl, (Decidable.not_not.mp c5)⟩, rfl⟩
      · refine J_iload_n (q := 21) C0 2 rfl rfl dX8_isRow_20 rfl ?_
        refine J_iload (q := 23) C0 5 rfl dX8_isRow_21 rfl ?_
        refine J_iadd (q := 24) C0 dX8_isRow_23 rfl ?_
        refine J_istore (q := 26) (lv' := [(6, vi ((v2) + (v5))), (0, vr (some a0)), (1, vr (v1)), (2, vi (v2)), (3, vi (v3)), (4, vi (v4)), (5, vi (v5))]) C0 (G_nl C1 (by decide)) dX8_isRow_24 rfl rfl ?_
        refine J_aload_n (q := 27) C0 1 rfl rfl dX8_isRow_26 rfl trivial ?_
        refine J_iload_n (q := 28) C0 4 rfl rfl dX8_isRow_27 rfl ?_
        refine J_if_eq (t := 38) (q := 31) C0 dX8_isRow_28 (by decide) rfl hf (fun c6 hf => ?_) (fun c6 hf => ?_)
        · refine J_iload (q := 40) C0 0 rfl dX8_isRow_38 rfl ?_
          refine J_sub (lv' := [(0, vr (some a0)), (1, vr (v1)), (2, vi (v2)), (3, vi (v3)), (5, vi (v5))]) [1, 2, 3, 4, 6] rfl ?_
          exact t_X8_isRow_B40 C1 (hT) (h0) (fun v1 v2 v3 v4 v5 => f_X8_isRow_L6 N a0 n v1 v2 v3 v4 v5 σ)  ih  (v1) (v2) (v3) (v5) ((v2) + (v5)) (some a0) (g_v1) (is_O.some (h0)) hf
        · refine J_iconst (q := 32) (v := (-1)) C0 dX8_isRow_31 rfl rfl ?_
          refine J_iload (q := 34) C0 0 rfl dX8_isRow_32 rfl ?_
          refine J_isub (q := 35) C0 dX8_isRow_34 rfl ?_
          refine J_goto (q := 40) C0 dX8_isRow_35 (by decide) ?_
          refine J_sub (lv' := [(0, vr (some a0)), (1, vr (v1)), (2, vi (v2)), (3, vi (v3)), (5, vi (v5))]) [1, 2, 3, 4, 6] rfl ?_
          exact t_X8_isRow_B40 C1 (hT) (h0) (fun v1 v2 v3 v4 v5 => f_X8_isRow_L6 N a0 n v1 v2 v3 v4 v5 σ)  ih  (v1) (v2) (v3) (v5) (((-1)) - ((v2) + (v5))) (some a0) (g_v1) (is_O.some (h0)) hf
set_option maxHeartbeats 4000000 in
set_option maxRecDepth 100000 in
theorem t_X8_isRow (N : Nat) (a0 : Nat) (e1 : Option Nat) (x2 : Int32) (x3 : Int32) {σ : Sg} (hT : sg_T σ) (h0 : is_A σ a0 7) (g1 : is_O σ e1 7) {r : Int32} (hf : f_X8_isRow N a0 e1 x2 x3 σ = some r) : Ct yX8_isRow cX8_isRow 7 (some .boolean) 3 64 0 0 [vr (some a0), vr e1, vi x2, vi x3] σ (fun r_ τ_ => (r_ = some (vi r) ∧ (r = 0 ∨ r = 1)) ∧ τ_ = σ) := by
  refine Ct.of (by decide +kernel) (Nat.le_of_ble_eq_true rfl) (fun Γ C1 => ?_)
  have C0 := C1.1
  unfold f_X8_isRow at hf
  show J_ Γ 0 [(0, vr (some a0)), (1, vr (e1)), (2, vi (x2)), (3, vi (x3))] [] σ 0 0
  refine J_iconst (q := 1) (v := 1) C0 dX8_isRow_0 rfl rfl ?_
  refine J_istore (q := 3) (lv' := [(4, vi (1)), (0, vr (some a0)), (1, vr (e1)), (2, vi (x2)), (3, vi (x3))]) C0 (G_nl C1 (by decide)) dX8_isRow_1 rfl rfl ?_
  refine J_iconst (q := 4) (v := 0) C0 dX8_isRow_3 rfl rfl ?_
  refine J_istore (q := 6) (lv' := [(5, vi (0)), (4, vi (1)), (0, vr (some a0)), (1, vr (e1)), (2, vi (x2)), (3, vi (x3))]) C0 (G_nl C1 (by decide)) dX8_isRow_4 rfl rfl ?_
  refine J_sub (lv' := [(0, vr (some a0)), (1, vr (e1)), (2, vi (x2)), (3, vi (x3)), (4, vi (1)), (5, vi (0))]) [2, 3, 4, 5, 1, 0] rfl ?_
  exact t_X8_isRow_L6 C1 (hT) (h0)    N (e1) (x2) (x3) (1) (0) (g1) hf
def f_X8_leastPeriod_L2 (N : Nat) (a0 : Nat) : Nat → Int32 → Sg → Option Int32
  | 0, _, _ => none
  | n + 1, v1, σ =>
  Option.bind (f_X8_size a0  σ) fun p1 =>
  if (v1) < (p1) then
  (Option.bind (f_X8_isRow N a0 (some a0) (v1) (0) σ) fun p4 =>
  if (p4) = (0) then
  (f_X8_leastPeriod_L2 N a0 n (v1 + 1) σ)
  else
  (some (v1)))
  else
  (Option.bind (f_X8_size a0  σ) fun p3 =>
  some (p3))
def f_X8_leastPeriod (N : Nat) (a0 : Nat) (σ : Sg) : Option Int32 :=
  f_X8_leastPeriod_L2 N a0 N (1) σ
set_option maxHeartbeats 4000000 in
set_option maxRecDepth 100000 in
theorem t_X8_leastPeriod_L2 {N : Nat} {a0 : Nat} {Γ : Gm} {σ : Sg} {r : Int32} (C1 : CM Γ cX8_leastPeriod RX8 2 (some .int) 4 90 0 0 (fun r_ τ_ => (r_ = some (vi r)) ∧ τ_ = σ)) (hT : sg_T σ) (h0 : is_A σ a0 7) : ∀ (n : Nat) (v1 : Int32), f_X8_leastPeriod_L2 N a0  n v1 σ = some r → J_ Γ 2 [(0, vr (some a0)), (1, vi (v1))] [] σ 0 0 := by
  have C0 := C1.1
  intro n
  induction n with
  | zero => intro v1  hf; unfold f_X8_leastPeriod_L2 at hf; cases hf
  | succ n ih =>
    intro v1  hf
    rw [f_X8_leastPeriod_L2] at hf
    refine J_iload_n (q := 3) C0 1 rfl rfl dX8_leastPeriod_2 rfl ?_
    refine J_aload_n (q := 4) C0 0 rfl rfl dX8_leastPeriod_3 rfl trivial ?_
    refine K_some hf (fun p1 hp1 hf => ?_)
    refine J_callV (q := 7) (ci := 7) (as := []) (rest := [vi (v1)]) C0 rfl (h0) (t_X8_size a0  (hT) (h0)  hp1) ml_X8_size lk_X8_19 im_X8_size se_X8_size rfl (by decide) dX8_leastPeriod_4 rfl rfl rfl (by simp [ac_]) C1.room (by decide) (by decide) (by decide) (by decide) (fun r_ τ_ hQ => ?_)
    obtain ⟨rfl, ht_⟩ := hQ; have ht_ := ht_.symm; subst ht_
    show J_ Γ 7 [(0, vr (some a0)), (1, vi (v1))] [vi (p1), vi (v1)] σ 0 0
    refine J_icmp_ge (t := 28) (q := 10) C0 dX8_leastPeriod_7 (by decide) rfl hf (fun c2 hf => ?_) (fun c2 hf => ?_)
    · refine J_aload_n (q := 29) C0 0 rfl rfl dX8_leastPeriod_28 rfl trivial ?_
      refine K_some hf (fun p3 hp3 hf => ?_)
      refine J_callV (q := 32) (ci := 7) (as := []) (rest := []) C0 rfl (h0) (t_X8_size a0  (hT) (h0)  hp3) ml_X8_size lk_X8_19 im_X8_size se_X8_size rfl (by decide) dX8_leastPeriod_29 rfl rfl rfl (by simp [ac_]) C1.room (by decide) (by decide) (by decide) (by decide) (fun r_ τ_ hQ => ?_)
      obtain ⟨rfl, ht_⟩ := hQ; have ht_ := ht_.symm; subst ht_
      show J_ Γ 32 [(0, vr (some a0)), (1, vi (v1))] [vi (p3)] σ 0 0
      obtain rfl := Option.some.inj hf; exact J_iret C1 dX8_leastPeriod_32 rfl (Nat.zero_le _) (Nat.zero_le _) ⟨rfl, rfl⟩
    · refine J_aload_n (q := 11) C0 0 rfl rfl dX8_leastPeriod_10 rfl trivial ?_
      refine J_aload_n (q := 12) C0 0 rfl rfl dX8_leastPeriod_11 rfl trivial ?_
      refine J_iload_n (q := 13) C0 1 rfl rfl dX8_leastPeriod_12 rfl ?_
      refine J_iconst (q := 14) (v := 0) C0 dX8_leastPeriod_13 rfl rfl ?_
      refine K_some hf (fun p4 hp4 hf => ?_)
      refine J_callV (q := 17) (ci := 7) (as := [vr (some a0), vi (v1), vi (0)]) (rest := []) C0 rfl (h0) (t_X8_isRow N a0 (some a0) (v1) (0) (hT) (h0) (is_O.some (h0)) hp4) ml_X8_isRow lk_X8_23 im_X8_isRow se_X8_isRow rfl (by decide) dX8_leastPeriod_14 rfl rfl rfl (by simp [ac_]) C1.room (by decide) (by decide) (by decide) (by decide) (fun r_ τ_ hQ => ?_)
      obtain ⟨⟨rfl, zp4⟩, ht_⟩ := hQ; have ht_ := ht_.symm; subst ht_
      show J_ Γ 17 [(0, vr (some a0)), (1, vi (v1))] [vi (p4)] σ 0 0
      refine J_if_eq (t := 22) (q := 20) C0 dX8_leastPeriod_17 (by decide) rfl hf (fun c5 hf => ?_) (fun c5 hf => ?_)
      · refine J_iinc (q := 25) (v := v1 + 1) (lv' := [(1, vi (v1 + 1)), (0, vr (some a0))]) C0 1 rfl rfl (G_nl C1 (by decide)) dX8_leastPeriod_22 rfl rfl ?_
        refine J_goto (q := 2) C0 dX8_leastPeriod_25 (by decide) ?_
        refine J_sub (lv' := [(0, vr (some a0)), (1, vi (v1 + 1))]) [1, 0] rfl ?_
        exact ih (v1 + 1)   hf
      · refine J_iload_n (q := 21) C0 1 rfl rfl dX8_leastPeriod_20 rfl ?_
        obtain rfl := Option.some.inj hf; exact J_iret C1 dX8_leastPeriod_21 rfl (Nat.zero_le _) (Nat.zero_le _) ⟨rfl, rfl⟩
set_option maxHeartbeats 4000000 in
set_option maxRecDepth 100000 in
theorem t_X8_leastPeriod (N : Nat) (a0 : Nat) {σ : Sg} (hT : sg_T σ) (h0 : is_A σ a0 7) {r : Int32} (hf : f_X8_leastPeriod N a0  σ = some r) : Ct yX8_leastPeriod cX8_leastPeriod 2 (some .int) 4 90 0 0 [vr (some a0)] σ (fun r_ τ_ => (r_ = some (vi r)) ∧ τ_ = σ) := by
  refine Ct.of (by decide +kernel) (Nat.le_of_ble_eq_true rfl) (fun Γ C1 => ?_)
  have C0 := C1.1
  unfold f_X8_leastPeriod at hf
  show J_ Γ 0 [(0, vr (some a0))] [] σ 0 0
  refine J_iconst (q := 1) (v := 1) C0 dX8_leastPeriod_0 rfl rfl ?_
  refine J_istore_n (q := 2) (lv' := [(1, vi (1)), (0, vr (some a0))]) C0 rfl (G_nl C1 (by decide)) dX8_leastPeriod_1 rfl rfl ?_
  refine J_sub (lv' := [(0, vr (some a0)), (1, vi (1))]) [1, 0] rfl ?_
  exact t_X8_leastPeriod_L2 C1 (hT) (h0)    N (1)  hf
def f_X8_turningTo_L2 (N : Nat) (a0 : Nat) : Nat → Option Nat → Int32 → Int32 → Sg → Option Int32
  | 0, _, _, _, _ => none
  | n + 1, v1, v2, v3, σ =>
  Option.bind (f_X8_size a0  σ) fun p1 =>
  if (v3) < (p1) then
  (Option.bind (f_X8_size a0  σ) fun p3 =>
  Option.bind (v1) fun b4 =>
  Option.bind (f_X8_size b4  σ) fun p5 =>
  if (p3) = (p5) then
  (Option.bind (f_X8_isRow N a0 (v1) (v3) (v2) σ) fun p7 =>
  if (p7) = (0) then
  (f_X8_turningTo_L2 N a0 n (v1) (v2) (v3 + 1) σ)
  else
  (some (v3)))
  else
  (some ((-1))))
  else
  (some ((-1)))
def f_X8_turningTo (N : Nat) (a0 : Nat) (e1 : Option Nat) (x2 : Int32) (σ : Sg) : Option Int32 :=
  f_X8_turningTo_L2 N a0 N (e1) (x2) (0) σ
set_option maxHeartbeats 4000000 in
set_option maxRecDepth 100000 in
theorem t_X8_turningTo_L2 {N : Nat} {a0 : Nat} {Γ : Gm} {σ : Sg} {r : Int32} (C1 : CM Γ cX8_turningTo RX8 4 (some .int) 4 90 0 0 (fun r_ τ_ => (r_ = some (vi r)) ∧ τ_ = σ)) (hT : sg_T σ) (h0 : is_A σ a0 7) : ∀ (n : Nat) (v1 : Option Nat) (v2 : Int32) (v3 : Int32), is_O σ v1 7 → f_X8_turningTo_L2 N a0  n v1 v2 v3 σ = some r → J_ Γ 2 [(0, vr (some a0)), (1, vr (v1)), (2, vi (v2)), (3, vi (v3))] [] σ 0 0 := by
  have C0 := C1.1
  intro n
  induction n with
  | zero => intro v1 v2 v3 g_v1 hf; unfold f_X8_turningTo_L2 at hf; cases hf
  | succ n ih =>
    intro v1 v2 v3 g_v1 hf
    rw [f_X8_turningTo_L2] at hf
    refine J_iload_n (q := 3) C0 3 rfl rfl dX8_turningTo_2 rfl ?_
    refine J_aload_n (q := 4) C0 0 rfl rfl dX8_turningTo_3 rfl trivial ?_
    refine K_some hf (fun p1 hp1 hf => ?_)
    refine J_callV (q := 7) (ci := 7) (as := []) (rest := [vi (v3)]) C0 rfl (h0) (t_X8_size a0  (hT) (h0)  hp1) ml_X8_size lk_X8_19 im_X8_size se_X8_size rfl (by decide) dX8_turningTo_4 rfl rfl rfl (by simp [ac_]) C1.room (by decide) (by decide) (by decide) (by decide) (fun r_ τ_ hQ => ?_)
    obtain ⟨rfl, ht_⟩ := hQ; have ht_ := ht_.symm; subst ht_
    show J_ Γ 7 [(0, vr (some a0)), (1, vr (v1)), (2, vi (v2)), (3, vi (v3))] [vi (p1), vi (v3)] σ 0 0
    refine J_icmp_ge (t := 39) (q := 10) C0 dX8_turningTo_7 (by decide) rfl hf (fun c2 hf => ?_) (fun c2 hf => ?_)
    · refine J_iconst (q := 40) (v := (-1)) C0 dX8_turningTo_39 rfl rfl ?_
      obtain rfl := Option.some.inj hf; exact J_iret C1 dX8_turningTo_40 rfl (Nat.zero_le _) (Nat.zero_le _) ⟨rfl, rfl⟩
    · refine J_aload_n (q := 11) C0 0 rfl rfl dX8_turningTo_10 rfl trivial ?_
      refine K_some hf (fun p3 hp3 hf => ?_)
      refine J_callV (q := 14) (ci := 7) (as := []) (rest := []) C0 rfl (h0) (t_X8_size a0  (hT) (h0)  hp3) ml_X8_size lk_X8_19 im_X8_size se_X8_size rfl (by decide) dX8_turningTo_11 rfl rfl rfl (by simp [ac_]) C1.room (by decide) (by decide) (by decide) (by decide) (fun r_ τ_ hQ => ?_)
      obtain ⟨rfl, ht_⟩ := hQ; have ht_ := ht_.symm; subst ht_
      show J_ Γ 14 [(0, vr (some a0)), (1, vr (v1)), (2, vi (v2)), (3, vi (v3))] [vi (p3)] σ 0 0
      refine J_aload_n (q := 15) C0 1 rfl rfl dX8_turningTo_14 rfl trivial ?_
      refine K_some hf (fun b4 hb4 hf => ?_)
      have ab4 : is_A σ b4 7 := (g_v1) b4 hb4
      refine K_some hf (fun p5 hp5 hf => ?_)
      refine J_callV (q := 18) (ci := 7) (as := []) (rest := [vi (p3)]) C0 hb4 (ab4) (t_X8_size b4  (hT) (ab4)  hp5) ml_X8_size lk_X8_19 im_X8_size se_X8_size rfl (by decide) dX8_turningTo_15 rfl rfl rfl (by simp [ac_]) C1.room (by decide) (by decide) (by decide) (by decide) (fun r_ τ_ hQ => ?_)
      obtain ⟨rfl, ht_⟩ := hQ; have ht_ := ht_.symm; subst ht_
      show J_ Γ 18 [(0, vr (some a0)), (1, vr (v1)), (2, vi (v2)), (3, vi (v3))] [vi (p5), vi (p3)] σ 0 0
      refine J_icmp_ne (t := 39) (q := 21) C0 dX8_turningTo_18 (by decide) rfl hf (fun c6 hf => ?_) (fun c6 hf => ?_)
      · refine J_iconst (q := 40) (v := (-1)) C0 dX8_turningTo_39 rfl rfl ?_
        obtain rfl := Option.some.inj hf; exact J_iret C1 dX8_turningTo_40 rfl (Nat.zero_le _) (Nat.zero_le _) ⟨rfl, rfl⟩
      · refine J_aload_n (q := 22) C0 0 rfl rfl dX8_turningTo_21 rfl trivial ?_
        refine J_aload_n (q := 23) C0 1 rfl rfl dX8_turningTo_22 rfl trivial ?_
        refine J_iload_n (q := 24) C0 3 rfl rfl dX8_turningTo_23 rfl ?_
        refine J_iload_n (q := 25) C0 2 rfl rfl dX8_turningTo_24 rfl ?_
        refine K_some hf (fun p7 hp7 hf => ?_)
        refine J_callV (q := 28) (ci := 7) (as := [vr (v1), vi (v3), vi (v2)]) (rest := []) C0 rfl (h0) (t_X8_isRow N a0 (v1) (v3) (v2) (hT) (h0) ((by rw [hb4]; exact is_O.some (ab4))) hp7) ml_X8_isRow lk_X8_23 im_X8_isRow se_X8_isRow rfl (by decide) dX8_turningTo_25 rfl rfl rfl (by simp [ac_]) C1.room (by decide) (by decide) (by decide) (by decide) (fun r_ τ_ hQ => ?_)
        obtain ⟨⟨rfl, zp7⟩, ht_⟩ := hQ; have ht_ := ht_.symm; subst ht_
        show J_ Γ 28 [(0, vr (some a0)), (1, vr (v1)), (2, vi (v2)), (3, vi (v3))] [vi (p7)] σ 0 0
        refine J_if_eq (t := 33) (q := 31) C0 dX8_turningTo_28 (by decide) rfl hf (fun c8 hf => ?_) (fun c8 hf => ?_)
        · refine J_iinc (q := 36) (v := v3 + 1) (lv' := [(3, vi (v3 + 1)), (0, vr (some a0)), (1, vr (v1)), (2, vi (v2))]) C0 3 rfl rfl (G_nl C1 (by decide)) dX8_turningTo_33 rfl rfl ?_
          refine J_goto (q := 2) C0 dX8_turningTo_36 (by decide) ?_
          refine J_sub (lv' := [(0, vr (some a0)), (1, vr (v1)), (2, vi (v2)), (3, vi (v3 + 1))]) [1, 2, 3, 0] rfl ?_
          exact ih (v1) (v2) (v3 + 1)  ((by rw [hb4]; exact is_O.some (ab4))) hf
        · refine J_iload_n (q := 32) C0 3 rfl rfl dX8_turningTo_31 rfl ?_
          obtain rfl := Option.some.inj hf; exact J_iret C1 dX8_turningTo_32 rfl (Nat.zero_le _) (Nat.zero_le _) ⟨rfl, rfl⟩
set_option maxHeartbeats 4000000 in
set_option maxRecDepth 100000 in
theorem t_X8_turningTo (N : Nat) (a0 : Nat) (e1 : Option Nat) (x2 : Int32) {σ : Sg} (hT : sg_T σ) (h0 : is_A σ a0 7) (g1 : is_O σ e1 7) {r : Int32} (hf : f_X8_turningTo N a0 e1 x2 σ = some r) : Ct yX8_turningTo cX8_turningTo 4 (some .int) 4 90 0 0 [vr (some a0), vr e1, vi x2] σ (fun r_ τ_ => (r_ = some (vi r)) ∧ τ_ = σ) := by
  refine Ct.of (by decide +kernel) (Nat.le_of_ble_eq_true rfl) (fun Γ C1 => ?_)
  have C0 := C1.1
  unfold f_X8_turningTo at hf
  show J_ Γ 0 [(0, vr (some a0)), (1, vr (e1)), (2, vi (x2))] [] σ 0 0
  refine J_iconst (q := 1) (v := 0) C0 dX8_turningTo_0 rfl rfl ?_
  refine J_istore_n (q := 2) (lv' := [(3, vi (0)), (0, vr (some a0)), (1, vr (e1)), (2, vi (x2))]) C0 rfl (G_nl C1 (by decide)) dX8_turningTo_1 rfl rfl ?_
  refine J_sub (lv' := [(0, vr (some a0)), (1, vr (e1)), (2, vi (x2)), (3, vi (0))]) [1, 2, 3, 0] rfl ?_
  exact t_X8_turningTo_L2 C1 (hT) (h0)    N (e1) (x2) (0) (g1) hf
