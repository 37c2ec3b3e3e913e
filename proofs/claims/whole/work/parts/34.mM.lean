def f_X12_areHome_B46 (N : Nat) (a0 : Nat) (k4 : Int32 → Int32 → Int32 → Option Int32) (v1 : Int32) (v3 : Int32) (s0 : Int32) (σ : Sg) : Option Int32 :=
  k4 (v1) (s0) (v3 + 1)
def f_X12_areHome_B45 (N : Nat) (a0 : Nat) (k4 : Int32 → Int32 → Int32 → Option Int32) (v1 : Int32) (v3 : Int32) (σ : Sg) : Option Int32 :=
  f_X12_areHome_B46 N a0 k4 (v1) (v3) (0) σ
def f_X12_areHome_B41 (N : Nat) (a0 : Nat) (k4 : Int32 → Int32 → Int32 → Option Int32) (v1 : Int32) (v3 : Int32) (σ : Sg) : Option Int32 :=
  f_X12_areHome_B46 N a0 k4 (v1) (v3) (1) σ
def f_X12_areHome_B26 (N : Nat) (a0 : Nat) (k4 : Int32 → Int32 → Int32 → Option Int32) (v1 : Int32) (v3 : Int32) (σ : Sg) : Option Int32 :=
  Option.bind (sg_R σ a0 33) fun b5 =>
  if (v3) < 0 ∨ sg_L σ b5 ≤ (v3).toNatClampNeg then none else
  Option.bind (f_X12_of a0 (v3) (2) σ) fun p7 =>
  if (sg_I σ b5 (v3).toNatClampNeg) = (p7) then
  (f_X12_areHome_B41 N a0 k4 (v1) (v3) σ)
  else
  (f_X12_areHome_B45 N a0 k4 (v1) (v3) σ)
def f_X12_areHome_L4 (N : Nat) (a0 : Nat) : Nat → Int32 → Int32 → Int32 → Sg → Option Int32
  | 0, _, _, _, _ => none
  | n + 1, v1, v2, v3, σ =>
  if (v3) < (sg_I σ a0 20) then
  (if (v2) = (0) then
  (f_X12_areHome_B45 N a0 (fun v1 v2 v3 => f_X12_areHome_L4 N a0 n v1 v2 v3 σ) (v1) (v3) σ)
  else
  (if (v1) = ((-1)) then
  (f_X12_areHome_B26 N a0 (fun v1 v2 v3 => f_X12_areHome_L4 N a0 n v1 v2 v3 σ) (v1) (v3) σ)
  else
  (if (v3) = (v1) then
  (f_X12_areHome_B26 N a0 (fun v1 v2 v3 => f_X12_areHome_L4 N a0 n v1 v2 v3 σ) (v1) (v3) σ)
  else
  (f_X12_areHome_B41 N a0 (fun v1 v2 v3 => f_X12_areHome_L4 N a0 n v1 v2 v3 σ) (v1) (v3) σ))))
  else
  (if ¬ ((v2) = 0 ∨ (v2) = 1) then none else
  some (v2))
def f_X12_areHome (N : Nat) (a0 : Nat) (x1 : Int32) (σ : Sg) : Option Int32 :=
  f_X12_areHome_L4 N a0 N (x1) (1) (0) σ
set_option maxHeartbeats 4000000 in
set_option maxRecDepth 100000 in
theorem t_X12_areHome_B46 {N : Nat} {a0 : Nat} {Γ : Gm} {σ : Sg} {r : Int32} (C1 : CM Γ cX12_areHome RX12 4 (some .boolean) 1 22 0 0 (fun r_ τ_ => (r_ = some (vi r) ∧ (r = 0 ∨ r = 1)) ∧ τ_ = σ)) (hT : sg_T σ) (h0 : is_A σ a0 11) (k4 : Int32 → Int32 → Int32 → Option Int32) (hk4 : ∀ (v1 : Int32) (v2 : Int32) (v3 : Int32) , k4 v1 v2 v3 = some r → J_ Γ 4 [(0, vr (some a0)), (1, vi v1), (2, vi v2), (3, vi v3)] [] σ 0 0) (v1 : Int32) (v3 : Int32) (s0 : Int32) (hf : f_X12_areHome_B46 N a0 k4  v1 v3 s0 σ = some r) : J_ Γ 46 [(0, vr (some a0)), (1, vi (v1)), (3, vi (v3))] [vi (s0)] σ 0 0 := by
  have C0 := C1.1
  unfold f_X12_areHome_B46 at hf
  refine J_istore_n (q := 47) (lv' := [(2, vi (s0)), (0, vr (some a0)), (1, vi (v1)), (3, vi (v3))]) C0 rfl (G_nl C1 (by decide)) dX12_areHome_46 rfl rfl ?_
  refine J_iinc (q := 50) (v := v3 + 1) (lv' := [(3, vi (v3 + 1)), (2, vi (s0)), (0, vr (some a0)), (1, vi (v1))]) C0 3 rfl rfl (G_nl C1 (by decide)) dX12_areHome_47 rfl rfl ?_
  refine J_goto (q := 4) C0 dX12_areHome_50 (by decide) ?_
  refine J_sub (lv' := [(0, vr (some a0)), (1, vi (v1)), (2, vi (s0)), (3, vi (v3 + 1))]) [2, 3, 1, 0] rfl ?_
  exact hk4 (v1) (s0) (v3 + 1)  hf
set_option maxHeartbeats 4000000 in
set_option maxRecDepth 100000 in
theorem t_X12_areHome_B45 {N : Nat} {a0 : Nat} {Γ : Gm} {σ : Sg} {r : Int32} (C1 : CM Γ cX12_areHome RX12 4 (some .boolean) 1 22 0 0 (fun r_ τ_ => (r_ = some (vi r) ∧ (r = 0 ∨ r = 1)) ∧ τ_ = σ)) (hT : sg_T σ) (h0 : is_A σ a0 11) (k4 : Int32 → Int32 → Int32 → Option Int32) (hk4 : ∀ (v1 : Int32) (v2 : Int32) (v3 : Int32) , k4 v1 v2 v3 = some r → J_ Γ 4 [(0, vr (some a0)), (1, vi v1), (2, vi v2), (3, vi v3)] [] σ 0 0) (v1 : Int32) (v3 : Int32) (hf : f_X12_areHome_B45 N a0 k4  v1 v3 σ = some r) : J_ Γ 45 [(0, vr (some a0)), (1, vi (v1)), (3, vi (v3))] [] σ 0 0 := by
  have C0 := C1.1
  unfold f_X12_areHome_B45 at hf
  refine J_iconst (q := 46) (v := 0) C0 dX12_areHome_45 rfl rfl ?_
  exact t_X12_areHome_B46 C1 (hT) (h0) k4  hk4  (v1) (v3) (0)  hf
set_option maxHeartbeats 4000000 in
set_option maxRecDepth 100000 in
theorem t_X12_areHome_B41 {N : Nat} {a0 : Nat} {Γ : Gm} {σ : Sg} {r : Int32} (C1 : CM Γ cX12_areHome RX12 4 (some .boolean) 1 22 0 0 (fun r_ τ_ => (r_ = some (vi r) ∧ (r = 0 ∨ r = 1)) ∧ τ_ = σ)) (hT : sg_T σ) (h0 : is_A σ a0 11) (k4 : Int32 → Int32 → Int32 → Option Int32) (hk4 : ∀ (v1 : Int32) (v2 : Int32) (v3 : Int32) , k4 v1 v2 v3 = some r → J_ Γ 4 [(0, vr (some a0)), (1, vi v1), (2, vi v2), (3, vi v3)] [] σ 0 0) (v1 : Int32) (v3 : Int32) (hf : f_X12_areHome_B41 N a0 k4  v1 v3 σ = some r) : J_ Γ 41 [(0, vr (some a0)), (1, vi (v1)), (3, vi (v3))] [] σ 0 0 := by
  have C0 := C1.1
  unfold f_X12_areHome_B41 at hf
  refine J_iconst (q := 42) (v := 1) C0 dX12_areHome_41 rfl rfl ?_
  refine J_goto (q := 46) C0 dX12_areHome_42 (by decide) ?_
  exact t_X12_areHome_B46 C1 (hT) (h0) k4  hk4  (v1) (v3) (1)  hf
set_option maxHeartbeats 4000000 in
set_option maxRecDepth 100000 in
theorem t_X12_areHome_B26 {N : Nat} {a0 : Nat} {Γ : Gm} {σ : Sg} {r : Int32} (C1 : CM Γ cX12_areHome RX12 4 (some .boolean) 1 22 0 0 (fun r_ τ_ => (r_ = some (vi r) ∧ (r = 0 ∨ r = 1)) ∧ τ_ = σ)) (hT : sg_T σ) (h0 : is_A σ a0 11) (k4 : Int32 → Int32 → Int32 → Option Int32) (hk4 : ∀ (v1 : Int32) (v2 : Int32) (v3 : Int32) , k4 v1 v2 v3 = some r → J_ Γ 4 [(0, vr (some a0)), (1, vi v1), (2, vi v2), (3, vi v3)] [] σ 0 0) (v1 : Int32) (v3 : Int32) (hf : f_X12_areHome_B26 N a0 k4  v1 v3 σ = some r) : J_ Γ 26 [(0, vr (some a0)), (1, vi (v1)), (3, vi (v3))] [] σ 0 0 := by
  have C0 := C1.1
  unfold f_X12_areHome_B26 at hf
  refine J_aload_n (q := 27) C0 0 rfl rfl dX12_areHome_26 rfl trivial ?_
  refine J_getR (q := 30) C0 fl_X12_74_11 rfl (h0) rfl dX12_areHome_27 rfl ?_
  refine J_iload_n (q := 31) C0 2 rfl rfl dX12_areHome_30 rfl ?_
  refine K_some hf (fun b5 hb5 hf => ?_)
  have ab5 : is_A σ b5 12 := ((sg_T.op hT (j := 33) (h0) rfl)) b5 hb5
  refine K_chk hf (fun c6 hf => ?_)
  refine J_iald (q := 32) C0 hb5 (ab5) c6 dX12_areHome_31 rfl ?_
  refine J_aload_n (q := 33) C0 0 rfl rfl dX12_areHome_32 rfl trivial ?_
  refine J_iload_n (q := 34) C0 2 rfl rfl dX12_areHome_33 rfl ?_
  refine J_iconst (q := 35) (v := 2) C0 dX12_areHome_34 rfl rfl ?_
  refine K_some hf (fun p7 hp7 hf => ?_)
  refine J_callV (q := 38) (ci := 11) (as := [vi (v3), vi (2)]) (rest := [vi (sg_I σ b5 (v3).toNatClampNeg)]) C0 rfl (h0) (t_X12_of a0 (v3) (2) (hT) (h0)  hp7) ml_X12_of lk_X12_254 im_X12_of se_X12_of rfl (by decide) dX12_areHome_35 rfl rfl rfl (by simp [ac_]) C1.room (by decide) (by decide) (by decide) (by decide) (fun r_ τ_ hQ => ?_)
  obtain ⟨rfl, ht_⟩ := hQ; have ht_ := ht_.symm; subst ht_
  show J_ Γ 38 [(0, vr (some a0)), (1, vi (v1)), (3, vi (v3))] [vi (p7), vi (sg_I σ b5 (v3).toNatClampNeg)] σ 0 0
  refine J_icmp_ne (t := 45) (q := 41) C0 dX12_areHome_38 (by decide) rfl hf (fun c8 hf => ?_) (fun c8 hf => ?_)
  · exact t_X12_areHome_B45 C1 (hT) (h0) k4  hk4  (v1) (v3)  hf
  · exact t_X12_areHome_B41 C1 (hT) (h0) k4  hk4  (v1) (v3)  hf
set_option maxHeartbeats 4000000 in
set_option maxRecDepth 100000 in
theorem t_X12_areHome_L4 {N : Nat} {a0 : Nat} {Γ : Gm} {σ : Sg} {r : Int32} (C1 : CM Γ cX12_areHome RX12 4 (some .boolean) 1 22 0 0 (fun r_ τ_ => (r_ = some (vi r) ∧ (r = 0 ∨ r = 1)) ∧ τ_ = σ)) (hT : sg_T σ) (h0 : is_A σ a0 11) : ∀ (n : Nat) (v1 : Int32) (v2 : Int32) (v3 : Int32), f_X12_areHome_L4 N a0  n v1 v2 v3 σ = some r → J_ Γ 4 [(0, vr (some a0)), (1, vi (v1)), (2, vi (v2)), (3, vi (v3))] [] σ 0 0 := by
  have C0 := C1.1
  intro n
  induction n with
  | zero => intro v1 v2 v3  hf; unfold f_X12_areHome_L4 at hf; cases hf
  | succ n ih =>
    intro v1 v2 v3  hf
    rw [f_X12_areHome_L4] at hf
    refine J_iload_n (q := 5) C0 3 rfl rfl dX12_areHome_4 rfl ?_
    refine J_aload_n (q := 6) C0 0 rfl rfl dX12_areHome_5 rfl trivial ?_
    refine J_getI (q := 9) C0 fl_X12_263_11 rfl (h0) rfl dX12_areHome_6 rfl ?_
    refine J_icmp_ge (t := 53) (q := 12) C0 dX12_areHome_9 (by decide) rfl hf (fun c1 hf => ?_) (fun c1 hf => ?_)
    · refine J_iload_n (q := 54) C0 2 rfl rfl dX12_areHome_53 rfl ?_
      refine K_chk hf (fun c2 hf => ?_)
      obtain rfl := Option.some.inj hf; exact J_zret C1 dX12_areHome_54 rfl (Decidable.not_not.mp c2) (Nat.zero_le _) (Nat.zero_le _) ⟨⟨rfl, (Decidable.not_not.mp c2)⟩, rfl⟩
    · refine J_iload_n (q := 13) C0 2 rfl rfl dX12_areHome_12 rfl ?_
      refine J_if_eq (t := 45) (q := 16) C0 dX12_areHome_13 (by decide) rfl hf (fun c3 hf => ?_) (fun c3 hf => ?_)
      · refine J_sub (lv' := [(0, vr (some a0)), (1, vi (v1)), (3, vi (v3))]) [0, 1, 3] rfl ?_
        exact t_X12_areHome_B45 C1 (hT) (h0) (fun v1 v2 v3 => f_X12_areHome_L4 N a0 n v1 v2 v3 σ)  ih  (v1) (v3)  hf
      · refine J_iload_n (q := 17) C0 1 rfl rfl dX12_areHome_16 rfl ?_
        refine J_iconst (q := 18) (v := (-1)) C0 dX12_areHome_17 rfl rfl ?_
        refine J_icmp_eq (t := 26) (q := 21) C0 dX12_areHome_18 (by decide) rfl hf (fun c4 hf => ?_) (fun c4 hf => ?_)
        · refine J_sub (lv' := [(0, vr (some a0)), (1, vi (v1)), (3, vi (v3))]) [0, 1, 3] rfl ?_
          exact t_X12_areHome_B26 C1 (hT) (h0) (fun v1 v2 v3 => f_X12_areHome_L4 N a0 n v1 v2 v3 σ)  ih  (v1) (v3)  hf
        · refine J_iload_n (q := 22) C0 3 rfl rfl dX12_areHome_21 rfl ?_
          refine J_iload_n (q := 23) C0 1 rfl rfl dX12_areHome_22 rfl ?_
          refine J_icmp_ne (t := 41) (q := 26) C0 dX12_areHome_23 (by decide) rfl hf (fun c9 hf => ?_) (fun c9 hf => ?_)
          · refine J_sub (lv' := [(0, vr (some a0)), (1, vi (v1)), (3, vi (v3))]) [0, 1, 3] rfl ?_
            exact t_X12_areHome_B41 C1 (hT) (h0) (fun v1 v2 v3 => f_X12_areHome_L4 N a0 n v1 v2 v3 σ)  ih  (v1) (v3)  hf
          · refine J_sub (lv' := [(0, vr (some a0)), (1, vi (v1)), (3, vi (v3))]) [0, 1, 3] rfl ?_
            exact t_X12_areHome_B26 C1 (hT) (h0) (fun v1 v2 v3 => f_X12_areHome_L4 N a0 n v1 v2 v3 σ)  ih  (v1) (v3)  hf
set_option maxHeartbeats 4000000 in
set_option maxRecDepth 100000 in
theorem t_X12_areHome (N : Nat) (a0 : Nat) (x1 : Int32) {σ : Sg} (hT : sg_T σ) (h0 : is_A σ a0 11) {r : Int32} (hf : f_X12_areHome N a0 x1 σ = some r) : Ct yX12_areHome cX12_areHome 4 (some .boolean) 1 22 0 0 [vr (some a0), vi x1] σ (fun r_ τ_ => (r_ = some (vi r) ∧ (r = 0 ∨ r = 1)) ∧ τ_ = σ) := by
  refine Ct.of (by decide +kernel) (Nat.le_of_ble_eq_true rfl) (fun Γ C1 => ?_)
  have C0 := C1.1
  unfold f_X12_areHome at hf
  show J_ Γ 0 [(0, vr (some a0)), (1, vi (x1))] [] σ 0 0
  refine J_iconst (q := 1) (v := 1) C0 dX12_areHome_0 rfl rfl ?_
  refine J_istore_n (q := 2) (lv' := [(2, vi (1)), (0, vr (some a0)), (1, vi (x1))]) C0 rfl (G_nl C1 (by decide)) dX12_areHome_1 rfl rfl ?_
  refine J_iconst (q := 3) (v := 0) C0 dX12_areHome_2 rfl rfl ?_
  refine J_istore_n (q := 4) (lv' := [(3, vi (0)), (2, vi (1)), (0, vr (some a0)), (1, vi (x1))]) C0 rfl (G_nl C1 (by decide)) dX12_areHome_3 rfl rfl ?_
  refine J_sub (lv' := [(0, vr (some a0)), (1, vi (x1)), (2, vi (1)), (3, vi (0))]) [2, 3, 1, 0] rfl ?_
  exact t_X12_areHome_L4 C1 (hT) (h0)    N (x1) (1) (0)  hf
def f_X12_again_L43 (N : Nat) (a0 : Nat) : Nat → Int32 → Int32 → Int32 → Sg → Option (Int32 × Sg)
  | 0, _, _, _, _ => none
  | n + 1, v1, v2, v3, σ =>
  if (v2) < (v3) then
  (some ((-1), σ))
  else
  (Option.bind (sg_R σ a0 24) fun b6 =>
  if (19 : Int32) < 0 ∨ sg_L σ b6 ≤ (19 : Int32).toNatClampNeg then none else
  Option.bind (f_X12_goSpots N a0 (((sg_I σ b6 (19 : Int32).toNatClampNeg) + (v3)) - (1)) σ) fun p8 =>
  Option.bind (f_X12_areHome N a0 (v1) p8) fun p9 =>
  if (p9) = (0) then
  (f_X12_again_L43 N a0 n (v1) (v2) (v3 + 1) (p8))
  else
  (some (v3, p8)))
def f_X12_again_B40 (N : Nat) (a0 : Nat) (v1 : Int32) (s0 : Int32) (σ : Sg) : Option (Int32 × Sg) :=
  f_X12_again_L43 N a0 N (v1) (s0) (1) σ
def f_X12_again_B22 (N : Nat) (a0 : Nat) (v1 : Int32) (σ : Sg) : Option (Int32 × Sg) :=
  Option.bind (f_X12_startSpots N a0  σ) fun p3 =>
  if (v1) = ((-1)) then
  (f_X12_again_B40 N a0 (v1) (9999) (p3))
  else
  (f_X12_again_B40 N a0 (v1) (999) (p3))
def f_X12_again (N : Nat) (a0 : Nat) (x1 : Int32) (σ : Sg) : Option (Int32 × Sg) :=
  if (sg_I σ a0 20) = (0) then
  (some ((-1), σ))
  else
  (if (x1) = ((-1)) then
  (f_X12_again_B22 N a0 (x1) σ)
  else
  (Option.bind (f_X12_isWheel a0 (x1) σ) fun p11 =>
  if (p11) = (0) then
  (some ((-1), σ))
  else
  (f_X12_again_B22 N a0 (x1) σ)))
set_option maxHeartbeats 4000000 in
set_option maxRecDepth 100000 in
theorem t_X12_again_L43 {N : Nat} {a0 : Nat} {Γ : Gm} {σ0 : Sg} {r : (Int32 × Sg)} (C1 : CM Γ cX12_again RX12 4 (some .int) 8 184 0 0 (fun r_ τ_ => (r_ = some (vi r.1)) ∧ τ_ = r.2 ∧ sg_T τ_ ∧ sg_E σ0 τ_)) : ∀ (n : Nat) (v1 : Int32) (v2 : Int32) (v3 : Int32) (σ : Sg), sg_T σ → sg_E σ0 σ → is_A σ a0 11 → f_X12_again_L43 N a0  n v1 v2 v3 σ = some r → J_ Γ 43 [(0, vr (some a0)), (1, vi (v1)), (2, vi (v2)), (3, vi (v3))] [] σ 0 0 := by
  have C0 := C1.1
  intro n
  induction n with
  | zero => intro v1 v2 v3 σ hT hE h0  hf; unfold f_X12_again_L43 at hf; cases hf
  | succ n ih =>
    intro v1 v2 v3 σ hT hE h0  hf
    rw [f_X12_again_L43] at hf
    refine J_iload_n (q := 44) C0 3 rfl rfl dX12_again_43 rfl ?_
    refine J_iload_n (q := 45) C0 2 rfl rfl dX12_again_44 rfl ?_
    refine J_icmp_gt (t := 79) (q := 48) C0 dX12_again_45 (by decide) rfl hf (fun c5 hf => ?_) (fun c5 hf => ?_)
    · refine J_iconst (q := 80) (v := (-1)) C0 dX12_again_79 rfl rfl ?_
      obtain rfl := Option.some.inj hf; exact J_iret C1 dX12_again_80 rfl (Nat.zero_le _) (Nat.zero_le _) ⟨rfl, rfl, hT, hE⟩
    · refine J_aload_n (q := 49) C0 0 rfl rfl dX12_again_48 rfl trivial ?_
      refine J_aload_n (q := 50) C0 0 rfl rfl dX12_again_49 rfl trivial ?_
      refine J_getR (q := 53) C0 fl_X12_52_11 rfl (h0) rfl dX12_again_50 rfl ?_
      refine J_bipush (q := 55) (v := 19) C0 dX12_again_53 rfl rfl ?_
      refine K_some hf (fun b6 hb6 hf => ?_)
      have ab6 : is_A σ b6 12 := ((sg_T.op hT (j := 24) (h0) rfl)) b6 hb6
      refine K_chk hf (fun c7 hf => ?_)
      refine J_iald (q := 56) C0 hb6 (ab6) c7 dX12_again_55 rfl ?_
      refine J_iload_n (q := 57) C0 3 rfl rfl dX12_again_56 rfl ?_
      refine J_iadd (q := 58) C0 dX12_again_57 rfl ?_
      refine J_iconst (q := 59) (v := 1) C0 dX12_again_58 rfl rfl ?_
      refine J_isub (q := 60) C0 dX12_again_59 rfl ?_
      refine K_some hf (fun p8 hp8 hf => ?_)
      refine J_callV (q := 63) (ci := 11) (as := [vi (((sg_I σ b6 (19 : Int32).toNatClampNeg) + (v3)) - (1))]) (rest := []) C0 rfl (h0) (t_X12_goSpots N a0 (((sg_I σ b6 (19 : Int32).toNatClampNeg) + (v3)) - (1)) (hT) (h0)  hp8) ml_X12_goSpots lk_X12_355 im_X12_goSpots se_X12_goSpots rfl (by decide) dX12_again_60 rfl rfl rfl (by simp [ac_]) C1.room (by decide) (by decide) (by decide) (by decide) (fun r_ τ_ hQ => ?_)
      obtain ⟨rfl, ht_, Tp8, Ep8⟩ := hQ; have ht_ := ht_.symm; subst ht_
      show J_ Γ 63 [(0, vr (some a0)), (1, vi (v1)), (2, vi (v2)), (3, vi (v3))] [] p8 0 0
      refine J_aload_n (q := 64) C0 0 rfl rfl dX12_again_63 rfl trivial ?_
      refine J_iload_n (q := 65) C0 1 rfl rfl dX12_again_64 rfl ?_
      refine K_some hf (fun p9 hp9 hf => ?_)
      refine J_callV (q := 68) (ci := 11) (as := [vi (v1)]) (rest := []) C0 rfl ((Ep8.at h0)) (t_X12_areHome N a0 (v1) (Tp8) ((Ep8.at h0))  hp9) ml_X12_areHome lk_X12_358 im_X12_areHome se_X12_areHome rfl (by decide) dX12_again_65 rfl rfl rfl (by simp [ac_]) C1.room (by decide) (by decide) (by decide) (by decide) (fun r_ τ_ hQ => ?_)
      obtain ⟨⟨rfl, zp9⟩, ht_⟩ := hQ; have ht_ := ht_.symm; subst ht_
      show J_ Γ 68 [(0, vr (some a0)), (1, vi (v1)), (2, vi (v2)), (3, vi (v3))] [vi (p9)] p8 0 0
      refine J_if_eq (t := 73) (q := 71) C0 dX12_again_68 (by decide) rfl hf (fun c10 hf => ?_) (fun c10 hf => ?_)
      · refine J_iinc (q := 76) (v := v3 + 1) (lv' := [(3, vi (v3 + 1)), (0, vr (some a0)), (1, vi (v1)), (2, vi (v2))]) C0 3 rfl rfl (G_nl C1 (by decide)) dX12_again_73 rfl rfl ?_
        refine J_goto (q := 43) C0 dX12_again_76 (by decide) ?_
        refine J_sub (lv' := [(0, vr (some a0)), (1, vi (v1)), (2, vi (v2)), (3, vi (v3 + 1))]) [1, 2, 3, 0] rfl ?_
        exact ih (v1) (v2) (v3 + 1) (p8) (Tp8) ((hE).tr Ep8) ((Ep8.at h0))  hf
      · refine J_iload_n (q := 72) C0 3 rfl rfl dX12_again_71 rfl ?_
        obtain rfl := Option.some.inj hf; exact J_iret C1 dX12_again_72 rfl (Nat.zero_le _) (Nat.zero_le _) ⟨rfl, rfl, Tp8, (hE).tr Ep8⟩
set_option maxHeartbeats 4000000 in
set_option maxRecDepth 100000 in
theorem t_X12_again_B40 {N : Nat} {a0 : Nat} {Γ : Gm} {σ0 : Sg} {r : (Int32 × Sg)} (C1 : CM Γ cX12_again RX12 4 (some .int) 8 184 0 0 (fun r_ τ_ => (r_ = some (vi r.1)) ∧ τ_ = r.2 ∧ sg_T τ_ ∧ sg_E σ0 τ_)) (v1 : Int32) (s0 : Int32) (σ : Sg) (hT : sg_T σ) (hE : sg_E σ0 σ) (h0 : is_A σ a0 11) (hf : f_X12_again_B40 N a0  v1 s0 σ = some r) : J_ Γ 40 [(0, vr (some a0)), (1, vi (v1))] [vi (s0)] σ 0 0 := by
  have C0 := C1.1
  unfold f_X12_again_B40 at hf
  refine J_istore_n (q := 41) (lv' := [(2, vi (s0)), (0, vr (some a0)), (1, vi (v1))]) C0 rfl (G_nl C1 (by decide)) dX12_again_40 rfl rfl ?_
  refine J_iconst (q := 42) (v := 1) C0 dX12_again_41 rfl rfl ?_
  refine J_istore_n (q := 43) (lv' := [(3, vi (1)), (2, vi (s0)), (0, vr (some a0)), (1, vi (v1))]) C0 rfl (G_nl C1 (by decide)) dX12_again_42 rfl rfl ?_
  refine J_sub (lv' := [(0, vr (some a0)), (1, vi (v1)), (2, vi (s0)), (3, vi (1))]) [2, 3, 1, 0] rfl ?_
  exact t_X12_again_L43 C1    N (v1) (s0) (1) σ (hT) (hE) (h0)  hf
set_option maxHeartbeats 4000000 in
set_option maxRecDepth 100000 in
theorem t_X12_again_B22 {N : Nat} {a0 : Nat} {Γ : Gm} {σ0 : Sg} {r : (Int32 × Sg)} (C1 : CM Γ cX12_again RX12 4 (some .int) 8 184 0 0 (fun r_ τ_ => (r_ = some (vi r.1)) ∧ τ_ = r.2 ∧ sg_T τ_ ∧ sg_E σ0 τ_)) (v1 : Int32) (σ : Sg) (hT : sg_T σ) (hE : sg_E σ0 σ) (h0 : is_A σ a0 11) (hf : f_X12_again_B22 N a0  v1 σ = some r) : J_ Γ 22 [(0, vr (some a0)), (1, vi (v1))] [] σ 0 0 := by
  have C0 := C1.1
  unfold f_X12_again_B22 at hf
  refine J_aload_n (q := 23) C0 0 rfl rfl dX12_again_22 rfl trivial ?_
  refine K_some hf (fun p3 hp3 hf => ?_)
  refine J_callV (q := 26) (ci := 11) (as := []) (rest := []) C0 rfl (h0) (t_X12_startSpots N a0  (hT) (h0)  hp3) ml_X12_startSpots lk_X12_352 im_X12_startSpots se_X12_startSpots rfl (by decide) dX12_again_23 rfl rfl rfl (by simp [ac_]) C1.room (by decide) (by decide) (by decide) (by decide) (fun r_ τ_ hQ => ?_)
  obtain ⟨rfl, ht_, Tp3, Ep3⟩ := hQ; have ht_ := ht_.symm; subst ht_
  show J_ Γ 26 [(0, vr (some a0)), (1, vi (v1))] [] p3 0 0
  refine J_iload_n (q := 27) C0 1 rfl rfl dX12_again_26 rfl ?_
  refine J_iconst (q := 28) (v := (-1)) C0 dX12_again_27 rfl rfl ?_
  refine J_icmp_ne (t := 37) (q := 31) C0 dX12_again_28 (by decide) rfl hf (fun c4 hf => ?_) (fun c4 hf => ?_)
  · refine J_sipush (q := 40) (v := 999) C0 dX12_again_37 rfl rfl ?_
    exact t_X12_again_B40 C1    (v1) (999) (p3) (Tp3) ((hE).tr Ep3) ((Ep3.at h0))  hf
  · refine J_sipush (q := 34) (v := 9999) C0 dX12_again_31 rfl rfl ?_
    refine J_goto (q := 40) C0 dX12_again_34 (by decide) ?_
    exact t_X12_again_B40 C1    (v1) (9999) (p3) (Tp3) ((hE).tr Ep3) ((Ep3.at h0))  hf
set_option maxHeartbeats 4000000 in
set_option maxRecDepth 100000 in
theorem t_X12_again (N : Nat) (a0 : Nat) (x1 : Int32) {σ : Sg} (hT : sg_T σ) (h0 : is_A σ a0 11) {r : (Int32 × Sg)} (hf : f_X12_again N a0 x1 σ = some r) : Ct yX12_again cX12_again 4 (some .int) 8 184 0 0 [vr (some a0), vi x1] σ (fun r_ τ_ => (r_ = some (vi r.1)) ∧ τ_ = r.2 ∧ sg_T τ_ ∧ sg_E σ τ_) := by
  refine Ct.of (by decide +kernel) (Nat.le_of_ble_eq_true rfl) (fun Γ C1 => ?_)
  have C0 := C1.1
  have hE : sg_E σ σ := sg_E.rf
  unfold f_X12_again at hf
  show J_ Γ 0 [(0, vr (some a0)), (1, vi (x1))] [] σ 0 0
  refine J_aload_n (q := 1) C0 0 rfl rfl dX12_again_0 rfl trivial ?_
  refine J_getI (q := 4) C0 fl_X12_263_11 rfl (h0) rfl dX12_again_1 rfl ?_
  refine J_if_eq (t := 20) (q := 7) C0 dX12_again_4 (by decide) rfl hf (fun c1 hf => ?_) (fun c1 hf => ?_)
  · refine J_iconst (q := 21) (v := (-1)) C0 dX12_again_20 rfl rfl ?_
    obtain rfl := Option.some.inj hf; exact J_iret C1 dX12_again_21 rfl (Nat.zero_le _) (Nat.zero_le _) ⟨rfl, rfl, hT, hE⟩
  · refine J_iload_n (q := 8) C0 1 rfl rfl dX12_again_7 rfl ?_
    refine J_iconst (q := 9) (v := (-1)) C0 dX12_again_8 rfl rfl ?_
    refine J_icmp_eq (t := 22) (q := 12) C0 dX12_again_9 (by decide) rfl hf (fun c2 hf => ?_) (fun c2 hf => ?_)
    · exact t_X12_again_B22 C1    (x1) σ (hT) (hE) (h0)  hf
    · refine J_aload_n (q := 13) C0 0 rfl rfl dX12_again_12 rfl trivial ?_
      refine J_iload_n (q := 14) C0 1 rfl rfl dX12_again_13 rfl ?_
      refine K_some hf (fun p11 hp11 hf => ?_)
      refine J_callV (q := 17) (ci := 11) (as := [vi (x1)]) (rest := []) C0 rfl (h0) (t_X12_isWheel a0 (x1) (h0)  hp11) ml_X12_isWheel lk_X12_307 im_X12_isWheel se_X12_isWheel rfl (by decide) dX12_again_14 rfl rfl rfl (by simp [ac_]) C1.room (by decide) (by decide) (by decide) (by decide) (fun r_ τ_ hQ => ?_)
      obtain ⟨⟨rfl, zp11⟩, ht_⟩ := hQ; have ht_ := ht_.symm; subst ht_
      show J_ Γ 17 [(0, vr (some a0)), (1, vi (x1))] [vi (p11)] σ 0 0
      refine J_if_ne (t := 22) (q := 20) C0 dX12_again_17 (by decide) rfl hf (fun c12 hf => ?_) (fun c12 hf => ?_)
      · exact t_X12_again_B22 C1    (x1) σ (hT) (hE) (h0)  hf
      · refine J_iconst (q := 21) (v := (-1)) C0 dX12_again_20 rfl rfl ?_
        obtain rfl := Option.some.inj hf; exact J_iret C1 dX12_again_21 rfl (Nat.zero_le _) (Nat.zero_le _) ⟨rfl, rfl, hT, hE⟩
def f_X12_spotShows (a0 : Nat) (x1 : Int32) (σ : Sg) : Option Int32 :=
  Option.bind (f_X12_of a0 (x1) (3) σ) fun p1 =>
  Option.bind (sg_R σ a0 33) fun b2 =>
  if (x1) < 0 ∨ sg_L σ b2 ≤ (x1).toNatClampNeg then none else
  Option.bind (f_X12_pictureAt a0 (p1) (sg_I σ b2 (x1).toNatClampNeg) σ) fun p4 =>
  some (p4)
set_option maxHeartbeats 4000000 in
set_option maxRecDepth 100000 in
theorem t_X12_spotShows (a0 : Nat) (x1 : Int32) {σ : Sg} (hT : sg_T σ) (h0 : is_A σ a0 11) {r : Int32} (hf : f_X12_spotShows a0 x1 σ = some r) : Ct yX12_spotShows cX12_spotShows 2 (some .int) 1 22 0 0 [vr (some a0), vi x1] σ (fun r_ τ_ => (r_ = some (vi r)) ∧ τ_ = σ) := by
  refine Ct.of (by decide +kernel) (Nat.le_of_ble_eq_true rfl) (fun Γ C1 => ?_)
  have C0 := C1.1
  unfold f_X12_spotShows at hf
  show J_ Γ 0 [(0, vr (some a0)), (1, vi (x1))] [] σ 0 0
  refine J_aload_n (q := 1) C0 0 rfl rfl dX12_spotShows_0 rfl trivial ?_
  refine J_aload_n (q := 2) C0 0 rfl rfl dX12_spotShows_1 rfl trivial ?_
  refine J_iload_n (q := 3) C0 1 rfl rfl dX12_spotShows_2 rfl ?_
  refine J_iconst (q := 4) (v := 3) C0 dX12_spotShows_3 rfl rfl ?_
  refine K_some hf (fun p1 hp1 hf => ?_)
  refine J_callV (q := 7) (ci := 11) (as := [vi (x1), vi (3)]) (rest := [vr (some a0)]) C0 rfl (h0) (t_X12_of a0 (x1) (3) (hT) (h0)  hp1) ml_X12_of lk_X12_254 im_X12_of se_X12_of rfl (by decide) dX12_spotShows_4 rfl rfl rfl (by simp [ac_]) C1.room (by decide) (by decide) (by decide) (by decide) (fun r_ τ_ hQ => ?_)
  obtain ⟨rfl, ht_⟩ := hQ; have ht_ := ht_.symm; subst ht_
  show J_ Γ 7 [(0, vr (some a0)), (1, vi (x1))] [vi (p1), vr (some a0)] σ 0 0
  refine J_aload_n (q := 8) C0 0 rfl rfl dX12_spotShows_7 rfl trivial ?_
  refine J_getR (q := 11) C0 fl_X12_74_11 rfl (h0) rfl dX12_spotShows_8 rfl ?_
  refine J_iload_n (q := 12) C0 1 rfl rfl dX12_spotShows_11 rfl ?_
  refine K_some hf (fun b2 hb2 hf => ?_)
  have ab2 : is_A σ b2 12 := ((sg_T.op hT (j := 33) (h0) rfl)) b2 hb2
  refine K_chk hf (fun c3 hf => ?_)
  refine J_iald (q := 13) C0 hb2 (ab2) c3 dX12_spotShows_12 rfl ?_
  refine K_some hf (fun p4 hp4 hf => ?_)
  refine J_callV (q := 16) (ci := 11) (as := [vi (p1), vi (sg_I σ b2 (x1).toNatClampNeg)]) (rest := []) C0 rfl (h0) (t_X12_pictureAt a0 (p1) (sg_I σ b2 (x1).toNatClampNeg) (hT) (h0)  hp4) ml_X12_pictureAt lk_X12_260 im_X12_pictureAt se_X12_pictureAt rfl (by decide) dX12_spotShows_13 rfl rfl rfl (by simp [ac_]) C1.room (by decide) (by decide) (by decide) (by decide) (fun r_ τ_ hQ => ?_)
  obtain ⟨rfl, ht_⟩ := hQ; have ht_ := ht_.symm; subst ht_
  show J_ Γ 16 [(0, vr (some a0)), (1, vi (x1))] [vi (p4)] σ 0 0
  obtain rfl := Option.some.inj hf; exact J_iret C1 dX12_spotShows_16 rfl (Nat.zero_le _) (Nat.zero_le _) ⟨rfl, rfl⟩
def f_X12_meets_B61 (N : Nat) (a0 : Nat) (k29 : Int32 → Int32 → Int32 → Sg → Option (Int32 × Sg)) (v1 : Int32) (v2 : Int32) (v3 : Int32) (σ : Sg) : Option (Int32 × Sg) :=
  Option.bind (sg_R σ a0 24) fun b10 =>
  if (19 : Int32) < 0 ∨ sg_L σ b10 ≤ (19 : Int32).toNatClampNeg then none else
  Option.bind (f_X12_goSpots N a0 ((sg_I σ b10 (19 : Int32).toNatClampNeg) + (v3)) σ) fun p12 =>
  k29 (v1) (v2) (v3 + 1) (p12)
def f_X12_meets_L29 (N : Nat) (a0 : Nat) : Nat → Int32 → Int32 → Int32 → Sg → Option (Int32 × Sg)
  | 0, _, _, _, _ => none
  | n + 1, v1, v2, v3, σ =>
  if (999) < (v3) then
  (some ((-1), σ))
  else
  (Option.bind (f_X12_spotShows a0 (v1) σ) fun p8 =>
  if (p8) = (26) then
  (f_X12_meets_B61 N a0 (f_X12_meets_L29 N a0 n) (v1) (v2) (v3) σ)
  else
  (Option.bind (f_X12_spotShows a0 (v1) σ) fun p13 =>
  Option.bind (f_X12_spotShows a0 (v2) σ) fun p14 =>
  if (p13) = (p14) then
  (some (v3, σ))
  else
  (f_X12_meets_B61 N a0 (f_X12_meets_L29 N a0 n) (v1) (v2) (v3) σ)))
def f_X12_meets (N : Nat) (a0 : Nat) (x1 : Int32) (x2 : Int32) (σ : Sg) : Option (Int32 × Sg) :=
  Option.bind (f_X12_isWheel a0 (x1) σ) fun p1 =>
  if (p1) = (0) then
  (some ((-1), σ))
  else
  (Option.bind (f_X12_isWheel a0 (x2) σ) fun p3 =>
  if (p3) = (0) then
  (some ((-1), σ))
  else
  (if (x1) = (x2) then
  (some ((-1), σ))
  else
  (Option.bind (f_X12_startSpots N a0  σ) fun p6 =>
  f_X12_meets_L29 N a0 N (x1) (x2) (0) (p6))))
set_option maxHeartbeats 4000000 in
set_option maxRecDepth 100000 in
theorem t_X12_meets_B61 {N : Nat} {a0 : Nat} {Γ : Gm} {σ0 : Sg} {r : (Int32 × Sg)} (C1 : CM Γ cX12_meets RX12 4 (some .int) 8 184 0 0 (fun r_ τ_ => (r_ = some (vi r.1)) ∧ τ_ = r.2 ∧ sg_T τ_ ∧ sg_E σ0 τ_)) (k29 : Int32 → Int32 → Int32 → Sg → Option (Int32 × Sg)) (hk29 : ∀ (v1 : Int32) (v2 : Int32) (v3 : Int32) (σ : Sg), sg_T σ → sg_E σ0 σ → is_A σ a0 11 → k29 v1 v2 v3 σ = some r → J_ Γ 29 [(0, vr (some a0)), (1, vi v1), (2, vi v2), (3, vi v3)] [] σ 0 0) (v1 : Int32) (v2 : Int32) (v3 : Int32) (σ : Sg) (hT : sg_T σ) (hE : sg_E σ0 σ) (h0 : is_A σ a0 11) (hf : f_X12_meets_B61 N a0 k29  v1 v2 v3 σ = some r) : J_ Γ 61 [(0, vr (some a0)), (1, vi (v1)), (2, vi (v2)), (3, vi (v3))] [] σ 0 0 := by
  have C0 := C1.1
  unfold f_X12_meets_B61 at hf
  refine J_aload_n (q := 62) C0 0 rfl rfl dX12_meets_61 rfl trivial ?_
  refine J_aload_n (q := 63) C0 0 rfl rfl dX12_meets_62 rfl trivial ?_
  refine J_getR (q := 66) C0 fl_X12_52_11 rfl (h0) rfl dX12_meets_63 rfl ?_
  refine J_bipush (q := 68) (v := 19) C0 dX12_meets_66 rfl rfl ?_
  refine K_some hf (fun b10 hb10 hf => ?_)
  have ab10 : is_A σ b10 12 := ((sg_T.op hT (j := 24) (h0) rfl)) b10 hb10
  refine K_chk hf (fun c11 hf => ?_)
  refine J_iald (q := 69) C0 hb10 (ab10) c11 dX12_meets_68 rfl ?_
  refine J_iload_n (q := 70) C0 3 rfl rfl dX12_meets_69 rfl ?_
  refine J_iadd (q := 71) C0 dX12_meets_70 rfl ?_
  refine K_some hf (fun p12 hp12 hf => ?_)
  refine J_callV (q := 74) (ci := 11) (as := [vi ((sg_I σ b10 (19 : Int32).toNatClampNeg) + (v3))]) (rest := []) C0 rfl (h0) (t_X12_goSpots N a0 ((sg_I σ b10 (19 : Int32).toNatClampNeg) + (v3)) (hT) (h0)  hp12) ml_X12_goSpots lk_X12_355 im_X12_goSpots se_X12_goSpots rfl (by decide) dX12_meets_71 rfl rfl rfl (by simp [ac_]) C1.room (by decide) (by decide) (by decide) (by decide) (fun r_ τ_ hQ => ?_)
  obtain ⟨rfl, ht_, Tp12, Ep12⟩ := hQ; have ht_ := ht_.symm; subst ht_
  show J_ Γ 74 [(0, vr (some a0)), (1, vi (v1)), (2, vi (v2)), (3, vi (v3))] [] p12 0 0
  refine J_iinc (q := 77) (v := v3 + 1) (lv' := [(3, vi (v3 + 1)), (0, vr (some a0)), (1, vi (v1)), (2, vi (v2))]) C0 3 rfl rfl (G_nl C1 (by decide)) dX12_meets_74 rfl rfl ?_
  refine J_goto (q := 29) C0 dX12_meets_77 (by decide) ?_
  refine J_sub (lv' := [(0, vr (some a0)), (1, vi (v1)), (2, vi (v2)), (3, vi (v3 + 1))]) [1, 2, 3, 0] rfl ?_
  exact hk29 (v1) (v2) (v3 + 1) (p12) (Tp12) ((hE).tr Ep12)  ((Ep12.at h0))  hf
set_option maxHeartbeats 4000000 in
set_option maxRecDepth 100000 in
theorem t_X12_meets_L29 {N : Nat} {a0 : Nat} {Γ : Gm} {σ0 : Sg} {r : (Int32 × Sg)} (C1 : CM Γ cX12_meets RX12 4 (some .int) 8 184 0 0 (fun r_ τ_ => (r_ = some (vi r.1)) ∧ τ_ = r.2 ∧ sg_T τ_ ∧ sg_E σ0 τ_)) : ∀ (n : Nat) (v1 : Int32) (v2 : Int32) (v3 : Int32) (σ : Sg), sg_T σ → sg_E σ0 σ → is_A σ a0 11 → f_X12_meets_L29 N a0  n v1 v2 v3 σ = some r → J_ Γ 29 [(0, vr (some a0)), (1, vi (v1)), (2, vi (v2)), (3, vi (v3))] [] σ 0 0 := by
  have C0 := C1.1
  intro n
  induction n with
  | zero => intro v1 v2 v3 σ hT hE h0  hf; unfold f_X12_meets_L29 at hf; cases hf
  | succ n ih =>
    intro v1 v2 v3 σ hT hE h0  hf
    rw [f_X12_meets_L29] at hf
    refine J_iload_n (q := 30) C0 3 rfl rfl dX12_meets_29 rfl ?_
    refine J_sipush (q := 33) (v := 999) C0 dX12_meets_30 rfl rfl ?_
    refine J_icmp_gt (t := 80) (q := 36) C0 dX12_meets_33 (by decide) rfl hf (fun c7 hf => ?_) (fun c7 hf => ?_)
    · refine J_iconst (q := 81) (v := (-1)) C0 dX12_meets_80 rfl rfl ?_
      obtain rfl := Option.some.inj hf; exact J_iret C1 dX12_meets_81 rfl (Nat.zero_le _) (Nat.zero_le _) ⟨rfl, rfl, hT, hE⟩
    · refine J_aload_n (q := 37) C0 0 rfl rfl dX12_meets_36 rfl trivial ?_
      refine J_iload_n (q := 38) C0 1 rfl rfl dX12_meets_37 rfl ?_
      refine K_some hf (fun p8 hp8 hf => ?_)
      refine J_callV (q := 41) (ci := 11) (as := [vi (v1)]) (rest := []) C0 rfl (h0) (t_X12_spotShows a0 (v1) (hT) (h0)  hp8) ml_X12_spotShows lk_X12_361 im_X12_spotShows se_X12_spotShows rfl (by decide) dX12_meets_38 rfl rfl rfl (by simp [ac_]) C1.room (by decide) (by decide) (by decide) (by decide) (fun r_ τ_ hQ => ?_)
      obtain ⟨rfl, ht_⟩ := hQ; have ht_ := ht_.symm; subst ht_
      show J_ Γ 41 [(0, vr (some a0)), (1, vi (v1)), (2, vi (v2)), (3, vi (v3))] [vi (p8)] σ 0 0
      refine J_bipush (q := 43) (v := 26) C0 dX12_meets_41 rfl rfl ?_
      refine J_icmp_eq (t := 61) (q := 46) C0 dX12_meets_43 (by decide) rfl hf (fun c9 hf => ?_) (fun c9 hf => ?_)
      · exact t_X12_meets_B61 C1  (f_X12_meets_L29 N a0 n)  ih  (v1) (v2) (v3) σ (hT) (hE) (h0)  hf
      · refine J_aload_n (q := 47) C0 0 rfl rfl dX12_meets_46 rfl trivial ?_
        refine J_iload_n (q := 48) C0 1 rfl rfl dX12_meets_47 rfl ?_
        refine K_some hf (fun p13 hp13 hf => ?_)
        refine J_callV (q := 51) (ci := 11) (as := [vi (v1)]) (rest := []) C0 rfl (h0) (t_X12_spotShows a0 (v1) (hT) (h0)  hp13) ml_X12_spotShows lk_X12_361 im_X12_spotShows se_X12_spotShows rfl (by decide) dX12_meets_48 rfl rfl rfl (by simp [ac_]) C1.room (by decide) (by decide) (by decide) (by decide) (fun r_ τ_ hQ => ?_)
        obtain ⟨rfl, ht_⟩ := hQ; have ht_ := ht_.symm; subst ht_
        show J_ Γ 51 [(0, vr (some a0)), (1, vi (v1)), (2, vi (v2)), (3, vi (v3))] [vi (p13)] σ 0 0
        refine J_aload_n (q := 52) C0 0 rfl rfl dX12_meets_51 rfl trivial ?_
        refine J_iload_n (q := 53) C0 2 rfl rfl dX12_meets_52 rfl ?_
        refine K_some hf (fun p14 hp14 hf => ?_)
        refine J_callV (q := 56) (ci := 11) (as := [vi (v2)]) (rest := [vi (p13)]) C0 rfl (h0) (t_X12_spotShows a0 (v2) (hT) (h0)  hp14) ml_X12_spotShows lk_X12_361 im_X12_spotShows se_X12_spotShows rfl (by decide) dX12_meets_53 rfl rfl rfl (by simp [ac_]) C1.room (by decide) (by decide) (by decide) (by decide) (fun r_ τ_ hQ => ?_)
        obtain ⟨rfl, ht_⟩ := hQ; have ht_ := ht_.symm; subst ht_
        show J_ Γ 56 [(0, vr (some a0)), (1, vi (v1)), (2, vi (v2)), (3, vi (v3))] [vi (p14), vi (p13)] σ 0 0
        refine J_icmp_ne (t := 61) (q := 59) C0 dX12_meets_56 (by decide) rfl hf (fun c15 hf => ?_) (fun c15 hf => ?_)
        · exact t_X12_meets_B61 C1  (f_X12_meets_L29 N a0 n)  ih  (v1) (v2) (v3) σ (hT) (hE) (h0)  hf
        · refine J_iload_n (q := 60) C0 3 rfl rfl dX12_meets_59 rfl ?_
          obtain rfl := Option.some.inj hf; exact J_iret C1 dX12_meets_60 rfl (Nat.zero_le _) (Nat.zero_le _) ⟨rfl, rfl, hT, hE⟩
set_option maxHeartbeats 4000000 in
set_option maxRecDepth 100000 in
theorem t_X12_meets (N : Nat) (a0 : Nat) (x1 : Int32) (x2 : Int32) {σ : Sg} (hT : sg_T σ) (h0 : is_A σ a0 11) {r : (Int32 × Sg)} (hf : f_X12_meets N a0 x1 x2 σ = some r) : Ct yX12_meets cX12_meets 4 (some .int) 8 184 0 0 [vr (some a0), vi x1, vi x2] σ (fun r_ τ_ => (r_ = some (vi r.1)) ∧ τ_ = r.2 ∧ sg_T τ_ ∧ sg_E σ τ_) := by
  refine Ct.of (by decide +kernel) (Nat.le_of_ble_eq_true rfl) (fun Γ C1 => ?_)
  have C0 := C1.1
  have hE : sg_E σ σ := sg_E.rf
  unfold f_X12_meets at hf
  show J_ Γ 0 [(0, vr (some a0)), (1, vi (x1)), (2, vi (x2))] [] σ 0 0
  refine J_aload_n (q := 1) C0 0 rfl rfl dX12_meets_0 rfl trivial ?_
  refine J_iload_n (q := 2) C0 1 rfl rfl dX12_meets_1 rfl ?_
  refine K_some hf (fun p1 hp1 hf => ?_)
  refine J_callV (q := 5) (ci := 11) (as := [vi (x1)]) (rest := []) C0 rfl (h0) (t_X12_isWheel a0 (x1) (h0)  hp1) ml_X12_isWheel lk_X12_307 im_X12_isWheel se_X12_isWheel rfl (by decide) dX12_meets_2 rfl rfl rfl (by simp [ac_]) C1.room (by decide) (by decide) (by decide) (by decide) (fun r_ τ_ hQ => ?_)
  obtain ⟨⟨rfl, zp1⟩, ht_⟩ := hQ; have ht_ := ht_.symm; subst ht_
  show J_ Γ 5 [(0, vr (some a0)), (1, vi (x1)), (2, vi (x2))] [vi (p1)] σ 0 0
  refine J_if_eq (t := 21) (q := 8) C0 dX12_meets_5 (by decide) rfl hf (fun c2 hf => ?_) (fun c2 hf => ?_)
  · refine J_iconst (q := 22) (v := (-1)) C0 dX12_meets_21 rfl rfl ?_
    obtain rfl := Option.some.inj hf; exact J_iret C1 dX12_meets_22 rfl (Nat.zero_le _) (Nat.zero_le _) ⟨rfl, rfl, hT, hE⟩
  · refine J_aload_n (q := 9) C0 0 rfl rfl dX12_meets_8 rfl trivial ?_
    refine J_iload_n (q := 10) C0 2 rfl rfl dX12_meets_9 rfl ?_
    refine K_some hf (fun p3 hp3 hf => ?_)
    refine J_callV (q := 13) (ci := 11) (as := [vi (x2)]) (rest := []) C0 rfl (h0) (t_X12_isWheel a0 (x2) (h0)  hp3) ml_X12_isWheel lk_X12_307 im_X12_isWheel se_X12_isWheel rfl (by decide) dX12_meets_10 rfl rfl rfl (by simp [ac_]) C1.room (by decide) (by decide) (by decide) (by decide) (fun r_ τ_ hQ => ?_)
    obtain ⟨⟨rfl, zp3⟩, ht_⟩ := hQ; have ht_ := ht_.symm; subst ht_
    show J_ Γ 13 [(0, vr (some a0)), (1, vi (x1)), (2, vi (x2))] [vi (p3)] σ 0 0
    refine J_if_eq (t := 21) (q := 16) C0 dX12_meets_13 (by decide) rfl hf (fun c4 hf => ?_) (fun c4 hf => ?_)
    · refine J_iconst (q := 22) (v := (-1)) C0 dX12_meets_21 rfl rfl ?_
      obtain rfl := Option.some.inj hf; exact J_iret C1 dX12_meets_22 rfl (Nat.zero_le _) (Nat.zero_le _) ⟨rfl, rfl, hT, hE⟩
    · refine J_iload_n (q := 17) C0 1 rfl rfl dX12_meets_16 rfl ?_
      refine J_iload_n (q := 18) C0 2 rfl rfl dX12_meets_17 rfl ?_
      refine J_icmp_ne (t := 23) (q := 21) C0 dX12_meets_18 (by decide) rfl hf (fun c5 hf => ?_) (fun c5 hf => ?_)
      · refine J_aload_n (q := 24) C0 0 rfl rfl dX12_meets_23 rfl trivial ?_
        refine K_some hf (fun p6 hp6 hf => ?_)
        refine J_callV (q := 27) (ci := 11) (as := []) (rest := []) C0 rfl (h0) (t_X12_startSpots N a0  (hT) (h0)  hp6) ml_X12_startSpots lk_X12_352 im_X12_startSpots se_X12_startSpots rfl (by decide) dX12_meets_24 rfl rfl rfl (by simp [ac_]) C1.room (by decide) (by decide) (by decide) (by decide) (fun r_ τ_ hQ => ?_)
        obtain ⟨rfl, ht_, Tp6, Ep6⟩ := hQ; have ht_ := ht_.symm; subst ht_
        show J_ Γ 27 [(0, vr (some a0)), (1, vi (x1)), (2, vi (x2))] [] p6 0 0
        refine J_iconst (q := 28) (v := 0) C0 dX12_meets_27 rfl rfl ?_
        refine J_istore_n (q := 29) (lv' := [(3, vi (0)), (0, vr (some a0)), (1, vi (x1)), (2, vi (x2))]) C0 rfl (G_nl C1 (by decide)) dX12_meets_28 rfl rfl ?_
        refine J_sub (lv' := [(0, vr (some a0)), (1, vi (x1)), (2, vi (x2)), (3, vi (0))]) [1, 2, 3, 0] rfl ?_
        exact t_X12_meets_L29 C1    N (x1) (x2) (0) (p6) (Tp6) ((hE).tr Ep6) ((Ep6.at h0))  hf
      · refine J_iconst (q := 22) (v := (-1)) C0 dX12_meets_21 rfl rfl ?_
        obtain rfl := Option.some.inj hf; exact J_iret C1 dX12_meets_22 rfl (Nat.zero_le _) (Nat.zero_le _) ⟨rfl, rfl, hT, hE⟩
def f_X12_reads_B81 (N : Nat) (a0 : Nat) (k23 : Int32 → Int32 → Sg → Option (Int32 × Sg)) (k35 : Int32 → Int32 → Int32 → Int32 → Sg → Option (Int32 × Sg)) (v1 : Int32) (v2 : Int32) (v4 : Int32) (s0 : Int32) (σ : Sg) : Option (Int32 × Sg) :=
  k35 (v1) (v2) (s0) (v4 + 1) σ
def f_X12_reads_B80 (N : Nat) (a0 : Nat) (k23 : Int32 → Int32 → Sg → Option (Int32 × Sg)) (k35 : Int32 → Int32 → Int32 → Int32 → Sg → Option (Int32 × Sg)) (v1 : Int32) (v2 : Int32) (v4 : Int32) (σ : Sg) : Option (Int32 × Sg) :=
  f_X12_reads_B81 N a0 k23 k35 (v1) (v2) (v4) (0) σ
def f_X12_reads_L35 (N : Nat) (a0 : Nat) (k23 : Int32 → Int32 → Sg → Option (Int32 × Sg)) : Nat → Int32 → Int32 → Int32 → Int32 → Sg → Option (Int32 × Sg)
  | 0, _, _, _, _, _ => none
  | n + 1, v1, v2, v3, v4, σ =>
  if (v4) < (sg_I σ a0 20) then
  (if (v3) = (0) then
  (f_X12_reads_B80 N a0 k23 (f_X12_reads_L35 N a0 k23 n) (v1) (v2) (v4) σ)
  else
  (Option.bind (f_X12_spotShows a0 (v4) σ) fun p12 =>
  Option.bind (sg_R σ a0 22) fun b13 =>
  if (v1) < 0 ∨ sg_L σ b13 ≤ (v1).toNatClampNeg then none else
  if (sg_I σ b13 (v1).toNatClampNeg) = 0 then none else
  Option.bind (sg_R σ a0 21) fun b16 =>
  if (((16) * (v1)) + (rm_ (v4) (sg_I σ b13 (v1).toNatClampNeg))) < 0 ∨ sg_L σ b16 ≤ (((16) * (v1)) + (rm_ (v4) (sg_I σ b13 (v1).toNatClampNeg))).toNatClampNeg then none else
  if (p12) = (sg_I σ b16 (((16) * (v1)) + (rm_ (v4) (sg_I σ b13 (v1).toNatClampNeg))).toNatClampNeg) then
  (f_X12_reads_B81 N a0 k23 (f_X12_reads_L35 N a0 k23 n) (v1) (v2) (v4) (1) σ)
  else
  (f_X12_reads_B80 N a0 k23 (f_X12_reads_L35 N a0 k23 n) (v1) (v2) (v4) σ)))
  else
  (if (v3) = (0) then
  (Option.bind (sg_R σ a0 24) fun b8 =>
  if (19 : Int32) < 0 ∨ sg_L σ b8 ≤ (19 : Int32).toNatClampNeg then none else
  Option.bind (f_X12_goSpots N a0 ((sg_I σ b8 (19 : Int32).toNatClampNeg) + (v2)) σ) fun p10 =>
  k23 (v1) (v2 + 1) (p10))
  else
  (some (v2, σ)))
def f_X12_reads_L23 (N : Nat) (a0 : Nat) : Nat → Int32 → Int32 → Sg → Option (Int32 × Sg)
  | 0, _, _, _ => none
  | n + 1, v1, v2, σ =>
  if (999) < (v2) then
  (some ((-1), σ))
  else
  (f_X12_reads_L35 N a0 (f_X12_reads_L23 N a0 n) N (v1) (v2) (1) (0) σ)
def f_X12_reads (N : Nat) (a0 : Nat) (x1 : Int32) (σ : Sg) : Option (Int32 × Sg) :=
  if (sg_I σ a0 20) = (0) then
  (some ((-1), σ))
  else
  (Option.bind (f_X12_isStrip a0 (x1) σ) fun p2 =>
  if (p2) = (0) then
  (some ((-1), σ))
  else
  (Option.bind (f_X12_startSpots N a0  σ) fun p4 =>
  f_X12_reads_L23 N a0 N (x1) (0) (p4)))
set_option maxHeartbeats 4000000 in
set_option maxRecDepth 100000 in
theorem t_X12_reads_B81 {N : Nat} {a0 : Nat} {Γ : Gm} {σ0 : Sg} {r : (Int32 × Sg)} (C1 : CM Γ cX12_reads RX12 5 (some .int) 8 184 0 0 (fun r_ τ_ => (r_ = some (vi r.1)) ∧ τ_ = r.2 ∧ sg_T τ_ ∧ sg_E σ0 τ_)) (k23 : Int32 → Int32 → Sg → Option (Int32 × Sg)) (k35 : Int32 → Int32 → Int32 → Int32 → Sg → Option (Int32 × Sg)) (hk23 : ∀ (v1 : Int32) (v2 : Int32) (σ : Sg), sg_T σ → sg_E σ0 σ → is_A σ a0 11 → k23 v1 v2 σ = some r → J_ Γ 23 [(0, vr (some a0)), (1, vi v1), (2, vi v2)] [] σ 0 0) (hk35 : ∀ (v1 : Int32) (v2 : Int32) (v3 : Int32) (v4 : Int32) (σ : Sg), sg_T σ → sg_E σ0 σ → is_A σ a0 11 → k35 v1 v2 v3 v4 σ = some r → J_ Γ 35 [(0, vr (some a0)), (1, vi v1), (2, vi v2), (3, vi v3), (4, vi v4)] [] σ 0 0) (v1 : Int32) (v2 : Int32) (v4 : Int32) (s0 : Int32) (σ : Sg) (hT : sg_T σ) (hE : sg_E σ0 σ) (h0 : is_A σ a0 11) (hf : f_X12_reads_B81 N a0 k23 k35  v1 v2 v4 s0 σ = some r) : J_ Γ 81 [(0, vr (some a0)), (1, vi (v1)), (2, vi (v2)), (4, vi (v4))] [vi (s0)] σ 0 0 := by
  have C0 := C1.1
  unfold f_X12_reads_B81 at hf
  refine J_istore_n (q := 82) (lv' := [(3, vi (s0)), (0, vr (some a0)), (1, vi (v1)), (2, vi (v2)), (4, vi (v4))]) C0 rfl (G_nl C1 (by decide)) dX12_reads_81 rfl rfl ?_
  refine J_iinc (q := 85) (v := v4 + 1) (lv' := [(4, vi (v4 + 1)), (3, vi (s0)), (0, vr (some a0)), (1, vi (v1)), (2, vi (v2))]) C0 4 rfl rfl (G_nl C1 (by decide)) dX12_reads_82 rfl rfl ?_
  refine J_goto (q := 35) C0 dX12_reads_85 (by decide) ?_
  refine J_sub (lv' := [(0, vr (some a0)), (1, vi (v1)), (2, vi (v2)), (3, vi (s0)), (4, vi (v4 + 1))]) [2, 3, 4, 1, 0] rfl ?_
  exact hk35 (v1) (v2) (s0) (v4 + 1) σ (hT) (hE)  (h0)  hf
set_option maxHeartbeats 4000000 in
set_option maxRecDepth 100000 in
theorem t_X12_reads_B80 {N : Nat} {a0 : Nat} {Γ : Gm} {σ0 : Sg} {r : (Int32 × Sg)} (C1 : CM Γ cX12_reads RX12 5 (some .int) 8 184 0 0 (fun r_ τ_ => (r_ = some (vi r.1)) ∧ τ_ = r.2 ∧ sg_T τ_ ∧ sg_E σ0 τ_)) (k23 : Int32 → Int32 → Sg → Option (Int32 × Sg)) (k35 : Int32 → Int32 → Int32 → Int32 → Sg → Option (Int32 × Sg)) (hk23 : ∀ (v1 : Int32) (v2 : Int32) (σ : Sg), sg_T σ → sg_E σ0 σ → is_A σ a0 11 → k23 v1 v2 σ = some r → J_ Γ 23 [(0, vr (some a0)), (1, vi v1), (2, vi v2)] [] σ 0 0) (hk35 : ∀ (v1 : Int32) (v2 : Int32) (v3 : Int32) (v4 : Int32) (σ : Sg), sg_T σ → sg_E σ0 σ → is_A σ a0 11 → k35 v1 v2 v3 v4 σ = some r → J_ Γ 35 [(0, vr (some a0)), (1, vi v1), (2, vi v2), (3, vi v3), (4, vi v4)] [] σ 0 0) (v1 : Int32) (v2 : Int32) (v4 : Int32) (σ : Sg) (hT : sg_T σ) (hE : sg_E σ0 σ) (h0 : is_A σ a0 11) (hf : f_X12_reads_B80 N a0 k23 k35  v1 v2 v4 σ = some r) : J_ Γ 80 [(0, vr (some a0)), (1, vi (v1)), (2, vi (v2)), (4, vi (v4))] [] σ 0 0 := by
  have C0 := C1.1
  unfold f_X12_reads_B80 at hf
  refine J_iconst (q := 81) (v := 0) C0 dX12_reads_80 rfl rfl ?_
  exact t_X12_reads_B81 C1  k23  k35  hk23  hk35  (v1) (v2) (v4) (0) σ (hT) (hE) (h0)  hf
set_option maxHeartbeats 4000000 in
set_option maxRecDepth 100000 in
theorem t_X12_reads_L35 {N : Nat} {a0 : Nat} {Γ : Gm} {σ0 : Sg} {r : (Int32 × Sg)} (C1 : CM Γ cX12_reads RX12 5 (some .int) 8 184 0 0 (fun r_ τ_ => (r_ = some (vi r.1)) ∧ τ_ = r.2 ∧ sg_T τ_ ∧ sg_E σ0 τ_)) (k23 : Int32 → Int32 → Sg → Option (Int32 × Sg)) (hk23 : ∀ (v1 : Int32) (v2 : Int32) (σ : Sg), sg_T σ → sg_E σ0 σ → is_A σ a0 11 → k23 v1 v2 σ = some r → J_ Γ 23 [(0, vr (some a0)), (1, vi v1), (2, vi v2)] [] σ 0 0) : ∀ (n : Nat) (v1 : Int32) (v2 : Int32) (v3 : Int32) (v4 : Int32) (σ : Sg), sg_T σ → sg_E σ0 σ → is_A σ a0 11 → f_X12_reads_L35 N a0 k23  n v1 v2 v3 v4 σ = some r → J_ Γ 35 [(0, vr (some a0)), (1, vi (v1)), (2, vi (v2)), (3, vi (v3)), (4, vi (v4))] [] σ 0 0 := by
  have C0 := C1.1
  intro n
  induction n with
  | zero => intro v1 v2 v3 v4 σ hT hE h0  hf; unfold f_X12_reads_L35 at hf; cases hf
  | succ n ih =>
    intro v1 v2 v3 v4 σ hT hE h0  hf
    rw [f_X12_reads_L35] at hf
    refine J_iload (q := 37) C0 4 rfl dX12_reads_35 rfl ?_
    refine J_aload_n (q := 38) C0 0 rfl rfl dX12_reads_37 rfl trivial ?_
    refine J_getI (q := 41) C0 fl_X12_263_11 rfl (h0) rfl dX12_reads_38 rfl ?_
    refine J_icmp_ge (t := 88) (q := 44) C0 dX12_reads_41 (by decide) rfl hf (fun c6 hf => ?_) (fun c6 hf => ?_)
    · refine J_iload_n (q := 89) C0 3 rfl rfl dX12_reads_88 rfl ?_
      refine J_if_eq (t := 94) (q := 92) C0 dX12_reads_89 (by decide) rfl hf (fun c7 hf => ?_) (fun c7 hf => ?_)
      · refine J_aload_n (q := 95) C0 0 rfl rfl dX12_reads_94 rfl trivial ?_
        refine J_aload_n (q := 96) C0 0 rfl rfl dX12_reads_95 rfl trivial ?_
        refine J_getR (q := 99) C0 fl_X12_52_11 rfl (h0) rfl dX12_reads_96 rfl ?_
        refine J_bipush (q := 101) (v := 19) C0 dX12_reads_99 rfl rfl ?_
        refine K_some hf (fun b8 hb8 hf => ?_)
        have ab8 : is_A σ b8 12 := ((sg_T.op hT (j := 24) (h0) rfl)) b8 hb8
        refine K_chk hf (fun c9 hf => ?_)
        refine J_iald (q := 102) C0 hb8 (ab8) c9 dX12_reads_101 rfl ?_
        refine J_iload_n (q := 103) C0 2 rfl rfl dX12_reads_102 rfl ?_
        refine J_iadd (q := 104) C0 dX12_reads_103 rfl ?_
        refine K_some hf (fun p10 hp10 hf => ?_)
        refine J_callV (q := 107) (ci := 11) (as := [vi ((sg_I σ b8 (19 : Int32).toNatClampNeg) + (v2))]) (rest := []) C0 rfl (h0) (t_X12_goSpots N a0 ((sg_I σ b8 (19 : Int32).toNatClampNeg) + (v2)) (hT) (h0)  hp10) ml_X12_goSpots lk_X12_355 im_X12_goSpots se_X12_goSpots rfl (by decide) dX12_reads_104 rfl rfl rfl (by simp [ac_]) C1.room (by decide) (by decide) (by decide) (by decide) (fun r_ τ_ hQ => ?_)
        obtain ⟨rfl, ht_, Tp10, Ep10⟩ := hQ; have ht_ := ht_.symm; subst ht_
        show J_ Γ 107 [(0, vr (some a0)), (1, vi (v1)), (2, vi (v2)), (3, vi (v3)), (4, vi (v4))] [] p10 0 0
        refine J_iinc (q := 110) (v := v2 + 1) (lv' := [(2, vi (v2 + 1)), (0, vr (some a0)), (1, vi (v1)), (3, vi (v3)), (4, vi (v4))]) C0 2 rfl rfl (G_nl C1 (by decide)) dX12_reads_107 rfl rfl ?_
        refine J_goto (q := 23) C0 dX12_reads_110 (by decide) ?_
        refine J_sub (lv' := [(0, vr (some a0)), (1, vi (v1)), (2, vi (v2 + 1))]) [1, 2, 0] rfl ?_
        exact hk23 (v1) (v2 + 1) (p10) (Tp10) ((hE).tr Ep10)  ((Ep10.at h0))  hf
      · refine J_iload_n (q := 93) C0 2 rfl rfl dX12_reads_92 rfl ?_
        obtain rfl := Option.some.inj hf; exact J_iret C1 dX12_reads_93 rfl (Nat.zero_le _) (Nat.zero_le _) ⟨rfl, rfl, hT, hE⟩
    · refine J_iload_n (q := 45) C0 3 rfl rfl dX12_reads_44 rfl ?_
      refine J_if_eq (t := 80) (q := 48) C0 dX12_reads_45 (by decide) rfl hf (fun c11 hf => ?_) (fun c11 hf => ?_)
      · refine J_sub (lv' := [(0, vr (some a0)), (1, vi (v1)), (2, vi (v2)), (4, vi (v4))]) [0, 1, 2, 4] rfl ?_
        exact t_X12_reads_B80 C1  k23  (f_X12_reads_L35 N a0 k23 n)  hk23  ih  (v1) (v2) (v4) σ (hT) (hE) (h0)  hf
      · refine J_aload_n (q := 49) C0 0 rfl rfl dX12_reads_48 rfl trivial ?_
        refine J_iload (q := 51) C0 4 rfl dX12_reads_49 rfl ?_
        refine K_some hf (fun p12 hp12 hf => ?_)
        refine J_callV (q := 54) (ci := 11) (as := [vi (v4)]) (rest := []) C0 rfl (h0) (t_X12_spotShows a0 (v4) (hT) (h0)  hp12) ml_X12_spotShows lk_X12_361 im_X12_spotShows se_X12_spotShows rfl (by decide) dX12_reads_51 rfl rfl rfl (by simp [ac_]) C1.room (by decide) (by decide) (by decide) (by decide) (fun r_ τ_ hQ => ?_)
        obtain ⟨rfl, ht_⟩ := hQ; have ht_ := ht_.symm; subst ht_
        show J_ Γ 54 [(0, vr (some a0)), (1, vi (v1)), (2, vi (v2)), (3, vi (v3)), (4, vi (v4))] [vi (p12)] σ 0 0
        refine J_aload_n (q := 55) C0 0 rfl rfl dX12_reads_54 rfl trivial ?_
        refine J_getR (q := 58) C0 fl_X12_46_11 rfl (h0) rfl dX12_reads_55 rfl ?_
        refine J_bipush (q := 60) (v := 16) C0 dX12_reads_58 rfl rfl ?_
        refine J_iload_n (q := 61) C0 1 rfl rfl dX12_reads_60 rfl ?_
        refine J_imul (q := 62) C0 dX12_reads_61 rfl ?_
        refine J_iload (q := 64) C0 4 rfl dX12_reads_62 rfl ?_
        refine J_aload_n (q := 65) C0 0 rfl rfl dX12_reads_64 rfl trivial ?_
        refine J_getR (q := 68) C0 fl_X12_49_11 rfl (h0) rfl dX12_reads_65 rfl ?_
        refine J_iload_n (q := 69) C0 1 rfl rfl dX12_reads_68 rfl ?_
        refine K_some hf (fun b13 hb13 hf => ?_)
        have ab13 : is_A σ b13 12 := ((sg_T.op hT (j := 22) (h0) rfl)) b13 hb13
        refine K_chk hf (fun c14 hf => ?_)
        refine J_iald (q := 70) C0 hb13 (ab13) c14 dX12_reads_69 rfl ?_
        refine K_chk hf (fun c15 hf => ?_)
        refine J_irem (q := 71) C0 dX12_reads_70 rfl c15 ?_
        refine J_iadd (q := 72) C0 dX12_reads_71 rfl ?_
        refine K_some hf (fun b16 hb16 hf => ?_)
        have ab16 : is_A σ b16 12 := ((sg_T.op hT (j := 21) (h0) rfl)) b16 hb16
        refine K_chk hf (fun c17 hf => ?_)
        refine J_iald (q := 73) C0 hb16 (ab16) c17 dX12_reads_72 rfl ?_
        refine J_icmp_ne (t := 80) (q := 76) C0 dX12_reads_73 (by decide) rfl hf (fun c18 hf => ?_) (fun c18 hf => ?_)
        · refine J_sub (lv' := [(0, vr (some a0)), (1, vi (v1)), (2, vi (v2)), (4, vi (v4))]) [0, 1, 2, 4] rfl ?_
          exact t_X12_reads_B80 C1  k23  (f_X12_reads_L35 N a0 k23 n)  hk23  ih  (v1) (v2) (v4) σ (hT) (hE) (h0)  hf
        · refine J_iconst (q := 77) (v := 1) C0 dX12_reads_76 rfl rfl ?_
          refine J_goto (q := 81) C0 dX12_reads_77 (by decide) ?_
          refine J_sub (lv' := [(0, vr (some a0)), (1, vi (v1)), (2, vi (v2)), (4, vi (v4))]) [0, 1, 2, 4] rfl ?_
          exact t_X12_reads_B81 C1  k23  (f_X12_reads_L35 N a0 k23 n)  hk23  ih  (v1) (v2) (v4) (1) σ (hT) (hE) (h0)  hf
set_option maxHeartbeats 4000000 in
set_option maxRecDepth 100000 in
theorem t_X12_reads_L23 {N : Nat} {a0 : Nat} {Γ : Gm} {σ0 : Sg} {r : (Int32 × Sg)} (C1 : CM Γ cX12_reads RX12 5 (some .int) 8 184 0 0 (fun r_ τ_ => (r_ = some (vi r.1)) ∧ τ_ = r.2 ∧ sg_T τ_ ∧ sg_E σ0 τ_)) : ∀ (n : Nat) (v1 : Int32) (v2 : Int32) (σ : Sg), sg_T σ → sg_E σ0 σ → is_A σ a0 11 → f_X12_reads_L23 N a0  n v1 v2 σ = some r → J_ Γ 23 [(0, vr (some a0)), (1, vi (v1)), (2, vi (v2))] [] σ 0 0 := by
  have C0 := C1.1
  intro n
  induction n with
  | zero => intro v1 v2 σ hT hE h0  hf; unfold f_X12_reads_L23 at hf; cases hf
  | succ n ih =>
    intro v1 v2 σ hT hE h0  hf
    rw [f_X12_reads_L23] at hf
    refine J_iload_n (q := 24) C0 2 rfl rfl dX12_reads_23 rfl ?_
    refine J_sipush (q := 27) (v := 999) C0 dX12_reads_24 rfl rfl ?_
    refine J_icmp_gt (t := 113) (q := 30) C0 dX12_reads_27 (by decide) rfl hf (fun c5 hf => ?_) (fun c5 hf => ?_)
    · refine J_iconst (q := 114) (v := (-1)) C0 dX12_reads_113 rfl rfl ?_
      obtain rfl := Option.some.inj hf; exact J_iret C1 dX12_reads_114 rfl (Nat.zero_le _) (Nat.zero_le _) ⟨rfl, rfl, hT, hE⟩
    · refine J_iconst (q := 31) (v := 1) C0 dX12_reads_30 rfl rfl ?_
      refine J_istore_n (q := 32) (lv' := [(3, vi (1)), (0, vr (some a0)), (1, vi (v1)), (2, vi (v2))]) C0 rfl (G_nl C1 (by decide)) dX12_reads_31 rfl rfl ?_
      refine J_iconst (q := 33) (v := 0) C0 dX12_reads_32 rfl rfl ?_
      refine J_istore (q := 35) (lv' := [(4, vi (0)), (3, vi (1)), (0, vr (some a0)), (1, vi (v1)), (2, vi (v2))]) C0 (G_nl C1 (by decide)) dX12_reads_33 rfl rfl ?_
      refine J_sub (lv' := [(0, vr (some a0)), (1, vi (v1)), (2, vi (v2)), (3, vi (1)), (4, vi (0))]) [2, 3, 4, 1, 0] rfl ?_
      exact t_X12_reads_L35 C1  (f_X12_reads_L23 N a0 n)  ih  N (v1) (v2) (1) (0) σ (hT) (hE) (h0)  hf
set_option maxHeartbeats 4000000 in
set_option maxRecDepth 100000 in
theorem t_X12_reads (N : Nat) (a0 : Nat) (x1 : Int32) {σ : Sg} (hT : sg_T σ) (h0 : is_A σ a0 11) {r : (Int32 × Sg)} (hf : f_X12_reads N a0 x1 σ = some r) : Ct yX12_reads cX12_reads 5 (some .int) 8 184 0 0 [vr (some a0), vi x1] σ (fun r_ τ_ => (r_ = some (vi r.1)) ∧ τ_ = r.2 ∧ sg_T τ_ ∧ sg_E σ τ_) := by
  refine Ct.of (by decide +kernel) (Nat.le_of_ble_eq_true rfl) (fun Γ C1 => ?_)
  have C0 := C1.1
  have hE : sg_E σ σ := sg_E.rf
  unfold f_X12_reads at hf
  show J_ Γ 0 [(0, vr (some a0)), (1, vi (x1))] [] σ 0 0
  refine J_aload_n (q := 1) C0 0 rfl rfl dX12_reads_0 rfl trivial ?_
  refine J_getI (q := 4) C0 fl_X12_263_11 rfl (h0) rfl dX12_reads_1 rfl ?_
  refine J_if_eq (t := 15) (q := 7) C0 dX12_reads_4 (by decide) rfl hf (fun c1 hf => ?_) (fun c1 hf => ?_)
  · refine J_iconst (q := 16) (v := (-1)) C0 dX12_reads_15 rfl rfl ?_
    obtain rfl := Option.some.inj hf; exact J_iret C1 dX12_reads_16 rfl (Nat.zero_le _) (Nat.zero_le _) ⟨rfl, rfl, hT, hE⟩
  · refine J_aload_n (q := 8) C0 0 rfl rfl dX12_reads_7 rfl trivial ?_
    refine J_iload_n (q := 9) C0 1 rfl rfl dX12_reads_8 rfl ?_
    refine K_some hf (fun p2 hp2 hf => ?_)
    refine J_callV (q := 12) (ci := 11) (as := [vi (x1)]) (rest := []) C0 rfl (h0) (t_X12_isStrip a0 (x1) (h0)  hp2) ml_X12_isStrip lk_X12_310 im_X12_isStrip se_X12_isStrip rfl (by decide) dX12_reads_9 rfl rfl rfl (by simp [ac_]) C1.room (by decide) (by decide) (by decide) (by decide) (fun r_ τ_ hQ => ?_)
    obtain ⟨⟨rfl, zp2⟩, ht_⟩ := hQ; have ht_ := ht_.symm; subst ht_
    show J_ Γ 12 [(0, vr (some a0)), (1, vi (x1))] [vi (p2)] σ 0 0
    refine J_if_ne (t := 17) (q := 15) C0 dX12_reads_12 (by decide) rfl hf (fun c3 hf => ?_) (fun c3 hf => ?_)
    · refine J_aload_n (q := 18) C0 0 rfl rfl dX12_reads_17 rfl trivial ?_
      refine K_some hf (fun p4 hp4 hf => ?_)
      refine J_callV (q := 21) (ci := 11) (as := []) (rest := []) C0 rfl (h0) (t_X12_startSpots N a0  (hT) (h0)  hp4) ml_X12_startSpots lk_X12_352 im_X12_startSpots se_X12_startSpots rfl (by decide) dX12_reads_18 rfl rfl rfl (by simp [ac_]) C1.room (by decide) (by decide) (by decide) (by decide) (fun r_ τ_ hQ => ?_)
      obtain ⟨rfl, ht_, Tp4, Ep4⟩ := hQ; have ht_ := ht_.symm; subst ht_
      show J_ Γ 21 [(0, vr (some a0)), (1, vi (x1))] [] p4 0 0
      refine J_iconst (q := 22) (v := 0) C0 dX12_reads_21 rfl rfl ?_
      refine J_istore_n (q := 23) (lv' := [(2, vi (0)), (0, vr (some a0)), (1, vi (x1))]) C0 rfl (G_nl C1 (by decide)) dX12_reads_22 rfl rfl ?_
      refine J_sub (lv' := [(0, vr (some a0)), (1, vi (x1)), (2, vi (0))]) [1, 2, 0] rfl ?_
      exact t_X12_reads_L23 C1    N (x1) (0) (p4) (Tp4) ((hE).tr Ep4) ((Ep4.at h0))  hf
    · refine J_iconst (q := 16) (v := (-1)) C0 dX12_reads_15 rfl rfl ?_
      obtain rfl := Option.some.inj hf; exact J_iret C1 dX12_reads_16 rfl (Nat.zero_le _) (Nat.zero_le _) ⟨rfl, rfl, hT, hE⟩
def f_X12_turned_B41 (a0 : Nat) (s0 : Int32) (s1 : Int32) (s2 : Option Nat) (σ : Sg) : Option Int32 :=
  Option.bind (s2) fun b5 =>
  if ((s1) + (s0)) < 0 ∨ sg_L σ b5 ≤ ((s1) + (s0)).toNatClampNeg then none else
  some (sg_I σ b5 ((s1) + (s0)).toNatClampNeg)
def f_X12_turned (a0 : Nat) (x1 : Int32) (x2 : Int32) (x3 : Int32) (x4 : Int32) (σ : Sg) : Option Int32 :=
  Option.bind (sg_R σ a0 22) fun b1 =>
  if (x1) < 0 ∨ sg_L σ b1 ≤ (x1).toNatClampNeg then none else
  if (sg_I σ b1 (x1).toNatClampNeg) = 0 then none else
  if (x4) = (0) then
  (f_X12_turned_B41 a0 (rm_ ((x2) + (x3)) (sg_I σ b1 (x1).toNatClampNeg)) ((16) * (x1)) (sg_R σ a0 21) σ)
  else
  (f_X12_turned_B41 a0 (((sg_I σ b1 (x1).toNatClampNeg) - (1)) - (rm_ ((x2) + (x3)) (sg_I σ b1 (x1).toNatClampNeg))) ((16) * (x1)) (sg_R σ a0 21) σ)
set_option maxHeartbeats 4000000 in
set_option maxRecDepth 100000 in
theorem t_X12_turned_B41 {a0 : Nat} {Γ : Gm} {σ : Sg} {r : Int32} (C1 : CM Γ cX12_turned RX12 7 (some .int) 0 0 0 0 (fun r_ τ_ => (r_ = some (vi r)) ∧ τ_ = σ)) (hT : sg_T σ) (h0 : is_A σ a0 11) (s0 : Int32) (s1 : Int32) (s2 : Option Nat) (g_s2 : is_O σ s2 12) (hf : f_X12_turned_B41 a0  s0 s1 s2 σ = some r) : J_ Γ 41 [(0, vr (some a0))] [vi (s0), vi (s1), vr (s2)] σ 0 0 := by
  have C0 := C1.1
  unfold f_X12_turned_B41 at hf
  refine J_iadd (q := 42) C0 dX12_turned_41 rfl ?_
  refine K_some hf (fun b5 hb5 hf => ?_)
  have ab5 : is_A σ b5 12 := (g_s2) b5 hb5
  refine K_chk hf (fun c6 hf => ?_)
  refine J_iald (q := 43) C0 hb5 (ab5) c6 dX12_turned_42 rfl ?_
  obtain rfl := Option.some.inj hf; exact J_iret C1 dX12_turned_43 rfl (Nat.zero_le _) (Nat.zero_le _) ⟨rfl, rfl⟩
set_option maxHeartbeats 4000000 in
set_option maxRecDepth 100000 in
theorem t_X12_turned (a0 : Nat) (x1 : Int32) (x2 : Int32) (x3 : Int32) (x4 : Int32) {σ : Sg} (hT : sg_T σ) (h0 : is_A σ a0 11) {r : Int32} (hf : f_X12_turned a0 x1 x2 x3 x4 σ = some r) : Ct yX12_turned cX12_turned 7 (some .int) 0 0 0 0 [vr (some a0), vi x1, vi x2, vi x3, vi x4] σ (fun r_ τ_ => (r_ = some (vi r)) ∧ τ_ = σ) := by
  refine Ct.of (by decide +kernel) (Nat.le_of_ble_eq_true rfl) (fun Γ C1 => ?_)
  have C0 := C1.1
  unfold f_X12_turned at hf
  show J_ Γ 0 [(0, vr (some a0)), (1, vi (x1)), (2, vi (x2)), (3, vi (x3)), (4, vi (x4))] [] σ 0 0
  refine J_aload_n (q := 1) C0 0 rfl rfl dX12_turned_0 rfl trivial ?_
  refine J_getR (q := 4) C0 fl_X12_49_11 rfl (h0) rfl dX12_turned_1 rfl ?_
  refine J_iload_n (q := 5) C0 1 rfl rfl dX12_turned_4 rfl ?_
  refine K_some hf (fun b1 hb1 hf => ?_)
  have ab1 : is_A σ b1 12 := ((sg_T.op hT (j := 22) (h0) rfl)) b1 hb1
  refine K_chk hf (fun c2 hf => ?_)
  refine J_iald (q := 6) C0 hb1 (ab1) c2 dX12_turned_5 rfl ?_
  refine J_istore (q := 8) (lv' := [(5, vi (sg_I σ b1 (x1).toNatClampNeg)), (0, vr (some a0)), (1, vi (x1)), (2, vi (x2)), (3, vi (x3)), (4, vi (x4))]) C0 (G_nl C1 (by decide)) dX12_turned_6 rfl rfl ?_
  refine J_iload_n (q := 9) C0 3 rfl rfl dX12_turned_8 rfl ?_
  refine J_iload_n (q := 10) C0 4 rfl rfl dX12_turned_9 rfl ?_
  refine J_iadd (q := 11) C0 dX12_turned_10 rfl ?_
  refine J_iload (q := 13) C0 0 rfl dX12_turned_11 rfl ?_
  refine K_chk hf (fun c3 hf => ?_)
  refine J_irem (q := 14) C0 dX12_turned_13 rfl c3 ?_
  refine J_istore (q := 16) (lv' := [(6, vi (rm_ ((x2) + (x3)) (sg_I σ b1 (x1).toNatClampNeg))), (5, vi (sg_I σ b1 (x1).toNatClampNeg)), (0, vr (some a0)), (1, vi (x1)), (2, vi (x2)), (3, vi (x3)), (4, vi (x4))]) C0 (G_nl C1 (by decide)) dX12_turned_14 rfl rfl ?_
  refine J_aload_n (q := 17) C0 2 rfl rfl dX12_turned_16 rfl trivial ?_
  refine J_getR (q := 20) C0 fl_X12_46_11 rfl (h0) rfl dX12_turned_17 rfl ?_
  refine J_bipush (q := 22) (v := 16) C0 dX12_turned_20 rfl rfl ?_
  refine J_iload_n (q := 23) C0 3 rfl rfl dX12_turned_22 rfl ?_
  refine J_imul (q := 24) C0 dX12_turned_23 rfl ?_
  refine J_iload (q := 26) C0 6 rfl dX12_turned_24 rfl ?_
  refine J_if_eq (t := 39) (q := 29) C0 dX12_turned_26 (by decide) rfl hf (fun c4 hf => ?_) (fun c4 hf => ?_)
  · refine J_iload (q := 41) C0 0 rfl dX12_turned_39 rfl ?_
    refine J_sub (lv' := [(0, vr (some a0))]) [2] rfl ?_
    exact t_X12_turned_B41 C1 (hT) (h0)   (rm_ ((x2) + (x3)) (sg_I σ b1 (x1).toNatClampNeg)) ((16) * (x1)) (sg_R σ a0 21) ((sg_T.op hT (j := 21) (h0) rfl)) hf
  · refine J_iload (q := 31) C0 1 rfl dX12_turned_29 rfl ?_
    refine J_iconst (q := 32) (v := 1) C0 dX12_turned_31 rfl rfl ?_
    refine J_isub (q := 33) C0 dX12_turned_32 rfl ?_
    refine J_iload (q := 35) C0 0 rfl dX12_turned_33 rfl ?_
    refine J_isub (q := 36) C0 dX12_turned_35 rfl ?_
    refine J_goto (q := 41) C0 dX12_turned_36 (by decide) ?_
    refine J_sub (lv' := [(0, vr (some a0))]) [2] rfl ?_
    exact t_X12_turned_B41 C1 (hT) (h0)   (((sg_I σ b1 (x1).toNatClampNeg) - (1)) - (rm_ ((x2) + (x3)) (sg_I σ b1 (x1).toNatClampNeg))) ((16) * (x1)) (sg_R σ a0 21) ((sg_T.op hT (j := 21) (h0) rfl)) hf
def f_X12_isAlike_L3 (N : Nat) (a0 : Nat) : Nat → Int32 → Int32 → Int32 → Int32 → Int32 → Sg → Option Int32
  | 0, _, _, _, _, _, _ => none
  | n + 1, v1, v2, v3, v4, v5, σ =>
  Option.bind (sg_R σ a0 22) fun b1 =>
  if (v1) < 0 ∨ sg_L σ b1 ≤ (v1).toNatClampNeg then none else
  if (v5) < (sg_I σ b1 (v1).toNatClampNeg) then
  (Option.bind (f_X12_turned a0 (v1) (v2) (v5) (v3) σ) fun p4 =>
  Option.bind (sg_R σ a0 21) fun b5 =>
  if (((16) * (v4)) + (v5)) < 0 ∨ sg_L σ b5 ≤ (((16) * (v4)) + (v5)).toNatClampNeg then none else
  if (p4) = (sg_I σ b5 (((16) * (v4)) + (v5)).toNatClampNeg) then
  (f_X12_isAlike_L3 N a0 n (v1) (v2) (v3) (v4) (v5 + 1) σ)
  else
  (some (0)))
  else
  (some (1))
def f_X12_isAlike (N : Nat) (a0 : Nat) (x1 : Int32) (x2 : Int32) (x3 : Int32) (x4 : Int32) (σ : Sg) : Option Int32 :=
  f_X12_isAlike_L3 N a0 N (x1) (x2) (x3) (x4) (0) σ
set_option maxHeartbeats 4000000 in
set_option maxRecDepth 100000 in
theorem t_X12_isAlike_L3 {N : Nat} {a0 : Nat} {Γ : Gm} {σ : Sg} {r : Int32} (C1 : CM Γ cX12_isAlike RX12 6 (some .boolean) 1 26 0 0 (fun r_ τ_ => (r_ = some (vi r) ∧ (r = 0 ∨ r = 1)) ∧ τ_ = σ)) (hT : sg_T σ) (h0 : is_A σ a0 11) : ∀ (n : Nat) (v1 : Int32) (v2 : Int32) (v3 : Int32) (v4 : Int32) (v5 : Int32), f_X12_isAlike_L3 N a0  n v1 v2 v3 v4 v5 σ = some r → J_ Γ 3 [(0, vr (some a0)), (1, vi (v1)), (2, vi (v2)), (3, vi (v3)), (4, vi (v4)), (5, vi (v5))] [] σ 0 0 := by
  have C0 := C1.1
  intro n
  induction n with
  | zero => intro v1 v2 v3 v4 v5  hf; unfold f_X12_isAlike_L3 at hf; cases hf
  | succ n ih =>
    intro v1 v2 v3 v4 v5  hf
    rw [f_X12_isAlike_L3] at hf
    refine J_iload (q := 5) C0 5 rfl dX12_isAlike_3 rfl ?_
    refine J_aload_n (q := 6) C0 0 rfl rfl dX12_isAlike_5 rfl trivial ?_
    refine J_getR (q := 9) C0 fl_X12_49_11 rfl (h0) rfl dX12_isAlike_6 rfl ?_
    refine J_iload_n (q := 10) C0 1 rfl rfl dX12_isAlike_9 rfl ?_
    refine K_some hf (fun b1 hb1 hf => ?_)
    have ab1 : is_A σ b1 12 := ((sg_T.op hT (j := 22) (h0) rfl)) b1 hb1
    refine K_chk hf (fun c2 hf => ?_)
    refine J_iald (q := 11) C0 hb1 (ab1) c2 dX12_isAlike_10 rfl ?_
    refine J_icmp_ge (t := 47) (q := 14) C0 dX12_isAlike_11 (by decide) rfl hf (fun c3 hf => ?_) (fun c3 hf => ?_)
    · refine J_iconst (q := 48) (v := 1) C0 dX12_isAlike_47 rfl rfl ?_
      obtain rfl := Option.some.inj hf; exact J_zret C1 dX12_isAlike_48 rfl (Or.inr rfl) (Nat.zero_le _) (Nat.zero_le _) ⟨⟨rfl, (Or.inr rfl)⟩, rfl⟩
    · refine J_aload_n (q := 15) C0 0 rfl rfl dX12_isAlike_14 rfl trivial ?_
      refine J_iload_n (q := 16) C0 1 rfl rfl dX12_isAlike_15 rfl ?_
      refine J_iload_n (q := 17) C0 2 rfl rfl dX12_isAlike_16 rfl ?_
      refine J_iload (q := 19) C0 5 rfl dX12_isAlike_17 rfl ?_
      refine J_iload_n (q := 20) C0 3 rfl rfl dX12_isAlike_19 rfl ?_
      refine K_some hf (fun p4 hp4 hf => ?_)
      refine J_callV (q := 23) (ci := 11) (as := [vi (v1), vi (v2), vi (v5), vi (v3)]) (rest := []) C0 rfl (h0) (t_X12_turned a0 (v1) (v2) (v5) (v3) (hT) (h0)  hp4) ml_X12_turned lk_X12_364 im_X12_turned se_X12_turned rfl (by decide) dX12_isAlike_20 rfl rfl rfl (by simp [ac_]) C1.room (by decide) (by decide) (by decide) (by decide) (fun r_ τ_ hQ => ?_)
      obtain ⟨rfl, ht_⟩ := hQ; have ht_ := ht_.symm; subst ht_
      show J_ Γ 23 [(0, vr (some a0)), (1, vi (v1)), (2, vi (v2)), (3, vi (v3)), (4, vi (v4)), (5, vi (v5))] [vi (p4)] σ 0 0
      refine J_aload_n (q := 24) C0 0 rfl rfl dX12_isAlike_23 rfl trivial ?_
      refine J_getR (q := 27) C0 fl_X12_46_11 rfl (h0) rfl dX12_isAlike_24 rfl ?_
      refine J_bipush (q := 29) (v := 16) C0 dX12_isAlike_27 rfl rfl ?_
      refine J_iload (q := 31) C0 4 rfl dX12_isAlike_29 rfl ?_
      refine J_imul (q := 32) C0 dX12_isAlike_31 rfl ?_
      refine J_iload (q := 34) C0 5 rfl dX12_isAlike_32 rfl ?_
      refine J_iadd (q := 35) C0 dX12_isAlike_34 rfl ?_
      refine K_some hf (fun b5 hb5 hf => ?_)
      have ab5 : is_A σ b5 12 := ((sg_T.op hT (j := 21) (h0) rfl)) b5 hb5
      refine K_chk hf (fun c6 hf => ?_)
      refine J_iald (q := 36) C0 hb5 (ab5) c6 dX12_isAlike_35 rfl ?_
      refine J_icmp_eq (t := 41) (q := 39) C0 dX12_isAlike_36 (by decide) rfl hf (fun c7 hf => ?_) (fun c7 hf => ?_)
      · refine J_iinc (q := 44) (v := v5 + 1) (lv' := [(5, vi (v5 + 1)), (0, vr (some a0)), (1, vi (v1)), (2, vi (v2)), (3, vi (v3)), (4, vi (v4))]) C0 5 rfl rfl (G_nl C1 (by decide)) dX12_isAlike_41 rfl rfl ?_
        refine J_goto (q := 3) C0 dX12_isAlike_44 (by decide) ?_
        refine J_sub (lv' := [(0, vr (some a0)), (1, vi (v1)), (2, vi (v2)), (3, vi (v3)), (4, vi (v4)), (5, vi (v5 + 1))]) [1, 2, 3, 4, 5, 0] rfl ?_
        exact ih (v1) (v2) (v3) (v4) (v5 + 1)   hf
      · refine J_iconst (q := 40) (v := 0) C0 dX12_isAlike_39 rfl rfl ?_
        obtain rfl := Option.some.inj hf; exact J_zret C1 dX12_isAlike_40 rfl (Or.inl rfl) (Nat.zero_le _) (Nat.zero_le _) ⟨⟨rfl, (Or.inl rfl)⟩, rfl⟩
set_option maxHeartbeats 4000000 in
set_option maxRecDepth 100000 in
theorem t_X12_isAlike (N : Nat) (a0 : Nat) (x1 : Int32) (x2 : Int32) (x3 : Int32) (x4 : Int32) {σ : Sg} (hT : sg_T σ) (h0 : is_A σ a0 11) {r : Int32} (hf : f_X12_isAlike N a0 x1 x2 x3 x4 σ = some r) : Ct yX12_isAlike cX12_isAlike 6 (some .boolean) 1 26 0 0 [vr (some a0), vi x1, vi x2, vi x3, vi x4] σ (fun r_ τ_ => (r_ = some (vi r) ∧ (r = 0 ∨ r = 1)) ∧ τ_ = σ) := by
  refine Ct.of (by decide +kernel) (Nat.le_of_ble_eq_true rfl) (fun Γ C1 => ?_)
  have C0 := C1.1
  unfold f_X12_isAlike at hf
  show J_ Γ 0 [(0, vr (some a0)), (1, vi (x1)), (2, vi (x2)), (3, vi (x3)), (4, vi (x4))] [] σ 0 0
  refine J_iconst (q := 1) (v := 0) C0 dX12_isAlike_0 rfl rfl ?_
  refine J_istore (q := 3) (lv' := [(5, vi (0)), (0, vr (some a0)), (1, vi (x1)), (2, vi (x2)), (3, vi (x3)), (4, vi (x4))]) C0 (G_nl C1 (by decide)) dX12_isAlike_1 rfl rfl ?_
  refine J_sub (lv' := [(0, vr (some a0)), (1, vi (x1)), (2, vi (x2)), (3, vi (x3)), (4, vi (x4)), (5, vi (0))]) [1, 2, 3, 4, 5, 0] rfl ?_
  exact t_X12_isAlike_L3 C1 (hT) (h0)    N (x1) (x2) (x3) (x4) (0)  hf
def f_X12_alikeBy_L20 (N : Nat) (a0 : Nat) : Nat → Int32 → Int32 → Int32 → Int32 → Sg → Option Int32
  | 0, _, _, _, _, _ => none
  | n + 1, v1, v2, v3, v4, σ =>
  Option.bind (sg_R σ a0 22) fun b5 =>
  if (v1) < 0 ∨ sg_L σ b5 ≤ (v1).toNatClampNeg then none else
  if (v4) < (sg_I σ b5 (v1).toNatClampNeg) then
  (Option.bind (f_X12_isAlike N a0 (v1) (v4) (v3) (v2) σ) fun p8 =>
  if (p8) = (0) then
  (f_X12_alikeBy_L20 N a0 n (v1) (v2) (v3) (v4 + 1) σ)
  else
  (some (v4)))
  else
  (some ((-1)))
def f_X12_alikeBy (N : Nat) (a0 : Nat) (x1 : Int32) (x2 : Int32) (x3 : Int32) (σ : Sg) : Option Int32 :=
  Option.bind (sg_R σ a0 22) fun b1 =>
  if (x1) < 0 ∨ sg_L σ b1 ≤ (x1).toNatClampNeg then none else
  if (x2) < 0 ∨ sg_L σ b1 ≤ (x2).toNatClampNeg then none else
  if (sg_I σ b1 (x1).toNatClampNeg) = (sg_I σ b1 (x2).toNatClampNeg) then
  (f_X12_alikeBy_L20 N a0 N (x1) (x2) (x3) (0) σ)
  else
  (some ((-1)))
set_option maxHeartbeats 4000000 in
set_option maxRecDepth 100000 in
theorem t_X12_alikeBy_L20 {N : Nat} {a0 : Nat} {Γ : Gm} {σ : Sg} {r : Int32} (C1 : CM Γ cX12_alikeBy RX12 5 (some .int) 2 51 0 0 (fun r_ τ_ => (r_ = some (vi r)) ∧ τ_ = σ)) (hT : sg_T σ) (h0 : is_A σ a0 11) : ∀ (n : Nat) (v1 : Int32) (v2 : Int32) (v3 : Int32) (v4 : Int32), f_X12_alikeBy_L20 N a0  n v1 v2 v3 v4 σ = some r → J_ Γ 20 [(0, vr (some a0)), (1, vi (v1)), (2, vi (v2)), (3, vi (v3)), (4, vi (v4))] [] σ 0 0 := by
  have C0 := C1.1
  intro n
  induction n with
  | zero => intro v1 v2 v3 v4  hf; unfold f_X12_alikeBy_L20 at hf; cases hf
  | succ n ih =>
    intro v1 v2 v3 v4  hf
    rw [f_X12_alikeBy_L20] at hf
    refine J_iload (q := 22) C0 4 rfl dX12_alikeBy_20 rfl ?_
    refine J_aload_n (q := 23) C0 0 rfl rfl dX12_alikeBy_22 rfl trivial ?_
    refine J_getR (q := 26) C0 fl_X12_49_11 rfl (h0) rfl dX12_alikeBy_23 rfl ?_
    refine J_iload_n (q := 27) C0 1 rfl rfl dX12_alikeBy_26 rfl ?_
    refine K_some hf (fun b5 hb5 hf => ?_)
    have ab5 : is_A σ b5 12 := ((sg_T.op hT (j := 22) (h0) rfl)) b5 hb5
    refine K_chk hf (fun c6 hf => ?_)
    refine J_iald (q := 28) C0 hb5 (ab5) c6 dX12_alikeBy_27 rfl ?_
    refine J_icmp_ge (t := 52) (q := 31) C0 dX12_alikeBy_28 (by decide) rfl hf (fun c7 hf => ?_) (fun c7 hf => ?_)
    · refine J_iconst (q := 53) (v := (-1)) C0 dX12_alikeBy_52 rfl rfl ?_
      obtain rfl := Option.some.inj hf; exact J_iret C1 dX12_alikeBy_53 rfl (Nat.zero_le _) (Nat.zero_le _) ⟨rfl, rfl⟩
    · refine J_aload_n (q := 32) C0 0 rfl rfl dX12_alikeBy_31 rfl trivial ?_
      refine J_iload_n (q := 33) C0 1 rfl rfl dX12_alikeBy_32 rfl ?_
      refine J_iload (q := 35) C0 4 rfl dX12_alikeBy_33 rfl ?_
      refine J_iload_n (q := 36) C0 3 rfl rfl dX12_alikeBy_35 rfl ?_
      refine J_iload_n (q := 37) C0 2 rfl rfl dX12_alikeBy_36 rfl ?_
      refine K_some hf (fun p8 hp8 hf => ?_)
      refine J_callV (q := 40) (ci := 11) (as := [vi (v1), vi (v4), vi (v3), vi (v2)]) (rest := []) C0 rfl (h0) (t_X12_isAlike N a0 (v1) (v4) (v3) (v2) (hT) (h0)  hp8) ml_X12_isAlike lk_X12_368 im_X12_isAlike se_X12_isAlike rfl (by decide) dX12_alikeBy_37 rfl rfl rfl (by simp [ac_]) C1.room (by decide) (by decide) (by decide) (by decide) (fun r_ τ_ hQ => ?_)
      obtain ⟨⟨rfl, zp8⟩, ht_⟩ := hQ; have ht_ := ht_.symm; subst ht_
      show J_ Γ 40 [(0, vr (some a0)), (1, vi (v1)), (2, vi (v2)), (3, vi (v3)), (4, vi (v4))] [vi (p8)] σ 0 0
      refine J_if_eq (t := 46) (q := 43) C0 dX12_alikeBy_40 (by decide) rfl hf (fun c9 hf => ?_) (fun c9 hf => ?_)
      · refine J_iinc (q := 49) (v := v4 + 1) (lv' := [(4, vi (v4 + 1)), (0, vr (some a0)), (1, vi (v1)), (2, vi (v2)), (3, vi (v3))]) C0 4 rfl rfl (G_nl C1 (by decide)) dX12_alikeBy_46 rfl rfl ?_
        refine J_goto (q := 20) C0 dX12_alikeBy_49 (by decide) ?_
        refine J_sub (lv' := [(0, vr (some a0)), (1, vi (v1)), (2, vi (v2)), (3, vi (v3)), (4, vi (v4 + 1))]) [1, 2, 3, 4, 0] rfl ?_
        exact ih (v1) (v2) (v3) (v4 + 1)   hf
      · refine J_iload (q := 45) C0 4 rfl dX12_alikeBy_43 rfl ?_
        obtain rfl := Option.some.inj hf; exact J_iret C1 dX12_alikeBy_45 rfl (Nat.zero_le _) (Nat.zero_le _) ⟨rfl, rfl⟩
set_option maxHeartbeats 4000000 in
set_option maxRecDepth 100000 in
theorem t_X12_alikeBy (N : Nat) (a0 : Nat) (x1 : Int32) (x2 : Int32) (x3 : Int32) {σ : Sg} (hT : sg_T σ) (h0 : is_A σ a0 11) {r : Int32} (hf : f_X12_alikeBy N a0 x1 x2 x3 σ = some r) : Ct yX12_alikeBy cX12_alikeBy 5 (some .int) 2 51 0 0 [vr (some a0), vi x1, vi x2, vi x3] σ (fun r_ τ_ => (r_ = some (vi r)) ∧ τ_ = σ) := by
  refine Ct.of (by decide +kernel) (Nat.le_of_ble_eq_true rfl) (fun Γ C1 => ?_)
  have C0 := C1.1
  unfold f_X12_alikeBy at hf
  show J_ Γ 0 [(0, vr (some a0)), (1, vi (x1)), (2, vi (x2)), (3, vi (x3))] [] σ 0 0
  refine J_aload_n (q := 1) C0 0 rfl rfl dX12_alikeBy_0 rfl trivial ?_
  refine J_getR (q := 4) C0 fl_X12_49_11 rfl (h0) rfl dX12_alikeBy_1 rfl ?_
  refine J_iload_n (q := 5) C0 1 rfl rfl dX12_alikeBy_4 rfl ?_
  refine K_some hf (fun b1 hb1 hf => ?_)
  have ab1 : is_A σ b1 12 := ((sg_T.op hT (j := 22) (h0) rfl)) b1 hb1
  refine K_chk hf (fun c2 hf => ?_)
  refine J_iald (q := 6) C0 hb1 (ab1) c2 dX12_alikeBy_5 rfl ?_
  refine J_aload_n (q := 7) C0 0 rfl rfl dX12_alikeBy_6 rfl trivial ?_
  refine J_getR (q := 10) C0 fl_X12_49_11 rfl (h0) rfl dX12_alikeBy_7 rfl ?_
  refine J_iload_n (q := 11) C0 2 rfl rfl dX12_alikeBy_10 rfl ?_
  refine K_chk hf (fun c3 hf => ?_)
  refine J_iald (q := 12) C0 hb1 (ab1) c3 dX12_alikeBy_11 rfl ?_
  refine J_icmp_eq (t := 17) (q := 15) C0 dX12_alikeBy_12 (by decide) rfl hf (fun c4 hf => ?_) (fun c4 hf => ?_)
  · refine J_iconst (q := 18) (v := 0) C0 dX12_alikeBy_17 rfl rfl ?_
    refine J_istore (q := 20) (lv' := [(4, vi (0)), (0, vr (some a0)), (1, vi (x1)), (2, vi (x2)), (3, vi (x3))]) C0 (G_nl C1 (by decide)) dX12_alikeBy_18 rfl rfl ?_
    refine J_sub (lv' := [(0, vr (some a0)), (1, vi (x1)), (2, vi (x2)), (3, vi (x3)), (4, vi (0))]) [1, 2, 3, 4, 0] rfl ?_
    exact t_X12_alikeBy_L20 C1 (hT) (h0)    N (x1) (x2) (x3) (0)  hf
  · refine J_iconst (q := 16) (v := (-1)) C0 dX12_alikeBy_15 rfl rfl ?_
    obtain rfl := Option.some.inj hf; exact J_iret C1 dX12_alikeBy_16 rfl (Nat.zero_le _) (Nat.zero_le _) ⟨rfl, rfl⟩
def f_X12_period_L12 (N : Nat) (a0 : Nat) : Nat → Int32 → Int32 → Sg → Option Int32
  | 0, _, _, _ => none
  | n + 1, v1, v2, σ =>
  Option.bind (f_X12_isAlike N a0 (v1) (v2) (0) (v1) σ) fun p3 =>
  if (p3) = (0) then
  (f_X12_period_L12 N a0 n (v1) (v2 + 1) σ)
  else
  (some (v2))
def f_X12_period (N : Nat) (a0 : Nat) (x1 : Int32) (σ : Sg) : Option Int32 :=
  Option.bind (f_X12_isStrip a0 (x1) σ) fun p1 =>
  if (p1) = (0) then
  (some ((-1)))
  else
  (f_X12_period_L12 N a0 N (x1) (1) σ)
set_option maxHeartbeats 4000000 in
set_option maxRecDepth 100000 in
theorem t_X12_period_L12 {N : Nat} {a0 : Nat} {Γ : Gm} {σ : Sg} {r : Int32} (C1 : CM Γ cX12_period RX12 3 (some .int) 2 51 0 0 (fun r_ τ_ => (r_ = some (vi r)) ∧ τ_ = σ)) (hT : sg_T σ) (h0 : is_A σ a0 11) : ∀ (n : Nat) (v1 : Int32) (v2 : Int32), f_X12_period_L12 N a0  n v1 v2 σ = some r → J_ Γ 12 [(0, vr (some a0)), (1, vi (v1)), (2, vi (v2))] [] σ 0 0 := by
  have C0 := C1.1
  intro n
  induction n with
  | zero => intro v1 v2  hf; unfold f_X12_period_L12 at hf; cases hf
  | succ n ih =>
    intro v1 v2  hf
    rw [f_X12_period_L12] at hf
    refine J_aload_n (q := 13) C0 0 rfl rfl dX12_period_12 rfl trivial ?_
    refine J_iload_n (q := 14) C0 1 rfl rfl dX12_period_13 rfl ?_
    refine J_iload_n (q := 15) C0 2 rfl rfl dX12_period_14 rfl ?_
    refine J_iconst (q := 16) (v := 0) C0 dX12_period_15 rfl rfl ?_
    refine J_iload_n (q := 17) C0 1 rfl rfl dX12_period_16 rfl ?_
    refine K_some hf (fun p3 hp3 hf => ?_)
    refine J_callV (q := 20) (ci := 11) (as := [vi (v1), vi (v2), vi (0), vi (v1)]) (rest := []) C0 rfl (h0) (t_X12_isAlike N a0 (v1) (v2) (0) (v1) (hT) (h0)  hp3) ml_X12_isAlike lk_X12_368 im_X12_isAlike se_X12_isAlike rfl (by decide) dX12_period_17 rfl rfl rfl (by simp [ac_]) C1.room (by decide) (by decide) (by decide) (by decide) (fun r_ τ_ hQ => ?_)
    obtain ⟨⟨rfl, zp3⟩, ht_⟩ := hQ; have ht_ := ht_.symm; subst ht_
    show J_ Γ 20 [(0, vr (some a0)), (1, vi (v1)), (2, vi (v2))] [vi (p3)] σ 0 0
    refine J_if_ne (t := 29) (q := 23) C0 dX12_period_20 (by decide) rfl hf (fun c4 hf => ?_) (fun c4 hf => ?_)
    · refine J_iload_n (q := 30) C0 2 rfl rfl dX12_period_29 rfl ?_
      obtain rfl := Option.some.inj hf; exact J_iret C1 dX12_period_30 rfl (Nat.zero_le _) (Nat.zero_le _) ⟨rfl, rfl⟩
    · refine J_iinc (q := 26) (v := v2 + 1) (lv' := [(2, vi (v2 + 1)), (0, vr (some a0)), (1, vi (v1))]) C0 2 rfl rfl (G_nl C1 (by decide)) dX12_period_23 rfl rfl ?_
      refine J_goto (q := 12) C0 dX12_period_26 (by decide) ?_
      refine J_sub (lv' := [(0, vr (some a0)), (1, vi (v1)), (2, vi (v2 + 1))]) [1, 2, 0] rfl ?_
      exact ih (v1) (v2 + 1)   hf
set_option maxHeartbeats 4000000 in
set_option maxRecDepth 100000 in
theorem t_X12_period (N : Nat) (a0 : Nat) (x1 : Int32) {σ : Sg} (hT : sg_T σ) (h0 : is_A σ a0 11) {r : Int32} (hf : f_X12_period N a0 x1 σ = some r) : Ct yX12_period cX12_period 3 (some .int) 2 51 0 0 [vr (some a0), vi x1] σ (fun r_ τ_ => (r_ = some (vi r)) ∧ τ_ = σ) := by
  refine Ct.of (by decide +kernel) (Nat.le_of_ble_eq_true rfl) (fun Γ C1 => ?_)
  have C0 := C1.1
  unfold f_X12_period at hf
  show J_ Γ 0 [(0, vr (some a0)), (1, vi (x1))] [] σ 0 0
  refine J_aload_n (q := 1) C0 0 rfl rfl dX12_period_0 rfl trivial ?_
  refine J_iload_n (q := 2) C0 1 rfl rfl dX12_period_1 rfl ?_
  refine K_some hf (fun p1 hp1 hf => ?_)
  refine J_callV (q := 5) (ci := 11) (as := [vi (x1)]) (rest := []) C0 rfl (h0) (t_X12_isStrip a0 (x1) (h0)  hp1) ml_X12_isStrip lk_X12_310 im_X12_isStrip se_X12_isStrip rfl (by decide) dX12_period_2 rfl rfl rfl (by simp [ac_]) C1.room (by decide) (by decide) (by decide) (by decide) (fun r_ τ_ hQ => ?_)
  obtain ⟨⟨rfl, zp1⟩, ht_⟩ := hQ; have ht_ := ht_.symm; subst ht_
  show J_ Γ 5 [(0, vr (some a0)), (1, vi (x1))] [vi (p1)] σ 0 0
  refine J_if_ne (t := 10) (q := 8) C0 dX12_period_5 (by decide) rfl hf (fun c2 hf => ?_) (fun c2 hf => ?_)
  · refine J_iconst (q := 11) (v := 1) C0 dX12_period_10 rfl rfl ?_
    refine J_istore_n (q := 12) (lv' := [(2, vi (1)), (0, vr (some a0)), (1, vi (x1))]) C0 rfl (G_nl C1 (by decide)) dX12_period_11 rfl rfl ?_
    refine J_sub (lv' := [(0, vr (some a0)), (1, vi (x1)), (2, vi (1))]) [1, 2, 0] rfl ?_
    exact t_X12_period_L12 C1 (hT) (h0)    N (x1) (1)  hf
  · refine J_iconst (q := 9) (v := (-1)) C0 dX12_period_8 rfl rfl ?_
    obtain rfl := Option.some.inj hf; exact J_iret C1 dX12_period_9 rfl (Nat.zero_le _) (Nat.zero_le _) ⟨rfl, rfl⟩
def f_X12_isAhead_L3 (N : Nat) (a0 : Nat) : Nat → Int32 → Int32 → Int32 → Int32 → Sg → Option Int32
  | 0, _, _, _, _, _ => none
  | n + 1, v1, v2, v3, v4, σ =>
  Option.bind (sg_R σ a0 22) fun b1 =>
  if (v1) < 0 ∨ sg_L σ b1 ≤ (v1).toNatClampNeg then none else
  if (v4) < (sg_I σ b1 (v1).toNatClampNeg) then
  (Option.bind (f_X12_turned a0 (v1) (v2) (v4) (0) σ) fun p4 =>
  Option.bind (f_X12_turned a0 (v1) (v3) (v4) (0) σ) fun p5 =>
  if (p4) = (p5) then
  (f_X12_isAhead_L3 N a0 n (v1) (v2) (v3) (v4 + 1) σ)
  else
  (if (p4) < (p5) then
  (some (1))
  else
  (some (0))))
  else
  (some (0))
def f_X12_isAhead (N : Nat) (a0 : Nat) (x1 : Int32) (x2 : Int32) (x3 : Int32) (σ : Sg) : Option Int32 :=
  f_X12_isAhead_L3 N a0 N (x1) (x2) (x3) (0) σ
set_option maxHeartbeats 4000000 in
set_option maxRecDepth 100000 in
theorem t_X12_isAhead_L3 {N : Nat} {a0 : Nat} {Γ : Gm} {σ : Sg} {r : Int32} (C1 : CM Γ cX12_isAhead RX12 7 (some .boolean) 1 26 0 0 (fun r_ τ_ => (r_ = some (vi r) ∧ (r = 0 ∨ r = 1)) ∧ τ_ = σ)) (hT : sg_T σ) (h0 : is_A σ a0 11) : ∀ (n : Nat) (v1 : Int32) (v2 : Int32) (v3 : Int32) (v4 : Int32), f_X12_isAhead_L3 N a0  n v1 v2 v3 v4 σ = some r → J_ Γ 3 [(0, vr (some a0)), (1, vi (v1)), (2, vi (v2)), (3, vi (v3)), (4, vi (v4))] [] σ 0 0 := by
  have C0 := C1.1
  intro n
  induction n with
  | zero => intro v1 v2 v3 v4  hf; unfold f_X12_isAhead_L3 at hf; cases hf
  | succ n ih =>
    intro v1 v2 v3 v4  hf
    rw [f_X12_isAhead_L3] at hf
    refine J_iload (q := 5) C0 4 rfl dX12_isAhead_3 rfl ?_
    refine J_aload_n (q := 6) C0 0 rfl rfl dX12_isAhead_5 rfl trivial ?_
    refine J_getR (q := 9) C0 fl_X12_49_11 rfl (h0) rfl dX12_isAhead_6 rfl ?_
    refine J_iload_n (q := 10) C0 1 rfl rfl dX12_isAhead_9 rfl ?_
    refine K_some hf (fun b1 hb1 hf => ?_)
    have ab1 : is_A σ b1 12 := ((sg_T.op hT (j := 22) (h0) rfl)) b1 hb1
    refine K_chk hf (fun c2 hf => ?_)
    refine J_iald (q := 11) C0 hb1 (ab1) c2 dX12_isAhead_10 rfl ?_
    refine J_icmp_ge (t := 62) (q := 14) C0 dX12_isAhead_11 (by decide) rfl hf (fun c3 hf => ?_) (fun c3 hf => ?_)
    · refine J_iconst (q := 63) (v := 0) C0 dX12_isAhead_62 rfl rfl ?_
      obtain rfl := Option.some.inj hf; exact J_zret C1 dX12_isAhead_63 rfl (Or.inl rfl) (Nat.zero_le _) (Nat.zero_le _) ⟨⟨rfl, (Or.inl rfl)⟩, rfl⟩
    · refine J_aload_n (q := 15) C0 0 rfl rfl dX12_isAhead_14 rfl trivial ?_
      refine J_iload_n (q := 16) C0 1 rfl rfl dX12_isAhead_15 rfl ?_
      refine J_iload_n (q := 17) C0 2 rfl rfl dX12_isAhead_16 rfl ?_
      refine J_iload (q := 19) C0 4 rfl dX12_isAhead_17 rfl ?_
      refine J_iconst (q := 20) (v := 0) C0 dX12_isAhead_19 rfl rfl ?_
      refine K_some hf (fun p4 hp4 hf => ?_)
      refine J_callV (q := 23) (ci := 11) (as := [vi (v1), vi (v2), vi (v4), vi (0)]) (rest := []) C0 rfl (h0) (t_X12_turned a0 (v1) (v2) (v4) (0) (hT) (h0)  hp4) ml_X12_turned lk_X12_364 im_X12_turned se_X12_turned rfl (by decide) dX12_isAhead_20 rfl rfl rfl (by simp [ac_]) C1.room (by decide) (by decide) (by decide) (by decide) (fun r_ τ_ hQ => ?_)
      obtain ⟨rfl, ht_⟩ := hQ; have ht_ := ht_.symm; subst ht_
      show J_ Γ 23 [(0, vr (some a0)), (1, vi (v1)), (2, vi (v2)), (3, vi (v3)), (4, vi (v4))] [vi (p4)] σ 0 0
      refine J_istore (q := 25) (lv' := [(5, vi (p4)), (0, vr (some a0)), (1, vi (v1)), (2, vi (v2)), (3, vi (v3)), (4, vi (v4))]) C0 (G_nl C1 (by decide)) dX12_isAhead_23 rfl rfl ?_
      refine J_aload_n (q := 26) C0 1 rfl rfl dX12_isAhead_25 rfl trivial ?_
      refine J_iload_n (q := 27) C0 2 rfl rfl dX12_isAhead_26 rfl ?_
      refine J_iload_n (q := 28) C0 4 rfl rfl dX12_isAhead_27 rfl ?_
      refine J_iload (q := 30) C0 5 rfl dX12_isAhead_28 rfl ?_
      refine J_iconst (q := 31) (v := 0) C0 dX12_isAhead_30 rfl rfl ?_
      refine K_some hf (fun p5 hp5 hf => ?_)
      refine J_callV (q := 34) (ci := 11) (as := [vi (v1), vi (v3), vi (v4), vi (0)]) (rest := []) C0 rfl (h0) (t_X12_turned a0 (v1) (v3) (v4) (0) (hT) (h0)  hp5) ml_X12_turned lk_X12_364 im_X12_turned se_X12_turned rfl (by decide) dX12_isAhead_31 rfl rfl rfl (by simp [ac_]) C1.room (by decide) (by decide) (by decide) (by decide) (fun r_ τ_ hQ => ?_)
      obtain ⟨rfl, ht_⟩ := hQ; have ht_ := ht_.symm; subst ht_
      show J_ Γ 34 [(5, vi (p4)), (0, vr (some a0)), (1, vi (v1)), (2, vi (v2)), (3, vi (v3)), (4, vi (v4))] [vi (p5)] σ 0 0
      refine J_istore (q := 36) (lv' := [(6, vi (p5)), (5, vi (p4)), (0, vr (some a0)), (1, vi (v1)), (2, vi (v2)), (3, vi (v3)), (4, vi (v4))]) C0 (G_nl C1 (by decide)) dX12_isAhead_34 rfl rfl ?_
      refine J_iload (q := 38) C0 1 rfl dX12_isAhead_36 rfl ?_
      refine J_iload (q := 40) C0 0 rfl dX12_isAhead_38 rfl ?_
      refine J_icmp_eq (t := 56) (q := 43) C0 dX12_isAhead_40 (by decide) rfl hf (fun c6 hf => ?_) (fun c6 hf => ?_)
      · refine J_iinc (q := 59) (v := v4 + 1) (lv' := [(4, vi (v4 + 1)), (6, vi (p5)), (5, vi (p4)), (0, vr (some a0)), (1, vi (v1)), (2, vi (v2)), (3, vi (v3))]) C0 6 rfl rfl (G_nl C1 (by decide)) dX12_isAhead_56 rfl rfl ?_
        refine J_goto (q := 3) C0 dX12_isAhead_59 (by decide) ?_
        refine J_sub (lv' := [(0, vr (some a0)), (1, vi (v1)), (2, vi (v2)), (3, vi (v3)), (4, vi (v4 + 1))]) [3, 4, 5, 6, 0] rfl ?_
        exact ih (v1) (v2) (v3) (v4 + 1)   hf
      · refine J_iload (q := 45) C0 1 rfl dX12_isAhead_43 rfl ?_
        refine J_iload (q := 47) C0 0 rfl dX12_isAhead_45 rfl ?_
        refine J_icmp_ge (t := 54) (q := 50) C0 dX12_isAhead_47 (by decide) rfl hf (fun c7 hf => ?_) (fun c7 hf => ?_)
        · refine J_iconst (q := 55) (v := 0) C0 dX12_isAhead_54 rfl rfl ?_
          obtain rfl := Option.some.inj hf; exact J_zret C1 dX12_isAhead_55 rfl (Or.inl rfl) (Nat.zero_le _) (Nat.zero_le _) ⟨⟨rfl, (Or.inl rfl)⟩, rfl⟩
        · refine J_iconst (q := 51) (v := 1) C0 dX12_isAhead_50 rfl rfl ?_
          refine J_goto (q := 55) C0 dX12_isAhead_51 (by decide) ?_
          obtain rfl := Option.some.inj hf; exact J_zret C1 dX12_isAhead_55 rfl (Or.inr rfl) (Nat.zero_le _) (Nat.zero_le _) ⟨⟨rfl, (Or.inr rfl)⟩, rfl⟩
set_option maxHeartbeats 4000000 in
set_option maxRecDepth 100000 in
theorem t_X12_isAhead (N : Nat) (a0 : Nat) (x1 : Int32) (x2 : Int32) (x3 : Int32) {σ : Sg} (hT : sg_T σ) (h0 : is_A σ a0 11) {r : Int32} (hf : f_X12_isAhead N a0 x1 x2 x3 σ = some r) : Ct yX12_isAhead cX12_isAhead 7 (some .boolean) 1 26 0 0 [vr (some a0), vi x1, vi x2, vi x3] σ (fun r_ τ_ => (r_ = some (vi r) ∧ (r = 0 ∨ r = 1)) ∧ τ_ = σ) := by
  refine Ct.of (by decide +kernel) (Nat.le_of_ble_eq_true rfl) (fun Γ C1 => ?_)
  have C0 := C1.1
  unfold f_X12_isAhead at hf
  show J_ Γ 0 [(0, vr (some a0)), (1, vi (x1)), (2, vi (x2)), (3, vi (x3))] [] σ 0 0
  refine J_iconst (q := 1) (v := 0) C0 dX12_isAhead_0 rfl rfl ?_
  refine J_istore (q := 3) (lv' := [(4, vi (0)), (0, vr (some a0)), (1, vi (x1)), (2, vi (x2)), (3, vi (x3))]) C0 (G_nl C1 (by decide)) dX12_isAhead_1 rfl rfl ?_
  refine J_sub (lv' := [(0, vr (some a0)), (1, vi (x1)), (2, vi (x2)), (3, vi (x3)), (4, vi (0))]) [1, 2, 3, 4, 0] rfl ?_
  exact t_X12_isAhead_L3 C1 (hT) (h0)    N (x1) (x2) (x3) (0)  hf
def f_X12_least_B39 (N : Nat) (a0 : Nat) (k14 : Int32 → Int32 → Int32 → Option Int32) (v1 : Int32) (v3 : Int32) (s0 : Int32) (σ : Sg) : Option Int32 :=
  k14 (v1) (s0) (v3 + 1)
def f_X12_least_L14 (N : Nat) (a0 : Nat) : Nat → Int32 → Int32 → Int32 → Sg → Option Int32
  | 0, _, _, _, _ => none
  | n + 1, v1, v2, v3, σ =>
  Option.bind (sg_R σ a0 22) fun b3 =>
  if (v1) < 0 ∨ sg_L σ b3 ≤ (v1).toNatClampNeg then none else
  if (v3) < (sg_I σ b3 (v1).toNatClampNeg) then
  (Option.bind (f_X12_isAhead N a0 (v1) (v3) (v2) σ) fun p6 =>
  if (p6) = (0) then
  (f_X12_least_B39 N a0 (fun v1 v2 v3 => f_X12_least_L14 N a0 n v1 v2 v3 σ) (v1) (v3) (v2) σ)
  else
  (f_X12_least_B39 N a0 (fun v1 v2 v3 => f_X12_least_L14 N a0 n v1 v2 v3 σ) (v1) (v3) (v3) σ))
  else
  (some (v2))
def f_X12_least (N : Nat) (a0 : Nat) (x1 : Int32) (σ : Sg) : Option Int32 :=
  Option.bind (f_X12_isStrip a0 (x1) σ) fun p1 =>
  if (p1) = (0) then
  (some ((-1)))
  else
  (f_X12_least_L14 N a0 N (x1) (0) (1) σ)
set_option maxHeartbeats 4000000 in
set_option maxRecDepth 100000 in
theorem t_X12_least_B39 {N : Nat} {a0 : Nat} {Γ : Gm} {σ : Sg} {r : Int32} (C1 : CM Γ cX12_least RX12 4 (some .int) 2 52 0 0 (fun r_ τ_ => (r_ = some (vi r)) ∧ τ_ = σ)) (hT : sg_T σ) (h0 : is_A σ a0 11) (k14 : Int32 → Int32 → Int32 → Option Int32) (hk14 : ∀ (v1 : Int32) (v2 : Int32) (v3 : Int32) , k14 v1 v2 v3 = some r → J_ Γ 14 [(0, vr (some a0)), (1, vi v1), (2, vi v2), (3, vi v3)] [] σ 0 0) (v1 : Int32) (v3 : Int32) (s0 : Int32) (hf : f_X12_least_B39 N a0 k14  v1 v3 s0 σ = some r) : J_ Γ 39 [(0, vr (some a0)), (1, vi (v1)), (3, vi (v3))] [vi (s0)] σ 0 0 := by
  have C0 := C1.1
  unfold f_X12_least_B39 at hf
  refine J_istore_n (q := 40) (lv' := [(2, vi (s0)), (0, vr (some a0)), (1, vi (v1)), (3, vi (v3))]) C0 rfl (G_nl C1 (by decide)) dX12_least_39 rfl rfl ?_
  refine J_iinc (q := 43) (v := v3 + 1) (lv' := [(3, vi (v3 + 1)), (2, vi (s0)), (0, vr (some a0)), (1, vi (v1))]) C0 3 rfl rfl (G_nl C1 (by decide)) dX12_least_40 rfl rfl ?_
  refine J_goto (q := 14) C0 dX12_least_43 (by decide) ?_
  refine J_sub (lv' := [(0, vr (some a0)), (1, vi (v1)), (2, vi (s0)), (3, vi (v3 + 1))]) [2, 3, 1, 0] rfl ?_
  exact hk14 (v1) (s0) (v3 + 1)  hf
set_option maxHeartbeats 4000000 in
set_option maxRecDepth 100000 in
theorem t_X12_least_L14 {N : Nat} {a0 : Nat} {Γ : Gm} {σ : Sg} {r : Int32} (C1 : CM Γ cX12_least RX12 4 (some .int) 2 52 0 0 (fun r_ τ_ => (r_ = some (vi r)) ∧ τ_ = σ)) (hT : sg_T σ) (h0 : is_A σ a0 11) : ∀ (n : Nat) (v1 : Int32) (v2 : Int32) (v3 : Int32), f_X12_least_L14 N a0  n v1 v2 v3 σ = some r → J_ Γ 14 [(0, vr (some a0)), (1, vi (v1)), (2, vi (v2)), (3, vi (v3))] [] σ 0 0 := by
  have C0 := C1.1
  intro n
  induction n with
  | zero => intro v1 v2 v3  hf; unfold f_X12_least_L14 at hf; cases hf
  | succ n ih =>
    intro v1 v2 v3  hf
    rw [f_X12_least_L14] at hf
    refine J_iload_n (q := 15) C0 3 rfl rfl dX12_least_14 rfl ?_
    refine J_aload_n (q := 16) C0 0 rfl rfl dX12_least_15 rfl trivial ?_
    refine J_getR (q := 19) C0 fl_X12_49_11 rfl (h0) rfl dX12_least_16 rfl ?_
    refine J_iload_n (q := 20) C0 1 rfl rfl dX12_least_19 rfl ?_
    refine K_some hf (fun b3 hb3 hf => ?_)
    have ab3 : is_A σ b3 12 := ((sg_T.op hT (j := 22) (h0) rfl)) b3 hb3
    refine K_chk hf (fun c4 hf => ?_)
    refine J_iald (q := 21) C0 hb3 (ab3) c4 dX12_least_20 rfl ?_
    refine J_icmp_ge (t := 46) (q := 24) C0 dX12_least_21 (by decide) rfl hf (fun c5 hf => ?_) (fun c5 hf => ?_)
    · refine J_iload_n (q := 47) C0 2 rfl rfl dX12_least_46 rfl ?_
      obtain rfl := Option.some.inj hf; exact J_iret C1 dX12_least_47 rfl (Nat.zero_le _) (Nat.zero_le _) ⟨rfl, rfl⟩
    · refine J_aload_n (q := 25) C0 0 rfl rfl dX12_least_24 rfl trivial ?_
      refine J_iload_n (q := 26) C0 1 rfl rfl dX12_least_25 rfl ?_
      refine J_iload_n (q := 27) C0 3 rfl rfl dX12_least_26 rfl ?_
      refine J_iload_n (q := 28) C0 2 rfl rfl dX12_least_27 rfl ?_
      refine K_some hf (fun p6 hp6 hf => ?_)
      refine J_callV (q := 31) (ci := 11) (as := [vi (v1), vi (v3), vi (v2)]) (rest := []) C0 rfl (h0) (t_X12_isAhead N a0 (v1) (v3) (v2) (hT) (h0)  hp6) ml_X12_isAhead lk_X12_372 im_X12_isAhead se_X12_isAhead rfl (by decide) dX12_least_28 rfl rfl rfl (by simp [ac_]) C1.room (by decide) (by decide) (by decide) (by decide) (fun r_ τ_ hQ => ?_)
      obtain ⟨⟨rfl, zp6⟩, ht_⟩ := hQ; have ht_ := ht_.symm; subst ht_
      show J_ Γ 31 [(0, vr (some a0)), (1, vi (v1)), (2, vi (v2)), (3, vi (v3))] [vi (p6)] σ 0 0
      refine J_if_eq (t := 38) (q := 34) C0 dX12_least_31 (by decide) rfl hf (fun c7 hf => ?_) (fun c7 hf => ?_)
      · refine J_iload_n (q := 39) C0 2 rfl rfl dX12_least_38 rfl ?_
        refine J_sub (lv' := [(0, vr (some a0)), (1, vi (v1)), (3, vi (v3))]) [0, 1, 3] rfl ?_
        exact t_X12_least_B39 C1 (hT) (h0) (fun v1 v2 v3 => f_X12_least_L14 N a0 n v1 v2 v3 σ)  ih  (v1) (v3) (v2)  hf
      · refine J_iload_n (q := 35) C0 3 rfl rfl dX12_least_34 rfl ?_
        refine J_goto (q := 39) C0 dX12_least_35 (by decide) ?_
        refine J_sub (lv' := [(0, vr (some a0)), (1, vi (v1)), (3, vi (v3))]) [0, 1, 3] rfl ?_
        exact t_X12_least_B39 C1 (hT) (h0) (fun v1 v2 v3 => f_X12_least_L14 N a0 n v1 v2 v3 σ)  ih  (v1) (v3) (v3)  hf
set_option maxHeartbeats 4000000 in
set_option maxRecDepth 100000 in
theorem t_X12_least (N : Nat) (a0 : Nat) (x1 : Int32) {σ : Sg} (hT : sg_T σ) (h0 : is_A σ a0 11) {r : Int32} (hf : f_X12_least N a0 x1 σ = some r) : Ct yX12_least cX12_least 4 (some .int) 2 52 0 0 [vr (some a0), vi x1] σ (fun r_ τ_ => (r_ = some (vi r)) ∧ τ_ = σ) := by
  refine Ct.of (by decide +kernel) (Nat.le_of_ble_eq_true rfl) (fun Γ C1 => ?_)
  have C0 := C1.1
  unfold f_X12_least at hf
  show J_ Γ 0 [(0, vr (some a0)), (1, vi (x1))] [] σ 0 0
  refine J_aload_n (q := 1) C0 0 rfl rfl dX12_least_0 rfl trivial ?_
  refine J_iload_n (q := 2) C0 1 rfl rfl dX12_least_1 rfl ?_
  refine K_some hf (fun p1 hp1 hf => ?_)
  refine J_callV (q := 5) (ci := 11) (as := [vi (x1)]) (rest := []) C0 rfl (h0) (t_X12_isStrip a0 (x1) (h0)  hp1) ml_X12_isStrip lk_X12_310 im_X12_isStrip se_X12_isStrip rfl (by decide) dX12_least_2 rfl rfl rfl (by simp [ac_]) C1.room (by decide) (by decide) (by decide) (by decide) (fun r_ τ_ hQ => ?_)
  obtain ⟨⟨rfl, zp1⟩, ht_⟩ := hQ; have ht_ := ht_.symm; subst ht_
  show J_ Γ 5 [(0, vr (some a0)), (1, vi (x1))] [vi (p1)] σ 0 0
  refine J_if_ne (t := 10) (q := 8) C0 dX12_least_5 (by decide) rfl hf (fun c2 hf => ?_) (fun c2 hf => ?_)
  · refine J_iconst (q := 11) (v := 0) C0 dX12_least_10 rfl rfl ?_
    refine J_istore_n (q := 12) (lv' := [(2, vi (0)), (0, vr (some a0)), (1, vi (x1))]) C0 rfl (G_nl C1 (by decide)) dX12_least_11 rfl rfl ?_
    refine J_iconst (q := 13) (v := 1) C0 dX12_least_12 rfl rfl ?_
    refine J_istore_n (q := 14) (lv' := [(3, vi (1)), (2, vi (0)), (0, vr (some a0)), (1, vi (x1))]) C0 rfl (G_nl C1 (by decide)) dX12_least_13 rfl rfl ?_
    refine J_sub (lv' := [(0, vr (some a0)), (1, vi (x1)), (2, vi (0)), (3, vi (1))]) [2, 3, 1, 0] rfl ?_
    exact t_X12_least_L14 C1 (hT) (h0)    N (x1) (0) (1)  hf
  · refine J_iconst (q := 9) (v := (-1)) C0 dX12_least_8 rfl rfl ?_
    obtain rfl := Option.some.inj hf; exact J_iret C1 dX12_least_9 rfl (Nat.zero_le _) (Nat.zero_le _) ⟨rfl, rfl⟩
def f_X12_alike (N : Nat) (a0 : Nat) (x1 : Int32) (x2 : Int32) (x3 : Int32) (σ : Sg) : Option Int32 :=
  Option.bind (f_X12_isStrip a0 (x1) σ) fun p1 =>
  if (p1) = (0) then
  (some ((-1)))
  else
  (Option.bind (f_X12_isStrip a0 (x2) σ) fun p3 =>
  if (p3) = (0) then
  (some ((-1)))
  else
  (Option.bind (f_X12_alikeBy N a0 (x1) (x2) (x3) σ) fun p5 =>
  some (p5)))
set_option maxHeartbeats 4000000 in
set_option maxRecDepth 100000 in
theorem t_X12_alike (N : Nat) (a0 : Nat) (x1 : Int32) (x2 : Int32) (x3 : Int32) {σ : Sg} (hT : sg_T σ) (h0 : is_A σ a0 11) {r : Int32} (hf : f_X12_alike N a0 x1 x2 x3 σ = some r) : Ct yX12_alike cX12_alike 4 (some .int) 3 75 0 0 [vr (some a0), vi x1, vi x2, vi x3] σ (fun r_ τ_ => (r_ = some (vi r)) ∧ τ_ = σ) := by
  refine Ct.of (by decide +kernel) (Nat.le_of_ble_eq_true rfl) (fun Γ C1 => ?_)
  have C0 := C1.1
  unfold f_X12_alike at hf
  show J_ Γ 0 [(0, vr (some a0)), (1, vi (x1)), (2, vi (x2)), (3, vi (x3))] [] σ 0 0
  refine J_aload_n (q := 1) C0 0 rfl rfl dX12_alike_0 rfl trivial ?_
  refine J_iload_n (q := 2) C0 1 rfl rfl dX12_alike_1 rfl ?_
  refine K_some hf (fun p1 hp1 hf => ?_)
  refine J_callV (q := 5) (ci := 11) (as := [vi (x1)]) (rest := []) C0 rfl (h0) (t_X12_isStrip a0 (x1) (h0)  hp1) ml_X12_isStrip lk_X12_310 im_X12_isStrip se_X12_isStrip rfl (by decide) dX12_alike_2 rfl rfl rfl (by simp [ac_]) C1.room (by decide) (by decide) (by decide) (by decide) (fun r_ τ_ hQ => ?_)
  obtain ⟨⟨rfl, zp1⟩, ht_⟩ := hQ; have ht_ := ht_.symm; subst ht_
  show J_ Γ 5 [(0, vr (some a0)), (1, vi (x1)), (2, vi (x2)), (3, vi (x3))] [vi (p1)] σ 0 0
  refine J_if_eq (t := 26) (q := 8) C0 dX12_alike_5 (by decide) rfl hf (fun c2 hf => ?_) (fun c2 hf => ?_)
  · refine J_iconst (q := 27) (v := (-1)) C0 dX12_alike_26 rfl rfl ?_
    obtain rfl := Option.some.inj hf; exact J_iret C1 dX12_alike_27 rfl (Nat.zero_le _) (Nat.zero_le _) ⟨rfl, rfl⟩
  · refine J_aload_n (q := 9) C0 0 rfl rfl dX12_alike_8 rfl trivial ?_
    refine J_iload_n (q := 10) C0 2 rfl rfl dX12_alike_9 rfl ?_
    refine K_some hf (fun p3 hp3 hf => ?_)
    refine J_callV (q := 13) (ci := 11) (as := [vi (x2)]) (rest := []) C0 rfl (h0) (t_X12_isStrip a0 (x2) (h0)  hp3) ml_X12_isStrip lk_X12_310 im_X12_isStrip se_X12_isStrip rfl (by decide) dX12_alike_10 rfl rfl rfl (by simp [ac_]) C1.room (by decide) (by decide) (by decide) (by decide) (fun r_ τ_ hQ => ?_)
    obtain ⟨⟨rfl, zp3⟩, ht_⟩ := hQ; have ht_ := ht_.symm; subst ht_
    show J_ Γ 13 [(0, vr (some a0)), (1, vi (x1)), (2, vi (x2)), (3, vi (x3))] [vi (p3)] σ 0 0
    refine J_if_eq (t := 26) (q := 16) C0 dX12_alike_13 (by decide) rfl hf (fun c4 hf => ?_) (fun c4 hf => ?_)
    · refine J_iconst (q := 27) (v := (-1)) C0 dX12_alike_26 rfl rfl ?_
      obtain rfl := Option.some.inj hf; exact J_iret C1 dX12_alike_27 rfl (Nat.zero_le _) (Nat.zero_le _) ⟨rfl, rfl⟩
    · refine J_aload_n (q := 17) C0 0 rfl rfl dX12_alike_16 rfl trivial ?_
      refine J_iload_n (q := 18) C0 1 rfl rfl dX12_alike_17 rfl ?_
      refine J_iload_n (q := 19) C0 2 rfl rfl dX12_alike_18 rfl ?_
      refine J_iload_n (q := 20) C0 3 rfl rfl dX12_alike_19 rfl ?_
      refine K_some hf (fun p5 hp5 hf => ?_)
      refine J_callV (q := 23) (ci := 11) (as := [vi (x1), vi (x2), vi (x3)]) (rest := []) C0 rfl (h0) (t_X12_alikeBy N a0 (x1) (x2) (x3) (hT) (h0)  hp5) ml_X12_alikeBy lk_X12_375 im_X12_alikeBy se_X12_alikeBy rfl (by decide) dX12_alike_20 rfl rfl rfl (by simp [ac_]) C1.room (by decide) (by decide) (by decide) (by decide) (fun r_ τ_ hQ => ?_)
      obtain ⟨rfl, ht_⟩ := hQ; have ht_ := ht_.symm; subst ht_
      show J_ Γ 23 [(0, vr (some a0)), (1, vi (x1)), (2, vi (x2)), (3, vi (x3))] [vi (p5)] σ 0 0
      refine J_goto (q := 27) C0 dX12_alike_23 (by decide) ?_
      obtain rfl := Option.some.inj hf; exact J_iret C1 dX12_alike_27 rfl (Nat.zero_le _) (Nat.zero_le _) ⟨rfl, rfl⟩
def f_X12_mirror (N : Nat) (a0 : Nat) (x1 : Int32) (σ : Sg) : Option Int32 :=
  Option.bind (f_X12_isStrip a0 (x1) σ) fun p1 =>
  if (p1) = (0) then
  (some ((-1)))
  else
  (Option.bind (f_X12_alikeBy N a0 (x1) (x1) (1) σ) fun p3 =>
  if (p3) = ((-1)) then
  (some (0))
  else
  (some (1)))
set_option maxHeartbeats 4000000 in
set_option maxRecDepth 100000 in
theorem t_X12_mirror (N : Nat) (a0 : Nat) (x1 : Int32) {σ : Sg} (hT : sg_T σ) (h0 : is_A σ a0 11) {r : Int32} (hf : f_X12_mirror N a0 x1 σ = some r) : Ct yX12_mirror cX12_mirror 2 (some .int) 3 75 0 0 [vr (some a0), vi x1] σ (fun r_ τ_ => (r_ = some (vi r)) ∧ τ_ = σ) := by
  refine Ct.of (by decide +kernel) (Nat.le_of_ble_eq_true rfl) (fun Γ C1 => ?_)
  have C0 := C1.1
  unfold f_X12_mirror at hf
  show J_ Γ 0 [(0, vr (some a0)), (1, vi (x1))] [] σ 0 0
  refine J_aload_n (q := 1) C0 0 rfl rfl dX12_mirror_0 rfl trivial ?_
  refine J_iload_n (q := 2) C0 1 rfl rfl dX12_mirror_1 rfl ?_
  refine K_some hf (fun p1 hp1 hf => ?_)
  refine J_callV (q := 5) (ci := 11) (as := [vi (x1)]) (rest := []) C0 rfl (h0) (t_X12_isStrip a0 (x1) (h0)  hp1) ml_X12_isStrip lk_X12_310 im_X12_isStrip se_X12_isStrip rfl (by decide) dX12_mirror_2 rfl rfl rfl (by simp [ac_]) C1.room (by decide) (by decide) (by decide) (by decide) (fun r_ τ_ hQ => ?_)
  obtain ⟨⟨rfl, zp1⟩, ht_⟩ := hQ; have ht_ := ht_.symm; subst ht_
  show J_ Γ 5 [(0, vr (some a0)), (1, vi (x1))] [vi (p1)] σ 0 0
  refine J_if_ne (t := 12) (q := 8) C0 dX12_mirror_5 (by decide) rfl hf (fun c2 hf => ?_) (fun c2 hf => ?_)
  · refine J_aload_n (q := 13) C0 0 rfl rfl dX12_mirror_12 rfl trivial ?_
    refine J_iload_n (q := 14) C0 1 rfl rfl dX12_mirror_13 rfl ?_
    refine J_iload_n (q := 15) C0 1 rfl rfl dX12_mirror_14 rfl ?_
    refine J_iconst (q := 16) (v := 1) C0 dX12_mirror_15 rfl rfl ?_
    refine K_some hf (fun p3 hp3 hf => ?_)
    refine J_callV (q := 19) (ci := 11) (as := [vi (x1), vi (x1), vi (1)]) (rest := []) C0 rfl (h0) (t_X12_alikeBy N a0 (x1) (x1) (1) (hT) (h0)  hp3) ml_X12_alikeBy lk_X12_375 im_X12_alikeBy se_X12_alikeBy rfl (by decide) dX12_mirror_16 rfl rfl rfl (by simp [ac_]) C1.room (by decide) (by decide) (by decide) (by decide) (fun r_ τ_ hQ => ?_)
    obtain ⟨rfl, ht_⟩ := hQ; have ht_ := ht_.symm; subst ht_
    show J_ Γ 19 [(0, vr (some a0)), (1, vi (x1))] [vi (p3)] σ 0 0
    refine J_iconst (q := 20) (v := (-1)) C0 dX12_mirror_19 rfl rfl ?_
    refine J_icmp_ne (t := 27) (q := 23) C0 dX12_mirror_20 (by decide) rfl hf (fun c4 hf => ?_) (fun c4 hf => ?_)
    · refine J_iconst (q := 28) (v := 1) C0 dX12_mirror_27 rfl rfl ?_
      obtain rfl := Option.some.inj hf; exact J_iret C1 dX12_mirror_28 rfl (Nat.zero_le _) (Nat.zero_le _) ⟨rfl, rfl⟩
    · refine J_iconst (q := 24) (v := 0) C0 dX12_mirror_23 rfl rfl ?_
      refine J_goto (q := 28) C0 dX12_mirror_24 (by decide) ?_
      obtain rfl := Option.some.inj hf; exact J_iret C1 dX12_mirror_28 rfl (Nat.zero_le _) (Nat.zero_le _) ⟨rfl, rfl⟩
  · refine J_iconst (q := 9) (v := (-1)) C0 dX12_mirror_8 rfl rfl ?_
    refine J_goto (q := 28) C0 dX12_mirror_9 (by decide) ?_
    obtain rfl := Option.some.inj hf; exact J_iret C1 dX12_mirror_28 rfl (Nat.zero_le _) (Nat.zero_le _) ⟨rfl, rfl⟩
def f_X12_areRowsAlike_L3 (N : Nat) (a0 : Nat) : Nat → Int32 → Int32 → Int32 → Int32 → Int32 → Sg → Option Int32
  | 0, _, _, _, _, _, _ => none
  | n + 1, v1, v2, v3, v4, v5, σ =>
  if (v5) < (v4) then
  (Option.bind (f_X12_turned a0 (v1) (v2) (v5) (0) σ) fun p2 =>
  Option.bind (f_X12_turned a0 (v1) (v3) (v5) (0) σ) fun p3 =>
  if (p2) = (p3) then
  (f_X12_areRowsAlike_L3 N a0 n (v1) (v2) (v3) (v4) (v5 + 1) σ)
  else
  (some (0)))
  else
  (some (1))
def f_X12_areRowsAlike (N : Nat) (a0 : Nat) (x1 : Int32) (x2 : Int32) (x3 : Int32) (x4 : Int32) (σ : Sg) : Option Int32 :=
  f_X12_areRowsAlike_L3 N a0 N (x1) (x2) (x3) (x4) (0) σ
set_option maxHeartbeats 4000000 in
set_option maxRecDepth 100000 in
theorem t_X12_areRowsAlike_L3 {N : Nat} {a0 : Nat} {Γ : Gm} {σ : Sg} {r : Int32} (C1 : CM Γ cX12_areRowsAlike RX12 6 (some .boolean) 1 26 0 0 (fun r_ τ_ => (r_ = some (vi r) ∧ (r = 0 ∨ r = 1)) ∧ τ_ = σ)) (hT : sg_T σ) (h0 : is_A σ a0 11) : ∀ (n : Nat) (v1 : Int32) (v2 : Int32) (v3 : Int32) (v4 : Int32) (v5 : Int32), f_X12_areRowsAlike_L3 N a0  n v1 v2 v3 v4 v5 σ = some r → J_ Γ 3 [(0, vr (some a0)), (1, vi (v1)), (2, vi (v2)), (3, vi (v3)), (4, vi (v4)), (5, vi (v5))] [] σ 0 0 := by
  have C0 := C1.1
  intro n
  induction n with
  | zero => intro v1 v2 v3 v4 v5  hf; unfold f_X12_areRowsAlike_L3 at hf; cases hf
  | succ n ih =>
    intro v1 v2 v3 v4 v5  hf
    rw [f_X12_areRowsAlike_L3] at hf
    refine J_iload (q := 5) C0 5 rfl dX12_areRowsAlike_3 rfl ?_
    refine J_iload (q := 7) C0 4 rfl dX12_areRowsAlike_5 rfl ?_
    refine J_icmp_ge (t := 39) (q := 10) C0 dX12_areRowsAlike_7 (by decide) rfl hf (fun c1 hf => ?_) (fun c1 hf => ?_)
    · refine J_iconst (q := 40) (v := 1) C0 dX12_areRowsAlike_39 rfl rfl ?_
      obtain rfl := Option.some.inj hf; exact J_zret C1 dX12_areRowsAlike_40 rfl (Or.inr rfl) (Nat.zero_le _) (Nat.zero_le _) ⟨⟨rfl, (Or.inr rfl)⟩, rfl⟩
    · refine J_aload_n (q := 11) C0 0 rfl rfl dX12_areRowsAlike_10 rfl trivial ?_
      refine J_iload_n (q := 12) C0 1 rfl rfl dX12_areRowsAlike_11 rfl ?_
      refine J_iload_n (q := 13) C0 2 rfl rfl dX12_areRowsAlike_12 rfl ?_
      refine J_iload (q := 15) C0 5 rfl dX12_areRowsAlike_13 rfl ?_
      refine J_iconst (q := 16) (v := 0) C0 dX12_areRowsAlike_15 rfl rfl ?_
      refine K_some hf (fun p2 hp2 hf => ?_)
      refine J_callV (q := 19) (ci := 11) (as := [vi (v1), vi (v2), vi (v5), vi (0)]) (rest := []) C0 rfl (h0) (t_X12_turned a0 (v1) (v2) (v5) (0) (hT) (h0)  hp2) ml_X12_turned lk_X12_364 im_X12_turned se_X12_turned rfl (by decide) dX12_areRowsAlike_16 rfl rfl rfl (by simp [ac_]) C1.room (by decide) (by decide) (by decide) (by decide) (fun r_ τ_ hQ => ?_)
      obtain ⟨rfl, ht_⟩ := hQ; have ht_ := ht_.symm; subst ht_
      show J_ Γ 19 [(0, vr (some a0)), (1, vi (v1)), (2, vi (v2)), (3, vi (v3)), (4, vi (v4)), (5, vi (v5))] [vi (p2)] σ 0 0
      refine J_aload_n (q := 20) C0 0 rfl rfl dX12_areRowsAlike_19 rfl trivial ?_
      refine J_iload_n (q := 21) C0 1 rfl rfl dX12_areRowsAlike_20 rfl ?_
      refine J_iload_n (q := 22) C0 3 rfl rfl dX12_areRowsAlike_21 rfl ?_
      refine J_iload (q := 24) C0 5 rfl dX12_areRowsAlike_22 rfl ?_
      refine J_iconst (q := 25) (v := 0) C0 dX12_areRowsAlike_24 rfl rfl ?_
      refine K_some hf (fun p3 hp3 hf => ?_)
      refine J_callV (q := 28) (ci := 11) (as := [vi (v1), vi (v3), vi (v5), vi (0)]) (rest := [vi (p2)]) C0 rfl (h0) (t_X12_turned a0 (v1) (v3) (v5) (0) (hT) (h0)  hp3) ml_X12_turned lk_X12_364 im_X12_turned se_X12_turned rfl (by decide) dX12_areRowsAlike_25 rfl rfl rfl (by simp [ac_]) C1.room (by decide) (by decide) (by decide) (by decide) (fun r_ τ_ hQ => ?_)
      obtain ⟨rfl, ht_⟩ := hQ; have ht_ := ht_.symm; subst ht_
      show J_ Γ 28 [(0, vr (some a0)), (1, vi (v1)), (2, vi (v2)), (3, vi (v3)), (4, vi (v4)), (5, vi (v5))] [vi (p3), vi (p2)] σ 0 0
      refine J_icmp_eq (t := 33) (q := 31) C0 dX12_areRowsAlike_28 (by decide) rfl hf (fun c4 hf => ?_) (fun c4 hf => ?_)
      · refine J_iinc (q := 36) (v := v5 + 1) (lv' := [(5, vi (v5 + 1)), (0, vr (some a0)), (1, vi (v1)), (2, vi (v2)), (3, vi (v3)), (4, vi (v4))]) C0 5 rfl rfl (G_nl C1 (by decide)) dX12_areRowsAlike_33 rfl rfl ?_
        refine J_goto (q := 3) C0 dX12_areRowsAlike_36 (by decide) ?_
        refine J_sub (lv' := [(0, vr (some a0)), (1, vi (v1)), (2, vi (v2)), (3, vi (v3)), (4, vi (v4)), (5, vi (v5 + 1))]) [1, 2, 3, 4, 5, 0] rfl ?_
        exact ih (v1) (v2) (v3) (v4) (v5 + 1)   hf
      · refine J_iconst (q := 32) (v := 0) C0 dX12_areRowsAlike_31 rfl rfl ?_
        obtain rfl := Option.some.inj hf; exact J_zret C1 dX12_areRowsAlike_32 rfl (Or.inl rfl) (Nat.zero_le _) (Nat.zero_le _) ⟨⟨rfl, (Or.inl rfl)⟩, rfl⟩
set_option maxHeartbeats 4000000 in
set_option maxRecDepth 100000 in
theorem t_X12_areRowsAlike (N : Nat) (a0 : Nat) (x1 : Int32) (x2 : Int32) (x3 : Int32) (x4 : Int32) {σ : Sg} (hT : sg_T σ) (h0 : is_A σ a0 11) {r : Int32} (hf : f_X12_areRowsAlike N a0 x1 x2 x3 x4 σ = some r) : Ct yX12_areRowsAlike cX12_areRowsAlike 6 (some .boolean) 1 26 0 0 [vr (some a0), vi x1, vi x2, vi x3, vi x4] σ (fun r_ τ_ => (r_ = some (vi r) ∧ (r = 0 ∨ r = 1)) ∧ τ_ = σ) := by
  refine Ct.of (by decide +kernel) (Nat.le_of_ble_eq_true rfl) (fun Γ C1 => ?_)
  have C0 := C1.1
  unfold f_X12_areRowsAlike at hf
  show J_ Γ 0 [(0, vr (some a0)), (1, vi (x1)), (2, vi (x2)), (3, vi (x3)), (4, vi (x4))] [] σ 0 0
  refine J_iconst (q := 1) (v := 0) C0 dX12_areRowsAlike_0 rfl rfl ?_
  refine J_istore (q := 3) (lv' := [(5, vi (0)), (0, vr (some a0)), (1, vi (x1)), (2, vi (x2)), (3, vi (x3)), (4, vi (x4))]) C0 (G_nl C1 (by decide)) dX12_areRowsAlike_1 rfl rfl ?_
  refine J_sub (lv' := [(0, vr (some a0)), (1, vi (x1)), (2, vi (x2)), (3, vi (x3)), (4, vi (x4)), (5, vi (0))]) [1, 2, 3, 4, 5, 0] rfl ?_
  exact t_X12_areRowsAlike_L3 C1 (hT) (h0)    N (x1) (x2) (x3) (x4) (0)  hf
def f_X12_rows_B91 (N : Nat) (a0 : Nat) (k25 : Int32 → Int32 → Int32 → Int32 → Option Int32) (v1 : Int32) (v2 : Int32) (v4 : Int32) (s0 : Int32) (s1 : Int32) (σ : Sg) : Option Int32 :=
  k25 (v1) (v2) ((s1) + (s0)) (v4 + 1)
def f_X12_rows_B72 (N : Nat) (a0 : Nat) (k25 : Int32 → Int32 → Int32 → Int32 → Option Int32) (k42 : Int32 → Int32 → Int32 → Int32 → Int32 → Int32 → Option Int32) (v1 : Int32) (v2 : Int32) (v3 : Int32) (v4 : Int32) (v6 : Int32) (s0 : Int32) (σ : Sg) : Option Int32 :=
  k42 (v1) (v2) (v3) (v4) (s0) (v6 + 1)
def f_X12_rows_B71 (N : Nat) (a0 : Nat) (k25 : Int32 → Int32 → Int32 → Int32 → Option Int32) (k42 : Int32 → Int32 → Int32 → Int32 → Int32 → Int32 → Option Int32) (v1 : Int32) (v2 : Int32) (v3 : Int32) (v4 : Int32) (v6 : Int32) (σ : Sg) : Option Int32 :=
  f_X12_rows_B72 N a0 k25 k42 (v1) (v2) (v3) (v4) (v6) (0) σ
def f_X12_rows_L42 (N : Nat) (a0 : Nat) (k25 : Int32 → Int32 → Int32 → Int32 → Option Int32) : Nat → Int32 → Int32 → Int32 → Int32 → Int32 → Int32 → Sg → Option Int32
  | 0, _, _, _, _, _, _, _ => none
  | n + 1, v1, v2, v3, v4, v5, v6, σ =>
  if (v6) < (v4) then
  (if (v5) = (0) then
  (f_X12_rows_B71 N a0 k25 (fun v1 v2 v3 v4 v5 v6 => f_X12_rows_L42 N a0 k25 n v1 v2 v3 v4 v5 v6 σ) (v1) (v2) (v3) (v4) (v6) σ)
  else
  (Option.bind (f_X12_areRowsAlike N a0 (v1) (v4) (v6) (v2) σ) fun p11 =>
  if (p11) = (0) then
  (f_X12_rows_B72 N a0 k25 (fun v1 v2 v3 v4 v5 v6 => f_X12_rows_L42 N a0 k25 n v1 v2 v3 v4 v5 v6 σ) (v1) (v2) (v3) (v4) (v6) (1) σ)
  else
  (f_X12_rows_B71 N a0 k25 (fun v1 v2 v3 v4 v5 v6 => f_X12_rows_L42 N a0 k25 n v1 v2 v3 v4 v5 v6 σ) (v1) (v2) (v3) (v4) (v6) σ)))
  else
  (if (v5) = (0) then
  (f_X12_rows_B91 N a0 k25 (v1) (v2) (v4) (0) (v3) σ)
  else
  (f_X12_rows_B91 N a0 k25 (v1) (v2) (v4) (1) (v3) σ))
def f_X12_rows_L25 (N : Nat) (a0 : Nat) : Nat → Int32 → Int32 → Int32 → Int32 → Sg → Option Int32
  | 0, _, _, _, _, _ => none
  | n + 1, v1, v2, v3, v4, σ =>
  Option.bind (sg_R σ a0 22) fun b5 =>
  if (v1) < 0 ∨ sg_L σ b5 ≤ (v1).toNatClampNeg then none else
  if (v4) < (sg_I σ b5 (v1).toNatClampNeg) then
  (f_X12_rows_L42 N a0 (fun v1 v2 v3 v4 => f_X12_rows_L25 N a0 n v1 v2 v3 v4 σ) N (v1) (v2) (v3) (v4) (1) (0) σ)
  else
  (some (v3))
def f_X12_rows (N : Nat) (a0 : Nat) (x1 : Int32) (x2 : Int32) (σ : Sg) : Option Int32 :=
  Option.bind (f_X12_isStrip a0 (x1) σ) fun p1 =>
  if (p1) = (0) then
  (some ((-1)))
  else
  (Option.bind (f_X12_in (x2) (1) (8) ) fun p3 =>
  if (p3) = (0) then
  (some ((-1)))
  else
  (f_X12_rows_L25 N a0 N (x1) (x2) (0) (0) σ))
set_option maxHeartbeats 4000000 in
set_option maxRecDepth 100000 in
theorem t_X12_rows_B91 {N : Nat} {a0 : Nat} {Γ : Gm} {σ : Sg} {r : Int32} (C1 : CM Γ cX12_rows RX12 7 (some .int) 2 51 0 0 (fun r_ τ_ => (r_ = some (vi r)) ∧ τ_ = σ)) (hT : sg_T σ) (h0 : is_A σ a0 11) (k25 : Int32 → Int32 → Int32 → Int32 → Option Int32) (hk25 : ∀ (v1 : Int32) (v2 : Int32) (v3 : Int32) (v4 : Int32) , k25 v1 v2 v3 v4 = some r → J_ Γ 25 [(0, vr (some a0)), (1, vi v1), (2, vi v2), (3, vi v3), (4, vi v4)] [] σ 0 0) (v1 : Int32) (v2 : Int32) (v4 : Int32) (s0 : Int32) (s1 : Int32) (hf : f_X12_rows_B91 N a0 k25  v1 v2 v4 s0 s1 σ = some r) : J_ Γ 91 [(0, vr (some a0)), (1, vi (v1)), (2, vi (v2)), (4, vi (v4))] [vi (s0), vi (s1)] σ 0 0 := by
  have C0 := C1.1
  unfold f_X12_rows_B91 at hf
  refine J_iadd (q := 92) C0 dX12_rows_91 rfl ?_
  refine J_istore_n (q := 93) (lv' := [(3, vi ((s1) + (s0))), (0, vr (some a0)), (1, vi (v1)), (2, vi (v2)), (4, vi (v4))]) C0 rfl (G_nl C1 (by decide)) dX12_rows_92 rfl rfl ?_
  refine J_iinc (q := 96) (v := v4 + 1) (lv' := [(4, vi (v4 + 1)), (3, vi ((s1) + (s0))), (0, vr (some a0)), (1, vi (v1)), (2, vi (v2))]) C0 4 rfl rfl (G_nl C1 (by decide)) dX12_rows_93 rfl rfl ?_
  refine J_goto (q := 25) C0 dX12_rows_96 (by decide) ?_
  refine J_sub (lv' := [(0, vr (some a0)), (1, vi (v1)), (2, vi (v2)), (3, vi ((s1) + (s0))), (4, vi (v4 + 1))]) [2, 3, 4, 1, 0] rfl ?_
  exact hk25 (v1) (v2) ((s1) + (s0)) (v4 + 1)  hf
set_option maxHeartbeats 4000000 in
set_option maxRecDepth 100000 in
theorem t_X12_rows_B72 {N : Nat} {a0 : Nat} {Γ : Gm} {σ : Sg} {r : Int32} (C1 : CM Γ cX12_rows RX12 7 (some .int) 2 51 0 0 (fun r_ τ_ => (r_ = some (vi r)) ∧ τ_ = σ)) (hT : sg_T σ) (h0 : is_A σ a0 11) (k25 : Int32 → Int32 → Int32 → Int32 → Option Int32) (k42 : Int32 → Int32 → Int32 → Int32 → Int32 → Int32 → Option Int32) (hk25 : ∀ (v1 : Int32) (v2 : Int32) (v3 : Int32) (v4 : Int32) , k25 v1 v2 v3 v4 = some r → J_ Γ 25 [(0, vr (some a0)), (1, vi v1), (2, vi v2), (3, vi v3), (4, vi v4)] [] σ 0 0) (hk42 : ∀ (v1 : Int32) (v2 : Int32) (v3 : Int32) (v4 : Int32) (v5 : Int32) (v6 : Int32) , k42 v1 v2 v3 v4 v5 v6 = some r → J_ Γ 42 [(0, vr (some a0)), (1, vi v1), (2, vi v2), (3, vi v3), (4, vi v4), (5, vi v5), (6, vi v6)] [] σ 0 0) (v1 : Int32) (v2 : Int32) (v3 : Int32) (v4 : Int32) (v6 : Int32) (s0 : Int32) (hf : f_X12_rows_B72 N a0 k25 k42  v1 v2 v3 v4 v6 s0 σ = some r) : J_ Γ 72 [(0, vr (some a0)), (1, vi (v1)), (2, vi (v2)), (3, vi (v3)), (4, vi (v4)), (6, vi (v6))] [vi (s0)] σ 0 0 := by
  have C0 := C1.1
  unfold f_X12_rows_B72 at hf
  refine J_istore (q := 74) (lv' := [(5, vi (s0)), (0, vr (some a0)), (1, vi (v1)), (2, vi (v2)), (3, vi (v3)), (4, vi (v4)), (6, vi (v6))]) C0 (G_nl C1 (by decide)) dX12_rows_72 rfl rfl ?_
  refine J_iinc (q := 77) (v := v6 + 1) (lv' := [(6, vi (v6 + 1)), (5, vi (s0)), (0, vr (some a0)), (1, vi (v1)), (2, vi (v2)), (3, vi (v3)), (4, vi (v4))]) C0 6 rfl rfl (G_nl C1 (by decide)) dX12_rows_74 rfl rfl ?_
  refine J_goto (q := 42) C0 dX12_rows_77 (by decide) ?_
  refine J_sub (lv' := [(0, vr (some a0)), (1, vi (v1)), (2, vi (v2)), (3, vi (v3)), (4, vi (v4)), (5, vi (s0)), (6, vi (v6 + 1))]) [2, 3, 4, 5, 6, 1, 0] rfl ?_
  exact hk42 (v1) (v2) (v3) (v4) (s0) (v6 + 1)  hf
set_option maxHeartbeats 4000000 in
set_option maxRecDepth 100000 in
theorem t_X12_rows_B71 {N : Nat} {a0 : Nat} {Γ : Gm} {σ : Sg} {r : Int32} (C1 : CM Γ cX12_rows RX12 7 (some .int) 2 51 0 0 (fun r_ τ_ => (r_ = some (vi r)) ∧ τ_ = σ)) (hT : sg_T σ) (h0 : is_A σ a0 11) (k25 : Int32 → Int32 → Int32 → Int32 → Option Int32) (k42 : Int32 → Int32 → Int32 → Int32 → Int32 → Int32 → Option Int32) (hk25 : ∀ (v1 : Int32) (v2 : Int32) (v3 : Int32) (v4 : Int32) , k25 v1 v2 v3 v4 = some r → J_ Γ 25 [(0, vr (some a0)), (1, vi v1), (2, vi v2), (3, vi v3), (4, vi v4)] [] σ 0 0) (hk42 : ∀ (v1 : Int32) (v2 : Int32) (v3 : Int32) (v4 : Int32) (v5 : Int32) (v6 : Int32) , k42 v1 v2 v3 v4 v5 v6 = some r → J_ Γ 42 [(0, vr (some a0)), (1, vi v1), (2, vi v2), (3, vi v3), (4, vi v4), (5, vi v5), (6, vi v6)] [] σ 0 0) (v1 : Int32) (v2 : Int32) (v3 : Int32) (v4 : Int32) (v6 : Int32) (hf : f_X12_rows_B71 N a0 k25 k42  v1 v2 v3 v4 v6 σ = some r) : J_ Γ 71 [(0, vr (some a0)), (1, vi (v1)), (2, vi (v2)), (3, vi (v3)), (4, vi (v4)), (6, vi (v6))] [] σ 0 0 := by
  have C0 := C1.1
  unfold f_X12_rows_B71 at hf
  refine J_iconst (q := 72) (v := 0) C0 dX12_rows_71 rfl rfl ?_
  exact t_X12_rows_B72 C1 (hT) (h0) k25  k42  hk25  hk42  (v1) (v2) (v3) (v4) (v6) (0)  hf
set_option maxHeartbeats 4000000 in
set_option maxRecDepth 100000 in
theorem t_X12_rows_L42 {N : Nat} {a0 : Nat} {Γ : Gm} {σ : Sg} {r : Int32} (C1 : CM Γ cX12_rows RX12 7 (some .int) 2 51 0 0 (fun r_ τ_ => (r_ = some (vi r)) ∧ τ_ = σ)) (hT : sg_T σ) (h0 : is_A σ a0 11) (k25 : Int32 → Int32 → Int32 → Int32 → Option Int32) (hk25 : ∀ (v1 : Int32) (v2 : Int32) (v3 : Int32) (v4 : Int32) , k25 v1 v2 v3 v4 = some r → J_ Γ 25 [(0, vr (some a0)), (1, vi v1), (2, vi v2), (3, vi v3), (4, vi v4)] [] σ 0 0) : ∀ (n : Nat) (v1 : Int32) (v2 : Int32) (v3 : Int32) (v4 : Int32) (v5 : Int32) (v6 : Int32), f_X12_rows_L42 N a0 k25  n v1 v2 v3 v4 v5 v6 σ = some r → J_ Γ 42 [(0, vr (some a0)), (1, vi (v1)), (2, vi (v2)), (3, vi (v3)), (4, vi (v4)), (5, vi (v5)), (6, vi (v6))] [] σ 0 0 := by
  have C0 := C1.1
  intro n
  induction n with
  | zero => intro v1 v2 v3 v4 v5 v6  hf; unfold f_X12_rows_L42 at hf; cases hf
  | succ n ih =>
    intro v1 v2 v3 v4 v5 v6  hf
    rw [f_X12_rows_L42] at hf
    refine J_iload (q := 44) C0 6 rfl dX12_rows_42 rfl ?_
    refine J_iload (q := 46) C0 4 rfl dX12_rows_44 rfl ?_
    refine J_icmp_ge (t := 80) (q := 49) C0 dX12_rows_46 (by decide) rfl hf (fun c8 hf => ?_) (fun c8 hf => ?_)
    · refine J_iload_n (q := 81) C0 3 rfl rfl dX12_rows_80 rfl ?_
      refine J_iload (q := 83) C0 5 rfl dX12_rows_81 rfl ?_
      refine J_if_eq (t := 90) (q := 86) C0 dX12_rows_83 (by decide) rfl hf (fun c9 hf => ?_) (fun c9 hf => ?_)
      · refine J_iconst (q := 91) (v := 0) C0 dX12_rows_90 rfl rfl ?_
        refine J_sub (lv' := [(0, vr (some a0)), (1, vi (v1)), (2, vi (v2)), (4, vi (v4))]) [0, 1, 2, 4] rfl ?_
        exact t_X12_rows_B91 C1 (hT) (h0) k25  hk25  (v1) (v2) (v4) (0) (v3)  hf
      · refine J_iconst (q := 87) (v := 1) C0 dX12_rows_86 rfl rfl ?_
        refine J_goto (q := 91) C0 dX12_rows_87 (by decide) ?_
        refine J_sub (lv' := [(0, vr (some a0)), (1, vi (v1)), (2, vi (v2)), (4, vi (v4))]) [0, 1, 2, 4] rfl ?_
        exact t_X12_rows_B91 C1 (hT) (h0) k25  hk25  (v1) (v2) (v4) (1) (v3)  hf
    · refine J_iload (q := 51) C0 5 rfl dX12_rows_49 rfl ?_
      refine J_if_eq (t := 71) (q := 54) C0 dX12_rows_51 (by decide) rfl hf (fun c10 hf => ?_) (fun c10 hf => ?_)
      · refine J_sub (lv' := [(0, vr (some a0)), (1, vi (v1)), (2, vi (v2)), (3, vi (v3)), (4, vi (v4)), (6, vi (v6))]) [0, 1, 2, 3, 4, 6] rfl ?_
        exact t_X12_rows_B71 C1 (hT) (h0) k25  (fun v1 v2 v3 v4 v5 v6 => f_X12_rows_L42 N a0 k25 n v1 v2 v3 v4 v5 v6 σ)  hk25  ih  (v1) (v2) (v3) (v4) (v6)  hf
      · refine J_aload_n (q := 55) C0 0 rfl rfl dX12_rows_54 rfl trivial ?_
        refine J_iload_n (q := 56) C0 1 rfl rfl dX12_rows_55 rfl ?_
        refine J_iload (q := 58) C0 4 rfl dX12_rows_56 rfl ?_
        refine J_iload (q := 60) C0 6 rfl dX12_rows_58 rfl ?_
        refine J_iload_n (q := 61) C0 2 rfl rfl dX12_rows_60 rfl ?_
        refine K_some hf (fun p11 hp11 hf => ?_)
        refine J_callV (q := 64) (ci := 11) (as := [vi (v1), vi (v4), vi (v6), vi (v2)]) (rest := []) C0 rfl (h0) (t_X12_areRowsAlike N a0 (v1) (v4) (v6) (v2) (hT) (h0)  hp11) ml_X12_areRowsAlike lk_X12_379 im_X12_areRowsAlike se_X12_areRowsAlike rfl (by decide) dX12_rows_61 rfl rfl rfl (by simp [ac_]) C1.room (by decide) (by decide) (by decide) (by decide) (fun r_ τ_ hQ => ?_)
        obtain ⟨⟨rfl, zp11⟩, ht_⟩ := hQ; have ht_ := ht_.symm; subst ht_
        show J_ Γ 64 [(0, vr (some a0)), (1, vi (v1)), (2, vi (v2)), (3, vi (v3)), (4, vi (v4)), (5, vi (v5)), (6, vi (v6))] [vi (p11)] σ 0 0
        refine J_if_ne (t := 71) (q := 67) C0 dX12_rows_64 (by decide) rfl hf (fun c12 hf => ?_) (fun c12 hf => ?_)
        · refine J_sub (lv' := [(0, vr (some a0)), (1, vi (v1)), (2, vi (v2)), (3, vi (v3)), (4, vi (v4)), (6, vi (v6))]) [0, 1, 2, 3, 4, 6] rfl ?_
          exact t_X12_rows_B71 C1 (hT) (h0) k25  (fun v1 v2 v3 v4 v5 v6 => f_X12_rows_L42 N a0 k25 n v1 v2 v3 v4 v5 v6 σ)  hk25  ih  (v1) (v2) (v3) (v4) (v6)  hf
        · refine J_iconst (q := 68) (v := 1) C0 dX12_rows_67 rfl rfl ?_
          refine J_goto (q := 72) C0 dX12_rows_68 (by decide) ?_
          refine J_sub (lv' := [(0, vr (some a0)), (1, vi (v1)), (2, vi (v2)), (3, vi (v3)), (4, vi (v4)), (6, vi (v6))]) [0, 1, 2, 3, 4, 6] rfl ?_
          exact t_X12_rows_B72 C1 (hT) (h0) k25  (fun v1 v2 v3 v4 v5 v6 => f_X12_rows_L42 N a0 k25 n v1 v2 v3 v4 v5 v6 σ)  hk25  ih  (v1) (v2) (v3) (v4) (v6) (1)  hf
set_option maxHeartbeats 4000000 in
set_option maxRecDepth 100000 in
theorem t_X12_rows_L25 {N : Nat} {a0 : Nat} {Γ : Gm} {σ : Sg} {r : Int32} (C1 : CM Γ cX12_rows RX12 7 (some .int) 2 51 0 0 (fun r_ τ_ => (r_ = some (vi r)) ∧ τ_ = σ)) (hT : sg_T σ) (h0 : is_A σ a0 11) : ∀ (n : Nat) (v1 : Int32) (v2 : Int32) (v3 : Int32) (v4 : Int32), f_X12_rows_L25 N a0  n v1 v2 v3 v4 σ = some r → J_ Γ 25 [(0, vr (some a0)), (1, vi (v1)), (2, vi (v2)), (3, vi (v3)), (4, vi (v4))] [] σ 0 0 := by
  have C0 := C1.1
  intro n
  induction n with
  | zero => intro v1 v2 v3 v4  hf; unfold f_X12_rows_L25 at hf; cases hf
  | succ n ih =>
    intro v1 v2 v3 v4  hf
    rw [f_X12_rows_L25] at hf
    refine J_iload (q := 27) C0 4 rfl dX12_rows_25 rfl ?_
    refine J_aload_n (q := 28) C0 0 rfl rfl dX12_rows_27 rfl trivial ?_
    refine J_getR (q := 31) C0 fl_X12_49_11 rfl (h0) rfl dX12_rows_28 rfl ?_
    refine J_iload_n (q := 32) C0 1 rfl rfl dX12_rows_31 rfl ?_
    refine K_some hf (fun b5 hb5 hf => ?_)
    have ab5 : is_A σ b5 12 := ((sg_T.op hT (j := 22) (h0) rfl)) b5 hb5
    refine K_chk hf (fun c6 hf => ?_)
    refine J_iald (q := 33) C0 hb5 (ab5) c6 dX12_rows_32 rfl ?_
    refine J_icmp_ge (t := 99) (q := 36) C0 dX12_rows_33 (by decide) rfl hf (fun c7 hf => ?_) (fun c7 hf => ?_)
    · refine J_iload_n (q := 100) C0 3 rfl rfl dX12_rows_99 rfl ?_
      obtain rfl := Option.some.inj hf; exact J_iret C1 dX12_rows_100 rfl (Nat.zero_le _) (Nat.zero_le _) ⟨rfl, rfl⟩
    · refine J_iconst (q := 37) (v := 1) C0 dX12_rows_36 rfl rfl ?_
      refine J_istore (q := 39) (lv' := [(5, vi (1)), (0, vr (some a0)), (1, vi (v1)), (2, vi (v2)), (3, vi (v3)), (4, vi (v4))]) C0 (G_nl C1 (by decide)) dX12_rows_37 rfl rfl ?_
      refine J_iconst (q := 40) (v := 0) C0 dX12_rows_39 rfl rfl ?_
      refine J_istore (q := 42) (lv' := [(6, vi (0)), (5, vi (1)), (0, vr (some a0)), (1, vi (v1)), (2, vi (v2)), (3, vi (v3)), (4, vi (v4))]) C0 (G_nl C1 (by decide)) dX12_rows_40 rfl rfl ?_
      refine J_sub (lv' := [(0, vr (some a0)), (1, vi (v1)), (2, vi (v2)), (3, vi (v3)), (4, vi (v4)), (5, vi (1)), (6, vi (0))]) [2, 3, 4, 5, 6, 1, 0] rfl ?_
      exact t_X12_rows_L42 C1 (hT) (h0)  (fun v1 v2 v3 v4 => f_X12_rows_L25 N a0 n v1 v2 v3 v4 σ)  ih  N (v1) (v2) (v3) (v4) (1) (0)  hf
set_option maxHeartbeats 4000000 in
set_option maxRecDepth 100000 in
theorem t_X12_rows (N : Nat) (a0 : Nat) (x1 : Int32) (x2 : Int32) {σ : Sg} (hT : sg_T σ) (h0 : is_A σ a0 11) {r : Int32} (hf : f_X12_rows N a0 x1 x2 σ = some r) : Ct yX12_rows cX12_rows 7 (some .int) 2 51 0 0 [vr (some a0), vi x1, vi x2] σ (fun r_ τ_ => (r_ = some (vi r)) ∧ τ_ = σ) := by
  refine Ct.of (by decide +kernel) (Nat.le_of_ble_eq_true rfl) (fun Γ C1 => ?_)
  have C0 := C1.1
  unfold f_X12_rows at hf
  show J_ Γ 0 [(0, vr (some a0)), (1, vi (x1)), (2, vi (x2))] [] σ 0 0
  refine J_aload_n (q := 1) C0 0 rfl rfl dX12_rows_0 rfl trivial ?_
  refine J_iload_n (q := 2) C0 1 rfl rfl dX12_rows_1 rfl ?_
  refine K_some hf (fun p1 hp1 hf => ?_)
  refine J_callV (q := 5) (ci := 11) (as := [vi (x1)]) (rest := []) C0 rfl (h0) (t_X12_isStrip a0 (x1) (h0)  hp1) ml_X12_isStrip lk_X12_310 im_X12_isStrip se_X12_isStrip rfl (by decide) dX12_rows_2 rfl rfl rfl (by simp [ac_]) C1.room (by decide) (by decide) (by decide) (by decide) (fun r_ τ_ hQ => ?_)
  obtain ⟨⟨rfl, zp1⟩, ht_⟩ := hQ; have ht_ := ht_.symm; subst ht_
  show J_ Γ 5 [(0, vr (some a0)), (1, vi (x1)), (2, vi (x2))] [vi (p1)] σ 0 0
  refine J_if_eq (t := 18) (q := 8) C0 dX12_rows_5 (by decide) rfl hf (fun c2 hf => ?_) (fun c2 hf => ?_)
  · refine J_iconst (q := 19) (v := (-1)) C0 dX12_rows_18 rfl rfl ?_
    obtain rfl := Option.some.inj hf; exact J_iret C1 dX12_rows_19 rfl (Nat.zero_le _) (Nat.zero_le _) ⟨rfl, rfl⟩
  · refine J_iload_n (q := 9) C0 2 rfl rfl dX12_rows_8 rfl ?_
    refine J_iconst (q := 10) (v := 1) C0 dX12_rows_9 rfl rfl ?_
    refine J_bipush (q := 12) (v := 8) C0 dX12_rows_10 rfl rfl ?_
    refine K_some hf (fun p3 hp3 hf => ?_)
    refine J_callS (q := 15) (as := [vi (x2), vi (1), vi (8)]) (rest := []) C0 (t_X12_in (x2) (1) (8)  hp3) ml_X12_in lk_X12_208 sm_X12_in dX12_rows_12 rfl rfl rfl (by simp [ac_]) C1.room (by decide) (by decide) (by decide) (by decide) (fun r_ τ_ hQ => ?_)
    obtain ⟨⟨rfl, zp3⟩, ht_⟩ := hQ; have ht_ := ht_.symm; subst ht_
    show J_ Γ 15 [(0, vr (some a0)), (1, vi (x1)), (2, vi (x2))] [vi (p3)] σ 0 0
    refine J_if_ne (t := 20) (q := 18) C0 dX12_rows_15 (by decide) rfl hf (fun c4 hf => ?_) (fun c4 hf => ?_)
    · refine J_iconst (q := 21) (v := 0) C0 dX12_rows_20 rfl rfl ?_
      refine J_istore_n (q := 22) (lv' := [(3, vi (0)), (0, vr (some a0)), (1, vi (x1)), (2, vi (x2))]) C0 rfl (G_nl C1 (by decide)) dX12_rows_21 rfl rfl ?_
      refine J_iconst (q := 23) (v := 0) C0 dX12_rows_22 rfl rfl ?_
      refine J_istore (q := 25) (lv' := [(4, vi (0)), (3, vi (0)), (0, vr (some a0)), (1, vi (x1)), (2, vi (x2))]) C0 (G_nl C1 (by decide)) dX12_rows_23 rfl rfl ?_
      refine J_sub (lv' := [(0, vr (some a0)), (1, vi (x1)), (2, vi (x2)), (3, vi (0)), (4, vi (0))]) [2, 3, 4, 1, 0] rfl ?_
      exact t_X12_rows_L25 C1 (hT) (h0)    N (x1) (x2) (0) (0)  hf
    · refine J_iconst (q := 19) (v := (-1)) C0 dX12_rows_18 rfl rfl ?_
      obtain rfl := Option.some.inj hf; exact J_iret C1 dX12_rows_19 rfl (Nat.zero_le _) (Nat.zero_le _) ⟨rfl, rfl⟩
def f_X12_commonOf_o (rec : Nat → Int32 → Int32 → Sg → Option Int32) (x0 : Int32) (x1 : Int32) (σ : Sg) : Option Int32 :=
  if (x1) = (0) then
  (some (x0))
  else
  (if (x1) = 0 then none else
  Option.bind (rec 0 (x1) (rm_ (x0) (x1)) σ) fun p3 =>
  some (p3))
set_option maxHeartbeats 4000000 in
set_option maxRecDepth 100000 in
theorem t_X12_commonOf_o {rec : Nat → Int32 → Int32 → Sg → Option Int32} {d : Nat} (hr_X12_commonOf : ∀ (x0 : Int32) (x1 : Int32) (σ : Sg), sg_T σ → ∀ r : Int32, rec 0 x0 x1 σ = some r → Ct yX12_commonOf cX12_commonOf 2 (some .int) (d + 0) (d * 21 + 0) 0 0 [vi x0, vi x1] σ (fun r_ τ_ => (r_ = some (vi r)) ∧ τ_ = σ)) (x0 : Int32) (x1 : Int32) {σ : Sg} (hT : sg_T σ) {r : Int32} (hf : f_X12_commonOf_o rec x0 x1 σ = some r) : Ct yX12_commonOf cX12_commonOf 2 (some .int) (d + 1 + 0) ((d + 1) * 21 + 0) 0 0 [vi x0, vi x1] σ (fun r_ τ_ => (r_ = some (vi r)) ∧ τ_ = σ) := by
  refine Ct.of (by decide +kernel) (Nat.le_of_ble_eq_true rfl) (fun Γ C1 => ?_)
  have C0 := C1.1
  unfold f_X12_commonOf_o at hf
  show J_ Γ 0 [(0, vi (x0)), (1, vi (x1))] [] σ 0 0
  refine J_iload_n (q := 1) C0 1 rfl rfl dX12_commonOf_0 rfl ?_
  refine J_if_ne (t := 8) (q := 4) C0 dX12_commonOf_1 (by decide) rfl hf (fun c1 hf => ?_) (fun c1 hf => ?_)
  · refine J_iload_n (q := 9) C0 1 rfl rfl dX12_commonOf_8 rfl ?_
    refine J_iload_n (q := 10) C0 0 rfl rfl dX12_commonOf_9 rfl ?_
    refine J_iload_n (q := 11) C0 1 rfl rfl dX12_commonOf_10 rfl ?_
    refine K_chk hf (fun c2 hf => ?_)
    refine J_irem (q := 12) C0 dX12_commonOf_11 rfl c2 ?_
    refine K_some hf (fun p3 hp3 hf => ?_)
    refine J_callS (q := 15) (as := [vi (x1), vi (rm_ (x0) (x1))]) (rest := []) C0 (hr_X12_commonOf (x1) (rm_ (x0) (x1)) σ (hT)  _ hp3) ml_X12_commonOf lk_X12_383 sm_X12_commonOf dX12_commonOf_12 rfl rfl rfl (by simp [ac_]) C1.room (by omega) (by omega) (by decide) (by decide) (fun r_ τ_ hQ => ?_)
    obtain ⟨rfl, ht_⟩ := hQ; have ht_ := ht_.symm; subst ht_
    show J_ Γ 15 [(0, vi (x0)), (1, vi (x1))] [vi (p3)] σ 0 0
    obtain rfl := Option.some.inj hf; exact J_iret C1 dX12_commonOf_15 rfl (Nat.zero_le _) (Nat.zero_le _) ⟨rfl, rfl⟩
  · refine J_iload_n (q := 5) C0 0 rfl rfl dX12_commonOf_4 rfl ?_
    refine J_goto (q := 15) C0 dX12_commonOf_5 (by decide) ?_
    obtain rfl := Option.some.inj hf; exact J_iret C1 dX12_commonOf_15 rfl (Nat.zero_le _) (Nat.zero_le _) ⟨rfl, rfl⟩
def g_X12_commonOf : Nat → Nat → Int32 → Int32 → Sg → Option Int32
  | 0, _, _, _, _ => none
  | d + 1, t, x0, x1, σ => f_X12_commonOf_o (g_X12_commonOf d) x0 x1 σ
set_option maxHeartbeats 4000000 in
set_option maxRecDepth 100000 in
theorem c_X12_commonOf : ∀ d : Nat, (∀ (x0 : Int32) (x1 : Int32) (σ : Sg), sg_T σ → ∀ r : Int32, g_X12_commonOf d 0 x0 x1 σ = some r → Ct yX12_commonOf cX12_commonOf 2 (some .int) (d + 0) (d * 21 + 0) 0 0 [vi x0, vi x1] σ (fun r_ τ_ => (r_ = some (vi r)) ∧ τ_ = σ)) := by
  intro d
  induction d with
  | zero =>
    skip
    all_goals (intros; rename_i hf_; cases hf_)
  | succ d ih =>
    have hr_X12_commonOf := ih
    skip
    · intro x0 x1 σ hT_ r hf
      have hf : f_X12_commonOf_o (g_X12_commonOf d) x0 x1 σ = some r := hf
      exact (t_X12_commonOf_o hr_X12_commonOf x0 x1 hT_ hf)

def dep_X12_commonOf : Nat := 60
def f_X12_commonOf (x0 : Int32) (x1 : Int32) (σ : Sg) : Option Int32 := g_X12_commonOf dep_X12_commonOf 0 x0 x1 σ
set_option maxHeartbeats 4000000 in
set_option maxRecDepth 100000 in
theorem t_X12_commonOf (x0 : Int32) (x1 : Int32) {σ : Sg} (hT_ : sg_T σ) {r : Int32} (hf : f_X12_commonOf x0 x1 σ = some r) : Ct yX12_commonOf cX12_commonOf 2 (some .int) 60 1260 0 0 [vi x0, vi x1] σ (fun r_ τ_ => (r_ = some (vi r)) ∧ τ_ = σ) :=
  (c_X12_commonOf dep_X12_commonOf) x0 x1 σ hT_  r hf
def f_X12_power_L5 (N : Nat) : Nat → Int32 → Int32 → Int64 → Int32 → Option Int64
  | 0, _, _, _, _ => none
  | n + 1, v0, v1, v2, v4 =>
  if (v4) < (v1) then
  (f_X12_power_L5 N n (v0) (v1) ((v2) * ((v0).toInt64)) (v4 + 1) )
  else
  (some (v2))
def f_X12_power (N : Nat) (x0 : Int32) (x1 : Int32) : Option Int64 :=
  f_X12_power_L5 N N (x0) (x1) (1) (0) 
set_option maxHeartbeats 4000000 in
set_option maxRecDepth 100000 in
theorem t_X12_power_L5 {N : Nat} {Γ : Gm} {σ : Sg} {r : Int64} (C1 : CM Γ cX12_power RX12 5 (some .long) 0 0 0 0 (fun r_ τ_ => (r_ = some (vl r)) ∧ τ_ = σ)) : ∀ (n : Nat) (v0 : Int32) (v1 : Int32) (v2 : Int64) (v4 : Int32), f_X12_power_L5 N  n v0 v1 v2 v4 = some r → J_ Γ 5 [(0, vi (v0)), (1, vi (v1)), (2, vl (v2)), (4, vi (v4))] [] σ 0 0 := by
  have C0 := C1.1
  intro n
  induction n with
  | zero => intro v0 v1 v2 v4  hf; unfold f_X12_power_L5 at hf; cases hf
  | succ n ih =>
    intro v0 v1 v2 v4  hf
    rw [f_X12_power_L5] at hf
    refine J_iload (q := 7) C0 3 rfl dX12_power_5 rfl ?_
    refine J_iload_n (q := 8) C0 1 rfl rfl dX12_power_7 rfl ?_
    refine J_icmp_ge (t := 22) (q := 11) C0 dX12_power_8 (by decide) rfl hf (fun c1 hf => ?_) (fun c1 hf => ?_)
    · refine J_lload_n (q := 23) C0 2 rfl rfl dX12_power_22 rfl ?_
      obtain rfl := Option.some.inj hf; exact J_lret C1 dX12_power_23 rfl (Nat.zero_le _) (Nat.zero_le _) ⟨rfl, rfl⟩
    · refine J_lload_n (q := 12) C0 2 rfl rfl dX12_power_11 rfl ?_
      refine J_iload_n (q := 13) C0 0 rfl rfl dX12_power_12 rfl ?_
      refine J_i2l (q := 14) C0 dX12_power_13 rfl ?_
      refine J_lmul (q := 15) C0 dX12_power_14 rfl ?_
      refine J_lstore_n (q := 16) (lv' := [(2, vl ((v2) * ((v0).toInt64))), (0, vi (v0)), (1, vi (v1)), (4, vi (v4))]) C0 rfl (G_nl C1 (by decide)) dX12_power_15 rfl rfl ?_
      refine J_iinc (q := 19) (v := v4 + 1) (lv' := [(4, vi (v4 + 1)), (2, vl ((v2) * ((v0).toInt64))), (0, vi (v0)), (1, vi (v1))]) C0 3 rfl rfl (G_nl C1 (by decide)) dX12_power_16 rfl rfl ?_
      refine J_goto (q := 5) C0 dX12_power_19 (by decide) ?_
      refine J_sub (lv' := [(0, vi (v0)), (1, vi (v1)), (2, vl ((v2) * ((v0).toInt64))), (4, vi (v4 + 1))]) [2, 3, 1, 0] rfl ?_
      exact ih (v0) (v1) ((v2) * ((v0).toInt64)) (v4 + 1)   hf
set_option maxHeartbeats 4000000 in
set_option maxRecDepth 100000 in
theorem t_X12_power (N : Nat) (x0 : Int32) (x1 : Int32) {σ : Sg} {r : Int64} (hf : f_X12_power N x0 x1 = some r) : Ct yX12_power cX12_power 5 (some .long) 0 0 0 0 [vi x0, vi x1] σ (fun r_ τ_ => (r_ = some (vl r)) ∧ τ_ = σ) := by
  refine Ct.of (by decide +kernel) (Nat.le_of_ble_eq_true rfl) (fun Γ C1 => ?_)
  have C0 := C1.1
  unfold f_X12_power at hf
  show J_ Γ 0 [(0, vi (x0)), (1, vi (x1))] [] σ 0 0
  refine J_lconst (q := 1) (v := 1) C0 dX12_power_0 rfl rfl ?_
  refine J_lstore_n (q := 2) (lv' := [(2, vl (1)), (0, vi (x0)), (1, vi (x1))]) C0 rfl (G_nl C1 (by decide)) dX12_power_1 rfl rfl ?_
  refine J_iconst (q := 3) (v := 0) C0 dX12_power_2 rfl rfl ?_
  refine J_istore (q := 5) (lv' := [(4, vi (0)), (2, vl (1)), (0, vi (x0)), (1, vi (x1))]) C0 (G_nl C1 (by decide)) dX12_power_3 rfl rfl ?_
  refine J_sub (lv' := [(0, vi (x0)), (1, vi (x1)), (2, vl (1)), (4, vi (0))]) [2, 3, 1, 0] rfl ?_
  exact t_X12_power_L5 C1    N (x0) (x1) (1) (0)  hf
def f_X12_kinds_B122 (N : Nat) (a0 : Nat) (s0 : Int32) (s1 : Int64) (σ : Sg) : Option Int32 :=
  if ((s0).toInt64) = 0 then none else
  some (((s1) / ((s0).toInt64)).toInt32)
def f_X12_kinds_B103 (N : Nat) (a0 : Nat) (k28 : Int32 → Int32 → Int32 → Int64 → Int32 → Option Int32) (v1 : Int32) (v2 : Int32) (v3 : Int32) (v4 : Int64) (v6 : Int32) (σ : Sg) : Option Int32 :=
  k28 (v1) (v2) (v3) (v4) (v6 + 1)
def f_X12_kinds_B100 (N : Nat) (a0 : Nat) (k28 : Int32 → Int32 → Int32 → Int64 → Int32 → Option Int32) (v1 : Int32) (v2 : Int32) (v3 : Int32) (v6 : Int32) (s0 : Int64) (s1 : Int64) (σ : Sg) : Option Int32 :=
  f_X12_kinds_B103 N a0 k28 (v1) (v2) (v3) ((s1) + (s0)) (v6) σ
def f_X12_kinds_L28 (N : Nat) (a0 : Nat) : Nat → Int32 → Int32 → Int32 → Int64 → Int32 → Sg → Option Int32
  | 0, _, _, _, _, _, _ => none
  | n + 1, v1, v2, v3, v4, v6, σ =>
  if (v6) < (v1) then
  (Option.bind (f_X12_commonOf (v1) (v6) σ) fun p8 =>
  Option.bind (f_X12_power N (v2) (p8) ) fun p9 =>
  if (v3) = (0) then
  (f_X12_kinds_B103 N a0 (fun v1 v2 v3 v4 v6 => f_X12_kinds_L28 N a0 n v1 v2 v3 v4 v6 σ) (v1) (v2) (v3) ((v4) + (p9)) (v6) σ)
  else
  (if (rm_ (v1) (2)) = (1) then
  (Option.bind (f_X12_power N (v2) (((v1) + (1)) / (2)) ) fun p15 =>
  f_X12_kinds_B100 N a0 (fun v1 v2 v3 v4 v6 => f_X12_kinds_L28 N a0 n v1 v2 v3 v4 v6 σ) (v1) (v2) (v3) (v6) (p15) ((v4) + (p9)) σ)
  else
  (if (rm_ (v6) (2)) = (0) then
  (Option.bind (f_X12_power N (v2) ((v1) / (2)) ) fun p14 =>
  f_X12_kinds_B100 N a0 (fun v1 v2 v3 v4 v6 => f_X12_kinds_L28 N a0 n v1 v2 v3 v4 v6 σ) (v1) (v2) (v3) (v6) (p14) ((v4) + (p9)) σ)
  else
  (Option.bind (f_X12_power N (v2) (((v1) / (2)) + (1)) ) fun p13 =>
  f_X12_kinds_B100 N a0 (fun v1 v2 v3 v4 v6 => f_X12_kinds_L28 N a0 n v1 v2 v3 v4 v6 σ) (v1) (v2) (v3) (v6) (p13) ((v4) + (p9)) σ))))
  else
  (if (v3) = (0) then
  (f_X12_kinds_B122 N a0 (v1) (v4) σ)
  else
  (f_X12_kinds_B122 N a0 ((2) * (v1)) (v4) σ))
def f_X12_kinds (N : Nat) (a0 : Nat) (x1 : Int32) (x2 : Int32) (x3 : Int32) (σ : Sg) : Option Int32 :=
  Option.bind (f_X12_in (x1) (1) (12) ) fun p1 =>
  if (p1) = (0) then
  (some ((-1)))
  else
  (Option.bind (f_X12_in (x2) (1) (6) ) fun p3 =>
  if (p3) = (0) then
  (some ((-1)))
  else
  (f_X12_kinds_L28 N a0 N (x1) (x2) (x3) (0) (0) σ))
set_option maxHeartbeats 4000000 in
set_option maxRecDepth 100000 in
theorem t_X12_kinds_B122 {N : Nat} {a0 : Nat} {Γ : Gm} {σ : Sg} {r : Int32} (C1 : CM Γ cX12_kinds RX12 7 (some .int) 61 1281 0 0 (fun r_ τ_ => (r_ = some (vi r)) ∧ τ_ = σ)) (hT : sg_T σ) (h0 : is_A σ a0 11) (s0 : Int32) (s1 : Int64) (hf : f_X12_kinds_B122 N a0  s0 s1 σ = some r) : J_ Γ 122 [(0, vr (some a0))] [vi (s0), vl (s1)] σ 0 0 := by
  have C0 := C1.1
  unfold f_X12_kinds_B122 at hf
  refine J_i2l (q := 123) C0 dX12_kinds_122 rfl ?_
  refine K_chk hf (fun c7 hf => ?_)
  refine J_ldiv (q := 124) C0 dX12_kinds_123 rfl c7 ?_
  refine J_l2i (q := 125) C0 dX12_kinds_124 rfl ?_
  obtain rfl := Option.some.inj hf; exact J_iret C1 dX12_kinds_125 rfl (Nat.zero_le _) (Nat.zero_le _) ⟨rfl, rfl⟩
set_option maxHeartbeats 4000000 in
set_option maxRecDepth 100000 in
theorem t_X12_kinds_B103 {N : Nat} {a0 : Nat} {Γ : Gm} {σ : Sg} {r : Int32} (C1 : CM Γ cX12_kinds RX12 7 (some .int) 61 1281 0 0 (fun r_ τ_ => (r_ = some (vi r)) ∧ τ_ = σ)) (hT : sg_T σ) (h0 : is_A σ a0 11) (k28 : Int32 → Int32 → Int32 → Int64 → Int32 → Option Int32) (hk28 : ∀ (v1 : Int32) (v2 : Int32) (v3 : Int32) (v4 : Int64) (v6 : Int32) , k28 v1 v2 v3 v4 v6 = some r → J_ Γ 28 [(0, vr (some a0)), (1, vi v1), (2, vi v2), (3, vi v3), (4, vl v4), (6, vi v6)] [] σ 0 0) (v1 : Int32) (v2 : Int32) (v3 : Int32) (v4 : Int64) (v6 : Int32) (hf : f_X12_kinds_B103 N a0 k28  v1 v2 v3 v4 v6 σ = some r) : J_ Γ 103 [(0, vr (some a0)), (1, vi (v1)), (2, vi (v2)), (3, vi (v3)), (4, vl (v4)), (6, vi (v6))] [] σ 0 0 := by
  have C0 := C1.1
  unfold f_X12_kinds_B103 at hf
  refine J_iinc (q := 106) (v := v6 + 1) (lv' := [(6, vi (v6 + 1)), (0, vr (some a0)), (1, vi (v1)), (2, vi (v2)), (3, vi (v3)), (4, vl (v4))]) C0 5 rfl rfl (G_nl C1 (by decide)) dX12_kinds_103 rfl rfl ?_
  refine J_goto (q := 28) C0 dX12_kinds_106 (by decide) ?_
  refine J_sub (lv' := [(0, vr (some a0)), (1, vi (v1)), (2, vi (v2)), (3, vi (v3)), (4, vl (v4)), (6, vi (v6 + 1))]) [1, 2, 3, 4, 5, 0] rfl ?_
  exact hk28 (v1) (v2) (v3) (v4) (v6 + 1)  hf
set_option maxHeartbeats 4000000 in
set_option maxRecDepth 100000 in
theorem t_X12_kinds_B100 {N : Nat} {a0 : Nat} {Γ : Gm} {σ : Sg} {r : Int32} (C1 : CM Γ cX12_kinds RX12 7 (some .int) 61 1281 0 0 (fun r_ τ_ => (r_ = some (vi r)) ∧ τ_ = σ)) (hT : sg_T σ) (h0 : is_A σ a0 11) (k28 : Int32 → Int32 → Int32 → Int64 → Int32 → Option Int32) (hk28 : ∀ (v1 : Int32) (v2 : Int32) (v3 : Int32) (v4 : Int64) (v6 : Int32) , k28 v1 v2 v3 v4 v6 = some r → J_ Γ 28 [(0, vr (some a0)), (1, vi v1), (2, vi v2), (3, vi v3), (4, vl v4), (6, vi v6)] [] σ 0 0) (v1 : Int32) (v2 : Int32) (v3 : Int32) (v6 : Int32) (s0 : Int64) (s1 : Int64) (hf : f_X12_kinds_B100 N a0 k28  v1 v2 v3 v6 s0 s1 σ = some r) : J_ Γ 100 [(0, vr (some a0)), (1, vi (v1)), (2, vi (v2)), (3, vi (v3)), (6, vi (v6))] [vl (s0), vl (s1)] σ 0 0 := by
  have C0 := C1.1
  unfold f_X12_kinds_B100 at hf
  refine J_ladd (q := 101) C0 dX12_kinds_100 rfl ?_
  refine J_lstore (q := 103) (lv' := [(4, vl ((s1) + (s0))), (0, vr (some a0)), (1, vi (v1)), (2, vi (v2)), (3, vi (v3)), (6, vi (v6))]) C0 (G_nl C1 (by decide)) dX12_kinds_101 rfl rfl ?_
  refine J_sub (lv' := [(0, vr (some a0)), (1, vi (v1)), (2, vi (v2)), (3, vi (v3)), (4, vl ((s1) + (s0))), (6, vi (v6))]) [1, 2, 3, 4, 0, 5] rfl ?_
  exact t_X12_kinds_B103 C1 (hT) (h0) k28  hk28  (v1) (v2) (v3) ((s1) + (s0)) (v6)  hf
set_option maxHeartbeats 4000000 in
set_option maxRecDepth 100000 in
theorem t_X12_kinds_L28 {N : Nat} {a0 : Nat} {Γ : Gm} {σ : Sg} {r : Int32} (C1 : CM Γ cX12_kinds RX12 7 (some .int) 61 1281 0 0 (fun r_ τ_ => (r_ = some (vi r)) ∧ τ_ = σ)) (hT : sg_T σ) (h0 : is_A σ a0 11) : ∀ (n : Nat) (v1 : Int32) (v2 : Int32) (v3 : Int32) (v4 : Int64) (v6 : Int32), f_X12_kinds_L28 N a0  n v1 v2 v3 v4 v6 σ = some r → J_ Γ 28 [(0, vr (some a0)), (1, vi (v1)), (2, vi (v2)), (3, vi (v3)), (4, vl (v4)), (6, vi (v6))] [] σ 0 0 := by
  have C0 := C1.1
  intro n
  induction n with
  | zero => intro v1 v2 v3 v4 v6  hf; unfold f_X12_kinds_L28 at hf; cases hf
  | succ n ih =>
    intro v1 v2 v3 v4 v6  hf
    rw [f_X12_kinds_L28] at hf
    refine J_iload (q := 30) C0 5 rfl dX12_kinds_28 rfl ?_
    refine J_iload_n (q := 31) C0 1 rfl rfl dX12_kinds_30 rfl ?_
    refine J_icmp_ge (t := 109) (q := 34) C0 dX12_kinds_31 (by decide) rfl hf (fun c5 hf => ?_) (fun c5 hf => ?_)
    · refine J_lload (q := 111) C0 4 rfl dX12_kinds_109 rfl ?_
      refine J_iload_n (q := 112) C0 3 rfl rfl dX12_kinds_111 rfl ?_
      refine J_if_eq (t := 121) (q := 115) C0 dX12_kinds_112 (by decide) rfl hf (fun c6 hf => ?_) (fun c6 hf => ?_)
      · refine J_iload_n (q := 122) C0 1 rfl rfl dX12_kinds_121 rfl ?_
        refine J_sub (lv' := [(0, vr (some a0))]) [0] rfl ?_
        exact t_X12_kinds_B122 C1 (hT) (h0)   (v1) (v4)  hf
      · refine J_iconst (q := 116) (v := 2) C0 dX12_kinds_115 rfl rfl ?_
        refine J_iload_n (q := 117) C0 1 rfl rfl dX12_kinds_116 rfl ?_
        refine J_imul (q := 118) C0 dX12_kinds_117 rfl ?_
        refine J_goto (q := 122) C0 dX12_kinds_118 (by decide) ?_
        refine J_sub (lv' := [(0, vr (some a0))]) [0] rfl ?_
        exact t_X12_kinds_B122 C1 (hT) (h0)   ((2) * (v1)) (v4)  hf
    · refine J_lload (q := 36) C0 4 rfl dX12_kinds_34 rfl ?_
      refine J_iload_n (q := 37) C0 2 rfl rfl dX12_kinds_36 rfl ?_
      refine J_iload_n (q := 38) C0 1 rfl rfl dX12_kinds_37 rfl ?_
      refine J_iload (q := 40) C0 5 rfl dX12_kinds_38 rfl ?_
      refine K_some hf (fun p8 hp8 hf => ?_)
      refine J_callS (q := 43) (as := [vi (v1), vi (v6)]) (rest := [vi (v2), vl (v4)]) C0 (t_X12_commonOf (v1) (v6) (hT)  hp8) ml_X12_commonOf lk_X12_383 sm_X12_commonOf dX12_kinds_40 rfl rfl rfl (by simp [ac_]) C1.room (by decide) (by decide) (by decide) (by decide) (fun r_ τ_ hQ => ?_)
      obtain ⟨rfl, ht_⟩ := hQ; have ht_ := ht_.symm; subst ht_
      show J_ Γ 43 [(0, vr (some a0)), (1, vi (v1)), (2, vi (v2)), (3, vi (v3)), (4, vl (v4)), (6, vi (v6))] [vi (p8), vi (v2), vl (v4)] σ 0 0
      refine K_some hf (fun p9 hp9 hf => ?_)
      refine J_callS (q := 46) (as := [vi (v2), vi (p8)]) (rest := [vl (v4)]) C0 (t_X12_power N (v2) (p8)  hp9) ml_X12_power lk_X12_386 sm_X12_power dX12_kinds_43 rfl rfl rfl (by simp [ac_]) C1.room (by decide) (by decide) (by decide) (by decide) (fun r_ τ_ hQ => ?_)
      obtain ⟨rfl, ht_⟩ := hQ; have ht_ := ht_.symm; subst ht_
      show J_ Γ 46 [(0, vr (some a0)), (1, vi (v1)), (2, vi (v2)), (3, vi (v3)), (4, vl (v4)), (6, vi (v6))] [vl (p9), vl (v4)] σ 0 0
      refine J_ladd (q := 47) C0 dX12_kinds_46 rfl ?_
      refine J_lstore (q := 49) (lv' := [(4, vl ((v4) + (p9))), (0, vr (some a0)), (1, vi (v1)), (2, vi (v2)), (3, vi (v3)), (6, vi (v6))]) C0 (G_nl C1 (by decide)) dX12_kinds_47 rfl rfl ?_
      refine J_iload_n (q := 50) C0 4 rfl rfl dX12_kinds_49 rfl ?_
      refine J_if_eq (t := 103) (q := 53) C0 dX12_kinds_50 (by decide) rfl hf (fun c10 hf => ?_) (fun c10 hf => ?_)
      · refine J_sub (lv' := [(0, vr (some a0)), (1, vi (v1)), (2, vi (v2)), (3, vi (v3)), (4, vl ((v4) + (p9))), (6, vi (v6))]) [1, 2, 3, 4, 0, 5] rfl ?_
        exact t_X12_kinds_B103 C1 (hT) (h0) (fun v1 v2 v3 v4 v6 => f_X12_kinds_L28 N a0 n v1 v2 v3 v4 v6 σ)  ih  (v1) (v2) (v3) ((v4) + (p9)) (v6)  hf
      · refine J_lload (q := 55) C0 0 rfl dX12_kinds_53 rfl ?_
        refine J_iload_n (q := 56) C0 2 rfl rfl dX12_kinds_55 rfl ?_
        refine J_iconst (q := 57) (v := 2) C0 dX12_kinds_56 rfl rfl ?_
        refine J_irem (q := 58) C0 dX12_kinds_57 rfl (by decide) ?_
        refine J_iconst (q := 59) (v := 1) C0 dX12_kinds_58 rfl rfl ?_
        refine J_icmp_ne (t := 74) (q := 62) C0 dX12_kinds_59 (by decide) rfl hf (fun c11 hf => ?_) (fun c11 hf => ?_)
        · refine J_iload (q := 76) C0 5 rfl dX12_kinds_74 rfl ?_
          refine J_iconst (q := 77) (v := 2) C0 dX12_kinds_76 rfl rfl ?_
          refine J_irem (q := 78) C0 dX12_kinds_77 rfl (by decide) ?_
          refine J_if_ne (t := 91) (q := 81) C0 dX12_kinds_78 (by decide) rfl hf (fun c12 hf => ?_) (fun c12 hf => ?_)
          · refine J_iload_n (q := 92) C0 3 rfl rfl dX12_kinds_91 rfl ?_
            refine J_iload_n (q := 93) C0 2 rfl rfl dX12_kinds_92 rfl ?_
            refine J_iconst (q := 94) (v := 2) C0 dX12_kinds_93 rfl rfl ?_
            refine J_idiv (q := 95) C0 dX12_kinds_94 rfl (by decide) ?_
            refine J_iconst (q := 96) (v := 1) C0 dX12_kinds_95 rfl rfl ?_
            refine J_iadd (q := 97) C0 dX12_kinds_96 rfl ?_
            refine K_some hf (fun p13 hp13 hf => ?_)
            refine J_callS (q := 100) (as := [vi (v2), vi (((v1) / (2)) + (1))]) (rest := [vl ((v4) + (p9))]) C0 (t_X12_power N (v2) (((v1) / (2)) + (1))  hp13) ml_X12_power lk_X12_386 sm_X12_power dX12_kinds_97 rfl rfl rfl (by simp [ac_]) C1.room (by decide) (by decide) (by decide) (by decide) (fun r_ τ_ hQ => ?_)
            obtain ⟨rfl, ht_⟩ := hQ; have ht_ := ht_.symm; subst ht_
            show J_ Γ 100 [(4, vl ((v4) + (p9))), (0, vr (some a0)), (1, vi (v1)), (2, vi (v2)), (3, vi (v3)), (6, vi (v6))] [vl (p13), vl ((v4) + (p9))] σ 0 0
            refine J_sub (lv' := [(0, vr (some a0)), (1, vi (v1)), (2, vi (v2)), (3, vi (v3)), (6, vi (v6))]) [1, 2, 3, 4, 5] rfl ?_
            exact t_X12_kinds_B100 C1 (hT) (h0) (fun v1 v2 v3 v4 v6 => f_X12_kinds_L28 N a0 n v1 v2 v3 v4 v6 σ)  ih  (v1) (v2) (v3) (v6) (p13) ((v4) + (p9))  hf
          · refine J_iload_n (q := 82) C0 3 rfl rfl dX12_kinds_81 rfl ?_
            refine J_iload_n (q := 83) C0 2 rfl rfl dX12_kinds_82 rfl ?_
            refine J_iconst (q := 84) (v := 2) C0 dX12_kinds_83 rfl rfl ?_
            refine J_idiv (q := 85) C0 dX12_kinds_84 rfl (by decide) ?_
            refine K_some hf (fun p14 hp14 hf => ?_)
            refine J_callS (q := 88) (as := [vi (v2), vi ((v1) / (2))]) (rest := [vl ((v4) + (p9))]) C0 (t_X12_power N (v2) ((v1) / (2))  hp14) ml_X12_power lk_X12_386 sm_X12_power dX12_kinds_85 rfl rfl rfl (by simp [ac_]) C1.room (by decide) (by decide) (by decide) (by decide) (fun r_ τ_ hQ => ?_)
            obtain ⟨rfl, ht_⟩ := hQ; have ht_ := ht_.symm; subst ht_
            show J_ Γ 88 [(4, vl ((v4) + (p9))), (0, vr (some a0)), (1, vi (v1)), (2, vi (v2)), (3, vi (v3)), (6, vi (v6))] [vl (p14), vl ((v4) + (p9))] σ 0 0
            refine J_goto (q := 100) C0 dX12_kinds_88 (by decide) ?_
            refine J_sub (lv' := [(0, vr (some a0)), (1, vi (v1)), (2, vi (v2)), (3, vi (v3)), (6, vi (v6))]) [1, 2, 3, 4, 5] rfl ?_
            exact t_X12_kinds_B100 C1 (hT) (h0) (fun v1 v2 v3 v4 v6 => f_X12_kinds_L28 N a0 n v1 v2 v3 v4 v6 σ)  ih  (v1) (v2) (v3) (v6) (p14) ((v4) + (p9))  hf
        · refine J_iload_n (q := 63) C0 3 rfl rfl dX12_kinds_62 rfl ?_
          refine J_iload_n (q := 64) C0 2 rfl rfl dX12_kinds_63 rfl ?_
          refine J_iconst (q := 65) (v := 1) C0 dX12_kinds_64 rfl rfl ?_
          refine J_iadd (q := 66) C0 dX12_kinds_65 rfl ?_
          refine J_iconst (q := 67) (v := 2) C0 dX12_kinds_66 rfl rfl ?_
          refine J_idiv (q := 68) C0 dX12_kinds_67 rfl (by decide) ?_
          refine K_some hf (fun p15 hp15 hf => ?_)
          refine J_callS (q := 71) (as := [vi (v2), vi (((v1) + (1)) / (2))]) (rest := [vl ((v4) + (p9))]) C0 (t_X12_power N (v2) (((v1) + (1)) / (2))  hp15) ml_X12_power lk_X12_386 sm_X12_power dX12_kinds_68 rfl rfl rfl (by simp [ac_]) C1.room (by decide) (by decide) (by decide) (by decide) (fun r_ τ_ hQ => ?_)
          obtain ⟨rfl, ht_⟩ := hQ; have ht_ := ht_.symm; subst ht_
          show J_ Γ 71 [(4, vl ((v4) + (p9))), (0, vr (some a0)), (1, vi (v1)), (2, vi (v2)), (3, vi (v3)), (6, vi (v6))] [vl (p15), vl ((v4) + (p9))] σ 0 0
          refine J_goto (q := 100) C0 dX12_kinds_71 (by decide) ?_
          refine J_sub (lv' := [(0, vr (some a0)), (1, vi (v1)), (2, vi (v2)), (3, vi (v3)), (6, vi (v6))]) [1, 2, 3, 4, 5] rfl ?_
          exact t_X12_kinds_B100 C1 (hT) (h0) (fun v1 v2 v3 v4 v6 => f_X12_kinds_L28 N a0 n v1 v2 v3 v4 v6 σ)  ih  (v1) (v2) (v3) (v6) (p15) ((v4) + (p9))  hf
set_option maxHeartbeats 4000000 in
set_option maxRecDepth 100000 in
theorem t_X12_kinds (N : Nat) (a0 : Nat) (x1 : Int32) (x2 : Int32) (x3 : Int32) {σ : Sg} (hT : sg_T σ) (h0 : is_A σ a0 11) {r : Int32} (hf : f_X12_kinds N a0 x1 x2 x3 σ = some r) : Ct yX12_kinds cX12_kinds 7 (some .int) 61 1281 0 0 [vr (some a0), vi x1, vi x2, vi x3] σ (fun r_ τ_ => (r_ = some (vi r)) ∧ τ_ = σ) := by
  refine Ct.of (by decide +kernel) (Nat.le_of_ble_eq_true rfl) (fun Γ C1 => ?_)
  have C0 := C1.1
  unfold f_X12_kinds at hf
  show J_ Γ 0 [(0, vr (some a0)), (1, vi (x1)), (2, vi (x2)), (3, vi (x3))] [] σ 0 0
  refine J_iload_n (q := 1) C0 1 rfl rfl dX12_kinds_0 rfl ?_
  refine J_iconst (q := 2) (v := 1) C0 dX12_kinds_1 rfl rfl ?_
  refine J_bipush (q := 4) (v := 12) C0 dX12_kinds_2 rfl rfl ?_
  refine K_some hf (fun p1 hp1 hf => ?_)
  refine J_callS (q := 7) (as := [vi (x1), vi (1), vi (12)]) (rest := []) C0 (t_X12_in (x1) (1) (12)  hp1) ml_X12_in lk_X12_208 sm_X12_in dX12_kinds_4 rfl rfl rfl (by simp [ac_]) C1.room (by decide) (by decide) (by decide) (by decide) (fun r_ τ_ hQ => ?_)
  obtain ⟨⟨rfl, zp1⟩, ht_⟩ := hQ; have ht_ := ht_.symm; subst ht_
  show J_ Γ 7 [(0, vr (some a0)), (1, vi (x1)), (2, vi (x2)), (3, vi (x3))] [vi (p1)] σ 0 0
  refine J_if_eq (t := 20) (q := 10) C0 dX12_kinds_7 (by decide) rfl hf (fun c2 hf => ?_) (fun c2 hf => ?_)
  · refine J_iconst (q := 21) (v := (-1)) C0 dX12_kinds_20 rfl rfl ?_
    obtain rfl := Option.some.inj hf; exact J_iret C1 dX12_kinds_21 rfl (Nat.zero_le _) (Nat.zero_le _) ⟨rfl, rfl⟩
  · refine J_iload_n (q := 11) C0 2 rfl rfl dX12_kinds_10 rfl ?_
    refine J_iconst (q := 12) (v := 1) C0 dX12_kinds_11 rfl rfl ?_
    refine J_bipush (q := 14) (v := 6) C0 dX12_kinds_12 rfl rfl ?_
    refine K_some hf (fun p3 hp3 hf => ?_)
    refine J_callS (q := 17) (as := [vi (x2), vi (1), vi (6)]) (rest := []) C0 (t_X12_in (x2) (1) (6)  hp3) ml_X12_in lk_X12_208 sm_X12_in dX12_kinds_14 rfl rfl rfl (by simp [ac_]) C1.room (by decide) (by decide) (by decide) (by decide) (fun r_ τ_ hQ => ?_)
    obtain ⟨⟨rfl, zp3⟩, ht_⟩ := hQ; have ht_ := ht_.symm; subst ht_
    show J_ Γ 17 [(0, vr (some a0)), (1, vi (x1)), (2, vi (x2)), (3, vi (x3))] [vi (p3)] σ 0 0
    refine J_if_ne (t := 22) (q := 20) C0 dX12_kinds_17 (by decide) rfl hf (fun c4 hf => ?_) (fun c4 hf => ?_)
    · refine J_lconst (q := 23) (v := 0) C0 dX12_kinds_22 rfl rfl ?_
      refine J_lstore (q := 25) (lv' := [(4, vl (0)), (0, vr (some a0)), (1, vi (x1)), (2, vi (x2)), (3, vi (x3))]) C0 (G_nl C1 (by decide)) dX12_kinds_23 rfl rfl ?_
      refine J_iconst (q := 26) (v := 0) C0 dX12_kinds_25 rfl rfl ?_
      refine J_istore (q := 28) (lv' := [(6, vi (0)), (4, vl (0)), (0, vr (some a0)), (1, vi (x1)), (2, vi (x2)), (3, vi (x3))]) C0 (G_nl C1 (by decide)) dX12_kinds_26 rfl rfl ?_
      refine J_sub (lv' := [(0, vr (some a0)), (1, vi (x1)), (2, vi (x2)), (3, vi (x3)), (4, vl (0)), (6, vi (0))]) [2, 3, 4, 5, 1, 0] rfl ?_
      exact t_X12_kinds_L28 C1 (hT) (h0)    N (x1) (x2) (x3) (0) (0)  hf
    · refine J_iconst (q := 21) (v := (-1)) C0 dX12_kinds_20 rfl rfl ?_
      obtain rfl := Option.some.inj hf; exact J_iret C1 dX12_kinds_21 rfl (Nat.zero_le _) (Nat.zero_le _) ⟨rfl, rfl⟩
