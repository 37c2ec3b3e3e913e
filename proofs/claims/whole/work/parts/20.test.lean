def f_J9_floorMod_7cf53 (x0 : Int32) (x1 : Int32) : Option Int32 :=
  if (x1) = 0 then none else
  if ((x0) ^^^ (x1)) < (0) then
  (if (rm_ (x0) (x1)) = (0) then
  (some (rm_ (x0) (x1)))
  else
  (some ((rm_ (x0) (x1)) + (x1))))
  else
  (some (rm_ (x0) (x1)))
set_option maxHeartbeats 4000000 in
set_option maxRecDepth 100000 in
theorem t_J9_floorMod_7cf53 (x0 : Int32) (x1 : Int32) {σ : Sg} {r : Int32} (hf : f_J9_floorMod_7cf53 x0 x1 = some r) : Ct yJ9_floorMod_7cf53 cJ9_floorMod_7cf53 3 (some .int) 0 0 0 0 [vi x0, vi x1] σ (fun r_ τ_ => (r_ = some (vi r)) ∧ τ_ = σ) := by
  refine Ct.of (by decide +kernel) (Nat.le_of_ble_eq_true rfl) (fun Γ C1 => ?_)
  have C0 := C1.1
  unfold f_J9_floorMod_7cf53 at hf
  show J_ Γ 0 [(0, vi (x0)), (1, vi (x1))] [] σ 0 0
  refine J_iload_n (q := 1) C0 0 rfl rfl dJ9_floorMod_7cf53_0 rfl ?_
  refine J_iload_n (q := 2) C0 1 rfl rfl dJ9_floorMod_7cf53_1 rfl ?_
  refine K_chk hf (fun c1 hf => ?_)
  refine J_irem (q := 3) C0 dJ9_floorMod_7cf53_2 rfl c1 ?_
  refine J_istore_n (q := 4) (lv' := [(2, vi (rm_ (x0) (x1))), (0, vi (x0)), (1, vi (x1))]) C0 rfl (G_nl C1 (by decide)) dJ9_floorMod_7cf53_3 rfl rfl ?_
  refine J_iload_n (q := 5) C0 1 rfl rfl dJ9_floorMod_7cf53_4 rfl ?_
  refine J_iload_n (q := 6) C0 2 rfl rfl dJ9_floorMod_7cf53_5 rfl ?_
  refine J_ixor (q := 7) C0 dJ9_floorMod_7cf53_6 rfl ?_
  refine J_if_ge (t := 18) (q := 10) C0 dJ9_floorMod_7cf53_7 (by decide) rfl hf (fun c2 hf => ?_) (fun c2 hf => ?_)
  · refine J_iload_n (q := 19) C0 0 rfl rfl dJ9_floorMod_7cf53_18 rfl ?_
    cases hf; exact J_iret C1 dJ9_floorMod_7cf53_19 rfl (Nat.zero_le _) (Nat.zero_le _) ⟨rfl, rfl⟩
  · refine J_iload_n (q := 11) C0 0 rfl rfl dJ9_floorMod_7cf53_10 rfl ?_
    refine J_if_eq (t := 18) (q := 14) C0 dJ9_floorMod_7cf53_11 (by decide) rfl hf (fun c3 hf => ?_) (fun c3 hf => ?_)
    · refine J_iload_n (q := 19) C0 0 rfl rfl dJ9_floorMod_7cf53_18 rfl ?_
      cases hf; exact J_iret C1 dJ9_floorMod_7cf53_19 rfl (Nat.zero_le _) (Nat.zero_le _) ⟨rfl, rfl⟩
    · refine J_iload_n (q := 15) C0 0 rfl rfl dJ9_floorMod_7cf53_14 rfl ?_
      refine J_iload_n (q := 16) C0 2 rfl rfl dJ9_floorMod_7cf53_15 rfl ?_
      refine J_iadd (q := 17) C0 dJ9_floorMod_7cf53_16 rfl ?_
      cases hf; exact J_iret C1 dJ9_floorMod_7cf53_17 rfl (Nat.zero_le _) (Nat.zero_le _) ⟨rfl, rfl⟩

def f_X11_round (x0 : Int32) (x1 : Int32) : Option Int32 :=
  if (x1) < (1) then
  (some (0))
  else
  (Option.bind (f_J9_floorMod_7cf53 (x0) (x1) ) fun p2 =>
  some (p2))
set_option maxHeartbeats 4000000 in
set_option maxRecDepth 100000 in
theorem t_X11_round (x0 : Int32) (x1 : Int32) {σ : Sg} {r : Int32} (hf : f_X11_round x0 x1 = some r) : Ct yX11_round cX11_round 2 (some .int) 1 22 0 0 [vi x0, vi x1] σ (fun r_ τ_ => (r_ = some (vi r)) ∧ τ_ = σ) := by
  refine Ct.of (by decide +kernel) (Nat.le_of_ble_eq_true rfl) (fun Γ C1 => ?_)
  have C0 := C1.1
  unfold f_X11_round at hf
  show J_ Γ 0 [(0, vi (x0)), (1, vi (x1))] [] σ 0 0
  refine J_iload_n (q := 1) C0 1 rfl rfl dX11_round_0 rfl ?_
  refine J_iconst (q := 2) (v := 1) C0 dX11_round_1 rfl rfl ?_
  refine J_icmp_ge (t := 9) (q := 5) C0 dX11_round_2 (by decide) rfl hf (fun c1 hf => ?_) (fun c1 hf => ?_)
  · refine J_iload_n (q := 10) C0 0 rfl rfl dX11_round_9 rfl ?_
    refine J_iload_n (q := 11) C0 1 rfl rfl dX11_round_10 rfl ?_
    refine K_some hf (fun p2 hp2 hf => ?_)
    refine J_callS (q := 14) (as := [vi (x0), vi (x1)]) (rest := []) C0 (t_J9_floorMod_7cf53 (x0) (x1)  hp2) ml_J9_floorMod_7cf53 lk_X11_421 sm_J9_floorMod_7cf53 dX11_round_11 rfl rfl rfl (by simp [ac_]) C1.room (by decide) (by decide) (by decide) (by decide) (fun r_ τ_ hQ => ?_)
    obtain ⟨rfl, rfl⟩ := hQ
    show J_ Γ 14 [(0, vi (x0)), (1, vi (x1))] [vi (p2)] σ 0 0
    cases hf; exact J_iret C1 dX11_round_14 rfl (Nat.zero_le _) (Nat.zero_le _) ⟨rfl, rfl⟩
  · refine J_iconst (q := 6) (v := 0) C0 dX11_round_5 rfl rfl ?_
    refine J_goto (q := 14) C0 dX11_round_6 (by decide) ?_
    cases hf; exact J_iret C1 dX11_round_14 rfl (Nat.zero_le _) (Nat.zero_le _) ⟨rfl, rfl⟩

def f_X8_size (a0 : Nat) (σ : Sg) : Option Int32 :=
  Option.bind (sg_R σ a0 0) fun b1 =>
  some (Int32.ofNat (sg_L σ b1))
set_option maxHeartbeats 4000000 in
set_option maxRecDepth 100000 in
theorem t_X8_size (a0 : Nat) {σ : Sg} (hT : sg_T σ) (h0 : is_A σ a0 7) {r : Int32} (hf : f_X8_size a0  σ = some r) : Ct yX8_size cX8_size 1 (some .int) 0 0 0 0 [vr (some a0)] σ (fun r_ τ_ => (r_ = some (vi r)) ∧ τ_ = σ) := by
  refine Ct.of (by decide +kernel) (Nat.le_of_ble_eq_true rfl) (fun Γ C1 => ?_)
  have C0 := C1.1
  unfold f_X8_size at hf
  show J_ Γ 0 [(0, vr (some a0))] [] σ 0 0
  refine J_aload_n (q := 1) C0 0 rfl rfl dX8_size_0 rfl trivial ?_
  refine J_getR (q := 4) C0 fl_X8_9_7 rfl (h0) rfl dX8_size_1 rfl ?_
  refine K_some hf (fun b1 hb1 hf => ?_)
  have ab1 : is_A σ b1 12 := ((sg_T.op hT (j := 0) (h0) rfl)) b1 hb1
  refine J_alen (q := 5) C0 hb1 (ab1) (by decide) dX8_size_4 rfl ?_
  cases hf; exact J_iret C1 dX8_size_5 rfl (Nat.zero_le _) (Nat.zero_le _) ⟨rfl, rfl⟩

def f_X8_shownAt (a0 : Nat) (x1 : Int32) (σ : Sg) : Option Int32 :=
  Option.bind (sg_R σ a0 0) fun b1 =>
  if (Int32.ofNat (sg_L σ b1)) < (1) then
  (some (26))
  else
  (Option.bind (f_X11_round (x1) (Int32.ofNat (sg_L σ b1)) ) fun p3 =>
  if (p3) < 0 ∨ sg_L σ b1 ≤ (p3).toNatClampNeg then none else
  some (sg_I σ b1 (p3).toNatClampNeg))
set_option maxHeartbeats 4000000 in
set_option maxRecDepth 100000 in
theorem t_X8_shownAt (a0 : Nat) (x1 : Int32) {σ : Sg} (hT : sg_T σ) (h0 : is_A σ a0 7) {r : Int32} (hf : f_X8_shownAt a0 x1 σ = some r) : Ct yX8_shownAt cX8_shownAt 2 (some .int) 2 43 0 0 [vr (some a0), vi x1] σ (fun r_ τ_ => (r_ = some (vi r)) ∧ τ_ = σ) := by
  refine Ct.of (by decide +kernel) (Nat.le_of_ble_eq_true rfl) (fun Γ C1 => ?_)
  have C0 := C1.1
  unfold f_X8_shownAt at hf
  show J_ Γ 0 [(0, vr (some a0)), (1, vi (x1))] [] σ 0 0
  refine J_aload_n (q := 1) C0 0 rfl rfl dX8_shownAt_0 rfl trivial ?_
  refine J_getR (q := 4) C0 fl_X8_9_7 rfl (h0) rfl dX8_shownAt_1 rfl ?_
  refine K_some hf (fun b1 hb1 hf => ?_)
  have ab1 : is_A σ b1 12 := ((sg_T.op hT (j := 0) (h0) rfl)) b1 hb1
  refine J_alen (q := 5) C0 hb1 (ab1) (by decide) dX8_shownAt_4 rfl ?_
  refine J_iconst (q := 6) (v := 1) C0 dX8_shownAt_5 rfl rfl ?_
  refine J_icmp_ge (t := 14) (q := 9) C0 dX8_shownAt_6 (by decide) rfl hf (fun c2 hf => ?_) (fun c2 hf => ?_)
  · refine J_aload_n (q := 15) C0 0 rfl rfl dX8_shownAt_14 rfl trivial ?_
    refine J_getR (q := 18) C0 fl_X8_9_7 rfl (h0) rfl dX8_shownAt_15 rfl ?_
    refine J_iload_n (q := 19) C0 1 rfl rfl dX8_shownAt_18 rfl ?_
    refine J_aload_n (q := 20) C0 0 rfl rfl dX8_shownAt_19 rfl trivial ?_
    refine J_getR (q := 23) C0 fl_X8_9_7 rfl (h0) rfl dX8_shownAt_20 rfl ?_
    refine J_alen (q := 24) C0 hb1 (ab1) (by decide) dX8_shownAt_23 rfl ?_
    refine K_some hf (fun p3 hp3 hf => ?_)
    refine J_callSN (q := 27) (as := [vi (x1), vi (Int32.ofNat (sg_L σ b1))]) (rest := [vr (sg_R σ a0 0)]) C0 (t_X11_round (x1) (Int32.ofNat (sg_L σ b1))  hp3) ml_X11_round lk_X8_15 sm_X11_round dX8_shownAt_24 rfl rfl rfl (by simp [ac_]) C1.room (by decide) (by decide) (by decide) (by decide) (fun r_ τ_ hQ => ?_)
    obtain ⟨rfl, rfl⟩ := hQ
    show J_ Γ 27 [(0, vr (some a0)), (1, vi (x1))] [vi (p3), vr (sg_R σ a0 0)] σ 0 0
    refine K_chk hf (fun c4 hf => ?_)
    refine J_iald (q := 28) C0 hb1 (ab1) c4 dX8_shownAt_27 rfl ?_
    cases hf; exact J_iret C1 dX8_shownAt_28 rfl (Nat.zero_le _) (Nat.zero_le _) ⟨rfl, rfl⟩
  · refine J_bipush (q := 11) (v := 26) C0 dX8_shownAt_9 rfl rfl ?_
    refine J_goto (q := 28) C0 dX8_shownAt_11 (by decide) ?_
    cases hf; exact J_iret C1 dX8_shownAt_28 rfl (Nat.zero_le _) (Nat.zero_le _) ⟨rfl, rfl⟩

def f_X8_has_B42 (N : Nat) (a0 : Nat) (k14 : Int32 → Int32 → Option Nat → Int32 → Int32 → Option Int32) (v1 : Int32) (v3 : Option Nat) (v4 : Int32) (v5 : Int32) (s0 : Int32) (σ : Sg) : Option Int32 :=
  k14 (v1) (s0) (v3) (v4) (v5 + 1)
def f_X8_has_B37 (N : Nat) (a0 : Nat) (k14 : Int32 → Int32 → Option Nat → Int32 → Int32 → Option Int32) (v1 : Int32) (v3 : Option Nat) (v4 : Int32) (v5 : Int32) (σ : Sg) : Option Int32 :=
  f_X8_has_B42 N a0 k14 (v1) (v3) (v4) (v5) (1) σ
def f_X8_has_L14 (N : Nat) (a0 : Nat) : Nat → Int32 → Int32 → Option Nat → Int32 → Int32 → Sg → Option Int32
  | 0, _, _, _, _, _, _ => none
  | n + 1, v1, v2, v3, v4, v5, σ =>
  if (v5) < (v4) then
  (Option.bind (v3) fun b4 =>
  if (v5) < 0 ∨ sg_L σ b4 ≤ (v5).toNatClampNeg then none else
  if (v2) = (0) then
  (if (sg_I σ b4 (v5).toNatClampNeg) = (v1) then
  (f_X8_has_B37 N a0 (fun v1 v2 v3 v4 v5 => f_X8_has_L14 N a0 n v1 v2 v3 v4 v5 σ) (v1) (v3) (v4) (v5) σ)
  else
  (f_X8_has_B42 N a0 (fun v1 v2 v3 v4 v5 => f_X8_has_L14 N a0 n v1 v2 v3 v4 v5 σ) (v1) (v3) (v4) (v5) (0) σ))
  else
  (f_X8_has_B37 N a0 (fun v1 v2 v3 v4 v5 => f_X8_has_L14 N a0 n v1 v2 v3 v4 v5 σ) (v1) (v3) (v4) (v5) σ))
  else
  (if ¬ ((v2) = 0 ∨ (v2) = 1) then none else
  some (v2))
def f_X8_has (N : Nat) (a0 : Nat) (x1 : Int32) (σ : Sg) : Option Int32 :=
  Option.bind (sg_R σ a0 0) fun b1 =>
  f_X8_has_L14 N a0 N (x1) (0) (sg_R σ a0 0) (Int32.ofNat (sg_L σ b1)) (0) σ
set_option maxHeartbeats 4000000 in
set_option maxRecDepth 100000 in
theorem t_X8_has_B42 {N : Nat} {a0 : Nat} {Γ : Gm} {σ : Sg} {r : Int32} (C1 : CM Γ cX8_has RX8 7 (some .boolean) 0 0 0 0 (fun r_ τ_ => (r_ = some (vi r) ∧ (r = 0 ∨ r = 1)) ∧ τ_ = σ)) (hT : sg_T σ) (h0 : is_A σ a0 7) (k14 : Int32 → Int32 → Option Nat → Int32 → Int32 → Option Int32) (hk14 : ∀ (v1 : Int32) (v2 : Int32) (v3 : Option Nat) (v4 : Int32) (v5 : Int32) , is_O σ v3 12 → k14 v1 v2 v3 v4 v5 = some r → J_ Γ 14 [(0, vr (some a0)), (1, vi v1), (2, vi v2), (3, vr v3), (4, vi v4), (5, vi v5)] [] σ 0 0) (v1 : Int32) (v3 : Option Nat) (v4 : Int32) (v5 : Int32) (s0 : Int32) (g_v3 : is_O σ v3 12) (hf : f_X8_has_B42 N a0 k14  v1 v3 v4 v5 s0 σ = some r) : J_ Γ 42 [(0, vr (some a0)), (1, vi (v1)), (3, vr (v3)), (4, vi (v4)), (5, vi (v5))] [vi (s0)] σ 0 0 := by
  have C0 := C1.1
  unfold f_X8_has_B42 at hf
  refine J_istore_n (q := 43) (lv' := [(2, vi (s0)), (0, vr (some a0)), (1, vi (v1)), (3, vr (v3)), (4, vi (v4)), (5, vi (v5))]) C0 rfl (G_nl C1 (by decide)) dX8_has_42 rfl rfl ?_
  refine J_iinc (q := 46) (v := v5 + 1) (lv' := [(5, vi (v5 + 1)), (2, vi (s0)), (0, vr (some a0)), (1, vi (v1)), (3, vr (v3)), (4, vi (v4))]) C0 5 rfl rfl (G_nl C1 (by decide)) dX8_has_43 rfl rfl ?_
  refine J_goto (q := 14) C0 dX8_has_46 (by decide) ?_
  refine J_sub (lv' := [(0, vr (some a0)), (1, vi (v1)), (2, vi (s0)), (3, vr (v3)), (4, vi (v4)), (5, vi (v5 + 1))]) [2, 3, 1, 4, 5, 0] rfl ?_
  exact hk14 (v1) (s0) (v3) (v4) (v5 + 1) (g_v3) hf
set_option maxHeartbeats 4000000 in
set_option maxRecDepth 100000 in
theorem t_X8_has_B37 {N : Nat} {a0 : Nat} {Γ : Gm} {σ : Sg} {r : Int32} (C1 : CM Γ cX8_has RX8 7 (some .boolean) 0 0 0 0 (fun r_ τ_ => (r_ = some (vi r) ∧ (r = 0 ∨ r = 1)) ∧ τ_ = σ)) (hT : sg_T σ) (h0 : is_A σ a0 7) (k14 : Int32 → Int32 → Option Nat → Int32 → Int32 → Option Int32) (hk14 : ∀ (v1 : Int32) (v2 : Int32) (v3 : Option Nat) (v4 : Int32) (v5 : Int32) , is_O σ v3 12 → k14 v1 v2 v3 v4 v5 = some r → J_ Γ 14 [(0, vr (some a0)), (1, vi v1), (2, vi v2), (3, vr v3), (4, vi v4), (5, vi v5)] [] σ 0 0) (v1 : Int32) (v3 : Option Nat) (v4 : Int32) (v5 : Int32) (g_v3 : is_O σ v3 12) (hf : f_X8_has_B37 N a0 k14  v1 v3 v4 v5 σ = some r) : J_ Γ 37 [(0, vr (some a0)), (1, vi (v1)), (3, vr (v3)), (4, vi (v4)), (5, vi (v5))] [] σ 0 0 := by
  have C0 := C1.1
  unfold f_X8_has_B37 at hf
  refine J_iconst (q := 38) (v := 1) C0 dX8_has_37 rfl rfl ?_
  refine J_goto (q := 42) C0 dX8_has_38 (by decide) ?_
  exact t_X8_has_B42 C1 (hT) (h0) k14  hk14  (v1) (v3) (v4) (v5) (1) (g_v3) hf
set_option maxHeartbeats 4000000 in
set_option maxRecDepth 100000 in
theorem t_X8_has_L14 {N : Nat} {a0 : Nat} {Γ : Gm} {σ : Sg} {r : Int32} (C1 : CM Γ cX8_has RX8 7 (some .boolean) 0 0 0 0 (fun r_ τ_ => (r_ = some (vi r) ∧ (r = 0 ∨ r = 1)) ∧ τ_ = σ)) (hT : sg_T σ) (h0 : is_A σ a0 7) : ∀ (n : Nat) (v1 : Int32) (v2 : Int32) (v3 : Option Nat) (v4 : Int32) (v5 : Int32), is_O σ v3 12 → f_X8_has_L14 N a0  n v1 v2 v3 v4 v5 σ = some r → J_ Γ 14 [(0, vr (some a0)), (1, vi (v1)), (2, vi (v2)), (3, vr (v3)), (4, vi (v4)), (5, vi (v5))] [] σ 0 0 := by
  have C0 := C1.1
  intro n
  induction n with
  | zero => intro v1 v2 v3 v4 v5 g_v3 hf; unfold f_X8_has_L14 at hf; cases hf
  | succ n ih =>
    intro v1 v2 v3 v4 v5 g_v3 hf
    rw [f_X8_has_L14] at hf
    refine J_iload (q := 16) C0 5 rfl dX8_has_14 rfl ?_
    refine J_iload (q := 18) C0 4 rfl dX8_has_16 rfl ?_
    refine J_icmp_ge (t := 49) (q := 21) C0 dX8_has_18 (by decide) rfl hf (fun c2 hf => ?_) (fun c2 hf => ?_)
    · refine J_iload_n (q := 50) C0 2 rfl rfl dX8_has_49 rfl ?_
      refine K_chk hf (fun c3 hf => ?_)
      cases hf; exact J_zret C1 dX8_has_50 rfl (Decidable.not_not.mp c3) (Nat.zero_le _) (Nat.zero_le _) ⟨⟨rfl, (Decidable.not_not.mp c3)⟩, rfl⟩
    · refine J_aload_n (q := 22) C0 3 rfl rfl dX8_has_21 rfl trivial ?_
      refine J_iload (q := 24) C0 5 rfl dX8_has_22 rfl ?_
      refine K_some hf (fun b4 hb4 hf => ?_)
      have ab4 : is_A σ b4 12 := (g_v3) b4 hb4
      refine K_chk hf (fun c5 hf => ?_)
      refine J_iald (q := 25) C0 hb4 (ab4) c5 dX8_has_24 rfl ?_
      refine J_istore (q := 27) (lv' := [(6, vi (sg_I σ b4 (v5).toNatClampNeg)), (0, vr (some a0)), (1, vi (v1)), (2, vi (v2)), (3, vr (v3)), (4, vi (v4)), (5, vi (v5))]) C0 (G_nl C1 (by decide)) dX8_has_25 rfl rfl ?_
      refine J_iload_n (q := 28) C0 3 rfl rfl dX8_has_27 rfl ?_
      refine J_if_ne (t := 37) (q := 31) C0 dX8_has_28 (by decide) rfl hf (fun c6 hf => ?_) (fun c6 hf => ?_)
      · refine J_sub (lv' := [(0, vr (some a0)), (1, vi (v1)), (3, vr (v3)), (4, vi (v4)), (5, vi (v5))]) [1, 2, 4, 5, 6] rfl ?_
        exact t_X8_has_B37 C1 (hT) (h0) (fun v1 v2 v3 v4 v5 => f_X8_has_L14 N a0 n v1 v2 v3 v4 v5 σ)  ih  (v1) (v3) (v4) (v5) ((by rw [hb4]; exact is_O.some (ab4))) hf
      · refine J_iload (q := 33) C0 0 rfl dX8_has_31 rfl ?_
        refine J_iload_n (q := 34) C0 2 rfl rfl dX8_has_33 rfl ?_
        refine J_icmp_ne (t := 41) (q := 37) C0 dX8_has_34 (by decide) rfl hf (fun c7 hf => ?_) (fun c7 hf => ?_)
        · refine J_iconst (q := 42) (v := 0) C0 dX8_has_41 rfl rfl ?_
          refine J_sub (lv' := [(0, vr (some a0)), (1, vi (v1)), (3, vr (v3)), (4, vi (v4)), (5, vi (v5))]) [1, 2, 4, 5, 6] rfl ?_
          exact t_X8_has_B42 C1 (hT) (h0) (fun v1 v2 v3 v4 v5 => f_X8_has_L14 N a0 n v1 v2 v3 v4 v5 σ)  ih  (v1) (v3) (v4) (v5) (0) ((by rw [hb4]; exact is_O.some (ab4))) hf
        · refine J_sub (lv' := [(0, vr (some a0)), (1, vi (v1)), (3, vr (v3)), (4, vi (v4)), (5, vi (v5))]) [1, 2, 4, 5, 6] rfl ?_
          exact t_X8_has_B37 C1 (hT) (h0) (fun v1 v2 v3 v4 v5 => f_X8_has_L14 N a0 n v1 v2 v3 v4 v5 σ)  ih  (v1) (v3) (v4) (v5) ((by rw [hb4]; exact is_O.some (ab4))) hf
set_option maxHeartbeats 4000000 in
set_option maxRecDepth 100000 in
theorem t_X8_has (N : Nat) (a0 : Nat) (x1 : Int32) {σ : Sg} (hT : sg_T σ) (h0 : is_A σ a0 7) {r : Int32} (hf : f_X8_has N a0 x1 σ = some r) : Ct yX8_has cX8_has 7 (some .boolean) 0 0 0 0 [vr (some a0), vi x1] σ (fun r_ τ_ => (r_ = some (vi r) ∧ (r = 0 ∨ r = 1)) ∧ τ_ = σ) := by
  refine Ct.of (by decide +kernel) (Nat.le_of_ble_eq_true rfl) (fun Γ C1 => ?_)
  have C0 := C1.1
  unfold f_X8_has at hf
  show J_ Γ 0 [(0, vr (some a0)), (1, vi (x1))] [] σ 0 0
  refine J_iconst (q := 1) (v := 0) C0 dX8_has_0 rfl rfl ?_
  refine J_istore_n (q := 2) (lv' := [(2, vi (0)), (0, vr (some a0)), (1, vi (x1))]) C0 rfl (G_nl C1 (by decide)) dX8_has_1 rfl rfl ?_
  refine J_aload_n (q := 3) C0 1 rfl rfl dX8_has_2 rfl trivial ?_
  refine J_getR (q := 6) C0 fl_X8_9_7 rfl (h0) rfl dX8_has_3 rfl ?_
  refine J_astore_n (q := 7) (lv' := [(3, vr (sg_R σ a0 0)), (2, vi (0)), (0, vr (some a0)), (1, vi (x1))]) C0 rfl (G_nl C1 (by decide)) dX8_has_6 rfl trivial rfl ?_
  refine J_aload_n (q := 8) C0 0 rfl rfl dX8_has_7 rfl trivial ?_
  refine K_some hf (fun b1 hb1 hf => ?_)
  have ab1 : is_A σ b1 12 := ((sg_T.op hT (j := 0) (h0) rfl)) b1 hb1
  refine J_alen (q := 9) C0 hb1 (ab1) (by decide) dX8_has_8 rfl ?_
  refine J_istore (q := 11) (lv' := [(4, vi (Int32.ofNat (sg_L σ b1))), (3, vr (sg_R σ a0 0)), (2, vi (0)), (0, vr (some a0)), (1, vi (x1))]) C0 (G_nl C1 (by decide)) dX8_has_9 rfl rfl ?_
  refine J_iconst (q := 12) (v := 0) C0 dX8_has_11 rfl rfl ?_
  refine J_istore (q := 14) (lv' := [(5, vi (0)), (4, vi (Int32.ofNat (sg_L σ b1))), (3, vr (sg_R σ a0 0)), (2, vi (0)), (0, vr (some a0)), (1, vi (x1))]) C0 (G_nl C1 (by decide)) dX8_has_12 rfl rfl ?_
  refine J_sub (lv' := [(0, vr (some a0)), (1, vi (x1)), (2, vi (0)), (3, vr (sg_R σ a0 0)), (4, vi (Int32.ofNat (sg_L σ b1))), (5, vi (0))]) [4, 5, 3, 2, 1, 0] rfl ?_
  exact t_X8_has_L14 C1 (hT) (h0)    N (x1) (0) (sg_R σ a0 0) (Int32.ofNat (sg_L σ b1)) (0) ((by rw [hb1]; exact is_O.some (ab1))) hf

def f_X6_nextSign_B38 (N : Nat) (a0 : Nat) (σ : Sg) : Option (Int32 × Sg) :=
  if (sg_I σ a0 2) < (sg_I σ a0 1) then
  (Option.bind (sg_R σ a0 0) fun b3 =>
  if (sg_I σ a0 2) < 0 ∨ sg_L σ b3 ≤ (sg_I σ a0 2).toNatClampNeg then none else
  some (sg_I σ b3 (sg_I σ a0 2).toNatClampNeg, σ))
  else
  (some ((-1), σ))
def f_X6_nextSign_L0 (N : Nat) (a0 : Nat) : Nat → Sg → Option (Int32 × Sg)
  | 0, _ => none
  | n + 1, σ =>
  if (sg_I σ a0 2) < (sg_I σ a0 1) then
  (Option.bind (sg_R σ a0 0) fun b5 =>
  if (sg_I σ a0 2) < 0 ∨ sg_L σ b5 ≤ (sg_I σ a0 2).toNatClampNeg then none else
  if (sg_I σ b5 (sg_I σ a0 2).toNatClampNeg) = (32) then
  (f_X6_nextSign_L0 N a0 n  (put_I σ a0 2 ((sg_I σ a0 2) + (1))))
  else
  (f_X6_nextSign_B38 N a0  σ))
  else
  (f_X6_nextSign_B38 N a0  σ)
def f_X6_nextSign (N : Nat) (a0 : Nat) (σ : Sg) : Option (Int32 × Sg) :=
  f_X6_nextSign_L0 N a0 N  σ
set_option maxHeartbeats 4000000 in
set_option maxRecDepth 100000 in
theorem t_X6_nextSign_B38_k1 {N : Nat} {a0 : Nat} {Γ : Gm} {σ0 : Sg} {r : (Int32 × Sg)} (C1 : CM Γ cX6_nextSign RX6 1 (some .int) 0 0 0 0 (fun r_ τ_ => (r_ = some (vi r.1)) ∧ τ_ = r.2 ∧ sg_T τ_ ∧ sg_E σ0 τ_)) (σ : Sg) (hT : sg_T σ) (hE : sg_E σ0 σ) (h0 : is_A σ a0 1) (hf : f_X6_nextSign_B38 N a0   σ = some r) : J_ Γ 38 [(0, vr (some a0))] [] σ 0 0 := by
  have C0 := C1.1
  unfold f_X6_nextSign_B38 at hf
  refine J_aload_n (q := 39) C0 0 rfl rfl dX6_nextSign_38 rfl trivial ?_
  refine J_getI (q := 42) C0 fl_X6_19_1 rfl (h0) rfl dX6_nextSign_39 rfl ?_
  refine J_aload_n (q := 43) C0 0 rfl rfl dX6_nextSign_42 rfl trivial ?_
  refine J_getI (q := 46) C0 fl_X6_15_1 rfl (h0) rfl dX6_nextSign_43 rfl ?_
  refine J_icmp_ge (t := 61) (q := 49) C0 dX6_nextSign_46 (by decide) rfl hf (fun c2 hf => ?_) (fun c2 hf => ?_)
  · refine J_iconst (q := 62) (v := (-1)) C0 dX6_nextSign_61 rfl rfl ?_
    cases hf; exact J_iret C1 dX6_nextSign_62 rfl (Nat.zero_le _) (Nat.zero_le _) ⟨rfl, rfl, hT, hE⟩
  · refine J_aload_n (q := 50) C0 0 rfl rfl dX6_nextSign_49 rfl trivial ?_
    refine J_getR (q := 53) C0 fl_X6_9_1 rfl (h0) rfl dX6_nextSign_50 rfl ?_
    refine J_aload_n (q := 54) C0 0 rfl rfl dX6_nextSign_53 rfl trivial ?_
    refine J_getI (q := 57) C0 fl_X6_19_1 rfl (h0) rfl dX6_nextSign_54 rfl ?_
    refine K_some hf (fun b3 hb3 hf => ?_)
    have ab3 : is_A σ b3 12 := ((sg_T.op hT (j := 0) (h0) rfl)) b3 hb3
    refine K_chk hf (fun c4 hf => ?_)
    refine J_iald (q := 58) C0 hb3 (ab3) c4 dX6_nextSign_57 rfl ?_
    refine J_goto (q := 62) C0 dX6_nextSign_58 (by decide) ?_
    cases hf; exact J_iret C1 dX6_nextSign_62 rfl (Nat.zero_le _) (Nat.zero_le _) ⟨rfl, rfl, hT, hE⟩
set_option maxHeartbeats 4000000 in
set_option maxRecDepth 100000 in
theorem t_X6_nextSign_L0_k1 {N : Nat} {a0 : Nat} {Γ : Gm} {σ0 : Sg} {r : (Int32 × Sg)} (C1 : CM Γ cX6_nextSign RX6 1 (some .int) 0 0 0 0 (fun r_ τ_ => (r_ = some (vi r.1)) ∧ τ_ = r.2 ∧ sg_T τ_ ∧ sg_E σ0 τ_)) : ∀ (n : Nat) (σ : Sg), sg_T σ → sg_E σ0 σ → is_A σ a0 1 → f_X6_nextSign_L0 N a0  n  σ = some r → J_ Γ 0 [(0, vr (some a0))] [] σ 0 0 := by
  have C0 := C1.1
  intro n
  induction n with
  | zero => intro  σ hT hE h0  hf; unfold f_X6_nextSign_L0 at hf; cases hf
  | succ n ih =>
    intro  σ hT hE h0  hf
    rw [f_X6_nextSign_L0] at hf
    refine J_aload_n (q := 1) C0 0 rfl rfl dX6_nextSign_0 rfl trivial ?_
    refine J_getI (q := 4) C0 fl_X6_19_1 rfl (h0) rfl dX6_nextSign_1 rfl ?_
    refine J_aload_n (q := 5) C0 0 rfl rfl dX6_nextSign_4 rfl trivial ?_
    refine J_getI (q := 8) C0 fl_X6_15_1 rfl (h0) rfl dX6_nextSign_5 rfl ?_
    refine J_icmp_ge (t := 38) (q := 11) C0 dX6_nextSign_8 (by decide) rfl hf (fun c1 hf => ?_) (fun c1 hf => ?_)
    · exact t_X6_nextSign_B38_k1 C1     σ (hT) (hE) (h0)  hf
    · refine J_aload_n (q := 12) C0 0 rfl rfl dX6_nextSign_11 rfl trivial ?_
      refine J_getR (q := 15) C0 fl_X6_9_1 rfl (h0) rfl dX6_nextSign_12 rfl ?_
      refine J_aload_n (q := 16) C0 0 rfl rfl dX6_nextSign_15 rfl trivial ?_
      refine J_getI (q := 19) C0 fl_X6_19_1 rfl (h0) rfl dX6_nextSign_16 rfl ?_
      refine K_some hf (fun b5 hb5 hf => ?_)
      have ab5 : is_A σ b5 12 := ((sg_T.op hT (j := 0) (h0) rfl)) b5 hb5
      refine K_chk hf (fun c6 hf => ?_)
      refine J_iald (q := 20) C0 hb5 (ab5) c6 dX6_nextSign_19 rfl ?_
      refine J_bipush (q := 22) (v := 32) C0 dX6_nextSign_20 rfl rfl ?_
      refine J_icmp_ne (t := 38) (q := 25) C0 dX6_nextSign_22 (by decide) rfl hf (fun c7 hf => ?_) (fun c7 hf => ?_)
      · exact t_X6_nextSign_B38_k1 C1     σ (hT) (hE) (h0)  hf
      · refine J_aload_n (q := 26) C0 0 rfl rfl dX6_nextSign_25 rfl trivial ?_
        refine J_dup (q := 27) C0 dX6_nextSign_26 rfl rfl ?_
        refine J_getI (q := 30) C0 fl_X6_19_1 rfl (h0) rfl dX6_nextSign_27 rfl ?_
        refine J_iconst (q := 31) (v := 1) C0 dX6_nextSign_30 rfl rfl ?_
        refine J_iadd (q := 32) C0 dX6_nextSign_31 rfl ?_
        refine J_putI (q := 35) C0 fl_X6_19_1 rfl (h0) rfl dX6_nextSign_32 rfl ?_
        refine J_goto (q := 0) C0 dX6_nextSign_35 (by decide) ?_
        exact ih  (put_I σ a0 2 ((sg_I σ a0 2) + (1))) ((hT).putI) ((hE).putI) ((h0).putI)  hf
set_option maxHeartbeats 4000000 in
set_option maxRecDepth 100000 in
theorem t_X6_nextSign_k1 (N : Nat) (a0 : Nat) {σ : Sg} (hT : sg_T σ) (h0 : is_A σ a0 1) {r : (Int32 × Sg)} (hf : f_X6_nextSign N a0  σ = some r) : Ct yX6_nextSign cX6_nextSign 1 (some .int) 0 0 0 0 [vr (some a0)] σ (fun r_ τ_ => (r_ = some (vi r.1)) ∧ τ_ = r.2 ∧ sg_T τ_ ∧ sg_E σ τ_) := by
  refine Ct.of (by decide +kernel) (Nat.le_of_ble_eq_true rfl) (fun Γ C1 => ?_)
  have C0 := C1.1
  have hE : sg_E σ σ := sg_E.rf
  unfold f_X6_nextSign at hf
  show J_ Γ 0 [(0, vr (some a0))] [] σ 0 0
  exact t_X6_nextSign_L0_k1 C1    N  σ (hT) (hE) (h0)  hf
set_option maxHeartbeats 4000000 in
set_option maxRecDepth 100000 in
theorem t_X6_nextSign_B38_k3 {N : Nat} {a0 : Nat} {Γ : Gm} {σ0 : Sg} {r : (Int32 × Sg)} (C1 : CM Γ cX6_nextSign RX6 1 (some .int) 0 0 0 0 (fun r_ τ_ => (r_ = some (vi r.1)) ∧ τ_ = r.2 ∧ sg_T τ_ ∧ sg_E σ0 τ_)) (σ : Sg) (hT : sg_T σ) (hE : sg_E σ0 σ) (h0 : is_A σ a0 3) (hf : f_X6_nextSign_B38 N a0   σ = some r) : J_ Γ 38 [(0, vr (some a0))] [] σ 0 0 := by
  have C0 := C1.1
  unfold f_X6_nextSign_B38 at hf
  refine J_aload_n (q := 39) C0 0 rfl rfl dX6_nextSign_38 rfl trivial ?_
  refine J_getI (q := 42) C0 fl_X6_19_3 rfl (h0) rfl dX6_nextSign_39 rfl ?_
  refine J_aload_n (q := 43) C0 0 rfl rfl dX6_nextSign_42 rfl trivial ?_
  refine J_getI (q := 46) C0 fl_X6_15_3 rfl (h0) rfl dX6_nextSign_43 rfl ?_
  refine J_icmp_ge (t := 61) (q := 49) C0 dX6_nextSign_46 (by decide) rfl hf (fun c2 hf => ?_) (fun c2 hf => ?_)
  · refine J_iconst (q := 62) (v := (-1)) C0 dX6_nextSign_61 rfl rfl ?_
    cases hf; exact J_iret C1 dX6_nextSign_62 rfl (Nat.zero_le _) (Nat.zero_le _) ⟨rfl, rfl, hT, hE⟩
  · refine J_aload_n (q := 50) C0 0 rfl rfl dX6_nextSign_49 rfl trivial ?_
    refine J_getR (q := 53) C0 fl_X6_9_3 rfl (h0) rfl dX6_nextSign_50 rfl ?_
    refine J_aload_n (q := 54) C0 0 rfl rfl dX6_nextSign_53 rfl trivial ?_
    refine J_getI (q := 57) C0 fl_X6_19_3 rfl (h0) rfl dX6_nextSign_54 rfl ?_
    refine K_some hf (fun b3 hb3 hf => ?_)
    have ab3 : is_A σ b3 12 := ((sg_T.op hT (j := 0) (h0) rfl)) b3 hb3
    refine K_chk hf (fun c4 hf => ?_)
    refine J_iald (q := 58) C0 hb3 (ab3) c4 dX6_nextSign_57 rfl ?_
    refine J_goto (q := 62) C0 dX6_nextSign_58 (by decide) ?_
    cases hf; exact J_iret C1 dX6_nextSign_62 rfl (Nat.zero_le _) (Nat.zero_le _) ⟨rfl, rfl, hT, hE⟩
set_option maxHeartbeats 4000000 in
set_option maxRecDepth 100000 in
theorem t_X6_nextSign_L0_k3 {N : Nat} {a0 : Nat} {Γ : Gm} {σ0 : Sg} {r : (Int32 × Sg)} (C1 : CM Γ cX6_nextSign RX6 1 (some .int) 0 0 0 0 (fun r_ τ_ => (r_ = some (vi r.1)) ∧ τ_ = r.2 ∧ sg_T τ_ ∧ sg_E σ0 τ_)) : ∀ (n : Nat) (σ : Sg), sg_T σ → sg_E σ0 σ → is_A σ a0 3 → f_X6_nextSign_L0 N a0  n  σ = some r → J_ Γ 0 [(0, vr (some a0))] [] σ 0 0 := by
  have C0 := C1.1
  intro n
  induction n with
  | zero => intro  σ hT hE h0  hf; unfold f_X6_nextSign_L0 at hf; cases hf
  | succ n ih =>
    intro  σ hT hE h0  hf
    rw [f_X6_nextSign_L0] at hf
    refine J_aload_n (q := 1) C0 0 rfl rfl dX6_nextSign_0 rfl trivial ?_
    refine J_getI (q := 4) C0 fl_X6_19_3 rfl (h0) rfl dX6_nextSign_1 rfl ?_
    refine J_aload_n (q := 5) C0 0 rfl rfl dX6_nextSign_4 rfl trivial ?_
    refine J_getI (q := 8) C0 fl_X6_15_3 rfl (h0) rfl dX6_nextSign_5 rfl ?_
    refine J_icmp_ge (t := 38) (q := 11) C0 dX6_nextSign_8 (by decide) rfl hf (fun c1 hf => ?_) (fun c1 hf => ?_)
    · exact t_X6_nextSign_B38_k3 C1     σ (hT) (hE) (h0)  hf
    · refine J_aload_n (q := 12) C0 0 rfl rfl dX6_nextSign_11 rfl trivial ?_
      refine J_getR (q := 15) C0 fl_X6_9_3 rfl (h0) rfl dX6_nextSign_12 rfl ?_
      refine J_aload_n (q := 16) C0 0 rfl rfl dX6_nextSign_15 rfl trivial ?_
      refine J_getI (q := 19) C0 fl_X6_19_3 rfl (h0) rfl dX6_nextSign_16 rfl ?_
      refine K_some hf (fun b5 hb5 hf => ?_)
      have ab5 : is_A σ b5 12 := ((sg_T.op hT (j := 0) (h0) rfl)) b5 hb5
      refine K_chk hf (fun c6 hf => ?_)
      refine J_iald (q := 20) C0 hb5 (ab5) c6 dX6_nextSign_19 rfl ?_
      refine J_bipush (q := 22) (v := 32) C0 dX6_nextSign_20 rfl rfl ?_
      refine J_icmp_ne (t := 38) (q := 25) C0 dX6_nextSign_22 (by decide) rfl hf (fun c7 hf => ?_) (fun c7 hf => ?_)
      · exact t_X6_nextSign_B38_k3 C1     σ (hT) (hE) (h0)  hf
      · refine J_aload_n (q := 26) C0 0 rfl rfl dX6_nextSign_25 rfl trivial ?_
        refine J_dup (q := 27) C0 dX6_nextSign_26 rfl rfl ?_
        refine J_getI (q := 30) C0 fl_X6_19_3 rfl (h0) rfl dX6_nextSign_27 rfl ?_
        refine J_iconst (q := 31) (v := 1) C0 dX6_nextSign_30 rfl rfl ?_
        refine J_iadd (q := 32) C0 dX6_nextSign_31 rfl ?_
        refine J_putI (q := 35) C0 fl_X6_19_3 rfl (h0) rfl dX6_nextSign_32 rfl ?_
        refine J_goto (q := 0) C0 dX6_nextSign_35 (by decide) ?_
        exact ih  (put_I σ a0 2 ((sg_I σ a0 2) + (1))) ((hT).putI) ((hE).putI) ((h0).putI)  hf
set_option maxHeartbeats 4000000 in
set_option maxRecDepth 100000 in
theorem t_X6_nextSign_k3 (N : Nat) (a0 : Nat) {σ : Sg} (hT : sg_T σ) (h0 : is_A σ a0 3) {r : (Int32 × Sg)} (hf : f_X6_nextSign N a0  σ = some r) : Ct yX6_nextSign cX6_nextSign 1 (some .int) 0 0 0 0 [vr (some a0)] σ (fun r_ τ_ => (r_ = some (vi r.1)) ∧ τ_ = r.2 ∧ sg_T τ_ ∧ sg_E σ τ_) := by
  refine Ct.of (by decide +kernel) (Nat.le_of_ble_eq_true rfl) (fun Γ C1 => ?_)
  have C0 := C1.1
  have hE : sg_E σ σ := sg_E.rf
  unfold f_X6_nextSign at hf
  show J_ Γ 0 [(0, vr (some a0))] [] σ 0 0
  exact t_X6_nextSign_L0_k3 C1    N  σ (hT) (hE) (h0)  hf
set_option maxHeartbeats 4000000 in
set_option maxRecDepth 100000 in
theorem t_X6_nextSign_B38_k8 {N : Nat} {a0 : Nat} {Γ : Gm} {σ0 : Sg} {r : (Int32 × Sg)} (C1 : CM Γ cX6_nextSign RX6 1 (some .int) 0 0 0 0 (fun r_ τ_ => (r_ = some (vi r.1)) ∧ τ_ = r.2 ∧ sg_T τ_ ∧ sg_E σ0 τ_)) (σ : Sg) (hT : sg_T σ) (hE : sg_E σ0 σ) (h0 : is_A σ a0 8) (hf : f_X6_nextSign_B38 N a0   σ = some r) : J_ Γ 38 [(0, vr (some a0))] [] σ 0 0 := by
  have C0 := C1.1
  unfold f_X6_nextSign_B38 at hf
  refine J_aload_n (q := 39) C0 0 rfl rfl dX6_nextSign_38 rfl trivial ?_
  refine J_getI (q := 42) C0 fl_X6_19_8 rfl (h0) rfl dX6_nextSign_39 rfl ?_
  refine J_aload_n (q := 43) C0 0 rfl rfl dX6_nextSign_42 rfl trivial ?_
  refine J_getI (q := 46) C0 fl_X6_15_8 rfl (h0) rfl dX6_nextSign_43 rfl ?_
  refine J_icmp_ge (t := 61) (q := 49) C0 dX6_nextSign_46 (by decide) rfl hf (fun c2 hf => ?_) (fun c2 hf => ?_)
  · refine J_iconst (q := 62) (v := (-1)) C0 dX6_nextSign_61 rfl rfl ?_
    cases hf; exact J_iret C1 dX6_nextSign_62 rfl (Nat.zero_le _) (Nat.zero_le _) ⟨rfl, rfl, hT, hE⟩
  · refine J_aload_n (q := 50) C0 0 rfl rfl dX6_nextSign_49 rfl trivial ?_
    refine J_getR (q := 53) C0 fl_X6_9_8 rfl (h0) rfl dX6_nextSign_50 rfl ?_
    refine J_aload_n (q := 54) C0 0 rfl rfl dX6_nextSign_53 rfl trivial ?_
    refine J_getI (q := 57) C0 fl_X6_19_8 rfl (h0) rfl dX6_nextSign_54 rfl ?_
    refine K_some hf (fun b3 hb3 hf => ?_)
    have ab3 : is_A σ b3 12 := ((sg_T.op hT (j := 0) (h0) rfl)) b3 hb3
    refine K_chk hf (fun c4 hf => ?_)
    refine J_iald (q := 58) C0 hb3 (ab3) c4 dX6_nextSign_57 rfl ?_
    refine J_goto (q := 62) C0 dX6_nextSign_58 (by decide) ?_
    cases hf; exact J_iret C1 dX6_nextSign_62 rfl (Nat.zero_le _) (Nat.zero_le _) ⟨rfl, rfl, hT, hE⟩
set_option maxHeartbeats 4000000 in
set_option maxRecDepth 100000 in
theorem t_X6_nextSign_L0_k8 {N : Nat} {a0 : Nat} {Γ : Gm} {σ0 : Sg} {r : (Int32 × Sg)} (C1 : CM Γ cX6_nextSign RX6 1 (some .int) 0 0 0 0 (fun r_ τ_ => (r_ = some (vi r.1)) ∧ τ_ = r.2 ∧ sg_T τ_ ∧ sg_E σ0 τ_)) : ∀ (n : Nat) (σ : Sg), sg_T σ → sg_E σ0 σ → is_A σ a0 8 → f_X6_nextSign_L0 N a0  n  σ = some r → J_ Γ 0 [(0, vr (some a0))] [] σ 0 0 := by
  have C0 := C1.1
  intro n
  induction n with
  | zero => intro  σ hT hE h0  hf; unfold f_X6_nextSign_L0 at hf; cases hf
  | succ n ih =>
    intro  σ hT hE h0  hf
    rw [f_X6_nextSign_L0] at hf
    refine J_aload_n (q := 1) C0 0 rfl rfl dX6_nextSign_0 rfl trivial ?_
    refine J_getI (q := 4) C0 fl_X6_19_8 rfl (h0) rfl dX6_nextSign_1 rfl ?_
    refine J_aload_n (q := 5) C0 0 rfl rfl dX6_nextSign_4 rfl trivial ?_
    refine J_getI (q := 8) C0 fl_X6_15_8 rfl (h0) rfl dX6_nextSign_5 rfl ?_
    refine J_icmp_ge (t := 38) (q := 11) C0 dX6_nextSign_8 (by decide) rfl hf (fun c1 hf => ?_) (fun c1 hf => ?_)
    · exact t_X6_nextSign_B38_k8 C1     σ (hT) (hE) (h0)  hf
    · refine J_aload_n (q := 12) C0 0 rfl rfl dX6_nextSign_11 rfl trivial ?_
      refine J_getR (q := 15) C0 fl_X6_9_8 rfl (h0) rfl dX6_nextSign_12 rfl ?_
      refine J_aload_n (q := 16) C0 0 rfl rfl dX6_nextSign_15 rfl trivial ?_
      refine J_getI (q := 19) C0 fl_X6_19_8 rfl (h0) rfl dX6_nextSign_16 rfl ?_
      refine K_some hf (fun b5 hb5 hf => ?_)
      have ab5 : is_A σ b5 12 := ((sg_T.op hT (j := 0) (h0) rfl)) b5 hb5
      refine K_chk hf (fun c6 hf => ?_)
      refine J_iald (q := 20) C0 hb5 (ab5) c6 dX6_nextSign_19 rfl ?_
      refine J_bipush (q := 22) (v := 32) C0 dX6_nextSign_20 rfl rfl ?_
      refine J_icmp_ne (t := 38) (q := 25) C0 dX6_nextSign_22 (by decide) rfl hf (fun c7 hf => ?_) (fun c7 hf => ?_)
      · exact t_X6_nextSign_B38_k8 C1     σ (hT) (hE) (h0)  hf
      · refine J_aload_n (q := 26) C0 0 rfl rfl dX6_nextSign_25 rfl trivial ?_
        refine J_dup (q := 27) C0 dX6_nextSign_26 rfl rfl ?_
        refine J_getI (q := 30) C0 fl_X6_19_8 rfl (h0) rfl dX6_nextSign_27 rfl ?_
        refine J_iconst (q := 31) (v := 1) C0 dX6_nextSign_30 rfl rfl ?_
        refine J_iadd (q := 32) C0 dX6_nextSign_31 rfl ?_
        refine J_putI (q := 35) C0 fl_X6_19_8 rfl (h0) rfl dX6_nextSign_32 rfl ?_
        refine J_goto (q := 0) C0 dX6_nextSign_35 (by decide) ?_
        exact ih  (put_I σ a0 2 ((sg_I σ a0 2) + (1))) ((hT).putI) ((hE).putI) ((h0).putI)  hf
set_option maxHeartbeats 4000000 in
set_option maxRecDepth 100000 in
theorem t_X6_nextSign_k8 (N : Nat) (a0 : Nat) {σ : Sg} (hT : sg_T σ) (h0 : is_A σ a0 8) {r : (Int32 × Sg)} (hf : f_X6_nextSign N a0  σ = some r) : Ct yX6_nextSign cX6_nextSign 1 (some .int) 0 0 0 0 [vr (some a0)] σ (fun r_ τ_ => (r_ = some (vi r.1)) ∧ τ_ = r.2 ∧ sg_T τ_ ∧ sg_E σ τ_) := by
  refine Ct.of (by decide +kernel) (Nat.le_of_ble_eq_true rfl) (fun Γ C1 => ?_)
  have C0 := C1.1
  have hE : sg_E σ σ := sg_E.rf
  unfold f_X6_nextSign at hf
  show J_ Γ 0 [(0, vr (some a0))] [] σ 0 0
  exact t_X6_nextSign_L0_k8 C1    N  σ (hT) (hE) (h0)  hf

