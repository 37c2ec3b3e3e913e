def f_X12_nextOf (N : Nat) (a0 : Nat) (x1 : Int32) (x2 : Int32) (x3 : Int32) (σ : Sg) : Option (Int32 × Sg) :=
  Option.bind (f_X12_moveBy N a0 (x1) (x2) (x3) σ) fun p1 =>
  Option.bind (f_X12_longOf a0 (x1) p1.2) fun p2 =>
  Option.bind (f_X12_round ((x2) + (p1.1)) (p2) ) fun p3 =>
  some (p3, p1.2)
set_option maxHeartbeats 4000000 in
set_option maxRecDepth 100000 in
theorem t_X12_nextOf (N : Nat) (a0 : Nat) (x1 : Int32) (x2 : Int32) (x3 : Int32) {σ : Sg} (hT : sg_T σ) (h0 : is_A σ a0 11) {r : (Int32 × Sg)} (hf : f_X12_nextOf N a0 x1 x2 x3 σ = some r) : Ct yX12_nextOf cX12_nextOf 4 (some .int) 6 139 0 0 [vr (some a0), vi x1, vi x2, vi x3] σ (fun r_ τ_ => (r_ = some (vi r.1)) ∧ τ_ = r.2 ∧ sg_T τ_ ∧ sg_E σ τ_) := by
  refine Ct.of (by decide +kernel) (Nat.le_of_ble_eq_true rfl) (fun Γ C1 => ?_)
  have C0 := C1.1
  have hE : sg_E σ σ := sg_E.rf
  unfold f_X12_nextOf at hf
  show J_ Γ 0 [(0, vr (some a0)), (1, vi (x1)), (2, vi (x2)), (3, vi (x3))] [] σ 0 0
  refine J_iload_n (q := 1) C0 2 rfl rfl dX12_nextOf_0 rfl ?_
  refine J_aload_n (q := 2) C0 0 rfl rfl dX12_nextOf_1 rfl trivial ?_
  refine J_iload_n (q := 3) C0 1 rfl rfl dX12_nextOf_2 rfl ?_
  refine J_iload_n (q := 4) C0 2 rfl rfl dX12_nextOf_3 rfl ?_
  refine J_iload_n (q := 5) C0 3 rfl rfl dX12_nextOf_4 rfl ?_
  refine K_some hf (fun p1 hp1 hf => ?_)
  refine J_callV (q := 8) (ci := 11) (as := [vi (x1), vi (x2), vi (x3)]) (rest := [vi (x2)]) C0 rfl (h0) (t_X12_moveBy N a0 (x1) (x2) (x3) (hT) (h0)  hp1) ml_X12_moveBy lk_X12_292 im_X12_moveBy se_X12_moveBy rfl (by decide) dX12_nextOf_5 rfl rfl rfl (by simp [ac_]) C1.room (by decide) (by decide) (by decide) (by decide) (fun r_ τ_ hQ => ?_)
  obtain ⟨rfl, rfl, Tp1, Ep1⟩ := hQ
  show J_ Γ 8 [(0, vr (some a0)), (1, vi (x1)), (2, vi (x2)), (3, vi (x3))] [vi (p1.1), vi (x2)] p1.2 0 0
  refine J_iadd (q := 9) C0 dX12_nextOf_8 rfl ?_
  refine J_aload_n (q := 10) C0 0 rfl rfl dX12_nextOf_9 rfl trivial ?_
  refine J_iload_n (q := 11) C0 1 rfl rfl dX12_nextOf_10 rfl ?_
  refine K_some hf (fun p2 hp2 hf => ?_)
  refine J_callV (q := 14) (ci := 11) (as := [vi (x1)]) (rest := [vi ((x2) + (p1.1))]) C0 rfl ((Ep1.at h0)) (t_X12_longOf a0 (x1) (Tp1) ((Ep1.at h0))  hp2) ml_X12_longOf lk_X12_266 im_X12_longOf se_X12_longOf rfl (by decide) dX12_nextOf_11 rfl rfl rfl (by simp [ac_]) C1.room (by decide) (by decide) (by decide) (by decide) (fun r_ τ_ hQ => ?_)
  obtain ⟨rfl, ht_⟩ := hQ; have ht_ := ht_.symm; subst ht_
  show J_ Γ 14 [(0, vr (some a0)), (1, vi (x1)), (2, vi (x2)), (3, vi (x3))] [vi (p2), vi ((x2) + (p1.1))] p1.2 0 0
  refine K_some hf (fun p3 hp3 hf => ?_)
  refine J_callS (q := 17) (as := [vi ((x2) + (p1.1)), vi (p2)]) (rest := []) C0 (t_X12_round ((x2) + (p1.1)) (p2)  hp3) ml_X12_round lk_X12_295 sm_X12_round dX12_nextOf_14 rfl rfl rfl (by simp [ac_]) C1.room (by decide) (by decide) (by decide) (by decide) (fun r_ τ_ hQ => ?_)
  obtain ⟨rfl, ht_⟩ := hQ; have ht_ := ht_.symm; subst ht_
  show J_ Γ 17 [(0, vr (some a0)), (1, vi (x1)), (2, vi (x2)), (3, vi (x3))] [vi (p3)] p1.2 0 0
  obtain rfl := Option.some.inj hf; exact J_iret C1 dX12_nextOf_17 rfl (Nat.zero_le _) (Nat.zero_le _) ⟨rfl, rfl, Tp1, (hE).tr Ep1⟩
def f_X12_placeBehind_L10 (N : Nat) (a0 : Nat) : Nat → Int32 → Int32 → Int32 → Int32 → Sg → Option (Int32 × Sg)
  | 0, _, _, _, _, _ => none
  | n + 1, v1, v2, v3, v4, σ =>
  if (v4) < (v2) then
  (Option.bind (sg_R σ a0 24) fun b3 =>
  if (19 : Int32) < 0 ∨ sg_L σ b3 ≤ (19 : Int32).toNatClampNeg then none else
  Option.bind (f_X12_nextOf N a0 (v1) (v3) ((sg_I σ b3 (19 : Int32).toNatClampNeg) + (v4)) σ) fun p5 =>
  f_X12_placeBehind_L10 N a0 n (v1) (v2) (p5.1) (v4 + 1) (p5.2))
  else
  (some (v3, σ))
def f_X12_placeBehind (N : Nat) (a0 : Nat) (x1 : Int32) (x2 : Int32) (σ : Sg) : Option (Int32 × Sg) :=
  Option.bind (f_X12_of a0 (x1) (2) σ) fun p1 =>
  f_X12_placeBehind_L10 N a0 N (x1) (x2) (p1) (0) σ
set_option maxHeartbeats 4000000 in
set_option maxRecDepth 100000 in
theorem t_X12_placeBehind_L10 {N : Nat} {a0 : Nat} {Γ : Gm} {σ0 : Sg} {r : (Int32 × Sg)} (C1 : CM Γ cX12_placeBehind RX12 5 (some .int) 7 162 0 0 (fun r_ τ_ => (r_ = some (vi r.1)) ∧ τ_ = r.2 ∧ sg_T τ_ ∧ sg_E σ0 τ_)) : ∀ (n : Nat) (v1 : Int32) (v2 : Int32) (v3 : Int32) (v4 : Int32) (σ : Sg), sg_T σ → sg_E σ0 σ → is_A σ a0 11 → f_X12_placeBehind_L10 N a0  n v1 v2 v3 v4 σ = some r → J_ Γ 10 [(0, vr (some a0)), (1, vi (v1)), (2, vi (v2)), (3, vi (v3)), (4, vi (v4))] [] σ 0 0 := by
  have C0 := C1.1
  intro n
  induction n with
  | zero => intro v1 v2 v3 v4 σ hT hE h0  hf; unfold f_X12_placeBehind_L10 at hf; cases hf
  | succ n ih =>
    intro v1 v2 v3 v4 σ hT hE h0  hf
    rw [f_X12_placeBehind_L10] at hf
    refine J_iload (q := 12) C0 4 rfl dX12_placeBehind_10 rfl ?_
    refine J_iload_n (q := 13) C0 2 rfl rfl dX12_placeBehind_12 rfl ?_
    refine J_icmp_ge (t := 39) (q := 16) C0 dX12_placeBehind_13 (by decide) rfl hf (fun c2 hf => ?_) (fun c2 hf => ?_)
    · refine J_iload_n (q := 40) C0 3 rfl rfl dX12_placeBehind_39 rfl ?_
      obtain rfl := Option.some.inj hf; exact J_iret C1 dX12_placeBehind_40 rfl (Nat.zero_le _) (Nat.zero_le _) ⟨rfl, rfl, hT, hE⟩
    · refine J_aload_n (q := 17) C0 0 rfl rfl dX12_placeBehind_16 rfl trivial ?_
      refine J_iload_n (q := 18) C0 1 rfl rfl dX12_placeBehind_17 rfl ?_
      refine J_iload_n (q := 19) C0 3 rfl rfl dX12_placeBehind_18 rfl ?_
      refine J_aload_n (q := 20) C0 0 rfl rfl dX12_placeBehind_19 rfl trivial ?_
      refine J_getR (q := 23) C0 fl_X12_52_11 rfl (h0) rfl dX12_placeBehind_20 rfl ?_
      refine J_bipush (q := 25) (v := 19) C0 dX12_placeBehind_23 rfl rfl ?_
      refine K_some hf (fun b3 hb3 hf => ?_)
      have ab3 : is_A σ b3 12 := ((sg_T.op hT (j := 24) (h0) rfl)) b3 hb3
      refine K_chk hf (fun c4 hf => ?_)
      refine J_iald (q := 26) C0 hb3 (ab3) c4 dX12_placeBehind_25 rfl ?_
      refine J_iload (q := 28) C0 4 rfl dX12_placeBehind_26 rfl ?_
      refine J_iadd (q := 29) C0 dX12_placeBehind_28 rfl ?_
      refine K_some hf (fun p5 hp5 hf => ?_)
      refine J_callV (q := 32) (ci := 11) (as := [vi (v1), vi (v3), vi ((sg_I σ b3 (19 : Int32).toNatClampNeg) + (v4))]) (rest := []) C0 rfl (h0) (t_X12_nextOf N a0 (v1) (v3) ((sg_I σ b3 (19 : Int32).toNatClampNeg) + (v4)) (hT) (h0)  hp5) ml_X12_nextOf lk_X12_298 im_X12_nextOf se_X12_nextOf rfl (by decide) dX12_placeBehind_29 rfl rfl rfl (by simp [ac_]) C1.room (by decide) (by decide) (by decide) (by decide) (fun r_ τ_ hQ => ?_)
      obtain ⟨rfl, rfl, Tp5, Ep5⟩ := hQ
      show J_ Γ 32 [(0, vr (some a0)), (1, vi (v1)), (2, vi (v2)), (3, vi (v3)), (4, vi (v4))] [vi (p5.1)] p5.2 0 0
      refine J_istore_n (q := 33) (lv' := [(3, vi (p5.1)), (0, vr (some a0)), (1, vi (v1)), (2, vi (v2)), (4, vi (v4))]) C0 rfl (G_nl C1 (by decide)) dX12_placeBehind_32 rfl rfl ?_
      refine J_iinc (q := 36) (v := v4 + 1) (lv' := [(4, vi (v4 + 1)), (3, vi (p5.1)), (0, vr (some a0)), (1, vi (v1)), (2, vi (v2))]) C0 4 rfl rfl (G_nl C1 (by decide)) dX12_placeBehind_33 rfl rfl ?_
      refine J_goto (q := 10) C0 dX12_placeBehind_36 (by decide) ?_
      refine J_sub (lv' := [(0, vr (some a0)), (1, vi (v1)), (2, vi (v2)), (3, vi (p5.1)), (4, vi (v4 + 1))]) [2, 3, 4, 1, 0] rfl ?_
      exact ih (v1) (v2) (p5.1) (v4 + 1) (p5.2) (Tp5) ((hE).tr Ep5) ((Ep5.at h0))  hf
set_option maxHeartbeats 4000000 in
set_option maxRecDepth 100000 in
theorem t_X12_placeBehind (N : Nat) (a0 : Nat) (x1 : Int32) (x2 : Int32) {σ : Sg} (hT : sg_T σ) (h0 : is_A σ a0 11) {r : (Int32 × Sg)} (hf : f_X12_placeBehind N a0 x1 x2 σ = some r) : Ct yX12_placeBehind cX12_placeBehind 5 (some .int) 7 162 0 0 [vr (some a0), vi x1, vi x2] σ (fun r_ τ_ => (r_ = some (vi r.1)) ∧ τ_ = r.2 ∧ sg_T τ_ ∧ sg_E σ τ_) := by
  refine Ct.of (by decide +kernel) (Nat.le_of_ble_eq_true rfl) (fun Γ C1 => ?_)
  have C0 := C1.1
  have hE : sg_E σ σ := sg_E.rf
  unfold f_X12_placeBehind at hf
  show J_ Γ 0 [(0, vr (some a0)), (1, vi (x1)), (2, vi (x2))] [] σ 0 0
  refine J_aload_n (q := 1) C0 0 rfl rfl dX12_placeBehind_0 rfl trivial ?_
  refine J_iload_n (q := 2) C0 1 rfl rfl dX12_placeBehind_1 rfl ?_
  refine J_iconst (q := 3) (v := 2) C0 dX12_placeBehind_2 rfl rfl ?_
  refine K_some hf (fun p1 hp1 hf => ?_)
  refine J_callV (q := 6) (ci := 11) (as := [vi (x1), vi (2)]) (rest := []) C0 rfl (h0) (t_X12_of a0 (x1) (2) (hT) (h0)  hp1) ml_X12_of lk_X12_254 im_X12_of se_X12_of rfl (by decide) dX12_placeBehind_3 rfl rfl rfl (by simp [ac_]) C1.room (by decide) (by decide) (by decide) (by decide) (fun r_ τ_ hQ => ?_)
  obtain ⟨rfl, ht_⟩ := hQ; have ht_ := ht_.symm; subst ht_
  show J_ Γ 6 [(0, vr (some a0)), (1, vi (x1)), (2, vi (x2))] [vi (p1)] σ 0 0
  refine J_istore_n (q := 7) (lv' := [(3, vi (p1)), (0, vr (some a0)), (1, vi (x1)), (2, vi (x2))]) C0 rfl (G_nl C1 (by decide)) dX12_placeBehind_6 rfl rfl ?_
  refine J_iconst (q := 8) (v := 0) C0 dX12_placeBehind_7 rfl rfl ?_
  refine J_istore (q := 10) (lv' := [(4, vi (0)), (3, vi (p1)), (0, vr (some a0)), (1, vi (x1)), (2, vi (x2))]) C0 (G_nl C1 (by decide)) dX12_placeBehind_8 rfl rfl ?_
  refine J_sub (lv' := [(0, vr (some a0)), (1, vi (x1)), (2, vi (x2)), (3, vi (p1)), (4, vi (0))]) [2, 3, 4, 1, 0] rfl ?_
  exact t_X12_placeBehind_L10 C1    N (x1) (x2) (p1) (0) σ (hT) (hE) (h0)  hf
def f_X12_putLog_B199 (N : Nat) (a0 : Nat) (s0 : Int32) (s1 : Int32) (s2 : Int32) (s3 : Int32) (s4 : Option Nat) (σ : Sg) : Option Sg :=
  Option.bind (f_J9_min_7cf53 (s2) ((s1) + (s0)) ) fun p12 =>
  Option.bind (s4) fun b13 =>
  if (s3) < 0 ∨ sg_L σ b13 ≤ (s3).toNatClampNeg then none else
  some (put_I σ b13 (s3).toNatClampNeg (p12))
def f_X12_putLog_B156 (N : Nat) (a0 : Nat) (k74 : Int32 → Int32 → Sg → Option Sg) (v2 : Int32) (s0 : Int32) (σ : Sg) : Option Sg :=
  k74 (s0) (v2 + 1) σ
def f_X12_putLog_B155 (N : Nat) (a0 : Nat) (k74 : Int32 → Int32 → Sg → Option Sg) (v2 : Int32) (σ : Sg) : Option Sg :=
  f_X12_putLog_B156 N a0 k74 (v2) (0) σ
def f_X12_putLog_B151 (N : Nat) (a0 : Nat) (k74 : Int32 → Int32 → Sg → Option Sg) (v2 : Int32) (σ : Sg) : Option Sg :=
  f_X12_putLog_B156 N a0 k74 (v2) (1) σ
def f_X12_putLog_B115 (N : Nat) (a0 : Nat) (k74 : Int32 → Int32 → Sg → Option Sg) (v1 : Int32) (v2 : Int32) (s0 : Int32) (s1 : Int32) (s2 : Option Nat) (σ : Sg) : Option Sg :=
  Option.bind (s2) fun b18 =>
  if (s1) < 0 ∨ sg_L σ b18 ≤ (s1).toNatClampNeg then none else
  if (v1) = (0) then
  (f_X12_putLog_B155 N a0 k74 (v2) (put_I σ b18 (s1).toNatClampNeg (s0)))
  else
  (if (v2) < (sg_I (put_I σ b18 (s1).toNatClampNeg (s0)) a0 20) then
  (Option.bind (f_X12_showsOf a0 (v2) (put_I σ b18 (s1).toNatClampNeg (s0))) fun p22 =>
  if (p22) = (26) then
  (f_X12_putLog_B155 N a0 k74 (v2) (put_I σ b18 (s1).toNatClampNeg (s0)))
  else
  (Option.bind (f_X12_showsOf a0 (v2) (put_I σ b18 (s1).toNatClampNeg (s0))) fun p24 =>
  Option.bind (f_X12_showsOf a0 (0) (put_I σ b18 (s1).toNatClampNeg (s0))) fun p25 =>
  if (p24) = (p25) then
  (f_X12_putLog_B151 N a0 k74 (v2) (put_I σ b18 (s1).toNatClampNeg (s0)))
  else
  (f_X12_putLog_B155 N a0 k74 (v2) (put_I σ b18 (s1).toNatClampNeg (s0)))))
  else
  (f_X12_putLog_B151 N a0 k74 (v2) (put_I σ b18 (s1).toNatClampNeg (s0))))
def f_X12_putLog_L74 (N : Nat) (a0 : Nat) : Nat → Int32 → Int32 → Sg → Option Sg
  | 0, _, _, _ => none
  | n + 1, v1, v2, σ =>
  if (v2) < (4) then
  (Option.bind (sg_R σ a0 24) fun b15 =>
  if (20 : Int32) < 0 ∨ sg_L σ b15 ≤ (20 : Int32).toNatClampNeg then none else
  if (v2) < (sg_I σ a0 20) then
  (Option.bind (f_X12_showsOf a0 (v2) σ) fun p27 =>
  f_X12_putLog_B115 N a0 (f_X12_putLog_L74 N a0 n) (v1) (v2) (p27) (((21) + ((4) * (sg_I σ b15 (20 : Int32).toNatClampNeg))) + (v2)) (sg_R σ a0 24) σ)
  else
  (f_X12_putLog_B115 N a0 (f_X12_putLog_L74 N a0 n) (v1) (v2) (26) (((21) + ((4) * (sg_I σ b15 (20 : Int32).toNatClampNeg))) + (v2)) (sg_R σ a0 24) σ))
  else
  (Option.bind (sg_R σ a0 24) fun b6 =>
  if (20 : Int32) < 0 ∨ sg_L σ b6 ≤ (20 : Int32).toNatClampNeg then none else
  if (20 : Int32) < 0 ∨ sg_L σ b6 ≤ (20 : Int32).toNatClampNeg then none else
  Option.bind (sg_R (put_I σ b6 (20 : Int32).toNatClampNeg ((sg_I σ b6 (20 : Int32).toNatClampNeg) + (1))) a0 24) fun b9 =>
  if (18 : Int32) < 0 ∨ sg_L (put_I σ b6 (20 : Int32).toNatClampNeg ((sg_I σ b6 (20 : Int32).toNatClampNeg) + (1))) b9 ≤ (18 : Int32).toNatClampNeg then none else
  if (v1) = (0) then
  (f_X12_putLog_B199 N a0 (0) (sg_I (put_I σ b6 (20 : Int32).toNatClampNeg ((sg_I σ b6 (20 : Int32).toNatClampNeg) + (1))) b9 (18 : Int32).toNatClampNeg) (999) (18) (sg_R (put_I σ b6 (20 : Int32).toNatClampNeg ((sg_I σ b6 (20 : Int32).toNatClampNeg) + (1))) a0 24) (put_I σ b6 (20 : Int32).toNatClampNeg ((sg_I σ b6 (20 : Int32).toNatClampNeg) + (1))))
  else
  (f_X12_putLog_B199 N a0 (1) (sg_I (put_I σ b6 (20 : Int32).toNatClampNeg ((sg_I σ b6 (20 : Int32).toNatClampNeg) + (1))) b9 (18 : Int32).toNatClampNeg) (999) (18) (sg_R (put_I σ b6 (20 : Int32).toNatClampNeg ((sg_I σ b6 (20 : Int32).toNatClampNeg) + (1))) a0 24) (put_I σ b6 (20 : Int32).toNatClampNeg ((sg_I σ b6 (20 : Int32).toNatClampNeg) + (1)))))
def f_X12_putLog_B71 (N : Nat) (a0 : Nat) (s0 : Int32) (σ : Sg) : Option Sg :=
  f_X12_putLog_L74 N a0 N (s0) (0) σ
def f_X12_putLog_B58 (N : Nat) (a0 : Nat) (σ : Sg) : Option Sg :=
  if (1) < (sg_I σ a0 20) then
  (f_X12_putLog_B71 N a0 (1) σ)
  else
  (f_X12_putLog_B71 N a0 (0) σ)
def f_X12_putLog_L14 (N : Nat) (a0 : Nat) : Nat → Int32 → Sg → Option Sg
  | 0, _, _ => none
  | n + 1, v1, σ =>
  if (v1) < (240) then
  (Option.bind (sg_R σ a0 24) fun b32 =>
  if ((21) + (v1)) < 0 ∨ sg_L σ b32 ≤ ((21) + (v1)).toNatClampNeg then none else
  if (((21) + (v1)) - (4)) < 0 ∨ sg_L σ b32 ≤ (((21) + (v1)) - (4)).toNatClampNeg then none else
  f_X12_putLog_L14 N a0 n (v1 + 1) (put_I σ b32 (((21) + (v1)) - (4)).toNatClampNeg (sg_I σ b32 ((21) + (v1)).toNatClampNeg)))
  else
  (Option.bind (sg_R σ a0 24) fun b29 =>
  if (20 : Int32) < 0 ∨ sg_L σ b29 ≤ (20 : Int32).toNatClampNeg then none else
  if (20 : Int32) < 0 ∨ sg_L σ b29 ≤ (20 : Int32).toNatClampNeg then none else
  f_X12_putLog_B58 N a0  (put_I σ b29 (20 : Int32).toNatClampNeg ((sg_I σ b29 (20 : Int32).toNatClampNeg) - (1))))
def f_X12_putLog (N : Nat) (a0 : Nat) (σ : Sg) : Option Sg :=
  Option.bind (sg_R σ a0 24) fun b1 =>
  if (20 : Int32) < 0 ∨ sg_L σ b1 ≤ (20 : Int32).toNatClampNeg then none else
  if (sg_I σ b1 (20 : Int32).toNatClampNeg) = (60) then
  (f_X12_putLog_L14 N a0 N (4) σ)
  else
  (f_X12_putLog_B58 N a0  σ)
set_option maxHeartbeats 4000000 in
set_option maxRecDepth 100000 in
theorem t_X12_putLog_B199 {N : Nat} {a0 : Nat} {Γ : Gm} {σ0 : Sg} {r : Sg} (C1 : CM Γ cX12_putLog RX12 3 none 2 43 0 0 (fun r_ τ_ => (r_ = none) ∧ τ_ = r ∧ sg_T τ_ ∧ sg_E σ0 τ_)) (s0 : Int32) (s1 : Int32) (s2 : Int32) (s3 : Int32) (s4 : Option Nat) (σ : Sg) (hT : sg_T σ) (hE : sg_E σ0 σ) (h0 : is_A σ a0 11) (g_s4 : is_O σ s4 12) (hf : f_X12_putLog_B199 N a0  s0 s1 s2 s3 s4 σ = some r) : J_ Γ 199 [(0, vr (some a0))] [vi (s0), vi (s1), vi (s2), vi (s3), vr (s4)] σ 0 0 := by
  have C0 := C1.1
  unfold f_X12_putLog_B199 at hf
  refine J_iadd (q := 200) C0 dX12_putLog_199 rfl ?_
  refine K_some hf (fun p12 hp12 hf => ?_)
  refine J_callS (q := 203) (as := [vi (s2), vi ((s1) + (s0))]) (rest := [vi (s3), vr (s4)]) C0 (t_J9_min_7cf53 (s2) ((s1) + (s0))  hp12) ml_J9_min_7cf53 lk_X12_288 sm_J9_min_7cf53 dX12_putLog_200 rfl rfl rfl (by simp [ac_]) C1.room (by decide) (by decide) (by decide) (by decide) (fun r_ τ_ hQ => ?_)
  obtain ⟨rfl, ht_⟩ := hQ; have ht_ := ht_.symm; subst ht_
  show J_ Γ 203 [(0, vr (some a0))] [vi (p12), vi (s3), vr (s4)] σ 0 0
  refine K_some hf (fun b13 hb13 hf => ?_)
  have ab13 : is_A σ b13 12 := (g_s4) b13 hb13
  refine K_chk hf (fun c14 hf => ?_)
  refine J_iast (q := 204) C0 hb13 (ab13) c14 dX12_putLog_203 rfl ?_
  obtain rfl := Option.some.inj hf; exact J_vret C1 dX12_putLog_204 rfl (Nat.zero_le _) (Nat.zero_le _) ⟨rfl, rfl, (hT).putI, (hE).putI⟩
set_option maxHeartbeats 4000000 in
set_option maxRecDepth 100000 in
theorem t_X12_putLog_B156 {N : Nat} {a0 : Nat} {Γ : Gm} {σ0 : Sg} {r : Sg} (C1 : CM Γ cX12_putLog RX12 3 none 2 43 0 0 (fun r_ τ_ => (r_ = none) ∧ τ_ = r ∧ sg_T τ_ ∧ sg_E σ0 τ_)) (k74 : Int32 → Int32 → Sg → Option Sg) (hk74 : ∀ (v1 : Int32) (v2 : Int32) (σ : Sg), sg_T σ → sg_E σ0 σ → is_A σ a0 11 → k74 v1 v2 σ = some r → J_ Γ 74 [(0, vr (some a0)), (1, vi v1), (2, vi v2)] [] σ 0 0) (v2 : Int32) (s0 : Int32) (σ : Sg) (hT : sg_T σ) (hE : sg_E σ0 σ) (h0 : is_A σ a0 11) (hf : f_X12_putLog_B156 N a0 k74  v2 s0 σ = some r) : J_ Γ 156 [(0, vr (some a0)), (2, vi (v2))] [vi (s0)] σ 0 0 := by
  have C0 := C1.1
  unfold f_X12_putLog_B156 at hf
  refine J_istore_n (q := 157) (lv' := [(1, vi (s0)), (0, vr (some a0)), (2, vi (v2))]) C0 rfl (G_nl C1 (by decide)) dX12_putLog_156 rfl rfl ?_
  refine J_iinc (q := 160) (v := v2 + 1) (lv' := [(2, vi (v2 + 1)), (1, vi (s0)), (0, vr (some a0))]) C0 2 rfl rfl (G_nl C1 (by decide)) dX12_putLog_157 rfl rfl ?_
  refine J_goto (q := 74) C0 dX12_putLog_160 (by decide) ?_
  refine J_sub (lv' := [(0, vr (some a0)), (1, vi (s0)), (2, vi (v2 + 1))]) [2, 1, 0] rfl ?_
  exact hk74 (s0) (v2 + 1) σ (hT) (hE)  (h0)  hf
set_option maxHeartbeats 4000000 in
set_option maxRecDepth 100000 in
theorem t_X12_putLog_B155 {N : Nat} {a0 : Nat} {Γ : Gm} {σ0 : Sg} {r : Sg} (C1 : CM Γ cX12_putLog RX12 3 none 2 43 0 0 (fun r_ τ_ => (r_ = none) ∧ τ_ = r ∧ sg_T τ_ ∧ sg_E σ0 τ_)) (k74 : Int32 → Int32 → Sg → Option Sg) (hk74 : ∀ (v1 : Int32) (v2 : Int32) (σ : Sg), sg_T σ → sg_E σ0 σ → is_A σ a0 11 → k74 v1 v2 σ = some r → J_ Γ 74 [(0, vr (some a0)), (1, vi v1), (2, vi v2)] [] σ 0 0) (v2 : Int32) (σ : Sg) (hT : sg_T σ) (hE : sg_E σ0 σ) (h0 : is_A σ a0 11) (hf : f_X12_putLog_B155 N a0 k74  v2 σ = some r) : J_ Γ 155 [(0, vr (some a0)), (2, vi (v2))] [] σ 0 0 := by
  have C0 := C1.1
  unfold f_X12_putLog_B155 at hf
  refine J_iconst (q := 156) (v := 0) C0 dX12_putLog_155 rfl rfl ?_
  exact t_X12_putLog_B156 C1  k74  hk74  (v2) (0) σ (hT) (hE) (h0)  hf
set_option maxHeartbeats 4000000 in
set_option maxRecDepth 100000 in
theorem t_X12_putLog_B151 {N : Nat} {a0 : Nat} {Γ : Gm} {σ0 : Sg} {r : Sg} (C1 : CM Γ cX12_putLog RX12 3 none 2 43 0 0 (fun r_ τ_ => (r_ = none) ∧ τ_ = r ∧ sg_T τ_ ∧ sg_E σ0 τ_)) (k74 : Int32 → Int32 → Sg → Option Sg) (hk74 : ∀ (v1 : Int32) (v2 : Int32) (σ : Sg), sg_T σ → sg_E σ0 σ → is_A σ a0 11 → k74 v1 v2 σ = some r → J_ Γ 74 [(0, vr (some a0)), (1, vi v1), (2, vi v2)] [] σ 0 0) (v2 : Int32) (σ : Sg) (hT : sg_T σ) (hE : sg_E σ0 σ) (h0 : is_A σ a0 11) (hf : f_X12_putLog_B151 N a0 k74  v2 σ = some r) : J_ Γ 151 [(0, vr (some a0)), (2, vi (v2))] [] σ 0 0 := by
  have C0 := C1.1
  unfold f_X12_putLog_B151 at hf
  refine J_iconst (q := 152) (v := 1) C0 dX12_putLog_151 rfl rfl ?_
  refine J_goto (q := 156) C0 dX12_putLog_152 (by decide) ?_
  exact t_X12_putLog_B156 C1  k74  hk74  (v2) (1) σ (hT) (hE) (h0)  hf
set_option maxHeartbeats 4000000 in
set_option maxRecDepth 100000 in
theorem t_X12_putLog_B115 {N : Nat} {a0 : Nat} {Γ : Gm} {σ0 : Sg} {r : Sg} (C1 : CM Γ cX12_putLog RX12 3 none 2 43 0 0 (fun r_ τ_ => (r_ = none) ∧ τ_ = r ∧ sg_T τ_ ∧ sg_E σ0 τ_)) (k74 : Int32 → Int32 → Sg → Option Sg) (hk74 : ∀ (v1 : Int32) (v2 : Int32) (σ : Sg), sg_T σ → sg_E σ0 σ → is_A σ a0 11 → k74 v1 v2 σ = some r → J_ Γ 74 [(0, vr (some a0)), (1, vi v1), (2, vi v2)] [] σ 0 0) (v1 : Int32) (v2 : Int32) (s0 : Int32) (s1 : Int32) (s2 : Option Nat) (σ : Sg) (hT : sg_T σ) (hE : sg_E σ0 σ) (h0 : is_A σ a0 11) (g_s2 : is_O σ s2 12) (hf : f_X12_putLog_B115 N a0 k74  v1 v2 s0 s1 s2 σ = some r) : J_ Γ 115 [(0, vr (some a0)), (1, vi (v1)), (2, vi (v2))] [vi (s0), vi (s1), vr (s2)] σ 0 0 := by
  have C0 := C1.1
  unfold f_X12_putLog_B115 at hf
  refine K_some hf (fun b18 hb18 hf => ?_)
  have ab18 : is_A σ b18 12 := (g_s2) b18 hb18
  refine K_chk hf (fun c19 hf => ?_)
  refine J_iast (q := 116) C0 hb18 (ab18) c19 dX12_putLog_115 rfl ?_
  refine J_iload_n (q := 117) C0 1 rfl rfl dX12_putLog_116 rfl ?_
  refine J_if_eq (t := 155) (q := 120) C0 dX12_putLog_117 (by decide) rfl hf (fun c20 hf => ?_) (fun c20 hf => ?_)
  · refine J_sub (lv' := [(0, vr (some a0)), (2, vi (v2))]) [0, 2] rfl ?_
    exact t_X12_putLog_B155 C1  k74  hk74  (v2) (put_I σ b18 (s1).toNatClampNeg (s0)) ((hT).putI) ((hE).putI) ((h0).putI)  hf
  · refine J_iload_n (q := 121) C0 2 rfl rfl dX12_putLog_120 rfl ?_
    refine J_aload_n (q := 122) C0 0 rfl rfl dX12_putLog_121 rfl trivial ?_
    refine J_getI (q := 125) C0 fl_X12_263_11 rfl ((h0).putI) rfl dX12_putLog_122 rfl ?_
    refine J_icmp_ge (t := 151) (q := 128) C0 dX12_putLog_125 (by decide) rfl hf (fun c21 hf => ?_) (fun c21 hf => ?_)
    · refine J_sub (lv' := [(0, vr (some a0)), (2, vi (v2))]) [0, 2] rfl ?_
      exact t_X12_putLog_B151 C1  k74  hk74  (v2) (put_I σ b18 (s1).toNatClampNeg (s0)) ((hT).putI) ((hE).putI) ((h0).putI)  hf
    · refine J_aload_n (q := 129) C0 0 rfl rfl dX12_putLog_128 rfl trivial ?_
      refine J_iload_n (q := 130) C0 2 rfl rfl dX12_putLog_129 rfl ?_
      refine K_some hf (fun p22 hp22 hf => ?_)
      refine J_callV (q := 133) (ci := 11) (as := [vi (v2)]) (rest := []) C0 rfl ((h0).putI) (t_X12_showsOf a0 (v2) ((hT).putI) ((h0).putI)  hp22) ml_X12_showsOf lk_X12_304 im_X12_showsOf se_X12_showsOf rfl (by decide) dX12_putLog_130 rfl rfl rfl (by simp [ac_]) C1.room (by decide) (by decide) (by decide) (by decide) (fun r_ τ_ hQ => ?_)
      obtain ⟨rfl, ht_⟩ := hQ; have ht_ := ht_.symm; subst ht_
      show J_ Γ 133 [(0, vr (some a0)), (1, vi (v1)), (2, vi (v2))] [vi (p22)] (put_I σ b18 (s1).toNatClampNeg (s0)) 0 0
      refine J_bipush (q := 135) (v := 26) C0 dX12_putLog_133 rfl rfl ?_
      refine J_icmp_eq (t := 155) (q := 138) C0 dX12_putLog_135 (by decide) rfl hf (fun c23 hf => ?_) (fun c23 hf => ?_)
      · refine J_sub (lv' := [(0, vr (some a0)), (2, vi (v2))]) [0, 2] rfl ?_
        exact t_X12_putLog_B155 C1  k74  hk74  (v2) (put_I σ b18 (s1).toNatClampNeg (s0)) ((hT).putI) ((hE).putI) ((h0).putI)  hf
      · refine J_aload_n (q := 139) C0 0 rfl rfl dX12_putLog_138 rfl trivial ?_
        refine J_iload_n (q := 140) C0 2 rfl rfl dX12_putLog_139 rfl ?_
        refine K_some hf (fun p24 hp24 hf => ?_)
        refine J_callV (q := 143) (ci := 11) (as := [vi (v2)]) (rest := []) C0 rfl ((h0).putI) (t_X12_showsOf a0 (v2) ((hT).putI) ((h0).putI)  hp24) ml_X12_showsOf lk_X12_304 im_X12_showsOf se_X12_showsOf rfl (by decide) dX12_putLog_140 rfl rfl rfl (by simp [ac_]) C1.room (by decide) (by decide) (by decide) (by decide) (fun r_ τ_ hQ => ?_)
        obtain ⟨rfl, ht_⟩ := hQ; have ht_ := ht_.symm; subst ht_
        show J_ Γ 143 [(0, vr (some a0)), (1, vi (v1)), (2, vi (v2))] [vi (p24)] (put_I σ b18 (s1).toNatClampNeg (s0)) 0 0
        refine J_aload_n (q := 144) C0 0 rfl rfl dX12_putLog_143 rfl trivial ?_
        refine J_iconst (q := 145) (v := 0) C0 dX12_putLog_144 rfl rfl ?_
        refine K_some hf (fun p25 hp25 hf => ?_)
        refine J_callV (q := 148) (ci := 11) (as := [vi (0)]) (rest := [vi (p24)]) C0 rfl ((h0).putI) (t_X12_showsOf a0 (0) ((hT).putI) ((h0).putI)  hp25) ml_X12_showsOf lk_X12_304 im_X12_showsOf se_X12_showsOf rfl (by decide) dX12_putLog_145 rfl rfl rfl (by simp [ac_]) C1.room (by decide) (by decide) (by decide) (by decide) (fun r_ τ_ hQ => ?_)
        obtain ⟨rfl, ht_⟩ := hQ; have ht_ := ht_.symm; subst ht_
        show J_ Γ 148 [(0, vr (some a0)), (1, vi (v1)), (2, vi (v2))] [vi (p25), vi (p24)] (put_I σ b18 (s1).toNatClampNeg (s0)) 0 0
        refine J_icmp_ne (t := 155) (q := 151) C0 dX12_putLog_148 (by decide) rfl hf (fun c26 hf => ?_) (fun c26 hf => ?_)
        · refine J_sub (lv' := [(0, vr (some a0)), (2, vi (v2))]) [0, 2] rfl ?_
          exact t_X12_putLog_B155 C1  k74  hk74  (v2) (put_I σ b18 (s1).toNatClampNeg (s0)) ((hT).putI) ((hE).putI) ((h0).putI)  hf
        · refine J_sub (lv' := [(0, vr (some a0)), (2, vi (v2))]) [0, 2] rfl ?_
          exact t_X12_putLog_B151 C1  k74  hk74  (v2) (put_I σ b18 (s1).toNatClampNeg (s0)) ((hT).putI) ((hE).putI) ((h0).putI)  hf
set_option maxHeartbeats 4000000 in
set_option maxRecDepth 100000 in
theorem t_X12_putLog_L74 {N : Nat} {a0 : Nat} {Γ : Gm} {σ0 : Sg} {r : Sg} (C1 : CM Γ cX12_putLog RX12 3 none 2 43 0 0 (fun r_ τ_ => (r_ = none) ∧ τ_ = r ∧ sg_T τ_ ∧ sg_E σ0 τ_)) : ∀ (n : Nat) (v1 : Int32) (v2 : Int32) (σ : Sg), sg_T σ → sg_E σ0 σ → is_A σ a0 11 → f_X12_putLog_L74 N a0  n v1 v2 σ = some r → J_ Γ 74 [(0, vr (some a0)), (1, vi (v1)), (2, vi (v2))] [] σ 0 0 := by
  have C0 := C1.1
  intro n
  induction n with
  | zero => intro v1 v2 σ hT hE h0  hf; unfold f_X12_putLog_L74 at hf; cases hf
  | succ n ih =>
    intro v1 v2 σ hT hE h0  hf
    rw [f_X12_putLog_L74] at hf
    refine J_iload_n (q := 75) C0 2 rfl rfl dX12_putLog_74 rfl ?_
    refine J_iconst (q := 76) (v := 4) C0 dX12_putLog_75 rfl rfl ?_
    refine J_icmp_ge (t := 163) (q := 79) C0 dX12_putLog_76 (by decide) rfl hf (fun c5 hf => ?_) (fun c5 hf => ?_)
    · refine J_aload_n (q := 164) C0 0 rfl rfl dX12_putLog_163 rfl trivial ?_
      refine J_getR (q := 167) C0 fl_X12_52_11 rfl (h0) rfl dX12_putLog_164 rfl ?_
      refine J_bipush (q := 169) (v := 20) C0 dX12_putLog_167 rfl rfl ?_
      refine J_dup2 (q := 170) C0 dX12_putLog_169 rfl rfl rfl ?_
      refine K_some hf (fun b6 hb6 hf => ?_)
      have ab6 : is_A σ b6 12 := ((sg_T.op hT (j := 24) (h0) rfl)) b6 hb6
      refine K_chk hf (fun c7 hf => ?_)
      refine J_iald (q := 171) C0 hb6 (ab6) c7 dX12_putLog_170 rfl ?_
      refine J_iconst (q := 172) (v := 1) C0 dX12_putLog_171 rfl rfl ?_
      refine J_iadd (q := 173) C0 dX12_putLog_172 rfl ?_
      refine K_chk hf (fun c8 hf => ?_)
      refine J_iast (q := 174) C0 hb6 (ab6) c8 dX12_putLog_173 rfl ?_
      refine J_aload_n (q := 175) C0 0 rfl rfl dX12_putLog_174 rfl trivial ?_
      refine J_getR (q := 178) C0 fl_X12_52_11 rfl ((h0).putI) rfl dX12_putLog_175 rfl ?_
      refine J_bipush (q := 180) (v := 18) C0 dX12_putLog_178 rfl rfl ?_
      refine J_sipush (q := 183) (v := 999) C0 dX12_putLog_180 rfl rfl ?_
      refine J_aload_n (q := 184) C0 0 rfl rfl dX12_putLog_183 rfl trivial ?_
      refine J_getR (q := 187) C0 fl_X12_52_11 rfl ((h0).putI) rfl dX12_putLog_184 rfl ?_
      refine J_bipush (q := 189) (v := 18) C0 dX12_putLog_187 rfl rfl ?_
      refine K_some hf (fun b9 hb9 hf => ?_)
      have ab9 : is_A (put_I σ b6 (20 : Int32).toNatClampNeg ((sg_I σ b6 (20 : Int32).toNatClampNeg) + (1))) b9 12 := ((sg_T.op (hT).putI (j := 24) ((h0).putI) rfl)) b9 hb9
      refine K_chk hf (fun c10 hf => ?_)
      refine J_iald (q := 190) C0 hb9 (ab9) c10 dX12_putLog_189 rfl ?_
      refine J_iload_n (q := 191) C0 1 rfl rfl dX12_putLog_190 rfl ?_
      refine J_if_eq (t := 198) (q := 194) C0 dX12_putLog_191 (by decide) rfl hf (fun c11 hf => ?_) (fun c11 hf => ?_)
      · refine J_iconst (q := 199) (v := 0) C0 dX12_putLog_198 rfl rfl ?_
        refine J_sub (lv' := [(0, vr (some a0))]) [0] rfl ?_
        exact t_X12_putLog_B199 C1    (0) (sg_I (put_I σ b6 (20 : Int32).toNatClampNeg ((sg_I σ b6 (20 : Int32).toNatClampNeg) + (1))) b9 (18 : Int32).toNatClampNeg) (999) (18) (sg_R (put_I σ b6 (20 : Int32).toNatClampNeg ((sg_I σ b6 (20 : Int32).toNatClampNeg) + (1))) a0 24) (put_I σ b6 (20 : Int32).toNatClampNeg ((sg_I σ b6 (20 : Int32).toNatClampNeg) + (1))) ((hT).putI) ((hE).putI) ((h0).putI) ((by rw [hb9]; exact is_O.some (ab9))) hf
      · refine J_iconst (q := 195) (v := 1) C0 dX12_putLog_194 rfl rfl ?_
        refine J_goto (q := 199) C0 dX12_putLog_195 (by decide) ?_
        refine J_sub (lv' := [(0, vr (some a0))]) [0] rfl ?_
        exact t_X12_putLog_B199 C1    (1) (sg_I (put_I σ b6 (20 : Int32).toNatClampNeg ((sg_I σ b6 (20 : Int32).toNatClampNeg) + (1))) b9 (18 : Int32).toNatClampNeg) (999) (18) (sg_R (put_I σ b6 (20 : Int32).toNatClampNeg ((sg_I σ b6 (20 : Int32).toNatClampNeg) + (1))) a0 24) (put_I σ b6 (20 : Int32).toNatClampNeg ((sg_I σ b6 (20 : Int32).toNatClampNeg) + (1))) ((hT).putI) ((hE).putI) ((h0).putI) ((by rw [hb9]; exact is_O.some (ab9))) hf
    · refine J_aload_n (q := 80) C0 0 rfl rfl dX12_putLog_79 rfl trivial ?_
      refine J_getR (q := 83) C0 fl_X12_52_11 rfl (h0) rfl dX12_putLog_80 rfl ?_
      refine J_bipush (q := 85) (v := 21) C0 dX12_putLog_83 rfl rfl ?_
      refine J_iconst (q := 86) (v := 4) C0 dX12_putLog_85 rfl rfl ?_
      refine J_aload_n (q := 87) C0 0 rfl rfl dX12_putLog_86 rfl trivial ?_
      refine J_getR (q := 90) C0 fl_X12_52_11 rfl (h0) rfl dX12_putLog_87 rfl ?_
      refine J_bipush (q := 92) (v := 20) C0 dX12_putLog_90 rfl rfl ?_
      refine K_some hf (fun b15 hb15 hf => ?_)
      have ab15 : is_A σ b15 12 := ((sg_T.op hT (j := 24) (h0) rfl)) b15 hb15
      refine K_chk hf (fun c16 hf => ?_)
      refine J_iald (q := 93) C0 hb15 (ab15) c16 dX12_putLog_92 rfl ?_
      refine J_imul (q := 94) C0 dX12_putLog_93 rfl ?_
      refine J_iadd (q := 95) C0 dX12_putLog_94 rfl ?_
      refine J_iload_n (q := 96) C0 2 rfl rfl dX12_putLog_95 rfl ?_
      refine J_iadd (q := 97) C0 dX12_putLog_96 rfl ?_
      refine J_iload_n (q := 98) C0 2 rfl rfl dX12_putLog_97 rfl ?_
      refine J_aload_n (q := 99) C0 0 rfl rfl dX12_putLog_98 rfl trivial ?_
      refine J_getI (q := 102) C0 fl_X12_263_11 rfl (h0) rfl dX12_putLog_99 rfl ?_
      refine J_icmp_ge (t := 113) (q := 105) C0 dX12_putLog_102 (by decide) rfl hf (fun c17 hf => ?_) (fun c17 hf => ?_)
      · refine J_bipush (q := 115) (v := 26) C0 dX12_putLog_113 rfl rfl ?_
        exact t_X12_putLog_B115 C1  (f_X12_putLog_L74 N a0 n)  ih  (v1) (v2) (26) (((21) + ((4) * (sg_I σ b15 (20 : Int32).toNatClampNeg))) + (v2)) (sg_R σ a0 24) σ (hT) (hE) (h0) ((by rw [hb15]; exact is_O.some (ab15))) hf
      · refine J_aload_n (q := 106) C0 0 rfl rfl dX12_putLog_105 rfl trivial ?_
        refine J_iload_n (q := 107) C0 2 rfl rfl dX12_putLog_106 rfl ?_
        refine K_some hf (fun p27 hp27 hf => ?_)
        refine J_callV (q := 110) (ci := 11) (as := [vi (v2)]) (rest := [vi (((21) + ((4) * (sg_I σ b15 (20 : Int32).toNatClampNeg))) + (v2)), vr (sg_R σ a0 24)]) C0 rfl (h0) (t_X12_showsOf a0 (v2) (hT) (h0)  hp27) ml_X12_showsOf lk_X12_304 im_X12_showsOf se_X12_showsOf rfl (by decide) dX12_putLog_107 rfl rfl rfl (by simp [ac_]) C1.room (by decide) (by decide) (by decide) (by decide) (fun r_ τ_ hQ => ?_)
        obtain ⟨rfl, ht_⟩ := hQ; have ht_ := ht_.symm; subst ht_
        show J_ Γ 110 [(0, vr (some a0)), (1, vi (v1)), (2, vi (v2))] [vi (p27), vi (((21) + ((4) * (sg_I σ b15 (20 : Int32).toNatClampNeg))) + (v2)), vr (sg_R σ a0 24)] σ 0 0
        refine J_goto (q := 115) C0 dX12_putLog_110 (by decide) ?_
        exact t_X12_putLog_B115 C1  (f_X12_putLog_L74 N a0 n)  ih  (v1) (v2) (p27) (((21) + ((4) * (sg_I σ b15 (20 : Int32).toNatClampNeg))) + (v2)) (sg_R σ a0 24) σ (hT) (hE) (h0) ((by rw [hb15]; exact is_O.some (ab15))) hf
set_option maxHeartbeats 4000000 in
set_option maxRecDepth 100000 in
theorem t_X12_putLog_B71 {N : Nat} {a0 : Nat} {Γ : Gm} {σ0 : Sg} {r : Sg} (C1 : CM Γ cX12_putLog RX12 3 none 2 43 0 0 (fun r_ τ_ => (r_ = none) ∧ τ_ = r ∧ sg_T τ_ ∧ sg_E σ0 τ_)) (s0 : Int32) (σ : Sg) (hT : sg_T σ) (hE : sg_E σ0 σ) (h0 : is_A σ a0 11) (hf : f_X12_putLog_B71 N a0  s0 σ = some r) : J_ Γ 71 [(0, vr (some a0))] [vi (s0)] σ 0 0 := by
  have C0 := C1.1
  unfold f_X12_putLog_B71 at hf
  refine J_istore_n (q := 72) (lv' := [(1, vi (s0)), (0, vr (some a0))]) C0 rfl (G_nl C1 (by decide)) dX12_putLog_71 rfl rfl ?_
  refine J_iconst (q := 73) (v := 0) C0 dX12_putLog_72 rfl rfl ?_
  refine J_istore_n (q := 74) (lv' := [(2, vi (0)), (1, vi (s0)), (0, vr (some a0))]) C0 rfl (G_nl C1 (by decide)) dX12_putLog_73 rfl rfl ?_
  refine J_sub (lv' := [(0, vr (some a0)), (1, vi (s0)), (2, vi (0))]) [2, 1, 0] rfl ?_
  exact t_X12_putLog_L74 C1    N (s0) (0) σ (hT) (hE) (h0)  hf
set_option maxHeartbeats 4000000 in
set_option maxRecDepth 100000 in
theorem t_X12_putLog_B58 {N : Nat} {a0 : Nat} {Γ : Gm} {σ0 : Sg} {r : Sg} (C1 : CM Γ cX12_putLog RX12 3 none 2 43 0 0 (fun r_ τ_ => (r_ = none) ∧ τ_ = r ∧ sg_T τ_ ∧ sg_E σ0 τ_)) (σ : Sg) (hT : sg_T σ) (hE : sg_E σ0 σ) (h0 : is_A σ a0 11) (hf : f_X12_putLog_B58 N a0   σ = some r) : J_ Γ 58 [(0, vr (some a0))] [] σ 0 0 := by
  have C0 := C1.1
  unfold f_X12_putLog_B58 at hf
  refine J_aload_n (q := 59) C0 0 rfl rfl dX12_putLog_58 rfl trivial ?_
  refine J_getI (q := 62) C0 fl_X12_263_11 rfl (h0) rfl dX12_putLog_59 rfl ?_
  refine J_iconst (q := 63) (v := 1) C0 dX12_putLog_62 rfl rfl ?_
  refine J_icmp_le (t := 70) (q := 66) C0 dX12_putLog_63 (by decide) rfl hf (fun c4 hf => ?_) (fun c4 hf => ?_)
  · refine J_iconst (q := 71) (v := 0) C0 dX12_putLog_70 rfl rfl ?_
    exact t_X12_putLog_B71 C1    (0) σ (hT) (hE) (h0)  hf
  · refine J_iconst (q := 67) (v := 1) C0 dX12_putLog_66 rfl rfl ?_
    refine J_goto (q := 71) C0 dX12_putLog_67 (by decide) ?_
    exact t_X12_putLog_B71 C1    (1) σ (hT) (hE) (h0)  hf
set_option maxHeartbeats 4000000 in
set_option maxRecDepth 100000 in
theorem t_X12_putLog_L14 {N : Nat} {a0 : Nat} {Γ : Gm} {σ0 : Sg} {r : Sg} (C1 : CM Γ cX12_putLog RX12 3 none 2 43 0 0 (fun r_ τ_ => (r_ = none) ∧ τ_ = r ∧ sg_T τ_ ∧ sg_E σ0 τ_)) : ∀ (n : Nat) (v1 : Int32) (σ : Sg), sg_T σ → sg_E σ0 σ → is_A σ a0 11 → f_X12_putLog_L14 N a0  n v1 σ = some r → J_ Γ 14 [(0, vr (some a0)), (1, vi (v1))] [] σ 0 0 := by
  have C0 := C1.1
  intro n
  induction n with
  | zero => intro v1 σ hT hE h0  hf; unfold f_X12_putLog_L14 at hf; cases hf
  | succ n ih =>
    intro v1 σ hT hE h0  hf
    rw [f_X12_putLog_L14] at hf
    refine J_iload_n (q := 15) C0 1 rfl rfl dX12_putLog_14 rfl ?_
    refine J_sipush (q := 18) (v := 240) C0 dX12_putLog_15 rfl rfl ?_
    refine J_icmp_ge (t := 47) (q := 21) C0 dX12_putLog_18 (by decide) rfl hf (fun c28 hf => ?_) (fun c28 hf => ?_)
    · refine J_aload_n (q := 48) C0 0 rfl rfl dX12_putLog_47 rfl trivial ?_
      refine J_getR (q := 51) C0 fl_X12_52_11 rfl (h0) rfl dX12_putLog_48 rfl ?_
      refine J_bipush (q := 53) (v := 20) C0 dX12_putLog_51 rfl rfl ?_
      refine J_dup2 (q := 54) C0 dX12_putLog_53 rfl rfl rfl ?_
      refine K_some hf (fun b29 hb29 hf => ?_)
      have ab29 : is_A σ b29 12 := ((sg_T.op hT (j := 24) (h0) rfl)) b29 hb29
      refine K_chk hf (fun c30 hf => ?_)
      refine J_iald (q := 55) C0 hb29 (ab29) c30 dX12_putLog_54 rfl ?_
      refine J_iconst (q := 56) (v := 1) C0 dX12_putLog_55 rfl rfl ?_
      refine J_isub (q := 57) C0 dX12_putLog_56 rfl ?_
      refine K_chk hf (fun c31 hf => ?_)
      refine J_iast (q := 58) C0 hb29 (ab29) c31 dX12_putLog_57 rfl ?_
      refine J_sub (lv' := [(0, vr (some a0))]) [0] rfl ?_
      exact t_X12_putLog_B58 C1     (put_I σ b29 (20 : Int32).toNatClampNeg ((sg_I σ b29 (20 : Int32).toNatClampNeg) - (1))) ((hT).putI) ((hE).putI) ((h0).putI)  hf
    · refine J_aload_n (q := 22) C0 0 rfl rfl dX12_putLog_21 rfl trivial ?_
      refine J_getR (q := 25) C0 fl_X12_52_11 rfl (h0) rfl dX12_putLog_22 rfl ?_
      refine J_bipush (q := 27) (v := 21) C0 dX12_putLog_25 rfl rfl ?_
      refine J_iload_n (q := 28) C0 1 rfl rfl dX12_putLog_27 rfl ?_
      refine J_iadd (q := 29) C0 dX12_putLog_28 rfl ?_
      refine J_iconst (q := 30) (v := 4) C0 dX12_putLog_29 rfl rfl ?_
      refine J_isub (q := 31) C0 dX12_putLog_30 rfl ?_
      refine J_aload_n (q := 32) C0 0 rfl rfl dX12_putLog_31 rfl trivial ?_
      refine J_getR (q := 35) C0 fl_X12_52_11 rfl (h0) rfl dX12_putLog_32 rfl ?_
      refine J_bipush (q := 37) (v := 21) C0 dX12_putLog_35 rfl rfl ?_
      refine J_iload_n (q := 38) C0 1 rfl rfl dX12_putLog_37 rfl ?_
      refine J_iadd (q := 39) C0 dX12_putLog_38 rfl ?_
      refine K_some hf (fun b32 hb32 hf => ?_)
      have ab32 : is_A σ b32 12 := ((sg_T.op hT (j := 24) (h0) rfl)) b32 hb32
      refine K_chk hf (fun c33 hf => ?_)
      refine J_iald (q := 40) C0 hb32 (ab32) c33 dX12_putLog_39 rfl ?_
      refine K_chk hf (fun c34 hf => ?_)
      refine J_iast (q := 41) C0 hb32 (ab32) c34 dX12_putLog_40 rfl ?_
      refine J_iinc (q := 44) (v := v1 + 1) (lv' := [(1, vi (v1 + 1)), (0, vr (some a0))]) C0 1 rfl rfl (G_nl C1 (by decide)) dX12_putLog_41 rfl rfl ?_
      refine J_goto (q := 14) C0 dX12_putLog_44 (by decide) ?_
      refine J_sub (lv' := [(0, vr (some a0)), (1, vi (v1 + 1))]) [1, 0] rfl ?_
      exact ih (v1 + 1) (put_I σ b32 (((21) + (v1)) - (4)).toNatClampNeg (sg_I σ b32 ((21) + (v1)).toNatClampNeg)) ((hT).putI) ((hE).putI) ((h0).putI)  hf
set_option maxHeartbeats 4000000 in
set_option maxRecDepth 100000 in
theorem t_X12_putLog (N : Nat) (a0 : Nat) {σ : Sg} (hT : sg_T σ) (h0 : is_A σ a0 11) {r : Sg} (hf : f_X12_putLog N a0  σ = some r) : Ct yX12_putLog cX12_putLog 3 none 2 43 0 0 [vr (some a0)] σ (fun r_ τ_ => (r_ = none) ∧ τ_ = r ∧ sg_T τ_ ∧ sg_E σ τ_) := by
  refine Ct.of (by decide +kernel) (Nat.le_of_ble_eq_true rfl) (fun Γ C1 => ?_)
  have C0 := C1.1
  have hE : sg_E σ σ := sg_E.rf
  unfold f_X12_putLog at hf
  show J_ Γ 0 [(0, vr (some a0))] [] σ 0 0
  refine J_aload_n (q := 1) C0 0 rfl rfl dX12_putLog_0 rfl trivial ?_
  refine J_getR (q := 4) C0 fl_X12_52_11 rfl (h0) rfl dX12_putLog_1 rfl ?_
  refine J_bipush (q := 6) (v := 20) C0 dX12_putLog_4 rfl rfl ?_
  refine K_some hf (fun b1 hb1 hf => ?_)
  have ab1 : is_A σ b1 12 := ((sg_T.op hT (j := 24) (h0) rfl)) b1 hb1
  refine K_chk hf (fun c2 hf => ?_)
  refine J_iald (q := 7) C0 hb1 (ab1) c2 dX12_putLog_6 rfl ?_
  refine J_bipush (q := 9) (v := 60) C0 dX12_putLog_7 rfl rfl ?_
  refine J_icmp_ne (t := 58) (q := 12) C0 dX12_putLog_9 (by decide) rfl hf (fun c3 hf => ?_) (fun c3 hf => ?_)
  · exact t_X12_putLog_B58 C1     σ (hT) (hE) (h0)  hf
  · refine J_iconst (q := 13) (v := 4) C0 dX12_putLog_12 rfl rfl ?_
    refine J_istore_n (q := 14) (lv' := [(1, vi (4)), (0, vr (some a0))]) C0 rfl (G_nl C1 (by decide)) dX12_putLog_13 rfl rfl ?_
    refine J_sub (lv' := [(0, vr (some a0)), (1, vi (4))]) [1, 0] rfl ?_
    exact t_X12_putLog_L14 C1    N (4) σ (hT) (hE) (h0)  hf
def f_X12_passTick_B65 (N : Nat) (a0 : Nat) (σ : Sg) : Option Sg :=
  Option.bind (sg_R σ a0 24) fun b4 =>
  if (19 : Int32) < 0 ∨ sg_L σ b4 ≤ (19 : Int32).toNatClampNeg then none else
  if (19 : Int32) < 0 ∨ sg_L σ b4 ≤ (19 : Int32).toNatClampNeg then none else
  Option.bind (sg_R (put_I σ b4 (19 : Int32).toNatClampNeg ((sg_I σ b4 (19 : Int32).toNatClampNeg) + (1))) a0 24) fun b7 =>
  if (19 : Int32) < 0 ∨ sg_L (put_I σ b4 (19 : Int32).toNatClampNeg ((sg_I σ b4 (19 : Int32).toNatClampNeg) + (1))) b7 ≤ (19 : Int32).toNatClampNeg then none else
  if (16 : Int32) < 0 ∨ sg_L (put_I σ b4 (19 : Int32).toNatClampNeg ((sg_I σ b4 (19 : Int32).toNatClampNeg) + (1))) b7 ≤ (16 : Int32).toNatClampNeg then none else
  if (sg_I (put_I σ b4 (19 : Int32).toNatClampNeg ((sg_I σ b4 (19 : Int32).toNatClampNeg) + (1))) b7 (16 : Int32).toNatClampNeg) = 0 then none else
  if (rm_ (sg_I (put_I σ b4 (19 : Int32).toNatClampNeg ((sg_I σ b4 (19 : Int32).toNatClampNeg) + (1))) b7 (19 : Int32).toNatClampNeg) (sg_I (put_I σ b4 (19 : Int32).toNatClampNeg ((sg_I σ b4 (19 : Int32).toNatClampNeg) + (1))) b7 (16 : Int32).toNatClampNeg)) = (0) then
  (Option.bind (f_X12_putLog N a0  (put_I σ b4 (19 : Int32).toNatClampNeg ((sg_I σ b4 (19 : Int32).toNatClampNeg) + (1)))) fun p12 =>
  some (p12))
  else
  (some (put_I σ b4 (19 : Int32).toNatClampNeg ((sg_I σ b4 (19 : Int32).toNatClampNeg) + (1))))
def f_X12_passTick_L23 (N : Nat) (a0 : Nat) : Nat → Int32 → Sg → Option Sg
  | 0, _, _ => none
  | n + 1, v1, σ =>
  if (v1) < (sg_I σ a0 20) then
  (Option.bind (f_X12_of a0 (v1) (2) σ) fun p16 =>
  Option.bind (sg_R σ a0 24) fun b17 =>
  if (19 : Int32) < 0 ∨ sg_L σ b17 ≤ (19 : Int32).toNatClampNeg then none else
  Option.bind (f_X12_nextOf N a0 (v1) (p16) (sg_I σ b17 (19 : Int32).toNatClampNeg) σ) fun p19 =>
  if (((4) * (v1)) + (2)) < 0 ∨ sg_L p19.2 b17 ≤ (((4) * (v1)) + (2)).toNatClampNeg then none else
  f_X12_passTick_L23 N a0 n (v1 + 1) (put_I p19.2 b17 (((4) * (v1)) + (2)).toNatClampNeg (p19.1)))
  else
  (f_X12_passTick_B65 N a0  σ)
def f_X12_passTick (N : Nat) (a0 : Nat) (σ : Sg) : Option Sg :=
  Option.bind (sg_R σ a0 24) fun b1 =>
  if (17 : Int32) < 0 ∨ sg_L σ b1 ≤ (17 : Int32).toNatClampNeg then none else
  if (0) < (sg_I σ b1 (17 : Int32).toNatClampNeg) then
  (if (17 : Int32) < 0 ∨ sg_L σ b1 ≤ (17 : Int32).toNatClampNeg then none else
  if (17 : Int32) < 0 ∨ sg_L σ b1 ≤ (17 : Int32).toNatClampNeg then none else
  f_X12_passTick_L23 N a0 N (0) (put_I σ b1 (17 : Int32).toNatClampNeg ((sg_I σ b1 (17 : Int32).toNatClampNeg) - (1))))
  else
  (f_X12_passTick_B65 N a0  σ)
set_option maxHeartbeats 4000000 in
set_option maxRecDepth 100000 in
theorem t_X12_passTick_B65 {N : Nat} {a0 : Nat} {Γ : Gm} {σ0 : Sg} {r : Sg} (C1 : CM Γ cX12_passTick RX12 2 none 7 162 0 0 (fun r_ τ_ => (r_ = none) ∧ τ_ = r ∧ sg_T τ_ ∧ sg_E σ0 τ_)) (σ : Sg) (hT : sg_T σ) (hE : sg_E σ0 σ) (h0 : is_A σ a0 11) (hf : f_X12_passTick_B65 N a0   σ = some r) : J_ Γ 65 [(0, vr (some a0))] [] σ 0 0 := by
  have C0 := C1.1
  unfold f_X12_passTick_B65 at hf
  refine J_aload_n (q := 66) C0 0 rfl rfl dX12_passTick_65 rfl trivial ?_
  refine J_getR (q := 69) C0 fl_X12_52_11 rfl (h0) rfl dX12_passTick_66 rfl ?_
  refine J_bipush (q := 71) (v := 19) C0 dX12_passTick_69 rfl rfl ?_
  refine J_dup2 (q := 72) C0 dX12_passTick_71 rfl rfl rfl ?_
  refine K_some hf (fun b4 hb4 hf => ?_)
  have ab4 : is_A σ b4 12 := ((sg_T.op hT (j := 24) (h0) rfl)) b4 hb4
  refine K_chk hf (fun c5 hf => ?_)
  refine J_iald (q := 73) C0 hb4 (ab4) c5 dX12_passTick_72 rfl ?_
  refine J_iconst (q := 74) (v := 1) C0 dX12_passTick_73 rfl rfl ?_
  refine J_iadd (q := 75) C0 dX12_passTick_74 rfl ?_
  refine K_chk hf (fun c6 hf => ?_)
  refine J_iast (q := 76) C0 hb4 (ab4) c6 dX12_passTick_75 rfl ?_
  refine J_aload_n (q := 77) C0 0 rfl rfl dX12_passTick_76 rfl trivial ?_
  refine J_getR (q := 80) C0 fl_X12_52_11 rfl ((h0).putI) rfl dX12_passTick_77 rfl ?_
  refine J_bipush (q := 82) (v := 19) C0 dX12_passTick_80 rfl rfl ?_
  refine K_some hf (fun b7 hb7 hf => ?_)
  have ab7 : is_A (put_I σ b4 (19 : Int32).toNatClampNeg ((sg_I σ b4 (19 : Int32).toNatClampNeg) + (1))) b7 12 := ((sg_T.op (hT).putI (j := 24) ((h0).putI) rfl)) b7 hb7
  refine K_chk hf (fun c8 hf => ?_)
  refine J_iald (q := 83) C0 hb7 (ab7) c8 dX12_passTick_82 rfl ?_
  refine J_aload_n (q := 84) C0 0 rfl rfl dX12_passTick_83 rfl trivial ?_
  refine J_getR (q := 87) C0 fl_X12_52_11 rfl ((h0).putI) rfl dX12_passTick_84 rfl ?_
  refine J_bipush (q := 89) (v := 16) C0 dX12_passTick_87 rfl rfl ?_
  refine K_chk hf (fun c9 hf => ?_)
  refine J_iald (q := 90) C0 hb7 (ab7) c9 dX12_passTick_89 rfl ?_
  refine K_chk hf (fun c10 hf => ?_)
  refine J_irem (q := 91) C0 dX12_passTick_90 rfl c10 ?_
  refine J_if_ne (t := 98) (q := 94) C0 dX12_passTick_91 (by decide) rfl hf (fun c11 hf => ?_) (fun c11 hf => ?_)
  · obtain rfl := Option.some.inj hf; exact J_vret C1 dX12_passTick_98 rfl (Nat.zero_le _) (Nat.zero_le _) ⟨rfl, rfl, (hT).putI, (hE).putI⟩
  · refine J_aload_n (q := 95) C0 0 rfl rfl dX12_passTick_94 rfl trivial ?_
    refine K_some hf (fun p12 hp12 hf => ?_)
    refine J_callV (q := 98) (ci := 11) (as := []) (rest := []) C0 rfl ((h0).putI) (t_X12_putLog N a0  ((hT).putI) ((h0).putI)  hp12) ml_X12_putLog lk_X12_301 im_X12_putLog se_X12_putLog rfl (by decide) dX12_passTick_95 rfl rfl rfl (by simp [ac_]) C1.room (by decide) (by decide) (by decide) (by decide) (fun r_ τ_ hQ => ?_)
    obtain ⟨rfl, ht_, Tp12, Ep12⟩ := hQ; have ht_ := ht_.symm; subst ht_
    show J_ Γ 98 [(0, vr (some a0))] [] p12 0 0
    obtain rfl := Option.some.inj hf; exact J_vret C1 dX12_passTick_98 rfl (Nat.zero_le _) (Nat.zero_le _) ⟨rfl, rfl, Tp12, ((hE).putI).tr Ep12⟩
set_option maxHeartbeats 4000000 in
set_option maxRecDepth 100000 in
theorem t_X12_passTick_L23 {N : Nat} {a0 : Nat} {Γ : Gm} {σ0 : Sg} {r : Sg} (C1 : CM Γ cX12_passTick RX12 2 none 7 162 0 0 (fun r_ τ_ => (r_ = none) ∧ τ_ = r ∧ sg_T τ_ ∧ sg_E σ0 τ_)) : ∀ (n : Nat) (v1 : Int32) (σ : Sg), sg_T σ → sg_E σ0 σ → is_A σ a0 11 → f_X12_passTick_L23 N a0  n v1 σ = some r → J_ Γ 23 [(0, vr (some a0)), (1, vi (v1))] [] σ 0 0 := by
  have C0 := C1.1
  intro n
  induction n with
  | zero => intro v1 σ hT hE h0  hf; unfold f_X12_passTick_L23 at hf; cases hf
  | succ n ih =>
    intro v1 σ hT hE h0  hf
    rw [f_X12_passTick_L23] at hf
    refine J_iload_n (q := 24) C0 1 rfl rfl dX12_passTick_23 rfl ?_
    refine J_aload_n (q := 25) C0 0 rfl rfl dX12_passTick_24 rfl trivial ?_
    refine J_getI (q := 28) C0 fl_X12_263_11 rfl (h0) rfl dX12_passTick_25 rfl ?_
    refine J_icmp_ge (t := 65) (q := 31) C0 dX12_passTick_28 (by decide) rfl hf (fun c15 hf => ?_) (fun c15 hf => ?_)
    · refine J_sub (lv' := [(0, vr (some a0))]) [0] rfl ?_
      exact t_X12_passTick_B65 C1     σ (hT) (hE) (h0)  hf
    · refine J_aload_n (q := 32) C0 0 rfl rfl dX12_passTick_31 rfl trivial ?_
      refine J_getR (q := 35) C0 fl_X12_52_11 rfl (h0) rfl dX12_passTick_32 rfl ?_
      refine J_iconst (q := 36) (v := 4) C0 dX12_passTick_35 rfl rfl ?_
      refine J_iload_n (q := 37) C0 1 rfl rfl dX12_passTick_36 rfl ?_
      refine J_imul (q := 38) C0 dX12_passTick_37 rfl ?_
      refine J_iconst (q := 39) (v := 2) C0 dX12_passTick_38 rfl rfl ?_
      refine J_iadd (q := 40) C0 dX12_passTick_39 rfl ?_
      refine J_aload_n (q := 41) C0 0 rfl rfl dX12_passTick_40 rfl trivial ?_
      refine J_iload_n (q := 42) C0 1 rfl rfl dX12_passTick_41 rfl ?_
      refine J_aload_n (q := 43) C0 0 rfl rfl dX12_passTick_42 rfl trivial ?_
      refine J_iload_n (q := 44) C0 1 rfl rfl dX12_passTick_43 rfl ?_
      refine J_iconst (q := 45) (v := 2) C0 dX12_passTick_44 rfl rfl ?_
      refine K_some hf (fun p16 hp16 hf => ?_)
      refine J_callV (q := 48) (ci := 11) (as := [vi (v1), vi (2)]) (rest := [vi (v1), vr (some a0), vi (((4) * (v1)) + (2)), vr (sg_R σ a0 24)]) C0 rfl (h0) (t_X12_of a0 (v1) (2) (hT) (h0)  hp16) ml_X12_of lk_X12_254 im_X12_of se_X12_of rfl (by decide) dX12_passTick_45 rfl rfl rfl (by simp [ac_]) C1.room (by decide) (by decide) (by decide) (by decide) (fun r_ τ_ hQ => ?_)
      obtain ⟨rfl, ht_⟩ := hQ; have ht_ := ht_.symm; subst ht_
      show J_ Γ 48 [(0, vr (some a0)), (1, vi (v1))] [vi (p16), vi (v1), vr (some a0), vi (((4) * (v1)) + (2)), vr (sg_R σ a0 24)] σ 0 0
      refine J_aload_n (q := 49) C0 0 rfl rfl dX12_passTick_48 rfl trivial ?_
      refine J_getR (q := 52) C0 fl_X12_52_11 rfl (h0) rfl dX12_passTick_49 rfl ?_
      refine J_bipush (q := 54) (v := 19) C0 dX12_passTick_52 rfl rfl ?_
      refine K_some hf (fun b17 hb17 hf => ?_)
      have ab17 : is_A σ b17 12 := ((sg_T.op hT (j := 24) (h0) rfl)) b17 hb17
      refine K_chk hf (fun c18 hf => ?_)
      refine J_iald (q := 55) C0 hb17 (ab17) c18 dX12_passTick_54 rfl ?_
      refine K_some hf (fun p19 hp19 hf => ?_)
      refine J_callV (q := 58) (ci := 11) (as := [vi (v1), vi (p16), vi (sg_I σ b17 (19 : Int32).toNatClampNeg)]) (rest := [vi (((4) * (v1)) + (2)), vr (sg_R σ a0 24)]) C0 rfl (h0) (t_X12_nextOf N a0 (v1) (p16) (sg_I σ b17 (19 : Int32).toNatClampNeg) (hT) (h0)  hp19) ml_X12_nextOf lk_X12_298 im_X12_nextOf se_X12_nextOf rfl (by decide) dX12_passTick_55 rfl rfl rfl (by simp [ac_]) C1.room (by decide) (by decide) (by decide) (by decide) (fun r_ τ_ hQ => ?_)
      obtain ⟨rfl, rfl, Tp19, Ep19⟩ := hQ
      show J_ Γ 58 [(0, vr (some a0)), (1, vi (v1))] [vi (p19.1), vi (((4) * (v1)) + (2)), vr (sg_R σ a0 24)] p19.2 0 0
      refine K_chk hf (fun c20 hf => ?_)
      refine J_iast (q := 59) C0 hb17 ((Ep19.at ab17)) c20 dX12_passTick_58 rfl ?_
      refine J_iinc (q := 62) (v := v1 + 1) (lv' := [(1, vi (v1 + 1)), (0, vr (some a0))]) C0 1 rfl rfl (G_nl C1 (by decide)) dX12_passTick_59 rfl rfl ?_
      refine J_goto (q := 23) C0 dX12_passTick_62 (by decide) ?_
      refine J_sub (lv' := [(0, vr (some a0)), (1, vi (v1 + 1))]) [1, 0] rfl ?_
      exact ih (v1 + 1) (put_I p19.2 b17 (((4) * (v1)) + (2)).toNatClampNeg (p19.1)) ((Tp19).putI) (((hE).tr Ep19).putI) (((Ep19.at h0)).putI)  hf
set_option maxHeartbeats 4000000 in
set_option maxRecDepth 100000 in
theorem t_X12_passTick (N : Nat) (a0 : Nat) {σ : Sg} (hT : sg_T σ) (h0 : is_A σ a0 11) {r : Sg} (hf : f_X12_passTick N a0  σ = some r) : Ct yX12_passTick cX12_passTick 2 none 7 162 0 0 [vr (some a0)] σ (fun r_ τ_ => (r_ = none) ∧ τ_ = r ∧ sg_T τ_ ∧ sg_E σ τ_) := by
  refine Ct.of (by decide +kernel) (Nat.le_of_ble_eq_true rfl) (fun Γ C1 => ?_)
  have C0 := C1.1
  have hE : sg_E σ σ := sg_E.rf
  unfold f_X12_passTick at hf
  show J_ Γ 0 [(0, vr (some a0))] [] σ 0 0
  refine J_aload_n (q := 1) C0 0 rfl rfl dX12_passTick_0 rfl trivial ?_
  refine J_getR (q := 4) C0 fl_X12_52_11 rfl (h0) rfl dX12_passTick_1 rfl ?_
  refine J_bipush (q := 6) (v := 17) C0 dX12_passTick_4 rfl rfl ?_
  refine K_some hf (fun b1 hb1 hf => ?_)
  have ab1 : is_A σ b1 12 := ((sg_T.op hT (j := 24) (h0) rfl)) b1 hb1
  refine K_chk hf (fun c2 hf => ?_)
  refine J_iald (q := 7) C0 hb1 (ab1) c2 dX12_passTick_6 rfl ?_
  refine J_if_le (t := 65) (q := 10) C0 dX12_passTick_7 (by decide) rfl hf (fun c3 hf => ?_) (fun c3 hf => ?_)
  · exact t_X12_passTick_B65 C1     σ (hT) (hE) (h0)  hf
  · refine J_aload_n (q := 11) C0 0 rfl rfl dX12_passTick_10 rfl trivial ?_
    refine J_getR (q := 14) C0 fl_X12_52_11 rfl (h0) rfl dX12_passTick_11 rfl ?_
    refine J_bipush (q := 16) (v := 17) C0 dX12_passTick_14 rfl rfl ?_
    refine J_dup2 (q := 17) C0 dX12_passTick_16 rfl rfl rfl ?_
    refine K_chk hf (fun c13 hf => ?_)
    refine J_iald (q := 18) C0 hb1 (ab1) c13 dX12_passTick_17 rfl ?_
    refine J_iconst (q := 19) (v := 1) C0 dX12_passTick_18 rfl rfl ?_
    refine J_isub (q := 20) C0 dX12_passTick_19 rfl ?_
    refine K_chk hf (fun c14 hf => ?_)
    refine J_iast (q := 21) C0 hb1 (ab1) c14 dX12_passTick_20 rfl ?_
    refine J_iconst (q := 22) (v := 0) C0 dX12_passTick_21 rfl rfl ?_
    refine J_istore_n (q := 23) (lv' := [(1, vi (0)), (0, vr (some a0))]) C0 rfl (G_nl C1 (by decide)) dX12_passTick_22 rfl rfl ?_
    refine J_sub (lv' := [(0, vr (some a0)), (1, vi (0))]) [1, 0] rfl ?_
    exact t_X12_passTick_L23 C1    N (0) (put_I σ b1 (17 : Int32).toNatClampNeg ((sg_I σ b1 (17 : Int32).toNatClampNeg) - (1))) ((hT).putI) ((hE).putI) ((h0).putI)  hf
def f_X12_rule (a0 : Nat) (x1 : Int32) (σ : Sg) : Option Int32 :=
  if (0) < (sg_I σ a0 20) then
  (Option.bind (f_X12_in (x1) (0) (2) ) fun p2 =>
  if (p2) = (0) then
  (some ((-1)))
  else
  (Option.bind (sg_R σ a0 24) fun b4 =>
  if ((16) + (x1)) < 0 ∨ sg_L σ b4 ≤ ((16) + (x1)).toNatClampNeg then none else
  some (sg_I σ b4 ((16) + (x1)).toNatClampNeg)))
  else
  (some ((-1)))
set_option maxHeartbeats 4000000 in
set_option maxRecDepth 100000 in
theorem t_X12_rule (a0 : Nat) (x1 : Int32) {σ : Sg} (hT : sg_T σ) (h0 : is_A σ a0 11) {r : Int32} (hf : f_X12_rule a0 x1 σ = some r) : Ct yX12_rule cX12_rule 2 (some .int) 1 22 0 0 [vr (some a0), vi x1] σ (fun r_ τ_ => (r_ = some (vi r)) ∧ τ_ = σ) := by
  refine Ct.of (by decide +kernel) (Nat.le_of_ble_eq_true rfl) (fun Γ C1 => ?_)
  have C0 := C1.1
  unfold f_X12_rule at hf
  show J_ Γ 0 [(0, vr (some a0)), (1, vi (x1))] [] σ 0 0
  refine J_aload_n (q := 1) C0 0 rfl rfl dX12_rule_0 rfl trivial ?_
  refine J_getI (q := 4) C0 fl_X12_263_11 rfl (h0) rfl dX12_rule_1 rfl ?_
  refine J_if_le (t := 28) (q := 7) C0 dX12_rule_4 (by decide) rfl hf (fun c1 hf => ?_) (fun c1 hf => ?_)
  · refine J_iconst (q := 29) (v := (-1)) C0 dX12_rule_28 rfl rfl ?_
    obtain rfl := Option.some.inj hf; exact J_iret C1 dX12_rule_29 rfl (Nat.zero_le _) (Nat.zero_le _) ⟨rfl, rfl⟩
  · refine J_iload_n (q := 8) C0 1 rfl rfl dX12_rule_7 rfl ?_
    refine J_iconst (q := 9) (v := 0) C0 dX12_rule_8 rfl rfl ?_
    refine J_iconst (q := 10) (v := 2) C0 dX12_rule_9 rfl rfl ?_
    refine K_some hf (fun p2 hp2 hf => ?_)
    refine J_callS (q := 13) (as := [vi (x1), vi (0), vi (2)]) (rest := []) C0 (t_X12_in (x1) (0) (2)  hp2) ml_X12_in lk_X12_208 sm_X12_in dX12_rule_10 rfl rfl rfl (by simp [ac_]) C1.room (by decide) (by decide) (by decide) (by decide) (fun r_ τ_ hQ => ?_)
    obtain ⟨⟨rfl, zp2⟩, ht_⟩ := hQ; have ht_ := ht_.symm; subst ht_
    show J_ Γ 13 [(0, vr (some a0)), (1, vi (x1))] [vi (p2)] σ 0 0
    refine J_if_eq (t := 28) (q := 16) C0 dX12_rule_13 (by decide) rfl hf (fun c3 hf => ?_) (fun c3 hf => ?_)
    · refine J_iconst (q := 29) (v := (-1)) C0 dX12_rule_28 rfl rfl ?_
      obtain rfl := Option.some.inj hf; exact J_iret C1 dX12_rule_29 rfl (Nat.zero_le _) (Nat.zero_le _) ⟨rfl, rfl⟩
    · refine J_aload_n (q := 17) C0 0 rfl rfl dX12_rule_16 rfl trivial ?_
      refine J_getR (q := 20) C0 fl_X12_52_11 rfl (h0) rfl dX12_rule_17 rfl ?_
      refine J_bipush (q := 22) (v := 16) C0 dX12_rule_20 rfl rfl ?_
      refine J_iload_n (q := 23) C0 1 rfl rfl dX12_rule_22 rfl ?_
      refine J_iadd (q := 24) C0 dX12_rule_23 rfl ?_
      refine K_some hf (fun b4 hb4 hf => ?_)
      have ab4 : is_A σ b4 12 := ((sg_T.op hT (j := 24) (h0) rfl)) b4 hb4
      refine K_chk hf (fun c5 hf => ?_)
      refine J_iald (q := 25) C0 hb4 (ab4) c5 dX12_rule_24 rfl ?_
      refine J_goto (q := 29) C0 dX12_rule_25 (by decide) ?_
      obtain rfl := Option.some.inj hf; exact J_iret C1 dX12_rule_29 rfl (Nat.zero_le _) (Nat.zero_le _) ⟨rfl, rfl⟩
def f_X12_wheel_B23 (a0 : Nat) (v1 : Int32) (v2 : Int32) (s0 : Int32) (s1 : Option Nat) (σ : Sg) : Option (Int32 × Sg) :=
  Option.bind (s1) fun b3 =>
  if (sg_I (put_I σ b3 0 (s0)) a0 0) = (1) then
  (some (0, put_I σ b3 0 (s0)))
  else
  (if (v2) = (4) then
  (Option.bind (f_X12_longOf a0 (v1) (put_I σ b3 0 (s0))) fun p9 =>
  some (p9, put_I σ b3 0 (s0)))
  else
  (if (v2) = (5) then
  (Option.bind (f_X12_showsOf a0 (v1) (put_I σ b3 0 (s0))) fun p8 =>
  some (p8, put_I σ b3 0 (s0)))
  else
  (Option.bind (f_X12_of a0 (v1) (v2) (put_I σ b3 0 (s0))) fun p7 =>
  some (p7, put_I σ b3 0 (s0)))))
def f_X12_wheel_B22 (a0 : Nat) (v1 : Int32) (v2 : Int32) (s0 : Option Nat) (σ : Sg) : Option (Int32 × Sg) :=
  f_X12_wheel_B23 a0 (v1) (v2) (1) (s0) σ
def f_X12_wheel (a0 : Nat) (x1 : Int32) (x2 : Int32) (σ : Sg) : Option (Int32 × Sg) :=
  Option.bind (f_X12_isWheel a0 (x1) σ) fun p1 =>
  if (p1) = (0) then
  (f_X12_wheel_B22 a0 (x1) (x2) (some a0) σ)
  else
  (Option.bind (f_X12_in (x2) (0) (5) ) fun p10 =>
  if (p10) = (0) then
  (f_X12_wheel_B22 a0 (x1) (x2) (some a0) σ)
  else
  (f_X12_wheel_B23 a0 (x1) (x2) (0) (some a0) σ))
set_option maxHeartbeats 4000000 in
set_option maxRecDepth 100000 in
theorem t_X12_wheel_B23 {a0 : Nat} {Γ : Gm} {σ0 : Sg} {r : (Int32 × Sg)} (C1 : CM Γ cX12_wheel RX12 3 (some .int) 2 43 0 0 (fun r_ τ_ => (r_ = some (vi r.1)) ∧ τ_ = r.2 ∧ sg_T τ_ ∧ sg_E σ0 τ_)) (v1 : Int32) (v2 : Int32) (s0 : Int32) (s1 : Option Nat) (σ : Sg) (hT : sg_T σ) (hE : sg_E σ0 σ) (h0 : is_A σ a0 11) (g_s1 : is_O σ s1 11) (hf : f_X12_wheel_B23 a0  v1 v2 s0 s1 σ = some r) : J_ Γ 23 [(0, vr (some a0)), (1, vi (v1)), (2, vi (v2))] [vi (s0), vr (s1)] σ 0 0 := by
  have C0 := C1.1
  unfold f_X12_wheel_B23 at hf
  refine K_some hf (fun b3 hb3 hf => ?_)
  have ab3 : is_A σ b3 11 := (g_s1) b3 hb3
  refine J_putI (q := 26) C0 fl_X12_93_11 hb3 (ab3) rfl dX12_wheel_23 rfl ?_
  refine J_aload_n (q := 27) C0 0 rfl rfl dX12_wheel_26 rfl trivial ?_
  refine J_getI (q := 30) C0 fl_X12_93_11 rfl ((h0).putI) rfl dX12_wheel_27 rfl ?_
  refine J_iconst (q := 31) (v := 1) C0 dX12_wheel_30 rfl rfl ?_
  refine J_icmp_ne (t := 36) (q := 34) C0 dX12_wheel_31 (by decide) rfl hf (fun c4 hf => ?_) (fun c4 hf => ?_)
  · refine J_iload_n (q := 37) C0 2 rfl rfl dX12_wheel_36 rfl ?_
    refine J_iconst (q := 38) (v := 4) C0 dX12_wheel_37 rfl rfl ?_
    refine J_icmp_ne (t := 49) (q := 41) C0 dX12_wheel_38 (by decide) rfl hf (fun c5 hf => ?_) (fun c5 hf => ?_)
    · refine J_iload_n (q := 50) C0 2 rfl rfl dX12_wheel_49 rfl ?_
      refine J_iconst (q := 51) (v := 5) C0 dX12_wheel_50 rfl rfl ?_
      refine J_icmp_ne (t := 62) (q := 54) C0 dX12_wheel_51 (by decide) rfl hf (fun c6 hf => ?_) (fun c6 hf => ?_)
      · refine J_aload_n (q := 63) C0 0 rfl rfl dX12_wheel_62 rfl trivial ?_
        refine J_iload_n (q := 64) C0 1 rfl rfl dX12_wheel_63 rfl ?_
        refine J_iload_n (q := 65) C0 2 rfl rfl dX12_wheel_64 rfl ?_
        refine K_some hf (fun p7 hp7 hf => ?_)
        refine J_callV (q := 68) (ci := 11) (as := [vi (v1), vi (v2)]) (rest := []) C0 rfl ((h0).putI) (t_X12_of a0 (v1) (v2) ((hT).putI) ((h0).putI)  hp7) ml_X12_of lk_X12_254 im_X12_of se_X12_of rfl (by decide) dX12_wheel_65 rfl rfl rfl (by simp [ac_]) C1.room (by decide) (by decide) (by decide) (by decide) (fun r_ τ_ hQ => ?_)
        obtain ⟨rfl, ht_⟩ := hQ; have ht_ := ht_.symm; subst ht_
        show J_ Γ 68 [(0, vr (some a0)), (1, vi (v1)), (2, vi (v2))] [vi (p7)] (put_I σ b3 0 (s0)) 0 0
        obtain rfl := Option.some.inj hf; exact J_iret C1 dX12_wheel_68 rfl (Nat.zero_le _) (Nat.zero_le _) ⟨rfl, rfl, (hT).putI, (hE).putI⟩
      · refine J_aload_n (q := 55) C0 0 rfl rfl dX12_wheel_54 rfl trivial ?_
        refine J_iload_n (q := 56) C0 1 rfl rfl dX12_wheel_55 rfl ?_
        refine K_some hf (fun p8 hp8 hf => ?_)
        refine J_callV (q := 59) (ci := 11) (as := [vi (v1)]) (rest := []) C0 rfl ((h0).putI) (t_X12_showsOf a0 (v1) ((hT).putI) ((h0).putI)  hp8) ml_X12_showsOf lk_X12_304 im_X12_showsOf se_X12_showsOf rfl (by decide) dX12_wheel_56 rfl rfl rfl (by simp [ac_]) C1.room (by decide) (by decide) (by decide) (by decide) (fun r_ τ_ hQ => ?_)
        obtain ⟨rfl, ht_⟩ := hQ; have ht_ := ht_.symm; subst ht_
        show J_ Γ 59 [(0, vr (some a0)), (1, vi (v1)), (2, vi (v2))] [vi (p8)] (put_I σ b3 0 (s0)) 0 0
        refine J_goto (q := 68) C0 dX12_wheel_59 (by decide) ?_
        obtain rfl := Option.some.inj hf; exact J_iret C1 dX12_wheel_68 rfl (Nat.zero_le _) (Nat.zero_le _) ⟨rfl, rfl, (hT).putI, (hE).putI⟩
    · refine J_aload_n (q := 42) C0 0 rfl rfl dX12_wheel_41 rfl trivial ?_
      refine J_iload_n (q := 43) C0 1 rfl rfl dX12_wheel_42 rfl ?_
      refine K_some hf (fun p9 hp9 hf => ?_)
      refine J_callV (q := 46) (ci := 11) (as := [vi (v1)]) (rest := []) C0 rfl ((h0).putI) (t_X12_longOf a0 (v1) ((hT).putI) ((h0).putI)  hp9) ml_X12_longOf lk_X12_266 im_X12_longOf se_X12_longOf rfl (by decide) dX12_wheel_43 rfl rfl rfl (by simp [ac_]) C1.room (by decide) (by decide) (by decide) (by decide) (fun r_ τ_ hQ => ?_)
      obtain ⟨rfl, ht_⟩ := hQ; have ht_ := ht_.symm; subst ht_
      show J_ Γ 46 [(0, vr (some a0)), (1, vi (v1)), (2, vi (v2))] [vi (p9)] (put_I σ b3 0 (s0)) 0 0
      refine J_goto (q := 68) C0 dX12_wheel_46 (by decide) ?_
      obtain rfl := Option.some.inj hf; exact J_iret C1 dX12_wheel_68 rfl (Nat.zero_le _) (Nat.zero_le _) ⟨rfl, rfl, (hT).putI, (hE).putI⟩
  · refine J_iconst (q := 35) (v := 0) C0 dX12_wheel_34 rfl rfl ?_
    obtain rfl := Option.some.inj hf; exact J_iret C1 dX12_wheel_35 rfl (Nat.zero_le _) (Nat.zero_le _) ⟨rfl, rfl, (hT).putI, (hE).putI⟩
set_option maxHeartbeats 4000000 in
set_option maxRecDepth 100000 in
theorem t_X12_wheel_B22 {a0 : Nat} {Γ : Gm} {σ0 : Sg} {r : (Int32 × Sg)} (C1 : CM Γ cX12_wheel RX12 3 (some .int) 2 43 0 0 (fun r_ τ_ => (r_ = some (vi r.1)) ∧ τ_ = r.2 ∧ sg_T τ_ ∧ sg_E σ0 τ_)) (v1 : Int32) (v2 : Int32) (s0 : Option Nat) (σ : Sg) (hT : sg_T σ) (hE : sg_E σ0 σ) (h0 : is_A σ a0 11) (g_s0 : is_O σ s0 11) (hf : f_X12_wheel_B22 a0  v1 v2 s0 σ = some r) : J_ Γ 22 [(0, vr (some a0)), (1, vi (v1)), (2, vi (v2))] [vr (s0)] σ 0 0 := by
  have C0 := C1.1
  unfold f_X12_wheel_B22 at hf
  refine J_iconst (q := 23) (v := 1) C0 dX12_wheel_22 rfl rfl ?_
  exact t_X12_wheel_B23 C1    (v1) (v2) (1) (s0) σ (hT) (hE) (h0) (g_s0) hf
set_option maxHeartbeats 4000000 in
set_option maxRecDepth 100000 in
theorem t_X12_wheel (a0 : Nat) (x1 : Int32) (x2 : Int32) {σ : Sg} (hT : sg_T σ) (h0 : is_A σ a0 11) {r : (Int32 × Sg)} (hf : f_X12_wheel a0 x1 x2 σ = some r) : Ct yX12_wheel cX12_wheel 3 (some .int) 2 43 0 0 [vr (some a0), vi x1, vi x2] σ (fun r_ τ_ => (r_ = some (vi r.1)) ∧ τ_ = r.2 ∧ sg_T τ_ ∧ sg_E σ τ_) := by
  refine Ct.of (by decide +kernel) (Nat.le_of_ble_eq_true rfl) (fun Γ C1 => ?_)
  have C0 := C1.1
  have hE : sg_E σ σ := sg_E.rf
  unfold f_X12_wheel at hf
  show J_ Γ 0 [(0, vr (some a0)), (1, vi (x1)), (2, vi (x2))] [] σ 0 0
  refine J_aload_n (q := 1) C0 0 rfl rfl dX12_wheel_0 rfl trivial ?_
  refine J_aload_n (q := 2) C0 0 rfl rfl dX12_wheel_1 rfl trivial ?_
  refine J_iload_n (q := 3) C0 1 rfl rfl dX12_wheel_2 rfl ?_
  refine K_some hf (fun p1 hp1 hf => ?_)
  refine J_callV (q := 6) (ci := 11) (as := [vi (x1)]) (rest := [vr (some a0)]) C0 rfl (h0) (t_X12_isWheel a0 (x1) (h0)  hp1) ml_X12_isWheel lk_X12_307 im_X12_isWheel se_X12_isWheel rfl (by decide) dX12_wheel_3 rfl rfl rfl (by simp [ac_]) C1.room (by decide) (by decide) (by decide) (by decide) (fun r_ τ_ hQ => ?_)
  obtain ⟨⟨rfl, zp1⟩, ht_⟩ := hQ; have ht_ := ht_.symm; subst ht_
  show J_ Γ 6 [(0, vr (some a0)), (1, vi (x1)), (2, vi (x2))] [vi (p1), vr (some a0)] σ 0 0
  refine J_if_eq (t := 22) (q := 9) C0 dX12_wheel_6 (by decide) rfl hf (fun c2 hf => ?_) (fun c2 hf => ?_)
  · exact t_X12_wheel_B22 C1    (x1) (x2) (some a0) σ (hT) (hE) (h0) (is_O.some (h0)) hf
  · refine J_iload_n (q := 10) C0 2 rfl rfl dX12_wheel_9 rfl ?_
    refine J_iconst (q := 11) (v := 0) C0 dX12_wheel_10 rfl rfl ?_
    refine J_iconst (q := 12) (v := 5) C0 dX12_wheel_11 rfl rfl ?_
    refine K_some hf (fun p10 hp10 hf => ?_)
    refine J_callS (q := 15) (as := [vi (x2), vi (0), vi (5)]) (rest := [vr (some a0)]) C0 (t_X12_in (x2) (0) (5)  hp10) ml_X12_in lk_X12_208 sm_X12_in dX12_wheel_12 rfl rfl rfl (by simp [ac_]) C1.room (by decide) (by decide) (by decide) (by decide) (fun r_ τ_ hQ => ?_)
    obtain ⟨⟨rfl, zp10⟩, ht_⟩ := hQ; have ht_ := ht_.symm; subst ht_
    show J_ Γ 15 [(0, vr (some a0)), (1, vi (x1)), (2, vi (x2))] [vi (p10), vr (some a0)] σ 0 0
    refine J_if_eq (t := 22) (q := 18) C0 dX12_wheel_15 (by decide) rfl hf (fun c11 hf => ?_) (fun c11 hf => ?_)
    · exact t_X12_wheel_B22 C1    (x1) (x2) (some a0) σ (hT) (hE) (h0) (is_O.some (h0)) hf
    · refine J_iconst (q := 19) (v := 0) C0 dX12_wheel_18 rfl rfl ?_
      refine J_goto (q := 23) C0 dX12_wheel_19 (by decide) ?_
      exact t_X12_wheel_B23 C1    (x1) (x2) (0) (some a0) σ (hT) (hE) (h0) (is_O.some (h0)) hf
def f_X12_picture (a0 : Nat) (x1 : Int32) (x2 : Int32) (σ : Sg) : Option Int32 :=
  Option.bind (f_X12_isStrip a0 (x1) σ) fun p1 =>
  if (p1) = (0) then
  (some ((-1)))
  else
  (Option.bind (sg_R σ a0 22) fun b3 =>
  if (x1) < 0 ∨ sg_L σ b3 ≤ (x1).toNatClampNeg then none else
  Option.bind (f_X12_in (x2) ((-1)) ((sg_I σ b3 (x1).toNatClampNeg) - (1)) ) fun p5 =>
  if (p5) = (0) then
  (some ((-1)))
  else
  (if (x2) = ((-1)) then
  (if (x1) < 0 ∨ sg_L σ b3 ≤ (x1).toNatClampNeg then none else
  some (sg_I σ b3 (x1).toNatClampNeg))
  else
  (Option.bind (sg_R σ a0 21) fun b8 =>
  if (((16) * (x1)) + (x2)) < 0 ∨ sg_L σ b8 ≤ (((16) * (x1)) + (x2)).toNatClampNeg then none else
  some (sg_I σ b8 (((16) * (x1)) + (x2)).toNatClampNeg))))
set_option maxHeartbeats 4000000 in
set_option maxRecDepth 100000 in
theorem t_X12_picture (a0 : Nat) (x1 : Int32) (x2 : Int32) {σ : Sg} (hT : sg_T σ) (h0 : is_A σ a0 11) {r : Int32} (hf : f_X12_picture a0 x1 x2 σ = some r) : Ct yX12_picture cX12_picture 3 (some .int) 2 43 0 0 [vr (some a0), vi x1, vi x2] σ (fun r_ τ_ => (r_ = some (vi r)) ∧ τ_ = σ) := by
  refine Ct.of (by decide +kernel) (Nat.le_of_ble_eq_true rfl) (fun Γ C1 => ?_)
  have C0 := C1.1
  unfold f_X12_picture at hf
  show J_ Γ 0 [(0, vr (some a0)), (1, vi (x1)), (2, vi (x2))] [] σ 0 0
  refine J_aload_n (q := 1) C0 0 rfl rfl dX12_picture_0 rfl trivial ?_
  refine J_iload_n (q := 2) C0 1 rfl rfl dX12_picture_1 rfl ?_
  refine K_some hf (fun p1 hp1 hf => ?_)
  refine J_callV (q := 5) (ci := 11) (as := [vi (x1)]) (rest := []) C0 rfl (h0) (t_X12_isStrip a0 (x1) (h0)  hp1) ml_X12_isStrip lk_X12_310 im_X12_isStrip se_X12_isStrip rfl (by decide) dX12_picture_2 rfl rfl rfl (by simp [ac_]) C1.room (by decide) (by decide) (by decide) (by decide) (fun r_ τ_ hQ => ?_)
  obtain ⟨⟨rfl, zp1⟩, ht_⟩ := hQ; have ht_ := ht_.symm; subst ht_
  show J_ Γ 5 [(0, vr (some a0)), (1, vi (x1)), (2, vi (x2))] [vi (p1)] σ 0 0
  refine J_if_eq (t := 24) (q := 8) C0 dX12_picture_5 (by decide) rfl hf (fun c2 hf => ?_) (fun c2 hf => ?_)
  · refine J_iconst (q := 25) (v := (-1)) C0 dX12_picture_24 rfl rfl ?_
    obtain rfl := Option.some.inj hf; exact J_iret C1 dX12_picture_25 rfl (Nat.zero_le _) (Nat.zero_le _) ⟨rfl, rfl⟩
  · refine J_iload_n (q := 9) C0 2 rfl rfl dX12_picture_8 rfl ?_
    refine J_iconst (q := 10) (v := (-1)) C0 dX12_picture_9 rfl rfl ?_
    refine J_aload_n (q := 11) C0 0 rfl rfl dX12_picture_10 rfl trivial ?_
    refine J_getR (q := 14) C0 fl_X12_49_11 rfl (h0) rfl dX12_picture_11 rfl ?_
    refine J_iload_n (q := 15) C0 1 rfl rfl dX12_picture_14 rfl ?_
    refine K_some hf (fun b3 hb3 hf => ?_)
    have ab3 : is_A σ b3 12 := ((sg_T.op hT (j := 22) (h0) rfl)) b3 hb3
    refine K_chk hf (fun c4 hf => ?_)
    refine J_iald (q := 16) C0 hb3 (ab3) c4 dX12_picture_15 rfl ?_
    refine J_iconst (q := 17) (v := 1) C0 dX12_picture_16 rfl rfl ?_
    refine J_isub (q := 18) C0 dX12_picture_17 rfl ?_
    refine K_some hf (fun p5 hp5 hf => ?_)
    refine J_callS (q := 21) (as := [vi (x2), vi ((-1)), vi ((sg_I σ b3 (x1).toNatClampNeg) - (1))]) (rest := []) C0 (t_X12_in (x2) ((-1)) ((sg_I σ b3 (x1).toNatClampNeg) - (1))  hp5) ml_X12_in lk_X12_208 sm_X12_in dX12_picture_18 rfl rfl rfl (by simp [ac_]) C1.room (by decide) (by decide) (by decide) (by decide) (fun r_ τ_ hQ => ?_)
    obtain ⟨⟨rfl, zp5⟩, ht_⟩ := hQ; have ht_ := ht_.symm; subst ht_
    show J_ Γ 21 [(0, vr (some a0)), (1, vi (x1)), (2, vi (x2))] [vi (p5)] σ 0 0
    refine J_if_ne (t := 26) (q := 24) C0 dX12_picture_21 (by decide) rfl hf (fun c6 hf => ?_) (fun c6 hf => ?_)
    · refine J_iload_n (q := 27) C0 2 rfl rfl dX12_picture_26 rfl ?_
      refine J_iconst (q := 28) (v := (-1)) C0 dX12_picture_27 rfl rfl ?_
      refine J_icmp_ne (t := 40) (q := 31) C0 dX12_picture_28 (by decide) rfl hf (fun c7 hf => ?_) (fun c7 hf => ?_)
      · refine J_aload_n (q := 41) C0 0 rfl rfl dX12_picture_40 rfl trivial ?_
        refine J_getR (q := 44) C0 fl_X12_46_11 rfl (h0) rfl dX12_picture_41 rfl ?_
        refine J_bipush (q := 46) (v := 16) C0 dX12_picture_44 rfl rfl ?_
        refine J_iload_n (q := 47) C0 1 rfl rfl dX12_picture_46 rfl ?_
        refine J_imul (q := 48) C0 dX12_picture_47 rfl ?_
        refine J_iload_n (q := 49) C0 2 rfl rfl dX12_picture_48 rfl ?_
        refine J_iadd (q := 50) C0 dX12_picture_49 rfl ?_
        refine K_some hf (fun b8 hb8 hf => ?_)
        have ab8 : is_A σ b8 12 := ((sg_T.op hT (j := 21) (h0) rfl)) b8 hb8
        refine K_chk hf (fun c9 hf => ?_)
        refine J_iald (q := 51) C0 hb8 (ab8) c9 dX12_picture_50 rfl ?_
        obtain rfl := Option.some.inj hf; exact J_iret C1 dX12_picture_51 rfl (Nat.zero_le _) (Nat.zero_le _) ⟨rfl, rfl⟩
      · refine J_aload_n (q := 32) C0 0 rfl rfl dX12_picture_31 rfl trivial ?_
        refine J_getR (q := 35) C0 fl_X12_49_11 rfl (h0) rfl dX12_picture_32 rfl ?_
        refine J_iload_n (q := 36) C0 1 rfl rfl dX12_picture_35 rfl ?_
        refine K_chk hf (fun c10 hf => ?_)
        refine J_iald (q := 37) C0 hb3 (ab3) c10 dX12_picture_36 rfl ?_
        refine J_goto (q := 51) C0 dX12_picture_37 (by decide) ?_
        obtain rfl := Option.some.inj hf; exact J_iret C1 dX12_picture_51 rfl (Nat.zero_le _) (Nat.zero_le _) ⟨rfl, rfl⟩
    · refine J_iconst (q := 25) (v := (-1)) C0 dX12_picture_24 rfl rfl ?_
      obtain rfl := Option.some.inj hf; exact J_iret C1 dX12_picture_25 rfl (Nat.zero_le _) (Nat.zero_le _) ⟨rfl, rfl⟩
def f_X12_law (a0 : Nat) (x1 : Int32) (σ : Sg) : Option (Int32 × Sg) :=
  Option.bind (f_X12_in (x1) ((-1)) ((sg_I σ a0 13) - (1)) ) fun p1 =>
  if (p1) = (0) then
  (some (0, σ))
  else
  (some (1, put_I σ a0 26 (x1)))
set_option maxHeartbeats 4000000 in
set_option maxRecDepth 100000 in
theorem t_X12_law (a0 : Nat) (x1 : Int32) {σ : Sg} (hT : sg_T σ) (h0 : is_A σ a0 11) {r : (Int32 × Sg)} (hf : f_X12_law a0 x1 σ = some r) : Ct yX12_law cX12_law 2 (some .boolean) 1 22 0 0 [vr (some a0), vi x1] σ (fun r_ τ_ => (r_ = some (vi r.1) ∧ (r.1 = 0 ∨ r.1 = 1)) ∧ τ_ = r.2 ∧ sg_T τ_ ∧ sg_E σ τ_) := by
  refine Ct.of (by decide +kernel) (Nat.le_of_ble_eq_true rfl) (fun Γ C1 => ?_)
  have C0 := C1.1
  have hE : sg_E σ σ := sg_E.rf
  unfold f_X12_law at hf
  show J_ Γ 0 [(0, vr (some a0)), (1, vi (x1))] [] σ 0 0
  refine J_iload_n (q := 1) C0 1 rfl rfl dX12_law_0 rfl ?_
  refine J_iconst (q := 2) (v := (-1)) C0 dX12_law_1 rfl rfl ?_
  refine J_aload_n (q := 3) C0 0 rfl rfl dX12_law_2 rfl trivial ?_
  refine J_getI (q := 6) C0 fl_X12_282_11 rfl (h0) rfl dX12_law_3 rfl ?_
  refine J_iconst (q := 7) (v := 1) C0 dX12_law_6 rfl rfl ?_
  refine J_isub (q := 8) C0 dX12_law_7 rfl ?_
  refine K_some hf (fun p1 hp1 hf => ?_)
  refine J_callS (q := 11) (as := [vi (x1), vi ((-1)), vi ((sg_I σ a0 13) - (1))]) (rest := []) C0 (t_X12_in (x1) ((-1)) ((sg_I σ a0 13) - (1))  hp1) ml_X12_in lk_X12_208 sm_X12_in dX12_law_8 rfl rfl rfl (by simp [ac_]) C1.room (by decide) (by decide) (by decide) (by decide) (fun r_ τ_ hQ => ?_)
  obtain ⟨⟨rfl, zp1⟩, ht_⟩ := hQ; have ht_ := ht_.symm; subst ht_
  show J_ Γ 11 [(0, vr (some a0)), (1, vi (x1))] [vi (p1)] σ 0 0
  refine J_if_ne (t := 16) (q := 14) C0 dX12_law_11 (by decide) rfl hf (fun c2 hf => ?_) (fun c2 hf => ?_)
  · refine J_aload_n (q := 17) C0 0 rfl rfl dX12_law_16 rfl trivial ?_
    refine J_iload_n (q := 18) C0 1 rfl rfl dX12_law_17 rfl ?_
    refine J_putI (q := 21) C0 fl_X12_58_11 rfl (h0) rfl dX12_law_18 rfl ?_
    refine J_iconst (q := 22) (v := 1) C0 dX12_law_21 rfl rfl ?_
    obtain rfl := Option.some.inj hf; exact J_zret C1 dX12_law_22 rfl (Or.inr rfl) (Nat.zero_le _) (Nat.zero_le _) ⟨⟨rfl, (Or.inr rfl)⟩, rfl, (hT).putI, (hE).putI⟩
  · refine J_iconst (q := 15) (v := 0) C0 dX12_law_14 rfl rfl ?_
    obtain rfl := Option.some.inj hf; exact J_zret C1 dX12_law_15 rfl (Or.inl rfl) (Nat.zero_le _) (Nat.zero_le _) ⟨⟨rfl, (Or.inl rfl)⟩, rfl, hT, hE⟩
def f_X12_touch (a0 : Nat) (x1 : Int32) (σ : Sg) : Option (Int32 × Sg) :=
  Option.bind (f_X12_in (x1) (0) (9) ) fun p1 =>
  if (p1) = (0) then
  (some (0, σ))
  else
  (if (x1) = (sg_I σ a0 27) then
  (some (0, σ))
  else
  (some (1, put_I σ a0 27 (x1))))
set_option maxHeartbeats 4000000 in
set_option maxRecDepth 100000 in
theorem t_X12_touch (a0 : Nat) (x1 : Int32) {σ : Sg} (hT : sg_T σ) (h0 : is_A σ a0 11) {r : (Int32 × Sg)} (hf : f_X12_touch a0 x1 σ = some r) : Ct yX12_touch cX12_touch 2 (some .boolean) 1 22 0 0 [vr (some a0), vi x1] σ (fun r_ τ_ => (r_ = some (vi r.1) ∧ (r.1 = 0 ∨ r.1 = 1)) ∧ τ_ = r.2 ∧ sg_T τ_ ∧ sg_E σ τ_) := by
  refine Ct.of (by decide +kernel) (Nat.le_of_ble_eq_true rfl) (fun Γ C1 => ?_)
  have C0 := C1.1
  have hE : sg_E σ σ := sg_E.rf
  unfold f_X12_touch at hf
  show J_ Γ 0 [(0, vr (some a0)), (1, vi (x1))] [] σ 0 0
  refine J_iload_n (q := 1) C0 1 rfl rfl dX12_touch_0 rfl ?_
  refine J_iconst (q := 2) (v := 0) C0 dX12_touch_1 rfl rfl ?_
  refine J_bipush (q := 4) (v := 9) C0 dX12_touch_2 rfl rfl ?_
  refine K_some hf (fun p1 hp1 hf => ?_)
  refine J_callS (q := 7) (as := [vi (x1), vi (0), vi (9)]) (rest := []) C0 (t_X12_in (x1) (0) (9)  hp1) ml_X12_in lk_X12_208 sm_X12_in dX12_touch_4 rfl rfl rfl (by simp [ac_]) C1.room (by decide) (by decide) (by decide) (by decide) (fun r_ τ_ hQ => ?_)
  obtain ⟨⟨rfl, zp1⟩, ht_⟩ := hQ; have ht_ := ht_.symm; subst ht_
  show J_ Γ 7 [(0, vr (some a0)), (1, vi (x1))] [vi (p1)] σ 0 0
  refine J_if_eq (t := 18) (q := 10) C0 dX12_touch_7 (by decide) rfl hf (fun c2 hf => ?_) (fun c2 hf => ?_)
  · refine J_iconst (q := 19) (v := 0) C0 dX12_touch_18 rfl rfl ?_
    obtain rfl := Option.some.inj hf; exact J_zret C1 dX12_touch_19 rfl (Or.inl rfl) (Nat.zero_le _) (Nat.zero_le _) ⟨⟨rfl, (Or.inl rfl)⟩, rfl, hT, hE⟩
  · refine J_iload_n (q := 11) C0 1 rfl rfl dX12_touch_10 rfl ?_
    refine J_aload_n (q := 12) C0 0 rfl rfl dX12_touch_11 rfl trivial ?_
    refine J_getI (q := 15) C0 fl_X12_62_11 rfl (h0) rfl dX12_touch_12 rfl ?_
    refine J_icmp_ne (t := 20) (q := 18) C0 dX12_touch_15 (by decide) rfl hf (fun c3 hf => ?_) (fun c3 hf => ?_)
    · refine J_aload_n (q := 21) C0 0 rfl rfl dX12_touch_20 rfl trivial ?_
      refine J_iload_n (q := 22) C0 1 rfl rfl dX12_touch_21 rfl ?_
      refine J_putI (q := 25) C0 fl_X12_62_11 rfl (h0) rfl dX12_touch_22 rfl ?_
      refine J_iconst (q := 26) (v := 1) C0 dX12_touch_25 rfl rfl ?_
      obtain rfl := Option.some.inj hf; exact J_zret C1 dX12_touch_26 rfl (Or.inr rfl) (Nat.zero_le _) (Nat.zero_le _) ⟨⟨rfl, (Or.inr rfl)⟩, rfl, (hT).putI, (hE).putI⟩
    · refine J_iconst (q := 19) (v := 0) C0 dX12_touch_18 rfl rfl ?_
      obtain rfl := Option.some.inj hf; exact J_zret C1 dX12_touch_19 rfl (Or.inl rfl) (Nat.zero_le _) (Nat.zero_le _) ⟨⟨rfl, (Or.inl rfl)⟩, rfl, hT, hE⟩
def f_X12_keep_L54 (N : Nat) (a0 : Nat) : Nat → Int32 → Sg → Option Sg
  | 0, _, _ => none
  | n + 1, v1, σ =>
  if (v1) < (261) then
  (Option.bind (sg_R σ a0 24) fun b3 =>
  if (v1) < 0 ∨ sg_L σ b3 ≤ (v1).toNatClampNeg then none else
  Option.bind (sg_R σ a0 28) fun b5 =>
  if (((261) * (sg_I σ a0 29)) + (v1)) < 0 ∨ sg_L σ b5 ≤ (((261) * (sg_I σ a0 29)) + (v1)).toNatClampNeg then none else
  f_X12_keep_L54 N a0 n (v1 + 1) (put_I σ b5 (((261) * (sg_I σ a0 29)) + (v1)).toNatClampNeg (sg_I σ b3 (v1).toNatClampNeg)))
  else
  (some (put_I σ a0 29 ((sg_I σ a0 29) + (1))))
def f_X12_keep_B52 (N : Nat) (a0 : Nat) (σ : Sg) : Option Sg :=
  f_X12_keep_L54 N a0 N (0) σ
def f_X12_keep_L13 (N : Nat) (a0 : Nat) : Nat → Int32 → Sg → Option Sg
  | 0, _, _ => none
  | n + 1, v1, σ =>
  if (v1) < (10440) then
  (Option.bind (sg_R σ a0 28) fun b8 =>
  if (v1) < 0 ∨ sg_L σ b8 ≤ (v1).toNatClampNeg then none else
  if ((v1) - (261)) < 0 ∨ sg_L σ b8 ≤ ((v1) - (261)).toNatClampNeg then none else
  f_X12_keep_L13 N a0 n (v1 + 1) (put_I σ b8 ((v1) - (261)).toNatClampNeg (sg_I σ b8 (v1).toNatClampNeg)))
  else
  (f_X12_keep_B52 N a0  (put_I σ a0 29 ((sg_I σ a0 29) - (1))))
def f_X12_keep (N : Nat) (a0 : Nat) (σ : Sg) : Option Sg :=
  if (sg_I σ a0 29) = (40) then
  (f_X12_keep_L13 N a0 N (261) σ)
  else
  (f_X12_keep_B52 N a0  σ)
set_option maxHeartbeats 4000000 in
set_option maxRecDepth 100000 in
theorem t_X12_keep_L54 {N : Nat} {a0 : Nat} {Γ : Gm} {σ0 : Sg} {r : Sg} (C1 : CM Γ cX12_keep RX12 2 none 0 0 0 0 (fun r_ τ_ => (r_ = none) ∧ τ_ = r ∧ sg_T τ_ ∧ sg_E σ0 τ_)) : ∀ (n : Nat) (v1 : Int32) (σ : Sg), sg_T σ → sg_E σ0 σ → is_A σ a0 11 → f_X12_keep_L54 N a0  n v1 σ = some r → J_ Γ 54 [(0, vr (some a0)), (1, vi (v1))] [] σ 0 0 := by
  have C0 := C1.1
  intro n
  induction n with
  | zero => intro v1 σ hT hE h0  hf; unfold f_X12_keep_L54 at hf; cases hf
  | succ n ih =>
    intro v1 σ hT hE h0  hf
    rw [f_X12_keep_L54] at hf
    refine J_iload_n (q := 55) C0 1 rfl rfl dX12_keep_54 rfl ?_
    refine J_sipush (q := 58) (v := 261) C0 dX12_keep_55 rfl rfl ?_
    refine J_icmp_ge (t := 88) (q := 61) C0 dX12_keep_58 (by decide) rfl hf (fun c2 hf => ?_) (fun c2 hf => ?_)
    · refine J_aload_n (q := 89) C0 0 rfl rfl dX12_keep_88 rfl trivial ?_
      refine J_dup (q := 90) C0 dX12_keep_89 rfl rfl ?_
      refine J_getI (q := 93) C0 fl_X12_272_11 rfl (h0) rfl dX12_keep_90 rfl ?_
      refine J_iconst (q := 94) (v := 1) C0 dX12_keep_93 rfl rfl ?_
      refine J_iadd (q := 95) C0 dX12_keep_94 rfl ?_
      refine J_putI (q := 98) C0 fl_X12_272_11 rfl (h0) rfl dX12_keep_95 rfl ?_
      obtain rfl := Option.some.inj hf; exact J_vret C1 dX12_keep_98 rfl (Nat.zero_le _) (Nat.zero_le _) ⟨rfl, rfl, (hT).putI, (hE).putI⟩
    · refine J_aload_n (q := 62) C0 0 rfl rfl dX12_keep_61 rfl trivial ?_
      refine J_getR (q := 65) C0 fl_X12_65_11 rfl (h0) rfl dX12_keep_62 rfl ?_
      refine J_sipush (q := 68) (v := 261) C0 dX12_keep_65 rfl rfl ?_
      refine J_aload_n (q := 69) C0 0 rfl rfl dX12_keep_68 rfl trivial ?_
      refine J_getI (q := 72) C0 fl_X12_272_11 rfl (h0) rfl dX12_keep_69 rfl ?_
      refine J_imul (q := 73) C0 dX12_keep_72 rfl ?_
      refine J_iload_n (q := 74) C0 1 rfl rfl dX12_keep_73 rfl ?_
      refine J_iadd (q := 75) C0 dX12_keep_74 rfl ?_
      refine J_aload_n (q := 76) C0 0 rfl rfl dX12_keep_75 rfl trivial ?_
      refine J_getR (q := 79) C0 fl_X12_52_11 rfl (h0) rfl dX12_keep_76 rfl ?_
      refine J_iload_n (q := 80) C0 1 rfl rfl dX12_keep_79 rfl ?_
      refine K_some hf (fun b3 hb3 hf => ?_)
      have ab3 : is_A σ b3 12 := ((sg_T.op hT (j := 24) (h0) rfl)) b3 hb3
      refine K_chk hf (fun c4 hf => ?_)
      refine J_iald (q := 81) C0 hb3 (ab3) c4 dX12_keep_80 rfl ?_
      refine K_some hf (fun b5 hb5 hf => ?_)
      have ab5 : is_A σ b5 12 := ((sg_T.op hT (j := 28) (h0) rfl)) b5 hb5
      refine K_chk hf (fun c6 hf => ?_)
      refine J_iast (q := 82) C0 hb5 (ab5) c6 dX12_keep_81 rfl ?_
      refine J_iinc (q := 85) (v := v1 + 1) (lv' := [(1, vi (v1 + 1)), (0, vr (some a0))]) C0 1 rfl rfl (G_nl C1 (by decide)) dX12_keep_82 rfl rfl ?_
      refine J_goto (q := 54) C0 dX12_keep_85 (by decide) ?_
      refine J_sub (lv' := [(0, vr (some a0)), (1, vi (v1 + 1))]) [1, 0] rfl ?_
      exact ih (v1 + 1) (put_I σ b5 (((261) * (sg_I σ a0 29)) + (v1)).toNatClampNeg (sg_I σ b3 (v1).toNatClampNeg)) ((hT).putI) ((hE).putI) ((h0).putI)  hf
set_option maxHeartbeats 4000000 in
set_option maxRecDepth 100000 in
theorem t_X12_keep_B52 {N : Nat} {a0 : Nat} {Γ : Gm} {σ0 : Sg} {r : Sg} (C1 : CM Γ cX12_keep RX12 2 none 0 0 0 0 (fun r_ τ_ => (r_ = none) ∧ τ_ = r ∧ sg_T τ_ ∧ sg_E σ0 τ_)) (σ : Sg) (hT : sg_T σ) (hE : sg_E σ0 σ) (h0 : is_A σ a0 11) (hf : f_X12_keep_B52 N a0   σ = some r) : J_ Γ 52 [(0, vr (some a0))] [] σ 0 0 := by
  have C0 := C1.1
  unfold f_X12_keep_B52 at hf
  refine J_iconst (q := 53) (v := 0) C0 dX12_keep_52 rfl rfl ?_
  refine J_istore_n (q := 54) (lv' := [(1, vi (0)), (0, vr (some a0))]) C0 rfl (G_nl C1 (by decide)) dX12_keep_53 rfl rfl ?_
  refine J_sub (lv' := [(0, vr (some a0)), (1, vi (0))]) [1, 0] rfl ?_
  exact t_X12_keep_L54 C1    N (0) σ (hT) (hE) (h0)  hf
set_option maxHeartbeats 4000000 in
set_option maxRecDepth 100000 in
theorem t_X12_keep_L13 {N : Nat} {a0 : Nat} {Γ : Gm} {σ0 : Sg} {r : Sg} (C1 : CM Γ cX12_keep RX12 2 none 0 0 0 0 (fun r_ τ_ => (r_ = none) ∧ τ_ = r ∧ sg_T τ_ ∧ sg_E σ0 τ_)) : ∀ (n : Nat) (v1 : Int32) (σ : Sg), sg_T σ → sg_E σ0 σ → is_A σ a0 11 → f_X12_keep_L13 N a0  n v1 σ = some r → J_ Γ 13 [(0, vr (some a0)), (1, vi (v1))] [] σ 0 0 := by
  have C0 := C1.1
  intro n
  induction n with
  | zero => intro v1 σ hT hE h0  hf; unfold f_X12_keep_L13 at hf; cases hf
  | succ n ih =>
    intro v1 σ hT hE h0  hf
    rw [f_X12_keep_L13] at hf
    refine J_iload_n (q := 14) C0 1 rfl rfl dX12_keep_13 rfl ?_
    refine J_sipush (q := 17) (v := 10440) C0 dX12_keep_14 rfl rfl ?_
    refine J_icmp_ge (t := 42) (q := 20) C0 dX12_keep_17 (by decide) rfl hf (fun c7 hf => ?_) (fun c7 hf => ?_)
    · refine J_aload_n (q := 43) C0 0 rfl rfl dX12_keep_42 rfl trivial ?_
      refine J_dup (q := 44) C0 dX12_keep_43 rfl rfl ?_
      refine J_getI (q := 47) C0 fl_X12_272_11 rfl (h0) rfl dX12_keep_44 rfl ?_
      refine J_iconst (q := 48) (v := 1) C0 dX12_keep_47 rfl rfl ?_
      refine J_isub (q := 49) C0 dX12_keep_48 rfl ?_
      refine J_putI (q := 52) C0 fl_X12_272_11 rfl (h0) rfl dX12_keep_49 rfl ?_
      refine J_sub (lv' := [(0, vr (some a0))]) [0] rfl ?_
      exact t_X12_keep_B52 C1     (put_I σ a0 29 ((sg_I σ a0 29) - (1))) ((hT).putI) ((hE).putI) ((h0).putI)  hf
    · refine J_aload_n (q := 21) C0 0 rfl rfl dX12_keep_20 rfl trivial ?_
      refine J_getR (q := 24) C0 fl_X12_65_11 rfl (h0) rfl dX12_keep_21 rfl ?_
      refine J_iload_n (q := 25) C0 1 rfl rfl dX12_keep_24 rfl ?_
      refine J_sipush (q := 28) (v := 261) C0 dX12_keep_25 rfl rfl ?_
      refine J_isub (q := 29) C0 dX12_keep_28 rfl ?_
      refine J_aload_n (q := 30) C0 0 rfl rfl dX12_keep_29 rfl trivial ?_
      refine J_getR (q := 33) C0 fl_X12_65_11 rfl (h0) rfl dX12_keep_30 rfl ?_
      refine J_iload_n (q := 34) C0 1 rfl rfl dX12_keep_33 rfl ?_
      refine K_some hf (fun b8 hb8 hf => ?_)
      have ab8 : is_A σ b8 12 := ((sg_T.op hT (j := 28) (h0) rfl)) b8 hb8
      refine K_chk hf (fun c9 hf => ?_)
      refine J_iald (q := 35) C0 hb8 (ab8) c9 dX12_keep_34 rfl ?_
      refine K_chk hf (fun c10 hf => ?_)
      refine J_iast (q := 36) C0 hb8 (ab8) c10 dX12_keep_35 rfl ?_
      refine J_iinc (q := 39) (v := v1 + 1) (lv' := [(1, vi (v1 + 1)), (0, vr (some a0))]) C0 1 rfl rfl (G_nl C1 (by decide)) dX12_keep_36 rfl rfl ?_
      refine J_goto (q := 13) C0 dX12_keep_39 (by decide) ?_
      refine J_sub (lv' := [(0, vr (some a0)), (1, vi (v1 + 1))]) [1, 0] rfl ?_
      exact ih (v1 + 1) (put_I σ b8 ((v1) - (261)).toNatClampNeg (sg_I σ b8 (v1).toNatClampNeg)) ((hT).putI) ((hE).putI) ((h0).putI)  hf
set_option maxHeartbeats 4000000 in
set_option maxRecDepth 100000 in
theorem t_X12_keep (N : Nat) (a0 : Nat) {σ : Sg} (hT : sg_T σ) (h0 : is_A σ a0 11) {r : Sg} (hf : f_X12_keep N a0  σ = some r) : Ct yX12_keep cX12_keep 2 none 0 0 0 0 [vr (some a0)] σ (fun r_ τ_ => (r_ = none) ∧ τ_ = r ∧ sg_T τ_ ∧ sg_E σ τ_) := by
  refine Ct.of (by decide +kernel) (Nat.le_of_ble_eq_true rfl) (fun Γ C1 => ?_)
  have C0 := C1.1
  have hE : sg_E σ σ := sg_E.rf
  unfold f_X12_keep at hf
  show J_ Γ 0 [(0, vr (some a0))] [] σ 0 0
  refine J_aload_n (q := 1) C0 0 rfl rfl dX12_keep_0 rfl trivial ?_
  refine J_getI (q := 4) C0 fl_X12_272_11 rfl (h0) rfl dX12_keep_1 rfl ?_
  refine J_bipush (q := 6) (v := 40) C0 dX12_keep_4 rfl rfl ?_
  refine J_icmp_ne (t := 52) (q := 9) C0 dX12_keep_6 (by decide) rfl hf (fun c1 hf => ?_) (fun c1 hf => ?_)
  · exact t_X12_keep_B52 C1     σ (hT) (hE) (h0)  hf
  · refine J_sipush (q := 12) (v := 261) C0 dX12_keep_9 rfl rfl ?_
    refine J_istore_n (q := 13) (lv' := [(1, vi (261)), (0, vr (some a0))]) C0 rfl (G_nl C1 (by decide)) dX12_keep_12 rfl rfl ?_
    refine J_sub (lv' := [(0, vr (some a0)), (1, vi (261))]) [1, 0] rfl ?_
    exact t_X12_keep_L13 C1    N (261) σ (hT) (hE) (h0)  hf
def f_X12_isRefused_B15 (a0 : Nat) (v1 : Int32) (σ : Sg) : Option (Int32 × Sg) :=
  if (v1) = ((-1)) then
  (some (0, σ))
  else
  (some (1, σ))
def f_X12_isRefused (a0 : Nat) (x1 : Int32) (σ : Sg) : Option (Int32 × Sg) :=
  if (x1) = ((-1)) then
  (f_X12_isRefused_B15 a0 (x1) σ)
  else
  (Option.bind (sg_R σ a0 25) fun b3 =>
  if (x1) < 0 ∨ sg_L σ b3 ≤ (x1).toNatClampNeg then none else
  if (x1) < 0 ∨ sg_L σ b3 ≤ (x1).toNatClampNeg then none else
  f_X12_isRefused_B15 a0 (x1) (put_I σ b3 (x1).toNatClampNeg ((sg_I σ b3 (x1).toNatClampNeg) + (1))))
set_option maxHeartbeats 4000000 in
set_option maxRecDepth 100000 in
theorem t_X12_isRefused_B15 {a0 : Nat} {Γ : Gm} {σ0 : Sg} {r : (Int32 × Sg)} (C1 : CM Γ cX12_isRefused RX12 2 (some .boolean) 0 0 0 0 (fun r_ τ_ => (r_ = some (vi r.1) ∧ (r.1 = 0 ∨ r.1 = 1)) ∧ τ_ = r.2 ∧ sg_T τ_ ∧ sg_E σ0 τ_)) (v1 : Int32) (σ : Sg) (hT : sg_T σ) (hE : sg_E σ0 σ) (h0 : is_A σ a0 11) (hf : f_X12_isRefused_B15 a0  v1 σ = some r) : J_ Γ 15 [(0, vr (some a0)), (1, vi (v1))] [] σ 0 0 := by
  have C0 := C1.1
  unfold f_X12_isRefused_B15 at hf
  refine J_iload_n (q := 16) C0 1 rfl rfl dX12_isRefused_15 rfl ?_
  refine J_iconst (q := 17) (v := (-1)) C0 dX12_isRefused_16 rfl rfl ?_
  refine J_icmp_eq (t := 24) (q := 20) C0 dX12_isRefused_17 (by decide) rfl hf (fun c2 hf => ?_) (fun c2 hf => ?_)
  · refine J_iconst (q := 25) (v := 0) C0 dX12_isRefused_24 rfl rfl ?_
    obtain rfl := Option.some.inj hf; exact J_zret C1 dX12_isRefused_25 rfl (Or.inl rfl) (Nat.zero_le _) (Nat.zero_le _) ⟨⟨rfl, (Or.inl rfl)⟩, rfl, hT, hE⟩
  · refine J_iconst (q := 21) (v := 1) C0 dX12_isRefused_20 rfl rfl ?_
    refine J_goto (q := 25) C0 dX12_isRefused_21 (by decide) ?_
    obtain rfl := Option.some.inj hf; exact J_zret C1 dX12_isRefused_25 rfl (Or.inr rfl) (Nat.zero_le _) (Nat.zero_le _) ⟨⟨rfl, (Or.inr rfl)⟩, rfl, hT, hE⟩
set_option maxHeartbeats 4000000 in
set_option maxRecDepth 100000 in
theorem t_X12_isRefused (a0 : Nat) (x1 : Int32) {σ : Sg} (hT : sg_T σ) (h0 : is_A σ a0 11) {r : (Int32 × Sg)} (hf : f_X12_isRefused a0 x1 σ = some r) : Ct yX12_isRefused cX12_isRefused 2 (some .boolean) 0 0 0 0 [vr (some a0), vi x1] σ (fun r_ τ_ => (r_ = some (vi r.1) ∧ (r.1 = 0 ∨ r.1 = 1)) ∧ τ_ = r.2 ∧ sg_T τ_ ∧ sg_E σ τ_) := by
  refine Ct.of (by decide +kernel) (Nat.le_of_ble_eq_true rfl) (fun Γ C1 => ?_)
  have C0 := C1.1
  have hE : sg_E σ σ := sg_E.rf
  unfold f_X12_isRefused at hf
  show J_ Γ 0 [(0, vr (some a0)), (1, vi (x1))] [] σ 0 0
  refine J_iload_n (q := 1) C0 1 rfl rfl dX12_isRefused_0 rfl ?_
  refine J_iconst (q := 2) (v := (-1)) C0 dX12_isRefused_1 rfl rfl ?_
  refine J_icmp_eq (t := 15) (q := 5) C0 dX12_isRefused_2 (by decide) rfl hf (fun c1 hf => ?_) (fun c1 hf => ?_)
  · exact t_X12_isRefused_B15 C1    (x1) σ (hT) (hE) (h0)  hf
  · refine J_aload_n (q := 6) C0 0 rfl rfl dX12_isRefused_5 rfl trivial ?_
    refine J_getR (q := 9) C0 fl_X12_55_11 rfl (h0) rfl dX12_isRefused_6 rfl ?_
    refine J_iload_n (q := 10) C0 1 rfl rfl dX12_isRefused_9 rfl ?_
    refine J_dup2 (q := 11) C0 dX12_isRefused_10 rfl rfl rfl ?_
    refine K_some hf (fun b3 hb3 hf => ?_)
    have ab3 : is_A σ b3 12 := ((sg_T.op hT (j := 25) (h0) rfl)) b3 hb3
    refine K_chk hf (fun c4 hf => ?_)
    refine J_iald (q := 12) C0 hb3 (ab3) c4 dX12_isRefused_11 rfl ?_
    refine J_iconst (q := 13) (v := 1) C0 dX12_isRefused_12 rfl rfl ?_
    refine J_iadd (q := 14) C0 dX12_isRefused_13 rfl ?_
    refine K_chk hf (fun c5 hf => ?_)
    refine J_iast (q := 15) C0 hb3 (ab3) c5 dX12_isRefused_14 rfl ?_
    exact t_X12_isRefused_B15 C1    (x1) (put_I σ b3 (x1).toNatClampNeg ((sg_I σ b3 (x1).toNatClampNeg) + (1))) ((hT).putI) ((hE).putI) ((h0).putI)  hf
def f_X12_areTicks (a0 : Nat) (x1 : Int32) (σ : Sg) : Option Int32 :=
  Option.bind (f_X12_in (x1) (1) (60) ) fun p1 =>
  if (p1) = (0) then
  (some (0))
  else
  (Option.bind (sg_R σ a0 24) fun b3 =>
  if (19 : Int32) < 0 ∨ sg_L σ b3 ≤ (19 : Int32).toNatClampNeg then none else
  if (9999) < ((sg_I σ b3 (19 : Int32).toNatClampNeg) + (x1)) then
  (some (0))
  else
  (some (1)))
set_option maxHeartbeats 4000000 in
set_option maxRecDepth 100000 in
theorem t_X12_areTicks (a0 : Nat) (x1 : Int32) {σ : Sg} (hT : sg_T σ) (h0 : is_A σ a0 11) {r : Int32} (hf : f_X12_areTicks a0 x1 σ = some r) : Ct yX12_areTicks cX12_areTicks 2 (some .boolean) 1 22 0 0 [vr (some a0), vi x1] σ (fun r_ τ_ => (r_ = some (vi r) ∧ (r = 0 ∨ r = 1)) ∧ τ_ = σ) := by
  refine Ct.of (by decide +kernel) (Nat.le_of_ble_eq_true rfl) (fun Γ C1 => ?_)
  have C0 := C1.1
  unfold f_X12_areTicks at hf
  show J_ Γ 0 [(0, vr (some a0)), (1, vi (x1))] [] σ 0 0
  refine J_iload_n (q := 1) C0 1 rfl rfl dX12_areTicks_0 rfl ?_
  refine J_iconst (q := 2) (v := 1) C0 dX12_areTicks_1 rfl rfl ?_
  refine J_bipush (q := 4) (v := 60) C0 dX12_areTicks_2 rfl rfl ?_
  refine K_some hf (fun p1 hp1 hf => ?_)
  refine J_callS (q := 7) (as := [vi (x1), vi (1), vi (60)]) (rest := []) C0 (t_X12_in (x1) (1) (60)  hp1) ml_X12_in lk_X12_208 sm_X12_in dX12_areTicks_4 rfl rfl rfl (by simp [ac_]) C1.room (by decide) (by decide) (by decide) (by decide) (fun r_ τ_ hQ => ?_)
  obtain ⟨⟨rfl, zp1⟩, ht_⟩ := hQ; have ht_ := ht_.symm; subst ht_
  show J_ Γ 7 [(0, vr (some a0)), (1, vi (x1))] [vi (p1)] σ 0 0
  refine J_if_eq (t := 29) (q := 10) C0 dX12_areTicks_7 (by decide) rfl hf (fun c2 hf => ?_) (fun c2 hf => ?_)
  · refine J_iconst (q := 30) (v := 0) C0 dX12_areTicks_29 rfl rfl ?_
    obtain rfl := Option.some.inj hf; exact J_zret C1 dX12_areTicks_30 rfl (Or.inl rfl) (Nat.zero_le _) (Nat.zero_le _) ⟨⟨rfl, (Or.inl rfl)⟩, rfl⟩
  · refine J_aload_n (q := 11) C0 0 rfl rfl dX12_areTicks_10 rfl trivial ?_
    refine J_getR (q := 14) C0 fl_X12_52_11 rfl (h0) rfl dX12_areTicks_11 rfl ?_
    refine J_bipush (q := 16) (v := 19) C0 dX12_areTicks_14 rfl rfl ?_
    refine K_some hf (fun b3 hb3 hf => ?_)
    have ab3 : is_A σ b3 12 := ((sg_T.op hT (j := 24) (h0) rfl)) b3 hb3
    refine K_chk hf (fun c4 hf => ?_)
    refine J_iald (q := 17) C0 hb3 (ab3) c4 dX12_areTicks_16 rfl ?_
    refine J_iload_n (q := 18) C0 1 rfl rfl dX12_areTicks_17 rfl ?_
    refine J_iadd (q := 19) C0 dX12_areTicks_18 rfl ?_
    refine J_sipush (q := 22) (v := 9999) C0 dX12_areTicks_19 rfl rfl ?_
    refine J_icmp_gt (t := 29) (q := 25) C0 dX12_areTicks_22 (by decide) rfl hf (fun c5 hf => ?_) (fun c5 hf => ?_)
    · refine J_iconst (q := 30) (v := 0) C0 dX12_areTicks_29 rfl rfl ?_
      obtain rfl := Option.some.inj hf; exact J_zret C1 dX12_areTicks_30 rfl (Or.inl rfl) (Nat.zero_le _) (Nat.zero_le _) ⟨⟨rfl, (Or.inl rfl)⟩, rfl⟩
    · refine J_iconst (q := 26) (v := 1) C0 dX12_areTicks_25 rfl rfl ?_
      refine J_goto (q := 30) C0 dX12_areTicks_26 (by decide) ?_
      obtain rfl := Option.some.inj hf; exact J_zret C1 dX12_areTicks_30 rfl (Or.inr rfl) (Nat.zero_le _) (Nat.zero_le _) ⟨⟨rfl, (Or.inr rfl)⟩, rfl⟩
def f_X12_ticks_L49 (N : Nat) (a0 : Nat) : Nat → Int32 → Int32 → Sg → Option (Int32 × Sg)
  | 0, _, _, _ => none
  | n + 1, v1, v2, σ =>
  if (v2) < (v1) then
  (Option.bind (f_X12_keep N a0  σ) fun p12 =>
  Option.bind (f_X12_passTick N a0  p12) fun p13 =>
  f_X12_ticks_L49 N a0 n (v1) (v2 + 1) (p13))
  else
  (Option.bind (sg_R σ a0 24) fun b10 =>
  if (19 : Int32) < 0 ∨ sg_L σ b10 ≤ (19 : Int32).toNatClampNeg then none else
  some (sg_I σ b10 (19 : Int32).toNatClampNeg, σ))
def f_X12_ticks_B39 (N : Nat) (a0 : Nat) (v1 : Int32) (s0 : Int32) (s1 : Option Nat) (σ : Sg) : Option (Int32 × Sg) :=
  Option.bind (s1) fun b6 =>
  Option.bind (f_X12_isRefused b6 (s0) σ) fun p7 =>
  if (p7.1) = (0) then
  (f_X12_ticks_L49 N a0 N (v1) (0) (p7.2))
  else
  (some ((-1), p7.2))
def f_X12_ticks (N : Nat) (a0 : Nat) (x1 : Int32) (σ : Sg) : Option (Int32 × Sg) :=
  if (sg_I σ a0 20) = (0) then
  (f_X12_ticks_B39 N a0 (x1) (0) (some a0) σ)
  else
  (Option.bind (f_X12_in (x1) (1) (60) ) fun p2 =>
  if (p2) = (0) then
  (f_X12_ticks_B39 N a0 (x1) (1) (some a0) σ)
  else
  (Option.bind (f_X12_areTicks a0 (x1) σ) fun p4 =>
  if (p4) = (0) then
  (f_X12_ticks_B39 N a0 (x1) (4) (some a0) σ)
  else
  (f_X12_ticks_B39 N a0 (x1) ((-1)) (some a0) σ)))
set_option maxHeartbeats 4000000 in
set_option maxRecDepth 100000 in
theorem t_X12_ticks_L49 {N : Nat} {a0 : Nat} {Γ : Gm} {σ0 : Sg} {r : (Int32 × Sg)} (C1 : CM Γ cX12_ticks RX12 3 (some .int) 8 183 0 0 (fun r_ τ_ => (r_ = some (vi r.1)) ∧ τ_ = r.2 ∧ sg_T τ_ ∧ sg_E σ0 τ_)) : ∀ (n : Nat) (v1 : Int32) (v2 : Int32) (σ : Sg), sg_T σ → sg_E σ0 σ → is_A σ a0 11 → f_X12_ticks_L49 N a0  n v1 v2 σ = some r → J_ Γ 49 [(0, vr (some a0)), (1, vi (v1)), (2, vi (v2))] [] σ 0 0 := by
  have C0 := C1.1
  intro n
  induction n with
  | zero => intro v1 v2 σ hT hE h0  hf; unfold f_X12_ticks_L49 at hf; cases hf
  | succ n ih =>
    intro v1 v2 σ hT hE h0  hf
    rw [f_X12_ticks_L49] at hf
    refine J_iload_n (q := 50) C0 2 rfl rfl dX12_ticks_49 rfl ?_
    refine J_iload_n (q := 51) C0 1 rfl rfl dX12_ticks_50 rfl ?_
    refine J_icmp_ge (t := 68) (q := 54) C0 dX12_ticks_51 (by decide) rfl hf (fun c9 hf => ?_) (fun c9 hf => ?_)
    · refine J_aload_n (q := 69) C0 0 rfl rfl dX12_ticks_68 rfl trivial ?_
      refine J_getR (q := 72) C0 fl_X12_52_11 rfl (h0) rfl dX12_ticks_69 rfl ?_
      refine J_bipush (q := 74) (v := 19) C0 dX12_ticks_72 rfl rfl ?_
      refine K_some hf (fun b10 hb10 hf => ?_)
      have ab10 : is_A σ b10 12 := ((sg_T.op hT (j := 24) (h0) rfl)) b10 hb10
      refine K_chk hf (fun c11 hf => ?_)
      refine J_iald (q := 75) C0 hb10 (ab10) c11 dX12_ticks_74 rfl ?_
      obtain rfl := Option.some.inj hf; exact J_iret C1 dX12_ticks_75 rfl (Nat.zero_le _) (Nat.zero_le _) ⟨rfl, rfl, hT, hE⟩
    · refine J_aload_n (q := 55) C0 0 rfl rfl dX12_ticks_54 rfl trivial ?_
      refine K_some hf (fun p12 hp12 hf => ?_)
      refine J_callV (q := 58) (ci := 11) (as := []) (rest := []) C0 rfl (h0) (t_X12_keep N a0  (hT) (h0)  hp12) ml_X12_keep lk_X12_319 im_X12_keep se_X12_keep rfl (by decide) dX12_ticks_55 rfl rfl rfl (by simp [ac_]) C1.room (by decide) (by decide) (by decide) (by decide) (fun r_ τ_ hQ => ?_)
      obtain ⟨rfl, ht_, Tp12, Ep12⟩ := hQ; have ht_ := ht_.symm; subst ht_
      show J_ Γ 58 [(0, vr (some a0)), (1, vi (v1)), (2, vi (v2))] [] p12 0 0
      refine J_aload_n (q := 59) C0 0 rfl rfl dX12_ticks_58 rfl trivial ?_
      refine K_some hf (fun p13 hp13 hf => ?_)
      refine J_callV (q := 62) (ci := 11) (as := []) (rest := []) C0 rfl ((Ep12.at h0)) (t_X12_passTick N a0  (Tp12) ((Ep12.at h0))  hp13) ml_X12_passTick lk_X12_322 im_X12_passTick se_X12_passTick rfl (by decide) dX12_ticks_59 rfl rfl rfl (by simp [ac_]) C1.room (by decide) (by decide) (by decide) (by decide) (fun r_ τ_ hQ => ?_)
      obtain ⟨rfl, ht_, Tp13, Ep13⟩ := hQ; have ht_ := ht_.symm; subst ht_
      show J_ Γ 62 [(0, vr (some a0)), (1, vi (v1)), (2, vi (v2))] [] p13 0 0
      refine J_iinc (q := 65) (v := v2 + 1) (lv' := [(2, vi (v2 + 1)), (0, vr (some a0)), (1, vi (v1))]) C0 2 rfl rfl (G_nl C1 (by decide)) dX12_ticks_62 rfl rfl ?_
      refine J_goto (q := 49) C0 dX12_ticks_65 (by decide) ?_
      refine J_sub (lv' := [(0, vr (some a0)), (1, vi (v1)), (2, vi (v2 + 1))]) [1, 2, 0] rfl ?_
      exact ih (v1) (v2 + 1) (p13) (Tp13) (((hE).tr Ep12).tr Ep13) ((Ep13.at (Ep12.at h0)))  hf
set_option maxHeartbeats 4000000 in
set_option maxRecDepth 100000 in
theorem t_X12_ticks_B39 {N : Nat} {a0 : Nat} {Γ : Gm} {σ0 : Sg} {r : (Int32 × Sg)} (C1 : CM Γ cX12_ticks RX12 3 (some .int) 8 183 0 0 (fun r_ τ_ => (r_ = some (vi r.1)) ∧ τ_ = r.2 ∧ sg_T τ_ ∧ sg_E σ0 τ_)) (v1 : Int32) (s0 : Int32) (s1 : Option Nat) (σ : Sg) (hT : sg_T σ) (hE : sg_E σ0 σ) (h0 : is_A σ a0 11) (g_s1 : is_O σ s1 11) (hf : f_X12_ticks_B39 N a0  v1 s0 s1 σ = some r) : J_ Γ 39 [(0, vr (some a0)), (1, vi (v1))] [vi (s0), vr (s1)] σ 0 0 := by
  have C0 := C1.1
  unfold f_X12_ticks_B39 at hf
  refine K_some hf (fun b6 hb6 hf => ?_)
  have ab6 : is_A σ b6 11 := (g_s1) b6 hb6
  refine K_some hf (fun p7 hp7 hf => ?_)
  refine J_callV (q := 42) (ci := 11) (as := [vi (s0)]) (rest := []) C0 hb6 (ab6) (t_X12_isRefused b6 (s0) (hT) (ab6)  hp7) ml_X12_isRefused lk_X12_316 im_X12_isRefused se_X12_isRefused rfl (by decide) dX12_ticks_39 rfl rfl rfl (by simp [ac_]) C1.room (by decide) (by decide) (by decide) (by decide) (fun r_ τ_ hQ => ?_)
  obtain ⟨⟨rfl, zp7⟩, rfl, Tp7, Ep7⟩ := hQ
  show J_ Γ 42 [(0, vr (some a0)), (1, vi (v1))] [vi (p7.1)] p7.2 0 0
  refine J_if_eq (t := 47) (q := 45) C0 dX12_ticks_42 (by decide) rfl hf (fun c8 hf => ?_) (fun c8 hf => ?_)
  · refine J_iconst (q := 48) (v := 0) C0 dX12_ticks_47 rfl rfl ?_
    refine J_istore_n (q := 49) (lv' := [(2, vi (0)), (0, vr (some a0)), (1, vi (v1))]) C0 rfl (G_nl C1 (by decide)) dX12_ticks_48 rfl rfl ?_
    refine J_sub (lv' := [(0, vr (some a0)), (1, vi (v1)), (2, vi (0))]) [1, 2, 0] rfl ?_
    exact t_X12_ticks_L49 C1    N (v1) (0) (p7.2) (Tp7) ((hE).tr Ep7) ((Ep7.at h0))  hf
  · refine J_iconst (q := 46) (v := (-1)) C0 dX12_ticks_45 rfl rfl ?_
    obtain rfl := Option.some.inj hf; exact J_iret C1 dX12_ticks_46 rfl (Nat.zero_le _) (Nat.zero_le _) ⟨rfl, rfl, Tp7, (hE).tr Ep7⟩
set_option maxHeartbeats 4000000 in
set_option maxRecDepth 100000 in
theorem t_X12_ticks (N : Nat) (a0 : Nat) (x1 : Int32) {σ : Sg} (hT : sg_T σ) (h0 : is_A σ a0 11) {r : (Int32 × Sg)} (hf : f_X12_ticks N a0 x1 σ = some r) : Ct yX12_ticks cX12_ticks 3 (some .int) 8 183 0 0 [vr (some a0), vi x1] σ (fun r_ τ_ => (r_ = some (vi r.1)) ∧ τ_ = r.2 ∧ sg_T τ_ ∧ sg_E σ τ_) := by
  refine Ct.of (by decide +kernel) (Nat.le_of_ble_eq_true rfl) (fun Γ C1 => ?_)
  have C0 := C1.1
  have hE : sg_E σ σ := sg_E.rf
  unfold f_X12_ticks at hf
  show J_ Γ 0 [(0, vr (some a0)), (1, vi (x1))] [] σ 0 0
  refine J_aload_n (q := 1) C0 0 rfl rfl dX12_ticks_0 rfl trivial ?_
  refine J_aload_n (q := 2) C0 0 rfl rfl dX12_ticks_1 rfl trivial ?_
  refine J_getI (q := 5) C0 fl_X12_263_11 rfl (h0) rfl dX12_ticks_2 rfl ?_
  refine J_if_ne (t := 12) (q := 8) C0 dX12_ticks_5 (by decide) rfl hf (fun c1 hf => ?_) (fun c1 hf => ?_)
  · refine J_iload_n (q := 13) C0 1 rfl rfl dX12_ticks_12 rfl ?_
    refine J_iconst (q := 14) (v := 1) C0 dX12_ticks_13 rfl rfl ?_
    refine J_bipush (q := 16) (v := 60) C0 dX12_ticks_14 rfl rfl ?_
    refine K_some hf (fun p2 hp2 hf => ?_)
    refine J_callS (q := 19) (as := [vi (x1), vi (1), vi (60)]) (rest := [vr (some a0)]) C0 (t_X12_in (x1) (1) (60)  hp2) ml_X12_in lk_X12_208 sm_X12_in dX12_ticks_16 rfl rfl rfl (by simp [ac_]) C1.room (by decide) (by decide) (by decide) (by decide) (fun r_ τ_ hQ => ?_)
    obtain ⟨⟨rfl, zp2⟩, ht_⟩ := hQ; have ht_ := ht_.symm; subst ht_
    show J_ Γ 19 [(0, vr (some a0)), (1, vi (x1))] [vi (p2), vr (some a0)] σ 0 0
    refine J_if_ne (t := 26) (q := 22) C0 dX12_ticks_19 (by decide) rfl hf (fun c3 hf => ?_) (fun c3 hf => ?_)
    · refine J_aload_n (q := 27) C0 0 rfl rfl dX12_ticks_26 rfl trivial ?_
      refine J_iload_n (q := 28) C0 1 rfl rfl dX12_ticks_27 rfl ?_
      refine K_some hf (fun p4 hp4 hf => ?_)
      refine J_callV (q := 31) (ci := 11) (as := [vi (x1)]) (rest := [vr (some a0)]) C0 rfl (h0) (t_X12_areTicks a0 (x1) (hT) (h0)  hp4) ml_X12_areTicks lk_X12_313 im_X12_areTicks se_X12_areTicks rfl (by decide) dX12_ticks_28 rfl rfl rfl (by simp [ac_]) C1.room (by decide) (by decide) (by decide) (by decide) (fun r_ τ_ hQ => ?_)
      obtain ⟨⟨rfl, zp4⟩, ht_⟩ := hQ; have ht_ := ht_.symm; subst ht_
      show J_ Γ 31 [(0, vr (some a0)), (1, vi (x1))] [vi (p4), vr (some a0)] σ 0 0
      refine J_if_ne (t := 38) (q := 34) C0 dX12_ticks_31 (by decide) rfl hf (fun c5 hf => ?_) (fun c5 hf => ?_)
      · refine J_iconst (q := 39) (v := (-1)) C0 dX12_ticks_38 rfl rfl ?_
        exact t_X12_ticks_B39 C1    (x1) ((-1)) (some a0) σ (hT) (hE) (h0) (is_O.some (h0)) hf
      · refine J_iconst (q := 35) (v := 4) C0 dX12_ticks_34 rfl rfl ?_
        refine J_goto (q := 39) C0 dX12_ticks_35 (by decide) ?_
        exact t_X12_ticks_B39 C1    (x1) (4) (some a0) σ (hT) (hE) (h0) (is_O.some (h0)) hf
    · refine J_iconst (q := 23) (v := 1) C0 dX12_ticks_22 rfl rfl ?_
      refine J_goto (q := 39) C0 dX12_ticks_23 (by decide) ?_
      exact t_X12_ticks_B39 C1    (x1) (1) (some a0) σ (hT) (hE) (h0) (is_O.some (h0)) hf
  · refine J_iconst (q := 9) (v := 0) C0 dX12_ticks_8 rfl rfl ?_
    refine J_goto (q := 39) C0 dX12_ticks_9 (by decide) ?_
    exact t_X12_ticks_B39 C1    (x1) (0) (some a0) σ (hT) (hE) (h0) (is_O.some (h0)) hf
def f_X12_flash_B42 (N : Nat) (a0 : Nat) (v1 : Int32) (s0 : Int32) (s1 : Option Nat) (σ : Sg) : Option (Int32 × Sg) :=
  Option.bind (s1) fun b7 =>
  Option.bind (f_X12_isRefused b7 (s0) σ) fun p8 =>
  if (p8.1) = (0) then
  (Option.bind (f_X12_keep N a0  p8.2) fun p10 =>
  Option.bind (sg_R p10 a0 24) fun b11 =>
  if (16 : Int32) < 0 ∨ sg_L p10 b11 ≤ (16 : Int32).toNatClampNeg then none else
  if (16 : Int32) < 0 ∨ sg_L p10 b11 ≤ (16 : Int32).toNatClampNeg then none else
  some (sg_I p10 b11 (16 : Int32).toNatClampNeg, put_I p10 b11 (16 : Int32).toNatClampNeg (v1)))
  else
  (some ((-1), p8.2))
def f_X12_flash (N : Nat) (a0 : Nat) (x1 : Int32) (σ : Sg) : Option (Int32 × Sg) :=
  if (sg_I σ a0 20) = (0) then
  (f_X12_flash_B42 N a0 (x1) (0) (some a0) σ)
  else
  (Option.bind (f_X12_in (x1) (1) (60) ) fun p2 =>
  if (p2) = (0) then
  (f_X12_flash_B42 N a0 (x1) (1) (some a0) σ)
  else
  (Option.bind (sg_R σ a0 24) fun b4 =>
  if (16 : Int32) < 0 ∨ sg_L σ b4 ≤ (16 : Int32).toNatClampNeg then none else
  if (x1) = (sg_I σ b4 (16 : Int32).toNatClampNeg) then
  (f_X12_flash_B42 N a0 (x1) (2) (some a0) σ)
  else
  (f_X12_flash_B42 N a0 (x1) ((-1)) (some a0) σ)))
set_option maxHeartbeats 4000000 in
set_option maxRecDepth 100000 in
theorem t_X12_flash_B42 {N : Nat} {a0 : Nat} {Γ : Gm} {σ0 : Sg} {r : (Int32 × Sg)} (C1 : CM Γ cX12_flash RX12 3 (some .int) 1 22 0 0 (fun r_ τ_ => (r_ = some (vi r.1)) ∧ τ_ = r.2 ∧ sg_T τ_ ∧ sg_E σ0 τ_)) (v1 : Int32) (s0 : Int32) (s1 : Option Nat) (σ : Sg) (hT : sg_T σ) (hE : sg_E σ0 σ) (h0 : is_A σ a0 11) (g_s1 : is_O σ s1 11) (hf : f_X12_flash_B42 N a0  v1 s0 s1 σ = some r) : J_ Γ 42 [(0, vr (some a0)), (1, vi (v1))] [vi (s0), vr (s1)] σ 0 0 := by
  have C0 := C1.1
  unfold f_X12_flash_B42 at hf
  refine K_some hf (fun b7 hb7 hf => ?_)
  have ab7 : is_A σ b7 11 := (g_s1) b7 hb7
  refine K_some hf (fun p8 hp8 hf => ?_)
  refine J_callV (q := 45) (ci := 11) (as := [vi (s0)]) (rest := []) C0 hb7 (ab7) (t_X12_isRefused b7 (s0) (hT) (ab7)  hp8) ml_X12_isRefused lk_X12_316 im_X12_isRefused se_X12_isRefused rfl (by decide) dX12_flash_42 rfl rfl rfl (by simp [ac_]) C1.room (by decide) (by decide) (by decide) (by decide) (fun r_ τ_ hQ => ?_)
  obtain ⟨⟨rfl, zp8⟩, rfl, Tp8, Ep8⟩ := hQ
  show J_ Γ 45 [(0, vr (some a0)), (1, vi (v1))] [vi (p8.1)] p8.2 0 0
  refine J_if_eq (t := 50) (q := 48) C0 dX12_flash_45 (by decide) rfl hf (fun c9 hf => ?_) (fun c9 hf => ?_)
  · refine J_aload_n (q := 51) C0 0 rfl rfl dX12_flash_50 rfl trivial ?_
    refine K_some hf (fun p10 hp10 hf => ?_)
    refine J_callV (q := 54) (ci := 11) (as := []) (rest := []) C0 rfl ((Ep8.at h0)) (t_X12_keep N a0  (Tp8) ((Ep8.at h0))  hp10) ml_X12_keep lk_X12_319 im_X12_keep se_X12_keep rfl (by decide) dX12_flash_51 rfl rfl rfl (by simp [ac_]) C1.room (by decide) (by decide) (by decide) (by decide) (fun r_ τ_ hQ => ?_)
    obtain ⟨rfl, ht_, Tp10, Ep10⟩ := hQ; have ht_ := ht_.symm; subst ht_
    show J_ Γ 54 [(0, vr (some a0)), (1, vi (v1))] [] p10 0 0
    refine J_aload_n (q := 55) C0 0 rfl rfl dX12_flash_54 rfl trivial ?_
    refine J_getR (q := 58) C0 fl_X12_52_11 rfl ((Ep10.at (Ep8.at h0))) rfl dX12_flash_55 rfl ?_
    refine J_bipush (q := 60) (v := 16) C0 dX12_flash_58 rfl rfl ?_
    refine K_some hf (fun b11 hb11 hf => ?_)
    have ab11 : is_A p10 b11 12 := ((sg_T.op Tp10 (j := 24) ((Ep10.at (Ep8.at h0))) rfl)) b11 hb11
    refine K_chk hf (fun c12 hf => ?_)
    refine J_iald (q := 61) C0 hb11 (ab11) c12 dX12_flash_60 rfl ?_
    refine J_istore_n (q := 62) (lv' := [(2, vi (sg_I p10 b11 (16 : Int32).toNatClampNeg)), (0, vr (some a0)), (1, vi (v1))]) C0 rfl (G_nl C1 (by decide)) dX12_flash_61 rfl rfl ?_
    refine J_aload_n (q := 63) C0 1 rfl rfl dX12_flash_62 rfl trivial ?_
    refine J_getR (q := 66) C0 fl_X12_52_11 rfl ((Ep10.at (Ep8.at h0))) rfl dX12_flash_63 rfl ?_
    refine J_bipush (q := 68) (v := 16) C0 dX12_flash_66 rfl rfl ?_
    refine J_iload_n (q := 69) C0 2 rfl rfl dX12_flash_68 rfl ?_
    refine K_chk hf (fun c13 hf => ?_)
    refine J_iast (q := 70) C0 hb11 (ab11) c13 dX12_flash_69 rfl ?_
    refine J_iload_n (q := 71) C0 0 rfl rfl dX12_flash_70 rfl ?_
    obtain rfl := Option.some.inj hf; exact J_iret C1 dX12_flash_71 rfl (Nat.zero_le _) (Nat.zero_le _) ⟨rfl, rfl, (Tp10).putI, (((hE).tr Ep8).tr Ep10).putI⟩
  · refine J_iconst (q := 49) (v := (-1)) C0 dX12_flash_48 rfl rfl ?_
    obtain rfl := Option.some.inj hf; exact J_iret C1 dX12_flash_49 rfl (Nat.zero_le _) (Nat.zero_le _) ⟨rfl, rfl, Tp8, (hE).tr Ep8⟩
set_option maxHeartbeats 4000000 in
set_option maxRecDepth 100000 in
theorem t_X12_flash (N : Nat) (a0 : Nat) (x1 : Int32) {σ : Sg} (hT : sg_T σ) (h0 : is_A σ a0 11) {r : (Int32 × Sg)} (hf : f_X12_flash N a0 x1 σ = some r) : Ct yX12_flash cX12_flash 3 (some .int) 1 22 0 0 [vr (some a0), vi x1] σ (fun r_ τ_ => (r_ = some (vi r.1)) ∧ τ_ = r.2 ∧ sg_T τ_ ∧ sg_E σ τ_) := by
  refine Ct.of (by decide +kernel) (Nat.le_of_ble_eq_true rfl) (fun Γ C1 => ?_)
  have C0 := C1.1
  have hE : sg_E σ σ := sg_E.rf
  unfold f_X12_flash at hf
  show J_ Γ 0 [(0, vr (some a0)), (1, vi (x1))] [] σ 0 0
  refine J_aload_n (q := 1) C0 0 rfl rfl dX12_flash_0 rfl trivial ?_
  refine J_aload_n (q := 2) C0 0 rfl rfl dX12_flash_1 rfl trivial ?_
  refine J_getI (q := 5) C0 fl_X12_263_11 rfl (h0) rfl dX12_flash_2 rfl ?_
  refine J_if_ne (t := 12) (q := 8) C0 dX12_flash_5 (by decide) rfl hf (fun c1 hf => ?_) (fun c1 hf => ?_)
  · refine J_iload_n (q := 13) C0 1 rfl rfl dX12_flash_12 rfl ?_
    refine J_iconst (q := 14) (v := 1) C0 dX12_flash_13 rfl rfl ?_
    refine J_bipush (q := 16) (v := 60) C0 dX12_flash_14 rfl rfl ?_
    refine K_some hf (fun p2 hp2 hf => ?_)
    refine J_callS (q := 19) (as := [vi (x1), vi (1), vi (60)]) (rest := [vr (some a0)]) C0 (t_X12_in (x1) (1) (60)  hp2) ml_X12_in lk_X12_208 sm_X12_in dX12_flash_16 rfl rfl rfl (by simp [ac_]) C1.room (by decide) (by decide) (by decide) (by decide) (fun r_ τ_ hQ => ?_)
    obtain ⟨⟨rfl, zp2⟩, ht_⟩ := hQ; have ht_ := ht_.symm; subst ht_
    show J_ Γ 19 [(0, vr (some a0)), (1, vi (x1))] [vi (p2), vr (some a0)] σ 0 0
    refine J_if_ne (t := 26) (q := 22) C0 dX12_flash_19 (by decide) rfl hf (fun c3 hf => ?_) (fun c3 hf => ?_)
    · refine J_iload_n (q := 27) C0 1 rfl rfl dX12_flash_26 rfl ?_
      refine J_aload_n (q := 28) C0 0 rfl rfl dX12_flash_27 rfl trivial ?_
      refine J_getR (q := 31) C0 fl_X12_52_11 rfl (h0) rfl dX12_flash_28 rfl ?_
      refine J_bipush (q := 33) (v := 16) C0 dX12_flash_31 rfl rfl ?_
      refine K_some hf (fun b4 hb4 hf => ?_)
      have ab4 : is_A σ b4 12 := ((sg_T.op hT (j := 24) (h0) rfl)) b4 hb4
      refine K_chk hf (fun c5 hf => ?_)
      refine J_iald (q := 34) C0 hb4 (ab4) c5 dX12_flash_33 rfl ?_
      refine J_icmp_ne (t := 41) (q := 37) C0 dX12_flash_34 (by decide) rfl hf (fun c6 hf => ?_) (fun c6 hf => ?_)
      · refine J_iconst (q := 42) (v := (-1)) C0 dX12_flash_41 rfl rfl ?_
        exact t_X12_flash_B42 C1    (x1) ((-1)) (some a0) σ (hT) (hE) (h0) (is_O.some (h0)) hf
      · refine J_iconst (q := 38) (v := 2) C0 dX12_flash_37 rfl rfl ?_
        refine J_goto (q := 42) C0 dX12_flash_38 (by decide) ?_
        exact t_X12_flash_B42 C1    (x1) (2) (some a0) σ (hT) (hE) (h0) (is_O.some (h0)) hf
    · refine J_iconst (q := 23) (v := 1) C0 dX12_flash_22 rfl rfl ?_
      refine J_goto (q := 42) C0 dX12_flash_23 (by decide) ?_
      exact t_X12_flash_B42 C1    (x1) (1) (some a0) σ (hT) (hE) (h0) (is_O.some (h0)) hf
  · refine J_iconst (q := 9) (v := 0) C0 dX12_flash_8 rfl rfl ?_
    refine J_goto (q := 42) C0 dX12_flash_9 (by decide) ?_
    exact t_X12_flash_B42 C1    (x1) (0) (some a0) σ (hT) (hE) (h0) (is_O.some (h0)) hf
def f_X12_speed_B57 (N : Nat) (a0 : Nat) (v1 : Int32) (v2 : Int32) (s0 : Int32) (s1 : Option Nat) (σ : Sg) : Option (Int32 × Sg) :=
  Option.bind (s1) fun b10 =>
  Option.bind (f_X12_isRefused b10 (s0) σ) fun p11 =>
  if (p11.1) = (0) then
  (Option.bind (f_X12_keep N a0  p11.2) fun p13 =>
  Option.bind (f_X12_of a0 (v1) (0) p13) fun p14 =>
  Option.bind (sg_R p13 a0 24) fun b15 =>
  if (18 : Int32) < 0 ∨ sg_L p13 b15 ≤ (18 : Int32).toNatClampNeg then none else
  if (18 : Int32) < 0 ∨ sg_L p13 b15 ≤ (18 : Int32).toNatClampNeg then none else
  Option.bind (sg_R (put_I p13 b15 (18 : Int32).toNatClampNeg ((sg_I p13 b15 (18 : Int32).toNatClampNeg) - (1))) a0 24) fun b18 =>
  if (((4) * (v1)) + (0)) < 0 ∨ sg_L (put_I p13 b15 (18 : Int32).toNatClampNeg ((sg_I p13 b15 (18 : Int32).toNatClampNeg) - (1))) b18 ≤ (((4) * (v1)) + (0)).toNatClampNeg then none else
  some (p14, put_I (put_I p13 b15 (18 : Int32).toNatClampNeg ((sg_I p13 b15 (18 : Int32).toNatClampNeg) - (1))) b18 (((4) * (v1)) + (0)).toNatClampNeg (v2)))
  else
  (some ((-1), p11.2))
def f_X12_speed (N : Nat) (a0 : Nat) (x1 : Int32) (x2 : Int32) (σ : Sg) : Option (Int32 × Sg) :=
  Option.bind (f_X12_isWheel a0 (x1) σ) fun p1 =>
  if (p1) = (0) then
  (f_X12_speed_B57 N a0 (x1) (x2) (0) (some a0) σ)
  else
  (Option.bind (f_X12_in (x2) (0) (9) ) fun p3 =>
  if (p3) = (0) then
  (f_X12_speed_B57 N a0 (x1) (x2) (1) (some a0) σ)
  else
  (Option.bind (f_X12_of a0 (x1) (0) σ) fun p5 =>
  if (x2) = (p5) then
  (f_X12_speed_B57 N a0 (x1) (x2) (2) (some a0) σ)
  else
  (Option.bind (sg_R σ a0 24) fun b7 =>
  if (18 : Int32) < 0 ∨ sg_L σ b7 ≤ (18 : Int32).toNatClampNeg then none else
  if (sg_I σ b7 (18 : Int32).toNatClampNeg) < (1) then
  (f_X12_speed_B57 N a0 (x1) (x2) (3) (some a0) σ)
  else
  (f_X12_speed_B57 N a0 (x1) (x2) ((-1)) (some a0) σ))))
set_option maxHeartbeats 4000000 in
set_option maxRecDepth 100000 in
theorem t_X12_speed_B57 {N : Nat} {a0 : Nat} {Γ : Gm} {σ0 : Sg} {r : (Int32 × Sg)} (C1 : CM Γ cX12_speed RX12 4 (some .int) 2 43 0 0 (fun r_ τ_ => (r_ = some (vi r.1)) ∧ τ_ = r.2 ∧ sg_T τ_ ∧ sg_E σ0 τ_)) (v1 : Int32) (v2 : Int32) (s0 : Int32) (s1 : Option Nat) (σ : Sg) (hT : sg_T σ) (hE : sg_E σ0 σ) (h0 : is_A σ a0 11) (g_s1 : is_O σ s1 11) (hf : f_X12_speed_B57 N a0  v1 v2 s0 s1 σ = some r) : J_ Γ 57 [(0, vr (some a0)), (1, vi (v1)), (2, vi (v2))] [vi (s0), vr (s1)] σ 0 0 := by
  have C0 := C1.1
  unfold f_X12_speed_B57 at hf
  refine K_some hf (fun b10 hb10 hf => ?_)
  have ab10 : is_A σ b10 11 := (g_s1) b10 hb10
  refine K_some hf (fun p11 hp11 hf => ?_)
  refine J_callV (q := 60) (ci := 11) (as := [vi (s0)]) (rest := []) C0 hb10 (ab10) (t_X12_isRefused b10 (s0) (hT) (ab10)  hp11) ml_X12_isRefused lk_X12_316 im_X12_isRefused se_X12_isRefused rfl (by decide) dX12_speed_57 rfl rfl rfl (by simp [ac_]) C1.room (by decide) (by decide) (by decide) (by decide) (fun r_ τ_ hQ => ?_)
  obtain ⟨⟨rfl, zp11⟩, rfl, Tp11, Ep11⟩ := hQ
  show J_ Γ 60 [(0, vr (some a0)), (1, vi (v1)), (2, vi (v2))] [vi (p11.1)] p11.2 0 0
  refine J_if_eq (t := 65) (q := 63) C0 dX12_speed_60 (by decide) rfl hf (fun c12 hf => ?_) (fun c12 hf => ?_)
  · refine J_aload_n (q := 66) C0 0 rfl rfl dX12_speed_65 rfl trivial ?_
    refine K_some hf (fun p13 hp13 hf => ?_)
    refine J_callV (q := 69) (ci := 11) (as := []) (rest := []) C0 rfl ((Ep11.at h0)) (t_X12_keep N a0  (Tp11) ((Ep11.at h0))  hp13) ml_X12_keep lk_X12_319 im_X12_keep se_X12_keep rfl (by decide) dX12_speed_66 rfl rfl rfl (by simp [ac_]) C1.room (by decide) (by decide) (by decide) (by decide) (fun r_ τ_ hQ => ?_)
    obtain ⟨rfl, ht_, Tp13, Ep13⟩ := hQ; have ht_ := ht_.symm; subst ht_
    show J_ Γ 69 [(0, vr (some a0)), (1, vi (v1)), (2, vi (v2))] [] p13 0 0
    refine J_aload_n (q := 70) C0 0 rfl rfl dX12_speed_69 rfl trivial ?_
    refine J_iload_n (q := 71) C0 1 rfl rfl dX12_speed_70 rfl ?_
    refine J_iconst (q := 72) (v := 0) C0 dX12_speed_71 rfl rfl ?_
    refine K_some hf (fun p14 hp14 hf => ?_)
    refine J_callV (q := 75) (ci := 11) (as := [vi (v1), vi (0)]) (rest := []) C0 rfl ((Ep13.at (Ep11.at h0))) (t_X12_of a0 (v1) (0) (Tp13) ((Ep13.at (Ep11.at h0)))  hp14) ml_X12_of lk_X12_254 im_X12_of se_X12_of rfl (by decide) dX12_speed_72 rfl rfl rfl (by simp [ac_]) C1.room (by decide) (by decide) (by decide) (by decide) (fun r_ τ_ hQ => ?_)
    obtain ⟨rfl, ht_⟩ := hQ; have ht_ := ht_.symm; subst ht_
    show J_ Γ 75 [(0, vr (some a0)), (1, vi (v1)), (2, vi (v2))] [vi (p14)] p13 0 0
    refine J_istore_n (q := 76) (lv' := [(3, vi (p14)), (0, vr (some a0)), (1, vi (v1)), (2, vi (v2))]) C0 rfl (G_nl C1 (by decide)) dX12_speed_75 rfl rfl ?_
    refine J_aload_n (q := 77) C0 1 rfl rfl dX12_speed_76 rfl trivial ?_
    refine J_getR (q := 80) C0 fl_X12_52_11 rfl ((Ep13.at (Ep11.at h0))) rfl dX12_speed_77 rfl ?_
    refine J_bipush (q := 82) (v := 18) C0 dX12_speed_80 rfl rfl ?_
    refine J_dup2 (q := 83) C0 dX12_speed_82 rfl rfl rfl ?_
    refine K_some hf (fun b15 hb15 hf => ?_)
    have ab15 : is_A p13 b15 12 := ((sg_T.op Tp13 (j := 24) ((Ep13.at (Ep11.at h0))) rfl)) b15 hb15
    refine K_chk hf (fun c16 hf => ?_)
    refine J_iald (q := 84) C0 hb15 (ab15) c16 dX12_speed_83 rfl ?_
    refine J_iconst (q := 85) (v := 1) C0 dX12_speed_84 rfl rfl ?_
    refine J_isub (q := 86) C0 dX12_speed_85 rfl ?_
    refine K_chk hf (fun c17 hf => ?_)
    refine J_iast (q := 87) C0 hb15 (ab15) c17 dX12_speed_86 rfl ?_
    refine J_aload_n (q := 88) C0 1 rfl rfl dX12_speed_87 rfl trivial ?_
    refine J_getR (q := 91) C0 fl_X12_52_11 rfl (((Ep13.at (Ep11.at h0))).putI) rfl dX12_speed_88 rfl ?_
    refine J_iconst (q := 92) (v := 4) C0 dX12_speed_91 rfl rfl ?_
    refine J_iload_n (q := 93) C0 2 rfl rfl dX12_speed_92 rfl ?_
    refine J_imul (q := 94) C0 dX12_speed_93 rfl ?_
    refine J_iconst (q := 95) (v := 0) C0 dX12_speed_94 rfl rfl ?_
    refine J_iadd (q := 96) C0 dX12_speed_95 rfl ?_
    refine J_iload_n (q := 97) C0 3 rfl rfl dX12_speed_96 rfl ?_
    refine K_some hf (fun b18 hb18 hf => ?_)
    have ab18 : is_A (put_I p13 b15 (18 : Int32).toNatClampNeg ((sg_I p13 b15 (18 : Int32).toNatClampNeg) - (1))) b18 12 := ((sg_T.op (Tp13).putI (j := 24) (((Ep13.at (Ep11.at h0))).putI) rfl)) b18 hb18
    refine K_chk hf (fun c19 hf => ?_)
    refine J_iast (q := 98) C0 hb18 (ab18) c19 dX12_speed_97 rfl ?_
    refine J_iload_n (q := 99) C0 0 rfl rfl dX12_speed_98 rfl ?_
    obtain rfl := Option.some.inj hf; exact J_iret C1 dX12_speed_99 rfl (Nat.zero_le _) (Nat.zero_le _) ⟨rfl, rfl, ((Tp13).putI).putI, ((((hE).tr Ep11).tr Ep13).putI).putI⟩
  · refine J_iconst (q := 64) (v := (-1)) C0 dX12_speed_63 rfl rfl ?_
    obtain rfl := Option.some.inj hf; exact J_iret C1 dX12_speed_64 rfl (Nat.zero_le _) (Nat.zero_le _) ⟨rfl, rfl, Tp11, (hE).tr Ep11⟩
set_option maxHeartbeats 4000000 in
set_option maxRecDepth 100000 in
theorem t_X12_speed (N : Nat) (a0 : Nat) (x1 : Int32) (x2 : Int32) {σ : Sg} (hT : sg_T σ) (h0 : is_A σ a0 11) {r : (Int32 × Sg)} (hf : f_X12_speed N a0 x1 x2 σ = some r) : Ct yX12_speed cX12_speed 4 (some .int) 2 43 0 0 [vr (some a0), vi x1, vi x2] σ (fun r_ τ_ => (r_ = some (vi r.1)) ∧ τ_ = r.2 ∧ sg_T τ_ ∧ sg_E σ τ_) := by
  refine Ct.of (by decide +kernel) (Nat.le_of_ble_eq_true rfl) (fun Γ C1 => ?_)
  have C0 := C1.1
  have hE : sg_E σ σ := sg_E.rf
  unfold f_X12_speed at hf
  show J_ Γ 0 [(0, vr (some a0)), (1, vi (x1)), (2, vi (x2))] [] σ 0 0
  refine J_aload_n (q := 1) C0 0 rfl rfl dX12_speed_0 rfl trivial ?_
  refine J_aload_n (q := 2) C0 0 rfl rfl dX12_speed_1 rfl trivial ?_
  refine J_iload_n (q := 3) C0 1 rfl rfl dX12_speed_2 rfl ?_
  refine K_some hf (fun p1 hp1 hf => ?_)
  refine J_callV (q := 6) (ci := 11) (as := [vi (x1)]) (rest := [vr (some a0)]) C0 rfl (h0) (t_X12_isWheel a0 (x1) (h0)  hp1) ml_X12_isWheel lk_X12_307 im_X12_isWheel se_X12_isWheel rfl (by decide) dX12_speed_3 rfl rfl rfl (by simp [ac_]) C1.room (by decide) (by decide) (by decide) (by decide) (fun r_ τ_ hQ => ?_)
  obtain ⟨⟨rfl, zp1⟩, ht_⟩ := hQ; have ht_ := ht_.symm; subst ht_
  show J_ Γ 6 [(0, vr (some a0)), (1, vi (x1)), (2, vi (x2))] [vi (p1), vr (some a0)] σ 0 0
  refine J_if_ne (t := 13) (q := 9) C0 dX12_speed_6 (by decide) rfl hf (fun c2 hf => ?_) (fun c2 hf => ?_)
  · refine J_iload_n (q := 14) C0 2 rfl rfl dX12_speed_13 rfl ?_
    refine J_iconst (q := 15) (v := 0) C0 dX12_speed_14 rfl rfl ?_
    refine J_bipush (q := 17) (v := 9) C0 dX12_speed_15 rfl rfl ?_
    refine K_some hf (fun p3 hp3 hf => ?_)
    refine J_callS (q := 20) (as := [vi (x2), vi (0), vi (9)]) (rest := [vr (some a0)]) C0 (t_X12_in (x2) (0) (9)  hp3) ml_X12_in lk_X12_208 sm_X12_in dX12_speed_17 rfl rfl rfl (by simp [ac_]) C1.room (by decide) (by decide) (by decide) (by decide) (fun r_ τ_ hQ => ?_)
    obtain ⟨⟨rfl, zp3⟩, ht_⟩ := hQ; have ht_ := ht_.symm; subst ht_
    show J_ Γ 20 [(0, vr (some a0)), (1, vi (x1)), (2, vi (x2))] [vi (p3), vr (some a0)] σ 0 0
    refine J_if_ne (t := 27) (q := 23) C0 dX12_speed_20 (by decide) rfl hf (fun c4 hf => ?_) (fun c4 hf => ?_)
    · refine J_iload_n (q := 28) C0 2 rfl rfl dX12_speed_27 rfl ?_
      refine J_aload_n (q := 29) C0 0 rfl rfl dX12_speed_28 rfl trivial ?_
      refine J_iload_n (q := 30) C0 1 rfl rfl dX12_speed_29 rfl ?_
      refine J_iconst (q := 31) (v := 0) C0 dX12_speed_30 rfl rfl ?_
      refine K_some hf (fun p5 hp5 hf => ?_)
      refine J_callV (q := 34) (ci := 11) (as := [vi (x1), vi (0)]) (rest := [vi (x2), vr (some a0)]) C0 rfl (h0) (t_X12_of a0 (x1) (0) (hT) (h0)  hp5) ml_X12_of lk_X12_254 im_X12_of se_X12_of rfl (by decide) dX12_speed_31 rfl rfl rfl (by simp [ac_]) C1.room (by decide) (by decide) (by decide) (by decide) (fun r_ τ_ hQ => ?_)
      obtain ⟨rfl, ht_⟩ := hQ; have ht_ := ht_.symm; subst ht_
      show J_ Γ 34 [(0, vr (some a0)), (1, vi (x1)), (2, vi (x2))] [vi (p5), vi (x2), vr (some a0)] σ 0 0
      refine J_icmp_ne (t := 41) (q := 37) C0 dX12_speed_34 (by decide) rfl hf (fun c6 hf => ?_) (fun c6 hf => ?_)
      · refine J_aload_n (q := 42) C0 0 rfl rfl dX12_speed_41 rfl trivial ?_
        refine J_getR (q := 45) C0 fl_X12_52_11 rfl (h0) rfl dX12_speed_42 rfl ?_
        refine J_bipush (q := 47) (v := 18) C0 dX12_speed_45 rfl rfl ?_
        refine K_some hf (fun b7 hb7 hf => ?_)
        have ab7 : is_A σ b7 12 := ((sg_T.op hT (j := 24) (h0) rfl)) b7 hb7
        refine K_chk hf (fun c8 hf => ?_)
        refine J_iald (q := 48) C0 hb7 (ab7) c8 dX12_speed_47 rfl ?_
        refine J_iconst (q := 49) (v := 1) C0 dX12_speed_48 rfl rfl ?_
        refine J_icmp_ge (t := 56) (q := 52) C0 dX12_speed_49 (by decide) rfl hf (fun c9 hf => ?_) (fun c9 hf => ?_)
        · refine J_iconst (q := 57) (v := (-1)) C0 dX12_speed_56 rfl rfl ?_
          exact t_X12_speed_B57 C1    (x1) (x2) ((-1)) (some a0) σ (hT) (hE) (h0) (is_O.some (h0)) hf
        · refine J_iconst (q := 53) (v := 3) C0 dX12_speed_52 rfl rfl ?_
          refine J_goto (q := 57) C0 dX12_speed_53 (by decide) ?_
          exact t_X12_speed_B57 C1    (x1) (x2) (3) (some a0) σ (hT) (hE) (h0) (is_O.some (h0)) hf
      · refine J_iconst (q := 38) (v := 2) C0 dX12_speed_37 rfl rfl ?_
        refine J_goto (q := 57) C0 dX12_speed_38 (by decide) ?_
        exact t_X12_speed_B57 C1    (x1) (x2) (2) (some a0) σ (hT) (hE) (h0) (is_O.some (h0)) hf
    · refine J_iconst (q := 24) (v := 1) C0 dX12_speed_23 rfl rfl ?_
      refine J_goto (q := 57) C0 dX12_speed_24 (by decide) ?_
      exact t_X12_speed_B57 C1    (x1) (x2) (1) (some a0) σ (hT) (hE) (h0) (is_O.some (h0)) hf
  · refine J_iconst (q := 10) (v := 0) C0 dX12_speed_9 rfl rfl ?_
    refine J_goto (q := 57) C0 dX12_speed_10 (by decide) ?_
    exact t_X12_speed_B57 C1    (x1) (x2) (0) (some a0) σ (hT) (hE) (h0) (is_O.some (h0)) hf
def f_X12_about_B14 (N : Nat) (a0 : Nat) (v1 : Int32) (s0 : Int32) (s1 : Option Nat) (σ : Sg) : Option (Int32 × Sg) :=
  Option.bind (s1) fun b3 =>
  Option.bind (f_X12_isRefused b3 (s0) σ) fun p4 =>
  if (p4.1) = (0) then
  (Option.bind (f_X12_keep N a0  p4.2) fun p6 =>
  Option.bind (f_X12_of a0 (v1) (1) p6) fun p7 =>
  Option.bind (sg_R p6 a0 24) fun b8 =>
  if (((4) * (v1)) + (1)) < 0 ∨ sg_L p6 b8 ≤ (((4) * (v1)) + (1)).toNatClampNeg then none else
  Option.bind (f_X12_of a0 (v1) (1) (put_I p6 b8 (((4) * (v1)) + (1)).toNatClampNeg ((1) - (p7)))) fun p10 =>
  some (p10, put_I p6 b8 (((4) * (v1)) + (1)).toNatClampNeg ((1) - (p7))))
  else
  (some ((-1), p4.2))
def f_X12_about (N : Nat) (a0 : Nat) (x1 : Int32) (σ : Sg) : Option (Int32 × Sg) :=
  Option.bind (f_X12_isWheel a0 (x1) σ) fun p1 =>
  if (p1) = (0) then
  (f_X12_about_B14 N a0 (x1) (0) (some a0) σ)
  else
  (f_X12_about_B14 N a0 (x1) ((-1)) (some a0) σ)
set_option maxHeartbeats 4000000 in
set_option maxRecDepth 100000 in
theorem t_X12_about_B14 {N : Nat} {a0 : Nat} {Γ : Gm} {σ0 : Sg} {r : (Int32 × Sg)} (C1 : CM Γ cX12_about RX12 2 (some .int) 2 43 0 0 (fun r_ τ_ => (r_ = some (vi r.1)) ∧ τ_ = r.2 ∧ sg_T τ_ ∧ sg_E σ0 τ_)) (v1 : Int32) (s0 : Int32) (s1 : Option Nat) (σ : Sg) (hT : sg_T σ) (hE : sg_E σ0 σ) (h0 : is_A σ a0 11) (g_s1 : is_O σ s1 11) (hf : f_X12_about_B14 N a0  v1 s0 s1 σ = some r) : J_ Γ 14 [(0, vr (some a0)), (1, vi (v1))] [vi (s0), vr (s1)] σ 0 0 := by
  have C0 := C1.1
  unfold f_X12_about_B14 at hf
  refine K_some hf (fun b3 hb3 hf => ?_)
  have ab3 : is_A σ b3 11 := (g_s1) b3 hb3
  refine K_some hf (fun p4 hp4 hf => ?_)
  refine J_callV (q := 17) (ci := 11) (as := [vi (s0)]) (rest := []) C0 hb3 (ab3) (t_X12_isRefused b3 (s0) (hT) (ab3)  hp4) ml_X12_isRefused lk_X12_316 im_X12_isRefused se_X12_isRefused rfl (by decide) dX12_about_14 rfl rfl rfl (by simp [ac_]) C1.room (by decide) (by decide) (by decide) (by decide) (fun r_ τ_ hQ => ?_)
  obtain ⟨⟨rfl, zp4⟩, rfl, Tp4, Ep4⟩ := hQ
  show J_ Γ 17 [(0, vr (some a0)), (1, vi (v1))] [vi (p4.1)] p4.2 0 0
  refine J_if_eq (t := 22) (q := 20) C0 dX12_about_17 (by decide) rfl hf (fun c5 hf => ?_) (fun c5 hf => ?_)
  · refine J_aload_n (q := 23) C0 0 rfl rfl dX12_about_22 rfl trivial ?_
    refine K_some hf (fun p6 hp6 hf => ?_)
    refine J_callV (q := 26) (ci := 11) (as := []) (rest := []) C0 rfl ((Ep4.at h0)) (t_X12_keep N a0  (Tp4) ((Ep4.at h0))  hp6) ml_X12_keep lk_X12_319 im_X12_keep se_X12_keep rfl (by decide) dX12_about_23 rfl rfl rfl (by simp [ac_]) C1.room (by decide) (by decide) (by decide) (by decide) (fun r_ τ_ hQ => ?_)
    obtain ⟨rfl, ht_, Tp6, Ep6⟩ := hQ; have ht_ := ht_.symm; subst ht_
    show J_ Γ 26 [(0, vr (some a0)), (1, vi (v1))] [] p6 0 0
    refine J_aload_n (q := 27) C0 0 rfl rfl dX12_about_26 rfl trivial ?_
    refine J_getR (q := 30) C0 fl_X12_52_11 rfl ((Ep6.at (Ep4.at h0))) rfl dX12_about_27 rfl ?_
    refine J_iconst (q := 31) (v := 4) C0 dX12_about_30 rfl rfl ?_
    refine J_iload_n (q := 32) C0 1 rfl rfl dX12_about_31 rfl ?_
    refine J_imul (q := 33) C0 dX12_about_32 rfl ?_
    refine J_iconst (q := 34) (v := 1) C0 dX12_about_33 rfl rfl ?_
    refine J_iadd (q := 35) C0 dX12_about_34 rfl ?_
    refine J_iconst (q := 36) (v := 1) C0 dX12_about_35 rfl rfl ?_
    refine J_aload_n (q := 37) C0 0 rfl rfl dX12_about_36 rfl trivial ?_
    refine J_iload_n (q := 38) C0 1 rfl rfl dX12_about_37 rfl ?_
    refine J_iconst (q := 39) (v := 1) C0 dX12_about_38 rfl rfl ?_
    refine K_some hf (fun p7 hp7 hf => ?_)
    refine J_callV (q := 42) (ci := 11) (as := [vi (v1), vi (1)]) (rest := [vi (1), vi (((4) * (v1)) + (1)), vr (sg_R p6 a0 24)]) C0 rfl ((Ep6.at (Ep4.at h0))) (t_X12_of a0 (v1) (1) (Tp6) ((Ep6.at (Ep4.at h0)))  hp7) ml_X12_of lk_X12_254 im_X12_of se_X12_of rfl (by decide) dX12_about_39 rfl rfl rfl (by simp [ac_]) C1.room (by decide) (by decide) (by decide) (by decide) (fun r_ τ_ hQ => ?_)
    obtain ⟨rfl, ht_⟩ := hQ; have ht_ := ht_.symm; subst ht_
    show J_ Γ 42 [(0, vr (some a0)), (1, vi (v1))] [vi (p7), vi (1), vi (((4) * (v1)) + (1)), vr (sg_R p6 a0 24)] p6 0 0
    refine J_isub (q := 43) C0 dX12_about_42 rfl ?_
    refine K_some hf (fun b8 hb8 hf => ?_)
    have ab8 : is_A p6 b8 12 := ((sg_T.op Tp6 (j := 24) ((Ep6.at (Ep4.at h0))) rfl)) b8 hb8
    refine K_chk hf (fun c9 hf => ?_)
    refine J_iast (q := 44) C0 hb8 (ab8) c9 dX12_about_43 rfl ?_
    refine J_aload_n (q := 45) C0 0 rfl rfl dX12_about_44 rfl trivial ?_
    refine J_iload_n (q := 46) C0 1 rfl rfl dX12_about_45 rfl ?_
    refine J_iconst (q := 47) (v := 1) C0 dX12_about_46 rfl rfl ?_
    refine K_some hf (fun p10 hp10 hf => ?_)
    refine J_callV (q := 50) (ci := 11) (as := [vi (v1), vi (1)]) (rest := []) C0 rfl (((Ep6.at (Ep4.at h0))).putI) (t_X12_of a0 (v1) (1) ((Tp6).putI) (((Ep6.at (Ep4.at h0))).putI)  hp10) ml_X12_of lk_X12_254 im_X12_of se_X12_of rfl (by decide) dX12_about_47 rfl rfl rfl (by simp [ac_]) C1.room (by decide) (by decide) (by decide) (by decide) (fun r_ τ_ hQ => ?_)
    obtain ⟨rfl, ht_⟩ := hQ; have ht_ := ht_.symm; subst ht_
    show J_ Γ 50 [(0, vr (some a0)), (1, vi (v1))] [vi (p10)] (put_I p6 b8 (((4) * (v1)) + (1)).toNatClampNeg ((1) - (p7))) 0 0
    obtain rfl := Option.some.inj hf; exact J_iret C1 dX12_about_50 rfl (Nat.zero_le _) (Nat.zero_le _) ⟨rfl, rfl, (Tp6).putI, (((hE).tr Ep4).tr Ep6).putI⟩
  · refine J_iconst (q := 21) (v := (-1)) C0 dX12_about_20 rfl rfl ?_
    obtain rfl := Option.some.inj hf; exact J_iret C1 dX12_about_21 rfl (Nat.zero_le _) (Nat.zero_le _) ⟨rfl, rfl, Tp4, (hE).tr Ep4⟩
set_option maxHeartbeats 4000000 in
set_option maxRecDepth 100000 in
theorem t_X12_about (N : Nat) (a0 : Nat) (x1 : Int32) {σ : Sg} (hT : sg_T σ) (h0 : is_A σ a0 11) {r : (Int32 × Sg)} (hf : f_X12_about N a0 x1 σ = some r) : Ct yX12_about cX12_about 2 (some .int) 2 43 0 0 [vr (some a0), vi x1] σ (fun r_ τ_ => (r_ = some (vi r.1)) ∧ τ_ = r.2 ∧ sg_T τ_ ∧ sg_E σ τ_) := by
  refine Ct.of (by decide +kernel) (Nat.le_of_ble_eq_true rfl) (fun Γ C1 => ?_)
  have C0 := C1.1
  have hE : sg_E σ σ := sg_E.rf
  unfold f_X12_about at hf
  show J_ Γ 0 [(0, vr (some a0)), (1, vi (x1))] [] σ 0 0
  refine J_aload_n (q := 1) C0 0 rfl rfl dX12_about_0 rfl trivial ?_
  refine J_aload_n (q := 2) C0 0 rfl rfl dX12_about_1 rfl trivial ?_
  refine J_iload_n (q := 3) C0 1 rfl rfl dX12_about_2 rfl ?_
  refine K_some hf (fun p1 hp1 hf => ?_)
  refine J_callV (q := 6) (ci := 11) (as := [vi (x1)]) (rest := [vr (some a0)]) C0 rfl (h0) (t_X12_isWheel a0 (x1) (h0)  hp1) ml_X12_isWheel lk_X12_307 im_X12_isWheel se_X12_isWheel rfl (by decide) dX12_about_3 rfl rfl rfl (by simp [ac_]) C1.room (by decide) (by decide) (by decide) (by decide) (fun r_ τ_ hQ => ?_)
  obtain ⟨⟨rfl, zp1⟩, ht_⟩ := hQ; have ht_ := ht_.symm; subst ht_
  show J_ Γ 6 [(0, vr (some a0)), (1, vi (x1))] [vi (p1), vr (some a0)] σ 0 0
  refine J_if_eq (t := 13) (q := 9) C0 dX12_about_6 (by decide) rfl hf (fun c2 hf => ?_) (fun c2 hf => ?_)
  · refine J_iconst (q := 14) (v := 0) C0 dX12_about_13 rfl rfl ?_
    exact t_X12_about_B14 C1    (x1) (0) (some a0) σ (hT) (hE) (h0) (is_O.some (h0)) hf
  · refine J_iconst (q := 10) (v := (-1)) C0 dX12_about_9 rfl rfl ?_
    refine J_goto (q := 14) C0 dX12_about_10 (by decide) ?_
    exact t_X12_about_B14 C1    (x1) ((-1)) (some a0) σ (hT) (hE) (h0) (is_O.some (h0)) hf
def f_X12_pushNow (a0 : Nat) (x1 : Int32) (x2 : Int32) (σ : Sg) : Option Sg :=
  Option.bind (f_X12_of a0 (x1) (2) σ) fun p1 =>
  Option.bind (f_X12_longOf a0 (x1) σ) fun p2 =>
  Option.bind (f_X12_round ((p1) + (x2)) (p2) ) fun p3 =>
  Option.bind (sg_R σ a0 24) fun b4 =>
  if (((4) * (x1)) + (2)) < 0 ∨ sg_L σ b4 ≤ (((4) * (x1)) + (2)).toNatClampNeg then none else
  some (put_I σ b4 (((4) * (x1)) + (2)).toNatClampNeg (p3))
set_option maxHeartbeats 4000000 in
set_option maxRecDepth 100000 in
theorem t_X12_pushNow (a0 : Nat) (x1 : Int32) (x2 : Int32) {σ : Sg} (hT : sg_T σ) (h0 : is_A σ a0 11) {r : Sg} (hf : f_X12_pushNow a0 x1 x2 σ = some r) : Ct yX12_pushNow cX12_pushNow 3 none 2 43 0 0 [vr (some a0), vi x1, vi x2] σ (fun r_ τ_ => (r_ = none) ∧ τ_ = r ∧ sg_T τ_ ∧ sg_E σ τ_) := by
  refine Ct.of (by decide +kernel) (Nat.le_of_ble_eq_true rfl) (fun Γ C1 => ?_)
  have C0 := C1.1
  have hE : sg_E σ σ := sg_E.rf
  unfold f_X12_pushNow at hf
  show J_ Γ 0 [(0, vr (some a0)), (1, vi (x1)), (2, vi (x2))] [] σ 0 0
  refine J_aload_n (q := 1) C0 0 rfl rfl dX12_pushNow_0 rfl trivial ?_
  refine J_getR (q := 4) C0 fl_X12_52_11 rfl (h0) rfl dX12_pushNow_1 rfl ?_
  refine J_iconst (q := 5) (v := 4) C0 dX12_pushNow_4 rfl rfl ?_
  refine J_iload_n (q := 6) C0 1 rfl rfl dX12_pushNow_5 rfl ?_
  refine J_imul (q := 7) C0 dX12_pushNow_6 rfl ?_
  refine J_iconst (q := 8) (v := 2) C0 dX12_pushNow_7 rfl rfl ?_
  refine J_iadd (q := 9) C0 dX12_pushNow_8 rfl ?_
  refine J_aload_n (q := 10) C0 0 rfl rfl dX12_pushNow_9 rfl trivial ?_
  refine J_iload_n (q := 11) C0 1 rfl rfl dX12_pushNow_10 rfl ?_
  refine J_iconst (q := 12) (v := 2) C0 dX12_pushNow_11 rfl rfl ?_
  refine K_some hf (fun p1 hp1 hf => ?_)
  refine J_callV (q := 15) (ci := 11) (as := [vi (x1), vi (2)]) (rest := [vi (((4) * (x1)) + (2)), vr (sg_R σ a0 24)]) C0 rfl (h0) (t_X12_of a0 (x1) (2) (hT) (h0)  hp1) ml_X12_of lk_X12_254 im_X12_of se_X12_of rfl (by decide) dX12_pushNow_12 rfl rfl rfl (by simp [ac_]) C1.room (by decide) (by decide) (by decide) (by decide) (fun r_ τ_ hQ => ?_)
  obtain ⟨rfl, ht_⟩ := hQ; have ht_ := ht_.symm; subst ht_
  show J_ Γ 15 [(0, vr (some a0)), (1, vi (x1)), (2, vi (x2))] [vi (p1), vi (((4) * (x1)) + (2)), vr (sg_R σ a0 24)] σ 0 0
  refine J_iload_n (q := 16) C0 2 rfl rfl dX12_pushNow_15 rfl ?_
  refine J_iadd (q := 17) C0 dX12_pushNow_16 rfl ?_
  refine J_aload_n (q := 18) C0 0 rfl rfl dX12_pushNow_17 rfl trivial ?_
  refine J_iload_n (q := 19) C0 1 rfl rfl dX12_pushNow_18 rfl ?_
  refine K_some hf (fun p2 hp2 hf => ?_)
  refine J_callV (q := 22) (ci := 11) (as := [vi (x1)]) (rest := [vi ((p1) + (x2)), vi (((4) * (x1)) + (2)), vr (sg_R σ a0 24)]) C0 rfl (h0) (t_X12_longOf a0 (x1) (hT) (h0)  hp2) ml_X12_longOf lk_X12_266 im_X12_longOf se_X12_longOf rfl (by decide) dX12_pushNow_19 rfl rfl rfl (by simp [ac_]) C1.room (by decide) (by decide) (by decide) (by decide) (fun r_ τ_ hQ => ?_)
  obtain ⟨rfl, ht_⟩ := hQ; have ht_ := ht_.symm; subst ht_
  show J_ Γ 22 [(0, vr (some a0)), (1, vi (x1)), (2, vi (x2))] [vi (p2), vi ((p1) + (x2)), vi (((4) * (x1)) + (2)), vr (sg_R σ a0 24)] σ 0 0
  refine K_some hf (fun p3 hp3 hf => ?_)
  refine J_callS (q := 25) (as := [vi ((p1) + (x2)), vi (p2)]) (rest := [vi (((4) * (x1)) + (2)), vr (sg_R σ a0 24)]) C0 (t_X12_round ((p1) + (x2)) (p2)  hp3) ml_X12_round lk_X12_295 sm_X12_round dX12_pushNow_22 rfl rfl rfl (by simp [ac_]) C1.room (by decide) (by decide) (by decide) (by decide) (fun r_ τ_ hQ => ?_)
  obtain ⟨rfl, ht_⟩ := hQ; have ht_ := ht_.symm; subst ht_
  show J_ Γ 25 [(0, vr (some a0)), (1, vi (x1)), (2, vi (x2))] [vi (p3), vi (((4) * (x1)) + (2)), vr (sg_R σ a0 24)] σ 0 0
  refine K_some hf (fun b4 hb4 hf => ?_)
  have ab4 : is_A σ b4 12 := ((sg_T.op hT (j := 24) (h0) rfl)) b4 hb4
  refine K_chk hf (fun c5 hf => ?_)
  refine J_iast (q := 26) C0 hb4 (ab4) c5 dX12_pushNow_25 rfl ?_
  obtain rfl := Option.some.inj hf; exact J_vret C1 dX12_pushNow_26 rfl (Nat.zero_le _) (Nat.zero_le _) ⟨rfl, rfl, (hT).putI, (hE).putI⟩
def f_X12_push_B43 (N : Nat) (a0 : Nat) (v1 : Int32) (v2 : Int32) (s0 : Int32) (s1 : Option Nat) (σ : Sg) : Option (Int32 × Sg) :=
  Option.bind (s1) fun b8 =>
  Option.bind (f_X12_isRefused b8 (s0) σ) fun p9 =>
  if (p9.1) = (0) then
  (Option.bind (f_X12_keep N a0  p9.2) fun p11 =>
  Option.bind (sg_R p11 a0 24) fun b12 =>
  if (18 : Int32) < 0 ∨ sg_L p11 b12 ≤ (18 : Int32).toNatClampNeg then none else
  if (18 : Int32) < 0 ∨ sg_L p11 b12 ≤ (18 : Int32).toNatClampNeg then none else
  Option.bind (f_X12_pushNow a0 (v1) (v2) (put_I p11 b12 (18 : Int32).toNatClampNeg ((sg_I p11 b12 (18 : Int32).toNatClampNeg) - (1)))) fun p15 =>
  Option.bind (f_X12_of a0 (v1) (2) p15) fun p16 =>
  some (p16, p15))
  else
  (some ((-1), p9.2))
def f_X12_push (N : Nat) (a0 : Nat) (x1 : Int32) (x2 : Int32) (σ : Sg) : Option (Int32 × Sg) :=
  Option.bind (f_X12_isWheel a0 (x1) σ) fun p1 =>
  if (p1) = (0) then
  (f_X12_push_B43 N a0 (x1) (x2) (0) (some a0) σ)
  else
  (Option.bind (f_X12_in (x2) (1) (9) ) fun p3 =>
  if (p3) = (0) then
  (f_X12_push_B43 N a0 (x1) (x2) (1) (some a0) σ)
  else
  (Option.bind (sg_R σ a0 24) fun b5 =>
  if (18 : Int32) < 0 ∨ sg_L σ b5 ≤ (18 : Int32).toNatClampNeg then none else
  if (sg_I σ b5 (18 : Int32).toNatClampNeg) < (1) then
  (f_X12_push_B43 N a0 (x1) (x2) (3) (some a0) σ)
  else
  (f_X12_push_B43 N a0 (x1) (x2) ((-1)) (some a0) σ)))
set_option maxHeartbeats 4000000 in
set_option maxRecDepth 100000 in
theorem t_X12_push_B43 {N : Nat} {a0 : Nat} {Γ : Gm} {σ0 : Sg} {r : (Int32 × Sg)} (C1 : CM Γ cX12_push RX12 3 (some .int) 3 65 0 0 (fun r_ τ_ => (r_ = some (vi r.1)) ∧ τ_ = r.2 ∧ sg_T τ_ ∧ sg_E σ0 τ_)) (v1 : Int32) (v2 : Int32) (s0 : Int32) (s1 : Option Nat) (σ : Sg) (hT : sg_T σ) (hE : sg_E σ0 σ) (h0 : is_A σ a0 11) (g_s1 : is_O σ s1 11) (hf : f_X12_push_B43 N a0  v1 v2 s0 s1 σ = some r) : J_ Γ 43 [(0, vr (some a0)), (1, vi (v1)), (2, vi (v2))] [vi (s0), vr (s1)] σ 0 0 := by
  have C0 := C1.1
  unfold f_X12_push_B43 at hf
  refine K_some hf (fun b8 hb8 hf => ?_)
  have ab8 : is_A σ b8 11 := (g_s1) b8 hb8
  refine K_some hf (fun p9 hp9 hf => ?_)
  refine J_callV (q := 46) (ci := 11) (as := [vi (s0)]) (rest := []) C0 hb8 (ab8) (t_X12_isRefused b8 (s0) (hT) (ab8)  hp9) ml_X12_isRefused lk_X12_316 im_X12_isRefused se_X12_isRefused rfl (by decide) dX12_push_43 rfl rfl rfl (by simp [ac_]) C1.room (by decide) (by decide) (by decide) (by decide) (fun r_ τ_ hQ => ?_)
  obtain ⟨⟨rfl, zp9⟩, rfl, Tp9, Ep9⟩ := hQ
  show J_ Γ 46 [(0, vr (some a0)), (1, vi (v1)), (2, vi (v2))] [vi (p9.1)] p9.2 0 0
  refine J_if_eq (t := 51) (q := 49) C0 dX12_push_46 (by decide) rfl hf (fun c10 hf => ?_) (fun c10 hf => ?_)
  · refine J_aload_n (q := 52) C0 0 rfl rfl dX12_push_51 rfl trivial ?_
    refine K_some hf (fun p11 hp11 hf => ?_)
    refine J_callV (q := 55) (ci := 11) (as := []) (rest := []) C0 rfl ((Ep9.at h0)) (t_X12_keep N a0  (Tp9) ((Ep9.at h0))  hp11) ml_X12_keep lk_X12_319 im_X12_keep se_X12_keep rfl (by decide) dX12_push_52 rfl rfl rfl (by simp [ac_]) C1.room (by decide) (by decide) (by decide) (by decide) (fun r_ τ_ hQ => ?_)
    obtain ⟨rfl, ht_, Tp11, Ep11⟩ := hQ; have ht_ := ht_.symm; subst ht_
    show J_ Γ 55 [(0, vr (some a0)), (1, vi (v1)), (2, vi (v2))] [] p11 0 0
    refine J_aload_n (q := 56) C0 0 rfl rfl dX12_push_55 rfl trivial ?_
    refine J_getR (q := 59) C0 fl_X12_52_11 rfl ((Ep11.at (Ep9.at h0))) rfl dX12_push_56 rfl ?_
    refine J_bipush (q := 61) (v := 18) C0 dX12_push_59 rfl rfl ?_
    refine J_dup2 (q := 62) C0 dX12_push_61 rfl rfl rfl ?_
    refine K_some hf (fun b12 hb12 hf => ?_)
    have ab12 : is_A p11 b12 12 := ((sg_T.op Tp11 (j := 24) ((Ep11.at (Ep9.at h0))) rfl)) b12 hb12
    refine K_chk hf (fun c13 hf => ?_)
    refine J_iald (q := 63) C0 hb12 (ab12) c13 dX12_push_62 rfl ?_
    refine J_iconst (q := 64) (v := 1) C0 dX12_push_63 rfl rfl ?_
    refine J_isub (q := 65) C0 dX12_push_64 rfl ?_
    refine K_chk hf (fun c14 hf => ?_)
    refine J_iast (q := 66) C0 hb12 (ab12) c14 dX12_push_65 rfl ?_
    refine J_aload_n (q := 67) C0 0 rfl rfl dX12_push_66 rfl trivial ?_
    refine J_iload_n (q := 68) C0 1 rfl rfl dX12_push_67 rfl ?_
    refine J_iload_n (q := 69) C0 2 rfl rfl dX12_push_68 rfl ?_
    refine K_some hf (fun p15 hp15 hf => ?_)
    refine J_callV (q := 72) (ci := 11) (as := [vi (v1), vi (v2)]) (rest := []) C0 rfl (((Ep11.at (Ep9.at h0))).putI) (t_X12_pushNow a0 (v1) (v2) ((Tp11).putI) (((Ep11.at (Ep9.at h0))).putI)  hp15) ml_X12_pushNow lk_X12_325 im_X12_pushNow se_X12_pushNow rfl (by decide) dX12_push_69 rfl rfl rfl (by simp [ac_]) C1.room (by decide) (by decide) (by decide) (by decide) (fun r_ τ_ hQ => ?_)
    obtain ⟨rfl, ht_, Tp15, Ep15⟩ := hQ; have ht_ := ht_.symm; subst ht_
    show J_ Γ 72 [(0, vr (some a0)), (1, vi (v1)), (2, vi (v2))] [] p15 0 0
    refine J_aload_n (q := 73) C0 0 rfl rfl dX12_push_72 rfl trivial ?_
    refine J_iload_n (q := 74) C0 1 rfl rfl dX12_push_73 rfl ?_
    refine J_iconst (q := 75) (v := 2) C0 dX12_push_74 rfl rfl ?_
    refine K_some hf (fun p16 hp16 hf => ?_)
    refine J_callV (q := 78) (ci := 11) (as := [vi (v1), vi (2)]) (rest := []) C0 rfl ((Ep15.at ((Ep11.at (Ep9.at h0))).putI)) (t_X12_of a0 (v1) (2) (Tp15) ((Ep15.at ((Ep11.at (Ep9.at h0))).putI))  hp16) ml_X12_of lk_X12_254 im_X12_of se_X12_of rfl (by decide) dX12_push_75 rfl rfl rfl (by simp [ac_]) C1.room (by decide) (by decide) (by decide) (by decide) (fun r_ τ_ hQ => ?_)
    obtain ⟨rfl, ht_⟩ := hQ; have ht_ := ht_.symm; subst ht_
    show J_ Γ 78 [(0, vr (some a0)), (1, vi (v1)), (2, vi (v2))] [vi (p16)] p15 0 0
    obtain rfl := Option.some.inj hf; exact J_iret C1 dX12_push_78 rfl (Nat.zero_le _) (Nat.zero_le _) ⟨rfl, rfl, Tp15, ((((hE).tr Ep9).tr Ep11).putI).tr Ep15⟩
  · refine J_iconst (q := 50) (v := (-1)) C0 dX12_push_49 rfl rfl ?_
    obtain rfl := Option.some.inj hf; exact J_iret C1 dX12_push_50 rfl (Nat.zero_le _) (Nat.zero_le _) ⟨rfl, rfl, Tp9, (hE).tr Ep9⟩
set_option maxHeartbeats 4000000 in
set_option maxRecDepth 100000 in
theorem t_X12_push (N : Nat) (a0 : Nat) (x1 : Int32) (x2 : Int32) {σ : Sg} (hT : sg_T σ) (h0 : is_A σ a0 11) {r : (Int32 × Sg)} (hf : f_X12_push N a0 x1 x2 σ = some r) : Ct yX12_push cX12_push 3 (some .int) 3 65 0 0 [vr (some a0), vi x1, vi x2] σ (fun r_ τ_ => (r_ = some (vi r.1)) ∧ τ_ = r.2 ∧ sg_T τ_ ∧ sg_E σ τ_) := by
  refine Ct.of (by decide +kernel) (Nat.le_of_ble_eq_true rfl) (fun Γ C1 => ?_)
  have C0 := C1.1
  have hE : sg_E σ σ := sg_E.rf
  unfold f_X12_push at hf
  show J_ Γ 0 [(0, vr (some a0)), (1, vi (x1)), (2, vi (x2))] [] σ 0 0
  refine J_aload_n (q := 1) C0 0 rfl rfl dX12_push_0 rfl trivial ?_
  refine J_aload_n (q := 2) C0 0 rfl rfl dX12_push_1 rfl trivial ?_
  refine J_iload_n (q := 3) C0 1 rfl rfl dX12_push_2 rfl ?_
  refine K_some hf (fun p1 hp1 hf => ?_)
  refine J_callV (q := 6) (ci := 11) (as := [vi (x1)]) (rest := [vr (some a0)]) C0 rfl (h0) (t_X12_isWheel a0 (x1) (h0)  hp1) ml_X12_isWheel lk_X12_307 im_X12_isWheel se_X12_isWheel rfl (by decide) dX12_push_3 rfl rfl rfl (by simp [ac_]) C1.room (by decide) (by decide) (by decide) (by decide) (fun r_ τ_ hQ => ?_)
  obtain ⟨⟨rfl, zp1⟩, ht_⟩ := hQ; have ht_ := ht_.symm; subst ht_
  show J_ Γ 6 [(0, vr (some a0)), (1, vi (x1)), (2, vi (x2))] [vi (p1), vr (some a0)] σ 0 0
  refine J_if_ne (t := 13) (q := 9) C0 dX12_push_6 (by decide) rfl hf (fun c2 hf => ?_) (fun c2 hf => ?_)
  · refine J_iload_n (q := 14) C0 2 rfl rfl dX12_push_13 rfl ?_
    refine J_iconst (q := 15) (v := 1) C0 dX12_push_14 rfl rfl ?_
    refine J_bipush (q := 17) (v := 9) C0 dX12_push_15 rfl rfl ?_
    refine K_some hf (fun p3 hp3 hf => ?_)
    refine J_callS (q := 20) (as := [vi (x2), vi (1), vi (9)]) (rest := [vr (some a0)]) C0 (t_X12_in (x2) (1) (9)  hp3) ml_X12_in lk_X12_208 sm_X12_in dX12_push_17 rfl rfl rfl (by simp [ac_]) C1.room (by decide) (by decide) (by decide) (by decide) (fun r_ τ_ hQ => ?_)
    obtain ⟨⟨rfl, zp3⟩, ht_⟩ := hQ; have ht_ := ht_.symm; subst ht_
    show J_ Γ 20 [(0, vr (some a0)), (1, vi (x1)), (2, vi (x2))] [vi (p3), vr (some a0)] σ 0 0
    refine J_if_ne (t := 27) (q := 23) C0 dX12_push_20 (by decide) rfl hf (fun c4 hf => ?_) (fun c4 hf => ?_)
    · refine J_aload_n (q := 28) C0 0 rfl rfl dX12_push_27 rfl trivial ?_
      refine J_getR (q := 31) C0 fl_X12_52_11 rfl (h0) rfl dX12_push_28 rfl ?_
      refine J_bipush (q := 33) (v := 18) C0 dX12_push_31 rfl rfl ?_
      refine K_some hf (fun b5 hb5 hf => ?_)
      have ab5 : is_A σ b5 12 := ((sg_T.op hT (j := 24) (h0) rfl)) b5 hb5
      refine K_chk hf (fun c6 hf => ?_)
      refine J_iald (q := 34) C0 hb5 (ab5) c6 dX12_push_33 rfl ?_
      refine J_iconst (q := 35) (v := 1) C0 dX12_push_34 rfl rfl ?_
      refine J_icmp_ge (t := 42) (q := 38) C0 dX12_push_35 (by decide) rfl hf (fun c7 hf => ?_) (fun c7 hf => ?_)
      · refine J_iconst (q := 43) (v := (-1)) C0 dX12_push_42 rfl rfl ?_
        exact t_X12_push_B43 C1    (x1) (x2) ((-1)) (some a0) σ (hT) (hE) (h0) (is_O.some (h0)) hf
      · refine J_iconst (q := 39) (v := 3) C0 dX12_push_38 rfl rfl ?_
        refine J_goto (q := 43) C0 dX12_push_39 (by decide) ?_
        exact t_X12_push_B43 C1    (x1) (x2) (3) (some a0) σ (hT) (hE) (h0) (is_O.some (h0)) hf
    · refine J_iconst (q := 24) (v := 1) C0 dX12_push_23 rfl rfl ?_
      refine J_goto (q := 43) C0 dX12_push_24 (by decide) ?_
      exact t_X12_push_B43 C1    (x1) (x2) (1) (some a0) σ (hT) (hE) (h0) (is_O.some (h0)) hf
  · refine J_iconst (q := 10) (v := 0) C0 dX12_push_9 rfl rfl ?_
    refine J_goto (q := 43) C0 dX12_push_10 (by decide) ?_
    exact t_X12_push_B43 C1    (x1) (x2) (0) (some a0) σ (hT) (hE) (h0) (is_O.some (h0)) hf
