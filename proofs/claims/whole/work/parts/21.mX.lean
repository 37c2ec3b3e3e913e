def f_X6_takes_B28 (N : Nat) (a0 : Nat) (v2 : Int32) (s0 : Int32) (s1 : Int32) (s2 : Option Nat) (σ : Sg) : Option (Int32 × Sg) :=
  Option.bind (s2) fun b4 =>
  if ¬ ((v2) = 0 ∨ (v2) = 1) then none else
  some (v2, put_I σ b4 2 ((s1) + (s0)))
def f_X6_takes_B13 (N : Nat) (a0 : Nat) (s0 : Int32) (σ : Sg) : Option (Int32 × Sg) :=
  if (s0) = (0) then
  (f_X6_takes_B28 N a0 (s0) (0) (sg_I σ a0 2) (some a0) σ)
  else
  (f_X6_takes_B28 N a0 (s0) (1) (sg_I σ a0 2) (some a0) σ)
def f_X6_takes (N : Nat) (a0 : Nat) (x1 : Int32) (σ : Sg) : Option (Int32 × Sg) :=
  Option.bind (f_X6_nextSign N a0  σ) fun p1 =>
  if (p1.1) = (x1) then
  (f_X6_takes_B13 N a0 (1) (p1.2))
  else
  (f_X6_takes_B13 N a0 (0) (p1.2))
set_option maxHeartbeats 4000000 in
set_option maxRecDepth 100000 in
theorem t_X6_takes_B28_k1 {N : Nat} {a0 : Nat} {Γ : Gm} {σ0 : Sg} {r : (Int32 × Sg)} (C1 : CM Γ cX6_takes RX6 3 (some .boolean) 1 20 0 0 (fun r_ τ_ => (r_ = some (vi r.1) ∧ (r.1 = 0 ∨ r.1 = 1)) ∧ τ_ = r.2 ∧ sg_T τ_ ∧ sg_E σ0 τ_)) (v2 : Int32) (s0 : Int32) (s1 : Int32) (s2 : Option Nat) (σ : Sg) (hT : sg_T σ) (hE : sg_E σ0 σ) (h0 : is_A σ a0 1) (g_s2 : is_O σ s2 1) (hf : f_X6_takes_B28 N a0  v2 s0 s1 s2 σ = some r) : J_ Γ 28 [(0, vr (some a0)), (2, vi (v2))] [vi (s0), vi (s1), vr (s2)] σ 0 0 := by
  have C0 := C1.1
  unfold f_X6_takes_B28 at hf
  refine J_iadd (q := 29) C0 dX6_takes_28 rfl ?_
  refine K_some hf (fun b4 hb4 hf => ?_)
  have ab4 : is_A σ b4 1 := (g_s2) b4 hb4
  refine J_putI (q := 32) C0 fl_X6_19_1 hb4 (ab4) rfl dX6_takes_29 rfl ?_
  refine J_iload_n (q := 33) C0 1 rfl rfl dX6_takes_32 rfl ?_
  refine K_chk hf (fun c5 hf => ?_)
  obtain rfl := Option.some.inj hf; exact J_zret C1 dX6_takes_33 rfl (Decidable.not_not.mp c5) (Nat.zero_le _) (Nat.zero_le _) ⟨⟨rfl, (Decidable.not_not.mp c5)⟩, rfl, (hT).putI, (hE).putI⟩
set_option maxHeartbeats 4000000 in
set_option maxRecDepth 100000 in
theorem t_X6_takes_B13_k1 {N : Nat} {a0 : Nat} {Γ : Gm} {σ0 : Sg} {r : (Int32 × Sg)} (C1 : CM Γ cX6_takes RX6 3 (some .boolean) 1 20 0 0 (fun r_ τ_ => (r_ = some (vi r.1) ∧ (r.1 = 0 ∨ r.1 = 1)) ∧ τ_ = r.2 ∧ sg_T τ_ ∧ sg_E σ0 τ_)) (s0 : Int32) (σ : Sg) (hT : sg_T σ) (hE : sg_E σ0 σ) (h0 : is_A σ a0 1) (hf : f_X6_takes_B13 N a0  s0 σ = some r) : J_ Γ 13 [(0, vr (some a0))] [vi (s0)] σ 0 0 := by
  have C0 := C1.1
  unfold f_X6_takes_B13 at hf
  refine J_istore_n (q := 14) (lv' := [(2, vi (s0)), (0, vr (some a0))]) C0 rfl (G_nl C1 (by decide)) dX6_takes_13 rfl rfl ?_
  refine J_aload_n (q := 15) C0 1 rfl rfl dX6_takes_14 rfl trivial ?_
  refine J_dup (q := 16) C0 dX6_takes_15 rfl rfl ?_
  refine J_getI (q := 19) C0 fl_X6_19_1 rfl (h0) rfl dX6_takes_16 rfl ?_
  refine J_iload_n (q := 20) C0 0 rfl rfl dX6_takes_19 rfl ?_
  refine J_if_eq (t := 27) (q := 23) C0 dX6_takes_20 (by decide) rfl hf (fun c3 hf => ?_) (fun c3 hf => ?_)
  · refine J_iconst (q := 28) (v := 0) C0 dX6_takes_27 rfl rfl ?_
    refine J_sub (lv' := [(0, vr (some a0)), (2, vi (s0))]) [1, 0] rfl ?_
    exact t_X6_takes_B28_k1 C1    (s0) (0) (sg_I σ a0 2) (some a0) σ (hT) (hE) (h0) (is_O.some (h0)) hf
  · refine J_iconst (q := 24) (v := 1) C0 dX6_takes_23 rfl rfl ?_
    refine J_goto (q := 28) C0 dX6_takes_24 (by decide) ?_
    refine J_sub (lv' := [(0, vr (some a0)), (2, vi (s0))]) [1, 0] rfl ?_
    exact t_X6_takes_B28_k1 C1    (s0) (1) (sg_I σ a0 2) (some a0) σ (hT) (hE) (h0) (is_O.some (h0)) hf
set_option maxHeartbeats 4000000 in
set_option maxRecDepth 100000 in
theorem t_X6_takes_k1 (N : Nat) (a0 : Nat) (x1 : Int32) {σ : Sg} (hT : sg_T σ) (h0 : is_A σ a0 1) {r : (Int32 × Sg)} (hf : f_X6_takes N a0 x1 σ = some r) : Ct yX6_takes cX6_takes 3 (some .boolean) 1 20 0 0 [vr (some a0), vi x1] σ (fun r_ τ_ => (r_ = some (vi r.1) ∧ (r.1 = 0 ∨ r.1 = 1)) ∧ τ_ = r.2 ∧ sg_T τ_ ∧ sg_E σ τ_) := by
  refine Ct.of (by decide +kernel) (Nat.le_of_ble_eq_true rfl) (fun Γ C1 => ?_)
  have C0 := C1.1
  have hE : sg_E σ σ := sg_E.rf
  unfold f_X6_takes at hf
  show J_ Γ 0 [(0, vr (some a0)), (1, vi (x1))] [] σ 0 0
  refine J_aload_n (q := 1) C0 0 rfl rfl dX6_takes_0 rfl trivial ?_
  refine K_some hf (fun p1 hp1 hf => ?_)
  refine J_callU (q := 4) (ci := 1) (as := []) (rest := []) C0 rfl (h0) (t_X6_nextSign_k1 N a0  (hT) (h0)  hp1) rfl ml_X6_nextSign lk_X6_28 sa_526 im_X6_nextSign se_527 rfl (by decide) dX6_takes_1 rfl rfl rfl (by simp [ac_]) C1.room (by decide) (by decide) (by decide) (by decide) (fun r_ τ_ hQ => ?_)
  obtain ⟨rfl, rfl, Tp1, Ep1⟩ := hQ
  show J_ Γ 4 [(0, vr (some a0)), (1, vi (x1))] [vi (p1.1)] p1.2 0 0
  refine J_iload_n (q := 5) C0 1 rfl rfl dX6_takes_4 rfl ?_
  refine J_icmp_ne (t := 12) (q := 8) C0 dX6_takes_5 (by decide) rfl hf (fun c2 hf => ?_) (fun c2 hf => ?_)
  · refine J_iconst (q := 13) (v := 0) C0 dX6_takes_12 rfl rfl ?_
    refine J_sub (lv' := [(0, vr (some a0))]) [0] rfl ?_
    exact t_X6_takes_B13_k1 C1    (0) (p1.2) (Tp1) ((hE).tr Ep1) ((Ep1.at h0))  hf
  · refine J_iconst (q := 9) (v := 1) C0 dX6_takes_8 rfl rfl ?_
    refine J_goto (q := 13) C0 dX6_takes_9 (by decide) ?_
    refine J_sub (lv' := [(0, vr (some a0))]) [0] rfl ?_
    exact t_X6_takes_B13_k1 C1    (1) (p1.2) (Tp1) ((hE).tr Ep1) ((Ep1.at h0))  hf
set_option maxHeartbeats 4000000 in
set_option maxRecDepth 100000 in
theorem t_X6_takes_B28_k3 {N : Nat} {a0 : Nat} {Γ : Gm} {σ0 : Sg} {r : (Int32 × Sg)} (C1 : CM Γ cX6_takes RX6 3 (some .boolean) 1 20 0 0 (fun r_ τ_ => (r_ = some (vi r.1) ∧ (r.1 = 0 ∨ r.1 = 1)) ∧ τ_ = r.2 ∧ sg_T τ_ ∧ sg_E σ0 τ_)) (v2 : Int32) (s0 : Int32) (s1 : Int32) (s2 : Option Nat) (σ : Sg) (hT : sg_T σ) (hE : sg_E σ0 σ) (h0 : is_A σ a0 3) (g_s2 : is_O σ s2 3) (hf : f_X6_takes_B28 N a0  v2 s0 s1 s2 σ = some r) : J_ Γ 28 [(0, vr (some a0)), (2, vi (v2))] [vi (s0), vi (s1), vr (s2)] σ 0 0 := by
  have C0 := C1.1
  unfold f_X6_takes_B28 at hf
  refine J_iadd (q := 29) C0 dX6_takes_28 rfl ?_
  refine K_some hf (fun b4 hb4 hf => ?_)
  have ab4 : is_A σ b4 3 := (g_s2) b4 hb4
  refine J_putI (q := 32) C0 fl_X6_19_3 hb4 (ab4) rfl dX6_takes_29 rfl ?_
  refine J_iload_n (q := 33) C0 1 rfl rfl dX6_takes_32 rfl ?_
  refine K_chk hf (fun c5 hf => ?_)
  obtain rfl := Option.some.inj hf; exact J_zret C1 dX6_takes_33 rfl (Decidable.not_not.mp c5) (Nat.zero_le _) (Nat.zero_le _) ⟨⟨rfl, (Decidable.not_not.mp c5)⟩, rfl, (hT).putI, (hE).putI⟩
set_option maxHeartbeats 4000000 in
set_option maxRecDepth 100000 in
theorem t_X6_takes_B13_k3 {N : Nat} {a0 : Nat} {Γ : Gm} {σ0 : Sg} {r : (Int32 × Sg)} (C1 : CM Γ cX6_takes RX6 3 (some .boolean) 1 20 0 0 (fun r_ τ_ => (r_ = some (vi r.1) ∧ (r.1 = 0 ∨ r.1 = 1)) ∧ τ_ = r.2 ∧ sg_T τ_ ∧ sg_E σ0 τ_)) (s0 : Int32) (σ : Sg) (hT : sg_T σ) (hE : sg_E σ0 σ) (h0 : is_A σ a0 3) (hf : f_X6_takes_B13 N a0  s0 σ = some r) : J_ Γ 13 [(0, vr (some a0))] [vi (s0)] σ 0 0 := by
  have C0 := C1.1
  unfold f_X6_takes_B13 at hf
  refine J_istore_n (q := 14) (lv' := [(2, vi (s0)), (0, vr (some a0))]) C0 rfl (G_nl C1 (by decide)) dX6_takes_13 rfl rfl ?_
  refine J_aload_n (q := 15) C0 1 rfl rfl dX6_takes_14 rfl trivial ?_
  refine J_dup (q := 16) C0 dX6_takes_15 rfl rfl ?_
  refine J_getI (q := 19) C0 fl_X6_19_3 rfl (h0) rfl dX6_takes_16 rfl ?_
  refine J_iload_n (q := 20) C0 0 rfl rfl dX6_takes_19 rfl ?_
  refine J_if_eq (t := 27) (q := 23) C0 dX6_takes_20 (by decide) rfl hf (fun c3 hf => ?_) (fun c3 hf => ?_)
  · refine J_iconst (q := 28) (v := 0) C0 dX6_takes_27 rfl rfl ?_
    refine J_sub (lv' := [(0, vr (some a0)), (2, vi (s0))]) [1, 0] rfl ?_
    exact t_X6_takes_B28_k3 C1    (s0) (0) (sg_I σ a0 2) (some a0) σ (hT) (hE) (h0) (is_O.some (h0)) hf
  · refine J_iconst (q := 24) (v := 1) C0 dX6_takes_23 rfl rfl ?_
    refine J_goto (q := 28) C0 dX6_takes_24 (by decide) ?_
    refine J_sub (lv' := [(0, vr (some a0)), (2, vi (s0))]) [1, 0] rfl ?_
    exact t_X6_takes_B28_k3 C1    (s0) (1) (sg_I σ a0 2) (some a0) σ (hT) (hE) (h0) (is_O.some (h0)) hf
set_option maxHeartbeats 4000000 in
set_option maxRecDepth 100000 in
theorem t_X6_takes_k3 (N : Nat) (a0 : Nat) (x1 : Int32) {σ : Sg} (hT : sg_T σ) (h0 : is_A σ a0 3) {r : (Int32 × Sg)} (hf : f_X6_takes N a0 x1 σ = some r) : Ct yX6_takes cX6_takes 3 (some .boolean) 1 20 0 0 [vr (some a0), vi x1] σ (fun r_ τ_ => (r_ = some (vi r.1) ∧ (r.1 = 0 ∨ r.1 = 1)) ∧ τ_ = r.2 ∧ sg_T τ_ ∧ sg_E σ τ_) := by
  refine Ct.of (by decide +kernel) (Nat.le_of_ble_eq_true rfl) (fun Γ C1 => ?_)
  have C0 := C1.1
  have hE : sg_E σ σ := sg_E.rf
  unfold f_X6_takes at hf
  show J_ Γ 0 [(0, vr (some a0)), (1, vi (x1))] [] σ 0 0
  refine J_aload_n (q := 1) C0 0 rfl rfl dX6_takes_0 rfl trivial ?_
  refine K_some hf (fun p1 hp1 hf => ?_)
  refine J_callU (q := 4) (ci := 3) (as := []) (rest := []) C0 rfl (h0) (t_X6_nextSign_k3 N a0  (hT) (h0)  hp1) rfl ml_X6_nextSign lk_X6_28 sa_526 im_X6_nextSign se_528 rfl (by decide) dX6_takes_1 rfl rfl rfl (by simp [ac_]) C1.room (by decide) (by decide) (by decide) (by decide) (fun r_ τ_ hQ => ?_)
  obtain ⟨rfl, rfl, Tp1, Ep1⟩ := hQ
  show J_ Γ 4 [(0, vr (some a0)), (1, vi (x1))] [vi (p1.1)] p1.2 0 0
  refine J_iload_n (q := 5) C0 1 rfl rfl dX6_takes_4 rfl ?_
  refine J_icmp_ne (t := 12) (q := 8) C0 dX6_takes_5 (by decide) rfl hf (fun c2 hf => ?_) (fun c2 hf => ?_)
  · refine J_iconst (q := 13) (v := 0) C0 dX6_takes_12 rfl rfl ?_
    refine J_sub (lv' := [(0, vr (some a0))]) [0] rfl ?_
    exact t_X6_takes_B13_k3 C1    (0) (p1.2) (Tp1) ((hE).tr Ep1) ((Ep1.at h0))  hf
  · refine J_iconst (q := 9) (v := 1) C0 dX6_takes_8 rfl rfl ?_
    refine J_goto (q := 13) C0 dX6_takes_9 (by decide) ?_
    refine J_sub (lv' := [(0, vr (some a0))]) [0] rfl ?_
    exact t_X6_takes_B13_k3 C1    (1) (p1.2) (Tp1) ((hE).tr Ep1) ((Ep1.at h0))  hf
set_option maxHeartbeats 4000000 in
set_option maxRecDepth 100000 in
theorem t_X6_takes_B28_k8 {N : Nat} {a0 : Nat} {Γ : Gm} {σ0 : Sg} {r : (Int32 × Sg)} (C1 : CM Γ cX6_takes RX6 3 (some .boolean) 1 20 0 0 (fun r_ τ_ => (r_ = some (vi r.1) ∧ (r.1 = 0 ∨ r.1 = 1)) ∧ τ_ = r.2 ∧ sg_T τ_ ∧ sg_E σ0 τ_)) (v2 : Int32) (s0 : Int32) (s1 : Int32) (s2 : Option Nat) (σ : Sg) (hT : sg_T σ) (hE : sg_E σ0 σ) (h0 : is_A σ a0 8) (g_s2 : is_O σ s2 8) (hf : f_X6_takes_B28 N a0  v2 s0 s1 s2 σ = some r) : J_ Γ 28 [(0, vr (some a0)), (2, vi (v2))] [vi (s0), vi (s1), vr (s2)] σ 0 0 := by
  have C0 := C1.1
  unfold f_X6_takes_B28 at hf
  refine J_iadd (q := 29) C0 dX6_takes_28 rfl ?_
  refine K_some hf (fun b4 hb4 hf => ?_)
  have ab4 : is_A σ b4 8 := (g_s2) b4 hb4
  refine J_putI (q := 32) C0 fl_X6_19_8 hb4 (ab4) rfl dX6_takes_29 rfl ?_
  refine J_iload_n (q := 33) C0 1 rfl rfl dX6_takes_32 rfl ?_
  refine K_chk hf (fun c5 hf => ?_)
  obtain rfl := Option.some.inj hf; exact J_zret C1 dX6_takes_33 rfl (Decidable.not_not.mp c5) (Nat.zero_le _) (Nat.zero_le _) ⟨⟨rfl, (Decidable.not_not.mp c5)⟩, rfl, (hT).putI, (hE).putI⟩
set_option maxHeartbeats 4000000 in
set_option maxRecDepth 100000 in
theorem t_X6_takes_B13_k8 {N : Nat} {a0 : Nat} {Γ : Gm} {σ0 : Sg} {r : (Int32 × Sg)} (C1 : CM Γ cX6_takes RX6 3 (some .boolean) 1 20 0 0 (fun r_ τ_ => (r_ = some (vi r.1) ∧ (r.1 = 0 ∨ r.1 = 1)) ∧ τ_ = r.2 ∧ sg_T τ_ ∧ sg_E σ0 τ_)) (s0 : Int32) (σ : Sg) (hT : sg_T σ) (hE : sg_E σ0 σ) (h0 : is_A σ a0 8) (hf : f_X6_takes_B13 N a0  s0 σ = some r) : J_ Γ 13 [(0, vr (some a0))] [vi (s0)] σ 0 0 := by
  have C0 := C1.1
  unfold f_X6_takes_B13 at hf
  refine J_istore_n (q := 14) (lv' := [(2, vi (s0)), (0, vr (some a0))]) C0 rfl (G_nl C1 (by decide)) dX6_takes_13 rfl rfl ?_
  refine J_aload_n (q := 15) C0 1 rfl rfl dX6_takes_14 rfl trivial ?_
  refine J_dup (q := 16) C0 dX6_takes_15 rfl rfl ?_
  refine J_getI (q := 19) C0 fl_X6_19_8 rfl (h0) rfl dX6_takes_16 rfl ?_
  refine J_iload_n (q := 20) C0 0 rfl rfl dX6_takes_19 rfl ?_
  refine J_if_eq (t := 27) (q := 23) C0 dX6_takes_20 (by decide) rfl hf (fun c3 hf => ?_) (fun c3 hf => ?_)
  · refine J_iconst (q := 28) (v := 0) C0 dX6_takes_27 rfl rfl ?_
    refine J_sub (lv' := [(0, vr (some a0)), (2, vi (s0))]) [1, 0] rfl ?_
    exact t_X6_takes_B28_k8 C1    (s0) (0) (sg_I σ a0 2) (some a0) σ (hT) (hE) (h0) (is_O.some (h0)) hf
  · refine J_iconst (q := 24) (v := 1) C0 dX6_takes_23 rfl rfl ?_
    refine J_goto (q := 28) C0 dX6_takes_24 (by decide) ?_
    refine J_sub (lv' := [(0, vr (some a0)), (2, vi (s0))]) [1, 0] rfl ?_
    exact t_X6_takes_B28_k8 C1    (s0) (1) (sg_I σ a0 2) (some a0) σ (hT) (hE) (h0) (is_O.some (h0)) hf
set_option maxHeartbeats 4000000 in
set_option maxRecDepth 100000 in
theorem t_X6_takes_k8 (N : Nat) (a0 : Nat) (x1 : Int32) {σ : Sg} (hT : sg_T σ) (h0 : is_A σ a0 8) {r : (Int32 × Sg)} (hf : f_X6_takes N a0 x1 σ = some r) : Ct yX6_takes cX6_takes 3 (some .boolean) 1 20 0 0 [vr (some a0), vi x1] σ (fun r_ τ_ => (r_ = some (vi r.1) ∧ (r.1 = 0 ∨ r.1 = 1)) ∧ τ_ = r.2 ∧ sg_T τ_ ∧ sg_E σ τ_) := by
  refine Ct.of (by decide +kernel) (Nat.le_of_ble_eq_true rfl) (fun Γ C1 => ?_)
  have C0 := C1.1
  have hE : sg_E σ σ := sg_E.rf
  unfold f_X6_takes at hf
  show J_ Γ 0 [(0, vr (some a0)), (1, vi (x1))] [] σ 0 0
  refine J_aload_n (q := 1) C0 0 rfl rfl dX6_takes_0 rfl trivial ?_
  refine K_some hf (fun p1 hp1 hf => ?_)
  refine J_callU (q := 4) (ci := 8) (as := []) (rest := []) C0 rfl (h0) (t_X6_nextSign_k8 N a0  (hT) (h0)  hp1) rfl ml_X6_nextSign lk_X6_28 sa_526 im_X6_nextSign se_529 rfl (by decide) dX6_takes_1 rfl rfl rfl (by simp [ac_]) C1.room (by decide) (by decide) (by decide) (by decide) (fun r_ τ_ hQ => ?_)
  obtain ⟨rfl, rfl, Tp1, Ep1⟩ := hQ
  show J_ Γ 4 [(0, vr (some a0)), (1, vi (x1))] [vi (p1.1)] p1.2 0 0
  refine J_iload_n (q := 5) C0 1 rfl rfl dX6_takes_4 rfl ?_
  refine J_icmp_ne (t := 12) (q := 8) C0 dX6_takes_5 (by decide) rfl hf (fun c2 hf => ?_) (fun c2 hf => ?_)
  · refine J_iconst (q := 13) (v := 0) C0 dX6_takes_12 rfl rfl ?_
    refine J_sub (lv' := [(0, vr (some a0))]) [0] rfl ?_
    exact t_X6_takes_B13_k8 C1    (0) (p1.2) (Tp1) ((hE).tr Ep1) ((Ep1.at h0))  hf
  · refine J_iconst (q := 9) (v := 1) C0 dX6_takes_8 rfl rfl ?_
    refine J_goto (q := 13) C0 dX6_takes_9 (by decide) ?_
    refine J_sub (lv' := [(0, vr (some a0))]) [0] rfl ?_
    exact t_X6_takes_B13_k8 C1    (1) (p1.2) (Tp1) ((hE).tr Ep1) ((Ep1.at h0))  hf
def f_J0_coder_7d493 (c0 : Nat) (σ : Sg) : Option Int32 :=
  if ((1 : Int32)) = (0) then
  (some (1))
  else
  (some (0))
set_option maxHeartbeats 4000000 in
set_option maxRecDepth 100000 in
theorem t_J0_coder_7d493 (c0 : Nat) {σ : Sg} (g0 : (6 ≤ c0 ∧ c0 < 9)) {r : Int32} (hf : f_J0_coder_7d493 c0 σ = some r) : Ct yJ0_coder_7d493 cJ0_coder_7d493 1 (some .byte) 0 0 0 0 [vk c0] σ (fun r_ τ_ => (r_ = some (vi r)) ∧ τ_ = σ) := by
  refine Ct.of (by decide +kernel) (Nat.le_of_ble_eq_true rfl) (fun Γ C1 => ?_)
  have C0 := C1.1
  unfold f_J0_coder_7d493 at hf
  show J_ Γ 0 [(0, vk (c0))] [] σ 0 0
  refine J_getsZ (q := 3) C0 (wt_in (i := 548) (by decide +kernel) rfl) dJ0_coder_7d493_0 rfl ?_
  refine J_if_eq (t := 13) (q := 6) C0 dJ0_coder_7d493_3 (by decide) rfl hf (fun c1 hf => ?_) (fun c1 hf => ?_)
  · refine J_iconst (q := 14) (v := 1) C0 dJ0_coder_7d493_13 rfl rfl ?_
    obtain rfl := Option.some.inj hf; exact J_nret C1 dJ0_coder_7d493_14 rfl (by decide) (Nat.zero_le _) (Nat.zero_le _) ⟨rfl, rfl⟩
  · refine J_aload_n (q := 7) C0 0 rfl rfl dJ0_coder_7d493_6 rfl trivial ?_
    refine J_getKc (q := 10) C0 (by omega) (wt_in (i := 2027) (by decide +kernel) rfl) dJ0_coder_7d493_7 rfl ?_
    refine J_goto (q := 14) C0 dJ0_coder_7d493_10 (by decide) ?_
    obtain rfl := Option.some.inj hf; exact J_nret C1 dJ0_coder_7d493_14 rfl (by decide) (Nat.zero_le _) (Nat.zero_le _) ⟨rfl, rfl⟩
def f_J0_length_8abf5 (c0 : Nat) (σ : Sg) : Option Int32 :=
  Option.bind (f_J0_coder_7d493 (c0) σ) fun p1 =>
  some ((Int32.ofNat (kn_ (c0 + 3))) >>> ((p1) &&& 31))
set_option maxHeartbeats 4000000 in
set_option maxRecDepth 100000 in
theorem t_J0_length_8abf5 (c0 : Nat) {σ : Sg} (g0 : (6 ≤ c0 ∧ c0 < 9)) {r : Int32} (hf : f_J0_length_8abf5 c0 σ = some r) : Ct yJ0_length_8abf5 cJ0_length_8abf5 1 (some .int) 1 20 0 0 [vk c0] σ (fun r_ τ_ => (r_ = some (vi r)) ∧ τ_ = σ) := by
  refine Ct.of (by decide +kernel) (Nat.le_of_ble_eq_true rfl) (fun Γ C1 => ?_)
  have C0 := C1.1
  unfold f_J0_length_8abf5 at hf
  show J_ Γ 0 [(0, vk (c0))] [] σ 0 0
  refine J_aload_n (q := 1) C0 0 rfl rfl dJ0_length_8abf5_0 rfl trivial ?_
  refine J_getKv (q := 4) C0 (by omega) (wt_in (i := 2026) (by decide +kernel) rfl) dJ0_length_8abf5_1 rfl ?_
  refine J_alenK (q := 5) C0 (by omega) dJ0_length_8abf5_4 rfl ?_
  refine J_aload_n (q := 6) C0 0 rfl rfl dJ0_length_8abf5_5 rfl trivial ?_
  refine K_some hf (fun p1 hp1 hf => ?_)
  refine J_callVK (q := 9) (as := []) (rest := [vi (Int32.ofNat (kn_ (c0 + 3)))]) C0 (by omega) (t_J0_coder_7d493 (c0) (by omega) hp1) ml_J0_coder_7d493 lk_J0_335 im_J0_coder_7d493 se_J0_coder_7d493 rfl dJ0_length_8abf5_6 rfl rfl rfl (by simp [ac_]) C1.room (by decide) (by decide) (by decide) (by decide) (fun r_ τ_ hQ => ?_)
  obtain ⟨rfl, ht_⟩ := hQ; have ht_ := ht_.symm; subst ht_
  show J_ Γ 9 [(0, vk (c0))] [vi (p1), vi (Int32.ofNat (kn_ (c0 + 3)))] σ 0 0
  refine J_ishr (q := 10) C0 dJ0_length_8abf5_9 rfl ?_
  obtain rfl := Option.some.inj hf; exact J_iret C1 dJ0_length_8abf5_10 rfl (Nat.zero_le _) (Nat.zero_le _) ⟨rfl, rfl⟩
def f_J0_isLatin1_aae02 (c0 : Nat) (σ : Sg) : Option Int32 :=
  if ((1 : Int32)) = (0) then
  (some (0))
  else
  (if ((0 : Int32)) = (0) then
  (some (1))
  else
  (some (0)))
set_option maxHeartbeats 4000000 in
set_option maxRecDepth 100000 in
theorem t_J0_isLatin1_aae02 (c0 : Nat) {σ : Sg} (g0 : (6 ≤ c0 ∧ c0 < 9)) {r : Int32} (hf : f_J0_isLatin1_aae02 c0 σ = some r) : Ct yJ0_isLatin1_aae02 cJ0_isLatin1_aae02 1 (some .boolean) 0 0 0 0 [vk c0] σ (fun r_ τ_ => (r_ = some (vi r) ∧ (r = 0 ∨ r = 1)) ∧ τ_ = σ) := by
  refine Ct.of (by decide +kernel) (Nat.le_of_ble_eq_true rfl) (fun Γ C1 => ?_)
  have C0 := C1.1
  unfold f_J0_isLatin1_aae02 at hf
  show J_ Γ 0 [(0, vk (c0))] [] σ 0 0
  refine J_getsZ (q := 3) C0 (wt_in (i := 548) (by decide +kernel) rfl) dJ0_isLatin1_aae02_0 rfl ?_
  refine J_if_eq (t := 17) (q := 6) C0 dJ0_isLatin1_aae02_3 (by decide) rfl hf (fun c1 hf => ?_) (fun c1 hf => ?_)
  · refine J_iconst (q := 18) (v := 0) C0 dJ0_isLatin1_aae02_17 rfl rfl ?_
    obtain rfl := Option.some.inj hf; exact J_zret C1 dJ0_isLatin1_aae02_18 rfl (Or.inl rfl) (Nat.zero_le _) (Nat.zero_le _) ⟨⟨rfl, (Or.inl rfl)⟩, rfl⟩
  · refine J_aload_n (q := 7) C0 0 rfl rfl dJ0_isLatin1_aae02_6 rfl trivial ?_
    refine J_getKc (q := 10) C0 (by omega) (wt_in (i := 2027) (by decide +kernel) rfl) dJ0_isLatin1_aae02_7 rfl ?_
    refine J_if_ne (t := 17) (q := 13) C0 dJ0_isLatin1_aae02_10 (by decide) rfl hf (fun c2 hf => ?_) (fun c2 hf => ?_)
    · refine J_iconst (q := 18) (v := 0) C0 dJ0_isLatin1_aae02_17 rfl rfl ?_
      obtain rfl := Option.some.inj hf; exact J_zret C1 dJ0_isLatin1_aae02_18 rfl (Or.inl rfl) (Nat.zero_le _) (Nat.zero_le _) ⟨⟨rfl, (Or.inl rfl)⟩, rfl⟩
    · refine J_iconst (q := 14) (v := 1) C0 dJ0_isLatin1_aae02_13 rfl rfl ?_
      refine J_goto (q := 18) C0 dJ0_isLatin1_aae02_14 (by decide) ?_
      obtain rfl := Option.some.inj hf; exact J_zret C1 dJ0_isLatin1_aae02_18 rfl (Or.inr rfl) (Nat.zero_le _) (Nat.zero_le _) ⟨⟨rfl, (Or.inr rfl)⟩, rfl⟩
def f_J1_canEncode_9a6ad (x0 : Int32) : Option Int32 :=
  if (x0) < (0) then
  (some (0))
  else
  (if (255) < (x0) then
  (some (0))
  else
  (some (1)))
set_option maxHeartbeats 4000000 in
set_option maxRecDepth 100000 in
theorem t_J1_canEncode_9a6ad (x0 : Int32) {σ : Sg} {r : Int32} (hf : f_J1_canEncode_9a6ad x0 = some r) : Ct yJ1_canEncode_9a6ad cJ1_canEncode_9a6ad 1 (some .boolean) 0 0 0 0 [vi x0] σ (fun r_ τ_ => (r_ = some (vi r) ∧ (r = 0 ∨ r = 1)) ∧ τ_ = σ) := by
  refine Ct.of (by decide +kernel) (Nat.le_of_ble_eq_true rfl) (fun Γ C1 => ?_)
  have C0 := C1.1
  unfold f_J1_canEncode_9a6ad at hf
  show J_ Γ 0 [(0, vi (x0))] [] σ 0 0
  refine J_iload_n (q := 1) C0 0 rfl rfl dJ1_canEncode_9a6ad_0 rfl ?_
  refine J_if_lt (t := 15) (q := 4) C0 dJ1_canEncode_9a6ad_1 (by decide) rfl hf (fun c1 hf => ?_) (fun c1 hf => ?_)
  · refine J_iconst (q := 16) (v := 0) C0 dJ1_canEncode_9a6ad_15 rfl rfl ?_
    obtain rfl := Option.some.inj hf; exact J_zret C1 dJ1_canEncode_9a6ad_16 rfl (Or.inl rfl) (Nat.zero_le _) (Nat.zero_le _) ⟨⟨rfl, (Or.inl rfl)⟩, rfl⟩
  · refine J_iload_n (q := 5) C0 0 rfl rfl dJ1_canEncode_9a6ad_4 rfl ?_
    refine J_sipush (q := 8) (v := 255) C0 dJ1_canEncode_9a6ad_5 rfl rfl ?_
    refine J_icmp_gt (t := 15) (q := 11) C0 dJ1_canEncode_9a6ad_8 (by decide) rfl hf (fun c2 hf => ?_) (fun c2 hf => ?_)
    · refine J_iconst (q := 16) (v := 0) C0 dJ1_canEncode_9a6ad_15 rfl rfl ?_
      obtain rfl := Option.some.inj hf; exact J_zret C1 dJ1_canEncode_9a6ad_16 rfl (Or.inl rfl) (Nat.zero_le _) (Nat.zero_le _) ⟨⟨rfl, (Or.inl rfl)⟩, rfl⟩
    · refine J_iconst (q := 12) (v := 1) C0 dJ1_canEncode_9a6ad_11 rfl rfl ?_
      refine J_goto (q := 16) C0 dJ1_canEncode_9a6ad_12 (by decide) ?_
      obtain rfl := Option.some.inj hf; exact J_zret C1 dJ1_canEncode_9a6ad_16 rfl (Or.inr rfl) (Nat.zero_le _) (Nat.zero_le _) ⟨⟨rfl, (Or.inr rfl)⟩, rfl⟩
def f_J1_indexOfChar_4cfef_L7 (N : Nat) : Nat → Nat → Int32 → Int32 → Int32 → Sg → Option Int32
  | 0, _, _, _, _, _ => none
  | n + 1, v0, v3, v4, v5, σ =>
  if (v5) < (v3) then
  (if (v5) < 0 ∨ kn_ (v0) ≤ (v5).toNatClampNeg then none else
  if (kv_ (v0) (v5).toNatClampNeg) = (v4) then
  (some (v5))
  else
  (f_J1_indexOfChar_4cfef_L7 N n (v0) (v3) (v4) (v5 + 1) σ))
  else
  (some ((-1)))
def f_J1_indexOfChar_4cfef (N : Nat) (c0 : Nat) (x1 : Int32) (x2 : Int32) (x3 : Int32) (σ : Sg) : Option Int32 :=
  f_J1_indexOfChar_4cfef_L7 N N (c0) (x3) ((x1).toInt8.toInt32) (x2) σ
set_option maxHeartbeats 4000000 in
set_option maxRecDepth 100000 in
theorem t_J1_indexOfChar_4cfef_L7 {N : Nat} {Γ : Gm} {σ : Sg} {r : Int32} (C1 : CM Γ cJ1_indexOfChar_4cfef RJ1 6 (some .int) 0 0 0 0 (fun r_ τ_ => (r_ = some (vi r)) ∧ τ_ = σ)) : ∀ (n : Nat) (v0 : Nat) (v3 : Int32) (v4 : Int32) (v5 : Int32), (9 ≤ v0 ∧ v0 < 12) → f_J1_indexOfChar_4cfef_L7 N  n v0 v3 v4 v5 σ = some r → J_ Γ 7 [(0, vk (v0)), (3, vi (v3)), (4, vi (v4)), (5, vi (v5))] [] σ 0 0 := by
  have C0 := C1.1
  intro n
  induction n with
  | zero => intro v0 v3 v4 v5 g_v0 hf; unfold f_J1_indexOfChar_4cfef_L7 at hf; cases hf
  | succ n ih =>
    intro v0 v3 v4 v5 g_v0 hf
    rw [f_J1_indexOfChar_4cfef_L7] at hf
    refine J_iload (q := 9) C0 3 rfl dJ1_indexOfChar_4cfef_7 rfl ?_
    refine J_iload_n (q := 10) C0 1 rfl rfl dJ1_indexOfChar_4cfef_9 rfl ?_
    refine J_icmp_ge (t := 31) (q := 13) C0 dJ1_indexOfChar_4cfef_10 (by decide) rfl hf (fun c1 hf => ?_) (fun c1 hf => ?_)
    · refine J_iconst (q := 32) (v := (-1)) C0 dJ1_indexOfChar_4cfef_31 rfl rfl ?_
      obtain rfl := Option.some.inj hf; exact J_iret C1 dJ1_indexOfChar_4cfef_32 rfl (Nat.zero_le _) (Nat.zero_le _) ⟨rfl, rfl⟩
    · refine J_aload_n (q := 14) C0 0 rfl rfl dJ1_indexOfChar_4cfef_13 rfl trivial ?_
      refine J_iload (q := 16) C0 3 rfl dJ1_indexOfChar_4cfef_14 rfl ?_
      refine K_chk hf (fun c2 hf => ?_)
      refine J_baldK (q := 17) C0 (by omega) c2 dJ1_indexOfChar_4cfef_16 rfl ?_
      refine J_iload (q := 19) C0 2 rfl dJ1_indexOfChar_4cfef_17 rfl ?_
      refine J_icmp_ne (t := 25) (q := 22) C0 dJ1_indexOfChar_4cfef_19 (by decide) rfl hf (fun c3 hf => ?_) (fun c3 hf => ?_)
      · refine J_iinc (q := 28) (v := v5 + 1) (lv' := [(5, vi (v5 + 1)), (0, vk (v0)), (3, vi (v3)), (4, vi (v4))]) C0 3 rfl rfl (G_nl C1 (by decide)) dJ1_indexOfChar_4cfef_25 rfl rfl ?_
        refine J_goto (q := 7) C0 dJ1_indexOfChar_4cfef_28 (by decide) ?_
        refine J_sub (lv' := [(0, vk (v0)), (3, vi (v3)), (4, vi (v4)), (5, vi (v5 + 1))]) [1, 2, 3, 0] rfl ?_
        exact ih (v0) (v3) (v4) (v5 + 1)  (by omega) hf
      · refine J_iload (q := 24) C0 3 rfl dJ1_indexOfChar_4cfef_22 rfl ?_
        obtain rfl := Option.some.inj hf; exact J_iret C1 dJ1_indexOfChar_4cfef_24 rfl (Nat.zero_le _) (Nat.zero_le _) ⟨rfl, rfl⟩
set_option maxHeartbeats 4000000 in
set_option maxRecDepth 100000 in
theorem t_J1_indexOfChar_4cfef (N : Nat) (c0 : Nat) (x1 : Int32) (x2 : Int32) (x3 : Int32) {σ : Sg} (g0 : (9 ≤ c0 ∧ c0 < 12)) {r : Int32} (hf : f_J1_indexOfChar_4cfef N c0 x1 x2 x3 σ = some r) : Ct yJ1_indexOfChar_4cfef cJ1_indexOfChar_4cfef 6 (some .int) 0 0 0 0 [vk c0, vi x1, vi x2, vi x3] σ (fun r_ τ_ => (r_ = some (vi r)) ∧ τ_ = σ) := by
  refine Ct.of (by decide +kernel) (Nat.le_of_ble_eq_true rfl) (fun Γ C1 => ?_)
  have C0 := C1.1
  unfold f_J1_indexOfChar_4cfef at hf
  show J_ Γ 0 [(0, vk (c0)), (1, vi (x1)), (2, vi (x2)), (3, vi (x3))] [] σ 0 0
  refine J_iload_n (q := 1) C0 1 rfl rfl dJ1_indexOfChar_4cfef_0 rfl ?_
  refine J_i2b (q := 2) C0 dJ1_indexOfChar_4cfef_1 rfl ?_
  refine J_istore (q := 4) (lv' := [(4, vi ((x1).toInt8.toInt32)), (0, vk (c0)), (1, vi (x1)), (2, vi (x2)), (3, vi (x3))]) C0 (G_nl C1 (by decide)) dJ1_indexOfChar_4cfef_2 rfl rfl ?_
  refine J_iload_n (q := 5) C0 3 rfl rfl dJ1_indexOfChar_4cfef_4 rfl ?_
  refine J_istore (q := 7) (lv' := [(5, vi (x2)), (4, vi ((x1).toInt8.toInt32)), (0, vk (c0)), (1, vi (x1)), (2, vi (x2)), (3, vi (x3))]) C0 (G_nl C1 (by decide)) dJ1_indexOfChar_4cfef_5 rfl rfl ?_
  refine J_sub (lv' := [(0, vk (c0)), (3, vi (x3)), (4, vi ((x1).toInt8.toInt32)), (5, vi (x2))]) [2, 5, 1, 0] rfl ?_
  exact t_J1_indexOfChar_4cfef_L7 C1    N (c0) (x3) ((x1).toInt8.toInt32) (x2) (by omega) hf
def f_J1_indexOf_4cfef (N : Nat) (c0 : Nat) (x1 : Int32) (x2 : Int32) (x3 : Int32) (σ : Sg) : Option Int32 :=
  Option.bind (f_J1_canEncode_9a6ad (x1) ) fun p1 =>
  if (p1) = (0) then
  (some ((-1)))
  else
  (Option.bind (f_J9_max_7cf53 (x2) (0) ) fun p3 =>
  Option.bind (f_J9_min_7cf53 (x3) (Int32.ofNat (kn_ (c0))) ) fun p4 =>
  if (p3) < (p4) then
  (Option.bind (f_J1_indexOfChar_4cfef N (c0) (x1) (p3) (p4) σ) fun p6 =>
  some (p6))
  else
  (some ((-1))))
set_option maxHeartbeats 4000000 in
set_option maxRecDepth 100000 in
theorem t_J1_indexOf_4cfef (N : Nat) (c0 : Nat) (x1 : Int32) (x2 : Int32) (x3 : Int32) {σ : Sg} (g0 : (9 ≤ c0 ∧ c0 < 12)) {r : Int32} (hf : f_J1_indexOf_4cfef N c0 x1 x2 x3 σ = some r) : Ct yJ1_indexOf_4cfef cJ1_indexOf_4cfef 4 (some .int) 1 25 0 0 [vk c0, vi x1, vi x2, vi x3] σ (fun r_ τ_ => (r_ = some (vi r)) ∧ τ_ = σ) := by
  refine Ct.of (by decide +kernel) (Nat.le_of_ble_eq_true rfl) (fun Γ C1 => ?_)
  have C0 := C1.1
  unfold f_J1_indexOf_4cfef at hf
  show J_ Γ 0 [(0, vk (c0)), (1, vi (x1)), (2, vi (x2)), (3, vi (x3))] [] σ 0 0
  refine J_iload_n (q := 1) C0 1 rfl rfl dJ1_indexOf_4cfef_0 rfl ?_
  refine K_some hf (fun p1 hp1 hf => ?_)
  refine J_callS (q := 4) (as := [vi (x1)]) (rest := []) C0 (t_J1_canEncode_9a6ad (x1)  hp1) ml_J1_canEncode_9a6ad lk_J1_88 sm_J1_canEncode_9a6ad dJ1_indexOf_4cfef_1 rfl rfl rfl (by simp [ac_]) C1.room (by decide) (by decide) (by decide) (by decide) (fun r_ τ_ hQ => ?_)
  obtain ⟨⟨rfl, zp1⟩, ht_⟩ := hQ; have ht_ := ht_.symm; subst ht_
  show J_ Γ 4 [(0, vk (c0)), (1, vi (x1)), (2, vi (x2)), (3, vi (x3))] [vi (p1)] σ 0 0
  refine J_if_ne (t := 9) (q := 7) C0 dJ1_indexOf_4cfef_4 (by decide) rfl hf (fun c2 hf => ?_) (fun c2 hf => ?_)
  · refine J_iload_n (q := 10) C0 2 rfl rfl dJ1_indexOf_4cfef_9 rfl ?_
    refine J_iconst (q := 11) (v := 0) C0 dJ1_indexOf_4cfef_10 rfl rfl ?_
    refine K_some hf (fun p3 hp3 hf => ?_)
    refine J_callS (q := 14) (as := [vi (x2), vi (0)]) (rest := []) C0 (t_J9_max_7cf53 (x2) (0)  hp3) ml_J9_max_7cf53 lk_J1_92 sm_J9_max_7cf53 dJ1_indexOf_4cfef_11 rfl rfl rfl (by simp [ac_]) C1.room (by decide) (by decide) (by decide) (by decide) (fun r_ τ_ hQ => ?_)
    obtain ⟨rfl, ht_⟩ := hQ; have ht_ := ht_.symm; subst ht_
    show J_ Γ 14 [(0, vk (c0)), (1, vi (x1)), (2, vi (x2)), (3, vi (x3))] [vi (p3)] σ 0 0
    refine J_istore_n (q := 15) (lv' := [(2, vi (p3)), (0, vk (c0)), (1, vi (x1)), (3, vi (x3))]) C0 rfl (G_nl C1 (by decide)) dJ1_indexOf_4cfef_14 rfl rfl ?_
    refine J_iload_n (q := 16) C0 3 rfl rfl dJ1_indexOf_4cfef_15 rfl ?_
    refine J_aload_n (q := 17) C0 1 rfl rfl dJ1_indexOf_4cfef_16 rfl trivial ?_
    refine J_alenK (q := 18) C0 (by omega) dJ1_indexOf_4cfef_17 rfl ?_
    refine K_some hf (fun p4 hp4 hf => ?_)
    refine J_callS (q := 21) (as := [vi (x3), vi (Int32.ofNat (kn_ (c0)))]) (rest := []) C0 (t_J9_min_7cf53 (x3) (Int32.ofNat (kn_ (c0)))  hp4) ml_J9_min_7cf53 lk_J1_38 sm_J9_min_7cf53 dJ1_indexOf_4cfef_18 rfl rfl rfl (by simp [ac_]) C1.room (by decide) (by decide) (by decide) (by decide) (fun r_ τ_ hQ => ?_)
    obtain ⟨rfl, ht_⟩ := hQ; have ht_ := ht_.symm; subst ht_
    show J_ Γ 21 [(2, vi (p3)), (0, vk (c0)), (1, vi (x1)), (3, vi (x3))] [vi (p4)] σ 0 0
    refine J_istore_n (q := 22) (lv' := [(3, vi (p4)), (2, vi (p3)), (0, vk (c0)), (1, vi (x1))]) C0 rfl (G_nl C1 (by decide)) dJ1_indexOf_4cfef_21 rfl rfl ?_
    refine J_iload_n (q := 23) C0 1 rfl rfl dJ1_indexOf_4cfef_22 rfl ?_
    refine J_iload_n (q := 24) C0 0 rfl rfl dJ1_indexOf_4cfef_23 rfl ?_
    refine J_icmp_lt (t := 29) (q := 27) C0 dJ1_indexOf_4cfef_24 (by decide) rfl hf (fun c5 hf => ?_) (fun c5 hf => ?_)
    · refine J_aload_n (q := 30) C0 2 rfl rfl dJ1_indexOf_4cfef_29 rfl trivial ?_
      refine J_iload_n (q := 31) C0 3 rfl rfl dJ1_indexOf_4cfef_30 rfl ?_
      refine J_iload_n (q := 32) C0 1 rfl rfl dJ1_indexOf_4cfef_31 rfl ?_
      refine J_iload_n (q := 33) C0 0 rfl rfl dJ1_indexOf_4cfef_32 rfl ?_
      refine K_some hf (fun p6 hp6 hf => ?_)
      refine J_callS (q := 36) (as := [vk (c0), vi (x1), vi (p3), vi (p4)]) (rest := []) C0 (t_J1_indexOfChar_4cfef N (c0) (x1) (p3) (p4) (by omega) hp6) ml_J1_indexOfChar_4cfef lk_J1_95 sm_J1_indexOfChar_4cfef dJ1_indexOf_4cfef_33 rfl rfl rfl (by simp [ac_]) C1.room (by decide) (by decide) (by decide) (by decide) (fun r_ τ_ hQ => ?_)
      obtain ⟨rfl, ht_⟩ := hQ; have ht_ := ht_.symm; subst ht_
      show J_ Γ 36 [(3, vi (p4)), (2, vi (p3)), (0, vk (c0)), (1, vi (x1))] [vi (p6)] σ 0 0
      obtain rfl := Option.some.inj hf; exact J_iret C1 dJ1_indexOf_4cfef_36 rfl (Nat.zero_le _) (Nat.zero_le _) ⟨rfl, rfl⟩
    · refine J_iconst (q := 28) (v := (-1)) C0 dJ1_indexOf_4cfef_27 rfl rfl ?_
      obtain rfl := Option.some.inj hf; exact J_iret C1 dJ1_indexOf_4cfef_28 rfl (Nat.zero_le _) (Nat.zero_le _) ⟨rfl, rfl⟩
  · refine J_iconst (q := 8) (v := (-1)) C0 dJ1_indexOf_4cfef_7 rfl rfl ?_
    obtain rfl := Option.some.inj hf; exact J_iret C1 dJ1_indexOf_4cfef_8 rfl (Nat.zero_le _) (Nat.zero_le _) ⟨rfl, rfl⟩
def f_J0_indexOf_7cf53 (N : Nat) (c0 : Nat) (x1 : Int32) (x2 : Int32) (σ : Sg) : Option Int32 :=
  Option.bind (f_J0_isLatin1_aae02 (c0) σ) fun p1 =>
  if (p1) = (0) then
  (none)
  else
  (Option.bind (f_J0_length_8abf5 (c0) σ) fun p4 =>
  Option.bind (f_J1_indexOf_4cfef N (c0 + 3) (x1) (x2) (p4) σ) fun p5 =>
  some (p5))
set_option maxHeartbeats 4000000 in
set_option maxRecDepth 100000 in
theorem t_J0_indexOf_7cf53 (N : Nat) (c0 : Nat) (x1 : Int32) (x2 : Int32) {σ : Sg} (g0 : (6 ≤ c0 ∧ c0 < 9)) {r : Int32} (hf : f_J0_indexOf_7cf53 N c0 x1 x2 σ = some r) : Ct yJ0_indexOf_7cf53 cJ0_indexOf_7cf53 3 (some .int) 2 48 0 0 [vk c0, vi x1, vi x2] σ (fun r_ τ_ => (r_ = some (vi r)) ∧ τ_ = σ) := by
  refine Ct.of (by decide +kernel) (Nat.le_of_ble_eq_true rfl) (fun Γ C1 => ?_)
  have C0 := C1.1
  unfold f_J0_indexOf_7cf53 at hf
  show J_ Γ 0 [(0, vk (c0)), (1, vi (x1)), (2, vi (x2))] [] σ 0 0
  refine J_aload_n (q := 1) C0 0 rfl rfl dJ0_indexOf_7cf53_0 rfl trivial ?_
  refine K_some hf (fun p1 hp1 hf => ?_)
  refine J_callVK (q := 4) (as := []) (rest := []) C0 (by omega) (t_J0_isLatin1_aae02 (c0) (by omega) hp1) ml_J0_isLatin1_aae02 lk_J0_492 im_J0_isLatin1_aae02 se_J0_isLatin1_aae02 rfl dJ0_indexOf_7cf53_1 rfl rfl rfl (by simp [ac_]) C1.room (by decide) (by decide) (by decide) (by decide) (fun r_ τ_ hQ => ?_)
  obtain ⟨⟨rfl, zp1⟩, ht_⟩ := hQ; have ht_ := ht_.symm; subst ht_
  show J_ Γ 4 [(0, vk (c0)), (1, vi (x1)), (2, vi (x2))] [vi (p1)] σ 0 0
  refine J_if_eq (t := 23) (q := 7) C0 dJ0_indexOf_7cf53_4 (by decide) rfl hf (fun c2 hf => ?_) (fun c2 hf => ?_)
  · cases hf
  · refine J_aload_n (q := 8) C0 0 rfl rfl dJ0_indexOf_7cf53_7 rfl trivial ?_
    refine J_getKv (q := 11) C0 (by omega) (wt_in (i := 2026) (by decide +kernel) rfl) dJ0_indexOf_7cf53_8 rfl ?_
    refine J_iload_n (q := 12) C0 1 rfl rfl dJ0_indexOf_7cf53_11 rfl ?_
    refine J_iload_n (q := 13) C0 2 rfl rfl dJ0_indexOf_7cf53_12 rfl ?_
    refine J_aload_n (q := 14) C0 0 rfl rfl dJ0_indexOf_7cf53_13 rfl trivial ?_
    refine K_some hf (fun p4 hp4 hf => ?_)
    refine J_callVK (q := 17) (as := []) (rest := [vi (x2), vi (x1), vk (c0 + 3)]) C0 (by omega) (t_J0_length_8abf5 (c0) (by omega) hp4) ml_J0_length_8abf5 lk_J0_505 im_J0_length_8abf5 se_J0_length_8abf5 rfl dJ0_indexOf_7cf53_14 rfl rfl rfl (by simp [ac_]) C1.room (by decide) (by decide) (by decide) (by decide) (fun r_ τ_ hQ => ?_)
    obtain ⟨rfl, ht_⟩ := hQ; have ht_ := ht_.symm; subst ht_
    show J_ Γ 17 [(0, vk (c0)), (1, vi (x1)), (2, vi (x2))] [vi (p4), vi (x2), vi (x1), vk (c0 + 3)] σ 0 0
    refine K_some hf (fun p5 hp5 hf => ?_)
    refine J_callS (q := 20) (as := [vk (c0 + 3), vi (x1), vi (x2), vi (p4)]) (rest := []) C0 (t_J1_indexOf_4cfef N (c0 + 3) (x1) (x2) (p4) (by omega) hp5) ml_J1_indexOf_4cfef lk_J0_637 sm_J1_indexOf_4cfef dJ0_indexOf_7cf53_17 rfl rfl rfl (by simp [ac_]) C1.room (by decide) (by decide) (by decide) (by decide) (fun r_ τ_ hQ => ?_)
    obtain ⟨rfl, ht_⟩ := hQ; have ht_ := ht_.symm; subst ht_
    show J_ Γ 20 [(0, vk (c0)), (1, vi (x1)), (2, vi (x2))] [vi (p5)] σ 0 0
    refine J_goto (q := 36) C0 dJ0_indexOf_7cf53_20 (by decide) ?_
    obtain rfl := Option.some.inj hf; exact J_iret C1 dJ0_indexOf_7cf53_36 rfl (Nat.zero_le _) (Nat.zero_le _) ⟨rfl, rfl⟩
def f_J0_indexOf_0f7a4 (N : Nat) (c0 : Nat) (x1 : Int32) (σ : Sg) : Option Int32 :=
  Option.bind (f_J0_indexOf_7cf53 N (c0) (x1) (0) σ) fun p1 =>
  some (p1)
set_option maxHeartbeats 4000000 in
set_option maxRecDepth 100000 in
theorem t_J0_indexOf_0f7a4 (N : Nat) (c0 : Nat) (x1 : Int32) {σ : Sg} (g0 : (6 ≤ c0 ∧ c0 < 9)) {r : Int32} (hf : f_J0_indexOf_0f7a4 N c0 x1 σ = some r) : Ct yJ0_indexOf_0f7a4 cJ0_indexOf_0f7a4 2 (some .int) 3 70 0 0 [vk c0, vi x1] σ (fun r_ τ_ => (r_ = some (vi r)) ∧ τ_ = σ) := by
  refine Ct.of (by decide +kernel) (Nat.le_of_ble_eq_true rfl) (fun Γ C1 => ?_)
  have C0 := C1.1
  unfold f_J0_indexOf_0f7a4 at hf
  show J_ Γ 0 [(0, vk (c0)), (1, vi (x1))] [] σ 0 0
  refine J_aload_n (q := 1) C0 0 rfl rfl dJ0_indexOf_0f7a4_0 rfl trivial ?_
  refine J_iload_n (q := 2) C0 1 rfl rfl dJ0_indexOf_0f7a4_1 rfl ?_
  refine J_iconst (q := 3) (v := 0) C0 dJ0_indexOf_0f7a4_2 rfl rfl ?_
  refine K_some hf (fun p1 hp1 hf => ?_)
  refine J_callVK (q := 6) (as := [vi (x1), vi (0)]) (rest := []) C0 (by omega) (t_J0_indexOf_7cf53 N (c0) (x1) (0) (by omega) hp1) ml_J0_indexOf_7cf53 lk_J0_633 im_J0_indexOf_7cf53 se_J0_indexOf_7cf53 rfl dJ0_indexOf_0f7a4_3 rfl rfl rfl (by simp [ac_]) C1.room (by decide) (by decide) (by decide) (by decide) (fun r_ τ_ hQ => ?_)
  obtain ⟨rfl, ht_⟩ := hQ; have ht_ := ht_.symm; subst ht_
  show J_ Γ 6 [(0, vk (c0)), (1, vi (x1))] [vi (p1)] σ 0 0
  obtain rfl := Option.some.inj hf; exact J_iret C1 dJ0_indexOf_0f7a4_6 rfl (Nat.zero_le _) (Nat.zero_le _) ⟨rfl, rfl⟩
def f_X6_letterOf (N : Nat) (c0 : Nat) (x1 : Int32) (σ : Sg) : Option Int32 :=
  if (x1) = ((-1)) then
  (some ((-1)))
  else
  (Option.bind (f_J0_indexOf_0f7a4 N (c0) (((x1).toUInt32 % 65536).toInt32) σ) fun p2 =>
  some (p2))
set_option maxHeartbeats 4000000 in
set_option maxRecDepth 100000 in
theorem t_X6_letterOf (N : Nat) (c0 : Nat) (x1 : Int32) {σ : Sg} (g0 : (6 ≤ c0 ∧ c0 < 9)) {r : Int32} (hf : f_X6_letterOf N c0 x1 σ = some r) : Ct yX6_letterOf cX6_letterOf 2 (some .int) 4 91 0 0 [vk c0, vi x1] σ (fun r_ τ_ => (r_ = some (vi r)) ∧ τ_ = σ) := by
  refine Ct.of (by decide +kernel) (Nat.le_of_ble_eq_true rfl) (fun Γ C1 => ?_)
  have C0 := C1.1
  unfold f_X6_letterOf at hf
  show J_ Γ 0 [(0, vk (c0)), (1, vi (x1))] [] σ 0 0
  refine J_iload_n (q := 1) C0 1 rfl rfl dX6_letterOf_0 rfl ?_
  refine J_iconst (q := 2) (v := (-1)) C0 dX6_letterOf_1 rfl rfl ?_
  refine J_icmp_ne (t := 9) (q := 5) C0 dX6_letterOf_2 (by decide) rfl hf (fun c1 hf => ?_) (fun c1 hf => ?_)
  · refine J_aload_n (q := 10) C0 0 rfl rfl dX6_letterOf_9 rfl trivial ?_
    refine J_iload_n (q := 11) C0 1 rfl rfl dX6_letterOf_10 rfl ?_
    refine J_i2c (q := 12) C0 dX6_letterOf_11 rfl ?_
    refine K_some hf (fun p2 hp2 hf => ?_)
    refine J_callVK (q := 15) (as := [vi (((x1).toUInt32 % 65536).toInt32)]) (rest := []) C0 (by omega) (t_J0_indexOf_0f7a4 N (c0) (((x1).toUInt32 % 65536).toInt32) (by omega) hp2) ml_J0_indexOf_0f7a4 lk_X6_32 im_J0_indexOf_0f7a4 se_J0_indexOf_0f7a4 rfl dX6_letterOf_12 rfl rfl rfl (by simp [ac_]) C1.room (by decide) (by decide) (by decide) (by decide) (fun r_ τ_ hQ => ?_)
    obtain ⟨rfl, ht_⟩ := hQ; have ht_ := ht_.symm; subst ht_
    show J_ Γ 15 [(0, vk (c0)), (1, vi (x1))] [vi (p2)] σ 0 0
    obtain rfl := Option.some.inj hf; exact J_iret C1 dX6_letterOf_15 rfl (Nat.zero_le _) (Nat.zero_le _) ⟨rfl, rfl⟩
  · refine J_iconst (q := 6) (v := (-1)) C0 dX6_letterOf_5 rfl rfl ?_
    refine J_goto (q := 15) C0 dX6_letterOf_6 (by decide) ?_
    obtain rfl := Option.some.inj hf; exact J_iret C1 dX6_letterOf_15 rfl (Nat.zero_le _) (Nat.zero_le _) ⟨rfl, rfl⟩
def f_X6_number_B161 (N : Nat) (a0 : Nat) (v5 : Int32) (v7 : Int32) (s0 : Int32) (s1 : Int32) (s2 : Option Nat) (σ : Sg) : Option (Int32 × Sg) :=
  Option.bind (s2) fun b7 =>
  if (v7) = (0) then
  (some ((-1), put_I σ b7 2 ((s1) + (s0))))
  else
  (some (v5, put_I σ b7 2 ((s1) + (s0))))
def f_X6_number_B140 (N : Nat) (a0 : Nat) (v4 : Int32) (v5 : Int32) (s0 : Int32) (σ : Sg) : Option (Int32 × Sg) :=
  if (s0) = (0) then
  (f_X6_number_B161 N a0 (v5) (s0) ((v4) - (1)) (sg_I σ a0 2) (some a0) σ)
  else
  (f_X6_number_B161 N a0 (v5) (s0) (v4) (sg_I σ a0 2) (some a0) σ)
def f_X6_number_B139 (N : Nat) (a0 : Nat) (v4 : Int32) (v5 : Int32) (σ : Sg) : Option (Int32 × Sg) :=
  f_X6_number_B140 N a0 (v4) (v5) (0) σ
def f_X6_number_B98 (N : Nat) (a0 : Nat) (v1 : Int32) (v2 : Int32) (v3 : Int32) (v4 : Int32) (v5 : Int32) (σ : Sg) : Option (Int32 × Sg) :=
  if (v4) = (0) then
  (some ((-1), σ))
  else
  (if (v1) < (v4) then
  (some ((-1), put_I σ a0 2 ((sg_I σ a0 2) + (v1))))
  else
  (if (v5) < (v2) then
  (f_X6_number_B139 N a0 (v4) (v5) σ)
  else
  (if (v3) < (v5) then
  (f_X6_number_B139 N a0 (v4) (v5) σ)
  else
  (f_X6_number_B140 N a0 (v4) (v5) (1) σ))))
def f_X6_number_L23 (N : Nat) (a0 : Nat) : Nat → Int32 → Int32 → Int32 → Int32 → Int32 → Int32 → Sg → Option (Int32 × Sg)
  | 0, _, _, _, _, _, _, _ => none
  | n + 1, v1, v2, v3, v4, v5, v6, σ =>
  if ((sg_I σ a0 2) + (v4)) < (v6) then
  (Option.bind (sg_R σ a0 0) fun b10 =>
  if ((sg_I σ a0 2) + (v4)) < 0 ∨ sg_L σ b10 ≤ ((sg_I σ a0 2) + (v4)).toNatClampNeg then none else
  if (sg_I σ b10 ((sg_I σ a0 2) + (v4)).toNatClampNeg) < (48) then
  (f_X6_number_B98 N a0 (v1) (v2) (v3) (v4) (v5) σ)
  else
  (if ((sg_I σ a0 2) + (v4)) < 0 ∨ sg_L σ b10 ≤ ((sg_I σ a0 2) + (v4)).toNatClampNeg then none else
  if (57) < (sg_I σ b10 ((sg_I σ a0 2) + (v4)).toNatClampNeg) then
  (f_X6_number_B98 N a0 (v1) (v2) (v3) (v4) (v5) σ)
  else
  (if ((sg_I σ a0 2) + (v4)) < 0 ∨ sg_L σ b10 ≤ ((sg_I σ a0 2) + (v4)).toNatClampNeg then none else
  f_X6_number_L23 N a0 n (v1) (v2) (v3) (v4 + 1) ((((v5) * (10)) + (sg_I σ b10 ((sg_I σ a0 2) + (v4)).toNatClampNeg)) - (48)) (v6) σ)))
  else
  (f_X6_number_B98 N a0 (v1) (v2) (v3) (v4) (v5) σ)
def f_X6_number (N : Nat) (a0 : Nat) (x1 : Int32) (x2 : Int32) (x3 : Int32) (σ : Sg) : Option (Int32 × Sg) :=
  Option.bind (f_J9_min_7cf53 (sg_I σ a0 1) (((sg_I σ a0 2) + (x1)) + (1)) ) fun p1 =>
  f_X6_number_L23 N a0 N (x1) (x2) (x3) (0) (0) (p1) σ
set_option maxHeartbeats 4000000 in
set_option maxRecDepth 100000 in
theorem t_X6_number_B161_k1 {N : Nat} {a0 : Nat} {Γ : Gm} {σ0 : Sg} {r : (Int32 × Sg)} (C1 : CM Γ cX6_number RX6 8 (some .int) 1 21 0 0 (fun r_ τ_ => (r_ = some (vi r.1)) ∧ τ_ = r.2 ∧ sg_T τ_ ∧ sg_E σ0 τ_)) (v5 : Int32) (v7 : Int32) (s0 : Int32) (s1 : Int32) (s2 : Option Nat) (σ : Sg) (hT : sg_T σ) (hE : sg_E σ0 σ) (h0 : is_A σ a0 1) (g_s2 : is_O σ s2 1) (hf : f_X6_number_B161 N a0  v5 v7 s0 s1 s2 σ = some r) : J_ Γ 161 [(0, vr (some a0)), (5, vi (v5)), (7, vi (v7))] [vi (s0), vi (s1), vr (s2)] σ 0 0 := by
  have C0 := C1.1
  unfold f_X6_number_B161 at hf
  refine J_iadd (q := 162) C0 dX6_number_161 rfl ?_
  refine K_some hf (fun b7 hb7 hf => ?_)
  have ab7 : is_A σ b7 1 := (g_s2) b7 hb7
  refine J_putI (q := 165) C0 fl_X6_19_1 hb7 (ab7) rfl dX6_number_162 rfl ?_
  refine J_iload (q := 167) C0 2 rfl dX6_number_165 rfl ?_
  refine J_if_eq (t := 175) (q := 170) C0 dX6_number_167 (by decide) rfl hf (fun c8 hf => ?_) (fun c8 hf => ?_)
  · refine J_iconst (q := 176) (v := (-1)) C0 dX6_number_175 rfl rfl ?_
    obtain rfl := Option.some.inj hf; exact J_iret C1 dX6_number_176 rfl (Nat.zero_le _) (Nat.zero_le _) ⟨rfl, rfl, (hT).putI, (hE).putI⟩
  · refine J_iload (q := 172) C0 1 rfl dX6_number_170 rfl ?_
    refine J_goto (q := 176) C0 dX6_number_172 (by decide) ?_
    obtain rfl := Option.some.inj hf; exact J_iret C1 dX6_number_176 rfl (Nat.zero_le _) (Nat.zero_le _) ⟨rfl, rfl, (hT).putI, (hE).putI⟩
set_option maxHeartbeats 4000000 in
set_option maxRecDepth 100000 in
theorem t_X6_number_B140_k1 {N : Nat} {a0 : Nat} {Γ : Gm} {σ0 : Sg} {r : (Int32 × Sg)} (C1 : CM Γ cX6_number RX6 8 (some .int) 1 21 0 0 (fun r_ τ_ => (r_ = some (vi r.1)) ∧ τ_ = r.2 ∧ sg_T τ_ ∧ sg_E σ0 τ_)) (v4 : Int32) (v5 : Int32) (s0 : Int32) (σ : Sg) (hT : sg_T σ) (hE : sg_E σ0 σ) (h0 : is_A σ a0 1) (hf : f_X6_number_B140 N a0  v4 v5 s0 σ = some r) : J_ Γ 140 [(0, vr (some a0)), (4, vi (v4)), (5, vi (v5))] [vi (s0)] σ 0 0 := by
  have C0 := C1.1
  unfold f_X6_number_B140 at hf
  refine J_istore (q := 142) (lv' := [(7, vi (s0)), (0, vr (some a0)), (4, vi (v4)), (5, vi (v5))]) C0 (G_nl C1 (by decide)) dX6_number_140 rfl rfl ?_
  refine J_aload_n (q := 143) C0 1 rfl rfl dX6_number_142 rfl trivial ?_
  refine J_dup (q := 144) C0 dX6_number_143 rfl rfl ?_
  refine J_getI (q := 147) C0 fl_X6_19_1 rfl (h0) rfl dX6_number_144 rfl ?_
  refine J_iload (q := 149) C0 0 rfl dX6_number_147 rfl ?_
  refine J_if_eq (t := 157) (q := 152) C0 dX6_number_149 (by decide) rfl hf (fun c6 hf => ?_) (fun c6 hf => ?_)
  · refine J_iload (q := 159) C0 2 rfl dX6_number_157 rfl ?_
    refine J_iconst (q := 160) (v := 1) C0 dX6_number_159 rfl rfl ?_
    refine J_isub (q := 161) C0 dX6_number_160 rfl ?_
    refine J_sub (lv' := [(0, vr (some a0)), (5, vi (v5)), (7, vi (s0))]) [1, 3, 0] rfl ?_
    exact t_X6_number_B161_k1 C1    (v5) (s0) ((v4) - (1)) (sg_I σ a0 2) (some a0) σ (hT) (hE) (h0) (is_O.some (h0)) hf
  · refine J_iload (q := 154) C0 2 rfl dX6_number_152 rfl ?_
    refine J_goto (q := 161) C0 dX6_number_154 (by decide) ?_
    refine J_sub (lv' := [(0, vr (some a0)), (5, vi (v5)), (7, vi (s0))]) [1, 3, 0] rfl ?_
    exact t_X6_number_B161_k1 C1    (v5) (s0) (v4) (sg_I σ a0 2) (some a0) σ (hT) (hE) (h0) (is_O.some (h0)) hf
set_option maxHeartbeats 4000000 in
set_option maxRecDepth 100000 in
theorem t_X6_number_B139_k1 {N : Nat} {a0 : Nat} {Γ : Gm} {σ0 : Sg} {r : (Int32 × Sg)} (C1 : CM Γ cX6_number RX6 8 (some .int) 1 21 0 0 (fun r_ τ_ => (r_ = some (vi r.1)) ∧ τ_ = r.2 ∧ sg_T τ_ ∧ sg_E σ0 τ_)) (v4 : Int32) (v5 : Int32) (σ : Sg) (hT : sg_T σ) (hE : sg_E σ0 σ) (h0 : is_A σ a0 1) (hf : f_X6_number_B139 N a0  v4 v5 σ = some r) : J_ Γ 139 [(0, vr (some a0)), (4, vi (v4)), (5, vi (v5))] [] σ 0 0 := by
  have C0 := C1.1
  unfold f_X6_number_B139 at hf
  refine J_iconst (q := 140) (v := 0) C0 dX6_number_139 rfl rfl ?_
  exact t_X6_number_B140_k1 C1    (v4) (v5) (0) σ (hT) (hE) (h0)  hf
set_option maxHeartbeats 4000000 in
set_option maxRecDepth 100000 in
theorem t_X6_number_B98_k1 {N : Nat} {a0 : Nat} {Γ : Gm} {σ0 : Sg} {r : (Int32 × Sg)} (C1 : CM Γ cX6_number RX6 8 (some .int) 1 21 0 0 (fun r_ τ_ => (r_ = some (vi r.1)) ∧ τ_ = r.2 ∧ sg_T τ_ ∧ sg_E σ0 τ_)) (v1 : Int32) (v2 : Int32) (v3 : Int32) (v4 : Int32) (v5 : Int32) (σ : Sg) (hT : sg_T σ) (hE : sg_E σ0 σ) (h0 : is_A σ a0 1) (hf : f_X6_number_B98 N a0  v1 v2 v3 v4 v5 σ = some r) : J_ Γ 98 [(0, vr (some a0)), (1, vi (v1)), (2, vi (v2)), (3, vi (v3)), (4, vi (v4)), (5, vi (v5))] [] σ 0 0 := by
  have C0 := C1.1
  unfold f_X6_number_B98 at hf
  refine J_iload (q := 100) C0 4 rfl dX6_number_98 rfl ?_
  refine J_if_ne (t := 105) (q := 103) C0 dX6_number_100 (by decide) rfl hf (fun c3 hf => ?_) (fun c3 hf => ?_)
  · refine J_iload (q := 107) C0 4 rfl dX6_number_105 rfl ?_
    refine J_iload_n (q := 108) C0 1 rfl rfl dX6_number_107 rfl ?_
    refine J_icmp_le (t := 123) (q := 111) C0 dX6_number_108 (by decide) rfl hf (fun c4 hf => ?_) (fun c4 hf => ?_)
    · refine J_iload (q := 125) C0 5 rfl dX6_number_123 rfl ?_
      refine J_iload_n (q := 126) C0 2 rfl rfl dX6_number_125 rfl ?_
      refine J_icmp_lt (t := 139) (q := 129) C0 dX6_number_126 (by decide) rfl hf (fun c5 hf => ?_) (fun c5 hf => ?_)
      · refine J_sub (lv' := [(0, vr (some a0)), (4, vi (v4)), (5, vi (v5))]) [0, 4, 5] rfl ?_
        exact t_X6_number_B139_k1 C1    (v4) (v5) σ (hT) (hE) (h0)  hf
      · refine J_iload (q := 131) C0 5 rfl dX6_number_129 rfl ?_
        refine J_iload_n (q := 132) C0 3 rfl rfl dX6_number_131 rfl ?_
        refine J_icmp_gt (t := 139) (q := 135) C0 dX6_number_132 (by decide) rfl hf (fun c9 hf => ?_) (fun c9 hf => ?_)
        · refine J_sub (lv' := [(0, vr (some a0)), (4, vi (v4)), (5, vi (v5))]) [0, 4, 5] rfl ?_
          exact t_X6_number_B139_k1 C1    (v4) (v5) σ (hT) (hE) (h0)  hf
        · refine J_iconst (q := 136) (v := 1) C0 dX6_number_135 rfl rfl ?_
          refine J_goto (q := 140) C0 dX6_number_136 (by decide) ?_
          refine J_sub (lv' := [(0, vr (some a0)), (4, vi (v4)), (5, vi (v5))]) [0, 4, 5] rfl ?_
          exact t_X6_number_B140_k1 C1    (v4) (v5) (1) σ (hT) (hE) (h0)  hf
    · refine J_aload_n (q := 112) C0 0 rfl rfl dX6_number_111 rfl trivial ?_
      refine J_dup (q := 113) C0 dX6_number_112 rfl rfl ?_
      refine J_getI (q := 116) C0 fl_X6_19_1 rfl (h0) rfl dX6_number_113 rfl ?_
      refine J_iload_n (q := 117) C0 1 rfl rfl dX6_number_116 rfl ?_
      refine J_iadd (q := 118) C0 dX6_number_117 rfl ?_
      refine J_putI (q := 121) C0 fl_X6_19_1 rfl (h0) rfl dX6_number_118 rfl ?_
      refine J_iconst (q := 122) (v := (-1)) C0 dX6_number_121 rfl rfl ?_
      obtain rfl := Option.some.inj hf; exact J_iret C1 dX6_number_122 rfl (Nat.zero_le _) (Nat.zero_le _) ⟨rfl, rfl, (hT).putI, (hE).putI⟩
  · refine J_iconst (q := 104) (v := (-1)) C0 dX6_number_103 rfl rfl ?_
    obtain rfl := Option.some.inj hf; exact J_iret C1 dX6_number_104 rfl (Nat.zero_le _) (Nat.zero_le _) ⟨rfl, rfl, hT, hE⟩
set_option maxHeartbeats 4000000 in
set_option maxRecDepth 100000 in
theorem t_X6_number_L23_k1 {N : Nat} {a0 : Nat} {Γ : Gm} {σ0 : Sg} {r : (Int32 × Sg)} (C1 : CM Γ cX6_number RX6 8 (some .int) 1 21 0 0 (fun r_ τ_ => (r_ = some (vi r.1)) ∧ τ_ = r.2 ∧ sg_T τ_ ∧ sg_E σ0 τ_)) : ∀ (n : Nat) (v1 : Int32) (v2 : Int32) (v3 : Int32) (v4 : Int32) (v5 : Int32) (v6 : Int32) (σ : Sg), sg_T σ → sg_E σ0 σ → is_A σ a0 1 → f_X6_number_L23 N a0  n v1 v2 v3 v4 v5 v6 σ = some r → J_ Γ 23 [(0, vr (some a0)), (1, vi (v1)), (2, vi (v2)), (3, vi (v3)), (4, vi (v4)), (5, vi (v5)), (6, vi (v6))] [] σ 0 0 := by
  have C0 := C1.1
  intro n
  induction n with
  | zero => intro v1 v2 v3 v4 v5 v6 σ hT hE h0  hf; unfold f_X6_number_L23 at hf; cases hf
  | succ n ih =>
    intro v1 v2 v3 v4 v5 v6 σ hT hE h0  hf
    rw [f_X6_number_L23] at hf
    refine J_aload_n (q := 24) C0 0 rfl rfl dX6_number_23 rfl trivial ?_
    refine J_getI (q := 27) C0 fl_X6_19_1 rfl (h0) rfl dX6_number_24 rfl ?_
    refine J_iload (q := 29) C0 4 rfl dX6_number_27 rfl ?_
    refine J_iadd (q := 30) C0 dX6_number_29 rfl ?_
    refine J_iload (q := 32) C0 6 rfl dX6_number_30 rfl ?_
    refine J_icmp_ge (t := 98) (q := 35) C0 dX6_number_32 (by decide) rfl hf (fun c2 hf => ?_) (fun c2 hf => ?_)
    · refine J_sub (lv' := [(0, vr (some a0)), (1, vi (v1)), (2, vi (v2)), (3, vi (v3)), (4, vi (v4)), (5, vi (v5))]) [0, 1, 2, 3, 4, 5] rfl ?_
      exact t_X6_number_B98_k1 C1    (v1) (v2) (v3) (v4) (v5) σ (hT) (hE) (h0)  hf
    · refine J_aload_n (q := 36) C0 0 rfl rfl dX6_number_35 rfl trivial ?_
      refine J_getR (q := 39) C0 fl_X6_9_1 rfl (h0) rfl dX6_number_36 rfl ?_
      refine J_aload_n (q := 40) C0 0 rfl rfl dX6_number_39 rfl trivial ?_
      refine J_getI (q := 43) C0 fl_X6_19_1 rfl (h0) rfl dX6_number_40 rfl ?_
      refine J_iload (q := 45) C0 4 rfl dX6_number_43 rfl ?_
      refine J_iadd (q := 46) C0 dX6_number_45 rfl ?_
      refine K_some hf (fun b10 hb10 hf => ?_)
      have ab10 : is_A σ b10 12 := ((sg_T.op hT (j := 0) (h0) rfl)) b10 hb10
      refine K_chk hf (fun c11 hf => ?_)
      refine J_iald (q := 47) C0 hb10 (ab10) c11 dX6_number_46 rfl ?_
      refine J_bipush (q := 49) (v := 48) C0 dX6_number_47 rfl rfl ?_
      refine J_icmp_lt (t := 98) (q := 52) C0 dX6_number_49 (by decide) rfl hf (fun c12 hf => ?_) (fun c12 hf => ?_)
      · refine J_sub (lv' := [(0, vr (some a0)), (1, vi (v1)), (2, vi (v2)), (3, vi (v3)), (4, vi (v4)), (5, vi (v5))]) [0, 1, 2, 3, 4, 5] rfl ?_
        exact t_X6_number_B98_k1 C1    (v1) (v2) (v3) (v4) (v5) σ (hT) (hE) (h0)  hf
      · refine J_aload_n (q := 53) C0 0 rfl rfl dX6_number_52 rfl trivial ?_
        refine J_getR (q := 56) C0 fl_X6_9_1 rfl (h0) rfl dX6_number_53 rfl ?_
        refine J_aload_n (q := 57) C0 0 rfl rfl dX6_number_56 rfl trivial ?_
        refine J_getI (q := 60) C0 fl_X6_19_1 rfl (h0) rfl dX6_number_57 rfl ?_
        refine J_iload (q := 62) C0 4 rfl dX6_number_60 rfl ?_
        refine J_iadd (q := 63) C0 dX6_number_62 rfl ?_
        refine K_chk hf (fun c13 hf => ?_)
        refine J_iald (q := 64) C0 hb10 (ab10) c13 dX6_number_63 rfl ?_
        refine J_bipush (q := 66) (v := 57) C0 dX6_number_64 rfl rfl ?_
        refine J_icmp_gt (t := 98) (q := 69) C0 dX6_number_66 (by decide) rfl hf (fun c14 hf => ?_) (fun c14 hf => ?_)
        · refine J_sub (lv' := [(0, vr (some a0)), (1, vi (v1)), (2, vi (v2)), (3, vi (v3)), (4, vi (v4)), (5, vi (v5))]) [0, 1, 2, 3, 4, 5] rfl ?_
          exact t_X6_number_B98_k1 C1    (v1) (v2) (v3) (v4) (v5) σ (hT) (hE) (h0)  hf
        · refine J_iload (q := 71) C0 5 rfl dX6_number_69 rfl ?_
          refine J_bipush (q := 73) (v := 10) C0 dX6_number_71 rfl rfl ?_
          refine J_imul (q := 74) C0 dX6_number_73 rfl ?_
          refine J_aload_n (q := 75) C0 0 rfl rfl dX6_number_74 rfl trivial ?_
          refine J_getR (q := 78) C0 fl_X6_9_1 rfl (h0) rfl dX6_number_75 rfl ?_
          refine J_aload_n (q := 79) C0 0 rfl rfl dX6_number_78 rfl trivial ?_
          refine J_getI (q := 82) C0 fl_X6_19_1 rfl (h0) rfl dX6_number_79 rfl ?_
          refine J_iload (q := 84) C0 4 rfl dX6_number_82 rfl ?_
          refine J_iadd (q := 85) C0 dX6_number_84 rfl ?_
          refine K_chk hf (fun c15 hf => ?_)
          refine J_iald (q := 86) C0 hb10 (ab10) c15 dX6_number_85 rfl ?_
          refine J_iadd (q := 87) C0 dX6_number_86 rfl ?_
          refine J_bipush (q := 89) (v := 48) C0 dX6_number_87 rfl rfl ?_
          refine J_isub (q := 90) C0 dX6_number_89 rfl ?_
          refine J_istore (q := 92) (lv' := [(5, vi ((((v5) * (10)) + (sg_I σ b10 ((sg_I σ a0 2) + (v4)).toNatClampNeg)) - (48))), (0, vr (some a0)), (1, vi (v1)), (2, vi (v2)), (3, vi (v3)), (4, vi (v4)), (6, vi (v6))]) C0 (G_nl C1 (by decide)) dX6_number_90 rfl rfl ?_
          refine J_iinc (q := 95) (v := v4 + 1) (lv' := [(4, vi (v4 + 1)), (5, vi ((((v5) * (10)) + (sg_I σ b10 ((sg_I σ a0 2) + (v4)).toNatClampNeg)) - (48))), (0, vr (some a0)), (1, vi (v1)), (2, vi (v2)), (3, vi (v3)), (6, vi (v6))]) C0 5 rfl rfl (G_nl C1 (by decide)) dX6_number_92 rfl rfl ?_
          refine J_goto (q := 23) C0 dX6_number_95 (by decide) ?_
          refine J_sub (lv' := [(0, vr (some a0)), (1, vi (v1)), (2, vi (v2)), (3, vi (v3)), (4, vi (v4 + 1)), (5, vi ((((v5) * (10)) + (sg_I σ b10 ((sg_I σ a0 2) + (v4)).toNatClampNeg)) - (48))), (6, vi (v6))]) [2, 3, 4, 5, 0, 1, 6] rfl ?_
          exact ih (v1) (v2) (v3) (v4 + 1) ((((v5) * (10)) + (sg_I σ b10 ((sg_I σ a0 2) + (v4)).toNatClampNeg)) - (48)) (v6) σ (hT) (hE) (h0)  hf
set_option maxHeartbeats 4000000 in
set_option maxRecDepth 100000 in
theorem t_X6_number_k1 (N : Nat) (a0 : Nat) (x1 : Int32) (x2 : Int32) (x3 : Int32) {σ : Sg} (hT : sg_T σ) (h0 : is_A σ a0 1) {r : (Int32 × Sg)} (hf : f_X6_number N a0 x1 x2 x3 σ = some r) : Ct yX6_number cX6_number 8 (some .int) 1 21 0 0 [vr (some a0), vi x1, vi x2, vi x3] σ (fun r_ τ_ => (r_ = some (vi r.1)) ∧ τ_ = r.2 ∧ sg_T τ_ ∧ sg_E σ τ_) := by
  refine Ct.of (by decide +kernel) (Nat.le_of_ble_eq_true rfl) (fun Γ C1 => ?_)
  have C0 := C1.1
  have hE : sg_E σ σ := sg_E.rf
  unfold f_X6_number at hf
  show J_ Γ 0 [(0, vr (some a0)), (1, vi (x1)), (2, vi (x2)), (3, vi (x3))] [] σ 0 0
  refine J_iconst (q := 1) (v := 0) C0 dX6_number_0 rfl rfl ?_
  refine J_istore (q := 3) (lv' := [(4, vi (0)), (0, vr (some a0)), (1, vi (x1)), (2, vi (x2)), (3, vi (x3))]) C0 (G_nl C1 (by decide)) dX6_number_1 rfl rfl ?_
  refine J_iconst (q := 4) (v := 0) C0 dX6_number_3 rfl rfl ?_
  refine J_istore (q := 6) (lv' := [(5, vi (0)), (4, vi (0)), (0, vr (some a0)), (1, vi (x1)), (2, vi (x2)), (3, vi (x3))]) C0 (G_nl C1 (by decide)) dX6_number_4 rfl rfl ?_
  refine J_aload_n (q := 7) C0 2 rfl rfl dX6_number_6 rfl trivial ?_
  refine J_getI (q := 10) C0 fl_X6_15_1 rfl (h0) rfl dX6_number_7 rfl ?_
  refine J_aload_n (q := 11) C0 2 rfl rfl dX6_number_10 rfl trivial ?_
  refine J_getI (q := 14) C0 fl_X6_19_1 rfl (h0) rfl dX6_number_11 rfl ?_
  refine J_iload_n (q := 15) C0 3 rfl rfl dX6_number_14 rfl ?_
  refine J_iadd (q := 16) C0 dX6_number_15 rfl ?_
  refine J_iconst (q := 17) (v := 1) C0 dX6_number_16 rfl rfl ?_
  refine J_iadd (q := 18) C0 dX6_number_17 rfl ?_
  refine K_some hf (fun p1 hp1 hf => ?_)
  refine J_callS (q := 21) (as := [vi (sg_I σ a0 1), vi (((sg_I σ a0 2) + (x1)) + (1))]) (rest := []) C0 (t_J9_min_7cf53 (sg_I σ a0 1) (((sg_I σ a0 2) + (x1)) + (1))  hp1) ml_J9_min_7cf53 lk_X6_22 sm_J9_min_7cf53 dX6_number_18 rfl rfl rfl (by simp [ac_]) C1.room (by decide) (by decide) (by decide) (by decide) (fun r_ τ_ hQ => ?_)
  obtain ⟨rfl, ht_⟩ := hQ; have ht_ := ht_.symm; subst ht_
  show J_ Γ 21 [(5, vi (0)), (4, vi (0)), (0, vr (some a0)), (1, vi (x1)), (2, vi (x2)), (3, vi (x3))] [vi (p1)] σ 0 0
  refine J_istore (q := 23) (lv' := [(6, vi (p1)), (5, vi (0)), (4, vi (0)), (0, vr (some a0)), (1, vi (x1)), (2, vi (x2)), (3, vi (x3))]) C0 (G_nl C1 (by decide)) dX6_number_21 rfl rfl ?_
  refine J_sub (lv' := [(0, vr (some a0)), (1, vi (x1)), (2, vi (x2)), (3, vi (x3)), (4, vi (0)), (5, vi (0)), (6, vi (p1))]) [3, 4, 5, 6, 2, 1, 0] rfl ?_
  exact t_X6_number_L23_k1 C1    N (x1) (x2) (x3) (0) (0) (p1) σ (hT) (hE) (h0)  hf
set_option maxHeartbeats 4000000 in
set_option maxRecDepth 100000 in
theorem t_X6_number_B161_k3 {N : Nat} {a0 : Nat} {Γ : Gm} {σ0 : Sg} {r : (Int32 × Sg)} (C1 : CM Γ cX6_number RX6 8 (some .int) 1 21 0 0 (fun r_ τ_ => (r_ = some (vi r.1)) ∧ τ_ = r.2 ∧ sg_T τ_ ∧ sg_E σ0 τ_)) (v5 : Int32) (v7 : Int32) (s0 : Int32) (s1 : Int32) (s2 : Option Nat) (σ : Sg) (hT : sg_T σ) (hE : sg_E σ0 σ) (h0 : is_A σ a0 3) (g_s2 : is_O σ s2 3) (hf : f_X6_number_B161 N a0  v5 v7 s0 s1 s2 σ = some r) : J_ Γ 161 [(0, vr (some a0)), (5, vi (v5)), (7, vi (v7))] [vi (s0), vi (s1), vr (s2)] σ 0 0 := by
  have C0 := C1.1
  unfold f_X6_number_B161 at hf
  refine J_iadd (q := 162) C0 dX6_number_161 rfl ?_
  refine K_some hf (fun b7 hb7 hf => ?_)
  have ab7 : is_A σ b7 3 := (g_s2) b7 hb7
  refine J_putI (q := 165) C0 fl_X6_19_3 hb7 (ab7) rfl dX6_number_162 rfl ?_
  refine J_iload (q := 167) C0 2 rfl dX6_number_165 rfl ?_
  refine J_if_eq (t := 175) (q := 170) C0 dX6_number_167 (by decide) rfl hf (fun c8 hf => ?_) (fun c8 hf => ?_)
  · refine J_iconst (q := 176) (v := (-1)) C0 dX6_number_175 rfl rfl ?_
    obtain rfl := Option.some.inj hf; exact J_iret C1 dX6_number_176 rfl (Nat.zero_le _) (Nat.zero_le _) ⟨rfl, rfl, (hT).putI, (hE).putI⟩
  · refine J_iload (q := 172) C0 1 rfl dX6_number_170 rfl ?_
    refine J_goto (q := 176) C0 dX6_number_172 (by decide) ?_
    obtain rfl := Option.some.inj hf; exact J_iret C1 dX6_number_176 rfl (Nat.zero_le _) (Nat.zero_le _) ⟨rfl, rfl, (hT).putI, (hE).putI⟩
set_option maxHeartbeats 4000000 in
set_option maxRecDepth 100000 in
theorem t_X6_number_B140_k3 {N : Nat} {a0 : Nat} {Γ : Gm} {σ0 : Sg} {r : (Int32 × Sg)} (C1 : CM Γ cX6_number RX6 8 (some .int) 1 21 0 0 (fun r_ τ_ => (r_ = some (vi r.1)) ∧ τ_ = r.2 ∧ sg_T τ_ ∧ sg_E σ0 τ_)) (v4 : Int32) (v5 : Int32) (s0 : Int32) (σ : Sg) (hT : sg_T σ) (hE : sg_E σ0 σ) (h0 : is_A σ a0 3) (hf : f_X6_number_B140 N a0  v4 v5 s0 σ = some r) : J_ Γ 140 [(0, vr (some a0)), (4, vi (v4)), (5, vi (v5))] [vi (s0)] σ 0 0 := by
  have C0 := C1.1
  unfold f_X6_number_B140 at hf
  refine J_istore (q := 142) (lv' := [(7, vi (s0)), (0, vr (some a0)), (4, vi (v4)), (5, vi (v5))]) C0 (G_nl C1 (by decide)) dX6_number_140 rfl rfl ?_
  refine J_aload_n (q := 143) C0 1 rfl rfl dX6_number_142 rfl trivial ?_
  refine J_dup (q := 144) C0 dX6_number_143 rfl rfl ?_
  refine J_getI (q := 147) C0 fl_X6_19_3 rfl (h0) rfl dX6_number_144 rfl ?_
  refine J_iload (q := 149) C0 0 rfl dX6_number_147 rfl ?_
  refine J_if_eq (t := 157) (q := 152) C0 dX6_number_149 (by decide) rfl hf (fun c6 hf => ?_) (fun c6 hf => ?_)
  · refine J_iload (q := 159) C0 2 rfl dX6_number_157 rfl ?_
    refine J_iconst (q := 160) (v := 1) C0 dX6_number_159 rfl rfl ?_
    refine J_isub (q := 161) C0 dX6_number_160 rfl ?_
    refine J_sub (lv' := [(0, vr (some a0)), (5, vi (v5)), (7, vi (s0))]) [1, 3, 0] rfl ?_
    exact t_X6_number_B161_k3 C1    (v5) (s0) ((v4) - (1)) (sg_I σ a0 2) (some a0) σ (hT) (hE) (h0) (is_O.some (h0)) hf
  · refine J_iload (q := 154) C0 2 rfl dX6_number_152 rfl ?_
    refine J_goto (q := 161) C0 dX6_number_154 (by decide) ?_
    refine J_sub (lv' := [(0, vr (some a0)), (5, vi (v5)), (7, vi (s0))]) [1, 3, 0] rfl ?_
    exact t_X6_number_B161_k3 C1    (v5) (s0) (v4) (sg_I σ a0 2) (some a0) σ (hT) (hE) (h0) (is_O.some (h0)) hf
set_option maxHeartbeats 4000000 in
set_option maxRecDepth 100000 in
theorem t_X6_number_B139_k3 {N : Nat} {a0 : Nat} {Γ : Gm} {σ0 : Sg} {r : (Int32 × Sg)} (C1 : CM Γ cX6_number RX6 8 (some .int) 1 21 0 0 (fun r_ τ_ => (r_ = some (vi r.1)) ∧ τ_ = r.2 ∧ sg_T τ_ ∧ sg_E σ0 τ_)) (v4 : Int32) (v5 : Int32) (σ : Sg) (hT : sg_T σ) (hE : sg_E σ0 σ) (h0 : is_A σ a0 3) (hf : f_X6_number_B139 N a0  v4 v5 σ = some r) : J_ Γ 139 [(0, vr (some a0)), (4, vi (v4)), (5, vi (v5))] [] σ 0 0 := by
  have C0 := C1.1
  unfold f_X6_number_B139 at hf
  refine J_iconst (q := 140) (v := 0) C0 dX6_number_139 rfl rfl ?_
  exact t_X6_number_B140_k3 C1    (v4) (v5) (0) σ (hT) (hE) (h0)  hf
set_option maxHeartbeats 4000000 in
set_option maxRecDepth 100000 in
theorem t_X6_number_B98_k3 {N : Nat} {a0 : Nat} {Γ : Gm} {σ0 : Sg} {r : (Int32 × Sg)} (C1 : CM Γ cX6_number RX6 8 (some .int) 1 21 0 0 (fun r_ τ_ => (r_ = some (vi r.1)) ∧ τ_ = r.2 ∧ sg_T τ_ ∧ sg_E σ0 τ_)) (v1 : Int32) (v2 : Int32) (v3 : Int32) (v4 : Int32) (v5 : Int32) (σ : Sg) (hT : sg_T σ) (hE : sg_E σ0 σ) (h0 : is_A σ a0 3) (hf : f_X6_number_B98 N a0  v1 v2 v3 v4 v5 σ = some r) : J_ Γ 98 [(0, vr (some a0)), (1, vi (v1)), (2, vi (v2)), (3, vi (v3)), (4, vi (v4)), (5, vi (v5))] [] σ 0 0 := by
  have C0 := C1.1
  unfold f_X6_number_B98 at hf
  refine J_iload (q := 100) C0 4 rfl dX6_number_98 rfl ?_
  refine J_if_ne (t := 105) (q := 103) C0 dX6_number_100 (by decide) rfl hf (fun c3 hf => ?_) (fun c3 hf => ?_)
  · refine J_iload (q := 107) C0 4 rfl dX6_number_105 rfl ?_
    refine J_iload_n (q := 108) C0 1 rfl rfl dX6_number_107 rfl ?_
    refine J_icmp_le (t := 123) (q := 111) C0 dX6_number_108 (by decide) rfl hf (fun c4 hf => ?_) (fun c4 hf => ?_)
    · refine J_iload (q := 125) C0 5 rfl dX6_number_123 rfl ?_
      refine J_iload_n (q := 126) C0 2 rfl rfl dX6_number_125 rfl ?_
      refine J_icmp_lt (t := 139) (q := 129) C0 dX6_number_126 (by decide) rfl hf (fun c5 hf => ?_) (fun c5 hf => ?_)
      · refine J_sub (lv' := [(0, vr (some a0)), (4, vi (v4)), (5, vi (v5))]) [0, 4, 5] rfl ?_
        exact t_X6_number_B139_k3 C1    (v4) (v5) σ (hT) (hE) (h0)  hf
      · refine J_iload (q := 131) C0 5 rfl dX6_number_129 rfl ?_
        refine J_iload_n (q := 132) C0 3 rfl rfl dX6_number_131 rfl ?_
        refine J_icmp_gt (t := 139) (q := 135) C0 dX6_number_132 (by decide) rfl hf (fun c9 hf => ?_) (fun c9 hf => ?_)
        · refine J_sub (lv' := [(0, vr (some a0)), (4, vi (v4)), (5, vi (v5))]) [0, 4, 5] rfl ?_
          exact t_X6_number_B139_k3 C1    (v4) (v5) σ (hT) (hE) (h0)  hf
        · refine J_iconst (q := 136) (v := 1) C0 dX6_number_135 rfl rfl ?_
          refine J_goto (q := 140) C0 dX6_number_136 (by decide) ?_
          refine J_sub (lv' := [(0, vr (some a0)), (4, vi (v4)), (5, vi (v5))]) [0, 4, 5] rfl ?_
          exact t_X6_number_B140_k3 C1    (v4) (v5) (1) σ (hT) (hE) (h0)  hf
    · refine J_aload_n (q := 112) C0 0 rfl rfl dX6_number_111 rfl trivial ?_
      refine J_dup (q := 113) C0 dX6_number_112 rfl rfl ?_
      refine J_getI (q := 116) C0 fl_X6_19_3 rfl (h0) rfl dX6_number_113 rfl ?_
      refine J_iload_n (q := 117) C0 1 rfl rfl dX6_number_116 rfl ?_
      refine J_iadd (q := 118) C0 dX6_number_117 rfl ?_
      refine J_putI (q := 121) C0 fl_X6_19_3 rfl (h0) rfl dX6_number_118 rfl ?_
      refine J_iconst (q := 122) (v := (-1)) C0 dX6_number_121 rfl rfl ?_
      obtain rfl := Option.some.inj hf; exact J_iret C1 dX6_number_122 rfl (Nat.zero_le _) (Nat.zero_le _) ⟨rfl, rfl, (hT).putI, (hE).putI⟩
  · refine J_iconst (q := 104) (v := (-1)) C0 dX6_number_103 rfl rfl ?_
    obtain rfl := Option.some.inj hf; exact J_iret C1 dX6_number_104 rfl (Nat.zero_le _) (Nat.zero_le _) ⟨rfl, rfl, hT, hE⟩
set_option maxHeartbeats 4000000 in
set_option maxRecDepth 100000 in
theorem t_X6_number_L23_k3 {N : Nat} {a0 : Nat} {Γ : Gm} {σ0 : Sg} {r : (Int32 × Sg)} (C1 : CM Γ cX6_number RX6 8 (some .int) 1 21 0 0 (fun r_ τ_ => (r_ = some (vi r.1)) ∧ τ_ = r.2 ∧ sg_T τ_ ∧ sg_E σ0 τ_)) : ∀ (n : Nat) (v1 : Int32) (v2 : Int32) (v3 : Int32) (v4 : Int32) (v5 : Int32) (v6 : Int32) (σ : Sg), sg_T σ → sg_E σ0 σ → is_A σ a0 3 → f_X6_number_L23 N a0  n v1 v2 v3 v4 v5 v6 σ = some r → J_ Γ 23 [(0, vr (some a0)), (1, vi (v1)), (2, vi (v2)), (3, vi (v3)), (4, vi (v4)), (5, vi (v5)), (6, vi (v6))] [] σ 0 0 := by
  have C0 := C1.1
  intro n
  induction n with
  | zero => intro v1 v2 v3 v4 v5 v6 σ hT hE h0  hf; unfold f_X6_number_L23 at hf; cases hf
  | succ n ih =>
    intro v1 v2 v3 v4 v5 v6 σ hT hE h0  hf
    rw [f_X6_number_L23] at hf
    refine J_aload_n (q := 24) C0 0 rfl rfl dX6_number_23 rfl trivial ?_
    refine J_getI (q := 27) C0 fl_X6_19_3 rfl (h0) rfl dX6_number_24 rfl ?_
    refine J_iload (q := 29) C0 4 rfl dX6_number_27 rfl ?_
    refine J_iadd (q := 30) C0 dX6_number_29 rfl ?_
    refine J_iload (q := 32) C0 6 rfl dX6_number_30 rfl ?_
    refine J_icmp_ge (t := 98) (q := 35) C0 dX6_number_32 (by decide) rfl hf (fun c2 hf => ?_) (fun c2 hf => ?_)
    · refine J_sub (lv' := [(0, vr (some a0)), (1, vi (v1)), (2, vi (v2)), (3, vi (v3)), (4, vi (v4)), (5, vi (v5))]) [0, 1, 2, 3, 4, 5] rfl ?_
      exact t_X6_number_B98_k3 C1    (v1) (v2) (v3) (v4) (v5) σ (hT) (hE) (h0)  hf
    · refine J_aload_n (q := 36) C0 0 rfl rfl dX6_number_35 rfl trivial ?_
      refine J_getR (q := 39) C0 fl_X6_9_3 rfl (h0) rfl dX6_number_36 rfl ?_
      refine J_aload_n (q := 40) C0 0 rfl rfl dX6_number_39 rfl trivial ?_
      refine J_getI (q := 43) C0 fl_X6_19_3 rfl (h0) rfl dX6_number_40 rfl ?_
      refine J_iload (q := 45) C0 4 rfl dX6_number_43 rfl ?_
      refine J_iadd (q := 46) C0 dX6_number_45 rfl ?_
      refine K_some hf (fun b10 hb10 hf => ?_)
      have ab10 : is_A σ b10 12 := ((sg_T.op hT (j := 0) (h0) rfl)) b10 hb10
      refine K_chk hf (fun c11 hf => ?_)
      refine J_iald (q := 47) C0 hb10 (ab10) c11 dX6_number_46 rfl ?_
      refine J_bipush (q := 49) (v := 48) C0 dX6_number_47 rfl rfl ?_
      refine J_icmp_lt (t := 98) (q := 52) C0 dX6_number_49 (by decide) rfl hf (fun c12 hf => ?_) (fun c12 hf => ?_)
      · refine J_sub (lv' := [(0, vr (some a0)), (1, vi (v1)), (2, vi (v2)), (3, vi (v3)), (4, vi (v4)), (5, vi (v5))]) [0, 1, 2, 3, 4, 5] rfl ?_
        exact t_X6_number_B98_k3 C1    (v1) (v2) (v3) (v4) (v5) σ (hT) (hE) (h0)  hf
      · refine J_aload_n (q := 53) C0 0 rfl rfl dX6_number_52 rfl trivial ?_
        refine J_getR (q := 56) C0 fl_X6_9_3 rfl (h0) rfl dX6_number_53 rfl ?_
        refine J_aload_n (q := 57) C0 0 rfl rfl dX6_number_56 rfl trivial ?_
        refine J_getI (q := 60) C0 fl_X6_19_3 rfl (h0) rfl dX6_number_57 rfl ?_
        refine J_iload (q := 62) C0 4 rfl dX6_number_60 rfl ?_
        refine J_iadd (q := 63) C0 dX6_number_62 rfl ?_
        refine K_chk hf (fun c13 hf => ?_)
        refine J_iald (q := 64) C0 hb10 (ab10) c13 dX6_number_63 rfl ?_
        refine J_bipush (q := 66) (v := 57) C0 dX6_number_64 rfl rfl ?_
        refine J_icmp_gt (t := 98) (q := 69) C0 dX6_number_66 (by decide) rfl hf (fun c14 hf => ?_) (fun c14 hf => ?_)
        · refine J_sub (lv' := [(0, vr (some a0)), (1, vi (v1)), (2, vi (v2)), (3, vi (v3)), (4, vi (v4)), (5, vi (v5))]) [0, 1, 2, 3, 4, 5] rfl ?_
          exact t_X6_number_B98_k3 C1    (v1) (v2) (v3) (v4) (v5) σ (hT) (hE) (h0)  hf
        · refine J_iload (q := 71) C0 5 rfl dX6_number_69 rfl ?_
          refine J_bipush (q := 73) (v := 10) C0 dX6_number_71 rfl rfl ?_
          refine J_imul (q := 74) C0 dX6_number_73 rfl ?_
          refine J_aload_n (q := 75) C0 0 rfl rfl dX6_number_74 rfl trivial ?_
          refine J_getR (q := 78) C0 fl_X6_9_3 rfl (h0) rfl dX6_number_75 rfl ?_
          refine J_aload_n (q := 79) C0 0 rfl rfl dX6_number_78 rfl trivial ?_
          refine J_getI (q := 82) C0 fl_X6_19_3 rfl (h0) rfl dX6_number_79 rfl ?_
          refine J_iload (q := 84) C0 4 rfl dX6_number_82 rfl ?_
          refine J_iadd (q := 85) C0 dX6_number_84 rfl ?_
          refine K_chk hf (fun c15 hf => ?_)
          refine J_iald (q := 86) C0 hb10 (ab10) c15 dX6_number_85 rfl ?_
          refine J_iadd (q := 87) C0 dX6_number_86 rfl ?_
          refine J_bipush (q := 89) (v := 48) C0 dX6_number_87 rfl rfl ?_
          refine J_isub (q := 90) C0 dX6_number_89 rfl ?_
          refine J_istore (q := 92) (lv' := [(5, vi ((((v5) * (10)) + (sg_I σ b10 ((sg_I σ a0 2) + (v4)).toNatClampNeg)) - (48))), (0, vr (some a0)), (1, vi (v1)), (2, vi (v2)), (3, vi (v3)), (4, vi (v4)), (6, vi (v6))]) C0 (G_nl C1 (by decide)) dX6_number_90 rfl rfl ?_
          refine J_iinc (q := 95) (v := v4 + 1) (lv' := [(4, vi (v4 + 1)), (5, vi ((((v5) * (10)) + (sg_I σ b10 ((sg_I σ a0 2) + (v4)).toNatClampNeg)) - (48))), (0, vr (some a0)), (1, vi (v1)), (2, vi (v2)), (3, vi (v3)), (6, vi (v6))]) C0 5 rfl rfl (G_nl C1 (by decide)) dX6_number_92 rfl rfl ?_
          refine J_goto (q := 23) C0 dX6_number_95 (by decide) ?_
          refine J_sub (lv' := [(0, vr (some a0)), (1, vi (v1)), (2, vi (v2)), (3, vi (v3)), (4, vi (v4 + 1)), (5, vi ((((v5) * (10)) + (sg_I σ b10 ((sg_I σ a0 2) + (v4)).toNatClampNeg)) - (48))), (6, vi (v6))]) [2, 3, 4, 5, 0, 1, 6] rfl ?_
          exact ih (v1) (v2) (v3) (v4 + 1) ((((v5) * (10)) + (sg_I σ b10 ((sg_I σ a0 2) + (v4)).toNatClampNeg)) - (48)) (v6) σ (hT) (hE) (h0)  hf
set_option maxHeartbeats 4000000 in
set_option maxRecDepth 100000 in
theorem t_X6_number_k3 (N : Nat) (a0 : Nat) (x1 : Int32) (x2 : Int32) (x3 : Int32) {σ : Sg} (hT : sg_T σ) (h0 : is_A σ a0 3) {r : (Int32 × Sg)} (hf : f_X6_number N a0 x1 x2 x3 σ = some r) : Ct yX6_number cX6_number 8 (some .int) 1 21 0 0 [vr (some a0), vi x1, vi x2, vi x3] σ (fun r_ τ_ => (r_ = some (vi r.1)) ∧ τ_ = r.2 ∧ sg_T τ_ ∧ sg_E σ τ_) := by
  refine Ct.of (by decide +kernel) (Nat.le_of_ble_eq_true rfl) (fun Γ C1 => ?_)
  have C0 := C1.1
  have hE : sg_E σ σ := sg_E.rf
  unfold f_X6_number at hf
  show J_ Γ 0 [(0, vr (some a0)), (1, vi (x1)), (2, vi (x2)), (3, vi (x3))] [] σ 0 0
  refine J_iconst (q := 1) (v := 0) C0 dX6_number_0 rfl rfl ?_
  refine J_istore (q := 3) (lv' := [(4, vi (0)), (0, vr (some a0)), (1, vi (x1)), (2, vi (x2)), (3, vi (x3))]) C0 (G_nl C1 (by decide)) dX6_number_1 rfl rfl ?_
  refine J_iconst (q := 4) (v := 0) C0 dX6_number_3 rfl rfl ?_
  refine J_istore (q := 6) (lv' := [(5, vi (0)), (4, vi (0)), (0, vr (some a0)), (1, vi (x1)), (2, vi (x2)), (3, vi (x3))]) C0 (G_nl C1 (by decide)) dX6_number_4 rfl rfl ?_
  refine J_aload_n (q := 7) C0 2 rfl rfl dX6_number_6 rfl trivial ?_
  refine J_getI (q := 10) C0 fl_X6_15_3 rfl (h0) rfl dX6_number_7 rfl ?_
  refine J_aload_n (q := 11) C0 2 rfl rfl dX6_number_10 rfl trivial ?_
  refine J_getI (q := 14) C0 fl_X6_19_3 rfl (h0) rfl dX6_number_11 rfl ?_
  refine J_iload_n (q := 15) C0 3 rfl rfl dX6_number_14 rfl ?_
  refine J_iadd (q := 16) C0 dX6_number_15 rfl ?_
  refine J_iconst (q := 17) (v := 1) C0 dX6_number_16 rfl rfl ?_
  refine J_iadd (q := 18) C0 dX6_number_17 rfl ?_
  refine K_some hf (fun p1 hp1 hf => ?_)
  refine J_callS (q := 21) (as := [vi (sg_I σ a0 1), vi (((sg_I σ a0 2) + (x1)) + (1))]) (rest := []) C0 (t_J9_min_7cf53 (sg_I σ a0 1) (((sg_I σ a0 2) + (x1)) + (1))  hp1) ml_J9_min_7cf53 lk_X6_22 sm_J9_min_7cf53 dX6_number_18 rfl rfl rfl (by simp [ac_]) C1.room (by decide) (by decide) (by decide) (by decide) (fun r_ τ_ hQ => ?_)
  obtain ⟨rfl, ht_⟩ := hQ; have ht_ := ht_.symm; subst ht_
  show J_ Γ 21 [(5, vi (0)), (4, vi (0)), (0, vr (some a0)), (1, vi (x1)), (2, vi (x2)), (3, vi (x3))] [vi (p1)] σ 0 0
  refine J_istore (q := 23) (lv' := [(6, vi (p1)), (5, vi (0)), (4, vi (0)), (0, vr (some a0)), (1, vi (x1)), (2, vi (x2)), (3, vi (x3))]) C0 (G_nl C1 (by decide)) dX6_number_21 rfl rfl ?_
  refine J_sub (lv' := [(0, vr (some a0)), (1, vi (x1)), (2, vi (x2)), (3, vi (x3)), (4, vi (0)), (5, vi (0)), (6, vi (p1))]) [3, 4, 5, 6, 2, 1, 0] rfl ?_
  exact t_X6_number_L23_k3 C1    N (x1) (x2) (x3) (0) (0) (p1) σ (hT) (hE) (h0)  hf
set_option maxHeartbeats 4000000 in
set_option maxRecDepth 100000 in
theorem t_X6_number_B161_k8 {N : Nat} {a0 : Nat} {Γ : Gm} {σ0 : Sg} {r : (Int32 × Sg)} (C1 : CM Γ cX6_number RX6 8 (some .int) 1 21 0 0 (fun r_ τ_ => (r_ = some (vi r.1)) ∧ τ_ = r.2 ∧ sg_T τ_ ∧ sg_E σ0 τ_)) (v5 : Int32) (v7 : Int32) (s0 : Int32) (s1 : Int32) (s2 : Option Nat) (σ : Sg) (hT : sg_T σ) (hE : sg_E σ0 σ) (h0 : is_A σ a0 8) (g_s2 : is_O σ s2 8) (hf : f_X6_number_B161 N a0  v5 v7 s0 s1 s2 σ = some r) : J_ Γ 161 [(0, vr (some a0)), (5, vi (v5)), (7, vi (v7))] [vi (s0), vi (s1), vr (s2)] σ 0 0 := by
  have C0 := C1.1
  unfold f_X6_number_B161 at hf
  refine J_iadd (q := 162) C0 dX6_number_161 rfl ?_
  refine K_some hf (fun b7 hb7 hf => ?_)
  have ab7 : is_A σ b7 8 := (g_s2) b7 hb7
  refine J_putI (q := 165) C0 fl_X6_19_8 hb7 (ab7) rfl dX6_number_162 rfl ?_
  refine J_iload (q := 167) C0 2 rfl dX6_number_165 rfl ?_
  refine J_if_eq (t := 175) (q := 170) C0 dX6_number_167 (by decide) rfl hf (fun c8 hf => ?_) (fun c8 hf => ?_)
  · refine J_iconst (q := 176) (v := (-1)) C0 dX6_number_175 rfl rfl ?_
    obtain rfl := Option.some.inj hf; exact J_iret C1 dX6_number_176 rfl (Nat.zero_le _) (Nat.zero_le _) ⟨rfl, rfl, (hT).putI, (hE).putI⟩
  · refine J_iload (q := 172) C0 1 rfl dX6_number_170 rfl ?_
    refine J_goto (q := 176) C0 dX6_number_172 (by decide) ?_
    obtain rfl := Option.some.inj hf; exact J_iret C1 dX6_number_176 rfl (Nat.zero_le _) (Nat.zero_le _) ⟨rfl, rfl, (hT).putI, (hE).putI⟩
set_option maxHeartbeats 4000000 in
set_option maxRecDepth 100000 in
theorem t_X6_number_B140_k8 {N : Nat} {a0 : Nat} {Γ : Gm} {σ0 : Sg} {r : (Int32 × Sg)} (C1 : CM Γ cX6_number RX6 8 (some .int) 1 21 0 0 (fun r_ τ_ => (r_ = some (vi r.1)) ∧ τ_ = r.2 ∧ sg_T τ_ ∧ sg_E σ0 τ_)) (v4 : Int32) (v5 : Int32) (s0 : Int32) (σ : Sg) (hT : sg_T σ) (hE : sg_E σ0 σ) (h0 : is_A σ a0 8) (hf : f_X6_number_B140 N a0  v4 v5 s0 σ = some r) : J_ Γ 140 [(0, vr (some a0)), (4, vi (v4)), (5, vi (v5))] [vi (s0)] σ 0 0 := by
  have C0 := C1.1
  unfold f_X6_number_B140 at hf
  refine J_istore (q := 142) (lv' := [(7, vi (s0)), (0, vr (some a0)), (4, vi (v4)), (5, vi (v5))]) C0 (G_nl C1 (by decide)) dX6_number_140 rfl rfl ?_
  refine J_aload_n (q := 143) C0 1 rfl rfl dX6_number_142 rfl trivial ?_
  refine J_dup (q := 144) C0 dX6_number_143 rfl rfl ?_
  refine J_getI (q := 147) C0 fl_X6_19_8 rfl (h0) rfl dX6_number_144 rfl ?_
  refine J_iload (q := 149) C0 0 rfl dX6_number_147 rfl ?_
  refine J_if_eq (t := 157) (q := 152) C0 dX6_number_149 (by decide) rfl hf (fun c6 hf => ?_) (fun c6 hf => ?_)
  · refine J_iload (q := 159) C0 2 rfl dX6_number_157 rfl ?_
    refine J_iconst (q := 160) (v := 1) C0 dX6_number_159 rfl rfl ?_
    refine J_isub (q := 161) C0 dX6_number_160 rfl ?_
    refine J_sub (lv' := [(0, vr (some a0)), (5, vi (v5)), (7, vi (s0))]) [1, 3, 0] rfl ?_
    exact t_X6_number_B161_k8 C1    (v5) (s0) ((v4) - (1)) (sg_I σ a0 2) (some a0) σ (hT) (hE) (h0) (is_O.some (h0)) hf
  · refine J_iload (q := 154) C0 2 rfl dX6_number_152 rfl ?_
    refine J_goto (q := 161) C0 dX6_number_154 (by decide) ?_
    refine J_sub (lv' := [(0, vr (some a0)), (5, vi (v5)), (7, vi (s0))]) [1, 3, 0] rfl ?_
    exact t_X6_number_B161_k8 C1    (v5) (s0) (v4) (sg_I σ a0 2) (some a0) σ (hT) (hE) (h0) (is_O.some (h0)) hf
set_option maxHeartbeats 4000000 in
set_option maxRecDepth 100000 in
theorem t_X6_number_B139_k8 {N : Nat} {a0 : Nat} {Γ : Gm} {σ0 : Sg} {r : (Int32 × Sg)} (C1 : CM Γ cX6_number RX6 8 (some .int) 1 21 0 0 (fun r_ τ_ => (r_ = some (vi r.1)) ∧ τ_ = r.2 ∧ sg_T τ_ ∧ sg_E σ0 τ_)) (v4 : Int32) (v5 : Int32) (σ : Sg) (hT : sg_T σ) (hE : sg_E σ0 σ) (h0 : is_A σ a0 8) (hf : f_X6_number_B139 N a0  v4 v5 σ = some r) : J_ Γ 139 [(0, vr (some a0)), (4, vi (v4)), (5, vi (v5))] [] σ 0 0 := by
  have C0 := C1.1
  unfold f_X6_number_B139 at hf
  refine J_iconst (q := 140) (v := 0) C0 dX6_number_139 rfl rfl ?_
  exact t_X6_number_B140_k8 C1    (v4) (v5) (0) σ (hT) (hE) (h0)  hf
set_option maxHeartbeats 4000000 in
set_option maxRecDepth 100000 in
theorem t_X6_number_B98_k8 {N : Nat} {a0 : Nat} {Γ : Gm} {σ0 : Sg} {r : (Int32 × Sg)} (C1 : CM Γ cX6_number RX6 8 (some .int) 1 21 0 0 (fun r_ τ_ => (r_ = some (vi r.1)) ∧ τ_ = r.2 ∧ sg_T τ_ ∧ sg_E σ0 τ_)) (v1 : Int32) (v2 : Int32) (v3 : Int32) (v4 : Int32) (v5 : Int32) (σ : Sg) (hT : sg_T σ) (hE : sg_E σ0 σ) (h0 : is_A σ a0 8) (hf : f_X6_number_B98 N a0  v1 v2 v3 v4 v5 σ = some r) : J_ Γ 98 [(0, vr (some a0)), (1, vi (v1)), (2, vi (v2)), (3, vi (v3)), (4, vi (v4)), (5, vi (v5))] [] σ 0 0 := by
  have C0 := C1.1
  unfold f_X6_number_B98 at hf
  refine J_iload (q := 100) C0 4 rfl dX6_number_98 rfl ?_
  refine J_if_ne (t := 105) (q := 103) C0 dX6_number_100 (by decide) rfl hf (fun c3 hf => ?_) (fun c3 hf => ?_)
  · refine J_iload (q := 107) C0 4 rfl dX6_number_105 rfl ?_
    refine J_iload_n (q := 108) C0 1 rfl rfl dX6_number_107 rfl ?_
    refine J_icmp_le (t := 123) (q := 111) C0 dX6_number_108 (by decide) rfl hf (fun c4 hf => ?_) (fun c4 hf => ?_)
    · refine J_iload (q := 125) C0 5 rfl dX6_number_123 rfl ?_
      refine J_iload_n (q := 126) C0 2 rfl rfl dX6_number_125 rfl ?_
      refine J_icmp_lt (t := 139) (q := 129) C0 dX6_number_126 (by decide) rfl hf (fun c5 hf => ?_) (fun c5 hf => ?_)
      · refine J_sub (lv' := [(0, vr (some a0)), (4, vi (v4)), (5, vi (v5))]) [0, 4, 5] rfl ?_
        exact t_X6_number_B139_k8 C1    (v4) (v5) σ (hT) (hE) (h0)  hf
      · refine J_iload (q := 131) C0 5 rfl dX6_number_129 rfl ?_
        refine J_iload_n (q := 132) C0 3 rfl rfl dX6_number_131 rfl ?_
        refine J_icmp_gt (t := 139) (q := 135) C0 dX6_number_132 (by decide) rfl hf (fun c9 hf => ?_) (fun c9 hf => ?_)
        · refine J_sub (lv' := [(0, vr (some a0)), (4, vi (v4)), (5, vi (v5))]) [0, 4, 5] rfl ?_
          exact t_X6_number_B139_k8 C1    (v4) (v5) σ (hT) (hE) (h0)  hf
        · refine J_iconst (q := 136) (v := 1) C0 dX6_number_135 rfl rfl ?_
          refine J_goto (q := 140) C0 dX6_number_136 (by decide) ?_
          refine J_sub (lv' := [(0, vr (some a0)), (4, vi (v4)), (5, vi (v5))]) [0, 4, 5] rfl ?_
          exact t_X6_number_B140_k8 C1    (v4) (v5) (1) σ (hT) (hE) (h0)  hf
    · refine J_aload_n (q := 112) C0 0 rfl rfl dX6_number_111 rfl trivial ?_
      refine J_dup (q := 113) C0 dX6_number_112 rfl rfl ?_
      refine J_getI (q := 116) C0 fl_X6_19_8 rfl (h0) rfl dX6_number_113 rfl ?_
      refine J_iload_n (q := 117) C0 1 rfl rfl dX6_number_116 rfl ?_
      refine J_iadd (q := 118) C0 dX6_number_117 rfl ?_
      refine J_putI (q := 121) C0 fl_X6_19_8 rfl (h0) rfl dX6_number_118 rfl ?_
      refine J_iconst (q := 122) (v := (-1)) C0 dX6_number_121 rfl rfl ?_
      obtain rfl := Option.some.inj hf; exact J_iret C1 dX6_number_122 rfl (Nat.zero_le _) (Nat.zero_le _) ⟨rfl, rfl, (hT).putI, (hE).putI⟩
  · refine J_iconst (q := 104) (v := (-1)) C0 dX6_number_103 rfl rfl ?_
    obtain rfl := Option.some.inj hf; exact J_iret C1 dX6_number_104 rfl (Nat.zero_le _) (Nat.zero_le _) ⟨rfl, rfl, hT, hE⟩
set_option maxHeartbeats 4000000 in
set_option maxRecDepth 100000 in
theorem t_X6_number_L23_k8 {N : Nat} {a0 : Nat} {Γ : Gm} {σ0 : Sg} {r : (Int32 × Sg)} (C1 : CM Γ cX6_number RX6 8 (some .int) 1 21 0 0 (fun r_ τ_ => (r_ = some (vi r.1)) ∧ τ_ = r.2 ∧ sg_T τ_ ∧ sg_E σ0 τ_)) : ∀ (n : Nat) (v1 : Int32) (v2 : Int32) (v3 : Int32) (v4 : Int32) (v5 : Int32) (v6 : Int32) (σ : Sg), sg_T σ → sg_E σ0 σ → is_A σ a0 8 → f_X6_number_L23 N a0  n v1 v2 v3 v4 v5 v6 σ = some r → J_ Γ 23 [(0, vr (some a0)), (1, vi (v1)), (2, vi (v2)), (3, vi (v3)), (4, vi (v4)), (5, vi (v5)), (6, vi (v6))] [] σ 0 0 := by
  have C0 := C1.1
  intro n
  induction n with
  | zero => intro v1 v2 v3 v4 v5 v6 σ hT hE h0  hf; unfold f_X6_number_L23 at hf; cases hf
  | succ n ih =>
    intro v1 v2 v3 v4 v5 v6 σ hT hE h0  hf
    rw [f_X6_number_L23] at hf
    refine J_aload_n (q := 24) C0 0 rfl rfl dX6_number_23 rfl trivial ?_
    refine J_getI (q := 27) C0 fl_X6_19_8 rfl (h0) rfl dX6_number_24 rfl ?_
    refine J_iload (q := 29) C0 4 rfl dX6_number_27 rfl ?_
    refine J_iadd (q := 30) C0 dX6_number_29 rfl ?_
    refine J_iload (q := 32) C0 6 rfl dX6_number_30 rfl ?_
    refine J_icmp_ge (t := 98) (q := 35) C0 dX6_number_32 (by decide) rfl hf (fun c2 hf => ?_) (fun c2 hf => ?_)
    · refine J_sub (lv' := [(0, vr (some a0)), (1, vi (v1)), (2, vi (v2)), (3, vi (v3)), (4, vi (v4)), (5, vi (v5))]) [0, 1, 2, 3, 4, 5] rfl ?_
      exact t_X6_number_B98_k8 C1    (v1) (v2) (v3) (v4) (v5) σ (hT) (hE) (h0)  hf
    · refine J_aload_n (q := 36) C0 0 rfl rfl dX6_number_35 rfl trivial ?_
      refine J_getR (q := 39) C0 fl_X6_9_8 rfl (h0) rfl dX6_number_36 rfl ?_
      refine J_aload_n (q := 40) C0 0 rfl rfl dX6_number_39 rfl trivial ?_
      refine J_getI (q := 43) C0 fl_X6_19_8 rfl (h0) rfl dX6_number_40 rfl ?_
      refine J_iload (q := 45) C0 4 rfl dX6_number_43 rfl ?_
      refine J_iadd (q := 46) C0 dX6_number_45 rfl ?_
      refine K_some hf (fun b10 hb10 hf => ?_)
      have ab10 : is_A σ b10 12 := ((sg_T.op hT (j := 0) (h0) rfl)) b10 hb10
      refine K_chk hf (fun c11 hf => ?_)
      refine J_iald (q := 47) C0 hb10 (ab10) c11 dX6_number_46 rfl ?_
      refine J_bipush (q := 49) (v := 48) C0 dX6_number_47 rfl rfl ?_
      refine J_icmp_lt (t := 98) (q := 52) C0 dX6_number_49 (by decide) rfl hf (fun c12 hf => ?_) (fun c12 hf => ?_)
      · refine J_sub (lv' := [(0, vr (some a0)), (1, vi (v1)), (2, vi (v2)), (3, vi (v3)), (4, vi (v4)), (5, vi (v5))]) [0, 1, 2, 3, 4, 5] rfl ?_
        exact t_X6_number_B98_k8 C1    (v1) (v2) (v3) (v4) (v5) σ (hT) (hE) (h0)  hf
      · refine J_aload_n (q := 53) C0 0 rfl rfl dX6_number_52 rfl trivial ?_
        refine J_getR (q := 56) C0 fl_X6_9_8 rfl (h0) rfl dX6_number_53 rfl ?_
        refine J_aload_n (q := 57) C0 0 rfl rfl dX6_number_56 rfl trivial ?_
        refine J_getI (q := 60) C0 fl_X6_19_8 rfl (h0) rfl dX6_number_57 rfl ?_
        refine J_iload (q := 62) C0 4 rfl dX6_number_60 rfl ?_
        refine J_iadd (q := 63) C0 dX6_number_62 rfl ?_
        refine K_chk hf (fun c13 hf => ?_)
        refine J_iald (q := 64) C0 hb10 (ab10) c13 dX6_number_63 rfl ?_
        refine J_bipush (q := 66) (v := 57) C0 dX6_number_64 rfl rfl ?_
        refine J_icmp_gt (t := 98) (q := 69) C0 dX6_number_66 (by decide) rfl hf (fun c14 hf => ?_) (fun c14 hf => ?_)
        · refine J_sub (lv' := [(0, vr (some a0)), (1, vi (v1)), (2, vi (v2)), (3, vi (v3)), (4, vi (v4)), (5, vi (v5))]) [0, 1, 2, 3, 4, 5] rfl ?_
          exact t_X6_number_B98_k8 C1    (v1) (v2) (v3) (v4) (v5) σ (hT) (hE) (h0)  hf
        · refine J_iload (q := 71) C0 5 rfl dX6_number_69 rfl ?_
          refine J_bipush (q := 73) (v := 10) C0 dX6_number_71 rfl rfl ?_
          refine J_imul (q := 74) C0 dX6_number_73 rfl ?_
          refine J_aload_n (q := 75) C0 0 rfl rfl dX6_number_74 rfl trivial ?_
          refine J_getR (q := 78) C0 fl_X6_9_8 rfl (h0) rfl dX6_number_75 rfl ?_
          refine J_aload_n (q := 79) C0 0 rfl rfl dX6_number_78 rfl trivial ?_
          refine J_getI (q := 82) C0 fl_X6_19_8 rfl (h0) rfl dX6_number_79 rfl ?_
          refine J_iload (q := 84) C0 4 rfl dX6_number_82 rfl ?_
          refine J_iadd (q := 85) C0 dX6_number_84 rfl ?_
          refine K_chk hf (fun c15 hf => ?_)
          refine J_iald (q := 86) C0 hb10 (ab10) c15 dX6_number_85 rfl ?_
          refine J_iadd (q := 87) C0 dX6_number_86 rfl ?_
          refine J_bipush (q := 89) (v := 48) C0 dX6_number_87 rfl rfl ?_
          refine J_isub (q := 90) C0 dX6_number_89 rfl ?_
          refine J_istore (q := 92) (lv' := [(5, vi ((((v5) * (10)) + (sg_I σ b10 ((sg_I σ a0 2) + (v4)).toNatClampNeg)) - (48))), (0, vr (some a0)), (1, vi (v1)), (2, vi (v2)), (3, vi (v3)), (4, vi (v4)), (6, vi (v6))]) C0 (G_nl C1 (by decide)) dX6_number_90 rfl rfl ?_
          refine J_iinc (q := 95) (v := v4 + 1) (lv' := [(4, vi (v4 + 1)), (5, vi ((((v5) * (10)) + (sg_I σ b10 ((sg_I σ a0 2) + (v4)).toNatClampNeg)) - (48))), (0, vr (some a0)), (1, vi (v1)), (2, vi (v2)), (3, vi (v3)), (6, vi (v6))]) C0 5 rfl rfl (G_nl C1 (by decide)) dX6_number_92 rfl rfl ?_
          refine J_goto (q := 23) C0 dX6_number_95 (by decide) ?_
          refine J_sub (lv' := [(0, vr (some a0)), (1, vi (v1)), (2, vi (v2)), (3, vi (v3)), (4, vi (v4 + 1)), (5, vi ((((v5) * (10)) + (sg_I σ b10 ((sg_I σ a0 2) + (v4)).toNatClampNeg)) - (48))), (6, vi (v6))]) [2, 3, 4, 5, 0, 1, 6] rfl ?_
          exact ih (v1) (v2) (v3) (v4 + 1) ((((v5) * (10)) + (sg_I σ b10 ((sg_I σ a0 2) + (v4)).toNatClampNeg)) - (48)) (v6) σ (hT) (hE) (h0)  hf
set_option maxHeartbeats 4000000 in
set_option maxRecDepth 100000 in
theorem t_X6_number_k8 (N : Nat) (a0 : Nat) (x1 : Int32) (x2 : Int32) (x3 : Int32) {σ : Sg} (hT : sg_T σ) (h0 : is_A σ a0 8) {r : (Int32 × Sg)} (hf : f_X6_number N a0 x1 x2 x3 σ = some r) : Ct yX6_number cX6_number 8 (some .int) 1 21 0 0 [vr (some a0), vi x1, vi x2, vi x3] σ (fun r_ τ_ => (r_ = some (vi r.1)) ∧ τ_ = r.2 ∧ sg_T τ_ ∧ sg_E σ τ_) := by
  refine Ct.of (by decide +kernel) (Nat.le_of_ble_eq_true rfl) (fun Γ C1 => ?_)
  have C0 := C1.1
  have hE : sg_E σ σ := sg_E.rf
  unfold f_X6_number at hf
  show J_ Γ 0 [(0, vr (some a0)), (1, vi (x1)), (2, vi (x2)), (3, vi (x3))] [] σ 0 0
  refine J_iconst (q := 1) (v := 0) C0 dX6_number_0 rfl rfl ?_
  refine J_istore (q := 3) (lv' := [(4, vi (0)), (0, vr (some a0)), (1, vi (x1)), (2, vi (x2)), (3, vi (x3))]) C0 (G_nl C1 (by decide)) dX6_number_1 rfl rfl ?_
  refine J_iconst (q := 4) (v := 0) C0 dX6_number_3 rfl rfl ?_
  refine J_istore (q := 6) (lv' := [(5, vi (0)), (4, vi (0)), (0, vr (some a0)), (1, vi (x1)), (2, vi (x2)), (3, vi (x3))]) C0 (G_nl C1 (by decide)) dX6_number_4 rfl rfl ?_
  refine J_aload_n (q := 7) C0 2 rfl rfl dX6_number_6 rfl trivial ?_
  refine J_getI (q := 10) C0 fl_X6_15_8 rfl (h0) rfl dX6_number_7 rfl ?_
  refine J_aload_n (q := 11) C0 2 rfl rfl dX6_number_10 rfl trivial ?_
  refine J_getI (q := 14) C0 fl_X6_19_8 rfl (h0) rfl dX6_number_11 rfl ?_
  refine J_iload_n (q := 15) C0 3 rfl rfl dX6_number_14 rfl ?_
  refine J_iadd (q := 16) C0 dX6_number_15 rfl ?_
  refine J_iconst (q := 17) (v := 1) C0 dX6_number_16 rfl rfl ?_
  refine J_iadd (q := 18) C0 dX6_number_17 rfl ?_
  refine K_some hf (fun p1 hp1 hf => ?_)
  refine J_callS (q := 21) (as := [vi (sg_I σ a0 1), vi (((sg_I σ a0 2) + (x1)) + (1))]) (rest := []) C0 (t_J9_min_7cf53 (sg_I σ a0 1) (((sg_I σ a0 2) + (x1)) + (1))  hp1) ml_J9_min_7cf53 lk_X6_22 sm_J9_min_7cf53 dX6_number_18 rfl rfl rfl (by simp [ac_]) C1.room (by decide) (by decide) (by decide) (by decide) (fun r_ τ_ hQ => ?_)
  obtain ⟨rfl, ht_⟩ := hQ; have ht_ := ht_.symm; subst ht_
  show J_ Γ 21 [(5, vi (0)), (4, vi (0)), (0, vr (some a0)), (1, vi (x1)), (2, vi (x2)), (3, vi (x3))] [vi (p1)] σ 0 0
  refine J_istore (q := 23) (lv' := [(6, vi (p1)), (5, vi (0)), (4, vi (0)), (0, vr (some a0)), (1, vi (x1)), (2, vi (x2)), (3, vi (x3))]) C0 (G_nl C1 (by decide)) dX6_number_21 rfl rfl ?_
  refine J_sub (lv' := [(0, vr (some a0)), (1, vi (x1)), (2, vi (x2)), (3, vi (x3)), (4, vi (0)), (5, vi (0)), (6, vi (p1))]) [3, 4, 5, 6, 2, 1, 0] rfl ?_
  exact t_X6_number_L23_k8 C1    N (x1) (x2) (x3) (0) (0) (p1) σ (hT) (hE) (h0)  hf
def f_X1_areItems_L6 (N : Nat) (a0 : Nat) : Nat → Nat → Nat → Nat → Option Nat → Int32 → Int32 → Int32 → Sg → Option (Int32 × Sg)
  | 0, _, _, _, _, _, _, _, _ => none
  | n + 1, v1, v2, v3, v4, v5, v6, v7, σ =>
  Option.bind (f_J0_length_8abf5 (v1) σ) fun p1 =>
  if (p1) < (v7) then
  (some (0, σ))
  else
  (Option.bind (f_X6_nextSign N a0  σ) fun p3 =>
  Option.bind (f_X6_letterOf N (v1) (p3.1) p3.2) fun p4 =>
  if (p4) < (0) then
  (some (1, p3.2))
  else
  (if (p4) < (Int32.ofNat (kn_ (v2))) then
  (if (p4) < (Int32.ofNat (kn_ (v3))) then
  (if (((v6) >>> ((p4) &&& 31)) &&& (1)) = (0) then
  (Option.bind (f_X6_nextSign N a0  (put_I p3.2 a0 2 ((sg_I p3.2 a0 2) + (1)))) fun p9 =>
  if (p4) < 0 ∨ kn_ (v2) ≤ (p4).toNatClampNeg then none else
  if (p4) < 0 ∨ kn_ (v3) ≤ (p4).toNatClampNeg then none else
  Option.bind (f_X6_number N a0 (2) (kv_ (v2) (p4).toNatClampNeg) (kv_ (v3) (p4).toNatClampNeg) p9.2) fun p12 =>
  if (p12.1) = ((-1)) then
  (some (0, p12.2))
  else
  (Option.bind (v4) fun b14 =>
  if ((v5) + (p4)) < (Int32.ofNat (sg_L p12.2 b14)) then
  (if ((v5) + (p4)) < 0 ∨ sg_L p12.2 b14 ≤ ((v5) + (p4)).toNatClampNeg then none else
  f_X1_areItems_L6 N a0 n (v1) (v2) (v3) (v4) (v5) ((v6) ||| ((1) <<< ((p4) &&& 31))) (v7 + 1) (put_I p12.2 b14 ((v5) + (p4)).toNatClampNeg (p12.1)))
  else
  (some (0, p12.2))))
  else
  (some (0, p3.2)))
  else
  (some (1, p3.2)))
  else
  (some (1, p3.2))))
def f_X1_areItems (N : Nat) (a0 : Nat) (c1 : Nat) (c2 : Nat) (c3 : Nat) (e4 : Option Nat) (x5 : Int32) (σ : Sg) : Option (Int32 × Sg) :=
  f_X1_areItems_L6 N a0 N (c1) (c2) (c3) (e4) (x5) (0) (0) σ
set_option maxHeartbeats 4000000 in
set_option maxRecDepth 100000 in
theorem t_X1_areItems_L6 {N : Nat} {a0 : Nat} {Γ : Gm} {σ0 : Sg} {r : (Int32 × Sg)} (C1 : CM Γ cX1_areItems RX1 10 (some .boolean) 5 112 0 0 (fun r_ τ_ => (r_ = some (vi r.1) ∧ (r.1 = 0 ∨ r.1 = 1)) ∧ τ_ = r.2 ∧ sg_T τ_ ∧ sg_E σ0 τ_)) : ∀ (n : Nat) (v1 : Nat) (v2 : Nat) (v3 : Nat) (v4 : Option Nat) (v5 : Int32) (v6 : Int32) (v7 : Int32) (σ : Sg), sg_T σ → sg_E σ0 σ → is_A σ a0 1 → (6 ≤ v1 ∧ v1 < 9) → (0 ≤ v2 ∧ v2 < 6) → (0 ≤ v3 ∧ v3 < 6) → is_O σ v4 12 → f_X1_areItems_L6 N a0  n v1 v2 v3 v4 v5 v6 v7 σ = some r → J_ Γ 6 [(0, vr (some a0)), (1, vk (v1)), (2, vk (v2)), (3, vk (v3)), (4, vr (v4)), (5, vi (v5)), (6, vi (v6)), (7, vi (v7))] [] σ 0 0 := by
  have C0 := C1.1
  intro n
  induction n with
  | zero => intro v1 v2 v3 v4 v5 v6 v7 σ hT hE h0 g_v1 g_v2 g_v3 g_v4 hf; unfold f_X1_areItems_L6 at hf; cases hf
  | succ n ih =>
    intro v1 v2 v3 v4 v5 v6 v7 σ hT hE h0 g_v1 g_v2 g_v3 g_v4 hf
    rw [f_X1_areItems_L6] at hf
    refine J_iload (q := 8) C0 7 rfl dX1_areItems_6 rfl ?_
    refine J_aload_n (q := 9) C0 1 rfl rfl dX1_areItems_8 rfl trivial ?_
    refine K_some hf (fun p1 hp1 hf => ?_)
    refine J_callVK (q := 12) (as := []) (rest := [vi (v7)]) C0 (by omega) (t_J0_length_8abf5 (v1) (by omega) hp1) ml_J0_length_8abf5 lk_X1_70 im_J0_length_8abf5 se_J0_length_8abf5 rfl dX1_areItems_9 rfl rfl rfl (by simp [ac_]) C1.room (by decide) (by decide) (by decide) (by decide) (fun r_ τ_ hQ => ?_)
    obtain ⟨rfl, ht_⟩ := hQ; have ht_ := ht_.symm; subst ht_
    show J_ Γ 12 [(0, vr (some a0)), (1, vk (v1)), (2, vk (v2)), (3, vk (v3)), (4, vr (v4)), (5, vi (v5)), (6, vi (v6)), (7, vi (v7))] [vi (p1), vi (v7)] σ 0 0
    refine J_icmp_gt (t := 132) (q := 15) C0 dX1_areItems_12 (by decide) rfl hf (fun c2 hf => ?_) (fun c2 hf => ?_)
    · refine J_iconst (q := 133) (v := 0) C0 dX1_areItems_132 rfl rfl ?_
      obtain rfl := Option.some.inj hf; exact J_zret C1 dX1_areItems_133 rfl (Or.inl rfl) (Nat.zero_le _) (Nat.zero_le _) ⟨⟨rfl, (Or.inl rfl)⟩, rfl, hT, hE⟩
    · refine J_aload_n (q := 16) C0 1 rfl rfl dX1_areItems_15 rfl trivial ?_
      refine J_aload_n (q := 17) C0 0 rfl rfl dX1_areItems_16 rfl trivial ?_
      refine K_some hf (fun p3 hp3 hf => ?_)
      refine J_callU (q := 20) (ci := 1) (as := []) (rest := [vk (v1)]) C0 rfl (h0) (t_X6_nextSign_k1 N a0  (hT) (h0)  hp3) rfl ml_X6_nextSign lk_X1_43 sa_551 im_X6_nextSign se_553 rfl (by decide) dX1_areItems_17 rfl rfl rfl (by simp [ac_]) C1.room (by decide) (by decide) (by decide) (by decide) (fun r_ τ_ hQ => ?_)
      obtain ⟨rfl, rfl, Tp3, Ep3⟩ := hQ
      show J_ Γ 20 [(0, vr (some a0)), (1, vk (v1)), (2, vk (v2)), (3, vk (v3)), (4, vr (v4)), (5, vi (v5)), (6, vi (v6)), (7, vi (v7))] [vi (p3.1), vk (v1)] p3.2 0 0
      refine K_some hf (fun p4 hp4 hf => ?_)
      refine J_callSU (q := 23) (as := [vk (v1), vi (p3.1)]) (rest := []) C0 (t_X6_letterOf N (v1) (p3.1) (by omega) hp4) rfl ml_X6_letterOf lk_X1_75 sa_555 sm_X6_letterOf dX1_areItems_20 rfl rfl rfl (by simp [ac_]) C1.room (by decide) (by decide) (by decide) (by decide) (fun r_ τ_ hQ => ?_)
      obtain ⟨rfl, ht_⟩ := hQ; have ht_ := ht_.symm; subst ht_
      show J_ Γ 23 [(0, vr (some a0)), (1, vk (v1)), (2, vk (v2)), (3, vk (v3)), (4, vr (v4)), (5, vi (v5)), (6, vi (v6)), (7, vi (v7))] [vi (p4)] p3.2 0 0
      refine J_istore (q := 25) (lv' := [(8, vi (p4)), (0, vr (some a0)), (1, vk (v1)), (2, vk (v2)), (3, vk (v3)), (4, vr (v4)), (5, vi (v5)), (6, vi (v6)), (7, vi (v7))]) C0 (G_nl C1 (by decide)) dX1_areItems_23 rfl rfl ?_
      refine J_iload (q := 27) C0 0 rfl dX1_areItems_25 rfl ?_
      refine J_if_lt (t := 44) (q := 30) C0 dX1_areItems_27 (by decide) rfl hf (fun c5 hf => ?_) (fun c5 hf => ?_)
      · refine J_iconst (q := 45) (v := 1) C0 dX1_areItems_44 rfl rfl ?_
        obtain rfl := Option.some.inj hf; exact J_zret C1 dX1_areItems_45 rfl (Or.inr rfl) (Nat.zero_le _) (Nat.zero_le _) ⟨⟨rfl, (Or.inr rfl)⟩, rfl, Tp3, (hE).tr Ep3⟩
      · refine J_iload (q := 32) C0 0 rfl dX1_areItems_30 rfl ?_
        refine J_aload_n (q := 33) C0 3 rfl rfl dX1_areItems_32 rfl trivial ?_
        refine J_alenK (q := 34) C0 (by omega) dX1_areItems_33 rfl ?_
        refine J_icmp_ge (t := 44) (q := 37) C0 dX1_areItems_34 (by decide) rfl hf (fun c6 hf => ?_) (fun c6 hf => ?_)
        · refine J_iconst (q := 45) (v := 1) C0 dX1_areItems_44 rfl rfl ?_
          obtain rfl := Option.some.inj hf; exact J_zret C1 dX1_areItems_45 rfl (Or.inr rfl) (Nat.zero_le _) (Nat.zero_le _) ⟨⟨rfl, (Or.inr rfl)⟩, rfl, Tp3, (hE).tr Ep3⟩
        · refine J_iload (q := 39) C0 0 rfl dX1_areItems_37 rfl ?_
          refine J_aload_n (q := 40) C0 4 rfl rfl dX1_areItems_39 rfl trivial ?_
          refine J_alenK (q := 41) C0 (by omega) dX1_areItems_40 rfl ?_
          refine J_icmp_lt (t := 46) (q := 44) C0 dX1_areItems_41 (by decide) rfl hf (fun c7 hf => ?_) (fun c7 hf => ?_)
          · refine J_iload (q := 48) C0 7 rfl dX1_areItems_46 rfl ?_
            refine J_iload (q := 50) C0 0 rfl dX1_areItems_48 rfl ?_
            refine J_ishr (q := 51) C0 dX1_areItems_50 rfl ?_
            refine J_iconst (q := 52) (v := 1) C0 dX1_areItems_51 rfl rfl ?_
            refine J_iand (q := 53) C0 dX1_areItems_52 rfl ?_
            refine J_if_eq (t := 58) (q := 56) C0 dX1_areItems_53 (by decide) rfl hf (fun c8 hf => ?_) (fun c8 hf => ?_)
            · refine J_iload (q := 60) C0 7 rfl dX1_areItems_58 rfl ?_
              refine J_iconst (q := 61) (v := 1) C0 dX1_areItems_60 rfl rfl ?_
              refine J_iload (q := 63) C0 0 rfl dX1_areItems_61 rfl ?_
              refine J_ishl (q := 64) C0 dX1_areItems_63 rfl ?_
              refine J_ior (q := 65) C0 dX1_areItems_64 rfl ?_
              refine J_istore (q := 67) (lv' := [(6, vi ((v6) ||| ((1) <<< ((p4) &&& 31)))), (8, vi (p4)), (0, vr (some a0)), (1, vk (v1)), (2, vk (v2)), (3, vk (v3)), (4, vr (v4)), (5, vi (v5)), (7, vi (v7))]) C0 (G_nl C1 (by decide)) dX1_areItems_65 rfl rfl ?_
              refine J_aload_n (q := 68) C0 2 rfl rfl dX1_areItems_67 rfl trivial ?_
              refine J_dup (q := 69) C0 dX1_areItems_68 rfl rfl ?_
              refine J_getI (q := 72) C0 fl_X1_79_1 rfl ((Ep3.at h0)) rfl dX1_areItems_69 rfl ?_
              refine J_iconst (q := 73) (v := 1) C0 dX1_areItems_72 rfl rfl ?_
              refine J_iadd (q := 74) C0 dX1_areItems_73 rfl ?_
              refine J_putI (q := 77) C0 fl_X1_79_1 rfl ((Ep3.at h0)) rfl dX1_areItems_74 rfl ?_
              refine J_aload_n (q := 78) C0 2 rfl rfl dX1_areItems_77 rfl trivial ?_
              refine K_some hf (fun p9 hp9 hf => ?_)
              refine J_callU (q := 81) (ci := 1) (as := []) (rest := []) C0 rfl (((Ep3.at h0)).putI) (t_X6_nextSign_k1 N a0  ((Tp3).putI) (((Ep3.at h0)).putI)  hp9) rfl ml_X6_nextSign lk_X1_43 sa_551 im_X6_nextSign se_553 rfl (by decide) dX1_areItems_78 rfl rfl rfl (by simp [ac_]) C1.room (by decide) (by decide) (by decide) (by decide) (fun r_ τ_ hQ => ?_)
              obtain ⟨rfl, rfl, Tp9, Ep9⟩ := hQ
              show J_ Γ 81 [(6, vi ((v6) ||| ((1) <<< ((p4) &&& 31)))), (8, vi (p4)), (0, vr (some a0)), (1, vk (v1)), (2, vk (v2)), (3, vk (v3)), (4, vr (v4)), (5, vi (v5)), (7, vi (v7))] [vi (p9.1)] p9.2 0 0
              refine J_pop (q := 82) C0 dX1_areItems_81 rfl rfl ?_
              refine J_aload_n (q := 83) C0 2 rfl rfl dX1_areItems_82 rfl trivial ?_
              refine J_iconst (q := 84) (v := 2) C0 dX1_areItems_83 rfl rfl ?_
              refine J_aload_n (q := 85) C0 4 rfl rfl dX1_areItems_84 rfl trivial ?_
              refine J_iload (q := 87) C0 1 rfl dX1_areItems_85 rfl ?_
              refine K_chk hf (fun c10 hf => ?_)
              refine J_ialdK (q := 88) C0 (by omega) c10 dX1_areItems_87 rfl ?_
              refine J_aload_n (q := 89) C0 5 rfl rfl dX1_areItems_88 rfl trivial ?_
              refine J_iload (q := 91) C0 1 rfl dX1_areItems_89 rfl ?_
              refine K_chk hf (fun c11 hf => ?_)
              refine J_ialdK (q := 92) C0 (by omega) c11 dX1_areItems_91 rfl ?_
              refine K_some hf (fun p12 hp12 hf => ?_)
              refine J_callU (q := 95) (ci := 1) (as := [vi (2), vi (kv_ (v2) (p4).toNatClampNeg), vi (kv_ (v3) (p4).toNatClampNeg)]) (rest := []) C0 rfl ((Ep9.at ((Ep3.at h0)).putI)) (t_X6_number_k1 N a0 (2) (kv_ (v2) (p4).toNatClampNeg) (kv_ (v3) (p4).toNatClampNeg) (Tp9) ((Ep9.at ((Ep3.at h0)).putI))  hp12) rfl ml_X6_number lk_X1_82 sa_634 im_X6_number se_636 rfl (by decide) dX1_areItems_92 rfl rfl rfl (by simp [ac_]) C1.room (by decide) (by decide) (by decide) (by decide) (fun r_ τ_ hQ => ?_)
              obtain ⟨rfl, rfl, Tp12, Ep12⟩ := hQ
              show J_ Γ 95 [(6, vi ((v6) ||| ((1) <<< ((p4) &&& 31)))), (8, vi (p4)), (0, vr (some a0)), (1, vk (v1)), (2, vk (v2)), (3, vk (v3)), (4, vr (v4)), (5, vi (v5)), (7, vi (v7))] [vi (p12.1)] p12.2 0 0
              refine J_istore (q := 97) (lv' := [(9, vi (p12.1)), (6, vi ((v6) ||| ((1) <<< ((p4) &&& 31)))), (8, vi (p4)), (0, vr (some a0)), (1, vk (v1)), (2, vk (v2)), (3, vk (v3)), (4, vr (v4)), (5, vi (v5)), (7, vi (v7))]) C0 (G_nl C1 (by decide)) dX1_areItems_95 rfl rfl ?_
              refine J_iload (q := 99) C0 0 rfl dX1_areItems_97 rfl ?_
              refine J_iconst (q := 100) (v := (-1)) C0 dX1_areItems_99 rfl rfl ?_
              refine J_icmp_eq (t := 114) (q := 103) C0 dX1_areItems_100 (by decide) rfl hf (fun c13 hf => ?_) (fun c13 hf => ?_)
              · refine J_iconst (q := 115) (v := 0) C0 dX1_areItems_114 rfl rfl ?_
                obtain rfl := Option.some.inj hf; exact J_zret C1 dX1_areItems_115 rfl (Or.inl rfl) (Nat.zero_le _) (Nat.zero_le _) ⟨⟨rfl, (Or.inl rfl)⟩, rfl, Tp12, ((((hE).tr Ep3).putI).tr Ep9).tr Ep12⟩
              · refine J_iload (q := 105) C0 8 rfl dX1_areItems_103 rfl ?_
                refine J_iload (q := 107) C0 2 rfl dX1_areItems_105 rfl ?_
                refine J_iadd (q := 108) C0 dX1_areItems_107 rfl ?_
                refine J_aload (q := 110) C0 7 rfl dX1_areItems_108 rfl trivial ?_
                refine K_some hf (fun b14 hb14 hf => ?_)
                have ab14 : is_A p12.2 b14 12 := ((Ep12.op (Ep9.op (fun b_ h_ => ((Ep3.op g_v4) b_ h_).putI)))) b14 hb14
                refine J_alen (q := 111) C0 hb14 (ab14) (by decide) dX1_areItems_110 rfl ?_
                refine J_icmp_lt (t := 116) (q := 114) C0 dX1_areItems_111 (by decide) rfl hf (fun c15 hf => ?_) (fun c15 hf => ?_)
                · refine J_aload (q := 118) C0 7 rfl dX1_areItems_116 rfl trivial ?_
                  refine J_iload (q := 120) C0 8 rfl dX1_areItems_118 rfl ?_
                  refine J_iload (q := 122) C0 2 rfl dX1_areItems_120 rfl ?_
                  refine J_iadd (q := 123) C0 dX1_areItems_122 rfl ?_
                  refine J_iload (q := 125) C0 0 rfl dX1_areItems_123 rfl ?_
                  refine K_chk hf (fun c16 hf => ?_)
                  refine J_iast (q := 126) C0 hb14 (ab14) c16 dX1_areItems_125 rfl ?_
                  refine J_iinc (q := 129) (v := v7 + 1) (lv' := [(7, vi (v7 + 1)), (9, vi (p12.1)), (6, vi ((v6) ||| ((1) <<< ((p4) &&& 31)))), (8, vi (p4)), (0, vr (some a0)), (1, vk (v1)), (2, vk (v2)), (3, vk (v3)), (4, vr (v4)), (5, vi (v5))]) C0 9 rfl rfl (G_nl C1 (by decide)) dX1_areItems_126 rfl rfl ?_
                  refine J_goto (q := 6) C0 dX1_areItems_129 (by decide) ?_
                  refine J_sub (lv' := [(0, vr (some a0)), (1, vk (v1)), (2, vk (v2)), (3, vk (v3)), (4, vr (v4)), (5, vi (v5)), (6, vi ((v6) ||| ((1) <<< ((p4) &&& 31)))), (7, vi (v7 + 1))]) [4, 5, 6, 7, 8, 9, 2, 0] rfl ?_
                  exact ih (v1) (v2) (v3) (v4) (v5) ((v6) ||| ((1) <<< ((p4) &&& 31))) (v7 + 1) (put_I p12.2 b14 ((v5) + (p4)).toNatClampNeg (p12.1)) ((Tp12).putI) ((((((hE).tr Ep3).putI).tr Ep9).tr Ep12).putI) (((Ep12.at (Ep9.at ((Ep3.at h0)).putI))).putI) (by omega) (by omega) (by omega) ((by rw [hb14]; exact is_O.some ((ab14).putI))) hf
                · refine J_iconst (q := 115) (v := 0) C0 dX1_areItems_114 rfl rfl ?_
                  obtain rfl := Option.some.inj hf; exact J_zret C1 dX1_areItems_115 rfl (Or.inl rfl) (Nat.zero_le _) (Nat.zero_le _) ⟨⟨rfl, (Or.inl rfl)⟩, rfl, Tp12, ((((hE).tr Ep3).putI).tr Ep9).tr Ep12⟩
            · refine J_iconst (q := 57) (v := 0) C0 dX1_areItems_56 rfl rfl ?_
              obtain rfl := Option.some.inj hf; exact J_zret C1 dX1_areItems_57 rfl (Or.inl rfl) (Nat.zero_le _) (Nat.zero_le _) ⟨⟨rfl, (Or.inl rfl)⟩, rfl, Tp3, (hE).tr Ep3⟩
          · refine J_iconst (q := 45) (v := 1) C0 dX1_areItems_44 rfl rfl ?_
            obtain rfl := Option.some.inj hf; exact J_zret C1 dX1_areItems_45 rfl (Or.inr rfl) (Nat.zero_le _) (Nat.zero_le _) ⟨⟨rfl, (Or.inr rfl)⟩, rfl, Tp3, (hE).tr Ep3⟩
set_option maxHeartbeats 4000000 in
set_option maxRecDepth 100000 in
theorem t_X1_areItems (N : Nat) (a0 : Nat) (c1 : Nat) (c2 : Nat) (c3 : Nat) (e4 : Option Nat) (x5 : Int32) {σ : Sg} (hT : sg_T σ) (h0 : is_A σ a0 1) (g1 : (6 ≤ c1 ∧ c1 < 9)) (g2 : (0 ≤ c2 ∧ c2 < 6)) (g3 : (0 ≤ c3 ∧ c3 < 6)) (g4 : is_O σ e4 12) {r : (Int32 × Sg)} (hf : f_X1_areItems N a0 c1 c2 c3 e4 x5 σ = some r) : Ct yX1_areItems cX1_areItems 10 (some .boolean) 5 112 0 0 [vr (some a0), vk c1, vk c2, vk c3, vr e4, vi x5] σ (fun r_ τ_ => (r_ = some (vi r.1) ∧ (r.1 = 0 ∨ r.1 = 1)) ∧ τ_ = r.2 ∧ sg_T τ_ ∧ sg_E σ τ_) := by
  refine Ct.of (by decide +kernel) (Nat.le_of_ble_eq_true rfl) (fun Γ C1 => ?_)
  have C0 := C1.1
  have hE : sg_E σ σ := sg_E.rf
  unfold f_X1_areItems at hf
  show J_ Γ 0 [(0, vr (some a0)), (1, vk (c1)), (2, vk (c2)), (3, vk (c3)), (4, vr (e4)), (5, vi (x5))] [] σ 0 0
  refine J_iconst (q := 1) (v := 0) C0 dX1_areItems_0 rfl rfl ?_
  refine J_istore (q := 3) (lv' := [(6, vi (0)), (0, vr (some a0)), (1, vk (c1)), (2, vk (c2)), (3, vk (c3)), (4, vr (e4)), (5, vi (x5))]) C0 (G_nl C1 (by decide)) dX1_areItems_1 rfl rfl ?_
  refine J_iconst (q := 4) (v := 0) C0 dX1_areItems_3 rfl rfl ?_
  refine J_istore (q := 6) (lv' := [(7, vi (0)), (6, vi (0)), (0, vr (some a0)), (1, vk (c1)), (2, vk (c2)), (3, vk (c3)), (4, vr (e4)), (5, vi (x5))]) C0 (G_nl C1 (by decide)) dX1_areItems_4 rfl rfl ?_
  refine J_sub (lv' := [(0, vr (some a0)), (1, vk (c1)), (2, vk (c2)), (3, vk (c3)), (4, vr (e4)), (5, vi (x5)), (6, vi (0)), (7, vi (0))]) [2, 3, 4, 5, 6, 7, 1, 0] rfl ?_
  exact t_X1_areItems_L6 C1    N (c1) (c2) (c3) (e4) (x5) (0) (0) σ (hT) (hE) (h0) (by omega) (by omega) (by omega) (g4) hf
def f_X1_isClause_B104 (N : Nat) (a0 : Nat) (σ : Sg) : Option (Int32 × Sg) :=
  Option.bind (f_X6_nextSign N a0  σ) fun p3 =>
  some (0, p3.2)
def f_X1_isClause_B39 (N : Nat) (a0 : Nat) (σ : Sg) : Option (Int32 × Sg) :=
  if (sg_I σ a0 6) < (4) then
  (Option.bind (f_X6_takes N a0 (119) σ) fun p4 =>
  if (p4.1) = (0) then
  (f_X1_isClause_B104 N a0  (p4.2))
  else
  (Option.bind (sg_R (put_I p4.2 a0 6 ((sg_I p4.2 a0 6) + (1))) a0 5) fun b6 =>
  if (0 : Int32) < 0 ∨ ((4) * (sg_I p4.2 a0 6)) < 0 ∨ (4 : Int32) < 0 ∨ kn_ (5) < (0 : Int32).toNatClampNeg + (4 : Int32).toNatClampNeg ∨ sg_L (put_I p4.2 a0 6 ((sg_I p4.2 a0 6) + (1))) b6 < ((4) * (sg_I p4.2 a0 6)).toNatClampNeg + (4 : Int32).toNatClampNeg then none else
  Option.bind (f_X1_areItems N a0 (7) (3) (4) (sg_R (cpy_K (put_I p4.2 a0 6 ((sg_I p4.2 a0 6) + (1))) (5) b6 (0 : Int32).toNatClampNeg ((4) * (sg_I p4.2 a0 6)).toNatClampNeg (4 : Int32).toNatClampNeg) a0 5) ((4) * (sg_I p4.2 a0 6)) (cpy_K (put_I p4.2 a0 6 ((sg_I p4.2 a0 6) + (1))) (5) b6 (0 : Int32).toNatClampNeg ((4) * (sg_I p4.2 a0 6)).toNatClampNeg (4 : Int32).toNatClampNeg)) fun p8 =>
  some (p8.1, p8.2)))
  else
  (f_X1_isClause_B104 N a0  σ)
def f_X1_isClause (N : Nat) (a0 : Nat) (σ : Sg) : Option (Int32 × Sg) :=
  if (sg_I σ a0 4) = (0) then
  (Option.bind (f_X6_takes N a0 (115) σ) fun p9 =>
  if (p9.1) = (0) then
  (f_X1_isClause_B39 N a0  (p9.2))
  else
  (Option.bind (f_X1_areItems N a0 (6) (0) (1) (sg_R (put_I p9.2 a0 4 (1)) a0 3) (0) (put_I p9.2 a0 4 (1))) fun p11 =>
  some (p11.1, p11.2)))
  else
  (f_X1_isClause_B39 N a0  σ)
set_option maxHeartbeats 4000000 in
set_option maxRecDepth 100000 in
theorem t_X1_isClause_B104 {N : Nat} {a0 : Nat} {Γ : Gm} {σ0 : Sg} {r : (Int32 × Sg)} (C1 : CM Γ cX1_isClause RX1 2 (some .boolean) 6 141 0 0 (fun r_ τ_ => (r_ = some (vi r.1) ∧ (r.1 = 0 ∨ r.1 = 1)) ∧ τ_ = r.2 ∧ sg_T τ_ ∧ sg_E σ0 τ_)) (σ : Sg) (hT : sg_T σ) (hE : sg_E σ0 σ) (h0 : is_A σ a0 1) (hf : f_X1_isClause_B104 N a0   σ = some r) : J_ Γ 104 [(0, vr (some a0))] [] σ 0 0 := by
  have C0 := C1.1
  unfold f_X1_isClause_B104 at hf
  refine J_aload_n (q := 105) C0 0 rfl rfl dX1_isClause_104 rfl trivial ?_
  refine K_some hf (fun p3 hp3 hf => ?_)
  refine J_callU (q := 108) (ci := 1) (as := []) (rest := []) C0 rfl (h0) (t_X6_nextSign_k1 N a0  (hT) (h0)  hp3) rfl ml_X6_nextSign lk_X1_43 sa_551 im_X6_nextSign se_553 rfl (by decide) dX1_isClause_105 rfl rfl rfl (by simp [ac_]) C1.room (by decide) (by decide) (by decide) (by decide) (fun r_ τ_ hQ => ?_)
  obtain ⟨rfl, rfl, Tp3, Ep3⟩ := hQ
  show J_ Γ 108 [(0, vr (some a0))] [vi (p3.1)] p3.2 0 0
  refine J_pop (q := 109) C0 dX1_isClause_108 rfl rfl ?_
  refine J_iconst (q := 110) (v := 0) C0 dX1_isClause_109 rfl rfl ?_
  obtain rfl := Option.some.inj hf; exact J_zret C1 dX1_isClause_110 rfl (Or.inl rfl) (Nat.zero_le _) (Nat.zero_le _) ⟨⟨rfl, (Or.inl rfl)⟩, rfl, Tp3, (hE).tr Ep3⟩
set_option maxHeartbeats 4000000 in
set_option maxRecDepth 100000 in
theorem t_X1_isClause_B39 {N : Nat} {a0 : Nat} {Γ : Gm} {σ0 : Sg} {r : (Int32 × Sg)} (C1 : CM Γ cX1_isClause RX1 2 (some .boolean) 6 141 0 0 (fun r_ τ_ => (r_ = some (vi r.1) ∧ (r.1 = 0 ∨ r.1 = 1)) ∧ τ_ = r.2 ∧ sg_T τ_ ∧ sg_E σ0 τ_)) (σ : Sg) (hT : sg_T σ) (hE : sg_E σ0 σ) (h0 : is_A σ a0 1) (hf : f_X1_isClause_B39 N a0   σ = some r) : J_ Γ 39 [(0, vr (some a0))] [] σ 0 0 := by
  have C0 := C1.1
  unfold f_X1_isClause_B39 at hf
  refine J_aload_n (q := 40) C0 0 rfl rfl dX1_isClause_39 rfl trivial ?_
  refine J_getI (q := 43) C0 fl_X1_22_1 rfl (h0) rfl dX1_isClause_40 rfl ?_
  refine J_iconst (q := 44) (v := 4) C0 dX1_isClause_43 rfl rfl ?_
  refine J_icmp_ge (t := 104) (q := 47) C0 dX1_isClause_44 (by decide) rfl hf (fun c2 hf => ?_) (fun c2 hf => ?_)
  · exact t_X1_isClause_B104 C1     σ (hT) (hE) (h0)  hf
  · refine J_aload_n (q := 48) C0 0 rfl rfl dX1_isClause_47 rfl trivial ?_
    refine J_bipush (q := 50) (v := 119) C0 dX1_isClause_48 rfl rfl ?_
    refine K_some hf (fun p4 hp4 hf => ?_)
    refine J_callU (q := 53) (ci := 1) (as := [vi (119)]) (rest := []) C0 rfl (h0) (t_X6_takes_k1 N a0 (119) (hT) (h0)  hp4) rfl ml_X6_takes lk_X1_39 sa_519 im_X6_takes se_521 rfl (by decide) dX1_isClause_50 rfl rfl rfl (by simp [ac_]) C1.room (by decide) (by decide) (by decide) (by decide) (fun r_ τ_ hQ => ?_)
    obtain ⟨⟨rfl, zp4⟩, rfl, Tp4, Ep4⟩ := hQ
    show J_ Γ 53 [(0, vr (some a0))] [vi (p4.1)] p4.2 0 0
    refine J_if_eq (t := 104) (q := 56) C0 dX1_isClause_53 (by decide) rfl hf (fun c5 hf => ?_) (fun c5 hf => ?_)
    · exact t_X1_isClause_B104 C1     (p4.2) (Tp4) ((hE).tr Ep4) ((Ep4.at h0))  hf
    · refine J_iconst (q := 57) (v := 4) C0 dX1_isClause_56 rfl rfl ?_
      refine J_aload_n (q := 58) C0 0 rfl rfl dX1_isClause_57 rfl trivial ?_
      refine J_getI (q := 61) C0 fl_X1_22_1 rfl ((Ep4.at h0)) rfl dX1_isClause_58 rfl ?_
      refine J_imul (q := 62) C0 dX1_isClause_61 rfl ?_
      refine J_istore_n (q := 63) (lv' := [(1, vi ((4) * (sg_I p4.2 a0 6))), (0, vr (some a0))]) C0 rfl (G_nl C1 (by decide)) dX1_isClause_62 rfl rfl ?_
      refine J_aload_n (q := 64) C0 1 rfl rfl dX1_isClause_63 rfl trivial ?_
      refine J_dup (q := 65) C0 dX1_isClause_64 rfl rfl ?_
      refine J_getI (q := 68) C0 fl_X1_22_1 rfl ((Ep4.at h0)) rfl dX1_isClause_65 rfl ?_
      refine J_iconst (q := 69) (v := 1) C0 dX1_isClause_68 rfl rfl ?_
      refine J_iadd (q := 70) C0 dX1_isClause_69 rfl ?_
      refine J_putI (q := 73) C0 fl_X1_22_1 rfl ((Ep4.at h0)) rfl dX1_isClause_70 rfl ?_
      refine J_getsI (q := 76) (nm := "TRAIT_WITHOUT") (i := 5) C0 (by decide) (wt_in (i := 639) (by decide +kernel) rfl) dX1_isClause_73 rfl ?_
      refine J_iconst (q := 77) (v := 0) C0 dX1_isClause_76 rfl rfl ?_
      refine J_aload_n (q := 78) C0 1 rfl rfl dX1_isClause_77 rfl trivial ?_
      refine J_getR (q := 81) C0 fl_X1_19_1 rfl (((Ep4.at h0)).putI) rfl dX1_isClause_78 rfl ?_
      refine J_iload_n (q := 82) C0 0 rfl rfl dX1_isClause_81 rfl ?_
      refine J_iconst (q := 83) (v := 4) C0 dX1_isClause_82 rfl rfl ?_
      refine K_some hf (fun b6 hb6 hf => ?_)
      have ab6 : is_A (put_I p4.2 a0 6 ((sg_I p4.2 a0 6) + (1))) b6 12 := ((sg_T.op (Tp4).putI (j := 5) (((Ep4.at h0)).putI) rfl)) b6 hb6
      refine K_chk hf (fun c7 hf => ?_)
      refine J_copyK (q := 86) C0 (by omega) hb6 (ab6) c7 lk_X1_29 na_copy st_copy iz_sys dX1_isClause_83 rfl C1.room (by decide) (by simp [ac_, nativeFrameWords]) ?_
      refine J_aload_n (q := 87) C0 1 rfl rfl dX1_isClause_86 rfl trivial ?_
      refine J_ldcS (q := 89) (tx := "vbpr") (i := 7) C0 (by decide) dX1_isClause_87 rfl ?_
      refine J_getsI (q := 92) (nm := "TRAIT_LEAST") (i := 3) C0 (by decide) (wt_in (i := 642) (by decide +kernel) rfl) dX1_isClause_89 rfl ?_
      refine J_getsI (q := 95) (nm := "TRAIT_MOST") (i := 4) C0 (by decide) (wt_in (i := 644) (by decide +kernel) rfl) dX1_isClause_92 rfl ?_
      refine J_aload_n (q := 96) C0 1 rfl rfl dX1_isClause_95 rfl trivial ?_
      refine J_getR (q := 99) C0 fl_X1_19_1 rfl ((((Ep4.at h0)).putI).cpyK) rfl dX1_isClause_96 rfl ?_
      refine J_iload_n (q := 100) C0 0 rfl rfl dX1_isClause_99 rfl ?_
      refine K_some hf (fun p8 hp8 hf => ?_)
      refine J_callV (q := 103) (ci := 1) (as := [vk (7), vk (3), vk (4), vr (sg_R (cpy_K (put_I p4.2 a0 6 ((sg_I p4.2 a0 6) + (1))) (5) b6 (0 : Int32).toNatClampNeg ((4) * (sg_I p4.2 a0 6)).toNatClampNeg (4 : Int32).toNatClampNeg) a0 5), vi ((4) * (sg_I p4.2 a0 6))]) (rest := []) C0 rfl ((((Ep4.at h0)).putI).cpyK) (t_X1_areItems N a0 (7) (3) (4) (sg_R (cpy_K (put_I p4.2 a0 6 ((sg_I p4.2 a0 6) + (1))) (5) b6 (0 : Int32).toNatClampNeg ((4) * (sg_I p4.2 a0 6)).toNatClampNeg (4 : Int32).toNatClampNeg) a0 5) ((4) * (sg_I p4.2 a0 6)) (((Tp4).putI).cpyK) ((((Ep4.at h0)).putI).cpyK) (by omega) (by omega) (by omega) ((sg_T.op ((Tp4).putI).cpyK (j := 5) ((((Ep4.at h0)).putI).cpyK) rfl)) hp8) ml_X1_areItems lk_X1_55 im_X1_areItems se_X1_areItems rfl (by decide) dX1_isClause_100 rfl rfl rfl (by simp [ac_]) C1.room (by decide) (by decide) (by decide) (by decide) (fun r_ τ_ hQ => ?_)
      obtain ⟨⟨rfl, zp8⟩, rfl, Tp8, Ep8⟩ := hQ
      show J_ Γ 103 [(1, vi ((4) * (sg_I p4.2 a0 6))), (0, vr (some a0))] [vi (p8.1)] p8.2 0 0
      obtain rfl := Option.some.inj hf; exact J_zret C1 dX1_isClause_103 rfl zp8 (Nat.zero_le _) (Nat.zero_le _) ⟨⟨rfl, zp8⟩, rfl, Tp8, ((((hE).tr Ep4).putI).cpyK).tr Ep8⟩
set_option maxHeartbeats 4000000 in
set_option maxRecDepth 100000 in
theorem t_X1_isClause (N : Nat) (a0 : Nat) {σ : Sg} (hT : sg_T σ) (h0 : is_A σ a0 1) {r : (Int32 × Sg)} (hf : f_X1_isClause N a0  σ = some r) : Ct yX1_isClause cX1_isClause 2 (some .boolean) 6 141 0 0 [vr (some a0)] σ (fun r_ τ_ => (r_ = some (vi r.1) ∧ (r.1 = 0 ∨ r.1 = 1)) ∧ τ_ = r.2 ∧ sg_T τ_ ∧ sg_E σ τ_) := by
  refine Ct.of (by decide +kernel) (Nat.le_of_ble_eq_true rfl) (fun Γ C1 => ?_)
  have C0 := C1.1
  have hE : sg_E σ σ := sg_E.rf
  unfold f_X1_isClause at hf
  show J_ Γ 0 [(0, vr (some a0))] [] σ 0 0
  refine J_aload_n (q := 1) C0 0 rfl rfl dX1_isClause_0 rfl trivial ?_
  refine J_getI (q := 4) C0 fl_X1_15_1 rfl (h0) rfl dX1_isClause_1 rfl ?_
  refine J_if_ne (t := 39) (q := 7) C0 dX1_isClause_4 (by decide) rfl hf (fun c1 hf => ?_) (fun c1 hf => ?_)
  · exact t_X1_isClause_B39 C1     σ (hT) (hE) (h0)  hf
  · refine J_aload_n (q := 8) C0 0 rfl rfl dX1_isClause_7 rfl trivial ?_
    refine J_bipush (q := 10) (v := 115) C0 dX1_isClause_8 rfl rfl ?_
    refine K_some hf (fun p9 hp9 hf => ?_)
    refine J_callU (q := 13) (ci := 1) (as := [vi (115)]) (rest := []) C0 rfl (h0) (t_X6_takes_k1 N a0 (115) (hT) (h0)  hp9) rfl ml_X6_takes lk_X1_39 sa_519 im_X6_takes se_521 rfl (by decide) dX1_isClause_10 rfl rfl rfl (by simp [ac_]) C1.room (by decide) (by decide) (by decide) (by decide) (fun r_ τ_ hQ => ?_)
    obtain ⟨⟨rfl, zp9⟩, rfl, Tp9, Ep9⟩ := hQ
    show J_ Γ 13 [(0, vr (some a0))] [vi (p9.1)] p9.2 0 0
    refine J_if_eq (t := 39) (q := 16) C0 dX1_isClause_13 (by decide) rfl hf (fun c10 hf => ?_) (fun c10 hf => ?_)
    · exact t_X1_isClause_B39 C1     (p9.2) (Tp9) ((hE).tr Ep9) ((Ep9.at h0))  hf
    · refine J_aload_n (q := 17) C0 0 rfl rfl dX1_isClause_16 rfl trivial ?_
      refine J_iconst (q := 18) (v := 1) C0 dX1_isClause_17 rfl rfl ?_
      refine J_putZ (q := 21) C0 (Or.inr rfl) fl_X1_15_1 rfl ((Ep9.at h0)) rfl dX1_isClause_18 rfl ?_
      refine J_aload_n (q := 22) C0 0 rfl rfl dX1_isClause_21 rfl trivial ?_
      refine J_ldcS (q := 24) (tx := "fok") (i := 6) C0 (by decide) dX1_isClause_22 rfl ?_
      refine J_getsI (q := 27) (nm := "RULE_LEAST") (i := 0) C0 (by decide) (wt_in (i := 532) (by decide +kernel) rfl) dX1_isClause_24 rfl ?_
      refine J_getsI (q := 30) (nm := "RULE_MOST") (i := 1) C0 (by decide) (wt_in (i := 534) (by decide +kernel) rfl) dX1_isClause_27 rfl ?_
      refine J_aload_n (q := 31) C0 0 rfl rfl dX1_isClause_30 rfl trivial ?_
      refine J_getR (q := 34) C0 fl_X1_9_1 rfl (((Ep9.at h0)).putI) rfl dX1_isClause_31 rfl ?_
      refine J_iconst (q := 35) (v := 0) C0 dX1_isClause_34 rfl rfl ?_
      refine K_some hf (fun p11 hp11 hf => ?_)
      refine J_callV (q := 38) (ci := 1) (as := [vk (6), vk (0), vk (1), vr (sg_R (put_I p9.2 a0 4 (1)) a0 3), vi (0)]) (rest := []) C0 rfl (((Ep9.at h0)).putI) (t_X1_areItems N a0 (6) (0) (1) (sg_R (put_I p9.2 a0 4 (1)) a0 3) (0) ((Tp9).putI) (((Ep9.at h0)).putI) (by omega) (by omega) (by omega) ((sg_T.op (Tp9).putI (j := 3) (((Ep9.at h0)).putI) rfl)) hp11) ml_X1_areItems lk_X1_55 im_X1_areItems se_X1_areItems rfl (by decide) dX1_isClause_35 rfl rfl rfl (by simp [ac_]) C1.room (by decide) (by decide) (by decide) (by decide) (fun r_ τ_ hQ => ?_)
      obtain ⟨⟨rfl, zp11⟩, rfl, Tp11, Ep11⟩ := hQ
      show J_ Γ 38 [(0, vr (some a0))] [vi (p11.1)] p11.2 0 0
      obtain rfl := Option.some.inj hf; exact J_zret C1 dX1_isClause_38 rfl zp11 (Nat.zero_le _) (Nat.zero_le _) ⟨⟨rfl, zp11⟩, rfl, Tp11, (((hE).tr Ep9).putI).tr Ep11⟩
def f_X1_isWhole_L25 (N : Nat) (a0 : Nat) : Nat → Int32 → Sg → Option (Int32 × Sg)
  | 0, _, _ => none
  | n + 1, v1, σ =>
  if (240) < (v1) then
  (some (0, σ))
  else
  (Option.bind (f_X1_isClause N a0  σ) fun p4 =>
  if (p4.1) = (0) then
  (some (0, p4.2))
  else
  (Option.bind (f_X6_takes N a0 (59) p4.2) fun p6 =>
  if (p6.1) = (0) then
  (Option.bind (f_X6_nextSign N a0  p6.2) fun p8 =>
  if (p8.1) = ((-1)) then
  (if (0) < (sg_I p8.2 a0 6) then
  (some (1, p8.2))
  else
  (some (0, p8.2)))
  else
  (some (0, p8.2)))
  else
  (f_X1_isWhole_L25 N a0 n (v1 + 1) (p6.2))))
def f_X1_isWhole (N : Nat) (a0 : Nat) (σ : Sg) : Option (Int32 × Sg) :=
  Option.bind (sg_R σ a0 3) fun b1 =>
  if (0 : Int32) < 0 ∨ (0 : Int32) < 0 ∨ (3 : Int32) < 0 ∨ kn_ (2) < (0 : Int32).toNatClampNeg + (3 : Int32).toNatClampNeg ∨ sg_L σ b1 < (0 : Int32).toNatClampNeg + (3 : Int32).toNatClampNeg then none else
  f_X1_isWhole_L25 N a0 N (0) (put_I (put_I (cpy_K σ (2) b1 (0 : Int32).toNatClampNeg (0 : Int32).toNatClampNeg (3 : Int32).toNatClampNeg) a0 4 (0)) a0 6 (0))
set_option maxHeartbeats 4000000 in
set_option maxRecDepth 100000 in
theorem t_X1_isWhole_L25 {N : Nat} {a0 : Nat} {Γ : Gm} {σ0 : Sg} {r : (Int32 × Sg)} (C1 : CM Γ cX1_isWhole RX1 2 (some .boolean) 7 162 0 0 (fun r_ τ_ => (r_ = some (vi r.1) ∧ (r.1 = 0 ∨ r.1 = 1)) ∧ τ_ = r.2 ∧ sg_T τ_ ∧ sg_E σ0 τ_)) : ∀ (n : Nat) (v1 : Int32) (σ : Sg), sg_T σ → sg_E σ0 σ → is_A σ a0 1 → f_X1_isWhole_L25 N a0  n v1 σ = some r → J_ Γ 25 [(0, vr (some a0)), (1, vi (v1))] [] σ 0 0 := by
  have C0 := C1.1
  intro n
  induction n with
  | zero => intro v1 σ hT hE h0  hf; unfold f_X1_isWhole_L25 at hf; cases hf
  | succ n ih =>
    intro v1 σ hT hE h0  hf
    rw [f_X1_isWhole_L25] at hf
    refine J_iload_n (q := 26) C0 1 rfl rfl dX1_isWhole_25 rfl ?_
    refine J_sipush (q := 29) (v := 240) C0 dX1_isWhole_26 rfl rfl ?_
    refine J_icmp_gt (t := 77) (q := 32) C0 dX1_isWhole_29 (by decide) rfl hf (fun c3 hf => ?_) (fun c3 hf => ?_)
    · refine J_iconst (q := 78) (v := 0) C0 dX1_isWhole_77 rfl rfl ?_
      obtain rfl := Option.some.inj hf; exact J_zret C1 dX1_isWhole_78 rfl (Or.inl rfl) (Nat.zero_le _) (Nat.zero_le _) ⟨⟨rfl, (Or.inl rfl)⟩, rfl, hT, hE⟩
    · refine J_aload_n (q := 33) C0 0 rfl rfl dX1_isWhole_32 rfl trivial ?_
      refine K_some hf (fun p4 hp4 hf => ?_)
      refine J_callV (q := 36) (ci := 1) (as := []) (rest := []) C0 rfl (h0) (t_X1_isClause N a0  (hT) (h0)  hp4) ml_X1_isClause lk_X1_35 im_X1_isClause se_X1_isClause rfl (by decide) dX1_isWhole_33 rfl rfl rfl (by simp [ac_]) C1.room (by decide) (by decide) (by decide) (by decide) (fun r_ τ_ hQ => ?_)
      obtain ⟨⟨rfl, zp4⟩, rfl, Tp4, Ep4⟩ := hQ
      show J_ Γ 36 [(0, vr (some a0)), (1, vi (v1))] [vi (p4.1)] p4.2 0 0
      refine J_if_ne (t := 41) (q := 39) C0 dX1_isWhole_36 (by decide) rfl hf (fun c5 hf => ?_) (fun c5 hf => ?_)
      · refine J_aload_n (q := 42) C0 0 rfl rfl dX1_isWhole_41 rfl trivial ?_
        refine J_bipush (q := 44) (v := 59) C0 dX1_isWhole_42 rfl rfl ?_
        refine K_some hf (fun p6 hp6 hf => ?_)
        refine J_callU (q := 47) (ci := 1) (as := [vi (59)]) (rest := []) C0 rfl ((Ep4.at h0)) (t_X6_takes_k1 N a0 (59) (Tp4) ((Ep4.at h0))  hp6) rfl ml_X6_takes lk_X1_39 sa_519 im_X6_takes se_521 rfl (by decide) dX1_isWhole_44 rfl rfl rfl (by simp [ac_]) C1.room (by decide) (by decide) (by decide) (by decide) (fun r_ τ_ hQ => ?_)
        obtain ⟨⟨rfl, zp6⟩, rfl, Tp6, Ep6⟩ := hQ
        show J_ Γ 47 [(0, vr (some a0)), (1, vi (v1))] [vi (p6.1)] p6.2 0 0
        refine J_if_ne (t := 71) (q := 50) C0 dX1_isWhole_47 (by decide) rfl hf (fun c7 hf => ?_) (fun c7 hf => ?_)
        · refine J_iinc (q := 74) (v := v1 + 1) (lv' := [(1, vi (v1 + 1)), (0, vr (some a0))]) C0 1 rfl rfl (G_nl C1 (by decide)) dX1_isWhole_71 rfl rfl ?_
          refine J_goto (q := 25) C0 dX1_isWhole_74 (by decide) ?_
          refine J_sub (lv' := [(0, vr (some a0)), (1, vi (v1 + 1))]) [1, 0] rfl ?_
          exact ih (v1 + 1) (p6.2) (Tp6) (((hE).tr Ep4).tr Ep6) ((Ep6.at (Ep4.at h0)))  hf
        · refine J_aload_n (q := 51) C0 0 rfl rfl dX1_isWhole_50 rfl trivial ?_
          refine K_some hf (fun p8 hp8 hf => ?_)
          refine J_callU (q := 54) (ci := 1) (as := []) (rest := []) C0 rfl ((Ep6.at (Ep4.at h0))) (t_X6_nextSign_k1 N a0  (Tp6) ((Ep6.at (Ep4.at h0)))  hp8) rfl ml_X6_nextSign lk_X1_43 sa_551 im_X6_nextSign se_553 rfl (by decide) dX1_isWhole_51 rfl rfl rfl (by simp [ac_]) C1.room (by decide) (by decide) (by decide) (by decide) (fun r_ τ_ hQ => ?_)
          obtain ⟨rfl, rfl, Tp8, Ep8⟩ := hQ
          show J_ Γ 54 [(0, vr (some a0)), (1, vi (v1))] [vi (p8.1)] p8.2 0 0
          refine J_iconst (q := 55) (v := (-1)) C0 dX1_isWhole_54 rfl rfl ?_
          refine J_icmp_ne (t := 69) (q := 58) C0 dX1_isWhole_55 (by decide) rfl hf (fun c9 hf => ?_) (fun c9 hf => ?_)
          · refine J_iconst (q := 70) (v := 0) C0 dX1_isWhole_69 rfl rfl ?_
            obtain rfl := Option.some.inj hf; exact J_zret C1 dX1_isWhole_70 rfl (Or.inl rfl) (Nat.zero_le _) (Nat.zero_le _) ⟨⟨rfl, (Or.inl rfl)⟩, rfl, Tp8, (((hE).tr Ep4).tr Ep6).tr Ep8⟩
          · refine J_aload_n (q := 59) C0 0 rfl rfl dX1_isWhole_58 rfl trivial ?_
            refine J_getI (q := 62) C0 fl_X1_22_1 rfl ((Ep8.at (Ep6.at (Ep4.at h0)))) rfl dX1_isWhole_59 rfl ?_
            refine J_if_le (t := 69) (q := 65) C0 dX1_isWhole_62 (by decide) rfl hf (fun c10 hf => ?_) (fun c10 hf => ?_)
            · refine J_iconst (q := 70) (v := 0) C0 dX1_isWhole_69 rfl rfl ?_
              obtain rfl := Option.some.inj hf; exact J_zret C1 dX1_isWhole_70 rfl (Or.inl rfl) (Nat.zero_le _) (Nat.zero_le _) ⟨⟨rfl, (Or.inl rfl)⟩, rfl, Tp8, (((hE).tr Ep4).tr Ep6).tr Ep8⟩
            · refine J_iconst (q := 66) (v := 1) C0 dX1_isWhole_65 rfl rfl ?_
              refine J_goto (q := 70) C0 dX1_isWhole_66 (by decide) ?_
              obtain rfl := Option.some.inj hf; exact J_zret C1 dX1_isWhole_70 rfl (Or.inr rfl) (Nat.zero_le _) (Nat.zero_le _) ⟨⟨rfl, (Or.inr rfl)⟩, rfl, Tp8, (((hE).tr Ep4).tr Ep6).tr Ep8⟩
      · refine J_iconst (q := 40) (v := 0) C0 dX1_isWhole_39 rfl rfl ?_
        obtain rfl := Option.some.inj hf; exact J_zret C1 dX1_isWhole_40 rfl (Or.inl rfl) (Nat.zero_le _) (Nat.zero_le _) ⟨⟨rfl, (Or.inl rfl)⟩, rfl, Tp4, (hE).tr Ep4⟩
set_option maxHeartbeats 4000000 in
set_option maxRecDepth 100000 in
theorem t_X1_isWhole (N : Nat) (a0 : Nat) {σ : Sg} (hT : sg_T σ) (h0 : is_A σ a0 1) {r : (Int32 × Sg)} (hf : f_X1_isWhole N a0  σ = some r) : Ct yX1_isWhole cX1_isWhole 2 (some .boolean) 7 162 0 0 [vr (some a0)] σ (fun r_ τ_ => (r_ = some (vi r.1) ∧ (r.1 = 0 ∨ r.1 = 1)) ∧ τ_ = r.2 ∧ sg_T τ_ ∧ sg_E σ τ_) := by
  refine Ct.of (by decide +kernel) (Nat.le_of_ble_eq_true rfl) (fun Γ C1 => ?_)
  have C0 := C1.1
  have hE : sg_E σ σ := sg_E.rf
  unfold f_X1_isWhole at hf
  show J_ Γ 0 [(0, vr (some a0))] [] σ 0 0
  refine J_getsI (q := 3) (nm := "RULE_WITHOUT") (i := 2) C0 (by decide) (wt_in (i := 509) (by decide +kernel) rfl) dX1_isWhole_0 rfl ?_
  refine J_iconst (q := 4) (v := 0) C0 dX1_isWhole_3 rfl rfl ?_
  refine J_aload_n (q := 5) C0 0 rfl rfl dX1_isWhole_4 rfl trivial ?_
  refine J_getR (q := 8) C0 fl_X1_9_1 rfl (h0) rfl dX1_isWhole_5 rfl ?_
  refine J_iconst (q := 9) (v := 0) C0 dX1_isWhole_8 rfl rfl ?_
  refine J_iconst (q := 10) (v := 3) C0 dX1_isWhole_9 rfl rfl ?_
  refine K_some hf (fun b1 hb1 hf => ?_)
  have ab1 : is_A σ b1 12 := ((sg_T.op hT (j := 3) (h0) rfl)) b1 hb1
  refine K_chk hf (fun c2 hf => ?_)
  refine J_copyK (q := 13) C0 (by omega) hb1 (ab1) c2 lk_X1_29 na_copy st_copy iz_sys dX1_isWhole_10 rfl C1.room (by decide) (by simp [ac_, nativeFrameWords]) ?_
  refine J_aload_n (q := 14) C0 0 rfl rfl dX1_isWhole_13 rfl trivial ?_
  refine J_iconst (q := 15) (v := 0) C0 dX1_isWhole_14 rfl rfl ?_
  refine J_putZ (q := 18) C0 (Or.inl rfl) fl_X1_15_1 rfl ((h0).cpyK) rfl dX1_isWhole_15 rfl ?_
  refine J_aload_n (q := 19) C0 0 rfl rfl dX1_isWhole_18 rfl trivial ?_
  refine J_iconst (q := 20) (v := 0) C0 dX1_isWhole_19 rfl rfl ?_
  refine J_putI (q := 23) C0 fl_X1_22_1 rfl (((h0).cpyK).putI) rfl dX1_isWhole_20 rfl ?_
  refine J_iconst (q := 24) (v := 0) C0 dX1_isWhole_23 rfl rfl ?_
  refine J_istore_n (q := 25) (lv' := [(1, vi (0)), (0, vr (some a0))]) C0 rfl (G_nl C1 (by decide)) dX1_isWhole_24 rfl rfl ?_
  refine J_sub (lv' := [(0, vr (some a0)), (1, vi (0))]) [1, 0] rfl ?_
  exact t_X1_isWhole_L25 C1    N (0) (put_I (put_I (cpy_K σ (2) b1 (0 : Int32).toNatClampNeg (0 : Int32).toNatClampNeg (3 : Int32).toNatClampNeg) a0 4 (0)) a0 6 (0)) ((((hT).cpyK).putI).putI) ((((hE).cpyK).putI).putI) ((((h0).cpyK).putI).putI)  hf
def f_X1_tell_B102 (N : Nat) (a0 : Nat) (k50 : Option Nat → Int32 → Sg → Option Sg) (v1 : Option Nat) (v2 : Int32) (v3 : Option Nat) (s0 : Int32) (s1 : Option Nat) (σ : Sg) : Option Sg :=
  Option.bind (s1) fun b19 =>
  if ¬ ((s0) = 0 ∨ (s0) = 1) then none else
  Option.bind (sg_R (put_I σ b19 1 (s0)) a0 5) fun b21 =>
  if (((4) * (v2)) + (2)) < 0 ∨ sg_L (put_I σ b19 1 (s0)) b21 ≤ (((4) * (v2)) + (2)).toNatClampNeg then none else
  Option.bind (v3) fun b23 =>
  Option.bind (sg_R (put_I (put_I σ b19 1 (s0)) b23 2 (sg_I (put_I σ b19 1 (s0)) b21 (((4) * (v2)) + (2)).toNatClampNeg)) a0 5) fun b24 =>
  if (((4) * (v2)) + (3)) < 0 ∨ sg_L (put_I (put_I σ b19 1 (s0)) b23 2 (sg_I (put_I σ b19 1 (s0)) b21 (((4) * (v2)) + (2)).toNatClampNeg)) b24 ≤ (((4) * (v2)) + (3)).toNatClampNeg then none else
  k50 (v1) (v2 + 1) (put_I (put_I (put_I σ b19 1 (s0)) b23 2 (sg_I (put_I σ b19 1 (s0)) b21 (((4) * (v2)) + (2)).toNatClampNeg)) b23 3 (sg_I (put_I (put_I σ b19 1 (s0)) b23 2 (sg_I (put_I σ b19 1 (s0)) b21 (((4) * (v2)) + (2)).toNatClampNeg)) b24 (((4) * (v2)) + (3)).toNatClampNeg))
def f_X1_tell_L50 (N : Nat) (a0 : Nat) : Nat → Option Nat → Int32 → Sg → Option Sg
  | 0, _, _, _ => none
  | n + 1, v1, v2, σ =>
  if (v2) < (sg_I σ a0 6) then
  (if (v2) < (4) then
  (Option.bind (v1) fun b10 =>
  Option.bind (sg_R σ b10 0) fun b11 =>
  if (v2) < 0 ∨ sg_L σ b11 ≤ (v2).toNatClampNeg then none else
  Option.bind (sg_R σ a0 5) fun b13 =>
  if ((4) * (v2)) < 0 ∨ sg_L σ b13 ≤ ((4) * (v2)).toNatClampNeg then none else
  Option.bind (sg_R σ b11 (v2).toNatClampNeg) fun b15 =>
  Option.bind (sg_R (put_I σ b15 0 (sg_I σ b13 ((4) * (v2)).toNatClampNeg)) a0 5) fun b16 =>
  if (((4) * (v2)) + (1)) < 0 ∨ sg_L (put_I σ b15 0 (sg_I σ b13 ((4) * (v2)).toNatClampNeg)) b16 ≤ (((4) * (v2)) + (1)).toNatClampNeg then none else
  if (sg_I (put_I σ b15 0 (sg_I σ b13 ((4) * (v2)).toNatClampNeg)) b16 (((4) * (v2)) + (1)).toNatClampNeg) = (1) then
  (f_X1_tell_B102 N a0 (f_X1_tell_L50 N a0 n) (v1) (v2) (sg_R σ b11 (v2).toNatClampNeg) (1) (sg_R σ b11 (v2).toNatClampNeg) (put_I σ b15 0 (sg_I σ b13 ((4) * (v2)).toNatClampNeg)))
  else
  (f_X1_tell_B102 N a0 (f_X1_tell_L50 N a0 n) (v1) (v2) (sg_R σ b11 (v2).toNatClampNeg) (0) (sg_R σ b11 (v2).toNatClampNeg) (put_I σ b15 0 (sg_I σ b13 ((4) * (v2)).toNatClampNeg))))
  else
  (some (σ)))
  else
  (some (σ))
def f_X1_tell (N : Nat) (a0 : Nat) (e1 : Option Nat) (σ : Sg) : Option Sg :=
  Option.bind (sg_R σ a0 3) fun b1 =>
  if (0 : Int32) < 0 ∨ sg_L σ b1 ≤ (0 : Int32).toNatClampNeg then none else
  Option.bind (e1) fun b3 =>
  Option.bind (sg_R (put_I σ b3 2 (sg_I σ b1 (0 : Int32).toNatClampNeg)) a0 3) fun b4 =>
  if (1 : Int32) < 0 ∨ sg_L (put_I σ b3 2 (sg_I σ b1 (0 : Int32).toNatClampNeg)) b4 ≤ (1 : Int32).toNatClampNeg then none else
  Option.bind (sg_R (put_I (put_I σ b3 2 (sg_I σ b1 (0 : Int32).toNatClampNeg)) b3 3 (sg_I (put_I σ b3 2 (sg_I σ b1 (0 : Int32).toNatClampNeg)) b4 (1 : Int32).toNatClampNeg)) a0 3) fun b6 =>
  if (2 : Int32) < 0 ∨ sg_L (put_I (put_I σ b3 2 (sg_I σ b1 (0 : Int32).toNatClampNeg)) b3 3 (sg_I (put_I σ b3 2 (sg_I σ b1 (0 : Int32).toNatClampNeg)) b4 (1 : Int32).toNatClampNeg)) b6 ≤ (2 : Int32).toNatClampNeg then none else
  f_X1_tell_L50 N a0 N (e1) (0) (put_I (put_I (put_I (put_I (put_I (put_I σ b3 2 (sg_I σ b1 (0 : Int32).toNatClampNeg)) b3 3 (sg_I (put_I σ b3 2 (sg_I σ b1 (0 : Int32).toNatClampNeg)) b4 (1 : Int32).toNatClampNeg)) b3 4 (sg_I (put_I (put_I σ b3 2 (sg_I σ b1 (0 : Int32).toNatClampNeg)) b3 3 (sg_I (put_I σ b3 2 (sg_I σ b1 (0 : Int32).toNatClampNeg)) b4 (1 : Int32).toNatClampNeg)) b6 (2 : Int32).toNatClampNeg)) b3 5 (0)) b3 7 (0)) b3 1 (sg_I (put_I (put_I (put_I (put_I (put_I σ b3 2 (sg_I σ b1 (0 : Int32).toNatClampNeg)) b3 3 (sg_I (put_I σ b3 2 (sg_I σ b1 (0 : Int32).toNatClampNeg)) b4 (1 : Int32).toNatClampNeg)) b3 4 (sg_I (put_I (put_I σ b3 2 (sg_I σ b1 (0 : Int32).toNatClampNeg)) b3 3 (sg_I (put_I σ b3 2 (sg_I σ b1 (0 : Int32).toNatClampNeg)) b4 (1 : Int32).toNatClampNeg)) b6 (2 : Int32).toNatClampNeg)) b3 5 (0)) b3 7 (0)) a0 6))
set_option maxHeartbeats 4000000 in
set_option maxRecDepth 100000 in
theorem t_X1_tell_B102 {N : Nat} {a0 : Nat} {Γ : Gm} {σ0 : Sg} {r : Sg} (C1 : CM Γ cX1_tell RX1 4 none 0 0 0 0 (fun r_ τ_ => (r_ = none) ∧ τ_ = r ∧ sg_T τ_ ∧ sg_E σ0 τ_)) (k50 : Option Nat → Int32 → Sg → Option Sg) (hk50 : ∀ (v1 : Option Nat) (v2 : Int32) (σ : Sg), sg_T σ → sg_E σ0 σ → is_A σ a0 1 → is_O σ v1 6 → k50 v1 v2 σ = some r → J_ Γ 50 [(0, vr (some a0)), (1, vr v1), (2, vi v2)] [] σ 0 0) (v1 : Option Nat) (v2 : Int32) (v3 : Option Nat) (s0 : Int32) (s1 : Option Nat) (σ : Sg) (hT : sg_T σ) (hE : sg_E σ0 σ) (h0 : is_A σ a0 1) (g_v1 : is_O σ v1 6) (g_v3 : is_O σ v3 9) (g_s1 : is_O σ s1 9) (hf : f_X1_tell_B102 N a0 k50  v1 v2 v3 s0 s1 σ = some r) : J_ Γ 102 [(0, vr (some a0)), (1, vr (v1)), (2, vi (v2)), (3, vr (v3))] [vi (s0), vr (s1)] σ 0 0 := by
  have C0 := C1.1
  unfold f_X1_tell_B102 at hf
  refine K_some hf (fun b19 hb19 hf => ?_)
  have ab19 : is_A σ b19 9 := (g_s1) b19 hb19
  refine K_chk hf (fun c20 hf => ?_)
  refine J_putZ (q := 105) C0 (Decidable.not_not.mp c20) fl_X1_114_9 hb19 (ab19) rfl dX1_tell_102 rfl ?_
  refine J_aload_n (q := 106) C0 3 rfl rfl dX1_tell_105 rfl trivial ?_
  refine J_aload_n (q := 107) C0 0 rfl rfl dX1_tell_106 rfl trivial ?_
  refine J_getR (q := 110) C0 fl_X1_19_1 rfl ((h0).putI) rfl dX1_tell_107 rfl ?_
  refine J_iconst (q := 111) (v := 4) C0 dX1_tell_110 rfl rfl ?_
  refine J_iload_n (q := 112) C0 2 rfl rfl dX1_tell_111 rfl ?_
  refine J_imul (q := 113) C0 dX1_tell_112 rfl ?_
  refine J_iconst (q := 114) (v := 2) C0 dX1_tell_113 rfl rfl ?_
  refine J_iadd (q := 115) C0 dX1_tell_114 rfl ?_
  refine K_some hf (fun b21 hb21 hf => ?_)
  have ab21 : is_A (put_I σ b19 1 (s0)) b21 12 := ((sg_T.op (hT).putI (j := 5) ((h0).putI) rfl)) b21 hb21
  refine K_chk hf (fun c22 hf => ?_)
  refine J_iald (q := 116) C0 hb21 (ab21) c22 dX1_tell_115 rfl ?_
  refine K_some hf (fun b23 hb23 hf => ?_)
  have ab23 : is_A (put_I σ b19 1 (s0)) b23 9 := ((fun b_ h_ => (g_v3 b_ h_).putI)) b23 hb23
  refine J_putI (q := 119) C0 fl_X1_117_9 hb23 (ab23) rfl dX1_tell_116 rfl ?_
  refine J_aload_n (q := 120) C0 3 rfl rfl dX1_tell_119 rfl trivial ?_
  refine J_aload_n (q := 121) C0 0 rfl rfl dX1_tell_120 rfl trivial ?_
  refine J_getR (q := 124) C0 fl_X1_19_1 rfl (((h0).putI).putI) rfl dX1_tell_121 rfl ?_
  refine J_iconst (q := 125) (v := 4) C0 dX1_tell_124 rfl rfl ?_
  refine J_iload_n (q := 126) C0 2 rfl rfl dX1_tell_125 rfl ?_
  refine J_imul (q := 127) C0 dX1_tell_126 rfl ?_
  refine J_iconst (q := 128) (v := 3) C0 dX1_tell_127 rfl rfl ?_
  refine J_iadd (q := 129) C0 dX1_tell_128 rfl ?_
  refine K_some hf (fun b24 hb24 hf => ?_)
  have ab24 : is_A (put_I (put_I σ b19 1 (s0)) b23 2 (sg_I (put_I σ b19 1 (s0)) b21 (((4) * (v2)) + (2)).toNatClampNeg)) b24 12 := ((sg_T.op ((hT).putI).putI (j := 5) (((h0).putI).putI) rfl)) b24 hb24
  refine K_chk hf (fun c25 hf => ?_)
  refine J_iald (q := 130) C0 hb24 (ab24) c25 dX1_tell_129 rfl ?_
  refine J_putI (q := 133) C0 fl_X1_120_9 hb23 ((ab23).putI) rfl dX1_tell_130 rfl ?_
  refine J_iinc (q := 136) (v := v2 + 1) (lv' := [(2, vi (v2 + 1)), (0, vr (some a0)), (1, vr (v1)), (3, vr (v3))]) C0 2 rfl rfl (G_nl C1 (by decide)) dX1_tell_133 rfl rfl ?_
  refine J_goto (q := 50) C0 dX1_tell_136 (by decide) ?_
  refine J_sub (lv' := [(0, vr (some a0)), (1, vr (v1)), (2, vi (v2 + 1))]) [1, 2, 0] rfl ?_
  exact hk50 (v1) (v2 + 1) (put_I (put_I (put_I σ b19 1 (s0)) b23 2 (sg_I (put_I σ b19 1 (s0)) b21 (((4) * (v2)) + (2)).toNatClampNeg)) b23 3 (sg_I (put_I (put_I σ b19 1 (s0)) b23 2 (sg_I (put_I σ b19 1 (s0)) b21 (((4) * (v2)) + (2)).toNatClampNeg)) b24 (((4) * (v2)) + (3)).toNatClampNeg)) ((((hT).putI).putI).putI) ((((hE).putI).putI).putI)  ((((h0).putI).putI).putI) ((fun b_ h_ => ((fun b_ h_ => ((fun b_ h_ => (g_v1 b_ h_).putI) b_ h_).putI) b_ h_).putI)) hf
set_option maxHeartbeats 4000000 in
set_option maxRecDepth 100000 in
theorem t_X1_tell_L50 {N : Nat} {a0 : Nat} {Γ : Gm} {σ0 : Sg} {r : Sg} (C1 : CM Γ cX1_tell RX1 4 none 0 0 0 0 (fun r_ τ_ => (r_ = none) ∧ τ_ = r ∧ sg_T τ_ ∧ sg_E σ0 τ_)) : ∀ (n : Nat) (v1 : Option Nat) (v2 : Int32) (σ : Sg), sg_T σ → sg_E σ0 σ → is_A σ a0 1 → is_O σ v1 6 → f_X1_tell_L50 N a0  n v1 v2 σ = some r → J_ Γ 50 [(0, vr (some a0)), (1, vr (v1)), (2, vi (v2))] [] σ 0 0 := by
  have C0 := C1.1
  intro n
  induction n with
  | zero => intro v1 v2 σ hT hE h0 g_v1 hf; unfold f_X1_tell_L50 at hf; cases hf
  | succ n ih =>
    intro v1 v2 σ hT hE h0 g_v1 hf
    rw [f_X1_tell_L50] at hf
    refine J_iload_n (q := 51) C0 2 rfl rfl dX1_tell_50 rfl ?_
    refine J_aload_n (q := 52) C0 0 rfl rfl dX1_tell_51 rfl trivial ?_
    refine J_getI (q := 55) C0 fl_X1_22_1 rfl (h0) rfl dX1_tell_52 rfl ?_
    refine J_icmp_ge (t := 139) (q := 58) C0 dX1_tell_55 (by decide) rfl hf (fun c8 hf => ?_) (fun c8 hf => ?_)
    · obtain rfl := Option.some.inj hf; exact J_vret C1 dX1_tell_139 rfl (Nat.zero_le _) (Nat.zero_le _) ⟨rfl, rfl, hT, hE⟩
    · refine J_iload_n (q := 59) C0 2 rfl rfl dX1_tell_58 rfl ?_
      refine J_iconst (q := 60) (v := 4) C0 dX1_tell_59 rfl rfl ?_
      refine J_icmp_ge (t := 139) (q := 63) C0 dX1_tell_60 (by decide) rfl hf (fun c9 hf => ?_) (fun c9 hf => ?_)
      · obtain rfl := Option.some.inj hf; exact J_vret C1 dX1_tell_139 rfl (Nat.zero_le _) (Nat.zero_le _) ⟨rfl, rfl, hT, hE⟩
      · refine J_aload_n (q := 64) C0 1 rfl rfl dX1_tell_63 rfl trivial ?_
        refine K_some hf (fun b10 hb10 hf => ?_)
        have ab10 : is_A σ b10 6 := (g_v1) b10 hb10
        refine J_getR (q := 67) C0 fl_X1_106_6 hb10 (ab10) rfl dX1_tell_64 rfl ?_
        refine J_iload_n (q := 68) C0 2 rfl rfl dX1_tell_67 rfl ?_
        refine K_some hf (fun b11 hb11 hf => ?_)
        have ab11 : is_A σ b11 18 := ((sg_T.op hT (j := 0) (ab10) rfl)) b11 hb11
        refine K_chk hf (fun c12 hf => ?_)
        refine J_aald (q := 69) C0 hb11 (ab11) (by decide) c12 dX1_tell_68 rfl ?_
        refine J_astore_n (q := 70) (lv' := [(3, vr (sg_R σ b11 (v2).toNatClampNeg)), (0, vr (some a0)), (1, vr (v1)), (2, vi (v2))]) C0 rfl (G_nl C1 (by decide)) dX1_tell_69 rfl trivial rfl ?_
        refine J_aload_n (q := 71) C0 0 rfl rfl dX1_tell_70 rfl trivial ?_
        refine J_aload_n (q := 72) C0 1 rfl rfl dX1_tell_71 rfl trivial ?_
        refine J_getR (q := 75) C0 fl_X1_19_1 rfl (h0) rfl dX1_tell_72 rfl ?_
        refine J_iconst (q := 76) (v := 4) C0 dX1_tell_75 rfl rfl ?_
        refine J_iload_n (q := 77) C0 3 rfl rfl dX1_tell_76 rfl ?_
        refine J_imul (q := 78) C0 dX1_tell_77 rfl ?_
        refine K_some hf (fun b13 hb13 hf => ?_)
        have ab13 : is_A σ b13 12 := ((sg_T.op hT (j := 5) (h0) rfl)) b13 hb13
        refine K_chk hf (fun c14 hf => ?_)
        refine J_iald (q := 79) C0 hb13 (ab13) c14 dX1_tell_78 rfl ?_
        refine K_some hf (fun b15 hb15 hf => ?_)
        have ab15 : is_A σ b15 9 := ((sg_T.op hT (j := (v2).toNatClampNeg) (ab11) rfl)) b15 hb15
        refine J_putI (q := 82) C0 fl_X1_109_9 hb15 (ab15) rfl dX1_tell_79 rfl ?_
        refine J_aload_n (q := 83) C0 0 rfl rfl dX1_tell_82 rfl trivial ?_
        refine J_aload_n (q := 84) C0 1 rfl rfl dX1_tell_83 rfl trivial ?_
        refine J_getR (q := 87) C0 fl_X1_19_1 rfl ((h0).putI) rfl dX1_tell_84 rfl ?_
        refine J_iconst (q := 88) (v := 4) C0 dX1_tell_87 rfl rfl ?_
        refine J_iload_n (q := 89) C0 3 rfl rfl dX1_tell_88 rfl ?_
        refine J_imul (q := 90) C0 dX1_tell_89 rfl ?_
        refine J_iconst (q := 91) (v := 1) C0 dX1_tell_90 rfl rfl ?_
        refine J_iadd (q := 92) C0 dX1_tell_91 rfl ?_
        refine K_some hf (fun b16 hb16 hf => ?_)
        have ab16 : is_A (put_I σ b15 0 (sg_I σ b13 ((4) * (v2)).toNatClampNeg)) b16 12 := ((sg_T.op (hT).putI (j := 5) ((h0).putI) rfl)) b16 hb16
        refine K_chk hf (fun c17 hf => ?_)
        refine J_iald (q := 93) C0 hb16 (ab16) c17 dX1_tell_92 rfl ?_
        refine J_iconst (q := 94) (v := 1) C0 dX1_tell_93 rfl rfl ?_
        refine J_icmp_ne (t := 101) (q := 97) C0 dX1_tell_94 (by decide) rfl hf (fun c18 hf => ?_) (fun c18 hf => ?_)
        · refine J_iconst (q := 102) (v := 0) C0 dX1_tell_101 rfl rfl ?_
          refine J_sub (lv' := [(0, vr (some a0)), (1, vr (v1)), (2, vi (v2)), (3, vr (sg_R σ b11 (v2).toNatClampNeg))]) [1, 2, 3, 0] rfl ?_
          exact t_X1_tell_B102 C1  (f_X1_tell_L50 N a0 n)  ih  (v1) (v2) (sg_R σ b11 (v2).toNatClampNeg) (0) (sg_R σ b11 (v2).toNatClampNeg) (put_I σ b15 0 (sg_I σ b13 ((4) * (v2)).toNatClampNeg)) ((hT).putI) ((hE).putI) ((h0).putI) ((by rw [hb10]; exact is_O.some ((ab10).putI))) ((by rw [hb15]; exact is_O.some ((ab15).putI))) ((by rw [hb15]; exact is_O.some ((ab15).putI))) hf
        · refine J_iconst (q := 98) (v := 1) C0 dX1_tell_97 rfl rfl ?_
          refine J_goto (q := 102) C0 dX1_tell_98 (by decide) ?_
          refine J_sub (lv' := [(0, vr (some a0)), (1, vr (v1)), (2, vi (v2)), (3, vr (sg_R σ b11 (v2).toNatClampNeg))]) [1, 2, 3, 0] rfl ?_
          exact t_X1_tell_B102 C1  (f_X1_tell_L50 N a0 n)  ih  (v1) (v2) (sg_R σ b11 (v2).toNatClampNeg) (1) (sg_R σ b11 (v2).toNatClampNeg) (put_I σ b15 0 (sg_I σ b13 ((4) * (v2)).toNatClampNeg)) ((hT).putI) ((hE).putI) ((h0).putI) ((by rw [hb10]; exact is_O.some ((ab10).putI))) ((by rw [hb15]; exact is_O.some ((ab15).putI))) ((by rw [hb15]; exact is_O.some ((ab15).putI))) hf
set_option maxHeartbeats 4000000 in
set_option maxRecDepth 100000 in
theorem t_X1_tell (N : Nat) (a0 : Nat) (e1 : Option Nat) {σ : Sg} (hT : sg_T σ) (h0 : is_A σ a0 1) (g1 : is_O σ e1 6) {r : Sg} (hf : f_X1_tell N a0 e1 σ = some r) : Ct yX1_tell cX1_tell 4 none 0 0 0 0 [vr (some a0), vr e1] σ (fun r_ τ_ => (r_ = none) ∧ τ_ = r ∧ sg_T τ_ ∧ sg_E σ τ_) := by
  refine Ct.of (by decide +kernel) (Nat.le_of_ble_eq_true rfl) (fun Γ C1 => ?_)
  have C0 := C1.1
  have hE : sg_E σ σ := sg_E.rf
  unfold f_X1_tell at hf
  show J_ Γ 0 [(0, vr (some a0)), (1, vr (e1))] [] σ 0 0
  refine J_aload_n (q := 1) C0 1 rfl rfl dX1_tell_0 rfl trivial ?_
  refine J_aload_n (q := 2) C0 0 rfl rfl dX1_tell_1 rfl trivial ?_
  refine J_getR (q := 5) C0 fl_X1_9_1 rfl (h0) rfl dX1_tell_2 rfl ?_
  refine J_iconst (q := 6) (v := 0) C0 dX1_tell_5 rfl rfl ?_
  refine K_some hf (fun b1 hb1 hf => ?_)
  have ab1 : is_A σ b1 12 := ((sg_T.op hT (j := 3) (h0) rfl)) b1 hb1
  refine K_chk hf (fun c2 hf => ?_)
  refine J_iald (q := 7) C0 hb1 (ab1) c2 dX1_tell_6 rfl ?_
  refine K_some hf (fun b3 hb3 hf => ?_)
  have ab3 : is_A σ b3 6 := (g1) b3 hb3
  refine J_putI (q := 10) C0 fl_X1_86_6 hb3 (ab3) rfl dX1_tell_7 rfl ?_
  refine J_aload_n (q := 11) C0 1 rfl rfl dX1_tell_10 rfl trivial ?_
  refine J_aload_n (q := 12) C0 0 rfl rfl dX1_tell_11 rfl trivial ?_
  refine J_getR (q := 15) C0 fl_X1_9_1 rfl ((h0).putI) rfl dX1_tell_12 rfl ?_
  refine J_iconst (q := 16) (v := 1) C0 dX1_tell_15 rfl rfl ?_
  refine K_some hf (fun b4 hb4 hf => ?_)
  have ab4 : is_A (put_I σ b3 2 (sg_I σ b1 (0 : Int32).toNatClampNeg)) b4 12 := ((sg_T.op (hT).putI (j := 3) ((h0).putI) rfl)) b4 hb4
  refine K_chk hf (fun c5 hf => ?_)
  refine J_iald (q := 17) C0 hb4 (ab4) c5 dX1_tell_16 rfl ?_
  refine J_putI (q := 20) C0 fl_X1_91_6 hb3 ((ab3).putI) rfl dX1_tell_17 rfl ?_
  refine J_aload_n (q := 21) C0 1 rfl rfl dX1_tell_20 rfl trivial ?_
  refine J_aload_n (q := 22) C0 0 rfl rfl dX1_tell_21 rfl trivial ?_
  refine J_getR (q := 25) C0 fl_X1_9_1 rfl (((h0).putI).putI) rfl dX1_tell_22 rfl ?_
  refine J_iconst (q := 26) (v := 2) C0 dX1_tell_25 rfl rfl ?_
  refine K_some hf (fun b6 hb6 hf => ?_)
  have ab6 : is_A (put_I (put_I σ b3 2 (sg_I σ b1 (0 : Int32).toNatClampNeg)) b3 3 (sg_I (put_I σ b3 2 (sg_I σ b1 (0 : Int32).toNatClampNeg)) b4 (1 : Int32).toNatClampNeg)) b6 12 := ((sg_T.op ((hT).putI).putI (j := 3) (((h0).putI).putI) rfl)) b6 hb6
  refine K_chk hf (fun c7 hf => ?_)
  refine J_iald (q := 27) C0 hb6 (ab6) c7 dX1_tell_26 rfl ?_
  refine J_putI (q := 30) C0 fl_X1_94_6 hb3 (((ab3).putI).putI) rfl dX1_tell_27 rfl ?_
  refine J_aload_n (q := 31) C0 1 rfl rfl dX1_tell_30 rfl trivial ?_
  refine J_iconst (q := 32) (v := 0) C0 dX1_tell_31 rfl rfl ?_
  refine J_putI (q := 35) C0 fl_X1_97_6 hb3 ((((ab3).putI).putI).putI) rfl dX1_tell_32 rfl ?_
  refine J_aload_n (q := 36) C0 1 rfl rfl dX1_tell_35 rfl trivial ?_
  refine J_iconst (q := 37) (v := 0) C0 dX1_tell_36 rfl rfl ?_
  refine J_putI (q := 40) C0 fl_X1_100_6 hb3 (((((ab3).putI).putI).putI).putI) rfl dX1_tell_37 rfl ?_
  refine J_aload_n (q := 41) C0 1 rfl rfl dX1_tell_40 rfl trivial ?_
  refine J_aload_n (q := 42) C0 0 rfl rfl dX1_tell_41 rfl trivial ?_
  refine J_getI (q := 45) C0 fl_X1_22_1 rfl ((((((h0).putI).putI).putI).putI).putI) rfl dX1_tell_42 rfl ?_
  refine J_putI (q := 48) C0 fl_X1_103_6 hb3 ((((((ab3).putI).putI).putI).putI).putI) rfl dX1_tell_45 rfl ?_
  refine J_iconst (q := 49) (v := 0) C0 dX1_tell_48 rfl rfl ?_
  refine J_istore_n (q := 50) (lv' := [(2, vi (0)), (0, vr (some a0)), (1, vr (e1))]) C0 rfl (G_nl C1 (by decide)) dX1_tell_49 rfl rfl ?_
  refine J_sub (lv' := [(0, vr (some a0)), (1, vr (e1)), (2, vi (0))]) [1, 2, 0] rfl ?_
  exact t_X1_tell_L50 C1    N (e1) (0) (put_I (put_I (put_I (put_I (put_I (put_I σ b3 2 (sg_I σ b1 (0 : Int32).toNatClampNeg)) b3 3 (sg_I (put_I σ b3 2 (sg_I σ b1 (0 : Int32).toNatClampNeg)) b4 (1 : Int32).toNatClampNeg)) b3 4 (sg_I (put_I (put_I σ b3 2 (sg_I σ b1 (0 : Int32).toNatClampNeg)) b3 3 (sg_I (put_I σ b3 2 (sg_I σ b1 (0 : Int32).toNatClampNeg)) b4 (1 : Int32).toNatClampNeg)) b6 (2 : Int32).toNatClampNeg)) b3 5 (0)) b3 7 (0)) b3 1 (sg_I (put_I (put_I (put_I (put_I (put_I σ b3 2 (sg_I σ b1 (0 : Int32).toNatClampNeg)) b3 3 (sg_I (put_I σ b3 2 (sg_I σ b1 (0 : Int32).toNatClampNeg)) b4 (1 : Int32).toNatClampNeg)) b3 4 (sg_I (put_I (put_I σ b3 2 (sg_I σ b1 (0 : Int32).toNatClampNeg)) b3 3 (sg_I (put_I σ b3 2 (sg_I σ b1 (0 : Int32).toNatClampNeg)) b4 (1 : Int32).toNatClampNeg)) b6 (2 : Int32).toNatClampNeg)) b3 5 (0)) b3 7 (0)) a0 6)) (((((((hT).putI).putI).putI).putI).putI).putI) (((((((hE).putI).putI).putI).putI).putI).putI) (((((((h0).putI).putI).putI).putI).putI).putI) ((by rw [hb3]; exact is_O.some (((((((ab3).putI).putI).putI).putI).putI).putI))) hf
