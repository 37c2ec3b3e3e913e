def f_X5_bringBack (N : Nat) (a0 : Nat) (e1 : Option Nat) (σ : Sg) : Option (Int32 × Sg) :=
  if (sg_I σ a0 2) < (1) then
  (some ((-1), σ))
  else
  (Option.bind (f_X11_round ((sg_I σ a0 1) - (1)) (40) ) fun p2 =>
  Option.bind (f_X11_round (sg_I (put_I σ a0 1 (p2)) a0 1) (40) ) fun p3 =>
  Option.bind (sg_R (put_I σ a0 1 (p2)) a0 0) fun b4 =>
  if (p3) < 0 ∨ sg_L (put_I σ a0 1 (p2)) b4 ≤ (p3).toNatClampNeg then none else
  Option.bind (e1) fun b6 =>
  Option.bind (f_X7_copyFrom N b6 (sg_R (put_I σ a0 1 (p2)) b4 (p3).toNatClampNeg) (put_I σ a0 1 (p2))) fun p7 =>
  some (sg_I (put_I p7 a0 2 ((sg_I p7 a0 2) - (1))) a0 2, put_I p7 a0 2 ((sg_I p7 a0 2) - (1))))
set_option maxHeartbeats 4000000 in
set_option maxRecDepth 100000 in
theorem t_X5_bringBack (N : Nat) (a0 : Nat) (e1 : Option Nat) {σ : Sg} (hT : sg_T σ) (h0 : is_A σ a0 5) (g1 : is_O σ e1 6) {r : (Int32 × Sg)} (hf : f_X5_bringBack N a0 e1 σ = some r) : Ct yX5_bringBack cX5_bringBack 2 (some .int) 2 48 0 0 [vr (some a0), vr e1] σ (fun r_ τ_ => (r_ = some (vi r.1)) ∧ τ_ = r.2 ∧ sg_T τ_ ∧ sg_E σ τ_) := by
  refine Ct.of (by decide +kernel) (Nat.le_of_ble_eq_true rfl) (fun Γ C1 => ?_)
  have C0 := C1.1
  have hE : sg_E σ σ := sg_E.rf
  unfold f_X5_bringBack at hf
  show J_ Γ 0 [(0, vr (some a0)), (1, vr (e1))] [] σ 0 0
  refine J_aload_n (q := 1) C0 0 rfl rfl dX5_bringBack_0 rfl trivial ?_
  refine J_getI (q := 4) C0 fl_X5_21_5 rfl (h0) rfl dX5_bringBack_1 rfl ?_
  refine J_iconst (q := 5) (v := 1) C0 dX5_bringBack_4 rfl rfl ?_
  refine J_icmp_ge (t := 10) (q := 8) C0 dX5_bringBack_5 (by decide) rfl hf (fun c1 hf => ?_) (fun c1 hf => ?_)
  · refine J_aload_n (q := 11) C0 0 rfl rfl dX5_bringBack_10 rfl trivial ?_
    refine J_aload_n (q := 12) C0 0 rfl rfl dX5_bringBack_11 rfl trivial ?_
    refine J_getI (q := 15) C0 fl_X5_17_5 rfl (h0) rfl dX5_bringBack_12 rfl ?_
    refine J_iconst (q := 16) (v := 1) C0 dX5_bringBack_15 rfl rfl ?_
    refine J_isub (q := 17) C0 dX5_bringBack_16 rfl ?_
    refine J_bipush (q := 19) (v := 40) C0 dX5_bringBack_17 rfl rfl ?_
    refine K_some hf (fun p2 hp2 hf => ?_)
    refine J_callSN (q := 22) (as := [vi ((sg_I σ a0 1) - (1)), vi (40)]) (rest := [vr (some a0)]) C0 (t_X11_round ((sg_I σ a0 1) - (1)) (40)  hp2) ml_X11_round lk_X5_25 sm_X11_round dX5_bringBack_19 rfl rfl rfl (by simp [ac_]) C1.room (by decide) (by decide) (by decide) (by decide) (fun r_ τ_ hQ => ?_)
    obtain ⟨rfl, ht_⟩ := hQ; have ht_ := ht_.symm; subst ht_
    show J_ Γ 22 [(0, vr (some a0)), (1, vr (e1))] [vi (p2), vr (some a0)] σ 0 0
    refine J_putI (q := 25) C0 fl_X5_17_5 rfl (h0) rfl dX5_bringBack_22 rfl ?_
    refine J_aload_n (q := 26) C0 1 rfl rfl dX5_bringBack_25 rfl trivial ?_
    refine J_aload_n (q := 27) C0 0 rfl rfl dX5_bringBack_26 rfl trivial ?_
    refine J_getR (q := 30) C0 fl_X5_11_5 rfl ((h0).putI) rfl dX5_bringBack_27 rfl ?_
    refine J_aload_n (q := 31) C0 0 rfl rfl dX5_bringBack_30 rfl trivial ?_
    refine J_getI (q := 34) C0 fl_X5_17_5 rfl ((h0).putI) rfl dX5_bringBack_31 rfl ?_
    refine J_bipush (q := 36) (v := 40) C0 dX5_bringBack_34 rfl rfl ?_
    refine K_some hf (fun p3 hp3 hf => ?_)
    refine J_callSN (q := 39) (as := [vi (sg_I (put_I σ a0 1 (p2)) a0 1), vi (40)]) (rest := [vr (sg_R (put_I σ a0 1 (p2)) a0 0), vr (e1)]) C0 (t_X11_round (sg_I (put_I σ a0 1 (p2)) a0 1) (40)  hp3) ml_X11_round lk_X5_25 sm_X11_round dX5_bringBack_36 rfl rfl rfl (by simp [ac_]) C1.room (by decide) (by decide) (by decide) (by decide) (fun r_ τ_ hQ => ?_)
    obtain ⟨rfl, ht_⟩ := hQ; have ht_ := ht_.symm; subst ht_
    show J_ Γ 39 [(0, vr (some a0)), (1, vr (e1))] [vi (p3), vr (sg_R (put_I σ a0 1 (p2)) a0 0), vr (e1)] (put_I σ a0 1 (p2)) 0 0
    refine K_some hf (fun b4 hb4 hf => ?_)
    have ab4 : is_A (put_I σ a0 1 (p2)) b4 16 := ((sg_T.op (hT).putI (j := 0) ((h0).putI) rfl)) b4 hb4
    refine K_chk hf (fun c5 hf => ?_)
    refine J_aald (q := 40) C0 hb4 (ab4) (by decide) c5 dX5_bringBack_39 rfl ?_
    refine K_some hf (fun b6 hb6 hf => ?_)
    have ab6 : is_A (put_I σ a0 1 (p2)) b6 6 := ((fun b_ h_ => (g1 b_ h_).putI)) b6 hb6
    refine K_some hf (fun p7 hp7 hf => ?_)
    refine J_callV (q := 43) (ci := 6) (as := [vr (sg_R (put_I σ a0 1 (p2)) b4 (p3).toNatClampNeg)]) (rest := []) C0 hb6 (ab6) (t_X7_copyFrom N b6 (sg_R (put_I σ a0 1 (p2)) b4 (p3).toNatClampNeg) ((hT).putI) (ab6) ((sg_T.op (hT).putI (j := (p3).toNatClampNeg) (ab4) rfl)) hp7) ml_X7_copyFrom lk_X5_29 im_X7_copyFrom se_X7_copyFrom rfl (by decide) dX5_bringBack_40 rfl rfl rfl (by simp [ac_]) C1.room (by decide) (by decide) (by decide) (by decide) (fun r_ τ_ hQ => ?_)
    obtain ⟨rfl, ht_, Tp7, Ep7⟩ := hQ; have ht_ := ht_.symm; subst ht_
    show J_ Γ 43 [(0, vr (some a0)), (1, vr (e1))] [] p7 0 0
    refine J_aload_n (q := 44) C0 0 rfl rfl dX5_bringBack_43 rfl trivial ?_
    refine J_dup (q := 45) C0 dX5_bringBack_44 rfl rfl ?_
    refine J_getI (q := 48) C0 fl_X5_21_5 rfl ((Ep7.at (h0).putI)) rfl dX5_bringBack_45 rfl ?_
    refine J_iconst (q := 49) (v := 1) C0 dX5_bringBack_48 rfl rfl ?_
    refine J_isub (q := 50) C0 dX5_bringBack_49 rfl ?_
    refine J_putI (q := 53) C0 fl_X5_21_5 rfl ((Ep7.at (h0).putI)) rfl dX5_bringBack_50 rfl ?_
    refine J_aload_n (q := 54) C0 0 rfl rfl dX5_bringBack_53 rfl trivial ?_
    refine J_getI (q := 57) C0 fl_X5_21_5 rfl (((Ep7.at (h0).putI)).putI) rfl dX5_bringBack_54 rfl ?_
    obtain rfl := Option.some.inj hf; exact J_iret C1 dX5_bringBack_57 rfl (Nat.zero_le _) (Nat.zero_le _) ⟨rfl, rfl, (Tp7).putI, (((hE).putI).tr Ep7).putI⟩
  · refine J_iconst (q := 9) (v := (-1)) C0 dX5_bringBack_8 rfl rfl ?_
    obtain rfl := Option.some.inj hf; exact J_iret C1 dX5_bringBack_9 rfl (Nat.zero_le _) (Nat.zero_le _) ⟨rfl, rfl, hT, hE⟩
def f_X6_start (a0 : Nat) (e1 : Option Nat) (x2 : Int32) (σ : Sg) : Option Sg :=
  Option.bind (e1) fun b1 =>
  Option.bind (f_J9_min_7cf53 (x2) (Int32.ofNat (sg_L (put_R σ a0 0 (e1)) b1)) ) fun p2 =>
  some (put_I (put_I (put_R σ a0 0 (e1)) a0 1 (p2)) a0 2 (0))
set_option maxHeartbeats 4000000 in
set_option maxRecDepth 100000 in
theorem t_X6_start_k1 (a0 : Nat) (e1 : Option Nat) (x2 : Int32) {σ : Sg} (hT : sg_T σ) (h0 : is_A σ a0 1) (g1 : is_O σ e1 12) {r : Sg} (hf : f_X6_start a0 e1 x2 σ = some r) : Ct yX6_start cX6_start 3 none 1 21 0 0 [vr (some a0), vr e1, vi x2] σ (fun r_ τ_ => (r_ = none) ∧ τ_ = r ∧ sg_T τ_ ∧ sg_E σ τ_) := by
  refine Ct.of (by decide +kernel) (Nat.le_of_ble_eq_true rfl) (fun Γ C1 => ?_)
  have C0 := C1.1
  have hE : sg_E σ σ := sg_E.rf
  unfold f_X6_start at hf
  show J_ Γ 0 [(0, vr (some a0)), (1, vr (e1)), (2, vi (x2))] [] σ 0 0
  refine J_aload_n (q := 1) C0 0 rfl rfl dX6_start_0 rfl trivial ?_
  refine J_aload_n (q := 2) C0 1 rfl rfl dX6_start_1 rfl trivial ?_
  refine J_putR (q := 5) C0 rfl fl_X6_9_1 rfl (h0) rfl dX6_start_2 rfl ?_
  refine J_aload_n (q := 6) C0 0 rfl rfl dX6_start_5 rfl trivial ?_
  refine J_iload_n (q := 7) C0 2 rfl rfl dX6_start_6 rfl ?_
  refine J_aload_n (q := 8) C0 1 rfl rfl dX6_start_7 rfl trivial ?_
  refine K_some hf (fun b1 hb1 hf => ?_)
  have ab1 : is_A (put_R σ a0 0 (e1)) b1 12 := ((fun b_ h_ => (g1 b_ h_).putR)) b1 hb1
  refine J_alen (q := 9) C0 hb1 (ab1) (by decide) dX6_start_8 rfl ?_
  refine K_some hf (fun p2 hp2 hf => ?_)
  refine J_callS (q := 12) (as := [vi (x2), vi (Int32.ofNat (sg_L (put_R σ a0 0 (e1)) b1))]) (rest := [vr (some a0)]) C0 (t_J9_min_7cf53 (x2) (Int32.ofNat (sg_L (put_R σ a0 0 (e1)) b1))  hp2) ml_J9_min_7cf53 lk_X6_22 sm_J9_min_7cf53 dX6_start_9 rfl rfl rfl (by simp [ac_]) C1.room (by decide) (by decide) (by decide) (by decide) (fun r_ τ_ hQ => ?_)
  obtain ⟨rfl, ht_⟩ := hQ; have ht_ := ht_.symm; subst ht_
  show J_ Γ 12 [(0, vr (some a0)), (1, vr (e1)), (2, vi (x2))] [vi (p2), vr (some a0)] (put_R σ a0 0 (e1)) 0 0
  refine J_putI (q := 15) C0 fl_X6_15_1 rfl ((h0).putR) rfl dX6_start_12 rfl ?_
  refine J_aload_n (q := 16) C0 0 rfl rfl dX6_start_15 rfl trivial ?_
  refine J_iconst (q := 17) (v := 0) C0 dX6_start_16 rfl rfl ?_
  refine J_putI (q := 20) C0 fl_X6_19_1 rfl (((h0).putR).putI) rfl dX6_start_17 rfl ?_
  obtain rfl := Option.some.inj hf; exact J_vret C1 dX6_start_20 rfl (Nat.zero_le _) (Nat.zero_le _) ⟨rfl, rfl, (((sg_T.putR hT (by rw [(h0).2]; exact g1))).putI).putI, (((hE).putR).putI).putI⟩
set_option maxHeartbeats 4000000 in
set_option maxRecDepth 100000 in
theorem t_X6_start_k3 (a0 : Nat) (e1 : Option Nat) (x2 : Int32) {σ : Sg} (hT : sg_T σ) (h0 : is_A σ a0 3) (g1 : is_O σ e1 12) {r : Sg} (hf : f_X6_start a0 e1 x2 σ = some r) : Ct yX6_start cX6_start 3 none 1 21 0 0 [vr (some a0), vr e1, vi x2] σ (fun r_ τ_ => (r_ = none) ∧ τ_ = r ∧ sg_T τ_ ∧ sg_E σ τ_) := by
  refine Ct.of (by decide +kernel) (Nat.le_of_ble_eq_true rfl) (fun Γ C1 => ?_)
  have C0 := C1.1
  have hE : sg_E σ σ := sg_E.rf
  unfold f_X6_start at hf
  show J_ Γ 0 [(0, vr (some a0)), (1, vr (e1)), (2, vi (x2))] [] σ 0 0
  refine J_aload_n (q := 1) C0 0 rfl rfl dX6_start_0 rfl trivial ?_
  refine J_aload_n (q := 2) C0 1 rfl rfl dX6_start_1 rfl trivial ?_
  refine J_putR (q := 5) C0 rfl fl_X6_9_3 rfl (h0) rfl dX6_start_2 rfl ?_
  refine J_aload_n (q := 6) C0 0 rfl rfl dX6_start_5 rfl trivial ?_
  refine J_iload_n (q := 7) C0 2 rfl rfl dX6_start_6 rfl ?_
  refine J_aload_n (q := 8) C0 1 rfl rfl dX6_start_7 rfl trivial ?_
  refine K_some hf (fun b1 hb1 hf => ?_)
  have ab1 : is_A (put_R σ a0 0 (e1)) b1 12 := ((fun b_ h_ => (g1 b_ h_).putR)) b1 hb1
  refine J_alen (q := 9) C0 hb1 (ab1) (by decide) dX6_start_8 rfl ?_
  refine K_some hf (fun p2 hp2 hf => ?_)
  refine J_callS (q := 12) (as := [vi (x2), vi (Int32.ofNat (sg_L (put_R σ a0 0 (e1)) b1))]) (rest := [vr (some a0)]) C0 (t_J9_min_7cf53 (x2) (Int32.ofNat (sg_L (put_R σ a0 0 (e1)) b1))  hp2) ml_J9_min_7cf53 lk_X6_22 sm_J9_min_7cf53 dX6_start_9 rfl rfl rfl (by simp [ac_]) C1.room (by decide) (by decide) (by decide) (by decide) (fun r_ τ_ hQ => ?_)
  obtain ⟨rfl, ht_⟩ := hQ; have ht_ := ht_.symm; subst ht_
  show J_ Γ 12 [(0, vr (some a0)), (1, vr (e1)), (2, vi (x2))] [vi (p2), vr (some a0)] (put_R σ a0 0 (e1)) 0 0
  refine J_putI (q := 15) C0 fl_X6_15_3 rfl ((h0).putR) rfl dX6_start_12 rfl ?_
  refine J_aload_n (q := 16) C0 0 rfl rfl dX6_start_15 rfl trivial ?_
  refine J_iconst (q := 17) (v := 0) C0 dX6_start_16 rfl rfl ?_
  refine J_putI (q := 20) C0 fl_X6_19_3 rfl (((h0).putR).putI) rfl dX6_start_17 rfl ?_
  obtain rfl := Option.some.inj hf; exact J_vret C1 dX6_start_20 rfl (Nat.zero_le _) (Nat.zero_le _) ⟨rfl, rfl, (((sg_T.putR hT (by rw [(h0).2]; exact g1))).putI).putI, (((hE).putR).putI).putI⟩
set_option maxHeartbeats 4000000 in
set_option maxRecDepth 100000 in
theorem t_X6_start_k8 (a0 : Nat) (e1 : Option Nat) (x2 : Int32) {σ : Sg} (hT : sg_T σ) (h0 : is_A σ a0 8) (g1 : is_O σ e1 12) {r : Sg} (hf : f_X6_start a0 e1 x2 σ = some r) : Ct yX6_start cX6_start 3 none 1 21 0 0 [vr (some a0), vr e1, vi x2] σ (fun r_ τ_ => (r_ = none) ∧ τ_ = r ∧ sg_T τ_ ∧ sg_E σ τ_) := by
  refine Ct.of (by decide +kernel) (Nat.le_of_ble_eq_true rfl) (fun Γ C1 => ?_)
  have C0 := C1.1
  have hE : sg_E σ σ := sg_E.rf
  unfold f_X6_start at hf
  show J_ Γ 0 [(0, vr (some a0)), (1, vr (e1)), (2, vi (x2))] [] σ 0 0
  refine J_aload_n (q := 1) C0 0 rfl rfl dX6_start_0 rfl trivial ?_
  refine J_aload_n (q := 2) C0 1 rfl rfl dX6_start_1 rfl trivial ?_
  refine J_putR (q := 5) C0 rfl fl_X6_9_8 rfl (h0) rfl dX6_start_2 rfl ?_
  refine J_aload_n (q := 6) C0 0 rfl rfl dX6_start_5 rfl trivial ?_
  refine J_iload_n (q := 7) C0 2 rfl rfl dX6_start_6 rfl ?_
  refine J_aload_n (q := 8) C0 1 rfl rfl dX6_start_7 rfl trivial ?_
  refine K_some hf (fun b1 hb1 hf => ?_)
  have ab1 : is_A (put_R σ a0 0 (e1)) b1 12 := ((fun b_ h_ => (g1 b_ h_).putR)) b1 hb1
  refine J_alen (q := 9) C0 hb1 (ab1) (by decide) dX6_start_8 rfl ?_
  refine K_some hf (fun p2 hp2 hf => ?_)
  refine J_callS (q := 12) (as := [vi (x2), vi (Int32.ofNat (sg_L (put_R σ a0 0 (e1)) b1))]) (rest := [vr (some a0)]) C0 (t_J9_min_7cf53 (x2) (Int32.ofNat (sg_L (put_R σ a0 0 (e1)) b1))  hp2) ml_J9_min_7cf53 lk_X6_22 sm_J9_min_7cf53 dX6_start_9 rfl rfl rfl (by simp [ac_]) C1.room (by decide) (by decide) (by decide) (by decide) (fun r_ τ_ hQ => ?_)
  obtain ⟨rfl, ht_⟩ := hQ; have ht_ := ht_.symm; subst ht_
  show J_ Γ 12 [(0, vr (some a0)), (1, vr (e1)), (2, vi (x2))] [vi (p2), vr (some a0)] (put_R σ a0 0 (e1)) 0 0
  refine J_putI (q := 15) C0 fl_X6_15_8 rfl ((h0).putR) rfl dX6_start_12 rfl ?_
  refine J_aload_n (q := 16) C0 0 rfl rfl dX6_start_15 rfl trivial ?_
  refine J_iconst (q := 17) (v := 0) C0 dX6_start_16 rfl rfl ?_
  refine J_putI (q := 20) C0 fl_X6_19_8 rfl (((h0).putR).putI) rfl dX6_start_17 rfl ?_
  obtain rfl := Option.some.inj hf; exact J_vret C1 dX6_start_20 rfl (Nat.zero_le _) (Nat.zero_le _) ⟨rfl, rfl, (((sg_T.putR hT (by rw [(h0).2]; exact g1))).putI).putI, (((hE).putR).putI).putI⟩
def f_X6_number_B161 (N : Nat) (a0 : Nat) (v5 : Int32) (v7 : Int32) (s0 : Int32) (s1 : Int32) (s2 : Option Nat) (σ : Sg) : Option (Int32 × Sg) :=
  Option.bind (s2) fun b7 =>
  if (v7) = (0) then
  (some ((-1), put_I σ b7 2 ((s1) + (s0))))
  else
  (some (v5, put_I σ b7 2 ((s1) + (s0))))
def f_X6_number_B140 (N : Nat) (a0 : Nat) (v4 : Int32) (v5 : Int32) (s0 : Int32) (σ : Sg) : Option (Int32 × Sg) :=
  if (s0) = (0) then
  (f_X6_number_B161 N a0 (v5) (s0) ((v4) - (1)) (sg_I σ a0 2) (some a0) σ)
  else
  (f_X6_number_B161 N a0 (v5) (s0) (v4) (sg_I σ a0 2) (some a0) σ)
def f_X6_number_B139 (N : Nat) (a0 : Nat) (v4 : Int32) (v5 : Int32) (σ : Sg) : Option (Int32 × Sg) :=
  f_X6_number_B140 N a0 (v4) (v5) (0) σ
def f_X6_number_B98 (N : Nat) (a0 : Nat) (v1 : Int32) (v2 : Int32) (v3 : Int32) (v4 : Int32) (v5 : Int32) (σ : Sg) : Option (Int32 × Sg) :=
  if (v4) = (0) then
  (some ((-1), σ))
  else
  (if (v1) < (v4) then
  (some ((-1), put_I σ a0 2 ((sg_I σ a0 2) + (v1))))
  else
  (if (v5) < (v2) then
  (f_X6_number_B139 N a0 (v4) (v5) σ)
  else
  (if (v3) < (v5) then
  (f_X6_number_B139 N a0 (v4) (v5) σ)
  else
  (f_X6_number_B140 N a0 (v4) (v5) (1) σ))))
def f_X6_number_L23 (N : Nat) (a0 : Nat) : Nat → Int32 → Int32 → Int32 → Int32 → Int32 → Int32 → Sg → Option (Int32 × Sg)
  | 0, _, _, _, _, _, _, _ => none
  | n + 1, v1, v2, v3, v4, v5, v6, σ =>
  if ((sg_I σ a0 2) + (v4)) < (v6) then
  (Option.bind (sg_R σ a0 0) fun b10 =>
  if ((sg_I σ a0 2) + (v4)) < 0 ∨ sg_L σ b10 ≤ ((sg_I σ a0 2) + (v4)).toNatClampNeg then none else
  if (sg_I σ b10 ((sg_I σ a0 2) + (v4)).toNatClampNeg) < (48) then
  (f_X6_number_B98 N a0 (v1) (v2) (v3) (v4) (v5) σ)
  else
  (if ((sg_I σ a0 2) + (v4)) < 0 ∨ sg_L σ b10 ≤ ((sg_I σ a0 2) + (v4)).toNatClampNeg then none else
  if (57) < (sg_I σ b10 ((sg_I σ a0 2) + (v4)).toNatClampNeg) then
  (f_X6_number_B98 N a0 (v1) (v2) (v3) (v4) (v5) σ)
  else
  (if ((sg_I σ a0 2) + (v4)) < 0 ∨ sg_L σ b10 ≤ ((sg_I σ a0 2) + (v4)).toNatClampNeg then none else
  f_X6_number_L23 N a0 n (v1) (v2) (v3) (v4 + 1) ((((v5) * (10)) + (sg_I σ b10 ((sg_I σ a0 2) + (v4)).toNatClampNeg)) - (48)) (v6) σ)))
  else
  (f_X6_number_B98 N a0 (v1) (v2) (v3) (v4) (v5) σ)
def f_X6_number (N : Nat) (a0 : Nat) (x1 : Int32) (x2 : Int32) (x3 : Int32) (σ : Sg) : Option (Int32 × Sg) :=
  Option.bind (f_J9_min_7cf53 (sg_I σ a0 1) (((sg_I σ a0 2) + (x1)) + (1)) ) fun p1 =>
  f_X6_number_L23 N a0 N (x1) (x2) (x3) (0) (0) (p1) σ
set_option maxHeartbeats 4000000 in
set_option maxRecDepth 100000 in
theorem t_X6_number_B161_k1 {N : Nat} {a0 : Nat} {Γ : Gm} {σ0 : Sg} {r : (Int32 × Sg)} (C1 : CM Γ cX6_number RX6 8 (some .int) 1 21 0 0 (fun r_ τ_ => (r_ = some (vi r.1)) ∧ τ_ = r.2 ∧ sg_T τ_ ∧ sg_E σ0 τ_)) (v5 : Int32) (v7 : Int32) (s0 : Int32) (s1 : Int32) (s2 : Option Nat) (σ : Sg) (hT : sg_T σ) (hE : sg_E σ0 σ) (h0 : is_A σ a0 1) (g_s2 : is_O σ s2 1) (hf : f_X6_number_B161 N a0  v5 v7 s0 s1 s2 σ = some r) : J_ Γ 161 [(0, vr (some a0)), (5, vi (v5)), (7, vi (v7))] [vi (s0), vi (s1), vr (s2)] σ 0 0 := by
  have C0 := C1.1
  unfold f_X6_number_B161 at hf
  refine J_iadd (q := 162) C0 dX6_number_161 rfl ?_
  refine K_some hf (fun b7 hb7 hf => ?_)
  have ab7 : is_A σ b7 1 := (g_s2) b7 hb7
  refine J_putI (q := 165) C0 fl_X6_19_1 hb7 (ab7) rfl dX6_number_162 rfl ?_
  refine J_iload (q := 167) C0 2 rfl dX6_number_165 rfl ?_
  refine J_if_eq (t := 175) (q := 170) C0 dX6_number_167 (by decide) rfl hf (fun c8 hf => ?_) (fun c8 hf => ?_)
  · refine J_iconst (q := 176) (v := (-1)) C0 dX6_number_175 rfl rfl ?_
    obtain rfl := Option.some.inj hf; exact J_iret C1 dX6_number_176 rfl (Nat.zero_le _) (Nat.zero_le _) ⟨rfl, rfl, (hT).putI, (hE).putI⟩
  · refine J_iload (q := 172) C0 1 rfl dX6_number_170 rfl ?_
    refine J_goto (q := 176) C0 dX6_number_172 (by decide) ?_
    obtain rfl := Option.some.inj hf; exact J_iret C1 dX6_number_176 rfl (Nat.zero_le _) (Nat.zero_le _) ⟨rfl, rfl, (hT).putI, (hE).putI⟩
set_option maxHeartbeats 4000000 in
set_option maxRecDepth 100000 in
theorem t_X6_number_B140_k1 {N : Nat} {a0 : Nat} {Γ : Gm} {σ0 : Sg} {r : (Int32 × Sg)} (C1 : CM Γ cX6_number RX6 8 (some .int) 1 21 0 0 (fun r_ τ_ => (r_ = some (vi r.1)) ∧ τ_ = r.2 ∧ sg_T τ_ ∧ sg_E σ0 τ_)) (v4 : Int32) (v5 : Int32) (s0 : Int32) (σ : Sg) (hT : sg_T σ) (hE : sg_E σ0 σ) (h0 : is_A σ a0 1) (hf : f_X6_number_B140 N a0  v4 v5 s0 σ = some r) : J_ Γ 140 [(0, vr (some a0)), (4, vi (v4)), (5, vi (v5))] [vi (s0)] σ 0 0 := by
  have C0 := C1.1
  unfold f_X6_number_B140 at hf
  refine J_istore (q := 142) (lv' := [(7, vi (s0)), (0, vr (some a0)), (4, vi (v4)), (5, vi (v5))]) C0 (G_nl C1 (by decide)) dX6_number_140 rfl rfl ?_
  refine J_aload_n (q := 143) C0 1 rfl rfl dX6_number_142 rfl trivial ?_
  refine J_dup (q := 144) C0 dX6_number_143 rfl rfl ?_
  refine J_getI (q := 147) C0 fl_X6_19_1 rfl (h0) rfl dX6_number_144 rfl ?_
  refine J_iload (q := 149) C0 0 rfl dX6_number_147 rfl ?_
  refine J_if_eq (t := 157) (q := 152) C0 dX6_number_149 (by decide) rfl hf (fun c6 hf => ?_) (fun c6 hf => ?_)
  · refine J_iload (q := 159) C0 2 rfl dX6_number_157 rfl ?_
    refine J_iconst (q := 160) (v := 1) C0 dX6_number_159 rfl rfl ?_
    refine J_isub (q := 161) C0 dX6_number_160 rfl ?_
    refine J_sub (lv' := [(0, vr (some a0)), (5, vi (v5)), (7, vi (s0))]) [1, 3, 0] rfl ?_
    exact t_X6_number_B161_k1 C1    (v5) (s0) ((v4) - (1)) (sg_I σ a0 2) (some a0) σ (hT) (hE) (h0) (is_O.some (h0)) hf
  · refine J_iload (q := 154) C0 2 rfl dX6_number_152 rfl ?_
    refine J_goto (q := 161) C0 dX6_number_154 (by decide) ?_
    refine J_sub (lv' := [(0, vr (some a0)), (5, vi (v5)), (7, vi (s0))]) [1, 3, 0] rfl ?_
    exact t_X6_number_B161_k1 C1    (v5) (s0) (v4) (sg_I σ a0 2) (some a0) σ (hT) (hE) (h0) (is_O.some (h0)) hf
set_option maxHeartbeats 4000000 in
set_option maxRecDepth 100000 in
theorem t_X6_number_B139_k1 {N : Nat} {a0 : Nat} {Γ : Gm} {σ0 : Sg} {r : (Int32 × Sg)} (C1 : CM Γ cX6_number RX6 8 (some .int) 1 21 0 0 (fun r_ τ_ => (r_ = some (vi r.1)) ∧ τ_ = r.2 ∧ sg_T τ_ ∧ sg_E σ0 τ_)) (v4 : Int32) (v5 : Int32) (σ : Sg) (hT : sg_T σ) (hE : sg_E σ0 σ) (h0 : is_A σ a0 1) (hf : f_X6_number_B139 N a0  v4 v5 σ = some r) : J_ Γ 139 [(0, vr (some a0)), (4, vi (v4)), (5, vi (v5))] [] σ 0 0 := by
  have C0 := C1.1
  unfold f_X6_number_B139 at hf
  refine J_iconst (q := 140) (v := 0) C0 dX6_number_139 rfl rfl ?_
  exact t_X6_number_B140_k1 C1    (v4) (v5) (0) σ (hT) (hE) (h0)  hf
set_option maxHeartbeats 4000000 in
set_option maxRecDepth 100000 in
theorem t_X6_number_B98_k1 {N : Nat} {a0 : Nat} {Γ : Gm} {σ0 : Sg} {r : (Int32 × Sg)} (C1 : CM Γ cX6_number RX6 8 (some .int) 1 21 0 0 (fun r_ τ_ => (r_ = some (vi r.1)) ∧ τ_ = r.2 ∧ sg_T τ_ ∧ sg_E σ0 τ_)) (v1 : Int32) (v2 : Int32) (v3 : Int32) (v4 : Int32) (v5 : Int32) (σ : Sg) (hT : sg_T σ) (hE : sg_E σ0 σ) (h0 : is_A σ a0 1) (hf : f_X6_number_B98 N a0  v1 v2 v3 v4 v5 σ = some r) : J_ Γ 98 [(0, vr (some a0)), (1, vi (v1)), (2, vi (v2)), (3, vi (v3)), (4, vi (v4)), (5, vi (v5))] [] σ 0 0 := by
  have C0 := C1.1
  unfold f_X6_number_B98 at hf
  refine J_iload (q := 100) C0 4 rfl dX6_number_98 rfl ?_
  refine J_if_ne (t := 105) (q := 103) C0 dX6_number_100 (by decide) rfl hf (fun c3 hf => ?_) (fun c3 hf => ?_)
  · refine J_iload (q := 107) C0 4 rfl dX6_number_105 rfl ?_
    refine J_iload_n (q := 108) C0 1 rfl rfl dX6_number_107 rfl ?_
    refine J_icmp_le (t := 123) (q := 111) C0 dX6_number_108 (by decide) rfl hf (fun c4 hf => ?_) (fun c4 hf => ?_)
    · refine J_iload (q := 125) C0 5 rfl dX6_number_123 rfl ?_
      refine J_iload_n (q := 126) C0 2 rfl rfl dX6_number_125 rfl ?_
      refine J_icmp_lt (t := 139) (q := 129) C0 dX6_number_126 (by decide) rfl hf (fun c5 hf => ?_) (fun c5 hf => ?_)
      · refine J_sub (lv' := [(0, vr (some a0)), (4, vi (v4)), (5, vi (v5))]) [0, 4, 5] rfl ?_
        exact t_X6_number_B139_k1 C1    (v4) (v5) σ (hT) (hE) (h0)  hf
      · refine J_iload (q := 131) C0 5 rfl dX6_number_129 rfl ?_
        refine J_iload_n (q := 132) C0 3 rfl rfl dX6_number_131 rfl ?_
        refine J_icmp_gt (t := 139) (q := 135) C0 dX6_number_132 (by decide) rfl hf (fun c9 hf => ?_) (fun c9 hf => ?_)
        · refine J_sub (lv' := [(0, vr (some a0)), (4, vi (v4)), (5, vi (v5))]) [0, 4, 5] rfl ?_
          exact t_X6_number_B139_k1 C1    (v4) (v5) σ (hT) (hE) (h0)  hf
        · refine J_iconst (q := 136) (v := 1) C0 dX6_number_135 rfl rfl ?_
          refine J_goto (q := 140) C0 dX6_number_136 (by decide) ?_
          refine J_sub (lv' := [(0, vr (some a0)), (4, vi (v4)), (5, vi (v5))]) [0, 4, 5] rfl ?_
          exact t_X6_number_B140_k1 C1    (v4) (v5) (1) σ (hT) (hE) (h0)  hf
    · refine J_aload_n (q := 112) C0 0 rfl rfl dX6_number_111 rfl trivial ?_
      refine J_dup (q := 113) C0 dX6_number_112 rfl rfl ?_
      refine J_getI (q := 116) C0 fl_X6_19_1 rfl (h0) rfl dX6_number_113 rfl ?_
      refine J_iload_n (q := 117) C0 1 rfl rfl dX6_number_116 rfl ?_
      refine J_iadd (q := 118) C0 dX6_number_117 rfl ?_
      refine J_putI (q := 121) C0 fl_X6_19_1 rfl (h0) rfl dX6_number_118 rfl ?_
      refine J_iconst (q := 122) (v := (-1)) C0 dX6_number_121 rfl rfl ?_
      obtain rfl := Option.some.inj hf; exact J_iret C1 dX6_number_122 rfl (Nat.zero_le _) (Nat.zero_le _) ⟨rfl, rfl, (hT).putI, (hE).putI⟩
  · refine J_iconst (q := 104) (v := (-1)) C0 dX6_number_103 rfl rfl ?_
    obtain rfl := Option.some.inj hf; exact J_iret C1 dX6_number_104 rfl (Nat.zero_le _) (Nat.zero_le _) ⟨rfl, rfl, hT, hE⟩
set_option maxHeartbeats 4000000 in
set_option maxRecDepth 100000 in
theorem t_X6_number_L23_k1 {N : Nat} {a0 : Nat} {Γ : Gm} {σ0 : Sg} {r : (Int32 × Sg)} (C1 : CM Γ cX6_number RX6 8 (some .int) 1 21 0 0 (fun r_ τ_ => (r_ = some (vi r.1)) ∧ τ_ = r.2 ∧ sg_T τ_ ∧ sg_E σ0 τ_)) : ∀ (n : Nat) (v1 : Int32) (v2 : Int32) (v3 : Int32) (v4 : Int32) (v5 : Int32) (v6 : Int32) (σ : Sg), sg_T σ → sg_E σ0 σ → is_A σ a0 1 → f_X6_number_L23 N a0  n v1 v2 v3 v4 v5 v6 σ = some r → J_ Γ 23 [(0, vr (some a0)), (1, vi (v1)), (2, vi (v2)), (3, vi (v3)), (4, vi (v4)), (5, vi (v5)), (6, vi (v6))] [] σ 0 0 := by
  have C0 := C1.1
  intro n
  induction n with
  | zero => intro v1 v2 v3 v4 v5 v6 σ hT hE h0  hf; unfold f_X6_number_L23 at hf; cases hf
  | succ n ih =>
    intro v1 v2 v3 v4 v5 v6 σ hT hE h0  hf
    rw [f_X6_number_L23] at hf
    refine J_aload_n (q := 24) C0 0 rfl rfl dX6_number_23 rfl trivial ?_
    refine J_getI (q := 27) C0 fl_X6_19_1 rfl (h0) rfl dX6_number_24 rfl ?_
    refine J_iload (q := 29) C0 4 rfl dX6_number_27 rfl ?_
    refine J_iadd (q := 30) C0 dX6_number_29 rfl ?_
    refine J_iload (q := 32) C0 6 rfl dX6_number_30 rfl ?_
    refine J_icmp_ge (t := 98) (q := 35) C0 dX6_number_32 (by decide) rfl hf (fun c2 hf => ?_) (fun c2 hf => ?_)
    · refine J_sub (lv' := [(0, vr (some a0)), (1, vi (v1)), (2, vi (v2)), (3, vi (v3)), (4, vi (v4)), (5, vi (v5))]) [0, 1, 2, 3, 4, 5] rfl ?_
      exact t_X6_number_B98_k1 C1    (v1) (v2) (v3) (v4) (v5) σ (hT) (hE) (h0)  hf
    · refine J_aload_n (q := 36) C0 0 rfl rfl dX6_number_35 rfl trivial ?_
      refine J_getR (q := 39) C0 fl_X6_9_1 rfl (h0) rfl dX6_number_36 rfl ?_
      refine J_aload_n (q := 40) C0 0 rfl rfl dX6_number_39 rfl trivial ?_
      refine J_getI (q := 43) C0 fl_X6_19_1 rfl (h0) rfl dX6_number_40 rfl ?_
      refine J_iload (q := 45) C0 4 rfl dX6_number_43 rfl ?_
      refine J_iadd (q := 46) C0 dX6_number_45 rfl ?_
      refine K_some hf (fun b10 hb10 hf => ?_)
      have ab10 : is_A σ b10 12 := ((sg_T.op hT (j := 0) (h0) rfl)) b10 hb10
      refine K_chk hf (fun c11 hf => ?_)
      refine J_iald (q := 47) C0 hb10 (ab10) c11 dX6_number_46 rfl ?_
      refine J_bipush (q := 49) (v := 48) C0 dX6_number_47 rfl rfl ?_
      refine J_icmp_lt (t := 98) (q := 52) C0 dX6_number_49 (by decide) rfl hf (fun c12 hf => ?_) (fun c12 hf => ?_)
      · refine J_sub (lv' := [(0, vr (some a0)), (1, vi (v1)), (2, vi (v2)), (3, vi (v3)), (4, vi (v4)), (5, vi (v5))]) [0, 1, 2, 3, 4, 5] rfl ?_
        exact t_X6_number_B98_k1 C1    (v1) (v2) (v3) (v4) (v5) σ (hT) (hE) (h0)  hf
      · refine J_aload_n (q := 53) C0 0 rfl rfl dX6_number_52 rfl trivial ?_
        refine J_getR (q := 56) C0 fl_X6_9_1 rfl (h0) rfl dX6_number_53 rfl ?_
        refine J_aload_n (q := 57) C0 0 rfl rfl dX6_number_56 rfl trivial ?_
        refine J_getI (q := 60) C0 fl_X6_19_1 rfl (h0) rfl dX6_number_57 rfl ?_
        refine J_iload (q := 62) C0 4 rfl dX6_number_60 rfl ?_
        refine J_iadd (q := 63) C0 dX6_number_62 rfl ?_
        refine K_chk hf (fun c13 hf => ?_)
        refine J_iald (q := 64) C0 hb10 (ab10) c13 dX6_number_63 rfl ?_
        refine J_bipush (q := 66) (v := 57) C0 dX6_number_64 rfl rfl ?_
        refine J_icmp_gt (t := 98) (q := 69) C0 dX6_number_66 (by decide) rfl hf (fun c14 hf => ?_) (fun c14 hf => ?_)
        · refine J_sub (lv' := [(0, vr (some a0)), (1, vi (v1)), (2, vi (v2)), (3, vi (v3)), (4, vi (v4)), (5, vi (v5))]) [0, 1, 2, 3, 4, 5] rfl ?_
          exact t_X6_number_B98_k1 C1    (v1) (v2) (v3) (v4) (v5) σ (hT) (hE) (h0)  hf
        · refine J_iload (q := 71) C0 5 rfl dX6_number_69 rfl ?_
          refine J_bipush (q := 73) (v := 10) C0 dX6_number_71 rfl rfl ?_
          refine J_imul (q := 74) C0 dX6_number_73 rfl ?_
          refine J_aload_n (q := 75) C0 0 rfl rfl dX6_number_74 rfl trivial ?_
          refine J_getR (q := 78) C0 fl_X6_9_1 rfl (h0) rfl dX6_number_75 rfl ?_
          refine J_aload_n (q := 79) C0 0 rfl rfl dX6_number_78 rfl trivial ?_
          refine J_getI (q := 82) C0 fl_X6_19_1 rfl (h0) rfl dX6_number_79 rfl ?_
          refine J_iload (q := 84) C0 4 rfl dX6_number_82 rfl ?_
          refine J_iadd (q := 85) C0 dX6_number_84 rfl ?_
          refine K_chk hf (fun c15 hf => ?_)
          refine J_iald (q := 86) C0 hb10 (ab10) c15 dX6_number_85 rfl ?_
          refine J_iadd (q := 87) C0 dX6_number_86 rfl ?_
          refine J_bipush (q := 89) (v := 48) C0 dX6_number_87 rfl rfl ?_
          refine J_isub (q := 90) C0 dX6_number_89 rfl ?_
          refine J_istore (q := 92) (lv' := [(5, vi ((((v5) * (10)) + (sg_I σ b10 ((sg_I σ a0 2) + (v4)).toNatClampNeg)) - (48))), (0, vr (some a0)), (1, vi (v1)), (2, vi (v2)), (3, vi (v3)), (4, vi (v4)), (6, vi (v6))]) C0 (G_nl C1 (by decide)) dX6_number_90 rfl rfl ?_
          refine J_iinc (q := 95) (v := v4 + 1) (lv' := [(4, vi (v4 + 1)), (5, vi ((((v5) * (10)) + (sg_I σ b10 ((sg_I σ a0 2) + (v4)).toNatClampNeg)) - (48))), (0, vr (some a0)), (1, vi (v1)), (2, vi (v2)), (3, vi (v3)), (6, vi (v6))]) C0 5 rfl rfl (G_nl C1 (by decide)) dX6_number_92 rfl rfl ?_
          refine J_goto (q := 23) C0 dX6_number_95 (by decide) ?_
          refine J_sub (lv' := [(0, vr (some a0)), (1, vi (v1)), (2, vi (v2)), (3, vi (v3)), (4, vi (v4 + 1)), (5, vi ((((v5) * (10)) + (sg_I σ b10 ((sg_I σ a0 2) + (v4)).toNatClampNeg)) - (48))), (6, vi (v6))]) [2, 3, 4, 5, 0, 1, 6] rfl ?_
          exact ih (v1) (v2) (v3) (v4 + 1) ((((v5) * (10)) + (sg_I σ b10 ((sg_I σ a0 2) + (v4)).toNatClampNeg)) - (48)) (v6) σ (hT) (hE) (h0)  hf
set_option maxHeartbeats 4000000 in
set_option maxRecDepth 100000 in
theorem t_X6_number_k1 (N : Nat) (a0 : Nat) (x1 : Int32) (x2 : Int32) (x3 : Int32) {σ : Sg} (hT : sg_T σ) (h0 : is_A σ a0 1) {r : (Int32 × Sg)} (hf : f_X6_number N a0 x1 x2 x3 σ = some r) : Ct yX6_number cX6_number 8 (some .int) 1 21 0 0 [vr (some a0), vi x1, vi x2, vi x3] σ (fun r_ τ_ => (r_ = some (vi r.1)) ∧ τ_ = r.2 ∧ sg_T τ_ ∧ sg_E σ τ_) := by
  refine Ct.of (by decide +kernel) (Nat.le_of_ble_eq_true rfl) (fun Γ C1 => ?_)
  have C0 := C1.1
  have hE : sg_E σ σ := sg_E.rf
  unfold f_X6_number at hf
  show J_ Γ 0 [(0, vr (some a0)), (1, vi (x1)), (2, vi (x2)), (3, vi (x3))] [] σ 0 0
  refine J_iconst (q := 1) (v := 0) C0 dX6_number_0 rfl rfl ?_
  refine J_istore (q := 3) (lv' := [(4, vi (0)), (0, vr (some a0)), (1, vi (x1)), (2, vi (x2)), (3, vi (x3))]) C0 (G_nl C1 (by decide)) dX6_number_1 rfl rfl ?_
  refine J_iconst (q := 4) (v := 0) C0 dX6_number_3 rfl rfl ?_
  refine J_istore (q := 6) (lv' := [(5, vi (0)), (4, vi (0)), (0, vr (some a0)), (1, vi (x1)), (2, vi (x2)), (3, vi (x3))]) C0 (G_nl C1 (by decide)) dX6_number_4 rfl rfl ?_
  refine J_aload_n (q := 7) C0 2 rfl rfl dX6_number_6 rfl trivial ?_
  refine J_getI (q := 10) C0 fl_X6_15_1 rfl (h0) rfl dX6_number_7 rfl ?_
  refine J_aload_n (q := 11) C0 2 rfl rfl dX6_number_10 rfl trivial ?_
  refine J_getI (q := 14) C0 fl_X6_19_1 rfl (h0) rfl dX6_number_11 rfl ?_
  refine J_iload_n (q := 15) C0 3 rfl rfl dX6_number_14 rfl ?_
  refine J_iadd (q := 16) C0 dX6_number_15 rfl ?_
  refine J_iconst (q := 17) (v := 1) C0 dX6_number_16 rfl rfl ?_
  refine J_iadd (q := 18) C0 dX6_number_17 rfl ?_
  refine K_some hf (fun p1 hp1 hf => ?_)
  refine J_callS (q := 21) (as := [vi (sg_I σ a0 1), vi (((sg_I σ a0 2) + (x1)) + (1))]) (rest := []) C0 (t_J9_min_7cf53 (sg_I σ a0 1) (((sg_I σ a0 2) + (x1)) + (1))  hp1) ml_J9_min_7cf53 lk_X6_22 sm_J9_min_7cf53 dX6_number_18 rfl rfl rfl (by simp [ac_]) C1.room (by decide) (by decide) (by decide) (by decide) (fun r_ τ_ hQ => ?_)
  obtain ⟨rfl, ht_⟩ := hQ; have ht_ := ht_.symm; subst ht_
  show J_ Γ 21 [(5, vi (0)), (4, vi (0)), (0, vr (some a0)), (1, vi (x1)), (2, vi (x2)), (3, vi (x3))] [vi (p1)] σ 0 0
  refine J_istore (q := 23) (lv' := [(6, vi (p1)), (5, vi (0)), (4, vi (0)), (0, vr (some a0)), (1, vi (x1)), (2, vi (x2)), (3, vi (x3))]) C0 (G_nl C1 (by decide)) dX6_number_21 rfl rfl ?_
  refine J_sub (lv' := [(0, vr (some a0)), (1, vi (x1)), (2, vi (x2)), (3, vi (x3)), (4, vi (0)), (5, vi (0)), (6, vi (p1))]) [3, 4, 5, 6, 2, 1, 0] rfl ?_
  exact t_X6_number_L23_k1 C1    N (x1) (x2) (x3) (0) (0) (p1) σ (hT) (hE) (h0)  hf
set_option maxHeartbeats 4000000 in
set_option maxRecDepth 100000 in
theorem t_X6_number_B161_k3 {N : Nat} {a0 : Nat} {Γ : Gm} {σ0 : Sg} {r : (Int32 × Sg)} (C1 : CM Γ cX6_number RX6 8 (some .int) 1 21 0 0 (fun r_ τ_ => (r_ = some (vi r.1)) ∧ τ_ = r.2 ∧ sg_T τ_ ∧ sg_E σ0 τ_)) (v5 : Int32) (v7 : Int32) (s0 : Int32) (s1 : Int32) (s2 : Option Nat) (σ : Sg) (hT : sg_T σ) (hE : sg_E σ0 σ) (h0 : is_A σ a0 3) (g_s2 : is_O σ s2 3) (hf : f_X6_number_B161 N a0  v5 v7 s0 s1 s2 σ = some r) : J_ Γ 161 [(0, vr (some a0)), (5, vi (v5)), (7, vi (v7))] [vi (s0), vi (s1), vr (s2)] σ 0 0 := by
  have C0 := C1.1
  unfold f_X6_number_B161 at hf
  refine J_iadd (q := 162) C0 dX6_number_161 rfl ?_
  refine K_some hf (fun b7 hb7 hf => ?_)
  have ab7 : is_A σ b7 3 := (g_s2) b7 hb7
  refine J_putI (q := 165) C0 fl_X6_19_3 hb7 (ab7) rfl dX6_number_162 rfl ?_
  refine J_iload (q := 167) C0 2 rfl dX6_number_165 rfl ?_
  refine J_if_eq (t := 175) (q := 170) C0 dX6_number_167 (by decide) rfl hf (fun c8 hf => ?_) (fun c8 hf => ?_)
  · refine J_iconst (q := 176) (v := (-1)) C0 dX6_number_175 rfl rfl ?_
    obtain rfl := Option.some.inj hf; exact J_iret C1 dX6_number_176 rfl (Nat.zero_le _) (Nat.zero_le _) ⟨rfl, rfl, (hT).putI, (hE).putI⟩
  · refine J_iload (q := 172) C0 1 rfl dX6_number_170 rfl ?_
    refine J_goto (q := 176) C0 dX6_number_172 (by decide) ?_
    obtain rfl := Option.some.inj hf; exact J_iret C1 dX6_number_176 rfl (Nat.zero_le _) (Nat.zero_le _) ⟨rfl, rfl, (hT).putI, (hE).putI⟩
set_option maxHeartbeats 4000000 in
set_option maxRecDepth 100000 in
theorem t_X6_number_B140_k3 {N : Nat} {a0 : Nat} {Γ : Gm} {σ0 : Sg} {r : (Int32 × Sg)} (C1 : CM Γ cX6_number RX6 8 (some .int) 1 21 0 0 (fun r_ τ_ => (r_ = some (vi r.1)) ∧ τ_ = r.2 ∧ sg_T τ_ ∧ sg_E σ0 τ_)) (v4 : Int32) (v5 : Int32) (s0 : Int32) (σ : Sg) (hT : sg_T σ) (hE : sg_E σ0 σ) (h0 : is_A σ a0 3) (hf : f_X6_number_B140 N a0  v4 v5 s0 σ = some r) : J_ Γ 140 [(0, vr (some a0)), (4, vi (v4)), (5, vi (v5))] [vi (s0)] σ 0 0 := by
  have C0 := C1.1
  unfold f_X6_number_B140 at hf
  refine J_istore (q := 142) (lv' := [(7, vi (s0)), (0, vr (some a0)), (4, vi (v4)), (5, vi (v5))]) C0 (G_nl C1 (by decide)) dX6_number_140 rfl rfl ?_
  refine J_aload_n (q := 143) C0 1 rfl rfl dX6_number_142 rfl trivial ?_
  refine J_dup (q := 144) C0 dX6_number_143 rfl rfl ?_
  refine J_getI (q := 147) C0 fl_X6_19_3 rfl (h0) rfl dX6_number_144 rfl ?_
  refine J_iload (q := 149) C0 0 rfl dX6_number_147 rfl ?_
  refine J_if_eq (t := 157) (q := 152) C0 dX6_number_149 (by decide) rfl hf (fun c6 hf => ?_) (fun c6 hf => ?_)
  · refine J_iload (q := 159) C0 2 rfl dX6_number_157 rfl ?_
    refine J_iconst (q := 160) (v := 1) C0 dX6_number_159 rfl rfl ?_
    refine J_isub (q := 161) C0 dX6_number_160 rfl ?_
    refine J_sub (lv' := [(0, vr (some a0)), (5, vi (v5)), (7, vi (s0))]) [1, 3, 0] rfl ?_
    exact t_X6_number_B161_k3 C1    (v5) (s0) ((v4) - (1)) (sg_I σ a0 2) (some a0) σ (hT) (hE) (h0) (is_O.some (h0)) hf
  · refine J_iload (q := 154) C0 2 rfl dX6_number_152 rfl ?_
    refine J_goto (q := 161) C0 dX6_number_154 (by decide) ?_
    refine J_sub (lv' := [(0, vr (some a0)), (5, vi (v5)), (7, vi (s0))]) [1, 3, 0] rfl ?_
    exact t_X6_number_B161_k3 C1    (v5) (s0) (v4) (sg_I σ a0 2) (some a0) σ (hT) (hE) (h0) (is_O.some (h0)) hf
set_option maxHeartbeats 4000000 in
set_option maxRecDepth 100000 in
theorem t_X6_number_B139_k3 {N : Nat} {a0 : Nat} {Γ : Gm} {σ0 : Sg} {r : (Int32 × Sg)} (C1 : CM Γ cX6_number RX6 8 (some .int) 1 21 0 0 (fun r_ τ_ => (r_ = some (vi r.1)) ∧ τ_ = r.2 ∧ sg_T τ_ ∧ sg_E σ0 τ_)) (v4 : Int32) (v5 : Int32) (σ : Sg) (hT : sg_T σ) (hE : sg_E σ0 σ) (h0 : is_A σ a0 3) (hf : f_X6_number_B139 N a0  v4 v5 σ = some r) : J_ Γ 139 [(0, vr (some a0)), (4, vi (v4)), (5, vi (v5))] [] σ 0 0 := by
  have C0 := C1.1
  unfold f_X6_number_B139 at hf
  refine J_iconst (q := 140) (v := 0) C0 dX6_number_139 rfl rfl ?_
  exact t_X6_number_B140_k3 C1    (v4) (v5) (0) σ (hT) (hE) (h0)  hf
set_option maxHeartbeats 4000000 in
set_option maxRecDepth 100000 in
theorem t_X6_number_B98_k3 {N : Nat} {a0 : Nat} {Γ : Gm} {σ0 : Sg} {r : (Int32 × Sg)} (C1 : CM Γ cX6_number RX6 8 (some .int) 1 21 0 0 (fun r_ τ_ => (r_ = some (vi r.1)) ∧ τ_ = r.2 ∧ sg_T τ_ ∧ sg_E σ0 τ_)) (v1 : Int32) (v2 : Int32) (v3 : Int32) (v4 : Int32) (v5 : Int32) (σ : Sg) (hT : sg_T σ) (hE : sg_E σ0 σ) (h0 : is_A σ a0 3) (hf : f_X6_number_B98 N a0  v1 v2 v3 v4 v5 σ = some r) : J_ Γ 98 [(0, vr (some a0)), (1, vi (v1)), (2, vi (v2)), (3, vi (v3)), (4, vi (v4)), (5, vi (v5))] [] σ 0 0 := by
  have C0 := C1.1
  unfold f_X6_number_B98 at hf
  refine J_iload (q := 100) C0 4 rfl dX6_number_98 rfl ?_
  refine J_if_ne (t := 105) (q := 103) C0 dX6_number_100 (by decide) rfl hf (fun c3 hf => ?_) (fun c3 hf => ?_)
  · refine J_iload (q := 107) C0 4 rfl dX6_number_105 rfl ?_
    refine J_iload_n (q := 108) C0 1 rfl rfl dX6_number_107 rfl ?_
    refine J_icmp_le (t := 123) (q := 111) C0 dX6_number_108 (by decide) rfl hf (fun c4 hf => ?_) (fun c4 hf => ?_)
    · refine J_iload (q := 125) C0 5 rfl dX6_number_123 rfl ?_
      refine J_iload_n (q := 126) C0 2 rfl rfl dX6_number_125 rfl ?_
      refine J_icmp_lt (t := 139) (q := 129) C0 dX6_number_126 (by decide) rfl hf (fun c5 hf => ?_) (fun c5 hf => ?_)
      · refine J_sub (lv' := [(0, vr (some a0)), (4, vi (v4)), (5, vi (v5))]) [0, 4, 5] rfl ?_
        exact t_X6_number_B139_k3 C1    (v4) (v5) σ (hT) (hE) (h0)  hf
      · refine J_iload (q := 131) C0 5 rfl dX6_number_129 rfl ?_
        refine J_iload_n (q := 132) C0 3 rfl rfl dX6_number_131 rfl ?_
        refine J_icmp_gt (t := 139) (q := 135) C0 dX6_number_132 (by decide) rfl hf (fun c9 hf => ?_) (fun c9 hf => ?_)
        · refine J_sub (lv' := [(0, vr (some a0)), (4, vi (v4)), (5, vi (v5))]) [0, 4, 5] rfl ?_
          exact t_X6_number_B139_k3 C1    (v4) (v5) σ (hT) (hE) (h0)  hf
        · refine J_iconst (q := 136) (v := 1) C0 dX6_number_135 rfl rfl ?_
          refine J_goto (q := 140) C0 dX6_number_136 (by decide) ?_
          refine J_sub (lv' := [(0, vr (some a0)), (4, vi (v4)), (5, vi (v5))]) [0, 4, 5] rfl ?_
          exact t_X6_number_B140_k3 C1    (v4) (v5) (1) σ (hT) (hE) (h0)  hf
    · refine J_aload_n (q := 112) C0 0 rfl rfl dX6_number_111 rfl trivial ?_
      refine J_dup (q := 113) C0 dX6_number_112 rfl rfl ?_
      refine J_getI (q := 116) C0 fl_X6_19_3 rfl (h0) rfl dX6_number_113 rfl ?_
      refine J_iload_n (q := 117) C0 1 rfl rfl dX6_number_116 rfl ?_
      refine J_iadd (q := 118) C0 dX6_number_117 rfl ?_
      refine J_putI (q := 121) C0 fl_X6_19_3 rfl (h0) rfl dX6_number_118 rfl ?_
      refine J_iconst (q := 122) (v := (-1)) C0 dX6_number_121 rfl rfl ?_
      obtain rfl := Option.some.inj hf; exact J_iret C1 dX6_number_122 rfl (Nat.zero_le _) (Nat.zero_le _) ⟨rfl, rfl, (hT).putI, (hE).putI⟩
  · refine J_iconst (q := 104) (v := (-1)) C0 dX6_number_103 rfl rfl ?_
    obtain rfl := Option.some.inj hf; exact J_iret C1 dX6_number_104 rfl (Nat.zero_le _) (Nat.zero_le _) ⟨rfl, rfl, hT, hE⟩
set_option maxHeartbeats 4000000 in
set_option maxRecDepth 100000 in
theorem t_X6_number_L23_k3 {N : Nat} {a0 : Nat} {Γ : Gm} {σ0 : Sg} {r : (Int32 × Sg)} (C1 : CM Γ cX6_number RX6 8 (some .int) 1 21 0 0 (fun r_ τ_ => (r_ = some (vi r.1)) ∧ τ_ = r.2 ∧ sg_T τ_ ∧ sg_E σ0 τ_)) : ∀ (n : Nat) (v1 : Int32) (v2 : Int32) (v3 : Int32) (v4 : Int32) (v5 : Int32) (v6 : Int32) (σ : Sg), sg_T σ → sg_E σ0 σ → is_A σ a0 3 → f_X6_number_L23 N a0  n v1 v2 v3 v4 v5 v6 σ = some r → J_ Γ 23 [(0, vr (some a0)), (1, vi (v1)), (2, vi (v2)), (3, vi (v3)), (4, vi (v4)), (5, vi (v5)), (6, vi (v6))] [] σ 0 0 := by
  have C0 := C1.1
  intro n
  induction n with
  | zero => intro v1 v2 v3 v4 v5 v6 σ hT hE h0  hf; unfold f_X6_number_L23 at hf; cases hf
  | succ n ih =>
    intro v1 v2 v3 v4 v5 v6 σ hT hE h0  hf
    rw [f_X6_number_L23] at hf
    refine J_aload_n (q := 24) C0 0 rfl rfl dX6_number_23 rfl trivial ?_
    refine J_getI (q := 27) C0 fl_X6_19_3 rfl (h0) rfl dX6_number_24 rfl ?_
    refine J_iload (q := 29) C0 4 rfl dX6_number_27 rfl ?_
    refine J_iadd (q := 30) C0 dX6_number_29 rfl ?_
    refine J_iload (q := 32) C0 6 rfl dX6_number_30 rfl ?_
    refine J_icmp_ge (t := 98) (q := 35) C0 dX6_number_32 (by decide) rfl hf (fun c2 hf => ?_) (fun c2 hf => ?_)
    · refine J_sub (lv' := [(0, vr (some a0)), (1, vi (v1)), (2, vi (v2)), (3, vi (v3)), (4, vi (v4)), (5, vi (v5))]) [0, 1, 2, 3, 4, 5] rfl ?_
      exact t_X6_number_B98_k3 C1    (v1) (v2) (v3) (v4) (v5) σ (hT) (hE) (h0)  hf
    · refine J_aload_n (q := 36) C0 0 rfl rfl dX6_number_35 rfl trivial ?_
      refine J_getR (q := 39) C0 fl_X6_9_3 rfl (h0) rfl dX6_number_36 rfl ?_
      refine J_aload_n (q := 40) C0 0 rfl rfl dX6_number_39 rfl trivial ?_
      refine J_getI (q := 43) C0 fl_X6_19_3 rfl (h0) rfl dX6_number_40 rfl ?_
      refine J_iload (q := 45) C0 4 rfl dX6_number_43 rfl ?_
      refine J_iadd (q := 46) C0 dX6_number_45 rfl ?_
      refine K_some hf (fun b10 hb10 hf => ?_)
      have ab10 : is_A σ b10 12 := ((sg_T.op hT (j := 0) (h0) rfl)) b10 hb10
      refine K_chk hf (fun c11 hf => ?_)
      refine J_iald (q := 47) C0 hb10 (ab10) c11 dX6_number_46 rfl ?_
      refine J_bipush (q := 49) (v := 48) C0 dX6_number_47 rfl rfl ?_
      refine J_icmp_lt (t := 98) (q := 52) C0 dX6_number_49 (by decide) rfl hf (fun c12 hf => ?_) (fun c12 hf => ?_)
      · refine J_sub (lv' := [(0, vr (some a0)), (1, vi (v1)), (2, vi (v2)), (3, vi (v3)), (4, vi (v4)), (5, vi (v5))]) [0, 1, 2, 3, 4, 5] rfl ?_
        exact t_X6_number_B98_k3 C1    (v1) (v2) (v3) (v4) (v5) σ (hT) (hE) (h0)  hf
      · refine J_aload_n (q := 53) C0 0 rfl rfl dX6_number_52 rfl trivial ?_
        refine J_getR (q := 56) C0 fl_X6_9_3 rfl (h0) rfl dX6_number_53 rfl ?_
        refine J_aload_n (q := 57) C0 0 rfl rfl dX6_number_56 rfl trivial ?_
        refine J_getI (q := 60) C0 fl_X6_19_3 rfl (h0) rfl dX6_number_57 rfl ?_
        refine J_iload (q := 62) C0 4 rfl dX6_number_60 rfl ?_
        refine J_iadd (q := 63) C0 dX6_number_62 rfl ?_
        refine K_chk hf (fun c13 hf => ?_)
        refine J_iald (q := 64) C0 hb10 (ab10) c13 dX6_number_63 rfl ?_
        refine J_bipush (q := 66) (v := 57) C0 dX6_number_64 rfl rfl ?_
        refine J_icmp_gt (t := 98) (q := 69) C0 dX6_number_66 (by decide) rfl hf (fun c14 hf => ?_) (fun c14 hf => ?_)
        · refine J_sub (lv' := [(0, vr (some a0)), (1, vi (v1)), (2, vi (v2)), (3, vi (v3)), (4, vi (v4)), (5, vi (v5))]) [0, 1, 2, 3, 4, 5] rfl ?_
          exact t_X6_number_B98_k3 C1    (v1) (v2) (v3) (v4) (v5) σ (hT) (hE) (h0)  hf
        · refine J_iload (q := 71) C0 5 rfl dX6_number_69 rfl ?_
          refine J_bipush (q := 73) (v := 10) C0 dX6_number_71 rfl rfl ?_
          refine J_imul (q := 74) C0 dX6_number_73 rfl ?_
          refine J_aload_n (q := 75) C0 0 rfl rfl dX6_number_74 rfl trivial ?_
          refine J_getR (q := 78) C0 fl_X6_9_3 rfl (h0) rfl dX6_number_75 rfl ?_
          refine J_aload_n (q := 79) C0 0 rfl rfl dX6_number_78 rfl trivial ?_
          refine J_getI (q := 82) C0 fl_X6_19_3 rfl (h0) rfl dX6_number_79 rfl ?_
          refine J_iload (q := 84) C0 4 rfl dX6_number_82 rfl ?_
          refine J_iadd (q := 85) C0 dX6_number_84 rfl ?_
          refine K_chk hf (fun c15 hf => ?_)
          refine J_iald (q := 86) C0 hb10 (ab10) c15 dX6_number_85 rfl ?_
          refine J_iadd (q := 87) C0 dX6_number_86 rfl ?_
          refine J_bipush (q := 89) (v := 48) C0 dX6_number_87 rfl rfl ?_
          refine J_isub (q := 90) C0 dX6_number_89 rfl ?_
          refine J_istore (q := 92) (lv' := [(5, vi ((((v5) * (10)) + (sg_I σ b10 ((sg_I σ a0 2) + (v4)).toNatClampNeg)) - (48))), (0, vr (some a0)), (1, vi (v1)), (2, vi (v2)), (3, vi (v3)), (4, vi (v4)), (6, vi (v6))]) C0 (G_nl C1 (by decide)) dX6_number_90 rfl rfl ?_
          refine J_iinc (q := 95) (v := v4 + 1) (lv' := [(4, vi (v4 + 1)), (5, vi ((((v5) * (10)) + (sg_I σ b10 ((sg_I σ a0 2) + (v4)).toNatClampNeg)) - (48))), (0, vr (some a0)), (1, vi (v1)), (2, vi (v2)), (3, vi (v3)), (6, vi (v6))]) C0 5 rfl rfl (G_nl C1 (by decide)) dX6_number_92 rfl rfl ?_
          refine J_goto (q := 23) C0 dX6_number_95 (by decide) ?_
          refine J_sub (lv' := [(0, vr (some a0)), (1, vi (v1)), (2, vi (v2)), (3, vi (v3)), (4, vi (v4 + 1)), (5, vi ((((v5) * (10)) + (sg_I σ b10 ((sg_I σ a0 2) + (v4)).toNatClampNeg)) - (48))), (6, vi (v6))]) [2, 3, 4, 5, 0, 1, 6] rfl ?_
          exact ih (v1) (v2) (v3) (v4 + 1) ((((v5) * (10)) + (sg_I σ b10 ((sg_I σ a0 2) + (v4)).toNatClampNeg)) - (48)) (v6) σ (hT) (hE) (h0)  hf
set_option maxHeartbeats 4000000 in
set_option maxRecDepth 100000 in
theorem t_X6_number_k3 (N : Nat) (a0 : Nat) (x1 : Int32) (x2 : Int32) (x3 : Int32) {σ : Sg} (hT : sg_T σ) (h0 : is_A σ a0 3) {r : (Int32 × Sg)} (hf : f_X6_number N a0 x1 x2 x3 σ = some r) : Ct yX6_number cX6_number 8 (some .int) 1 21 0 0 [vr (some a0), vi x1, vi x2, vi x3] σ (fun r_ τ_ => (r_ = some (vi r.1)) ∧ τ_ = r.2 ∧ sg_T τ_ ∧ sg_E σ τ_) := by
  refine Ct.of (by decide +kernel) (Nat.le_of_ble_eq_true rfl) (fun Γ C1 => ?_)
  have C0 := C1.1
  have hE : sg_E σ σ := sg_E.rf
  unfold f_X6_number at hf
  show J_ Γ 0 [(0, vr (some a0)), (1, vi (x1)), (2, vi (x2)), (3, vi (x3))] [] σ 0 0
  refine J_iconst (q := 1) (v := 0) C0 dX6_number_0 rfl rfl ?_
  refine J_istore (q := 3) (lv' := [(4, vi (0)), (0, vr (some a0)), (1, vi (x1)), (2, vi (x2)), (3, vi (x3))]) C0 (G_nl C1 (by decide)) dX6_number_1 rfl rfl ?_
  refine J_iconst (q := 4) (v := 0) C0 dX6_number_3 rfl rfl ?_
  refine J_istore (q := 6) (lv' := [(5, vi (0)), (4, vi (0)), (0, vr (some a0)), (1, vi (x1)), (2, vi (x2)), (3, vi (x3))]) C0 (G_nl C1 (by decide)) dX6_number_4 rfl rfl ?_
  refine J_aload_n (q := 7) C0 2 rfl rfl dX6_number_6 rfl trivial ?_
  refine J_getI (q := 10) C0 fl_X6_15_3 rfl (h0) rfl dX6_number_7 rfl ?_
  refine J_aload_n (q := 11) C0 2 rfl rfl dX6_number_10 rfl trivial ?_
  refine J_getI (q := 14) C0 fl_X6_19_3 rfl (h0) rfl dX6_number_11 rfl ?_
  refine J_iload_n (q := 15) C0 3 rfl rfl dX6_number_14 rfl ?_
  refine J_iadd (q := 16) C0 dX6_number_15 rfl ?_
  refine J_iconst (q := 17) (v := 1) C0 dX6_number_16 rfl rfl ?_
  refine J_iadd (q := 18) C0 dX6_number_17 rfl ?_
  refine K_some hf (fun p1 hp1 hf => ?_)
  refine J_callS (q := 21) (as := [vi (sg_I σ a0 1), vi (((sg_I σ a0 2) + (x1)) + (1))]) (rest := []) C0 (t_J9_min_7cf53 (sg_I σ a0 1) (((sg_I σ a0 2) + (x1)) + (1))  hp1) ml_J9_min_7cf53 lk_X6_22 sm_J9_min_7cf53 dX6_number_18 rfl rfl rfl (by simp [ac_]) C1.room (by decide) (by decide) (by decide) (by decide) (fun r_ τ_ hQ => ?_)
  obtain ⟨rfl, ht_⟩ := hQ; have ht_ := ht_.symm; subst ht_
  show J_ Γ 21 [(5, vi (0)), (4, vi (0)), (0, vr (some a0)), (1, vi (x1)), (2, vi (x2)), (3, vi (x3))] [vi (p1)] σ 0 0
  refine J_istore (q := 23) (lv' := [(6, vi (p1)), (5, vi (0)), (4, vi (0)), (0, vr (some a0)), (1, vi (x1)), (2, vi (x2)), (3, vi (x3))]) C0 (G_nl C1 (by decide)) dX6_number_21 rfl rfl ?_
  refine J_sub (lv' := [(0, vr (some a0)), (1, vi (x1)), (2, vi (x2)), (3, vi (x3)), (4, vi (0)), (5, vi (0)), (6, vi (p1))]) [3, 4, 5, 6, 2, 1, 0] rfl ?_
  exact t_X6_number_L23_k3 C1    N (x1) (x2) (x3) (0) (0) (p1) σ (hT) (hE) (h0)  hf
set_option maxHeartbeats 4000000 in
set_option maxRecDepth 100000 in
theorem t_X6_number_B161_k8 {N : Nat} {a0 : Nat} {Γ : Gm} {σ0 : Sg} {r : (Int32 × Sg)} (C1 : CM Γ cX6_number RX6 8 (some .int) 1 21 0 0 (fun r_ τ_ => (r_ = some (vi r.1)) ∧ τ_ = r.2 ∧ sg_T τ_ ∧ sg_E σ0 τ_)) (v5 : Int32) (v7 : Int32) (s0 : Int32) (s1 : Int32) (s2 : Option Nat) (σ : Sg) (hT : sg_T σ) (hE : sg_E σ0 σ) (h0 : is_A σ a0 8) (g_s2 : is_O σ s2 8) (hf : f_X6_number_B161 N a0  v5 v7 s0 s1 s2 σ = some r) : J_ Γ 161 [(0, vr (some a0)), (5, vi (v5)), (7, vi (v7))] [vi (s0), vi (s1), vr (s2)] σ 0 0 := by
  have C0 := C1.1
  unfold f_X6_number_B161 at hf
  refine J_iadd (q := 162) C0 dX6_number_161 rfl ?_
  refine K_some hf (fun b7 hb7 hf => ?_)
  have ab7 : is_A σ b7 8 := (g_s2) b7 hb7
  refine J_putI (q := 165) C0 fl_X6_19_8 hb7 (ab7) rfl dX6_number_162 rfl ?_
  refine J_iload (q := 167) C0 2 rfl dX6_number_165 rfl ?_
  refine J_if_eq (t := 175) (q := 170) C0 dX6_number_167 (by decide) rfl hf (fun c8 hf => ?_) (fun c8 hf => ?_)
  · refine J_iconst (q := 176) (v := (-1)) C0 dX6_number_175 rfl rfl ?_
    obtain rfl := Option.some.inj hf; exact J_iret C1 dX6_number_176 rfl (Nat.zero_le _) (Nat.zero_le _) ⟨rfl, rfl, (hT).putI, (hE).putI⟩
  · refine J_iload (q := 172) C0 1 rfl dX6_number_170 rfl ?_
    refine J_goto (q := 176) C0 dX6_number_172 (by decide) ?_
    obtain rfl := Option.some.inj hf; exact J_iret C1 dX6_number_176 rfl (Nat.zero_le _) (Nat.zero_le _) ⟨rfl, rfl, (hT).putI, (hE).putI⟩
set_option maxHeartbeats 4000000 in
set_option maxRecDepth 100000 in
theorem t_X6_number_B140_k8 {N : Nat} {a0 : Nat} {Γ : Gm} {σ0 : Sg} {r : (Int32 × Sg)} (C1 : CM Γ cX6_number RX6 8 (some .int) 1 21 0 0 (fun r_ τ_ => (r_ = some (vi r.1)) ∧ τ_ = r.2 ∧ sg_T τ_ ∧ sg_E σ0 τ_)) (v4 : Int32) (v5 : Int32) (s0 : Int32) (σ : Sg) (hT : sg_T σ) (hE : sg_E σ0 σ) (h0 : is_A σ a0 8) (hf : f_X6_number_B140 N a0  v4 v5 s0 σ = some r) : J_ Γ 140 [(0, vr (some a0)), (4, vi (v4)), (5, vi (v5))] [vi (s0)] σ 0 0 := by
  have C0 := C1.1
  unfold f_X6_number_B140 at hf
  refine J_istore (q := 142) (lv' := [(7, vi (s0)), (0, vr (some a0)), (4, vi (v4)), (5, vi (v5))]) C0 (G_nl C1 (by decide)) dX6_number_140 rfl rfl ?_
  refine J_aload_n (q := 143) C0 1 rfl rfl dX6_number_142 rfl trivial ?_
  refine J_dup (q := 144) C0 dX6_number_143 rfl rfl ?_
  refine J_getI (q := 147) C0 fl_X6_19_8 rfl (h0) rfl dX6_number_144 rfl ?_
  refine J_iload (q := 149) C0 0 rfl dX6_number_147 rfl ?_
  refine J_if_eq (t := 157) (q := 152) C0 dX6_number_149 (by decide) rfl hf (fun c6 hf => ?_) (fun c6 hf => ?_)
  · refine J_iload (q := 159) C0 2 rfl dX6_number_157 rfl ?_
    refine J_iconst (q := 160) (v := 1) C0 dX6_number_159 rfl rfl ?_
    refine J_isub (q := 161) C0 dX6_number_160 rfl ?_
    refine J_sub (lv' := [(0, vr (some a0)), (5, vi (v5)), (7, vi (s0))]) [1, 3, 0] rfl ?_
    exact t_X6_number_B161_k8 C1    (v5) (s0) ((v4) - (1)) (sg_I σ a0 2) (some a0) σ (hT) (hE) (h0) (is_O.some (h0)) hf
  · refine J_iload (q := 154) C0 2 rfl dX6_number_152 rfl ?_
    refine J_goto (q := 161) C0 dX6_number_154 (by decide) ?_
    refine J_sub (lv' := [(0, vr (some a0)), (5, vi (v5)), (7, vi (s0))]) [1, 3, 0] rfl ?_
    exact t_X6_number_B161_k8 C1    (v5) (s0) (v4) (sg_I σ a0 2) (some a0) σ (hT) (hE) (h0) (is_O.some (h0)) hf
set_option maxHeartbeats 4000000 in
set_option maxRecDepth 100000 in
theorem t_X6_number_B139_k8 {N : Nat} {a0 : Nat} {Γ : Gm} {σ0 : Sg} {r : (Int32 × Sg)} (C1 : CM Γ cX6_number RX6 8 (some .int) 1 21 0 0 (fun r_ τ_ => (r_ = some (vi r.1)) ∧ τ_ = r.2 ∧ sg_T τ_ ∧ sg_E σ0 τ_)) (v4 : Int32) (v5 : Int32) (σ : Sg) (hT : sg_T σ) (hE : sg_E σ0 σ) (h0 : is_A σ a0 8) (hf : f_X6_number_B139 N a0  v4 v5 σ = some r) : J_ Γ 139 [(0, vr (some a0)), (4, vi (v4)), (5, vi (v5))] [] σ 0 0 := by
  have C0 := C1.1
  unfold f_X6_number_B139 at hf
  refine J_iconst (q := 140) (v := 0) C0 dX6_number_139 rfl rfl ?_
  exact t_X6_number_B140_k8 C1    (v4) (v5) (0) σ (hT) (hE) (h0)  hf
set_option maxHeartbeats 4000000 in
set_option maxRecDepth 100000 in
theorem t_X6_number_B98_k8 {N : Nat} {a0 : Nat} {Γ : Gm} {σ0 : Sg} {r : (Int32 × Sg)} (C1 : CM Γ cX6_number RX6 8 (some .int) 1 21 0 0 (fun r_ τ_ => (r_ = some (vi r.1)) ∧ τ_ = r.2 ∧ sg_T τ_ ∧ sg_E σ0 τ_)) (v1 : Int32) (v2 : Int32) (v3 : Int32) (v4 : Int32) (v5 : Int32) (σ : Sg) (hT : sg_T σ) (hE : sg_E σ0 σ) (h0 : is_A σ a0 8) (hf : f_X6_number_B98 N a0  v1 v2 v3 v4 v5 σ = some r) : J_ Γ 98 [(0, vr (some a0)), (1, vi (v1)), (2, vi (v2)), (3, vi (v3)), (4, vi (v4)), (5, vi (v5))] [] σ 0 0 := by
  have C0 := C1.1
  unfold f_X6_number_B98 at hf
  refine J_iload (q := 100) C0 4 rfl dX6_number_98 rfl ?_
  refine J_if_ne (t := 105) (q := 103) C0 dX6_number_100 (by decide) rfl hf (fun c3 hf => ?_) (fun c3 hf => ?_)
  · refine J_iload (q := 107) C0 4 rfl dX6_number_105 rfl ?_
    refine J_iload_n (q := 108) C0 1 rfl rfl dX6_number_107 rfl ?_
    refine J_icmp_le (t := 123) (q := 111) C0 dX6_number_108 (by decide) rfl hf (fun c4 hf => ?_) (fun c4 hf => ?_)
    · refine J_iload (q := 125) C0 5 rfl dX6_number_123 rfl ?_
      refine J_iload_n (q := 126) C0 2 rfl rfl dX6_number_125 rfl ?_
      refine J_icmp_lt (t := 139) (q := 129) C0 dX6_number_126 (by decide) rfl hf (fun c5 hf => ?_) (fun c5 hf => ?_)
      · refine J_sub (lv' := [(0, vr (some a0)), (4, vi (v4)), (5, vi (v5))]) [0, 4, 5] rfl ?_
        exact t_X6_number_B139_k8 C1    (v4) (v5) σ (hT) (hE) (h0)  hf
      · refine J_iload (q := 131) C0 5 rfl dX6_number_129 rfl ?_
        refine J_iload_n (q := 132) C0 3 rfl rfl dX6_number_131 rfl ?_
        refine J_icmp_gt (t := 139) (q := 135) C0 dX6_number_132 (by decide) rfl hf (fun c9 hf => ?_) (fun c9 hf => ?_)
        · refine J_sub (lv' := [(0, vr (some a0)), (4, vi (v4)), (5, vi (v5))]) [0, 4, 5] rfl ?_
          exact t_X6_number_B139_k8 C1    (v4) (v5) σ (hT) (hE) (h0)  hf
        · refine J_iconst (q := 136) (v := 1) C0 dX6_number_135 rfl rfl ?_
          refine J_goto (q := 140) C0 dX6_number_136 (by decide) ?_
          refine J_sub (lv' := [(0, vr (some a0)), (4, vi (v4)), (5, vi (v5))]) [0, 4, 5] rfl ?_
          exact t_X6_number_B140_k8 C1    (v4) (v5) (1) σ (hT) (hE) (h0)  hf
    · refine J_aload_n (q := 112) C0 0 rfl rfl dX6_number_111 rfl trivial ?_
      refine J_dup (q := 113) C0 dX6_number_112 rfl rfl ?_
      refine J_getI (q := 116) C0 fl_X6_19_8 rfl (h0) rfl dX6_number_113 rfl ?_
      refine J_iload_n (q := 117) C0 1 rfl rfl dX6_number_116 rfl ?_
      refine J_iadd (q := 118) C0 dX6_number_117 rfl ?_
      refine J_putI (q := 121) C0 fl_X6_19_8 rfl (h0) rfl dX6_number_118 rfl ?_
      refine J_iconst (q := 122) (v := (-1)) C0 dX6_number_121 rfl rfl ?_
      obtain rfl := Option.some.inj hf; exact J_iret C1 dX6_number_122 rfl (Nat.zero_le _) (Nat.zero_le _) ⟨rfl, rfl, (hT).putI, (hE).putI⟩
  · refine J_iconst (q := 104) (v := (-1)) C0 dX6_number_103 rfl rfl ?_
    obtain rfl := Option.some.inj hf; exact J_iret C1 dX6_number_104 rfl (Nat.zero_le _) (Nat.zero_le _) ⟨rfl, rfl, hT, hE⟩
set_option maxHeartbeats 4000000 in
set_option maxRecDepth 100000 in
theorem t_X6_number_L23_k8 {N : Nat} {a0 : Nat} {Γ : Gm} {σ0 : Sg} {r : (Int32 × Sg)} (C1 : CM Γ cX6_number RX6 8 (some .int) 1 21 0 0 (fun r_ τ_ => (r_ = some (vi r.1)) ∧ τ_ = r.2 ∧ sg_T τ_ ∧ sg_E σ0 τ_)) : ∀ (n : Nat) (v1 : Int32) (v2 : Int32) (v3 : Int32) (v4 : Int32) (v5 : Int32) (v6 : Int32) (σ : Sg), sg_T σ → sg_E σ0 σ → is_A σ a0 8 → f_X6_number_L23 N a0  n v1 v2 v3 v4 v5 v6 σ = some r → J_ Γ 23 [(0, vr (some a0)), (1, vi (v1)), (2, vi (v2)), (3, vi (v3)), (4, vi (v4)), (5, vi (v5)), (6, vi (v6))] [] σ 0 0 := by
  have C0 := C1.1
  intro n
  induction n with
  | zero => intro v1 v2 v3 v4 v5 v6 σ hT hE h0  hf; unfold f_X6_number_L23 at hf; cases hf
  | succ n ih =>
    intro v1 v2 v3 v4 v5 v6 σ hT hE h0  hf
    rw [f_X6_number_L23] at hf
    refine J_aload_n (q := 24) C0 0 rfl rfl dX6_number_23 rfl trivial ?_
    refine J_getI (q := 27) C0 fl_X6_19_8 rfl (h0) rfl dX6_number_24 rfl ?_
    refine J_iload (q := 29) C0 4 rfl dX6_number_27 rfl ?_
    refine J_iadd (q := 30) C0 dX6_number_29 rfl ?_
    refine J_iload (q := 32) C0 6 rfl dX6_number_30 rfl ?_
    refine J_icmp_ge (t := 98) (q := 35) C0 dX6_number_32 (by decide) rfl hf (fun c2 hf => ?_) (fun c2 hf => ?_)
    · refine J_sub (lv' := [(0, vr (some a0)), (1, vi (v1)), (2, vi (v2)), (3, vi (v3)), (4, vi (v4)), (5, vi (v5))]) [0, 1, 2, 3, 4, 5] rfl ?_
      exact t_X6_number_B98_k8 C1    (v1) (v2) (v3) (v4) (v5) σ (hT) (hE) (h0)  hf
    · refine J_aload_n (q := 36) C0 0 rfl rfl dX6_number_35 rfl trivial ?_
      refine J_getR (q := 39) C0 fl_X6_9_8 rfl (h0) rfl dX6_number_36 rfl ?_
      refine J_aload_n (q := 40) C0 0 rfl rfl dX6_number_39 rfl trivial ?_
      refine J_getI (q := 43) C0 fl_X6_19_8 rfl (h0) rfl dX6_number_40 rfl ?_
      refine J_iload (q := 45) C0 4 rfl dX6_number_43 rfl ?_
      refine J_iadd (q := 46) C0 dX6_number_45 rfl ?_
      refine K_some hf (fun b10 hb10 hf => ?_)
      have ab10 : is_A σ b10 12 := ((sg_T.op hT (j := 0) (h0) rfl)) b10 hb10
      refine K_chk hf (fun c11 hf => ?_)
      refine J_iald (q := 47) C0 hb10 (ab10) c11 dX6_number_46 rfl ?_
      refine J_bipush (q := 49) (v := 48) C0 dX6_number_47 rfl rfl ?_
      refine J_icmp_lt (t := 98) (q := 52) C0 dX6_number_49 (by decide) rfl hf (fun c12 hf => ?_) (fun c12 hf => ?_)
      · refine J_sub (lv' := [(0, vr (some a0)), (1, vi (v1)), (2, vi (v2)), (3, vi (v3)), (4, vi (v4)), (5, vi (v5))]) [0, 1, 2, 3, 4, 5] rfl ?_
        exact t_X6_number_B98_k8 C1    (v1) (v2) (v3) (v4) (v5) σ (hT) (hE) (h0)  hf
      · refine J_aload_n (q := 53) C0 0 rfl rfl dX6_number_52 rfl trivial ?_
        refine J_getR (q := 56) C0 fl_X6_9_8 rfl (h0) rfl dX6_number_53 rfl ?_
        refine J_aload_n (q := 57) C0 0 rfl rfl dX6_number_56 rfl trivial ?_
        refine J_getI (q := 60) C0 fl_X6_19_8 rfl (h0) rfl dX6_number_57 rfl ?_
        refine J_iload (q := 62) C0 4 rfl dX6_number_60 rfl ?_
        refine J_iadd (q := 63) C0 dX6_number_62 rfl ?_
        refine K_chk hf (fun c13 hf => ?_)
        refine J_iald (q := 64) C0 hb10 (ab10) c13 dX6_number_63 rfl ?_
        refine J_bipush (q := 66) (v := 57) C0 dX6_number_64 rfl rfl ?_
        refine J_icmp_gt (t := 98) (q := 69) C0 dX6_number_66 (by decide) rfl hf (fun c14 hf => ?_) (fun c14 hf => ?_)
        · refine J_sub (lv' := [(0, vr (some a0)), (1, vi (v1)), (2, vi (v2)), (3, vi (v3)), (4, vi (v4)), (5, vi (v5))]) [0, 1, 2, 3, 4, 5] rfl ?_
          exact t_X6_number_B98_k8 C1    (v1) (v2) (v3) (v4) (v5) σ (hT) (hE) (h0)  hf
        · refine J_iload (q := 71) C0 5 rfl dX6_number_69 rfl ?_
          refine J_bipush (q := 73) (v := 10) C0 dX6_number_71 rfl rfl ?_
          refine J_imul (q := 74) C0 dX6_number_73 rfl ?_
          refine J_aload_n (q := 75) C0 0 rfl rfl dX6_number_74 rfl trivial ?_
          refine J_getR (q := 78) C0 fl_X6_9_8 rfl (h0) rfl dX6_number_75 rfl ?_
          refine J_aload_n (q := 79) C0 0 rfl rfl dX6_number_78 rfl trivial ?_
          refine J_getI (q := 82) C0 fl_X6_19_8 rfl (h0) rfl dX6_number_79 rfl ?_
          refine J_iload (q := 84) C0 4 rfl dX6_number_82 rfl ?_
          refine J_iadd (q := 85) C0 dX6_number_84 rfl ?_
          refine K_chk hf (fun c15 hf => ?_)
          refine J_iald (q := 86) C0 hb10 (ab10) c15 dX6_number_85 rfl ?_
          refine J_iadd (q := 87) C0 dX6_number_86 rfl ?_
          refine J_bipush (q := 89) (v := 48) C0 dX6_number_87 rfl rfl ?_
          refine J_isub (q := 90) C0 dX6_number_89 rfl ?_
          refine J_istore (q := 92) (lv' := [(5, vi ((((v5) * (10)) + (sg_I σ b10 ((sg_I σ a0 2) + (v4)).toNatClampNeg)) - (48))), (0, vr (some a0)), (1, vi (v1)), (2, vi (v2)), (3, vi (v3)), (4, vi (v4)), (6, vi (v6))]) C0 (G_nl C1 (by decide)) dX6_number_90 rfl rfl ?_
          refine J_iinc (q := 95) (v := v4 + 1) (lv' := [(4, vi (v4 + 1)), (5, vi ((((v5) * (10)) + (sg_I σ b10 ((sg_I σ a0 2) + (v4)).toNatClampNeg)) - (48))), (0, vr (some a0)), (1, vi (v1)), (2, vi (v2)), (3, vi (v3)), (6, vi (v6))]) C0 5 rfl rfl (G_nl C1 (by decide)) dX6_number_92 rfl rfl ?_
          refine J_goto (q := 23) C0 dX6_number_95 (by decide) ?_
          refine J_sub (lv' := [(0, vr (some a0)), (1, vi (v1)), (2, vi (v2)), (3, vi (v3)), (4, vi (v4 + 1)), (5, vi ((((v5) * (10)) + (sg_I σ b10 ((sg_I σ a0 2) + (v4)).toNatClampNeg)) - (48))), (6, vi (v6))]) [2, 3, 4, 5, 0, 1, 6] rfl ?_
          exact ih (v1) (v2) (v3) (v4 + 1) ((((v5) * (10)) + (sg_I σ b10 ((sg_I σ a0 2) + (v4)).toNatClampNeg)) - (48)) (v6) σ (hT) (hE) (h0)  hf
set_option maxHeartbeats 4000000 in
set_option maxRecDepth 100000 in
theorem t_X6_number_k8 (N : Nat) (a0 : Nat) (x1 : Int32) (x2 : Int32) (x3 : Int32) {σ : Sg} (hT : sg_T σ) (h0 : is_A σ a0 8) {r : (Int32 × Sg)} (hf : f_X6_number N a0 x1 x2 x3 σ = some r) : Ct yX6_number cX6_number 8 (some .int) 1 21 0 0 [vr (some a0), vi x1, vi x2, vi x3] σ (fun r_ τ_ => (r_ = some (vi r.1)) ∧ τ_ = r.2 ∧ sg_T τ_ ∧ sg_E σ τ_) := by
  refine Ct.of (by decide +kernel) (Nat.le_of_ble_eq_true rfl) (fun Γ C1 => ?_)
  have C0 := C1.1
  have hE : sg_E σ σ := sg_E.rf
  unfold f_X6_number at hf
  show J_ Γ 0 [(0, vr (some a0)), (1, vi (x1)), (2, vi (x2)), (3, vi (x3))] [] σ 0 0
  refine J_iconst (q := 1) (v := 0) C0 dX6_number_0 rfl rfl ?_
  refine J_istore (q := 3) (lv' := [(4, vi (0)), (0, vr (some a0)), (1, vi (x1)), (2, vi (x2)), (3, vi (x3))]) C0 (G_nl C1 (by decide)) dX6_number_1 rfl rfl ?_
  refine J_iconst (q := 4) (v := 0) C0 dX6_number_3 rfl rfl ?_
  refine J_istore (q := 6) (lv' := [(5, vi (0)), (4, vi (0)), (0, vr (some a0)), (1, vi (x1)), (2, vi (x2)), (3, vi (x3))]) C0 (G_nl C1 (by decide)) dX6_number_4 rfl rfl ?_
  refine J_aload_n (q := 7) C0 2 rfl rfl dX6_number_6 rfl trivial ?_
  refine J_getI (q := 10) C0 fl_X6_15_8 rfl (h0) rfl dX6_number_7 rfl ?_
  refine J_aload_n (q := 11) C0 2 rfl rfl dX6_number_10 rfl trivial ?_
  refine J_getI (q := 14) C0 fl_X6_19_8 rfl (h0) rfl dX6_number_11 rfl ?_
  refine J_iload_n (q := 15) C0 3 rfl rfl dX6_number_14 rfl ?_
  refine J_iadd (q := 16) C0 dX6_number_15 rfl ?_
  refine J_iconst (q := 17) (v := 1) C0 dX6_number_16 rfl rfl ?_
  refine J_iadd (q := 18) C0 dX6_number_17 rfl ?_
  refine K_some hf (fun p1 hp1 hf => ?_)
  refine J_callS (q := 21) (as := [vi (sg_I σ a0 1), vi (((sg_I σ a0 2) + (x1)) + (1))]) (rest := []) C0 (t_J9_min_7cf53 (sg_I σ a0 1) (((sg_I σ a0 2) + (x1)) + (1))  hp1) ml_J9_min_7cf53 lk_X6_22 sm_J9_min_7cf53 dX6_number_18 rfl rfl rfl (by simp [ac_]) C1.room (by decide) (by decide) (by decide) (by decide) (fun r_ τ_ hQ => ?_)
  obtain ⟨rfl, ht_⟩ := hQ; have ht_ := ht_.symm; subst ht_
  show J_ Γ 21 [(5, vi (0)), (4, vi (0)), (0, vr (some a0)), (1, vi (x1)), (2, vi (x2)), (3, vi (x3))] [vi (p1)] σ 0 0
  refine J_istore (q := 23) (lv' := [(6, vi (p1)), (5, vi (0)), (4, vi (0)), (0, vr (some a0)), (1, vi (x1)), (2, vi (x2)), (3, vi (x3))]) C0 (G_nl C1 (by decide)) dX6_number_21 rfl rfl ?_
  refine J_sub (lv' := [(0, vr (some a0)), (1, vi (x1)), (2, vi (x2)), (3, vi (x3)), (4, vi (0)), (5, vi (0)), (6, vi (p1))]) [3, 4, 5, 6, 2, 1, 0] rfl ?_
  exact t_X6_number_L23_k8 C1    N (x1) (x2) (x3) (0) (0) (p1) σ (hT) (hE) (h0)  hf
def f_X7_addRow (a0 : Nat) (x1 : Int32) (σ : Sg) : Option Sg :=
  Option.bind (f_X11_round (sg_I σ a0 7) (60) ) fun p1 =>
  Option.bind (sg_R σ a0 6) fun b2 =>
  if (p1) < 0 ∨ sg_L σ b2 ≤ (p1).toNatClampNeg then none else
  some (put_I (put_I σ b2 (p1).toNatClampNeg (x1)) a0 7 ((sg_I (put_I σ b2 (p1).toNatClampNeg (x1)) a0 7) + (1)))
set_option maxHeartbeats 4000000 in
set_option maxRecDepth 100000 in
theorem t_X7_addRow (a0 : Nat) (x1 : Int32) {σ : Sg} (hT : sg_T σ) (h0 : is_A σ a0 6) {r : Sg} (hf : f_X7_addRow a0 x1 σ = some r) : Ct yX7_addRow cX7_addRow 2 none 2 43 0 0 [vr (some a0), vi x1] σ (fun r_ τ_ => (r_ = none) ∧ τ_ = r ∧ sg_T τ_ ∧ sg_E σ τ_) := by
  refine Ct.of (by decide +kernel) (Nat.le_of_ble_eq_true rfl) (fun Γ C1 => ?_)
  have C0 := C1.1
  have hE : sg_E σ σ := sg_E.rf
  unfold f_X7_addRow at hf
  show J_ Γ 0 [(0, vr (some a0)), (1, vi (x1))] [] σ 0 0
  refine J_aload_n (q := 1) C0 0 rfl rfl dX7_addRow_0 rfl trivial ?_
  refine J_getR (q := 4) C0 fl_X7_33_6 rfl (h0) rfl dX7_addRow_1 rfl ?_
  refine J_aload_n (q := 5) C0 0 rfl rfl dX7_addRow_4 rfl trivial ?_
  refine J_getI (q := 8) C0 fl_X7_37_6 rfl (h0) rfl dX7_addRow_5 rfl ?_
  refine J_bipush (q := 10) (v := 60) C0 dX7_addRow_8 rfl rfl ?_
  refine K_some hf (fun p1 hp1 hf => ?_)
  refine J_callSN (q := 13) (as := [vi (sg_I σ a0 7), vi (60)]) (rest := [vr (sg_R σ a0 6)]) C0 (t_X11_round (sg_I σ a0 7) (60)  hp1) ml_X11_round lk_X7_51 sm_X11_round dX7_addRow_10 rfl rfl rfl (by simp [ac_]) C1.room (by decide) (by decide) (by decide) (by decide) (fun r_ τ_ hQ => ?_)
  obtain ⟨rfl, ht_⟩ := hQ; have ht_ := ht_.symm; subst ht_
  show J_ Γ 13 [(0, vr (some a0)), (1, vi (x1))] [vi (p1), vr (sg_R σ a0 6)] σ 0 0
  refine J_iload_n (q := 14) C0 1 rfl rfl dX7_addRow_13 rfl ?_
  refine K_some hf (fun b2 hb2 hf => ?_)
  have ab2 : is_A σ b2 12 := ((sg_T.op hT (j := 6) (h0) rfl)) b2 hb2
  refine K_chk hf (fun c3 hf => ?_)
  refine J_iast (q := 15) C0 hb2 (ab2) c3 dX7_addRow_14 rfl ?_
  refine J_aload_n (q := 16) C0 0 rfl rfl dX7_addRow_15 rfl trivial ?_
  refine J_dup (q := 17) C0 dX7_addRow_16 rfl rfl ?_
  refine J_getI (q := 20) C0 fl_X7_37_6 rfl ((h0).putI) rfl dX7_addRow_17 rfl ?_
  refine J_iconst (q := 21) (v := 1) C0 dX7_addRow_20 rfl rfl ?_
  refine J_iadd (q := 22) C0 dX7_addRow_21 rfl ?_
  refine J_putI (q := 25) C0 fl_X7_37_6 rfl ((h0).putI) rfl dX7_addRow_22 rfl ?_
  obtain rfl := Option.some.inj hf; exact J_vret C1 dX7_addRow_25 rfl (Nat.zero_le _) (Nat.zero_le _) ⟨rfl, rfl, ((hT).putI).putI, ((hE).putI).putI⟩
def f_X7_rowCount (a0 : Nat) (σ : Sg) : Option Int32 :=
  Option.bind (f_J9_min_7cf53 (60) (sg_I σ a0 7) ) fun p1 =>
  some (p1)
set_option maxHeartbeats 4000000 in
set_option maxRecDepth 100000 in
theorem t_X7_rowCount (a0 : Nat) {σ : Sg} (h0 : is_A σ a0 6) {r : Int32} (hf : f_X7_rowCount a0  σ = some r) : Ct yX7_rowCount cX7_rowCount 1 (some .int) 1 21 0 0 [vr (some a0)] σ (fun r_ τ_ => (r_ = some (vi r)) ∧ τ_ = σ) := by
  refine Ct.of (by decide +kernel) (Nat.le_of_ble_eq_true rfl) (fun Γ C1 => ?_)
  have C0 := C1.1
  unfold f_X7_rowCount at hf
  show J_ Γ 0 [(0, vr (some a0))] [] σ 0 0
  refine J_bipush (q := 2) (v := 60) C0 dX7_rowCount_0 rfl rfl ?_
  refine J_aload_n (q := 3) C0 0 rfl rfl dX7_rowCount_2 rfl trivial ?_
  refine J_getI (q := 6) C0 fl_X7_37_6 rfl (h0) rfl dX7_rowCount_3 rfl ?_
  refine K_some hf (fun p1 hp1 hf => ?_)
  refine J_callS (q := 9) (as := [vi (60), vi (sg_I σ a0 7)]) (rest := []) C0 (t_J9_min_7cf53 (60) (sg_I σ a0 7)  hp1) ml_J9_min_7cf53 lk_X7_55 sm_J9_min_7cf53 dX7_rowCount_6 rfl rfl rfl (by simp [ac_]) C1.room (by decide) (by decide) (by decide) (by decide) (fun r_ τ_ hQ => ?_)
  obtain ⟨rfl, ht_⟩ := hQ; have ht_ := ht_.symm; subst ht_
  show J_ Γ 9 [(0, vr (some a0))] [vi (p1)] σ 0 0
  obtain rfl := Option.some.inj hf; exact J_iret C1 dX7_rowCount_9 rfl (Nat.zero_le _) (Nat.zero_le _) ⟨rfl, rfl⟩
def f_X7_rowBefore (a0 : Nat) (x1 : Int32) (σ : Sg) : Option Int32 :=
  Option.bind (f_X11_round (((sg_I σ a0 7) - (1)) - (x1)) (60) ) fun p1 =>
  Option.bind (sg_R σ a0 6) fun b2 =>
  if (p1) < 0 ∨ sg_L σ b2 ≤ (p1).toNatClampNeg then none else
  some (sg_I σ b2 (p1).toNatClampNeg)
set_option maxHeartbeats 4000000 in
set_option maxRecDepth 100000 in
theorem t_X7_rowBefore (a0 : Nat) (x1 : Int32) {σ : Sg} (hT : sg_T σ) (h0 : is_A σ a0 6) {r : Int32} (hf : f_X7_rowBefore a0 x1 σ = some r) : Ct yX7_rowBefore cX7_rowBefore 2 (some .int) 2 43 0 0 [vr (some a0), vi x1] σ (fun r_ τ_ => (r_ = some (vi r)) ∧ τ_ = σ) := by
  refine Ct.of (by decide +kernel) (Nat.le_of_ble_eq_true rfl) (fun Γ C1 => ?_)
  have C0 := C1.1
  unfold f_X7_rowBefore at hf
  show J_ Γ 0 [(0, vr (some a0)), (1, vi (x1))] [] σ 0 0
  refine J_aload_n (q := 1) C0 0 rfl rfl dX7_rowBefore_0 rfl trivial ?_
  refine J_getR (q := 4) C0 fl_X7_33_6 rfl (h0) rfl dX7_rowBefore_1 rfl ?_
  refine J_aload_n (q := 5) C0 0 rfl rfl dX7_rowBefore_4 rfl trivial ?_
  refine J_getI (q := 8) C0 fl_X7_37_6 rfl (h0) rfl dX7_rowBefore_5 rfl ?_
  refine J_iconst (q := 9) (v := 1) C0 dX7_rowBefore_8 rfl rfl ?_
  refine J_isub (q := 10) C0 dX7_rowBefore_9 rfl ?_
  refine J_iload_n (q := 11) C0 1 rfl rfl dX7_rowBefore_10 rfl ?_
  refine J_isub (q := 12) C0 dX7_rowBefore_11 rfl ?_
  refine J_bipush (q := 14) (v := 60) C0 dX7_rowBefore_12 rfl rfl ?_
  refine K_some hf (fun p1 hp1 hf => ?_)
  refine J_callSN (q := 17) (as := [vi (((sg_I σ a0 7) - (1)) - (x1)), vi (60)]) (rest := [vr (sg_R σ a0 6)]) C0 (t_X11_round (((sg_I σ a0 7) - (1)) - (x1)) (60)  hp1) ml_X11_round lk_X7_51 sm_X11_round dX7_rowBefore_14 rfl rfl rfl (by simp [ac_]) C1.room (by decide) (by decide) (by decide) (by decide) (fun r_ τ_ hQ => ?_)
  obtain ⟨rfl, ht_⟩ := hQ; have ht_ := ht_.symm; subst ht_
  show J_ Γ 17 [(0, vr (some a0)), (1, vi (x1))] [vi (p1), vr (sg_R σ a0 6)] σ 0 0
  refine K_some hf (fun b2 hb2 hf => ?_)
  have ab2 : is_A σ b2 12 := ((sg_T.op hT (j := 6) (h0) rfl)) b2 hb2
  refine K_chk hf (fun c3 hf => ?_)
  refine J_iald (q := 18) C0 hb2 (ab2) c3 dX7_rowBefore_17 rfl ?_
  obtain rfl := Option.some.inj hf; exact J_iret C1 dX7_rowBefore_18 rfl (Nat.zero_le _) (Nat.zero_le _) ⟨rfl, rfl⟩
def f_X8_has_B42 (N : Nat) (a0 : Nat) (k14 : Int32 → Int32 → Option Nat → Int32 → Int32 → Option Int32) (v1 : Int32) (v3 : Option Nat) (v4 : Int32) (v5 : Int32) (s0 : Int32) (σ : Sg) : Option Int32 :=
  k14 (v1) (s0) (v3) (v4) (v5 + 1)
def f_X8_has_B37 (N : Nat) (a0 : Nat) (k14 : Int32 → Int32 → Option Nat → Int32 → Int32 → Option Int32) (v1 : Int32) (v3 : Option Nat) (v4 : Int32) (v5 : Int32) (σ : Sg) : Option Int32 :=
  f_X8_has_B42 N a0 k14 (v1) (v3) (v4) (v5) (1) σ
def f_X8_has_L14 (N : Nat) (a0 : Nat) : Nat → Int32 → Int32 → Option Nat → Int32 → Int32 → Sg → Option Int32
  | 0, _, _, _, _, _, _ => none
  | n + 1, v1, v2, v3, v4, v5, σ =>
  if (v5) < (v4) then
  (Option.bind (v3) fun b4 =>
  if (v5) < 0 ∨ sg_L σ b4 ≤ (v5).toNatClampNeg then none else
  if (v2) = (0) then
  (if (sg_I σ b4 (v5).toNatClampNeg) = (v1) then
  (f_X8_has_B37 N a0 (fun v1 v2 v3 v4 v5 => f_X8_has_L14 N a0 n v1 v2 v3 v4 v5 σ) (v1) (v3) (v4) (v5) σ)
  else
  (f_X8_has_B42 N a0 (fun v1 v2 v3 v4 v5 => f_X8_has_L14 N a0 n v1 v2 v3 v4 v5 σ) (v1) (v3) (v4) (v5) (0) σ))
  else
  (f_X8_has_B37 N a0 (fun v1 v2 v3 v4 v5 => f_X8_has_L14 N a0 n v1 v2 v3 v4 v5 σ) (v1) (v3) (v4) (v5) σ))
  else
  (if ¬ ((v2) = 0 ∨ (v2) = 1) then none else
  some (v2))
def f_X8_has (N : Nat) (a0 : Nat) (x1 : Int32) (σ : Sg) : Option Int32 :=
  Option.bind (sg_R σ a0 0) fun b1 =>
  f_X8_has_L14 N a0 N (x1) (0) (sg_R σ a0 0) (Int32.ofNat (sg_L σ b1)) (0) σ
set_option maxHeartbeats 4000000 in
set_option maxRecDepth 100000 in
theorem t_X8_has_B42 {N : Nat} {a0 : Nat} {Γ : Gm} {σ : Sg} {r : Int32} (C1 : CM Γ cX8_has RX8 7 (some .boolean) 0 0 0 0 (fun r_ τ_ => (r_ = some (vi r) ∧ (r = 0 ∨ r = 1)) ∧ τ_ = σ)) (hT : sg_T σ) (h0 : is_A σ a0 7) (k14 : Int32 → Int32 → Option Nat → Int32 → Int32 → Option Int32) (hk14 : ∀ (v1 : Int32) (v2 : Int32) (v3 : Option Nat) (v4 : Int32) (v5 : Int32) , is_O σ v3 12 → k14 v1 v2 v3 v4 v5 = some r → J_ Γ 14 [(0, vr (some a0)), (1, vi v1), (2, vi v2), (3, vr v3), (4, vi v4), (5, vi v5)] [] σ 0 0) (v1 : Int32) (v3 : Option Nat) (v4 : Int32) (v5 : Int32) (s0 : Int32) (g_v3 : is_O σ v3 12) (hf : f_X8_has_B42 N a0 k14  v1 v3 v4 v5 s0 σ = some r) : J_ Γ 42 [(0, vr (some a0)), (1, vi (v1)), (3, vr (v3)), (4, vi (v4)), (5, vi (v5))] [vi (s0)] σ 0 0 := by
  have C0 := C1.1
  unfold f_X8_has_B42 at hf
  refine J_istore_n (q := 43) (lv' := [(2, vi (s0)), (0, vr (some a0)), (1, vi (v1)), (3, vr (v3)), (4, vi (v4)), (5, vi (v5))]) C0 rfl (G_nl C1 (by decide)) dX8_has_42 rfl rfl ?_
  refine J_iinc (q := 46) (v := v5 + 1) (lv' := [(5, vi (v5 + 1)), (2, vi (s0)), (0, vr (some a0)), (1, vi (v1)), (3, vr (v3)), (4, vi (v4))]) C0 5 rfl rfl (G_nl C1 (by decide)) dX8_has_43 rfl rfl ?_
  refine J_goto (q := 14) C0 dX8_has_46 (by decide) ?_
  refine J_sub (lv' := [(0, vr (some a0)), (1, vi (v1)), (2, vi (s0)), (3, vr (v3)), (4, vi (v4)), (5, vi (v5 + 1))]) [2, 3, 1, 4, 5, 0] rfl ?_
  exact hk14 (v1) (s0) (v3) (v4) (v5 + 1) (g_v3) hf
set_option maxHeartbeats 4000000 in
set_option maxRecDepth 100000 in
theorem t_X8_has_B37 {N : Nat} {a0 : Nat} {Γ : Gm} {σ : Sg} {r : Int32} (C1 : CM Γ cX8_has RX8 7 (some .boolean) 0 0 0 0 (fun r_ τ_ => (r_ = some (vi r) ∧ (r = 0 ∨ r = 1)) ∧ τ_ = σ)) (hT : sg_T σ) (h0 : is_A σ a0 7) (k14 : Int32 → Int32 → Option Nat → Int32 → Int32 → Option Int32) (hk14 : ∀ (v1 : Int32) (v2 : Int32) (v3 : Option Nat) (v4 : Int32) (v5 : Int32) , is_O σ v3 12 → k14 v1 v2 v3 v4 v5 = some r → J_ Γ 14 [(0, vr (some a0)), (1, vi v1), (2, vi v2), (3, vr v3), (4, vi v4), (5, vi v5)] [] σ 0 0) (v1 : Int32) (v3 : Option Nat) (v4 : Int32) (v5 : Int32) (g_v3 : is_O σ v3 12) (hf : f_X8_has_B37 N a0 k14  v1 v3 v4 v5 σ = some r) : J_ Γ 37 [(0, vr (some a0)), (1, vi (v1)), (3, vr (v3)), (4, vi (v4)), (5, vi (v5))] [] σ 0 0 := by
  have C0 := C1.1
  unfold f_X8_has_B37 at hf
  refine J_iconst (q := 38) (v := 1) C0 dX8_has_37 rfl rfl ?_
  refine J_goto (q := 42) C0 dX8_has_38 (by decide) ?_
  exact t_X8_has_B42 C1 (hT) (h0) k14  hk14  (v1) (v3) (v4) (v5) (1) (g_v3) hf
set_option maxHeartbeats 4000000 in
set_option maxRecDepth 100000 in
theorem t_X8_has_L14 {N : Nat} {a0 : Nat} {Γ : Gm} {σ : Sg} {r : Int32} (C1 : CM Γ cX8_has RX8 7 (some .boolean) 0 0 0 0 (fun r_ τ_ => (r_ = some (vi r) ∧ (r = 0 ∨ r = 1)) ∧ τ_ = σ)) (hT : sg_T σ) (h0 : is_A σ a0 7) : ∀ (n : Nat) (v1 : Int32) (v2 : Int32) (v3 : Option Nat) (v4 : Int32) (v5 : Int32), is_O σ v3 12 → f_X8_has_L14 N a0  n v1 v2 v3 v4 v5 σ = some r → J_ Γ 14 [(0, vr (some a0)), (1, vi (v1)), (2, vi (v2)), (3, vr (v3)), (4, vi (v4)), (5, vi (v5))] [] σ 0 0 := by
  have C0 := C1.1
  intro n
  induction n with
  | zero => intro v1 v2 v3 v4 v5 g_v3 hf; unfold f_X8_has_L14 at hf; cases hf
  | succ n ih =>
    intro v1 v2 v3 v4 v5 g_v3 hf
    rw [f_X8_has_L14] at hf
    refine J_iload (q := 16) C0 5 rfl dX8_has_14 rfl ?_
    refine J_iload (q := 18) C0 4 rfl dX8_has_16 rfl ?_
    refine J_icmp_ge (t := 49) (q := 21) C0 dX8_has_18 (by decide) rfl hf (fun c2 hf => ?_) (fun c2 hf => ?_)
    · refine J_iload_n (q := 50) C0 2 rfl rfl dX8_has_49 rfl ?_
      refine K_chk hf (fun c3 hf => ?_)
      obtain rfl := Option.some.inj hf; exact J_zret C1 dX8_has_50 rfl (Decidable.not_not.mp c3) (Nat.zero_le _) (Nat.zero_le _) ⟨⟨rfl, (Decidable.not_not.mp c3)⟩, rfl⟩
    · refine J_aload_n (q := 22) C0 3 rfl rfl dX8_has_21 rfl trivial ?_
      refine J_iload (q := 24) C0 5 rfl dX8_has_22 rfl ?_
      refine K_some hf (fun b4 hb4 hf => ?_)
      have ab4 : is_A σ b4 12 := (g_v3) b4 hb4
      refine K_chk hf (fun c5 hf => ?_)
      refine J_iald (q := 25) C0 hb4 (ab4) c5 dX8_has_24 rfl ?_
      refine J_istore (q := 27) (lv' := [(6, vi (sg_I σ b4 (v5).toNatClampNeg)), (0, vr (some a0)), (1, vi (v1)), (2, vi (v2)), (3, vr (v3)), (4, vi (v4)), (5, vi (v5))]) C0 (G_nl C1 (by decide)) dX8_has_25 rfl rfl ?_
      refine J_iload_n (q := 28) C0 3 rfl rfl dX8_has_27 rfl ?_
      refine J_if_ne (t := 37) (q := 31) C0 dX8_has_28 (by decide) rfl hf (fun c6 hf => ?_) (fun c6 hf => ?_)
      · refine J_sub (lv' := [(0, vr (some a0)), (1, vi (v1)), (3, vr (v3)), (4, vi (v4)), (5, vi (v5))]) [1, 2, 4, 5, 6] rfl ?_
        exact t_X8_has_B37 C1 (hT) (h0) (fun v1 v2 v3 v4 v5 => f_X8_has_L14 N a0 n v1 v2 v3 v4 v5 σ)  ih  (v1) (v3) (v4) (v5) ((by rw [hb4]; exact is_O.some (ab4))) hf
      · refine J_iload (q := 33) C0 0 rfl dX8_has_31 rfl ?_
        refine J_iload_n (q := 34) C0 2 rfl rfl dX8_has_33 rfl ?_
        refine J_icmp_ne (t := 41) (q := 37) C0 dX8_has_34 (by decide) rfl hf (fun c7 hf => ?_) (fun c7 hf => ?_)
        · refine J_iconst (q := 42) (v := 0) C0 dX8_has_41 rfl rfl ?_
          refine J_sub (lv' := [(0, vr (some a0)), (1, vi (v1)), (3, vr (v3)), (4, vi (v4)), (5, vi (v5))]) [1, 2, 4, 5, 6] rfl ?_
          exact t_X8_has_B42 C1 (hT) (h0) (fun v1 v2 v3 v4 v5 => f_X8_has_L14 N a0 n v1 v2 v3 v4 v5 σ)  ih  (v1) (v3) (v4) (v5) (0) ((by rw [hb4]; exact is_O.some (ab4))) hf
        · refine J_sub (lv' := [(0, vr (some a0)), (1, vi (v1)), (3, vr (v3)), (4, vi (v4)), (5, vi (v5))]) [1, 2, 4, 5, 6] rfl ?_
          exact t_X8_has_B37 C1 (hT) (h0) (fun v1 v2 v3 v4 v5 => f_X8_has_L14 N a0 n v1 v2 v3 v4 v5 σ)  ih  (v1) (v3) (v4) (v5) ((by rw [hb4]; exact is_O.some (ab4))) hf
set_option maxHeartbeats 4000000 in
set_option maxRecDepth 100000 in
theorem t_X8_has (N : Nat) (a0 : Nat) (x1 : Int32) {σ : Sg} (hT : sg_T σ) (h0 : is_A σ a0 7) {r : Int32} (hf : f_X8_has N a0 x1 σ = some r) : Ct yX8_has cX8_has 7 (some .boolean) 0 0 0 0 [vr (some a0), vi x1] σ (fun r_ τ_ => (r_ = some (vi r) ∧ (r = 0 ∨ r = 1)) ∧ τ_ = σ) := by
  refine Ct.of (by decide +kernel) (Nat.le_of_ble_eq_true rfl) (fun Γ C1 => ?_)
  have C0 := C1.1
  unfold f_X8_has at hf
  show J_ Γ 0 [(0, vr (some a0)), (1, vi (x1))] [] σ 0 0
  refine J_iconst (q := 1) (v := 0) C0 dX8_has_0 rfl rfl ?_
  refine J_istore_n (q := 2) (lv' := [(2, vi (0)), (0, vr (some a0)), (1, vi (x1))]) C0 rfl (G_nl C1 (by decide)) dX8_has_1 rfl rfl ?_
  refine J_aload_n (q := 3) C0 1 rfl rfl dX8_has_2 rfl trivial ?_
  refine J_getR (q := 6) C0 fl_X8_9_7 rfl (h0) rfl dX8_has_3 rfl ?_
  refine J_astore_n (q := 7) (lv' := [(3, vr (sg_R σ a0 0)), (2, vi (0)), (0, vr (some a0)), (1, vi (x1))]) C0 rfl (G_nl C1 (by decide)) dX8_has_6 rfl trivial rfl ?_
  refine J_aload_n (q := 8) C0 0 rfl rfl dX8_has_7 rfl trivial ?_
  refine K_some hf (fun b1 hb1 hf => ?_)
  have ab1 : is_A σ b1 12 := ((sg_T.op hT (j := 0) (h0) rfl)) b1 hb1
  refine J_alen (q := 9) C0 hb1 (ab1) (by decide) dX8_has_8 rfl ?_
  refine J_istore (q := 11) (lv' := [(4, vi (Int32.ofNat (sg_L σ b1))), (3, vr (sg_R σ a0 0)), (2, vi (0)), (0, vr (some a0)), (1, vi (x1))]) C0 (G_nl C1 (by decide)) dX8_has_9 rfl rfl ?_
  refine J_iconst (q := 12) (v := 0) C0 dX8_has_11 rfl rfl ?_
  refine J_istore (q := 14) (lv' := [(5, vi (0)), (4, vi (Int32.ofNat (sg_L σ b1))), (3, vr (sg_R σ a0 0)), (2, vi (0)), (0, vr (some a0)), (1, vi (x1))]) C0 (G_nl C1 (by decide)) dX8_has_12 rfl rfl ?_
  refine J_sub (lv' := [(0, vr (some a0)), (1, vi (x1)), (2, vi (0)), (3, vr (sg_R σ a0 0)), (4, vi (Int32.ofNat (sg_L σ b1))), (5, vi (0))]) [4, 5, 3, 2, 1, 0] rfl ?_
  exact t_X8_has_L14 C1 (hT) (h0)    N (x1) (0) (sg_R σ a0 0) (Int32.ofNat (sg_L σ b1)) (0) ((by rw [hb1]; exact is_O.some (ab1))) hf
def f_X8_isRow_B57 (N : Nat) (a0 : Nat) (k6 : Option Nat → Int32 → Int32 → Int32 → Int32 → Option Int32) (v1 : Option Nat) (v2 : Int32) (v3 : Int32) (v5 : Int32) (s0 : Int32) (σ : Sg) : Option Int32 :=
  k6 (v1) (v2) (v3) (s0) (v5 + 1)
def f_X8_isRow_B40 (N : Nat) (a0 : Nat) (k6 : Option Nat → Int32 → Int32 → Int32 → Int32 → Option Int32) (v1 : Option Nat) (v2 : Int32) (v3 : Int32) (v5 : Int32) (s0 : Int32) (s1 : Option Nat) (σ : Sg) : Option Int32 :=
  Option.bind (s1) fun b7 =>
  Option.bind (f_X8_shownAt b7 (s0) σ) fun p8 =>
  Option.bind (v1) fun b9 =>
  Option.bind (f_X8_shownAt b9 (v5) σ) fun p10 =>
  if (p8) = (p10) then
  (f_X8_isRow_B57 N a0 k6 (v1) (v2) (v3) (v5) (1) σ)
  else
  (f_X8_isRow_B57 N a0 k6 (v1) (v2) (v3) (v5) (0) σ)
def f_X8_isRow_L6 (N : Nat) (a0 : Nat) : Nat → Option Nat → Int32 → Int32 → Int32 → Int32 → Sg → Option Int32
  | 0, _, _, _, _, _, _ => none
  | n + 1, v1, v2, v3, v4, v5, σ =>
  Option.bind (f_X8_size a0  σ) fun p1 =>
  if (v5) < (p1) then
  (if (v4) = (0) then
  (if ¬ ((v4) = 0 ∨ (v4) = 1) then none else
  some (v4))
  else
  (if (v3) = (0) then
  (f_X8_isRow_B40 N a0 (fun v1 v2 v3 v4 v5 => f_X8_isRow_L6 N a0 n v1 v2 v3 v4 v5 σ) (v1) (v2) (v3) (v5) ((v2) + (v5)) (some a0) σ)
  else
  (f_X8_isRow_B40 N a0 (fun v1 v2 v3 v4 v5 => f_X8_isRow_L6 N a0 n v1 v2 v3 v4 v5 σ) (v1) (v2) (v3) (v5) (((-1)) - ((v2) + (v5))) (some a0) σ)))
  else
  (if ¬ ((v4) = 0 ∨ (v4) = 1) then none else
  some (v4))
def f_X8_isRow (N : Nat) (a0 : Nat) (e1 : Option Nat) (x2 : Int32) (x3 : Int32) (σ : Sg) : Option Int32 :=
  f_X8_isRow_L6 N a0 N (e1) (x2) (x3) (1) (0) σ
set_option maxHeartbeats 4000000 in
set_option maxRecDepth 100000 in
theorem t_X8_isRow_B57 {N : Nat} {a0 : Nat} {Γ : Gm} {σ : Sg} {r : Int32} (C1 : CM Γ cX8_isRow RX8 7 (some .boolean) 3 64 0 0 (fun r_ τ_ => (r_ = some (vi r) ∧ (r = 0 ∨ r = 1)) ∧ τ_ = σ)) (hT : sg_T σ) (h0 : is_A σ a0 7) (k6 : Option Nat → Int32 → Int32 → Int32 → Int32 → Option Int32) (hk6 : ∀ (v1 : Option Nat) (v2 : Int32) (v3 : Int32) (v4 : Int32) (v5 : Int32) , is_O σ v1 7 → k6 v1 v2 v3 v4 v5 = some r → J_ Γ 6 [(0, vr (some a0)), (1, vr v1), (2, vi v2), (3, vi v3), (4, vi v4), (5, vi v5)] [] σ 0 0) (v1 : Option Nat) (v2 : Int32) (v3 : Int32) (v5 : Int32) (s0 : Int32) (g_v1 : is_O σ v1 7) (hf : f_X8_isRow_B57 N a0 k6  v1 v2 v3 v5 s0 σ = some r) : J_ Γ 57 [(0, vr (some a0)), (1, vr (v1)), (2, vi (v2)), (3, vi (v3)), (5, vi (v5))] [vi (s0)] σ 0 0 := by
  have C0 := C1.1
  unfold f_X8_isRow_B57 at hf
  refine J_istore (q := 59) (lv' := [(4, vi (s0)), (0, vr (some a0)), (1, vr (v1)), (2, vi (v2)), (3, vi (v3)), (5, vi (v5))]) C0 (G_nl C1 (by decide)) dX8_isRow_57 rfl rfl ?_
  refine J_iinc (q := 62) (v := v5 + 1) (lv' := [(5, vi (v5 + 1)), (4, vi (s0)), (0, vr (some a0)), (1, vr (v1)), (2, vi (v2)), (3, vi (v3))]) C0 5 rfl rfl (G_nl C1 (by decide)) dX8_isRow_59 rfl rfl ?_
  refine J_goto (q := 6) C0 dX8_isRow_62 (by decide) ?_
  refine J_sub (lv' := [(0, vr (some a0)), (1, vr (v1)), (2, vi (v2)), (3, vi (v3)), (4, vi (s0)), (5, vi (v5 + 1))]) [2, 3, 4, 5, 1, 0] rfl ?_
  exact hk6 (v1) (v2) (v3) (s0) (v5 + 1) (g_v1) hf
set_option maxHeartbeats 4000000 in
set_option maxRecDepth 100000 in
theorem t_X8_isRow_B40 {N : Nat} {a0 : Nat} {Γ : Gm} {σ : Sg} {r : Int32} (C1 : CM Γ cX8_isRow RX8 7 (some .boolean) 3 64 0 0 (fun r_ τ_ => (r_ = some (vi r) ∧ (r = 0 ∨ r = 1)) ∧ τ_ = σ)) (hT : sg_T σ) (h0 : is_A σ a0 7) (k6 : Option Nat → Int32 → Int32 → Int32 → Int32 → Option Int32) (hk6 : ∀ (v1 : Option Nat) (v2 : Int32) (v3 : Int32) (v4 : Int32) (v5 : Int32) , is_O σ v1 7 → k6 v1 v2 v3 v4 v5 = some r → J_ Γ 6 [(0, vr (some a0)), (1, vr v1), (2, vi v2), (3, vi v3), (4, vi v4), (5, vi v5)] [] σ 0 0) (v1 : Option Nat) (v2 : Int32) (v3 : Int32) (v5 : Int32) (s0 : Int32) (s1 : Option Nat) (g_v1 : is_O σ v1 7) (g_s1 : is_O σ s1 7) (hf : f_X8_isRow_B40 N a0 k6  v1 v2 v3 v5 s0 s1 σ = some r) : J_ Γ 40 [(0, vr (some a0)), (1, vr (v1)), (2, vi (v2)), (3, vi (v3)), (5, vi (v5))] [vi (s0), vr (s1)] σ 0 0 := by
  have C0 := C1.1
  unfold f_X8_isRow_B40 at hf
  refine K_some hf (fun b7 hb7 hf => ?_)
  have ab7 : is_A σ b7 7 := (g_s1) b7 hb7
  refine K_some hf (fun p8 hp8 hf => ?_)
  refine J_callV (q := 43) (ci := 7) (as := [vi (s0)]) (rest := []) C0 hb7 (ab7) (t_X8_shownAt b7 (s0) (hT) (ab7)  hp8) ml_X8_shownAt lk_X8_27 im_X8_shownAt se_X8_shownAt rfl (by decide) dX8_isRow_40 rfl rfl rfl (by simp [ac_]) C1.room (by decide) (by decide) (by decide) (by decide) (fun r_ τ_ hQ => ?_)
  obtain ⟨rfl, ht_⟩ := hQ; have ht_ := ht_.symm; subst ht_
  show J_ Γ 43 [(0, vr (some a0)), (1, vr (v1)), (2, vi (v2)), (3, vi (v3)), (5, vi (v5))] [vi (p8)] σ 0 0
  refine J_aload_n (q := 44) C0 1 rfl rfl dX8_isRow_43 rfl trivial ?_
  refine J_iload (q := 46) C0 4 rfl dX8_isRow_44 rfl ?_
  refine K_some hf (fun b9 hb9 hf => ?_)
  have ab9 : is_A σ b9 7 := (g_v1) b9 hb9
  refine K_some hf (fun p10 hp10 hf => ?_)
  refine J_callV (q := 49) (ci := 7) (as := [vi (v5)]) (rest := [vi (p8)]) C0 hb9 (ab9) (t_X8_shownAt b9 (v5) (hT) (ab9)  hp10) ml_X8_shownAt lk_X8_27 im_X8_shownAt se_X8_shownAt rfl (by decide) dX8_isRow_46 rfl rfl rfl (by simp [ac_]) C1.room (by decide) (by decide) (by decide) (by decide) (fun r_ τ_ hQ => ?_)
  obtain ⟨rfl, ht_⟩ := hQ; have ht_ := ht_.symm; subst ht_
  show J_ Γ 49 [(0, vr (some a0)), (1, vr (v1)), (2, vi (v2)), (3, vi (v3)), (5, vi (v5))] [vi (p10), vi (p8)] σ 0 0
  refine J_icmp_ne (t := 56) (q := 52) C0 dX8_isRow_49 (by decide) rfl hf (fun c11 hf => ?_) (fun c11 hf => ?_)
  · refine J_iconst (q := 57) (v := 0) C0 dX8_isRow_56 rfl rfl ?_
    exact t_X8_isRow_B57 C1 (hT) (h0) k6  hk6  (v1) (v2) (v3) (v5) (0) ((by rw [hb9]; exact is_O.some (ab9))) hf
  · refine J_iconst (q := 53) (v := 1) C0 dX8_isRow_52 rfl rfl ?_
    refine J_goto (q := 57) C0 dX8_isRow_53 (by decide) ?_
    exact t_X8_isRow_B57 C1 (hT) (h0) k6  hk6  (v1) (v2) (v3) (v5) (1) ((by rw [hb9]; exact is_O.some (ab9))) hf
set_option maxHeartbeats 4000000 in
set_option maxRecDepth 100000 in
theorem t_X8_isRow_L6 {N : Nat} {a0 : Nat} {Γ : Gm} {σ : Sg} {r : Int32} (C1 : CM Γ cX8_isRow RX8 7 (some .boolean) 3 64 0 0 (fun r_ τ_ => (r_ = some (vi r) ∧ (r = 0 ∨ r = 1)) ∧ τ_ = σ)) (hT : sg_T σ) (h0 : is_A σ a0 7) : ∀ (n : Nat) (v1 : Option Nat) (v2 : Int32) (v3 : Int32) (v4 : Int32) (v5 : Int32), is_O σ v1 7 → f_X8_isRow_L6 N a0  n v1 v2 v3 v4 v5 σ = some r → J_ Γ 6 [(0, vr (some a0)), (1, vr (v1)), (2, vi (v2)), (3, vi (v3)), (4, vi (v4)), (5, vi (v5))] [] σ 0 0 := by
  have C0 := C1.1
  intro n
  induction n with
  | zero => intro v1 v2 v3 v4 v5 g_v1 hf; unfold f_X8_isRow_L6 at hf; cases hf
  | succ n ih =>
    intro v1 v2 v3 v4 v5 g_v1 hf
    rw [f_X8_isRow_L6] at hf
    refine J_iload (q := 8) C0 5 rfl dX8_isRow_6 rfl ?_
    refine J_aload_n (q := 9) C0 0 rfl rfl dX8_isRow_8 rfl trivial ?_
    refine K_some hf (fun p1 hp1 hf => ?_)
    refine J_callV (q := 12) (ci := 7) (as := []) (rest := [vi (v5)]) C0 rfl (h0) (t_X8_size a0  (hT) (h0)  hp1) ml_X8_size lk_X8_19 im_X8_size se_X8_size rfl (by decide) dX8_isRow_9 rfl rfl rfl (by simp [ac_]) C1.room (by decide) (by decide) (by decide) (by decide) (fun r_ τ_ hQ => ?_)
    obtain ⟨rfl, ht_⟩ := hQ; have ht_ := ht_.symm; subst ht_
    show J_ Γ 12 [(0, vr (some a0)), (1, vr (v1)), (2, vi (v2)), (3, vi (v3)), (4, vi (v4)), (5, vi (v5))] [vi (p1), vi (v5)] σ 0 0
    refine J_icmp_ge (t := 65) (q := 15) C0 dX8_isRow_12 (by decide) rfl hf (fun c2 hf => ?_) (fun c2 hf => ?_)
    · refine J_iload (q := 67) C0 4 rfl dX8_isRow_65 rfl ?_
      refine K_chk hf (fun c3 hf => ?_)
      obtain rfl := Option.some.inj hf; exact J_zret C1 dX8_isRow_67 rfl (Decidable.not_not.mp c3) (Nat.zero_le _) (Nat.zero_le _) ⟨⟨rfl, (Decidable.not_not.mp c3)⟩, rfl⟩
    · refine J_iload (q := 17) C0 4 rfl dX8_isRow_15 rfl ?_
      refine J_if_eq (t := 65) (q := 20) C0 dX8_isRow_17 (by decide) rfl hf (fun c4 hf => ?_) (fun c4 hf => ?_)
      · refine J_iload (q := 67) C0 4 rfl dX8_isRow_65 rfl ?_
        refine K_chk hf (fun c5 hf => ?_)
        obtain rfl := Option.some.inj hf; exact J_zret C1 dX8_isRow_67 rfl (Decidable.not_not.mp c5) (Nat.zero_le _) (Nat.zero_le _) ⟨⟨rfl, (Decidable.not_not.mp c5)⟩, rfl⟩
      · refine J_iload_n (q := 21) C0 2 rfl rfl dX8_isRow_20 rfl ?_
        refine J_iload (q := 23) C0 5 rfl dX8_isRow_21 rfl ?_
        refine J_iadd (q := 24) C0 dX8_isRow_23 rfl ?_
        refine J_istore (q := 26) (lv' := [(6, vi ((v2) + (v5))), (0, vr (some a0)), (1, vr (v1)), (2, vi (v2)), (3, vi (v3)), (4, vi (v4)), (5, vi (v5))]) C0 (G_nl C1 (by decide)) dX8_isRow_24 rfl rfl ?_
        refine J_aload_n (q := 27) C0 1 rfl rfl dX8_isRow_26 rfl trivial ?_
        refine J_iload_n (q := 28) C0 4 rfl rfl dX8_isRow_27 rfl ?_
        refine J_if_eq (t := 38) (q := 31) C0 dX8_isRow_28 (by decide) rfl hf (fun c6 hf => ?_) (fun c6 hf => ?_)
        · refine J_iload (q := 40) C0 0 rfl dX8_isRow_38 rfl ?_
          refine J_sub (lv' := [(0, vr (some a0)), (1, vr (v1)), (2, vi (v2)), (3, vi (v3)), (5, vi (v5))]) [1, 2, 3, 4, 6] rfl ?_
          exact t_X8_isRow_B40 C1 (hT) (h0) (fun v1 v2 v3 v4 v5 => f_X8_isRow_L6 N a0 n v1 v2 v3 v4 v5 σ)  ih  (v1) (v2) (v3) (v5) ((v2) + (v5)) (some a0) (g_v1) (is_O.some (h0)) hf
        · refine J_iconst (q := 32) (v := (-1)) C0 dX8_isRow_31 rfl rfl ?_
          refine J_iload (q := 34) C0 0 rfl dX8_isRow_32 rfl ?_
          refine J_isub (q := 35) C0 dX8_isRow_34 rfl ?_
          refine J_goto (q := 40) C0 dX8_isRow_35 (by decide) ?_
          refine J_sub (lv' := [(0, vr (some a0)), (1, vr (v1)), (2, vi (v2)), (3, vi (v3)), (5, vi (v5))]) [1, 2, 3, 4, 6] rfl ?_
          exact t_X8_isRow_B40 C1 (hT) (h0) (fun v1 v2 v3 v4 v5 => f_X8_isRow_L6 N a0 n v1 v2 v3 v4 v5 σ)  ih  (v1) (v2) (v3) (v5) (((-1)) - ((v2) + (v5))) (some a0) (g_v1) (is_O.some (h0)) hf
set_option maxHeartbeats 4000000 in
set_option maxRecDepth 100000 in
theorem t_X8_isRow (N : Nat) (a0 : Nat) (e1 : Option Nat) (x2 : Int32) (x3 : Int32) {σ : Sg} (hT : sg_T σ) (h0 : is_A σ a0 7) (g1 : is_O σ e1 7) {r : Int32} (hf : f_X8_isRow N a0 e1 x2 x3 σ = some r) : Ct yX8_isRow cX8_isRow 7 (some .boolean) 3 64 0 0 [vr (some a0), vr e1, vi x2, vi x3] σ (fun r_ τ_ => (r_ = some (vi r) ∧ (r = 0 ∨ r = 1)) ∧ τ_ = σ) := by
  refine Ct.of (by decide +kernel) (Nat.le_of_ble_eq_true rfl) (fun Γ C1 => ?_)
  have C0 := C1.1
  unfold f_X8_isRow at hf
  show J_ Γ 0 [(0, vr (some a0)), (1, vr (e1)), (2, vi (x2)), (3, vi (x3))] [] σ 0 0
  refine J_iconst (q := 1) (v := 1) C0 dX8_isRow_0 rfl rfl ?_
  refine J_istore (q := 3) (lv' := [(4, vi (1)), (0, vr (some a0)), (1, vr (e1)), (2, vi (x2)), (3, vi (x3))]) C0 (G_nl C1 (by decide)) dX8_isRow_1 rfl rfl ?_
  refine J_iconst (q := 4) (v := 0) C0 dX8_isRow_3 rfl rfl ?_
  refine J_istore (q := 6) (lv' := [(5, vi (0)), (4, vi (1)), (0, vr (some a0)), (1, vr (e1)), (2, vi (x2)), (3, vi (x3))]) C0 (G_nl C1 (by decide)) dX8_isRow_4 rfl rfl ?_
  refine J_sub (lv' := [(0, vr (some a0)), (1, vr (e1)), (2, vi (x2)), (3, vi (x3)), (4, vi (1)), (5, vi (0))]) [2, 3, 4, 5, 1, 0] rfl ?_
  exact t_X8_isRow_L6 C1 (hT) (h0)    N (e1) (x2) (x3) (1) (0) (g1) hf
def f_X8_leastPeriod_L2 (N : Nat) (a0 : Nat) : Nat → Int32 → Sg → Option Int32
  | 0, _, _ => none
  | n + 1, v1, σ =>
  Option.bind (f_X8_size a0  σ) fun p1 =>
  if (v1) < (p1) then
  (Option.bind (f_X8_isRow N a0 (some a0) (v1) (0) σ) fun p4 =>
  if (p4) = (0) then
  (f_X8_leastPeriod_L2 N a0 n (v1 + 1) σ)
  else
  (some (v1)))
  else
  (Option.bind (f_X8_size a0  σ) fun p3 =>
  some (p3))
def f_X8_leastPeriod (N : Nat) (a0 : Nat) (σ : Sg) : Option Int32 :=
  f_X8_leastPeriod_L2 N a0 N (1) σ
set_option maxHeartbeats 4000000 in
set_option maxRecDepth 100000 in
theorem t_X8_leastPeriod_L2 {N : Nat} {a0 : Nat} {Γ : Gm} {σ : Sg} {r : Int32} (C1 : CM Γ cX8_leastPeriod RX8 2 (some .int) 4 90 0 0 (fun r_ τ_ => (r_ = some (vi r)) ∧ τ_ = σ)) (hT : sg_T σ) (h0 : is_A σ a0 7) : ∀ (n : Nat) (v1 : Int32), f_X8_leastPeriod_L2 N a0  n v1 σ = some r → J_ Γ 2 [(0, vr (some a0)), (1, vi (v1))] [] σ 0 0 := by
  have C0 := C1.1
  intro n
  induction n with
  | zero => intro v1  hf; unfold f_X8_leastPeriod_L2 at hf; cases hf
  | succ n ih =>
    intro v1  hf
    rw [f_X8_leastPeriod_L2] at hf
    refine J_iload_n (q := 3) C0 1 rfl rfl dX8_leastPeriod_2 rfl ?_
    refine J_aload_n (q := 4) C0 0 rfl rfl dX8_leastPeriod_3 rfl trivial ?_
    refine K_some hf (fun p1 hp1 hf => ?_)
    refine J_callV (q := 7) (ci := 7) (as := []) (rest := [vi (v1)]) C0 rfl (h0) (t_X8_size a0  (hT) (h0)  hp1) ml_X8_size lk_X8_19 im_X8_size se_X8_size rfl (by decide) dX8_leastPeriod_4 rfl rfl rfl (by simp [ac_]) C1.room (by decide) (by decide) (by decide) (by decide) (fun r_ τ_ hQ => ?_)
    obtain ⟨rfl, ht_⟩ := hQ; have ht_ := ht_.symm; subst ht_
    show J_ Γ 7 [(0, vr (some a0)), (1, vi (v1))] [vi (p1), vi (v1)] σ 0 0
    refine J_icmp_ge (t := 28) (q := 10) C0 dX8_leastPeriod_7 (by decide) rfl hf (fun c2 hf => ?_) (fun c2 hf => ?_)
    · refine J_aload_n (q := 29) C0 0 rfl rfl dX8_leastPeriod_28 rfl trivial ?_
      refine K_some hf (fun p3 hp3 hf => ?_)
      refine J_callV (q := 32) (ci := 7) (as := []) (rest := []) C0 rfl (h0) (t_X8_size a0  (hT) (h0)  hp3) ml_X8_size lk_X8_19 im_X8_size se_X8_size rfl (by decide) dX8_leastPeriod_29 rfl rfl rfl (by simp [ac_]) C1.room (by decide) (by decide) (by decide) (by decide) (fun r_ τ_ hQ => ?_)
      obtain ⟨rfl, ht_⟩ := hQ; have ht_ := ht_.symm; subst ht_
      show J_ Γ 32 [(0, vr (some a0)), (1, vi (v1))] [vi (p3)] σ 0 0
      obtain rfl := Option.some.inj hf; exact J_iret C1 dX8_leastPeriod_32 rfl (Nat.zero_le _) (Nat.zero_le _) ⟨rfl, rfl⟩
    · refine J_aload_n (q := 11) C0 0 rfl rfl dX8_leastPeriod_10 rfl trivial ?_
      refine J_aload_n (q := 12) C0 0 rfl rfl dX8_leastPeriod_11 rfl trivial ?_
      refine J_iload_n (q := 13) C0 1 rfl rfl dX8_leastPeriod_12 rfl ?_
      refine J_iconst (q := 14) (v := 0) C0 dX8_leastPeriod_13 rfl rfl ?_
      refine K_some hf (fun p4 hp4 hf => ?_)
      refine J_callV (q := 17) (ci := 7) (as := [vr (some a0), vi (v1), vi (0)]) (rest := []) C0 rfl (h0) (t_X8_isRow N a0 (some a0) (v1) (0) (hT) (h0) (is_O.some (h0)) hp4) ml_X8_isRow lk_X8_23 im_X8_isRow se_X8_isRow rfl (by decide) dX8_leastPeriod_14 rfl rfl rfl (by simp [ac_]) C1.room (by decide) (by decide) (by decide) (by decide) (fun r_ τ_ hQ => ?_)
      obtain ⟨⟨rfl, zp4⟩, ht_⟩ := hQ; have ht_ := ht_.symm; subst ht_
      show J_ Γ 17 [(0, vr (some a0)), (1, vi (v1))] [vi (p4)] σ 0 0
      refine J_if_eq (t := 22) (q := 20) C0 dX8_leastPeriod_17 (by decide) rfl hf (fun c5 hf => ?_) (fun c5 hf => ?_)
      · refine J_iinc (q := 25) (v := v1 + 1) (lv' := [(1, vi (v1 + 1)), (0, vr (some a0))]) C0 1 rfl rfl (G_nl C1 (by decide)) dX8_leastPeriod_22 rfl rfl ?_
        refine J_goto (q := 2) C0 dX8_leastPeriod_25 (by decide) ?_
        refine J_sub (lv' := [(0, vr (some a0)), (1, vi (v1 + 1))]) [1, 0] rfl ?_
        exact ih (v1 + 1)   hf
      · refine J_iload_n (q := 21) C0 1 rfl rfl dX8_leastPeriod_20 rfl ?_
        obtain rfl := Option.some.inj hf; exact J_iret C1 dX8_leastPeriod_21 rfl (Nat.zero_le _) (Nat.zero_le _) ⟨rfl, rfl⟩
set_option maxHeartbeats 4000000 in
set_option maxRecDepth 100000 in
theorem t_X8_leastPeriod (N : Nat) (a0 : Nat) {σ : Sg} (hT : sg_T σ) (h0 : is_A σ a0 7) {r : Int32} (hf : f_X8_leastPeriod N a0  σ = some r) : Ct yX8_leastPeriod cX8_leastPeriod 2 (some .int) 4 90 0 0 [vr (some a0)] σ (fun r_ τ_ => (r_ = some (vi r)) ∧ τ_ = σ) := by
  refine Ct.of (by decide +kernel) (Nat.le_of_ble_eq_true rfl) (fun Γ C1 => ?_)
  have C0 := C1.1
  unfold f_X8_leastPeriod at hf
  show J_ Γ 0 [(0, vr (some a0))] [] σ 0 0
  refine J_iconst (q := 1) (v := 1) C0 dX8_leastPeriod_0 rfl rfl ?_
  refine J_istore_n (q := 2) (lv' := [(1, vi (1)), (0, vr (some a0))]) C0 rfl (G_nl C1 (by decide)) dX8_leastPeriod_1 rfl rfl ?_
  refine J_sub (lv' := [(0, vr (some a0)), (1, vi (1))]) [1, 0] rfl ?_
  exact t_X8_leastPeriod_L2 C1 (hT) (h0)    N (1)  hf
def f_X8_turningTo_L2 (N : Nat) (a0 : Nat) : Nat → Option Nat → Int32 → Int32 → Sg → Option Int32
  | 0, _, _, _, _ => none
  | n + 1, v1, v2, v3, σ =>
  Option.bind (f_X8_size a0  σ) fun p1 =>
  if (v3) < (p1) then
  (Option.bind (f_X8_size a0  σ) fun p3 =>
  Option.bind (v1) fun b4 =>
  Option.bind (f_X8_size b4  σ) fun p5 =>
  if (p3) = (p5) then
  (Option.bind (f_X8_isRow N a0 (v1) (v3) (v2) σ) fun p7 =>
  if (p7) = (0) then
  (f_X8_turningTo_L2 N a0 n (v1) (v2) (v3 + 1) σ)
  else
  (some (v3)))
  else
  (some ((-1))))
  else
  (some ((-1)))
def f_X8_turningTo (N : Nat) (a0 : Nat) (e1 : Option Nat) (x2 : Int32) (σ : Sg) : Option Int32 :=
  f_X8_turningTo_L2 N a0 N (e1) (x2) (0) σ
set_option maxHeartbeats 4000000 in
set_option maxRecDepth 100000 in
theorem t_X8_turningTo_L2 {N : Nat} {a0 : Nat} {Γ : Gm} {σ : Sg} {r : Int32} (C1 : CM Γ cX8_turningTo RX8 4 (some .int) 4 90 0 0 (fun r_ τ_ => (r_ = some (vi r)) ∧ τ_ = σ)) (hT : sg_T σ) (h0 : is_A σ a0 7) : ∀ (n : Nat) (v1 : Option Nat) (v2 : Int32) (v3 : Int32), is_O σ v1 7 → f_X8_turningTo_L2 N a0  n v1 v2 v3 σ = some r → J_ Γ 2 [(0, vr (some a0)), (1, vr (v1)), (2, vi (v2)), (3, vi (v3))] [] σ 0 0 := by
  have C0 := C1.1
  intro n
  induction n with
  | zero => intro v1 v2 v3 g_v1 hf; unfold f_X8_turningTo_L2 at hf; cases hf
  | succ n ih =>
    intro v1 v2 v3 g_v1 hf
    rw [f_X8_turningTo_L2] at hf
    refine J_iload_n (q := 3) C0 3 rfl rfl dX8_turningTo_2 rfl ?_
    refine J_aload_n (q := 4) C0 0 rfl rfl dX8_turningTo_3 rfl trivial ?_
    refine K_some hf (fun p1 hp1 hf => ?_)
    refine J_callV (q := 7) (ci := 7) (as := []) (rest := [vi (v3)]) C0 rfl (h0) (t_X8_size a0  (hT) (h0)  hp1) ml_X8_size lk_X8_19 im_X8_size se_X8_size rfl (by decide) dX8_turningTo_4 rfl rfl rfl (by simp [ac_]) C1.room (by decide) (by decide) (by decide) (by decide) (fun r_ τ_ hQ => ?_)
    obtain ⟨rfl, ht_⟩ := hQ; have ht_ := ht_.symm; subst ht_
    show J_ Γ 7 [(0, vr (some a0)), (1, vr (v1)), (2, vi (v2)), (3, vi (v3))] [vi (p1), vi (v3)] σ 0 0
    refine J_icmp_ge (t := 39) (q := 10) C0 dX8_turningTo_7 (by decide) rfl hf (fun c2 hf => ?_) (fun c2 hf => ?_)
    · refine J_iconst (q := 40) (v := (-1)) C0 dX8_turningTo_39 rfl rfl ?_
      obtain rfl := Option.some.inj hf; exact J_iret C1 dX8_turningTo_40 rfl (Nat.zero_le _) (Nat.zero_le _) ⟨rfl, rfl⟩
    · refine J_aload_n (q := 11) C0 0 rfl rfl dX8_turningTo_10 rfl trivial ?_
      refine K_some hf (fun p3 hp3 hf => ?_)
      refine J_callV (q := 14) (ci := 7) (as := []) (rest := []) C0 rfl (h0) (t_X8_size a0  (hT) (h0)  hp3) ml_X8_size lk_X8_19 im_X8_size se_X8_size rfl (by decide) dX8_turningTo_11 rfl rfl rfl (by simp [ac_]) C1.room (by decide) (by decide) (by decide) (by decide) (fun r_ τ_ hQ => ?_)
      obtain ⟨rfl, ht_⟩ := hQ; have ht_ := ht_.symm; subst ht_
      show J_ Γ 14 [(0, vr (some a0)), (1, vr (v1)), (2, vi (v2)), (3, vi (v3))] [vi (p3)] σ 0 0
      refine J_aload_n (q := 15) C0 1 rfl rfl dX8_turningTo_14 rfl trivial ?_
      refine K_some hf (fun b4 hb4 hf => ?_)
      have ab4 : is_A σ b4 7 := (g_v1) b4 hb4
      refine K_some hf (fun p5 hp5 hf => ?_)
      refine J_callV (q := 18) (ci := 7) (as := []) (rest := [vi (p3)]) C0 hb4 (ab4) (t_X8_size b4  (hT) (ab4)  hp5) ml_X8_size lk_X8_19 im_X8_size se_X8_size rfl (by decide) dX8_turningTo_15 rfl rfl rfl (by simp [ac_]) C1.room (by decide) (by decide) (by decide) (by decide) (fun r_ τ_ hQ => ?_)
      obtain ⟨rfl, ht_⟩ := hQ; have ht_ := ht_.symm; subst ht_
      show J_ Γ 18 [(0, vr (some a0)), (1, vr (v1)), (2, vi (v2)), (3, vi (v3))] [vi (p5), vi (p3)] σ 0 0
      refine J_icmp_ne (t := 39) (q := 21) C0 dX8_turningTo_18 (by decide) rfl hf (fun c6 hf => ?_) (fun c6 hf => ?_)
      · refine J_iconst (q := 40) (v := (-1)) C0 dX8_turningTo_39 rfl rfl ?_
        obtain rfl := Option.some.inj hf; exact J_iret C1 dX8_turningTo_40 rfl (Nat.zero_le _) (Nat.zero_le _) ⟨rfl, rfl⟩
      · refine J_aload_n (q := 22) C0 0 rfl rfl dX8_turningTo_21 rfl trivial ?_
        refine J_aload_n (q := 23) C0 1 rfl rfl dX8_turningTo_22 rfl trivial ?_
        refine J_iload_n (q := 24) C0 3 rfl rfl dX8_turningTo_23 rfl ?_
        refine J_iload_n (q := 25) C0 2 rfl rfl dX8_turningTo_24 rfl ?_
        refine K_some hf (fun p7 hp7 hf => ?_)
        refine J_callV (q := 28) (ci := 7) (as := [vr (v1), vi (v3), vi (v2)]) (rest := []) C0 rfl (h0) (t_X8_isRow N a0 (v1) (v3) (v2) (hT) (h0) ((by rw [hb4]; exact is_O.some (ab4))) hp7) ml_X8_isRow lk_X8_23 im_X8_isRow se_X8_isRow rfl (by decide) dX8_turningTo_25 rfl rfl rfl (by simp [ac_]) C1.room (by decide) (by decide) (by decide) (by decide) (fun r_ τ_ hQ => ?_)
        obtain ⟨⟨rfl, zp7⟩, ht_⟩ := hQ; have ht_ := ht_.symm; subst ht_
        show J_ Γ 28 [(0, vr (some a0)), (1, vr (v1)), (2, vi (v2)), (3, vi (v3))] [vi (p7)] σ 0 0
        refine J_if_eq (t := 33) (q := 31) C0 dX8_turningTo_28 (by decide) rfl hf (fun c8 hf => ?_) (fun c8 hf => ?_)
        · refine J_iinc (q := 36) (v := v3 + 1) (lv' := [(3, vi (v3 + 1)), (0, vr (some a0)), (1, vr (v1)), (2, vi (v2))]) C0 3 rfl rfl (G_nl C1 (by decide)) dX8_turningTo_33 rfl rfl ?_
          refine J_goto (q := 2) C0 dX8_turningTo_36 (by decide) ?_
          refine J_sub (lv' := [(0, vr (some a0)), (1, vr (v1)), (2, vi (v2)), (3, vi (v3 + 1))]) [1, 2, 3, 0] rfl ?_
          exact ih (v1) (v2) (v3 + 1)  ((by rw [hb4]; exact is_O.some (ab4))) hf
        · refine J_iload_n (q := 32) C0 3 rfl rfl dX8_turningTo_31 rfl ?_
          obtain rfl := Option.some.inj hf; exact J_iret C1 dX8_turningTo_32 rfl (Nat.zero_le _) (Nat.zero_le _) ⟨rfl, rfl⟩
set_option maxHeartbeats 4000000 in
set_option maxRecDepth 100000 in
theorem t_X8_turningTo (N : Nat) (a0 : Nat) (e1 : Option Nat) (x2 : Int32) {σ : Sg} (hT : sg_T σ) (h0 : is_A σ a0 7) (g1 : is_O σ e1 7) {r : Int32} (hf : f_X8_turningTo N a0 e1 x2 σ = some r) : Ct yX8_turningTo cX8_turningTo 4 (some .int) 4 90 0 0 [vr (some a0), vr e1, vi x2] σ (fun r_ τ_ => (r_ = some (vi r)) ∧ τ_ = σ) := by
  refine Ct.of (by decide +kernel) (Nat.le_of_ble_eq_true rfl) (fun Γ C1 => ?_)
  have C0 := C1.1
  unfold f_X8_turningTo at hf
  show J_ Γ 0 [(0, vr (some a0)), (1, vr (e1)), (2, vi (x2))] [] σ 0 0
  refine J_iconst (q := 1) (v := 0) C0 dX8_turningTo_0 rfl rfl ?_
  refine J_istore_n (q := 2) (lv' := [(3, vi (0)), (0, vr (some a0)), (1, vr (e1)), (2, vi (x2))]) C0 rfl (G_nl C1 (by decide)) dX8_turningTo_1 rfl rfl ?_
  refine J_sub (lv' := [(0, vr (some a0)), (1, vr (e1)), (2, vi (x2)), (3, vi (0))]) [1, 2, 3, 0] rfl ?_
  exact t_X8_turningTo_L2 C1 (hT) (h0)    N (e1) (x2) (0) (g1) hf
def f_J6_compare_7cf53 (x0 : Int32) (x1 : Int32) : Option Int32 :=
  if (x0) < (x1) then
  (some ((-1)))
  else
  (if (x0) = (x1) then
  (some (0))
  else
  (some (1)))
set_option maxHeartbeats 4000000 in
set_option maxRecDepth 100000 in
theorem t_J6_compare_7cf53 (x0 : Int32) (x1 : Int32) {σ : Sg} {r : Int32} (hf : f_J6_compare_7cf53 x0 x1 = some r) : Ct yJ6_compare_7cf53 cJ6_compare_7cf53 2 (some .int) 0 0 0 0 [vi x0, vi x1] σ (fun r_ τ_ => (r_ = some (vi r)) ∧ τ_ = σ) := by
  refine Ct.of (by decide +kernel) (Nat.le_of_ble_eq_true rfl) (fun Γ C1 => ?_)
  have C0 := C1.1
  unfold f_J6_compare_7cf53 at hf
  show J_ Γ 0 [(0, vi (x0)), (1, vi (x1))] [] σ 0 0
  refine J_iload_n (q := 1) C0 0 rfl rfl dJ6_compare_7cf53_0 rfl ?_
  refine J_iload_n (q := 2) C0 1 rfl rfl dJ6_compare_7cf53_1 rfl ?_
  refine J_icmp_ge (t := 9) (q := 5) C0 dJ6_compare_7cf53_2 (by decide) rfl hf (fun c1 hf => ?_) (fun c1 hf => ?_)
  · refine J_iload_n (q := 10) C0 0 rfl rfl dJ6_compare_7cf53_9 rfl ?_
    refine J_iload_n (q := 11) C0 1 rfl rfl dJ6_compare_7cf53_10 rfl ?_
    refine J_icmp_ne (t := 18) (q := 14) C0 dJ6_compare_7cf53_11 (by decide) rfl hf (fun c2 hf => ?_) (fun c2 hf => ?_)
    · refine J_iconst (q := 19) (v := 1) C0 dJ6_compare_7cf53_18 rfl rfl ?_
      obtain rfl := Option.some.inj hf; exact J_iret C1 dJ6_compare_7cf53_19 rfl (Nat.zero_le _) (Nat.zero_le _) ⟨rfl, rfl⟩
    · refine J_iconst (q := 15) (v := 0) C0 dJ6_compare_7cf53_14 rfl rfl ?_
      refine J_goto (q := 19) C0 dJ6_compare_7cf53_15 (by decide) ?_
      obtain rfl := Option.some.inj hf; exact J_iret C1 dJ6_compare_7cf53_19 rfl (Nat.zero_le _) (Nat.zero_le _) ⟨rfl, rfl⟩
  · refine J_iconst (q := 6) (v := (-1)) C0 dJ6_compare_7cf53_5 rfl rfl ?_
    refine J_goto (q := 19) C0 dJ6_compare_7cf53_6 (by decide) ?_
    obtain rfl := Option.some.inj hf; exact J_iret C1 dJ6_compare_7cf53_19 rfl (Nat.zero_le _) (Nat.zero_le _) ⟨rfl, rfl⟩
def f_X8_compareRows_L3 (N : Nat) (a0 : Nat) : Nat → Int32 → Int32 → Int32 → Int32 → Sg → Option Int32
  | 0, _, _, _, _, _ => none
  | n + 1, v1, v2, v3, v4, σ =>
  if (v4) < (v3) then
  (Option.bind (f_X8_shownAt a0 ((v1) + (v4)) σ) fun p2 =>
  Option.bind (f_X8_shownAt a0 ((v2) + (v4)) σ) fun p3 =>
  Option.bind (f_J6_compare_7cf53 (p2) (p3) ) fun p4 =>
  if (p4) = (0) then
  (f_X8_compareRows_L3 N a0 n (v1) (v2) (v3) (v4 + 1) σ)
  else
  (some (p4)))
  else
  (some (0))
def f_X8_compareRows (N : Nat) (a0 : Nat) (x1 : Int32) (x2 : Int32) (x3 : Int32) (σ : Sg) : Option Int32 :=
  f_X8_compareRows_L3 N a0 N (x1) (x2) (x3) (0) σ
set_option maxHeartbeats 4000000 in
set_option maxRecDepth 100000 in
theorem t_X8_compareRows_L3 {N : Nat} {a0 : Nat} {Γ : Gm} {σ : Sg} {r : Int32} (C1 : CM Γ cX8_compareRows RX8 6 (some .int) 3 64 0 0 (fun r_ τ_ => (r_ = some (vi r)) ∧ τ_ = σ)) (hT : sg_T σ) (h0 : is_A σ a0 7) : ∀ (n : Nat) (v1 : Int32) (v2 : Int32) (v3 : Int32) (v4 : Int32), f_X8_compareRows_L3 N a0  n v1 v2 v3 v4 σ = some r → J_ Γ 3 [(0, vr (some a0)), (1, vi (v1)), (2, vi (v2)), (3, vi (v3)), (4, vi (v4))] [] σ 0 0 := by
  have C0 := C1.1
  intro n
  induction n with
  | zero => intro v1 v2 v3 v4  hf; unfold f_X8_compareRows_L3 at hf; cases hf
  | succ n ih =>
    intro v1 v2 v3 v4  hf
    rw [f_X8_compareRows_L3] at hf
    refine J_iload (q := 5) C0 4 rfl dX8_compareRows_3 rfl ?_
    refine J_iload_n (q := 6) C0 3 rfl rfl dX8_compareRows_5 rfl ?_
    refine J_icmp_ge (t := 44) (q := 9) C0 dX8_compareRows_6 (by decide) rfl hf (fun c1 hf => ?_) (fun c1 hf => ?_)
    · refine J_iconst (q := 45) (v := 0) C0 dX8_compareRows_44 rfl rfl ?_
      obtain rfl := Option.some.inj hf; exact J_iret C1 dX8_compareRows_45 rfl (Nat.zero_le _) (Nat.zero_le _) ⟨rfl, rfl⟩
    · refine J_aload_n (q := 10) C0 0 rfl rfl dX8_compareRows_9 rfl trivial ?_
      refine J_iload_n (q := 11) C0 1 rfl rfl dX8_compareRows_10 rfl ?_
      refine J_iload (q := 13) C0 4 rfl dX8_compareRows_11 rfl ?_
      refine J_iadd (q := 14) C0 dX8_compareRows_13 rfl ?_
      refine K_some hf (fun p2 hp2 hf => ?_)
      refine J_callV (q := 17) (ci := 7) (as := [vi ((v1) + (v4))]) (rest := []) C0 rfl (h0) (t_X8_shownAt a0 ((v1) + (v4)) (hT) (h0)  hp2) ml_X8_shownAt lk_X8_27 im_X8_shownAt se_X8_shownAt rfl (by decide) dX8_compareRows_14 rfl rfl rfl (by simp [ac_]) C1.room (by decide) (by decide) (by decide) (by decide) (fun r_ τ_ hQ => ?_)
      obtain ⟨rfl, ht_⟩ := hQ; have ht_ := ht_.symm; subst ht_
      show J_ Γ 17 [(0, vr (some a0)), (1, vi (v1)), (2, vi (v2)), (3, vi (v3)), (4, vi (v4))] [vi (p2)] σ 0 0
      refine J_aload_n (q := 18) C0 0 rfl rfl dX8_compareRows_17 rfl trivial ?_
      refine J_iload_n (q := 19) C0 2 rfl rfl dX8_compareRows_18 rfl ?_
      refine J_iload (q := 21) C0 4 rfl dX8_compareRows_19 rfl ?_
      refine J_iadd (q := 22) C0 dX8_compareRows_21 rfl ?_
      refine K_some hf (fun p3 hp3 hf => ?_)
      refine J_callV (q := 25) (ci := 7) (as := [vi ((v2) + (v4))]) (rest := [vi (p2)]) C0 rfl (h0) (t_X8_shownAt a0 ((v2) + (v4)) (hT) (h0)  hp3) ml_X8_shownAt lk_X8_27 im_X8_shownAt se_X8_shownAt rfl (by decide) dX8_compareRows_22 rfl rfl rfl (by simp [ac_]) C1.room (by decide) (by decide) (by decide) (by decide) (fun r_ τ_ hQ => ?_)
      obtain ⟨rfl, ht_⟩ := hQ; have ht_ := ht_.symm; subst ht_
      show J_ Γ 25 [(0, vr (some a0)), (1, vi (v1)), (2, vi (v2)), (3, vi (v3)), (4, vi (v4))] [vi (p3), vi (p2)] σ 0 0
      refine K_some hf (fun p4 hp4 hf => ?_)
      refine J_callS (q := 28) (as := [vi (p2), vi (p3)]) (rest := []) C0 (t_J6_compare_7cf53 (p2) (p3)  hp4) ml_J6_compare_7cf53 lk_X8_35 sm_J6_compare_7cf53 dX8_compareRows_25 rfl rfl rfl (by simp [ac_]) C1.room (by decide) (by decide) (by decide) (by decide) (fun r_ τ_ hQ => ?_)
      obtain ⟨rfl, ht_⟩ := hQ; have ht_ := ht_.symm; subst ht_
      show J_ Γ 28 [(0, vr (some a0)), (1, vi (v1)), (2, vi (v2)), (3, vi (v3)), (4, vi (v4))] [vi (p4)] σ 0 0
      refine J_istore (q := 30) (lv' := [(5, vi (p4)), (0, vr (some a0)), (1, vi (v1)), (2, vi (v2)), (3, vi (v3)), (4, vi (v4))]) C0 (G_nl C1 (by decide)) dX8_compareRows_28 rfl rfl ?_
      refine J_iload (q := 32) C0 0 rfl dX8_compareRows_30 rfl ?_
      refine J_if_eq (t := 38) (q := 35) C0 dX8_compareRows_32 (by decide) rfl hf (fun c5 hf => ?_) (fun c5 hf => ?_)
      · refine J_iinc (q := 41) (v := v4 + 1) (lv' := [(4, vi (v4 + 1)), (5, vi (p4)), (0, vr (some a0)), (1, vi (v1)), (2, vi (v2)), (3, vi (v3))]) C0 5 rfl rfl (G_nl C1 (by decide)) dX8_compareRows_38 rfl rfl ?_
        refine J_goto (q := 3) C0 dX8_compareRows_41 (by decide) ?_
        refine J_sub (lv' := [(0, vr (some a0)), (1, vi (v1)), (2, vi (v2)), (3, vi (v3)), (4, vi (v4 + 1))]) [2, 3, 4, 5, 0] rfl ?_
        exact ih (v1) (v2) (v3) (v4 + 1)   hf
      · refine J_iload (q := 37) C0 0 rfl dX8_compareRows_35 rfl ?_
        obtain rfl := Option.some.inj hf; exact J_iret C1 dX8_compareRows_37 rfl (Nat.zero_le _) (Nat.zero_le _) ⟨rfl, rfl⟩
set_option maxHeartbeats 4000000 in
set_option maxRecDepth 100000 in
theorem t_X8_compareRows (N : Nat) (a0 : Nat) (x1 : Int32) (x2 : Int32) (x3 : Int32) {σ : Sg} (hT : sg_T σ) (h0 : is_A σ a0 7) {r : Int32} (hf : f_X8_compareRows N a0 x1 x2 x3 σ = some r) : Ct yX8_compareRows cX8_compareRows 6 (some .int) 3 64 0 0 [vr (some a0), vi x1, vi x2, vi x3] σ (fun r_ τ_ => (r_ = some (vi r)) ∧ τ_ = σ) := by
  refine Ct.of (by decide +kernel) (Nat.le_of_ble_eq_true rfl) (fun Γ C1 => ?_)
  have C0 := C1.1
  unfold f_X8_compareRows at hf
  show J_ Γ 0 [(0, vr (some a0)), (1, vi (x1)), (2, vi (x2)), (3, vi (x3))] [] σ 0 0
  refine J_iconst (q := 1) (v := 0) C0 dX8_compareRows_0 rfl rfl ?_
  refine J_istore (q := 3) (lv' := [(4, vi (0)), (0, vr (some a0)), (1, vi (x1)), (2, vi (x2)), (3, vi (x3))]) C0 (G_nl C1 (by decide)) dX8_compareRows_1 rfl rfl ?_
  refine J_sub (lv' := [(0, vr (some a0)), (1, vi (x1)), (2, vi (x2)), (3, vi (x3)), (4, vi (0))]) [1, 2, 3, 4, 0] rfl ?_
  exact t_X8_compareRows_L3 C1 (hT) (h0)    N (x1) (x2) (x3) (0)  hf
def f_X8_leastTurning_B30 (N : Nat) (a0 : Nat) (k4 : Int32 → Int32 → Option Int32) (v2 : Int32) (s0 : Int32) (σ : Sg) : Option Int32 :=
  k4 (s0) (v2 + 1)
def f_X8_leastTurning_L4 (N : Nat) (a0 : Nat) : Nat → Int32 → Int32 → Sg → Option Int32
  | 0, _, _, _ => none
  | n + 1, v1, v2, σ =>
  Option.bind (f_X8_size a0  σ) fun p1 =>
  if (v2) < (p1) then
  (Option.bind (f_X8_size a0  σ) fun p3 =>
  Option.bind (f_X8_compareRows N a0 (v2) (v1) (p3) σ) fun p4 =>
  if (p4) < (0) then
  (f_X8_leastTurning_B30 N a0 (fun v1 v2 => f_X8_leastTurning_L4 N a0 n v1 v2 σ) (v2) (v2) σ)
  else
  (f_X8_leastTurning_B30 N a0 (fun v1 v2 => f_X8_leastTurning_L4 N a0 n v1 v2 σ) (v2) (v1) σ))
  else
  (some (v1))
def f_X8_leastTurning (N : Nat) (a0 : Nat) (σ : Sg) : Option Int32 :=
  f_X8_leastTurning_L4 N a0 N (0) (1) σ
set_option maxHeartbeats 4000000 in
set_option maxRecDepth 100000 in
theorem t_X8_leastTurning_B30 {N : Nat} {a0 : Nat} {Γ : Gm} {σ : Sg} {r : Int32} (C1 : CM Γ cX8_leastTurning RX8 3 (some .int) 4 89 0 0 (fun r_ τ_ => (r_ = some (vi r)) ∧ τ_ = σ)) (hT : sg_T σ) (h0 : is_A σ a0 7) (k4 : Int32 → Int32 → Option Int32) (hk4 : ∀ (v1 : Int32) (v2 : Int32) , k4 v1 v2 = some r → J_ Γ 4 [(0, vr (some a0)), (1, vi v1), (2, vi v2)] [] σ 0 0) (v2 : Int32) (s0 : Int32) (hf : f_X8_leastTurning_B30 N a0 k4  v2 s0 σ = some r) : J_ Γ 30 [(0, vr (some a0)), (2, vi (v2))] [vi (s0)] σ 0 0 := by
  have C0 := C1.1
  unfold f_X8_leastTurning_B30 at hf
  refine J_istore_n (q := 31) (lv' := [(1, vi (s0)), (0, vr (some a0)), (2, vi (v2))]) C0 rfl (G_nl C1 (by decide)) dX8_leastTurning_30 rfl rfl ?_
  refine J_iinc (q := 34) (v := v2 + 1) (lv' := [(2, vi (v2 + 1)), (1, vi (s0)), (0, vr (some a0))]) C0 2 rfl rfl (G_nl C1 (by decide)) dX8_leastTurning_31 rfl rfl ?_
  refine J_goto (q := 4) C0 dX8_leastTurning_34 (by decide) ?_
  refine J_sub (lv' := [(0, vr (some a0)), (1, vi (s0)), (2, vi (v2 + 1))]) [2, 1, 0] rfl ?_
  exact hk4 (s0) (v2 + 1)  hf
set_option maxHeartbeats 4000000 in
set_option maxRecDepth 100000 in
theorem t_X8_leastTurning_L4 {N : Nat} {a0 : Nat} {Γ : Gm} {σ : Sg} {r : Int32} (C1 : CM Γ cX8_leastTurning RX8 3 (some .int) 4 89 0 0 (fun r_ τ_ => (r_ = some (vi r)) ∧ τ_ = σ)) (hT : sg_T σ) (h0 : is_A σ a0 7) : ∀ (n : Nat) (v1 : Int32) (v2 : Int32), f_X8_leastTurning_L4 N a0  n v1 v2 σ = some r → J_ Γ 4 [(0, vr (some a0)), (1, vi (v1)), (2, vi (v2))] [] σ 0 0 := by
  have C0 := C1.1
  intro n
  induction n with
  | zero => intro v1 v2  hf; unfold f_X8_leastTurning_L4 at hf; cases hf
  | succ n ih =>
    intro v1 v2  hf
    rw [f_X8_leastTurning_L4] at hf
    refine J_iload_n (q := 5) C0 2 rfl rfl dX8_leastTurning_4 rfl ?_
    refine J_aload_n (q := 6) C0 0 rfl rfl dX8_leastTurning_5 rfl trivial ?_
    refine K_some hf (fun p1 hp1 hf => ?_)
    refine J_callV (q := 9) (ci := 7) (as := []) (rest := [vi (v2)]) C0 rfl (h0) (t_X8_size a0  (hT) (h0)  hp1) ml_X8_size lk_X8_19 im_X8_size se_X8_size rfl (by decide) dX8_leastTurning_6 rfl rfl rfl (by simp [ac_]) C1.room (by decide) (by decide) (by decide) (by decide) (fun r_ τ_ hQ => ?_)
    obtain ⟨rfl, ht_⟩ := hQ; have ht_ := ht_.symm; subst ht_
    show J_ Γ 9 [(0, vr (some a0)), (1, vi (v1)), (2, vi (v2))] [vi (p1), vi (v2)] σ 0 0
    refine J_icmp_ge (t := 37) (q := 12) C0 dX8_leastTurning_9 (by decide) rfl hf (fun c2 hf => ?_) (fun c2 hf => ?_)
    · refine J_iload_n (q := 38) C0 1 rfl rfl dX8_leastTurning_37 rfl ?_
      obtain rfl := Option.some.inj hf; exact J_iret C1 dX8_leastTurning_38 rfl (Nat.zero_le _) (Nat.zero_le _) ⟨rfl, rfl⟩
    · refine J_aload_n (q := 13) C0 0 rfl rfl dX8_leastTurning_12 rfl trivial ?_
      refine J_iload_n (q := 14) C0 2 rfl rfl dX8_leastTurning_13 rfl ?_
      refine J_iload_n (q := 15) C0 1 rfl rfl dX8_leastTurning_14 rfl ?_
      refine J_aload_n (q := 16) C0 0 rfl rfl dX8_leastTurning_15 rfl trivial ?_
      refine K_some hf (fun p3 hp3 hf => ?_)
      refine J_callV (q := 19) (ci := 7) (as := []) (rest := [vi (v1), vi (v2), vr (some a0)]) C0 rfl (h0) (t_X8_size a0  (hT) (h0)  hp3) ml_X8_size lk_X8_19 im_X8_size se_X8_size rfl (by decide) dX8_leastTurning_16 rfl rfl rfl (by simp [ac_]) C1.room (by decide) (by decide) (by decide) (by decide) (fun r_ τ_ hQ => ?_)
      obtain ⟨rfl, ht_⟩ := hQ; have ht_ := ht_.symm; subst ht_
      show J_ Γ 19 [(0, vr (some a0)), (1, vi (v1)), (2, vi (v2))] [vi (p3), vi (v1), vi (v2), vr (some a0)] σ 0 0
      refine K_some hf (fun p4 hp4 hf => ?_)
      refine J_callV (q := 22) (ci := 7) (as := [vi (v2), vi (v1), vi (p3)]) (rest := []) C0 rfl (h0) (t_X8_compareRows N a0 (v2) (v1) (p3) (hT) (h0)  hp4) ml_X8_compareRows lk_X8_31 im_X8_compareRows se_X8_compareRows rfl (by decide) dX8_leastTurning_19 rfl rfl rfl (by simp [ac_]) C1.room (by decide) (by decide) (by decide) (by decide) (fun r_ τ_ hQ => ?_)
      obtain ⟨rfl, ht_⟩ := hQ; have ht_ := ht_.symm; subst ht_
      show J_ Γ 22 [(0, vr (some a0)), (1, vi (v1)), (2, vi (v2))] [vi (p4)] σ 0 0
      refine J_if_ge (t := 29) (q := 25) C0 dX8_leastTurning_22 (by decide) rfl hf (fun c5 hf => ?_) (fun c5 hf => ?_)
      · refine J_iload_n (q := 30) C0 1 rfl rfl dX8_leastTurning_29 rfl ?_
        refine J_sub (lv' := [(0, vr (some a0)), (2, vi (v2))]) [0, 2] rfl ?_
        exact t_X8_leastTurning_B30 C1 (hT) (h0) (fun v1 v2 => f_X8_leastTurning_L4 N a0 n v1 v2 σ)  ih  (v2) (v1)  hf
      · refine J_iload_n (q := 26) C0 2 rfl rfl dX8_leastTurning_25 rfl ?_
        refine J_goto (q := 30) C0 dX8_leastTurning_26 (by decide) ?_
        refine J_sub (lv' := [(0, vr (some a0)), (2, vi (v2))]) [0, 2] rfl ?_
        exact t_X8_leastTurning_B30 C1 (hT) (h0) (fun v1 v2 => f_X8_leastTurning_L4 N a0 n v1 v2 σ)  ih  (v2) (v2)  hf
set_option maxHeartbeats 4000000 in
set_option maxRecDepth 100000 in
theorem t_X8_leastTurning (N : Nat) (a0 : Nat) {σ : Sg} (hT : sg_T σ) (h0 : is_A σ a0 7) {r : Int32} (hf : f_X8_leastTurning N a0  σ = some r) : Ct yX8_leastTurning cX8_leastTurning 3 (some .int) 4 89 0 0 [vr (some a0)] σ (fun r_ τ_ => (r_ = some (vi r)) ∧ τ_ = σ) := by
  refine Ct.of (by decide +kernel) (Nat.le_of_ble_eq_true rfl) (fun Γ C1 => ?_)
  have C0 := C1.1
  unfold f_X8_leastTurning at hf
  show J_ Γ 0 [(0, vr (some a0))] [] σ 0 0
  refine J_iconst (q := 1) (v := 0) C0 dX8_leastTurning_0 rfl rfl ?_
  refine J_istore_n (q := 2) (lv' := [(1, vi (0)), (0, vr (some a0))]) C0 rfl (G_nl C1 (by decide)) dX8_leastTurning_1 rfl rfl ?_
  refine J_iconst (q := 3) (v := 1) C0 dX8_leastTurning_2 rfl rfl ?_
  refine J_istore_n (q := 4) (lv' := [(2, vi (1)), (1, vi (0)), (0, vr (some a0))]) C0 rfl (G_nl C1 (by decide)) dX8_leastTurning_3 rfl rfl ?_
  refine J_sub (lv' := [(0, vr (some a0)), (1, vi (0)), (2, vi (1))]) [2, 1, 0] rfl ?_
  exact t_X8_leastTurning_L4 C1 (hT) (h0)    N (0) (1)  hf
def f_X8_unlikeRows_B64 (N : Nat) (a0 : Nat) (k4 : Int32 → Int32 → Int32 → Option Int32) (v1 : Int32) (v3 : Int32) (s0 : Int32) (s1 : Int32) (σ : Sg) : Option Int32 :=
  k4 (v1) ((s1) + (s0)) (v3 + 1)
def f_X8_unlikeRows_B53 (N : Nat) (a0 : Nat) (k4 : Int32 → Int32 → Int32 → Option Int32) (v1 : Int32) (v2 : Int32) (v3 : Int32) (v4 : Int32) (σ : Sg) : Option Int32 :=
  if (v4) = (0) then
  (f_X8_unlikeRows_B64 N a0 k4 (v1) (v3) (0) (v2) σ)
  else
  (f_X8_unlikeRows_B64 N a0 k4 (v1) (v3) (1) (v2) σ)
def f_X8_unlikeRows_B45 (N : Nat) (a0 : Nat) (k4 : Int32 → Int32 → Int32 → Option Int32) (k18 : Int32 → Int32 → Int32 → Int32 → Int32 → Option Int32) (v1 : Int32) (v2 : Int32) (v3 : Int32) (v5 : Int32) (s0 : Int32) (σ : Sg) : Option Int32 :=
  k18 (v1) (v2) (v3) (s0) (v5 + 1)
def f_X8_unlikeRows_L18 (N : Nat) (a0 : Nat) (k4 : Int32 → Int32 → Int32 → Option Int32) : Nat → Int32 → Int32 → Int32 → Int32 → Int32 → Sg → Option Int32
  | 0, _, _, _, _, _, _ => none
  | n + 1, v1, v2, v3, v4, v5, σ =>
  if (v5) < (v3) then
  (if (v4) = (0) then
  (f_X8_unlikeRows_B53 N a0 k4 (v1) (v2) (v3) (v4) σ)
  else
  (Option.bind (f_X8_compareRows N a0 (v3) (v5) (v1) σ) fun p6 =>
  if (p6) = (0) then
  (f_X8_unlikeRows_B45 N a0 k4 (fun v1 v2 v3 v4 v5 => f_X8_unlikeRows_L18 N a0 k4 n v1 v2 v3 v4 v5 σ) (v1) (v2) (v3) (v5) (0) σ)
  else
  (f_X8_unlikeRows_B45 N a0 k4 (fun v1 v2 v3 v4 v5 => f_X8_unlikeRows_L18 N a0 k4 n v1 v2 v3 v4 v5 σ) (v1) (v2) (v3) (v5) (1) σ)))
  else
  (f_X8_unlikeRows_B53 N a0 k4 (v1) (v2) (v3) (v4) σ)
def f_X8_unlikeRows_L4 (N : Nat) (a0 : Nat) : Nat → Int32 → Int32 → Int32 → Sg → Option Int32
  | 0, _, _, _, _ => none
  | n + 1, v1, v2, v3, σ =>
  Option.bind (f_X8_size a0  σ) fun p1 =>
  if (v3) < (p1) then
  (f_X8_unlikeRows_L18 N a0 (fun v1 v2 v3 => f_X8_unlikeRows_L4 N a0 n v1 v2 v3 σ) N (v1) (v2) (v3) (1) (0) σ)
  else
  (some (v2))
def f_X8_unlikeRows (N : Nat) (a0 : Nat) (x1 : Int32) (σ : Sg) : Option Int32 :=
  f_X8_unlikeRows_L4 N a0 N (x1) (0) (0) σ
set_option maxHeartbeats 4000000 in
set_option maxRecDepth 100000 in
theorem t_X8_unlikeRows_B64 {N : Nat} {a0 : Nat} {Γ : Gm} {σ : Sg} {r : Int32} (C1 : CM Γ cX8_unlikeRows RX8 6 (some .int) 4 89 0 0 (fun r_ τ_ => (r_ = some (vi r)) ∧ τ_ = σ)) (hT : sg_T σ) (h0 : is_A σ a0 7) (k4 : Int32 → Int32 → Int32 → Option Int32) (hk4 : ∀ (v1 : Int32) (v2 : Int32) (v3 : Int32) , k4 v1 v2 v3 = some r → J_ Γ 4 [(0, vr (some a0)), (1, vi v1), (2, vi v2), (3, vi v3)] [] σ 0 0) (v1 : Int32) (v3 : Int32) (s0 : Int32) (s1 : Int32) (hf : f_X8_unlikeRows_B64 N a0 k4  v1 v3 s0 s1 σ = some r) : J_ Γ 64 [(0, vr (some a0)), (1, vi (v1)), (3, vi (v3))] [vi (s0), vi (s1)] σ 0 0 := by
  have C0 := C1.1
  unfold f_X8_unlikeRows_B64 at hf
  refine J_iadd (q := 65) C0 dX8_unlikeRows_64 rfl ?_
  refine J_istore_n (q := 66) (lv' := [(2, vi ((s1) + (s0))), (0, vr (some a0)), (1, vi (v1)), (3, vi (v3))]) C0 rfl (G_nl C1 (by decide)) dX8_unlikeRows_65 rfl rfl ?_
  refine J_iinc (q := 69) (v := v3 + 1) (lv' := [(3, vi (v3 + 1)), (2, vi ((s1) + (s0))), (0, vr (some a0)), (1, vi (v1))]) C0 3 rfl rfl (G_nl C1 (by decide)) dX8_unlikeRows_66 rfl rfl ?_
  refine J_goto (q := 4) C0 dX8_unlikeRows_69 (by decide) ?_
  refine J_sub (lv' := [(0, vr (some a0)), (1, vi (v1)), (2, vi ((s1) + (s0))), (3, vi (v3 + 1))]) [2, 3, 1, 0] rfl ?_
  exact hk4 (v1) ((s1) + (s0)) (v3 + 1)  hf
set_option maxHeartbeats 4000000 in
set_option maxRecDepth 100000 in
theorem t_X8_unlikeRows_B53 {N : Nat} {a0 : Nat} {Γ : Gm} {σ : Sg} {r : Int32} (C1 : CM Γ cX8_unlikeRows RX8 6 (some .int) 4 89 0 0 (fun r_ τ_ => (r_ = some (vi r)) ∧ τ_ = σ)) (hT : sg_T σ) (h0 : is_A σ a0 7) (k4 : Int32 → Int32 → Int32 → Option Int32) (hk4 : ∀ (v1 : Int32) (v2 : Int32) (v3 : Int32) , k4 v1 v2 v3 = some r → J_ Γ 4 [(0, vr (some a0)), (1, vi v1), (2, vi v2), (3, vi v3)] [] σ 0 0) (v1 : Int32) (v2 : Int32) (v3 : Int32) (v4 : Int32) (hf : f_X8_unlikeRows_B53 N a0 k4  v1 v2 v3 v4 σ = some r) : J_ Γ 53 [(0, vr (some a0)), (1, vi (v1)), (2, vi (v2)), (3, vi (v3)), (4, vi (v4))] [] σ 0 0 := by
  have C0 := C1.1
  unfold f_X8_unlikeRows_B53 at hf
  refine J_iload_n (q := 54) C0 2 rfl rfl dX8_unlikeRows_53 rfl ?_
  refine J_iload (q := 56) C0 4 rfl dX8_unlikeRows_54 rfl ?_
  refine J_if_eq (t := 63) (q := 59) C0 dX8_unlikeRows_56 (by decide) rfl hf (fun c4 hf => ?_) (fun c4 hf => ?_)
  · refine J_iconst (q := 64) (v := 0) C0 dX8_unlikeRows_63 rfl rfl ?_
    refine J_sub (lv' := [(0, vr (some a0)), (1, vi (v1)), (3, vi (v3))]) [0, 1, 3] rfl ?_
    exact t_X8_unlikeRows_B64 C1 (hT) (h0) k4  hk4  (v1) (v3) (0) (v2)  hf
  · refine J_iconst (q := 60) (v := 1) C0 dX8_unlikeRows_59 rfl rfl ?_
    refine J_goto (q := 64) C0 dX8_unlikeRows_60 (by decide) ?_
    refine J_sub (lv' := [(0, vr (some a0)), (1, vi (v1)), (3, vi (v3))]) [0, 1, 3] rfl ?_
    exact t_X8_unlikeRows_B64 C1 (hT) (h0) k4  hk4  (v1) (v3) (1) (v2)  hf
set_option maxHeartbeats 4000000 in
set_option maxRecDepth 100000 in
theorem t_X8_unlikeRows_B45 {N : Nat} {a0 : Nat} {Γ : Gm} {σ : Sg} {r : Int32} (C1 : CM Γ cX8_unlikeRows RX8 6 (some .int) 4 89 0 0 (fun r_ τ_ => (r_ = some (vi r)) ∧ τ_ = σ)) (hT : sg_T σ) (h0 : is_A σ a0 7) (k4 : Int32 → Int32 → Int32 → Option Int32) (k18 : Int32 → Int32 → Int32 → Int32 → Int32 → Option Int32) (hk4 : ∀ (v1 : Int32) (v2 : Int32) (v3 : Int32) , k4 v1 v2 v3 = some r → J_ Γ 4 [(0, vr (some a0)), (1, vi v1), (2, vi v2), (3, vi v3)] [] σ 0 0) (hk18 : ∀ (v1 : Int32) (v2 : Int32) (v3 : Int32) (v4 : Int32) (v5 : Int32) , k18 v1 v2 v3 v4 v5 = some r → J_ Γ 18 [(0, vr (some a0)), (1, vi v1), (2, vi v2), (3, vi v3), (4, vi v4), (5, vi v5)] [] σ 0 0) (v1 : Int32) (v2 : Int32) (v3 : Int32) (v5 : Int32) (s0 : Int32) (hf : f_X8_unlikeRows_B45 N a0 k4 k18  v1 v2 v3 v5 s0 σ = some r) : J_ Γ 45 [(0, vr (some a0)), (1, vi (v1)), (2, vi (v2)), (3, vi (v3)), (5, vi (v5))] [vi (s0)] σ 0 0 := by
  have C0 := C1.1
  unfold f_X8_unlikeRows_B45 at hf
  refine J_istore (q := 47) (lv' := [(4, vi (s0)), (0, vr (some a0)), (1, vi (v1)), (2, vi (v2)), (3, vi (v3)), (5, vi (v5))]) C0 (G_nl C1 (by decide)) dX8_unlikeRows_45 rfl rfl ?_
  refine J_iinc (q := 50) (v := v5 + 1) (lv' := [(5, vi (v5 + 1)), (4, vi (s0)), (0, vr (some a0)), (1, vi (v1)), (2, vi (v2)), (3, vi (v3))]) C0 5 rfl rfl (G_nl C1 (by decide)) dX8_unlikeRows_47 rfl rfl ?_
  refine J_goto (q := 18) C0 dX8_unlikeRows_50 (by decide) ?_
  refine J_sub (lv' := [(0, vr (some a0)), (1, vi (v1)), (2, vi (v2)), (3, vi (v3)), (4, vi (s0)), (5, vi (v5 + 1))]) [2, 3, 4, 5, 1, 0] rfl ?_
  exact hk18 (v1) (v2) (v3) (s0) (v5 + 1)  hf
set_option maxHeartbeats 4000000 in
set_option maxRecDepth 100000 in
theorem t_X8_unlikeRows_L18 {N : Nat} {a0 : Nat} {Γ : Gm} {σ : Sg} {r : Int32} (C1 : CM Γ cX8_unlikeRows RX8 6 (some .int) 4 89 0 0 (fun r_ τ_ => (r_ = some (vi r)) ∧ τ_ = σ)) (hT : sg_T σ) (h0 : is_A σ a0 7) (k4 : Int32 → Int32 → Int32 → Option Int32) (hk4 : ∀ (v1 : Int32) (v2 : Int32) (v3 : Int32) , k4 v1 v2 v3 = some r → J_ Γ 4 [(0, vr (some a0)), (1, vi v1), (2, vi v2), (3, vi v3)] [] σ 0 0) : ∀ (n : Nat) (v1 : Int32) (v2 : Int32) (v3 : Int32) (v4 : Int32) (v5 : Int32), f_X8_unlikeRows_L18 N a0 k4  n v1 v2 v3 v4 v5 σ = some r → J_ Γ 18 [(0, vr (some a0)), (1, vi (v1)), (2, vi (v2)), (3, vi (v3)), (4, vi (v4)), (5, vi (v5))] [] σ 0 0 := by
  have C0 := C1.1
  intro n
  induction n with
  | zero => intro v1 v2 v3 v4 v5  hf; unfold f_X8_unlikeRows_L18 at hf; cases hf
  | succ n ih =>
    intro v1 v2 v3 v4 v5  hf
    rw [f_X8_unlikeRows_L18] at hf
    refine J_iload (q := 20) C0 5 rfl dX8_unlikeRows_18 rfl ?_
    refine J_iload_n (q := 21) C0 3 rfl rfl dX8_unlikeRows_20 rfl ?_
    refine J_icmp_ge (t := 53) (q := 24) C0 dX8_unlikeRows_21 (by decide) rfl hf (fun c3 hf => ?_) (fun c3 hf => ?_)
    · refine J_sub (lv' := [(0, vr (some a0)), (1, vi (v1)), (2, vi (v2)), (3, vi (v3)), (4, vi (v4))]) [0, 1, 2, 3, 4] rfl ?_
      exact t_X8_unlikeRows_B53 C1 (hT) (h0) k4  hk4  (v1) (v2) (v3) (v4)  hf
    · refine J_iload (q := 26) C0 4 rfl dX8_unlikeRows_24 rfl ?_
      refine J_if_eq (t := 53) (q := 29) C0 dX8_unlikeRows_26 (by decide) rfl hf (fun c5 hf => ?_) (fun c5 hf => ?_)
      · refine J_sub (lv' := [(0, vr (some a0)), (1, vi (v1)), (2, vi (v2)), (3, vi (v3)), (4, vi (v4))]) [0, 1, 2, 3, 4] rfl ?_
        exact t_X8_unlikeRows_B53 C1 (hT) (h0) k4  hk4  (v1) (v2) (v3) (v4)  hf
      · refine J_aload_n (q := 30) C0 0 rfl rfl dX8_unlikeRows_29 rfl trivial ?_
        refine J_iload_n (q := 31) C0 3 rfl rfl dX8_unlikeRows_30 rfl ?_
        refine J_iload (q := 33) C0 5 rfl dX8_unlikeRows_31 rfl ?_
        refine J_iload_n (q := 34) C0 1 rfl rfl dX8_unlikeRows_33 rfl ?_
        refine K_some hf (fun p6 hp6 hf => ?_)
        refine J_callV (q := 37) (ci := 7) (as := [vi (v3), vi (v5), vi (v1)]) (rest := []) C0 rfl (h0) (t_X8_compareRows N a0 (v3) (v5) (v1) (hT) (h0)  hp6) ml_X8_compareRows lk_X8_31 im_X8_compareRows se_X8_compareRows rfl (by decide) dX8_unlikeRows_34 rfl rfl rfl (by simp [ac_]) C1.room (by decide) (by decide) (by decide) (by decide) (fun r_ τ_ hQ => ?_)
        obtain ⟨rfl, ht_⟩ := hQ; have ht_ := ht_.symm; subst ht_
        show J_ Γ 37 [(0, vr (some a0)), (1, vi (v1)), (2, vi (v2)), (3, vi (v3)), (4, vi (v4)), (5, vi (v5))] [vi (p6)] σ 0 0
        refine J_if_eq (t := 44) (q := 40) C0 dX8_unlikeRows_37 (by decide) rfl hf (fun c7 hf => ?_) (fun c7 hf => ?_)
        · refine J_iconst (q := 45) (v := 0) C0 dX8_unlikeRows_44 rfl rfl ?_
          refine J_sub (lv' := [(0, vr (some a0)), (1, vi (v1)), (2, vi (v2)), (3, vi (v3)), (5, vi (v5))]) [0, 1, 2, 3, 5] rfl ?_
          exact t_X8_unlikeRows_B45 C1 (hT) (h0) k4  (fun v1 v2 v3 v4 v5 => f_X8_unlikeRows_L18 N a0 k4 n v1 v2 v3 v4 v5 σ)  hk4  ih  (v1) (v2) (v3) (v5) (0)  hf
        · refine J_iconst (q := 41) (v := 1) C0 dX8_unlikeRows_40 rfl rfl ?_
          refine J_goto (q := 45) C0 dX8_unlikeRows_41 (by decide) ?_
          refine J_sub (lv' := [(0, vr (some a0)), (1, vi (v1)), (2, vi (v2)), (3, vi (v3)), (5, vi (v5))]) [0, 1, 2, 3, 5] rfl ?_
          exact t_X8_unlikeRows_B45 C1 (hT) (h0) k4  (fun v1 v2 v3 v4 v5 => f_X8_unlikeRows_L18 N a0 k4 n v1 v2 v3 v4 v5 σ)  hk4  ih  (v1) (v2) (v3) (v5) (1)  hf
set_option maxHeartbeats 4000000 in
set_option maxRecDepth 100000 in
theorem t_X8_unlikeRows_L4 {N : Nat} {a0 : Nat} {Γ : Gm} {σ : Sg} {r : Int32} (C1 : CM Γ cX8_unlikeRows RX8 6 (some .int) 4 89 0 0 (fun r_ τ_ => (r_ = some (vi r)) ∧ τ_ = σ)) (hT : sg_T σ) (h0 : is_A σ a0 7) : ∀ (n : Nat) (v1 : Int32) (v2 : Int32) (v3 : Int32), f_X8_unlikeRows_L4 N a0  n v1 v2 v3 σ = some r → J_ Γ 4 [(0, vr (some a0)), (1, vi (v1)), (2, vi (v2)), (3, vi (v3))] [] σ 0 0 := by
  have C0 := C1.1
  intro n
  induction n with
  | zero => intro v1 v2 v3  hf; unfold f_X8_unlikeRows_L4 at hf; cases hf
  | succ n ih =>
    intro v1 v2 v3  hf
    rw [f_X8_unlikeRows_L4] at hf
    refine J_iload_n (q := 5) C0 3 rfl rfl dX8_unlikeRows_4 rfl ?_
    refine J_aload_n (q := 6) C0 0 rfl rfl dX8_unlikeRows_5 rfl trivial ?_
    refine K_some hf (fun p1 hp1 hf => ?_)
    refine J_callV (q := 9) (ci := 7) (as := []) (rest := [vi (v3)]) C0 rfl (h0) (t_X8_size a0  (hT) (h0)  hp1) ml_X8_size lk_X8_19 im_X8_size se_X8_size rfl (by decide) dX8_unlikeRows_6 rfl rfl rfl (by simp [ac_]) C1.room (by decide) (by decide) (by decide) (by decide) (fun r_ τ_ hQ => ?_)
    obtain ⟨rfl, ht_⟩ := hQ; have ht_ := ht_.symm; subst ht_
    show J_ Γ 9 [(0, vr (some a0)), (1, vi (v1)), (2, vi (v2)), (3, vi (v3))] [vi (p1), vi (v3)] σ 0 0
    refine J_icmp_ge (t := 72) (q := 12) C0 dX8_unlikeRows_9 (by decide) rfl hf (fun c2 hf => ?_) (fun c2 hf => ?_)
    · refine J_iload_n (q := 73) C0 2 rfl rfl dX8_unlikeRows_72 rfl ?_
      obtain rfl := Option.some.inj hf; exact J_iret C1 dX8_unlikeRows_73 rfl (Nat.zero_le _) (Nat.zero_le _) ⟨rfl, rfl⟩
    · refine J_iconst (q := 13) (v := 1) C0 dX8_unlikeRows_12 rfl rfl ?_
      refine J_istore (q := 15) (lv' := [(4, vi (1)), (0, vr (some a0)), (1, vi (v1)), (2, vi (v2)), (3, vi (v3))]) C0 (G_nl C1 (by decide)) dX8_unlikeRows_13 rfl rfl ?_
      refine J_iconst (q := 16) (v := 0) C0 dX8_unlikeRows_15 rfl rfl ?_
      refine J_istore (q := 18) (lv' := [(5, vi (0)), (4, vi (1)), (0, vr (some a0)), (1, vi (v1)), (2, vi (v2)), (3, vi (v3))]) C0 (G_nl C1 (by decide)) dX8_unlikeRows_16 rfl rfl ?_
      refine J_sub (lv' := [(0, vr (some a0)), (1, vi (v1)), (2, vi (v2)), (3, vi (v3)), (4, vi (1)), (5, vi (0))]) [2, 3, 4, 5, 1, 0] rfl ?_
      exact t_X8_unlikeRows_L18 C1 (hT) (h0)  (fun v1 v2 v3 => f_X8_unlikeRows_L4 N a0 n v1 v2 v3 σ)  ih  N (v1) (v2) (v3) (1) (0)  hf
set_option maxHeartbeats 4000000 in
set_option maxRecDepth 100000 in
theorem t_X8_unlikeRows (N : Nat) (a0 : Nat) (x1 : Int32) {σ : Sg} (hT : sg_T σ) (h0 : is_A σ a0 7) {r : Int32} (hf : f_X8_unlikeRows N a0 x1 σ = some r) : Ct yX8_unlikeRows cX8_unlikeRows 6 (some .int) 4 89 0 0 [vr (some a0), vi x1] σ (fun r_ τ_ => (r_ = some (vi r)) ∧ τ_ = σ) := by
  refine Ct.of (by decide +kernel) (Nat.le_of_ble_eq_true rfl) (fun Γ C1 => ?_)
  have C0 := C1.1
  unfold f_X8_unlikeRows at hf
  show J_ Γ 0 [(0, vr (some a0)), (1, vi (x1))] [] σ 0 0
  refine J_iconst (q := 1) (v := 0) C0 dX8_unlikeRows_0 rfl rfl ?_
  refine J_istore_n (q := 2) (lv' := [(2, vi (0)), (0, vr (some a0)), (1, vi (x1))]) C0 rfl (G_nl C1 (by decide)) dX8_unlikeRows_1 rfl rfl ?_
  refine J_iconst (q := 3) (v := 0) C0 dX8_unlikeRows_2 rfl rfl ?_
  refine J_istore_n (q := 4) (lv' := [(3, vi (0)), (2, vi (0)), (0, vr (some a0)), (1, vi (x1))]) C0 rfl (G_nl C1 (by decide)) dX8_unlikeRows_3 rfl rfl ?_
  refine J_sub (lv' := [(0, vr (some a0)), (1, vi (x1)), (2, vi (0)), (3, vi (0))]) [2, 3, 1, 0] rfl ?_
  exact t_X8_unlikeRows_L4 C1 (hT) (h0)    N (x1) (0) (0)  hf
def f_X9_pictureOf_B17 (v0 : Int32) : Option Int32 :=
  if (v0) = (46) then
  (some (26))
  else
  (some ((-1)))
def f_X9_pictureOf (x0 : Int32) : Option Int32 :=
  if (x0) < (97) then
  (f_X9_pictureOf_B17 (x0) )
  else
  (if (122) < (x0) then
  (f_X9_pictureOf_B17 (x0) )
  else
  (some ((x0) - (97))))
set_option maxHeartbeats 4000000 in
set_option maxRecDepth 100000 in
theorem t_X9_pictureOf_B17 {Γ : Gm} {σ : Sg} {r : Int32} (C1 : CM Γ cX9_pictureOf RX9 1 (some .int) 0 0 0 0 (fun r_ τ_ => (r_ = some (vi r)) ∧ τ_ = σ)) (v0 : Int32) (hf : f_X9_pictureOf_B17  v0 = some r) : J_ Γ 17 [(0, vi (v0))] [] σ 0 0 := by
  have C0 := C1.1
  unfold f_X9_pictureOf_B17 at hf
  refine J_iload_n (q := 18) C0 0 rfl rfl dX9_pictureOf_17 rfl ?_
  refine J_bipush (q := 20) (v := 46) C0 dX9_pictureOf_18 rfl rfl ?_
  refine J_icmp_ne (t := 28) (q := 23) C0 dX9_pictureOf_20 (by decide) rfl hf (fun c2 hf => ?_) (fun c2 hf => ?_)
  · refine J_iconst (q := 29) (v := (-1)) C0 dX9_pictureOf_28 rfl rfl ?_
    obtain rfl := Option.some.inj hf; exact J_iret C1 dX9_pictureOf_29 rfl (Nat.zero_le _) (Nat.zero_le _) ⟨rfl, rfl⟩
  · refine J_bipush (q := 25) (v := 26) C0 dX9_pictureOf_23 rfl rfl ?_
    refine J_goto (q := 29) C0 dX9_pictureOf_25 (by decide) ?_
    obtain rfl := Option.some.inj hf; exact J_iret C1 dX9_pictureOf_29 rfl (Nat.zero_le _) (Nat.zero_le _) ⟨rfl, rfl⟩
set_option maxHeartbeats 4000000 in
set_option maxRecDepth 100000 in
theorem t_X9_pictureOf (x0 : Int32) {σ : Sg} {r : Int32} (hf : f_X9_pictureOf x0 = some r) : Ct yX9_pictureOf cX9_pictureOf 1 (some .int) 0 0 0 0 [vi x0] σ (fun r_ τ_ => (r_ = some (vi r)) ∧ τ_ = σ) := by
  refine Ct.of (by decide +kernel) (Nat.le_of_ble_eq_true rfl) (fun Γ C1 => ?_)
  have C0 := C1.1
  unfold f_X9_pictureOf at hf
  show J_ Γ 0 [(0, vi (x0))] [] σ 0 0
  refine J_iload_n (q := 1) C0 0 rfl rfl dX9_pictureOf_0 rfl ?_
  refine J_bipush (q := 3) (v := 97) C0 dX9_pictureOf_1 rfl rfl ?_
  refine J_icmp_lt (t := 17) (q := 6) C0 dX9_pictureOf_3 (by decide) rfl hf (fun c1 hf => ?_) (fun c1 hf => ?_)
  · exact t_X9_pictureOf_B17 C1   (x0)  hf
  · refine J_iload_n (q := 7) C0 0 rfl rfl dX9_pictureOf_6 rfl ?_
    refine J_bipush (q := 9) (v := 122) C0 dX9_pictureOf_7 rfl rfl ?_
    refine J_icmp_gt (t := 17) (q := 12) C0 dX9_pictureOf_9 (by decide) rfl hf (fun c3 hf => ?_) (fun c3 hf => ?_)
    · exact t_X9_pictureOf_B17 C1   (x0)  hf
    · refine J_iload_n (q := 13) C0 0 rfl rfl dX9_pictureOf_12 rfl ?_
      refine J_bipush (q := 15) (v := 97) C0 dX9_pictureOf_13 rfl rfl ?_
      refine J_isub (q := 16) C0 dX9_pictureOf_15 rfl ?_
      obtain rfl := Option.some.inj hf; exact J_iret C1 dX9_pictureOf_16 rfl (Nat.zero_le _) (Nat.zero_le _) ⟨rfl, rfl⟩
def f_X9_add_L2 (N : Nat) (a0 : Nat) : Nat → Int32 → Int32 → Int32 → Sg → Option Sg
  | 0, _, _, _, _ => none
  | n + 1, v1, v2, v3, σ =>
  if (v3) < (v2) then
  (Option.bind (sg_R σ a0 3) fun b2 =>
  if (sg_I σ a0 4) < (Int32.ofNat (sg_L σ b2)) then
  (if (sg_I σ a0 4) < 0 ∨ sg_L σ b2 ≤ (sg_I σ a0 4).toNatClampNeg then none else
  f_X9_add_L2 N a0 n (v1) (v2) (v3 + 1) (put_I (put_I σ b2 (sg_I σ a0 4).toNatClampNeg (v1)) a0 4 ((sg_I (put_I σ b2 (sg_I σ a0 4).toNatClampNeg (v1)) a0 4) + (1))))
  else
  (some (σ)))
  else
  (some (σ))
def f_X9_add (N : Nat) (a0 : Nat) (x1 : Int32) (x2 : Int32) (σ : Sg) : Option Sg :=
  f_X9_add_L2 N a0 N (x1) (x2) (0) σ
set_option maxHeartbeats 4000000 in
set_option maxRecDepth 100000 in
theorem t_X9_add_L2 {N : Nat} {a0 : Nat} {Γ : Gm} {σ0 : Sg} {r : Sg} (C1 : CM Γ cX9_add RX9 4 none 0 0 0 0 (fun r_ τ_ => (r_ = none) ∧ τ_ = r ∧ sg_T τ_ ∧ sg_E σ0 τ_)) : ∀ (n : Nat) (v1 : Int32) (v2 : Int32) (v3 : Int32) (σ : Sg), sg_T σ → sg_E σ0 σ → is_A σ a0 8 → f_X9_add_L2 N a0  n v1 v2 v3 σ = some r → J_ Γ 2 [(0, vr (some a0)), (1, vi (v1)), (2, vi (v2)), (3, vi (v3))] [] σ 0 0 := by
  have C0 := C1.1
  intro n
  induction n with
  | zero => intro v1 v2 v3 σ hT hE h0  hf; unfold f_X9_add_L2 at hf; cases hf
  | succ n ih =>
    intro v1 v2 v3 σ hT hE h0  hf
    rw [f_X9_add_L2] at hf
    refine J_iload_n (q := 3) C0 3 rfl rfl dX9_add_2 rfl ?_
    refine J_iload_n (q := 4) C0 2 rfl rfl dX9_add_3 rfl ?_
    refine J_icmp_ge (t := 45) (q := 7) C0 dX9_add_4 (by decide) rfl hf (fun c1 hf => ?_) (fun c1 hf => ?_)
    · obtain rfl := Option.some.inj hf; exact J_vret C1 dX9_add_45 rfl (Nat.zero_le _) (Nat.zero_le _) ⟨rfl, rfl, hT, hE⟩
    · refine J_aload_n (q := 8) C0 0 rfl rfl dX9_add_7 rfl trivial ?_
      refine J_getI (q := 11) C0 fl_X9_15_8 rfl (h0) rfl dX9_add_8 rfl ?_
      refine J_aload_n (q := 12) C0 0 rfl rfl dX9_add_11 rfl trivial ?_
      refine J_getR (q := 15) C0 fl_X9_9_8 rfl (h0) rfl dX9_add_12 rfl ?_
      refine K_some hf (fun b2 hb2 hf => ?_)
      have ab2 : is_A σ b2 12 := ((sg_T.op hT (j := 3) (h0) rfl)) b2 hb2
      refine J_alen (q := 16) C0 hb2 (ab2) (by decide) dX9_add_15 rfl ?_
      refine J_icmp_ge (t := 45) (q := 19) C0 dX9_add_16 (by decide) rfl hf (fun c3 hf => ?_) (fun c3 hf => ?_)
      · obtain rfl := Option.some.inj hf; exact J_vret C1 dX9_add_45 rfl (Nat.zero_le _) (Nat.zero_le _) ⟨rfl, rfl, hT, hE⟩
      · refine J_aload_n (q := 20) C0 0 rfl rfl dX9_add_19 rfl trivial ?_
        refine J_getR (q := 23) C0 fl_X9_9_8 rfl (h0) rfl dX9_add_20 rfl ?_
        refine J_aload_n (q := 24) C0 0 rfl rfl dX9_add_23 rfl trivial ?_
        refine J_getI (q := 27) C0 fl_X9_15_8 rfl (h0) rfl dX9_add_24 rfl ?_
        refine J_iload_n (q := 28) C0 1 rfl rfl dX9_add_27 rfl ?_
        refine K_chk hf (fun c4 hf => ?_)
        refine J_iast (q := 29) C0 hb2 (ab2) c4 dX9_add_28 rfl ?_
        refine J_aload_n (q := 30) C0 0 rfl rfl dX9_add_29 rfl trivial ?_
        refine J_dup (q := 31) C0 dX9_add_30 rfl rfl ?_
        refine J_getI (q := 34) C0 fl_X9_15_8 rfl ((h0).putI) rfl dX9_add_31 rfl ?_
        refine J_iconst (q := 35) (v := 1) C0 dX9_add_34 rfl rfl ?_
        refine J_iadd (q := 36) C0 dX9_add_35 rfl ?_
        refine J_putI (q := 39) C0 fl_X9_15_8 rfl ((h0).putI) rfl dX9_add_36 rfl ?_
        refine J_iinc (q := 42) (v := v3 + 1) (lv' := [(3, vi (v3 + 1)), (0, vr (some a0)), (1, vi (v1)), (2, vi (v2))]) C0 3 rfl rfl (G_nl C1 (by decide)) dX9_add_39 rfl rfl ?_
        refine J_goto (q := 2) C0 dX9_add_42 (by decide) ?_
        refine J_sub (lv' := [(0, vr (some a0)), (1, vi (v1)), (2, vi (v2)), (3, vi (v3 + 1))]) [1, 2, 3, 0] rfl ?_
        exact ih (v1) (v2) (v3 + 1) (put_I (put_I σ b2 (sg_I σ a0 4).toNatClampNeg (v1)) a0 4 ((sg_I (put_I σ b2 (sg_I σ a0 4).toNatClampNeg (v1)) a0 4) + (1))) (((hT).putI).putI) (((hE).putI).putI) (((h0).putI).putI)  hf
set_option maxHeartbeats 4000000 in
set_option maxRecDepth 100000 in
theorem t_X9_add (N : Nat) (a0 : Nat) (x1 : Int32) (x2 : Int32) {σ : Sg} (hT : sg_T σ) (h0 : is_A σ a0 8) {r : Sg} (hf : f_X9_add N a0 x1 x2 σ = some r) : Ct yX9_add cX9_add 4 none 0 0 0 0 [vr (some a0), vi x1, vi x2] σ (fun r_ τ_ => (r_ = none) ∧ τ_ = r ∧ sg_T τ_ ∧ sg_E σ τ_) := by
  refine Ct.of (by decide +kernel) (Nat.le_of_ble_eq_true rfl) (fun Γ C1 => ?_)
  have C0 := C1.1
  have hE : sg_E σ σ := sg_E.rf
  unfold f_X9_add at hf
  show J_ Γ 0 [(0, vr (some a0)), (1, vi (x1)), (2, vi (x2))] [] σ 0 0
  refine J_iconst (q := 1) (v := 0) C0 dX9_add_0 rfl rfl ?_
  refine J_istore_n (q := 2) (lv' := [(3, vi (0)), (0, vr (some a0)), (1, vi (x1)), (2, vi (x2))]) C0 rfl (G_nl C1 (by decide)) dX9_add_1 rfl rfl ?_
  refine J_sub (lv' := [(0, vr (some a0)), (1, vi (x1)), (2, vi (x2)), (3, vi (0))]) [1, 2, 3, 0] rfl ?_
  exact t_X9_add_L2 C1    N (x1) (x2) (0) σ (hT) (hE) (h0)  hf
