def f_X10_velocity (a0 : Nat) (σ : Sg) : Option Int32 :=
  if (sg_I σ a0 1) = (0) then
  (some (sg_I σ a0 0))
  else
  (some (-(sg_I σ a0 0)))
set_option maxHeartbeats 4000000 in
set_option maxRecDepth 100000 in
theorem t_X10_velocity (a0 : Nat) {σ : Sg} (h0 : is_A σ a0 9) {r : Int32} (hf : f_X10_velocity a0  σ = some r) : Ct yX10_velocity cX10_velocity 1 (some .int) 0 0 0 0 [vr (some a0)] σ (fun r_ τ_ => (r_ = some (vi r)) ∧ τ_ = σ) := by
  refine Ct.of (by decide +kernel) (Nat.le_of_ble_eq_true rfl) (fun Γ C1 => ?_)
  have C0 := C1.1
  unfold f_X10_velocity at hf
  show J_ Γ 0 [(0, vr (some a0))] [] σ 0 0
  refine J_aload_n (q := 1) C0 0 rfl rfl dX10_velocity_0 rfl trivial ?_
  refine J_getI (q := 4) C0 fl_X10_13_9 rfl (h0) rfl dX10_velocity_1 rfl ?_
  refine J_if_eq (t := 15) (q := 7) C0 dX10_velocity_4 (by decide) rfl hf (fun c1 hf => ?_) (fun c1 hf => ?_)
  · refine J_aload_n (q := 16) C0 0 rfl rfl dX10_velocity_15 rfl trivial ?_
    refine J_getI (q := 19) C0 fl_X10_7_9 rfl (h0) rfl dX10_velocity_16 rfl ?_
    obtain rfl := Option.some.inj hf; exact J_iret C1 dX10_velocity_19 rfl (Nat.zero_le _) (Nat.zero_le _) ⟨rfl, rfl⟩
  · refine J_aload_n (q := 8) C0 0 rfl rfl dX10_velocity_7 rfl trivial ?_
    refine J_getI (q := 11) C0 fl_X10_7_9 rfl (h0) rfl dX10_velocity_8 rfl ?_
    refine J_ineg (q := 12) C0 dX10_velocity_11 rfl ?_
    refine J_goto (q := 19) C0 dX10_velocity_12 (by decide) ?_
    obtain rfl := Option.some.inj hf; exact J_iret C1 dX10_velocity_19 rfl (Nat.zero_le _) (Nat.zero_le _) ⟨rfl, rfl⟩
def f_X8_size (a0 : Nat) (σ : Sg) : Option Int32 :=
  Option.bind (sg_R σ a0 0) fun b1 =>
  some (Int32.ofNat (sg_L σ b1))
set_option maxHeartbeats 4000000 in
set_option maxRecDepth 100000 in
theorem t_X8_size (a0 : Nat) {σ : Sg} (hT : sg_T σ) (h0 : is_A σ a0 7) {r : Int32} (hf : f_X8_size a0  σ = some r) : Ct yX8_size cX8_size 1 (some .int) 0 0 0 0 [vr (some a0)] σ (fun r_ τ_ => (r_ = some (vi r)) ∧ τ_ = σ) := by
  refine Ct.of (by decide +kernel) (Nat.le_of_ble_eq_true rfl) (fun Γ C1 => ?_)
  have C0 := C1.1
  unfold f_X8_size at hf
  show J_ Γ 0 [(0, vr (some a0))] [] σ 0 0
  refine J_aload_n (q := 1) C0 0 rfl rfl dX8_size_0 rfl trivial ?_
  refine J_getR (q := 4) C0 fl_X8_9_7 rfl (h0) rfl dX8_size_1 rfl ?_
  refine K_some hf (fun b1 hb1 hf => ?_)
  have ab1 : is_A σ b1 12 := ((sg_T.op hT (j := 0) (h0) rfl)) b1 hb1
  refine J_alen (q := 5) C0 hb1 (ab1) (by decide) dX8_size_4 rfl ?_
  obtain rfl := Option.some.inj hf; exact J_iret C1 dX8_size_5 rfl (Nat.zero_le _) (Nat.zero_le _) ⟨rfl, rfl⟩
def f_X0_set (a0 : Nat) (e1 : Option Nat) (e2 : Option Nat) (e3 : Option Nat) (x4 : Int32) (x5 : Int32) (σ : Sg) : Option Sg :=
  Option.bind (e1) fun b1 =>
  Option.bind (f_X10_velocity b1  (put_I (put_R (put_R σ a0 2 (e2)) a0 3 (e3)) a0 4 (x5))) fun p2 =>
  Option.bind (sg_R (put_I (put_I (put_I (put_R (put_R σ a0 2 (e2)) a0 3 (e3)) a0 4 (x5)) a0 0 (p2)) a0 1 (sg_I (put_I (put_I (put_R (put_R σ a0 2 (e2)) a0 3 (e3)) a0 4 (x5)) a0 0 (p2)) b1 2)) a0 5) fun b3 =>
  if (0 : Int32) < 0 ∨ sg_L (put_I (put_I (put_I (put_R (put_R σ a0 2 (e2)) a0 3 (e3)) a0 4 (x5)) a0 0 (p2)) a0 1 (sg_I (put_I (put_I (put_R (put_R σ a0 2 (e2)) a0 3 (e3)) a0 4 (x5)) a0 0 (p2)) b1 2)) b3 ≤ (0 : Int32).toNatClampNeg then none else
  Option.bind (e2) fun b5 =>
  Option.bind (f_X8_size b5  (put_I (put_I (put_I (put_I (put_R (put_R σ a0 2 (e2)) a0 3 (e3)) a0 4 (x5)) a0 0 (p2)) a0 1 (sg_I (put_I (put_I (put_R (put_R σ a0 2 (e2)) a0 3 (e3)) a0 4 (x5)) a0 0 (p2)) b1 2)) b3 (0 : Int32).toNatClampNeg (sg_I (put_I (put_I (put_I (put_R (put_R σ a0 2 (e2)) a0 3 (e3)) a0 4 (x5)) a0 0 (p2)) a0 1 (sg_I (put_I (put_I (put_R (put_R σ a0 2 (e2)) a0 3 (e3)) a0 4 (x5)) a0 0 (p2)) b1 2)) a0 0))) fun p6 =>
  Option.bind (sg_R (put_I (put_I (put_I (put_I (put_R (put_R σ a0 2 (e2)) a0 3 (e3)) a0 4 (x5)) a0 0 (p2)) a0 1 (sg_I (put_I (put_I (put_R (put_R σ a0 2 (e2)) a0 3 (e3)) a0 4 (x5)) a0 0 (p2)) b1 2)) b3 (0 : Int32).toNatClampNeg (sg_I (put_I (put_I (put_I (put_R (put_R σ a0 2 (e2)) a0 3 (e3)) a0 4 (x5)) a0 0 (p2)) a0 1 (sg_I (put_I (put_I (put_R (put_R σ a0 2 (e2)) a0 3 (e3)) a0 4 (x5)) a0 0 (p2)) b1 2)) a0 0)) a0 5) fun b7 =>
  if (2 : Int32) < 0 ∨ sg_L (put_I (put_I (put_I (put_I (put_R (put_R σ a0 2 (e2)) a0 3 (e3)) a0 4 (x5)) a0 0 (p2)) a0 1 (sg_I (put_I (put_I (put_R (put_R σ a0 2 (e2)) a0 3 (e3)) a0 4 (x5)) a0 0 (p2)) b1 2)) b3 (0 : Int32).toNatClampNeg (sg_I (put_I (put_I (put_I (put_R (put_R σ a0 2 (e2)) a0 3 (e3)) a0 4 (x5)) a0 0 (p2)) a0 1 (sg_I (put_I (put_I (put_R (put_R σ a0 2 (e2)) a0 3 (e3)) a0 4 (x5)) a0 0 (p2)) b1 2)) a0 0)) b7 ≤ (2 : Int32).toNatClampNeg then none else
  Option.bind (sg_R (put_I (put_I (put_I (put_I (put_I (put_R (put_R σ a0 2 (e2)) a0 3 (e3)) a0 4 (x5)) a0 0 (p2)) a0 1 (sg_I (put_I (put_I (put_R (put_R σ a0 2 (e2)) a0 3 (e3)) a0 4 (x5)) a0 0 (p2)) b1 2)) b3 (0 : Int32).toNatClampNeg (sg_I (put_I (put_I (put_I (put_R (put_R σ a0 2 (e2)) a0 3 (e3)) a0 4 (x5)) a0 0 (p2)) a0 1 (sg_I (put_I (put_I (put_R (put_R σ a0 2 (e2)) a0 3 (e3)) a0 4 (x5)) a0 0 (p2)) b1 2)) a0 0)) b7 (2 : Int32).toNatClampNeg (p6)) a0 5) fun b9 =>
  if (5 : Int32) < 0 ∨ sg_L (put_I (put_I (put_I (put_I (put_I (put_R (put_R σ a0 2 (e2)) a0 3 (e3)) a0 4 (x5)) a0 0 (p2)) a0 1 (sg_I (put_I (put_I (put_R (put_R σ a0 2 (e2)) a0 3 (e3)) a0 4 (x5)) a0 0 (p2)) b1 2)) b3 (0 : Int32).toNatClampNeg (sg_I (put_I (put_I (put_I (put_R (put_R σ a0 2 (e2)) a0 3 (e3)) a0 4 (x5)) a0 0 (p2)) a0 1 (sg_I (put_I (put_I (put_R (put_R σ a0 2 (e2)) a0 3 (e3)) a0 4 (x5)) a0 0 (p2)) b1 2)) a0 0)) b7 (2 : Int32).toNatClampNeg (p6)) b9 ≤ (5 : Int32).toNatClampNeg then none else
  some (put_I (put_I (put_I (put_I (put_I (put_I (put_R (put_R σ a0 2 (e2)) a0 3 (e3)) a0 4 (x5)) a0 0 (p2)) a0 1 (sg_I (put_I (put_I (put_R (put_R σ a0 2 (e2)) a0 3 (e3)) a0 4 (x5)) a0 0 (p2)) b1 2)) b3 (0 : Int32).toNatClampNeg (sg_I (put_I (put_I (put_I (put_R (put_R σ a0 2 (e2)) a0 3 (e3)) a0 4 (x5)) a0 0 (p2)) a0 1 (sg_I (put_I (put_I (put_R (put_R σ a0 2 (e2)) a0 3 (e3)) a0 4 (x5)) a0 0 (p2)) b1 2)) a0 0)) b7 (2 : Int32).toNatClampNeg (p6)) b9 (5 : Int32).toNatClampNeg (x4))
set_option maxHeartbeats 4000000 in
set_option maxRecDepth 100000 in
theorem t_X0_set (a0 : Nat) (e1 : Option Nat) (e2 : Option Nat) (e3 : Option Nat) (x4 : Int32) (x5 : Int32) {σ : Sg} (hT : sg_T σ) (h0 : is_A σ a0 0) (g1 : is_O σ e1 9) (g2 : is_O σ e2 7) (g3 : is_O σ e3 2) {r : Sg} (hf : f_X0_set a0 e1 e2 e3 x4 x5 σ = some r) : Ct yX0_set cX0_set 6 none 1 20 0 0 [vr (some a0), vr e1, vr e2, vr e3, vi x4, vi x5] σ (fun r_ τ_ => (r_ = none) ∧ τ_ = r ∧ sg_T τ_ ∧ sg_E σ τ_) := by
  refine Ct.of (by decide +kernel) (Nat.le_of_ble_eq_true rfl) (fun Γ C1 => ?_)
  have C0 := C1.1
  have hE : sg_E σ σ := sg_E.rf
  unfold f_X0_set at hf
  show J_ Γ 0 [(0, vr (some a0)), (1, vr (e1)), (2, vr (e2)), (3, vr (e3)), (4, vi (x4)), (5, vi (x5))] [] σ 0 0
  refine J_aload_n (q := 1) C0 0 rfl rfl dX0_set_0 rfl trivial ?_
  refine J_aload_n (q := 2) C0 2 rfl rfl dX0_set_1 rfl trivial ?_
  refine J_putR (q := 5) C0 rfl fl_X0_23_0 rfl (h0) rfl dX0_set_2 rfl ?_
  refine J_aload_n (q := 6) C0 0 rfl rfl dX0_set_5 rfl trivial ?_
  refine J_aload_n (q := 7) C0 3 rfl rfl dX0_set_6 rfl trivial ?_
  refine J_putR (q := 10) C0 rfl fl_X0_27_0 rfl ((h0).putR) rfl dX0_set_7 rfl ?_
  refine J_aload_n (q := 11) C0 0 rfl rfl dX0_set_10 rfl trivial ?_
  refine J_iload (q := 13) C0 5 rfl dX0_set_11 rfl ?_
  refine J_putI (q := 16) C0 fl_X0_31_0 rfl (((h0).putR).putR) rfl dX0_set_13 rfl ?_
  refine J_aload_n (q := 17) C0 0 rfl rfl dX0_set_16 rfl trivial ?_
  refine J_aload_n (q := 18) C0 1 rfl rfl dX0_set_17 rfl trivial ?_
  refine K_some hf (fun b1 hb1 hf => ?_)
  have ab1 : is_A (put_I (put_R (put_R σ a0 2 (e2)) a0 3 (e3)) a0 4 (x5)) b1 9 := ((fun b_ h_ => ((fun b_ h_ => ((fun b_ h_ => (g1 b_ h_).putR) b_ h_).putR) b_ h_).putI)) b1 hb1
  refine K_some hf (fun p2 hp2 hf => ?_)
  refine J_callV (q := 21) (ci := 9) (as := []) (rest := [vr (some a0)]) C0 hb1 (ab1) (t_X10_velocity b1  (ab1)  hp2) ml_X10_velocity lk_X0_50 im_X10_velocity se_X10_velocity rfl (by decide) dX0_set_18 rfl rfl rfl (by simp [ac_]) C1.room (by decide) (by decide) (by decide) (by decide) (fun r_ τ_ hQ => ?_)
  obtain ⟨rfl, ht_⟩ := hQ; have ht_ := ht_.symm; subst ht_
  show J_ Γ 21 [(0, vr (some a0)), (1, vr (e1)), (2, vr (e2)), (3, vr (e3)), (4, vi (x4)), (5, vi (x5))] [vi (p2), vr (some a0)] (put_I (put_R (put_R σ a0 2 (e2)) a0 3 (e3)) a0 4 (x5)) 0 0
  refine J_putI (q := 24) C0 fl_X0_9_0 rfl ((((h0).putR).putR).putI) rfl dX0_set_21 rfl ?_
  refine J_aload_n (q := 25) C0 0 rfl rfl dX0_set_24 rfl trivial ?_
  refine J_aload_n (q := 26) C0 1 rfl rfl dX0_set_25 rfl trivial ?_
  refine J_getI (q := 29) C0 fl_X0_55_9 hb1 ((ab1).putI) rfl dX0_set_26 rfl ?_
  refine J_putI (q := 32) C0 fl_X0_15_0 rfl (((((h0).putR).putR).putI).putI) rfl dX0_set_29 rfl ?_
  refine J_aload_n (q := 33) C0 0 rfl rfl dX0_set_32 rfl trivial ?_
  refine J_getR (q := 36) C0 fl_X0_34_0 rfl ((((((h0).putR).putR).putI).putI).putI) rfl dX0_set_33 rfl ?_
  refine J_iconst (q := 37) (v := 0) C0 dX0_set_36 rfl rfl ?_
  refine J_aload_n (q := 38) C0 0 rfl rfl dX0_set_37 rfl trivial ?_
  refine J_getI (q := 41) C0 fl_X0_9_0 rfl ((((((h0).putR).putR).putI).putI).putI) rfl dX0_set_38 rfl ?_
  refine K_some hf (fun b3 hb3 hf => ?_)
  have ab3 : is_A (put_I (put_I (put_I (put_R (put_R σ a0 2 (e2)) a0 3 (e3)) a0 4 (x5)) a0 0 (p2)) a0 1 (sg_I (put_I (put_I (put_R (put_R σ a0 2 (e2)) a0 3 (e3)) a0 4 (x5)) a0 0 (p2)) b1 2)) b3 12 := ((sg_T.op ((((sg_T.putR (sg_T.putR hT (by rw [(h0).2]; exact g2)) (by rw [((h0).putR).2]; exact (fun b_ h_ => (g3 b_ h_).putR)))).putI).putI).putI (j := 5) ((((((h0).putR).putR).putI).putI).putI) rfl)) b3 hb3
  refine K_chk hf (fun c4 hf => ?_)
  refine J_iast (q := 42) C0 hb3 (ab3) c4 dX0_set_41 rfl ?_
  refine J_aload_n (q := 43) C0 0 rfl rfl dX0_set_42 rfl trivial ?_
  refine J_getR (q := 46) C0 fl_X0_34_0 rfl (((((((h0).putR).putR).putI).putI).putI).putI) rfl dX0_set_43 rfl ?_
  refine J_iconst (q := 47) (v := 2) C0 dX0_set_46 rfl rfl ?_
  refine J_aload_n (q := 48) C0 2 rfl rfl dX0_set_47 rfl trivial ?_
  refine K_some hf (fun b5 hb5 hf => ?_)
  have ab5 : is_A (put_I (put_I (put_I (put_I (put_R (put_R σ a0 2 (e2)) a0 3 (e3)) a0 4 (x5)) a0 0 (p2)) a0 1 (sg_I (put_I (put_I (put_R (put_R σ a0 2 (e2)) a0 3 (e3)) a0 4 (x5)) a0 0 (p2)) b1 2)) b3 (0 : Int32).toNatClampNeg (sg_I (put_I (put_I (put_I (put_R (put_R σ a0 2 (e2)) a0 3 (e3)) a0 4 (x5)) a0 0 (p2)) a0 1 (sg_I (put_I (put_I (put_R (put_R σ a0 2 (e2)) a0 3 (e3)) a0 4 (x5)) a0 0 (p2)) b1 2)) a0 0)) b5 7 := ((fun b_ h_ => ((fun b_ h_ => ((fun b_ h_ => ((fun b_ h_ => ((fun b_ h_ => ((fun b_ h_ => (g2 b_ h_).putR) b_ h_).putR) b_ h_).putI) b_ h_).putI) b_ h_).putI) b_ h_).putI)) b5 hb5
  refine K_some hf (fun p6 hp6 hf => ?_)
  refine J_callV (q := 51) (ci := 7) (as := []) (rest := [vi (2), vr (sg_R (put_I (put_I (put_I (put_I (put_R (put_R σ a0 2 (e2)) a0 3 (e3)) a0 4 (x5)) a0 0 (p2)) a0 1 (sg_I (put_I (put_I (put_R (put_R σ a0 2 (e2)) a0 3 (e3)) a0 4 (x5)) a0 0 (p2)) b1 2)) b3 (0 : Int32).toNatClampNeg (sg_I (put_I (put_I (put_I (put_R (put_R σ a0 2 (e2)) a0 3 (e3)) a0 4 (x5)) a0 0 (p2)) a0 1 (sg_I (put_I (put_I (put_R (put_R σ a0 2 (e2)) a0 3 (e3)) a0 4 (x5)) a0 0 (p2)) b1 2)) a0 0)) a0 5)]) C0 hb5 (ab5) (t_X8_size b5  ((((((sg_T.putR (sg_T.putR hT (by rw [(h0).2]; exact g2)) (by rw [((h0).putR).2]; exact (fun b_ h_ => (g3 b_ h_).putR)))).putI).putI).putI).putI) (ab5)  hp6) ml_X8_size lk_X0_58 im_X8_size se_X8_size rfl (by decide) dX0_set_48 rfl rfl rfl (by simp [ac_]) C1.room (by decide) (by decide) (by decide) (by decide) (fun r_ τ_ hQ => ?_)
  obtain ⟨rfl, ht_⟩ := hQ; have ht_ := ht_.symm; subst ht_
  show J_ Γ 51 [(0, vr (some a0)), (1, vr (e1)), (2, vr (e2)), (3, vr (e3)), (4, vi (x4)), (5, vi (x5))] [vi (p6), vi (2), vr (sg_R (put_I (put_I (put_I (put_I (put_R (put_R σ a0 2 (e2)) a0 3 (e3)) a0 4 (x5)) a0 0 (p2)) a0 1 (sg_I (put_I (put_I (put_R (put_R σ a0 2 (e2)) a0 3 (e3)) a0 4 (x5)) a0 0 (p2)) b1 2)) b3 (0 : Int32).toNatClampNeg (sg_I (put_I (put_I (put_I (put_R (put_R σ a0 2 (e2)) a0 3 (e3)) a0 4 (x5)) a0 0 (p2)) a0 1 (sg_I (put_I (put_I (put_R (put_R σ a0 2 (e2)) a0 3 (e3)) a0 4 (x5)) a0 0 (p2)) b1 2)) a0 0)) a0 5)] (put_I (put_I (put_I (put_I (put_R (put_R σ a0 2 (e2)) a0 3 (e3)) a0 4 (x5)) a0 0 (p2)) a0 1 (sg_I (put_I (put_I (put_R (put_R σ a0 2 (e2)) a0 3 (e3)) a0 4 (x5)) a0 0 (p2)) b1 2)) b3 (0 : Int32).toNatClampNeg (sg_I (put_I (put_I (put_I (put_R (put_R σ a0 2 (e2)) a0 3 (e3)) a0 4 (x5)) a0 0 (p2)) a0 1 (sg_I (put_I (put_I (put_R (put_R σ a0 2 (e2)) a0 3 (e3)) a0 4 (x5)) a0 0 (p2)) b1 2)) a0 0)) 0 0
  refine K_some hf (fun b7 hb7 hf => ?_)
  have ab7 : is_A (put_I (put_I (put_I (put_I (put_R (put_R σ a0 2 (e2)) a0 3 (e3)) a0 4 (x5)) a0 0 (p2)) a0 1 (sg_I (put_I (put_I (put_R (put_R σ a0 2 (e2)) a0 3 (e3)) a0 4 (x5)) a0 0 (p2)) b1 2)) b3 (0 : Int32).toNatClampNeg (sg_I (put_I (put_I (put_I (put_R (put_R σ a0 2 (e2)) a0 3 (e3)) a0 4 (x5)) a0 0 (p2)) a0 1 (sg_I (put_I (put_I (put_R (put_R σ a0 2 (e2)) a0 3 (e3)) a0 4 (x5)) a0 0 (p2)) b1 2)) a0 0)) b7 12 := ((sg_T.op (((((sg_T.putR (sg_T.putR hT (by rw [(h0).2]; exact g2)) (by rw [((h0).putR).2]; exact (fun b_ h_ => (g3 b_ h_).putR)))).putI).putI).putI).putI (j := 5) (((((((h0).putR).putR).putI).putI).putI).putI) rfl)) b7 hb7
  refine K_chk hf (fun c8 hf => ?_)
  refine J_iast (q := 52) C0 hb7 (ab7) c8 dX0_set_51 rfl ?_
  refine J_aload_n (q := 53) C0 0 rfl rfl dX0_set_52 rfl trivial ?_
  refine J_getR (q := 56) C0 fl_X0_34_0 rfl ((((((((h0).putR).putR).putI).putI).putI).putI).putI) rfl dX0_set_53 rfl ?_
  refine J_iconst (q := 57) (v := 5) C0 dX0_set_56 rfl rfl ?_
  refine J_iload (q := 59) C0 4 rfl dX0_set_57 rfl ?_
  refine K_some hf (fun b9 hb9 hf => ?_)
  have ab9 : is_A (put_I (put_I (put_I (put_I (put_I (put_R (put_R σ a0 2 (e2)) a0 3 (e3)) a0 4 (x5)) a0 0 (p2)) a0 1 (sg_I (put_I (put_I (put_R (put_R σ a0 2 (e2)) a0 3 (e3)) a0 4 (x5)) a0 0 (p2)) b1 2)) b3 (0 : Int32).toNatClampNeg (sg_I (put_I (put_I (put_I (put_R (put_R σ a0 2 (e2)) a0 3 (e3)) a0 4 (x5)) a0 0 (p2)) a0 1 (sg_I (put_I (put_I (put_R (put_R σ a0 2 (e2)) a0 3 (e3)) a0 4 (x5)) a0 0 (p2)) b1 2)) a0 0)) b7 (2 : Int32).toNatClampNeg (p6)) b9 12 := ((sg_T.op ((((((sg_T.putR (sg_T.putR hT (by rw [(h0).2]; exact g2)) (by rw [((h0).putR).2]; exact (fun b_ h_ => (g3 b_ h_).putR)))).putI).putI).putI).putI).putI (j := 5) ((((((((h0).putR).putR).putI).putI).putI).putI).putI) rfl)) b9 hb9
  refine K_chk hf (fun c10 hf => ?_)
  refine J_iast (q := 60) C0 hb9 (ab9) c10 dX0_set_59 rfl ?_
  obtain rfl := Option.some.inj hf; exact J_vret C1 dX0_set_60 rfl (Nat.zero_le _) (Nat.zero_le _) ⟨rfl, rfl, (((((((sg_T.putR (sg_T.putR hT (by rw [(h0).2]; exact g2)) (by rw [((h0).putR).2]; exact (fun b_ h_ => (g3 b_ h_).putR)))).putI).putI).putI).putI).putI).putI, ((((((((hE).putR).putR).putI).putI).putI).putI).putI).putI⟩
def f_J9_floorMod_7cf53 (x0 : Int32) (x1 : Int32) : Option Int32 :=
  if (x1) = 0 then none else
  if ((x0) ^^^ (x1)) < (0) then
  (if (rm_ (x0) (x1)) = (0) then
  (some (rm_ (x0) (x1)))
  else
  (some ((rm_ (x0) (x1)) + (x1))))
  else
  (some (rm_ (x0) (x1)))
set_option maxHeartbeats 4000000 in
set_option maxRecDepth 100000 in
theorem t_J9_floorMod_7cf53 (x0 : Int32) (x1 : Int32) {σ : Sg} {r : Int32} (hf : f_J9_floorMod_7cf53 x0 x1 = some r) : Ct yJ9_floorMod_7cf53 cJ9_floorMod_7cf53 3 (some .int) 0 0 0 0 [vi x0, vi x1] σ (fun r_ τ_ => (r_ = some (vi r)) ∧ τ_ = σ) := by
  refine Ct.of (by decide +kernel) (Nat.le_of_ble_eq_true rfl) (fun Γ C1 => ?_)
  have C0 := C1.1
  unfold f_J9_floorMod_7cf53 at hf
  show J_ Γ 0 [(0, vi (x0)), (1, vi (x1))] [] σ 0 0
  refine J_iload_n (q := 1) C0 0 rfl rfl dJ9_floorMod_7cf53_0 rfl ?_
  refine J_iload_n (q := 2) C0 1 rfl rfl dJ9_floorMod_7cf53_1 rfl ?_
  refine K_chk hf (fun c1 hf => ?_)
  refine J_irem (q := 3) C0 dJ9_floorMod_7cf53_2 rfl c1 ?_
  refine J_istore_n (q := 4) (lv' := [(2, vi (rm_ (x0) (x1))), (0, vi (x0)), (1, vi (x1))]) C0 rfl (G_nl C1 (by decide)) dJ9_floorMod_7cf53_3 rfl rfl ?_
  refine J_iload_n (q := 5) C0 1 rfl rfl dJ9_floorMod_7cf53_4 rfl ?_
  refine J_iload_n (q := 6) C0 2 rfl rfl dJ9_floorMod_7cf53_5 rfl ?_
  refine J_ixor (q := 7) C0 dJ9_floorMod_7cf53_6 rfl ?_
  refine J_if_ge (t := 18) (q := 10) C0 dJ9_floorMod_7cf53_7 (by decide) rfl hf (fun c2 hf => ?_) (fun c2 hf => ?_)
  · refine J_iload_n (q := 19) C0 0 rfl rfl dJ9_floorMod_7cf53_18 rfl ?_
    obtain rfl := Option.some.inj hf; exact J_iret C1 dJ9_floorMod_7cf53_19 rfl (Nat.zero_le _) (Nat.zero_le _) ⟨rfl, rfl⟩
  · refine J_iload_n (q := 11) C0 0 rfl rfl dJ9_floorMod_7cf53_10 rfl ?_
    refine J_if_eq (t := 18) (q := 14) C0 dJ9_floorMod_7cf53_11 (by decide) rfl hf (fun c3 hf => ?_) (fun c3 hf => ?_)
    · refine J_iload_n (q := 19) C0 0 rfl rfl dJ9_floorMod_7cf53_18 rfl ?_
      obtain rfl := Option.some.inj hf; exact J_iret C1 dJ9_floorMod_7cf53_19 rfl (Nat.zero_le _) (Nat.zero_le _) ⟨rfl, rfl⟩
    · refine J_iload_n (q := 15) C0 0 rfl rfl dJ9_floorMod_7cf53_14 rfl ?_
      refine J_iload_n (q := 16) C0 2 rfl rfl dJ9_floorMod_7cf53_15 rfl ?_
      refine J_iadd (q := 17) C0 dJ9_floorMod_7cf53_16 rfl ?_
      obtain rfl := Option.some.inj hf; exact J_iret C1 dJ9_floorMod_7cf53_17 rfl (Nat.zero_le _) (Nat.zero_le _) ⟨rfl, rfl⟩
def f_X11_round (x0 : Int32) (x1 : Int32) : Option Int32 :=
  if (x1) < (1) then
  (some (0))
  else
  (Option.bind (f_J9_floorMod_7cf53 (x0) (x1) ) fun p2 =>
  some (p2))
set_option maxHeartbeats 4000000 in
set_option maxRecDepth 100000 in
theorem t_X11_round (x0 : Int32) (x1 : Int32) {σ : Sg} {r : Int32} (hf : f_X11_round x0 x1 = some r) : Ct yX11_round cX11_round 2 (some .int) 1 22 0 0 [vi x0, vi x1] σ (fun r_ τ_ => (r_ = some (vi r)) ∧ τ_ = σ) := by
  refine Ct.of (by decide +kernel) (Nat.le_of_ble_eq_true rfl) (fun Γ C1 => ?_)
  have C0 := C1.1
  unfold f_X11_round at hf
  show J_ Γ 0 [(0, vi (x0)), (1, vi (x1))] [] σ 0 0
  refine J_iload_n (q := 1) C0 1 rfl rfl dX11_round_0 rfl ?_
  refine J_iconst (q := 2) (v := 1) C0 dX11_round_1 rfl rfl ?_
  refine J_icmp_ge (t := 9) (q := 5) C0 dX11_round_2 (by decide) rfl hf (fun c1 hf => ?_) (fun c1 hf => ?_)
  · refine J_iload_n (q := 10) C0 0 rfl rfl dX11_round_9 rfl ?_
    refine J_iload_n (q := 11) C0 1 rfl rfl dX11_round_10 rfl ?_
    refine K_some hf (fun p2 hp2 hf => ?_)
    refine J_callS (q := 14) (as := [vi (x0), vi (x1)]) (rest := []) C0 (t_J9_floorMod_7cf53 (x0) (x1)  hp2) ml_J9_floorMod_7cf53 lk_X11_421 sm_J9_floorMod_7cf53 dX11_round_11 rfl rfl rfl (by simp [ac_]) C1.room (by decide) (by decide) (by decide) (by decide) (fun r_ τ_ hQ => ?_)
    obtain ⟨rfl, ht_⟩ := hQ; have ht_ := ht_.symm; subst ht_
    show J_ Γ 14 [(0, vi (x0)), (1, vi (x1))] [vi (p2)] σ 0 0
    obtain rfl := Option.some.inj hf; exact J_iret C1 dX11_round_14 rfl (Nat.zero_le _) (Nat.zero_le _) ⟨rfl, rfl⟩
  · refine J_iconst (q := 6) (v := 0) C0 dX11_round_5 rfl rfl ?_
    refine J_goto (q := 14) C0 dX11_round_6 (by decide) ?_
    obtain rfl := Option.some.inj hf; exact J_iret C1 dX11_round_14 rfl (Nat.zero_le _) (Nat.zero_le _) ⟨rfl, rfl⟩
def f_X8_shownAt (a0 : Nat) (x1 : Int32) (σ : Sg) : Option Int32 :=
  Option.bind (sg_R σ a0 0) fun b1 =>
  if (Int32.ofNat (sg_L σ b1)) < (1) then
  (some (26))
  else
  (Option.bind (f_X11_round (x1) (Int32.ofNat (sg_L σ b1)) ) fun p3 =>
  if (p3) < 0 ∨ sg_L σ b1 ≤ (p3).toNatClampNeg then none else
  some (sg_I σ b1 (p3).toNatClampNeg))
set_option maxHeartbeats 4000000 in
set_option maxRecDepth 100000 in
theorem t_X8_shownAt (a0 : Nat) (x1 : Int32) {σ : Sg} (hT : sg_T σ) (h0 : is_A σ a0 7) {r : Int32} (hf : f_X8_shownAt a0 x1 σ = some r) : Ct yX8_shownAt cX8_shownAt 2 (some .int) 2 43 0 0 [vr (some a0), vi x1] σ (fun r_ τ_ => (r_ = some (vi r)) ∧ τ_ = σ) := by
  refine Ct.of (by decide +kernel) (Nat.le_of_ble_eq_true rfl) (fun Γ C1 => ?_)
  have C0 := C1.1
  unfold f_X8_shownAt at hf
  show J_ Γ 0 [(0, vr (some a0)), (1, vi (x1))] [] σ 0 0
  refine J_aload_n (q := 1) C0 0 rfl rfl dX8_shownAt_0 rfl trivial ?_
  refine J_getR (q := 4) C0 fl_X8_9_7 rfl (h0) rfl dX8_shownAt_1 rfl ?_
  refine K_some hf (fun b1 hb1 hf => ?_)
  have ab1 : is_A σ b1 12 := ((sg_T.op hT (j := 0) (h0) rfl)) b1 hb1
  refine J_alen (q := 5) C0 hb1 (ab1) (by decide) dX8_shownAt_4 rfl ?_
  refine J_iconst (q := 6) (v := 1) C0 dX8_shownAt_5 rfl rfl ?_
  refine J_icmp_ge (t := 14) (q := 9) C0 dX8_shownAt_6 (by decide) rfl hf (fun c2 hf => ?_) (fun c2 hf => ?_)
  · refine J_aload_n (q := 15) C0 0 rfl rfl dX8_shownAt_14 rfl trivial ?_
    refine J_getR (q := 18) C0 fl_X8_9_7 rfl (h0) rfl dX8_shownAt_15 rfl ?_
    refine J_iload_n (q := 19) C0 1 rfl rfl dX8_shownAt_18 rfl ?_
    refine J_aload_n (q := 20) C0 0 rfl rfl dX8_shownAt_19 rfl trivial ?_
    refine J_getR (q := 23) C0 fl_X8_9_7 rfl (h0) rfl dX8_shownAt_20 rfl ?_
    refine J_alen (q := 24) C0 hb1 (ab1) (by decide) dX8_shownAt_23 rfl ?_
    refine K_some hf (fun p3 hp3 hf => ?_)
    refine J_callSN (q := 27) (as := [vi (x1), vi (Int32.ofNat (sg_L σ b1))]) (rest := [vr (sg_R σ a0 0)]) C0 (t_X11_round (x1) (Int32.ofNat (sg_L σ b1))  hp3) ml_X11_round lk_X8_15 sm_X11_round dX8_shownAt_24 rfl rfl rfl (by simp [ac_]) C1.room (by decide) (by decide) (by decide) (by decide) (fun r_ τ_ hQ => ?_)
    obtain ⟨rfl, ht_⟩ := hQ; have ht_ := ht_.symm; subst ht_
    show J_ Γ 27 [(0, vr (some a0)), (1, vi (x1))] [vi (p3), vr (sg_R σ a0 0)] σ 0 0
    refine K_chk hf (fun c4 hf => ?_)
    refine J_iald (q := 28) C0 hb1 (ab1) c4 dX8_shownAt_27 rfl ?_
    obtain rfl := Option.some.inj hf; exact J_iret C1 dX8_shownAt_28 rfl (Nat.zero_le _) (Nat.zero_le _) ⟨rfl, rfl⟩
  · refine J_bipush (q := 11) (v := 26) C0 dX8_shownAt_9 rfl rfl ?_
    refine J_goto (q := 28) C0 dX8_shownAt_11 (by decide) ?_
    obtain rfl := Option.some.inj hf; exact J_iret C1 dX8_shownAt_28 rfl (Nat.zero_le _) (Nat.zero_le _) ⟨rfl, rfl⟩
def f_X2_pull (a0 : Nat) (σ : Sg) : Option (Int32 × Sg) :=
  if (sg_I σ a0 2) < (1) then
  (some (0, σ))
  else
  (Option.bind (sg_R (put_I σ a0 2 ((sg_I σ a0 2) - (1))) a0 1) fun b2 =>
  if (sg_I (put_I σ a0 2 ((sg_I σ a0 2) - (1))) a0 2) < 0 ∨ sg_L (put_I σ a0 2 ((sg_I σ a0 2) - (1))) b2 ≤ (sg_I (put_I σ a0 2 ((sg_I σ a0 2) - (1))) a0 2).toNatClampNeg then none else
  some (sg_I (put_I σ a0 2 ((sg_I σ a0 2) - (1))) b2 (sg_I (put_I σ a0 2 ((sg_I σ a0 2) - (1))) a0 2).toNatClampNeg, put_I σ a0 2 ((sg_I σ a0 2) - (1))))
set_option maxHeartbeats 4000000 in
set_option maxRecDepth 100000 in
theorem t_X2_pull (a0 : Nat) {σ : Sg} (hT : sg_T σ) (h0 : is_A σ a0 2) {r : (Int32 × Sg)} (hf : f_X2_pull a0  σ = some r) : Ct yX2_pull cX2_pull 1 (some .int) 0 0 0 0 [vr (some a0)] σ (fun r_ τ_ => (r_ = some (vi r.1)) ∧ τ_ = r.2 ∧ sg_T τ_ ∧ sg_E σ τ_) := by
  refine Ct.of (by decide +kernel) (Nat.le_of_ble_eq_true rfl) (fun Γ C1 => ?_)
  have C0 := C1.1
  have hE : sg_E σ σ := sg_E.rf
  unfold f_X2_pull at hf
  show J_ Γ 0 [(0, vr (some a0))] [] σ 0 0
  refine J_aload_n (q := 1) C0 0 rfl rfl dX2_pull_0 rfl trivial ?_
  refine J_getI (q := 4) C0 fl_X2_13_2 rfl (h0) rfl dX2_pull_1 rfl ?_
  refine J_iconst (q := 5) (v := 1) C0 dX2_pull_4 rfl rfl ?_
  refine J_icmp_ge (t := 10) (q := 8) C0 dX2_pull_5 (by decide) rfl hf (fun c1 hf => ?_) (fun c1 hf => ?_)
  · refine J_aload_n (q := 11) C0 0 rfl rfl dX2_pull_10 rfl trivial ?_
    refine J_dup (q := 12) C0 dX2_pull_11 rfl rfl ?_
    refine J_getI (q := 15) C0 fl_X2_13_2 rfl (h0) rfl dX2_pull_12 rfl ?_
    refine J_iconst (q := 16) (v := 1) C0 dX2_pull_15 rfl rfl ?_
    refine J_isub (q := 17) C0 dX2_pull_16 rfl ?_
    refine J_putI (q := 20) C0 fl_X2_13_2 rfl (h0) rfl dX2_pull_17 rfl ?_
    refine J_aload_n (q := 21) C0 0 rfl rfl dX2_pull_20 rfl trivial ?_
    refine J_getR (q := 24) C0 fl_X2_7_2 rfl ((h0).putI) rfl dX2_pull_21 rfl ?_
    refine J_aload_n (q := 25) C0 0 rfl rfl dX2_pull_24 rfl trivial ?_
    refine J_getI (q := 28) C0 fl_X2_13_2 rfl ((h0).putI) rfl dX2_pull_25 rfl ?_
    refine K_some hf (fun b2 hb2 hf => ?_)
    have ab2 : is_A (put_I σ a0 2 ((sg_I σ a0 2) - (1))) b2 12 := ((sg_T.op (hT).putI (j := 1) ((h0).putI) rfl)) b2 hb2
    refine K_chk hf (fun c3 hf => ?_)
    refine J_iald (q := 29) C0 hb2 (ab2) c3 dX2_pull_28 rfl ?_
    obtain rfl := Option.some.inj hf; exact J_iret C1 dX2_pull_29 rfl (Nat.zero_le _) (Nat.zero_le _) ⟨rfl, rfl, (hT).putI, (hE).putI⟩
  · refine J_iconst (q := 9) (v := 0) C0 dX2_pull_8 rfl rfl ?_
    obtain rfl := Option.some.inj hf; exact J_iret C1 dX2_pull_9 rfl (Nat.zero_le _) (Nat.zero_le _) ⟨rfl, rfl, hT, hE⟩
def f_J9_max_7cf53 (x0 : Int32) (x1 : Int32) : Option Int32 :=
  if (x0) < (x1) then
  (some (x1))
  else
  (some (x0))
set_option maxHeartbeats 4000000 in
set_option maxRecDepth 100000 in
theorem t_J9_max_7cf53 (x0 : Int32) (x1 : Int32) {σ : Sg} {r : Int32} (hf : f_J9_max_7cf53 x0 x1 = some r) : Ct yJ9_max_7cf53 cJ9_max_7cf53 2 (some .int) 0 0 0 0 [vi x0, vi x1] σ (fun r_ τ_ => (r_ = some (vi r)) ∧ τ_ = σ) := by
  refine Ct.of (by decide +kernel) (Nat.le_of_ble_eq_true rfl) (fun Γ C1 => ?_)
  have C0 := C1.1
  unfold f_J9_max_7cf53 at hf
  show J_ Γ 0 [(0, vi (x0)), (1, vi (x1))] [] σ 0 0
  refine J_iload_n (q := 1) C0 0 rfl rfl dJ9_max_7cf53_0 rfl ?_
  refine J_iload_n (q := 2) C0 1 rfl rfl dJ9_max_7cf53_1 rfl ?_
  refine J_icmp_lt (t := 9) (q := 5) C0 dJ9_max_7cf53_2 (by decide) rfl hf (fun c1 hf => ?_) (fun c1 hf => ?_)
  · refine J_iload_n (q := 10) C0 1 rfl rfl dJ9_max_7cf53_9 rfl ?_
    obtain rfl := Option.some.inj hf; exact J_iret C1 dJ9_max_7cf53_10 rfl (Nat.zero_le _) (Nat.zero_le _) ⟨rfl, rfl⟩
  · refine J_iload_n (q := 6) C0 0 rfl rfl dJ9_max_7cf53_5 rfl ?_
    refine J_goto (q := 10) C0 dJ9_max_7cf53_6 (by decide) ?_
    obtain rfl := Option.some.inj hf; exact J_iret C1 dJ9_max_7cf53_10 rfl (Nat.zero_le _) (Nat.zero_le _) ⟨rfl, rfl⟩
def f_X2_pile (a0 : Nat) (x1 : Int32) (σ : Sg) : Option Sg :=
  Option.bind (sg_R σ a0 1) fun b1 =>
  if (sg_I σ a0 2) < (Int32.ofNat (sg_L σ b1)) then
  (if (sg_I σ a0 2) < 0 ∨ sg_L σ b1 ≤ (sg_I σ a0 2).toNatClampNeg then none else
  some (put_I (put_I σ b1 (sg_I σ a0 2).toNatClampNeg (x1)) a0 2 ((sg_I (put_I σ b1 (sg_I σ a0 2).toNatClampNeg (x1)) a0 2) + (1))))
  else
  (some (σ))
set_option maxHeartbeats 4000000 in
set_option maxRecDepth 100000 in
theorem t_X2_pile (a0 : Nat) (x1 : Int32) {σ : Sg} (hT : sg_T σ) (h0 : is_A σ a0 2) {r : Sg} (hf : f_X2_pile a0 x1 σ = some r) : Ct yX2_pile cX2_pile 2 none 0 0 0 0 [vr (some a0), vi x1] σ (fun r_ τ_ => (r_ = none) ∧ τ_ = r ∧ sg_T τ_ ∧ sg_E σ τ_) := by
  refine Ct.of (by decide +kernel) (Nat.le_of_ble_eq_true rfl) (fun Γ C1 => ?_)
  have C0 := C1.1
  have hE : sg_E σ σ := sg_E.rf
  unfold f_X2_pile at hf
  show J_ Γ 0 [(0, vr (some a0)), (1, vi (x1))] [] σ 0 0
  refine J_aload_n (q := 1) C0 0 rfl rfl dX2_pile_0 rfl trivial ?_
  refine J_getI (q := 4) C0 fl_X2_13_2 rfl (h0) rfl dX2_pile_1 rfl ?_
  refine J_aload_n (q := 5) C0 0 rfl rfl dX2_pile_4 rfl trivial ?_
  refine J_getR (q := 8) C0 fl_X2_7_2 rfl (h0) rfl dX2_pile_5 rfl ?_
  refine K_some hf (fun b1 hb1 hf => ?_)
  have ab1 : is_A σ b1 12 := ((sg_T.op hT (j := 1) (h0) rfl)) b1 hb1
  refine J_alen (q := 9) C0 hb1 (ab1) (by decide) dX2_pile_8 rfl ?_
  refine J_icmp_ge (t := 32) (q := 12) C0 dX2_pile_9 (by decide) rfl hf (fun c2 hf => ?_) (fun c2 hf => ?_)
  · obtain rfl := Option.some.inj hf; exact J_vret C1 dX2_pile_32 rfl (Nat.zero_le _) (Nat.zero_le _) ⟨rfl, rfl, hT, hE⟩
  · refine J_aload_n (q := 13) C0 0 rfl rfl dX2_pile_12 rfl trivial ?_
    refine J_getR (q := 16) C0 fl_X2_7_2 rfl (h0) rfl dX2_pile_13 rfl ?_
    refine J_aload_n (q := 17) C0 0 rfl rfl dX2_pile_16 rfl trivial ?_
    refine J_getI (q := 20) C0 fl_X2_13_2 rfl (h0) rfl dX2_pile_17 rfl ?_
    refine J_iload_n (q := 21) C0 1 rfl rfl dX2_pile_20 rfl ?_
    refine K_chk hf (fun c3 hf => ?_)
    refine J_iast (q := 22) C0 hb1 (ab1) c3 dX2_pile_21 rfl ?_
    refine J_aload_n (q := 23) C0 0 rfl rfl dX2_pile_22 rfl trivial ?_
    refine J_dup (q := 24) C0 dX2_pile_23 rfl rfl ?_
    refine J_getI (q := 27) C0 fl_X2_13_2 rfl ((h0).putI) rfl dX2_pile_24 rfl ?_
    refine J_iconst (q := 28) (v := 1) C0 dX2_pile_27 rfl rfl ?_
    refine J_iadd (q := 29) C0 dX2_pile_28 rfl ?_
    refine J_putI (q := 32) C0 fl_X2_13_2 rfl ((h0).putI) rfl dX2_pile_29 rfl ?_
    obtain rfl := Option.some.inj hf; exact J_vret C1 dX2_pile_32 rfl (Nat.zero_le _) (Nat.zero_le _) ⟨rfl, rfl, ((hT).putI).putI, ((hE).putI).putI⟩
def f_X2_joined (x0 : Int32) (x1 : Int32) (x2 : Int32) : Option Int64 :=
  if (x0) = 38 then
  (some (((x1) &&& (x2)).toInt64))
  else
  if (x0) = 42 then
  (some (((x1).toInt64) * ((x2).toInt64)))
  else
  if (x0) = 43 then
  (some (((x1).toInt64) + ((x2).toInt64)))
  else
  if (x0) = 45 then
  (some (((x1).toInt64) - ((x2).toInt64)))
  else
  if (x0) = 47 then
  (if (x2) = (0) then
  (some (0))
  else
  (if (x2) = 0 then none else
  some (((x1) / (x2)).toInt64)))
  else
  if (x0) = 60 then
  (if (x1) < (x2) then
  (some (1))
  else
  (some (0)))
  else
  if (x0) = 61 then
  (if (x1) = (x2) then
  (some (1))
  else
  (some (0)))
  else
  if (x0) = 62 then
  (if (x2) < (x1) then
  (some (1))
  else
  (some (0)))
  else
  if (x0) = 124 then
  (some (((x1) ||| (x2)).toInt64))
  else
  (some (0))
set_option maxHeartbeats 4000000 in
set_option maxRecDepth 100000 in
theorem t_X2_joined (x0 : Int32) (x1 : Int32) (x2 : Int32) {σ : Sg} {r : Int64} (hf : f_X2_joined x0 x1 x2 = some r) : Ct yX2_joined cX2_joined 3 (some .long) 0 0 0 0 [vi x0, vi x1, vi x2] σ (fun r_ τ_ => (r_ = some (vl r)) ∧ τ_ = σ) := by
  refine Ct.of (by decide +kernel) (Nat.le_of_ble_eq_true rfl) (fun Γ C1 => ?_)
  have C0 := C1.1
  unfold f_X2_joined at hf
  show J_ Γ 0 [(0, vi (x0)), (1, vi (x1)), (2, vi (x2))] [] σ 0 0
  refine J_iload_n (q := 1) C0 0 rfl rfl dX2_joined_0 rfl ?_
  refine K_ite hf (fun c1 hf => ?_) (fun c1 hf => ?_)
  · refine J_lookup (t := 148) (off := 147) C0 dX2_joined_1 (by decide) (by rw [c1]; decide) (by decide) ?_
    refine J_iload_n (q := 149) C0 1 rfl rfl dX2_joined_148 rfl ?_
    refine J_iload_n (q := 150) C0 2 rfl rfl dX2_joined_149 rfl ?_
    refine J_iand (q := 151) C0 dX2_joined_150 rfl ?_
    refine J_i2l (q := 152) C0 dX2_joined_151 rfl ?_
    obtain rfl := Option.some.inj hf; exact J_lret C1 dX2_joined_152 rfl (Nat.zero_le _) (Nat.zero_le _) ⟨rfl, rfl⟩
  refine K_ite hf (fun c2 hf => ?_) (fun c2 hf => ?_)
  · refine J_lookup (t := 96) (off := 95) C0 dX2_joined_1 (by decide) (by rw [c2]; decide) (by decide) ?_
    refine J_iload_n (q := 97) C0 1 rfl rfl dX2_joined_96 rfl ?_
    refine J_i2l (q := 98) C0 dX2_joined_97 rfl ?_
    refine J_iload_n (q := 99) C0 2 rfl rfl dX2_joined_98 rfl ?_
    refine J_i2l (q := 100) C0 dX2_joined_99 rfl ?_
    refine J_lmul (q := 101) C0 dX2_joined_100 rfl ?_
    obtain rfl := Option.some.inj hf; exact J_lret C1 dX2_joined_101 rfl (Nat.zero_le _) (Nat.zero_le _) ⟨rfl, rfl⟩
  refine K_ite hf (fun c3 hf => ?_) (fun c3 hf => ?_)
  · refine J_lookup (t := 84) (off := 83) C0 dX2_joined_1 (by decide) (by rw [c3]; decide) (by decide) ?_
    refine J_iload_n (q := 85) C0 1 rfl rfl dX2_joined_84 rfl ?_
    refine J_i2l (q := 86) C0 dX2_joined_85 rfl ?_
    refine J_iload_n (q := 87) C0 2 rfl rfl dX2_joined_86 rfl ?_
    refine J_i2l (q := 88) C0 dX2_joined_87 rfl ?_
    refine J_ladd (q := 89) C0 dX2_joined_88 rfl ?_
    obtain rfl := Option.some.inj hf; exact J_lret C1 dX2_joined_89 rfl (Nat.zero_le _) (Nat.zero_le _) ⟨rfl, rfl⟩
  refine K_ite hf (fun c4 hf => ?_) (fun c4 hf => ?_)
  · refine J_lookup (t := 90) (off := 89) C0 dX2_joined_1 (by decide) (by rw [c4]; decide) (by decide) ?_
    refine J_iload_n (q := 91) C0 1 rfl rfl dX2_joined_90 rfl ?_
    refine J_i2l (q := 92) C0 dX2_joined_91 rfl ?_
    refine J_iload_n (q := 93) C0 2 rfl rfl dX2_joined_92 rfl ?_
    refine J_i2l (q := 94) C0 dX2_joined_93 rfl ?_
    refine J_lsub (q := 95) C0 dX2_joined_94 rfl ?_
    obtain rfl := Option.some.inj hf; exact J_lret C1 dX2_joined_95 rfl (Nat.zero_le _) (Nat.zero_le _) ⟨rfl, rfl⟩
  refine K_ite hf (fun c5 hf => ?_) (fun c5 hf => ?_)
  · refine J_lookup (t := 102) (off := 101) C0 dX2_joined_1 (by decide) (by rw [c5]; decide) (by decide) ?_
    refine J_iload_n (q := 103) C0 2 rfl rfl dX2_joined_102 rfl ?_
    refine J_if_ne (t := 110) (q := 106) C0 dX2_joined_103 (by decide) rfl hf (fun c6 hf => ?_) (fun c6 hf => ?_)
    · refine J_iload_n (q := 111) C0 1 rfl rfl dX2_joined_110 rfl ?_
      refine J_iload_n (q := 112) C0 2 rfl rfl dX2_joined_111 rfl ?_
      refine K_chk hf (fun c7 hf => ?_)
      refine J_idiv (q := 113) C0 dX2_joined_112 rfl c7 ?_
      refine J_i2l (q := 114) C0 dX2_joined_113 rfl ?_
      obtain rfl := Option.some.inj hf; exact J_lret C1 dX2_joined_114 rfl (Nat.zero_le _) (Nat.zero_le _) ⟨rfl, rfl⟩
    · refine J_lconst (q := 107) (v := 0) C0 dX2_joined_106 rfl rfl ?_
      refine J_goto (q := 114) C0 dX2_joined_107 (by decide) ?_
      obtain rfl := Option.some.inj hf; exact J_lret C1 dX2_joined_114 rfl (Nat.zero_le _) (Nat.zero_le _) ⟨rfl, rfl⟩
  refine K_ite hf (fun c8 hf => ?_) (fun c8 hf => ?_)
  · refine J_lookup (t := 126) (off := 125) C0 dX2_joined_1 (by decide) (by rw [c8]; decide) (by decide) ?_
    refine J_iload_n (q := 127) C0 1 rfl rfl dX2_joined_126 rfl ?_
    refine J_iload_n (q := 128) C0 2 rfl rfl dX2_joined_127 rfl ?_
    refine J_icmp_ge (t := 135) (q := 131) C0 dX2_joined_128 (by decide) rfl hf (fun c9 hf => ?_) (fun c9 hf => ?_)
    · refine J_lconst (q := 136) (v := 0) C0 dX2_joined_135 rfl rfl ?_
      obtain rfl := Option.some.inj hf; exact J_lret C1 dX2_joined_136 rfl (Nat.zero_le _) (Nat.zero_le _) ⟨rfl, rfl⟩
    · refine J_lconst (q := 132) (v := 1) C0 dX2_joined_131 rfl rfl ?_
      refine J_goto (q := 136) C0 dX2_joined_132 (by decide) ?_
      obtain rfl := Option.some.inj hf; exact J_lret C1 dX2_joined_136 rfl (Nat.zero_le _) (Nat.zero_le _) ⟨rfl, rfl⟩
  refine K_ite hf (fun c10 hf => ?_) (fun c10 hf => ?_)
  · refine J_lookup (t := 115) (off := 114) C0 dX2_joined_1 (by decide) (by rw [c10]; decide) (by decide) ?_
    refine J_iload_n (q := 116) C0 1 rfl rfl dX2_joined_115 rfl ?_
    refine J_iload_n (q := 117) C0 2 rfl rfl dX2_joined_116 rfl ?_
    refine J_icmp_ne (t := 124) (q := 120) C0 dX2_joined_117 (by decide) rfl hf (fun c11 hf => ?_) (fun c11 hf => ?_)
    · refine J_lconst (q := 125) (v := 0) C0 dX2_joined_124 rfl rfl ?_
      obtain rfl := Option.some.inj hf; exact J_lret C1 dX2_joined_125 rfl (Nat.zero_le _) (Nat.zero_le _) ⟨rfl, rfl⟩
    · refine J_lconst (q := 121) (v := 1) C0 dX2_joined_120 rfl rfl ?_
      refine J_goto (q := 125) C0 dX2_joined_121 (by decide) ?_
      obtain rfl := Option.some.inj hf; exact J_lret C1 dX2_joined_125 rfl (Nat.zero_le _) (Nat.zero_le _) ⟨rfl, rfl⟩
  refine K_ite hf (fun c12 hf => ?_) (fun c12 hf => ?_)
  · refine J_lookup (t := 137) (off := 136) C0 dX2_joined_1 (by decide) (by rw [c12]; decide) (by decide) ?_
    refine J_iload_n (q := 138) C0 1 rfl rfl dX2_joined_137 rfl ?_
    refine J_iload_n (q := 139) C0 2 rfl rfl dX2_joined_138 rfl ?_
    refine J_icmp_le (t := 146) (q := 142) C0 dX2_joined_139 (by decide) rfl hf (fun c13 hf => ?_) (fun c13 hf => ?_)
    · refine J_lconst (q := 147) (v := 0) C0 dX2_joined_146 rfl rfl ?_
      obtain rfl := Option.some.inj hf; exact J_lret C1 dX2_joined_147 rfl (Nat.zero_le _) (Nat.zero_le _) ⟨rfl, rfl⟩
    · refine J_lconst (q := 143) (v := 1) C0 dX2_joined_142 rfl rfl ?_
      refine J_goto (q := 147) C0 dX2_joined_143 (by decide) ?_
      obtain rfl := Option.some.inj hf; exact J_lret C1 dX2_joined_147 rfl (Nat.zero_le _) (Nat.zero_le _) ⟨rfl, rfl⟩
  refine K_ite hf (fun c14 hf => ?_) (fun c14 hf => ?_)
  · refine J_lookup (t := 153) (off := 152) C0 dX2_joined_1 (by decide) (by rw [c14]; decide) (by decide) ?_
    refine J_iload_n (q := 154) C0 1 rfl rfl dX2_joined_153 rfl ?_
    refine J_iload_n (q := 155) C0 2 rfl rfl dX2_joined_154 rfl ?_
    refine J_ior (q := 156) C0 dX2_joined_155 rfl ?_
    refine J_i2l (q := 157) C0 dX2_joined_156 rfl ?_
    obtain rfl := Option.some.inj hf; exact J_lret C1 dX2_joined_157 rfl (Nat.zero_le _) (Nat.zero_le _) ⟨rfl, rfl⟩
  refine J_lookup (t := 158) (off := 157) C0 dX2_joined_1 (by decide) (by rw [lv_osw c1 (by decide)]; rw [lv_osw c2 (by decide)]; rw [lv_osw c3 (by decide)]; rw [lv_osw c4 (by decide)]; rw [lv_osw c5 (by decide)]; rw [lv_osw c8 (by decide)]; rw [lv_osw c10 (by decide)]; rw [lv_osw c12 (by decide)]; rw [lv_osw c14 (by decide)]; rfl) (by decide) ?_
  refine J_lconst (q := 159) (v := 0) C0 dX2_joined_158 rfl rfl ?_
  obtain rfl := Option.some.inj hf; exact J_lret C1 dX2_joined_159 rfl (Nat.zero_le _) (Nat.zero_le _) ⟨rfl, rfl⟩
def f_J9_min_f86c9 (x0 : Int64) (x2 : Int64) : Option Int64 :=
  if (0) < (lg_cmp (x0) (x2)) then
  (some (x2))
  else
  (some (x0))
set_option maxHeartbeats 4000000 in
set_option maxRecDepth 100000 in
theorem t_J9_min_f86c9 (x0 : Int64) (x2 : Int64) {σ : Sg} {r : Int64} (hf : f_J9_min_f86c9 x0 x2 = some r) : Ct yJ9_min_f86c9 cJ9_min_f86c9 4 (some .long) 0 0 0 0 [vl x0, vl x2] σ (fun r_ τ_ => (r_ = some (vl r)) ∧ τ_ = σ) := by
  refine Ct.of (by decide +kernel) (Nat.le_of_ble_eq_true rfl) (fun Γ C1 => ?_)
  have C0 := C1.1
  unfold f_J9_min_f86c9 at hf
  show J_ Γ 0 [(0, vl (x0)), (2, vl (x2))] [] σ 0 0
  refine J_lload_n (q := 1) C0 0 rfl rfl dJ9_min_f86c9_0 rfl ?_
  refine J_lload_n (q := 2) C0 1 rfl rfl dJ9_min_f86c9_1 rfl ?_
  refine J_lcmp (q := 3) C0 dJ9_min_f86c9_2 rfl ?_
  refine J_if_gt (t := 10) (q := 6) C0 dJ9_min_f86c9_3 (by decide) rfl hf (fun c1 hf => ?_) (fun c1 hf => ?_)
  · refine J_lload_n (q := 11) C0 1 rfl rfl dJ9_min_f86c9_10 rfl ?_
    obtain rfl := Option.some.inj hf; exact J_lret C1 dJ9_min_f86c9_11 rfl (Nat.zero_le _) (Nat.zero_le _) ⟨rfl, rfl⟩
  · refine J_lload_n (q := 7) C0 0 rfl rfl dJ9_min_f86c9_6 rfl ?_
    refine J_goto (q := 11) C0 dJ9_min_f86c9_7 (by decide) ?_
    obtain rfl := Option.some.inj hf; exact J_lret C1 dJ9_min_f86c9_11 rfl (Nat.zero_le _) (Nat.zero_le _) ⟨rfl, rfl⟩
def f_J9_max_f86c9 (x0 : Int64) (x2 : Int64) : Option Int64 :=
  if (lg_cmp (x0) (x2)) < (0) then
  (some (x2))
  else
  (some (x0))
set_option maxHeartbeats 4000000 in
set_option maxRecDepth 100000 in
theorem t_J9_max_f86c9 (x0 : Int64) (x2 : Int64) {σ : Sg} {r : Int64} (hf : f_J9_max_f86c9 x0 x2 = some r) : Ct yJ9_max_f86c9 cJ9_max_f86c9 4 (some .long) 0 0 0 0 [vl x0, vl x2] σ (fun r_ τ_ => (r_ = some (vl r)) ∧ τ_ = σ) := by
  refine Ct.of (by decide +kernel) (Nat.le_of_ble_eq_true rfl) (fun Γ C1 => ?_)
  have C0 := C1.1
  unfold f_J9_max_f86c9 at hf
  show J_ Γ 0 [(0, vl (x0)), (2, vl (x2))] [] σ 0 0
  refine J_lload_n (q := 1) C0 0 rfl rfl dJ9_max_f86c9_0 rfl ?_
  refine J_lload_n (q := 2) C0 1 rfl rfl dJ9_max_f86c9_1 rfl ?_
  refine J_lcmp (q := 3) C0 dJ9_max_f86c9_2 rfl ?_
  refine J_if_lt (t := 10) (q := 6) C0 dJ9_max_f86c9_3 (by decide) rfl hf (fun c1 hf => ?_) (fun c1 hf => ?_)
  · refine J_lload_n (q := 11) C0 1 rfl rfl dJ9_max_f86c9_10 rfl ?_
    obtain rfl := Option.some.inj hf; exact J_lret C1 dJ9_max_f86c9_11 rfl (Nat.zero_le _) (Nat.zero_le _) ⟨rfl, rfl⟩
  · refine J_lload_n (q := 7) C0 0 rfl rfl dJ9_max_f86c9_6 rfl ?_
    refine J_goto (q := 11) C0 dJ9_max_f86c9_7 (by decide) ?_
    obtain rfl := Option.some.inj hf; exact J_lret C1 dJ9_max_f86c9_11 rfl (Nat.zero_le _) (Nat.zero_le _) ⟨rfl, rfl⟩
def f_X11_within (x0 : Int64) (x2 : Int32) (x3 : Int32) : Option Int32 :=
  Option.bind (f_J9_min_f86c9 ((x3).toInt64) (x0) ) fun p1 =>
  Option.bind (f_J9_max_f86c9 ((x2).toInt64) (p1) ) fun p2 =>
  some ((p2).toInt32)
set_option maxHeartbeats 4000000 in
set_option maxRecDepth 100000 in
theorem t_X11_within (x0 : Int64) (x2 : Int32) (x3 : Int32) {σ : Sg} {r : Int32} (hf : f_X11_within x0 x2 x3 = some r) : Ct yX11_within cX11_within 4 (some .int) 1 23 0 0 [vl x0, vi x2, vi x3] σ (fun r_ τ_ => (r_ = some (vi r)) ∧ τ_ = σ) := by
  refine Ct.of (by decide +kernel) (Nat.le_of_ble_eq_true rfl) (fun Γ C1 => ?_)
  have C0 := C1.1
  unfold f_X11_within at hf
  show J_ Γ 0 [(0, vl (x0)), (2, vi (x2)), (3, vi (x3))] [] σ 0 0
  refine J_iload_n (q := 1) C0 1 rfl rfl dX11_within_0 rfl ?_
  refine J_i2l (q := 2) C0 dX11_within_1 rfl ?_
  refine J_iload_n (q := 3) C0 2 rfl rfl dX11_within_2 rfl ?_
  refine J_i2l (q := 4) C0 dX11_within_3 rfl ?_
  refine J_lload_n (q := 5) C0 0 rfl rfl dX11_within_4 rfl ?_
  refine K_some hf (fun p1 hp1 hf => ?_)
  refine J_callS (q := 8) (as := [vl ((x3).toInt64), vl (x0)]) (rest := [vl ((x2).toInt64)]) C0 (t_J9_min_f86c9 ((x3).toInt64) (x0)  hp1) ml_J9_min_f86c9 lk_X11_424 sm_J9_min_f86c9 dX11_within_5 rfl rfl rfl (by simp [ac_]) C1.room (by decide) (by decide) (by decide) (by decide) (fun r_ τ_ hQ => ?_)
  obtain ⟨rfl, ht_⟩ := hQ; have ht_ := ht_.symm; subst ht_
  show J_ Γ 8 [(0, vl (x0)), (2, vi (x2)), (3, vi (x3))] [vl (p1), vl ((x2).toInt64)] σ 0 0
  refine K_some hf (fun p2 hp2 hf => ?_)
  refine J_callS (q := 11) (as := [vl ((x2).toInt64), vl (p1)]) (rest := []) C0 (t_J9_max_f86c9 ((x2).toInt64) (p1)  hp2) ml_J9_max_f86c9 lk_X11_427 sm_J9_max_f86c9 dX11_within_8 rfl rfl rfl (by simp [ac_]) C1.room (by decide) (by decide) (by decide) (by decide) (fun r_ τ_ hQ => ?_)
  obtain ⟨rfl, ht_⟩ := hQ; have ht_ := ht_.symm; subst ht_
  show J_ Γ 11 [(0, vl (x0)), (2, vi (x2)), (3, vi (x3))] [vl (p2)] σ 0 0
  refine J_l2i (q := 12) C0 dX11_within_11 rfl ?_
  obtain rfl := Option.some.inj hf; exact J_iret C1 dX11_within_12 rfl (Nat.zero_le _) (Nat.zero_le _) ⟨rfl, rfl⟩
def f_X2_worth_B176 (N : Nat) (a0 : Nat) (k7 : Option Nat → Int32 → Sg → Option (Int32 × Sg)) (v1 : Option Nat) (v2 : Int32) (σ : Sg) : Option (Int32 × Sg) :=
  k7 (v1) (v2 + 1) σ
def f_X2_worth_B93 (N : Nat) (a0 : Nat) (k7 : Option Nat → Int32 → Sg → Option (Int32 × Sg)) (v1 : Option Nat) (s0 : Int32) (σ : Sg) : Option (Int32 × Sg) :=
  f_X2_worth_B176 N a0 k7 (v1) (s0) σ
def f_X2_worth_B68 (N : Nat) (a0 : Nat) (k7 : Option Nat → Int32 → Sg → Option (Int32 × Sg)) (v1 : Option Nat) (v2 : Int32) (s0 : Int32) (σ : Sg) : Option (Int32 × Sg) :=
  Option.bind (f_X2_pull a0  σ) fun p21 =>
  if (p21.1) = (0) then
  (Option.bind (f_J9_max_7cf53 ((v2) + (1)) ((s0) - (1)) ) fun p23 =>
  f_X2_worth_B93 N a0 k7 (v1) (p23) (p21.2))
  else
  (f_X2_worth_B93 N a0 k7 (v1) ((v2) + (1)) (p21.2))
def f_X2_worth_L7 (N : Nat) (a0 : Nat) : Nat → Option Nat → Int32 → Sg → Option (Int32 × Sg)
  | 0, _, _, _ => none
  | n + 1, v1, v2, σ =>
  Option.bind (sg_R σ a0 0) fun b1 =>
  if (v2) < (Int32.ofNat (sg_L σ b1)) then
  (if (v2) < 0 ∨ sg_L σ b1 ≤ (v2).toNatClampNeg then none else
  if (sg_I σ b1 (v2).toNatClampNeg) = ((-12)) then
  (Option.bind (f_X2_pull a0  σ) fun p25 =>
  some (p25.1, p25.2))
  else
  (if (sg_I σ b1 (v2).toNatClampNeg) = ((-11)) then
  (if ((v2) + (1)) < (Int32.ofNat (sg_L σ b1)) then
  (if ((v2) + (1)) < 0 ∨ sg_L σ b1 ≤ ((v2) + (1)).toNatClampNeg then none else
  f_X2_worth_B68 N a0 (f_X2_worth_L7 N a0 n) (v1) (v2) (sg_I σ b1 ((v2) + (1)).toNatClampNeg) σ)
  else
  (f_X2_worth_B68 N a0 (f_X2_worth_L7 N a0 n) (v1) (v2) (0) σ))
  else
  (if (sg_I σ b1 (v2).toNatClampNeg) = ((-10)) then
  (Option.bind (f_X2_pull a0  σ) fun p18 =>
  Option.bind (f_X2_pile a0 ((1) - (p18.1)) p18.2) fun p19 =>
  f_X2_worth_B176 N a0 (f_X2_worth_L7 N a0 n) (v1) (v2) (p19))
  else
  (if (sg_I σ b1 (v2).toNatClampNeg) < (0) then
  (Option.bind (v1) fun b8 =>
  if (((-1)) - (sg_I σ b1 (v2).toNatClampNeg)) < (Int32.ofNat (sg_L σ b8)) then
  (if (((-1)) - (sg_I σ b1 (v2).toNatClampNeg)) < 0 ∨ sg_L σ b8 ≤ (((-1)) - (sg_I σ b1 (v2).toNatClampNeg)).toNatClampNeg then none else
  Option.bind (f_X2_pile a0 (sg_I σ b8 (((-1)) - (sg_I σ b1 (v2).toNatClampNeg)).toNatClampNeg) σ) fun p16 =>
  f_X2_worth_B176 N a0 (f_X2_worth_L7 N a0 n) (v1) (v2) (p16))
  else
  (Option.bind (f_X2_pull a0  σ) fun p10 =>
  Option.bind (f_X2_pull a0  p10.2) fun p11 =>
  Option.bind (f_X2_joined (((-100)) - (sg_I σ b1 (v2).toNatClampNeg)) (p11.1) (p10.1) ) fun p12 =>
  Option.bind (f_X11_within (p12) ((-1000000)) (1000000) ) fun p13 =>
  Option.bind (f_X2_pile a0 (p13) p11.2) fun p14 =>
  f_X2_worth_B176 N a0 (f_X2_worth_L7 N a0 n) (v1) (v2) (p14)))
  else
  (Option.bind (f_X2_pile a0 (sg_I σ b1 (v2).toNatClampNeg) σ) fun p17 =>
  f_X2_worth_B176 N a0 (f_X2_worth_L7 N a0 n) (v1) (v2) (p17))))))
  else
  (some (0, σ))
def f_X2_worth (N : Nat) (a0 : Nat) (e1 : Option Nat) (σ : Sg) : Option (Int32 × Sg) :=
  f_X2_worth_L7 N a0 N (e1) (0) (put_I σ a0 2 (0))
set_option maxHeartbeats 4000000 in
set_option maxRecDepth 100000 in
theorem t_X2_worth_B176 {N : Nat} {a0 : Nat} {Γ : Gm} {σ0 : Sg} {r : (Int32 × Sg)} (C1 : CM Γ cX2_worth RX2 6 (some .int) 2 46 0 0 (fun r_ τ_ => (r_ = some (vi r.1)) ∧ τ_ = r.2 ∧ sg_T τ_ ∧ sg_E σ0 τ_)) (k7 : Option Nat → Int32 → Sg → Option (Int32 × Sg)) (hk7 : ∀ (v1 : Option Nat) (v2 : Int32) (σ : Sg), sg_T σ → sg_E σ0 σ → is_A σ a0 2 → is_O σ v1 12 → k7 v1 v2 σ = some r → J_ Γ 7 [(0, vr (some a0)), (1, vr v1), (2, vi v2)] [] σ 0 0) (v1 : Option Nat) (v2 : Int32) (σ : Sg) (hT : sg_T σ) (hE : sg_E σ0 σ) (h0 : is_A σ a0 2) (g_v1 : is_O σ v1 12) (hf : f_X2_worth_B176 N a0 k7  v1 v2 σ = some r) : J_ Γ 176 [(0, vr (some a0)), (1, vr (v1)), (2, vi (v2))] [] σ 0 0 := by
  have C0 := C1.1
  unfold f_X2_worth_B176 at hf
  refine J_iinc (q := 179) (v := v2 + 1) (lv' := [(2, vi (v2 + 1)), (0, vr (some a0)), (1, vr (v1))]) C0 2 rfl rfl (G_nl C1 (by decide)) dX2_worth_176 rfl rfl ?_
  refine J_goto (q := 7) C0 dX2_worth_179 (by decide) ?_
  refine J_sub (lv' := [(0, vr (some a0)), (1, vr (v1)), (2, vi (v2 + 1))]) [1, 2, 0] rfl ?_
  exact hk7 (v1) (v2 + 1) σ (hT) (hE)  (h0) (g_v1) hf
set_option maxHeartbeats 4000000 in
set_option maxRecDepth 100000 in
theorem t_X2_worth_B93 {N : Nat} {a0 : Nat} {Γ : Gm} {σ0 : Sg} {r : (Int32 × Sg)} (C1 : CM Γ cX2_worth RX2 6 (some .int) 2 46 0 0 (fun r_ τ_ => (r_ = some (vi r.1)) ∧ τ_ = r.2 ∧ sg_T τ_ ∧ sg_E σ0 τ_)) (k7 : Option Nat → Int32 → Sg → Option (Int32 × Sg)) (hk7 : ∀ (v1 : Option Nat) (v2 : Int32) (σ : Sg), sg_T σ → sg_E σ0 σ → is_A σ a0 2 → is_O σ v1 12 → k7 v1 v2 σ = some r → J_ Γ 7 [(0, vr (some a0)), (1, vr v1), (2, vi v2)] [] σ 0 0) (v1 : Option Nat) (s0 : Int32) (σ : Sg) (hT : sg_T σ) (hE : sg_E σ0 σ) (h0 : is_A σ a0 2) (g_v1 : is_O σ v1 12) (hf : f_X2_worth_B93 N a0 k7  v1 s0 σ = some r) : J_ Γ 93 [(0, vr (some a0)), (1, vr (v1))] [vi (s0)] σ 0 0 := by
  have C0 := C1.1
  unfold f_X2_worth_B93 at hf
  refine J_istore_n (q := 94) (lv' := [(2, vi (s0)), (0, vr (some a0)), (1, vr (v1))]) C0 rfl (G_nl C1 (by decide)) dX2_worth_93 rfl rfl ?_
  refine J_goto (q := 176) C0 dX2_worth_94 (by decide) ?_
  refine J_sub (lv' := [(0, vr (some a0)), (1, vr (v1)), (2, vi (s0))]) [1, 2, 0] rfl ?_
  exact t_X2_worth_B176 C1  k7  hk7  (v1) (s0) σ (hT) (hE) (h0) (g_v1) hf
set_option maxHeartbeats 4000000 in
set_option maxRecDepth 100000 in
theorem t_X2_worth_B68 {N : Nat} {a0 : Nat} {Γ : Gm} {σ0 : Sg} {r : (Int32 × Sg)} (C1 : CM Γ cX2_worth RX2 6 (some .int) 2 46 0 0 (fun r_ τ_ => (r_ = some (vi r.1)) ∧ τ_ = r.2 ∧ sg_T τ_ ∧ sg_E σ0 τ_)) (k7 : Option Nat → Int32 → Sg → Option (Int32 × Sg)) (hk7 : ∀ (v1 : Option Nat) (v2 : Int32) (σ : Sg), sg_T σ → sg_E σ0 σ → is_A σ a0 2 → is_O σ v1 12 → k7 v1 v2 σ = some r → J_ Γ 7 [(0, vr (some a0)), (1, vr v1), (2, vi v2)] [] σ 0 0) (v1 : Option Nat) (v2 : Int32) (s0 : Int32) (σ : Sg) (hT : sg_T σ) (hE : sg_E σ0 σ) (h0 : is_A σ a0 2) (g_v1 : is_O σ v1 12) (hf : f_X2_worth_B68 N a0 k7  v1 v2 s0 σ = some r) : J_ Γ 68 [(0, vr (some a0)), (1, vr (v1)), (2, vi (v2))] [vi (s0)] σ 0 0 := by
  have C0 := C1.1
  unfold f_X2_worth_B68 at hf
  refine J_istore (q := 70) (lv' := [(5, vi (s0)), (0, vr (some a0)), (1, vr (v1)), (2, vi (v2))]) C0 (G_nl C1 (by decide)) dX2_worth_68 rfl rfl ?_
  refine J_aload_n (q := 71) C0 1 rfl rfl dX2_worth_70 rfl trivial ?_
  refine K_some hf (fun p21 hp21 hf => ?_)
  refine J_callV (q := 74) (ci := 2) (as := []) (rest := []) C0 rfl (h0) (t_X2_pull a0  (hT) (h0)  hp21) ml_X2_pull lk_X2_20 im_X2_pull se_X2_pull rfl (by decide) dX2_worth_71 rfl rfl rfl (by simp [ac_]) C1.room (by decide) (by decide) (by decide) (by decide) (fun r_ τ_ hQ => ?_)
  obtain ⟨rfl, rfl, Tp21, Ep21⟩ := hQ
  show J_ Γ 74 [(5, vi (s0)), (0, vr (some a0)), (1, vr (v1)), (2, vi (v2))] [vi (p21.1)] p21.2 0 0
  refine J_if_eq (t := 83) (q := 77) C0 dX2_worth_74 (by decide) rfl hf (fun c22 hf => ?_) (fun c22 hf => ?_)
  · refine J_iload_n (q := 84) C0 3 rfl rfl dX2_worth_83 rfl ?_
    refine J_iconst (q := 85) (v := 1) C0 dX2_worth_84 rfl rfl ?_
    refine J_iadd (q := 86) C0 dX2_worth_85 rfl ?_
    refine J_iload (q := 88) C0 0 rfl dX2_worth_86 rfl ?_
    refine J_iconst (q := 89) (v := 1) C0 dX2_worth_88 rfl rfl ?_
    refine J_isub (q := 90) C0 dX2_worth_89 rfl ?_
    refine K_some hf (fun p23 hp23 hf => ?_)
    refine J_callS (q := 93) (as := [vi ((v2) + (1)), vi ((s0) - (1))]) (rest := []) C0 (t_J9_max_7cf53 ((v2) + (1)) ((s0) - (1))  hp23) ml_J9_max_7cf53 lk_X2_24 sm_J9_max_7cf53 dX2_worth_90 rfl rfl rfl (by simp [ac_]) C1.room (by decide) (by decide) (by decide) (by decide) (fun r_ τ_ hQ => ?_)
    obtain ⟨rfl, ht_⟩ := hQ; have ht_ := ht_.symm; subst ht_
    show J_ Γ 93 [(5, vi (s0)), (0, vr (some a0)), (1, vr (v1)), (2, vi (v2))] [vi (p23)] p21.2 0 0
    refine J_sub (lv' := [(0, vr (some a0)), (1, vr (v1))]) [1, 2] rfl ?_
    exact t_X2_worth_B93 C1  k7  hk7  (v1) (p23) (p21.2) (Tp21) ((hE).tr Ep21) ((Ep21.at h0)) ((Ep21.op g_v1)) hf
  · refine J_iload_n (q := 78) C0 3 rfl rfl dX2_worth_77 rfl ?_
    refine J_iconst (q := 79) (v := 1) C0 dX2_worth_78 rfl rfl ?_
    refine J_iadd (q := 80) C0 dX2_worth_79 rfl ?_
    refine J_goto (q := 93) C0 dX2_worth_80 (by decide) ?_
    refine J_sub (lv' := [(0, vr (some a0)), (1, vr (v1))]) [1, 2] rfl ?_
    exact t_X2_worth_B93 C1  k7  hk7  (v1) ((v2) + (1)) (p21.2) (Tp21) ((hE).tr Ep21) ((Ep21.at h0)) ((Ep21.op g_v1)) hf
set_option maxHeartbeats 4000000 in
set_option maxRecDepth 100000 in
theorem t_X2_worth_L7 {N : Nat} {a0 : Nat} {Γ : Gm} {σ0 : Sg} {r : (Int32 × Sg)} (C1 : CM Γ cX2_worth RX2 6 (some .int) 2 46 0 0 (fun r_ τ_ => (r_ = some (vi r.1)) ∧ τ_ = r.2 ∧ sg_T τ_ ∧ sg_E σ0 τ_)) : ∀ (n : Nat) (v1 : Option Nat) (v2 : Int32) (σ : Sg), sg_T σ → sg_E σ0 σ → is_A σ a0 2 → is_O σ v1 12 → f_X2_worth_L7 N a0  n v1 v2 σ = some r → J_ Γ 7 [(0, vr (some a0)), (1, vr (v1)), (2, vi (v2))] [] σ 0 0 := by
  have C0 := C1.1
  intro n
  induction n with
  | zero => intro v1 v2 σ hT hE h0 g_v1 hf; unfold f_X2_worth_L7 at hf; cases hf
  | succ n ih =>
    intro v1 v2 σ hT hE h0 g_v1 hf
    rw [f_X2_worth_L7] at hf
    refine J_iload_n (q := 8) C0 2 rfl rfl dX2_worth_7 rfl ?_
    refine J_aload_n (q := 9) C0 0 rfl rfl dX2_worth_8 rfl trivial ?_
    refine J_getR (q := 12) C0 fl_X2_17_2 rfl (h0) rfl dX2_worth_9 rfl ?_
    refine K_some hf (fun b1 hb1 hf => ?_)
    have ab1 : is_A σ b1 12 := ((sg_T.op hT (j := 0) (h0) rfl)) b1 hb1
    refine J_alen (q := 13) C0 hb1 (ab1) (by decide) dX2_worth_12 rfl ?_
    refine J_icmp_ge (t := 182) (q := 16) C0 dX2_worth_13 (by decide) rfl hf (fun c2 hf => ?_) (fun c2 hf => ?_)
    · refine J_iconst (q := 183) (v := 0) C0 dX2_worth_182 rfl rfl ?_
      obtain rfl := Option.some.inj hf; exact J_iret C1 dX2_worth_183 rfl (Nat.zero_le _) (Nat.zero_le _) ⟨rfl, rfl, hT, hE⟩
    · refine J_aload_n (q := 17) C0 0 rfl rfl dX2_worth_16 rfl trivial ?_
      refine J_getR (q := 20) C0 fl_X2_17_2 rfl (h0) rfl dX2_worth_17 rfl ?_
      refine J_iload_n (q := 21) C0 2 rfl rfl dX2_worth_20 rfl ?_
      refine K_chk hf (fun c3 hf => ?_)
      refine J_iald (q := 22) C0 hb1 (ab1) c3 dX2_worth_21 rfl ?_
      refine J_istore_n (q := 23) (lv' := [(3, vi (sg_I σ b1 (v2).toNatClampNeg)), (0, vr (some a0)), (1, vr (v1)), (2, vi (v2))]) C0 rfl (G_nl C1 (by decide)) dX2_worth_22 rfl rfl ?_
      refine J_iconst (q := 24) (v := (-1)) C0 dX2_worth_23 rfl rfl ?_
      refine J_iload_n (q := 25) C0 0 rfl rfl dX2_worth_24 rfl ?_
      refine J_isub (q := 26) C0 dX2_worth_25 rfl ?_
      refine J_istore (q := 28) (lv' := [(4, vi (((-1)) - (sg_I σ b1 (v2).toNatClampNeg))), (3, vi (sg_I σ b1 (v2).toNatClampNeg)), (0, vr (some a0)), (1, vr (v1)), (2, vi (v2))]) C0 (G_nl C1 (by decide)) dX2_worth_26 rfl rfl ?_
      refine J_iload_n (q := 29) C0 1 rfl rfl dX2_worth_28 rfl ?_
      refine J_bipush (q := 31) (v := (-12)) C0 dX2_worth_29 rfl rfl ?_
      refine J_icmp_ne (t := 39) (q := 34) C0 dX2_worth_31 (by decide) rfl hf (fun c4 hf => ?_) (fun c4 hf => ?_)
      · refine J_iload_n (q := 40) C0 1 rfl rfl dX2_worth_39 rfl ?_
        refine J_bipush (q := 42) (v := (-11)) C0 dX2_worth_40 rfl rfl ?_
        refine J_icmp_ne (t := 97) (q := 45) C0 dX2_worth_42 (by decide) rfl hf (fun c5 hf => ?_) (fun c5 hf => ?_)
        · refine J_iload_n (q := 98) C0 1 rfl rfl dX2_worth_97 rfl ?_
          refine J_bipush (q := 100) (v := (-10)) C0 dX2_worth_98 rfl rfl ?_
          refine J_icmp_ne (t := 116) (q := 103) C0 dX2_worth_100 (by decide) rfl hf (fun c6 hf => ?_) (fun c6 hf => ?_)
          · refine J_iload_n (q := 117) C0 1 rfl rfl dX2_worth_116 rfl ?_
            refine J_if_lt (t := 128) (q := 120) C0 dX2_worth_117 (by decide) rfl hf (fun c7 hf => ?_) (fun c7 hf => ?_)
            · refine J_iload (q := 130) C0 0 rfl dX2_worth_128 rfl ?_
              refine J_aload_n (q := 131) C0 3 rfl rfl dX2_worth_130 rfl trivial ?_
              refine K_some hf (fun b8 hb8 hf => ?_)
              have ab8 : is_A σ b8 12 := (g_v1) b8 hb8
              refine J_alen (q := 132) C0 hb8 (ab8) (by decide) dX2_worth_131 rfl ?_
              refine J_icmp_ge (t := 146) (q := 135) C0 dX2_worth_132 (by decide) rfl hf (fun c9 hf => ?_) (fun c9 hf => ?_)
              · refine J_aload_n (q := 147) C0 2 rfl rfl dX2_worth_146 rfl trivial ?_
                refine K_some hf (fun p10 hp10 hf => ?_)
                refine J_callV (q := 150) (ci := 2) (as := []) (rest := []) C0 rfl (h0) (t_X2_pull a0  (hT) (h0)  hp10) ml_X2_pull lk_X2_20 im_X2_pull se_X2_pull rfl (by decide) dX2_worth_147 rfl rfl rfl (by simp [ac_]) C1.room (by decide) (by decide) (by decide) (by decide) (fun r_ τ_ hQ => ?_)
                obtain ⟨rfl, rfl, Tp10, Ep10⟩ := hQ
                show J_ Γ 150 [(4, vi (((-1)) - (sg_I σ b1 (v2).toNatClampNeg))), (3, vi (sg_I σ b1 (v2).toNatClampNeg)), (0, vr (some a0)), (1, vr (v1)), (2, vi (v2))] [vi (p10.1)] p10.2 0 0
                refine J_istore (q := 152) (lv' := [(5, vi (p10.1)), (4, vi (((-1)) - (sg_I σ b1 (v2).toNatClampNeg))), (3, vi (sg_I σ b1 (v2).toNatClampNeg)), (0, vr (some a0)), (1, vr (v1)), (2, vi (v2))]) C0 (G_nl C1 (by decide)) dX2_worth_150 rfl rfl ?_
                refine J_aload_n (q := 153) C0 3 rfl rfl dX2_worth_152 rfl trivial ?_
                refine J_bipush (q := 155) (v := (-100)) C0 dX2_worth_153 rfl rfl ?_
                refine J_iload_n (q := 156) C0 2 rfl rfl dX2_worth_155 rfl ?_
                refine J_isub (q := 157) C0 dX2_worth_156 rfl ?_
                refine J_aload_n (q := 158) C0 3 rfl rfl dX2_worth_157 rfl trivial ?_
                refine K_some hf (fun p11 hp11 hf => ?_)
                refine J_callV (q := 161) (ci := 2) (as := []) (rest := [vi (((-100)) - (sg_I σ b1 (v2).toNatClampNeg)), vr (some a0)]) C0 rfl ((Ep10.at h0)) (t_X2_pull a0  (Tp10) ((Ep10.at h0))  hp11) ml_X2_pull lk_X2_20 im_X2_pull se_X2_pull rfl (by decide) dX2_worth_158 rfl rfl rfl (by simp [ac_]) C1.room (by decide) (by decide) (by decide) (by decide) (fun r_ τ_ hQ => ?_)
                obtain ⟨rfl, rfl, Tp11, Ep11⟩ := hQ
                show J_ Γ 161 [(5, vi (p10.1)), (4, vi (((-1)) - (sg_I σ b1 (v2).toNatClampNeg))), (3, vi (sg_I σ b1 (v2).toNatClampNeg)), (0, vr (some a0)), (1, vr (v1)), (2, vi (v2))] [vi (p11.1), vi (((-100)) - (sg_I σ b1 (v2).toNatClampNeg)), vr (some a0)] p11.2 0 0
                refine J_iload (q := 163) C0 0 rfl dX2_worth_161 rfl ?_
                refine K_some hf (fun p12 hp12 hf => ?_)
                refine J_callS (q := 166) (as := [vi (((-100)) - (sg_I σ b1 (v2).toNatClampNeg)), vi (p11.1), vi (p10.1)]) (rest := [vr (some a0)]) C0 (t_X2_joined (((-100)) - (sg_I σ b1 (v2).toNatClampNeg)) (p11.1) (p10.1)  hp12) ml_X2_joined lk_X2_34 sm_X2_joined dX2_worth_163 rfl rfl rfl (by simp [ac_]) C1.room (by decide) (by decide) (by decide) (by decide) (fun r_ τ_ hQ => ?_)
                obtain ⟨rfl, ht_⟩ := hQ; have ht_ := ht_.symm; subst ht_
                show J_ Γ 166 [(5, vi (p10.1)), (4, vi (((-1)) - (sg_I σ b1 (v2).toNatClampNeg))), (3, vi (sg_I σ b1 (v2).toNatClampNeg)), (0, vr (some a0)), (1, vr (v1)), (2, vi (v2))] [vl (p12), vr (some a0)] p11.2 0 0
                refine J_ldc (q := 168) C0 kc_X2_38 dX2_worth_166 rfl ?_
                refine J_ldc (q := 170) C0 kc_X2_39 dX2_worth_168 rfl ?_
                refine K_some hf (fun p13 hp13 hf => ?_)
                refine J_callSN (q := 173) (as := [vl (p12), vi ((-1000000)), vi (1000000)]) (rest := [vr (some a0)]) C0 (t_X11_within (p12) ((-1000000)) (1000000)  hp13) ml_X11_within lk_X2_40 sm_X11_within dX2_worth_170 rfl rfl rfl (by simp [ac_]) C1.room (by decide) (by decide) (by decide) (by decide) (fun r_ τ_ hQ => ?_)
                obtain ⟨rfl, ht_⟩ := hQ; have ht_ := ht_.symm; subst ht_
                show J_ Γ 173 [(5, vi (p10.1)), (4, vi (((-1)) - (sg_I σ b1 (v2).toNatClampNeg))), (3, vi (sg_I σ b1 (v2).toNatClampNeg)), (0, vr (some a0)), (1, vr (v1)), (2, vi (v2))] [vi (p13), vr (some a0)] p11.2 0 0
                refine K_some hf (fun p14 hp14 hf => ?_)
                refine J_callV (q := 176) (ci := 2) (as := [vi (p13)]) (rest := []) C0 rfl ((Ep11.at (Ep10.at h0))) (t_X2_pile a0 (p13) (Tp11) ((Ep11.at (Ep10.at h0)))  hp14) ml_X2_pile lk_X2_30 im_X2_pile se_X2_pile rfl (by decide) dX2_worth_173 rfl rfl rfl (by simp [ac_]) C1.room (by decide) (by decide) (by decide) (by decide) (fun r_ τ_ hQ => ?_)
                obtain ⟨rfl, ht_, Tp14, Ep14⟩ := hQ; have ht_ := ht_.symm; subst ht_
                show J_ Γ 176 [(5, vi (p10.1)), (4, vi (((-1)) - (sg_I σ b1 (v2).toNatClampNeg))), (3, vi (sg_I σ b1 (v2).toNatClampNeg)), (0, vr (some a0)), (1, vr (v1)), (2, vi (v2))] [] p14 0 0
                refine J_sub (lv' := [(0, vr (some a0)), (1, vr (v1)), (2, vi (v2))]) [3, 4, 5] rfl ?_
                exact t_X2_worth_B176 C1  (f_X2_worth_L7 N a0 n)  ih  (v1) (v2) (p14) (Tp14) ((((hE).tr Ep10).tr Ep11).tr Ep14) ((Ep14.at (Ep11.at (Ep10.at h0)))) ((by rw [hb8]; exact is_O.some ((Ep14.at (Ep11.at (Ep10.at ab8)))))) hf
              · refine J_aload_n (q := 136) C0 2 rfl rfl dX2_worth_135 rfl trivial ?_
                refine J_aload_n (q := 137) C0 3 rfl rfl dX2_worth_136 rfl trivial ?_
                refine J_iload (q := 139) C0 0 rfl dX2_worth_137 rfl ?_
                refine K_chk hf (fun c15 hf => ?_)
                refine J_iald (q := 140) C0 hb8 (ab8) c15 dX2_worth_139 rfl ?_
                refine K_some hf (fun p16 hp16 hf => ?_)
                refine J_callV (q := 143) (ci := 2) (as := [vi (sg_I σ b8 (((-1)) - (sg_I σ b1 (v2).toNatClampNeg)).toNatClampNeg)]) (rest := []) C0 rfl (h0) (t_X2_pile a0 (sg_I σ b8 (((-1)) - (sg_I σ b1 (v2).toNatClampNeg)).toNatClampNeg) (hT) (h0)  hp16) ml_X2_pile lk_X2_30 im_X2_pile se_X2_pile rfl (by decide) dX2_worth_140 rfl rfl rfl (by simp [ac_]) C1.room (by decide) (by decide) (by decide) (by decide) (fun r_ τ_ hQ => ?_)
                obtain ⟨rfl, ht_, Tp16, Ep16⟩ := hQ; have ht_ := ht_.symm; subst ht_
                show J_ Γ 143 [(4, vi (((-1)) - (sg_I σ b1 (v2).toNatClampNeg))), (3, vi (sg_I σ b1 (v2).toNatClampNeg)), (0, vr (some a0)), (1, vr (v1)), (2, vi (v2))] [] p16 0 0
                refine J_goto (q := 176) C0 dX2_worth_143 (by decide) ?_
                refine J_sub (lv' := [(0, vr (some a0)), (1, vr (v1)), (2, vi (v2))]) [2, 3, 4] rfl ?_
                exact t_X2_worth_B176 C1  (f_X2_worth_L7 N a0 n)  ih  (v1) (v2) (p16) (Tp16) ((hE).tr Ep16) ((Ep16.at h0)) ((by rw [hb8]; exact is_O.some ((Ep16.at ab8)))) hf
            · refine J_aload_n (q := 121) C0 2 rfl rfl dX2_worth_120 rfl trivial ?_
              refine J_iload_n (q := 122) C0 1 rfl rfl dX2_worth_121 rfl ?_
              refine K_some hf (fun p17 hp17 hf => ?_)
              refine J_callV (q := 125) (ci := 2) (as := [vi (sg_I σ b1 (v2).toNatClampNeg)]) (rest := []) C0 rfl (h0) (t_X2_pile a0 (sg_I σ b1 (v2).toNatClampNeg) (hT) (h0)  hp17) ml_X2_pile lk_X2_30 im_X2_pile se_X2_pile rfl (by decide) dX2_worth_122 rfl rfl rfl (by simp [ac_]) C1.room (by decide) (by decide) (by decide) (by decide) (fun r_ τ_ hQ => ?_)
              obtain ⟨rfl, ht_, Tp17, Ep17⟩ := hQ; have ht_ := ht_.symm; subst ht_
              show J_ Γ 125 [(4, vi (((-1)) - (sg_I σ b1 (v2).toNatClampNeg))), (3, vi (sg_I σ b1 (v2).toNatClampNeg)), (0, vr (some a0)), (1, vr (v1)), (2, vi (v2))] [] p17 0 0
              refine J_goto (q := 176) C0 dX2_worth_125 (by decide) ?_
              refine J_sub (lv' := [(0, vr (some a0)), (1, vr (v1)), (2, vi (v2))]) [2, 3, 4] rfl ?_
              exact t_X2_worth_B176 C1  (f_X2_worth_L7 N a0 n)  ih  (v1) (v2) (p17) (Tp17) ((hE).tr Ep17) ((Ep17.at h0)) ((Ep17.op g_v1)) hf
          · refine J_aload_n (q := 104) C0 2 rfl rfl dX2_worth_103 rfl trivial ?_
            refine J_iconst (q := 105) (v := 1) C0 dX2_worth_104 rfl rfl ?_
            refine J_aload_n (q := 106) C0 2 rfl rfl dX2_worth_105 rfl trivial ?_
            refine K_some hf (fun p18 hp18 hf => ?_)
            refine J_callV (q := 109) (ci := 2) (as := []) (rest := [vi (1), vr (some a0)]) C0 rfl (h0) (t_X2_pull a0  (hT) (h0)  hp18) ml_X2_pull lk_X2_20 im_X2_pull se_X2_pull rfl (by decide) dX2_worth_106 rfl rfl rfl (by simp [ac_]) C1.room (by decide) (by decide) (by decide) (by decide) (fun r_ τ_ hQ => ?_)
            obtain ⟨rfl, rfl, Tp18, Ep18⟩ := hQ
            show J_ Γ 109 [(4, vi (((-1)) - (sg_I σ b1 (v2).toNatClampNeg))), (3, vi (sg_I σ b1 (v2).toNatClampNeg)), (0, vr (some a0)), (1, vr (v1)), (2, vi (v2))] [vi (p18.1), vi (1), vr (some a0)] p18.2 0 0
            refine J_isub (q := 110) C0 dX2_worth_109 rfl ?_
            refine K_some hf (fun p19 hp19 hf => ?_)
            refine J_callV (q := 113) (ci := 2) (as := [vi ((1) - (p18.1))]) (rest := []) C0 rfl ((Ep18.at h0)) (t_X2_pile a0 ((1) - (p18.1)) (Tp18) ((Ep18.at h0))  hp19) ml_X2_pile lk_X2_30 im_X2_pile se_X2_pile rfl (by decide) dX2_worth_110 rfl rfl rfl (by simp [ac_]) C1.room (by decide) (by decide) (by decide) (by decide) (fun r_ τ_ hQ => ?_)
            obtain ⟨rfl, ht_, Tp19, Ep19⟩ := hQ; have ht_ := ht_.symm; subst ht_
            show J_ Γ 113 [(4, vi (((-1)) - (sg_I σ b1 (v2).toNatClampNeg))), (3, vi (sg_I σ b1 (v2).toNatClampNeg)), (0, vr (some a0)), (1, vr (v1)), (2, vi (v2))] [] p19 0 0
            refine J_goto (q := 176) C0 dX2_worth_113 (by decide) ?_
            refine J_sub (lv' := [(0, vr (some a0)), (1, vr (v1)), (2, vi (v2))]) [2, 3, 4] rfl ?_
            exact t_X2_worth_B176 C1  (f_X2_worth_L7 N a0 n)  ih  (v1) (v2) (p19) (Tp19) (((hE).tr Ep18).tr Ep19) ((Ep19.at (Ep18.at h0))) ((Ep19.op (Ep18.op g_v1))) hf
        · refine J_iload_n (q := 46) C0 4 rfl rfl dX2_worth_45 rfl ?_
          refine J_iconst (q := 47) (v := 1) C0 dX2_worth_46 rfl rfl ?_
          refine J_iadd (q := 48) C0 dX2_worth_47 rfl ?_
          refine J_aload_n (q := 49) C0 2 rfl rfl dX2_worth_48 rfl trivial ?_
          refine J_getR (q := 52) C0 fl_X2_17_2 rfl (h0) rfl dX2_worth_49 rfl ?_
          refine J_alen (q := 53) C0 hb1 (ab1) (by decide) dX2_worth_52 rfl ?_
          refine J_icmp_ge (t := 67) (q := 56) C0 dX2_worth_53 (by decide) rfl hf (fun c20 hf => ?_) (fun c20 hf => ?_)
          · refine J_iconst (q := 68) (v := 0) C0 dX2_worth_67 rfl rfl ?_
            refine J_sub (lv' := [(0, vr (some a0)), (1, vr (v1)), (2, vi (v2))]) [2, 3, 4] rfl ?_
            exact t_X2_worth_B68 C1  (f_X2_worth_L7 N a0 n)  ih  (v1) (v2) (0) σ (hT) (hE) (h0) (g_v1) hf
          · refine J_aload_n (q := 57) C0 2 rfl rfl dX2_worth_56 rfl trivial ?_
            refine J_getR (q := 60) C0 fl_X2_17_2 rfl (h0) rfl dX2_worth_57 rfl ?_
            refine J_iload_n (q := 61) C0 4 rfl rfl dX2_worth_60 rfl ?_
            refine J_iconst (q := 62) (v := 1) C0 dX2_worth_61 rfl rfl ?_
            refine J_iadd (q := 63) C0 dX2_worth_62 rfl ?_
            refine K_chk hf (fun c24 hf => ?_)
            refine J_iald (q := 64) C0 hb1 (ab1) c24 dX2_worth_63 rfl ?_
            refine J_goto (q := 68) C0 dX2_worth_64 (by decide) ?_
            refine J_sub (lv' := [(0, vr (some a0)), (1, vr (v1)), (2, vi (v2))]) [2, 3, 4] rfl ?_
            exact t_X2_worth_B68 C1  (f_X2_worth_L7 N a0 n)  ih  (v1) (v2) (sg_I σ b1 ((v2) + (1)).toNatClampNeg) σ (hT) (hE) (h0) (g_v1) hf
      · refine J_aload_n (q := 35) C0 2 rfl rfl dX2_worth_34 rfl trivial ?_
        refine K_some hf (fun p25 hp25 hf => ?_)
        refine J_callV (q := 38) (ci := 2) (as := []) (rest := []) C0 rfl (h0) (t_X2_pull a0  (hT) (h0)  hp25) ml_X2_pull lk_X2_20 im_X2_pull se_X2_pull rfl (by decide) dX2_worth_35 rfl rfl rfl (by simp [ac_]) C1.room (by decide) (by decide) (by decide) (by decide) (fun r_ τ_ hQ => ?_)
        obtain ⟨rfl, rfl, Tp25, Ep25⟩ := hQ
        show J_ Γ 38 [(4, vi (((-1)) - (sg_I σ b1 (v2).toNatClampNeg))), (3, vi (sg_I σ b1 (v2).toNatClampNeg)), (0, vr (some a0)), (1, vr (v1)), (2, vi (v2))] [vi (p25.1)] p25.2 0 0
        obtain rfl := Option.some.inj hf; exact J_iret C1 dX2_worth_38 rfl (Nat.zero_le _) (Nat.zero_le _) ⟨rfl, rfl, Tp25, (hE).tr Ep25⟩
set_option maxHeartbeats 4000000 in
set_option maxRecDepth 100000 in
theorem t_X2_worth (N : Nat) (a0 : Nat) (e1 : Option Nat) {σ : Sg} (hT : sg_T σ) (h0 : is_A σ a0 2) (g1 : is_O σ e1 12) {r : (Int32 × Sg)} (hf : f_X2_worth N a0 e1 σ = some r) : Ct yX2_worth cX2_worth 6 (some .int) 2 46 0 0 [vr (some a0), vr e1] σ (fun r_ τ_ => (r_ = some (vi r.1)) ∧ τ_ = r.2 ∧ sg_T τ_ ∧ sg_E σ τ_) := by
  refine Ct.of (by decide +kernel) (Nat.le_of_ble_eq_true rfl) (fun Γ C1 => ?_)
  have C0 := C1.1
  have hE : sg_E σ σ := sg_E.rf
  unfold f_X2_worth at hf
  show J_ Γ 0 [(0, vr (some a0)), (1, vr (e1))] [] σ 0 0
  refine J_aload_n (q := 1) C0 0 rfl rfl dX2_worth_0 rfl trivial ?_
  refine J_iconst (q := 2) (v := 0) C0 dX2_worth_1 rfl rfl ?_
  refine J_putI (q := 5) C0 fl_X2_13_2 rfl (h0) rfl dX2_worth_2 rfl ?_
  refine J_iconst (q := 6) (v := 0) C0 dX2_worth_5 rfl rfl ?_
  refine J_istore_n (q := 7) (lv' := [(2, vi (0)), (0, vr (some a0)), (1, vr (e1))]) C0 rfl (G_nl C1 (by decide)) dX2_worth_6 rfl rfl ?_
  refine J_sub (lv' := [(0, vr (some a0)), (1, vr (e1)), (2, vi (0))]) [1, 2, 0] rfl ?_
  exact t_X2_worth_L7 C1    N (e1) (0) (put_I σ a0 2 (0)) ((hT).putI) ((hE).putI) ((h0).putI) ((fun b_ h_ => (g1 b_ h_).putI)) hf
def f_X0_movedFrom_B65 (N : Nat) (a0 : Nat) (v1 : Int32) (v3 : Int32) (σ : Sg) : Option (Int32 × Sg) :=
  Option.bind (sg_R σ a0 2) fun b3 =>
  Option.bind (f_X8_size b3  σ) fun p4 =>
  Option.bind (f_X11_round ((v1) + (v3)) (p4) ) fun p5 =>
  some (p5, σ)
def f_X0_movedFrom (N : Nat) (a0 : Nat) (x1 : Int32) (x2 : Int32) (σ : Sg) : Option (Int32 × Sg) :=
  match sg_R σ a0 3 with
  | none => (f_X0_movedFrom_B65 N a0 (x1) (sg_I σ a0 0) σ)
  | some b1 => (Option.bind (sg_R σ a0 5) fun b6 =>
  if (1 : Int32) < 0 ∨ sg_L σ b6 ≤ (1 : Int32).toNatClampNeg then none else
  Option.bind (sg_R (put_I σ b6 (1 : Int32).toNatClampNeg (x1)) a0 2) fun b8 =>
  Option.bind (f_X8_shownAt b8 (x1) (put_I σ b6 (1 : Int32).toNatClampNeg (x1))) fun p9 =>
  Option.bind (sg_R (put_I σ b6 (1 : Int32).toNatClampNeg (x1)) a0 5) fun b10 =>
  if (3 : Int32) < 0 ∨ sg_L (put_I σ b6 (1 : Int32).toNatClampNeg (x1)) b10 ≤ (3 : Int32).toNatClampNeg then none else
  Option.bind (f_X11_round (x2) (24) ) fun p12 =>
  Option.bind (sg_R (put_I (put_I σ b6 (1 : Int32).toNatClampNeg (x1)) b10 (3 : Int32).toNatClampNeg (p9)) a0 5) fun b13 =>
  if (4 : Int32) < 0 ∨ sg_L (put_I (put_I σ b6 (1 : Int32).toNatClampNeg (x1)) b10 (3 : Int32).toNatClampNeg (p9)) b13 ≤ (4 : Int32).toNatClampNeg then none else
  Option.bind (sg_R (put_I (put_I (put_I σ b6 (1 : Int32).toNatClampNeg (x1)) b10 (3 : Int32).toNatClampNeg (p9)) b13 (4 : Int32).toNatClampNeg (p12)) a0 3) fun b15 =>
  Option.bind (f_X2_worth N b15 (sg_R (put_I (put_I (put_I σ b6 (1 : Int32).toNatClampNeg (x1)) b10 (3 : Int32).toNatClampNeg (p9)) b13 (4 : Int32).toNatClampNeg (p12)) a0 5) (put_I (put_I (put_I σ b6 (1 : Int32).toNatClampNeg (x1)) b10 (3 : Int32).toNatClampNeg (p9)) b13 (4 : Int32).toNatClampNeg (p12))) fun p16 =>
  Option.bind (f_X11_within ((p16.1).toInt64) ((-15)) (15) ) fun p17 =>
  f_X0_movedFrom_B65 N a0 (x1) (p17) (p16.2))
set_option maxHeartbeats 4000000 in
set_option maxRecDepth 100000 in
theorem t_X0_movedFrom_B65 {N : Nat} {a0 : Nat} {Γ : Gm} {σ0 : Sg} {r : (Int32 × Sg)} (C1 : CM Γ cX0_movedFrom RX0 4 (some .int) 3 71 0 0 (fun r_ τ_ => (r_ = some (vi r.1)) ∧ τ_ = r.2 ∧ sg_T τ_ ∧ sg_E σ0 τ_)) (v1 : Int32) (v3 : Int32) (σ : Sg) (hT : sg_T σ) (hE : sg_E σ0 σ) (h0 : is_A σ a0 0) (hf : f_X0_movedFrom_B65 N a0  v1 v3 σ = some r) : J_ Γ 65 [(0, vr (some a0)), (1, vi (v1)), (3, vi (v3))] [] σ 0 0 := by
  have C0 := C1.1
  unfold f_X0_movedFrom_B65 at hf
  refine J_iload_n (q := 66) C0 1 rfl rfl dX0_movedFrom_65 rfl ?_
  refine J_iload_n (q := 67) C0 2 rfl rfl dX0_movedFrom_66 rfl ?_
  refine J_iadd (q := 68) C0 dX0_movedFrom_67 rfl ?_
  refine J_aload_n (q := 69) C0 0 rfl rfl dX0_movedFrom_68 rfl trivial ?_
  refine J_getR (q := 72) C0 fl_X0_23_0 rfl (h0) rfl dX0_movedFrom_69 rfl ?_
  refine K_some hf (fun b3 hb3 hf => ?_)
  have ab3 : is_A σ b3 7 := ((sg_T.op hT (j := 2) (h0) rfl)) b3 hb3
  refine K_some hf (fun p4 hp4 hf => ?_)
  refine J_callV (q := 75) (ci := 7) (as := []) (rest := [vi ((v1) + (v3))]) C0 hb3 (ab3) (t_X8_size b3  (hT) (ab3)  hp4) ml_X8_size lk_X0_58 im_X8_size se_X8_size rfl (by decide) dX0_movedFrom_72 rfl rfl rfl (by simp [ac_]) C1.room (by decide) (by decide) (by decide) (by decide) (fun r_ τ_ hQ => ?_)
  obtain ⟨rfl, ht_⟩ := hQ; have ht_ := ht_.symm; subst ht_
  show J_ Γ 75 [(0, vr (some a0)), (1, vi (v1)), (3, vi (v3))] [vi (p4), vi ((v1) + (v3))] σ 0 0
  refine K_some hf (fun p5 hp5 hf => ?_)
  refine J_callSN (q := 78) (as := [vi ((v1) + (v3)), vi (p4)]) (rest := []) C0 (t_X11_round ((v1) + (v3)) (p4)  hp5) ml_X11_round lk_X0_65 sm_X11_round dX0_movedFrom_75 rfl rfl rfl (by simp [ac_]) C1.room (by decide) (by decide) (by decide) (by decide) (fun r_ τ_ hQ => ?_)
  obtain ⟨rfl, ht_⟩ := hQ; have ht_ := ht_.symm; subst ht_
  show J_ Γ 78 [(0, vr (some a0)), (1, vi (v1)), (3, vi (v3))] [vi (p5)] σ 0 0
  obtain rfl := Option.some.inj hf; exact J_iret C1 dX0_movedFrom_78 rfl (Nat.zero_le _) (Nat.zero_le _) ⟨rfl, rfl, hT, hE⟩
set_option maxHeartbeats 4000000 in
set_option maxRecDepth 100000 in
theorem t_X0_movedFrom (N : Nat) (a0 : Nat) (x1 : Int32) (x2 : Int32) {σ : Sg} (hT : sg_T σ) (h0 : is_A σ a0 0) {r : (Int32 × Sg)} (hf : f_X0_movedFrom N a0 x1 x2 σ = some r) : Ct yX0_movedFrom cX0_movedFrom 4 (some .int) 3 71 0 0 [vr (some a0), vi x1, vi x2] σ (fun r_ τ_ => (r_ = some (vi r.1)) ∧ τ_ = r.2 ∧ sg_T τ_ ∧ sg_E σ τ_) := by
  refine Ct.of (by decide +kernel) (Nat.le_of_ble_eq_true rfl) (fun Γ C1 => ?_)
  have C0 := C1.1
  have hE : sg_E σ σ := sg_E.rf
  unfold f_X0_movedFrom at hf
  show J_ Γ 0 [(0, vr (some a0)), (1, vi (x1)), (2, vi (x2))] [] σ 0 0
  refine J_aload_n (q := 1) C0 0 rfl rfl dX0_movedFrom_0 rfl trivial ?_
  refine J_getI (q := 4) C0 fl_X0_9_0 rfl (h0) rfl dX0_movedFrom_1 rfl ?_
  refine J_istore_n (q := 5) (lv' := [(3, vi (sg_I σ a0 0)), (0, vr (some a0)), (1, vi (x1)), (2, vi (x2))]) C0 rfl (G_nl C1 (by decide)) dX0_movedFrom_4 rfl rfl ?_
  refine J_aload_n (q := 6) C0 1 rfl rfl dX0_movedFrom_5 rfl trivial ?_
  refine J_getR (q := 9) C0 fl_X0_27_0 rfl (h0) rfl dX0_movedFrom_6 rfl ?_
  refine J_ifnull (t := 65) (q := 12) C0 dX0_movedFrom_9 (by decide) rfl (fun hn2 => ?_) (fun b1 hn2 => ?_)
  · rw [hn2] at hf
    refine J_sub (lv' := [(0, vr (some a0)), (1, vi (x1)), (3, vi (sg_I σ a0 0))]) [1, 2, 0] rfl ?_
    exact t_X0_movedFrom_B65 C1    (x1) (sg_I σ a0 0) σ (hT) (hE) (h0)  hf
  · rw [hn2] at hf
    refine J_aload_n (q := 13) C0 1 rfl rfl dX0_movedFrom_12 rfl trivial ?_
    refine J_getR (q := 16) C0 fl_X0_34_0 rfl (h0) rfl dX0_movedFrom_13 rfl ?_
    refine J_iconst (q := 17) (v := 1) C0 dX0_movedFrom_16 rfl rfl ?_
    refine J_iload_n (q := 18) C0 2 rfl rfl dX0_movedFrom_17 rfl ?_
    refine K_some hf (fun b6 hb6 hf => ?_)
    have ab6 : is_A σ b6 12 := ((sg_T.op hT (j := 5) (h0) rfl)) b6 hb6
    refine K_chk hf (fun c7 hf => ?_)
    refine J_iast (q := 19) C0 hb6 (ab6) c7 dX0_movedFrom_18 rfl ?_
    refine J_aload_n (q := 20) C0 1 rfl rfl dX0_movedFrom_19 rfl trivial ?_
    refine J_getR (q := 23) C0 fl_X0_34_0 rfl ((h0).putI) rfl dX0_movedFrom_20 rfl ?_
    refine J_iconst (q := 24) (v := 3) C0 dX0_movedFrom_23 rfl rfl ?_
    refine J_aload_n (q := 25) C0 1 rfl rfl dX0_movedFrom_24 rfl trivial ?_
    refine J_getR (q := 28) C0 fl_X0_23_0 rfl ((h0).putI) rfl dX0_movedFrom_25 rfl ?_
    refine J_iload_n (q := 29) C0 2 rfl rfl dX0_movedFrom_28 rfl ?_
    refine K_some hf (fun b8 hb8 hf => ?_)
    have ab8 : is_A (put_I σ b6 (1 : Int32).toNatClampNeg (x1)) b8 7 := ((sg_T.op (hT).putI (j := 2) ((h0).putI) rfl)) b8 hb8
    refine K_some hf (fun p9 hp9 hf => ?_)
    refine J_callV (q := 32) (ci := 7) (as := [vi (x1)]) (rest := [vi (3), vr (sg_R (put_I σ b6 (1 : Int32).toNatClampNeg (x1)) a0 5)]) C0 hb8 (ab8) (t_X8_shownAt b8 (x1) ((hT).putI) (ab8)  hp9) ml_X8_shownAt lk_X0_61 im_X8_shownAt se_X8_shownAt rfl (by decide) dX0_movedFrom_29 rfl rfl rfl (by simp [ac_]) C1.room (by decide) (by decide) (by decide) (by decide) (fun r_ τ_ hQ => ?_)
    obtain ⟨rfl, ht_⟩ := hQ; have ht_ := ht_.symm; subst ht_
    show J_ Γ 32 [(3, vi (sg_I σ a0 0)), (0, vr (some a0)), (1, vi (x1)), (2, vi (x2))] [vi (p9), vi (3), vr (sg_R (put_I σ b6 (1 : Int32).toNatClampNeg (x1)) a0 5)] (put_I σ b6 (1 : Int32).toNatClampNeg (x1)) 0 0
    refine K_some hf (fun b10 hb10 hf => ?_)
    have ab10 : is_A (put_I σ b6 (1 : Int32).toNatClampNeg (x1)) b10 12 := ((sg_T.op (hT).putI (j := 5) ((h0).putI) rfl)) b10 hb10
    refine K_chk hf (fun c11 hf => ?_)
    refine J_iast (q := 33) C0 hb10 (ab10) c11 dX0_movedFrom_32 rfl ?_
    refine J_aload_n (q := 34) C0 1 rfl rfl dX0_movedFrom_33 rfl trivial ?_
    refine J_getR (q := 37) C0 fl_X0_34_0 rfl (((h0).putI).putI) rfl dX0_movedFrom_34 rfl ?_
    refine J_iconst (q := 38) (v := 4) C0 dX0_movedFrom_37 rfl rfl ?_
    refine J_iload_n (q := 39) C0 3 rfl rfl dX0_movedFrom_38 rfl ?_
    refine J_bipush (q := 41) (v := 24) C0 dX0_movedFrom_39 rfl rfl ?_
    refine K_some hf (fun p12 hp12 hf => ?_)
    refine J_callSN (q := 44) (as := [vi (x2), vi (24)]) (rest := [vi (4), vr (sg_R (put_I (put_I σ b6 (1 : Int32).toNatClampNeg (x1)) b10 (3 : Int32).toNatClampNeg (p9)) a0 5)]) C0 (t_X11_round (x2) (24)  hp12) ml_X11_round lk_X0_65 sm_X11_round dX0_movedFrom_41 rfl rfl rfl (by simp [ac_]) C1.room (by decide) (by decide) (by decide) (by decide) (fun r_ τ_ hQ => ?_)
    obtain ⟨rfl, ht_⟩ := hQ; have ht_ := ht_.symm; subst ht_
    show J_ Γ 44 [(3, vi (sg_I σ a0 0)), (0, vr (some a0)), (1, vi (x1)), (2, vi (x2))] [vi (p12), vi (4), vr (sg_R (put_I (put_I σ b6 (1 : Int32).toNatClampNeg (x1)) b10 (3 : Int32).toNatClampNeg (p9)) a0 5)] (put_I (put_I σ b6 (1 : Int32).toNatClampNeg (x1)) b10 (3 : Int32).toNatClampNeg (p9)) 0 0
    refine K_some hf (fun b13 hb13 hf => ?_)
    have ab13 : is_A (put_I (put_I σ b6 (1 : Int32).toNatClampNeg (x1)) b10 (3 : Int32).toNatClampNeg (p9)) b13 12 := ((sg_T.op ((hT).putI).putI (j := 5) (((h0).putI).putI) rfl)) b13 hb13
    refine K_chk hf (fun c14 hf => ?_)
    refine J_iast (q := 45) C0 hb13 (ab13) c14 dX0_movedFrom_44 rfl ?_
    refine J_aload_n (q := 46) C0 1 rfl rfl dX0_movedFrom_45 rfl trivial ?_
    refine J_getR (q := 49) C0 fl_X0_27_0 rfl ((((h0).putI).putI).putI) rfl dX0_movedFrom_46 rfl ?_
    refine J_aload_n (q := 50) C0 1 rfl rfl dX0_movedFrom_49 rfl trivial ?_
    refine J_getR (q := 53) C0 fl_X0_34_0 rfl ((((h0).putI).putI).putI) rfl dX0_movedFrom_50 rfl ?_
    refine K_some hf (fun b15 hb15 hf => ?_)
    have ab15 : is_A (put_I (put_I (put_I σ b6 (1 : Int32).toNatClampNeg (x1)) b10 (3 : Int32).toNatClampNeg (p9)) b13 (4 : Int32).toNatClampNeg (p12)) b15 2 := ((sg_T.op (((hT).putI).putI).putI (j := 3) ((((h0).putI).putI).putI) rfl)) b15 hb15
    refine K_some hf (fun p16 hp16 hf => ?_)
    refine J_callV (q := 56) (ci := 2) (as := [vr (sg_R (put_I (put_I (put_I σ b6 (1 : Int32).toNatClampNeg (x1)) b10 (3 : Int32).toNatClampNeg (p9)) b13 (4 : Int32).toNatClampNeg (p12)) a0 5)]) (rest := []) C0 hb15 (ab15) (t_X2_worth N b15 (sg_R (put_I (put_I (put_I σ b6 (1 : Int32).toNatClampNeg (x1)) b10 (3 : Int32).toNatClampNeg (p9)) b13 (4 : Int32).toNatClampNeg (p12)) a0 5) ((((hT).putI).putI).putI) (ab15) ((sg_T.op (((hT).putI).putI).putI (j := 5) ((((h0).putI).putI).putI) rfl)) hp16) ml_X2_worth lk_X0_69 im_X2_worth se_X2_worth rfl (by decide) dX0_movedFrom_53 rfl rfl rfl (by simp [ac_]) C1.room (by decide) (by decide) (by decide) (by decide) (fun r_ τ_ hQ => ?_)
    obtain ⟨rfl, rfl, Tp16, Ep16⟩ := hQ
    show J_ Γ 56 [(3, vi (sg_I σ a0 0)), (0, vr (some a0)), (1, vi (x1)), (2, vi (x2))] [vi (p16.1)] p16.2 0 0
    refine J_i2l (q := 57) C0 dX0_movedFrom_56 rfl ?_
    refine J_bipush (q := 59) (v := (-15)) C0 dX0_movedFrom_57 rfl rfl ?_
    refine J_bipush (q := 61) (v := 15) C0 dX0_movedFrom_59 rfl rfl ?_
    refine K_some hf (fun p17 hp17 hf => ?_)
    refine J_callSN (q := 64) (as := [vl ((p16.1).toInt64), vi ((-15)), vi (15)]) (rest := []) C0 (t_X11_within ((p16.1).toInt64) ((-15)) (15)  hp17) ml_X11_within lk_X0_75 sm_X11_within dX0_movedFrom_61 rfl rfl rfl (by simp [ac_]) C1.room (by decide) (by decide) (by decide) (by decide) (fun r_ τ_ hQ => ?_)
    obtain ⟨rfl, ht_⟩ := hQ; have ht_ := ht_.symm; subst ht_
    show J_ Γ 64 [(3, vi (sg_I σ a0 0)), (0, vr (some a0)), (1, vi (x1)), (2, vi (x2))] [vi (p17)] p16.2 0 0
    refine J_istore_n (q := 65) (lv' := [(3, vi (p17)), (0, vr (some a0)), (1, vi (x1)), (2, vi (x2))]) C0 rfl (G_nl C1 (by decide)) dX0_movedFrom_64 rfl rfl ?_
    refine J_sub (lv' := [(0, vr (some a0)), (1, vi (x1)), (3, vi (p17))]) [1, 2, 0] rfl ?_
    exact t_X0_movedFrom_B65 C1    (x1) (p17) (p16.2) (Tp16) (((((hE).putI).putI).putI).tr Ep16) ((Ep16.at (((h0).putI).putI).putI))  hf
def f_J7_fill_53178_L5 (N : Nat) : Nat → Option Nat → Int32 → Int32 → Int32 → Sg → Option Sg
  | 0, _, _, _, _, _ => none
  | n + 1, v0, v1, v2, v3, σ =>
  if (v2) < (v3) then
  (Option.bind (v0) fun b3 =>
  if (v2) < 0 ∨ sg_L σ b3 ≤ (v2).toNatClampNeg then none else
  f_J7_fill_53178_L5 N n (v0) (v1) (v2 + 1) (v3) (put_I σ b3 (v2).toNatClampNeg (v1)))
  else
  (some (σ))
def f_J7_fill_53178 (N : Nat) (e0 : Option Nat) (x1 : Int32) (σ : Sg) : Option Sg :=
  Option.bind (e0) fun b1 =>
  f_J7_fill_53178_L5 N N (e0) (x1) (0) (Int32.ofNat (sg_L σ b1)) σ
set_option maxHeartbeats 4000000 in
set_option maxRecDepth 100000 in
theorem t_J7_fill_53178_L5 {N : Nat} {Γ : Gm} {σ0 : Sg} {r : Sg} (C1 : CM Γ cJ7_fill_53178 RJ7 4 none 0 0 0 0 (fun r_ τ_ => (r_ = none) ∧ τ_ = r ∧ sg_T τ_ ∧ sg_E σ0 τ_)) : ∀ (n : Nat) (v0 : Option Nat) (v1 : Int32) (v2 : Int32) (v3 : Int32) (σ : Sg), sg_T σ → sg_E σ0 σ → is_O σ v0 12 → f_J7_fill_53178_L5 N  n v0 v1 v2 v3 σ = some r → J_ Γ 5 [(0, vr (v0)), (1, vi (v1)), (2, vi (v2)), (3, vi (v3))] [] σ 0 0 := by
  have C0 := C1.1
  intro n
  induction n with
  | zero => intro v0 v1 v2 v3 σ hT hE g_v0 hf; unfold f_J7_fill_53178_L5 at hf; cases hf
  | succ n ih =>
    intro v0 v1 v2 v3 σ hT hE g_v0 hf
    rw [f_J7_fill_53178_L5] at hf
    refine J_iload_n (q := 6) C0 2 rfl rfl dJ7_fill_53178_5 rfl ?_
    refine J_iload_n (q := 7) C0 3 rfl rfl dJ7_fill_53178_6 rfl ?_
    refine J_icmp_ge (t := 20) (q := 10) C0 dJ7_fill_53178_7 (by decide) rfl hf (fun c2 hf => ?_) (fun c2 hf => ?_)
    · obtain rfl := Option.some.inj hf; exact J_vret C1 dJ7_fill_53178_20 rfl (Nat.zero_le _) (Nat.zero_le _) ⟨rfl, rfl, hT, hE⟩
    · refine J_aload_n (q := 11) C0 0 rfl rfl dJ7_fill_53178_10 rfl trivial ?_
      refine J_iload_n (q := 12) C0 2 rfl rfl dJ7_fill_53178_11 rfl ?_
      refine J_iload_n (q := 13) C0 1 rfl rfl dJ7_fill_53178_12 rfl ?_
      refine K_some hf (fun b3 hb3 hf => ?_)
      have ab3 : is_A σ b3 12 := (g_v0) b3 hb3
      refine K_chk hf (fun c4 hf => ?_)
      refine J_iast (q := 14) C0 hb3 (ab3) c4 dJ7_fill_53178_13 rfl ?_
      refine J_iinc (q := 17) (v := v2 + 1) (lv' := [(2, vi (v2 + 1)), (0, vr (v0)), (1, vi (v1)), (3, vi (v3))]) C0 2 rfl rfl (G_nl C1 (by decide)) dJ7_fill_53178_14 rfl rfl ?_
      refine J_goto (q := 5) C0 dJ7_fill_53178_17 (by decide) ?_
      refine J_sub (lv' := [(0, vr (v0)), (1, vi (v1)), (2, vi (v2 + 1)), (3, vi (v3))]) [1, 2, 0, 3] rfl ?_
      exact ih (v0) (v1) (v2 + 1) (v3) (put_I σ b3 (v2).toNatClampNeg (v1)) ((hT).putI) ((hE).putI) ((by rw [hb3]; exact is_O.some ((ab3).putI))) hf
set_option maxHeartbeats 4000000 in
set_option maxRecDepth 100000 in
theorem t_J7_fill_53178 (N : Nat) (e0 : Option Nat) (x1 : Int32) {σ : Sg} (hT : sg_T σ) (g0 : is_O σ e0 12) {r : Sg} (hf : f_J7_fill_53178 N e0 x1 σ = some r) : Ct yJ7_fill_53178 cJ7_fill_53178 4 none 0 0 0 0 [vr e0, vi x1] σ (fun r_ τ_ => (r_ = none) ∧ τ_ = r ∧ sg_T τ_ ∧ sg_E σ τ_) := by
  refine Ct.of (by decide +kernel) (Nat.le_of_ble_eq_true rfl) (fun Γ C1 => ?_)
  have C0 := C1.1
  have hE : sg_E σ σ := sg_E.rf
  unfold f_J7_fill_53178 at hf
  show J_ Γ 0 [(0, vr (e0)), (1, vi (x1))] [] σ 0 0
  refine J_iconst (q := 1) (v := 0) C0 dJ7_fill_53178_0 rfl rfl ?_
  refine J_istore_n (q := 2) (lv' := [(2, vi (0)), (0, vr (e0)), (1, vi (x1))]) C0 rfl (G_nl C1 (by decide)) dJ7_fill_53178_1 rfl rfl ?_
  refine J_aload_n (q := 3) C0 1 rfl rfl dJ7_fill_53178_2 rfl trivial ?_
  refine K_some hf (fun b1 hb1 hf => ?_)
  have ab1 : is_A σ b1 12 := (g0) b1 hb1
  refine J_alen (q := 4) C0 hb1 (ab1) (by decide) dJ7_fill_53178_3 rfl ?_
  refine J_istore_n (q := 5) (lv' := [(3, vi (Int32.ofNat (sg_L σ b1))), (2, vi (0)), (0, vr (e0)), (1, vi (x1))]) C0 rfl (G_nl C1 (by decide)) dJ7_fill_53178_4 rfl rfl ?_
  refine J_sub (lv' := [(0, vr (e0)), (1, vi (x1)), (2, vi (0)), (3, vi (Int32.ofNat (sg_L σ b1)))]) [2, 3, 1, 0] rfl ?_
  exact t_J7_fill_53178_L5 C1    N (e0) (x1) (0) (Int32.ofNat (sg_L σ b1)) σ (hT) (hE) ((by rw [hb1]; exact is_O.some (ab1))) hf
def f_X0_trace_B64 (N : Nat) (a0 : Nat) (k23 : Int32 → Sg → Option Sg) (v1 : Int32) (s0 : Int32) (s1 : Int32) (σ : Sg) : Option Sg :=
  if ((s1) + (s0)) < (0) then
  (some (σ))
  else
  (Option.bind (sg_R σ a0 7) fun b8 =>
  if ((s1) + (s0)) < (Int32.ofNat (sg_L σ b8)) then
  (if ((s1) + (s0)) < 0 ∨ sg_L σ b8 ≤ ((s1) + (s0)).toNatClampNeg then none else
  if (sg_I σ b8 ((s1) + (s0)).toNatClampNeg) = ((-1)) then
  (if ((s1) + (s0)) < 0 ∨ sg_L σ b8 ≤ ((s1) + (s0)).toNatClampNeg then none else
  Option.bind (sg_R (put_I σ b8 ((s1) + (s0)).toNatClampNeg (sg_I σ a0 8)) a0 6) fun b13 =>
  if (sg_I (put_I σ b8 ((s1) + (s0)).toNatClampNeg (sg_I σ a0 8)) a0 8) < 0 ∨ sg_L (put_I σ b8 ((s1) + (s0)).toNatClampNeg (sg_I σ a0 8)) b13 ≤ (sg_I (put_I σ b8 ((s1) + (s0)).toNatClampNeg (sg_I σ a0 8)) a0 8).toNatClampNeg then none else
  Option.bind (f_X0_movedFrom N a0 (v1) ((sg_I (put_I (put_I σ b8 ((s1) + (s0)).toNatClampNeg (sg_I σ a0 8)) b13 (sg_I (put_I σ b8 ((s1) + (s0)).toNatClampNeg (sg_I σ a0 8)) a0 8).toNatClampNeg (v1)) a0 4) + (sg_I (put_I (put_I σ b8 ((s1) + (s0)).toNatClampNeg (sg_I σ a0 8)) b13 (sg_I (put_I σ b8 ((s1) + (s0)).toNatClampNeg (sg_I σ a0 8)) a0 8).toNatClampNeg (v1)) a0 8)) (put_I (put_I σ b8 ((s1) + (s0)).toNatClampNeg (sg_I σ a0 8)) b13 (sg_I (put_I σ b8 ((s1) + (s0)).toNatClampNeg (sg_I σ a0 8)) a0 8).toNatClampNeg (v1))) fun p15 =>
  k23 (p15.1) (put_I p15.2 a0 8 ((sg_I p15.2 a0 8) + (1))))
  else
  (if ((s1) + (s0)) < 0 ∨ sg_L σ b8 ≤ ((s1) + (s0)).toNatClampNeg then none else
  some (put_I σ a0 9 (sg_I σ b8 ((s1) + (s0)).toNatClampNeg))))
  else
  (some (σ)))
def f_X0_trace_L23 (N : Nat) (a0 : Nat) : Nat → Int32 → Sg → Option Sg
  | 0, _, _ => none
  | n + 1, v1, σ =>
  Option.bind (sg_R σ a0 6) fun b2 =>
  if (sg_I σ a0 8) < (Int32.ofNat (sg_L σ b2)) then
  (match sg_R σ a0 3 with
  | none => (f_X0_trace_B64 N a0 (f_X0_trace_L23 N a0 n) (v1) (0) ((v1) * (24)) σ)
  | some b4 => (Option.bind (f_X11_round ((sg_I σ a0 4) + (sg_I σ a0 8)) (24) ) fun p6 =>
  f_X0_trace_B64 N a0 (f_X0_trace_L23 N a0 n) (v1) (p6) ((v1) * (24)) σ))
  else
  (some (σ))
def f_X0_trace (N : Nat) (a0 : Nat) (σ : Sg) : Option Sg :=
  Option.bind (f_J7_fill_53178 N (sg_R σ a0 7) ((-1)) σ) fun p1 =>
  f_X0_trace_L23 N a0 N (sg_I (put_I p1 a0 9 (0)) a0 1) (put_I (put_I p1 a0 9 (0)) a0 8 (0))
set_option maxHeartbeats 4000000 in
set_option maxRecDepth 100000 in
theorem t_X0_trace_B64 {N : Nat} {a0 : Nat} {Γ : Gm} {σ0 : Sg} {r : Sg} (C1 : CM Γ cX0_trace RX0 3 none 4 94 0 0 (fun r_ τ_ => (r_ = none) ∧ τ_ = r ∧ sg_T τ_ ∧ sg_E σ0 τ_)) (k23 : Int32 → Sg → Option Sg) (hk23 : ∀ (v1 : Int32) (σ : Sg), sg_T σ → sg_E σ0 σ → is_A σ a0 0 → k23 v1 σ = some r → J_ Γ 23 [(0, vr (some a0)), (1, vi v1)] [] σ 0 0) (v1 : Int32) (s0 : Int32) (s1 : Int32) (σ : Sg) (hT : sg_T σ) (hE : sg_E σ0 σ) (h0 : is_A σ a0 0) (hf : f_X0_trace_B64 N a0 k23  v1 s0 s1 σ = some r) : J_ Γ 64 [(0, vr (some a0)), (1, vi (v1))] [vi (s0), vi (s1)] σ 0 0 := by
  have C0 := C1.1
  unfold f_X0_trace_B64 at hf
  refine J_iadd (q := 65) C0 dX0_trace_64 rfl ?_
  refine J_istore_n (q := 66) (lv' := [(2, vi ((s1) + (s0))), (0, vr (some a0)), (1, vi (v1))]) C0 rfl (G_nl C1 (by decide)) dX0_trace_65 rfl rfl ?_
  refine J_iload_n (q := 67) C0 0 rfl rfl dX0_trace_66 rfl ?_
  refine J_if_lt (t := 79) (q := 70) C0 dX0_trace_67 (by decide) rfl hf (fun c7 hf => ?_) (fun c7 hf => ?_)
  · obtain rfl := Option.some.inj hf; exact J_vret C1 dX0_trace_79 rfl (Nat.zero_le _) (Nat.zero_le _) ⟨rfl, rfl, hT, hE⟩
  · refine J_iload_n (q := 71) C0 0 rfl rfl dX0_trace_70 rfl ?_
    refine J_aload_n (q := 72) C0 1 rfl rfl dX0_trace_71 rfl trivial ?_
    refine J_getR (q := 75) C0 fl_X0_41_0 rfl (h0) rfl dX0_trace_72 rfl ?_
    refine K_some hf (fun b8 hb8 hf => ?_)
    have ab8 : is_A σ b8 12 := ((sg_T.op hT (j := 7) (h0) rfl)) b8 hb8
    refine J_alen (q := 76) C0 hb8 (ab8) (by decide) dX0_trace_75 rfl ?_
    refine J_icmp_lt (t := 80) (q := 79) C0 dX0_trace_76 (by decide) rfl hf (fun c9 hf => ?_) (fun c9 hf => ?_)
    · refine J_aload_n (q := 81) C0 1 rfl rfl dX0_trace_80 rfl trivial ?_
      refine J_getR (q := 84) C0 fl_X0_41_0 rfl (h0) rfl dX0_trace_81 rfl ?_
      refine J_iload_n (q := 85) C0 0 rfl rfl dX0_trace_84 rfl ?_
      refine K_chk hf (fun c10 hf => ?_)
      refine J_iald (q := 86) C0 hb8 (ab8) c10 dX0_trace_85 rfl ?_
      refine J_iconst (q := 87) (v := (-1)) C0 dX0_trace_86 rfl rfl ?_
      refine J_icmp_eq (t := 101) (q := 90) C0 dX0_trace_87 (by decide) rfl hf (fun c11 hf => ?_) (fun c11 hf => ?_)
      · refine J_aload_n (q := 102) C0 1 rfl rfl dX0_trace_101 rfl trivial ?_
        refine J_getR (q := 105) C0 fl_X0_41_0 rfl (h0) rfl dX0_trace_102 rfl ?_
        refine J_iload_n (q := 106) C0 0 rfl rfl dX0_trace_105 rfl ?_
        refine J_aload_n (q := 107) C0 1 rfl rfl dX0_trace_106 rfl trivial ?_
        refine J_getI (q := 110) C0 fl_X0_44_0 rfl (h0) rfl dX0_trace_107 rfl ?_
        refine K_chk hf (fun c12 hf => ?_)
        refine J_iast (q := 111) C0 hb8 (ab8) c12 dX0_trace_110 rfl ?_
        refine J_aload_n (q := 112) C0 1 rfl rfl dX0_trace_111 rfl trivial ?_
        refine J_getR (q := 115) C0 fl_X0_38_0 rfl ((h0).putI) rfl dX0_trace_112 rfl ?_
        refine J_aload_n (q := 116) C0 1 rfl rfl dX0_trace_115 rfl trivial ?_
        refine J_getI (q := 119) C0 fl_X0_44_0 rfl ((h0).putI) rfl dX0_trace_116 rfl ?_
        refine J_iload_n (q := 120) C0 2 rfl rfl dX0_trace_119 rfl ?_
        refine K_some hf (fun b13 hb13 hf => ?_)
        have ab13 : is_A (put_I σ b8 ((s1) + (s0)).toNatClampNeg (sg_I σ a0 8)) b13 12 := ((sg_T.op (hT).putI (j := 6) ((h0).putI) rfl)) b13 hb13
        refine K_chk hf (fun c14 hf => ?_)
        refine J_iast (q := 121) C0 hb13 (ab13) c14 dX0_trace_120 rfl ?_
        refine J_aload_n (q := 122) C0 1 rfl rfl dX0_trace_121 rfl trivial ?_
        refine J_iload_n (q := 123) C0 2 rfl rfl dX0_trace_122 rfl ?_
        refine J_aload_n (q := 124) C0 1 rfl rfl dX0_trace_123 rfl trivial ?_
        refine J_getI (q := 127) C0 fl_X0_31_0 rfl (((h0).putI).putI) rfl dX0_trace_124 rfl ?_
        refine J_aload_n (q := 128) C0 1 rfl rfl dX0_trace_127 rfl trivial ?_
        refine J_getI (q := 131) C0 fl_X0_44_0 rfl (((h0).putI).putI) rfl dX0_trace_128 rfl ?_
        refine J_iadd (q := 132) C0 dX0_trace_131 rfl ?_
        refine K_some hf (fun p15 hp15 hf => ?_)
        refine J_callV (q := 135) (ci := 0) (as := [vi (v1), vi ((sg_I (put_I (put_I σ b8 ((s1) + (s0)).toNatClampNeg (sg_I σ a0 8)) b13 (sg_I (put_I σ b8 ((s1) + (s0)).toNatClampNeg (sg_I σ a0 8)) a0 8).toNatClampNeg (v1)) a0 4) + (sg_I (put_I (put_I σ b8 ((s1) + (s0)).toNatClampNeg (sg_I σ a0 8)) b13 (sg_I (put_I σ b8 ((s1) + (s0)).toNatClampNeg (sg_I σ a0 8)) a0 8).toNatClampNeg (v1)) a0 8))]) (rest := []) C0 rfl (((h0).putI).putI) (t_X0_movedFrom N a0 (v1) ((sg_I (put_I (put_I σ b8 ((s1) + (s0)).toNatClampNeg (sg_I σ a0 8)) b13 (sg_I (put_I σ b8 ((s1) + (s0)).toNatClampNeg (sg_I σ a0 8)) a0 8).toNatClampNeg (v1)) a0 4) + (sg_I (put_I (put_I σ b8 ((s1) + (s0)).toNatClampNeg (sg_I σ a0 8)) b13 (sg_I (put_I σ b8 ((s1) + (s0)).toNatClampNeg (sg_I σ a0 8)) a0 8).toNatClampNeg (v1)) a0 8)) (((hT).putI).putI) (((h0).putI).putI)  hp15) ml_X0_movedFrom lk_X0_85 im_X0_movedFrom se_X0_movedFrom rfl (by decide) dX0_trace_132 rfl rfl rfl (by simp [ac_]) C1.room (by decide) (by decide) (by decide) (by decide) (fun r_ τ_ hQ => ?_)
        obtain ⟨rfl, rfl, Tp15, Ep15⟩ := hQ
        show J_ Γ 135 [(2, vi ((s1) + (s0))), (0, vr (some a0)), (1, vi (v1))] [vi (p15.1)] p15.2 0 0
        refine J_istore_n (q := 136) (lv' := [(1, vi (p15.1)), (2, vi ((s1) + (s0))), (0, vr (some a0))]) C0 rfl (G_nl C1 (by decide)) dX0_trace_135 rfl rfl ?_
        refine J_aload_n (q := 137) C0 2 rfl rfl dX0_trace_136 rfl trivial ?_
        refine J_dup (q := 138) C0 dX0_trace_137 rfl rfl ?_
        refine J_getI (q := 141) C0 fl_X0_44_0 rfl ((Ep15.at ((h0).putI).putI)) rfl dX0_trace_138 rfl ?_
        refine J_iconst (q := 142) (v := 1) C0 dX0_trace_141 rfl rfl ?_
        refine J_iadd (q := 143) C0 dX0_trace_142 rfl ?_
        refine J_putI (q := 146) C0 fl_X0_44_0 rfl ((Ep15.at ((h0).putI).putI)) rfl dX0_trace_143 rfl ?_
        refine J_goto (q := 23) C0 dX0_trace_146 (by decide) ?_
        refine J_sub (lv' := [(0, vr (some a0)), (1, vi (p15.1))]) [2, 0] rfl ?_
        exact hk23 (p15.1) (put_I p15.2 a0 8 ((sg_I p15.2 a0 8) + (1))) ((Tp15).putI) (((((hE).putI).putI).tr Ep15).putI)  (((Ep15.at ((h0).putI).putI)).putI)  hf
      · refine J_aload_n (q := 91) C0 1 rfl rfl dX0_trace_90 rfl trivial ?_
        refine J_aload_n (q := 92) C0 1 rfl rfl dX0_trace_91 rfl trivial ?_
        refine J_getR (q := 95) C0 fl_X0_41_0 rfl (h0) rfl dX0_trace_92 rfl ?_
        refine J_iload_n (q := 96) C0 0 rfl rfl dX0_trace_95 rfl ?_
        refine K_chk hf (fun c16 hf => ?_)
        refine J_iald (q := 97) C0 hb8 (ab8) c16 dX0_trace_96 rfl ?_
        refine J_putI (q := 100) C0 fl_X0_47_0 rfl (h0) rfl dX0_trace_97 rfl ?_
        obtain rfl := Option.some.inj hf; exact J_vret C1 dX0_trace_100 rfl (Nat.zero_le _) (Nat.zero_le _) ⟨rfl, rfl, (hT).putI, (hE).putI⟩
    · obtain rfl := Option.some.inj hf; exact J_vret C1 dX0_trace_79 rfl (Nat.zero_le _) (Nat.zero_le _) ⟨rfl, rfl, hT, hE⟩
set_option maxHeartbeats 4000000 in
set_option maxRecDepth 100000 in
theorem t_X0_trace_L23 {N : Nat} {a0 : Nat} {Γ : Gm} {σ0 : Sg} {r : Sg} (C1 : CM Γ cX0_trace RX0 3 none 4 94 0 0 (fun r_ τ_ => (r_ = none) ∧ τ_ = r ∧ sg_T τ_ ∧ sg_E σ0 τ_)) : ∀ (n : Nat) (v1 : Int32) (σ : Sg), sg_T σ → sg_E σ0 σ → is_A σ a0 0 → f_X0_trace_L23 N a0  n v1 σ = some r → J_ Γ 23 [(0, vr (some a0)), (1, vi (v1))] [] σ 0 0 := by
  have C0 := C1.1
  intro n
  induction n with
  | zero => intro v1 σ hT hE h0  hf; unfold f_X0_trace_L23 at hf; cases hf
  | succ n ih =>
    intro v1 σ hT hE h0  hf
    rw [f_X0_trace_L23] at hf
    refine J_aload_n (q := 24) C0 0 rfl rfl dX0_trace_23 rfl trivial ?_
    refine J_getI (q := 27) C0 fl_X0_44_0 rfl (h0) rfl dX0_trace_24 rfl ?_
    refine J_aload_n (q := 28) C0 0 rfl rfl dX0_trace_27 rfl trivial ?_
    refine J_getR (q := 31) C0 fl_X0_38_0 rfl (h0) rfl dX0_trace_28 rfl ?_
    refine K_some hf (fun b2 hb2 hf => ?_)
    have ab2 : is_A σ b2 12 := ((sg_T.op hT (j := 6) (h0) rfl)) b2 hb2
    refine J_alen (q := 32) C0 hb2 (ab2) (by decide) dX0_trace_31 rfl ?_
    refine J_icmp_ge (t := 149) (q := 35) C0 dX0_trace_32 (by decide) rfl hf (fun c3 hf => ?_) (fun c3 hf => ?_)
    · obtain rfl := Option.some.inj hf; exact J_vret C1 dX0_trace_149 rfl (Nat.zero_le _) (Nat.zero_le _) ⟨rfl, rfl, hT, hE⟩
    · refine J_iload_n (q := 36) C0 1 rfl rfl dX0_trace_35 rfl ?_
      refine J_bipush (q := 38) (v := 24) C0 dX0_trace_36 rfl rfl ?_
      refine J_imul (q := 39) C0 dX0_trace_38 rfl ?_
      refine J_aload_n (q := 40) C0 0 rfl rfl dX0_trace_39 rfl trivial ?_
      refine J_getR (q := 43) C0 fl_X0_27_0 rfl (h0) rfl dX0_trace_40 rfl ?_
      refine J_ifnonnull (t := 50) (q := 46) C0 dX0_trace_43 (by decide) rfl (fun b4 hn5 => ?_) (fun hn5 => ?_)
      · rw [hn5] at hf
        refine J_aload_n (q := 51) C0 0 rfl rfl dX0_trace_50 rfl trivial ?_
        refine J_getI (q := 54) C0 fl_X0_31_0 rfl (h0) rfl dX0_trace_51 rfl ?_
        refine J_aload_n (q := 55) C0 0 rfl rfl dX0_trace_54 rfl trivial ?_
        refine J_getI (q := 58) C0 fl_X0_44_0 rfl (h0) rfl dX0_trace_55 rfl ?_
        refine J_iadd (q := 59) C0 dX0_trace_58 rfl ?_
        refine J_bipush (q := 61) (v := 24) C0 dX0_trace_59 rfl rfl ?_
        refine K_some hf (fun p6 hp6 hf => ?_)
        refine J_callSN (q := 64) (as := [vi ((sg_I σ a0 4) + (sg_I σ a0 8)), vi (24)]) (rest := [vi ((v1) * (24))]) C0 (t_X11_round ((sg_I σ a0 4) + (sg_I σ a0 8)) (24)  hp6) ml_X11_round lk_X0_65 sm_X11_round dX0_trace_61 rfl rfl rfl (by simp [ac_]) C1.room (by decide) (by decide) (by decide) (by decide) (fun r_ τ_ hQ => ?_)
        obtain ⟨rfl, ht_⟩ := hQ; have ht_ := ht_.symm; subst ht_
        show J_ Γ 64 [(0, vr (some a0)), (1, vi (v1))] [vi (p6), vi ((v1) * (24))] σ 0 0
        exact t_X0_trace_B64 C1  (f_X0_trace_L23 N a0 n)  ih  (v1) (p6) ((v1) * (24)) σ (hT) (hE) (h0)  hf
      · rw [hn5] at hf
        refine J_iconst (q := 47) (v := 0) C0 dX0_trace_46 rfl rfl ?_
        refine J_goto (q := 64) C0 dX0_trace_47 (by decide) ?_
        exact t_X0_trace_B64 C1  (f_X0_trace_L23 N a0 n)  ih  (v1) (0) ((v1) * (24)) σ (hT) (hE) (h0)  hf
set_option maxHeartbeats 4000000 in
set_option maxRecDepth 100000 in
theorem t_X0_trace (N : Nat) (a0 : Nat) {σ : Sg} (hT : sg_T σ) (h0 : is_A σ a0 0) {r : Sg} (hf : f_X0_trace N a0  σ = some r) : Ct yX0_trace cX0_trace 3 none 4 94 0 0 [vr (some a0)] σ (fun r_ τ_ => (r_ = none) ∧ τ_ = r ∧ sg_T τ_ ∧ sg_E σ τ_) := by
  refine Ct.of (by decide +kernel) (Nat.le_of_ble_eq_true rfl) (fun Γ C1 => ?_)
  have C0 := C1.1
  have hE : sg_E σ σ := sg_E.rf
  unfold f_X0_trace at hf
  show J_ Γ 0 [(0, vr (some a0))] [] σ 0 0
  refine J_aload_n (q := 1) C0 0 rfl rfl dX0_trace_0 rfl trivial ?_
  refine J_getR (q := 4) C0 fl_X0_41_0 rfl (h0) rfl dX0_trace_1 rfl ?_
  refine J_iconst (q := 5) (v := (-1)) C0 dX0_trace_4 rfl rfl ?_
  refine K_some hf (fun p1 hp1 hf => ?_)
  refine J_callS (q := 8) (as := [vr (sg_R σ a0 7), vi ((-1))]) (rest := []) C0 (t_J7_fill_53178 N (sg_R σ a0 7) ((-1)) (hT) ((sg_T.op hT (j := 7) (h0) rfl)) hp1) ml_J7_fill_53178 lk_X0_79 sm_J7_fill_53178 dX0_trace_5 rfl rfl rfl (by simp [ac_]) C1.room (by decide) (by decide) (by decide) (by decide) (fun r_ τ_ hQ => ?_)
  obtain ⟨rfl, ht_, Tp1, Ep1⟩ := hQ; have ht_ := ht_.symm; subst ht_
  show J_ Γ 8 [(0, vr (some a0))] [] p1 0 0
  refine J_aload_n (q := 9) C0 0 rfl rfl dX0_trace_8 rfl trivial ?_
  refine J_iconst (q := 10) (v := 0) C0 dX0_trace_9 rfl rfl ?_
  refine J_putI (q := 13) C0 fl_X0_47_0 rfl ((Ep1.at h0)) rfl dX0_trace_10 rfl ?_
  refine J_aload_n (q := 14) C0 0 rfl rfl dX0_trace_13 rfl trivial ?_
  refine J_getI (q := 17) C0 fl_X0_15_0 rfl (((Ep1.at h0)).putI) rfl dX0_trace_14 rfl ?_
  refine J_istore_n (q := 18) (lv' := [(1, vi (sg_I (put_I p1 a0 9 (0)) a0 1)), (0, vr (some a0))]) C0 rfl (G_nl C1 (by decide)) dX0_trace_17 rfl rfl ?_
  refine J_aload_n (q := 19) C0 1 rfl rfl dX0_trace_18 rfl trivial ?_
  refine J_iconst (q := 20) (v := 0) C0 dX0_trace_19 rfl rfl ?_
  refine J_putI (q := 23) C0 fl_X0_44_0 rfl (((Ep1.at h0)).putI) rfl dX0_trace_20 rfl ?_
  refine J_sub (lv' := [(0, vr (some a0)), (1, vi (sg_I (put_I p1 a0 9 (0)) a0 1))]) [1, 0] rfl ?_
  exact t_X0_trace_L23 C1    N (sg_I (put_I p1 a0 9 (0)) a0 1) (put_I (put_I p1 a0 9 (0)) a0 8 (0)) (((Tp1).putI).putI) ((((hE).tr Ep1).putI).putI) ((((Ep1.at h0)).putI).putI)  hf
def f_X0_placeAfter_B58 (a0 : Nat) (σ : Sg) : Option Int32 :=
  some (sg_I σ a0 1)
def f_X0_placeAfter_B35 (a0 : Nat) (s0 : Int32) (σ : Sg) : Option Int32 :=
  if (s0) < (0) then
  (f_X0_placeAfter_B58 a0  σ)
  else
  (Option.bind (sg_R σ a0 6) fun b4 =>
  if (s0) < (Int32.ofNat (sg_L σ b4)) then
  (if (s0) < 0 ∨ sg_L σ b4 ≤ (s0).toNatClampNeg then none else
  some (sg_I σ b4 (s0).toNatClampNeg))
  else
  (f_X0_placeAfter_B58 a0  σ))
def f_X0_placeAfter (a0 : Nat) (x1 : Int32) (σ : Sg) : Option Int32 :=
  if (x1) < (sg_I σ a0 8) then
  (f_X0_placeAfter_B35 a0 (x1) σ)
  else
  (Option.bind (f_X11_round ((x1) - (sg_I σ a0 9)) ((sg_I σ a0 8) - (sg_I σ a0 9)) ) fun p2 =>
  f_X0_placeAfter_B35 a0 ((sg_I σ a0 9) + (p2)) σ)
set_option maxHeartbeats 4000000 in
set_option maxRecDepth 100000 in
theorem t_X0_placeAfter_B58 {a0 : Nat} {Γ : Gm} {σ : Sg} {r : Int32} (C1 : CM Γ cX0_placeAfter RX0 3 (some .int) 2 43 0 0 (fun r_ τ_ => (r_ = some (vi r)) ∧ τ_ = σ)) (hT : sg_T σ) (h0 : is_A σ a0 0)  (hf : f_X0_placeAfter_B58 a0   σ = some r) : J_ Γ 58 [(0, vr (some a0))] [] σ 0 0 := by
  have C0 := C1.1
  unfold f_X0_placeAfter_B58 at hf
  refine J_aload_n (q := 59) C0 0 rfl rfl dX0_placeAfter_58 rfl trivial ?_
  refine J_getI (q := 62) C0 fl_X0_15_0 rfl (h0) rfl dX0_placeAfter_59 rfl ?_
  obtain rfl := Option.some.inj hf; exact J_iret C1 dX0_placeAfter_62 rfl (Nat.zero_le _) (Nat.zero_le _) ⟨rfl, rfl⟩
set_option maxHeartbeats 4000000 in
set_option maxRecDepth 100000 in
theorem t_X0_placeAfter_B35 {a0 : Nat} {Γ : Gm} {σ : Sg} {r : Int32} (C1 : CM Γ cX0_placeAfter RX0 3 (some .int) 2 43 0 0 (fun r_ τ_ => (r_ = some (vi r)) ∧ τ_ = σ)) (hT : sg_T σ) (h0 : is_A σ a0 0) (s0 : Int32) (hf : f_X0_placeAfter_B35 a0  s0 σ = some r) : J_ Γ 35 [(0, vr (some a0))] [vi (s0)] σ 0 0 := by
  have C0 := C1.1
  unfold f_X0_placeAfter_B35 at hf
  refine J_istore_n (q := 36) (lv' := [(2, vi (s0)), (0, vr (some a0))]) C0 rfl (G_nl C1 (by decide)) dX0_placeAfter_35 rfl rfl ?_
  refine J_iload_n (q := 37) C0 0 rfl rfl dX0_placeAfter_36 rfl ?_
  refine J_if_lt (t := 58) (q := 40) C0 dX0_placeAfter_37 (by decide) rfl hf (fun c3 hf => ?_) (fun c3 hf => ?_)
  · refine J_sub (lv' := [(0, vr (some a0))]) [1] rfl ?_
    exact t_X0_placeAfter_B58 C1 (hT) (h0)     hf
  · refine J_iload_n (q := 41) C0 0 rfl rfl dX0_placeAfter_40 rfl ?_
    refine J_aload_n (q := 42) C0 1 rfl rfl dX0_placeAfter_41 rfl trivial ?_
    refine J_getR (q := 45) C0 fl_X0_38_0 rfl (h0) rfl dX0_placeAfter_42 rfl ?_
    refine K_some hf (fun b4 hb4 hf => ?_)
    have ab4 : is_A σ b4 12 := ((sg_T.op hT (j := 6) (h0) rfl)) b4 hb4
    refine J_alen (q := 46) C0 hb4 (ab4) (by decide) dX0_placeAfter_45 rfl ?_
    refine J_icmp_ge (t := 58) (q := 49) C0 dX0_placeAfter_46 (by decide) rfl hf (fun c5 hf => ?_) (fun c5 hf => ?_)
    · refine J_sub (lv' := [(0, vr (some a0))]) [1] rfl ?_
      exact t_X0_placeAfter_B58 C1 (hT) (h0)     hf
    · refine J_aload_n (q := 50) C0 1 rfl rfl dX0_placeAfter_49 rfl trivial ?_
      refine J_getR (q := 53) C0 fl_X0_38_0 rfl (h0) rfl dX0_placeAfter_50 rfl ?_
      refine J_iload_n (q := 54) C0 0 rfl rfl dX0_placeAfter_53 rfl ?_
      refine K_chk hf (fun c6 hf => ?_)
      refine J_iald (q := 55) C0 hb4 (ab4) c6 dX0_placeAfter_54 rfl ?_
      refine J_goto (q := 62) C0 dX0_placeAfter_55 (by decide) ?_
      obtain rfl := Option.some.inj hf; exact J_iret C1 dX0_placeAfter_62 rfl (Nat.zero_le _) (Nat.zero_le _) ⟨rfl, rfl⟩
set_option maxHeartbeats 4000000 in
set_option maxRecDepth 100000 in
theorem t_X0_placeAfter (a0 : Nat) (x1 : Int32) {σ : Sg} (hT : sg_T σ) (h0 : is_A σ a0 0) {r : Int32} (hf : f_X0_placeAfter a0 x1 σ = some r) : Ct yX0_placeAfter cX0_placeAfter 3 (some .int) 2 43 0 0 [vr (some a0), vi x1] σ (fun r_ τ_ => (r_ = some (vi r)) ∧ τ_ = σ) := by
  refine Ct.of (by decide +kernel) (Nat.le_of_ble_eq_true rfl) (fun Γ C1 => ?_)
  have C0 := C1.1
  unfold f_X0_placeAfter at hf
  show J_ Γ 0 [(0, vr (some a0)), (1, vi (x1))] [] σ 0 0
  refine J_iload_n (q := 1) C0 1 rfl rfl dX0_placeAfter_0 rfl ?_
  refine J_aload_n (q := 2) C0 0 rfl rfl dX0_placeAfter_1 rfl trivial ?_
  refine J_getI (q := 5) C0 fl_X0_44_0 rfl (h0) rfl dX0_placeAfter_2 rfl ?_
  refine J_icmp_ge (t := 12) (q := 8) C0 dX0_placeAfter_5 (by decide) rfl hf (fun c1 hf => ?_) (fun c1 hf => ?_)
  · refine J_aload_n (q := 13) C0 0 rfl rfl dX0_placeAfter_12 rfl trivial ?_
    refine J_getI (q := 16) C0 fl_X0_47_0 rfl (h0) rfl dX0_placeAfter_13 rfl ?_
    refine J_iload_n (q := 17) C0 1 rfl rfl dX0_placeAfter_16 rfl ?_
    refine J_aload_n (q := 18) C0 0 rfl rfl dX0_placeAfter_17 rfl trivial ?_
    refine J_getI (q := 21) C0 fl_X0_47_0 rfl (h0) rfl dX0_placeAfter_18 rfl ?_
    refine J_isub (q := 22) C0 dX0_placeAfter_21 rfl ?_
    refine J_aload_n (q := 23) C0 0 rfl rfl dX0_placeAfter_22 rfl trivial ?_
    refine J_getI (q := 26) C0 fl_X0_44_0 rfl (h0) rfl dX0_placeAfter_23 rfl ?_
    refine J_aload_n (q := 27) C0 0 rfl rfl dX0_placeAfter_26 rfl trivial ?_
    refine J_getI (q := 30) C0 fl_X0_47_0 rfl (h0) rfl dX0_placeAfter_27 rfl ?_
    refine J_isub (q := 31) C0 dX0_placeAfter_30 rfl ?_
    refine K_some hf (fun p2 hp2 hf => ?_)
    refine J_callSN (q := 34) (as := [vi ((x1) - (sg_I σ a0 9)), vi ((sg_I σ a0 8) - (sg_I σ a0 9))]) (rest := [vi (sg_I σ a0 9)]) C0 (t_X11_round ((x1) - (sg_I σ a0 9)) ((sg_I σ a0 8) - (sg_I σ a0 9))  hp2) ml_X11_round lk_X0_65 sm_X11_round dX0_placeAfter_31 rfl rfl rfl (by simp [ac_]) C1.room (by decide) (by decide) (by decide) (by decide) (fun r_ τ_ hQ => ?_)
    obtain ⟨rfl, ht_⟩ := hQ; have ht_ := ht_.symm; subst ht_
    show J_ Γ 34 [(0, vr (some a0)), (1, vi (x1))] [vi (p2), vi (sg_I σ a0 9)] σ 0 0
    refine J_iadd (q := 35) C0 dX0_placeAfter_34 rfl ?_
    refine J_sub (lv' := [(0, vr (some a0))]) [0] rfl ?_
    exact t_X0_placeAfter_B35 C1 (hT) (h0)   ((sg_I σ a0 9) + (p2))  hf
  · refine J_iload_n (q := 9) C0 1 rfl rfl dX0_placeAfter_8 rfl ?_
    refine J_goto (q := 35) C0 dX0_placeAfter_9 (by decide) ?_
    refine J_sub (lv' := [(0, vr (some a0))]) [0] rfl ?_
    exact t_X0_placeAfter_B35 C1 (hT) (h0)   (x1)  hf
def f_X0_shownAfter (a0 : Nat) (x1 : Int32) (σ : Sg) : Option Int32 :=
  Option.bind (f_X0_placeAfter a0 (x1) σ) fun p1 =>
  Option.bind (sg_R σ a0 2) fun b2 =>
  Option.bind (f_X8_shownAt b2 (p1) σ) fun p3 =>
  some (p3)
set_option maxHeartbeats 4000000 in
set_option maxRecDepth 100000 in
theorem t_X0_shownAfter (a0 : Nat) (x1 : Int32) {σ : Sg} (hT : sg_T σ) (h0 : is_A σ a0 0) {r : Int32} (hf : f_X0_shownAfter a0 x1 σ = some r) : Ct yX0_shownAfter cX0_shownAfter 2 (some .int) 3 65 0 0 [vr (some a0), vi x1] σ (fun r_ τ_ => (r_ = some (vi r)) ∧ τ_ = σ) := by
  refine Ct.of (by decide +kernel) (Nat.le_of_ble_eq_true rfl) (fun Γ C1 => ?_)
  have C0 := C1.1
  unfold f_X0_shownAfter at hf
  show J_ Γ 0 [(0, vr (some a0)), (1, vi (x1))] [] σ 0 0
  refine J_aload_n (q := 1) C0 0 rfl rfl dX0_shownAfter_0 rfl trivial ?_
  refine J_getR (q := 4) C0 fl_X0_23_0 rfl (h0) rfl dX0_shownAfter_1 rfl ?_
  refine J_aload_n (q := 5) C0 0 rfl rfl dX0_shownAfter_4 rfl trivial ?_
  refine J_iload_n (q := 6) C0 1 rfl rfl dX0_shownAfter_5 rfl ?_
  refine K_some hf (fun p1 hp1 hf => ?_)
  refine J_callV (q := 9) (ci := 0) (as := [vi (x1)]) (rest := [vr (sg_R σ a0 2)]) C0 rfl (h0) (t_X0_placeAfter a0 (x1) (hT) (h0)  hp1) ml_X0_placeAfter lk_X0_88 im_X0_placeAfter se_X0_placeAfter rfl (by decide) dX0_shownAfter_6 rfl rfl rfl (by simp [ac_]) C1.room (by decide) (by decide) (by decide) (by decide) (fun r_ τ_ hQ => ?_)
  obtain ⟨rfl, ht_⟩ := hQ; have ht_ := ht_.symm; subst ht_
  show J_ Γ 9 [(0, vr (some a0)), (1, vi (x1))] [vi (p1), vr (sg_R σ a0 2)] σ 0 0
  refine K_some hf (fun b2 hb2 hf => ?_)
  have ab2 : is_A σ b2 7 := ((sg_T.op hT (j := 2) (h0) rfl)) b2 hb2
  refine K_some hf (fun p3 hp3 hf => ?_)
  refine J_callV (q := 12) (ci := 7) (as := [vi (p1)]) (rest := []) C0 hb2 (ab2) (t_X8_shownAt b2 (p1) (hT) (ab2)  hp3) ml_X8_shownAt lk_X0_61 im_X8_shownAt se_X8_shownAt rfl (by decide) dX0_shownAfter_9 rfl rfl rfl (by simp [ac_]) C1.room (by decide) (by decide) (by decide) (by decide) (fun r_ τ_ hQ => ?_)
  obtain ⟨rfl, ht_⟩ := hQ; have ht_ := ht_.symm; subst ht_
  show J_ Γ 12 [(0, vr (some a0)), (1, vi (x1))] [vi (p3)] σ 0 0
  obtain rfl := Option.some.inj hf; exact J_iret C1 dX0_shownAfter_12 rfl (Nat.zero_le _) (Nat.zero_le _) ⟨rfl, rfl⟩
def f_X0_isHomeAfter (a0 : Nat) (x1 : Int32) (σ : Sg) : Option Int32 :=
  Option.bind (f_X0_placeAfter a0 (x1) σ) fun p1 =>
  if (p1) = (sg_I σ a0 1) then
  (some (1))
  else
  (some (0))
set_option maxHeartbeats 4000000 in
set_option maxRecDepth 100000 in
theorem t_X0_isHomeAfter (a0 : Nat) (x1 : Int32) {σ : Sg} (hT : sg_T σ) (h0 : is_A σ a0 0) {r : Int32} (hf : f_X0_isHomeAfter a0 x1 σ = some r) : Ct yX0_isHomeAfter cX0_isHomeAfter 2 (some .boolean) 3 65 0 0 [vr (some a0), vi x1] σ (fun r_ τ_ => (r_ = some (vi r) ∧ (r = 0 ∨ r = 1)) ∧ τ_ = σ) := by
  refine Ct.of (by decide +kernel) (Nat.le_of_ble_eq_true rfl) (fun Γ C1 => ?_)
  have C0 := C1.1
  unfold f_X0_isHomeAfter at hf
  show J_ Γ 0 [(0, vr (some a0)), (1, vi (x1))] [] σ 0 0
  refine J_aload_n (q := 1) C0 0 rfl rfl dX0_isHomeAfter_0 rfl trivial ?_
  refine J_iload_n (q := 2) C0 1 rfl rfl dX0_isHomeAfter_1 rfl ?_
  refine K_some hf (fun p1 hp1 hf => ?_)
  refine J_callV (q := 5) (ci := 0) (as := [vi (x1)]) (rest := []) C0 rfl (h0) (t_X0_placeAfter a0 (x1) (hT) (h0)  hp1) ml_X0_placeAfter lk_X0_88 im_X0_placeAfter se_X0_placeAfter rfl (by decide) dX0_isHomeAfter_2 rfl rfl rfl (by simp [ac_]) C1.room (by decide) (by decide) (by decide) (by decide) (fun r_ τ_ hQ => ?_)
  obtain ⟨rfl, ht_⟩ := hQ; have ht_ := ht_.symm; subst ht_
  show J_ Γ 5 [(0, vr (some a0)), (1, vi (x1))] [vi (p1)] σ 0 0
  refine J_aload_n (q := 6) C0 0 rfl rfl dX0_isHomeAfter_5 rfl trivial ?_
  refine J_getI (q := 9) C0 fl_X0_15_0 rfl (h0) rfl dX0_isHomeAfter_6 rfl ?_
  refine J_icmp_ne (t := 16) (q := 12) C0 dX0_isHomeAfter_9 (by decide) rfl hf (fun c2 hf => ?_) (fun c2 hf => ?_)
  · refine J_iconst (q := 17) (v := 0) C0 dX0_isHomeAfter_16 rfl rfl ?_
    obtain rfl := Option.some.inj hf; exact J_zret C1 dX0_isHomeAfter_17 rfl (Or.inl rfl) (Nat.zero_le _) (Nat.zero_le _) ⟨⟨rfl, (Or.inl rfl)⟩, rfl⟩
  · refine J_iconst (q := 13) (v := 1) C0 dX0_isHomeAfter_12 rfl rfl ?_
    refine J_goto (q := 17) C0 dX0_isHomeAfter_13 (by decide) ?_
    obtain rfl := Option.some.inj hf; exact J_zret C1 dX0_isHomeAfter_17 rfl (Or.inr rfl) (Nat.zero_le _) (Nat.zero_le _) ⟨⟨rfl, (Or.inr rfl)⟩, rfl⟩
def f_X0_isStillBy_L4 (N : Nat) (a0 : Nat) : Nat → Int32 → Int32 → Int32 → Sg → Option Int32
  | 0, _, _, _, _ => none
  | n + 1, v1, v2, v3, σ =>
  if (6) < (v3) then
  (if ¬ ((v2) = 0 ∨ (v2) = 1) then none else
  some (v2))
  else
  (if (v2) = (0) then
  (if ¬ ((v2) = 0 ∨ (v2) = 1) then none else
  some (v2))
  else
  (Option.bind (f_X0_isHomeAfter a0 ((v3) * (v1)) σ) fun p5 =>
  f_X0_isStillBy_L4 N a0 n (v1) (p5) (v3 + 1) σ))
def f_X0_isStillBy (N : Nat) (a0 : Nat) (x1 : Int32) (σ : Sg) : Option Int32 :=
  f_X0_isStillBy_L4 N a0 N (x1) (1) (1) σ
set_option maxHeartbeats 4000000 in
set_option maxRecDepth 100000 in
theorem t_X0_isStillBy_L4 {N : Nat} {a0 : Nat} {Γ : Gm} {σ : Sg} {r : Int32} (C1 : CM Γ cX0_isStillBy RX0 4 (some .boolean) 4 86 0 0 (fun r_ τ_ => (r_ = some (vi r) ∧ (r = 0 ∨ r = 1)) ∧ τ_ = σ)) (hT : sg_T σ) (h0 : is_A σ a0 0) : ∀ (n : Nat) (v1 : Int32) (v2 : Int32) (v3 : Int32), f_X0_isStillBy_L4 N a0  n v1 v2 v3 σ = some r → J_ Γ 4 [(0, vr (some a0)), (1, vi (v1)), (2, vi (v2)), (3, vi (v3))] [] σ 0 0 := by
  have C0 := C1.1
  intro n
  induction n with
  | zero => intro v1 v2 v3  hf; unfold f_X0_isStillBy_L4 at hf; cases hf
  | succ n ih =>
    intro v1 v2 v3  hf
    rw [f_X0_isStillBy_L4] at hf
    refine J_iload_n (q := 5) C0 3 rfl rfl dX0_isStillBy_4 rfl ?_
    refine J_bipush (q := 7) (v := 6) C0 dX0_isStillBy_5 rfl rfl ?_
    refine J_icmp_gt (t := 28) (q := 10) C0 dX0_isStillBy_7 (by decide) rfl hf (fun c1 hf => ?_) (fun c1 hf => ?_)
    · refine J_iload_n (q := 29) C0 2 rfl rfl dX0_isStillBy_28 rfl ?_
      refine K_chk hf (fun c2 hf => ?_)
      obtain rfl := Option.some.inj hf; exact J_zret C1 dX0_isStillBy_29 rfl (Decidable.not_not.mp c2) (Nat.zero_le _) (Nat.zero_le _) ⟨⟨rfl, (Decidable.not_not.mp c2)⟩, rfl⟩
    · refine J_iload_n (q := 11) C0 2 rfl rfl dX0_isStillBy_10 rfl ?_
      refine J_if_eq (t := 28) (q := 14) C0 dX0_isStillBy_11 (by decide) rfl hf (fun c3 hf => ?_) (fun c3 hf => ?_)
      · refine J_iload_n (q := 29) C0 2 rfl rfl dX0_isStillBy_28 rfl ?_
        refine K_chk hf (fun c4 hf => ?_)
        obtain rfl := Option.some.inj hf; exact J_zret C1 dX0_isStillBy_29 rfl (Decidable.not_not.mp c4) (Nat.zero_le _) (Nat.zero_le _) ⟨⟨rfl, (Decidable.not_not.mp c4)⟩, rfl⟩
      · refine J_aload_n (q := 15) C0 0 rfl rfl dX0_isStillBy_14 rfl trivial ?_
        refine J_iload_n (q := 16) C0 3 rfl rfl dX0_isStillBy_15 rfl ?_
        refine J_iload_n (q := 17) C0 1 rfl rfl dX0_isStillBy_16 rfl ?_
        refine J_imul (q := 18) C0 dX0_isStillBy_17 rfl ?_
        refine K_some hf (fun p5 hp5 hf => ?_)
        refine J_callV (q := 21) (ci := 0) (as := [vi ((v3) * (v1))]) (rest := []) C0 rfl (h0) (t_X0_isHomeAfter a0 ((v3) * (v1)) (hT) (h0)  hp5) ml_X0_isHomeAfter lk_X0_91 im_X0_isHomeAfter se_X0_isHomeAfter rfl (by decide) dX0_isStillBy_18 rfl rfl rfl (by simp [ac_]) C1.room (by decide) (by decide) (by decide) (by decide) (fun r_ τ_ hQ => ?_)
        obtain ⟨⟨rfl, zp5⟩, ht_⟩ := hQ; have ht_ := ht_.symm; subst ht_
        show J_ Γ 21 [(0, vr (some a0)), (1, vi (v1)), (2, vi (v2)), (3, vi (v3))] [vi (p5)] σ 0 0
        refine J_istore_n (q := 22) (lv' := [(2, vi (p5)), (0, vr (some a0)), (1, vi (v1)), (3, vi (v3))]) C0 rfl (G_nl C1 (by decide)) dX0_isStillBy_21 rfl rfl ?_
        refine J_iinc (q := 25) (v := v3 + 1) (lv' := [(3, vi (v3 + 1)), (2, vi (p5)), (0, vr (some a0)), (1, vi (v1))]) C0 3 rfl rfl (G_nl C1 (by decide)) dX0_isStillBy_22 rfl rfl ?_
        refine J_goto (q := 4) C0 dX0_isStillBy_25 (by decide) ?_
        refine J_sub (lv' := [(0, vr (some a0)), (1, vi (v1)), (2, vi (p5)), (3, vi (v3 + 1))]) [2, 3, 1, 0] rfl ?_
        exact ih (v1) (p5) (v3 + 1)   hf
set_option maxHeartbeats 4000000 in
set_option maxRecDepth 100000 in
theorem t_X0_isStillBy (N : Nat) (a0 : Nat) (x1 : Int32) {σ : Sg} (hT : sg_T σ) (h0 : is_A σ a0 0) {r : Int32} (hf : f_X0_isStillBy N a0 x1 σ = some r) : Ct yX0_isStillBy cX0_isStillBy 4 (some .boolean) 4 86 0 0 [vr (some a0), vi x1] σ (fun r_ τ_ => (r_ = some (vi r) ∧ (r = 0 ∨ r = 1)) ∧ τ_ = σ) := by
  refine Ct.of (by decide +kernel) (Nat.le_of_ble_eq_true rfl) (fun Γ C1 => ?_)
  have C0 := C1.1
  unfold f_X0_isStillBy at hf
  show J_ Γ 0 [(0, vr (some a0)), (1, vi (x1))] [] σ 0 0
  refine J_iconst (q := 1) (v := 1) C0 dX0_isStillBy_0 rfl rfl ?_
  refine J_istore_n (q := 2) (lv' := [(2, vi (1)), (0, vr (some a0)), (1, vi (x1))]) C0 rfl (G_nl C1 (by decide)) dX0_isStillBy_1 rfl rfl ?_
  refine J_iconst (q := 3) (v := 1) C0 dX0_isStillBy_2 rfl rfl ?_
  refine J_istore_n (q := 4) (lv' := [(3, vi (1)), (2, vi (1)), (0, vr (some a0)), (1, vi (x1))]) C0 rfl (G_nl C1 (by decide)) dX0_isStillBy_3 rfl rfl ?_
  refine J_sub (lv' := [(0, vr (some a0)), (1, vi (x1)), (2, vi (1)), (3, vi (1))]) [2, 3, 1, 0] rfl ?_
  exact t_X0_isStillBy_L4 C1 (hT) (h0)    N (x1) (1) (1)  hf
def f_J9_min_7cf53 (x0 : Int32) (x1 : Int32) : Option Int32 :=
  if (x1) < (x0) then
  (some (x1))
  else
  (some (x0))
set_option maxHeartbeats 4000000 in
set_option maxRecDepth 100000 in
theorem t_J9_min_7cf53 (x0 : Int32) (x1 : Int32) {σ : Sg} {r : Int32} (hf : f_J9_min_7cf53 x0 x1 = some r) : Ct yJ9_min_7cf53 cJ9_min_7cf53 2 (some .int) 0 0 0 0 [vi x0, vi x1] σ (fun r_ τ_ => (r_ = some (vi r)) ∧ τ_ = σ) := by
  refine Ct.of (by decide +kernel) (Nat.le_of_ble_eq_true rfl) (fun Γ C1 => ?_)
  have C0 := C1.1
  unfold f_J9_min_7cf53 at hf
  show J_ Γ 0 [(0, vi (x0)), (1, vi (x1))] [] σ 0 0
  refine J_iload_n (q := 1) C0 0 rfl rfl dJ9_min_7cf53_0 rfl ?_
  refine J_iload_n (q := 2) C0 1 rfl rfl dJ9_min_7cf53_1 rfl ?_
  refine J_icmp_gt (t := 9) (q := 5) C0 dJ9_min_7cf53_2 (by decide) rfl hf (fun c1 hf => ?_) (fun c1 hf => ?_)
  · refine J_iload_n (q := 10) C0 1 rfl rfl dJ9_min_7cf53_9 rfl ?_
    obtain rfl := Option.some.inj hf; exact J_iret C1 dJ9_min_7cf53_10 rfl (Nat.zero_le _) (Nat.zero_le _) ⟨rfl, rfl⟩
  · refine J_iload_n (q := 6) C0 0 rfl rfl dJ9_min_7cf53_5 rfl ?_
    refine J_goto (q := 10) C0 dJ9_min_7cf53_6 (by decide) ?_
    obtain rfl := Option.some.inj hf; exact J_iret C1 dJ9_min_7cf53_10 rfl (Nat.zero_le _) (Nat.zero_le _) ⟨rfl, rfl⟩
def f_X0_showingOf_o (N : Nat) (rec : Nat → Nat → Int64 → Int32 → Int32 → Int32 → Int32 → Int32 → Sg → Option (Int64 × Sg)) (a0 : Nat) (x1 : Int64) (x3 : Int32) (x4 : Int32) (x5 : Int32) (x6 : Int32) (x7 : Int32) (σ : Sg) : Option (Int64 × Sg) :=
  if (x4) < (x5) then
  (Option.bind (f_X0_movedFrom N a0 (x3) ((sg_I σ a0 4) + (x4)) σ) fun p2 =>
  Option.bind (rec 0 a0 (((x1) * ((x6).toInt64)) / (100)) (x3) ((x4) + (1)) (x5) (x6) (x7) p2.2) fun p3 =>
  Option.bind (rec 0 a0 ((x1) - (((x1) * ((x6).toInt64)) / (100))) (p2.1) ((x4) + (1)) (x5) (x6) (x7) p3.2) fun p4 =>
  some ((p3.1) + (p4.1), p4.2))
  else
  (Option.bind (sg_R σ a0 2) fun b5 =>
  Option.bind (f_X8_shownAt b5 (x3) σ) fun p6 =>
  if (p6) = (x7) then
  (some (x1, σ))
  else
  (some (0, σ)))
set_option maxHeartbeats 4000000 in
set_option maxRecDepth 100000 in
theorem t_X0_showingOf_o (N : Nat) {rec : Nat → Nat → Int64 → Int32 → Int32 → Int32 → Int32 → Int32 → Sg → Option (Int64 × Sg)} {d : Nat} (hr_X0_showingOf : ∀ (a0 : Nat) (x1 : Int64) (x3 : Int32) (x4 : Int32) (x5 : Int32) (x6 : Int32) (x7 : Int32) (σ : Sg), sg_T σ → is_A σ a0 0 → ∀ r : (Int64 × Sg), rec 0 a0 x1 x3 x4 x5 x6 x7 σ = some r → Ct yX0_showingOf cX0_showingOf 11 (some .long) (d + 4) (d * 30 + 94) 0 0 [vr (some a0), vl x1, vi x3, vi x4, vi x5, vi x6, vi x7] σ (fun r_ τ_ => (r_ = some (vl r.1)) ∧ τ_ = r.2 ∧ sg_T τ_ ∧ sg_E σ τ_)) (a0 : Nat) (x1 : Int64) (x3 : Int32) (x4 : Int32) (x5 : Int32) (x6 : Int32) (x7 : Int32) {σ : Sg} (hT : sg_T σ) (h0 : is_A σ a0 0) {r : (Int64 × Sg)} (hf : f_X0_showingOf_o N rec a0 x1 x3 x4 x5 x6 x7 σ = some r) : Ct yX0_showingOf cX0_showingOf 11 (some .long) (d + 1 + 4) ((d + 1) * 30 + 94) 0 0 [vr (some a0), vl x1, vi x3, vi x4, vi x5, vi x6, vi x7] σ (fun r_ τ_ => (r_ = some (vl r.1)) ∧ τ_ = r.2 ∧ sg_T τ_ ∧ sg_E σ τ_) := by
  refine Ct.of (by decide +kernel) (Nat.le_of_ble_eq_true rfl) (fun Γ C1 => ?_)
  have C0 := C1.1
  have hE : sg_E σ σ := sg_E.rf
  unfold f_X0_showingOf_o at hf
  show J_ Γ 0 [(0, vr (some a0)), (1, vl (x1)), (3, vi (x3)), (4, vi (x4)), (5, vi (x5)), (6, vi (x6)), (7, vi (x7))] [] σ 0 0
  refine J_iload (q := 2) C0 3 rfl dX0_showingOf_0 rfl ?_
  refine J_iload (q := 4) C0 4 rfl dX0_showingOf_2 rfl ?_
  refine J_icmp_lt (t := 26) (q := 7) C0 dX0_showingOf_4 (by decide) rfl hf (fun c1 hf => ?_) (fun c1 hf => ?_)
  · refine J_lload_n (q := 27) C0 1 rfl rfl dX0_showingOf_26 rfl ?_
    refine J_iload (q := 29) C0 5 rfl dX0_showingOf_27 rfl ?_
    refine J_i2l (q := 30) C0 dX0_showingOf_29 rfl ?_
    refine J_lmul (q := 31) C0 dX0_showingOf_30 rfl ?_
    refine J_ldc2_w (q := 34) C0 kc_X0_106 dX0_showingOf_31 rfl ?_
    refine J_ldiv (q := 35) C0 dX0_showingOf_34 rfl (by decide) ?_
    refine J_lstore (q := 37) (lv' := [(8, vl (((x1) * ((x6).toInt64)) / (100))), (0, vr (some a0)), (1, vl (x1)), (3, vi (x3)), (4, vi (x4)), (5, vi (x5)), (6, vi (x6)), (7, vi (x7))]) C0 (G_nl C1 (by decide)) dX0_showingOf_35 rfl rfl ?_
    refine J_aload_n (q := 38) C0 1 rfl rfl dX0_showingOf_37 rfl trivial ?_
    refine J_iload_n (q := 39) C0 3 rfl rfl dX0_showingOf_38 rfl ?_
    refine J_aload_n (q := 40) C0 1 rfl rfl dX0_showingOf_39 rfl trivial ?_
    refine J_getI (q := 43) C0 fl_X0_31_0 rfl (h0) rfl dX0_showingOf_40 rfl ?_
    refine J_iload (q := 45) C0 4 rfl dX0_showingOf_43 rfl ?_
    refine J_iadd (q := 46) C0 dX0_showingOf_45 rfl ?_
    refine K_some hf (fun p2 hp2 hf => ?_)
    refine J_callV (q := 49) (ci := 0) (as := [vi (x3), vi ((sg_I σ a0 4) + (x4))]) (rest := []) C0 rfl (h0) (t_X0_movedFrom N a0 (x3) ((sg_I σ a0 4) + (x4)) (hT) (h0)  hp2) ml_X0_movedFrom lk_X0_85 im_X0_movedFrom se_X0_movedFrom rfl (by decide) dX0_showingOf_46 rfl rfl rfl (by simp [ac_]) C1.room (by omega) (by omega) (by decide) (by decide) (fun r_ τ_ hQ => ?_)
    obtain ⟨rfl, rfl, Tp2, Ep2⟩ := hQ
    show J_ Γ 49 [(8, vl (((x1) * ((x6).toInt64)) / (100))), (0, vr (some a0)), (1, vl (x1)), (3, vi (x3)), (4, vi (x4)), (5, vi (x5)), (6, vi (x6)), (7, vi (x7))] [vi (p2.1)] p2.2 0 0
    refine J_istore (q := 51) (lv' := [(10, vi (p2.1)), (8, vl (((x1) * ((x6).toInt64)) / (100))), (0, vr (some a0)), (1, vl (x1)), (3, vi (x3)), (4, vi (x4)), (5, vi (x5)), (6, vi (x6)), (7, vi (x7))]) C0 (G_nl C1 (by decide)) dX0_showingOf_49 rfl rfl ?_
    refine J_aload_n (q := 52) C0 2 rfl rfl dX0_showingOf_51 rfl trivial ?_
    refine J_lload (q := 54) C0 1 rfl dX0_showingOf_52 rfl ?_
    refine J_iload_n (q := 55) C0 4 rfl rfl dX0_showingOf_54 rfl ?_
    refine J_iload (q := 57) C0 5 rfl dX0_showingOf_55 rfl ?_
    refine J_iconst (q := 58) (v := 1) C0 dX0_showingOf_57 rfl rfl ?_
    refine J_iadd (q := 59) C0 dX0_showingOf_58 rfl ?_
    refine J_iload (q := 61) C0 6 rfl dX0_showingOf_59 rfl ?_
    refine J_iload (q := 63) C0 7 rfl dX0_showingOf_61 rfl ?_
    refine J_iload (q := 65) C0 8 rfl dX0_showingOf_63 rfl ?_
    refine K_some hf (fun p3 hp3 hf => ?_)
    refine J_callV (q := 68) (ci := 0) (as := [vl (((x1) * ((x6).toInt64)) / (100)), vi (x3), vi ((x4) + (1)), vi (x5), vi (x6), vi (x7)]) (rest := []) C0 rfl ((Ep2.at h0)) (hr_X0_showingOf a0 (((x1) * ((x6).toInt64)) / (100)) (x3) ((x4) + (1)) (x5) (x6) (x7) p2.2 (Tp2) ((Ep2.at h0))  _ hp3) ml_X0_showingOf lk_X0_102 im_X0_showingOf se_X0_showingOf rfl (by decide) dX0_showingOf_65 rfl rfl rfl (by simp [ac_]) C1.room (by omega) (by omega) (by decide) (by decide) (fun r_ τ_ hQ => ?_)
    obtain ⟨rfl, rfl, Tp3, Ep3⟩ := hQ
    show J_ Γ 68 [(10, vi (p2.1)), (8, vl (((x1) * ((x6).toInt64)) / (100))), (0, vr (some a0)), (1, vl (x1)), (3, vi (x3)), (4, vi (x4)), (5, vi (x5)), (6, vi (x6)), (7, vi (x7))] [vl (p3.1)] p3.2 0 0
    refine J_aload_n (q := 69) C0 2 rfl rfl dX0_showingOf_68 rfl trivial ?_
    refine J_lload_n (q := 70) C0 3 rfl rfl dX0_showingOf_69 rfl ?_
    refine J_lload (q := 72) C0 1 rfl dX0_showingOf_70 rfl ?_
    refine J_lsub (q := 73) C0 dX0_showingOf_72 rfl ?_
    refine J_iload (q := 75) C0 0 rfl dX0_showingOf_73 rfl ?_
    refine J_iload (q := 77) C0 5 rfl dX0_showingOf_75 rfl ?_
    refine J_iconst (q := 78) (v := 1) C0 dX0_showingOf_77 rfl rfl ?_
    refine J_iadd (q := 79) C0 dX0_showingOf_78 rfl ?_
    refine J_iload (q := 81) C0 6 rfl dX0_showingOf_79 rfl ?_
    refine J_iload (q := 83) C0 7 rfl dX0_showingOf_81 rfl ?_
    refine J_iload (q := 85) C0 8 rfl dX0_showingOf_83 rfl ?_
    refine K_some hf (fun p4 hp4 hf => ?_)
    refine J_callV (q := 88) (ci := 0) (as := [vl ((x1) - (((x1) * ((x6).toInt64)) / (100))), vi (p2.1), vi ((x4) + (1)), vi (x5), vi (x6), vi (x7)]) (rest := [vl (p3.1)]) C0 rfl ((Ep3.at (Ep2.at h0))) (hr_X0_showingOf a0 ((x1) - (((x1) * ((x6).toInt64)) / (100))) (p2.1) ((x4) + (1)) (x5) (x6) (x7) p3.2 (Tp3) ((Ep3.at (Ep2.at h0)))  _ hp4) ml_X0_showingOf lk_X0_102 im_X0_showingOf se_X0_showingOf rfl (by decide) dX0_showingOf_85 rfl rfl rfl (by simp [ac_]) C1.room (by omega) (by omega) (by decide) (by decide) (fun r_ τ_ hQ => ?_)
    obtain ⟨rfl, rfl, Tp4, Ep4⟩ := hQ
    show J_ Γ 88 [(10, vi (p2.1)), (8, vl (((x1) * ((x6).toInt64)) / (100))), (0, vr (some a0)), (1, vl (x1)), (3, vi (x3)), (4, vi (x4)), (5, vi (x5)), (6, vi (x6)), (7, vi (x7))] [vl (p4.1), vl (p3.1)] p4.2 0 0
    refine J_ladd (q := 89) C0 dX0_showingOf_88 rfl ?_
    obtain rfl := Option.some.inj hf; exact J_lret C1 dX0_showingOf_89 rfl (Nat.zero_le _) (Nat.zero_le _) ⟨rfl, rfl, Tp4, (((hE).tr Ep2).tr Ep3).tr Ep4⟩
  · refine J_aload_n (q := 8) C0 0 rfl rfl dX0_showingOf_7 rfl trivial ?_
    refine J_getR (q := 11) C0 fl_X0_23_0 rfl (h0) rfl dX0_showingOf_8 rfl ?_
    refine J_iload_n (q := 12) C0 2 rfl rfl dX0_showingOf_11 rfl ?_
    refine K_some hf (fun b5 hb5 hf => ?_)
    have ab5 : is_A σ b5 7 := ((sg_T.op hT (j := 2) (h0) rfl)) b5 hb5
    refine K_some hf (fun p6 hp6 hf => ?_)
    refine J_callV (q := 15) (ci := 7) (as := [vi (x3)]) (rest := []) C0 hb5 (ab5) (t_X8_shownAt b5 (x3) (hT) (ab5)  hp6) ml_X8_shownAt lk_X0_61 im_X8_shownAt se_X8_shownAt rfl (by decide) dX0_showingOf_12 rfl rfl rfl (by simp [ac_]) C1.room (by omega) (by omega) (by decide) (by decide) (fun r_ τ_ hQ => ?_)
    obtain ⟨rfl, ht_⟩ := hQ; have ht_ := ht_.symm; subst ht_
    show J_ Γ 15 [(0, vr (some a0)), (1, vl (x1)), (3, vi (x3)), (4, vi (x4)), (5, vi (x5)), (6, vi (x6)), (7, vi (x7))] [vi (p6)] σ 0 0
    refine J_iload (q := 17) C0 6 rfl dX0_showingOf_15 rfl ?_
    refine J_icmp_ne (t := 24) (q := 20) C0 dX0_showingOf_17 (by decide) rfl hf (fun c7 hf => ?_) (fun c7 hf => ?_)
    · refine J_lconst (q := 25) (v := 0) C0 dX0_showingOf_24 rfl rfl ?_
      obtain rfl := Option.some.inj hf; exact J_lret C1 dX0_showingOf_25 rfl (Nat.zero_le _) (Nat.zero_le _) ⟨rfl, rfl, hT, hE⟩
    · refine J_lload_n (q := 21) C0 1 rfl rfl dX0_showingOf_20 rfl ?_
      refine J_goto (q := 25) C0 dX0_showingOf_21 (by decide) ?_
      obtain rfl := Option.some.inj hf; exact J_lret C1 dX0_showingOf_25 rfl (Nat.zero_le _) (Nat.zero_le _) ⟨rfl, rfl, hT, hE⟩
def g_X0_showingOf (N : Nat) : Nat → Nat → Nat → Int64 → Int32 → Int32 → Int32 → Int32 → Int32 → Sg → Option (Int64 × Sg)
  | 0, _, _, _, _, _, _, _, _, _ => none
  | d + 1, t, a0, x1, x3, x4, x5, x6, x7, σ => f_X0_showingOf_o N (g_X0_showingOf N d) a0 x1 x3 x4 x5 x6 x7 σ
set_option maxHeartbeats 4000000 in
set_option maxRecDepth 100000 in
theorem c_X0_showingOf (N : Nat) : ∀ d : Nat, (∀ (a0 : Nat) (x1 : Int64) (x3 : Int32) (x4 : Int32) (x5 : Int32) (x6 : Int32) (x7 : Int32) (σ : Sg), sg_T σ → is_A σ a0 0 → ∀ r : (Int64 × Sg), g_X0_showingOf N d 0 a0 x1 x3 x4 x5 x6 x7 σ = some r → Ct yX0_showingOf cX0_showingOf 11 (some .long) (d + 4) (d * 30 + 94) 0 0 [vr (some a0), vl x1, vi x3, vi x4, vi x5, vi x6, vi x7] σ (fun r_ τ_ => (r_ = some (vl r.1)) ∧ τ_ = r.2 ∧ sg_T τ_ ∧ sg_E σ τ_)) := by
  intro d
  induction d with
  | zero =>
    skip
    all_goals (intros; rename_i hf_; cases hf_)
  | succ d ih =>
    have hr_X0_showingOf := ih
    skip
    · intro a0 x1 x3 x4 x5 x6 x7 σ hT_ h0_ r hf
      have hf : f_X0_showingOf_o N (g_X0_showingOf N d) a0 x1 x3 x4 x5 x6 x7 σ = some r := hf
      exact (t_X0_showingOf_o N hr_X0_showingOf a0 x1 x3 x4 x5 x6 x7 hT_ h0_ hf)

def dep_X0_showingOf : Nat := 10
def f_X0_showingOf (N : Nat) (a0 : Nat) (x1 : Int64) (x3 : Int32) (x4 : Int32) (x5 : Int32) (x6 : Int32) (x7 : Int32) (σ : Sg) : Option (Int64 × Sg) := g_X0_showingOf N dep_X0_showingOf 0 a0 x1 x3 x4 x5 x6 x7 σ
set_option maxHeartbeats 4000000 in
set_option maxRecDepth 100000 in
theorem t_X0_showingOf (N : Nat) (a0 : Nat) (x1 : Int64) (x3 : Int32) (x4 : Int32) (x5 : Int32) (x6 : Int32) (x7 : Int32) {σ : Sg} (hT_ : sg_T σ) (h0_ : is_A σ a0 0) {r : (Int64 × Sg)} (hf : f_X0_showingOf N a0 x1 x3 x4 x5 x6 x7 σ = some r) : Ct yX0_showingOf cX0_showingOf 11 (some .long) 14 394 0 0 [vr (some a0), vl x1, vi x3, vi x4, vi x5, vi x6, vi x7] σ (fun r_ τ_ => (r_ = some (vl r.1)) ∧ τ_ = r.2 ∧ sg_T τ_ ∧ sg_E σ τ_) :=
  (c_X0_showingOf N dep_X0_showingOf) a0 x1 x3 x4 x5 x6 x7 σ hT_ h0_  r hf
def f_X0_partsShowing (N : Nat) (a0 : Nat) (x1 : Int32) (x2 : Int32) (x3 : Int32) (σ : Sg) : Option (Int32 × Sg) :=
  Option.bind (f_J9_min_7cf53 (x1) (8) ) fun p1 =>
  Option.bind (f_X0_showingOf N a0 (1000000000) (sg_I σ a0 1) (0) (p1) (x2) (x3) σ) fun p2 =>
  some ((p2.1).toInt32, p2.2)
set_option maxHeartbeats 4000000 in
set_option maxRecDepth 100000 in
theorem t_X0_partsShowing (N : Nat) (a0 : Nat) (x1 : Int32) (x2 : Int32) (x3 : Int32) {σ : Sg} (hT : sg_T σ) (h0 : is_A σ a0 0) {r : (Int32 × Sg)} (hf : f_X0_partsShowing N a0 x1 x2 x3 σ = some r) : Ct yX0_partsShowing cX0_partsShowing 4 (some .int) 15 424 0 0 [vr (some a0), vi x1, vi x2, vi x3] σ (fun r_ τ_ => (r_ = some (vi r.1)) ∧ τ_ = r.2 ∧ sg_T τ_ ∧ sg_E σ τ_) := by
  refine Ct.of (by decide +kernel) (Nat.le_of_ble_eq_true rfl) (fun Γ C1 => ?_)
  have C0 := C1.1
  have hE : sg_E σ σ := sg_E.rf
  unfold f_X0_partsShowing at hf
  show J_ Γ 0 [(0, vr (some a0)), (1, vi (x1)), (2, vi (x2)), (3, vi (x3))] [] σ 0 0
  refine J_aload_n (q := 1) C0 0 rfl rfl dX0_partsShowing_0 rfl trivial ?_
  refine J_ldc2_w (q := 4) C0 kc_X0_95 dX0_partsShowing_1 rfl ?_
  refine J_aload_n (q := 5) C0 0 rfl rfl dX0_partsShowing_4 rfl trivial ?_
  refine J_getI (q := 8) C0 fl_X0_15_0 rfl (h0) rfl dX0_partsShowing_5 rfl ?_
  refine J_iconst (q := 9) (v := 0) C0 dX0_partsShowing_8 rfl rfl ?_
  refine J_iload_n (q := 10) C0 1 rfl rfl dX0_partsShowing_9 rfl ?_
  refine J_bipush (q := 12) (v := 8) C0 dX0_partsShowing_10 rfl rfl ?_
  refine K_some hf (fun p1 hp1 hf => ?_)
  refine J_callS (q := 15) (as := [vi (x1), vi (8)]) (rest := [vi (0), vi (sg_I σ a0 1), vl (1000000000), vr (some a0)]) C0 (t_J9_min_7cf53 (x1) (8)  hp1) ml_J9_min_7cf53 lk_X0_97 sm_J9_min_7cf53 dX0_partsShowing_12 rfl rfl rfl (by simp [ac_]) C1.room (by decide) (by decide) (by decide) (by decide) (fun r_ τ_ hQ => ?_)
  obtain ⟨rfl, ht_⟩ := hQ; have ht_ := ht_.symm; subst ht_
  show J_ Γ 15 [(0, vr (some a0)), (1, vi (x1)), (2, vi (x2)), (3, vi (x3))] [vi (p1), vi (0), vi (sg_I σ a0 1), vl (1000000000), vr (some a0)] σ 0 0
  refine J_iload_n (q := 16) C0 2 rfl rfl dX0_partsShowing_15 rfl ?_
  refine J_iload_n (q := 17) C0 3 rfl rfl dX0_partsShowing_16 rfl ?_
  refine K_some hf (fun p2 hp2 hf => ?_)
  refine J_callV (q := 20) (ci := 0) (as := [vl (1000000000), vi (sg_I σ a0 1), vi (0), vi (p1), vi (x2), vi (x3)]) (rest := []) C0 rfl (h0) (t_X0_showingOf N a0 (1000000000) (sg_I σ a0 1) (0) (p1) (x2) (x3) (hT) (h0)  hp2) ml_X0_showingOf lk_X0_102 im_X0_showingOf se_X0_showingOf rfl (by decide) dX0_partsShowing_17 rfl rfl rfl (by simp [ac_]) C1.room (by decide) (by decide) (by decide) (by decide) (fun r_ τ_ hQ => ?_)
  obtain ⟨rfl, rfl, Tp2, Ep2⟩ := hQ
  show J_ Γ 20 [(0, vr (some a0)), (1, vi (x1)), (2, vi (x2)), (3, vi (x3))] [vl (p2.1)] p2.2 0 0
  refine J_l2i (q := 21) C0 dX0_partsShowing_20 rfl ?_
  obtain rfl := Option.some.inj hf; exact J_iret C1 dX0_partsShowing_21 rfl (Nat.zero_le _) (Nat.zero_le _) ⟨rfl, rfl, Tp2, (hE).tr Ep2⟩
def f_X6_nextSign_B38 (N : Nat) (a0 : Nat) (σ : Sg) : Option (Int32 × Sg) :=
  if (sg_I σ a0 2) < (sg_I σ a0 1) then
  (Option.bind (sg_R σ a0 0) fun b3 =>
  if (sg_I σ a0 2) < 0 ∨ sg_L σ b3 ≤ (sg_I σ a0 2).toNatClampNeg then none else
  some (sg_I σ b3 (sg_I σ a0 2).toNatClampNeg, σ))
  else
  (some ((-1), σ))
def f_X6_nextSign_L0 (N : Nat) (a0 : Nat) : Nat → Sg → Option (Int32 × Sg)
  | 0, _ => none
  | n + 1, σ =>
  if (sg_I σ a0 2) < (sg_I σ a0 1) then
  (Option.bind (sg_R σ a0 0) fun b5 =>
  if (sg_I σ a0 2) < 0 ∨ sg_L σ b5 ≤ (sg_I σ a0 2).toNatClampNeg then none else
  if (sg_I σ b5 (sg_I σ a0 2).toNatClampNeg) = (32) then
  (f_X6_nextSign_L0 N a0 n  (put_I σ a0 2 ((sg_I σ a0 2) + (1))))
  else
  (f_X6_nextSign_B38 N a0  σ))
  else
  (f_X6_nextSign_B38 N a0  σ)
def f_X6_nextSign (N : Nat) (a0 : Nat) (σ : Sg) : Option (Int32 × Sg) :=
  f_X6_nextSign_L0 N a0 N  σ
set_option maxHeartbeats 4000000 in
set_option maxRecDepth 100000 in
theorem t_X6_nextSign_B38_k1 {N : Nat} {a0 : Nat} {Γ : Gm} {σ0 : Sg} {r : (Int32 × Sg)} (C1 : CM Γ cX6_nextSign RX6 1 (some .int) 0 0 0 0 (fun r_ τ_ => (r_ = some (vi r.1)) ∧ τ_ = r.2 ∧ sg_T τ_ ∧ sg_E σ0 τ_)) (σ : Sg) (hT : sg_T σ) (hE : sg_E σ0 σ) (h0 : is_A σ a0 1) (hf : f_X6_nextSign_B38 N a0   σ = some r) : J_ Γ 38 [(0, vr (some a0))] [] σ 0 0 := by
  have C0 := C1.1
  unfold f_X6_nextSign_B38 at hf
  refine J_aload_n (q := 39) C0 0 rfl rfl dX6_nextSign_38 rfl trivial ?_
  refine J_getI (q := 42) C0 fl_X6_19_1 rfl (h0) rfl dX6_nextSign_39 rfl ?_
  refine J_aload_n (q := 43) C0 0 rfl rfl dX6_nextSign_42 rfl trivial ?_
  refine J_getI (q := 46) C0 fl_X6_15_1 rfl (h0) rfl dX6_nextSign_43 rfl ?_
  refine J_icmp_ge (t := 61) (q := 49) C0 dX6_nextSign_46 (by decide) rfl hf (fun c2 hf => ?_) (fun c2 hf => ?_)
  · refine J_iconst (q := 62) (v := (-1)) C0 dX6_nextSign_61 rfl rfl ?_
    obtain rfl := Option.some.inj hf; exact J_iret C1 dX6_nextSign_62 rfl (Nat.zero_le _) (Nat.zero_le _) ⟨rfl, rfl, hT, hE⟩
  · refine J_aload_n (q := 50) C0 0 rfl rfl dX6_nextSign_49 rfl trivial ?_
    refine J_getR (q := 53) C0 fl_X6_9_1 rfl (h0) rfl dX6_nextSign_50 rfl ?_
    refine J_aload_n (q := 54) C0 0 rfl rfl dX6_nextSign_53 rfl trivial ?_
    refine J_getI (q := 57) C0 fl_X6_19_1 rfl (h0) rfl dX6_nextSign_54 rfl ?_
    refine K_some hf (fun b3 hb3 hf => ?_)
    have ab3 : is_A σ b3 12 := ((sg_T.op hT (j := 0) (h0) rfl)) b3 hb3
    refine K_chk hf (fun c4 hf => ?_)
    refine J_iald (q := 58) C0 hb3 (ab3) c4 dX6_nextSign_57 rfl ?_
    refine J_goto (q := 62) C0 dX6_nextSign_58 (by decide) ?_
    obtain rfl := Option.some.inj hf; exact J_iret C1 dX6_nextSign_62 rfl (Nat.zero_le _) (Nat.zero_le _) ⟨rfl, rfl, hT, hE⟩
set_option maxHeartbeats 4000000 in
set_option maxRecDepth 100000 in
theorem t_X6_nextSign_L0_k1 {N : Nat} {a0 : Nat} {Γ : Gm} {σ0 : Sg} {r : (Int32 × Sg)} (C1 : CM Γ cX6_nextSign RX6 1 (some .int) 0 0 0 0 (fun r_ τ_ => (r_ = some (vi r.1)) ∧ τ_ = r.2 ∧ sg_T τ_ ∧ sg_E σ0 τ_)) : ∀ (n : Nat) (σ : Sg), sg_T σ → sg_E σ0 σ → is_A σ a0 1 → f_X6_nextSign_L0 N a0  n  σ = some r → J_ Γ 0 [(0, vr (some a0))] [] σ 0 0 := by
  have C0 := C1.1
  intro n
  induction n with
  | zero => intro  σ hT hE h0  hf; unfold f_X6_nextSign_L0 at hf; cases hf
  | succ n ih =>
    intro  σ hT hE h0  hf
    rw [f_X6_nextSign_L0] at hf
    refine J_aload_n (q := 1) C0 0 rfl rfl dX6_nextSign_0 rfl trivial ?_
    refine J_getI (q := 4) C0 fl_X6_19_1 rfl (h0) rfl dX6_nextSign_1 rfl ?_
    refine J_aload_n (q := 5) C0 0 rfl rfl dX6_nextSign_4 rfl trivial ?_
    refine J_getI (q := 8) C0 fl_X6_15_1 rfl (h0) rfl dX6_nextSign_5 rfl ?_
    refine J_icmp_ge (t := 38) (q := 11) C0 dX6_nextSign_8 (by decide) rfl hf (fun c1 hf => ?_) (fun c1 hf => ?_)
    · exact t_X6_nextSign_B38_k1 C1     σ (hT) (hE) (h0)  hf
    · refine J_aload_n (q := 12) C0 0 rfl rfl dX6_nextSign_11 rfl trivial ?_
      refine J_getR (q := 15) C0 fl_X6_9_1 rfl (h0) rfl dX6_nextSign_12 rfl ?_
      refine J_aload_n (q := 16) C0 0 rfl rfl dX6_nextSign_15 rfl trivial ?_
      refine J_getI (q := 19) C0 fl_X6_19_1 rfl (h0) rfl dX6_nextSign_16 rfl ?_
      refine K_some hf (fun b5 hb5 hf => ?_)
      have ab5 : is_A σ b5 12 := ((sg_T.op hT (j := 0) (h0) rfl)) b5 hb5
      refine K_chk hf (fun c6 hf => ?_)
      refine J_iald (q := 20) C0 hb5 (ab5) c6 dX6_nextSign_19 rfl ?_
      refine J_bipush (q := 22) (v := 32) C0 dX6_nextSign_20 rfl rfl ?_
      refine J_icmp_ne (t := 38) (q := 25) C0 dX6_nextSign_22 (by decide) rfl hf (fun c7 hf => ?_) (fun c7 hf => ?_)
      · exact t_X6_nextSign_B38_k1 C1     σ (hT) (hE) (h0)  hf
      · refine J_aload_n (q := 26) C0 0 rfl rfl dX6_nextSign_25 rfl trivial ?_
        refine J_dup (q := 27) C0 dX6_nextSign_26 rfl rfl ?_
        refine J_getI (q := 30) C0 fl_X6_19_1 rfl (h0) rfl dX6_nextSign_27 rfl ?_
        refine J_iconst (q := 31) (v := 1) C0 dX6_nextSign_30 rfl rfl ?_
        refine J_iadd (q := 32) C0 dX6_nextSign_31 rfl ?_
        refine J_putI (q := 35) C0 fl_X6_19_1 rfl (h0) rfl dX6_nextSign_32 rfl ?_
        refine J_goto (q := 0) C0 dX6_nextSign_35 (by decide) ?_
        exact ih  (put_I σ a0 2 ((sg_I σ a0 2) + (1))) ((hT).putI) ((hE).putI) ((h0).putI)  hf
set_option maxHeartbeats 4000000 in
set_option maxRecDepth 100000 in
theorem t_X6_nextSign_k1 (N : Nat) (a0 : Nat) {σ : Sg} (hT : sg_T σ) (h0 : is_A σ a0 1) {r : (Int32 × Sg)} (hf : f_X6_nextSign N a0  σ = some r) : Ct yX6_nextSign cX6_nextSign 1 (some .int) 0 0 0 0 [vr (some a0)] σ (fun r_ τ_ => (r_ = some (vi r.1)) ∧ τ_ = r.2 ∧ sg_T τ_ ∧ sg_E σ τ_) := by
  refine Ct.of (by decide +kernel) (Nat.le_of_ble_eq_true rfl) (fun Γ C1 => ?_)
  have C0 := C1.1
  have hE : sg_E σ σ := sg_E.rf
  unfold f_X6_nextSign at hf
  show J_ Γ 0 [(0, vr (some a0))] [] σ 0 0
  exact t_X6_nextSign_L0_k1 C1    N  σ (hT) (hE) (h0)  hf
set_option maxHeartbeats 4000000 in
set_option maxRecDepth 100000 in
theorem t_X6_nextSign_B38_k3 {N : Nat} {a0 : Nat} {Γ : Gm} {σ0 : Sg} {r : (Int32 × Sg)} (C1 : CM Γ cX6_nextSign RX6 1 (some .int) 0 0 0 0 (fun r_ τ_ => (r_ = some (vi r.1)) ∧ τ_ = r.2 ∧ sg_T τ_ ∧ sg_E σ0 τ_)) (σ : Sg) (hT : sg_T σ) (hE : sg_E σ0 σ) (h0 : is_A σ a0 3) (hf : f_X6_nextSign_B38 N a0   σ = some r) : J_ Γ 38 [(0, vr (some a0))] [] σ 0 0 := by
  have C0 := C1.1
  unfold f_X6_nextSign_B38 at hf
  refine J_aload_n (q := 39) C0 0 rfl rfl dX6_nextSign_38 rfl trivial ?_
  refine J_getI (q := 42) C0 fl_X6_19_3 rfl (h0) rfl dX6_nextSign_39 rfl ?_
  refine J_aload_n (q := 43) C0 0 rfl rfl dX6_nextSign_42 rfl trivial ?_
  refine J_getI (q := 46) C0 fl_X6_15_3 rfl (h0) rfl dX6_nextSign_43 rfl ?_
  refine J_icmp_ge (t := 61) (q := 49) C0 dX6_nextSign_46 (by decide) rfl hf (fun c2 hf => ?_) (fun c2 hf => ?_)
  · refine J_iconst (q := 62) (v := (-1)) C0 dX6_nextSign_61 rfl rfl ?_
    obtain rfl := Option.some.inj hf; exact J_iret C1 dX6_nextSign_62 rfl (Nat.zero_le _) (Nat.zero_le _) ⟨rfl, rfl, hT, hE⟩
  · refine J_aload_n (q := 50) C0 0 rfl rfl dX6_nextSign_49 rfl trivial ?_
    refine J_getR (q := 53) C0 fl_X6_9_3 rfl (h0) rfl dX6_nextSign_50 rfl ?_
    refine J_aload_n (q := 54) C0 0 rfl rfl dX6_nextSign_53 rfl trivial ?_
    refine J_getI (q := 57) C0 fl_X6_19_3 rfl (h0) rfl dX6_nextSign_54 rfl ?_
    refine K_some hf (fun b3 hb3 hf => ?_)
    have ab3 : is_A σ b3 12 := ((sg_T.op hT (j := 0) (h0) rfl)) b3 hb3
    refine K_chk hf (fun c4 hf => ?_)
    refine J_iald (q := 58) C0 hb3 (ab3) c4 dX6_nextSign_57 rfl ?_
    refine J_goto (q := 62) C0 dX6_nextSign_58 (by decide) ?_
    obtain rfl := Option.some.inj hf; exact J_iret C1 dX6_nextSign_62 rfl (Nat.zero_le _) (Nat.zero_le _) ⟨rfl, rfl, hT, hE⟩
set_option maxHeartbeats 4000000 in
set_option maxRecDepth 100000 in
theorem t_X6_nextSign_L0_k3 {N : Nat} {a0 : Nat} {Γ : Gm} {σ0 : Sg} {r : (Int32 × Sg)} (C1 : CM Γ cX6_nextSign RX6 1 (some .int) 0 0 0 0 (fun r_ τ_ => (r_ = some (vi r.1)) ∧ τ_ = r.2 ∧ sg_T τ_ ∧ sg_E σ0 τ_)) : ∀ (n : Nat) (σ : Sg), sg_T σ → sg_E σ0 σ → is_A σ a0 3 → f_X6_nextSign_L0 N a0  n  σ = some r → J_ Γ 0 [(0, vr (some a0))] [] σ 0 0 := by
  have C0 := C1.1
  intro n
  induction n with
  | zero => intro  σ hT hE h0  hf; unfold f_X6_nextSign_L0 at hf; cases hf
  | succ n ih =>
    intro  σ hT hE h0  hf
    rw [f_X6_nextSign_L0] at hf
    refine J_aload_n (q := 1) C0 0 rfl rfl dX6_nextSign_0 rfl trivial ?_
    refine J_getI (q := 4) C0 fl_X6_19_3 rfl (h0) rfl dX6_nextSign_1 rfl ?_
    refine J_aload_n (q := 5) C0 0 rfl rfl dX6_nextSign_4 rfl trivial ?_
    refine J_getI (q := 8) C0 fl_X6_15_3 rfl (h0) rfl dX6_nextSign_5 rfl ?_
    refine J_icmp_ge (t := 38) (q := 11) C0 dX6_nextSign_8 (by decide) rfl hf (fun c1 hf => ?_) (fun c1 hf => ?_)
    · exact t_X6_nextSign_B38_k3 C1     σ (hT) (hE) (h0)  hf
    · refine J_aload_n (q := 12) C0 0 rfl rfl dX6_nextSign_11 rfl trivial ?_
      refine J_getR (q := 15) C0 fl_X6_9_3 rfl (h0) rfl dX6_nextSign_12 rfl ?_
      refine J_aload_n (q := 16) C0 0 rfl rfl dX6_nextSign_15 rfl trivial ?_
      refine J_getI (q := 19) C0 fl_X6_19_3 rfl (h0) rfl dX6_nextSign_16 rfl ?_
      refine K_some hf (fun b5 hb5 hf => ?_)
      have ab5 : is_A σ b5 12 := ((sg_T.op hT (j := 0) (h0) rfl)) b5 hb5
      refine K_chk hf (fun c6 hf => ?_)
      refine J_iald (q := 20) C0 hb5 (ab5) c6 dX6_nextSign_19 rfl ?_
      refine J_bipush (q := 22) (v := 32) C0 dX6_nextSign_20 rfl rfl ?_
      refine J_icmp_ne (t := 38) (q := 25) C0 dX6_nextSign_22 (by decide) rfl hf (fun c7 hf => ?_) (fun c7 hf => ?_)
      · exact t_X6_nextSign_B38_k3 C1     σ (hT) (hE) (h0)  hf
      · refine J_aload_n (q := 26) C0 0 rfl rfl dX6_nextSign_25 rfl trivial ?_
        refine J_dup (q := 27) C0 dX6_nextSign_26 rfl rfl ?_
        refine J_getI (q := 30) C0 fl_X6_19_3 rfl (h0) rfl dX6_nextSign_27 rfl ?_
        refine J_iconst (q := 31) (v := 1) C0 dX6_nextSign_30 rfl rfl ?_
        refine J_iadd (q := 32) C0 dX6_nextSign_31 rfl ?_
        refine J_putI (q := 35) C0 fl_X6_19_3 rfl (h0) rfl dX6_nextSign_32 rfl ?_
        refine J_goto (q := 0) C0 dX6_nextSign_35 (by decide) ?_
        exact ih  (put_I σ a0 2 ((sg_I σ a0 2) + (1))) ((hT).putI) ((hE).putI) ((h0).putI)  hf
set_option maxHeartbeats 4000000 in
set_option maxRecDepth 100000 in
theorem t_X6_nextSign_k3 (N : Nat) (a0 : Nat) {σ : Sg} (hT : sg_T σ) (h0 : is_A σ a0 3) {r : (Int32 × Sg)} (hf : f_X6_nextSign N a0  σ = some r) : Ct yX6_nextSign cX6_nextSign 1 (some .int) 0 0 0 0 [vr (some a0)] σ (fun r_ τ_ => (r_ = some (vi r.1)) ∧ τ_ = r.2 ∧ sg_T τ_ ∧ sg_E σ τ_) := by
  refine Ct.of (by decide +kernel) (Nat.le_of_ble_eq_true rfl) (fun Γ C1 => ?_)
  have C0 := C1.1
  have hE : sg_E σ σ := sg_E.rf
  unfold f_X6_nextSign at hf
  show J_ Γ 0 [(0, vr (some a0))] [] σ 0 0
  exact t_X6_nextSign_L0_k3 C1    N  σ (hT) (hE) (h0)  hf
set_option maxHeartbeats 4000000 in
set_option maxRecDepth 100000 in
theorem t_X6_nextSign_B38_k8 {N : Nat} {a0 : Nat} {Γ : Gm} {σ0 : Sg} {r : (Int32 × Sg)} (C1 : CM Γ cX6_nextSign RX6 1 (some .int) 0 0 0 0 (fun r_ τ_ => (r_ = some (vi r.1)) ∧ τ_ = r.2 ∧ sg_T τ_ ∧ sg_E σ0 τ_)) (σ : Sg) (hT : sg_T σ) (hE : sg_E σ0 σ) (h0 : is_A σ a0 8) (hf : f_X6_nextSign_B38 N a0   σ = some r) : J_ Γ 38 [(0, vr (some a0))] [] σ 0 0 := by
  have C0 := C1.1
  unfold f_X6_nextSign_B38 at hf
  refine J_aload_n (q := 39) C0 0 rfl rfl dX6_nextSign_38 rfl trivial ?_
  refine J_getI (q := 42) C0 fl_X6_19_8 rfl (h0) rfl dX6_nextSign_39 rfl ?_
  refine J_aload_n (q := 43) C0 0 rfl rfl dX6_nextSign_42 rfl trivial ?_
  refine J_getI (q := 46) C0 fl_X6_15_8 rfl (h0) rfl dX6_nextSign_43 rfl ?_
  refine J_icmp_ge (t := 61) (q := 49) C0 dX6_nextSign_46 (by decide) rfl hf (fun c2 hf => ?_) (fun c2 hf => ?_)
  · refine J_iconst (q := 62) (v := (-1)) C0 dX6_nextSign_61 rfl rfl ?_
    obtain rfl := Option.some.inj hf; exact J_iret C1 dX6_nextSign_62 rfl (Nat.zero_le _) (Nat.zero_le _) ⟨rfl, rfl, hT, hE⟩
  · refine J_aload_n (q := 50) C0 0 rfl rfl dX6_nextSign_49 rfl trivial ?_
    refine J_getR (q := 53) C0 fl_X6_9_8 rfl (h0) rfl dX6_nextSign_50 rfl ?_
    refine J_aload_n (q := 54) C0 0 rfl rfl dX6_nextSign_53 rfl trivial ?_
    refine J_getI (q := 57) C0 fl_X6_19_8 rfl (h0) rfl dX6_nextSign_54 rfl ?_
    refine K_some hf (fun b3 hb3 hf => ?_)
    have ab3 : is_A σ b3 12 := ((sg_T.op hT (j := 0) (h0) rfl)) b3 hb3
    refine K_chk hf (fun c4 hf => ?_)
    refine J_iald (q := 58) C0 hb3 (ab3) c4 dX6_nextSign_57 rfl ?_
    refine J_goto (q := 62) C0 dX6_nextSign_58 (by decide) ?_
    obtain rfl := Option.some.inj hf; exact J_iret C1 dX6_nextSign_62 rfl (Nat.zero_le _) (Nat.zero_le _) ⟨rfl, rfl, hT, hE⟩
set_option maxHeartbeats 4000000 in
set_option maxRecDepth 100000 in
theorem t_X6_nextSign_L0_k8 {N : Nat} {a0 : Nat} {Γ : Gm} {σ0 : Sg} {r : (Int32 × Sg)} (C1 : CM Γ cX6_nextSign RX6 1 (some .int) 0 0 0 0 (fun r_ τ_ => (r_ = some (vi r.1)) ∧ τ_ = r.2 ∧ sg_T τ_ ∧ sg_E σ0 τ_)) : ∀ (n : Nat) (σ : Sg), sg_T σ → sg_E σ0 σ → is_A σ a0 8 → f_X6_nextSign_L0 N a0  n  σ = some r → J_ Γ 0 [(0, vr (some a0))] [] σ 0 0 := by
  have C0 := C1.1
  intro n
  induction n with
  | zero => intro  σ hT hE h0  hf; unfold f_X6_nextSign_L0 at hf; cases hf
  | succ n ih =>
    intro  σ hT hE h0  hf
    rw [f_X6_nextSign_L0] at hf
    refine J_aload_n (q := 1) C0 0 rfl rfl dX6_nextSign_0 rfl trivial ?_
    refine J_getI (q := 4) C0 fl_X6_19_8 rfl (h0) rfl dX6_nextSign_1 rfl ?_
    refine J_aload_n (q := 5) C0 0 rfl rfl dX6_nextSign_4 rfl trivial ?_
    refine J_getI (q := 8) C0 fl_X6_15_8 rfl (h0) rfl dX6_nextSign_5 rfl ?_
    refine J_icmp_ge (t := 38) (q := 11) C0 dX6_nextSign_8 (by decide) rfl hf (fun c1 hf => ?_) (fun c1 hf => ?_)
    · exact t_X6_nextSign_B38_k8 C1     σ (hT) (hE) (h0)  hf
    · refine J_aload_n (q := 12) C0 0 rfl rfl dX6_nextSign_11 rfl trivial ?_
      refine J_getR (q := 15) C0 fl_X6_9_8 rfl (h0) rfl dX6_nextSign_12 rfl ?_
      refine J_aload_n (q := 16) C0 0 rfl rfl dX6_nextSign_15 rfl trivial ?_
      refine J_getI (q := 19) C0 fl_X6_19_8 rfl (h0) rfl dX6_nextSign_16 rfl ?_
      refine K_some hf (fun b5 hb5 hf => ?_)
      have ab5 : is_A σ b5 12 := ((sg_T.op hT (j := 0) (h0) rfl)) b5 hb5
      refine K_chk hf (fun c6 hf => ?_)
      refine J_iald (q := 20) C0 hb5 (ab5) c6 dX6_nextSign_19 rfl ?_
      refine J_bipush (q := 22) (v := 32) C0 dX6_nextSign_20 rfl rfl ?_
      refine J_icmp_ne (t := 38) (q := 25) C0 dX6_nextSign_22 (by decide) rfl hf (fun c7 hf => ?_) (fun c7 hf => ?_)
      · exact t_X6_nextSign_B38_k8 C1     σ (hT) (hE) (h0)  hf
      · refine J_aload_n (q := 26) C0 0 rfl rfl dX6_nextSign_25 rfl trivial ?_
        refine J_dup (q := 27) C0 dX6_nextSign_26 rfl rfl ?_
        refine J_getI (q := 30) C0 fl_X6_19_8 rfl (h0) rfl dX6_nextSign_27 rfl ?_
        refine J_iconst (q := 31) (v := 1) C0 dX6_nextSign_30 rfl rfl ?_
        refine J_iadd (q := 32) C0 dX6_nextSign_31 rfl ?_
        refine J_putI (q := 35) C0 fl_X6_19_8 rfl (h0) rfl dX6_nextSign_32 rfl ?_
        refine J_goto (q := 0) C0 dX6_nextSign_35 (by decide) ?_
        exact ih  (put_I σ a0 2 ((sg_I σ a0 2) + (1))) ((hT).putI) ((hE).putI) ((h0).putI)  hf
set_option maxHeartbeats 4000000 in
set_option maxRecDepth 100000 in
theorem t_X6_nextSign_k8 (N : Nat) (a0 : Nat) {σ : Sg} (hT : sg_T σ) (h0 : is_A σ a0 8) {r : (Int32 × Sg)} (hf : f_X6_nextSign N a0  σ = some r) : Ct yX6_nextSign cX6_nextSign 1 (some .int) 0 0 0 0 [vr (some a0)] σ (fun r_ τ_ => (r_ = some (vi r.1)) ∧ τ_ = r.2 ∧ sg_T τ_ ∧ sg_E σ τ_) := by
  refine Ct.of (by decide +kernel) (Nat.le_of_ble_eq_true rfl) (fun Γ C1 => ?_)
  have C0 := C1.1
  have hE : sg_E σ σ := sg_E.rf
  unfold f_X6_nextSign at hf
  show J_ Γ 0 [(0, vr (some a0))] [] σ 0 0
  exact t_X6_nextSign_L0_k8 C1    N  σ (hT) (hE) (h0)  hf
