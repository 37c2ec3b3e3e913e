def f_X11_shownNow_L4 (N : Nat) (a0 : Nat) : Nat → Int32 → Int32 → Sg → Option Int32
  | 0, _, _, _ => none
  | n + 1, v1, v2, σ =>
  Option.bind (sg_R σ a0 13) fun b1 =>
  if (v2) < (sg_I σ b1 1) then
  (Option.bind (sg_R σ b1 0) fun b4 =>
  if (v2) < 0 ∨ sg_L σ b4 ≤ (v2).toNatClampNeg then none else
  Option.bind (f_X11_shown a0 (sg_R σ b4 (v2).toNatClampNeg) σ) fun p6 =>
  f_X11_shownNow_L4 N a0 n ((v1) ||| ((1) <<< ((p6) &&& 31))) (v2 + 1) σ)
  else
  (Option.bind (f_X11_withoutBlank (v1) ) fun p3 =>
  some (p3))
def f_X11_shownNow (N : Nat) (a0 : Nat) (σ : Sg) : Option Int32 :=
  f_X11_shownNow_L4 N a0 N (0) (0) σ
set_option maxHeartbeats 4000000 in
set_option maxRecDepth 100000 in
theorem t_X11_shownNow_L4 {N : Nat} {a0 : Nat} {Γ : Gm} {σ : Sg} {r : Int32} (C1 : CM Γ cX11_shownNow RX11 3 (some .int) 4 85 0 0 (fun r_ τ_ => (r_ = some (vi r)) ∧ τ_ = σ)) (hT : sg_T σ) (h0 : is_A σ a0 10) : ∀ (n : Nat) (v1 : Int32) (v2 : Int32), f_X11_shownNow_L4 N a0  n v1 v2 σ = some r → J_ Γ 4 [(0, vr (some a0)), (1, vi (v1)), (2, vi (v2))] [] σ 0 0 := by
  have C0 := C1.1
  intro n
  induction n with
  | zero => intro v1 v2  hf; unfold f_X11_shownNow_L4 at hf; cases hf
  | succ n ih =>
    intro v1 v2  hf
    rw [f_X11_shownNow_L4] at hf
    refine J_iload_n (q := 5) C0 2 rfl rfl dX11_shownNow_4 rfl ?_
    refine J_aload_n (q := 6) C0 0 rfl rfl dX11_shownNow_5 rfl trivial ?_
    refine J_getR (q := 9) C0 fl_X11_75_10 rfl (h0) rfl dX11_shownNow_6 rfl ?_
    refine K_some hf (fun b1 hb1 hf => ?_)
    have ab1 : is_A σ b1 6 := ((sg_T.op hT (j := 13) (h0) rfl)) b1 hb1
    refine J_getI (q := 12) C0 fl_X11_150_6 hb1 (ab1) rfl dX11_shownNow_9 rfl ?_
    refine J_icmp_ge (t := 39) (q := 15) C0 dX11_shownNow_12 (by decide) rfl hf (fun c2 hf => ?_) (fun c2 hf => ?_)
    · refine J_iload_n (q := 40) C0 1 rfl rfl dX11_shownNow_39 rfl ?_
      refine K_some hf (fun p3 hp3 hf => ?_)
      refine J_callS (q := 43) (as := [vi (v1)]) (rest := []) C0 (t_X11_withoutBlank (v1)  hp3) ml_X11_withoutBlank lk_X11_373 sm_X11_withoutBlank dX11_shownNow_40 rfl rfl rfl (by simp [ac_]) C1.room (by decide) (by decide) (by decide) (by decide) (fun r_ τ_ hQ => ?_)
      obtain ⟨rfl, ht_⟩ := hQ; have ht_ := ht_.symm; subst ht_
      show J_ Γ 43 [(0, vr (some a0)), (1, vi (v1)), (2, vi (v2))] [vi (p3)] σ 0 0
      obtain rfl := Option.some.inj hf; exact J_iret C1 dX11_shownNow_43 rfl (Nat.zero_le _) (Nat.zero_le _) ⟨rfl, rfl⟩
    · refine J_iload_n (q := 16) C0 1 rfl rfl dX11_shownNow_15 rfl ?_
      refine J_iconst (q := 17) (v := 1) C0 dX11_shownNow_16 rfl rfl ?_
      refine J_aload_n (q := 18) C0 0 rfl rfl dX11_shownNow_17 rfl trivial ?_
      refine J_aload_n (q := 19) C0 0 rfl rfl dX11_shownNow_18 rfl trivial ?_
      refine J_getR (q := 22) C0 fl_X11_75_10 rfl (h0) rfl dX11_shownNow_19 rfl ?_
      refine J_getR (q := 25) C0 fl_X11_153_6 hb1 (ab1) rfl dX11_shownNow_22 rfl ?_
      refine J_iload_n (q := 26) C0 2 rfl rfl dX11_shownNow_25 rfl ?_
      refine K_some hf (fun b4 hb4 hf => ?_)
      have ab4 : is_A σ b4 18 := ((sg_T.op hT (j := 0) (ab1) rfl)) b4 hb4
      refine K_chk hf (fun c5 hf => ?_)
      refine J_aald (q := 27) C0 hb4 (ab4) (by decide) c5 dX11_shownNow_26 rfl ?_
      refine K_some hf (fun p6 hp6 hf => ?_)
      refine J_callV (q := 30) (ci := 10) (as := [vr (sg_R σ b4 (v2).toNatClampNeg)]) (rest := [vi (1), vi (v1)]) C0 rfl (h0) (t_X11_shown a0 (sg_R σ b4 (v2).toNatClampNeg) (hT) (h0) ((sg_T.op hT (j := (v2).toNatClampNeg) (ab4) rfl)) hp6) ml_X11_shown lk_X11_215 im_X11_shown se_X11_shown rfl (by decide) dX11_shownNow_27 rfl rfl rfl (by simp [ac_]) C1.room (by decide) (by decide) (by decide) (by decide) (fun r_ τ_ hQ => ?_)
      obtain ⟨rfl, ht_⟩ := hQ; have ht_ := ht_.symm; subst ht_
      show J_ Γ 30 [(0, vr (some a0)), (1, vi (v1)), (2, vi (v2))] [vi (p6), vi (1), vi (v1)] σ 0 0
      refine J_ishl (q := 31) C0 dX11_shownNow_30 rfl ?_
      refine J_ior (q := 32) C0 dX11_shownNow_31 rfl ?_
      refine J_istore_n (q := 33) (lv' := [(1, vi ((v1) ||| ((1) <<< ((p6) &&& 31)))), (0, vr (some a0)), (2, vi (v2))]) C0 rfl (G_nl C1 (by decide)) dX11_shownNow_32 rfl rfl ?_
      refine J_iinc (q := 36) (v := v2 + 1) (lv' := [(2, vi (v2 + 1)), (1, vi ((v1) ||| ((1) <<< ((p6) &&& 31)))), (0, vr (some a0))]) C0 2 rfl rfl (G_nl C1 (by decide)) dX11_shownNow_33 rfl rfl ?_
      refine J_goto (q := 4) C0 dX11_shownNow_36 (by decide) ?_
      refine J_sub (lv' := [(0, vr (some a0)), (1, vi ((v1) ||| ((1) <<< ((p6) &&& 31)))), (2, vi (v2 + 1))]) [2, 1, 0] rfl ?_
      exact ih ((v1) ||| ((1) <<< ((p6) &&& 31))) (v2 + 1)   hf
set_option maxHeartbeats 4000000 in
set_option maxRecDepth 100000 in
theorem t_X11_shownNow (N : Nat) (a0 : Nat) {σ : Sg} (hT : sg_T σ) (h0 : is_A σ a0 10) {r : Int32} (hf : f_X11_shownNow N a0  σ = some r) : Ct yX11_shownNow cX11_shownNow 3 (some .int) 4 85 0 0 [vr (some a0)] σ (fun r_ τ_ => (r_ = some (vi r)) ∧ τ_ = σ) := by
  refine Ct.of (by decide +kernel) (Nat.le_of_ble_eq_true rfl) (fun Γ C1 => ?_)
  have C0 := C1.1
  unfold f_X11_shownNow at hf
  show J_ Γ 0 [(0, vr (some a0))] [] σ 0 0
  refine J_iconst (q := 1) (v := 0) C0 dX11_shownNow_0 rfl rfl ?_
  refine J_istore_n (q := 2) (lv' := [(1, vi (0)), (0, vr (some a0))]) C0 rfl (G_nl C1 (by decide)) dX11_shownNow_1 rfl rfl ?_
  refine J_iconst (q := 3) (v := 0) C0 dX11_shownNow_2 rfl rfl ?_
  refine J_istore_n (q := 4) (lv' := [(2, vi (0)), (1, vi (0)), (0, vr (some a0))]) C0 rfl (G_nl C1 (by decide)) dX11_shownNow_3 rfl rfl ?_
  refine J_sub (lv' := [(0, vr (some a0)), (1, vi (0)), (2, vi (0))]) [2, 1, 0] rfl ?_
  exact t_X11_shownNow_L4 C1 (hT) (h0)    N (0) (0)  hf
def f_X11_twins_B84 (N : Nat) (a0 : Nat) (k4 : Int32 → Int32 → Option Int32) (v1 : Int32) (v2 : Int32) (σ : Sg) : Option Int32 :=
  k4 (v1) (v2 + 1)
def f_X11_twins_B76 (N : Nat) (a0 : Nat) (k4 : Int32 → Int32 → Option Int32) (k34 : Int32 → Int32 → Int32 → Int32 → Option Int32) (v2 : Int32) (v3 : Int32) (v4 : Int32) (s0 : Int32) (s1 : Int32) (σ : Sg) : Option Int32 :=
  k34 ((s1) + (s0)) (v2) (v3) (v4 + 1)
def f_X11_twins_L34 (N : Nat) (a0 : Nat) (k4 : Int32 → Int32 → Option Int32) : Nat → Int32 → Int32 → Int32 → Int32 → Sg → Option Int32
  | 0, _, _, _, _, _ => none
  | n + 1, v1, v2, v3, v4, σ =>
  Option.bind (sg_R σ a0 13) fun b6 =>
  if (v4) < (sg_I σ b6 1) then
  (if (v3) = (26) then
  (f_X11_twins_B84 N a0 k4 (v1) (v2) σ)
  else
  (Option.bind (sg_R σ b6 0) fun b9 =>
  if (v4) < 0 ∨ sg_L σ b9 ≤ (v4).toNatClampNeg then none else
  Option.bind (f_X11_shown a0 (sg_R σ b9 (v4).toNatClampNeg) σ) fun p11 =>
  if (p11) = (v3) then
  (f_X11_twins_B76 N a0 k4 (fun v1 v2 v3 v4 => f_X11_twins_L34 N a0 k4 n v1 v2 v3 v4 σ) (v2) (v3) (v4) (1) (v1) σ)
  else
  (f_X11_twins_B76 N a0 k4 (fun v1 v2 v3 v4 => f_X11_twins_L34 N a0 k4 n v1 v2 v3 v4 σ) (v2) (v3) (v4) (0) (v1) σ)))
  else
  (f_X11_twins_B84 N a0 k4 (v1) (v2) σ)
def f_X11_twins_L4 (N : Nat) (a0 : Nat) : Nat → Int32 → Int32 → Sg → Option Int32
  | 0, _, _, _ => none
  | n + 1, v1, v2, σ =>
  Option.bind (sg_R σ a0 13) fun b1 =>
  if (v2) < (sg_I σ b1 1) then
  (Option.bind (sg_R σ b1 0) fun b3 =>
  if (v2) < 0 ∨ sg_L σ b3 ≤ (v2).toNatClampNeg then none else
  Option.bind (f_X11_shown a0 (sg_R σ b3 (v2).toNatClampNeg) σ) fun p5 =>
  f_X11_twins_L34 N a0 (fun v1 v2 => f_X11_twins_L4 N a0 n v1 v2 σ) N (v1) (v2) (p5) ((v2) + (1)) σ)
  else
  (some (v1))
def f_X11_twins (N : Nat) (a0 : Nat) (σ : Sg) : Option Int32 :=
  f_X11_twins_L4 N a0 N (0) (0) σ
set_option maxHeartbeats 4000000 in
set_option maxRecDepth 100000 in
theorem t_X11_twins_B84 {N : Nat} {a0 : Nat} {Γ : Gm} {σ : Sg} {r : Int32} (C1 : CM Γ cX11_twins RX11 5 (some .int) 4 85 0 0 (fun r_ τ_ => (r_ = some (vi r)) ∧ τ_ = σ)) (hT : sg_T σ) (h0 : is_A σ a0 10) (k4 : Int32 → Int32 → Option Int32) (hk4 : ∀ (v1 : Int32) (v2 : Int32) , k4 v1 v2 = some r → J_ Γ 4 [(0, vr (some a0)), (1, vi v1), (2, vi v2)] [] σ 0 0) (v1 : Int32) (v2 : Int32) (hf : f_X11_twins_B84 N a0 k4  v1 v2 σ = some r) : J_ Γ 84 [(0, vr (some a0)), (1, vi (v1)), (2, vi (v2))] [] σ 0 0 := by
  have C0 := C1.1
  unfold f_X11_twins_B84 at hf
  refine J_iinc (q := 87) (v := v2 + 1) (lv' := [(2, vi (v2 + 1)), (0, vr (some a0)), (1, vi (v1))]) C0 2 rfl rfl (G_nl C1 (by decide)) dX11_twins_84 rfl rfl ?_
  refine J_goto (q := 4) C0 dX11_twins_87 (by decide) ?_
  refine J_sub (lv' := [(0, vr (some a0)), (1, vi (v1)), (2, vi (v2 + 1))]) [1, 2, 0] rfl ?_
  exact hk4 (v1) (v2 + 1)  hf
set_option maxHeartbeats 4000000 in
set_option maxRecDepth 100000 in
theorem t_X11_twins_B76 {N : Nat} {a0 : Nat} {Γ : Gm} {σ : Sg} {r : Int32} (C1 : CM Γ cX11_twins RX11 5 (some .int) 4 85 0 0 (fun r_ τ_ => (r_ = some (vi r)) ∧ τ_ = σ)) (hT : sg_T σ) (h0 : is_A σ a0 10) (k4 : Int32 → Int32 → Option Int32) (k34 : Int32 → Int32 → Int32 → Int32 → Option Int32) (hk4 : ∀ (v1 : Int32) (v2 : Int32) , k4 v1 v2 = some r → J_ Γ 4 [(0, vr (some a0)), (1, vi v1), (2, vi v2)] [] σ 0 0) (hk34 : ∀ (v1 : Int32) (v2 : Int32) (v3 : Int32) (v4 : Int32) , k34 v1 v2 v3 v4 = some r → J_ Γ 34 [(0, vr (some a0)), (1, vi v1), (2, vi v2), (3, vi v3), (4, vi v4)] [] σ 0 0) (v2 : Int32) (v3 : Int32) (v4 : Int32) (s0 : Int32) (s1 : Int32) (hf : f_X11_twins_B76 N a0 k4 k34  v2 v3 v4 s0 s1 σ = some r) : J_ Γ 76 [(0, vr (some a0)), (2, vi (v2)), (3, vi (v3)), (4, vi (v4))] [vi (s0), vi (s1)] σ 0 0 := by
  have C0 := C1.1
  unfold f_X11_twins_B76 at hf
  refine J_iadd (q := 77) C0 dX11_twins_76 rfl ?_
  refine J_istore_n (q := 78) (lv' := [(1, vi ((s1) + (s0))), (0, vr (some a0)), (2, vi (v2)), (3, vi (v3)), (4, vi (v4))]) C0 rfl (G_nl C1 (by decide)) dX11_twins_77 rfl rfl ?_
  refine J_iinc (q := 81) (v := v4 + 1) (lv' := [(4, vi (v4 + 1)), (1, vi ((s1) + (s0))), (0, vr (some a0)), (2, vi (v2)), (3, vi (v3))]) C0 4 rfl rfl (G_nl C1 (by decide)) dX11_twins_78 rfl rfl ?_
  refine J_goto (q := 34) C0 dX11_twins_81 (by decide) ?_
  refine J_sub (lv' := [(0, vr (some a0)), (1, vi ((s1) + (s0))), (2, vi (v2)), (3, vi (v3)), (4, vi (v4 + 1))]) [2, 1, 3, 4, 0] rfl ?_
  exact hk34 ((s1) + (s0)) (v2) (v3) (v4 + 1)  hf
set_option maxHeartbeats 4000000 in
set_option maxRecDepth 100000 in
theorem t_X11_twins_L34 {N : Nat} {a0 : Nat} {Γ : Gm} {σ : Sg} {r : Int32} (C1 : CM Γ cX11_twins RX11 5 (some .int) 4 85 0 0 (fun r_ τ_ => (r_ = some (vi r)) ∧ τ_ = σ)) (hT : sg_T σ) (h0 : is_A σ a0 10) (k4 : Int32 → Int32 → Option Int32) (hk4 : ∀ (v1 : Int32) (v2 : Int32) , k4 v1 v2 = some r → J_ Γ 4 [(0, vr (some a0)), (1, vi v1), (2, vi v2)] [] σ 0 0) : ∀ (n : Nat) (v1 : Int32) (v2 : Int32) (v3 : Int32) (v4 : Int32), f_X11_twins_L34 N a0 k4  n v1 v2 v3 v4 σ = some r → J_ Γ 34 [(0, vr (some a0)), (1, vi (v1)), (2, vi (v2)), (3, vi (v3)), (4, vi (v4))] [] σ 0 0 := by
  have C0 := C1.1
  intro n
  induction n with
  | zero => intro v1 v2 v3 v4  hf; unfold f_X11_twins_L34 at hf; cases hf
  | succ n ih =>
    intro v1 v2 v3 v4  hf
    rw [f_X11_twins_L34] at hf
    refine J_iload (q := 36) C0 4 rfl dX11_twins_34 rfl ?_
    refine J_aload_n (q := 37) C0 0 rfl rfl dX11_twins_36 rfl trivial ?_
    refine J_getR (q := 40) C0 fl_X11_75_10 rfl (h0) rfl dX11_twins_37 rfl ?_
    refine K_some hf (fun b6 hb6 hf => ?_)
    have ab6 : is_A σ b6 6 := ((sg_T.op hT (j := 13) (h0) rfl)) b6 hb6
    refine J_getI (q := 43) C0 fl_X11_150_6 hb6 (ab6) rfl dX11_twins_40 rfl ?_
    refine J_icmp_ge (t := 84) (q := 46) C0 dX11_twins_43 (by decide) rfl hf (fun c7 hf => ?_) (fun c7 hf => ?_)
    · refine J_sub (lv' := [(0, vr (some a0)), (1, vi (v1)), (2, vi (v2))]) [0, 1, 2] rfl ?_
      exact t_X11_twins_B84 C1 (hT) (h0) k4  hk4  (v1) (v2)  hf
    · refine J_iload_n (q := 47) C0 3 rfl rfl dX11_twins_46 rfl ?_
      refine J_bipush (q := 49) (v := 26) C0 dX11_twins_47 rfl rfl ?_
      refine J_icmp_eq (t := 84) (q := 52) C0 dX11_twins_49 (by decide) rfl hf (fun c8 hf => ?_) (fun c8 hf => ?_)
      · refine J_sub (lv' := [(0, vr (some a0)), (1, vi (v1)), (2, vi (v2))]) [0, 1, 2] rfl ?_
        exact t_X11_twins_B84 C1 (hT) (h0) k4  hk4  (v1) (v2)  hf
      · refine J_iload_n (q := 53) C0 1 rfl rfl dX11_twins_52 rfl ?_
        refine J_aload_n (q := 54) C0 0 rfl rfl dX11_twins_53 rfl trivial ?_
        refine J_aload_n (q := 55) C0 0 rfl rfl dX11_twins_54 rfl trivial ?_
        refine J_getR (q := 58) C0 fl_X11_75_10 rfl (h0) rfl dX11_twins_55 rfl ?_
        refine J_getR (q := 61) C0 fl_X11_153_6 hb6 (ab6) rfl dX11_twins_58 rfl ?_
        refine J_iload (q := 63) C0 4 rfl dX11_twins_61 rfl ?_
        refine K_some hf (fun b9 hb9 hf => ?_)
        have ab9 : is_A σ b9 18 := ((sg_T.op hT (j := 0) (ab6) rfl)) b9 hb9
        refine K_chk hf (fun c10 hf => ?_)
        refine J_aald (q := 64) C0 hb9 (ab9) (by decide) c10 dX11_twins_63 rfl ?_
        refine K_some hf (fun p11 hp11 hf => ?_)
        refine J_callV (q := 67) (ci := 10) (as := [vr (sg_R σ b9 (v4).toNatClampNeg)]) (rest := [vi (v1)]) C0 rfl (h0) (t_X11_shown a0 (sg_R σ b9 (v4).toNatClampNeg) (hT) (h0) ((sg_T.op hT (j := (v4).toNatClampNeg) (ab9) rfl)) hp11) ml_X11_shown lk_X11_215 im_X11_shown se_X11_shown rfl (by decide) dX11_twins_64 rfl rfl rfl (by simp [ac_]) C1.room (by decide) (by decide) (by decide) (by decide) (fun r_ τ_ hQ => ?_)
        obtain ⟨rfl, ht_⟩ := hQ; have ht_ := ht_.symm; subst ht_
        show J_ Γ 67 [(0, vr (some a0)), (1, vi (v1)), (2, vi (v2)), (3, vi (v3)), (4, vi (v4))] [vi (p11), vi (v1)] σ 0 0
        refine J_iload_n (q := 68) C0 3 rfl rfl dX11_twins_67 rfl ?_
        refine J_icmp_ne (t := 75) (q := 71) C0 dX11_twins_68 (by decide) rfl hf (fun c12 hf => ?_) (fun c12 hf => ?_)
        · refine J_iconst (q := 76) (v := 0) C0 dX11_twins_75 rfl rfl ?_
          refine J_sub (lv' := [(0, vr (some a0)), (2, vi (v2)), (3, vi (v3)), (4, vi (v4))]) [0, 2, 3, 4] rfl ?_
          exact t_X11_twins_B76 C1 (hT) (h0) k4  (fun v1 v2 v3 v4 => f_X11_twins_L34 N a0 k4 n v1 v2 v3 v4 σ)  hk4  ih  (v2) (v3) (v4) (0) (v1)  hf
        · refine J_iconst (q := 72) (v := 1) C0 dX11_twins_71 rfl rfl ?_
          refine J_goto (q := 76) C0 dX11_twins_72 (by decide) ?_
          refine J_sub (lv' := [(0, vr (some a0)), (2, vi (v2)), (3, vi (v3)), (4, vi (v4))]) [0, 2, 3, 4] rfl ?_
          exact t_X11_twins_B76 C1 (hT) (h0) k4  (fun v1 v2 v3 v4 => f_X11_twins_L34 N a0 k4 n v1 v2 v3 v4 σ)  hk4  ih  (v2) (v3) (v4) (1) (v1)  hf
set_option maxHeartbeats 4000000 in
set_option maxRecDepth 100000 in
theorem t_X11_twins_L4 {N : Nat} {a0 : Nat} {Γ : Gm} {σ : Sg} {r : Int32} (C1 : CM Γ cX11_twins RX11 5 (some .int) 4 85 0 0 (fun r_ τ_ => (r_ = some (vi r)) ∧ τ_ = σ)) (hT : sg_T σ) (h0 : is_A σ a0 10) : ∀ (n : Nat) (v1 : Int32) (v2 : Int32), f_X11_twins_L4 N a0  n v1 v2 σ = some r → J_ Γ 4 [(0, vr (some a0)), (1, vi (v1)), (2, vi (v2))] [] σ 0 0 := by
  have C0 := C1.1
  intro n
  induction n with
  | zero => intro v1 v2  hf; unfold f_X11_twins_L4 at hf; cases hf
  | succ n ih =>
    intro v1 v2  hf
    rw [f_X11_twins_L4] at hf
    refine J_iload_n (q := 5) C0 2 rfl rfl dX11_twins_4 rfl ?_
    refine J_aload_n (q := 6) C0 0 rfl rfl dX11_twins_5 rfl trivial ?_
    refine J_getR (q := 9) C0 fl_X11_75_10 rfl (h0) rfl dX11_twins_6 rfl ?_
    refine K_some hf (fun b1 hb1 hf => ?_)
    have ab1 : is_A σ b1 6 := ((sg_T.op hT (j := 13) (h0) rfl)) b1 hb1
    refine J_getI (q := 12) C0 fl_X11_150_6 hb1 (ab1) rfl dX11_twins_9 rfl ?_
    refine J_icmp_ge (t := 90) (q := 15) C0 dX11_twins_12 (by decide) rfl hf (fun c2 hf => ?_) (fun c2 hf => ?_)
    · refine J_iload_n (q := 91) C0 1 rfl rfl dX11_twins_90 rfl ?_
      obtain rfl := Option.some.inj hf; exact J_iret C1 dX11_twins_91 rfl (Nat.zero_le _) (Nat.zero_le _) ⟨rfl, rfl⟩
    · refine J_aload_n (q := 16) C0 0 rfl rfl dX11_twins_15 rfl trivial ?_
      refine J_aload_n (q := 17) C0 0 rfl rfl dX11_twins_16 rfl trivial ?_
      refine J_getR (q := 20) C0 fl_X11_75_10 rfl (h0) rfl dX11_twins_17 rfl ?_
      refine J_getR (q := 23) C0 fl_X11_153_6 hb1 (ab1) rfl dX11_twins_20 rfl ?_
      refine J_iload_n (q := 24) C0 2 rfl rfl dX11_twins_23 rfl ?_
      refine K_some hf (fun b3 hb3 hf => ?_)
      have ab3 : is_A σ b3 18 := ((sg_T.op hT (j := 0) (ab1) rfl)) b3 hb3
      refine K_chk hf (fun c4 hf => ?_)
      refine J_aald (q := 25) C0 hb3 (ab3) (by decide) c4 dX11_twins_24 rfl ?_
      refine K_some hf (fun p5 hp5 hf => ?_)
      refine J_callV (q := 28) (ci := 10) (as := [vr (sg_R σ b3 (v2).toNatClampNeg)]) (rest := []) C0 rfl (h0) (t_X11_shown a0 (sg_R σ b3 (v2).toNatClampNeg) (hT) (h0) ((sg_T.op hT (j := (v2).toNatClampNeg) (ab3) rfl)) hp5) ml_X11_shown lk_X11_215 im_X11_shown se_X11_shown rfl (by decide) dX11_twins_25 rfl rfl rfl (by simp [ac_]) C1.room (by decide) (by decide) (by decide) (by decide) (fun r_ τ_ hQ => ?_)
      obtain ⟨rfl, ht_⟩ := hQ; have ht_ := ht_.symm; subst ht_
      show J_ Γ 28 [(0, vr (some a0)), (1, vi (v1)), (2, vi (v2))] [vi (p5)] σ 0 0
      refine J_istore_n (q := 29) (lv' := [(3, vi (p5)), (0, vr (some a0)), (1, vi (v1)), (2, vi (v2))]) C0 rfl (G_nl C1 (by decide)) dX11_twins_28 rfl rfl ?_
      refine J_iload_n (q := 30) C0 3 rfl rfl dX11_twins_29 rfl ?_
      refine J_iconst (q := 31) (v := 1) C0 dX11_twins_30 rfl rfl ?_
      refine J_iadd (q := 32) C0 dX11_twins_31 rfl ?_
      refine J_istore (q := 34) (lv' := [(4, vi ((v2) + (1))), (3, vi (p5)), (0, vr (some a0)), (1, vi (v1)), (2, vi (v2))]) C0 (G_nl C1 (by decide)) dX11_twins_32 rfl rfl ?_
      refine J_sub (lv' := [(0, vr (some a0)), (1, vi (v1)), (2, vi (v2)), (3, vi (p5)), (4, vi ((v2) + (1)))]) [2, 3, 4, 1, 0] rfl ?_
      exact t_X11_twins_L34 C1 (hT) (h0)  (fun v1 v2 => f_X11_twins_L4 N a0 n v1 v2 σ)  ih  N (v1) (v2) (p5) ((v2) + (1))  hf
set_option maxHeartbeats 4000000 in
set_option maxRecDepth 100000 in
theorem t_X11_twins (N : Nat) (a0 : Nat) {σ : Sg} (hT : sg_T σ) (h0 : is_A σ a0 10) {r : Int32} (hf : f_X11_twins N a0  σ = some r) : Ct yX11_twins cX11_twins 5 (some .int) 4 85 0 0 [vr (some a0)] σ (fun r_ τ_ => (r_ = some (vi r)) ∧ τ_ = σ) := by
  refine Ct.of (by decide +kernel) (Nat.le_of_ble_eq_true rfl) (fun Γ C1 => ?_)
  have C0 := C1.1
  unfold f_X11_twins at hf
  show J_ Γ 0 [(0, vr (some a0))] [] σ 0 0
  refine J_iconst (q := 1) (v := 0) C0 dX11_twins_0 rfl rfl ?_
  refine J_istore_n (q := 2) (lv' := [(1, vi (0)), (0, vr (some a0))]) C0 rfl (G_nl C1 (by decide)) dX11_twins_1 rfl rfl ?_
  refine J_iconst (q := 3) (v := 0) C0 dX11_twins_2 rfl rfl ?_
  refine J_istore_n (q := 4) (lv' := [(2, vi (0)), (1, vi (0)), (0, vr (some a0))]) C0 rfl (G_nl C1 (by decide)) dX11_twins_3 rfl rfl ?_
  refine J_sub (lv' := [(0, vr (some a0)), (1, vi (0)), (2, vi (0))]) [2, 1, 0] rfl ?_
  exact t_X11_twins_L4 C1 (hT) (h0)    N (0) (0)  hf
def f_X11_turningBack_B38 (N : Nat) (a0 : Nat) (k4 : Int32 → Int32 → Option Int32) (v2 : Int32) (s0 : Int32) (s1 : Int32) (σ : Sg) : Option Int32 :=
  k4 ((s1) ||| (s0)) (v2 + 1)
def f_X11_turningBack_L4 (N : Nat) (a0 : Nat) : Nat → Int32 → Int32 → Sg → Option Int32
  | 0, _, _, _ => none
  | n + 1, v1, v2, σ =>
  Option.bind (sg_R σ a0 13) fun b1 =>
  if (v2) < (sg_I σ b1 1) then
  (Option.bind (sg_R σ b1 0) fun b3 =>
  if (v2) < 0 ∨ sg_L σ b3 ≤ (v2).toNatClampNeg then none else
  Option.bind (sg_R σ b3 (v2).toNatClampNeg) fun b5 =>
  if (sg_I σ b5 1) = (0) then
  (f_X11_turningBack_B38 N a0 (fun v1 v2 => f_X11_turningBack_L4 N a0 n v1 v2 σ) (v2) (0) (v1) σ)
  else
  (f_X11_turningBack_B38 N a0 (fun v1 v2 => f_X11_turningBack_L4 N a0 n v1 v2 σ) (v2) ((1) <<< ((v2) &&& 31)) (v1) σ))
  else
  (some (v1))
def f_X11_turningBack (N : Nat) (a0 : Nat) (σ : Sg) : Option Int32 :=
  f_X11_turningBack_L4 N a0 N (0) (0) σ
set_option maxHeartbeats 4000000 in
set_option maxRecDepth 100000 in
theorem t_X11_turningBack_B38 {N : Nat} {a0 : Nat} {Γ : Gm} {σ : Sg} {r : Int32} (C1 : CM Γ cX11_turningBack RX11 3 (some .int) 0 0 0 0 (fun r_ τ_ => (r_ = some (vi r)) ∧ τ_ = σ)) (hT : sg_T σ) (h0 : is_A σ a0 10) (k4 : Int32 → Int32 → Option Int32) (hk4 : ∀ (v1 : Int32) (v2 : Int32) , k4 v1 v2 = some r → J_ Γ 4 [(0, vr (some a0)), (1, vi v1), (2, vi v2)] [] σ 0 0) (v2 : Int32) (s0 : Int32) (s1 : Int32) (hf : f_X11_turningBack_B38 N a0 k4  v2 s0 s1 σ = some r) : J_ Γ 38 [(0, vr (some a0)), (2, vi (v2))] [vi (s0), vi (s1)] σ 0 0 := by
  have C0 := C1.1
  unfold f_X11_turningBack_B38 at hf
  refine J_ior (q := 39) C0 dX11_turningBack_38 rfl ?_
  refine J_istore_n (q := 40) (lv' := [(1, vi ((s1) ||| (s0))), (0, vr (some a0)), (2, vi (v2))]) C0 rfl (G_nl C1 (by decide)) dX11_turningBack_39 rfl rfl ?_
  refine J_iinc (q := 43) (v := v2 + 1) (lv' := [(2, vi (v2 + 1)), (1, vi ((s1) ||| (s0))), (0, vr (some a0))]) C0 2 rfl rfl (G_nl C1 (by decide)) dX11_turningBack_40 rfl rfl ?_
  refine J_goto (q := 4) C0 dX11_turningBack_43 (by decide) ?_
  refine J_sub (lv' := [(0, vr (some a0)), (1, vi ((s1) ||| (s0))), (2, vi (v2 + 1))]) [2, 1, 0] rfl ?_
  exact hk4 ((s1) ||| (s0)) (v2 + 1)  hf
set_option maxHeartbeats 4000000 in
set_option maxRecDepth 100000 in
theorem t_X11_turningBack_L4 {N : Nat} {a0 : Nat} {Γ : Gm} {σ : Sg} {r : Int32} (C1 : CM Γ cX11_turningBack RX11 3 (some .int) 0 0 0 0 (fun r_ τ_ => (r_ = some (vi r)) ∧ τ_ = σ)) (hT : sg_T σ) (h0 : is_A σ a0 10) : ∀ (n : Nat) (v1 : Int32) (v2 : Int32), f_X11_turningBack_L4 N a0  n v1 v2 σ = some r → J_ Γ 4 [(0, vr (some a0)), (1, vi (v1)), (2, vi (v2))] [] σ 0 0 := by
  have C0 := C1.1
  intro n
  induction n with
  | zero => intro v1 v2  hf; unfold f_X11_turningBack_L4 at hf; cases hf
  | succ n ih =>
    intro v1 v2  hf
    rw [f_X11_turningBack_L4] at hf
    refine J_iload_n (q := 5) C0 2 rfl rfl dX11_turningBack_4 rfl ?_
    refine J_aload_n (q := 6) C0 0 rfl rfl dX11_turningBack_5 rfl trivial ?_
    refine J_getR (q := 9) C0 fl_X11_75_10 rfl (h0) rfl dX11_turningBack_6 rfl ?_
    refine K_some hf (fun b1 hb1 hf => ?_)
    have ab1 : is_A σ b1 6 := ((sg_T.op hT (j := 13) (h0) rfl)) b1 hb1
    refine J_getI (q := 12) C0 fl_X11_150_6 hb1 (ab1) rfl dX11_turningBack_9 rfl ?_
    refine J_icmp_ge (t := 46) (q := 15) C0 dX11_turningBack_12 (by decide) rfl hf (fun c2 hf => ?_) (fun c2 hf => ?_)
    · refine J_iload_n (q := 47) C0 1 rfl rfl dX11_turningBack_46 rfl ?_
      obtain rfl := Option.some.inj hf; exact J_iret C1 dX11_turningBack_47 rfl (Nat.zero_le _) (Nat.zero_le _) ⟨rfl, rfl⟩
    · refine J_iload_n (q := 16) C0 1 rfl rfl dX11_turningBack_15 rfl ?_
      refine J_aload_n (q := 17) C0 0 rfl rfl dX11_turningBack_16 rfl trivial ?_
      refine J_getR (q := 20) C0 fl_X11_75_10 rfl (h0) rfl dX11_turningBack_17 rfl ?_
      refine J_getR (q := 23) C0 fl_X11_153_6 hb1 (ab1) rfl dX11_turningBack_20 rfl ?_
      refine J_iload_n (q := 24) C0 2 rfl rfl dX11_turningBack_23 rfl ?_
      refine K_some hf (fun b3 hb3 hf => ?_)
      have ab3 : is_A σ b3 18 := ((sg_T.op hT (j := 0) (ab1) rfl)) b3 hb3
      refine K_chk hf (fun c4 hf => ?_)
      refine J_aald (q := 25) C0 hb3 (ab3) (by decide) c4 dX11_turningBack_24 rfl ?_
      refine K_some hf (fun b5 hb5 hf => ?_)
      have ab5 : is_A σ b5 9 := ((sg_T.op hT (j := (v2).toNatClampNeg) (ab3) rfl)) b5 hb5
      refine J_getI (q := 28) C0 fl_X11_209_9 hb5 (ab5) rfl dX11_turningBack_25 rfl ?_
      refine J_if_eq (t := 37) (q := 31) C0 dX11_turningBack_28 (by decide) rfl hf (fun c6 hf => ?_) (fun c6 hf => ?_)
      · refine J_iconst (q := 38) (v := 0) C0 dX11_turningBack_37 rfl rfl ?_
        refine J_sub (lv' := [(0, vr (some a0)), (2, vi (v2))]) [0, 2] rfl ?_
        exact t_X11_turningBack_B38 C1 (hT) (h0) (fun v1 v2 => f_X11_turningBack_L4 N a0 n v1 v2 σ)  ih  (v2) (0) (v1)  hf
      · refine J_iconst (q := 32) (v := 1) C0 dX11_turningBack_31 rfl rfl ?_
        refine J_iload_n (q := 33) C0 2 rfl rfl dX11_turningBack_32 rfl ?_
        refine J_ishl (q := 34) C0 dX11_turningBack_33 rfl ?_
        refine J_goto (q := 38) C0 dX11_turningBack_34 (by decide) ?_
        refine J_sub (lv' := [(0, vr (some a0)), (2, vi (v2))]) [0, 2] rfl ?_
        exact t_X11_turningBack_B38 C1 (hT) (h0) (fun v1 v2 => f_X11_turningBack_L4 N a0 n v1 v2 σ)  ih  (v2) ((1) <<< ((v2) &&& 31)) (v1)  hf
set_option maxHeartbeats 4000000 in
set_option maxRecDepth 100000 in
theorem t_X11_turningBack (N : Nat) (a0 : Nat) {σ : Sg} (hT : sg_T σ) (h0 : is_A σ a0 10) {r : Int32} (hf : f_X11_turningBack N a0  σ = some r) : Ct yX11_turningBack cX11_turningBack 3 (some .int) 0 0 0 0 [vr (some a0)] σ (fun r_ τ_ => (r_ = some (vi r)) ∧ τ_ = σ) := by
  refine Ct.of (by decide +kernel) (Nat.le_of_ble_eq_true rfl) (fun Γ C1 => ?_)
  have C0 := C1.1
  unfold f_X11_turningBack at hf
  show J_ Γ 0 [(0, vr (some a0))] [] σ 0 0
  refine J_iconst (q := 1) (v := 0) C0 dX11_turningBack_0 rfl rfl ?_
  refine J_istore_n (q := 2) (lv' := [(1, vi (0)), (0, vr (some a0))]) C0 rfl (G_nl C1 (by decide)) dX11_turningBack_1 rfl rfl ?_
  refine J_iconst (q := 3) (v := 0) C0 dX11_turningBack_2 rfl rfl ?_
  refine J_istore_n (q := 4) (lv' := [(2, vi (0)), (1, vi (0)), (0, vr (some a0))]) C0 rfl (G_nl C1 (by decide)) dX11_turningBack_3 rfl rfl ?_
  refine J_sub (lv' := [(0, vr (some a0)), (1, vi (0)), (2, vi (0))]) [2, 1, 0] rfl ?_
  exact t_X11_turningBack_L4 C1 (hT) (h0)    N (0) (0)  hf
def f_X11_bareNow_B42 (N : Nat) (a0 : Nat) (k4 : Int32 → Int32 → Option Int32) (v2 : Int32) (s0 : Int32) (s1 : Int32) (σ : Sg) : Option Int32 :=
  k4 ((s1) ||| (s0)) (v2 + 1)
def f_X11_bareNow_L4 (N : Nat) (a0 : Nat) : Nat → Int32 → Int32 → Sg → Option Int32
  | 0, _, _, _ => none
  | n + 1, v1, v2, σ =>
  Option.bind (sg_R σ a0 13) fun b1 =>
  if (v2) < (sg_I σ b1 1) then
  (Option.bind (sg_R σ b1 0) fun b3 =>
  if (v2) < 0 ∨ sg_L σ b3 ≤ (v2).toNatClampNeg then none else
  Option.bind (sg_R σ b3 (v2).toNatClampNeg) fun b5 =>
  Option.bind (f_X11_isStrip a0 (sg_I σ b5 3) σ) fun p6 =>
  if (p6) = (0) then
  (f_X11_bareNow_B42 N a0 (fun v1 v2 => f_X11_bareNow_L4 N a0 n v1 v2 σ) (v2) ((1) <<< ((v2) &&& 31)) (v1) σ)
  else
  (f_X11_bareNow_B42 N a0 (fun v1 v2 => f_X11_bareNow_L4 N a0 n v1 v2 σ) (v2) (0) (v1) σ))
  else
  (some (v1))
def f_X11_bareNow (N : Nat) (a0 : Nat) (σ : Sg) : Option Int32 :=
  f_X11_bareNow_L4 N a0 N (0) (0) σ
set_option maxHeartbeats 4000000 in
set_option maxRecDepth 100000 in
theorem t_X11_bareNow_B42 {N : Nat} {a0 : Nat} {Γ : Gm} {σ : Sg} {r : Int32} (C1 : CM Γ cX11_bareNow RX11 3 (some .int) 1 21 0 0 (fun r_ τ_ => (r_ = some (vi r)) ∧ τ_ = σ)) (hT : sg_T σ) (h0 : is_A σ a0 10) (k4 : Int32 → Int32 → Option Int32) (hk4 : ∀ (v1 : Int32) (v2 : Int32) , k4 v1 v2 = some r → J_ Γ 4 [(0, vr (some a0)), (1, vi v1), (2, vi v2)] [] σ 0 0) (v2 : Int32) (s0 : Int32) (s1 : Int32) (hf : f_X11_bareNow_B42 N a0 k4  v2 s0 s1 σ = some r) : J_ Γ 42 [(0, vr (some a0)), (2, vi (v2))] [vi (s0), vi (s1)] σ 0 0 := by
  have C0 := C1.1
  unfold f_X11_bareNow_B42 at hf
  refine J_ior (q := 43) C0 dX11_bareNow_42 rfl ?_
  refine J_istore_n (q := 44) (lv' := [(1, vi ((s1) ||| (s0))), (0, vr (some a0)), (2, vi (v2))]) C0 rfl (G_nl C1 (by decide)) dX11_bareNow_43 rfl rfl ?_
  refine J_iinc (q := 47) (v := v2 + 1) (lv' := [(2, vi (v2 + 1)), (1, vi ((s1) ||| (s0))), (0, vr (some a0))]) C0 2 rfl rfl (G_nl C1 (by decide)) dX11_bareNow_44 rfl rfl ?_
  refine J_goto (q := 4) C0 dX11_bareNow_47 (by decide) ?_
  refine J_sub (lv' := [(0, vr (some a0)), (1, vi ((s1) ||| (s0))), (2, vi (v2 + 1))]) [2, 1, 0] rfl ?_
  exact hk4 ((s1) ||| (s0)) (v2 + 1)  hf
set_option maxHeartbeats 4000000 in
set_option maxRecDepth 100000 in
theorem t_X11_bareNow_L4 {N : Nat} {a0 : Nat} {Γ : Gm} {σ : Sg} {r : Int32} (C1 : CM Γ cX11_bareNow RX11 3 (some .int) 1 21 0 0 (fun r_ τ_ => (r_ = some (vi r)) ∧ τ_ = σ)) (hT : sg_T σ) (h0 : is_A σ a0 10) : ∀ (n : Nat) (v1 : Int32) (v2 : Int32), f_X11_bareNow_L4 N a0  n v1 v2 σ = some r → J_ Γ 4 [(0, vr (some a0)), (1, vi (v1)), (2, vi (v2))] [] σ 0 0 := by
  have C0 := C1.1
  intro n
  induction n with
  | zero => intro v1 v2  hf; unfold f_X11_bareNow_L4 at hf; cases hf
  | succ n ih =>
    intro v1 v2  hf
    rw [f_X11_bareNow_L4] at hf
    refine J_iload_n (q := 5) C0 2 rfl rfl dX11_bareNow_4 rfl ?_
    refine J_aload_n (q := 6) C0 0 rfl rfl dX11_bareNow_5 rfl trivial ?_
    refine J_getR (q := 9) C0 fl_X11_75_10 rfl (h0) rfl dX11_bareNow_6 rfl ?_
    refine K_some hf (fun b1 hb1 hf => ?_)
    have ab1 : is_A σ b1 6 := ((sg_T.op hT (j := 13) (h0) rfl)) b1 hb1
    refine J_getI (q := 12) C0 fl_X11_150_6 hb1 (ab1) rfl dX11_bareNow_9 rfl ?_
    refine J_icmp_ge (t := 50) (q := 15) C0 dX11_bareNow_12 (by decide) rfl hf (fun c2 hf => ?_) (fun c2 hf => ?_)
    · refine J_iload_n (q := 51) C0 1 rfl rfl dX11_bareNow_50 rfl ?_
      obtain rfl := Option.some.inj hf; exact J_iret C1 dX11_bareNow_51 rfl (Nat.zero_le _) (Nat.zero_le _) ⟨rfl, rfl⟩
    · refine J_iload_n (q := 16) C0 1 rfl rfl dX11_bareNow_15 rfl ?_
      refine J_aload_n (q := 17) C0 0 rfl rfl dX11_bareNow_16 rfl trivial ?_
      refine J_aload_n (q := 18) C0 0 rfl rfl dX11_bareNow_17 rfl trivial ?_
      refine J_getR (q := 21) C0 fl_X11_75_10 rfl (h0) rfl dX11_bareNow_18 rfl ?_
      refine J_getR (q := 24) C0 fl_X11_153_6 hb1 (ab1) rfl dX11_bareNow_21 rfl ?_
      refine J_iload_n (q := 25) C0 2 rfl rfl dX11_bareNow_24 rfl ?_
      refine K_some hf (fun b3 hb3 hf => ?_)
      have ab3 : is_A σ b3 18 := ((sg_T.op hT (j := 0) (ab1) rfl)) b3 hb3
      refine K_chk hf (fun c4 hf => ?_)
      refine J_aald (q := 26) C0 hb3 (ab3) (by decide) c4 dX11_bareNow_25 rfl ?_
      refine K_some hf (fun b5 hb5 hf => ?_)
      have ab5 : is_A σ b5 9 := ((sg_T.op hT (j := (v2).toNatClampNeg) (ab3) rfl)) b5 hb5
      refine J_getI (q := 29) C0 fl_X11_212_9 hb5 (ab5) rfl dX11_bareNow_26 rfl ?_
      refine K_some hf (fun p6 hp6 hf => ?_)
      refine J_callV (q := 32) (ci := 10) (as := [vi (sg_I σ b5 3)]) (rest := [vi (v1)]) C0 rfl (h0) (t_X11_isStrip a0 (sg_I σ b5 3) (hT) (h0)  hp6) ml_X11_isStrip lk_X11_221 im_X11_isStrip se_X11_isStrip rfl (by decide) dX11_bareNow_29 rfl rfl rfl (by simp [ac_]) C1.room (by decide) (by decide) (by decide) (by decide) (fun r_ τ_ hQ => ?_)
      obtain ⟨⟨rfl, zp6⟩, ht_⟩ := hQ; have ht_ := ht_.symm; subst ht_
      show J_ Γ 32 [(0, vr (some a0)), (1, vi (v1)), (2, vi (v2))] [vi (p6), vi (v1)] σ 0 0
      refine J_if_eq (t := 39) (q := 35) C0 dX11_bareNow_32 (by decide) rfl hf (fun c7 hf => ?_) (fun c7 hf => ?_)
      · refine J_iconst (q := 40) (v := 1) C0 dX11_bareNow_39 rfl rfl ?_
        refine J_iload_n (q := 41) C0 2 rfl rfl dX11_bareNow_40 rfl ?_
        refine J_ishl (q := 42) C0 dX11_bareNow_41 rfl ?_
        refine J_sub (lv' := [(0, vr (some a0)), (2, vi (v2))]) [0, 2] rfl ?_
        exact t_X11_bareNow_B42 C1 (hT) (h0) (fun v1 v2 => f_X11_bareNow_L4 N a0 n v1 v2 σ)  ih  (v2) ((1) <<< ((v2) &&& 31)) (v1)  hf
      · refine J_iconst (q := 36) (v := 0) C0 dX11_bareNow_35 rfl rfl ?_
        refine J_goto (q := 42) C0 dX11_bareNow_36 (by decide) ?_
        refine J_sub (lv' := [(0, vr (some a0)), (2, vi (v2))]) [0, 2] rfl ?_
        exact t_X11_bareNow_B42 C1 (hT) (h0) (fun v1 v2 => f_X11_bareNow_L4 N a0 n v1 v2 σ)  ih  (v2) (0) (v1)  hf
set_option maxHeartbeats 4000000 in
set_option maxRecDepth 100000 in
theorem t_X11_bareNow (N : Nat) (a0 : Nat) {σ : Sg} (hT : sg_T σ) (h0 : is_A σ a0 10) {r : Int32} (hf : f_X11_bareNow N a0  σ = some r) : Ct yX11_bareNow cX11_bareNow 3 (some .int) 1 21 0 0 [vr (some a0)] σ (fun r_ τ_ => (r_ = some (vi r)) ∧ τ_ = σ) := by
  refine Ct.of (by decide +kernel) (Nat.le_of_ble_eq_true rfl) (fun Γ C1 => ?_)
  have C0 := C1.1
  unfold f_X11_bareNow at hf
  show J_ Γ 0 [(0, vr (some a0))] [] σ 0 0
  refine J_iconst (q := 1) (v := 0) C0 dX11_bareNow_0 rfl rfl ?_
  refine J_istore_n (q := 2) (lv' := [(1, vi (0)), (0, vr (some a0))]) C0 rfl (G_nl C1 (by decide)) dX11_bareNow_1 rfl rfl ?_
  refine J_iconst (q := 3) (v := 0) C0 dX11_bareNow_2 rfl rfl ?_
  refine J_istore_n (q := 4) (lv' := [(2, vi (0)), (1, vi (0)), (0, vr (some a0))]) C0 rfl (G_nl C1 (by decide)) dX11_bareNow_3 rfl rfl ?_
  refine J_sub (lv' := [(0, vr (some a0)), (1, vi (0)), (2, vi (0))]) [2, 1, 0] rfl ?_
  exact t_X11_bareNow_L4 C1 (hT) (h0)    N (0) (0)  hf
def f_X11_still_B43 (N : Nat) (a0 : Nat) (k4 : Int32 → Int32 → Sg → Option (Int32 × Sg)) (v2 : Int32) (s0 : Int32) (s1 : Int32) (σ : Sg) : Option (Int32 × Sg) :=
  k4 ((s1) ||| (s0)) (v2 + 1) σ
def f_X11_still_L4 (N : Nat) (a0 : Nat) : Nat → Int32 → Int32 → Sg → Option (Int32 × Sg)
  | 0, _, _, _ => none
  | n + 1, v1, v2, σ =>
  Option.bind (sg_R σ a0 13) fun b1 =>
  if (v2) < (sg_I σ b1 1) then
  (Option.bind (f_X11_nextPlace N a0 (v2) σ) fun p3 =>
  Option.bind (sg_R p3.2 a0 13) fun b4 =>
  Option.bind (sg_R p3.2 b4 0) fun b5 =>
  if (v2) < 0 ∨ sg_L p3.2 b5 ≤ (v2).toNatClampNeg then none else
  Option.bind (sg_R p3.2 b5 (v2).toNatClampNeg) fun b7 =>
  if (p3.1) = (sg_I p3.2 b7 2) then
  (f_X11_still_B43 N a0 (f_X11_still_L4 N a0 n) (v2) ((1) <<< ((v2) &&& 31)) (v1) (p3.2))
  else
  (f_X11_still_B43 N a0 (f_X11_still_L4 N a0 n) (v2) (0) (v1) (p3.2)))
  else
  (some (v1, σ))
def f_X11_still (N : Nat) (a0 : Nat) (σ : Sg) : Option (Int32 × Sg) :=
  f_X11_still_L4 N a0 N (0) (0) σ
set_option maxHeartbeats 4000000 in
set_option maxRecDepth 100000 in
theorem t_X11_still_B43 {N : Nat} {a0 : Nat} {Γ : Gm} {σ0 : Sg} {r : (Int32 × Sg)} (C1 : CM Γ cX11_still RX11 3 (some .int) 5 115 0 0 (fun r_ τ_ => (r_ = some (vi r.1)) ∧ τ_ = r.2 ∧ sg_T τ_ ∧ sg_E σ0 τ_)) (k4 : Int32 → Int32 → Sg → Option (Int32 × Sg)) (hk4 : ∀ (v1 : Int32) (v2 : Int32) (σ : Sg), sg_T σ → sg_E σ0 σ → is_A σ a0 10 → k4 v1 v2 σ = some r → J_ Γ 4 [(0, vr (some a0)), (1, vi v1), (2, vi v2)] [] σ 0 0) (v2 : Int32) (s0 : Int32) (s1 : Int32) (σ : Sg) (hT : sg_T σ) (hE : sg_E σ0 σ) (h0 : is_A σ a0 10) (hf : f_X11_still_B43 N a0 k4  v2 s0 s1 σ = some r) : J_ Γ 43 [(0, vr (some a0)), (2, vi (v2))] [vi (s0), vi (s1)] σ 0 0 := by
  have C0 := C1.1
  unfold f_X11_still_B43 at hf
  refine J_ior (q := 44) C0 dX11_still_43 rfl ?_
  refine J_istore_n (q := 45) (lv' := [(1, vi ((s1) ||| (s0))), (0, vr (some a0)), (2, vi (v2))]) C0 rfl (G_nl C1 (by decide)) dX11_still_44 rfl rfl ?_
  refine J_iinc (q := 48) (v := v2 + 1) (lv' := [(2, vi (v2 + 1)), (1, vi ((s1) ||| (s0))), (0, vr (some a0))]) C0 2 rfl rfl (G_nl C1 (by decide)) dX11_still_45 rfl rfl ?_
  refine J_goto (q := 4) C0 dX11_still_48 (by decide) ?_
  refine J_sub (lv' := [(0, vr (some a0)), (1, vi ((s1) ||| (s0))), (2, vi (v2 + 1))]) [2, 1, 0] rfl ?_
  exact hk4 ((s1) ||| (s0)) (v2 + 1) σ (hT) (hE)  (h0)  hf
set_option maxHeartbeats 4000000 in
set_option maxRecDepth 100000 in
theorem t_X11_still_L4 {N : Nat} {a0 : Nat} {Γ : Gm} {σ0 : Sg} {r : (Int32 × Sg)} (C1 : CM Γ cX11_still RX11 3 (some .int) 5 115 0 0 (fun r_ τ_ => (r_ = some (vi r.1)) ∧ τ_ = r.2 ∧ sg_T τ_ ∧ sg_E σ0 τ_)) : ∀ (n : Nat) (v1 : Int32) (v2 : Int32) (σ : Sg), sg_T σ → sg_E σ0 σ → is_A σ a0 10 → f_X11_still_L4 N a0  n v1 v2 σ = some r → J_ Γ 4 [(0, vr (some a0)), (1, vi (v1)), (2, vi (v2))] [] σ 0 0 := by
  have C0 := C1.1
  intro n
  induction n with
  | zero => intro v1 v2 σ hT hE h0  hf; unfold f_X11_still_L4 at hf; cases hf
  | succ n ih =>
    intro v1 v2 σ hT hE h0  hf
    rw [f_X11_still_L4] at hf
    refine J_iload_n (q := 5) C0 2 rfl rfl dX11_still_4 rfl ?_
    refine J_aload_n (q := 6) C0 0 rfl rfl dX11_still_5 rfl trivial ?_
    refine J_getR (q := 9) C0 fl_X11_75_10 rfl (h0) rfl dX11_still_6 rfl ?_
    refine K_some hf (fun b1 hb1 hf => ?_)
    have ab1 : is_A σ b1 6 := ((sg_T.op hT (j := 13) (h0) rfl)) b1 hb1
    refine J_getI (q := 12) C0 fl_X11_150_6 hb1 (ab1) rfl dX11_still_9 rfl ?_
    refine J_icmp_ge (t := 51) (q := 15) C0 dX11_still_12 (by decide) rfl hf (fun c2 hf => ?_) (fun c2 hf => ?_)
    · refine J_iload_n (q := 52) C0 1 rfl rfl dX11_still_51 rfl ?_
      obtain rfl := Option.some.inj hf; exact J_iret C1 dX11_still_52 rfl (Nat.zero_le _) (Nat.zero_le _) ⟨rfl, rfl, hT, hE⟩
    · refine J_iload_n (q := 16) C0 1 rfl rfl dX11_still_15 rfl ?_
      refine J_aload_n (q := 17) C0 0 rfl rfl dX11_still_16 rfl trivial ?_
      refine J_iload_n (q := 18) C0 2 rfl rfl dX11_still_17 rfl ?_
      refine K_some hf (fun p3 hp3 hf => ?_)
      refine J_callV (q := 21) (ci := 10) (as := [vi (v2)]) (rest := [vi (v1)]) C0 rfl (h0) (t_X11_nextPlace N a0 (v2) (hT) (h0)  hp3) ml_X11_nextPlace lk_X11_256 im_X11_nextPlace se_X11_nextPlace rfl (by decide) dX11_still_18 rfl rfl rfl (by simp [ac_]) C1.room (by decide) (by decide) (by decide) (by decide) (fun r_ τ_ hQ => ?_)
      obtain ⟨rfl, rfl, Tp3, Ep3⟩ := hQ
      show J_ Γ 21 [(0, vr (some a0)), (1, vi (v1)), (2, vi (v2))] [vi (p3.1), vi (v1)] p3.2 0 0
      refine J_aload_n (q := 22) C0 0 rfl rfl dX11_still_21 rfl trivial ?_
      refine J_getR (q := 25) C0 fl_X11_75_10 rfl ((Ep3.at h0)) rfl dX11_still_22 rfl ?_
      refine K_some hf (fun b4 hb4 hf => ?_)
      have ab4 : is_A p3.2 b4 6 := ((sg_T.op Tp3 (j := 13) ((Ep3.at h0)) rfl)) b4 hb4
      refine J_getR (q := 28) C0 fl_X11_153_6 hb4 (ab4) rfl dX11_still_25 rfl ?_
      refine J_iload_n (q := 29) C0 2 rfl rfl dX11_still_28 rfl ?_
      refine K_some hf (fun b5 hb5 hf => ?_)
      have ab5 : is_A p3.2 b5 18 := ((sg_T.op Tp3 (j := 0) (ab4) rfl)) b5 hb5
      refine K_chk hf (fun c6 hf => ?_)
      refine J_aald (q := 30) C0 hb5 (ab5) (by decide) c6 dX11_still_29 rfl ?_
      refine K_some hf (fun b7 hb7 hf => ?_)
      have ab7 : is_A p3.2 b7 9 := ((sg_T.op Tp3 (j := (v2).toNatClampNeg) (ab5) rfl)) b7 hb7
      refine J_getI (q := 33) C0 fl_X11_157_9 hb7 (ab7) rfl dX11_still_30 rfl ?_
      refine J_icmp_ne (t := 42) (q := 36) C0 dX11_still_33 (by decide) rfl hf (fun c8 hf => ?_) (fun c8 hf => ?_)
      · refine J_iconst (q := 43) (v := 0) C0 dX11_still_42 rfl rfl ?_
        refine J_sub (lv' := [(0, vr (some a0)), (2, vi (v2))]) [0, 2] rfl ?_
        exact t_X11_still_B43 C1  (f_X11_still_L4 N a0 n)  ih  (v2) (0) (v1) (p3.2) (Tp3) ((hE).tr Ep3) ((Ep3.at h0))  hf
      · refine J_iconst (q := 37) (v := 1) C0 dX11_still_36 rfl rfl ?_
        refine J_iload_n (q := 38) C0 2 rfl rfl dX11_still_37 rfl ?_
        refine J_ishl (q := 39) C0 dX11_still_38 rfl ?_
        refine J_goto (q := 43) C0 dX11_still_39 (by decide) ?_
        refine J_sub (lv' := [(0, vr (some a0)), (2, vi (v2))]) [0, 2] rfl ?_
        exact t_X11_still_B43 C1  (f_X11_still_L4 N a0 n)  ih  (v2) ((1) <<< ((v2) &&& 31)) (v1) (p3.2) (Tp3) ((hE).tr Ep3) ((Ep3.at h0))  hf
set_option maxHeartbeats 4000000 in
set_option maxRecDepth 100000 in
theorem t_X11_still (N : Nat) (a0 : Nat) {σ : Sg} (hT : sg_T σ) (h0 : is_A σ a0 10) {r : (Int32 × Sg)} (hf : f_X11_still N a0  σ = some r) : Ct yX11_still cX11_still 3 (some .int) 5 115 0 0 [vr (some a0)] σ (fun r_ τ_ => (r_ = some (vi r.1)) ∧ τ_ = r.2 ∧ sg_T τ_ ∧ sg_E σ τ_) := by
  refine Ct.of (by decide +kernel) (Nat.le_of_ble_eq_true rfl) (fun Γ C1 => ?_)
  have C0 := C1.1
  have hE : sg_E σ σ := sg_E.rf
  unfold f_X11_still at hf
  show J_ Γ 0 [(0, vr (some a0))] [] σ 0 0
  refine J_iconst (q := 1) (v := 0) C0 dX11_still_0 rfl rfl ?_
  refine J_istore_n (q := 2) (lv' := [(1, vi (0)), (0, vr (some a0))]) C0 rfl (G_nl C1 (by decide)) dX11_still_1 rfl rfl ?_
  refine J_iconst (q := 3) (v := 0) C0 dX11_still_2 rfl rfl ?_
  refine J_istore_n (q := 4) (lv' := [(2, vi (0)), (1, vi (0)), (0, vr (some a0))]) C0 rfl (G_nl C1 (by decide)) dX11_still_3 rfl rfl ?_
  refine J_sub (lv' := [(0, vr (some a0)), (1, vi (0)), (2, vi (0))]) [2, 1, 0] rfl ?_
  exact t_X11_still_L4 C1    N (0) (0) σ (hT) (hE) (h0)  hf
def f_X11_byPlace_B116 (N : Nat) (a0 : Nat) (k6 : Int32 → Int32 → Int32 → Option Int32) (v1 : Int32) (v3 : Int32) (v4 : Int32) (s0 : Int32) (s1 : Int32) (σ : Sg) : Option Int32 :=
  k6 (((v1) * (10)) + (v4)) ((s1) ||| (s0)) (v3 + 1)
def f_X11_byPlace_B95 (N : Nat) (a0 : Nat) (k6 : Int32 → Int32 → Int32 → Option Int32) (k23 : Int32 → Int32 → Int32 → Int32 → Int32 → Option Int32) (v1 : Int32) (v2 : Int32) (v3 : Int32) (v4 : Int32) (v5 : Int32) (σ : Sg) : Option Int32 :=
  k23 (v1) (v2) (v3) (v4) (v5 + 1)
def f_X11_byPlace_B91 (N : Nat) (a0 : Nat) (k6 : Int32 → Int32 → Int32 → Option Int32) (k23 : Int32 → Int32 → Int32 → Int32 → Int32 → Option Int32) (v1 : Int32) (v2 : Int32) (v3 : Int32) (v5 : Int32) (σ : Sg) : Option Int32 :=
  f_X11_byPlace_B95 N a0 k6 k23 (v1) (v2) (v3) (v5) (v5) σ
def f_X11_byPlace_B49 (N : Nat) (a0 : Nat) (k6 : Int32 → Int32 → Int32 → Option Int32) (k23 : Int32 → Int32 → Int32 → Int32 → Int32 → Option Int32) (v1 : Int32) (v2 : Int32) (v3 : Int32) (v4 : Int32) (v5 : Int32) (s0 : Int32) (σ : Sg) : Option Int32 :=
  if (s0) = (0) then
  (f_X11_byPlace_B95 N a0 k6 k23 (v1) (v2) (v3) (v4) (v5) σ)
  else
  (if (v4) = ((-1)) then
  (f_X11_byPlace_B91 N a0 k6 k23 (v1) (v2) (v3) (v5) σ)
  else
  (Option.bind (sg_R σ a0 13) fun b9 =>
  Option.bind (sg_R σ b9 0) fun b10 =>
  if (v5) < 0 ∨ sg_L σ b10 ≤ (v5).toNatClampNeg then none else
  Option.bind (sg_R σ b10 (v5).toNatClampNeg) fun b12 =>
  if (v4) < 0 ∨ sg_L σ b10 ≤ (v4).toNatClampNeg then none else
  Option.bind (sg_R σ b10 (v4).toNatClampNeg) fun b14 =>
  if (sg_I σ b12 2) < (sg_I σ b14 2) then
  (f_X11_byPlace_B91 N a0 k6 k23 (v1) (v2) (v3) (v5) σ)
  else
  (f_X11_byPlace_B95 N a0 k6 k23 (v1) (v2) (v3) (v4) (v5) σ)))
def f_X11_byPlace_L23 (N : Nat) (a0 : Nat) (k6 : Int32 → Int32 → Int32 → Option Int32) : Nat → Int32 → Int32 → Int32 → Int32 → Int32 → Sg → Option Int32
  | 0, _, _, _, _, _, _ => none
  | n + 1, v1, v2, v3, v4, v5, σ =>
  Option.bind (sg_R σ a0 13) fun b3 =>
  if (v5) < (sg_I σ b3 1) then
  (if (((v2) >>> ((v5) &&& 31)) &&& (1)) = (0) then
  (f_X11_byPlace_B49 N a0 k6 (fun v1 v2 v3 v4 v5 => f_X11_byPlace_L23 N a0 k6 n v1 v2 v3 v4 v5 σ) (v1) (v2) (v3) (v4) (v5) (1) σ)
  else
  (f_X11_byPlace_B49 N a0 k6 (fun v1 v2 v3 v4 v5 => f_X11_byPlace_L23 N a0 k6 n v1 v2 v3 v4 v5 σ) (v1) (v2) (v3) (v4) (v5) (0) σ))
  else
  (if (v4) = ((-1)) then
  (f_X11_byPlace_B116 N a0 k6 (v1) (v3) (v4) (0) (v2) σ)
  else
  (f_X11_byPlace_B116 N a0 k6 (v1) (v3) (v4) ((1) <<< ((v4) &&& 31)) (v2) σ))
def f_X11_byPlace_L6 (N : Nat) (a0 : Nat) : Nat → Int32 → Int32 → Int32 → Sg → Option Int32
  | 0, _, _, _, _ => none
  | n + 1, v1, v2, v3, σ =>
  Option.bind (sg_R σ a0 13) fun b1 =>
  if (v3) < (sg_I σ b1 1) then
  (f_X11_byPlace_L23 N a0 (fun v1 v2 v3 => f_X11_byPlace_L6 N a0 n v1 v2 v3 σ) N (v1) (v2) (v3) ((-1)) (0) σ)
  else
  (some (v1))
def f_X11_byPlace (N : Nat) (a0 : Nat) (σ : Sg) : Option Int32 :=
  f_X11_byPlace_L6 N a0 N (0) (0) (0) σ
set_option maxHeartbeats 4000000 in
set_option maxRecDepth 100000 in
theorem t_X11_byPlace_B116 {N : Nat} {a0 : Nat} {Γ : Gm} {σ : Sg} {r : Int32} (C1 : CM Γ cX11_byPlace RX11 7 (some .int) 0 0 0 0 (fun r_ τ_ => (r_ = some (vi r)) ∧ τ_ = σ)) (hT : sg_T σ) (h0 : is_A σ a0 10) (k6 : Int32 → Int32 → Int32 → Option Int32) (hk6 : ∀ (v1 : Int32) (v2 : Int32) (v3 : Int32) , k6 v1 v2 v3 = some r → J_ Γ 6 [(0, vr (some a0)), (1, vi v1), (2, vi v2), (3, vi v3)] [] σ 0 0) (v1 : Int32) (v3 : Int32) (v4 : Int32) (s0 : Int32) (s1 : Int32) (hf : f_X11_byPlace_B116 N a0 k6  v1 v3 v4 s0 s1 σ = some r) : J_ Γ 116 [(0, vr (some a0)), (1, vi (v1)), (3, vi (v3)), (4, vi (v4))] [vi (s0), vi (s1)] σ 0 0 := by
  have C0 := C1.1
  unfold f_X11_byPlace_B116 at hf
  refine J_ior (q := 117) C0 dX11_byPlace_116 rfl ?_
  refine J_istore_n (q := 118) (lv' := [(2, vi ((s1) ||| (s0))), (0, vr (some a0)), (1, vi (v1)), (3, vi (v3)), (4, vi (v4))]) C0 rfl (G_nl C1 (by decide)) dX11_byPlace_117 rfl rfl ?_
  refine J_iload_n (q := 119) C0 2 rfl rfl dX11_byPlace_118 rfl ?_
  refine J_bipush (q := 121) (v := 10) C0 dX11_byPlace_119 rfl rfl ?_
  refine J_imul (q := 122) C0 dX11_byPlace_121 rfl ?_
  refine J_iload (q := 124) C0 4 rfl dX11_byPlace_122 rfl ?_
  refine J_iadd (q := 125) C0 dX11_byPlace_124 rfl ?_
  refine J_istore_n (q := 126) (lv' := [(1, vi (((v1) * (10)) + (v4))), (2, vi ((s1) ||| (s0))), (0, vr (some a0)), (3, vi (v3)), (4, vi (v4))]) C0 rfl (G_nl C1 (by decide)) dX11_byPlace_125 rfl rfl ?_
  refine J_iinc (q := 129) (v := v3 + 1) (lv' := [(3, vi (v3 + 1)), (1, vi (((v1) * (10)) + (v4))), (2, vi ((s1) ||| (s0))), (0, vr (some a0)), (4, vi (v4))]) C0 3 rfl rfl (G_nl C1 (by decide)) dX11_byPlace_126 rfl rfl ?_
  refine J_goto (q := 6) C0 dX11_byPlace_129 (by decide) ?_
  refine J_sub (lv' := [(0, vr (some a0)), (1, vi (((v1) * (10)) + (v4))), (2, vi ((s1) ||| (s0))), (3, vi (v3 + 1))]) [3, 1, 2, 0] rfl ?_
  exact hk6 (((v1) * (10)) + (v4)) ((s1) ||| (s0)) (v3 + 1)  hf
set_option maxHeartbeats 4000000 in
set_option maxRecDepth 100000 in
theorem t_X11_byPlace_B95 {N : Nat} {a0 : Nat} {Γ : Gm} {σ : Sg} {r : Int32} (C1 : CM Γ cX11_byPlace RX11 7 (some .int) 0 0 0 0 (fun r_ τ_ => (r_ = some (vi r)) ∧ τ_ = σ)) (hT : sg_T σ) (h0 : is_A σ a0 10) (k6 : Int32 → Int32 → Int32 → Option Int32) (k23 : Int32 → Int32 → Int32 → Int32 → Int32 → Option Int32) (hk6 : ∀ (v1 : Int32) (v2 : Int32) (v3 : Int32) , k6 v1 v2 v3 = some r → J_ Γ 6 [(0, vr (some a0)), (1, vi v1), (2, vi v2), (3, vi v3)] [] σ 0 0) (hk23 : ∀ (v1 : Int32) (v2 : Int32) (v3 : Int32) (v4 : Int32) (v5 : Int32) , k23 v1 v2 v3 v4 v5 = some r → J_ Γ 23 [(0, vr (some a0)), (1, vi v1), (2, vi v2), (3, vi v3), (4, vi v4), (5, vi v5)] [] σ 0 0) (v1 : Int32) (v2 : Int32) (v3 : Int32) (v4 : Int32) (v5 : Int32) (hf : f_X11_byPlace_B95 N a0 k6 k23  v1 v2 v3 v4 v5 σ = some r) : J_ Γ 95 [(0, vr (some a0)), (1, vi (v1)), (2, vi (v2)), (3, vi (v3)), (4, vi (v4)), (5, vi (v5))] [] σ 0 0 := by
  have C0 := C1.1
  unfold f_X11_byPlace_B95 at hf
  refine J_iinc (q := 98) (v := v5 + 1) (lv' := [(5, vi (v5 + 1)), (0, vr (some a0)), (1, vi (v1)), (2, vi (v2)), (3, vi (v3)), (4, vi (v4))]) C0 5 rfl rfl (G_nl C1 (by decide)) dX11_byPlace_95 rfl rfl ?_
  refine J_goto (q := 23) C0 dX11_byPlace_98 (by decide) ?_
  refine J_sub (lv' := [(0, vr (some a0)), (1, vi (v1)), (2, vi (v2)), (3, vi (v3)), (4, vi (v4)), (5, vi (v5 + 1))]) [1, 2, 3, 4, 5, 0] rfl ?_
  exact hk23 (v1) (v2) (v3) (v4) (v5 + 1)  hf
set_option maxHeartbeats 4000000 in
set_option maxRecDepth 100000 in
theorem t_X11_byPlace_B91 {N : Nat} {a0 : Nat} {Γ : Gm} {σ : Sg} {r : Int32} (C1 : CM Γ cX11_byPlace RX11 7 (some .int) 0 0 0 0 (fun r_ τ_ => (r_ = some (vi r)) ∧ τ_ = σ)) (hT : sg_T σ) (h0 : is_A σ a0 10) (k6 : Int32 → Int32 → Int32 → Option Int32) (k23 : Int32 → Int32 → Int32 → Int32 → Int32 → Option Int32) (hk6 : ∀ (v1 : Int32) (v2 : Int32) (v3 : Int32) , k6 v1 v2 v3 = some r → J_ Γ 6 [(0, vr (some a0)), (1, vi v1), (2, vi v2), (3, vi v3)] [] σ 0 0) (hk23 : ∀ (v1 : Int32) (v2 : Int32) (v3 : Int32) (v4 : Int32) (v5 : Int32) , k23 v1 v2 v3 v4 v5 = some r → J_ Γ 23 [(0, vr (some a0)), (1, vi v1), (2, vi v2), (3, vi v3), (4, vi v4), (5, vi v5)] [] σ 0 0) (v1 : Int32) (v2 : Int32) (v3 : Int32) (v5 : Int32) (hf : f_X11_byPlace_B91 N a0 k6 k23  v1 v2 v3 v5 σ = some r) : J_ Γ 91 [(0, vr (some a0)), (1, vi (v1)), (2, vi (v2)), (3, vi (v3)), (5, vi (v5))] [] σ 0 0 := by
  have C0 := C1.1
  unfold f_X11_byPlace_B91 at hf
  refine J_iload (q := 93) C0 4 rfl dX11_byPlace_91 rfl ?_
  refine J_istore (q := 95) (lv' := [(4, vi (v5)), (0, vr (some a0)), (1, vi (v1)), (2, vi (v2)), (3, vi (v3)), (5, vi (v5))]) C0 (G_nl C1 (by decide)) dX11_byPlace_93 rfl rfl ?_
  refine J_sub (lv' := [(0, vr (some a0)), (1, vi (v1)), (2, vi (v2)), (3, vi (v3)), (4, vi (v5)), (5, vi (v5))]) [1, 2, 3, 4, 0, 5] rfl ?_
  exact t_X11_byPlace_B95 C1 (hT) (h0) k6  k23  hk6  hk23  (v1) (v2) (v3) (v5) (v5)  hf
set_option maxHeartbeats 4000000 in
set_option maxRecDepth 100000 in
theorem t_X11_byPlace_B49 {N : Nat} {a0 : Nat} {Γ : Gm} {σ : Sg} {r : Int32} (C1 : CM Γ cX11_byPlace RX11 7 (some .int) 0 0 0 0 (fun r_ τ_ => (r_ = some (vi r)) ∧ τ_ = σ)) (hT : sg_T σ) (h0 : is_A σ a0 10) (k6 : Int32 → Int32 → Int32 → Option Int32) (k23 : Int32 → Int32 → Int32 → Int32 → Int32 → Option Int32) (hk6 : ∀ (v1 : Int32) (v2 : Int32) (v3 : Int32) , k6 v1 v2 v3 = some r → J_ Γ 6 [(0, vr (some a0)), (1, vi v1), (2, vi v2), (3, vi v3)] [] σ 0 0) (hk23 : ∀ (v1 : Int32) (v2 : Int32) (v3 : Int32) (v4 : Int32) (v5 : Int32) , k23 v1 v2 v3 v4 v5 = some r → J_ Γ 23 [(0, vr (some a0)), (1, vi v1), (2, vi v2), (3, vi v3), (4, vi v4), (5, vi v5)] [] σ 0 0) (v1 : Int32) (v2 : Int32) (v3 : Int32) (v4 : Int32) (v5 : Int32) (s0 : Int32) (hf : f_X11_byPlace_B49 N a0 k6 k23  v1 v2 v3 v4 v5 s0 σ = some r) : J_ Γ 49 [(0, vr (some a0)), (1, vi (v1)), (2, vi (v2)), (3, vi (v3)), (4, vi (v4)), (5, vi (v5))] [vi (s0)] σ 0 0 := by
  have C0 := C1.1
  unfold f_X11_byPlace_B49 at hf
  refine J_istore (q := 51) (lv' := [(6, vi (s0)), (0, vr (some a0)), (1, vi (v1)), (2, vi (v2)), (3, vi (v3)), (4, vi (v4)), (5, vi (v5))]) C0 (G_nl C1 (by decide)) dX11_byPlace_49 rfl rfl ?_
  refine J_iload (q := 53) C0 0 rfl dX11_byPlace_51 rfl ?_
  refine J_if_eq (t := 95) (q := 56) C0 dX11_byPlace_53 (by decide) rfl hf (fun c7 hf => ?_) (fun c7 hf => ?_)
  · refine J_sub (lv' := [(0, vr (some a0)), (1, vi (v1)), (2, vi (v2)), (3, vi (v3)), (4, vi (v4)), (5, vi (v5))]) [1, 2, 3, 4, 5, 6] rfl ?_
    exact t_X11_byPlace_B95 C1 (hT) (h0) k6  k23  hk6  hk23  (v1) (v2) (v3) (v4) (v5)  hf
  · refine J_iload (q := 58) C0 5 rfl dX11_byPlace_56 rfl ?_
    refine J_iconst (q := 59) (v := (-1)) C0 dX11_byPlace_58 rfl rfl ?_
    refine J_icmp_eq (t := 91) (q := 62) C0 dX11_byPlace_59 (by decide) rfl hf (fun c8 hf => ?_) (fun c8 hf => ?_)
    · refine J_sub (lv' := [(0, vr (some a0)), (1, vi (v1)), (2, vi (v2)), (3, vi (v3)), (5, vi (v5))]) [1, 2, 3, 4, 6] rfl ?_
      exact t_X11_byPlace_B91 C1 (hT) (h0) k6  k23  hk6  hk23  (v1) (v2) (v3) (v5)  hf
    · refine J_aload_n (q := 63) C0 1 rfl rfl dX11_byPlace_62 rfl trivial ?_
      refine J_getR (q := 66) C0 fl_X11_75_10 rfl (h0) rfl dX11_byPlace_63 rfl ?_
      refine K_some hf (fun b9 hb9 hf => ?_)
      have ab9 : is_A σ b9 6 := ((sg_T.op hT (j := 13) (h0) rfl)) b9 hb9
      refine J_getR (q := 69) C0 fl_X11_153_6 hb9 (ab9) rfl dX11_byPlace_66 rfl ?_
      refine J_iload (q := 71) C0 6 rfl dX11_byPlace_69 rfl ?_
      refine K_some hf (fun b10 hb10 hf => ?_)
      have ab10 : is_A σ b10 18 := ((sg_T.op hT (j := 0) (ab9) rfl)) b10 hb10
      refine K_chk hf (fun c11 hf => ?_)
      refine J_aald (q := 72) C0 hb10 (ab10) (by decide) c11 dX11_byPlace_71 rfl ?_
      refine K_some hf (fun b12 hb12 hf => ?_)
      have ab12 : is_A σ b12 9 := ((sg_T.op hT (j := (v5).toNatClampNeg) (ab10) rfl)) b12 hb12
      refine J_getI (q := 75) C0 fl_X11_157_9 hb12 (ab12) rfl dX11_byPlace_72 rfl ?_
      refine J_aload_n (q := 76) C0 1 rfl rfl dX11_byPlace_75 rfl trivial ?_
      refine J_getR (q := 79) C0 fl_X11_75_10 rfl (h0) rfl dX11_byPlace_76 rfl ?_
      refine J_getR (q := 82) C0 fl_X11_153_6 hb9 (ab9) rfl dX11_byPlace_79 rfl ?_
      refine J_iload (q := 84) C0 5 rfl dX11_byPlace_82 rfl ?_
      refine K_chk hf (fun c13 hf => ?_)
      refine J_aald (q := 85) C0 hb10 (ab10) (by decide) c13 dX11_byPlace_84 rfl ?_
      refine K_some hf (fun b14 hb14 hf => ?_)
      have ab14 : is_A σ b14 9 := ((sg_T.op hT (j := (v4).toNatClampNeg) (ab10) rfl)) b14 hb14
      refine J_getI (q := 88) C0 fl_X11_157_9 hb14 (ab14) rfl dX11_byPlace_85 rfl ?_
      refine J_icmp_ge (t := 95) (q := 91) C0 dX11_byPlace_88 (by decide) rfl hf (fun c15 hf => ?_) (fun c15 hf => ?_)
      · refine J_sub (lv' := [(0, vr (some a0)), (1, vi (v1)), (2, vi (v2)), (3, vi (v3)), (4, vi (v4)), (5, vi (v5))]) [1, 2, 3, 4, 5, 6] rfl ?_
        exact t_X11_byPlace_B95 C1 (hT) (h0) k6  k23  hk6  hk23  (v1) (v2) (v3) (v4) (v5)  hf
      · refine J_sub (lv' := [(0, vr (some a0)), (1, vi (v1)), (2, vi (v2)), (3, vi (v3)), (5, vi (v5))]) [1, 2, 3, 4, 6] rfl ?_
        exact t_X11_byPlace_B91 C1 (hT) (h0) k6  k23  hk6  hk23  (v1) (v2) (v3) (v5)  hf
set_option maxHeartbeats 4000000 in
set_option maxRecDepth 100000 in
theorem t_X11_byPlace_L23 {N : Nat} {a0 : Nat} {Γ : Gm} {σ : Sg} {r : Int32} (C1 : CM Γ cX11_byPlace RX11 7 (some .int) 0 0 0 0 (fun r_ τ_ => (r_ = some (vi r)) ∧ τ_ = σ)) (hT : sg_T σ) (h0 : is_A σ a0 10) (k6 : Int32 → Int32 → Int32 → Option Int32) (hk6 : ∀ (v1 : Int32) (v2 : Int32) (v3 : Int32) , k6 v1 v2 v3 = some r → J_ Γ 6 [(0, vr (some a0)), (1, vi v1), (2, vi v2), (3, vi v3)] [] σ 0 0) : ∀ (n : Nat) (v1 : Int32) (v2 : Int32) (v3 : Int32) (v4 : Int32) (v5 : Int32), f_X11_byPlace_L23 N a0 k6  n v1 v2 v3 v4 v5 σ = some r → J_ Γ 23 [(0, vr (some a0)), (1, vi (v1)), (2, vi (v2)), (3, vi (v3)), (4, vi (v4)), (5, vi (v5))] [] σ 0 0 := by
  have C0 := C1.1
  intro n
  induction n with
  | zero => intro v1 v2 v3 v4 v5  hf; unfold f_X11_byPlace_L23 at hf; cases hf
  | succ n ih =>
    intro v1 v2 v3 v4 v5  hf
    rw [f_X11_byPlace_L23] at hf
    refine J_iload (q := 25) C0 5 rfl dX11_byPlace_23 rfl ?_
    refine J_aload_n (q := 26) C0 0 rfl rfl dX11_byPlace_25 rfl trivial ?_
    refine J_getR (q := 29) C0 fl_X11_75_10 rfl (h0) rfl dX11_byPlace_26 rfl ?_
    refine K_some hf (fun b3 hb3 hf => ?_)
    have ab3 : is_A σ b3 6 := ((sg_T.op hT (j := 13) (h0) rfl)) b3 hb3
    refine J_getI (q := 32) C0 fl_X11_150_6 hb3 (ab3) rfl dX11_byPlace_29 rfl ?_
    refine J_icmp_ge (t := 101) (q := 35) C0 dX11_byPlace_32 (by decide) rfl hf (fun c4 hf => ?_) (fun c4 hf => ?_)
    · refine J_iload_n (q := 102) C0 2 rfl rfl dX11_byPlace_101 rfl ?_
      refine J_iload (q := 104) C0 4 rfl dX11_byPlace_102 rfl ?_
      refine J_iconst (q := 105) (v := (-1)) C0 dX11_byPlace_104 rfl rfl ?_
      refine J_icmp_ne (t := 112) (q := 108) C0 dX11_byPlace_105 (by decide) rfl hf (fun c5 hf => ?_) (fun c5 hf => ?_)
      · refine J_iconst (q := 113) (v := 1) C0 dX11_byPlace_112 rfl rfl ?_
        refine J_iload (q := 115) C0 4 rfl dX11_byPlace_113 rfl ?_
        refine J_ishl (q := 116) C0 dX11_byPlace_115 rfl ?_
        refine J_sub (lv' := [(0, vr (some a0)), (1, vi (v1)), (3, vi (v3)), (4, vi (v4))]) [0, 1, 3, 4] rfl ?_
        exact t_X11_byPlace_B116 C1 (hT) (h0) k6  hk6  (v1) (v3) (v4) ((1) <<< ((v4) &&& 31)) (v2)  hf
      · refine J_iconst (q := 109) (v := 0) C0 dX11_byPlace_108 rfl rfl ?_
        refine J_goto (q := 116) C0 dX11_byPlace_109 (by decide) ?_
        refine J_sub (lv' := [(0, vr (some a0)), (1, vi (v1)), (3, vi (v3)), (4, vi (v4))]) [0, 1, 3, 4] rfl ?_
        exact t_X11_byPlace_B116 C1 (hT) (h0) k6  hk6  (v1) (v3) (v4) (0) (v2)  hf
    · refine J_iload_n (q := 36) C0 2 rfl rfl dX11_byPlace_35 rfl ?_
      refine J_iload (q := 38) C0 5 rfl dX11_byPlace_36 rfl ?_
      refine J_ishr (q := 39) C0 dX11_byPlace_38 rfl ?_
      refine J_iconst (q := 40) (v := 1) C0 dX11_byPlace_39 rfl rfl ?_
      refine J_iand (q := 41) C0 dX11_byPlace_40 rfl ?_
      refine J_if_ne (t := 48) (q := 44) C0 dX11_byPlace_41 (by decide) rfl hf (fun c6 hf => ?_) (fun c6 hf => ?_)
      · refine J_iconst (q := 49) (v := 0) C0 dX11_byPlace_48 rfl rfl ?_
        exact t_X11_byPlace_B49 C1 (hT) (h0) k6  (fun v1 v2 v3 v4 v5 => f_X11_byPlace_L23 N a0 k6 n v1 v2 v3 v4 v5 σ)  hk6  ih  (v1) (v2) (v3) (v4) (v5) (0)  hf
      · refine J_iconst (q := 45) (v := 1) C0 dX11_byPlace_44 rfl rfl ?_
        refine J_goto (q := 49) C0 dX11_byPlace_45 (by decide) ?_
        exact t_X11_byPlace_B49 C1 (hT) (h0) k6  (fun v1 v2 v3 v4 v5 => f_X11_byPlace_L23 N a0 k6 n v1 v2 v3 v4 v5 σ)  hk6  ih  (v1) (v2) (v3) (v4) (v5) (1)  hf
set_option maxHeartbeats 4000000 in
set_option maxRecDepth 100000 in
theorem t_X11_byPlace_L6 {N : Nat} {a0 : Nat} {Γ : Gm} {σ : Sg} {r : Int32} (C1 : CM Γ cX11_byPlace RX11 7 (some .int) 0 0 0 0 (fun r_ τ_ => (r_ = some (vi r)) ∧ τ_ = σ)) (hT : sg_T σ) (h0 : is_A σ a0 10) : ∀ (n : Nat) (v1 : Int32) (v2 : Int32) (v3 : Int32), f_X11_byPlace_L6 N a0  n v1 v2 v3 σ = some r → J_ Γ 6 [(0, vr (some a0)), (1, vi (v1)), (2, vi (v2)), (3, vi (v3))] [] σ 0 0 := by
  have C0 := C1.1
  intro n
  induction n with
  | zero => intro v1 v2 v3  hf; unfold f_X11_byPlace_L6 at hf; cases hf
  | succ n ih =>
    intro v1 v2 v3  hf
    rw [f_X11_byPlace_L6] at hf
    refine J_iload_n (q := 7) C0 3 rfl rfl dX11_byPlace_6 rfl ?_
    refine J_aload_n (q := 8) C0 0 rfl rfl dX11_byPlace_7 rfl trivial ?_
    refine J_getR (q := 11) C0 fl_X11_75_10 rfl (h0) rfl dX11_byPlace_8 rfl ?_
    refine K_some hf (fun b1 hb1 hf => ?_)
    have ab1 : is_A σ b1 6 := ((sg_T.op hT (j := 13) (h0) rfl)) b1 hb1
    refine J_getI (q := 14) C0 fl_X11_150_6 hb1 (ab1) rfl dX11_byPlace_11 rfl ?_
    refine J_icmp_ge (t := 132) (q := 17) C0 dX11_byPlace_14 (by decide) rfl hf (fun c2 hf => ?_) (fun c2 hf => ?_)
    · refine J_iload_n (q := 133) C0 1 rfl rfl dX11_byPlace_132 rfl ?_
      obtain rfl := Option.some.inj hf; exact J_iret C1 dX11_byPlace_133 rfl (Nat.zero_le _) (Nat.zero_le _) ⟨rfl, rfl⟩
    · refine J_iconst (q := 18) (v := (-1)) C0 dX11_byPlace_17 rfl rfl ?_
      refine J_istore (q := 20) (lv' := [(4, vi ((-1))), (0, vr (some a0)), (1, vi (v1)), (2, vi (v2)), (3, vi (v3))]) C0 (G_nl C1 (by decide)) dX11_byPlace_18 rfl rfl ?_
      refine J_iconst (q := 21) (v := 0) C0 dX11_byPlace_20 rfl rfl ?_
      refine J_istore (q := 23) (lv' := [(5, vi (0)), (4, vi ((-1))), (0, vr (some a0)), (1, vi (v1)), (2, vi (v2)), (3, vi (v3))]) C0 (G_nl C1 (by decide)) dX11_byPlace_21 rfl rfl ?_
      refine J_sub (lv' := [(0, vr (some a0)), (1, vi (v1)), (2, vi (v2)), (3, vi (v3)), (4, vi ((-1))), (5, vi (0))]) [2, 3, 4, 5, 1, 0] rfl ?_
      exact t_X11_byPlace_L23 C1 (hT) (h0)  (fun v1 v2 v3 => f_X11_byPlace_L6 N a0 n v1 v2 v3 σ)  ih  N (v1) (v2) (v3) ((-1)) (0)  hf
set_option maxHeartbeats 4000000 in
set_option maxRecDepth 100000 in
theorem t_X11_byPlace (N : Nat) (a0 : Nat) {σ : Sg} (hT : sg_T σ) (h0 : is_A σ a0 10) {r : Int32} (hf : f_X11_byPlace N a0  σ = some r) : Ct yX11_byPlace cX11_byPlace 7 (some .int) 0 0 0 0 [vr (some a0)] σ (fun r_ τ_ => (r_ = some (vi r)) ∧ τ_ = σ) := by
  refine Ct.of (by decide +kernel) (Nat.le_of_ble_eq_true rfl) (fun Γ C1 => ?_)
  have C0 := C1.1
  unfold f_X11_byPlace at hf
  show J_ Γ 0 [(0, vr (some a0))] [] σ 0 0
  refine J_iconst (q := 1) (v := 0) C0 dX11_byPlace_0 rfl rfl ?_
  refine J_istore_n (q := 2) (lv' := [(1, vi (0)), (0, vr (some a0))]) C0 rfl (G_nl C1 (by decide)) dX11_byPlace_1 rfl rfl ?_
  refine J_iconst (q := 3) (v := 0) C0 dX11_byPlace_2 rfl rfl ?_
  refine J_istore_n (q := 4) (lv' := [(2, vi (0)), (1, vi (0)), (0, vr (some a0))]) C0 rfl (G_nl C1 (by decide)) dX11_byPlace_3 rfl rfl ?_
  refine J_iconst (q := 5) (v := 0) C0 dX11_byPlace_4 rfl rfl ?_
  refine J_istore_n (q := 6) (lv' := [(3, vi (0)), (2, vi (0)), (1, vi (0)), (0, vr (some a0))]) C0 rfl (G_nl C1 (by decide)) dX11_byPlace_5 rfl rfl ?_
  refine J_sub (lv' := [(0, vr (some a0)), (1, vi (0)), (2, vi (0)), (3, vi (0))]) [3, 2, 1, 0] rfl ?_
  exact t_X11_byPlace_L6 C1 (hT) (h0)    N (0) (0) (0)  hf
def f_X11_most (N : Nat) (a0 : Nat) (x1 : Int32) (σ : Sg) : Option (Int32 × Sg) :=
  Option.bind (f_X11_isLit a0  σ) fun p1 =>
  if (p1) = (0) then
  (some ((-1), σ))
  else
  (if (x1) = 0 then
  (Option.bind (f_X11_fastest N a0  σ) fun p4 =>
  some (p4, σ))
  else
  if (x1) = 1 then
  (Option.bind (f_X11_longest N a0  σ) fun p6 =>
  some (p6, σ))
  else
  if (x1) = 2 then
  (Option.bind (f_X11_commonest N a0  σ) fun p8 =>
  some (p8, σ))
  else
  if (x1) = 3 then
  (Option.bind (f_X11_shownNow N a0  σ) fun p10 =>
  some (p10, σ))
  else
  if (x1) = 4 then
  (Option.bind (f_X11_twins N a0  σ) fun p12 =>
  some (p12, σ))
  else
  if (x1) = 5 then
  (Option.bind (f_X11_turningBack N a0  σ) fun p14 =>
  some (p14, σ))
  else
  if (x1) = 6 then
  (Option.bind (f_X11_bareNow N a0  σ) fun p16 =>
  some (p16, σ))
  else
  if (x1) = 7 then
  (Option.bind (f_X11_still N a0  σ) fun p18 =>
  some (p18.1, p18.2))
  else
  if (x1) = 8 then
  (Option.bind (f_X11_byPlace N a0  σ) fun p20 =>
  some (p20, σ))
  else
  if (x1) = 9 then
  (Option.bind (sg_R σ a0 13) fun b22 =>
  Option.bind (f_X11_round (sg_I σ b22 5) (sg_I σ b22 2) ) fun p23 =>
  some ((sg_I σ b22 2) - (p23), σ))
  else
  (some ((-1), σ)))
set_option maxHeartbeats 4000000 in
set_option maxRecDepth 100000 in
theorem t_X11_most (N : Nat) (a0 : Nat) (x1 : Int32) {σ : Sg} (hT : sg_T σ) (h0 : is_A σ a0 10) {r : (Int32 × Sg)} (hf : f_X11_most N a0 x1 σ = some r) : Ct yX11_most cX11_most 2 (some .int) 6 137 0 0 [vr (some a0), vi x1] σ (fun r_ τ_ => (r_ = some (vi r.1)) ∧ τ_ = r.2 ∧ sg_T τ_ ∧ sg_E σ τ_) := by
  refine Ct.of (by decide +kernel) (Nat.le_of_ble_eq_true rfl) (fun Γ C1 => ?_)
  have C0 := C1.1
  have hE : sg_E σ σ := sg_E.rf
  unfold f_X11_most at hf
  show J_ Γ 0 [(0, vr (some a0)), (1, vi (x1))] [] σ 0 0
  refine J_aload_n (q := 1) C0 0 rfl rfl dX11_most_0 rfl trivial ?_
  refine K_some hf (fun p1 hp1 hf => ?_)
  refine J_callV (q := 4) (ci := 10) (as := []) (rest := []) C0 rfl (h0) (t_X11_isLit a0  (hT) (h0)  hp1) ml_X11_isLit lk_X11_183 im_X11_isLit se_X11_isLit rfl (by decide) dX11_most_1 rfl rfl rfl (by simp [ac_]) C1.room (by decide) (by decide) (by decide) (by decide) (fun r_ τ_ hQ => ?_)
  obtain ⟨⟨rfl, zp1⟩, ht_⟩ := hQ; have ht_ := ht_.symm; subst ht_
  show J_ Γ 4 [(0, vr (some a0)), (1, vi (x1))] [vi (p1)] σ 0 0
  refine J_if_ne (t := 9) (q := 7) C0 dX11_most_4 (by decide) rfl hf (fun c2 hf => ?_) (fun c2 hf => ?_)
  · refine J_iload_n (q := 10) C0 1 rfl rfl dX11_most_9 rfl ?_
    refine K_ite hf (fun c3 hf => ?_) (fun c3 hf => ?_)
    · refine J_tblIn (t := 64) (off := 54) C0 dX11_most_10 (by rw [c3]; decide) (by rw [c3]; decide) (by rw [c3]; rfl) (by decide) ?_
      refine J_aload_n (q := 65) C0 0 rfl rfl dX11_most_64 rfl trivial ?_
      refine K_some hf (fun p4 hp4 hf => ?_)
      refine J_callV (q := 68) (ci := 10) (as := []) (rest := []) C0 rfl (h0) (t_X11_fastest N a0  (hT) (h0)  hp4) ml_X11_fastest lk_X11_385 im_X11_fastest se_X11_fastest rfl (by decide) dX11_most_65 rfl rfl rfl (by simp [ac_]) C1.room (by decide) (by decide) (by decide) (by decide) (fun r_ τ_ hQ => ?_)
      obtain ⟨rfl, ht_⟩ := hQ; have ht_ := ht_.symm; subst ht_
      show J_ Γ 68 [(0, vr (some a0)), (1, vi (x1))] [vi (p4)] σ 0 0
      obtain rfl := Option.some.inj hf; exact J_iret C1 dX11_most_68 rfl (Nat.zero_le _) (Nat.zero_le _) ⟨rfl, rfl, hT, hE⟩
    refine K_ite hf (fun c5 hf => ?_) (fun c5 hf => ?_)
    · refine J_tblIn (t := 69) (off := 59) C0 dX11_most_10 (by rw [c5]; decide) (by rw [c5]; decide) (by rw [c5]; rfl) (by decide) ?_
      refine J_aload_n (q := 70) C0 0 rfl rfl dX11_most_69 rfl trivial ?_
      refine K_some hf (fun p6 hp6 hf => ?_)
      refine J_callV (q := 73) (ci := 10) (as := []) (rest := []) C0 rfl (h0) (t_X11_longest N a0  (hT) (h0)  hp6) ml_X11_longest lk_X11_388 im_X11_longest se_X11_longest rfl (by decide) dX11_most_70 rfl rfl rfl (by simp [ac_]) C1.room (by decide) (by decide) (by decide) (by decide) (fun r_ τ_ hQ => ?_)
      obtain ⟨rfl, ht_⟩ := hQ; have ht_ := ht_.symm; subst ht_
      show J_ Γ 73 [(0, vr (some a0)), (1, vi (x1))] [vi (p6)] σ 0 0
      obtain rfl := Option.some.inj hf; exact J_iret C1 dX11_most_73 rfl (Nat.zero_le _) (Nat.zero_le _) ⟨rfl, rfl, hT, hE⟩
    refine K_ite hf (fun c7 hf => ?_) (fun c7 hf => ?_)
    · refine J_tblIn (t := 74) (off := 64) C0 dX11_most_10 (by rw [c7]; decide) (by rw [c7]; decide) (by rw [c7]; rfl) (by decide) ?_
      refine J_aload_n (q := 75) C0 0 rfl rfl dX11_most_74 rfl trivial ?_
      refine K_some hf (fun p8 hp8 hf => ?_)
      refine J_callV (q := 78) (ci := 10) (as := []) (rest := []) C0 rfl (h0) (t_X11_commonest N a0  (hT) (h0)  hp8) ml_X11_commonest lk_X11_391 im_X11_commonest se_X11_commonest rfl (by decide) dX11_most_75 rfl rfl rfl (by simp [ac_]) C1.room (by decide) (by decide) (by decide) (by decide) (fun r_ τ_ hQ => ?_)
      obtain ⟨rfl, ht_⟩ := hQ; have ht_ := ht_.symm; subst ht_
      show J_ Γ 78 [(0, vr (some a0)), (1, vi (x1))] [vi (p8)] σ 0 0
      obtain rfl := Option.some.inj hf; exact J_iret C1 dX11_most_78 rfl (Nat.zero_le _) (Nat.zero_le _) ⟨rfl, rfl, hT, hE⟩
    refine K_ite hf (fun c9 hf => ?_) (fun c9 hf => ?_)
    · refine J_tblIn (t := 79) (off := 69) C0 dX11_most_10 (by rw [c9]; decide) (by rw [c9]; decide) (by rw [c9]; rfl) (by decide) ?_
      refine J_aload_n (q := 80) C0 0 rfl rfl dX11_most_79 rfl trivial ?_
      refine K_some hf (fun p10 hp10 hf => ?_)
      refine J_callV (q := 83) (ci := 10) (as := []) (rest := []) C0 rfl (h0) (t_X11_shownNow N a0  (hT) (h0)  hp10) ml_X11_shownNow lk_X11_394 im_X11_shownNow se_X11_shownNow rfl (by decide) dX11_most_80 rfl rfl rfl (by simp [ac_]) C1.room (by decide) (by decide) (by decide) (by decide) (fun r_ τ_ hQ => ?_)
      obtain ⟨rfl, ht_⟩ := hQ; have ht_ := ht_.symm; subst ht_
      show J_ Γ 83 [(0, vr (some a0)), (1, vi (x1))] [vi (p10)] σ 0 0
      obtain rfl := Option.some.inj hf; exact J_iret C1 dX11_most_83 rfl (Nat.zero_le _) (Nat.zero_le _) ⟨rfl, rfl, hT, hE⟩
    refine K_ite hf (fun c11 hf => ?_) (fun c11 hf => ?_)
    · refine J_tblIn (t := 84) (off := 74) C0 dX11_most_10 (by rw [c11]; decide) (by rw [c11]; decide) (by rw [c11]; rfl) (by decide) ?_
      refine J_aload_n (q := 85) C0 0 rfl rfl dX11_most_84 rfl trivial ?_
      refine K_some hf (fun p12 hp12 hf => ?_)
      refine J_callV (q := 88) (ci := 10) (as := []) (rest := []) C0 rfl (h0) (t_X11_twins N a0  (hT) (h0)  hp12) ml_X11_twins lk_X11_397 im_X11_twins se_X11_twins rfl (by decide) dX11_most_85 rfl rfl rfl (by simp [ac_]) C1.room (by decide) (by decide) (by decide) (by decide) (fun r_ τ_ hQ => ?_)
      obtain ⟨rfl, ht_⟩ := hQ; have ht_ := ht_.symm; subst ht_
      show J_ Γ 88 [(0, vr (some a0)), (1, vi (x1))] [vi (p12)] σ 0 0
      obtain rfl := Option.some.inj hf; exact J_iret C1 dX11_most_88 rfl (Nat.zero_le _) (Nat.zero_le _) ⟨rfl, rfl, hT, hE⟩
    refine K_ite hf (fun c13 hf => ?_) (fun c13 hf => ?_)
    · refine J_tblIn (t := 89) (off := 79) C0 dX11_most_10 (by rw [c13]; decide) (by rw [c13]; decide) (by rw [c13]; rfl) (by decide) ?_
      refine J_aload_n (q := 90) C0 0 rfl rfl dX11_most_89 rfl trivial ?_
      refine K_some hf (fun p14 hp14 hf => ?_)
      refine J_callV (q := 93) (ci := 10) (as := []) (rest := []) C0 rfl (h0) (t_X11_turningBack N a0  (hT) (h0)  hp14) ml_X11_turningBack lk_X11_400 im_X11_turningBack se_X11_turningBack rfl (by decide) dX11_most_90 rfl rfl rfl (by simp [ac_]) C1.room (by decide) (by decide) (by decide) (by decide) (fun r_ τ_ hQ => ?_)
      obtain ⟨rfl, ht_⟩ := hQ; have ht_ := ht_.symm; subst ht_
      show J_ Γ 93 [(0, vr (some a0)), (1, vi (x1))] [vi (p14)] σ 0 0
      obtain rfl := Option.some.inj hf; exact J_iret C1 dX11_most_93 rfl (Nat.zero_le _) (Nat.zero_le _) ⟨rfl, rfl, hT, hE⟩
    refine K_ite hf (fun c15 hf => ?_) (fun c15 hf => ?_)
    · refine J_tblIn (t := 94) (off := 84) C0 dX11_most_10 (by rw [c15]; decide) (by rw [c15]; decide) (by rw [c15]; rfl) (by decide) ?_
      refine J_aload_n (q := 95) C0 0 rfl rfl dX11_most_94 rfl trivial ?_
      refine K_some hf (fun p16 hp16 hf => ?_)
      refine J_callV (q := 98) (ci := 10) (as := []) (rest := []) C0 rfl (h0) (t_X11_bareNow N a0  (hT) (h0)  hp16) ml_X11_bareNow lk_X11_403 im_X11_bareNow se_X11_bareNow rfl (by decide) dX11_most_95 rfl rfl rfl (by simp [ac_]) C1.room (by decide) (by decide) (by decide) (by decide) (fun r_ τ_ hQ => ?_)
      obtain ⟨rfl, ht_⟩ := hQ; have ht_ := ht_.symm; subst ht_
      show J_ Γ 98 [(0, vr (some a0)), (1, vi (x1))] [vi (p16)] σ 0 0
      obtain rfl := Option.some.inj hf; exact J_iret C1 dX11_most_98 rfl (Nat.zero_le _) (Nat.zero_le _) ⟨rfl, rfl, hT, hE⟩
    refine K_ite hf (fun c17 hf => ?_) (fun c17 hf => ?_)
    · refine J_tblIn (t := 99) (off := 89) C0 dX11_most_10 (by rw [c17]; decide) (by rw [c17]; decide) (by rw [c17]; rfl) (by decide) ?_
      refine J_aload_n (q := 100) C0 0 rfl rfl dX11_most_99 rfl trivial ?_
      refine K_some hf (fun p18 hp18 hf => ?_)
      refine J_callV (q := 103) (ci := 10) (as := []) (rest := []) C0 rfl (h0) (t_X11_still N a0  (hT) (h0)  hp18) ml_X11_still lk_X11_406 im_X11_still se_X11_still rfl (by decide) dX11_most_100 rfl rfl rfl (by simp [ac_]) C1.room (by decide) (by decide) (by decide) (by decide) (fun r_ τ_ hQ => ?_)
      obtain ⟨rfl, rfl, Tp18, Ep18⟩ := hQ
      show J_ Γ 103 [(0, vr (some a0)), (1, vi (x1))] [vi (p18.1)] p18.2 0 0
      obtain rfl := Option.some.inj hf; exact J_iret C1 dX11_most_103 rfl (Nat.zero_le _) (Nat.zero_le _) ⟨rfl, rfl, Tp18, (hE).tr Ep18⟩
    refine K_ite hf (fun c19 hf => ?_) (fun c19 hf => ?_)
    · refine J_tblIn (t := 104) (off := 94) C0 dX11_most_10 (by rw [c19]; decide) (by rw [c19]; decide) (by rw [c19]; rfl) (by decide) ?_
      refine J_aload_n (q := 105) C0 0 rfl rfl dX11_most_104 rfl trivial ?_
      refine K_some hf (fun p20 hp20 hf => ?_)
      refine J_callV (q := 108) (ci := 10) (as := []) (rest := []) C0 rfl (h0) (t_X11_byPlace N a0  (hT) (h0)  hp20) ml_X11_byPlace lk_X11_409 im_X11_byPlace se_X11_byPlace rfl (by decide) dX11_most_105 rfl rfl rfl (by simp [ac_]) C1.room (by decide) (by decide) (by decide) (by decide) (fun r_ τ_ hQ => ?_)
      obtain ⟨rfl, ht_⟩ := hQ; have ht_ := ht_.symm; subst ht_
      show J_ Γ 108 [(0, vr (some a0)), (1, vi (x1))] [vi (p20)] σ 0 0
      obtain rfl := Option.some.inj hf; exact J_iret C1 dX11_most_108 rfl (Nat.zero_le _) (Nat.zero_le _) ⟨rfl, rfl, hT, hE⟩
    refine K_ite hf (fun c21 hf => ?_) (fun c21 hf => ?_)
    · refine J_tblIn (t := 109) (off := 99) C0 dX11_most_10 (by rw [c21]; decide) (by rw [c21]; decide) (by rw [c21]; rfl) (by decide) ?_
      refine J_aload_n (q := 110) C0 0 rfl rfl dX11_most_109 rfl trivial ?_
      refine J_getR (q := 113) C0 fl_X11_75_10 rfl (h0) rfl dX11_most_110 rfl ?_
      refine K_some hf (fun b22 hb22 hf => ?_)
      have ab22 : is_A σ b22 6 := ((sg_T.op hT (j := 13) (h0) rfl)) b22 hb22
      refine J_getI (q := 116) C0 fl_X11_186_6 hb22 (ab22) rfl dX11_most_113 rfl ?_
      refine J_aload_n (q := 117) C0 0 rfl rfl dX11_most_116 rfl trivial ?_
      refine J_getR (q := 120) C0 fl_X11_75_10 rfl (h0) rfl dX11_most_117 rfl ?_
      refine J_getI (q := 123) C0 fl_X11_230_6 hb22 (ab22) rfl dX11_most_120 rfl ?_
      refine J_aload_n (q := 124) C0 0 rfl rfl dX11_most_123 rfl trivial ?_
      refine J_getR (q := 127) C0 fl_X11_75_10 rfl (h0) rfl dX11_most_124 rfl ?_
      refine J_getI (q := 130) C0 fl_X11_186_6 hb22 (ab22) rfl dX11_most_127 rfl ?_
      refine K_some hf (fun p23 hp23 hf => ?_)
      refine J_callS (q := 133) (as := [vi (sg_I σ b22 5), vi (sg_I σ b22 2)]) (rest := [vi (sg_I σ b22 2)]) C0 (t_X11_round (sg_I σ b22 5) (sg_I σ b22 2)  hp23) ml_X11_round lk_X11_169 sm_X11_round dX11_most_130 rfl rfl rfl (by simp [ac_]) C1.room (by decide) (by decide) (by decide) (by decide) (fun r_ τ_ hQ => ?_)
      obtain ⟨rfl, ht_⟩ := hQ; have ht_ := ht_.symm; subst ht_
      show J_ Γ 133 [(0, vr (some a0)), (1, vi (x1))] [vi (p23), vi (sg_I σ b22 2)] σ 0 0
      refine J_isub (q := 134) C0 dX11_most_133 rfl ?_
      obtain rfl := Option.some.inj hf; exact J_iret C1 dX11_most_134 rfl (Nat.zero_le _) (Nat.zero_le _) ⟨rfl, rfl, hT, hE⟩
    refine J_tblOut (t := 135) C0 dX11_most_10 (by have tc3 := lv_neT c3 (a := 0) (by decide); have tc5 := lv_neT c5 (a := 1) (by decide); have tc7 := lv_neT c7 (a := 2) (by decide); have tc9 := lv_neT c9 (a := 3) (by decide); have tc11 := lv_neT c11 (a := 4) (by decide); have tc13 := lv_neT c13 (a := 5) (by decide); have tc15 := lv_neT c15 (a := 6) (by decide); have tc17 := lv_neT c17 (a := 7) (by decide); have tc19 := lv_neT c19 (a := 8) (by decide); have tc21 := lv_neT c21 (a := 9) (by decide); omega) (by decide) ?_
    refine J_iconst (q := 136) (v := (-1)) C0 dX11_most_135 rfl rfl ?_
    obtain rfl := Option.some.inj hf; exact J_iret C1 dX11_most_136 rfl (Nat.zero_le _) (Nat.zero_le _) ⟨rfl, rfl, hT, hE⟩
  · refine J_iconst (q := 8) (v := (-1)) C0 dX11_most_7 rfl rfl ?_
    obtain rfl := Option.some.inj hf; exact J_iret C1 dX11_most_8 rfl (Nat.zero_le _) (Nat.zero_le _) ⟨rfl, rfl, hT, hE⟩
def f_X11_image (N : Nat) (a0 : Nat) (σ : Sg) : Option (Int32 × Sg) :=
  Option.bind (f_X11_isLit a0  σ) fun p1 =>
  if (p1) = (0) then
  (some ((-1), σ))
  else
  (Option.bind (sg_R σ a0 15) fun b3 =>
  Option.bind (f_X7_copyFrom N b3 (sg_R σ a0 13) σ) fun p4 =>
  Option.bind (sg_R (put_I p4 a0 16 (1)) a0 13) fun b5 =>
  some (sg_I (put_I p4 a0 16 (1)) b5 5, put_I p4 a0 16 (1)))
set_option maxHeartbeats 4000000 in
set_option maxRecDepth 100000 in
theorem t_X11_image (N : Nat) (a0 : Nat) {σ : Sg} (hT : sg_T σ) (h0 : is_A σ a0 10) {r : (Int32 × Sg)} (hf : f_X11_image N a0  σ = some r) : Ct yX11_image cX11_image 1 (some .int) 2 48 0 0 [vr (some a0)] σ (fun r_ τ_ => (r_ = some (vi r.1)) ∧ τ_ = r.2 ∧ sg_T τ_ ∧ sg_E σ τ_) := by
  refine Ct.of (by decide +kernel) (Nat.le_of_ble_eq_true rfl) (fun Γ C1 => ?_)
  have C0 := C1.1
  have hE : sg_E σ σ := sg_E.rf
  unfold f_X11_image at hf
  show J_ Γ 0 [(0, vr (some a0))] [] σ 0 0
  refine J_aload_n (q := 1) C0 0 rfl rfl dX11_image_0 rfl trivial ?_
  refine K_some hf (fun p1 hp1 hf => ?_)
  refine J_callV (q := 4) (ci := 10) (as := []) (rest := []) C0 rfl (h0) (t_X11_isLit a0  (hT) (h0)  hp1) ml_X11_isLit lk_X11_183 im_X11_isLit se_X11_isLit rfl (by decide) dX11_image_1 rfl rfl rfl (by simp [ac_]) C1.room (by decide) (by decide) (by decide) (by decide) (fun r_ τ_ hQ => ?_)
  obtain ⟨⟨rfl, zp1⟩, ht_⟩ := hQ; have ht_ := ht_.symm; subst ht_
  show J_ Γ 4 [(0, vr (some a0))] [vi (p1)] σ 0 0
  refine J_if_ne (t := 9) (q := 7) C0 dX11_image_4 (by decide) rfl hf (fun c2 hf => ?_) (fun c2 hf => ?_)
  · refine J_aload_n (q := 10) C0 0 rfl rfl dX11_image_9 rfl trivial ?_
    refine J_getR (q := 13) C0 fl_X11_86_10 rfl (h0) rfl dX11_image_10 rfl ?_
    refine J_aload_n (q := 14) C0 0 rfl rfl dX11_image_13 rfl trivial ?_
    refine J_getR (q := 17) C0 fl_X11_75_10 rfl (h0) rfl dX11_image_14 rfl ?_
    refine K_some hf (fun b3 hb3 hf => ?_)
    have ab3 : is_A σ b3 6 := ((sg_T.op hT (j := 15) (h0) rfl)) b3 hb3
    refine K_some hf (fun p4 hp4 hf => ?_)
    refine J_callV (q := 20) (ci := 6) (as := [vr (sg_R σ a0 13)]) (rest := []) C0 hb3 (ab3) (t_X7_copyFrom N b3 (sg_R σ a0 13) (hT) (ab3) ((sg_T.op hT (j := 13) (h0) rfl)) hp4) ml_X7_copyFrom lk_X11_415 im_X7_copyFrom se_X7_copyFrom rfl (by decide) dX11_image_17 rfl rfl rfl (by simp [ac_]) C1.room (by decide) (by decide) (by decide) (by decide) (fun r_ τ_ hQ => ?_)
    obtain ⟨rfl, ht_, Tp4, Ep4⟩ := hQ; have ht_ := ht_.symm; subst ht_
    show J_ Γ 20 [(0, vr (some a0))] [] p4 0 0
    refine J_aload_n (q := 21) C0 0 rfl rfl dX11_image_20 rfl trivial ?_
    refine J_iconst (q := 22) (v := 1) C0 dX11_image_21 rfl rfl ?_
    refine J_putZ (q := 25) C0 (Or.inr rfl) fl_X11_89_10 rfl ((Ep4.at h0)) rfl dX11_image_22 rfl ?_
    refine J_aload_n (q := 26) C0 0 rfl rfl dX11_image_25 rfl trivial ?_
    refine J_getR (q := 29) C0 fl_X11_75_10 rfl (((Ep4.at h0)).putI) rfl dX11_image_26 rfl ?_
    refine K_some hf (fun b5 hb5 hf => ?_)
    have ab5 : is_A (put_I p4 a0 16 (1)) b5 6 := ((sg_T.op (Tp4).putI (j := 13) (((Ep4.at h0)).putI) rfl)) b5 hb5
    refine J_getI (q := 32) C0 fl_X11_230_6 hb5 (ab5) rfl dX11_image_29 rfl ?_
    obtain rfl := Option.some.inj hf; exact J_iret C1 dX11_image_32 rfl (Nat.zero_le _) (Nat.zero_le _) ⟨rfl, rfl, (Tp4).putI, ((hE).tr Ep4).putI⟩
  · refine J_iconst (q := 8) (v := (-1)) C0 dX11_image_7 rfl rfl ?_
    obtain rfl := Option.some.inj hf; exact J_iret C1 dX11_image_8 rfl (Nat.zero_le _) (Nat.zero_le _) ⟨rfl, rfl, hT, hE⟩
def f_X11_back (N : Nat) (a0 : Nat) (σ : Sg) : Option (Int32 × Sg) :=
  if (sg_I σ a0 16) = (0) then
  (some ((-1), σ))
  else
  (Option.bind (sg_R σ a0 13) fun b2 =>
  Option.bind (f_X7_copyFrom N b2 (sg_R σ a0 15) σ) fun p3 =>
  Option.bind (sg_R p3 a0 14) fun b4 =>
  Option.bind (f_X5_clear b4  p3) fun p5 =>
  Option.bind (sg_R p5 a0 13) fun b6 =>
  some (sg_I p5 b6 5, p5))
set_option maxHeartbeats 4000000 in
set_option maxRecDepth 100000 in
theorem t_X11_back (N : Nat) (a0 : Nat) {σ : Sg} (hT : sg_T σ) (h0 : is_A σ a0 10) {r : (Int32 × Sg)} (hf : f_X11_back N a0  σ = some r) : Ct yX11_back cX11_back 1 (some .int) 2 48 0 0 [vr (some a0)] σ (fun r_ τ_ => (r_ = some (vi r.1)) ∧ τ_ = r.2 ∧ sg_T τ_ ∧ sg_E σ τ_) := by
  refine Ct.of (by decide +kernel) (Nat.le_of_ble_eq_true rfl) (fun Γ C1 => ?_)
  have C0 := C1.1
  have hE : sg_E σ σ := sg_E.rf
  unfold f_X11_back at hf
  show J_ Γ 0 [(0, vr (some a0))] [] σ 0 0
  refine J_aload_n (q := 1) C0 0 rfl rfl dX11_back_0 rfl trivial ?_
  refine J_getI (q := 4) C0 fl_X11_89_10 rfl (h0) rfl dX11_back_1 rfl ?_
  refine J_if_ne (t := 9) (q := 7) C0 dX11_back_4 (by decide) rfl hf (fun c1 hf => ?_) (fun c1 hf => ?_)
  · refine J_aload_n (q := 10) C0 0 rfl rfl dX11_back_9 rfl trivial ?_
    refine J_getR (q := 13) C0 fl_X11_75_10 rfl (h0) rfl dX11_back_10 rfl ?_
    refine J_aload_n (q := 14) C0 0 rfl rfl dX11_back_13 rfl trivial ?_
    refine J_getR (q := 17) C0 fl_X11_86_10 rfl (h0) rfl dX11_back_14 rfl ?_
    refine K_some hf (fun b2 hb2 hf => ?_)
    have ab2 : is_A σ b2 6 := ((sg_T.op hT (j := 13) (h0) rfl)) b2 hb2
    refine K_some hf (fun p3 hp3 hf => ?_)
    refine J_callV (q := 20) (ci := 6) (as := [vr (sg_R σ a0 15)]) (rest := []) C0 hb2 (ab2) (t_X7_copyFrom N b2 (sg_R σ a0 15) (hT) (ab2) ((sg_T.op hT (j := 15) (h0) rfl)) hp3) ml_X7_copyFrom lk_X11_415 im_X7_copyFrom se_X7_copyFrom rfl (by decide) dX11_back_17 rfl rfl rfl (by simp [ac_]) C1.room (by decide) (by decide) (by decide) (by decide) (fun r_ τ_ hQ => ?_)
    obtain ⟨rfl, ht_, Tp3, Ep3⟩ := hQ; have ht_ := ht_.symm; subst ht_
    show J_ Γ 20 [(0, vr (some a0))] [] p3 0 0
    refine J_aload_n (q := 21) C0 0 rfl rfl dX11_back_20 rfl trivial ?_
    refine J_getR (q := 24) C0 fl_X11_82_10 rfl ((Ep3.at h0)) rfl dX11_back_21 rfl ?_
    refine K_some hf (fun b4 hb4 hf => ?_)
    have ab4 : is_A p3 b4 5 := ((sg_T.op Tp3 (j := 14) ((Ep3.at h0)) rfl)) b4 hb4
    refine K_some hf (fun p5 hp5 hf => ?_)
    refine J_callV (q := 27) (ci := 5) (as := []) (rest := []) C0 hb4 (ab4) (t_X5_clear b4  (Tp3) (ab4)  hp5) ml_X5_clear lk_X11_173 im_X5_clear se_X5_clear rfl (by decide) dX11_back_24 rfl rfl rfl (by simp [ac_]) C1.room (by decide) (by decide) (by decide) (by decide) (fun r_ τ_ hQ => ?_)
    obtain ⟨rfl, ht_, Tp5, Ep5⟩ := hQ; have ht_ := ht_.symm; subst ht_
    show J_ Γ 27 [(0, vr (some a0))] [] p5 0 0
    refine J_aload_n (q := 28) C0 0 rfl rfl dX11_back_27 rfl trivial ?_
    refine J_getR (q := 31) C0 fl_X11_75_10 rfl ((Ep5.at (Ep3.at h0))) rfl dX11_back_28 rfl ?_
    refine K_some hf (fun b6 hb6 hf => ?_)
    have ab6 : is_A p5 b6 6 := ((sg_T.op Tp5 (j := 13) ((Ep5.at (Ep3.at h0))) rfl)) b6 hb6
    refine J_getI (q := 34) C0 fl_X11_230_6 hb6 (ab6) rfl dX11_back_31 rfl ?_
    obtain rfl := Option.some.inj hf; exact J_iret C1 dX11_back_34 rfl (Nat.zero_le _) (Nat.zero_le _) ⟨rfl, rfl, Tp5, ((hE).tr Ep3).tr Ep5⟩
  · refine J_iconst (q := 8) (v := (-1)) C0 dX11_back_7 rfl rfl ?_
    obtain rfl := Option.some.inj hf; exact J_iret C1 dX11_back_8 rfl (Nat.zero_le _) (Nat.zero_le _) ⟨rfl, rfl, hT, hE⟩
def f_X11_count (a0 : Nat) (x1 : Int32) (σ : Sg) : Option Int32 :=
  if (x1) = 0 then
  (Option.bind (sg_R σ a0 13) fun b2 =>
  some (sg_I σ b2 1))
  else
  if (x1) = 1 then
  (some (sg_I σ a0 6))
  else
  if (x1) = 2 then
  (some (sg_I σ a0 9))
  else
  if (x1) = 3 then
  (some (sg_I σ a0 1))
  else
  if (x1) = 4 then
  (some (sg_I σ a0 7))
  else
  if (x1) = 5 then
  (Option.bind (sg_R σ a0 13) fun b8 =>
  some (sg_I σ b8 5))
  else
  if (x1) = 6 then
  (some (sg_I σ a0 11))
  else
  if (x1) = 7 then
  (Option.bind (sg_R σ a0 17) fun b11 =>
  some (sg_I σ b11 3))
  else
  if (x1) = 8 then
  (Option.bind (sg_R σ a0 13) fun b13 =>
  Option.bind (f_X7_rowCount b13  σ) fun p14 =>
  some (p14))
  else
  if (x1) = 9 then
  (Option.bind (sg_R σ a0 14) fun b16 =>
  some (sg_I σ b16 2))
  else
  (some ((-1000000)))
set_option maxHeartbeats 4000000 in
set_option maxRecDepth 100000 in
theorem t_X11_count (a0 : Nat) (x1 : Int32) {σ : Sg} (hT : sg_T σ) (h0 : is_A σ a0 10) {r : Int32} (hf : f_X11_count a0 x1 σ = some r) : Ct yX11_count cX11_count 2 (some .int) 2 41 0 0 [vr (some a0), vi x1] σ (fun r_ τ_ => (r_ = some (vi r)) ∧ τ_ = σ) := by
  refine Ct.of (by decide +kernel) (Nat.le_of_ble_eq_true rfl) (fun Γ C1 => ?_)
  have C0 := C1.1
  unfold f_X11_count at hf
  show J_ Γ 0 [(0, vr (some a0)), (1, vi (x1))] [] σ 0 0
  refine J_iload_n (q := 1) C0 1 rfl rfl dX11_count_0 rfl ?_
  refine K_ite hf (fun c1 hf => ?_) (fun c1 hf => ?_)
  · refine J_tblIn (t := 56) (off := 55) C0 dX11_count_1 (by rw [c1]; decide) (by rw [c1]; decide) (by rw [c1]; rfl) (by decide) ?_
    refine J_aload_n (q := 57) C0 0 rfl rfl dX11_count_56 rfl trivial ?_
    refine J_getR (q := 60) C0 fl_X11_75_10 rfl (h0) rfl dX11_count_57 rfl ?_
    refine K_some hf (fun b2 hb2 hf => ?_)
    have ab2 : is_A σ b2 6 := ((sg_T.op hT (j := 13) (h0) rfl)) b2 hb2
    refine J_getI (q := 63) C0 fl_X11_150_6 hb2 (ab2) rfl dX11_count_60 rfl ?_
    obtain rfl := Option.some.inj hf; exact J_iret C1 dX11_count_63 rfl (Nat.zero_le _) (Nat.zero_le _) ⟨rfl, rfl⟩
  refine K_ite hf (fun c3 hf => ?_) (fun c3 hf => ?_)
  · refine J_tblIn (t := 64) (off := 63) C0 dX11_count_1 (by rw [c3]; decide) (by rw [c3]; decide) (by rw [c3]; rfl) (by decide) ?_
    refine J_aload_n (q := 65) C0 0 rfl rfl dX11_count_64 rfl trivial ?_
    refine J_getI (q := 68) C0 fl_X11_44_10 rfl (h0) rfl dX11_count_65 rfl ?_
    obtain rfl := Option.some.inj hf; exact J_iret C1 dX11_count_68 rfl (Nat.zero_le _) (Nat.zero_le _) ⟨rfl, rfl⟩
  refine K_ite hf (fun c4 hf => ?_) (fun c4 hf => ?_)
  · refine J_tblIn (t := 69) (off := 68) C0 dX11_count_1 (by rw [c4]; decide) (by rw [c4]; decide) (by rw [c4]; rfl) (by decide) ?_
    refine J_aload_n (q := 70) C0 0 rfl rfl dX11_count_69 rfl trivial ?_
    refine J_getI (q := 73) C0 fl_X11_56_10 rfl (h0) rfl dX11_count_70 rfl ?_
    obtain rfl := Option.some.inj hf; exact J_iret C1 dX11_count_73 rfl (Nat.zero_le _) (Nat.zero_le _) ⟨rfl, rfl⟩
  refine K_ite hf (fun c5 hf => ?_) (fun c5 hf => ?_)
  · refine J_tblIn (t := 74) (off := 73) C0 dX11_count_1 (by rw [c5]; decide) (by rw [c5]; decide) (by rw [c5]; rfl) (by decide) ?_
    refine J_aload_n (q := 75) C0 0 rfl rfl dX11_count_74 rfl trivial ?_
    refine J_getI (q := 78) C0 fl_X11_13_10 rfl (h0) rfl dX11_count_75 rfl ?_
    obtain rfl := Option.some.inj hf; exact J_iret C1 dX11_count_78 rfl (Nat.zero_le _) (Nat.zero_le _) ⟨rfl, rfl⟩
  refine K_ite hf (fun c6 hf => ?_) (fun c6 hf => ?_)
  · refine J_tblIn (t := 79) (off := 78) C0 dX11_count_1 (by rw [c6]; decide) (by rw [c6]; decide) (by rw [c6]; rfl) (by decide) ?_
    refine J_aload_n (q := 80) C0 0 rfl rfl dX11_count_79 rfl trivial ?_
    refine J_getI (q := 83) C0 fl_X11_47_10 rfl (h0) rfl dX11_count_80 rfl ?_
    obtain rfl := Option.some.inj hf; exact J_iret C1 dX11_count_83 rfl (Nat.zero_le _) (Nat.zero_le _) ⟨rfl, rfl⟩
  refine K_ite hf (fun c7 hf => ?_) (fun c7 hf => ?_)
  · refine J_tblIn (t := 84) (off := 83) C0 dX11_count_1 (by rw [c7]; decide) (by rw [c7]; decide) (by rw [c7]; rfl) (by decide) ?_
    refine J_aload_n (q := 85) C0 0 rfl rfl dX11_count_84 rfl trivial ?_
    refine J_getR (q := 88) C0 fl_X11_75_10 rfl (h0) rfl dX11_count_85 rfl ?_
    refine K_some hf (fun b8 hb8 hf => ?_)
    have ab8 : is_A σ b8 6 := ((sg_T.op hT (j := 13) (h0) rfl)) b8 hb8
    refine J_getI (q := 91) C0 fl_X11_230_6 hb8 (ab8) rfl dX11_count_88 rfl ?_
    obtain rfl := Option.some.inj hf; exact J_iret C1 dX11_count_91 rfl (Nat.zero_le _) (Nat.zero_le _) ⟨rfl, rfl⟩
  refine K_ite hf (fun c9 hf => ?_) (fun c9 hf => ?_)
  · refine J_tblIn (t := 92) (off := 91) C0 dX11_count_1 (by rw [c9]; decide) (by rw [c9]; decide) (by rw [c9]; rfl) (by decide) ?_
    refine J_aload_n (q := 93) C0 0 rfl rfl dX11_count_92 rfl trivial ?_
    refine J_getI (q := 96) C0 fl_X11_66_10 rfl (h0) rfl dX11_count_93 rfl ?_
    obtain rfl := Option.some.inj hf; exact J_iret C1 dX11_count_96 rfl (Nat.zero_le _) (Nat.zero_le _) ⟨rfl, rfl⟩
  refine K_ite hf (fun c10 hf => ?_) (fun c10 hf => ?_)
  · refine J_tblIn (t := 97) (off := 96) C0 dX11_count_1 (by rw [c10]; decide) (by rw [c10]; decide) (by rw [c10]; rfl) (by decide) ?_
    refine J_aload_n (q := 98) C0 0 rfl rfl dX11_count_97 rfl trivial ?_
    refine J_getR (q := 101) C0 fl_X11_96_10 rfl (h0) rfl dX11_count_98 rfl ?_
    refine K_some hf (fun b11 hb11 hf => ?_)
    have ab11 : is_A σ b11 4 := ((sg_T.op hT (j := 17) (h0) rfl)) b11 hb11
    refine J_getI (q := 104) C0 fl_X11_418_4 hb11 (ab11) rfl dX11_count_101 rfl ?_
    obtain rfl := Option.some.inj hf; exact J_iret C1 dX11_count_104 rfl (Nat.zero_le _) (Nat.zero_le _) ⟨rfl, rfl⟩
  refine K_ite hf (fun c12 hf => ?_) (fun c12 hf => ?_)
  · refine J_tblIn (t := 105) (off := 104) C0 dX11_count_1 (by rw [c12]; decide) (by rw [c12]; decide) (by rw [c12]; rfl) (by decide) ?_
    refine J_aload_n (q := 106) C0 0 rfl rfl dX11_count_105 rfl trivial ?_
    refine J_getR (q := 109) C0 fl_X11_75_10 rfl (h0) rfl dX11_count_106 rfl ?_
    refine K_some hf (fun b13 hb13 hf => ?_)
    have ab13 : is_A σ b13 6 := ((sg_T.op hT (j := 13) (h0) rfl)) b13 hb13
    refine K_some hf (fun p14 hp14 hf => ?_)
    refine J_callV (q := 112) (ci := 6) (as := []) (rest := []) C0 hb13 (ab13) (t_X7_rowCount b13  (ab13)  hp14) ml_X7_rowCount lk_X11_250 im_X7_rowCount se_X7_rowCount rfl (by decide) dX11_count_109 rfl rfl rfl (by simp [ac_]) C1.room (by decide) (by decide) (by decide) (by decide) (fun r_ τ_ hQ => ?_)
    obtain ⟨rfl, ht_⟩ := hQ; have ht_ := ht_.symm; subst ht_
    show J_ Γ 112 [(0, vr (some a0)), (1, vi (x1))] [vi (p14)] σ 0 0
    obtain rfl := Option.some.inj hf; exact J_iret C1 dX11_count_112 rfl (Nat.zero_le _) (Nat.zero_le _) ⟨rfl, rfl⟩
  refine K_ite hf (fun c15 hf => ?_) (fun c15 hf => ?_)
  · refine J_tblIn (t := 113) (off := 112) C0 dX11_count_1 (by rw [c15]; decide) (by rw [c15]; decide) (by rw [c15]; rfl) (by decide) ?_
    refine J_aload_n (q := 114) C0 0 rfl rfl dX11_count_113 rfl trivial ?_
    refine J_getR (q := 117) C0 fl_X11_82_10 rfl (h0) rfl dX11_count_114 rfl ?_
    refine K_some hf (fun b16 hb16 hf => ?_)
    have ab16 : is_A σ b16 5 := ((sg_T.op hT (j := 14) (h0) rfl)) b16 hb16
    refine J_getI (q := 120) C0 fl_X11_420_5 hb16 (ab16) rfl dX11_count_117 rfl ?_
    obtain rfl := Option.some.inj hf; exact J_iret C1 dX11_count_120 rfl (Nat.zero_le _) (Nat.zero_le _) ⟨rfl, rfl⟩
  refine J_tblOut (t := 121) C0 dX11_count_1 (by have tc1 := lv_neT c1 (a := 0) (by decide); have tc3 := lv_neT c3 (a := 1) (by decide); have tc4 := lv_neT c4 (a := 2) (by decide); have tc5 := lv_neT c5 (a := 3) (by decide); have tc6 := lv_neT c6 (a := 4) (by decide); have tc7 := lv_neT c7 (a := 5) (by decide); have tc9 := lv_neT c9 (a := 6) (by decide); have tc10 := lv_neT c10 (a := 7) (by decide); have tc12 := lv_neT c12 (a := 8) (by decide); have tc15 := lv_neT c15 (a := 9) (by decide); omega) (by decide) ?_
  refine J_ldc_w (q := 124) C0 kc_X11_287 dX11_count_121 rfl ?_
  obtain rfl := Option.some.inj hf; exact J_iret C1 dX11_count_124 rfl (Nat.zero_le _) (Nat.zero_le _) ⟨rfl, rfl⟩
