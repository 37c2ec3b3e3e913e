def f_X11_lookOnce_B38 (N : Nat) (a0 : Nat) (k4 : Int32 → Int32 → Sg → Option Sg) (v1 : Int32) (v2 : Int32) (s0 : Int32) (σ : Sg) : Option Sg :=
  k4 ((v1) ||| ((s0) <<< (((5) * (v2)) &&& 31))) (v2 + 1) σ
def f_X11_lookOnce_L4 (N : Nat) (a0 : Nat) : Nat → Int32 → Int32 → Sg → Option Sg
  | 0, _, _, _ => none
  | n + 1, v1, v2, σ =>
  if (v2) < (4) then
  (Option.bind (sg_R σ a0 13) fun b8 =>
  if (v2) < (sg_I σ b8 1) then
  (Option.bind (sg_R σ b8 0) fun b10 =>
  if (v2) < 0 ∨ sg_L σ b10 ≤ (v2).toNatClampNeg then none else
  Option.bind (f_X11_shown a0 (sg_R σ b10 (v2).toNatClampNeg) σ) fun p12 =>
  f_X11_lookOnce_B38 N a0 (f_X11_lookOnce_L4 N a0 n) (v1) (v2) (p12) σ)
  else
  (f_X11_lookOnce_B38 N a0 (f_X11_lookOnce_L4 N a0 n) (v1) (v2) (26) σ))
  else
  (Option.bind (sg_R σ a0 13) fun b2 =>
  Option.bind (f_X7_addRow b2 (v1) σ) fun p3 =>
  Option.bind (f_X11_allShowOne N a0  p3) fun p4 =>
  if (p4) = (0) then
  (some (p3))
  else
  (Option.bind (sg_R p3 a0 13) fun b6 =>
  if (sg_I p3 b6 4) < (999) then
  (some (put_I p3 b6 4 ((sg_I p3 b6 4) + (1))))
  else
  (some (p3))))
def f_X11_lookOnce (N : Nat) (a0 : Nat) (σ : Sg) : Option Sg :=
  f_X11_lookOnce_L4 N a0 N (0) (0) σ
set_option maxHeartbeats 4000000 in
set_option maxRecDepth 100000 in
theorem t_X11_lookOnce_B38 {N : Nat} {a0 : Nat} {Γ : Gm} {σ0 : Sg} {r : Sg} (C1 : CM Γ cX11_lookOnce RX11 4 none 5 108 0 0 (fun r_ τ_ => (r_ = none) ∧ τ_ = r ∧ sg_T τ_ ∧ sg_E σ0 τ_)) (k4 : Int32 → Int32 → Sg → Option Sg) (hk4 : ∀ (v1 : Int32) (v2 : Int32) (σ : Sg), sg_T σ → sg_E σ0 σ → is_A σ a0 10 → k4 v1 v2 σ = some r → J_ Γ 4 [(0, vr (some a0)), (1, vi v1), (2, vi v2)] [] σ 0 0) (v1 : Int32) (v2 : Int32) (s0 : Int32) (σ : Sg) (hT : sg_T σ) (hE : sg_E σ0 σ) (h0 : is_A σ a0 10) (hf : f_X11_lookOnce_B38 N a0 k4  v1 v2 s0 σ = some r) : J_ Γ 38 [(0, vr (some a0)), (1, vi (v1)), (2, vi (v2))] [vi (s0)] σ 0 0 := by
  have C0 := C1.1
  unfold f_X11_lookOnce_B38 at hf
  refine J_istore_n (q := 39) (lv' := [(3, vi (s0)), (0, vr (some a0)), (1, vi (v1)), (2, vi (v2))]) C0 rfl (G_nl C1 (by decide)) dX11_lookOnce_38 rfl rfl ?_
  refine J_iload_n (q := 40) C0 2 rfl rfl dX11_lookOnce_39 rfl ?_
  refine J_iload_n (q := 41) C0 0 rfl rfl dX11_lookOnce_40 rfl ?_
  refine J_iconst (q := 42) (v := 5) C0 dX11_lookOnce_41 rfl rfl ?_
  refine J_iload_n (q := 43) C0 3 rfl rfl dX11_lookOnce_42 rfl ?_
  refine J_imul (q := 44) C0 dX11_lookOnce_43 rfl ?_
  refine J_ishl (q := 45) C0 dX11_lookOnce_44 rfl ?_
  refine J_ior (q := 46) C0 dX11_lookOnce_45 rfl ?_
  refine J_istore_n (q := 47) (lv' := [(1, vi ((v1) ||| ((s0) <<< (((5) * (v2)) &&& 31)))), (3, vi (s0)), (0, vr (some a0)), (2, vi (v2))]) C0 rfl (G_nl C1 (by decide)) dX11_lookOnce_46 rfl rfl ?_
  refine J_iinc (q := 50) (v := v2 + 1) (lv' := [(2, vi (v2 + 1)), (1, vi ((v1) ||| ((s0) <<< (((5) * (v2)) &&& 31)))), (3, vi (s0)), (0, vr (some a0))]) C0 3 rfl rfl (G_nl C1 (by decide)) dX11_lookOnce_47 rfl rfl ?_
  refine J_goto (q := 4) C0 dX11_lookOnce_50 (by decide) ?_
  refine J_sub (lv' := [(0, vr (some a0)), (1, vi ((v1) ||| ((s0) <<< (((5) * (v2)) &&& 31)))), (2, vi (v2 + 1))]) [3, 1, 0] rfl ?_
  exact hk4 ((v1) ||| ((s0) <<< (((5) * (v2)) &&& 31))) (v2 + 1) σ (hT) (hE)  (h0)  hf
set_option maxHeartbeats 4000000 in
set_option maxRecDepth 100000 in
theorem t_X11_lookOnce_L4 {N : Nat} {a0 : Nat} {Γ : Gm} {σ0 : Sg} {r : Sg} (C1 : CM Γ cX11_lookOnce RX11 4 none 5 108 0 0 (fun r_ τ_ => (r_ = none) ∧ τ_ = r ∧ sg_T τ_ ∧ sg_E σ0 τ_)) : ∀ (n : Nat) (v1 : Int32) (v2 : Int32) (σ : Sg), sg_T σ → sg_E σ0 σ → is_A σ a0 10 → f_X11_lookOnce_L4 N a0  n v1 v2 σ = some r → J_ Γ 4 [(0, vr (some a0)), (1, vi (v1)), (2, vi (v2))] [] σ 0 0 := by
  have C0 := C1.1
  intro n
  induction n with
  | zero => intro v1 v2 σ hT hE h0  hf; unfold f_X11_lookOnce_L4 at hf; cases hf
  | succ n ih =>
    intro v1 v2 σ hT hE h0  hf
    rw [f_X11_lookOnce_L4] at hf
    refine J_iload_n (q := 5) C0 2 rfl rfl dX11_lookOnce_4 rfl ?_
    refine J_iconst (q := 6) (v := 4) C0 dX11_lookOnce_5 rfl rfl ?_
    refine J_icmp_ge (t := 53) (q := 9) C0 dX11_lookOnce_6 (by decide) rfl hf (fun c1 hf => ?_) (fun c1 hf => ?_)
    · refine J_aload_n (q := 54) C0 0 rfl rfl dX11_lookOnce_53 rfl trivial ?_
      refine J_getR (q := 57) C0 fl_X11_75_10 rfl (h0) rfl dX11_lookOnce_54 rfl ?_
      refine J_iload_n (q := 58) C0 1 rfl rfl dX11_lookOnce_57 rfl ?_
      refine K_some hf (fun b2 hb2 hf => ?_)
      have ab2 : is_A σ b2 6 := ((sg_T.op hT (j := 13) (h0) rfl)) b2 hb2
      refine K_some hf (fun p3 hp3 hf => ?_)
      refine J_callV (q := 61) (ci := 6) (as := [vi (v1)]) (rest := []) C0 hb2 (ab2) (t_X7_addRow b2 (v1) (hT) (ab2)  hp3) ml_X7_addRow lk_X11_262 im_X7_addRow se_X7_addRow rfl (by decide) dX11_lookOnce_58 rfl rfl rfl (by simp [ac_]) C1.room (by decide) (by decide) (by decide) (by decide) (fun r_ τ_ hQ => ?_)
      obtain ⟨rfl, ht_, Tp3, Ep3⟩ := hQ; have ht_ := ht_.symm; subst ht_
      show J_ Γ 61 [(0, vr (some a0)), (1, vi (v1)), (2, vi (v2))] [] p3 0 0
      refine J_aload_n (q := 62) C0 0 rfl rfl dX11_lookOnce_61 rfl trivial ?_
      refine K_some hf (fun p4 hp4 hf => ?_)
      refine J_callV (q := 65) (ci := 10) (as := []) (rest := []) C0 rfl ((Ep3.at h0)) (t_X11_allShowOne N a0  (Tp3) ((Ep3.at h0))  hp4) ml_X11_allShowOne lk_X11_265 im_X11_allShowOne se_X11_allShowOne rfl (by decide) dX11_lookOnce_62 rfl rfl rfl (by simp [ac_]) C1.room (by decide) (by decide) (by decide) (by decide) (fun r_ τ_ hQ => ?_)
      obtain ⟨⟨rfl, zp4⟩, ht_⟩ := hQ; have ht_ := ht_.symm; subst ht_
      show J_ Γ 65 [(0, vr (some a0)), (1, vi (v1)), (2, vi (v2))] [vi (p4)] p3 0 0
      refine J_if_eq (t := 94) (q := 68) C0 dX11_lookOnce_65 (by decide) rfl hf (fun c5 hf => ?_) (fun c5 hf => ?_)
      · obtain rfl := Option.some.inj hf; exact J_vret C1 dX11_lookOnce_94 rfl (Nat.zero_le _) (Nat.zero_le _) ⟨rfl, rfl, Tp3, (hE).tr Ep3⟩
      · refine J_aload_n (q := 69) C0 0 rfl rfl dX11_lookOnce_68 rfl trivial ?_
        refine J_getR (q := 72) C0 fl_X11_75_10 rfl ((Ep3.at h0)) rfl dX11_lookOnce_69 rfl ?_
        refine K_some hf (fun b6 hb6 hf => ?_)
        have ab6 : is_A p3 b6 6 := ((sg_T.op Tp3 (j := 13) ((Ep3.at h0)) rfl)) b6 hb6
        refine J_getI (q := 75) C0 fl_X11_192_6 hb6 (ab6) rfl dX11_lookOnce_72 rfl ?_
        refine J_sipush (q := 78) (v := 999) C0 dX11_lookOnce_75 rfl rfl ?_
        refine J_icmp_ge (t := 94) (q := 81) C0 dX11_lookOnce_78 (by decide) rfl hf (fun c7 hf => ?_) (fun c7 hf => ?_)
        · obtain rfl := Option.some.inj hf; exact J_vret C1 dX11_lookOnce_94 rfl (Nat.zero_le _) (Nat.zero_le _) ⟨rfl, rfl, Tp3, (hE).tr Ep3⟩
        · refine J_aload_n (q := 82) C0 0 rfl rfl dX11_lookOnce_81 rfl trivial ?_
          refine J_getR (q := 85) C0 fl_X11_75_10 rfl ((Ep3.at h0)) rfl dX11_lookOnce_82 rfl ?_
          refine J_dup (q := 86) C0 dX11_lookOnce_85 rfl rfl ?_
          refine J_getI (q := 89) C0 fl_X11_192_6 hb6 (ab6) rfl dX11_lookOnce_86 rfl ?_
          refine J_iconst (q := 90) (v := 1) C0 dX11_lookOnce_89 rfl rfl ?_
          refine J_iadd (q := 91) C0 dX11_lookOnce_90 rfl ?_
          refine J_putI (q := 94) C0 fl_X11_192_6 hb6 (ab6) rfl dX11_lookOnce_91 rfl ?_
          obtain rfl := Option.some.inj hf; exact J_vret C1 dX11_lookOnce_94 rfl (Nat.zero_le _) (Nat.zero_le _) ⟨rfl, rfl, (Tp3).putI, ((hE).tr Ep3).putI⟩
    · refine J_iload_n (q := 10) C0 2 rfl rfl dX11_lookOnce_9 rfl ?_
      refine J_aload_n (q := 11) C0 0 rfl rfl dX11_lookOnce_10 rfl trivial ?_
      refine J_getR (q := 14) C0 fl_X11_75_10 rfl (h0) rfl dX11_lookOnce_11 rfl ?_
      refine K_some hf (fun b8 hb8 hf => ?_)
      have ab8 : is_A σ b8 6 := ((sg_T.op hT (j := 13) (h0) rfl)) b8 hb8
      refine J_getI (q := 17) C0 fl_X11_150_6 hb8 (ab8) rfl dX11_lookOnce_14 rfl ?_
      refine J_icmp_ge (t := 36) (q := 20) C0 dX11_lookOnce_17 (by decide) rfl hf (fun c9 hf => ?_) (fun c9 hf => ?_)
      · refine J_bipush (q := 38) (v := 26) C0 dX11_lookOnce_36 rfl rfl ?_
        exact t_X11_lookOnce_B38 C1  (f_X11_lookOnce_L4 N a0 n)  ih  (v1) (v2) (26) σ (hT) (hE) (h0)  hf
      · refine J_aload_n (q := 21) C0 0 rfl rfl dX11_lookOnce_20 rfl trivial ?_
        refine J_aload_n (q := 22) C0 0 rfl rfl dX11_lookOnce_21 rfl trivial ?_
        refine J_getR (q := 25) C0 fl_X11_75_10 rfl (h0) rfl dX11_lookOnce_22 rfl ?_
        refine J_getR (q := 28) C0 fl_X11_153_6 hb8 (ab8) rfl dX11_lookOnce_25 rfl ?_
        refine J_iload_n (q := 29) C0 2 rfl rfl dX11_lookOnce_28 rfl ?_
        refine K_some hf (fun b10 hb10 hf => ?_)
        have ab10 : is_A σ b10 18 := ((sg_T.op hT (j := 0) (ab8) rfl)) b10 hb10
        refine K_chk hf (fun c11 hf => ?_)
        refine J_aald (q := 30) C0 hb10 (ab10) (by decide) c11 dX11_lookOnce_29 rfl ?_
        refine K_some hf (fun p12 hp12 hf => ?_)
        refine J_callV (q := 33) (ci := 10) (as := [vr (sg_R σ b10 (v2).toNatClampNeg)]) (rest := []) C0 rfl (h0) (t_X11_shown a0 (sg_R σ b10 (v2).toNatClampNeg) (hT) (h0) ((sg_T.op hT (j := (v2).toNatClampNeg) (ab10) rfl)) hp12) ml_X11_shown lk_X11_215 im_X11_shown se_X11_shown rfl (by decide) dX11_lookOnce_30 rfl rfl rfl (by simp [ac_]) C1.room (by decide) (by decide) (by decide) (by decide) (fun r_ τ_ hQ => ?_)
        obtain ⟨rfl, ht_⟩ := hQ; have ht_ := ht_.symm; subst ht_
        show J_ Γ 33 [(0, vr (some a0)), (1, vi (v1)), (2, vi (v2))] [vi (p12)] σ 0 0
        refine J_goto (q := 38) C0 dX11_lookOnce_33 (by decide) ?_
        exact t_X11_lookOnce_B38 C1  (f_X11_lookOnce_L4 N a0 n)  ih  (v1) (v2) (p12) σ (hT) (hE) (h0)  hf
set_option maxHeartbeats 4000000 in
set_option maxRecDepth 100000 in
theorem t_X11_lookOnce (N : Nat) (a0 : Nat) {σ : Sg} (hT : sg_T σ) (h0 : is_A σ a0 10) {r : Sg} (hf : f_X11_lookOnce N a0  σ = some r) : Ct yX11_lookOnce cX11_lookOnce 4 none 5 108 0 0 [vr (some a0)] σ (fun r_ τ_ => (r_ = none) ∧ τ_ = r ∧ sg_T τ_ ∧ sg_E σ τ_) := by
  refine Ct.of (by decide +kernel) (Nat.le_of_ble_eq_true rfl) (fun Γ C1 => ?_)
  have C0 := C1.1
  have hE : sg_E σ σ := sg_E.rf
  unfold f_X11_lookOnce at hf
  show J_ Γ 0 [(0, vr (some a0))] [] σ 0 0
  refine J_iconst (q := 1) (v := 0) C0 dX11_lookOnce_0 rfl rfl ?_
  refine J_istore_n (q := 2) (lv' := [(1, vi (0)), (0, vr (some a0))]) C0 rfl (G_nl C1 (by decide)) dX11_lookOnce_1 rfl rfl ?_
  refine J_iconst (q := 3) (v := 0) C0 dX11_lookOnce_2 rfl rfl ?_
  refine J_istore_n (q := 4) (lv' := [(2, vi (0)), (1, vi (0)), (0, vr (some a0))]) C0 rfl (G_nl C1 (by decide)) dX11_lookOnce_3 rfl rfl ?_
  refine J_sub (lv' := [(0, vr (some a0)), (1, vi (0)), (2, vi (0))]) [2, 1, 0] rfl ?_
  exact t_X11_lookOnce_L4 C1    N (0) (0) σ (hT) (hE) (h0)  hf
def f_X11_tickOnce_B59 (N : Nat) (a0 : Nat) (σ : Sg) : Option Sg :=
  Option.bind (sg_R σ a0 13) fun b3 =>
  Option.bind (sg_R (put_I σ b3 5 ((sg_I σ b3 5) + (1))) a0 13) fun b4 =>
  Option.bind (f_X11_round (sg_I (put_I σ b3 5 ((sg_I σ b3 5) + (1))) b4 5) (sg_I (put_I σ b3 5 ((sg_I σ b3 5) + (1))) b4 2) ) fun p5 =>
  if (p5) = (0) then
  (Option.bind (f_X11_lookOnce N a0  (put_I σ b3 5 ((sg_I σ b3 5) + (1)))) fun p7 =>
  some (p7))
  else
  (some (put_I σ b3 5 ((sg_I σ b3 5) + (1))))
def f_X11_tickOnce_L25 (N : Nat) (a0 : Nat) : Nat → Int32 → Sg → Option Sg
  | 0, _, _ => none
  | n + 1, v1, σ =>
  Option.bind (sg_R σ a0 13) fun b8 =>
  if (v1) < (sg_I σ b8 1) then
  (Option.bind (sg_R σ b8 0) fun b10 =>
  if (v1) < 0 ∨ sg_L σ b10 ≤ (v1).toNatClampNeg then none else
  Option.bind (f_X11_nextPlace N a0 (v1) σ) fun p12 =>
  Option.bind (sg_R σ b10 (v1).toNatClampNeg) fun b13 =>
  f_X11_tickOnce_L25 N a0 n (v1 + 1) (put_I p12.2 b13 2 (p12.1)))
  else
  (f_X11_tickOnce_B59 N a0  σ)
def f_X11_tickOnce (N : Nat) (a0 : Nat) (σ : Sg) : Option Sg :=
  Option.bind (sg_R σ a0 13) fun b1 =>
  if (0) < (sg_I σ b1 3) then
  (f_X11_tickOnce_L25 N a0 N (0) (put_I σ b1 3 ((sg_I σ b1 3) - (1))))
  else
  (f_X11_tickOnce_B59 N a0  σ)
set_option maxHeartbeats 4000000 in
set_option maxRecDepth 100000 in
theorem t_X11_tickOnce_B59 {N : Nat} {a0 : Nat} {Γ : Gm} {σ0 : Sg} {r : Sg} (C1 : CM Γ cX11_tickOnce RX11 2 none 6 131 0 0 (fun r_ τ_ => (r_ = none) ∧ τ_ = r ∧ sg_T τ_ ∧ sg_E σ0 τ_)) (σ : Sg) (hT : sg_T σ) (hE : sg_E σ0 σ) (h0 : is_A σ a0 10) (hf : f_X11_tickOnce_B59 N a0   σ = some r) : J_ Γ 59 [(0, vr (some a0))] [] σ 0 0 := by
  have C0 := C1.1
  unfold f_X11_tickOnce_B59 at hf
  refine J_aload_n (q := 60) C0 0 rfl rfl dX11_tickOnce_59 rfl trivial ?_
  refine J_getR (q := 63) C0 fl_X11_75_10 rfl (h0) rfl dX11_tickOnce_60 rfl ?_
  refine J_dup (q := 64) C0 dX11_tickOnce_63 rfl rfl ?_
  refine K_some hf (fun b3 hb3 hf => ?_)
  have ab3 : is_A σ b3 6 := ((sg_T.op hT (j := 13) (h0) rfl)) b3 hb3
  refine J_getI (q := 67) C0 fl_X11_230_6 hb3 (ab3) rfl dX11_tickOnce_64 rfl ?_
  refine J_iconst (q := 68) (v := 1) C0 dX11_tickOnce_67 rfl rfl ?_
  refine J_iadd (q := 69) C0 dX11_tickOnce_68 rfl ?_
  refine J_putI (q := 72) C0 fl_X11_230_6 hb3 (ab3) rfl dX11_tickOnce_69 rfl ?_
  refine J_aload_n (q := 73) C0 0 rfl rfl dX11_tickOnce_72 rfl trivial ?_
  refine J_getR (q := 76) C0 fl_X11_75_10 rfl ((h0).putI) rfl dX11_tickOnce_73 rfl ?_
  refine K_some hf (fun b4 hb4 hf => ?_)
  have ab4 : is_A (put_I σ b3 5 ((sg_I σ b3 5) + (1))) b4 6 := ((sg_T.op (hT).putI (j := 13) ((h0).putI) rfl)) b4 hb4
  refine J_getI (q := 79) C0 fl_X11_230_6 hb4 (ab4) rfl dX11_tickOnce_76 rfl ?_
  refine J_aload_n (q := 80) C0 0 rfl rfl dX11_tickOnce_79 rfl trivial ?_
  refine J_getR (q := 83) C0 fl_X11_75_10 rfl ((h0).putI) rfl dX11_tickOnce_80 rfl ?_
  refine J_getI (q := 86) C0 fl_X11_186_6 hb4 (ab4) rfl dX11_tickOnce_83 rfl ?_
  refine K_some hf (fun p5 hp5 hf => ?_)
  refine J_callS (q := 89) (as := [vi (sg_I (put_I σ b3 5 ((sg_I σ b3 5) + (1))) b4 5), vi (sg_I (put_I σ b3 5 ((sg_I σ b3 5) + (1))) b4 2)]) (rest := []) C0 (t_X11_round (sg_I (put_I σ b3 5 ((sg_I σ b3 5) + (1))) b4 5) (sg_I (put_I σ b3 5 ((sg_I σ b3 5) + (1))) b4 2)  hp5) ml_X11_round lk_X11_169 sm_X11_round dX11_tickOnce_86 rfl rfl rfl (by simp [ac_]) C1.room (by decide) (by decide) (by decide) (by decide) (fun r_ τ_ hQ => ?_)
  obtain ⟨rfl, ht_⟩ := hQ; have ht_ := ht_.symm; subst ht_
  show J_ Γ 89 [(0, vr (some a0))] [vi (p5)] (put_I σ b3 5 ((sg_I σ b3 5) + (1))) 0 0
  refine J_if_ne (t := 96) (q := 92) C0 dX11_tickOnce_89 (by decide) rfl hf (fun c6 hf => ?_) (fun c6 hf => ?_)
  · obtain rfl := Option.some.inj hf; exact J_vret C1 dX11_tickOnce_96 rfl (Nat.zero_le _) (Nat.zero_le _) ⟨rfl, rfl, (hT).putI, (hE).putI⟩
  · refine J_aload_n (q := 93) C0 0 rfl rfl dX11_tickOnce_92 rfl trivial ?_
    refine K_some hf (fun p7 hp7 hf => ?_)
    refine J_callV (q := 96) (ci := 10) (as := []) (rest := []) C0 rfl ((h0).putI) (t_X11_lookOnce N a0  ((hT).putI) ((h0).putI)  hp7) ml_X11_lookOnce lk_X11_259 im_X11_lookOnce se_X11_lookOnce rfl (by decide) dX11_tickOnce_93 rfl rfl rfl (by simp [ac_]) C1.room (by decide) (by decide) (by decide) (by decide) (fun r_ τ_ hQ => ?_)
    obtain ⟨rfl, ht_, Tp7, Ep7⟩ := hQ; have ht_ := ht_.symm; subst ht_
    show J_ Γ 96 [(0, vr (some a0))] [] p7 0 0
    obtain rfl := Option.some.inj hf; exact J_vret C1 dX11_tickOnce_96 rfl (Nat.zero_le _) (Nat.zero_le _) ⟨rfl, rfl, Tp7, ((hE).putI).tr Ep7⟩
set_option maxHeartbeats 4000000 in
set_option maxRecDepth 100000 in
theorem t_X11_tickOnce_L25 {N : Nat} {a0 : Nat} {Γ : Gm} {σ0 : Sg} {r : Sg} (C1 : CM Γ cX11_tickOnce RX11 2 none 6 131 0 0 (fun r_ τ_ => (r_ = none) ∧ τ_ = r ∧ sg_T τ_ ∧ sg_E σ0 τ_)) : ∀ (n : Nat) (v1 : Int32) (σ : Sg), sg_T σ → sg_E σ0 σ → is_A σ a0 10 → f_X11_tickOnce_L25 N a0  n v1 σ = some r → J_ Γ 25 [(0, vr (some a0)), (1, vi (v1))] [] σ 0 0 := by
  have C0 := C1.1
  intro n
  induction n with
  | zero => intro v1 σ hT hE h0  hf; unfold f_X11_tickOnce_L25 at hf; cases hf
  | succ n ih =>
    intro v1 σ hT hE h0  hf
    rw [f_X11_tickOnce_L25] at hf
    refine J_iload_n (q := 26) C0 1 rfl rfl dX11_tickOnce_25 rfl ?_
    refine J_aload_n (q := 27) C0 0 rfl rfl dX11_tickOnce_26 rfl trivial ?_
    refine J_getR (q := 30) C0 fl_X11_75_10 rfl (h0) rfl dX11_tickOnce_27 rfl ?_
    refine K_some hf (fun b8 hb8 hf => ?_)
    have ab8 : is_A σ b8 6 := ((sg_T.op hT (j := 13) (h0) rfl)) b8 hb8
    refine J_getI (q := 33) C0 fl_X11_150_6 hb8 (ab8) rfl dX11_tickOnce_30 rfl ?_
    refine J_icmp_ge (t := 59) (q := 36) C0 dX11_tickOnce_33 (by decide) rfl hf (fun c9 hf => ?_) (fun c9 hf => ?_)
    · refine J_sub (lv' := [(0, vr (some a0))]) [0] rfl ?_
      exact t_X11_tickOnce_B59 C1     σ (hT) (hE) (h0)  hf
    · refine J_aload_n (q := 37) C0 0 rfl rfl dX11_tickOnce_36 rfl trivial ?_
      refine J_getR (q := 40) C0 fl_X11_75_10 rfl (h0) rfl dX11_tickOnce_37 rfl ?_
      refine J_getR (q := 43) C0 fl_X11_153_6 hb8 (ab8) rfl dX11_tickOnce_40 rfl ?_
      refine J_iload_n (q := 44) C0 1 rfl rfl dX11_tickOnce_43 rfl ?_
      refine K_some hf (fun b10 hb10 hf => ?_)
      have ab10 : is_A σ b10 18 := ((sg_T.op hT (j := 0) (ab8) rfl)) b10 hb10
      refine K_chk hf (fun c11 hf => ?_)
      refine J_aald (q := 45) C0 hb10 (ab10) (by decide) c11 dX11_tickOnce_44 rfl ?_
      refine J_aload_n (q := 46) C0 0 rfl rfl dX11_tickOnce_45 rfl trivial ?_
      refine J_iload_n (q := 47) C0 1 rfl rfl dX11_tickOnce_46 rfl ?_
      refine K_some hf (fun p12 hp12 hf => ?_)
      refine J_callV (q := 50) (ci := 10) (as := [vi (v1)]) (rest := [vr (sg_R σ b10 (v1).toNatClampNeg)]) C0 rfl (h0) (t_X11_nextPlace N a0 (v1) (hT) (h0)  hp12) ml_X11_nextPlace lk_X11_256 im_X11_nextPlace se_X11_nextPlace rfl (by decide) dX11_tickOnce_47 rfl rfl rfl (by simp [ac_]) C1.room (by decide) (by decide) (by decide) (by decide) (fun r_ τ_ hQ => ?_)
      obtain ⟨rfl, rfl, Tp12, Ep12⟩ := hQ
      show J_ Γ 50 [(0, vr (some a0)), (1, vi (v1))] [vi (p12.1), vr (sg_R σ b10 (v1).toNatClampNeg)] p12.2 0 0
      refine K_some hf (fun b13 hb13 hf => ?_)
      have ab13 : is_A p12.2 b13 9 := ((Ep12.op (sg_T.op hT (j := (v1).toNatClampNeg) (ab10) rfl))) b13 hb13
      refine J_putI (q := 53) C0 fl_X11_157_9 hb13 (ab13) rfl dX11_tickOnce_50 rfl ?_
      refine J_iinc (q := 56) (v := v1 + 1) (lv' := [(1, vi (v1 + 1)), (0, vr (some a0))]) C0 1 rfl rfl (G_nl C1 (by decide)) dX11_tickOnce_53 rfl rfl ?_
      refine J_goto (q := 25) C0 dX11_tickOnce_56 (by decide) ?_
      refine J_sub (lv' := [(0, vr (some a0)), (1, vi (v1 + 1))]) [1, 0] rfl ?_
      exact ih (v1 + 1) (put_I p12.2 b13 2 (p12.1)) ((Tp12).putI) (((hE).tr Ep12).putI) (((Ep12.at h0)).putI)  hf
set_option maxHeartbeats 4000000 in
set_option maxRecDepth 100000 in
theorem t_X11_tickOnce (N : Nat) (a0 : Nat) {σ : Sg} (hT : sg_T σ) (h0 : is_A σ a0 10) {r : Sg} (hf : f_X11_tickOnce N a0  σ = some r) : Ct yX11_tickOnce cX11_tickOnce 2 none 6 131 0 0 [vr (some a0)] σ (fun r_ τ_ => (r_ = none) ∧ τ_ = r ∧ sg_T τ_ ∧ sg_E σ τ_) := by
  refine Ct.of (by decide +kernel) (Nat.le_of_ble_eq_true rfl) (fun Γ C1 => ?_)
  have C0 := C1.1
  have hE : sg_E σ σ := sg_E.rf
  unfold f_X11_tickOnce at hf
  show J_ Γ 0 [(0, vr (some a0))] [] σ 0 0
  refine J_aload_n (q := 1) C0 0 rfl rfl dX11_tickOnce_0 rfl trivial ?_
  refine J_getR (q := 4) C0 fl_X11_75_10 rfl (h0) rfl dX11_tickOnce_1 rfl ?_
  refine K_some hf (fun b1 hb1 hf => ?_)
  have ab1 : is_A σ b1 6 := ((sg_T.op hT (j := 13) (h0) rfl)) b1 hb1
  refine J_getI (q := 7) C0 fl_X11_189_6 hb1 (ab1) rfl dX11_tickOnce_4 rfl ?_
  refine J_if_le (t := 59) (q := 10) C0 dX11_tickOnce_7 (by decide) rfl hf (fun c2 hf => ?_) (fun c2 hf => ?_)
  · exact t_X11_tickOnce_B59 C1     σ (hT) (hE) (h0)  hf
  · refine J_aload_n (q := 11) C0 0 rfl rfl dX11_tickOnce_10 rfl trivial ?_
    refine J_getR (q := 14) C0 fl_X11_75_10 rfl (h0) rfl dX11_tickOnce_11 rfl ?_
    refine J_dup (q := 15) C0 dX11_tickOnce_14 rfl rfl ?_
    refine J_getI (q := 18) C0 fl_X11_189_6 hb1 (ab1) rfl dX11_tickOnce_15 rfl ?_
    refine J_iconst (q := 19) (v := 1) C0 dX11_tickOnce_18 rfl rfl ?_
    refine J_isub (q := 20) C0 dX11_tickOnce_19 rfl ?_
    refine J_putI (q := 23) C0 fl_X11_189_6 hb1 (ab1) rfl dX11_tickOnce_20 rfl ?_
    refine J_iconst (q := 24) (v := 0) C0 dX11_tickOnce_23 rfl rfl ?_
    refine J_istore_n (q := 25) (lv' := [(1, vi (0)), (0, vr (some a0))]) C0 rfl (G_nl C1 (by decide)) dX11_tickOnce_24 rfl rfl ?_
    refine J_sub (lv' := [(0, vr (some a0)), (1, vi (0))]) [1, 0] rfl ?_
    exact t_X11_tickOnce_L25 C1    N (0) (put_I σ b1 3 ((sg_I σ b1 3) - (1))) ((hT).putI) ((hE).putI) ((h0).putI)  hf
def f_X11_ticks_B24 (N : Nat) (a0 : Nat) (σ : Sg) : Option (Int32 × Sg) :=
  Option.bind (f_X11_refused a0 (1) σ) fun p4 =>
  some (p4.1, p4.2)
def f_X11_ticks_L53 (N : Nat) (a0 : Nat) : Nat → Int32 → Int32 → Sg → Option (Int32 × Sg)
  | 0, _, _, _ => none
  | n + 1, v1, v2, σ =>
  if (v2) < (v1) then
  (Option.bind (sg_R σ a0 14) fun b10 =>
  Option.bind (f_X5_keep N b10 (sg_R σ a0 13) σ) fun p11 =>
  Option.bind (f_X11_tickOnce N a0  p11) fun p12 =>
  f_X11_ticks_L53 N a0 n (v1) (v2 + 1) (p12))
  else
  (Option.bind (sg_R σ a0 13) fun b9 =>
  some (sg_I σ b9 5, σ))
def f_X11_ticks (N : Nat) (a0 : Nat) (x1 : Int32) (σ : Sg) : Option (Int32 × Sg) :=
  Option.bind (f_X11_isLit a0  σ) fun p1 =>
  if (p1) = (0) then
  (Option.bind (f_X11_refused a0 (0) σ) fun p14 =>
  some (p14.1, p14.2))
  else
  (if (x1) < (1) then
  (f_X11_ticks_B24 N a0  σ)
  else
  (if (60) < (x1) then
  (f_X11_ticks_B24 N a0  σ)
  else
  (Option.bind (sg_R σ a0 13) fun b6 =>
  if (9999) < ((sg_I σ b6 5) + (x1)) then
  (Option.bind (f_X11_refused a0 (4) σ) fun p13 =>
  some (p13.1, p13.2))
  else
  (f_X11_ticks_L53 N a0 N (x1) (0) σ))))
set_option maxHeartbeats 4000000 in
set_option maxRecDepth 100000 in
theorem t_X11_ticks_B24 {N : Nat} {a0 : Nat} {Γ : Gm} {σ0 : Sg} {r : (Int32 × Sg)} (C1 : CM Γ cX11_ticks RX11 3 (some .int) 7 152 0 0 (fun r_ τ_ => (r_ = some (vi r.1)) ∧ τ_ = r.2 ∧ sg_T τ_ ∧ sg_E σ0 τ_)) (σ : Sg) (hT : sg_T σ) (hE : sg_E σ0 σ) (h0 : is_A σ a0 10) (hf : f_X11_ticks_B24 N a0   σ = some r) : J_ Γ 24 [(0, vr (some a0))] [] σ 0 0 := by
  have C0 := C1.1
  unfold f_X11_ticks_B24 at hf
  refine J_aload_n (q := 25) C0 0 rfl rfl dX11_ticks_24 rfl trivial ?_
  refine J_iconst (q := 26) (v := 1) C0 dX11_ticks_25 rfl rfl ?_
  refine K_some hf (fun p4 hp4 hf => ?_)
  refine J_callV (q := 29) (ci := 10) (as := [vi (1)]) (rest := []) C0 rfl (h0) (t_X11_refused a0 (1) (hT) (h0)  hp4) ml_X11_refused lk_X11_227 im_X11_refused se_X11_refused rfl (by decide) dX11_ticks_26 rfl rfl rfl (by simp [ac_]) C1.room (by decide) (by decide) (by decide) (by decide) (fun r_ τ_ hQ => ?_)
  obtain ⟨rfl, rfl, Tp4, Ep4⟩ := hQ
  show J_ Γ 29 [(0, vr (some a0))] [vi (p4.1)] p4.2 0 0
  obtain rfl := Option.some.inj hf; exact J_iret C1 dX11_ticks_29 rfl (Nat.zero_le _) (Nat.zero_le _) ⟨rfl, rfl, Tp4, (hE).tr Ep4⟩
set_option maxHeartbeats 4000000 in
set_option maxRecDepth 100000 in
theorem t_X11_ticks_L53 {N : Nat} {a0 : Nat} {Γ : Gm} {σ0 : Sg} {r : (Int32 × Sg)} (C1 : CM Γ cX11_ticks RX11 3 (some .int) 7 152 0 0 (fun r_ τ_ => (r_ = some (vi r.1)) ∧ τ_ = r.2 ∧ sg_T τ_ ∧ sg_E σ0 τ_)) : ∀ (n : Nat) (v1 : Int32) (v2 : Int32) (σ : Sg), sg_T σ → sg_E σ0 σ → is_A σ a0 10 → f_X11_ticks_L53 N a0  n v1 v2 σ = some r → J_ Γ 53 [(0, vr (some a0)), (1, vi (v1)), (2, vi (v2))] [] σ 0 0 := by
  have C0 := C1.1
  intro n
  induction n with
  | zero => intro v1 v2 σ hT hE h0  hf; unfold f_X11_ticks_L53 at hf; cases hf
  | succ n ih =>
    intro v1 v2 σ hT hE h0  hf
    rw [f_X11_ticks_L53] at hf
    refine J_iload_n (q := 54) C0 2 rfl rfl dX11_ticks_53 rfl ?_
    refine J_iload_n (q := 55) C0 1 rfl rfl dX11_ticks_54 rfl ?_
    refine J_icmp_ge (t := 79) (q := 58) C0 dX11_ticks_55 (by decide) rfl hf (fun c8 hf => ?_) (fun c8 hf => ?_)
    · refine J_aload_n (q := 80) C0 0 rfl rfl dX11_ticks_79 rfl trivial ?_
      refine J_getR (q := 83) C0 fl_X11_75_10 rfl (h0) rfl dX11_ticks_80 rfl ?_
      refine K_some hf (fun b9 hb9 hf => ?_)
      have ab9 : is_A σ b9 6 := ((sg_T.op hT (j := 13) (h0) rfl)) b9 hb9
      refine J_getI (q := 86) C0 fl_X11_230_6 hb9 (ab9) rfl dX11_ticks_83 rfl ?_
      obtain rfl := Option.some.inj hf; exact J_iret C1 dX11_ticks_86 rfl (Nat.zero_le _) (Nat.zero_le _) ⟨rfl, rfl, hT, hE⟩
    · refine J_aload_n (q := 59) C0 0 rfl rfl dX11_ticks_58 rfl trivial ?_
      refine J_getR (q := 62) C0 fl_X11_82_10 rfl (h0) rfl dX11_ticks_59 rfl ?_
      refine J_aload_n (q := 63) C0 0 rfl rfl dX11_ticks_62 rfl trivial ?_
      refine J_getR (q := 66) C0 fl_X11_75_10 rfl (h0) rfl dX11_ticks_63 rfl ?_
      refine K_some hf (fun b10 hb10 hf => ?_)
      have ab10 : is_A σ b10 5 := ((sg_T.op hT (j := 14) (h0) rfl)) b10 hb10
      refine K_some hf (fun p11 hp11 hf => ?_)
      refine J_callV (q := 69) (ci := 5) (as := [vr (sg_R σ a0 13)]) (rest := []) C0 hb10 (ab10) (t_X5_keep N b10 (sg_R σ a0 13) (hT) (ab10) ((sg_T.op hT (j := 13) (h0) rfl)) hp11) ml_X5_keep lk_X11_233 im_X5_keep se_X5_keep rfl (by decide) dX11_ticks_66 rfl rfl rfl (by simp [ac_]) C1.room (by decide) (by decide) (by decide) (by decide) (fun r_ τ_ hQ => ?_)
      obtain ⟨rfl, ht_, Tp11, Ep11⟩ := hQ; have ht_ := ht_.symm; subst ht_
      show J_ Γ 69 [(0, vr (some a0)), (1, vi (v1)), (2, vi (v2))] [] p11 0 0
      refine J_aload_n (q := 70) C0 0 rfl rfl dX11_ticks_69 rfl trivial ?_
      refine K_some hf (fun p12 hp12 hf => ?_)
      refine J_callV (q := 73) (ci := 10) (as := []) (rest := []) C0 rfl ((Ep11.at h0)) (t_X11_tickOnce N a0  (Tp11) ((Ep11.at h0))  hp12) ml_X11_tickOnce lk_X11_236 im_X11_tickOnce se_X11_tickOnce rfl (by decide) dX11_ticks_70 rfl rfl rfl (by simp [ac_]) C1.room (by decide) (by decide) (by decide) (by decide) (fun r_ τ_ hQ => ?_)
      obtain ⟨rfl, ht_, Tp12, Ep12⟩ := hQ; have ht_ := ht_.symm; subst ht_
      show J_ Γ 73 [(0, vr (some a0)), (1, vi (v1)), (2, vi (v2))] [] p12 0 0
      refine J_iinc (q := 76) (v := v2 + 1) (lv' := [(2, vi (v2 + 1)), (0, vr (some a0)), (1, vi (v1))]) C0 2 rfl rfl (G_nl C1 (by decide)) dX11_ticks_73 rfl rfl ?_
      refine J_goto (q := 53) C0 dX11_ticks_76 (by decide) ?_
      refine J_sub (lv' := [(0, vr (some a0)), (1, vi (v1)), (2, vi (v2 + 1))]) [1, 2, 0] rfl ?_
      exact ih (v1) (v2 + 1) (p12) (Tp12) (((hE).tr Ep11).tr Ep12) ((Ep12.at (Ep11.at h0)))  hf
set_option maxHeartbeats 4000000 in
set_option maxRecDepth 100000 in
theorem t_X11_ticks (N : Nat) (a0 : Nat) (x1 : Int32) {σ : Sg} (hT : sg_T σ) (h0 : is_A σ a0 10) {r : (Int32 × Sg)} (hf : f_X11_ticks N a0 x1 σ = some r) : Ct yX11_ticks cX11_ticks 3 (some .int) 7 152 0 0 [vr (some a0), vi x1] σ (fun r_ τ_ => (r_ = some (vi r.1)) ∧ τ_ = r.2 ∧ sg_T τ_ ∧ sg_E σ τ_) := by
  refine Ct.of (by decide +kernel) (Nat.le_of_ble_eq_true rfl) (fun Γ C1 => ?_)
  have C0 := C1.1
  have hE : sg_E σ σ := sg_E.rf
  unfold f_X11_ticks at hf
  show J_ Γ 0 [(0, vr (some a0)), (1, vi (x1))] [] σ 0 0
  refine J_aload_n (q := 1) C0 0 rfl rfl dX11_ticks_0 rfl trivial ?_
  refine K_some hf (fun p1 hp1 hf => ?_)
  refine J_callV (q := 4) (ci := 10) (as := []) (rest := []) C0 rfl (h0) (t_X11_isLit a0  (hT) (h0)  hp1) ml_X11_isLit lk_X11_183 im_X11_isLit se_X11_isLit rfl (by decide) dX11_ticks_1 rfl rfl rfl (by simp [ac_]) C1.room (by decide) (by decide) (by decide) (by decide) (fun r_ τ_ hQ => ?_)
  obtain ⟨⟨rfl, zp1⟩, ht_⟩ := hQ; have ht_ := ht_.symm; subst ht_
  show J_ Γ 4 [(0, vr (some a0)), (1, vi (x1))] [vi (p1)] σ 0 0
  refine J_if_ne (t := 13) (q := 7) C0 dX11_ticks_4 (by decide) rfl hf (fun c2 hf => ?_) (fun c2 hf => ?_)
  · refine J_iload_n (q := 14) C0 1 rfl rfl dX11_ticks_13 rfl ?_
    refine J_iconst (q := 15) (v := 1) C0 dX11_ticks_14 rfl rfl ?_
    refine J_icmp_lt (t := 24) (q := 18) C0 dX11_ticks_15 (by decide) rfl hf (fun c3 hf => ?_) (fun c3 hf => ?_)
    · refine J_sub (lv' := [(0, vr (some a0))]) [0] rfl ?_
      exact t_X11_ticks_B24 C1     σ (hT) (hE) (h0)  hf
    · refine J_iload_n (q := 19) C0 1 rfl rfl dX11_ticks_18 rfl ?_
      refine J_bipush (q := 21) (v := 60) C0 dX11_ticks_19 rfl rfl ?_
      refine J_icmp_le (t := 30) (q := 24) C0 dX11_ticks_21 (by decide) rfl hf (fun c5 hf => ?_) (fun c5 hf => ?_)
      · refine J_aload_n (q := 31) C0 0 rfl rfl dX11_ticks_30 rfl trivial ?_
        refine J_getR (q := 34) C0 fl_X11_75_10 rfl (h0) rfl dX11_ticks_31 rfl ?_
        refine K_some hf (fun b6 hb6 hf => ?_)
        have ab6 : is_A σ b6 6 := ((sg_T.op hT (j := 13) (h0) rfl)) b6 hb6
        refine J_getI (q := 37) C0 fl_X11_230_6 hb6 (ab6) rfl dX11_ticks_34 rfl ?_
        refine J_iload_n (q := 38) C0 1 rfl rfl dX11_ticks_37 rfl ?_
        refine J_iadd (q := 39) C0 dX11_ticks_38 rfl ?_
        refine J_sipush (q := 42) (v := 9999) C0 dX11_ticks_39 rfl rfl ?_
        refine J_icmp_le (t := 51) (q := 45) C0 dX11_ticks_42 (by decide) rfl hf (fun c7 hf => ?_) (fun c7 hf => ?_)
        · refine J_iconst (q := 52) (v := 0) C0 dX11_ticks_51 rfl rfl ?_
          refine J_istore_n (q := 53) (lv' := [(2, vi (0)), (0, vr (some a0)), (1, vi (x1))]) C0 rfl (G_nl C1 (by decide)) dX11_ticks_52 rfl rfl ?_
          refine J_sub (lv' := [(0, vr (some a0)), (1, vi (x1)), (2, vi (0))]) [1, 2, 0] rfl ?_
          exact t_X11_ticks_L53 C1    N (x1) (0) σ (hT) (hE) (h0)  hf
        · refine J_aload_n (q := 46) C0 0 rfl rfl dX11_ticks_45 rfl trivial ?_
          refine J_iconst (q := 47) (v := 4) C0 dX11_ticks_46 rfl rfl ?_
          refine K_some hf (fun p13 hp13 hf => ?_)
          refine J_callV (q := 50) (ci := 10) (as := [vi (4)]) (rest := []) C0 rfl (h0) (t_X11_refused a0 (4) (hT) (h0)  hp13) ml_X11_refused lk_X11_227 im_X11_refused se_X11_refused rfl (by decide) dX11_ticks_47 rfl rfl rfl (by simp [ac_]) C1.room (by decide) (by decide) (by decide) (by decide) (fun r_ τ_ hQ => ?_)
          obtain ⟨rfl, rfl, Tp13, Ep13⟩ := hQ
          show J_ Γ 50 [(0, vr (some a0)), (1, vi (x1))] [vi (p13.1)] p13.2 0 0
          obtain rfl := Option.some.inj hf; exact J_iret C1 dX11_ticks_50 rfl (Nat.zero_le _) (Nat.zero_le _) ⟨rfl, rfl, Tp13, (hE).tr Ep13⟩
      · refine J_sub (lv' := [(0, vr (some a0))]) [0] rfl ?_
        exact t_X11_ticks_B24 C1     σ (hT) (hE) (h0)  hf
  · refine J_aload_n (q := 8) C0 0 rfl rfl dX11_ticks_7 rfl trivial ?_
    refine J_iconst (q := 9) (v := 0) C0 dX11_ticks_8 rfl rfl ?_
    refine K_some hf (fun p14 hp14 hf => ?_)
    refine J_callV (q := 12) (ci := 10) (as := [vi (0)]) (rest := []) C0 rfl (h0) (t_X11_refused a0 (0) (hT) (h0)  hp14) ml_X11_refused lk_X11_227 im_X11_refused se_X11_refused rfl (by decide) dX11_ticks_9 rfl rfl rfl (by simp [ac_]) C1.room (by decide) (by decide) (by decide) (by decide) (fun r_ τ_ hQ => ?_)
    obtain ⟨rfl, rfl, Tp14, Ep14⟩ := hQ
    show J_ Γ 12 [(0, vr (some a0)), (1, vi (x1))] [vi (p14.1)] p14.2 0 0
    obtain rfl := Option.some.inj hf; exact J_iret C1 dX11_ticks_12 rfl (Nat.zero_le _) (Nat.zero_le _) ⟨rfl, rfl, Tp14, (hE).tr Ep14⟩
def f_X11_flash_B24 (N : Nat) (a0 : Nat) (σ : Sg) : Option (Int32 × Sg) :=
  Option.bind (f_X11_refused a0 (1) σ) fun p4 =>
  some (p4.1, p4.2)
def f_X11_flash (N : Nat) (a0 : Nat) (x1 : Int32) (σ : Sg) : Option (Int32 × Sg) :=
  Option.bind (f_X11_isLit a0  σ) fun p1 =>
  if (p1) = (0) then
  (Option.bind (f_X11_refused a0 (0) σ) fun p12 =>
  some (p12.1, p12.2))
  else
  (if (x1) < (1) then
  (f_X11_flash_B24 N a0  σ)
  else
  (if (60) < (x1) then
  (f_X11_flash_B24 N a0  σ)
  else
  (Option.bind (sg_R σ a0 13) fun b6 =>
  if (x1) = (sg_I σ b6 2) then
  (Option.bind (f_X11_refused a0 (2) σ) fun p11 =>
  some (p11.1, p11.2))
  else
  (Option.bind (sg_R σ a0 14) fun b8 =>
  Option.bind (f_X5_keep N b8 (sg_R σ a0 13) σ) fun p9 =>
  Option.bind (sg_R p9 a0 13) fun b10 =>
  some (sg_I p9 b10 2, put_I p9 b10 2 (x1))))))
set_option maxHeartbeats 4000000 in
set_option maxRecDepth 100000 in
theorem t_X11_flash_B24 {N : Nat} {a0 : Nat} {Γ : Gm} {σ0 : Sg} {r : (Int32 × Sg)} (C1 : CM Γ cX11_flash RX11 3 (some .int) 3 69 0 0 (fun r_ τ_ => (r_ = some (vi r.1)) ∧ τ_ = r.2 ∧ sg_T τ_ ∧ sg_E σ0 τ_)) (σ : Sg) (hT : sg_T σ) (hE : sg_E σ0 σ) (h0 : is_A σ a0 10) (hf : f_X11_flash_B24 N a0   σ = some r) : J_ Γ 24 [(0, vr (some a0))] [] σ 0 0 := by
  have C0 := C1.1
  unfold f_X11_flash_B24 at hf
  refine J_aload_n (q := 25) C0 0 rfl rfl dX11_flash_24 rfl trivial ?_
  refine J_iconst (q := 26) (v := 1) C0 dX11_flash_25 rfl rfl ?_
  refine K_some hf (fun p4 hp4 hf => ?_)
  refine J_callV (q := 29) (ci := 10) (as := [vi (1)]) (rest := []) C0 rfl (h0) (t_X11_refused a0 (1) (hT) (h0)  hp4) ml_X11_refused lk_X11_227 im_X11_refused se_X11_refused rfl (by decide) dX11_flash_26 rfl rfl rfl (by simp [ac_]) C1.room (by decide) (by decide) (by decide) (by decide) (fun r_ τ_ hQ => ?_)
  obtain ⟨rfl, rfl, Tp4, Ep4⟩ := hQ
  show J_ Γ 29 [(0, vr (some a0))] [vi (p4.1)] p4.2 0 0
  obtain rfl := Option.some.inj hf; exact J_iret C1 dX11_flash_29 rfl (Nat.zero_le _) (Nat.zero_le _) ⟨rfl, rfl, Tp4, (hE).tr Ep4⟩
set_option maxHeartbeats 4000000 in
set_option maxRecDepth 100000 in
theorem t_X11_flash (N : Nat) (a0 : Nat) (x1 : Int32) {σ : Sg} (hT : sg_T σ) (h0 : is_A σ a0 10) {r : (Int32 × Sg)} (hf : f_X11_flash N a0 x1 σ = some r) : Ct yX11_flash cX11_flash 3 (some .int) 3 69 0 0 [vr (some a0), vi x1] σ (fun r_ τ_ => (r_ = some (vi r.1)) ∧ τ_ = r.2 ∧ sg_T τ_ ∧ sg_E σ τ_) := by
  refine Ct.of (by decide +kernel) (Nat.le_of_ble_eq_true rfl) (fun Γ C1 => ?_)
  have C0 := C1.1
  have hE : sg_E σ σ := sg_E.rf
  unfold f_X11_flash at hf
  show J_ Γ 0 [(0, vr (some a0)), (1, vi (x1))] [] σ 0 0
  refine J_aload_n (q := 1) C0 0 rfl rfl dX11_flash_0 rfl trivial ?_
  refine K_some hf (fun p1 hp1 hf => ?_)
  refine J_callV (q := 4) (ci := 10) (as := []) (rest := []) C0 rfl (h0) (t_X11_isLit a0  (hT) (h0)  hp1) ml_X11_isLit lk_X11_183 im_X11_isLit se_X11_isLit rfl (by decide) dX11_flash_1 rfl rfl rfl (by simp [ac_]) C1.room (by decide) (by decide) (by decide) (by decide) (fun r_ τ_ hQ => ?_)
  obtain ⟨⟨rfl, zp1⟩, ht_⟩ := hQ; have ht_ := ht_.symm; subst ht_
  show J_ Γ 4 [(0, vr (some a0)), (1, vi (x1))] [vi (p1)] σ 0 0
  refine J_if_ne (t := 13) (q := 7) C0 dX11_flash_4 (by decide) rfl hf (fun c2 hf => ?_) (fun c2 hf => ?_)
  · refine J_iload_n (q := 14) C0 1 rfl rfl dX11_flash_13 rfl ?_
    refine J_iconst (q := 15) (v := 1) C0 dX11_flash_14 rfl rfl ?_
    refine J_icmp_lt (t := 24) (q := 18) C0 dX11_flash_15 (by decide) rfl hf (fun c3 hf => ?_) (fun c3 hf => ?_)
    · refine J_sub (lv' := [(0, vr (some a0))]) [0] rfl ?_
      exact t_X11_flash_B24 C1     σ (hT) (hE) (h0)  hf
    · refine J_iload_n (q := 19) C0 1 rfl rfl dX11_flash_18 rfl ?_
      refine J_bipush (q := 21) (v := 60) C0 dX11_flash_19 rfl rfl ?_
      refine J_icmp_le (t := 30) (q := 24) C0 dX11_flash_21 (by decide) rfl hf (fun c5 hf => ?_) (fun c5 hf => ?_)
      · refine J_iload_n (q := 31) C0 1 rfl rfl dX11_flash_30 rfl ?_
        refine J_aload_n (q := 32) C0 0 rfl rfl dX11_flash_31 rfl trivial ?_
        refine J_getR (q := 35) C0 fl_X11_75_10 rfl (h0) rfl dX11_flash_32 rfl ?_
        refine K_some hf (fun b6 hb6 hf => ?_)
        have ab6 : is_A σ b6 6 := ((sg_T.op hT (j := 13) (h0) rfl)) b6 hb6
        refine J_getI (q := 38) C0 fl_X11_186_6 hb6 (ab6) rfl dX11_flash_35 rfl ?_
        refine J_icmp_ne (t := 47) (q := 41) C0 dX11_flash_38 (by decide) rfl hf (fun c7 hf => ?_) (fun c7 hf => ?_)
        · refine J_aload_n (q := 48) C0 0 rfl rfl dX11_flash_47 rfl trivial ?_
          refine J_getR (q := 51) C0 fl_X11_82_10 rfl (h0) rfl dX11_flash_48 rfl ?_
          refine J_aload_n (q := 52) C0 0 rfl rfl dX11_flash_51 rfl trivial ?_
          refine J_getR (q := 55) C0 fl_X11_75_10 rfl (h0) rfl dX11_flash_52 rfl ?_
          refine K_some hf (fun b8 hb8 hf => ?_)
          have ab8 : is_A σ b8 5 := ((sg_T.op hT (j := 14) (h0) rfl)) b8 hb8
          refine K_some hf (fun p9 hp9 hf => ?_)
          refine J_callV (q := 58) (ci := 5) (as := [vr (sg_R σ a0 13)]) (rest := []) C0 hb8 (ab8) (t_X5_keep N b8 (sg_R σ a0 13) (hT) (ab8) ((by rw [hb6]; exact is_O.some (ab6))) hp9) ml_X5_keep lk_X11_233 im_X5_keep se_X5_keep rfl (by decide) dX11_flash_55 rfl rfl rfl (by simp [ac_]) C1.room (by decide) (by decide) (by decide) (by decide) (fun r_ τ_ hQ => ?_)
          obtain ⟨rfl, ht_, Tp9, Ep9⟩ := hQ; have ht_ := ht_.symm; subst ht_
          show J_ Γ 58 [(0, vr (some a0)), (1, vi (x1))] [] p9 0 0
          refine J_aload_n (q := 59) C0 0 rfl rfl dX11_flash_58 rfl trivial ?_
          refine J_getR (q := 62) C0 fl_X11_75_10 rfl ((Ep9.at h0)) rfl dX11_flash_59 rfl ?_
          refine K_some hf (fun b10 hb10 hf => ?_)
          have ab10 : is_A p9 b10 6 := ((sg_T.op Tp9 (j := 13) ((Ep9.at h0)) rfl)) b10 hb10
          refine J_getI (q := 65) C0 fl_X11_186_6 hb10 (ab10) rfl dX11_flash_62 rfl ?_
          refine J_istore_n (q := 66) (lv' := [(2, vi (sg_I p9 b10 2)), (0, vr (some a0)), (1, vi (x1))]) C0 rfl (G_nl C1 (by decide)) dX11_flash_65 rfl rfl ?_
          refine J_aload_n (q := 67) C0 1 rfl rfl dX11_flash_66 rfl trivial ?_
          refine J_getR (q := 70) C0 fl_X11_75_10 rfl ((Ep9.at h0)) rfl dX11_flash_67 rfl ?_
          refine J_iload_n (q := 71) C0 2 rfl rfl dX11_flash_70 rfl ?_
          refine J_putI (q := 74) C0 fl_X11_186_6 hb10 (ab10) rfl dX11_flash_71 rfl ?_
          refine J_iload_n (q := 75) C0 0 rfl rfl dX11_flash_74 rfl ?_
          obtain rfl := Option.some.inj hf; exact J_iret C1 dX11_flash_75 rfl (Nat.zero_le _) (Nat.zero_le _) ⟨rfl, rfl, (Tp9).putI, ((hE).tr Ep9).putI⟩
        · refine J_aload_n (q := 42) C0 0 rfl rfl dX11_flash_41 rfl trivial ?_
          refine J_iconst (q := 43) (v := 2) C0 dX11_flash_42 rfl rfl ?_
          refine K_some hf (fun p11 hp11 hf => ?_)
          refine J_callV (q := 46) (ci := 10) (as := [vi (2)]) (rest := []) C0 rfl (h0) (t_X11_refused a0 (2) (hT) (h0)  hp11) ml_X11_refused lk_X11_227 im_X11_refused se_X11_refused rfl (by decide) dX11_flash_43 rfl rfl rfl (by simp [ac_]) C1.room (by decide) (by decide) (by decide) (by decide) (fun r_ τ_ hQ => ?_)
          obtain ⟨rfl, rfl, Tp11, Ep11⟩ := hQ
          show J_ Γ 46 [(0, vr (some a0)), (1, vi (x1))] [vi (p11.1)] p11.2 0 0
          obtain rfl := Option.some.inj hf; exact J_iret C1 dX11_flash_46 rfl (Nat.zero_le _) (Nat.zero_le _) ⟨rfl, rfl, Tp11, (hE).tr Ep11⟩
      · refine J_sub (lv' := [(0, vr (some a0))]) [0] rfl ?_
        exact t_X11_flash_B24 C1     σ (hT) (hE) (h0)  hf
  · refine J_aload_n (q := 8) C0 0 rfl rfl dX11_flash_7 rfl trivial ?_
    refine J_iconst (q := 9) (v := 0) C0 dX11_flash_8 rfl rfl ?_
    refine K_some hf (fun p12 hp12 hf => ?_)
    refine J_callV (q := 12) (ci := 10) (as := [vi (0)]) (rest := []) C0 rfl (h0) (t_X11_refused a0 (0) (hT) (h0)  hp12) ml_X11_refused lk_X11_227 im_X11_refused se_X11_refused rfl (by decide) dX11_flash_9 rfl rfl rfl (by simp [ac_]) C1.room (by decide) (by decide) (by decide) (by decide) (fun r_ τ_ hQ => ?_)
    obtain ⟨rfl, rfl, Tp12, Ep12⟩ := hQ
    show J_ Γ 12 [(0, vr (some a0)), (1, vi (x1))] [vi (p12.1)] p12.2 0 0
    obtain rfl := Option.some.inj hf; exact J_iret C1 dX11_flash_12 rfl (Nat.zero_le _) (Nat.zero_le _) ⟨rfl, rfl, Tp12, (hE).tr Ep12⟩
def f_X11_speed_B24 (N : Nat) (a0 : Nat) (σ : Sg) : Option (Int32 × Sg) :=
  Option.bind (f_X11_refused a0 (1) σ) fun p4 =>
  some (p4.1, p4.2)
def f_X11_speed (N : Nat) (a0 : Nat) (x1 : Int32) (x2 : Int32) (σ : Sg) : Option (Int32 × Sg) :=
  Option.bind (f_X11_isWheel a0 (x1) σ) fun p1 =>
  if (p1) = (0) then
  (Option.bind (f_X11_refused a0 (0) σ) fun p17 =>
  some (p17.1, p17.2))
  else
  (if (x2) < (0) then
  (f_X11_speed_B24 N a0  σ)
  else
  (if (9) < (x2) then
  (f_X11_speed_B24 N a0  σ)
  else
  (Option.bind (sg_R σ a0 13) fun b6 =>
  Option.bind (sg_R σ b6 0) fun b7 =>
  if (x1) < 0 ∨ sg_L σ b7 ≤ (x1).toNatClampNeg then none else
  Option.bind (sg_R σ b7 (x1).toNatClampNeg) fun b9 =>
  if (x2) = (sg_I σ b9 0) then
  (Option.bind (f_X11_refused a0 (2) σ) fun p16 =>
  some (p16.1, p16.2))
  else
  (if (sg_I σ b6 4) < (1) then
  (Option.bind (f_X11_refused a0 (3) σ) fun p15 =>
  some (p15.1, p15.2))
  else
  (Option.bind (sg_R σ a0 14) fun b12 =>
  Option.bind (f_X5_keep N b12 (sg_R σ a0 13) σ) fun p13 =>
  Option.bind (sg_R (put_I p13 b9 0 (x2)) a0 13) fun b14 =>
  some (sg_I p13 b9 0, put_I (put_I p13 b9 0 (x2)) b14 4 ((sg_I (put_I p13 b9 0 (x2)) b14 4) - (1))))))))
set_option maxHeartbeats 4000000 in
set_option maxRecDepth 100000 in
theorem t_X11_speed_B24 {N : Nat} {a0 : Nat} {Γ : Gm} {σ0 : Sg} {r : (Int32 × Sg)} (C1 : CM Γ cX11_speed RX11 5 (some .int) 3 69 0 0 (fun r_ τ_ => (r_ = some (vi r.1)) ∧ τ_ = r.2 ∧ sg_T τ_ ∧ sg_E σ0 τ_)) (σ : Sg) (hT : sg_T σ) (hE : sg_E σ0 σ) (h0 : is_A σ a0 10) (hf : f_X11_speed_B24 N a0   σ = some r) : J_ Γ 24 [(0, vr (some a0))] [] σ 0 0 := by
  have C0 := C1.1
  unfold f_X11_speed_B24 at hf
  refine J_aload_n (q := 25) C0 0 rfl rfl dX11_speed_24 rfl trivial ?_
  refine J_iconst (q := 26) (v := 1) C0 dX11_speed_25 rfl rfl ?_
  refine K_some hf (fun p4 hp4 hf => ?_)
  refine J_callV (q := 29) (ci := 10) (as := [vi (1)]) (rest := []) C0 rfl (h0) (t_X11_refused a0 (1) (hT) (h0)  hp4) ml_X11_refused lk_X11_227 im_X11_refused se_X11_refused rfl (by decide) dX11_speed_26 rfl rfl rfl (by simp [ac_]) C1.room (by decide) (by decide) (by decide) (by decide) (fun r_ τ_ hQ => ?_)
  obtain ⟨rfl, rfl, Tp4, Ep4⟩ := hQ
  show J_ Γ 29 [(0, vr (some a0))] [vi (p4.1)] p4.2 0 0
  obtain rfl := Option.some.inj hf; exact J_iret C1 dX11_speed_29 rfl (Nat.zero_le _) (Nat.zero_le _) ⟨rfl, rfl, Tp4, (hE).tr Ep4⟩
set_option maxHeartbeats 4000000 in
set_option maxRecDepth 100000 in
theorem t_X11_speed (N : Nat) (a0 : Nat) (x1 : Int32) (x2 : Int32) {σ : Sg} (hT : sg_T σ) (h0 : is_A σ a0 10) {r : (Int32 × Sg)} (hf : f_X11_speed N a0 x1 x2 σ = some r) : Ct yX11_speed cX11_speed 5 (some .int) 3 69 0 0 [vr (some a0), vi x1, vi x2] σ (fun r_ τ_ => (r_ = some (vi r.1)) ∧ τ_ = r.2 ∧ sg_T τ_ ∧ sg_E σ τ_) := by
  refine Ct.of (by decide +kernel) (Nat.le_of_ble_eq_true rfl) (fun Γ C1 => ?_)
  have C0 := C1.1
  have hE : sg_E σ σ := sg_E.rf
  unfold f_X11_speed at hf
  show J_ Γ 0 [(0, vr (some a0)), (1, vi (x1)), (2, vi (x2))] [] σ 0 0
  refine J_aload_n (q := 1) C0 0 rfl rfl dX11_speed_0 rfl trivial ?_
  refine J_iload_n (q := 2) C0 1 rfl rfl dX11_speed_1 rfl ?_
  refine K_some hf (fun p1 hp1 hf => ?_)
  refine J_callV (q := 5) (ci := 10) (as := [vi (x1)]) (rest := []) C0 rfl (h0) (t_X11_isWheel a0 (x1) (hT) (h0)  hp1) ml_X11_isWheel lk_X11_195 im_X11_isWheel se_X11_isWheel rfl (by decide) dX11_speed_2 rfl rfl rfl (by simp [ac_]) C1.room (by decide) (by decide) (by decide) (by decide) (fun r_ τ_ hQ => ?_)
  obtain ⟨⟨rfl, zp1⟩, ht_⟩ := hQ; have ht_ := ht_.symm; subst ht_
  show J_ Γ 5 [(0, vr (some a0)), (1, vi (x1)), (2, vi (x2))] [vi (p1)] σ 0 0
  refine J_if_ne (t := 14) (q := 8) C0 dX11_speed_5 (by decide) rfl hf (fun c2 hf => ?_) (fun c2 hf => ?_)
  · refine J_iload_n (q := 15) C0 2 rfl rfl dX11_speed_14 rfl ?_
    refine J_if_lt (t := 24) (q := 18) C0 dX11_speed_15 (by decide) rfl hf (fun c3 hf => ?_) (fun c3 hf => ?_)
    · refine J_sub (lv' := [(0, vr (some a0))]) [0] rfl ?_
      exact t_X11_speed_B24 C1     σ (hT) (hE) (h0)  hf
    · refine J_iload_n (q := 19) C0 2 rfl rfl dX11_speed_18 rfl ?_
      refine J_bipush (q := 21) (v := 9) C0 dX11_speed_19 rfl rfl ?_
      refine J_icmp_le (t := 30) (q := 24) C0 dX11_speed_21 (by decide) rfl hf (fun c5 hf => ?_) (fun c5 hf => ?_)
      · refine J_aload_n (q := 31) C0 0 rfl rfl dX11_speed_30 rfl trivial ?_
        refine J_getR (q := 34) C0 fl_X11_75_10 rfl (h0) rfl dX11_speed_31 rfl ?_
        refine K_some hf (fun b6 hb6 hf => ?_)
        have ab6 : is_A σ b6 6 := ((sg_T.op hT (j := 13) (h0) rfl)) b6 hb6
        refine J_getR (q := 37) C0 fl_X11_153_6 hb6 (ab6) rfl dX11_speed_34 rfl ?_
        refine J_iload_n (q := 38) C0 1 rfl rfl dX11_speed_37 rfl ?_
        refine K_some hf (fun b7 hb7 hf => ?_)
        have ab7 : is_A σ b7 18 := ((sg_T.op hT (j := 0) (ab6) rfl)) b7 hb7
        refine K_chk hf (fun c8 hf => ?_)
        refine J_aald (q := 39) C0 hb7 (ab7) (by decide) c8 dX11_speed_38 rfl ?_
        refine J_astore_n (q := 40) (lv' := [(3, vr (sg_R σ b7 (x1).toNatClampNeg)), (0, vr (some a0)), (1, vi (x1)), (2, vi (x2))]) C0 rfl (G_nl C1 (by decide)) dX11_speed_39 rfl trivial rfl ?_
        refine J_iload_n (q := 41) C0 3 rfl rfl dX11_speed_40 rfl ?_
        refine J_aload_n (q := 42) C0 0 rfl rfl dX11_speed_41 rfl trivial ?_
        refine K_some hf (fun b9 hb9 hf => ?_)
        have ab9 : is_A σ b9 9 := ((sg_T.op hT (j := (x1).toNatClampNeg) (ab7) rfl)) b9 hb9
        refine J_getI (q := 45) C0 fl_X11_206_9 hb9 (ab9) rfl dX11_speed_42 rfl ?_
        refine J_icmp_ne (t := 54) (q := 48) C0 dX11_speed_45 (by decide) rfl hf (fun c10 hf => ?_) (fun c10 hf => ?_)
        · refine J_aload_n (q := 55) C0 1 rfl rfl dX11_speed_54 rfl trivial ?_
          refine J_getR (q := 58) C0 fl_X11_75_10 rfl (h0) rfl dX11_speed_55 rfl ?_
          refine J_getI (q := 61) C0 fl_X11_192_6 hb6 (ab6) rfl dX11_speed_58 rfl ?_
          refine J_iconst (q := 62) (v := 1) C0 dX11_speed_61 rfl rfl ?_
          refine J_icmp_ge (t := 71) (q := 65) C0 dX11_speed_62 (by decide) rfl hf (fun c11 hf => ?_) (fun c11 hf => ?_)
          · refine J_aload_n (q := 72) C0 1 rfl rfl dX11_speed_71 rfl trivial ?_
            refine J_getR (q := 75) C0 fl_X11_82_10 rfl (h0) rfl dX11_speed_72 rfl ?_
            refine J_aload_n (q := 76) C0 1 rfl rfl dX11_speed_75 rfl trivial ?_
            refine J_getR (q := 79) C0 fl_X11_75_10 rfl (h0) rfl dX11_speed_76 rfl ?_
            refine K_some hf (fun b12 hb12 hf => ?_)
            have ab12 : is_A σ b12 5 := ((sg_T.op hT (j := 14) (h0) rfl)) b12 hb12
            refine K_some hf (fun p13 hp13 hf => ?_)
            refine J_callV (q := 82) (ci := 5) (as := [vr (sg_R σ a0 13)]) (rest := []) C0 hb12 (ab12) (t_X5_keep N b12 (sg_R σ a0 13) (hT) (ab12) ((by rw [hb6]; exact is_O.some (ab6))) hp13) ml_X5_keep lk_X11_233 im_X5_keep se_X5_keep rfl (by decide) dX11_speed_79 rfl rfl rfl (by simp [ac_]) C1.room (by decide) (by decide) (by decide) (by decide) (fun r_ τ_ hQ => ?_)
            obtain ⟨rfl, ht_, Tp13, Ep13⟩ := hQ; have ht_ := ht_.symm; subst ht_
            show J_ Γ 82 [(3, vr (sg_R σ b7 (x1).toNatClampNeg)), (0, vr (some a0)), (1, vi (x1)), (2, vi (x2))] [] p13 0 0
            refine J_aload_n (q := 83) C0 0 rfl rfl dX11_speed_82 rfl trivial ?_
            refine J_getI (q := 86) C0 fl_X11_206_9 hb9 ((Ep13.at ab9)) rfl dX11_speed_83 rfl ?_
            refine J_istore (q := 88) (lv' := [(4, vi (sg_I p13 b9 0)), (3, vr (sg_R σ b7 (x1).toNatClampNeg)), (0, vr (some a0)), (1, vi (x1)), (2, vi (x2))]) C0 (G_nl C1 (by decide)) dX11_speed_86 rfl rfl ?_
            refine J_aload_n (q := 89) C0 1 rfl rfl dX11_speed_88 rfl trivial ?_
            refine J_iload_n (q := 90) C0 4 rfl rfl dX11_speed_89 rfl ?_
            refine J_putI (q := 93) C0 fl_X11_206_9 hb9 ((Ep13.at ab9)) rfl dX11_speed_90 rfl ?_
            refine J_aload_n (q := 94) C0 2 rfl rfl dX11_speed_93 rfl trivial ?_
            refine J_getR (q := 97) C0 fl_X11_75_10 rfl (((Ep13.at h0)).putI) rfl dX11_speed_94 rfl ?_
            refine J_dup (q := 98) C0 dX11_speed_97 rfl rfl ?_
            refine K_some hf (fun b14 hb14 hf => ?_)
            have ab14 : is_A (put_I p13 b9 0 (x2)) b14 6 := ((sg_T.op (Tp13).putI (j := 13) (((Ep13.at h0)).putI) rfl)) b14 hb14
            refine J_getI (q := 101) C0 fl_X11_192_6 hb14 (ab14) rfl dX11_speed_98 rfl ?_
            refine J_iconst (q := 102) (v := 1) C0 dX11_speed_101 rfl rfl ?_
            refine J_isub (q := 103) C0 dX11_speed_102 rfl ?_
            refine J_putI (q := 106) C0 fl_X11_192_6 hb14 (ab14) rfl dX11_speed_103 rfl ?_
            refine J_iload (q := 108) C0 0 rfl dX11_speed_106 rfl ?_
            obtain rfl := Option.some.inj hf; exact J_iret C1 dX11_speed_108 rfl (Nat.zero_le _) (Nat.zero_le _) ⟨rfl, rfl, ((Tp13).putI).putI, (((hE).tr Ep13).putI).putI⟩
          · refine J_aload_n (q := 66) C0 1 rfl rfl dX11_speed_65 rfl trivial ?_
            refine J_iconst (q := 67) (v := 3) C0 dX11_speed_66 rfl rfl ?_
            refine K_some hf (fun p15 hp15 hf => ?_)
            refine J_callV (q := 70) (ci := 10) (as := [vi (3)]) (rest := []) C0 rfl (h0) (t_X11_refused a0 (3) (hT) (h0)  hp15) ml_X11_refused lk_X11_227 im_X11_refused se_X11_refused rfl (by decide) dX11_speed_67 rfl rfl rfl (by simp [ac_]) C1.room (by decide) (by decide) (by decide) (by decide) (fun r_ τ_ hQ => ?_)
            obtain ⟨rfl, rfl, Tp15, Ep15⟩ := hQ
            show J_ Γ 70 [(3, vr (sg_R σ b7 (x1).toNatClampNeg)), (0, vr (some a0)), (1, vi (x1)), (2, vi (x2))] [vi (p15.1)] p15.2 0 0
            obtain rfl := Option.some.inj hf; exact J_iret C1 dX11_speed_70 rfl (Nat.zero_le _) (Nat.zero_le _) ⟨rfl, rfl, Tp15, (hE).tr Ep15⟩
        · refine J_aload_n (q := 49) C0 1 rfl rfl dX11_speed_48 rfl trivial ?_
          refine J_iconst (q := 50) (v := 2) C0 dX11_speed_49 rfl rfl ?_
          refine K_some hf (fun p16 hp16 hf => ?_)
          refine J_callV (q := 53) (ci := 10) (as := [vi (2)]) (rest := []) C0 rfl (h0) (t_X11_refused a0 (2) (hT) (h0)  hp16) ml_X11_refused lk_X11_227 im_X11_refused se_X11_refused rfl (by decide) dX11_speed_50 rfl rfl rfl (by simp [ac_]) C1.room (by decide) (by decide) (by decide) (by decide) (fun r_ τ_ hQ => ?_)
          obtain ⟨rfl, rfl, Tp16, Ep16⟩ := hQ
          show J_ Γ 53 [(3, vr (sg_R σ b7 (x1).toNatClampNeg)), (0, vr (some a0)), (1, vi (x1)), (2, vi (x2))] [vi (p16.1)] p16.2 0 0
          obtain rfl := Option.some.inj hf; exact J_iret C1 dX11_speed_53 rfl (Nat.zero_le _) (Nat.zero_le _) ⟨rfl, rfl, Tp16, (hE).tr Ep16⟩
      · refine J_sub (lv' := [(0, vr (some a0))]) [0] rfl ?_
        exact t_X11_speed_B24 C1     σ (hT) (hE) (h0)  hf
  · refine J_aload_n (q := 9) C0 0 rfl rfl dX11_speed_8 rfl trivial ?_
    refine J_iconst (q := 10) (v := 0) C0 dX11_speed_9 rfl rfl ?_
    refine K_some hf (fun p17 hp17 hf => ?_)
    refine J_callV (q := 13) (ci := 10) (as := [vi (0)]) (rest := []) C0 rfl (h0) (t_X11_refused a0 (0) (hT) (h0)  hp17) ml_X11_refused lk_X11_227 im_X11_refused se_X11_refused rfl (by decide) dX11_speed_10 rfl rfl rfl (by simp [ac_]) C1.room (by decide) (by decide) (by decide) (by decide) (fun r_ τ_ hQ => ?_)
    obtain ⟨rfl, rfl, Tp17, Ep17⟩ := hQ
    show J_ Γ 13 [(0, vr (some a0)), (1, vi (x1)), (2, vi (x2))] [vi (p17.1)] p17.2 0 0
    obtain rfl := Option.some.inj hf; exact J_iret C1 dX11_speed_13 rfl (Nat.zero_le _) (Nat.zero_le _) ⟨rfl, rfl, Tp17, (hE).tr Ep17⟩
def f_X11_about_B48 (N : Nat) (a0 : Nat) (v2 : Option Nat) (s0 : Int32) (s1 : Option Nat) (σ : Sg) : Option (Int32 × Sg) :=
  Option.bind (s1) fun b10 =>
  if ¬ ((s0) = 0 ∨ (s0) = 1) then none else
  Option.bind (v2) fun b12 =>
  if (sg_I (put_I σ b10 1 (s0)) b12 1) = (0) then
  (some (0, put_I σ b10 1 (s0)))
  else
  (some (1, put_I σ b10 1 (s0)))
def f_X11_about (N : Nat) (a0 : Nat) (x1 : Int32) (σ : Sg) : Option (Int32 × Sg) :=
  Option.bind (f_X11_isWheel a0 (x1) σ) fun p1 =>
  if (p1) = (0) then
  (Option.bind (f_X11_refused a0 (0) σ) fun p14 =>
  some (p14.1, p14.2))
  else
  (Option.bind (sg_R σ a0 14) fun b3 =>
  Option.bind (f_X5_keep N b3 (sg_R σ a0 13) σ) fun p4 =>
  Option.bind (sg_R p4 a0 13) fun b5 =>
  Option.bind (sg_R p4 b5 0) fun b6 =>
  if (x1) < 0 ∨ sg_L p4 b6 ≤ (x1).toNatClampNeg then none else
  Option.bind (sg_R p4 b6 (x1).toNatClampNeg) fun b8 =>
  if (sg_I p4 b8 1) = (0) then
  (f_X11_about_B48 N a0 (sg_R p4 b6 (x1).toNatClampNeg) (1) (sg_R p4 b6 (x1).toNatClampNeg) (p4))
  else
  (f_X11_about_B48 N a0 (sg_R p4 b6 (x1).toNatClampNeg) (0) (sg_R p4 b6 (x1).toNatClampNeg) (p4)))
set_option maxHeartbeats 4000000 in
set_option maxRecDepth 100000 in
theorem t_X11_about_B48 {N : Nat} {a0 : Nat} {Γ : Gm} {σ0 : Sg} {r : (Int32 × Sg)} (C1 : CM Γ cX11_about RX11 3 (some .int) 3 69 0 0 (fun r_ τ_ => (r_ = some (vi r.1)) ∧ τ_ = r.2 ∧ sg_T τ_ ∧ sg_E σ0 τ_)) (v2 : Option Nat) (s0 : Int32) (s1 : Option Nat) (σ : Sg) (hT : sg_T σ) (hE : sg_E σ0 σ) (h0 : is_A σ a0 10) (g_v2 : is_O σ v2 9) (g_s1 : is_O σ s1 9) (hf : f_X11_about_B48 N a0  v2 s0 s1 σ = some r) : J_ Γ 48 [(0, vr (some a0)), (2, vr (v2))] [vi (s0), vr (s1)] σ 0 0 := by
  have C0 := C1.1
  unfold f_X11_about_B48 at hf
  refine K_some hf (fun b10 hb10 hf => ?_)
  have ab10 : is_A σ b10 9 := (g_s1) b10 hb10
  refine K_chk hf (fun c11 hf => ?_)
  refine J_putZ (q := 51) C0 (Decidable.not_not.mp c11) fl_X11_209_9 hb10 (ab10) rfl dX11_about_48 rfl ?_
  refine J_aload_n (q := 52) C0 1 rfl rfl dX11_about_51 rfl trivial ?_
  refine K_some hf (fun b12 hb12 hf => ?_)
  have ab12 : is_A (put_I σ b10 1 (s0)) b12 9 := ((fun b_ h_ => (g_v2 b_ h_).putI)) b12 hb12
  refine J_getI (q := 55) C0 fl_X11_209_9 hb12 (ab12) rfl dX11_about_52 rfl ?_
  refine J_if_eq (t := 62) (q := 58) C0 dX11_about_55 (by decide) rfl hf (fun c13 hf => ?_) (fun c13 hf => ?_)
  · refine J_iconst (q := 63) (v := 0) C0 dX11_about_62 rfl rfl ?_
    obtain rfl := Option.some.inj hf; exact J_iret C1 dX11_about_63 rfl (Nat.zero_le _) (Nat.zero_le _) ⟨rfl, rfl, (hT).putI, (hE).putI⟩
  · refine J_iconst (q := 59) (v := 1) C0 dX11_about_58 rfl rfl ?_
    refine J_goto (q := 63) C0 dX11_about_59 (by decide) ?_
    obtain rfl := Option.some.inj hf; exact J_iret C1 dX11_about_63 rfl (Nat.zero_le _) (Nat.zero_le _) ⟨rfl, rfl, (hT).putI, (hE).putI⟩
set_option maxHeartbeats 4000000 in
set_option maxRecDepth 100000 in
theorem t_X11_about (N : Nat) (a0 : Nat) (x1 : Int32) {σ : Sg} (hT : sg_T σ) (h0 : is_A σ a0 10) {r : (Int32 × Sg)} (hf : f_X11_about N a0 x1 σ = some r) : Ct yX11_about cX11_about 3 (some .int) 3 69 0 0 [vr (some a0), vi x1] σ (fun r_ τ_ => (r_ = some (vi r.1)) ∧ τ_ = r.2 ∧ sg_T τ_ ∧ sg_E σ τ_) := by
  refine Ct.of (by decide +kernel) (Nat.le_of_ble_eq_true rfl) (fun Γ C1 => ?_)
  have C0 := C1.1
  have hE : sg_E σ σ := sg_E.rf
  unfold f_X11_about at hf
  show J_ Γ 0 [(0, vr (some a0)), (1, vi (x1))] [] σ 0 0
  refine J_aload_n (q := 1) C0 0 rfl rfl dX11_about_0 rfl trivial ?_
  refine J_iload_n (q := 2) C0 1 rfl rfl dX11_about_1 rfl ?_
  refine K_some hf (fun p1 hp1 hf => ?_)
  refine J_callV (q := 5) (ci := 10) (as := [vi (x1)]) (rest := []) C0 rfl (h0) (t_X11_isWheel a0 (x1) (hT) (h0)  hp1) ml_X11_isWheel lk_X11_195 im_X11_isWheel se_X11_isWheel rfl (by decide) dX11_about_2 rfl rfl rfl (by simp [ac_]) C1.room (by decide) (by decide) (by decide) (by decide) (fun r_ τ_ hQ => ?_)
  obtain ⟨⟨rfl, zp1⟩, ht_⟩ := hQ; have ht_ := ht_.symm; subst ht_
  show J_ Γ 5 [(0, vr (some a0)), (1, vi (x1))] [vi (p1)] σ 0 0
  refine J_if_ne (t := 14) (q := 8) C0 dX11_about_5 (by decide) rfl hf (fun c2 hf => ?_) (fun c2 hf => ?_)
  · refine J_aload_n (q := 15) C0 0 rfl rfl dX11_about_14 rfl trivial ?_
    refine J_getR (q := 18) C0 fl_X11_82_10 rfl (h0) rfl dX11_about_15 rfl ?_
    refine J_aload_n (q := 19) C0 0 rfl rfl dX11_about_18 rfl trivial ?_
    refine J_getR (q := 22) C0 fl_X11_75_10 rfl (h0) rfl dX11_about_19 rfl ?_
    refine K_some hf (fun b3 hb3 hf => ?_)
    have ab3 : is_A σ b3 5 := ((sg_T.op hT (j := 14) (h0) rfl)) b3 hb3
    refine K_some hf (fun p4 hp4 hf => ?_)
    refine J_callV (q := 25) (ci := 5) (as := [vr (sg_R σ a0 13)]) (rest := []) C0 hb3 (ab3) (t_X5_keep N b3 (sg_R σ a0 13) (hT) (ab3) ((sg_T.op hT (j := 13) (h0) rfl)) hp4) ml_X5_keep lk_X11_233 im_X5_keep se_X5_keep rfl (by decide) dX11_about_22 rfl rfl rfl (by simp [ac_]) C1.room (by decide) (by decide) (by decide) (by decide) (fun r_ τ_ hQ => ?_)
    obtain ⟨rfl, ht_, Tp4, Ep4⟩ := hQ; have ht_ := ht_.symm; subst ht_
    show J_ Γ 25 [(0, vr (some a0)), (1, vi (x1))] [] p4 0 0
    refine J_aload_n (q := 26) C0 0 rfl rfl dX11_about_25 rfl trivial ?_
    refine J_getR (q := 29) C0 fl_X11_75_10 rfl ((Ep4.at h0)) rfl dX11_about_26 rfl ?_
    refine K_some hf (fun b5 hb5 hf => ?_)
    have ab5 : is_A p4 b5 6 := ((sg_T.op Tp4 (j := 13) ((Ep4.at h0)) rfl)) b5 hb5
    refine J_getR (q := 32) C0 fl_X11_153_6 hb5 (ab5) rfl dX11_about_29 rfl ?_
    refine J_iload_n (q := 33) C0 1 rfl rfl dX11_about_32 rfl ?_
    refine K_some hf (fun b6 hb6 hf => ?_)
    have ab6 : is_A p4 b6 18 := ((sg_T.op Tp4 (j := 0) (ab5) rfl)) b6 hb6
    refine K_chk hf (fun c7 hf => ?_)
    refine J_aald (q := 34) C0 hb6 (ab6) (by decide) c7 dX11_about_33 rfl ?_
    refine J_astore_n (q := 35) (lv' := [(2, vr (sg_R p4 b6 (x1).toNatClampNeg)), (0, vr (some a0)), (1, vi (x1))]) C0 rfl (G_nl C1 (by decide)) dX11_about_34 rfl trivial rfl ?_
    refine J_aload_n (q := 36) C0 0 rfl rfl dX11_about_35 rfl trivial ?_
    refine J_aload_n (q := 37) C0 0 rfl rfl dX11_about_36 rfl trivial ?_
    refine K_some hf (fun b8 hb8 hf => ?_)
    have ab8 : is_A p4 b8 9 := ((sg_T.op Tp4 (j := (x1).toNatClampNeg) (ab6) rfl)) b8 hb8
    refine J_getI (q := 40) C0 fl_X11_209_9 hb8 (ab8) rfl dX11_about_37 rfl ?_
    refine J_if_ne (t := 47) (q := 43) C0 dX11_about_40 (by decide) rfl hf (fun c9 hf => ?_) (fun c9 hf => ?_)
    · refine J_iconst (q := 48) (v := 0) C0 dX11_about_47 rfl rfl ?_
      refine J_sub (lv' := [(0, vr (some a0)), (2, vr (sg_R p4 b6 (x1).toNatClampNeg))]) [1, 0] rfl ?_
      exact t_X11_about_B48 C1    (sg_R p4 b6 (x1).toNatClampNeg) (0) (sg_R p4 b6 (x1).toNatClampNeg) (p4) (Tp4) ((hE).tr Ep4) ((Ep4.at h0)) ((by rw [hb8]; exact is_O.some (ab8))) ((by rw [hb8]; exact is_O.some (ab8))) hf
    · refine J_iconst (q := 44) (v := 1) C0 dX11_about_43 rfl rfl ?_
      refine J_goto (q := 48) C0 dX11_about_44 (by decide) ?_
      refine J_sub (lv' := [(0, vr (some a0)), (2, vr (sg_R p4 b6 (x1).toNatClampNeg))]) [1, 0] rfl ?_
      exact t_X11_about_B48 C1    (sg_R p4 b6 (x1).toNatClampNeg) (1) (sg_R p4 b6 (x1).toNatClampNeg) (p4) (Tp4) ((hE).tr Ep4) ((Ep4.at h0)) ((by rw [hb8]; exact is_O.some (ab8))) ((by rw [hb8]; exact is_O.some (ab8))) hf
  · refine J_aload_n (q := 9) C0 0 rfl rfl dX11_about_8 rfl trivial ?_
    refine J_iconst (q := 10) (v := 0) C0 dX11_about_9 rfl rfl ?_
    refine K_some hf (fun p14 hp14 hf => ?_)
    refine J_callV (q := 13) (ci := 10) (as := [vi (0)]) (rest := []) C0 rfl (h0) (t_X11_refused a0 (0) (hT) (h0)  hp14) ml_X11_refused lk_X11_227 im_X11_refused se_X11_refused rfl (by decide) dX11_about_10 rfl rfl rfl (by simp [ac_]) C1.room (by decide) (by decide) (by decide) (by decide) (fun r_ τ_ hQ => ?_)
    obtain ⟨rfl, rfl, Tp14, Ep14⟩ := hQ
    show J_ Γ 13 [(0, vr (some a0)), (1, vi (x1))] [vi (p14.1)] p14.2 0 0
    obtain rfl := Option.some.inj hf; exact J_iret C1 dX11_about_13 rfl (Nat.zero_le _) (Nat.zero_le _) ⟨rfl, rfl, Tp14, (hE).tr Ep14⟩
def f_X11_shove (a0 : Nat) (e1 : Option Nat) (x2 : Int32) (σ : Sg) : Option Sg :=
  Option.bind (e1) fun b1 =>
  Option.bind (f_X11_stripOf a0 (e1) σ) fun p2 =>
  Option.bind (p2) fun b3 =>
  Option.bind (f_X8_size b3  σ) fun p4 =>
  Option.bind (f_X11_round ((sg_I σ b1 2) + (x2)) (p4) ) fun p5 =>
  some (put_I σ b1 2 (p5))
set_option maxHeartbeats 4000000 in
set_option maxRecDepth 100000 in
theorem t_X11_shove (a0 : Nat) (e1 : Option Nat) (x2 : Int32) {σ : Sg} (hT : sg_T σ) (h0 : is_A σ a0 10) (g1 : is_O σ e1 9) {r : Sg} (hf : f_X11_shove a0 e1 x2 σ = some r) : Ct yX11_shove cX11_shove 3 none 2 43 0 0 [vr (some a0), vr e1, vi x2] σ (fun r_ τ_ => (r_ = none) ∧ τ_ = r ∧ sg_T τ_ ∧ sg_E σ τ_) := by
  refine Ct.of (by decide +kernel) (Nat.le_of_ble_eq_true rfl) (fun Γ C1 => ?_)
  have C0 := C1.1
  have hE : sg_E σ σ := sg_E.rf
  unfold f_X11_shove at hf
  show J_ Γ 0 [(0, vr (some a0)), (1, vr (e1)), (2, vi (x2))] [] σ 0 0
  refine J_aload_n (q := 1) C0 1 rfl rfl dX11_shove_0 rfl trivial ?_
  refine J_aload_n (q := 2) C0 1 rfl rfl dX11_shove_1 rfl trivial ?_
  refine K_some hf (fun b1 hb1 hf => ?_)
  have ab1 : is_A σ b1 9 := (g1) b1 hb1
  refine J_getI (q := 5) C0 fl_X11_157_9 hb1 (ab1) rfl dX11_shove_2 rfl ?_
  refine J_iload_n (q := 6) C0 2 rfl rfl dX11_shove_5 rfl ?_
  refine J_iadd (q := 7) C0 dX11_shove_6 rfl ?_
  refine J_aload_n (q := 8) C0 0 rfl rfl dX11_shove_7 rfl trivial ?_
  refine J_aload_n (q := 9) C0 1 rfl rfl dX11_shove_8 rfl trivial ?_
  refine K_some hf (fun p2 hp2 hf => ?_)
  refine J_callV (q := 12) (ci := 10) (as := [vr (e1)]) (rest := [vi ((sg_I σ b1 2) + (x2)), vr (e1)]) C0 rfl (h0) (t_X11_stripOf a0 (e1) (hT) (h0) ((by rw [hb1]; exact is_O.some (ab1))) hp2) ml_X11_stripOf lk_X11_162 im_X11_stripOf se_X11_stripOf rfl (by decide) dX11_shove_9 rfl rfl rfl (by simp [ac_]) C1.room (by decide) (by decide) (by decide) (by decide) (fun r_ τ_ hQ => ?_)
  obtain ⟨⟨rfl, op2⟩, ht_⟩ := hQ; have ht_ := ht_.symm; subst ht_
  show J_ Γ 12 [(0, vr (some a0)), (1, vr (e1)), (2, vi (x2))] [vr (p2), vi ((sg_I σ b1 2) + (x2)), vr (e1)] σ 0 0
  refine K_some hf (fun b3 hb3 hf => ?_)
  have ab3 : is_A σ b3 7 := (op2) b3 hb3
  refine K_some hf (fun p4 hp4 hf => ?_)
  refine J_callV (q := 15) (ci := 7) (as := []) (rest := [vi ((sg_I σ b1 2) + (x2)), vr (e1)]) C0 hb3 (ab3) (t_X8_size b3  (hT) (ab3)  hp4) ml_X8_size lk_X11_166 im_X8_size se_X8_size rfl (by decide) dX11_shove_12 rfl rfl rfl (by simp [ac_]) C1.room (by decide) (by decide) (by decide) (by decide) (fun r_ τ_ hQ => ?_)
  obtain ⟨rfl, ht_⟩ := hQ; have ht_ := ht_.symm; subst ht_
  show J_ Γ 15 [(0, vr (some a0)), (1, vr (e1)), (2, vi (x2))] [vi (p4), vi ((sg_I σ b1 2) + (x2)), vr (e1)] σ 0 0
  refine K_some hf (fun p5 hp5 hf => ?_)
  refine J_callS (q := 18) (as := [vi ((sg_I σ b1 2) + (x2)), vi (p4)]) (rest := [vr (e1)]) C0 (t_X11_round ((sg_I σ b1 2) + (x2)) (p4)  hp5) ml_X11_round lk_X11_169 sm_X11_round dX11_shove_15 rfl rfl rfl (by simp [ac_]) C1.room (by decide) (by decide) (by decide) (by decide) (fun r_ τ_ hQ => ?_)
  obtain ⟨rfl, ht_⟩ := hQ; have ht_ := ht_.symm; subst ht_
  show J_ Γ 18 [(0, vr (some a0)), (1, vr (e1)), (2, vi (x2))] [vi (p5), vr (e1)] σ 0 0
  refine J_putI (q := 21) C0 fl_X11_157_9 hb1 (ab1) rfl dX11_shove_18 rfl ?_
  obtain rfl := Option.some.inj hf; exact J_vret C1 dX11_shove_21 rfl (Nat.zero_le _) (Nat.zero_le _) ⟨rfl, rfl, (hT).putI, (hE).putI⟩
def f_X11_push_B25 (N : Nat) (a0 : Nat) (σ : Sg) : Option (Int32 × Sg) :=
  Option.bind (f_X11_refused a0 (1) σ) fun p4 =>
  some (p4.1, p4.2)
def f_X11_push (N : Nat) (a0 : Nat) (x1 : Int32) (x2 : Int32) (σ : Sg) : Option (Int32 × Sg) :=
  Option.bind (f_X11_isWheel a0 (x1) σ) fun p1 =>
  if (p1) = (0) then
  (Option.bind (f_X11_refused a0 (0) σ) fun p20 =>
  some (p20.1, p20.2))
  else
  (if (x2) < (1) then
  (f_X11_push_B25 N a0  σ)
  else
  (if (9) < (x2) then
  (f_X11_push_B25 N a0  σ)
  else
  (Option.bind (sg_R σ a0 13) fun b6 =>
  if (sg_I σ b6 4) < (1) then
  (Option.bind (f_X11_refused a0 (3) σ) fun p19 =>
  some (p19.1, p19.2))
  else
  (Option.bind (sg_R σ a0 14) fun b8 =>
  Option.bind (f_X5_keep N b8 (sg_R σ a0 13) σ) fun p9 =>
  Option.bind (sg_R p9 a0 13) fun b10 =>
  Option.bind (sg_R (put_I p9 b10 4 ((sg_I p9 b10 4) - (1))) a0 13) fun b11 =>
  Option.bind (sg_R (put_I p9 b10 4 ((sg_I p9 b10 4) - (1))) b11 0) fun b12 =>
  if (x1) < 0 ∨ sg_L (put_I p9 b10 4 ((sg_I p9 b10 4) - (1))) b12 ≤ (x1).toNatClampNeg then none else
  Option.bind (f_X11_shove a0 (sg_R (put_I p9 b10 4 ((sg_I p9 b10 4) - (1))) b12 (x1).toNatClampNeg) (x2) (put_I p9 b10 4 ((sg_I p9 b10 4) - (1)))) fun p14 =>
  Option.bind (sg_R p14 a0 13) fun b15 =>
  Option.bind (sg_R p14 b15 0) fun b16 =>
  if (x1) < 0 ∨ sg_L p14 b16 ≤ (x1).toNatClampNeg then none else
  Option.bind (sg_R p14 b16 (x1).toNatClampNeg) fun b18 =>
  some (sg_I p14 b18 2, p14)))))
set_option maxHeartbeats 4000000 in
set_option maxRecDepth 100000 in
theorem t_X11_push_B25 {N : Nat} {a0 : Nat} {Γ : Gm} {σ0 : Sg} {r : (Int32 × Sg)} (C1 : CM Γ cX11_push RX11 3 (some .int) 3 69 0 0 (fun r_ τ_ => (r_ = some (vi r.1)) ∧ τ_ = r.2 ∧ sg_T τ_ ∧ sg_E σ0 τ_)) (σ : Sg) (hT : sg_T σ) (hE : sg_E σ0 σ) (h0 : is_A σ a0 10) (hf : f_X11_push_B25 N a0   σ = some r) : J_ Γ 25 [(0, vr (some a0))] [] σ 0 0 := by
  have C0 := C1.1
  unfold f_X11_push_B25 at hf
  refine J_aload_n (q := 26) C0 0 rfl rfl dX11_push_25 rfl trivial ?_
  refine J_iconst (q := 27) (v := 1) C0 dX11_push_26 rfl rfl ?_
  refine K_some hf (fun p4 hp4 hf => ?_)
  refine J_callV (q := 30) (ci := 10) (as := [vi (1)]) (rest := []) C0 rfl (h0) (t_X11_refused a0 (1) (hT) (h0)  hp4) ml_X11_refused lk_X11_227 im_X11_refused se_X11_refused rfl (by decide) dX11_push_27 rfl rfl rfl (by simp [ac_]) C1.room (by decide) (by decide) (by decide) (by decide) (fun r_ τ_ hQ => ?_)
  obtain ⟨rfl, rfl, Tp4, Ep4⟩ := hQ
  show J_ Γ 30 [(0, vr (some a0))] [vi (p4.1)] p4.2 0 0
  obtain rfl := Option.some.inj hf; exact J_iret C1 dX11_push_30 rfl (Nat.zero_le _) (Nat.zero_le _) ⟨rfl, rfl, Tp4, (hE).tr Ep4⟩
set_option maxHeartbeats 4000000 in
set_option maxRecDepth 100000 in
theorem t_X11_push (N : Nat) (a0 : Nat) (x1 : Int32) (x2 : Int32) {σ : Sg} (hT : sg_T σ) (h0 : is_A σ a0 10) {r : (Int32 × Sg)} (hf : f_X11_push N a0 x1 x2 σ = some r) : Ct yX11_push cX11_push 3 (some .int) 3 69 0 0 [vr (some a0), vi x1, vi x2] σ (fun r_ τ_ => (r_ = some (vi r.1)) ∧ τ_ = r.2 ∧ sg_T τ_ ∧ sg_E σ τ_) := by
  refine Ct.of (by decide +kernel) (Nat.le_of_ble_eq_true rfl) (fun Γ C1 => ?_)
  have C0 := C1.1
  have hE : sg_E σ σ := sg_E.rf
  unfold f_X11_push at hf
  show J_ Γ 0 [(0, vr (some a0)), (1, vi (x1)), (2, vi (x2))] [] σ 0 0
  refine J_aload_n (q := 1) C0 0 rfl rfl dX11_push_0 rfl trivial ?_
  refine J_iload_n (q := 2) C0 1 rfl rfl dX11_push_1 rfl ?_
  refine K_some hf (fun p1 hp1 hf => ?_)
  refine J_callV (q := 5) (ci := 10) (as := [vi (x1)]) (rest := []) C0 rfl (h0) (t_X11_isWheel a0 (x1) (hT) (h0)  hp1) ml_X11_isWheel lk_X11_195 im_X11_isWheel se_X11_isWheel rfl (by decide) dX11_push_2 rfl rfl rfl (by simp [ac_]) C1.room (by decide) (by decide) (by decide) (by decide) (fun r_ τ_ hQ => ?_)
  obtain ⟨⟨rfl, zp1⟩, ht_⟩ := hQ; have ht_ := ht_.symm; subst ht_
  show J_ Γ 5 [(0, vr (some a0)), (1, vi (x1)), (2, vi (x2))] [vi (p1)] σ 0 0
  refine J_if_ne (t := 14) (q := 8) C0 dX11_push_5 (by decide) rfl hf (fun c2 hf => ?_) (fun c2 hf => ?_)
  · refine J_iload_n (q := 15) C0 2 rfl rfl dX11_push_14 rfl ?_
    refine J_iconst (q := 16) (v := 1) C0 dX11_push_15 rfl rfl ?_
    refine J_icmp_lt (t := 25) (q := 19) C0 dX11_push_16 (by decide) rfl hf (fun c3 hf => ?_) (fun c3 hf => ?_)
    · refine J_sub (lv' := [(0, vr (some a0))]) [0] rfl ?_
      exact t_X11_push_B25 C1     σ (hT) (hE) (h0)  hf
    · refine J_iload_n (q := 20) C0 2 rfl rfl dX11_push_19 rfl ?_
      refine J_bipush (q := 22) (v := 9) C0 dX11_push_20 rfl rfl ?_
      refine J_icmp_le (t := 31) (q := 25) C0 dX11_push_22 (by decide) rfl hf (fun c5 hf => ?_) (fun c5 hf => ?_)
      · refine J_aload_n (q := 32) C0 0 rfl rfl dX11_push_31 rfl trivial ?_
        refine J_getR (q := 35) C0 fl_X11_75_10 rfl (h0) rfl dX11_push_32 rfl ?_
        refine K_some hf (fun b6 hb6 hf => ?_)
        have ab6 : is_A σ b6 6 := ((sg_T.op hT (j := 13) (h0) rfl)) b6 hb6
        refine J_getI (q := 38) C0 fl_X11_192_6 hb6 (ab6) rfl dX11_push_35 rfl ?_
        refine J_iconst (q := 39) (v := 1) C0 dX11_push_38 rfl rfl ?_
        refine J_icmp_ge (t := 48) (q := 42) C0 dX11_push_39 (by decide) rfl hf (fun c7 hf => ?_) (fun c7 hf => ?_)
        · refine J_aload_n (q := 49) C0 0 rfl rfl dX11_push_48 rfl trivial ?_
          refine J_getR (q := 52) C0 fl_X11_82_10 rfl (h0) rfl dX11_push_49 rfl ?_
          refine J_aload_n (q := 53) C0 0 rfl rfl dX11_push_52 rfl trivial ?_
          refine J_getR (q := 56) C0 fl_X11_75_10 rfl (h0) rfl dX11_push_53 rfl ?_
          refine K_some hf (fun b8 hb8 hf => ?_)
          have ab8 : is_A σ b8 5 := ((sg_T.op hT (j := 14) (h0) rfl)) b8 hb8
          refine K_some hf (fun p9 hp9 hf => ?_)
          refine J_callV (q := 59) (ci := 5) (as := [vr (sg_R σ a0 13)]) (rest := []) C0 hb8 (ab8) (t_X5_keep N b8 (sg_R σ a0 13) (hT) (ab8) ((by rw [hb6]; exact is_O.some (ab6))) hp9) ml_X5_keep lk_X11_233 im_X5_keep se_X5_keep rfl (by decide) dX11_push_56 rfl rfl rfl (by simp [ac_]) C1.room (by decide) (by decide) (by decide) (by decide) (fun r_ τ_ hQ => ?_)
          obtain ⟨rfl, ht_, Tp9, Ep9⟩ := hQ; have ht_ := ht_.symm; subst ht_
          show J_ Γ 59 [(0, vr (some a0)), (1, vi (x1)), (2, vi (x2))] [] p9 0 0
          refine J_aload_n (q := 60) C0 0 rfl rfl dX11_push_59 rfl trivial ?_
          refine J_getR (q := 63) C0 fl_X11_75_10 rfl ((Ep9.at h0)) rfl dX11_push_60 rfl ?_
          refine J_dup (q := 64) C0 dX11_push_63 rfl rfl ?_
          refine K_some hf (fun b10 hb10 hf => ?_)
          have ab10 : is_A p9 b10 6 := ((sg_T.op Tp9 (j := 13) ((Ep9.at h0)) rfl)) b10 hb10
          refine J_getI (q := 67) C0 fl_X11_192_6 hb10 (ab10) rfl dX11_push_64 rfl ?_
          refine J_iconst (q := 68) (v := 1) C0 dX11_push_67 rfl rfl ?_
          refine J_isub (q := 69) C0 dX11_push_68 rfl ?_
          refine J_putI (q := 72) C0 fl_X11_192_6 hb10 (ab10) rfl dX11_push_69 rfl ?_
          refine J_aload_n (q := 73) C0 0 rfl rfl dX11_push_72 rfl trivial ?_
          refine J_aload_n (q := 74) C0 0 rfl rfl dX11_push_73 rfl trivial ?_
          refine J_getR (q := 77) C0 fl_X11_75_10 rfl (((Ep9.at h0)).putI) rfl dX11_push_74 rfl ?_
          refine K_some hf (fun b11 hb11 hf => ?_)
          have ab11 : is_A (put_I p9 b10 4 ((sg_I p9 b10 4) - (1))) b11 6 := ((sg_T.op (Tp9).putI (j := 13) (((Ep9.at h0)).putI) rfl)) b11 hb11
          refine J_getR (q := 80) C0 fl_X11_153_6 hb11 (ab11) rfl dX11_push_77 rfl ?_
          refine J_iload_n (q := 81) C0 1 rfl rfl dX11_push_80 rfl ?_
          refine K_some hf (fun b12 hb12 hf => ?_)
          have ab12 : is_A (put_I p9 b10 4 ((sg_I p9 b10 4) - (1))) b12 18 := ((sg_T.op (Tp9).putI (j := 0) (ab11) rfl)) b12 hb12
          refine K_chk hf (fun c13 hf => ?_)
          refine J_aald (q := 82) C0 hb12 (ab12) (by decide) c13 dX11_push_81 rfl ?_
          refine J_iload_n (q := 83) C0 2 rfl rfl dX11_push_82 rfl ?_
          refine K_some hf (fun p14 hp14 hf => ?_)
          refine J_callV (q := 86) (ci := 10) (as := [vr (sg_R (put_I p9 b10 4 ((sg_I p9 b10 4) - (1))) b12 (x1).toNatClampNeg), vi (x2)]) (rest := []) C0 rfl (((Ep9.at h0)).putI) (t_X11_shove a0 (sg_R (put_I p9 b10 4 ((sg_I p9 b10 4) - (1))) b12 (x1).toNatClampNeg) (x2) ((Tp9).putI) (((Ep9.at h0)).putI) ((sg_T.op (Tp9).putI (j := (x1).toNatClampNeg) (ab12) rfl)) hp14) ml_X11_shove lk_X11_239 im_X11_shove se_X11_shove rfl (by decide) dX11_push_83 rfl rfl rfl (by simp [ac_]) C1.room (by decide) (by decide) (by decide) (by decide) (fun r_ τ_ hQ => ?_)
          obtain ⟨rfl, ht_, Tp14, Ep14⟩ := hQ; have ht_ := ht_.symm; subst ht_
          show J_ Γ 86 [(0, vr (some a0)), (1, vi (x1)), (2, vi (x2))] [] p14 0 0
          refine J_aload_n (q := 87) C0 0 rfl rfl dX11_push_86 rfl trivial ?_
          refine J_getR (q := 90) C0 fl_X11_75_10 rfl ((Ep14.at ((Ep9.at h0)).putI)) rfl dX11_push_87 rfl ?_
          refine K_some hf (fun b15 hb15 hf => ?_)
          have ab15 : is_A p14 b15 6 := ((sg_T.op Tp14 (j := 13) ((Ep14.at ((Ep9.at h0)).putI)) rfl)) b15 hb15
          refine J_getR (q := 93) C0 fl_X11_153_6 hb15 (ab15) rfl dX11_push_90 rfl ?_
          refine J_iload_n (q := 94) C0 1 rfl rfl dX11_push_93 rfl ?_
          refine K_some hf (fun b16 hb16 hf => ?_)
          have ab16 : is_A p14 b16 18 := ((sg_T.op Tp14 (j := 0) (ab15) rfl)) b16 hb16
          refine K_chk hf (fun c17 hf => ?_)
          refine J_aald (q := 95) C0 hb16 (ab16) (by decide) c17 dX11_push_94 rfl ?_
          refine K_some hf (fun b18 hb18 hf => ?_)
          have ab18 : is_A p14 b18 9 := ((sg_T.op Tp14 (j := (x1).toNatClampNeg) (ab16) rfl)) b18 hb18
          refine J_getI (q := 98) C0 fl_X11_157_9 hb18 (ab18) rfl dX11_push_95 rfl ?_
          obtain rfl := Option.some.inj hf; exact J_iret C1 dX11_push_98 rfl (Nat.zero_le _) (Nat.zero_le _) ⟨rfl, rfl, Tp14, (((hE).tr Ep9).putI).tr Ep14⟩
        · refine J_aload_n (q := 43) C0 0 rfl rfl dX11_push_42 rfl trivial ?_
          refine J_iconst (q := 44) (v := 3) C0 dX11_push_43 rfl rfl ?_
          refine K_some hf (fun p19 hp19 hf => ?_)
          refine J_callV (q := 47) (ci := 10) (as := [vi (3)]) (rest := []) C0 rfl (h0) (t_X11_refused a0 (3) (hT) (h0)  hp19) ml_X11_refused lk_X11_227 im_X11_refused se_X11_refused rfl (by decide) dX11_push_44 rfl rfl rfl (by simp [ac_]) C1.room (by decide) (by decide) (by decide) (by decide) (fun r_ τ_ hQ => ?_)
          obtain ⟨rfl, rfl, Tp19, Ep19⟩ := hQ
          show J_ Γ 47 [(0, vr (some a0)), (1, vi (x1)), (2, vi (x2))] [vi (p19.1)] p19.2 0 0
          obtain rfl := Option.some.inj hf; exact J_iret C1 dX11_push_47 rfl (Nat.zero_le _) (Nat.zero_le _) ⟨rfl, rfl, Tp19, (hE).tr Ep19⟩
      · refine J_sub (lv' := [(0, vr (some a0))]) [0] rfl ?_
        exact t_X11_push_B25 C1     σ (hT) (hE) (h0)  hf
  · refine J_aload_n (q := 9) C0 0 rfl rfl dX11_push_8 rfl trivial ?_
    refine J_iconst (q := 10) (v := 0) C0 dX11_push_9 rfl rfl ?_
    refine K_some hf (fun p20 hp20 hf => ?_)
    refine J_callV (q := 13) (ci := 10) (as := [vi (0)]) (rest := []) C0 rfl (h0) (t_X11_refused a0 (0) (hT) (h0)  hp20) ml_X11_refused lk_X11_227 im_X11_refused se_X11_refused rfl (by decide) dX11_push_10 rfl rfl rfl (by simp [ac_]) C1.room (by decide) (by decide) (by decide) (by decide) (fun r_ τ_ hQ => ?_)
    obtain ⟨rfl, rfl, Tp20, Ep20⟩ := hQ
    show J_ Γ 13 [(0, vr (some a0)), (1, vi (x1)), (2, vi (x2))] [vi (p20.1)] p20.2 0 0
    obtain rfl := Option.some.inj hf; exact J_iret C1 dX11_push_13 rfl (Nat.zero_le _) (Nat.zero_le _) ⟨rfl, rfl, Tp20, (hE).tr Ep20⟩
def f_X11_puts_B16 (N : Nat) (a0 : Nat) (σ : Sg) : Option (Int32 × Sg) :=
  Option.bind (f_X11_refused a0 (0) σ) fun p3 =>
  some (p3.1, p3.2)
def f_X11_puts (N : Nat) (a0 : Nat) (x1 : Int32) (x2 : Int32) (σ : Sg) : Option (Int32 × Sg) :=
  Option.bind (f_X11_isWheel a0 (x1) σ) fun p1 =>
  if (p1) = (0) then
  (f_X11_puts_B16 N a0  σ)
  else
  (Option.bind (f_X11_isStrip a0 (x2) σ) fun p4 =>
  if (p4) = (0) then
  (f_X11_puts_B16 N a0  σ)
  else
  (Option.bind (sg_R σ a0 13) fun b6 =>
  Option.bind (sg_R σ b6 0) fun b7 =>
  if (x1) < 0 ∨ sg_L σ b7 ≤ (x1).toNatClampNeg then none else
  Option.bind (sg_R σ b7 (x1).toNatClampNeg) fun b9 =>
  if (x2) = (sg_I σ b9 3) then
  (Option.bind (f_X11_refused a0 (2) σ) fun p21 =>
  some (p21.1, p21.2))
  else
  (if (sg_I σ b6 4) < (2) then
  (Option.bind (f_X11_refused a0 (3) σ) fun p20 =>
  some (p20.1, p20.2))
  else
  (Option.bind (sg_R σ a0 14) fun b12 =>
  Option.bind (f_X5_keep N b12 (sg_R σ a0 13) σ) fun p13 =>
  Option.bind (sg_R p13 a0 13) fun b14 =>
  Option.bind (sg_R (put_I (put_I p13 b14 4 ((sg_I p13 b14 4) - (2))) b9 3 (x2)) a0 8) fun b15 =>
  if (x2) < 0 ∨ sg_L (put_I (put_I p13 b14 4 ((sg_I p13 b14 4) - (2))) b9 3 (x2)) b15 ≤ (x2).toNatClampNeg then none else
  Option.bind (sg_R (put_I (put_I p13 b14 4 ((sg_I p13 b14 4) - (2))) b9 3 (x2)) b15 (x2).toNatClampNeg) fun b17 =>
  Option.bind (f_X8_size b17  (put_I (put_I p13 b14 4 ((sg_I p13 b14 4) - (2))) b9 3 (x2))) fun p18 =>
  Option.bind (f_X11_round (sg_I (put_I (put_I p13 b14 4 ((sg_I p13 b14 4) - (2))) b9 3 (x2)) b9 2) (p18) ) fun p19 =>
  some (p18, put_I (put_I (put_I p13 b14 4 ((sg_I p13 b14 4) - (2))) b9 3 (x2)) b9 2 (p19))))))
set_option maxHeartbeats 4000000 in
set_option maxRecDepth 100000 in
theorem t_X11_puts_B16 {N : Nat} {a0 : Nat} {Γ : Gm} {σ0 : Sg} {r : (Int32 × Sg)} (C1 : CM Γ cX11_puts RX11 5 (some .int) 3 69 0 0 (fun r_ τ_ => (r_ = some (vi r.1)) ∧ τ_ = r.2 ∧ sg_T τ_ ∧ sg_E σ0 τ_)) (σ : Sg) (hT : sg_T σ) (hE : sg_E σ0 σ) (h0 : is_A σ a0 10) (hf : f_X11_puts_B16 N a0   σ = some r) : J_ Γ 16 [(0, vr (some a0))] [] σ 0 0 := by
  have C0 := C1.1
  unfold f_X11_puts_B16 at hf
  refine J_aload_n (q := 17) C0 0 rfl rfl dX11_puts_16 rfl trivial ?_
  refine J_iconst (q := 18) (v := 0) C0 dX11_puts_17 rfl rfl ?_
  refine K_some hf (fun p3 hp3 hf => ?_)
  refine J_callV (q := 21) (ci := 10) (as := [vi (0)]) (rest := []) C0 rfl (h0) (t_X11_refused a0 (0) (hT) (h0)  hp3) ml_X11_refused lk_X11_227 im_X11_refused se_X11_refused rfl (by decide) dX11_puts_18 rfl rfl rfl (by simp [ac_]) C1.room (by decide) (by decide) (by decide) (by decide) (fun r_ τ_ hQ => ?_)
  obtain ⟨rfl, rfl, Tp3, Ep3⟩ := hQ
  show J_ Γ 21 [(0, vr (some a0))] [vi (p3.1)] p3.2 0 0
  obtain rfl := Option.some.inj hf; exact J_iret C1 dX11_puts_21 rfl (Nat.zero_le _) (Nat.zero_le _) ⟨rfl, rfl, Tp3, (hE).tr Ep3⟩
set_option maxHeartbeats 4000000 in
set_option maxRecDepth 100000 in
theorem t_X11_puts (N : Nat) (a0 : Nat) (x1 : Int32) (x2 : Int32) {σ : Sg} (hT : sg_T σ) (h0 : is_A σ a0 10) {r : (Int32 × Sg)} (hf : f_X11_puts N a0 x1 x2 σ = some r) : Ct yX11_puts cX11_puts 5 (some .int) 3 69 0 0 [vr (some a0), vi x1, vi x2] σ (fun r_ τ_ => (r_ = some (vi r.1)) ∧ τ_ = r.2 ∧ sg_T τ_ ∧ sg_E σ τ_) := by
  refine Ct.of (by decide +kernel) (Nat.le_of_ble_eq_true rfl) (fun Γ C1 => ?_)
  have C0 := C1.1
  have hE : sg_E σ σ := sg_E.rf
  unfold f_X11_puts at hf
  show J_ Γ 0 [(0, vr (some a0)), (1, vi (x1)), (2, vi (x2))] [] σ 0 0
  refine J_aload_n (q := 1) C0 0 rfl rfl dX11_puts_0 rfl trivial ?_
  refine J_iload_n (q := 2) C0 1 rfl rfl dX11_puts_1 rfl ?_
  refine K_some hf (fun p1 hp1 hf => ?_)
  refine J_callV (q := 5) (ci := 10) (as := [vi (x1)]) (rest := []) C0 rfl (h0) (t_X11_isWheel a0 (x1) (hT) (h0)  hp1) ml_X11_isWheel lk_X11_195 im_X11_isWheel se_X11_isWheel rfl (by decide) dX11_puts_2 rfl rfl rfl (by simp [ac_]) C1.room (by decide) (by decide) (by decide) (by decide) (fun r_ τ_ hQ => ?_)
  obtain ⟨⟨rfl, zp1⟩, ht_⟩ := hQ; have ht_ := ht_.symm; subst ht_
  show J_ Γ 5 [(0, vr (some a0)), (1, vi (x1)), (2, vi (x2))] [vi (p1)] σ 0 0
  refine J_if_eq (t := 16) (q := 8) C0 dX11_puts_5 (by decide) rfl hf (fun c2 hf => ?_) (fun c2 hf => ?_)
  · refine J_sub (lv' := [(0, vr (some a0))]) [0] rfl ?_
    exact t_X11_puts_B16 C1     σ (hT) (hE) (h0)  hf
  · refine J_aload_n (q := 9) C0 0 rfl rfl dX11_puts_8 rfl trivial ?_
    refine J_iload_n (q := 10) C0 2 rfl rfl dX11_puts_9 rfl ?_
    refine K_some hf (fun p4 hp4 hf => ?_)
    refine J_callV (q := 13) (ci := 10) (as := [vi (x2)]) (rest := []) C0 rfl (h0) (t_X11_isStrip a0 (x2) (hT) (h0)  hp4) ml_X11_isStrip lk_X11_221 im_X11_isStrip se_X11_isStrip rfl (by decide) dX11_puts_10 rfl rfl rfl (by simp [ac_]) C1.room (by decide) (by decide) (by decide) (by decide) (fun r_ τ_ hQ => ?_)
    obtain ⟨⟨rfl, zp4⟩, ht_⟩ := hQ; have ht_ := ht_.symm; subst ht_
    show J_ Γ 13 [(0, vr (some a0)), (1, vi (x1)), (2, vi (x2))] [vi (p4)] σ 0 0
    refine J_if_ne (t := 22) (q := 16) C0 dX11_puts_13 (by decide) rfl hf (fun c5 hf => ?_) (fun c5 hf => ?_)
    · refine J_aload_n (q := 23) C0 0 rfl rfl dX11_puts_22 rfl trivial ?_
      refine J_getR (q := 26) C0 fl_X11_75_10 rfl (h0) rfl dX11_puts_23 rfl ?_
      refine K_some hf (fun b6 hb6 hf => ?_)
      have ab6 : is_A σ b6 6 := ((sg_T.op hT (j := 13) (h0) rfl)) b6 hb6
      refine J_getR (q := 29) C0 fl_X11_153_6 hb6 (ab6) rfl dX11_puts_26 rfl ?_
      refine J_iload_n (q := 30) C0 1 rfl rfl dX11_puts_29 rfl ?_
      refine K_some hf (fun b7 hb7 hf => ?_)
      have ab7 : is_A σ b7 18 := ((sg_T.op hT (j := 0) (ab6) rfl)) b7 hb7
      refine K_chk hf (fun c8 hf => ?_)
      refine J_aald (q := 31) C0 hb7 (ab7) (by decide) c8 dX11_puts_30 rfl ?_
      refine J_astore_n (q := 32) (lv' := [(3, vr (sg_R σ b7 (x1).toNatClampNeg)), (0, vr (some a0)), (1, vi (x1)), (2, vi (x2))]) C0 rfl (G_nl C1 (by decide)) dX11_puts_31 rfl trivial rfl ?_
      refine J_iload_n (q := 33) C0 3 rfl rfl dX11_puts_32 rfl ?_
      refine J_aload_n (q := 34) C0 0 rfl rfl dX11_puts_33 rfl trivial ?_
      refine K_some hf (fun b9 hb9 hf => ?_)
      have ab9 : is_A σ b9 9 := ((sg_T.op hT (j := (x1).toNatClampNeg) (ab7) rfl)) b9 hb9
      refine J_getI (q := 37) C0 fl_X11_212_9 hb9 (ab9) rfl dX11_puts_34 rfl ?_
      refine J_icmp_ne (t := 46) (q := 40) C0 dX11_puts_37 (by decide) rfl hf (fun c10 hf => ?_) (fun c10 hf => ?_)
      · refine J_aload_n (q := 47) C0 1 rfl rfl dX11_puts_46 rfl trivial ?_
        refine J_getR (q := 50) C0 fl_X11_75_10 rfl (h0) rfl dX11_puts_47 rfl ?_
        refine J_getI (q := 53) C0 fl_X11_192_6 hb6 (ab6) rfl dX11_puts_50 rfl ?_
        refine J_iconst (q := 54) (v := 2) C0 dX11_puts_53 rfl rfl ?_
        refine J_icmp_ge (t := 63) (q := 57) C0 dX11_puts_54 (by decide) rfl hf (fun c11 hf => ?_) (fun c11 hf => ?_)
        · refine J_aload_n (q := 64) C0 1 rfl rfl dX11_puts_63 rfl trivial ?_
          refine J_getR (q := 67) C0 fl_X11_82_10 rfl (h0) rfl dX11_puts_64 rfl ?_
          refine J_aload_n (q := 68) C0 1 rfl rfl dX11_puts_67 rfl trivial ?_
          refine J_getR (q := 71) C0 fl_X11_75_10 rfl (h0) rfl dX11_puts_68 rfl ?_
          refine K_some hf (fun b12 hb12 hf => ?_)
          have ab12 : is_A σ b12 5 := ((sg_T.op hT (j := 14) (h0) rfl)) b12 hb12
          refine K_some hf (fun p13 hp13 hf => ?_)
          refine J_callV (q := 74) (ci := 5) (as := [vr (sg_R σ a0 13)]) (rest := []) C0 hb12 (ab12) (t_X5_keep N b12 (sg_R σ a0 13) (hT) (ab12) ((by rw [hb6]; exact is_O.some (ab6))) hp13) ml_X5_keep lk_X11_233 im_X5_keep se_X5_keep rfl (by decide) dX11_puts_71 rfl rfl rfl (by simp [ac_]) C1.room (by decide) (by decide) (by decide) (by decide) (fun r_ τ_ hQ => ?_)
          obtain ⟨rfl, ht_, Tp13, Ep13⟩ := hQ; have ht_ := ht_.symm; subst ht_
          show J_ Γ 74 [(3, vr (sg_R σ b7 (x1).toNatClampNeg)), (0, vr (some a0)), (1, vi (x1)), (2, vi (x2))] [] p13 0 0
          refine J_aload_n (q := 75) C0 1 rfl rfl dX11_puts_74 rfl trivial ?_
          refine J_getR (q := 78) C0 fl_X11_75_10 rfl ((Ep13.at h0)) rfl dX11_puts_75 rfl ?_
          refine J_dup (q := 79) C0 dX11_puts_78 rfl rfl ?_
          refine K_some hf (fun b14 hb14 hf => ?_)
          have ab14 : is_A p13 b14 6 := ((sg_T.op Tp13 (j := 13) ((Ep13.at h0)) rfl)) b14 hb14
          refine J_getI (q := 82) C0 fl_X11_192_6 hb14 (ab14) rfl dX11_puts_79 rfl ?_
          refine J_iconst (q := 83) (v := 2) C0 dX11_puts_82 rfl rfl ?_
          refine J_isub (q := 84) C0 dX11_puts_83 rfl ?_
          refine J_putI (q := 87) C0 fl_X11_192_6 hb14 (ab14) rfl dX11_puts_84 rfl ?_
          refine J_aload_n (q := 88) C0 0 rfl rfl dX11_puts_87 rfl trivial ?_
          refine J_iload_n (q := 89) C0 3 rfl rfl dX11_puts_88 rfl ?_
          refine J_putI (q := 92) C0 fl_X11_212_9 hb9 (((Ep13.at ab9)).putI) rfl dX11_puts_89 rfl ?_
          refine J_aload_n (q := 93) C0 1 rfl rfl dX11_puts_92 rfl trivial ?_
          refine J_getR (q := 96) C0 fl_X11_52_10 rfl ((((Ep13.at h0)).putI).putI) rfl dX11_puts_93 rfl ?_
          refine J_iload_n (q := 97) C0 3 rfl rfl dX11_puts_96 rfl ?_
          refine K_some hf (fun b15 hb15 hf => ?_)
          have ab15 : is_A (put_I (put_I p13 b14 4 ((sg_I p13 b14 4) - (2))) b9 3 (x2)) b15 17 := ((sg_T.op ((Tp13).putI).putI (j := 8) ((((Ep13.at h0)).putI).putI) rfl)) b15 hb15
          refine K_chk hf (fun c16 hf => ?_)
          refine J_aald (q := 98) C0 hb15 (ab15) (by decide) c16 dX11_puts_97 rfl ?_
          refine K_some hf (fun b17 hb17 hf => ?_)
          have ab17 : is_A (put_I (put_I p13 b14 4 ((sg_I p13 b14 4) - (2))) b9 3 (x2)) b17 7 := ((sg_T.op ((Tp13).putI).putI (j := (x2).toNatClampNeg) (ab15) rfl)) b17 hb17
          refine K_some hf (fun p18 hp18 hf => ?_)
          refine J_callV (q := 101) (ci := 7) (as := []) (rest := []) C0 hb17 (ab17) (t_X8_size b17  (((Tp13).putI).putI) (ab17)  hp18) ml_X8_size lk_X11_166 im_X8_size se_X8_size rfl (by decide) dX11_puts_98 rfl rfl rfl (by simp [ac_]) C1.room (by decide) (by decide) (by decide) (by decide) (fun r_ τ_ hQ => ?_)
          obtain ⟨rfl, ht_⟩ := hQ; have ht_ := ht_.symm; subst ht_
          show J_ Γ 101 [(3, vr (sg_R σ b7 (x1).toNatClampNeg)), (0, vr (some a0)), (1, vi (x1)), (2, vi (x2))] [vi (p18)] (put_I (put_I p13 b14 4 ((sg_I p13 b14 4) - (2))) b9 3 (x2)) 0 0
          refine J_istore (q := 103) (lv' := [(4, vi (p18)), (3, vr (sg_R σ b7 (x1).toNatClampNeg)), (0, vr (some a0)), (1, vi (x1)), (2, vi (x2))]) C0 (G_nl C1 (by decide)) dX11_puts_101 rfl rfl ?_
          refine J_aload_n (q := 104) C0 1 rfl rfl dX11_puts_103 rfl trivial ?_
          refine J_aload_n (q := 105) C0 1 rfl rfl dX11_puts_104 rfl trivial ?_
          refine J_getI (q := 108) C0 fl_X11_157_9 hb9 ((((Ep13.at ab9)).putI).putI) rfl dX11_puts_105 rfl ?_
          refine J_iload (q := 110) C0 0 rfl dX11_puts_108 rfl ?_
          refine K_some hf (fun p19 hp19 hf => ?_)
          refine J_callS (q := 113) (as := [vi (sg_I (put_I (put_I p13 b14 4 ((sg_I p13 b14 4) - (2))) b9 3 (x2)) b9 2), vi (p18)]) (rest := [vr (sg_R σ b7 (x1).toNatClampNeg)]) C0 (t_X11_round (sg_I (put_I (put_I p13 b14 4 ((sg_I p13 b14 4) - (2))) b9 3 (x2)) b9 2) (p18)  hp19) ml_X11_round lk_X11_169 sm_X11_round dX11_puts_110 rfl rfl rfl (by simp [ac_]) C1.room (by decide) (by decide) (by decide) (by decide) (fun r_ τ_ hQ => ?_)
          obtain ⟨rfl, ht_⟩ := hQ; have ht_ := ht_.symm; subst ht_
          show J_ Γ 113 [(4, vi (p18)), (3, vr (sg_R σ b7 (x1).toNatClampNeg)), (0, vr (some a0)), (1, vi (x1)), (2, vi (x2))] [vi (p19), vr (sg_R σ b7 (x1).toNatClampNeg)] (put_I (put_I p13 b14 4 ((sg_I p13 b14 4) - (2))) b9 3 (x2)) 0 0
          refine J_putI (q := 116) C0 fl_X11_157_9 hb9 ((((Ep13.at ab9)).putI).putI) rfl dX11_puts_113 rfl ?_
          refine J_iload (q := 118) C0 0 rfl dX11_puts_116 rfl ?_
          obtain rfl := Option.some.inj hf; exact J_iret C1 dX11_puts_118 rfl (Nat.zero_le _) (Nat.zero_le _) ⟨rfl, rfl, (((Tp13).putI).putI).putI, ((((hE).tr Ep13).putI).putI).putI⟩
        · refine J_aload_n (q := 58) C0 1 rfl rfl dX11_puts_57 rfl trivial ?_
          refine J_iconst (q := 59) (v := 3) C0 dX11_puts_58 rfl rfl ?_
          refine K_some hf (fun p20 hp20 hf => ?_)
          refine J_callV (q := 62) (ci := 10) (as := [vi (3)]) (rest := []) C0 rfl (h0) (t_X11_refused a0 (3) (hT) (h0)  hp20) ml_X11_refused lk_X11_227 im_X11_refused se_X11_refused rfl (by decide) dX11_puts_59 rfl rfl rfl (by simp [ac_]) C1.room (by decide) (by decide) (by decide) (by decide) (fun r_ τ_ hQ => ?_)
          obtain ⟨rfl, rfl, Tp20, Ep20⟩ := hQ
          show J_ Γ 62 [(3, vr (sg_R σ b7 (x1).toNatClampNeg)), (0, vr (some a0)), (1, vi (x1)), (2, vi (x2))] [vi (p20.1)] p20.2 0 0
          obtain rfl := Option.some.inj hf; exact J_iret C1 dX11_puts_62 rfl (Nat.zero_le _) (Nat.zero_le _) ⟨rfl, rfl, Tp20, (hE).tr Ep20⟩
      · refine J_aload_n (q := 41) C0 1 rfl rfl dX11_puts_40 rfl trivial ?_
        refine J_iconst (q := 42) (v := 2) C0 dX11_puts_41 rfl rfl ?_
        refine K_some hf (fun p21 hp21 hf => ?_)
        refine J_callV (q := 45) (ci := 10) (as := [vi (2)]) (rest := []) C0 rfl (h0) (t_X11_refused a0 (2) (hT) (h0)  hp21) ml_X11_refused lk_X11_227 im_X11_refused se_X11_refused rfl (by decide) dX11_puts_42 rfl rfl rfl (by simp [ac_]) C1.room (by decide) (by decide) (by decide) (by decide) (fun r_ τ_ hQ => ?_)
        obtain ⟨rfl, rfl, Tp21, Ep21⟩ := hQ
        show J_ Γ 45 [(3, vr (sg_R σ b7 (x1).toNatClampNeg)), (0, vr (some a0)), (1, vi (x1)), (2, vi (x2))] [vi (p21.1)] p21.2 0 0
        obtain rfl := Option.some.inj hf; exact J_iret C1 dX11_puts_45 rfl (Nat.zero_le _) (Nat.zero_le _) ⟨rfl, rfl, Tp21, (hE).tr Ep21⟩
    · refine J_sub (lv' := [(0, vr (some a0))]) [0] rfl ?_
      exact t_X11_puts_B16 C1     σ (hT) (hE) (h0)  hf
def f_X11_oil_B24 (N : Nat) (a0 : Nat) (σ : Sg) : Option (Int32 × Sg) :=
  Option.bind (f_X11_refused a0 (1) σ) fun p4 =>
  some (p4.1, p4.2)
def f_X11_oil_B62 (N : Nat) (a0 : Nat) (σ : Sg) : Option (Int32 × Sg) :=
  Option.bind (f_X11_refused a0 (3) σ) fun p8 =>
  some (p8.1, p8.2)
def f_X11_oil (N : Nat) (a0 : Nat) (x1 : Int32) (σ : Sg) : Option (Int32 × Sg) :=
  Option.bind (f_X11_isLit a0  σ) fun p1 =>
  if (p1) = (0) then
  (Option.bind (f_X11_refused a0 (0) σ) fun p15 =>
  some (p15.1, p15.2))
  else
  (if (x1) < (1) then
  (f_X11_oil_B24 N a0  σ)
  else
  (if (30) < (x1) then
  (f_X11_oil_B24 N a0  σ)
  else
  (Option.bind (sg_R σ a0 13) fun b6 =>
  if (sg_I σ b6 4) < (((x1) + (1)) / (2)) then
  (f_X11_oil_B62 N a0  σ)
  else
  (if (999) < ((sg_I σ b6 3) + (x1)) then
  (f_X11_oil_B62 N a0  σ)
  else
  (Option.bind (sg_R σ a0 14) fun b10 =>
  Option.bind (f_X5_keep N b10 (sg_R σ a0 13) σ) fun p11 =>
  Option.bind (sg_R p11 a0 13) fun b12 =>
  Option.bind (sg_R (put_I p11 b12 4 ((sg_I p11 b12 4) - (((x1) + (1)) / (2)))) a0 13) fun b13 =>
  Option.bind (sg_R (put_I (put_I p11 b12 4 ((sg_I p11 b12 4) - (((x1) + (1)) / (2)))) b13 3 ((sg_I (put_I p11 b12 4 ((sg_I p11 b12 4) - (((x1) + (1)) / (2)))) b13 3) + (x1))) a0 13) fun b14 =>
  some (sg_I (put_I (put_I p11 b12 4 ((sg_I p11 b12 4) - (((x1) + (1)) / (2)))) b13 3 ((sg_I (put_I p11 b12 4 ((sg_I p11 b12 4) - (((x1) + (1)) / (2)))) b13 3) + (x1))) b14 3, put_I (put_I p11 b12 4 ((sg_I p11 b12 4) - (((x1) + (1)) / (2)))) b13 3 ((sg_I (put_I p11 b12 4 ((sg_I p11 b12 4) - (((x1) + (1)) / (2)))) b13 3) + (x1))))))))
set_option maxHeartbeats 4000000 in
set_option maxRecDepth 100000 in
theorem t_X11_oil_B24 {N : Nat} {a0 : Nat} {Γ : Gm} {σ0 : Sg} {r : (Int32 × Sg)} (C1 : CM Γ cX11_oil RX11 3 (some .int) 3 69 0 0 (fun r_ τ_ => (r_ = some (vi r.1)) ∧ τ_ = r.2 ∧ sg_T τ_ ∧ sg_E σ0 τ_)) (σ : Sg) (hT : sg_T σ) (hE : sg_E σ0 σ) (h0 : is_A σ a0 10) (hf : f_X11_oil_B24 N a0   σ = some r) : J_ Γ 24 [(0, vr (some a0))] [] σ 0 0 := by
  have C0 := C1.1
  unfold f_X11_oil_B24 at hf
  refine J_aload_n (q := 25) C0 0 rfl rfl dX11_oil_24 rfl trivial ?_
  refine J_iconst (q := 26) (v := 1) C0 dX11_oil_25 rfl rfl ?_
  refine K_some hf (fun p4 hp4 hf => ?_)
  refine J_callV (q := 29) (ci := 10) (as := [vi (1)]) (rest := []) C0 rfl (h0) (t_X11_refused a0 (1) (hT) (h0)  hp4) ml_X11_refused lk_X11_227 im_X11_refused se_X11_refused rfl (by decide) dX11_oil_26 rfl rfl rfl (by simp [ac_]) C1.room (by decide) (by decide) (by decide) (by decide) (fun r_ τ_ hQ => ?_)
  obtain ⟨rfl, rfl, Tp4, Ep4⟩ := hQ
  show J_ Γ 29 [(0, vr (some a0))] [vi (p4.1)] p4.2 0 0
  obtain rfl := Option.some.inj hf; exact J_iret C1 dX11_oil_29 rfl (Nat.zero_le _) (Nat.zero_le _) ⟨rfl, rfl, Tp4, (hE).tr Ep4⟩
set_option maxHeartbeats 4000000 in
set_option maxRecDepth 100000 in
theorem t_X11_oil_B62 {N : Nat} {a0 : Nat} {Γ : Gm} {σ0 : Sg} {r : (Int32 × Sg)} (C1 : CM Γ cX11_oil RX11 3 (some .int) 3 69 0 0 (fun r_ τ_ => (r_ = some (vi r.1)) ∧ τ_ = r.2 ∧ sg_T τ_ ∧ sg_E σ0 τ_)) (σ : Sg) (hT : sg_T σ) (hE : sg_E σ0 σ) (h0 : is_A σ a0 10) (hf : f_X11_oil_B62 N a0   σ = some r) : J_ Γ 62 [(0, vr (some a0))] [] σ 0 0 := by
  have C0 := C1.1
  unfold f_X11_oil_B62 at hf
  refine J_aload_n (q := 63) C0 0 rfl rfl dX11_oil_62 rfl trivial ?_
  refine J_iconst (q := 64) (v := 3) C0 dX11_oil_63 rfl rfl ?_
  refine K_some hf (fun p8 hp8 hf => ?_)
  refine J_callV (q := 67) (ci := 10) (as := [vi (3)]) (rest := []) C0 rfl (h0) (t_X11_refused a0 (3) (hT) (h0)  hp8) ml_X11_refused lk_X11_227 im_X11_refused se_X11_refused rfl (by decide) dX11_oil_64 rfl rfl rfl (by simp [ac_]) C1.room (by decide) (by decide) (by decide) (by decide) (fun r_ τ_ hQ => ?_)
  obtain ⟨rfl, rfl, Tp8, Ep8⟩ := hQ
  show J_ Γ 67 [(0, vr (some a0))] [vi (p8.1)] p8.2 0 0
  obtain rfl := Option.some.inj hf; exact J_iret C1 dX11_oil_67 rfl (Nat.zero_le _) (Nat.zero_le _) ⟨rfl, rfl, Tp8, (hE).tr Ep8⟩
set_option maxHeartbeats 4000000 in
set_option maxRecDepth 100000 in
theorem t_X11_oil (N : Nat) (a0 : Nat) (x1 : Int32) {σ : Sg} (hT : sg_T σ) (h0 : is_A σ a0 10) {r : (Int32 × Sg)} (hf : f_X11_oil N a0 x1 σ = some r) : Ct yX11_oil cX11_oil 3 (some .int) 3 69 0 0 [vr (some a0), vi x1] σ (fun r_ τ_ => (r_ = some (vi r.1)) ∧ τ_ = r.2 ∧ sg_T τ_ ∧ sg_E σ τ_) := by
  refine Ct.of (by decide +kernel) (Nat.le_of_ble_eq_true rfl) (fun Γ C1 => ?_)
  have C0 := C1.1
  have hE : sg_E σ σ := sg_E.rf
  unfold f_X11_oil at hf
  show J_ Γ 0 [(0, vr (some a0)), (1, vi (x1))] [] σ 0 0
  refine J_aload_n (q := 1) C0 0 rfl rfl dX11_oil_0 rfl trivial ?_
  refine K_some hf (fun p1 hp1 hf => ?_)
  refine J_callV (q := 4) (ci := 10) (as := []) (rest := []) C0 rfl (h0) (t_X11_isLit a0  (hT) (h0)  hp1) ml_X11_isLit lk_X11_183 im_X11_isLit se_X11_isLit rfl (by decide) dX11_oil_1 rfl rfl rfl (by simp [ac_]) C1.room (by decide) (by decide) (by decide) (by decide) (fun r_ τ_ hQ => ?_)
  obtain ⟨⟨rfl, zp1⟩, ht_⟩ := hQ; have ht_ := ht_.symm; subst ht_
  show J_ Γ 4 [(0, vr (some a0)), (1, vi (x1))] [vi (p1)] σ 0 0
  refine J_if_ne (t := 13) (q := 7) C0 dX11_oil_4 (by decide) rfl hf (fun c2 hf => ?_) (fun c2 hf => ?_)
  · refine J_iload_n (q := 14) C0 1 rfl rfl dX11_oil_13 rfl ?_
    refine J_iconst (q := 15) (v := 1) C0 dX11_oil_14 rfl rfl ?_
    refine J_icmp_lt (t := 24) (q := 18) C0 dX11_oil_15 (by decide) rfl hf (fun c3 hf => ?_) (fun c3 hf => ?_)
    · refine J_sub (lv' := [(0, vr (some a0))]) [0] rfl ?_
      exact t_X11_oil_B24 C1     σ (hT) (hE) (h0)  hf
    · refine J_iload_n (q := 19) C0 1 rfl rfl dX11_oil_18 rfl ?_
      refine J_bipush (q := 21) (v := 30) C0 dX11_oil_19 rfl rfl ?_
      refine J_icmp_le (t := 30) (q := 24) C0 dX11_oil_21 (by decide) rfl hf (fun c5 hf => ?_) (fun c5 hf => ?_)
      · refine J_iload_n (q := 31) C0 1 rfl rfl dX11_oil_30 rfl ?_
        refine J_iconst (q := 32) (v := 1) C0 dX11_oil_31 rfl rfl ?_
        refine J_iadd (q := 33) C0 dX11_oil_32 rfl ?_
        refine J_iconst (q := 34) (v := 2) C0 dX11_oil_33 rfl rfl ?_
        refine J_idiv (q := 35) C0 dX11_oil_34 rfl (by decide) ?_
        refine J_istore_n (q := 36) (lv' := [(2, vi (((x1) + (1)) / (2))), (0, vr (some a0)), (1, vi (x1))]) C0 rfl (G_nl C1 (by decide)) dX11_oil_35 rfl rfl ?_
        refine J_aload_n (q := 37) C0 1 rfl rfl dX11_oil_36 rfl trivial ?_
        refine J_getR (q := 40) C0 fl_X11_75_10 rfl (h0) rfl dX11_oil_37 rfl ?_
        refine K_some hf (fun b6 hb6 hf => ?_)
        have ab6 : is_A σ b6 6 := ((sg_T.op hT (j := 13) (h0) rfl)) b6 hb6
        refine J_getI (q := 43) C0 fl_X11_192_6 hb6 (ab6) rfl dX11_oil_40 rfl ?_
        refine J_iload_n (q := 44) C0 0 rfl rfl dX11_oil_43 rfl ?_
        refine J_icmp_lt (t := 62) (q := 47) C0 dX11_oil_44 (by decide) rfl hf (fun c7 hf => ?_) (fun c7 hf => ?_)
        · refine J_sub (lv' := [(0, vr (some a0))]) [1] rfl ?_
          exact t_X11_oil_B62 C1     σ (hT) (hE) (h0)  hf
        · refine J_aload_n (q := 48) C0 1 rfl rfl dX11_oil_47 rfl trivial ?_
          refine J_getR (q := 51) C0 fl_X11_75_10 rfl (h0) rfl dX11_oil_48 rfl ?_
          refine J_getI (q := 54) C0 fl_X11_189_6 hb6 (ab6) rfl dX11_oil_51 rfl ?_
          refine J_iload_n (q := 55) C0 2 rfl rfl dX11_oil_54 rfl ?_
          refine J_iadd (q := 56) C0 dX11_oil_55 rfl ?_
          refine J_sipush (q := 59) (v := 999) C0 dX11_oil_56 rfl rfl ?_
          refine J_icmp_le (t := 68) (q := 62) C0 dX11_oil_59 (by decide) rfl hf (fun c9 hf => ?_) (fun c9 hf => ?_)
          · refine J_aload_n (q := 69) C0 1 rfl rfl dX11_oil_68 rfl trivial ?_
            refine J_getR (q := 72) C0 fl_X11_82_10 rfl (h0) rfl dX11_oil_69 rfl ?_
            refine J_aload_n (q := 73) C0 1 rfl rfl dX11_oil_72 rfl trivial ?_
            refine J_getR (q := 76) C0 fl_X11_75_10 rfl (h0) rfl dX11_oil_73 rfl ?_
            refine K_some hf (fun b10 hb10 hf => ?_)
            have ab10 : is_A σ b10 5 := ((sg_T.op hT (j := 14) (h0) rfl)) b10 hb10
            refine K_some hf (fun p11 hp11 hf => ?_)
            refine J_callV (q := 79) (ci := 5) (as := [vr (sg_R σ a0 13)]) (rest := []) C0 hb10 (ab10) (t_X5_keep N b10 (sg_R σ a0 13) (hT) (ab10) ((by rw [hb6]; exact is_O.some (ab6))) hp11) ml_X5_keep lk_X11_233 im_X5_keep se_X5_keep rfl (by decide) dX11_oil_76 rfl rfl rfl (by simp [ac_]) C1.room (by decide) (by decide) (by decide) (by decide) (fun r_ τ_ hQ => ?_)
            obtain ⟨rfl, ht_, Tp11, Ep11⟩ := hQ; have ht_ := ht_.symm; subst ht_
            show J_ Γ 79 [(2, vi (((x1) + (1)) / (2))), (0, vr (some a0)), (1, vi (x1))] [] p11 0 0
            refine J_aload_n (q := 80) C0 1 rfl rfl dX11_oil_79 rfl trivial ?_
            refine J_getR (q := 83) C0 fl_X11_75_10 rfl ((Ep11.at h0)) rfl dX11_oil_80 rfl ?_
            refine J_dup (q := 84) C0 dX11_oil_83 rfl rfl ?_
            refine K_some hf (fun b12 hb12 hf => ?_)
            have ab12 : is_A p11 b12 6 := ((sg_T.op Tp11 (j := 13) ((Ep11.at h0)) rfl)) b12 hb12
            refine J_getI (q := 87) C0 fl_X11_192_6 hb12 (ab12) rfl dX11_oil_84 rfl ?_
            refine J_iload_n (q := 88) C0 0 rfl rfl dX11_oil_87 rfl ?_
            refine J_isub (q := 89) C0 dX11_oil_88 rfl ?_
            refine J_putI (q := 92) C0 fl_X11_192_6 hb12 (ab12) rfl dX11_oil_89 rfl ?_
            refine J_aload_n (q := 93) C0 1 rfl rfl dX11_oil_92 rfl trivial ?_
            refine J_getR (q := 96) C0 fl_X11_75_10 rfl (((Ep11.at h0)).putI) rfl dX11_oil_93 rfl ?_
            refine J_dup (q := 97) C0 dX11_oil_96 rfl rfl ?_
            refine K_some hf (fun b13 hb13 hf => ?_)
            have ab13 : is_A (put_I p11 b12 4 ((sg_I p11 b12 4) - (((x1) + (1)) / (2)))) b13 6 := ((sg_T.op (Tp11).putI (j := 13) (((Ep11.at h0)).putI) rfl)) b13 hb13
            refine J_getI (q := 100) C0 fl_X11_189_6 hb13 (ab13) rfl dX11_oil_97 rfl ?_
            refine J_iload_n (q := 101) C0 2 rfl rfl dX11_oil_100 rfl ?_
            refine J_iadd (q := 102) C0 dX11_oil_101 rfl ?_
            refine J_putI (q := 105) C0 fl_X11_189_6 hb13 (ab13) rfl dX11_oil_102 rfl ?_
            refine J_aload_n (q := 106) C0 1 rfl rfl dX11_oil_105 rfl trivial ?_
            refine J_getR (q := 109) C0 fl_X11_75_10 rfl ((((Ep11.at h0)).putI).putI) rfl dX11_oil_106 rfl ?_
            refine K_some hf (fun b14 hb14 hf => ?_)
            have ab14 : is_A (put_I (put_I p11 b12 4 ((sg_I p11 b12 4) - (((x1) + (1)) / (2)))) b13 3 ((sg_I (put_I p11 b12 4 ((sg_I p11 b12 4) - (((x1) + (1)) / (2)))) b13 3) + (x1))) b14 6 := ((sg_T.op ((Tp11).putI).putI (j := 13) ((((Ep11.at h0)).putI).putI) rfl)) b14 hb14
            refine J_getI (q := 112) C0 fl_X11_189_6 hb14 (ab14) rfl dX11_oil_109 rfl ?_
            obtain rfl := Option.some.inj hf; exact J_iret C1 dX11_oil_112 rfl (Nat.zero_le _) (Nat.zero_le _) ⟨rfl, rfl, ((Tp11).putI).putI, (((hE).tr Ep11).putI).putI⟩
          · refine J_sub (lv' := [(0, vr (some a0))]) [1] rfl ?_
            exact t_X11_oil_B62 C1     σ (hT) (hE) (h0)  hf
      · refine J_sub (lv' := [(0, vr (some a0))]) [0] rfl ?_
        exact t_X11_oil_B24 C1     σ (hT) (hE) (h0)  hf
  · refine J_aload_n (q := 8) C0 0 rfl rfl dX11_oil_7 rfl trivial ?_
    refine J_iconst (q := 9) (v := 0) C0 dX11_oil_8 rfl rfl ?_
    refine K_some hf (fun p15 hp15 hf => ?_)
    refine J_callV (q := 12) (ci := 10) (as := [vi (0)]) (rest := []) C0 rfl (h0) (t_X11_refused a0 (0) (hT) (h0)  hp15) ml_X11_refused lk_X11_227 im_X11_refused se_X11_refused rfl (by decide) dX11_oil_9 rfl rfl rfl (by simp [ac_]) C1.room (by decide) (by decide) (by decide) (by decide) (fun r_ τ_ hQ => ?_)
    obtain ⟨rfl, rfl, Tp15, Ep15⟩ := hQ
    show J_ Γ 12 [(0, vr (some a0)), (1, vi (x1))] [vi (p15.1)] p15.2 0 0
    obtain rfl := Option.some.inj hf; exact J_iret C1 dX11_oil_12 rfl (Nat.zero_le _) (Nat.zero_le _) ⟨rfl, rfl, Tp15, (hE).tr Ep15⟩
def f_X11_give_B24 (N : Nat) (a0 : Nat) (σ : Sg) : Option (Int32 × Sg) :=
  Option.bind (f_X11_refused a0 (1) σ) fun p4 =>
  some (p4.1, p4.2)
def f_X11_give (N : Nat) (a0 : Nat) (x1 : Int32) (σ : Sg) : Option (Int32 × Sg) :=
  Option.bind (f_X11_isLit a0  σ) fun p1 =>
  if (p1) = (0) then
  (Option.bind (f_X11_refused a0 (0) σ) fun p13 =>
  some (p13.1, p13.2))
  else
  (if (x1) < (1) then
  (f_X11_give_B24 N a0  σ)
  else
  (if (50) < (x1) then
  (f_X11_give_B24 N a0  σ)
  else
  (Option.bind (sg_R σ a0 13) fun b6 =>
  if (999) < ((sg_I σ b6 4) + (x1)) then
  (Option.bind (f_X11_refused a0 (3) σ) fun p12 =>
  some (p12.1, p12.2))
  else
  (Option.bind (sg_R σ a0 14) fun b8 =>
  Option.bind (f_X5_keep N b8 (sg_R σ a0 13) σ) fun p9 =>
  Option.bind (sg_R p9 a0 13) fun b10 =>
  Option.bind (sg_R (put_I p9 b10 4 ((sg_I p9 b10 4) + (x1))) a0 13) fun b11 =>
  some (sg_I (put_I p9 b10 4 ((sg_I p9 b10 4) + (x1))) b11 4, put_I p9 b10 4 ((sg_I p9 b10 4) + (x1)))))))
set_option maxHeartbeats 4000000 in
set_option maxRecDepth 100000 in
theorem t_X11_give_B24 {N : Nat} {a0 : Nat} {Γ : Gm} {σ0 : Sg} {r : (Int32 × Sg)} (C1 : CM Γ cX11_give RX11 2 (some .int) 3 69 0 0 (fun r_ τ_ => (r_ = some (vi r.1)) ∧ τ_ = r.2 ∧ sg_T τ_ ∧ sg_E σ0 τ_)) (σ : Sg) (hT : sg_T σ) (hE : sg_E σ0 σ) (h0 : is_A σ a0 10) (hf : f_X11_give_B24 N a0   σ = some r) : J_ Γ 24 [(0, vr (some a0))] [] σ 0 0 := by
  have C0 := C1.1
  unfold f_X11_give_B24 at hf
  refine J_aload_n (q := 25) C0 0 rfl rfl dX11_give_24 rfl trivial ?_
  refine J_iconst (q := 26) (v := 1) C0 dX11_give_25 rfl rfl ?_
  refine K_some hf (fun p4 hp4 hf => ?_)
  refine J_callV (q := 29) (ci := 10) (as := [vi (1)]) (rest := []) C0 rfl (h0) (t_X11_refused a0 (1) (hT) (h0)  hp4) ml_X11_refused lk_X11_227 im_X11_refused se_X11_refused rfl (by decide) dX11_give_26 rfl rfl rfl (by simp [ac_]) C1.room (by decide) (by decide) (by decide) (by decide) (fun r_ τ_ hQ => ?_)
  obtain ⟨rfl, rfl, Tp4, Ep4⟩ := hQ
  show J_ Γ 29 [(0, vr (some a0))] [vi (p4.1)] p4.2 0 0
  obtain rfl := Option.some.inj hf; exact J_iret C1 dX11_give_29 rfl (Nat.zero_le _) (Nat.zero_le _) ⟨rfl, rfl, Tp4, (hE).tr Ep4⟩
set_option maxHeartbeats 4000000 in
set_option maxRecDepth 100000 in
theorem t_X11_give (N : Nat) (a0 : Nat) (x1 : Int32) {σ : Sg} (hT : sg_T σ) (h0 : is_A σ a0 10) {r : (Int32 × Sg)} (hf : f_X11_give N a0 x1 σ = some r) : Ct yX11_give cX11_give 2 (some .int) 3 69 0 0 [vr (some a0), vi x1] σ (fun r_ τ_ => (r_ = some (vi r.1)) ∧ τ_ = r.2 ∧ sg_T τ_ ∧ sg_E σ τ_) := by
  refine Ct.of (by decide +kernel) (Nat.le_of_ble_eq_true rfl) (fun Γ C1 => ?_)
  have C0 := C1.1
  have hE : sg_E σ σ := sg_E.rf
  unfold f_X11_give at hf
  show J_ Γ 0 [(0, vr (some a0)), (1, vi (x1))] [] σ 0 0
  refine J_aload_n (q := 1) C0 0 rfl rfl dX11_give_0 rfl trivial ?_
  refine K_some hf (fun p1 hp1 hf => ?_)
  refine J_callV (q := 4) (ci := 10) (as := []) (rest := []) C0 rfl (h0) (t_X11_isLit a0  (hT) (h0)  hp1) ml_X11_isLit lk_X11_183 im_X11_isLit se_X11_isLit rfl (by decide) dX11_give_1 rfl rfl rfl (by simp [ac_]) C1.room (by decide) (by decide) (by decide) (by decide) (fun r_ τ_ hQ => ?_)
  obtain ⟨⟨rfl, zp1⟩, ht_⟩ := hQ; have ht_ := ht_.symm; subst ht_
  show J_ Γ 4 [(0, vr (some a0)), (1, vi (x1))] [vi (p1)] σ 0 0
  refine J_if_ne (t := 13) (q := 7) C0 dX11_give_4 (by decide) rfl hf (fun c2 hf => ?_) (fun c2 hf => ?_)
  · refine J_iload_n (q := 14) C0 1 rfl rfl dX11_give_13 rfl ?_
    refine J_iconst (q := 15) (v := 1) C0 dX11_give_14 rfl rfl ?_
    refine J_icmp_lt (t := 24) (q := 18) C0 dX11_give_15 (by decide) rfl hf (fun c3 hf => ?_) (fun c3 hf => ?_)
    · refine J_sub (lv' := [(0, vr (some a0))]) [0] rfl ?_
      exact t_X11_give_B24 C1     σ (hT) (hE) (h0)  hf
    · refine J_iload_n (q := 19) C0 1 rfl rfl dX11_give_18 rfl ?_
      refine J_bipush (q := 21) (v := 50) C0 dX11_give_19 rfl rfl ?_
      refine J_icmp_le (t := 30) (q := 24) C0 dX11_give_21 (by decide) rfl hf (fun c5 hf => ?_) (fun c5 hf => ?_)
      · refine J_aload_n (q := 31) C0 0 rfl rfl dX11_give_30 rfl trivial ?_
        refine J_getR (q := 34) C0 fl_X11_75_10 rfl (h0) rfl dX11_give_31 rfl ?_
        refine K_some hf (fun b6 hb6 hf => ?_)
        have ab6 : is_A σ b6 6 := ((sg_T.op hT (j := 13) (h0) rfl)) b6 hb6
        refine J_getI (q := 37) C0 fl_X11_192_6 hb6 (ab6) rfl dX11_give_34 rfl ?_
        refine J_iload_n (q := 38) C0 1 rfl rfl dX11_give_37 rfl ?_
        refine J_iadd (q := 39) C0 dX11_give_38 rfl ?_
        refine J_sipush (q := 42) (v := 999) C0 dX11_give_39 rfl rfl ?_
        refine J_icmp_le (t := 51) (q := 45) C0 dX11_give_42 (by decide) rfl hf (fun c7 hf => ?_) (fun c7 hf => ?_)
        · refine J_aload_n (q := 52) C0 0 rfl rfl dX11_give_51 rfl trivial ?_
          refine J_getR (q := 55) C0 fl_X11_82_10 rfl (h0) rfl dX11_give_52 rfl ?_
          refine J_aload_n (q := 56) C0 0 rfl rfl dX11_give_55 rfl trivial ?_
          refine J_getR (q := 59) C0 fl_X11_75_10 rfl (h0) rfl dX11_give_56 rfl ?_
          refine K_some hf (fun b8 hb8 hf => ?_)
          have ab8 : is_A σ b8 5 := ((sg_T.op hT (j := 14) (h0) rfl)) b8 hb8
          refine K_some hf (fun p9 hp9 hf => ?_)
          refine J_callV (q := 62) (ci := 5) (as := [vr (sg_R σ a0 13)]) (rest := []) C0 hb8 (ab8) (t_X5_keep N b8 (sg_R σ a0 13) (hT) (ab8) ((by rw [hb6]; exact is_O.some (ab6))) hp9) ml_X5_keep lk_X11_233 im_X5_keep se_X5_keep rfl (by decide) dX11_give_59 rfl rfl rfl (by simp [ac_]) C1.room (by decide) (by decide) (by decide) (by decide) (fun r_ τ_ hQ => ?_)
          obtain ⟨rfl, ht_, Tp9, Ep9⟩ := hQ; have ht_ := ht_.symm; subst ht_
          show J_ Γ 62 [(0, vr (some a0)), (1, vi (x1))] [] p9 0 0
          refine J_aload_n (q := 63) C0 0 rfl rfl dX11_give_62 rfl trivial ?_
          refine J_getR (q := 66) C0 fl_X11_75_10 rfl ((Ep9.at h0)) rfl dX11_give_63 rfl ?_
          refine J_dup (q := 67) C0 dX11_give_66 rfl rfl ?_
          refine K_some hf (fun b10 hb10 hf => ?_)
          have ab10 : is_A p9 b10 6 := ((sg_T.op Tp9 (j := 13) ((Ep9.at h0)) rfl)) b10 hb10
          refine J_getI (q := 70) C0 fl_X11_192_6 hb10 (ab10) rfl dX11_give_67 rfl ?_
          refine J_iload_n (q := 71) C0 1 rfl rfl dX11_give_70 rfl ?_
          refine J_iadd (q := 72) C0 dX11_give_71 rfl ?_
          refine J_putI (q := 75) C0 fl_X11_192_6 hb10 (ab10) rfl dX11_give_72 rfl ?_
          refine J_aload_n (q := 76) C0 0 rfl rfl dX11_give_75 rfl trivial ?_
          refine J_getR (q := 79) C0 fl_X11_75_10 rfl (((Ep9.at h0)).putI) rfl dX11_give_76 rfl ?_
          refine K_some hf (fun b11 hb11 hf => ?_)
          have ab11 : is_A (put_I p9 b10 4 ((sg_I p9 b10 4) + (x1))) b11 6 := ((sg_T.op (Tp9).putI (j := 13) (((Ep9.at h0)).putI) rfl)) b11 hb11
          refine J_getI (q := 82) C0 fl_X11_192_6 hb11 (ab11) rfl dX11_give_79 rfl ?_
          obtain rfl := Option.some.inj hf; exact J_iret C1 dX11_give_82 rfl (Nat.zero_le _) (Nat.zero_le _) ⟨rfl, rfl, (Tp9).putI, ((hE).tr Ep9).putI⟩
        · refine J_aload_n (q := 46) C0 0 rfl rfl dX11_give_45 rfl trivial ?_
          refine J_iconst (q := 47) (v := 3) C0 dX11_give_46 rfl rfl ?_
          refine K_some hf (fun p12 hp12 hf => ?_)
          refine J_callV (q := 50) (ci := 10) (as := [vi (3)]) (rest := []) C0 rfl (h0) (t_X11_refused a0 (3) (hT) (h0)  hp12) ml_X11_refused lk_X11_227 im_X11_refused se_X11_refused rfl (by decide) dX11_give_47 rfl rfl rfl (by simp [ac_]) C1.room (by decide) (by decide) (by decide) (by decide) (fun r_ τ_ hQ => ?_)
          obtain ⟨rfl, rfl, Tp12, Ep12⟩ := hQ
          show J_ Γ 50 [(0, vr (some a0)), (1, vi (x1))] [vi (p12.1)] p12.2 0 0
          obtain rfl := Option.some.inj hf; exact J_iret C1 dX11_give_50 rfl (Nat.zero_le _) (Nat.zero_le _) ⟨rfl, rfl, Tp12, (hE).tr Ep12⟩
      · refine J_sub (lv' := [(0, vr (some a0))]) [0] rfl ?_
        exact t_X11_give_B24 C1     σ (hT) (hE) (h0)  hf
  · refine J_aload_n (q := 8) C0 0 rfl rfl dX11_give_7 rfl trivial ?_
    refine J_iconst (q := 9) (v := 0) C0 dX11_give_8 rfl rfl ?_
    refine K_some hf (fun p13 hp13 hf => ?_)
    refine J_callV (q := 12) (ci := 10) (as := [vi (0)]) (rest := []) C0 rfl (h0) (t_X11_refused a0 (0) (hT) (h0)  hp13) ml_X11_refused lk_X11_227 im_X11_refused se_X11_refused rfl (by decide) dX11_give_9 rfl rfl rfl (by simp [ac_]) C1.room (by decide) (by decide) (by decide) (by decide) (fun r_ τ_ hQ => ?_)
    obtain ⟨rfl, rfl, Tp13, Ep13⟩ := hQ
    show J_ Γ 12 [(0, vr (some a0)), (1, vi (x1))] [vi (p13.1)] p13.2 0 0
    obtain rfl := Option.some.inj hf; exact J_iret C1 dX11_give_12 rfl (Nat.zero_le _) (Nat.zero_le _) ⟨rfl, rfl, Tp13, (hE).tr Ep13⟩
def f_X11_draw (a0 : Nat) (x1 : Int32) (σ : Sg) : Option (Int32 × Sg) :=
  if (x1) < (1) then
  (some (0, put_J σ a0 19 (((sg_J σ a0 19) * (6364136223846793005)) + (1442695040888963407))))
  else
  (if ((x1).toInt64) = 0 then none else
  some ((rm_L (((sg_J (put_J σ a0 19 (((sg_J σ a0 19) * (6364136223846793005)) + (1442695040888963407))) a0 19).toUInt64 >>> ((33 : Int32).toInt64.toUInt64 &&& Int64.toUInt64 63)).toInt64) ((x1).toInt64)).toInt32, put_J σ a0 19 (((sg_J σ a0 19) * (6364136223846793005)) + (1442695040888963407))))
set_option maxHeartbeats 4000000 in
set_option maxRecDepth 100000 in
theorem t_X11_draw (a0 : Nat) (x1 : Int32) {σ : Sg} (hT : sg_T σ) (h0 : is_A σ a0 10) {r : (Int32 × Sg)} (hf : f_X11_draw a0 x1 σ = some r) : Ct yX11_draw cX11_draw 2 (some .int) 0 0 0 0 [vr (some a0), vi x1] σ (fun r_ τ_ => (r_ = some (vi r.1)) ∧ τ_ = r.2 ∧ sg_T τ_ ∧ sg_E σ τ_) := by
  refine Ct.of (by decide +kernel) (Nat.le_of_ble_eq_true rfl) (fun Γ C1 => ?_)
  have C0 := C1.1
  have hE : sg_E σ σ := sg_E.rf
  unfold f_X11_draw at hf
  show J_ Γ 0 [(0, vr (some a0)), (1, vi (x1))] [] σ 0 0
  refine J_aload_n (q := 1) C0 0 rfl rfl dX11_draw_0 rfl trivial ?_
  refine J_aload_n (q := 2) C0 0 rfl rfl dX11_draw_1 rfl trivial ?_
  refine J_getJ (q := 5) C0 fl_X11_106_10 rfl (h0) rfl dX11_draw_2 rfl ?_
  refine J_ldc2_w (q := 8) C0 kc_X11_276 dX11_draw_5 rfl ?_
  refine J_lmul (q := 9) C0 dX11_draw_8 rfl ?_
  refine J_ldc2_w (q := 12) C0 kc_X11_278 dX11_draw_9 rfl ?_
  refine J_ladd (q := 13) C0 dX11_draw_12 rfl ?_
  refine J_putJ (q := 16) C0 fl_X11_106_10 rfl (h0) rfl dX11_draw_13 rfl ?_
  refine J_iload_n (q := 17) C0 1 rfl rfl dX11_draw_16 rfl ?_
  refine J_iconst (q := 18) (v := 1) C0 dX11_draw_17 rfl rfl ?_
  refine J_icmp_ge (t := 25) (q := 21) C0 dX11_draw_18 (by decide) rfl hf (fun c1 hf => ?_) (fun c1 hf => ?_)
  · refine J_aload_n (q := 26) C0 0 rfl rfl dX11_draw_25 rfl trivial ?_
    refine J_getJ (q := 29) C0 fl_X11_106_10 rfl ((h0).putJ) rfl dX11_draw_26 rfl ?_
    refine J_bipush (q := 31) (v := 33) C0 dX11_draw_29 rfl rfl ?_
    refine J_lushr (q := 32) (v := ((sg_J (put_J σ a0 19 (((sg_J σ a0 19) * (6364136223846793005)) + (1442695040888963407))) a0 19).toUInt64 >>> ((33 : Int32).toInt64.toUInt64 &&& Int64.toUInt64 63)).toInt64) C0 dX11_draw_31 rfl rfl ?_
    refine J_iload_n (q := 33) C0 1 rfl rfl dX11_draw_32 rfl ?_
    refine J_i2l (q := 34) C0 dX11_draw_33 rfl ?_
    refine K_chk hf (fun c2 hf => ?_)
    refine J_lrem (q := 35) C0 dX11_draw_34 rfl c2 ?_
    refine J_l2i (q := 36) C0 dX11_draw_35 rfl ?_
    obtain rfl := Option.some.inj hf; exact J_iret C1 dX11_draw_36 rfl (Nat.zero_le _) (Nat.zero_le _) ⟨rfl, rfl, (hT).putJ, (hE).putJ⟩
  · refine J_iconst (q := 22) (v := 0) C0 dX11_draw_21 rfl rfl ?_
    refine J_goto (q := 36) C0 dX11_draw_22 (by decide) ?_
    obtain rfl := Option.some.inj hf; exact J_iret C1 dX11_draw_36 rfl (Nat.zero_le _) (Nat.zero_le _) ⟨rfl, rfl, (hT).putJ, (hE).putJ⟩
def f_X11_meddle_B106 (a0 : Nat) (σ : Sg) : Option Sg :=
  Option.bind (sg_R σ a0 13) fun b5 =>
  Option.bind (f_J9_min_7cf53 (999) ((sg_I σ b5 3) + (1)) ) fun p6 =>
  some (put_I σ b5 3 (p6))
def f_X11_meddle_B56 (a0 : Nat) (σ : Sg) : Option Sg :=
  Option.bind (f_X11_draw a0 (10) σ) fun p3 =>
  if (p3.1) < (2) then
  (Option.bind (sg_R p3.2 a0 13) fun b7 =>
  Option.bind (f_X11_draw a0 (sg_I p3.2 b7 1) p3.2) fun p8 =>
  Option.bind (f_X11_draw a0 (10) p8.2) fun p9 =>
  Option.bind (f_X11_isWheel a0 (p8.1) p9.2) fun p10 =>
  if (p10) = (0) then
  (f_X11_meddle_B106 a0  (p9.2))
  else
  (Option.bind (sg_R p9.2 a0 13) fun b12 =>
  Option.bind (sg_R p9.2 b12 0) fun b13 =>
  if (p8.1) < 0 ∨ sg_L p9.2 b13 ≤ (p8.1).toNatClampNeg then none else
  Option.bind (sg_R p9.2 b13 (p8.1).toNatClampNeg) fun b15 =>
  f_X11_meddle_B106 a0  (put_I p9.2 b15 0 (p9.1))))
  else
  (f_X11_meddle_B106 a0  (p3.2))
def f_X11_meddle (a0 : Nat) (σ : Sg) : Option Sg :=
  Option.bind (f_X11_draw a0 (10) σ) fun p1 =>
  if (p1.1) < (sg_I p1.2 a0 11) then
  (Option.bind (sg_R p1.2 a0 13) fun b16 =>
  Option.bind (f_X11_draw a0 (sg_I p1.2 b16 1) p1.2) fun p17 =>
  Option.bind (f_X11_draw a0 (9) p17.2) fun p18 =>
  Option.bind (f_X11_isWheel a0 (p17.1) p18.2) fun p19 =>
  if (p19) = (0) then
  (f_X11_meddle_B56 a0  (p18.2))
  else
  (Option.bind (sg_R p18.2 a0 13) fun b21 =>
  Option.bind (sg_R p18.2 b21 0) fun b22 =>
  if (p17.1) < 0 ∨ sg_L p18.2 b22 ≤ (p17.1).toNatClampNeg then none else
  Option.bind (f_X11_shove a0 (sg_R p18.2 b22 (p17.1).toNatClampNeg) ((p18.1) + (1)) p18.2) fun p24 =>
  f_X11_meddle_B56 a0  (p24)))
  else
  (f_X11_meddle_B56 a0  (p1.2))
set_option maxHeartbeats 4000000 in
set_option maxRecDepth 100000 in
theorem t_X11_meddle_B106 {a0 : Nat} {Γ : Gm} {σ0 : Sg} {r : Sg} (C1 : CM Γ cX11_meddle RX11 3 none 3 65 0 0 (fun r_ τ_ => (r_ = none) ∧ τ_ = r ∧ sg_T τ_ ∧ sg_E σ0 τ_)) (σ : Sg) (hT : sg_T σ) (hE : sg_E σ0 σ) (h0 : is_A σ a0 10) (hf : f_X11_meddle_B106 a0   σ = some r) : J_ Γ 106 [(0, vr (some a0))] [] σ 0 0 := by
  have C0 := C1.1
  unfold f_X11_meddle_B106 at hf
  refine J_aload_n (q := 107) C0 0 rfl rfl dX11_meddle_106 rfl trivial ?_
  refine J_getR (q := 110) C0 fl_X11_75_10 rfl (h0) rfl dX11_meddle_107 rfl ?_
  refine J_sipush (q := 113) (v := 999) C0 dX11_meddle_110 rfl rfl ?_
  refine J_aload_n (q := 114) C0 0 rfl rfl dX11_meddle_113 rfl trivial ?_
  refine J_getR (q := 117) C0 fl_X11_75_10 rfl (h0) rfl dX11_meddle_114 rfl ?_
  refine K_some hf (fun b5 hb5 hf => ?_)
  have ab5 : is_A σ b5 6 := ((sg_T.op hT (j := 13) (h0) rfl)) b5 hb5
  refine J_getI (q := 120) C0 fl_X11_189_6 hb5 (ab5) rfl dX11_meddle_117 rfl ?_
  refine J_iconst (q := 121) (v := 1) C0 dX11_meddle_120 rfl rfl ?_
  refine J_iadd (q := 122) C0 dX11_meddle_121 rfl ?_
  refine K_some hf (fun p6 hp6 hf => ?_)
  refine J_callS (q := 125) (as := [vi (999), vi ((sg_I σ b5 3) + (1))]) (rest := [vr (sg_R σ a0 13)]) C0 (t_J9_min_7cf53 (999) ((sg_I σ b5 3) + (1))  hp6) ml_J9_min_7cf53 lk_X11_271 sm_J9_min_7cf53 dX11_meddle_122 rfl rfl rfl (by simp [ac_]) C1.room (by decide) (by decide) (by decide) (by decide) (fun r_ τ_ hQ => ?_)
  obtain ⟨rfl, ht_⟩ := hQ; have ht_ := ht_.symm; subst ht_
  show J_ Γ 125 [(0, vr (some a0))] [vi (p6), vr (sg_R σ a0 13)] σ 0 0
  refine J_putI (q := 128) C0 fl_X11_189_6 hb5 (ab5) rfl dX11_meddle_125 rfl ?_
  obtain rfl := Option.some.inj hf; exact J_vret C1 dX11_meddle_128 rfl (Nat.zero_le _) (Nat.zero_le _) ⟨rfl, rfl, (hT).putI, (hE).putI⟩
set_option maxHeartbeats 4000000 in
set_option maxRecDepth 100000 in
theorem t_X11_meddle_B56 {a0 : Nat} {Γ : Gm} {σ0 : Sg} {r : Sg} (C1 : CM Γ cX11_meddle RX11 3 none 3 65 0 0 (fun r_ τ_ => (r_ = none) ∧ τ_ = r ∧ sg_T τ_ ∧ sg_E σ0 τ_)) (σ : Sg) (hT : sg_T σ) (hE : sg_E σ0 σ) (h0 : is_A σ a0 10) (hf : f_X11_meddle_B56 a0   σ = some r) : J_ Γ 56 [(0, vr (some a0))] [] σ 0 0 := by
  have C0 := C1.1
  unfold f_X11_meddle_B56 at hf
  refine J_aload_n (q := 57) C0 0 rfl rfl dX11_meddle_56 rfl trivial ?_
  refine J_bipush (q := 59) (v := 10) C0 dX11_meddle_57 rfl rfl ?_
  refine K_some hf (fun p3 hp3 hf => ?_)
  refine J_callV (q := 62) (ci := 10) (as := [vi (10)]) (rest := []) C0 rfl (h0) (t_X11_draw a0 (10) (hT) (h0)  hp3) ml_X11_draw lk_X11_268 im_X11_draw se_X11_draw rfl (by decide) dX11_meddle_59 rfl rfl rfl (by simp [ac_]) C1.room (by decide) (by decide) (by decide) (by decide) (fun r_ τ_ hQ => ?_)
  obtain ⟨rfl, rfl, Tp3, Ep3⟩ := hQ
  show J_ Γ 62 [(0, vr (some a0))] [vi (p3.1)] p3.2 0 0
  refine J_iconst (q := 63) (v := 2) C0 dX11_meddle_62 rfl rfl ?_
  refine J_icmp_ge (t := 106) (q := 66) C0 dX11_meddle_63 (by decide) rfl hf (fun c4 hf => ?_) (fun c4 hf => ?_)
  · exact t_X11_meddle_B106 C1     (p3.2) (Tp3) ((hE).tr Ep3) ((Ep3.at h0))  hf
  · refine J_aload_n (q := 67) C0 0 rfl rfl dX11_meddle_66 rfl trivial ?_
    refine J_aload_n (q := 68) C0 0 rfl rfl dX11_meddle_67 rfl trivial ?_
    refine J_getR (q := 71) C0 fl_X11_75_10 rfl ((Ep3.at h0)) rfl dX11_meddle_68 rfl ?_
    refine K_some hf (fun b7 hb7 hf => ?_)
    have ab7 : is_A p3.2 b7 6 := ((sg_T.op Tp3 (j := 13) ((Ep3.at h0)) rfl)) b7 hb7
    refine J_getI (q := 74) C0 fl_X11_150_6 hb7 (ab7) rfl dX11_meddle_71 rfl ?_
    refine K_some hf (fun p8 hp8 hf => ?_)
    refine J_callV (q := 77) (ci := 10) (as := [vi (sg_I p3.2 b7 1)]) (rest := []) C0 rfl ((Ep3.at h0)) (t_X11_draw a0 (sg_I p3.2 b7 1) (Tp3) ((Ep3.at h0))  hp8) ml_X11_draw lk_X11_268 im_X11_draw se_X11_draw rfl (by decide) dX11_meddle_74 rfl rfl rfl (by simp [ac_]) C1.room (by decide) (by decide) (by decide) (by decide) (fun r_ τ_ hQ => ?_)
    obtain ⟨rfl, rfl, Tp8, Ep8⟩ := hQ
    show J_ Γ 77 [(0, vr (some a0))] [vi (p8.1)] p8.2 0 0
    refine J_istore_n (q := 78) (lv' := [(1, vi (p8.1)), (0, vr (some a0))]) C0 rfl (G_nl C1 (by decide)) dX11_meddle_77 rfl rfl ?_
    refine J_aload_n (q := 79) C0 1 rfl rfl dX11_meddle_78 rfl trivial ?_
    refine J_bipush (q := 81) (v := 10) C0 dX11_meddle_79 rfl rfl ?_
    refine K_some hf (fun p9 hp9 hf => ?_)
    refine J_callV (q := 84) (ci := 10) (as := [vi (10)]) (rest := []) C0 rfl ((Ep8.at (Ep3.at h0))) (t_X11_draw a0 (10) (Tp8) ((Ep8.at (Ep3.at h0)))  hp9) ml_X11_draw lk_X11_268 im_X11_draw se_X11_draw rfl (by decide) dX11_meddle_81 rfl rfl rfl (by simp [ac_]) C1.room (by decide) (by decide) (by decide) (by decide) (fun r_ τ_ hQ => ?_)
    obtain ⟨rfl, rfl, Tp9, Ep9⟩ := hQ
    show J_ Γ 84 [(1, vi (p8.1)), (0, vr (some a0))] [vi (p9.1)] p9.2 0 0
    refine J_istore_n (q := 85) (lv' := [(2, vi (p9.1)), (1, vi (p8.1)), (0, vr (some a0))]) C0 rfl (G_nl C1 (by decide)) dX11_meddle_84 rfl rfl ?_
    refine J_aload_n (q := 86) C0 2 rfl rfl dX11_meddle_85 rfl trivial ?_
    refine J_iload_n (q := 87) C0 1 rfl rfl dX11_meddle_86 rfl ?_
    refine K_some hf (fun p10 hp10 hf => ?_)
    refine J_callV (q := 90) (ci := 10) (as := [vi (p8.1)]) (rest := []) C0 rfl ((Ep9.at (Ep8.at (Ep3.at h0)))) (t_X11_isWheel a0 (p8.1) (Tp9) ((Ep9.at (Ep8.at (Ep3.at h0))))  hp10) ml_X11_isWheel lk_X11_195 im_X11_isWheel se_X11_isWheel rfl (by decide) dX11_meddle_87 rfl rfl rfl (by simp [ac_]) C1.room (by decide) (by decide) (by decide) (by decide) (fun r_ τ_ hQ => ?_)
    obtain ⟨⟨rfl, zp10⟩, ht_⟩ := hQ; have ht_ := ht_.symm; subst ht_
    show J_ Γ 90 [(2, vi (p9.1)), (1, vi (p8.1)), (0, vr (some a0))] [vi (p10)] p9.2 0 0
    refine J_if_eq (t := 106) (q := 93) C0 dX11_meddle_90 (by decide) rfl hf (fun c11 hf => ?_) (fun c11 hf => ?_)
    · refine J_sub (lv' := [(0, vr (some a0))]) [2] rfl ?_
      exact t_X11_meddle_B106 C1     (p9.2) (Tp9) ((((hE).tr Ep3).tr Ep8).tr Ep9) ((Ep9.at (Ep8.at (Ep3.at h0))))  hf
    · refine J_aload_n (q := 94) C0 2 rfl rfl dX11_meddle_93 rfl trivial ?_
      refine J_getR (q := 97) C0 fl_X11_75_10 rfl ((Ep9.at (Ep8.at (Ep3.at h0)))) rfl dX11_meddle_94 rfl ?_
      refine K_some hf (fun b12 hb12 hf => ?_)
      have ab12 : is_A p9.2 b12 6 := ((sg_T.op Tp9 (j := 13) ((Ep9.at (Ep8.at (Ep3.at h0)))) rfl)) b12 hb12
      refine J_getR (q := 100) C0 fl_X11_153_6 hb12 (ab12) rfl dX11_meddle_97 rfl ?_
      refine J_iload_n (q := 101) C0 1 rfl rfl dX11_meddle_100 rfl ?_
      refine K_some hf (fun b13 hb13 hf => ?_)
      have ab13 : is_A p9.2 b13 18 := ((sg_T.op Tp9 (j := 0) (ab12) rfl)) b13 hb13
      refine K_chk hf (fun c14 hf => ?_)
      refine J_aald (q := 102) C0 hb13 (ab13) (by decide) c14 dX11_meddle_101 rfl ?_
      refine J_iload_n (q := 103) C0 0 rfl rfl dX11_meddle_102 rfl ?_
      refine K_some hf (fun b15 hb15 hf => ?_)
      have ab15 : is_A p9.2 b15 9 := ((sg_T.op Tp9 (j := (p8.1).toNatClampNeg) (ab13) rfl)) b15 hb15
      refine J_putI (q := 106) C0 fl_X11_206_9 hb15 (ab15) rfl dX11_meddle_103 rfl ?_
      refine J_sub (lv' := [(0, vr (some a0))]) [2] rfl ?_
      exact t_X11_meddle_B106 C1     (put_I p9.2 b15 0 (p9.1)) ((Tp9).putI) (((((hE).tr Ep3).tr Ep8).tr Ep9).putI) (((Ep9.at (Ep8.at (Ep3.at h0)))).putI)  hf
set_option maxHeartbeats 4000000 in
set_option maxRecDepth 100000 in
theorem t_X11_meddle (a0 : Nat) {σ : Sg} (hT : sg_T σ) (h0 : is_A σ a0 10) {r : Sg} (hf : f_X11_meddle a0  σ = some r) : Ct yX11_meddle cX11_meddle 3 none 3 65 0 0 [vr (some a0)] σ (fun r_ τ_ => (r_ = none) ∧ τ_ = r ∧ sg_T τ_ ∧ sg_E σ τ_) := by
  refine Ct.of (by decide +kernel) (Nat.le_of_ble_eq_true rfl) (fun Γ C1 => ?_)
  have C0 := C1.1
  have hE : sg_E σ σ := sg_E.rf
  unfold f_X11_meddle at hf
  show J_ Γ 0 [(0, vr (some a0))] [] σ 0 0
  refine J_aload_n (q := 1) C0 0 rfl rfl dX11_meddle_0 rfl trivial ?_
  refine J_bipush (q := 3) (v := 10) C0 dX11_meddle_1 rfl rfl ?_
  refine K_some hf (fun p1 hp1 hf => ?_)
  refine J_callV (q := 6) (ci := 10) (as := [vi (10)]) (rest := []) C0 rfl (h0) (t_X11_draw a0 (10) (hT) (h0)  hp1) ml_X11_draw lk_X11_268 im_X11_draw se_X11_draw rfl (by decide) dX11_meddle_3 rfl rfl rfl (by simp [ac_]) C1.room (by decide) (by decide) (by decide) (by decide) (fun r_ τ_ hQ => ?_)
  obtain ⟨rfl, rfl, Tp1, Ep1⟩ := hQ
  show J_ Γ 6 [(0, vr (some a0))] [vi (p1.1)] p1.2 0 0
  refine J_aload_n (q := 7) C0 0 rfl rfl dX11_meddle_6 rfl trivial ?_
  refine J_getI (q := 10) C0 fl_X11_66_10 rfl ((Ep1.at h0)) rfl dX11_meddle_7 rfl ?_
  refine J_icmp_ge (t := 56) (q := 13) C0 dX11_meddle_10 (by decide) rfl hf (fun c2 hf => ?_) (fun c2 hf => ?_)
  · exact t_X11_meddle_B56 C1     (p1.2) (Tp1) ((hE).tr Ep1) ((Ep1.at h0))  hf
  · refine J_aload_n (q := 14) C0 0 rfl rfl dX11_meddle_13 rfl trivial ?_
    refine J_aload_n (q := 15) C0 0 rfl rfl dX11_meddle_14 rfl trivial ?_
    refine J_getR (q := 18) C0 fl_X11_75_10 rfl ((Ep1.at h0)) rfl dX11_meddle_15 rfl ?_
    refine K_some hf (fun b16 hb16 hf => ?_)
    have ab16 : is_A p1.2 b16 6 := ((sg_T.op Tp1 (j := 13) ((Ep1.at h0)) rfl)) b16 hb16
    refine J_getI (q := 21) C0 fl_X11_150_6 hb16 (ab16) rfl dX11_meddle_18 rfl ?_
    refine K_some hf (fun p17 hp17 hf => ?_)
    refine J_callV (q := 24) (ci := 10) (as := [vi (sg_I p1.2 b16 1)]) (rest := []) C0 rfl ((Ep1.at h0)) (t_X11_draw a0 (sg_I p1.2 b16 1) (Tp1) ((Ep1.at h0))  hp17) ml_X11_draw lk_X11_268 im_X11_draw se_X11_draw rfl (by decide) dX11_meddle_21 rfl rfl rfl (by simp [ac_]) C1.room (by decide) (by decide) (by decide) (by decide) (fun r_ τ_ hQ => ?_)
    obtain ⟨rfl, rfl, Tp17, Ep17⟩ := hQ
    show J_ Γ 24 [(0, vr (some a0))] [vi (p17.1)] p17.2 0 0
    refine J_istore_n (q := 25) (lv' := [(1, vi (p17.1)), (0, vr (some a0))]) C0 rfl (G_nl C1 (by decide)) dX11_meddle_24 rfl rfl ?_
    refine J_aload_n (q := 26) C0 1 rfl rfl dX11_meddle_25 rfl trivial ?_
    refine J_bipush (q := 28) (v := 9) C0 dX11_meddle_26 rfl rfl ?_
    refine K_some hf (fun p18 hp18 hf => ?_)
    refine J_callV (q := 31) (ci := 10) (as := [vi (9)]) (rest := []) C0 rfl ((Ep17.at (Ep1.at h0))) (t_X11_draw a0 (9) (Tp17) ((Ep17.at (Ep1.at h0)))  hp18) ml_X11_draw lk_X11_268 im_X11_draw se_X11_draw rfl (by decide) dX11_meddle_28 rfl rfl rfl (by simp [ac_]) C1.room (by decide) (by decide) (by decide) (by decide) (fun r_ τ_ hQ => ?_)
    obtain ⟨rfl, rfl, Tp18, Ep18⟩ := hQ
    show J_ Γ 31 [(1, vi (p17.1)), (0, vr (some a0))] [vi (p18.1)] p18.2 0 0
    refine J_iconst (q := 32) (v := 1) C0 dX11_meddle_31 rfl rfl ?_
    refine J_iadd (q := 33) C0 dX11_meddle_32 rfl ?_
    refine J_istore_n (q := 34) (lv' := [(2, vi ((p18.1) + (1))), (1, vi (p17.1)), (0, vr (some a0))]) C0 rfl (G_nl C1 (by decide)) dX11_meddle_33 rfl rfl ?_
    refine J_aload_n (q := 35) C0 2 rfl rfl dX11_meddle_34 rfl trivial ?_
    refine J_iload_n (q := 36) C0 1 rfl rfl dX11_meddle_35 rfl ?_
    refine K_some hf (fun p19 hp19 hf => ?_)
    refine J_callV (q := 39) (ci := 10) (as := [vi (p17.1)]) (rest := []) C0 rfl ((Ep18.at (Ep17.at (Ep1.at h0)))) (t_X11_isWheel a0 (p17.1) (Tp18) ((Ep18.at (Ep17.at (Ep1.at h0))))  hp19) ml_X11_isWheel lk_X11_195 im_X11_isWheel se_X11_isWheel rfl (by decide) dX11_meddle_36 rfl rfl rfl (by simp [ac_]) C1.room (by decide) (by decide) (by decide) (by decide) (fun r_ τ_ hQ => ?_)
    obtain ⟨⟨rfl, zp19⟩, ht_⟩ := hQ; have ht_ := ht_.symm; subst ht_
    show J_ Γ 39 [(2, vi ((p18.1) + (1))), (1, vi (p17.1)), (0, vr (some a0))] [vi (p19)] p18.2 0 0
    refine J_if_eq (t := 56) (q := 42) C0 dX11_meddle_39 (by decide) rfl hf (fun c20 hf => ?_) (fun c20 hf => ?_)
    · refine J_sub (lv' := [(0, vr (some a0))]) [2] rfl ?_
      exact t_X11_meddle_B56 C1     (p18.2) (Tp18) ((((hE).tr Ep1).tr Ep17).tr Ep18) ((Ep18.at (Ep17.at (Ep1.at h0))))  hf
    · refine J_aload_n (q := 43) C0 2 rfl rfl dX11_meddle_42 rfl trivial ?_
      refine J_aload_n (q := 44) C0 2 rfl rfl dX11_meddle_43 rfl trivial ?_
      refine J_getR (q := 47) C0 fl_X11_75_10 rfl ((Ep18.at (Ep17.at (Ep1.at h0)))) rfl dX11_meddle_44 rfl ?_
      refine K_some hf (fun b21 hb21 hf => ?_)
      have ab21 : is_A p18.2 b21 6 := ((sg_T.op Tp18 (j := 13) ((Ep18.at (Ep17.at (Ep1.at h0)))) rfl)) b21 hb21
      refine J_getR (q := 50) C0 fl_X11_153_6 hb21 (ab21) rfl dX11_meddle_47 rfl ?_
      refine J_iload_n (q := 51) C0 1 rfl rfl dX11_meddle_50 rfl ?_
      refine K_some hf (fun b22 hb22 hf => ?_)
      have ab22 : is_A p18.2 b22 18 := ((sg_T.op Tp18 (j := 0) (ab21) rfl)) b22 hb22
      refine K_chk hf (fun c23 hf => ?_)
      refine J_aald (q := 52) C0 hb22 (ab22) (by decide) c23 dX11_meddle_51 rfl ?_
      refine J_iload_n (q := 53) C0 0 rfl rfl dX11_meddle_52 rfl ?_
      refine K_some hf (fun p24 hp24 hf => ?_)
      refine J_callV (q := 56) (ci := 10) (as := [vr (sg_R p18.2 b22 (p17.1).toNatClampNeg), vi ((p18.1) + (1))]) (rest := []) C0 rfl ((Ep18.at (Ep17.at (Ep1.at h0)))) (t_X11_shove a0 (sg_R p18.2 b22 (p17.1).toNatClampNeg) ((p18.1) + (1)) (Tp18) ((Ep18.at (Ep17.at (Ep1.at h0)))) ((sg_T.op Tp18 (j := (p17.1).toNatClampNeg) (ab22) rfl)) hp24) ml_X11_shove lk_X11_239 im_X11_shove se_X11_shove rfl (by decide) dX11_meddle_53 rfl rfl rfl (by simp [ac_]) C1.room (by decide) (by decide) (by decide) (by decide) (fun r_ τ_ hQ => ?_)
      obtain ⟨rfl, ht_, Tp24, Ep24⟩ := hQ; have ht_ := ht_.symm; subst ht_
      show J_ Γ 56 [(2, vi ((p18.1) + (1))), (1, vi (p17.1)), (0, vr (some a0))] [] p24 0 0
      refine J_sub (lv' := [(0, vr (some a0))]) [2] rfl ?_
      exact t_X11_meddle_B56 C1     (p24) (Tp24) (((((hE).tr Ep1).tr Ep17).tr Ep18).tr Ep24) ((Ep24.at (Ep18.at (Ep17.at (Ep1.at h0)))))  hf
def f_X11_years_L43 (N : Nat) (a0 : Nat) : Nat → Int32 → Int32 → Sg → Option (Int32 × Sg)
  | 0, _, _, _ => none
  | n + 1, v1, v4, σ =>
  if (v4) < (v1) then
  (Option.bind (sg_R σ a0 14) fun b9 =>
  Option.bind (f_X5_keep N b9 (sg_R σ a0 13) σ) fun p10 =>
  Option.bind (f_X11_meddle a0  p10) fun p11 =>
  Option.bind (f_X11_tickOnce N a0  p11) fun p12 =>
  f_X11_years_L43 N a0 n (v1) (v4 + 1) (p12))
  else
  (Option.bind (sg_R σ a0 13) fun b8 =>
  some (sg_I σ b8 5, σ))
def f_X11_years (N : Nat) (a0 : Nat) (x1 : Int32) (x2 : Int64) (σ : Sg) : Option (Int32 × Sg) :=
  Option.bind (f_X11_isLit a0  σ) fun p1 =>
  if (p1) = (0) then
  (some ((-1), σ))
  else
  (if (x1) < (1) then
  (some ((-1), σ))
  else
  (if (60) < (x1) then
  (some ((-1), σ))
  else
  (Option.bind (sg_R σ a0 13) fun b5 =>
  if (9999) < ((sg_I σ b5 5) + (x1)) then
  (some ((-1), σ))
  else
  (f_X11_years_L43 N a0 N (x1) (0) (put_J σ a0 19 (x2))))))
set_option maxHeartbeats 4000000 in
set_option maxRecDepth 100000 in
theorem t_X11_years_L43 {N : Nat} {a0 : Nat} {Γ : Gm} {σ0 : Sg} {r : (Int32 × Sg)} (C1 : CM Γ cX11_years RX11 5 (some .int) 7 152 0 0 (fun r_ τ_ => (r_ = some (vi r.1)) ∧ τ_ = r.2 ∧ sg_T τ_ ∧ sg_E σ0 τ_)) : ∀ (n : Nat) (v1 : Int32) (v4 : Int32) (σ : Sg), sg_T σ → sg_E σ0 σ → is_A σ a0 10 → f_X11_years_L43 N a0  n v1 v4 σ = some r → J_ Γ 43 [(0, vr (some a0)), (1, vi (v1)), (4, vi (v4))] [] σ 0 0 := by
  have C0 := C1.1
  intro n
  induction n with
  | zero => intro v1 v4 σ hT hE h0  hf; unfold f_X11_years_L43 at hf; cases hf
  | succ n ih =>
    intro v1 v4 σ hT hE h0  hf
    rw [f_X11_years_L43] at hf
    refine J_iload (q := 45) C0 2 rfl dX11_years_43 rfl ?_
    refine J_iload_n (q := 46) C0 1 rfl rfl dX11_years_45 rfl ?_
    refine J_icmp_ge (t := 74) (q := 49) C0 dX11_years_46 (by decide) rfl hf (fun c7 hf => ?_) (fun c7 hf => ?_)
    · refine J_aload_n (q := 75) C0 0 rfl rfl dX11_years_74 rfl trivial ?_
      refine J_getR (q := 78) C0 fl_X11_75_10 rfl (h0) rfl dX11_years_75 rfl ?_
      refine K_some hf (fun b8 hb8 hf => ?_)
      have ab8 : is_A σ b8 6 := ((sg_T.op hT (j := 13) (h0) rfl)) b8 hb8
      refine J_getI (q := 81) C0 fl_X11_230_6 hb8 (ab8) rfl dX11_years_78 rfl ?_
      obtain rfl := Option.some.inj hf; exact J_iret C1 dX11_years_81 rfl (Nat.zero_le _) (Nat.zero_le _) ⟨rfl, rfl, hT, hE⟩
    · refine J_aload_n (q := 50) C0 0 rfl rfl dX11_years_49 rfl trivial ?_
      refine J_getR (q := 53) C0 fl_X11_82_10 rfl (h0) rfl dX11_years_50 rfl ?_
      refine J_aload_n (q := 54) C0 0 rfl rfl dX11_years_53 rfl trivial ?_
      refine J_getR (q := 57) C0 fl_X11_75_10 rfl (h0) rfl dX11_years_54 rfl ?_
      refine K_some hf (fun b9 hb9 hf => ?_)
      have ab9 : is_A σ b9 5 := ((sg_T.op hT (j := 14) (h0) rfl)) b9 hb9
      refine K_some hf (fun p10 hp10 hf => ?_)
      refine J_callV (q := 60) (ci := 5) (as := [vr (sg_R σ a0 13)]) (rest := []) C0 hb9 (ab9) (t_X5_keep N b9 (sg_R σ a0 13) (hT) (ab9) ((sg_T.op hT (j := 13) (h0) rfl)) hp10) ml_X5_keep lk_X11_233 im_X5_keep se_X5_keep rfl (by decide) dX11_years_57 rfl rfl rfl (by simp [ac_]) C1.room (by decide) (by decide) (by decide) (by decide) (fun r_ τ_ hQ => ?_)
      obtain ⟨rfl, ht_, Tp10, Ep10⟩ := hQ; have ht_ := ht_.symm; subst ht_
      show J_ Γ 60 [(0, vr (some a0)), (1, vi (v1)), (4, vi (v4))] [] p10 0 0
      refine J_aload_n (q := 61) C0 0 rfl rfl dX11_years_60 rfl trivial ?_
      refine K_some hf (fun p11 hp11 hf => ?_)
      refine J_callV (q := 64) (ci := 10) (as := []) (rest := []) C0 rfl ((Ep10.at h0)) (t_X11_meddle a0  (Tp10) ((Ep10.at h0))  hp11) ml_X11_meddle lk_X11_243 im_X11_meddle se_X11_meddle rfl (by decide) dX11_years_61 rfl rfl rfl (by simp [ac_]) C1.room (by decide) (by decide) (by decide) (by decide) (fun r_ τ_ hQ => ?_)
      obtain ⟨rfl, ht_, Tp11, Ep11⟩ := hQ; have ht_ := ht_.symm; subst ht_
      show J_ Γ 64 [(0, vr (some a0)), (1, vi (v1)), (4, vi (v4))] [] p11 0 0
      refine J_aload_n (q := 65) C0 0 rfl rfl dX11_years_64 rfl trivial ?_
      refine K_some hf (fun p12 hp12 hf => ?_)
      refine J_callV (q := 68) (ci := 10) (as := []) (rest := []) C0 rfl ((Ep11.at (Ep10.at h0))) (t_X11_tickOnce N a0  (Tp11) ((Ep11.at (Ep10.at h0)))  hp12) ml_X11_tickOnce lk_X11_236 im_X11_tickOnce se_X11_tickOnce rfl (by decide) dX11_years_65 rfl rfl rfl (by simp [ac_]) C1.room (by decide) (by decide) (by decide) (by decide) (fun r_ τ_ hQ => ?_)
      obtain ⟨rfl, ht_, Tp12, Ep12⟩ := hQ; have ht_ := ht_.symm; subst ht_
      show J_ Γ 68 [(0, vr (some a0)), (1, vi (v1)), (4, vi (v4))] [] p12 0 0
      refine J_iinc (q := 71) (v := v4 + 1) (lv' := [(4, vi (v4 + 1)), (0, vr (some a0)), (1, vi (v1))]) C0 2 rfl rfl (G_nl C1 (by decide)) dX11_years_68 rfl rfl ?_
      refine J_goto (q := 43) C0 dX11_years_71 (by decide) ?_
      refine J_sub (lv' := [(0, vr (some a0)), (1, vi (v1)), (4, vi (v4 + 1))]) [1, 2, 0] rfl ?_
      exact ih (v1) (v4 + 1) (p12) (Tp12) ((((hE).tr Ep10).tr Ep11).tr Ep12) ((Ep12.at (Ep11.at (Ep10.at h0))))  hf
set_option maxHeartbeats 4000000 in
set_option maxRecDepth 100000 in
theorem t_X11_years (N : Nat) (a0 : Nat) (x1 : Int32) (x2 : Int64) {σ : Sg} (hT : sg_T σ) (h0 : is_A σ a0 10) {r : (Int32 × Sg)} (hf : f_X11_years N a0 x1 x2 σ = some r) : Ct yX11_years cX11_years 5 (some .int) 7 152 0 0 [vr (some a0), vi x1, vl x2] σ (fun r_ τ_ => (r_ = some (vi r.1)) ∧ τ_ = r.2 ∧ sg_T τ_ ∧ sg_E σ τ_) := by
  refine Ct.of (by decide +kernel) (Nat.le_of_ble_eq_true rfl) (fun Γ C1 => ?_)
  have C0 := C1.1
  have hE : sg_E σ σ := sg_E.rf
  unfold f_X11_years at hf
  show J_ Γ 0 [(0, vr (some a0)), (1, vi (x1)), (2, vl (x2))] [] σ 0 0
  refine J_aload_n (q := 1) C0 0 rfl rfl dX11_years_0 rfl trivial ?_
  refine K_some hf (fun p1 hp1 hf => ?_)
  refine J_callV (q := 4) (ci := 10) (as := []) (rest := []) C0 rfl (h0) (t_X11_isLit a0  (hT) (h0)  hp1) ml_X11_isLit lk_X11_183 im_X11_isLit se_X11_isLit rfl (by decide) dX11_years_1 rfl rfl rfl (by simp [ac_]) C1.room (by decide) (by decide) (by decide) (by decide) (fun r_ τ_ hQ => ?_)
  obtain ⟨⟨rfl, zp1⟩, ht_⟩ := hQ; have ht_ := ht_.symm; subst ht_
  show J_ Γ 4 [(0, vr (some a0)), (1, vi (x1)), (2, vl (x2))] [vi (p1)] σ 0 0
  refine J_if_eq (t := 33) (q := 7) C0 dX11_years_4 (by decide) rfl hf (fun c2 hf => ?_) (fun c2 hf => ?_)
  · refine J_iconst (q := 34) (v := (-1)) C0 dX11_years_33 rfl rfl ?_
    obtain rfl := Option.some.inj hf; exact J_iret C1 dX11_years_34 rfl (Nat.zero_le _) (Nat.zero_le _) ⟨rfl, rfl, hT, hE⟩
  · refine J_iload_n (q := 8) C0 1 rfl rfl dX11_years_7 rfl ?_
    refine J_iconst (q := 9) (v := 1) C0 dX11_years_8 rfl rfl ?_
    refine J_icmp_lt (t := 33) (q := 12) C0 dX11_years_9 (by decide) rfl hf (fun c3 hf => ?_) (fun c3 hf => ?_)
    · refine J_iconst (q := 34) (v := (-1)) C0 dX11_years_33 rfl rfl ?_
      obtain rfl := Option.some.inj hf; exact J_iret C1 dX11_years_34 rfl (Nat.zero_le _) (Nat.zero_le _) ⟨rfl, rfl, hT, hE⟩
    · refine J_iload_n (q := 13) C0 1 rfl rfl dX11_years_12 rfl ?_
      refine J_bipush (q := 15) (v := 60) C0 dX11_years_13 rfl rfl ?_
      refine J_icmp_gt (t := 33) (q := 18) C0 dX11_years_15 (by decide) rfl hf (fun c4 hf => ?_) (fun c4 hf => ?_)
      · refine J_iconst (q := 34) (v := (-1)) C0 dX11_years_33 rfl rfl ?_
        obtain rfl := Option.some.inj hf; exact J_iret C1 dX11_years_34 rfl (Nat.zero_le _) (Nat.zero_le _) ⟨rfl, rfl, hT, hE⟩
      · refine J_aload_n (q := 19) C0 0 rfl rfl dX11_years_18 rfl trivial ?_
        refine J_getR (q := 22) C0 fl_X11_75_10 rfl (h0) rfl dX11_years_19 rfl ?_
        refine K_some hf (fun b5 hb5 hf => ?_)
        have ab5 : is_A σ b5 6 := ((sg_T.op hT (j := 13) (h0) rfl)) b5 hb5
        refine J_getI (q := 25) C0 fl_X11_230_6 hb5 (ab5) rfl dX11_years_22 rfl ?_
        refine J_iload_n (q := 26) C0 1 rfl rfl dX11_years_25 rfl ?_
        refine J_iadd (q := 27) C0 dX11_years_26 rfl ?_
        refine J_sipush (q := 30) (v := 9999) C0 dX11_years_27 rfl rfl ?_
        refine J_icmp_le (t := 35) (q := 33) C0 dX11_years_30 (by decide) rfl hf (fun c6 hf => ?_) (fun c6 hf => ?_)
        · refine J_aload_n (q := 36) C0 0 rfl rfl dX11_years_35 rfl trivial ?_
          refine J_lload_n (q := 37) C0 2 rfl rfl dX11_years_36 rfl ?_
          refine J_putJ (q := 40) C0 fl_X11_106_10 rfl (h0) rfl dX11_years_37 rfl ?_
          refine J_iconst (q := 41) (v := 0) C0 dX11_years_40 rfl rfl ?_
          refine J_istore (q := 43) (lv' := [(4, vi (0)), (0, vr (some a0)), (1, vi (x1)), (2, vl (x2))]) C0 (G_nl C1 (by decide)) dX11_years_41 rfl rfl ?_
          refine J_sub (lv' := [(0, vr (some a0)), (1, vi (x1)), (4, vi (0))]) [1, 2, 0] rfl ?_
          exact t_X11_years_L43 C1    N (x1) (0) (put_J σ a0 19 (x2)) ((hT).putJ) ((hE).putJ) ((h0).putJ)  hf
        · refine J_iconst (q := 34) (v := (-1)) C0 dX11_years_33 rfl rfl ?_
          obtain rfl := Option.some.inj hf; exact J_iret C1 dX11_years_34 rfl (Nat.zero_le _) (Nat.zero_le _) ⟨rfl, rfl, hT, hE⟩
