def f_X12_puts_B51 (N : Nat) (a0 : Nat) (v1 : Int32) (v2 : Int32) (s0 : Int32) (s1 : Option Nat) (σ : Sg) : Option (Int32 × Sg) :=
  Option.bind (s1) fun b3 =>
  Option.bind (f_X12_isRefused b3 (s0) σ) fun p4 =>
  if (p4.1) = (0) then
  (Option.bind (f_X12_keep N a0  p4.2) fun p6 =>
  Option.bind (sg_R p6 a0 24) fun b7 =>
  if (18 : Int32) < 0 ∨ sg_L p6 b7 ≤ (18 : Int32).toNatClampNeg then none else
  if (18 : Int32) < 0 ∨ sg_L p6 b7 ≤ (18 : Int32).toNatClampNeg then none else
  Option.bind (sg_R (put_I p6 b7 (18 : Int32).toNatClampNeg ((sg_I p6 b7 (18 : Int32).toNatClampNeg) - (2))) a0 24) fun b10 =>
  if (((4) * (v1)) + (3)) < 0 ∨ sg_L (put_I p6 b7 (18 : Int32).toNatClampNeg ((sg_I p6 b7 (18 : Int32).toNatClampNeg) - (2))) b10 ≤ (((4) * (v1)) + (3)).toNatClampNeg then none else
  Option.bind (f_X12_of a0 (v1) (2) (put_I (put_I p6 b7 (18 : Int32).toNatClampNeg ((sg_I p6 b7 (18 : Int32).toNatClampNeg) - (2))) b10 (((4) * (v1)) + (3)).toNatClampNeg (v2))) fun p12 =>
  Option.bind (f_X12_longOf a0 (v1) (put_I (put_I p6 b7 (18 : Int32).toNatClampNeg ((sg_I p6 b7 (18 : Int32).toNatClampNeg) - (2))) b10 (((4) * (v1)) + (3)).toNatClampNeg (v2))) fun p13 =>
  if (p13) = 0 then none else
  Option.bind (sg_R (put_I (put_I p6 b7 (18 : Int32).toNatClampNeg ((sg_I p6 b7 (18 : Int32).toNatClampNeg) - (2))) b10 (((4) * (v1)) + (3)).toNatClampNeg (v2)) a0 24) fun b15 =>
  if (((4) * (v1)) + (2)) < 0 ∨ sg_L (put_I (put_I p6 b7 (18 : Int32).toNatClampNeg ((sg_I p6 b7 (18 : Int32).toNatClampNeg) - (2))) b10 (((4) * (v1)) + (3)).toNatClampNeg (v2)) b15 ≤ (((4) * (v1)) + (2)).toNatClampNeg then none else
  Option.bind (f_X12_longOf a0 (v1) (put_I (put_I (put_I p6 b7 (18 : Int32).toNatClampNeg ((sg_I p6 b7 (18 : Int32).toNatClampNeg) - (2))) b10 (((4) * (v1)) + (3)).toNatClampNeg (v2)) b15 (((4) * (v1)) + (2)).toNatClampNeg (rm_ (p12) (p13)))) fun p17 =>
  some (p17, put_I (put_I (put_I p6 b7 (18 : Int32).toNatClampNeg ((sg_I p6 b7 (18 : Int32).toNatClampNeg) - (2))) b10 (((4) * (v1)) + (3)).toNatClampNeg (v2)) b15 (((4) * (v1)) + (2)).toNatClampNeg (rm_ (p12) (p13))))
  else
  (some ((-1), p4.2))
def f_X12_puts_B17 (N : Nat) (a0 : Nat) (v1 : Int32) (v2 : Int32) (s0 : Option Nat) (σ : Sg) : Option (Int32 × Sg) :=
  f_X12_puts_B51 N a0 (v1) (v2) (0) (s0) σ
def f_X12_puts (N : Nat) (a0 : Nat) (x1 : Int32) (x2 : Int32) (σ : Sg) : Option (Int32 × Sg) :=
  Option.bind (f_X12_isWheel a0 (x1) σ) fun p1 =>
  if (p1) = (0) then
  (f_X12_puts_B17 N a0 (x1) (x2) (some a0) σ)
  else
  (Option.bind (f_X12_isStrip a0 (x2) σ) fun p18 =>
  if (p18) = (0) then
  (f_X12_puts_B17 N a0 (x1) (x2) (some a0) σ)
  else
  (Option.bind (f_X12_of a0 (x1) (3) σ) fun p20 =>
  if (p20) = (x2) then
  (f_X12_puts_B51 N a0 (x1) (x2) (2) (some a0) σ)
  else
  (Option.bind (sg_R σ a0 24) fun b22 =>
  if (18 : Int32) < 0 ∨ sg_L σ b22 ≤ (18 : Int32).toNatClampNeg then none else
  if (sg_I σ b22 (18 : Int32).toNatClampNeg) < (2) then
  (f_X12_puts_B51 N a0 (x1) (x2) (3) (some a0) σ)
  else
  (f_X12_puts_B51 N a0 (x1) (x2) ((-1)) (some a0) σ))))
set_option maxHeartbeats 4000000 in
set_option maxRecDepth 100000 in
theorem t_X12_puts_B51 {N : Nat} {a0 : Nat} {Γ : Gm} {σ0 : Sg} {r : (Int32 × Sg)} (C1 : CM Γ cX12_puts RX12 3 (some .int) 2 43 0 0 (fun r_ τ_ => (r_ = some (vi r.1)) ∧ τ_ = r.2 ∧ sg_T τ_ ∧ sg_E σ0 τ_)) (v1 : Int32) (v2 : Int32) (s0 : Int32) (s1 : Option Nat) (σ : Sg) (hT : sg_T σ) (hE : sg_E σ0 σ) (h0 : is_A σ a0 11) (g_s1 : is_O σ s1 11) (hf : f_X12_puts_B51 N a0  v1 v2 s0 s1 σ = some r) : J_ Γ 51 [(0, vr (some a0)), (1, vi (v1)), (2, vi (v2))] [vi (s0), vr (s1)] σ 0 0 := by
  have C0 := C1.1
  unfold f_X12_puts_B51 at hf
  refine K_some hf (fun b3 hb3 hf => ?_)
  have ab3 : is_A σ b3 11 := (g_s1) b3 hb3
  refine K_some hf (fun p4 hp4 hf => ?_)
  refine J_callV (q := 54) (ci := 11) (as := [vi (s0)]) (rest := []) C0 hb3 (ab3) (t_X12_isRefused b3 (s0) (hT) (ab3)  hp4) ml_X12_isRefused lk_X12_316 im_X12_isRefused se_X12_isRefused rfl (by decide) dX12_puts_51 rfl rfl rfl (by simp [ac_]) C1.room (by decide) (by decide) (by decide) (by decide) (fun r_ τ_ hQ => ?_)
  obtain ⟨⟨rfl, zp4⟩, rfl, Tp4, Ep4⟩ := hQ
  show J_ Γ 54 [(0, vr (some a0)), (1, vi (v1)), (2, vi (v2))] [vi (p4.1)] p4.2 0 0
  refine J_if_eq (t := 59) (q := 57) C0 dX12_puts_54 (by decide) rfl hf (fun c5 hf => ?_) (fun c5 hf => ?_)
  · refine J_aload_n (q := 60) C0 0 rfl rfl dX12_puts_59 rfl trivial ?_
    refine K_some hf (fun p6 hp6 hf => ?_)
    refine J_callV (q := 63) (ci := 11) (as := []) (rest := []) C0 rfl ((Ep4.at h0)) (t_X12_keep N a0  (Tp4) ((Ep4.at h0))  hp6) ml_X12_keep lk_X12_319 im_X12_keep se_X12_keep rfl (by decide) dX12_puts_60 rfl rfl rfl (by simp [ac_]) C1.room (by decide) (by decide) (by decide) (by decide) (fun r_ τ_ hQ => ?_)
    obtain ⟨rfl, ht_, Tp6, Ep6⟩ := hQ; have ht_ := ht_.symm; subst ht_
    show J_ Γ 63 [(0, vr (some a0)), (1, vi (v1)), (2, vi (v2))] [] p6 0 0
    refine J_aload_n (q := 64) C0 0 rfl rfl dX12_puts_63 rfl trivial ?_
    refine J_getR (q := 67) C0 fl_X12_52_11 rfl ((Ep6.at (Ep4.at h0))) rfl dX12_puts_64 rfl ?_
    refine J_bipush (q := 69) (v := 18) C0 dX12_puts_67 rfl rfl ?_
    refine J_dup2 (q := 70) C0 dX12_puts_69 rfl rfl rfl ?_
    refine K_some hf (fun b7 hb7 hf => ?_)
    have ab7 : is_A p6 b7 12 := ((sg_T.op Tp6 (j := 24) ((Ep6.at (Ep4.at h0))) rfl)) b7 hb7
    refine K_chk hf (fun c8 hf => ?_)
    refine J_iald (q := 71) C0 hb7 (ab7) c8 dX12_puts_70 rfl ?_
    refine J_iconst (q := 72) (v := 2) C0 dX12_puts_71 rfl rfl ?_
    refine J_isub (q := 73) C0 dX12_puts_72 rfl ?_
    refine K_chk hf (fun c9 hf => ?_)
    refine J_iast (q := 74) C0 hb7 (ab7) c9 dX12_puts_73 rfl ?_
    refine J_aload_n (q := 75) C0 0 rfl rfl dX12_puts_74 rfl trivial ?_
    refine J_getR (q := 78) C0 fl_X12_52_11 rfl (((Ep6.at (Ep4.at h0))).putI) rfl dX12_puts_75 rfl ?_
    refine J_iconst (q := 79) (v := 4) C0 dX12_puts_78 rfl rfl ?_
    refine J_iload_n (q := 80) C0 1 rfl rfl dX12_puts_79 rfl ?_
    refine J_imul (q := 81) C0 dX12_puts_80 rfl ?_
    refine J_iconst (q := 82) (v := 3) C0 dX12_puts_81 rfl rfl ?_
    refine J_iadd (q := 83) C0 dX12_puts_82 rfl ?_
    refine J_iload_n (q := 84) C0 2 rfl rfl dX12_puts_83 rfl ?_
    refine K_some hf (fun b10 hb10 hf => ?_)
    have ab10 : is_A (put_I p6 b7 (18 : Int32).toNatClampNeg ((sg_I p6 b7 (18 : Int32).toNatClampNeg) - (2))) b10 12 := ((sg_T.op (Tp6).putI (j := 24) (((Ep6.at (Ep4.at h0))).putI) rfl)) b10 hb10
    refine K_chk hf (fun c11 hf => ?_)
    refine J_iast (q := 85) C0 hb10 (ab10) c11 dX12_puts_84 rfl ?_
    refine J_aload_n (q := 86) C0 0 rfl rfl dX12_puts_85 rfl trivial ?_
    refine J_getR (q := 89) C0 fl_X12_52_11 rfl ((((Ep6.at (Ep4.at h0))).putI).putI) rfl dX12_puts_86 rfl ?_
    refine J_iconst (q := 90) (v := 4) C0 dX12_puts_89 rfl rfl ?_
    refine J_iload_n (q := 91) C0 1 rfl rfl dX12_puts_90 rfl ?_
    refine J_imul (q := 92) C0 dX12_puts_91 rfl ?_
    refine J_iconst (q := 93) (v := 2) C0 dX12_puts_92 rfl rfl ?_
    refine J_iadd (q := 94) C0 dX12_puts_93 rfl ?_
    refine J_aload_n (q := 95) C0 0 rfl rfl dX12_puts_94 rfl trivial ?_
    refine J_iload_n (q := 96) C0 1 rfl rfl dX12_puts_95 rfl ?_
    refine J_iconst (q := 97) (v := 2) C0 dX12_puts_96 rfl rfl ?_
    refine K_some hf (fun p12 hp12 hf => ?_)
    refine J_callV (q := 100) (ci := 11) (as := [vi (v1), vi (2)]) (rest := [vi (((4) * (v1)) + (2)), vr (sg_R (put_I (put_I p6 b7 (18 : Int32).toNatClampNeg ((sg_I p6 b7 (18 : Int32).toNatClampNeg) - (2))) b10 (((4) * (v1)) + (3)).toNatClampNeg (v2)) a0 24)]) C0 rfl ((((Ep6.at (Ep4.at h0))).putI).putI) (t_X12_of a0 (v1) (2) (((Tp6).putI).putI) ((((Ep6.at (Ep4.at h0))).putI).putI)  hp12) ml_X12_of lk_X12_254 im_X12_of se_X12_of rfl (by decide) dX12_puts_97 rfl rfl rfl (by simp [ac_]) C1.room (by decide) (by decide) (by decide) (by decide) (fun r_ τ_ hQ => ?_)
    obtain ⟨rfl, ht_⟩ := hQ; have ht_ := ht_.symm; subst ht_
    show J_ Γ 100 [(0, vr (some a0)), (1, vi (v1)), (2, vi (v2))] [vi (p12), vi (((4) * (v1)) + (2)), vr (sg_R (put_I (put_I p6 b7 (18 : Int32).toNatClampNeg ((sg_I p6 b7 (18 : Int32).toNatClampNeg) - (2))) b10 (((4) * (v1)) + (3)).toNatClampNeg (v2)) a0 24)] (put_I (put_I p6 b7 (18 : Int32).toNatClampNeg ((sg_I p6 b7 (18 : Int32).toNatClampNeg) - (2))) b10 (((4) * (v1)) + (3)).toNatClampNeg (v2)) 0 0
    refine J_aload_n (q := 101) C0 0 rfl rfl dX12_puts_100 rfl trivial ?_
    refine J_iload_n (q := 102) C0 1 rfl rfl dX12_puts_101 rfl ?_
    refine K_some hf (fun p13 hp13 hf => ?_)
    refine J_callV (q := 105) (ci := 11) (as := [vi (v1)]) (rest := [vi (p12), vi (((4) * (v1)) + (2)), vr (sg_R (put_I (put_I p6 b7 (18 : Int32).toNatClampNeg ((sg_I p6 b7 (18 : Int32).toNatClampNeg) - (2))) b10 (((4) * (v1)) + (3)).toNatClampNeg (v2)) a0 24)]) C0 rfl ((((Ep6.at (Ep4.at h0))).putI).putI) (t_X12_longOf a0 (v1) (((Tp6).putI).putI) ((((Ep6.at (Ep4.at h0))).putI).putI)  hp13) ml_X12_longOf lk_X12_266 im_X12_longOf se_X12_longOf rfl (by decide) dX12_puts_102 rfl rfl rfl (by simp [ac_]) C1.room (by decide) (by decide) (by decide) (by decide) (fun r_ τ_ hQ => ?_)
    obtain ⟨rfl, ht_⟩ := hQ; have ht_ := ht_.symm; subst ht_
    show J_ Γ 105 [(0, vr (some a0)), (1, vi (v1)), (2, vi (v2))] [vi (p13), vi (p12), vi (((4) * (v1)) + (2)), vr (sg_R (put_I (put_I p6 b7 (18 : Int32).toNatClampNeg ((sg_I p6 b7 (18 : Int32).toNatClampNeg) - (2))) b10 (((4) * (v1)) + (3)).toNatClampNeg (v2)) a0 24)] (put_I (put_I p6 b7 (18 : Int32).toNatClampNeg ((sg_I p6 b7 (18 : Int32).toNatClampNeg) - (2))) b10 (((4) * (v1)) + (3)).toNatClampNeg (v2)) 0 0
    refine K_chk hf (fun c14 hf => ?_)
    refine J_irem (q := 106) C0 dX12_puts_105 rfl c14 ?_
    refine K_some hf (fun b15 hb15 hf => ?_)
    have ab15 : is_A (put_I (put_I p6 b7 (18 : Int32).toNatClampNeg ((sg_I p6 b7 (18 : Int32).toNatClampNeg) - (2))) b10 (((4) * (v1)) + (3)).toNatClampNeg (v2)) b15 12 := ((sg_T.op ((Tp6).putI).putI (j := 24) ((((Ep6.at (Ep4.at h0))).putI).putI) rfl)) b15 hb15
    refine K_chk hf (fun c16 hf => ?_)
    refine J_iast (q := 107) C0 hb15 (ab15) c16 dX12_puts_106 rfl ?_
    refine J_aload_n (q := 108) C0 0 rfl rfl dX12_puts_107 rfl trivial ?_
    refine J_iload_n (q := 109) C0 1 rfl rfl dX12_puts_108 rfl ?_
    refine K_some hf (fun p17 hp17 hf => ?_)
    refine J_callV (q := 112) (ci := 11) (as := [vi (v1)]) (rest := []) C0 rfl (((((Ep6.at (Ep4.at h0))).putI).putI).putI) (t_X12_longOf a0 (v1) ((((Tp6).putI).putI).putI) (((((Ep6.at (Ep4.at h0))).putI).putI).putI)  hp17) ml_X12_longOf lk_X12_266 im_X12_longOf se_X12_longOf rfl (by decide) dX12_puts_109 rfl rfl rfl (by simp [ac_]) C1.room (by decide) (by decide) (by decide) (by decide) (fun r_ τ_ hQ => ?_)
    obtain ⟨rfl, ht_⟩ := hQ; have ht_ := ht_.symm; subst ht_
    show J_ Γ 112 [(0, vr (some a0)), (1, vi (v1)), (2, vi (v2))] [vi (p17)] (put_I (put_I (put_I p6 b7 (18 : Int32).toNatClampNeg ((sg_I p6 b7 (18 : Int32).toNatClampNeg) - (2))) b10 (((4) * (v1)) + (3)).toNatClampNeg (v2)) b15 (((4) * (v1)) + (2)).toNatClampNeg (rm_ (p12) (p13))) 0 0
    obtain rfl := Option.some.inj hf; exact J_iret C1 dX12_puts_112 rfl (Nat.zero_le _) (Nat.zero_le _) ⟨rfl, rfl, (((Tp6).putI).putI).putI, (((((hE).tr Ep4).tr Ep6).putI).putI).putI⟩
  · refine J_iconst (q := 58) (v := (-1)) C0 dX12_puts_57 rfl rfl ?_
    obtain rfl := Option.some.inj hf; exact J_iret C1 dX12_puts_58 rfl (Nat.zero_le _) (Nat.zero_le _) ⟨rfl, rfl, Tp4, (hE).tr Ep4⟩
set_option maxHeartbeats 4000000 in
set_option maxRecDepth 100000 in
theorem t_X12_puts_B17 {N : Nat} {a0 : Nat} {Γ : Gm} {σ0 : Sg} {r : (Int32 × Sg)} (C1 : CM Γ cX12_puts RX12 3 (some .int) 2 43 0 0 (fun r_ τ_ => (r_ = some (vi r.1)) ∧ τ_ = r.2 ∧ sg_T τ_ ∧ sg_E σ0 τ_)) (v1 : Int32) (v2 : Int32) (s0 : Option Nat) (σ : Sg) (hT : sg_T σ) (hE : sg_E σ0 σ) (h0 : is_A σ a0 11) (g_s0 : is_O σ s0 11) (hf : f_X12_puts_B17 N a0  v1 v2 s0 σ = some r) : J_ Γ 17 [(0, vr (some a0)), (1, vi (v1)), (2, vi (v2))] [vr (s0)] σ 0 0 := by
  have C0 := C1.1
  unfold f_X12_puts_B17 at hf
  refine J_iconst (q := 18) (v := 0) C0 dX12_puts_17 rfl rfl ?_
  refine J_goto (q := 51) C0 dX12_puts_18 (by decide) ?_
  exact t_X12_puts_B51 C1    (v1) (v2) (0) (s0) σ (hT) (hE) (h0) (g_s0) hf
set_option maxHeartbeats 4000000 in
set_option maxRecDepth 100000 in
theorem t_X12_puts (N : Nat) (a0 : Nat) (x1 : Int32) (x2 : Int32) {σ : Sg} (hT : sg_T σ) (h0 : is_A σ a0 11) {r : (Int32 × Sg)} (hf : f_X12_puts N a0 x1 x2 σ = some r) : Ct yX12_puts cX12_puts 3 (some .int) 2 43 0 0 [vr (some a0), vi x1, vi x2] σ (fun r_ τ_ => (r_ = some (vi r.1)) ∧ τ_ = r.2 ∧ sg_T τ_ ∧ sg_E σ τ_) := by
  refine Ct.of (by decide +kernel) (Nat.le_of_ble_eq_true rfl) (fun Γ C1 => ?_)
  have C0 := C1.1
  have hE : sg_E σ σ := sg_E.rf
  unfold f_X12_puts at hf
  show J_ Γ 0 [(0, vr (some a0)), (1, vi (x1)), (2, vi (x2))] [] σ 0 0
  refine J_aload_n (q := 1) C0 0 rfl rfl dX12_puts_0 rfl trivial ?_
  refine J_aload_n (q := 2) C0 0 rfl rfl dX12_puts_1 rfl trivial ?_
  refine J_iload_n (q := 3) C0 1 rfl rfl dX12_puts_2 rfl ?_
  refine K_some hf (fun p1 hp1 hf => ?_)
  refine J_callV (q := 6) (ci := 11) (as := [vi (x1)]) (rest := [vr (some a0)]) C0 rfl (h0) (t_X12_isWheel a0 (x1) (h0)  hp1) ml_X12_isWheel lk_X12_307 im_X12_isWheel se_X12_isWheel rfl (by decide) dX12_puts_3 rfl rfl rfl (by simp [ac_]) C1.room (by decide) (by decide) (by decide) (by decide) (fun r_ τ_ hQ => ?_)
  obtain ⟨⟨rfl, zp1⟩, ht_⟩ := hQ; have ht_ := ht_.symm; subst ht_
  show J_ Γ 6 [(0, vr (some a0)), (1, vi (x1)), (2, vi (x2))] [vi (p1), vr (some a0)] σ 0 0
  refine J_if_eq (t := 17) (q := 9) C0 dX12_puts_6 (by decide) rfl hf (fun c2 hf => ?_) (fun c2 hf => ?_)
  · exact t_X12_puts_B17 C1    (x1) (x2) (some a0) σ (hT) (hE) (h0) (is_O.some (h0)) hf
  · refine J_aload_n (q := 10) C0 0 rfl rfl dX12_puts_9 rfl trivial ?_
    refine J_iload_n (q := 11) C0 2 rfl rfl dX12_puts_10 rfl ?_
    refine K_some hf (fun p18 hp18 hf => ?_)
    refine J_callV (q := 14) (ci := 11) (as := [vi (x2)]) (rest := [vr (some a0)]) C0 rfl (h0) (t_X12_isStrip a0 (x2) (h0)  hp18) ml_X12_isStrip lk_X12_310 im_X12_isStrip se_X12_isStrip rfl (by decide) dX12_puts_11 rfl rfl rfl (by simp [ac_]) C1.room (by decide) (by decide) (by decide) (by decide) (fun r_ τ_ hQ => ?_)
    obtain ⟨⟨rfl, zp18⟩, ht_⟩ := hQ; have ht_ := ht_.symm; subst ht_
    show J_ Γ 14 [(0, vr (some a0)), (1, vi (x1)), (2, vi (x2))] [vi (p18), vr (some a0)] σ 0 0
    refine J_if_ne (t := 21) (q := 17) C0 dX12_puts_14 (by decide) rfl hf (fun c19 hf => ?_) (fun c19 hf => ?_)
    · refine J_aload_n (q := 22) C0 0 rfl rfl dX12_puts_21 rfl trivial ?_
      refine J_iload_n (q := 23) C0 1 rfl rfl dX12_puts_22 rfl ?_
      refine J_iconst (q := 24) (v := 3) C0 dX12_puts_23 rfl rfl ?_
      refine K_some hf (fun p20 hp20 hf => ?_)
      refine J_callV (q := 27) (ci := 11) (as := [vi (x1), vi (3)]) (rest := [vr (some a0)]) C0 rfl (h0) (t_X12_of a0 (x1) (3) (hT) (h0)  hp20) ml_X12_of lk_X12_254 im_X12_of se_X12_of rfl (by decide) dX12_puts_24 rfl rfl rfl (by simp [ac_]) C1.room (by decide) (by decide) (by decide) (by decide) (fun r_ τ_ hQ => ?_)
      obtain ⟨rfl, ht_⟩ := hQ; have ht_ := ht_.symm; subst ht_
      show J_ Γ 27 [(0, vr (some a0)), (1, vi (x1)), (2, vi (x2))] [vi (p20), vr (some a0)] σ 0 0
      refine J_iload_n (q := 28) C0 2 rfl rfl dX12_puts_27 rfl ?_
      refine J_icmp_ne (t := 35) (q := 31) C0 dX12_puts_28 (by decide) rfl hf (fun c21 hf => ?_) (fun c21 hf => ?_)
      · refine J_aload_n (q := 36) C0 0 rfl rfl dX12_puts_35 rfl trivial ?_
        refine J_getR (q := 39) C0 fl_X12_52_11 rfl (h0) rfl dX12_puts_36 rfl ?_
        refine J_bipush (q := 41) (v := 18) C0 dX12_puts_39 rfl rfl ?_
        refine K_some hf (fun b22 hb22 hf => ?_)
        have ab22 : is_A σ b22 12 := ((sg_T.op hT (j := 24) (h0) rfl)) b22 hb22
        refine K_chk hf (fun c23 hf => ?_)
        refine J_iald (q := 42) C0 hb22 (ab22) c23 dX12_puts_41 rfl ?_
        refine J_iconst (q := 43) (v := 2) C0 dX12_puts_42 rfl rfl ?_
        refine J_icmp_ge (t := 50) (q := 46) C0 dX12_puts_43 (by decide) rfl hf (fun c24 hf => ?_) (fun c24 hf => ?_)
        · refine J_iconst (q := 51) (v := (-1)) C0 dX12_puts_50 rfl rfl ?_
          exact t_X12_puts_B51 C1    (x1) (x2) ((-1)) (some a0) σ (hT) (hE) (h0) (is_O.some (h0)) hf
        · refine J_iconst (q := 47) (v := 3) C0 dX12_puts_46 rfl rfl ?_
          refine J_goto (q := 51) C0 dX12_puts_47 (by decide) ?_
          exact t_X12_puts_B51 C1    (x1) (x2) (3) (some a0) σ (hT) (hE) (h0) (is_O.some (h0)) hf
      · refine J_iconst (q := 32) (v := 2) C0 dX12_puts_31 rfl rfl ?_
        refine J_goto (q := 51) C0 dX12_puts_32 (by decide) ?_
        exact t_X12_puts_B51 C1    (x1) (x2) (2) (some a0) σ (hT) (hE) (h0) (is_O.some (h0)) hf
    · exact t_X12_puts_B17 C1    (x1) (x2) (some a0) σ (hT) (hE) (h0) (is_O.some (h0)) hf
def f_X12_oil_B61 (N : Nat) (a0 : Nat) (v1 : Int32) (s0 : Int32) (s1 : Option Nat) (σ : Sg) : Option (Int32 × Sg) :=
  Option.bind (s1) fun b7 =>
  Option.bind (f_X12_isRefused b7 (s0) σ) fun p8 =>
  if (p8.1) = (0) then
  (Option.bind (f_X12_keep N a0  p8.2) fun p10 =>
  Option.bind (sg_R p10 a0 24) fun b11 =>
  if (18 : Int32) < 0 ∨ sg_L p10 b11 ≤ (18 : Int32).toNatClampNeg then none else
  if (18 : Int32) < 0 ∨ sg_L p10 b11 ≤ (18 : Int32).toNatClampNeg then none else
  Option.bind (sg_R (put_I p10 b11 (18 : Int32).toNatClampNeg ((sg_I p10 b11 (18 : Int32).toNatClampNeg) - (((v1) + (1)) / (2)))) a0 24) fun b14 =>
  if (17 : Int32) < 0 ∨ sg_L (put_I p10 b11 (18 : Int32).toNatClampNeg ((sg_I p10 b11 (18 : Int32).toNatClampNeg) - (((v1) + (1)) / (2)))) b14 ≤ (17 : Int32).toNatClampNeg then none else
  if (17 : Int32) < 0 ∨ sg_L (put_I p10 b11 (18 : Int32).toNatClampNeg ((sg_I p10 b11 (18 : Int32).toNatClampNeg) - (((v1) + (1)) / (2)))) b14 ≤ (17 : Int32).toNatClampNeg then none else
  Option.bind (sg_R (put_I (put_I p10 b11 (18 : Int32).toNatClampNeg ((sg_I p10 b11 (18 : Int32).toNatClampNeg) - (((v1) + (1)) / (2)))) b14 (17 : Int32).toNatClampNeg ((sg_I (put_I p10 b11 (18 : Int32).toNatClampNeg ((sg_I p10 b11 (18 : Int32).toNatClampNeg) - (((v1) + (1)) / (2)))) b14 (17 : Int32).toNatClampNeg) + (v1))) a0 24) fun b17 =>
  if (17 : Int32) < 0 ∨ sg_L (put_I (put_I p10 b11 (18 : Int32).toNatClampNeg ((sg_I p10 b11 (18 : Int32).toNatClampNeg) - (((v1) + (1)) / (2)))) b14 (17 : Int32).toNatClampNeg ((sg_I (put_I p10 b11 (18 : Int32).toNatClampNeg ((sg_I p10 b11 (18 : Int32).toNatClampNeg) - (((v1) + (1)) / (2)))) b14 (17 : Int32).toNatClampNeg) + (v1))) b17 ≤ (17 : Int32).toNatClampNeg then none else
  some (sg_I (put_I (put_I p10 b11 (18 : Int32).toNatClampNeg ((sg_I p10 b11 (18 : Int32).toNatClampNeg) - (((v1) + (1)) / (2)))) b14 (17 : Int32).toNatClampNeg ((sg_I (put_I p10 b11 (18 : Int32).toNatClampNeg ((sg_I p10 b11 (18 : Int32).toNatClampNeg) - (((v1) + (1)) / (2)))) b14 (17 : Int32).toNatClampNeg) + (v1))) b17 (17 : Int32).toNatClampNeg, put_I (put_I p10 b11 (18 : Int32).toNatClampNeg ((sg_I p10 b11 (18 : Int32).toNatClampNeg) - (((v1) + (1)) / (2)))) b14 (17 : Int32).toNatClampNeg ((sg_I (put_I p10 b11 (18 : Int32).toNatClampNeg ((sg_I p10 b11 (18 : Int32).toNatClampNeg) - (((v1) + (1)) / (2)))) b14 (17 : Int32).toNatClampNeg) + (v1))))
  else
  (some ((-1), p8.2))
def f_X12_oil_B56 (N : Nat) (a0 : Nat) (v1 : Int32) (s0 : Option Nat) (σ : Sg) : Option (Int32 × Sg) :=
  f_X12_oil_B61 N a0 (v1) (3) (s0) σ
def f_X12_oil (N : Nat) (a0 : Nat) (x1 : Int32) (σ : Sg) : Option (Int32 × Sg) :=
  if (sg_I σ a0 20) = (0) then
  (f_X12_oil_B61 N a0 (x1) (0) (some a0) σ)
  else
  (Option.bind (f_X12_in (x1) (1) (30) ) fun p2 =>
  if (p2) = (0) then
  (f_X12_oil_B61 N a0 (x1) (1) (some a0) σ)
  else
  (Option.bind (sg_R σ a0 24) fun b4 =>
  if (18 : Int32) < 0 ∨ sg_L σ b4 ≤ (18 : Int32).toNatClampNeg then none else
  if (sg_I σ b4 (18 : Int32).toNatClampNeg) < (((x1) + (1)) / (2)) then
  (f_X12_oil_B56 N a0 (x1) (some a0) σ)
  else
  (if (17 : Int32) < 0 ∨ sg_L σ b4 ≤ (17 : Int32).toNatClampNeg then none else
  if (999) < ((sg_I σ b4 (17 : Int32).toNatClampNeg) + (x1)) then
  (f_X12_oil_B56 N a0 (x1) (some a0) σ)
  else
  (f_X12_oil_B61 N a0 (x1) ((-1)) (some a0) σ))))
set_option maxHeartbeats 4000000 in
set_option maxRecDepth 100000 in
theorem t_X12_oil_B61 {N : Nat} {a0 : Nat} {Γ : Gm} {σ0 : Sg} {r : (Int32 × Sg)} (C1 : CM Γ cX12_oil RX12 2 (some .int) 1 22 0 0 (fun r_ τ_ => (r_ = some (vi r.1)) ∧ τ_ = r.2 ∧ sg_T τ_ ∧ sg_E σ0 τ_)) (v1 : Int32) (s0 : Int32) (s1 : Option Nat) (σ : Sg) (hT : sg_T σ) (hE : sg_E σ0 σ) (h0 : is_A σ a0 11) (g_s1 : is_O σ s1 11) (hf : f_X12_oil_B61 N a0  v1 s0 s1 σ = some r) : J_ Γ 61 [(0, vr (some a0)), (1, vi (v1))] [vi (s0), vr (s1)] σ 0 0 := by
  have C0 := C1.1
  unfold f_X12_oil_B61 at hf
  refine K_some hf (fun b7 hb7 hf => ?_)
  have ab7 : is_A σ b7 11 := (g_s1) b7 hb7
  refine K_some hf (fun p8 hp8 hf => ?_)
  refine J_callV (q := 64) (ci := 11) (as := [vi (s0)]) (rest := []) C0 hb7 (ab7) (t_X12_isRefused b7 (s0) (hT) (ab7)  hp8) ml_X12_isRefused lk_X12_316 im_X12_isRefused se_X12_isRefused rfl (by decide) dX12_oil_61 rfl rfl rfl (by simp [ac_]) C1.room (by decide) (by decide) (by decide) (by decide) (fun r_ τ_ hQ => ?_)
  obtain ⟨⟨rfl, zp8⟩, rfl, Tp8, Ep8⟩ := hQ
  show J_ Γ 64 [(0, vr (some a0)), (1, vi (v1))] [vi (p8.1)] p8.2 0 0
  refine J_if_eq (t := 69) (q := 67) C0 dX12_oil_64 (by decide) rfl hf (fun c9 hf => ?_) (fun c9 hf => ?_)
  · refine J_aload_n (q := 70) C0 0 rfl rfl dX12_oil_69 rfl trivial ?_
    refine K_some hf (fun p10 hp10 hf => ?_)
    refine J_callV (q := 73) (ci := 11) (as := []) (rest := []) C0 rfl ((Ep8.at h0)) (t_X12_keep N a0  (Tp8) ((Ep8.at h0))  hp10) ml_X12_keep lk_X12_319 im_X12_keep se_X12_keep rfl (by decide) dX12_oil_70 rfl rfl rfl (by simp [ac_]) C1.room (by decide) (by decide) (by decide) (by decide) (fun r_ τ_ hQ => ?_)
    obtain ⟨rfl, ht_, Tp10, Ep10⟩ := hQ; have ht_ := ht_.symm; subst ht_
    show J_ Γ 73 [(0, vr (some a0)), (1, vi (v1))] [] p10 0 0
    refine J_aload_n (q := 74) C0 0 rfl rfl dX12_oil_73 rfl trivial ?_
    refine J_getR (q := 77) C0 fl_X12_52_11 rfl ((Ep10.at (Ep8.at h0))) rfl dX12_oil_74 rfl ?_
    refine J_bipush (q := 79) (v := 18) C0 dX12_oil_77 rfl rfl ?_
    refine J_dup2 (q := 80) C0 dX12_oil_79 rfl rfl rfl ?_
    refine K_some hf (fun b11 hb11 hf => ?_)
    have ab11 : is_A p10 b11 12 := ((sg_T.op Tp10 (j := 24) ((Ep10.at (Ep8.at h0))) rfl)) b11 hb11
    refine K_chk hf (fun c12 hf => ?_)
    refine J_iald (q := 81) C0 hb11 (ab11) c12 dX12_oil_80 rfl ?_
    refine J_iload_n (q := 82) C0 1 rfl rfl dX12_oil_81 rfl ?_
    refine J_iconst (q := 83) (v := 1) C0 dX12_oil_82 rfl rfl ?_
    refine J_iadd (q := 84) C0 dX12_oil_83 rfl ?_
    refine J_iconst (q := 85) (v := 2) C0 dX12_oil_84 rfl rfl ?_
    refine J_idiv (q := 86) C0 dX12_oil_85 rfl (by decide) ?_
    refine J_isub (q := 87) C0 dX12_oil_86 rfl ?_
    refine K_chk hf (fun c13 hf => ?_)
    refine J_iast (q := 88) C0 hb11 (ab11) c13 dX12_oil_87 rfl ?_
    refine J_aload_n (q := 89) C0 0 rfl rfl dX12_oil_88 rfl trivial ?_
    refine J_getR (q := 92) C0 fl_X12_52_11 rfl (((Ep10.at (Ep8.at h0))).putI) rfl dX12_oil_89 rfl ?_
    refine J_bipush (q := 94) (v := 17) C0 dX12_oil_92 rfl rfl ?_
    refine J_dup2 (q := 95) C0 dX12_oil_94 rfl rfl rfl ?_
    refine K_some hf (fun b14 hb14 hf => ?_)
    have ab14 : is_A (put_I p10 b11 (18 : Int32).toNatClampNeg ((sg_I p10 b11 (18 : Int32).toNatClampNeg) - (((v1) + (1)) / (2)))) b14 12 := ((sg_T.op (Tp10).putI (j := 24) (((Ep10.at (Ep8.at h0))).putI) rfl)) b14 hb14
    refine K_chk hf (fun c15 hf => ?_)
    refine J_iald (q := 96) C0 hb14 (ab14) c15 dX12_oil_95 rfl ?_
    refine J_iload_n (q := 97) C0 1 rfl rfl dX12_oil_96 rfl ?_
    refine J_iadd (q := 98) C0 dX12_oil_97 rfl ?_
    refine K_chk hf (fun c16 hf => ?_)
    refine J_iast (q := 99) C0 hb14 (ab14) c16 dX12_oil_98 rfl ?_
    refine J_aload_n (q := 100) C0 0 rfl rfl dX12_oil_99 rfl trivial ?_
    refine J_getR (q := 103) C0 fl_X12_52_11 rfl ((((Ep10.at (Ep8.at h0))).putI).putI) rfl dX12_oil_100 rfl ?_
    refine J_bipush (q := 105) (v := 17) C0 dX12_oil_103 rfl rfl ?_
    refine K_some hf (fun b17 hb17 hf => ?_)
    have ab17 : is_A (put_I (put_I p10 b11 (18 : Int32).toNatClampNeg ((sg_I p10 b11 (18 : Int32).toNatClampNeg) - (((v1) + (1)) / (2)))) b14 (17 : Int32).toNatClampNeg ((sg_I (put_I p10 b11 (18 : Int32).toNatClampNeg ((sg_I p10 b11 (18 : Int32).toNatClampNeg) - (((v1) + (1)) / (2)))) b14 (17 : Int32).toNatClampNeg) + (v1))) b17 12 := ((sg_T.op ((Tp10).putI).putI (j := 24) ((((Ep10.at (Ep8.at h0))).putI).putI) rfl)) b17 hb17
    refine K_chk hf (fun c18 hf => ?_)
    refine J_iald (q := 106) C0 hb17 (ab17) c18 dX12_oil_105 rfl ?_
    obtain rfl := Option.some.inj hf; exact J_iret C1 dX12_oil_106 rfl (Nat.zero_le _) (Nat.zero_le _) ⟨rfl, rfl, ((Tp10).putI).putI, ((((hE).tr Ep8).tr Ep10).putI).putI⟩
  · refine J_iconst (q := 68) (v := (-1)) C0 dX12_oil_67 rfl rfl ?_
    obtain rfl := Option.some.inj hf; exact J_iret C1 dX12_oil_68 rfl (Nat.zero_le _) (Nat.zero_le _) ⟨rfl, rfl, Tp8, (hE).tr Ep8⟩
set_option maxHeartbeats 4000000 in
set_option maxRecDepth 100000 in
theorem t_X12_oil_B56 {N : Nat} {a0 : Nat} {Γ : Gm} {σ0 : Sg} {r : (Int32 × Sg)} (C1 : CM Γ cX12_oil RX12 2 (some .int) 1 22 0 0 (fun r_ τ_ => (r_ = some (vi r.1)) ∧ τ_ = r.2 ∧ sg_T τ_ ∧ sg_E σ0 τ_)) (v1 : Int32) (s0 : Option Nat) (σ : Sg) (hT : sg_T σ) (hE : sg_E σ0 σ) (h0 : is_A σ a0 11) (g_s0 : is_O σ s0 11) (hf : f_X12_oil_B56 N a0  v1 s0 σ = some r) : J_ Γ 56 [(0, vr (some a0)), (1, vi (v1))] [vr (s0)] σ 0 0 := by
  have C0 := C1.1
  unfold f_X12_oil_B56 at hf
  refine J_iconst (q := 57) (v := 3) C0 dX12_oil_56 rfl rfl ?_
  refine J_goto (q := 61) C0 dX12_oil_57 (by decide) ?_
  exact t_X12_oil_B61 C1    (v1) (3) (s0) σ (hT) (hE) (h0) (g_s0) hf
set_option maxHeartbeats 4000000 in
set_option maxRecDepth 100000 in
theorem t_X12_oil (N : Nat) (a0 : Nat) (x1 : Int32) {σ : Sg} (hT : sg_T σ) (h0 : is_A σ a0 11) {r : (Int32 × Sg)} (hf : f_X12_oil N a0 x1 σ = some r) : Ct yX12_oil cX12_oil 2 (some .int) 1 22 0 0 [vr (some a0), vi x1] σ (fun r_ τ_ => (r_ = some (vi r.1)) ∧ τ_ = r.2 ∧ sg_T τ_ ∧ sg_E σ τ_) := by
  refine Ct.of (by decide +kernel) (Nat.le_of_ble_eq_true rfl) (fun Γ C1 => ?_)
  have C0 := C1.1
  have hE : sg_E σ σ := sg_E.rf
  unfold f_X12_oil at hf
  show J_ Γ 0 [(0, vr (some a0)), (1, vi (x1))] [] σ 0 0
  refine J_aload_n (q := 1) C0 0 rfl rfl dX12_oil_0 rfl trivial ?_
  refine J_aload_n (q := 2) C0 0 rfl rfl dX12_oil_1 rfl trivial ?_
  refine J_getI (q := 5) C0 fl_X12_263_11 rfl (h0) rfl dX12_oil_2 rfl ?_
  refine J_if_ne (t := 12) (q := 8) C0 dX12_oil_5 (by decide) rfl hf (fun c1 hf => ?_) (fun c1 hf => ?_)
  · refine J_iload_n (q := 13) C0 1 rfl rfl dX12_oil_12 rfl ?_
    refine J_iconst (q := 14) (v := 1) C0 dX12_oil_13 rfl rfl ?_
    refine J_bipush (q := 16) (v := 30) C0 dX12_oil_14 rfl rfl ?_
    refine K_some hf (fun p2 hp2 hf => ?_)
    refine J_callS (q := 19) (as := [vi (x1), vi (1), vi (30)]) (rest := [vr (some a0)]) C0 (t_X12_in (x1) (1) (30)  hp2) ml_X12_in lk_X12_208 sm_X12_in dX12_oil_16 rfl rfl rfl (by simp [ac_]) C1.room (by decide) (by decide) (by decide) (by decide) (fun r_ τ_ hQ => ?_)
    obtain ⟨⟨rfl, zp2⟩, ht_⟩ := hQ; have ht_ := ht_.symm; subst ht_
    show J_ Γ 19 [(0, vr (some a0)), (1, vi (x1))] [vi (p2), vr (some a0)] σ 0 0
    refine J_if_ne (t := 26) (q := 22) C0 dX12_oil_19 (by decide) rfl hf (fun c3 hf => ?_) (fun c3 hf => ?_)
    · refine J_aload_n (q := 27) C0 0 rfl rfl dX12_oil_26 rfl trivial ?_
      refine J_getR (q := 30) C0 fl_X12_52_11 rfl (h0) rfl dX12_oil_27 rfl ?_
      refine J_bipush (q := 32) (v := 18) C0 dX12_oil_30 rfl rfl ?_
      refine K_some hf (fun b4 hb4 hf => ?_)
      have ab4 : is_A σ b4 12 := ((sg_T.op hT (j := 24) (h0) rfl)) b4 hb4
      refine K_chk hf (fun c5 hf => ?_)
      refine J_iald (q := 33) C0 hb4 (ab4) c5 dX12_oil_32 rfl ?_
      refine J_iload_n (q := 34) C0 1 rfl rfl dX12_oil_33 rfl ?_
      refine J_iconst (q := 35) (v := 1) C0 dX12_oil_34 rfl rfl ?_
      refine J_iadd (q := 36) C0 dX12_oil_35 rfl ?_
      refine J_iconst (q := 37) (v := 2) C0 dX12_oil_36 rfl rfl ?_
      refine J_idiv (q := 38) C0 dX12_oil_37 rfl (by decide) ?_
      refine J_icmp_lt (t := 56) (q := 41) C0 dX12_oil_38 (by decide) rfl hf (fun c6 hf => ?_) (fun c6 hf => ?_)
      · exact t_X12_oil_B56 C1    (x1) (some a0) σ (hT) (hE) (h0) (is_O.some (h0)) hf
      · refine J_aload_n (q := 42) C0 0 rfl rfl dX12_oil_41 rfl trivial ?_
        refine J_getR (q := 45) C0 fl_X12_52_11 rfl (h0) rfl dX12_oil_42 rfl ?_
        refine J_bipush (q := 47) (v := 17) C0 dX12_oil_45 rfl rfl ?_
        refine K_chk hf (fun c19 hf => ?_)
        refine J_iald (q := 48) C0 hb4 (ab4) c19 dX12_oil_47 rfl ?_
        refine J_iload_n (q := 49) C0 1 rfl rfl dX12_oil_48 rfl ?_
        refine J_iadd (q := 50) C0 dX12_oil_49 rfl ?_
        refine J_sipush (q := 53) (v := 999) C0 dX12_oil_50 rfl rfl ?_
        refine J_icmp_le (t := 60) (q := 56) C0 dX12_oil_53 (by decide) rfl hf (fun c20 hf => ?_) (fun c20 hf => ?_)
        · refine J_iconst (q := 61) (v := (-1)) C0 dX12_oil_60 rfl rfl ?_
          exact t_X12_oil_B61 C1    (x1) ((-1)) (some a0) σ (hT) (hE) (h0) (is_O.some (h0)) hf
        · exact t_X12_oil_B56 C1    (x1) (some a0) σ (hT) (hE) (h0) (is_O.some (h0)) hf
    · refine J_iconst (q := 23) (v := 1) C0 dX12_oil_22 rfl rfl ?_
      refine J_goto (q := 61) C0 dX12_oil_23 (by decide) ?_
      exact t_X12_oil_B61 C1    (x1) (1) (some a0) σ (hT) (hE) (h0) (is_O.some (h0)) hf
  · refine J_iconst (q := 9) (v := 0) C0 dX12_oil_8 rfl rfl ?_
    refine J_goto (q := 61) C0 dX12_oil_9 (by decide) ?_
    exact t_X12_oil_B61 C1    (x1) (0) (some a0) σ (hT) (hE) (h0) (is_O.some (h0)) hf
def f_X12_give_B46 (N : Nat) (a0 : Nat) (v1 : Int32) (s0 : Int32) (s1 : Option Nat) (σ : Sg) : Option (Int32 × Sg) :=
  Option.bind (s1) fun b7 =>
  Option.bind (f_X12_isRefused b7 (s0) σ) fun p8 =>
  if (p8.1) = (0) then
  (Option.bind (f_X12_keep N a0  p8.2) fun p10 =>
  Option.bind (sg_R p10 a0 24) fun b11 =>
  if (18 : Int32) < 0 ∨ sg_L p10 b11 ≤ (18 : Int32).toNatClampNeg then none else
  if (18 : Int32) < 0 ∨ sg_L p10 b11 ≤ (18 : Int32).toNatClampNeg then none else
  Option.bind (sg_R (put_I p10 b11 (18 : Int32).toNatClampNeg ((sg_I p10 b11 (18 : Int32).toNatClampNeg) + (v1))) a0 24) fun b14 =>
  if (18 : Int32) < 0 ∨ sg_L (put_I p10 b11 (18 : Int32).toNatClampNeg ((sg_I p10 b11 (18 : Int32).toNatClampNeg) + (v1))) b14 ≤ (18 : Int32).toNatClampNeg then none else
  some (sg_I (put_I p10 b11 (18 : Int32).toNatClampNeg ((sg_I p10 b11 (18 : Int32).toNatClampNeg) + (v1))) b14 (18 : Int32).toNatClampNeg, put_I p10 b11 (18 : Int32).toNatClampNeg ((sg_I p10 b11 (18 : Int32).toNatClampNeg) + (v1))))
  else
  (some ((-1), p8.2))
def f_X12_give (N : Nat) (a0 : Nat) (x1 : Int32) (σ : Sg) : Option (Int32 × Sg) :=
  if (sg_I σ a0 20) = (0) then
  (f_X12_give_B46 N a0 (x1) (0) (some a0) σ)
  else
  (Option.bind (f_X12_in (x1) (1) (50) ) fun p2 =>
  if (p2) = (0) then
  (f_X12_give_B46 N a0 (x1) (1) (some a0) σ)
  else
  (Option.bind (sg_R σ a0 24) fun b4 =>
  if (18 : Int32) < 0 ∨ sg_L σ b4 ≤ (18 : Int32).toNatClampNeg then none else
  if (999) < ((sg_I σ b4 (18 : Int32).toNatClampNeg) + (x1)) then
  (f_X12_give_B46 N a0 (x1) (3) (some a0) σ)
  else
  (f_X12_give_B46 N a0 (x1) ((-1)) (some a0) σ)))
set_option maxHeartbeats 4000000 in
set_option maxRecDepth 100000 in
theorem t_X12_give_B46 {N : Nat} {a0 : Nat} {Γ : Gm} {σ0 : Sg} {r : (Int32 × Sg)} (C1 : CM Γ cX12_give RX12 2 (some .int) 1 22 0 0 (fun r_ τ_ => (r_ = some (vi r.1)) ∧ τ_ = r.2 ∧ sg_T τ_ ∧ sg_E σ0 τ_)) (v1 : Int32) (s0 : Int32) (s1 : Option Nat) (σ : Sg) (hT : sg_T σ) (hE : sg_E σ0 σ) (h0 : is_A σ a0 11) (g_s1 : is_O σ s1 11) (hf : f_X12_give_B46 N a0  v1 s0 s1 σ = some r) : J_ Γ 46 [(0, vr (some a0)), (1, vi (v1))] [vi (s0), vr (s1)] σ 0 0 := by
  have C0 := C1.1
  unfold f_X12_give_B46 at hf
  refine K_some hf (fun b7 hb7 hf => ?_)
  have ab7 : is_A σ b7 11 := (g_s1) b7 hb7
  refine K_some hf (fun p8 hp8 hf => ?_)
  refine J_callV (q := 49) (ci := 11) (as := [vi (s0)]) (rest := []) C0 hb7 (ab7) (t_X12_isRefused b7 (s0) (hT) (ab7)  hp8) ml_X12_isRefused lk_X12_316 im_X12_isRefused se_X12_isRefused rfl (by decide) dX12_give_46 rfl rfl rfl (by simp [ac_]) C1.room (by decide) (by decide) (by decide) (by decide) (fun r_ τ_ hQ => ?_)
  obtain ⟨⟨rfl, zp8⟩, rfl, Tp8, Ep8⟩ := hQ
  show J_ Γ 49 [(0, vr (some a0)), (1, vi (v1))] [vi (p8.1)] p8.2 0 0
  refine J_if_eq (t := 54) (q := 52) C0 dX12_give_49 (by decide) rfl hf (fun c9 hf => ?_) (fun c9 hf => ?_)
  · refine J_aload_n (q := 55) C0 0 rfl rfl dX12_give_54 rfl trivial ?_
    refine K_some hf (fun p10 hp10 hf => ?_)
    refine J_callV (q := 58) (ci := 11) (as := []) (rest := []) C0 rfl ((Ep8.at h0)) (t_X12_keep N a0  (Tp8) ((Ep8.at h0))  hp10) ml_X12_keep lk_X12_319 im_X12_keep se_X12_keep rfl (by decide) dX12_give_55 rfl rfl rfl (by simp [ac_]) C1.room (by decide) (by decide) (by decide) (by decide) (fun r_ τ_ hQ => ?_)
    obtain ⟨rfl, ht_, Tp10, Ep10⟩ := hQ; have ht_ := ht_.symm; subst ht_
    show J_ Γ 58 [(0, vr (some a0)), (1, vi (v1))] [] p10 0 0
    refine J_aload_n (q := 59) C0 0 rfl rfl dX12_give_58 rfl trivial ?_
    refine J_getR (q := 62) C0 fl_X12_52_11 rfl ((Ep10.at (Ep8.at h0))) rfl dX12_give_59 rfl ?_
    refine J_bipush (q := 64) (v := 18) C0 dX12_give_62 rfl rfl ?_
    refine J_dup2 (q := 65) C0 dX12_give_64 rfl rfl rfl ?_
    refine K_some hf (fun b11 hb11 hf => ?_)
    have ab11 : is_A p10 b11 12 := ((sg_T.op Tp10 (j := 24) ((Ep10.at (Ep8.at h0))) rfl)) b11 hb11
    refine K_chk hf (fun c12 hf => ?_)
    refine J_iald (q := 66) C0 hb11 (ab11) c12 dX12_give_65 rfl ?_
    refine J_iload_n (q := 67) C0 1 rfl rfl dX12_give_66 rfl ?_
    refine J_iadd (q := 68) C0 dX12_give_67 rfl ?_
    refine K_chk hf (fun c13 hf => ?_)
    refine J_iast (q := 69) C0 hb11 (ab11) c13 dX12_give_68 rfl ?_
    refine J_aload_n (q := 70) C0 0 rfl rfl dX12_give_69 rfl trivial ?_
    refine J_getR (q := 73) C0 fl_X12_52_11 rfl (((Ep10.at (Ep8.at h0))).putI) rfl dX12_give_70 rfl ?_
    refine J_bipush (q := 75) (v := 18) C0 dX12_give_73 rfl rfl ?_
    refine K_some hf (fun b14 hb14 hf => ?_)
    have ab14 : is_A (put_I p10 b11 (18 : Int32).toNatClampNeg ((sg_I p10 b11 (18 : Int32).toNatClampNeg) + (v1))) b14 12 := ((sg_T.op (Tp10).putI (j := 24) (((Ep10.at (Ep8.at h0))).putI) rfl)) b14 hb14
    refine K_chk hf (fun c15 hf => ?_)
    refine J_iald (q := 76) C0 hb14 (ab14) c15 dX12_give_75 rfl ?_
    obtain rfl := Option.some.inj hf; exact J_iret C1 dX12_give_76 rfl (Nat.zero_le _) (Nat.zero_le _) ⟨rfl, rfl, (Tp10).putI, (((hE).tr Ep8).tr Ep10).putI⟩
  · refine J_iconst (q := 53) (v := (-1)) C0 dX12_give_52 rfl rfl ?_
    obtain rfl := Option.some.inj hf; exact J_iret C1 dX12_give_53 rfl (Nat.zero_le _) (Nat.zero_le _) ⟨rfl, rfl, Tp8, (hE).tr Ep8⟩
set_option maxHeartbeats 4000000 in
set_option maxRecDepth 100000 in
theorem t_X12_give (N : Nat) (a0 : Nat) (x1 : Int32) {σ : Sg} (hT : sg_T σ) (h0 : is_A σ a0 11) {r : (Int32 × Sg)} (hf : f_X12_give N a0 x1 σ = some r) : Ct yX12_give cX12_give 2 (some .int) 1 22 0 0 [vr (some a0), vi x1] σ (fun r_ τ_ => (r_ = some (vi r.1)) ∧ τ_ = r.2 ∧ sg_T τ_ ∧ sg_E σ τ_) := by
  refine Ct.of (by decide +kernel) (Nat.le_of_ble_eq_true rfl) (fun Γ C1 => ?_)
  have C0 := C1.1
  have hE : sg_E σ σ := sg_E.rf
  unfold f_X12_give at hf
  show J_ Γ 0 [(0, vr (some a0)), (1, vi (x1))] [] σ 0 0
  refine J_aload_n (q := 1) C0 0 rfl rfl dX12_give_0 rfl trivial ?_
  refine J_aload_n (q := 2) C0 0 rfl rfl dX12_give_1 rfl trivial ?_
  refine J_getI (q := 5) C0 fl_X12_263_11 rfl (h0) rfl dX12_give_2 rfl ?_
  refine J_if_ne (t := 12) (q := 8) C0 dX12_give_5 (by decide) rfl hf (fun c1 hf => ?_) (fun c1 hf => ?_)
  · refine J_iload_n (q := 13) C0 1 rfl rfl dX12_give_12 rfl ?_
    refine J_iconst (q := 14) (v := 1) C0 dX12_give_13 rfl rfl ?_
    refine J_bipush (q := 16) (v := 50) C0 dX12_give_14 rfl rfl ?_
    refine K_some hf (fun p2 hp2 hf => ?_)
    refine J_callS (q := 19) (as := [vi (x1), vi (1), vi (50)]) (rest := [vr (some a0)]) C0 (t_X12_in (x1) (1) (50)  hp2) ml_X12_in lk_X12_208 sm_X12_in dX12_give_16 rfl rfl rfl (by simp [ac_]) C1.room (by decide) (by decide) (by decide) (by decide) (fun r_ τ_ hQ => ?_)
    obtain ⟨⟨rfl, zp2⟩, ht_⟩ := hQ; have ht_ := ht_.symm; subst ht_
    show J_ Γ 19 [(0, vr (some a0)), (1, vi (x1))] [vi (p2), vr (some a0)] σ 0 0
    refine J_if_ne (t := 26) (q := 22) C0 dX12_give_19 (by decide) rfl hf (fun c3 hf => ?_) (fun c3 hf => ?_)
    · refine J_aload_n (q := 27) C0 0 rfl rfl dX12_give_26 rfl trivial ?_
      refine J_getR (q := 30) C0 fl_X12_52_11 rfl (h0) rfl dX12_give_27 rfl ?_
      refine J_bipush (q := 32) (v := 18) C0 dX12_give_30 rfl rfl ?_
      refine K_some hf (fun b4 hb4 hf => ?_)
      have ab4 : is_A σ b4 12 := ((sg_T.op hT (j := 24) (h0) rfl)) b4 hb4
      refine K_chk hf (fun c5 hf => ?_)
      refine J_iald (q := 33) C0 hb4 (ab4) c5 dX12_give_32 rfl ?_
      refine J_iload_n (q := 34) C0 1 rfl rfl dX12_give_33 rfl ?_
      refine J_iadd (q := 35) C0 dX12_give_34 rfl ?_
      refine J_sipush (q := 38) (v := 999) C0 dX12_give_35 rfl rfl ?_
      refine J_icmp_le (t := 45) (q := 41) C0 dX12_give_38 (by decide) rfl hf (fun c6 hf => ?_) (fun c6 hf => ?_)
      · refine J_iconst (q := 46) (v := (-1)) C0 dX12_give_45 rfl rfl ?_
        exact t_X12_give_B46 C1    (x1) ((-1)) (some a0) σ (hT) (hE) (h0) (is_O.some (h0)) hf
      · refine J_iconst (q := 42) (v := 3) C0 dX12_give_41 rfl rfl ?_
        refine J_goto (q := 46) C0 dX12_give_42 (by decide) ?_
        exact t_X12_give_B46 C1    (x1) (3) (some a0) σ (hT) (hE) (h0) (is_O.some (h0)) hf
    · refine J_iconst (q := 23) (v := 1) C0 dX12_give_22 rfl rfl ?_
      refine J_goto (q := 46) C0 dX12_give_23 (by decide) ?_
      exact t_X12_give_B46 C1    (x1) (1) (some a0) σ (hT) (hE) (h0) (is_O.some (h0)) hf
  · refine J_iconst (q := 9) (v := 0) C0 dX12_give_8 rfl rfl ?_
    refine J_goto (q := 46) C0 dX12_give_9 (by decide) ?_
    exact t_X12_give_B46 C1    (x1) (0) (some a0) σ (hT) (hE) (h0) (is_O.some (h0)) hf
def f_X12_draw (a0 : Nat) (x1 : Int32) (σ : Sg) : Option (Int32 × Sg) :=
  if ((x1).toInt64) = 0 then none else
  some ((rm_L (((sg_J (put_J σ a0 30 (((sg_J σ a0 30) * (6364136223846793005)) + (1442695040888963407))) a0 30).toUInt64 >>> ((33 : Int32).toInt64.toUInt64 &&& Int64.toUInt64 63)).toInt64) ((x1).toInt64)).toInt32, put_J σ a0 30 (((sg_J σ a0 30) * (6364136223846793005)) + (1442695040888963407)))
set_option maxHeartbeats 4000000 in
set_option maxRecDepth 100000 in
theorem t_X12_draw (a0 : Nat) (x1 : Int32) {σ : Sg} (hT : sg_T σ) (h0 : is_A σ a0 11) {r : (Int32 × Sg)} (hf : f_X12_draw a0 x1 σ = some r) : Ct yX12_draw cX12_draw 2 (some .int) 0 0 0 0 [vr (some a0), vi x1] σ (fun r_ τ_ => (r_ = some (vi r.1)) ∧ τ_ = r.2 ∧ sg_T τ_ ∧ sg_E σ τ_) := by
  refine Ct.of (by decide +kernel) (Nat.le_of_ble_eq_true rfl) (fun Γ C1 => ?_)
  have C0 := C1.1
  have hE : sg_E σ σ := sg_E.rf
  unfold f_X12_draw at hf
  show J_ Γ 0 [(0, vr (some a0)), (1, vi (x1))] [] σ 0 0
  refine J_aload_n (q := 1) C0 0 rfl rfl dX12_draw_0 rfl trivial ?_
  refine J_aload_n (q := 2) C0 0 rfl rfl dX12_draw_1 rfl trivial ?_
  refine J_getJ (q := 5) C0 fl_X12_328_11 rfl (h0) rfl dX12_draw_2 rfl ?_
  refine J_ldc2_w (q := 8) C0 kc_X12_332 dX12_draw_5 rfl ?_
  refine J_lmul (q := 9) C0 dX12_draw_8 rfl ?_
  refine J_ldc2_w (q := 12) C0 kc_X12_334 dX12_draw_9 rfl ?_
  refine J_ladd (q := 13) C0 dX12_draw_12 rfl ?_
  refine J_putJ (q := 16) C0 fl_X12_328_11 rfl (h0) rfl dX12_draw_13 rfl ?_
  refine J_aload_n (q := 17) C0 0 rfl rfl dX12_draw_16 rfl trivial ?_
  refine J_getJ (q := 20) C0 fl_X12_328_11 rfl ((h0).putJ) rfl dX12_draw_17 rfl ?_
  refine J_bipush (q := 22) (v := 33) C0 dX12_draw_20 rfl rfl ?_
  refine J_lushr (q := 23) (v := ((sg_J (put_J σ a0 30 (((sg_J σ a0 30) * (6364136223846793005)) + (1442695040888963407))) a0 30).toUInt64 >>> ((33 : Int32).toInt64.toUInt64 &&& Int64.toUInt64 63)).toInt64) C0 dX12_draw_22 rfl rfl ?_
  refine J_iload_n (q := 24) C0 1 rfl rfl dX12_draw_23 rfl ?_
  refine J_i2l (q := 25) C0 dX12_draw_24 rfl ?_
  refine K_chk hf (fun c1 hf => ?_)
  refine J_lrem (q := 26) C0 dX12_draw_25 rfl c1 ?_
  refine J_l2i (q := 27) C0 dX12_draw_26 rfl ?_
  obtain rfl := Option.some.inj hf; exact J_iret C1 dX12_draw_27 rfl (Nat.zero_le _) (Nat.zero_le _) ⟨rfl, rfl, (hT).putJ, (hE).putJ⟩
def f_X12_drawTick_B70 (a0 : Nat) (σ : Sg) : Option Sg :=
  Option.bind (sg_R σ a0 24) fun b5 =>
  if (17 : Int32) < 0 ∨ sg_L σ b5 ≤ (17 : Int32).toNatClampNeg then none else
  Option.bind (f_J9_min_7cf53 (999) ((sg_I σ b5 (17 : Int32).toNatClampNeg) + (1)) ) fun p7 =>
  if (17 : Int32) < 0 ∨ sg_L σ b5 ≤ (17 : Int32).toNatClampNeg then none else
  some (put_I σ b5 (17 : Int32).toNatClampNeg (p7))
def f_X12_drawTick_B35 (a0 : Nat) (σ : Sg) : Option Sg :=
  Option.bind (f_X12_draw a0 (10) σ) fun p3 =>
  if (p3.1) < (2) then
  (Option.bind (f_X12_draw a0 (sg_I p3.2 a0 20) p3.2) fun p9 =>
  Option.bind (f_X12_draw a0 (10) p9.2) fun p10 =>
  Option.bind (sg_R p9.2 a0 24) fun b11 =>
  if (((4) * (p9.1)) + (0)) < 0 ∨ sg_L p10.2 b11 ≤ (((4) * (p9.1)) + (0)).toNatClampNeg then none else
  f_X12_drawTick_B70 a0  (put_I p10.2 b11 (((4) * (p9.1)) + (0)).toNatClampNeg (p10.1)))
  else
  (f_X12_drawTick_B70 a0  (p3.2))
def f_X12_drawTick (a0 : Nat) (σ : Sg) : Option Sg :=
  Option.bind (f_X12_draw a0 (10) σ) fun p1 =>
  if (p1.1) < (sg_I p1.2 a0 27) then
  (Option.bind (f_X12_draw a0 (sg_I p1.2 a0 20) p1.2) fun p13 =>
  Option.bind (f_X12_draw a0 (9) p13.2) fun p14 =>
  Option.bind (f_X12_pushNow a0 (p13.1) ((p14.1) + (1)) p14.2) fun p15 =>
  f_X12_drawTick_B35 a0  (p15))
  else
  (f_X12_drawTick_B35 a0  (p1.2))
set_option maxHeartbeats 4000000 in
set_option maxRecDepth 100000 in
theorem t_X12_drawTick_B70 {a0 : Nat} {Γ : Gm} {σ0 : Sg} {r : Sg} (C1 : CM Γ cX12_drawTick RX12 2 none 3 65 0 0 (fun r_ τ_ => (r_ = none) ∧ τ_ = r ∧ sg_T τ_ ∧ sg_E σ0 τ_)) (σ : Sg) (hT : sg_T σ) (hE : sg_E σ0 σ) (h0 : is_A σ a0 11) (hf : f_X12_drawTick_B70 a0   σ = some r) : J_ Γ 70 [(0, vr (some a0))] [] σ 0 0 := by
  have C0 := C1.1
  unfold f_X12_drawTick_B70 at hf
  refine J_aload_n (q := 71) C0 0 rfl rfl dX12_drawTick_70 rfl trivial ?_
  refine J_getR (q := 74) C0 fl_X12_52_11 rfl (h0) rfl dX12_drawTick_71 rfl ?_
  refine J_bipush (q := 76) (v := 17) C0 dX12_drawTick_74 rfl rfl ?_
  refine J_sipush (q := 79) (v := 999) C0 dX12_drawTick_76 rfl rfl ?_
  refine J_aload_n (q := 80) C0 0 rfl rfl dX12_drawTick_79 rfl trivial ?_
  refine J_getR (q := 83) C0 fl_X12_52_11 rfl (h0) rfl dX12_drawTick_80 rfl ?_
  refine J_bipush (q := 85) (v := 17) C0 dX12_drawTick_83 rfl rfl ?_
  refine K_some hf (fun b5 hb5 hf => ?_)
  have ab5 : is_A σ b5 12 := ((sg_T.op hT (j := 24) (h0) rfl)) b5 hb5
  refine K_chk hf (fun c6 hf => ?_)
  refine J_iald (q := 86) C0 hb5 (ab5) c6 dX12_drawTick_85 rfl ?_
  refine J_iconst (q := 87) (v := 1) C0 dX12_drawTick_86 rfl rfl ?_
  refine J_iadd (q := 88) C0 dX12_drawTick_87 rfl ?_
  refine K_some hf (fun p7 hp7 hf => ?_)
  refine J_callS (q := 91) (as := [vi (999), vi ((sg_I σ b5 (17 : Int32).toNatClampNeg) + (1))]) (rest := [vi (17), vr (sg_R σ a0 24)]) C0 (t_J9_min_7cf53 (999) ((sg_I σ b5 (17 : Int32).toNatClampNeg) + (1))  hp7) ml_J9_min_7cf53 lk_X12_288 sm_J9_min_7cf53 dX12_drawTick_88 rfl rfl rfl (by simp [ac_]) C1.room (by decide) (by decide) (by decide) (by decide) (fun r_ τ_ hQ => ?_)
  obtain ⟨rfl, ht_⟩ := hQ; have ht_ := ht_.symm; subst ht_
  show J_ Γ 91 [(0, vr (some a0))] [vi (p7), vi (17), vr (sg_R σ a0 24)] σ 0 0
  refine K_chk hf (fun c8 hf => ?_)
  refine J_iast (q := 92) C0 hb5 (ab5) c8 dX12_drawTick_91 rfl ?_
  obtain rfl := Option.some.inj hf; exact J_vret C1 dX12_drawTick_92 rfl (Nat.zero_le _) (Nat.zero_le _) ⟨rfl, rfl, (hT).putI, (hE).putI⟩
set_option maxHeartbeats 4000000 in
set_option maxRecDepth 100000 in
theorem t_X12_drawTick_B35 {a0 : Nat} {Γ : Gm} {σ0 : Sg} {r : Sg} (C1 : CM Γ cX12_drawTick RX12 2 none 3 65 0 0 (fun r_ τ_ => (r_ = none) ∧ τ_ = r ∧ sg_T τ_ ∧ sg_E σ0 τ_)) (σ : Sg) (hT : sg_T σ) (hE : sg_E σ0 σ) (h0 : is_A σ a0 11) (hf : f_X12_drawTick_B35 a0   σ = some r) : J_ Γ 35 [(0, vr (some a0))] [] σ 0 0 := by
  have C0 := C1.1
  unfold f_X12_drawTick_B35 at hf
  refine J_aload_n (q := 36) C0 0 rfl rfl dX12_drawTick_35 rfl trivial ?_
  refine J_bipush (q := 38) (v := 10) C0 dX12_drawTick_36 rfl rfl ?_
  refine K_some hf (fun p3 hp3 hf => ?_)
  refine J_callV (q := 41) (ci := 11) (as := [vi (10)]) (rest := []) C0 rfl (h0) (t_X12_draw a0 (10) (hT) (h0)  hp3) ml_X12_draw lk_X12_336 im_X12_draw se_X12_draw rfl (by decide) dX12_drawTick_38 rfl rfl rfl (by simp [ac_]) C1.room (by decide) (by decide) (by decide) (by decide) (fun r_ τ_ hQ => ?_)
  obtain ⟨rfl, rfl, Tp3, Ep3⟩ := hQ
  show J_ Γ 41 [(0, vr (some a0))] [vi (p3.1)] p3.2 0 0
  refine J_iconst (q := 42) (v := 2) C0 dX12_drawTick_41 rfl rfl ?_
  refine J_icmp_ge (t := 70) (q := 45) C0 dX12_drawTick_42 (by decide) rfl hf (fun c4 hf => ?_) (fun c4 hf => ?_)
  · exact t_X12_drawTick_B70 C1     (p3.2) (Tp3) ((hE).tr Ep3) ((Ep3.at h0))  hf
  · refine J_aload_n (q := 46) C0 0 rfl rfl dX12_drawTick_45 rfl trivial ?_
    refine J_aload_n (q := 47) C0 0 rfl rfl dX12_drawTick_46 rfl trivial ?_
    refine J_getI (q := 50) C0 fl_X12_263_11 rfl ((Ep3.at h0)) rfl dX12_drawTick_47 rfl ?_
    refine K_some hf (fun p9 hp9 hf => ?_)
    refine J_callV (q := 53) (ci := 11) (as := [vi (sg_I p3.2 a0 20)]) (rest := []) C0 rfl ((Ep3.at h0)) (t_X12_draw a0 (sg_I p3.2 a0 20) (Tp3) ((Ep3.at h0))  hp9) ml_X12_draw lk_X12_336 im_X12_draw se_X12_draw rfl (by decide) dX12_drawTick_50 rfl rfl rfl (by simp [ac_]) C1.room (by decide) (by decide) (by decide) (by decide) (fun r_ τ_ hQ => ?_)
    obtain ⟨rfl, rfl, Tp9, Ep9⟩ := hQ
    show J_ Γ 53 [(0, vr (some a0))] [vi (p9.1)] p9.2 0 0
    refine J_istore_n (q := 54) (lv' := [(1, vi (p9.1)), (0, vr (some a0))]) C0 rfl (G_nl C1 (by decide)) dX12_drawTick_53 rfl rfl ?_
    refine J_aload_n (q := 55) C0 1 rfl rfl dX12_drawTick_54 rfl trivial ?_
    refine J_getR (q := 58) C0 fl_X12_52_11 rfl ((Ep9.at (Ep3.at h0))) rfl dX12_drawTick_55 rfl ?_
    refine J_iconst (q := 59) (v := 4) C0 dX12_drawTick_58 rfl rfl ?_
    refine J_iload_n (q := 60) C0 0 rfl rfl dX12_drawTick_59 rfl ?_
    refine J_imul (q := 61) C0 dX12_drawTick_60 rfl ?_
    refine J_iconst (q := 62) (v := 0) C0 dX12_drawTick_61 rfl rfl ?_
    refine J_iadd (q := 63) C0 dX12_drawTick_62 rfl ?_
    refine J_aload_n (q := 64) C0 1 rfl rfl dX12_drawTick_63 rfl trivial ?_
    refine J_bipush (q := 66) (v := 10) C0 dX12_drawTick_64 rfl rfl ?_
    refine K_some hf (fun p10 hp10 hf => ?_)
    refine J_callV (q := 69) (ci := 11) (as := [vi (10)]) (rest := [vi (((4) * (p9.1)) + (0)), vr (sg_R p9.2 a0 24)]) C0 rfl ((Ep9.at (Ep3.at h0))) (t_X12_draw a0 (10) (Tp9) ((Ep9.at (Ep3.at h0)))  hp10) ml_X12_draw lk_X12_336 im_X12_draw se_X12_draw rfl (by decide) dX12_drawTick_66 rfl rfl rfl (by simp [ac_]) C1.room (by decide) (by decide) (by decide) (by decide) (fun r_ τ_ hQ => ?_)
    obtain ⟨rfl, rfl, Tp10, Ep10⟩ := hQ
    show J_ Γ 69 [(1, vi (p9.1)), (0, vr (some a0))] [vi (p10.1), vi (((4) * (p9.1)) + (0)), vr (sg_R p9.2 a0 24)] p10.2 0 0
    refine K_some hf (fun b11 hb11 hf => ?_)
    have ab11 : is_A p10.2 b11 12 := ((Ep10.op (sg_T.op Tp9 (j := 24) ((Ep9.at (Ep3.at h0))) rfl))) b11 hb11
    refine K_chk hf (fun c12 hf => ?_)
    refine J_iast (q := 70) C0 hb11 (ab11) c12 dX12_drawTick_69 rfl ?_
    refine J_sub (lv' := [(0, vr (some a0))]) [1] rfl ?_
    exact t_X12_drawTick_B70 C1     (put_I p10.2 b11 (((4) * (p9.1)) + (0)).toNatClampNeg (p10.1)) ((Tp10).putI) (((((hE).tr Ep3).tr Ep9).tr Ep10).putI) (((Ep10.at (Ep9.at (Ep3.at h0)))).putI)  hf
set_option maxHeartbeats 4000000 in
set_option maxRecDepth 100000 in
theorem t_X12_drawTick (a0 : Nat) {σ : Sg} (hT : sg_T σ) (h0 : is_A σ a0 11) {r : Sg} (hf : f_X12_drawTick a0  σ = some r) : Ct yX12_drawTick cX12_drawTick 2 none 3 65 0 0 [vr (some a0)] σ (fun r_ τ_ => (r_ = none) ∧ τ_ = r ∧ sg_T τ_ ∧ sg_E σ τ_) := by
  refine Ct.of (by decide +kernel) (Nat.le_of_ble_eq_true rfl) (fun Γ C1 => ?_)
  have C0 := C1.1
  have hE : sg_E σ σ := sg_E.rf
  unfold f_X12_drawTick at hf
  show J_ Γ 0 [(0, vr (some a0))] [] σ 0 0
  refine J_aload_n (q := 1) C0 0 rfl rfl dX12_drawTick_0 rfl trivial ?_
  refine J_bipush (q := 3) (v := 10) C0 dX12_drawTick_1 rfl rfl ?_
  refine K_some hf (fun p1 hp1 hf => ?_)
  refine J_callV (q := 6) (ci := 11) (as := [vi (10)]) (rest := []) C0 rfl (h0) (t_X12_draw a0 (10) (hT) (h0)  hp1) ml_X12_draw lk_X12_336 im_X12_draw se_X12_draw rfl (by decide) dX12_drawTick_3 rfl rfl rfl (by simp [ac_]) C1.room (by decide) (by decide) (by decide) (by decide) (fun r_ τ_ hQ => ?_)
  obtain ⟨rfl, rfl, Tp1, Ep1⟩ := hQ
  show J_ Γ 6 [(0, vr (some a0))] [vi (p1.1)] p1.2 0 0
  refine J_aload_n (q := 7) C0 0 rfl rfl dX12_drawTick_6 rfl trivial ?_
  refine J_getI (q := 10) C0 fl_X12_62_11 rfl ((Ep1.at h0)) rfl dX12_drawTick_7 rfl ?_
  refine J_icmp_ge (t := 35) (q := 13) C0 dX12_drawTick_10 (by decide) rfl hf (fun c2 hf => ?_) (fun c2 hf => ?_)
  · exact t_X12_drawTick_B35 C1     (p1.2) (Tp1) ((hE).tr Ep1) ((Ep1.at h0))  hf
  · refine J_aload_n (q := 14) C0 0 rfl rfl dX12_drawTick_13 rfl trivial ?_
    refine J_aload_n (q := 15) C0 0 rfl rfl dX12_drawTick_14 rfl trivial ?_
    refine J_getI (q := 18) C0 fl_X12_263_11 rfl ((Ep1.at h0)) rfl dX12_drawTick_15 rfl ?_
    refine K_some hf (fun p13 hp13 hf => ?_)
    refine J_callV (q := 21) (ci := 11) (as := [vi (sg_I p1.2 a0 20)]) (rest := []) C0 rfl ((Ep1.at h0)) (t_X12_draw a0 (sg_I p1.2 a0 20) (Tp1) ((Ep1.at h0))  hp13) ml_X12_draw lk_X12_336 im_X12_draw se_X12_draw rfl (by decide) dX12_drawTick_18 rfl rfl rfl (by simp [ac_]) C1.room (by decide) (by decide) (by decide) (by decide) (fun r_ τ_ hQ => ?_)
    obtain ⟨rfl, rfl, Tp13, Ep13⟩ := hQ
    show J_ Γ 21 [(0, vr (some a0))] [vi (p13.1)] p13.2 0 0
    refine J_istore_n (q := 22) (lv' := [(1, vi (p13.1)), (0, vr (some a0))]) C0 rfl (G_nl C1 (by decide)) dX12_drawTick_21 rfl rfl ?_
    refine J_aload_n (q := 23) C0 1 rfl rfl dX12_drawTick_22 rfl trivial ?_
    refine J_iload_n (q := 24) C0 0 rfl rfl dX12_drawTick_23 rfl ?_
    refine J_aload_n (q := 25) C0 1 rfl rfl dX12_drawTick_24 rfl trivial ?_
    refine J_bipush (q := 27) (v := 9) C0 dX12_drawTick_25 rfl rfl ?_
    refine K_some hf (fun p14 hp14 hf => ?_)
    refine J_callV (q := 30) (ci := 11) (as := [vi (9)]) (rest := [vi (p13.1), vr (some a0)]) C0 rfl ((Ep13.at (Ep1.at h0))) (t_X12_draw a0 (9) (Tp13) ((Ep13.at (Ep1.at h0)))  hp14) ml_X12_draw lk_X12_336 im_X12_draw se_X12_draw rfl (by decide) dX12_drawTick_27 rfl rfl rfl (by simp [ac_]) C1.room (by decide) (by decide) (by decide) (by decide) (fun r_ τ_ hQ => ?_)
    obtain ⟨rfl, rfl, Tp14, Ep14⟩ := hQ
    show J_ Γ 30 [(1, vi (p13.1)), (0, vr (some a0))] [vi (p14.1), vi (p13.1), vr (some a0)] p14.2 0 0
    refine J_iconst (q := 31) (v := 1) C0 dX12_drawTick_30 rfl rfl ?_
    refine J_iadd (q := 32) C0 dX12_drawTick_31 rfl ?_
    refine K_some hf (fun p15 hp15 hf => ?_)
    refine J_callV (q := 35) (ci := 11) (as := [vi (p13.1), vi ((p14.1) + (1))]) (rest := []) C0 rfl ((Ep14.at (Ep13.at (Ep1.at h0)))) (t_X12_pushNow a0 (p13.1) ((p14.1) + (1)) (Tp14) ((Ep14.at (Ep13.at (Ep1.at h0))))  hp15) ml_X12_pushNow lk_X12_325 im_X12_pushNow se_X12_pushNow rfl (by decide) dX12_drawTick_32 rfl rfl rfl (by simp [ac_]) C1.room (by decide) (by decide) (by decide) (by decide) (fun r_ τ_ hQ => ?_)
    obtain ⟨rfl, ht_, Tp15, Ep15⟩ := hQ; have ht_ := ht_.symm; subst ht_
    show J_ Γ 35 [(1, vi (p13.1)), (0, vr (some a0))] [] p15 0 0
    refine J_sub (lv' := [(0, vr (some a0))]) [1] rfl ?_
    exact t_X12_drawTick_B35 C1     (p15) (Tp15) (((((hE).tr Ep1).tr Ep13).tr Ep14).tr Ep15) ((Ep15.at (Ep14.at (Ep13.at (Ep1.at h0)))))  hf
def f_X12_years_L25 (N : Nat) (a0 : Nat) : Nat → Int32 → Int32 → Sg → Option (Int32 × Sg)
  | 0, _, _, _ => none
  | n + 1, v1, v4, σ =>
  if (v4) < (v1) then
  (Option.bind (f_X12_keep N a0  σ) fun p7 =>
  Option.bind (f_X12_drawTick a0  p7) fun p8 =>
  Option.bind (f_X12_passTick N a0  p8) fun p9 =>
  f_X12_years_L25 N a0 n (v1) (v4 + 1) (p9))
  else
  (Option.bind (sg_R σ a0 24) fun b5 =>
  if (19 : Int32) < 0 ∨ sg_L σ b5 ≤ (19 : Int32).toNatClampNeg then none else
  some (sg_I σ b5 (19 : Int32).toNatClampNeg, σ))
def f_X12_years (N : Nat) (a0 : Nat) (x1 : Int32) (x2 : Int64) (σ : Sg) : Option (Int32 × Sg) :=
  if (sg_I σ a0 20) = (0) then
  (some ((-1), σ))
  else
  (Option.bind (f_X12_areTicks a0 (x1) σ) fun p2 =>
  if (p2) = (0) then
  (some ((-1), σ))
  else
  (f_X12_years_L25 N a0 N (x1) (0) (put_J σ a0 30 (x2))))
set_option maxHeartbeats 4000000 in
set_option maxRecDepth 100000 in
theorem t_X12_years_L25 {N : Nat} {a0 : Nat} {Γ : Gm} {σ0 : Sg} {r : (Int32 × Sg)} (C1 : CM Γ cX12_years RX12 5 (some .int) 8 183 0 0 (fun r_ τ_ => (r_ = some (vi r.1)) ∧ τ_ = r.2 ∧ sg_T τ_ ∧ sg_E σ0 τ_)) : ∀ (n : Nat) (v1 : Int32) (v4 : Int32) (σ : Sg), sg_T σ → sg_E σ0 σ → is_A σ a0 11 → f_X12_years_L25 N a0  n v1 v4 σ = some r → J_ Γ 25 [(0, vr (some a0)), (1, vi (v1)), (4, vi (v4))] [] σ 0 0 := by
  have C0 := C1.1
  intro n
  induction n with
  | zero => intro v1 v4 σ hT hE h0  hf; unfold f_X12_years_L25 at hf; cases hf
  | succ n ih =>
    intro v1 v4 σ hT hE h0  hf
    rw [f_X12_years_L25] at hf
    refine J_iload (q := 27) C0 2 rfl dX12_years_25 rfl ?_
    refine J_iload_n (q := 28) C0 1 rfl rfl dX12_years_27 rfl ?_
    refine J_icmp_ge (t := 49) (q := 31) C0 dX12_years_28 (by decide) rfl hf (fun c4 hf => ?_) (fun c4 hf => ?_)
    · refine J_aload_n (q := 50) C0 0 rfl rfl dX12_years_49 rfl trivial ?_
      refine J_getR (q := 53) C0 fl_X12_52_11 rfl (h0) rfl dX12_years_50 rfl ?_
      refine J_bipush (q := 55) (v := 19) C0 dX12_years_53 rfl rfl ?_
      refine K_some hf (fun b5 hb5 hf => ?_)
      have ab5 : is_A σ b5 12 := ((sg_T.op hT (j := 24) (h0) rfl)) b5 hb5
      refine K_chk hf (fun c6 hf => ?_)
      refine J_iald (q := 56) C0 hb5 (ab5) c6 dX12_years_55 rfl ?_
      obtain rfl := Option.some.inj hf; exact J_iret C1 dX12_years_56 rfl (Nat.zero_le _) (Nat.zero_le _) ⟨rfl, rfl, hT, hE⟩
    · refine J_aload_n (q := 32) C0 0 rfl rfl dX12_years_31 rfl trivial ?_
      refine K_some hf (fun p7 hp7 hf => ?_)
      refine J_callV (q := 35) (ci := 11) (as := []) (rest := []) C0 rfl (h0) (t_X12_keep N a0  (hT) (h0)  hp7) ml_X12_keep lk_X12_319 im_X12_keep se_X12_keep rfl (by decide) dX12_years_32 rfl rfl rfl (by simp [ac_]) C1.room (by decide) (by decide) (by decide) (by decide) (fun r_ τ_ hQ => ?_)
      obtain ⟨rfl, ht_, Tp7, Ep7⟩ := hQ; have ht_ := ht_.symm; subst ht_
      show J_ Γ 35 [(0, vr (some a0)), (1, vi (v1)), (4, vi (v4))] [] p7 0 0
      refine J_aload_n (q := 36) C0 0 rfl rfl dX12_years_35 rfl trivial ?_
      refine K_some hf (fun p8 hp8 hf => ?_)
      refine J_callV (q := 39) (ci := 11) (as := []) (rest := []) C0 rfl ((Ep7.at h0)) (t_X12_drawTick a0  (Tp7) ((Ep7.at h0))  hp8) ml_X12_drawTick lk_X12_339 im_X12_drawTick se_X12_drawTick rfl (by decide) dX12_years_36 rfl rfl rfl (by simp [ac_]) C1.room (by decide) (by decide) (by decide) (by decide) (fun r_ τ_ hQ => ?_)
      obtain ⟨rfl, ht_, Tp8, Ep8⟩ := hQ; have ht_ := ht_.symm; subst ht_
      show J_ Γ 39 [(0, vr (some a0)), (1, vi (v1)), (4, vi (v4))] [] p8 0 0
      refine J_aload_n (q := 40) C0 0 rfl rfl dX12_years_39 rfl trivial ?_
      refine K_some hf (fun p9 hp9 hf => ?_)
      refine J_callV (q := 43) (ci := 11) (as := []) (rest := []) C0 rfl ((Ep8.at (Ep7.at h0))) (t_X12_passTick N a0  (Tp8) ((Ep8.at (Ep7.at h0)))  hp9) ml_X12_passTick lk_X12_322 im_X12_passTick se_X12_passTick rfl (by decide) dX12_years_40 rfl rfl rfl (by simp [ac_]) C1.room (by decide) (by decide) (by decide) (by decide) (fun r_ τ_ hQ => ?_)
      obtain ⟨rfl, ht_, Tp9, Ep9⟩ := hQ; have ht_ := ht_.symm; subst ht_
      show J_ Γ 43 [(0, vr (some a0)), (1, vi (v1)), (4, vi (v4))] [] p9 0 0
      refine J_iinc (q := 46) (v := v4 + 1) (lv' := [(4, vi (v4 + 1)), (0, vr (some a0)), (1, vi (v1))]) C0 2 rfl rfl (G_nl C1 (by decide)) dX12_years_43 rfl rfl ?_
      refine J_goto (q := 25) C0 dX12_years_46 (by decide) ?_
      refine J_sub (lv' := [(0, vr (some a0)), (1, vi (v1)), (4, vi (v4 + 1))]) [1, 2, 0] rfl ?_
      exact ih (v1) (v4 + 1) (p9) (Tp9) ((((hE).tr Ep7).tr Ep8).tr Ep9) ((Ep9.at (Ep8.at (Ep7.at h0))))  hf
set_option maxHeartbeats 4000000 in
set_option maxRecDepth 100000 in
theorem t_X12_years (N : Nat) (a0 : Nat) (x1 : Int32) (x2 : Int64) {σ : Sg} (hT : sg_T σ) (h0 : is_A σ a0 11) {r : (Int32 × Sg)} (hf : f_X12_years N a0 x1 x2 σ = some r) : Ct yX12_years cX12_years 5 (some .int) 8 183 0 0 [vr (some a0), vi x1, vl x2] σ (fun r_ τ_ => (r_ = some (vi r.1)) ∧ τ_ = r.2 ∧ sg_T τ_ ∧ sg_E σ τ_) := by
  refine Ct.of (by decide +kernel) (Nat.le_of_ble_eq_true rfl) (fun Γ C1 => ?_)
  have C0 := C1.1
  have hE : sg_E σ σ := sg_E.rf
  unfold f_X12_years at hf
  show J_ Γ 0 [(0, vr (some a0)), (1, vi (x1)), (2, vl (x2))] [] σ 0 0
  refine J_aload_n (q := 1) C0 0 rfl rfl dX12_years_0 rfl trivial ?_
  refine J_getI (q := 4) C0 fl_X12_263_11 rfl (h0) rfl dX12_years_1 rfl ?_
  refine J_if_eq (t := 15) (q := 7) C0 dX12_years_4 (by decide) rfl hf (fun c1 hf => ?_) (fun c1 hf => ?_)
  · refine J_iconst (q := 16) (v := (-1)) C0 dX12_years_15 rfl rfl ?_
    obtain rfl := Option.some.inj hf; exact J_iret C1 dX12_years_16 rfl (Nat.zero_le _) (Nat.zero_le _) ⟨rfl, rfl, hT, hE⟩
  · refine J_aload_n (q := 8) C0 0 rfl rfl dX12_years_7 rfl trivial ?_
    refine J_iload_n (q := 9) C0 1 rfl rfl dX12_years_8 rfl ?_
    refine K_some hf (fun p2 hp2 hf => ?_)
    refine J_callV (q := 12) (ci := 11) (as := [vi (x1)]) (rest := []) C0 rfl (h0) (t_X12_areTicks a0 (x1) (hT) (h0)  hp2) ml_X12_areTicks lk_X12_313 im_X12_areTicks se_X12_areTicks rfl (by decide) dX12_years_9 rfl rfl rfl (by simp [ac_]) C1.room (by decide) (by decide) (by decide) (by decide) (fun r_ τ_ hQ => ?_)
    obtain ⟨⟨rfl, zp2⟩, ht_⟩ := hQ; have ht_ := ht_.symm; subst ht_
    show J_ Γ 12 [(0, vr (some a0)), (1, vi (x1)), (2, vl (x2))] [vi (p2)] σ 0 0
    refine J_if_ne (t := 17) (q := 15) C0 dX12_years_12 (by decide) rfl hf (fun c3 hf => ?_) (fun c3 hf => ?_)
    · refine J_aload_n (q := 18) C0 0 rfl rfl dX12_years_17 rfl trivial ?_
      refine J_lload_n (q := 19) C0 2 rfl rfl dX12_years_18 rfl ?_
      refine J_putJ (q := 22) C0 fl_X12_328_11 rfl (h0) rfl dX12_years_19 rfl ?_
      refine J_iconst (q := 23) (v := 0) C0 dX12_years_22 rfl rfl ?_
      refine J_istore (q := 25) (lv' := [(4, vi (0)), (0, vr (some a0)), (1, vi (x1)), (2, vl (x2))]) C0 (G_nl C1 (by decide)) dX12_years_23 rfl rfl ?_
      refine J_sub (lv' := [(0, vr (some a0)), (1, vi (x1)), (4, vi (0))]) [1, 2, 0] rfl ?_
      exact t_X12_years_L25 C1    N (x1) (0) (put_J σ a0 30 (x2)) ((hT).putJ) ((hE).putJ) ((h0).putJ)  hf
    · refine J_iconst (q := 16) (v := (-1)) C0 dX12_years_15 rfl rfl ?_
      obtain rfl := Option.some.inj hf; exact J_iret C1 dX12_years_16 rfl (Nat.zero_le _) (Nat.zero_le _) ⟨rfl, rfl, hT, hE⟩
def f_X12_status (a0 : Nat) (x1 : Int32) (σ : Sg) : Option Int32 :=
  Option.bind (f_X12_in (x1) (0) (4) ) fun p1 =>
  if (p1) = (0) then
  (some ((-1)))
  else
  (Option.bind (sg_R σ a0 25) fun b3 =>
  if (x1) < 0 ∨ sg_L σ b3 ≤ (x1).toNatClampNeg then none else
  some (sg_I σ b3 (x1).toNatClampNeg))
set_option maxHeartbeats 4000000 in
set_option maxRecDepth 100000 in
theorem t_X12_status (a0 : Nat) (x1 : Int32) {σ : Sg} (hT : sg_T σ) (h0 : is_A σ a0 11) {r : Int32} (hf : f_X12_status a0 x1 σ = some r) : Ct yX12_status cX12_status 2 (some .int) 1 22 0 0 [vr (some a0), vi x1] σ (fun r_ τ_ => (r_ = some (vi r)) ∧ τ_ = σ) := by
  refine Ct.of (by decide +kernel) (Nat.le_of_ble_eq_true rfl) (fun Γ C1 => ?_)
  have C0 := C1.1
  unfold f_X12_status at hf
  show J_ Γ 0 [(0, vr (some a0)), (1, vi (x1))] [] σ 0 0
  refine J_iload_n (q := 1) C0 1 rfl rfl dX12_status_0 rfl ?_
  refine J_iconst (q := 2) (v := 0) C0 dX12_status_1 rfl rfl ?_
  refine J_iconst (q := 3) (v := 4) C0 dX12_status_2 rfl rfl ?_
  refine K_some hf (fun p1 hp1 hf => ?_)
  refine J_callS (q := 6) (as := [vi (x1), vi (0), vi (4)]) (rest := []) C0 (t_X12_in (x1) (0) (4)  hp1) ml_X12_in lk_X12_208 sm_X12_in dX12_status_3 rfl rfl rfl (by simp [ac_]) C1.room (by decide) (by decide) (by decide) (by decide) (fun r_ τ_ hQ => ?_)
  obtain ⟨⟨rfl, zp1⟩, ht_⟩ := hQ; have ht_ := ht_.symm; subst ht_
  show J_ Γ 6 [(0, vr (some a0)), (1, vi (x1))] [vi (p1)] σ 0 0
  refine J_if_eq (t := 18) (q := 9) C0 dX12_status_6 (by decide) rfl hf (fun c2 hf => ?_) (fun c2 hf => ?_)
  · refine J_iconst (q := 19) (v := (-1)) C0 dX12_status_18 rfl rfl ?_
    obtain rfl := Option.some.inj hf; exact J_iret C1 dX12_status_19 rfl (Nat.zero_le _) (Nat.zero_le _) ⟨rfl, rfl⟩
  · refine J_aload_n (q := 10) C0 0 rfl rfl dX12_status_9 rfl trivial ?_
    refine J_getR (q := 13) C0 fl_X12_55_11 rfl (h0) rfl dX12_status_10 rfl ?_
    refine J_iload_n (q := 14) C0 1 rfl rfl dX12_status_13 rfl ?_
    refine K_some hf (fun b3 hb3 hf => ?_)
    have ab3 : is_A σ b3 12 := ((sg_T.op hT (j := 25) (h0) rfl)) b3 hb3
    refine K_chk hf (fun c4 hf => ?_)
    refine J_iald (q := 15) C0 hb3 (ab3) c4 dX12_status_14 rfl ?_
    refine J_goto (q := 19) C0 dX12_status_15 (by decide) ?_
    obtain rfl := Option.some.inj hf; exact J_iret C1 dX12_status_19 rfl (Nat.zero_le _) (Nat.zero_le _) ⟨rfl, rfl⟩
def f_X12_undo_L21 (N : Nat) (a0 : Nat) : Nat → Int32 → Sg → Option (Int32 × Sg)
  | 0, _, _ => none
  | n + 1, v1, σ =>
  if (v1) < (261) then
  (Option.bind (sg_R σ a0 28) fun b3 =>
  if (((261) * (sg_I σ a0 29)) + (v1)) < 0 ∨ sg_L σ b3 ≤ (((261) * (sg_I σ a0 29)) + (v1)).toNatClampNeg then none else
  Option.bind (sg_R σ a0 24) fun b5 =>
  if (v1) < 0 ∨ sg_L σ b5 ≤ (v1).toNatClampNeg then none else
  f_X12_undo_L21 N a0 n (v1 + 1) (put_I σ b5 (v1).toNatClampNeg (sg_I σ b3 (((261) * (sg_I σ a0 29)) + (v1)).toNatClampNeg)))
  else
  (some (sg_I σ a0 29, σ))
def f_X12_undo (N : Nat) (a0 : Nat) (σ : Sg) : Option (Int32 × Sg) :=
  if (sg_I σ a0 29) = (0) then
  (some ((-1), σ))
  else
  (f_X12_undo_L21 N a0 N (0) (put_I σ a0 29 ((sg_I σ a0 29) - (1))))
set_option maxHeartbeats 4000000 in
set_option maxRecDepth 100000 in
theorem t_X12_undo_L21 {N : Nat} {a0 : Nat} {Γ : Gm} {σ0 : Sg} {r : (Int32 × Sg)} (C1 : CM Γ cX12_undo RX12 2 (some .int) 0 0 0 0 (fun r_ τ_ => (r_ = some (vi r.1)) ∧ τ_ = r.2 ∧ sg_T τ_ ∧ sg_E σ0 τ_)) : ∀ (n : Nat) (v1 : Int32) (σ : Sg), sg_T σ → sg_E σ0 σ → is_A σ a0 11 → f_X12_undo_L21 N a0  n v1 σ = some r → J_ Γ 21 [(0, vr (some a0)), (1, vi (v1))] [] σ 0 0 := by
  have C0 := C1.1
  intro n
  induction n with
  | zero => intro v1 σ hT hE h0  hf; unfold f_X12_undo_L21 at hf; cases hf
  | succ n ih =>
    intro v1 σ hT hE h0  hf
    rw [f_X12_undo_L21] at hf
    refine J_iload_n (q := 22) C0 1 rfl rfl dX12_undo_21 rfl ?_
    refine J_sipush (q := 25) (v := 261) C0 dX12_undo_22 rfl rfl ?_
    refine J_icmp_ge (t := 55) (q := 28) C0 dX12_undo_25 (by decide) rfl hf (fun c2 hf => ?_) (fun c2 hf => ?_)
    · refine J_aload_n (q := 56) C0 0 rfl rfl dX12_undo_55 rfl trivial ?_
      refine J_getI (q := 59) C0 fl_X12_272_11 rfl (h0) rfl dX12_undo_56 rfl ?_
      obtain rfl := Option.some.inj hf; exact J_iret C1 dX12_undo_59 rfl (Nat.zero_le _) (Nat.zero_le _) ⟨rfl, rfl, hT, hE⟩
    · refine J_aload_n (q := 29) C0 0 rfl rfl dX12_undo_28 rfl trivial ?_
      refine J_getR (q := 32) C0 fl_X12_52_11 rfl (h0) rfl dX12_undo_29 rfl ?_
      refine J_iload_n (q := 33) C0 1 rfl rfl dX12_undo_32 rfl ?_
      refine J_aload_n (q := 34) C0 0 rfl rfl dX12_undo_33 rfl trivial ?_
      refine J_getR (q := 37) C0 fl_X12_65_11 rfl (h0) rfl dX12_undo_34 rfl ?_
      refine J_sipush (q := 40) (v := 261) C0 dX12_undo_37 rfl rfl ?_
      refine J_aload_n (q := 41) C0 0 rfl rfl dX12_undo_40 rfl trivial ?_
      refine J_getI (q := 44) C0 fl_X12_272_11 rfl (h0) rfl dX12_undo_41 rfl ?_
      refine J_imul (q := 45) C0 dX12_undo_44 rfl ?_
      refine J_iload_n (q := 46) C0 1 rfl rfl dX12_undo_45 rfl ?_
      refine J_iadd (q := 47) C0 dX12_undo_46 rfl ?_
      refine K_some hf (fun b3 hb3 hf => ?_)
      have ab3 : is_A σ b3 12 := ((sg_T.op hT (j := 28) (h0) rfl)) b3 hb3
      refine K_chk hf (fun c4 hf => ?_)
      refine J_iald (q := 48) C0 hb3 (ab3) c4 dX12_undo_47 rfl ?_
      refine K_some hf (fun b5 hb5 hf => ?_)
      have ab5 : is_A σ b5 12 := ((sg_T.op hT (j := 24) (h0) rfl)) b5 hb5
      refine K_chk hf (fun c6 hf => ?_)
      refine J_iast (q := 49) C0 hb5 (ab5) c6 dX12_undo_48 rfl ?_
      refine J_iinc (q := 52) (v := v1 + 1) (lv' := [(1, vi (v1 + 1)), (0, vr (some a0))]) C0 1 rfl rfl (G_nl C1 (by decide)) dX12_undo_49 rfl rfl ?_
      refine J_goto (q := 21) C0 dX12_undo_52 (by decide) ?_
      refine J_sub (lv' := [(0, vr (some a0)), (1, vi (v1 + 1))]) [1, 0] rfl ?_
      exact ih (v1 + 1) (put_I σ b5 (v1).toNatClampNeg (sg_I σ b3 (((261) * (sg_I σ a0 29)) + (v1)).toNatClampNeg)) ((hT).putI) ((hE).putI) ((h0).putI)  hf
set_option maxHeartbeats 4000000 in
set_option maxRecDepth 100000 in
theorem t_X12_undo (N : Nat) (a0 : Nat) {σ : Sg} (hT : sg_T σ) (h0 : is_A σ a0 11) {r : (Int32 × Sg)} (hf : f_X12_undo N a0  σ = some r) : Ct yX12_undo cX12_undo 2 (some .int) 0 0 0 0 [vr (some a0)] σ (fun r_ τ_ => (r_ = some (vi r.1)) ∧ τ_ = r.2 ∧ sg_T τ_ ∧ sg_E σ τ_) := by
  refine Ct.of (by decide +kernel) (Nat.le_of_ble_eq_true rfl) (fun Γ C1 => ?_)
  have C0 := C1.1
  have hE : sg_E σ σ := sg_E.rf
  unfold f_X12_undo at hf
  show J_ Γ 0 [(0, vr (some a0))] [] σ 0 0
  refine J_aload_n (q := 1) C0 0 rfl rfl dX12_undo_0 rfl trivial ?_
  refine J_getI (q := 4) C0 fl_X12_272_11 rfl (h0) rfl dX12_undo_1 rfl ?_
  refine J_if_ne (t := 9) (q := 7) C0 dX12_undo_4 (by decide) rfl hf (fun c1 hf => ?_) (fun c1 hf => ?_)
  · refine J_aload_n (q := 10) C0 0 rfl rfl dX12_undo_9 rfl trivial ?_
    refine J_dup (q := 11) C0 dX12_undo_10 rfl rfl ?_
    refine J_getI (q := 14) C0 fl_X12_272_11 rfl (h0) rfl dX12_undo_11 rfl ?_
    refine J_iconst (q := 15) (v := 1) C0 dX12_undo_14 rfl rfl ?_
    refine J_isub (q := 16) C0 dX12_undo_15 rfl ?_
    refine J_putI (q := 19) C0 fl_X12_272_11 rfl (h0) rfl dX12_undo_16 rfl ?_
    refine J_iconst (q := 20) (v := 0) C0 dX12_undo_19 rfl rfl ?_
    refine J_istore_n (q := 21) (lv' := [(1, vi (0)), (0, vr (some a0))]) C0 rfl (G_nl C1 (by decide)) dX12_undo_20 rfl rfl ?_
    refine J_sub (lv' := [(0, vr (some a0)), (1, vi (0))]) [1, 0] rfl ?_
    exact t_X12_undo_L21 C1    N (0) (put_I σ a0 29 ((sg_I σ a0 29) - (1))) ((hT).putI) ((hE).putI) ((h0).putI)  hf
  · refine J_iconst (q := 8) (v := (-1)) C0 dX12_undo_7 rfl rfl ?_
    obtain rfl := Option.some.inj hf; exact J_iret C1 dX12_undo_8 rfl (Nat.zero_le _) (Nat.zero_le _) ⟨rfl, rfl, hT, hE⟩
def f_X12_log (a0 : Nat) (x1 : Int32) (x2 : Int32) (σ : Sg) : Option Int32 :=
  Option.bind (sg_R σ a0 24) fun b1 =>
  if (20 : Int32) < 0 ∨ sg_L σ b1 ≤ (20 : Int32).toNatClampNeg then none else
  Option.bind (f_X12_in (x1) (0) ((sg_I σ b1 (20 : Int32).toNatClampNeg) - (1)) ) fun p3 =>
  if (p3) = (0) then
  (some ((-1)))
  else
  (Option.bind (f_X12_in (x2) (0) (3) ) fun p5 =>
  if (p5) = (0) then
  (some ((-1)))
  else
  (if (20 : Int32) < 0 ∨ sg_L σ b1 ≤ (20 : Int32).toNatClampNeg then none else
  if (((21) + ((4) * (((sg_I σ b1 (20 : Int32).toNatClampNeg) - (1)) - (x1)))) + (x2)) < 0 ∨ sg_L σ b1 ≤ (((21) + ((4) * (((sg_I σ b1 (20 : Int32).toNatClampNeg) - (1)) - (x1)))) + (x2)).toNatClampNeg then none else
  some (sg_I σ b1 (((21) + ((4) * (((sg_I σ b1 (20 : Int32).toNatClampNeg) - (1)) - (x1)))) + (x2)).toNatClampNeg)))
set_option maxHeartbeats 4000000 in
set_option maxRecDepth 100000 in
theorem t_X12_log (a0 : Nat) (x1 : Int32) (x2 : Int32) {σ : Sg} (hT : sg_T σ) (h0 : is_A σ a0 11) {r : Int32} (hf : f_X12_log a0 x1 x2 σ = some r) : Ct yX12_log cX12_log 3 (some .int) 1 22 0 0 [vr (some a0), vi x1, vi x2] σ (fun r_ τ_ => (r_ = some (vi r)) ∧ τ_ = σ) := by
  refine Ct.of (by decide +kernel) (Nat.le_of_ble_eq_true rfl) (fun Γ C1 => ?_)
  have C0 := C1.1
  unfold f_X12_log at hf
  show J_ Γ 0 [(0, vr (some a0)), (1, vi (x1)), (2, vi (x2))] [] σ 0 0
  refine J_iload_n (q := 1) C0 1 rfl rfl dX12_log_0 rfl ?_
  refine J_iconst (q := 2) (v := 0) C0 dX12_log_1 rfl rfl ?_
  refine J_aload_n (q := 3) C0 0 rfl rfl dX12_log_2 rfl trivial ?_
  refine J_getR (q := 6) C0 fl_X12_52_11 rfl (h0) rfl dX12_log_3 rfl ?_
  refine J_bipush (q := 8) (v := 20) C0 dX12_log_6 rfl rfl ?_
  refine K_some hf (fun b1 hb1 hf => ?_)
  have ab1 : is_A σ b1 12 := ((sg_T.op hT (j := 24) (h0) rfl)) b1 hb1
  refine K_chk hf (fun c2 hf => ?_)
  refine J_iald (q := 9) C0 hb1 (ab1) c2 dX12_log_8 rfl ?_
  refine J_iconst (q := 10) (v := 1) C0 dX12_log_9 rfl rfl ?_
  refine J_isub (q := 11) C0 dX12_log_10 rfl ?_
  refine K_some hf (fun p3 hp3 hf => ?_)
  refine J_callS (q := 14) (as := [vi (x1), vi (0), vi ((sg_I σ b1 (20 : Int32).toNatClampNeg) - (1))]) (rest := []) C0 (t_X12_in (x1) (0) ((sg_I σ b1 (20 : Int32).toNatClampNeg) - (1))  hp3) ml_X12_in lk_X12_208 sm_X12_in dX12_log_11 rfl rfl rfl (by simp [ac_]) C1.room (by decide) (by decide) (by decide) (by decide) (fun r_ τ_ hQ => ?_)
  obtain ⟨⟨rfl, zp3⟩, ht_⟩ := hQ; have ht_ := ht_.symm; subst ht_
  show J_ Γ 14 [(0, vr (some a0)), (1, vi (x1)), (2, vi (x2))] [vi (p3)] σ 0 0
  refine J_if_eq (t := 52) (q := 17) C0 dX12_log_14 (by decide) rfl hf (fun c4 hf => ?_) (fun c4 hf => ?_)
  · refine J_iconst (q := 53) (v := (-1)) C0 dX12_log_52 rfl rfl ?_
    obtain rfl := Option.some.inj hf; exact J_iret C1 dX12_log_53 rfl (Nat.zero_le _) (Nat.zero_le _) ⟨rfl, rfl⟩
  · refine J_iload_n (q := 18) C0 2 rfl rfl dX12_log_17 rfl ?_
    refine J_iconst (q := 19) (v := 0) C0 dX12_log_18 rfl rfl ?_
    refine J_iconst (q := 20) (v := 3) C0 dX12_log_19 rfl rfl ?_
    refine K_some hf (fun p5 hp5 hf => ?_)
    refine J_callS (q := 23) (as := [vi (x2), vi (0), vi (3)]) (rest := []) C0 (t_X12_in (x2) (0) (3)  hp5) ml_X12_in lk_X12_208 sm_X12_in dX12_log_20 rfl rfl rfl (by simp [ac_]) C1.room (by decide) (by decide) (by decide) (by decide) (fun r_ τ_ hQ => ?_)
    obtain ⟨⟨rfl, zp5⟩, ht_⟩ := hQ; have ht_ := ht_.symm; subst ht_
    show J_ Γ 23 [(0, vr (some a0)), (1, vi (x1)), (2, vi (x2))] [vi (p5)] σ 0 0
    refine J_if_eq (t := 52) (q := 26) C0 dX12_log_23 (by decide) rfl hf (fun c6 hf => ?_) (fun c6 hf => ?_)
    · refine J_iconst (q := 53) (v := (-1)) C0 dX12_log_52 rfl rfl ?_
      obtain rfl := Option.some.inj hf; exact J_iret C1 dX12_log_53 rfl (Nat.zero_le _) (Nat.zero_le _) ⟨rfl, rfl⟩
    · refine J_aload_n (q := 27) C0 0 rfl rfl dX12_log_26 rfl trivial ?_
      refine J_getR (q := 30) C0 fl_X12_52_11 rfl (h0) rfl dX12_log_27 rfl ?_
      refine J_bipush (q := 32) (v := 21) C0 dX12_log_30 rfl rfl ?_
      refine J_iconst (q := 33) (v := 4) C0 dX12_log_32 rfl rfl ?_
      refine J_aload_n (q := 34) C0 0 rfl rfl dX12_log_33 rfl trivial ?_
      refine J_getR (q := 37) C0 fl_X12_52_11 rfl (h0) rfl dX12_log_34 rfl ?_
      refine J_bipush (q := 39) (v := 20) C0 dX12_log_37 rfl rfl ?_
      refine K_chk hf (fun c7 hf => ?_)
      refine J_iald (q := 40) C0 hb1 (ab1) c7 dX12_log_39 rfl ?_
      refine J_iconst (q := 41) (v := 1) C0 dX12_log_40 rfl rfl ?_
      refine J_isub (q := 42) C0 dX12_log_41 rfl ?_
      refine J_iload_n (q := 43) C0 1 rfl rfl dX12_log_42 rfl ?_
      refine J_isub (q := 44) C0 dX12_log_43 rfl ?_
      refine J_imul (q := 45) C0 dX12_log_44 rfl ?_
      refine J_iadd (q := 46) C0 dX12_log_45 rfl ?_
      refine J_iload_n (q := 47) C0 2 rfl rfl dX12_log_46 rfl ?_
      refine J_iadd (q := 48) C0 dX12_log_47 rfl ?_
      refine K_chk hf (fun c8 hf => ?_)
      refine J_iald (q := 49) C0 hb1 (ab1) c8 dX12_log_48 rfl ?_
      refine J_goto (q := 53) C0 dX12_log_49 (by decide) ?_
      obtain rfl := Option.some.inj hf; exact J_iret C1 dX12_log_53 rfl (Nat.zero_le _) (Nat.zero_le _) ⟨rfl, rfl⟩
def f_X12_at (N : Nat) (a0 : Nat) (x1 : Int32) (x2 : Int32) (σ : Sg) : Option (Int32 × Sg) :=
  Option.bind (f_X12_isWheel a0 (x1) σ) fun p1 =>
  if (p1) = (0) then
  (some ((-1), σ))
  else
  (Option.bind (f_X12_in (x2) (0) (99) ) fun p3 =>
  if (p3) = (0) then
  (some ((-1), σ))
  else
  (Option.bind (f_X12_of a0 (x1) (3) σ) fun p5 =>
  Option.bind (sg_R σ a0 24) fun b6 =>
  if (16 : Int32) < 0 ∨ sg_L σ b6 ≤ (16 : Int32).toNatClampNeg then none else
  Option.bind (f_X12_placeBehind N a0 (x1) ((x2) * (sg_I σ b6 (16 : Int32).toNatClampNeg)) σ) fun p8 =>
  Option.bind (f_X12_pictureAt a0 (p5) (p8.1) p8.2) fun p9 =>
  some (p9, p8.2)))
set_option maxHeartbeats 4000000 in
set_option maxRecDepth 100000 in
theorem t_X12_at (N : Nat) (a0 : Nat) (x1 : Int32) (x2 : Int32) {σ : Sg} (hT : sg_T σ) (h0 : is_A σ a0 11) {r : (Int32 × Sg)} (hf : f_X12_at N a0 x1 x2 σ = some r) : Ct yX12_at cX12_at 3 (some .int) 8 186 0 0 [vr (some a0), vi x1, vi x2] σ (fun r_ τ_ => (r_ = some (vi r.1)) ∧ τ_ = r.2 ∧ sg_T τ_ ∧ sg_E σ τ_) := by
  refine Ct.of (by decide +kernel) (Nat.le_of_ble_eq_true rfl) (fun Γ C1 => ?_)
  have C0 := C1.1
  have hE : sg_E σ σ := sg_E.rf
  unfold f_X12_at at hf
  show J_ Γ 0 [(0, vr (some a0)), (1, vi (x1)), (2, vi (x2))] [] σ 0 0
  refine J_aload_n (q := 1) C0 0 rfl rfl dX12_at_0 rfl trivial ?_
  refine J_iload_n (q := 2) C0 1 rfl rfl dX12_at_1 rfl ?_
  refine K_some hf (fun p1 hp1 hf => ?_)
  refine J_callV (q := 5) (ci := 11) (as := [vi (x1)]) (rest := []) C0 rfl (h0) (t_X12_isWheel a0 (x1) (h0)  hp1) ml_X12_isWheel lk_X12_307 im_X12_isWheel se_X12_isWheel rfl (by decide) dX12_at_2 rfl rfl rfl (by simp [ac_]) C1.room (by decide) (by decide) (by decide) (by decide) (fun r_ τ_ hQ => ?_)
  obtain ⟨⟨rfl, zp1⟩, ht_⟩ := hQ; have ht_ := ht_.symm; subst ht_
  show J_ Γ 5 [(0, vr (some a0)), (1, vi (x1)), (2, vi (x2))] [vi (p1)] σ 0 0
  refine J_if_eq (t := 45) (q := 8) C0 dX12_at_5 (by decide) rfl hf (fun c2 hf => ?_) (fun c2 hf => ?_)
  · refine J_iconst (q := 46) (v := (-1)) C0 dX12_at_45 rfl rfl ?_
    obtain rfl := Option.some.inj hf; exact J_iret C1 dX12_at_46 rfl (Nat.zero_le _) (Nat.zero_le _) ⟨rfl, rfl, hT, hE⟩
  · refine J_iload_n (q := 9) C0 2 rfl rfl dX12_at_8 rfl ?_
    refine J_iconst (q := 10) (v := 0) C0 dX12_at_9 rfl rfl ?_
    refine J_bipush (q := 12) (v := 99) C0 dX12_at_10 rfl rfl ?_
    refine K_some hf (fun p3 hp3 hf => ?_)
    refine J_callS (q := 15) (as := [vi (x2), vi (0), vi (99)]) (rest := []) C0 (t_X12_in (x2) (0) (99)  hp3) ml_X12_in lk_X12_208 sm_X12_in dX12_at_12 rfl rfl rfl (by simp [ac_]) C1.room (by decide) (by decide) (by decide) (by decide) (fun r_ τ_ hQ => ?_)
    obtain ⟨⟨rfl, zp3⟩, ht_⟩ := hQ; have ht_ := ht_.symm; subst ht_
    show J_ Γ 15 [(0, vr (some a0)), (1, vi (x1)), (2, vi (x2))] [vi (p3)] σ 0 0
    refine J_if_eq (t := 45) (q := 18) C0 dX12_at_15 (by decide) rfl hf (fun c4 hf => ?_) (fun c4 hf => ?_)
    · refine J_iconst (q := 46) (v := (-1)) C0 dX12_at_45 rfl rfl ?_
      obtain rfl := Option.some.inj hf; exact J_iret C1 dX12_at_46 rfl (Nat.zero_le _) (Nat.zero_le _) ⟨rfl, rfl, hT, hE⟩
    · refine J_aload_n (q := 19) C0 0 rfl rfl dX12_at_18 rfl trivial ?_
      refine J_aload_n (q := 20) C0 0 rfl rfl dX12_at_19 rfl trivial ?_
      refine J_iload_n (q := 21) C0 1 rfl rfl dX12_at_20 rfl ?_
      refine J_iconst (q := 22) (v := 3) C0 dX12_at_21 rfl rfl ?_
      refine K_some hf (fun p5 hp5 hf => ?_)
      refine J_callV (q := 25) (ci := 11) (as := [vi (x1), vi (3)]) (rest := [vr (some a0)]) C0 rfl (h0) (t_X12_of a0 (x1) (3) (hT) (h0)  hp5) ml_X12_of lk_X12_254 im_X12_of se_X12_of rfl (by decide) dX12_at_22 rfl rfl rfl (by simp [ac_]) C1.room (by decide) (by decide) (by decide) (by decide) (fun r_ τ_ hQ => ?_)
      obtain ⟨rfl, ht_⟩ := hQ; have ht_ := ht_.symm; subst ht_
      show J_ Γ 25 [(0, vr (some a0)), (1, vi (x1)), (2, vi (x2))] [vi (p5), vr (some a0)] σ 0 0
      refine J_aload_n (q := 26) C0 0 rfl rfl dX12_at_25 rfl trivial ?_
      refine J_iload_n (q := 27) C0 1 rfl rfl dX12_at_26 rfl ?_
      refine J_iload_n (q := 28) C0 2 rfl rfl dX12_at_27 rfl ?_
      refine J_aload_n (q := 29) C0 0 rfl rfl dX12_at_28 rfl trivial ?_
      refine J_getR (q := 32) C0 fl_X12_52_11 rfl (h0) rfl dX12_at_29 rfl ?_
      refine J_bipush (q := 34) (v := 16) C0 dX12_at_32 rfl rfl ?_
      refine K_some hf (fun b6 hb6 hf => ?_)
      have ab6 : is_A σ b6 12 := ((sg_T.op hT (j := 24) (h0) rfl)) b6 hb6
      refine K_chk hf (fun c7 hf => ?_)
      refine J_iald (q := 35) C0 hb6 (ab6) c7 dX12_at_34 rfl ?_
      refine J_imul (q := 36) C0 dX12_at_35 rfl ?_
      refine K_some hf (fun p8 hp8 hf => ?_)
      refine J_callV (q := 39) (ci := 11) (as := [vi (x1), vi ((x2) * (sg_I σ b6 (16 : Int32).toNatClampNeg))]) (rest := [vi (p5), vr (some a0)]) C0 rfl (h0) (t_X12_placeBehind N a0 (x1) ((x2) * (sg_I σ b6 (16 : Int32).toNatClampNeg)) (hT) (h0)  hp8) ml_X12_placeBehind lk_X12_342 im_X12_placeBehind se_X12_placeBehind rfl (by decide) dX12_at_36 rfl rfl rfl (by simp [ac_]) C1.room (by decide) (by decide) (by decide) (by decide) (fun r_ τ_ hQ => ?_)
      obtain ⟨rfl, rfl, Tp8, Ep8⟩ := hQ
      show J_ Γ 39 [(0, vr (some a0)), (1, vi (x1)), (2, vi (x2))] [vi (p8.1), vi (p5), vr (some a0)] p8.2 0 0
      refine K_some hf (fun p9 hp9 hf => ?_)
      refine J_callV (q := 42) (ci := 11) (as := [vi (p5), vi (p8.1)]) (rest := []) C0 rfl ((Ep8.at h0)) (t_X12_pictureAt a0 (p5) (p8.1) (Tp8) ((Ep8.at h0))  hp9) ml_X12_pictureAt lk_X12_260 im_X12_pictureAt se_X12_pictureAt rfl (by decide) dX12_at_39 rfl rfl rfl (by simp [ac_]) C1.room (by decide) (by decide) (by decide) (by decide) (fun r_ τ_ hQ => ?_)
      obtain ⟨rfl, ht_⟩ := hQ; have ht_ := ht_.symm; subst ht_
      show J_ Γ 42 [(0, vr (some a0)), (1, vi (x1)), (2, vi (x2))] [vi (p9)] p8.2 0 0
      refine J_goto (q := 46) C0 dX12_at_42 (by decide) ?_
      obtain rfl := Option.some.inj hf; exact J_iret C1 dX12_at_46 rfl (Nat.zero_le _) (Nat.zero_le _) ⟨rfl, rfl, Tp8, (hE).tr Ep8⟩
def f_X12_seems_B18 (N : Nat) (a0 : Nat) (σ : Sg) : Option (Int32 × Sg) :=
  some ((-1000000), σ)
def f_X12_seems (N : Nat) (a0 : Nat) (x1 : Int32) (x2 : Int32) (σ : Sg) : Option (Int32 × Sg) :=
  Option.bind (f_X12_isWheel a0 (x1) σ) fun p1 =>
  if (p1) = (0) then
  (f_X12_seems_B18 N a0  σ)
  else
  (Option.bind (f_X12_in (x2) (1) (60) ) fun p3 =>
  if (p3) = (0) then
  (f_X12_seems_B18 N a0  σ)
  else
  (Option.bind (f_X12_longOf a0 (x1) σ) fun p5 =>
  Option.bind (f_X12_placeBehind N a0 (x1) (x2) σ) fun p6 =>
  Option.bind (f_X12_of a0 (x1) (2) p6.2) fun p7 =>
  Option.bind (f_X12_round ((p6.1) - (p7)) (p5) ) fun p8 =>
  if (p5) < ((2) * (p8)) then
  (some ((p8) - (p5), p6.2))
  else
  (some (p8, p6.2))))
set_option maxHeartbeats 4000000 in
set_option maxRecDepth 100000 in
theorem t_X12_seems_B18 {N : Nat} {a0 : Nat} {Γ : Gm} {σ0 : Sg} {r : (Int32 × Sg)} (C1 : CM Γ cX12_seems RX12 5 (some .int) 8 186 0 0 (fun r_ τ_ => (r_ = some (vi r.1)) ∧ τ_ = r.2 ∧ sg_T τ_ ∧ sg_E σ0 τ_)) (σ : Sg) (hT : sg_T σ) (hE : sg_E σ0 σ) (h0 : is_A σ a0 11) (hf : f_X12_seems_B18 N a0   σ = some r) : J_ Γ 18 [(0, vr (some a0))] [] σ 0 0 := by
  have C0 := C1.1
  unfold f_X12_seems_B18 at hf
  refine J_ldc_w (q := 21) C0 kc_X12_345 dX12_seems_18 rfl ?_
  obtain rfl := Option.some.inj hf; exact J_iret C1 dX12_seems_21 rfl (Nat.zero_le _) (Nat.zero_le _) ⟨rfl, rfl, hT, hE⟩
set_option maxHeartbeats 4000000 in
set_option maxRecDepth 100000 in
theorem t_X12_seems (N : Nat) (a0 : Nat) (x1 : Int32) (x2 : Int32) {σ : Sg} (hT : sg_T σ) (h0 : is_A σ a0 11) {r : (Int32 × Sg)} (hf : f_X12_seems N a0 x1 x2 σ = some r) : Ct yX12_seems cX12_seems 5 (some .int) 8 186 0 0 [vr (some a0), vi x1, vi x2] σ (fun r_ τ_ => (r_ = some (vi r.1)) ∧ τ_ = r.2 ∧ sg_T τ_ ∧ sg_E σ τ_) := by
  refine Ct.of (by decide +kernel) (Nat.le_of_ble_eq_true rfl) (fun Γ C1 => ?_)
  have C0 := C1.1
  have hE : sg_E σ σ := sg_E.rf
  unfold f_X12_seems at hf
  show J_ Γ 0 [(0, vr (some a0)), (1, vi (x1)), (2, vi (x2))] [] σ 0 0
  refine J_aload_n (q := 1) C0 0 rfl rfl dX12_seems_0 rfl trivial ?_
  refine J_iload_n (q := 2) C0 1 rfl rfl dX12_seems_1 rfl ?_
  refine K_some hf (fun p1 hp1 hf => ?_)
  refine J_callV (q := 5) (ci := 11) (as := [vi (x1)]) (rest := []) C0 rfl (h0) (t_X12_isWheel a0 (x1) (h0)  hp1) ml_X12_isWheel lk_X12_307 im_X12_isWheel se_X12_isWheel rfl (by decide) dX12_seems_2 rfl rfl rfl (by simp [ac_]) C1.room (by decide) (by decide) (by decide) (by decide) (fun r_ τ_ hQ => ?_)
  obtain ⟨⟨rfl, zp1⟩, ht_⟩ := hQ; have ht_ := ht_.symm; subst ht_
  show J_ Γ 5 [(0, vr (some a0)), (1, vi (x1)), (2, vi (x2))] [vi (p1)] σ 0 0
  refine J_if_eq (t := 18) (q := 8) C0 dX12_seems_5 (by decide) rfl hf (fun c2 hf => ?_) (fun c2 hf => ?_)
  · refine J_sub (lv' := [(0, vr (some a0))]) [0] rfl ?_
    exact t_X12_seems_B18 C1     σ (hT) (hE) (h0)  hf
  · refine J_iload_n (q := 9) C0 2 rfl rfl dX12_seems_8 rfl ?_
    refine J_iconst (q := 10) (v := 1) C0 dX12_seems_9 rfl rfl ?_
    refine J_bipush (q := 12) (v := 60) C0 dX12_seems_10 rfl rfl ?_
    refine K_some hf (fun p3 hp3 hf => ?_)
    refine J_callS (q := 15) (as := [vi (x2), vi (1), vi (60)]) (rest := []) C0 (t_X12_in (x2) (1) (60)  hp3) ml_X12_in lk_X12_208 sm_X12_in dX12_seems_12 rfl rfl rfl (by simp [ac_]) C1.room (by decide) (by decide) (by decide) (by decide) (fun r_ τ_ hQ => ?_)
    obtain ⟨⟨rfl, zp3⟩, ht_⟩ := hQ; have ht_ := ht_.symm; subst ht_
    show J_ Γ 15 [(0, vr (some a0)), (1, vi (x1)), (2, vi (x2))] [vi (p3)] σ 0 0
    refine J_if_ne (t := 22) (q := 18) C0 dX12_seems_15 (by decide) rfl hf (fun c4 hf => ?_) (fun c4 hf => ?_)
    · refine J_aload_n (q := 23) C0 0 rfl rfl dX12_seems_22 rfl trivial ?_
      refine J_iload_n (q := 24) C0 1 rfl rfl dX12_seems_23 rfl ?_
      refine K_some hf (fun p5 hp5 hf => ?_)
      refine J_callV (q := 27) (ci := 11) (as := [vi (x1)]) (rest := []) C0 rfl (h0) (t_X12_longOf a0 (x1) (hT) (h0)  hp5) ml_X12_longOf lk_X12_266 im_X12_longOf se_X12_longOf rfl (by decide) dX12_seems_24 rfl rfl rfl (by simp [ac_]) C1.room (by decide) (by decide) (by decide) (by decide) (fun r_ τ_ hQ => ?_)
      obtain ⟨rfl, ht_⟩ := hQ; have ht_ := ht_.symm; subst ht_
      show J_ Γ 27 [(0, vr (some a0)), (1, vi (x1)), (2, vi (x2))] [vi (p5)] σ 0 0
      refine J_istore_n (q := 28) (lv' := [(3, vi (p5)), (0, vr (some a0)), (1, vi (x1)), (2, vi (x2))]) C0 rfl (G_nl C1 (by decide)) dX12_seems_27 rfl rfl ?_
      refine J_aload_n (q := 29) C0 1 rfl rfl dX12_seems_28 rfl trivial ?_
      refine J_iload_n (q := 30) C0 2 rfl rfl dX12_seems_29 rfl ?_
      refine J_iload_n (q := 31) C0 3 rfl rfl dX12_seems_30 rfl ?_
      refine K_some hf (fun p6 hp6 hf => ?_)
      refine J_callV (q := 34) (ci := 11) (as := [vi (x1), vi (x2)]) (rest := []) C0 rfl (h0) (t_X12_placeBehind N a0 (x1) (x2) (hT) (h0)  hp6) ml_X12_placeBehind lk_X12_342 im_X12_placeBehind se_X12_placeBehind rfl (by decide) dX12_seems_31 rfl rfl rfl (by simp [ac_]) C1.room (by decide) (by decide) (by decide) (by decide) (fun r_ τ_ hQ => ?_)
      obtain ⟨rfl, rfl, Tp6, Ep6⟩ := hQ
      show J_ Γ 34 [(3, vi (p5)), (0, vr (some a0)), (1, vi (x1)), (2, vi (x2))] [vi (p6.1)] p6.2 0 0
      refine J_aload_n (q := 35) C0 1 rfl rfl dX12_seems_34 rfl trivial ?_
      refine J_iload_n (q := 36) C0 2 rfl rfl dX12_seems_35 rfl ?_
      refine J_iconst (q := 37) (v := 2) C0 dX12_seems_36 rfl rfl ?_
      refine K_some hf (fun p7 hp7 hf => ?_)
      refine J_callV (q := 40) (ci := 11) (as := [vi (x1), vi (2)]) (rest := [vi (p6.1)]) C0 rfl ((Ep6.at h0)) (t_X12_of a0 (x1) (2) (Tp6) ((Ep6.at h0))  hp7) ml_X12_of lk_X12_254 im_X12_of se_X12_of rfl (by decide) dX12_seems_37 rfl rfl rfl (by simp [ac_]) C1.room (by decide) (by decide) (by decide) (by decide) (fun r_ τ_ hQ => ?_)
      obtain ⟨rfl, ht_⟩ := hQ; have ht_ := ht_.symm; subst ht_
      show J_ Γ 40 [(3, vi (p5)), (0, vr (some a0)), (1, vi (x1)), (2, vi (x2))] [vi (p7), vi (p6.1)] p6.2 0 0
      refine J_isub (q := 41) C0 dX12_seems_40 rfl ?_
      refine J_iload_n (q := 42) C0 0 rfl rfl dX12_seems_41 rfl ?_
      refine K_some hf (fun p8 hp8 hf => ?_)
      refine J_callS (q := 45) (as := [vi ((p6.1) - (p7)), vi (p5)]) (rest := []) C0 (t_X12_round ((p6.1) - (p7)) (p5)  hp8) ml_X12_round lk_X12_295 sm_X12_round dX12_seems_42 rfl rfl rfl (by simp [ac_]) C1.room (by decide) (by decide) (by decide) (by decide) (fun r_ τ_ hQ => ?_)
      obtain ⟨rfl, ht_⟩ := hQ; have ht_ := ht_.symm; subst ht_
      show J_ Γ 45 [(3, vi (p5)), (0, vr (some a0)), (1, vi (x1)), (2, vi (x2))] [vi (p8)] p6.2 0 0
      refine J_istore (q := 47) (lv' := [(4, vi (p8)), (3, vi (p5)), (0, vr (some a0)), (1, vi (x1)), (2, vi (x2))]) C0 (G_nl C1 (by decide)) dX12_seems_45 rfl rfl ?_
      refine J_iconst (q := 48) (v := 2) C0 dX12_seems_47 rfl rfl ?_
      refine J_iload (q := 50) C0 0 rfl dX12_seems_48 rfl ?_
      refine J_imul (q := 51) C0 dX12_seems_50 rfl ?_
      refine J_iload_n (q := 52) C0 1 rfl rfl dX12_seems_51 rfl ?_
      refine J_icmp_le (t := 62) (q := 55) C0 dX12_seems_52 (by decide) rfl hf (fun c9 hf => ?_) (fun c9 hf => ?_)
      · refine J_iload (q := 64) C0 0 rfl dX12_seems_62 rfl ?_
        obtain rfl := Option.some.inj hf; exact J_iret C1 dX12_seems_64 rfl (Nat.zero_le _) (Nat.zero_le _) ⟨rfl, rfl, Tp6, (hE).tr Ep6⟩
      · refine J_iload (q := 57) C0 0 rfl dX12_seems_55 rfl ?_
        refine J_iload_n (q := 58) C0 1 rfl rfl dX12_seems_57 rfl ?_
        refine J_isub (q := 59) C0 dX12_seems_58 rfl ?_
        refine J_goto (q := 64) C0 dX12_seems_59 (by decide) ?_
        obtain rfl := Option.some.inj hf; exact J_iret C1 dX12_seems_64 rfl (Nat.zero_le _) (Nat.zero_le _) ⟨rfl, rfl, Tp6, (hE).tr Ep6⟩
    · refine J_sub (lv' := [(0, vr (some a0))]) [0] rfl ?_
      exact t_X12_seems_B18 C1     σ (hT) (hE) (h0)  hf
def f_X12_layTrail_L14 (N : Nat) (a0 : Nat) : Nat → Int32 → Int32 → Sg → Option Sg
  | 0, _, _, _ => none
  | n + 1, v1, v2, σ =>
  if (v2) < (360) then
  (Option.bind (sg_R σ a0 31) fun b5 =>
  if (v2) < 0 ∨ sg_L σ b5 ≤ (v2).toNatClampNeg then none else
  Option.bind (sg_R σ a0 24) fun b7 =>
  if (19 : Int32) < 0 ∨ sg_L σ b7 ≤ (19 : Int32).toNatClampNeg then none else
  Option.bind (f_X12_nextOf N a0 (v1) (sg_I σ b5 (v2).toNatClampNeg) ((sg_I σ b7 (19 : Int32).toNatClampNeg) + (v2)) σ) fun p9 =>
  if ((v2) + (1)) < 0 ∨ sg_L p9.2 b5 ≤ ((v2) + (1)).toNatClampNeg then none else
  f_X12_layTrail_L14 N a0 n (v1) (v2 + 1) (put_I p9.2 b5 ((v2) + (1)).toNatClampNeg (p9.1)))
  else
  (some (σ))
def f_X12_layTrail (N : Nat) (a0 : Nat) (x1 : Int32) (σ : Sg) : Option Sg :=
  Option.bind (f_X12_of a0 (x1) (2) σ) fun p1 =>
  Option.bind (sg_R σ a0 31) fun b2 =>
  if (0 : Int32) < 0 ∨ sg_L σ b2 ≤ (0 : Int32).toNatClampNeg then none else
  f_X12_layTrail_L14 N a0 N (x1) (0) (put_I σ b2 (0 : Int32).toNatClampNeg (p1))
set_option maxHeartbeats 4000000 in
set_option maxRecDepth 100000 in
theorem t_X12_layTrail_L14 {N : Nat} {a0 : Nat} {Γ : Gm} {σ0 : Sg} {r : Sg} (C1 : CM Γ cX12_layTrail RX12 3 none 7 162 0 0 (fun r_ τ_ => (r_ = none) ∧ τ_ = r ∧ sg_T τ_ ∧ sg_E σ0 τ_)) : ∀ (n : Nat) (v1 : Int32) (v2 : Int32) (σ : Sg), sg_T σ → sg_E σ0 σ → is_A σ a0 11 → f_X12_layTrail_L14 N a0  n v1 v2 σ = some r → J_ Γ 14 [(0, vr (some a0)), (1, vi (v1)), (2, vi (v2))] [] σ 0 0 := by
  have C0 := C1.1
  intro n
  induction n with
  | zero => intro v1 v2 σ hT hE h0  hf; unfold f_X12_layTrail_L14 at hf; cases hf
  | succ n ih =>
    intro v1 v2 σ hT hE h0  hf
    rw [f_X12_layTrail_L14] at hf
    refine J_iload_n (q := 15) C0 2 rfl rfl dX12_layTrail_14 rfl ?_
    refine J_sipush (q := 18) (v := 360) C0 dX12_layTrail_15 rfl rfl ?_
    refine J_icmp_ge (t := 55) (q := 21) C0 dX12_layTrail_18 (by decide) rfl hf (fun c4 hf => ?_) (fun c4 hf => ?_)
    · obtain rfl := Option.some.inj hf; exact J_vret C1 dX12_layTrail_55 rfl (Nat.zero_le _) (Nat.zero_le _) ⟨rfl, rfl, hT, hE⟩
    · refine J_aload_n (q := 22) C0 0 rfl rfl dX12_layTrail_21 rfl trivial ?_
      refine J_getR (q := 25) C0 fl_X12_68_11 rfl (h0) rfl dX12_layTrail_22 rfl ?_
      refine J_iload_n (q := 26) C0 2 rfl rfl dX12_layTrail_25 rfl ?_
      refine J_iconst (q := 27) (v := 1) C0 dX12_layTrail_26 rfl rfl ?_
      refine J_iadd (q := 28) C0 dX12_layTrail_27 rfl ?_
      refine J_aload_n (q := 29) C0 0 rfl rfl dX12_layTrail_28 rfl trivial ?_
      refine J_iload_n (q := 30) C0 1 rfl rfl dX12_layTrail_29 rfl ?_
      refine J_aload_n (q := 31) C0 0 rfl rfl dX12_layTrail_30 rfl trivial ?_
      refine J_getR (q := 34) C0 fl_X12_68_11 rfl (h0) rfl dX12_layTrail_31 rfl ?_
      refine J_iload_n (q := 35) C0 2 rfl rfl dX12_layTrail_34 rfl ?_
      refine K_some hf (fun b5 hb5 hf => ?_)
      have ab5 : is_A σ b5 12 := ((sg_T.op hT (j := 31) (h0) rfl)) b5 hb5
      refine K_chk hf (fun c6 hf => ?_)
      refine J_iald (q := 36) C0 hb5 (ab5) c6 dX12_layTrail_35 rfl ?_
      refine J_aload_n (q := 37) C0 0 rfl rfl dX12_layTrail_36 rfl trivial ?_
      refine J_getR (q := 40) C0 fl_X12_52_11 rfl (h0) rfl dX12_layTrail_37 rfl ?_
      refine J_bipush (q := 42) (v := 19) C0 dX12_layTrail_40 rfl rfl ?_
      refine K_some hf (fun b7 hb7 hf => ?_)
      have ab7 : is_A σ b7 12 := ((sg_T.op hT (j := 24) (h0) rfl)) b7 hb7
      refine K_chk hf (fun c8 hf => ?_)
      refine J_iald (q := 43) C0 hb7 (ab7) c8 dX12_layTrail_42 rfl ?_
      refine J_iload_n (q := 44) C0 2 rfl rfl dX12_layTrail_43 rfl ?_
      refine J_iadd (q := 45) C0 dX12_layTrail_44 rfl ?_
      refine K_some hf (fun p9 hp9 hf => ?_)
      refine J_callV (q := 48) (ci := 11) (as := [vi (v1), vi (sg_I σ b5 (v2).toNatClampNeg), vi ((sg_I σ b7 (19 : Int32).toNatClampNeg) + (v2))]) (rest := [vi ((v2) + (1)), vr (sg_R σ a0 31)]) C0 rfl (h0) (t_X12_nextOf N a0 (v1) (sg_I σ b5 (v2).toNatClampNeg) ((sg_I σ b7 (19 : Int32).toNatClampNeg) + (v2)) (hT) (h0)  hp9) ml_X12_nextOf lk_X12_298 im_X12_nextOf se_X12_nextOf rfl (by decide) dX12_layTrail_45 rfl rfl rfl (by simp [ac_]) C1.room (by decide) (by decide) (by decide) (by decide) (fun r_ τ_ hQ => ?_)
      obtain ⟨rfl, rfl, Tp9, Ep9⟩ := hQ
      show J_ Γ 48 [(0, vr (some a0)), (1, vi (v1)), (2, vi (v2))] [vi (p9.1), vi ((v2) + (1)), vr (sg_R σ a0 31)] p9.2 0 0
      refine K_chk hf (fun c10 hf => ?_)
      refine J_iast (q := 49) C0 hb5 ((Ep9.at ab5)) c10 dX12_layTrail_48 rfl ?_
      refine J_iinc (q := 52) (v := v2 + 1) (lv' := [(2, vi (v2 + 1)), (0, vr (some a0)), (1, vi (v1))]) C0 2 rfl rfl (G_nl C1 (by decide)) dX12_layTrail_49 rfl rfl ?_
      refine J_goto (q := 14) C0 dX12_layTrail_52 (by decide) ?_
      refine J_sub (lv' := [(0, vr (some a0)), (1, vi (v1)), (2, vi (v2 + 1))]) [1, 2, 0] rfl ?_
      exact ih (v1) (v2 + 1) (put_I p9.2 b5 ((v2) + (1)).toNatClampNeg (p9.1)) ((Tp9).putI) (((hE).tr Ep9).putI) (((Ep9.at h0)).putI)  hf
set_option maxHeartbeats 4000000 in
set_option maxRecDepth 100000 in
theorem t_X12_layTrail (N : Nat) (a0 : Nat) (x1 : Int32) {σ : Sg} (hT : sg_T σ) (h0 : is_A σ a0 11) {r : Sg} (hf : f_X12_layTrail N a0 x1 σ = some r) : Ct yX12_layTrail cX12_layTrail 3 none 7 162 0 0 [vr (some a0), vi x1] σ (fun r_ τ_ => (r_ = none) ∧ τ_ = r ∧ sg_T τ_ ∧ sg_E σ τ_) := by
  refine Ct.of (by decide +kernel) (Nat.le_of_ble_eq_true rfl) (fun Γ C1 => ?_)
  have C0 := C1.1
  have hE : sg_E σ σ := sg_E.rf
  unfold f_X12_layTrail at hf
  show J_ Γ 0 [(0, vr (some a0)), (1, vi (x1))] [] σ 0 0
  refine J_aload_n (q := 1) C0 0 rfl rfl dX12_layTrail_0 rfl trivial ?_
  refine J_getR (q := 4) C0 fl_X12_68_11 rfl (h0) rfl dX12_layTrail_1 rfl ?_
  refine J_iconst (q := 5) (v := 0) C0 dX12_layTrail_4 rfl rfl ?_
  refine J_aload_n (q := 6) C0 0 rfl rfl dX12_layTrail_5 rfl trivial ?_
  refine J_iload_n (q := 7) C0 1 rfl rfl dX12_layTrail_6 rfl ?_
  refine J_iconst (q := 8) (v := 2) C0 dX12_layTrail_7 rfl rfl ?_
  refine K_some hf (fun p1 hp1 hf => ?_)
  refine J_callV (q := 11) (ci := 11) (as := [vi (x1), vi (2)]) (rest := [vi (0), vr (sg_R σ a0 31)]) C0 rfl (h0) (t_X12_of a0 (x1) (2) (hT) (h0)  hp1) ml_X12_of lk_X12_254 im_X12_of se_X12_of rfl (by decide) dX12_layTrail_8 rfl rfl rfl (by simp [ac_]) C1.room (by decide) (by decide) (by decide) (by decide) (fun r_ τ_ hQ => ?_)
  obtain ⟨rfl, ht_⟩ := hQ; have ht_ := ht_.symm; subst ht_
  show J_ Γ 11 [(0, vr (some a0)), (1, vi (x1))] [vi (p1), vi (0), vr (sg_R σ a0 31)] σ 0 0
  refine K_some hf (fun b2 hb2 hf => ?_)
  have ab2 : is_A σ b2 12 := ((sg_T.op hT (j := 31) (h0) rfl)) b2 hb2
  refine K_chk hf (fun c3 hf => ?_)
  refine J_iast (q := 12) C0 hb2 (ab2) c3 dX12_layTrail_11 rfl ?_
  refine J_iconst (q := 13) (v := 0) C0 dX12_layTrail_12 rfl rfl ?_
  refine J_istore_n (q := 14) (lv' := [(2, vi (0)), (0, vr (some a0)), (1, vi (x1))]) C0 rfl (G_nl C1 (by decide)) dX12_layTrail_13 rfl rfl ?_
  refine J_sub (lv' := [(0, vr (some a0)), (1, vi (x1)), (2, vi (0))]) [1, 2, 0] rfl ?_
  exact t_X12_layTrail_L14 C1    N (x1) (0) (put_I σ b2 (0 : Int32).toNatClampNeg (p1)) ((hT).putI) ((hE).putI) ((h0).putI)  hf
def f_X12_standsBy_L2 (N : Nat) (a0 : Nat) : Nat → Int32 → Int32 → Sg → Option Int32
  | 0, _, _, _ => none
  | n + 1, v1, v2, σ =>
  if (6) < (v2) then
  (some (1))
  else
  (Option.bind (sg_R σ a0 31) fun b2 =>
  if ((v2) * (v1)) < 0 ∨ sg_L σ b2 ≤ ((v2) * (v1)).toNatClampNeg then none else
  if (0 : Int32) < 0 ∨ sg_L σ b2 ≤ (0 : Int32).toNatClampNeg then none else
  if (sg_I σ b2 ((v2) * (v1)).toNatClampNeg) = (sg_I σ b2 (0 : Int32).toNatClampNeg) then
  (f_X12_standsBy_L2 N a0 n (v1) (v2 + 1) σ)
  else
  (some (0)))
def f_X12_standsBy (N : Nat) (a0 : Nat) (x1 : Int32) (σ : Sg) : Option Int32 :=
  f_X12_standsBy_L2 N a0 N (x1) (1) σ
set_option maxHeartbeats 4000000 in
set_option maxRecDepth 100000 in
theorem t_X12_standsBy_L2 {N : Nat} {a0 : Nat} {Γ : Gm} {σ : Sg} {r : Int32} (C1 : CM Γ cX12_standsBy RX12 3 (some .boolean) 0 0 0 0 (fun r_ τ_ => (r_ = some (vi r) ∧ (r = 0 ∨ r = 1)) ∧ τ_ = σ)) (hT : sg_T σ) (h0 : is_A σ a0 11) : ∀ (n : Nat) (v1 : Int32) (v2 : Int32), f_X12_standsBy_L2 N a0  n v1 v2 σ = some r → J_ Γ 2 [(0, vr (some a0)), (1, vi (v1)), (2, vi (v2))] [] σ 0 0 := by
  have C0 := C1.1
  intro n
  induction n with
  | zero => intro v1 v2  hf; unfold f_X12_standsBy_L2 at hf; cases hf
  | succ n ih =>
    intro v1 v2  hf
    rw [f_X12_standsBy_L2] at hf
    refine J_iload_n (q := 3) C0 2 rfl rfl dX12_standsBy_2 rfl ?_
    refine J_bipush (q := 5) (v := 6) C0 dX12_standsBy_3 rfl rfl ?_
    refine J_icmp_gt (t := 33) (q := 8) C0 dX12_standsBy_5 (by decide) rfl hf (fun c1 hf => ?_) (fun c1 hf => ?_)
    · refine J_iconst (q := 34) (v := 1) C0 dX12_standsBy_33 rfl rfl ?_
      obtain rfl := Option.some.inj hf; exact J_zret C1 dX12_standsBy_34 rfl (Or.inr rfl) (Nat.zero_le _) (Nat.zero_le _) ⟨⟨rfl, (Or.inr rfl)⟩, rfl⟩
    · refine J_aload_n (q := 9) C0 0 rfl rfl dX12_standsBy_8 rfl trivial ?_
      refine J_getR (q := 12) C0 fl_X12_68_11 rfl (h0) rfl dX12_standsBy_9 rfl ?_
      refine J_iload_n (q := 13) C0 2 rfl rfl dX12_standsBy_12 rfl ?_
      refine J_iload_n (q := 14) C0 1 rfl rfl dX12_standsBy_13 rfl ?_
      refine J_imul (q := 15) C0 dX12_standsBy_14 rfl ?_
      refine K_some hf (fun b2 hb2 hf => ?_)
      have ab2 : is_A σ b2 12 := ((sg_T.op hT (j := 31) (h0) rfl)) b2 hb2
      refine K_chk hf (fun c3 hf => ?_)
      refine J_iald (q := 16) C0 hb2 (ab2) c3 dX12_standsBy_15 rfl ?_
      refine J_aload_n (q := 17) C0 0 rfl rfl dX12_standsBy_16 rfl trivial ?_
      refine J_getR (q := 20) C0 fl_X12_68_11 rfl (h0) rfl dX12_standsBy_17 rfl ?_
      refine J_iconst (q := 21) (v := 0) C0 dX12_standsBy_20 rfl rfl ?_
      refine K_chk hf (fun c4 hf => ?_)
      refine J_iald (q := 22) C0 hb2 (ab2) c4 dX12_standsBy_21 rfl ?_
      refine J_icmp_eq (t := 27) (q := 25) C0 dX12_standsBy_22 (by decide) rfl hf (fun c5 hf => ?_) (fun c5 hf => ?_)
      · refine J_iinc (q := 30) (v := v2 + 1) (lv' := [(2, vi (v2 + 1)), (0, vr (some a0)), (1, vi (v1))]) C0 2 rfl rfl (G_nl C1 (by decide)) dX12_standsBy_27 rfl rfl ?_
        refine J_goto (q := 2) C0 dX12_standsBy_30 (by decide) ?_
        refine J_sub (lv' := [(0, vr (some a0)), (1, vi (v1)), (2, vi (v2 + 1))]) [1, 2, 0] rfl ?_
        exact ih (v1) (v2 + 1)   hf
      · refine J_iconst (q := 26) (v := 0) C0 dX12_standsBy_25 rfl rfl ?_
        obtain rfl := Option.some.inj hf; exact J_zret C1 dX12_standsBy_26 rfl (Or.inl rfl) (Nat.zero_le _) (Nat.zero_le _) ⟨⟨rfl, (Or.inl rfl)⟩, rfl⟩
set_option maxHeartbeats 4000000 in
set_option maxRecDepth 100000 in
theorem t_X12_standsBy (N : Nat) (a0 : Nat) (x1 : Int32) {σ : Sg} (hT : sg_T σ) (h0 : is_A σ a0 11) {r : Int32} (hf : f_X12_standsBy N a0 x1 σ = some r) : Ct yX12_standsBy cX12_standsBy 3 (some .boolean) 0 0 0 0 [vr (some a0), vi x1] σ (fun r_ τ_ => (r_ = some (vi r) ∧ (r = 0 ∨ r = 1)) ∧ τ_ = σ) := by
  refine Ct.of (by decide +kernel) (Nat.le_of_ble_eq_true rfl) (fun Γ C1 => ?_)
  have C0 := C1.1
  unfold f_X12_standsBy at hf
  show J_ Γ 0 [(0, vr (some a0)), (1, vi (x1))] [] σ 0 0
  refine J_iconst (q := 1) (v := 1) C0 dX12_standsBy_0 rfl rfl ?_
  refine J_istore_n (q := 2) (lv' := [(2, vi (1)), (0, vr (some a0)), (1, vi (x1))]) C0 rfl (G_nl C1 (by decide)) dX12_standsBy_1 rfl rfl ?_
  refine J_sub (lv' := [(0, vr (some a0)), (1, vi (x1)), (2, vi (1))]) [1, 2, 0] rfl ?_
  exact t_X12_standsBy_L2 C1 (hT) (h0)    N (x1) (1)  hf
def f_X12_stands_B52 (N : Nat) (a0 : Nat) (k25 : Int32 → Int32 → Int32 → Sg → Option (Int32 × Sg)) (v2 : Int32) (v3 : Int32) (v4 : Int32) (σ : Sg) : Option (Int32 × Sg) :=
  k25 (v2) (v3) (v4 + 1) σ
def f_X12_stands_L25 (N : Nat) (a0 : Nat) : Nat → Int32 → Int32 → Int32 → Sg → Option (Int32 × Sg)
  | 0, _, _, _, _ => none
  | n + 1, v2, v3, v4, σ =>
  if (60) < (v4) then
  (if (v2) = ((-1)) then
  (some (v3, σ))
  else
  (some ((-1), σ)))
  else
  (Option.bind (f_X12_standsBy N a0 (v4) σ) fun p7 =>
  if (p7) = (0) then
  (f_X12_stands_B52 N a0 (f_X12_stands_L25 N a0 n) (v2) (v3) (v4) σ)
  else
  (if (v3) = (v2) then
  (some (v4, σ))
  else
  (f_X12_stands_B52 N a0 (f_X12_stands_L25 N a0 n) (v2) (v3 + 1) (v4) σ)))
def f_X12_stands (N : Nat) (a0 : Nat) (x1 : Int32) (x2 : Int32) (σ : Sg) : Option (Int32 × Sg) :=
  Option.bind (f_X12_isWheel a0 (x1) σ) fun p1 =>
  if (p1) = (0) then
  (some ((-1), σ))
  else
  (if (x2) < ((-1)) then
  (some ((-1), σ))
  else
  (Option.bind (f_X12_layTrail N a0 (x1) σ) fun p4 =>
  f_X12_stands_L25 N a0 N (x2) (0) (1) (p4)))
set_option maxHeartbeats 4000000 in
set_option maxRecDepth 100000 in
theorem t_X12_stands_B52 {N : Nat} {a0 : Nat} {Γ : Gm} {σ0 : Sg} {r : (Int32 × Sg)} (C1 : CM Γ cX12_stands RX12 5 (some .int) 8 184 0 0 (fun r_ τ_ => (r_ = some (vi r.1)) ∧ τ_ = r.2 ∧ sg_T τ_ ∧ sg_E σ0 τ_)) (k25 : Int32 → Int32 → Int32 → Sg → Option (Int32 × Sg)) (hk25 : ∀ (v2 : Int32) (v3 : Int32) (v4 : Int32) (σ : Sg), sg_T σ → sg_E σ0 σ → is_A σ a0 11 → k25 v2 v3 v4 σ = some r → J_ Γ 25 [(0, vr (some a0)), (2, vi v2), (3, vi v3), (4, vi v4)] [] σ 0 0) (v2 : Int32) (v3 : Int32) (v4 : Int32) (σ : Sg) (hT : sg_T σ) (hE : sg_E σ0 σ) (h0 : is_A σ a0 11) (hf : f_X12_stands_B52 N a0 k25  v2 v3 v4 σ = some r) : J_ Γ 52 [(0, vr (some a0)), (2, vi (v2)), (3, vi (v3)), (4, vi (v4))] [] σ 0 0 := by
  have C0 := C1.1
  unfold f_X12_stands_B52 at hf
  refine J_iinc (q := 55) (v := v4 + 1) (lv' := [(4, vi (v4 + 1)), (0, vr (some a0)), (2, vi (v2)), (3, vi (v3))]) C0 3 rfl rfl (G_nl C1 (by decide)) dX12_stands_52 rfl rfl ?_
  refine J_goto (q := 25) C0 dX12_stands_55 (by decide) ?_
  refine J_sub (lv' := [(0, vr (some a0)), (2, vi (v2)), (3, vi (v3)), (4, vi (v4 + 1))]) [1, 2, 3, 0] rfl ?_
  exact hk25 (v2) (v3) (v4 + 1) σ (hT) (hE)  (h0)  hf
set_option maxHeartbeats 4000000 in
set_option maxRecDepth 100000 in
theorem t_X12_stands_L25 {N : Nat} {a0 : Nat} {Γ : Gm} {σ0 : Sg} {r : (Int32 × Sg)} (C1 : CM Γ cX12_stands RX12 5 (some .int) 8 184 0 0 (fun r_ τ_ => (r_ = some (vi r.1)) ∧ τ_ = r.2 ∧ sg_T τ_ ∧ sg_E σ0 τ_)) : ∀ (n : Nat) (v2 : Int32) (v3 : Int32) (v4 : Int32) (σ : Sg), sg_T σ → sg_E σ0 σ → is_A σ a0 11 → f_X12_stands_L25 N a0  n v2 v3 v4 σ = some r → J_ Γ 25 [(0, vr (some a0)), (2, vi (v2)), (3, vi (v3)), (4, vi (v4))] [] σ 0 0 := by
  have C0 := C1.1
  intro n
  induction n with
  | zero => intro v2 v3 v4 σ hT hE h0  hf; unfold f_X12_stands_L25 at hf; cases hf
  | succ n ih =>
    intro v2 v3 v4 σ hT hE h0  hf
    rw [f_X12_stands_L25] at hf
    refine J_iload (q := 27) C0 3 rfl dX12_stands_25 rfl ?_
    refine J_bipush (q := 29) (v := 60) C0 dX12_stands_27 rfl rfl ?_
    refine J_icmp_gt (t := 58) (q := 32) C0 dX12_stands_29 (by decide) rfl hf (fun c5 hf => ?_) (fun c5 hf => ?_)
    · refine J_iload_n (q := 59) C0 1 rfl rfl dX12_stands_58 rfl ?_
      refine J_iconst (q := 60) (v := (-1)) C0 dX12_stands_59 rfl rfl ?_
      refine J_icmp_ne (t := 67) (q := 63) C0 dX12_stands_60 (by decide) rfl hf (fun c6 hf => ?_) (fun c6 hf => ?_)
      · refine J_iconst (q := 68) (v := (-1)) C0 dX12_stands_67 rfl rfl ?_
        obtain rfl := Option.some.inj hf; exact J_iret C1 dX12_stands_68 rfl (Nat.zero_le _) (Nat.zero_le _) ⟨rfl, rfl, hT, hE⟩
      · refine J_iload_n (q := 64) C0 2 rfl rfl dX12_stands_63 rfl ?_
        refine J_goto (q := 68) C0 dX12_stands_64 (by decide) ?_
        obtain rfl := Option.some.inj hf; exact J_iret C1 dX12_stands_68 rfl (Nat.zero_le _) (Nat.zero_le _) ⟨rfl, rfl, hT, hE⟩
    · refine J_aload_n (q := 33) C0 0 rfl rfl dX12_stands_32 rfl trivial ?_
      refine J_iload (q := 35) C0 3 rfl dX12_stands_33 rfl ?_
      refine K_some hf (fun p7 hp7 hf => ?_)
      refine J_callV (q := 38) (ci := 11) (as := [vi (v4)]) (rest := []) C0 rfl (h0) (t_X12_standsBy N a0 (v4) (hT) (h0)  hp7) ml_X12_standsBy lk_X12_349 im_X12_standsBy se_X12_standsBy rfl (by decide) dX12_stands_35 rfl rfl rfl (by simp [ac_]) C1.room (by decide) (by decide) (by decide) (by decide) (fun r_ τ_ hQ => ?_)
      obtain ⟨⟨rfl, zp7⟩, ht_⟩ := hQ; have ht_ := ht_.symm; subst ht_
      show J_ Γ 38 [(0, vr (some a0)), (2, vi (v2)), (3, vi (v3)), (4, vi (v4))] [vi (p7)] σ 0 0
      refine J_if_eq (t := 52) (q := 41) C0 dX12_stands_38 (by decide) rfl hf (fun c8 hf => ?_) (fun c8 hf => ?_)
      · exact t_X12_stands_B52 C1  (f_X12_stands_L25 N a0 n)  ih  (v2) (v3) (v4) σ (hT) (hE) (h0)  hf
      · refine J_iload_n (q := 42) C0 2 rfl rfl dX12_stands_41 rfl ?_
        refine J_iload_n (q := 43) C0 1 rfl rfl dX12_stands_42 rfl ?_
        refine J_icmp_ne (t := 49) (q := 46) C0 dX12_stands_43 (by decide) rfl hf (fun c9 hf => ?_) (fun c9 hf => ?_)
        · refine J_iinc (q := 52) (v := v3 + 1) (lv' := [(3, vi (v3 + 1)), (0, vr (some a0)), (2, vi (v2)), (4, vi (v4))]) C0 2 rfl rfl (G_nl C1 (by decide)) dX12_stands_49 rfl rfl ?_
          refine J_sub (lv' := [(0, vr (some a0)), (2, vi (v2)), (3, vi (v3 + 1)), (4, vi (v4))]) [1, 2, 0, 3] rfl ?_
          exact t_X12_stands_B52 C1  (f_X12_stands_L25 N a0 n)  ih  (v2) (v3 + 1) (v4) σ (hT) (hE) (h0)  hf
        · refine J_iload (q := 48) C0 3 rfl dX12_stands_46 rfl ?_
          obtain rfl := Option.some.inj hf; exact J_iret C1 dX12_stands_48 rfl (Nat.zero_le _) (Nat.zero_le _) ⟨rfl, rfl, hT, hE⟩
set_option maxHeartbeats 4000000 in
set_option maxRecDepth 100000 in
theorem t_X12_stands (N : Nat) (a0 : Nat) (x1 : Int32) (x2 : Int32) {σ : Sg} (hT : sg_T σ) (h0 : is_A σ a0 11) {r : (Int32 × Sg)} (hf : f_X12_stands N a0 x1 x2 σ = some r) : Ct yX12_stands cX12_stands 5 (some .int) 8 184 0 0 [vr (some a0), vi x1, vi x2] σ (fun r_ τ_ => (r_ = some (vi r.1)) ∧ τ_ = r.2 ∧ sg_T τ_ ∧ sg_E σ τ_) := by
  refine Ct.of (by decide +kernel) (Nat.le_of_ble_eq_true rfl) (fun Γ C1 => ?_)
  have C0 := C1.1
  have hE : sg_E σ σ := sg_E.rf
  unfold f_X12_stands at hf
  show J_ Γ 0 [(0, vr (some a0)), (1, vi (x1)), (2, vi (x2))] [] σ 0 0
  refine J_aload_n (q := 1) C0 0 rfl rfl dX12_stands_0 rfl trivial ?_
  refine J_iload_n (q := 2) C0 1 rfl rfl dX12_stands_1 rfl ?_
  refine K_some hf (fun p1 hp1 hf => ?_)
  refine J_callV (q := 5) (ci := 11) (as := [vi (x1)]) (rest := []) C0 rfl (h0) (t_X12_isWheel a0 (x1) (h0)  hp1) ml_X12_isWheel lk_X12_307 im_X12_isWheel se_X12_isWheel rfl (by decide) dX12_stands_2 rfl rfl rfl (by simp [ac_]) C1.room (by decide) (by decide) (by decide) (by decide) (fun r_ τ_ hQ => ?_)
  obtain ⟨⟨rfl, zp1⟩, ht_⟩ := hQ; have ht_ := ht_.symm; subst ht_
  show J_ Γ 5 [(0, vr (some a0)), (1, vi (x1)), (2, vi (x2))] [vi (p1)] σ 0 0
  refine J_if_eq (t := 13) (q := 8) C0 dX12_stands_5 (by decide) rfl hf (fun c2 hf => ?_) (fun c2 hf => ?_)
  · refine J_iconst (q := 14) (v := (-1)) C0 dX12_stands_13 rfl rfl ?_
    obtain rfl := Option.some.inj hf; exact J_iret C1 dX12_stands_14 rfl (Nat.zero_le _) (Nat.zero_le _) ⟨rfl, rfl, hT, hE⟩
  · refine J_iload_n (q := 9) C0 2 rfl rfl dX12_stands_8 rfl ?_
    refine J_iconst (q := 10) (v := (-1)) C0 dX12_stands_9 rfl rfl ?_
    refine J_icmp_ge (t := 15) (q := 13) C0 dX12_stands_10 (by decide) rfl hf (fun c3 hf => ?_) (fun c3 hf => ?_)
    · refine J_aload_n (q := 16) C0 0 rfl rfl dX12_stands_15 rfl trivial ?_
      refine J_iload_n (q := 17) C0 1 rfl rfl dX12_stands_16 rfl ?_
      refine K_some hf (fun p4 hp4 hf => ?_)
      refine J_callV (q := 20) (ci := 11) (as := [vi (x1)]) (rest := []) C0 rfl (h0) (t_X12_layTrail N a0 (x1) (hT) (h0)  hp4) ml_X12_layTrail lk_X12_346 im_X12_layTrail se_X12_layTrail rfl (by decide) dX12_stands_17 rfl rfl rfl (by simp [ac_]) C1.room (by decide) (by decide) (by decide) (by decide) (fun r_ τ_ hQ => ?_)
      obtain ⟨rfl, ht_, Tp4, Ep4⟩ := hQ; have ht_ := ht_.symm; subst ht_
      show J_ Γ 20 [(0, vr (some a0)), (1, vi (x1)), (2, vi (x2))] [] p4 0 0
      refine J_iconst (q := 21) (v := 0) C0 dX12_stands_20 rfl rfl ?_
      refine J_istore_n (q := 22) (lv' := [(3, vi (0)), (0, vr (some a0)), (1, vi (x1)), (2, vi (x2))]) C0 rfl (G_nl C1 (by decide)) dX12_stands_21 rfl rfl ?_
      refine J_iconst (q := 23) (v := 1) C0 dX12_stands_22 rfl rfl ?_
      refine J_istore (q := 25) (lv' := [(4, vi (1)), (3, vi (0)), (0, vr (some a0)), (1, vi (x1)), (2, vi (x2))]) C0 (G_nl C1 (by decide)) dX12_stands_23 rfl rfl ?_
      refine J_sub (lv' := [(0, vr (some a0)), (2, vi (x2)), (3, vi (0)), (4, vi (1))]) [2, 4, 1, 0] rfl ?_
      exact t_X12_stands_L25 C1    N (x2) (0) (1) (p4) (Tp4) ((hE).tr Ep4) ((Ep4.at h0))  hf
    · refine J_iconst (q := 14) (v := (-1)) C0 dX12_stands_13 rfl rfl ?_
      obtain rfl := Option.some.inj hf; exact J_iret C1 dX12_stands_14 rfl (Nat.zero_le _) (Nat.zero_le _) ⟨rfl, rfl, hT, hE⟩
def f_X12_together_B115 (N : Nat) (a0 : Nat) (k92 : Int32 → Int32 → Sg → Option (Int32 × Sg)) (v2 : Int32) (s0 : Int32) (σ : Sg) : Option (Int32 × Sg) :=
  k92 (s0) (v2 + (-1)) σ
def f_X12_together_L92 (N : Nat) (a0 : Nat) : Nat → Int32 → Int32 → Sg → Option (Int32 × Sg)
  | 0, _, _, _ => none
  | n + 1, v1, v2, σ =>
  if (v2) < (1) then
  (some (v1, σ))
  else
  (Option.bind (sg_R σ a0 32) fun b5 =>
  if (v2) < 0 ∨ sg_L σ b5 ≤ (v2).toNatClampNeg then none else
  if (sg_I σ b5 (v2).toNatClampNeg) = (sg_I σ a0 20) then
  (f_X12_together_B115 N a0 (f_X12_together_L92 N a0 n) (v2) (v2) σ)
  else
  (f_X12_together_B115 N a0 (f_X12_together_L92 N a0 n) (v2) (v1) σ))
def f_X12_together_B73 (N : Nat) (a0 : Nat) (k32 : Int32 → Sg → Option (Int32 × Sg)) (k47 : Int32 → Int32 → Sg → Option (Int32 × Sg)) (v1 : Int32) (v2 : Int32) (s0 : Int32) (s1 : Int32) (s2 : Int32) (s3 : Option Nat) (σ : Sg) : Option (Int32 × Sg) :=
  Option.bind (s3) fun b14 =>
  if (s2) < 0 ∨ sg_L σ b14 ≤ (s2).toNatClampNeg then none else
  k47 (v1) (v2 + 1) (put_I σ b14 (s2).toNatClampNeg ((s1) + (s0)))
def f_X12_together_L47 (N : Nat) (a0 : Nat) (k32 : Int32 → Sg → Option (Int32 × Sg)) : Nat → Int32 → Int32 → Sg → Option (Int32 × Sg)
  | 0, _, _, _ => none
  | n + 1, v1, v2, σ =>
  if (60) < (v2) then
  (k32 (v1 + 1) σ)
  else
  (Option.bind (sg_R σ a0 32) fun b10 =>
  if (v2) < 0 ∨ sg_L σ b10 ≤ (v2).toNatClampNeg then none else
  Option.bind (f_X12_standsBy N a0 (v2) σ) fun p12 =>
  if (p12) = (0) then
  (f_X12_together_B73 N a0 k32 (f_X12_together_L47 N a0 k32 n) (v1) (v2) (0) (sg_I σ b10 (v2).toNatClampNeg) (v2) (sg_R σ a0 32) σ)
  else
  (f_X12_together_B73 N a0 k32 (f_X12_together_L47 N a0 k32 n) (v1) (v2) (1) (sg_I σ b10 (v2).toNatClampNeg) (v2) (sg_R σ a0 32) σ))
def f_X12_together_L32 (N : Nat) (a0 : Nat) : Nat → Int32 → Sg → Option (Int32 × Sg)
  | 0, _, _ => none
  | n + 1, v1, σ =>
  if (v1) < (sg_I σ a0 20) then
  (Option.bind (f_X12_layTrail N a0 (v1) σ) fun p8 =>
  f_X12_together_L47 N a0 (f_X12_together_L32 N a0 n) N (v1) (1) (p8))
  else
  (f_X12_together_L92 N a0 N ((-1)) (60) σ)
def f_X12_together_L11 (N : Nat) (a0 : Nat) : Nat → Int32 → Sg → Option (Int32 × Sg)
  | 0, _, _ => none
  | n + 1, v1, σ =>
  if (60) < (v1) then
  (f_X12_together_L32 N a0 N (0) σ)
  else
  (Option.bind (sg_R σ a0 32) fun b16 =>
  if (v1) < 0 ∨ sg_L σ b16 ≤ (v1).toNatClampNeg then none else
  f_X12_together_L11 N a0 n (v1 + 1) (put_I σ b16 (v1).toNatClampNeg (0)))
def f_X12_together (N : Nat) (a0 : Nat) (σ : Sg) : Option (Int32 × Sg) :=
  if (sg_I σ a0 20) = (0) then
  (some ((-1), σ))
  else
  (f_X12_together_L11 N a0 N (1) σ)
set_option maxHeartbeats 4000000 in
set_option maxRecDepth 100000 in
theorem t_X12_together_B115 {N : Nat} {a0 : Nat} {Γ : Gm} {σ0 : Sg} {r : (Int32 × Sg)} (C1 : CM Γ cX12_together RX12 3 (some .int) 8 184 0 0 (fun r_ τ_ => (r_ = some (vi r.1)) ∧ τ_ = r.2 ∧ sg_T τ_ ∧ sg_E σ0 τ_)) (k92 : Int32 → Int32 → Sg → Option (Int32 × Sg)) (hk92 : ∀ (v1 : Int32) (v2 : Int32) (σ : Sg), sg_T σ → sg_E σ0 σ → is_A σ a0 11 → k92 v1 v2 σ = some r → J_ Γ 92 [(0, vr (some a0)), (1, vi v1), (2, vi v2)] [] σ 0 0) (v2 : Int32) (s0 : Int32) (σ : Sg) (hT : sg_T σ) (hE : sg_E σ0 σ) (h0 : is_A σ a0 11) (hf : f_X12_together_B115 N a0 k92  v2 s0 σ = some r) : J_ Γ 115 [(0, vr (some a0)), (2, vi (v2))] [vi (s0)] σ 0 0 := by
  have C0 := C1.1
  unfold f_X12_together_B115 at hf
  refine J_istore_n (q := 116) (lv' := [(1, vi (s0)), (0, vr (some a0)), (2, vi (v2))]) C0 rfl (G_nl C1 (by decide)) dX12_together_115 rfl rfl ?_
  refine J_iinc (q := 119) (v := v2 + (-1)) (lv' := [(2, vi (v2 + (-1))), (1, vi (s0)), (0, vr (some a0))]) C0 2 rfl (congrArg (fun t_ : Int32 => (v2) + t_) (by decide : Int32.ofInt (-1) = (-1 : Int32))) (G_nl C1 (by decide)) dX12_together_116 rfl rfl ?_
  refine J_goto (q := 92) C0 dX12_together_119 (by decide) ?_
  refine J_sub (lv' := [(0, vr (some a0)), (1, vi (s0)), (2, vi (v2 + (-1)))]) [2, 1, 0] rfl ?_
  exact hk92 (s0) (v2 + (-1)) σ (hT) (hE)  (h0)  hf
set_option maxHeartbeats 4000000 in
set_option maxRecDepth 100000 in
theorem t_X12_together_L92 {N : Nat} {a0 : Nat} {Γ : Gm} {σ0 : Sg} {r : (Int32 × Sg)} (C1 : CM Γ cX12_together RX12 3 (some .int) 8 184 0 0 (fun r_ τ_ => (r_ = some (vi r.1)) ∧ τ_ = r.2 ∧ sg_T τ_ ∧ sg_E σ0 τ_)) : ∀ (n : Nat) (v1 : Int32) (v2 : Int32) (σ : Sg), sg_T σ → sg_E σ0 σ → is_A σ a0 11 → f_X12_together_L92 N a0  n v1 v2 σ = some r → J_ Γ 92 [(0, vr (some a0)), (1, vi (v1)), (2, vi (v2))] [] σ 0 0 := by
  have C0 := C1.1
  intro n
  induction n with
  | zero => intro v1 v2 σ hT hE h0  hf; unfold f_X12_together_L92 at hf; cases hf
  | succ n ih =>
    intro v1 v2 σ hT hE h0  hf
    rw [f_X12_together_L92] at hf
    refine J_iload_n (q := 93) C0 2 rfl rfl dX12_together_92 rfl ?_
    refine J_iconst (q := 94) (v := 1) C0 dX12_together_93 rfl rfl ?_
    refine J_icmp_lt (t := 122) (q := 97) C0 dX12_together_94 (by decide) rfl hf (fun c4 hf => ?_) (fun c4 hf => ?_)
    · refine J_iload_n (q := 123) C0 1 rfl rfl dX12_together_122 rfl ?_
      obtain rfl := Option.some.inj hf; exact J_iret C1 dX12_together_123 rfl (Nat.zero_le _) (Nat.zero_le _) ⟨rfl, rfl, hT, hE⟩
    · refine J_aload_n (q := 98) C0 0 rfl rfl dX12_together_97 rfl trivial ?_
      refine J_getR (q := 101) C0 fl_X12_71_11 rfl (h0) rfl dX12_together_98 rfl ?_
      refine J_iload_n (q := 102) C0 2 rfl rfl dX12_together_101 rfl ?_
      refine K_some hf (fun b5 hb5 hf => ?_)
      have ab5 : is_A σ b5 12 := ((sg_T.op hT (j := 32) (h0) rfl)) b5 hb5
      refine K_chk hf (fun c6 hf => ?_)
      refine J_iald (q := 103) C0 hb5 (ab5) c6 dX12_together_102 rfl ?_
      refine J_aload_n (q := 104) C0 0 rfl rfl dX12_together_103 rfl trivial ?_
      refine J_getI (q := 107) C0 fl_X12_263_11 rfl (h0) rfl dX12_together_104 rfl ?_
      refine J_icmp_ne (t := 114) (q := 110) C0 dX12_together_107 (by decide) rfl hf (fun c7 hf => ?_) (fun c7 hf => ?_)
      · refine J_iload_n (q := 115) C0 1 rfl rfl dX12_together_114 rfl ?_
        refine J_sub (lv' := [(0, vr (some a0)), (2, vi (v2))]) [0, 2] rfl ?_
        exact t_X12_together_B115 C1  (f_X12_together_L92 N a0 n)  ih  (v2) (v1) σ (hT) (hE) (h0)  hf
      · refine J_iload_n (q := 111) C0 2 rfl rfl dX12_together_110 rfl ?_
        refine J_goto (q := 115) C0 dX12_together_111 (by decide) ?_
        refine J_sub (lv' := [(0, vr (some a0)), (2, vi (v2))]) [0, 2] rfl ?_
        exact t_X12_together_B115 C1  (f_X12_together_L92 N a0 n)  ih  (v2) (v2) σ (hT) (hE) (h0)  hf
set_option maxHeartbeats 4000000 in
set_option maxRecDepth 100000 in
theorem t_X12_together_B73 {N : Nat} {a0 : Nat} {Γ : Gm} {σ0 : Sg} {r : (Int32 × Sg)} (C1 : CM Γ cX12_together RX12 3 (some .int) 8 184 0 0 (fun r_ τ_ => (r_ = some (vi r.1)) ∧ τ_ = r.2 ∧ sg_T τ_ ∧ sg_E σ0 τ_)) (k32 : Int32 → Sg → Option (Int32 × Sg)) (k47 : Int32 → Int32 → Sg → Option (Int32 × Sg)) (hk32 : ∀ (v1 : Int32) (σ : Sg), sg_T σ → sg_E σ0 σ → is_A σ a0 11 → k32 v1 σ = some r → J_ Γ 32 [(0, vr (some a0)), (1, vi v1)] [] σ 0 0) (hk47 : ∀ (v1 : Int32) (v2 : Int32) (σ : Sg), sg_T σ → sg_E σ0 σ → is_A σ a0 11 → k47 v1 v2 σ = some r → J_ Γ 47 [(0, vr (some a0)), (1, vi v1), (2, vi v2)] [] σ 0 0) (v1 : Int32) (v2 : Int32) (s0 : Int32) (s1 : Int32) (s2 : Int32) (s3 : Option Nat) (σ : Sg) (hT : sg_T σ) (hE : sg_E σ0 σ) (h0 : is_A σ a0 11) (g_s3 : is_O σ s3 12) (hf : f_X12_together_B73 N a0 k32 k47  v1 v2 s0 s1 s2 s3 σ = some r) : J_ Γ 73 [(0, vr (some a0)), (1, vi (v1)), (2, vi (v2))] [vi (s0), vi (s1), vi (s2), vr (s3)] σ 0 0 := by
  have C0 := C1.1
  unfold f_X12_together_B73 at hf
  refine J_iadd (q := 74) C0 dX12_together_73 rfl ?_
  refine K_some hf (fun b14 hb14 hf => ?_)
  have ab14 : is_A σ b14 12 := (g_s3) b14 hb14
  refine K_chk hf (fun c15 hf => ?_)
  refine J_iast (q := 75) C0 hb14 (ab14) c15 dX12_together_74 rfl ?_
  refine J_iinc (q := 78) (v := v2 + 1) (lv' := [(2, vi (v2 + 1)), (0, vr (some a0)), (1, vi (v1))]) C0 2 rfl rfl (G_nl C1 (by decide)) dX12_together_75 rfl rfl ?_
  refine J_goto (q := 47) C0 dX12_together_78 (by decide) ?_
  refine J_sub (lv' := [(0, vr (some a0)), (1, vi (v1)), (2, vi (v2 + 1))]) [1, 2, 0] rfl ?_
  exact hk47 (v1) (v2 + 1) (put_I σ b14 (s2).toNatClampNeg ((s1) + (s0))) ((hT).putI) ((hE).putI)  ((h0).putI)  hf
set_option maxHeartbeats 4000000 in
set_option maxRecDepth 100000 in
theorem t_X12_together_L47 {N : Nat} {a0 : Nat} {Γ : Gm} {σ0 : Sg} {r : (Int32 × Sg)} (C1 : CM Γ cX12_together RX12 3 (some .int) 8 184 0 0 (fun r_ τ_ => (r_ = some (vi r.1)) ∧ τ_ = r.2 ∧ sg_T τ_ ∧ sg_E σ0 τ_)) (k32 : Int32 → Sg → Option (Int32 × Sg)) (hk32 : ∀ (v1 : Int32) (σ : Sg), sg_T σ → sg_E σ0 σ → is_A σ a0 11 → k32 v1 σ = some r → J_ Γ 32 [(0, vr (some a0)), (1, vi v1)] [] σ 0 0) : ∀ (n : Nat) (v1 : Int32) (v2 : Int32) (σ : Sg), sg_T σ → sg_E σ0 σ → is_A σ a0 11 → f_X12_together_L47 N a0 k32  n v1 v2 σ = some r → J_ Γ 47 [(0, vr (some a0)), (1, vi (v1)), (2, vi (v2))] [] σ 0 0 := by
  have C0 := C1.1
  intro n
  induction n with
  | zero => intro v1 v2 σ hT hE h0  hf; unfold f_X12_together_L47 at hf; cases hf
  | succ n ih =>
    intro v1 v2 σ hT hE h0  hf
    rw [f_X12_together_L47] at hf
    refine J_iload_n (q := 48) C0 2 rfl rfl dX12_together_47 rfl ?_
    refine J_bipush (q := 50) (v := 60) C0 dX12_together_48 rfl rfl ?_
    refine J_icmp_gt (t := 81) (q := 53) C0 dX12_together_50 (by decide) rfl hf (fun c9 hf => ?_) (fun c9 hf => ?_)
    · refine J_iinc (q := 84) (v := v1 + 1) (lv' := [(1, vi (v1 + 1)), (0, vr (some a0)), (2, vi (v2))]) C0 1 rfl rfl (G_nl C1 (by decide)) dX12_together_81 rfl rfl ?_
      refine J_goto (q := 32) C0 dX12_together_84 (by decide) ?_
      refine J_sub (lv' := [(0, vr (some a0)), (1, vi (v1 + 1))]) [1, 0] rfl ?_
      exact hk32 (v1 + 1) σ (hT) (hE)  (h0)  hf
    · refine J_aload_n (q := 54) C0 0 rfl rfl dX12_together_53 rfl trivial ?_
      refine J_getR (q := 57) C0 fl_X12_71_11 rfl (h0) rfl dX12_together_54 rfl ?_
      refine J_iload_n (q := 58) C0 2 rfl rfl dX12_together_57 rfl ?_
      refine J_dup2 (q := 59) C0 dX12_together_58 rfl rfl rfl ?_
      refine K_some hf (fun b10 hb10 hf => ?_)
      have ab10 : is_A σ b10 12 := ((sg_T.op hT (j := 32) (h0) rfl)) b10 hb10
      refine K_chk hf (fun c11 hf => ?_)
      refine J_iald (q := 60) C0 hb10 (ab10) c11 dX12_together_59 rfl ?_
      refine J_aload_n (q := 61) C0 0 rfl rfl dX12_together_60 rfl trivial ?_
      refine J_iload_n (q := 62) C0 2 rfl rfl dX12_together_61 rfl ?_
      refine K_some hf (fun p12 hp12 hf => ?_)
      refine J_callV (q := 65) (ci := 11) (as := [vi (v2)]) (rest := [vi (sg_I σ b10 (v2).toNatClampNeg), vi (v2), vr (sg_R σ a0 32)]) C0 rfl (h0) (t_X12_standsBy N a0 (v2) (hT) (h0)  hp12) ml_X12_standsBy lk_X12_349 im_X12_standsBy se_X12_standsBy rfl (by decide) dX12_together_62 rfl rfl rfl (by simp [ac_]) C1.room (by decide) (by decide) (by decide) (by decide) (fun r_ τ_ hQ => ?_)
      obtain ⟨⟨rfl, zp12⟩, ht_⟩ := hQ; have ht_ := ht_.symm; subst ht_
      show J_ Γ 65 [(0, vr (some a0)), (1, vi (v1)), (2, vi (v2))] [vi (p12), vi (sg_I σ b10 (v2).toNatClampNeg), vi (v2), vr (sg_R σ a0 32)] σ 0 0
      refine J_if_eq (t := 72) (q := 68) C0 dX12_together_65 (by decide) rfl hf (fun c13 hf => ?_) (fun c13 hf => ?_)
      · refine J_iconst (q := 73) (v := 0) C0 dX12_together_72 rfl rfl ?_
        exact t_X12_together_B73 C1  k32  (f_X12_together_L47 N a0 k32 n)  hk32  ih  (v1) (v2) (0) (sg_I σ b10 (v2).toNatClampNeg) (v2) (sg_R σ a0 32) σ (hT) (hE) (h0) ((by rw [hb10]; exact is_O.some (ab10))) hf
      · refine J_iconst (q := 69) (v := 1) C0 dX12_together_68 rfl rfl ?_
        refine J_goto (q := 73) C0 dX12_together_69 (by decide) ?_
        exact t_X12_together_B73 C1  k32  (f_X12_together_L47 N a0 k32 n)  hk32  ih  (v1) (v2) (1) (sg_I σ b10 (v2).toNatClampNeg) (v2) (sg_R σ a0 32) σ (hT) (hE) (h0) ((by rw [hb10]; exact is_O.some (ab10))) hf
set_option maxHeartbeats 4000000 in
set_option maxRecDepth 100000 in
theorem t_X12_together_L32 {N : Nat} {a0 : Nat} {Γ : Gm} {σ0 : Sg} {r : (Int32 × Sg)} (C1 : CM Γ cX12_together RX12 3 (some .int) 8 184 0 0 (fun r_ τ_ => (r_ = some (vi r.1)) ∧ τ_ = r.2 ∧ sg_T τ_ ∧ sg_E σ0 τ_)) : ∀ (n : Nat) (v1 : Int32) (σ : Sg), sg_T σ → sg_E σ0 σ → is_A σ a0 11 → f_X12_together_L32 N a0  n v1 σ = some r → J_ Γ 32 [(0, vr (some a0)), (1, vi (v1))] [] σ 0 0 := by
  have C0 := C1.1
  intro n
  induction n with
  | zero => intro v1 σ hT hE h0  hf; unfold f_X12_together_L32 at hf; cases hf
  | succ n ih =>
    intro v1 σ hT hE h0  hf
    rw [f_X12_together_L32] at hf
    refine J_iload_n (q := 33) C0 1 rfl rfl dX12_together_32 rfl ?_
    refine J_aload_n (q := 34) C0 0 rfl rfl dX12_together_33 rfl trivial ?_
    refine J_getI (q := 37) C0 fl_X12_263_11 rfl (h0) rfl dX12_together_34 rfl ?_
    refine J_icmp_ge (t := 87) (q := 40) C0 dX12_together_37 (by decide) rfl hf (fun c3 hf => ?_) (fun c3 hf => ?_)
    · refine J_iconst (q := 88) (v := (-1)) C0 dX12_together_87 rfl rfl ?_
      refine J_istore_n (q := 89) (lv' := [(1, vi ((-1))), (0, vr (some a0))]) C0 rfl (G_nl C1 (by decide)) dX12_together_88 rfl rfl ?_
      refine J_bipush (q := 91) (v := 60) C0 dX12_together_89 rfl rfl ?_
      refine J_istore_n (q := 92) (lv' := [(2, vi (60)), (1, vi ((-1))), (0, vr (some a0))]) C0 rfl (G_nl C1 (by decide)) dX12_together_91 rfl rfl ?_
      refine J_sub (lv' := [(0, vr (some a0)), (1, vi ((-1))), (2, vi (60))]) [2, 1, 0] rfl ?_
      exact t_X12_together_L92 C1    N ((-1)) (60) σ (hT) (hE) (h0)  hf
    · refine J_aload_n (q := 41) C0 0 rfl rfl dX12_together_40 rfl trivial ?_
      refine J_iload_n (q := 42) C0 1 rfl rfl dX12_together_41 rfl ?_
      refine K_some hf (fun p8 hp8 hf => ?_)
      refine J_callV (q := 45) (ci := 11) (as := [vi (v1)]) (rest := []) C0 rfl (h0) (t_X12_layTrail N a0 (v1) (hT) (h0)  hp8) ml_X12_layTrail lk_X12_346 im_X12_layTrail se_X12_layTrail rfl (by decide) dX12_together_42 rfl rfl rfl (by simp [ac_]) C1.room (by decide) (by decide) (by decide) (by decide) (fun r_ τ_ hQ => ?_)
      obtain ⟨rfl, ht_, Tp8, Ep8⟩ := hQ; have ht_ := ht_.symm; subst ht_
      show J_ Γ 45 [(0, vr (some a0)), (1, vi (v1))] [] p8 0 0
      refine J_iconst (q := 46) (v := 1) C0 dX12_together_45 rfl rfl ?_
      refine J_istore_n (q := 47) (lv' := [(2, vi (1)), (0, vr (some a0)), (1, vi (v1))]) C0 rfl (G_nl C1 (by decide)) dX12_together_46 rfl rfl ?_
      refine J_sub (lv' := [(0, vr (some a0)), (1, vi (v1)), (2, vi (1))]) [1, 2, 0] rfl ?_
      exact t_X12_together_L47 C1  (f_X12_together_L32 N a0 n)  ih  N (v1) (1) (p8) (Tp8) ((hE).tr Ep8) ((Ep8.at h0))  hf
set_option maxHeartbeats 4000000 in
set_option maxRecDepth 100000 in
theorem t_X12_together_L11 {N : Nat} {a0 : Nat} {Γ : Gm} {σ0 : Sg} {r : (Int32 × Sg)} (C1 : CM Γ cX12_together RX12 3 (some .int) 8 184 0 0 (fun r_ τ_ => (r_ = some (vi r.1)) ∧ τ_ = r.2 ∧ sg_T τ_ ∧ sg_E σ0 τ_)) : ∀ (n : Nat) (v1 : Int32) (σ : Sg), sg_T σ → sg_E σ0 σ → is_A σ a0 11 → f_X12_together_L11 N a0  n v1 σ = some r → J_ Γ 11 [(0, vr (some a0)), (1, vi (v1))] [] σ 0 0 := by
  have C0 := C1.1
  intro n
  induction n with
  | zero => intro v1 σ hT hE h0  hf; unfold f_X12_together_L11 at hf; cases hf
  | succ n ih =>
    intro v1 σ hT hE h0  hf
    rw [f_X12_together_L11] at hf
    refine J_iload_n (q := 12) C0 1 rfl rfl dX12_together_11 rfl ?_
    refine J_bipush (q := 14) (v := 60) C0 dX12_together_12 rfl rfl ?_
    refine J_icmp_gt (t := 30) (q := 17) C0 dX12_together_14 (by decide) rfl hf (fun c2 hf => ?_) (fun c2 hf => ?_)
    · refine J_iconst (q := 31) (v := 0) C0 dX12_together_30 rfl rfl ?_
      refine J_istore_n (q := 32) (lv' := [(1, vi (0)), (0, vr (some a0))]) C0 rfl (G_nl C1 (by decide)) dX12_together_31 rfl rfl ?_
      refine J_sub (lv' := [(0, vr (some a0)), (1, vi (0))]) [1, 0] rfl ?_
      exact t_X12_together_L32 C1    N (0) σ (hT) (hE) (h0)  hf
    · refine J_aload_n (q := 18) C0 0 rfl rfl dX12_together_17 rfl trivial ?_
      refine J_getR (q := 21) C0 fl_X12_71_11 rfl (h0) rfl dX12_together_18 rfl ?_
      refine J_iload_n (q := 22) C0 1 rfl rfl dX12_together_21 rfl ?_
      refine J_iconst (q := 23) (v := 0) C0 dX12_together_22 rfl rfl ?_
      refine K_some hf (fun b16 hb16 hf => ?_)
      have ab16 : is_A σ b16 12 := ((sg_T.op hT (j := 32) (h0) rfl)) b16 hb16
      refine K_chk hf (fun c17 hf => ?_)
      refine J_iast (q := 24) C0 hb16 (ab16) c17 dX12_together_23 rfl ?_
      refine J_iinc (q := 27) (v := v1 + 1) (lv' := [(1, vi (v1 + 1)), (0, vr (some a0))]) C0 1 rfl rfl (G_nl C1 (by decide)) dX12_together_24 rfl rfl ?_
      refine J_goto (q := 11) C0 dX12_together_27 (by decide) ?_
      refine J_sub (lv' := [(0, vr (some a0)), (1, vi (v1 + 1))]) [1, 0] rfl ?_
      exact ih (v1 + 1) (put_I σ b16 (v1).toNatClampNeg (0)) ((hT).putI) ((hE).putI) ((h0).putI)  hf
set_option maxHeartbeats 4000000 in
set_option maxRecDepth 100000 in
theorem t_X12_together (N : Nat) (a0 : Nat) {σ : Sg} (hT : sg_T σ) (h0 : is_A σ a0 11) {r : (Int32 × Sg)} (hf : f_X12_together N a0  σ = some r) : Ct yX12_together cX12_together 3 (some .int) 8 184 0 0 [vr (some a0)] σ (fun r_ τ_ => (r_ = some (vi r.1)) ∧ τ_ = r.2 ∧ sg_T τ_ ∧ sg_E σ τ_) := by
  refine Ct.of (by decide +kernel) (Nat.le_of_ble_eq_true rfl) (fun Γ C1 => ?_)
  have C0 := C1.1
  have hE : sg_E σ σ := sg_E.rf
  unfold f_X12_together at hf
  show J_ Γ 0 [(0, vr (some a0))] [] σ 0 0
  refine J_aload_n (q := 1) C0 0 rfl rfl dX12_together_0 rfl trivial ?_
  refine J_getI (q := 4) C0 fl_X12_263_11 rfl (h0) rfl dX12_together_1 rfl ?_
  refine J_if_ne (t := 9) (q := 7) C0 dX12_together_4 (by decide) rfl hf (fun c1 hf => ?_) (fun c1 hf => ?_)
  · refine J_iconst (q := 10) (v := 1) C0 dX12_together_9 rfl rfl ?_
    refine J_istore_n (q := 11) (lv' := [(1, vi (1)), (0, vr (some a0))]) C0 rfl (G_nl C1 (by decide)) dX12_together_10 rfl rfl ?_
    refine J_sub (lv' := [(0, vr (some a0)), (1, vi (1))]) [1, 0] rfl ?_
    exact t_X12_together_L11 C1    N (1) σ (hT) (hE) (h0)  hf
  · refine J_iconst (q := 8) (v := (-1)) C0 dX12_together_7 rfl rfl ?_
    obtain rfl := Option.some.inj hf; exact J_iret C1 dX12_together_8 rfl (Nat.zero_le _) (Nat.zero_le _) ⟨rfl, rfl, hT, hE⟩
def f_X12_startSpots_L2 (N : Nat) (a0 : Nat) : Nat → Int32 → Sg → Option Sg
  | 0, _, _ => none
  | n + 1, v1, σ =>
  if (v1) < (sg_I σ a0 20) then
  (Option.bind (f_X12_of a0 (v1) (2) σ) fun p2 =>
  Option.bind (sg_R σ a0 33) fun b3 =>
  if (v1) < 0 ∨ sg_L σ b3 ≤ (v1).toNatClampNeg then none else
  f_X12_startSpots_L2 N a0 n (v1 + 1) (put_I σ b3 (v1).toNatClampNeg (p2)))
  else
  (some (σ))
def f_X12_startSpots (N : Nat) (a0 : Nat) (σ : Sg) : Option Sg :=
  f_X12_startSpots_L2 N a0 N (0) σ
set_option maxHeartbeats 4000000 in
set_option maxRecDepth 100000 in
theorem t_X12_startSpots_L2 {N : Nat} {a0 : Nat} {Γ : Gm} {σ0 : Sg} {r : Sg} (C1 : CM Γ cX12_startSpots RX12 2 none 1 22 0 0 (fun r_ τ_ => (r_ = none) ∧ τ_ = r ∧ sg_T τ_ ∧ sg_E σ0 τ_)) : ∀ (n : Nat) (v1 : Int32) (σ : Sg), sg_T σ → sg_E σ0 σ → is_A σ a0 11 → f_X12_startSpots_L2 N a0  n v1 σ = some r → J_ Γ 2 [(0, vr (some a0)), (1, vi (v1))] [] σ 0 0 := by
  have C0 := C1.1
  intro n
  induction n with
  | zero => intro v1 σ hT hE h0  hf; unfold f_X12_startSpots_L2 at hf; cases hf
  | succ n ih =>
    intro v1 σ hT hE h0  hf
    rw [f_X12_startSpots_L2] at hf
    refine J_iload_n (q := 3) C0 1 rfl rfl dX12_startSpots_2 rfl ?_
    refine J_aload_n (q := 4) C0 0 rfl rfl dX12_startSpots_3 rfl trivial ?_
    refine J_getI (q := 7) C0 fl_X12_263_11 rfl (h0) rfl dX12_startSpots_4 rfl ?_
    refine J_icmp_ge (t := 28) (q := 10) C0 dX12_startSpots_7 (by decide) rfl hf (fun c1 hf => ?_) (fun c1 hf => ?_)
    · obtain rfl := Option.some.inj hf; exact J_vret C1 dX12_startSpots_28 rfl (Nat.zero_le _) (Nat.zero_le _) ⟨rfl, rfl, hT, hE⟩
    · refine J_aload_n (q := 11) C0 0 rfl rfl dX12_startSpots_10 rfl trivial ?_
      refine J_getR (q := 14) C0 fl_X12_74_11 rfl (h0) rfl dX12_startSpots_11 rfl ?_
      refine J_iload_n (q := 15) C0 1 rfl rfl dX12_startSpots_14 rfl ?_
      refine J_aload_n (q := 16) C0 0 rfl rfl dX12_startSpots_15 rfl trivial ?_
      refine J_iload_n (q := 17) C0 1 rfl rfl dX12_startSpots_16 rfl ?_
      refine J_iconst (q := 18) (v := 2) C0 dX12_startSpots_17 rfl rfl ?_
      refine K_some hf (fun p2 hp2 hf => ?_)
      refine J_callV (q := 21) (ci := 11) (as := [vi (v1), vi (2)]) (rest := [vi (v1), vr (sg_R σ a0 33)]) C0 rfl (h0) (t_X12_of a0 (v1) (2) (hT) (h0)  hp2) ml_X12_of lk_X12_254 im_X12_of se_X12_of rfl (by decide) dX12_startSpots_18 rfl rfl rfl (by simp [ac_]) C1.room (by decide) (by decide) (by decide) (by decide) (fun r_ τ_ hQ => ?_)
      obtain ⟨rfl, ht_⟩ := hQ; have ht_ := ht_.symm; subst ht_
      show J_ Γ 21 [(0, vr (some a0)), (1, vi (v1))] [vi (p2), vi (v1), vr (sg_R σ a0 33)] σ 0 0
      refine K_some hf (fun b3 hb3 hf => ?_)
      have ab3 : is_A σ b3 12 := ((sg_T.op hT (j := 33) (h0) rfl)) b3 hb3
      refine K_chk hf (fun c4 hf => ?_)
      refine J_iast (q := 22) C0 hb3 (ab3) c4 dX12_startSpots_21 rfl ?_
      refine J_iinc (q := 25) (v := v1 + 1) (lv' := [(1, vi (v1 + 1)), (0, vr (some a0))]) C0 1 rfl rfl (G_nl C1 (by decide)) dX12_startSpots_22 rfl rfl ?_
      refine J_goto (q := 2) C0 dX12_startSpots_25 (by decide) ?_
      refine J_sub (lv' := [(0, vr (some a0)), (1, vi (v1 + 1))]) [1, 0] rfl ?_
      exact ih (v1 + 1) (put_I σ b3 (v1).toNatClampNeg (p2)) ((hT).putI) ((hE).putI) ((h0).putI)  hf
set_option maxHeartbeats 4000000 in
set_option maxRecDepth 100000 in
theorem t_X12_startSpots (N : Nat) (a0 : Nat) {σ : Sg} (hT : sg_T σ) (h0 : is_A σ a0 11) {r : Sg} (hf : f_X12_startSpots N a0  σ = some r) : Ct yX12_startSpots cX12_startSpots 2 none 1 22 0 0 [vr (some a0)] σ (fun r_ τ_ => (r_ = none) ∧ τ_ = r ∧ sg_T τ_ ∧ sg_E σ τ_) := by
  refine Ct.of (by decide +kernel) (Nat.le_of_ble_eq_true rfl) (fun Γ C1 => ?_)
  have C0 := C1.1
  have hE : sg_E σ σ := sg_E.rf
  unfold f_X12_startSpots at hf
  show J_ Γ 0 [(0, vr (some a0))] [] σ 0 0
  refine J_iconst (q := 1) (v := 0) C0 dX12_startSpots_0 rfl rfl ?_
  refine J_istore_n (q := 2) (lv' := [(1, vi (0)), (0, vr (some a0))]) C0 rfl (G_nl C1 (by decide)) dX12_startSpots_1 rfl rfl ?_
  refine J_sub (lv' := [(0, vr (some a0)), (1, vi (0))]) [1, 0] rfl ?_
  exact t_X12_startSpots_L2 C1    N (0) σ (hT) (hE) (h0)  hf
def f_X12_goSpots_L2 (N : Nat) (a0 : Nat) : Nat → Int32 → Int32 → Sg → Option Sg
  | 0, _, _, _ => none
  | n + 1, v1, v2, σ =>
  if (v2) < (sg_I σ a0 20) then
  (Option.bind (sg_R σ a0 33) fun b2 =>
  if (v2) < 0 ∨ sg_L σ b2 ≤ (v2).toNatClampNeg then none else
  Option.bind (f_X12_nextOf N a0 (v2) (sg_I σ b2 (v2).toNatClampNeg) (v1) σ) fun p4 =>
  if (v2) < 0 ∨ sg_L p4.2 b2 ≤ (v2).toNatClampNeg then none else
  f_X12_goSpots_L2 N a0 n (v1) (v2 + 1) (put_I p4.2 b2 (v2).toNatClampNeg (p4.1)))
  else
  (some (σ))
def f_X12_goSpots (N : Nat) (a0 : Nat) (x1 : Int32) (σ : Sg) : Option Sg :=
  f_X12_goSpots_L2 N a0 N (x1) (0) σ
set_option maxHeartbeats 4000000 in
set_option maxRecDepth 100000 in
theorem t_X12_goSpots_L2 {N : Nat} {a0 : Nat} {Γ : Gm} {σ0 : Sg} {r : Sg} (C1 : CM Γ cX12_goSpots RX12 3 none 7 162 0 0 (fun r_ τ_ => (r_ = none) ∧ τ_ = r ∧ sg_T τ_ ∧ sg_E σ0 τ_)) : ∀ (n : Nat) (v1 : Int32) (v2 : Int32) (σ : Sg), sg_T σ → sg_E σ0 σ → is_A σ a0 11 → f_X12_goSpots_L2 N a0  n v1 v2 σ = some r → J_ Γ 2 [(0, vr (some a0)), (1, vi (v1)), (2, vi (v2))] [] σ 0 0 := by
  have C0 := C1.1
  intro n
  induction n with
  | zero => intro v1 v2 σ hT hE h0  hf; unfold f_X12_goSpots_L2 at hf; cases hf
  | succ n ih =>
    intro v1 v2 σ hT hE h0  hf
    rw [f_X12_goSpots_L2] at hf
    refine J_iload_n (q := 3) C0 2 rfl rfl dX12_goSpots_2 rfl ?_
    refine J_aload_n (q := 4) C0 0 rfl rfl dX12_goSpots_3 rfl trivial ?_
    refine J_getI (q := 7) C0 fl_X12_263_11 rfl (h0) rfl dX12_goSpots_4 rfl ?_
    refine J_icmp_ge (t := 34) (q := 10) C0 dX12_goSpots_7 (by decide) rfl hf (fun c1 hf => ?_) (fun c1 hf => ?_)
    · obtain rfl := Option.some.inj hf; exact J_vret C1 dX12_goSpots_34 rfl (Nat.zero_le _) (Nat.zero_le _) ⟨rfl, rfl, hT, hE⟩
    · refine J_aload_n (q := 11) C0 0 rfl rfl dX12_goSpots_10 rfl trivial ?_
      refine J_getR (q := 14) C0 fl_X12_74_11 rfl (h0) rfl dX12_goSpots_11 rfl ?_
      refine J_iload_n (q := 15) C0 2 rfl rfl dX12_goSpots_14 rfl ?_
      refine J_aload_n (q := 16) C0 0 rfl rfl dX12_goSpots_15 rfl trivial ?_
      refine J_iload_n (q := 17) C0 2 rfl rfl dX12_goSpots_16 rfl ?_
      refine J_aload_n (q := 18) C0 0 rfl rfl dX12_goSpots_17 rfl trivial ?_
      refine J_getR (q := 21) C0 fl_X12_74_11 rfl (h0) rfl dX12_goSpots_18 rfl ?_
      refine J_iload_n (q := 22) C0 2 rfl rfl dX12_goSpots_21 rfl ?_
      refine K_some hf (fun b2 hb2 hf => ?_)
      have ab2 : is_A σ b2 12 := ((sg_T.op hT (j := 33) (h0) rfl)) b2 hb2
      refine K_chk hf (fun c3 hf => ?_)
      refine J_iald (q := 23) C0 hb2 (ab2) c3 dX12_goSpots_22 rfl ?_
      refine J_iload_n (q := 24) C0 1 rfl rfl dX12_goSpots_23 rfl ?_
      refine K_some hf (fun p4 hp4 hf => ?_)
      refine J_callV (q := 27) (ci := 11) (as := [vi (v2), vi (sg_I σ b2 (v2).toNatClampNeg), vi (v1)]) (rest := [vi (v2), vr (sg_R σ a0 33)]) C0 rfl (h0) (t_X12_nextOf N a0 (v2) (sg_I σ b2 (v2).toNatClampNeg) (v1) (hT) (h0)  hp4) ml_X12_nextOf lk_X12_298 im_X12_nextOf se_X12_nextOf rfl (by decide) dX12_goSpots_24 rfl rfl rfl (by simp [ac_]) C1.room (by decide) (by decide) (by decide) (by decide) (fun r_ τ_ hQ => ?_)
      obtain ⟨rfl, rfl, Tp4, Ep4⟩ := hQ
      show J_ Γ 27 [(0, vr (some a0)), (1, vi (v1)), (2, vi (v2))] [vi (p4.1), vi (v2), vr (sg_R σ a0 33)] p4.2 0 0
      refine K_chk hf (fun c5 hf => ?_)
      refine J_iast (q := 28) C0 hb2 ((Ep4.at ab2)) c5 dX12_goSpots_27 rfl ?_
      refine J_iinc (q := 31) (v := v2 + 1) (lv' := [(2, vi (v2 + 1)), (0, vr (some a0)), (1, vi (v1))]) C0 2 rfl rfl (G_nl C1 (by decide)) dX12_goSpots_28 rfl rfl ?_
      refine J_goto (q := 2) C0 dX12_goSpots_31 (by decide) ?_
      refine J_sub (lv' := [(0, vr (some a0)), (1, vi (v1)), (2, vi (v2 + 1))]) [1, 2, 0] rfl ?_
      exact ih (v1) (v2 + 1) (put_I p4.2 b2 (v2).toNatClampNeg (p4.1)) ((Tp4).putI) (((hE).tr Ep4).putI) (((Ep4.at h0)).putI)  hf
set_option maxHeartbeats 4000000 in
set_option maxRecDepth 100000 in
theorem t_X12_goSpots (N : Nat) (a0 : Nat) (x1 : Int32) {σ : Sg} (hT : sg_T σ) (h0 : is_A σ a0 11) {r : Sg} (hf : f_X12_goSpots N a0 x1 σ = some r) : Ct yX12_goSpots cX12_goSpots 3 none 7 162 0 0 [vr (some a0), vi x1] σ (fun r_ τ_ => (r_ = none) ∧ τ_ = r ∧ sg_T τ_ ∧ sg_E σ τ_) := by
  refine Ct.of (by decide +kernel) (Nat.le_of_ble_eq_true rfl) (fun Γ C1 => ?_)
  have C0 := C1.1
  have hE : sg_E σ σ := sg_E.rf
  unfold f_X12_goSpots at hf
  show J_ Γ 0 [(0, vr (some a0)), (1, vi (x1))] [] σ 0 0
  refine J_iconst (q := 1) (v := 0) C0 dX12_goSpots_0 rfl rfl ?_
  refine J_istore_n (q := 2) (lv' := [(2, vi (0)), (0, vr (some a0)), (1, vi (x1))]) C0 rfl (G_nl C1 (by decide)) dX12_goSpots_1 rfl rfl ?_
  refine J_sub (lv' := [(0, vr (some a0)), (1, vi (x1)), (2, vi (0))]) [1, 2, 0] rfl ?_
  exact t_X12_goSpots_L2 C1    N (x1) (0) σ (hT) (hE) (h0)  hf
