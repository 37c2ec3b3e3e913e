def f_X12_noted (a0 : Nat) (x1 : Int32) (x2 : Int32) (x3 : Int32) (σ : Sg) : Option (Int32 × Sg) :=
  Option.bind (f_X12_in (x1) (0) (99) ) fun p1 =>
  if (p1) = (0) then
  (some ((-1), σ))
  else
  (Option.bind (f_X12_in (x2) (0) (26) ) fun p3 =>
  if (p3) = (0) then
  (some ((-1), σ))
  else
  (if (sg_I σ a0 37) = (10) then
  (some ((-1), σ))
  else
  (Option.bind (sg_R σ a0 34) fun b6 =>
  if (sg_I σ a0 37) < 0 ∨ sg_L σ b6 ≤ (sg_I σ a0 37).toNatClampNeg then none else
  Option.bind (sg_R (put_I σ b6 (sg_I σ a0 37).toNatClampNeg (x1)) a0 35) fun b8 =>
  if (sg_I (put_I σ b6 (sg_I σ a0 37).toNatClampNeg (x1)) a0 37) < 0 ∨ sg_L (put_I σ b6 (sg_I σ a0 37).toNatClampNeg (x1)) b8 ≤ (sg_I (put_I σ b6 (sg_I σ a0 37).toNatClampNeg (x1)) a0 37).toNatClampNeg then none else
  Option.bind (sg_R (put_I (put_I σ b6 (sg_I σ a0 37).toNatClampNeg (x1)) b8 (sg_I (put_I σ b6 (sg_I σ a0 37).toNatClampNeg (x1)) a0 37).toNatClampNeg (x2)) a0 36) fun b10 =>
  if (sg_I (put_I (put_I σ b6 (sg_I σ a0 37).toNatClampNeg (x1)) b8 (sg_I (put_I σ b6 (sg_I σ a0 37).toNatClampNeg (x1)) a0 37).toNatClampNeg (x2)) a0 37) < 0 ∨ sg_L (put_I (put_I σ b6 (sg_I σ a0 37).toNatClampNeg (x1)) b8 (sg_I (put_I σ b6 (sg_I σ a0 37).toNatClampNeg (x1)) a0 37).toNatClampNeg (x2)) b10 ≤ (sg_I (put_I (put_I σ b6 (sg_I σ a0 37).toNatClampNeg (x1)) b8 (sg_I (put_I σ b6 (sg_I σ a0 37).toNatClampNeg (x1)) a0 37).toNatClampNeg (x2)) a0 37).toNatClampNeg then none else
  some (sg_I (put_I (put_I (put_I (put_I σ b6 (sg_I σ a0 37).toNatClampNeg (x1)) b8 (sg_I (put_I σ b6 (sg_I σ a0 37).toNatClampNeg (x1)) a0 37).toNatClampNeg (x2)) b10 (sg_I (put_I (put_I σ b6 (sg_I σ a0 37).toNatClampNeg (x1)) b8 (sg_I (put_I σ b6 (sg_I σ a0 37).toNatClampNeg (x1)) a0 37).toNatClampNeg (x2)) a0 37).toNatClampNeg ((x3) &&& 1)) a0 37 ((sg_I (put_I (put_I (put_I σ b6 (sg_I σ a0 37).toNatClampNeg (x1)) b8 (sg_I (put_I σ b6 (sg_I σ a0 37).toNatClampNeg (x1)) a0 37).toNatClampNeg (x2)) b10 (sg_I (put_I (put_I σ b6 (sg_I σ a0 37).toNatClampNeg (x1)) b8 (sg_I (put_I σ b6 (sg_I σ a0 37).toNatClampNeg (x1)) a0 37).toNatClampNeg (x2)) a0 37).toNatClampNeg ((x3) &&& 1)) a0 37) + (1))) a0 37, put_I (put_I (put_I (put_I σ b6 (sg_I σ a0 37).toNatClampNeg (x1)) b8 (sg_I (put_I σ b6 (sg_I σ a0 37).toNatClampNeg (x1)) a0 37).toNatClampNeg (x2)) b10 (sg_I (put_I (put_I σ b6 (sg_I σ a0 37).toNatClampNeg (x1)) b8 (sg_I (put_I σ b6 (sg_I σ a0 37).toNatClampNeg (x1)) a0 37).toNatClampNeg (x2)) a0 37).toNatClampNeg ((x3) &&& 1)) a0 37 ((sg_I (put_I (put_I (put_I σ b6 (sg_I σ a0 37).toNatClampNeg (x1)) b8 (sg_I (put_I σ b6 (sg_I σ a0 37).toNatClampNeg (x1)) a0 37).toNatClampNeg (x2)) b10 (sg_I (put_I (put_I σ b6 (sg_I σ a0 37).toNatClampNeg (x1)) b8 (sg_I (put_I σ b6 (sg_I σ a0 37).toNatClampNeg (x1)) a0 37).toNatClampNeg (x2)) a0 37).toNatClampNeg ((x3) &&& 1)) a0 37) + (1))))))
set_option maxHeartbeats 4000000 in
set_option maxRecDepth 100000 in
theorem t_X12_noted (a0 : Nat) (x1 : Int32) (x2 : Int32) (x3 : Int32) {σ : Sg} (hT : sg_T σ) (h0 : is_A σ a0 11) {r : (Int32 × Sg)} (hf : f_X12_noted a0 x1 x2 x3 σ = some r) : Ct yX12_noted cX12_noted 4 (some .int) 1 22 0 0 [vr (some a0), vi x1, vi x2, vi x3] σ (fun r_ τ_ => (r_ = some (vi r.1)) ∧ τ_ = r.2 ∧ sg_T τ_ ∧ sg_E σ τ_) := by
  refine Ct.of (by decide +kernel) (Nat.le_of_ble_eq_true rfl) (fun Γ C1 => ?_)
  have C0 := C1.1
  have hE : sg_E σ σ := sg_E.rf
  unfold f_X12_noted at hf
  show J_ Γ 0 [(0, vr (some a0)), (1, vi (x1)), (2, vi (x2)), (3, vi (x3))] [] σ 0 0
  refine J_iload_n (q := 1) C0 1 rfl rfl dX12_noted_0 rfl ?_
  refine J_iconst (q := 2) (v := 0) C0 dX12_noted_1 rfl rfl ?_
  refine J_bipush (q := 4) (v := 99) C0 dX12_noted_2 rfl rfl ?_
  refine K_some hf (fun p1 hp1 hf => ?_)
  refine J_callS (q := 7) (as := [vi (x1), vi (0), vi (99)]) (rest := []) C0 (t_X12_in (x1) (0) (99)  hp1) ml_X12_in lk_X12_208 sm_X12_in dX12_noted_4 rfl rfl rfl (by simp [ac_]) C1.room (by decide) (by decide) (by decide) (by decide) (fun r_ τ_ hQ => ?_)
  obtain ⟨⟨rfl, zp1⟩, ht_⟩ := hQ; have ht_ := ht_.symm; subst ht_
  show J_ Γ 7 [(0, vr (some a0)), (1, vi (x1)), (2, vi (x2)), (3, vi (x3))] [vi (p1)] σ 0 0
  refine J_if_eq (t := 29) (q := 10) C0 dX12_noted_7 (by decide) rfl hf (fun c2 hf => ?_) (fun c2 hf => ?_)
  · refine J_iconst (q := 30) (v := (-1)) C0 dX12_noted_29 rfl rfl ?_
    obtain rfl := Option.some.inj hf; exact J_iret C1 dX12_noted_30 rfl (Nat.zero_le _) (Nat.zero_le _) ⟨rfl, rfl, hT, hE⟩
  · refine J_iload_n (q := 11) C0 2 rfl rfl dX12_noted_10 rfl ?_
    refine J_iconst (q := 12) (v := 0) C0 dX12_noted_11 rfl rfl ?_
    refine J_bipush (q := 14) (v := 26) C0 dX12_noted_12 rfl rfl ?_
    refine K_some hf (fun p3 hp3 hf => ?_)
    refine J_callS (q := 17) (as := [vi (x2), vi (0), vi (26)]) (rest := []) C0 (t_X12_in (x2) (0) (26)  hp3) ml_X12_in lk_X12_208 sm_X12_in dX12_noted_14 rfl rfl rfl (by simp [ac_]) C1.room (by decide) (by decide) (by decide) (by decide) (fun r_ τ_ hQ => ?_)
    obtain ⟨⟨rfl, zp3⟩, ht_⟩ := hQ; have ht_ := ht_.symm; subst ht_
    show J_ Γ 17 [(0, vr (some a0)), (1, vi (x1)), (2, vi (x2)), (3, vi (x3))] [vi (p3)] σ 0 0
    refine J_if_eq (t := 29) (q := 20) C0 dX12_noted_17 (by decide) rfl hf (fun c4 hf => ?_) (fun c4 hf => ?_)
    · refine J_iconst (q := 30) (v := (-1)) C0 dX12_noted_29 rfl rfl ?_
      obtain rfl := Option.some.inj hf; exact J_iret C1 dX12_noted_30 rfl (Nat.zero_le _) (Nat.zero_le _) ⟨rfl, rfl, hT, hE⟩
    · refine J_aload_n (q := 21) C0 0 rfl rfl dX12_noted_20 rfl trivial ?_
      refine J_getI (q := 24) C0 fl_X12_269_11 rfl (h0) rfl dX12_noted_21 rfl ?_
      refine J_bipush (q := 26) (v := 10) C0 dX12_noted_24 rfl rfl ?_
      refine J_icmp_ne (t := 31) (q := 29) C0 dX12_noted_26 (by decide) rfl hf (fun c5 hf => ?_) (fun c5 hf => ?_)
      · refine J_aload_n (q := 32) C0 0 rfl rfl dX12_noted_31 rfl trivial ?_
        refine J_getR (q := 35) C0 fl_X12_77_11 rfl (h0) rfl dX12_noted_32 rfl ?_
        refine J_aload_n (q := 36) C0 0 rfl rfl dX12_noted_35 rfl trivial ?_
        refine J_getI (q := 39) C0 fl_X12_269_11 rfl (h0) rfl dX12_noted_36 rfl ?_
        refine J_iload_n (q := 40) C0 1 rfl rfl dX12_noted_39 rfl ?_
        refine K_some hf (fun b6 hb6 hf => ?_)
        have ab6 : is_A σ b6 12 := ((sg_T.op hT (j := 34) (h0) rfl)) b6 hb6
        refine K_chk hf (fun c7 hf => ?_)
        refine J_iast (q := 41) C0 hb6 (ab6) c7 dX12_noted_40 rfl ?_
        refine J_aload_n (q := 42) C0 0 rfl rfl dX12_noted_41 rfl trivial ?_
        refine J_getR (q := 45) C0 fl_X12_80_11 rfl ((h0).putI) rfl dX12_noted_42 rfl ?_
        refine J_aload_n (q := 46) C0 0 rfl rfl dX12_noted_45 rfl trivial ?_
        refine J_getI (q := 49) C0 fl_X12_269_11 rfl ((h0).putI) rfl dX12_noted_46 rfl ?_
        refine J_iload_n (q := 50) C0 2 rfl rfl dX12_noted_49 rfl ?_
        refine K_some hf (fun b8 hb8 hf => ?_)
        have ab8 : is_A (put_I σ b6 (sg_I σ a0 37).toNatClampNeg (x1)) b8 12 := ((sg_T.op (hT).putI (j := 35) ((h0).putI) rfl)) b8 hb8
        refine K_chk hf (fun c9 hf => ?_)
        refine J_iast (q := 51) C0 hb8 (ab8) c9 dX12_noted_50 rfl ?_
        refine J_aload_n (q := 52) C0 0 rfl rfl dX12_noted_51 rfl trivial ?_
        refine J_getR (q := 55) C0 fl_X12_83_11 rfl (((h0).putI).putI) rfl dX12_noted_52 rfl ?_
        refine J_aload_n (q := 56) C0 0 rfl rfl dX12_noted_55 rfl trivial ?_
        refine J_getI (q := 59) C0 fl_X12_269_11 rfl (((h0).putI).putI) rfl dX12_noted_56 rfl ?_
        refine J_iload_n (q := 60) C0 3 rfl rfl dX12_noted_59 rfl ?_
        refine K_some hf (fun b10 hb10 hf => ?_)
        have ab10 : is_A (put_I (put_I σ b6 (sg_I σ a0 37).toNatClampNeg (x1)) b8 (sg_I (put_I σ b6 (sg_I σ a0 37).toNatClampNeg (x1)) a0 37).toNatClampNeg (x2)) b10 13 := ((sg_T.op ((hT).putI).putI (j := 36) (((h0).putI).putI) rfl)) b10 hb10
        refine K_chk hf (fun c11 hf => ?_)
        refine J_zast (q := 61) C0 hb10 (ab10) c11 dX12_noted_60 rfl ?_
        refine J_aload_n (q := 62) C0 0 rfl rfl dX12_noted_61 rfl trivial ?_
        refine J_dup (q := 63) C0 dX12_noted_62 rfl rfl ?_
        refine J_getI (q := 66) C0 fl_X12_269_11 rfl ((((h0).putI).putI).putI) rfl dX12_noted_63 rfl ?_
        refine J_iconst (q := 67) (v := 1) C0 dX12_noted_66 rfl rfl ?_
        refine J_iadd (q := 68) C0 dX12_noted_67 rfl ?_
        refine J_putI (q := 71) C0 fl_X12_269_11 rfl ((((h0).putI).putI).putI) rfl dX12_noted_68 rfl ?_
        refine J_aload_n (q := 72) C0 0 rfl rfl dX12_noted_71 rfl trivial ?_
        refine J_getI (q := 75) C0 fl_X12_269_11 rfl (((((h0).putI).putI).putI).putI) rfl dX12_noted_72 rfl ?_
        obtain rfl := Option.some.inj hf; exact J_iret C1 dX12_noted_75 rfl (Nat.zero_le _) (Nat.zero_le _) ⟨rfl, rfl, ((((hT).putI).putI).putI).putI, ((((hE).putI).putI).putI).putI⟩
      · refine J_iconst (q := 30) (v := (-1)) C0 dX12_noted_29 rfl rfl ?_
        obtain rfl := Option.some.inj hf; exact J_iret C1 dX12_noted_30 rfl (Nat.zero_le _) (Nat.zero_le _) ⟨rfl, rfl, hT, hE⟩
def f_X12_shownBy (a0 : Nat) (x1 : Int32) (x2 : Int32) (x3 : Int32) (x4 : Int32) (σ : Sg) : Option Int32 :=
  Option.bind (sg_R σ a0 22) fun b1 =>
  if (x1) < 0 ∨ sg_L σ b1 ≤ (x1).toNatClampNeg then none else
  if (sg_I σ b1 (x1).toNatClampNeg) = 0 then none else
  Option.bind (sg_R σ a0 21) fun b4 =>
  if (((16) * (x1)) + (rm_ ((x3) + ((x2) * (x4))) (sg_I σ b1 (x1).toNatClampNeg))) < 0 ∨ sg_L σ b4 ≤ (((16) * (x1)) + (rm_ ((x3) + ((x2) * (x4))) (sg_I σ b1 (x1).toNatClampNeg))).toNatClampNeg then none else
  some (sg_I σ b4 (((16) * (x1)) + (rm_ ((x3) + ((x2) * (x4))) (sg_I σ b1 (x1).toNatClampNeg))).toNatClampNeg)
set_option maxHeartbeats 4000000 in
set_option maxRecDepth 100000 in
theorem t_X12_shownBy (a0 : Nat) (x1 : Int32) (x2 : Int32) (x3 : Int32) (x4 : Int32) {σ : Sg} (hT : sg_T σ) (h0 : is_A σ a0 11) {r : Int32} (hf : f_X12_shownBy a0 x1 x2 x3 x4 σ = some r) : Ct yX12_shownBy cX12_shownBy 5 (some .int) 0 0 0 0 [vr (some a0), vi x1, vi x2, vi x3, vi x4] σ (fun r_ τ_ => (r_ = some (vi r)) ∧ τ_ = σ) := by
  refine Ct.of (by decide +kernel) (Nat.le_of_ble_eq_true rfl) (fun Γ C1 => ?_)
  have C0 := C1.1
  unfold f_X12_shownBy at hf
  show J_ Γ 0 [(0, vr (some a0)), (1, vi (x1)), (2, vi (x2)), (3, vi (x3)), (4, vi (x4))] [] σ 0 0
  refine J_aload_n (q := 1) C0 0 rfl rfl dX12_shownBy_0 rfl trivial ?_
  refine J_getR (q := 4) C0 fl_X12_46_11 rfl (h0) rfl dX12_shownBy_1 rfl ?_
  refine J_bipush (q := 6) (v := 16) C0 dX12_shownBy_4 rfl rfl ?_
  refine J_iload_n (q := 7) C0 1 rfl rfl dX12_shownBy_6 rfl ?_
  refine J_imul (q := 8) C0 dX12_shownBy_7 rfl ?_
  refine J_iload_n (q := 9) C0 3 rfl rfl dX12_shownBy_8 rfl ?_
  refine J_iload_n (q := 10) C0 2 rfl rfl dX12_shownBy_9 rfl ?_
  refine J_iload (q := 12) C0 4 rfl dX12_shownBy_10 rfl ?_
  refine J_imul (q := 13) C0 dX12_shownBy_12 rfl ?_
  refine J_iadd (q := 14) C0 dX12_shownBy_13 rfl ?_
  refine J_aload_n (q := 15) C0 0 rfl rfl dX12_shownBy_14 rfl trivial ?_
  refine J_getR (q := 18) C0 fl_X12_49_11 rfl (h0) rfl dX12_shownBy_15 rfl ?_
  refine J_iload_n (q := 19) C0 1 rfl rfl dX12_shownBy_18 rfl ?_
  refine K_some hf (fun b1 hb1 hf => ?_)
  have ab1 : is_A σ b1 12 := ((sg_T.op hT (j := 22) (h0) rfl)) b1 hb1
  refine K_chk hf (fun c2 hf => ?_)
  refine J_iald (q := 20) C0 hb1 (ab1) c2 dX12_shownBy_19 rfl ?_
  refine K_chk hf (fun c3 hf => ?_)
  refine J_irem (q := 21) C0 dX12_shownBy_20 rfl c3 ?_
  refine J_iadd (q := 22) C0 dX12_shownBy_21 rfl ?_
  refine K_some hf (fun b4 hb4 hf => ?_)
  have ab4 : is_A σ b4 12 := ((sg_T.op hT (j := 21) (h0) rfl)) b4 hb4
  refine K_chk hf (fun c5 hf => ?_)
  refine J_iald (q := 23) C0 hb4 (ab4) c5 dX12_shownBy_22 rfl ?_
  obtain rfl := Option.some.inj hf; exact J_iret C1 dX12_shownBy_23 rfl (Nat.zero_le _) (Nat.zero_le _) ⟨rfl, rfl⟩
def f_X12_isFit_B41 (N : Nat) (a0 : Nat) (k3 : Int32 → Int32 → Int32 → Int32 → Option Int32) (v1 : Int32) (v2 : Int32) (v3 : Int32) (v4 : Int32) (s0 : Int32) (σ : Sg) : Option Int32 :=
  Option.bind (sg_R σ a0 36) fun b8 =>
  if (v4) < 0 ∨ sg_L σ b8 ≤ (v4).toNatClampNeg then none else
  if (s0) = (sg_I σ b8 (v4).toNatClampNeg) then
  (k3 (v1) (v2) (v3) (v4 + 1))
  else
  (some (0))
def f_X12_isFit_L3 (N : Nat) (a0 : Nat) : Nat → Int32 → Int32 → Int32 → Int32 → Sg → Option Int32
  | 0, _, _, _, _, _ => none
  | n + 1, v1, v2, v3, v4, σ =>
  if (v4) < (sg_I σ a0 37) then
  (Option.bind (sg_R σ a0 34) fun b2 =>
  if (v4) < 0 ∨ sg_L σ b2 ≤ (v4).toNatClampNeg then none else
  Option.bind (f_X12_shownBy a0 (v1) (v2) (v3) (sg_I σ b2 (v4).toNatClampNeg) σ) fun p4 =>
  Option.bind (sg_R σ a0 35) fun b5 =>
  if (v4) < 0 ∨ sg_L σ b5 ≤ (v4).toNatClampNeg then none else
  if (p4) = (sg_I σ b5 (v4).toNatClampNeg) then
  (f_X12_isFit_B41 N a0 (fun v1 v2 v3 v4 => f_X12_isFit_L3 N a0 n v1 v2 v3 v4 σ) (v1) (v2) (v3) (v4) (1) σ)
  else
  (f_X12_isFit_B41 N a0 (fun v1 v2 v3 v4 => f_X12_isFit_L3 N a0 n v1 v2 v3 v4 σ) (v1) (v2) (v3) (v4) (0) σ))
  else
  (some (1))
def f_X12_isFit (N : Nat) (a0 : Nat) (x1 : Int32) (x2 : Int32) (x3 : Int32) (σ : Sg) : Option Int32 :=
  f_X12_isFit_L3 N a0 N (x1) (x2) (x3) (0) σ
set_option maxHeartbeats 4000000 in
set_option maxRecDepth 100000 in
theorem t_X12_isFit_B41 {N : Nat} {a0 : Nat} {Γ : Gm} {σ : Sg} {r : Int32} (C1 : CM Γ cX12_isFit RX12 5 (some .boolean) 1 24 0 0 (fun r_ τ_ => (r_ = some (vi r) ∧ (r = 0 ∨ r = 1)) ∧ τ_ = σ)) (hT : sg_T σ) (h0 : is_A σ a0 11) (k3 : Int32 → Int32 → Int32 → Int32 → Option Int32) (hk3 : ∀ (v1 : Int32) (v2 : Int32) (v3 : Int32) (v4 : Int32) , k3 v1 v2 v3 v4 = some r → J_ Γ 3 [(0, vr (some a0)), (1, vi v1), (2, vi v2), (3, vi v3), (4, vi v4)] [] σ 0 0) (v1 : Int32) (v2 : Int32) (v3 : Int32) (v4 : Int32) (s0 : Int32) (hf : f_X12_isFit_B41 N a0 k3  v1 v2 v3 v4 s0 σ = some r) : J_ Γ 41 [(0, vr (some a0)), (1, vi (v1)), (2, vi (v2)), (3, vi (v3)), (4, vi (v4))] [vi (s0)] σ 0 0 := by
  have C0 := C1.1
  unfold f_X12_isFit_B41 at hf
  refine J_aload_n (q := 42) C0 0 rfl rfl dX12_isFit_41 rfl trivial ?_
  refine J_getR (q := 45) C0 fl_X12_83_11 rfl (h0) rfl dX12_isFit_42 rfl ?_
  refine J_iload (q := 47) C0 4 rfl dX12_isFit_45 rfl ?_
  refine K_some hf (fun b8 hb8 hf => ?_)
  have ab8 : is_A σ b8 13 := ((sg_T.op hT (j := 36) (h0) rfl)) b8 hb8
  refine K_chk hf (fun c9 hf => ?_)
  refine J_zald (q := 48) C0 hb8 (ab8) c9 dX12_isFit_47 rfl ?_
  refine J_icmp_eq (t := 53) (q := 51) C0 dX12_isFit_48 (by decide) rfl hf (fun c10 hf => ?_) (fun c10 hf => ?_)
  · refine J_iinc (q := 56) (v := v4 + 1) (lv' := [(4, vi (v4 + 1)), (0, vr (some a0)), (1, vi (v1)), (2, vi (v2)), (3, vi (v3))]) C0 4 rfl rfl (G_nl C1 (by decide)) dX12_isFit_53 rfl rfl ?_
    refine J_goto (q := 3) C0 dX12_isFit_56 (by decide) ?_
    refine J_sub (lv' := [(0, vr (some a0)), (1, vi (v1)), (2, vi (v2)), (3, vi (v3)), (4, vi (v4 + 1))]) [1, 2, 3, 4, 0] rfl ?_
    exact hk3 (v1) (v2) (v3) (v4 + 1)  hf
  · refine J_iconst (q := 52) (v := 0) C0 dX12_isFit_51 rfl rfl ?_
    obtain rfl := Option.some.inj hf; exact J_zret C1 dX12_isFit_52 rfl (Or.inl rfl) (Nat.zero_le _) (Nat.zero_le _) ⟨⟨rfl, (Or.inl rfl)⟩, rfl⟩
set_option maxHeartbeats 4000000 in
set_option maxRecDepth 100000 in
theorem t_X12_isFit_L3 {N : Nat} {a0 : Nat} {Γ : Gm} {σ : Sg} {r : Int32} (C1 : CM Γ cX12_isFit RX12 5 (some .boolean) 1 24 0 0 (fun r_ τ_ => (r_ = some (vi r) ∧ (r = 0 ∨ r = 1)) ∧ τ_ = σ)) (hT : sg_T σ) (h0 : is_A σ a0 11) : ∀ (n : Nat) (v1 : Int32) (v2 : Int32) (v3 : Int32) (v4 : Int32), f_X12_isFit_L3 N a0  n v1 v2 v3 v4 σ = some r → J_ Γ 3 [(0, vr (some a0)), (1, vi (v1)), (2, vi (v2)), (3, vi (v3)), (4, vi (v4))] [] σ 0 0 := by
  have C0 := C1.1
  intro n
  induction n with
  | zero => intro v1 v2 v3 v4  hf; unfold f_X12_isFit_L3 at hf; cases hf
  | succ n ih =>
    intro v1 v2 v3 v4  hf
    rw [f_X12_isFit_L3] at hf
    refine J_iload (q := 5) C0 4 rfl dX12_isFit_3 rfl ?_
    refine J_aload_n (q := 6) C0 0 rfl rfl dX12_isFit_5 rfl trivial ?_
    refine J_getI (q := 9) C0 fl_X12_269_11 rfl (h0) rfl dX12_isFit_6 rfl ?_
    refine J_icmp_ge (t := 59) (q := 12) C0 dX12_isFit_9 (by decide) rfl hf (fun c1 hf => ?_) (fun c1 hf => ?_)
    · refine J_iconst (q := 60) (v := 1) C0 dX12_isFit_59 rfl rfl ?_
      obtain rfl := Option.some.inj hf; exact J_zret C1 dX12_isFit_60 rfl (Or.inr rfl) (Nat.zero_le _) (Nat.zero_le _) ⟨⟨rfl, (Or.inr rfl)⟩, rfl⟩
    · refine J_aload_n (q := 13) C0 0 rfl rfl dX12_isFit_12 rfl trivial ?_
      refine J_iload_n (q := 14) C0 1 rfl rfl dX12_isFit_13 rfl ?_
      refine J_iload_n (q := 15) C0 2 rfl rfl dX12_isFit_14 rfl ?_
      refine J_iload_n (q := 16) C0 3 rfl rfl dX12_isFit_15 rfl ?_
      refine J_aload_n (q := 17) C0 0 rfl rfl dX12_isFit_16 rfl trivial ?_
      refine J_getR (q := 20) C0 fl_X12_77_11 rfl (h0) rfl dX12_isFit_17 rfl ?_
      refine J_iload (q := 22) C0 4 rfl dX12_isFit_20 rfl ?_
      refine K_some hf (fun b2 hb2 hf => ?_)
      have ab2 : is_A σ b2 12 := ((sg_T.op hT (j := 34) (h0) rfl)) b2 hb2
      refine K_chk hf (fun c3 hf => ?_)
      refine J_iald (q := 23) C0 hb2 (ab2) c3 dX12_isFit_22 rfl ?_
      refine K_some hf (fun p4 hp4 hf => ?_)
      refine J_callV (q := 26) (ci := 11) (as := [vi (v1), vi (v2), vi (v3), vi (sg_I σ b2 (v4).toNatClampNeg)]) (rest := []) C0 rfl (h0) (t_X12_shownBy a0 (v1) (v2) (v3) (sg_I σ b2 (v4).toNatClampNeg) (hT) (h0)  hp4) ml_X12_shownBy lk_X12_390 im_X12_shownBy se_X12_shownBy rfl (by decide) dX12_isFit_23 rfl rfl rfl (by simp [ac_]) C1.room (by decide) (by decide) (by decide) (by decide) (fun r_ τ_ hQ => ?_)
      obtain ⟨rfl, ht_⟩ := hQ; have ht_ := ht_.symm; subst ht_
      show J_ Γ 26 [(0, vr (some a0)), (1, vi (v1)), (2, vi (v2)), (3, vi (v3)), (4, vi (v4))] [vi (p4)] σ 0 0
      refine J_aload_n (q := 27) C0 0 rfl rfl dX12_isFit_26 rfl trivial ?_
      refine J_getR (q := 30) C0 fl_X12_80_11 rfl (h0) rfl dX12_isFit_27 rfl ?_
      refine J_iload (q := 32) C0 4 rfl dX12_isFit_30 rfl ?_
      refine K_some hf (fun b5 hb5 hf => ?_)
      have ab5 : is_A σ b5 12 := ((sg_T.op hT (j := 35) (h0) rfl)) b5 hb5
      refine K_chk hf (fun c6 hf => ?_)
      refine J_iald (q := 33) C0 hb5 (ab5) c6 dX12_isFit_32 rfl ?_
      refine J_icmp_ne (t := 40) (q := 36) C0 dX12_isFit_33 (by decide) rfl hf (fun c7 hf => ?_) (fun c7 hf => ?_)
      · refine J_iconst (q := 41) (v := 0) C0 dX12_isFit_40 rfl rfl ?_
        exact t_X12_isFit_B41 C1 (hT) (h0) (fun v1 v2 v3 v4 => f_X12_isFit_L3 N a0 n v1 v2 v3 v4 σ)  ih  (v1) (v2) (v3) (v4) (0)  hf
      · refine J_iconst (q := 37) (v := 1) C0 dX12_isFit_36 rfl rfl ?_
        refine J_goto (q := 41) C0 dX12_isFit_37 (by decide) ?_
        exact t_X12_isFit_B41 C1 (hT) (h0) (fun v1 v2 v3 v4 => f_X12_isFit_L3 N a0 n v1 v2 v3 v4 σ)  ih  (v1) (v2) (v3) (v4) (1)  hf
set_option maxHeartbeats 4000000 in
set_option maxRecDepth 100000 in
theorem t_X12_isFit (N : Nat) (a0 : Nat) (x1 : Int32) (x2 : Int32) (x3 : Int32) {σ : Sg} (hT : sg_T σ) (h0 : is_A σ a0 11) {r : Int32} (hf : f_X12_isFit N a0 x1 x2 x3 σ = some r) : Ct yX12_isFit cX12_isFit 5 (some .boolean) 1 24 0 0 [vr (some a0), vi x1, vi x2, vi x3] σ (fun r_ τ_ => (r_ = some (vi r) ∧ (r = 0 ∨ r = 1)) ∧ τ_ = σ) := by
  refine Ct.of (by decide +kernel) (Nat.le_of_ble_eq_true rfl) (fun Γ C1 => ?_)
  have C0 := C1.1
  unfold f_X12_isFit at hf
  show J_ Γ 0 [(0, vr (some a0)), (1, vi (x1)), (2, vi (x2)), (3, vi (x3))] [] σ 0 0
  refine J_iconst (q := 1) (v := 0) C0 dX12_isFit_0 rfl rfl ?_
  refine J_istore (q := 3) (lv' := [(4, vi (0)), (0, vr (some a0)), (1, vi (x1)), (2, vi (x2)), (3, vi (x3))]) C0 (G_nl C1 (by decide)) dX12_isFit_1 rfl rfl ?_
  refine J_sub (lv' := [(0, vr (some a0)), (1, vi (x1)), (2, vi (x2)), (3, vi (x3)), (4, vi (0))]) [1, 2, 3, 4, 0] rfl ?_
  exact t_X12_isFit_L3 C1 (hT) (h0)    N (x1) (x2) (x3) (0)  hf
def f_X12_fits_B73 (N : Nat) (a0 : Nat) (k11 : Int32 → Int32 → Int32 → Option Int32) (v1 : Int32) (v2 : Int32) (v3 : Int32) (σ : Sg) : Option Int32 :=
  k11 (v1) (v2) (v3 + 1)
def f_X12_fits_L11 (N : Nat) (a0 : Nat) : Nat → Int32 → Int32 → Int32 → Sg → Option Int32
  | 0, _, _, _, _ => none
  | n + 1, v1, v2, v3, σ =>
  if (v3) < ((1000) * (sg_I σ a0 23)) then
  (Option.bind (sg_R σ a0 22) fun b4 =>
  if ((v3) / (1000)) < 0 ∨ sg_L σ b4 ≤ ((v3) / (1000)).toNatClampNeg then none else
  if (rm_ (v3) (100)) < (sg_I σ b4 ((v3) / (1000)).toNatClampNeg) then
  (Option.bind (f_X12_isFit N a0 ((v3) / (1000)) (rm_ ((v3) / (100)) (10)) (rm_ (v3) (100)) σ) fun p7 =>
  if (p7) = (0) then
  (f_X12_fits_B73 N a0 (fun v1 v2 v3 => f_X12_fits_L11 N a0 n v1 v2 v3 σ) (v1) (v2) (v3) σ)
  else
  (if (v2) = (v1) then
  (some (v3))
  else
  (f_X12_fits_B73 N a0 (fun v1 v2 v3 => f_X12_fits_L11 N a0 n v1 v2 v3 σ) (v1) (v2 + 1) (v3) σ)))
  else
  (f_X12_fits_B73 N a0 (fun v1 v2 v3 => f_X12_fits_L11 N a0 n v1 v2 v3 σ) (v1) (v2) (v3) σ))
  else
  (if (v1) = ((-1)) then
  (some (v2))
  else
  (some ((-1))))
def f_X12_fits (N : Nat) (a0 : Nat) (x1 : Int32) (σ : Sg) : Option Int32 :=
  if (x1) < ((-1)) then
  (some ((-1)))
  else
  (f_X12_fits_L11 N a0 N (x1) (0) (0) σ)
set_option maxHeartbeats 4000000 in
set_option maxRecDepth 100000 in
theorem t_X12_fits_B73 {N : Nat} {a0 : Nat} {Γ : Gm} {σ : Sg} {r : Int32} (C1 : CM Γ cX12_fits RX12 4 (some .int) 2 48 0 0 (fun r_ τ_ => (r_ = some (vi r)) ∧ τ_ = σ)) (hT : sg_T σ) (h0 : is_A σ a0 11) (k11 : Int32 → Int32 → Int32 → Option Int32) (hk11 : ∀ (v1 : Int32) (v2 : Int32) (v3 : Int32) , k11 v1 v2 v3 = some r → J_ Γ 11 [(0, vr (some a0)), (1, vi v1), (2, vi v2), (3, vi v3)] [] σ 0 0) (v1 : Int32) (v2 : Int32) (v3 : Int32) (hf : f_X12_fits_B73 N a0 k11  v1 v2 v3 σ = some r) : J_ Γ 73 [(0, vr (some a0)), (1, vi (v1)), (2, vi (v2)), (3, vi (v3))] [] σ 0 0 := by
  have C0 := C1.1
  unfold f_X12_fits_B73 at hf
  refine J_iinc (q := 76) (v := v3 + 1) (lv' := [(3, vi (v3 + 1)), (0, vr (some a0)), (1, vi (v1)), (2, vi (v2))]) C0 3 rfl rfl (G_nl C1 (by decide)) dX12_fits_73 rfl rfl ?_
  refine J_goto (q := 11) C0 dX12_fits_76 (by decide) ?_
  refine J_sub (lv' := [(0, vr (some a0)), (1, vi (v1)), (2, vi (v2)), (3, vi (v3 + 1))]) [1, 2, 3, 0] rfl ?_
  exact hk11 (v1) (v2) (v3 + 1)  hf
set_option maxHeartbeats 4000000 in
set_option maxRecDepth 100000 in
theorem t_X12_fits_L11 {N : Nat} {a0 : Nat} {Γ : Gm} {σ : Sg} {r : Int32} (C1 : CM Γ cX12_fits RX12 4 (some .int) 2 48 0 0 (fun r_ τ_ => (r_ = some (vi r)) ∧ τ_ = σ)) (hT : sg_T σ) (h0 : is_A σ a0 11) : ∀ (n : Nat) (v1 : Int32) (v2 : Int32) (v3 : Int32), f_X12_fits_L11 N a0  n v1 v2 v3 σ = some r → J_ Γ 11 [(0, vr (some a0)), (1, vi (v1)), (2, vi (v2)), (3, vi (v3))] [] σ 0 0 := by
  have C0 := C1.1
  intro n
  induction n with
  | zero => intro v1 v2 v3  hf; unfold f_X12_fits_L11 at hf; cases hf
  | succ n ih =>
    intro v1 v2 v3  hf
    rw [f_X12_fits_L11] at hf
    refine J_iload_n (q := 12) C0 3 rfl rfl dX12_fits_11 rfl ?_
    refine J_sipush (q := 15) (v := 1000) C0 dX12_fits_12 rfl rfl ?_
    refine J_aload_n (q := 16) C0 0 rfl rfl dX12_fits_15 rfl trivial ?_
    refine J_getI (q := 19) C0 fl_X12_251_11 rfl (h0) rfl dX12_fits_16 rfl ?_
    refine J_imul (q := 20) C0 dX12_fits_19 rfl ?_
    refine J_icmp_ge (t := 79) (q := 23) C0 dX12_fits_20 (by decide) rfl hf (fun c2 hf => ?_) (fun c2 hf => ?_)
    · refine J_iload_n (q := 80) C0 1 rfl rfl dX12_fits_79 rfl ?_
      refine J_iconst (q := 81) (v := (-1)) C0 dX12_fits_80 rfl rfl ?_
      refine J_icmp_ne (t := 88) (q := 84) C0 dX12_fits_81 (by decide) rfl hf (fun c3 hf => ?_) (fun c3 hf => ?_)
      · refine J_iconst (q := 89) (v := (-1)) C0 dX12_fits_88 rfl rfl ?_
        obtain rfl := Option.some.inj hf; exact J_iret C1 dX12_fits_89 rfl (Nat.zero_le _) (Nat.zero_le _) ⟨rfl, rfl⟩
      · refine J_iload_n (q := 85) C0 2 rfl rfl dX12_fits_84 rfl ?_
        refine J_goto (q := 89) C0 dX12_fits_85 (by decide) ?_
        obtain rfl := Option.some.inj hf; exact J_iret C1 dX12_fits_89 rfl (Nat.zero_le _) (Nat.zero_le _) ⟨rfl, rfl⟩
    · refine J_iload_n (q := 24) C0 3 rfl rfl dX12_fits_23 rfl ?_
      refine J_bipush (q := 26) (v := 100) C0 dX12_fits_24 rfl rfl ?_
      refine J_irem (q := 27) C0 dX12_fits_26 rfl (by decide) ?_
      refine J_aload_n (q := 28) C0 0 rfl rfl dX12_fits_27 rfl trivial ?_
      refine J_getR (q := 31) C0 fl_X12_49_11 rfl (h0) rfl dX12_fits_28 rfl ?_
      refine J_iload_n (q := 32) C0 3 rfl rfl dX12_fits_31 rfl ?_
      refine J_sipush (q := 35) (v := 1000) C0 dX12_fits_32 rfl rfl ?_
      refine J_idiv (q := 36) C0 dX12_fits_35 rfl (by decide) ?_
      refine K_some hf (fun b4 hb4 hf => ?_)
      have ab4 : is_A σ b4 12 := ((sg_T.op hT (j := 22) (h0) rfl)) b4 hb4
      refine K_chk hf (fun c5 hf => ?_)
      refine J_iald (q := 37) C0 hb4 (ab4) c5 dX12_fits_36 rfl ?_
      refine J_icmp_ge (t := 73) (q := 40) C0 dX12_fits_37 (by decide) rfl hf (fun c6 hf => ?_) (fun c6 hf => ?_)
      · exact t_X12_fits_B73 C1 (hT) (h0) (fun v1 v2 v3 => f_X12_fits_L11 N a0 n v1 v2 v3 σ)  ih  (v1) (v2) (v3)  hf
      · refine J_aload_n (q := 41) C0 0 rfl rfl dX12_fits_40 rfl trivial ?_
        refine J_iload_n (q := 42) C0 3 rfl rfl dX12_fits_41 rfl ?_
        refine J_sipush (q := 45) (v := 1000) C0 dX12_fits_42 rfl rfl ?_
        refine J_idiv (q := 46) C0 dX12_fits_45 rfl (by decide) ?_
        refine J_iload_n (q := 47) C0 3 rfl rfl dX12_fits_46 rfl ?_
        refine J_bipush (q := 49) (v := 100) C0 dX12_fits_47 rfl rfl ?_
        refine J_idiv (q := 50) C0 dX12_fits_49 rfl (by decide) ?_
        refine J_bipush (q := 52) (v := 10) C0 dX12_fits_50 rfl rfl ?_
        refine J_irem (q := 53) C0 dX12_fits_52 rfl (by decide) ?_
        refine J_iload_n (q := 54) C0 3 rfl rfl dX12_fits_53 rfl ?_
        refine J_bipush (q := 56) (v := 100) C0 dX12_fits_54 rfl rfl ?_
        refine J_irem (q := 57) C0 dX12_fits_56 rfl (by decide) ?_
        refine K_some hf (fun p7 hp7 hf => ?_)
        refine J_callV (q := 60) (ci := 11) (as := [vi ((v3) / (1000)), vi (rm_ ((v3) / (100)) (10)), vi (rm_ (v3) (100))]) (rest := []) C0 rfl (h0) (t_X12_isFit N a0 ((v3) / (1000)) (rm_ ((v3) / (100)) (10)) (rm_ (v3) (100)) (hT) (h0)  hp7) ml_X12_isFit lk_X12_394 im_X12_isFit se_X12_isFit rfl (by decide) dX12_fits_57 rfl rfl rfl (by simp [ac_]) C1.room (by decide) (by decide) (by decide) (by decide) (fun r_ τ_ hQ => ?_)
        obtain ⟨⟨rfl, zp7⟩, ht_⟩ := hQ; have ht_ := ht_.symm; subst ht_
        show J_ Γ 60 [(0, vr (some a0)), (1, vi (v1)), (2, vi (v2)), (3, vi (v3))] [vi (p7)] σ 0 0
        refine J_if_eq (t := 73) (q := 63) C0 dX12_fits_60 (by decide) rfl hf (fun c8 hf => ?_) (fun c8 hf => ?_)
        · exact t_X12_fits_B73 C1 (hT) (h0) (fun v1 v2 v3 => f_X12_fits_L11 N a0 n v1 v2 v3 σ)  ih  (v1) (v2) (v3)  hf
        · refine J_iload_n (q := 64) C0 2 rfl rfl dX12_fits_63 rfl ?_
          refine J_iload_n (q := 65) C0 1 rfl rfl dX12_fits_64 rfl ?_
          refine J_icmp_ne (t := 70) (q := 68) C0 dX12_fits_65 (by decide) rfl hf (fun c9 hf => ?_) (fun c9 hf => ?_)
          · refine J_iinc (q := 73) (v := v2 + 1) (lv' := [(2, vi (v2 + 1)), (0, vr (some a0)), (1, vi (v1)), (3, vi (v3))]) C0 2 rfl rfl (G_nl C1 (by decide)) dX12_fits_70 rfl rfl ?_
            refine J_sub (lv' := [(0, vr (some a0)), (1, vi (v1)), (2, vi (v2 + 1)), (3, vi (v3))]) [1, 2, 0, 3] rfl ?_
            exact t_X12_fits_B73 C1 (hT) (h0) (fun v1 v2 v3 => f_X12_fits_L11 N a0 n v1 v2 v3 σ)  ih  (v1) (v2 + 1) (v3)  hf
          · refine J_iload_n (q := 69) C0 3 rfl rfl dX12_fits_68 rfl ?_
            obtain rfl := Option.some.inj hf; exact J_iret C1 dX12_fits_69 rfl (Nat.zero_le _) (Nat.zero_le _) ⟨rfl, rfl⟩
set_option maxHeartbeats 4000000 in
set_option maxRecDepth 100000 in
theorem t_X12_fits (N : Nat) (a0 : Nat) (x1 : Int32) {σ : Sg} (hT : sg_T σ) (h0 : is_A σ a0 11) {r : Int32} (hf : f_X12_fits N a0 x1 σ = some r) : Ct yX12_fits cX12_fits 4 (some .int) 2 48 0 0 [vr (some a0), vi x1] σ (fun r_ τ_ => (r_ = some (vi r)) ∧ τ_ = σ) := by
  refine Ct.of (by decide +kernel) (Nat.le_of_ble_eq_true rfl) (fun Γ C1 => ?_)
  have C0 := C1.1
  unfold f_X12_fits at hf
  show J_ Γ 0 [(0, vr (some a0)), (1, vi (x1))] [] σ 0 0
  refine J_iload_n (q := 1) C0 1 rfl rfl dX12_fits_0 rfl ?_
  refine J_iconst (q := 2) (v := (-1)) C0 dX12_fits_1 rfl rfl ?_
  refine J_icmp_ge (t := 7) (q := 5) C0 dX12_fits_2 (by decide) rfl hf (fun c1 hf => ?_) (fun c1 hf => ?_)
  · refine J_iconst (q := 8) (v := 0) C0 dX12_fits_7 rfl rfl ?_
    refine J_istore_n (q := 9) (lv' := [(2, vi (0)), (0, vr (some a0)), (1, vi (x1))]) C0 rfl (G_nl C1 (by decide)) dX12_fits_8 rfl rfl ?_
    refine J_iconst (q := 10) (v := 0) C0 dX12_fits_9 rfl rfl ?_
    refine J_istore_n (q := 11) (lv' := [(3, vi (0)), (2, vi (0)), (0, vr (some a0)), (1, vi (x1))]) C0 rfl (G_nl C1 (by decide)) dX12_fits_10 rfl rfl ?_
    refine J_sub (lv' := [(0, vr (some a0)), (1, vi (x1)), (2, vi (0)), (3, vi (0))]) [2, 3, 1, 0] rfl ?_
    exact t_X12_fits_L11 C1 (hT) (h0)    N (x1) (0) (0)  hf
  · refine J_iconst (q := 6) (v := (-1)) C0 dX12_fits_5 rfl rfl ?_
    obtain rfl := Option.some.inj hf; exact J_iret C1 dX12_fits_6 rfl (Nat.zero_le _) (Nat.zero_le _) ⟨rfl, rfl⟩
def f_X12_ask_B208 (N : Nat) (a0 : Nat) (k148 : Int32 → Int32 → Int32 → Sg → Option (Int32 × Sg)) (v1 : Int32) (v2 : Int32) (v3 : Int32) (σ : Sg) : Option (Int32 × Sg) :=
  k148 (v1) (v2) (v3 + 1) σ
def f_X12_ask_B203 (N : Nat) (a0 : Nat) (k148 : Int32 → Int32 → Int32 → Sg → Option (Int32 × Sg)) (v3 : Int32) (v4 : Int32) (σ : Sg) : Option (Int32 × Sg) :=
  f_X12_ask_B208 N a0 k148 (v3) (v4) (v3) σ
def f_X12_ask_L160 (N : Nat) (a0 : Nat) (k148 : Int32 → Int32 → Int32 → Sg → Option (Int32 × Sg)) : Nat → Int32 → Int32 → Int32 → Int32 → Int32 → Sg → Option (Int32 × Sg)
  | 0, _, _, _, _, _, _ => none
  | n + 1, v1, v2, v3, v4, v5, σ =>
  if (26) < (v5) then
  (if (v1) = ((-1)) then
  (f_X12_ask_B203 N a0 k148 (v3) (v4) σ)
  else
  (if (v4) < (v2) then
  (f_X12_ask_B203 N a0 k148 (v3) (v4) σ)
  else
  (f_X12_ask_B208 N a0 k148 (v1) (v2) (v3) σ)))
  else
  (Option.bind (sg_R σ a0 38) fun b9 =>
  if (((27) * (v3)) + (v5)) < 0 ∨ sg_L σ b9 ≤ (((27) * (v3)) + (v5)).toNatClampNeg then none else
  Option.bind (f_J9_max_7cf53 (v4) (sg_I σ b9 (((27) * (v3)) + (v5)).toNatClampNeg) ) fun p11 =>
  f_X12_ask_L160 N a0 k148 n (v1) (v2) (v3) (p11) (v5 + 1) σ)
def f_X12_ask_L148 (N : Nat) (a0 : Nat) : Nat → Int32 → Int32 → Int32 → Sg → Option (Int32 × Sg)
  | 0, _, _, _, _ => none
  | n + 1, v1, v2, v3, σ =>
  if (60) < (v3) then
  (some (v1, σ))
  else
  (f_X12_ask_L160 N a0 (f_X12_ask_L148 N a0 n) N (v1) (v2) (v3) (0) (0) σ)
def f_X12_ask_B136 (N : Nat) (a0 : Nat) (k35 : Int32 → Sg → Option (Int32 × Sg)) (v1 : Int32) (σ : Sg) : Option (Int32 × Sg) :=
  k35 (v1 + 1) σ
def f_X12_ask_L89 (N : Nat) (a0 : Nat) (k35 : Int32 → Sg → Option (Int32 × Sg)) : Nat → Int32 → Int32 → Sg → Option (Int32 × Sg)
  | 0, _, _, _ => none
  | n + 1, v1, v2, σ =>
  if (60) < (v2) then
  (f_X12_ask_B136 N a0 k35 (v1) σ)
  else
  (Option.bind (f_X12_shownBy a0 ((v1) / (1000)) (rm_ ((v1) / (100)) (10)) (rm_ (v1) (100)) (v2) σ) fun p18 =>
  Option.bind (sg_R σ a0 38) fun b19 =>
  if (((27) * (v2)) + (p18)) < 0 ∨ sg_L σ b19 ≤ (((27) * (v2)) + (p18)).toNatClampNeg then none else
  if (((27) * (v2)) + (p18)) < 0 ∨ sg_L σ b19 ≤ (((27) * (v2)) + (p18)).toNatClampNeg then none else
  f_X12_ask_L89 N a0 k35 n (v1) (v2 + 1) (put_I σ b19 (((27) * (v2)) + (p18)).toNatClampNeg ((sg_I σ b19 (((27) * (v2)) + (p18)).toNatClampNeg) + (1))))
def f_X12_ask_L35 (N : Nat) (a0 : Nat) : Nat → Int32 → Sg → Option (Int32 × Sg)
  | 0, _, _ => none
  | n + 1, v1, σ =>
  if (v1) < ((1000) * (sg_I σ a0 23)) then
  (Option.bind (sg_R σ a0 22) fun b12 =>
  if ((v1) / (1000)) < 0 ∨ sg_L σ b12 ≤ ((v1) / (1000)).toNatClampNeg then none else
  if (rm_ (v1) (100)) < (sg_I σ b12 ((v1) / (1000)).toNatClampNeg) then
  (Option.bind (f_X12_isFit N a0 ((v1) / (1000)) (rm_ ((v1) / (100)) (10)) (rm_ (v1) (100)) σ) fun p15 =>
  if (p15) = (0) then
  (f_X12_ask_B136 N a0 (f_X12_ask_L35 N a0 n) (v1) σ)
  else
  (f_X12_ask_L89 N a0 (f_X12_ask_L35 N a0 n) N (v1) (0) σ))
  else
  (f_X12_ask_B136 N a0 (f_X12_ask_L35 N a0 n) (v1) σ))
  else
  (f_X12_ask_L148 N a0 N ((-1)) (0) (0) σ)
def f_X12_ask_L13 (N : Nat) (a0 : Nat) : Nat → Int32 → Sg → Option (Int32 × Sg)
  | 0, _, _ => none
  | n + 1, v1, σ =>
  if (v1) < (1647) then
  (Option.bind (sg_R σ a0 38) fun b22 =>
  if (v1) < 0 ∨ sg_L σ b22 ≤ (v1).toNatClampNeg then none else
  f_X12_ask_L13 N a0 n (v1 + 1) (put_I σ b22 (v1).toNatClampNeg (0)))
  else
  (f_X12_ask_L35 N a0 N (0) σ)
def f_X12_ask (N : Nat) (a0 : Nat) (σ : Sg) : Option (Int32 × Sg) :=
  Option.bind (f_X12_fits N a0 (0) σ) fun p1 =>
  if (p1) = ((-1)) then
  (some ((-1), σ))
  else
  (f_X12_ask_L13 N a0 N (0) σ)
set_option maxHeartbeats 4000000 in
set_option maxRecDepth 100000 in
theorem t_X12_ask_B208 {N : Nat} {a0 : Nat} {Γ : Gm} {σ0 : Sg} {r : (Int32 × Sg)} (C1 : CM Γ cX12_ask RX12 6 (some .int) 3 71 0 0 (fun r_ τ_ => (r_ = some (vi r.1)) ∧ τ_ = r.2 ∧ sg_T τ_ ∧ sg_E σ0 τ_)) (k148 : Int32 → Int32 → Int32 → Sg → Option (Int32 × Sg)) (hk148 : ∀ (v1 : Int32) (v2 : Int32) (v3 : Int32) (σ : Sg), sg_T σ → sg_E σ0 σ → is_A σ a0 11 → k148 v1 v2 v3 σ = some r → J_ Γ 148 [(0, vr (some a0)), (1, vi v1), (2, vi v2), (3, vi v3)] [] σ 0 0) (v1 : Int32) (v2 : Int32) (v3 : Int32) (σ : Sg) (hT : sg_T σ) (hE : sg_E σ0 σ) (h0 : is_A σ a0 11) (hf : f_X12_ask_B208 N a0 k148  v1 v2 v3 σ = some r) : J_ Γ 208 [(0, vr (some a0)), (1, vi (v1)), (2, vi (v2)), (3, vi (v3))] [] σ 0 0 := by
  have C0 := C1.1
  unfold f_X12_ask_B208 at hf
  refine J_iinc (q := 211) (v := v3 + 1) (lv' := [(3, vi (v3 + 1)), (0, vr (some a0)), (1, vi (v1)), (2, vi (v2))]) C0 3 rfl rfl (G_nl C1 (by decide)) dX12_ask_208 rfl rfl ?_
  refine J_goto (q := 148) C0 dX12_ask_211 (by decide) ?_
  refine J_sub (lv' := [(0, vr (some a0)), (1, vi (v1)), (2, vi (v2)), (3, vi (v3 + 1))]) [1, 2, 3, 0] rfl ?_
  exact hk148 (v1) (v2) (v3 + 1) σ (hT) (hE)  (h0)  hf
set_option maxHeartbeats 4000000 in
set_option maxRecDepth 100000 in
theorem t_X12_ask_B203 {N : Nat} {a0 : Nat} {Γ : Gm} {σ0 : Sg} {r : (Int32 × Sg)} (C1 : CM Γ cX12_ask RX12 6 (some .int) 3 71 0 0 (fun r_ τ_ => (r_ = some (vi r.1)) ∧ τ_ = r.2 ∧ sg_T τ_ ∧ sg_E σ0 τ_)) (k148 : Int32 → Int32 → Int32 → Sg → Option (Int32 × Sg)) (hk148 : ∀ (v1 : Int32) (v2 : Int32) (v3 : Int32) (σ : Sg), sg_T σ → sg_E σ0 σ → is_A σ a0 11 → k148 v1 v2 v3 σ = some r → J_ Γ 148 [(0, vr (some a0)), (1, vi v1), (2, vi v2), (3, vi v3)] [] σ 0 0) (v3 : Int32) (v4 : Int32) (σ : Sg) (hT : sg_T σ) (hE : sg_E σ0 σ) (h0 : is_A σ a0 11) (hf : f_X12_ask_B203 N a0 k148  v3 v4 σ = some r) : J_ Γ 203 [(0, vr (some a0)), (3, vi (v3)), (4, vi (v4))] [] σ 0 0 := by
  have C0 := C1.1
  unfold f_X12_ask_B203 at hf
  refine J_iload_n (q := 204) C0 1 rfl rfl dX12_ask_203 rfl ?_
  refine J_istore_n (q := 205) (lv' := [(1, vi (v3)), (0, vr (some a0)), (3, vi (v3)), (4, vi (v4))]) C0 rfl (G_nl C1 (by decide)) dX12_ask_204 rfl rfl ?_
  refine J_iload (q := 207) C0 3 rfl dX12_ask_205 rfl ?_
  refine J_istore_n (q := 208) (lv' := [(2, vi (v4)), (1, vi (v3)), (0, vr (some a0)), (3, vi (v3)), (4, vi (v4))]) C0 rfl (G_nl C1 (by decide)) dX12_ask_207 rfl rfl ?_
  refine J_sub (lv' := [(0, vr (some a0)), (1, vi (v3)), (2, vi (v4)), (3, vi (v3))]) [2, 1, 0, 3] rfl ?_
  exact t_X12_ask_B208 C1  k148  hk148  (v3) (v4) (v3) σ (hT) (hE) (h0)  hf
set_option maxHeartbeats 4000000 in
set_option maxRecDepth 100000 in
theorem t_X12_ask_L160 {N : Nat} {a0 : Nat} {Γ : Gm} {σ0 : Sg} {r : (Int32 × Sg)} (C1 : CM Γ cX12_ask RX12 6 (some .int) 3 71 0 0 (fun r_ τ_ => (r_ = some (vi r.1)) ∧ τ_ = r.2 ∧ sg_T τ_ ∧ sg_E σ0 τ_)) (k148 : Int32 → Int32 → Int32 → Sg → Option (Int32 × Sg)) (hk148 : ∀ (v1 : Int32) (v2 : Int32) (v3 : Int32) (σ : Sg), sg_T σ → sg_E σ0 σ → is_A σ a0 11 → k148 v1 v2 v3 σ = some r → J_ Γ 148 [(0, vr (some a0)), (1, vi v1), (2, vi v2), (3, vi v3)] [] σ 0 0) : ∀ (n : Nat) (v1 : Int32) (v2 : Int32) (v3 : Int32) (v4 : Int32) (v5 : Int32) (σ : Sg), sg_T σ → sg_E σ0 σ → is_A σ a0 11 → f_X12_ask_L160 N a0 k148  n v1 v2 v3 v4 v5 σ = some r → J_ Γ 160 [(0, vr (some a0)), (1, vi (v1)), (2, vi (v2)), (3, vi (v3)), (4, vi (v4)), (5, vi (v5))] [] σ 0 0 := by
  have C0 := C1.1
  intro n
  induction n with
  | zero => intro v1 v2 v3 v4 v5 σ hT hE h0  hf; unfold f_X12_ask_L160 at hf; cases hf
  | succ n ih =>
    intro v1 v2 v3 v4 v5 σ hT hE h0  hf
    rw [f_X12_ask_L160] at hf
    refine J_iload (q := 162) C0 5 rfl dX12_ask_160 rfl ?_
    refine J_bipush (q := 164) (v := 26) C0 dX12_ask_162 rfl rfl ?_
    refine J_icmp_gt (t := 192) (q := 167) C0 dX12_ask_164 (by decide) rfl hf (fun c6 hf => ?_) (fun c6 hf => ?_)
    · refine J_iload_n (q := 193) C0 1 rfl rfl dX12_ask_192 rfl ?_
      refine J_iconst (q := 194) (v := (-1)) C0 dX12_ask_193 rfl rfl ?_
      refine J_icmp_eq (t := 203) (q := 197) C0 dX12_ask_194 (by decide) rfl hf (fun c7 hf => ?_) (fun c7 hf => ?_)
      · refine J_sub (lv' := [(0, vr (some a0)), (3, vi (v3)), (4, vi (v4))]) [0, 3, 4] rfl ?_
        exact t_X12_ask_B203 C1  k148  hk148  (v3) (v4) σ (hT) (hE) (h0)  hf
      · refine J_iload (q := 199) C0 4 rfl dX12_ask_197 rfl ?_
        refine J_iload_n (q := 200) C0 2 rfl rfl dX12_ask_199 rfl ?_
        refine J_icmp_ge (t := 208) (q := 203) C0 dX12_ask_200 (by decide) rfl hf (fun c8 hf => ?_) (fun c8 hf => ?_)
        · refine J_sub (lv' := [(0, vr (some a0)), (1, vi (v1)), (2, vi (v2)), (3, vi (v3))]) [0, 1, 2, 3] rfl ?_
          exact t_X12_ask_B208 C1  k148  hk148  (v1) (v2) (v3) σ (hT) (hE) (h0)  hf
        · refine J_sub (lv' := [(0, vr (some a0)), (3, vi (v3)), (4, vi (v4))]) [0, 3, 4] rfl ?_
          exact t_X12_ask_B203 C1  k148  hk148  (v3) (v4) σ (hT) (hE) (h0)  hf
    · refine J_iload (q := 169) C0 4 rfl dX12_ask_167 rfl ?_
      refine J_aload_n (q := 170) C0 0 rfl rfl dX12_ask_169 rfl trivial ?_
      refine J_getR (q := 173) C0 fl_X12_87_11 rfl (h0) rfl dX12_ask_170 rfl ?_
      refine J_bipush (q := 175) (v := 27) C0 dX12_ask_173 rfl rfl ?_
      refine J_iload_n (q := 176) C0 3 rfl rfl dX12_ask_175 rfl ?_
      refine J_imul (q := 177) C0 dX12_ask_176 rfl ?_
      refine J_iload (q := 179) C0 5 rfl dX12_ask_177 rfl ?_
      refine J_iadd (q := 180) C0 dX12_ask_179 rfl ?_
      refine K_some hf (fun b9 hb9 hf => ?_)
      have ab9 : is_A σ b9 12 := ((sg_T.op hT (j := 38) (h0) rfl)) b9 hb9
      refine K_chk hf (fun c10 hf => ?_)
      refine J_iald (q := 181) C0 hb9 (ab9) c10 dX12_ask_180 rfl ?_
      refine K_some hf (fun p11 hp11 hf => ?_)
      refine J_callS (q := 184) (as := [vi (v4), vi (sg_I σ b9 (((27) * (v3)) + (v5)).toNatClampNeg)]) (rest := []) C0 (t_J9_max_7cf53 (v4) (sg_I σ b9 (((27) * (v3)) + (v5)).toNatClampNeg)  hp11) ml_J9_max_7cf53 lk_X12_290 sm_J9_max_7cf53 dX12_ask_181 rfl rfl rfl (by simp [ac_]) C1.room (by decide) (by decide) (by decide) (by decide) (fun r_ τ_ hQ => ?_)
      obtain ⟨rfl, ht_⟩ := hQ; have ht_ := ht_.symm; subst ht_
      show J_ Γ 184 [(0, vr (some a0)), (1, vi (v1)), (2, vi (v2)), (3, vi (v3)), (4, vi (v4)), (5, vi (v5))] [vi (p11)] σ 0 0
      refine J_istore (q := 186) (lv' := [(4, vi (p11)), (0, vr (some a0)), (1, vi (v1)), (2, vi (v2)), (3, vi (v3)), (5, vi (v5))]) C0 (G_nl C1 (by decide)) dX12_ask_184 rfl rfl ?_
      refine J_iinc (q := 189) (v := v5 + 1) (lv' := [(5, vi (v5 + 1)), (4, vi (p11)), (0, vr (some a0)), (1, vi (v1)), (2, vi (v2)), (3, vi (v3))]) C0 5 rfl rfl (G_nl C1 (by decide)) dX12_ask_186 rfl rfl ?_
      refine J_goto (q := 160) C0 dX12_ask_189 (by decide) ?_
      refine J_sub (lv' := [(0, vr (some a0)), (1, vi (v1)), (2, vi (v2)), (3, vi (v3)), (4, vi (p11)), (5, vi (v5 + 1))]) [2, 3, 4, 5, 1, 0] rfl ?_
      exact ih (v1) (v2) (v3) (p11) (v5 + 1) σ (hT) (hE) (h0)  hf
set_option maxHeartbeats 4000000 in
set_option maxRecDepth 100000 in
theorem t_X12_ask_L148 {N : Nat} {a0 : Nat} {Γ : Gm} {σ0 : Sg} {r : (Int32 × Sg)} (C1 : CM Γ cX12_ask RX12 6 (some .int) 3 71 0 0 (fun r_ τ_ => (r_ = some (vi r.1)) ∧ τ_ = r.2 ∧ sg_T τ_ ∧ sg_E σ0 τ_)) : ∀ (n : Nat) (v1 : Int32) (v2 : Int32) (v3 : Int32) (σ : Sg), sg_T σ → sg_E σ0 σ → is_A σ a0 11 → f_X12_ask_L148 N a0  n v1 v2 v3 σ = some r → J_ Γ 148 [(0, vr (some a0)), (1, vi (v1)), (2, vi (v2)), (3, vi (v3))] [] σ 0 0 := by
  have C0 := C1.1
  intro n
  induction n with
  | zero => intro v1 v2 v3 σ hT hE h0  hf; unfold f_X12_ask_L148 at hf; cases hf
  | succ n ih =>
    intro v1 v2 v3 σ hT hE h0  hf
    rw [f_X12_ask_L148] at hf
    refine J_iload_n (q := 149) C0 3 rfl rfl dX12_ask_148 rfl ?_
    refine J_bipush (q := 151) (v := 60) C0 dX12_ask_149 rfl rfl ?_
    refine J_icmp_gt (t := 214) (q := 154) C0 dX12_ask_151 (by decide) rfl hf (fun c5 hf => ?_) (fun c5 hf => ?_)
    · refine J_iload_n (q := 215) C0 1 rfl rfl dX12_ask_214 rfl ?_
      obtain rfl := Option.some.inj hf; exact J_iret C1 dX12_ask_215 rfl (Nat.zero_le _) (Nat.zero_le _) ⟨rfl, rfl, hT, hE⟩
    · refine J_iconst (q := 155) (v := 0) C0 dX12_ask_154 rfl rfl ?_
      refine J_istore (q := 157) (lv' := [(4, vi (0)), (0, vr (some a0)), (1, vi (v1)), (2, vi (v2)), (3, vi (v3))]) C0 (G_nl C1 (by decide)) dX12_ask_155 rfl rfl ?_
      refine J_iconst (q := 158) (v := 0) C0 dX12_ask_157 rfl rfl ?_
      refine J_istore (q := 160) (lv' := [(5, vi (0)), (4, vi (0)), (0, vr (some a0)), (1, vi (v1)), (2, vi (v2)), (3, vi (v3))]) C0 (G_nl C1 (by decide)) dX12_ask_158 rfl rfl ?_
      refine J_sub (lv' := [(0, vr (some a0)), (1, vi (v1)), (2, vi (v2)), (3, vi (v3)), (4, vi (0)), (5, vi (0))]) [2, 3, 4, 5, 1, 0] rfl ?_
      exact t_X12_ask_L160 C1  (f_X12_ask_L148 N a0 n)  ih  N (v1) (v2) (v3) (0) (0) σ (hT) (hE) (h0)  hf
set_option maxHeartbeats 4000000 in
set_option maxRecDepth 100000 in
theorem t_X12_ask_B136 {N : Nat} {a0 : Nat} {Γ : Gm} {σ0 : Sg} {r : (Int32 × Sg)} (C1 : CM Γ cX12_ask RX12 6 (some .int) 3 71 0 0 (fun r_ τ_ => (r_ = some (vi r.1)) ∧ τ_ = r.2 ∧ sg_T τ_ ∧ sg_E σ0 τ_)) (k35 : Int32 → Sg → Option (Int32 × Sg)) (hk35 : ∀ (v1 : Int32) (σ : Sg), sg_T σ → sg_E σ0 σ → is_A σ a0 11 → k35 v1 σ = some r → J_ Γ 35 [(0, vr (some a0)), (1, vi v1)] [] σ 0 0) (v1 : Int32) (σ : Sg) (hT : sg_T σ) (hE : sg_E σ0 σ) (h0 : is_A σ a0 11) (hf : f_X12_ask_B136 N a0 k35  v1 σ = some r) : J_ Γ 136 [(0, vr (some a0)), (1, vi (v1))] [] σ 0 0 := by
  have C0 := C1.1
  unfold f_X12_ask_B136 at hf
  refine J_iinc (q := 139) (v := v1 + 1) (lv' := [(1, vi (v1 + 1)), (0, vr (some a0))]) C0 1 rfl rfl (G_nl C1 (by decide)) dX12_ask_136 rfl rfl ?_
  refine J_goto (q := 35) C0 dX12_ask_139 (by decide) ?_
  refine J_sub (lv' := [(0, vr (some a0)), (1, vi (v1 + 1))]) [1, 0] rfl ?_
  exact hk35 (v1 + 1) σ (hT) (hE)  (h0)  hf
set_option maxHeartbeats 4000000 in
set_option maxRecDepth 100000 in
theorem t_X12_ask_L89 {N : Nat} {a0 : Nat} {Γ : Gm} {σ0 : Sg} {r : (Int32 × Sg)} (C1 : CM Γ cX12_ask RX12 6 (some .int) 3 71 0 0 (fun r_ τ_ => (r_ = some (vi r.1)) ∧ τ_ = r.2 ∧ sg_T τ_ ∧ sg_E σ0 τ_)) (k35 : Int32 → Sg → Option (Int32 × Sg)) (hk35 : ∀ (v1 : Int32) (σ : Sg), sg_T σ → sg_E σ0 σ → is_A σ a0 11 → k35 v1 σ = some r → J_ Γ 35 [(0, vr (some a0)), (1, vi v1)] [] σ 0 0) : ∀ (n : Nat) (v1 : Int32) (v2 : Int32) (σ : Sg), sg_T σ → sg_E σ0 σ → is_A σ a0 11 → f_X12_ask_L89 N a0 k35  n v1 v2 σ = some r → J_ Γ 89 [(0, vr (some a0)), (1, vi (v1)), (2, vi (v2))] [] σ 0 0 := by
  have C0 := C1.1
  intro n
  induction n with
  | zero => intro v1 v2 σ hT hE h0  hf; unfold f_X12_ask_L89 at hf; cases hf
  | succ n ih =>
    intro v1 v2 σ hT hE h0  hf
    rw [f_X12_ask_L89] at hf
    refine J_iload_n (q := 90) C0 2 rfl rfl dX12_ask_89 rfl ?_
    refine J_bipush (q := 92) (v := 60) C0 dX12_ask_90 rfl rfl ?_
    refine J_icmp_gt (t := 136) (q := 95) C0 dX12_ask_92 (by decide) rfl hf (fun c17 hf => ?_) (fun c17 hf => ?_)
    · refine J_sub (lv' := [(0, vr (some a0)), (1, vi (v1))]) [0, 1] rfl ?_
      exact t_X12_ask_B136 C1  k35  hk35  (v1) σ (hT) (hE) (h0)  hf
    · refine J_aload_n (q := 96) C0 0 rfl rfl dX12_ask_95 rfl trivial ?_
      refine J_getR (q := 99) C0 fl_X12_87_11 rfl (h0) rfl dX12_ask_96 rfl ?_
      refine J_bipush (q := 101) (v := 27) C0 dX12_ask_99 rfl rfl ?_
      refine J_iload_n (q := 102) C0 2 rfl rfl dX12_ask_101 rfl ?_
      refine J_imul (q := 103) C0 dX12_ask_102 rfl ?_
      refine J_aload_n (q := 104) C0 0 rfl rfl dX12_ask_103 rfl trivial ?_
      refine J_iload_n (q := 105) C0 1 rfl rfl dX12_ask_104 rfl ?_
      refine J_sipush (q := 108) (v := 1000) C0 dX12_ask_105 rfl rfl ?_
      refine J_idiv (q := 109) C0 dX12_ask_108 rfl (by decide) ?_
      refine J_iload_n (q := 110) C0 1 rfl rfl dX12_ask_109 rfl ?_
      refine J_bipush (q := 112) (v := 100) C0 dX12_ask_110 rfl rfl ?_
      refine J_idiv (q := 113) C0 dX12_ask_112 rfl (by decide) ?_
      refine J_bipush (q := 115) (v := 10) C0 dX12_ask_113 rfl rfl ?_
      refine J_irem (q := 116) C0 dX12_ask_115 rfl (by decide) ?_
      refine J_iload_n (q := 117) C0 1 rfl rfl dX12_ask_116 rfl ?_
      refine J_bipush (q := 119) (v := 100) C0 dX12_ask_117 rfl rfl ?_
      refine J_irem (q := 120) C0 dX12_ask_119 rfl (by decide) ?_
      refine J_iload_n (q := 121) C0 2 rfl rfl dX12_ask_120 rfl ?_
      refine K_some hf (fun p18 hp18 hf => ?_)
      refine J_callV (q := 124) (ci := 11) (as := [vi ((v1) / (1000)), vi (rm_ ((v1) / (100)) (10)), vi (rm_ (v1) (100)), vi (v2)]) (rest := [vi ((27) * (v2)), vr (sg_R σ a0 38)]) C0 rfl (h0) (t_X12_shownBy a0 ((v1) / (1000)) (rm_ ((v1) / (100)) (10)) (rm_ (v1) (100)) (v2) (hT) (h0)  hp18) ml_X12_shownBy lk_X12_390 im_X12_shownBy se_X12_shownBy rfl (by decide) dX12_ask_121 rfl rfl rfl (by simp [ac_]) C1.room (by decide) (by decide) (by decide) (by decide) (fun r_ τ_ hQ => ?_)
      obtain ⟨rfl, ht_⟩ := hQ; have ht_ := ht_.symm; subst ht_
      show J_ Γ 124 [(0, vr (some a0)), (1, vi (v1)), (2, vi (v2))] [vi (p18), vi ((27) * (v2)), vr (sg_R σ a0 38)] σ 0 0
      refine J_iadd (q := 125) C0 dX12_ask_124 rfl ?_
      refine J_dup2 (q := 126) C0 dX12_ask_125 rfl rfl rfl ?_
      refine K_some hf (fun b19 hb19 hf => ?_)
      have ab19 : is_A σ b19 12 := ((sg_T.op hT (j := 38) (h0) rfl)) b19 hb19
      refine K_chk hf (fun c20 hf => ?_)
      refine J_iald (q := 127) C0 hb19 (ab19) c20 dX12_ask_126 rfl ?_
      refine J_iconst (q := 128) (v := 1) C0 dX12_ask_127 rfl rfl ?_
      refine J_iadd (q := 129) C0 dX12_ask_128 rfl ?_
      refine K_chk hf (fun c21 hf => ?_)
      refine J_iast (q := 130) C0 hb19 (ab19) c21 dX12_ask_129 rfl ?_
      refine J_iinc (q := 133) (v := v2 + 1) (lv' := [(2, vi (v2 + 1)), (0, vr (some a0)), (1, vi (v1))]) C0 2 rfl rfl (G_nl C1 (by decide)) dX12_ask_130 rfl rfl ?_
      refine J_goto (q := 89) C0 dX12_ask_133 (by decide) ?_
      refine J_sub (lv' := [(0, vr (some a0)), (1, vi (v1)), (2, vi (v2 + 1))]) [1, 2, 0] rfl ?_
      exact ih (v1) (v2 + 1) (put_I σ b19 (((27) * (v2)) + (p18)).toNatClampNeg ((sg_I σ b19 (((27) * (v2)) + (p18)).toNatClampNeg) + (1))) ((hT).putI) ((hE).putI) ((h0).putI)  hf
set_option maxHeartbeats 4000000 in
set_option maxRecDepth 100000 in
theorem t_X12_ask_L35 {N : Nat} {a0 : Nat} {Γ : Gm} {σ0 : Sg} {r : (Int32 × Sg)} (C1 : CM Γ cX12_ask RX12 6 (some .int) 3 71 0 0 (fun r_ τ_ => (r_ = some (vi r.1)) ∧ τ_ = r.2 ∧ sg_T τ_ ∧ sg_E σ0 τ_)) : ∀ (n : Nat) (v1 : Int32) (σ : Sg), sg_T σ → sg_E σ0 σ → is_A σ a0 11 → f_X12_ask_L35 N a0  n v1 σ = some r → J_ Γ 35 [(0, vr (some a0)), (1, vi (v1))] [] σ 0 0 := by
  have C0 := C1.1
  intro n
  induction n with
  | zero => intro v1 σ hT hE h0  hf; unfold f_X12_ask_L35 at hf; cases hf
  | succ n ih =>
    intro v1 σ hT hE h0  hf
    rw [f_X12_ask_L35] at hf
    refine J_iload_n (q := 36) C0 1 rfl rfl dX12_ask_35 rfl ?_
    refine J_sipush (q := 39) (v := 1000) C0 dX12_ask_36 rfl rfl ?_
    refine J_aload_n (q := 40) C0 0 rfl rfl dX12_ask_39 rfl trivial ?_
    refine J_getI (q := 43) C0 fl_X12_251_11 rfl (h0) rfl dX12_ask_40 rfl ?_
    refine J_imul (q := 44) C0 dX12_ask_43 rfl ?_
    refine J_icmp_ge (t := 142) (q := 47) C0 dX12_ask_44 (by decide) rfl hf (fun c4 hf => ?_) (fun c4 hf => ?_)
    · refine J_iconst (q := 143) (v := (-1)) C0 dX12_ask_142 rfl rfl ?_
      refine J_istore_n (q := 144) (lv' := [(1, vi ((-1))), (0, vr (some a0))]) C0 rfl (G_nl C1 (by decide)) dX12_ask_143 rfl rfl ?_
      refine J_iconst (q := 145) (v := 0) C0 dX12_ask_144 rfl rfl ?_
      refine J_istore_n (q := 146) (lv' := [(2, vi (0)), (1, vi ((-1))), (0, vr (some a0))]) C0 rfl (G_nl C1 (by decide)) dX12_ask_145 rfl rfl ?_
      refine J_iconst (q := 147) (v := 0) C0 dX12_ask_146 rfl rfl ?_
      refine J_istore_n (q := 148) (lv' := [(3, vi (0)), (2, vi (0)), (1, vi ((-1))), (0, vr (some a0))]) C0 rfl (G_nl C1 (by decide)) dX12_ask_147 rfl rfl ?_
      refine J_sub (lv' := [(0, vr (some a0)), (1, vi ((-1))), (2, vi (0)), (3, vi (0))]) [3, 2, 1, 0] rfl ?_
      exact t_X12_ask_L148 C1    N ((-1)) (0) (0) σ (hT) (hE) (h0)  hf
    · refine J_iload_n (q := 48) C0 1 rfl rfl dX12_ask_47 rfl ?_
      refine J_bipush (q := 50) (v := 100) C0 dX12_ask_48 rfl rfl ?_
      refine J_irem (q := 51) C0 dX12_ask_50 rfl (by decide) ?_
      refine J_aload_n (q := 52) C0 0 rfl rfl dX12_ask_51 rfl trivial ?_
      refine J_getR (q := 55) C0 fl_X12_49_11 rfl (h0) rfl dX12_ask_52 rfl ?_
      refine J_iload_n (q := 56) C0 1 rfl rfl dX12_ask_55 rfl ?_
      refine J_sipush (q := 59) (v := 1000) C0 dX12_ask_56 rfl rfl ?_
      refine J_idiv (q := 60) C0 dX12_ask_59 rfl (by decide) ?_
      refine K_some hf (fun b12 hb12 hf => ?_)
      have ab12 : is_A σ b12 12 := ((sg_T.op hT (j := 22) (h0) rfl)) b12 hb12
      refine K_chk hf (fun c13 hf => ?_)
      refine J_iald (q := 61) C0 hb12 (ab12) c13 dX12_ask_60 rfl ?_
      refine J_icmp_ge (t := 136) (q := 64) C0 dX12_ask_61 (by decide) rfl hf (fun c14 hf => ?_) (fun c14 hf => ?_)
      · exact t_X12_ask_B136 C1  (f_X12_ask_L35 N a0 n)  ih  (v1) σ (hT) (hE) (h0)  hf
      · refine J_aload_n (q := 65) C0 0 rfl rfl dX12_ask_64 rfl trivial ?_
        refine J_iload_n (q := 66) C0 1 rfl rfl dX12_ask_65 rfl ?_
        refine J_sipush (q := 69) (v := 1000) C0 dX12_ask_66 rfl rfl ?_
        refine J_idiv (q := 70) C0 dX12_ask_69 rfl (by decide) ?_
        refine J_iload_n (q := 71) C0 1 rfl rfl dX12_ask_70 rfl ?_
        refine J_bipush (q := 73) (v := 100) C0 dX12_ask_71 rfl rfl ?_
        refine J_idiv (q := 74) C0 dX12_ask_73 rfl (by decide) ?_
        refine J_bipush (q := 76) (v := 10) C0 dX12_ask_74 rfl rfl ?_
        refine J_irem (q := 77) C0 dX12_ask_76 rfl (by decide) ?_
        refine J_iload_n (q := 78) C0 1 rfl rfl dX12_ask_77 rfl ?_
        refine J_bipush (q := 80) (v := 100) C0 dX12_ask_78 rfl rfl ?_
        refine J_irem (q := 81) C0 dX12_ask_80 rfl (by decide) ?_
        refine K_some hf (fun p15 hp15 hf => ?_)
        refine J_callV (q := 84) (ci := 11) (as := [vi ((v1) / (1000)), vi (rm_ ((v1) / (100)) (10)), vi (rm_ (v1) (100))]) (rest := []) C0 rfl (h0) (t_X12_isFit N a0 ((v1) / (1000)) (rm_ ((v1) / (100)) (10)) (rm_ (v1) (100)) (hT) (h0)  hp15) ml_X12_isFit lk_X12_394 im_X12_isFit se_X12_isFit rfl (by decide) dX12_ask_81 rfl rfl rfl (by simp [ac_]) C1.room (by decide) (by decide) (by decide) (by decide) (fun r_ τ_ hQ => ?_)
        obtain ⟨⟨rfl, zp15⟩, ht_⟩ := hQ; have ht_ := ht_.symm; subst ht_
        show J_ Γ 84 [(0, vr (some a0)), (1, vi (v1))] [vi (p15)] σ 0 0
        refine J_if_eq (t := 136) (q := 87) C0 dX12_ask_84 (by decide) rfl hf (fun c16 hf => ?_) (fun c16 hf => ?_)
        · exact t_X12_ask_B136 C1  (f_X12_ask_L35 N a0 n)  ih  (v1) σ (hT) (hE) (h0)  hf
        · refine J_iconst (q := 88) (v := 0) C0 dX12_ask_87 rfl rfl ?_
          refine J_istore_n (q := 89) (lv' := [(2, vi (0)), (0, vr (some a0)), (1, vi (v1))]) C0 rfl (G_nl C1 (by decide)) dX12_ask_88 rfl rfl ?_
          refine J_sub (lv' := [(0, vr (some a0)), (1, vi (v1)), (2, vi (0))]) [1, 2, 0] rfl ?_
          exact t_X12_ask_L89 C1  (f_X12_ask_L35 N a0 n)  ih  N (v1) (0) σ (hT) (hE) (h0)  hf
set_option maxHeartbeats 4000000 in
set_option maxRecDepth 100000 in
theorem t_X12_ask_L13 {N : Nat} {a0 : Nat} {Γ : Gm} {σ0 : Sg} {r : (Int32 × Sg)} (C1 : CM Γ cX12_ask RX12 6 (some .int) 3 71 0 0 (fun r_ τ_ => (r_ = some (vi r.1)) ∧ τ_ = r.2 ∧ sg_T τ_ ∧ sg_E σ0 τ_)) : ∀ (n : Nat) (v1 : Int32) (σ : Sg), sg_T σ → sg_E σ0 σ → is_A σ a0 11 → f_X12_ask_L13 N a0  n v1 σ = some r → J_ Γ 13 [(0, vr (some a0)), (1, vi (v1))] [] σ 0 0 := by
  have C0 := C1.1
  intro n
  induction n with
  | zero => intro v1 σ hT hE h0  hf; unfold f_X12_ask_L13 at hf; cases hf
  | succ n ih =>
    intro v1 σ hT hE h0  hf
    rw [f_X12_ask_L13] at hf
    refine J_iload_n (q := 14) C0 1 rfl rfl dX12_ask_13 rfl ?_
    refine J_sipush (q := 17) (v := 1647) C0 dX12_ask_14 rfl rfl ?_
    refine J_icmp_ge (t := 33) (q := 20) C0 dX12_ask_17 (by decide) rfl hf (fun c3 hf => ?_) (fun c3 hf => ?_)
    · refine J_iconst (q := 34) (v := 0) C0 dX12_ask_33 rfl rfl ?_
      refine J_istore_n (q := 35) (lv' := [(1, vi (0)), (0, vr (some a0))]) C0 rfl (G_nl C1 (by decide)) dX12_ask_34 rfl rfl ?_
      refine J_sub (lv' := [(0, vr (some a0)), (1, vi (0))]) [1, 0] rfl ?_
      exact t_X12_ask_L35 C1    N (0) σ (hT) (hE) (h0)  hf
    · refine J_aload_n (q := 21) C0 0 rfl rfl dX12_ask_20 rfl trivial ?_
      refine J_getR (q := 24) C0 fl_X12_87_11 rfl (h0) rfl dX12_ask_21 rfl ?_
      refine J_iload_n (q := 25) C0 1 rfl rfl dX12_ask_24 rfl ?_
      refine J_iconst (q := 26) (v := 0) C0 dX12_ask_25 rfl rfl ?_
      refine K_some hf (fun b22 hb22 hf => ?_)
      have ab22 : is_A σ b22 12 := ((sg_T.op hT (j := 38) (h0) rfl)) b22 hb22
      refine K_chk hf (fun c23 hf => ?_)
      refine J_iast (q := 27) C0 hb22 (ab22) c23 dX12_ask_26 rfl ?_
      refine J_iinc (q := 30) (v := v1 + 1) (lv' := [(1, vi (v1 + 1)), (0, vr (some a0))]) C0 1 rfl rfl (G_nl C1 (by decide)) dX12_ask_27 rfl rfl ?_
      refine J_goto (q := 13) C0 dX12_ask_30 (by decide) ?_
      refine J_sub (lv' := [(0, vr (some a0)), (1, vi (v1 + 1))]) [1, 0] rfl ?_
      exact ih (v1 + 1) (put_I σ b22 (v1).toNatClampNeg (0)) ((hT).putI) ((hE).putI) ((h0).putI)  hf
set_option maxHeartbeats 4000000 in
set_option maxRecDepth 100000 in
theorem t_X12_ask (N : Nat) (a0 : Nat) {σ : Sg} (hT : sg_T σ) (h0 : is_A σ a0 11) {r : (Int32 × Sg)} (hf : f_X12_ask N a0  σ = some r) : Ct yX12_ask cX12_ask 6 (some .int) 3 71 0 0 [vr (some a0)] σ (fun r_ τ_ => (r_ = some (vi r.1)) ∧ τ_ = r.2 ∧ sg_T τ_ ∧ sg_E σ τ_) := by
  refine Ct.of (by decide +kernel) (Nat.le_of_ble_eq_true rfl) (fun Γ C1 => ?_)
  have C0 := C1.1
  have hE : sg_E σ σ := sg_E.rf
  unfold f_X12_ask at hf
  show J_ Γ 0 [(0, vr (some a0))] [] σ 0 0
  refine J_aload_n (q := 1) C0 0 rfl rfl dX12_ask_0 rfl trivial ?_
  refine J_iconst (q := 2) (v := 0) C0 dX12_ask_1 rfl rfl ?_
  refine K_some hf (fun p1 hp1 hf => ?_)
  refine J_callV (q := 5) (ci := 11) (as := [vi (0)]) (rest := []) C0 rfl (h0) (t_X12_fits N a0 (0) (hT) (h0)  hp1) ml_X12_fits lk_X12_397 im_X12_fits se_X12_fits rfl (by decide) dX12_ask_2 rfl rfl rfl (by simp [ac_]) C1.room (by decide) (by decide) (by decide) (by decide) (fun r_ τ_ hQ => ?_)
  obtain ⟨rfl, ht_⟩ := hQ; have ht_ := ht_.symm; subst ht_
  show J_ Γ 5 [(0, vr (some a0))] [vi (p1)] σ 0 0
  refine J_iconst (q := 6) (v := (-1)) C0 dX12_ask_5 rfl rfl ?_
  refine J_icmp_ne (t := 11) (q := 9) C0 dX12_ask_6 (by decide) rfl hf (fun c2 hf => ?_) (fun c2 hf => ?_)
  · refine J_iconst (q := 12) (v := 0) C0 dX12_ask_11 rfl rfl ?_
    refine J_istore_n (q := 13) (lv' := [(1, vi (0)), (0, vr (some a0))]) C0 rfl (G_nl C1 (by decide)) dX12_ask_12 rfl rfl ?_
    refine J_sub (lv' := [(0, vr (some a0)), (1, vi (0))]) [1, 0] rfl ?_
    exact t_X12_ask_L13 C1    N (0) σ (hT) (hE) (h0)  hf
  · refine J_iconst (q := 10) (v := (-1)) C0 dX12_ask_9 rfl rfl ?_
    obtain rfl := Option.some.inj hf; exact J_iret C1 dX12_ask_10 rfl (Nat.zero_le _) (Nat.zero_le _) ⟨rfl, rfl, hT, hE⟩
def f_X12_gameOf_L6 (N : Nat) (a0 : Nat) : Nat → Int32 → Int32 → Int32 → Int32 → Int32 → Int32 → Sg → Option Int32
  | 0, _, _, _, _, _, _, _ => none
  | n + 1, v1, v2, v3, v4, v5, v6, σ =>
  if (v6) < (6) then
  (Option.bind (f_X12_of a0 (v1) (3) σ) fun p4 =>
  Option.bind (f_X12_of a0 (v1) (2) σ) fun p5 =>
  Option.bind (f_X12_longOf a0 (v1) σ) fun p6 =>
  if (p6) = 0 then none else
  Option.bind (f_X12_pictureAt a0 (p4) (rm_ ((p5) + (((v6) * (v2)) * (v3))) (p6)) σ) fun p8 =>
  f_X12_gameOf_L6 N a0 n (v1) (v2) (v3) (v4) ((v5) ||| ((1) <<< ((p8) &&& 31))) (v6 + 1) σ)
  else
  (Option.bind (f_J6_bitCount_0f7a4 ((v5) &&& (67108863)) ) fun p2 =>
  if (v4) = (0) then
  (some (((2) * (p2)) - (v2)))
  else
  (some (((9) - (p2)) + (v3))))
def f_X12_gameOf (N : Nat) (a0 : Nat) (x1 : Int32) (x2 : Int32) (x3 : Int32) (x4 : Int32) (σ : Sg) : Option Int32 :=
  f_X12_gameOf_L6 N a0 N (x1) (x2) (x3) (x4) (0) (0) σ
set_option maxHeartbeats 4000000 in
set_option maxRecDepth 100000 in
theorem t_X12_gameOf_L6 {N : Nat} {a0 : Nat} {Γ : Gm} {σ : Sg} {r : Int32} (C1 : CM Γ cX12_gameOf RX12 7 (some .int) 2 43 0 0 (fun r_ τ_ => (r_ = some (vi r)) ∧ τ_ = σ)) (hT : sg_T σ) (h0 : is_A σ a0 11) : ∀ (n : Nat) (v1 : Int32) (v2 : Int32) (v3 : Int32) (v4 : Int32) (v5 : Int32) (v6 : Int32), f_X12_gameOf_L6 N a0  n v1 v2 v3 v4 v5 v6 σ = some r → J_ Γ 6 [(0, vr (some a0)), (1, vi (v1)), (2, vi (v2)), (3, vi (v3)), (4, vi (v4)), (5, vi (v5)), (6, vi (v6))] [] σ 0 0 := by
  have C0 := C1.1
  intro n
  induction n with
  | zero => intro v1 v2 v3 v4 v5 v6  hf; unfold f_X12_gameOf_L6 at hf; cases hf
  | succ n ih =>
    intro v1 v2 v3 v4 v5 v6  hf
    rw [f_X12_gameOf_L6] at hf
    refine J_iload (q := 8) C0 6 rfl dX12_gameOf_6 rfl ?_
    refine J_bipush (q := 10) (v := 6) C0 dX12_gameOf_8 rfl rfl ?_
    refine J_icmp_ge (t := 55) (q := 13) C0 dX12_gameOf_10 (by decide) rfl hf (fun c1 hf => ?_) (fun c1 hf => ?_)
    · refine J_iload (q := 57) C0 5 rfl dX12_gameOf_55 rfl ?_
      refine J_ldc_w (q := 60) C0 kc_X12_400 dX12_gameOf_57 rfl ?_
      refine J_iand (q := 61) C0 dX12_gameOf_60 rfl ?_
      refine K_some hf (fun p2 hp2 hf => ?_)
      refine J_callS (q := 64) (as := [vi ((v5) &&& (67108863))]) (rest := []) C0 (t_J6_bitCount_0f7a4 ((v5) &&& (67108863))  hp2) ml_J6_bitCount_0f7a4 lk_X12_401 sm_J6_bitCount_0f7a4 dX12_gameOf_61 rfl rfl rfl (by simp [ac_]) C1.room (by decide) (by decide) (by decide) (by decide) (fun r_ τ_ hQ => ?_)
      obtain ⟨rfl, ht_⟩ := hQ; have ht_ := ht_.symm; subst ht_
      show J_ Γ 64 [(0, vr (some a0)), (1, vi (v1)), (2, vi (v2)), (3, vi (v3)), (4, vi (v4)), (5, vi (v5)), (6, vi (v6))] [vi (p2)] σ 0 0
      refine J_istore (q := 66) (lv' := [(6, vi (p2)), (0, vr (some a0)), (1, vi (v1)), (2, vi (v2)), (3, vi (v3)), (4, vi (v4)), (5, vi (v5))]) C0 (G_nl C1 (by decide)) dX12_gameOf_64 rfl rfl ?_
      refine J_iload (q := 68) C0 5 rfl dX12_gameOf_66 rfl ?_
      refine J_if_ne (t := 80) (q := 71) C0 dX12_gameOf_68 (by decide) rfl hf (fun c3 hf => ?_) (fun c3 hf => ?_)
      · refine J_bipush (q := 82) (v := 9) C0 dX12_gameOf_80 rfl rfl ?_
        refine J_iload (q := 84) C0 0 rfl dX12_gameOf_82 rfl ?_
        refine J_isub (q := 85) C0 dX12_gameOf_84 rfl ?_
        refine J_iload_n (q := 86) C0 4 rfl rfl dX12_gameOf_85 rfl ?_
        refine J_iadd (q := 87) C0 dX12_gameOf_86 rfl ?_
        obtain rfl := Option.some.inj hf; exact J_iret C1 dX12_gameOf_87 rfl (Nat.zero_le _) (Nat.zero_le _) ⟨rfl, rfl⟩
      · refine J_iconst (q := 72) (v := 2) C0 dX12_gameOf_71 rfl rfl ?_
        refine J_iload (q := 74) C0 0 rfl dX12_gameOf_72 rfl ?_
        refine J_imul (q := 75) C0 dX12_gameOf_74 rfl ?_
        refine J_iload_n (q := 76) C0 3 rfl rfl dX12_gameOf_75 rfl ?_
        refine J_isub (q := 77) C0 dX12_gameOf_76 rfl ?_
        refine J_goto (q := 87) C0 dX12_gameOf_77 (by decide) ?_
        obtain rfl := Option.some.inj hf; exact J_iret C1 dX12_gameOf_87 rfl (Nat.zero_le _) (Nat.zero_le _) ⟨rfl, rfl⟩
    · refine J_iload (q := 15) C0 5 rfl dX12_gameOf_13 rfl ?_
      refine J_iconst (q := 16) (v := 1) C0 dX12_gameOf_15 rfl rfl ?_
      refine J_aload_n (q := 17) C0 0 rfl rfl dX12_gameOf_16 rfl trivial ?_
      refine J_aload_n (q := 18) C0 0 rfl rfl dX12_gameOf_17 rfl trivial ?_
      refine J_iload_n (q := 19) C0 1 rfl rfl dX12_gameOf_18 rfl ?_
      refine J_iconst (q := 20) (v := 3) C0 dX12_gameOf_19 rfl rfl ?_
      refine K_some hf (fun p4 hp4 hf => ?_)
      refine J_callV (q := 23) (ci := 11) (as := [vi (v1), vi (3)]) (rest := [vr (some a0), vi (1), vi (v5)]) C0 rfl (h0) (t_X12_of a0 (v1) (3) (hT) (h0)  hp4) ml_X12_of lk_X12_254 im_X12_of se_X12_of rfl (by decide) dX12_gameOf_20 rfl rfl rfl (by simp [ac_]) C1.room (by decide) (by decide) (by decide) (by decide) (fun r_ τ_ hQ => ?_)
      obtain ⟨rfl, ht_⟩ := hQ; have ht_ := ht_.symm; subst ht_
      show J_ Γ 23 [(0, vr (some a0)), (1, vi (v1)), (2, vi (v2)), (3, vi (v3)), (4, vi (v4)), (5, vi (v5)), (6, vi (v6))] [vi (p4), vr (some a0), vi (1), vi (v5)] σ 0 0
      refine J_aload_n (q := 24) C0 0 rfl rfl dX12_gameOf_23 rfl trivial ?_
      refine J_iload_n (q := 25) C0 1 rfl rfl dX12_gameOf_24 rfl ?_
      refine J_iconst (q := 26) (v := 2) C0 dX12_gameOf_25 rfl rfl ?_
      refine K_some hf (fun p5 hp5 hf => ?_)
      refine J_callV (q := 29) (ci := 11) (as := [vi (v1), vi (2)]) (rest := [vi (p4), vr (some a0), vi (1), vi (v5)]) C0 rfl (h0) (t_X12_of a0 (v1) (2) (hT) (h0)  hp5) ml_X12_of lk_X12_254 im_X12_of se_X12_of rfl (by decide) dX12_gameOf_26 rfl rfl rfl (by simp [ac_]) C1.room (by decide) (by decide) (by decide) (by decide) (fun r_ τ_ hQ => ?_)
      obtain ⟨rfl, ht_⟩ := hQ; have ht_ := ht_.symm; subst ht_
      show J_ Γ 29 [(0, vr (some a0)), (1, vi (v1)), (2, vi (v2)), (3, vi (v3)), (4, vi (v4)), (5, vi (v5)), (6, vi (v6))] [vi (p5), vi (p4), vr (some a0), vi (1), vi (v5)] σ 0 0
      refine J_iload (q := 31) C0 6 rfl dX12_gameOf_29 rfl ?_
      refine J_iload_n (q := 32) C0 2 rfl rfl dX12_gameOf_31 rfl ?_
      refine J_imul (q := 33) C0 dX12_gameOf_32 rfl ?_
      refine J_iload_n (q := 34) C0 3 rfl rfl dX12_gameOf_33 rfl ?_
      refine J_imul (q := 35) C0 dX12_gameOf_34 rfl ?_
      refine J_iadd (q := 36) C0 dX12_gameOf_35 rfl ?_
      refine J_aload_n (q := 37) C0 0 rfl rfl dX12_gameOf_36 rfl trivial ?_
      refine J_iload_n (q := 38) C0 1 rfl rfl dX12_gameOf_37 rfl ?_
      refine K_some hf (fun p6 hp6 hf => ?_)
      refine J_callV (q := 41) (ci := 11) (as := [vi (v1)]) (rest := [vi ((p5) + (((v6) * (v2)) * (v3))), vi (p4), vr (some a0), vi (1), vi (v5)]) C0 rfl (h0) (t_X12_longOf a0 (v1) (hT) (h0)  hp6) ml_X12_longOf lk_X12_266 im_X12_longOf se_X12_longOf rfl (by decide) dX12_gameOf_38 rfl rfl rfl (by simp [ac_]) C1.room (by decide) (by decide) (by decide) (by decide) (fun r_ τ_ hQ => ?_)
      obtain ⟨rfl, ht_⟩ := hQ; have ht_ := ht_.symm; subst ht_
      show J_ Γ 41 [(0, vr (some a0)), (1, vi (v1)), (2, vi (v2)), (3, vi (v3)), (4, vi (v4)), (5, vi (v5)), (6, vi (v6))] [vi (p6), vi ((p5) + (((v6) * (v2)) * (v3))), vi (p4), vr (some a0), vi (1), vi (v5)] σ 0 0
      refine K_chk hf (fun c7 hf => ?_)
      refine J_irem (q := 42) C0 dX12_gameOf_41 rfl c7 ?_
      refine K_some hf (fun p8 hp8 hf => ?_)
      refine J_callV (q := 45) (ci := 11) (as := [vi (p4), vi (rm_ ((p5) + (((v6) * (v2)) * (v3))) (p6))]) (rest := [vi (1), vi (v5)]) C0 rfl (h0) (t_X12_pictureAt a0 (p4) (rm_ ((p5) + (((v6) * (v2)) * (v3))) (p6)) (hT) (h0)  hp8) ml_X12_pictureAt lk_X12_260 im_X12_pictureAt se_X12_pictureAt rfl (by decide) dX12_gameOf_42 rfl rfl rfl (by simp [ac_]) C1.room (by decide) (by decide) (by decide) (by decide) (fun r_ τ_ hQ => ?_)
      obtain ⟨rfl, ht_⟩ := hQ; have ht_ := ht_.symm; subst ht_
      show J_ Γ 45 [(0, vr (some a0)), (1, vi (v1)), (2, vi (v2)), (3, vi (v3)), (4, vi (v4)), (5, vi (v5)), (6, vi (v6))] [vi (p8), vi (1), vi (v5)] σ 0 0
      refine J_ishl (q := 46) C0 dX12_gameOf_45 rfl ?_
      refine J_ior (q := 47) C0 dX12_gameOf_46 rfl ?_
      refine J_istore (q := 49) (lv' := [(5, vi ((v5) ||| ((1) <<< ((p8) &&& 31)))), (0, vr (some a0)), (1, vi (v1)), (2, vi (v2)), (3, vi (v3)), (4, vi (v4)), (6, vi (v6))]) C0 (G_nl C1 (by decide)) dX12_gameOf_47 rfl rfl ?_
      refine J_iinc (q := 52) (v := v6 + 1) (lv' := [(6, vi (v6 + 1)), (5, vi ((v5) ||| ((1) <<< ((p8) &&& 31)))), (0, vr (some a0)), (1, vi (v1)), (2, vi (v2)), (3, vi (v3)), (4, vi (v4))]) C0 6 rfl rfl (G_nl C1 (by decide)) dX12_gameOf_49 rfl rfl ?_
      refine J_goto (q := 6) C0 dX12_gameOf_52 (by decide) ?_
      refine J_sub (lv' := [(0, vr (some a0)), (1, vi (v1)), (2, vi (v2)), (3, vi (v3)), (4, vi (v4)), (5, vi ((v5) ||| ((1) <<< ((p8) &&& 31)))), (6, vi (v6 + 1))]) [2, 3, 4, 5, 6, 1, 0] rfl ?_
      exact ih (v1) (v2) (v3) (v4) ((v5) ||| ((1) <<< ((p8) &&& 31))) (v6 + 1)   hf
set_option maxHeartbeats 4000000 in
set_option maxRecDepth 100000 in
theorem t_X12_gameOf (N : Nat) (a0 : Nat) (x1 : Int32) (x2 : Int32) (x3 : Int32) (x4 : Int32) {σ : Sg} (hT : sg_T σ) (h0 : is_A σ a0 11) {r : Int32} (hf : f_X12_gameOf N a0 x1 x2 x3 x4 σ = some r) : Ct yX12_gameOf cX12_gameOf 7 (some .int) 2 43 0 0 [vr (some a0), vi x1, vi x2, vi x3, vi x4] σ (fun r_ τ_ => (r_ = some (vi r)) ∧ τ_ = σ) := by
  refine Ct.of (by decide +kernel) (Nat.le_of_ble_eq_true rfl) (fun Γ C1 => ?_)
  have C0 := C1.1
  unfold f_X12_gameOf at hf
  show J_ Γ 0 [(0, vr (some a0)), (1, vi (x1)), (2, vi (x2)), (3, vi (x3)), (4, vi (x4))] [] σ 0 0
  refine J_iconst (q := 1) (v := 0) C0 dX12_gameOf_0 rfl rfl ?_
  refine J_istore (q := 3) (lv' := [(5, vi (0)), (0, vr (some a0)), (1, vi (x1)), (2, vi (x2)), (3, vi (x3)), (4, vi (x4))]) C0 (G_nl C1 (by decide)) dX12_gameOf_1 rfl rfl ?_
  refine J_iconst (q := 4) (v := 0) C0 dX12_gameOf_3 rfl rfl ?_
  refine J_istore (q := 6) (lv' := [(6, vi (0)), (5, vi (0)), (0, vr (some a0)), (1, vi (x1)), (2, vi (x2)), (3, vi (x3)), (4, vi (x4))]) C0 (G_nl C1 (by decide)) dX12_gameOf_4 rfl rfl ?_
  refine J_sub (lv' := [(0, vr (some a0)), (1, vi (x1)), (2, vi (x2)), (3, vi (x3)), (4, vi (x4)), (5, vi (0)), (6, vi (0))]) [2, 3, 4, 5, 6, 1, 0] rfl ?_
  exact t_X12_gameOf_L6 C1 (hT) (h0)    N (x1) (x2) (x3) (x4) (0) (0)  hf
def f_X12_game_B48 (N : Nat) (a0 : Nat) (σ : Sg) : Option Int32 :=
  some ((-1000000))
def f_X12_game (N : Nat) (a0 : Nat) (x1 : Int32) (x2 : Int32) (x3 : Int32) (x4 : Int32) (σ : Sg) : Option Int32 :=
  Option.bind (f_X12_isWheel a0 (x1) σ) fun p1 =>
  if (p1) = (0) then
  (f_X12_game_B48 N a0  σ)
  else
  (Option.bind (f_X12_in (x2) (1) (4) ) fun p3 =>
  if (p3) = (0) then
  (f_X12_game_B48 N a0  σ)
  else
  (Option.bind (f_X12_in (x3) (0) (3) ) fun p5 =>
  if (p5) = (0) then
  (f_X12_game_B48 N a0  σ)
  else
  (Option.bind (f_X12_in (x4) (0) (1) ) fun p7 =>
  if (p7) = (0) then
  (f_X12_game_B48 N a0  σ)
  else
  (Option.bind (f_X12_gameOf N a0 (x1) (x2) (x3) (x4) σ) fun p9 =>
  some (p9)))))
set_option maxHeartbeats 4000000 in
set_option maxRecDepth 100000 in
theorem t_X12_game_B48 {N : Nat} {a0 : Nat} {Γ : Gm} {σ : Sg} {r : Int32} (C1 : CM Γ cX12_game RX12 5 (some .int) 3 69 0 0 (fun r_ τ_ => (r_ = some (vi r)) ∧ τ_ = σ)) (hT : sg_T σ) (h0 : is_A σ a0 11)  (hf : f_X12_game_B48 N a0   σ = some r) : J_ Γ 48 [(0, vr (some a0))] [] σ 0 0 := by
  have C0 := C1.1
  unfold f_X12_game_B48 at hf
  refine J_ldc_w (q := 51) C0 kc_X12_345 dX12_game_48 rfl ?_
  obtain rfl := Option.some.inj hf; exact J_iret C1 dX12_game_51 rfl (Nat.zero_le _) (Nat.zero_le _) ⟨rfl, rfl⟩
set_option maxHeartbeats 4000000 in
set_option maxRecDepth 100000 in
theorem t_X12_game (N : Nat) (a0 : Nat) (x1 : Int32) (x2 : Int32) (x3 : Int32) (x4 : Int32) {σ : Sg} (hT : sg_T σ) (h0 : is_A σ a0 11) {r : Int32} (hf : f_X12_game N a0 x1 x2 x3 x4 σ = some r) : Ct yX12_game cX12_game 5 (some .int) 3 69 0 0 [vr (some a0), vi x1, vi x2, vi x3, vi x4] σ (fun r_ τ_ => (r_ = some (vi r)) ∧ τ_ = σ) := by
  refine Ct.of (by decide +kernel) (Nat.le_of_ble_eq_true rfl) (fun Γ C1 => ?_)
  have C0 := C1.1
  unfold f_X12_game at hf
  show J_ Γ 0 [(0, vr (some a0)), (1, vi (x1)), (2, vi (x2)), (3, vi (x3)), (4, vi (x4))] [] σ 0 0
  refine J_aload_n (q := 1) C0 0 rfl rfl dX12_game_0 rfl trivial ?_
  refine J_iload_n (q := 2) C0 1 rfl rfl dX12_game_1 rfl ?_
  refine K_some hf (fun p1 hp1 hf => ?_)
  refine J_callV (q := 5) (ci := 11) (as := [vi (x1)]) (rest := []) C0 rfl (h0) (t_X12_isWheel a0 (x1) (h0)  hp1) ml_X12_isWheel lk_X12_307 im_X12_isWheel se_X12_isWheel rfl (by decide) dX12_game_2 rfl rfl rfl (by simp [ac_]) C1.room (by decide) (by decide) (by decide) (by decide) (fun r_ τ_ hQ => ?_)
  obtain ⟨⟨rfl, zp1⟩, ht_⟩ := hQ; have ht_ := ht_.symm; subst ht_
  show J_ Γ 5 [(0, vr (some a0)), (1, vi (x1)), (2, vi (x2)), (3, vi (x3)), (4, vi (x4))] [vi (p1)] σ 0 0
  refine J_if_eq (t := 48) (q := 8) C0 dX12_game_5 (by decide) rfl hf (fun c2 hf => ?_) (fun c2 hf => ?_)
  · refine J_sub (lv' := [(0, vr (some a0))]) [0] rfl ?_
    exact t_X12_game_B48 C1 (hT) (h0)     hf
  · refine J_iload_n (q := 9) C0 2 rfl rfl dX12_game_8 rfl ?_
    refine J_iconst (q := 10) (v := 1) C0 dX12_game_9 rfl rfl ?_
    refine J_iconst (q := 11) (v := 4) C0 dX12_game_10 rfl rfl ?_
    refine K_some hf (fun p3 hp3 hf => ?_)
    refine J_callS (q := 14) (as := [vi (x2), vi (1), vi (4)]) (rest := []) C0 (t_X12_in (x2) (1) (4)  hp3) ml_X12_in lk_X12_208 sm_X12_in dX12_game_11 rfl rfl rfl (by simp [ac_]) C1.room (by decide) (by decide) (by decide) (by decide) (fun r_ τ_ hQ => ?_)
    obtain ⟨⟨rfl, zp3⟩, ht_⟩ := hQ; have ht_ := ht_.symm; subst ht_
    show J_ Γ 14 [(0, vr (some a0)), (1, vi (x1)), (2, vi (x2)), (3, vi (x3)), (4, vi (x4))] [vi (p3)] σ 0 0
    refine J_if_eq (t := 48) (q := 17) C0 dX12_game_14 (by decide) rfl hf (fun c4 hf => ?_) (fun c4 hf => ?_)
    · refine J_sub (lv' := [(0, vr (some a0))]) [0] rfl ?_
      exact t_X12_game_B48 C1 (hT) (h0)     hf
    · refine J_iload_n (q := 18) C0 3 rfl rfl dX12_game_17 rfl ?_
      refine J_iconst (q := 19) (v := 0) C0 dX12_game_18 rfl rfl ?_
      refine J_iconst (q := 20) (v := 3) C0 dX12_game_19 rfl rfl ?_
      refine K_some hf (fun p5 hp5 hf => ?_)
      refine J_callS (q := 23) (as := [vi (x3), vi (0), vi (3)]) (rest := []) C0 (t_X12_in (x3) (0) (3)  hp5) ml_X12_in lk_X12_208 sm_X12_in dX12_game_20 rfl rfl rfl (by simp [ac_]) C1.room (by decide) (by decide) (by decide) (by decide) (fun r_ τ_ hQ => ?_)
      obtain ⟨⟨rfl, zp5⟩, ht_⟩ := hQ; have ht_ := ht_.symm; subst ht_
      show J_ Γ 23 [(0, vr (some a0)), (1, vi (x1)), (2, vi (x2)), (3, vi (x3)), (4, vi (x4))] [vi (p5)] σ 0 0
      refine J_if_eq (t := 48) (q := 26) C0 dX12_game_23 (by decide) rfl hf (fun c6 hf => ?_) (fun c6 hf => ?_)
      · refine J_sub (lv' := [(0, vr (some a0))]) [0] rfl ?_
        exact t_X12_game_B48 C1 (hT) (h0)     hf
      · refine J_iload (q := 28) C0 4 rfl dX12_game_26 rfl ?_
        refine J_iconst (q := 29) (v := 0) C0 dX12_game_28 rfl rfl ?_
        refine J_iconst (q := 30) (v := 1) C0 dX12_game_29 rfl rfl ?_
        refine K_some hf (fun p7 hp7 hf => ?_)
        refine J_callS (q := 33) (as := [vi (x4), vi (0), vi (1)]) (rest := []) C0 (t_X12_in (x4) (0) (1)  hp7) ml_X12_in lk_X12_208 sm_X12_in dX12_game_30 rfl rfl rfl (by simp [ac_]) C1.room (by decide) (by decide) (by decide) (by decide) (fun r_ τ_ hQ => ?_)
        obtain ⟨⟨rfl, zp7⟩, ht_⟩ := hQ; have ht_ := ht_.symm; subst ht_
        show J_ Γ 33 [(0, vr (some a0)), (1, vi (x1)), (2, vi (x2)), (3, vi (x3)), (4, vi (x4))] [vi (p7)] σ 0 0
        refine J_if_eq (t := 48) (q := 36) C0 dX12_game_33 (by decide) rfl hf (fun c8 hf => ?_) (fun c8 hf => ?_)
        · refine J_sub (lv' := [(0, vr (some a0))]) [0] rfl ?_
          exact t_X12_game_B48 C1 (hT) (h0)     hf
        · refine J_aload_n (q := 37) C0 0 rfl rfl dX12_game_36 rfl trivial ?_
          refine J_iload_n (q := 38) C0 1 rfl rfl dX12_game_37 rfl ?_
          refine J_iload_n (q := 39) C0 2 rfl rfl dX12_game_38 rfl ?_
          refine J_iload_n (q := 40) C0 3 rfl rfl dX12_game_39 rfl ?_
          refine J_iload (q := 42) C0 4 rfl dX12_game_40 rfl ?_
          refine K_some hf (fun p9 hp9 hf => ?_)
          refine J_callV (q := 45) (ci := 11) (as := [vi (x1), vi (x2), vi (x3), vi (x4)]) (rest := []) C0 rfl (h0) (t_X12_gameOf N a0 (x1) (x2) (x3) (x4) (hT) (h0)  hp9) ml_X12_gameOf lk_X12_406 im_X12_gameOf se_X12_gameOf rfl (by decide) dX12_game_42 rfl rfl rfl (by simp [ac_]) C1.room (by decide) (by decide) (by decide) (by decide) (fun r_ τ_ hQ => ?_)
          obtain ⟨rfl, ht_⟩ := hQ; have ht_ := ht_.symm; subst ht_
          show J_ Γ 45 [(0, vr (some a0)), (1, vi (x1)), (2, vi (x2)), (3, vi (x3)), (4, vi (x4))] [vi (p9)] σ 0 0
          refine J_goto (q := 51) C0 dX12_game_45 (by decide) ?_
          obtain rfl := Option.some.inj hf; exact J_iret C1 dX12_game_51 rfl (Nat.zero_le _) (Nat.zero_le _) ⟨rfl, rfl⟩
def f_X12_isRest_L3 (N : Nat) (a0 : Nat) : Nat → Int32 → Int32 → Int32 → Int32 → Sg → Option Int32
  | 0, _, _, _, _, _ => none
  | n + 1, v1, v2, v3, v4, σ =>
  if (v4) < (4) then
  (Option.bind (f_X12_gameOf N a0 (v1) ((v4) + (1)) (v3) (0) σ) fun p2 =>
  Option.bind (f_X12_gameOf N a0 (v1) (v2) (v3) (0) σ) fun p3 =>
  if (p3) < (p2) then
  (some (0))
  else
  (Option.bind (f_X12_gameOf N a0 (v1) (v2) (v4) (1) σ) fun p5 =>
  Option.bind (f_X12_gameOf N a0 (v1) (v2) (v3) (1) σ) fun p6 =>
  if (p6) < (p5) then
  (some (0))
  else
  (f_X12_isRest_L3 N a0 n (v1) (v2) (v3) (v4 + 1) σ)))
  else
  (some (1))
def f_X12_isRest (N : Nat) (a0 : Nat) (x1 : Int32) (x2 : Int32) (x3 : Int32) (σ : Sg) : Option Int32 :=
  f_X12_isRest_L3 N a0 N (x1) (x2) (x3) (0) σ
set_option maxHeartbeats 4000000 in
set_option maxRecDepth 100000 in
theorem t_X12_isRest_L3 {N : Nat} {a0 : Nat} {Γ : Gm} {σ : Sg} {r : Int32} (C1 : CM Γ cX12_isRest RX12 5 (some .boolean) 3 69 0 0 (fun r_ τ_ => (r_ = some (vi r) ∧ (r = 0 ∨ r = 1)) ∧ τ_ = σ)) (hT : sg_T σ) (h0 : is_A σ a0 11) : ∀ (n : Nat) (v1 : Int32) (v2 : Int32) (v3 : Int32) (v4 : Int32), f_X12_isRest_L3 N a0  n v1 v2 v3 v4 σ = some r → J_ Γ 3 [(0, vr (some a0)), (1, vi (v1)), (2, vi (v2)), (3, vi (v3)), (4, vi (v4))] [] σ 0 0 := by
  have C0 := C1.1
  intro n
  induction n with
  | zero => intro v1 v2 v3 v4  hf; unfold f_X12_isRest_L3 at hf; cases hf
  | succ n ih =>
    intro v1 v2 v3 v4  hf
    rw [f_X12_isRest_L3] at hf
    refine J_iload (q := 5) C0 4 rfl dX12_isRest_3 rfl ?_
    refine J_iconst (q := 6) (v := 4) C0 dX12_isRest_5 rfl rfl ?_
    refine J_icmp_ge (t := 59) (q := 9) C0 dX12_isRest_6 (by decide) rfl hf (fun c1 hf => ?_) (fun c1 hf => ?_)
    · refine J_iconst (q := 60) (v := 1) C0 dX12_isRest_59 rfl rfl ?_
      obtain rfl := Option.some.inj hf; exact J_zret C1 dX12_isRest_60 rfl (Or.inr rfl) (Nat.zero_le _) (Nat.zero_le _) ⟨⟨rfl, (Or.inr rfl)⟩, rfl⟩
    · refine J_aload_n (q := 10) C0 0 rfl rfl dX12_isRest_9 rfl trivial ?_
      refine J_iload_n (q := 11) C0 1 rfl rfl dX12_isRest_10 rfl ?_
      refine J_iload (q := 13) C0 4 rfl dX12_isRest_11 rfl ?_
      refine J_iconst (q := 14) (v := 1) C0 dX12_isRest_13 rfl rfl ?_
      refine J_iadd (q := 15) C0 dX12_isRest_14 rfl ?_
      refine J_iload_n (q := 16) C0 3 rfl rfl dX12_isRest_15 rfl ?_
      refine J_iconst (q := 17) (v := 0) C0 dX12_isRest_16 rfl rfl ?_
      refine K_some hf (fun p2 hp2 hf => ?_)
      refine J_callV (q := 20) (ci := 11) (as := [vi (v1), vi ((v4) + (1)), vi (v3), vi (0)]) (rest := []) C0 rfl (h0) (t_X12_gameOf N a0 (v1) ((v4) + (1)) (v3) (0) (hT) (h0)  hp2) ml_X12_gameOf lk_X12_406 im_X12_gameOf se_X12_gameOf rfl (by decide) dX12_isRest_17 rfl rfl rfl (by simp [ac_]) C1.room (by decide) (by decide) (by decide) (by decide) (fun r_ τ_ hQ => ?_)
      obtain ⟨rfl, ht_⟩ := hQ; have ht_ := ht_.symm; subst ht_
      show J_ Γ 20 [(0, vr (some a0)), (1, vi (v1)), (2, vi (v2)), (3, vi (v3)), (4, vi (v4))] [vi (p2)] σ 0 0
      refine J_aload_n (q := 21) C0 0 rfl rfl dX12_isRest_20 rfl trivial ?_
      refine J_iload_n (q := 22) C0 1 rfl rfl dX12_isRest_21 rfl ?_
      refine J_iload_n (q := 23) C0 2 rfl rfl dX12_isRest_22 rfl ?_
      refine J_iload_n (q := 24) C0 3 rfl rfl dX12_isRest_23 rfl ?_
      refine J_iconst (q := 25) (v := 0) C0 dX12_isRest_24 rfl rfl ?_
      refine K_some hf (fun p3 hp3 hf => ?_)
      refine J_callV (q := 28) (ci := 11) (as := [vi (v1), vi (v2), vi (v3), vi (0)]) (rest := [vi (p2)]) C0 rfl (h0) (t_X12_gameOf N a0 (v1) (v2) (v3) (0) (hT) (h0)  hp3) ml_X12_gameOf lk_X12_406 im_X12_gameOf se_X12_gameOf rfl (by decide) dX12_isRest_25 rfl rfl rfl (by simp [ac_]) C1.room (by decide) (by decide) (by decide) (by decide) (fun r_ τ_ hQ => ?_)
      obtain ⟨rfl, ht_⟩ := hQ; have ht_ := ht_.symm; subst ht_
      show J_ Γ 28 [(0, vr (some a0)), (1, vi (v1)), (2, vi (v2)), (3, vi (v3)), (4, vi (v4))] [vi (p3), vi (p2)] σ 0 0
      refine J_icmp_gt (t := 51) (q := 31) C0 dX12_isRest_28 (by decide) rfl hf (fun c4 hf => ?_) (fun c4 hf => ?_)
      · refine J_iconst (q := 52) (v := 0) C0 dX12_isRest_51 rfl rfl ?_
        obtain rfl := Option.some.inj hf; exact J_zret C1 dX12_isRest_52 rfl (Or.inl rfl) (Nat.zero_le _) (Nat.zero_le _) ⟨⟨rfl, (Or.inl rfl)⟩, rfl⟩
      · refine J_aload_n (q := 32) C0 0 rfl rfl dX12_isRest_31 rfl trivial ?_
        refine J_iload_n (q := 33) C0 1 rfl rfl dX12_isRest_32 rfl ?_
        refine J_iload_n (q := 34) C0 2 rfl rfl dX12_isRest_33 rfl ?_
        refine J_iload (q := 36) C0 4 rfl dX12_isRest_34 rfl ?_
        refine J_iconst (q := 37) (v := 1) C0 dX12_isRest_36 rfl rfl ?_
        refine K_some hf (fun p5 hp5 hf => ?_)
        refine J_callV (q := 40) (ci := 11) (as := [vi (v1), vi (v2), vi (v4), vi (1)]) (rest := []) C0 rfl (h0) (t_X12_gameOf N a0 (v1) (v2) (v4) (1) (hT) (h0)  hp5) ml_X12_gameOf lk_X12_406 im_X12_gameOf se_X12_gameOf rfl (by decide) dX12_isRest_37 rfl rfl rfl (by simp [ac_]) C1.room (by decide) (by decide) (by decide) (by decide) (fun r_ τ_ hQ => ?_)
        obtain ⟨rfl, ht_⟩ := hQ; have ht_ := ht_.symm; subst ht_
        show J_ Γ 40 [(0, vr (some a0)), (1, vi (v1)), (2, vi (v2)), (3, vi (v3)), (4, vi (v4))] [vi (p5)] σ 0 0
        refine J_aload_n (q := 41) C0 0 rfl rfl dX12_isRest_40 rfl trivial ?_
        refine J_iload_n (q := 42) C0 1 rfl rfl dX12_isRest_41 rfl ?_
        refine J_iload_n (q := 43) C0 2 rfl rfl dX12_isRest_42 rfl ?_
        refine J_iload_n (q := 44) C0 3 rfl rfl dX12_isRest_43 rfl ?_
        refine J_iconst (q := 45) (v := 1) C0 dX12_isRest_44 rfl rfl ?_
        refine K_some hf (fun p6 hp6 hf => ?_)
        refine J_callV (q := 48) (ci := 11) (as := [vi (v1), vi (v2), vi (v3), vi (1)]) (rest := [vi (p5)]) C0 rfl (h0) (t_X12_gameOf N a0 (v1) (v2) (v3) (1) (hT) (h0)  hp6) ml_X12_gameOf lk_X12_406 im_X12_gameOf se_X12_gameOf rfl (by decide) dX12_isRest_45 rfl rfl rfl (by simp [ac_]) C1.room (by decide) (by decide) (by decide) (by decide) (fun r_ τ_ hQ => ?_)
        obtain ⟨rfl, ht_⟩ := hQ; have ht_ := ht_.symm; subst ht_
        show J_ Γ 48 [(0, vr (some a0)), (1, vi (v1)), (2, vi (v2)), (3, vi (v3)), (4, vi (v4))] [vi (p6), vi (p5)] σ 0 0
        refine J_icmp_le (t := 53) (q := 51) C0 dX12_isRest_48 (by decide) rfl hf (fun c7 hf => ?_) (fun c7 hf => ?_)
        · refine J_iinc (q := 56) (v := v4 + 1) (lv' := [(4, vi (v4 + 1)), (0, vr (some a0)), (1, vi (v1)), (2, vi (v2)), (3, vi (v3))]) C0 4 rfl rfl (G_nl C1 (by decide)) dX12_isRest_53 rfl rfl ?_
          refine J_goto (q := 3) C0 dX12_isRest_56 (by decide) ?_
          refine J_sub (lv' := [(0, vr (some a0)), (1, vi (v1)), (2, vi (v2)), (3, vi (v3)), (4, vi (v4 + 1))]) [1, 2, 3, 4, 0] rfl ?_
          exact ih (v1) (v2) (v3) (v4 + 1)   hf
        · refine J_iconst (q := 52) (v := 0) C0 dX12_isRest_51 rfl rfl ?_
          obtain rfl := Option.some.inj hf; exact J_zret C1 dX12_isRest_52 rfl (Or.inl rfl) (Nat.zero_le _) (Nat.zero_le _) ⟨⟨rfl, (Or.inl rfl)⟩, rfl⟩
set_option maxHeartbeats 4000000 in
set_option maxRecDepth 100000 in
theorem t_X12_isRest (N : Nat) (a0 : Nat) (x1 : Int32) (x2 : Int32) (x3 : Int32) {σ : Sg} (hT : sg_T σ) (h0 : is_A σ a0 11) {r : Int32} (hf : f_X12_isRest N a0 x1 x2 x3 σ = some r) : Ct yX12_isRest cX12_isRest 5 (some .boolean) 3 69 0 0 [vr (some a0), vi x1, vi x2, vi x3] σ (fun r_ τ_ => (r_ = some (vi r) ∧ (r = 0 ∨ r = 1)) ∧ τ_ = σ) := by
  refine Ct.of (by decide +kernel) (Nat.le_of_ble_eq_true rfl) (fun Γ C1 => ?_)
  have C0 := C1.1
  unfold f_X12_isRest at hf
  show J_ Γ 0 [(0, vr (some a0)), (1, vi (x1)), (2, vi (x2)), (3, vi (x3))] [] σ 0 0
  refine J_iconst (q := 1) (v := 0) C0 dX12_isRest_0 rfl rfl ?_
  refine J_istore (q := 3) (lv' := [(4, vi (0)), (0, vr (some a0)), (1, vi (x1)), (2, vi (x2)), (3, vi (x3))]) C0 (G_nl C1 (by decide)) dX12_isRest_1 rfl rfl ?_
  refine J_sub (lv' := [(0, vr (some a0)), (1, vi (x1)), (2, vi (x2)), (3, vi (x3)), (4, vi (0))]) [1, 2, 3, 4, 0] rfl ?_
  exact t_X12_isRest_L3 C1 (hT) (h0)    N (x1) (x2) (x3) (0)  hf
def f_X12_rests_B68 (N : Nat) (a0 : Nat) (k20 : Int32 → Int32 → Int32 → Int32 → Option Int32) (v1 : Int32) (v2 : Int32) (v3 : Int32) (v4 : Int32) (σ : Sg) : Option Int32 :=
  k20 (v1) (v2) (v3) (v4 + 1)
def f_X12_rests_L20 (N : Nat) (a0 : Nat) : Nat → Int32 → Int32 → Int32 → Int32 → Sg → Option Int32
  | 0, _, _, _, _, _ => none
  | n + 1, v1, v2, v3, v4, σ =>
  if (v4) < (16) then
  (Option.bind (f_X12_isRest N a0 (v1) (((v4) / (4)) + (1)) (rm_ (v4) (4)) σ) fun p6 =>
  if (p6) = (0) then
  (f_X12_rests_B68 N a0 (fun v1 v2 v3 v4 => f_X12_rests_L20 N a0 n v1 v2 v3 v4 σ) (v1) (v2) (v3) (v4) σ)
  else
  (if (v3) = (v2) then
  (some (((10) * (((v4) / (4)) + (1))) + (rm_ (v4) (4))))
  else
  (f_X12_rests_B68 N a0 (fun v1 v2 v3 v4 => f_X12_rests_L20 N a0 n v1 v2 v3 v4 σ) (v1) (v2) (v3 + 1) (v4) σ)))
  else
  (if (v2) = ((-1)) then
  (some (v3))
  else
  (some ((-1))))
def f_X12_rests (N : Nat) (a0 : Nat) (x1 : Int32) (x2 : Int32) (σ : Sg) : Option Int32 :=
  Option.bind (f_X12_isWheel a0 (x1) σ) fun p1 =>
  if (p1) = (0) then
  (some ((-1)))
  else
  (if (x2) < ((-1)) then
  (some ((-1)))
  else
  (f_X12_rests_L20 N a0 N (x1) (x2) (0) (0) σ))
set_option maxHeartbeats 4000000 in
set_option maxRecDepth 100000 in
theorem t_X12_rests_B68 {N : Nat} {a0 : Nat} {Γ : Gm} {σ : Sg} {r : Int32} (C1 : CM Γ cX12_rests RX12 5 (some .int) 4 93 0 0 (fun r_ τ_ => (r_ = some (vi r)) ∧ τ_ = σ)) (hT : sg_T σ) (h0 : is_A σ a0 11) (k20 : Int32 → Int32 → Int32 → Int32 → Option Int32) (hk20 : ∀ (v1 : Int32) (v2 : Int32) (v3 : Int32) (v4 : Int32) , k20 v1 v2 v3 v4 = some r → J_ Γ 20 [(0, vr (some a0)), (1, vi v1), (2, vi v2), (3, vi v3), (4, vi v4)] [] σ 0 0) (v1 : Int32) (v2 : Int32) (v3 : Int32) (v4 : Int32) (hf : f_X12_rests_B68 N a0 k20  v1 v2 v3 v4 σ = some r) : J_ Γ 68 [(0, vr (some a0)), (1, vi (v1)), (2, vi (v2)), (3, vi (v3)), (4, vi (v4))] [] σ 0 0 := by
  have C0 := C1.1
  unfold f_X12_rests_B68 at hf
  refine J_iinc (q := 71) (v := v4 + 1) (lv' := [(4, vi (v4 + 1)), (0, vr (some a0)), (1, vi (v1)), (2, vi (v2)), (3, vi (v3))]) C0 4 rfl rfl (G_nl C1 (by decide)) dX12_rests_68 rfl rfl ?_
  refine J_goto (q := 20) C0 dX12_rests_71 (by decide) ?_
  refine J_sub (lv' := [(0, vr (some a0)), (1, vi (v1)), (2, vi (v2)), (3, vi (v3)), (4, vi (v4 + 1))]) [1, 2, 3, 4, 0] rfl ?_
  exact hk20 (v1) (v2) (v3) (v4 + 1)  hf
set_option maxHeartbeats 4000000 in
set_option maxRecDepth 100000 in
theorem t_X12_rests_L20 {N : Nat} {a0 : Nat} {Γ : Gm} {σ : Sg} {r : Int32} (C1 : CM Γ cX12_rests RX12 5 (some .int) 4 93 0 0 (fun r_ τ_ => (r_ = some (vi r)) ∧ τ_ = σ)) (hT : sg_T σ) (h0 : is_A σ a0 11) : ∀ (n : Nat) (v1 : Int32) (v2 : Int32) (v3 : Int32) (v4 : Int32), f_X12_rests_L20 N a0  n v1 v2 v3 v4 σ = some r → J_ Γ 20 [(0, vr (some a0)), (1, vi (v1)), (2, vi (v2)), (3, vi (v3)), (4, vi (v4))] [] σ 0 0 := by
  have C0 := C1.1
  intro n
  induction n with
  | zero => intro v1 v2 v3 v4  hf; unfold f_X12_rests_L20 at hf; cases hf
  | succ n ih =>
    intro v1 v2 v3 v4  hf
    rw [f_X12_rests_L20] at hf
    refine J_iload (q := 22) C0 4 rfl dX12_rests_20 rfl ?_
    refine J_bipush (q := 24) (v := 16) C0 dX12_rests_22 rfl rfl ?_
    refine J_icmp_ge (t := 74) (q := 27) C0 dX12_rests_24 (by decide) rfl hf (fun c4 hf => ?_) (fun c4 hf => ?_)
    · refine J_iload_n (q := 75) C0 2 rfl rfl dX12_rests_74 rfl ?_
      refine J_iconst (q := 76) (v := (-1)) C0 dX12_rests_75 rfl rfl ?_
      refine J_icmp_ne (t := 83) (q := 79) C0 dX12_rests_76 (by decide) rfl hf (fun c5 hf => ?_) (fun c5 hf => ?_)
      · refine J_iconst (q := 84) (v := (-1)) C0 dX12_rests_83 rfl rfl ?_
        obtain rfl := Option.some.inj hf; exact J_iret C1 dX12_rests_84 rfl (Nat.zero_le _) (Nat.zero_le _) ⟨rfl, rfl⟩
      · refine J_iload_n (q := 80) C0 3 rfl rfl dX12_rests_79 rfl ?_
        refine J_goto (q := 84) C0 dX12_rests_80 (by decide) ?_
        obtain rfl := Option.some.inj hf; exact J_iret C1 dX12_rests_84 rfl (Nat.zero_le _) (Nat.zero_le _) ⟨rfl, rfl⟩
    · refine J_aload_n (q := 28) C0 0 rfl rfl dX12_rests_27 rfl trivial ?_
      refine J_iload_n (q := 29) C0 1 rfl rfl dX12_rests_28 rfl ?_
      refine J_iload (q := 31) C0 4 rfl dX12_rests_29 rfl ?_
      refine J_iconst (q := 32) (v := 4) C0 dX12_rests_31 rfl rfl ?_
      refine J_idiv (q := 33) C0 dX12_rests_32 rfl (by decide) ?_
      refine J_iconst (q := 34) (v := 1) C0 dX12_rests_33 rfl rfl ?_
      refine J_iadd (q := 35) C0 dX12_rests_34 rfl ?_
      refine J_iload (q := 37) C0 4 rfl dX12_rests_35 rfl ?_
      refine J_iconst (q := 38) (v := 4) C0 dX12_rests_37 rfl rfl ?_
      refine J_irem (q := 39) C0 dX12_rests_38 rfl (by decide) ?_
      refine K_some hf (fun p6 hp6 hf => ?_)
      refine J_callV (q := 42) (ci := 11) (as := [vi (v1), vi (((v4) / (4)) + (1)), vi (rm_ (v4) (4))]) (rest := []) C0 rfl (h0) (t_X12_isRest N a0 (v1) (((v4) / (4)) + (1)) (rm_ (v4) (4)) (hT) (h0)  hp6) ml_X12_isRest lk_X12_409 im_X12_isRest se_X12_isRest rfl (by decide) dX12_rests_39 rfl rfl rfl (by simp [ac_]) C1.room (by decide) (by decide) (by decide) (by decide) (fun r_ τ_ hQ => ?_)
      obtain ⟨⟨rfl, zp6⟩, ht_⟩ := hQ; have ht_ := ht_.symm; subst ht_
      show J_ Γ 42 [(0, vr (some a0)), (1, vi (v1)), (2, vi (v2)), (3, vi (v3)), (4, vi (v4))] [vi (p6)] σ 0 0
      refine J_if_eq (t := 68) (q := 45) C0 dX12_rests_42 (by decide) rfl hf (fun c7 hf => ?_) (fun c7 hf => ?_)
      · exact t_X12_rests_B68 C1 (hT) (h0) (fun v1 v2 v3 v4 => f_X12_rests_L20 N a0 n v1 v2 v3 v4 σ)  ih  (v1) (v2) (v3) (v4)  hf
      · refine J_iload_n (q := 46) C0 3 rfl rfl dX12_rests_45 rfl ?_
        refine J_iload_n (q := 47) C0 2 rfl rfl dX12_rests_46 rfl ?_
        refine J_icmp_ne (t := 65) (q := 50) C0 dX12_rests_47 (by decide) rfl hf (fun c8 hf => ?_) (fun c8 hf => ?_)
        · refine J_iinc (q := 68) (v := v3 + 1) (lv' := [(3, vi (v3 + 1)), (0, vr (some a0)), (1, vi (v1)), (2, vi (v2)), (4, vi (v4))]) C0 3 rfl rfl (G_nl C1 (by decide)) dX12_rests_65 rfl rfl ?_
          refine J_sub (lv' := [(0, vr (some a0)), (1, vi (v1)), (2, vi (v2)), (3, vi (v3 + 1)), (4, vi (v4))]) [1, 2, 3, 0, 4] rfl ?_
          exact t_X12_rests_B68 C1 (hT) (h0) (fun v1 v2 v3 v4 => f_X12_rests_L20 N a0 n v1 v2 v3 v4 σ)  ih  (v1) (v2) (v3 + 1) (v4)  hf
        · refine J_bipush (q := 52) (v := 10) C0 dX12_rests_50 rfl rfl ?_
          refine J_iload (q := 54) C0 4 rfl dX12_rests_52 rfl ?_
          refine J_iconst (q := 55) (v := 4) C0 dX12_rests_54 rfl rfl ?_
          refine J_idiv (q := 56) C0 dX12_rests_55 rfl (by decide) ?_
          refine J_iconst (q := 57) (v := 1) C0 dX12_rests_56 rfl rfl ?_
          refine J_iadd (q := 58) C0 dX12_rests_57 rfl ?_
          refine J_imul (q := 59) C0 dX12_rests_58 rfl ?_
          refine J_iload (q := 61) C0 4 rfl dX12_rests_59 rfl ?_
          refine J_iconst (q := 62) (v := 4) C0 dX12_rests_61 rfl rfl ?_
          refine J_irem (q := 63) C0 dX12_rests_62 rfl (by decide) ?_
          refine J_iadd (q := 64) C0 dX12_rests_63 rfl ?_
          obtain rfl := Option.some.inj hf; exact J_iret C1 dX12_rests_64 rfl (Nat.zero_le _) (Nat.zero_le _) ⟨rfl, rfl⟩
set_option maxHeartbeats 4000000 in
set_option maxRecDepth 100000 in
theorem t_X12_rests (N : Nat) (a0 : Nat) (x1 : Int32) (x2 : Int32) {σ : Sg} (hT : sg_T σ) (h0 : is_A σ a0 11) {r : Int32} (hf : f_X12_rests N a0 x1 x2 σ = some r) : Ct yX12_rests cX12_rests 5 (some .int) 4 93 0 0 [vr (some a0), vi x1, vi x2] σ (fun r_ τ_ => (r_ = some (vi r)) ∧ τ_ = σ) := by
  refine Ct.of (by decide +kernel) (Nat.le_of_ble_eq_true rfl) (fun Γ C1 => ?_)
  have C0 := C1.1
  unfold f_X12_rests at hf
  show J_ Γ 0 [(0, vr (some a0)), (1, vi (x1)), (2, vi (x2))] [] σ 0 0
  refine J_aload_n (q := 1) C0 0 rfl rfl dX12_rests_0 rfl trivial ?_
  refine J_iload_n (q := 2) C0 1 rfl rfl dX12_rests_1 rfl ?_
  refine K_some hf (fun p1 hp1 hf => ?_)
  refine J_callV (q := 5) (ci := 11) (as := [vi (x1)]) (rest := []) C0 rfl (h0) (t_X12_isWheel a0 (x1) (h0)  hp1) ml_X12_isWheel lk_X12_307 im_X12_isWheel se_X12_isWheel rfl (by decide) dX12_rests_2 rfl rfl rfl (by simp [ac_]) C1.room (by decide) (by decide) (by decide) (by decide) (fun r_ τ_ hQ => ?_)
  obtain ⟨⟨rfl, zp1⟩, ht_⟩ := hQ; have ht_ := ht_.symm; subst ht_
  show J_ Γ 5 [(0, vr (some a0)), (1, vi (x1)), (2, vi (x2))] [vi (p1)] σ 0 0
  refine J_if_eq (t := 13) (q := 8) C0 dX12_rests_5 (by decide) rfl hf (fun c2 hf => ?_) (fun c2 hf => ?_)
  · refine J_iconst (q := 14) (v := (-1)) C0 dX12_rests_13 rfl rfl ?_
    obtain rfl := Option.some.inj hf; exact J_iret C1 dX12_rests_14 rfl (Nat.zero_le _) (Nat.zero_le _) ⟨rfl, rfl⟩
  · refine J_iload_n (q := 9) C0 2 rfl rfl dX12_rests_8 rfl ?_
    refine J_iconst (q := 10) (v := (-1)) C0 dX12_rests_9 rfl rfl ?_
    refine J_icmp_ge (t := 15) (q := 13) C0 dX12_rests_10 (by decide) rfl hf (fun c3 hf => ?_) (fun c3 hf => ?_)
    · refine J_iconst (q := 16) (v := 0) C0 dX12_rests_15 rfl rfl ?_
      refine J_istore_n (q := 17) (lv' := [(3, vi (0)), (0, vr (some a0)), (1, vi (x1)), (2, vi (x2))]) C0 rfl (G_nl C1 (by decide)) dX12_rests_16 rfl rfl ?_
      refine J_iconst (q := 18) (v := 0) C0 dX12_rests_17 rfl rfl ?_
      refine J_istore (q := 20) (lv' := [(4, vi (0)), (3, vi (0)), (0, vr (some a0)), (1, vi (x1)), (2, vi (x2))]) C0 (G_nl C1 (by decide)) dX12_rests_18 rfl rfl ?_
      refine J_sub (lv' := [(0, vr (some a0)), (1, vi (x1)), (2, vi (x2)), (3, vi (0)), (4, vi (0))]) [2, 3, 4, 1, 0] rfl ?_
      exact t_X12_rests_L20 C1 (hT) (h0)    N (x1) (x2) (0) (0)  hf
    · refine J_iconst (q := 14) (v := (-1)) C0 dX12_rests_13 rfl rfl ?_
      obtain rfl := Option.some.inj hf; exact J_iret C1 dX12_rests_14 rfl (Nat.zero_le _) (Nat.zero_le _) ⟨rfl, rfl⟩
def f_X12_oddsFrom_o (N : Nat) (rec : Nat → Nat → Int32 → Int32 → Int32 → Int32 → Int32 → Int32 → Int32 → Sg → Option (Int32 × Sg)) (a0 : Nat) (x1 : Int32) (x2 : Int32) (x3 : Int32) (x4 : Int32) (x5 : Int32) (x6 : Int32) (x7 : Int32) (σ : Sg) : Option (Int32 × Sg) :=
  if (x4) = (0) then
  (Option.bind (f_X12_of a0 (x1) (3) σ) fun p5 =>
  Option.bind (f_X12_pictureAt a0 (p5) (x2) σ) fun p6 =>
  if (p6) = (x6) then
  (some (x7, σ))
  else
  (some (0, σ)))
  else
  (Option.bind (rec 0 a0 (x1) (x2) ((x3) + (1)) ((x4) - (1)) (x5) (x6) (((((x7).toInt64) * ((x5).toInt64)) / (100)).toInt32) σ) fun p2 =>
  Option.bind (f_X12_nextOf N a0 (x1) (x2) (x3) p2.2) fun p3 =>
  Option.bind (rec 0 a0 (x1) (p3.1) ((x3) + (1)) ((x4) - (1)) (x5) (x6) ((x7) - (((((x7).toInt64) * ((x5).toInt64)) / (100)).toInt32)) p3.2) fun p4 =>
  some ((p2.1) + (p4.1), p4.2))
set_option maxHeartbeats 4000000 in
set_option maxRecDepth 100000 in
theorem t_X12_oddsFrom_o (N : Nat) {rec : Nat → Nat → Int32 → Int32 → Int32 → Int32 → Int32 → Int32 → Int32 → Sg → Option (Int32 × Sg)} {d : Nat} (hr_X12_oddsFrom : ∀ (a0 : Nat) (x1 : Int32) (x2 : Int32) (x3 : Int32) (x4 : Int32) (x5 : Int32) (x6 : Int32) (x7 : Int32) (σ : Sg), sg_T σ → is_A σ a0 11 → ∀ r : (Int32 × Sg), rec 0 a0 x1 x2 x3 x4 x5 x6 x7 σ = some r → Ct yX12_oddsFrom cX12_oddsFrom 9 (some .int) (d + 7) (d * 28 + 162) 0 0 [vr (some a0), vi x1, vi x2, vi x3, vi x4, vi x5, vi x6, vi x7] σ (fun r_ τ_ => (r_ = some (vi r.1)) ∧ τ_ = r.2 ∧ sg_T τ_ ∧ sg_E σ τ_)) (a0 : Nat) (x1 : Int32) (x2 : Int32) (x3 : Int32) (x4 : Int32) (x5 : Int32) (x6 : Int32) (x7 : Int32) {σ : Sg} (hT : sg_T σ) (h0 : is_A σ a0 11) {r : (Int32 × Sg)} (hf : f_X12_oddsFrom_o N rec a0 x1 x2 x3 x4 x5 x6 x7 σ = some r) : Ct yX12_oddsFrom cX12_oddsFrom 9 (some .int) (d + 1 + 7) ((d + 1) * 28 + 162) 0 0 [vr (some a0), vi x1, vi x2, vi x3, vi x4, vi x5, vi x6, vi x7] σ (fun r_ τ_ => (r_ = some (vi r.1)) ∧ τ_ = r.2 ∧ sg_T τ_ ∧ sg_E σ τ_) := by
  refine Ct.of (by decide +kernel) (Nat.le_of_ble_eq_true rfl) (fun Γ C1 => ?_)
  have C0 := C1.1
  have hE : sg_E σ σ := sg_E.rf
  unfold f_X12_oddsFrom_o at hf
  show J_ Γ 0 [(0, vr (some a0)), (1, vi (x1)), (2, vi (x2)), (3, vi (x3)), (4, vi (x4)), (5, vi (x5)), (6, vi (x6)), (7, vi (x7))] [] σ 0 0
  refine J_iload (q := 2) C0 4 rfl dX12_oddsFrom_0 rfl ?_
  refine J_if_ne (t := 28) (q := 5) C0 dX12_oddsFrom_2 (by decide) rfl hf (fun c1 hf => ?_) (fun c1 hf => ?_)
  · refine J_iload (q := 30) C0 7 rfl dX12_oddsFrom_28 rfl ?_
    refine J_i2l (q := 31) C0 dX12_oddsFrom_30 rfl ?_
    refine J_iload (q := 33) C0 5 rfl dX12_oddsFrom_31 rfl ?_
    refine J_i2l (q := 34) C0 dX12_oddsFrom_33 rfl ?_
    refine J_lmul (q := 35) C0 dX12_oddsFrom_34 rfl ?_
    refine J_ldc2_w (q := 38) C0 kc_X12_412 dX12_oddsFrom_35 rfl ?_
    refine J_ldiv (q := 39) C0 dX12_oddsFrom_38 rfl (by decide) ?_
    refine J_l2i (q := 40) C0 dX12_oddsFrom_39 rfl ?_
    refine J_istore (q := 42) (lv' := [(8, vi (((((x7).toInt64) * ((x5).toInt64)) / (100)).toInt32)), (0, vr (some a0)), (1, vi (x1)), (2, vi (x2)), (3, vi (x3)), (4, vi (x4)), (5, vi (x5)), (6, vi (x6)), (7, vi (x7))]) C0 (G_nl C1 (by decide)) dX12_oddsFrom_40 rfl rfl ?_
    refine J_aload_n (q := 43) C0 1 rfl rfl dX12_oddsFrom_42 rfl trivial ?_
    refine J_iload_n (q := 44) C0 2 rfl rfl dX12_oddsFrom_43 rfl ?_
    refine J_iload_n (q := 45) C0 3 rfl rfl dX12_oddsFrom_44 rfl ?_
    refine J_iload_n (q := 46) C0 4 rfl rfl dX12_oddsFrom_45 rfl ?_
    refine J_iconst (q := 47) (v := 1) C0 dX12_oddsFrom_46 rfl rfl ?_
    refine J_iadd (q := 48) C0 dX12_oddsFrom_47 rfl ?_
    refine J_iload (q := 50) C0 5 rfl dX12_oddsFrom_48 rfl ?_
    refine J_iconst (q := 51) (v := 1) C0 dX12_oddsFrom_50 rfl rfl ?_
    refine J_isub (q := 52) C0 dX12_oddsFrom_51 rfl ?_
    refine J_iload (q := 54) C0 6 rfl dX12_oddsFrom_52 rfl ?_
    refine J_iload (q := 56) C0 7 rfl dX12_oddsFrom_54 rfl ?_
    refine J_iload (q := 58) C0 0 rfl dX12_oddsFrom_56 rfl ?_
    refine K_some hf (fun p2 hp2 hf => ?_)
    refine J_callV (q := 61) (ci := 11) (as := [vi (x1), vi (x2), vi ((x3) + (1)), vi ((x4) - (1)), vi (x5), vi (x6), vi (((((x7).toInt64) * ((x5).toInt64)) / (100)).toInt32)]) (rest := []) C0 rfl (h0) (hr_X12_oddsFrom a0 (x1) (x2) ((x3) + (1)) ((x4) - (1)) (x5) (x6) (((((x7).toInt64) * ((x5).toInt64)) / (100)).toInt32) σ (hT) (h0)  _ hp2) ml_X12_oddsFrom lk_X12_414 im_X12_oddsFrom se_X12_oddsFrom rfl (by decide) dX12_oddsFrom_58 rfl rfl rfl (by simp [ac_]) C1.room (by omega) (by omega) (by decide) (by decide) (fun r_ τ_ hQ => ?_)
    obtain ⟨rfl, rfl, Tp2, Ep2⟩ := hQ
    show J_ Γ 61 [(8, vi (((((x7).toInt64) * ((x5).toInt64)) / (100)).toInt32)), (0, vr (some a0)), (1, vi (x1)), (2, vi (x2)), (3, vi (x3)), (4, vi (x4)), (5, vi (x5)), (6, vi (x6)), (7, vi (x7))] [vi (p2.1)] p2.2 0 0
    refine J_aload_n (q := 62) C0 1 rfl rfl dX12_oddsFrom_61 rfl trivial ?_
    refine J_iload_n (q := 63) C0 2 rfl rfl dX12_oddsFrom_62 rfl ?_
    refine J_aload_n (q := 64) C0 1 rfl rfl dX12_oddsFrom_63 rfl trivial ?_
    refine J_iload_n (q := 65) C0 2 rfl rfl dX12_oddsFrom_64 rfl ?_
    refine J_iload_n (q := 66) C0 3 rfl rfl dX12_oddsFrom_65 rfl ?_
    refine J_iload_n (q := 67) C0 4 rfl rfl dX12_oddsFrom_66 rfl ?_
    refine K_some hf (fun p3 hp3 hf => ?_)
    refine J_callV (q := 70) (ci := 11) (as := [vi (x1), vi (x2), vi (x3)]) (rest := [vi (x1), vr (some a0), vi (p2.1)]) C0 rfl ((Ep2.at h0)) (t_X12_nextOf N a0 (x1) (x2) (x3) (Tp2) ((Ep2.at h0))  hp3) ml_X12_nextOf lk_X12_298 im_X12_nextOf se_X12_nextOf rfl (by decide) dX12_oddsFrom_67 rfl rfl rfl (by simp [ac_]) C1.room (by omega) (by omega) (by decide) (by decide) (fun r_ τ_ hQ => ?_)
    obtain ⟨rfl, rfl, Tp3, Ep3⟩ := hQ
    show J_ Γ 70 [(8, vi (((((x7).toInt64) * ((x5).toInt64)) / (100)).toInt32)), (0, vr (some a0)), (1, vi (x1)), (2, vi (x2)), (3, vi (x3)), (4, vi (x4)), (5, vi (x5)), (6, vi (x6)), (7, vi (x7))] [vi (p3.1), vi (x1), vr (some a0), vi (p2.1)] p3.2 0 0
    refine J_iload_n (q := 71) C0 4 rfl rfl dX12_oddsFrom_70 rfl ?_
    refine J_iconst (q := 72) (v := 1) C0 dX12_oddsFrom_71 rfl rfl ?_
    refine J_iadd (q := 73) C0 dX12_oddsFrom_72 rfl ?_
    refine J_iload (q := 75) C0 5 rfl dX12_oddsFrom_73 rfl ?_
    refine J_iconst (q := 76) (v := 1) C0 dX12_oddsFrom_75 rfl rfl ?_
    refine J_isub (q := 77) C0 dX12_oddsFrom_76 rfl ?_
    refine J_iload (q := 79) C0 6 rfl dX12_oddsFrom_77 rfl ?_
    refine J_iload (q := 81) C0 7 rfl dX12_oddsFrom_79 rfl ?_
    refine J_iload (q := 83) C0 8 rfl dX12_oddsFrom_81 rfl ?_
    refine J_iload (q := 85) C0 0 rfl dX12_oddsFrom_83 rfl ?_
    refine J_isub (q := 86) C0 dX12_oddsFrom_85 rfl ?_
    refine K_some hf (fun p4 hp4 hf => ?_)
    refine J_callV (q := 89) (ci := 11) (as := [vi (x1), vi (p3.1), vi ((x3) + (1)), vi ((x4) - (1)), vi (x5), vi (x6), vi ((x7) - (((((x7).toInt64) * ((x5).toInt64)) / (100)).toInt32))]) (rest := [vi (p2.1)]) C0 rfl ((Ep3.at (Ep2.at h0))) (hr_X12_oddsFrom a0 (x1) (p3.1) ((x3) + (1)) ((x4) - (1)) (x5) (x6) ((x7) - (((((x7).toInt64) * ((x5).toInt64)) / (100)).toInt32)) p3.2 (Tp3) ((Ep3.at (Ep2.at h0)))  _ hp4) ml_X12_oddsFrom lk_X12_414 im_X12_oddsFrom se_X12_oddsFrom rfl (by decide) dX12_oddsFrom_86 rfl rfl rfl (by simp [ac_]) C1.room (by omega) (by omega) (by decide) (by decide) (fun r_ τ_ hQ => ?_)
    obtain ⟨rfl, rfl, Tp4, Ep4⟩ := hQ
    show J_ Γ 89 [(8, vi (((((x7).toInt64) * ((x5).toInt64)) / (100)).toInt32)), (0, vr (some a0)), (1, vi (x1)), (2, vi (x2)), (3, vi (x3)), (4, vi (x4)), (5, vi (x5)), (6, vi (x6)), (7, vi (x7))] [vi (p4.1), vi (p2.1)] p4.2 0 0
    refine J_iadd (q := 90) C0 dX12_oddsFrom_89 rfl ?_
    obtain rfl := Option.some.inj hf; exact J_iret C1 dX12_oddsFrom_90 rfl (Nat.zero_le _) (Nat.zero_le _) ⟨rfl, rfl, Tp4, (((hE).tr Ep2).tr Ep3).tr Ep4⟩
  · refine J_aload_n (q := 6) C0 0 rfl rfl dX12_oddsFrom_5 rfl trivial ?_
    refine J_aload_n (q := 7) C0 0 rfl rfl dX12_oddsFrom_6 rfl trivial ?_
    refine J_iload_n (q := 8) C0 1 rfl rfl dX12_oddsFrom_7 rfl ?_
    refine J_iconst (q := 9) (v := 3) C0 dX12_oddsFrom_8 rfl rfl ?_
    refine K_some hf (fun p5 hp5 hf => ?_)
    refine J_callV (q := 12) (ci := 11) (as := [vi (x1), vi (3)]) (rest := [vr (some a0)]) C0 rfl (h0) (t_X12_of a0 (x1) (3) (hT) (h0)  hp5) ml_X12_of lk_X12_254 im_X12_of se_X12_of rfl (by decide) dX12_oddsFrom_9 rfl rfl rfl (by simp [ac_]) C1.room (by omega) (by omega) (by decide) (by decide) (fun r_ τ_ hQ => ?_)
    obtain ⟨rfl, ht_⟩ := hQ; have ht_ := ht_.symm; subst ht_
    show J_ Γ 12 [(0, vr (some a0)), (1, vi (x1)), (2, vi (x2)), (3, vi (x3)), (4, vi (x4)), (5, vi (x5)), (6, vi (x6)), (7, vi (x7))] [vi (p5), vr (some a0)] σ 0 0
    refine J_iload_n (q := 13) C0 2 rfl rfl dX12_oddsFrom_12 rfl ?_
    refine K_some hf (fun p6 hp6 hf => ?_)
    refine J_callV (q := 16) (ci := 11) (as := [vi (p5), vi (x2)]) (rest := []) C0 rfl (h0) (t_X12_pictureAt a0 (p5) (x2) (hT) (h0)  hp6) ml_X12_pictureAt lk_X12_260 im_X12_pictureAt se_X12_pictureAt rfl (by decide) dX12_oddsFrom_13 rfl rfl rfl (by simp [ac_]) C1.room (by omega) (by omega) (by decide) (by decide) (fun r_ τ_ hQ => ?_)
    obtain ⟨rfl, ht_⟩ := hQ; have ht_ := ht_.symm; subst ht_
    show J_ Γ 16 [(0, vr (some a0)), (1, vi (x1)), (2, vi (x2)), (3, vi (x3)), (4, vi (x4)), (5, vi (x5)), (6, vi (x6)), (7, vi (x7))] [vi (p6)] σ 0 0
    refine J_iload (q := 18) C0 6 rfl dX12_oddsFrom_16 rfl ?_
    refine J_icmp_ne (t := 26) (q := 21) C0 dX12_oddsFrom_18 (by decide) rfl hf (fun c7 hf => ?_) (fun c7 hf => ?_)
    · refine J_iconst (q := 27) (v := 0) C0 dX12_oddsFrom_26 rfl rfl ?_
      obtain rfl := Option.some.inj hf; exact J_iret C1 dX12_oddsFrom_27 rfl (Nat.zero_le _) (Nat.zero_le _) ⟨rfl, rfl, hT, hE⟩
    · refine J_iload (q := 23) C0 7 rfl dX12_oddsFrom_21 rfl ?_
      refine J_goto (q := 27) C0 dX12_oddsFrom_23 (by decide) ?_
      obtain rfl := Option.some.inj hf; exact J_iret C1 dX12_oddsFrom_27 rfl (Nat.zero_le _) (Nat.zero_le _) ⟨rfl, rfl, hT, hE⟩
def g_X12_oddsFrom (N : Nat) : Nat → Nat → Nat → Int32 → Int32 → Int32 → Int32 → Int32 → Int32 → Int32 → Sg → Option (Int32 × Sg)
  | 0, _, _, _, _, _, _, _, _, _, _ => none
  | d + 1, t, a0, x1, x2, x3, x4, x5, x6, x7, σ => f_X12_oddsFrom_o N (g_X12_oddsFrom N d) a0 x1 x2 x3 x4 x5 x6 x7 σ
set_option maxHeartbeats 4000000 in
set_option maxRecDepth 100000 in
theorem c_X12_oddsFrom (N : Nat) : ∀ d : Nat, (∀ (a0 : Nat) (x1 : Int32) (x2 : Int32) (x3 : Int32) (x4 : Int32) (x5 : Int32) (x6 : Int32) (x7 : Int32) (σ : Sg), sg_T σ → is_A σ a0 11 → ∀ r : (Int32 × Sg), g_X12_oddsFrom N d 0 a0 x1 x2 x3 x4 x5 x6 x7 σ = some r → Ct yX12_oddsFrom cX12_oddsFrom 9 (some .int) (d + 7) (d * 28 + 162) 0 0 [vr (some a0), vi x1, vi x2, vi x3, vi x4, vi x5, vi x6, vi x7] σ (fun r_ τ_ => (r_ = some (vi r.1)) ∧ τ_ = r.2 ∧ sg_T τ_ ∧ sg_E σ τ_)) := by
  intro d
  induction d with
  | zero =>
    skip
    all_goals (intros; rename_i hf_; cases hf_)
  | succ d ih =>
    have hr_X12_oddsFrom := ih
    skip
    · intro a0 x1 x2 x3 x4 x5 x6 x7 σ hT_ h0_ r hf
      have hf : f_X12_oddsFrom_o N (g_X12_oddsFrom N d) a0 x1 x2 x3 x4 x5 x6 x7 σ = some r := hf
      exact (t_X12_oddsFrom_o N hr_X12_oddsFrom a0 x1 x2 x3 x4 x5 x6 x7 hT_ h0_ hf)

def dep_X12_oddsFrom : Nat := 10
def f_X12_oddsFrom (N : Nat) (a0 : Nat) (x1 : Int32) (x2 : Int32) (x3 : Int32) (x4 : Int32) (x5 : Int32) (x6 : Int32) (x7 : Int32) (σ : Sg) : Option (Int32 × Sg) := g_X12_oddsFrom N dep_X12_oddsFrom 0 a0 x1 x2 x3 x4 x5 x6 x7 σ
set_option maxHeartbeats 4000000 in
set_option maxRecDepth 100000 in
theorem t_X12_oddsFrom (N : Nat) (a0 : Nat) (x1 : Int32) (x2 : Int32) (x3 : Int32) (x4 : Int32) (x5 : Int32) (x6 : Int32) (x7 : Int32) {σ : Sg} (hT_ : sg_T σ) (h0_ : is_A σ a0 11) {r : (Int32 × Sg)} (hf : f_X12_oddsFrom N a0 x1 x2 x3 x4 x5 x6 x7 σ = some r) : Ct yX12_oddsFrom cX12_oddsFrom 9 (some .int) 17 442 0 0 [vr (some a0), vi x1, vi x2, vi x3, vi x4, vi x5, vi x6, vi x7] σ (fun r_ τ_ => (r_ = some (vi r.1)) ∧ τ_ = r.2 ∧ sg_T τ_ ∧ sg_E σ τ_) :=
  (c_X12_oddsFrom N dep_X12_oddsFrom) a0 x1 x2 x3 x4 x5 x6 x7 σ hT_ h0_  r hf
def f_X12_odds (N : Nat) (a0 : Nat) (x1 : Int32) (x2 : Int32) (x3 : Int32) (x4 : Int32) (σ : Sg) : Option (Int32 × Sg) :=
  Option.bind (f_X12_isWheel a0 (x1) σ) fun p1 =>
  if (p1) = (0) then
  (some ((-1), σ))
  else
  (Option.bind (f_X12_in (x2) (0) (8) ) fun p3 =>
  if (p3) = (0) then
  (some ((-1), σ))
  else
  (Option.bind (f_X12_in (x3) (0) (100) ) fun p5 =>
  if (p5) = (0) then
  (some ((-1), σ))
  else
  (Option.bind (f_X12_in (x4) (0) (26) ) fun p7 =>
  if (p7) = (0) then
  (some ((-1), σ))
  else
  (Option.bind (f_X12_of a0 (x1) (2) σ) fun p9 =>
  Option.bind (sg_R σ a0 24) fun b10 =>
  if (19 : Int32) < 0 ∨ sg_L σ b10 ≤ (19 : Int32).toNatClampNeg then none else
  Option.bind (f_X12_oddsFrom N a0 (x1) (p9) (sg_I σ b10 (19 : Int32).toNatClampNeg) (x2) (x3) (x4) (1000000000) σ) fun p12 =>
  some (p12.1, p12.2)))))
set_option maxHeartbeats 4000000 in
set_option maxRecDepth 100000 in
theorem t_X12_odds (N : Nat) (a0 : Nat) (x1 : Int32) (x2 : Int32) (x3 : Int32) (x4 : Int32) {σ : Sg} (hT : sg_T σ) (h0 : is_A σ a0 11) {r : (Int32 × Sg)} (hf : f_X12_odds N a0 x1 x2 x3 x4 σ = some r) : Ct yX12_odds cX12_odds 5 (some .int) 18 470 0 0 [vr (some a0), vi x1, vi x2, vi x3, vi x4] σ (fun r_ τ_ => (r_ = some (vi r.1)) ∧ τ_ = r.2 ∧ sg_T τ_ ∧ sg_E σ τ_) := by
  refine Ct.of (by decide +kernel) (Nat.le_of_ble_eq_true rfl) (fun Γ C1 => ?_)
  have C0 := C1.1
  have hE : sg_E σ σ := sg_E.rf
  unfold f_X12_odds at hf
  show J_ Γ 0 [(0, vr (some a0)), (1, vi (x1)), (2, vi (x2)), (3, vi (x3)), (4, vi (x4))] [] σ 0 0
  refine J_aload_n (q := 1) C0 0 rfl rfl dX12_odds_0 rfl trivial ?_
  refine J_iload_n (q := 2) C0 1 rfl rfl dX12_odds_1 rfl ?_
  refine K_some hf (fun p1 hp1 hf => ?_)
  refine J_callV (q := 5) (ci := 11) (as := [vi (x1)]) (rest := []) C0 rfl (h0) (t_X12_isWheel a0 (x1) (h0)  hp1) ml_X12_isWheel lk_X12_307 im_X12_isWheel se_X12_isWheel rfl (by decide) dX12_odds_2 rfl rfl rfl (by simp [ac_]) C1.room (by decide) (by decide) (by decide) (by decide) (fun r_ τ_ hQ => ?_)
  obtain ⟨⟨rfl, zp1⟩, ht_⟩ := hQ; have ht_ := ht_.symm; subst ht_
  show J_ Γ 5 [(0, vr (some a0)), (1, vi (x1)), (2, vi (x2)), (3, vi (x3)), (4, vi (x4))] [vi (p1)] σ 0 0
  refine J_if_eq (t := 39) (q := 8) C0 dX12_odds_5 (by decide) rfl hf (fun c2 hf => ?_) (fun c2 hf => ?_)
  · refine J_iconst (q := 40) (v := (-1)) C0 dX12_odds_39 rfl rfl ?_
    obtain rfl := Option.some.inj hf; exact J_iret C1 dX12_odds_40 rfl (Nat.zero_le _) (Nat.zero_le _) ⟨rfl, rfl, hT, hE⟩
  · refine J_iload_n (q := 9) C0 2 rfl rfl dX12_odds_8 rfl ?_
    refine J_iconst (q := 10) (v := 0) C0 dX12_odds_9 rfl rfl ?_
    refine J_bipush (q := 12) (v := 8) C0 dX12_odds_10 rfl rfl ?_
    refine K_some hf (fun p3 hp3 hf => ?_)
    refine J_callS (q := 15) (as := [vi (x2), vi (0), vi (8)]) (rest := []) C0 (t_X12_in (x2) (0) (8)  hp3) ml_X12_in lk_X12_208 sm_X12_in dX12_odds_12 rfl rfl rfl (by simp [ac_]) C1.room (by decide) (by decide) (by decide) (by decide) (fun r_ τ_ hQ => ?_)
    obtain ⟨⟨rfl, zp3⟩, ht_⟩ := hQ; have ht_ := ht_.symm; subst ht_
    show J_ Γ 15 [(0, vr (some a0)), (1, vi (x1)), (2, vi (x2)), (3, vi (x3)), (4, vi (x4))] [vi (p3)] σ 0 0
    refine J_if_eq (t := 39) (q := 18) C0 dX12_odds_15 (by decide) rfl hf (fun c4 hf => ?_) (fun c4 hf => ?_)
    · refine J_iconst (q := 40) (v := (-1)) C0 dX12_odds_39 rfl rfl ?_
      obtain rfl := Option.some.inj hf; exact J_iret C1 dX12_odds_40 rfl (Nat.zero_le _) (Nat.zero_le _) ⟨rfl, rfl, hT, hE⟩
    · refine J_iload_n (q := 19) C0 3 rfl rfl dX12_odds_18 rfl ?_
      refine J_iconst (q := 20) (v := 0) C0 dX12_odds_19 rfl rfl ?_
      refine J_bipush (q := 22) (v := 100) C0 dX12_odds_20 rfl rfl ?_
      refine K_some hf (fun p5 hp5 hf => ?_)
      refine J_callS (q := 25) (as := [vi (x3), vi (0), vi (100)]) (rest := []) C0 (t_X12_in (x3) (0) (100)  hp5) ml_X12_in lk_X12_208 sm_X12_in dX12_odds_22 rfl rfl rfl (by simp [ac_]) C1.room (by decide) (by decide) (by decide) (by decide) (fun r_ τ_ hQ => ?_)
      obtain ⟨⟨rfl, zp5⟩, ht_⟩ := hQ; have ht_ := ht_.symm; subst ht_
      show J_ Γ 25 [(0, vr (some a0)), (1, vi (x1)), (2, vi (x2)), (3, vi (x3)), (4, vi (x4))] [vi (p5)] σ 0 0
      refine J_if_eq (t := 39) (q := 28) C0 dX12_odds_25 (by decide) rfl hf (fun c6 hf => ?_) (fun c6 hf => ?_)
      · refine J_iconst (q := 40) (v := (-1)) C0 dX12_odds_39 rfl rfl ?_
        obtain rfl := Option.some.inj hf; exact J_iret C1 dX12_odds_40 rfl (Nat.zero_le _) (Nat.zero_le _) ⟨rfl, rfl, hT, hE⟩
      · refine J_iload (q := 30) C0 4 rfl dX12_odds_28 rfl ?_
        refine J_iconst (q := 31) (v := 0) C0 dX12_odds_30 rfl rfl ?_
        refine J_bipush (q := 33) (v := 26) C0 dX12_odds_31 rfl rfl ?_
        refine K_some hf (fun p7 hp7 hf => ?_)
        refine J_callS (q := 36) (as := [vi (x4), vi (0), vi (26)]) (rest := []) C0 (t_X12_in (x4) (0) (26)  hp7) ml_X12_in lk_X12_208 sm_X12_in dX12_odds_33 rfl rfl rfl (by simp [ac_]) C1.room (by decide) (by decide) (by decide) (by decide) (fun r_ τ_ hQ => ?_)
        obtain ⟨⟨rfl, zp7⟩, ht_⟩ := hQ; have ht_ := ht_.symm; subst ht_
        show J_ Γ 36 [(0, vr (some a0)), (1, vi (x1)), (2, vi (x2)), (3, vi (x3)), (4, vi (x4))] [vi (p7)] σ 0 0
        refine J_if_ne (t := 41) (q := 39) C0 dX12_odds_36 (by decide) rfl hf (fun c8 hf => ?_) (fun c8 hf => ?_)
        · refine J_aload_n (q := 42) C0 0 rfl rfl dX12_odds_41 rfl trivial ?_
          refine J_iload_n (q := 43) C0 1 rfl rfl dX12_odds_42 rfl ?_
          refine J_aload_n (q := 44) C0 0 rfl rfl dX12_odds_43 rfl trivial ?_
          refine J_iload_n (q := 45) C0 1 rfl rfl dX12_odds_44 rfl ?_
          refine J_iconst (q := 46) (v := 2) C0 dX12_odds_45 rfl rfl ?_
          refine K_some hf (fun p9 hp9 hf => ?_)
          refine J_callV (q := 49) (ci := 11) (as := [vi (x1), vi (2)]) (rest := [vi (x1), vr (some a0)]) C0 rfl (h0) (t_X12_of a0 (x1) (2) (hT) (h0)  hp9) ml_X12_of lk_X12_254 im_X12_of se_X12_of rfl (by decide) dX12_odds_46 rfl rfl rfl (by simp [ac_]) C1.room (by decide) (by decide) (by decide) (by decide) (fun r_ τ_ hQ => ?_)
          obtain ⟨rfl, ht_⟩ := hQ; have ht_ := ht_.symm; subst ht_
          show J_ Γ 49 [(0, vr (some a0)), (1, vi (x1)), (2, vi (x2)), (3, vi (x3)), (4, vi (x4))] [vi (p9), vi (x1), vr (some a0)] σ 0 0
          refine J_aload_n (q := 50) C0 0 rfl rfl dX12_odds_49 rfl trivial ?_
          refine J_getR (q := 53) C0 fl_X12_52_11 rfl (h0) rfl dX12_odds_50 rfl ?_
          refine J_bipush (q := 55) (v := 19) C0 dX12_odds_53 rfl rfl ?_
          refine K_some hf (fun b10 hb10 hf => ?_)
          have ab10 : is_A σ b10 12 := ((sg_T.op hT (j := 24) (h0) rfl)) b10 hb10
          refine K_chk hf (fun c11 hf => ?_)
          refine J_iald (q := 56) C0 hb10 (ab10) c11 dX12_odds_55 rfl ?_
          refine J_iload_n (q := 57) C0 2 rfl rfl dX12_odds_56 rfl ?_
          refine J_iload_n (q := 58) C0 3 rfl rfl dX12_odds_57 rfl ?_
          refine J_iload (q := 60) C0 4 rfl dX12_odds_58 rfl ?_
          refine J_ldc_w (q := 63) C0 kc_X12_418 dX12_odds_60 rfl ?_
          refine K_some hf (fun p12 hp12 hf => ?_)
          refine J_callV (q := 66) (ci := 11) (as := [vi (x1), vi (p9), vi (sg_I σ b10 (19 : Int32).toNatClampNeg), vi (x2), vi (x3), vi (x4), vi (1000000000)]) (rest := []) C0 rfl (h0) (t_X12_oddsFrom N a0 (x1) (p9) (sg_I σ b10 (19 : Int32).toNatClampNeg) (x2) (x3) (x4) (1000000000) (hT) (h0)  hp12) ml_X12_oddsFrom lk_X12_414 im_X12_oddsFrom se_X12_oddsFrom rfl (by decide) dX12_odds_63 rfl rfl rfl (by simp [ac_]) C1.room (by decide) (by decide) (by decide) (by decide) (fun r_ τ_ hQ => ?_)
          obtain ⟨rfl, rfl, Tp12, Ep12⟩ := hQ
          show J_ Γ 66 [(0, vr (some a0)), (1, vi (x1)), (2, vi (x2)), (3, vi (x3)), (4, vi (x4))] [vi (p12.1)] p12.2 0 0
          obtain rfl := Option.some.inj hf; exact J_iret C1 dX12_odds_66 rfl (Nat.zero_le _) (Nat.zero_le _) ⟨rfl, rfl, Tp12, (hE).tr Ep12⟩
        · refine J_iconst (q := 40) (v := (-1)) C0 dX12_odds_39 rfl rfl ?_
          obtain rfl := Option.some.inj hf; exact J_iret C1 dX12_odds_40 rfl (Nat.zero_le _) (Nat.zero_le _) ⟨rfl, rfl, hT, hE⟩
def f_X12_shares_L26 (N : Nat) (a0 : Nat) : Nat → Int32 → Int32 → Int32 → Int32 → Sg → Option Int32
  | 0, _, _, _, _, _ => none
  | n + 1, v1, v2, v3, v4, σ =>
  if (v4) < (sg_I σ a0 20) then
  (Option.bind (f_X12_of a0 (v4) (0) σ) fun p9 =>
  f_X12_shares_L26 N a0 n (v1) (v2) ((v3) + (p9)) (v4 + 1) σ)
  else
  (if (v3) = (0) then
  (some (0))
  else
  (Option.bind (f_X12_of a0 (v1) (0) σ) fun p7 =>
  if (v3) = 0 then none else
  some (((v2) * (p7)) / (v3))))
def f_X12_shares (N : Nat) (a0 : Nat) (x1 : Int32) (x2 : Int32) (σ : Sg) : Option Int32 :=
  Option.bind (f_X12_isWheel a0 (x1) σ) fun p1 =>
  if (p1) = (0) then
  (some ((-1)))
  else
  (Option.bind (f_X12_in (x2) (0) (999) ) fun p3 =>
  if (p3) = (0) then
  (some ((-1)))
  else
  (f_X12_shares_L26 N a0 N (x1) (x2) (0) (0) σ))
set_option maxHeartbeats 4000000 in
set_option maxRecDepth 100000 in
theorem t_X12_shares_L26 {N : Nat} {a0 : Nat} {Γ : Gm} {σ : Sg} {r : Int32} (C1 : CM Γ cX12_shares RX12 5 (some .int) 2 43 0 0 (fun r_ τ_ => (r_ = some (vi r)) ∧ τ_ = σ)) (hT : sg_T σ) (h0 : is_A σ a0 11) : ∀ (n : Nat) (v1 : Int32) (v2 : Int32) (v3 : Int32) (v4 : Int32), f_X12_shares_L26 N a0  n v1 v2 v3 v4 σ = some r → J_ Γ 26 [(0, vr (some a0)), (1, vi (v1)), (2, vi (v2)), (3, vi (v3)), (4, vi (v4))] [] σ 0 0 := by
  have C0 := C1.1
  intro n
  induction n with
  | zero => intro v1 v2 v3 v4  hf; unfold f_X12_shares_L26 at hf; cases hf
  | succ n ih =>
    intro v1 v2 v3 v4  hf
    rw [f_X12_shares_L26] at hf
    refine J_iload (q := 28) C0 4 rfl dX12_shares_26 rfl ?_
    refine J_aload_n (q := 29) C0 0 rfl rfl dX12_shares_28 rfl trivial ?_
    refine J_getI (q := 32) C0 fl_X12_263_11 rfl (h0) rfl dX12_shares_29 rfl ?_
    refine J_icmp_ge (t := 51) (q := 35) C0 dX12_shares_32 (by decide) rfl hf (fun c5 hf => ?_) (fun c5 hf => ?_)
    · refine J_iload_n (q := 52) C0 3 rfl rfl dX12_shares_51 rfl ?_
      refine J_if_ne (t := 59) (q := 55) C0 dX12_shares_52 (by decide) rfl hf (fun c6 hf => ?_) (fun c6 hf => ?_)
      · refine J_iload_n (q := 60) C0 2 rfl rfl dX12_shares_59 rfl ?_
        refine J_aload_n (q := 61) C0 0 rfl rfl dX12_shares_60 rfl trivial ?_
        refine J_iload_n (q := 62) C0 1 rfl rfl dX12_shares_61 rfl ?_
        refine J_iconst (q := 63) (v := 0) C0 dX12_shares_62 rfl rfl ?_
        refine K_some hf (fun p7 hp7 hf => ?_)
        refine J_callV (q := 66) (ci := 11) (as := [vi (v1), vi (0)]) (rest := [vi (v2)]) C0 rfl (h0) (t_X12_of a0 (v1) (0) (hT) (h0)  hp7) ml_X12_of lk_X12_254 im_X12_of se_X12_of rfl (by decide) dX12_shares_63 rfl rfl rfl (by simp [ac_]) C1.room (by decide) (by decide) (by decide) (by decide) (fun r_ τ_ hQ => ?_)
        obtain ⟨rfl, ht_⟩ := hQ; have ht_ := ht_.symm; subst ht_
        show J_ Γ 66 [(0, vr (some a0)), (1, vi (v1)), (2, vi (v2)), (3, vi (v3)), (4, vi (v4))] [vi (p7), vi (v2)] σ 0 0
        refine J_imul (q := 67) C0 dX12_shares_66 rfl ?_
        refine J_iload_n (q := 68) C0 3 rfl rfl dX12_shares_67 rfl ?_
        refine K_chk hf (fun c8 hf => ?_)
        refine J_idiv (q := 69) C0 dX12_shares_68 rfl c8 ?_
        obtain rfl := Option.some.inj hf; exact J_iret C1 dX12_shares_69 rfl (Nat.zero_le _) (Nat.zero_le _) ⟨rfl, rfl⟩
      · refine J_iconst (q := 56) (v := 0) C0 dX12_shares_55 rfl rfl ?_
        refine J_goto (q := 69) C0 dX12_shares_56 (by decide) ?_
        obtain rfl := Option.some.inj hf; exact J_iret C1 dX12_shares_69 rfl (Nat.zero_le _) (Nat.zero_le _) ⟨rfl, rfl⟩
    · refine J_iload_n (q := 36) C0 3 rfl rfl dX12_shares_35 rfl ?_
      refine J_aload_n (q := 37) C0 0 rfl rfl dX12_shares_36 rfl trivial ?_
      refine J_iload (q := 39) C0 4 rfl dX12_shares_37 rfl ?_
      refine J_iconst (q := 40) (v := 0) C0 dX12_shares_39 rfl rfl ?_
      refine K_some hf (fun p9 hp9 hf => ?_)
      refine J_callV (q := 43) (ci := 11) (as := [vi (v4), vi (0)]) (rest := [vi (v3)]) C0 rfl (h0) (t_X12_of a0 (v4) (0) (hT) (h0)  hp9) ml_X12_of lk_X12_254 im_X12_of se_X12_of rfl (by decide) dX12_shares_40 rfl rfl rfl (by simp [ac_]) C1.room (by decide) (by decide) (by decide) (by decide) (fun r_ τ_ hQ => ?_)
      obtain ⟨rfl, ht_⟩ := hQ; have ht_ := ht_.symm; subst ht_
      show J_ Γ 43 [(0, vr (some a0)), (1, vi (v1)), (2, vi (v2)), (3, vi (v3)), (4, vi (v4))] [vi (p9), vi (v3)] σ 0 0
      refine J_iadd (q := 44) C0 dX12_shares_43 rfl ?_
      refine J_istore_n (q := 45) (lv' := [(3, vi ((v3) + (p9))), (0, vr (some a0)), (1, vi (v1)), (2, vi (v2)), (4, vi (v4))]) C0 rfl (G_nl C1 (by decide)) dX12_shares_44 rfl rfl ?_
      refine J_iinc (q := 48) (v := v4 + 1) (lv' := [(4, vi (v4 + 1)), (3, vi ((v3) + (p9))), (0, vr (some a0)), (1, vi (v1)), (2, vi (v2))]) C0 4 rfl rfl (G_nl C1 (by decide)) dX12_shares_45 rfl rfl ?_
      refine J_goto (q := 26) C0 dX12_shares_48 (by decide) ?_
      refine J_sub (lv' := [(0, vr (some a0)), (1, vi (v1)), (2, vi (v2)), (3, vi ((v3) + (p9))), (4, vi (v4 + 1))]) [2, 3, 4, 1, 0] rfl ?_
      exact ih (v1) (v2) ((v3) + (p9)) (v4 + 1)   hf
set_option maxHeartbeats 4000000 in
set_option maxRecDepth 100000 in
theorem t_X12_shares (N : Nat) (a0 : Nat) (x1 : Int32) (x2 : Int32) {σ : Sg} (hT : sg_T σ) (h0 : is_A σ a0 11) {r : Int32} (hf : f_X12_shares N a0 x1 x2 σ = some r) : Ct yX12_shares cX12_shares 5 (some .int) 2 43 0 0 [vr (some a0), vi x1, vi x2] σ (fun r_ τ_ => (r_ = some (vi r)) ∧ τ_ = σ) := by
  refine Ct.of (by decide +kernel) (Nat.le_of_ble_eq_true rfl) (fun Γ C1 => ?_)
  have C0 := C1.1
  unfold f_X12_shares at hf
  show J_ Γ 0 [(0, vr (some a0)), (1, vi (x1)), (2, vi (x2))] [] σ 0 0
  refine J_aload_n (q := 1) C0 0 rfl rfl dX12_shares_0 rfl trivial ?_
  refine J_iload_n (q := 2) C0 1 rfl rfl dX12_shares_1 rfl ?_
  refine K_some hf (fun p1 hp1 hf => ?_)
  refine J_callV (q := 5) (ci := 11) (as := [vi (x1)]) (rest := []) C0 rfl (h0) (t_X12_isWheel a0 (x1) (h0)  hp1) ml_X12_isWheel lk_X12_307 im_X12_isWheel se_X12_isWheel rfl (by decide) dX12_shares_2 rfl rfl rfl (by simp [ac_]) C1.room (by decide) (by decide) (by decide) (by decide) (fun r_ τ_ hQ => ?_)
  obtain ⟨⟨rfl, zp1⟩, ht_⟩ := hQ; have ht_ := ht_.symm; subst ht_
  show J_ Γ 5 [(0, vr (some a0)), (1, vi (x1)), (2, vi (x2))] [vi (p1)] σ 0 0
  refine J_if_eq (t := 19) (q := 8) C0 dX12_shares_5 (by decide) rfl hf (fun c2 hf => ?_) (fun c2 hf => ?_)
  · refine J_iconst (q := 20) (v := (-1)) C0 dX12_shares_19 rfl rfl ?_
    obtain rfl := Option.some.inj hf; exact J_iret C1 dX12_shares_20 rfl (Nat.zero_le _) (Nat.zero_le _) ⟨rfl, rfl⟩
  · refine J_iload_n (q := 9) C0 2 rfl rfl dX12_shares_8 rfl ?_
    refine J_iconst (q := 10) (v := 0) C0 dX12_shares_9 rfl rfl ?_
    refine J_sipush (q := 13) (v := 999) C0 dX12_shares_10 rfl rfl ?_
    refine K_some hf (fun p3 hp3 hf => ?_)
    refine J_callS (q := 16) (as := [vi (x2), vi (0), vi (999)]) (rest := []) C0 (t_X12_in (x2) (0) (999)  hp3) ml_X12_in lk_X12_208 sm_X12_in dX12_shares_13 rfl rfl rfl (by simp [ac_]) C1.room (by decide) (by decide) (by decide) (by decide) (fun r_ τ_ hQ => ?_)
    obtain ⟨⟨rfl, zp3⟩, ht_⟩ := hQ; have ht_ := ht_.symm; subst ht_
    show J_ Γ 16 [(0, vr (some a0)), (1, vi (x1)), (2, vi (x2))] [vi (p3)] σ 0 0
    refine J_if_ne (t := 21) (q := 19) C0 dX12_shares_16 (by decide) rfl hf (fun c4 hf => ?_) (fun c4 hf => ?_)
    · refine J_iconst (q := 22) (v := 0) C0 dX12_shares_21 rfl rfl ?_
      refine J_istore_n (q := 23) (lv' := [(3, vi (0)), (0, vr (some a0)), (1, vi (x1)), (2, vi (x2))]) C0 rfl (G_nl C1 (by decide)) dX12_shares_22 rfl rfl ?_
      refine J_iconst (q := 24) (v := 0) C0 dX12_shares_23 rfl rfl ?_
      refine J_istore (q := 26) (lv' := [(4, vi (0)), (3, vi (0)), (0, vr (some a0)), (1, vi (x1)), (2, vi (x2))]) C0 (G_nl C1 (by decide)) dX12_shares_24 rfl rfl ?_
      refine J_sub (lv' := [(0, vr (some a0)), (1, vi (x1)), (2, vi (x2)), (3, vi (0)), (4, vi (0))]) [2, 3, 4, 1, 0] rfl ?_
      exact t_X12_shares_L26 C1 (hT) (h0)    N (x1) (x2) (0) (0)  hf
    · refine J_iconst (q := 20) (v := (-1)) C0 dX12_shares_19 rfl rfl ?_
      obtain rfl := Option.some.inj hf; exact J_iret C1 dX12_shares_20 rfl (Nat.zero_le _) (Nat.zero_le _) ⟨rfl, rfl⟩
def f_X12_topBy_B55 (N : Nat) (a0 : Nat) (k4 : Int32 → Int32 → Int32 → Option Int32) (v1 : Int32) (v3 : Int32) (s0 : Int32) (σ : Sg) : Option Int32 :=
  k4 (v1) (s0) (v3 + 1)
def f_X12_topBy_B43 (N : Nat) (a0 : Nat) (k4 : Int32 → Int32 → Int32 → Option Int32) (v1 : Int32) (v2 : Int32) (v3 : Int32) (s0 : Int32) (σ : Sg) : Option Int32 :=
  if (0) < (s0) then
  (f_X12_topBy_B55 N a0 k4 (v1) (v3) (v3) σ)
  else
  (f_X12_topBy_B55 N a0 k4 (v1) (v3) (v2) σ)
def f_X12_topBy_L4 (N : Nat) (a0 : Nat) : Nat → Int32 → Int32 → Int32 → Sg → Option Int32
  | 0, _, _, _, _ => none
  | n + 1, v1, v2, v3, σ =>
  if (v3) < (sg_I σ a0 20) then
  (if (v1) = (0) then
  (Option.bind (f_X12_longOf a0 (v3) σ) fun p3 =>
  Option.bind (f_X12_longOf a0 (v2) σ) fun p4 =>
  f_X12_topBy_B43 N a0 (fun v1 v2 v3 => f_X12_topBy_L4 N a0 n v1 v2 v3 σ) (v1) (v2) (v3) ((p3) - (p4)) σ)
  else
  (Option.bind (f_X12_of a0 (v3) (0) σ) fun p6 =>
  Option.bind (f_X12_of a0 (v2) (0) σ) fun p7 =>
  f_X12_topBy_B43 N a0 (fun v1 v2 v3 => f_X12_topBy_L4 N a0 n v1 v2 v3 σ) (v1) (v2) (v3) ((p6) - (p7)) σ))
  else
  (some (v2))
def f_X12_topBy (N : Nat) (a0 : Nat) (x1 : Int32) (σ : Sg) : Option Int32 :=
  f_X12_topBy_L4 N a0 N (x1) (0) (1) σ
set_option maxHeartbeats 4000000 in
set_option maxRecDepth 100000 in
theorem t_X12_topBy_B55 {N : Nat} {a0 : Nat} {Γ : Gm} {σ : Sg} {r : Int32} (C1 : CM Γ cX12_topBy RX12 5 (some .int) 2 43 0 0 (fun r_ τ_ => (r_ = some (vi r)) ∧ τ_ = σ)) (hT : sg_T σ) (h0 : is_A σ a0 11) (k4 : Int32 → Int32 → Int32 → Option Int32) (hk4 : ∀ (v1 : Int32) (v2 : Int32) (v3 : Int32) , k4 v1 v2 v3 = some r → J_ Γ 4 [(0, vr (some a0)), (1, vi v1), (2, vi v2), (3, vi v3)] [] σ 0 0) (v1 : Int32) (v3 : Int32) (s0 : Int32) (hf : f_X12_topBy_B55 N a0 k4  v1 v3 s0 σ = some r) : J_ Γ 55 [(0, vr (some a0)), (1, vi (v1)), (3, vi (v3))] [vi (s0)] σ 0 0 := by
  have C0 := C1.1
  unfold f_X12_topBy_B55 at hf
  refine J_istore_n (q := 56) (lv' := [(2, vi (s0)), (0, vr (some a0)), (1, vi (v1)), (3, vi (v3))]) C0 rfl (G_nl C1 (by decide)) dX12_topBy_55 rfl rfl ?_
  refine J_iinc (q := 59) (v := v3 + 1) (lv' := [(3, vi (v3 + 1)), (2, vi (s0)), (0, vr (some a0)), (1, vi (v1))]) C0 3 rfl rfl (G_nl C1 (by decide)) dX12_topBy_56 rfl rfl ?_
  refine J_goto (q := 4) C0 dX12_topBy_59 (by decide) ?_
  refine J_sub (lv' := [(0, vr (some a0)), (1, vi (v1)), (2, vi (s0)), (3, vi (v3 + 1))]) [2, 3, 1, 0] rfl ?_
  exact hk4 (v1) (s0) (v3 + 1)  hf
set_option maxHeartbeats 4000000 in
set_option maxRecDepth 100000 in
theorem t_X12_topBy_B43 {N : Nat} {a0 : Nat} {Γ : Gm} {σ : Sg} {r : Int32} (C1 : CM Γ cX12_topBy RX12 5 (some .int) 2 43 0 0 (fun r_ τ_ => (r_ = some (vi r)) ∧ τ_ = σ)) (hT : sg_T σ) (h0 : is_A σ a0 11) (k4 : Int32 → Int32 → Int32 → Option Int32) (hk4 : ∀ (v1 : Int32) (v2 : Int32) (v3 : Int32) , k4 v1 v2 v3 = some r → J_ Γ 4 [(0, vr (some a0)), (1, vi v1), (2, vi v2), (3, vi v3)] [] σ 0 0) (v1 : Int32) (v2 : Int32) (v3 : Int32) (s0 : Int32) (hf : f_X12_topBy_B43 N a0 k4  v1 v2 v3 s0 σ = some r) : J_ Γ 43 [(0, vr (some a0)), (1, vi (v1)), (2, vi (v2)), (3, vi (v3))] [vi (s0)] σ 0 0 := by
  have C0 := C1.1
  unfold f_X12_topBy_B43 at hf
  refine J_istore (q := 45) (lv' := [(4, vi (s0)), (0, vr (some a0)), (1, vi (v1)), (2, vi (v2)), (3, vi (v3))]) C0 (G_nl C1 (by decide)) dX12_topBy_43 rfl rfl ?_
  refine J_iload (q := 47) C0 0 rfl dX12_topBy_45 rfl ?_
  refine J_if_le (t := 54) (q := 50) C0 dX12_topBy_47 (by decide) rfl hf (fun c5 hf => ?_) (fun c5 hf => ?_)
  · refine J_iload_n (q := 55) C0 3 rfl rfl dX12_topBy_54 rfl ?_
    refine J_sub (lv' := [(0, vr (some a0)), (1, vi (v1)), (3, vi (v3))]) [1, 2, 4] rfl ?_
    exact t_X12_topBy_B55 C1 (hT) (h0) k4  hk4  (v1) (v3) (v2)  hf
  · refine J_iload_n (q := 51) C0 4 rfl rfl dX12_topBy_50 rfl ?_
    refine J_goto (q := 55) C0 dX12_topBy_51 (by decide) ?_
    refine J_sub (lv' := [(0, vr (some a0)), (1, vi (v1)), (3, vi (v3))]) [1, 2, 4] rfl ?_
    exact t_X12_topBy_B55 C1 (hT) (h0) k4  hk4  (v1) (v3) (v3)  hf
set_option maxHeartbeats 4000000 in
set_option maxRecDepth 100000 in
theorem t_X12_topBy_L4 {N : Nat} {a0 : Nat} {Γ : Gm} {σ : Sg} {r : Int32} (C1 : CM Γ cX12_topBy RX12 5 (some .int) 2 43 0 0 (fun r_ τ_ => (r_ = some (vi r)) ∧ τ_ = σ)) (hT : sg_T σ) (h0 : is_A σ a0 11) : ∀ (n : Nat) (v1 : Int32) (v2 : Int32) (v3 : Int32), f_X12_topBy_L4 N a0  n v1 v2 v3 σ = some r → J_ Γ 4 [(0, vr (some a0)), (1, vi (v1)), (2, vi (v2)), (3, vi (v3))] [] σ 0 0 := by
  have C0 := C1.1
  intro n
  induction n with
  | zero => intro v1 v2 v3  hf; unfold f_X12_topBy_L4 at hf; cases hf
  | succ n ih =>
    intro v1 v2 v3  hf
    rw [f_X12_topBy_L4] at hf
    refine J_iload_n (q := 5) C0 3 rfl rfl dX12_topBy_4 rfl ?_
    refine J_aload_n (q := 6) C0 0 rfl rfl dX12_topBy_5 rfl trivial ?_
    refine J_getI (q := 9) C0 fl_X12_263_11 rfl (h0) rfl dX12_topBy_6 rfl ?_
    refine J_icmp_ge (t := 62) (q := 12) C0 dX12_topBy_9 (by decide) rfl hf (fun c1 hf => ?_) (fun c1 hf => ?_)
    · refine J_iload_n (q := 63) C0 2 rfl rfl dX12_topBy_62 rfl ?_
      obtain rfl := Option.some.inj hf; exact J_iret C1 dX12_topBy_63 rfl (Nat.zero_le _) (Nat.zero_le _) ⟨rfl, rfl⟩
    · refine J_iload_n (q := 13) C0 1 rfl rfl dX12_topBy_12 rfl ?_
      refine J_if_eq (t := 32) (q := 16) C0 dX12_topBy_13 (by decide) rfl hf (fun c2 hf => ?_) (fun c2 hf => ?_)
      · refine J_aload_n (q := 33) C0 0 rfl rfl dX12_topBy_32 rfl trivial ?_
        refine J_iload_n (q := 34) C0 3 rfl rfl dX12_topBy_33 rfl ?_
        refine K_some hf (fun p3 hp3 hf => ?_)
        refine J_callV (q := 37) (ci := 11) (as := [vi (v3)]) (rest := []) C0 rfl (h0) (t_X12_longOf a0 (v3) (hT) (h0)  hp3) ml_X12_longOf lk_X12_266 im_X12_longOf se_X12_longOf rfl (by decide) dX12_topBy_34 rfl rfl rfl (by simp [ac_]) C1.room (by decide) (by decide) (by decide) (by decide) (fun r_ τ_ hQ => ?_)
        obtain ⟨rfl, ht_⟩ := hQ; have ht_ := ht_.symm; subst ht_
        show J_ Γ 37 [(0, vr (some a0)), (1, vi (v1)), (2, vi (v2)), (3, vi (v3))] [vi (p3)] σ 0 0
        refine J_aload_n (q := 38) C0 0 rfl rfl dX12_topBy_37 rfl trivial ?_
        refine J_iload_n (q := 39) C0 2 rfl rfl dX12_topBy_38 rfl ?_
        refine K_some hf (fun p4 hp4 hf => ?_)
        refine J_callV (q := 42) (ci := 11) (as := [vi (v2)]) (rest := [vi (p3)]) C0 rfl (h0) (t_X12_longOf a0 (v2) (hT) (h0)  hp4) ml_X12_longOf lk_X12_266 im_X12_longOf se_X12_longOf rfl (by decide) dX12_topBy_39 rfl rfl rfl (by simp [ac_]) C1.room (by decide) (by decide) (by decide) (by decide) (fun r_ τ_ hQ => ?_)
        obtain ⟨rfl, ht_⟩ := hQ; have ht_ := ht_.symm; subst ht_
        show J_ Γ 42 [(0, vr (some a0)), (1, vi (v1)), (2, vi (v2)), (3, vi (v3))] [vi (p4), vi (p3)] σ 0 0
        refine J_isub (q := 43) C0 dX12_topBy_42 rfl ?_
        exact t_X12_topBy_B43 C1 (hT) (h0) (fun v1 v2 v3 => f_X12_topBy_L4 N a0 n v1 v2 v3 σ)  ih  (v1) (v2) (v3) ((p3) - (p4))  hf
      · refine J_aload_n (q := 17) C0 0 rfl rfl dX12_topBy_16 rfl trivial ?_
        refine J_iload_n (q := 18) C0 3 rfl rfl dX12_topBy_17 rfl ?_
        refine J_iconst (q := 19) (v := 0) C0 dX12_topBy_18 rfl rfl ?_
        refine K_some hf (fun p6 hp6 hf => ?_)
        refine J_callV (q := 22) (ci := 11) (as := [vi (v3), vi (0)]) (rest := []) C0 rfl (h0) (t_X12_of a0 (v3) (0) (hT) (h0)  hp6) ml_X12_of lk_X12_254 im_X12_of se_X12_of rfl (by decide) dX12_topBy_19 rfl rfl rfl (by simp [ac_]) C1.room (by decide) (by decide) (by decide) (by decide) (fun r_ τ_ hQ => ?_)
        obtain ⟨rfl, ht_⟩ := hQ; have ht_ := ht_.symm; subst ht_
        show J_ Γ 22 [(0, vr (some a0)), (1, vi (v1)), (2, vi (v2)), (3, vi (v3))] [vi (p6)] σ 0 0
        refine J_aload_n (q := 23) C0 0 rfl rfl dX12_topBy_22 rfl trivial ?_
        refine J_iload_n (q := 24) C0 2 rfl rfl dX12_topBy_23 rfl ?_
        refine J_iconst (q := 25) (v := 0) C0 dX12_topBy_24 rfl rfl ?_
        refine K_some hf (fun p7 hp7 hf => ?_)
        refine J_callV (q := 28) (ci := 11) (as := [vi (v2), vi (0)]) (rest := [vi (p6)]) C0 rfl (h0) (t_X12_of a0 (v2) (0) (hT) (h0)  hp7) ml_X12_of lk_X12_254 im_X12_of se_X12_of rfl (by decide) dX12_topBy_25 rfl rfl rfl (by simp [ac_]) C1.room (by decide) (by decide) (by decide) (by decide) (fun r_ τ_ hQ => ?_)
        obtain ⟨rfl, ht_⟩ := hQ; have ht_ := ht_.symm; subst ht_
        show J_ Γ 28 [(0, vr (some a0)), (1, vi (v1)), (2, vi (v2)), (3, vi (v3))] [vi (p7), vi (p6)] σ 0 0
        refine J_isub (q := 29) C0 dX12_topBy_28 rfl ?_
        refine J_goto (q := 43) C0 dX12_topBy_29 (by decide) ?_
        exact t_X12_topBy_B43 C1 (hT) (h0) (fun v1 v2 v3 => f_X12_topBy_L4 N a0 n v1 v2 v3 σ)  ih  (v1) (v2) (v3) ((p6) - (p7))  hf
set_option maxHeartbeats 4000000 in
set_option maxRecDepth 100000 in
theorem t_X12_topBy (N : Nat) (a0 : Nat) (x1 : Int32) {σ : Sg} (hT : sg_T σ) (h0 : is_A σ a0 11) {r : Int32} (hf : f_X12_topBy N a0 x1 σ = some r) : Ct yX12_topBy cX12_topBy 5 (some .int) 2 43 0 0 [vr (some a0), vi x1] σ (fun r_ τ_ => (r_ = some (vi r)) ∧ τ_ = σ) := by
  refine Ct.of (by decide +kernel) (Nat.le_of_ble_eq_true rfl) (fun Γ C1 => ?_)
  have C0 := C1.1
  unfold f_X12_topBy at hf
  show J_ Γ 0 [(0, vr (some a0)), (1, vi (x1))] [] σ 0 0
  refine J_iconst (q := 1) (v := 0) C0 dX12_topBy_0 rfl rfl ?_
  refine J_istore_n (q := 2) (lv' := [(2, vi (0)), (0, vr (some a0)), (1, vi (x1))]) C0 rfl (G_nl C1 (by decide)) dX12_topBy_1 rfl rfl ?_
  refine J_iconst (q := 3) (v := 1) C0 dX12_topBy_2 rfl rfl ?_
  refine J_istore_n (q := 4) (lv' := [(3, vi (1)), (2, vi (0)), (0, vr (some a0)), (1, vi (x1))]) C0 rfl (G_nl C1 (by decide)) dX12_topBy_3 rfl rfl ?_
  refine J_sub (lv' := [(0, vr (some a0)), (1, vi (x1)), (2, vi (0)), (3, vi (1))]) [2, 3, 1, 0] rfl ?_
  exact t_X12_topBy_L4 C1 (hT) (h0)    N (x1) (0) (1)  hf
def f_X12_stripsWith_B74 (N : Nat) (a0 : Nat) (k4 : Int32 → Int32 → Int32 → Option Int32) (v1 : Int32) (v3 : Int32) (s0 : Int32) (s1 : Int32) (σ : Sg) : Option Int32 :=
  k4 (v1) ((s1) + (s0)) (v3 + 1)
def f_X12_stripsWith_B55 (N : Nat) (a0 : Nat) (k4 : Int32 → Int32 → Int32 → Option Int32) (k18 : Int32 → Int32 → Int32 → Int32 → Int32 → Option Int32) (v1 : Int32) (v2 : Int32) (v3 : Int32) (v5 : Int32) (s0 : Int32) (σ : Sg) : Option Int32 :=
  k18 (v1) (v2) (v3) (s0) (v5 + 1)
def f_X12_stripsWith_B50 (N : Nat) (a0 : Nat) (k4 : Int32 → Int32 → Int32 → Option Int32) (k18 : Int32 → Int32 → Int32 → Int32 → Int32 → Option Int32) (v1 : Int32) (v2 : Int32) (v3 : Int32) (v5 : Int32) (σ : Sg) : Option Int32 :=
  f_X12_stripsWith_B55 N a0 k4 k18 (v1) (v2) (v3) (v5) (1) σ
def f_X12_stripsWith_L18 (N : Nat) (a0 : Nat) (k4 : Int32 → Int32 → Int32 → Option Int32) : Nat → Int32 → Int32 → Int32 → Int32 → Int32 → Sg → Option Int32
  | 0, _, _, _, _, _, _ => none
  | n + 1, v1, v2, v3, v4, v5, σ =>
  Option.bind (sg_R σ a0 22) fun b2 =>
  if (v3) < 0 ∨ sg_L σ b2 ≤ (v3).toNatClampNeg then none else
  if (v5) < (sg_I σ b2 (v3).toNatClampNeg) then
  (if (v4) = (0) then
  (Option.bind (sg_R σ a0 21) fun b7 =>
  if (((16) * (v3)) + (v5)) < 0 ∨ sg_L σ b7 ≤ (((16) * (v3)) + (v5)).toNatClampNeg then none else
  if (sg_I σ b7 (((16) * (v3)) + (v5)).toNatClampNeg) = (v1) then
  (f_X12_stripsWith_B50 N a0 k4 (fun v1 v2 v3 v4 v5 => f_X12_stripsWith_L18 N a0 k4 n v1 v2 v3 v4 v5 σ) (v1) (v2) (v3) (v5) σ)
  else
  (f_X12_stripsWith_B55 N a0 k4 (fun v1 v2 v3 v4 v5 => f_X12_stripsWith_L18 N a0 k4 n v1 v2 v3 v4 v5 σ) (v1) (v2) (v3) (v5) (0) σ))
  else
  (f_X12_stripsWith_B50 N a0 k4 (fun v1 v2 v3 v4 v5 => f_X12_stripsWith_L18 N a0 k4 n v1 v2 v3 v4 v5 σ) (v1) (v2) (v3) (v5) σ))
  else
  (if (v4) = (0) then
  (f_X12_stripsWith_B74 N a0 k4 (v1) (v3) (0) (v2) σ)
  else
  (f_X12_stripsWith_B74 N a0 k4 (v1) (v3) (1) (v2) σ))
def f_X12_stripsWith_L4 (N : Nat) (a0 : Nat) : Nat → Int32 → Int32 → Int32 → Sg → Option Int32
  | 0, _, _, _, _ => none
  | n + 1, v1, v2, v3, σ =>
  if (v3) < (sg_I σ a0 23) then
  (f_X12_stripsWith_L18 N a0 (fun v1 v2 v3 => f_X12_stripsWith_L4 N a0 n v1 v2 v3 σ) N (v1) (v2) (v3) (0) (0) σ)
  else
  (some (v2))
def f_X12_stripsWith (N : Nat) (a0 : Nat) (x1 : Int32) (σ : Sg) : Option Int32 :=
  f_X12_stripsWith_L4 N a0 N (x1) (0) (0) σ
set_option maxHeartbeats 4000000 in
set_option maxRecDepth 100000 in
theorem t_X12_stripsWith_B74 {N : Nat} {a0 : Nat} {Γ : Gm} {σ : Sg} {r : Int32} (C1 : CM Γ cX12_stripsWith RX12 6 (some .int) 0 0 0 0 (fun r_ τ_ => (r_ = some (vi r)) ∧ τ_ = σ)) (hT : sg_T σ) (h0 : is_A σ a0 11) (k4 : Int32 → Int32 → Int32 → Option Int32) (hk4 : ∀ (v1 : Int32) (v2 : Int32) (v3 : Int32) , k4 v1 v2 v3 = some r → J_ Γ 4 [(0, vr (some a0)), (1, vi v1), (2, vi v2), (3, vi v3)] [] σ 0 0) (v1 : Int32) (v3 : Int32) (s0 : Int32) (s1 : Int32) (hf : f_X12_stripsWith_B74 N a0 k4  v1 v3 s0 s1 σ = some r) : J_ Γ 74 [(0, vr (some a0)), (1, vi (v1)), (3, vi (v3))] [vi (s0), vi (s1)] σ 0 0 := by
  have C0 := C1.1
  unfold f_X12_stripsWith_B74 at hf
  refine J_iadd (q := 75) C0 dX12_stripsWith_74 rfl ?_
  refine J_istore_n (q := 76) (lv' := [(2, vi ((s1) + (s0))), (0, vr (some a0)), (1, vi (v1)), (3, vi (v3))]) C0 rfl (G_nl C1 (by decide)) dX12_stripsWith_75 rfl rfl ?_
  refine J_iinc (q := 79) (v := v3 + 1) (lv' := [(3, vi (v3 + 1)), (2, vi ((s1) + (s0))), (0, vr (some a0)), (1, vi (v1))]) C0 3 rfl rfl (G_nl C1 (by decide)) dX12_stripsWith_76 rfl rfl ?_
  refine J_goto (q := 4) C0 dX12_stripsWith_79 (by decide) ?_
  refine J_sub (lv' := [(0, vr (some a0)), (1, vi (v1)), (2, vi ((s1) + (s0))), (3, vi (v3 + 1))]) [2, 3, 1, 0] rfl ?_
  exact hk4 (v1) ((s1) + (s0)) (v3 + 1)  hf
set_option maxHeartbeats 4000000 in
set_option maxRecDepth 100000 in
theorem t_X12_stripsWith_B55 {N : Nat} {a0 : Nat} {Γ : Gm} {σ : Sg} {r : Int32} (C1 : CM Γ cX12_stripsWith RX12 6 (some .int) 0 0 0 0 (fun r_ τ_ => (r_ = some (vi r)) ∧ τ_ = σ)) (hT : sg_T σ) (h0 : is_A σ a0 11) (k4 : Int32 → Int32 → Int32 → Option Int32) (k18 : Int32 → Int32 → Int32 → Int32 → Int32 → Option Int32) (hk4 : ∀ (v1 : Int32) (v2 : Int32) (v3 : Int32) , k4 v1 v2 v3 = some r → J_ Γ 4 [(0, vr (some a0)), (1, vi v1), (2, vi v2), (3, vi v3)] [] σ 0 0) (hk18 : ∀ (v1 : Int32) (v2 : Int32) (v3 : Int32) (v4 : Int32) (v5 : Int32) , k18 v1 v2 v3 v4 v5 = some r → J_ Γ 18 [(0, vr (some a0)), (1, vi v1), (2, vi v2), (3, vi v3), (4, vi v4), (5, vi v5)] [] σ 0 0) (v1 : Int32) (v2 : Int32) (v3 : Int32) (v5 : Int32) (s0 : Int32) (hf : f_X12_stripsWith_B55 N a0 k4 k18  v1 v2 v3 v5 s0 σ = some r) : J_ Γ 55 [(0, vr (some a0)), (1, vi (v1)), (2, vi (v2)), (3, vi (v3)), (5, vi (v5))] [vi (s0)] σ 0 0 := by
  have C0 := C1.1
  unfold f_X12_stripsWith_B55 at hf
  refine J_istore (q := 57) (lv' := [(4, vi (s0)), (0, vr (some a0)), (1, vi (v1)), (2, vi (v2)), (3, vi (v3)), (5, vi (v5))]) C0 (G_nl C1 (by decide)) dX12_stripsWith_55 rfl rfl ?_
  refine J_iinc (q := 60) (v := v5 + 1) (lv' := [(5, vi (v5 + 1)), (4, vi (s0)), (0, vr (some a0)), (1, vi (v1)), (2, vi (v2)), (3, vi (v3))]) C0 5 rfl rfl (G_nl C1 (by decide)) dX12_stripsWith_57 rfl rfl ?_
  refine J_goto (q := 18) C0 dX12_stripsWith_60 (by decide) ?_
  refine J_sub (lv' := [(0, vr (some a0)), (1, vi (v1)), (2, vi (v2)), (3, vi (v3)), (4, vi (s0)), (5, vi (v5 + 1))]) [2, 3, 4, 5, 1, 0] rfl ?_
  exact hk18 (v1) (v2) (v3) (s0) (v5 + 1)  hf
set_option maxHeartbeats 4000000 in
set_option maxRecDepth 100000 in
theorem t_X12_stripsWith_B50 {N : Nat} {a0 : Nat} {Γ : Gm} {σ : Sg} {r : Int32} (C1 : CM Γ cX12_stripsWith RX12 6 (some .int) 0 0 0 0 (fun r_ τ_ => (r_ = some (vi r)) ∧ τ_ = σ)) (hT : sg_T σ) (h0 : is_A σ a0 11) (k4 : Int32 → Int32 → Int32 → Option Int32) (k18 : Int32 → Int32 → Int32 → Int32 → Int32 → Option Int32) (hk4 : ∀ (v1 : Int32) (v2 : Int32) (v3 : Int32) , k4 v1 v2 v3 = some r → J_ Γ 4 [(0, vr (some a0)), (1, vi v1), (2, vi v2), (3, vi v3)] [] σ 0 0) (hk18 : ∀ (v1 : Int32) (v2 : Int32) (v3 : Int32) (v4 : Int32) (v5 : Int32) , k18 v1 v2 v3 v4 v5 = some r → J_ Γ 18 [(0, vr (some a0)), (1, vi v1), (2, vi v2), (3, vi v3), (4, vi v4), (5, vi v5)] [] σ 0 0) (v1 : Int32) (v2 : Int32) (v3 : Int32) (v5 : Int32) (hf : f_X12_stripsWith_B50 N a0 k4 k18  v1 v2 v3 v5 σ = some r) : J_ Γ 50 [(0, vr (some a0)), (1, vi (v1)), (2, vi (v2)), (3, vi (v3)), (5, vi (v5))] [] σ 0 0 := by
  have C0 := C1.1
  unfold f_X12_stripsWith_B50 at hf
  refine J_iconst (q := 51) (v := 1) C0 dX12_stripsWith_50 rfl rfl ?_
  refine J_goto (q := 55) C0 dX12_stripsWith_51 (by decide) ?_
  exact t_X12_stripsWith_B55 C1 (hT) (h0) k4  k18  hk4  hk18  (v1) (v2) (v3) (v5) (1)  hf
set_option maxHeartbeats 4000000 in
set_option maxRecDepth 100000 in
theorem t_X12_stripsWith_L18 {N : Nat} {a0 : Nat} {Γ : Gm} {σ : Sg} {r : Int32} (C1 : CM Γ cX12_stripsWith RX12 6 (some .int) 0 0 0 0 (fun r_ τ_ => (r_ = some (vi r)) ∧ τ_ = σ)) (hT : sg_T σ) (h0 : is_A σ a0 11) (k4 : Int32 → Int32 → Int32 → Option Int32) (hk4 : ∀ (v1 : Int32) (v2 : Int32) (v3 : Int32) , k4 v1 v2 v3 = some r → J_ Γ 4 [(0, vr (some a0)), (1, vi v1), (2, vi v2), (3, vi v3)] [] σ 0 0) : ∀ (n : Nat) (v1 : Int32) (v2 : Int32) (v3 : Int32) (v4 : Int32) (v5 : Int32), f_X12_stripsWith_L18 N a0 k4  n v1 v2 v3 v4 v5 σ = some r → J_ Γ 18 [(0, vr (some a0)), (1, vi (v1)), (2, vi (v2)), (3, vi (v3)), (4, vi (v4)), (5, vi (v5))] [] σ 0 0 := by
  have C0 := C1.1
  intro n
  induction n with
  | zero => intro v1 v2 v3 v4 v5  hf; unfold f_X12_stripsWith_L18 at hf; cases hf
  | succ n ih =>
    intro v1 v2 v3 v4 v5  hf
    rw [f_X12_stripsWith_L18] at hf
    refine J_iload (q := 20) C0 5 rfl dX12_stripsWith_18 rfl ?_
    refine J_aload_n (q := 21) C0 0 rfl rfl dX12_stripsWith_20 rfl trivial ?_
    refine J_getR (q := 24) C0 fl_X12_49_11 rfl (h0) rfl dX12_stripsWith_21 rfl ?_
    refine J_iload_n (q := 25) C0 3 rfl rfl dX12_stripsWith_24 rfl ?_
    refine K_some hf (fun b2 hb2 hf => ?_)
    have ab2 : is_A σ b2 12 := ((sg_T.op hT (j := 22) (h0) rfl)) b2 hb2
    refine K_chk hf (fun c3 hf => ?_)
    refine J_iald (q := 26) C0 hb2 (ab2) c3 dX12_stripsWith_25 rfl ?_
    refine J_icmp_ge (t := 63) (q := 29) C0 dX12_stripsWith_26 (by decide) rfl hf (fun c4 hf => ?_) (fun c4 hf => ?_)
    · refine J_iload_n (q := 64) C0 2 rfl rfl dX12_stripsWith_63 rfl ?_
      refine J_iload (q := 66) C0 4 rfl dX12_stripsWith_64 rfl ?_
      refine J_if_eq (t := 73) (q := 69) C0 dX12_stripsWith_66 (by decide) rfl hf (fun c5 hf => ?_) (fun c5 hf => ?_)
      · refine J_iconst (q := 74) (v := 0) C0 dX12_stripsWith_73 rfl rfl ?_
        refine J_sub (lv' := [(0, vr (some a0)), (1, vi (v1)), (3, vi (v3))]) [0, 1, 3] rfl ?_
        exact t_X12_stripsWith_B74 C1 (hT) (h0) k4  hk4  (v1) (v3) (0) (v2)  hf
      · refine J_iconst (q := 70) (v := 1) C0 dX12_stripsWith_69 rfl rfl ?_
        refine J_goto (q := 74) C0 dX12_stripsWith_70 (by decide) ?_
        refine J_sub (lv' := [(0, vr (some a0)), (1, vi (v1)), (3, vi (v3))]) [0, 1, 3] rfl ?_
        exact t_X12_stripsWith_B74 C1 (hT) (h0) k4  hk4  (v1) (v3) (1) (v2)  hf
    · refine J_iload (q := 31) C0 4 rfl dX12_stripsWith_29 rfl ?_
      refine J_if_ne (t := 50) (q := 34) C0 dX12_stripsWith_31 (by decide) rfl hf (fun c6 hf => ?_) (fun c6 hf => ?_)
      · refine J_sub (lv' := [(0, vr (some a0)), (1, vi (v1)), (2, vi (v2)), (3, vi (v3)), (5, vi (v5))]) [0, 1, 2, 3, 5] rfl ?_
        exact t_X12_stripsWith_B50 C1 (hT) (h0) k4  (fun v1 v2 v3 v4 v5 => f_X12_stripsWith_L18 N a0 k4 n v1 v2 v3 v4 v5 σ)  hk4  ih  (v1) (v2) (v3) (v5)  hf
      · refine J_aload_n (q := 35) C0 0 rfl rfl dX12_stripsWith_34 rfl trivial ?_
        refine J_getR (q := 38) C0 fl_X12_46_11 rfl (h0) rfl dX12_stripsWith_35 rfl ?_
        refine J_bipush (q := 40) (v := 16) C0 dX12_stripsWith_38 rfl rfl ?_
        refine J_iload_n (q := 41) C0 3 rfl rfl dX12_stripsWith_40 rfl ?_
        refine J_imul (q := 42) C0 dX12_stripsWith_41 rfl ?_
        refine J_iload (q := 44) C0 5 rfl dX12_stripsWith_42 rfl ?_
        refine J_iadd (q := 45) C0 dX12_stripsWith_44 rfl ?_
        refine K_some hf (fun b7 hb7 hf => ?_)
        have ab7 : is_A σ b7 12 := ((sg_T.op hT (j := 21) (h0) rfl)) b7 hb7
        refine K_chk hf (fun c8 hf => ?_)
        refine J_iald (q := 46) C0 hb7 (ab7) c8 dX12_stripsWith_45 rfl ?_
        refine J_iload_n (q := 47) C0 1 rfl rfl dX12_stripsWith_46 rfl ?_
        refine J_icmp_ne (t := 54) (q := 50) C0 dX12_stripsWith_47 (by decide) rfl hf (fun c9 hf => ?_) (fun c9 hf => ?_)
        · refine J_iconst (q := 55) (v := 0) C0 dX12_stripsWith_54 rfl rfl ?_
          refine J_sub (lv' := [(0, vr (some a0)), (1, vi (v1)), (2, vi (v2)), (3, vi (v3)), (5, vi (v5))]) [0, 1, 2, 3, 5] rfl ?_
          exact t_X12_stripsWith_B55 C1 (hT) (h0) k4  (fun v1 v2 v3 v4 v5 => f_X12_stripsWith_L18 N a0 k4 n v1 v2 v3 v4 v5 σ)  hk4  ih  (v1) (v2) (v3) (v5) (0)  hf
        · refine J_sub (lv' := [(0, vr (some a0)), (1, vi (v1)), (2, vi (v2)), (3, vi (v3)), (5, vi (v5))]) [0, 1, 2, 3, 5] rfl ?_
          exact t_X12_stripsWith_B50 C1 (hT) (h0) k4  (fun v1 v2 v3 v4 v5 => f_X12_stripsWith_L18 N a0 k4 n v1 v2 v3 v4 v5 σ)  hk4  ih  (v1) (v2) (v3) (v5)  hf
set_option maxHeartbeats 4000000 in
set_option maxRecDepth 100000 in
theorem t_X12_stripsWith_L4 {N : Nat} {a0 : Nat} {Γ : Gm} {σ : Sg} {r : Int32} (C1 : CM Γ cX12_stripsWith RX12 6 (some .int) 0 0 0 0 (fun r_ τ_ => (r_ = some (vi r)) ∧ τ_ = σ)) (hT : sg_T σ) (h0 : is_A σ a0 11) : ∀ (n : Nat) (v1 : Int32) (v2 : Int32) (v3 : Int32), f_X12_stripsWith_L4 N a0  n v1 v2 v3 σ = some r → J_ Γ 4 [(0, vr (some a0)), (1, vi (v1)), (2, vi (v2)), (3, vi (v3))] [] σ 0 0 := by
  have C0 := C1.1
  intro n
  induction n with
  | zero => intro v1 v2 v3  hf; unfold f_X12_stripsWith_L4 at hf; cases hf
  | succ n ih =>
    intro v1 v2 v3  hf
    rw [f_X12_stripsWith_L4] at hf
    refine J_iload_n (q := 5) C0 3 rfl rfl dX12_stripsWith_4 rfl ?_
    refine J_aload_n (q := 6) C0 0 rfl rfl dX12_stripsWith_5 rfl trivial ?_
    refine J_getI (q := 9) C0 fl_X12_251_11 rfl (h0) rfl dX12_stripsWith_6 rfl ?_
    refine J_icmp_ge (t := 82) (q := 12) C0 dX12_stripsWith_9 (by decide) rfl hf (fun c1 hf => ?_) (fun c1 hf => ?_)
    · refine J_iload_n (q := 83) C0 2 rfl rfl dX12_stripsWith_82 rfl ?_
      obtain rfl := Option.some.inj hf; exact J_iret C1 dX12_stripsWith_83 rfl (Nat.zero_le _) (Nat.zero_le _) ⟨rfl, rfl⟩
    · refine J_iconst (q := 13) (v := 0) C0 dX12_stripsWith_12 rfl rfl ?_
      refine J_istore (q := 15) (lv' := [(4, vi (0)), (0, vr (some a0)), (1, vi (v1)), (2, vi (v2)), (3, vi (v3))]) C0 (G_nl C1 (by decide)) dX12_stripsWith_13 rfl rfl ?_
      refine J_iconst (q := 16) (v := 0) C0 dX12_stripsWith_15 rfl rfl ?_
      refine J_istore (q := 18) (lv' := [(5, vi (0)), (4, vi (0)), (0, vr (some a0)), (1, vi (v1)), (2, vi (v2)), (3, vi (v3))]) C0 (G_nl C1 (by decide)) dX12_stripsWith_16 rfl rfl ?_
      refine J_sub (lv' := [(0, vr (some a0)), (1, vi (v1)), (2, vi (v2)), (3, vi (v3)), (4, vi (0)), (5, vi (0))]) [2, 3, 4, 5, 1, 0] rfl ?_
      exact t_X12_stripsWith_L18 C1 (hT) (h0)  (fun v1 v2 v3 => f_X12_stripsWith_L4 N a0 n v1 v2 v3 σ)  ih  N (v1) (v2) (v3) (0) (0)  hf
set_option maxHeartbeats 4000000 in
set_option maxRecDepth 100000 in
theorem t_X12_stripsWith (N : Nat) (a0 : Nat) (x1 : Int32) {σ : Sg} (hT : sg_T σ) (h0 : is_A σ a0 11) {r : Int32} (hf : f_X12_stripsWith N a0 x1 σ = some r) : Ct yX12_stripsWith cX12_stripsWith 6 (some .int) 0 0 0 0 [vr (some a0), vi x1] σ (fun r_ τ_ => (r_ = some (vi r)) ∧ τ_ = σ) := by
  refine Ct.of (by decide +kernel) (Nat.le_of_ble_eq_true rfl) (fun Γ C1 => ?_)
  have C0 := C1.1
  unfold f_X12_stripsWith at hf
  show J_ Γ 0 [(0, vr (some a0)), (1, vi (x1))] [] σ 0 0
  refine J_iconst (q := 1) (v := 0) C0 dX12_stripsWith_0 rfl rfl ?_
  refine J_istore_n (q := 2) (lv' := [(2, vi (0)), (0, vr (some a0)), (1, vi (x1))]) C0 rfl (G_nl C1 (by decide)) dX12_stripsWith_1 rfl rfl ?_
  refine J_iconst (q := 3) (v := 0) C0 dX12_stripsWith_2 rfl rfl ?_
  refine J_istore_n (q := 4) (lv' := [(3, vi (0)), (2, vi (0)), (0, vr (some a0)), (1, vi (x1))]) C0 rfl (G_nl C1 (by decide)) dX12_stripsWith_3 rfl rfl ?_
  refine J_sub (lv' := [(0, vr (some a0)), (1, vi (x1)), (2, vi (0)), (3, vi (0))]) [2, 3, 1, 0] rfl ?_
  exact t_X12_stripsWith_L4 C1 (hT) (h0)    N (x1) (0) (0)  hf
