def f_X2_letterCode (x0 : Int32) : Option Int32 :=
  some (((-1)) - (x0))
set_option maxHeartbeats 4000000 in
set_option maxRecDepth 100000 in
theorem t_X2_letterCode (x0 : Int32) {σ : Sg} {r : Int32} (hf : f_X2_letterCode x0 = some r) : Ct yX2_letterCode cX2_letterCode 1 (some .int) 0 0 0 0 [vi x0] σ (fun r_ τ_ => (r_ = some (vi r)) ∧ τ_ = σ) := by
  refine Ct.of (by decide +kernel) (Nat.le_of_ble_eq_true rfl) (fun Γ C1 => ?_)
  have C0 := C1.1
  unfold f_X2_letterCode at hf
  show J_ Γ 0 [(0, vi (x0))] [] σ 0 0
  refine J_iconst (q := 1) (v := (-1)) C0 dX2_letterCode_0 rfl rfl ?_
  refine J_iload_n (q := 2) C0 0 rfl rfl dX2_letterCode_1 rfl ?_
  refine J_isub (q := 3) C0 dX2_letterCode_2 rfl ?_
  obtain rfl := Option.some.inj hf; exact J_iret C1 dX2_letterCode_3 rfl (Nat.zero_le _) (Nat.zero_le _) ⟨rfl, rfl⟩
def f_X2_signCode (x0 : Int32) : Option Int32 :=
  some (((-100)) - (x0))
set_option maxHeartbeats 4000000 in
set_option maxRecDepth 100000 in
theorem t_X2_signCode (x0 : Int32) {σ : Sg} {r : Int32} (hf : f_X2_signCode x0 = some r) : Ct yX2_signCode cX2_signCode 1 (some .int) 0 0 0 0 [vi x0] σ (fun r_ τ_ => (r_ = some (vi r)) ∧ τ_ = σ) := by
  refine Ct.of (by decide +kernel) (Nat.le_of_ble_eq_true rfl) (fun Γ C1 => ?_)
  have C0 := C1.1
  unfold f_X2_signCode at hf
  show J_ Γ 0 [(0, vi (x0))] [] σ 0 0
  refine J_bipush (q := 2) (v := (-100)) C0 dX2_signCode_0 rfl rfl ?_
  refine J_iload_n (q := 3) C0 0 rfl rfl dX2_signCode_2 rfl ?_
  refine J_isub (q := 4) C0 dX2_signCode_3 rfl ?_
  obtain rfl := Option.some.inj hf; exact J_iret C1 dX2_signCode_4 rfl (Nat.zero_le _) (Nat.zero_le _) ⟨rfl, rfl⟩
def f_X3_write (a0 : Nat) (x1 : Int32) (σ : Sg) : Option Sg :=
  Option.bind (sg_R σ a0 3) fun b1 =>
  if (sg_I σ a0 4) < (Int32.ofNat (sg_L σ b1)) then
  (if (sg_I σ a0 4) < 0 ∨ sg_L σ b1 ≤ (sg_I σ a0 4).toNatClampNeg then none else
  some (put_I (put_I σ b1 (sg_I σ a0 4).toNatClampNeg (x1)) a0 4 ((sg_I (put_I σ b1 (sg_I σ a0 4).toNatClampNeg (x1)) a0 4) + (1))))
  else
  (some (σ))
set_option maxHeartbeats 4000000 in
set_option maxRecDepth 100000 in
theorem t_X3_write (a0 : Nat) (x1 : Int32) {σ : Sg} (hT : sg_T σ) (h0 : is_A σ a0 3) {r : Sg} (hf : f_X3_write a0 x1 σ = some r) : Ct yX3_write cX3_write 2 none 0 0 0 0 [vr (some a0), vi x1] σ (fun r_ τ_ => (r_ = none) ∧ τ_ = r ∧ sg_T τ_ ∧ sg_E σ τ_) := by
  refine Ct.of (by decide +kernel) (Nat.le_of_ble_eq_true rfl) (fun Γ C1 => ?_)
  have C0 := C1.1
  have hE : sg_E σ σ := sg_E.rf
  unfold f_X3_write at hf
  show J_ Γ 0 [(0, vr (some a0)), (1, vi (x1))] [] σ 0 0
  refine J_aload_n (q := 1) C0 0 rfl rfl dX3_write_0 rfl trivial ?_
  refine J_getI (q := 4) C0 fl_X3_15_3 rfl (h0) rfl dX3_write_1 rfl ?_
  refine J_aload_n (q := 5) C0 0 rfl rfl dX3_write_4 rfl trivial ?_
  refine J_getR (q := 8) C0 fl_X3_9_3 rfl (h0) rfl dX3_write_5 rfl ?_
  refine K_some hf (fun b1 hb1 hf => ?_)
  have ab1 : is_A σ b1 12 := ((sg_T.op hT (j := 3) (h0) rfl)) b1 hb1
  refine J_alen (q := 9) C0 hb1 (ab1) (by decide) dX3_write_8 rfl ?_
  refine J_icmp_ge (t := 32) (q := 12) C0 dX3_write_9 (by decide) rfl hf (fun c2 hf => ?_) (fun c2 hf => ?_)
  · obtain rfl := Option.some.inj hf; exact J_vret C1 dX3_write_32 rfl (Nat.zero_le _) (Nat.zero_le _) ⟨rfl, rfl, hT, hE⟩
  · refine J_aload_n (q := 13) C0 0 rfl rfl dX3_write_12 rfl trivial ?_
    refine J_getR (q := 16) C0 fl_X3_9_3 rfl (h0) rfl dX3_write_13 rfl ?_
    refine J_aload_n (q := 17) C0 0 rfl rfl dX3_write_16 rfl trivial ?_
    refine J_getI (q := 20) C0 fl_X3_15_3 rfl (h0) rfl dX3_write_17 rfl ?_
    refine J_iload_n (q := 21) C0 1 rfl rfl dX3_write_20 rfl ?_
    refine K_chk hf (fun c3 hf => ?_)
    refine J_iast (q := 22) C0 hb1 (ab1) c3 dX3_write_21 rfl ?_
    refine J_aload_n (q := 23) C0 0 rfl rfl dX3_write_22 rfl trivial ?_
    refine J_dup (q := 24) C0 dX3_write_23 rfl rfl ?_
    refine J_getI (q := 27) C0 fl_X3_15_3 rfl ((h0).putI) rfl dX3_write_24 rfl ?_
    refine J_iconst (q := 28) (v := 1) C0 dX3_write_27 rfl rfl ?_
    refine J_iadd (q := 29) C0 dX3_write_28 rfl ?_
    refine J_putI (q := 32) C0 fl_X3_15_3 rfl ((h0).putI) rfl dX3_write_29 rfl ?_
    obtain rfl := Option.some.inj hf; exact J_vret C1 dX3_write_32 rfl (Nat.zero_le _) (Nat.zero_le _) ⟨rfl, rfl, ((hT).putI).putI, ((hE).putI).putI⟩
def f_X3_isComparison (x0 : Int32) : Option Int32 :=
  if (x0) = (61) then
  (some (1))
  else
  (if (x0) = (60) then
  (some (1))
  else
  (if (x0) = (62) then
  (some (1))
  else
  (some (0))))
set_option maxHeartbeats 4000000 in
set_option maxRecDepth 100000 in
theorem t_X3_isComparison (x0 : Int32) {σ : Sg} {r : Int32} (hf : f_X3_isComparison x0 = some r) : Ct yX3_isComparison cX3_isComparison 1 (some .boolean) 0 0 0 0 [vi x0] σ (fun r_ τ_ => (r_ = some (vi r) ∧ (r = 0 ∨ r = 1)) ∧ τ_ = σ) := by
  refine Ct.of (by decide +kernel) (Nat.le_of_ble_eq_true rfl) (fun Γ C1 => ?_)
  have C0 := C1.1
  unfold f_X3_isComparison at hf
  show J_ Γ 0 [(0, vi (x0))] [] σ 0 0
  refine J_iload_n (q := 1) C0 0 rfl rfl dX3_isComparison_0 rfl ?_
  refine J_bipush (q := 3) (v := 61) C0 dX3_isComparison_1 rfl rfl ?_
  refine J_icmp_eq (t := 18) (q := 6) C0 dX3_isComparison_3 (by decide) rfl hf (fun c1 hf => ?_) (fun c1 hf => ?_)
  · refine J_iconst (q := 19) (v := 1) C0 dX3_isComparison_18 rfl rfl ?_
    refine J_goto (q := 23) C0 dX3_isComparison_19 (by decide) ?_
    obtain rfl := Option.some.inj hf; exact J_zret C1 dX3_isComparison_23 rfl (Or.inr rfl) (Nat.zero_le _) (Nat.zero_le _) ⟨⟨rfl, (Or.inr rfl)⟩, rfl⟩
  · refine J_iload_n (q := 7) C0 0 rfl rfl dX3_isComparison_6 rfl ?_
    refine J_bipush (q := 9) (v := 60) C0 dX3_isComparison_7 rfl rfl ?_
    refine J_icmp_eq (t := 18) (q := 12) C0 dX3_isComparison_9 (by decide) rfl hf (fun c2 hf => ?_) (fun c2 hf => ?_)
    · refine J_iconst (q := 19) (v := 1) C0 dX3_isComparison_18 rfl rfl ?_
      refine J_goto (q := 23) C0 dX3_isComparison_19 (by decide) ?_
      obtain rfl := Option.some.inj hf; exact J_zret C1 dX3_isComparison_23 rfl (Or.inr rfl) (Nat.zero_le _) (Nat.zero_le _) ⟨⟨rfl, (Or.inr rfl)⟩, rfl⟩
    · refine J_iload_n (q := 13) C0 0 rfl rfl dX3_isComparison_12 rfl ?_
      refine J_bipush (q := 15) (v := 62) C0 dX3_isComparison_13 rfl rfl ?_
      refine J_icmp_ne (t := 22) (q := 18) C0 dX3_isComparison_15 (by decide) rfl hf (fun c3 hf => ?_) (fun c3 hf => ?_)
      · refine J_iconst (q := 23) (v := 0) C0 dX3_isComparison_22 rfl rfl ?_
        obtain rfl := Option.some.inj hf; exact J_zret C1 dX3_isComparison_23 rfl (Or.inl rfl) (Nat.zero_le _) (Nat.zero_le _) ⟨⟨rfl, (Or.inl rfl)⟩, rfl⟩
      · refine J_iconst (q := 19) (v := 1) C0 dX3_isComparison_18 rfl rfl ?_
        refine J_goto (q := 23) C0 dX3_isComparison_19 (by decide) ?_
        obtain rfl := Option.some.inj hf; exact J_zret C1 dX3_isComparison_23 rfl (Or.inr rfl) (Nat.zero_le _) (Nat.zero_le _) ⟨⟨rfl, (Or.inr rfl)⟩, rfl⟩
def f_X3_isCondition_o (N : Nat) (rec : Nat → Nat → Int32 → Sg → Option (Int32 × Sg)) (a0 : Nat) (x1 : Int32) (σ : Sg) : Option (Int32 × Sg) :=
  Option.bind (rec 2 a0 (x1) σ) fun p1 =>
  if (p1.1) = (0) then
  (some (0, p1.2))
  else
  (Option.bind (rec 1 a0 (x1) p1.2) fun p3 =>
  if (p3.1) = (0) then
  (some (0, p3.2))
  else
  (some (1, p3.2)))
set_option maxHeartbeats 4000000 in
set_option maxRecDepth 100000 in
theorem t_X3_isCondition_o (N : Nat) {rec : Nat → Nat → Int32 → Sg → Option (Int32 × Sg)} {d : Nat} (hr_X3_isTruth : ∀ (a0 : Nat) (x1 : Int32) (σ : Sg), sg_T σ → is_A σ a0 3 → ∀ r : (Int32 × Sg), rec 2 a0 x1 σ = some r → Ct yX3_isTruth cX3_isTruth 2 (some .boolean) (d + 5) (d * 24 + 112) 0 0 [vr (some a0), vi x1] σ (fun r_ τ_ => (r_ = some (vi r.1) ∧ (r.1 = 0 ∨ r.1 = 1)) ∧ τ_ = r.2 ∧ sg_T τ_ ∧ sg_E σ τ_)) (hr_X3_areMoreTruths : ∀ (a0 : Nat) (x1 : Int32) (σ : Sg), sg_T σ → is_A σ a0 3 → ∀ r : (Int32 × Sg), rec 1 a0 x1 σ = some r → Ct yX3_areMoreTruths cX3_areMoreTruths 3 (some .boolean) (d + 5) (d * 24 + 112) 0 0 [vr (some a0), vi x1] σ (fun r_ τ_ => (r_ = some (vi r.1) ∧ (r.1 = 0 ∨ r.1 = 1)) ∧ τ_ = r.2 ∧ sg_T τ_ ∧ sg_E σ τ_)) (a0 : Nat) (x1 : Int32) {σ : Sg} (hT : sg_T σ) (h0 : is_A σ a0 3) {r : (Int32 × Sg)} (hf : f_X3_isCondition_o N rec a0 x1 σ = some r) : Ct yX3_isCondition cX3_isCondition 2 (some .boolean) (d + 1 + 5) ((d + 1) * 24 + 112) 0 0 [vr (some a0), vi x1] σ (fun r_ τ_ => (r_ = some (vi r.1) ∧ (r.1 = 0 ∨ r.1 = 1)) ∧ τ_ = r.2 ∧ sg_T τ_ ∧ sg_E σ τ_) := by
  refine Ct.of (by decide +kernel) (Nat.le_of_ble_eq_true rfl) (fun Γ C1 => ?_)
  have C0 := C1.1
  have hE : sg_E σ σ := sg_E.rf
  unfold f_X3_isCondition_o at hf
  show J_ Γ 0 [(0, vr (some a0)), (1, vi (x1))] [] σ 0 0
  refine J_aload_n (q := 1) C0 0 rfl rfl dX3_isCondition_0 rfl trivial ?_
  refine J_iload_n (q := 2) C0 1 rfl rfl dX3_isCondition_1 rfl ?_
  refine K_some hf (fun p1 hp1 hf => ?_)
  refine J_callV (q := 5) (ci := 3) (as := [vi (x1)]) (rest := []) C0 rfl (h0) (hr_X3_isTruth a0 (x1) σ (hT) (h0)  _ hp1) ml_X3_isTruth lk_X3_64 im_X3_isTruth se_X3_isTruth rfl (by decide) dX3_isCondition_2 rfl rfl rfl (by simp [ac_]) C1.room (by omega) (by omega) (by decide) (by decide) (fun r_ τ_ hQ => ?_)
  obtain ⟨⟨rfl, zp1⟩, rfl, Tp1, Ep1⟩ := hQ
  show J_ Γ 5 [(0, vr (some a0)), (1, vi (x1))] [vi (p1.1)] p1.2 0 0
  refine J_if_eq (t := 20) (q := 8) C0 dX3_isCondition_5 (by decide) rfl hf (fun c2 hf => ?_) (fun c2 hf => ?_)
  · refine J_iconst (q := 21) (v := 0) C0 dX3_isCondition_20 rfl rfl ?_
    obtain rfl := Option.some.inj hf; exact J_zret C1 dX3_isCondition_21 rfl (Or.inl rfl) (Nat.zero_le _) (Nat.zero_le _) ⟨⟨rfl, (Or.inl rfl)⟩, rfl, Tp1, (hE).tr Ep1⟩
  · refine J_aload_n (q := 9) C0 0 rfl rfl dX3_isCondition_8 rfl trivial ?_
    refine J_iload_n (q := 10) C0 1 rfl rfl dX3_isCondition_9 rfl ?_
    refine K_some hf (fun p3 hp3 hf => ?_)
    refine J_callV (q := 13) (ci := 3) (as := [vi (x1)]) (rest := []) C0 rfl ((Ep1.at h0)) (hr_X3_areMoreTruths a0 (x1) p1.2 (Tp1) ((Ep1.at h0))  _ hp3) ml_X3_areMoreTruths lk_X3_55 im_X3_areMoreTruths se_X3_areMoreTruths rfl (by decide) dX3_isCondition_10 rfl rfl rfl (by simp [ac_]) C1.room (by omega) (by omega) (by decide) (by decide) (fun r_ τ_ hQ => ?_)
    obtain ⟨⟨rfl, zp3⟩, rfl, Tp3, Ep3⟩ := hQ
    show J_ Γ 13 [(0, vr (some a0)), (1, vi (x1))] [vi (p3.1)] p3.2 0 0
    refine J_if_eq (t := 20) (q := 16) C0 dX3_isCondition_13 (by decide) rfl hf (fun c4 hf => ?_) (fun c4 hf => ?_)
    · refine J_iconst (q := 21) (v := 0) C0 dX3_isCondition_20 rfl rfl ?_
      obtain rfl := Option.some.inj hf; exact J_zret C1 dX3_isCondition_21 rfl (Or.inl rfl) (Nat.zero_le _) (Nat.zero_le _) ⟨⟨rfl, (Or.inl rfl)⟩, rfl, Tp3, ((hE).tr Ep1).tr Ep3⟩
    · refine J_iconst (q := 17) (v := 1) C0 dX3_isCondition_16 rfl rfl ?_
      refine J_goto (q := 21) C0 dX3_isCondition_17 (by decide) ?_
      obtain rfl := Option.some.inj hf; exact J_zret C1 dX3_isCondition_21 rfl (Or.inr rfl) (Nat.zero_le _) (Nat.zero_le _) ⟨⟨rfl, (Or.inr rfl)⟩, rfl, Tp3, ((hE).tr Ep1).tr Ep3⟩
def f_X3_areMoreTruths_L2 (N : Nat) (rec : Nat → Nat → Int32 → Sg → Option (Int32 × Sg)) (a0 : Nat) : Nat → Int32 → Int32 → Sg → Option (Int32 × Sg)
  | 0, _, _, _ => none
  | n + 1, v1, v2, σ =>
  if (240) < (v2) then
  (some (1, σ))
  else
  (Option.bind (f_X6_takes N a0 (124) σ) fun p2 =>
  if (p2.1) = (0) then
  (some (1, p2.2))
  else
  (Option.bind (rec 2 a0 (v1) p2.2) fun p4 =>
  if (p4.1) = (0) then
  (some (0, p4.2))
  else
  (Option.bind (f_X2_signCode (124) ) fun p6 =>
  Option.bind (f_X3_write a0 (p6) p4.2) fun p7 =>
  f_X3_areMoreTruths_L2 N rec a0 n (v1) (v2 + 1) (p7))))
def f_X3_areMoreTruths_o (N : Nat) (rec : Nat → Nat → Int32 → Sg → Option (Int32 × Sg)) (a0 : Nat) (x1 : Int32) (σ : Sg) : Option (Int32 × Sg) :=
  f_X3_areMoreTruths_L2 N rec a0 N (x1) (0) σ
set_option maxHeartbeats 4000000 in
set_option maxRecDepth 100000 in
theorem t_X3_areMoreTruths_L2 {N : Nat} {rec : Nat → Nat → Int32 → Sg → Option (Int32 × Sg)} {d : Nat} {a0 : Nat} {Γ : Gm} {σ0 : Sg} {r : (Int32 × Sg)} (C1 : CM Γ cX3_areMoreTruths RX3 3 (some .boolean) (d + 1 + 5) ((d + 1) * 24 + 112) 0 0 (fun r_ τ_ => (r_ = some (vi r.1) ∧ (r.1 = 0 ∨ r.1 = 1)) ∧ τ_ = r.2 ∧ sg_T τ_ ∧ sg_E σ0 τ_)) (hr_X3_isTruth : ∀ (a0 : Nat) (x1 : Int32) (σ : Sg), sg_T σ → is_A σ a0 3 → ∀ r : (Int32 × Sg), rec 2 a0 x1 σ = some r → Ct yX3_isTruth cX3_isTruth 2 (some .boolean) (d + 5) (d * 24 + 112) 0 0 [vr (some a0), vi x1] σ (fun r_ τ_ => (r_ = some (vi r.1) ∧ (r.1 = 0 ∨ r.1 = 1)) ∧ τ_ = r.2 ∧ sg_T τ_ ∧ sg_E σ τ_)) : ∀ (n : Nat) (v1 : Int32) (v2 : Int32) (σ : Sg), sg_T σ → sg_E σ0 σ → is_A σ a0 3 → f_X3_areMoreTruths_L2 N rec a0  n v1 v2 σ = some r → J_ Γ 2 [(0, vr (some a0)), (1, vi (v1)), (2, vi (v2))] [] σ 0 0 := by
  have C0 := C1.1
  intro n
  induction n with
  | zero => intro v1 v2 σ hT hE h0  hf; unfold f_X3_areMoreTruths_L2 at hf; cases hf
  | succ n ih =>
    intro v1 v2 σ hT hE h0  hf
    rw [f_X3_areMoreTruths_L2] at hf
    refine J_iload_n (q := 3) C0 2 rfl rfl dX3_areMoreTruths_2 rfl ?_
    refine J_sipush (q := 6) (v := 240) C0 dX3_areMoreTruths_3 rfl rfl ?_
    refine J_icmp_gt (t := 43) (q := 9) C0 dX3_areMoreTruths_6 (by decide) rfl hf (fun c1 hf => ?_) (fun c1 hf => ?_)
    · refine J_iconst (q := 44) (v := 1) C0 dX3_areMoreTruths_43 rfl rfl ?_
      obtain rfl := Option.some.inj hf; exact J_zret C1 dX3_areMoreTruths_44 rfl (Or.inr rfl) (Nat.zero_le _) (Nat.zero_le _) ⟨⟨rfl, (Or.inr rfl)⟩, rfl, hT, hE⟩
    · refine J_aload_n (q := 10) C0 0 rfl rfl dX3_areMoreTruths_9 rfl trivial ?_
      refine J_bipush (q := 12) (v := 124) C0 dX3_areMoreTruths_10 rfl rfl ?_
      refine K_some hf (fun p2 hp2 hf => ?_)
      refine J_callU (q := 15) (ci := 3) (as := [vi (124)]) (rest := []) C0 rfl (h0) (t_X6_takes_k3 N a0 (124) (hT) (h0)  hp2) rfl ml_X6_takes lk_X3_23 sa_654 im_X6_takes se_655 rfl (by decide) dX3_areMoreTruths_12 rfl rfl rfl (by simp [ac_]) C1.room (by omega) (by omega) (by decide) (by decide) (fun r_ τ_ hQ => ?_)
      obtain ⟨⟨rfl, zp2⟩, rfl, Tp2, Ep2⟩ := hQ
      show J_ Γ 15 [(0, vr (some a0)), (1, vi (v1)), (2, vi (v2))] [vi (p2.1)] p2.2 0 0
      refine J_if_eq (t := 43) (q := 18) C0 dX3_areMoreTruths_15 (by decide) rfl hf (fun c3 hf => ?_) (fun c3 hf => ?_)
      · refine J_iconst (q := 44) (v := 1) C0 dX3_areMoreTruths_43 rfl rfl ?_
        obtain rfl := Option.some.inj hf; exact J_zret C1 dX3_areMoreTruths_44 rfl (Or.inr rfl) (Nat.zero_le _) (Nat.zero_le _) ⟨⟨rfl, (Or.inr rfl)⟩, rfl, Tp2, (hE).tr Ep2⟩
      · refine J_aload_n (q := 19) C0 0 rfl rfl dX3_areMoreTruths_18 rfl trivial ?_
        refine J_iload_n (q := 20) C0 1 rfl rfl dX3_areMoreTruths_19 rfl ?_
        refine K_some hf (fun p4 hp4 hf => ?_)
        refine J_callV (q := 23) (ci := 3) (as := [vi (v1)]) (rest := []) C0 rfl ((Ep2.at h0)) (hr_X3_isTruth a0 (v1) p2.2 (Tp2) ((Ep2.at h0))  _ hp4) ml_X3_isTruth lk_X3_64 im_X3_isTruth se_X3_isTruth rfl (by decide) dX3_areMoreTruths_20 rfl rfl rfl (by simp [ac_]) C1.room (by omega) (by omega) (by decide) (by decide) (fun r_ τ_ hQ => ?_)
        obtain ⟨⟨rfl, zp4⟩, rfl, Tp4, Ep4⟩ := hQ
        show J_ Γ 23 [(0, vr (some a0)), (1, vi (v1)), (2, vi (v2))] [vi (p4.1)] p4.2 0 0
        refine J_if_ne (t := 28) (q := 26) C0 dX3_areMoreTruths_23 (by decide) rfl hf (fun c5 hf => ?_) (fun c5 hf => ?_)
        · refine J_aload_n (q := 29) C0 0 rfl rfl dX3_areMoreTruths_28 rfl trivial ?_
          refine J_bipush (q := 31) (v := 124) C0 dX3_areMoreTruths_29 rfl rfl ?_
          refine K_some hf (fun p6 hp6 hf => ?_)
          refine J_callS (q := 34) (as := [vi (124)]) (rest := [vr (some a0)]) C0 (t_X2_signCode (124)  hp6) ml_X2_signCode lk_X3_67 sm_X2_signCode dX3_areMoreTruths_31 rfl rfl rfl (by simp [ac_]) C1.room (by omega) (by omega) (by decide) (by decide) (fun r_ τ_ hQ => ?_)
          obtain ⟨rfl, ht_⟩ := hQ; have ht_ := ht_.symm; subst ht_
          show J_ Γ 34 [(0, vr (some a0)), (1, vi (v1)), (2, vi (v2))] [vi (p6), vr (some a0)] p4.2 0 0
          refine K_some hf (fun p7 hp7 hf => ?_)
          refine J_callV (q := 37) (ci := 3) (as := [vi (p6)]) (rest := []) C0 rfl ((Ep4.at (Ep2.at h0))) (t_X3_write a0 (p6) (Tp4) ((Ep4.at (Ep2.at h0)))  hp7) ml_X3_write lk_X3_60 im_X3_write se_X3_write rfl (by decide) dX3_areMoreTruths_34 rfl rfl rfl (by simp [ac_]) C1.room (by omega) (by omega) (by decide) (by decide) (fun r_ τ_ hQ => ?_)
          obtain ⟨rfl, ht_, Tp7, Ep7⟩ := hQ; have ht_ := ht_.symm; subst ht_
          show J_ Γ 37 [(0, vr (some a0)), (1, vi (v1)), (2, vi (v2))] [] p7 0 0
          refine J_iinc (q := 40) (v := v2 + 1) (lv' := [(2, vi (v2 + 1)), (0, vr (some a0)), (1, vi (v1))]) C0 2 rfl rfl (G_nl C1 (by decide)) dX3_areMoreTruths_37 rfl rfl ?_
          refine J_goto (q := 2) C0 dX3_areMoreTruths_40 (by decide) ?_
          refine J_sub (lv' := [(0, vr (some a0)), (1, vi (v1)), (2, vi (v2 + 1))]) [1, 2, 0] rfl ?_
          exact ih (v1) (v2 + 1) (p7) (Tp7) ((((hE).tr Ep2).tr Ep4).tr Ep7) ((Ep7.at (Ep4.at (Ep2.at h0))))  hf
        · refine J_iconst (q := 27) (v := 0) C0 dX3_areMoreTruths_26 rfl rfl ?_
          obtain rfl := Option.some.inj hf; exact J_zret C1 dX3_areMoreTruths_27 rfl (Or.inl rfl) (Nat.zero_le _) (Nat.zero_le _) ⟨⟨rfl, (Or.inl rfl)⟩, rfl, Tp4, ((hE).tr Ep2).tr Ep4⟩
set_option maxHeartbeats 4000000 in
set_option maxRecDepth 100000 in
theorem t_X3_areMoreTruths_o (N : Nat) {rec : Nat → Nat → Int32 → Sg → Option (Int32 × Sg)} {d : Nat} (hr_X3_isTruth : ∀ (a0 : Nat) (x1 : Int32) (σ : Sg), sg_T σ → is_A σ a0 3 → ∀ r : (Int32 × Sg), rec 2 a0 x1 σ = some r → Ct yX3_isTruth cX3_isTruth 2 (some .boolean) (d + 5) (d * 24 + 112) 0 0 [vr (some a0), vi x1] σ (fun r_ τ_ => (r_ = some (vi r.1) ∧ (r.1 = 0 ∨ r.1 = 1)) ∧ τ_ = r.2 ∧ sg_T τ_ ∧ sg_E σ τ_)) (a0 : Nat) (x1 : Int32) {σ : Sg} (hT : sg_T σ) (h0 : is_A σ a0 3) {r : (Int32 × Sg)} (hf : f_X3_areMoreTruths_o N rec a0 x1 σ = some r) : Ct yX3_areMoreTruths cX3_areMoreTruths 3 (some .boolean) (d + 1 + 5) ((d + 1) * 24 + 112) 0 0 [vr (some a0), vi x1] σ (fun r_ τ_ => (r_ = some (vi r.1) ∧ (r.1 = 0 ∨ r.1 = 1)) ∧ τ_ = r.2 ∧ sg_T τ_ ∧ sg_E σ τ_) := by
  refine Ct.of (by decide +kernel) (Nat.le_of_ble_eq_true rfl) (fun Γ C1 => ?_)
  have C0 := C1.1
  have hE : sg_E σ σ := sg_E.rf
  unfold f_X3_areMoreTruths_o at hf
  show J_ Γ 0 [(0, vr (some a0)), (1, vi (x1))] [] σ 0 0
  refine J_iconst (q := 1) (v := 0) C0 dX3_areMoreTruths_0 rfl rfl ?_
  refine J_istore_n (q := 2) (lv' := [(2, vi (0)), (0, vr (some a0)), (1, vi (x1))]) C0 rfl (G_nl C1 (by decide)) dX3_areMoreTruths_1 rfl rfl ?_
  refine J_sub (lv' := [(0, vr (some a0)), (1, vi (x1)), (2, vi (0))]) [1, 2, 0] rfl ?_
  exact t_X3_areMoreTruths_L2 C1 hr_X3_isTruth    N (x1) (0) σ (hT) (hE) (h0)  hf
def f_X3_isTruth_o (N : Nat) (rec : Nat → Nat → Int32 → Sg → Option (Int32 × Sg)) (a0 : Nat) (x1 : Int32) (σ : Sg) : Option (Int32 × Sg) :=
  Option.bind (rec 4 a0 (x1) σ) fun p1 =>
  if (p1.1) = (0) then
  (some (0, p1.2))
  else
  (Option.bind (rec 3 a0 (x1) p1.2) fun p3 =>
  if (p3.1) = (0) then
  (some (0, p3.2))
  else
  (some (1, p3.2)))
set_option maxHeartbeats 4000000 in
set_option maxRecDepth 100000 in
theorem t_X3_isTruth_o (N : Nat) {rec : Nat → Nat → Int32 → Sg → Option (Int32 × Sg)} {d : Nat} (hr_X3_isUnit : ∀ (a0 : Nat) (x1 : Int32) (σ : Sg), sg_T σ → is_A σ a0 3 → ∀ r : (Int32 × Sg), rec 4 a0 x1 σ = some r → Ct yX3_isUnit cX3_isUnit 3 (some .boolean) (d + 5) (d * 24 + 112) 0 0 [vr (some a0), vi x1] σ (fun r_ τ_ => (r_ = some (vi r.1) ∧ (r.1 = 0 ∨ r.1 = 1)) ∧ τ_ = r.2 ∧ sg_T τ_ ∧ sg_E σ τ_)) (hr_X3_areMoreUnits : ∀ (a0 : Nat) (x1 : Int32) (σ : Sg), sg_T σ → is_A σ a0 3 → ∀ r : (Int32 × Sg), rec 3 a0 x1 σ = some r → Ct yX3_areMoreUnits cX3_areMoreUnits 3 (some .boolean) (d + 5) (d * 24 + 112) 0 0 [vr (some a0), vi x1] σ (fun r_ τ_ => (r_ = some (vi r.1) ∧ (r.1 = 0 ∨ r.1 = 1)) ∧ τ_ = r.2 ∧ sg_T τ_ ∧ sg_E σ τ_)) (a0 : Nat) (x1 : Int32) {σ : Sg} (hT : sg_T σ) (h0 : is_A σ a0 3) {r : (Int32 × Sg)} (hf : f_X3_isTruth_o N rec a0 x1 σ = some r) : Ct yX3_isTruth cX3_isTruth 2 (some .boolean) (d + 1 + 5) ((d + 1) * 24 + 112) 0 0 [vr (some a0), vi x1] σ (fun r_ τ_ => (r_ = some (vi r.1) ∧ (r.1 = 0 ∨ r.1 = 1)) ∧ τ_ = r.2 ∧ sg_T τ_ ∧ sg_E σ τ_) := by
  refine Ct.of (by decide +kernel) (Nat.le_of_ble_eq_true rfl) (fun Γ C1 => ?_)
  have C0 := C1.1
  have hE : sg_E σ σ := sg_E.rf
  unfold f_X3_isTruth_o at hf
  show J_ Γ 0 [(0, vr (some a0)), (1, vi (x1))] [] σ 0 0
  refine J_aload_n (q := 1) C0 0 rfl rfl dX3_isTruth_0 rfl trivial ?_
  refine J_iload_n (q := 2) C0 1 rfl rfl dX3_isTruth_1 rfl ?_
  refine K_some hf (fun p1 hp1 hf => ?_)
  refine J_callV (q := 5) (ci := 3) (as := [vi (x1)]) (rest := []) C0 rfl (h0) (hr_X3_isUnit a0 (x1) σ (hT) (h0)  _ hp1) ml_X3_isUnit lk_X3_71 im_X3_isUnit se_X3_isUnit rfl (by decide) dX3_isTruth_2 rfl rfl rfl (by simp [ac_]) C1.room (by omega) (by omega) (by decide) (by decide) (fun r_ τ_ hQ => ?_)
  obtain ⟨⟨rfl, zp1⟩, rfl, Tp1, Ep1⟩ := hQ
  show J_ Γ 5 [(0, vr (some a0)), (1, vi (x1))] [vi (p1.1)] p1.2 0 0
  refine J_if_eq (t := 20) (q := 8) C0 dX3_isTruth_5 (by decide) rfl hf (fun c2 hf => ?_) (fun c2 hf => ?_)
  · refine J_iconst (q := 21) (v := 0) C0 dX3_isTruth_20 rfl rfl ?_
    obtain rfl := Option.some.inj hf; exact J_zret C1 dX3_isTruth_21 rfl (Or.inl rfl) (Nat.zero_le _) (Nat.zero_le _) ⟨⟨rfl, (Or.inl rfl)⟩, rfl, Tp1, (hE).tr Ep1⟩
  · refine J_aload_n (q := 9) C0 0 rfl rfl dX3_isTruth_8 rfl trivial ?_
    refine J_iload_n (q := 10) C0 1 rfl rfl dX3_isTruth_9 rfl ?_
    refine K_some hf (fun p3 hp3 hf => ?_)
    refine J_callV (q := 13) (ci := 3) (as := [vi (x1)]) (rest := []) C0 rfl ((Ep1.at h0)) (hr_X3_areMoreUnits a0 (x1) p1.2 (Tp1) ((Ep1.at h0))  _ hp3) ml_X3_areMoreUnits lk_X3_52 im_X3_areMoreUnits se_X3_areMoreUnits rfl (by decide) dX3_isTruth_10 rfl rfl rfl (by simp [ac_]) C1.room (by omega) (by omega) (by decide) (by decide) (fun r_ τ_ hQ => ?_)
    obtain ⟨⟨rfl, zp3⟩, rfl, Tp3, Ep3⟩ := hQ
    show J_ Γ 13 [(0, vr (some a0)), (1, vi (x1))] [vi (p3.1)] p3.2 0 0
    refine J_if_eq (t := 20) (q := 16) C0 dX3_isTruth_13 (by decide) rfl hf (fun c4 hf => ?_) (fun c4 hf => ?_)
    · refine J_iconst (q := 21) (v := 0) C0 dX3_isTruth_20 rfl rfl ?_
      obtain rfl := Option.some.inj hf; exact J_zret C1 dX3_isTruth_21 rfl (Or.inl rfl) (Nat.zero_le _) (Nat.zero_le _) ⟨⟨rfl, (Or.inl rfl)⟩, rfl, Tp3, ((hE).tr Ep1).tr Ep3⟩
    · refine J_iconst (q := 17) (v := 1) C0 dX3_isTruth_16 rfl rfl ?_
      refine J_goto (q := 21) C0 dX3_isTruth_17 (by decide) ?_
      obtain rfl := Option.some.inj hf; exact J_zret C1 dX3_isTruth_21 rfl (Or.inr rfl) (Nat.zero_le _) (Nat.zero_le _) ⟨⟨rfl, (Or.inr rfl)⟩, rfl, Tp3, ((hE).tr Ep1).tr Ep3⟩
def f_X3_areMoreUnits_L2 (N : Nat) (rec : Nat → Nat → Int32 → Sg → Option (Int32 × Sg)) (a0 : Nat) : Nat → Int32 → Int32 → Sg → Option (Int32 × Sg)
  | 0, _, _, _ => none
  | n + 1, v1, v2, σ =>
  if (240) < (v2) then
  (some (1, σ))
  else
  (Option.bind (f_X6_takes N a0 (38) σ) fun p2 =>
  if (p2.1) = (0) then
  (some (1, p2.2))
  else
  (Option.bind (rec 4 a0 (v1) p2.2) fun p4 =>
  if (p4.1) = (0) then
  (some (0, p4.2))
  else
  (Option.bind (f_X2_signCode (38) ) fun p6 =>
  Option.bind (f_X3_write a0 (p6) p4.2) fun p7 =>
  f_X3_areMoreUnits_L2 N rec a0 n (v1) (v2 + 1) (p7))))
def f_X3_areMoreUnits_o (N : Nat) (rec : Nat → Nat → Int32 → Sg → Option (Int32 × Sg)) (a0 : Nat) (x1 : Int32) (σ : Sg) : Option (Int32 × Sg) :=
  f_X3_areMoreUnits_L2 N rec a0 N (x1) (0) σ
set_option maxHeartbeats 4000000 in
set_option maxRecDepth 100000 in
theorem t_X3_areMoreUnits_L2 {N : Nat} {rec : Nat → Nat → Int32 → Sg → Option (Int32 × Sg)} {d : Nat} {a0 : Nat} {Γ : Gm} {σ0 : Sg} {r : (Int32 × Sg)} (C1 : CM Γ cX3_areMoreUnits RX3 3 (some .boolean) (d + 1 + 5) ((d + 1) * 24 + 112) 0 0 (fun r_ τ_ => (r_ = some (vi r.1) ∧ (r.1 = 0 ∨ r.1 = 1)) ∧ τ_ = r.2 ∧ sg_T τ_ ∧ sg_E σ0 τ_)) (hr_X3_isUnit : ∀ (a0 : Nat) (x1 : Int32) (σ : Sg), sg_T σ → is_A σ a0 3 → ∀ r : (Int32 × Sg), rec 4 a0 x1 σ = some r → Ct yX3_isUnit cX3_isUnit 3 (some .boolean) (d + 5) (d * 24 + 112) 0 0 [vr (some a0), vi x1] σ (fun r_ τ_ => (r_ = some (vi r.1) ∧ (r.1 = 0 ∨ r.1 = 1)) ∧ τ_ = r.2 ∧ sg_T τ_ ∧ sg_E σ τ_)) : ∀ (n : Nat) (v1 : Int32) (v2 : Int32) (σ : Sg), sg_T σ → sg_E σ0 σ → is_A σ a0 3 → f_X3_areMoreUnits_L2 N rec a0  n v1 v2 σ = some r → J_ Γ 2 [(0, vr (some a0)), (1, vi (v1)), (2, vi (v2))] [] σ 0 0 := by
  have C0 := C1.1
  intro n
  induction n with
  | zero => intro v1 v2 σ hT hE h0  hf; unfold f_X3_areMoreUnits_L2 at hf; cases hf
  | succ n ih =>
    intro v1 v2 σ hT hE h0  hf
    rw [f_X3_areMoreUnits_L2] at hf
    refine J_iload_n (q := 3) C0 2 rfl rfl dX3_areMoreUnits_2 rfl ?_
    refine J_sipush (q := 6) (v := 240) C0 dX3_areMoreUnits_3 rfl rfl ?_
    refine J_icmp_gt (t := 43) (q := 9) C0 dX3_areMoreUnits_6 (by decide) rfl hf (fun c1 hf => ?_) (fun c1 hf => ?_)
    · refine J_iconst (q := 44) (v := 1) C0 dX3_areMoreUnits_43 rfl rfl ?_
      obtain rfl := Option.some.inj hf; exact J_zret C1 dX3_areMoreUnits_44 rfl (Or.inr rfl) (Nat.zero_le _) (Nat.zero_le _) ⟨⟨rfl, (Or.inr rfl)⟩, rfl, hT, hE⟩
    · refine J_aload_n (q := 10) C0 0 rfl rfl dX3_areMoreUnits_9 rfl trivial ?_
      refine J_bipush (q := 12) (v := 38) C0 dX3_areMoreUnits_10 rfl rfl ?_
      refine K_some hf (fun p2 hp2 hf => ?_)
      refine J_callU (q := 15) (ci := 3) (as := [vi (38)]) (rest := []) C0 rfl (h0) (t_X6_takes_k3 N a0 (38) (hT) (h0)  hp2) rfl ml_X6_takes lk_X3_23 sa_654 im_X6_takes se_655 rfl (by decide) dX3_areMoreUnits_12 rfl rfl rfl (by simp [ac_]) C1.room (by omega) (by omega) (by decide) (by decide) (fun r_ τ_ hQ => ?_)
      obtain ⟨⟨rfl, zp2⟩, rfl, Tp2, Ep2⟩ := hQ
      show J_ Γ 15 [(0, vr (some a0)), (1, vi (v1)), (2, vi (v2))] [vi (p2.1)] p2.2 0 0
      refine J_if_eq (t := 43) (q := 18) C0 dX3_areMoreUnits_15 (by decide) rfl hf (fun c3 hf => ?_) (fun c3 hf => ?_)
      · refine J_iconst (q := 44) (v := 1) C0 dX3_areMoreUnits_43 rfl rfl ?_
        obtain rfl := Option.some.inj hf; exact J_zret C1 dX3_areMoreUnits_44 rfl (Or.inr rfl) (Nat.zero_le _) (Nat.zero_le _) ⟨⟨rfl, (Or.inr rfl)⟩, rfl, Tp2, (hE).tr Ep2⟩
      · refine J_aload_n (q := 19) C0 0 rfl rfl dX3_areMoreUnits_18 rfl trivial ?_
        refine J_iload_n (q := 20) C0 1 rfl rfl dX3_areMoreUnits_19 rfl ?_
        refine K_some hf (fun p4 hp4 hf => ?_)
        refine J_callV (q := 23) (ci := 3) (as := [vi (v1)]) (rest := []) C0 rfl ((Ep2.at h0)) (hr_X3_isUnit a0 (v1) p2.2 (Tp2) ((Ep2.at h0))  _ hp4) ml_X3_isUnit lk_X3_71 im_X3_isUnit se_X3_isUnit rfl (by decide) dX3_areMoreUnits_20 rfl rfl rfl (by simp [ac_]) C1.room (by omega) (by omega) (by decide) (by decide) (fun r_ τ_ hQ => ?_)
        obtain ⟨⟨rfl, zp4⟩, rfl, Tp4, Ep4⟩ := hQ
        show J_ Γ 23 [(0, vr (some a0)), (1, vi (v1)), (2, vi (v2))] [vi (p4.1)] p4.2 0 0
        refine J_if_ne (t := 28) (q := 26) C0 dX3_areMoreUnits_23 (by decide) rfl hf (fun c5 hf => ?_) (fun c5 hf => ?_)
        · refine J_aload_n (q := 29) C0 0 rfl rfl dX3_areMoreUnits_28 rfl trivial ?_
          refine J_bipush (q := 31) (v := 38) C0 dX3_areMoreUnits_29 rfl rfl ?_
          refine K_some hf (fun p6 hp6 hf => ?_)
          refine J_callS (q := 34) (as := [vi (38)]) (rest := [vr (some a0)]) C0 (t_X2_signCode (38)  hp6) ml_X2_signCode lk_X3_67 sm_X2_signCode dX3_areMoreUnits_31 rfl rfl rfl (by simp [ac_]) C1.room (by omega) (by omega) (by decide) (by decide) (fun r_ τ_ hQ => ?_)
          obtain ⟨rfl, ht_⟩ := hQ; have ht_ := ht_.symm; subst ht_
          show J_ Γ 34 [(0, vr (some a0)), (1, vi (v1)), (2, vi (v2))] [vi (p6), vr (some a0)] p4.2 0 0
          refine K_some hf (fun p7 hp7 hf => ?_)
          refine J_callV (q := 37) (ci := 3) (as := [vi (p6)]) (rest := []) C0 rfl ((Ep4.at (Ep2.at h0))) (t_X3_write a0 (p6) (Tp4) ((Ep4.at (Ep2.at h0)))  hp7) ml_X3_write lk_X3_60 im_X3_write se_X3_write rfl (by decide) dX3_areMoreUnits_34 rfl rfl rfl (by simp [ac_]) C1.room (by omega) (by omega) (by decide) (by decide) (fun r_ τ_ hQ => ?_)
          obtain ⟨rfl, ht_, Tp7, Ep7⟩ := hQ; have ht_ := ht_.symm; subst ht_
          show J_ Γ 37 [(0, vr (some a0)), (1, vi (v1)), (2, vi (v2))] [] p7 0 0
          refine J_iinc (q := 40) (v := v2 + 1) (lv' := [(2, vi (v2 + 1)), (0, vr (some a0)), (1, vi (v1))]) C0 2 rfl rfl (G_nl C1 (by decide)) dX3_areMoreUnits_37 rfl rfl ?_
          refine J_goto (q := 2) C0 dX3_areMoreUnits_40 (by decide) ?_
          refine J_sub (lv' := [(0, vr (some a0)), (1, vi (v1)), (2, vi (v2 + 1))]) [1, 2, 0] rfl ?_
          exact ih (v1) (v2 + 1) (p7) (Tp7) ((((hE).tr Ep2).tr Ep4).tr Ep7) ((Ep7.at (Ep4.at (Ep2.at h0))))  hf
        · refine J_iconst (q := 27) (v := 0) C0 dX3_areMoreUnits_26 rfl rfl ?_
          obtain rfl := Option.some.inj hf; exact J_zret C1 dX3_areMoreUnits_27 rfl (Or.inl rfl) (Nat.zero_le _) (Nat.zero_le _) ⟨⟨rfl, (Or.inl rfl)⟩, rfl, Tp4, ((hE).tr Ep2).tr Ep4⟩
set_option maxHeartbeats 4000000 in
set_option maxRecDepth 100000 in
theorem t_X3_areMoreUnits_o (N : Nat) {rec : Nat → Nat → Int32 → Sg → Option (Int32 × Sg)} {d : Nat} (hr_X3_isUnit : ∀ (a0 : Nat) (x1 : Int32) (σ : Sg), sg_T σ → is_A σ a0 3 → ∀ r : (Int32 × Sg), rec 4 a0 x1 σ = some r → Ct yX3_isUnit cX3_isUnit 3 (some .boolean) (d + 5) (d * 24 + 112) 0 0 [vr (some a0), vi x1] σ (fun r_ τ_ => (r_ = some (vi r.1) ∧ (r.1 = 0 ∨ r.1 = 1)) ∧ τ_ = r.2 ∧ sg_T τ_ ∧ sg_E σ τ_)) (a0 : Nat) (x1 : Int32) {σ : Sg} (hT : sg_T σ) (h0 : is_A σ a0 3) {r : (Int32 × Sg)} (hf : f_X3_areMoreUnits_o N rec a0 x1 σ = some r) : Ct yX3_areMoreUnits cX3_areMoreUnits 3 (some .boolean) (d + 1 + 5) ((d + 1) * 24 + 112) 0 0 [vr (some a0), vi x1] σ (fun r_ τ_ => (r_ = some (vi r.1) ∧ (r.1 = 0 ∨ r.1 = 1)) ∧ τ_ = r.2 ∧ sg_T τ_ ∧ sg_E σ τ_) := by
  refine Ct.of (by decide +kernel) (Nat.le_of_ble_eq_true rfl) (fun Γ C1 => ?_)
  have C0 := C1.1
  have hE : sg_E σ σ := sg_E.rf
  unfold f_X3_areMoreUnits_o at hf
  show J_ Γ 0 [(0, vr (some a0)), (1, vi (x1))] [] σ 0 0
  refine J_iconst (q := 1) (v := 0) C0 dX3_areMoreUnits_0 rfl rfl ?_
  refine J_istore_n (q := 2) (lv' := [(2, vi (0)), (0, vr (some a0)), (1, vi (x1))]) C0 rfl (G_nl C1 (by decide)) dX3_areMoreUnits_1 rfl rfl ?_
  refine J_sub (lv' := [(0, vr (some a0)), (1, vi (x1)), (2, vi (0))]) [1, 2, 0] rfl ?_
  exact t_X3_areMoreUnits_L2 C1 hr_X3_isUnit    N (x1) (0) σ (hT) (hE) (h0)  hf
def f_X3_isUnit_B39 (N : Nat) (rec : Nat → Nat → Int32 → Sg → Option (Int32 × Sg)) (a0 : Nat) (v1 : Int32) (v2 : Int32) (σ : Sg) : Option (Int32 × Sg) :=
  if (v1) < (6) then
  (if (v2) = (40) then
  (Option.bind (rec 0 a0 ((v1) + (1)) (put_I σ a0 2 ((sg_I σ a0 2) + (1)))) fun p8 =>
  if (p8.1) = (0) then
  (some (0, p8.2))
  else
  (Option.bind (f_X6_takes N a0 (41) p8.2) fun p10 =>
  if (p10.1) = (0) then
  (some (0, p10.2))
  else
  (some (1, p10.2))))
  else
  (Option.bind (rec 4 a0 ((v1) + (1)) (put_I σ a0 2 ((sg_I σ a0 2) + (1)))) fun p5 =>
  if (p5.1) = (0) then
  (some (0, p5.2))
  else
  (Option.bind (f_X3_write a0 ((-10)) p5.2) fun p7 =>
  some (1, p7))))
  else
  (some (0, σ))
def f_X3_isUnit_o (N : Nat) (rec : Nat → Nat → Int32 → Sg → Option (Int32 × Sg)) (a0 : Nat) (x1 : Int32) (σ : Sg) : Option (Int32 × Sg) :=
  Option.bind (f_X6_nextSign N a0  σ) fun p1 =>
  if (p1.1) = (33) then
  (f_X3_isUnit_B39 N rec a0 (x1) (p1.1) (p1.2))
  else
  (if (p1.1) = (40) then
  (f_X3_isUnit_B39 N rec a0 (x1) (p1.1) (p1.2))
  else
  (Option.bind (rec 6 a0 (x1) p1.2) fun p13 =>
  if (p13.1) = (0) then
  (some (0, p13.2))
  else
  (Option.bind (rec 5 a0 (x1) p13.2) fun p15 =>
  if (p15.1) = (0) then
  (some (0, p15.2))
  else
  (some (1, p15.2)))))
set_option maxHeartbeats 4000000 in
set_option maxRecDepth 100000 in
theorem t_X3_isUnit_B39 {N : Nat} {rec : Nat → Nat → Int32 → Sg → Option (Int32 × Sg)} {d : Nat} {a0 : Nat} {Γ : Gm} {σ0 : Sg} {r : (Int32 × Sg)} (C1 : CM Γ cX3_isUnit RX3 3 (some .boolean) (d + 1 + 5) ((d + 1) * 24 + 112) 0 0 (fun r_ τ_ => (r_ = some (vi r.1) ∧ (r.1 = 0 ∨ r.1 = 1)) ∧ τ_ = r.2 ∧ sg_T τ_ ∧ sg_E σ0 τ_)) (hr_X3_isSum : ∀ (a0 : Nat) (x1 : Int32) (σ : Sg), sg_T σ → is_A σ a0 3 → ∀ r : (Int32 × Sg), rec 6 a0 x1 σ = some r → Ct yX3_isSum cX3_isSum 4 (some .boolean) (d + 5) (d * 24 + 112) 0 0 [vr (some a0), vi x1] σ (fun r_ τ_ => (r_ = some (vi r.1) ∧ (r.1 = 0 ∨ r.1 = 1)) ∧ τ_ = r.2 ∧ sg_T τ_ ∧ sg_E σ τ_)) (hr_X3_isCompared : ∀ (a0 : Nat) (x1 : Int32) (σ : Sg), sg_T σ → is_A σ a0 3 → ∀ r : (Int32 × Sg), rec 5 a0 x1 σ = some r → Ct yX3_isCompared cX3_isCompared 3 (some .boolean) (d + 5) (d * 24 + 112) 0 0 [vr (some a0), vi x1] σ (fun r_ τ_ => (r_ = some (vi r.1) ∧ (r.1 = 0 ∨ r.1 = 1)) ∧ τ_ = r.2 ∧ sg_T τ_ ∧ sg_E σ τ_)) (hr_X3_isCondition : ∀ (a0 : Nat) (x1 : Int32) (σ : Sg), sg_T σ → is_A σ a0 3 → ∀ r : (Int32 × Sg), rec 0 a0 x1 σ = some r → Ct yX3_isCondition cX3_isCondition 2 (some .boolean) (d + 5) (d * 24 + 112) 0 0 [vr (some a0), vi x1] σ (fun r_ τ_ => (r_ = some (vi r.1) ∧ (r.1 = 0 ∨ r.1 = 1)) ∧ τ_ = r.2 ∧ sg_T τ_ ∧ sg_E σ τ_)) (hr_X3_isUnit : ∀ (a0 : Nat) (x1 : Int32) (σ : Sg), sg_T σ → is_A σ a0 3 → ∀ r : (Int32 × Sg), rec 4 a0 x1 σ = some r → Ct yX3_isUnit cX3_isUnit 3 (some .boolean) (d + 5) (d * 24 + 112) 0 0 [vr (some a0), vi x1] σ (fun r_ τ_ => (r_ = some (vi r.1) ∧ (r.1 = 0 ∨ r.1 = 1)) ∧ τ_ = r.2 ∧ sg_T τ_ ∧ sg_E σ τ_)) (v1 : Int32) (v2 : Int32) (σ : Sg) (hT : sg_T σ) (hE : sg_E σ0 σ) (h0 : is_A σ a0 3) (hf : f_X3_isUnit_B39 N rec a0  v1 v2 σ = some r) : J_ Γ 39 [(0, vr (some a0)), (1, vi (v1)), (2, vi (v2))] [] σ 0 0 := by
  have C0 := C1.1
  unfold f_X3_isUnit_B39 at hf
  refine J_iload_n (q := 40) C0 1 rfl rfl dX3_isUnit_39 rfl ?_
  refine J_bipush (q := 42) (v := 6) C0 dX3_isUnit_40 rfl rfl ?_
  refine J_icmp_lt (t := 47) (q := 45) C0 dX3_isUnit_42 (by decide) rfl hf (fun c3 hf => ?_) (fun c3 hf => ?_)
  · refine J_aload_n (q := 48) C0 0 rfl rfl dX3_isUnit_47 rfl trivial ?_
    refine J_dup (q := 49) C0 dX3_isUnit_48 rfl rfl ?_
    refine J_getI (q := 52) C0 fl_X3_74_3 rfl (h0) rfl dX3_isUnit_49 rfl ?_
    refine J_iconst (q := 53) (v := 1) C0 dX3_isUnit_52 rfl rfl ?_
    refine J_iadd (q := 54) C0 dX3_isUnit_53 rfl ?_
    refine J_putI (q := 57) C0 fl_X3_74_3 rfl (h0) rfl dX3_isUnit_54 rfl ?_
    refine J_iload_n (q := 58) C0 2 rfl rfl dX3_isUnit_57 rfl ?_
    refine J_bipush (q := 60) (v := 40) C0 dX3_isUnit_58 rfl rfl ?_
    refine J_icmp_ne (t := 88) (q := 63) C0 dX3_isUnit_60 (by decide) rfl hf (fun c4 hf => ?_) (fun c4 hf => ?_)
    · refine J_aload_n (q := 89) C0 0 rfl rfl dX3_isUnit_88 rfl trivial ?_
      refine J_iload_n (q := 90) C0 1 rfl rfl dX3_isUnit_89 rfl ?_
      refine J_iconst (q := 91) (v := 1) C0 dX3_isUnit_90 rfl rfl ?_
      refine J_iadd (q := 92) C0 dX3_isUnit_91 rfl ?_
      refine K_some hf (fun p5 hp5 hf => ?_)
      refine J_callV (q := 95) (ci := 3) (as := [vi ((v1) + (1))]) (rest := []) C0 rfl ((h0).putI) (hr_X3_isUnit a0 ((v1) + (1)) (put_I σ a0 2 ((sg_I σ a0 2) + (1))) ((hT).putI) ((h0).putI)  _ hp5) ml_X3_isUnit lk_X3_71 im_X3_isUnit se_X3_isUnit rfl (by decide) dX3_isUnit_92 rfl rfl rfl (by simp [ac_]) C1.room (by omega) (by omega) (by decide) (by decide) (fun r_ τ_ hQ => ?_)
      obtain ⟨⟨rfl, zp5⟩, rfl, Tp5, Ep5⟩ := hQ
      show J_ Γ 95 [(0, vr (some a0)), (1, vi (v1)), (2, vi (v2))] [vi (p5.1)] p5.2 0 0
      refine J_if_ne (t := 100) (q := 98) C0 dX3_isUnit_95 (by decide) rfl hf (fun c6 hf => ?_) (fun c6 hf => ?_)
      · refine J_aload_n (q := 101) C0 0 rfl rfl dX3_isUnit_100 rfl trivial ?_
        refine J_bipush (q := 103) (v := (-10)) C0 dX3_isUnit_101 rfl rfl ?_
        refine K_some hf (fun p7 hp7 hf => ?_)
        refine J_callV (q := 106) (ci := 3) (as := [vi ((-10))]) (rest := []) C0 rfl ((Ep5.at (h0).putI)) (t_X3_write a0 ((-10)) (Tp5) ((Ep5.at (h0).putI))  hp7) ml_X3_write lk_X3_60 im_X3_write se_X3_write rfl (by decide) dX3_isUnit_103 rfl rfl rfl (by simp [ac_]) C1.room (by omega) (by omega) (by decide) (by decide) (fun r_ τ_ hQ => ?_)
        obtain ⟨rfl, ht_, Tp7, Ep7⟩ := hQ; have ht_ := ht_.symm; subst ht_
        show J_ Γ 106 [(0, vr (some a0)), (1, vi (v1)), (2, vi (v2))] [] p7 0 0
        refine J_iconst (q := 107) (v := 1) C0 dX3_isUnit_106 rfl rfl ?_
        obtain rfl := Option.some.inj hf; exact J_zret C1 dX3_isUnit_107 rfl (Or.inr rfl) (Nat.zero_le _) (Nat.zero_le _) ⟨⟨rfl, (Or.inr rfl)⟩, rfl, Tp7, (((hE).putI).tr Ep5).tr Ep7⟩
      · refine J_iconst (q := 99) (v := 0) C0 dX3_isUnit_98 rfl rfl ?_
        obtain rfl := Option.some.inj hf; exact J_zret C1 dX3_isUnit_99 rfl (Or.inl rfl) (Nat.zero_le _) (Nat.zero_le _) ⟨⟨rfl, (Or.inl rfl)⟩, rfl, Tp5, ((hE).putI).tr Ep5⟩
    · refine J_aload_n (q := 64) C0 0 rfl rfl dX3_isUnit_63 rfl trivial ?_
      refine J_iload_n (q := 65) C0 1 rfl rfl dX3_isUnit_64 rfl ?_
      refine J_iconst (q := 66) (v := 1) C0 dX3_isUnit_65 rfl rfl ?_
      refine J_iadd (q := 67) C0 dX3_isUnit_66 rfl ?_
      refine K_some hf (fun p8 hp8 hf => ?_)
      refine J_callV (q := 70) (ci := 3) (as := [vi ((v1) + (1))]) (rest := []) C0 rfl ((h0).putI) (hr_X3_isCondition a0 ((v1) + (1)) (put_I σ a0 2 ((sg_I σ a0 2) + (1))) ((hT).putI) ((h0).putI)  _ hp8) ml_X3_isCondition lk_X3_37 im_X3_isCondition se_X3_isCondition rfl (by decide) dX3_isUnit_67 rfl rfl rfl (by simp [ac_]) C1.room (by omega) (by omega) (by decide) (by decide) (fun r_ τ_ hQ => ?_)
      obtain ⟨⟨rfl, zp8⟩, rfl, Tp8, Ep8⟩ := hQ
      show J_ Γ 70 [(0, vr (some a0)), (1, vi (v1)), (2, vi (v2))] [vi (p8.1)] p8.2 0 0
      refine J_if_eq (t := 86) (q := 73) C0 dX3_isUnit_70 (by decide) rfl hf (fun c9 hf => ?_) (fun c9 hf => ?_)
      · refine J_iconst (q := 87) (v := 0) C0 dX3_isUnit_86 rfl rfl ?_
        obtain rfl := Option.some.inj hf; exact J_zret C1 dX3_isUnit_87 rfl (Or.inl rfl) (Nat.zero_le _) (Nat.zero_le _) ⟨⟨rfl, (Or.inl rfl)⟩, rfl, Tp8, ((hE).putI).tr Ep8⟩
      · refine J_aload_n (q := 74) C0 0 rfl rfl dX3_isUnit_73 rfl trivial ?_
        refine J_bipush (q := 76) (v := 41) C0 dX3_isUnit_74 rfl rfl ?_
        refine K_some hf (fun p10 hp10 hf => ?_)
        refine J_callU (q := 79) (ci := 3) (as := [vi (41)]) (rest := []) C0 rfl ((Ep8.at (h0).putI)) (t_X6_takes_k3 N a0 (41) (Tp8) ((Ep8.at (h0).putI))  hp10) rfl ml_X6_takes lk_X3_23 sa_654 im_X6_takes se_655 rfl (by decide) dX3_isUnit_76 rfl rfl rfl (by simp [ac_]) C1.room (by omega) (by omega) (by decide) (by decide) (fun r_ τ_ hQ => ?_)
        obtain ⟨⟨rfl, zp10⟩, rfl, Tp10, Ep10⟩ := hQ
        show J_ Γ 79 [(0, vr (some a0)), (1, vi (v1)), (2, vi (v2))] [vi (p10.1)] p10.2 0 0
        refine J_if_eq (t := 86) (q := 82) C0 dX3_isUnit_79 (by decide) rfl hf (fun c11 hf => ?_) (fun c11 hf => ?_)
        · refine J_iconst (q := 87) (v := 0) C0 dX3_isUnit_86 rfl rfl ?_
          obtain rfl := Option.some.inj hf; exact J_zret C1 dX3_isUnit_87 rfl (Or.inl rfl) (Nat.zero_le _) (Nat.zero_le _) ⟨⟨rfl, (Or.inl rfl)⟩, rfl, Tp10, (((hE).putI).tr Ep8).tr Ep10⟩
        · refine J_iconst (q := 83) (v := 1) C0 dX3_isUnit_82 rfl rfl ?_
          refine J_goto (q := 87) C0 dX3_isUnit_83 (by decide) ?_
          obtain rfl := Option.some.inj hf; exact J_zret C1 dX3_isUnit_87 rfl (Or.inr rfl) (Nat.zero_le _) (Nat.zero_le _) ⟨⟨rfl, (Or.inr rfl)⟩, rfl, Tp10, (((hE).putI).tr Ep8).tr Ep10⟩
  · refine J_iconst (q := 46) (v := 0) C0 dX3_isUnit_45 rfl rfl ?_
    obtain rfl := Option.some.inj hf; exact J_zret C1 dX3_isUnit_46 rfl (Or.inl rfl) (Nat.zero_le _) (Nat.zero_le _) ⟨⟨rfl, (Or.inl rfl)⟩, rfl, hT, hE⟩
set_option maxHeartbeats 4000000 in
set_option maxRecDepth 100000 in
theorem t_X3_isUnit_o (N : Nat) {rec : Nat → Nat → Int32 → Sg → Option (Int32 × Sg)} {d : Nat} (hr_X3_isSum : ∀ (a0 : Nat) (x1 : Int32) (σ : Sg), sg_T σ → is_A σ a0 3 → ∀ r : (Int32 × Sg), rec 6 a0 x1 σ = some r → Ct yX3_isSum cX3_isSum 4 (some .boolean) (d + 5) (d * 24 + 112) 0 0 [vr (some a0), vi x1] σ (fun r_ τ_ => (r_ = some (vi r.1) ∧ (r.1 = 0 ∨ r.1 = 1)) ∧ τ_ = r.2 ∧ sg_T τ_ ∧ sg_E σ τ_)) (hr_X3_isCompared : ∀ (a0 : Nat) (x1 : Int32) (σ : Sg), sg_T σ → is_A σ a0 3 → ∀ r : (Int32 × Sg), rec 5 a0 x1 σ = some r → Ct yX3_isCompared cX3_isCompared 3 (some .boolean) (d + 5) (d * 24 + 112) 0 0 [vr (some a0), vi x1] σ (fun r_ τ_ => (r_ = some (vi r.1) ∧ (r.1 = 0 ∨ r.1 = 1)) ∧ τ_ = r.2 ∧ sg_T τ_ ∧ sg_E σ τ_)) (hr_X3_isCondition : ∀ (a0 : Nat) (x1 : Int32) (σ : Sg), sg_T σ → is_A σ a0 3 → ∀ r : (Int32 × Sg), rec 0 a0 x1 σ = some r → Ct yX3_isCondition cX3_isCondition 2 (some .boolean) (d + 5) (d * 24 + 112) 0 0 [vr (some a0), vi x1] σ (fun r_ τ_ => (r_ = some (vi r.1) ∧ (r.1 = 0 ∨ r.1 = 1)) ∧ τ_ = r.2 ∧ sg_T τ_ ∧ sg_E σ τ_)) (hr_X3_isUnit : ∀ (a0 : Nat) (x1 : Int32) (σ : Sg), sg_T σ → is_A σ a0 3 → ∀ r : (Int32 × Sg), rec 4 a0 x1 σ = some r → Ct yX3_isUnit cX3_isUnit 3 (some .boolean) (d + 5) (d * 24 + 112) 0 0 [vr (some a0), vi x1] σ (fun r_ τ_ => (r_ = some (vi r.1) ∧ (r.1 = 0 ∨ r.1 = 1)) ∧ τ_ = r.2 ∧ sg_T τ_ ∧ sg_E σ τ_)) (a0 : Nat) (x1 : Int32) {σ : Sg} (hT : sg_T σ) (h0 : is_A σ a0 3) {r : (Int32 × Sg)} (hf : f_X3_isUnit_o N rec a0 x1 σ = some r) : Ct yX3_isUnit cX3_isUnit 3 (some .boolean) (d + 1 + 5) ((d + 1) * 24 + 112) 0 0 [vr (some a0), vi x1] σ (fun r_ τ_ => (r_ = some (vi r.1) ∧ (r.1 = 0 ∨ r.1 = 1)) ∧ τ_ = r.2 ∧ sg_T τ_ ∧ sg_E σ τ_) := by
  refine Ct.of (by decide +kernel) (Nat.le_of_ble_eq_true rfl) (fun Γ C1 => ?_)
  have C0 := C1.1
  have hE : sg_E σ σ := sg_E.rf
  unfold f_X3_isUnit_o at hf
  show J_ Γ 0 [(0, vr (some a0)), (1, vi (x1))] [] σ 0 0
  refine J_aload_n (q := 1) C0 0 rfl rfl dX3_isUnit_0 rfl trivial ?_
  refine K_some hf (fun p1 hp1 hf => ?_)
  refine J_callU (q := 4) (ci := 3) (as := []) (rest := []) C0 rfl (h0) (t_X6_nextSign_k3 N a0  (hT) (h0)  hp1) rfl ml_X6_nextSign lk_X3_27 sa_657 im_X6_nextSign se_658 rfl (by decide) dX3_isUnit_1 rfl rfl rfl (by simp [ac_]) C1.room (by omega) (by omega) (by decide) (by decide) (fun r_ τ_ hQ => ?_)
  obtain ⟨rfl, rfl, Tp1, Ep1⟩ := hQ
  show J_ Γ 4 [(0, vr (some a0)), (1, vi (x1))] [vi (p1.1)] p1.2 0 0
  refine J_istore_n (q := 5) (lv' := [(2, vi (p1.1)), (0, vr (some a0)), (1, vi (x1))]) C0 rfl (G_nl C1 (by decide)) dX3_isUnit_4 rfl rfl ?_
  refine J_iload_n (q := 6) C0 0 rfl rfl dX3_isUnit_5 rfl ?_
  refine J_bipush (q := 8) (v := 33) C0 dX3_isUnit_6 rfl rfl ?_
  refine J_icmp_eq (t := 39) (q := 11) C0 dX3_isUnit_8 (by decide) rfl hf (fun c2 hf => ?_) (fun c2 hf => ?_)
  · refine J_sub (lv' := [(0, vr (some a0)), (1, vi (x1)), (2, vi (p1.1))]) [1, 2, 0] rfl ?_
    exact t_X3_isUnit_B39 C1 hr_X3_isSum hr_X3_isCompared hr_X3_isCondition hr_X3_isUnit    (x1) (p1.1) (p1.2) (Tp1) ((hE).tr Ep1) ((Ep1.at h0))  hf
  · refine J_iload_n (q := 12) C0 0 rfl rfl dX3_isUnit_11 rfl ?_
    refine J_bipush (q := 14) (v := 40) C0 dX3_isUnit_12 rfl rfl ?_
    refine J_icmp_eq (t := 39) (q := 17) C0 dX3_isUnit_14 (by decide) rfl hf (fun c12 hf => ?_) (fun c12 hf => ?_)
    · refine J_sub (lv' := [(0, vr (some a0)), (1, vi (x1)), (2, vi (p1.1))]) [1, 2, 0] rfl ?_
      exact t_X3_isUnit_B39 C1 hr_X3_isSum hr_X3_isCompared hr_X3_isCondition hr_X3_isUnit    (x1) (p1.1) (p1.2) (Tp1) ((hE).tr Ep1) ((Ep1.at h0))  hf
    · refine J_aload_n (q := 18) C0 1 rfl rfl dX3_isUnit_17 rfl trivial ?_
      refine J_iload_n (q := 19) C0 2 rfl rfl dX3_isUnit_18 rfl ?_
      refine K_some hf (fun p13 hp13 hf => ?_)
      refine J_callV (q := 22) (ci := 3) (as := [vi (x1)]) (rest := []) C0 rfl ((Ep1.at h0)) (hr_X3_isSum a0 (x1) p1.2 (Tp1) ((Ep1.at h0))  _ hp13) ml_X3_isSum lk_X3_43 im_X3_isSum se_X3_isSum rfl (by decide) dX3_isUnit_19 rfl rfl rfl (by simp [ac_]) C1.room (by omega) (by omega) (by decide) (by decide) (fun r_ τ_ hQ => ?_)
      obtain ⟨⟨rfl, zp13⟩, rfl, Tp13, Ep13⟩ := hQ
      show J_ Γ 22 [(2, vi (p1.1)), (0, vr (some a0)), (1, vi (x1))] [vi (p13.1)] p13.2 0 0
      refine J_if_eq (t := 37) (q := 25) C0 dX3_isUnit_22 (by decide) rfl hf (fun c14 hf => ?_) (fun c14 hf => ?_)
      · refine J_iconst (q := 38) (v := 0) C0 dX3_isUnit_37 rfl rfl ?_
        obtain rfl := Option.some.inj hf; exact J_zret C1 dX3_isUnit_38 rfl (Or.inl rfl) (Nat.zero_le _) (Nat.zero_le _) ⟨⟨rfl, (Or.inl rfl)⟩, rfl, Tp13, ((hE).tr Ep1).tr Ep13⟩
      · refine J_aload_n (q := 26) C0 1 rfl rfl dX3_isUnit_25 rfl trivial ?_
        refine J_iload_n (q := 27) C0 2 rfl rfl dX3_isUnit_26 rfl ?_
        refine K_some hf (fun p15 hp15 hf => ?_)
        refine J_callV (q := 30) (ci := 3) (as := [vi (x1)]) (rest := []) C0 rfl ((Ep13.at (Ep1.at h0))) (hr_X3_isCompared a0 (x1) p13.2 (Tp13) ((Ep13.at (Ep1.at h0)))  _ hp15) ml_X3_isCompared lk_X3_49 im_X3_isCompared se_X3_isCompared rfl (by decide) dX3_isUnit_27 rfl rfl rfl (by simp [ac_]) C1.room (by omega) (by omega) (by decide) (by decide) (fun r_ τ_ hQ => ?_)
        obtain ⟨⟨rfl, zp15⟩, rfl, Tp15, Ep15⟩ := hQ
        show J_ Γ 30 [(2, vi (p1.1)), (0, vr (some a0)), (1, vi (x1))] [vi (p15.1)] p15.2 0 0
        refine J_if_eq (t := 37) (q := 33) C0 dX3_isUnit_30 (by decide) rfl hf (fun c16 hf => ?_) (fun c16 hf => ?_)
        · refine J_iconst (q := 38) (v := 0) C0 dX3_isUnit_37 rfl rfl ?_
          obtain rfl := Option.some.inj hf; exact J_zret C1 dX3_isUnit_38 rfl (Or.inl rfl) (Nat.zero_le _) (Nat.zero_le _) ⟨⟨rfl, (Or.inl rfl)⟩, rfl, Tp15, (((hE).tr Ep1).tr Ep13).tr Ep15⟩
        · refine J_iconst (q := 34) (v := 1) C0 dX3_isUnit_33 rfl rfl ?_
          refine J_goto (q := 38) C0 dX3_isUnit_34 (by decide) ?_
          obtain rfl := Option.some.inj hf; exact J_zret C1 dX3_isUnit_38 rfl (Or.inr rfl) (Nat.zero_le _) (Nat.zero_le _) ⟨⟨rfl, (Or.inr rfl)⟩, rfl, Tp15, (((hE).tr Ep1).tr Ep13).tr Ep15⟩
def f_X3_isCompared_o (N : Nat) (rec : Nat → Nat → Int32 → Sg → Option (Int32 × Sg)) (a0 : Nat) (x1 : Int32) (σ : Sg) : Option (Int32 × Sg) :=
  Option.bind (f_X6_nextSign N a0  σ) fun p1 =>
  Option.bind (f_X3_isComparison (p1.1) ) fun p2 =>
  if (p2) = (0) then
  (some (0, p1.2))
  else
  (Option.bind (rec 6 a0 (x1) (put_I p1.2 a0 2 ((sg_I p1.2 a0 2) + (1)))) fun p4 =>
  if (p4.1) = (0) then
  (some (0, p4.2))
  else
  (Option.bind (f_X2_signCode (p1.1) ) fun p6 =>
  Option.bind (f_X3_write a0 (p6) p4.2) fun p7 =>
  some (1, p7)))
set_option maxHeartbeats 4000000 in
set_option maxRecDepth 100000 in
theorem t_X3_isCompared_o (N : Nat) {rec : Nat → Nat → Int32 → Sg → Option (Int32 × Sg)} {d : Nat} (hr_X3_isSum : ∀ (a0 : Nat) (x1 : Int32) (σ : Sg), sg_T σ → is_A σ a0 3 → ∀ r : (Int32 × Sg), rec 6 a0 x1 σ = some r → Ct yX3_isSum cX3_isSum 4 (some .boolean) (d + 5) (d * 24 + 112) 0 0 [vr (some a0), vi x1] σ (fun r_ τ_ => (r_ = some (vi r.1) ∧ (r.1 = 0 ∨ r.1 = 1)) ∧ τ_ = r.2 ∧ sg_T τ_ ∧ sg_E σ τ_)) (a0 : Nat) (x1 : Int32) {σ : Sg} (hT : sg_T σ) (h0 : is_A σ a0 3) {r : (Int32 × Sg)} (hf : f_X3_isCompared_o N rec a0 x1 σ = some r) : Ct yX3_isCompared cX3_isCompared 3 (some .boolean) (d + 1 + 5) ((d + 1) * 24 + 112) 0 0 [vr (some a0), vi x1] σ (fun r_ τ_ => (r_ = some (vi r.1) ∧ (r.1 = 0 ∨ r.1 = 1)) ∧ τ_ = r.2 ∧ sg_T τ_ ∧ sg_E σ τ_) := by
  refine Ct.of (by decide +kernel) (Nat.le_of_ble_eq_true rfl) (fun Γ C1 => ?_)
  have C0 := C1.1
  have hE : sg_E σ σ := sg_E.rf
  unfold f_X3_isCompared_o at hf
  show J_ Γ 0 [(0, vr (some a0)), (1, vi (x1))] [] σ 0 0
  refine J_aload_n (q := 1) C0 0 rfl rfl dX3_isCompared_0 rfl trivial ?_
  refine K_some hf (fun p1 hp1 hf => ?_)
  refine J_callU (q := 4) (ci := 3) (as := []) (rest := []) C0 rfl (h0) (t_X6_nextSign_k3 N a0  (hT) (h0)  hp1) rfl ml_X6_nextSign lk_X3_27 sa_657 im_X6_nextSign se_658 rfl (by decide) dX3_isCompared_1 rfl rfl rfl (by simp [ac_]) C1.room (by omega) (by omega) (by decide) (by decide) (fun r_ τ_ hQ => ?_)
  obtain ⟨rfl, rfl, Tp1, Ep1⟩ := hQ
  show J_ Γ 4 [(0, vr (some a0)), (1, vi (x1))] [vi (p1.1)] p1.2 0 0
  refine J_istore_n (q := 5) (lv' := [(2, vi (p1.1)), (0, vr (some a0)), (1, vi (x1))]) C0 rfl (G_nl C1 (by decide)) dX3_isCompared_4 rfl rfl ?_
  refine J_iload_n (q := 6) C0 0 rfl rfl dX3_isCompared_5 rfl ?_
  refine K_some hf (fun p2 hp2 hf => ?_)
  refine J_callS (q := 9) (as := [vi (p1.1)]) (rest := []) C0 (t_X3_isComparison (p1.1)  hp2) ml_X3_isComparison lk_X3_46 sm_X3_isComparison dX3_isCompared_6 rfl rfl rfl (by simp [ac_]) C1.room (by omega) (by omega) (by decide) (by decide) (fun r_ τ_ hQ => ?_)
  obtain ⟨⟨rfl, zp2⟩, ht_⟩ := hQ; have ht_ := ht_.symm; subst ht_
  show J_ Γ 9 [(2, vi (p1.1)), (0, vr (some a0)), (1, vi (x1))] [vi (p2)] p1.2 0 0
  refine J_if_ne (t := 14) (q := 12) C0 dX3_isCompared_9 (by decide) rfl hf (fun c3 hf => ?_) (fun c3 hf => ?_)
  · refine J_aload_n (q := 15) C0 1 rfl rfl dX3_isCompared_14 rfl trivial ?_
    refine J_dup (q := 16) C0 dX3_isCompared_15 rfl rfl ?_
    refine J_getI (q := 19) C0 fl_X3_74_3 rfl ((Ep1.at h0)) rfl dX3_isCompared_16 rfl ?_
    refine J_iconst (q := 20) (v := 1) C0 dX3_isCompared_19 rfl rfl ?_
    refine J_iadd (q := 21) C0 dX3_isCompared_20 rfl ?_
    refine J_putI (q := 24) C0 fl_X3_74_3 rfl ((Ep1.at h0)) rfl dX3_isCompared_21 rfl ?_
    refine J_aload_n (q := 25) C0 1 rfl rfl dX3_isCompared_24 rfl trivial ?_
    refine J_iload_n (q := 26) C0 2 rfl rfl dX3_isCompared_25 rfl ?_
    refine K_some hf (fun p4 hp4 hf => ?_)
    refine J_callV (q := 29) (ci := 3) (as := [vi (x1)]) (rest := []) C0 rfl (((Ep1.at h0)).putI) (hr_X3_isSum a0 (x1) (put_I p1.2 a0 2 ((sg_I p1.2 a0 2) + (1))) ((Tp1).putI) (((Ep1.at h0)).putI)  _ hp4) ml_X3_isSum lk_X3_43 im_X3_isSum se_X3_isSum rfl (by decide) dX3_isCompared_26 rfl rfl rfl (by simp [ac_]) C1.room (by omega) (by omega) (by decide) (by decide) (fun r_ τ_ hQ => ?_)
    obtain ⟨⟨rfl, zp4⟩, rfl, Tp4, Ep4⟩ := hQ
    show J_ Γ 29 [(2, vi (p1.1)), (0, vr (some a0)), (1, vi (x1))] [vi (p4.1)] p4.2 0 0
    refine J_if_ne (t := 34) (q := 32) C0 dX3_isCompared_29 (by decide) rfl hf (fun c5 hf => ?_) (fun c5 hf => ?_)
    · refine J_aload_n (q := 35) C0 1 rfl rfl dX3_isCompared_34 rfl trivial ?_
      refine J_iload_n (q := 36) C0 0 rfl rfl dX3_isCompared_35 rfl ?_
      refine K_some hf (fun p6 hp6 hf => ?_)
      refine J_callS (q := 39) (as := [vi (p1.1)]) (rest := [vr (some a0)]) C0 (t_X2_signCode (p1.1)  hp6) ml_X2_signCode lk_X3_67 sm_X2_signCode dX3_isCompared_36 rfl rfl rfl (by simp [ac_]) C1.room (by omega) (by omega) (by decide) (by decide) (fun r_ τ_ hQ => ?_)
      obtain ⟨rfl, ht_⟩ := hQ; have ht_ := ht_.symm; subst ht_
      show J_ Γ 39 [(2, vi (p1.1)), (0, vr (some a0)), (1, vi (x1))] [vi (p6), vr (some a0)] p4.2 0 0
      refine K_some hf (fun p7 hp7 hf => ?_)
      refine J_callV (q := 42) (ci := 3) (as := [vi (p6)]) (rest := []) C0 rfl ((Ep4.at ((Ep1.at h0)).putI)) (t_X3_write a0 (p6) (Tp4) ((Ep4.at ((Ep1.at h0)).putI))  hp7) ml_X3_write lk_X3_60 im_X3_write se_X3_write rfl (by decide) dX3_isCompared_39 rfl rfl rfl (by simp [ac_]) C1.room (by omega) (by omega) (by decide) (by decide) (fun r_ τ_ hQ => ?_)
      obtain ⟨rfl, ht_, Tp7, Ep7⟩ := hQ; have ht_ := ht_.symm; subst ht_
      show J_ Γ 42 [(2, vi (p1.1)), (0, vr (some a0)), (1, vi (x1))] [] p7 0 0
      refine J_iconst (q := 43) (v := 1) C0 dX3_isCompared_42 rfl rfl ?_
      obtain rfl := Option.some.inj hf; exact J_zret C1 dX3_isCompared_43 rfl (Or.inr rfl) (Nat.zero_le _) (Nat.zero_le _) ⟨⟨rfl, (Or.inr rfl)⟩, rfl, Tp7, ((((hE).tr Ep1).putI).tr Ep4).tr Ep7⟩
    · refine J_iconst (q := 33) (v := 0) C0 dX3_isCompared_32 rfl rfl ?_
      obtain rfl := Option.some.inj hf; exact J_zret C1 dX3_isCompared_33 rfl (Or.inl rfl) (Nat.zero_le _) (Nat.zero_le _) ⟨⟨rfl, (Or.inl rfl)⟩, rfl, Tp4, (((hE).tr Ep1).putI).tr Ep4⟩
  · refine J_iconst (q := 13) (v := 0) C0 dX3_isCompared_12 rfl rfl ?_
    obtain rfl := Option.some.inj hf; exact J_zret C1 dX3_isCompared_13 rfl (Or.inl rfl) (Nat.zero_le _) (Nat.zero_le _) ⟨⟨rfl, (Or.inl rfl)⟩, rfl, Tp1, (hE).tr Ep1⟩
def f_X3_isSum_B36 (N : Nat) (rec : Nat → Nat → Int32 → Sg → Option (Int32 × Sg)) (a0 : Nat) (k17 : Int32 → Int32 → Int32 → Sg → Option (Int32 × Sg)) (v1 : Int32) (v2 : Int32) (v3 : Int32) (σ : Sg) : Option (Int32 × Sg) :=
  Option.bind (rec 7 a0 (v1) (put_I σ a0 2 ((sg_I σ a0 2) + (1)))) fun p6 =>
  if (p6.1) = (0) then
  (some (0, p6.2))
  else
  (Option.bind (f_X2_signCode (v2) ) fun p8 =>
  Option.bind (f_X3_write a0 (p8) p6.2) fun p9 =>
  Option.bind (f_X6_nextSign N a0  p9) fun p10 =>
  k17 (v1) (p10.1) (v3 + 1) (p10.2))
def f_X3_isSum_L17 (N : Nat) (rec : Nat → Nat → Int32 → Sg → Option (Int32 × Sg)) (a0 : Nat) : Nat → Int32 → Int32 → Int32 → Sg → Option (Int32 × Sg)
  | 0, _, _, _, _ => none
  | n + 1, v1, v2, v3, σ =>
  if (240) < (v3) then
  (some (1, σ))
  else
  (if (v2) = (43) then
  (f_X3_isSum_B36 N rec a0 (f_X3_isSum_L17 N rec a0 n) (v1) (v2) (v3) σ)
  else
  (if (v2) = (45) then
  (f_X3_isSum_B36 N rec a0 (f_X3_isSum_L17 N rec a0 n) (v1) (v2) (v3) σ)
  else
  (some (1, σ))))
def f_X3_isSum_o (N : Nat) (rec : Nat → Nat → Int32 → Sg → Option (Int32 × Sg)) (a0 : Nat) (x1 : Int32) (σ : Sg) : Option (Int32 × Sg) :=
  Option.bind (rec 7 a0 (x1) σ) fun p1 =>
  if (p1.1) = (0) then
  (some (0, p1.2))
  else
  (Option.bind (f_X6_nextSign N a0  p1.2) fun p3 =>
  f_X3_isSum_L17 N rec a0 N (x1) (p3.1) (0) (p3.2))
set_option maxHeartbeats 4000000 in
set_option maxRecDepth 100000 in
theorem t_X3_isSum_B36 {N : Nat} {rec : Nat → Nat → Int32 → Sg → Option (Int32 × Sg)} {d : Nat} {a0 : Nat} {Γ : Gm} {σ0 : Sg} {r : (Int32 × Sg)} (C1 : CM Γ cX3_isSum RX3 4 (some .boolean) (d + 1 + 5) ((d + 1) * 24 + 112) 0 0 (fun r_ τ_ => (r_ = some (vi r.1) ∧ (r.1 = 0 ∨ r.1 = 1)) ∧ τ_ = r.2 ∧ sg_T τ_ ∧ sg_E σ0 τ_)) (hr_X3_isTerm : ∀ (a0 : Nat) (x1 : Int32) (σ : Sg), sg_T σ → is_A σ a0 3 → ∀ r : (Int32 × Sg), rec 7 a0 x1 σ = some r → Ct yX3_isTerm cX3_isTerm 4 (some .boolean) (d + 5) (d * 24 + 112) 0 0 [vr (some a0), vi x1] σ (fun r_ τ_ => (r_ = some (vi r.1) ∧ (r.1 = 0 ∨ r.1 = 1)) ∧ τ_ = r.2 ∧ sg_T τ_ ∧ sg_E σ τ_)) (k17 : Int32 → Int32 → Int32 → Sg → Option (Int32 × Sg)) (hk17 : ∀ (v1 : Int32) (v2 : Int32) (v3 : Int32) (σ : Sg), sg_T σ → sg_E σ0 σ → is_A σ a0 3 → k17 v1 v2 v3 σ = some r → J_ Γ 17 [(0, vr (some a0)), (1, vi v1), (2, vi v2), (3, vi v3)] [] σ 0 0) (v1 : Int32) (v2 : Int32) (v3 : Int32) (σ : Sg) (hT : sg_T σ) (hE : sg_E σ0 σ) (h0 : is_A σ a0 3) (hf : f_X3_isSum_B36 N rec a0 k17  v1 v2 v3 σ = some r) : J_ Γ 36 [(0, vr (some a0)), (1, vi (v1)), (2, vi (v2)), (3, vi (v3))] [] σ 0 0 := by
  have C0 := C1.1
  unfold f_X3_isSum_B36 at hf
  refine J_aload_n (q := 37) C0 0 rfl rfl dX3_isSum_36 rfl trivial ?_
  refine J_dup (q := 38) C0 dX3_isSum_37 rfl rfl ?_
  refine J_getI (q := 41) C0 fl_X3_74_3 rfl (h0) rfl dX3_isSum_38 rfl ?_
  refine J_iconst (q := 42) (v := 1) C0 dX3_isSum_41 rfl rfl ?_
  refine J_iadd (q := 43) C0 dX3_isSum_42 rfl ?_
  refine J_putI (q := 46) C0 fl_X3_74_3 rfl (h0) rfl dX3_isSum_43 rfl ?_
  refine J_aload_n (q := 47) C0 0 rfl rfl dX3_isSum_46 rfl trivial ?_
  refine J_iload_n (q := 48) C0 1 rfl rfl dX3_isSum_47 rfl ?_
  refine K_some hf (fun p6 hp6 hf => ?_)
  refine J_callV (q := 51) (ci := 3) (as := [vi (v1)]) (rest := []) C0 rfl ((h0).putI) (hr_X3_isTerm a0 (v1) (put_I σ a0 2 ((sg_I σ a0 2) + (1))) ((hT).putI) ((h0).putI)  _ hp6) ml_X3_isTerm lk_X3_77 im_X3_isTerm se_X3_isTerm rfl (by decide) dX3_isSum_48 rfl rfl rfl (by simp [ac_]) C1.room (by omega) (by omega) (by decide) (by decide) (fun r_ τ_ hQ => ?_)
  obtain ⟨⟨rfl, zp6⟩, rfl, Tp6, Ep6⟩ := hQ
  show J_ Γ 51 [(0, vr (some a0)), (1, vi (v1)), (2, vi (v2)), (3, vi (v3))] [vi (p6.1)] p6.2 0 0
  refine J_if_ne (t := 56) (q := 54) C0 dX3_isSum_51 (by decide) rfl hf (fun c7 hf => ?_) (fun c7 hf => ?_)
  · refine J_aload_n (q := 57) C0 0 rfl rfl dX3_isSum_56 rfl trivial ?_
    refine J_iload_n (q := 58) C0 2 rfl rfl dX3_isSum_57 rfl ?_
    refine K_some hf (fun p8 hp8 hf => ?_)
    refine J_callS (q := 61) (as := [vi (v2)]) (rest := [vr (some a0)]) C0 (t_X2_signCode (v2)  hp8) ml_X2_signCode lk_X3_67 sm_X2_signCode dX3_isSum_58 rfl rfl rfl (by simp [ac_]) C1.room (by omega) (by omega) (by decide) (by decide) (fun r_ τ_ hQ => ?_)
    obtain ⟨rfl, ht_⟩ := hQ; have ht_ := ht_.symm; subst ht_
    show J_ Γ 61 [(0, vr (some a0)), (1, vi (v1)), (2, vi (v2)), (3, vi (v3))] [vi (p8), vr (some a0)] p6.2 0 0
    refine K_some hf (fun p9 hp9 hf => ?_)
    refine J_callV (q := 64) (ci := 3) (as := [vi (p8)]) (rest := []) C0 rfl ((Ep6.at (h0).putI)) (t_X3_write a0 (p8) (Tp6) ((Ep6.at (h0).putI))  hp9) ml_X3_write lk_X3_60 im_X3_write se_X3_write rfl (by decide) dX3_isSum_61 rfl rfl rfl (by simp [ac_]) C1.room (by omega) (by omega) (by decide) (by decide) (fun r_ τ_ hQ => ?_)
    obtain ⟨rfl, ht_, Tp9, Ep9⟩ := hQ; have ht_ := ht_.symm; subst ht_
    show J_ Γ 64 [(0, vr (some a0)), (1, vi (v1)), (2, vi (v2)), (3, vi (v3))] [] p9 0 0
    refine J_aload_n (q := 65) C0 0 rfl rfl dX3_isSum_64 rfl trivial ?_
    refine K_some hf (fun p10 hp10 hf => ?_)
    refine J_callU (q := 68) (ci := 3) (as := []) (rest := []) C0 rfl ((Ep9.at (Ep6.at (h0).putI))) (t_X6_nextSign_k3 N a0  (Tp9) ((Ep9.at (Ep6.at (h0).putI)))  hp10) rfl ml_X6_nextSign lk_X3_27 sa_657 im_X6_nextSign se_658 rfl (by decide) dX3_isSum_65 rfl rfl rfl (by simp [ac_]) C1.room (by omega) (by omega) (by decide) (by decide) (fun r_ τ_ hQ => ?_)
    obtain ⟨rfl, rfl, Tp10, Ep10⟩ := hQ
    show J_ Γ 68 [(0, vr (some a0)), (1, vi (v1)), (2, vi (v2)), (3, vi (v3))] [vi (p10.1)] p10.2 0 0
    refine J_istore_n (q := 69) (lv' := [(2, vi (p10.1)), (0, vr (some a0)), (1, vi (v1)), (3, vi (v3))]) C0 rfl (G_nl C1 (by decide)) dX3_isSum_68 rfl rfl ?_
    refine J_iinc (q := 72) (v := v3 + 1) (lv' := [(3, vi (v3 + 1)), (2, vi (p10.1)), (0, vr (some a0)), (1, vi (v1))]) C0 3 rfl rfl (G_nl C1 (by decide)) dX3_isSum_69 rfl rfl ?_
    refine J_goto (q := 17) C0 dX3_isSum_72 (by decide) ?_
    refine J_sub (lv' := [(0, vr (some a0)), (1, vi (v1)), (2, vi (p10.1)), (3, vi (v3 + 1))]) [2, 3, 1, 0] rfl ?_
    exact hk17 (v1) (p10.1) (v3 + 1) (p10.2) (Tp10) (((((hE).putI).tr Ep6).tr Ep9).tr Ep10)  ((Ep10.at (Ep9.at (Ep6.at (h0).putI))))  hf
  · refine J_iconst (q := 55) (v := 0) C0 dX3_isSum_54 rfl rfl ?_
    obtain rfl := Option.some.inj hf; exact J_zret C1 dX3_isSum_55 rfl (Or.inl rfl) (Nat.zero_le _) (Nat.zero_le _) ⟨⟨rfl, (Or.inl rfl)⟩, rfl, Tp6, ((hE).putI).tr Ep6⟩
set_option maxHeartbeats 4000000 in
set_option maxRecDepth 100000 in
theorem t_X3_isSum_L17 {N : Nat} {rec : Nat → Nat → Int32 → Sg → Option (Int32 × Sg)} {d : Nat} {a0 : Nat} {Γ : Gm} {σ0 : Sg} {r : (Int32 × Sg)} (C1 : CM Γ cX3_isSum RX3 4 (some .boolean) (d + 1 + 5) ((d + 1) * 24 + 112) 0 0 (fun r_ τ_ => (r_ = some (vi r.1) ∧ (r.1 = 0 ∨ r.1 = 1)) ∧ τ_ = r.2 ∧ sg_T τ_ ∧ sg_E σ0 τ_)) (hr_X3_isTerm : ∀ (a0 : Nat) (x1 : Int32) (σ : Sg), sg_T σ → is_A σ a0 3 → ∀ r : (Int32 × Sg), rec 7 a0 x1 σ = some r → Ct yX3_isTerm cX3_isTerm 4 (some .boolean) (d + 5) (d * 24 + 112) 0 0 [vr (some a0), vi x1] σ (fun r_ τ_ => (r_ = some (vi r.1) ∧ (r.1 = 0 ∨ r.1 = 1)) ∧ τ_ = r.2 ∧ sg_T τ_ ∧ sg_E σ τ_)) : ∀ (n : Nat) (v1 : Int32) (v2 : Int32) (v3 : Int32) (σ : Sg), sg_T σ → sg_E σ0 σ → is_A σ a0 3 → f_X3_isSum_L17 N rec a0  n v1 v2 v3 σ = some r → J_ Γ 17 [(0, vr (some a0)), (1, vi (v1)), (2, vi (v2)), (3, vi (v3))] [] σ 0 0 := by
  have C0 := C1.1
  intro n
  induction n with
  | zero => intro v1 v2 v3 σ hT hE h0  hf; unfold f_X3_isSum_L17 at hf; cases hf
  | succ n ih =>
    intro v1 v2 v3 σ hT hE h0  hf
    rw [f_X3_isSum_L17] at hf
    refine J_iload_n (q := 18) C0 3 rfl rfl dX3_isSum_17 rfl ?_
    refine J_sipush (q := 21) (v := 240) C0 dX3_isSum_18 rfl rfl ?_
    refine J_icmp_gt (t := 75) (q := 24) C0 dX3_isSum_21 (by decide) rfl hf (fun c4 hf => ?_) (fun c4 hf => ?_)
    · refine J_iconst (q := 76) (v := 1) C0 dX3_isSum_75 rfl rfl ?_
      obtain rfl := Option.some.inj hf; exact J_zret C1 dX3_isSum_76 rfl (Or.inr rfl) (Nat.zero_le _) (Nat.zero_le _) ⟨⟨rfl, (Or.inr rfl)⟩, rfl, hT, hE⟩
    · refine J_iload_n (q := 25) C0 2 rfl rfl dX3_isSum_24 rfl ?_
      refine J_bipush (q := 27) (v := 43) C0 dX3_isSum_25 rfl rfl ?_
      refine J_icmp_eq (t := 36) (q := 30) C0 dX3_isSum_27 (by decide) rfl hf (fun c5 hf => ?_) (fun c5 hf => ?_)
      · exact t_X3_isSum_B36 C1 hr_X3_isTerm  (f_X3_isSum_L17 N rec a0 n)  ih  (v1) (v2) (v3) σ (hT) (hE) (h0)  hf
      · refine J_iload_n (q := 31) C0 2 rfl rfl dX3_isSum_30 rfl ?_
        refine J_bipush (q := 33) (v := 45) C0 dX3_isSum_31 rfl rfl ?_
        refine J_icmp_ne (t := 75) (q := 36) C0 dX3_isSum_33 (by decide) rfl hf (fun c11 hf => ?_) (fun c11 hf => ?_)
        · refine J_iconst (q := 76) (v := 1) C0 dX3_isSum_75 rfl rfl ?_
          obtain rfl := Option.some.inj hf; exact J_zret C1 dX3_isSum_76 rfl (Or.inr rfl) (Nat.zero_le _) (Nat.zero_le _) ⟨⟨rfl, (Or.inr rfl)⟩, rfl, hT, hE⟩
        · exact t_X3_isSum_B36 C1 hr_X3_isTerm  (f_X3_isSum_L17 N rec a0 n)  ih  (v1) (v2) (v3) σ (hT) (hE) (h0)  hf
set_option maxHeartbeats 4000000 in
set_option maxRecDepth 100000 in
theorem t_X3_isSum_o (N : Nat) {rec : Nat → Nat → Int32 → Sg → Option (Int32 × Sg)} {d : Nat} (hr_X3_isTerm : ∀ (a0 : Nat) (x1 : Int32) (σ : Sg), sg_T σ → is_A σ a0 3 → ∀ r : (Int32 × Sg), rec 7 a0 x1 σ = some r → Ct yX3_isTerm cX3_isTerm 4 (some .boolean) (d + 5) (d * 24 + 112) 0 0 [vr (some a0), vi x1] σ (fun r_ τ_ => (r_ = some (vi r.1) ∧ (r.1 = 0 ∨ r.1 = 1)) ∧ τ_ = r.2 ∧ sg_T τ_ ∧ sg_E σ τ_)) (a0 : Nat) (x1 : Int32) {σ : Sg} (hT : sg_T σ) (h0 : is_A σ a0 3) {r : (Int32 × Sg)} (hf : f_X3_isSum_o N rec a0 x1 σ = some r) : Ct yX3_isSum cX3_isSum 4 (some .boolean) (d + 1 + 5) ((d + 1) * 24 + 112) 0 0 [vr (some a0), vi x1] σ (fun r_ τ_ => (r_ = some (vi r.1) ∧ (r.1 = 0 ∨ r.1 = 1)) ∧ τ_ = r.2 ∧ sg_T τ_ ∧ sg_E σ τ_) := by
  refine Ct.of (by decide +kernel) (Nat.le_of_ble_eq_true rfl) (fun Γ C1 => ?_)
  have C0 := C1.1
  have hE : sg_E σ σ := sg_E.rf
  unfold f_X3_isSum_o at hf
  show J_ Γ 0 [(0, vr (some a0)), (1, vi (x1))] [] σ 0 0
  refine J_aload_n (q := 1) C0 0 rfl rfl dX3_isSum_0 rfl trivial ?_
  refine J_iload_n (q := 2) C0 1 rfl rfl dX3_isSum_1 rfl ?_
  refine K_some hf (fun p1 hp1 hf => ?_)
  refine J_callV (q := 5) (ci := 3) (as := [vi (x1)]) (rest := []) C0 rfl (h0) (hr_X3_isTerm a0 (x1) σ (hT) (h0)  _ hp1) ml_X3_isTerm lk_X3_77 im_X3_isTerm se_X3_isTerm rfl (by decide) dX3_isSum_2 rfl rfl rfl (by simp [ac_]) C1.room (by omega) (by omega) (by decide) (by decide) (fun r_ τ_ hQ => ?_)
  obtain ⟨⟨rfl, zp1⟩, rfl, Tp1, Ep1⟩ := hQ
  show J_ Γ 5 [(0, vr (some a0)), (1, vi (x1))] [vi (p1.1)] p1.2 0 0
  refine J_if_ne (t := 10) (q := 8) C0 dX3_isSum_5 (by decide) rfl hf (fun c2 hf => ?_) (fun c2 hf => ?_)
  · refine J_aload_n (q := 11) C0 0 rfl rfl dX3_isSum_10 rfl trivial ?_
    refine K_some hf (fun p3 hp3 hf => ?_)
    refine J_callU (q := 14) (ci := 3) (as := []) (rest := []) C0 rfl ((Ep1.at h0)) (t_X6_nextSign_k3 N a0  (Tp1) ((Ep1.at h0))  hp3) rfl ml_X6_nextSign lk_X3_27 sa_657 im_X6_nextSign se_658 rfl (by decide) dX3_isSum_11 rfl rfl rfl (by simp [ac_]) C1.room (by omega) (by omega) (by decide) (by decide) (fun r_ τ_ hQ => ?_)
    obtain ⟨rfl, rfl, Tp3, Ep3⟩ := hQ
    show J_ Γ 14 [(0, vr (some a0)), (1, vi (x1))] [vi (p3.1)] p3.2 0 0
    refine J_istore_n (q := 15) (lv' := [(2, vi (p3.1)), (0, vr (some a0)), (1, vi (x1))]) C0 rfl (G_nl C1 (by decide)) dX3_isSum_14 rfl rfl ?_
    refine J_iconst (q := 16) (v := 0) C0 dX3_isSum_15 rfl rfl ?_
    refine J_istore_n (q := 17) (lv' := [(3, vi (0)), (2, vi (p3.1)), (0, vr (some a0)), (1, vi (x1))]) C0 rfl (G_nl C1 (by decide)) dX3_isSum_16 rfl rfl ?_
    refine J_sub (lv' := [(0, vr (some a0)), (1, vi (x1)), (2, vi (p3.1)), (3, vi (0))]) [2, 3, 1, 0] rfl ?_
    exact t_X3_isSum_L17 C1 hr_X3_isTerm    N (x1) (p3.1) (0) (p3.2) (Tp3) (((hE).tr Ep1).tr Ep3) ((Ep3.at (Ep1.at h0)))  hf
  · refine J_iconst (q := 9) (v := 0) C0 dX3_isSum_8 rfl rfl ?_
    obtain rfl := Option.some.inj hf; exact J_zret C1 dX3_isSum_9 rfl (Or.inl rfl) (Nat.zero_le _) (Nat.zero_le _) ⟨⟨rfl, (Or.inl rfl)⟩, rfl, Tp1, (hE).tr Ep1⟩
def f_X3_isTerm_B36 (N : Nat) (rec : Nat → Nat → Int32 → Sg → Option (Int32 × Sg)) (a0 : Nat) (k17 : Int32 → Int32 → Int32 → Sg → Option (Int32 × Sg)) (v1 : Int32) (v2 : Int32) (v3 : Int32) (σ : Sg) : Option (Int32 × Sg) :=
  Option.bind (rec 8 a0 (v1) (put_I σ a0 2 ((sg_I σ a0 2) + (1)))) fun p6 =>
  if (p6.1) = (0) then
  (some (0, p6.2))
  else
  (Option.bind (f_X2_signCode (v2) ) fun p8 =>
  Option.bind (f_X3_write a0 (p8) p6.2) fun p9 =>
  Option.bind (f_X6_nextSign N a0  p9) fun p10 =>
  k17 (v1) (p10.1) (v3 + 1) (p10.2))
def f_X3_isTerm_L17 (N : Nat) (rec : Nat → Nat → Int32 → Sg → Option (Int32 × Sg)) (a0 : Nat) : Nat → Int32 → Int32 → Int32 → Sg → Option (Int32 × Sg)
  | 0, _, _, _, _ => none
  | n + 1, v1, v2, v3, σ =>
  if (240) < (v3) then
  (some (1, σ))
  else
  (if (v2) = (42) then
  (f_X3_isTerm_B36 N rec a0 (f_X3_isTerm_L17 N rec a0 n) (v1) (v2) (v3) σ)
  else
  (if (v2) = (47) then
  (f_X3_isTerm_B36 N rec a0 (f_X3_isTerm_L17 N rec a0 n) (v1) (v2) (v3) σ)
  else
  (some (1, σ))))
def f_X3_isTerm_o (N : Nat) (rec : Nat → Nat → Int32 → Sg → Option (Int32 × Sg)) (a0 : Nat) (x1 : Int32) (σ : Sg) : Option (Int32 × Sg) :=
  Option.bind (rec 8 a0 (x1) σ) fun p1 =>
  if (p1.1) = (0) then
  (some (0, p1.2))
  else
  (Option.bind (f_X6_nextSign N a0  p1.2) fun p3 =>
  f_X3_isTerm_L17 N rec a0 N (x1) (p3.1) (0) (p3.2))
set_option maxHeartbeats 4000000 in
set_option maxRecDepth 100000 in
theorem t_X3_isTerm_B36 {N : Nat} {rec : Nat → Nat → Int32 → Sg → Option (Int32 × Sg)} {d : Nat} {a0 : Nat} {Γ : Gm} {σ0 : Sg} {r : (Int32 × Sg)} (C1 : CM Γ cX3_isTerm RX3 4 (some .boolean) (d + 1 + 5) ((d + 1) * 24 + 112) 0 0 (fun r_ τ_ => (r_ = some (vi r.1) ∧ (r.1 = 0 ∨ r.1 = 1)) ∧ τ_ = r.2 ∧ sg_T τ_ ∧ sg_E σ0 τ_)) (hr_X3_isAtom : ∀ (a0 : Nat) (x1 : Int32) (σ : Sg), sg_T σ → is_A σ a0 3 → ∀ r : (Int32 × Sg), rec 8 a0 x1 σ = some r → Ct yX3_isAtom cX3_isAtom 5 (some .boolean) (d + 5) (d * 24 + 112) 0 0 [vr (some a0), vi x1] σ (fun r_ τ_ => (r_ = some (vi r.1) ∧ (r.1 = 0 ∨ r.1 = 1)) ∧ τ_ = r.2 ∧ sg_T τ_ ∧ sg_E σ τ_)) (k17 : Int32 → Int32 → Int32 → Sg → Option (Int32 × Sg)) (hk17 : ∀ (v1 : Int32) (v2 : Int32) (v3 : Int32) (σ : Sg), sg_T σ → sg_E σ0 σ → is_A σ a0 3 → k17 v1 v2 v3 σ = some r → J_ Γ 17 [(0, vr (some a0)), (1, vi v1), (2, vi v2), (3, vi v3)] [] σ 0 0) (v1 : Int32) (v2 : Int32) (v3 : Int32) (σ : Sg) (hT : sg_T σ) (hE : sg_E σ0 σ) (h0 : is_A σ a0 3) (hf : f_X3_isTerm_B36 N rec a0 k17  v1 v2 v3 σ = some r) : J_ Γ 36 [(0, vr (some a0)), (1, vi (v1)), (2, vi (v2)), (3, vi (v3))] [] σ 0 0 := by
  have C0 := C1.1
  unfold f_X3_isTerm_B36 at hf
  refine J_aload_n (q := 37) C0 0 rfl rfl dX3_isTerm_36 rfl trivial ?_
  refine J_dup (q := 38) C0 dX3_isTerm_37 rfl rfl ?_
  refine J_getI (q := 41) C0 fl_X3_74_3 rfl (h0) rfl dX3_isTerm_38 rfl ?_
  refine J_iconst (q := 42) (v := 1) C0 dX3_isTerm_41 rfl rfl ?_
  refine J_iadd (q := 43) C0 dX3_isTerm_42 rfl ?_
  refine J_putI (q := 46) C0 fl_X3_74_3 rfl (h0) rfl dX3_isTerm_43 rfl ?_
  refine J_aload_n (q := 47) C0 0 rfl rfl dX3_isTerm_46 rfl trivial ?_
  refine J_iload_n (q := 48) C0 1 rfl rfl dX3_isTerm_47 rfl ?_
  refine K_some hf (fun p6 hp6 hf => ?_)
  refine J_callV (q := 51) (ci := 3) (as := [vi (v1)]) (rest := []) C0 rfl ((h0).putI) (hr_X3_isAtom a0 (v1) (put_I σ a0 2 ((sg_I σ a0 2) + (1))) ((hT).putI) ((h0).putI)  _ hp6) ml_X3_isAtom lk_X3_80 im_X3_isAtom se_X3_isAtom rfl (by decide) dX3_isTerm_48 rfl rfl rfl (by simp [ac_]) C1.room (by omega) (by omega) (by decide) (by decide) (fun r_ τ_ hQ => ?_)
  obtain ⟨⟨rfl, zp6⟩, rfl, Tp6, Ep6⟩ := hQ
  show J_ Γ 51 [(0, vr (some a0)), (1, vi (v1)), (2, vi (v2)), (3, vi (v3))] [vi (p6.1)] p6.2 0 0
  refine J_if_ne (t := 56) (q := 54) C0 dX3_isTerm_51 (by decide) rfl hf (fun c7 hf => ?_) (fun c7 hf => ?_)
  · refine J_aload_n (q := 57) C0 0 rfl rfl dX3_isTerm_56 rfl trivial ?_
    refine J_iload_n (q := 58) C0 2 rfl rfl dX3_isTerm_57 rfl ?_
    refine K_some hf (fun p8 hp8 hf => ?_)
    refine J_callS (q := 61) (as := [vi (v2)]) (rest := [vr (some a0)]) C0 (t_X2_signCode (v2)  hp8) ml_X2_signCode lk_X3_67 sm_X2_signCode dX3_isTerm_58 rfl rfl rfl (by simp [ac_]) C1.room (by omega) (by omega) (by decide) (by decide) (fun r_ τ_ hQ => ?_)
    obtain ⟨rfl, ht_⟩ := hQ; have ht_ := ht_.symm; subst ht_
    show J_ Γ 61 [(0, vr (some a0)), (1, vi (v1)), (2, vi (v2)), (3, vi (v3))] [vi (p8), vr (some a0)] p6.2 0 0
    refine K_some hf (fun p9 hp9 hf => ?_)
    refine J_callV (q := 64) (ci := 3) (as := [vi (p8)]) (rest := []) C0 rfl ((Ep6.at (h0).putI)) (t_X3_write a0 (p8) (Tp6) ((Ep6.at (h0).putI))  hp9) ml_X3_write lk_X3_60 im_X3_write se_X3_write rfl (by decide) dX3_isTerm_61 rfl rfl rfl (by simp [ac_]) C1.room (by omega) (by omega) (by decide) (by decide) (fun r_ τ_ hQ => ?_)
    obtain ⟨rfl, ht_, Tp9, Ep9⟩ := hQ; have ht_ := ht_.symm; subst ht_
    show J_ Γ 64 [(0, vr (some a0)), (1, vi (v1)), (2, vi (v2)), (3, vi (v3))] [] p9 0 0
    refine J_aload_n (q := 65) C0 0 rfl rfl dX3_isTerm_64 rfl trivial ?_
    refine K_some hf (fun p10 hp10 hf => ?_)
    refine J_callU (q := 68) (ci := 3) (as := []) (rest := []) C0 rfl ((Ep9.at (Ep6.at (h0).putI))) (t_X6_nextSign_k3 N a0  (Tp9) ((Ep9.at (Ep6.at (h0).putI)))  hp10) rfl ml_X6_nextSign lk_X3_27 sa_657 im_X6_nextSign se_658 rfl (by decide) dX3_isTerm_65 rfl rfl rfl (by simp [ac_]) C1.room (by omega) (by omega) (by decide) (by decide) (fun r_ τ_ hQ => ?_)
    obtain ⟨rfl, rfl, Tp10, Ep10⟩ := hQ
    show J_ Γ 68 [(0, vr (some a0)), (1, vi (v1)), (2, vi (v2)), (3, vi (v3))] [vi (p10.1)] p10.2 0 0
    refine J_istore_n (q := 69) (lv' := [(2, vi (p10.1)), (0, vr (some a0)), (1, vi (v1)), (3, vi (v3))]) C0 rfl (G_nl C1 (by decide)) dX3_isTerm_68 rfl rfl ?_
    refine J_iinc (q := 72) (v := v3 + 1) (lv' := [(3, vi (v3 + 1)), (2, vi (p10.1)), (0, vr (some a0)), (1, vi (v1))]) C0 3 rfl rfl (G_nl C1 (by decide)) dX3_isTerm_69 rfl rfl ?_
    refine J_goto (q := 17) C0 dX3_isTerm_72 (by decide) ?_
    refine J_sub (lv' := [(0, vr (some a0)), (1, vi (v1)), (2, vi (p10.1)), (3, vi (v3 + 1))]) [2, 3, 1, 0] rfl ?_
    exact hk17 (v1) (p10.1) (v3 + 1) (p10.2) (Tp10) (((((hE).putI).tr Ep6).tr Ep9).tr Ep10)  ((Ep10.at (Ep9.at (Ep6.at (h0).putI))))  hf
  · refine J_iconst (q := 55) (v := 0) C0 dX3_isTerm_54 rfl rfl ?_
    obtain rfl := Option.some.inj hf; exact J_zret C1 dX3_isTerm_55 rfl (Or.inl rfl) (Nat.zero_le _) (Nat.zero_le _) ⟨⟨rfl, (Or.inl rfl)⟩, rfl, Tp6, ((hE).putI).tr Ep6⟩
set_option maxHeartbeats 4000000 in
set_option maxRecDepth 100000 in
theorem t_X3_isTerm_L17 {N : Nat} {rec : Nat → Nat → Int32 → Sg → Option (Int32 × Sg)} {d : Nat} {a0 : Nat} {Γ : Gm} {σ0 : Sg} {r : (Int32 × Sg)} (C1 : CM Γ cX3_isTerm RX3 4 (some .boolean) (d + 1 + 5) ((d + 1) * 24 + 112) 0 0 (fun r_ τ_ => (r_ = some (vi r.1) ∧ (r.1 = 0 ∨ r.1 = 1)) ∧ τ_ = r.2 ∧ sg_T τ_ ∧ sg_E σ0 τ_)) (hr_X3_isAtom : ∀ (a0 : Nat) (x1 : Int32) (σ : Sg), sg_T σ → is_A σ a0 3 → ∀ r : (Int32 × Sg), rec 8 a0 x1 σ = some r → Ct yX3_isAtom cX3_isAtom 5 (some .boolean) (d + 5) (d * 24 + 112) 0 0 [vr (some a0), vi x1] σ (fun r_ τ_ => (r_ = some (vi r.1) ∧ (r.1 = 0 ∨ r.1 = 1)) ∧ τ_ = r.2 ∧ sg_T τ_ ∧ sg_E σ τ_)) : ∀ (n : Nat) (v1 : Int32) (v2 : Int32) (v3 : Int32) (σ : Sg), sg_T σ → sg_E σ0 σ → is_A σ a0 3 → f_X3_isTerm_L17 N rec a0  n v1 v2 v3 σ = some r → J_ Γ 17 [(0, vr (some a0)), (1, vi (v1)), (2, vi (v2)), (3, vi (v3))] [] σ 0 0 := by
  have C0 := C1.1
  intro n
  induction n with
  | zero => intro v1 v2 v3 σ hT hE h0  hf; unfold f_X3_isTerm_L17 at hf; cases hf
  | succ n ih =>
    intro v1 v2 v3 σ hT hE h0  hf
    rw [f_X3_isTerm_L17] at hf
    refine J_iload_n (q := 18) C0 3 rfl rfl dX3_isTerm_17 rfl ?_
    refine J_sipush (q := 21) (v := 240) C0 dX3_isTerm_18 rfl rfl ?_
    refine J_icmp_gt (t := 75) (q := 24) C0 dX3_isTerm_21 (by decide) rfl hf (fun c4 hf => ?_) (fun c4 hf => ?_)
    · refine J_iconst (q := 76) (v := 1) C0 dX3_isTerm_75 rfl rfl ?_
      obtain rfl := Option.some.inj hf; exact J_zret C1 dX3_isTerm_76 rfl (Or.inr rfl) (Nat.zero_le _) (Nat.zero_le _) ⟨⟨rfl, (Or.inr rfl)⟩, rfl, hT, hE⟩
    · refine J_iload_n (q := 25) C0 2 rfl rfl dX3_isTerm_24 rfl ?_
      refine J_bipush (q := 27) (v := 42) C0 dX3_isTerm_25 rfl rfl ?_
      refine J_icmp_eq (t := 36) (q := 30) C0 dX3_isTerm_27 (by decide) rfl hf (fun c5 hf => ?_) (fun c5 hf => ?_)
      · exact t_X3_isTerm_B36 C1 hr_X3_isAtom  (f_X3_isTerm_L17 N rec a0 n)  ih  (v1) (v2) (v3) σ (hT) (hE) (h0)  hf
      · refine J_iload_n (q := 31) C0 2 rfl rfl dX3_isTerm_30 rfl ?_
        refine J_bipush (q := 33) (v := 47) C0 dX3_isTerm_31 rfl rfl ?_
        refine J_icmp_ne (t := 75) (q := 36) C0 dX3_isTerm_33 (by decide) rfl hf (fun c11 hf => ?_) (fun c11 hf => ?_)
        · refine J_iconst (q := 76) (v := 1) C0 dX3_isTerm_75 rfl rfl ?_
          obtain rfl := Option.some.inj hf; exact J_zret C1 dX3_isTerm_76 rfl (Or.inr rfl) (Nat.zero_le _) (Nat.zero_le _) ⟨⟨rfl, (Or.inr rfl)⟩, rfl, hT, hE⟩
        · exact t_X3_isTerm_B36 C1 hr_X3_isAtom  (f_X3_isTerm_L17 N rec a0 n)  ih  (v1) (v2) (v3) σ (hT) (hE) (h0)  hf
set_option maxHeartbeats 4000000 in
set_option maxRecDepth 100000 in
theorem t_X3_isTerm_o (N : Nat) {rec : Nat → Nat → Int32 → Sg → Option (Int32 × Sg)} {d : Nat} (hr_X3_isAtom : ∀ (a0 : Nat) (x1 : Int32) (σ : Sg), sg_T σ → is_A σ a0 3 → ∀ r : (Int32 × Sg), rec 8 a0 x1 σ = some r → Ct yX3_isAtom cX3_isAtom 5 (some .boolean) (d + 5) (d * 24 + 112) 0 0 [vr (some a0), vi x1] σ (fun r_ τ_ => (r_ = some (vi r.1) ∧ (r.1 = 0 ∨ r.1 = 1)) ∧ τ_ = r.2 ∧ sg_T τ_ ∧ sg_E σ τ_)) (a0 : Nat) (x1 : Int32) {σ : Sg} (hT : sg_T σ) (h0 : is_A σ a0 3) {r : (Int32 × Sg)} (hf : f_X3_isTerm_o N rec a0 x1 σ = some r) : Ct yX3_isTerm cX3_isTerm 4 (some .boolean) (d + 1 + 5) ((d + 1) * 24 + 112) 0 0 [vr (some a0), vi x1] σ (fun r_ τ_ => (r_ = some (vi r.1) ∧ (r.1 = 0 ∨ r.1 = 1)) ∧ τ_ = r.2 ∧ sg_T τ_ ∧ sg_E σ τ_) := by
  refine Ct.of (by decide +kernel) (Nat.le_of_ble_eq_true rfl) (fun Γ C1 => ?_)
  have C0 := C1.1
  have hE : sg_E σ σ := sg_E.rf
  unfold f_X3_isTerm_o at hf
  show J_ Γ 0 [(0, vr (some a0)), (1, vi (x1))] [] σ 0 0
  refine J_aload_n (q := 1) C0 0 rfl rfl dX3_isTerm_0 rfl trivial ?_
  refine J_iload_n (q := 2) C0 1 rfl rfl dX3_isTerm_1 rfl ?_
  refine K_some hf (fun p1 hp1 hf => ?_)
  refine J_callV (q := 5) (ci := 3) (as := [vi (x1)]) (rest := []) C0 rfl (h0) (hr_X3_isAtom a0 (x1) σ (hT) (h0)  _ hp1) ml_X3_isAtom lk_X3_80 im_X3_isAtom se_X3_isAtom rfl (by decide) dX3_isTerm_2 rfl rfl rfl (by simp [ac_]) C1.room (by omega) (by omega) (by decide) (by decide) (fun r_ τ_ hQ => ?_)
  obtain ⟨⟨rfl, zp1⟩, rfl, Tp1, Ep1⟩ := hQ
  show J_ Γ 5 [(0, vr (some a0)), (1, vi (x1))] [vi (p1.1)] p1.2 0 0
  refine J_if_ne (t := 10) (q := 8) C0 dX3_isTerm_5 (by decide) rfl hf (fun c2 hf => ?_) (fun c2 hf => ?_)
  · refine J_aload_n (q := 11) C0 0 rfl rfl dX3_isTerm_10 rfl trivial ?_
    refine K_some hf (fun p3 hp3 hf => ?_)
    refine J_callU (q := 14) (ci := 3) (as := []) (rest := []) C0 rfl ((Ep1.at h0)) (t_X6_nextSign_k3 N a0  (Tp1) ((Ep1.at h0))  hp3) rfl ml_X6_nextSign lk_X3_27 sa_657 im_X6_nextSign se_658 rfl (by decide) dX3_isTerm_11 rfl rfl rfl (by simp [ac_]) C1.room (by omega) (by omega) (by decide) (by decide) (fun r_ τ_ hQ => ?_)
    obtain ⟨rfl, rfl, Tp3, Ep3⟩ := hQ
    show J_ Γ 14 [(0, vr (some a0)), (1, vi (x1))] [vi (p3.1)] p3.2 0 0
    refine J_istore_n (q := 15) (lv' := [(2, vi (p3.1)), (0, vr (some a0)), (1, vi (x1))]) C0 rfl (G_nl C1 (by decide)) dX3_isTerm_14 rfl rfl ?_
    refine J_iconst (q := 16) (v := 0) C0 dX3_isTerm_15 rfl rfl ?_
    refine J_istore_n (q := 17) (lv' := [(3, vi (0)), (2, vi (p3.1)), (0, vr (some a0)), (1, vi (x1))]) C0 rfl (G_nl C1 (by decide)) dX3_isTerm_16 rfl rfl ?_
    refine J_sub (lv' := [(0, vr (some a0)), (1, vi (x1)), (2, vi (p3.1)), (3, vi (0))]) [2, 3, 1, 0] rfl ?_
    exact t_X3_isTerm_L17 C1 hr_X3_isAtom    N (x1) (p3.1) (0) (p3.2) (Tp3) (((hE).tr Ep1).tr Ep3) ((Ep3.at (Ep1.at h0)))  hf
  · refine J_iconst (q := 9) (v := 0) C0 dX3_isTerm_8 rfl rfl ?_
    obtain rfl := Option.some.inj hf; exact J_zret C1 dX3_isTerm_9 rfl (Or.inl rfl) (Nat.zero_le _) (Nat.zero_le _) ⟨⟨rfl, (Or.inl rfl)⟩, rfl, Tp1, (hE).tr Ep1⟩
def f_X3_isAtom_o (N : Nat) (rec : Nat → Nat → Int32 → Sg → Option (Int32 × Sg)) (a0 : Nat) (x1 : Int32) (σ : Sg) : Option (Int32 × Sg) :=
  Option.bind (f_X6_nextSign N a0  σ) fun p1 =>
  if (p1.1) = (91) then
  (if (x1) < (6) then
  (Option.bind (rec 6 a0 ((x1) + (1)) (put_I p1.2 a0 2 ((sg_I p1.2 a0 2) + (1)))) fun p11 =>
  if (p11.1) = (0) then
  (some (0, p11.2))
  else
  (Option.bind (f_X6_takes N a0 (93) p11.2) fun p13 =>
  if (p13.1) = (0) then
  (some (0, p13.2))
  else
  (some (1, p13.2))))
  else
  (some (0, p1.2)))
  else
  (Option.bind (f_X6_letterOf N (8) (p1.1) p1.2) fun p3 =>
  if (p3) < (0) then
  (Option.bind (f_X6_number N a0 (4) (0) (9999) p1.2) fun p5 =>
  if (p5.1) = ((-1)) then
  (some (0, p5.2))
  else
  (Option.bind (f_X3_write a0 (p5.1) p5.2) fun p7 =>
  some (1, p7)))
  else
  (Option.bind (f_X2_letterCode (p3) ) fun p8 =>
  Option.bind (f_X3_write a0 (p8) (put_I p1.2 a0 2 ((sg_I p1.2 a0 2) + (1)))) fun p9 =>
  some (1, p9)))
set_option maxHeartbeats 4000000 in
set_option maxRecDepth 100000 in
theorem t_X3_isAtom_o (N : Nat) {rec : Nat → Nat → Int32 → Sg → Option (Int32 × Sg)} {d : Nat} (hr_X3_isSum : ∀ (a0 : Nat) (x1 : Int32) (σ : Sg), sg_T σ → is_A σ a0 3 → ∀ r : (Int32 × Sg), rec 6 a0 x1 σ = some r → Ct yX3_isSum cX3_isSum 4 (some .boolean) (d + 5) (d * 24 + 112) 0 0 [vr (some a0), vi x1] σ (fun r_ τ_ => (r_ = some (vi r.1) ∧ (r.1 = 0 ∨ r.1 = 1)) ∧ τ_ = r.2 ∧ sg_T τ_ ∧ sg_E σ τ_)) (a0 : Nat) (x1 : Int32) {σ : Sg} (hT : sg_T σ) (h0 : is_A σ a0 3) {r : (Int32 × Sg)} (hf : f_X3_isAtom_o N rec a0 x1 σ = some r) : Ct yX3_isAtom cX3_isAtom 5 (some .boolean) (d + 1 + 5) ((d + 1) * 24 + 112) 0 0 [vr (some a0), vi x1] σ (fun r_ τ_ => (r_ = some (vi r.1) ∧ (r.1 = 0 ∨ r.1 = 1)) ∧ τ_ = r.2 ∧ sg_T τ_ ∧ sg_E σ τ_) := by
  refine Ct.of (by decide +kernel) (Nat.le_of_ble_eq_true rfl) (fun Γ C1 => ?_)
  have C0 := C1.1
  have hE : sg_E σ σ := sg_E.rf
  unfold f_X3_isAtom_o at hf
  show J_ Γ 0 [(0, vr (some a0)), (1, vi (x1))] [] σ 0 0
  refine J_aload_n (q := 1) C0 0 rfl rfl dX3_isAtom_0 rfl trivial ?_
  refine K_some hf (fun p1 hp1 hf => ?_)
  refine J_callU (q := 4) (ci := 3) (as := []) (rest := []) C0 rfl (h0) (t_X6_nextSign_k3 N a0  (hT) (h0)  hp1) rfl ml_X6_nextSign lk_X3_27 sa_657 im_X6_nextSign se_658 rfl (by decide) dX3_isAtom_1 rfl rfl rfl (by simp [ac_]) C1.room (by omega) (by omega) (by decide) (by decide) (fun r_ τ_ hQ => ?_)
  obtain ⟨rfl, rfl, Tp1, Ep1⟩ := hQ
  show J_ Γ 4 [(0, vr (some a0)), (1, vi (x1))] [vi (p1.1)] p1.2 0 0
  refine J_istore_n (q := 5) (lv' := [(2, vi (p1.1)), (0, vr (some a0)), (1, vi (x1))]) C0 rfl (G_nl C1 (by decide)) dX3_isAtom_4 rfl rfl ?_
  refine J_iload_n (q := 6) C0 0 rfl rfl dX3_isAtom_5 rfl ?_
  refine J_bipush (q := 8) (v := 91) C0 dX3_isAtom_6 rfl rfl ?_
  refine J_icmp_ne (t := 54) (q := 11) C0 dX3_isAtom_8 (by decide) rfl hf (fun c2 hf => ?_) (fun c2 hf => ?_)
  · refine J_ldcS (q := 56) (tx := "vplntf") (i := 8) C0 (by decide) dX3_isAtom_54 rfl ?_
    refine J_iload_n (q := 57) C0 0 rfl rfl dX3_isAtom_56 rfl ?_
    refine K_some hf (fun p3 hp3 hf => ?_)
    refine J_callSU (q := 60) (as := [vk (8), vi (p1.1)]) (rest := []) C0 (t_X6_letterOf N (8) (p1.1) (by omega) hp3) rfl ml_X6_letterOf lk_X3_85 sa_685 sm_X6_letterOf dX3_isAtom_57 rfl rfl rfl (by simp [ac_]) C1.room (by omega) (by omega) (by decide) (by decide) (fun r_ τ_ hQ => ?_)
    obtain ⟨rfl, ht_⟩ := hQ; have ht_ := ht_.symm; subst ht_
    show J_ Γ 60 [(2, vi (p1.1)), (0, vr (some a0)), (1, vi (x1))] [vi (p3)] p1.2 0 0
    refine J_istore_n (q := 61) (lv' := [(3, vi (p3)), (2, vi (p1.1)), (0, vr (some a0)), (1, vi (x1))]) C0 rfl (G_nl C1 (by decide)) dX3_isAtom_60 rfl rfl ?_
    refine J_iload_n (q := 62) C0 0 rfl rfl dX3_isAtom_61 rfl ?_
    refine J_if_lt (t := 85) (q := 65) C0 dX3_isAtom_62 (by decide) rfl hf (fun c4 hf => ?_) (fun c4 hf => ?_)
    · refine J_aload_n (q := 86) C0 2 rfl rfl dX3_isAtom_85 rfl trivial ?_
      refine J_iconst (q := 87) (v := 4) C0 dX3_isAtom_86 rfl rfl ?_
      refine J_iconst (q := 88) (v := 0) C0 dX3_isAtom_87 rfl rfl ?_
      refine J_sipush (q := 91) (v := 9999) C0 dX3_isAtom_88 rfl rfl ?_
      refine K_some hf (fun p5 hp5 hf => ?_)
      refine J_callU (q := 94) (ci := 3) (as := [vi (4), vi (0), vi (9999)]) (rest := []) C0 rfl ((Ep1.at h0)) (t_X6_number_k3 N a0 (4) (0) (9999) (Tp1) ((Ep1.at h0))  hp5) rfl ml_X6_number lk_X3_92 sa_694 im_X6_number se_695 rfl (by decide) dX3_isAtom_91 rfl rfl rfl (by simp [ac_]) C1.room (by omega) (by omega) (by decide) (by decide) (fun r_ τ_ hQ => ?_)
      obtain ⟨rfl, rfl, Tp5, Ep5⟩ := hQ
      show J_ Γ 94 [(3, vi (p3)), (2, vi (p1.1)), (0, vr (some a0)), (1, vi (x1))] [vi (p5.1)] p5.2 0 0
      refine J_istore (q := 96) (lv' := [(4, vi (p5.1)), (3, vi (p3)), (2, vi (p1.1)), (0, vr (some a0)), (1, vi (x1))]) C0 (G_nl C1 (by decide)) dX3_isAtom_94 rfl rfl ?_
      refine J_iload (q := 98) C0 0 rfl dX3_isAtom_96 rfl ?_
      refine J_iconst (q := 99) (v := (-1)) C0 dX3_isAtom_98 rfl rfl ?_
      refine J_icmp_ne (t := 104) (q := 102) C0 dX3_isAtom_99 (by decide) rfl hf (fun c6 hf => ?_) (fun c6 hf => ?_)
      · refine J_aload_n (q := 105) C0 3 rfl rfl dX3_isAtom_104 rfl trivial ?_
        refine J_iload (q := 107) C0 0 rfl dX3_isAtom_105 rfl ?_
        refine K_some hf (fun p7 hp7 hf => ?_)
        refine J_callV (q := 110) (ci := 3) (as := [vi (p5.1)]) (rest := []) C0 rfl ((Ep5.at (Ep1.at h0))) (t_X3_write a0 (p5.1) (Tp5) ((Ep5.at (Ep1.at h0)))  hp7) ml_X3_write lk_X3_60 im_X3_write se_X3_write rfl (by decide) dX3_isAtom_107 rfl rfl rfl (by simp [ac_]) C1.room (by omega) (by omega) (by decide) (by decide) (fun r_ τ_ hQ => ?_)
        obtain ⟨rfl, ht_, Tp7, Ep7⟩ := hQ; have ht_ := ht_.symm; subst ht_
        show J_ Γ 110 [(4, vi (p5.1)), (3, vi (p3)), (2, vi (p1.1)), (0, vr (some a0)), (1, vi (x1))] [] p7 0 0
        refine J_iconst (q := 111) (v := 1) C0 dX3_isAtom_110 rfl rfl ?_
        obtain rfl := Option.some.inj hf; exact J_zret C1 dX3_isAtom_111 rfl (Or.inr rfl) (Nat.zero_le _) (Nat.zero_le _) ⟨⟨rfl, (Or.inr rfl)⟩, rfl, Tp7, (((hE).tr Ep1).tr Ep5).tr Ep7⟩
      · refine J_iconst (q := 103) (v := 0) C0 dX3_isAtom_102 rfl rfl ?_
        obtain rfl := Option.some.inj hf; exact J_zret C1 dX3_isAtom_103 rfl (Or.inl rfl) (Nat.zero_le _) (Nat.zero_le _) ⟨⟨rfl, (Or.inl rfl)⟩, rfl, Tp5, ((hE).tr Ep1).tr Ep5⟩
    · refine J_aload_n (q := 66) C0 2 rfl rfl dX3_isAtom_65 rfl trivial ?_
      refine J_dup (q := 67) C0 dX3_isAtom_66 rfl rfl ?_
      refine J_getI (q := 70) C0 fl_X3_74_3 rfl ((Ep1.at h0)) rfl dX3_isAtom_67 rfl ?_
      refine J_iconst (q := 71) (v := 1) C0 dX3_isAtom_70 rfl rfl ?_
      refine J_iadd (q := 72) C0 dX3_isAtom_71 rfl ?_
      refine J_putI (q := 75) C0 fl_X3_74_3 rfl ((Ep1.at h0)) rfl dX3_isAtom_72 rfl ?_
      refine J_aload_n (q := 76) C0 2 rfl rfl dX3_isAtom_75 rfl trivial ?_
      refine J_iload_n (q := 77) C0 0 rfl rfl dX3_isAtom_76 rfl ?_
      refine K_some hf (fun p8 hp8 hf => ?_)
      refine J_callS (q := 80) (as := [vi (p3)]) (rest := [vr (some a0)]) C0 (t_X2_letterCode (p3)  hp8) ml_X2_letterCode lk_X3_89 sm_X2_letterCode dX3_isAtom_77 rfl rfl rfl (by simp [ac_]) C1.room (by omega) (by omega) (by decide) (by decide) (fun r_ τ_ hQ => ?_)
      obtain ⟨rfl, ht_⟩ := hQ; have ht_ := ht_.symm; subst ht_
      show J_ Γ 80 [(3, vi (p3)), (2, vi (p1.1)), (0, vr (some a0)), (1, vi (x1))] [vi (p8), vr (some a0)] (put_I p1.2 a0 2 ((sg_I p1.2 a0 2) + (1))) 0 0
      refine K_some hf (fun p9 hp9 hf => ?_)
      refine J_callV (q := 83) (ci := 3) (as := [vi (p8)]) (rest := []) C0 rfl (((Ep1.at h0)).putI) (t_X3_write a0 (p8) ((Tp1).putI) (((Ep1.at h0)).putI)  hp9) ml_X3_write lk_X3_60 im_X3_write se_X3_write rfl (by decide) dX3_isAtom_80 rfl rfl rfl (by simp [ac_]) C1.room (by omega) (by omega) (by decide) (by decide) (fun r_ τ_ hQ => ?_)
      obtain ⟨rfl, ht_, Tp9, Ep9⟩ := hQ; have ht_ := ht_.symm; subst ht_
      show J_ Γ 83 [(3, vi (p3)), (2, vi (p1.1)), (0, vr (some a0)), (1, vi (x1))] [] p9 0 0
      refine J_iconst (q := 84) (v := 1) C0 dX3_isAtom_83 rfl rfl ?_
      obtain rfl := Option.some.inj hf; exact J_zret C1 dX3_isAtom_84 rfl (Or.inr rfl) (Nat.zero_le _) (Nat.zero_le _) ⟨⟨rfl, (Or.inr rfl)⟩, rfl, Tp9, (((hE).tr Ep1).putI).tr Ep9⟩
  · refine J_iload_n (q := 12) C0 2 rfl rfl dX3_isAtom_11 rfl ?_
    refine J_bipush (q := 14) (v := 6) C0 dX3_isAtom_12 rfl rfl ?_
    refine J_icmp_lt (t := 19) (q := 17) C0 dX3_isAtom_14 (by decide) rfl hf (fun c10 hf => ?_) (fun c10 hf => ?_)
    · refine J_aload_n (q := 20) C0 1 rfl rfl dX3_isAtom_19 rfl trivial ?_
      refine J_dup (q := 21) C0 dX3_isAtom_20 rfl rfl ?_
      refine J_getI (q := 24) C0 fl_X3_74_3 rfl ((Ep1.at h0)) rfl dX3_isAtom_21 rfl ?_
      refine J_iconst (q := 25) (v := 1) C0 dX3_isAtom_24 rfl rfl ?_
      refine J_iadd (q := 26) C0 dX3_isAtom_25 rfl ?_
      refine J_putI (q := 29) C0 fl_X3_74_3 rfl ((Ep1.at h0)) rfl dX3_isAtom_26 rfl ?_
      refine J_aload_n (q := 30) C0 1 rfl rfl dX3_isAtom_29 rfl trivial ?_
      refine J_iload_n (q := 31) C0 2 rfl rfl dX3_isAtom_30 rfl ?_
      refine J_iconst (q := 32) (v := 1) C0 dX3_isAtom_31 rfl rfl ?_
      refine J_iadd (q := 33) C0 dX3_isAtom_32 rfl ?_
      refine K_some hf (fun p11 hp11 hf => ?_)
      refine J_callV (q := 36) (ci := 3) (as := [vi ((x1) + (1))]) (rest := []) C0 rfl (((Ep1.at h0)).putI) (hr_X3_isSum a0 ((x1) + (1)) (put_I p1.2 a0 2 ((sg_I p1.2 a0 2) + (1))) ((Tp1).putI) (((Ep1.at h0)).putI)  _ hp11) ml_X3_isSum lk_X3_43 im_X3_isSum se_X3_isSum rfl (by decide) dX3_isAtom_33 rfl rfl rfl (by simp [ac_]) C1.room (by omega) (by omega) (by decide) (by decide) (fun r_ τ_ hQ => ?_)
      obtain ⟨⟨rfl, zp11⟩, rfl, Tp11, Ep11⟩ := hQ
      show J_ Γ 36 [(2, vi (p1.1)), (0, vr (some a0)), (1, vi (x1))] [vi (p11.1)] p11.2 0 0
      refine J_if_eq (t := 52) (q := 39) C0 dX3_isAtom_36 (by decide) rfl hf (fun c12 hf => ?_) (fun c12 hf => ?_)
      · refine J_iconst (q := 53) (v := 0) C0 dX3_isAtom_52 rfl rfl ?_
        obtain rfl := Option.some.inj hf; exact J_zret C1 dX3_isAtom_53 rfl (Or.inl rfl) (Nat.zero_le _) (Nat.zero_le _) ⟨⟨rfl, (Or.inl rfl)⟩, rfl, Tp11, (((hE).tr Ep1).putI).tr Ep11⟩
      · refine J_aload_n (q := 40) C0 1 rfl rfl dX3_isAtom_39 rfl trivial ?_
        refine J_bipush (q := 42) (v := 93) C0 dX3_isAtom_40 rfl rfl ?_
        refine K_some hf (fun p13 hp13 hf => ?_)
        refine J_callU (q := 45) (ci := 3) (as := [vi (93)]) (rest := []) C0 rfl ((Ep11.at ((Ep1.at h0)).putI)) (t_X6_takes_k3 N a0 (93) (Tp11) ((Ep11.at ((Ep1.at h0)).putI))  hp13) rfl ml_X6_takes lk_X3_23 sa_654 im_X6_takes se_655 rfl (by decide) dX3_isAtom_42 rfl rfl rfl (by simp [ac_]) C1.room (by omega) (by omega) (by decide) (by decide) (fun r_ τ_ hQ => ?_)
        obtain ⟨⟨rfl, zp13⟩, rfl, Tp13, Ep13⟩ := hQ
        show J_ Γ 45 [(2, vi (p1.1)), (0, vr (some a0)), (1, vi (x1))] [vi (p13.1)] p13.2 0 0
        refine J_if_eq (t := 52) (q := 48) C0 dX3_isAtom_45 (by decide) rfl hf (fun c14 hf => ?_) (fun c14 hf => ?_)
        · refine J_iconst (q := 53) (v := 0) C0 dX3_isAtom_52 rfl rfl ?_
          obtain rfl := Option.some.inj hf; exact J_zret C1 dX3_isAtom_53 rfl (Or.inl rfl) (Nat.zero_le _) (Nat.zero_le _) ⟨⟨rfl, (Or.inl rfl)⟩, rfl, Tp13, ((((hE).tr Ep1).putI).tr Ep11).tr Ep13⟩
        · refine J_iconst (q := 49) (v := 1) C0 dX3_isAtom_48 rfl rfl ?_
          refine J_goto (q := 53) C0 dX3_isAtom_49 (by decide) ?_
          obtain rfl := Option.some.inj hf; exact J_zret C1 dX3_isAtom_53 rfl (Or.inr rfl) (Nat.zero_le _) (Nat.zero_le _) ⟨⟨rfl, (Or.inr rfl)⟩, rfl, Tp13, ((((hE).tr Ep1).putI).tr Ep11).tr Ep13⟩
    · refine J_iconst (q := 18) (v := 0) C0 dX3_isAtom_17 rfl rfl ?_
      obtain rfl := Option.some.inj hf; exact J_zret C1 dX3_isAtom_18 rfl (Or.inl rfl) (Nat.zero_le _) (Nat.zero_le _) ⟨⟨rfl, (Or.inl rfl)⟩, rfl, Tp1, (hE).tr Ep1⟩
def g_X3_law (N : Nat) : Nat → Nat → Nat → Int32 → Sg → Option (Int32 × Sg)
  | 0, _, _, _, _ => none
  | d + 1, t, a0, x1, σ => if t = 0 then f_X3_isCondition_o N (g_X3_law N d) a0 x1 σ else if t = 1 then f_X3_areMoreTruths_o N (g_X3_law N d) a0 x1 σ else if t = 2 then f_X3_isTruth_o N (g_X3_law N d) a0 x1 σ else if t = 3 then f_X3_areMoreUnits_o N (g_X3_law N d) a0 x1 σ else if t = 4 then f_X3_isUnit_o N (g_X3_law N d) a0 x1 σ else if t = 5 then f_X3_isCompared_o N (g_X3_law N d) a0 x1 σ else if t = 6 then f_X3_isSum_o N (g_X3_law N d) a0 x1 σ else if t = 7 then f_X3_isTerm_o N (g_X3_law N d) a0 x1 σ else f_X3_isAtom_o N (g_X3_law N d) a0 x1 σ
set_option maxHeartbeats 4000000 in
set_option maxRecDepth 100000 in
theorem c_X3_law (N : Nat) : ∀ d : Nat, (∀ (a0 : Nat) (x1 : Int32) (σ : Sg), sg_T σ → is_A σ a0 3 → ∀ r : (Int32 × Sg), g_X3_law N d 0 a0 x1 σ = some r → Ct yX3_isCondition cX3_isCondition 2 (some .boolean) (d + 5) (d * 24 + 112) 0 0 [vr (some a0), vi x1] σ (fun r_ τ_ => (r_ = some (vi r.1) ∧ (r.1 = 0 ∨ r.1 = 1)) ∧ τ_ = r.2 ∧ sg_T τ_ ∧ sg_E σ τ_)) ∧ (∀ (a0 : Nat) (x1 : Int32) (σ : Sg), sg_T σ → is_A σ a0 3 → ∀ r : (Int32 × Sg), g_X3_law N d 1 a0 x1 σ = some r → Ct yX3_areMoreTruths cX3_areMoreTruths 3 (some .boolean) (d + 5) (d * 24 + 112) 0 0 [vr (some a0), vi x1] σ (fun r_ τ_ => (r_ = some (vi r.1) ∧ (r.1 = 0 ∨ r.1 = 1)) ∧ τ_ = r.2 ∧ sg_T τ_ ∧ sg_E σ τ_)) ∧ (∀ (a0 : Nat) (x1 : Int32) (σ : Sg), sg_T σ → is_A σ a0 3 → ∀ r : (Int32 × Sg), g_X3_law N d 2 a0 x1 σ = some r → Ct yX3_isTruth cX3_isTruth 2 (some .boolean) (d + 5) (d * 24 + 112) 0 0 [vr (some a0), vi x1] σ (fun r_ τ_ => (r_ = some (vi r.1) ∧ (r.1 = 0 ∨ r.1 = 1)) ∧ τ_ = r.2 ∧ sg_T τ_ ∧ sg_E σ τ_)) ∧ (∀ (a0 : Nat) (x1 : Int32) (σ : Sg), sg_T σ → is_A σ a0 3 → ∀ r : (Int32 × Sg), g_X3_law N d 3 a0 x1 σ = some r → Ct yX3_areMoreUnits cX3_areMoreUnits 3 (some .boolean) (d + 5) (d * 24 + 112) 0 0 [vr (some a0), vi x1] σ (fun r_ τ_ => (r_ = some (vi r.1) ∧ (r.1 = 0 ∨ r.1 = 1)) ∧ τ_ = r.2 ∧ sg_T τ_ ∧ sg_E σ τ_)) ∧ (∀ (a0 : Nat) (x1 : Int32) (σ : Sg), sg_T σ → is_A σ a0 3 → ∀ r : (Int32 × Sg), g_X3_law N d 4 a0 x1 σ = some r → Ct yX3_isUnit cX3_isUnit 3 (some .boolean) (d + 5) (d * 24 + 112) 0 0 [vr (some a0), vi x1] σ (fun r_ τ_ => (r_ = some (vi r.1) ∧ (r.1 = 0 ∨ r.1 = 1)) ∧ τ_ = r.2 ∧ sg_T τ_ ∧ sg_E σ τ_)) ∧ (∀ (a0 : Nat) (x1 : Int32) (σ : Sg), sg_T σ → is_A σ a0 3 → ∀ r : (Int32 × Sg), g_X3_law N d 5 a0 x1 σ = some r → Ct yX3_isCompared cX3_isCompared 3 (some .boolean) (d + 5) (d * 24 + 112) 0 0 [vr (some a0), vi x1] σ (fun r_ τ_ => (r_ = some (vi r.1) ∧ (r.1 = 0 ∨ r.1 = 1)) ∧ τ_ = r.2 ∧ sg_T τ_ ∧ sg_E σ τ_)) ∧ (∀ (a0 : Nat) (x1 : Int32) (σ : Sg), sg_T σ → is_A σ a0 3 → ∀ r : (Int32 × Sg), g_X3_law N d 6 a0 x1 σ = some r → Ct yX3_isSum cX3_isSum 4 (some .boolean) (d + 5) (d * 24 + 112) 0 0 [vr (some a0), vi x1] σ (fun r_ τ_ => (r_ = some (vi r.1) ∧ (r.1 = 0 ∨ r.1 = 1)) ∧ τ_ = r.2 ∧ sg_T τ_ ∧ sg_E σ τ_)) ∧ (∀ (a0 : Nat) (x1 : Int32) (σ : Sg), sg_T σ → is_A σ a0 3 → ∀ r : (Int32 × Sg), g_X3_law N d 7 a0 x1 σ = some r → Ct yX3_isTerm cX3_isTerm 4 (some .boolean) (d + 5) (d * 24 + 112) 0 0 [vr (some a0), vi x1] σ (fun r_ τ_ => (r_ = some (vi r.1) ∧ (r.1 = 0 ∨ r.1 = 1)) ∧ τ_ = r.2 ∧ sg_T τ_ ∧ sg_E σ τ_)) ∧ (∀ (a0 : Nat) (x1 : Int32) (σ : Sg), sg_T σ → is_A σ a0 3 → ∀ r : (Int32 × Sg), g_X3_law N d 8 a0 x1 σ = some r → Ct yX3_isAtom cX3_isAtom 5 (some .boolean) (d + 5) (d * 24 + 112) 0 0 [vr (some a0), vi x1] σ (fun r_ τ_ => (r_ = some (vi r.1) ∧ (r.1 = 0 ∨ r.1 = 1)) ∧ τ_ = r.2 ∧ sg_T τ_ ∧ sg_E σ τ_)) := by
  intro d
  induction d with
  | zero =>
    refine ⟨?_, ?_, ?_, ?_, ?_, ?_, ?_, ?_, ?_⟩
    all_goals (intros; rename_i hf_; cases hf_)
  | succ d ih =>
    obtain ⟨hr_X3_isCondition, hr_X3_areMoreTruths, hr_X3_isTruth, hr_X3_areMoreUnits, hr_X3_isUnit, hr_X3_isCompared, hr_X3_isSum, hr_X3_isTerm, hr_X3_isAtom⟩ := ih
    refine ⟨?_, ?_, ?_, ?_, ?_, ?_, ?_, ?_, ?_⟩
    · intro a0 x1 σ hT_ h0_ r hf
      have hf : f_X3_isCondition_o N (g_X3_law N d) a0 x1 σ = some r := hf
      exact (t_X3_isCondition_o N hr_X3_isTruth hr_X3_areMoreTruths a0 x1 hT_ h0_ hf)
    · intro a0 x1 σ hT_ h0_ r hf
      have hf : f_X3_areMoreTruths_o N (g_X3_law N d) a0 x1 σ = some r := hf
      exact (t_X3_areMoreTruths_o N hr_X3_isTruth a0 x1 hT_ h0_ hf)
    · intro a0 x1 σ hT_ h0_ r hf
      have hf : f_X3_isTruth_o N (g_X3_law N d) a0 x1 σ = some r := hf
      exact (t_X3_isTruth_o N hr_X3_isUnit hr_X3_areMoreUnits a0 x1 hT_ h0_ hf)
    · intro a0 x1 σ hT_ h0_ r hf
      have hf : f_X3_areMoreUnits_o N (g_X3_law N d) a0 x1 σ = some r := hf
      exact (t_X3_areMoreUnits_o N hr_X3_isUnit a0 x1 hT_ h0_ hf)
    · intro a0 x1 σ hT_ h0_ r hf
      have hf : f_X3_isUnit_o N (g_X3_law N d) a0 x1 σ = some r := hf
      exact (t_X3_isUnit_o N hr_X3_isSum hr_X3_isCompared hr_X3_isCondition hr_X3_isUnit a0 x1 hT_ h0_ hf)
    · intro a0 x1 σ hT_ h0_ r hf
      have hf : f_X3_isCompared_o N (g_X3_law N d) a0 x1 σ = some r := hf
      exact (t_X3_isCompared_o N hr_X3_isSum a0 x1 hT_ h0_ hf)
    · intro a0 x1 σ hT_ h0_ r hf
      have hf : f_X3_isSum_o N (g_X3_law N d) a0 x1 σ = some r := hf
      exact (t_X3_isSum_o N hr_X3_isTerm a0 x1 hT_ h0_ hf)
    · intro a0 x1 σ hT_ h0_ r hf
      have hf : f_X3_isTerm_o N (g_X3_law N d) a0 x1 σ = some r := hf
      exact (t_X3_isTerm_o N hr_X3_isAtom a0 x1 hT_ h0_ hf)
    · intro a0 x1 σ hT_ h0_ r hf
      have hf : f_X3_isAtom_o N (g_X3_law N d) a0 x1 σ = some r := hf
      exact (t_X3_isAtom_o N hr_X3_isSum a0 x1 hT_ h0_ hf)

def dep_X3_law : Nat := 400
def f_X3_isCondition (N : Nat) (a0 : Nat) (x1 : Int32) (σ : Sg) : Option (Int32 × Sg) := g_X3_law N dep_X3_law 0 a0 x1 σ
set_option maxHeartbeats 4000000 in
set_option maxRecDepth 100000 in
theorem t_X3_isCondition (N : Nat) (a0 : Nat) (x1 : Int32) {σ : Sg} (hT_ : sg_T σ) (h0_ : is_A σ a0 3) {r : (Int32 × Sg)} (hf : f_X3_isCondition N a0 x1 σ = some r) : Ct yX3_isCondition cX3_isCondition 2 (some .boolean) 405 9712 0 0 [vr (some a0), vi x1] σ (fun r_ τ_ => (r_ = some (vi r.1) ∧ (r.1 = 0 ∨ r.1 = 1)) ∧ τ_ = r.2 ∧ sg_T τ_ ∧ sg_E σ τ_) :=
  (c_X3_law N dep_X3_law).1 a0 x1 σ hT_ h0_  r hf
def f_X3_areMoreTruths (N : Nat) (a0 : Nat) (x1 : Int32) (σ : Sg) : Option (Int32 × Sg) := g_X3_law N dep_X3_law 1 a0 x1 σ
set_option maxHeartbeats 4000000 in
set_option maxRecDepth 100000 in
theorem t_X3_areMoreTruths (N : Nat) (a0 : Nat) (x1 : Int32) {σ : Sg} (hT_ : sg_T σ) (h0_ : is_A σ a0 3) {r : (Int32 × Sg)} (hf : f_X3_areMoreTruths N a0 x1 σ = some r) : Ct yX3_areMoreTruths cX3_areMoreTruths 3 (some .boolean) 405 9712 0 0 [vr (some a0), vi x1] σ (fun r_ τ_ => (r_ = some (vi r.1) ∧ (r.1 = 0 ∨ r.1 = 1)) ∧ τ_ = r.2 ∧ sg_T τ_ ∧ sg_E σ τ_) :=
  (c_X3_law N dep_X3_law).2.1 a0 x1 σ hT_ h0_  r hf
def f_X3_isTruth (N : Nat) (a0 : Nat) (x1 : Int32) (σ : Sg) : Option (Int32 × Sg) := g_X3_law N dep_X3_law 2 a0 x1 σ
set_option maxHeartbeats 4000000 in
set_option maxRecDepth 100000 in
theorem t_X3_isTruth (N : Nat) (a0 : Nat) (x1 : Int32) {σ : Sg} (hT_ : sg_T σ) (h0_ : is_A σ a0 3) {r : (Int32 × Sg)} (hf : f_X3_isTruth N a0 x1 σ = some r) : Ct yX3_isTruth cX3_isTruth 2 (some .boolean) 405 9712 0 0 [vr (some a0), vi x1] σ (fun r_ τ_ => (r_ = some (vi r.1) ∧ (r.1 = 0 ∨ r.1 = 1)) ∧ τ_ = r.2 ∧ sg_T τ_ ∧ sg_E σ τ_) :=
  (c_X3_law N dep_X3_law).2.2.1 a0 x1 σ hT_ h0_  r hf
def f_X3_areMoreUnits (N : Nat) (a0 : Nat) (x1 : Int32) (σ : Sg) : Option (Int32 × Sg) := g_X3_law N dep_X3_law 3 a0 x1 σ
set_option maxHeartbeats 4000000 in
set_option maxRecDepth 100000 in
theorem t_X3_areMoreUnits (N : Nat) (a0 : Nat) (x1 : Int32) {σ : Sg} (hT_ : sg_T σ) (h0_ : is_A σ a0 3) {r : (Int32 × Sg)} (hf : f_X3_areMoreUnits N a0 x1 σ = some r) : Ct yX3_areMoreUnits cX3_areMoreUnits 3 (some .boolean) 405 9712 0 0 [vr (some a0), vi x1] σ (fun r_ τ_ => (r_ = some (vi r.1) ∧ (r.1 = 0 ∨ r.1 = 1)) ∧ τ_ = r.2 ∧ sg_T τ_ ∧ sg_E σ τ_) :=
  (c_X3_law N dep_X3_law).2.2.2.1 a0 x1 σ hT_ h0_  r hf
def f_X3_isUnit (N : Nat) (a0 : Nat) (x1 : Int32) (σ : Sg) : Option (Int32 × Sg) := g_X3_law N dep_X3_law 4 a0 x1 σ
set_option maxHeartbeats 4000000 in
set_option maxRecDepth 100000 in
theorem t_X3_isUnit (N : Nat) (a0 : Nat) (x1 : Int32) {σ : Sg} (hT_ : sg_T σ) (h0_ : is_A σ a0 3) {r : (Int32 × Sg)} (hf : f_X3_isUnit N a0 x1 σ = some r) : Ct yX3_isUnit cX3_isUnit 3 (some .boolean) 405 9712 0 0 [vr (some a0), vi x1] σ (fun r_ τ_ => (r_ = some (vi r.1) ∧ (r.1 = 0 ∨ r.1 = 1)) ∧ τ_ = r.2 ∧ sg_T τ_ ∧ sg_E σ τ_) :=
  (c_X3_law N dep_X3_law).2.2.2.2.1 a0 x1 σ hT_ h0_  r hf
def f_X3_isCompared (N : Nat) (a0 : Nat) (x1 : Int32) (σ : Sg) : Option (Int32 × Sg) := g_X3_law N dep_X3_law 5 a0 x1 σ
set_option maxHeartbeats 4000000 in
set_option maxRecDepth 100000 in
theorem t_X3_isCompared (N : Nat) (a0 : Nat) (x1 : Int32) {σ : Sg} (hT_ : sg_T σ) (h0_ : is_A σ a0 3) {r : (Int32 × Sg)} (hf : f_X3_isCompared N a0 x1 σ = some r) : Ct yX3_isCompared cX3_isCompared 3 (some .boolean) 405 9712 0 0 [vr (some a0), vi x1] σ (fun r_ τ_ => (r_ = some (vi r.1) ∧ (r.1 = 0 ∨ r.1 = 1)) ∧ τ_ = r.2 ∧ sg_T τ_ ∧ sg_E σ τ_) :=
  (c_X3_law N dep_X3_law).2.2.2.2.2.1 a0 x1 σ hT_ h0_  r hf
def f_X3_isSum (N : Nat) (a0 : Nat) (x1 : Int32) (σ : Sg) : Option (Int32 × Sg) := g_X3_law N dep_X3_law 6 a0 x1 σ
set_option maxHeartbeats 4000000 in
set_option maxRecDepth 100000 in
theorem t_X3_isSum (N : Nat) (a0 : Nat) (x1 : Int32) {σ : Sg} (hT_ : sg_T σ) (h0_ : is_A σ a0 3) {r : (Int32 × Sg)} (hf : f_X3_isSum N a0 x1 σ = some r) : Ct yX3_isSum cX3_isSum 4 (some .boolean) 405 9712 0 0 [vr (some a0), vi x1] σ (fun r_ τ_ => (r_ = some (vi r.1) ∧ (r.1 = 0 ∨ r.1 = 1)) ∧ τ_ = r.2 ∧ sg_T τ_ ∧ sg_E σ τ_) :=
  (c_X3_law N dep_X3_law).2.2.2.2.2.2.1 a0 x1 σ hT_ h0_  r hf
def f_X3_isTerm (N : Nat) (a0 : Nat) (x1 : Int32) (σ : Sg) : Option (Int32 × Sg) := g_X3_law N dep_X3_law 7 a0 x1 σ
set_option maxHeartbeats 4000000 in
set_option maxRecDepth 100000 in
theorem t_X3_isTerm (N : Nat) (a0 : Nat) (x1 : Int32) {σ : Sg} (hT_ : sg_T σ) (h0_ : is_A σ a0 3) {r : (Int32 × Sg)} (hf : f_X3_isTerm N a0 x1 σ = some r) : Ct yX3_isTerm cX3_isTerm 4 (some .boolean) 405 9712 0 0 [vr (some a0), vi x1] σ (fun r_ τ_ => (r_ = some (vi r.1) ∧ (r.1 = 0 ∨ r.1 = 1)) ∧ τ_ = r.2 ∧ sg_T τ_ ∧ sg_E σ τ_) :=
  (c_X3_law N dep_X3_law).2.2.2.2.2.2.2.1 a0 x1 σ hT_ h0_  r hf
def f_X3_isAtom (N : Nat) (a0 : Nat) (x1 : Int32) (σ : Sg) : Option (Int32 × Sg) := g_X3_law N dep_X3_law 8 a0 x1 σ
set_option maxHeartbeats 4000000 in
set_option maxRecDepth 100000 in
theorem t_X3_isAtom (N : Nat) (a0 : Nat) (x1 : Int32) {σ : Sg} (hT_ : sg_T σ) (h0_ : is_A σ a0 3) {r : (Int32 × Sg)} (hf : f_X3_isAtom N a0 x1 σ = some r) : Ct yX3_isAtom cX3_isAtom 5 (some .boolean) 405 9712 0 0 [vr (some a0), vi x1] σ (fun r_ τ_ => (r_ = some (vi r.1) ∧ (r.1 = 0 ∨ r.1 = 1)) ∧ τ_ = r.2 ∧ sg_T τ_ ∧ sg_E σ τ_) :=
  (c_X3_law N dep_X3_law).2.2.2.2.2.2.2.2 a0 x1 σ hT_ h0_  r hf
def f_X3_isAnswerIf (N : Nat) (a0 : Nat) (σ : Sg) : Option (Int32 × Sg) :=
  Option.bind (f_X6_takes N a0 (63) σ) fun p1 =>
  if (p1.1) = (0) then
  (some (0, p1.2))
  else
  (Option.bind (f_X3_write a0 ((-11)) p1.2) fun p3 =>
  Option.bind (f_X3_write a0 (0) p3) fun p4 =>
  Option.bind (f_X3_isSum N a0 (0) p4) fun p5 =>
  if (p5.1) = (0) then
  (some (0, p5.2))
  else
  (Option.bind (f_X3_write a0 ((-12)) p5.2) fun p7 =>
  Option.bind (sg_R p7 a0 3) fun b8 =>
  if (sg_I p3 a0 4) < (Int32.ofNat (sg_L p7 b8)) then
  (if (sg_I p3 a0 4) < 0 ∨ sg_L p7 b8 ≤ (sg_I p3 a0 4).toNatClampNeg then none else
  some (1, put_I p7 b8 (sg_I p3 a0 4).toNatClampNeg (sg_I p7 a0 4)))
  else
  (some (1, p7))))
set_option maxHeartbeats 4000000 in
set_option maxRecDepth 100000 in
theorem t_X3_isAnswerIf (N : Nat) (a0 : Nat) {σ : Sg} (hT : sg_T σ) (h0 : is_A σ a0 3) {r : (Int32 × Sg)} (hf : f_X3_isAnswerIf N a0  σ = some r) : Ct yX3_isAnswerIf cX3_isAnswerIf 2 (some .boolean) 406 9735 0 0 [vr (some a0)] σ (fun r_ τ_ => (r_ = some (vi r.1) ∧ (r.1 = 0 ∨ r.1 = 1)) ∧ τ_ = r.2 ∧ sg_T τ_ ∧ sg_E σ τ_) := by
  refine Ct.of (by decide +kernel) (Nat.le_of_ble_eq_true rfl) (fun Γ C1 => ?_)
  have C0 := C1.1
  have hE : sg_E σ σ := sg_E.rf
  unfold f_X3_isAnswerIf at hf
  show J_ Γ 0 [(0, vr (some a0))] [] σ 0 0
  refine J_aload_n (q := 1) C0 0 rfl rfl dX3_isAnswerIf_0 rfl trivial ?_
  refine J_bipush (q := 3) (v := 63) C0 dX3_isAnswerIf_1 rfl rfl ?_
  refine K_some hf (fun p1 hp1 hf => ?_)
  refine J_callU (q := 6) (ci := 3) (as := [vi (63)]) (rest := []) C0 rfl (h0) (t_X6_takes_k3 N a0 (63) (hT) (h0)  hp1) rfl ml_X6_takes lk_X3_23 sa_654 im_X6_takes se_655 rfl (by decide) dX3_isAnswerIf_3 rfl rfl rfl (by simp [ac_]) C1.room (by decide) (by decide) (by decide) (by decide) (fun r_ τ_ hQ => ?_)
  obtain ⟨⟨rfl, zp1⟩, rfl, Tp1, Ep1⟩ := hQ
  show J_ Γ 6 [(0, vr (some a0))] [vi (p1.1)] p1.2 0 0
  refine J_if_ne (t := 11) (q := 9) C0 dX3_isAnswerIf_6 (by decide) rfl hf (fun c2 hf => ?_) (fun c2 hf => ?_)
  · refine J_aload_n (q := 12) C0 0 rfl rfl dX3_isAnswerIf_11 rfl trivial ?_
    refine J_bipush (q := 14) (v := (-11)) C0 dX3_isAnswerIf_12 rfl rfl ?_
    refine K_some hf (fun p3 hp3 hf => ?_)
    refine J_callV (q := 17) (ci := 3) (as := [vi ((-11))]) (rest := []) C0 rfl ((Ep1.at h0)) (t_X3_write a0 ((-11)) (Tp1) ((Ep1.at h0))  hp3) ml_X3_write lk_X3_60 im_X3_write se_X3_write rfl (by decide) dX3_isAnswerIf_14 rfl rfl rfl (by simp [ac_]) C1.room (by decide) (by decide) (by decide) (by decide) (fun r_ τ_ hQ => ?_)
    obtain ⟨rfl, ht_, Tp3, Ep3⟩ := hQ; have ht_ := ht_.symm; subst ht_
    show J_ Γ 17 [(0, vr (some a0))] [] p3 0 0
    refine J_aload_n (q := 18) C0 0 rfl rfl dX3_isAnswerIf_17 rfl trivial ?_
    refine J_getI (q := 21) C0 fl_X3_15_3 rfl ((Ep3.at (Ep1.at h0))) rfl dX3_isAnswerIf_18 rfl ?_
    refine J_istore_n (q := 22) (lv' := [(1, vi (sg_I p3 a0 4)), (0, vr (some a0))]) C0 rfl (G_nl C1 (by decide)) dX3_isAnswerIf_21 rfl rfl ?_
    refine J_aload_n (q := 23) C0 1 rfl rfl dX3_isAnswerIf_22 rfl trivial ?_
    refine J_iconst (q := 24) (v := 0) C0 dX3_isAnswerIf_23 rfl rfl ?_
    refine K_some hf (fun p4 hp4 hf => ?_)
    refine J_callV (q := 27) (ci := 3) (as := [vi (0)]) (rest := []) C0 rfl ((Ep3.at (Ep1.at h0))) (t_X3_write a0 (0) (Tp3) ((Ep3.at (Ep1.at h0)))  hp4) ml_X3_write lk_X3_60 im_X3_write se_X3_write rfl (by decide) dX3_isAnswerIf_24 rfl rfl rfl (by simp [ac_]) C1.room (by decide) (by decide) (by decide) (by decide) (fun r_ τ_ hQ => ?_)
    obtain ⟨rfl, ht_, Tp4, Ep4⟩ := hQ; have ht_ := ht_.symm; subst ht_
    show J_ Γ 27 [(1, vi (sg_I p3 a0 4)), (0, vr (some a0))] [] p4 0 0
    refine J_aload_n (q := 28) C0 1 rfl rfl dX3_isAnswerIf_27 rfl trivial ?_
    refine J_iconst (q := 29) (v := 0) C0 dX3_isAnswerIf_28 rfl rfl ?_
    refine K_some hf (fun p5 hp5 hf => ?_)
    refine J_callV (q := 32) (ci := 3) (as := [vi (0)]) (rest := []) C0 rfl ((Ep4.at (Ep3.at (Ep1.at h0)))) (t_X3_isSum N a0 (0) (Tp4) ((Ep4.at (Ep3.at (Ep1.at h0))))  hp5) ml_X3_isSum lk_X3_43 im_X3_isSum se_X3_isSum rfl (by decide) dX3_isAnswerIf_29 rfl rfl rfl (by simp [ac_]) C1.room (by decide) (by decide) (by decide) (by decide) (fun r_ τ_ hQ => ?_)
    obtain ⟨⟨rfl, zp5⟩, rfl, Tp5, Ep5⟩ := hQ
    show J_ Γ 32 [(1, vi (sg_I p3 a0 4)), (0, vr (some a0))] [vi (p5.1)] p5.2 0 0
    refine J_if_ne (t := 37) (q := 35) C0 dX3_isAnswerIf_32 (by decide) rfl hf (fun c6 hf => ?_) (fun c6 hf => ?_)
    · refine J_aload_n (q := 38) C0 1 rfl rfl dX3_isAnswerIf_37 rfl trivial ?_
      refine J_bipush (q := 40) (v := (-12)) C0 dX3_isAnswerIf_38 rfl rfl ?_
      refine K_some hf (fun p7 hp7 hf => ?_)
      refine J_callV (q := 43) (ci := 3) (as := [vi ((-12))]) (rest := []) C0 rfl ((Ep5.at (Ep4.at (Ep3.at (Ep1.at h0))))) (t_X3_write a0 ((-12)) (Tp5) ((Ep5.at (Ep4.at (Ep3.at (Ep1.at h0)))))  hp7) ml_X3_write lk_X3_60 im_X3_write se_X3_write rfl (by decide) dX3_isAnswerIf_40 rfl rfl rfl (by simp [ac_]) C1.room (by decide) (by decide) (by decide) (by decide) (fun r_ τ_ hQ => ?_)
      obtain ⟨rfl, ht_, Tp7, Ep7⟩ := hQ; have ht_ := ht_.symm; subst ht_
      show J_ Γ 43 [(1, vi (sg_I p3 a0 4)), (0, vr (some a0))] [] p7 0 0
      refine J_iload_n (q := 44) C0 0 rfl rfl dX3_isAnswerIf_43 rfl ?_
      refine J_aload_n (q := 45) C0 1 rfl rfl dX3_isAnswerIf_44 rfl trivial ?_
      refine J_getR (q := 48) C0 fl_X3_9_3 rfl ((Ep7.at (Ep5.at (Ep4.at (Ep3.at (Ep1.at h0)))))) rfl dX3_isAnswerIf_45 rfl ?_
      refine K_some hf (fun b8 hb8 hf => ?_)
      have ab8 : is_A p7 b8 12 := ((sg_T.op Tp7 (j := 3) ((Ep7.at (Ep5.at (Ep4.at (Ep3.at (Ep1.at h0)))))) rfl)) b8 hb8
      refine J_alen (q := 49) C0 hb8 (ab8) (by decide) dX3_isAnswerIf_48 rfl ?_
      refine J_icmp_ge (t := 62) (q := 52) C0 dX3_isAnswerIf_49 (by decide) rfl hf (fun c9 hf => ?_) (fun c9 hf => ?_)
      · refine J_iconst (q := 63) (v := 1) C0 dX3_isAnswerIf_62 rfl rfl ?_
        obtain rfl := Option.some.inj hf; exact J_zret C1 dX3_isAnswerIf_63 rfl (Or.inr rfl) (Nat.zero_le _) (Nat.zero_le _) ⟨⟨rfl, (Or.inr rfl)⟩, rfl, Tp7, (((((hE).tr Ep1).tr Ep3).tr Ep4).tr Ep5).tr Ep7⟩
      · refine J_aload_n (q := 53) C0 1 rfl rfl dX3_isAnswerIf_52 rfl trivial ?_
        refine J_getR (q := 56) C0 fl_X3_9_3 rfl ((Ep7.at (Ep5.at (Ep4.at (Ep3.at (Ep1.at h0)))))) rfl dX3_isAnswerIf_53 rfl ?_
        refine J_iload_n (q := 57) C0 0 rfl rfl dX3_isAnswerIf_56 rfl ?_
        refine J_aload_n (q := 58) C0 1 rfl rfl dX3_isAnswerIf_57 rfl trivial ?_
        refine J_getI (q := 61) C0 fl_X3_15_3 rfl ((Ep7.at (Ep5.at (Ep4.at (Ep3.at (Ep1.at h0)))))) rfl dX3_isAnswerIf_58 rfl ?_
        refine K_chk hf (fun c10 hf => ?_)
        refine J_iast (q := 62) C0 hb8 (ab8) c10 dX3_isAnswerIf_61 rfl ?_
        refine J_iconst (q := 63) (v := 1) C0 dX3_isAnswerIf_62 rfl rfl ?_
        obtain rfl := Option.some.inj hf; exact J_zret C1 dX3_isAnswerIf_63 rfl (Or.inr rfl) (Nat.zero_le _) (Nat.zero_le _) ⟨⟨rfl, (Or.inr rfl)⟩, rfl, (Tp7).putI, ((((((hE).tr Ep1).tr Ep3).tr Ep4).tr Ep5).tr Ep7).putI⟩
    · refine J_iconst (q := 36) (v := 0) C0 dX3_isAnswerIf_35 rfl rfl ?_
      obtain rfl := Option.some.inj hf; exact J_zret C1 dX3_isAnswerIf_36 rfl (Or.inl rfl) (Nat.zero_le _) (Nat.zero_le _) ⟨⟨rfl, (Or.inl rfl)⟩, rfl, Tp5, ((((hE).tr Ep1).tr Ep3).tr Ep4).tr Ep5⟩
  · refine J_iconst (q := 10) (v := 0) C0 dX3_isAnswerIf_9 rfl rfl ?_
    obtain rfl := Option.some.inj hf; exact J_zret C1 dX3_isAnswerIf_10 rfl (Or.inl rfl) (Nat.zero_le _) (Nat.zero_le _) ⟨⟨rfl, (Or.inl rfl)⟩, rfl, Tp1, (hE).tr Ep1⟩
def f_X3_isClause_B37 (N : Nat) (a0 : Nat) (σ : Sg) : Option (Int32 × Sg) :=
  Option.bind (f_X3_isCondition N a0 (0) σ) fun p7 =>
  if (p7.1) = (0) then
  (some (0, p7.2))
  else
  (Option.bind (f_X3_isAnswerIf N a0  p7.2) fun p9 =>
  if (p9.1) = (0) then
  (some (0, p9.2))
  else
  (some (1, p9.2)))
def f_X3_isClause (N : Nat) (a0 : Nat) (σ : Sg) : Option (Int32 × Sg) :=
  Option.bind (f_X6_takes N a0 (121) σ) fun p1 =>
  if (p1.1) = (0) then
  (some (0, p1.2))
  else
  (Option.bind (f_X6_takes N a0 (58) p1.2) fun p3 =>
  if (p3.1) = (0) then
  (some (0, p3.2))
  else
  (Option.bind (f_X6_nextSign N a0  p3.2) fun p5 =>
  if (p5.1) = (33) then
  (f_X3_isClause_B37 N a0  (p5.2))
  else
  (if (p5.1) = (40) then
  (f_X3_isClause_B37 N a0  (p5.2))
  else
  (Option.bind (f_X3_isSum N a0 (0) p5.2) fun p12 =>
  if (p12.1) = (0) then
  (some (0, p12.2))
  else
  (Option.bind (f_X6_nextSign N a0  p12.2) fun p14 =>
  Option.bind (f_X3_isComparison (p14.1) ) fun p15 =>
  if (p15) = (0) then
  (Option.bind (f_X3_write a0 ((-12)) p14.2) fun p17 =>
  some (1, p17))
  else
  (Option.bind (f_X3_isCompared N a0 (0) p14.2) fun p18 =>
  if (p18.1) = (0) then
  (some (0, p18.2))
  else
  (Option.bind (f_X3_areMoreUnits N a0 (0) p18.2) fun p20 =>
  if (p20.1) = (0) then
  (some (0, p20.2))
  else
  (Option.bind (f_X3_areMoreTruths N a0 (0) p20.2) fun p22 =>
  if (p22.1) = (0) then
  (some (0, p22.2))
  else
  (Option.bind (f_X3_isAnswerIf N a0  p22.2) fun p24 =>
  if (p24.1) = (0) then
  (some (0, p24.2))
  else
  (some (1, p24.2)))))))))))
set_option maxHeartbeats 4000000 in
set_option maxRecDepth 100000 in
theorem t_X3_isClause_B37 {N : Nat} {a0 : Nat} {Γ : Gm} {σ0 : Sg} {r : (Int32 × Sg)} (C1 : CM Γ cX3_isClause RX3 2 (some .boolean) 407 9756 0 0 (fun r_ τ_ => (r_ = some (vi r.1) ∧ (r.1 = 0 ∨ r.1 = 1)) ∧ τ_ = r.2 ∧ sg_T τ_ ∧ sg_E σ0 τ_)) (σ : Sg) (hT : sg_T σ) (hE : sg_E σ0 σ) (h0 : is_A σ a0 3) (hf : f_X3_isClause_B37 N a0   σ = some r) : J_ Γ 37 [(0, vr (some a0))] [] σ 0 0 := by
  have C0 := C1.1
  unfold f_X3_isClause_B37 at hf
  refine J_aload_n (q := 38) C0 0 rfl rfl dX3_isClause_37 rfl trivial ?_
  refine J_iconst (q := 39) (v := 0) C0 dX3_isClause_38 rfl rfl ?_
  refine K_some hf (fun p7 hp7 hf => ?_)
  refine J_callV (q := 42) (ci := 3) (as := [vi (0)]) (rest := []) C0 rfl (h0) (t_X3_isCondition N a0 (0) (hT) (h0)  hp7) ml_X3_isCondition lk_X3_37 im_X3_isCondition se_X3_isCondition rfl (by decide) dX3_isClause_39 rfl rfl rfl (by simp [ac_]) C1.room (by decide) (by decide) (by decide) (by decide) (fun r_ τ_ hQ => ?_)
  obtain ⟨⟨rfl, zp7⟩, rfl, Tp7, Ep7⟩ := hQ
  show J_ Γ 42 [(0, vr (some a0))] [vi (p7.1)] p7.2 0 0
  refine J_if_eq (t := 56) (q := 45) C0 dX3_isClause_42 (by decide) rfl hf (fun c8 hf => ?_) (fun c8 hf => ?_)
  · refine J_iconst (q := 57) (v := 0) C0 dX3_isClause_56 rfl rfl ?_
    obtain rfl := Option.some.inj hf; exact J_zret C1 dX3_isClause_57 rfl (Or.inl rfl) (Nat.zero_le _) (Nat.zero_le _) ⟨⟨rfl, (Or.inl rfl)⟩, rfl, Tp7, (hE).tr Ep7⟩
  · refine J_aload_n (q := 46) C0 0 rfl rfl dX3_isClause_45 rfl trivial ?_
    refine K_some hf (fun p9 hp9 hf => ?_)
    refine J_callV (q := 49) (ci := 3) (as := []) (rest := []) C0 rfl ((Ep7.at h0)) (t_X3_isAnswerIf N a0  (Tp7) ((Ep7.at h0))  hp9) ml_X3_isAnswerIf lk_X3_40 im_X3_isAnswerIf se_X3_isAnswerIf rfl (by decide) dX3_isClause_46 rfl rfl rfl (by simp [ac_]) C1.room (by decide) (by decide) (by decide) (by decide) (fun r_ τ_ hQ => ?_)
    obtain ⟨⟨rfl, zp9⟩, rfl, Tp9, Ep9⟩ := hQ
    show J_ Γ 49 [(0, vr (some a0))] [vi (p9.1)] p9.2 0 0
    refine J_if_eq (t := 56) (q := 52) C0 dX3_isClause_49 (by decide) rfl hf (fun c10 hf => ?_) (fun c10 hf => ?_)
    · refine J_iconst (q := 57) (v := 0) C0 dX3_isClause_56 rfl rfl ?_
      obtain rfl := Option.some.inj hf; exact J_zret C1 dX3_isClause_57 rfl (Or.inl rfl) (Nat.zero_le _) (Nat.zero_le _) ⟨⟨rfl, (Or.inl rfl)⟩, rfl, Tp9, ((hE).tr Ep7).tr Ep9⟩
    · refine J_iconst (q := 53) (v := 1) C0 dX3_isClause_52 rfl rfl ?_
      refine J_goto (q := 57) C0 dX3_isClause_53 (by decide) ?_
      obtain rfl := Option.some.inj hf; exact J_zret C1 dX3_isClause_57 rfl (Or.inr rfl) (Nat.zero_le _) (Nat.zero_le _) ⟨⟨rfl, (Or.inr rfl)⟩, rfl, Tp9, ((hE).tr Ep7).tr Ep9⟩
set_option maxHeartbeats 4000000 in
set_option maxRecDepth 100000 in
theorem t_X3_isClause (N : Nat) (a0 : Nat) {σ : Sg} (hT : sg_T σ) (h0 : is_A σ a0 3) {r : (Int32 × Sg)} (hf : f_X3_isClause N a0  σ = some r) : Ct yX3_isClause cX3_isClause 2 (some .boolean) 407 9756 0 0 [vr (some a0)] σ (fun r_ τ_ => (r_ = some (vi r.1) ∧ (r.1 = 0 ∨ r.1 = 1)) ∧ τ_ = r.2 ∧ sg_T τ_ ∧ sg_E σ τ_) := by
  refine Ct.of (by decide +kernel) (Nat.le_of_ble_eq_true rfl) (fun Γ C1 => ?_)
  have C0 := C1.1
  have hE : sg_E σ σ := sg_E.rf
  unfold f_X3_isClause at hf
  show J_ Γ 0 [(0, vr (some a0))] [] σ 0 0
  refine J_aload_n (q := 1) C0 0 rfl rfl dX3_isClause_0 rfl trivial ?_
  refine J_bipush (q := 3) (v := 121) C0 dX3_isClause_1 rfl rfl ?_
  refine K_some hf (fun p1 hp1 hf => ?_)
  refine J_callU (q := 6) (ci := 3) (as := [vi (121)]) (rest := []) C0 rfl (h0) (t_X6_takes_k3 N a0 (121) (hT) (h0)  hp1) rfl ml_X6_takes lk_X3_23 sa_654 im_X6_takes se_655 rfl (by decide) dX3_isClause_3 rfl rfl rfl (by simp [ac_]) C1.room (by decide) (by decide) (by decide) (by decide) (fun r_ τ_ hQ => ?_)
  obtain ⟨⟨rfl, zp1⟩, rfl, Tp1, Ep1⟩ := hQ
  show J_ Γ 6 [(0, vr (some a0))] [vi (p1.1)] p1.2 0 0
  refine J_if_eq (t := 18) (q := 9) C0 dX3_isClause_6 (by decide) rfl hf (fun c2 hf => ?_) (fun c2 hf => ?_)
  · refine J_iconst (q := 19) (v := 0) C0 dX3_isClause_18 rfl rfl ?_
    obtain rfl := Option.some.inj hf; exact J_zret C1 dX3_isClause_19 rfl (Or.inl rfl) (Nat.zero_le _) (Nat.zero_le _) ⟨⟨rfl, (Or.inl rfl)⟩, rfl, Tp1, (hE).tr Ep1⟩
  · refine J_aload_n (q := 10) C0 0 rfl rfl dX3_isClause_9 rfl trivial ?_
    refine J_bipush (q := 12) (v := 58) C0 dX3_isClause_10 rfl rfl ?_
    refine K_some hf (fun p3 hp3 hf => ?_)
    refine J_callU (q := 15) (ci := 3) (as := [vi (58)]) (rest := []) C0 rfl ((Ep1.at h0)) (t_X6_takes_k3 N a0 (58) (Tp1) ((Ep1.at h0))  hp3) rfl ml_X6_takes lk_X3_23 sa_654 im_X6_takes se_655 rfl (by decide) dX3_isClause_12 rfl rfl rfl (by simp [ac_]) C1.room (by decide) (by decide) (by decide) (by decide) (fun r_ τ_ hQ => ?_)
    obtain ⟨⟨rfl, zp3⟩, rfl, Tp3, Ep3⟩ := hQ
    show J_ Γ 15 [(0, vr (some a0))] [vi (p3.1)] p3.2 0 0
    refine J_if_ne (t := 20) (q := 18) C0 dX3_isClause_15 (by decide) rfl hf (fun c4 hf => ?_) (fun c4 hf => ?_)
    · refine J_aload_n (q := 21) C0 0 rfl rfl dX3_isClause_20 rfl trivial ?_
      refine K_some hf (fun p5 hp5 hf => ?_)
      refine J_callU (q := 24) (ci := 3) (as := []) (rest := []) C0 rfl ((Ep3.at (Ep1.at h0))) (t_X6_nextSign_k3 N a0  (Tp3) ((Ep3.at (Ep1.at h0)))  hp5) rfl ml_X6_nextSign lk_X3_27 sa_657 im_X6_nextSign se_658 rfl (by decide) dX3_isClause_21 rfl rfl rfl (by simp [ac_]) C1.room (by decide) (by decide) (by decide) (by decide) (fun r_ τ_ hQ => ?_)
      obtain ⟨rfl, rfl, Tp5, Ep5⟩ := hQ
      show J_ Γ 24 [(0, vr (some a0))] [vi (p5.1)] p5.2 0 0
      refine J_istore_n (q := 25) (lv' := [(1, vi (p5.1)), (0, vr (some a0))]) C0 rfl (G_nl C1 (by decide)) dX3_isClause_24 rfl rfl ?_
      refine J_iload_n (q := 26) C0 0 rfl rfl dX3_isClause_25 rfl ?_
      refine J_bipush (q := 28) (v := 33) C0 dX3_isClause_26 rfl rfl ?_
      refine J_icmp_eq (t := 37) (q := 31) C0 dX3_isClause_28 (by decide) rfl hf (fun c6 hf => ?_) (fun c6 hf => ?_)
      · refine J_sub (lv' := [(0, vr (some a0))]) [1] rfl ?_
        exact t_X3_isClause_B37 C1     (p5.2) (Tp5) ((((hE).tr Ep1).tr Ep3).tr Ep5) ((Ep5.at (Ep3.at (Ep1.at h0))))  hf
      · refine J_iload_n (q := 32) C0 0 rfl rfl dX3_isClause_31 rfl ?_
        refine J_bipush (q := 34) (v := 40) C0 dX3_isClause_32 rfl rfl ?_
        refine J_icmp_ne (t := 58) (q := 37) C0 dX3_isClause_34 (by decide) rfl hf (fun c11 hf => ?_) (fun c11 hf => ?_)
        · refine J_aload_n (q := 59) C0 1 rfl rfl dX3_isClause_58 rfl trivial ?_
          refine J_iconst (q := 60) (v := 0) C0 dX3_isClause_59 rfl rfl ?_
          refine K_some hf (fun p12 hp12 hf => ?_)
          refine J_callV (q := 63) (ci := 3) (as := [vi (0)]) (rest := []) C0 rfl ((Ep5.at (Ep3.at (Ep1.at h0)))) (t_X3_isSum N a0 (0) (Tp5) ((Ep5.at (Ep3.at (Ep1.at h0))))  hp12) ml_X3_isSum lk_X3_43 im_X3_isSum se_X3_isSum rfl (by decide) dX3_isClause_60 rfl rfl rfl (by simp [ac_]) C1.room (by decide) (by decide) (by decide) (by decide) (fun r_ τ_ hQ => ?_)
          obtain ⟨⟨rfl, zp12⟩, rfl, Tp12, Ep12⟩ := hQ
          show J_ Γ 63 [(1, vi (p5.1)), (0, vr (some a0))] [vi (p12.1)] p12.2 0 0
          refine J_if_ne (t := 68) (q := 66) C0 dX3_isClause_63 (by decide) rfl hf (fun c13 hf => ?_) (fun c13 hf => ?_)
          · refine J_aload_n (q := 69) C0 1 rfl rfl dX3_isClause_68 rfl trivial ?_
            refine K_some hf (fun p14 hp14 hf => ?_)
            refine J_callU (q := 72) (ci := 3) (as := []) (rest := []) C0 rfl ((Ep12.at (Ep5.at (Ep3.at (Ep1.at h0))))) (t_X6_nextSign_k3 N a0  (Tp12) ((Ep12.at (Ep5.at (Ep3.at (Ep1.at h0)))))  hp14) rfl ml_X6_nextSign lk_X3_27 sa_657 im_X6_nextSign se_658 rfl (by decide) dX3_isClause_69 rfl rfl rfl (by simp [ac_]) C1.room (by decide) (by decide) (by decide) (by decide) (fun r_ τ_ hQ => ?_)
            obtain ⟨rfl, rfl, Tp14, Ep14⟩ := hQ
            show J_ Γ 72 [(1, vi (p5.1)), (0, vr (some a0))] [vi (p14.1)] p14.2 0 0
            refine K_some hf (fun p15 hp15 hf => ?_)
            refine J_callS (q := 75) (as := [vi (p14.1)]) (rest := []) C0 (t_X3_isComparison (p14.1)  hp15) ml_X3_isComparison lk_X3_46 sm_X3_isComparison dX3_isClause_72 rfl rfl rfl (by simp [ac_]) C1.room (by decide) (by decide) (by decide) (by decide) (fun r_ τ_ hQ => ?_)
            obtain ⟨⟨rfl, zp15⟩, ht_⟩ := hQ; have ht_ := ht_.symm; subst ht_
            show J_ Γ 75 [(1, vi (p5.1)), (0, vr (some a0))] [vi (p15)] p14.2 0 0
            refine J_if_eq (t := 115) (q := 78) C0 dX3_isClause_75 (by decide) rfl hf (fun c16 hf => ?_) (fun c16 hf => ?_)
            · refine J_aload_n (q := 116) C0 1 rfl rfl dX3_isClause_115 rfl trivial ?_
              refine J_bipush (q := 118) (v := (-12)) C0 dX3_isClause_116 rfl rfl ?_
              refine K_some hf (fun p17 hp17 hf => ?_)
              refine J_callV (q := 121) (ci := 3) (as := [vi ((-12))]) (rest := []) C0 rfl ((Ep14.at (Ep12.at (Ep5.at (Ep3.at (Ep1.at h0)))))) (t_X3_write a0 ((-12)) (Tp14) ((Ep14.at (Ep12.at (Ep5.at (Ep3.at (Ep1.at h0))))))  hp17) ml_X3_write lk_X3_60 im_X3_write se_X3_write rfl (by decide) dX3_isClause_118 rfl rfl rfl (by simp [ac_]) C1.room (by decide) (by decide) (by decide) (by decide) (fun r_ τ_ hQ => ?_)
              obtain ⟨rfl, ht_, Tp17, Ep17⟩ := hQ; have ht_ := ht_.symm; subst ht_
              show J_ Γ 121 [(1, vi (p5.1)), (0, vr (some a0))] [] p17 0 0
              refine J_iconst (q := 122) (v := 1) C0 dX3_isClause_121 rfl rfl ?_
              obtain rfl := Option.some.inj hf; exact J_zret C1 dX3_isClause_122 rfl (Or.inr rfl) (Nat.zero_le _) (Nat.zero_le _) ⟨⟨rfl, (Or.inr rfl)⟩, rfl, Tp17, ((((((hE).tr Ep1).tr Ep3).tr Ep5).tr Ep12).tr Ep14).tr Ep17⟩
            · refine J_aload_n (q := 79) C0 1 rfl rfl dX3_isClause_78 rfl trivial ?_
              refine J_iconst (q := 80) (v := 0) C0 dX3_isClause_79 rfl rfl ?_
              refine K_some hf (fun p18 hp18 hf => ?_)
              refine J_callV (q := 83) (ci := 3) (as := [vi (0)]) (rest := []) C0 rfl ((Ep14.at (Ep12.at (Ep5.at (Ep3.at (Ep1.at h0)))))) (t_X3_isCompared N a0 (0) (Tp14) ((Ep14.at (Ep12.at (Ep5.at (Ep3.at (Ep1.at h0))))))  hp18) ml_X3_isCompared lk_X3_49 im_X3_isCompared se_X3_isCompared rfl (by decide) dX3_isClause_80 rfl rfl rfl (by simp [ac_]) C1.room (by decide) (by decide) (by decide) (by decide) (fun r_ τ_ hQ => ?_)
              obtain ⟨⟨rfl, zp18⟩, rfl, Tp18, Ep18⟩ := hQ
              show J_ Γ 83 [(1, vi (p5.1)), (0, vr (some a0))] [vi (p18.1)] p18.2 0 0
              refine J_if_eq (t := 113) (q := 86) C0 dX3_isClause_83 (by decide) rfl hf (fun c19 hf => ?_) (fun c19 hf => ?_)
              · refine J_iconst (q := 114) (v := 0) C0 dX3_isClause_113 rfl rfl ?_
                obtain rfl := Option.some.inj hf; exact J_zret C1 dX3_isClause_114 rfl (Or.inl rfl) (Nat.zero_le _) (Nat.zero_le _) ⟨⟨rfl, (Or.inl rfl)⟩, rfl, Tp18, ((((((hE).tr Ep1).tr Ep3).tr Ep5).tr Ep12).tr Ep14).tr Ep18⟩
              · refine J_aload_n (q := 87) C0 1 rfl rfl dX3_isClause_86 rfl trivial ?_
                refine J_iconst (q := 88) (v := 0) C0 dX3_isClause_87 rfl rfl ?_
                refine K_some hf (fun p20 hp20 hf => ?_)
                refine J_callV (q := 91) (ci := 3) (as := [vi (0)]) (rest := []) C0 rfl ((Ep18.at (Ep14.at (Ep12.at (Ep5.at (Ep3.at (Ep1.at h0))))))) (t_X3_areMoreUnits N a0 (0) (Tp18) ((Ep18.at (Ep14.at (Ep12.at (Ep5.at (Ep3.at (Ep1.at h0)))))))  hp20) ml_X3_areMoreUnits lk_X3_52 im_X3_areMoreUnits se_X3_areMoreUnits rfl (by decide) dX3_isClause_88 rfl rfl rfl (by simp [ac_]) C1.room (by decide) (by decide) (by decide) (by decide) (fun r_ τ_ hQ => ?_)
                obtain ⟨⟨rfl, zp20⟩, rfl, Tp20, Ep20⟩ := hQ
                show J_ Γ 91 [(1, vi (p5.1)), (0, vr (some a0))] [vi (p20.1)] p20.2 0 0
                refine J_if_eq (t := 113) (q := 94) C0 dX3_isClause_91 (by decide) rfl hf (fun c21 hf => ?_) (fun c21 hf => ?_)
                · refine J_iconst (q := 114) (v := 0) C0 dX3_isClause_113 rfl rfl ?_
                  obtain rfl := Option.some.inj hf; exact J_zret C1 dX3_isClause_114 rfl (Or.inl rfl) (Nat.zero_le _) (Nat.zero_le _) ⟨⟨rfl, (Or.inl rfl)⟩, rfl, Tp20, (((((((hE).tr Ep1).tr Ep3).tr Ep5).tr Ep12).tr Ep14).tr Ep18).tr Ep20⟩
                · refine J_aload_n (q := 95) C0 1 rfl rfl dX3_isClause_94 rfl trivial ?_
                  refine J_iconst (q := 96) (v := 0) C0 dX3_isClause_95 rfl rfl ?_
                  refine K_some hf (fun p22 hp22 hf => ?_)
                  refine J_callV (q := 99) (ci := 3) (as := [vi (0)]) (rest := []) C0 rfl ((Ep20.at (Ep18.at (Ep14.at (Ep12.at (Ep5.at (Ep3.at (Ep1.at h0)))))))) (t_X3_areMoreTruths N a0 (0) (Tp20) ((Ep20.at (Ep18.at (Ep14.at (Ep12.at (Ep5.at (Ep3.at (Ep1.at h0))))))))  hp22) ml_X3_areMoreTruths lk_X3_55 im_X3_areMoreTruths se_X3_areMoreTruths rfl (by decide) dX3_isClause_96 rfl rfl rfl (by simp [ac_]) C1.room (by decide) (by decide) (by decide) (by decide) (fun r_ τ_ hQ => ?_)
                  obtain ⟨⟨rfl, zp22⟩, rfl, Tp22, Ep22⟩ := hQ
                  show J_ Γ 99 [(1, vi (p5.1)), (0, vr (some a0))] [vi (p22.1)] p22.2 0 0
                  refine J_if_eq (t := 113) (q := 102) C0 dX3_isClause_99 (by decide) rfl hf (fun c23 hf => ?_) (fun c23 hf => ?_)
                  · refine J_iconst (q := 114) (v := 0) C0 dX3_isClause_113 rfl rfl ?_
                    obtain rfl := Option.some.inj hf; exact J_zret C1 dX3_isClause_114 rfl (Or.inl rfl) (Nat.zero_le _) (Nat.zero_le _) ⟨⟨rfl, (Or.inl rfl)⟩, rfl, Tp22, ((((((((hE).tr Ep1).tr Ep3).tr Ep5).tr Ep12).tr Ep14).tr Ep18).tr Ep20).tr Ep22⟩
                  · refine J_aload_n (q := 103) C0 1 rfl rfl dX3_isClause_102 rfl trivial ?_
                    refine K_some hf (fun p24 hp24 hf => ?_)
                    refine J_callV (q := 106) (ci := 3) (as := []) (rest := []) C0 rfl ((Ep22.at (Ep20.at (Ep18.at (Ep14.at (Ep12.at (Ep5.at (Ep3.at (Ep1.at h0))))))))) (t_X3_isAnswerIf N a0  (Tp22) ((Ep22.at (Ep20.at (Ep18.at (Ep14.at (Ep12.at (Ep5.at (Ep3.at (Ep1.at h0)))))))))  hp24) ml_X3_isAnswerIf lk_X3_40 im_X3_isAnswerIf se_X3_isAnswerIf rfl (by decide) dX3_isClause_103 rfl rfl rfl (by simp [ac_]) C1.room (by decide) (by decide) (by decide) (by decide) (fun r_ τ_ hQ => ?_)
                    obtain ⟨⟨rfl, zp24⟩, rfl, Tp24, Ep24⟩ := hQ
                    show J_ Γ 106 [(1, vi (p5.1)), (0, vr (some a0))] [vi (p24.1)] p24.2 0 0
                    refine J_if_eq (t := 113) (q := 109) C0 dX3_isClause_106 (by decide) rfl hf (fun c25 hf => ?_) (fun c25 hf => ?_)
                    · refine J_iconst (q := 114) (v := 0) C0 dX3_isClause_113 rfl rfl ?_
                      obtain rfl := Option.some.inj hf; exact J_zret C1 dX3_isClause_114 rfl (Or.inl rfl) (Nat.zero_le _) (Nat.zero_le _) ⟨⟨rfl, (Or.inl rfl)⟩, rfl, Tp24, (((((((((hE).tr Ep1).tr Ep3).tr Ep5).tr Ep12).tr Ep14).tr Ep18).tr Ep20).tr Ep22).tr Ep24⟩
                    · refine J_iconst (q := 110) (v := 1) C0 dX3_isClause_109 rfl rfl ?_
                      refine J_goto (q := 114) C0 dX3_isClause_110 (by decide) ?_
                      obtain rfl := Option.some.inj hf; exact J_zret C1 dX3_isClause_114 rfl (Or.inr rfl) (Nat.zero_le _) (Nat.zero_le _) ⟨⟨rfl, (Or.inr rfl)⟩, rfl, Tp24, (((((((((hE).tr Ep1).tr Ep3).tr Ep5).tr Ep12).tr Ep14).tr Ep18).tr Ep20).tr Ep22).tr Ep24⟩
          · refine J_iconst (q := 67) (v := 0) C0 dX3_isClause_66 rfl rfl ?_
            obtain rfl := Option.some.inj hf; exact J_zret C1 dX3_isClause_67 rfl (Or.inl rfl) (Nat.zero_le _) (Nat.zero_le _) ⟨⟨rfl, (Or.inl rfl)⟩, rfl, Tp12, ((((hE).tr Ep1).tr Ep3).tr Ep5).tr Ep12⟩
        · refine J_sub (lv' := [(0, vr (some a0))]) [1] rfl ?_
          exact t_X3_isClause_B37 C1     (p5.2) (Tp5) ((((hE).tr Ep1).tr Ep3).tr Ep5) ((Ep5.at (Ep3.at (Ep1.at h0))))  hf
    · refine J_iconst (q := 19) (v := 0) C0 dX3_isClause_18 rfl rfl ?_
      obtain rfl := Option.some.inj hf; exact J_zret C1 dX3_isClause_19 rfl (Or.inl rfl) (Nat.zero_le _) (Nat.zero_le _) ⟨⟨rfl, (Or.inl rfl)⟩, rfl, Tp3, ((hE).tr Ep1).tr Ep3⟩
def f_X3_isWhole_L7 (N : Nat) (a0 : Nat) : Nat → Int32 → Sg → Option (Int32 × Sg)
  | 0, _, _ => none
  | n + 1, v1, σ =>
  if (240) < (v1) then
  (some (0, σ))
  else
  (Option.bind (f_X3_isClause N a0  σ) fun p2 =>
  if (p2.1) = (0) then
  (some (0, p2.2))
  else
  (Option.bind (f_X6_takes N a0 (59) p2.2) fun p4 =>
  if (p4.1) = (0) then
  (Option.bind (f_X6_nextSign N a0  p4.2) fun p6 =>
  if (p6.1) = ((-1)) then
  (some (1, p6.2))
  else
  (some (0, p6.2)))
  else
  (f_X3_isWhole_L7 N a0 n (v1 + 1) (p4.2))))
def f_X3_isWhole (N : Nat) (a0 : Nat) (σ : Sg) : Option (Int32 × Sg) :=
  f_X3_isWhole_L7 N a0 N (0) (put_I σ a0 4 (0))
set_option maxHeartbeats 4000000 in
set_option maxRecDepth 100000 in
theorem t_X3_isWhole_L7 {N : Nat} {a0 : Nat} {Γ : Gm} {σ0 : Sg} {r : (Int32 × Sg)} (C1 : CM Γ cX3_isWhole RX3 2 (some .boolean) 408 9777 0 0 (fun r_ τ_ => (r_ = some (vi r.1) ∧ (r.1 = 0 ∨ r.1 = 1)) ∧ τ_ = r.2 ∧ sg_T τ_ ∧ sg_E σ0 τ_)) : ∀ (n : Nat) (v1 : Int32) (σ : Sg), sg_T σ → sg_E σ0 σ → is_A σ a0 3 → f_X3_isWhole_L7 N a0  n v1 σ = some r → J_ Γ 7 [(0, vr (some a0)), (1, vi (v1))] [] σ 0 0 := by
  have C0 := C1.1
  intro n
  induction n with
  | zero => intro v1 σ hT hE h0  hf; unfold f_X3_isWhole_L7 at hf; cases hf
  | succ n ih =>
    intro v1 σ hT hE h0  hf
    rw [f_X3_isWhole_L7] at hf
    refine J_iload_n (q := 8) C0 1 rfl rfl dX3_isWhole_7 rfl ?_
    refine J_sipush (q := 11) (v := 240) C0 dX3_isWhole_8 rfl rfl ?_
    refine J_icmp_gt (t := 52) (q := 14) C0 dX3_isWhole_11 (by decide) rfl hf (fun c1 hf => ?_) (fun c1 hf => ?_)
    · refine J_iconst (q := 53) (v := 0) C0 dX3_isWhole_52 rfl rfl ?_
      obtain rfl := Option.some.inj hf; exact J_zret C1 dX3_isWhole_53 rfl (Or.inl rfl) (Nat.zero_le _) (Nat.zero_le _) ⟨⟨rfl, (Or.inl rfl)⟩, rfl, hT, hE⟩
    · refine J_aload_n (q := 15) C0 0 rfl rfl dX3_isWhole_14 rfl trivial ?_
      refine K_some hf (fun p2 hp2 hf => ?_)
      refine J_callV (q := 18) (ci := 3) (as := []) (rest := []) C0 rfl (h0) (t_X3_isClause N a0  (hT) (h0)  hp2) ml_X3_isClause lk_X3_19 im_X3_isClause se_X3_isClause rfl (by decide) dX3_isWhole_15 rfl rfl rfl (by simp [ac_]) C1.room (by decide) (by decide) (by decide) (by decide) (fun r_ τ_ hQ => ?_)
      obtain ⟨⟨rfl, zp2⟩, rfl, Tp2, Ep2⟩ := hQ
      show J_ Γ 18 [(0, vr (some a0)), (1, vi (v1))] [vi (p2.1)] p2.2 0 0
      refine J_if_ne (t := 23) (q := 21) C0 dX3_isWhole_18 (by decide) rfl hf (fun c3 hf => ?_) (fun c3 hf => ?_)
      · refine J_aload_n (q := 24) C0 0 rfl rfl dX3_isWhole_23 rfl trivial ?_
        refine J_bipush (q := 26) (v := 59) C0 dX3_isWhole_24 rfl rfl ?_
        refine K_some hf (fun p4 hp4 hf => ?_)
        refine J_callU (q := 29) (ci := 3) (as := [vi (59)]) (rest := []) C0 rfl ((Ep2.at h0)) (t_X6_takes_k3 N a0 (59) (Tp2) ((Ep2.at h0))  hp4) rfl ml_X6_takes lk_X3_23 sa_654 im_X6_takes se_655 rfl (by decide) dX3_isWhole_26 rfl rfl rfl (by simp [ac_]) C1.room (by decide) (by decide) (by decide) (by decide) (fun r_ τ_ hQ => ?_)
        obtain ⟨⟨rfl, zp4⟩, rfl, Tp4, Ep4⟩ := hQ
        show J_ Γ 29 [(0, vr (some a0)), (1, vi (v1))] [vi (p4.1)] p4.2 0 0
        refine J_if_ne (t := 46) (q := 32) C0 dX3_isWhole_29 (by decide) rfl hf (fun c5 hf => ?_) (fun c5 hf => ?_)
        · refine J_iinc (q := 49) (v := v1 + 1) (lv' := [(1, vi (v1 + 1)), (0, vr (some a0))]) C0 1 rfl rfl (G_nl C1 (by decide)) dX3_isWhole_46 rfl rfl ?_
          refine J_goto (q := 7) C0 dX3_isWhole_49 (by decide) ?_
          refine J_sub (lv' := [(0, vr (some a0)), (1, vi (v1 + 1))]) [1, 0] rfl ?_
          exact ih (v1 + 1) (p4.2) (Tp4) (((hE).tr Ep2).tr Ep4) ((Ep4.at (Ep2.at h0)))  hf
        · refine J_aload_n (q := 33) C0 0 rfl rfl dX3_isWhole_32 rfl trivial ?_
          refine K_some hf (fun p6 hp6 hf => ?_)
          refine J_callU (q := 36) (ci := 3) (as := []) (rest := []) C0 rfl ((Ep4.at (Ep2.at h0))) (t_X6_nextSign_k3 N a0  (Tp4) ((Ep4.at (Ep2.at h0)))  hp6) rfl ml_X6_nextSign lk_X3_27 sa_657 im_X6_nextSign se_658 rfl (by decide) dX3_isWhole_33 rfl rfl rfl (by simp [ac_]) C1.room (by decide) (by decide) (by decide) (by decide) (fun r_ τ_ hQ => ?_)
          obtain ⟨rfl, rfl, Tp6, Ep6⟩ := hQ
          show J_ Γ 36 [(0, vr (some a0)), (1, vi (v1))] [vi (p6.1)] p6.2 0 0
          refine J_iconst (q := 37) (v := (-1)) C0 dX3_isWhole_36 rfl rfl ?_
          refine J_icmp_ne (t := 44) (q := 40) C0 dX3_isWhole_37 (by decide) rfl hf (fun c7 hf => ?_) (fun c7 hf => ?_)
          · refine J_iconst (q := 45) (v := 0) C0 dX3_isWhole_44 rfl rfl ?_
            obtain rfl := Option.some.inj hf; exact J_zret C1 dX3_isWhole_45 rfl (Or.inl rfl) (Nat.zero_le _) (Nat.zero_le _) ⟨⟨rfl, (Or.inl rfl)⟩, rfl, Tp6, (((hE).tr Ep2).tr Ep4).tr Ep6⟩
          · refine J_iconst (q := 41) (v := 1) C0 dX3_isWhole_40 rfl rfl ?_
            refine J_goto (q := 45) C0 dX3_isWhole_41 (by decide) ?_
            obtain rfl := Option.some.inj hf; exact J_zret C1 dX3_isWhole_45 rfl (Or.inr rfl) (Nat.zero_le _) (Nat.zero_le _) ⟨⟨rfl, (Or.inr rfl)⟩, rfl, Tp6, (((hE).tr Ep2).tr Ep4).tr Ep6⟩
      · refine J_iconst (q := 22) (v := 0) C0 dX3_isWhole_21 rfl rfl ?_
        obtain rfl := Option.some.inj hf; exact J_zret C1 dX3_isWhole_22 rfl (Or.inl rfl) (Nat.zero_le _) (Nat.zero_le _) ⟨⟨rfl, (Or.inl rfl)⟩, rfl, Tp2, (hE).tr Ep2⟩
set_option maxHeartbeats 4000000 in
set_option maxRecDepth 100000 in
theorem t_X3_isWhole (N : Nat) (a0 : Nat) {σ : Sg} (hT : sg_T σ) (h0 : is_A σ a0 3) {r : (Int32 × Sg)} (hf : f_X3_isWhole N a0  σ = some r) : Ct yX3_isWhole cX3_isWhole 2 (some .boolean) 408 9777 0 0 [vr (some a0)] σ (fun r_ τ_ => (r_ = some (vi r.1) ∧ (r.1 = 0 ∨ r.1 = 1)) ∧ τ_ = r.2 ∧ sg_T τ_ ∧ sg_E σ τ_) := by
  refine Ct.of (by decide +kernel) (Nat.le_of_ble_eq_true rfl) (fun Γ C1 => ?_)
  have C0 := C1.1
  have hE : sg_E σ σ := sg_E.rf
  unfold f_X3_isWhole at hf
  show J_ Γ 0 [(0, vr (some a0))] [] σ 0 0
  refine J_aload_n (q := 1) C0 0 rfl rfl dX3_isWhole_0 rfl trivial ?_
  refine J_iconst (q := 2) (v := 0) C0 dX3_isWhole_1 rfl rfl ?_
  refine J_putI (q := 5) C0 fl_X3_15_3 rfl (h0) rfl dX3_isWhole_2 rfl ?_
  refine J_iconst (q := 6) (v := 0) C0 dX3_isWhole_5 rfl rfl ?_
  refine J_istore_n (q := 7) (lv' := [(1, vi (0)), (0, vr (some a0))]) C0 rfl (G_nl C1 (by decide)) dX3_isWhole_6 rfl rfl ?_
  refine J_sub (lv' := [(0, vr (some a0)), (1, vi (0))]) [1, 0] rfl ?_
  exact t_X3_isWhole_L7 C1    N (0) (put_I σ a0 4 (0)) ((hT).putI) ((hE).putI) ((h0).putI)  hf
def f_X4_clear (a0 : Nat) (σ : Sg) : Option Sg :=
  some (put_I σ a0 3 (0))
set_option maxHeartbeats 4000000 in
set_option maxRecDepth 100000 in
theorem t_X4_clear (a0 : Nat) {σ : Sg} (hT : sg_T σ) (h0 : is_A σ a0 4) {r : Sg} (hf : f_X4_clear a0  σ = some r) : Ct yX4_clear cX4_clear 1 none 0 0 0 0 [vr (some a0)] σ (fun r_ τ_ => (r_ = none) ∧ τ_ = r ∧ sg_T τ_ ∧ sg_E σ τ_) := by
  refine Ct.of (by decide +kernel) (Nat.le_of_ble_eq_true rfl) (fun Γ C1 => ?_)
  have C0 := C1.1
  have hE : sg_E σ σ := sg_E.rf
  unfold f_X4_clear at hf
  show J_ Γ 0 [(0, vr (some a0))] [] σ 0 0
  refine J_aload_n (q := 1) C0 0 rfl rfl dX4_clear_0 rfl trivial ?_
  refine J_iconst (q := 2) (v := 0) C0 dX4_clear_1 rfl rfl ?_
  refine J_putI (q := 5) C0 fl_X4_22_4 rfl (h0) rfl dX4_clear_2 rfl ?_
  obtain rfl := Option.some.inj hf; exact J_vret C1 dX4_clear_5 rfl (Nat.zero_le _) (Nat.zero_le _) ⟨rfl, rfl, (hT).putI, (hE).putI⟩
def f_X4_add (a0 : Nat) (x1 : Int32) (x2 : Int32) (x3 : Int32) (σ : Sg) : Option (Int32 × Sg) :=
  if (sg_I σ a0 3) < (10) then
  (Option.bind (sg_R σ a0 0) fun b2 =>
  if (sg_I σ a0 3) < 0 ∨ sg_L σ b2 ≤ (sg_I σ a0 3).toNatClampNeg then none else
  Option.bind (sg_R (put_I σ b2 (sg_I σ a0 3).toNatClampNeg (x1)) a0 1) fun b4 =>
  if (sg_I (put_I σ b2 (sg_I σ a0 3).toNatClampNeg (x1)) a0 3) < 0 ∨ sg_L (put_I σ b2 (sg_I σ a0 3).toNatClampNeg (x1)) b4 ≤ (sg_I (put_I σ b2 (sg_I σ a0 3).toNatClampNeg (x1)) a0 3).toNatClampNeg then none else
  Option.bind (sg_R (put_I (put_I σ b2 (sg_I σ a0 3).toNatClampNeg (x1)) b4 (sg_I (put_I σ b2 (sg_I σ a0 3).toNatClampNeg (x1)) a0 3).toNatClampNeg (x2)) a0 2) fun b6 =>
  if (sg_I (put_I (put_I σ b2 (sg_I σ a0 3).toNatClampNeg (x1)) b4 (sg_I (put_I σ b2 (sg_I σ a0 3).toNatClampNeg (x1)) a0 3).toNatClampNeg (x2)) a0 3) < 0 ∨ sg_L (put_I (put_I σ b2 (sg_I σ a0 3).toNatClampNeg (x1)) b4 (sg_I (put_I σ b2 (sg_I σ a0 3).toNatClampNeg (x1)) a0 3).toNatClampNeg (x2)) b6 ≤ (sg_I (put_I (put_I σ b2 (sg_I σ a0 3).toNatClampNeg (x1)) b4 (sg_I (put_I σ b2 (sg_I σ a0 3).toNatClampNeg (x1)) a0 3).toNatClampNeg (x2)) a0 3).toNatClampNeg then none else
  some (sg_I (put_I (put_I (put_I (put_I σ b2 (sg_I σ a0 3).toNatClampNeg (x1)) b4 (sg_I (put_I σ b2 (sg_I σ a0 3).toNatClampNeg (x1)) a0 3).toNatClampNeg (x2)) b6 (sg_I (put_I (put_I σ b2 (sg_I σ a0 3).toNatClampNeg (x1)) b4 (sg_I (put_I σ b2 (sg_I σ a0 3).toNatClampNeg (x1)) a0 3).toNatClampNeg (x2)) a0 3).toNatClampNeg ((x3) &&& 1)) a0 3 ((sg_I (put_I (put_I (put_I σ b2 (sg_I σ a0 3).toNatClampNeg (x1)) b4 (sg_I (put_I σ b2 (sg_I σ a0 3).toNatClampNeg (x1)) a0 3).toNatClampNeg (x2)) b6 (sg_I (put_I (put_I σ b2 (sg_I σ a0 3).toNatClampNeg (x1)) b4 (sg_I (put_I σ b2 (sg_I σ a0 3).toNatClampNeg (x1)) a0 3).toNatClampNeg (x2)) a0 3).toNatClampNeg ((x3) &&& 1)) a0 3) + (1))) a0 3, put_I (put_I (put_I (put_I σ b2 (sg_I σ a0 3).toNatClampNeg (x1)) b4 (sg_I (put_I σ b2 (sg_I σ a0 3).toNatClampNeg (x1)) a0 3).toNatClampNeg (x2)) b6 (sg_I (put_I (put_I σ b2 (sg_I σ a0 3).toNatClampNeg (x1)) b4 (sg_I (put_I σ b2 (sg_I σ a0 3).toNatClampNeg (x1)) a0 3).toNatClampNeg (x2)) a0 3).toNatClampNeg ((x3) &&& 1)) a0 3 ((sg_I (put_I (put_I (put_I σ b2 (sg_I σ a0 3).toNatClampNeg (x1)) b4 (sg_I (put_I σ b2 (sg_I σ a0 3).toNatClampNeg (x1)) a0 3).toNatClampNeg (x2)) b6 (sg_I (put_I (put_I σ b2 (sg_I σ a0 3).toNatClampNeg (x1)) b4 (sg_I (put_I σ b2 (sg_I σ a0 3).toNatClampNeg (x1)) a0 3).toNatClampNeg (x2)) a0 3).toNatClampNeg ((x3) &&& 1)) a0 3) + (1))))
  else
  (some ((-1), σ))
set_option maxHeartbeats 4000000 in
set_option maxRecDepth 100000 in
theorem t_X4_add (a0 : Nat) (x1 : Int32) (x2 : Int32) (x3 : Int32) {σ : Sg} (hT : sg_T σ) (h0 : is_A σ a0 4) {r : (Int32 × Sg)} (hf : f_X4_add a0 x1 x2 x3 σ = some r) : Ct yX4_add cX4_add 4 (some .int) 0 0 0 0 [vr (some a0), vi x1, vi x2, vi x3] σ (fun r_ τ_ => (r_ = some (vi r.1)) ∧ τ_ = r.2 ∧ sg_T τ_ ∧ sg_E σ τ_) := by
  refine Ct.of (by decide +kernel) (Nat.le_of_ble_eq_true rfl) (fun Γ C1 => ?_)
  have C0 := C1.1
  have hE : sg_E σ σ := sg_E.rf
  unfold f_X4_add at hf
  show J_ Γ 0 [(0, vr (some a0)), (1, vi (x1)), (2, vi (x2)), (3, vi (x3))] [] σ 0 0
  refine J_aload_n (q := 1) C0 0 rfl rfl dX4_add_0 rfl trivial ?_
  refine J_getI (q := 4) C0 fl_X4_22_4 rfl (h0) rfl dX4_add_1 rfl ?_
  refine J_bipush (q := 6) (v := 10) C0 dX4_add_4 rfl rfl ?_
  refine J_icmp_lt (t := 11) (q := 9) C0 dX4_add_6 (by decide) rfl hf (fun c1 hf => ?_) (fun c1 hf => ?_)
  · refine J_aload_n (q := 12) C0 0 rfl rfl dX4_add_11 rfl trivial ?_
    refine J_getR (q := 15) C0 fl_X4_9_4 rfl (h0) rfl dX4_add_12 rfl ?_
    refine J_aload_n (q := 16) C0 0 rfl rfl dX4_add_15 rfl trivial ?_
    refine J_getI (q := 19) C0 fl_X4_22_4 rfl (h0) rfl dX4_add_16 rfl ?_
    refine J_iload_n (q := 20) C0 1 rfl rfl dX4_add_19 rfl ?_
    refine K_some hf (fun b2 hb2 hf => ?_)
    have ab2 : is_A σ b2 12 := ((sg_T.op hT (j := 0) (h0) rfl)) b2 hb2
    refine K_chk hf (fun c3 hf => ?_)
    refine J_iast (q := 21) C0 hb2 (ab2) c3 dX4_add_20 rfl ?_
    refine J_aload_n (q := 22) C0 0 rfl rfl dX4_add_21 rfl trivial ?_
    refine J_getR (q := 25) C0 fl_X4_15_4 rfl ((h0).putI) rfl dX4_add_22 rfl ?_
    refine J_aload_n (q := 26) C0 0 rfl rfl dX4_add_25 rfl trivial ?_
    refine J_getI (q := 29) C0 fl_X4_22_4 rfl ((h0).putI) rfl dX4_add_26 rfl ?_
    refine J_iload_n (q := 30) C0 2 rfl rfl dX4_add_29 rfl ?_
    refine K_some hf (fun b4 hb4 hf => ?_)
    have ab4 : is_A (put_I σ b2 (sg_I σ a0 3).toNatClampNeg (x1)) b4 12 := ((sg_T.op (hT).putI (j := 1) ((h0).putI) rfl)) b4 hb4
    refine K_chk hf (fun c5 hf => ?_)
    refine J_iast (q := 31) C0 hb4 (ab4) c5 dX4_add_30 rfl ?_
    refine J_aload_n (q := 32) C0 0 rfl rfl dX4_add_31 rfl trivial ?_
    refine J_getR (q := 35) C0 fl_X4_18_4 rfl (((h0).putI).putI) rfl dX4_add_32 rfl ?_
    refine J_aload_n (q := 36) C0 0 rfl rfl dX4_add_35 rfl trivial ?_
    refine J_getI (q := 39) C0 fl_X4_22_4 rfl (((h0).putI).putI) rfl dX4_add_36 rfl ?_
    refine J_iload_n (q := 40) C0 3 rfl rfl dX4_add_39 rfl ?_
    refine K_some hf (fun b6 hb6 hf => ?_)
    have ab6 : is_A (put_I (put_I σ b2 (sg_I σ a0 3).toNatClampNeg (x1)) b4 (sg_I (put_I σ b2 (sg_I σ a0 3).toNatClampNeg (x1)) a0 3).toNatClampNeg (x2)) b6 13 := ((sg_T.op ((hT).putI).putI (j := 2) (((h0).putI).putI) rfl)) b6 hb6
    refine K_chk hf (fun c7 hf => ?_)
    refine J_zast (q := 41) C0 hb6 (ab6) c7 dX4_add_40 rfl ?_
    refine J_aload_n (q := 42) C0 0 rfl rfl dX4_add_41 rfl trivial ?_
    refine J_dup (q := 43) C0 dX4_add_42 rfl rfl ?_
    refine J_getI (q := 46) C0 fl_X4_22_4 rfl ((((h0).putI).putI).putI) rfl dX4_add_43 rfl ?_
    refine J_iconst (q := 47) (v := 1) C0 dX4_add_46 rfl rfl ?_
    refine J_iadd (q := 48) C0 dX4_add_47 rfl ?_
    refine J_putI (q := 51) C0 fl_X4_22_4 rfl ((((h0).putI).putI).putI) rfl dX4_add_48 rfl ?_
    refine J_aload_n (q := 52) C0 0 rfl rfl dX4_add_51 rfl trivial ?_
    refine J_getI (q := 55) C0 fl_X4_22_4 rfl (((((h0).putI).putI).putI).putI) rfl dX4_add_52 rfl ?_
    obtain rfl := Option.some.inj hf; exact J_iret C1 dX4_add_55 rfl (Nat.zero_le _) (Nat.zero_le _) ⟨rfl, rfl, ((((hT).putI).putI).putI).putI, ((((hE).putI).putI).putI).putI⟩
  · refine J_iconst (q := 10) (v := (-1)) C0 dX4_add_9 rfl rfl ?_
    obtain rfl := Option.some.inj hf; exact J_iret C1 dX4_add_10 rfl (Nat.zero_le _) (Nat.zero_le _) ⟨rfl, rfl, hT, hE⟩
