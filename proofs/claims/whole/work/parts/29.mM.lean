def f_X12_in (x0 : Int32) (x1 : Int32) (x2 : Int32) : Option Int32 :=
  if (x0) < (x1) then
  (some (0))
  else
  (if (x2) < (x0) then
  (some (0))
  else
  (some (1)))
set_option maxHeartbeats 4000000 in
set_option maxRecDepth 100000 in
theorem t_X12_in (x0 : Int32) (x1 : Int32) (x2 : Int32) {σ : Sg} {r : Int32} (hf : f_X12_in x0 x1 x2 = some r) : Ct yX12_in cX12_in 3 (some .boolean) 0 0 0 0 [vi x0, vi x1, vi x2] σ (fun r_ τ_ => (r_ = some (vi r) ∧ (r = 0 ∨ r = 1)) ∧ τ_ = σ) := by
  refine Ct.of (by decide +kernel) (Nat.le_of_ble_eq_true rfl) (fun Γ C1 => ?_)
  have C0 := C1.1
  unfold f_X12_in at hf
  show J_ Γ 0 [(0, vi (x0)), (1, vi (x1)), (2, vi (x2))] [] σ 0 0
  refine J_iload_n (q := 1) C0 0 rfl rfl dX12_in_0 rfl ?_
  refine J_iload_n (q := 2) C0 1 rfl rfl dX12_in_1 rfl ?_
  refine J_icmp_lt (t := 14) (q := 5) C0 dX12_in_2 (by decide) rfl hf (fun c1 hf => ?_) (fun c1 hf => ?_)
  · refine J_iconst (q := 15) (v := 0) C0 dX12_in_14 rfl rfl ?_
    obtain rfl := Option.some.inj hf; exact J_zret C1 dX12_in_15 rfl (Or.inl rfl) (Nat.zero_le _) (Nat.zero_le _) ⟨⟨rfl, (Or.inl rfl)⟩, rfl⟩
  · refine J_iload_n (q := 6) C0 0 rfl rfl dX12_in_5 rfl ?_
    refine J_iload_n (q := 7) C0 2 rfl rfl dX12_in_6 rfl ?_
    refine J_icmp_gt (t := 14) (q := 10) C0 dX12_in_7 (by decide) rfl hf (fun c2 hf => ?_) (fun c2 hf => ?_)
    · refine J_iconst (q := 15) (v := 0) C0 dX12_in_14 rfl rfl ?_
      obtain rfl := Option.some.inj hf; exact J_zret C1 dX12_in_15 rfl (Or.inl rfl) (Nat.zero_le _) (Nat.zero_le _) ⟨⟨rfl, (Or.inl rfl)⟩, rfl⟩
    · refine J_iconst (q := 11) (v := 1) C0 dX12_in_10 rfl rfl ?_
      refine J_goto (q := 15) C0 dX12_in_11 (by decide) ?_
      obtain rfl := Option.some.inj hf; exact J_zret C1 dX12_in_15 rfl (Or.inr rfl) (Nat.zero_le _) (Nat.zero_le _) ⟨⟨rfl, (Or.inr rfl)⟩, rfl⟩
def f_X12_has (x0 : Int32) (x1 : Int32) : Option Int32 :=
  if (((x0) >>> ((x1) &&& 31)) &&& (1)) = (1) then
  (some (1))
  else
  (some (0))
set_option maxHeartbeats 4000000 in
set_option maxRecDepth 100000 in
theorem t_X12_has (x0 : Int32) (x1 : Int32) {σ : Sg} {r : Int32} (hf : f_X12_has x0 x1 = some r) : Ct yX12_has cX12_has 2 (some .boolean) 0 0 0 0 [vi x0, vi x1] σ (fun r_ τ_ => (r_ = some (vi r) ∧ (r = 0 ∨ r = 1)) ∧ τ_ = σ) := by
  refine Ct.of (by decide +kernel) (Nat.le_of_ble_eq_true rfl) (fun Γ C1 => ?_)
  have C0 := C1.1
  unfold f_X12_has at hf
  show J_ Γ 0 [(0, vi (x0)), (1, vi (x1))] [] σ 0 0
  refine J_iload_n (q := 1) C0 0 rfl rfl dX12_has_0 rfl ?_
  refine J_iload_n (q := 2) C0 1 rfl rfl dX12_has_1 rfl ?_
  refine J_ishr (q := 3) C0 dX12_has_2 rfl ?_
  refine J_iconst (q := 4) (v := 1) C0 dX12_has_3 rfl rfl ?_
  refine J_iand (q := 5) C0 dX12_has_4 rfl ?_
  refine J_iconst (q := 6) (v := 1) C0 dX12_has_5 rfl rfl ?_
  refine J_icmp_ne (t := 13) (q := 9) C0 dX12_has_6 (by decide) rfl hf (fun c1 hf => ?_) (fun c1 hf => ?_)
  · refine J_iconst (q := 14) (v := 0) C0 dX12_has_13 rfl rfl ?_
    obtain rfl := Option.some.inj hf; exact J_zret C1 dX12_has_14 rfl (Or.inl rfl) (Nat.zero_le _) (Nat.zero_le _) ⟨⟨rfl, (Or.inl rfl)⟩, rfl⟩
  · refine J_iconst (q := 10) (v := 1) C0 dX12_has_9 rfl rfl ?_
    refine J_goto (q := 14) C0 dX12_has_10 (by decide) ?_
    obtain rfl := Option.some.inj hf; exact J_zret C1 dX12_has_14 rfl (Or.inr rfl) (Nat.zero_le _) (Nat.zero_le _) ⟨⟨rfl, (Or.inr rfl)⟩, rfl⟩
def f_X12_round (x0 : Int32) (x1 : Int32) : Option Int32 :=
  if (x1) = 0 then none else
  if (x1) = 0 then none else
  some (rm_ ((rm_ (x0) (x1)) + (x1)) (x1))
set_option maxHeartbeats 4000000 in
set_option maxRecDepth 100000 in
theorem t_X12_round (x0 : Int32) (x1 : Int32) {σ : Sg} {r : Int32} (hf : f_X12_round x0 x1 = some r) : Ct yX12_round cX12_round 2 (some .int) 0 0 0 0 [vi x0, vi x1] σ (fun r_ τ_ => (r_ = some (vi r)) ∧ τ_ = σ) := by
  refine Ct.of (by decide +kernel) (Nat.le_of_ble_eq_true rfl) (fun Γ C1 => ?_)
  have C0 := C1.1
  unfold f_X12_round at hf
  show J_ Γ 0 [(0, vi (x0)), (1, vi (x1))] [] σ 0 0
  refine J_iload_n (q := 1) C0 0 rfl rfl dX12_round_0 rfl ?_
  refine J_iload_n (q := 2) C0 1 rfl rfl dX12_round_1 rfl ?_
  refine K_chk hf (fun c1 hf => ?_)
  refine J_irem (q := 3) C0 dX12_round_2 rfl c1 ?_
  refine J_iload_n (q := 4) C0 1 rfl rfl dX12_round_3 rfl ?_
  refine J_iadd (q := 5) C0 dX12_round_4 rfl ?_
  refine J_iload_n (q := 6) C0 1 rfl rfl dX12_round_5 rfl ?_
  refine K_chk hf (fun c2 hf => ?_)
  refine J_irem (q := 7) C0 dX12_round_6 rfl c2 ?_
  obtain rfl := Option.some.inj hf; exact J_iret C1 dX12_round_7 rfl (Nat.zero_le _) (Nat.zero_le _) ⟨rfl, rfl⟩
def f_X12_thrown (a0 : Nat) (σ : Sg) : Option Int32 :=
  some (sg_I σ a0 0)
set_option maxHeartbeats 4000000 in
set_option maxRecDepth 100000 in
theorem t_X12_thrown (a0 : Nat) {σ : Sg} (h0 : is_A σ a0 11) {r : Int32} (hf : f_X12_thrown a0  σ = some r) : Ct yX12_thrown cX12_thrown 1 (some .int) 0 0 0 0 [vr (some a0)] σ (fun r_ τ_ => (r_ = some (vi r)) ∧ τ_ = σ) := by
  refine Ct.of (by decide +kernel) (Nat.le_of_ble_eq_true rfl) (fun Γ C1 => ?_)
  have C0 := C1.1
  unfold f_X12_thrown at hf
  show J_ Γ 0 [(0, vr (some a0))] [] σ 0 0
  refine J_aload_n (q := 1) C0 0 rfl rfl dX12_thrown_0 rfl trivial ?_
  refine J_getI (q := 4) C0 fl_X12_93_11 rfl (h0) rfl dX12_thrown_1 rfl ?_
  obtain rfl := Option.some.inj hf; exact J_iret C1 dX12_thrown_4 rfl (Nat.zero_le _) (Nat.zero_le _) ⟨rfl, rfl⟩
def f_X12_byteOf_B45 (v5 : Int32) (s0 : Int32) : Option Int32 :=
  some (((s0) >>> (((24) - ((8) * (rm_ (v5) (4)))) &&& 31)) &&& (255))
def f_X12_byteOf (x0 : Int32) (x1 : Int32) (x2 : Int32) (x3 : Int32) (x4 : Int32) (x5 : Int32) : Option Int32 :=
  if (x5) < (4) then
  (f_X12_byteOf_B45 (x5) (x0) )
  else
  (if (x5) < (8) then
  (f_X12_byteOf_B45 (x5) (x1) )
  else
  (if (x5) < (12) then
  (f_X12_byteOf_B45 (x5) (x2) )
  else
  (if (x5) < (16) then
  (f_X12_byteOf_B45 (x5) (x3) )
  else
  (f_X12_byteOf_B45 (x5) (x4) ))))
set_option maxHeartbeats 4000000 in
set_option maxRecDepth 100000 in
theorem t_X12_byteOf_B45 {Γ : Gm} {σ : Sg} {r : Int32} (C1 : CM Γ cX12_byteOf RX12 7 (some .int) 0 0 0 0 (fun r_ τ_ => (r_ = some (vi r)) ∧ τ_ = σ)) (v5 : Int32) (s0 : Int32) (hf : f_X12_byteOf_B45  v5 s0 = some r) : J_ Γ 45 [(5, vi (v5))] [vi (s0)] σ 0 0 := by
  have C0 := C1.1
  unfold f_X12_byteOf_B45 at hf
  refine J_istore (q := 47) (lv' := [(6, vi (s0)), (5, vi (v5))]) C0 (G_nl C1 (by decide)) dX12_byteOf_45 rfl rfl ?_
  refine J_iload (q := 49) C0 0 rfl dX12_byteOf_47 rfl ?_
  refine J_bipush (q := 51) (v := 24) C0 dX12_byteOf_49 rfl rfl ?_
  refine J_bipush (q := 53) (v := 8) C0 dX12_byteOf_51 rfl rfl ?_
  refine J_iload (q := 55) C0 1 rfl dX12_byteOf_53 rfl ?_
  refine J_iconst (q := 56) (v := 4) C0 dX12_byteOf_55 rfl rfl ?_
  refine J_irem (q := 57) C0 dX12_byteOf_56 rfl (by decide) ?_
  refine J_imul (q := 58) C0 dX12_byteOf_57 rfl ?_
  refine J_isub (q := 59) C0 dX12_byteOf_58 rfl ?_
  refine J_ishr (q := 60) C0 dX12_byteOf_59 rfl ?_
  refine J_sipush (q := 63) (v := 255) C0 dX12_byteOf_60 rfl rfl ?_
  refine J_iand (q := 64) C0 dX12_byteOf_63 rfl ?_
  obtain rfl := Option.some.inj hf; exact J_iret C1 dX12_byteOf_64 rfl (Nat.zero_le _) (Nat.zero_le _) ⟨rfl, rfl⟩
set_option maxHeartbeats 4000000 in
set_option maxRecDepth 100000 in
theorem t_X12_byteOf (x0 : Int32) (x1 : Int32) (x2 : Int32) (x3 : Int32) (x4 : Int32) (x5 : Int32) {σ : Sg} {r : Int32} (hf : f_X12_byteOf x0 x1 x2 x3 x4 x5 = some r) : Ct yX12_byteOf cX12_byteOf 7 (some .int) 0 0 0 0 [vi x0, vi x1, vi x2, vi x3, vi x4, vi x5] σ (fun r_ τ_ => (r_ = some (vi r)) ∧ τ_ = σ) := by
  refine Ct.of (by decide +kernel) (Nat.le_of_ble_eq_true rfl) (fun Γ C1 => ?_)
  have C0 := C1.1
  unfold f_X12_byteOf at hf
  show J_ Γ 0 [(0, vi (x0)), (1, vi (x1)), (2, vi (x2)), (3, vi (x3)), (4, vi (x4)), (5, vi (x5))] [] σ 0 0
  refine J_iload (q := 2) C0 5 rfl dX12_byteOf_0 rfl ?_
  refine J_iconst (q := 3) (v := 4) C0 dX12_byteOf_2 rfl rfl ?_
  refine J_icmp_ge (t := 10) (q := 6) C0 dX12_byteOf_3 (by decide) rfl hf (fun c1 hf => ?_) (fun c1 hf => ?_)
  · refine J_iload (q := 12) C0 5 rfl dX12_byteOf_10 rfl ?_
    refine J_bipush (q := 14) (v := 8) C0 dX12_byteOf_12 rfl rfl ?_
    refine J_icmp_ge (t := 21) (q := 17) C0 dX12_byteOf_14 (by decide) rfl hf (fun c2 hf => ?_) (fun c2 hf => ?_)
    · refine J_iload (q := 23) C0 5 rfl dX12_byteOf_21 rfl ?_
      refine J_bipush (q := 25) (v := 12) C0 dX12_byteOf_23 rfl rfl ?_
      refine J_icmp_ge (t := 32) (q := 28) C0 dX12_byteOf_25 (by decide) rfl hf (fun c3 hf => ?_) (fun c3 hf => ?_)
      · refine J_iload (q := 34) C0 5 rfl dX12_byteOf_32 rfl ?_
        refine J_bipush (q := 36) (v := 16) C0 dX12_byteOf_34 rfl rfl ?_
        refine J_icmp_ge (t := 43) (q := 39) C0 dX12_byteOf_36 (by decide) rfl hf (fun c4 hf => ?_) (fun c4 hf => ?_)
        · refine J_iload (q := 45) C0 4 rfl dX12_byteOf_43 rfl ?_
          refine J_sub (lv' := [(5, vi (x5))]) [5] rfl ?_
          exact t_X12_byteOf_B45 C1   (x5) (x4)  hf
        · refine J_iload_n (q := 40) C0 3 rfl rfl dX12_byteOf_39 rfl ?_
          refine J_goto (q := 45) C0 dX12_byteOf_40 (by decide) ?_
          refine J_sub (lv' := [(5, vi (x5))]) [5] rfl ?_
          exact t_X12_byteOf_B45 C1   (x5) (x3)  hf
      · refine J_iload_n (q := 29) C0 2 rfl rfl dX12_byteOf_28 rfl ?_
        refine J_goto (q := 45) C0 dX12_byteOf_29 (by decide) ?_
        refine J_sub (lv' := [(5, vi (x5))]) [5] rfl ?_
        exact t_X12_byteOf_B45 C1   (x5) (x2)  hf
    · refine J_iload_n (q := 18) C0 1 rfl rfl dX12_byteOf_17 rfl ?_
      refine J_goto (q := 45) C0 dX12_byteOf_18 (by decide) ?_
      refine J_sub (lv' := [(5, vi (x5))]) [5] rfl ?_
      exact t_X12_byteOf_B45 C1   (x5) (x1)  hf
  · refine J_iload_n (q := 7) C0 0 rfl rfl dX12_byteOf_6 rfl ?_
    refine J_goto (q := 45) C0 dX12_byteOf_7 (by decide) ?_
    refine J_sub (lv' := [(5, vi (x5))]) [5] rfl ?_
    exact t_X12_byteOf_B45 C1   (x5) (x0)  hf
def f_X12_feed_B109 (N : Nat) (a0 : Nat) (k62 : Int32 → Int32 → Int32 → Int32 → Int32 → Int32 → Sg → Option (Int32 × Sg)) (v1 : Int32) (v2 : Int32) (v3 : Int32) (v4 : Int32) (v5 : Int32) (v7 : Int32) (σ : Sg) : Option (Int32 × Sg) :=
  k62 (v1) (v2) (v3) (v4) (v5) (v7 + 1) σ
def f_X12_feed_L62 (N : Nat) (a0 : Nat) : Nat → Int32 → Int32 → Int32 → Int32 → Int32 → Int32 → Sg → Option (Int32 × Sg)
  | 0, _, _, _, _, _, _, _ => none
  | n + 1, v1, v2, v3, v4, v5, v7, σ =>
  if (v7) < (20) then
  (Option.bind (f_X12_byteOf (v1) (v2) (v3) (v4) (v5) (v7) ) fun p4 =>
  if (p4) = (0) then
  (f_X12_feed_B109 N a0 (f_X12_feed_L62 N a0 n) (v1) (v2) (v3) (v4) (v5) (v7) σ)
  else
  (Option.bind (sg_R σ a0 1) fun b6 =>
  if (sg_I σ a0 2) < 0 ∨ sg_L σ b6 ≤ (sg_I σ a0 2).toNatClampNeg then none else
  f_X12_feed_B109 N a0 (f_X12_feed_L62 N a0 n) (v1) (v2) (v3) (v4) (v5) (v7) (put_I (put_I σ b6 (sg_I σ a0 2).toNatClampNeg (p4)) a0 2 ((sg_I (put_I σ b6 (sg_I σ a0 2).toNatClampNeg (p4)) a0 2) + (1)))))
  else
  (some (sg_I σ a0 2, σ))
def f_X12_feed_B35 (N : Nat) (a0 : Nat) (k6 : Int32 → Int32 → Int32 → Int32 → Int32 → Int32 → Int32 → Sg → Option (Int32 × Sg)) (v1 : Int32) (v2 : Int32) (v3 : Int32) (v4 : Int32) (v5 : Int32) (v7 : Int32) (s0 : Int32) (s1 : Int32) (σ : Sg) : Option (Int32 × Sg) :=
  k6 (v1) (v2) (v3) (v4) (v5) ((s1) + (s0)) (v7 + 1) σ
def f_X12_feed_L6 (N : Nat) (a0 : Nat) : Nat → Int32 → Int32 → Int32 → Int32 → Int32 → Int32 → Int32 → Sg → Option (Int32 × Sg)
  | 0, _, _, _, _, _, _, _, _ => none
  | n + 1, v1, v2, v3, v4, v5, v6, v7, σ =>
  if (v7) < (20) then
  (Option.bind (f_X12_byteOf (v1) (v2) (v3) (v4) (v5) (v7) ) fun p8 =>
  if (p8) = (0) then
  (f_X12_feed_B35 N a0 (f_X12_feed_L6 N a0 n) (v1) (v2) (v3) (v4) (v5) (v7) (0) (v6) σ)
  else
  (f_X12_feed_B35 N a0 (f_X12_feed_L6 N a0 n) (v1) (v2) (v3) (v4) (v5) (v7) (1) (v6) σ))
  else
  (if (240) < ((sg_I σ a0 2) + (v6)) then
  (some ((-1), σ))
  else
  (f_X12_feed_L62 N a0 N (v1) (v2) (v3) (v4) (v5) (0) σ))
def f_X12_feed (N : Nat) (a0 : Nat) (x1 : Int32) (x2 : Int32) (x3 : Int32) (x4 : Int32) (x5 : Int32) (σ : Sg) : Option (Int32 × Sg) :=
  f_X12_feed_L6 N a0 N (x1) (x2) (x3) (x4) (x5) (0) (0) σ
set_option maxHeartbeats 4000000 in
set_option maxRecDepth 100000 in
theorem t_X12_feed_B109 {N : Nat} {a0 : Nat} {Γ : Gm} {σ0 : Sg} {r : (Int32 × Sg)} (C1 : CM Γ cX12_feed RX12 9 (some .int) 1 26 0 0 (fun r_ τ_ => (r_ = some (vi r.1)) ∧ τ_ = r.2 ∧ sg_T τ_ ∧ sg_E σ0 τ_)) (k62 : Int32 → Int32 → Int32 → Int32 → Int32 → Int32 → Sg → Option (Int32 × Sg)) (hk62 : ∀ (v1 : Int32) (v2 : Int32) (v3 : Int32) (v4 : Int32) (v5 : Int32) (v7 : Int32) (σ : Sg), sg_T σ → sg_E σ0 σ → is_A σ a0 11 → k62 v1 v2 v3 v4 v5 v7 σ = some r → J_ Γ 62 [(0, vr (some a0)), (1, vi v1), (2, vi v2), (3, vi v3), (4, vi v4), (5, vi v5), (7, vi v7)] [] σ 0 0) (v1 : Int32) (v2 : Int32) (v3 : Int32) (v4 : Int32) (v5 : Int32) (v7 : Int32) (σ : Sg) (hT : sg_T σ) (hE : sg_E σ0 σ) (h0 : is_A σ a0 11) (hf : f_X12_feed_B109 N a0 k62  v1 v2 v3 v4 v5 v7 σ = some r) : J_ Γ 109 [(0, vr (some a0)), (1, vi (v1)), (2, vi (v2)), (3, vi (v3)), (4, vi (v4)), (5, vi (v5)), (7, vi (v7))] [] σ 0 0 := by
  have C0 := C1.1
  unfold f_X12_feed_B109 at hf
  refine J_iinc (q := 112) (v := v7 + 1) (lv' := [(7, vi (v7 + 1)), (0, vr (some a0)), (1, vi (v1)), (2, vi (v2)), (3, vi (v3)), (4, vi (v4)), (5, vi (v5))]) C0 6 rfl rfl (G_nl C1 (by decide)) dX12_feed_109 rfl rfl ?_
  refine J_goto (q := 62) C0 dX12_feed_112 (by decide) ?_
  refine J_sub (lv' := [(0, vr (some a0)), (1, vi (v1)), (2, vi (v2)), (3, vi (v3)), (4, vi (v4)), (5, vi (v5)), (7, vi (v7 + 1))]) [1, 2, 3, 4, 5, 6, 0] rfl ?_
  exact hk62 (v1) (v2) (v3) (v4) (v5) (v7 + 1) σ (hT) (hE)  (h0)  hf
set_option maxHeartbeats 4000000 in
set_option maxRecDepth 100000 in
theorem t_X12_feed_L62 {N : Nat} {a0 : Nat} {Γ : Gm} {σ0 : Sg} {r : (Int32 × Sg)} (C1 : CM Γ cX12_feed RX12 9 (some .int) 1 26 0 0 (fun r_ τ_ => (r_ = some (vi r.1)) ∧ τ_ = r.2 ∧ sg_T τ_ ∧ sg_E σ0 τ_)) : ∀ (n : Nat) (v1 : Int32) (v2 : Int32) (v3 : Int32) (v4 : Int32) (v5 : Int32) (v7 : Int32) (σ : Sg), sg_T σ → sg_E σ0 σ → is_A σ a0 11 → f_X12_feed_L62 N a0  n v1 v2 v3 v4 v5 v7 σ = some r → J_ Γ 62 [(0, vr (some a0)), (1, vi (v1)), (2, vi (v2)), (3, vi (v3)), (4, vi (v4)), (5, vi (v5)), (7, vi (v7))] [] σ 0 0 := by
  have C0 := C1.1
  intro n
  induction n with
  | zero => intro v1 v2 v3 v4 v5 v7 σ hT hE h0  hf; unfold f_X12_feed_L62 at hf; cases hf
  | succ n ih =>
    intro v1 v2 v3 v4 v5 v7 σ hT hE h0  hf
    rw [f_X12_feed_L62] at hf
    refine J_iload (q := 64) C0 6 rfl dX12_feed_62 rfl ?_
    refine J_bipush (q := 66) (v := 20) C0 dX12_feed_64 rfl rfl ?_
    refine J_icmp_ge (t := 115) (q := 69) C0 dX12_feed_66 (by decide) rfl hf (fun c3 hf => ?_) (fun c3 hf => ?_)
    · refine J_aload_n (q := 116) C0 0 rfl rfl dX12_feed_115 rfl trivial ?_
      refine J_getI (q := 119) C0 fl_X12_100_11 rfl (h0) rfl dX12_feed_116 rfl ?_
      obtain rfl := Option.some.inj hf; exact J_iret C1 dX12_feed_119 rfl (Nat.zero_le _) (Nat.zero_le _) ⟨rfl, rfl, hT, hE⟩
    · refine J_iload_n (q := 70) C0 1 rfl rfl dX12_feed_69 rfl ?_
      refine J_iload_n (q := 71) C0 2 rfl rfl dX12_feed_70 rfl ?_
      refine J_iload_n (q := 72) C0 3 rfl rfl dX12_feed_71 rfl ?_
      refine J_iload (q := 74) C0 4 rfl dX12_feed_72 rfl ?_
      refine J_iload (q := 76) C0 5 rfl dX12_feed_74 rfl ?_
      refine J_iload (q := 78) C0 6 rfl dX12_feed_76 rfl ?_
      refine K_some hf (fun p4 hp4 hf => ?_)
      refine J_callS (q := 81) (as := [vi (v1), vi (v2), vi (v3), vi (v4), vi (v5), vi (v7)]) (rest := []) C0 (t_X12_byteOf (v1) (v2) (v3) (v4) (v5) (v7)  hp4) ml_X12_byteOf lk_X12_96 sm_X12_byteOf dX12_feed_78 rfl rfl rfl (by simp [ac_]) C1.room (by decide) (by decide) (by decide) (by decide) (fun r_ τ_ hQ => ?_)
      obtain ⟨rfl, ht_⟩ := hQ; have ht_ := ht_.symm; subst ht_
      show J_ Γ 81 [(0, vr (some a0)), (1, vi (v1)), (2, vi (v2)), (3, vi (v3)), (4, vi (v4)), (5, vi (v5)), (7, vi (v7))] [vi (p4)] σ 0 0
      refine J_istore (q := 83) (lv' := [(8, vi (p4)), (0, vr (some a0)), (1, vi (v1)), (2, vi (v2)), (3, vi (v3)), (4, vi (v4)), (5, vi (v5)), (7, vi (v7))]) C0 (G_nl C1 (by decide)) dX12_feed_81 rfl rfl ?_
      refine J_iload (q := 85) C0 0 rfl dX12_feed_83 rfl ?_
      refine J_if_eq (t := 109) (q := 88) C0 dX12_feed_85 (by decide) rfl hf (fun c5 hf => ?_) (fun c5 hf => ?_)
      · refine J_sub (lv' := [(0, vr (some a0)), (1, vi (v1)), (2, vi (v2)), (3, vi (v3)), (4, vi (v4)), (5, vi (v5)), (7, vi (v7))]) [1, 2, 3, 4, 5, 6, 7] rfl ?_
        exact t_X12_feed_B109 C1  (f_X12_feed_L62 N a0 n)  ih  (v1) (v2) (v3) (v4) (v5) (v7) σ (hT) (hE) (h0)  hf
      · refine J_aload_n (q := 89) C0 1 rfl rfl dX12_feed_88 rfl trivial ?_
        refine J_getR (q := 92) C0 fl_X12_9_11 rfl (h0) rfl dX12_feed_89 rfl ?_
        refine J_aload_n (q := 93) C0 1 rfl rfl dX12_feed_92 rfl trivial ?_
        refine J_getI (q := 96) C0 fl_X12_100_11 rfl (h0) rfl dX12_feed_93 rfl ?_
        refine J_iload (q := 98) C0 0 rfl dX12_feed_96 rfl ?_
        refine K_some hf (fun b6 hb6 hf => ?_)
        have ab6 : is_A σ b6 12 := ((sg_T.op hT (j := 1) (h0) rfl)) b6 hb6
        refine K_chk hf (fun c7 hf => ?_)
        refine J_iast (q := 99) C0 hb6 (ab6) c7 dX12_feed_98 rfl ?_
        refine J_aload_n (q := 100) C0 1 rfl rfl dX12_feed_99 rfl trivial ?_
        refine J_dup (q := 101) C0 dX12_feed_100 rfl rfl ?_
        refine J_getI (q := 104) C0 fl_X12_100_11 rfl ((h0).putI) rfl dX12_feed_101 rfl ?_
        refine J_iconst (q := 105) (v := 1) C0 dX12_feed_104 rfl rfl ?_
        refine J_iadd (q := 106) C0 dX12_feed_105 rfl ?_
        refine J_putI (q := 109) C0 fl_X12_100_11 rfl ((h0).putI) rfl dX12_feed_106 rfl ?_
        refine J_sub (lv' := [(0, vr (some a0)), (1, vi (v1)), (2, vi (v2)), (3, vi (v3)), (4, vi (v4)), (5, vi (v5)), (7, vi (v7))]) [1, 2, 3, 4, 5, 6, 7] rfl ?_
        exact t_X12_feed_B109 C1  (f_X12_feed_L62 N a0 n)  ih  (v1) (v2) (v3) (v4) (v5) (v7) (put_I (put_I σ b6 (sg_I σ a0 2).toNatClampNeg (p4)) a0 2 ((sg_I (put_I σ b6 (sg_I σ a0 2).toNatClampNeg (p4)) a0 2) + (1))) (((hT).putI).putI) (((hE).putI).putI) (((h0).putI).putI)  hf
set_option maxHeartbeats 4000000 in
set_option maxRecDepth 100000 in
theorem t_X12_feed_B35 {N : Nat} {a0 : Nat} {Γ : Gm} {σ0 : Sg} {r : (Int32 × Sg)} (C1 : CM Γ cX12_feed RX12 9 (some .int) 1 26 0 0 (fun r_ τ_ => (r_ = some (vi r.1)) ∧ τ_ = r.2 ∧ sg_T τ_ ∧ sg_E σ0 τ_)) (k6 : Int32 → Int32 → Int32 → Int32 → Int32 → Int32 → Int32 → Sg → Option (Int32 × Sg)) (hk6 : ∀ (v1 : Int32) (v2 : Int32) (v3 : Int32) (v4 : Int32) (v5 : Int32) (v6 : Int32) (v7 : Int32) (σ : Sg), sg_T σ → sg_E σ0 σ → is_A σ a0 11 → k6 v1 v2 v3 v4 v5 v6 v7 σ = some r → J_ Γ 6 [(0, vr (some a0)), (1, vi v1), (2, vi v2), (3, vi v3), (4, vi v4), (5, vi v5), (6, vi v6), (7, vi v7)] [] σ 0 0) (v1 : Int32) (v2 : Int32) (v3 : Int32) (v4 : Int32) (v5 : Int32) (v7 : Int32) (s0 : Int32) (s1 : Int32) (σ : Sg) (hT : sg_T σ) (hE : sg_E σ0 σ) (h0 : is_A σ a0 11) (hf : f_X12_feed_B35 N a0 k6  v1 v2 v3 v4 v5 v7 s0 s1 σ = some r) : J_ Γ 35 [(0, vr (some a0)), (1, vi (v1)), (2, vi (v2)), (3, vi (v3)), (4, vi (v4)), (5, vi (v5)), (7, vi (v7))] [vi (s0), vi (s1)] σ 0 0 := by
  have C0 := C1.1
  unfold f_X12_feed_B35 at hf
  refine J_iadd (q := 36) C0 dX12_feed_35 rfl ?_
  refine J_istore (q := 38) (lv' := [(6, vi ((s1) + (s0))), (0, vr (some a0)), (1, vi (v1)), (2, vi (v2)), (3, vi (v3)), (4, vi (v4)), (5, vi (v5)), (7, vi (v7))]) C0 (G_nl C1 (by decide)) dX12_feed_36 rfl rfl ?_
  refine J_iinc (q := 41) (v := v7 + 1) (lv' := [(7, vi (v7 + 1)), (6, vi ((s1) + (s0))), (0, vr (some a0)), (1, vi (v1)), (2, vi (v2)), (3, vi (v3)), (4, vi (v4)), (5, vi (v5))]) C0 7 rfl rfl (G_nl C1 (by decide)) dX12_feed_38 rfl rfl ?_
  refine J_goto (q := 6) C0 dX12_feed_41 (by decide) ?_
  refine J_sub (lv' := [(0, vr (some a0)), (1, vi (v1)), (2, vi (v2)), (3, vi (v3)), (4, vi (v4)), (5, vi (v5)), (6, vi ((s1) + (s0))), (7, vi (v7 + 1))]) [2, 3, 4, 5, 6, 7, 1, 0] rfl ?_
  exact hk6 (v1) (v2) (v3) (v4) (v5) ((s1) + (s0)) (v7 + 1) σ (hT) (hE)  (h0)  hf
set_option maxHeartbeats 4000000 in
set_option maxRecDepth 100000 in
theorem t_X12_feed_L6 {N : Nat} {a0 : Nat} {Γ : Gm} {σ0 : Sg} {r : (Int32 × Sg)} (C1 : CM Γ cX12_feed RX12 9 (some .int) 1 26 0 0 (fun r_ τ_ => (r_ = some (vi r.1)) ∧ τ_ = r.2 ∧ sg_T τ_ ∧ sg_E σ0 τ_)) : ∀ (n : Nat) (v1 : Int32) (v2 : Int32) (v3 : Int32) (v4 : Int32) (v5 : Int32) (v6 : Int32) (v7 : Int32) (σ : Sg), sg_T σ → sg_E σ0 σ → is_A σ a0 11 → f_X12_feed_L6 N a0  n v1 v2 v3 v4 v5 v6 v7 σ = some r → J_ Γ 6 [(0, vr (some a0)), (1, vi (v1)), (2, vi (v2)), (3, vi (v3)), (4, vi (v4)), (5, vi (v5)), (6, vi (v6)), (7, vi (v7))] [] σ 0 0 := by
  have C0 := C1.1
  intro n
  induction n with
  | zero => intro v1 v2 v3 v4 v5 v6 v7 σ hT hE h0  hf; unfold f_X12_feed_L6 at hf; cases hf
  | succ n ih =>
    intro v1 v2 v3 v4 v5 v6 v7 σ hT hE h0  hf
    rw [f_X12_feed_L6] at hf
    refine J_iload (q := 8) C0 7 rfl dX12_feed_6 rfl ?_
    refine J_bipush (q := 10) (v := 20) C0 dX12_feed_8 rfl rfl ?_
    refine J_icmp_ge (t := 44) (q := 13) C0 dX12_feed_10 (by decide) rfl hf (fun c1 hf => ?_) (fun c1 hf => ?_)
    · refine J_aload_n (q := 45) C0 0 rfl rfl dX12_feed_44 rfl trivial ?_
      refine J_getI (q := 48) C0 fl_X12_100_11 rfl (h0) rfl dX12_feed_45 rfl ?_
      refine J_iload (q := 50) C0 6 rfl dX12_feed_48 rfl ?_
      refine J_iadd (q := 51) C0 dX12_feed_50 rfl ?_
      refine J_sipush (q := 54) (v := 240) C0 dX12_feed_51 rfl rfl ?_
      refine J_icmp_le (t := 59) (q := 57) C0 dX12_feed_54 (by decide) rfl hf (fun c2 hf => ?_) (fun c2 hf => ?_)
      · refine J_iconst (q := 60) (v := 0) C0 dX12_feed_59 rfl rfl ?_
        refine J_istore (q := 62) (lv' := [(7, vi (0)), (0, vr (some a0)), (1, vi (v1)), (2, vi (v2)), (3, vi (v3)), (4, vi (v4)), (5, vi (v5)), (6, vi (v6))]) C0 (G_nl C1 (by decide)) dX12_feed_60 rfl rfl ?_
        refine J_sub (lv' := [(0, vr (some a0)), (1, vi (v1)), (2, vi (v2)), (3, vi (v3)), (4, vi (v4)), (5, vi (v5)), (7, vi (0))]) [1, 2, 3, 4, 5, 6, 0] rfl ?_
        exact t_X12_feed_L62 C1    N (v1) (v2) (v3) (v4) (v5) (0) σ (hT) (hE) (h0)  hf
      · refine J_iconst (q := 58) (v := (-1)) C0 dX12_feed_57 rfl rfl ?_
        obtain rfl := Option.some.inj hf; exact J_iret C1 dX12_feed_58 rfl (Nat.zero_le _) (Nat.zero_le _) ⟨rfl, rfl, hT, hE⟩
    · refine J_iload (q := 15) C0 6 rfl dX12_feed_13 rfl ?_
      refine J_iload_n (q := 16) C0 1 rfl rfl dX12_feed_15 rfl ?_
      refine J_iload_n (q := 17) C0 2 rfl rfl dX12_feed_16 rfl ?_
      refine J_iload_n (q := 18) C0 3 rfl rfl dX12_feed_17 rfl ?_
      refine J_iload (q := 20) C0 4 rfl dX12_feed_18 rfl ?_
      refine J_iload (q := 22) C0 5 rfl dX12_feed_20 rfl ?_
      refine J_iload (q := 24) C0 7 rfl dX12_feed_22 rfl ?_
      refine K_some hf (fun p8 hp8 hf => ?_)
      refine J_callS (q := 27) (as := [vi (v1), vi (v2), vi (v3), vi (v4), vi (v5), vi (v7)]) (rest := [vi (v6)]) C0 (t_X12_byteOf (v1) (v2) (v3) (v4) (v5) (v7)  hp8) ml_X12_byteOf lk_X12_96 sm_X12_byteOf dX12_feed_24 rfl rfl rfl (by simp [ac_]) C1.room (by decide) (by decide) (by decide) (by decide) (fun r_ τ_ hQ => ?_)
      obtain ⟨rfl, ht_⟩ := hQ; have ht_ := ht_.symm; subst ht_
      show J_ Γ 27 [(0, vr (some a0)), (1, vi (v1)), (2, vi (v2)), (3, vi (v3)), (4, vi (v4)), (5, vi (v5)), (6, vi (v6)), (7, vi (v7))] [vi (p8), vi (v6)] σ 0 0
      refine J_if_eq (t := 34) (q := 30) C0 dX12_feed_27 (by decide) rfl hf (fun c9 hf => ?_) (fun c9 hf => ?_)
      · refine J_iconst (q := 35) (v := 0) C0 dX12_feed_34 rfl rfl ?_
        refine J_sub (lv' := [(0, vr (some a0)), (1, vi (v1)), (2, vi (v2)), (3, vi (v3)), (4, vi (v4)), (5, vi (v5)), (7, vi (v7))]) [0, 1, 2, 3, 4, 5, 7] rfl ?_
        exact t_X12_feed_B35 C1  (f_X12_feed_L6 N a0 n)  ih  (v1) (v2) (v3) (v4) (v5) (v7) (0) (v6) σ (hT) (hE) (h0)  hf
      · refine J_iconst (q := 31) (v := 1) C0 dX12_feed_30 rfl rfl ?_
        refine J_goto (q := 35) C0 dX12_feed_31 (by decide) ?_
        refine J_sub (lv' := [(0, vr (some a0)), (1, vi (v1)), (2, vi (v2)), (3, vi (v3)), (4, vi (v4)), (5, vi (v5)), (7, vi (v7))]) [0, 1, 2, 3, 4, 5, 7] rfl ?_
        exact t_X12_feed_B35 C1  (f_X12_feed_L6 N a0 n)  ih  (v1) (v2) (v3) (v4) (v5) (v7) (1) (v6) σ (hT) (hE) (h0)  hf
set_option maxHeartbeats 4000000 in
set_option maxRecDepth 100000 in
theorem t_X12_feed (N : Nat) (a0 : Nat) (x1 : Int32) (x2 : Int32) (x3 : Int32) (x4 : Int32) (x5 : Int32) {σ : Sg} (hT : sg_T σ) (h0 : is_A σ a0 11) {r : (Int32 × Sg)} (hf : f_X12_feed N a0 x1 x2 x3 x4 x5 σ = some r) : Ct yX12_feed cX12_feed 9 (some .int) 1 26 0 0 [vr (some a0), vi x1, vi x2, vi x3, vi x4, vi x5] σ (fun r_ τ_ => (r_ = some (vi r.1)) ∧ τ_ = r.2 ∧ sg_T τ_ ∧ sg_E σ τ_) := by
  refine Ct.of (by decide +kernel) (Nat.le_of_ble_eq_true rfl) (fun Γ C1 => ?_)
  have C0 := C1.1
  have hE : sg_E σ σ := sg_E.rf
  unfold f_X12_feed at hf
  show J_ Γ 0 [(0, vr (some a0)), (1, vi (x1)), (2, vi (x2)), (3, vi (x3)), (4, vi (x4)), (5, vi (x5))] [] σ 0 0
  refine J_iconst (q := 1) (v := 0) C0 dX12_feed_0 rfl rfl ?_
  refine J_istore (q := 3) (lv' := [(6, vi (0)), (0, vr (some a0)), (1, vi (x1)), (2, vi (x2)), (3, vi (x3)), (4, vi (x4)), (5, vi (x5))]) C0 (G_nl C1 (by decide)) dX12_feed_1 rfl rfl ?_
  refine J_iconst (q := 4) (v := 0) C0 dX12_feed_3 rfl rfl ?_
  refine J_istore (q := 6) (lv' := [(7, vi (0)), (6, vi (0)), (0, vr (some a0)), (1, vi (x1)), (2, vi (x2)), (3, vi (x3)), (4, vi (x4)), (5, vi (x5))]) C0 (G_nl C1 (by decide)) dX12_feed_4 rfl rfl ?_
  refine J_sub (lv' := [(0, vr (some a0)), (1, vi (x1)), (2, vi (x2)), (3, vi (x3)), (4, vi (x4)), (5, vi (x5)), (6, vi (0)), (7, vi (0))]) [2, 3, 4, 5, 6, 7, 1, 0] rfl ?_
  exact t_X12_feed_L6 C1    N (x1) (x2) (x3) (x4) (x5) (0) (0) σ (hT) (hE) (h0)  hf
def f_X12_end (a0 : Nat) (x1 : Int32) (σ : Sg) : Option (Int32 × Sg) :=
  if (x1) < (0) then
  (some (0, σ))
  else
  (if (sg_I σ a0 2) < (x1) then
  (some (0, σ))
  else
  (some (1, put_I σ a0 2 (x1))))
set_option maxHeartbeats 4000000 in
set_option maxRecDepth 100000 in
theorem t_X12_end (a0 : Nat) (x1 : Int32) {σ : Sg} (hT : sg_T σ) (h0 : is_A σ a0 11) {r : (Int32 × Sg)} (hf : f_X12_end a0 x1 σ = some r) : Ct yX12_end cX12_end 2 (some .boolean) 0 0 0 0 [vr (some a0), vi x1] σ (fun r_ τ_ => (r_ = some (vi r.1) ∧ (r.1 = 0 ∨ r.1 = 1)) ∧ τ_ = r.2 ∧ sg_T τ_ ∧ sg_E σ τ_) := by
  refine Ct.of (by decide +kernel) (Nat.le_of_ble_eq_true rfl) (fun Γ C1 => ?_)
  have C0 := C1.1
  have hE : sg_E σ σ := sg_E.rf
  unfold f_X12_end at hf
  show J_ Γ 0 [(0, vr (some a0)), (1, vi (x1))] [] σ 0 0
  refine J_iload_n (q := 1) C0 1 rfl rfl dX12_end_0 rfl ?_
  refine J_if_lt (t := 12) (q := 4) C0 dX12_end_1 (by decide) rfl hf (fun c1 hf => ?_) (fun c1 hf => ?_)
  · refine J_iconst (q := 13) (v := 0) C0 dX12_end_12 rfl rfl ?_
    obtain rfl := Option.some.inj hf; exact J_zret C1 dX12_end_13 rfl (Or.inl rfl) (Nat.zero_le _) (Nat.zero_le _) ⟨⟨rfl, (Or.inl rfl)⟩, rfl, hT, hE⟩
  · refine J_iload_n (q := 5) C0 1 rfl rfl dX12_end_4 rfl ?_
    refine J_aload_n (q := 6) C0 0 rfl rfl dX12_end_5 rfl trivial ?_
    refine J_getI (q := 9) C0 fl_X12_100_11 rfl (h0) rfl dX12_end_6 rfl ?_
    refine J_icmp_le (t := 14) (q := 12) C0 dX12_end_9 (by decide) rfl hf (fun c2 hf => ?_) (fun c2 hf => ?_)
    · refine J_aload_n (q := 15) C0 0 rfl rfl dX12_end_14 rfl trivial ?_
      refine J_iload_n (q := 16) C0 1 rfl rfl dX12_end_15 rfl ?_
      refine J_putI (q := 19) C0 fl_X12_100_11 rfl (h0) rfl dX12_end_16 rfl ?_
      refine J_iconst (q := 20) (v := 1) C0 dX12_end_19 rfl rfl ?_
      obtain rfl := Option.some.inj hf; exact J_zret C1 dX12_end_20 rfl (Or.inr rfl) (Nat.zero_le _) (Nat.zero_le _) ⟨⟨rfl, (Or.inr rfl)⟩, rfl, (hT).putI, (hE).putI⟩
    · refine J_iconst (q := 13) (v := 0) C0 dX12_end_12 rfl rfl ?_
      obtain rfl := Option.some.inj hf; exact J_zret C1 dX12_end_13 rfl (Or.inl rfl) (Nat.zero_le _) (Nat.zero_le _) ⟨⟨rfl, (Or.inl rfl)⟩, rfl, hT, hE⟩
def f_X12_here (a0 : Nat) (σ : Sg) : Option Int32 :=
  if (sg_I σ a0 3) < (sg_I σ a0 2) then
  (Option.bind (sg_R σ a0 1) fun b2 =>
  if (sg_I σ a0 3) < 0 ∨ sg_L σ b2 ≤ (sg_I σ a0 3).toNatClampNeg then none else
  some (sg_I σ b2 (sg_I σ a0 3).toNatClampNeg))
  else
  (some ((-1)))
set_option maxHeartbeats 4000000 in
set_option maxRecDepth 100000 in
theorem t_X12_here (a0 : Nat) {σ : Sg} (hT : sg_T σ) (h0 : is_A σ a0 11) {r : Int32} (hf : f_X12_here a0  σ = some r) : Ct yX12_here cX12_here 1 (some .int) 0 0 0 0 [vr (some a0)] σ (fun r_ τ_ => (r_ = some (vi r)) ∧ τ_ = σ) := by
  refine Ct.of (by decide +kernel) (Nat.le_of_ble_eq_true rfl) (fun Γ C1 => ?_)
  have C0 := C1.1
  unfold f_X12_here at hf
  show J_ Γ 0 [(0, vr (some a0))] [] σ 0 0
  refine J_aload_n (q := 1) C0 0 rfl rfl dX12_here_0 rfl trivial ?_
  refine J_getI (q := 4) C0 fl_X12_103_11 rfl (h0) rfl dX12_here_1 rfl ?_
  refine J_aload_n (q := 5) C0 0 rfl rfl dX12_here_4 rfl trivial ?_
  refine J_getI (q := 8) C0 fl_X12_100_11 rfl (h0) rfl dX12_here_5 rfl ?_
  refine J_icmp_ge (t := 23) (q := 11) C0 dX12_here_8 (by decide) rfl hf (fun c1 hf => ?_) (fun c1 hf => ?_)
  · refine J_iconst (q := 24) (v := (-1)) C0 dX12_here_23 rfl rfl ?_
    obtain rfl := Option.some.inj hf; exact J_iret C1 dX12_here_24 rfl (Nat.zero_le _) (Nat.zero_le _) ⟨rfl, rfl⟩
  · refine J_aload_n (q := 12) C0 0 rfl rfl dX12_here_11 rfl trivial ?_
    refine J_getR (q := 15) C0 fl_X12_9_11 rfl (h0) rfl dX12_here_12 rfl ?_
    refine J_aload_n (q := 16) C0 0 rfl rfl dX12_here_15 rfl trivial ?_
    refine J_getI (q := 19) C0 fl_X12_103_11 rfl (h0) rfl dX12_here_16 rfl ?_
    refine K_some hf (fun b2 hb2 hf => ?_)
    have ab2 : is_A σ b2 12 := ((sg_T.op hT (j := 1) (h0) rfl)) b2 hb2
    refine K_chk hf (fun c3 hf => ?_)
    refine J_iald (q := 20) C0 hb2 (ab2) c3 dX12_here_19 rfl ?_
    refine J_goto (q := 24) C0 dX12_here_20 (by decide) ?_
    obtain rfl := Option.some.inj hf; exact J_iret C1 dX12_here_24 rfl (Nat.zero_le _) (Nat.zero_le _) ⟨rfl, rfl⟩
def f_X12_look_L0 (N : Nat) (a0 : Nat) : Nat → Sg → Option (Int32 × Sg)
  | 0, _ => none
  | n + 1, σ =>
  Option.bind (f_X12_here a0  σ) fun p1 =>
  if (p1) = (32) then
  (f_X12_look_L0 N a0 n  (put_I σ a0 3 ((sg_I σ a0 3) + (1))))
  else
  (Option.bind (f_X12_here a0  σ) fun p3 =>
  some (p3, σ))
def f_X12_look (N : Nat) (a0 : Nat) (σ : Sg) : Option (Int32 × Sg) :=
  f_X12_look_L0 N a0 N  σ
set_option maxHeartbeats 4000000 in
set_option maxRecDepth 100000 in
theorem t_X12_look_L0 {N : Nat} {a0 : Nat} {Γ : Gm} {σ0 : Sg} {r : (Int32 × Sg)} (C1 : CM Γ cX12_look RX12 1 (some .int) 1 20 0 0 (fun r_ τ_ => (r_ = some (vi r.1)) ∧ τ_ = r.2 ∧ sg_T τ_ ∧ sg_E σ0 τ_)) : ∀ (n : Nat) (σ : Sg), sg_T σ → sg_E σ0 σ → is_A σ a0 11 → f_X12_look_L0 N a0  n  σ = some r → J_ Γ 0 [(0, vr (some a0))] [] σ 0 0 := by
  have C0 := C1.1
  intro n
  induction n with
  | zero => intro  σ hT hE h0  hf; unfold f_X12_look_L0 at hf; cases hf
  | succ n ih =>
    intro  σ hT hE h0  hf
    rw [f_X12_look_L0] at hf
    refine J_aload_n (q := 1) C0 0 rfl rfl dX12_look_0 rfl trivial ?_
    refine K_some hf (fun p1 hp1 hf => ?_)
    refine J_callV (q := 4) (ci := 11) (as := []) (rest := []) C0 rfl (h0) (t_X12_here a0  (hT) (h0)  hp1) ml_X12_here lk_X12_106 im_X12_here se_X12_here rfl (by decide) dX12_look_1 rfl rfl rfl (by simp [ac_]) C1.room (by decide) (by decide) (by decide) (by decide) (fun r_ τ_ hQ => ?_)
    obtain ⟨rfl, ht_⟩ := hQ; have ht_ := ht_.symm; subst ht_
    show J_ Γ 4 [(0, vr (some a0))] [vi (p1)] σ 0 0
    refine J_bipush (q := 6) (v := 32) C0 dX12_look_4 rfl rfl ?_
    refine J_icmp_ne (t := 22) (q := 9) C0 dX12_look_6 (by decide) rfl hf (fun c2 hf => ?_) (fun c2 hf => ?_)
    · refine J_aload_n (q := 23) C0 0 rfl rfl dX12_look_22 rfl trivial ?_
      refine K_some hf (fun p3 hp3 hf => ?_)
      refine J_callV (q := 26) (ci := 11) (as := []) (rest := []) C0 rfl (h0) (t_X12_here a0  (hT) (h0)  hp3) ml_X12_here lk_X12_106 im_X12_here se_X12_here rfl (by decide) dX12_look_23 rfl rfl rfl (by simp [ac_]) C1.room (by decide) (by decide) (by decide) (by decide) (fun r_ τ_ hQ => ?_)
      obtain ⟨rfl, ht_⟩ := hQ; have ht_ := ht_.symm; subst ht_
      show J_ Γ 26 [(0, vr (some a0))] [vi (p3)] σ 0 0
      obtain rfl := Option.some.inj hf; exact J_iret C1 dX12_look_26 rfl (Nat.zero_le _) (Nat.zero_le _) ⟨rfl, rfl, hT, hE⟩
    · refine J_aload_n (q := 10) C0 0 rfl rfl dX12_look_9 rfl trivial ?_
      refine J_dup (q := 11) C0 dX12_look_10 rfl rfl ?_
      refine J_getI (q := 14) C0 fl_X12_103_11 rfl (h0) rfl dX12_look_11 rfl ?_
      refine J_iconst (q := 15) (v := 1) C0 dX12_look_14 rfl rfl ?_
      refine J_iadd (q := 16) C0 dX12_look_15 rfl ?_
      refine J_putI (q := 19) C0 fl_X12_103_11 rfl (h0) rfl dX12_look_16 rfl ?_
      refine J_goto (q := 0) C0 dX12_look_19 (by decide) ?_
      exact ih  (put_I σ a0 3 ((sg_I σ a0 3) + (1))) ((hT).putI) ((hE).putI) ((h0).putI)  hf
set_option maxHeartbeats 4000000 in
set_option maxRecDepth 100000 in
theorem t_X12_look (N : Nat) (a0 : Nat) {σ : Sg} (hT : sg_T σ) (h0 : is_A σ a0 11) {r : (Int32 × Sg)} (hf : f_X12_look N a0  σ = some r) : Ct yX12_look cX12_look 1 (some .int) 1 20 0 0 [vr (some a0)] σ (fun r_ τ_ => (r_ = some (vi r.1)) ∧ τ_ = r.2 ∧ sg_T τ_ ∧ sg_E σ τ_) := by
  refine Ct.of (by decide +kernel) (Nat.le_of_ble_eq_true rfl) (fun Γ C1 => ?_)
  have C0 := C1.1
  have hE : sg_E σ σ := sg_E.rf
  unfold f_X12_look at hf
  show J_ Γ 0 [(0, vr (some a0))] [] σ 0 0
  exact t_X12_look_L0 C1    N  σ (hT) (hE) (h0)  hf
def f_X12_bad_B20 (a0 : Nat) (s0 : Int32) (s1 : Option Nat) (σ : Sg) : Option Sg :=
  Option.bind (s1) fun b2 =>
  some (put_I σ b2 4 (s0))
def f_X12_bad (a0 : Nat) (σ : Sg) : Option Sg :=
  if (sg_I σ a0 4) = ((-1)) then
  (f_X12_bad_B20 a0 (sg_I σ a0 3) (some a0) σ)
  else
  (f_X12_bad_B20 a0 (sg_I σ a0 4) (some a0) σ)
set_option maxHeartbeats 4000000 in
set_option maxRecDepth 100000 in
theorem t_X12_bad_B20 {a0 : Nat} {Γ : Gm} {σ0 : Sg} {r : Sg} (C1 : CM Γ cX12_bad RX12 1 none 0 0 0 0 (fun r_ τ_ => (r_ = none) ∧ τ_ = r ∧ sg_T τ_ ∧ sg_E σ0 τ_)) (s0 : Int32) (s1 : Option Nat) (σ : Sg) (hT : sg_T σ) (hE : sg_E σ0 σ) (h0 : is_A σ a0 11) (g_s1 : is_O σ s1 11) (hf : f_X12_bad_B20 a0  s0 s1 σ = some r) : J_ Γ 20 [(0, vr (some a0))] [vi (s0), vr (s1)] σ 0 0 := by
  have C0 := C1.1
  unfold f_X12_bad_B20 at hf
  refine K_some hf (fun b2 hb2 hf => ?_)
  have ab2 : is_A σ b2 11 := (g_s1) b2 hb2
  refine J_putI (q := 23) C0 fl_X12_110_11 hb2 (ab2) rfl dX12_bad_20 rfl ?_
  obtain rfl := Option.some.inj hf; exact J_vret C1 dX12_bad_23 rfl (Nat.zero_le _) (Nat.zero_le _) ⟨rfl, rfl, (hT).putI, (hE).putI⟩
set_option maxHeartbeats 4000000 in
set_option maxRecDepth 100000 in
theorem t_X12_bad (a0 : Nat) {σ : Sg} (hT : sg_T σ) (h0 : is_A σ a0 11) {r : Sg} (hf : f_X12_bad a0  σ = some r) : Ct yX12_bad cX12_bad 1 none 0 0 0 0 [vr (some a0)] σ (fun r_ τ_ => (r_ = none) ∧ τ_ = r ∧ sg_T τ_ ∧ sg_E σ τ_) := by
  refine Ct.of (by decide +kernel) (Nat.le_of_ble_eq_true rfl) (fun Γ C1 => ?_)
  have C0 := C1.1
  have hE : sg_E σ σ := sg_E.rf
  unfold f_X12_bad at hf
  show J_ Γ 0 [(0, vr (some a0))] [] σ 0 0
  refine J_aload_n (q := 1) C0 0 rfl rfl dX12_bad_0 rfl trivial ?_
  refine J_aload_n (q := 2) C0 0 rfl rfl dX12_bad_1 rfl trivial ?_
  refine J_getI (q := 5) C0 fl_X12_110_11 rfl (h0) rfl dX12_bad_2 rfl ?_
  refine J_iconst (q := 6) (v := (-1)) C0 dX12_bad_5 rfl rfl ?_
  refine J_icmp_ne (t := 16) (q := 9) C0 dX12_bad_6 (by decide) rfl hf (fun c1 hf => ?_) (fun c1 hf => ?_)
  · refine J_aload_n (q := 17) C0 0 rfl rfl dX12_bad_16 rfl trivial ?_
    refine J_getI (q := 20) C0 fl_X12_110_11 rfl (h0) rfl dX12_bad_17 rfl ?_
    exact t_X12_bad_B20 C1    (sg_I σ a0 4) (some a0) σ (hT) (hE) (h0) (is_O.some (h0)) hf
  · refine J_aload_n (q := 10) C0 0 rfl rfl dX12_bad_9 rfl trivial ?_
    refine J_getI (q := 13) C0 fl_X12_103_11 rfl (h0) rfl dX12_bad_10 rfl ?_
    refine J_goto (q := 20) C0 dX12_bad_13 (by decide) ?_
    exact t_X12_bad_B20 C1    (sg_I σ a0 3) (some a0) σ (hT) (hE) (h0) (is_O.some (h0)) hf
def f_X12_isDigit (x0 : Int32) : Option Int32 :=
  if (x0) < (48) then
  (some (0))
  else
  (if (57) < (x0) then
  (some (0))
  else
  (some (1)))
set_option maxHeartbeats 4000000 in
set_option maxRecDepth 100000 in
theorem t_X12_isDigit (x0 : Int32) {σ : Sg} {r : Int32} (hf : f_X12_isDigit x0 = some r) : Ct yX12_isDigit cX12_isDigit 1 (some .boolean) 0 0 0 0 [vi x0] σ (fun r_ τ_ => (r_ = some (vi r) ∧ (r = 0 ∨ r = 1)) ∧ τ_ = σ) := by
  refine Ct.of (by decide +kernel) (Nat.le_of_ble_eq_true rfl) (fun Γ C1 => ?_)
  have C0 := C1.1
  unfold f_X12_isDigit at hf
  show J_ Γ 0 [(0, vi (x0))] [] σ 0 0
  refine J_iload_n (q := 1) C0 0 rfl rfl dX12_isDigit_0 rfl ?_
  refine J_bipush (q := 3) (v := 48) C0 dX12_isDigit_1 rfl rfl ?_
  refine J_icmp_lt (t := 16) (q := 6) C0 dX12_isDigit_3 (by decide) rfl hf (fun c1 hf => ?_) (fun c1 hf => ?_)
  · refine J_iconst (q := 17) (v := 0) C0 dX12_isDigit_16 rfl rfl ?_
    obtain rfl := Option.some.inj hf; exact J_zret C1 dX12_isDigit_17 rfl (Or.inl rfl) (Nat.zero_le _) (Nat.zero_le _) ⟨⟨rfl, (Or.inl rfl)⟩, rfl⟩
  · refine J_iload_n (q := 7) C0 0 rfl rfl dX12_isDigit_6 rfl ?_
    refine J_bipush (q := 9) (v := 57) C0 dX12_isDigit_7 rfl rfl ?_
    refine J_icmp_gt (t := 16) (q := 12) C0 dX12_isDigit_9 (by decide) rfl hf (fun c2 hf => ?_) (fun c2 hf => ?_)
    · refine J_iconst (q := 17) (v := 0) C0 dX12_isDigit_16 rfl rfl ?_
      obtain rfl := Option.some.inj hf; exact J_zret C1 dX12_isDigit_17 rfl (Or.inl rfl) (Nat.zero_le _) (Nat.zero_le _) ⟨⟨rfl, (Or.inl rfl)⟩, rfl⟩
    · refine J_iconst (q := 13) (v := 1) C0 dX12_isDigit_12 rfl rfl ?_
      refine J_goto (q := 17) C0 dX12_isDigit_13 (by decide) ?_
      obtain rfl := Option.some.inj hf; exact J_zret C1 dX12_isDigit_17 rfl (Or.inr rfl) (Nat.zero_le _) (Nat.zero_le _) ⟨⟨rfl, (Or.inr rfl)⟩, rfl⟩
def f_X12_put (a0 : Nat) (x1 : Int32) (x2 : Int32) (σ : Sg) : Option Sg :=
  Option.bind (sg_R σ a0 8) fun b1 =>
  if (sg_I σ a0 14) < 0 ∨ sg_L σ b1 ≤ (sg_I σ a0 14).toNatClampNeg then none else
  Option.bind (sg_R σ a0 6) fun b3 =>
  if (((520) * (sg_I σ a0 14)) + (sg_I σ b1 (sg_I σ a0 14).toNatClampNeg)) < 0 ∨ sg_L σ b3 ≤ (((520) * (sg_I σ a0 14)) + (sg_I σ b1 (sg_I σ a0 14).toNatClampNeg)).toNatClampNeg then none else
  Option.bind (sg_R (put_I σ b3 (((520) * (sg_I σ a0 14)) + (sg_I σ b1 (sg_I σ a0 14).toNatClampNeg)).toNatClampNeg (x1)) a0 8) fun b5 =>
  if (sg_I (put_I σ b3 (((520) * (sg_I σ a0 14)) + (sg_I σ b1 (sg_I σ a0 14).toNatClampNeg)).toNatClampNeg (x1)) a0 14) < 0 ∨ sg_L (put_I σ b3 (((520) * (sg_I σ a0 14)) + (sg_I σ b1 (sg_I σ a0 14).toNatClampNeg)).toNatClampNeg (x1)) b5 ≤ (sg_I (put_I σ b3 (((520) * (sg_I σ a0 14)) + (sg_I σ b1 (sg_I σ a0 14).toNatClampNeg)).toNatClampNeg (x1)) a0 14).toNatClampNeg then none else
  Option.bind (sg_R (put_I σ b3 (((520) * (sg_I σ a0 14)) + (sg_I σ b1 (sg_I σ a0 14).toNatClampNeg)).toNatClampNeg (x1)) a0 7) fun b7 =>
  if (((520) * (sg_I (put_I σ b3 (((520) * (sg_I σ a0 14)) + (sg_I σ b1 (sg_I σ a0 14).toNatClampNeg)).toNatClampNeg (x1)) a0 14)) + (sg_I (put_I σ b3 (((520) * (sg_I σ a0 14)) + (sg_I σ b1 (sg_I σ a0 14).toNatClampNeg)).toNatClampNeg (x1)) b5 (sg_I (put_I σ b3 (((520) * (sg_I σ a0 14)) + (sg_I σ b1 (sg_I σ a0 14).toNatClampNeg)).toNatClampNeg (x1)) a0 14).toNatClampNeg)) < 0 ∨ sg_L (put_I σ b3 (((520) * (sg_I σ a0 14)) + (sg_I σ b1 (sg_I σ a0 14).toNatClampNeg)).toNatClampNeg (x1)) b7 ≤ (((520) * (sg_I (put_I σ b3 (((520) * (sg_I σ a0 14)) + (sg_I σ b1 (sg_I σ a0 14).toNatClampNeg)).toNatClampNeg (x1)) a0 14)) + (sg_I (put_I σ b3 (((520) * (sg_I σ a0 14)) + (sg_I σ b1 (sg_I σ a0 14).toNatClampNeg)).toNatClampNeg (x1)) b5 (sg_I (put_I σ b3 (((520) * (sg_I σ a0 14)) + (sg_I σ b1 (sg_I σ a0 14).toNatClampNeg)).toNatClampNeg (x1)) a0 14).toNatClampNeg)).toNatClampNeg then none else
  Option.bind (sg_R (put_I (put_I σ b3 (((520) * (sg_I σ a0 14)) + (sg_I σ b1 (sg_I σ a0 14).toNatClampNeg)).toNatClampNeg (x1)) b7 (((520) * (sg_I (put_I σ b3 (((520) * (sg_I σ a0 14)) + (sg_I σ b1 (sg_I σ a0 14).toNatClampNeg)).toNatClampNeg (x1)) a0 14)) + (sg_I (put_I σ b3 (((520) * (sg_I σ a0 14)) + (sg_I σ b1 (sg_I σ a0 14).toNatClampNeg)).toNatClampNeg (x1)) b5 (sg_I (put_I σ b3 (((520) * (sg_I σ a0 14)) + (sg_I σ b1 (sg_I σ a0 14).toNatClampNeg)).toNatClampNeg (x1)) a0 14).toNatClampNeg)).toNatClampNeg (x2)) a0 8) fun b9 =>
  if (sg_I (put_I (put_I σ b3 (((520) * (sg_I σ a0 14)) + (sg_I σ b1 (sg_I σ a0 14).toNatClampNeg)).toNatClampNeg (x1)) b7 (((520) * (sg_I (put_I σ b3 (((520) * (sg_I σ a0 14)) + (sg_I σ b1 (sg_I σ a0 14).toNatClampNeg)).toNatClampNeg (x1)) a0 14)) + (sg_I (put_I σ b3 (((520) * (sg_I σ a0 14)) + (sg_I σ b1 (sg_I σ a0 14).toNatClampNeg)).toNatClampNeg (x1)) b5 (sg_I (put_I σ b3 (((520) * (sg_I σ a0 14)) + (sg_I σ b1 (sg_I σ a0 14).toNatClampNeg)).toNatClampNeg (x1)) a0 14).toNatClampNeg)).toNatClampNeg (x2)) a0 14) < 0 ∨ sg_L (put_I (put_I σ b3 (((520) * (sg_I σ a0 14)) + (sg_I σ b1 (sg_I σ a0 14).toNatClampNeg)).toNatClampNeg (x1)) b7 (((520) * (sg_I (put_I σ b3 (((520) * (sg_I σ a0 14)) + (sg_I σ b1 (sg_I σ a0 14).toNatClampNeg)).toNatClampNeg (x1)) a0 14)) + (sg_I (put_I σ b3 (((520) * (sg_I σ a0 14)) + (sg_I σ b1 (sg_I σ a0 14).toNatClampNeg)).toNatClampNeg (x1)) b5 (sg_I (put_I σ b3 (((520) * (sg_I σ a0 14)) + (sg_I σ b1 (sg_I σ a0 14).toNatClampNeg)).toNatClampNeg (x1)) a0 14).toNatClampNeg)).toNatClampNeg (x2)) b9 ≤ (sg_I (put_I (put_I σ b3 (((520) * (sg_I σ a0 14)) + (sg_I σ b1 (sg_I σ a0 14).toNatClampNeg)).toNatClampNeg (x1)) b7 (((520) * (sg_I (put_I σ b3 (((520) * (sg_I σ a0 14)) + (sg_I σ b1 (sg_I σ a0 14).toNatClampNeg)).toNatClampNeg (x1)) a0 14)) + (sg_I (put_I σ b3 (((520) * (sg_I σ a0 14)) + (sg_I σ b1 (sg_I σ a0 14).toNatClampNeg)).toNatClampNeg (x1)) b5 (sg_I (put_I σ b3 (((520) * (sg_I σ a0 14)) + (sg_I σ b1 (sg_I σ a0 14).toNatClampNeg)).toNatClampNeg (x1)) a0 14).toNatClampNeg)).toNatClampNeg (x2)) a0 14).toNatClampNeg then none else
  if (sg_I (put_I (put_I σ b3 (((520) * (sg_I σ a0 14)) + (sg_I σ b1 (sg_I σ a0 14).toNatClampNeg)).toNatClampNeg (x1)) b7 (((520) * (sg_I (put_I σ b3 (((520) * (sg_I σ a0 14)) + (sg_I σ b1 (sg_I σ a0 14).toNatClampNeg)).toNatClampNeg (x1)) a0 14)) + (sg_I (put_I σ b3 (((520) * (sg_I σ a0 14)) + (sg_I σ b1 (sg_I σ a0 14).toNatClampNeg)).toNatClampNeg (x1)) b5 (sg_I (put_I σ b3 (((520) * (sg_I σ a0 14)) + (sg_I σ b1 (sg_I σ a0 14).toNatClampNeg)).toNatClampNeg (x1)) a0 14).toNatClampNeg)).toNatClampNeg (x2)) a0 14) < 0 ∨ sg_L (put_I (put_I σ b3 (((520) * (sg_I σ a0 14)) + (sg_I σ b1 (sg_I σ a0 14).toNatClampNeg)).toNatClampNeg (x1)) b7 (((520) * (sg_I (put_I σ b3 (((520) * (sg_I σ a0 14)) + (sg_I σ b1 (sg_I σ a0 14).toNatClampNeg)).toNatClampNeg (x1)) a0 14)) + (sg_I (put_I σ b3 (((520) * (sg_I σ a0 14)) + (sg_I σ b1 (sg_I σ a0 14).toNatClampNeg)).toNatClampNeg (x1)) b5 (sg_I (put_I σ b3 (((520) * (sg_I σ a0 14)) + (sg_I σ b1 (sg_I σ a0 14).toNatClampNeg)).toNatClampNeg (x1)) a0 14).toNatClampNeg)).toNatClampNeg (x2)) b9 ≤ (sg_I (put_I (put_I σ b3 (((520) * (sg_I σ a0 14)) + (sg_I σ b1 (sg_I σ a0 14).toNatClampNeg)).toNatClampNeg (x1)) b7 (((520) * (sg_I (put_I σ b3 (((520) * (sg_I σ a0 14)) + (sg_I σ b1 (sg_I σ a0 14).toNatClampNeg)).toNatClampNeg (x1)) a0 14)) + (sg_I (put_I σ b3 (((520) * (sg_I σ a0 14)) + (sg_I σ b1 (sg_I σ a0 14).toNatClampNeg)).toNatClampNeg (x1)) b5 (sg_I (put_I σ b3 (((520) * (sg_I σ a0 14)) + (sg_I σ b1 (sg_I σ a0 14).toNatClampNeg)).toNatClampNeg (x1)) a0 14).toNatClampNeg)).toNatClampNeg (x2)) a0 14).toNatClampNeg then none else
  some (put_I (put_I (put_I σ b3 (((520) * (sg_I σ a0 14)) + (sg_I σ b1 (sg_I σ a0 14).toNatClampNeg)).toNatClampNeg (x1)) b7 (((520) * (sg_I (put_I σ b3 (((520) * (sg_I σ a0 14)) + (sg_I σ b1 (sg_I σ a0 14).toNatClampNeg)).toNatClampNeg (x1)) a0 14)) + (sg_I (put_I σ b3 (((520) * (sg_I σ a0 14)) + (sg_I σ b1 (sg_I σ a0 14).toNatClampNeg)).toNatClampNeg (x1)) b5 (sg_I (put_I σ b3 (((520) * (sg_I σ a0 14)) + (sg_I σ b1 (sg_I σ a0 14).toNatClampNeg)).toNatClampNeg (x1)) a0 14).toNatClampNeg)).toNatClampNeg (x2)) b9 (sg_I (put_I (put_I σ b3 (((520) * (sg_I σ a0 14)) + (sg_I σ b1 (sg_I σ a0 14).toNatClampNeg)).toNatClampNeg (x1)) b7 (((520) * (sg_I (put_I σ b3 (((520) * (sg_I σ a0 14)) + (sg_I σ b1 (sg_I σ a0 14).toNatClampNeg)).toNatClampNeg (x1)) a0 14)) + (sg_I (put_I σ b3 (((520) * (sg_I σ a0 14)) + (sg_I σ b1 (sg_I σ a0 14).toNatClampNeg)).toNatClampNeg (x1)) b5 (sg_I (put_I σ b3 (((520) * (sg_I σ a0 14)) + (sg_I σ b1 (sg_I σ a0 14).toNatClampNeg)).toNatClampNeg (x1)) a0 14).toNatClampNeg)).toNatClampNeg (x2)) a0 14).toNatClampNeg ((sg_I (put_I (put_I σ b3 (((520) * (sg_I σ a0 14)) + (sg_I σ b1 (sg_I σ a0 14).toNatClampNeg)).toNatClampNeg (x1)) b7 (((520) * (sg_I (put_I σ b3 (((520) * (sg_I σ a0 14)) + (sg_I σ b1 (sg_I σ a0 14).toNatClampNeg)).toNatClampNeg (x1)) a0 14)) + (sg_I (put_I σ b3 (((520) * (sg_I σ a0 14)) + (sg_I σ b1 (sg_I σ a0 14).toNatClampNeg)).toNatClampNeg (x1)) b5 (sg_I (put_I σ b3 (((520) * (sg_I σ a0 14)) + (sg_I σ b1 (sg_I σ a0 14).toNatClampNeg)).toNatClampNeg (x1)) a0 14).toNatClampNeg)).toNatClampNeg (x2)) b9 (sg_I (put_I (put_I σ b3 (((520) * (sg_I σ a0 14)) + (sg_I σ b1 (sg_I σ a0 14).toNatClampNeg)).toNatClampNeg (x1)) b7 (((520) * (sg_I (put_I σ b3 (((520) * (sg_I σ a0 14)) + (sg_I σ b1 (sg_I σ a0 14).toNatClampNeg)).toNatClampNeg (x1)) a0 14)) + (sg_I (put_I σ b3 (((520) * (sg_I σ a0 14)) + (sg_I σ b1 (sg_I σ a0 14).toNatClampNeg)).toNatClampNeg (x1)) b5 (sg_I (put_I σ b3 (((520) * (sg_I σ a0 14)) + (sg_I σ b1 (sg_I σ a0 14).toNatClampNeg)).toNatClampNeg (x1)) a0 14).toNatClampNeg)).toNatClampNeg (x2)) a0 14).toNatClampNeg) + (1)))
set_option maxHeartbeats 4000000 in
set_option maxRecDepth 100000 in
theorem t_X12_put (a0 : Nat) (x1 : Int32) (x2 : Int32) {σ : Sg} (hT : sg_T σ) (h0 : is_A σ a0 11) {r : Sg} (hf : f_X12_put a0 x1 x2 σ = some r) : Ct yX12_put cX12_put 3 none 0 0 0 0 [vr (some a0), vi x1, vi x2] σ (fun r_ τ_ => (r_ = none) ∧ τ_ = r ∧ sg_T τ_ ∧ sg_E σ τ_) := by
  refine Ct.of (by decide +kernel) (Nat.le_of_ble_eq_true rfl) (fun Γ C1 => ?_)
  have C0 := C1.1
  have hE : sg_E σ σ := sg_E.rf
  unfold f_X12_put at hf
  show J_ Γ 0 [(0, vr (some a0)), (1, vi (x1)), (2, vi (x2))] [] σ 0 0
  refine J_aload_n (q := 1) C0 0 rfl rfl dX12_put_0 rfl trivial ?_
  refine J_getR (q := 4) C0 fl_X12_13_11 rfl (h0) rfl dX12_put_1 rfl ?_
  refine J_sipush (q := 7) (v := 520) C0 dX12_put_4 rfl rfl ?_
  refine J_aload_n (q := 8) C0 0 rfl rfl dX12_put_7 rfl trivial ?_
  refine J_getI (q := 11) C0 fl_X12_113_11 rfl (h0) rfl dX12_put_8 rfl ?_
  refine J_imul (q := 12) C0 dX12_put_11 rfl ?_
  refine J_aload_n (q := 13) C0 0 rfl rfl dX12_put_12 rfl trivial ?_
  refine J_getR (q := 16) C0 fl_X12_19_11 rfl (h0) rfl dX12_put_13 rfl ?_
  refine J_aload_n (q := 17) C0 0 rfl rfl dX12_put_16 rfl trivial ?_
  refine J_getI (q := 20) C0 fl_X12_113_11 rfl (h0) rfl dX12_put_17 rfl ?_
  refine K_some hf (fun b1 hb1 hf => ?_)
  have ab1 : is_A σ b1 12 := ((sg_T.op hT (j := 8) (h0) rfl)) b1 hb1
  refine K_chk hf (fun c2 hf => ?_)
  refine J_iald (q := 21) C0 hb1 (ab1) c2 dX12_put_20 rfl ?_
  refine J_iadd (q := 22) C0 dX12_put_21 rfl ?_
  refine J_iload_n (q := 23) C0 1 rfl rfl dX12_put_22 rfl ?_
  refine K_some hf (fun b3 hb3 hf => ?_)
  have ab3 : is_A σ b3 12 := ((sg_T.op hT (j := 6) (h0) rfl)) b3 hb3
  refine K_chk hf (fun c4 hf => ?_)
  refine J_iast (q := 24) C0 hb3 (ab3) c4 dX12_put_23 rfl ?_
  refine J_aload_n (q := 25) C0 0 rfl rfl dX12_put_24 rfl trivial ?_
  refine J_getR (q := 28) C0 fl_X12_16_11 rfl ((h0).putI) rfl dX12_put_25 rfl ?_
  refine J_sipush (q := 31) (v := 520) C0 dX12_put_28 rfl rfl ?_
  refine J_aload_n (q := 32) C0 0 rfl rfl dX12_put_31 rfl trivial ?_
  refine J_getI (q := 35) C0 fl_X12_113_11 rfl ((h0).putI) rfl dX12_put_32 rfl ?_
  refine J_imul (q := 36) C0 dX12_put_35 rfl ?_
  refine J_aload_n (q := 37) C0 0 rfl rfl dX12_put_36 rfl trivial ?_
  refine J_getR (q := 40) C0 fl_X12_19_11 rfl ((h0).putI) rfl dX12_put_37 rfl ?_
  refine J_aload_n (q := 41) C0 0 rfl rfl dX12_put_40 rfl trivial ?_
  refine J_getI (q := 44) C0 fl_X12_113_11 rfl ((h0).putI) rfl dX12_put_41 rfl ?_
  refine K_some hf (fun b5 hb5 hf => ?_)
  have ab5 : is_A (put_I σ b3 (((520) * (sg_I σ a0 14)) + (sg_I σ b1 (sg_I σ a0 14).toNatClampNeg)).toNatClampNeg (x1)) b5 12 := ((sg_T.op (hT).putI (j := 8) ((h0).putI) rfl)) b5 hb5
  refine K_chk hf (fun c6 hf => ?_)
  refine J_iald (q := 45) C0 hb5 (ab5) c6 dX12_put_44 rfl ?_
  refine J_iadd (q := 46) C0 dX12_put_45 rfl ?_
  refine J_iload_n (q := 47) C0 2 rfl rfl dX12_put_46 rfl ?_
  refine K_some hf (fun b7 hb7 hf => ?_)
  have ab7 : is_A (put_I σ b3 (((520) * (sg_I σ a0 14)) + (sg_I σ b1 (sg_I σ a0 14).toNatClampNeg)).toNatClampNeg (x1)) b7 12 := ((sg_T.op (hT).putI (j := 7) ((h0).putI) rfl)) b7 hb7
  refine K_chk hf (fun c8 hf => ?_)
  refine J_iast (q := 48) C0 hb7 (ab7) c8 dX12_put_47 rfl ?_
  refine J_aload_n (q := 49) C0 0 rfl rfl dX12_put_48 rfl trivial ?_
  refine J_getR (q := 52) C0 fl_X12_19_11 rfl (((h0).putI).putI) rfl dX12_put_49 rfl ?_
  refine J_aload_n (q := 53) C0 0 rfl rfl dX12_put_52 rfl trivial ?_
  refine J_getI (q := 56) C0 fl_X12_113_11 rfl (((h0).putI).putI) rfl dX12_put_53 rfl ?_
  refine J_dup2 (q := 57) C0 dX12_put_56 rfl rfl rfl ?_
  refine K_some hf (fun b9 hb9 hf => ?_)
  have ab9 : is_A (put_I (put_I σ b3 (((520) * (sg_I σ a0 14)) + (sg_I σ b1 (sg_I σ a0 14).toNatClampNeg)).toNatClampNeg (x1)) b7 (((520) * (sg_I (put_I σ b3 (((520) * (sg_I σ a0 14)) + (sg_I σ b1 (sg_I σ a0 14).toNatClampNeg)).toNatClampNeg (x1)) a0 14)) + (sg_I (put_I σ b3 (((520) * (sg_I σ a0 14)) + (sg_I σ b1 (sg_I σ a0 14).toNatClampNeg)).toNatClampNeg (x1)) b5 (sg_I (put_I σ b3 (((520) * (sg_I σ a0 14)) + (sg_I σ b1 (sg_I σ a0 14).toNatClampNeg)).toNatClampNeg (x1)) a0 14).toNatClampNeg)).toNatClampNeg (x2)) b9 12 := ((sg_T.op ((hT).putI).putI (j := 8) (((h0).putI).putI) rfl)) b9 hb9
  refine K_chk hf (fun c10 hf => ?_)
  refine J_iald (q := 58) C0 hb9 (ab9) c10 dX12_put_57 rfl ?_
  refine J_iconst (q := 59) (v := 1) C0 dX12_put_58 rfl rfl ?_
  refine J_iadd (q := 60) C0 dX12_put_59 rfl ?_
  refine K_chk hf (fun c11 hf => ?_)
  refine J_iast (q := 61) C0 hb9 (ab9) c11 dX12_put_60 rfl ?_
  obtain rfl := Option.some.inj hf; exact J_vret C1 dX12_put_61 rfl (Nat.zero_le _) (Nat.zero_le _) ⟨rfl, rfl, (((hT).putI).putI).putI, (((hE).putI).putI).putI⟩
def f_X12_letterOf (x0 : Int32) : Option Int32 :=
  if (x0) = (118) then
  (some (0))
  else
  (if (x0) = (112) then
  (some (1))
  else
  (if (x0) = (108) then
  (some (2))
  else
  (if (x0) = (110) then
  (some (3))
  else
  (if (x0) = (116) then
  (some (4))
  else
  (if (x0) = (102) then
  (some (5))
  else
  (some ((-1))))))))
set_option maxHeartbeats 4000000 in
set_option maxRecDepth 100000 in
theorem t_X12_letterOf (x0 : Int32) {σ : Sg} {r : Int32} (hf : f_X12_letterOf x0 = some r) : Ct yX12_letterOf cX12_letterOf 1 (some .int) 0 0 0 0 [vi x0] σ (fun r_ τ_ => (r_ = some (vi r)) ∧ τ_ = σ) := by
  refine Ct.of (by decide +kernel) (Nat.le_of_ble_eq_true rfl) (fun Γ C1 => ?_)
  have C0 := C1.1
  unfold f_X12_letterOf at hf
  show J_ Γ 0 [(0, vi (x0))] [] σ 0 0
  refine J_iload_n (q := 1) C0 0 rfl rfl dX12_letterOf_0 rfl ?_
  refine J_bipush (q := 3) (v := 118) C0 dX12_letterOf_1 rfl rfl ?_
  refine J_icmp_ne (t := 10) (q := 6) C0 dX12_letterOf_3 (by decide) rfl hf (fun c1 hf => ?_) (fun c1 hf => ?_)
  · refine J_iload_n (q := 11) C0 0 rfl rfl dX12_letterOf_10 rfl ?_
    refine J_bipush (q := 13) (v := 112) C0 dX12_letterOf_11 rfl rfl ?_
    refine J_icmp_ne (t := 20) (q := 16) C0 dX12_letterOf_13 (by decide) rfl hf (fun c2 hf => ?_) (fun c2 hf => ?_)
    · refine J_iload_n (q := 21) C0 0 rfl rfl dX12_letterOf_20 rfl ?_
      refine J_bipush (q := 23) (v := 108) C0 dX12_letterOf_21 rfl rfl ?_
      refine J_icmp_ne (t := 30) (q := 26) C0 dX12_letterOf_23 (by decide) rfl hf (fun c3 hf => ?_) (fun c3 hf => ?_)
      · refine J_iload_n (q := 31) C0 0 rfl rfl dX12_letterOf_30 rfl ?_
        refine J_bipush (q := 33) (v := 110) C0 dX12_letterOf_31 rfl rfl ?_
        refine J_icmp_ne (t := 40) (q := 36) C0 dX12_letterOf_33 (by decide) rfl hf (fun c4 hf => ?_) (fun c4 hf => ?_)
        · refine J_iload_n (q := 41) C0 0 rfl rfl dX12_letterOf_40 rfl ?_
          refine J_bipush (q := 43) (v := 116) C0 dX12_letterOf_41 rfl rfl ?_
          refine J_icmp_ne (t := 50) (q := 46) C0 dX12_letterOf_43 (by decide) rfl hf (fun c5 hf => ?_) (fun c5 hf => ?_)
          · refine J_iload_n (q := 51) C0 0 rfl rfl dX12_letterOf_50 rfl ?_
            refine J_bipush (q := 53) (v := 102) C0 dX12_letterOf_51 rfl rfl ?_
            refine J_icmp_ne (t := 60) (q := 56) C0 dX12_letterOf_53 (by decide) rfl hf (fun c6 hf => ?_) (fun c6 hf => ?_)
            · refine J_iconst (q := 61) (v := (-1)) C0 dX12_letterOf_60 rfl rfl ?_
              obtain rfl := Option.some.inj hf; exact J_iret C1 dX12_letterOf_61 rfl (Nat.zero_le _) (Nat.zero_le _) ⟨rfl, rfl⟩
            · refine J_iconst (q := 57) (v := 5) C0 dX12_letterOf_56 rfl rfl ?_
              refine J_goto (q := 61) C0 dX12_letterOf_57 (by decide) ?_
              obtain rfl := Option.some.inj hf; exact J_iret C1 dX12_letterOf_61 rfl (Nat.zero_le _) (Nat.zero_le _) ⟨rfl, rfl⟩
          · refine J_iconst (q := 47) (v := 4) C0 dX12_letterOf_46 rfl rfl ?_
            refine J_goto (q := 61) C0 dX12_letterOf_47 (by decide) ?_
            obtain rfl := Option.some.inj hf; exact J_iret C1 dX12_letterOf_61 rfl (Nat.zero_le _) (Nat.zero_le _) ⟨rfl, rfl⟩
        · refine J_iconst (q := 37) (v := 3) C0 dX12_letterOf_36 rfl rfl ?_
          refine J_goto (q := 61) C0 dX12_letterOf_37 (by decide) ?_
          obtain rfl := Option.some.inj hf; exact J_iret C1 dX12_letterOf_61 rfl (Nat.zero_le _) (Nat.zero_le _) ⟨rfl, rfl⟩
      · refine J_iconst (q := 27) (v := 2) C0 dX12_letterOf_26 rfl rfl ?_
        refine J_goto (q := 61) C0 dX12_letterOf_27 (by decide) ?_
        obtain rfl := Option.some.inj hf; exact J_iret C1 dX12_letterOf_61 rfl (Nat.zero_le _) (Nat.zero_le _) ⟨rfl, rfl⟩
    · refine J_iconst (q := 17) (v := 1) C0 dX12_letterOf_16 rfl rfl ?_
      refine J_goto (q := 61) C0 dX12_letterOf_17 (by decide) ?_
      obtain rfl := Option.some.inj hf; exact J_iret C1 dX12_letterOf_61 rfl (Nat.zero_le _) (Nat.zero_le _) ⟨rfl, rfl⟩
  · refine J_iconst (q := 7) (v := 0) C0 dX12_letterOf_6 rfl rfl ?_
    refine J_goto (q := 61) C0 dX12_letterOf_7 (by decide) ?_
    obtain rfl := Option.some.inj hf; exact J_iret C1 dX12_letterOf_61 rfl (Nat.zero_le _) (Nat.zero_le _) ⟨rfl, rfl⟩
def f_X12_opens_B13 (a0 : Nat) (σ : Sg) : Option Sg :=
  some (put_I (put_I σ a0 5 ((sg_I σ a0 5) + (1))) a0 3 ((sg_I (put_I σ a0 5 ((sg_I σ a0 5) + (1))) a0 3) + (1)))
def f_X12_opens (a0 : Nat) (σ : Sg) : Option Sg :=
  if (sg_I σ a0 5) = (6) then
  (Option.bind (f_X12_bad a0  σ) fun p2 =>
  f_X12_opens_B13 a0  (p2))
  else
  (f_X12_opens_B13 a0  σ)
set_option maxHeartbeats 4000000 in
set_option maxRecDepth 100000 in
theorem t_X12_opens_B13 {a0 : Nat} {Γ : Gm} {σ0 : Sg} {r : Sg} (C1 : CM Γ cX12_opens RX12 1 none 1 20 0 0 (fun r_ τ_ => (r_ = none) ∧ τ_ = r ∧ sg_T τ_ ∧ sg_E σ0 τ_)) (σ : Sg) (hT : sg_T σ) (hE : sg_E σ0 σ) (h0 : is_A σ a0 11) (hf : f_X12_opens_B13 a0   σ = some r) : J_ Γ 13 [(0, vr (some a0))] [] σ 0 0 := by
  have C0 := C1.1
  unfold f_X12_opens_B13 at hf
  refine J_aload_n (q := 14) C0 0 rfl rfl dX12_opens_13 rfl trivial ?_
  refine J_dup (q := 15) C0 dX12_opens_14 rfl rfl ?_
  refine J_getI (q := 18) C0 fl_X12_116_11 rfl (h0) rfl dX12_opens_15 rfl ?_
  refine J_iconst (q := 19) (v := 1) C0 dX12_opens_18 rfl rfl ?_
  refine J_iadd (q := 20) C0 dX12_opens_19 rfl ?_
  refine J_putI (q := 23) C0 fl_X12_116_11 rfl (h0) rfl dX12_opens_20 rfl ?_
  refine J_aload_n (q := 24) C0 0 rfl rfl dX12_opens_23 rfl trivial ?_
  refine J_dup (q := 25) C0 dX12_opens_24 rfl rfl ?_
  refine J_getI (q := 28) C0 fl_X12_103_11 rfl ((h0).putI) rfl dX12_opens_25 rfl ?_
  refine J_iconst (q := 29) (v := 1) C0 dX12_opens_28 rfl rfl ?_
  refine J_iadd (q := 30) C0 dX12_opens_29 rfl ?_
  refine J_putI (q := 33) C0 fl_X12_103_11 rfl ((h0).putI) rfl dX12_opens_30 rfl ?_
  obtain rfl := Option.some.inj hf; exact J_vret C1 dX12_opens_33 rfl (Nat.zero_le _) (Nat.zero_le _) ⟨rfl, rfl, ((hT).putI).putI, ((hE).putI).putI⟩
set_option maxHeartbeats 4000000 in
set_option maxRecDepth 100000 in
theorem t_X12_opens (a0 : Nat) {σ : Sg} (hT : sg_T σ) (h0 : is_A σ a0 11) {r : Sg} (hf : f_X12_opens a0  σ = some r) : Ct yX12_opens cX12_opens 1 none 1 20 0 0 [vr (some a0)] σ (fun r_ τ_ => (r_ = none) ∧ τ_ = r ∧ sg_T τ_ ∧ sg_E σ τ_) := by
  refine Ct.of (by decide +kernel) (Nat.le_of_ble_eq_true rfl) (fun Γ C1 => ?_)
  have C0 := C1.1
  have hE : sg_E σ σ := sg_E.rf
  unfold f_X12_opens at hf
  show J_ Γ 0 [(0, vr (some a0))] [] σ 0 0
  refine J_aload_n (q := 1) C0 0 rfl rfl dX12_opens_0 rfl trivial ?_
  refine J_getI (q := 4) C0 fl_X12_116_11 rfl (h0) rfl dX12_opens_1 rfl ?_
  refine J_bipush (q := 6) (v := 6) C0 dX12_opens_4 rfl rfl ?_
  refine J_icmp_ne (t := 13) (q := 9) C0 dX12_opens_6 (by decide) rfl hf (fun c1 hf => ?_) (fun c1 hf => ?_)
  · exact t_X12_opens_B13 C1     σ (hT) (hE) (h0)  hf
  · refine J_aload_n (q := 10) C0 0 rfl rfl dX12_opens_9 rfl trivial ?_
    refine K_some hf (fun p2 hp2 hf => ?_)
    refine J_callV (q := 13) (ci := 11) (as := []) (rest := []) C0 rfl (h0) (t_X12_bad a0  (hT) (h0)  hp2) ml_X12_bad lk_X12_119 im_X12_bad se_X12_bad rfl (by decide) dX12_opens_10 rfl rfl rfl (by simp [ac_]) C1.room (by decide) (by decide) (by decide) (by decide) (fun r_ τ_ hQ => ?_)
    obtain ⟨rfl, ht_, Tp2, Ep2⟩ := hQ; have ht_ := ht_.symm; subst ht_
    show J_ Γ 13 [(0, vr (some a0))] [] p2 0 0
    exact t_X12_opens_B13 C1     (p2) (Tp2) ((hE).tr Ep2) ((Ep2.at h0))  hf
def f_X12_closes_B20 (N : Nat) (a0 : Nat) (σ : Sg) : Option Sg :=
  some (put_I (put_I σ a0 3 ((sg_I σ a0 3) + (1))) a0 5 ((sg_I (put_I σ a0 3 ((sg_I σ a0 3) + (1))) a0 5) - (1)))
def f_X12_closes (N : Nat) (a0 : Nat) (x1 : Int32) (σ : Sg) : Option Sg :=
  if (sg_I σ a0 4) = ((-1)) then
  (Option.bind (f_X12_look N a0  σ) fun p2 =>
  if (p2.1) = (x1) then
  (f_X12_closes_B20 N a0  (p2.2))
  else
  (Option.bind (f_X12_bad a0  p2.2) fun p4 =>
  f_X12_closes_B20 N a0  (p4)))
  else
  (f_X12_closes_B20 N a0  σ)
set_option maxHeartbeats 4000000 in
set_option maxRecDepth 100000 in
theorem t_X12_closes_B20 {N : Nat} {a0 : Nat} {Γ : Gm} {σ0 : Sg} {r : Sg} (C1 : CM Γ cX12_closes RX12 2 none 2 40 0 0 (fun r_ τ_ => (r_ = none) ∧ τ_ = r ∧ sg_T τ_ ∧ sg_E σ0 τ_)) (σ : Sg) (hT : sg_T σ) (hE : sg_E σ0 σ) (h0 : is_A σ a0 11) (hf : f_X12_closes_B20 N a0   σ = some r) : J_ Γ 20 [(0, vr (some a0))] [] σ 0 0 := by
  have C0 := C1.1
  unfold f_X12_closes_B20 at hf
  refine J_aload_n (q := 21) C0 0 rfl rfl dX12_closes_20 rfl trivial ?_
  refine J_dup (q := 22) C0 dX12_closes_21 rfl rfl ?_
  refine J_getI (q := 25) C0 fl_X12_103_11 rfl (h0) rfl dX12_closes_22 rfl ?_
  refine J_iconst (q := 26) (v := 1) C0 dX12_closes_25 rfl rfl ?_
  refine J_iadd (q := 27) C0 dX12_closes_26 rfl ?_
  refine J_putI (q := 30) C0 fl_X12_103_11 rfl (h0) rfl dX12_closes_27 rfl ?_
  refine J_aload_n (q := 31) C0 0 rfl rfl dX12_closes_30 rfl trivial ?_
  refine J_dup (q := 32) C0 dX12_closes_31 rfl rfl ?_
  refine J_getI (q := 35) C0 fl_X12_116_11 rfl ((h0).putI) rfl dX12_closes_32 rfl ?_
  refine J_iconst (q := 36) (v := 1) C0 dX12_closes_35 rfl rfl ?_
  refine J_isub (q := 37) C0 dX12_closes_36 rfl ?_
  refine J_putI (q := 40) C0 fl_X12_116_11 rfl ((h0).putI) rfl dX12_closes_37 rfl ?_
  obtain rfl := Option.some.inj hf; exact J_vret C1 dX12_closes_40 rfl (Nat.zero_le _) (Nat.zero_le _) ⟨rfl, rfl, ((hT).putI).putI, ((hE).putI).putI⟩
set_option maxHeartbeats 4000000 in
set_option maxRecDepth 100000 in
theorem t_X12_closes (N : Nat) (a0 : Nat) (x1 : Int32) {σ : Sg} (hT : sg_T σ) (h0 : is_A σ a0 11) {r : Sg} (hf : f_X12_closes N a0 x1 σ = some r) : Ct yX12_closes cX12_closes 2 none 2 40 0 0 [vr (some a0), vi x1] σ (fun r_ τ_ => (r_ = none) ∧ τ_ = r ∧ sg_T τ_ ∧ sg_E σ τ_) := by
  refine Ct.of (by decide +kernel) (Nat.le_of_ble_eq_true rfl) (fun Γ C1 => ?_)
  have C0 := C1.1
  have hE : sg_E σ σ := sg_E.rf
  unfold f_X12_closes at hf
  show J_ Γ 0 [(0, vr (some a0)), (1, vi (x1))] [] σ 0 0
  refine J_aload_n (q := 1) C0 0 rfl rfl dX12_closes_0 rfl trivial ?_
  refine J_getI (q := 4) C0 fl_X12_110_11 rfl (h0) rfl dX12_closes_1 rfl ?_
  refine J_iconst (q := 5) (v := (-1)) C0 dX12_closes_4 rfl rfl ?_
  refine J_icmp_ne (t := 20) (q := 8) C0 dX12_closes_5 (by decide) rfl hf (fun c1 hf => ?_) (fun c1 hf => ?_)
  · refine J_sub (lv' := [(0, vr (some a0))]) [0] rfl ?_
    exact t_X12_closes_B20 C1     σ (hT) (hE) (h0)  hf
  · refine J_aload_n (q := 9) C0 0 rfl rfl dX12_closes_8 rfl trivial ?_
    refine K_some hf (fun p2 hp2 hf => ?_)
    refine J_callV (q := 12) (ci := 11) (as := []) (rest := []) C0 rfl (h0) (t_X12_look N a0  (hT) (h0)  hp2) ml_X12_look lk_X12_122 im_X12_look se_X12_look rfl (by decide) dX12_closes_9 rfl rfl rfl (by simp [ac_]) C1.room (by decide) (by decide) (by decide) (by decide) (fun r_ τ_ hQ => ?_)
    obtain ⟨rfl, rfl, Tp2, Ep2⟩ := hQ
    show J_ Γ 12 [(0, vr (some a0)), (1, vi (x1))] [vi (p2.1)] p2.2 0 0
    refine J_iload_n (q := 13) C0 1 rfl rfl dX12_closes_12 rfl ?_
    refine J_icmp_eq (t := 20) (q := 16) C0 dX12_closes_13 (by decide) rfl hf (fun c3 hf => ?_) (fun c3 hf => ?_)
    · refine J_sub (lv' := [(0, vr (some a0))]) [0] rfl ?_
      exact t_X12_closes_B20 C1     (p2.2) (Tp2) ((hE).tr Ep2) ((Ep2.at h0))  hf
    · refine J_aload_n (q := 17) C0 0 rfl rfl dX12_closes_16 rfl trivial ?_
      refine K_some hf (fun p4 hp4 hf => ?_)
      refine J_callV (q := 20) (ci := 11) (as := []) (rest := []) C0 rfl ((Ep2.at h0)) (t_X12_bad a0  (Tp2) ((Ep2.at h0))  hp4) ml_X12_bad lk_X12_119 im_X12_bad se_X12_bad rfl (by decide) dX12_closes_17 rfl rfl rfl (by simp [ac_]) C1.room (by decide) (by decide) (by decide) (by decide) (fun r_ τ_ hQ => ?_)
      obtain ⟨rfl, ht_, Tp4, Ep4⟩ := hQ; have ht_ := ht_.symm; subst ht_
      show J_ Γ 20 [(0, vr (some a0)), (1, vi (x1))] [] p4 0 0
      refine J_sub (lv' := [(0, vr (some a0))]) [0] rfl ?_
      exact t_X12_closes_B20 C1     (p4) (Tp4) (((hE).tr Ep2).tr Ep4) ((Ep4.at (Ep2.at h0)))  hf
def f_X12_plainNumber_B48 (N : Nat) (a0 : Nat) (v1 : Int32) (σ : Sg) : Option (Int32 × Sg) :=
  Option.bind (f_X12_here a0  σ) fun p2 =>
  Option.bind (f_X12_isDigit (p2) ) fun p3 =>
  if (p3) = (0) then
  (some (v1, σ))
  else
  (Option.bind (f_X12_bad a0  σ) fun p5 =>
  some (v1, p5))
def f_X12_plainNumber_L4 (N : Nat) (a0 : Nat) : Nat → Int32 → Int32 → Sg → Option (Int32 × Sg)
  | 0, _, _, _ => none
  | n + 1, v1, v2, σ =>
  if (v2) < (4) then
  (Option.bind (f_X12_here a0  σ) fun p6 =>
  Option.bind (f_X12_isDigit (p6) ) fun p7 =>
  if (p7) = (0) then
  (f_X12_plainNumber_B48 N a0 (v1) σ)
  else
  (Option.bind (f_X12_here a0  σ) fun p9 =>
  f_X12_plainNumber_L4 N a0 n ((((10) * (v1)) + (p9)) - (48)) (v2 + 1) (put_I σ a0 3 ((sg_I σ a0 3) + (1)))))
  else
  (f_X12_plainNumber_B48 N a0 (v1) σ)
def f_X12_plainNumber (N : Nat) (a0 : Nat) (σ : Sg) : Option (Int32 × Sg) :=
  f_X12_plainNumber_L4 N a0 N (0) (0) σ
set_option maxHeartbeats 4000000 in
set_option maxRecDepth 100000 in
theorem t_X12_plainNumber_B48 {N : Nat} {a0 : Nat} {Γ : Gm} {σ0 : Sg} {r : (Int32 × Sg)} (C1 : CM Γ cX12_plainNumber RX12 3 (some .int) 1 20 0 0 (fun r_ τ_ => (r_ = some (vi r.1)) ∧ τ_ = r.2 ∧ sg_T τ_ ∧ sg_E σ0 τ_)) (v1 : Int32) (σ : Sg) (hT : sg_T σ) (hE : sg_E σ0 σ) (h0 : is_A σ a0 11) (hf : f_X12_plainNumber_B48 N a0  v1 σ = some r) : J_ Γ 48 [(0, vr (some a0)), (1, vi (v1))] [] σ 0 0 := by
  have C0 := C1.1
  unfold f_X12_plainNumber_B48 at hf
  refine J_aload_n (q := 49) C0 0 rfl rfl dX12_plainNumber_48 rfl trivial ?_
  refine K_some hf (fun p2 hp2 hf => ?_)
  refine J_callV (q := 52) (ci := 11) (as := []) (rest := []) C0 rfl (h0) (t_X12_here a0  (hT) (h0)  hp2) ml_X12_here lk_X12_106 im_X12_here se_X12_here rfl (by decide) dX12_plainNumber_49 rfl rfl rfl (by simp [ac_]) C1.room (by decide) (by decide) (by decide) (by decide) (fun r_ τ_ hQ => ?_)
  obtain ⟨rfl, ht_⟩ := hQ; have ht_ := ht_.symm; subst ht_
  show J_ Γ 52 [(0, vr (some a0)), (1, vi (v1))] [vi (p2)] σ 0 0
  refine K_some hf (fun p3 hp3 hf => ?_)
  refine J_callS (q := 55) (as := [vi (p2)]) (rest := []) C0 (t_X12_isDigit (p2)  hp3) ml_X12_isDigit lk_X12_125 sm_X12_isDigit dX12_plainNumber_52 rfl rfl rfl (by simp [ac_]) C1.room (by decide) (by decide) (by decide) (by decide) (fun r_ τ_ hQ => ?_)
  obtain ⟨⟨rfl, zp3⟩, ht_⟩ := hQ; have ht_ := ht_.symm; subst ht_
  show J_ Γ 55 [(0, vr (some a0)), (1, vi (v1))] [vi (p3)] σ 0 0
  refine J_if_eq (t := 62) (q := 58) C0 dX12_plainNumber_55 (by decide) rfl hf (fun c4 hf => ?_) (fun c4 hf => ?_)
  · refine J_iload_n (q := 63) C0 1 rfl rfl dX12_plainNumber_62 rfl ?_
    obtain rfl := Option.some.inj hf; exact J_iret C1 dX12_plainNumber_63 rfl (Nat.zero_le _) (Nat.zero_le _) ⟨rfl, rfl, hT, hE⟩
  · refine J_aload_n (q := 59) C0 0 rfl rfl dX12_plainNumber_58 rfl trivial ?_
    refine K_some hf (fun p5 hp5 hf => ?_)
    refine J_callV (q := 62) (ci := 11) (as := []) (rest := []) C0 rfl (h0) (t_X12_bad a0  (hT) (h0)  hp5) ml_X12_bad lk_X12_119 im_X12_bad se_X12_bad rfl (by decide) dX12_plainNumber_59 rfl rfl rfl (by simp [ac_]) C1.room (by decide) (by decide) (by decide) (by decide) (fun r_ τ_ hQ => ?_)
    obtain ⟨rfl, ht_, Tp5, Ep5⟩ := hQ; have ht_ := ht_.symm; subst ht_
    show J_ Γ 62 [(0, vr (some a0)), (1, vi (v1))] [] p5 0 0
    refine J_iload_n (q := 63) C0 1 rfl rfl dX12_plainNumber_62 rfl ?_
    obtain rfl := Option.some.inj hf; exact J_iret C1 dX12_plainNumber_63 rfl (Nat.zero_le _) (Nat.zero_le _) ⟨rfl, rfl, Tp5, (hE).tr Ep5⟩
set_option maxHeartbeats 4000000 in
set_option maxRecDepth 100000 in
theorem t_X12_plainNumber_L4 {N : Nat} {a0 : Nat} {Γ : Gm} {σ0 : Sg} {r : (Int32 × Sg)} (C1 : CM Γ cX12_plainNumber RX12 3 (some .int) 1 20 0 0 (fun r_ τ_ => (r_ = some (vi r.1)) ∧ τ_ = r.2 ∧ sg_T τ_ ∧ sg_E σ0 τ_)) : ∀ (n : Nat) (v1 : Int32) (v2 : Int32) (σ : Sg), sg_T σ → sg_E σ0 σ → is_A σ a0 11 → f_X12_plainNumber_L4 N a0  n v1 v2 σ = some r → J_ Γ 4 [(0, vr (some a0)), (1, vi (v1)), (2, vi (v2))] [] σ 0 0 := by
  have C0 := C1.1
  intro n
  induction n with
  | zero => intro v1 v2 σ hT hE h0  hf; unfold f_X12_plainNumber_L4 at hf; cases hf
  | succ n ih =>
    intro v1 v2 σ hT hE h0  hf
    rw [f_X12_plainNumber_L4] at hf
    refine J_iload_n (q := 5) C0 2 rfl rfl dX12_plainNumber_4 rfl ?_
    refine J_iconst (q := 6) (v := 4) C0 dX12_plainNumber_5 rfl rfl ?_
    refine J_icmp_ge (t := 48) (q := 9) C0 dX12_plainNumber_6 (by decide) rfl hf (fun c1 hf => ?_) (fun c1 hf => ?_)
    · refine J_sub (lv' := [(0, vr (some a0)), (1, vi (v1))]) [0, 1] rfl ?_
      exact t_X12_plainNumber_B48 C1    (v1) σ (hT) (hE) (h0)  hf
    · refine J_aload_n (q := 10) C0 0 rfl rfl dX12_plainNumber_9 rfl trivial ?_
      refine K_some hf (fun p6 hp6 hf => ?_)
      refine J_callV (q := 13) (ci := 11) (as := []) (rest := []) C0 rfl (h0) (t_X12_here a0  (hT) (h0)  hp6) ml_X12_here lk_X12_106 im_X12_here se_X12_here rfl (by decide) dX12_plainNumber_10 rfl rfl rfl (by simp [ac_]) C1.room (by decide) (by decide) (by decide) (by decide) (fun r_ τ_ hQ => ?_)
      obtain ⟨rfl, ht_⟩ := hQ; have ht_ := ht_.symm; subst ht_
      show J_ Γ 13 [(0, vr (some a0)), (1, vi (v1)), (2, vi (v2))] [vi (p6)] σ 0 0
      refine K_some hf (fun p7 hp7 hf => ?_)
      refine J_callS (q := 16) (as := [vi (p6)]) (rest := []) C0 (t_X12_isDigit (p6)  hp7) ml_X12_isDigit lk_X12_125 sm_X12_isDigit dX12_plainNumber_13 rfl rfl rfl (by simp [ac_]) C1.room (by decide) (by decide) (by decide) (by decide) (fun r_ τ_ hQ => ?_)
      obtain ⟨⟨rfl, zp7⟩, ht_⟩ := hQ; have ht_ := ht_.symm; subst ht_
      show J_ Γ 16 [(0, vr (some a0)), (1, vi (v1)), (2, vi (v2))] [vi (p7)] σ 0 0
      refine J_if_eq (t := 48) (q := 19) C0 dX12_plainNumber_16 (by decide) rfl hf (fun c8 hf => ?_) (fun c8 hf => ?_)
      · refine J_sub (lv' := [(0, vr (some a0)), (1, vi (v1))]) [0, 1] rfl ?_
        exact t_X12_plainNumber_B48 C1    (v1) σ (hT) (hE) (h0)  hf
      · refine J_bipush (q := 21) (v := 10) C0 dX12_plainNumber_19 rfl rfl ?_
        refine J_iload_n (q := 22) C0 1 rfl rfl dX12_plainNumber_21 rfl ?_
        refine J_imul (q := 23) C0 dX12_plainNumber_22 rfl ?_
        refine J_aload_n (q := 24) C0 0 rfl rfl dX12_plainNumber_23 rfl trivial ?_
        refine K_some hf (fun p9 hp9 hf => ?_)
        refine J_callV (q := 27) (ci := 11) (as := []) (rest := [vi ((10) * (v1))]) C0 rfl (h0) (t_X12_here a0  (hT) (h0)  hp9) ml_X12_here lk_X12_106 im_X12_here se_X12_here rfl (by decide) dX12_plainNumber_24 rfl rfl rfl (by simp [ac_]) C1.room (by decide) (by decide) (by decide) (by decide) (fun r_ τ_ hQ => ?_)
        obtain ⟨rfl, ht_⟩ := hQ; have ht_ := ht_.symm; subst ht_
        show J_ Γ 27 [(0, vr (some a0)), (1, vi (v1)), (2, vi (v2))] [vi (p9), vi ((10) * (v1))] σ 0 0
        refine J_iadd (q := 28) C0 dX12_plainNumber_27 rfl ?_
        refine J_bipush (q := 30) (v := 48) C0 dX12_plainNumber_28 rfl rfl ?_
        refine J_isub (q := 31) C0 dX12_plainNumber_30 rfl ?_
        refine J_istore_n (q := 32) (lv' := [(1, vi ((((10) * (v1)) + (p9)) - (48))), (0, vr (some a0)), (2, vi (v2))]) C0 rfl (G_nl C1 (by decide)) dX12_plainNumber_31 rfl rfl ?_
        refine J_aload_n (q := 33) C0 1 rfl rfl dX12_plainNumber_32 rfl trivial ?_
        refine J_dup (q := 34) C0 dX12_plainNumber_33 rfl rfl ?_
        refine J_getI (q := 37) C0 fl_X12_103_11 rfl (h0) rfl dX12_plainNumber_34 rfl ?_
        refine J_iconst (q := 38) (v := 1) C0 dX12_plainNumber_37 rfl rfl ?_
        refine J_iadd (q := 39) C0 dX12_plainNumber_38 rfl ?_
        refine J_putI (q := 42) C0 fl_X12_103_11 rfl (h0) rfl dX12_plainNumber_39 rfl ?_
        refine J_iinc (q := 45) (v := v2 + 1) (lv' := [(2, vi (v2 + 1)), (1, vi ((((10) * (v1)) + (p9)) - (48))), (0, vr (some a0))]) C0 2 rfl rfl (G_nl C1 (by decide)) dX12_plainNumber_42 rfl rfl ?_
        refine J_goto (q := 4) C0 dX12_plainNumber_45 (by decide) ?_
        refine J_sub (lv' := [(0, vr (some a0)), (1, vi ((((10) * (v1)) + (p9)) - (48))), (2, vi (v2 + 1))]) [2, 1, 0] rfl ?_
        exact ih ((((10) * (v1)) + (p9)) - (48)) (v2 + 1) (put_I σ a0 3 ((sg_I σ a0 3) + (1))) ((hT).putI) ((hE).putI) ((h0).putI)  hf
set_option maxHeartbeats 4000000 in
set_option maxRecDepth 100000 in
theorem t_X12_plainNumber (N : Nat) (a0 : Nat) {σ : Sg} (hT : sg_T σ) (h0 : is_A σ a0 11) {r : (Int32 × Sg)} (hf : f_X12_plainNumber N a0  σ = some r) : Ct yX12_plainNumber cX12_plainNumber 3 (some .int) 1 20 0 0 [vr (some a0)] σ (fun r_ τ_ => (r_ = some (vi r.1)) ∧ τ_ = r.2 ∧ sg_T τ_ ∧ sg_E σ τ_) := by
  refine Ct.of (by decide +kernel) (Nat.le_of_ble_eq_true rfl) (fun Γ C1 => ?_)
  have C0 := C1.1
  have hE : sg_E σ σ := sg_E.rf
  unfold f_X12_plainNumber at hf
  show J_ Γ 0 [(0, vr (some a0))] [] σ 0 0
  refine J_iconst (q := 1) (v := 0) C0 dX12_plainNumber_0 rfl rfl ?_
  refine J_istore_n (q := 2) (lv' := [(1, vi (0)), (0, vr (some a0))]) C0 rfl (G_nl C1 (by decide)) dX12_plainNumber_1 rfl rfl ?_
  refine J_iconst (q := 3) (v := 0) C0 dX12_plainNumber_2 rfl rfl ?_
  refine J_istore_n (q := 4) (lv' := [(2, vi (0)), (1, vi (0)), (0, vr (some a0))]) C0 rfl (G_nl C1 (by decide)) dX12_plainNumber_3 rfl rfl ?_
  refine J_sub (lv' := [(0, vr (some a0)), (1, vi (0)), (2, vi (0))]) [2, 1, 0] rfl ?_
  exact t_X12_plainNumber_L4 C1    N (0) (0) σ (hT) (hE) (h0)  hf
def f_X12_isSign (x0 : Int32) : Option Int32 :=
  if (x0) = (61) then
  (some (1))
  else
  (if (x0) = (60) then
  (some (1))
  else
  (if (x0) = (62) then
  (some (1))
  else
  (some (0))))
set_option maxHeartbeats 4000000 in
set_option maxRecDepth 100000 in
theorem t_X12_isSign (x0 : Int32) {σ : Sg} {r : Int32} (hf : f_X12_isSign x0 = some r) : Ct yX12_isSign cX12_isSign 1 (some .boolean) 0 0 0 0 [vi x0] σ (fun r_ τ_ => (r_ = some (vi r) ∧ (r = 0 ∨ r = 1)) ∧ τ_ = σ) := by
  refine Ct.of (by decide +kernel) (Nat.le_of_ble_eq_true rfl) (fun Γ C1 => ?_)
  have C0 := C1.1
  unfold f_X12_isSign at hf
  show J_ Γ 0 [(0, vi (x0))] [] σ 0 0
  refine J_iload_n (q := 1) C0 0 rfl rfl dX12_isSign_0 rfl ?_
  refine J_bipush (q := 3) (v := 61) C0 dX12_isSign_1 rfl rfl ?_
  refine J_icmp_eq (t := 18) (q := 6) C0 dX12_isSign_3 (by decide) rfl hf (fun c1 hf => ?_) (fun c1 hf => ?_)
  · refine J_iconst (q := 19) (v := 1) C0 dX12_isSign_18 rfl rfl ?_
    refine J_goto (q := 23) C0 dX12_isSign_19 (by decide) ?_
    obtain rfl := Option.some.inj hf; exact J_zret C1 dX12_isSign_23 rfl (Or.inr rfl) (Nat.zero_le _) (Nat.zero_le _) ⟨⟨rfl, (Or.inr rfl)⟩, rfl⟩
  · refine J_iload_n (q := 7) C0 0 rfl rfl dX12_isSign_6 rfl ?_
    refine J_bipush (q := 9) (v := 60) C0 dX12_isSign_7 rfl rfl ?_
    refine J_icmp_eq (t := 18) (q := 12) C0 dX12_isSign_9 (by decide) rfl hf (fun c2 hf => ?_) (fun c2 hf => ?_)
    · refine J_iconst (q := 19) (v := 1) C0 dX12_isSign_18 rfl rfl ?_
      refine J_goto (q := 23) C0 dX12_isSign_19 (by decide) ?_
      obtain rfl := Option.some.inj hf; exact J_zret C1 dX12_isSign_23 rfl (Or.inr rfl) (Nat.zero_le _) (Nat.zero_le _) ⟨⟨rfl, (Or.inr rfl)⟩, rfl⟩
    · refine J_iload_n (q := 13) C0 0 rfl rfl dX12_isSign_12 rfl ?_
      refine J_bipush (q := 15) (v := 62) C0 dX12_isSign_13 rfl rfl ?_
      refine J_icmp_ne (t := 22) (q := 18) C0 dX12_isSign_15 (by decide) rfl hf (fun c3 hf => ?_) (fun c3 hf => ?_)
      · refine J_iconst (q := 23) (v := 0) C0 dX12_isSign_22 rfl rfl ?_
        obtain rfl := Option.some.inj hf; exact J_zret C1 dX12_isSign_23 rfl (Or.inl rfl) (Nat.zero_le _) (Nat.zero_le _) ⟨⟨rfl, (Or.inl rfl)⟩, rfl⟩
      · refine J_iconst (q := 19) (v := 1) C0 dX12_isSign_18 rfl rfl ?_
        refine J_goto (q := 23) C0 dX12_isSign_19 (by decide) ?_
        obtain rfl := Option.some.inj hf; exact J_zret C1 dX12_isSign_23 rfl (Or.inr rfl) (Nat.zero_le _) (Nat.zero_le _) ⟨⟨rfl, (Or.inr rfl)⟩, rfl⟩
def f_X12_unit_o (N : Nat) (rec : Nat → Nat → Sg → Option Sg) (a0 : Nat) (σ : Sg) : Option Sg :=
  Option.bind (f_X12_look N a0  σ) fun p1 =>
  if (p1.1) = (33) then
  (Option.bind (f_X12_opens a0  p1.2) fun p11 =>
  if (sg_I p11 a0 4) = ((-1)) then
  (Option.bind (rec 0 a0  p11) fun p13 =>
  Option.bind (f_X12_put a0 (9) (0) p13) fun p14 =>
  some (put_I p14 a0 5 ((sg_I p14 a0 5) - (1))))
  else
  (some (p11)))
  else
  (if (p1.1) = (40) then
  (Option.bind (f_X12_opens a0  p1.2) fun p7 =>
  if (sg_I p7 a0 4) = ((-1)) then
  (Option.bind (rec 3 a0  p7) fun p9 =>
  Option.bind (f_X12_closes N a0 (41) p9) fun p10 =>
  some (p10))
  else
  (some (p7)))
  else
  (Option.bind (rec 5 a0  p1.2) fun p4 =>
  if (sg_I p4 a0 4) = ((-1)) then
  (Option.bind (rec 4 a0  p4) fun p6 =>
  some (p6))
  else
  (some (p4))))
set_option maxHeartbeats 4000000 in
set_option maxRecDepth 100000 in
theorem t_X12_unit_o (N : Nat) {rec : Nat → Nat → Sg → Option Sg} {d : Nat} (hr_X12_unit : ∀ (a0 : Nat) (σ : Sg), sg_T σ → is_A σ a0 11 → ∀ r : Sg, rec 0 a0 σ = some r → Ct yX12_unit cX12_unit 2 none (d + 3) (d * 21 + 61) 0 0 [vr (some a0)] σ (fun r_ τ_ => (r_ = none) ∧ τ_ = r ∧ sg_T τ_ ∧ sg_E σ τ_)) (hr_X12_condition : ∀ (a0 : Nat) (σ : Sg), sg_T σ → is_A σ a0 11 → ∀ r : Sg, rec 3 a0 σ = some r → Ct yX12_condition cX12_condition 1 none (d + 3) (d * 21 + 61) 0 0 [vr (some a0)] σ (fun r_ τ_ => (r_ = none) ∧ τ_ = r ∧ sg_T τ_ ∧ sg_E σ τ_)) (hr_X12_sum : ∀ (a0 : Nat) (σ : Sg), sg_T σ → is_A σ a0 11 → ∀ r : Sg, rec 5 a0 σ = some r → Ct yX12_sum cX12_sum 2 none (d + 3) (d * 21 + 61) 0 0 [vr (some a0)] σ (fun r_ τ_ => (r_ = none) ∧ τ_ = r ∧ sg_T τ_ ∧ sg_E σ τ_)) (hr_X12_compare : ∀ (a0 : Nat) (σ : Sg), sg_T σ → is_A σ a0 11 → ∀ r : Sg, rec 4 a0 σ = some r → Ct yX12_compare cX12_compare 2 none (d + 3) (d * 21 + 61) 0 0 [vr (some a0)] σ (fun r_ τ_ => (r_ = none) ∧ τ_ = r ∧ sg_T τ_ ∧ sg_E σ τ_)) (a0 : Nat) {σ : Sg} (hT : sg_T σ) (h0 : is_A σ a0 11) {r : Sg} (hf : f_X12_unit_o N rec a0  σ = some r) : Ct yX12_unit cX12_unit 2 none (d + 1 + 3) ((d + 1) * 21 + 61) 0 0 [vr (some a0)] σ (fun r_ τ_ => (r_ = none) ∧ τ_ = r ∧ sg_T τ_ ∧ sg_E σ τ_) := by
  refine Ct.of (by decide +kernel) (Nat.le_of_ble_eq_true rfl) (fun Γ C1 => ?_)
  have C0 := C1.1
  have hE : sg_E σ σ := sg_E.rf
  unfold f_X12_unit_o at hf
  show J_ Γ 0 [(0, vr (some a0))] [] σ 0 0
  refine J_aload_n (q := 1) C0 0 rfl rfl dX12_unit_0 rfl trivial ?_
  refine K_some hf (fun p1 hp1 hf => ?_)
  refine J_callV (q := 4) (ci := 11) (as := []) (rest := []) C0 rfl (h0) (t_X12_look N a0  (hT) (h0)  hp1) ml_X12_look lk_X12_122 im_X12_look se_X12_look rfl (by decide) dX12_unit_1 rfl rfl rfl (by simp [ac_]) C1.room (by omega) (by omega) (by decide) (by decide) (fun r_ τ_ hQ => ?_)
  obtain ⟨rfl, rfl, Tp1, Ep1⟩ := hQ
  show J_ Γ 4 [(0, vr (some a0))] [vi (p1.1)] p1.2 0 0
  refine J_istore_n (q := 5) (lv' := [(1, vi (p1.1)), (0, vr (some a0))]) C0 rfl (G_nl C1 (by decide)) dX12_unit_4 rfl rfl ?_
  refine J_iload_n (q := 6) C0 0 rfl rfl dX12_unit_5 rfl ?_
  refine J_bipush (q := 8) (v := 33) C0 dX12_unit_6 rfl rfl ?_
  refine J_icmp_ne (t := 47) (q := 11) C0 dX12_unit_8 (by decide) rfl hf (fun c2 hf => ?_) (fun c2 hf => ?_)
  · refine J_iload_n (q := 48) C0 0 rfl rfl dX12_unit_47 rfl ?_
    refine J_bipush (q := 50) (v := 40) C0 dX12_unit_48 rfl rfl ?_
    refine J_icmp_ne (t := 78) (q := 53) C0 dX12_unit_50 (by decide) rfl hf (fun c3 hf => ?_) (fun c3 hf => ?_)
    · refine J_aload_n (q := 79) C0 1 rfl rfl dX12_unit_78 rfl trivial ?_
      refine K_some hf (fun p4 hp4 hf => ?_)
      refine J_callV (q := 82) (ci := 11) (as := []) (rest := []) C0 rfl ((Ep1.at h0)) (hr_X12_sum a0  p1.2 (Tp1) ((Ep1.at h0))  _ hp4) ml_X12_sum lk_X12_143 im_X12_sum se_X12_sum rfl (by decide) dX12_unit_79 rfl rfl rfl (by simp [ac_]) C1.room (by omega) (by omega) (by decide) (by decide) (fun r_ τ_ hQ => ?_)
      obtain ⟨rfl, ht_, Tp4, Ep4⟩ := hQ; have ht_ := ht_.symm; subst ht_
      show J_ Γ 82 [(1, vi (p1.1)), (0, vr (some a0))] [] p4 0 0
      refine J_aload_n (q := 83) C0 1 rfl rfl dX12_unit_82 rfl trivial ?_
      refine J_getI (q := 86) C0 fl_X12_110_11 rfl ((Ep4.at (Ep1.at h0))) rfl dX12_unit_83 rfl ?_
      refine J_iconst (q := 87) (v := (-1)) C0 dX12_unit_86 rfl rfl ?_
      refine J_icmp_ne (t := 94) (q := 90) C0 dX12_unit_87 (by decide) rfl hf (fun c5 hf => ?_) (fun c5 hf => ?_)
      · obtain rfl := Option.some.inj hf; exact J_vret C1 dX12_unit_94 rfl (Nat.zero_le _) (Nat.zero_le _) ⟨rfl, rfl, Tp4, ((hE).tr Ep1).tr Ep4⟩
      · refine J_aload_n (q := 91) C0 1 rfl rfl dX12_unit_90 rfl trivial ?_
        refine K_some hf (fun p6 hp6 hf => ?_)
        refine J_callV (q := 94) (ci := 11) (as := []) (rest := []) C0 rfl ((Ep4.at (Ep1.at h0))) (hr_X12_compare a0  p4 (Tp4) ((Ep4.at (Ep1.at h0)))  _ hp6) ml_X12_compare lk_X12_165 im_X12_compare se_X12_compare rfl (by decide) dX12_unit_91 rfl rfl rfl (by simp [ac_]) C1.room (by omega) (by omega) (by decide) (by decide) (fun r_ τ_ hQ => ?_)
        obtain ⟨rfl, ht_, Tp6, Ep6⟩ := hQ; have ht_ := ht_.symm; subst ht_
        show J_ Γ 94 [(1, vi (p1.1)), (0, vr (some a0))] [] p6 0 0
        obtain rfl := Option.some.inj hf; exact J_vret C1 dX12_unit_94 rfl (Nat.zero_le _) (Nat.zero_le _) ⟨rfl, rfl, Tp6, (((hE).tr Ep1).tr Ep4).tr Ep6⟩
    · refine J_aload_n (q := 54) C0 1 rfl rfl dX12_unit_53 rfl trivial ?_
      refine K_some hf (fun p7 hp7 hf => ?_)
      refine J_callV (q := 57) (ci := 11) (as := []) (rest := []) C0 rfl ((Ep1.at h0)) (t_X12_opens a0  (Tp1) ((Ep1.at h0))  hp7) ml_X12_opens lk_X12_140 im_X12_opens se_X12_opens rfl (by decide) dX12_unit_54 rfl rfl rfl (by simp [ac_]) C1.room (by omega) (by omega) (by decide) (by decide) (fun r_ τ_ hQ => ?_)
      obtain ⟨rfl, ht_, Tp7, Ep7⟩ := hQ; have ht_ := ht_.symm; subst ht_
      show J_ Γ 57 [(1, vi (p1.1)), (0, vr (some a0))] [] p7 0 0
      refine J_aload_n (q := 58) C0 1 rfl rfl dX12_unit_57 rfl trivial ?_
      refine J_getI (q := 61) C0 fl_X12_110_11 rfl ((Ep7.at (Ep1.at h0))) rfl dX12_unit_58 rfl ?_
      refine J_iconst (q := 62) (v := (-1)) C0 dX12_unit_61 rfl rfl ?_
      refine J_icmp_ne (t := 94) (q := 65) C0 dX12_unit_62 (by decide) rfl hf (fun c8 hf => ?_) (fun c8 hf => ?_)
      · obtain rfl := Option.some.inj hf; exact J_vret C1 dX12_unit_94 rfl (Nat.zero_le _) (Nat.zero_le _) ⟨rfl, rfl, Tp7, ((hE).tr Ep1).tr Ep7⟩
      · refine J_aload_n (q := 66) C0 1 rfl rfl dX12_unit_65 rfl trivial ?_
        refine K_some hf (fun p9 hp9 hf => ?_)
        refine J_callV (q := 69) (ci := 11) (as := []) (rest := []) C0 rfl ((Ep7.at (Ep1.at h0))) (hr_X12_condition a0  p7 (Tp7) ((Ep7.at (Ep1.at h0)))  _ hp9) ml_X12_condition lk_X12_162 im_X12_condition se_X12_condition rfl (by decide) dX12_unit_66 rfl rfl rfl (by simp [ac_]) C1.room (by omega) (by omega) (by decide) (by decide) (fun r_ τ_ hQ => ?_)
        obtain ⟨rfl, ht_, Tp9, Ep9⟩ := hQ; have ht_ := ht_.symm; subst ht_
        show J_ Γ 69 [(1, vi (p1.1)), (0, vr (some a0))] [] p9 0 0
        refine J_aload_n (q := 70) C0 1 rfl rfl dX12_unit_69 rfl trivial ?_
        refine J_bipush (q := 72) (v := 41) C0 dX12_unit_70 rfl rfl ?_
        refine K_some hf (fun p10 hp10 hf => ?_)
        refine J_callV (q := 75) (ci := 11) (as := [vi (41)]) (rest := []) C0 rfl ((Ep9.at (Ep7.at (Ep1.at h0)))) (t_X12_closes N a0 (41) (Tp9) ((Ep9.at (Ep7.at (Ep1.at h0))))  hp10) ml_X12_closes lk_X12_146 im_X12_closes se_X12_closes rfl (by decide) dX12_unit_72 rfl rfl rfl (by simp [ac_]) C1.room (by omega) (by omega) (by decide) (by decide) (fun r_ τ_ hQ => ?_)
        obtain ⟨rfl, ht_, Tp10, Ep10⟩ := hQ; have ht_ := ht_.symm; subst ht_
        show J_ Γ 75 [(1, vi (p1.1)), (0, vr (some a0))] [] p10 0 0
        refine J_goto (q := 94) C0 dX12_unit_75 (by decide) ?_
        obtain rfl := Option.some.inj hf; exact J_vret C1 dX12_unit_94 rfl (Nat.zero_le _) (Nat.zero_le _) ⟨rfl, rfl, Tp10, ((((hE).tr Ep1).tr Ep7).tr Ep9).tr Ep10⟩
  · refine J_aload_n (q := 12) C0 1 rfl rfl dX12_unit_11 rfl trivial ?_
    refine K_some hf (fun p11 hp11 hf => ?_)
    refine J_callV (q := 15) (ci := 11) (as := []) (rest := []) C0 rfl ((Ep1.at h0)) (t_X12_opens a0  (Tp1) ((Ep1.at h0))  hp11) ml_X12_opens lk_X12_140 im_X12_opens se_X12_opens rfl (by decide) dX12_unit_12 rfl rfl rfl (by simp [ac_]) C1.room (by omega) (by omega) (by decide) (by decide) (fun r_ τ_ hQ => ?_)
    obtain ⟨rfl, ht_, Tp11, Ep11⟩ := hQ; have ht_ := ht_.symm; subst ht_
    show J_ Γ 15 [(1, vi (p1.1)), (0, vr (some a0))] [] p11 0 0
    refine J_aload_n (q := 16) C0 1 rfl rfl dX12_unit_15 rfl trivial ?_
    refine J_getI (q := 19) C0 fl_X12_110_11 rfl ((Ep11.at (Ep1.at h0))) rfl dX12_unit_16 rfl ?_
    refine J_iconst (q := 20) (v := (-1)) C0 dX12_unit_19 rfl rfl ?_
    refine J_icmp_ne (t := 94) (q := 23) C0 dX12_unit_20 (by decide) rfl hf (fun c12 hf => ?_) (fun c12 hf => ?_)
    · obtain rfl := Option.some.inj hf; exact J_vret C1 dX12_unit_94 rfl (Nat.zero_le _) (Nat.zero_le _) ⟨rfl, rfl, Tp11, ((hE).tr Ep1).tr Ep11⟩
    · refine J_aload_n (q := 24) C0 1 rfl rfl dX12_unit_23 rfl trivial ?_
      refine K_some hf (fun p13 hp13 hf => ?_)
      refine J_callV (q := 27) (ci := 11) (as := []) (rest := []) C0 rfl ((Ep11.at (Ep1.at h0))) (hr_X12_unit a0  p11 (Tp11) ((Ep11.at (Ep1.at h0)))  _ hp13) ml_X12_unit lk_X12_159 im_X12_unit se_X12_unit rfl (by decide) dX12_unit_24 rfl rfl rfl (by simp [ac_]) C1.room (by omega) (by omega) (by decide) (by decide) (fun r_ τ_ hQ => ?_)
      obtain ⟨rfl, ht_, Tp13, Ep13⟩ := hQ; have ht_ := ht_.symm; subst ht_
      show J_ Γ 27 [(1, vi (p1.1)), (0, vr (some a0))] [] p13 0 0
      refine J_aload_n (q := 28) C0 1 rfl rfl dX12_unit_27 rfl trivial ?_
      refine J_bipush (q := 30) (v := 9) C0 dX12_unit_28 rfl rfl ?_
      refine J_iconst (q := 31) (v := 0) C0 dX12_unit_30 rfl rfl ?_
      refine K_some hf (fun p14 hp14 hf => ?_)
      refine J_callV (q := 34) (ci := 11) (as := [vi (9), vi (0)]) (rest := []) C0 rfl ((Ep13.at (Ep11.at (Ep1.at h0)))) (t_X12_put a0 (9) (0) (Tp13) ((Ep13.at (Ep11.at (Ep1.at h0))))  hp14) ml_X12_put lk_X12_132 im_X12_put se_X12_put rfl (by decide) dX12_unit_31 rfl rfl rfl (by simp [ac_]) C1.room (by omega) (by omega) (by decide) (by decide) (fun r_ τ_ hQ => ?_)
      obtain ⟨rfl, ht_, Tp14, Ep14⟩ := hQ; have ht_ := ht_.symm; subst ht_
      show J_ Γ 34 [(1, vi (p1.1)), (0, vr (some a0))] [] p14 0 0
      refine J_aload_n (q := 35) C0 1 rfl rfl dX12_unit_34 rfl trivial ?_
      refine J_dup (q := 36) C0 dX12_unit_35 rfl rfl ?_
      refine J_getI (q := 39) C0 fl_X12_116_11 rfl ((Ep14.at (Ep13.at (Ep11.at (Ep1.at h0))))) rfl dX12_unit_36 rfl ?_
      refine J_iconst (q := 40) (v := 1) C0 dX12_unit_39 rfl rfl ?_
      refine J_isub (q := 41) C0 dX12_unit_40 rfl ?_
      refine J_putI (q := 44) C0 fl_X12_116_11 rfl ((Ep14.at (Ep13.at (Ep11.at (Ep1.at h0))))) rfl dX12_unit_41 rfl ?_
      refine J_goto (q := 94) C0 dX12_unit_44 (by decide) ?_
      obtain rfl := Option.some.inj hf; exact J_vret C1 dX12_unit_94 rfl (Nat.zero_le _) (Nat.zero_le _) ⟨rfl, rfl, (Tp14).putI, (((((hE).tr Ep1).tr Ep11).tr Ep13).tr Ep14).putI⟩
def f_X12_goOnAnd_L0 (N : Nat) (rec : Nat → Nat → Sg → Option Sg) (a0 : Nat) : Nat → Sg → Option Sg
  | 0, _ => none
  | n + 1, σ =>
  if (sg_I σ a0 4) = ((-1)) then
  (Option.bind (f_X12_look N a0  σ) fun p2 =>
  if (p2.1) = (38) then
  (Option.bind (rec 0 a0  (put_I p2.2 a0 3 ((sg_I p2.2 a0 3) + (1)))) fun p4 =>
  Option.bind (f_X12_put a0 (10) (0) p4) fun p5 =>
  f_X12_goOnAnd_L0 N rec a0 n  (p5))
  else
  (some (p2.2)))
  else
  (some (σ))
def f_X12_goOnAnd_o (N : Nat) (rec : Nat → Nat → Sg → Option Sg) (a0 : Nat) (σ : Sg) : Option Sg :=
  f_X12_goOnAnd_L0 N rec a0 N  σ
set_option maxHeartbeats 4000000 in
set_option maxRecDepth 100000 in
theorem t_X12_goOnAnd_L0 {N : Nat} {rec : Nat → Nat → Sg → Option Sg} {d : Nat} {a0 : Nat} {Γ : Gm} {σ0 : Sg} {r : Sg} (C1 : CM Γ cX12_goOnAnd RX12 1 none (d + 1 + 3) ((d + 1) * 21 + 61) 0 0 (fun r_ τ_ => (r_ = none) ∧ τ_ = r ∧ sg_T τ_ ∧ sg_E σ0 τ_)) (hr_X12_unit : ∀ (a0 : Nat) (σ : Sg), sg_T σ → is_A σ a0 11 → ∀ r : Sg, rec 0 a0 σ = some r → Ct yX12_unit cX12_unit 2 none (d + 3) (d * 21 + 61) 0 0 [vr (some a0)] σ (fun r_ τ_ => (r_ = none) ∧ τ_ = r ∧ sg_T τ_ ∧ sg_E σ τ_)) : ∀ (n : Nat) (σ : Sg), sg_T σ → sg_E σ0 σ → is_A σ a0 11 → f_X12_goOnAnd_L0 N rec a0  n  σ = some r → J_ Γ 0 [(0, vr (some a0))] [] σ 0 0 := by
  have C0 := C1.1
  intro n
  induction n with
  | zero => intro  σ hT hE h0  hf; unfold f_X12_goOnAnd_L0 at hf; cases hf
  | succ n ih =>
    intro  σ hT hE h0  hf
    rw [f_X12_goOnAnd_L0] at hf
    refine J_aload_n (q := 1) C0 0 rfl rfl dX12_goOnAnd_0 rfl trivial ?_
    refine J_getI (q := 4) C0 fl_X12_110_11 rfl (h0) rfl dX12_goOnAnd_1 rfl ?_
    refine J_iconst (q := 5) (v := (-1)) C0 dX12_goOnAnd_4 rfl rfl ?_
    refine J_icmp_ne (t := 41) (q := 8) C0 dX12_goOnAnd_5 (by decide) rfl hf (fun c1 hf => ?_) (fun c1 hf => ?_)
    · obtain rfl := Option.some.inj hf; exact J_vret C1 dX12_goOnAnd_41 rfl (Nat.zero_le _) (Nat.zero_le _) ⟨rfl, rfl, hT, hE⟩
    · refine J_aload_n (q := 9) C0 0 rfl rfl dX12_goOnAnd_8 rfl trivial ?_
      refine K_some hf (fun p2 hp2 hf => ?_)
      refine J_callV (q := 12) (ci := 11) (as := []) (rest := []) C0 rfl (h0) (t_X12_look N a0  (hT) (h0)  hp2) ml_X12_look lk_X12_122 im_X12_look se_X12_look rfl (by decide) dX12_goOnAnd_9 rfl rfl rfl (by simp [ac_]) C1.room (by omega) (by omega) (by decide) (by decide) (fun r_ τ_ hQ => ?_)
      obtain ⟨rfl, rfl, Tp2, Ep2⟩ := hQ
      show J_ Γ 12 [(0, vr (some a0))] [vi (p2.1)] p2.2 0 0
      refine J_bipush (q := 14) (v := 38) C0 dX12_goOnAnd_12 rfl rfl ?_
      refine J_icmp_ne (t := 41) (q := 17) C0 dX12_goOnAnd_14 (by decide) rfl hf (fun c3 hf => ?_) (fun c3 hf => ?_)
      · obtain rfl := Option.some.inj hf; exact J_vret C1 dX12_goOnAnd_41 rfl (Nat.zero_le _) (Nat.zero_le _) ⟨rfl, rfl, Tp2, (hE).tr Ep2⟩
      · refine J_aload_n (q := 18) C0 0 rfl rfl dX12_goOnAnd_17 rfl trivial ?_
        refine J_dup (q := 19) C0 dX12_goOnAnd_18 rfl rfl ?_
        refine J_getI (q := 22) C0 fl_X12_103_11 rfl ((Ep2.at h0)) rfl dX12_goOnAnd_19 rfl ?_
        refine J_iconst (q := 23) (v := 1) C0 dX12_goOnAnd_22 rfl rfl ?_
        refine J_iadd (q := 24) C0 dX12_goOnAnd_23 rfl ?_
        refine J_putI (q := 27) C0 fl_X12_103_11 rfl ((Ep2.at h0)) rfl dX12_goOnAnd_24 rfl ?_
        refine J_aload_n (q := 28) C0 0 rfl rfl dX12_goOnAnd_27 rfl trivial ?_
        refine K_some hf (fun p4 hp4 hf => ?_)
        refine J_callV (q := 31) (ci := 11) (as := []) (rest := []) C0 rfl (((Ep2.at h0)).putI) (hr_X12_unit a0  (put_I p2.2 a0 3 ((sg_I p2.2 a0 3) + (1))) ((Tp2).putI) (((Ep2.at h0)).putI)  _ hp4) ml_X12_unit lk_X12_159 im_X12_unit se_X12_unit rfl (by decide) dX12_goOnAnd_28 rfl rfl rfl (by simp [ac_]) C1.room (by omega) (by omega) (by decide) (by decide) (fun r_ τ_ hQ => ?_)
        obtain ⟨rfl, ht_, Tp4, Ep4⟩ := hQ; have ht_ := ht_.symm; subst ht_
        show J_ Γ 31 [(0, vr (some a0))] [] p4 0 0
        refine J_aload_n (q := 32) C0 0 rfl rfl dX12_goOnAnd_31 rfl trivial ?_
        refine J_bipush (q := 34) (v := 10) C0 dX12_goOnAnd_32 rfl rfl ?_
        refine J_iconst (q := 35) (v := 0) C0 dX12_goOnAnd_34 rfl rfl ?_
        refine K_some hf (fun p5 hp5 hf => ?_)
        refine J_callV (q := 38) (ci := 11) (as := [vi (10), vi (0)]) (rest := []) C0 rfl ((Ep4.at ((Ep2.at h0)).putI)) (t_X12_put a0 (10) (0) (Tp4) ((Ep4.at ((Ep2.at h0)).putI))  hp5) ml_X12_put lk_X12_132 im_X12_put se_X12_put rfl (by decide) dX12_goOnAnd_35 rfl rfl rfl (by simp [ac_]) C1.room (by omega) (by omega) (by decide) (by decide) (fun r_ τ_ hQ => ?_)
        obtain ⟨rfl, ht_, Tp5, Ep5⟩ := hQ; have ht_ := ht_.symm; subst ht_
        show J_ Γ 38 [(0, vr (some a0))] [] p5 0 0
        refine J_goto (q := 0) C0 dX12_goOnAnd_38 (by decide) ?_
        exact ih  (p5) (Tp5) (((((hE).tr Ep2).putI).tr Ep4).tr Ep5) ((Ep5.at (Ep4.at ((Ep2.at h0)).putI)))  hf
set_option maxHeartbeats 4000000 in
set_option maxRecDepth 100000 in
theorem t_X12_goOnAnd_o (N : Nat) {rec : Nat → Nat → Sg → Option Sg} {d : Nat} (hr_X12_unit : ∀ (a0 : Nat) (σ : Sg), sg_T σ → is_A σ a0 11 → ∀ r : Sg, rec 0 a0 σ = some r → Ct yX12_unit cX12_unit 2 none (d + 3) (d * 21 + 61) 0 0 [vr (some a0)] σ (fun r_ τ_ => (r_ = none) ∧ τ_ = r ∧ sg_T τ_ ∧ sg_E σ τ_)) (a0 : Nat) {σ : Sg} (hT : sg_T σ) (h0 : is_A σ a0 11) {r : Sg} (hf : f_X12_goOnAnd_o N rec a0  σ = some r) : Ct yX12_goOnAnd cX12_goOnAnd 1 none (d + 1 + 3) ((d + 1) * 21 + 61) 0 0 [vr (some a0)] σ (fun r_ τ_ => (r_ = none) ∧ τ_ = r ∧ sg_T τ_ ∧ sg_E σ τ_) := by
  refine Ct.of (by decide +kernel) (Nat.le_of_ble_eq_true rfl) (fun Γ C1 => ?_)
  have C0 := C1.1
  have hE : sg_E σ σ := sg_E.rf
  unfold f_X12_goOnAnd_o at hf
  show J_ Γ 0 [(0, vr (some a0))] [] σ 0 0
  exact t_X12_goOnAnd_L0 C1 hr_X12_unit    N  σ (hT) (hE) (h0)  hf
def f_X12_goOnOr_L0 (N : Nat) (rec : Nat → Nat → Sg → Option Sg) (a0 : Nat) : Nat → Sg → Option Sg
  | 0, _ => none
  | n + 1, σ =>
  if (sg_I σ a0 4) = ((-1)) then
  (Option.bind (f_X12_look N a0  σ) fun p2 =>
  if (p2.1) = (124) then
  (Option.bind (rec 0 a0  (put_I p2.2 a0 3 ((sg_I p2.2 a0 3) + (1)))) fun p4 =>
  Option.bind (rec 1 a0  p4) fun p5 =>
  Option.bind (f_X12_put a0 (11) (0) p5) fun p6 =>
  f_X12_goOnOr_L0 N rec a0 n  (p6))
  else
  (some (p2.2)))
  else
  (some (σ))
def f_X12_goOnOr_o (N : Nat) (rec : Nat → Nat → Sg → Option Sg) (a0 : Nat) (σ : Sg) : Option Sg :=
  f_X12_goOnOr_L0 N rec a0 N  σ
set_option maxHeartbeats 4000000 in
set_option maxRecDepth 100000 in
theorem t_X12_goOnOr_L0 {N : Nat} {rec : Nat → Nat → Sg → Option Sg} {d : Nat} {a0 : Nat} {Γ : Gm} {σ0 : Sg} {r : Sg} (C1 : CM Γ cX12_goOnOr RX12 1 none (d + 1 + 3) ((d + 1) * 21 + 61) 0 0 (fun r_ τ_ => (r_ = none) ∧ τ_ = r ∧ sg_T τ_ ∧ sg_E σ0 τ_)) (hr_X12_unit : ∀ (a0 : Nat) (σ : Sg), sg_T σ → is_A σ a0 11 → ∀ r : Sg, rec 0 a0 σ = some r → Ct yX12_unit cX12_unit 2 none (d + 3) (d * 21 + 61) 0 0 [vr (some a0)] σ (fun r_ τ_ => (r_ = none) ∧ τ_ = r ∧ sg_T τ_ ∧ sg_E σ τ_)) (hr_X12_goOnAnd : ∀ (a0 : Nat) (σ : Sg), sg_T σ → is_A σ a0 11 → ∀ r : Sg, rec 1 a0 σ = some r → Ct yX12_goOnAnd cX12_goOnAnd 1 none (d + 3) (d * 21 + 61) 0 0 [vr (some a0)] σ (fun r_ τ_ => (r_ = none) ∧ τ_ = r ∧ sg_T τ_ ∧ sg_E σ τ_)) : ∀ (n : Nat) (σ : Sg), sg_T σ → sg_E σ0 σ → is_A σ a0 11 → f_X12_goOnOr_L0 N rec a0  n  σ = some r → J_ Γ 0 [(0, vr (some a0))] [] σ 0 0 := by
  have C0 := C1.1
  intro n
  induction n with
  | zero => intro  σ hT hE h0  hf; unfold f_X12_goOnOr_L0 at hf; cases hf
  | succ n ih =>
    intro  σ hT hE h0  hf
    rw [f_X12_goOnOr_L0] at hf
    refine J_aload_n (q := 1) C0 0 rfl rfl dX12_goOnOr_0 rfl trivial ?_
    refine J_getI (q := 4) C0 fl_X12_110_11 rfl (h0) rfl dX12_goOnOr_1 rfl ?_
    refine J_iconst (q := 5) (v := (-1)) C0 dX12_goOnOr_4 rfl rfl ?_
    refine J_icmp_ne (t := 45) (q := 8) C0 dX12_goOnOr_5 (by decide) rfl hf (fun c1 hf => ?_) (fun c1 hf => ?_)
    · obtain rfl := Option.some.inj hf; exact J_vret C1 dX12_goOnOr_45 rfl (Nat.zero_le _) (Nat.zero_le _) ⟨rfl, rfl, hT, hE⟩
    · refine J_aload_n (q := 9) C0 0 rfl rfl dX12_goOnOr_8 rfl trivial ?_
      refine K_some hf (fun p2 hp2 hf => ?_)
      refine J_callV (q := 12) (ci := 11) (as := []) (rest := []) C0 rfl (h0) (t_X12_look N a0  (hT) (h0)  hp2) ml_X12_look lk_X12_122 im_X12_look se_X12_look rfl (by decide) dX12_goOnOr_9 rfl rfl rfl (by simp [ac_]) C1.room (by omega) (by omega) (by decide) (by decide) (fun r_ τ_ hQ => ?_)
      obtain ⟨rfl, rfl, Tp2, Ep2⟩ := hQ
      show J_ Γ 12 [(0, vr (some a0))] [vi (p2.1)] p2.2 0 0
      refine J_bipush (q := 14) (v := 124) C0 dX12_goOnOr_12 rfl rfl ?_
      refine J_icmp_ne (t := 45) (q := 17) C0 dX12_goOnOr_14 (by decide) rfl hf (fun c3 hf => ?_) (fun c3 hf => ?_)
      · obtain rfl := Option.some.inj hf; exact J_vret C1 dX12_goOnOr_45 rfl (Nat.zero_le _) (Nat.zero_le _) ⟨rfl, rfl, Tp2, (hE).tr Ep2⟩
      · refine J_aload_n (q := 18) C0 0 rfl rfl dX12_goOnOr_17 rfl trivial ?_
        refine J_dup (q := 19) C0 dX12_goOnOr_18 rfl rfl ?_
        refine J_getI (q := 22) C0 fl_X12_103_11 rfl ((Ep2.at h0)) rfl dX12_goOnOr_19 rfl ?_
        refine J_iconst (q := 23) (v := 1) C0 dX12_goOnOr_22 rfl rfl ?_
        refine J_iadd (q := 24) C0 dX12_goOnOr_23 rfl ?_
        refine J_putI (q := 27) C0 fl_X12_103_11 rfl ((Ep2.at h0)) rfl dX12_goOnOr_24 rfl ?_
        refine J_aload_n (q := 28) C0 0 rfl rfl dX12_goOnOr_27 rfl trivial ?_
        refine K_some hf (fun p4 hp4 hf => ?_)
        refine J_callV (q := 31) (ci := 11) (as := []) (rest := []) C0 rfl (((Ep2.at h0)).putI) (hr_X12_unit a0  (put_I p2.2 a0 3 ((sg_I p2.2 a0 3) + (1))) ((Tp2).putI) (((Ep2.at h0)).putI)  _ hp4) ml_X12_unit lk_X12_159 im_X12_unit se_X12_unit rfl (by decide) dX12_goOnOr_28 rfl rfl rfl (by simp [ac_]) C1.room (by omega) (by omega) (by decide) (by decide) (fun r_ τ_ hQ => ?_)
        obtain ⟨rfl, ht_, Tp4, Ep4⟩ := hQ; have ht_ := ht_.symm; subst ht_
        show J_ Γ 31 [(0, vr (some a0))] [] p4 0 0
        refine J_aload_n (q := 32) C0 0 rfl rfl dX12_goOnOr_31 rfl trivial ?_
        refine K_some hf (fun p5 hp5 hf => ?_)
        refine J_callV (q := 35) (ci := 11) (as := []) (rest := []) C0 rfl ((Ep4.at ((Ep2.at h0)).putI)) (hr_X12_goOnAnd a0  p4 (Tp4) ((Ep4.at ((Ep2.at h0)).putI))  _ hp5) ml_X12_goOnAnd lk_X12_168 im_X12_goOnAnd se_X12_goOnAnd rfl (by decide) dX12_goOnOr_32 rfl rfl rfl (by simp [ac_]) C1.room (by omega) (by omega) (by decide) (by decide) (fun r_ τ_ hQ => ?_)
        obtain ⟨rfl, ht_, Tp5, Ep5⟩ := hQ; have ht_ := ht_.symm; subst ht_
        show J_ Γ 35 [(0, vr (some a0))] [] p5 0 0
        refine J_aload_n (q := 36) C0 0 rfl rfl dX12_goOnOr_35 rfl trivial ?_
        refine J_bipush (q := 38) (v := 11) C0 dX12_goOnOr_36 rfl rfl ?_
        refine J_iconst (q := 39) (v := 0) C0 dX12_goOnOr_38 rfl rfl ?_
        refine K_some hf (fun p6 hp6 hf => ?_)
        refine J_callV (q := 42) (ci := 11) (as := [vi (11), vi (0)]) (rest := []) C0 rfl ((Ep5.at (Ep4.at ((Ep2.at h0)).putI))) (t_X12_put a0 (11) (0) (Tp5) ((Ep5.at (Ep4.at ((Ep2.at h0)).putI)))  hp6) ml_X12_put lk_X12_132 im_X12_put se_X12_put rfl (by decide) dX12_goOnOr_39 rfl rfl rfl (by simp [ac_]) C1.room (by omega) (by omega) (by decide) (by decide) (fun r_ τ_ hQ => ?_)
        obtain ⟨rfl, ht_, Tp6, Ep6⟩ := hQ; have ht_ := ht_.symm; subst ht_
        show J_ Γ 42 [(0, vr (some a0))] [] p6 0 0
        refine J_goto (q := 0) C0 dX12_goOnOr_42 (by decide) ?_
        exact ih  (p6) (Tp6) ((((((hE).tr Ep2).putI).tr Ep4).tr Ep5).tr Ep6) ((Ep6.at (Ep5.at (Ep4.at ((Ep2.at h0)).putI))))  hf
set_option maxHeartbeats 4000000 in
set_option maxRecDepth 100000 in
theorem t_X12_goOnOr_o (N : Nat) {rec : Nat → Nat → Sg → Option Sg} {d : Nat} (hr_X12_unit : ∀ (a0 : Nat) (σ : Sg), sg_T σ → is_A σ a0 11 → ∀ r : Sg, rec 0 a0 σ = some r → Ct yX12_unit cX12_unit 2 none (d + 3) (d * 21 + 61) 0 0 [vr (some a0)] σ (fun r_ τ_ => (r_ = none) ∧ τ_ = r ∧ sg_T τ_ ∧ sg_E σ τ_)) (hr_X12_goOnAnd : ∀ (a0 : Nat) (σ : Sg), sg_T σ → is_A σ a0 11 → ∀ r : Sg, rec 1 a0 σ = some r → Ct yX12_goOnAnd cX12_goOnAnd 1 none (d + 3) (d * 21 + 61) 0 0 [vr (some a0)] σ (fun r_ τ_ => (r_ = none) ∧ τ_ = r ∧ sg_T τ_ ∧ sg_E σ τ_)) (a0 : Nat) {σ : Sg} (hT : sg_T σ) (h0 : is_A σ a0 11) {r : Sg} (hf : f_X12_goOnOr_o N rec a0  σ = some r) : Ct yX12_goOnOr cX12_goOnOr 1 none (d + 1 + 3) ((d + 1) * 21 + 61) 0 0 [vr (some a0)] σ (fun r_ τ_ => (r_ = none) ∧ τ_ = r ∧ sg_T τ_ ∧ sg_E σ τ_) := by
  refine Ct.of (by decide +kernel) (Nat.le_of_ble_eq_true rfl) (fun Γ C1 => ?_)
  have C0 := C1.1
  have hE : sg_E σ σ := sg_E.rf
  unfold f_X12_goOnOr_o at hf
  show J_ Γ 0 [(0, vr (some a0))] [] σ 0 0
  exact t_X12_goOnOr_L0 C1 hr_X12_unit hr_X12_goOnAnd    N  σ (hT) (hE) (h0)  hf
def f_X12_condition_o (N : Nat) (rec : Nat → Nat → Sg → Option Sg) (a0 : Nat) (σ : Sg) : Option Sg :=
  Option.bind (rec 0 a0  σ) fun p1 =>
  Option.bind (rec 1 a0  p1) fun p2 =>
  Option.bind (rec 2 a0  p2) fun p3 =>
  some (p3)
set_option maxHeartbeats 4000000 in
set_option maxRecDepth 100000 in
theorem t_X12_condition_o (N : Nat) {rec : Nat → Nat → Sg → Option Sg} {d : Nat} (hr_X12_unit : ∀ (a0 : Nat) (σ : Sg), sg_T σ → is_A σ a0 11 → ∀ r : Sg, rec 0 a0 σ = some r → Ct yX12_unit cX12_unit 2 none (d + 3) (d * 21 + 61) 0 0 [vr (some a0)] σ (fun r_ τ_ => (r_ = none) ∧ τ_ = r ∧ sg_T τ_ ∧ sg_E σ τ_)) (hr_X12_goOnAnd : ∀ (a0 : Nat) (σ : Sg), sg_T σ → is_A σ a0 11 → ∀ r : Sg, rec 1 a0 σ = some r → Ct yX12_goOnAnd cX12_goOnAnd 1 none (d + 3) (d * 21 + 61) 0 0 [vr (some a0)] σ (fun r_ τ_ => (r_ = none) ∧ τ_ = r ∧ sg_T τ_ ∧ sg_E σ τ_)) (hr_X12_goOnOr : ∀ (a0 : Nat) (σ : Sg), sg_T σ → is_A σ a0 11 → ∀ r : Sg, rec 2 a0 σ = some r → Ct yX12_goOnOr cX12_goOnOr 1 none (d + 3) (d * 21 + 61) 0 0 [vr (some a0)] σ (fun r_ τ_ => (r_ = none) ∧ τ_ = r ∧ sg_T τ_ ∧ sg_E σ τ_)) (a0 : Nat) {σ : Sg} (hT : sg_T σ) (h0 : is_A σ a0 11) {r : Sg} (hf : f_X12_condition_o N rec a0  σ = some r) : Ct yX12_condition cX12_condition 1 none (d + 1 + 3) ((d + 1) * 21 + 61) 0 0 [vr (some a0)] σ (fun r_ τ_ => (r_ = none) ∧ τ_ = r ∧ sg_T τ_ ∧ sg_E σ τ_) := by
  refine Ct.of (by decide +kernel) (Nat.le_of_ble_eq_true rfl) (fun Γ C1 => ?_)
  have C0 := C1.1
  have hE : sg_E σ σ := sg_E.rf
  unfold f_X12_condition_o at hf
  show J_ Γ 0 [(0, vr (some a0))] [] σ 0 0
  refine J_aload_n (q := 1) C0 0 rfl rfl dX12_condition_0 rfl trivial ?_
  refine K_some hf (fun p1 hp1 hf => ?_)
  refine J_callV (q := 4) (ci := 11) (as := []) (rest := []) C0 rfl (h0) (hr_X12_unit a0  σ (hT) (h0)  _ hp1) ml_X12_unit lk_X12_159 im_X12_unit se_X12_unit rfl (by decide) dX12_condition_1 rfl rfl rfl (by simp [ac_]) C1.room (by omega) (by omega) (by decide) (by decide) (fun r_ τ_ hQ => ?_)
  obtain ⟨rfl, ht_, Tp1, Ep1⟩ := hQ; have ht_ := ht_.symm; subst ht_
  show J_ Γ 4 [(0, vr (some a0))] [] p1 0 0
  refine J_aload_n (q := 5) C0 0 rfl rfl dX12_condition_4 rfl trivial ?_
  refine K_some hf (fun p2 hp2 hf => ?_)
  refine J_callV (q := 8) (ci := 11) (as := []) (rest := []) C0 rfl ((Ep1.at h0)) (hr_X12_goOnAnd a0  p1 (Tp1) ((Ep1.at h0))  _ hp2) ml_X12_goOnAnd lk_X12_168 im_X12_goOnAnd se_X12_goOnAnd rfl (by decide) dX12_condition_5 rfl rfl rfl (by simp [ac_]) C1.room (by omega) (by omega) (by decide) (by decide) (fun r_ τ_ hQ => ?_)
  obtain ⟨rfl, ht_, Tp2, Ep2⟩ := hQ; have ht_ := ht_.symm; subst ht_
  show J_ Γ 8 [(0, vr (some a0))] [] p2 0 0
  refine J_aload_n (q := 9) C0 0 rfl rfl dX12_condition_8 rfl trivial ?_
  refine K_some hf (fun p3 hp3 hf => ?_)
  refine J_callV (q := 12) (ci := 11) (as := []) (rest := []) C0 rfl ((Ep2.at (Ep1.at h0))) (hr_X12_goOnOr a0  p2 (Tp2) ((Ep2.at (Ep1.at h0)))  _ hp3) ml_X12_goOnOr lk_X12_171 im_X12_goOnOr se_X12_goOnOr rfl (by decide) dX12_condition_9 rfl rfl rfl (by simp [ac_]) C1.room (by omega) (by omega) (by decide) (by decide) (fun r_ τ_ hQ => ?_)
  obtain ⟨rfl, ht_, Tp3, Ep3⟩ := hQ; have ht_ := ht_.symm; subst ht_
  show J_ Γ 12 [(0, vr (some a0))] [] p3 0 0
  obtain rfl := Option.some.inj hf; exact J_vret C1 dX12_condition_12 rfl (Nat.zero_le _) (Nat.zero_le _) ⟨rfl, rfl, Tp3, (((hE).tr Ep1).tr Ep2).tr Ep3⟩
def f_X12_compare_B68 (N : Nat) (rec : Nat → Nat → Sg → Option Sg) (a0 : Nat) (s0 : Int32) (s1 : Option Nat) (σ : Sg) : Option Sg :=
  Option.bind (s1) fun b7 =>
  Option.bind (f_X12_put b7 (s0) (0) σ) fun p8 =>
  some (p8)
def f_X12_compare_B16 (N : Nat) (rec : Nat → Nat → Sg → Option Sg) (a0 : Nat) (s0 : Int32) (σ : Sg) : Option Sg :=
  Option.bind (f_X12_isSign (s0) ) fun p2 =>
  if (p2) = (0) then
  (Option.bind (f_X12_bad a0  σ) fun p9 =>
  some (p9))
  else
  (Option.bind (rec 5 a0  (put_I σ a0 3 ((sg_I σ a0 3) + (1)))) fun p4 =>
  if (s0) = (61) then
  (f_X12_compare_B68 N rec a0 (6) (some a0) (p4))
  else
  (if (s0) = (60) then
  (f_X12_compare_B68 N rec a0 (7) (some a0) (p4))
  else
  (f_X12_compare_B68 N rec a0 (8) (some a0) (p4))))
def f_X12_compare_o (N : Nat) (rec : Nat → Nat → Sg → Option Sg) (a0 : Nat) (σ : Sg) : Option Sg :=
  if (sg_I σ a0 4) = ((-1)) then
  (Option.bind (f_X12_look N a0  σ) fun p10 =>
  f_X12_compare_B16 N rec a0 (p10.1) (p10.2))
  else
  (f_X12_compare_B16 N rec a0 ((-1)) σ)
set_option maxHeartbeats 4000000 in
set_option maxRecDepth 100000 in
theorem t_X12_compare_B68 {N : Nat} {rec : Nat → Nat → Sg → Option Sg} {d : Nat} {a0 : Nat} {Γ : Gm} {σ0 : Sg} {r : Sg} (C1 : CM Γ cX12_compare RX12 2 none (d + 1 + 3) ((d + 1) * 21 + 61) 0 0 (fun r_ τ_ => (r_ = none) ∧ τ_ = r ∧ sg_T τ_ ∧ sg_E σ0 τ_)) (hr_X12_sum : ∀ (a0 : Nat) (σ : Sg), sg_T σ → is_A σ a0 11 → ∀ r : Sg, rec 5 a0 σ = some r → Ct yX12_sum cX12_sum 2 none (d + 3) (d * 21 + 61) 0 0 [vr (some a0)] σ (fun r_ τ_ => (r_ = none) ∧ τ_ = r ∧ sg_T τ_ ∧ sg_E σ τ_)) (s0 : Int32) (s1 : Option Nat) (σ : Sg) (hT : sg_T σ) (hE : sg_E σ0 σ) (h0 : is_A σ a0 11) (g_s1 : is_O σ s1 11) (hf : f_X12_compare_B68 N rec a0  s0 s1 σ = some r) : J_ Γ 68 [(0, vr (some a0))] [vi (s0), vr (s1)] σ 0 0 := by
  have C0 := C1.1
  unfold f_X12_compare_B68 at hf
  refine J_iconst (q := 69) (v := 0) C0 dX12_compare_68 rfl rfl ?_
  refine K_some hf (fun b7 hb7 hf => ?_)
  have ab7 : is_A σ b7 11 := (g_s1) b7 hb7
  refine K_some hf (fun p8 hp8 hf => ?_)
  refine J_callV (q := 72) (ci := 11) (as := [vi (s0), vi (0)]) (rest := []) C0 hb7 (ab7) (t_X12_put b7 (s0) (0) (hT) (ab7)  hp8) ml_X12_put lk_X12_132 im_X12_put se_X12_put rfl (by decide) dX12_compare_69 rfl rfl rfl (by simp [ac_]) C1.room (by omega) (by omega) (by decide) (by decide) (fun r_ τ_ hQ => ?_)
  obtain ⟨rfl, ht_, Tp8, Ep8⟩ := hQ; have ht_ := ht_.symm; subst ht_
  show J_ Γ 72 [(0, vr (some a0))] [] p8 0 0
  obtain rfl := Option.some.inj hf; exact J_vret C1 dX12_compare_72 rfl (Nat.zero_le _) (Nat.zero_le _) ⟨rfl, rfl, Tp8, (hE).tr Ep8⟩
set_option maxHeartbeats 4000000 in
set_option maxRecDepth 100000 in
theorem t_X12_compare_B16 {N : Nat} {rec : Nat → Nat → Sg → Option Sg} {d : Nat} {a0 : Nat} {Γ : Gm} {σ0 : Sg} {r : Sg} (C1 : CM Γ cX12_compare RX12 2 none (d + 1 + 3) ((d + 1) * 21 + 61) 0 0 (fun r_ τ_ => (r_ = none) ∧ τ_ = r ∧ sg_T τ_ ∧ sg_E σ0 τ_)) (hr_X12_sum : ∀ (a0 : Nat) (σ : Sg), sg_T σ → is_A σ a0 11 → ∀ r : Sg, rec 5 a0 σ = some r → Ct yX12_sum cX12_sum 2 none (d + 3) (d * 21 + 61) 0 0 [vr (some a0)] σ (fun r_ τ_ => (r_ = none) ∧ τ_ = r ∧ sg_T τ_ ∧ sg_E σ τ_)) (s0 : Int32) (σ : Sg) (hT : sg_T σ) (hE : sg_E σ0 σ) (h0 : is_A σ a0 11) (hf : f_X12_compare_B16 N rec a0  s0 σ = some r) : J_ Γ 16 [(0, vr (some a0))] [vi (s0)] σ 0 0 := by
  have C0 := C1.1
  unfold f_X12_compare_B16 at hf
  refine J_istore_n (q := 17) (lv' := [(1, vi (s0)), (0, vr (some a0))]) C0 rfl (G_nl C1 (by decide)) dX12_compare_16 rfl rfl ?_
  refine J_iload_n (q := 18) C0 0 rfl rfl dX12_compare_17 rfl ?_
  refine K_some hf (fun p2 hp2 hf => ?_)
  refine J_callS (q := 21) (as := [vi (s0)]) (rest := []) C0 (t_X12_isSign (s0)  hp2) ml_X12_isSign lk_X12_156 sm_X12_isSign dX12_compare_18 rfl rfl rfl (by simp [ac_]) C1.room (by omega) (by omega) (by decide) (by decide) (fun r_ τ_ hQ => ?_)
  obtain ⟨⟨rfl, zp2⟩, ht_⟩ := hQ; have ht_ := ht_.symm; subst ht_
  show J_ Γ 21 [(1, vi (s0)), (0, vr (some a0))] [vi (p2)] σ 0 0
  refine J_if_ne (t := 29) (q := 24) C0 dX12_compare_21 (by decide) rfl hf (fun c3 hf => ?_) (fun c3 hf => ?_)
  · refine J_aload_n (q := 30) C0 1 rfl rfl dX12_compare_29 rfl trivial ?_
    refine J_dup (q := 31) C0 dX12_compare_30 rfl rfl ?_
    refine J_getI (q := 34) C0 fl_X12_103_11 rfl (h0) rfl dX12_compare_31 rfl ?_
    refine J_iconst (q := 35) (v := 1) C0 dX12_compare_34 rfl rfl ?_
    refine J_iadd (q := 36) C0 dX12_compare_35 rfl ?_
    refine J_putI (q := 39) C0 fl_X12_103_11 rfl (h0) rfl dX12_compare_36 rfl ?_
    refine J_aload_n (q := 40) C0 1 rfl rfl dX12_compare_39 rfl trivial ?_
    refine K_some hf (fun p4 hp4 hf => ?_)
    refine J_callV (q := 43) (ci := 11) (as := []) (rest := []) C0 rfl ((h0).putI) (hr_X12_sum a0  (put_I σ a0 3 ((sg_I σ a0 3) + (1))) ((hT).putI) ((h0).putI)  _ hp4) ml_X12_sum lk_X12_143 im_X12_sum se_X12_sum rfl (by decide) dX12_compare_40 rfl rfl rfl (by simp [ac_]) C1.room (by omega) (by omega) (by decide) (by decide) (fun r_ τ_ hQ => ?_)
    obtain ⟨rfl, ht_, Tp4, Ep4⟩ := hQ; have ht_ := ht_.symm; subst ht_
    show J_ Γ 43 [(1, vi (s0)), (0, vr (some a0))] [] p4 0 0
    refine J_aload_n (q := 44) C0 1 rfl rfl dX12_compare_43 rfl trivial ?_
    refine J_iload_n (q := 45) C0 0 rfl rfl dX12_compare_44 rfl ?_
    refine J_bipush (q := 47) (v := 61) C0 dX12_compare_45 rfl rfl ?_
    refine J_icmp_ne (t := 55) (q := 50) C0 dX12_compare_47 (by decide) rfl hf (fun c5 hf => ?_) (fun c5 hf => ?_)
    · refine J_iload_n (q := 56) C0 0 rfl rfl dX12_compare_55 rfl ?_
      refine J_bipush (q := 58) (v := 60) C0 dX12_compare_56 rfl rfl ?_
      refine J_icmp_ne (t := 66) (q := 61) C0 dX12_compare_58 (by decide) rfl hf (fun c6 hf => ?_) (fun c6 hf => ?_)
      · refine J_bipush (q := 68) (v := 8) C0 dX12_compare_66 rfl rfl ?_
        refine J_sub (lv' := [(0, vr (some a0))]) [1] rfl ?_
        exact t_X12_compare_B68 C1 hr_X12_sum    (8) (some a0) (p4) (Tp4) (((hE).putI).tr Ep4) ((Ep4.at (h0).putI)) (is_O.some ((Ep4.at (h0).putI))) hf
      · refine J_bipush (q := 63) (v := 7) C0 dX12_compare_61 rfl rfl ?_
        refine J_goto (q := 68) C0 dX12_compare_63 (by decide) ?_
        refine J_sub (lv' := [(0, vr (some a0))]) [1] rfl ?_
        exact t_X12_compare_B68 C1 hr_X12_sum    (7) (some a0) (p4) (Tp4) (((hE).putI).tr Ep4) ((Ep4.at (h0).putI)) (is_O.some ((Ep4.at (h0).putI))) hf
    · refine J_bipush (q := 52) (v := 6) C0 dX12_compare_50 rfl rfl ?_
      refine J_goto (q := 68) C0 dX12_compare_52 (by decide) ?_
      refine J_sub (lv' := [(0, vr (some a0))]) [1] rfl ?_
      exact t_X12_compare_B68 C1 hr_X12_sum    (6) (some a0) (p4) (Tp4) (((hE).putI).tr Ep4) ((Ep4.at (h0).putI)) (is_O.some ((Ep4.at (h0).putI))) hf
  · refine J_aload_n (q := 25) C0 1 rfl rfl dX12_compare_24 rfl trivial ?_
    refine K_some hf (fun p9 hp9 hf => ?_)
    refine J_callV (q := 28) (ci := 11) (as := []) (rest := []) C0 rfl (h0) (t_X12_bad a0  (hT) (h0)  hp9) ml_X12_bad lk_X12_119 im_X12_bad se_X12_bad rfl (by decide) dX12_compare_25 rfl rfl rfl (by simp [ac_]) C1.room (by omega) (by omega) (by decide) (by decide) (fun r_ τ_ hQ => ?_)
    obtain ⟨rfl, ht_, Tp9, Ep9⟩ := hQ; have ht_ := ht_.symm; subst ht_
    show J_ Γ 28 [(1, vi (s0)), (0, vr (some a0))] [] p9 0 0
    obtain rfl := Option.some.inj hf; exact J_vret C1 dX12_compare_28 rfl (Nat.zero_le _) (Nat.zero_le _) ⟨rfl, rfl, Tp9, (hE).tr Ep9⟩
set_option maxHeartbeats 4000000 in
set_option maxRecDepth 100000 in
theorem t_X12_compare_o (N : Nat) {rec : Nat → Nat → Sg → Option Sg} {d : Nat} (hr_X12_sum : ∀ (a0 : Nat) (σ : Sg), sg_T σ → is_A σ a0 11 → ∀ r : Sg, rec 5 a0 σ = some r → Ct yX12_sum cX12_sum 2 none (d + 3) (d * 21 + 61) 0 0 [vr (some a0)] σ (fun r_ τ_ => (r_ = none) ∧ τ_ = r ∧ sg_T τ_ ∧ sg_E σ τ_)) (a0 : Nat) {σ : Sg} (hT : sg_T σ) (h0 : is_A σ a0 11) {r : Sg} (hf : f_X12_compare_o N rec a0  σ = some r) : Ct yX12_compare cX12_compare 2 none (d + 1 + 3) ((d + 1) * 21 + 61) 0 0 [vr (some a0)] σ (fun r_ τ_ => (r_ = none) ∧ τ_ = r ∧ sg_T τ_ ∧ sg_E σ τ_) := by
  refine Ct.of (by decide +kernel) (Nat.le_of_ble_eq_true rfl) (fun Γ C1 => ?_)
  have C0 := C1.1
  have hE : sg_E σ σ := sg_E.rf
  unfold f_X12_compare_o at hf
  show J_ Γ 0 [(0, vr (some a0))] [] σ 0 0
  refine J_aload_n (q := 1) C0 0 rfl rfl dX12_compare_0 rfl trivial ?_
  refine J_getI (q := 4) C0 fl_X12_110_11 rfl (h0) rfl dX12_compare_1 rfl ?_
  refine J_iconst (q := 5) (v := (-1)) C0 dX12_compare_4 rfl rfl ?_
  refine J_icmp_ne (t := 15) (q := 8) C0 dX12_compare_5 (by decide) rfl hf (fun c1 hf => ?_) (fun c1 hf => ?_)
  · refine J_iconst (q := 16) (v := (-1)) C0 dX12_compare_15 rfl rfl ?_
    exact t_X12_compare_B16 C1 hr_X12_sum    ((-1)) σ (hT) (hE) (h0)  hf
  · refine J_aload_n (q := 9) C0 0 rfl rfl dX12_compare_8 rfl trivial ?_
    refine K_some hf (fun p10 hp10 hf => ?_)
    refine J_callV (q := 12) (ci := 11) (as := []) (rest := []) C0 rfl (h0) (t_X12_look N a0  (hT) (h0)  hp10) ml_X12_look lk_X12_122 im_X12_look se_X12_look rfl (by decide) dX12_compare_9 rfl rfl rfl (by simp [ac_]) C1.room (by omega) (by omega) (by decide) (by decide) (fun r_ τ_ hQ => ?_)
    obtain ⟨rfl, rfl, Tp10, Ep10⟩ := hQ
    show J_ Γ 12 [(0, vr (some a0))] [vi (p10.1)] p10.2 0 0
    refine J_goto (q := 16) C0 dX12_compare_12 (by decide) ?_
    exact t_X12_compare_B16 C1 hr_X12_sum    (p10.1) (p10.2) (Tp10) ((hE).tr Ep10) ((Ep10.at h0))  hf
def f_X12_sum_B79 (N : Nat) (rec : Nat → Nat → Sg → Option Sg) (a0 : Nat) (k21 : Int32 → Sg → Option Sg) (s0 : Int32) (σ : Sg) : Option Sg :=
  k21 (s0) σ
def f_X12_sum_B59 (N : Nat) (rec : Nat → Nat → Sg → Option Sg) (a0 : Nat) (k21 : Int32 → Sg → Option Sg) (s0 : Int32) (s1 : Option Nat) (σ : Sg) : Option Sg :=
  Option.bind (s1) fun b6 =>
  Option.bind (f_X12_put b6 (s0) (0) σ) fun p7 =>
  if (sg_I p7 a0 4) = ((-1)) then
  (Option.bind (f_X12_look N a0  p7) fun p9 =>
  f_X12_sum_B79 N rec a0 k21 (p9.1) (p9.2))
  else
  (f_X12_sum_B79 N rec a0 k21 ((-1)) (p7))
def f_X12_sum_B33 (N : Nat) (rec : Nat → Nat → Sg → Option Sg) (a0 : Nat) (k21 : Int32 → Sg → Option Sg) (v1 : Int32) (σ : Sg) : Option Sg :=
  Option.bind (rec 6 a0  (put_I σ a0 3 ((sg_I σ a0 3) + (1)))) fun p4 =>
  if (v1) = (43) then
  (f_X12_sum_B59 N rec a0 k21 (2) (some a0) (p4))
  else
  (f_X12_sum_B59 N rec a0 k21 (3) (some a0) (p4))
def f_X12_sum_L21 (N : Nat) (rec : Nat → Nat → Sg → Option Sg) (a0 : Nat) : Nat → Int32 → Sg → Option Sg
  | 0, _, _ => none
  | n + 1, v1, σ =>
  if (v1) = (43) then
  (f_X12_sum_B33 N rec a0 (f_X12_sum_L21 N rec a0 n) (v1) σ)
  else
  (if (v1) = (45) then
  (f_X12_sum_B33 N rec a0 (f_X12_sum_L21 N rec a0 n) (v1) σ)
  else
  (some (σ)))
def f_X12_sum_B20 (N : Nat) (rec : Nat → Nat → Sg → Option Sg) (a0 : Nat) (s0 : Int32) (σ : Sg) : Option Sg :=
  f_X12_sum_L21 N rec a0 N (s0) σ
def f_X12_sum_o (N : Nat) (rec : Nat → Nat → Sg → Option Sg) (a0 : Nat) (σ : Sg) : Option Sg :=
  Option.bind (rec 6 a0  σ) fun p1 =>
  if (sg_I p1 a0 4) = ((-1)) then
  (Option.bind (f_X12_look N a0  p1) fun p11 =>
  f_X12_sum_B20 N rec a0 (p11.1) (p11.2))
  else
  (f_X12_sum_B20 N rec a0 ((-1)) (p1))
set_option maxHeartbeats 4000000 in
set_option maxRecDepth 100000 in
theorem t_X12_sum_B79 {N : Nat} {rec : Nat → Nat → Sg → Option Sg} {d : Nat} {a0 : Nat} {Γ : Gm} {σ0 : Sg} {r : Sg} (C1 : CM Γ cX12_sum RX12 2 none (d + 1 + 3) ((d + 1) * 21 + 61) 0 0 (fun r_ τ_ => (r_ = none) ∧ τ_ = r ∧ sg_T τ_ ∧ sg_E σ0 τ_)) (hr_X12_term : ∀ (a0 : Nat) (σ : Sg), sg_T σ → is_A σ a0 11 → ∀ r : Sg, rec 6 a0 σ = some r → Ct yX12_term cX12_term 2 none (d + 3) (d * 21 + 61) 0 0 [vr (some a0)] σ (fun r_ τ_ => (r_ = none) ∧ τ_ = r ∧ sg_T τ_ ∧ sg_E σ τ_)) (k21 : Int32 → Sg → Option Sg) (hk21 : ∀ (v1 : Int32) (σ : Sg), sg_T σ → sg_E σ0 σ → is_A σ a0 11 → k21 v1 σ = some r → J_ Γ 21 [(0, vr (some a0)), (1, vi v1)] [] σ 0 0) (s0 : Int32) (σ : Sg) (hT : sg_T σ) (hE : sg_E σ0 σ) (h0 : is_A σ a0 11) (hf : f_X12_sum_B79 N rec a0 k21  s0 σ = some r) : J_ Γ 79 [(0, vr (some a0))] [vi (s0)] σ 0 0 := by
  have C0 := C1.1
  unfold f_X12_sum_B79 at hf
  refine J_istore_n (q := 80) (lv' := [(1, vi (s0)), (0, vr (some a0))]) C0 rfl (G_nl C1 (by decide)) dX12_sum_79 rfl rfl ?_
  refine J_goto (q := 21) C0 dX12_sum_80 (by decide) ?_
  refine J_sub (lv' := [(0, vr (some a0)), (1, vi (s0))]) [1, 0] rfl ?_
  exact hk21 (s0) σ (hT) (hE)  (h0)  hf
set_option maxHeartbeats 4000000 in
set_option maxRecDepth 100000 in
theorem t_X12_sum_B59 {N : Nat} {rec : Nat → Nat → Sg → Option Sg} {d : Nat} {a0 : Nat} {Γ : Gm} {σ0 : Sg} {r : Sg} (C1 : CM Γ cX12_sum RX12 2 none (d + 1 + 3) ((d + 1) * 21 + 61) 0 0 (fun r_ τ_ => (r_ = none) ∧ τ_ = r ∧ sg_T τ_ ∧ sg_E σ0 τ_)) (hr_X12_term : ∀ (a0 : Nat) (σ : Sg), sg_T σ → is_A σ a0 11 → ∀ r : Sg, rec 6 a0 σ = some r → Ct yX12_term cX12_term 2 none (d + 3) (d * 21 + 61) 0 0 [vr (some a0)] σ (fun r_ τ_ => (r_ = none) ∧ τ_ = r ∧ sg_T τ_ ∧ sg_E σ τ_)) (k21 : Int32 → Sg → Option Sg) (hk21 : ∀ (v1 : Int32) (σ : Sg), sg_T σ → sg_E σ0 σ → is_A σ a0 11 → k21 v1 σ = some r → J_ Γ 21 [(0, vr (some a0)), (1, vi v1)] [] σ 0 0) (s0 : Int32) (s1 : Option Nat) (σ : Sg) (hT : sg_T σ) (hE : sg_E σ0 σ) (h0 : is_A σ a0 11) (g_s1 : is_O σ s1 11) (hf : f_X12_sum_B59 N rec a0 k21  s0 s1 σ = some r) : J_ Γ 59 [(0, vr (some a0))] [vi (s0), vr (s1)] σ 0 0 := by
  have C0 := C1.1
  unfold f_X12_sum_B59 at hf
  refine J_iconst (q := 60) (v := 0) C0 dX12_sum_59 rfl rfl ?_
  refine K_some hf (fun b6 hb6 hf => ?_)
  have ab6 : is_A σ b6 11 := (g_s1) b6 hb6
  refine K_some hf (fun p7 hp7 hf => ?_)
  refine J_callV (q := 63) (ci := 11) (as := [vi (s0), vi (0)]) (rest := []) C0 hb6 (ab6) (t_X12_put b6 (s0) (0) (hT) (ab6)  hp7) ml_X12_put lk_X12_132 im_X12_put se_X12_put rfl (by decide) dX12_sum_60 rfl rfl rfl (by simp [ac_]) C1.room (by omega) (by omega) (by decide) (by decide) (fun r_ τ_ hQ => ?_)
  obtain ⟨rfl, ht_, Tp7, Ep7⟩ := hQ; have ht_ := ht_.symm; subst ht_
  show J_ Γ 63 [(0, vr (some a0))] [] p7 0 0
  refine J_aload_n (q := 64) C0 0 rfl rfl dX12_sum_63 rfl trivial ?_
  refine J_getI (q := 67) C0 fl_X12_110_11 rfl ((Ep7.at h0)) rfl dX12_sum_64 rfl ?_
  refine J_iconst (q := 68) (v := (-1)) C0 dX12_sum_67 rfl rfl ?_
  refine J_icmp_ne (t := 78) (q := 71) C0 dX12_sum_68 (by decide) rfl hf (fun c8 hf => ?_) (fun c8 hf => ?_)
  · refine J_iconst (q := 79) (v := (-1)) C0 dX12_sum_78 rfl rfl ?_
    exact t_X12_sum_B79 C1 hr_X12_term  k21  hk21  ((-1)) (p7) (Tp7) ((hE).tr Ep7) ((Ep7.at h0))  hf
  · refine J_aload_n (q := 72) C0 0 rfl rfl dX12_sum_71 rfl trivial ?_
    refine K_some hf (fun p9 hp9 hf => ?_)
    refine J_callV (q := 75) (ci := 11) (as := []) (rest := []) C0 rfl ((Ep7.at h0)) (t_X12_look N a0  (Tp7) ((Ep7.at h0))  hp9) ml_X12_look lk_X12_122 im_X12_look se_X12_look rfl (by decide) dX12_sum_72 rfl rfl rfl (by simp [ac_]) C1.room (by omega) (by omega) (by decide) (by decide) (fun r_ τ_ hQ => ?_)
    obtain ⟨rfl, rfl, Tp9, Ep9⟩ := hQ
    show J_ Γ 75 [(0, vr (some a0))] [vi (p9.1)] p9.2 0 0
    refine J_goto (q := 79) C0 dX12_sum_75 (by decide) ?_
    exact t_X12_sum_B79 C1 hr_X12_term  k21  hk21  (p9.1) (p9.2) (Tp9) (((hE).tr Ep7).tr Ep9) ((Ep9.at (Ep7.at h0)))  hf
set_option maxHeartbeats 4000000 in
set_option maxRecDepth 100000 in
theorem t_X12_sum_B33 {N : Nat} {rec : Nat → Nat → Sg → Option Sg} {d : Nat} {a0 : Nat} {Γ : Gm} {σ0 : Sg} {r : Sg} (C1 : CM Γ cX12_sum RX12 2 none (d + 1 + 3) ((d + 1) * 21 + 61) 0 0 (fun r_ τ_ => (r_ = none) ∧ τ_ = r ∧ sg_T τ_ ∧ sg_E σ0 τ_)) (hr_X12_term : ∀ (a0 : Nat) (σ : Sg), sg_T σ → is_A σ a0 11 → ∀ r : Sg, rec 6 a0 σ = some r → Ct yX12_term cX12_term 2 none (d + 3) (d * 21 + 61) 0 0 [vr (some a0)] σ (fun r_ τ_ => (r_ = none) ∧ τ_ = r ∧ sg_T τ_ ∧ sg_E σ τ_)) (k21 : Int32 → Sg → Option Sg) (hk21 : ∀ (v1 : Int32) (σ : Sg), sg_T σ → sg_E σ0 σ → is_A σ a0 11 → k21 v1 σ = some r → J_ Γ 21 [(0, vr (some a0)), (1, vi v1)] [] σ 0 0) (v1 : Int32) (σ : Sg) (hT : sg_T σ) (hE : sg_E σ0 σ) (h0 : is_A σ a0 11) (hf : f_X12_sum_B33 N rec a0 k21  v1 σ = some r) : J_ Γ 33 [(0, vr (some a0)), (1, vi (v1))] [] σ 0 0 := by
  have C0 := C1.1
  unfold f_X12_sum_B33 at hf
  refine J_aload_n (q := 34) C0 0 rfl rfl dX12_sum_33 rfl trivial ?_
  refine J_dup (q := 35) C0 dX12_sum_34 rfl rfl ?_
  refine J_getI (q := 38) C0 fl_X12_103_11 rfl (h0) rfl dX12_sum_35 rfl ?_
  refine J_iconst (q := 39) (v := 1) C0 dX12_sum_38 rfl rfl ?_
  refine J_iadd (q := 40) C0 dX12_sum_39 rfl ?_
  refine J_putI (q := 43) C0 fl_X12_103_11 rfl (h0) rfl dX12_sum_40 rfl ?_
  refine J_aload_n (q := 44) C0 0 rfl rfl dX12_sum_43 rfl trivial ?_
  refine K_some hf (fun p4 hp4 hf => ?_)
  refine J_callV (q := 47) (ci := 11) (as := []) (rest := []) C0 rfl ((h0).putI) (hr_X12_term a0  (put_I σ a0 3 ((sg_I σ a0 3) + (1))) ((hT).putI) ((h0).putI)  _ hp4) ml_X12_term lk_X12_153 im_X12_term se_X12_term rfl (by decide) dX12_sum_44 rfl rfl rfl (by simp [ac_]) C1.room (by omega) (by omega) (by decide) (by decide) (fun r_ τ_ hQ => ?_)
  obtain ⟨rfl, ht_, Tp4, Ep4⟩ := hQ; have ht_ := ht_.symm; subst ht_
  show J_ Γ 47 [(0, vr (some a0)), (1, vi (v1))] [] p4 0 0
  refine J_aload_n (q := 48) C0 0 rfl rfl dX12_sum_47 rfl trivial ?_
  refine J_iload_n (q := 49) C0 1 rfl rfl dX12_sum_48 rfl ?_
  refine J_bipush (q := 51) (v := 43) C0 dX12_sum_49 rfl rfl ?_
  refine J_icmp_ne (t := 58) (q := 54) C0 dX12_sum_51 (by decide) rfl hf (fun c5 hf => ?_) (fun c5 hf => ?_)
  · refine J_iconst (q := 59) (v := 3) C0 dX12_sum_58 rfl rfl ?_
    refine J_sub (lv' := [(0, vr (some a0))]) [0] rfl ?_
    exact t_X12_sum_B59 C1 hr_X12_term  k21  hk21  (3) (some a0) (p4) (Tp4) (((hE).putI).tr Ep4) ((Ep4.at (h0).putI)) (is_O.some ((Ep4.at (h0).putI))) hf
  · refine J_iconst (q := 55) (v := 2) C0 dX12_sum_54 rfl rfl ?_
    refine J_goto (q := 59) C0 dX12_sum_55 (by decide) ?_
    refine J_sub (lv' := [(0, vr (some a0))]) [0] rfl ?_
    exact t_X12_sum_B59 C1 hr_X12_term  k21  hk21  (2) (some a0) (p4) (Tp4) (((hE).putI).tr Ep4) ((Ep4.at (h0).putI)) (is_O.some ((Ep4.at (h0).putI))) hf
set_option maxHeartbeats 4000000 in
set_option maxRecDepth 100000 in
theorem t_X12_sum_L21 {N : Nat} {rec : Nat → Nat → Sg → Option Sg} {d : Nat} {a0 : Nat} {Γ : Gm} {σ0 : Sg} {r : Sg} (C1 : CM Γ cX12_sum RX12 2 none (d + 1 + 3) ((d + 1) * 21 + 61) 0 0 (fun r_ τ_ => (r_ = none) ∧ τ_ = r ∧ sg_T τ_ ∧ sg_E σ0 τ_)) (hr_X12_term : ∀ (a0 : Nat) (σ : Sg), sg_T σ → is_A σ a0 11 → ∀ r : Sg, rec 6 a0 σ = some r → Ct yX12_term cX12_term 2 none (d + 3) (d * 21 + 61) 0 0 [vr (some a0)] σ (fun r_ τ_ => (r_ = none) ∧ τ_ = r ∧ sg_T τ_ ∧ sg_E σ τ_)) : ∀ (n : Nat) (v1 : Int32) (σ : Sg), sg_T σ → sg_E σ0 σ → is_A σ a0 11 → f_X12_sum_L21 N rec a0  n v1 σ = some r → J_ Γ 21 [(0, vr (some a0)), (1, vi (v1))] [] σ 0 0 := by
  have C0 := C1.1
  intro n
  induction n with
  | zero => intro v1 σ hT hE h0  hf; unfold f_X12_sum_L21 at hf; cases hf
  | succ n ih =>
    intro v1 σ hT hE h0  hf
    rw [f_X12_sum_L21] at hf
    refine J_iload_n (q := 22) C0 1 rfl rfl dX12_sum_21 rfl ?_
    refine J_bipush (q := 24) (v := 43) C0 dX12_sum_22 rfl rfl ?_
    refine J_icmp_eq (t := 33) (q := 27) C0 dX12_sum_24 (by decide) rfl hf (fun c3 hf => ?_) (fun c3 hf => ?_)
    · exact t_X12_sum_B33 C1 hr_X12_term  (f_X12_sum_L21 N rec a0 n)  ih  (v1) σ (hT) (hE) (h0)  hf
    · refine J_iload_n (q := 28) C0 1 rfl rfl dX12_sum_27 rfl ?_
      refine J_bipush (q := 30) (v := 45) C0 dX12_sum_28 rfl rfl ?_
      refine J_icmp_ne (t := 83) (q := 33) C0 dX12_sum_30 (by decide) rfl hf (fun c10 hf => ?_) (fun c10 hf => ?_)
      · obtain rfl := Option.some.inj hf; exact J_vret C1 dX12_sum_83 rfl (Nat.zero_le _) (Nat.zero_le _) ⟨rfl, rfl, hT, hE⟩
      · exact t_X12_sum_B33 C1 hr_X12_term  (f_X12_sum_L21 N rec a0 n)  ih  (v1) σ (hT) (hE) (h0)  hf
set_option maxHeartbeats 4000000 in
set_option maxRecDepth 100000 in
theorem t_X12_sum_B20 {N : Nat} {rec : Nat → Nat → Sg → Option Sg} {d : Nat} {a0 : Nat} {Γ : Gm} {σ0 : Sg} {r : Sg} (C1 : CM Γ cX12_sum RX12 2 none (d + 1 + 3) ((d + 1) * 21 + 61) 0 0 (fun r_ τ_ => (r_ = none) ∧ τ_ = r ∧ sg_T τ_ ∧ sg_E σ0 τ_)) (hr_X12_term : ∀ (a0 : Nat) (σ : Sg), sg_T σ → is_A σ a0 11 → ∀ r : Sg, rec 6 a0 σ = some r → Ct yX12_term cX12_term 2 none (d + 3) (d * 21 + 61) 0 0 [vr (some a0)] σ (fun r_ τ_ => (r_ = none) ∧ τ_ = r ∧ sg_T τ_ ∧ sg_E σ τ_)) (s0 : Int32) (σ : Sg) (hT : sg_T σ) (hE : sg_E σ0 σ) (h0 : is_A σ a0 11) (hf : f_X12_sum_B20 N rec a0  s0 σ = some r) : J_ Γ 20 [(0, vr (some a0))] [vi (s0)] σ 0 0 := by
  have C0 := C1.1
  unfold f_X12_sum_B20 at hf
  refine J_istore_n (q := 21) (lv' := [(1, vi (s0)), (0, vr (some a0))]) C0 rfl (G_nl C1 (by decide)) dX12_sum_20 rfl rfl ?_
  refine J_sub (lv' := [(0, vr (some a0)), (1, vi (s0))]) [1, 0] rfl ?_
  exact t_X12_sum_L21 C1 hr_X12_term    N (s0) σ (hT) (hE) (h0)  hf
set_option maxHeartbeats 4000000 in
set_option maxRecDepth 100000 in
theorem t_X12_sum_o (N : Nat) {rec : Nat → Nat → Sg → Option Sg} {d : Nat} (hr_X12_term : ∀ (a0 : Nat) (σ : Sg), sg_T σ → is_A σ a0 11 → ∀ r : Sg, rec 6 a0 σ = some r → Ct yX12_term cX12_term 2 none (d + 3) (d * 21 + 61) 0 0 [vr (some a0)] σ (fun r_ τ_ => (r_ = none) ∧ τ_ = r ∧ sg_T τ_ ∧ sg_E σ τ_)) (a0 : Nat) {σ : Sg} (hT : sg_T σ) (h0 : is_A σ a0 11) {r : Sg} (hf : f_X12_sum_o N rec a0  σ = some r) : Ct yX12_sum cX12_sum 2 none (d + 1 + 3) ((d + 1) * 21 + 61) 0 0 [vr (some a0)] σ (fun r_ τ_ => (r_ = none) ∧ τ_ = r ∧ sg_T τ_ ∧ sg_E σ τ_) := by
  refine Ct.of (by decide +kernel) (Nat.le_of_ble_eq_true rfl) (fun Γ C1 => ?_)
  have C0 := C1.1
  have hE : sg_E σ σ := sg_E.rf
  unfold f_X12_sum_o at hf
  show J_ Γ 0 [(0, vr (some a0))] [] σ 0 0
  refine J_aload_n (q := 1) C0 0 rfl rfl dX12_sum_0 rfl trivial ?_
  refine K_some hf (fun p1 hp1 hf => ?_)
  refine J_callV (q := 4) (ci := 11) (as := []) (rest := []) C0 rfl (h0) (hr_X12_term a0  σ (hT) (h0)  _ hp1) ml_X12_term lk_X12_153 im_X12_term se_X12_term rfl (by decide) dX12_sum_1 rfl rfl rfl (by simp [ac_]) C1.room (by omega) (by omega) (by decide) (by decide) (fun r_ τ_ hQ => ?_)
  obtain ⟨rfl, ht_, Tp1, Ep1⟩ := hQ; have ht_ := ht_.symm; subst ht_
  show J_ Γ 4 [(0, vr (some a0))] [] p1 0 0
  refine J_aload_n (q := 5) C0 0 rfl rfl dX12_sum_4 rfl trivial ?_
  refine J_getI (q := 8) C0 fl_X12_110_11 rfl ((Ep1.at h0)) rfl dX12_sum_5 rfl ?_
  refine J_iconst (q := 9) (v := (-1)) C0 dX12_sum_8 rfl rfl ?_
  refine J_icmp_ne (t := 19) (q := 12) C0 dX12_sum_9 (by decide) rfl hf (fun c2 hf => ?_) (fun c2 hf => ?_)
  · refine J_iconst (q := 20) (v := (-1)) C0 dX12_sum_19 rfl rfl ?_
    exact t_X12_sum_B20 C1 hr_X12_term    ((-1)) (p1) (Tp1) ((hE).tr Ep1) ((Ep1.at h0))  hf
  · refine J_aload_n (q := 13) C0 0 rfl rfl dX12_sum_12 rfl trivial ?_
    refine K_some hf (fun p11 hp11 hf => ?_)
    refine J_callV (q := 16) (ci := 11) (as := []) (rest := []) C0 rfl ((Ep1.at h0)) (t_X12_look N a0  (Tp1) ((Ep1.at h0))  hp11) ml_X12_look lk_X12_122 im_X12_look se_X12_look rfl (by decide) dX12_sum_13 rfl rfl rfl (by simp [ac_]) C1.room (by omega) (by omega) (by decide) (by decide) (fun r_ τ_ hQ => ?_)
    obtain ⟨rfl, rfl, Tp11, Ep11⟩ := hQ
    show J_ Γ 16 [(0, vr (some a0))] [vi (p11.1)] p11.2 0 0
    refine J_goto (q := 20) C0 dX12_sum_16 (by decide) ?_
    exact t_X12_sum_B20 C1 hr_X12_term    (p11.1) (p11.2) (Tp11) (((hE).tr Ep1).tr Ep11) ((Ep11.at (Ep1.at h0)))  hf
def f_X12_term_B79 (N : Nat) (rec : Nat → Nat → Sg → Option Sg) (a0 : Nat) (k21 : Int32 → Sg → Option Sg) (s0 : Int32) (σ : Sg) : Option Sg :=
  k21 (s0) σ
def f_X12_term_B59 (N : Nat) (rec : Nat → Nat → Sg → Option Sg) (a0 : Nat) (k21 : Int32 → Sg → Option Sg) (s0 : Int32) (s1 : Option Nat) (σ : Sg) : Option Sg :=
  Option.bind (s1) fun b6 =>
  Option.bind (f_X12_put b6 (s0) (0) σ) fun p7 =>
  if (sg_I p7 a0 4) = ((-1)) then
  (Option.bind (f_X12_look N a0  p7) fun p9 =>
  f_X12_term_B79 N rec a0 k21 (p9.1) (p9.2))
  else
  (f_X12_term_B79 N rec a0 k21 ((-1)) (p7))
def f_X12_term_B33 (N : Nat) (rec : Nat → Nat → Sg → Option Sg) (a0 : Nat) (k21 : Int32 → Sg → Option Sg) (v1 : Int32) (σ : Sg) : Option Sg :=
  Option.bind (rec 7 a0  (put_I σ a0 3 ((sg_I σ a0 3) + (1)))) fun p4 =>
  if (v1) = (42) then
  (f_X12_term_B59 N rec a0 k21 (4) (some a0) (p4))
  else
  (f_X12_term_B59 N rec a0 k21 (5) (some a0) (p4))
def f_X12_term_L21 (N : Nat) (rec : Nat → Nat → Sg → Option Sg) (a0 : Nat) : Nat → Int32 → Sg → Option Sg
  | 0, _, _ => none
  | n + 1, v1, σ =>
  if (v1) = (42) then
  (f_X12_term_B33 N rec a0 (f_X12_term_L21 N rec a0 n) (v1) σ)
  else
  (if (v1) = (47) then
  (f_X12_term_B33 N rec a0 (f_X12_term_L21 N rec a0 n) (v1) σ)
  else
  (some (σ)))
def f_X12_term_B20 (N : Nat) (rec : Nat → Nat → Sg → Option Sg) (a0 : Nat) (s0 : Int32) (σ : Sg) : Option Sg :=
  f_X12_term_L21 N rec a0 N (s0) σ
def f_X12_term_o (N : Nat) (rec : Nat → Nat → Sg → Option Sg) (a0 : Nat) (σ : Sg) : Option Sg :=
  Option.bind (rec 7 a0  σ) fun p1 =>
  if (sg_I p1 a0 4) = ((-1)) then
  (Option.bind (f_X12_look N a0  p1) fun p11 =>
  f_X12_term_B20 N rec a0 (p11.1) (p11.2))
  else
  (f_X12_term_B20 N rec a0 ((-1)) (p1))
set_option maxHeartbeats 4000000 in
set_option maxRecDepth 100000 in
theorem t_X12_term_B79 {N : Nat} {rec : Nat → Nat → Sg → Option Sg} {d : Nat} {a0 : Nat} {Γ : Gm} {σ0 : Sg} {r : Sg} (C1 : CM Γ cX12_term RX12 2 none (d + 1 + 3) ((d + 1) * 21 + 61) 0 0 (fun r_ τ_ => (r_ = none) ∧ τ_ = r ∧ sg_T τ_ ∧ sg_E σ0 τ_)) (hr_X12_atom : ∀ (a0 : Nat) (σ : Sg), sg_T σ → is_A σ a0 11 → ∀ r : Sg, rec 7 a0 σ = some r → Ct yX12_atom cX12_atom 2 none (d + 3) (d * 21 + 61) 0 0 [vr (some a0)] σ (fun r_ τ_ => (r_ = none) ∧ τ_ = r ∧ sg_T τ_ ∧ sg_E σ τ_)) (k21 : Int32 → Sg → Option Sg) (hk21 : ∀ (v1 : Int32) (σ : Sg), sg_T σ → sg_E σ0 σ → is_A σ a0 11 → k21 v1 σ = some r → J_ Γ 21 [(0, vr (some a0)), (1, vi v1)] [] σ 0 0) (s0 : Int32) (σ : Sg) (hT : sg_T σ) (hE : sg_E σ0 σ) (h0 : is_A σ a0 11) (hf : f_X12_term_B79 N rec a0 k21  s0 σ = some r) : J_ Γ 79 [(0, vr (some a0))] [vi (s0)] σ 0 0 := by
  have C0 := C1.1
  unfold f_X12_term_B79 at hf
  refine J_istore_n (q := 80) (lv' := [(1, vi (s0)), (0, vr (some a0))]) C0 rfl (G_nl C1 (by decide)) dX12_term_79 rfl rfl ?_
  refine J_goto (q := 21) C0 dX12_term_80 (by decide) ?_
  refine J_sub (lv' := [(0, vr (some a0)), (1, vi (s0))]) [1, 0] rfl ?_
  exact hk21 (s0) σ (hT) (hE)  (h0)  hf
set_option maxHeartbeats 4000000 in
set_option maxRecDepth 100000 in
theorem t_X12_term_B59 {N : Nat} {rec : Nat → Nat → Sg → Option Sg} {d : Nat} {a0 : Nat} {Γ : Gm} {σ0 : Sg} {r : Sg} (C1 : CM Γ cX12_term RX12 2 none (d + 1 + 3) ((d + 1) * 21 + 61) 0 0 (fun r_ τ_ => (r_ = none) ∧ τ_ = r ∧ sg_T τ_ ∧ sg_E σ0 τ_)) (hr_X12_atom : ∀ (a0 : Nat) (σ : Sg), sg_T σ → is_A σ a0 11 → ∀ r : Sg, rec 7 a0 σ = some r → Ct yX12_atom cX12_atom 2 none (d + 3) (d * 21 + 61) 0 0 [vr (some a0)] σ (fun r_ τ_ => (r_ = none) ∧ τ_ = r ∧ sg_T τ_ ∧ sg_E σ τ_)) (k21 : Int32 → Sg → Option Sg) (hk21 : ∀ (v1 : Int32) (σ : Sg), sg_T σ → sg_E σ0 σ → is_A σ a0 11 → k21 v1 σ = some r → J_ Γ 21 [(0, vr (some a0)), (1, vi v1)] [] σ 0 0) (s0 : Int32) (s1 : Option Nat) (σ : Sg) (hT : sg_T σ) (hE : sg_E σ0 σ) (h0 : is_A σ a0 11) (g_s1 : is_O σ s1 11) (hf : f_X12_term_B59 N rec a0 k21  s0 s1 σ = some r) : J_ Γ 59 [(0, vr (some a0))] [vi (s0), vr (s1)] σ 0 0 := by
  have C0 := C1.1
  unfold f_X12_term_B59 at hf
  refine J_iconst (q := 60) (v := 0) C0 dX12_term_59 rfl rfl ?_
  refine K_some hf (fun b6 hb6 hf => ?_)
  have ab6 : is_A σ b6 11 := (g_s1) b6 hb6
  refine K_some hf (fun p7 hp7 hf => ?_)
  refine J_callV (q := 63) (ci := 11) (as := [vi (s0), vi (0)]) (rest := []) C0 hb6 (ab6) (t_X12_put b6 (s0) (0) (hT) (ab6)  hp7) ml_X12_put lk_X12_132 im_X12_put se_X12_put rfl (by decide) dX12_term_60 rfl rfl rfl (by simp [ac_]) C1.room (by omega) (by omega) (by decide) (by decide) (fun r_ τ_ hQ => ?_)
  obtain ⟨rfl, ht_, Tp7, Ep7⟩ := hQ; have ht_ := ht_.symm; subst ht_
  show J_ Γ 63 [(0, vr (some a0))] [] p7 0 0
  refine J_aload_n (q := 64) C0 0 rfl rfl dX12_term_63 rfl trivial ?_
  refine J_getI (q := 67) C0 fl_X12_110_11 rfl ((Ep7.at h0)) rfl dX12_term_64 rfl ?_
  refine J_iconst (q := 68) (v := (-1)) C0 dX12_term_67 rfl rfl ?_
  refine J_icmp_ne (t := 78) (q := 71) C0 dX12_term_68 (by decide) rfl hf (fun c8 hf => ?_) (fun c8 hf => ?_)
  · refine J_iconst (q := 79) (v := (-1)) C0 dX12_term_78 rfl rfl ?_
    exact t_X12_term_B79 C1 hr_X12_atom  k21  hk21  ((-1)) (p7) (Tp7) ((hE).tr Ep7) ((Ep7.at h0))  hf
  · refine J_aload_n (q := 72) C0 0 rfl rfl dX12_term_71 rfl trivial ?_
    refine K_some hf (fun p9 hp9 hf => ?_)
    refine J_callV (q := 75) (ci := 11) (as := []) (rest := []) C0 rfl ((Ep7.at h0)) (t_X12_look N a0  (Tp7) ((Ep7.at h0))  hp9) ml_X12_look lk_X12_122 im_X12_look se_X12_look rfl (by decide) dX12_term_72 rfl rfl rfl (by simp [ac_]) C1.room (by omega) (by omega) (by decide) (by decide) (fun r_ τ_ hQ => ?_)
    obtain ⟨rfl, rfl, Tp9, Ep9⟩ := hQ
    show J_ Γ 75 [(0, vr (some a0))] [vi (p9.1)] p9.2 0 0
    refine J_goto (q := 79) C0 dX12_term_75 (by decide) ?_
    exact t_X12_term_B79 C1 hr_X12_atom  k21  hk21  (p9.1) (p9.2) (Tp9) (((hE).tr Ep7).tr Ep9) ((Ep9.at (Ep7.at h0)))  hf
set_option maxHeartbeats 4000000 in
set_option maxRecDepth 100000 in
theorem t_X12_term_B33 {N : Nat} {rec : Nat → Nat → Sg → Option Sg} {d : Nat} {a0 : Nat} {Γ : Gm} {σ0 : Sg} {r : Sg} (C1 : CM Γ cX12_term RX12 2 none (d + 1 + 3) ((d + 1) * 21 + 61) 0 0 (fun r_ τ_ => (r_ = none) ∧ τ_ = r ∧ sg_T τ_ ∧ sg_E σ0 τ_)) (hr_X12_atom : ∀ (a0 : Nat) (σ : Sg), sg_T σ → is_A σ a0 11 → ∀ r : Sg, rec 7 a0 σ = some r → Ct yX12_atom cX12_atom 2 none (d + 3) (d * 21 + 61) 0 0 [vr (some a0)] σ (fun r_ τ_ => (r_ = none) ∧ τ_ = r ∧ sg_T τ_ ∧ sg_E σ τ_)) (k21 : Int32 → Sg → Option Sg) (hk21 : ∀ (v1 : Int32) (σ : Sg), sg_T σ → sg_E σ0 σ → is_A σ a0 11 → k21 v1 σ = some r → J_ Γ 21 [(0, vr (some a0)), (1, vi v1)] [] σ 0 0) (v1 : Int32) (σ : Sg) (hT : sg_T σ) (hE : sg_E σ0 σ) (h0 : is_A σ a0 11) (hf : f_X12_term_B33 N rec a0 k21  v1 σ = some r) : J_ Γ 33 [(0, vr (some a0)), (1, vi (v1))] [] σ 0 0 := by
  have C0 := C1.1
  unfold f_X12_term_B33 at hf
  refine J_aload_n (q := 34) C0 0 rfl rfl dX12_term_33 rfl trivial ?_
  refine J_dup (q := 35) C0 dX12_term_34 rfl rfl ?_
  refine J_getI (q := 38) C0 fl_X12_103_11 rfl (h0) rfl dX12_term_35 rfl ?_
  refine J_iconst (q := 39) (v := 1) C0 dX12_term_38 rfl rfl ?_
  refine J_iadd (q := 40) C0 dX12_term_39 rfl ?_
  refine J_putI (q := 43) C0 fl_X12_103_11 rfl (h0) rfl dX12_term_40 rfl ?_
  refine J_aload_n (q := 44) C0 0 rfl rfl dX12_term_43 rfl trivial ?_
  refine K_some hf (fun p4 hp4 hf => ?_)
  refine J_callV (q := 47) (ci := 11) (as := []) (rest := []) C0 rfl ((h0).putI) (hr_X12_atom a0  (put_I σ a0 3 ((sg_I σ a0 3) + (1))) ((hT).putI) ((h0).putI)  _ hp4) ml_X12_atom lk_X12_150 im_X12_atom se_X12_atom rfl (by decide) dX12_term_44 rfl rfl rfl (by simp [ac_]) C1.room (by omega) (by omega) (by decide) (by decide) (fun r_ τ_ hQ => ?_)
  obtain ⟨rfl, ht_, Tp4, Ep4⟩ := hQ; have ht_ := ht_.symm; subst ht_
  show J_ Γ 47 [(0, vr (some a0)), (1, vi (v1))] [] p4 0 0
  refine J_aload_n (q := 48) C0 0 rfl rfl dX12_term_47 rfl trivial ?_
  refine J_iload_n (q := 49) C0 1 rfl rfl dX12_term_48 rfl ?_
  refine J_bipush (q := 51) (v := 42) C0 dX12_term_49 rfl rfl ?_
  refine J_icmp_ne (t := 58) (q := 54) C0 dX12_term_51 (by decide) rfl hf (fun c5 hf => ?_) (fun c5 hf => ?_)
  · refine J_iconst (q := 59) (v := 5) C0 dX12_term_58 rfl rfl ?_
    refine J_sub (lv' := [(0, vr (some a0))]) [0] rfl ?_
    exact t_X12_term_B59 C1 hr_X12_atom  k21  hk21  (5) (some a0) (p4) (Tp4) (((hE).putI).tr Ep4) ((Ep4.at (h0).putI)) (is_O.some ((Ep4.at (h0).putI))) hf
  · refine J_iconst (q := 55) (v := 4) C0 dX12_term_54 rfl rfl ?_
    refine J_goto (q := 59) C0 dX12_term_55 (by decide) ?_
    refine J_sub (lv' := [(0, vr (some a0))]) [0] rfl ?_
    exact t_X12_term_B59 C1 hr_X12_atom  k21  hk21  (4) (some a0) (p4) (Tp4) (((hE).putI).tr Ep4) ((Ep4.at (h0).putI)) (is_O.some ((Ep4.at (h0).putI))) hf
set_option maxHeartbeats 4000000 in
set_option maxRecDepth 100000 in
theorem t_X12_term_L21 {N : Nat} {rec : Nat → Nat → Sg → Option Sg} {d : Nat} {a0 : Nat} {Γ : Gm} {σ0 : Sg} {r : Sg} (C1 : CM Γ cX12_term RX12 2 none (d + 1 + 3) ((d + 1) * 21 + 61) 0 0 (fun r_ τ_ => (r_ = none) ∧ τ_ = r ∧ sg_T τ_ ∧ sg_E σ0 τ_)) (hr_X12_atom : ∀ (a0 : Nat) (σ : Sg), sg_T σ → is_A σ a0 11 → ∀ r : Sg, rec 7 a0 σ = some r → Ct yX12_atom cX12_atom 2 none (d + 3) (d * 21 + 61) 0 0 [vr (some a0)] σ (fun r_ τ_ => (r_ = none) ∧ τ_ = r ∧ sg_T τ_ ∧ sg_E σ τ_)) : ∀ (n : Nat) (v1 : Int32) (σ : Sg), sg_T σ → sg_E σ0 σ → is_A σ a0 11 → f_X12_term_L21 N rec a0  n v1 σ = some r → J_ Γ 21 [(0, vr (some a0)), (1, vi (v1))] [] σ 0 0 := by
  have C0 := C1.1
  intro n
  induction n with
  | zero => intro v1 σ hT hE h0  hf; unfold f_X12_term_L21 at hf; cases hf
  | succ n ih =>
    intro v1 σ hT hE h0  hf
    rw [f_X12_term_L21] at hf
    refine J_iload_n (q := 22) C0 1 rfl rfl dX12_term_21 rfl ?_
    refine J_bipush (q := 24) (v := 42) C0 dX12_term_22 rfl rfl ?_
    refine J_icmp_eq (t := 33) (q := 27) C0 dX12_term_24 (by decide) rfl hf (fun c3 hf => ?_) (fun c3 hf => ?_)
    · exact t_X12_term_B33 C1 hr_X12_atom  (f_X12_term_L21 N rec a0 n)  ih  (v1) σ (hT) (hE) (h0)  hf
    · refine J_iload_n (q := 28) C0 1 rfl rfl dX12_term_27 rfl ?_
      refine J_bipush (q := 30) (v := 47) C0 dX12_term_28 rfl rfl ?_
      refine J_icmp_ne (t := 83) (q := 33) C0 dX12_term_30 (by decide) rfl hf (fun c10 hf => ?_) (fun c10 hf => ?_)
      · obtain rfl := Option.some.inj hf; exact J_vret C1 dX12_term_83 rfl (Nat.zero_le _) (Nat.zero_le _) ⟨rfl, rfl, hT, hE⟩
      · exact t_X12_term_B33 C1 hr_X12_atom  (f_X12_term_L21 N rec a0 n)  ih  (v1) σ (hT) (hE) (h0)  hf
set_option maxHeartbeats 4000000 in
set_option maxRecDepth 100000 in
theorem t_X12_term_B20 {N : Nat} {rec : Nat → Nat → Sg → Option Sg} {d : Nat} {a0 : Nat} {Γ : Gm} {σ0 : Sg} {r : Sg} (C1 : CM Γ cX12_term RX12 2 none (d + 1 + 3) ((d + 1) * 21 + 61) 0 0 (fun r_ τ_ => (r_ = none) ∧ τ_ = r ∧ sg_T τ_ ∧ sg_E σ0 τ_)) (hr_X12_atom : ∀ (a0 : Nat) (σ : Sg), sg_T σ → is_A σ a0 11 → ∀ r : Sg, rec 7 a0 σ = some r → Ct yX12_atom cX12_atom 2 none (d + 3) (d * 21 + 61) 0 0 [vr (some a0)] σ (fun r_ τ_ => (r_ = none) ∧ τ_ = r ∧ sg_T τ_ ∧ sg_E σ τ_)) (s0 : Int32) (σ : Sg) (hT : sg_T σ) (hE : sg_E σ0 σ) (h0 : is_A σ a0 11) (hf : f_X12_term_B20 N rec a0  s0 σ = some r) : J_ Γ 20 [(0, vr (some a0))] [vi (s0)] σ 0 0 := by
  have C0 := C1.1
  unfold f_X12_term_B20 at hf
  refine J_istore_n (q := 21) (lv' := [(1, vi (s0)), (0, vr (some a0))]) C0 rfl (G_nl C1 (by decide)) dX12_term_20 rfl rfl ?_
  refine J_sub (lv' := [(0, vr (some a0)), (1, vi (s0))]) [1, 0] rfl ?_
  exact t_X12_term_L21 C1 hr_X12_atom    N (s0) σ (hT) (hE) (h0)  hf
set_option maxHeartbeats 4000000 in
set_option maxRecDepth 100000 in
theorem t_X12_term_o (N : Nat) {rec : Nat → Nat → Sg → Option Sg} {d : Nat} (hr_X12_atom : ∀ (a0 : Nat) (σ : Sg), sg_T σ → is_A σ a0 11 → ∀ r : Sg, rec 7 a0 σ = some r → Ct yX12_atom cX12_atom 2 none (d + 3) (d * 21 + 61) 0 0 [vr (some a0)] σ (fun r_ τ_ => (r_ = none) ∧ τ_ = r ∧ sg_T τ_ ∧ sg_E σ τ_)) (a0 : Nat) {σ : Sg} (hT : sg_T σ) (h0 : is_A σ a0 11) {r : Sg} (hf : f_X12_term_o N rec a0  σ = some r) : Ct yX12_term cX12_term 2 none (d + 1 + 3) ((d + 1) * 21 + 61) 0 0 [vr (some a0)] σ (fun r_ τ_ => (r_ = none) ∧ τ_ = r ∧ sg_T τ_ ∧ sg_E σ τ_) := by
  refine Ct.of (by decide +kernel) (Nat.le_of_ble_eq_true rfl) (fun Γ C1 => ?_)
  have C0 := C1.1
  have hE : sg_E σ σ := sg_E.rf
  unfold f_X12_term_o at hf
  show J_ Γ 0 [(0, vr (some a0))] [] σ 0 0
  refine J_aload_n (q := 1) C0 0 rfl rfl dX12_term_0 rfl trivial ?_
  refine K_some hf (fun p1 hp1 hf => ?_)
  refine J_callV (q := 4) (ci := 11) (as := []) (rest := []) C0 rfl (h0) (hr_X12_atom a0  σ (hT) (h0)  _ hp1) ml_X12_atom lk_X12_150 im_X12_atom se_X12_atom rfl (by decide) dX12_term_1 rfl rfl rfl (by simp [ac_]) C1.room (by omega) (by omega) (by decide) (by decide) (fun r_ τ_ hQ => ?_)
  obtain ⟨rfl, ht_, Tp1, Ep1⟩ := hQ; have ht_ := ht_.symm; subst ht_
  show J_ Γ 4 [(0, vr (some a0))] [] p1 0 0
  refine J_aload_n (q := 5) C0 0 rfl rfl dX12_term_4 rfl trivial ?_
  refine J_getI (q := 8) C0 fl_X12_110_11 rfl ((Ep1.at h0)) rfl dX12_term_5 rfl ?_
  refine J_iconst (q := 9) (v := (-1)) C0 dX12_term_8 rfl rfl ?_
  refine J_icmp_ne (t := 19) (q := 12) C0 dX12_term_9 (by decide) rfl hf (fun c2 hf => ?_) (fun c2 hf => ?_)
  · refine J_iconst (q := 20) (v := (-1)) C0 dX12_term_19 rfl rfl ?_
    exact t_X12_term_B20 C1 hr_X12_atom    ((-1)) (p1) (Tp1) ((hE).tr Ep1) ((Ep1.at h0))  hf
  · refine J_aload_n (q := 13) C0 0 rfl rfl dX12_term_12 rfl trivial ?_
    refine K_some hf (fun p11 hp11 hf => ?_)
    refine J_callV (q := 16) (ci := 11) (as := []) (rest := []) C0 rfl ((Ep1.at h0)) (t_X12_look N a0  (Tp1) ((Ep1.at h0))  hp11) ml_X12_look lk_X12_122 im_X12_look se_X12_look rfl (by decide) dX12_term_13 rfl rfl rfl (by simp [ac_]) C1.room (by omega) (by omega) (by decide) (by decide) (fun r_ τ_ hQ => ?_)
    obtain ⟨rfl, rfl, Tp11, Ep11⟩ := hQ
    show J_ Γ 16 [(0, vr (some a0))] [vi (p11.1)] p11.2 0 0
    refine J_goto (q := 20) C0 dX12_term_16 (by decide) ?_
    exact t_X12_term_B20 C1 hr_X12_atom    (p11.1) (p11.2) (Tp11) (((hE).tr Ep1).tr Ep11) ((Ep11.at (Ep1.at h0)))  hf
def f_X12_atom_o (N : Nat) (rec : Nat → Nat → Sg → Option Sg) (a0 : Nat) (σ : Sg) : Option Sg :=
  Option.bind (f_X12_look N a0  σ) fun p1 =>
  Option.bind (f_X12_isDigit (p1.1) ) fun p2 =>
  if (p2) = (0) then
  (Option.bind (f_X12_letterOf (p1.1) ) fun p4 =>
  if (p4) = ((-1)) then
  (if (p1.1) = (91) then
  (Option.bind (f_X12_opens a0  p1.2) fun p8 =>
  if (sg_I p8 a0 4) = ((-1)) then
  (Option.bind (rec 5 a0  p8) fun p10 =>
  Option.bind (f_X12_closes N a0 (93) p10) fun p11 =>
  some (p11))
  else
  (some (p8)))
  else
  (Option.bind (f_X12_bad a0  p1.2) fun p7 =>
  some (p7)))
  else
  (Option.bind (f_X12_letterOf (p1.1) ) fun p12 =>
  Option.bind (f_X12_put a0 (1) (p12) (put_I p1.2 a0 3 ((sg_I p1.2 a0 3) + (1)))) fun p13 =>
  some (p13)))
  else
  (Option.bind (f_X12_plainNumber N a0  p1.2) fun p14 =>
  Option.bind (f_X12_put a0 (0) (p14.1) p14.2) fun p15 =>
  some (p15))
set_option maxHeartbeats 4000000 in
set_option maxRecDepth 100000 in
theorem t_X12_atom_o (N : Nat) {rec : Nat → Nat → Sg → Option Sg} {d : Nat} (hr_X12_sum : ∀ (a0 : Nat) (σ : Sg), sg_T σ → is_A σ a0 11 → ∀ r : Sg, rec 5 a0 σ = some r → Ct yX12_sum cX12_sum 2 none (d + 3) (d * 21 + 61) 0 0 [vr (some a0)] σ (fun r_ τ_ => (r_ = none) ∧ τ_ = r ∧ sg_T τ_ ∧ sg_E σ τ_)) (a0 : Nat) {σ : Sg} (hT : sg_T σ) (h0 : is_A σ a0 11) {r : Sg} (hf : f_X12_atom_o N rec a0  σ = some r) : Ct yX12_atom cX12_atom 2 none (d + 1 + 3) ((d + 1) * 21 + 61) 0 0 [vr (some a0)] σ (fun r_ τ_ => (r_ = none) ∧ τ_ = r ∧ sg_T τ_ ∧ sg_E σ τ_) := by
  refine Ct.of (by decide +kernel) (Nat.le_of_ble_eq_true rfl) (fun Γ C1 => ?_)
  have C0 := C1.1
  have hE : sg_E σ σ := sg_E.rf
  unfold f_X12_atom_o at hf
  show J_ Γ 0 [(0, vr (some a0))] [] σ 0 0
  refine J_aload_n (q := 1) C0 0 rfl rfl dX12_atom_0 rfl trivial ?_
  refine K_some hf (fun p1 hp1 hf => ?_)
  refine J_callV (q := 4) (ci := 11) (as := []) (rest := []) C0 rfl (h0) (t_X12_look N a0  (hT) (h0)  hp1) ml_X12_look lk_X12_122 im_X12_look se_X12_look rfl (by decide) dX12_atom_1 rfl rfl rfl (by simp [ac_]) C1.room (by omega) (by omega) (by decide) (by decide) (fun r_ τ_ hQ => ?_)
  obtain ⟨rfl, rfl, Tp1, Ep1⟩ := hQ
  show J_ Γ 4 [(0, vr (some a0))] [vi (p1.1)] p1.2 0 0
  refine J_istore_n (q := 5) (lv' := [(1, vi (p1.1)), (0, vr (some a0))]) C0 rfl (G_nl C1 (by decide)) dX12_atom_4 rfl rfl ?_
  refine J_iload_n (q := 6) C0 0 rfl rfl dX12_atom_5 rfl ?_
  refine K_some hf (fun p2 hp2 hf => ?_)
  refine J_callS (q := 9) (as := [vi (p1.1)]) (rest := []) C0 (t_X12_isDigit (p1.1)  hp2) ml_X12_isDigit lk_X12_125 sm_X12_isDigit dX12_atom_6 rfl rfl rfl (by simp [ac_]) C1.room (by omega) (by omega) (by decide) (by decide) (fun r_ τ_ hQ => ?_)
  obtain ⟨⟨rfl, zp2⟩, ht_⟩ := hQ; have ht_ := ht_.symm; subst ht_
  show J_ Γ 9 [(1, vi (p1.1)), (0, vr (some a0))] [vi (p2)] p1.2 0 0
  refine J_if_eq (t := 24) (q := 12) C0 dX12_atom_9 (by decide) rfl hf (fun c3 hf => ?_) (fun c3 hf => ?_)
  · refine J_iload_n (q := 25) C0 0 rfl rfl dX12_atom_24 rfl ?_
    refine K_some hf (fun p4 hp4 hf => ?_)
    refine J_callS (q := 28) (as := [vi (p1.1)]) (rest := []) C0 (t_X12_letterOf (p1.1)  hp4) ml_X12_letterOf lk_X12_136 sm_X12_letterOf dX12_atom_25 rfl rfl rfl (by simp [ac_]) C1.room (by omega) (by omega) (by decide) (by decide) (fun r_ τ_ hQ => ?_)
    obtain ⟨rfl, ht_⟩ := hQ; have ht_ := ht_.symm; subst ht_
    show J_ Γ 28 [(1, vi (p1.1)), (0, vr (some a0))] [vi (p4)] p1.2 0 0
    refine J_iconst (q := 29) (v := (-1)) C0 dX12_atom_28 rfl rfl ?_
    refine J_icmp_eq (t := 54) (q := 32) C0 dX12_atom_29 (by decide) rfl hf (fun c5 hf => ?_) (fun c5 hf => ?_)
    · refine J_iload_n (q := 55) C0 0 rfl rfl dX12_atom_54 rfl ?_
      refine J_bipush (q := 57) (v := 91) C0 dX12_atom_55 rfl rfl ?_
      refine J_icmp_ne (t := 85) (q := 60) C0 dX12_atom_57 (by decide) rfl hf (fun c6 hf => ?_) (fun c6 hf => ?_)
      · refine J_aload_n (q := 86) C0 1 rfl rfl dX12_atom_85 rfl trivial ?_
        refine K_some hf (fun p7 hp7 hf => ?_)
        refine J_callV (q := 89) (ci := 11) (as := []) (rest := []) C0 rfl ((Ep1.at h0)) (t_X12_bad a0  (Tp1) ((Ep1.at h0))  hp7) ml_X12_bad lk_X12_119 im_X12_bad se_X12_bad rfl (by decide) dX12_atom_86 rfl rfl rfl (by simp [ac_]) C1.room (by omega) (by omega) (by decide) (by decide) (fun r_ τ_ hQ => ?_)
        obtain ⟨rfl, ht_, Tp7, Ep7⟩ := hQ; have ht_ := ht_.symm; subst ht_
        show J_ Γ 89 [(1, vi (p1.1)), (0, vr (some a0))] [] p7 0 0
        obtain rfl := Option.some.inj hf; exact J_vret C1 dX12_atom_89 rfl (Nat.zero_le _) (Nat.zero_le _) ⟨rfl, rfl, Tp7, ((hE).tr Ep1).tr Ep7⟩
      · refine J_aload_n (q := 61) C0 1 rfl rfl dX12_atom_60 rfl trivial ?_
        refine K_some hf (fun p8 hp8 hf => ?_)
        refine J_callV (q := 64) (ci := 11) (as := []) (rest := []) C0 rfl ((Ep1.at h0)) (t_X12_opens a0  (Tp1) ((Ep1.at h0))  hp8) ml_X12_opens lk_X12_140 im_X12_opens se_X12_opens rfl (by decide) dX12_atom_61 rfl rfl rfl (by simp [ac_]) C1.room (by omega) (by omega) (by decide) (by decide) (fun r_ τ_ hQ => ?_)
        obtain ⟨rfl, ht_, Tp8, Ep8⟩ := hQ; have ht_ := ht_.symm; subst ht_
        show J_ Γ 64 [(1, vi (p1.1)), (0, vr (some a0))] [] p8 0 0
        refine J_aload_n (q := 65) C0 1 rfl rfl dX12_atom_64 rfl trivial ?_
        refine J_getI (q := 68) C0 fl_X12_110_11 rfl ((Ep8.at (Ep1.at h0))) rfl dX12_atom_65 rfl ?_
        refine J_iconst (q := 69) (v := (-1)) C0 dX12_atom_68 rfl rfl ?_
        refine J_icmp_ne (t := 89) (q := 72) C0 dX12_atom_69 (by decide) rfl hf (fun c9 hf => ?_) (fun c9 hf => ?_)
        · obtain rfl := Option.some.inj hf; exact J_vret C1 dX12_atom_89 rfl (Nat.zero_le _) (Nat.zero_le _) ⟨rfl, rfl, Tp8, ((hE).tr Ep1).tr Ep8⟩
        · refine J_aload_n (q := 73) C0 1 rfl rfl dX12_atom_72 rfl trivial ?_
          refine K_some hf (fun p10 hp10 hf => ?_)
          refine J_callV (q := 76) (ci := 11) (as := []) (rest := []) C0 rfl ((Ep8.at (Ep1.at h0))) (hr_X12_sum a0  p8 (Tp8) ((Ep8.at (Ep1.at h0)))  _ hp10) ml_X12_sum lk_X12_143 im_X12_sum se_X12_sum rfl (by decide) dX12_atom_73 rfl rfl rfl (by simp [ac_]) C1.room (by omega) (by omega) (by decide) (by decide) (fun r_ τ_ hQ => ?_)
          obtain ⟨rfl, ht_, Tp10, Ep10⟩ := hQ; have ht_ := ht_.symm; subst ht_
          show J_ Γ 76 [(1, vi (p1.1)), (0, vr (some a0))] [] p10 0 0
          refine J_aload_n (q := 77) C0 1 rfl rfl dX12_atom_76 rfl trivial ?_
          refine J_bipush (q := 79) (v := 93) C0 dX12_atom_77 rfl rfl ?_
          refine K_some hf (fun p11 hp11 hf => ?_)
          refine J_callV (q := 82) (ci := 11) (as := [vi (93)]) (rest := []) C0 rfl ((Ep10.at (Ep8.at (Ep1.at h0)))) (t_X12_closes N a0 (93) (Tp10) ((Ep10.at (Ep8.at (Ep1.at h0))))  hp11) ml_X12_closes lk_X12_146 im_X12_closes se_X12_closes rfl (by decide) dX12_atom_79 rfl rfl rfl (by simp [ac_]) C1.room (by omega) (by omega) (by decide) (by decide) (fun r_ τ_ hQ => ?_)
          obtain ⟨rfl, ht_, Tp11, Ep11⟩ := hQ; have ht_ := ht_.symm; subst ht_
          show J_ Γ 82 [(1, vi (p1.1)), (0, vr (some a0))] [] p11 0 0
          refine J_goto (q := 89) C0 dX12_atom_82 (by decide) ?_
          obtain rfl := Option.some.inj hf; exact J_vret C1 dX12_atom_89 rfl (Nat.zero_le _) (Nat.zero_le _) ⟨rfl, rfl, Tp11, ((((hE).tr Ep1).tr Ep8).tr Ep10).tr Ep11⟩
    · refine J_aload_n (q := 33) C0 1 rfl rfl dX12_atom_32 rfl trivial ?_
      refine J_dup (q := 34) C0 dX12_atom_33 rfl rfl ?_
      refine J_getI (q := 37) C0 fl_X12_103_11 rfl ((Ep1.at h0)) rfl dX12_atom_34 rfl ?_
      refine J_iconst (q := 38) (v := 1) C0 dX12_atom_37 rfl rfl ?_
      refine J_iadd (q := 39) C0 dX12_atom_38 rfl ?_
      refine J_putI (q := 42) C0 fl_X12_103_11 rfl ((Ep1.at h0)) rfl dX12_atom_39 rfl ?_
      refine J_aload_n (q := 43) C0 1 rfl rfl dX12_atom_42 rfl trivial ?_
      refine J_iconst (q := 44) (v := 1) C0 dX12_atom_43 rfl rfl ?_
      refine J_iload_n (q := 45) C0 0 rfl rfl dX12_atom_44 rfl ?_
      refine K_some hf (fun p12 hp12 hf => ?_)
      refine J_callS (q := 48) (as := [vi (p1.1)]) (rest := [vi (1), vr (some a0)]) C0 (t_X12_letterOf (p1.1)  hp12) ml_X12_letterOf lk_X12_136 sm_X12_letterOf dX12_atom_45 rfl rfl rfl (by simp [ac_]) C1.room (by omega) (by omega) (by decide) (by decide) (fun r_ τ_ hQ => ?_)
      obtain ⟨rfl, ht_⟩ := hQ; have ht_ := ht_.symm; subst ht_
      show J_ Γ 48 [(1, vi (p1.1)), (0, vr (some a0))] [vi (p12), vi (1), vr (some a0)] (put_I p1.2 a0 3 ((sg_I p1.2 a0 3) + (1))) 0 0
      refine K_some hf (fun p13 hp13 hf => ?_)
      refine J_callV (q := 51) (ci := 11) (as := [vi (1), vi (p12)]) (rest := []) C0 rfl (((Ep1.at h0)).putI) (t_X12_put a0 (1) (p12) ((Tp1).putI) (((Ep1.at h0)).putI)  hp13) ml_X12_put lk_X12_132 im_X12_put se_X12_put rfl (by decide) dX12_atom_48 rfl rfl rfl (by simp [ac_]) C1.room (by omega) (by omega) (by decide) (by decide) (fun r_ τ_ hQ => ?_)
      obtain ⟨rfl, ht_, Tp13, Ep13⟩ := hQ; have ht_ := ht_.symm; subst ht_
      show J_ Γ 51 [(1, vi (p1.1)), (0, vr (some a0))] [] p13 0 0
      refine J_goto (q := 89) C0 dX12_atom_51 (by decide) ?_
      obtain rfl := Option.some.inj hf; exact J_vret C1 dX12_atom_89 rfl (Nat.zero_le _) (Nat.zero_le _) ⟨rfl, rfl, Tp13, (((hE).tr Ep1).putI).tr Ep13⟩
  · refine J_aload_n (q := 13) C0 1 rfl rfl dX12_atom_12 rfl trivial ?_
    refine J_iconst (q := 14) (v := 0) C0 dX12_atom_13 rfl rfl ?_
    refine J_aload_n (q := 15) C0 1 rfl rfl dX12_atom_14 rfl trivial ?_
    refine K_some hf (fun p14 hp14 hf => ?_)
    refine J_callV (q := 18) (ci := 11) (as := []) (rest := [vi (0), vr (some a0)]) C0 rfl ((Ep1.at h0)) (t_X12_plainNumber N a0  (Tp1) ((Ep1.at h0))  hp14) ml_X12_plainNumber lk_X12_129 im_X12_plainNumber se_X12_plainNumber rfl (by decide) dX12_atom_15 rfl rfl rfl (by simp [ac_]) C1.room (by omega) (by omega) (by decide) (by decide) (fun r_ τ_ hQ => ?_)
    obtain ⟨rfl, rfl, Tp14, Ep14⟩ := hQ
    show J_ Γ 18 [(1, vi (p1.1)), (0, vr (some a0))] [vi (p14.1), vi (0), vr (some a0)] p14.2 0 0
    refine K_some hf (fun p15 hp15 hf => ?_)
    refine J_callV (q := 21) (ci := 11) (as := [vi (0), vi (p14.1)]) (rest := []) C0 rfl ((Ep14.at (Ep1.at h0))) (t_X12_put a0 (0) (p14.1) (Tp14) ((Ep14.at (Ep1.at h0)))  hp15) ml_X12_put lk_X12_132 im_X12_put se_X12_put rfl (by decide) dX12_atom_18 rfl rfl rfl (by simp [ac_]) C1.room (by omega) (by omega) (by decide) (by decide) (fun r_ τ_ hQ => ?_)
    obtain ⟨rfl, ht_, Tp15, Ep15⟩ := hQ; have ht_ := ht_.symm; subst ht_
    show J_ Γ 21 [(1, vi (p1.1)), (0, vr (some a0))] [] p15 0 0
    refine J_goto (q := 89) C0 dX12_atom_21 (by decide) ?_
    obtain rfl := Option.some.inj hf; exact J_vret C1 dX12_atom_89 rfl (Nat.zero_le _) (Nat.zero_le _) ⟨rfl, rfl, Tp15, (((hE).tr Ep1).tr Ep14).tr Ep15⟩
def g_X12_law (N : Nat) : Nat → Nat → Nat → Sg → Option Sg
  | 0, _, _, _ => none
  | d + 1, t, a0, σ => if t = 0 then f_X12_unit_o N (g_X12_law N d) a0 σ else if t = 1 then f_X12_goOnAnd_o N (g_X12_law N d) a0 σ else if t = 2 then f_X12_goOnOr_o N (g_X12_law N d) a0 σ else if t = 3 then f_X12_condition_o N (g_X12_law N d) a0 σ else if t = 4 then f_X12_compare_o N (g_X12_law N d) a0 σ else if t = 5 then f_X12_sum_o N (g_X12_law N d) a0 σ else if t = 6 then f_X12_term_o N (g_X12_law N d) a0 σ else f_X12_atom_o N (g_X12_law N d) a0 σ
set_option maxHeartbeats 4000000 in
set_option maxRecDepth 100000 in
theorem c_X12_law (N : Nat) : ∀ d : Nat, (∀ (a0 : Nat) (σ : Sg), sg_T σ → is_A σ a0 11 → ∀ r : Sg, g_X12_law N d 0 a0 σ = some r → Ct yX12_unit cX12_unit 2 none (d + 3) (d * 21 + 61) 0 0 [vr (some a0)] σ (fun r_ τ_ => (r_ = none) ∧ τ_ = r ∧ sg_T τ_ ∧ sg_E σ τ_)) ∧ (∀ (a0 : Nat) (σ : Sg), sg_T σ → is_A σ a0 11 → ∀ r : Sg, g_X12_law N d 1 a0 σ = some r → Ct yX12_goOnAnd cX12_goOnAnd 1 none (d + 3) (d * 21 + 61) 0 0 [vr (some a0)] σ (fun r_ τ_ => (r_ = none) ∧ τ_ = r ∧ sg_T τ_ ∧ sg_E σ τ_)) ∧ (∀ (a0 : Nat) (σ : Sg), sg_T σ → is_A σ a0 11 → ∀ r : Sg, g_X12_law N d 2 a0 σ = some r → Ct yX12_goOnOr cX12_goOnOr 1 none (d + 3) (d * 21 + 61) 0 0 [vr (some a0)] σ (fun r_ τ_ => (r_ = none) ∧ τ_ = r ∧ sg_T τ_ ∧ sg_E σ τ_)) ∧ (∀ (a0 : Nat) (σ : Sg), sg_T σ → is_A σ a0 11 → ∀ r : Sg, g_X12_law N d 3 a0 σ = some r → Ct yX12_condition cX12_condition 1 none (d + 3) (d * 21 + 61) 0 0 [vr (some a0)] σ (fun r_ τ_ => (r_ = none) ∧ τ_ = r ∧ sg_T τ_ ∧ sg_E σ τ_)) ∧ (∀ (a0 : Nat) (σ : Sg), sg_T σ → is_A σ a0 11 → ∀ r : Sg, g_X12_law N d 4 a0 σ = some r → Ct yX12_compare cX12_compare 2 none (d + 3) (d * 21 + 61) 0 0 [vr (some a0)] σ (fun r_ τ_ => (r_ = none) ∧ τ_ = r ∧ sg_T τ_ ∧ sg_E σ τ_)) ∧ (∀ (a0 : Nat) (σ : Sg), sg_T σ → is_A σ a0 11 → ∀ r : Sg, g_X12_law N d 5 a0 σ = some r → Ct yX12_sum cX12_sum 2 none (d + 3) (d * 21 + 61) 0 0 [vr (some a0)] σ (fun r_ τ_ => (r_ = none) ∧ τ_ = r ∧ sg_T τ_ ∧ sg_E σ τ_)) ∧ (∀ (a0 : Nat) (σ : Sg), sg_T σ → is_A σ a0 11 → ∀ r : Sg, g_X12_law N d 6 a0 σ = some r → Ct yX12_term cX12_term 2 none (d + 3) (d * 21 + 61) 0 0 [vr (some a0)] σ (fun r_ τ_ => (r_ = none) ∧ τ_ = r ∧ sg_T τ_ ∧ sg_E σ τ_)) ∧ (∀ (a0 : Nat) (σ : Sg), sg_T σ → is_A σ a0 11 → ∀ r : Sg, g_X12_law N d 7 a0 σ = some r → Ct yX12_atom cX12_atom 2 none (d + 3) (d * 21 + 61) 0 0 [vr (some a0)] σ (fun r_ τ_ => (r_ = none) ∧ τ_ = r ∧ sg_T τ_ ∧ sg_E σ τ_)) := by
  intro d
  induction d with
  | zero =>
    refine ⟨?_, ?_, ?_, ?_, ?_, ?_, ?_, ?_⟩
    all_goals (intros; rename_i hf_; cases hf_)
  | succ d ih =>
    obtain ⟨hr_X12_unit, hr_X12_goOnAnd, hr_X12_goOnOr, hr_X12_condition, hr_X12_compare, hr_X12_sum, hr_X12_term, hr_X12_atom⟩ := ih
    refine ⟨?_, ?_, ?_, ?_, ?_, ?_, ?_, ?_⟩
    · intro a0 σ hT_ h0_ r hf
      have hf : f_X12_unit_o N (g_X12_law N d) a0 σ = some r := hf
      exact (t_X12_unit_o N hr_X12_unit hr_X12_condition hr_X12_sum hr_X12_compare a0 hT_ h0_ hf)
    · intro a0 σ hT_ h0_ r hf
      have hf : f_X12_goOnAnd_o N (g_X12_law N d) a0 σ = some r := hf
      exact (t_X12_goOnAnd_o N hr_X12_unit a0 hT_ h0_ hf)
    · intro a0 σ hT_ h0_ r hf
      have hf : f_X12_goOnOr_o N (g_X12_law N d) a0 σ = some r := hf
      exact (t_X12_goOnOr_o N hr_X12_unit hr_X12_goOnAnd a0 hT_ h0_ hf)
    · intro a0 σ hT_ h0_ r hf
      have hf : f_X12_condition_o N (g_X12_law N d) a0 σ = some r := hf
      exact (t_X12_condition_o N hr_X12_unit hr_X12_goOnAnd hr_X12_goOnOr a0 hT_ h0_ hf)
    · intro a0 σ hT_ h0_ r hf
      have hf : f_X12_compare_o N (g_X12_law N d) a0 σ = some r := hf
      exact (t_X12_compare_o N hr_X12_sum a0 hT_ h0_ hf)
    · intro a0 σ hT_ h0_ r hf
      have hf : f_X12_sum_o N (g_X12_law N d) a0 σ = some r := hf
      exact (t_X12_sum_o N hr_X12_term a0 hT_ h0_ hf)
    · intro a0 σ hT_ h0_ r hf
      have hf : f_X12_term_o N (g_X12_law N d) a0 σ = some r := hf
      exact (t_X12_term_o N hr_X12_atom a0 hT_ h0_ hf)
    · intro a0 σ hT_ h0_ r hf
      have hf : f_X12_atom_o N (g_X12_law N d) a0 σ = some r := hf
      exact (t_X12_atom_o N hr_X12_sum a0 hT_ h0_ hf)

def dep_X12_law : Nat := 400
def f_X12_unit (N : Nat) (a0 : Nat) (σ : Sg) : Option Sg := g_X12_law N dep_X12_law 0 a0 σ
set_option maxHeartbeats 4000000 in
set_option maxRecDepth 100000 in
theorem t_X12_unit (N : Nat) (a0 : Nat) {σ : Sg} (hT_ : sg_T σ) (h0_ : is_A σ a0 11) {r : Sg} (hf : f_X12_unit N a0 σ = some r) : Ct yX12_unit cX12_unit 2 none 403 8461 0 0 [vr (some a0)] σ (fun r_ τ_ => (r_ = none) ∧ τ_ = r ∧ sg_T τ_ ∧ sg_E σ τ_) :=
  (c_X12_law N dep_X12_law).1 a0 σ hT_ h0_  r hf
def f_X12_goOnAnd (N : Nat) (a0 : Nat) (σ : Sg) : Option Sg := g_X12_law N dep_X12_law 1 a0 σ
set_option maxHeartbeats 4000000 in
set_option maxRecDepth 100000 in
theorem t_X12_goOnAnd (N : Nat) (a0 : Nat) {σ : Sg} (hT_ : sg_T σ) (h0_ : is_A σ a0 11) {r : Sg} (hf : f_X12_goOnAnd N a0 σ = some r) : Ct yX12_goOnAnd cX12_goOnAnd 1 none 403 8461 0 0 [vr (some a0)] σ (fun r_ τ_ => (r_ = none) ∧ τ_ = r ∧ sg_T τ_ ∧ sg_E σ τ_) :=
  (c_X12_law N dep_X12_law).2.1 a0 σ hT_ h0_  r hf
def f_X12_goOnOr (N : Nat) (a0 : Nat) (σ : Sg) : Option Sg := g_X12_law N dep_X12_law 2 a0 σ
set_option maxHeartbeats 4000000 in
set_option maxRecDepth 100000 in
theorem t_X12_goOnOr (N : Nat) (a0 : Nat) {σ : Sg} (hT_ : sg_T σ) (h0_ : is_A σ a0 11) {r : Sg} (hf : f_X12_goOnOr N a0 σ = some r) : Ct yX12_goOnOr cX12_goOnOr 1 none 403 8461 0 0 [vr (some a0)] σ (fun r_ τ_ => (r_ = none) ∧ τ_ = r ∧ sg_T τ_ ∧ sg_E σ τ_) :=
  (c_X12_law N dep_X12_law).2.2.1 a0 σ hT_ h0_  r hf
def f_X12_condition (N : Nat) (a0 : Nat) (σ : Sg) : Option Sg := g_X12_law N dep_X12_law 3 a0 σ
set_option maxHeartbeats 4000000 in
set_option maxRecDepth 100000 in
theorem t_X12_condition (N : Nat) (a0 : Nat) {σ : Sg} (hT_ : sg_T σ) (h0_ : is_A σ a0 11) {r : Sg} (hf : f_X12_condition N a0 σ = some r) : Ct yX12_condition cX12_condition 1 none 403 8461 0 0 [vr (some a0)] σ (fun r_ τ_ => (r_ = none) ∧ τ_ = r ∧ sg_T τ_ ∧ sg_E σ τ_) :=
  (c_X12_law N dep_X12_law).2.2.2.1 a0 σ hT_ h0_  r hf
def f_X12_compare (N : Nat) (a0 : Nat) (σ : Sg) : Option Sg := g_X12_law N dep_X12_law 4 a0 σ
set_option maxHeartbeats 4000000 in
set_option maxRecDepth 100000 in
theorem t_X12_compare (N : Nat) (a0 : Nat) {σ : Sg} (hT_ : sg_T σ) (h0_ : is_A σ a0 11) {r : Sg} (hf : f_X12_compare N a0 σ = some r) : Ct yX12_compare cX12_compare 2 none 403 8461 0 0 [vr (some a0)] σ (fun r_ τ_ => (r_ = none) ∧ τ_ = r ∧ sg_T τ_ ∧ sg_E σ τ_) :=
  (c_X12_law N dep_X12_law).2.2.2.2.1 a0 σ hT_ h0_  r hf
def f_X12_sum (N : Nat) (a0 : Nat) (σ : Sg) : Option Sg := g_X12_law N dep_X12_law 5 a0 σ
set_option maxHeartbeats 4000000 in
set_option maxRecDepth 100000 in
theorem t_X12_sum (N : Nat) (a0 : Nat) {σ : Sg} (hT_ : sg_T σ) (h0_ : is_A σ a0 11) {r : Sg} (hf : f_X12_sum N a0 σ = some r) : Ct yX12_sum cX12_sum 2 none 403 8461 0 0 [vr (some a0)] σ (fun r_ τ_ => (r_ = none) ∧ τ_ = r ∧ sg_T τ_ ∧ sg_E σ τ_) :=
  (c_X12_law N dep_X12_law).2.2.2.2.2.1 a0 σ hT_ h0_  r hf
def f_X12_term (N : Nat) (a0 : Nat) (σ : Sg) : Option Sg := g_X12_law N dep_X12_law 6 a0 σ
set_option maxHeartbeats 4000000 in
set_option maxRecDepth 100000 in
theorem t_X12_term (N : Nat) (a0 : Nat) {σ : Sg} (hT_ : sg_T σ) (h0_ : is_A σ a0 11) {r : Sg} (hf : f_X12_term N a0 σ = some r) : Ct yX12_term cX12_term 2 none 403 8461 0 0 [vr (some a0)] σ (fun r_ τ_ => (r_ = none) ∧ τ_ = r ∧ sg_T τ_ ∧ sg_E σ τ_) :=
  (c_X12_law N dep_X12_law).2.2.2.2.2.2.1 a0 σ hT_ h0_  r hf
def f_X12_atom (N : Nat) (a0 : Nat) (σ : Sg) : Option Sg := g_X12_law N dep_X12_law 7 a0 σ
set_option maxHeartbeats 4000000 in
set_option maxRecDepth 100000 in
theorem t_X12_atom (N : Nat) (a0 : Nat) {σ : Sg} (hT_ : sg_T σ) (h0_ : is_A σ a0 11) {r : Sg} (hf : f_X12_atom N a0 σ = some r) : Ct yX12_atom cX12_atom 2 none 403 8461 0 0 [vr (some a0)] σ (fun r_ τ_ => (r_ = none) ∧ τ_ = r ∧ sg_T τ_ ∧ sg_E σ τ_) :=
  (c_X12_law N dep_X12_law).2.2.2.2.2.2.2 a0 σ hT_ h0_  r hf
