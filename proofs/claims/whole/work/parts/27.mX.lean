def f_X11_kinds_B93 (N : Nat) (a0 : Nat) (s0 : Int32) (s1 : Int64) (σ : Sg) : Option Int32 :=
  if ((s0).toInt64) = 0 then none else
  some (((s1) / ((s0).toInt64)).toInt32)
def f_X11_kinds_B71 (N : Nat) (a0 : Nat) (k30 : Int32 → Int32 → Int32 → Int64 → Int32 → Option Int32) (v1 : Int32) (v2 : Int32) (v3 : Int32) (v6 : Int32) (s0 : Int64) (s1 : Int64) (σ : Sg) : Option Int32 :=
  k30 (v1) (v2) (v3) ((s1) + (s0)) (v6 + 1)
def f_X11_kinds_L30 (N : Nat) (a0 : Nat) : Nat → Int32 → Int32 → Int32 → Int64 → Int32 → Sg → Option Int32
  | 0, _, _, _, _, _, _ => none
  | n + 1, v1, v2, v3, v4, v6, σ =>
  if (v6) < (v1) then
  (Option.bind (f_X11_commonDivisor N (v6) (v1) ) fun p8 =>
  Option.bind (f_X11_power N (v2) (p8) ) fun p9 =>
  if (v3) = (0) then
  (f_X11_kinds_B71 N a0 (fun v1 v2 v3 v4 v6 => f_X11_kinds_L30 N a0 n v1 v2 v3 v4 v6 σ) (v1) (v2) (v3) (v6) (0) ((v4) + (p9)) σ)
  else
  (Option.bind (f_X11_pairsOver N (v6) (v1) ) fun p11 =>
  Option.bind (f_X11_power N (v2) (p11) ) fun p12 =>
  f_X11_kinds_B71 N a0 (fun v1 v2 v3 v4 v6 => f_X11_kinds_L30 N a0 n v1 v2 v3 v4 v6 σ) (v1) (v2) (v3) (v6) (p12) ((v4) + (p9)) σ))
  else
  (if (v3) = (0) then
  (f_X11_kinds_B93 N a0 (v1) (v4) σ)
  else
  (f_X11_kinds_B93 N a0 ((2) * (v1)) (v4) σ))
def f_X11_kinds (N : Nat) (a0 : Nat) (x1 : Int32) (x2 : Int32) (x3 : Int32) (σ : Sg) : Option Int32 :=
  if (x1) < (1) then
  (some ((-1)))
  else
  (if (12) < (x1) then
  (some ((-1)))
  else
  (if (x2) < (1) then
  (some ((-1)))
  else
  (if (6) < (x2) then
  (some ((-1)))
  else
  (f_X11_kinds_L30 N a0 N (x1) (x2) (x3) (0) (0) σ))))
set_option maxHeartbeats 4000000 in
set_option maxRecDepth 100000 in
theorem t_X11_kinds_B93 {N : Nat} {a0 : Nat} {Γ : Gm} {σ : Sg} {r : Int32} (C1 : CM Γ cX11_kinds RX11 7 (some .int) 3 66 0 0 (fun r_ τ_ => (r_ = some (vi r)) ∧ τ_ = σ)) (h0 : is_A σ a0 10) (s0 : Int32) (s1 : Int64) (hf : f_X11_kinds_B93 N a0  s0 s1 σ = some r) : J_ Γ 93 [(0, vr (some a0))] [vi (s0), vl (s1)] σ 0 0 := by
  have C0 := C1.1
  unfold f_X11_kinds_B93 at hf
  refine J_i2l (q := 94) C0 dX11_kinds_93 rfl ?_
  refine K_chk hf (fun c7 hf => ?_)
  refine J_ldiv (q := 95) C0 dX11_kinds_94 rfl c7 ?_
  refine J_l2i (q := 96) C0 dX11_kinds_95 rfl ?_
  obtain rfl := Option.some.inj hf; exact J_iret C1 dX11_kinds_96 rfl (Nat.zero_le _) (Nat.zero_le _) ⟨rfl, rfl⟩
set_option maxHeartbeats 4000000 in
set_option maxRecDepth 100000 in
theorem t_X11_kinds_B71 {N : Nat} {a0 : Nat} {Γ : Gm} {σ : Sg} {r : Int32} (C1 : CM Γ cX11_kinds RX11 7 (some .int) 3 66 0 0 (fun r_ τ_ => (r_ = some (vi r)) ∧ τ_ = σ)) (h0 : is_A σ a0 10) (k30 : Int32 → Int32 → Int32 → Int64 → Int32 → Option Int32) (hk30 : ∀ (v1 : Int32) (v2 : Int32) (v3 : Int32) (v4 : Int64) (v6 : Int32) , k30 v1 v2 v3 v4 v6 = some r → J_ Γ 30 [(0, vr (some a0)), (1, vi v1), (2, vi v2), (3, vi v3), (4, vl v4), (6, vi v6)] [] σ 0 0) (v1 : Int32) (v2 : Int32) (v3 : Int32) (v6 : Int32) (s0 : Int64) (s1 : Int64) (hf : f_X11_kinds_B71 N a0 k30  v1 v2 v3 v6 s0 s1 σ = some r) : J_ Γ 71 [(0, vr (some a0)), (1, vi (v1)), (2, vi (v2)), (3, vi (v3)), (6, vi (v6))] [vl (s0), vl (s1)] σ 0 0 := by
  have C0 := C1.1
  unfold f_X11_kinds_B71 at hf
  refine J_ladd (q := 72) C0 dX11_kinds_71 rfl ?_
  refine J_lstore (q := 74) (lv' := [(4, vl ((s1) + (s0))), (0, vr (some a0)), (1, vi (v1)), (2, vi (v2)), (3, vi (v3)), (6, vi (v6))]) C0 (G_nl C1 (by decide)) dX11_kinds_72 rfl rfl ?_
  refine J_iinc (q := 77) (v := v6 + 1) (lv' := [(6, vi (v6 + 1)), (4, vl ((s1) + (s0))), (0, vr (some a0)), (1, vi (v1)), (2, vi (v2)), (3, vi (v3))]) C0 5 rfl rfl (G_nl C1 (by decide)) dX11_kinds_74 rfl rfl ?_
  refine J_goto (q := 30) C0 dX11_kinds_77 (by decide) ?_
  refine J_sub (lv' := [(0, vr (some a0)), (1, vi (v1)), (2, vi (v2)), (3, vi (v3)), (4, vl ((s1) + (s0))), (6, vi (v6 + 1))]) [2, 3, 4, 5, 1, 0] rfl ?_
  exact hk30 (v1) (v2) (v3) ((s1) + (s0)) (v6 + 1)  hf
set_option maxHeartbeats 4000000 in
set_option maxRecDepth 100000 in
theorem t_X11_kinds_L30 {N : Nat} {a0 : Nat} {Γ : Gm} {σ : Sg} {r : Int32} (C1 : CM Γ cX11_kinds RX11 7 (some .int) 3 66 0 0 (fun r_ τ_ => (r_ = some (vi r)) ∧ τ_ = σ)) (h0 : is_A σ a0 10) : ∀ (n : Nat) (v1 : Int32) (v2 : Int32) (v3 : Int32) (v4 : Int64) (v6 : Int32), f_X11_kinds_L30 N a0  n v1 v2 v3 v4 v6 σ = some r → J_ Γ 30 [(0, vr (some a0)), (1, vi (v1)), (2, vi (v2)), (3, vi (v3)), (4, vl (v4)), (6, vi (v6))] [] σ 0 0 := by
  have C0 := C1.1
  intro n
  induction n with
  | zero => intro v1 v2 v3 v4 v6  hf; unfold f_X11_kinds_L30 at hf; cases hf
  | succ n ih =>
    intro v1 v2 v3 v4 v6  hf
    rw [f_X11_kinds_L30] at hf
    refine J_iload (q := 32) C0 5 rfl dX11_kinds_30 rfl ?_
    refine J_iload_n (q := 33) C0 1 rfl rfl dX11_kinds_32 rfl ?_
    refine J_icmp_ge (t := 80) (q := 36) C0 dX11_kinds_33 (by decide) rfl hf (fun c5 hf => ?_) (fun c5 hf => ?_)
    · refine J_lload (q := 82) C0 4 rfl dX11_kinds_80 rfl ?_
      refine J_iload_n (q := 83) C0 3 rfl rfl dX11_kinds_82 rfl ?_
      refine J_if_eq (t := 92) (q := 86) C0 dX11_kinds_83 (by decide) rfl hf (fun c6 hf => ?_) (fun c6 hf => ?_)
      · refine J_iload_n (q := 93) C0 1 rfl rfl dX11_kinds_92 rfl ?_
        refine J_sub (lv' := [(0, vr (some a0))]) [0] rfl ?_
        exact t_X11_kinds_B93 C1 (h0)   (v1) (v4)  hf
      · refine J_iconst (q := 87) (v := 2) C0 dX11_kinds_86 rfl rfl ?_
        refine J_iload_n (q := 88) C0 1 rfl rfl dX11_kinds_87 rfl ?_
        refine J_imul (q := 89) C0 dX11_kinds_88 rfl ?_
        refine J_goto (q := 93) C0 dX11_kinds_89 (by decide) ?_
        refine J_sub (lv' := [(0, vr (some a0))]) [0] rfl ?_
        exact t_X11_kinds_B93 C1 (h0)   ((2) * (v1)) (v4)  hf
    · refine J_lload (q := 38) C0 4 rfl dX11_kinds_36 rfl ?_
      refine J_iload_n (q := 39) C0 2 rfl rfl dX11_kinds_38 rfl ?_
      refine J_iload (q := 41) C0 5 rfl dX11_kinds_39 rfl ?_
      refine J_iload_n (q := 42) C0 1 rfl rfl dX11_kinds_41 rfl ?_
      refine K_some hf (fun p8 hp8 hf => ?_)
      refine J_callS (q := 45) (as := [vi (v6), vi (v1)]) (rest := [vi (v2), vl (v4)]) C0 (t_X11_commonDivisor N (v6) (v1)  hp8) ml_X11_commonDivisor lk_X11_330 sm_X11_commonDivisor dX11_kinds_42 rfl rfl rfl (by simp [ac_]) C1.room (by decide) (by decide) (by decide) (by decide) (fun r_ τ_ hQ => ?_)
      obtain ⟨rfl, ht_⟩ := hQ; have ht_ := ht_.symm; subst ht_
      show J_ Γ 45 [(0, vr (some a0)), (1, vi (v1)), (2, vi (v2)), (3, vi (v3)), (4, vl (v4)), (6, vi (v6))] [vi (p8), vi (v2), vl (v4)] σ 0 0
      refine K_some hf (fun p9 hp9 hf => ?_)
      refine J_callS (q := 48) (as := [vi (v2), vi (p8)]) (rest := [vl (v4)]) C0 (t_X11_power N (v2) (p8)  hp9) ml_X11_power lk_X11_333 sm_X11_power dX11_kinds_45 rfl rfl rfl (by simp [ac_]) C1.room (by decide) (by decide) (by decide) (by decide) (fun r_ τ_ hQ => ?_)
      obtain ⟨rfl, ht_⟩ := hQ; have ht_ := ht_.symm; subst ht_
      show J_ Γ 48 [(0, vr (some a0)), (1, vi (v1)), (2, vi (v2)), (3, vi (v3)), (4, vl (v4)), (6, vi (v6))] [vl (p9), vl (v4)] σ 0 0
      refine J_ladd (q := 49) C0 dX11_kinds_48 rfl ?_
      refine J_lstore (q := 51) (lv' := [(4, vl ((v4) + (p9))), (0, vr (some a0)), (1, vi (v1)), (2, vi (v2)), (3, vi (v3)), (6, vi (v6))]) C0 (G_nl C1 (by decide)) dX11_kinds_49 rfl rfl ?_
      refine J_lload (q := 53) C0 0 rfl dX11_kinds_51 rfl ?_
      refine J_iload_n (q := 54) C0 4 rfl rfl dX11_kinds_53 rfl ?_
      refine J_if_eq (t := 70) (q := 57) C0 dX11_kinds_54 (by decide) rfl hf (fun c10 hf => ?_) (fun c10 hf => ?_)
      · refine J_lconst (q := 71) (v := 0) C0 dX11_kinds_70 rfl rfl ?_
        refine J_sub (lv' := [(0, vr (some a0)), (1, vi (v1)), (2, vi (v2)), (3, vi (v3)), (6, vi (v6))]) [1, 2, 3, 4, 5] rfl ?_
        exact t_X11_kinds_B71 C1 (h0) (fun v1 v2 v3 v4 v6 => f_X11_kinds_L30 N a0 n v1 v2 v3 v4 v6 σ)  ih  (v1) (v2) (v3) (v6) (0) ((v4) + (p9))  hf
      · refine J_iload_n (q := 58) C0 3 rfl rfl dX11_kinds_57 rfl ?_
        refine J_iload (q := 60) C0 5 rfl dX11_kinds_58 rfl ?_
        refine J_iload_n (q := 61) C0 2 rfl rfl dX11_kinds_60 rfl ?_
        refine K_some hf (fun p11 hp11 hf => ?_)
        refine J_callS (q := 64) (as := [vi (v6), vi (v1)]) (rest := [vi (v2), vl ((v4) + (p9))]) C0 (t_X11_pairsOver N (v6) (v1)  hp11) ml_X11_pairsOver lk_X11_337 sm_X11_pairsOver dX11_kinds_61 rfl rfl rfl (by simp [ac_]) C1.room (by decide) (by decide) (by decide) (by decide) (fun r_ τ_ hQ => ?_)
        obtain ⟨rfl, ht_⟩ := hQ; have ht_ := ht_.symm; subst ht_
        show J_ Γ 64 [(4, vl ((v4) + (p9))), (0, vr (some a0)), (1, vi (v1)), (2, vi (v2)), (3, vi (v3)), (6, vi (v6))] [vi (p11), vi (v2), vl ((v4) + (p9))] σ 0 0
        refine K_some hf (fun p12 hp12 hf => ?_)
        refine J_callS (q := 67) (as := [vi (v2), vi (p11)]) (rest := [vl ((v4) + (p9))]) C0 (t_X11_power N (v2) (p11)  hp12) ml_X11_power lk_X11_333 sm_X11_power dX11_kinds_64 rfl rfl rfl (by simp [ac_]) C1.room (by decide) (by decide) (by decide) (by decide) (fun r_ τ_ hQ => ?_)
        obtain ⟨rfl, ht_⟩ := hQ; have ht_ := ht_.symm; subst ht_
        show J_ Γ 67 [(4, vl ((v4) + (p9))), (0, vr (some a0)), (1, vi (v1)), (2, vi (v2)), (3, vi (v3)), (6, vi (v6))] [vl (p12), vl ((v4) + (p9))] σ 0 0
        refine J_goto (q := 71) C0 dX11_kinds_67 (by decide) ?_
        refine J_sub (lv' := [(0, vr (some a0)), (1, vi (v1)), (2, vi (v2)), (3, vi (v3)), (6, vi (v6))]) [1, 2, 3, 4, 5] rfl ?_
        exact t_X11_kinds_B71 C1 (h0) (fun v1 v2 v3 v4 v6 => f_X11_kinds_L30 N a0 n v1 v2 v3 v4 v6 σ)  ih  (v1) (v2) (v3) (v6) (p12) ((v4) + (p9))  hf
set_option maxHeartbeats 4000000 in
set_option maxRecDepth 100000 in
theorem t_X11_kinds (N : Nat) (a0 : Nat) (x1 : Int32) (x2 : Int32) (x3 : Int32) {σ : Sg} (h0 : is_A σ a0 10) {r : Int32} (hf : f_X11_kinds N a0 x1 x2 x3 σ = some r) : Ct yX11_kinds cX11_kinds 7 (some .int) 3 66 0 0 [vr (some a0), vi x1, vi x2, vi x3] σ (fun r_ τ_ => (r_ = some (vi r)) ∧ τ_ = σ) := by
  refine Ct.of (by decide +kernel) (Nat.le_of_ble_eq_true rfl) (fun Γ C1 => ?_)
  have C0 := C1.1
  unfold f_X11_kinds at hf
  show J_ Γ 0 [(0, vr (some a0)), (1, vi (x1)), (2, vi (x2)), (3, vi (x3))] [] σ 0 0
  refine J_iload_n (q := 1) C0 1 rfl rfl dX11_kinds_0 rfl ?_
  refine J_iconst (q := 2) (v := 1) C0 dX11_kinds_1 rfl rfl ?_
  refine J_icmp_lt (t := 22) (q := 5) C0 dX11_kinds_2 (by decide) rfl hf (fun c1 hf => ?_) (fun c1 hf => ?_)
  · refine J_iconst (q := 23) (v := (-1)) C0 dX11_kinds_22 rfl rfl ?_
    obtain rfl := Option.some.inj hf; exact J_iret C1 dX11_kinds_23 rfl (Nat.zero_le _) (Nat.zero_le _) ⟨rfl, rfl⟩
  · refine J_iload_n (q := 6) C0 1 rfl rfl dX11_kinds_5 rfl ?_
    refine J_bipush (q := 8) (v := 12) C0 dX11_kinds_6 rfl rfl ?_
    refine J_icmp_gt (t := 22) (q := 11) C0 dX11_kinds_8 (by decide) rfl hf (fun c2 hf => ?_) (fun c2 hf => ?_)
    · refine J_iconst (q := 23) (v := (-1)) C0 dX11_kinds_22 rfl rfl ?_
      obtain rfl := Option.some.inj hf; exact J_iret C1 dX11_kinds_23 rfl (Nat.zero_le _) (Nat.zero_le _) ⟨rfl, rfl⟩
    · refine J_iload_n (q := 12) C0 2 rfl rfl dX11_kinds_11 rfl ?_
      refine J_iconst (q := 13) (v := 1) C0 dX11_kinds_12 rfl rfl ?_
      refine J_icmp_lt (t := 22) (q := 16) C0 dX11_kinds_13 (by decide) rfl hf (fun c3 hf => ?_) (fun c3 hf => ?_)
      · refine J_iconst (q := 23) (v := (-1)) C0 dX11_kinds_22 rfl rfl ?_
        obtain rfl := Option.some.inj hf; exact J_iret C1 dX11_kinds_23 rfl (Nat.zero_le _) (Nat.zero_le _) ⟨rfl, rfl⟩
      · refine J_iload_n (q := 17) C0 2 rfl rfl dX11_kinds_16 rfl ?_
        refine J_bipush (q := 19) (v := 6) C0 dX11_kinds_17 rfl rfl ?_
        refine J_icmp_le (t := 24) (q := 22) C0 dX11_kinds_19 (by decide) rfl hf (fun c4 hf => ?_) (fun c4 hf => ?_)
        · refine J_lconst (q := 25) (v := 0) C0 dX11_kinds_24 rfl rfl ?_
          refine J_lstore (q := 27) (lv' := [(4, vl (0)), (0, vr (some a0)), (1, vi (x1)), (2, vi (x2)), (3, vi (x3))]) C0 (G_nl C1 (by decide)) dX11_kinds_25 rfl rfl ?_
          refine J_iconst (q := 28) (v := 0) C0 dX11_kinds_27 rfl rfl ?_
          refine J_istore (q := 30) (lv' := [(6, vi (0)), (4, vl (0)), (0, vr (some a0)), (1, vi (x1)), (2, vi (x2)), (3, vi (x3))]) C0 (G_nl C1 (by decide)) dX11_kinds_28 rfl rfl ?_
          refine J_sub (lv' := [(0, vr (some a0)), (1, vi (x1)), (2, vi (x2)), (3, vi (x3)), (4, vl (0)), (6, vi (0))]) [2, 3, 4, 5, 1, 0] rfl ?_
          exact t_X11_kinds_L30 C1 (h0)    N (x1) (x2) (x3) (0) (0)  hf
        · refine J_iconst (q := 23) (v := (-1)) C0 dX11_kinds_22 rfl rfl ?_
          obtain rfl := Option.some.inj hf; exact J_iret C1 dX11_kinds_23 rfl (Nat.zero_le _) (Nat.zero_le _) ⟨rfl, rfl⟩
def f_X11_noted (a0 : Nat) (x1 : Int32) (x2 : Int32) (x3 : Int32) (σ : Sg) : Option (Int32 × Sg) :=
  if (x1) < (0) then
  (some ((-1), σ))
  else
  (if (99) < (x1) then
  (some ((-1), σ))
  else
  (if (x2) < (0) then
  (some ((-1), σ))
  else
  (if (26) < (x2) then
  (some ((-1), σ))
  else
  (Option.bind (sg_R σ a0 17) fun b5 =>
  Option.bind (f_X4_add b5 (x1) (x2) (x3) σ) fun p6 =>
  some (p6.1, p6.2)))))
set_option maxHeartbeats 4000000 in
set_option maxRecDepth 100000 in
theorem t_X11_noted (a0 : Nat) (x1 : Int32) (x2 : Int32) (x3 : Int32) {σ : Sg} (hT : sg_T σ) (h0 : is_A σ a0 10) {r : (Int32 × Sg)} (hf : f_X11_noted a0 x1 x2 x3 σ = some r) : Ct yX11_noted cX11_noted 4 (some .int) 1 23 0 0 [vr (some a0), vi x1, vi x2, vi x3] σ (fun r_ τ_ => (r_ = some (vi r.1)) ∧ τ_ = r.2 ∧ sg_T τ_ ∧ sg_E σ τ_) := by
  refine Ct.of (by decide +kernel) (Nat.le_of_ble_eq_true rfl) (fun Γ C1 => ?_)
  have C0 := C1.1
  have hE : sg_E σ σ := sg_E.rf
  unfold f_X11_noted at hf
  show J_ Γ 0 [(0, vr (some a0)), (1, vi (x1)), (2, vi (x2)), (3, vi (x3))] [] σ 0 0
  refine J_iload_n (q := 1) C0 1 rfl rfl dX11_noted_0 rfl ?_
  refine J_if_lt (t := 20) (q := 4) C0 dX11_noted_1 (by decide) rfl hf (fun c1 hf => ?_) (fun c1 hf => ?_)
  · refine J_iconst (q := 21) (v := (-1)) C0 dX11_noted_20 rfl rfl ?_
    obtain rfl := Option.some.inj hf; exact J_iret C1 dX11_noted_21 rfl (Nat.zero_le _) (Nat.zero_le _) ⟨rfl, rfl, hT, hE⟩
  · refine J_iload_n (q := 5) C0 1 rfl rfl dX11_noted_4 rfl ?_
    refine J_bipush (q := 7) (v := 99) C0 dX11_noted_5 rfl rfl ?_
    refine J_icmp_gt (t := 20) (q := 10) C0 dX11_noted_7 (by decide) rfl hf (fun c2 hf => ?_) (fun c2 hf => ?_)
    · refine J_iconst (q := 21) (v := (-1)) C0 dX11_noted_20 rfl rfl ?_
      obtain rfl := Option.some.inj hf; exact J_iret C1 dX11_noted_21 rfl (Nat.zero_le _) (Nat.zero_le _) ⟨rfl, rfl, hT, hE⟩
    · refine J_iload_n (q := 11) C0 2 rfl rfl dX11_noted_10 rfl ?_
      refine J_if_lt (t := 20) (q := 14) C0 dX11_noted_11 (by decide) rfl hf (fun c3 hf => ?_) (fun c3 hf => ?_)
      · refine J_iconst (q := 21) (v := (-1)) C0 dX11_noted_20 rfl rfl ?_
        obtain rfl := Option.some.inj hf; exact J_iret C1 dX11_noted_21 rfl (Nat.zero_le _) (Nat.zero_le _) ⟨rfl, rfl, hT, hE⟩
      · refine J_iload_n (q := 15) C0 2 rfl rfl dX11_noted_14 rfl ?_
        refine J_bipush (q := 17) (v := 26) C0 dX11_noted_15 rfl rfl ?_
        refine J_icmp_le (t := 22) (q := 20) C0 dX11_noted_17 (by decide) rfl hf (fun c4 hf => ?_) (fun c4 hf => ?_)
        · refine J_aload_n (q := 23) C0 0 rfl rfl dX11_noted_22 rfl trivial ?_
          refine J_getR (q := 26) C0 fl_X11_96_10 rfl (h0) rfl dX11_noted_23 rfl ?_
          refine J_iload_n (q := 27) C0 1 rfl rfl dX11_noted_26 rfl ?_
          refine J_iload_n (q := 28) C0 2 rfl rfl dX11_noted_27 rfl ?_
          refine J_iload_n (q := 29) C0 3 rfl rfl dX11_noted_28 rfl ?_
          refine K_some hf (fun b5 hb5 hf => ?_)
          have ab5 : is_A σ b5 4 := ((sg_T.op hT (j := 17) (h0) rfl)) b5 hb5
          refine K_some hf (fun p6 hp6 hf => ?_)
          refine J_callV (q := 32) (ci := 4) (as := [vi (x1), vi (x2), vi (x3)]) (rest := []) C0 hb5 (ab5) (t_X4_add b5 (x1) (x2) (x3) (hT) (ab5)  hp6) ml_X4_add lk_X11_340 im_X4_add se_X4_add rfl (by decide) dX11_noted_29 rfl rfl rfl (by simp [ac_]) C1.room (by decide) (by decide) (by decide) (by decide) (fun r_ τ_ hQ => ?_)
          obtain ⟨rfl, rfl, Tp6, Ep6⟩ := hQ
          show J_ Γ 32 [(0, vr (some a0)), (1, vi (x1)), (2, vi (x2)), (3, vi (x3))] [vi (p6.1)] p6.2 0 0
          obtain rfl := Option.some.inj hf; exact J_iret C1 dX11_noted_32 rfl (Nat.zero_le _) (Nat.zero_le _) ⟨rfl, rfl, Tp6, (hE).tr Ep6⟩
        · refine J_iconst (q := 21) (v := (-1)) C0 dX11_noted_20 rfl rfl ?_
          obtain rfl := Option.some.inj hf; exact J_iret C1 dX11_noted_21 rfl (Nat.zero_le _) (Nat.zero_le _) ⟨rfl, rfl, hT, hE⟩
def f_X11_fits (N : Nat) (a0 : Nat) (x1 : Int32) (σ : Sg) : Option (Int32 × Sg) :=
  Option.bind (sg_R σ a0 17) fun b1 =>
  Option.bind (f_X4_find N b1 (sg_R σ a0 8) σ) fun p2 =>
  if (x1) = ((-1)) then
  (Option.bind (sg_R p2 a0 17) fun b6 =>
  some (sg_I p2 b6 5, p2))
  else
  (Option.bind (sg_R p2 a0 17) fun b4 =>
  Option.bind (f_X4_foundAt b4 (x1) p2) fun p5 =>
  some (p5, p2))
set_option maxHeartbeats 4000000 in
set_option maxRecDepth 100000 in
theorem t_X11_fits (N : Nat) (a0 : Nat) (x1 : Int32) {σ : Sg} (hT : sg_T σ) (h0 : is_A σ a0 10) {r : (Int32 × Sg)} (hf : f_X11_fits N a0 x1 σ = some r) : Ct yX11_fits cX11_fits 2 (some .int) 5 113 0 0 [vr (some a0), vi x1] σ (fun r_ τ_ => (r_ = some (vi r.1)) ∧ τ_ = r.2 ∧ sg_T τ_ ∧ sg_E σ τ_) := by
  refine Ct.of (by decide +kernel) (Nat.le_of_ble_eq_true rfl) (fun Γ C1 => ?_)
  have C0 := C1.1
  have hE : sg_E σ σ := sg_E.rf
  unfold f_X11_fits at hf
  show J_ Γ 0 [(0, vr (some a0)), (1, vi (x1))] [] σ 0 0
  refine J_aload_n (q := 1) C0 0 rfl rfl dX11_fits_0 rfl trivial ?_
  refine J_getR (q := 4) C0 fl_X11_96_10 rfl (h0) rfl dX11_fits_1 rfl ?_
  refine J_aload_n (q := 5) C0 0 rfl rfl dX11_fits_4 rfl trivial ?_
  refine J_getR (q := 8) C0 fl_X11_52_10 rfl (h0) rfl dX11_fits_5 rfl ?_
  refine K_some hf (fun b1 hb1 hf => ?_)
  have ab1 : is_A σ b1 4 := ((sg_T.op hT (j := 17) (h0) rfl)) b1 hb1
  refine K_some hf (fun p2 hp2 hf => ?_)
  refine J_callV (q := 11) (ci := 4) (as := [vr (sg_R σ a0 8)]) (rest := []) C0 hb1 (ab1) (t_X4_find N b1 (sg_R σ a0 8) (hT) (ab1) ((sg_T.op hT (j := 8) (h0) rfl)) hp2) ml_X4_find lk_X11_344 im_X4_find se_X4_find rfl (by decide) dX11_fits_8 rfl rfl rfl (by simp [ac_]) C1.room (by decide) (by decide) (by decide) (by decide) (fun r_ τ_ hQ => ?_)
  obtain ⟨rfl, ht_, Tp2, Ep2⟩ := hQ; have ht_ := ht_.symm; subst ht_
  show J_ Γ 11 [(0, vr (some a0)), (1, vi (x1))] [] p2 0 0
  refine J_iload_n (q := 12) C0 1 rfl rfl dX11_fits_11 rfl ?_
  refine J_iconst (q := 13) (v := (-1)) C0 dX11_fits_12 rfl rfl ?_
  refine J_icmp_ne (t := 26) (q := 16) C0 dX11_fits_13 (by decide) rfl hf (fun c3 hf => ?_) (fun c3 hf => ?_)
  · refine J_aload_n (q := 27) C0 0 rfl rfl dX11_fits_26 rfl trivial ?_
    refine J_getR (q := 30) C0 fl_X11_96_10 rfl ((Ep2.at h0)) rfl dX11_fits_27 rfl ?_
    refine J_iload_n (q := 31) C0 1 rfl rfl dX11_fits_30 rfl ?_
    refine K_some hf (fun b4 hb4 hf => ?_)
    have ab4 : is_A p2 b4 4 := ((sg_T.op Tp2 (j := 17) ((Ep2.at h0)) rfl)) b4 hb4
    refine K_some hf (fun p5 hp5 hf => ?_)
    refine J_callV (q := 34) (ci := 4) (as := [vi (x1)]) (rest := []) C0 hb4 (ab4) (t_X4_foundAt b4 (x1) (Tp2) (ab4)  hp5) ml_X4_foundAt lk_X11_351 im_X4_foundAt se_X4_foundAt rfl (by decide) dX11_fits_31 rfl rfl rfl (by simp [ac_]) C1.room (by decide) (by decide) (by decide) (by decide) (fun r_ τ_ hQ => ?_)
    obtain ⟨rfl, ht_⟩ := hQ; have ht_ := ht_.symm; subst ht_
    show J_ Γ 34 [(0, vr (some a0)), (1, vi (x1))] [vi (p5)] p2 0 0
    obtain rfl := Option.some.inj hf; exact J_iret C1 dX11_fits_34 rfl (Nat.zero_le _) (Nat.zero_le _) ⟨rfl, rfl, Tp2, (hE).tr Ep2⟩
  · refine J_aload_n (q := 17) C0 0 rfl rfl dX11_fits_16 rfl trivial ?_
    refine J_getR (q := 20) C0 fl_X11_96_10 rfl ((Ep2.at h0)) rfl dX11_fits_17 rfl ?_
    refine K_some hf (fun b6 hb6 hf => ?_)
    have ab6 : is_A p2 b6 4 := ((sg_T.op Tp2 (j := 17) ((Ep2.at h0)) rfl)) b6 hb6
    refine J_getI (q := 23) C0 fl_X11_348_4 hb6 (ab6) rfl dX11_fits_20 rfl ?_
    refine J_goto (q := 34) C0 dX11_fits_23 (by decide) ?_
    obtain rfl := Option.some.inj hf; exact J_iret C1 dX11_fits_34 rfl (Nat.zero_le _) (Nat.zero_le _) ⟨rfl, rfl, Tp2, (hE).tr Ep2⟩
def f_X11_ask (N : Nat) (a0 : Nat) (σ : Sg) : Option (Int32 × Sg) :=
  Option.bind (sg_R σ a0 17) fun b1 =>
  Option.bind (f_X4_find N b1 (sg_R σ a0 8) σ) fun p2 =>
  Option.bind (sg_R p2 a0 17) fun b3 =>
  Option.bind (f_X4_bestTick N b3 (sg_R p2 a0 8) p2) fun p4 =>
  some (p4.1, p4.2)
set_option maxHeartbeats 4000000 in
set_option maxRecDepth 100000 in
theorem t_X11_ask (N : Nat) (a0 : Nat) {σ : Sg} (hT : sg_T σ) (h0 : is_A σ a0 10) {r : (Int32 × Sg)} (hf : f_X11_ask N a0  σ = some r) : Ct yX11_ask cX11_ask 1 (some .int) 5 117 0 0 [vr (some a0)] σ (fun r_ τ_ => (r_ = some (vi r.1)) ∧ τ_ = r.2 ∧ sg_T τ_ ∧ sg_E σ τ_) := by
  refine Ct.of (by decide +kernel) (Nat.le_of_ble_eq_true rfl) (fun Γ C1 => ?_)
  have C0 := C1.1
  have hE : sg_E σ σ := sg_E.rf
  unfold f_X11_ask at hf
  show J_ Γ 0 [(0, vr (some a0))] [] σ 0 0
  refine J_aload_n (q := 1) C0 0 rfl rfl dX11_ask_0 rfl trivial ?_
  refine J_getR (q := 4) C0 fl_X11_96_10 rfl (h0) rfl dX11_ask_1 rfl ?_
  refine J_aload_n (q := 5) C0 0 rfl rfl dX11_ask_4 rfl trivial ?_
  refine J_getR (q := 8) C0 fl_X11_52_10 rfl (h0) rfl dX11_ask_5 rfl ?_
  refine K_some hf (fun b1 hb1 hf => ?_)
  have ab1 : is_A σ b1 4 := ((sg_T.op hT (j := 17) (h0) rfl)) b1 hb1
  refine K_some hf (fun p2 hp2 hf => ?_)
  refine J_callV (q := 11) (ci := 4) (as := [vr (sg_R σ a0 8)]) (rest := []) C0 hb1 (ab1) (t_X4_find N b1 (sg_R σ a0 8) (hT) (ab1) ((sg_T.op hT (j := 8) (h0) rfl)) hp2) ml_X4_find lk_X11_344 im_X4_find se_X4_find rfl (by decide) dX11_ask_8 rfl rfl rfl (by simp [ac_]) C1.room (by decide) (by decide) (by decide) (by decide) (fun r_ τ_ hQ => ?_)
  obtain ⟨rfl, ht_, Tp2, Ep2⟩ := hQ; have ht_ := ht_.symm; subst ht_
  show J_ Γ 11 [(0, vr (some a0))] [] p2 0 0
  refine J_aload_n (q := 12) C0 0 rfl rfl dX11_ask_11 rfl trivial ?_
  refine J_getR (q := 15) C0 fl_X11_96_10 rfl ((Ep2.at h0)) rfl dX11_ask_12 rfl ?_
  refine J_aload_n (q := 16) C0 0 rfl rfl dX11_ask_15 rfl trivial ?_
  refine J_getR (q := 19) C0 fl_X11_52_10 rfl ((Ep2.at h0)) rfl dX11_ask_16 rfl ?_
  refine K_some hf (fun b3 hb3 hf => ?_)
  have ab3 : is_A p2 b3 4 := ((sg_T.op Tp2 (j := 17) ((Ep2.at h0)) rfl)) b3 hb3
  refine K_some hf (fun p4 hp4 hf => ?_)
  refine J_callV (q := 22) (ci := 4) (as := [vr (sg_R p2 a0 8)]) (rest := []) C0 hb3 (ab3) (t_X4_bestTick N b3 (sg_R p2 a0 8) (Tp2) (ab3) ((sg_T.op Tp2 (j := 8) ((Ep2.at h0)) rfl)) hp4) ml_X4_bestTick lk_X11_354 im_X4_bestTick se_X4_bestTick rfl (by decide) dX11_ask_19 rfl rfl rfl (by simp [ac_]) C1.room (by decide) (by decide) (by decide) (by decide) (fun r_ τ_ hQ => ?_)
  obtain ⟨rfl, rfl, Tp4, Ep4⟩ := hQ
  show J_ Γ 22 [(0, vr (some a0))] [vi (p4.1)] p4.2 0 0
  obtain rfl := Option.some.inj hf; exact J_iret C1 dX11_ask_22 rfl (Nat.zero_le _) (Nat.zero_le _) ⟨rfl, rfl, Tp4, ((hE).tr Ep2).tr Ep4⟩
def f_X11_withoutBlank (x0 : Int32) : Option Int32 :=
  some ((x0) &&& (67108863))
set_option maxHeartbeats 4000000 in
set_option maxRecDepth 100000 in
theorem t_X11_withoutBlank (x0 : Int32) {σ : Sg} {r : Int32} (hf : f_X11_withoutBlank x0 = some r) : Ct yX11_withoutBlank cX11_withoutBlank 1 (some .int) 0 0 0 0 [vi x0] σ (fun r_ τ_ => (r_ = some (vi r)) ∧ τ_ = σ) := by
  refine Ct.of (by decide +kernel) (Nat.le_of_ble_eq_true rfl) (fun Γ C1 => ?_)
  have C0 := C1.1
  unfold f_X11_withoutBlank at hf
  show J_ Γ 0 [(0, vi (x0))] [] σ 0 0
  refine J_iload_n (q := 1) C0 0 rfl rfl dX11_withoutBlank_0 rfl ?_
  refine J_ldc_w (q := 4) C0 kc_X11_381 dX11_withoutBlank_1 rfl ?_
  refine J_iand (q := 5) C0 dX11_withoutBlank_4 rfl ?_
  obtain rfl := Option.some.inj hf; exact J_iret C1 dX11_withoutBlank_5 rfl (Nat.zero_le _) (Nat.zero_le _) ⟨rfl, rfl⟩
def f_J6_bitCount_0f7a4 (x0 : Int32) : Option Int32 :=
  some (((((((((x0) - ((((x0).toUInt32 >>> ((1 : Int32).toUInt32 &&& Int32.toUInt32 31)).toInt32) &&& (1431655765))) &&& (858993459)) + (((((x0) - ((((x0).toUInt32 >>> ((1 : Int32).toUInt32 &&& Int32.toUInt32 31)).toInt32) &&& (1431655765))).toUInt32 >>> ((2 : Int32).toUInt32 &&& Int32.toUInt32 31)).toInt32) &&& (858993459))) + ((((((x0) - ((((x0).toUInt32 >>> ((1 : Int32).toUInt32 &&& Int32.toUInt32 31)).toInt32) &&& (1431655765))) &&& (858993459)) + (((((x0) - ((((x0).toUInt32 >>> ((1 : Int32).toUInt32 &&& Int32.toUInt32 31)).toInt32) &&& (1431655765))).toUInt32 >>> ((2 : Int32).toUInt32 &&& Int32.toUInt32 31)).toInt32) &&& (858993459))).toUInt32 >>> ((4 : Int32).toUInt32 &&& Int32.toUInt32 31)).toInt32)) &&& (252645135)) + ((((((((x0) - ((((x0).toUInt32 >>> ((1 : Int32).toUInt32 &&& Int32.toUInt32 31)).toInt32) &&& (1431655765))) &&& (858993459)) + (((((x0) - ((((x0).toUInt32 >>> ((1 : Int32).toUInt32 &&& Int32.toUInt32 31)).toInt32) &&& (1431655765))).toUInt32 >>> ((2 : Int32).toUInt32 &&& Int32.toUInt32 31)).toInt32) &&& (858993459))) + ((((((x0) - ((((x0).toUInt32 >>> ((1 : Int32).toUInt32 &&& Int32.toUInt32 31)).toInt32) &&& (1431655765))) &&& (858993459)) + (((((x0) - ((((x0).toUInt32 >>> ((1 : Int32).toUInt32 &&& Int32.toUInt32 31)).toInt32) &&& (1431655765))).toUInt32 >>> ((2 : Int32).toUInt32 &&& Int32.toUInt32 31)).toInt32) &&& (858993459))).toUInt32 >>> ((4 : Int32).toUInt32 &&& Int32.toUInt32 31)).toInt32)) &&& (252645135)).toUInt32 >>> ((8 : Int32).toUInt32 &&& Int32.toUInt32 31)).toInt32)) + (((((((((x0) - ((((x0).toUInt32 >>> ((1 : Int32).toUInt32 &&& Int32.toUInt32 31)).toInt32) &&& (1431655765))) &&& (858993459)) + (((((x0) - ((((x0).toUInt32 >>> ((1 : Int32).toUInt32 &&& Int32.toUInt32 31)).toInt32) &&& (1431655765))).toUInt32 >>> ((2 : Int32).toUInt32 &&& Int32.toUInt32 31)).toInt32) &&& (858993459))) + ((((((x0) - ((((x0).toUInt32 >>> ((1 : Int32).toUInt32 &&& Int32.toUInt32 31)).toInt32) &&& (1431655765))) &&& (858993459)) + (((((x0) - ((((x0).toUInt32 >>> ((1 : Int32).toUInt32 &&& Int32.toUInt32 31)).toInt32) &&& (1431655765))).toUInt32 >>> ((2 : Int32).toUInt32 &&& Int32.toUInt32 31)).toInt32) &&& (858993459))).toUInt32 >>> ((4 : Int32).toUInt32 &&& Int32.toUInt32 31)).toInt32)) &&& (252645135)) + ((((((((x0) - ((((x0).toUInt32 >>> ((1 : Int32).toUInt32 &&& Int32.toUInt32 31)).toInt32) &&& (1431655765))) &&& (858993459)) + (((((x0) - ((((x0).toUInt32 >>> ((1 : Int32).toUInt32 &&& Int32.toUInt32 31)).toInt32) &&& (1431655765))).toUInt32 >>> ((2 : Int32).toUInt32 &&& Int32.toUInt32 31)).toInt32) &&& (858993459))) + ((((((x0) - ((((x0).toUInt32 >>> ((1 : Int32).toUInt32 &&& Int32.toUInt32 31)).toInt32) &&& (1431655765))) &&& (858993459)) + (((((x0) - ((((x0).toUInt32 >>> ((1 : Int32).toUInt32 &&& Int32.toUInt32 31)).toInt32) &&& (1431655765))).toUInt32 >>> ((2 : Int32).toUInt32 &&& Int32.toUInt32 31)).toInt32) &&& (858993459))).toUInt32 >>> ((4 : Int32).toUInt32 &&& Int32.toUInt32 31)).toInt32)) &&& (252645135)).toUInt32 >>> ((8 : Int32).toUInt32 &&& Int32.toUInt32 31)).toInt32)).toUInt32 >>> ((16 : Int32).toUInt32 &&& Int32.toUInt32 31)).toInt32)) &&& (63))
set_option maxHeartbeats 4000000 in
set_option maxRecDepth 100000 in
theorem t_J6_bitCount_0f7a4 (x0 : Int32) {σ : Sg} {r : Int32} (hf : f_J6_bitCount_0f7a4 x0 = some r) : Ct yJ6_bitCount_0f7a4 cJ6_bitCount_0f7a4 1 (some .int) 0 0 0 0 [vi x0] σ (fun r_ τ_ => (r_ = some (vi r)) ∧ τ_ = σ) := by
  refine Ct.of (by decide +kernel) (Nat.le_of_ble_eq_true rfl) (fun Γ C1 => ?_)
  have C0 := C1.1
  unfold f_J6_bitCount_0f7a4 at hf
  show J_ Γ 0 [(0, vi (x0))] [] σ 0 0
  refine J_iload_n (q := 1) C0 0 rfl rfl dJ6_bitCount_0f7a4_0 rfl ?_
  refine J_iload_n (q := 2) C0 0 rfl rfl dJ6_bitCount_0f7a4_1 rfl ?_
  refine J_iconst (q := 3) (v := 1) C0 dJ6_bitCount_0f7a4_2 rfl rfl ?_
  refine J_iushr (q := 4) (v := ((x0).toUInt32 >>> ((1 : Int32).toUInt32 &&& Int32.toUInt32 31)).toInt32) C0 dJ6_bitCount_0f7a4_3 rfl rfl ?_
  refine J_ldc_w (q := 7) C0 kc_J6_265 dJ6_bitCount_0f7a4_4 rfl ?_
  refine J_iand (q := 8) C0 dJ6_bitCount_0f7a4_7 rfl ?_
  refine J_isub (q := 9) C0 dJ6_bitCount_0f7a4_8 rfl ?_
  refine J_istore_n (q := 10) (lv' := [(0, vi ((x0) - ((((x0).toUInt32 >>> ((1 : Int32).toUInt32 &&& Int32.toUInt32 31)).toInt32) &&& (1431655765))))]) C0 rfl (G_nl C1 (by decide)) dJ6_bitCount_0f7a4_9 rfl rfl ?_
  refine J_iload_n (q := 11) C0 0 rfl rfl dJ6_bitCount_0f7a4_10 rfl ?_
  refine J_ldc_w (q := 14) C0 kc_J6_266 dJ6_bitCount_0f7a4_11 rfl ?_
  refine J_iand (q := 15) C0 dJ6_bitCount_0f7a4_14 rfl ?_
  refine J_iload_n (q := 16) C0 0 rfl rfl dJ6_bitCount_0f7a4_15 rfl ?_
  refine J_iconst (q := 17) (v := 2) C0 dJ6_bitCount_0f7a4_16 rfl rfl ?_
  refine J_iushr (q := 18) (v := (((x0) - ((((x0).toUInt32 >>> ((1 : Int32).toUInt32 &&& Int32.toUInt32 31)).toInt32) &&& (1431655765))).toUInt32 >>> ((2 : Int32).toUInt32 &&& Int32.toUInt32 31)).toInt32) C0 dJ6_bitCount_0f7a4_17 rfl rfl ?_
  refine J_ldc_w (q := 21) C0 kc_J6_266 dJ6_bitCount_0f7a4_18 rfl ?_
  refine J_iand (q := 22) C0 dJ6_bitCount_0f7a4_21 rfl ?_
  refine J_iadd (q := 23) C0 dJ6_bitCount_0f7a4_22 rfl ?_
  refine J_istore_n (q := 24) (lv' := [(0, vi ((((x0) - ((((x0).toUInt32 >>> ((1 : Int32).toUInt32 &&& Int32.toUInt32 31)).toInt32) &&& (1431655765))) &&& (858993459)) + (((((x0) - ((((x0).toUInt32 >>> ((1 : Int32).toUInt32 &&& Int32.toUInt32 31)).toInt32) &&& (1431655765))).toUInt32 >>> ((2 : Int32).toUInt32 &&& Int32.toUInt32 31)).toInt32) &&& (858993459))))]) C0 rfl (G_nl C1 (by decide)) dJ6_bitCount_0f7a4_23 rfl rfl ?_
  refine J_iload_n (q := 25) C0 0 rfl rfl dJ6_bitCount_0f7a4_24 rfl ?_
  refine J_iload_n (q := 26) C0 0 rfl rfl dJ6_bitCount_0f7a4_25 rfl ?_
  refine J_iconst (q := 27) (v := 4) C0 dJ6_bitCount_0f7a4_26 rfl rfl ?_
  refine J_iushr (q := 28) (v := (((((x0) - ((((x0).toUInt32 >>> ((1 : Int32).toUInt32 &&& Int32.toUInt32 31)).toInt32) &&& (1431655765))) &&& (858993459)) + (((((x0) - ((((x0).toUInt32 >>> ((1 : Int32).toUInt32 &&& Int32.toUInt32 31)).toInt32) &&& (1431655765))).toUInt32 >>> ((2 : Int32).toUInt32 &&& Int32.toUInt32 31)).toInt32) &&& (858993459))).toUInt32 >>> ((4 : Int32).toUInt32 &&& Int32.toUInt32 31)).toInt32) C0 dJ6_bitCount_0f7a4_27 rfl rfl ?_
  refine J_iadd (q := 29) C0 dJ6_bitCount_0f7a4_28 rfl ?_
  refine J_ldc_w (q := 32) C0 kc_J6_267 dJ6_bitCount_0f7a4_29 rfl ?_
  refine J_iand (q := 33) C0 dJ6_bitCount_0f7a4_32 rfl ?_
  refine J_istore_n (q := 34) (lv' := [(0, vi ((((((x0) - ((((x0).toUInt32 >>> ((1 : Int32).toUInt32 &&& Int32.toUInt32 31)).toInt32) &&& (1431655765))) &&& (858993459)) + (((((x0) - ((((x0).toUInt32 >>> ((1 : Int32).toUInt32 &&& Int32.toUInt32 31)).toInt32) &&& (1431655765))).toUInt32 >>> ((2 : Int32).toUInt32 &&& Int32.toUInt32 31)).toInt32) &&& (858993459))) + ((((((x0) - ((((x0).toUInt32 >>> ((1 : Int32).toUInt32 &&& Int32.toUInt32 31)).toInt32) &&& (1431655765))) &&& (858993459)) + (((((x0) - ((((x0).toUInt32 >>> ((1 : Int32).toUInt32 &&& Int32.toUInt32 31)).toInt32) &&& (1431655765))).toUInt32 >>> ((2 : Int32).toUInt32 &&& Int32.toUInt32 31)).toInt32) &&& (858993459))).toUInt32 >>> ((4 : Int32).toUInt32 &&& Int32.toUInt32 31)).toInt32)) &&& (252645135)))]) C0 rfl (G_nl C1 (by decide)) dJ6_bitCount_0f7a4_33 rfl rfl ?_
  refine J_iload_n (q := 35) C0 0 rfl rfl dJ6_bitCount_0f7a4_34 rfl ?_
  refine J_iload_n (q := 36) C0 0 rfl rfl dJ6_bitCount_0f7a4_35 rfl ?_
  refine J_bipush (q := 38) (v := 8) C0 dJ6_bitCount_0f7a4_36 rfl rfl ?_
  refine J_iushr (q := 39) (v := (((((((x0) - ((((x0).toUInt32 >>> ((1 : Int32).toUInt32 &&& Int32.toUInt32 31)).toInt32) &&& (1431655765))) &&& (858993459)) + (((((x0) - ((((x0).toUInt32 >>> ((1 : Int32).toUInt32 &&& Int32.toUInt32 31)).toInt32) &&& (1431655765))).toUInt32 >>> ((2 : Int32).toUInt32 &&& Int32.toUInt32 31)).toInt32) &&& (858993459))) + ((((((x0) - ((((x0).toUInt32 >>> ((1 : Int32).toUInt32 &&& Int32.toUInt32 31)).toInt32) &&& (1431655765))) &&& (858993459)) + (((((x0) - ((((x0).toUInt32 >>> ((1 : Int32).toUInt32 &&& Int32.toUInt32 31)).toInt32) &&& (1431655765))).toUInt32 >>> ((2 : Int32).toUInt32 &&& Int32.toUInt32 31)).toInt32) &&& (858993459))).toUInt32 >>> ((4 : Int32).toUInt32 &&& Int32.toUInt32 31)).toInt32)) &&& (252645135)).toUInt32 >>> ((8 : Int32).toUInt32 &&& Int32.toUInt32 31)).toInt32) C0 dJ6_bitCount_0f7a4_38 rfl rfl ?_
  refine J_iadd (q := 40) C0 dJ6_bitCount_0f7a4_39 rfl ?_
  refine J_istore_n (q := 41) (lv' := [(0, vi (((((((x0) - ((((x0).toUInt32 >>> ((1 : Int32).toUInt32 &&& Int32.toUInt32 31)).toInt32) &&& (1431655765))) &&& (858993459)) + (((((x0) - ((((x0).toUInt32 >>> ((1 : Int32).toUInt32 &&& Int32.toUInt32 31)).toInt32) &&& (1431655765))).toUInt32 >>> ((2 : Int32).toUInt32 &&& Int32.toUInt32 31)).toInt32) &&& (858993459))) + ((((((x0) - ((((x0).toUInt32 >>> ((1 : Int32).toUInt32 &&& Int32.toUInt32 31)).toInt32) &&& (1431655765))) &&& (858993459)) + (((((x0) - ((((x0).toUInt32 >>> ((1 : Int32).toUInt32 &&& Int32.toUInt32 31)).toInt32) &&& (1431655765))).toUInt32 >>> ((2 : Int32).toUInt32 &&& Int32.toUInt32 31)).toInt32) &&& (858993459))).toUInt32 >>> ((4 : Int32).toUInt32 &&& Int32.toUInt32 31)).toInt32)) &&& (252645135)) + ((((((((x0) - ((((x0).toUInt32 >>> ((1 : Int32).toUInt32 &&& Int32.toUInt32 31)).toInt32) &&& (1431655765))) &&& (858993459)) + (((((x0) - ((((x0).toUInt32 >>> ((1 : Int32).toUInt32 &&& Int32.toUInt32 31)).toInt32) &&& (1431655765))).toUInt32 >>> ((2 : Int32).toUInt32 &&& Int32.toUInt32 31)).toInt32) &&& (858993459))) + ((((((x0) - ((((x0).toUInt32 >>> ((1 : Int32).toUInt32 &&& Int32.toUInt32 31)).toInt32) &&& (1431655765))) &&& (858993459)) + (((((x0) - ((((x0).toUInt32 >>> ((1 : Int32).toUInt32 &&& Int32.toUInt32 31)).toInt32) &&& (1431655765))).toUInt32 >>> ((2 : Int32).toUInt32 &&& Int32.toUInt32 31)).toInt32) &&& (858993459))).toUInt32 >>> ((4 : Int32).toUInt32 &&& Int32.toUInt32 31)).toInt32)) &&& (252645135)).toUInt32 >>> ((8 : Int32).toUInt32 &&& Int32.toUInt32 31)).toInt32)))]) C0 rfl (G_nl C1 (by decide)) dJ6_bitCount_0f7a4_40 rfl rfl ?_
  refine J_iload_n (q := 42) C0 0 rfl rfl dJ6_bitCount_0f7a4_41 rfl ?_
  refine J_iload_n (q := 43) C0 0 rfl rfl dJ6_bitCount_0f7a4_42 rfl ?_
  refine J_bipush (q := 45) (v := 16) C0 dJ6_bitCount_0f7a4_43 rfl rfl ?_
  refine J_iushr (q := 46) (v := ((((((((x0) - ((((x0).toUInt32 >>> ((1 : Int32).toUInt32 &&& Int32.toUInt32 31)).toInt32) &&& (1431655765))) &&& (858993459)) + (((((x0) - ((((x0).toUInt32 >>> ((1 : Int32).toUInt32 &&& Int32.toUInt32 31)).toInt32) &&& (1431655765))).toUInt32 >>> ((2 : Int32).toUInt32 &&& Int32.toUInt32 31)).toInt32) &&& (858993459))) + ((((((x0) - ((((x0).toUInt32 >>> ((1 : Int32).toUInt32 &&& Int32.toUInt32 31)).toInt32) &&& (1431655765))) &&& (858993459)) + (((((x0) - ((((x0).toUInt32 >>> ((1 : Int32).toUInt32 &&& Int32.toUInt32 31)).toInt32) &&& (1431655765))).toUInt32 >>> ((2 : Int32).toUInt32 &&& Int32.toUInt32 31)).toInt32) &&& (858993459))).toUInt32 >>> ((4 : Int32).toUInt32 &&& Int32.toUInt32 31)).toInt32)) &&& (252645135)) + ((((((((x0) - ((((x0).toUInt32 >>> ((1 : Int32).toUInt32 &&& Int32.toUInt32 31)).toInt32) &&& (1431655765))) &&& (858993459)) + (((((x0) - ((((x0).toUInt32 >>> ((1 : Int32).toUInt32 &&& Int32.toUInt32 31)).toInt32) &&& (1431655765))).toUInt32 >>> ((2 : Int32).toUInt32 &&& Int32.toUInt32 31)).toInt32) &&& (858993459))) + ((((((x0) - ((((x0).toUInt32 >>> ((1 : Int32).toUInt32 &&& Int32.toUInt32 31)).toInt32) &&& (1431655765))) &&& (858993459)) + (((((x0) - ((((x0).toUInt32 >>> ((1 : Int32).toUInt32 &&& Int32.toUInt32 31)).toInt32) &&& (1431655765))).toUInt32 >>> ((2 : Int32).toUInt32 &&& Int32.toUInt32 31)).toInt32) &&& (858993459))).toUInt32 >>> ((4 : Int32).toUInt32 &&& Int32.toUInt32 31)).toInt32)) &&& (252645135)).toUInt32 >>> ((8 : Int32).toUInt32 &&& Int32.toUInt32 31)).toInt32)).toUInt32 >>> ((16 : Int32).toUInt32 &&& Int32.toUInt32 31)).toInt32) C0 dJ6_bitCount_0f7a4_45 rfl rfl ?_
  refine J_iadd (q := 47) C0 dJ6_bitCount_0f7a4_46 rfl ?_
  refine J_istore_n (q := 48) (lv' := [(0, vi ((((((((x0) - ((((x0).toUInt32 >>> ((1 : Int32).toUInt32 &&& Int32.toUInt32 31)).toInt32) &&& (1431655765))) &&& (858993459)) + (((((x0) - ((((x0).toUInt32 >>> ((1 : Int32).toUInt32 &&& Int32.toUInt32 31)).toInt32) &&& (1431655765))).toUInt32 >>> ((2 : Int32).toUInt32 &&& Int32.toUInt32 31)).toInt32) &&& (858993459))) + ((((((x0) - ((((x0).toUInt32 >>> ((1 : Int32).toUInt32 &&& Int32.toUInt32 31)).toInt32) &&& (1431655765))) &&& (858993459)) + (((((x0) - ((((x0).toUInt32 >>> ((1 : Int32).toUInt32 &&& Int32.toUInt32 31)).toInt32) &&& (1431655765))).toUInt32 >>> ((2 : Int32).toUInt32 &&& Int32.toUInt32 31)).toInt32) &&& (858993459))).toUInt32 >>> ((4 : Int32).toUInt32 &&& Int32.toUInt32 31)).toInt32)) &&& (252645135)) + ((((((((x0) - ((((x0).toUInt32 >>> ((1 : Int32).toUInt32 &&& Int32.toUInt32 31)).toInt32) &&& (1431655765))) &&& (858993459)) + (((((x0) - ((((x0).toUInt32 >>> ((1 : Int32).toUInt32 &&& Int32.toUInt32 31)).toInt32) &&& (1431655765))).toUInt32 >>> ((2 : Int32).toUInt32 &&& Int32.toUInt32 31)).toInt32) &&& (858993459))) + ((((((x0) - ((((x0).toUInt32 >>> ((1 : Int32).toUInt32 &&& Int32.toUInt32 31)).toInt32) &&& (1431655765))) &&& (858993459)) + (((((x0) - ((((x0).toUInt32 >>> ((1 : Int32).toUInt32 &&& Int32.toUInt32 31)).toInt32) &&& (1431655765))).toUInt32 >>> ((2 : Int32).toUInt32 &&& Int32.toUInt32 31)).toInt32) &&& (858993459))).toUInt32 >>> ((4 : Int32).toUInt32 &&& Int32.toUInt32 31)).toInt32)) &&& (252645135)).toUInt32 >>> ((8 : Int32).toUInt32 &&& Int32.toUInt32 31)).toInt32)) + (((((((((x0) - ((((x0).toUInt32 >>> ((1 : Int32).toUInt32 &&& Int32.toUInt32 31)).toInt32) &&& (1431655765))) &&& (858993459)) + (((((x0) - ((((x0).toUInt32 >>> ((1 : Int32).toUInt32 &&& Int32.toUInt32 31)).toInt32) &&& (1431655765))).toUInt32 >>> ((2 : Int32).toUInt32 &&& Int32.toUInt32 31)).toInt32) &&& (858993459))) + ((((((x0) - ((((x0).toUInt32 >>> ((1 : Int32).toUInt32 &&& Int32.toUInt32 31)).toInt32) &&& (1431655765))) &&& (858993459)) + (((((x0) - ((((x0).toUInt32 >>> ((1 : Int32).toUInt32 &&& Int32.toUInt32 31)).toInt32) &&& (1431655765))).toUInt32 >>> ((2 : Int32).toUInt32 &&& Int32.toUInt32 31)).toInt32) &&& (858993459))).toUInt32 >>> ((4 : Int32).toUInt32 &&& Int32.toUInt32 31)).toInt32)) &&& (252645135)) + ((((((((x0) - ((((x0).toUInt32 >>> ((1 : Int32).toUInt32 &&& Int32.toUInt32 31)).toInt32) &&& (1431655765))) &&& (858993459)) + (((((x0) - ((((x0).toUInt32 >>> ((1 : Int32).toUInt32 &&& Int32.toUInt32 31)).toInt32) &&& (1431655765))).toUInt32 >>> ((2 : Int32).toUInt32 &&& Int32.toUInt32 31)).toInt32) &&& (858993459))) + ((((((x0) - ((((x0).toUInt32 >>> ((1 : Int32).toUInt32 &&& Int32.toUInt32 31)).toInt32) &&& (1431655765))) &&& (858993459)) + (((((x0) - ((((x0).toUInt32 >>> ((1 : Int32).toUInt32 &&& Int32.toUInt32 31)).toInt32) &&& (1431655765))).toUInt32 >>> ((2 : Int32).toUInt32 &&& Int32.toUInt32 31)).toInt32) &&& (858993459))).toUInt32 >>> ((4 : Int32).toUInt32 &&& Int32.toUInt32 31)).toInt32)) &&& (252645135)).toUInt32 >>> ((8 : Int32).toUInt32 &&& Int32.toUInt32 31)).toInt32)).toUInt32 >>> ((16 : Int32).toUInt32 &&& Int32.toUInt32 31)).toInt32)))]) C0 rfl (G_nl C1 (by decide)) dJ6_bitCount_0f7a4_47 rfl rfl ?_
  refine J_iload_n (q := 49) C0 0 rfl rfl dJ6_bitCount_0f7a4_48 rfl ?_
  refine J_bipush (q := 51) (v := 63) C0 dJ6_bitCount_0f7a4_49 rfl rfl ?_
  refine J_iand (q := 52) C0 dJ6_bitCount_0f7a4_51 rfl ?_
  obtain rfl := Option.some.inj hf; exact J_iret C1 dJ6_bitCount_0f7a4_52 rfl (Nat.zero_le _) (Nat.zero_le _) ⟨rfl, rfl⟩
def f_X11_unlikeSeen_L12 (N : Nat) (a0 : Nat) : Nat → Option Nat → Int32 → Option Nat → Int32 → Int32 → Sg → Option Int32
  | 0, _, _, _, _, _, _ => none
  | n + 1, v1, v2, v3, v4, v5, σ =>
  if (5) < (v5) then
  (Option.bind (f_X11_withoutBlank (v4) ) fun p3 =>
  Option.bind (f_J6_bitCount_0f7a4 (p3) ) fun p4 =>
  some (p4))
  else
  (Option.bind (v1) fun b5 =>
  Option.bind (v3) fun b6 =>
  Option.bind (f_X8_shownAt b6 ((sg_I σ b5 2) + ((v5) * (v2))) σ) fun p7 =>
  f_X11_unlikeSeen_L12 N a0 n (v1) (v2) (v3) ((v4) ||| ((1) <<< ((p7) &&& 31))) (v5 + 1) σ)
def f_X11_unlikeSeen (N : Nat) (a0 : Nat) (e1 : Option Nat) (x2 : Int32) (σ : Sg) : Option Int32 :=
  Option.bind (f_X11_stripOf a0 (e1) σ) fun p1 =>
  f_X11_unlikeSeen_L12 N a0 N (e1) (x2) (p1) (0) (0) σ
set_option maxHeartbeats 4000000 in
set_option maxRecDepth 100000 in
theorem t_X11_unlikeSeen_L12 {N : Nat} {a0 : Nat} {Γ : Gm} {σ : Sg} {r : Int32} (C1 : CM Γ cX11_unlikeSeen RX11 6 (some .int) 3 64 0 0 (fun r_ τ_ => (r_ = some (vi r)) ∧ τ_ = σ)) (hT : sg_T σ) (h0 : is_A σ a0 10) : ∀ (n : Nat) (v1 : Option Nat) (v2 : Int32) (v3 : Option Nat) (v4 : Int32) (v5 : Int32), is_O σ v1 9 → is_O σ v3 7 → f_X11_unlikeSeen_L12 N a0  n v1 v2 v3 v4 v5 σ = some r → J_ Γ 12 [(0, vr (some a0)), (1, vr (v1)), (2, vi (v2)), (3, vr (v3)), (4, vi (v4)), (5, vi (v5))] [] σ 0 0 := by
  have C0 := C1.1
  intro n
  induction n with
  | zero => intro v1 v2 v3 v4 v5 g_v1 g_v3 hf; unfold f_X11_unlikeSeen_L12 at hf; cases hf
  | succ n ih =>
    intro v1 v2 v3 v4 v5 g_v1 g_v3 hf
    rw [f_X11_unlikeSeen_L12] at hf
    refine J_iload (q := 14) C0 5 rfl dX11_unlikeSeen_12 rfl ?_
    refine J_iconst (q := 15) (v := 5) C0 dX11_unlikeSeen_14 rfl rfl ?_
    refine J_icmp_gt (t := 44) (q := 18) C0 dX11_unlikeSeen_15 (by decide) rfl hf (fun c2 hf => ?_) (fun c2 hf => ?_)
    · refine J_iload (q := 46) C0 4 rfl dX11_unlikeSeen_44 rfl ?_
      refine K_some hf (fun p3 hp3 hf => ?_)
      refine J_callS (q := 49) (as := [vi (v4)]) (rest := []) C0 (t_X11_withoutBlank (v4)  hp3) ml_X11_withoutBlank lk_X11_373 sm_X11_withoutBlank dX11_unlikeSeen_46 rfl rfl rfl (by simp [ac_]) C1.room (by decide) (by decide) (by decide) (by decide) (fun r_ τ_ hQ => ?_)
      obtain ⟨rfl, ht_⟩ := hQ; have ht_ := ht_.symm; subst ht_
      show J_ Γ 49 [(0, vr (some a0)), (1, vr (v1)), (2, vi (v2)), (3, vr (v3)), (4, vi (v4)), (5, vi (v5))] [vi (p3)] σ 0 0
      refine K_some hf (fun p4 hp4 hf => ?_)
      refine J_callS (q := 52) (as := [vi (p3)]) (rest := []) C0 (t_J6_bitCount_0f7a4 (p3)  hp4) ml_J6_bitCount_0f7a4 lk_X11_376 sm_J6_bitCount_0f7a4 dX11_unlikeSeen_49 rfl rfl rfl (by simp [ac_]) C1.room (by decide) (by decide) (by decide) (by decide) (fun r_ τ_ hQ => ?_)
      obtain ⟨rfl, ht_⟩ := hQ; have ht_ := ht_.symm; subst ht_
      show J_ Γ 52 [(0, vr (some a0)), (1, vr (v1)), (2, vi (v2)), (3, vr (v3)), (4, vi (v4)), (5, vi (v5))] [vi (p4)] σ 0 0
      obtain rfl := Option.some.inj hf; exact J_iret C1 dX11_unlikeSeen_52 rfl (Nat.zero_le _) (Nat.zero_le _) ⟨rfl, rfl⟩
    · refine J_iload (q := 20) C0 4 rfl dX11_unlikeSeen_18 rfl ?_
      refine J_iconst (q := 21) (v := 1) C0 dX11_unlikeSeen_20 rfl rfl ?_
      refine J_aload_n (q := 22) C0 3 rfl rfl dX11_unlikeSeen_21 rfl trivial ?_
      refine J_aload_n (q := 23) C0 1 rfl rfl dX11_unlikeSeen_22 rfl trivial ?_
      refine K_some hf (fun b5 hb5 hf => ?_)
      have ab5 : is_A σ b5 9 := (g_v1) b5 hb5
      refine J_getI (q := 26) C0 fl_X11_157_9 hb5 (ab5) rfl dX11_unlikeSeen_23 rfl ?_
      refine J_iload (q := 28) C0 5 rfl dX11_unlikeSeen_26 rfl ?_
      refine J_iload_n (q := 29) C0 2 rfl rfl dX11_unlikeSeen_28 rfl ?_
      refine J_imul (q := 30) C0 dX11_unlikeSeen_29 rfl ?_
      refine J_iadd (q := 31) C0 dX11_unlikeSeen_30 rfl ?_
      refine K_some hf (fun b6 hb6 hf => ?_)
      have ab6 : is_A σ b6 7 := (g_v3) b6 hb6
      refine K_some hf (fun p7 hp7 hf => ?_)
      refine J_callV (q := 34) (ci := 7) (as := [vi ((sg_I σ b5 2) + ((v5) * (v2)))]) (rest := [vi (1), vi (v4)]) C0 hb6 (ab6) (t_X8_shownAt b6 ((sg_I σ b5 2) + ((v5) * (v2))) (hT) (ab6)  hp7) ml_X8_shownAt lk_X11_224 im_X8_shownAt se_X8_shownAt rfl (by decide) dX11_unlikeSeen_31 rfl rfl rfl (by simp [ac_]) C1.room (by decide) (by decide) (by decide) (by decide) (fun r_ τ_ hQ => ?_)
      obtain ⟨rfl, ht_⟩ := hQ; have ht_ := ht_.symm; subst ht_
      show J_ Γ 34 [(0, vr (some a0)), (1, vr (v1)), (2, vi (v2)), (3, vr (v3)), (4, vi (v4)), (5, vi (v5))] [vi (p7), vi (1), vi (v4)] σ 0 0
      refine J_ishl (q := 35) C0 dX11_unlikeSeen_34 rfl ?_
      refine J_ior (q := 36) C0 dX11_unlikeSeen_35 rfl ?_
      refine J_istore (q := 38) (lv' := [(4, vi ((v4) ||| ((1) <<< ((p7) &&& 31)))), (0, vr (some a0)), (1, vr (v1)), (2, vi (v2)), (3, vr (v3)), (5, vi (v5))]) C0 (G_nl C1 (by decide)) dX11_unlikeSeen_36 rfl rfl ?_
      refine J_iinc (q := 41) (v := v5 + 1) (lv' := [(5, vi (v5 + 1)), (4, vi ((v4) ||| ((1) <<< ((p7) &&& 31)))), (0, vr (some a0)), (1, vr (v1)), (2, vi (v2)), (3, vr (v3))]) C0 5 rfl rfl (G_nl C1 (by decide)) dX11_unlikeSeen_38 rfl rfl ?_
      refine J_goto (q := 12) C0 dX11_unlikeSeen_41 (by decide) ?_
      refine J_sub (lv' := [(0, vr (some a0)), (1, vr (v1)), (2, vi (v2)), (3, vr (v3)), (4, vi ((v4) ||| ((1) <<< ((p7) &&& 31)))), (5, vi (v5 + 1))]) [2, 3, 4, 5, 1, 0] rfl ?_
      exact ih (v1) (v2) (v3) ((v4) ||| ((1) <<< ((p7) &&& 31))) (v5 + 1)  ((by rw [hb5]; exact is_O.some (ab5))) ((by rw [hb6]; exact is_O.some (ab6))) hf
set_option maxHeartbeats 4000000 in
set_option maxRecDepth 100000 in
theorem t_X11_unlikeSeen (N : Nat) (a0 : Nat) (e1 : Option Nat) (x2 : Int32) {σ : Sg} (hT : sg_T σ) (h0 : is_A σ a0 10) (g1 : is_O σ e1 9) {r : Int32} (hf : f_X11_unlikeSeen N a0 e1 x2 σ = some r) : Ct yX11_unlikeSeen cX11_unlikeSeen 6 (some .int) 3 64 0 0 [vr (some a0), vr e1, vi x2] σ (fun r_ τ_ => (r_ = some (vi r)) ∧ τ_ = σ) := by
  refine Ct.of (by decide +kernel) (Nat.le_of_ble_eq_true rfl) (fun Γ C1 => ?_)
  have C0 := C1.1
  unfold f_X11_unlikeSeen at hf
  show J_ Γ 0 [(0, vr (some a0)), (1, vr (e1)), (2, vi (x2))] [] σ 0 0
  refine J_aload_n (q := 1) C0 0 rfl rfl dX11_unlikeSeen_0 rfl trivial ?_
  refine J_aload_n (q := 2) C0 1 rfl rfl dX11_unlikeSeen_1 rfl trivial ?_
  refine K_some hf (fun p1 hp1 hf => ?_)
  refine J_callV (q := 5) (ci := 10) (as := [vr (e1)]) (rest := []) C0 rfl (h0) (t_X11_stripOf a0 (e1) (hT) (h0) (g1) hp1) ml_X11_stripOf lk_X11_162 im_X11_stripOf se_X11_stripOf rfl (by decide) dX11_unlikeSeen_2 rfl rfl rfl (by simp [ac_]) C1.room (by decide) (by decide) (by decide) (by decide) (fun r_ τ_ hQ => ?_)
  obtain ⟨⟨rfl, op1⟩, ht_⟩ := hQ; have ht_ := ht_.symm; subst ht_
  show J_ Γ 5 [(0, vr (some a0)), (1, vr (e1)), (2, vi (x2))] [vr (p1)] σ 0 0
  refine J_astore_n (q := 6) (lv' := [(3, vr (p1)), (0, vr (some a0)), (1, vr (e1)), (2, vi (x2))]) C0 rfl (G_nl C1 (by decide)) dX11_unlikeSeen_5 rfl trivial rfl ?_
  refine J_iconst (q := 7) (v := 0) C0 dX11_unlikeSeen_6 rfl rfl ?_
  refine J_istore (q := 9) (lv' := [(4, vi (0)), (3, vr (p1)), (0, vr (some a0)), (1, vr (e1)), (2, vi (x2))]) C0 (G_nl C1 (by decide)) dX11_unlikeSeen_7 rfl rfl ?_
  refine J_iconst (q := 10) (v := 0) C0 dX11_unlikeSeen_9 rfl rfl ?_
  refine J_istore (q := 12) (lv' := [(5, vi (0)), (4, vi (0)), (3, vr (p1)), (0, vr (some a0)), (1, vr (e1)), (2, vi (x2))]) C0 (G_nl C1 (by decide)) dX11_unlikeSeen_10 rfl rfl ?_
  refine J_sub (lv' := [(0, vr (some a0)), (1, vr (e1)), (2, vi (x2)), (3, vr (p1)), (4, vi (0)), (5, vi (0))]) [3, 4, 5, 2, 1, 0] rfl ?_
  exact t_X11_unlikeSeen_L12 C1 (hT) (h0)    N (e1) (x2) (p1) (0) (0) (g1) (op1) hf
def f_X11_lookerHas (N : Nat) (a0 : Nat) (x1 : Int32) (x2 : Int32) (x3 : Int32) (σ : Sg) : Option Int32 :=
  Option.bind (sg_R σ a0 13) fun b1 =>
  Option.bind (sg_R σ b1 0) fun b2 =>
  if (x1) < 0 ∨ sg_L σ b2 ≤ (x1).toNatClampNeg then none else
  Option.bind (f_X11_unlikeSeen N a0 (sg_R σ b2 (x1).toNatClampNeg) ((x2) * (x3)) σ) fun p4 =>
  some (((2) * (p4)) - (x2))
set_option maxHeartbeats 4000000 in
set_option maxRecDepth 100000 in
theorem t_X11_lookerHas (N : Nat) (a0 : Nat) (x1 : Int32) (x2 : Int32) (x3 : Int32) {σ : Sg} (hT : sg_T σ) (h0 : is_A σ a0 10) {r : Int32} (hf : f_X11_lookerHas N a0 x1 x2 x3 σ = some r) : Ct yX11_lookerHas cX11_lookerHas 4 (some .int) 4 89 0 0 [vr (some a0), vi x1, vi x2, vi x3] σ (fun r_ τ_ => (r_ = some (vi r)) ∧ τ_ = σ) := by
  refine Ct.of (by decide +kernel) (Nat.le_of_ble_eq_true rfl) (fun Γ C1 => ?_)
  have C0 := C1.1
  unfold f_X11_lookerHas at hf
  show J_ Γ 0 [(0, vr (some a0)), (1, vi (x1)), (2, vi (x2)), (3, vi (x3))] [] σ 0 0
  refine J_iconst (q := 1) (v := 2) C0 dX11_lookerHas_0 rfl rfl ?_
  refine J_aload_n (q := 2) C0 0 rfl rfl dX11_lookerHas_1 rfl trivial ?_
  refine J_aload_n (q := 3) C0 0 rfl rfl dX11_lookerHas_2 rfl trivial ?_
  refine J_getR (q := 6) C0 fl_X11_75_10 rfl (h0) rfl dX11_lookerHas_3 rfl ?_
  refine K_some hf (fun b1 hb1 hf => ?_)
  have ab1 : is_A σ b1 6 := ((sg_T.op hT (j := 13) (h0) rfl)) b1 hb1
  refine J_getR (q := 9) C0 fl_X11_153_6 hb1 (ab1) rfl dX11_lookerHas_6 rfl ?_
  refine J_iload_n (q := 10) C0 1 rfl rfl dX11_lookerHas_9 rfl ?_
  refine K_some hf (fun b2 hb2 hf => ?_)
  have ab2 : is_A σ b2 18 := ((sg_T.op hT (j := 0) (ab1) rfl)) b2 hb2
  refine K_chk hf (fun c3 hf => ?_)
  refine J_aald (q := 11) C0 hb2 (ab2) (by decide) c3 dX11_lookerHas_10 rfl ?_
  refine J_iload_n (q := 12) C0 2 rfl rfl dX11_lookerHas_11 rfl ?_
  refine J_iload_n (q := 13) C0 3 rfl rfl dX11_lookerHas_12 rfl ?_
  refine J_imul (q := 14) C0 dX11_lookerHas_13 rfl ?_
  refine K_some hf (fun p4 hp4 hf => ?_)
  refine J_callV (q := 17) (ci := 10) (as := [vr (sg_R σ b2 (x1).toNatClampNeg), vi ((x2) * (x3))]) (rest := [vi (2)]) C0 rfl (h0) (t_X11_unlikeSeen N a0 (sg_R σ b2 (x1).toNatClampNeg) ((x2) * (x3)) (hT) (h0) ((sg_T.op hT (j := (x1).toNatClampNeg) (ab2) rfl)) hp4) ml_X11_unlikeSeen lk_X11_369 im_X11_unlikeSeen se_X11_unlikeSeen rfl (by decide) dX11_lookerHas_14 rfl rfl rfl (by simp [ac_]) C1.room (by decide) (by decide) (by decide) (by decide) (fun r_ τ_ hQ => ?_)
  obtain ⟨rfl, ht_⟩ := hQ; have ht_ := ht_.symm; subst ht_
  show J_ Γ 17 [(0, vr (some a0)), (1, vi (x1)), (2, vi (x2)), (3, vi (x3))] [vi (p4), vi (2)] σ 0 0
  refine J_imul (q := 18) C0 dX11_lookerHas_17 rfl ?_
  refine J_iload_n (q := 19) C0 2 rfl rfl dX11_lookerHas_18 rfl ?_
  refine J_isub (q := 20) C0 dX11_lookerHas_19 rfl ?_
  obtain rfl := Option.some.inj hf; exact J_iret C1 dX11_lookerHas_20 rfl (Nat.zero_le _) (Nat.zero_le _) ⟨rfl, rfl⟩
def f_X11_turnerHas (N : Nat) (a0 : Nat) (x1 : Int32) (x2 : Int32) (x3 : Int32) (σ : Sg) : Option Int32 :=
  Option.bind (sg_R σ a0 13) fun b1 =>
  Option.bind (sg_R σ b1 0) fun b2 =>
  if (x1) < 0 ∨ sg_L σ b2 ≤ (x1).toNatClampNeg then none else
  Option.bind (f_X11_unlikeSeen N a0 (sg_R σ b2 (x1).toNatClampNeg) ((x2) * (x3)) σ) fun p4 =>
  some (((9) - (p4)) + (x3))
set_option maxHeartbeats 4000000 in
set_option maxRecDepth 100000 in
theorem t_X11_turnerHas (N : Nat) (a0 : Nat) (x1 : Int32) (x2 : Int32) (x3 : Int32) {σ : Sg} (hT : sg_T σ) (h0 : is_A σ a0 10) {r : Int32} (hf : f_X11_turnerHas N a0 x1 x2 x3 σ = some r) : Ct yX11_turnerHas cX11_turnerHas 4 (some .int) 4 89 0 0 [vr (some a0), vi x1, vi x2, vi x3] σ (fun r_ τ_ => (r_ = some (vi r)) ∧ τ_ = σ) := by
  refine Ct.of (by decide +kernel) (Nat.le_of_ble_eq_true rfl) (fun Γ C1 => ?_)
  have C0 := C1.1
  unfold f_X11_turnerHas at hf
  show J_ Γ 0 [(0, vr (some a0)), (1, vi (x1)), (2, vi (x2)), (3, vi (x3))] [] σ 0 0
  refine J_bipush (q := 2) (v := 9) C0 dX11_turnerHas_0 rfl rfl ?_
  refine J_aload_n (q := 3) C0 0 rfl rfl dX11_turnerHas_2 rfl trivial ?_
  refine J_aload_n (q := 4) C0 0 rfl rfl dX11_turnerHas_3 rfl trivial ?_
  refine J_getR (q := 7) C0 fl_X11_75_10 rfl (h0) rfl dX11_turnerHas_4 rfl ?_
  refine K_some hf (fun b1 hb1 hf => ?_)
  have ab1 : is_A σ b1 6 := ((sg_T.op hT (j := 13) (h0) rfl)) b1 hb1
  refine J_getR (q := 10) C0 fl_X11_153_6 hb1 (ab1) rfl dX11_turnerHas_7 rfl ?_
  refine J_iload_n (q := 11) C0 1 rfl rfl dX11_turnerHas_10 rfl ?_
  refine K_some hf (fun b2 hb2 hf => ?_)
  have ab2 : is_A σ b2 18 := ((sg_T.op hT (j := 0) (ab1) rfl)) b2 hb2
  refine K_chk hf (fun c3 hf => ?_)
  refine J_aald (q := 12) C0 hb2 (ab2) (by decide) c3 dX11_turnerHas_11 rfl ?_
  refine J_iload_n (q := 13) C0 2 rfl rfl dX11_turnerHas_12 rfl ?_
  refine J_iload_n (q := 14) C0 3 rfl rfl dX11_turnerHas_13 rfl ?_
  refine J_imul (q := 15) C0 dX11_turnerHas_14 rfl ?_
  refine K_some hf (fun p4 hp4 hf => ?_)
  refine J_callV (q := 18) (ci := 10) (as := [vr (sg_R σ b2 (x1).toNatClampNeg), vi ((x2) * (x3))]) (rest := [vi (9)]) C0 rfl (h0) (t_X11_unlikeSeen N a0 (sg_R σ b2 (x1).toNatClampNeg) ((x2) * (x3)) (hT) (h0) ((sg_T.op hT (j := (x1).toNatClampNeg) (ab2) rfl)) hp4) ml_X11_unlikeSeen lk_X11_369 im_X11_unlikeSeen se_X11_unlikeSeen rfl (by decide) dX11_turnerHas_15 rfl rfl rfl (by simp [ac_]) C1.room (by decide) (by decide) (by decide) (by decide) (fun r_ τ_ hQ => ?_)
  obtain ⟨rfl, ht_⟩ := hQ; have ht_ := ht_.symm; subst ht_
  show J_ Γ 18 [(0, vr (some a0)), (1, vi (x1)), (2, vi (x2)), (3, vi (x3))] [vi (p4), vi (9)] σ 0 0
  refine J_isub (q := 19) C0 dX11_turnerHas_18 rfl ?_
  refine J_iload_n (q := 20) C0 3 rfl rfl dX11_turnerHas_19 rfl ?_
  refine J_iadd (q := 21) C0 dX11_turnerHas_20 rfl ?_
  obtain rfl := Option.some.inj hf; exact J_iret C1 dX11_turnerHas_21 rfl (Nat.zero_le _) (Nat.zero_le _) ⟨rfl, rfl⟩
def f_X11_game_B27 (N : Nat) (a0 : Nat) (σ : Sg) : Option Int32 :=
  some ((-1000000))
def f_X11_game (N : Nat) (a0 : Nat) (x1 : Int32) (x2 : Int32) (x3 : Int32) (x4 : Int32) (σ : Sg) : Option Int32 :=
  Option.bind (f_X11_isWheel a0 (x1) σ) fun p1 =>
  if (p1) = (0) then
  (f_X11_game_B27 N a0  σ)
  else
  (if (x2) < (1) then
  (f_X11_game_B27 N a0  σ)
  else
  (if (4) < (x2) then
  (f_X11_game_B27 N a0  σ)
  else
  (if (x3) < (0) then
  (f_X11_game_B27 N a0  σ)
  else
  (if (3) < (x3) then
  (f_X11_game_B27 N a0  σ)
  else
  (if (x4) = 0 then
  (Option.bind (f_X11_lookerHas N a0 (x1) (x2) (x3) σ) fun p8 =>
  some (p8))
  else
  if (x4) = 1 then
  (Option.bind (f_X11_turnerHas N a0 (x1) (x2) (x3) σ) fun p10 =>
  some (p10))
  else
  (some ((-1000000))))))))
set_option maxHeartbeats 4000000 in
set_option maxRecDepth 100000 in
theorem t_X11_game_B27 {N : Nat} {a0 : Nat} {Γ : Gm} {σ : Sg} {r : Int32} (C1 : CM Γ cX11_game RX11 5 (some .int) 5 112 0 0 (fun r_ τ_ => (r_ = some (vi r)) ∧ τ_ = σ)) (hT : sg_T σ) (h0 : is_A σ a0 10)  (hf : f_X11_game_B27 N a0   σ = some r) : J_ Γ 27 [(0, vr (some a0))] [] σ 0 0 := by
  have C0 := C1.1
  unfold f_X11_game_B27 at hf
  refine J_ldc_w (q := 30) C0 kc_X11_287 dX11_game_27 rfl ?_
  obtain rfl := Option.some.inj hf; exact J_iret C1 dX11_game_30 rfl (Nat.zero_le _) (Nat.zero_le _) ⟨rfl, rfl⟩
set_option maxHeartbeats 4000000 in
set_option maxRecDepth 100000 in
theorem t_X11_game (N : Nat) (a0 : Nat) (x1 : Int32) (x2 : Int32) (x3 : Int32) (x4 : Int32) {σ : Sg} (hT : sg_T σ) (h0 : is_A σ a0 10) {r : Int32} (hf : f_X11_game N a0 x1 x2 x3 x4 σ = some r) : Ct yX11_game cX11_game 5 (some .int) 5 112 0 0 [vr (some a0), vi x1, vi x2, vi x3, vi x4] σ (fun r_ τ_ => (r_ = some (vi r)) ∧ τ_ = σ) := by
  refine Ct.of (by decide +kernel) (Nat.le_of_ble_eq_true rfl) (fun Γ C1 => ?_)
  have C0 := C1.1
  unfold f_X11_game at hf
  show J_ Γ 0 [(0, vr (some a0)), (1, vi (x1)), (2, vi (x2)), (3, vi (x3)), (4, vi (x4))] [] σ 0 0
  refine J_aload_n (q := 1) C0 0 rfl rfl dX11_game_0 rfl trivial ?_
  refine J_iload_n (q := 2) C0 1 rfl rfl dX11_game_1 rfl ?_
  refine K_some hf (fun p1 hp1 hf => ?_)
  refine J_callV (q := 5) (ci := 10) (as := [vi (x1)]) (rest := []) C0 rfl (h0) (t_X11_isWheel a0 (x1) (hT) (h0)  hp1) ml_X11_isWheel lk_X11_195 im_X11_isWheel se_X11_isWheel rfl (by decide) dX11_game_2 rfl rfl rfl (by simp [ac_]) C1.room (by decide) (by decide) (by decide) (by decide) (fun r_ τ_ hQ => ?_)
  obtain ⟨⟨rfl, zp1⟩, ht_⟩ := hQ; have ht_ := ht_.symm; subst ht_
  show J_ Γ 5 [(0, vr (some a0)), (1, vi (x1)), (2, vi (x2)), (3, vi (x3)), (4, vi (x4))] [vi (p1)] σ 0 0
  refine J_if_eq (t := 27) (q := 8) C0 dX11_game_5 (by decide) rfl hf (fun c2 hf => ?_) (fun c2 hf => ?_)
  · refine J_sub (lv' := [(0, vr (some a0))]) [0] rfl ?_
    exact t_X11_game_B27 C1 (hT) (h0)     hf
  · refine J_iload_n (q := 9) C0 2 rfl rfl dX11_game_8 rfl ?_
    refine J_iconst (q := 10) (v := 1) C0 dX11_game_9 rfl rfl ?_
    refine J_icmp_lt (t := 27) (q := 13) C0 dX11_game_10 (by decide) rfl hf (fun c3 hf => ?_) (fun c3 hf => ?_)
    · refine J_sub (lv' := [(0, vr (some a0))]) [0] rfl ?_
      exact t_X11_game_B27 C1 (hT) (h0)     hf
    · refine J_iload_n (q := 14) C0 2 rfl rfl dX11_game_13 rfl ?_
      refine J_iconst (q := 15) (v := 4) C0 dX11_game_14 rfl rfl ?_
      refine J_icmp_gt (t := 27) (q := 18) C0 dX11_game_15 (by decide) rfl hf (fun c4 hf => ?_) (fun c4 hf => ?_)
      · refine J_sub (lv' := [(0, vr (some a0))]) [0] rfl ?_
        exact t_X11_game_B27 C1 (hT) (h0)     hf
      · refine J_iload_n (q := 19) C0 3 rfl rfl dX11_game_18 rfl ?_
        refine J_if_lt (t := 27) (q := 22) C0 dX11_game_19 (by decide) rfl hf (fun c5 hf => ?_) (fun c5 hf => ?_)
        · refine J_sub (lv' := [(0, vr (some a0))]) [0] rfl ?_
          exact t_X11_game_B27 C1 (hT) (h0)     hf
        · refine J_iload_n (q := 23) C0 3 rfl rfl dX11_game_22 rfl ?_
          refine J_iconst (q := 24) (v := 3) C0 dX11_game_23 rfl rfl ?_
          refine J_icmp_le (t := 31) (q := 27) C0 dX11_game_24 (by decide) rfl hf (fun c6 hf => ?_) (fun c6 hf => ?_)
          · refine J_iload (q := 33) C0 4 rfl dX11_game_31 rfl ?_
            refine K_ite hf (fun c7 hf => ?_) (fun c7 hf => ?_)
            · refine J_lookup (t := 60) (off := 27) C0 dX11_game_33 (by decide) (by rw [c7]; decide) (by decide) ?_
              refine J_aload_n (q := 61) C0 0 rfl rfl dX11_game_60 rfl trivial ?_
              refine J_iload_n (q := 62) C0 1 rfl rfl dX11_game_61 rfl ?_
              refine J_iload_n (q := 63) C0 2 rfl rfl dX11_game_62 rfl ?_
              refine J_iload_n (q := 64) C0 3 rfl rfl dX11_game_63 rfl ?_
              refine K_some hf (fun p8 hp8 hf => ?_)
              refine J_callV (q := 67) (ci := 10) (as := [vi (x1), vi (x2), vi (x3)]) (rest := []) C0 rfl (h0) (t_X11_lookerHas N a0 (x1) (x2) (x3) (hT) (h0)  hp8) ml_X11_lookerHas lk_X11_358 im_X11_lookerHas se_X11_lookerHas rfl (by decide) dX11_game_64 rfl rfl rfl (by simp [ac_]) C1.room (by decide) (by decide) (by decide) (by decide) (fun r_ τ_ hQ => ?_)
              obtain ⟨rfl, ht_⟩ := hQ; have ht_ := ht_.symm; subst ht_
              show J_ Γ 67 [(0, vr (some a0)), (1, vi (x1)), (2, vi (x2)), (3, vi (x3)), (4, vi (x4))] [vi (p8)] σ 0 0
              obtain rfl := Option.some.inj hf; exact J_iret C1 dX11_game_67 rfl (Nat.zero_le _) (Nat.zero_le _) ⟨rfl, rfl⟩
            refine K_ite hf (fun c9 hf => ?_) (fun c9 hf => ?_)
            · refine J_lookup (t := 68) (off := 35) C0 dX11_game_33 (by decide) (by rw [c9]; decide) (by decide) ?_
              refine J_aload_n (q := 69) C0 0 rfl rfl dX11_game_68 rfl trivial ?_
              refine J_iload_n (q := 70) C0 1 rfl rfl dX11_game_69 rfl ?_
              refine J_iload_n (q := 71) C0 2 rfl rfl dX11_game_70 rfl ?_
              refine J_iload_n (q := 72) C0 3 rfl rfl dX11_game_71 rfl ?_
              refine K_some hf (fun p10 hp10 hf => ?_)
              refine J_callV (q := 75) (ci := 10) (as := [vi (x1), vi (x2), vi (x3)]) (rest := []) C0 rfl (h0) (t_X11_turnerHas N a0 (x1) (x2) (x3) (hT) (h0)  hp10) ml_X11_turnerHas lk_X11_362 im_X11_turnerHas se_X11_turnerHas rfl (by decide) dX11_game_72 rfl rfl rfl (by simp [ac_]) C1.room (by decide) (by decide) (by decide) (by decide) (fun r_ τ_ hQ => ?_)
              obtain ⟨rfl, ht_⟩ := hQ; have ht_ := ht_.symm; subst ht_
              show J_ Γ 75 [(0, vr (some a0)), (1, vi (x1)), (2, vi (x2)), (3, vi (x3)), (4, vi (x4))] [vi (p10)] σ 0 0
              obtain rfl := Option.some.inj hf; exact J_iret C1 dX11_game_75 rfl (Nat.zero_le _) (Nat.zero_le _) ⟨rfl, rfl⟩
            refine J_lookup (t := 76) (off := 43) C0 dX11_game_33 (by decide) (by rw [lv_osw c7 (by decide)]; rw [lv_osw c9 (by decide)]; rfl) (by decide) ?_
            refine J_ldc_w (q := 79) C0 kc_X11_287 dX11_game_76 rfl ?_
            obtain rfl := Option.some.inj hf; exact J_iret C1 dX11_game_79 rfl (Nat.zero_le _) (Nat.zero_le _) ⟨rfl, rfl⟩
          · refine J_sub (lv' := [(0, vr (some a0))]) [0] rfl ?_
            exact t_X11_game_B27 C1 (hT) (h0)     hf
def f_X11_isRest_B68 (N : Nat) (a0 : Nat) (k24 : Int32 → Int32 → Int32 → Int32 → Int32 → Int32 → Int32 → Option Int32) (v1 : Int32) (v2 : Int32) (v3 : Int32) (v4 : Int32) (v5 : Int32) (v7 : Int32) (s0 : Int32) (σ : Sg) : Option Int32 :=
  k24 (v1) (v2) (v3) (v4) (v5) (s0) (v7 + 1)
def f_X11_isRest_B67 (N : Nat) (a0 : Nat) (k24 : Int32 → Int32 → Int32 → Int32 → Int32 → Int32 → Int32 → Option Int32) (v1 : Int32) (v2 : Int32) (v3 : Int32) (v4 : Int32) (v5 : Int32) (v7 : Int32) (σ : Sg) : Option Int32 :=
  f_X11_isRest_B68 N a0 k24 (v1) (v2) (v3) (v4) (v5) (v7) (0) σ
def f_X11_isRest_L24 (N : Nat) (a0 : Nat) : Nat → Int32 → Int32 → Int32 → Int32 → Int32 → Int32 → Int32 → Sg → Option Int32
  | 0, _, _, _, _, _, _, _, _ => none
  | n + 1, v1, v2, v3, v4, v5, v6, v7, σ =>
  if (v7) < (4) then
  (if (v6) = (0) then
  (f_X11_isRest_B67 N a0 (fun v1 v2 v3 v4 v5 v6 v7 => f_X11_isRest_L24 N a0 n v1 v2 v3 v4 v5 v6 v7 σ) (v1) (v2) (v3) (v4) (v5) (v7) σ)
  else
  (Option.bind (f_X11_lookerHas N a0 (v1) ((v7) + (1)) (v3) σ) fun p6 =>
  if (v4) < (p6) then
  (f_X11_isRest_B67 N a0 (fun v1 v2 v3 v4 v5 v6 v7 => f_X11_isRest_L24 N a0 n v1 v2 v3 v4 v5 v6 v7 σ) (v1) (v2) (v3) (v4) (v5) (v7) σ)
  else
  (Option.bind (f_X11_turnerHas N a0 (v1) (v2) (v7) σ) fun p8 =>
  if (v5) < (p8) then
  (f_X11_isRest_B67 N a0 (fun v1 v2 v3 v4 v5 v6 v7 => f_X11_isRest_L24 N a0 n v1 v2 v3 v4 v5 v6 v7 σ) (v1) (v2) (v3) (v4) (v5) (v7) σ)
  else
  (f_X11_isRest_B68 N a0 (fun v1 v2 v3 v4 v5 v6 v7 => f_X11_isRest_L24 N a0 n v1 v2 v3 v4 v5 v6 v7 σ) (v1) (v2) (v3) (v4) (v5) (v7) (1) σ))))
  else
  (if ¬ ((v6) = 0 ∨ (v6) = 1) then none else
  some (v6))
def f_X11_isRest (N : Nat) (a0 : Nat) (x1 : Int32) (x2 : Int32) (x3 : Int32) (σ : Sg) : Option Int32 :=
  Option.bind (f_X11_lookerHas N a0 (x1) (x2) (x3) σ) fun p1 =>
  Option.bind (f_X11_turnerHas N a0 (x1) (x2) (x3) σ) fun p2 =>
  f_X11_isRest_L24 N a0 N (x1) (x2) (x3) (p1) (p2) (1) (0) σ
set_option maxHeartbeats 4000000 in
set_option maxRecDepth 100000 in
theorem t_X11_isRest_B68 {N : Nat} {a0 : Nat} {Γ : Gm} {σ : Sg} {r : Int32} (C1 : CM Γ cX11_isRest RX11 8 (some .boolean) 5 112 0 0 (fun r_ τ_ => (r_ = some (vi r) ∧ (r = 0 ∨ r = 1)) ∧ τ_ = σ)) (hT : sg_T σ) (h0 : is_A σ a0 10) (k24 : Int32 → Int32 → Int32 → Int32 → Int32 → Int32 → Int32 → Option Int32) (hk24 : ∀ (v1 : Int32) (v2 : Int32) (v3 : Int32) (v4 : Int32) (v5 : Int32) (v6 : Int32) (v7 : Int32) , k24 v1 v2 v3 v4 v5 v6 v7 = some r → J_ Γ 24 [(0, vr (some a0)), (1, vi v1), (2, vi v2), (3, vi v3), (4, vi v4), (5, vi v5), (6, vi v6), (7, vi v7)] [] σ 0 0) (v1 : Int32) (v2 : Int32) (v3 : Int32) (v4 : Int32) (v5 : Int32) (v7 : Int32) (s0 : Int32) (hf : f_X11_isRest_B68 N a0 k24  v1 v2 v3 v4 v5 v7 s0 σ = some r) : J_ Γ 68 [(0, vr (some a0)), (1, vi (v1)), (2, vi (v2)), (3, vi (v3)), (4, vi (v4)), (5, vi (v5)), (7, vi (v7))] [vi (s0)] σ 0 0 := by
  have C0 := C1.1
  unfold f_X11_isRest_B68 at hf
  refine J_istore (q := 70) (lv' := [(6, vi (s0)), (0, vr (some a0)), (1, vi (v1)), (2, vi (v2)), (3, vi (v3)), (4, vi (v4)), (5, vi (v5)), (7, vi (v7))]) C0 (G_nl C1 (by decide)) dX11_isRest_68 rfl rfl ?_
  refine J_iinc (q := 73) (v := v7 + 1) (lv' := [(7, vi (v7 + 1)), (6, vi (s0)), (0, vr (some a0)), (1, vi (v1)), (2, vi (v2)), (3, vi (v3)), (4, vi (v4)), (5, vi (v5))]) C0 7 rfl rfl (G_nl C1 (by decide)) dX11_isRest_70 rfl rfl ?_
  refine J_goto (q := 24) C0 dX11_isRest_73 (by decide) ?_
  refine J_sub (lv' := [(0, vr (some a0)), (1, vi (v1)), (2, vi (v2)), (3, vi (v3)), (4, vi (v4)), (5, vi (v5)), (6, vi (s0)), (7, vi (v7 + 1))]) [2, 3, 4, 5, 6, 7, 1, 0] rfl ?_
  exact hk24 (v1) (v2) (v3) (v4) (v5) (s0) (v7 + 1)  hf
set_option maxHeartbeats 4000000 in
set_option maxRecDepth 100000 in
theorem t_X11_isRest_B67 {N : Nat} {a0 : Nat} {Γ : Gm} {σ : Sg} {r : Int32} (C1 : CM Γ cX11_isRest RX11 8 (some .boolean) 5 112 0 0 (fun r_ τ_ => (r_ = some (vi r) ∧ (r = 0 ∨ r = 1)) ∧ τ_ = σ)) (hT : sg_T σ) (h0 : is_A σ a0 10) (k24 : Int32 → Int32 → Int32 → Int32 → Int32 → Int32 → Int32 → Option Int32) (hk24 : ∀ (v1 : Int32) (v2 : Int32) (v3 : Int32) (v4 : Int32) (v5 : Int32) (v6 : Int32) (v7 : Int32) , k24 v1 v2 v3 v4 v5 v6 v7 = some r → J_ Γ 24 [(0, vr (some a0)), (1, vi v1), (2, vi v2), (3, vi v3), (4, vi v4), (5, vi v5), (6, vi v6), (7, vi v7)] [] σ 0 0) (v1 : Int32) (v2 : Int32) (v3 : Int32) (v4 : Int32) (v5 : Int32) (v7 : Int32) (hf : f_X11_isRest_B67 N a0 k24  v1 v2 v3 v4 v5 v7 σ = some r) : J_ Γ 67 [(0, vr (some a0)), (1, vi (v1)), (2, vi (v2)), (3, vi (v3)), (4, vi (v4)), (5, vi (v5)), (7, vi (v7))] [] σ 0 0 := by
  have C0 := C1.1
  unfold f_X11_isRest_B67 at hf
  refine J_iconst (q := 68) (v := 0) C0 dX11_isRest_67 rfl rfl ?_
  exact t_X11_isRest_B68 C1 (hT) (h0) k24  hk24  (v1) (v2) (v3) (v4) (v5) (v7) (0)  hf
set_option maxHeartbeats 4000000 in
set_option maxRecDepth 100000 in
theorem t_X11_isRest_L24 {N : Nat} {a0 : Nat} {Γ : Gm} {σ : Sg} {r : Int32} (C1 : CM Γ cX11_isRest RX11 8 (some .boolean) 5 112 0 0 (fun r_ τ_ => (r_ = some (vi r) ∧ (r = 0 ∨ r = 1)) ∧ τ_ = σ)) (hT : sg_T σ) (h0 : is_A σ a0 10) : ∀ (n : Nat) (v1 : Int32) (v2 : Int32) (v3 : Int32) (v4 : Int32) (v5 : Int32) (v6 : Int32) (v7 : Int32), f_X11_isRest_L24 N a0  n v1 v2 v3 v4 v5 v6 v7 σ = some r → J_ Γ 24 [(0, vr (some a0)), (1, vi (v1)), (2, vi (v2)), (3, vi (v3)), (4, vi (v4)), (5, vi (v5)), (6, vi (v6)), (7, vi (v7))] [] σ 0 0 := by
  have C0 := C1.1
  intro n
  induction n with
  | zero => intro v1 v2 v3 v4 v5 v6 v7  hf; unfold f_X11_isRest_L24 at hf; cases hf
  | succ n ih =>
    intro v1 v2 v3 v4 v5 v6 v7  hf
    rw [f_X11_isRest_L24] at hf
    refine J_iload (q := 26) C0 7 rfl dX11_isRest_24 rfl ?_
    refine J_iconst (q := 27) (v := 4) C0 dX11_isRest_26 rfl rfl ?_
    refine J_icmp_ge (t := 76) (q := 30) C0 dX11_isRest_27 (by decide) rfl hf (fun c3 hf => ?_) (fun c3 hf => ?_)
    · refine J_iload (q := 78) C0 6 rfl dX11_isRest_76 rfl ?_
      refine K_chk hf (fun c4 hf => ?_)
      obtain rfl := Option.some.inj hf; exact J_zret C1 dX11_isRest_78 rfl (Decidable.not_not.mp c4) (Nat.zero_le _) (Nat.zero_le _) ⟨⟨rfl, (Decidable.not_not.mp c4)⟩, rfl⟩
    · refine J_iload (q := 32) C0 6 rfl dX11_isRest_30 rfl ?_
      refine J_if_eq (t := 67) (q := 35) C0 dX11_isRest_32 (by decide) rfl hf (fun c5 hf => ?_) (fun c5 hf => ?_)
      · refine J_sub (lv' := [(0, vr (some a0)), (1, vi (v1)), (2, vi (v2)), (3, vi (v3)), (4, vi (v4)), (5, vi (v5)), (7, vi (v7))]) [0, 1, 2, 3, 4, 5, 7] rfl ?_
        exact t_X11_isRest_B67 C1 (hT) (h0) (fun v1 v2 v3 v4 v5 v6 v7 => f_X11_isRest_L24 N a0 n v1 v2 v3 v4 v5 v6 v7 σ)  ih  (v1) (v2) (v3) (v4) (v5) (v7)  hf
      · refine J_aload_n (q := 36) C0 0 rfl rfl dX11_isRest_35 rfl trivial ?_
        refine J_iload_n (q := 37) C0 1 rfl rfl dX11_isRest_36 rfl ?_
        refine J_iload (q := 39) C0 7 rfl dX11_isRest_37 rfl ?_
        refine J_iconst (q := 40) (v := 1) C0 dX11_isRest_39 rfl rfl ?_
        refine J_iadd (q := 41) C0 dX11_isRest_40 rfl ?_
        refine J_iload_n (q := 42) C0 3 rfl rfl dX11_isRest_41 rfl ?_
        refine K_some hf (fun p6 hp6 hf => ?_)
        refine J_callV (q := 45) (ci := 10) (as := [vi (v1), vi ((v7) + (1)), vi (v3)]) (rest := []) C0 rfl (h0) (t_X11_lookerHas N a0 (v1) ((v7) + (1)) (v3) (hT) (h0)  hp6) ml_X11_lookerHas lk_X11_358 im_X11_lookerHas se_X11_lookerHas rfl (by decide) dX11_isRest_42 rfl rfl rfl (by simp [ac_]) C1.room (by decide) (by decide) (by decide) (by decide) (fun r_ τ_ hQ => ?_)
        obtain ⟨rfl, ht_⟩ := hQ; have ht_ := ht_.symm; subst ht_
        show J_ Γ 45 [(0, vr (some a0)), (1, vi (v1)), (2, vi (v2)), (3, vi (v3)), (4, vi (v4)), (5, vi (v5)), (6, vi (v6)), (7, vi (v7))] [vi (p6)] σ 0 0
        refine J_iload (q := 47) C0 4 rfl dX11_isRest_45 rfl ?_
        refine J_icmp_gt (t := 67) (q := 50) C0 dX11_isRest_47 (by decide) rfl hf (fun c7 hf => ?_) (fun c7 hf => ?_)
        · refine J_sub (lv' := [(0, vr (some a0)), (1, vi (v1)), (2, vi (v2)), (3, vi (v3)), (4, vi (v4)), (5, vi (v5)), (7, vi (v7))]) [0, 1, 2, 3, 4, 5, 7] rfl ?_
          exact t_X11_isRest_B67 C1 (hT) (h0) (fun v1 v2 v3 v4 v5 v6 v7 => f_X11_isRest_L24 N a0 n v1 v2 v3 v4 v5 v6 v7 σ)  ih  (v1) (v2) (v3) (v4) (v5) (v7)  hf
        · refine J_aload_n (q := 51) C0 0 rfl rfl dX11_isRest_50 rfl trivial ?_
          refine J_iload_n (q := 52) C0 1 rfl rfl dX11_isRest_51 rfl ?_
          refine J_iload_n (q := 53) C0 2 rfl rfl dX11_isRest_52 rfl ?_
          refine J_iload (q := 55) C0 7 rfl dX11_isRest_53 rfl ?_
          refine K_some hf (fun p8 hp8 hf => ?_)
          refine J_callV (q := 58) (ci := 10) (as := [vi (v1), vi (v2), vi (v7)]) (rest := []) C0 rfl (h0) (t_X11_turnerHas N a0 (v1) (v2) (v7) (hT) (h0)  hp8) ml_X11_turnerHas lk_X11_362 im_X11_turnerHas se_X11_turnerHas rfl (by decide) dX11_isRest_55 rfl rfl rfl (by simp [ac_]) C1.room (by decide) (by decide) (by decide) (by decide) (fun r_ τ_ hQ => ?_)
          obtain ⟨rfl, ht_⟩ := hQ; have ht_ := ht_.symm; subst ht_
          show J_ Γ 58 [(0, vr (some a0)), (1, vi (v1)), (2, vi (v2)), (3, vi (v3)), (4, vi (v4)), (5, vi (v5)), (6, vi (v6)), (7, vi (v7))] [vi (p8)] σ 0 0
          refine J_iload (q := 60) C0 5 rfl dX11_isRest_58 rfl ?_
          refine J_icmp_gt (t := 67) (q := 63) C0 dX11_isRest_60 (by decide) rfl hf (fun c9 hf => ?_) (fun c9 hf => ?_)
          · refine J_sub (lv' := [(0, vr (some a0)), (1, vi (v1)), (2, vi (v2)), (3, vi (v3)), (4, vi (v4)), (5, vi (v5)), (7, vi (v7))]) [0, 1, 2, 3, 4, 5, 7] rfl ?_
            exact t_X11_isRest_B67 C1 (hT) (h0) (fun v1 v2 v3 v4 v5 v6 v7 => f_X11_isRest_L24 N a0 n v1 v2 v3 v4 v5 v6 v7 σ)  ih  (v1) (v2) (v3) (v4) (v5) (v7)  hf
          · refine J_iconst (q := 64) (v := 1) C0 dX11_isRest_63 rfl rfl ?_
            refine J_goto (q := 68) C0 dX11_isRest_64 (by decide) ?_
            refine J_sub (lv' := [(0, vr (some a0)), (1, vi (v1)), (2, vi (v2)), (3, vi (v3)), (4, vi (v4)), (5, vi (v5)), (7, vi (v7))]) [0, 1, 2, 3, 4, 5, 7] rfl ?_
            exact t_X11_isRest_B68 C1 (hT) (h0) (fun v1 v2 v3 v4 v5 v6 v7 => f_X11_isRest_L24 N a0 n v1 v2 v3 v4 v5 v6 v7 σ)  ih  (v1) (v2) (v3) (v4) (v5) (v7) (1)  hf
set_option maxHeartbeats 4000000 in
set_option maxRecDepth 100000 in
theorem t_X11_isRest (N : Nat) (a0 : Nat) (x1 : Int32) (x2 : Int32) (x3 : Int32) {σ : Sg} (hT : sg_T σ) (h0 : is_A σ a0 10) {r : Int32} (hf : f_X11_isRest N a0 x1 x2 x3 σ = some r) : Ct yX11_isRest cX11_isRest 8 (some .boolean) 5 112 0 0 [vr (some a0), vi x1, vi x2, vi x3] σ (fun r_ τ_ => (r_ = some (vi r) ∧ (r = 0 ∨ r = 1)) ∧ τ_ = σ) := by
  refine Ct.of (by decide +kernel) (Nat.le_of_ble_eq_true rfl) (fun Γ C1 => ?_)
  have C0 := C1.1
  unfold f_X11_isRest at hf
  show J_ Γ 0 [(0, vr (some a0)), (1, vi (x1)), (2, vi (x2)), (3, vi (x3))] [] σ 0 0
  refine J_aload_n (q := 1) C0 0 rfl rfl dX11_isRest_0 rfl trivial ?_
  refine J_iload_n (q := 2) C0 1 rfl rfl dX11_isRest_1 rfl ?_
  refine J_iload_n (q := 3) C0 2 rfl rfl dX11_isRest_2 rfl ?_
  refine J_iload_n (q := 4) C0 3 rfl rfl dX11_isRest_3 rfl ?_
  refine K_some hf (fun p1 hp1 hf => ?_)
  refine J_callV (q := 7) (ci := 10) (as := [vi (x1), vi (x2), vi (x3)]) (rest := []) C0 rfl (h0) (t_X11_lookerHas N a0 (x1) (x2) (x3) (hT) (h0)  hp1) ml_X11_lookerHas lk_X11_358 im_X11_lookerHas se_X11_lookerHas rfl (by decide) dX11_isRest_4 rfl rfl rfl (by simp [ac_]) C1.room (by decide) (by decide) (by decide) (by decide) (fun r_ τ_ hQ => ?_)
  obtain ⟨rfl, ht_⟩ := hQ; have ht_ := ht_.symm; subst ht_
  show J_ Γ 7 [(0, vr (some a0)), (1, vi (x1)), (2, vi (x2)), (3, vi (x3))] [vi (p1)] σ 0 0
  refine J_istore (q := 9) (lv' := [(4, vi (p1)), (0, vr (some a0)), (1, vi (x1)), (2, vi (x2)), (3, vi (x3))]) C0 (G_nl C1 (by decide)) dX11_isRest_7 rfl rfl ?_
  refine J_aload_n (q := 10) C0 1 rfl rfl dX11_isRest_9 rfl trivial ?_
  refine J_iload_n (q := 11) C0 2 rfl rfl dX11_isRest_10 rfl ?_
  refine J_iload_n (q := 12) C0 3 rfl rfl dX11_isRest_11 rfl ?_
  refine J_iload_n (q := 13) C0 4 rfl rfl dX11_isRest_12 rfl ?_
  refine K_some hf (fun p2 hp2 hf => ?_)
  refine J_callV (q := 16) (ci := 10) (as := [vi (x1), vi (x2), vi (x3)]) (rest := []) C0 rfl (h0) (t_X11_turnerHas N a0 (x1) (x2) (x3) (hT) (h0)  hp2) ml_X11_turnerHas lk_X11_362 im_X11_turnerHas se_X11_turnerHas rfl (by decide) dX11_isRest_13 rfl rfl rfl (by simp [ac_]) C1.room (by decide) (by decide) (by decide) (by decide) (fun r_ τ_ hQ => ?_)
  obtain ⟨rfl, ht_⟩ := hQ; have ht_ := ht_.symm; subst ht_
  show J_ Γ 16 [(4, vi (p1)), (0, vr (some a0)), (1, vi (x1)), (2, vi (x2)), (3, vi (x3))] [vi (p2)] σ 0 0
  refine J_istore (q := 18) (lv' := [(5, vi (p2)), (4, vi (p1)), (0, vr (some a0)), (1, vi (x1)), (2, vi (x2)), (3, vi (x3))]) C0 (G_nl C1 (by decide)) dX11_isRest_16 rfl rfl ?_
  refine J_iconst (q := 19) (v := 1) C0 dX11_isRest_18 rfl rfl ?_
  refine J_istore (q := 21) (lv' := [(6, vi (1)), (5, vi (p2)), (4, vi (p1)), (0, vr (some a0)), (1, vi (x1)), (2, vi (x2)), (3, vi (x3))]) C0 (G_nl C1 (by decide)) dX11_isRest_19 rfl rfl ?_
  refine J_iconst (q := 22) (v := 0) C0 dX11_isRest_21 rfl rfl ?_
  refine J_istore (q := 24) (lv' := [(7, vi (0)), (6, vi (1)), (5, vi (p2)), (4, vi (p1)), (0, vr (some a0)), (1, vi (x1)), (2, vi (x2)), (3, vi (x3))]) C0 (G_nl C1 (by decide)) dX11_isRest_22 rfl rfl ?_
  refine J_sub (lv' := [(0, vr (some a0)), (1, vi (x1)), (2, vi (x2)), (3, vi (x3)), (4, vi (p1)), (5, vi (p2)), (6, vi (1)), (7, vi (0))]) [4, 5, 6, 7, 3, 2, 1, 0] rfl ?_
  exact t_X11_isRest_L24 C1 (hT) (h0)    N (x1) (x2) (x3) (p1) (p2) (1) (0)  hf
def f_X11_rests_B59 (N : Nat) (a0 : Nat) (k15 : Int32 → Int32 → Int32 → Int32 → Option Int32) (k24 : Int32 → Int32 → Int32 → Int32 → Int32 → Option Int32) (v1 : Int32) (v2 : Int32) (v3 : Int32) (v4 : Int32) (v5 : Int32) (σ : Sg) : Option Int32 :=
  k24 (v1) (v2) (v3) (v4) (v5 + 1)
def f_X11_rests_L24 (N : Nat) (a0 : Nat) (k15 : Int32 → Int32 → Int32 → Int32 → Option Int32) : Nat → Int32 → Int32 → Int32 → Int32 → Int32 → Sg → Option Int32
  | 0, _, _, _, _, _, _ => none
  | n + 1, v1, v2, v3, v4, v5, σ =>
  if (3) < (v5) then
  (k15 (v1) (v2) (v3) (v4 + 1))
  else
  (Option.bind (f_X11_isRest N a0 (v1) (v4) (v5) σ) fun p6 =>
  if (p6) = (0) then
  (f_X11_rests_B59 N a0 k15 (fun v1 v2 v3 v4 v5 => f_X11_rests_L24 N a0 k15 n v1 v2 v3 v4 v5 σ) (v1) (v2) (v3) (v4) (v5) σ)
  else
  (if (v3) = (v2) then
  (some (((10) * (v4)) + (v5)))
  else
  (f_X11_rests_B59 N a0 k15 (fun v1 v2 v3 v4 v5 => f_X11_rests_L24 N a0 k15 n v1 v2 v3 v4 v5 σ) (v1) (v2) (v3 + 1) (v4) (v5) σ)))
def f_X11_rests_L15 (N : Nat) (a0 : Nat) : Nat → Int32 → Int32 → Int32 → Int32 → Sg → Option Int32
  | 0, _, _, _, _, _ => none
  | n + 1, v1, v2, v3, v4, σ =>
  if (4) < (v4) then
  (if (v2) = ((-1)) then
  (some (v3))
  else
  (some ((-1))))
  else
  (f_X11_rests_L24 N a0 (fun v1 v2 v3 v4 => f_X11_rests_L15 N a0 n v1 v2 v3 v4 σ) N (v1) (v2) (v3) (v4) (0) σ)
def f_X11_rests (N : Nat) (a0 : Nat) (x1 : Int32) (x2 : Int32) (σ : Sg) : Option Int32 :=
  Option.bind (f_X11_isWheel a0 (x1) σ) fun p1 =>
  if (p1) = (0) then
  (some ((-1)))
  else
  (f_X11_rests_L15 N a0 N (x1) (x2) (0) (1) σ)
set_option maxHeartbeats 4000000 in
set_option maxRecDepth 100000 in
theorem t_X11_rests_B59 {N : Nat} {a0 : Nat} {Γ : Gm} {σ : Sg} {r : Int32} (C1 : CM Γ cX11_rests RX11 6 (some .int) 6 139 0 0 (fun r_ τ_ => (r_ = some (vi r)) ∧ τ_ = σ)) (hT : sg_T σ) (h0 : is_A σ a0 10) (k15 : Int32 → Int32 → Int32 → Int32 → Option Int32) (k24 : Int32 → Int32 → Int32 → Int32 → Int32 → Option Int32) (hk15 : ∀ (v1 : Int32) (v2 : Int32) (v3 : Int32) (v4 : Int32) , k15 v1 v2 v3 v4 = some r → J_ Γ 15 [(0, vr (some a0)), (1, vi v1), (2, vi v2), (3, vi v3), (4, vi v4)] [] σ 0 0) (hk24 : ∀ (v1 : Int32) (v2 : Int32) (v3 : Int32) (v4 : Int32) (v5 : Int32) , k24 v1 v2 v3 v4 v5 = some r → J_ Γ 24 [(0, vr (some a0)), (1, vi v1), (2, vi v2), (3, vi v3), (4, vi v4), (5, vi v5)] [] σ 0 0) (v1 : Int32) (v2 : Int32) (v3 : Int32) (v4 : Int32) (v5 : Int32) (hf : f_X11_rests_B59 N a0 k15 k24  v1 v2 v3 v4 v5 σ = some r) : J_ Γ 59 [(0, vr (some a0)), (1, vi (v1)), (2, vi (v2)), (3, vi (v3)), (4, vi (v4)), (5, vi (v5))] [] σ 0 0 := by
  have C0 := C1.1
  unfold f_X11_rests_B59 at hf
  refine J_iinc (q := 62) (v := v5 + 1) (lv' := [(5, vi (v5 + 1)), (0, vr (some a0)), (1, vi (v1)), (2, vi (v2)), (3, vi (v3)), (4, vi (v4))]) C0 5 rfl rfl (G_nl C1 (by decide)) dX11_rests_59 rfl rfl ?_
  refine J_goto (q := 24) C0 dX11_rests_62 (by decide) ?_
  refine J_sub (lv' := [(0, vr (some a0)), (1, vi (v1)), (2, vi (v2)), (3, vi (v3)), (4, vi (v4)), (5, vi (v5 + 1))]) [1, 2, 3, 4, 5, 0] rfl ?_
  exact hk24 (v1) (v2) (v3) (v4) (v5 + 1)  hf
set_option maxHeartbeats 4000000 in
set_option maxRecDepth 100000 in
theorem t_X11_rests_L24 {N : Nat} {a0 : Nat} {Γ : Gm} {σ : Sg} {r : Int32} (C1 : CM Γ cX11_rests RX11 6 (some .int) 6 139 0 0 (fun r_ τ_ => (r_ = some (vi r)) ∧ τ_ = σ)) (hT : sg_T σ) (h0 : is_A σ a0 10) (k15 : Int32 → Int32 → Int32 → Int32 → Option Int32) (hk15 : ∀ (v1 : Int32) (v2 : Int32) (v3 : Int32) (v4 : Int32) , k15 v1 v2 v3 v4 = some r → J_ Γ 15 [(0, vr (some a0)), (1, vi v1), (2, vi v2), (3, vi v3), (4, vi v4)] [] σ 0 0) : ∀ (n : Nat) (v1 : Int32) (v2 : Int32) (v3 : Int32) (v4 : Int32) (v5 : Int32), f_X11_rests_L24 N a0 k15  n v1 v2 v3 v4 v5 σ = some r → J_ Γ 24 [(0, vr (some a0)), (1, vi (v1)), (2, vi (v2)), (3, vi (v3)), (4, vi (v4)), (5, vi (v5))] [] σ 0 0 := by
  have C0 := C1.1
  intro n
  induction n with
  | zero => intro v1 v2 v3 v4 v5  hf; unfold f_X11_rests_L24 at hf; cases hf
  | succ n ih =>
    intro v1 v2 v3 v4 v5  hf
    rw [f_X11_rests_L24] at hf
    refine J_iload (q := 26) C0 5 rfl dX11_rests_24 rfl ?_
    refine J_iconst (q := 27) (v := 3) C0 dX11_rests_26 rfl rfl ?_
    refine J_icmp_gt (t := 65) (q := 30) C0 dX11_rests_27 (by decide) rfl hf (fun c5 hf => ?_) (fun c5 hf => ?_)
    · refine J_iinc (q := 68) (v := v4 + 1) (lv' := [(4, vi (v4 + 1)), (0, vr (some a0)), (1, vi (v1)), (2, vi (v2)), (3, vi (v3)), (5, vi (v5))]) C0 4 rfl rfl (G_nl C1 (by decide)) dX11_rests_65 rfl rfl ?_
      refine J_goto (q := 15) C0 dX11_rests_68 (by decide) ?_
      refine J_sub (lv' := [(0, vr (some a0)), (1, vi (v1)), (2, vi (v2)), (3, vi (v3)), (4, vi (v4 + 1))]) [1, 2, 3, 4, 0] rfl ?_
      exact hk15 (v1) (v2) (v3) (v4 + 1)  hf
    · refine J_aload_n (q := 31) C0 0 rfl rfl dX11_rests_30 rfl trivial ?_
      refine J_iload_n (q := 32) C0 1 rfl rfl dX11_rests_31 rfl ?_
      refine J_iload (q := 34) C0 4 rfl dX11_rests_32 rfl ?_
      refine J_iload (q := 36) C0 5 rfl dX11_rests_34 rfl ?_
      refine K_some hf (fun p6 hp6 hf => ?_)
      refine J_callV (q := 39) (ci := 10) (as := [vi (v1), vi (v4), vi (v5)]) (rest := []) C0 rfl (h0) (t_X11_isRest N a0 (v1) (v4) (v5) (hT) (h0)  hp6) ml_X11_isRest lk_X11_365 im_X11_isRest se_X11_isRest rfl (by decide) dX11_rests_36 rfl rfl rfl (by simp [ac_]) C1.room (by decide) (by decide) (by decide) (by decide) (fun r_ τ_ hQ => ?_)
      obtain ⟨⟨rfl, zp6⟩, ht_⟩ := hQ; have ht_ := ht_.symm; subst ht_
      show J_ Γ 39 [(0, vr (some a0)), (1, vi (v1)), (2, vi (v2)), (3, vi (v3)), (4, vi (v4)), (5, vi (v5))] [vi (p6)] σ 0 0
      refine J_if_eq (t := 59) (q := 42) C0 dX11_rests_39 (by decide) rfl hf (fun c7 hf => ?_) (fun c7 hf => ?_)
      · exact t_X11_rests_B59 C1 (hT) (h0) k15  (fun v1 v2 v3 v4 v5 => f_X11_rests_L24 N a0 k15 n v1 v2 v3 v4 v5 σ)  hk15  ih  (v1) (v2) (v3) (v4) (v5)  hf
      · refine J_iload_n (q := 43) C0 3 rfl rfl dX11_rests_42 rfl ?_
        refine J_iload_n (q := 44) C0 2 rfl rfl dX11_rests_43 rfl ?_
        refine J_icmp_ne (t := 56) (q := 47) C0 dX11_rests_44 (by decide) rfl hf (fun c8 hf => ?_) (fun c8 hf => ?_)
        · refine J_iinc (q := 59) (v := v3 + 1) (lv' := [(3, vi (v3 + 1)), (0, vr (some a0)), (1, vi (v1)), (2, vi (v2)), (4, vi (v4)), (5, vi (v5))]) C0 3 rfl rfl (G_nl C1 (by decide)) dX11_rests_56 rfl rfl ?_
          refine J_sub (lv' := [(0, vr (some a0)), (1, vi (v1)), (2, vi (v2)), (3, vi (v3 + 1)), (4, vi (v4)), (5, vi (v5))]) [1, 2, 3, 0, 4, 5] rfl ?_
          exact t_X11_rests_B59 C1 (hT) (h0) k15  (fun v1 v2 v3 v4 v5 => f_X11_rests_L24 N a0 k15 n v1 v2 v3 v4 v5 σ)  hk15  ih  (v1) (v2) (v3 + 1) (v4) (v5)  hf
        · refine J_bipush (q := 49) (v := 10) C0 dX11_rests_47 rfl rfl ?_
          refine J_iload (q := 51) C0 4 rfl dX11_rests_49 rfl ?_
          refine J_imul (q := 52) C0 dX11_rests_51 rfl ?_
          refine J_iload (q := 54) C0 5 rfl dX11_rests_52 rfl ?_
          refine J_iadd (q := 55) C0 dX11_rests_54 rfl ?_
          obtain rfl := Option.some.inj hf; exact J_iret C1 dX11_rests_55 rfl (Nat.zero_le _) (Nat.zero_le _) ⟨rfl, rfl⟩
set_option maxHeartbeats 4000000 in
set_option maxRecDepth 100000 in
theorem t_X11_rests_L15 {N : Nat} {a0 : Nat} {Γ : Gm} {σ : Sg} {r : Int32} (C1 : CM Γ cX11_rests RX11 6 (some .int) 6 139 0 0 (fun r_ τ_ => (r_ = some (vi r)) ∧ τ_ = σ)) (hT : sg_T σ) (h0 : is_A σ a0 10) : ∀ (n : Nat) (v1 : Int32) (v2 : Int32) (v3 : Int32) (v4 : Int32), f_X11_rests_L15 N a0  n v1 v2 v3 v4 σ = some r → J_ Γ 15 [(0, vr (some a0)), (1, vi (v1)), (2, vi (v2)), (3, vi (v3)), (4, vi (v4))] [] σ 0 0 := by
  have C0 := C1.1
  intro n
  induction n with
  | zero => intro v1 v2 v3 v4  hf; unfold f_X11_rests_L15 at hf; cases hf
  | succ n ih =>
    intro v1 v2 v3 v4  hf
    rw [f_X11_rests_L15] at hf
    refine J_iload (q := 17) C0 4 rfl dX11_rests_15 rfl ?_
    refine J_iconst (q := 18) (v := 4) C0 dX11_rests_17 rfl rfl ?_
    refine J_icmp_gt (t := 71) (q := 21) C0 dX11_rests_18 (by decide) rfl hf (fun c3 hf => ?_) (fun c3 hf => ?_)
    · refine J_iload_n (q := 72) C0 2 rfl rfl dX11_rests_71 rfl ?_
      refine J_iconst (q := 73) (v := (-1)) C0 dX11_rests_72 rfl rfl ?_
      refine J_icmp_ne (t := 80) (q := 76) C0 dX11_rests_73 (by decide) rfl hf (fun c4 hf => ?_) (fun c4 hf => ?_)
      · refine J_iconst (q := 81) (v := (-1)) C0 dX11_rests_80 rfl rfl ?_
        obtain rfl := Option.some.inj hf; exact J_iret C1 dX11_rests_81 rfl (Nat.zero_le _) (Nat.zero_le _) ⟨rfl, rfl⟩
      · refine J_iload_n (q := 77) C0 3 rfl rfl dX11_rests_76 rfl ?_
        refine J_goto (q := 81) C0 dX11_rests_77 (by decide) ?_
        obtain rfl := Option.some.inj hf; exact J_iret C1 dX11_rests_81 rfl (Nat.zero_le _) (Nat.zero_le _) ⟨rfl, rfl⟩
    · refine J_iconst (q := 22) (v := 0) C0 dX11_rests_21 rfl rfl ?_
      refine J_istore (q := 24) (lv' := [(5, vi (0)), (0, vr (some a0)), (1, vi (v1)), (2, vi (v2)), (3, vi (v3)), (4, vi (v4))]) C0 (G_nl C1 (by decide)) dX11_rests_22 rfl rfl ?_
      refine J_sub (lv' := [(0, vr (some a0)), (1, vi (v1)), (2, vi (v2)), (3, vi (v3)), (4, vi (v4)), (5, vi (0))]) [1, 2, 3, 4, 5, 0] rfl ?_
      exact t_X11_rests_L24 C1 (hT) (h0)  (fun v1 v2 v3 v4 => f_X11_rests_L15 N a0 n v1 v2 v3 v4 σ)  ih  N (v1) (v2) (v3) (v4) (0)  hf
set_option maxHeartbeats 4000000 in
set_option maxRecDepth 100000 in
theorem t_X11_rests (N : Nat) (a0 : Nat) (x1 : Int32) (x2 : Int32) {σ : Sg} (hT : sg_T σ) (h0 : is_A σ a0 10) {r : Int32} (hf : f_X11_rests N a0 x1 x2 σ = some r) : Ct yX11_rests cX11_rests 6 (some .int) 6 139 0 0 [vr (some a0), vi x1, vi x2] σ (fun r_ τ_ => (r_ = some (vi r)) ∧ τ_ = σ) := by
  refine Ct.of (by decide +kernel) (Nat.le_of_ble_eq_true rfl) (fun Γ C1 => ?_)
  have C0 := C1.1
  unfold f_X11_rests at hf
  show J_ Γ 0 [(0, vr (some a0)), (1, vi (x1)), (2, vi (x2))] [] σ 0 0
  refine J_aload_n (q := 1) C0 0 rfl rfl dX11_rests_0 rfl trivial ?_
  refine J_iload_n (q := 2) C0 1 rfl rfl dX11_rests_1 rfl ?_
  refine K_some hf (fun p1 hp1 hf => ?_)
  refine J_callV (q := 5) (ci := 10) (as := [vi (x1)]) (rest := []) C0 rfl (h0) (t_X11_isWheel a0 (x1) (hT) (h0)  hp1) ml_X11_isWheel lk_X11_195 im_X11_isWheel se_X11_isWheel rfl (by decide) dX11_rests_2 rfl rfl rfl (by simp [ac_]) C1.room (by decide) (by decide) (by decide) (by decide) (fun r_ τ_ hQ => ?_)
  obtain ⟨⟨rfl, zp1⟩, ht_⟩ := hQ; have ht_ := ht_.symm; subst ht_
  show J_ Γ 5 [(0, vr (some a0)), (1, vi (x1)), (2, vi (x2))] [vi (p1)] σ 0 0
  refine J_if_ne (t := 10) (q := 8) C0 dX11_rests_5 (by decide) rfl hf (fun c2 hf => ?_) (fun c2 hf => ?_)
  · refine J_iconst (q := 11) (v := 0) C0 dX11_rests_10 rfl rfl ?_
    refine J_istore_n (q := 12) (lv' := [(3, vi (0)), (0, vr (some a0)), (1, vi (x1)), (2, vi (x2))]) C0 rfl (G_nl C1 (by decide)) dX11_rests_11 rfl rfl ?_
    refine J_iconst (q := 13) (v := 1) C0 dX11_rests_12 rfl rfl ?_
    refine J_istore (q := 15) (lv' := [(4, vi (1)), (3, vi (0)), (0, vr (some a0)), (1, vi (x1)), (2, vi (x2))]) C0 (G_nl C1 (by decide)) dX11_rests_13 rfl rfl ?_
    refine J_sub (lv' := [(0, vr (some a0)), (1, vi (x1)), (2, vi (x2)), (3, vi (0)), (4, vi (1))]) [2, 3, 4, 1, 0] rfl ?_
    exact t_X11_rests_L15 C1 (hT) (h0)    N (x1) (x2) (0) (1)  hf
  · refine J_iconst (q := 9) (v := (-1)) C0 dX11_rests_8 rfl rfl ?_
    obtain rfl := Option.some.inj hf; exact J_iret C1 dX11_rests_9 rfl (Nat.zero_le _) (Nat.zero_le _) ⟨rfl, rfl⟩
def f_X11_odds (N : Nat) (a0 : Nat) (x1 : Int32) (x2 : Int32) (x3 : Int32) (x4 : Int32) (σ : Sg) : Option (Int32 × Sg) :=
  Option.bind (f_X11_isWheel a0 (x1) σ) fun p1 =>
  if (p1) = (0) then
  (some ((-1), σ))
  else
  (if (x2) < (0) then
  (some ((-1), σ))
  else
  (if (8) < (x2) then
  (some ((-1), σ))
  else
  (if (x3) < (0) then
  (some ((-1), σ))
  else
  (if (100) < (x3) then
  (some ((-1), σ))
  else
  (if (x4) < (0) then
  (some ((-1), σ))
  else
  (if (26) < (x4) then
  (some ((-1), σ))
  else
  (Option.bind (f_X11_courseOf a0 (x1) σ) fun p9 =>
  Option.bind (p9.1) fun b10 =>
  Option.bind (f_X0_partsShowing N b10 (x2) (x3) (x4) p9.2) fun p11 =>
  some (p11.1, p11.2))))))))
set_option maxHeartbeats 4000000 in
set_option maxRecDepth 100000 in
theorem t_X11_odds (N : Nat) (a0 : Nat) (x1 : Int32) (x2 : Int32) (x3 : Int32) (x4 : Int32) {σ : Sg} (hT : sg_T σ) (h0 : is_A σ a0 10) {r : (Int32 × Sg)} (hf : f_X11_odds N a0 x1 x2 x3 x4 σ = some r) : Ct yX11_odds cX11_odds 5 (some .int) 16 447 0 0 [vr (some a0), vi x1, vi x2, vi x3, vi x4] σ (fun r_ τ_ => (r_ = some (vi r.1)) ∧ τ_ = r.2 ∧ sg_T τ_ ∧ sg_E σ τ_) := by
  refine Ct.of (by decide +kernel) (Nat.le_of_ble_eq_true rfl) (fun Γ C1 => ?_)
  have C0 := C1.1
  have hE : sg_E σ σ := sg_E.rf
  unfold f_X11_odds at hf
  show J_ Γ 0 [(0, vr (some a0)), (1, vi (x1)), (2, vi (x2)), (3, vi (x3)), (4, vi (x4))] [] σ 0 0
  refine J_aload_n (q := 1) C0 0 rfl rfl dX11_odds_0 rfl trivial ?_
  refine J_iload_n (q := 2) C0 1 rfl rfl dX11_odds_1 rfl ?_
  refine K_some hf (fun p1 hp1 hf => ?_)
  refine J_callV (q := 5) (ci := 10) (as := [vi (x1)]) (rest := []) C0 rfl (h0) (t_X11_isWheel a0 (x1) (hT) (h0)  hp1) ml_X11_isWheel lk_X11_195 im_X11_isWheel se_X11_isWheel rfl (by decide) dX11_odds_2 rfl rfl rfl (by simp [ac_]) C1.room (by decide) (by decide) (by decide) (by decide) (fun r_ τ_ hQ => ?_)
  obtain ⟨⟨rfl, zp1⟩, ht_⟩ := hQ; have ht_ := ht_.symm; subst ht_
  show J_ Γ 5 [(0, vr (some a0)), (1, vi (x1)), (2, vi (x2)), (3, vi (x3)), (4, vi (x4))] [vi (p1)] σ 0 0
  refine J_if_eq (t := 40) (q := 8) C0 dX11_odds_5 (by decide) rfl hf (fun c2 hf => ?_) (fun c2 hf => ?_)
  · refine J_iconst (q := 41) (v := (-1)) C0 dX11_odds_40 rfl rfl ?_
    obtain rfl := Option.some.inj hf; exact J_iret C1 dX11_odds_41 rfl (Nat.zero_le _) (Nat.zero_le _) ⟨rfl, rfl, hT, hE⟩
  · refine J_iload_n (q := 9) C0 2 rfl rfl dX11_odds_8 rfl ?_
    refine J_if_lt (t := 40) (q := 12) C0 dX11_odds_9 (by decide) rfl hf (fun c3 hf => ?_) (fun c3 hf => ?_)
    · refine J_iconst (q := 41) (v := (-1)) C0 dX11_odds_40 rfl rfl ?_
      obtain rfl := Option.some.inj hf; exact J_iret C1 dX11_odds_41 rfl (Nat.zero_le _) (Nat.zero_le _) ⟨rfl, rfl, hT, hE⟩
    · refine J_iload_n (q := 13) C0 2 rfl rfl dX11_odds_12 rfl ?_
      refine J_bipush (q := 15) (v := 8) C0 dX11_odds_13 rfl rfl ?_
      refine J_icmp_gt (t := 40) (q := 18) C0 dX11_odds_15 (by decide) rfl hf (fun c4 hf => ?_) (fun c4 hf => ?_)
      · refine J_iconst (q := 41) (v := (-1)) C0 dX11_odds_40 rfl rfl ?_
        obtain rfl := Option.some.inj hf; exact J_iret C1 dX11_odds_41 rfl (Nat.zero_le _) (Nat.zero_le _) ⟨rfl, rfl, hT, hE⟩
      · refine J_iload_n (q := 19) C0 3 rfl rfl dX11_odds_18 rfl ?_
        refine J_if_lt (t := 40) (q := 22) C0 dX11_odds_19 (by decide) rfl hf (fun c5 hf => ?_) (fun c5 hf => ?_)
        · refine J_iconst (q := 41) (v := (-1)) C0 dX11_odds_40 rfl rfl ?_
          obtain rfl := Option.some.inj hf; exact J_iret C1 dX11_odds_41 rfl (Nat.zero_le _) (Nat.zero_le _) ⟨rfl, rfl, hT, hE⟩
        · refine J_iload_n (q := 23) C0 3 rfl rfl dX11_odds_22 rfl ?_
          refine J_bipush (q := 25) (v := 100) C0 dX11_odds_23 rfl rfl ?_
          refine J_icmp_gt (t := 40) (q := 28) C0 dX11_odds_25 (by decide) rfl hf (fun c6 hf => ?_) (fun c6 hf => ?_)
          · refine J_iconst (q := 41) (v := (-1)) C0 dX11_odds_40 rfl rfl ?_
            obtain rfl := Option.some.inj hf; exact J_iret C1 dX11_odds_41 rfl (Nat.zero_le _) (Nat.zero_le _) ⟨rfl, rfl, hT, hE⟩
          · refine J_iload (q := 30) C0 4 rfl dX11_odds_28 rfl ?_
            refine J_if_lt (t := 40) (q := 33) C0 dX11_odds_30 (by decide) rfl hf (fun c7 hf => ?_) (fun c7 hf => ?_)
            · refine J_iconst (q := 41) (v := (-1)) C0 dX11_odds_40 rfl rfl ?_
              obtain rfl := Option.some.inj hf; exact J_iret C1 dX11_odds_41 rfl (Nat.zero_le _) (Nat.zero_le _) ⟨rfl, rfl, hT, hE⟩
            · refine J_iload (q := 35) C0 4 rfl dX11_odds_33 rfl ?_
              refine J_bipush (q := 37) (v := 26) C0 dX11_odds_35 rfl rfl ?_
              refine J_icmp_le (t := 42) (q := 40) C0 dX11_odds_37 (by decide) rfl hf (fun c8 hf => ?_) (fun c8 hf => ?_)
              · refine J_aload_n (q := 43) C0 0 rfl rfl dX11_odds_42 rfl trivial ?_
                refine J_iload_n (q := 44) C0 1 rfl rfl dX11_odds_43 rfl ?_
                refine K_some hf (fun p9 hp9 hf => ?_)
                refine J_callV (q := 47) (ci := 10) (as := [vi (x1)]) (rest := []) C0 rfl (h0) (t_X11_courseOf a0 (x1) (hT) (h0)  hp9) ml_X11_courseOf lk_X11_300 im_X11_courseOf se_X11_courseOf rfl (by decide) dX11_odds_44 rfl rfl rfl (by simp [ac_]) C1.room (by decide) (by decide) (by decide) (by decide) (fun r_ τ_ hQ => ?_)
                obtain ⟨⟨rfl, op9⟩, rfl, Tp9, Ep9⟩ := hQ
                show J_ Γ 47 [(0, vr (some a0)), (1, vi (x1)), (2, vi (x2)), (3, vi (x3)), (4, vi (x4))] [vr (p9.1)] p9.2 0 0
                refine J_iload_n (q := 48) C0 2 rfl rfl dX11_odds_47 rfl ?_
                refine J_iload_n (q := 49) C0 3 rfl rfl dX11_odds_48 rfl ?_
                refine J_iload (q := 51) C0 4 rfl dX11_odds_49 rfl ?_
                refine K_some hf (fun b10 hb10 hf => ?_)
                have ab10 : is_A p9.2 b10 0 := (op9) b10 hb10
                refine K_some hf (fun p11 hp11 hf => ?_)
                refine J_callV (q := 54) (ci := 0) (as := [vi (x2), vi (x3), vi (x4)]) (rest := []) C0 hb10 (ab10) (t_X0_partsShowing N b10 (x2) (x3) (x4) (Tp9) (ab10)  hp11) ml_X0_partsShowing lk_X11_382 im_X0_partsShowing se_X0_partsShowing rfl (by decide) dX11_odds_51 rfl rfl rfl (by simp [ac_]) C1.room (by decide) (by decide) (by decide) (by decide) (fun r_ τ_ hQ => ?_)
                obtain ⟨rfl, rfl, Tp11, Ep11⟩ := hQ
                show J_ Γ 54 [(0, vr (some a0)), (1, vi (x1)), (2, vi (x2)), (3, vi (x3)), (4, vi (x4))] [vi (p11.1)] p11.2 0 0
                obtain rfl := Option.some.inj hf; exact J_iret C1 dX11_odds_54 rfl (Nat.zero_le _) (Nat.zero_le _) ⟨rfl, rfl, Tp11, ((hE).tr Ep9).tr Ep11⟩
              · refine J_iconst (q := 41) (v := (-1)) C0 dX11_odds_40 rfl rfl ?_
                obtain rfl := Option.some.inj hf; exact J_iret C1 dX11_odds_41 rfl (Nat.zero_le _) (Nat.zero_le _) ⟨rfl, rfl, hT, hE⟩
def f_X11_shares_L26 (N : Nat) (a0 : Nat) : Nat → Int32 → Int32 → Int32 → Int32 → Sg → Option Int32
  | 0, _, _, _, _, _ => none
  | n + 1, v1, v2, v3, v4, σ =>
  Option.bind (sg_R σ a0 13) fun b5 =>
  if (v4) < (sg_I σ b5 1) then
  (Option.bind (sg_R σ b5 0) fun b12 =>
  if (v4) < 0 ∨ sg_L σ b12 ≤ (v4).toNatClampNeg then none else
  Option.bind (sg_R σ b12 (v4).toNatClampNeg) fun b14 =>
  f_X11_shares_L26 N a0 n (v1) (v2) ((v3) + (sg_I σ b14 0)) (v4 + 1) σ)
  else
  (if (v3) < (1) then
  (some (0))
  else
  (Option.bind (sg_R σ b5 0) fun b8 =>
  if (v1) < 0 ∨ sg_L σ b8 ≤ (v1).toNatClampNeg then none else
  Option.bind (sg_R σ b8 (v1).toNatClampNeg) fun b10 =>
  if (v3) = 0 then none else
  some (((v2) * (sg_I σ b10 0)) / (v3))))
def f_X11_shares (N : Nat) (a0 : Nat) (x1 : Int32) (x2 : Int32) (σ : Sg) : Option Int32 :=
  Option.bind (f_X11_isWheel a0 (x1) σ) fun p1 =>
  if (p1) = (0) then
  (some ((-1)))
  else
  (if (x2) < (0) then
  (some ((-1)))
  else
  (if (999) < (x2) then
  (some ((-1)))
  else
  (f_X11_shares_L26 N a0 N (x1) (x2) (0) (0) σ)))
set_option maxHeartbeats 4000000 in
set_option maxRecDepth 100000 in
theorem t_X11_shares_L26 {N : Nat} {a0 : Nat} {Γ : Gm} {σ : Sg} {r : Int32} (C1 : CM Γ cX11_shares RX11 5 (some .int) 1 21 0 0 (fun r_ τ_ => (r_ = some (vi r)) ∧ τ_ = σ)) (hT : sg_T σ) (h0 : is_A σ a0 10) : ∀ (n : Nat) (v1 : Int32) (v2 : Int32) (v3 : Int32) (v4 : Int32), f_X11_shares_L26 N a0  n v1 v2 v3 v4 σ = some r → J_ Γ 26 [(0, vr (some a0)), (1, vi (v1)), (2, vi (v2)), (3, vi (v3)), (4, vi (v4))] [] σ 0 0 := by
  have C0 := C1.1
  intro n
  induction n with
  | zero => intro v1 v2 v3 v4  hf; unfold f_X11_shares_L26 at hf; cases hf
  | succ n ih =>
    intro v1 v2 v3 v4  hf
    rw [f_X11_shares_L26] at hf
    refine J_iload (q := 28) C0 4 rfl dX11_shares_26 rfl ?_
    refine J_aload_n (q := 29) C0 0 rfl rfl dX11_shares_28 rfl trivial ?_
    refine J_getR (q := 32) C0 fl_X11_75_10 rfl (h0) rfl dX11_shares_29 rfl ?_
    refine K_some hf (fun b5 hb5 hf => ?_)
    have ab5 : is_A σ b5 6 := ((sg_T.op hT (j := 13) (h0) rfl)) b5 hb5
    refine J_getI (q := 35) C0 fl_X11_150_6 hb5 (ab5) rfl dX11_shares_32 rfl ?_
    refine J_icmp_ge (t := 60) (q := 38) C0 dX11_shares_35 (by decide) rfl hf (fun c6 hf => ?_) (fun c6 hf => ?_)
    · refine J_iload_n (q := 61) C0 3 rfl rfl dX11_shares_60 rfl ?_
      refine J_iconst (q := 62) (v := 1) C0 dX11_shares_61 rfl rfl ?_
      refine J_icmp_ge (t := 69) (q := 65) C0 dX11_shares_62 (by decide) rfl hf (fun c7 hf => ?_) (fun c7 hf => ?_)
      · refine J_iload_n (q := 70) C0 2 rfl rfl dX11_shares_69 rfl ?_
        refine J_aload_n (q := 71) C0 0 rfl rfl dX11_shares_70 rfl trivial ?_
        refine J_getR (q := 74) C0 fl_X11_75_10 rfl (h0) rfl dX11_shares_71 rfl ?_
        refine J_getR (q := 77) C0 fl_X11_153_6 hb5 (ab5) rfl dX11_shares_74 rfl ?_
        refine J_iload_n (q := 78) C0 1 rfl rfl dX11_shares_77 rfl ?_
        refine K_some hf (fun b8 hb8 hf => ?_)
        have ab8 : is_A σ b8 18 := ((sg_T.op hT (j := 0) (ab5) rfl)) b8 hb8
        refine K_chk hf (fun c9 hf => ?_)
        refine J_aald (q := 79) C0 hb8 (ab8) (by decide) c9 dX11_shares_78 rfl ?_
        refine K_some hf (fun b10 hb10 hf => ?_)
        have ab10 : is_A σ b10 9 := ((sg_T.op hT (j := (v1).toNatClampNeg) (ab8) rfl)) b10 hb10
        refine J_getI (q := 82) C0 fl_X11_206_9 hb10 (ab10) rfl dX11_shares_79 rfl ?_
        refine J_imul (q := 83) C0 dX11_shares_82 rfl ?_
        refine J_iload_n (q := 84) C0 3 rfl rfl dX11_shares_83 rfl ?_
        refine K_chk hf (fun c11 hf => ?_)
        refine J_idiv (q := 85) C0 dX11_shares_84 rfl c11 ?_
        obtain rfl := Option.some.inj hf; exact J_iret C1 dX11_shares_85 rfl (Nat.zero_le _) (Nat.zero_le _) ⟨rfl, rfl⟩
      · refine J_iconst (q := 66) (v := 0) C0 dX11_shares_65 rfl rfl ?_
        refine J_goto (q := 85) C0 dX11_shares_66 (by decide) ?_
        obtain rfl := Option.some.inj hf; exact J_iret C1 dX11_shares_85 rfl (Nat.zero_le _) (Nat.zero_le _) ⟨rfl, rfl⟩
    · refine J_iload_n (q := 39) C0 3 rfl rfl dX11_shares_38 rfl ?_
      refine J_aload_n (q := 40) C0 0 rfl rfl dX11_shares_39 rfl trivial ?_
      refine J_getR (q := 43) C0 fl_X11_75_10 rfl (h0) rfl dX11_shares_40 rfl ?_
      refine J_getR (q := 46) C0 fl_X11_153_6 hb5 (ab5) rfl dX11_shares_43 rfl ?_
      refine J_iload (q := 48) C0 4 rfl dX11_shares_46 rfl ?_
      refine K_some hf (fun b12 hb12 hf => ?_)
      have ab12 : is_A σ b12 18 := ((sg_T.op hT (j := 0) (ab5) rfl)) b12 hb12
      refine K_chk hf (fun c13 hf => ?_)
      refine J_aald (q := 49) C0 hb12 (ab12) (by decide) c13 dX11_shares_48 rfl ?_
      refine K_some hf (fun b14 hb14 hf => ?_)
      have ab14 : is_A σ b14 9 := ((sg_T.op hT (j := (v4).toNatClampNeg) (ab12) rfl)) b14 hb14
      refine J_getI (q := 52) C0 fl_X11_206_9 hb14 (ab14) rfl dX11_shares_49 rfl ?_
      refine J_iadd (q := 53) C0 dX11_shares_52 rfl ?_
      refine J_istore_n (q := 54) (lv' := [(3, vi ((v3) + (sg_I σ b14 0))), (0, vr (some a0)), (1, vi (v1)), (2, vi (v2)), (4, vi (v4))]) C0 rfl (G_nl C1 (by decide)) dX11_shares_53 rfl rfl ?_
      refine J_iinc (q := 57) (v := v4 + 1) (lv' := [(4, vi (v4 + 1)), (3, vi ((v3) + (sg_I σ b14 0))), (0, vr (some a0)), (1, vi (v1)), (2, vi (v2))]) C0 4 rfl rfl (G_nl C1 (by decide)) dX11_shares_54 rfl rfl ?_
      refine J_goto (q := 26) C0 dX11_shares_57 (by decide) ?_
      refine J_sub (lv' := [(0, vr (some a0)), (1, vi (v1)), (2, vi (v2)), (3, vi ((v3) + (sg_I σ b14 0))), (4, vi (v4 + 1))]) [2, 3, 4, 1, 0] rfl ?_
      exact ih (v1) (v2) ((v3) + (sg_I σ b14 0)) (v4 + 1)   hf
set_option maxHeartbeats 4000000 in
set_option maxRecDepth 100000 in
theorem t_X11_shares (N : Nat) (a0 : Nat) (x1 : Int32) (x2 : Int32) {σ : Sg} (hT : sg_T σ) (h0 : is_A σ a0 10) {r : Int32} (hf : f_X11_shares N a0 x1 x2 σ = some r) : Ct yX11_shares cX11_shares 5 (some .int) 1 21 0 0 [vr (some a0), vi x1, vi x2] σ (fun r_ τ_ => (r_ = some (vi r)) ∧ τ_ = σ) := by
  refine Ct.of (by decide +kernel) (Nat.le_of_ble_eq_true rfl) (fun Γ C1 => ?_)
  have C0 := C1.1
  unfold f_X11_shares at hf
  show J_ Γ 0 [(0, vr (some a0)), (1, vi (x1)), (2, vi (x2))] [] σ 0 0
  refine J_aload_n (q := 1) C0 0 rfl rfl dX11_shares_0 rfl trivial ?_
  refine J_iload_n (q := 2) C0 1 rfl rfl dX11_shares_1 rfl ?_
  refine K_some hf (fun p1 hp1 hf => ?_)
  refine J_callV (q := 5) (ci := 10) (as := [vi (x1)]) (rest := []) C0 rfl (h0) (t_X11_isWheel a0 (x1) (hT) (h0)  hp1) ml_X11_isWheel lk_X11_195 im_X11_isWheel se_X11_isWheel rfl (by decide) dX11_shares_2 rfl rfl rfl (by simp [ac_]) C1.room (by decide) (by decide) (by decide) (by decide) (fun r_ τ_ hQ => ?_)
  obtain ⟨⟨rfl, zp1⟩, ht_⟩ := hQ; have ht_ := ht_.symm; subst ht_
  show J_ Γ 5 [(0, vr (some a0)), (1, vi (x1)), (2, vi (x2))] [vi (p1)] σ 0 0
  refine J_if_eq (t := 19) (q := 8) C0 dX11_shares_5 (by decide) rfl hf (fun c2 hf => ?_) (fun c2 hf => ?_)
  · refine J_iconst (q := 20) (v := (-1)) C0 dX11_shares_19 rfl rfl ?_
    obtain rfl := Option.some.inj hf; exact J_iret C1 dX11_shares_20 rfl (Nat.zero_le _) (Nat.zero_le _) ⟨rfl, rfl⟩
  · refine J_iload_n (q := 9) C0 2 rfl rfl dX11_shares_8 rfl ?_
    refine J_if_lt (t := 19) (q := 12) C0 dX11_shares_9 (by decide) rfl hf (fun c3 hf => ?_) (fun c3 hf => ?_)
    · refine J_iconst (q := 20) (v := (-1)) C0 dX11_shares_19 rfl rfl ?_
      obtain rfl := Option.some.inj hf; exact J_iret C1 dX11_shares_20 rfl (Nat.zero_le _) (Nat.zero_le _) ⟨rfl, rfl⟩
    · refine J_iload_n (q := 13) C0 2 rfl rfl dX11_shares_12 rfl ?_
      refine J_sipush (q := 16) (v := 999) C0 dX11_shares_13 rfl rfl ?_
      refine J_icmp_le (t := 21) (q := 19) C0 dX11_shares_16 (by decide) rfl hf (fun c4 hf => ?_) (fun c4 hf => ?_)
      · refine J_iconst (q := 22) (v := 0) C0 dX11_shares_21 rfl rfl ?_
        refine J_istore_n (q := 23) (lv' := [(3, vi (0)), (0, vr (some a0)), (1, vi (x1)), (2, vi (x2))]) C0 rfl (G_nl C1 (by decide)) dX11_shares_22 rfl rfl ?_
        refine J_iconst (q := 24) (v := 0) C0 dX11_shares_23 rfl rfl ?_
        refine J_istore (q := 26) (lv' := [(4, vi (0)), (3, vi (0)), (0, vr (some a0)), (1, vi (x1)), (2, vi (x2))]) C0 (G_nl C1 (by decide)) dX11_shares_24 rfl rfl ?_
        refine J_sub (lv' := [(0, vr (some a0)), (1, vi (x1)), (2, vi (x2)), (3, vi (0)), (4, vi (0))]) [2, 3, 4, 1, 0] rfl ?_
        exact t_X11_shares_L26 C1 (hT) (h0)    N (x1) (x2) (0) (0)  hf
      · refine J_iconst (q := 20) (v := (-1)) C0 dX11_shares_19 rfl rfl ?_
        obtain rfl := Option.some.inj hf; exact J_iret C1 dX11_shares_20 rfl (Nat.zero_le _) (Nat.zero_le _) ⟨rfl, rfl⟩
def f_X11_fastest_B47 (N : Nat) (a0 : Nat) (k4 : Int32 → Int32 → Option Int32) (v2 : Int32) (s0 : Int32) (σ : Sg) : Option Int32 :=
  k4 (s0) (v2 + 1)
def f_X11_fastest_L4 (N : Nat) (a0 : Nat) : Nat → Int32 → Int32 → Sg → Option Int32
  | 0, _, _, _ => none
  | n + 1, v1, v2, σ =>
  Option.bind (sg_R σ a0 13) fun b1 =>
  if (v2) < (sg_I σ b1 1) then
  (Option.bind (sg_R σ b1 0) fun b3 =>
  if (v2) < 0 ∨ sg_L σ b3 ≤ (v2).toNatClampNeg then none else
  Option.bind (sg_R σ b3 (v2).toNatClampNeg) fun b5 =>
  if (v1) < 0 ∨ sg_L σ b3 ≤ (v1).toNatClampNeg then none else
  Option.bind (sg_R σ b3 (v1).toNatClampNeg) fun b7 =>
  if (sg_I σ b7 0) < (sg_I σ b5 0) then
  (f_X11_fastest_B47 N a0 (fun v1 v2 => f_X11_fastest_L4 N a0 n v1 v2 σ) (v2) (v2) σ)
  else
  (f_X11_fastest_B47 N a0 (fun v1 v2 => f_X11_fastest_L4 N a0 n v1 v2 σ) (v2) (v1) σ))
  else
  (some (v1))
def f_X11_fastest (N : Nat) (a0 : Nat) (σ : Sg) : Option Int32 :=
  f_X11_fastest_L4 N a0 N (0) (1) σ
set_option maxHeartbeats 4000000 in
set_option maxRecDepth 100000 in
theorem t_X11_fastest_B47 {N : Nat} {a0 : Nat} {Γ : Gm} {σ : Sg} {r : Int32} (C1 : CM Γ cX11_fastest RX11 3 (some .int) 0 0 0 0 (fun r_ τ_ => (r_ = some (vi r)) ∧ τ_ = σ)) (hT : sg_T σ) (h0 : is_A σ a0 10) (k4 : Int32 → Int32 → Option Int32) (hk4 : ∀ (v1 : Int32) (v2 : Int32) , k4 v1 v2 = some r → J_ Γ 4 [(0, vr (some a0)), (1, vi v1), (2, vi v2)] [] σ 0 0) (v2 : Int32) (s0 : Int32) (hf : f_X11_fastest_B47 N a0 k4  v2 s0 σ = some r) : J_ Γ 47 [(0, vr (some a0)), (2, vi (v2))] [vi (s0)] σ 0 0 := by
  have C0 := C1.1
  unfold f_X11_fastest_B47 at hf
  refine J_istore_n (q := 48) (lv' := [(1, vi (s0)), (0, vr (some a0)), (2, vi (v2))]) C0 rfl (G_nl C1 (by decide)) dX11_fastest_47 rfl rfl ?_
  refine J_iinc (q := 51) (v := v2 + 1) (lv' := [(2, vi (v2 + 1)), (1, vi (s0)), (0, vr (some a0))]) C0 2 rfl rfl (G_nl C1 (by decide)) dX11_fastest_48 rfl rfl ?_
  refine J_goto (q := 4) C0 dX11_fastest_51 (by decide) ?_
  refine J_sub (lv' := [(0, vr (some a0)), (1, vi (s0)), (2, vi (v2 + 1))]) [2, 1, 0] rfl ?_
  exact hk4 (s0) (v2 + 1)  hf
set_option maxHeartbeats 4000000 in
set_option maxRecDepth 100000 in
theorem t_X11_fastest_L4 {N : Nat} {a0 : Nat} {Γ : Gm} {σ : Sg} {r : Int32} (C1 : CM Γ cX11_fastest RX11 3 (some .int) 0 0 0 0 (fun r_ τ_ => (r_ = some (vi r)) ∧ τ_ = σ)) (hT : sg_T σ) (h0 : is_A σ a0 10) : ∀ (n : Nat) (v1 : Int32) (v2 : Int32), f_X11_fastest_L4 N a0  n v1 v2 σ = some r → J_ Γ 4 [(0, vr (some a0)), (1, vi (v1)), (2, vi (v2))] [] σ 0 0 := by
  have C0 := C1.1
  intro n
  induction n with
  | zero => intro v1 v2  hf; unfold f_X11_fastest_L4 at hf; cases hf
  | succ n ih =>
    intro v1 v2  hf
    rw [f_X11_fastest_L4] at hf
    refine J_iload_n (q := 5) C0 2 rfl rfl dX11_fastest_4 rfl ?_
    refine J_aload_n (q := 6) C0 0 rfl rfl dX11_fastest_5 rfl trivial ?_
    refine J_getR (q := 9) C0 fl_X11_75_10 rfl (h0) rfl dX11_fastest_6 rfl ?_
    refine K_some hf (fun b1 hb1 hf => ?_)
    have ab1 : is_A σ b1 6 := ((sg_T.op hT (j := 13) (h0) rfl)) b1 hb1
    refine J_getI (q := 12) C0 fl_X11_150_6 hb1 (ab1) rfl dX11_fastest_9 rfl ?_
    refine J_icmp_ge (t := 54) (q := 15) C0 dX11_fastest_12 (by decide) rfl hf (fun c2 hf => ?_) (fun c2 hf => ?_)
    · refine J_iload_n (q := 55) C0 1 rfl rfl dX11_fastest_54 rfl ?_
      obtain rfl := Option.some.inj hf; exact J_iret C1 dX11_fastest_55 rfl (Nat.zero_le _) (Nat.zero_le _) ⟨rfl, rfl⟩
    · refine J_aload_n (q := 16) C0 0 rfl rfl dX11_fastest_15 rfl trivial ?_
      refine J_getR (q := 19) C0 fl_X11_75_10 rfl (h0) rfl dX11_fastest_16 rfl ?_
      refine J_getR (q := 22) C0 fl_X11_153_6 hb1 (ab1) rfl dX11_fastest_19 rfl ?_
      refine J_iload_n (q := 23) C0 2 rfl rfl dX11_fastest_22 rfl ?_
      refine K_some hf (fun b3 hb3 hf => ?_)
      have ab3 : is_A σ b3 18 := ((sg_T.op hT (j := 0) (ab1) rfl)) b3 hb3
      refine K_chk hf (fun c4 hf => ?_)
      refine J_aald (q := 24) C0 hb3 (ab3) (by decide) c4 dX11_fastest_23 rfl ?_
      refine K_some hf (fun b5 hb5 hf => ?_)
      have ab5 : is_A σ b5 9 := ((sg_T.op hT (j := (v2).toNatClampNeg) (ab3) rfl)) b5 hb5
      refine J_getI (q := 27) C0 fl_X11_206_9 hb5 (ab5) rfl dX11_fastest_24 rfl ?_
      refine J_aload_n (q := 28) C0 0 rfl rfl dX11_fastest_27 rfl trivial ?_
      refine J_getR (q := 31) C0 fl_X11_75_10 rfl (h0) rfl dX11_fastest_28 rfl ?_
      refine J_getR (q := 34) C0 fl_X11_153_6 hb1 (ab1) rfl dX11_fastest_31 rfl ?_
      refine J_iload_n (q := 35) C0 1 rfl rfl dX11_fastest_34 rfl ?_
      refine K_chk hf (fun c6 hf => ?_)
      refine J_aald (q := 36) C0 hb3 (ab3) (by decide) c6 dX11_fastest_35 rfl ?_
      refine K_some hf (fun b7 hb7 hf => ?_)
      have ab7 : is_A σ b7 9 := ((sg_T.op hT (j := (v1).toNatClampNeg) (ab3) rfl)) b7 hb7
      refine J_getI (q := 39) C0 fl_X11_206_9 hb7 (ab7) rfl dX11_fastest_36 rfl ?_
      refine J_icmp_le (t := 46) (q := 42) C0 dX11_fastest_39 (by decide) rfl hf (fun c8 hf => ?_) (fun c8 hf => ?_)
      · refine J_iload_n (q := 47) C0 1 rfl rfl dX11_fastest_46 rfl ?_
        refine J_sub (lv' := [(0, vr (some a0)), (2, vi (v2))]) [0, 2] rfl ?_
        exact t_X11_fastest_B47 C1 (hT) (h0) (fun v1 v2 => f_X11_fastest_L4 N a0 n v1 v2 σ)  ih  (v2) (v1)  hf
      · refine J_iload_n (q := 43) C0 2 rfl rfl dX11_fastest_42 rfl ?_
        refine J_goto (q := 47) C0 dX11_fastest_43 (by decide) ?_
        refine J_sub (lv' := [(0, vr (some a0)), (2, vi (v2))]) [0, 2] rfl ?_
        exact t_X11_fastest_B47 C1 (hT) (h0) (fun v1 v2 => f_X11_fastest_L4 N a0 n v1 v2 σ)  ih  (v2) (v2)  hf
set_option maxHeartbeats 4000000 in
set_option maxRecDepth 100000 in
theorem t_X11_fastest (N : Nat) (a0 : Nat) {σ : Sg} (hT : sg_T σ) (h0 : is_A σ a0 10) {r : Int32} (hf : f_X11_fastest N a0  σ = some r) : Ct yX11_fastest cX11_fastest 3 (some .int) 0 0 0 0 [vr (some a0)] σ (fun r_ τ_ => (r_ = some (vi r)) ∧ τ_ = σ) := by
  refine Ct.of (by decide +kernel) (Nat.le_of_ble_eq_true rfl) (fun Γ C1 => ?_)
  have C0 := C1.1
  unfold f_X11_fastest at hf
  show J_ Γ 0 [(0, vr (some a0))] [] σ 0 0
  refine J_iconst (q := 1) (v := 0) C0 dX11_fastest_0 rfl rfl ?_
  refine J_istore_n (q := 2) (lv' := [(1, vi (0)), (0, vr (some a0))]) C0 rfl (G_nl C1 (by decide)) dX11_fastest_1 rfl rfl ?_
  refine J_iconst (q := 3) (v := 1) C0 dX11_fastest_2 rfl rfl ?_
  refine J_istore_n (q := 4) (lv' := [(2, vi (1)), (1, vi (0)), (0, vr (some a0))]) C0 rfl (G_nl C1 (by decide)) dX11_fastest_3 rfl rfl ?_
  refine J_sub (lv' := [(0, vr (some a0)), (1, vi (0)), (2, vi (1))]) [2, 1, 0] rfl ?_
  exact t_X11_fastest_L4 C1 (hT) (h0)    N (0) (1)  hf
def f_X11_longest_B55 (N : Nat) (a0 : Nat) (k4 : Int32 → Int32 → Option Int32) (v2 : Int32) (s0 : Int32) (σ : Sg) : Option Int32 :=
  k4 (s0) (v2 + 1)
def f_X11_longest_L4 (N : Nat) (a0 : Nat) : Nat → Int32 → Int32 → Sg → Option Int32
  | 0, _, _, _ => none
  | n + 1, v1, v2, σ =>
  Option.bind (sg_R σ a0 13) fun b1 =>
  if (v2) < (sg_I σ b1 1) then
  (Option.bind (sg_R σ b1 0) fun b3 =>
  if (v2) < 0 ∨ sg_L σ b3 ≤ (v2).toNatClampNeg then none else
  Option.bind (f_X11_stripOf a0 (sg_R σ b3 (v2).toNatClampNeg) σ) fun p5 =>
  Option.bind (p5) fun b6 =>
  Option.bind (f_X8_size b6  σ) fun p7 =>
  if (v1) < 0 ∨ sg_L σ b3 ≤ (v1).toNatClampNeg then none else
  Option.bind (f_X11_stripOf a0 (sg_R σ b3 (v1).toNatClampNeg) σ) fun p9 =>
  Option.bind (p9) fun b10 =>
  Option.bind (f_X8_size b10  σ) fun p11 =>
  if (p11) < (p7) then
  (f_X11_longest_B55 N a0 (fun v1 v2 => f_X11_longest_L4 N a0 n v1 v2 σ) (v2) (v2) σ)
  else
  (f_X11_longest_B55 N a0 (fun v1 v2 => f_X11_longest_L4 N a0 n v1 v2 σ) (v2) (v1) σ))
  else
  (some (v1))
def f_X11_longest (N : Nat) (a0 : Nat) (σ : Sg) : Option Int32 :=
  f_X11_longest_L4 N a0 N (0) (1) σ
set_option maxHeartbeats 4000000 in
set_option maxRecDepth 100000 in
theorem t_X11_longest_B55 {N : Nat} {a0 : Nat} {Γ : Gm} {σ : Sg} {r : Int32} (C1 : CM Γ cX11_longest RX11 3 (some .int) 2 42 0 0 (fun r_ τ_ => (r_ = some (vi r)) ∧ τ_ = σ)) (hT : sg_T σ) (h0 : is_A σ a0 10) (k4 : Int32 → Int32 → Option Int32) (hk4 : ∀ (v1 : Int32) (v2 : Int32) , k4 v1 v2 = some r → J_ Γ 4 [(0, vr (some a0)), (1, vi v1), (2, vi v2)] [] σ 0 0) (v2 : Int32) (s0 : Int32) (hf : f_X11_longest_B55 N a0 k4  v2 s0 σ = some r) : J_ Γ 55 [(0, vr (some a0)), (2, vi (v2))] [vi (s0)] σ 0 0 := by
  have C0 := C1.1
  unfold f_X11_longest_B55 at hf
  refine J_istore_n (q := 56) (lv' := [(1, vi (s0)), (0, vr (some a0)), (2, vi (v2))]) C0 rfl (G_nl C1 (by decide)) dX11_longest_55 rfl rfl ?_
  refine J_iinc (q := 59) (v := v2 + 1) (lv' := [(2, vi (v2 + 1)), (1, vi (s0)), (0, vr (some a0))]) C0 2 rfl rfl (G_nl C1 (by decide)) dX11_longest_56 rfl rfl ?_
  refine J_goto (q := 4) C0 dX11_longest_59 (by decide) ?_
  refine J_sub (lv' := [(0, vr (some a0)), (1, vi (s0)), (2, vi (v2 + 1))]) [2, 1, 0] rfl ?_
  exact hk4 (s0) (v2 + 1)  hf
set_option maxHeartbeats 4000000 in
set_option maxRecDepth 100000 in
theorem t_X11_longest_L4 {N : Nat} {a0 : Nat} {Γ : Gm} {σ : Sg} {r : Int32} (C1 : CM Γ cX11_longest RX11 3 (some .int) 2 42 0 0 (fun r_ τ_ => (r_ = some (vi r)) ∧ τ_ = σ)) (hT : sg_T σ) (h0 : is_A σ a0 10) : ∀ (n : Nat) (v1 : Int32) (v2 : Int32), f_X11_longest_L4 N a0  n v1 v2 σ = some r → J_ Γ 4 [(0, vr (some a0)), (1, vi (v1)), (2, vi (v2))] [] σ 0 0 := by
  have C0 := C1.1
  intro n
  induction n with
  | zero => intro v1 v2  hf; unfold f_X11_longest_L4 at hf; cases hf
  | succ n ih =>
    intro v1 v2  hf
    rw [f_X11_longest_L4] at hf
    refine J_iload_n (q := 5) C0 2 rfl rfl dX11_longest_4 rfl ?_
    refine J_aload_n (q := 6) C0 0 rfl rfl dX11_longest_5 rfl trivial ?_
    refine J_getR (q := 9) C0 fl_X11_75_10 rfl (h0) rfl dX11_longest_6 rfl ?_
    refine K_some hf (fun b1 hb1 hf => ?_)
    have ab1 : is_A σ b1 6 := ((sg_T.op hT (j := 13) (h0) rfl)) b1 hb1
    refine J_getI (q := 12) C0 fl_X11_150_6 hb1 (ab1) rfl dX11_longest_9 rfl ?_
    refine J_icmp_ge (t := 62) (q := 15) C0 dX11_longest_12 (by decide) rfl hf (fun c2 hf => ?_) (fun c2 hf => ?_)
    · refine J_iload_n (q := 63) C0 1 rfl rfl dX11_longest_62 rfl ?_
      obtain rfl := Option.some.inj hf; exact J_iret C1 dX11_longest_63 rfl (Nat.zero_le _) (Nat.zero_le _) ⟨rfl, rfl⟩
    · refine J_aload_n (q := 16) C0 0 rfl rfl dX11_longest_15 rfl trivial ?_
      refine J_aload_n (q := 17) C0 0 rfl rfl dX11_longest_16 rfl trivial ?_
      refine J_getR (q := 20) C0 fl_X11_75_10 rfl (h0) rfl dX11_longest_17 rfl ?_
      refine J_getR (q := 23) C0 fl_X11_153_6 hb1 (ab1) rfl dX11_longest_20 rfl ?_
      refine J_iload_n (q := 24) C0 2 rfl rfl dX11_longest_23 rfl ?_
      refine K_some hf (fun b3 hb3 hf => ?_)
      have ab3 : is_A σ b3 18 := ((sg_T.op hT (j := 0) (ab1) rfl)) b3 hb3
      refine K_chk hf (fun c4 hf => ?_)
      refine J_aald (q := 25) C0 hb3 (ab3) (by decide) c4 dX11_longest_24 rfl ?_
      refine K_some hf (fun p5 hp5 hf => ?_)
      refine J_callV (q := 28) (ci := 10) (as := [vr (sg_R σ b3 (v2).toNatClampNeg)]) (rest := []) C0 rfl (h0) (t_X11_stripOf a0 (sg_R σ b3 (v2).toNatClampNeg) (hT) (h0) ((sg_T.op hT (j := (v2).toNatClampNeg) (ab3) rfl)) hp5) ml_X11_stripOf lk_X11_162 im_X11_stripOf se_X11_stripOf rfl (by decide) dX11_longest_25 rfl rfl rfl (by simp [ac_]) C1.room (by decide) (by decide) (by decide) (by decide) (fun r_ τ_ hQ => ?_)
      obtain ⟨⟨rfl, op5⟩, ht_⟩ := hQ; have ht_ := ht_.symm; subst ht_
      show J_ Γ 28 [(0, vr (some a0)), (1, vi (v1)), (2, vi (v2))] [vr (p5)] σ 0 0
      refine K_some hf (fun b6 hb6 hf => ?_)
      have ab6 : is_A σ b6 7 := (op5) b6 hb6
      refine K_some hf (fun p7 hp7 hf => ?_)
      refine J_callV (q := 31) (ci := 7) (as := []) (rest := []) C0 hb6 (ab6) (t_X8_size b6  (hT) (ab6)  hp7) ml_X8_size lk_X11_166 im_X8_size se_X8_size rfl (by decide) dX11_longest_28 rfl rfl rfl (by simp [ac_]) C1.room (by decide) (by decide) (by decide) (by decide) (fun r_ τ_ hQ => ?_)
      obtain ⟨rfl, ht_⟩ := hQ; have ht_ := ht_.symm; subst ht_
      show J_ Γ 31 [(0, vr (some a0)), (1, vi (v1)), (2, vi (v2))] [vi (p7)] σ 0 0
      refine J_aload_n (q := 32) C0 0 rfl rfl dX11_longest_31 rfl trivial ?_
      refine J_aload_n (q := 33) C0 0 rfl rfl dX11_longest_32 rfl trivial ?_
      refine J_getR (q := 36) C0 fl_X11_75_10 rfl (h0) rfl dX11_longest_33 rfl ?_
      refine J_getR (q := 39) C0 fl_X11_153_6 hb1 (ab1) rfl dX11_longest_36 rfl ?_
      refine J_iload_n (q := 40) C0 1 rfl rfl dX11_longest_39 rfl ?_
      refine K_chk hf (fun c8 hf => ?_)
      refine J_aald (q := 41) C0 hb3 (ab3) (by decide) c8 dX11_longest_40 rfl ?_
      refine K_some hf (fun p9 hp9 hf => ?_)
      refine J_callV (q := 44) (ci := 10) (as := [vr (sg_R σ b3 (v1).toNatClampNeg)]) (rest := [vi (p7)]) C0 rfl (h0) (t_X11_stripOf a0 (sg_R σ b3 (v1).toNatClampNeg) (hT) (h0) ((sg_T.op hT (j := (v1).toNatClampNeg) (ab3) rfl)) hp9) ml_X11_stripOf lk_X11_162 im_X11_stripOf se_X11_stripOf rfl (by decide) dX11_longest_41 rfl rfl rfl (by simp [ac_]) C1.room (by decide) (by decide) (by decide) (by decide) (fun r_ τ_ hQ => ?_)
      obtain ⟨⟨rfl, op9⟩, ht_⟩ := hQ; have ht_ := ht_.symm; subst ht_
      show J_ Γ 44 [(0, vr (some a0)), (1, vi (v1)), (2, vi (v2))] [vr (p9), vi (p7)] σ 0 0
      refine K_some hf (fun b10 hb10 hf => ?_)
      have ab10 : is_A σ b10 7 := (op9) b10 hb10
      refine K_some hf (fun p11 hp11 hf => ?_)
      refine J_callV (q := 47) (ci := 7) (as := []) (rest := [vi (p7)]) C0 hb10 (ab10) (t_X8_size b10  (hT) (ab10)  hp11) ml_X8_size lk_X11_166 im_X8_size se_X8_size rfl (by decide) dX11_longest_44 rfl rfl rfl (by simp [ac_]) C1.room (by decide) (by decide) (by decide) (by decide) (fun r_ τ_ hQ => ?_)
      obtain ⟨rfl, ht_⟩ := hQ; have ht_ := ht_.symm; subst ht_
      show J_ Γ 47 [(0, vr (some a0)), (1, vi (v1)), (2, vi (v2))] [vi (p11), vi (p7)] σ 0 0
      refine J_icmp_le (t := 54) (q := 50) C0 dX11_longest_47 (by decide) rfl hf (fun c12 hf => ?_) (fun c12 hf => ?_)
      · refine J_iload_n (q := 55) C0 1 rfl rfl dX11_longest_54 rfl ?_
        refine J_sub (lv' := [(0, vr (some a0)), (2, vi (v2))]) [0, 2] rfl ?_
        exact t_X11_longest_B55 C1 (hT) (h0) (fun v1 v2 => f_X11_longest_L4 N a0 n v1 v2 σ)  ih  (v2) (v1)  hf
      · refine J_iload_n (q := 51) C0 2 rfl rfl dX11_longest_50 rfl ?_
        refine J_goto (q := 55) C0 dX11_longest_51 (by decide) ?_
        refine J_sub (lv' := [(0, vr (some a0)), (2, vi (v2))]) [0, 2] rfl ?_
        exact t_X11_longest_B55 C1 (hT) (h0) (fun v1 v2 => f_X11_longest_L4 N a0 n v1 v2 σ)  ih  (v2) (v2)  hf
set_option maxHeartbeats 4000000 in
set_option maxRecDepth 100000 in
theorem t_X11_longest (N : Nat) (a0 : Nat) {σ : Sg} (hT : sg_T σ) (h0 : is_A σ a0 10) {r : Int32} (hf : f_X11_longest N a0  σ = some r) : Ct yX11_longest cX11_longest 3 (some .int) 2 42 0 0 [vr (some a0)] σ (fun r_ τ_ => (r_ = some (vi r)) ∧ τ_ = σ) := by
  refine Ct.of (by decide +kernel) (Nat.le_of_ble_eq_true rfl) (fun Γ C1 => ?_)
  have C0 := C1.1
  unfold f_X11_longest at hf
  show J_ Γ 0 [(0, vr (some a0))] [] σ 0 0
  refine J_iconst (q := 1) (v := 0) C0 dX11_longest_0 rfl rfl ?_
  refine J_istore_n (q := 2) (lv' := [(1, vi (0)), (0, vr (some a0))]) C0 rfl (G_nl C1 (by decide)) dX11_longest_1 rfl rfl ?_
  refine J_iconst (q := 3) (v := 1) C0 dX11_longest_2 rfl rfl ?_
  refine J_istore_n (q := 4) (lv' := [(2, vi (1)), (1, vi (0)), (0, vr (some a0))]) C0 rfl (G_nl C1 (by decide)) dX11_longest_3 rfl rfl ?_
  refine J_sub (lv' := [(0, vr (some a0)), (1, vi (0)), (2, vi (1))]) [2, 1, 0] rfl ?_
  exact t_X11_longest_L4 C1 (hT) (h0)    N (0) (1)  hf
def f_X11_commonest_B77 (N : Nat) (a0 : Nat) (k6 : Int32 → Int32 → Int32 → Option Int32) (v1 : Int32) (v2 : Int32) (v3 : Int32) (σ : Sg) : Option Int32 :=
  k6 (v1) (v2) (v3 + 1)
def f_X11_commonest_B57 (N : Nat) (a0 : Nat) (k6 : Int32 → Int32 → Int32 → Option Int32) (k18 : Int32 → Int32 → Int32 → Int32 → Int32 → Option Int32) (v1 : Int32) (v2 : Int32) (v3 : Int32) (v5 : Int32) (s0 : Int32) (s1 : Int32) (σ : Sg) : Option Int32 :=
  k18 (v1) (v2) (v3) ((s1) + (s0)) (v5 + 1)
def f_X11_commonest_B56 (N : Nat) (a0 : Nat) (k6 : Int32 → Int32 → Int32 → Option Int32) (k18 : Int32 → Int32 → Int32 → Int32 → Int32 → Option Int32) (v1 : Int32) (v2 : Int32) (v3 : Int32) (v5 : Int32) (s0 : Int32) (σ : Sg) : Option Int32 :=
  f_X11_commonest_B57 N a0 k6 k18 (v1) (v2) (v3) (v5) (0) (s0) σ
def f_X11_commonest_L18 (N : Nat) (a0 : Nat) (k6 : Int32 → Int32 → Int32 → Option Int32) : Nat → Int32 → Int32 → Int32 → Int32 → Int32 → Sg → Option Int32
  | 0, _, _, _, _, _, _ => none
  | n + 1, v1, v2, v3, v4, v5, σ =>
  if (v5) < (sg_I σ a0 9) then
  (Option.bind (f_X11_isStrip a0 (v5) σ) fun p4 =>
  if (p4) = (0) then
  (f_X11_commonest_B56 N a0 k6 (fun v1 v2 v3 v4 v5 => f_X11_commonest_L18 N a0 k6 n v1 v2 v3 v4 v5 σ) (v1) (v2) (v3) (v5) (v4) σ)
  else
  (Option.bind (sg_R σ a0 8) fun b6 =>
  if (v5) < 0 ∨ sg_L σ b6 ≤ (v5).toNatClampNeg then none else
  Option.bind (sg_R σ b6 (v5).toNatClampNeg) fun b8 =>
  Option.bind (f_X8_has N b8 (v3) σ) fun p9 =>
  if (p9) = (0) then
  (f_X11_commonest_B56 N a0 k6 (fun v1 v2 v3 v4 v5 => f_X11_commonest_L18 N a0 k6 n v1 v2 v3 v4 v5 σ) (v1) (v2) (v3) (v5) (v4) σ)
  else
  (f_X11_commonest_B57 N a0 k6 (fun v1 v2 v3 v4 v5 => f_X11_commonest_L18 N a0 k6 n v1 v2 v3 v4 v5 σ) (v1) (v2) (v3) (v5) (1) (v4) σ)))
  else
  (if (v2) < (v4) then
  (f_X11_commonest_B77 N a0 k6 (v3) (v4) (v3) σ)
  else
  (f_X11_commonest_B77 N a0 k6 (v1) (v2) (v3) σ))
def f_X11_commonest_L6 (N : Nat) (a0 : Nat) : Nat → Int32 → Int32 → Int32 → Sg → Option Int32
  | 0, _, _, _, _ => none
  | n + 1, v1, v2, v3, σ =>
  if (v3) < (26) then
  (f_X11_commonest_L18 N a0 (fun v1 v2 v3 => f_X11_commonest_L6 N a0 n v1 v2 v3 σ) N (v1) (v2) (v3) (0) (0) σ)
  else
  (some (v1))
def f_X11_commonest (N : Nat) (a0 : Nat) (σ : Sg) : Option Int32 :=
  f_X11_commonest_L6 N a0 N ((-1)) (0) (0) σ
set_option maxHeartbeats 4000000 in
set_option maxRecDepth 100000 in
theorem t_X11_commonest_B77 {N : Nat} {a0 : Nat} {Γ : Gm} {σ : Sg} {r : Int32} (C1 : CM Γ cX11_commonest RX11 6 (some .int) 1 26 0 0 (fun r_ τ_ => (r_ = some (vi r)) ∧ τ_ = σ)) (hT : sg_T σ) (h0 : is_A σ a0 10) (k6 : Int32 → Int32 → Int32 → Option Int32) (hk6 : ∀ (v1 : Int32) (v2 : Int32) (v3 : Int32) , k6 v1 v2 v3 = some r → J_ Γ 6 [(0, vr (some a0)), (1, vi v1), (2, vi v2), (3, vi v3)] [] σ 0 0) (v1 : Int32) (v2 : Int32) (v3 : Int32) (hf : f_X11_commonest_B77 N a0 k6  v1 v2 v3 σ = some r) : J_ Γ 77 [(0, vr (some a0)), (1, vi (v1)), (2, vi (v2)), (3, vi (v3))] [] σ 0 0 := by
  have C0 := C1.1
  unfold f_X11_commonest_B77 at hf
  refine J_iinc (q := 80) (v := v3 + 1) (lv' := [(3, vi (v3 + 1)), (0, vr (some a0)), (1, vi (v1)), (2, vi (v2))]) C0 3 rfl rfl (G_nl C1 (by decide)) dX11_commonest_77 rfl rfl ?_
  refine J_goto (q := 6) C0 dX11_commonest_80 (by decide) ?_
  refine J_sub (lv' := [(0, vr (some a0)), (1, vi (v1)), (2, vi (v2)), (3, vi (v3 + 1))]) [1, 2, 3, 0] rfl ?_
  exact hk6 (v1) (v2) (v3 + 1)  hf
set_option maxHeartbeats 4000000 in
set_option maxRecDepth 100000 in
theorem t_X11_commonest_B57 {N : Nat} {a0 : Nat} {Γ : Gm} {σ : Sg} {r : Int32} (C1 : CM Γ cX11_commonest RX11 6 (some .int) 1 26 0 0 (fun r_ τ_ => (r_ = some (vi r)) ∧ τ_ = σ)) (hT : sg_T σ) (h0 : is_A σ a0 10) (k6 : Int32 → Int32 → Int32 → Option Int32) (k18 : Int32 → Int32 → Int32 → Int32 → Int32 → Option Int32) (hk6 : ∀ (v1 : Int32) (v2 : Int32) (v3 : Int32) , k6 v1 v2 v3 = some r → J_ Γ 6 [(0, vr (some a0)), (1, vi v1), (2, vi v2), (3, vi v3)] [] σ 0 0) (hk18 : ∀ (v1 : Int32) (v2 : Int32) (v3 : Int32) (v4 : Int32) (v5 : Int32) , k18 v1 v2 v3 v4 v5 = some r → J_ Γ 18 [(0, vr (some a0)), (1, vi v1), (2, vi v2), (3, vi v3), (4, vi v4), (5, vi v5)] [] σ 0 0) (v1 : Int32) (v2 : Int32) (v3 : Int32) (v5 : Int32) (s0 : Int32) (s1 : Int32) (hf : f_X11_commonest_B57 N a0 k6 k18  v1 v2 v3 v5 s0 s1 σ = some r) : J_ Γ 57 [(0, vr (some a0)), (1, vi (v1)), (2, vi (v2)), (3, vi (v3)), (5, vi (v5))] [vi (s0), vi (s1)] σ 0 0 := by
  have C0 := C1.1
  unfold f_X11_commonest_B57 at hf
  refine J_iadd (q := 58) C0 dX11_commonest_57 rfl ?_
  refine J_istore (q := 60) (lv' := [(4, vi ((s1) + (s0))), (0, vr (some a0)), (1, vi (v1)), (2, vi (v2)), (3, vi (v3)), (5, vi (v5))]) C0 (G_nl C1 (by decide)) dX11_commonest_58 rfl rfl ?_
  refine J_iinc (q := 63) (v := v5 + 1) (lv' := [(5, vi (v5 + 1)), (4, vi ((s1) + (s0))), (0, vr (some a0)), (1, vi (v1)), (2, vi (v2)), (3, vi (v3))]) C0 5 rfl rfl (G_nl C1 (by decide)) dX11_commonest_60 rfl rfl ?_
  refine J_goto (q := 18) C0 dX11_commonest_63 (by decide) ?_
  refine J_sub (lv' := [(0, vr (some a0)), (1, vi (v1)), (2, vi (v2)), (3, vi (v3)), (4, vi ((s1) + (s0))), (5, vi (v5 + 1))]) [2, 3, 4, 5, 1, 0] rfl ?_
  exact hk18 (v1) (v2) (v3) ((s1) + (s0)) (v5 + 1)  hf
set_option maxHeartbeats 4000000 in
set_option maxRecDepth 100000 in
theorem t_X11_commonest_B56 {N : Nat} {a0 : Nat} {Γ : Gm} {σ : Sg} {r : Int32} (C1 : CM Γ cX11_commonest RX11 6 (some .int) 1 26 0 0 (fun r_ τ_ => (r_ = some (vi r)) ∧ τ_ = σ)) (hT : sg_T σ) (h0 : is_A σ a0 10) (k6 : Int32 → Int32 → Int32 → Option Int32) (k18 : Int32 → Int32 → Int32 → Int32 → Int32 → Option Int32) (hk6 : ∀ (v1 : Int32) (v2 : Int32) (v3 : Int32) , k6 v1 v2 v3 = some r → J_ Γ 6 [(0, vr (some a0)), (1, vi v1), (2, vi v2), (3, vi v3)] [] σ 0 0) (hk18 : ∀ (v1 : Int32) (v2 : Int32) (v3 : Int32) (v4 : Int32) (v5 : Int32) , k18 v1 v2 v3 v4 v5 = some r → J_ Γ 18 [(0, vr (some a0)), (1, vi v1), (2, vi v2), (3, vi v3), (4, vi v4), (5, vi v5)] [] σ 0 0) (v1 : Int32) (v2 : Int32) (v3 : Int32) (v5 : Int32) (s0 : Int32) (hf : f_X11_commonest_B56 N a0 k6 k18  v1 v2 v3 v5 s0 σ = some r) : J_ Γ 56 [(0, vr (some a0)), (1, vi (v1)), (2, vi (v2)), (3, vi (v3)), (5, vi (v5))] [vi (s0)] σ 0 0 := by
  have C0 := C1.1
  unfold f_X11_commonest_B56 at hf
  refine J_iconst (q := 57) (v := 0) C0 dX11_commonest_56 rfl rfl ?_
  exact t_X11_commonest_B57 C1 (hT) (h0) k6  k18  hk6  hk18  (v1) (v2) (v3) (v5) (0) (s0)  hf
set_option maxHeartbeats 4000000 in
set_option maxRecDepth 100000 in
theorem t_X11_commonest_L18 {N : Nat} {a0 : Nat} {Γ : Gm} {σ : Sg} {r : Int32} (C1 : CM Γ cX11_commonest RX11 6 (some .int) 1 26 0 0 (fun r_ τ_ => (r_ = some (vi r)) ∧ τ_ = σ)) (hT : sg_T σ) (h0 : is_A σ a0 10) (k6 : Int32 → Int32 → Int32 → Option Int32) (hk6 : ∀ (v1 : Int32) (v2 : Int32) (v3 : Int32) , k6 v1 v2 v3 = some r → J_ Γ 6 [(0, vr (some a0)), (1, vi v1), (2, vi v2), (3, vi v3)] [] σ 0 0) : ∀ (n : Nat) (v1 : Int32) (v2 : Int32) (v3 : Int32) (v4 : Int32) (v5 : Int32), f_X11_commonest_L18 N a0 k6  n v1 v2 v3 v4 v5 σ = some r → J_ Γ 18 [(0, vr (some a0)), (1, vi (v1)), (2, vi (v2)), (3, vi (v3)), (4, vi (v4)), (5, vi (v5))] [] σ 0 0 := by
  have C0 := C1.1
  intro n
  induction n with
  | zero => intro v1 v2 v3 v4 v5  hf; unfold f_X11_commonest_L18 at hf; cases hf
  | succ n ih =>
    intro v1 v2 v3 v4 v5  hf
    rw [f_X11_commonest_L18] at hf
    refine J_iload (q := 20) C0 5 rfl dX11_commonest_18 rfl ?_
    refine J_aload_n (q := 21) C0 0 rfl rfl dX11_commonest_20 rfl trivial ?_
    refine J_getI (q := 24) C0 fl_X11_56_10 rfl (h0) rfl dX11_commonest_21 rfl ?_
    refine J_icmp_ge (t := 66) (q := 27) C0 dX11_commonest_24 (by decide) rfl hf (fun c2 hf => ?_) (fun c2 hf => ?_)
    · refine J_iload (q := 68) C0 4 rfl dX11_commonest_66 rfl ?_
      refine J_iload_n (q := 69) C0 2 rfl rfl dX11_commonest_68 rfl ?_
      refine J_icmp_le (t := 77) (q := 72) C0 dX11_commonest_69 (by decide) rfl hf (fun c3 hf => ?_) (fun c3 hf => ?_)
      · refine J_sub (lv' := [(0, vr (some a0)), (1, vi (v1)), (2, vi (v2)), (3, vi (v3))]) [0, 1, 2, 3] rfl ?_
        exact t_X11_commonest_B77 C1 (hT) (h0) k6  hk6  (v1) (v2) (v3)  hf
      · refine J_iload_n (q := 73) C0 3 rfl rfl dX11_commonest_72 rfl ?_
        refine J_istore_n (q := 74) (lv' := [(1, vi (v3)), (0, vr (some a0)), (2, vi (v2)), (3, vi (v3)), (4, vi (v4)), (5, vi (v5))]) C0 rfl (G_nl C1 (by decide)) dX11_commonest_73 rfl rfl ?_
        refine J_iload (q := 76) C0 4 rfl dX11_commonest_74 rfl ?_
        refine J_istore_n (q := 77) (lv' := [(2, vi (v4)), (1, vi (v3)), (0, vr (some a0)), (3, vi (v3)), (4, vi (v4)), (5, vi (v5))]) C0 rfl (G_nl C1 (by decide)) dX11_commonest_76 rfl rfl ?_
        refine J_sub (lv' := [(0, vr (some a0)), (1, vi (v3)), (2, vi (v4)), (3, vi (v3))]) [2, 1, 0, 3] rfl ?_
        exact t_X11_commonest_B77 C1 (hT) (h0) k6  hk6  (v3) (v4) (v3)  hf
    · refine J_iload (q := 29) C0 4 rfl dX11_commonest_27 rfl ?_
      refine J_aload_n (q := 30) C0 0 rfl rfl dX11_commonest_29 rfl trivial ?_
      refine J_iload (q := 32) C0 5 rfl dX11_commonest_30 rfl ?_
      refine K_some hf (fun p4 hp4 hf => ?_)
      refine J_callV (q := 35) (ci := 10) (as := [vi (v5)]) (rest := [vi (v4)]) C0 rfl (h0) (t_X11_isStrip a0 (v5) (hT) (h0)  hp4) ml_X11_isStrip lk_X11_221 im_X11_isStrip se_X11_isStrip rfl (by decide) dX11_commonest_32 rfl rfl rfl (by simp [ac_]) C1.room (by decide) (by decide) (by decide) (by decide) (fun r_ τ_ hQ => ?_)
      obtain ⟨⟨rfl, zp4⟩, ht_⟩ := hQ; have ht_ := ht_.symm; subst ht_
      show J_ Γ 35 [(0, vr (some a0)), (1, vi (v1)), (2, vi (v2)), (3, vi (v3)), (4, vi (v4)), (5, vi (v5))] [vi (p4), vi (v4)] σ 0 0
      refine J_if_eq (t := 56) (q := 38) C0 dX11_commonest_35 (by decide) rfl hf (fun c5 hf => ?_) (fun c5 hf => ?_)
      · refine J_sub (lv' := [(0, vr (some a0)), (1, vi (v1)), (2, vi (v2)), (3, vi (v3)), (5, vi (v5))]) [0, 1, 2, 3, 5] rfl ?_
        exact t_X11_commonest_B56 C1 (hT) (h0) k6  (fun v1 v2 v3 v4 v5 => f_X11_commonest_L18 N a0 k6 n v1 v2 v3 v4 v5 σ)  hk6  ih  (v1) (v2) (v3) (v5) (v4)  hf
      · refine J_aload_n (q := 39) C0 0 rfl rfl dX11_commonest_38 rfl trivial ?_
        refine J_getR (q := 42) C0 fl_X11_52_10 rfl (h0) rfl dX11_commonest_39 rfl ?_
        refine J_iload (q := 44) C0 5 rfl dX11_commonest_42 rfl ?_
        refine K_some hf (fun b6 hb6 hf => ?_)
        have ab6 : is_A σ b6 17 := ((sg_T.op hT (j := 8) (h0) rfl)) b6 hb6
        refine K_chk hf (fun c7 hf => ?_)
        refine J_aald (q := 45) C0 hb6 (ab6) (by decide) c7 dX11_commonest_44 rfl ?_
        refine J_iload_n (q := 46) C0 3 rfl rfl dX11_commonest_45 rfl ?_
        refine K_some hf (fun b8 hb8 hf => ?_)
        have ab8 : is_A σ b8 7 := ((sg_T.op hT (j := (v5).toNatClampNeg) (ab6) rfl)) b8 hb8
        refine K_some hf (fun p9 hp9 hf => ?_)
        refine J_callV (q := 49) (ci := 7) (as := [vi (v3)]) (rest := [vi (v4)]) C0 hb8 (ab8) (t_X8_has N b8 (v3) (hT) (ab8)  hp9) ml_X8_has lk_X11_412 im_X8_has se_X8_has rfl (by decide) dX11_commonest_46 rfl rfl rfl (by simp [ac_]) C1.room (by decide) (by decide) (by decide) (by decide) (fun r_ τ_ hQ => ?_)
        obtain ⟨⟨rfl, zp9⟩, ht_⟩ := hQ; have ht_ := ht_.symm; subst ht_
        show J_ Γ 49 [(0, vr (some a0)), (1, vi (v1)), (2, vi (v2)), (3, vi (v3)), (4, vi (v4)), (5, vi (v5))] [vi (p9), vi (v4)] σ 0 0
        refine J_if_eq (t := 56) (q := 52) C0 dX11_commonest_49 (by decide) rfl hf (fun c10 hf => ?_) (fun c10 hf => ?_)
        · refine J_sub (lv' := [(0, vr (some a0)), (1, vi (v1)), (2, vi (v2)), (3, vi (v3)), (5, vi (v5))]) [0, 1, 2, 3, 5] rfl ?_
          exact t_X11_commonest_B56 C1 (hT) (h0) k6  (fun v1 v2 v3 v4 v5 => f_X11_commonest_L18 N a0 k6 n v1 v2 v3 v4 v5 σ)  hk6  ih  (v1) (v2) (v3) (v5) (v4)  hf
        · refine J_iconst (q := 53) (v := 1) C0 dX11_commonest_52 rfl rfl ?_
          refine J_goto (q := 57) C0 dX11_commonest_53 (by decide) ?_
          refine J_sub (lv' := [(0, vr (some a0)), (1, vi (v1)), (2, vi (v2)), (3, vi (v3)), (5, vi (v5))]) [0, 1, 2, 3, 5] rfl ?_
          exact t_X11_commonest_B57 C1 (hT) (h0) k6  (fun v1 v2 v3 v4 v5 => f_X11_commonest_L18 N a0 k6 n v1 v2 v3 v4 v5 σ)  hk6  ih  (v1) (v2) (v3) (v5) (1) (v4)  hf
set_option maxHeartbeats 4000000 in
set_option maxRecDepth 100000 in
theorem t_X11_commonest_L6 {N : Nat} {a0 : Nat} {Γ : Gm} {σ : Sg} {r : Int32} (C1 : CM Γ cX11_commonest RX11 6 (some .int) 1 26 0 0 (fun r_ τ_ => (r_ = some (vi r)) ∧ τ_ = σ)) (hT : sg_T σ) (h0 : is_A σ a0 10) : ∀ (n : Nat) (v1 : Int32) (v2 : Int32) (v3 : Int32), f_X11_commonest_L6 N a0  n v1 v2 v3 σ = some r → J_ Γ 6 [(0, vr (some a0)), (1, vi (v1)), (2, vi (v2)), (3, vi (v3))] [] σ 0 0 := by
  have C0 := C1.1
  intro n
  induction n with
  | zero => intro v1 v2 v3  hf; unfold f_X11_commonest_L6 at hf; cases hf
  | succ n ih =>
    intro v1 v2 v3  hf
    rw [f_X11_commonest_L6] at hf
    refine J_iload_n (q := 7) C0 3 rfl rfl dX11_commonest_6 rfl ?_
    refine J_bipush (q := 9) (v := 26) C0 dX11_commonest_7 rfl rfl ?_
    refine J_icmp_ge (t := 83) (q := 12) C0 dX11_commonest_9 (by decide) rfl hf (fun c1 hf => ?_) (fun c1 hf => ?_)
    · refine J_iload_n (q := 84) C0 1 rfl rfl dX11_commonest_83 rfl ?_
      obtain rfl := Option.some.inj hf; exact J_iret C1 dX11_commonest_84 rfl (Nat.zero_le _) (Nat.zero_le _) ⟨rfl, rfl⟩
    · refine J_iconst (q := 13) (v := 0) C0 dX11_commonest_12 rfl rfl ?_
      refine J_istore (q := 15) (lv' := [(4, vi (0)), (0, vr (some a0)), (1, vi (v1)), (2, vi (v2)), (3, vi (v3))]) C0 (G_nl C1 (by decide)) dX11_commonest_13 rfl rfl ?_
      refine J_iconst (q := 16) (v := 0) C0 dX11_commonest_15 rfl rfl ?_
      refine J_istore (q := 18) (lv' := [(5, vi (0)), (4, vi (0)), (0, vr (some a0)), (1, vi (v1)), (2, vi (v2)), (3, vi (v3))]) C0 (G_nl C1 (by decide)) dX11_commonest_16 rfl rfl ?_
      refine J_sub (lv' := [(0, vr (some a0)), (1, vi (v1)), (2, vi (v2)), (3, vi (v3)), (4, vi (0)), (5, vi (0))]) [2, 3, 4, 5, 1, 0] rfl ?_
      exact t_X11_commonest_L18 C1 (hT) (h0)  (fun v1 v2 v3 => f_X11_commonest_L6 N a0 n v1 v2 v3 σ)  ih  N (v1) (v2) (v3) (0) (0)  hf
set_option maxHeartbeats 4000000 in
set_option maxRecDepth 100000 in
theorem t_X11_commonest (N : Nat) (a0 : Nat) {σ : Sg} (hT : sg_T σ) (h0 : is_A σ a0 10) {r : Int32} (hf : f_X11_commonest N a0  σ = some r) : Ct yX11_commonest cX11_commonest 6 (some .int) 1 26 0 0 [vr (some a0)] σ (fun r_ τ_ => (r_ = some (vi r)) ∧ τ_ = σ) := by
  refine Ct.of (by decide +kernel) (Nat.le_of_ble_eq_true rfl) (fun Γ C1 => ?_)
  have C0 := C1.1
  unfold f_X11_commonest at hf
  show J_ Γ 0 [(0, vr (some a0))] [] σ 0 0
  refine J_iconst (q := 1) (v := (-1)) C0 dX11_commonest_0 rfl rfl ?_
  refine J_istore_n (q := 2) (lv' := [(1, vi ((-1))), (0, vr (some a0))]) C0 rfl (G_nl C1 (by decide)) dX11_commonest_1 rfl rfl ?_
  refine J_iconst (q := 3) (v := 0) C0 dX11_commonest_2 rfl rfl ?_
  refine J_istore_n (q := 4) (lv' := [(2, vi (0)), (1, vi ((-1))), (0, vr (some a0))]) C0 rfl (G_nl C1 (by decide)) dX11_commonest_3 rfl rfl ?_
  refine J_iconst (q := 5) (v := 0) C0 dX11_commonest_4 rfl rfl ?_
  refine J_istore_n (q := 6) (lv' := [(3, vi (0)), (2, vi (0)), (1, vi ((-1))), (0, vr (some a0))]) C0 rfl (G_nl C1 (by decide)) dX11_commonest_5 rfl rfl ?_
  refine J_sub (lv' := [(0, vr (some a0)), (1, vi ((-1))), (2, vi (0)), (3, vi (0))]) [3, 2, 1, 0] rfl ?_
  exact t_X11_commonest_L6 C1 (hT) (h0)    N ((-1)) (0) (0)  hf
