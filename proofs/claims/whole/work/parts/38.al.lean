def f_X10_init (a0 : Nat) (σ : Sg) : Option Sg :=
  some (put_I (put_I (put_I (put_I σ a0 0 (0)) a0 1 (0)) a0 2 (0)) a0 3 (0))
set_option maxHeartbeats 4000000 in
set_option maxRecDepth 100000 in
theorem e_X10_init {a0 : Nat} {σ : Sg} {r : Sg} (hf : f_X10_init a0  σ = some r) : sg_E σ r := by
  unfold f_X10_init at hf
  obtain rfl := Option.some.inj hf; exact ((((sg_E.rf).putI).putI).putI).putI
set_option maxHeartbeats 4000000 in
set_option maxRecDepth 100000 in
theorem t_X10_init (a0 : Nat) {σ : Sg} (hT : sg_T σ) (h0 : is_A σ a0 9) {r : Sg} (hf : f_X10_init a0  σ = some r) {mc ms : Nat} (hc : sg_N r ≤ mc + sg_N σ ∧ sg_S r ≤ ms + sg_S σ) : Ct yX10_init cX10_init 1 none 1 20 mc ms [vr (some a0)] σ (fun r_ τ_ => (r_ = none) ∧ τ_ = r ∧ sg_T τ_ ∧ sg_E σ τ_) := by
  refine Ct.ofI (by decide +kernel) (Nat.le_of_ble_eq_true rfl) (fun Γ C1 hin => ?_)
  have C0 := C1.1
  have hin : Γ.2.2.2.2.2.2.2.2.1.name = "<init>" := hin
  obtain ⟨k_, hk0⟩ : ∃ t : Nat, t = 0 := ⟨_, rfl⟩
  obtain ⟨n_, hn0⟩ : ∃ t : Nat, t = 0 := ⟨_, rfl⟩
  have hc : k_ + sg_N r ≤ mc + sg_N σ ∧ n_ + sg_S r ≤ ms + sg_S σ := by omega
  have hE : sg_E σ σ := sg_E.rf
  unfold f_X10_init at hf
  have goal9 : J_ Γ 0 [(0, vr (some a0))] [] σ k_ n_ := by
    refine J_aload_n (q := 1) C0 0 rfl rfl dX10_init_0 rfl trivial ?_
    refine J_objInit (q := 4) C0 rfl lk_X10_1 im_obj co_obj dX10_init_1 rfl (by simp [ac_]) C1.room (by decide) (by decide) ?_
    refine J_aload_n (q := 5) C0 0 rfl rfl dX10_init_4 rfl trivial ?_
    refine J_iconst (q := 6) (v := 0) C0 dX10_init_5 rfl rfl ?_
    refine J_putI (q := 9) C0 fl_X10_7_9 rfl (h0) rfl dX10_init_6 rfl ?_
    refine J_aload_n (q := 10) C0 0 rfl rfl dX10_init_9 rfl trivial ?_
    refine J_iconst (q := 11) (v := 0) C0 dX10_init_10 rfl rfl ?_
    refine J_putZ (q := 14) C0 (Or.inl rfl) fl_X10_13_9 rfl ((h0).putI) rfl dX10_init_11 rfl ?_
    refine J_aload_n (q := 15) C0 0 rfl rfl dX10_init_14 rfl trivial ?_
    refine J_iconst (q := 16) (v := 0) C0 dX10_init_15 rfl rfl ?_
    refine J_putI (q := 19) C0 fl_X10_17_9 rfl (((h0).putI).putI) rfl dX10_init_16 rfl ?_
    refine J_aload_n (q := 20) C0 0 rfl rfl dX10_init_19 rfl trivial ?_
    refine J_iconst (q := 21) (v := 0) C0 dX10_init_20 rfl rfl ?_
    refine J_putI (q := 24) C0 fl_X10_20_9 rfl ((((h0).putI).putI).putI) rfl dX10_init_21 rfl ?_
    obtain rfl := Option.some.inj hf; exact J_vret C1 dX10_init_24 rfl (by have h9 : k_ + sg_N (put_I (put_I (put_I (put_I σ a0 0 (0)) a0 1 (0)) a0 2 (0)) a0 3 (0)) ≤ mc + sg_N (put_I (put_I (put_I (put_I σ a0 0 (0)) a0 1 (0)) a0 2 (0)) a0 3 (0)) ∧ n_ + sg_S (put_I (put_I (put_I (put_I σ a0 0 (0)) a0 1 (0)) a0 2 (0)) a0 3 (0)) ≤ ms + sg_S (put_I (put_I (put_I (put_I σ a0 0 (0)) a0 1 (0)) a0 2 (0)) a0 3 (0)) := hc; omega) (by have h9 : k_ + sg_N (put_I (put_I (put_I (put_I σ a0 0 (0)) a0 1 (0)) a0 2 (0)) a0 3 (0)) ≤ mc + sg_N (put_I (put_I (put_I (put_I σ a0 0 (0)) a0 1 (0)) a0 2 (0)) a0 3 (0)) ∧ n_ + sg_S (put_I (put_I (put_I (put_I σ a0 0 (0)) a0 1 (0)) a0 2 (0)) a0 3 (0)) ≤ ms + sg_S (put_I (put_I (put_I (put_I σ a0 0 (0)) a0 1 (0)) a0 2 (0)) a0 3 (0)) := hc; omega) ⟨rfl, rfl, ((((hT).putI).putI).putI).putI, ((((hE).putI).putI).putI).putI⟩
  rw [hk0, hn0] at goal9
  exact goal9
def f_X8_init (a0 : Nat) (e1 : Option Nat) (σ : Sg) : Option Sg :=
  some (put_R σ a0 0 (e1))
set_option maxHeartbeats 4000000 in
set_option maxRecDepth 100000 in
theorem e_X8_init {a0 : Nat} {e1 : Option Nat} {σ : Sg} {r : Sg} (hf : f_X8_init a0 e1 σ = some r) : sg_E σ r := by
  unfold f_X8_init at hf
  obtain rfl := Option.some.inj hf; exact (sg_E.rf).putR
set_option maxHeartbeats 4000000 in
set_option maxRecDepth 100000 in
theorem t_X8_init (a0 : Nat) (e1 : Option Nat) {σ : Sg} (hT : sg_T σ) (h0 : is_A σ a0 7) (g1 : is_O σ e1 12) {r : Sg} (hf : f_X8_init a0 e1 σ = some r) {mc ms : Nat} (hc : sg_N r ≤ mc + sg_N σ ∧ sg_S r ≤ ms + sg_S σ) : Ct yX8_init cX8_init 2 none 1 20 mc ms [vr (some a0), vr e1] σ (fun r_ τ_ => (r_ = none) ∧ τ_ = r ∧ sg_T τ_ ∧ sg_E σ τ_) := by
  refine Ct.ofI (by decide +kernel) (Nat.le_of_ble_eq_true rfl) (fun Γ C1 hin => ?_)
  have C0 := C1.1
  have hin : Γ.2.2.2.2.2.2.2.2.1.name = "<init>" := hin
  obtain ⟨k_, hk0⟩ : ∃ t : Nat, t = 0 := ⟨_, rfl⟩
  obtain ⟨n_, hn0⟩ : ∃ t : Nat, t = 0 := ⟨_, rfl⟩
  have hc : k_ + sg_N r ≤ mc + sg_N σ ∧ n_ + sg_S r ≤ ms + sg_S σ := by omega
  have hE : sg_E σ σ := sg_E.rf
  unfold f_X8_init at hf
  have goal9 : J_ Γ 0 [(0, vr (some a0)), (1, vr (e1))] [] σ k_ n_ := by
    refine J_aload_n (q := 1) C0 0 rfl rfl dX8_init_0 rfl trivial ?_
    refine J_objInit (q := 4) C0 rfl lk_X8_3 im_obj co_obj dX8_init_1 rfl (by simp [ac_]) C1.room (by decide) (by decide) ?_
    refine J_aload_n (q := 5) C0 0 rfl rfl dX8_init_4 rfl trivial ?_
    refine J_aload_n (q := 6) C0 1 rfl rfl dX8_init_5 rfl trivial ?_
    refine J_putFR (q := 9) C0 hin rfl fl_X8_9_7 rfl (h0) rfl dX8_init_6 rfl ?_
    obtain rfl := Option.some.inj hf; exact J_vret C1 dX8_init_9 rfl (by have h9 : k_ + sg_N (put_R σ a0 0 (e1)) ≤ mc + sg_N (put_R σ a0 0 (e1)) ∧ n_ + sg_S (put_R σ a0 0 (e1)) ≤ ms + sg_S (put_R σ a0 0 (e1)) := hc; omega) (by have h9 : k_ + sg_N (put_R σ a0 0 (e1)) ≤ mc + sg_N (put_R σ a0 0 (e1)) ∧ n_ + sg_S (put_R σ a0 0 (e1)) ≤ ms + sg_S (put_R σ a0 0 (e1)) := hc; omega) ⟨rfl, rfl, (sg_T.putR hT (by rw [(h0).2]; exact g1)), (hE).putR⟩
  rw [hk0, hn0] at goal9
  exact goal9
def f_X2_init_B9 (a0 : Nat) (v1 : Option Nat) (s0 : Option Nat) (s1 : Option Nat) (σ : Sg) : Option Sg :=
  Option.bind (s1) fun b3 =>
  some (put_R (put_I (put_R σ b3 1 (s0)) a0 2 (0)) a0 0 (v1))
def f_X2_init (a0 : Nat) (e1 : Option Nat) (σ : Sg) : Option Sg :=
  f_X2_init_B9 a0 (e1) (some (sg_N σ)) (some a0) (new_C σ 12 (64 : Int32).toNatClampNeg)
set_option maxHeartbeats 4000000 in
set_option maxRecDepth 100000 in
theorem e_X2_init_B9 {a0 : Nat} {r : Sg} {v1 : Option Nat} {s0 : Option Nat} {s1 : Option Nat} {σ : Sg} (hf : f_X2_init_B9 a0  v1 s0 s1 σ = some r) : sg_E σ r := by
  unfold f_X2_init_B9 at hf
  refine K_some hf (fun b3 hb3 hf => ?_)
  obtain rfl := Option.some.inj hf; exact (((sg_E.rf).putR).putI).putR
set_option maxHeartbeats 4000000 in
set_option maxRecDepth 100000 in
theorem e_X2_init {a0 : Nat} {e1 : Option Nat} {σ : Sg} {r : Sg} (hf : f_X2_init a0 e1 σ = some r) : sg_E σ r := by
  unfold f_X2_init at hf
  exact ((sg_E.rf).new).tr (e_X2_init_B9  hf)
set_option maxHeartbeats 4000000 in
set_option maxRecDepth 100000 in
theorem t_X2_init_B9 {a0 : Nat} {Γ : Gm} {σ0 : Sg} {r : Sg} {mc ms : Nat} (C1 : CM Γ cX2_init RX2 2 none 1 20 mc ms (fun r_ τ_ => (r_ = none) ∧ τ_ = r ∧ sg_T τ_ ∧ sg_E σ0 τ_)) (hin : Γ.2.2.2.2.2.2.2.2.1.name = "<init>") (v1 : Option Nat) (s0 : Option Nat) (s1 : Option Nat) (σ : Sg) (hT : sg_T σ) (hE : sg_E σ0 σ) (h0 : is_A σ a0 2) (g_v1 : is_O σ v1 12) (g_s0 : is_O σ s0 12) (g_s1 : is_O σ s1 2) (k_ n_ : Nat) (hc : (k_ + sg_N r ≤ mc + sg_N σ ∧ n_ + sg_S r ≤ ms + sg_S σ)) (hf : f_X2_init_B9 a0  v1 s0 s1 σ = some r) : J_ Γ 9 [(0, vr (some a0)), (1, vr (v1))] [vr (s0), vr (s1)] σ k_ n_ := by
  have C0 := C1.1
  unfold f_X2_init_B9 at hf
  refine K_some hf (fun b3 hb3 hf => ?_)
  have ab3 : is_A σ b3 2 := (g_s1) b3 hb3
  refine J_putFR (q := 12) C0 hin rfl fl_X2_7_2 hb3 (ab3) rfl dX2_init_9 rfl ?_
  refine J_aload_n (q := 13) C0 0 rfl rfl dX2_init_12 rfl trivial ?_
  refine J_iconst (q := 14) (v := 0) C0 dX2_init_13 rfl rfl ?_
  refine J_putI (q := 17) C0 fl_X2_13_2 rfl ((h0).putR) rfl dX2_init_14 rfl ?_
  refine J_aload_n (q := 18) C0 0 rfl rfl dX2_init_17 rfl trivial ?_
  refine J_aload_n (q := 19) C0 1 rfl rfl dX2_init_18 rfl trivial ?_
  refine J_putFR (q := 22) C0 hin rfl fl_X2_17_2 rfl (((h0).putR).putI) rfl dX2_init_19 rfl ?_
  obtain rfl := Option.some.inj hf; exact J_vret C1 dX2_init_22 rfl (by have h9 : k_ + sg_N (put_R (put_I (put_R σ b3 1 (s0)) a0 2 (0)) a0 0 (v1)) ≤ mc + sg_N (put_R (put_I (put_R σ b3 1 (s0)) a0 2 (0)) a0 0 (v1)) ∧ n_ + sg_S (put_R (put_I (put_R σ b3 1 (s0)) a0 2 (0)) a0 0 (v1)) ≤ ms + sg_S (put_R (put_I (put_R σ b3 1 (s0)) a0 2 (0)) a0 0 (v1)) := hc; omega) (by have h9 : k_ + sg_N (put_R (put_I (put_R σ b3 1 (s0)) a0 2 (0)) a0 0 (v1)) ≤ mc + sg_N (put_R (put_I (put_R σ b3 1 (s0)) a0 2 (0)) a0 0 (v1)) ∧ n_ + sg_S (put_R (put_I (put_R σ b3 1 (s0)) a0 2 (0)) a0 0 (v1)) ≤ ms + sg_S (put_R (put_I (put_R σ b3 1 (s0)) a0 2 (0)) a0 0 (v1)) := hc; omega) ⟨rfl, rfl, (sg_T.putR ((sg_T.putR hT (by rw [(ab3).2]; exact g_s0))).putI (by rw [(((h0).putR).putI).2]; exact (fun b_ h_ => ((fun b_ h_ => (g_v1 b_ h_).putR) b_ h_).putI))), (((hE).putR).putI).putR⟩
set_option maxHeartbeats 4000000 in
set_option maxRecDepth 100000 in
theorem t_X2_init (a0 : Nat) (e1 : Option Nat) {σ : Sg} (hT : sg_T σ) (h0 : is_A σ a0 2) (g1 : is_O σ e1 12) {r : Sg} (hf : f_X2_init a0 e1 σ = some r) {mc ms : Nat} (hc : sg_N r ≤ mc + sg_N σ ∧ sg_S r ≤ ms + sg_S σ) : Ct yX2_init cX2_init 2 none 1 20 mc ms [vr (some a0), vr e1] σ (fun r_ τ_ => (r_ = none) ∧ τ_ = r ∧ sg_T τ_ ∧ sg_E σ τ_) := by
  refine Ct.ofI (by decide +kernel) (Nat.le_of_ble_eq_true rfl) (fun Γ C1 hin => ?_)
  have C0 := C1.1
  have hin : Γ.2.2.2.2.2.2.2.2.1.name = "<init>" := hin
  obtain ⟨k_, hk0⟩ : ∃ t : Nat, t = 0 := ⟨_, rfl⟩
  obtain ⟨n_, hn0⟩ : ∃ t : Nat, t = 0 := ⟨_, rfl⟩
  have hc : k_ + sg_N r ≤ mc + sg_N σ ∧ n_ + sg_S r ≤ ms + sg_S σ := by omega
  have hE : sg_E σ σ := sg_E.rf
  unfold f_X2_init at hf
  have goal9 : J_ Γ 0 [(0, vr (some a0)), (1, vr (e1))] [] σ k_ n_ := by
    refine J_aload_n (q := 1) C0 0 rfl rfl dX2_init_0 rfl trivial ?_
    refine J_objInit (q := 4) C0 rfl lk_X2_1 im_obj co_obj dX2_init_1 rfl (by simp [ac_]) C1.room (by decide) (by decide) ?_
    refine J_aload_n (q := 5) C0 0 rfl rfl dX2_init_4 rfl trivial ?_
    refine J_bipush (q := 7) (v := 64) C0 dX2_init_5 rfl rfl ?_
    have hm_ := e_X2_init_B9  hf
    have hk_ : k_ + 1 ≤ mc ∧ n_ + (64 : Int32).toNatClampNeg ≤ ms := by have := hm_.1; have := hm_.slots; have := sg_S_new σ 12 (64 : Int32).toNatClampNeg; have : sg_N (new_C σ 12 (64 : Int32).toNatClampNeg) = sg_N σ + 1 := rfl; have : ce_ 12 (64 : Int32).toNatClampNeg = (64 : Int32).toNatClampNeg := rfl; have := (show k_ + sg_N r ≤ mc + sg_N σ ∧ n_ + sg_S r ≤ ms + sg_S σ from hc); omega
    refine J_newa (at_ := .int) (kd := 12) (q := 9) C0 (by simp) wt_a_int dX2_init_7 rfl (by decide) (by decide) C1.room hk_.1 hk_.2 ?_
    have hc2 : (k_ + 1) + sg_N r ≤ mc + sg_N (new_C σ 12 (64 : Int32).toNatClampNeg) ∧ (n_ + (64 : Int32).toNatClampNeg) + sg_S r ≤ ms + sg_S (new_C σ 12 (64 : Int32).toNatClampNeg) := by have := sg_S_new σ 12 (64 : Int32).toNatClampNeg; have : sg_N (new_C σ 12 (64 : Int32).toNatClampNeg) = sg_N σ + 1 := rfl; have : ce_ 12 (64 : Int32).toNatClampNeg = (64 : Int32).toNatClampNeg := rfl; have := (show k_ + sg_N r ≤ mc + sg_N σ ∧ n_ + sg_S r ≤ ms + sg_S σ from hc); omega
    exact t_X2_init_B9 C1 hin    (e1) (some (sg_N σ)) (some a0) (new_C σ 12 (64 : Int32).toNatClampNeg) ((hT).new) ((hE).new) ((h0).new) ((fun b_ h_ => (g1 b_ h_).new)) (is_O.some (is_A.born σ 12 (64 : Int32).toNatClampNeg)) (is_O.some ((h0).new)) ((k_ + 1)) ((n_ + (64 : Int32).toNatClampNeg)) hc2 hf
  rw [hk0, hn0] at goal9
  exact goal9
def f_X7_init_B73 (N : Nat) (a0 : Nat) (k52 : Int32 → Sg → Option Sg) (v1 : Int32) (s0 : Option Nat) (s1 : Int32) (s2 : Option Nat) (σ : Sg) : Option Sg :=
  Option.bind (s2) fun b14 =>
  Option.bind (s0) fun b15 =>
  if (s1) < 0 ∨ sg_L σ b14 ≤ (s1).toNatClampNeg then none else
  k52 (v1 + 1) (put_R σ b14 (s1).toNatClampNeg (some b15))
def f_X7_init_B69 (N : Nat) (a0 : Nat) (k52 : Int32 → Sg → Option Sg) (v1 : Int32) (s0 : Option Nat) (s1 : Int32) (s2 : Option Nat) (σ : Sg) : Option Sg :=
  Option.bind (s0) fun b11 =>
  Option.bind (f_X10_init b11  σ) fun p12 =>
  f_X7_init_B73 N a0 k52 (v1) (s0) (s1) (s2) (p12)
def f_X7_init_L52 (N : Nat) (a0 : Nat) : Nat → Int32 → Sg → Option Sg
  | 0, _, _ => none
  | n + 1, v1, σ =>
  Option.bind (sg_R σ a0 0) fun b7 =>
  if (v1) < (Int32.ofNat (sg_L σ b7)) then
  (f_X7_init_B69 N a0 (f_X7_init_L52 N a0 n) (v1) (some (sg_N σ)) (v1) (sg_R σ a0 0) (new_C σ 9 0))
  else
  (some (σ))
def f_X7_init_B42 (N : Nat) (a0 : Nat) (s0 : Option Nat) (s1 : Option Nat) (σ : Sg) : Option Sg :=
  Option.bind (s1) fun b6 =>
  f_X7_init_L52 N a0 N (0) (put_I (put_R σ b6 6 (s0)) a0 7 (0))
def f_X7_init_B9 (N : Nat) (a0 : Nat) (s0 : Option Nat) (s1 : Option Nat) (σ : Sg) : Option Sg :=
  Option.bind (s1) fun b3 =>
  f_X7_init_B42 N a0 (some (sg_N (put_I (put_I (put_I (put_I (put_I (put_R σ b3 0 (s0)) a0 1 (0)) a0 2 (0)) a0 3 (0)) a0 4 (0)) a0 5 (0)))) (some a0) (new_C (put_I (put_I (put_I (put_I (put_I (put_R σ b3 0 (s0)) a0 1 (0)) a0 2 (0)) a0 3 (0)) a0 4 (0)) a0 5 (0)) 12 (60 : Int32).toNatClampNeg)
def f_X7_init (N : Nat) (a0 : Nat) (σ : Sg) : Option Sg :=
  f_X7_init_B9 N a0 (some (sg_N σ)) (some a0) (new_C σ 18 (4 : Int32).toNatClampNeg)
set_option maxHeartbeats 4000000 in
set_option maxRecDepth 100000 in
theorem e_X7_init_B73 {N : Nat} {a0 : Nat} {k52 : Int32 → Sg → Option Sg} {r : Sg} (hm52 : ∀ (v1 : Int32) (σ : Sg), k52 v1 σ = some r → sg_E σ r) {v1 : Int32} {s0 : Option Nat} {s1 : Int32} {s2 : Option Nat} {σ : Sg} (hf : f_X7_init_B73 N a0 k52  v1 s0 s1 s2 σ = some r) : sg_E σ r := by
  unfold f_X7_init_B73 at hf
  refine K_some hf (fun b14 hb14 hf => ?_)
  refine K_some hf (fun b15 hb15 hf => ?_)
  refine K_chk hf (fun c16 hf => ?_)
  exact ((sg_E.rf).putR).tr (hm52 (v1 + 1) (put_R σ b14 (s1).toNatClampNeg (some b15)) hf)
set_option maxHeartbeats 4000000 in
set_option maxRecDepth 100000 in
theorem e_X7_init_B69 {N : Nat} {a0 : Nat} {k52 : Int32 → Sg → Option Sg} {r : Sg} (hm52 : ∀ (v1 : Int32) (σ : Sg), k52 v1 σ = some r → sg_E σ r) {v1 : Int32} {s0 : Option Nat} {s1 : Int32} {s2 : Option Nat} {σ : Sg} (hf : f_X7_init_B69 N a0 k52  v1 s0 s1 s2 σ = some r) : sg_E σ r := by
  unfold f_X7_init_B69 at hf
  refine K_some hf (fun b11 hb11 hf => ?_)
  refine K_some hf (fun p12 hp12 hf => ?_)
  exact ((sg_E.rf).tr (e_X10_init hp12)).tr (e_X7_init_B73 hm52 hf)
set_option maxHeartbeats 4000000 in
set_option maxRecDepth 100000 in
theorem e_X7_init_L52 {N : Nat} {a0 : Nat} {r : Sg} : ∀ {n : Nat} {v1 : Int32} {σ : Sg}, f_X7_init_L52 N a0  n v1 σ = some r → sg_E σ r := by
  intro n
  induction n with
  | zero => intro v1 σ hf; unfold f_X7_init_L52 at hf; cases hf
  | succ n ih =>
    intro v1 σ hf
    rw [f_X7_init_L52] at hf
    refine K_some hf (fun b7 hb7 hf => ?_)
    refine K_ite hf (fun c_ hf => ?_) (fun c_ hf => ?_)
    · exact ((sg_E.rf).new).tr (e_X7_init_B69 (fun _ σ hf => ih hf) hf)
    · obtain rfl := Option.some.inj hf; exact sg_E.rf
set_option maxHeartbeats 4000000 in
set_option maxRecDepth 100000 in
theorem e_X7_init_B42 {N : Nat} {a0 : Nat} {r : Sg} {s0 : Option Nat} {s1 : Option Nat} {σ : Sg} (hf : f_X7_init_B42 N a0  s0 s1 σ = some r) : sg_E σ r := by
  unfold f_X7_init_B42 at hf
  refine K_some hf (fun b6 hb6 hf => ?_)
  exact (((sg_E.rf).putR).putI).tr (e_X7_init_L52  hf)
set_option maxHeartbeats 4000000 in
set_option maxRecDepth 100000 in
theorem e_X7_init_B9 {N : Nat} {a0 : Nat} {r : Sg} {s0 : Option Nat} {s1 : Option Nat} {σ : Sg} (hf : f_X7_init_B9 N a0  s0 s1 σ = some r) : sg_E σ r := by
  unfold f_X7_init_B9 at hf
  refine K_some hf (fun b3 hb3 hf => ?_)
  exact ((((((((sg_E.rf).putR).putI).putI).putI).putI).putI).new).tr (e_X7_init_B42  hf)
set_option maxHeartbeats 4000000 in
set_option maxRecDepth 100000 in
theorem e_X7_init {N : Nat} {a0 : Nat} {σ : Sg} {r : Sg} (hf : f_X7_init N a0  σ = some r) : sg_E σ r := by
  unfold f_X7_init at hf
  exact ((sg_E.rf).new).tr (e_X7_init_B9  hf)
set_option maxHeartbeats 4000000 in
set_option maxRecDepth 100000 in
theorem t_X7_init_B73 {N : Nat} {a0 : Nat} {Γ : Gm} {σ0 : Sg} {r : Sg} {mc ms : Nat} (C1 : CM Γ cX7_init RX7 2 none 2 40 mc ms (fun r_ τ_ => (r_ = none) ∧ τ_ = r ∧ sg_T τ_ ∧ sg_E σ0 τ_)) (hin : Γ.2.2.2.2.2.2.2.2.1.name = "<init>") (k52 : Int32 → Sg → Option Sg) (hk52 : ∀ (v1 : Int32) (σ : Sg), sg_T σ → sg_E σ0 σ → is_A σ a0 6 → ∀ (k_ n_ : Nat), (k_ + sg_N r ≤ mc + sg_N σ ∧ n_ + sg_S r ≤ ms + sg_S σ) → k52 v1 σ = some r → J_ Γ 52 [(0, vr (some a0)), (1, vi v1)] [] σ k_ n_) (hm52 : ∀ (v1 : Int32) (σ : Sg), k52 v1 σ = some r → sg_E σ r) (v1 : Int32) (s0 : Option Nat) (s1 : Int32) (s2 : Option Nat) (σ : Sg) (hT : sg_T σ) (hE : sg_E σ0 σ) (h0 : is_A σ a0 6) (g_s0 : is_O σ s0 9) (g_s2 : is_O σ s2 18) (k_ n_ : Nat) (hc : (k_ + sg_N r ≤ mc + sg_N σ ∧ n_ + sg_S r ≤ ms + sg_S σ)) (hf : f_X7_init_B73 N a0 k52  v1 s0 s1 s2 σ = some r) : J_ Γ 73 [(0, vr (some a0)), (1, vi (v1))] [vr (s0), vi (s1), vr (s2)] σ k_ n_ := by
  have C0 := C1.1
  unfold f_X7_init_B73 at hf
  refine K_some hf (fun b14 hb14 hf => ?_)
  have ab14 : is_A σ b14 18 := (g_s2) b14 hb14
  refine K_some hf (fun b15 hb15 hf => ?_)
  have ab15 : is_A σ b15 9 := (g_s0) b15 hb15
  refine K_chk hf (fun c16 hf => ?_)
  refine J_aastN (kd := 18) (ci := 9) (q := 74) C0 hb14 (ab14) (by decide) hb15 (ab15) c16 dX7_init_73 rfl ?_
  refine J_iinc (q := 77) (v := v1 + 1) (lv' := [(1, vi (v1 + 1)), (0, vr (some a0))]) C0 1 rfl rfl (G_nl C1 (by decide)) dX7_init_74 rfl rfl ?_
  refine J_goto (q := 52) C0 dX7_init_77 (by decide) ?_
  refine J_sub (lv' := [(0, vr (some a0)), (1, vi (v1 + 1))]) [1, 0] rfl ?_
  exact hk52 (v1 + 1) (put_R σ b14 (s1).toNatClampNeg (some b15)) ((sg_T.putR hT (by rw [(ab14).2]; exact is_O.some (ab15)))) ((hE).putR)  ((h0).putR)  (k_) (n_) hc hf
set_option maxHeartbeats 4000000 in
set_option maxRecDepth 100000 in
theorem t_X7_init_B69 {N : Nat} {a0 : Nat} {Γ : Gm} {σ0 : Sg} {r : Sg} {mc ms : Nat} (C1 : CM Γ cX7_init RX7 2 none 2 40 mc ms (fun r_ τ_ => (r_ = none) ∧ τ_ = r ∧ sg_T τ_ ∧ sg_E σ0 τ_)) (hin : Γ.2.2.2.2.2.2.2.2.1.name = "<init>") (k52 : Int32 → Sg → Option Sg) (hk52 : ∀ (v1 : Int32) (σ : Sg), sg_T σ → sg_E σ0 σ → is_A σ a0 6 → ∀ (k_ n_ : Nat), (k_ + sg_N r ≤ mc + sg_N σ ∧ n_ + sg_S r ≤ ms + sg_S σ) → k52 v1 σ = some r → J_ Γ 52 [(0, vr (some a0)), (1, vi v1)] [] σ k_ n_) (hm52 : ∀ (v1 : Int32) (σ : Sg), k52 v1 σ = some r → sg_E σ r) (v1 : Int32) (s0 : Option Nat) (s1 : Int32) (s2 : Option Nat) (σ : Sg) (hT : sg_T σ) (hE : sg_E σ0 σ) (h0 : is_A σ a0 6) (g_s0 : is_O σ s0 9) (g_s2 : is_O σ s2 18) (k_ n_ : Nat) (hc : (k_ + sg_N r ≤ mc + sg_N σ ∧ n_ + sg_S r ≤ ms + sg_S σ)) (hf : f_X7_init_B69 N a0 k52  v1 s0 s1 s2 σ = some r) : J_ Γ 69 [(0, vr (some a0)), (1, vi (v1))] [vr (s0), vi (s1), vr (s2)] σ k_ n_ := by
  have C0 := C1.1
  unfold f_X7_init_B69 at hf
  refine J_dup (q := 70) C0 dX7_init_69 rfl rfl ?_
  refine K_some hf (fun b11 hb11 hf => ?_)
  have ab11 : is_A σ b11 9 := (g_s0) b11 hb11
  refine K_some hf (fun p12 hp12 hf => ?_)
  have hm_ := e_X7_init_B73 hm52 hf
  have he_ := e_X10_init hp12
  have hk_ : k_ + (sg_N p12 - sg_N σ) ≤ mc ∧ n_ + (sg_S p12 - sg_S σ) ≤ ms := by have := hm_.1; have := hm_.slots; have := he_.1; have := he_.slots; have := (show k_ + sg_N r ≤ mc + sg_N σ ∧ n_ + sg_S r ≤ ms + sg_S σ from hc); omega
  refine J_callIN (q := 73) (as := []) (rest := [vr (s0), vi (s1), vr (s2)]) C0 hb11 (t_X10_init b11  (hT) (ab11)  hp12 (mc := sg_N p12 - sg_N σ) (ms := sg_S p12 - sg_S σ) (by have h7 := e_X10_init hp12; have := h7.1; have := h7.slots; omega)) ml_X10_init lk_X7_40 im_X10_init rfl dX7_init_70 rfl rfl rfl (by simp [ac_]) C1.room (by decide) (by decide) hk_.1 hk_.2 (fun r_ τ_ hQ => ?_)
  obtain ⟨rfl, ht_, Tp12, Ep12⟩ := hQ; have ht_ := ht_.symm; subst ht_
  have hc13 : (k_ + (sg_N p12 - sg_N σ)) + sg_N r ≤ mc + sg_N p12 ∧ (n_ + (sg_S p12 - sg_S σ)) + sg_S r ≤ ms + sg_S p12 := by have := he_.1; have := he_.slots; have := (show k_ + sg_N r ≤ mc + sg_N σ ∧ n_ + sg_S r ≤ ms + sg_S σ from hc); omega
  show J_ Γ 73 [(0, vr (some a0)), (1, vi (v1))] [vr (s0), vi (s1), vr (s2)] p12 (k_ + (sg_N p12 - sg_N σ)) (n_ + (sg_S p12 - sg_S σ))
  exact t_X7_init_B73 C1 hin  k52  hk52 hm52  (v1) (s0) (s1) (s2) (p12) (Tp12) ((hE).tr Ep12) ((Ep12.at h0)) ((by rw [hb11]; exact is_O.some ((Ep12.at ab11)))) ((Ep12.op g_s2)) ((k_ + (sg_N p12 - sg_N σ))) ((n_ + (sg_S p12 - sg_S σ))) hc13 hf
set_option maxHeartbeats 4000000 in
set_option maxRecDepth 100000 in
theorem t_X7_init_L52 {N : Nat} {a0 : Nat} {Γ : Gm} {σ0 : Sg} {r : Sg} {mc ms : Nat} (C1 : CM Γ cX7_init RX7 2 none 2 40 mc ms (fun r_ τ_ => (r_ = none) ∧ τ_ = r ∧ sg_T τ_ ∧ sg_E σ0 τ_)) (hin : Γ.2.2.2.2.2.2.2.2.1.name = "<init>") : ∀ (n : Nat) (v1 : Int32) (σ : Sg), sg_T σ → sg_E σ0 σ → is_A σ a0 6 → ∀ (k_ n_ : Nat), (k_ + sg_N r ≤ mc + sg_N σ ∧ n_ + sg_S r ≤ ms + sg_S σ) → f_X7_init_L52 N a0  n v1 σ = some r → J_ Γ 52 [(0, vr (some a0)), (1, vi (v1))] [] σ k_ n_ := by
  have C0 := C1.1
  intro n
  induction n with
  | zero => intro v1 σ hT hE h0  k_ n_ hc hf; unfold f_X7_init_L52 at hf; cases hf
  | succ n ih =>
    intro v1 σ hT hE h0  k_ n_ hc hf
    rw [f_X7_init_L52] at hf
    refine J_iload_n (q := 53) C0 1 rfl rfl dX7_init_52 rfl ?_
    refine J_aload_n (q := 54) C0 0 rfl rfl dX7_init_53 rfl trivial ?_
    refine J_getR (q := 57) C0 fl_X7_11_6 rfl (h0) rfl dX7_init_54 rfl ?_
    refine K_some hf (fun b7 hb7 hf => ?_)
    have ab7 : is_A σ b7 18 := ((sg_T.op hT (j := 0) (h0) rfl)) b7 hb7
    refine J_alen (q := 58) C0 hb7 (ab7) (by decide) dX7_init_57 rfl ?_
    refine J_icmp_ge (t := 80) (q := 61) C0 dX7_init_58 (by decide) rfl hf (fun c8 hf => ?_) (fun c8 hf => ?_)
    · obtain rfl := Option.some.inj hf; exact J_vret C1 dX7_init_80 rfl (by have h9 : k_ + sg_N σ ≤ mc + sg_N σ ∧ n_ + sg_S σ ≤ ms + sg_S σ := hc; omega) (by have h9 : k_ + sg_N σ ≤ mc + sg_N σ ∧ n_ + sg_S σ ≤ ms + sg_S σ := hc; omega) ⟨rfl, rfl, hT, hE⟩
    · refine J_aload_n (q := 62) C0 0 rfl rfl dX7_init_61 rfl trivial ?_
      refine J_getR (q := 65) C0 fl_X7_11_6 rfl (h0) rfl dX7_init_62 rfl ?_
      refine J_iload_n (q := 66) C0 1 rfl rfl dX7_init_65 rfl ?_
      have hm_ := e_X7_init_B69 (fun _ σ hf => e_X7_init_L52 hf) hf
      have hk_ : k_ + 1 ≤ mc ∧ n_ + 4 ≤ ms := by have := hm_.1; have := hm_.slots; have := sg_S_new σ 9 0; have : sg_N (new_C σ 9 0) = sg_N σ + 1 := rfl; have : ce_ 9 0 = 4 := rfl; have := (show k_ + sg_N r ≤ mc + sg_N σ ∧ n_ + sg_S r ≤ ms + sg_S σ from hc); omega
      refine J_new (q := 69) C0 cl_X10 df_X10 kl_X7_9 in_X10 iz_X10 dX7_init_66 rfl C1.room hk_.1 hk_.2 ?_
      have hc10 : (k_ + 1) + sg_N r ≤ mc + sg_N (new_C σ 9 0) ∧ (n_ + 4) + sg_S r ≤ ms + sg_S (new_C σ 9 0) := by have := sg_S_new σ 9 0; have : sg_N (new_C σ 9 0) = sg_N σ + 1 := rfl; have : ce_ 9 0 = 4 := rfl; have := (show k_ + sg_N r ≤ mc + sg_N σ ∧ n_ + sg_S r ≤ ms + sg_S σ from hc); omega
      exact t_X7_init_B69 C1 hin  (f_X7_init_L52 N a0 n)  ih (fun _ σ hf => e_X7_init_L52 hf)  (v1) (some (sg_N σ)) (v1) (sg_R σ a0 0) (new_C σ 9 0) ((hT).new) ((hE).new) ((h0).new) (is_O.some (is_A.born σ 9 0)) ((by rw [hb7]; exact is_O.some ((ab7).new))) ((k_ + 1)) ((n_ + 4)) hc10 hf
set_option maxHeartbeats 4000000 in
set_option maxRecDepth 100000 in
theorem t_X7_init_B42 {N : Nat} {a0 : Nat} {Γ : Gm} {σ0 : Sg} {r : Sg} {mc ms : Nat} (C1 : CM Γ cX7_init RX7 2 none 2 40 mc ms (fun r_ τ_ => (r_ = none) ∧ τ_ = r ∧ sg_T τ_ ∧ sg_E σ0 τ_)) (hin : Γ.2.2.2.2.2.2.2.2.1.name = "<init>") (s0 : Option Nat) (s1 : Option Nat) (σ : Sg) (hT : sg_T σ) (hE : sg_E σ0 σ) (h0 : is_A σ a0 6) (g_s0 : is_O σ s0 12) (g_s1 : is_O σ s1 6) (k_ n_ : Nat) (hc : (k_ + sg_N r ≤ mc + sg_N σ ∧ n_ + sg_S r ≤ ms + sg_S σ)) (hf : f_X7_init_B42 N a0  s0 s1 σ = some r) : J_ Γ 42 [(0, vr (some a0))] [vr (s0), vr (s1)] σ k_ n_ := by
  have C0 := C1.1
  unfold f_X7_init_B42 at hf
  refine K_some hf (fun b6 hb6 hf => ?_)
  have ab6 : is_A σ b6 6 := (g_s1) b6 hb6
  refine J_putFR (q := 45) C0 hin rfl fl_X7_33_6 hb6 (ab6) rfl dX7_init_42 rfl ?_
  refine J_aload_n (q := 46) C0 0 rfl rfl dX7_init_45 rfl trivial ?_
  refine J_iconst (q := 47) (v := 0) C0 dX7_init_46 rfl rfl ?_
  refine J_putI (q := 50) C0 fl_X7_37_6 rfl ((h0).putR) rfl dX7_init_47 rfl ?_
  refine J_iconst (q := 51) (v := 0) C0 dX7_init_50 rfl rfl ?_
  refine J_istore_n (q := 52) (lv' := [(1, vi (0)), (0, vr (some a0))]) C0 rfl (G_nl C1 (by decide)) dX7_init_51 rfl rfl ?_
  refine J_sub (lv' := [(0, vr (some a0)), (1, vi (0))]) [1, 0] rfl ?_
  exact t_X7_init_L52 C1 hin    N (0) (put_I (put_R σ b6 6 (s0)) a0 7 (0)) (((sg_T.putR hT (by rw [(ab6).2]; exact g_s0))).putI) (((hE).putR).putI) (((h0).putR).putI)  (k_) (n_) hc hf
set_option maxHeartbeats 4000000 in
set_option maxRecDepth 100000 in
theorem t_X7_init_B9 {N : Nat} {a0 : Nat} {Γ : Gm} {σ0 : Sg} {r : Sg} {mc ms : Nat} (C1 : CM Γ cX7_init RX7 2 none 2 40 mc ms (fun r_ τ_ => (r_ = none) ∧ τ_ = r ∧ sg_T τ_ ∧ sg_E σ0 τ_)) (hin : Γ.2.2.2.2.2.2.2.2.1.name = "<init>") (s0 : Option Nat) (s1 : Option Nat) (σ : Sg) (hT : sg_T σ) (hE : sg_E σ0 σ) (h0 : is_A σ a0 6) (g_s0 : is_O σ s0 18) (g_s1 : is_O σ s1 6) (k_ n_ : Nat) (hc : (k_ + sg_N r ≤ mc + sg_N σ ∧ n_ + sg_S r ≤ ms + sg_S σ)) (hf : f_X7_init_B9 N a0  s0 s1 σ = some r) : J_ Γ 9 [(0, vr (some a0))] [vr (s0), vr (s1)] σ k_ n_ := by
  have C0 := C1.1
  unfold f_X7_init_B9 at hf
  refine K_some hf (fun b3 hb3 hf => ?_)
  have ab3 : is_A σ b3 6 := (g_s1) b3 hb3
  refine J_putFR (q := 12) C0 hin rfl fl_X7_11_6 hb3 (ab3) rfl dX7_init_9 rfl ?_
  refine J_aload_n (q := 13) C0 0 rfl rfl dX7_init_12 rfl trivial ?_
  refine J_iconst (q := 14) (v := 0) C0 dX7_init_13 rfl rfl ?_
  refine J_putI (q := 17) C0 fl_X7_17_6 rfl ((h0).putR) rfl dX7_init_14 rfl ?_
  refine J_aload_n (q := 18) C0 0 rfl rfl dX7_init_17 rfl trivial ?_
  refine J_iconst (q := 19) (v := 0) C0 dX7_init_18 rfl rfl ?_
  refine J_putI (q := 22) C0 fl_X7_21_6 rfl (((h0).putR).putI) rfl dX7_init_19 rfl ?_
  refine J_aload_n (q := 23) C0 0 rfl rfl dX7_init_22 rfl trivial ?_
  refine J_iconst (q := 24) (v := 0) C0 dX7_init_23 rfl rfl ?_
  refine J_putI (q := 27) C0 fl_X7_24_6 rfl ((((h0).putR).putI).putI) rfl dX7_init_24 rfl ?_
  refine J_aload_n (q := 28) C0 0 rfl rfl dX7_init_27 rfl trivial ?_
  refine J_iconst (q := 29) (v := 0) C0 dX7_init_28 rfl rfl ?_
  refine J_putI (q := 32) C0 fl_X7_27_6 rfl (((((h0).putR).putI).putI).putI) rfl dX7_init_29 rfl ?_
  refine J_aload_n (q := 33) C0 0 rfl rfl dX7_init_32 rfl trivial ?_
  refine J_iconst (q := 34) (v := 0) C0 dX7_init_33 rfl rfl ?_
  refine J_putI (q := 37) C0 fl_X7_30_6 rfl ((((((h0).putR).putI).putI).putI).putI) rfl dX7_init_34 rfl ?_
  refine J_aload_n (q := 38) C0 0 rfl rfl dX7_init_37 rfl trivial ?_
  refine J_bipush (q := 40) (v := 60) C0 dX7_init_38 rfl rfl ?_
  have hm_ := e_X7_init_B42  hf
  have hk_ : k_ + 1 ≤ mc ∧ n_ + (60 : Int32).toNatClampNeg ≤ ms := by have := hm_.1; have := hm_.slots; have := sg_S_new (put_I (put_I (put_I (put_I (put_I (put_R σ b3 0 (s0)) a0 1 (0)) a0 2 (0)) a0 3 (0)) a0 4 (0)) a0 5 (0)) 12 (60 : Int32).toNatClampNeg; have : sg_N (new_C (put_I (put_I (put_I (put_I (put_I (put_R σ b3 0 (s0)) a0 1 (0)) a0 2 (0)) a0 3 (0)) a0 4 (0)) a0 5 (0)) 12 (60 : Int32).toNatClampNeg) = sg_N (put_I (put_I (put_I (put_I (put_I (put_R σ b3 0 (s0)) a0 1 (0)) a0 2 (0)) a0 3 (0)) a0 4 (0)) a0 5 (0)) + 1 := rfl; have : ce_ 12 (60 : Int32).toNatClampNeg = (60 : Int32).toNatClampNeg := rfl; have := (show k_ + sg_N r ≤ mc + sg_N (put_I (put_I (put_I (put_I (put_I (put_R σ b3 0 (s0)) a0 1 (0)) a0 2 (0)) a0 3 (0)) a0 4 (0)) a0 5 (0)) ∧ n_ + sg_S r ≤ ms + sg_S (put_I (put_I (put_I (put_I (put_I (put_R σ b3 0 (s0)) a0 1 (0)) a0 2 (0)) a0 3 (0)) a0 4 (0)) a0 5 (0)) from hc); omega
  refine J_newa (at_ := .int) (kd := 12) (q := 42) C0 (by simp) wt_a_int dX7_init_40 rfl (by decide) (by decide) C1.room hk_.1 hk_.2 ?_
  have hc5 : (k_ + 1) + sg_N r ≤ mc + sg_N (new_C (put_I (put_I (put_I (put_I (put_I (put_R σ b3 0 (s0)) a0 1 (0)) a0 2 (0)) a0 3 (0)) a0 4 (0)) a0 5 (0)) 12 (60 : Int32).toNatClampNeg) ∧ (n_ + (60 : Int32).toNatClampNeg) + sg_S r ≤ ms + sg_S (new_C (put_I (put_I (put_I (put_I (put_I (put_R σ b3 0 (s0)) a0 1 (0)) a0 2 (0)) a0 3 (0)) a0 4 (0)) a0 5 (0)) 12 (60 : Int32).toNatClampNeg) := by have := sg_S_new (put_I (put_I (put_I (put_I (put_I (put_R σ b3 0 (s0)) a0 1 (0)) a0 2 (0)) a0 3 (0)) a0 4 (0)) a0 5 (0)) 12 (60 : Int32).toNatClampNeg; have : sg_N (new_C (put_I (put_I (put_I (put_I (put_I (put_R σ b3 0 (s0)) a0 1 (0)) a0 2 (0)) a0 3 (0)) a0 4 (0)) a0 5 (0)) 12 (60 : Int32).toNatClampNeg) = sg_N (put_I (put_I (put_I (put_I (put_I (put_R σ b3 0 (s0)) a0 1 (0)) a0 2 (0)) a0 3 (0)) a0 4 (0)) a0 5 (0)) + 1 := rfl; have : ce_ 12 (60 : Int32).toNatClampNeg = (60 : Int32).toNatClampNeg := rfl; have := (show k_ + sg_N r ≤ mc + sg_N (put_I (put_I (put_I (put_I (put_I (put_R σ b3 0 (s0)) a0 1 (0)) a0 2 (0)) a0 3 (0)) a0 4 (0)) a0 5 (0)) ∧ n_ + sg_S r ≤ ms + sg_S (put_I (put_I (put_I (put_I (put_I (put_R σ b3 0 (s0)) a0 1 (0)) a0 2 (0)) a0 3 (0)) a0 4 (0)) a0 5 (0)) from hc); omega
  exact t_X7_init_B42 C1 hin    (some (sg_N (put_I (put_I (put_I (put_I (put_I (put_R σ b3 0 (s0)) a0 1 (0)) a0 2 (0)) a0 3 (0)) a0 4 (0)) a0 5 (0)))) (some a0) (new_C (put_I (put_I (put_I (put_I (put_I (put_R σ b3 0 (s0)) a0 1 (0)) a0 2 (0)) a0 3 (0)) a0 4 (0)) a0 5 (0)) 12 (60 : Int32).toNatClampNeg) ((((((((sg_T.putR hT (by rw [(ab3).2]; exact g_s0))).putI).putI).putI).putI).putI).new) ((((((((hE).putR).putI).putI).putI).putI).putI).new) ((((((((h0).putR).putI).putI).putI).putI).putI).new) (is_O.some (is_A.born (put_I (put_I (put_I (put_I (put_I (put_R σ b3 0 (s0)) a0 1 (0)) a0 2 (0)) a0 3 (0)) a0 4 (0)) a0 5 (0)) 12 (60 : Int32).toNatClampNeg)) (is_O.some ((((((((h0).putR).putI).putI).putI).putI).putI).new)) ((k_ + 1)) ((n_ + (60 : Int32).toNatClampNeg)) hc5 hf
set_option maxHeartbeats 4000000 in
set_option maxRecDepth 100000 in
theorem t_X7_init (N : Nat) (a0 : Nat) {σ : Sg} (hT : sg_T σ) (h0 : is_A σ a0 6) {r : Sg} (hf : f_X7_init N a0  σ = some r) {mc ms : Nat} (hc : sg_N r ≤ mc + sg_N σ ∧ sg_S r ≤ ms + sg_S σ) : Ct yX7_init cX7_init 2 none 2 40 mc ms [vr (some a0)] σ (fun r_ τ_ => (r_ = none) ∧ τ_ = r ∧ sg_T τ_ ∧ sg_E σ τ_) := by
  refine Ct.ofI (by decide +kernel) (Nat.le_of_ble_eq_true rfl) (fun Γ C1 hin => ?_)
  have C0 := C1.1
  have hin : Γ.2.2.2.2.2.2.2.2.1.name = "<init>" := hin
  obtain ⟨k_, hk0⟩ : ∃ t : Nat, t = 0 := ⟨_, rfl⟩
  obtain ⟨n_, hn0⟩ : ∃ t : Nat, t = 0 := ⟨_, rfl⟩
  have hc : k_ + sg_N r ≤ mc + sg_N σ ∧ n_ + sg_S r ≤ ms + sg_S σ := by omega
  have hE : sg_E σ σ := sg_E.rf
  unfold f_X7_init at hf
  have goal9 : J_ Γ 0 [(0, vr (some a0))] [] σ k_ n_ := by
    refine J_aload_n (q := 1) C0 0 rfl rfl dX7_init_0 rfl trivial ?_
    refine J_objInit (q := 4) C0 rfl lk_X7_3 im_obj co_obj dX7_init_1 rfl (by simp [ac_]) C1.room (by decide) (by decide) ?_
    refine J_aload_n (q := 5) C0 0 rfl rfl dX7_init_4 rfl trivial ?_
    refine J_iconst (q := 6) (v := 4) C0 dX7_init_5 rfl rfl ?_
    have hm_ := e_X7_init_B9  hf
    have hk_ : k_ + 1 ≤ mc ∧ n_ + (4 : Int32).toNatClampNeg ≤ ms := by have := hm_.1; have := hm_.slots; have := sg_S_new σ 18 (4 : Int32).toNatClampNeg; have : sg_N (new_C σ 18 (4 : Int32).toNatClampNeg) = sg_N σ + 1 := rfl; have : ce_ 18 (4 : Int32).toNatClampNeg = (4 : Int32).toNatClampNeg := rfl; have := (show k_ + sg_N r ≤ mc + sg_N σ ∧ n_ + sg_S r ≤ ms + sg_S σ from hc); omega
    refine J_newq (kd := 18) (q := 9) C0 (by decide) kl_X7_9 dX7_init_6 rfl (by decide) (by decide) C1.room hk_.1 hk_.2 ?_
    have hc2 : (k_ + 1) + sg_N r ≤ mc + sg_N (new_C σ 18 (4 : Int32).toNatClampNeg) ∧ (n_ + (4 : Int32).toNatClampNeg) + sg_S r ≤ ms + sg_S (new_C σ 18 (4 : Int32).toNatClampNeg) := by have := sg_S_new σ 18 (4 : Int32).toNatClampNeg; have : sg_N (new_C σ 18 (4 : Int32).toNatClampNeg) = sg_N σ + 1 := rfl; have : ce_ 18 (4 : Int32).toNatClampNeg = (4 : Int32).toNatClampNeg := rfl; have := (show k_ + sg_N r ≤ mc + sg_N σ ∧ n_ + sg_S r ≤ ms + sg_S σ from hc); omega
    exact t_X7_init_B9 C1 hin    (some (sg_N σ)) (some a0) (new_C σ 18 (4 : Int32).toNatClampNeg) ((hT).new) ((hE).new) ((h0).new) (is_O.some (is_A.born σ 18 (4 : Int32).toNatClampNeg)) (is_O.some ((h0).new)) ((k_ + 1)) ((n_ + (4 : Int32).toNatClampNeg)) hc2 hf
  rw [hk0, hn0] at goal9
  exact goal9
def f_X5_init_B46 (N : Nat) (a0 : Nat) (k25 : Int32 → Sg → Option Sg) (v1 : Int32) (s0 : Option Nat) (s1 : Int32) (s2 : Option Nat) (σ : Sg) : Option Sg :=
  Option.bind (s2) fun b11 =>
  Option.bind (s0) fun b12 =>
  if (s1) < 0 ∨ sg_L σ b11 ≤ (s1).toNatClampNeg then none else
  k25 (v1 + 1) (put_R σ b11 (s1).toNatClampNeg (some b12))
def f_X5_init_B42 (N : Nat) (a0 : Nat) (k25 : Int32 → Sg → Option Sg) (v1 : Int32) (s0 : Option Nat) (s1 : Int32) (s2 : Option Nat) (σ : Sg) : Option Sg :=
  Option.bind (s0) fun b8 =>
  Option.bind (f_X7_init N b8  σ) fun p9 =>
  f_X5_init_B46 N a0 k25 (v1) (s0) (s1) (s2) (p9)
def f_X5_init_L25 (N : Nat) (a0 : Nat) : Nat → Int32 → Sg → Option Sg
  | 0, _, _ => none
  | n + 1, v1, σ =>
  Option.bind (sg_R σ a0 0) fun b4 =>
  if (v1) < (Int32.ofNat (sg_L σ b4)) then
  (f_X5_init_B42 N a0 (f_X5_init_L25 N a0 n) (v1) (some (sg_N σ)) (v1) (sg_R σ a0 0) (new_C σ 6 0))
  else
  (some (σ))
def f_X5_init_B10 (N : Nat) (a0 : Nat) (s0 : Option Nat) (s1 : Option Nat) (σ : Sg) : Option Sg :=
  Option.bind (s1) fun b3 =>
  f_X5_init_L25 N a0 N (0) (put_I (put_I (put_R σ b3 0 (s0)) a0 1 (0)) a0 2 (0))
def f_X5_init (N : Nat) (a0 : Nat) (σ : Sg) : Option Sg :=
  f_X5_init_B10 N a0 (some (sg_N σ)) (some a0) (new_C σ 16 (40 : Int32).toNatClampNeg)
set_option maxHeartbeats 4000000 in
set_option maxRecDepth 100000 in
theorem e_X5_init_B46 {N : Nat} {a0 : Nat} {k25 : Int32 → Sg → Option Sg} {r : Sg} (hm25 : ∀ (v1 : Int32) (σ : Sg), k25 v1 σ = some r → sg_E σ r) {v1 : Int32} {s0 : Option Nat} {s1 : Int32} {s2 : Option Nat} {σ : Sg} (hf : f_X5_init_B46 N a0 k25  v1 s0 s1 s2 σ = some r) : sg_E σ r := by
  unfold f_X5_init_B46 at hf
  refine K_some hf (fun b11 hb11 hf => ?_)
  refine K_some hf (fun b12 hb12 hf => ?_)
  refine K_chk hf (fun c13 hf => ?_)
  exact ((sg_E.rf).putR).tr (hm25 (v1 + 1) (put_R σ b11 (s1).toNatClampNeg (some b12)) hf)
set_option maxHeartbeats 4000000 in
set_option maxRecDepth 100000 in
theorem e_X5_init_B42 {N : Nat} {a0 : Nat} {k25 : Int32 → Sg → Option Sg} {r : Sg} (hm25 : ∀ (v1 : Int32) (σ : Sg), k25 v1 σ = some r → sg_E σ r) {v1 : Int32} {s0 : Option Nat} {s1 : Int32} {s2 : Option Nat} {σ : Sg} (hf : f_X5_init_B42 N a0 k25  v1 s0 s1 s2 σ = some r) : sg_E σ r := by
  unfold f_X5_init_B42 at hf
  refine K_some hf (fun b8 hb8 hf => ?_)
  refine K_some hf (fun p9 hp9 hf => ?_)
  exact ((sg_E.rf).tr (e_X7_init hp9)).tr (e_X5_init_B46 hm25 hf)
set_option maxHeartbeats 4000000 in
set_option maxRecDepth 100000 in
theorem e_X5_init_L25 {N : Nat} {a0 : Nat} {r : Sg} : ∀ {n : Nat} {v1 : Int32} {σ : Sg}, f_X5_init_L25 N a0  n v1 σ = some r → sg_E σ r := by
  intro n
  induction n with
  | zero => intro v1 σ hf; unfold f_X5_init_L25 at hf; cases hf
  | succ n ih =>
    intro v1 σ hf
    rw [f_X5_init_L25] at hf
    refine K_some hf (fun b4 hb4 hf => ?_)
    refine K_ite hf (fun c_ hf => ?_) (fun c_ hf => ?_)
    · exact ((sg_E.rf).new).tr (e_X5_init_B42 (fun _ σ hf => ih hf) hf)
    · obtain rfl := Option.some.inj hf; exact sg_E.rf
set_option maxHeartbeats 4000000 in
set_option maxRecDepth 100000 in
theorem e_X5_init_B10 {N : Nat} {a0 : Nat} {r : Sg} {s0 : Option Nat} {s1 : Option Nat} {σ : Sg} (hf : f_X5_init_B10 N a0  s0 s1 σ = some r) : sg_E σ r := by
  unfold f_X5_init_B10 at hf
  refine K_some hf (fun b3 hb3 hf => ?_)
  exact ((((sg_E.rf).putR).putI).putI).tr (e_X5_init_L25  hf)
set_option maxHeartbeats 4000000 in
set_option maxRecDepth 100000 in
theorem e_X5_init {N : Nat} {a0 : Nat} {σ : Sg} {r : Sg} (hf : f_X5_init N a0  σ = some r) : sg_E σ r := by
  unfold f_X5_init at hf
  exact ((sg_E.rf).new).tr (e_X5_init_B10  hf)
set_option maxHeartbeats 4000000 in
set_option maxRecDepth 100000 in
theorem t_X5_init_B46 {N : Nat} {a0 : Nat} {Γ : Gm} {σ0 : Sg} {r : Sg} {mc ms : Nat} (C1 : CM Γ cX5_init RX5 2 none 3 61 mc ms (fun r_ τ_ => (r_ = none) ∧ τ_ = r ∧ sg_T τ_ ∧ sg_E σ0 τ_)) (hin : Γ.2.2.2.2.2.2.2.2.1.name = "<init>") (k25 : Int32 → Sg → Option Sg) (hk25 : ∀ (v1 : Int32) (σ : Sg), sg_T σ → sg_E σ0 σ → is_A σ a0 5 → ∀ (k_ n_ : Nat), (k_ + sg_N r ≤ mc + sg_N σ ∧ n_ + sg_S r ≤ ms + sg_S σ) → k25 v1 σ = some r → J_ Γ 25 [(0, vr (some a0)), (1, vi v1)] [] σ k_ n_) (hm25 : ∀ (v1 : Int32) (σ : Sg), k25 v1 σ = some r → sg_E σ r) (v1 : Int32) (s0 : Option Nat) (s1 : Int32) (s2 : Option Nat) (σ : Sg) (hT : sg_T σ) (hE : sg_E σ0 σ) (h0 : is_A σ a0 5) (g_s0 : is_O σ s0 6) (g_s2 : is_O σ s2 16) (k_ n_ : Nat) (hc : (k_ + sg_N r ≤ mc + sg_N σ ∧ n_ + sg_S r ≤ ms + sg_S σ)) (hf : f_X5_init_B46 N a0 k25  v1 s0 s1 s2 σ = some r) : J_ Γ 46 [(0, vr (some a0)), (1, vi (v1))] [vr (s0), vi (s1), vr (s2)] σ k_ n_ := by
  have C0 := C1.1
  unfold f_X5_init_B46 at hf
  refine K_some hf (fun b11 hb11 hf => ?_)
  have ab11 : is_A σ b11 16 := (g_s2) b11 hb11
  refine K_some hf (fun b12 hb12 hf => ?_)
  have ab12 : is_A σ b12 6 := (g_s0) b12 hb12
  refine K_chk hf (fun c13 hf => ?_)
  refine J_aastN (kd := 16) (ci := 6) (q := 47) C0 hb11 (ab11) (by decide) hb12 (ab12) c13 dX5_init_46 rfl ?_
  refine J_iinc (q := 50) (v := v1 + 1) (lv' := [(1, vi (v1 + 1)), (0, vr (some a0))]) C0 1 rfl rfl (G_nl C1 (by decide)) dX5_init_47 rfl rfl ?_
  refine J_goto (q := 25) C0 dX5_init_50 (by decide) ?_
  refine J_sub (lv' := [(0, vr (some a0)), (1, vi (v1 + 1))]) [1, 0] rfl ?_
  exact hk25 (v1 + 1) (put_R σ b11 (s1).toNatClampNeg (some b12)) ((sg_T.putR hT (by rw [(ab11).2]; exact is_O.some (ab12)))) ((hE).putR)  ((h0).putR)  (k_) (n_) hc hf
set_option maxHeartbeats 4000000 in
set_option maxRecDepth 100000 in
theorem t_X5_init_B42 {N : Nat} {a0 : Nat} {Γ : Gm} {σ0 : Sg} {r : Sg} {mc ms : Nat} (C1 : CM Γ cX5_init RX5 2 none 3 61 mc ms (fun r_ τ_ => (r_ = none) ∧ τ_ = r ∧ sg_T τ_ ∧ sg_E σ0 τ_)) (hin : Γ.2.2.2.2.2.2.2.2.1.name = "<init>") (k25 : Int32 → Sg → Option Sg) (hk25 : ∀ (v1 : Int32) (σ : Sg), sg_T σ → sg_E σ0 σ → is_A σ a0 5 → ∀ (k_ n_ : Nat), (k_ + sg_N r ≤ mc + sg_N σ ∧ n_ + sg_S r ≤ ms + sg_S σ) → k25 v1 σ = some r → J_ Γ 25 [(0, vr (some a0)), (1, vi v1)] [] σ k_ n_) (hm25 : ∀ (v1 : Int32) (σ : Sg), k25 v1 σ = some r → sg_E σ r) (v1 : Int32) (s0 : Option Nat) (s1 : Int32) (s2 : Option Nat) (σ : Sg) (hT : sg_T σ) (hE : sg_E σ0 σ) (h0 : is_A σ a0 5) (g_s0 : is_O σ s0 6) (g_s2 : is_O σ s2 16) (k_ n_ : Nat) (hc : (k_ + sg_N r ≤ mc + sg_N σ ∧ n_ + sg_S r ≤ ms + sg_S σ)) (hf : f_X5_init_B42 N a0 k25  v1 s0 s1 s2 σ = some r) : J_ Γ 42 [(0, vr (some a0)), (1, vi (v1))] [vr (s0), vi (s1), vr (s2)] σ k_ n_ := by
  have C0 := C1.1
  unfold f_X5_init_B42 at hf
  refine J_dup (q := 43) C0 dX5_init_42 rfl rfl ?_
  refine K_some hf (fun b8 hb8 hf => ?_)
  have ab8 : is_A σ b8 6 := (g_s0) b8 hb8
  refine K_some hf (fun p9 hp9 hf => ?_)
  have hm_ := e_X5_init_B46 hm25 hf
  have he_ := e_X7_init hp9
  have hk_ : k_ + (sg_N p9 - sg_N σ) ≤ mc ∧ n_ + (sg_S p9 - sg_S σ) ≤ ms := by have := hm_.1; have := hm_.slots; have := he_.1; have := he_.slots; have := (show k_ + sg_N r ≤ mc + sg_N σ ∧ n_ + sg_S r ≤ ms + sg_S σ from hc); omega
  refine J_callI (q := 46) (as := []) (rest := [vr (s0), vi (s1), vr (s2)]) C0 hb8 (t_X7_init N b8  (hT) (ab8)  hp9 (mc := sg_N p9 - sg_N σ) (ms := sg_S p9 - sg_S σ) (by have h7 := e_X7_init hp9; have := h7.1; have := h7.slots; omega)) ml_X7_init lk_X5_24 im_X7_init rfl dX5_init_43 rfl rfl rfl (by simp [ac_]) C1.room (by decide) (by decide) hk_.1 hk_.2 (fun r_ τ_ hQ => ?_)
  obtain ⟨rfl, ht_, Tp9, Ep9⟩ := hQ; have ht_ := ht_.symm; subst ht_
  have hc10 : (k_ + (sg_N p9 - sg_N σ)) + sg_N r ≤ mc + sg_N p9 ∧ (n_ + (sg_S p9 - sg_S σ)) + sg_S r ≤ ms + sg_S p9 := by have := he_.1; have := he_.slots; have := (show k_ + sg_N r ≤ mc + sg_N σ ∧ n_ + sg_S r ≤ ms + sg_S σ from hc); omega
  show J_ Γ 46 [(0, vr (some a0)), (1, vi (v1))] [vr (s0), vi (s1), vr (s2)] p9 (k_ + (sg_N p9 - sg_N σ)) (n_ + (sg_S p9 - sg_S σ))
  exact t_X5_init_B46 C1 hin  k25  hk25 hm25  (v1) (s0) (s1) (s2) (p9) (Tp9) ((hE).tr Ep9) ((Ep9.at h0)) ((by rw [hb8]; exact is_O.some ((Ep9.at ab8)))) ((Ep9.op g_s2)) ((k_ + (sg_N p9 - sg_N σ))) ((n_ + (sg_S p9 - sg_S σ))) hc10 hf
set_option maxHeartbeats 4000000 in
set_option maxRecDepth 100000 in
theorem t_X5_init_L25 {N : Nat} {a0 : Nat} {Γ : Gm} {σ0 : Sg} {r : Sg} {mc ms : Nat} (C1 : CM Γ cX5_init RX5 2 none 3 61 mc ms (fun r_ τ_ => (r_ = none) ∧ τ_ = r ∧ sg_T τ_ ∧ sg_E σ0 τ_)) (hin : Γ.2.2.2.2.2.2.2.2.1.name = "<init>") : ∀ (n : Nat) (v1 : Int32) (σ : Sg), sg_T σ → sg_E σ0 σ → is_A σ a0 5 → ∀ (k_ n_ : Nat), (k_ + sg_N r ≤ mc + sg_N σ ∧ n_ + sg_S r ≤ ms + sg_S σ) → f_X5_init_L25 N a0  n v1 σ = some r → J_ Γ 25 [(0, vr (some a0)), (1, vi (v1))] [] σ k_ n_ := by
  have C0 := C1.1
  intro n
  induction n with
  | zero => intro v1 σ hT hE h0  k_ n_ hc hf; unfold f_X5_init_L25 at hf; cases hf
  | succ n ih =>
    intro v1 σ hT hE h0  k_ n_ hc hf
    rw [f_X5_init_L25] at hf
    refine J_iload_n (q := 26) C0 1 rfl rfl dX5_init_25 rfl ?_
    refine J_aload_n (q := 27) C0 0 rfl rfl dX5_init_26 rfl trivial ?_
    refine J_getR (q := 30) C0 fl_X5_11_5 rfl (h0) rfl dX5_init_27 rfl ?_
    refine K_some hf (fun b4 hb4 hf => ?_)
    have ab4 : is_A σ b4 16 := ((sg_T.op hT (j := 0) (h0) rfl)) b4 hb4
    refine J_alen (q := 31) C0 hb4 (ab4) (by decide) dX5_init_30 rfl ?_
    refine J_icmp_ge (t := 53) (q := 34) C0 dX5_init_31 (by decide) rfl hf (fun c5 hf => ?_) (fun c5 hf => ?_)
    · obtain rfl := Option.some.inj hf; exact J_vret C1 dX5_init_53 rfl (by have h9 : k_ + sg_N σ ≤ mc + sg_N σ ∧ n_ + sg_S σ ≤ ms + sg_S σ := hc; omega) (by have h9 : k_ + sg_N σ ≤ mc + sg_N σ ∧ n_ + sg_S σ ≤ ms + sg_S σ := hc; omega) ⟨rfl, rfl, hT, hE⟩
    · refine J_aload_n (q := 35) C0 0 rfl rfl dX5_init_34 rfl trivial ?_
      refine J_getR (q := 38) C0 fl_X5_11_5 rfl (h0) rfl dX5_init_35 rfl ?_
      refine J_iload_n (q := 39) C0 1 rfl rfl dX5_init_38 rfl ?_
      have hm_ := e_X5_init_B42 (fun _ σ hf => e_X5_init_L25 hf) hf
      have hk_ : k_ + 1 ≤ mc ∧ n_ + 8 ≤ ms := by have := hm_.1; have := hm_.slots; have := sg_S_new σ 6 0; have : sg_N (new_C σ 6 0) = sg_N σ + 1 := rfl; have : ce_ 6 0 = 8 := rfl; have := (show k_ + sg_N r ≤ mc + sg_N σ ∧ n_ + sg_S r ≤ ms + sg_S σ from hc); omega
      refine J_new (q := 42) C0 cl_X7 df_X7 kl_X5_9 in_X7 iz_X7 dX5_init_39 rfl C1.room hk_.1 hk_.2 ?_
      have hc7 : (k_ + 1) + sg_N r ≤ mc + sg_N (new_C σ 6 0) ∧ (n_ + 8) + sg_S r ≤ ms + sg_S (new_C σ 6 0) := by have := sg_S_new σ 6 0; have : sg_N (new_C σ 6 0) = sg_N σ + 1 := rfl; have : ce_ 6 0 = 8 := rfl; have := (show k_ + sg_N r ≤ mc + sg_N σ ∧ n_ + sg_S r ≤ ms + sg_S σ from hc); omega
      exact t_X5_init_B42 C1 hin  (f_X5_init_L25 N a0 n)  ih (fun _ σ hf => e_X5_init_L25 hf)  (v1) (some (sg_N σ)) (v1) (sg_R σ a0 0) (new_C σ 6 0) ((hT).new) ((hE).new) ((h0).new) (is_O.some (is_A.born σ 6 0)) ((by rw [hb4]; exact is_O.some ((ab4).new))) ((k_ + 1)) ((n_ + 8)) hc7 hf
set_option maxHeartbeats 4000000 in
set_option maxRecDepth 100000 in
theorem t_X5_init_B10 {N : Nat} {a0 : Nat} {Γ : Gm} {σ0 : Sg} {r : Sg} {mc ms : Nat} (C1 : CM Γ cX5_init RX5 2 none 3 61 mc ms (fun r_ τ_ => (r_ = none) ∧ τ_ = r ∧ sg_T τ_ ∧ sg_E σ0 τ_)) (hin : Γ.2.2.2.2.2.2.2.2.1.name = "<init>") (s0 : Option Nat) (s1 : Option Nat) (σ : Sg) (hT : sg_T σ) (hE : sg_E σ0 σ) (h0 : is_A σ a0 5) (g_s0 : is_O σ s0 16) (g_s1 : is_O σ s1 5) (k_ n_ : Nat) (hc : (k_ + sg_N r ≤ mc + sg_N σ ∧ n_ + sg_S r ≤ ms + sg_S σ)) (hf : f_X5_init_B10 N a0  s0 s1 σ = some r) : J_ Γ 10 [(0, vr (some a0))] [vr (s0), vr (s1)] σ k_ n_ := by
  have C0 := C1.1
  unfold f_X5_init_B10 at hf
  refine K_some hf (fun b3 hb3 hf => ?_)
  have ab3 : is_A σ b3 5 := (g_s1) b3 hb3
  refine J_putFR (q := 13) C0 hin rfl fl_X5_11_5 hb3 (ab3) rfl dX5_init_10 rfl ?_
  refine J_aload_n (q := 14) C0 0 rfl rfl dX5_init_13 rfl trivial ?_
  refine J_iconst (q := 15) (v := 0) C0 dX5_init_14 rfl rfl ?_
  refine J_putI (q := 18) C0 fl_X5_17_5 rfl ((h0).putR) rfl dX5_init_15 rfl ?_
  refine J_aload_n (q := 19) C0 0 rfl rfl dX5_init_18 rfl trivial ?_
  refine J_iconst (q := 20) (v := 0) C0 dX5_init_19 rfl rfl ?_
  refine J_putI (q := 23) C0 fl_X5_21_5 rfl (((h0).putR).putI) rfl dX5_init_20 rfl ?_
  refine J_iconst (q := 24) (v := 0) C0 dX5_init_23 rfl rfl ?_
  refine J_istore_n (q := 25) (lv' := [(1, vi (0)), (0, vr (some a0))]) C0 rfl (G_nl C1 (by decide)) dX5_init_24 rfl rfl ?_
  refine J_sub (lv' := [(0, vr (some a0)), (1, vi (0))]) [1, 0] rfl ?_
  exact t_X5_init_L25 C1 hin    N (0) (put_I (put_I (put_R σ b3 0 (s0)) a0 1 (0)) a0 2 (0)) ((((sg_T.putR hT (by rw [(ab3).2]; exact g_s0))).putI).putI) ((((hE).putR).putI).putI) ((((h0).putR).putI).putI)  (k_) (n_) hc hf
set_option maxHeartbeats 4000000 in
set_option maxRecDepth 100000 in
theorem t_X5_init (N : Nat) (a0 : Nat) {σ : Sg} (hT : sg_T σ) (h0 : is_A σ a0 5) {r : Sg} (hf : f_X5_init N a0  σ = some r) {mc ms : Nat} (hc : sg_N r ≤ mc + sg_N σ ∧ sg_S r ≤ ms + sg_S σ) : Ct yX5_init cX5_init 2 none 3 61 mc ms [vr (some a0)] σ (fun r_ τ_ => (r_ = none) ∧ τ_ = r ∧ sg_T τ_ ∧ sg_E σ τ_) := by
  refine Ct.ofI (by decide +kernel) (Nat.le_of_ble_eq_true rfl) (fun Γ C1 hin => ?_)
  have C0 := C1.1
  have hin : Γ.2.2.2.2.2.2.2.2.1.name = "<init>" := hin
  obtain ⟨k_, hk0⟩ : ∃ t : Nat, t = 0 := ⟨_, rfl⟩
  obtain ⟨n_, hn0⟩ : ∃ t : Nat, t = 0 := ⟨_, rfl⟩
  have hc : k_ + sg_N r ≤ mc + sg_N σ ∧ n_ + sg_S r ≤ ms + sg_S σ := by omega
  have hE : sg_E σ σ := sg_E.rf
  unfold f_X5_init at hf
  have goal9 : J_ Γ 0 [(0, vr (some a0))] [] σ k_ n_ := by
    refine J_aload_n (q := 1) C0 0 rfl rfl dX5_init_0 rfl trivial ?_
    refine J_objInit (q := 4) C0 rfl lk_X5_3 im_obj co_obj dX5_init_1 rfl (by simp [ac_]) C1.room (by decide) (by decide) ?_
    refine J_aload_n (q := 5) C0 0 rfl rfl dX5_init_4 rfl trivial ?_
    refine J_bipush (q := 7) (v := 40) C0 dX5_init_5 rfl rfl ?_
    have hm_ := e_X5_init_B10  hf
    have hk_ : k_ + 1 ≤ mc ∧ n_ + (40 : Int32).toNatClampNeg ≤ ms := by have := hm_.1; have := hm_.slots; have := sg_S_new σ 16 (40 : Int32).toNatClampNeg; have : sg_N (new_C σ 16 (40 : Int32).toNatClampNeg) = sg_N σ + 1 := rfl; have : ce_ 16 (40 : Int32).toNatClampNeg = (40 : Int32).toNatClampNeg := rfl; have := (show k_ + sg_N r ≤ mc + sg_N σ ∧ n_ + sg_S r ≤ ms + sg_S σ from hc); omega
    refine J_newq (kd := 16) (q := 10) C0 (by decide) kl_X5_9 dX5_init_7 rfl (by decide) (by decide) C1.room hk_.1 hk_.2 ?_
    have hc2 : (k_ + 1) + sg_N r ≤ mc + sg_N (new_C σ 16 (40 : Int32).toNatClampNeg) ∧ (n_ + (40 : Int32).toNatClampNeg) + sg_S r ≤ ms + sg_S (new_C σ 16 (40 : Int32).toNatClampNeg) := by have := sg_S_new σ 16 (40 : Int32).toNatClampNeg; have : sg_N (new_C σ 16 (40 : Int32).toNatClampNeg) = sg_N σ + 1 := rfl; have : ce_ 16 (40 : Int32).toNatClampNeg = (40 : Int32).toNatClampNeg := rfl; have := (show k_ + sg_N r ≤ mc + sg_N σ ∧ n_ + sg_S r ≤ ms + sg_S σ from hc); omega
    exact t_X5_init_B10 C1 hin    (some (sg_N σ)) (some a0) (new_C σ 16 (40 : Int32).toNatClampNeg) ((hT).new) ((hE).new) ((h0).new) (is_O.some (is_A.born σ 16 (40 : Int32).toNatClampNeg)) (is_O.some ((h0).new)) ((k_ + 1)) ((n_ + (40 : Int32).toNatClampNeg)) hc2 hf
  rw [hk0, hn0] at goal9
  exact goal9
def f_X0_init_B66 (a0 : Nat) (s0 : Option Nat) (s1 : Option Nat) (σ : Sg) : Option Sg :=
  Option.bind (s1) fun b19 =>
  some (put_I (put_I (put_R σ b19 7 (s0)) a0 8 (0)) a0 9 (0))
def f_X0_init_B57 (a0 : Nat) (s0 : Option Nat) (s1 : Option Nat) (σ : Sg) : Option Sg :=
  Option.bind (s1) fun b16 =>
  f_X0_init_B66 a0 (some (sg_N (put_R σ b16 6 (s0)))) (some a0) (new_C (put_R σ b16 6 (s0)) 12 (384 : Int32).toNatClampNeg)
def f_X0_init_B48 (a0 : Nat) (s0 : Option Nat) (s1 : Option Nat) (σ : Sg) : Option Sg :=
  Option.bind (s1) fun b13 =>
  f_X0_init_B57 a0 (some (sg_N (put_R σ b13 5 (s0)))) (some a0) (new_C (put_R σ b13 5 (s0)) 12 (385 : Int32).toNatClampNeg)
def f_X0_init_B30 (a0 : Nat) (s0 : Option Nat) (s1 : Option Nat) (σ : Sg) : Option Sg :=
  Option.bind (s1) fun b10 =>
  f_X0_init_B48 a0 (some (sg_N (put_I (put_R (put_R σ b10 2 (s0)) a0 3 (none)) a0 4 (0)))) (some a0) (new_C (put_I (put_R (put_R σ b10 2 (s0)) a0 3 (none)) a0 4 (0)) 12 (6 : Int32).toNatClampNeg)
def f_X0_init_B22 (a0 : Nat) (s0 : Option Nat) (s1 : Option Nat) (s2 : Option Nat) (s3 : Option Nat) (σ : Sg) : Option Sg :=
  Option.bind (s0) fun b5 =>
  if (0 : Int32) < 0 ∨ sg_L σ b5 ≤ (0 : Int32).toNatClampNeg then none else
  Option.bind (s1) fun b7 =>
  Option.bind (f_X8_init b7 (s0) (put_I σ b5 (0 : Int32).toNatClampNeg (26))) fun p8 =>
  f_X0_init_B30 a0 (s2) (s3) (p8)
def f_X0_init_B18 (a0 : Nat) (s0 : Option Nat) (s1 : Option Nat) (σ : Sg) : Option Sg :=
  f_X0_init_B22 a0 (some (sg_N σ)) (s0) (s0) (s1) (new_C σ 12 (1 : Int32).toNatClampNeg)
def f_X0_init (a0 : Nat) (σ : Sg) : Option Sg :=
  f_X0_init_B18 a0 (some (sg_N (put_I (put_I σ a0 0 (0)) a0 1 (0)))) (some a0) (new_C (put_I (put_I σ a0 0 (0)) a0 1 (0)) 7 0)
set_option maxHeartbeats 4000000 in
set_option maxRecDepth 100000 in
theorem e_X0_init_B66 {a0 : Nat} {r : Sg} {s0 : Option Nat} {s1 : Option Nat} {σ : Sg} (hf : f_X0_init_B66 a0  s0 s1 σ = some r) : sg_E σ r := by
  unfold f_X0_init_B66 at hf
  refine K_some hf (fun b19 hb19 hf => ?_)
  obtain rfl := Option.some.inj hf; exact (((sg_E.rf).putR).putI).putI
set_option maxHeartbeats 4000000 in
set_option maxRecDepth 100000 in
theorem e_X0_init_B57 {a0 : Nat} {r : Sg} {s0 : Option Nat} {s1 : Option Nat} {σ : Sg} (hf : f_X0_init_B57 a0  s0 s1 σ = some r) : sg_E σ r := by
  unfold f_X0_init_B57 at hf
  refine K_some hf (fun b16 hb16 hf => ?_)
  exact (((sg_E.rf).putR).new).tr (e_X0_init_B66  hf)
set_option maxHeartbeats 4000000 in
set_option maxRecDepth 100000 in
theorem e_X0_init_B48 {a0 : Nat} {r : Sg} {s0 : Option Nat} {s1 : Option Nat} {σ : Sg} (hf : f_X0_init_B48 a0  s0 s1 σ = some r) : sg_E σ r := by
  unfold f_X0_init_B48 at hf
  refine K_some hf (fun b13 hb13 hf => ?_)
  exact (((sg_E.rf).putR).new).tr (e_X0_init_B57  hf)
set_option maxHeartbeats 4000000 in
set_option maxRecDepth 100000 in
theorem e_X0_init_B30 {a0 : Nat} {r : Sg} {s0 : Option Nat} {s1 : Option Nat} {σ : Sg} (hf : f_X0_init_B30 a0  s0 s1 σ = some r) : sg_E σ r := by
  unfold f_X0_init_B30 at hf
  refine K_some hf (fun b10 hb10 hf => ?_)
  exact (((((sg_E.rf).putR).putR).putI).new).tr (e_X0_init_B48  hf)
set_option maxHeartbeats 4000000 in
set_option maxRecDepth 100000 in
theorem e_X0_init_B22 {a0 : Nat} {r : Sg} {s0 : Option Nat} {s1 : Option Nat} {s2 : Option Nat} {s3 : Option Nat} {σ : Sg} (hf : f_X0_init_B22 a0  s0 s1 s2 s3 σ = some r) : sg_E σ r := by
  unfold f_X0_init_B22 at hf
  refine K_some hf (fun b5 hb5 hf => ?_)
  refine K_chk hf (fun c6 hf => ?_)
  refine K_some hf (fun b7 hb7 hf => ?_)
  refine K_some hf (fun p8 hp8 hf => ?_)
  exact (((sg_E.rf).putI).tr (e_X8_init hp8)).tr (e_X0_init_B30  hf)
set_option maxHeartbeats 4000000 in
set_option maxRecDepth 100000 in
theorem e_X0_init_B18 {a0 : Nat} {r : Sg} {s0 : Option Nat} {s1 : Option Nat} {σ : Sg} (hf : f_X0_init_B18 a0  s0 s1 σ = some r) : sg_E σ r := by
  unfold f_X0_init_B18 at hf
  exact ((sg_E.rf).new).tr (e_X0_init_B22  hf)
set_option maxHeartbeats 4000000 in
set_option maxRecDepth 100000 in
theorem e_X0_init {a0 : Nat} {σ : Sg} {r : Sg} (hf : f_X0_init a0  σ = some r) : sg_E σ r := by
  unfold f_X0_init at hf
  exact ((((sg_E.rf).putI).putI).new).tr (e_X0_init_B18  hf)
set_option maxHeartbeats 4000000 in
set_option maxRecDepth 100000 in
theorem t_X0_init_B66 {a0 : Nat} {Γ : Gm} {σ0 : Sg} {r : Sg} {mc ms : Nat} (C1 : CM Γ cX0_init RX0 1 none 2 41 mc ms (fun r_ τ_ => (r_ = none) ∧ τ_ = r ∧ sg_T τ_ ∧ sg_E σ0 τ_)) (hin : Γ.2.2.2.2.2.2.2.2.1.name = "<init>") (s0 : Option Nat) (s1 : Option Nat) (σ : Sg) (hT : sg_T σ) (hE : sg_E σ0 σ) (h0 : is_A σ a0 0) (g_s0 : is_O σ s0 12) (g_s1 : is_O σ s1 0) (k_ n_ : Nat) (hc : (k_ + sg_N r ≤ mc + sg_N σ ∧ n_ + sg_S r ≤ ms + sg_S σ)) (hf : f_X0_init_B66 a0  s0 s1 σ = some r) : J_ Γ 66 [(0, vr (some a0))] [vr (s0), vr (s1)] σ k_ n_ := by
  have C0 := C1.1
  unfold f_X0_init_B66 at hf
  refine K_some hf (fun b19 hb19 hf => ?_)
  have ab19 : is_A σ b19 0 := (g_s1) b19 hb19
  refine J_putFR (q := 69) C0 hin rfl fl_X0_41_0 hb19 (ab19) rfl dX0_init_66 rfl ?_
  refine J_aload_n (q := 70) C0 0 rfl rfl dX0_init_69 rfl trivial ?_
  refine J_iconst (q := 71) (v := 0) C0 dX0_init_70 rfl rfl ?_
  refine J_putI (q := 74) C0 fl_X0_44_0 rfl ((h0).putR) rfl dX0_init_71 rfl ?_
  refine J_aload_n (q := 75) C0 0 rfl rfl dX0_init_74 rfl trivial ?_
  refine J_iconst (q := 76) (v := 0) C0 dX0_init_75 rfl rfl ?_
  refine J_putI (q := 79) C0 fl_X0_47_0 rfl (((h0).putR).putI) rfl dX0_init_76 rfl ?_
  obtain rfl := Option.some.inj hf; exact J_vret C1 dX0_init_79 rfl (by have h9 : k_ + sg_N (put_I (put_I (put_R σ b19 7 (s0)) a0 8 (0)) a0 9 (0)) ≤ mc + sg_N (put_I (put_I (put_R σ b19 7 (s0)) a0 8 (0)) a0 9 (0)) ∧ n_ + sg_S (put_I (put_I (put_R σ b19 7 (s0)) a0 8 (0)) a0 9 (0)) ≤ ms + sg_S (put_I (put_I (put_R σ b19 7 (s0)) a0 8 (0)) a0 9 (0)) := hc; omega) (by have h9 : k_ + sg_N (put_I (put_I (put_R σ b19 7 (s0)) a0 8 (0)) a0 9 (0)) ≤ mc + sg_N (put_I (put_I (put_R σ b19 7 (s0)) a0 8 (0)) a0 9 (0)) ∧ n_ + sg_S (put_I (put_I (put_R σ b19 7 (s0)) a0 8 (0)) a0 9 (0)) ≤ ms + sg_S (put_I (put_I (put_R σ b19 7 (s0)) a0 8 (0)) a0 9 (0)) := hc; omega) ⟨rfl, rfl, (((sg_T.putR hT (by rw [(ab19).2]; exact g_s0))).putI).putI, (((hE).putR).putI).putI⟩
set_option maxHeartbeats 4000000 in
set_option maxRecDepth 100000 in
theorem t_X0_init_B57 {a0 : Nat} {Γ : Gm} {σ0 : Sg} {r : Sg} {mc ms : Nat} (C1 : CM Γ cX0_init RX0 1 none 2 41 mc ms (fun r_ τ_ => (r_ = none) ∧ τ_ = r ∧ sg_T τ_ ∧ sg_E σ0 τ_)) (hin : Γ.2.2.2.2.2.2.2.2.1.name = "<init>") (s0 : Option Nat) (s1 : Option Nat) (σ : Sg) (hT : sg_T σ) (hE : sg_E σ0 σ) (h0 : is_A σ a0 0) (g_s0 : is_O σ s0 12) (g_s1 : is_O σ s1 0) (k_ n_ : Nat) (hc : (k_ + sg_N r ≤ mc + sg_N σ ∧ n_ + sg_S r ≤ ms + sg_S σ)) (hf : f_X0_init_B57 a0  s0 s1 σ = some r) : J_ Γ 57 [(0, vr (some a0))] [vr (s0), vr (s1)] σ k_ n_ := by
  have C0 := C1.1
  unfold f_X0_init_B57 at hf
  refine K_some hf (fun b16 hb16 hf => ?_)
  have ab16 : is_A σ b16 0 := (g_s1) b16 hb16
  refine J_putFR (q := 60) C0 hin rfl fl_X0_38_0 hb16 (ab16) rfl dX0_init_57 rfl ?_
  refine J_aload_n (q := 61) C0 0 rfl rfl dX0_init_60 rfl trivial ?_
  refine J_sipush (q := 64) (v := 384) C0 dX0_init_61 rfl rfl ?_
  have hm_ := e_X0_init_B66  hf
  have hk_ : k_ + 1 ≤ mc ∧ n_ + (384 : Int32).toNatClampNeg ≤ ms := by have := hm_.1; have := hm_.slots; have := sg_S_new (put_R σ b16 6 (s0)) 12 (384 : Int32).toNatClampNeg; have : sg_N (new_C (put_R σ b16 6 (s0)) 12 (384 : Int32).toNatClampNeg) = sg_N (put_R σ b16 6 (s0)) + 1 := rfl; have : ce_ 12 (384 : Int32).toNatClampNeg = (384 : Int32).toNatClampNeg := rfl; have := (show k_ + sg_N r ≤ mc + sg_N (put_R σ b16 6 (s0)) ∧ n_ + sg_S r ≤ ms + sg_S (put_R σ b16 6 (s0)) from hc); omega
  refine J_newa (at_ := .int) (kd := 12) (q := 66) C0 (by simp) wt_a_int dX0_init_64 rfl (by decide) (by decide) C1.room hk_.1 hk_.2 ?_
  have hc18 : (k_ + 1) + sg_N r ≤ mc + sg_N (new_C (put_R σ b16 6 (s0)) 12 (384 : Int32).toNatClampNeg) ∧ (n_ + (384 : Int32).toNatClampNeg) + sg_S r ≤ ms + sg_S (new_C (put_R σ b16 6 (s0)) 12 (384 : Int32).toNatClampNeg) := by have := sg_S_new (put_R σ b16 6 (s0)) 12 (384 : Int32).toNatClampNeg; have : sg_N (new_C (put_R σ b16 6 (s0)) 12 (384 : Int32).toNatClampNeg) = sg_N (put_R σ b16 6 (s0)) + 1 := rfl; have : ce_ 12 (384 : Int32).toNatClampNeg = (384 : Int32).toNatClampNeg := rfl; have := (show k_ + sg_N r ≤ mc + sg_N (put_R σ b16 6 (s0)) ∧ n_ + sg_S r ≤ ms + sg_S (put_R σ b16 6 (s0)) from hc); omega
  exact t_X0_init_B66 C1 hin    (some (sg_N (put_R σ b16 6 (s0)))) (some a0) (new_C (put_R σ b16 6 (s0)) 12 (384 : Int32).toNatClampNeg) (((sg_T.putR hT (by rw [(ab16).2]; exact g_s0))).new) (((hE).putR).new) (((h0).putR).new) (is_O.some (is_A.born (put_R σ b16 6 (s0)) 12 (384 : Int32).toNatClampNeg)) (is_O.some (((h0).putR).new)) ((k_ + 1)) ((n_ + (384 : Int32).toNatClampNeg)) hc18 hf
set_option maxHeartbeats 4000000 in
set_option maxRecDepth 100000 in
theorem t_X0_init_B48 {a0 : Nat} {Γ : Gm} {σ0 : Sg} {r : Sg} {mc ms : Nat} (C1 : CM Γ cX0_init RX0 1 none 2 41 mc ms (fun r_ τ_ => (r_ = none) ∧ τ_ = r ∧ sg_T τ_ ∧ sg_E σ0 τ_)) (hin : Γ.2.2.2.2.2.2.2.2.1.name = "<init>") (s0 : Option Nat) (s1 : Option Nat) (σ : Sg) (hT : sg_T σ) (hE : sg_E σ0 σ) (h0 : is_A σ a0 0) (g_s0 : is_O σ s0 12) (g_s1 : is_O σ s1 0) (k_ n_ : Nat) (hc : (k_ + sg_N r ≤ mc + sg_N σ ∧ n_ + sg_S r ≤ ms + sg_S σ)) (hf : f_X0_init_B48 a0  s0 s1 σ = some r) : J_ Γ 48 [(0, vr (some a0))] [vr (s0), vr (s1)] σ k_ n_ := by
  have C0 := C1.1
  unfold f_X0_init_B48 at hf
  refine K_some hf (fun b13 hb13 hf => ?_)
  have ab13 : is_A σ b13 0 := (g_s1) b13 hb13
  refine J_putFR (q := 51) C0 hin rfl fl_X0_34_0 hb13 (ab13) rfl dX0_init_48 rfl ?_
  refine J_aload_n (q := 52) C0 0 rfl rfl dX0_init_51 rfl trivial ?_
  refine J_sipush (q := 55) (v := 385) C0 dX0_init_52 rfl rfl ?_
  have hm_ := e_X0_init_B57  hf
  have hk_ : k_ + 1 ≤ mc ∧ n_ + (385 : Int32).toNatClampNeg ≤ ms := by have := hm_.1; have := hm_.slots; have := sg_S_new (put_R σ b13 5 (s0)) 12 (385 : Int32).toNatClampNeg; have : sg_N (new_C (put_R σ b13 5 (s0)) 12 (385 : Int32).toNatClampNeg) = sg_N (put_R σ b13 5 (s0)) + 1 := rfl; have : ce_ 12 (385 : Int32).toNatClampNeg = (385 : Int32).toNatClampNeg := rfl; have := (show k_ + sg_N r ≤ mc + sg_N (put_R σ b13 5 (s0)) ∧ n_ + sg_S r ≤ ms + sg_S (put_R σ b13 5 (s0)) from hc); omega
  refine J_newa (at_ := .int) (kd := 12) (q := 57) C0 (by simp) wt_a_int dX0_init_55 rfl (by decide) (by decide) C1.room hk_.1 hk_.2 ?_
  have hc15 : (k_ + 1) + sg_N r ≤ mc + sg_N (new_C (put_R σ b13 5 (s0)) 12 (385 : Int32).toNatClampNeg) ∧ (n_ + (385 : Int32).toNatClampNeg) + sg_S r ≤ ms + sg_S (new_C (put_R σ b13 5 (s0)) 12 (385 : Int32).toNatClampNeg) := by have := sg_S_new (put_R σ b13 5 (s0)) 12 (385 : Int32).toNatClampNeg; have : sg_N (new_C (put_R σ b13 5 (s0)) 12 (385 : Int32).toNatClampNeg) = sg_N (put_R σ b13 5 (s0)) + 1 := rfl; have : ce_ 12 (385 : Int32).toNatClampNeg = (385 : Int32).toNatClampNeg := rfl; have := (show k_ + sg_N r ≤ mc + sg_N (put_R σ b13 5 (s0)) ∧ n_ + sg_S r ≤ ms + sg_S (put_R σ b13 5 (s0)) from hc); omega
  exact t_X0_init_B57 C1 hin    (some (sg_N (put_R σ b13 5 (s0)))) (some a0) (new_C (put_R σ b13 5 (s0)) 12 (385 : Int32).toNatClampNeg) (((sg_T.putR hT (by rw [(ab13).2]; exact g_s0))).new) (((hE).putR).new) (((h0).putR).new) (is_O.some (is_A.born (put_R σ b13 5 (s0)) 12 (385 : Int32).toNatClampNeg)) (is_O.some (((h0).putR).new)) ((k_ + 1)) ((n_ + (385 : Int32).toNatClampNeg)) hc15 hf
set_option maxHeartbeats 4000000 in
set_option maxRecDepth 100000 in
theorem t_X0_init_B30 {a0 : Nat} {Γ : Gm} {σ0 : Sg} {r : Sg} {mc ms : Nat} (C1 : CM Γ cX0_init RX0 1 none 2 41 mc ms (fun r_ τ_ => (r_ = none) ∧ τ_ = r ∧ sg_T τ_ ∧ sg_E σ0 τ_)) (hin : Γ.2.2.2.2.2.2.2.2.1.name = "<init>") (s0 : Option Nat) (s1 : Option Nat) (σ : Sg) (hT : sg_T σ) (hE : sg_E σ0 σ) (h0 : is_A σ a0 0) (g_s0 : is_O σ s0 7) (g_s1 : is_O σ s1 0) (k_ n_ : Nat) (hc : (k_ + sg_N r ≤ mc + sg_N σ ∧ n_ + sg_S r ≤ ms + sg_S σ)) (hf : f_X0_init_B30 a0  s0 s1 σ = some r) : J_ Γ 30 [(0, vr (some a0))] [vr (s0), vr (s1)] σ k_ n_ := by
  have C0 := C1.1
  unfold f_X0_init_B30 at hf
  refine K_some hf (fun b10 hb10 hf => ?_)
  have ab10 : is_A σ b10 0 := (g_s1) b10 hb10
  refine J_putR (q := 33) C0 rfl fl_X0_23_0 hb10 (ab10) rfl dX0_init_30 rfl ?_
  refine J_aload_n (q := 34) C0 0 rfl rfl dX0_init_33 rfl trivial ?_
  refine J_null (q := 35) C0 dX0_init_34 rfl ?_
  refine J_putR (q := 38) C0 rfl fl_X0_27_0 rfl ((h0).putR) rfl dX0_init_35 rfl ?_
  refine J_aload_n (q := 39) C0 0 rfl rfl dX0_init_38 rfl trivial ?_
  refine J_iconst (q := 40) (v := 0) C0 dX0_init_39 rfl rfl ?_
  refine J_putI (q := 43) C0 fl_X0_31_0 rfl (((h0).putR).putR) rfl dX0_init_40 rfl ?_
  refine J_aload_n (q := 44) C0 0 rfl rfl dX0_init_43 rfl trivial ?_
  refine J_bipush (q := 46) (v := 6) C0 dX0_init_44 rfl rfl ?_
  have hm_ := e_X0_init_B48  hf
  have hk_ : k_ + 1 ≤ mc ∧ n_ + (6 : Int32).toNatClampNeg ≤ ms := by have := hm_.1; have := hm_.slots; have := sg_S_new (put_I (put_R (put_R σ b10 2 (s0)) a0 3 (none)) a0 4 (0)) 12 (6 : Int32).toNatClampNeg; have : sg_N (new_C (put_I (put_R (put_R σ b10 2 (s0)) a0 3 (none)) a0 4 (0)) 12 (6 : Int32).toNatClampNeg) = sg_N (put_I (put_R (put_R σ b10 2 (s0)) a0 3 (none)) a0 4 (0)) + 1 := rfl; have : ce_ 12 (6 : Int32).toNatClampNeg = (6 : Int32).toNatClampNeg := rfl; have := (show k_ + sg_N r ≤ mc + sg_N (put_I (put_R (put_R σ b10 2 (s0)) a0 3 (none)) a0 4 (0)) ∧ n_ + sg_S r ≤ ms + sg_S (put_I (put_R (put_R σ b10 2 (s0)) a0 3 (none)) a0 4 (0)) from hc); omega
  refine J_newa (at_ := .int) (kd := 12) (q := 48) C0 (by simp) wt_a_int dX0_init_46 rfl (by decide) (by decide) C1.room hk_.1 hk_.2 ?_
  have hc12 : (k_ + 1) + sg_N r ≤ mc + sg_N (new_C (put_I (put_R (put_R σ b10 2 (s0)) a0 3 (none)) a0 4 (0)) 12 (6 : Int32).toNatClampNeg) ∧ (n_ + (6 : Int32).toNatClampNeg) + sg_S r ≤ ms + sg_S (new_C (put_I (put_R (put_R σ b10 2 (s0)) a0 3 (none)) a0 4 (0)) 12 (6 : Int32).toNatClampNeg) := by have := sg_S_new (put_I (put_R (put_R σ b10 2 (s0)) a0 3 (none)) a0 4 (0)) 12 (6 : Int32).toNatClampNeg; have : sg_N (new_C (put_I (put_R (put_R σ b10 2 (s0)) a0 3 (none)) a0 4 (0)) 12 (6 : Int32).toNatClampNeg) = sg_N (put_I (put_R (put_R σ b10 2 (s0)) a0 3 (none)) a0 4 (0)) + 1 := rfl; have : ce_ 12 (6 : Int32).toNatClampNeg = (6 : Int32).toNatClampNeg := rfl; have := (show k_ + sg_N r ≤ mc + sg_N (put_I (put_R (put_R σ b10 2 (s0)) a0 3 (none)) a0 4 (0)) ∧ n_ + sg_S r ≤ ms + sg_S (put_I (put_R (put_R σ b10 2 (s0)) a0 3 (none)) a0 4 (0)) from hc); omega
  exact t_X0_init_B48 C1 hin    (some (sg_N (put_I (put_R (put_R σ b10 2 (s0)) a0 3 (none)) a0 4 (0)))) (some a0) (new_C (put_I (put_R (put_R σ b10 2 (s0)) a0 3 (none)) a0 4 (0)) 12 (6 : Int32).toNatClampNeg) ((((sg_T.putR (sg_T.putR hT (by rw [(ab10).2]; exact g_s0)) (by rw [((h0).putR).2]; exact is_O.none))).putI).new) (((((hE).putR).putR).putI).new) (((((h0).putR).putR).putI).new) (is_O.some (is_A.born (put_I (put_R (put_R σ b10 2 (s0)) a0 3 (none)) a0 4 (0)) 12 (6 : Int32).toNatClampNeg)) (is_O.some (((((h0).putR).putR).putI).new)) ((k_ + 1)) ((n_ + (6 : Int32).toNatClampNeg)) hc12 hf
set_option maxHeartbeats 4000000 in
set_option maxRecDepth 100000 in
theorem t_X0_init_B22 {a0 : Nat} {Γ : Gm} {σ0 : Sg} {r : Sg} {mc ms : Nat} (C1 : CM Γ cX0_init RX0 1 none 2 41 mc ms (fun r_ τ_ => (r_ = none) ∧ τ_ = r ∧ sg_T τ_ ∧ sg_E σ0 τ_)) (hin : Γ.2.2.2.2.2.2.2.2.1.name = "<init>") (s0 : Option Nat) (s1 : Option Nat) (s2 : Option Nat) (s3 : Option Nat) (σ : Sg) (hT : sg_T σ) (hE : sg_E σ0 σ) (h0 : is_A σ a0 0) (g_s0 : is_O σ s0 12) (g_s1 : is_O σ s1 7) (g_s2 : is_O σ s2 7) (g_s3 : is_O σ s3 0) (k_ n_ : Nat) (hc : (k_ + sg_N r ≤ mc + sg_N σ ∧ n_ + sg_S r ≤ ms + sg_S σ)) (hf : f_X0_init_B22 a0  s0 s1 s2 s3 σ = some r) : J_ Γ 22 [(0, vr (some a0))] [vr (s0), vr (s1), vr (s2), vr (s3)] σ k_ n_ := by
  have C0 := C1.1
  unfold f_X0_init_B22 at hf
  refine J_dup (q := 23) C0 dX0_init_22 rfl rfl ?_
  refine J_iconst (q := 24) (v := 0) C0 dX0_init_23 rfl rfl ?_
  refine J_bipush (q := 26) (v := 26) C0 dX0_init_24 rfl rfl ?_
  refine K_some hf (fun b5 hb5 hf => ?_)
  have ab5 : is_A σ b5 12 := (g_s0) b5 hb5
  refine K_chk hf (fun c6 hf => ?_)
  refine J_iast (q := 27) C0 hb5 (ab5) c6 dX0_init_26 rfl ?_
  refine K_some hf (fun b7 hb7 hf => ?_)
  have ab7 : is_A (put_I σ b5 (0 : Int32).toNatClampNeg (26)) b7 7 := ((fun b_ h_ => (g_s1 b_ h_).putI)) b7 hb7
  refine K_some hf (fun p8 hp8 hf => ?_)
  have hm_ := e_X0_init_B30  hf
  have he_ := e_X8_init hp8
  have hk_ : k_ + (sg_N p8 - sg_N (put_I σ b5 (0 : Int32).toNatClampNeg (26))) ≤ mc ∧ n_ + (sg_S p8 - sg_S (put_I σ b5 (0 : Int32).toNatClampNeg (26))) ≤ ms := by have := hm_.1; have := hm_.slots; have := he_.1; have := he_.slots; have := (show k_ + sg_N r ≤ mc + sg_N (put_I σ b5 (0 : Int32).toNatClampNeg (26)) ∧ n_ + sg_S r ≤ ms + sg_S (put_I σ b5 (0 : Int32).toNatClampNeg (26)) from hc); omega
  refine J_callI (q := 30) (as := [vr (s0)]) (rest := [vr (s2), vr (s3)]) C0 hb7 (t_X8_init b7 (s0) ((hT).putI) (ab7) ((by rw [hb5]; exact is_O.some ((ab5).putI))) hp8 (mc := sg_N p8 - sg_N (put_I σ b5 (0 : Int32).toNatClampNeg (26))) (ms := sg_S p8 - sg_S (put_I σ b5 (0 : Int32).toNatClampNeg (26))) (by have h7 := e_X8_init hp8; have := h7.1; have := h7.slots; omega)) ml_X8_init lk_X0_20 im_X8_init rfl dX0_init_27 rfl rfl rfl (by simp [ac_]) C1.room (by decide) (by decide) hk_.1 hk_.2 (fun r_ τ_ hQ => ?_)
  obtain ⟨rfl, ht_, Tp8, Ep8⟩ := hQ; have ht_ := ht_.symm; subst ht_
  have hc9 : (k_ + (sg_N p8 - sg_N (put_I σ b5 (0 : Int32).toNatClampNeg (26)))) + sg_N r ≤ mc + sg_N p8 ∧ (n_ + (sg_S p8 - sg_S (put_I σ b5 (0 : Int32).toNatClampNeg (26)))) + sg_S r ≤ ms + sg_S p8 := by have := he_.1; have := he_.slots; have := (show k_ + sg_N r ≤ mc + sg_N (put_I σ b5 (0 : Int32).toNatClampNeg (26)) ∧ n_ + sg_S r ≤ ms + sg_S (put_I σ b5 (0 : Int32).toNatClampNeg (26)) from hc); omega
  show J_ Γ 30 [(0, vr (some a0))] [vr (s2), vr (s3)] p8 (k_ + (sg_N p8 - sg_N (put_I σ b5 (0 : Int32).toNatClampNeg (26)))) (n_ + (sg_S p8 - sg_S (put_I σ b5 (0 : Int32).toNatClampNeg (26))))
  exact t_X0_init_B30 C1 hin    (s2) (s3) (p8) (Tp8) (((hE).putI).tr Ep8) ((Ep8.at (h0).putI)) ((Ep8.op (fun b_ h_ => (g_s2 b_ h_).putI))) ((Ep8.op (fun b_ h_ => (g_s3 b_ h_).putI))) ((k_ + (sg_N p8 - sg_N (put_I σ b5 (0 : Int32).toNatClampNeg (26))))) ((n_ + (sg_S p8 - sg_S (put_I σ b5 (0 : Int32).toNatClampNeg (26))))) hc9 hf
set_option maxHeartbeats 4000000 in
set_option maxRecDepth 100000 in
theorem t_X0_init_B18 {a0 : Nat} {Γ : Gm} {σ0 : Sg} {r : Sg} {mc ms : Nat} (C1 : CM Γ cX0_init RX0 1 none 2 41 mc ms (fun r_ τ_ => (r_ = none) ∧ τ_ = r ∧ sg_T τ_ ∧ sg_E σ0 τ_)) (hin : Γ.2.2.2.2.2.2.2.2.1.name = "<init>") (s0 : Option Nat) (s1 : Option Nat) (σ : Sg) (hT : sg_T σ) (hE : sg_E σ0 σ) (h0 : is_A σ a0 0) (g_s0 : is_O σ s0 7) (g_s1 : is_O σ s1 0) (k_ n_ : Nat) (hc : (k_ + sg_N r ≤ mc + sg_N σ ∧ n_ + sg_S r ≤ ms + sg_S σ)) (hf : f_X0_init_B18 a0  s0 s1 σ = some r) : J_ Γ 18 [(0, vr (some a0))] [vr (s0), vr (s1)] σ k_ n_ := by
  have C0 := C1.1
  unfold f_X0_init_B18 at hf
  refine J_dup (q := 19) C0 dX0_init_18 rfl rfl ?_
  refine J_iconst (q := 20) (v := 1) C0 dX0_init_19 rfl rfl ?_
  have hm_ := e_X0_init_B22  hf
  have hk_ : k_ + 1 ≤ mc ∧ n_ + (1 : Int32).toNatClampNeg ≤ ms := by have := hm_.1; have := hm_.slots; have := sg_S_new σ 12 (1 : Int32).toNatClampNeg; have : sg_N (new_C σ 12 (1 : Int32).toNatClampNeg) = sg_N σ + 1 := rfl; have : ce_ 12 (1 : Int32).toNatClampNeg = (1 : Int32).toNatClampNeg := rfl; have := (show k_ + sg_N r ≤ mc + sg_N σ ∧ n_ + sg_S r ≤ ms + sg_S σ from hc); omega
  refine J_newa (at_ := .int) (kd := 12) (q := 22) C0 (by simp) wt_a_int dX0_init_20 rfl (by decide) (by decide) C1.room hk_.1 hk_.2 ?_
  have hc4 : (k_ + 1) + sg_N r ≤ mc + sg_N (new_C σ 12 (1 : Int32).toNatClampNeg) ∧ (n_ + (1 : Int32).toNatClampNeg) + sg_S r ≤ ms + sg_S (new_C σ 12 (1 : Int32).toNatClampNeg) := by have := sg_S_new σ 12 (1 : Int32).toNatClampNeg; have : sg_N (new_C σ 12 (1 : Int32).toNatClampNeg) = sg_N σ + 1 := rfl; have : ce_ 12 (1 : Int32).toNatClampNeg = (1 : Int32).toNatClampNeg := rfl; have := (show k_ + sg_N r ≤ mc + sg_N σ ∧ n_ + sg_S r ≤ ms + sg_S σ from hc); omega
  exact t_X0_init_B22 C1 hin    (some (sg_N σ)) (s0) (s0) (s1) (new_C σ 12 (1 : Int32).toNatClampNeg) ((hT).new) ((hE).new) ((h0).new) (is_O.some (is_A.born σ 12 (1 : Int32).toNatClampNeg)) ((fun b_ h_ => (g_s0 b_ h_).new)) ((fun b_ h_ => (g_s0 b_ h_).new)) ((fun b_ h_ => (g_s1 b_ h_).new)) ((k_ + 1)) ((n_ + (1 : Int32).toNatClampNeg)) hc4 hf
set_option maxHeartbeats 4000000 in
set_option maxRecDepth 100000 in
theorem t_X0_init (a0 : Nat) {σ : Sg} (hT : sg_T σ) (h0 : is_A σ a0 0) {r : Sg} (hf : f_X0_init a0  σ = some r) {mc ms : Nat} (hc : sg_N r ≤ mc + sg_N σ ∧ sg_S r ≤ ms + sg_S σ) : Ct yX0_init cX0_init 1 none 2 41 mc ms [vr (some a0)] σ (fun r_ τ_ => (r_ = none) ∧ τ_ = r ∧ sg_T τ_ ∧ sg_E σ τ_) := by
  refine Ct.ofI (by decide +kernel) (Nat.le_of_ble_eq_true rfl) (fun Γ C1 hin => ?_)
  have C0 := C1.1
  have hin : Γ.2.2.2.2.2.2.2.2.1.name = "<init>" := hin
  obtain ⟨k_, hk0⟩ : ∃ t : Nat, t = 0 := ⟨_, rfl⟩
  obtain ⟨n_, hn0⟩ : ∃ t : Nat, t = 0 := ⟨_, rfl⟩
  have hc : k_ + sg_N r ≤ mc + sg_N σ ∧ n_ + sg_S r ≤ ms + sg_S σ := by omega
  have hE : sg_E σ σ := sg_E.rf
  unfold f_X0_init at hf
  have goal9 : J_ Γ 0 [(0, vr (some a0))] [] σ k_ n_ := by
    refine J_aload_n (q := 1) C0 0 rfl rfl dX0_init_0 rfl trivial ?_
    refine J_objInit (q := 4) C0 rfl lk_X0_3 im_obj co_obj dX0_init_1 rfl (by simp [ac_]) C1.room (by decide) (by decide) ?_
    refine J_aload_n (q := 5) C0 0 rfl rfl dX0_init_4 rfl trivial ?_
    refine J_iconst (q := 6) (v := 0) C0 dX0_init_5 rfl rfl ?_
    refine J_putI (q := 9) C0 fl_X0_9_0 rfl (h0) rfl dX0_init_6 rfl ?_
    refine J_aload_n (q := 10) C0 0 rfl rfl dX0_init_9 rfl trivial ?_
    refine J_iconst (q := 11) (v := 0) C0 dX0_init_10 rfl rfl ?_
    refine J_putI (q := 14) C0 fl_X0_15_0 rfl ((h0).putI) rfl dX0_init_11 rfl ?_
    refine J_aload_n (q := 15) C0 0 rfl rfl dX0_init_14 rfl trivial ?_
    have hm_ := e_X0_init_B18  hf
    have hk_ : k_ + 1 ≤ mc ∧ n_ + 1 ≤ ms := by have := hm_.1; have := hm_.slots; have := sg_S_new (put_I (put_I σ a0 0 (0)) a0 1 (0)) 7 0; have : sg_N (new_C (put_I (put_I σ a0 0 (0)) a0 1 (0)) 7 0) = sg_N (put_I (put_I σ a0 0 (0)) a0 1 (0)) + 1 := rfl; have : ce_ 7 0 = 1 := rfl; have := (show k_ + sg_N r ≤ mc + sg_N (put_I (put_I σ a0 0 (0)) a0 1 (0)) ∧ n_ + sg_S r ≤ ms + sg_S (put_I (put_I σ a0 0 (0)) a0 1 (0)) from hc); omega
    refine J_new (q := 18) C0 cl_X8 df_X8 kl_X0_18 in_X8 iz_X8 dX0_init_15 rfl C1.room hk_.1 hk_.2 ?_
    have hc2 : (k_ + 1) + sg_N r ≤ mc + sg_N (new_C (put_I (put_I σ a0 0 (0)) a0 1 (0)) 7 0) ∧ (n_ + 1) + sg_S r ≤ ms + sg_S (new_C (put_I (put_I σ a0 0 (0)) a0 1 (0)) 7 0) := by have := sg_S_new (put_I (put_I σ a0 0 (0)) a0 1 (0)) 7 0; have : sg_N (new_C (put_I (put_I σ a0 0 (0)) a0 1 (0)) 7 0) = sg_N (put_I (put_I σ a0 0 (0)) a0 1 (0)) + 1 := rfl; have : ce_ 7 0 = 1 := rfl; have := (show k_ + sg_N r ≤ mc + sg_N (put_I (put_I σ a0 0 (0)) a0 1 (0)) ∧ n_ + sg_S r ≤ ms + sg_S (put_I (put_I σ a0 0 (0)) a0 1 (0)) from hc); omega
    exact t_X0_init_B18 C1 hin    (some (sg_N (put_I (put_I σ a0 0 (0)) a0 1 (0)))) (some a0) (new_C (put_I (put_I σ a0 0 (0)) a0 1 (0)) 7 0) ((((hT).putI).putI).new) ((((hE).putI).putI).new) ((((h0).putI).putI).new) (is_O.some (is_A.born (put_I (put_I σ a0 0 (0)) a0 1 (0)) 7 0)) (is_O.some ((((h0).putI).putI).new)) ((k_ + 1)) ((n_ + 1)) hc2 hf
  rw [hk0, hn0] at goal9
  exact goal9
def f_X4_init_B52 (a0 : Nat) (s0 : Option Nat) (s1 : Option Nat) (σ : Sg) : Option Sg :=
  Option.bind (s1) fun b15 =>
  some (put_R σ b15 6 (s0))
def f_X4_init_B39 (a0 : Nat) (s0 : Option Nat) (s1 : Option Nat) (σ : Sg) : Option Sg :=
  Option.bind (s1) fun b12 =>
  f_X4_init_B52 a0 (some (sg_N (put_I (put_R σ b12 4 (s0)) a0 5 (0)))) (some a0) (new_C (put_I (put_R σ b12 4 (s0)) a0 5 (0)) 12 (27 : Int32).toNatClampNeg)
def f_X4_init_B25 (a0 : Nat) (s0 : Option Nat) (s1 : Option Nat) (σ : Sg) : Option Sg :=
  Option.bind (s1) fun b9 =>
  f_X4_init_B39 a0 (some (sg_N (put_I (put_R σ b9 2 (s0)) a0 3 (0)))) (some a0) (new_C (put_I (put_R σ b9 2 (s0)) a0 3 (0)) 12 (960 : Int32).toNatClampNeg)
def f_X4_init_B17 (a0 : Nat) (s0 : Option Nat) (s1 : Option Nat) (σ : Sg) : Option Sg :=
  Option.bind (s1) fun b6 =>
  f_X4_init_B25 a0 (some (sg_N (put_R σ b6 1 (s0)))) (some a0) (new_C (put_R σ b6 1 (s0)) 13 (10 : Int32).toNatClampNeg)
def f_X4_init_B9 (a0 : Nat) (s0 : Option Nat) (s1 : Option Nat) (σ : Sg) : Option Sg :=
  Option.bind (s1) fun b3 =>
  f_X4_init_B17 a0 (some (sg_N (put_R σ b3 0 (s0)))) (some a0) (new_C (put_R σ b3 0 (s0)) 12 (10 : Int32).toNatClampNeg)
def f_X4_init (a0 : Nat) (σ : Sg) : Option Sg :=
  f_X4_init_B9 a0 (some (sg_N σ)) (some a0) (new_C σ 12 (10 : Int32).toNatClampNeg)
set_option maxHeartbeats 4000000 in
set_option maxRecDepth 100000 in
theorem e_X4_init_B52 {a0 : Nat} {r : Sg} {s0 : Option Nat} {s1 : Option Nat} {σ : Sg} (hf : f_X4_init_B52 a0  s0 s1 σ = some r) : sg_E σ r := by
  unfold f_X4_init_B52 at hf
  refine K_some hf (fun b15 hb15 hf => ?_)
  obtain rfl := Option.some.inj hf; exact (sg_E.rf).putR
set_option maxHeartbeats 4000000 in
set_option maxRecDepth 100000 in
theorem e_X4_init_B39 {a0 : Nat} {r : Sg} {s0 : Option Nat} {s1 : Option Nat} {σ : Sg} (hf : f_X4_init_B39 a0  s0 s1 σ = some r) : sg_E σ r := by
  unfold f_X4_init_B39 at hf
  refine K_some hf (fun b12 hb12 hf => ?_)
  exact ((((sg_E.rf).putR).putI).new).tr (e_X4_init_B52  hf)
set_option maxHeartbeats 4000000 in
set_option maxRecDepth 100000 in
theorem e_X4_init_B25 {a0 : Nat} {r : Sg} {s0 : Option Nat} {s1 : Option Nat} {σ : Sg} (hf : f_X4_init_B25 a0  s0 s1 σ = some r) : sg_E σ r := by
  unfold f_X4_init_B25 at hf
  refine K_some hf (fun b9 hb9 hf => ?_)
  exact ((((sg_E.rf).putR).putI).new).tr (e_X4_init_B39  hf)
set_option maxHeartbeats 4000000 in
set_option maxRecDepth 100000 in
theorem e_X4_init_B17 {a0 : Nat} {r : Sg} {s0 : Option Nat} {s1 : Option Nat} {σ : Sg} (hf : f_X4_init_B17 a0  s0 s1 σ = some r) : sg_E σ r := by
  unfold f_X4_init_B17 at hf
  refine K_some hf (fun b6 hb6 hf => ?_)
  exact (((sg_E.rf).putR).new).tr (e_X4_init_B25  hf)
set_option maxHeartbeats 4000000 in
set_option maxRecDepth 100000 in
theorem e_X4_init_B9 {a0 : Nat} {r : Sg} {s0 : Option Nat} {s1 : Option Nat} {σ : Sg} (hf : f_X4_init_B9 a0  s0 s1 σ = some r) : sg_E σ r := by
  unfold f_X4_init_B9 at hf
  refine K_some hf (fun b3 hb3 hf => ?_)
  exact (((sg_E.rf).putR).new).tr (e_X4_init_B17  hf)
set_option maxHeartbeats 4000000 in
set_option maxRecDepth 100000 in
theorem e_X4_init {a0 : Nat} {σ : Sg} {r : Sg} (hf : f_X4_init a0  σ = some r) : sg_E σ r := by
  unfold f_X4_init at hf
  exact ((sg_E.rf).new).tr (e_X4_init_B9  hf)
set_option maxHeartbeats 4000000 in
set_option maxRecDepth 100000 in
theorem t_X4_init_B52 {a0 : Nat} {Γ : Gm} {σ0 : Sg} {r : Sg} {mc ms : Nat} (C1 : CM Γ cX4_init RX4 1 none 1 20 mc ms (fun r_ τ_ => (r_ = none) ∧ τ_ = r ∧ sg_T τ_ ∧ sg_E σ0 τ_)) (hin : Γ.2.2.2.2.2.2.2.2.1.name = "<init>") (s0 : Option Nat) (s1 : Option Nat) (σ : Sg) (hT : sg_T σ) (hE : sg_E σ0 σ) (h0 : is_A σ a0 4) (g_s0 : is_O σ s0 12) (g_s1 : is_O σ s1 4) (k_ n_ : Nat) (hc : (k_ + sg_N r ≤ mc + sg_N σ ∧ n_ + sg_S r ≤ ms + sg_S σ)) (hf : f_X4_init_B52 a0  s0 s1 σ = some r) : J_ Γ 52 [(0, vr (some a0))] [vr (s0), vr (s1)] σ k_ n_ := by
  have C0 := C1.1
  unfold f_X4_init_B52 at hf
  refine K_some hf (fun b15 hb15 hf => ?_)
  have ab15 : is_A σ b15 4 := (g_s1) b15 hb15
  refine J_putFR (q := 55) C0 hin rfl fl_X4_32_4 hb15 (ab15) rfl dX4_init_52 rfl ?_
  obtain rfl := Option.some.inj hf; exact J_vret C1 dX4_init_55 rfl (by have h9 : k_ + sg_N (put_R σ b15 6 (s0)) ≤ mc + sg_N (put_R σ b15 6 (s0)) ∧ n_ + sg_S (put_R σ b15 6 (s0)) ≤ ms + sg_S (put_R σ b15 6 (s0)) := hc; omega) (by have h9 : k_ + sg_N (put_R σ b15 6 (s0)) ≤ mc + sg_N (put_R σ b15 6 (s0)) ∧ n_ + sg_S (put_R σ b15 6 (s0)) ≤ ms + sg_S (put_R σ b15 6 (s0)) := hc; omega) ⟨rfl, rfl, (sg_T.putR hT (by rw [(ab15).2]; exact g_s0)), (hE).putR⟩
set_option maxHeartbeats 4000000 in
set_option maxRecDepth 100000 in
theorem t_X4_init_B39 {a0 : Nat} {Γ : Gm} {σ0 : Sg} {r : Sg} {mc ms : Nat} (C1 : CM Γ cX4_init RX4 1 none 1 20 mc ms (fun r_ τ_ => (r_ = none) ∧ τ_ = r ∧ sg_T τ_ ∧ sg_E σ0 τ_)) (hin : Γ.2.2.2.2.2.2.2.2.1.name = "<init>") (s0 : Option Nat) (s1 : Option Nat) (σ : Sg) (hT : sg_T σ) (hE : sg_E σ0 σ) (h0 : is_A σ a0 4) (g_s0 : is_O σ s0 12) (g_s1 : is_O σ s1 4) (k_ n_ : Nat) (hc : (k_ + sg_N r ≤ mc + sg_N σ ∧ n_ + sg_S r ≤ ms + sg_S σ)) (hf : f_X4_init_B39 a0  s0 s1 σ = some r) : J_ Γ 39 [(0, vr (some a0))] [vr (s0), vr (s1)] σ k_ n_ := by
  have C0 := C1.1
  unfold f_X4_init_B39 at hf
  refine K_some hf (fun b12 hb12 hf => ?_)
  have ab12 : is_A σ b12 4 := (g_s1) b12 hb12
  refine J_putFR (q := 42) C0 hin rfl fl_X4_26_4 hb12 (ab12) rfl dX4_init_39 rfl ?_
  refine J_aload_n (q := 43) C0 0 rfl rfl dX4_init_42 rfl trivial ?_
  refine J_iconst (q := 44) (v := 0) C0 dX4_init_43 rfl rfl ?_
  refine J_putI (q := 47) C0 fl_X4_29_4 rfl ((h0).putR) rfl dX4_init_44 rfl ?_
  refine J_aload_n (q := 48) C0 0 rfl rfl dX4_init_47 rfl trivial ?_
  refine J_bipush (q := 50) (v := 27) C0 dX4_init_48 rfl rfl ?_
  have hm_ := e_X4_init_B52  hf
  have hk_ : k_ + 1 ≤ mc ∧ n_ + (27 : Int32).toNatClampNeg ≤ ms := by have := hm_.1; have := hm_.slots; have := sg_S_new (put_I (put_R σ b12 4 (s0)) a0 5 (0)) 12 (27 : Int32).toNatClampNeg; have : sg_N (new_C (put_I (put_R σ b12 4 (s0)) a0 5 (0)) 12 (27 : Int32).toNatClampNeg) = sg_N (put_I (put_R σ b12 4 (s0)) a0 5 (0)) + 1 := rfl; have : ce_ 12 (27 : Int32).toNatClampNeg = (27 : Int32).toNatClampNeg := rfl; have := (show k_ + sg_N r ≤ mc + sg_N (put_I (put_R σ b12 4 (s0)) a0 5 (0)) ∧ n_ + sg_S r ≤ ms + sg_S (put_I (put_R σ b12 4 (s0)) a0 5 (0)) from hc); omega
  refine J_newa (at_ := .int) (kd := 12) (q := 52) C0 (by simp) wt_a_int dX4_init_50 rfl (by decide) (by decide) C1.room hk_.1 hk_.2 ?_
  have hc14 : (k_ + 1) + sg_N r ≤ mc + sg_N (new_C (put_I (put_R σ b12 4 (s0)) a0 5 (0)) 12 (27 : Int32).toNatClampNeg) ∧ (n_ + (27 : Int32).toNatClampNeg) + sg_S r ≤ ms + sg_S (new_C (put_I (put_R σ b12 4 (s0)) a0 5 (0)) 12 (27 : Int32).toNatClampNeg) := by have := sg_S_new (put_I (put_R σ b12 4 (s0)) a0 5 (0)) 12 (27 : Int32).toNatClampNeg; have : sg_N (new_C (put_I (put_R σ b12 4 (s0)) a0 5 (0)) 12 (27 : Int32).toNatClampNeg) = sg_N (put_I (put_R σ b12 4 (s0)) a0 5 (0)) + 1 := rfl; have : ce_ 12 (27 : Int32).toNatClampNeg = (27 : Int32).toNatClampNeg := rfl; have := (show k_ + sg_N r ≤ mc + sg_N (put_I (put_R σ b12 4 (s0)) a0 5 (0)) ∧ n_ + sg_S r ≤ ms + sg_S (put_I (put_R σ b12 4 (s0)) a0 5 (0)) from hc); omega
  exact t_X4_init_B52 C1 hin    (some (sg_N (put_I (put_R σ b12 4 (s0)) a0 5 (0)))) (some a0) (new_C (put_I (put_R σ b12 4 (s0)) a0 5 (0)) 12 (27 : Int32).toNatClampNeg) ((((sg_T.putR hT (by rw [(ab12).2]; exact g_s0))).putI).new) ((((hE).putR).putI).new) ((((h0).putR).putI).new) (is_O.some (is_A.born (put_I (put_R σ b12 4 (s0)) a0 5 (0)) 12 (27 : Int32).toNatClampNeg)) (is_O.some ((((h0).putR).putI).new)) ((k_ + 1)) ((n_ + (27 : Int32).toNatClampNeg)) hc14 hf
set_option maxHeartbeats 4000000 in
set_option maxRecDepth 100000 in
theorem t_X4_init_B25 {a0 : Nat} {Γ : Gm} {σ0 : Sg} {r : Sg} {mc ms : Nat} (C1 : CM Γ cX4_init RX4 1 none 1 20 mc ms (fun r_ τ_ => (r_ = none) ∧ τ_ = r ∧ sg_T τ_ ∧ sg_E σ0 τ_)) (hin : Γ.2.2.2.2.2.2.2.2.1.name = "<init>") (s0 : Option Nat) (s1 : Option Nat) (σ : Sg) (hT : sg_T σ) (hE : sg_E σ0 σ) (h0 : is_A σ a0 4) (g_s0 : is_O σ s0 13) (g_s1 : is_O σ s1 4) (k_ n_ : Nat) (hc : (k_ + sg_N r ≤ mc + sg_N σ ∧ n_ + sg_S r ≤ ms + sg_S σ)) (hf : f_X4_init_B25 a0  s0 s1 σ = some r) : J_ Γ 25 [(0, vr (some a0))] [vr (s0), vr (s1)] σ k_ n_ := by
  have C0 := C1.1
  unfold f_X4_init_B25 at hf
  refine K_some hf (fun b9 hb9 hf => ?_)
  have ab9 : is_A σ b9 4 := (g_s1) b9 hb9
  refine J_putFR (q := 28) C0 hin rfl fl_X4_18_4 hb9 (ab9) rfl dX4_init_25 rfl ?_
  refine J_aload_n (q := 29) C0 0 rfl rfl dX4_init_28 rfl trivial ?_
  refine J_iconst (q := 30) (v := 0) C0 dX4_init_29 rfl rfl ?_
  refine J_putI (q := 33) C0 fl_X4_22_4 rfl ((h0).putR) rfl dX4_init_30 rfl ?_
  refine J_aload_n (q := 34) C0 0 rfl rfl dX4_init_33 rfl trivial ?_
  refine J_sipush (q := 37) (v := 960) C0 dX4_init_34 rfl rfl ?_
  have hm_ := e_X4_init_B39  hf
  have hk_ : k_ + 1 ≤ mc ∧ n_ + (960 : Int32).toNatClampNeg ≤ ms := by have := hm_.1; have := hm_.slots; have := sg_S_new (put_I (put_R σ b9 2 (s0)) a0 3 (0)) 12 (960 : Int32).toNatClampNeg; have : sg_N (new_C (put_I (put_R σ b9 2 (s0)) a0 3 (0)) 12 (960 : Int32).toNatClampNeg) = sg_N (put_I (put_R σ b9 2 (s0)) a0 3 (0)) + 1 := rfl; have : ce_ 12 (960 : Int32).toNatClampNeg = (960 : Int32).toNatClampNeg := rfl; have := (show k_ + sg_N r ≤ mc + sg_N (put_I (put_R σ b9 2 (s0)) a0 3 (0)) ∧ n_ + sg_S r ≤ ms + sg_S (put_I (put_R σ b9 2 (s0)) a0 3 (0)) from hc); omega
  refine J_newa (at_ := .int) (kd := 12) (q := 39) C0 (by simp) wt_a_int dX4_init_37 rfl (by decide) (by decide) C1.room hk_.1 hk_.2 ?_
  have hc11 : (k_ + 1) + sg_N r ≤ mc + sg_N (new_C (put_I (put_R σ b9 2 (s0)) a0 3 (0)) 12 (960 : Int32).toNatClampNeg) ∧ (n_ + (960 : Int32).toNatClampNeg) + sg_S r ≤ ms + sg_S (new_C (put_I (put_R σ b9 2 (s0)) a0 3 (0)) 12 (960 : Int32).toNatClampNeg) := by have := sg_S_new (put_I (put_R σ b9 2 (s0)) a0 3 (0)) 12 (960 : Int32).toNatClampNeg; have : sg_N (new_C (put_I (put_R σ b9 2 (s0)) a0 3 (0)) 12 (960 : Int32).toNatClampNeg) = sg_N (put_I (put_R σ b9 2 (s0)) a0 3 (0)) + 1 := rfl; have : ce_ 12 (960 : Int32).toNatClampNeg = (960 : Int32).toNatClampNeg := rfl; have := (show k_ + sg_N r ≤ mc + sg_N (put_I (put_R σ b9 2 (s0)) a0 3 (0)) ∧ n_ + sg_S r ≤ ms + sg_S (put_I (put_R σ b9 2 (s0)) a0 3 (0)) from hc); omega
  exact t_X4_init_B39 C1 hin    (some (sg_N (put_I (put_R σ b9 2 (s0)) a0 3 (0)))) (some a0) (new_C (put_I (put_R σ b9 2 (s0)) a0 3 (0)) 12 (960 : Int32).toNatClampNeg) ((((sg_T.putR hT (by rw [(ab9).2]; exact g_s0))).putI).new) ((((hE).putR).putI).new) ((((h0).putR).putI).new) (is_O.some (is_A.born (put_I (put_R σ b9 2 (s0)) a0 3 (0)) 12 (960 : Int32).toNatClampNeg)) (is_O.some ((((h0).putR).putI).new)) ((k_ + 1)) ((n_ + (960 : Int32).toNatClampNeg)) hc11 hf
set_option maxHeartbeats 4000000 in
set_option maxRecDepth 100000 in
theorem t_X4_init_B17 {a0 : Nat} {Γ : Gm} {σ0 : Sg} {r : Sg} {mc ms : Nat} (C1 : CM Γ cX4_init RX4 1 none 1 20 mc ms (fun r_ τ_ => (r_ = none) ∧ τ_ = r ∧ sg_T τ_ ∧ sg_E σ0 τ_)) (hin : Γ.2.2.2.2.2.2.2.2.1.name = "<init>") (s0 : Option Nat) (s1 : Option Nat) (σ : Sg) (hT : sg_T σ) (hE : sg_E σ0 σ) (h0 : is_A σ a0 4) (g_s0 : is_O σ s0 12) (g_s1 : is_O σ s1 4) (k_ n_ : Nat) (hc : (k_ + sg_N r ≤ mc + sg_N σ ∧ n_ + sg_S r ≤ ms + sg_S σ)) (hf : f_X4_init_B17 a0  s0 s1 σ = some r) : J_ Γ 17 [(0, vr (some a0))] [vr (s0), vr (s1)] σ k_ n_ := by
  have C0 := C1.1
  unfold f_X4_init_B17 at hf
  refine K_some hf (fun b6 hb6 hf => ?_)
  have ab6 : is_A σ b6 4 := (g_s1) b6 hb6
  refine J_putFR (q := 20) C0 hin rfl fl_X4_15_4 hb6 (ab6) rfl dX4_init_17 rfl ?_
  refine J_aload_n (q := 21) C0 0 rfl rfl dX4_init_20 rfl trivial ?_
  refine J_bipush (q := 23) (v := 10) C0 dX4_init_21 rfl rfl ?_
  have hm_ := e_X4_init_B25  hf
  have hk_ : k_ + 1 ≤ mc ∧ n_ + (10 : Int32).toNatClampNeg ≤ ms := by have := hm_.1; have := hm_.slots; have := sg_S_new (put_R σ b6 1 (s0)) 13 (10 : Int32).toNatClampNeg; have : sg_N (new_C (put_R σ b6 1 (s0)) 13 (10 : Int32).toNatClampNeg) = sg_N (put_R σ b6 1 (s0)) + 1 := rfl; have : ce_ 13 (10 : Int32).toNatClampNeg = (10 : Int32).toNatClampNeg := rfl; have := (show k_ + sg_N r ≤ mc + sg_N (put_R σ b6 1 (s0)) ∧ n_ + sg_S r ≤ ms + sg_S (put_R σ b6 1 (s0)) from hc); omega
  refine J_newa (at_ := .boolean) (kd := 13) (q := 25) C0 (by simp) wt_a_boolean dX4_init_23 rfl (by decide) (by decide) C1.room hk_.1 hk_.2 ?_
  have hc8 : (k_ + 1) + sg_N r ≤ mc + sg_N (new_C (put_R σ b6 1 (s0)) 13 (10 : Int32).toNatClampNeg) ∧ (n_ + (10 : Int32).toNatClampNeg) + sg_S r ≤ ms + sg_S (new_C (put_R σ b6 1 (s0)) 13 (10 : Int32).toNatClampNeg) := by have := sg_S_new (put_R σ b6 1 (s0)) 13 (10 : Int32).toNatClampNeg; have : sg_N (new_C (put_R σ b6 1 (s0)) 13 (10 : Int32).toNatClampNeg) = sg_N (put_R σ b6 1 (s0)) + 1 := rfl; have : ce_ 13 (10 : Int32).toNatClampNeg = (10 : Int32).toNatClampNeg := rfl; have := (show k_ + sg_N r ≤ mc + sg_N (put_R σ b6 1 (s0)) ∧ n_ + sg_S r ≤ ms + sg_S (put_R σ b6 1 (s0)) from hc); omega
  exact t_X4_init_B25 C1 hin    (some (sg_N (put_R σ b6 1 (s0)))) (some a0) (new_C (put_R σ b6 1 (s0)) 13 (10 : Int32).toNatClampNeg) (((sg_T.putR hT (by rw [(ab6).2]; exact g_s0))).new) (((hE).putR).new) (((h0).putR).new) (is_O.some (is_A.born (put_R σ b6 1 (s0)) 13 (10 : Int32).toNatClampNeg)) (is_O.some (((h0).putR).new)) ((k_ + 1)) ((n_ + (10 : Int32).toNatClampNeg)) hc8 hf
set_option maxHeartbeats 4000000 in
set_option maxRecDepth 100000 in
theorem t_X4_init_B9 {a0 : Nat} {Γ : Gm} {σ0 : Sg} {r : Sg} {mc ms : Nat} (C1 : CM Γ cX4_init RX4 1 none 1 20 mc ms (fun r_ τ_ => (r_ = none) ∧ τ_ = r ∧ sg_T τ_ ∧ sg_E σ0 τ_)) (hin : Γ.2.2.2.2.2.2.2.2.1.name = "<init>") (s0 : Option Nat) (s1 : Option Nat) (σ : Sg) (hT : sg_T σ) (hE : sg_E σ0 σ) (h0 : is_A σ a0 4) (g_s0 : is_O σ s0 12) (g_s1 : is_O σ s1 4) (k_ n_ : Nat) (hc : (k_ + sg_N r ≤ mc + sg_N σ ∧ n_ + sg_S r ≤ ms + sg_S σ)) (hf : f_X4_init_B9 a0  s0 s1 σ = some r) : J_ Γ 9 [(0, vr (some a0))] [vr (s0), vr (s1)] σ k_ n_ := by
  have C0 := C1.1
  unfold f_X4_init_B9 at hf
  refine K_some hf (fun b3 hb3 hf => ?_)
  have ab3 : is_A σ b3 4 := (g_s1) b3 hb3
  refine J_putFR (q := 12) C0 hin rfl fl_X4_9_4 hb3 (ab3) rfl dX4_init_9 rfl ?_
  refine J_aload_n (q := 13) C0 0 rfl rfl dX4_init_12 rfl trivial ?_
  refine J_bipush (q := 15) (v := 10) C0 dX4_init_13 rfl rfl ?_
  have hm_ := e_X4_init_B17  hf
  have hk_ : k_ + 1 ≤ mc ∧ n_ + (10 : Int32).toNatClampNeg ≤ ms := by have := hm_.1; have := hm_.slots; have := sg_S_new (put_R σ b3 0 (s0)) 12 (10 : Int32).toNatClampNeg; have : sg_N (new_C (put_R σ b3 0 (s0)) 12 (10 : Int32).toNatClampNeg) = sg_N (put_R σ b3 0 (s0)) + 1 := rfl; have : ce_ 12 (10 : Int32).toNatClampNeg = (10 : Int32).toNatClampNeg := rfl; have := (show k_ + sg_N r ≤ mc + sg_N (put_R σ b3 0 (s0)) ∧ n_ + sg_S r ≤ ms + sg_S (put_R σ b3 0 (s0)) from hc); omega
  refine J_newa (at_ := .int) (kd := 12) (q := 17) C0 (by simp) wt_a_int dX4_init_15 rfl (by decide) (by decide) C1.room hk_.1 hk_.2 ?_
  have hc5 : (k_ + 1) + sg_N r ≤ mc + sg_N (new_C (put_R σ b3 0 (s0)) 12 (10 : Int32).toNatClampNeg) ∧ (n_ + (10 : Int32).toNatClampNeg) + sg_S r ≤ ms + sg_S (new_C (put_R σ b3 0 (s0)) 12 (10 : Int32).toNatClampNeg) := by have := sg_S_new (put_R σ b3 0 (s0)) 12 (10 : Int32).toNatClampNeg; have : sg_N (new_C (put_R σ b3 0 (s0)) 12 (10 : Int32).toNatClampNeg) = sg_N (put_R σ b3 0 (s0)) + 1 := rfl; have : ce_ 12 (10 : Int32).toNatClampNeg = (10 : Int32).toNatClampNeg := rfl; have := (show k_ + sg_N r ≤ mc + sg_N (put_R σ b3 0 (s0)) ∧ n_ + sg_S r ≤ ms + sg_S (put_R σ b3 0 (s0)) from hc); omega
  exact t_X4_init_B17 C1 hin    (some (sg_N (put_R σ b3 0 (s0)))) (some a0) (new_C (put_R σ b3 0 (s0)) 12 (10 : Int32).toNatClampNeg) (((sg_T.putR hT (by rw [(ab3).2]; exact g_s0))).new) (((hE).putR).new) (((h0).putR).new) (is_O.some (is_A.born (put_R σ b3 0 (s0)) 12 (10 : Int32).toNatClampNeg)) (is_O.some (((h0).putR).new)) ((k_ + 1)) ((n_ + (10 : Int32).toNatClampNeg)) hc5 hf
set_option maxHeartbeats 4000000 in
set_option maxRecDepth 100000 in
theorem t_X4_init (a0 : Nat) {σ : Sg} (hT : sg_T σ) (h0 : is_A σ a0 4) {r : Sg} (hf : f_X4_init a0  σ = some r) {mc ms : Nat} (hc : sg_N r ≤ mc + sg_N σ ∧ sg_S r ≤ ms + sg_S σ) : Ct yX4_init cX4_init 1 none 1 20 mc ms [vr (some a0)] σ (fun r_ τ_ => (r_ = none) ∧ τ_ = r ∧ sg_T τ_ ∧ sg_E σ τ_) := by
  refine Ct.ofI (by decide +kernel) (Nat.le_of_ble_eq_true rfl) (fun Γ C1 hin => ?_)
  have C0 := C1.1
  have hin : Γ.2.2.2.2.2.2.2.2.1.name = "<init>" := hin
  obtain ⟨k_, hk0⟩ : ∃ t : Nat, t = 0 := ⟨_, rfl⟩
  obtain ⟨n_, hn0⟩ : ∃ t : Nat, t = 0 := ⟨_, rfl⟩
  have hc : k_ + sg_N r ≤ mc + sg_N σ ∧ n_ + sg_S r ≤ ms + sg_S σ := by omega
  have hE : sg_E σ σ := sg_E.rf
  unfold f_X4_init at hf
  have goal9 : J_ Γ 0 [(0, vr (some a0))] [] σ k_ n_ := by
    refine J_aload_n (q := 1) C0 0 rfl rfl dX4_init_0 rfl trivial ?_
    refine J_objInit (q := 4) C0 rfl lk_X4_3 im_obj co_obj dX4_init_1 rfl (by simp [ac_]) C1.room (by decide) (by decide) ?_
    refine J_aload_n (q := 5) C0 0 rfl rfl dX4_init_4 rfl trivial ?_
    refine J_bipush (q := 7) (v := 10) C0 dX4_init_5 rfl rfl ?_
    have hm_ := e_X4_init_B9  hf
    have hk_ : k_ + 1 ≤ mc ∧ n_ + (10 : Int32).toNatClampNeg ≤ ms := by have := hm_.1; have := hm_.slots; have := sg_S_new σ 12 (10 : Int32).toNatClampNeg; have : sg_N (new_C σ 12 (10 : Int32).toNatClampNeg) = sg_N σ + 1 := rfl; have : ce_ 12 (10 : Int32).toNatClampNeg = (10 : Int32).toNatClampNeg := rfl; have := (show k_ + sg_N r ≤ mc + sg_N σ ∧ n_ + sg_S r ≤ ms + sg_S σ from hc); omega
    refine J_newa (at_ := .int) (kd := 12) (q := 9) C0 (by simp) wt_a_int dX4_init_7 rfl (by decide) (by decide) C1.room hk_.1 hk_.2 ?_
    have hc2 : (k_ + 1) + sg_N r ≤ mc + sg_N (new_C σ 12 (10 : Int32).toNatClampNeg) ∧ (n_ + (10 : Int32).toNatClampNeg) + sg_S r ≤ ms + sg_S (new_C σ 12 (10 : Int32).toNatClampNeg) := by have := sg_S_new σ 12 (10 : Int32).toNatClampNeg; have : sg_N (new_C σ 12 (10 : Int32).toNatClampNeg) = sg_N σ + 1 := rfl; have : ce_ 12 (10 : Int32).toNatClampNeg = (10 : Int32).toNatClampNeg := rfl; have := (show k_ + sg_N r ≤ mc + sg_N σ ∧ n_ + sg_S r ≤ ms + sg_S σ from hc); omega
    exact t_X4_init_B9 C1 hin    (some (sg_N σ)) (some a0) (new_C σ 12 (10 : Int32).toNatClampNeg) ((hT).new) ((hE).new) ((h0).new) (is_O.some (is_A.born σ 12 (10 : Int32).toNatClampNeg)) (is_O.some ((h0).new)) ((k_ + 1)) ((n_ + (10 : Int32).toNatClampNeg)) hc2 hf
  rw [hk0, hn0] at goal9
  exact goal9
def f_X6_init_B8 (a0 : Nat) (s0 : Option Nat) (s1 : Option Nat) (σ : Sg) : Option Sg :=
  Option.bind (s1) fun b3 =>
  some (put_I (put_I (put_R σ b3 0 (s0)) a0 1 (0)) a0 2 (0))
def f_X6_init (a0 : Nat) (σ : Sg) : Option Sg :=
  f_X6_init_B8 a0 (some (sg_N σ)) (some a0) (new_C σ 12 (0 : Int32).toNatClampNeg)
set_option maxHeartbeats 4000000 in
set_option maxRecDepth 100000 in
theorem e_X6_init_B8 {a0 : Nat} {r : Sg} {s0 : Option Nat} {s1 : Option Nat} {σ : Sg} (hf : f_X6_init_B8 a0  s0 s1 σ = some r) : sg_E σ r := by
  unfold f_X6_init_B8 at hf
  refine K_some hf (fun b3 hb3 hf => ?_)
  obtain rfl := Option.some.inj hf; exact (((sg_E.rf).putR).putI).putI
set_option maxHeartbeats 4000000 in
set_option maxRecDepth 100000 in
theorem e_X6_init {a0 : Nat} {σ : Sg} {r : Sg} (hf : f_X6_init a0  σ = some r) : sg_E σ r := by
  unfold f_X6_init at hf
  exact ((sg_E.rf).new).tr (e_X6_init_B8  hf)
set_option maxHeartbeats 4000000 in
set_option maxRecDepth 100000 in
theorem t_X6_init_B8_k1 {a0 : Nat} {Γ : Gm} {σ0 : Sg} {r : Sg} {mc ms : Nat} (C1 : CM Γ cX6_init RX6 1 none 1 20 mc ms (fun r_ τ_ => (r_ = none) ∧ τ_ = r ∧ sg_T τ_ ∧ sg_E σ0 τ_)) (hin : Γ.2.2.2.2.2.2.2.2.1.name = "<init>") (s0 : Option Nat) (s1 : Option Nat) (σ : Sg) (hT : sg_T σ) (hE : sg_E σ0 σ) (h0 : is_A σ a0 1) (g_s0 : is_O σ s0 12) (g_s1 : is_O σ s1 1) (k_ n_ : Nat) (hc : (k_ + sg_N r ≤ mc + sg_N σ ∧ n_ + sg_S r ≤ ms + sg_S σ)) (hf : f_X6_init_B8 a0  s0 s1 σ = some r) : J_ Γ 8 [(0, vr (some a0))] [vr (s0), vr (s1)] σ k_ n_ := by
  have C0 := C1.1
  unfold f_X6_init_B8 at hf
  refine K_some hf (fun b3 hb3 hf => ?_)
  have ab3 : is_A σ b3 1 := (g_s1) b3 hb3
  refine J_putR (q := 11) C0 rfl fl_X6_9_1 hb3 (ab3) rfl dX6_init_8 rfl ?_
  refine J_aload_n (q := 12) C0 0 rfl rfl dX6_init_11 rfl trivial ?_
  refine J_iconst (q := 13) (v := 0) C0 dX6_init_12 rfl rfl ?_
  refine J_putI (q := 16) C0 fl_X6_15_1 rfl ((h0).putR) rfl dX6_init_13 rfl ?_
  refine J_aload_n (q := 17) C0 0 rfl rfl dX6_init_16 rfl trivial ?_
  refine J_iconst (q := 18) (v := 0) C0 dX6_init_17 rfl rfl ?_
  refine J_putI (q := 21) C0 fl_X6_19_1 rfl (((h0).putR).putI) rfl dX6_init_18 rfl ?_
  obtain rfl := Option.some.inj hf; exact J_vret C1 dX6_init_21 rfl (by have h9 : k_ + sg_N (put_I (put_I (put_R σ b3 0 (s0)) a0 1 (0)) a0 2 (0)) ≤ mc + sg_N (put_I (put_I (put_R σ b3 0 (s0)) a0 1 (0)) a0 2 (0)) ∧ n_ + sg_S (put_I (put_I (put_R σ b3 0 (s0)) a0 1 (0)) a0 2 (0)) ≤ ms + sg_S (put_I (put_I (put_R σ b3 0 (s0)) a0 1 (0)) a0 2 (0)) := hc; omega) (by have h9 : k_ + sg_N (put_I (put_I (put_R σ b3 0 (s0)) a0 1 (0)) a0 2 (0)) ≤ mc + sg_N (put_I (put_I (put_R σ b3 0 (s0)) a0 1 (0)) a0 2 (0)) ∧ n_ + sg_S (put_I (put_I (put_R σ b3 0 (s0)) a0 1 (0)) a0 2 (0)) ≤ ms + sg_S (put_I (put_I (put_R σ b3 0 (s0)) a0 1 (0)) a0 2 (0)) := hc; omega) ⟨rfl, rfl, (((sg_T.putR hT (by rw [(ab3).2]; exact g_s0))).putI).putI, (((hE).putR).putI).putI⟩
set_option maxHeartbeats 4000000 in
set_option maxRecDepth 100000 in
theorem t_X6_init_k1 (a0 : Nat) {σ : Sg} (hT : sg_T σ) (h0 : is_A σ a0 1) {r : Sg} (hf : f_X6_init a0  σ = some r) {mc ms : Nat} (hc : sg_N r ≤ mc + sg_N σ ∧ sg_S r ≤ ms + sg_S σ) : Ct yX6_init cX6_init 1 none 1 20 mc ms [vr (some a0)] σ (fun r_ τ_ => (r_ = none) ∧ τ_ = r ∧ sg_T τ_ ∧ sg_E σ τ_) := by
  refine Ct.ofI (by decide +kernel) (Nat.le_of_ble_eq_true rfl) (fun Γ C1 hin => ?_)
  have C0 := C1.1
  have hin : Γ.2.2.2.2.2.2.2.2.1.name = "<init>" := hin
  obtain ⟨k_, hk0⟩ : ∃ t : Nat, t = 0 := ⟨_, rfl⟩
  obtain ⟨n_, hn0⟩ : ∃ t : Nat, t = 0 := ⟨_, rfl⟩
  have hc : k_ + sg_N r ≤ mc + sg_N σ ∧ n_ + sg_S r ≤ ms + sg_S σ := by omega
  have hE : sg_E σ σ := sg_E.rf
  unfold f_X6_init at hf
  have goal9 : J_ Γ 0 [(0, vr (some a0))] [] σ k_ n_ := by
    refine J_aload_n (q := 1) C0 0 rfl rfl dX6_init_0 rfl trivial ?_
    refine J_objInit (q := 4) C0 rfl lk_X6_3 im_obj co_obj dX6_init_1 rfl (by simp [ac_]) C1.room (by decide) (by decide) ?_
    refine J_aload_n (q := 5) C0 0 rfl rfl dX6_init_4 rfl trivial ?_
    refine J_iconst (q := 6) (v := 0) C0 dX6_init_5 rfl rfl ?_
    have hm_ := e_X6_init_B8  hf
    have hk_ : k_ + 1 ≤ mc ∧ n_ + (0 : Int32).toNatClampNeg ≤ ms := by have := hm_.1; have := hm_.slots; have := sg_S_new σ 12 (0 : Int32).toNatClampNeg; have : sg_N (new_C σ 12 (0 : Int32).toNatClampNeg) = sg_N σ + 1 := rfl; have : ce_ 12 (0 : Int32).toNatClampNeg = (0 : Int32).toNatClampNeg := rfl; have := (show k_ + sg_N r ≤ mc + sg_N σ ∧ n_ + sg_S r ≤ ms + sg_S σ from hc); omega
    refine J_newa (at_ := .int) (kd := 12) (q := 8) C0 (by simp) wt_a_int dX6_init_6 rfl (by decide) (by decide) C1.room hk_.1 hk_.2 ?_
    have hc2 : (k_ + 1) + sg_N r ≤ mc + sg_N (new_C σ 12 (0 : Int32).toNatClampNeg) ∧ (n_ + (0 : Int32).toNatClampNeg) + sg_S r ≤ ms + sg_S (new_C σ 12 (0 : Int32).toNatClampNeg) := by have := sg_S_new σ 12 (0 : Int32).toNatClampNeg; have : sg_N (new_C σ 12 (0 : Int32).toNatClampNeg) = sg_N σ + 1 := rfl; have : ce_ 12 (0 : Int32).toNatClampNeg = (0 : Int32).toNatClampNeg := rfl; have := (show k_ + sg_N r ≤ mc + sg_N σ ∧ n_ + sg_S r ≤ ms + sg_S σ from hc); omega
    exact t_X6_init_B8_k1 C1 hin    (some (sg_N σ)) (some a0) (new_C σ 12 (0 : Int32).toNatClampNeg) ((hT).new) ((hE).new) ((h0).new) (is_O.some (is_A.born σ 12 (0 : Int32).toNatClampNeg)) (is_O.some ((h0).new)) ((k_ + 1)) ((n_ + (0 : Int32).toNatClampNeg)) hc2 hf
  rw [hk0, hn0] at goal9
  exact goal9
set_option maxHeartbeats 4000000 in
set_option maxRecDepth 100000 in
theorem t_X6_init_B8_k3 {a0 : Nat} {Γ : Gm} {σ0 : Sg} {r : Sg} {mc ms : Nat} (C1 : CM Γ cX6_init RX6 1 none 1 20 mc ms (fun r_ τ_ => (r_ = none) ∧ τ_ = r ∧ sg_T τ_ ∧ sg_E σ0 τ_)) (hin : Γ.2.2.2.2.2.2.2.2.1.name = "<init>") (s0 : Option Nat) (s1 : Option Nat) (σ : Sg) (hT : sg_T σ) (hE : sg_E σ0 σ) (h0 : is_A σ a0 3) (g_s0 : is_O σ s0 12) (g_s1 : is_O σ s1 3) (k_ n_ : Nat) (hc : (k_ + sg_N r ≤ mc + sg_N σ ∧ n_ + sg_S r ≤ ms + sg_S σ)) (hf : f_X6_init_B8 a0  s0 s1 σ = some r) : J_ Γ 8 [(0, vr (some a0))] [vr (s0), vr (s1)] σ k_ n_ := by
  have C0 := C1.1
  unfold f_X6_init_B8 at hf
  refine K_some hf (fun b3 hb3 hf => ?_)
  have ab3 : is_A σ b3 3 := (g_s1) b3 hb3
  refine J_putR (q := 11) C0 rfl fl_X6_9_3 hb3 (ab3) rfl dX6_init_8 rfl ?_
  refine J_aload_n (q := 12) C0 0 rfl rfl dX6_init_11 rfl trivial ?_
  refine J_iconst (q := 13) (v := 0) C0 dX6_init_12 rfl rfl ?_
  refine J_putI (q := 16) C0 fl_X6_15_3 rfl ((h0).putR) rfl dX6_init_13 rfl ?_
  refine J_aload_n (q := 17) C0 0 rfl rfl dX6_init_16 rfl trivial ?_
  refine J_iconst (q := 18) (v := 0) C0 dX6_init_17 rfl rfl ?_
  refine J_putI (q := 21) C0 fl_X6_19_3 rfl (((h0).putR).putI) rfl dX6_init_18 rfl ?_
  obtain rfl := Option.some.inj hf; exact J_vret C1 dX6_init_21 rfl (by have h9 : k_ + sg_N (put_I (put_I (put_R σ b3 0 (s0)) a0 1 (0)) a0 2 (0)) ≤ mc + sg_N (put_I (put_I (put_R σ b3 0 (s0)) a0 1 (0)) a0 2 (0)) ∧ n_ + sg_S (put_I (put_I (put_R σ b3 0 (s0)) a0 1 (0)) a0 2 (0)) ≤ ms + sg_S (put_I (put_I (put_R σ b3 0 (s0)) a0 1 (0)) a0 2 (0)) := hc; omega) (by have h9 : k_ + sg_N (put_I (put_I (put_R σ b3 0 (s0)) a0 1 (0)) a0 2 (0)) ≤ mc + sg_N (put_I (put_I (put_R σ b3 0 (s0)) a0 1 (0)) a0 2 (0)) ∧ n_ + sg_S (put_I (put_I (put_R σ b3 0 (s0)) a0 1 (0)) a0 2 (0)) ≤ ms + sg_S (put_I (put_I (put_R σ b3 0 (s0)) a0 1 (0)) a0 2 (0)) := hc; omega) ⟨rfl, rfl, (((sg_T.putR hT (by rw [(ab3).2]; exact g_s0))).putI).putI, (((hE).putR).putI).putI⟩
set_option maxHeartbeats 4000000 in
set_option maxRecDepth 100000 in
theorem t_X6_init_k3 (a0 : Nat) {σ : Sg} (hT : sg_T σ) (h0 : is_A σ a0 3) {r : Sg} (hf : f_X6_init a0  σ = some r) {mc ms : Nat} (hc : sg_N r ≤ mc + sg_N σ ∧ sg_S r ≤ ms + sg_S σ) : Ct yX6_init cX6_init 1 none 1 20 mc ms [vr (some a0)] σ (fun r_ τ_ => (r_ = none) ∧ τ_ = r ∧ sg_T τ_ ∧ sg_E σ τ_) := by
  refine Ct.ofI (by decide +kernel) (Nat.le_of_ble_eq_true rfl) (fun Γ C1 hin => ?_)
  have C0 := C1.1
  have hin : Γ.2.2.2.2.2.2.2.2.1.name = "<init>" := hin
  obtain ⟨k_, hk0⟩ : ∃ t : Nat, t = 0 := ⟨_, rfl⟩
  obtain ⟨n_, hn0⟩ : ∃ t : Nat, t = 0 := ⟨_, rfl⟩
  have hc : k_ + sg_N r ≤ mc + sg_N σ ∧ n_ + sg_S r ≤ ms + sg_S σ := by omega
  have hE : sg_E σ σ := sg_E.rf
  unfold f_X6_init at hf
  have goal9 : J_ Γ 0 [(0, vr (some a0))] [] σ k_ n_ := by
    refine J_aload_n (q := 1) C0 0 rfl rfl dX6_init_0 rfl trivial ?_
    refine J_objInit (q := 4) C0 rfl lk_X6_3 im_obj co_obj dX6_init_1 rfl (by simp [ac_]) C1.room (by decide) (by decide) ?_
    refine J_aload_n (q := 5) C0 0 rfl rfl dX6_init_4 rfl trivial ?_
    refine J_iconst (q := 6) (v := 0) C0 dX6_init_5 rfl rfl ?_
    have hm_ := e_X6_init_B8  hf
    have hk_ : k_ + 1 ≤ mc ∧ n_ + (0 : Int32).toNatClampNeg ≤ ms := by have := hm_.1; have := hm_.slots; have := sg_S_new σ 12 (0 : Int32).toNatClampNeg; have : sg_N (new_C σ 12 (0 : Int32).toNatClampNeg) = sg_N σ + 1 := rfl; have : ce_ 12 (0 : Int32).toNatClampNeg = (0 : Int32).toNatClampNeg := rfl; have := (show k_ + sg_N r ≤ mc + sg_N σ ∧ n_ + sg_S r ≤ ms + sg_S σ from hc); omega
    refine J_newa (at_ := .int) (kd := 12) (q := 8) C0 (by simp) wt_a_int dX6_init_6 rfl (by decide) (by decide) C1.room hk_.1 hk_.2 ?_
    have hc2 : (k_ + 1) + sg_N r ≤ mc + sg_N (new_C σ 12 (0 : Int32).toNatClampNeg) ∧ (n_ + (0 : Int32).toNatClampNeg) + sg_S r ≤ ms + sg_S (new_C σ 12 (0 : Int32).toNatClampNeg) := by have := sg_S_new σ 12 (0 : Int32).toNatClampNeg; have : sg_N (new_C σ 12 (0 : Int32).toNatClampNeg) = sg_N σ + 1 := rfl; have : ce_ 12 (0 : Int32).toNatClampNeg = (0 : Int32).toNatClampNeg := rfl; have := (show k_ + sg_N r ≤ mc + sg_N σ ∧ n_ + sg_S r ≤ ms + sg_S σ from hc); omega
    exact t_X6_init_B8_k3 C1 hin    (some (sg_N σ)) (some a0) (new_C σ 12 (0 : Int32).toNatClampNeg) ((hT).new) ((hE).new) ((h0).new) (is_O.some (is_A.born σ 12 (0 : Int32).toNatClampNeg)) (is_O.some ((h0).new)) ((k_ + 1)) ((n_ + (0 : Int32).toNatClampNeg)) hc2 hf
  rw [hk0, hn0] at goal9
  exact goal9
set_option maxHeartbeats 4000000 in
set_option maxRecDepth 100000 in
theorem t_X6_init_B8_k8 {a0 : Nat} {Γ : Gm} {σ0 : Sg} {r : Sg} {mc ms : Nat} (C1 : CM Γ cX6_init RX6 1 none 1 20 mc ms (fun r_ τ_ => (r_ = none) ∧ τ_ = r ∧ sg_T τ_ ∧ sg_E σ0 τ_)) (hin : Γ.2.2.2.2.2.2.2.2.1.name = "<init>") (s0 : Option Nat) (s1 : Option Nat) (σ : Sg) (hT : sg_T σ) (hE : sg_E σ0 σ) (h0 : is_A σ a0 8) (g_s0 : is_O σ s0 12) (g_s1 : is_O σ s1 8) (k_ n_ : Nat) (hc : (k_ + sg_N r ≤ mc + sg_N σ ∧ n_ + sg_S r ≤ ms + sg_S σ)) (hf : f_X6_init_B8 a0  s0 s1 σ = some r) : J_ Γ 8 [(0, vr (some a0))] [vr (s0), vr (s1)] σ k_ n_ := by
  have C0 := C1.1
  unfold f_X6_init_B8 at hf
  refine K_some hf (fun b3 hb3 hf => ?_)
  have ab3 : is_A σ b3 8 := (g_s1) b3 hb3
  refine J_putR (q := 11) C0 rfl fl_X6_9_8 hb3 (ab3) rfl dX6_init_8 rfl ?_
  refine J_aload_n (q := 12) C0 0 rfl rfl dX6_init_11 rfl trivial ?_
  refine J_iconst (q := 13) (v := 0) C0 dX6_init_12 rfl rfl ?_
  refine J_putI (q := 16) C0 fl_X6_15_8 rfl ((h0).putR) rfl dX6_init_13 rfl ?_
  refine J_aload_n (q := 17) C0 0 rfl rfl dX6_init_16 rfl trivial ?_
  refine J_iconst (q := 18) (v := 0) C0 dX6_init_17 rfl rfl ?_
  refine J_putI (q := 21) C0 fl_X6_19_8 rfl (((h0).putR).putI) rfl dX6_init_18 rfl ?_
  obtain rfl := Option.some.inj hf; exact J_vret C1 dX6_init_21 rfl (by have h9 : k_ + sg_N (put_I (put_I (put_R σ b3 0 (s0)) a0 1 (0)) a0 2 (0)) ≤ mc + sg_N (put_I (put_I (put_R σ b3 0 (s0)) a0 1 (0)) a0 2 (0)) ∧ n_ + sg_S (put_I (put_I (put_R σ b3 0 (s0)) a0 1 (0)) a0 2 (0)) ≤ ms + sg_S (put_I (put_I (put_R σ b3 0 (s0)) a0 1 (0)) a0 2 (0)) := hc; omega) (by have h9 : k_ + sg_N (put_I (put_I (put_R σ b3 0 (s0)) a0 1 (0)) a0 2 (0)) ≤ mc + sg_N (put_I (put_I (put_R σ b3 0 (s0)) a0 1 (0)) a0 2 (0)) ∧ n_ + sg_S (put_I (put_I (put_R σ b3 0 (s0)) a0 1 (0)) a0 2 (0)) ≤ ms + sg_S (put_I (put_I (put_R σ b3 0 (s0)) a0 1 (0)) a0 2 (0)) := hc; omega) ⟨rfl, rfl, (((sg_T.putR hT (by rw [(ab3).2]; exact g_s0))).putI).putI, (((hE).putR).putI).putI⟩
set_option maxHeartbeats 4000000 in
set_option maxRecDepth 100000 in
theorem t_X6_init_k8 (a0 : Nat) {σ : Sg} (hT : sg_T σ) (h0 : is_A σ a0 8) {r : Sg} (hf : f_X6_init a0  σ = some r) {mc ms : Nat} (hc : sg_N r ≤ mc + sg_N σ ∧ sg_S r ≤ ms + sg_S σ) : Ct yX6_init cX6_init 1 none 1 20 mc ms [vr (some a0)] σ (fun r_ τ_ => (r_ = none) ∧ τ_ = r ∧ sg_T τ_ ∧ sg_E σ τ_) := by
  refine Ct.ofI (by decide +kernel) (Nat.le_of_ble_eq_true rfl) (fun Γ C1 hin => ?_)
  have C0 := C1.1
  have hin : Γ.2.2.2.2.2.2.2.2.1.name = "<init>" := hin
  obtain ⟨k_, hk0⟩ : ∃ t : Nat, t = 0 := ⟨_, rfl⟩
  obtain ⟨n_, hn0⟩ : ∃ t : Nat, t = 0 := ⟨_, rfl⟩
  have hc : k_ + sg_N r ≤ mc + sg_N σ ∧ n_ + sg_S r ≤ ms + sg_S σ := by omega
  have hE : sg_E σ σ := sg_E.rf
  unfold f_X6_init at hf
  have goal9 : J_ Γ 0 [(0, vr (some a0))] [] σ k_ n_ := by
    refine J_aload_n (q := 1) C0 0 rfl rfl dX6_init_0 rfl trivial ?_
    refine J_objInit (q := 4) C0 rfl lk_X6_3 im_obj co_obj dX6_init_1 rfl (by simp [ac_]) C1.room (by decide) (by decide) ?_
    refine J_aload_n (q := 5) C0 0 rfl rfl dX6_init_4 rfl trivial ?_
    refine J_iconst (q := 6) (v := 0) C0 dX6_init_5 rfl rfl ?_
    have hm_ := e_X6_init_B8  hf
    have hk_ : k_ + 1 ≤ mc ∧ n_ + (0 : Int32).toNatClampNeg ≤ ms := by have := hm_.1; have := hm_.slots; have := sg_S_new σ 12 (0 : Int32).toNatClampNeg; have : sg_N (new_C σ 12 (0 : Int32).toNatClampNeg) = sg_N σ + 1 := rfl; have : ce_ 12 (0 : Int32).toNatClampNeg = (0 : Int32).toNatClampNeg := rfl; have := (show k_ + sg_N r ≤ mc + sg_N σ ∧ n_ + sg_S r ≤ ms + sg_S σ from hc); omega
    refine J_newa (at_ := .int) (kd := 12) (q := 8) C0 (by simp) wt_a_int dX6_init_6 rfl (by decide) (by decide) C1.room hk_.1 hk_.2 ?_
    have hc2 : (k_ + 1) + sg_N r ≤ mc + sg_N (new_C σ 12 (0 : Int32).toNatClampNeg) ∧ (n_ + (0 : Int32).toNatClampNeg) + sg_S r ≤ ms + sg_S (new_C σ 12 (0 : Int32).toNatClampNeg) := by have := sg_S_new σ 12 (0 : Int32).toNatClampNeg; have : sg_N (new_C σ 12 (0 : Int32).toNatClampNeg) = sg_N σ + 1 := rfl; have : ce_ 12 (0 : Int32).toNatClampNeg = (0 : Int32).toNatClampNeg := rfl; have := (show k_ + sg_N r ≤ mc + sg_N σ ∧ n_ + sg_S r ≤ ms + sg_S σ from hc); omega
    exact t_X6_init_B8_k8 C1 hin    (some (sg_N σ)) (some a0) (new_C σ 12 (0 : Int32).toNatClampNeg) ((hT).new) ((hE).new) ((h0).new) (is_O.some (is_A.born σ 12 (0 : Int32).toNatClampNeg)) (is_O.some ((h0).new)) ((k_ + 1)) ((n_ + (0 : Int32).toNatClampNeg)) hc2 hf
  rw [hk0, hn0] at goal9
  exact goal9
def f_X1_init_B21 (a0 : Nat) (s0 : Option Nat) (s1 : Option Nat) (σ : Sg) : Option Sg :=
  Option.bind (s1) fun b8 =>
  some (put_I (put_R σ b8 5 (s0)) a0 6 (0))
def f_X1_init_B8 (a0 : Nat) (s0 : Option Nat) (s1 : Option Nat) (σ : Sg) : Option Sg :=
  Option.bind (s1) fun b5 =>
  f_X1_init_B21 a0 (some (sg_N (put_I (put_R σ b5 3 (s0)) a0 4 (0)))) (some a0) (new_C (put_I (put_R σ b5 3 (s0)) a0 4 (0)) 12 (16 : Int32).toNatClampNeg)
def f_X1_init_B4 (a0 : Nat) (σ : Sg) : Option Sg :=
  f_X1_init_B8 a0 (some (sg_N σ)) (some a0) (new_C σ 12 (3 : Int32).toNatClampNeg)
def f_X1_init (a0 : Nat) (σ : Sg) : Option Sg :=
  Option.bind (f_X6_init a0  σ) fun p1 =>
  f_X1_init_B4 a0  (p1)
set_option maxHeartbeats 4000000 in
set_option maxRecDepth 100000 in
theorem e_X1_init_B21 {a0 : Nat} {r : Sg} {s0 : Option Nat} {s1 : Option Nat} {σ : Sg} (hf : f_X1_init_B21 a0  s0 s1 σ = some r) : sg_E σ r := by
  unfold f_X1_init_B21 at hf
  refine K_some hf (fun b8 hb8 hf => ?_)
  obtain rfl := Option.some.inj hf; exact ((sg_E.rf).putR).putI
set_option maxHeartbeats 4000000 in
set_option maxRecDepth 100000 in
theorem e_X1_init_B8 {a0 : Nat} {r : Sg} {s0 : Option Nat} {s1 : Option Nat} {σ : Sg} (hf : f_X1_init_B8 a0  s0 s1 σ = some r) : sg_E σ r := by
  unfold f_X1_init_B8 at hf
  refine K_some hf (fun b5 hb5 hf => ?_)
  exact ((((sg_E.rf).putR).putI).new).tr (e_X1_init_B21  hf)
set_option maxHeartbeats 4000000 in
set_option maxRecDepth 100000 in
theorem e_X1_init_B4 {a0 : Nat} {r : Sg} {σ : Sg} (hf : f_X1_init_B4 a0   σ = some r) : sg_E σ r := by
  unfold f_X1_init_B4 at hf
  exact ((sg_E.rf).new).tr (e_X1_init_B8  hf)
set_option maxHeartbeats 4000000 in
set_option maxRecDepth 100000 in
theorem e_X1_init {a0 : Nat} {σ : Sg} {r : Sg} (hf : f_X1_init a0  σ = some r) : sg_E σ r := by
  unfold f_X1_init at hf
  refine K_some hf (fun p1 hp1 hf => ?_)
  exact ((sg_E.rf).tr (e_X6_init hp1)).tr (e_X1_init_B4  hf)
set_option maxHeartbeats 4000000 in
set_option maxRecDepth 100000 in
theorem t_X1_init_B21 {a0 : Nat} {Γ : Gm} {σ0 : Sg} {r : Sg} {mc ms : Nat} (C1 : CM Γ cX1_init RX1 1 none 2 40 mc ms (fun r_ τ_ => (r_ = none) ∧ τ_ = r ∧ sg_T τ_ ∧ sg_E σ0 τ_)) (hin : Γ.2.2.2.2.2.2.2.2.1.name = "<init>") (s0 : Option Nat) (s1 : Option Nat) (σ : Sg) (hT : sg_T σ) (hE : sg_E σ0 σ) (h0 : is_A σ a0 1) (g_s0 : is_O σ s0 12) (g_s1 : is_O σ s1 1) (k_ n_ : Nat) (hc : (k_ + sg_N r ≤ mc + sg_N σ ∧ n_ + sg_S r ≤ ms + sg_S σ)) (hf : f_X1_init_B21 a0  s0 s1 σ = some r) : J_ Γ 21 [(0, vr (some a0))] [vr (s0), vr (s1)] σ k_ n_ := by
  have C0 := C1.1
  unfold f_X1_init_B21 at hf
  refine K_some hf (fun b8 hb8 hf => ?_)
  have ab8 : is_A σ b8 1 := (g_s1) b8 hb8
  refine J_putFR (q := 24) C0 hin rfl fl_X1_19_1 hb8 (ab8) rfl dX1_init_21 rfl ?_
  refine J_aload_n (q := 25) C0 0 rfl rfl dX1_init_24 rfl trivial ?_
  refine J_iconst (q := 26) (v := 0) C0 dX1_init_25 rfl rfl ?_
  refine J_putI (q := 29) C0 fl_X1_22_1 rfl ((h0).putR) rfl dX1_init_26 rfl ?_
  obtain rfl := Option.some.inj hf; exact J_vret C1 dX1_init_29 rfl (by have h9 : k_ + sg_N (put_I (put_R σ b8 5 (s0)) a0 6 (0)) ≤ mc + sg_N (put_I (put_R σ b8 5 (s0)) a0 6 (0)) ∧ n_ + sg_S (put_I (put_R σ b8 5 (s0)) a0 6 (0)) ≤ ms + sg_S (put_I (put_R σ b8 5 (s0)) a0 6 (0)) := hc; omega) (by have h9 : k_ + sg_N (put_I (put_R σ b8 5 (s0)) a0 6 (0)) ≤ mc + sg_N (put_I (put_R σ b8 5 (s0)) a0 6 (0)) ∧ n_ + sg_S (put_I (put_R σ b8 5 (s0)) a0 6 (0)) ≤ ms + sg_S (put_I (put_R σ b8 5 (s0)) a0 6 (0)) := hc; omega) ⟨rfl, rfl, ((sg_T.putR hT (by rw [(ab8).2]; exact g_s0))).putI, ((hE).putR).putI⟩
set_option maxHeartbeats 4000000 in
set_option maxRecDepth 100000 in
theorem t_X1_init_B8 {a0 : Nat} {Γ : Gm} {σ0 : Sg} {r : Sg} {mc ms : Nat} (C1 : CM Γ cX1_init RX1 1 none 2 40 mc ms (fun r_ τ_ => (r_ = none) ∧ τ_ = r ∧ sg_T τ_ ∧ sg_E σ0 τ_)) (hin : Γ.2.2.2.2.2.2.2.2.1.name = "<init>") (s0 : Option Nat) (s1 : Option Nat) (σ : Sg) (hT : sg_T σ) (hE : sg_E σ0 σ) (h0 : is_A σ a0 1) (g_s0 : is_O σ s0 12) (g_s1 : is_O σ s1 1) (k_ n_ : Nat) (hc : (k_ + sg_N r ≤ mc + sg_N σ ∧ n_ + sg_S r ≤ ms + sg_S σ)) (hf : f_X1_init_B8 a0  s0 s1 σ = some r) : J_ Γ 8 [(0, vr (some a0))] [vr (s0), vr (s1)] σ k_ n_ := by
  have C0 := C1.1
  unfold f_X1_init_B8 at hf
  refine K_some hf (fun b5 hb5 hf => ?_)
  have ab5 : is_A σ b5 1 := (g_s1) b5 hb5
  refine J_putFR (q := 11) C0 hin rfl fl_X1_9_1 hb5 (ab5) rfl dX1_init_8 rfl ?_
  refine J_aload_n (q := 12) C0 0 rfl rfl dX1_init_11 rfl trivial ?_
  refine J_iconst (q := 13) (v := 0) C0 dX1_init_12 rfl rfl ?_
  refine J_putZ (q := 16) C0 (Or.inl rfl) fl_X1_15_1 rfl ((h0).putR) rfl dX1_init_13 rfl ?_
  refine J_aload_n (q := 17) C0 0 rfl rfl dX1_init_16 rfl trivial ?_
  refine J_bipush (q := 19) (v := 16) C0 dX1_init_17 rfl rfl ?_
  have hm_ := e_X1_init_B21  hf
  have hk_ : k_ + 1 ≤ mc ∧ n_ + (16 : Int32).toNatClampNeg ≤ ms := by have := hm_.1; have := hm_.slots; have := sg_S_new (put_I (put_R σ b5 3 (s0)) a0 4 (0)) 12 (16 : Int32).toNatClampNeg; have : sg_N (new_C (put_I (put_R σ b5 3 (s0)) a0 4 (0)) 12 (16 : Int32).toNatClampNeg) = sg_N (put_I (put_R σ b5 3 (s0)) a0 4 (0)) + 1 := rfl; have : ce_ 12 (16 : Int32).toNatClampNeg = (16 : Int32).toNatClampNeg := rfl; have := (show k_ + sg_N r ≤ mc + sg_N (put_I (put_R σ b5 3 (s0)) a0 4 (0)) ∧ n_ + sg_S r ≤ ms + sg_S (put_I (put_R σ b5 3 (s0)) a0 4 (0)) from hc); omega
  refine J_newa (at_ := .int) (kd := 12) (q := 21) C0 (by simp) wt_a_int dX1_init_19 rfl (by decide) (by decide) C1.room hk_.1 hk_.2 ?_
  have hc7 : (k_ + 1) + sg_N r ≤ mc + sg_N (new_C (put_I (put_R σ b5 3 (s0)) a0 4 (0)) 12 (16 : Int32).toNatClampNeg) ∧ (n_ + (16 : Int32).toNatClampNeg) + sg_S r ≤ ms + sg_S (new_C (put_I (put_R σ b5 3 (s0)) a0 4 (0)) 12 (16 : Int32).toNatClampNeg) := by have := sg_S_new (put_I (put_R σ b5 3 (s0)) a0 4 (0)) 12 (16 : Int32).toNatClampNeg; have : sg_N (new_C (put_I (put_R σ b5 3 (s0)) a0 4 (0)) 12 (16 : Int32).toNatClampNeg) = sg_N (put_I (put_R σ b5 3 (s0)) a0 4 (0)) + 1 := rfl; have : ce_ 12 (16 : Int32).toNatClampNeg = (16 : Int32).toNatClampNeg := rfl; have := (show k_ + sg_N r ≤ mc + sg_N (put_I (put_R σ b5 3 (s0)) a0 4 (0)) ∧ n_ + sg_S r ≤ ms + sg_S (put_I (put_R σ b5 3 (s0)) a0 4 (0)) from hc); omega
  exact t_X1_init_B21 C1 hin    (some (sg_N (put_I (put_R σ b5 3 (s0)) a0 4 (0)))) (some a0) (new_C (put_I (put_R σ b5 3 (s0)) a0 4 (0)) 12 (16 : Int32).toNatClampNeg) ((((sg_T.putR hT (by rw [(ab5).2]; exact g_s0))).putI).new) ((((hE).putR).putI).new) ((((h0).putR).putI).new) (is_O.some (is_A.born (put_I (put_R σ b5 3 (s0)) a0 4 (0)) 12 (16 : Int32).toNatClampNeg)) (is_O.some ((((h0).putR).putI).new)) ((k_ + 1)) ((n_ + (16 : Int32).toNatClampNeg)) hc7 hf
set_option maxHeartbeats 4000000 in
set_option maxRecDepth 100000 in
theorem t_X1_init_B4 {a0 : Nat} {Γ : Gm} {σ0 : Sg} {r : Sg} {mc ms : Nat} (C1 : CM Γ cX1_init RX1 1 none 2 40 mc ms (fun r_ τ_ => (r_ = none) ∧ τ_ = r ∧ sg_T τ_ ∧ sg_E σ0 τ_)) (hin : Γ.2.2.2.2.2.2.2.2.1.name = "<init>") (σ : Sg) (hT : sg_T σ) (hE : sg_E σ0 σ) (h0 : is_A σ a0 1) (k_ n_ : Nat) (hc : (k_ + sg_N r ≤ mc + sg_N σ ∧ n_ + sg_S r ≤ ms + sg_S σ)) (hf : f_X1_init_B4 a0   σ = some r) : J_ Γ 4 [(0, vr (some a0))] [] σ k_ n_ := by
  have C0 := C1.1
  unfold f_X1_init_B4 at hf
  refine J_aload_n (q := 5) C0 0 rfl rfl dX1_init_4 rfl trivial ?_
  refine J_iconst (q := 6) (v := 3) C0 dX1_init_5 rfl rfl ?_
  have hm_ := e_X1_init_B8  hf
  have hk_ : k_ + 1 ≤ mc ∧ n_ + (3 : Int32).toNatClampNeg ≤ ms := by have := hm_.1; have := hm_.slots; have := sg_S_new σ 12 (3 : Int32).toNatClampNeg; have : sg_N (new_C σ 12 (3 : Int32).toNatClampNeg) = sg_N σ + 1 := rfl; have : ce_ 12 (3 : Int32).toNatClampNeg = (3 : Int32).toNatClampNeg := rfl; have := (show k_ + sg_N r ≤ mc + sg_N σ ∧ n_ + sg_S r ≤ ms + sg_S σ from hc); omega
  refine J_newa (at_ := .int) (kd := 12) (q := 8) C0 (by simp) wt_a_int dX1_init_6 rfl (by decide) (by decide) C1.room hk_.1 hk_.2 ?_
  have hc4 : (k_ + 1) + sg_N r ≤ mc + sg_N (new_C σ 12 (3 : Int32).toNatClampNeg) ∧ (n_ + (3 : Int32).toNatClampNeg) + sg_S r ≤ ms + sg_S (new_C σ 12 (3 : Int32).toNatClampNeg) := by have := sg_S_new σ 12 (3 : Int32).toNatClampNeg; have : sg_N (new_C σ 12 (3 : Int32).toNatClampNeg) = sg_N σ + 1 := rfl; have : ce_ 12 (3 : Int32).toNatClampNeg = (3 : Int32).toNatClampNeg := rfl; have := (show k_ + sg_N r ≤ mc + sg_N σ ∧ n_ + sg_S r ≤ ms + sg_S σ from hc); omega
  exact t_X1_init_B8 C1 hin    (some (sg_N σ)) (some a0) (new_C σ 12 (3 : Int32).toNatClampNeg) ((hT).new) ((hE).new) ((h0).new) (is_O.some (is_A.born σ 12 (3 : Int32).toNatClampNeg)) (is_O.some ((h0).new)) ((k_ + 1)) ((n_ + (3 : Int32).toNatClampNeg)) hc4 hf
set_option maxHeartbeats 4000000 in
set_option maxRecDepth 100000 in
theorem t_X1_init (a0 : Nat) {σ : Sg} (hT : sg_T σ) (h0 : is_A σ a0 1) {r : Sg} (hf : f_X1_init a0  σ = some r) {mc ms : Nat} (hc : sg_N r ≤ mc + sg_N σ ∧ sg_S r ≤ ms + sg_S σ) : Ct yX1_init cX1_init 1 none 2 40 mc ms [vr (some a0)] σ (fun r_ τ_ => (r_ = none) ∧ τ_ = r ∧ sg_T τ_ ∧ sg_E σ τ_) := by
  refine Ct.ofI (by decide +kernel) (Nat.le_of_ble_eq_true rfl) (fun Γ C1 hin => ?_)
  have C0 := C1.1
  have hin : Γ.2.2.2.2.2.2.2.2.1.name = "<init>" := hin
  obtain ⟨k_, hk0⟩ : ∃ t : Nat, t = 0 := ⟨_, rfl⟩
  obtain ⟨n_, hn0⟩ : ∃ t : Nat, t = 0 := ⟨_, rfl⟩
  have hc : k_ + sg_N r ≤ mc + sg_N σ ∧ n_ + sg_S r ≤ ms + sg_S σ := by omega
  have hE : sg_E σ σ := sg_E.rf
  unfold f_X1_init at hf
  have goal9 : J_ Γ 0 [(0, vr (some a0))] [] σ k_ n_ := by
    refine J_aload_n (q := 1) C0 0 rfl rfl dX1_init_0 rfl trivial ?_
    refine K_some hf (fun p1 hp1 hf => ?_)
    have hm_ := e_X1_init_B4  hf
    have he_ := e_X6_init hp1
    have hk_ : k_ + (sg_N p1 - sg_N σ) ≤ mc ∧ n_ + (sg_S p1 - sg_S σ) ≤ ms := by have := hm_.1; have := hm_.slots; have := he_.1; have := he_.slots; have := (show k_ + sg_N r ≤ mc + sg_N σ ∧ n_ + sg_S r ≤ ms + sg_S σ from hc); omega
    refine J_callIN (q := 4) (as := []) (rest := []) C0 rfl (t_X6_init_k1 a0  (hT) (h0)  hp1 (mc := sg_N p1 - sg_N σ) (ms := sg_S p1 - sg_S σ) (by have h7 := e_X6_init hp1; have := h7.1; have := h7.slots; omega)) ml_X6_init lk_X1_3 im_X6_init rfl dX1_init_1 rfl rfl rfl (by simp [ac_]) C1.room (by decide) (by decide) hk_.1 hk_.2 (fun r_ τ_ hQ => ?_)
    obtain ⟨rfl, ht_, Tp1, Ep1⟩ := hQ; have ht_ := ht_.symm; subst ht_
    have hc2 : (k_ + (sg_N p1 - sg_N σ)) + sg_N r ≤ mc + sg_N p1 ∧ (n_ + (sg_S p1 - sg_S σ)) + sg_S r ≤ ms + sg_S p1 := by have := he_.1; have := he_.slots; have := (show k_ + sg_N r ≤ mc + sg_N σ ∧ n_ + sg_S r ≤ ms + sg_S σ from hc); omega
    show J_ Γ 4 [(0, vr (some a0))] [] p1 (k_ + (sg_N p1 - sg_N σ)) (n_ + (sg_S p1 - sg_S σ))
    exact t_X1_init_B4 C1 hin     (p1) (Tp1) ((hE).tr Ep1) ((Ep1.at h0))  ((k_ + (sg_N p1 - sg_N σ))) ((n_ + (sg_S p1 - sg_S σ))) hc2 hf
  rw [hk0, hn0] at goal9
  exact goal9
def f_X3_init_B10 (a0 : Nat) (s0 : Option Nat) (s1 : Option Nat) (σ : Sg) : Option Sg :=
  Option.bind (s1) fun b5 =>
  some (put_I (put_R σ b5 3 (s0)) a0 4 (0))
def f_X3_init_B4 (a0 : Nat) (σ : Sg) : Option Sg :=
  f_X3_init_B10 a0 (some (sg_N σ)) (some a0) (new_C σ 12 (720 : Int32).toNatClampNeg)
def f_X3_init (a0 : Nat) (σ : Sg) : Option Sg :=
  Option.bind (f_X6_init a0  σ) fun p1 =>
  f_X3_init_B4 a0  (p1)
set_option maxHeartbeats 4000000 in
set_option maxRecDepth 100000 in
theorem e_X3_init_B10 {a0 : Nat} {r : Sg} {s0 : Option Nat} {s1 : Option Nat} {σ : Sg} (hf : f_X3_init_B10 a0  s0 s1 σ = some r) : sg_E σ r := by
  unfold f_X3_init_B10 at hf
  refine K_some hf (fun b5 hb5 hf => ?_)
  obtain rfl := Option.some.inj hf; exact ((sg_E.rf).putR).putI
set_option maxHeartbeats 4000000 in
set_option maxRecDepth 100000 in
theorem e_X3_init_B4 {a0 : Nat} {r : Sg} {σ : Sg} (hf : f_X3_init_B4 a0   σ = some r) : sg_E σ r := by
  unfold f_X3_init_B4 at hf
  exact ((sg_E.rf).new).tr (e_X3_init_B10  hf)
set_option maxHeartbeats 4000000 in
set_option maxRecDepth 100000 in
theorem e_X3_init {a0 : Nat} {σ : Sg} {r : Sg} (hf : f_X3_init a0  σ = some r) : sg_E σ r := by
  unfold f_X3_init at hf
  refine K_some hf (fun p1 hp1 hf => ?_)
  exact ((sg_E.rf).tr (e_X6_init hp1)).tr (e_X3_init_B4  hf)
set_option maxHeartbeats 4000000 in
set_option maxRecDepth 100000 in
theorem t_X3_init_B10 {a0 : Nat} {Γ : Gm} {σ0 : Sg} {r : Sg} {mc ms : Nat} (C1 : CM Γ cX3_init RX3 1 none 2 40 mc ms (fun r_ τ_ => (r_ = none) ∧ τ_ = r ∧ sg_T τ_ ∧ sg_E σ0 τ_)) (hin : Γ.2.2.2.2.2.2.2.2.1.name = "<init>") (s0 : Option Nat) (s1 : Option Nat) (σ : Sg) (hT : sg_T σ) (hE : sg_E σ0 σ) (h0 : is_A σ a0 3) (g_s0 : is_O σ s0 12) (g_s1 : is_O σ s1 3) (k_ n_ : Nat) (hc : (k_ + sg_N r ≤ mc + sg_N σ ∧ n_ + sg_S r ≤ ms + sg_S σ)) (hf : f_X3_init_B10 a0  s0 s1 σ = some r) : J_ Γ 10 [(0, vr (some a0))] [vr (s0), vr (s1)] σ k_ n_ := by
  have C0 := C1.1
  unfold f_X3_init_B10 at hf
  refine K_some hf (fun b5 hb5 hf => ?_)
  have ab5 : is_A σ b5 3 := (g_s1) b5 hb5
  refine J_putFR (q := 13) C0 hin rfl fl_X3_9_3 hb5 (ab5) rfl dX3_init_10 rfl ?_
  refine J_aload_n (q := 14) C0 0 rfl rfl dX3_init_13 rfl trivial ?_
  refine J_iconst (q := 15) (v := 0) C0 dX3_init_14 rfl rfl ?_
  refine J_putI (q := 18) C0 fl_X3_15_3 rfl ((h0).putR) rfl dX3_init_15 rfl ?_
  obtain rfl := Option.some.inj hf; exact J_vret C1 dX3_init_18 rfl (by have h9 : k_ + sg_N (put_I (put_R σ b5 3 (s0)) a0 4 (0)) ≤ mc + sg_N (put_I (put_R σ b5 3 (s0)) a0 4 (0)) ∧ n_ + sg_S (put_I (put_R σ b5 3 (s0)) a0 4 (0)) ≤ ms + sg_S (put_I (put_R σ b5 3 (s0)) a0 4 (0)) := hc; omega) (by have h9 : k_ + sg_N (put_I (put_R σ b5 3 (s0)) a0 4 (0)) ≤ mc + sg_N (put_I (put_R σ b5 3 (s0)) a0 4 (0)) ∧ n_ + sg_S (put_I (put_R σ b5 3 (s0)) a0 4 (0)) ≤ ms + sg_S (put_I (put_R σ b5 3 (s0)) a0 4 (0)) := hc; omega) ⟨rfl, rfl, ((sg_T.putR hT (by rw [(ab5).2]; exact g_s0))).putI, ((hE).putR).putI⟩
set_option maxHeartbeats 4000000 in
set_option maxRecDepth 100000 in
theorem t_X3_init_B4 {a0 : Nat} {Γ : Gm} {σ0 : Sg} {r : Sg} {mc ms : Nat} (C1 : CM Γ cX3_init RX3 1 none 2 40 mc ms (fun r_ τ_ => (r_ = none) ∧ τ_ = r ∧ sg_T τ_ ∧ sg_E σ0 τ_)) (hin : Γ.2.2.2.2.2.2.2.2.1.name = "<init>") (σ : Sg) (hT : sg_T σ) (hE : sg_E σ0 σ) (h0 : is_A σ a0 3) (k_ n_ : Nat) (hc : (k_ + sg_N r ≤ mc + sg_N σ ∧ n_ + sg_S r ≤ ms + sg_S σ)) (hf : f_X3_init_B4 a0   σ = some r) : J_ Γ 4 [(0, vr (some a0))] [] σ k_ n_ := by
  have C0 := C1.1
  unfold f_X3_init_B4 at hf
  refine J_aload_n (q := 5) C0 0 rfl rfl dX3_init_4 rfl trivial ?_
  refine J_sipush (q := 8) (v := 720) C0 dX3_init_5 rfl rfl ?_
  have hm_ := e_X3_init_B10  hf
  have hk_ : k_ + 1 ≤ mc ∧ n_ + (720 : Int32).toNatClampNeg ≤ ms := by have := hm_.1; have := hm_.slots; have := sg_S_new σ 12 (720 : Int32).toNatClampNeg; have : sg_N (new_C σ 12 (720 : Int32).toNatClampNeg) = sg_N σ + 1 := rfl; have : ce_ 12 (720 : Int32).toNatClampNeg = (720 : Int32).toNatClampNeg := rfl; have := (show k_ + sg_N r ≤ mc + sg_N σ ∧ n_ + sg_S r ≤ ms + sg_S σ from hc); omega
  refine J_newa (at_ := .int) (kd := 12) (q := 10) C0 (by simp) wt_a_int dX3_init_8 rfl (by decide) (by decide) C1.room hk_.1 hk_.2 ?_
  have hc4 : (k_ + 1) + sg_N r ≤ mc + sg_N (new_C σ 12 (720 : Int32).toNatClampNeg) ∧ (n_ + (720 : Int32).toNatClampNeg) + sg_S r ≤ ms + sg_S (new_C σ 12 (720 : Int32).toNatClampNeg) := by have := sg_S_new σ 12 (720 : Int32).toNatClampNeg; have : sg_N (new_C σ 12 (720 : Int32).toNatClampNeg) = sg_N σ + 1 := rfl; have : ce_ 12 (720 : Int32).toNatClampNeg = (720 : Int32).toNatClampNeg := rfl; have := (show k_ + sg_N r ≤ mc + sg_N σ ∧ n_ + sg_S r ≤ ms + sg_S σ from hc); omega
  exact t_X3_init_B10 C1 hin    (some (sg_N σ)) (some a0) (new_C σ 12 (720 : Int32).toNatClampNeg) ((hT).new) ((hE).new) ((h0).new) (is_O.some (is_A.born σ 12 (720 : Int32).toNatClampNeg)) (is_O.some ((h0).new)) ((k_ + 1)) ((n_ + (720 : Int32).toNatClampNeg)) hc4 hf
set_option maxHeartbeats 4000000 in
set_option maxRecDepth 100000 in
theorem t_X3_init (a0 : Nat) {σ : Sg} (hT : sg_T σ) (h0 : is_A σ a0 3) {r : Sg} (hf : f_X3_init a0  σ = some r) {mc ms : Nat} (hc : sg_N r ≤ mc + sg_N σ ∧ sg_S r ≤ ms + sg_S σ) : Ct yX3_init cX3_init 1 none 2 40 mc ms [vr (some a0)] σ (fun r_ τ_ => (r_ = none) ∧ τ_ = r ∧ sg_T τ_ ∧ sg_E σ τ_) := by
  refine Ct.ofI (by decide +kernel) (Nat.le_of_ble_eq_true rfl) (fun Γ C1 hin => ?_)
  have C0 := C1.1
  have hin : Γ.2.2.2.2.2.2.2.2.1.name = "<init>" := hin
  obtain ⟨k_, hk0⟩ : ∃ t : Nat, t = 0 := ⟨_, rfl⟩
  obtain ⟨n_, hn0⟩ : ∃ t : Nat, t = 0 := ⟨_, rfl⟩
  have hc : k_ + sg_N r ≤ mc + sg_N σ ∧ n_ + sg_S r ≤ ms + sg_S σ := by omega
  have hE : sg_E σ σ := sg_E.rf
  unfold f_X3_init at hf
  have goal9 : J_ Γ 0 [(0, vr (some a0))] [] σ k_ n_ := by
    refine J_aload_n (q := 1) C0 0 rfl rfl dX3_init_0 rfl trivial ?_
    refine K_some hf (fun p1 hp1 hf => ?_)
    have hm_ := e_X3_init_B4  hf
    have he_ := e_X6_init hp1
    have hk_ : k_ + (sg_N p1 - sg_N σ) ≤ mc ∧ n_ + (sg_S p1 - sg_S σ) ≤ ms := by have := hm_.1; have := hm_.slots; have := he_.1; have := he_.slots; have := (show k_ + sg_N r ≤ mc + sg_N σ ∧ n_ + sg_S r ≤ ms + sg_S σ from hc); omega
    refine J_callIN (q := 4) (as := []) (rest := []) C0 rfl (t_X6_init_k3 a0  (hT) (h0)  hp1 (mc := sg_N p1 - sg_N σ) (ms := sg_S p1 - sg_S σ) (by have h7 := e_X6_init hp1; have := h7.1; have := h7.slots; omega)) ml_X6_init lk_X3_3 im_X6_init rfl dX3_init_1 rfl rfl rfl (by simp [ac_]) C1.room (by decide) (by decide) hk_.1 hk_.2 (fun r_ τ_ hQ => ?_)
    obtain ⟨rfl, ht_, Tp1, Ep1⟩ := hQ; have ht_ := ht_.symm; subst ht_
    have hc2 : (k_ + (sg_N p1 - sg_N σ)) + sg_N r ≤ mc + sg_N p1 ∧ (n_ + (sg_S p1 - sg_S σ)) + sg_S r ≤ ms + sg_S p1 := by have := he_.1; have := he_.slots; have := (show k_ + sg_N r ≤ mc + sg_N σ ∧ n_ + sg_S r ≤ ms + sg_S σ from hc); omega
    show J_ Γ 4 [(0, vr (some a0))] [] p1 (k_ + (sg_N p1 - sg_N σ)) (n_ + (sg_S p1 - sg_S σ))
    exact t_X3_init_B4 C1 hin     (p1) (Tp1) ((hE).tr Ep1) ((Ep1.at h0))  ((k_ + (sg_N p1 - sg_N σ))) ((n_ + (sg_S p1 - sg_S σ))) hc2 hf
  rw [hk0, hn0] at goal9
  exact goal9
def f_X9_init_B9 (a0 : Nat) (s0 : Option Nat) (s1 : Option Nat) (σ : Sg) : Option Sg :=
  Option.bind (s1) fun b5 =>
  some (put_I (put_R σ b5 3 (s0)) a0 4 (0))
def f_X9_init_B4 (a0 : Nat) (σ : Sg) : Option Sg :=
  f_X9_init_B9 a0 (some (sg_N σ)) (some a0) (new_C σ 12 (16 : Int32).toNatClampNeg)
def f_X9_init (a0 : Nat) (σ : Sg) : Option Sg :=
  Option.bind (f_X6_init a0  σ) fun p1 =>
  f_X9_init_B4 a0  (p1)
set_option maxHeartbeats 4000000 in
set_option maxRecDepth 100000 in
theorem e_X9_init_B9 {a0 : Nat} {r : Sg} {s0 : Option Nat} {s1 : Option Nat} {σ : Sg} (hf : f_X9_init_B9 a0  s0 s1 σ = some r) : sg_E σ r := by
  unfold f_X9_init_B9 at hf
  refine K_some hf (fun b5 hb5 hf => ?_)
  obtain rfl := Option.some.inj hf; exact ((sg_E.rf).putR).putI
set_option maxHeartbeats 4000000 in
set_option maxRecDepth 100000 in
theorem e_X9_init_B4 {a0 : Nat} {r : Sg} {σ : Sg} (hf : f_X9_init_B4 a0   σ = some r) : sg_E σ r := by
  unfold f_X9_init_B4 at hf
  exact ((sg_E.rf).new).tr (e_X9_init_B9  hf)
set_option maxHeartbeats 4000000 in
set_option maxRecDepth 100000 in
theorem e_X9_init {a0 : Nat} {σ : Sg} {r : Sg} (hf : f_X9_init a0  σ = some r) : sg_E σ r := by
  unfold f_X9_init at hf
  refine K_some hf (fun p1 hp1 hf => ?_)
  exact ((sg_E.rf).tr (e_X6_init hp1)).tr (e_X9_init_B4  hf)
set_option maxHeartbeats 4000000 in
set_option maxRecDepth 100000 in
theorem t_X9_init_B9 {a0 : Nat} {Γ : Gm} {σ0 : Sg} {r : Sg} {mc ms : Nat} (C1 : CM Γ cX9_init RX9 1 none 2 40 mc ms (fun r_ τ_ => (r_ = none) ∧ τ_ = r ∧ sg_T τ_ ∧ sg_E σ0 τ_)) (hin : Γ.2.2.2.2.2.2.2.2.1.name = "<init>") (s0 : Option Nat) (s1 : Option Nat) (σ : Sg) (hT : sg_T σ) (hE : sg_E σ0 σ) (h0 : is_A σ a0 8) (g_s0 : is_O σ s0 12) (g_s1 : is_O σ s1 8) (k_ n_ : Nat) (hc : (k_ + sg_N r ≤ mc + sg_N σ ∧ n_ + sg_S r ≤ ms + sg_S σ)) (hf : f_X9_init_B9 a0  s0 s1 σ = some r) : J_ Γ 9 [(0, vr (some a0))] [vr (s0), vr (s1)] σ k_ n_ := by
  have C0 := C1.1
  unfold f_X9_init_B9 at hf
  refine K_some hf (fun b5 hb5 hf => ?_)
  have ab5 : is_A σ b5 8 := (g_s1) b5 hb5
  refine J_putFR (q := 12) C0 hin rfl fl_X9_9_8 hb5 (ab5) rfl dX9_init_9 rfl ?_
  refine J_aload_n (q := 13) C0 0 rfl rfl dX9_init_12 rfl trivial ?_
  refine J_iconst (q := 14) (v := 0) C0 dX9_init_13 rfl rfl ?_
  refine J_putI (q := 17) C0 fl_X9_15_8 rfl ((h0).putR) rfl dX9_init_14 rfl ?_
  obtain rfl := Option.some.inj hf; exact J_vret C1 dX9_init_17 rfl (by have h9 : k_ + sg_N (put_I (put_R σ b5 3 (s0)) a0 4 (0)) ≤ mc + sg_N (put_I (put_R σ b5 3 (s0)) a0 4 (0)) ∧ n_ + sg_S (put_I (put_R σ b5 3 (s0)) a0 4 (0)) ≤ ms + sg_S (put_I (put_R σ b5 3 (s0)) a0 4 (0)) := hc; omega) (by have h9 : k_ + sg_N (put_I (put_R σ b5 3 (s0)) a0 4 (0)) ≤ mc + sg_N (put_I (put_R σ b5 3 (s0)) a0 4 (0)) ∧ n_ + sg_S (put_I (put_R σ b5 3 (s0)) a0 4 (0)) ≤ ms + sg_S (put_I (put_R σ b5 3 (s0)) a0 4 (0)) := hc; omega) ⟨rfl, rfl, ((sg_T.putR hT (by rw [(ab5).2]; exact g_s0))).putI, ((hE).putR).putI⟩
set_option maxHeartbeats 4000000 in
set_option maxRecDepth 100000 in
theorem t_X9_init_B4 {a0 : Nat} {Γ : Gm} {σ0 : Sg} {r : Sg} {mc ms : Nat} (C1 : CM Γ cX9_init RX9 1 none 2 40 mc ms (fun r_ τ_ => (r_ = none) ∧ τ_ = r ∧ sg_T τ_ ∧ sg_E σ0 τ_)) (hin : Γ.2.2.2.2.2.2.2.2.1.name = "<init>") (σ : Sg) (hT : sg_T σ) (hE : sg_E σ0 σ) (h0 : is_A σ a0 8) (k_ n_ : Nat) (hc : (k_ + sg_N r ≤ mc + sg_N σ ∧ n_ + sg_S r ≤ ms + sg_S σ)) (hf : f_X9_init_B4 a0   σ = some r) : J_ Γ 4 [(0, vr (some a0))] [] σ k_ n_ := by
  have C0 := C1.1
  unfold f_X9_init_B4 at hf
  refine J_aload_n (q := 5) C0 0 rfl rfl dX9_init_4 rfl trivial ?_
  refine J_bipush (q := 7) (v := 16) C0 dX9_init_5 rfl rfl ?_
  have hm_ := e_X9_init_B9  hf
  have hk_ : k_ + 1 ≤ mc ∧ n_ + (16 : Int32).toNatClampNeg ≤ ms := by have := hm_.1; have := hm_.slots; have := sg_S_new σ 12 (16 : Int32).toNatClampNeg; have : sg_N (new_C σ 12 (16 : Int32).toNatClampNeg) = sg_N σ + 1 := rfl; have : ce_ 12 (16 : Int32).toNatClampNeg = (16 : Int32).toNatClampNeg := rfl; have := (show k_ + sg_N r ≤ mc + sg_N σ ∧ n_ + sg_S r ≤ ms + sg_S σ from hc); omega
  refine J_newa (at_ := .int) (kd := 12) (q := 9) C0 (by simp) wt_a_int dX9_init_7 rfl (by decide) (by decide) C1.room hk_.1 hk_.2 ?_
  have hc4 : (k_ + 1) + sg_N r ≤ mc + sg_N (new_C σ 12 (16 : Int32).toNatClampNeg) ∧ (n_ + (16 : Int32).toNatClampNeg) + sg_S r ≤ ms + sg_S (new_C σ 12 (16 : Int32).toNatClampNeg) := by have := sg_S_new σ 12 (16 : Int32).toNatClampNeg; have : sg_N (new_C σ 12 (16 : Int32).toNatClampNeg) = sg_N σ + 1 := rfl; have : ce_ 12 (16 : Int32).toNatClampNeg = (16 : Int32).toNatClampNeg := rfl; have := (show k_ + sg_N r ≤ mc + sg_N σ ∧ n_ + sg_S r ≤ ms + sg_S σ from hc); omega
  exact t_X9_init_B9 C1 hin    (some (sg_N σ)) (some a0) (new_C σ 12 (16 : Int32).toNatClampNeg) ((hT).new) ((hE).new) ((h0).new) (is_O.some (is_A.born σ 12 (16 : Int32).toNatClampNeg)) (is_O.some ((h0).new)) ((k_ + 1)) ((n_ + (16 : Int32).toNatClampNeg)) hc4 hf
set_option maxHeartbeats 4000000 in
set_option maxRecDepth 100000 in
theorem t_X9_init (a0 : Nat) {σ : Sg} (hT : sg_T σ) (h0 : is_A σ a0 8) {r : Sg} (hf : f_X9_init a0  σ = some r) {mc ms : Nat} (hc : sg_N r ≤ mc + sg_N σ ∧ sg_S r ≤ ms + sg_S σ) : Ct yX9_init cX9_init 1 none 2 40 mc ms [vr (some a0)] σ (fun r_ τ_ => (r_ = none) ∧ τ_ = r ∧ sg_T τ_ ∧ sg_E σ τ_) := by
  refine Ct.ofI (by decide +kernel) (Nat.le_of_ble_eq_true rfl) (fun Γ C1 hin => ?_)
  have C0 := C1.1
  have hin : Γ.2.2.2.2.2.2.2.2.1.name = "<init>" := hin
  obtain ⟨k_, hk0⟩ : ∃ t : Nat, t = 0 := ⟨_, rfl⟩
  obtain ⟨n_, hn0⟩ : ∃ t : Nat, t = 0 := ⟨_, rfl⟩
  have hc : k_ + sg_N r ≤ mc + sg_N σ ∧ n_ + sg_S r ≤ ms + sg_S σ := by omega
  have hE : sg_E σ σ := sg_E.rf
  unfold f_X9_init at hf
  have goal9 : J_ Γ 0 [(0, vr (some a0))] [] σ k_ n_ := by
    refine J_aload_n (q := 1) C0 0 rfl rfl dX9_init_0 rfl trivial ?_
    refine K_some hf (fun p1 hp1 hf => ?_)
    have hm_ := e_X9_init_B4  hf
    have he_ := e_X6_init hp1
    have hk_ : k_ + (sg_N p1 - sg_N σ) ≤ mc ∧ n_ + (sg_S p1 - sg_S σ) ≤ ms := by have := hm_.1; have := hm_.slots; have := he_.1; have := he_.slots; have := (show k_ + sg_N r ≤ mc + sg_N σ ∧ n_ + sg_S r ≤ ms + sg_S σ from hc); omega
    refine J_callIN (q := 4) (as := []) (rest := []) C0 rfl (t_X6_init_k8 a0  (hT) (h0)  hp1 (mc := sg_N p1 - sg_N σ) (ms := sg_S p1 - sg_S σ) (by have h7 := e_X6_init hp1; have := h7.1; have := h7.slots; omega)) ml_X6_init lk_X9_3 im_X6_init rfl dX9_init_1 rfl rfl rfl (by simp [ac_]) C1.room (by decide) (by decide) hk_.1 hk_.2 (fun r_ τ_ hQ => ?_)
    obtain ⟨rfl, ht_, Tp1, Ep1⟩ := hQ; have ht_ := ht_.symm; subst ht_
    have hc2 : (k_ + (sg_N p1 - sg_N σ)) + sg_N r ≤ mc + sg_N p1 ∧ (n_ + (sg_S p1 - sg_S σ)) + sg_S r ≤ ms + sg_S p1 := by have := he_.1; have := he_.slots; have := (show k_ + sg_N r ≤ mc + sg_N σ ∧ n_ + sg_S r ≤ ms + sg_S σ from hc); omega
    show J_ Γ 4 [(0, vr (some a0))] [] p1 (k_ + (sg_N p1 - sg_N σ)) (n_ + (sg_S p1 - sg_S σ))
    exact t_X9_init_B4 C1 hin     (p1) (Tp1) ((hE).tr Ep1) ((Ep1.at h0))  ((k_ + (sg_N p1 - sg_N σ))) ((n_ + (sg_S p1 - sg_S σ))) hc2 hf
  rw [hk0, hn0] at goal9
  exact goal9
def f_X12_init_B217 (a0 : Nat) (s0 : Option Nat) (s1 : Option Nat) (σ : Sg) : Option Sg :=
  Option.bind (s1) fun b75 =>
  some (put_R σ b75 39 (s0))
def f_X12_init_B208 (a0 : Nat) (s0 : Option Nat) (s1 : Option Nat) (σ : Sg) : Option Sg :=
  Option.bind (s1) fun b72 =>
  f_X12_init_B217 a0 (some (sg_N (put_R σ b72 38 (s0)))) (some a0) (new_C (put_R σ b72 38 (s0)) 12 (261 : Int32).toNatClampNeg)
def f_X12_init_B199 (a0 : Nat) (s0 : Option Nat) (s1 : Option Nat) (σ : Sg) : Option Sg :=
  Option.bind (s1) fun b69 =>
  f_X12_init_B208 a0 (some (sg_N (put_R σ b69 36 (s0)))) (some a0) (new_C (put_R σ b69 36 (s0)) 12 (1647 : Int32).toNatClampNeg)
def f_X12_init_B191 (a0 : Nat) (s0 : Option Nat) (s1 : Option Nat) (σ : Sg) : Option Sg :=
  Option.bind (s1) fun b66 =>
  f_X12_init_B199 a0 (some (sg_N (put_R σ b66 35 (s0)))) (some a0) (new_C (put_R σ b66 35 (s0)) 13 (10 : Int32).toNatClampNeg)
def f_X12_init_B183 (a0 : Nat) (s0 : Option Nat) (s1 : Option Nat) (σ : Sg) : Option Sg :=
  Option.bind (s1) fun b63 =>
  f_X12_init_B191 a0 (some (sg_N (put_R σ b63 34 (s0)))) (some a0) (new_C (put_R σ b63 34 (s0)) 12 (10 : Int32).toNatClampNeg)
def f_X12_init_B175 (a0 : Nat) (s0 : Option Nat) (s1 : Option Nat) (σ : Sg) : Option Sg :=
  Option.bind (s1) fun b60 =>
  f_X12_init_B183 a0 (some (sg_N (put_R σ b60 33 (s0)))) (some a0) (new_C (put_R σ b60 33 (s0)) 12 (10 : Int32).toNatClampNeg)
def f_X12_init_B168 (a0 : Nat) (s0 : Option Nat) (s1 : Option Nat) (σ : Sg) : Option Sg :=
  Option.bind (s1) fun b57 =>
  f_X12_init_B175 a0 (some (sg_N (put_R σ b57 32 (s0)))) (some a0) (new_C (put_R σ b57 32 (s0)) 12 (4 : Int32).toNatClampNeg)
def f_X12_init_B160 (a0 : Nat) (s0 : Option Nat) (s1 : Option Nat) (σ : Sg) : Option Sg :=
  Option.bind (s1) fun b54 =>
  f_X12_init_B168 a0 (some (sg_N (put_R σ b54 31 (s0)))) (some a0) (new_C (put_R σ b54 31 (s0)) 12 (61 : Int32).toNatClampNeg)
def f_X12_init_B151 (a0 : Nat) (s0 : Option Nat) (s1 : Option Nat) (σ : Sg) : Option Sg :=
  Option.bind (s1) fun b51 =>
  f_X12_init_B160 a0 (some (sg_N (put_R σ b51 28 (s0)))) (some a0) (new_C (put_R σ b51 28 (s0)) 12 (361 : Int32).toNatClampNeg)
def f_X12_init_B132 (a0 : Nat) (s0 : Option Nat) (s1 : Option Nat) (σ : Sg) : Option Sg :=
  Option.bind (s1) fun b48 =>
  f_X12_init_B151 a0 (some (sg_N (put_I (put_I (put_R σ b48 25 (s0)) a0 26 ((-1))) a0 27 (3)))) (some a0) (new_C (put_I (put_I (put_R σ b48 25 (s0)) a0 26 ((-1))) a0 27 (3)) 12 (10440 : Int32).toNatClampNeg)
def f_X12_init_B125 (a0 : Nat) (s0 : Option Nat) (s1 : Option Nat) (σ : Sg) : Option Sg :=
  Option.bind (s1) fun b45 =>
  f_X12_init_B132 a0 (some (sg_N (put_R σ b45 24 (s0)))) (some a0) (new_C (put_R σ b45 24 (s0)) 12 (5 : Int32).toNatClampNeg)
def f_X12_init_B116 (a0 : Nat) (s0 : Option Nat) (s1 : Option Nat) (σ : Sg) : Option Sg :=
  Option.bind (s1) fun b42 =>
  f_X12_init_B125 a0 (some (sg_N (put_R σ b42 22 (s0)))) (some a0) (new_C (put_R σ b42 22 (s0)) 12 (261 : Int32).toNatClampNeg)
def f_X12_init_B108 (a0 : Nat) (s0 : Option Nat) (s1 : Option Nat) (σ : Sg) : Option Sg :=
  Option.bind (s1) fun b39 =>
  f_X12_init_B116 a0 (some (sg_N (put_R σ b39 21 (s0)))) (some a0) (new_C (put_R σ b39 21 (s0)) 12 (7 : Int32).toNatClampNeg)
def f_X12_init_B100 (a0 : Nat) (s0 : Option Nat) (s1 : Option Nat) (σ : Sg) : Option Sg :=
  Option.bind (s1) fun b36 =>
  f_X12_init_B108 a0 (some (sg_N (put_R σ b36 18 (s0)))) (some a0) (new_C (put_R σ b36 18 (s0)) 12 (112 : Int32).toNatClampNeg)
def f_X12_init_B92 (a0 : Nat) (s0 : Option Nat) (s1 : Option Nat) (σ : Sg) : Option Sg :=
  Option.bind (s1) fun b33 =>
  f_X12_init_B100 a0 (some (sg_N (put_R σ b33 17 (s0)))) (some a0) (new_C (put_R σ b33 17 (s0)) 12 (16 : Int32).toNatClampNeg)
def f_X12_init_B85 (a0 : Nat) (s0 : Option Nat) (s1 : Option Nat) (σ : Sg) : Option Sg :=
  Option.bind (s1) fun b30 =>
  f_X12_init_B92 a0 (some (sg_N (put_R σ b30 16 (s0)))) (some a0) (new_C (put_R σ b30 16 (s0)) 12 (3 : Int32).toNatClampNeg)
def f_X12_init_B77 (a0 : Nat) (s0 : Option Nat) (s1 : Option Nat) (σ : Sg) : Option Sg :=
  Option.bind (s1) fun b27 =>
  f_X12_init_B85 a0 (some (sg_N (put_R σ b27 15 (s0)))) (some a0) (new_C (put_R σ b27 15 (s0)) 12 (80 : Int32).toNatClampNeg)
def f_X12_init_B69 (a0 : Nat) (s0 : Option Nat) (s1 : Option Nat) (σ : Sg) : Option Sg :=
  Option.bind (s1) fun b24 =>
  f_X12_init_B77 a0 (some (sg_N (put_R σ b24 12 (s0)))) (some a0) (new_C (put_R σ b24 12 (s0)) 12 (6 : Int32).toNatClampNeg)
def f_X12_init_B60 (a0 : Nat) (s0 : Option Nat) (s1 : Option Nat) (σ : Sg) : Option Sg :=
  Option.bind (s1) fun b21 =>
  f_X12_init_B69 a0 (some (sg_N (put_R σ b21 11 (s0)))) (some a0) (new_C (put_R σ b21 11 (s0)) 12 (700 : Int32).toNatClampNeg)
def f_X12_init_B51 (a0 : Nat) (s0 : Option Nat) (s1 : Option Nat) (σ : Sg) : Option Sg :=
  Option.bind (s1) fun b18 =>
  f_X12_init_B60 a0 (some (sg_N (put_R σ b18 10 (s0)))) (some a0) (new_C (put_R σ b18 10 (s0)) 12 (700 : Int32).toNatClampNeg)
def f_X12_init_B42 (a0 : Nat) (s0 : Option Nat) (s1 : Option Nat) (σ : Sg) : Option Sg :=
  Option.bind (s1) fun b15 =>
  f_X12_init_B51 a0 (some (sg_N (put_R σ b15 9 (s0)))) (some a0) (new_C (put_R σ b15 9 (s0)) 12 (700 : Int32).toNatClampNeg)
def f_X12_init_B35 (a0 : Nat) (s0 : Option Nat) (s1 : Option Nat) (σ : Sg) : Option Sg :=
  Option.bind (s1) fun b12 =>
  f_X12_init_B42 a0 (some (sg_N (put_R σ b12 8 (s0)))) (some a0) (new_C (put_R σ b12 8 (s0)) 12 (5 : Int32).toNatClampNeg)
def f_X12_init_B28 (a0 : Nat) (s0 : Option Nat) (s1 : Option Nat) (σ : Sg) : Option Sg :=
  Option.bind (s1) fun b9 =>
  f_X12_init_B35 a0 (some (sg_N (put_R σ b9 7 (s0)))) (some a0) (new_C (put_R σ b9 7 (s0)) 12 (5 : Int32).toNatClampNeg)
def f_X12_init_B19 (a0 : Nat) (s0 : Option Nat) (s1 : Option Nat) (σ : Sg) : Option Sg :=
  Option.bind (s1) fun b6 =>
  f_X12_init_B28 a0 (some (sg_N (put_R σ b6 6 (s0)))) (some a0) (new_C (put_R σ b6 6 (s0)) 12 (2600 : Int32).toNatClampNeg)
def f_X12_init_B10 (a0 : Nat) (s0 : Option Nat) (s1 : Option Nat) (σ : Sg) : Option Sg :=
  Option.bind (s1) fun b3 =>
  f_X12_init_B19 a0 (some (sg_N (put_R σ b3 1 (s0)))) (some a0) (new_C (put_R σ b3 1 (s0)) 12 (2600 : Int32).toNatClampNeg)
def f_X12_init (a0 : Nat) (σ : Sg) : Option Sg :=
  f_X12_init_B10 a0 (some (sg_N σ)) (some a0) (new_C σ 12 (240 : Int32).toNatClampNeg)
set_option maxHeartbeats 4000000 in
set_option maxRecDepth 100000 in
theorem e_X12_init_B217 {a0 : Nat} {r : Sg} {s0 : Option Nat} {s1 : Option Nat} {σ : Sg} (hf : f_X12_init_B217 a0  s0 s1 σ = some r) : sg_E σ r := by
  unfold f_X12_init_B217 at hf
  refine K_some hf (fun b75 hb75 hf => ?_)
  obtain rfl := Option.some.inj hf; exact (sg_E.rf).putR
set_option maxHeartbeats 4000000 in
set_option maxRecDepth 100000 in
theorem e_X12_init_B208 {a0 : Nat} {r : Sg} {s0 : Option Nat} {s1 : Option Nat} {σ : Sg} (hf : f_X12_init_B208 a0  s0 s1 σ = some r) : sg_E σ r := by
  unfold f_X12_init_B208 at hf
  refine K_some hf (fun b72 hb72 hf => ?_)
  exact (((sg_E.rf).putR).new).tr (e_X12_init_B217  hf)
set_option maxHeartbeats 4000000 in
set_option maxRecDepth 100000 in
theorem e_X12_init_B199 {a0 : Nat} {r : Sg} {s0 : Option Nat} {s1 : Option Nat} {σ : Sg} (hf : f_X12_init_B199 a0  s0 s1 σ = some r) : sg_E σ r := by
  unfold f_X12_init_B199 at hf
  refine K_some hf (fun b69 hb69 hf => ?_)
  exact (((sg_E.rf).putR).new).tr (e_X12_init_B208  hf)
set_option maxHeartbeats 4000000 in
set_option maxRecDepth 100000 in
theorem e_X12_init_B191 {a0 : Nat} {r : Sg} {s0 : Option Nat} {s1 : Option Nat} {σ : Sg} (hf : f_X12_init_B191 a0  s0 s1 σ = some r) : sg_E σ r := by
  unfold f_X12_init_B191 at hf
  refine K_some hf (fun b66 hb66 hf => ?_)
  exact (((sg_E.rf).putR).new).tr (e_X12_init_B199  hf)
set_option maxHeartbeats 4000000 in
set_option maxRecDepth 100000 in
theorem e_X12_init_B183 {a0 : Nat} {r : Sg} {s0 : Option Nat} {s1 : Option Nat} {σ : Sg} (hf : f_X12_init_B183 a0  s0 s1 σ = some r) : sg_E σ r := by
  unfold f_X12_init_B183 at hf
  refine K_some hf (fun b63 hb63 hf => ?_)
  exact (((sg_E.rf).putR).new).tr (e_X12_init_B191  hf)
set_option maxHeartbeats 4000000 in
set_option maxRecDepth 100000 in
theorem e_X12_init_B175 {a0 : Nat} {r : Sg} {s0 : Option Nat} {s1 : Option Nat} {σ : Sg} (hf : f_X12_init_B175 a0  s0 s1 σ = some r) : sg_E σ r := by
  unfold f_X12_init_B175 at hf
  refine K_some hf (fun b60 hb60 hf => ?_)
  exact (((sg_E.rf).putR).new).tr (e_X12_init_B183  hf)
set_option maxHeartbeats 4000000 in
set_option maxRecDepth 100000 in
theorem e_X12_init_B168 {a0 : Nat} {r : Sg} {s0 : Option Nat} {s1 : Option Nat} {σ : Sg} (hf : f_X12_init_B168 a0  s0 s1 σ = some r) : sg_E σ r := by
  unfold f_X12_init_B168 at hf
  refine K_some hf (fun b57 hb57 hf => ?_)
  exact (((sg_E.rf).putR).new).tr (e_X12_init_B175  hf)
set_option maxHeartbeats 4000000 in
set_option maxRecDepth 100000 in
theorem e_X12_init_B160 {a0 : Nat} {r : Sg} {s0 : Option Nat} {s1 : Option Nat} {σ : Sg} (hf : f_X12_init_B160 a0  s0 s1 σ = some r) : sg_E σ r := by
  unfold f_X12_init_B160 at hf
  refine K_some hf (fun b54 hb54 hf => ?_)
  exact (((sg_E.rf).putR).new).tr (e_X12_init_B168  hf)
set_option maxHeartbeats 4000000 in
set_option maxRecDepth 100000 in
theorem e_X12_init_B151 {a0 : Nat} {r : Sg} {s0 : Option Nat} {s1 : Option Nat} {σ : Sg} (hf : f_X12_init_B151 a0  s0 s1 σ = some r) : sg_E σ r := by
  unfold f_X12_init_B151 at hf
  refine K_some hf (fun b51 hb51 hf => ?_)
  exact (((sg_E.rf).putR).new).tr (e_X12_init_B160  hf)
set_option maxHeartbeats 4000000 in
set_option maxRecDepth 100000 in
theorem e_X12_init_B132 {a0 : Nat} {r : Sg} {s0 : Option Nat} {s1 : Option Nat} {σ : Sg} (hf : f_X12_init_B132 a0  s0 s1 σ = some r) : sg_E σ r := by
  unfold f_X12_init_B132 at hf
  refine K_some hf (fun b48 hb48 hf => ?_)
  exact (((((sg_E.rf).putR).putI).putI).new).tr (e_X12_init_B151  hf)
set_option maxHeartbeats 4000000 in
set_option maxRecDepth 100000 in
theorem e_X12_init_B125 {a0 : Nat} {r : Sg} {s0 : Option Nat} {s1 : Option Nat} {σ : Sg} (hf : f_X12_init_B125 a0  s0 s1 σ = some r) : sg_E σ r := by
  unfold f_X12_init_B125 at hf
  refine K_some hf (fun b45 hb45 hf => ?_)
  exact (((sg_E.rf).putR).new).tr (e_X12_init_B132  hf)
set_option maxHeartbeats 4000000 in
set_option maxRecDepth 100000 in
theorem e_X12_init_B116 {a0 : Nat} {r : Sg} {s0 : Option Nat} {s1 : Option Nat} {σ : Sg} (hf : f_X12_init_B116 a0  s0 s1 σ = some r) : sg_E σ r := by
  unfold f_X12_init_B116 at hf
  refine K_some hf (fun b42 hb42 hf => ?_)
  exact (((sg_E.rf).putR).new).tr (e_X12_init_B125  hf)
set_option maxHeartbeats 4000000 in
set_option maxRecDepth 100000 in
theorem e_X12_init_B108 {a0 : Nat} {r : Sg} {s0 : Option Nat} {s1 : Option Nat} {σ : Sg} (hf : f_X12_init_B108 a0  s0 s1 σ = some r) : sg_E σ r := by
  unfold f_X12_init_B108 at hf
  refine K_some hf (fun b39 hb39 hf => ?_)
  exact (((sg_E.rf).putR).new).tr (e_X12_init_B116  hf)
set_option maxHeartbeats 4000000 in
set_option maxRecDepth 100000 in
theorem e_X12_init_B100 {a0 : Nat} {r : Sg} {s0 : Option Nat} {s1 : Option Nat} {σ : Sg} (hf : f_X12_init_B100 a0  s0 s1 σ = some r) : sg_E σ r := by
  unfold f_X12_init_B100 at hf
  refine K_some hf (fun b36 hb36 hf => ?_)
  exact (((sg_E.rf).putR).new).tr (e_X12_init_B108  hf)
set_option maxHeartbeats 4000000 in
set_option maxRecDepth 100000 in
theorem e_X12_init_B92 {a0 : Nat} {r : Sg} {s0 : Option Nat} {s1 : Option Nat} {σ : Sg} (hf : f_X12_init_B92 a0  s0 s1 σ = some r) : sg_E σ r := by
  unfold f_X12_init_B92 at hf
  refine K_some hf (fun b33 hb33 hf => ?_)
  exact (((sg_E.rf).putR).new).tr (e_X12_init_B100  hf)
set_option maxHeartbeats 4000000 in
set_option maxRecDepth 100000 in
theorem e_X12_init_B85 {a0 : Nat} {r : Sg} {s0 : Option Nat} {s1 : Option Nat} {σ : Sg} (hf : f_X12_init_B85 a0  s0 s1 σ = some r) : sg_E σ r := by
  unfold f_X12_init_B85 at hf
  refine K_some hf (fun b30 hb30 hf => ?_)
  exact (((sg_E.rf).putR).new).tr (e_X12_init_B92  hf)
set_option maxHeartbeats 4000000 in
set_option maxRecDepth 100000 in
theorem e_X12_init_B77 {a0 : Nat} {r : Sg} {s0 : Option Nat} {s1 : Option Nat} {σ : Sg} (hf : f_X12_init_B77 a0  s0 s1 σ = some r) : sg_E σ r := by
  unfold f_X12_init_B77 at hf
  refine K_some hf (fun b27 hb27 hf => ?_)
  exact (((sg_E.rf).putR).new).tr (e_X12_init_B85  hf)
set_option maxHeartbeats 4000000 in
set_option maxRecDepth 100000 in
theorem e_X12_init_B69 {a0 : Nat} {r : Sg} {s0 : Option Nat} {s1 : Option Nat} {σ : Sg} (hf : f_X12_init_B69 a0  s0 s1 σ = some r) : sg_E σ r := by
  unfold f_X12_init_B69 at hf
  refine K_some hf (fun b24 hb24 hf => ?_)
  exact (((sg_E.rf).putR).new).tr (e_X12_init_B77  hf)
set_option maxHeartbeats 4000000 in
set_option maxRecDepth 100000 in
theorem e_X12_init_B60 {a0 : Nat} {r : Sg} {s0 : Option Nat} {s1 : Option Nat} {σ : Sg} (hf : f_X12_init_B60 a0  s0 s1 σ = some r) : sg_E σ r := by
  unfold f_X12_init_B60 at hf
  refine K_some hf (fun b21 hb21 hf => ?_)
  exact (((sg_E.rf).putR).new).tr (e_X12_init_B69  hf)
set_option maxHeartbeats 4000000 in
set_option maxRecDepth 100000 in
theorem e_X12_init_B51 {a0 : Nat} {r : Sg} {s0 : Option Nat} {s1 : Option Nat} {σ : Sg} (hf : f_X12_init_B51 a0  s0 s1 σ = some r) : sg_E σ r := by
  unfold f_X12_init_B51 at hf
  refine K_some hf (fun b18 hb18 hf => ?_)
  exact (((sg_E.rf).putR).new).tr (e_X12_init_B60  hf)
set_option maxHeartbeats 4000000 in
set_option maxRecDepth 100000 in
theorem e_X12_init_B42 {a0 : Nat} {r : Sg} {s0 : Option Nat} {s1 : Option Nat} {σ : Sg} (hf : f_X12_init_B42 a0  s0 s1 σ = some r) : sg_E σ r := by
  unfold f_X12_init_B42 at hf
  refine K_some hf (fun b15 hb15 hf => ?_)
  exact (((sg_E.rf).putR).new).tr (e_X12_init_B51  hf)
set_option maxHeartbeats 4000000 in
set_option maxRecDepth 100000 in
theorem e_X12_init_B35 {a0 : Nat} {r : Sg} {s0 : Option Nat} {s1 : Option Nat} {σ : Sg} (hf : f_X12_init_B35 a0  s0 s1 σ = some r) : sg_E σ r := by
  unfold f_X12_init_B35 at hf
  refine K_some hf (fun b12 hb12 hf => ?_)
  exact (((sg_E.rf).putR).new).tr (e_X12_init_B42  hf)
set_option maxHeartbeats 4000000 in
set_option maxRecDepth 100000 in
theorem e_X12_init_B28 {a0 : Nat} {r : Sg} {s0 : Option Nat} {s1 : Option Nat} {σ : Sg} (hf : f_X12_init_B28 a0  s0 s1 σ = some r) : sg_E σ r := by
  unfold f_X12_init_B28 at hf
  refine K_some hf (fun b9 hb9 hf => ?_)
  exact (((sg_E.rf).putR).new).tr (e_X12_init_B35  hf)
set_option maxHeartbeats 4000000 in
set_option maxRecDepth 100000 in
theorem e_X12_init_B19 {a0 : Nat} {r : Sg} {s0 : Option Nat} {s1 : Option Nat} {σ : Sg} (hf : f_X12_init_B19 a0  s0 s1 σ = some r) : sg_E σ r := by
  unfold f_X12_init_B19 at hf
  refine K_some hf (fun b6 hb6 hf => ?_)
  exact (((sg_E.rf).putR).new).tr (e_X12_init_B28  hf)
set_option maxHeartbeats 4000000 in
set_option maxRecDepth 100000 in
theorem e_X12_init_B10 {a0 : Nat} {r : Sg} {s0 : Option Nat} {s1 : Option Nat} {σ : Sg} (hf : f_X12_init_B10 a0  s0 s1 σ = some r) : sg_E σ r := by
  unfold f_X12_init_B10 at hf
  refine K_some hf (fun b3 hb3 hf => ?_)
  exact (((sg_E.rf).putR).new).tr (e_X12_init_B19  hf)
set_option maxHeartbeats 4000000 in
set_option maxRecDepth 100000 in
theorem e_X12_init {a0 : Nat} {σ : Sg} {r : Sg} (hf : f_X12_init a0  σ = some r) : sg_E σ r := by
  unfold f_X12_init at hf
  exact ((sg_E.rf).new).tr (e_X12_init_B10  hf)
set_option maxHeartbeats 4000000 in
set_option maxRecDepth 100000 in
theorem t_X12_init_B217 {a0 : Nat} {Γ : Gm} {σ0 : Sg} {r : Sg} {mc ms : Nat} (C1 : CM Γ cX12_init RX12 1 none 1 20 mc ms (fun r_ τ_ => (r_ = none) ∧ τ_ = r ∧ sg_T τ_ ∧ sg_E σ0 τ_)) (hin : Γ.2.2.2.2.2.2.2.2.1.name = "<init>") (s0 : Option Nat) (s1 : Option Nat) (σ : Sg) (hT : sg_T σ) (hE : sg_E σ0 σ) (h0 : is_A σ a0 11) (g_s0 : is_O σ s0 12) (g_s1 : is_O σ s1 11) (k_ n_ : Nat) (hc : (k_ + sg_N r ≤ mc + sg_N σ ∧ n_ + sg_S r ≤ ms + sg_S σ)) (hf : f_X12_init_B217 a0  s0 s1 σ = some r) : J_ Γ 217 [(0, vr (some a0))] [vr (s0), vr (s1)] σ k_ n_ := by
  have C0 := C1.1
  unfold f_X12_init_B217 at hf
  refine K_some hf (fun b75 hb75 hf => ?_)
  have ab75 : is_A σ b75 11 := (g_s1) b75 hb75
  refine J_putFR (q := 220) C0 hin rfl fl_X12_90_11 hb75 (ab75) rfl dX12_init_217 rfl ?_
  obtain rfl := Option.some.inj hf; exact J_vret C1 dX12_init_220 rfl (by have h9 : k_ + sg_N (put_R σ b75 39 (s0)) ≤ mc + sg_N (put_R σ b75 39 (s0)) ∧ n_ + sg_S (put_R σ b75 39 (s0)) ≤ ms + sg_S (put_R σ b75 39 (s0)) := hc; omega) (by have h9 : k_ + sg_N (put_R σ b75 39 (s0)) ≤ mc + sg_N (put_R σ b75 39 (s0)) ∧ n_ + sg_S (put_R σ b75 39 (s0)) ≤ ms + sg_S (put_R σ b75 39 (s0)) := hc; omega) ⟨rfl, rfl, (sg_T.putR hT (by rw [(ab75).2]; exact g_s0)), (hE).putR⟩
set_option maxHeartbeats 4000000 in
set_option maxRecDepth 100000 in
theorem t_X12_init_B208 {a0 : Nat} {Γ : Gm} {σ0 : Sg} {r : Sg} {mc ms : Nat} (C1 : CM Γ cX12_init RX12 1 none 1 20 mc ms (fun r_ τ_ => (r_ = none) ∧ τ_ = r ∧ sg_T τ_ ∧ sg_E σ0 τ_)) (hin : Γ.2.2.2.2.2.2.2.2.1.name = "<init>") (s0 : Option Nat) (s1 : Option Nat) (σ : Sg) (hT : sg_T σ) (hE : sg_E σ0 σ) (h0 : is_A σ a0 11) (g_s0 : is_O σ s0 12) (g_s1 : is_O σ s1 11) (k_ n_ : Nat) (hc : (k_ + sg_N r ≤ mc + sg_N σ ∧ n_ + sg_S r ≤ ms + sg_S σ)) (hf : f_X12_init_B208 a0  s0 s1 σ = some r) : J_ Γ 208 [(0, vr (some a0))] [vr (s0), vr (s1)] σ k_ n_ := by
  have C0 := C1.1
  unfold f_X12_init_B208 at hf
  refine K_some hf (fun b72 hb72 hf => ?_)
  have ab72 : is_A σ b72 11 := (g_s1) b72 hb72
  refine J_putFR (q := 211) C0 hin rfl fl_X12_87_11 hb72 (ab72) rfl dX12_init_208 rfl ?_
  refine J_aload_n (q := 212) C0 0 rfl rfl dX12_init_211 rfl trivial ?_
  refine J_sipush (q := 215) (v := 261) C0 dX12_init_212 rfl rfl ?_
  have hm_ := e_X12_init_B217  hf
  have hk_ : k_ + 1 ≤ mc ∧ n_ + (261 : Int32).toNatClampNeg ≤ ms := by have := hm_.1; have := hm_.slots; have := sg_S_new (put_R σ b72 38 (s0)) 12 (261 : Int32).toNatClampNeg; have : sg_N (new_C (put_R σ b72 38 (s0)) 12 (261 : Int32).toNatClampNeg) = sg_N (put_R σ b72 38 (s0)) + 1 := rfl; have : ce_ 12 (261 : Int32).toNatClampNeg = (261 : Int32).toNatClampNeg := rfl; have := (show k_ + sg_N r ≤ mc + sg_N (put_R σ b72 38 (s0)) ∧ n_ + sg_S r ≤ ms + sg_S (put_R σ b72 38 (s0)) from hc); omega
  refine J_newa (at_ := .int) (kd := 12) (q := 217) C0 (by simp) wt_a_int dX12_init_215 rfl (by decide) (by decide) C1.room hk_.1 hk_.2 ?_
  have hc74 : (k_ + 1) + sg_N r ≤ mc + sg_N (new_C (put_R σ b72 38 (s0)) 12 (261 : Int32).toNatClampNeg) ∧ (n_ + (261 : Int32).toNatClampNeg) + sg_S r ≤ ms + sg_S (new_C (put_R σ b72 38 (s0)) 12 (261 : Int32).toNatClampNeg) := by have := sg_S_new (put_R σ b72 38 (s0)) 12 (261 : Int32).toNatClampNeg; have : sg_N (new_C (put_R σ b72 38 (s0)) 12 (261 : Int32).toNatClampNeg) = sg_N (put_R σ b72 38 (s0)) + 1 := rfl; have : ce_ 12 (261 : Int32).toNatClampNeg = (261 : Int32).toNatClampNeg := rfl; have := (show k_ + sg_N r ≤ mc + sg_N (put_R σ b72 38 (s0)) ∧ n_ + sg_S r ≤ ms + sg_S (put_R σ b72 38 (s0)) from hc); omega
  exact t_X12_init_B217 C1 hin    (some (sg_N (put_R σ b72 38 (s0)))) (some a0) (new_C (put_R σ b72 38 (s0)) 12 (261 : Int32).toNatClampNeg) (((sg_T.putR hT (by rw [(ab72).2]; exact g_s0))).new) (((hE).putR).new) (((h0).putR).new) (is_O.some (is_A.born (put_R σ b72 38 (s0)) 12 (261 : Int32).toNatClampNeg)) (is_O.some (((h0).putR).new)) ((k_ + 1)) ((n_ + (261 : Int32).toNatClampNeg)) hc74 hf
set_option maxHeartbeats 4000000 in
set_option maxRecDepth 100000 in
theorem t_X12_init_B199 {a0 : Nat} {Γ : Gm} {σ0 : Sg} {r : Sg} {mc ms : Nat} (C1 : CM Γ cX12_init RX12 1 none 1 20 mc ms (fun r_ τ_ => (r_ = none) ∧ τ_ = r ∧ sg_T τ_ ∧ sg_E σ0 τ_)) (hin : Γ.2.2.2.2.2.2.2.2.1.name = "<init>") (s0 : Option Nat) (s1 : Option Nat) (σ : Sg) (hT : sg_T σ) (hE : sg_E σ0 σ) (h0 : is_A σ a0 11) (g_s0 : is_O σ s0 13) (g_s1 : is_O σ s1 11) (k_ n_ : Nat) (hc : (k_ + sg_N r ≤ mc + sg_N σ ∧ n_ + sg_S r ≤ ms + sg_S σ)) (hf : f_X12_init_B199 a0  s0 s1 σ = some r) : J_ Γ 199 [(0, vr (some a0))] [vr (s0), vr (s1)] σ k_ n_ := by
  have C0 := C1.1
  unfold f_X12_init_B199 at hf
  refine K_some hf (fun b69 hb69 hf => ?_)
  have ab69 : is_A σ b69 11 := (g_s1) b69 hb69
  refine J_putFR (q := 202) C0 hin rfl fl_X12_83_11 hb69 (ab69) rfl dX12_init_199 rfl ?_
  refine J_aload_n (q := 203) C0 0 rfl rfl dX12_init_202 rfl trivial ?_
  refine J_sipush (q := 206) (v := 1647) C0 dX12_init_203 rfl rfl ?_
  have hm_ := e_X12_init_B208  hf
  have hk_ : k_ + 1 ≤ mc ∧ n_ + (1647 : Int32).toNatClampNeg ≤ ms := by have := hm_.1; have := hm_.slots; have := sg_S_new (put_R σ b69 36 (s0)) 12 (1647 : Int32).toNatClampNeg; have : sg_N (new_C (put_R σ b69 36 (s0)) 12 (1647 : Int32).toNatClampNeg) = sg_N (put_R σ b69 36 (s0)) + 1 := rfl; have : ce_ 12 (1647 : Int32).toNatClampNeg = (1647 : Int32).toNatClampNeg := rfl; have := (show k_ + sg_N r ≤ mc + sg_N (put_R σ b69 36 (s0)) ∧ n_ + sg_S r ≤ ms + sg_S (put_R σ b69 36 (s0)) from hc); omega
  refine J_newa (at_ := .int) (kd := 12) (q := 208) C0 (by simp) wt_a_int dX12_init_206 rfl (by decide) (by decide) C1.room hk_.1 hk_.2 ?_
  have hc71 : (k_ + 1) + sg_N r ≤ mc + sg_N (new_C (put_R σ b69 36 (s0)) 12 (1647 : Int32).toNatClampNeg) ∧ (n_ + (1647 : Int32).toNatClampNeg) + sg_S r ≤ ms + sg_S (new_C (put_R σ b69 36 (s0)) 12 (1647 : Int32).toNatClampNeg) := by have := sg_S_new (put_R σ b69 36 (s0)) 12 (1647 : Int32).toNatClampNeg; have : sg_N (new_C (put_R σ b69 36 (s0)) 12 (1647 : Int32).toNatClampNeg) = sg_N (put_R σ b69 36 (s0)) + 1 := rfl; have : ce_ 12 (1647 : Int32).toNatClampNeg = (1647 : Int32).toNatClampNeg := rfl; have := (show k_ + sg_N r ≤ mc + sg_N (put_R σ b69 36 (s0)) ∧ n_ + sg_S r ≤ ms + sg_S (put_R σ b69 36 (s0)) from hc); omega
  exact t_X12_init_B208 C1 hin    (some (sg_N (put_R σ b69 36 (s0)))) (some a0) (new_C (put_R σ b69 36 (s0)) 12 (1647 : Int32).toNatClampNeg) (((sg_T.putR hT (by rw [(ab69).2]; exact g_s0))).new) (((hE).putR).new) (((h0).putR).new) (is_O.some (is_A.born (put_R σ b69 36 (s0)) 12 (1647 : Int32).toNatClampNeg)) (is_O.some (((h0).putR).new)) ((k_ + 1)) ((n_ + (1647 : Int32).toNatClampNeg)) hc71 hf
set_option maxHeartbeats 4000000 in
set_option maxRecDepth 100000 in
theorem t_X12_init_B191 {a0 : Nat} {Γ : Gm} {σ0 : Sg} {r : Sg} {mc ms : Nat} (C1 : CM Γ cX12_init RX12 1 none 1 20 mc ms (fun r_ τ_ => (r_ = none) ∧ τ_ = r ∧ sg_T τ_ ∧ sg_E σ0 τ_)) (hin : Γ.2.2.2.2.2.2.2.2.1.name = "<init>") (s0 : Option Nat) (s1 : Option Nat) (σ : Sg) (hT : sg_T σ) (hE : sg_E σ0 σ) (h0 : is_A σ a0 11) (g_s0 : is_O σ s0 12) (g_s1 : is_O σ s1 11) (k_ n_ : Nat) (hc : (k_ + sg_N r ≤ mc + sg_N σ ∧ n_ + sg_S r ≤ ms + sg_S σ)) (hf : f_X12_init_B191 a0  s0 s1 σ = some r) : J_ Γ 191 [(0, vr (some a0))] [vr (s0), vr (s1)] σ k_ n_ := by
  have C0 := C1.1
  unfold f_X12_init_B191 at hf
  refine K_some hf (fun b66 hb66 hf => ?_)
  have ab66 : is_A σ b66 11 := (g_s1) b66 hb66
  refine J_putFR (q := 194) C0 hin rfl fl_X12_80_11 hb66 (ab66) rfl dX12_init_191 rfl ?_
  refine J_aload_n (q := 195) C0 0 rfl rfl dX12_init_194 rfl trivial ?_
  refine J_bipush (q := 197) (v := 10) C0 dX12_init_195 rfl rfl ?_
  have hm_ := e_X12_init_B199  hf
  have hk_ : k_ + 1 ≤ mc ∧ n_ + (10 : Int32).toNatClampNeg ≤ ms := by have := hm_.1; have := hm_.slots; have := sg_S_new (put_R σ b66 35 (s0)) 13 (10 : Int32).toNatClampNeg; have : sg_N (new_C (put_R σ b66 35 (s0)) 13 (10 : Int32).toNatClampNeg) = sg_N (put_R σ b66 35 (s0)) + 1 := rfl; have : ce_ 13 (10 : Int32).toNatClampNeg = (10 : Int32).toNatClampNeg := rfl; have := (show k_ + sg_N r ≤ mc + sg_N (put_R σ b66 35 (s0)) ∧ n_ + sg_S r ≤ ms + sg_S (put_R σ b66 35 (s0)) from hc); omega
  refine J_newa (at_ := .boolean) (kd := 13) (q := 199) C0 (by simp) wt_a_boolean dX12_init_197 rfl (by decide) (by decide) C1.room hk_.1 hk_.2 ?_
  have hc68 : (k_ + 1) + sg_N r ≤ mc + sg_N (new_C (put_R σ b66 35 (s0)) 13 (10 : Int32).toNatClampNeg) ∧ (n_ + (10 : Int32).toNatClampNeg) + sg_S r ≤ ms + sg_S (new_C (put_R σ b66 35 (s0)) 13 (10 : Int32).toNatClampNeg) := by have := sg_S_new (put_R σ b66 35 (s0)) 13 (10 : Int32).toNatClampNeg; have : sg_N (new_C (put_R σ b66 35 (s0)) 13 (10 : Int32).toNatClampNeg) = sg_N (put_R σ b66 35 (s0)) + 1 := rfl; have : ce_ 13 (10 : Int32).toNatClampNeg = (10 : Int32).toNatClampNeg := rfl; have := (show k_ + sg_N r ≤ mc + sg_N (put_R σ b66 35 (s0)) ∧ n_ + sg_S r ≤ ms + sg_S (put_R σ b66 35 (s0)) from hc); omega
  exact t_X12_init_B199 C1 hin    (some (sg_N (put_R σ b66 35 (s0)))) (some a0) (new_C (put_R σ b66 35 (s0)) 13 (10 : Int32).toNatClampNeg) (((sg_T.putR hT (by rw [(ab66).2]; exact g_s0))).new) (((hE).putR).new) (((h0).putR).new) (is_O.some (is_A.born (put_R σ b66 35 (s0)) 13 (10 : Int32).toNatClampNeg)) (is_O.some (((h0).putR).new)) ((k_ + 1)) ((n_ + (10 : Int32).toNatClampNeg)) hc68 hf
set_option maxHeartbeats 4000000 in
set_option maxRecDepth 100000 in
theorem t_X12_init_B183 {a0 : Nat} {Γ : Gm} {σ0 : Sg} {r : Sg} {mc ms : Nat} (C1 : CM Γ cX12_init RX12 1 none 1 20 mc ms (fun r_ τ_ => (r_ = none) ∧ τ_ = r ∧ sg_T τ_ ∧ sg_E σ0 τ_)) (hin : Γ.2.2.2.2.2.2.2.2.1.name = "<init>") (s0 : Option Nat) (s1 : Option Nat) (σ : Sg) (hT : sg_T σ) (hE : sg_E σ0 σ) (h0 : is_A σ a0 11) (g_s0 : is_O σ s0 12) (g_s1 : is_O σ s1 11) (k_ n_ : Nat) (hc : (k_ + sg_N r ≤ mc + sg_N σ ∧ n_ + sg_S r ≤ ms + sg_S σ)) (hf : f_X12_init_B183 a0  s0 s1 σ = some r) : J_ Γ 183 [(0, vr (some a0))] [vr (s0), vr (s1)] σ k_ n_ := by
  have C0 := C1.1
  unfold f_X12_init_B183 at hf
  refine K_some hf (fun b63 hb63 hf => ?_)
  have ab63 : is_A σ b63 11 := (g_s1) b63 hb63
  refine J_putFR (q := 186) C0 hin rfl fl_X12_77_11 hb63 (ab63) rfl dX12_init_183 rfl ?_
  refine J_aload_n (q := 187) C0 0 rfl rfl dX12_init_186 rfl trivial ?_
  refine J_bipush (q := 189) (v := 10) C0 dX12_init_187 rfl rfl ?_
  have hm_ := e_X12_init_B191  hf
  have hk_ : k_ + 1 ≤ mc ∧ n_ + (10 : Int32).toNatClampNeg ≤ ms := by have := hm_.1; have := hm_.slots; have := sg_S_new (put_R σ b63 34 (s0)) 12 (10 : Int32).toNatClampNeg; have : sg_N (new_C (put_R σ b63 34 (s0)) 12 (10 : Int32).toNatClampNeg) = sg_N (put_R σ b63 34 (s0)) + 1 := rfl; have : ce_ 12 (10 : Int32).toNatClampNeg = (10 : Int32).toNatClampNeg := rfl; have := (show k_ + sg_N r ≤ mc + sg_N (put_R σ b63 34 (s0)) ∧ n_ + sg_S r ≤ ms + sg_S (put_R σ b63 34 (s0)) from hc); omega
  refine J_newa (at_ := .int) (kd := 12) (q := 191) C0 (by simp) wt_a_int dX12_init_189 rfl (by decide) (by decide) C1.room hk_.1 hk_.2 ?_
  have hc65 : (k_ + 1) + sg_N r ≤ mc + sg_N (new_C (put_R σ b63 34 (s0)) 12 (10 : Int32).toNatClampNeg) ∧ (n_ + (10 : Int32).toNatClampNeg) + sg_S r ≤ ms + sg_S (new_C (put_R σ b63 34 (s0)) 12 (10 : Int32).toNatClampNeg) := by have := sg_S_new (put_R σ b63 34 (s0)) 12 (10 : Int32).toNatClampNeg; have : sg_N (new_C (put_R σ b63 34 (s0)) 12 (10 : Int32).toNatClampNeg) = sg_N (put_R σ b63 34 (s0)) + 1 := rfl; have : ce_ 12 (10 : Int32).toNatClampNeg = (10 : Int32).toNatClampNeg := rfl; have := (show k_ + sg_N r ≤ mc + sg_N (put_R σ b63 34 (s0)) ∧ n_ + sg_S r ≤ ms + sg_S (put_R σ b63 34 (s0)) from hc); omega
  exact t_X12_init_B191 C1 hin    (some (sg_N (put_R σ b63 34 (s0)))) (some a0) (new_C (put_R σ b63 34 (s0)) 12 (10 : Int32).toNatClampNeg) (((sg_T.putR hT (by rw [(ab63).2]; exact g_s0))).new) (((hE).putR).new) (((h0).putR).new) (is_O.some (is_A.born (put_R σ b63 34 (s0)) 12 (10 : Int32).toNatClampNeg)) (is_O.some (((h0).putR).new)) ((k_ + 1)) ((n_ + (10 : Int32).toNatClampNeg)) hc65 hf
set_option maxHeartbeats 4000000 in
set_option maxRecDepth 100000 in
theorem t_X12_init_B175 {a0 : Nat} {Γ : Gm} {σ0 : Sg} {r : Sg} {mc ms : Nat} (C1 : CM Γ cX12_init RX12 1 none 1 20 mc ms (fun r_ τ_ => (r_ = none) ∧ τ_ = r ∧ sg_T τ_ ∧ sg_E σ0 τ_)) (hin : Γ.2.2.2.2.2.2.2.2.1.name = "<init>") (s0 : Option Nat) (s1 : Option Nat) (σ : Sg) (hT : sg_T σ) (hE : sg_E σ0 σ) (h0 : is_A σ a0 11) (g_s0 : is_O σ s0 12) (g_s1 : is_O σ s1 11) (k_ n_ : Nat) (hc : (k_ + sg_N r ≤ mc + sg_N σ ∧ n_ + sg_S r ≤ ms + sg_S σ)) (hf : f_X12_init_B175 a0  s0 s1 σ = some r) : J_ Γ 175 [(0, vr (some a0))] [vr (s0), vr (s1)] σ k_ n_ := by
  have C0 := C1.1
  unfold f_X12_init_B175 at hf
  refine K_some hf (fun b60 hb60 hf => ?_)
  have ab60 : is_A σ b60 11 := (g_s1) b60 hb60
  refine J_putFR (q := 178) C0 hin rfl fl_X12_74_11 hb60 (ab60) rfl dX12_init_175 rfl ?_
  refine J_aload_n (q := 179) C0 0 rfl rfl dX12_init_178 rfl trivial ?_
  refine J_bipush (q := 181) (v := 10) C0 dX12_init_179 rfl rfl ?_
  have hm_ := e_X12_init_B183  hf
  have hk_ : k_ + 1 ≤ mc ∧ n_ + (10 : Int32).toNatClampNeg ≤ ms := by have := hm_.1; have := hm_.slots; have := sg_S_new (put_R σ b60 33 (s0)) 12 (10 : Int32).toNatClampNeg; have : sg_N (new_C (put_R σ b60 33 (s0)) 12 (10 : Int32).toNatClampNeg) = sg_N (put_R σ b60 33 (s0)) + 1 := rfl; have : ce_ 12 (10 : Int32).toNatClampNeg = (10 : Int32).toNatClampNeg := rfl; have := (show k_ + sg_N r ≤ mc + sg_N (put_R σ b60 33 (s0)) ∧ n_ + sg_S r ≤ ms + sg_S (put_R σ b60 33 (s0)) from hc); omega
  refine J_newa (at_ := .int) (kd := 12) (q := 183) C0 (by simp) wt_a_int dX12_init_181 rfl (by decide) (by decide) C1.room hk_.1 hk_.2 ?_
  have hc62 : (k_ + 1) + sg_N r ≤ mc + sg_N (new_C (put_R σ b60 33 (s0)) 12 (10 : Int32).toNatClampNeg) ∧ (n_ + (10 : Int32).toNatClampNeg) + sg_S r ≤ ms + sg_S (new_C (put_R σ b60 33 (s0)) 12 (10 : Int32).toNatClampNeg) := by have := sg_S_new (put_R σ b60 33 (s0)) 12 (10 : Int32).toNatClampNeg; have : sg_N (new_C (put_R σ b60 33 (s0)) 12 (10 : Int32).toNatClampNeg) = sg_N (put_R σ b60 33 (s0)) + 1 := rfl; have : ce_ 12 (10 : Int32).toNatClampNeg = (10 : Int32).toNatClampNeg := rfl; have := (show k_ + sg_N r ≤ mc + sg_N (put_R σ b60 33 (s0)) ∧ n_ + sg_S r ≤ ms + sg_S (put_R σ b60 33 (s0)) from hc); omega
  exact t_X12_init_B183 C1 hin    (some (sg_N (put_R σ b60 33 (s0)))) (some a0) (new_C (put_R σ b60 33 (s0)) 12 (10 : Int32).toNatClampNeg) (((sg_T.putR hT (by rw [(ab60).2]; exact g_s0))).new) (((hE).putR).new) (((h0).putR).new) (is_O.some (is_A.born (put_R σ b60 33 (s0)) 12 (10 : Int32).toNatClampNeg)) (is_O.some (((h0).putR).new)) ((k_ + 1)) ((n_ + (10 : Int32).toNatClampNeg)) hc62 hf
set_option maxHeartbeats 4000000 in
set_option maxRecDepth 100000 in
theorem t_X12_init_B168 {a0 : Nat} {Γ : Gm} {σ0 : Sg} {r : Sg} {mc ms : Nat} (C1 : CM Γ cX12_init RX12 1 none 1 20 mc ms (fun r_ τ_ => (r_ = none) ∧ τ_ = r ∧ sg_T τ_ ∧ sg_E σ0 τ_)) (hin : Γ.2.2.2.2.2.2.2.2.1.name = "<init>") (s0 : Option Nat) (s1 : Option Nat) (σ : Sg) (hT : sg_T σ) (hE : sg_E σ0 σ) (h0 : is_A σ a0 11) (g_s0 : is_O σ s0 12) (g_s1 : is_O σ s1 11) (k_ n_ : Nat) (hc : (k_ + sg_N r ≤ mc + sg_N σ ∧ n_ + sg_S r ≤ ms + sg_S σ)) (hf : f_X12_init_B168 a0  s0 s1 σ = some r) : J_ Γ 168 [(0, vr (some a0))] [vr (s0), vr (s1)] σ k_ n_ := by
  have C0 := C1.1
  unfold f_X12_init_B168 at hf
  refine K_some hf (fun b57 hb57 hf => ?_)
  have ab57 : is_A σ b57 11 := (g_s1) b57 hb57
  refine J_putFR (q := 171) C0 hin rfl fl_X12_71_11 hb57 (ab57) rfl dX12_init_168 rfl ?_
  refine J_aload_n (q := 172) C0 0 rfl rfl dX12_init_171 rfl trivial ?_
  refine J_iconst (q := 173) (v := 4) C0 dX12_init_172 rfl rfl ?_
  have hm_ := e_X12_init_B175  hf
  have hk_ : k_ + 1 ≤ mc ∧ n_ + (4 : Int32).toNatClampNeg ≤ ms := by have := hm_.1; have := hm_.slots; have := sg_S_new (put_R σ b57 32 (s0)) 12 (4 : Int32).toNatClampNeg; have : sg_N (new_C (put_R σ b57 32 (s0)) 12 (4 : Int32).toNatClampNeg) = sg_N (put_R σ b57 32 (s0)) + 1 := rfl; have : ce_ 12 (4 : Int32).toNatClampNeg = (4 : Int32).toNatClampNeg := rfl; have := (show k_ + sg_N r ≤ mc + sg_N (put_R σ b57 32 (s0)) ∧ n_ + sg_S r ≤ ms + sg_S (put_R σ b57 32 (s0)) from hc); omega
  refine J_newa (at_ := .int) (kd := 12) (q := 175) C0 (by simp) wt_a_int dX12_init_173 rfl (by decide) (by decide) C1.room hk_.1 hk_.2 ?_
  have hc59 : (k_ + 1) + sg_N r ≤ mc + sg_N (new_C (put_R σ b57 32 (s0)) 12 (4 : Int32).toNatClampNeg) ∧ (n_ + (4 : Int32).toNatClampNeg) + sg_S r ≤ ms + sg_S (new_C (put_R σ b57 32 (s0)) 12 (4 : Int32).toNatClampNeg) := by have := sg_S_new (put_R σ b57 32 (s0)) 12 (4 : Int32).toNatClampNeg; have : sg_N (new_C (put_R σ b57 32 (s0)) 12 (4 : Int32).toNatClampNeg) = sg_N (put_R σ b57 32 (s0)) + 1 := rfl; have : ce_ 12 (4 : Int32).toNatClampNeg = (4 : Int32).toNatClampNeg := rfl; have := (show k_ + sg_N r ≤ mc + sg_N (put_R σ b57 32 (s0)) ∧ n_ + sg_S r ≤ ms + sg_S (put_R σ b57 32 (s0)) from hc); omega
  exact t_X12_init_B175 C1 hin    (some (sg_N (put_R σ b57 32 (s0)))) (some a0) (new_C (put_R σ b57 32 (s0)) 12 (4 : Int32).toNatClampNeg) (((sg_T.putR hT (by rw [(ab57).2]; exact g_s0))).new) (((hE).putR).new) (((h0).putR).new) (is_O.some (is_A.born (put_R σ b57 32 (s0)) 12 (4 : Int32).toNatClampNeg)) (is_O.some (((h0).putR).new)) ((k_ + 1)) ((n_ + (4 : Int32).toNatClampNeg)) hc59 hf
set_option maxHeartbeats 4000000 in
set_option maxRecDepth 100000 in
theorem t_X12_init_B160 {a0 : Nat} {Γ : Gm} {σ0 : Sg} {r : Sg} {mc ms : Nat} (C1 : CM Γ cX12_init RX12 1 none 1 20 mc ms (fun r_ τ_ => (r_ = none) ∧ τ_ = r ∧ sg_T τ_ ∧ sg_E σ0 τ_)) (hin : Γ.2.2.2.2.2.2.2.2.1.name = "<init>") (s0 : Option Nat) (s1 : Option Nat) (σ : Sg) (hT : sg_T σ) (hE : sg_E σ0 σ) (h0 : is_A σ a0 11) (g_s0 : is_O σ s0 12) (g_s1 : is_O σ s1 11) (k_ n_ : Nat) (hc : (k_ + sg_N r ≤ mc + sg_N σ ∧ n_ + sg_S r ≤ ms + sg_S σ)) (hf : f_X12_init_B160 a0  s0 s1 σ = some r) : J_ Γ 160 [(0, vr (some a0))] [vr (s0), vr (s1)] σ k_ n_ := by
  have C0 := C1.1
  unfold f_X12_init_B160 at hf
  refine K_some hf (fun b54 hb54 hf => ?_)
  have ab54 : is_A σ b54 11 := (g_s1) b54 hb54
  refine J_putFR (q := 163) C0 hin rfl fl_X12_68_11 hb54 (ab54) rfl dX12_init_160 rfl ?_
  refine J_aload_n (q := 164) C0 0 rfl rfl dX12_init_163 rfl trivial ?_
  refine J_bipush (q := 166) (v := 61) C0 dX12_init_164 rfl rfl ?_
  have hm_ := e_X12_init_B168  hf
  have hk_ : k_ + 1 ≤ mc ∧ n_ + (61 : Int32).toNatClampNeg ≤ ms := by have := hm_.1; have := hm_.slots; have := sg_S_new (put_R σ b54 31 (s0)) 12 (61 : Int32).toNatClampNeg; have : sg_N (new_C (put_R σ b54 31 (s0)) 12 (61 : Int32).toNatClampNeg) = sg_N (put_R σ b54 31 (s0)) + 1 := rfl; have : ce_ 12 (61 : Int32).toNatClampNeg = (61 : Int32).toNatClampNeg := rfl; have := (show k_ + sg_N r ≤ mc + sg_N (put_R σ b54 31 (s0)) ∧ n_ + sg_S r ≤ ms + sg_S (put_R σ b54 31 (s0)) from hc); omega
  refine J_newa (at_ := .int) (kd := 12) (q := 168) C0 (by simp) wt_a_int dX12_init_166 rfl (by decide) (by decide) C1.room hk_.1 hk_.2 ?_
  have hc56 : (k_ + 1) + sg_N r ≤ mc + sg_N (new_C (put_R σ b54 31 (s0)) 12 (61 : Int32).toNatClampNeg) ∧ (n_ + (61 : Int32).toNatClampNeg) + sg_S r ≤ ms + sg_S (new_C (put_R σ b54 31 (s0)) 12 (61 : Int32).toNatClampNeg) := by have := sg_S_new (put_R σ b54 31 (s0)) 12 (61 : Int32).toNatClampNeg; have : sg_N (new_C (put_R σ b54 31 (s0)) 12 (61 : Int32).toNatClampNeg) = sg_N (put_R σ b54 31 (s0)) + 1 := rfl; have : ce_ 12 (61 : Int32).toNatClampNeg = (61 : Int32).toNatClampNeg := rfl; have := (show k_ + sg_N r ≤ mc + sg_N (put_R σ b54 31 (s0)) ∧ n_ + sg_S r ≤ ms + sg_S (put_R σ b54 31 (s0)) from hc); omega
  exact t_X12_init_B168 C1 hin    (some (sg_N (put_R σ b54 31 (s0)))) (some a0) (new_C (put_R σ b54 31 (s0)) 12 (61 : Int32).toNatClampNeg) (((sg_T.putR hT (by rw [(ab54).2]; exact g_s0))).new) (((hE).putR).new) (((h0).putR).new) (is_O.some (is_A.born (put_R σ b54 31 (s0)) 12 (61 : Int32).toNatClampNeg)) (is_O.some (((h0).putR).new)) ((k_ + 1)) ((n_ + (61 : Int32).toNatClampNeg)) hc56 hf
set_option maxHeartbeats 4000000 in
set_option maxRecDepth 100000 in
theorem t_X12_init_B151 {a0 : Nat} {Γ : Gm} {σ0 : Sg} {r : Sg} {mc ms : Nat} (C1 : CM Γ cX12_init RX12 1 none 1 20 mc ms (fun r_ τ_ => (r_ = none) ∧ τ_ = r ∧ sg_T τ_ ∧ sg_E σ0 τ_)) (hin : Γ.2.2.2.2.2.2.2.2.1.name = "<init>") (s0 : Option Nat) (s1 : Option Nat) (σ : Sg) (hT : sg_T σ) (hE : sg_E σ0 σ) (h0 : is_A σ a0 11) (g_s0 : is_O σ s0 12) (g_s1 : is_O σ s1 11) (k_ n_ : Nat) (hc : (k_ + sg_N r ≤ mc + sg_N σ ∧ n_ + sg_S r ≤ ms + sg_S σ)) (hf : f_X12_init_B151 a0  s0 s1 σ = some r) : J_ Γ 151 [(0, vr (some a0))] [vr (s0), vr (s1)] σ k_ n_ := by
  have C0 := C1.1
  unfold f_X12_init_B151 at hf
  refine K_some hf (fun b51 hb51 hf => ?_)
  have ab51 : is_A σ b51 11 := (g_s1) b51 hb51
  refine J_putFR (q := 154) C0 hin rfl fl_X12_65_11 hb51 (ab51) rfl dX12_init_151 rfl ?_
  refine J_aload_n (q := 155) C0 0 rfl rfl dX12_init_154 rfl trivial ?_
  refine J_sipush (q := 158) (v := 361) C0 dX12_init_155 rfl rfl ?_
  have hm_ := e_X12_init_B160  hf
  have hk_ : k_ + 1 ≤ mc ∧ n_ + (361 : Int32).toNatClampNeg ≤ ms := by have := hm_.1; have := hm_.slots; have := sg_S_new (put_R σ b51 28 (s0)) 12 (361 : Int32).toNatClampNeg; have : sg_N (new_C (put_R σ b51 28 (s0)) 12 (361 : Int32).toNatClampNeg) = sg_N (put_R σ b51 28 (s0)) + 1 := rfl; have : ce_ 12 (361 : Int32).toNatClampNeg = (361 : Int32).toNatClampNeg := rfl; have := (show k_ + sg_N r ≤ mc + sg_N (put_R σ b51 28 (s0)) ∧ n_ + sg_S r ≤ ms + sg_S (put_R σ b51 28 (s0)) from hc); omega
  refine J_newa (at_ := .int) (kd := 12) (q := 160) C0 (by simp) wt_a_int dX12_init_158 rfl (by decide) (by decide) C1.room hk_.1 hk_.2 ?_
  have hc53 : (k_ + 1) + sg_N r ≤ mc + sg_N (new_C (put_R σ b51 28 (s0)) 12 (361 : Int32).toNatClampNeg) ∧ (n_ + (361 : Int32).toNatClampNeg) + sg_S r ≤ ms + sg_S (new_C (put_R σ b51 28 (s0)) 12 (361 : Int32).toNatClampNeg) := by have := sg_S_new (put_R σ b51 28 (s0)) 12 (361 : Int32).toNatClampNeg; have : sg_N (new_C (put_R σ b51 28 (s0)) 12 (361 : Int32).toNatClampNeg) = sg_N (put_R σ b51 28 (s0)) + 1 := rfl; have : ce_ 12 (361 : Int32).toNatClampNeg = (361 : Int32).toNatClampNeg := rfl; have := (show k_ + sg_N r ≤ mc + sg_N (put_R σ b51 28 (s0)) ∧ n_ + sg_S r ≤ ms + sg_S (put_R σ b51 28 (s0)) from hc); omega
  exact t_X12_init_B160 C1 hin    (some (sg_N (put_R σ b51 28 (s0)))) (some a0) (new_C (put_R σ b51 28 (s0)) 12 (361 : Int32).toNatClampNeg) (((sg_T.putR hT (by rw [(ab51).2]; exact g_s0))).new) (((hE).putR).new) (((h0).putR).new) (is_O.some (is_A.born (put_R σ b51 28 (s0)) 12 (361 : Int32).toNatClampNeg)) (is_O.some (((h0).putR).new)) ((k_ + 1)) ((n_ + (361 : Int32).toNatClampNeg)) hc53 hf
set_option maxHeartbeats 4000000 in
set_option maxRecDepth 100000 in
theorem t_X12_init_B132 {a0 : Nat} {Γ : Gm} {σ0 : Sg} {r : Sg} {mc ms : Nat} (C1 : CM Γ cX12_init RX12 1 none 1 20 mc ms (fun r_ τ_ => (r_ = none) ∧ τ_ = r ∧ sg_T τ_ ∧ sg_E σ0 τ_)) (hin : Γ.2.2.2.2.2.2.2.2.1.name = "<init>") (s0 : Option Nat) (s1 : Option Nat) (σ : Sg) (hT : sg_T σ) (hE : sg_E σ0 σ) (h0 : is_A σ a0 11) (g_s0 : is_O σ s0 12) (g_s1 : is_O σ s1 11) (k_ n_ : Nat) (hc : (k_ + sg_N r ≤ mc + sg_N σ ∧ n_ + sg_S r ≤ ms + sg_S σ)) (hf : f_X12_init_B132 a0  s0 s1 σ = some r) : J_ Γ 132 [(0, vr (some a0))] [vr (s0), vr (s1)] σ k_ n_ := by
  have C0 := C1.1
  unfold f_X12_init_B132 at hf
  refine K_some hf (fun b48 hb48 hf => ?_)
  have ab48 : is_A σ b48 11 := (g_s1) b48 hb48
  refine J_putFR (q := 135) C0 hin rfl fl_X12_55_11 hb48 (ab48) rfl dX12_init_132 rfl ?_
  refine J_aload_n (q := 136) C0 0 rfl rfl dX12_init_135 rfl trivial ?_
  refine J_iconst (q := 137) (v := (-1)) C0 dX12_init_136 rfl rfl ?_
  refine J_putI (q := 140) C0 fl_X12_58_11 rfl ((h0).putR) rfl dX12_init_137 rfl ?_
  refine J_aload_n (q := 141) C0 0 rfl rfl dX12_init_140 rfl trivial ?_
  refine J_iconst (q := 142) (v := 3) C0 dX12_init_141 rfl rfl ?_
  refine J_putI (q := 145) C0 fl_X12_62_11 rfl (((h0).putR).putI) rfl dX12_init_142 rfl ?_
  refine J_aload_n (q := 146) C0 0 rfl rfl dX12_init_145 rfl trivial ?_
  refine J_sipush (q := 149) (v := 10440) C0 dX12_init_146 rfl rfl ?_
  have hm_ := e_X12_init_B151  hf
  have hk_ : k_ + 1 ≤ mc ∧ n_ + (10440 : Int32).toNatClampNeg ≤ ms := by have := hm_.1; have := hm_.slots; have := sg_S_new (put_I (put_I (put_R σ b48 25 (s0)) a0 26 ((-1))) a0 27 (3)) 12 (10440 : Int32).toNatClampNeg; have : sg_N (new_C (put_I (put_I (put_R σ b48 25 (s0)) a0 26 ((-1))) a0 27 (3)) 12 (10440 : Int32).toNatClampNeg) = sg_N (put_I (put_I (put_R σ b48 25 (s0)) a0 26 ((-1))) a0 27 (3)) + 1 := rfl; have : ce_ 12 (10440 : Int32).toNatClampNeg = (10440 : Int32).toNatClampNeg := rfl; have := (show k_ + sg_N r ≤ mc + sg_N (put_I (put_I (put_R σ b48 25 (s0)) a0 26 ((-1))) a0 27 (3)) ∧ n_ + sg_S r ≤ ms + sg_S (put_I (put_I (put_R σ b48 25 (s0)) a0 26 ((-1))) a0 27 (3)) from hc); omega
  refine J_newa (at_ := .int) (kd := 12) (q := 151) C0 (by simp) wt_a_int dX12_init_149 rfl (by decide) (by decide) C1.room hk_.1 hk_.2 ?_
  have hc50 : (k_ + 1) + sg_N r ≤ mc + sg_N (new_C (put_I (put_I (put_R σ b48 25 (s0)) a0 26 ((-1))) a0 27 (3)) 12 (10440 : Int32).toNatClampNeg) ∧ (n_ + (10440 : Int32).toNatClampNeg) + sg_S r ≤ ms + sg_S (new_C (put_I (put_I (put_R σ b48 25 (s0)) a0 26 ((-1))) a0 27 (3)) 12 (10440 : Int32).toNatClampNeg) := by have := sg_S_new (put_I (put_I (put_R σ b48 25 (s0)) a0 26 ((-1))) a0 27 (3)) 12 (10440 : Int32).toNatClampNeg; have : sg_N (new_C (put_I (put_I (put_R σ b48 25 (s0)) a0 26 ((-1))) a0 27 (3)) 12 (10440 : Int32).toNatClampNeg) = sg_N (put_I (put_I (put_R σ b48 25 (s0)) a0 26 ((-1))) a0 27 (3)) + 1 := rfl; have : ce_ 12 (10440 : Int32).toNatClampNeg = (10440 : Int32).toNatClampNeg := rfl; have := (show k_ + sg_N r ≤ mc + sg_N (put_I (put_I (put_R σ b48 25 (s0)) a0 26 ((-1))) a0 27 (3)) ∧ n_ + sg_S r ≤ ms + sg_S (put_I (put_I (put_R σ b48 25 (s0)) a0 26 ((-1))) a0 27 (3)) from hc); omega
  exact t_X12_init_B151 C1 hin    (some (sg_N (put_I (put_I (put_R σ b48 25 (s0)) a0 26 ((-1))) a0 27 (3)))) (some a0) (new_C (put_I (put_I (put_R σ b48 25 (s0)) a0 26 ((-1))) a0 27 (3)) 12 (10440 : Int32).toNatClampNeg) (((((sg_T.putR hT (by rw [(ab48).2]; exact g_s0))).putI).putI).new) (((((hE).putR).putI).putI).new) (((((h0).putR).putI).putI).new) (is_O.some (is_A.born (put_I (put_I (put_R σ b48 25 (s0)) a0 26 ((-1))) a0 27 (3)) 12 (10440 : Int32).toNatClampNeg)) (is_O.some (((((h0).putR).putI).putI).new)) ((k_ + 1)) ((n_ + (10440 : Int32).toNatClampNeg)) hc50 hf
set_option maxHeartbeats 4000000 in
set_option maxRecDepth 100000 in
theorem t_X12_init_B125 {a0 : Nat} {Γ : Gm} {σ0 : Sg} {r : Sg} {mc ms : Nat} (C1 : CM Γ cX12_init RX12 1 none 1 20 mc ms (fun r_ τ_ => (r_ = none) ∧ τ_ = r ∧ sg_T τ_ ∧ sg_E σ0 τ_)) (hin : Γ.2.2.2.2.2.2.2.2.1.name = "<init>") (s0 : Option Nat) (s1 : Option Nat) (σ : Sg) (hT : sg_T σ) (hE : sg_E σ0 σ) (h0 : is_A σ a0 11) (g_s0 : is_O σ s0 12) (g_s1 : is_O σ s1 11) (k_ n_ : Nat) (hc : (k_ + sg_N r ≤ mc + sg_N σ ∧ n_ + sg_S r ≤ ms + sg_S σ)) (hf : f_X12_init_B125 a0  s0 s1 σ = some r) : J_ Γ 125 [(0, vr (some a0))] [vr (s0), vr (s1)] σ k_ n_ := by
  have C0 := C1.1
  unfold f_X12_init_B125 at hf
  refine K_some hf (fun b45 hb45 hf => ?_)
  have ab45 : is_A σ b45 11 := (g_s1) b45 hb45
  refine J_putFR (q := 128) C0 hin rfl fl_X12_52_11 hb45 (ab45) rfl dX12_init_125 rfl ?_
  refine J_aload_n (q := 129) C0 0 rfl rfl dX12_init_128 rfl trivial ?_
  refine J_iconst (q := 130) (v := 5) C0 dX12_init_129 rfl rfl ?_
  have hm_ := e_X12_init_B132  hf
  have hk_ : k_ + 1 ≤ mc ∧ n_ + (5 : Int32).toNatClampNeg ≤ ms := by have := hm_.1; have := hm_.slots; have := sg_S_new (put_R σ b45 24 (s0)) 12 (5 : Int32).toNatClampNeg; have : sg_N (new_C (put_R σ b45 24 (s0)) 12 (5 : Int32).toNatClampNeg) = sg_N (put_R σ b45 24 (s0)) + 1 := rfl; have : ce_ 12 (5 : Int32).toNatClampNeg = (5 : Int32).toNatClampNeg := rfl; have := (show k_ + sg_N r ≤ mc + sg_N (put_R σ b45 24 (s0)) ∧ n_ + sg_S r ≤ ms + sg_S (put_R σ b45 24 (s0)) from hc); omega
  refine J_newa (at_ := .int) (kd := 12) (q := 132) C0 (by simp) wt_a_int dX12_init_130 rfl (by decide) (by decide) C1.room hk_.1 hk_.2 ?_
  have hc47 : (k_ + 1) + sg_N r ≤ mc + sg_N (new_C (put_R σ b45 24 (s0)) 12 (5 : Int32).toNatClampNeg) ∧ (n_ + (5 : Int32).toNatClampNeg) + sg_S r ≤ ms + sg_S (new_C (put_R σ b45 24 (s0)) 12 (5 : Int32).toNatClampNeg) := by have := sg_S_new (put_R σ b45 24 (s0)) 12 (5 : Int32).toNatClampNeg; have : sg_N (new_C (put_R σ b45 24 (s0)) 12 (5 : Int32).toNatClampNeg) = sg_N (put_R σ b45 24 (s0)) + 1 := rfl; have : ce_ 12 (5 : Int32).toNatClampNeg = (5 : Int32).toNatClampNeg := rfl; have := (show k_ + sg_N r ≤ mc + sg_N (put_R σ b45 24 (s0)) ∧ n_ + sg_S r ≤ ms + sg_S (put_R σ b45 24 (s0)) from hc); omega
  exact t_X12_init_B132 C1 hin    (some (sg_N (put_R σ b45 24 (s0)))) (some a0) (new_C (put_R σ b45 24 (s0)) 12 (5 : Int32).toNatClampNeg) (((sg_T.putR hT (by rw [(ab45).2]; exact g_s0))).new) (((hE).putR).new) (((h0).putR).new) (is_O.some (is_A.born (put_R σ b45 24 (s0)) 12 (5 : Int32).toNatClampNeg)) (is_O.some (((h0).putR).new)) ((k_ + 1)) ((n_ + (5 : Int32).toNatClampNeg)) hc47 hf
set_option maxHeartbeats 4000000 in
set_option maxRecDepth 100000 in
theorem t_X12_init_B116 {a0 : Nat} {Γ : Gm} {σ0 : Sg} {r : Sg} {mc ms : Nat} (C1 : CM Γ cX12_init RX12 1 none 1 20 mc ms (fun r_ τ_ => (r_ = none) ∧ τ_ = r ∧ sg_T τ_ ∧ sg_E σ0 τ_)) (hin : Γ.2.2.2.2.2.2.2.2.1.name = "<init>") (s0 : Option Nat) (s1 : Option Nat) (σ : Sg) (hT : sg_T σ) (hE : sg_E σ0 σ) (h0 : is_A σ a0 11) (g_s0 : is_O σ s0 12) (g_s1 : is_O σ s1 11) (k_ n_ : Nat) (hc : (k_ + sg_N r ≤ mc + sg_N σ ∧ n_ + sg_S r ≤ ms + sg_S σ)) (hf : f_X12_init_B116 a0  s0 s1 σ = some r) : J_ Γ 116 [(0, vr (some a0))] [vr (s0), vr (s1)] σ k_ n_ := by
  have C0 := C1.1
  unfold f_X12_init_B116 at hf
  refine K_some hf (fun b42 hb42 hf => ?_)
  have ab42 : is_A σ b42 11 := (g_s1) b42 hb42
  refine J_putFR (q := 119) C0 hin rfl fl_X12_49_11 hb42 (ab42) rfl dX12_init_116 rfl ?_
  refine J_aload_n (q := 120) C0 0 rfl rfl dX12_init_119 rfl trivial ?_
  refine J_sipush (q := 123) (v := 261) C0 dX12_init_120 rfl rfl ?_
  have hm_ := e_X12_init_B125  hf
  have hk_ : k_ + 1 ≤ mc ∧ n_ + (261 : Int32).toNatClampNeg ≤ ms := by have := hm_.1; have := hm_.slots; have := sg_S_new (put_R σ b42 22 (s0)) 12 (261 : Int32).toNatClampNeg; have : sg_N (new_C (put_R σ b42 22 (s0)) 12 (261 : Int32).toNatClampNeg) = sg_N (put_R σ b42 22 (s0)) + 1 := rfl; have : ce_ 12 (261 : Int32).toNatClampNeg = (261 : Int32).toNatClampNeg := rfl; have := (show k_ + sg_N r ≤ mc + sg_N (put_R σ b42 22 (s0)) ∧ n_ + sg_S r ≤ ms + sg_S (put_R σ b42 22 (s0)) from hc); omega
  refine J_newa (at_ := .int) (kd := 12) (q := 125) C0 (by simp) wt_a_int dX12_init_123 rfl (by decide) (by decide) C1.room hk_.1 hk_.2 ?_
  have hc44 : (k_ + 1) + sg_N r ≤ mc + sg_N (new_C (put_R σ b42 22 (s0)) 12 (261 : Int32).toNatClampNeg) ∧ (n_ + (261 : Int32).toNatClampNeg) + sg_S r ≤ ms + sg_S (new_C (put_R σ b42 22 (s0)) 12 (261 : Int32).toNatClampNeg) := by have := sg_S_new (put_R σ b42 22 (s0)) 12 (261 : Int32).toNatClampNeg; have : sg_N (new_C (put_R σ b42 22 (s0)) 12 (261 : Int32).toNatClampNeg) = sg_N (put_R σ b42 22 (s0)) + 1 := rfl; have : ce_ 12 (261 : Int32).toNatClampNeg = (261 : Int32).toNatClampNeg := rfl; have := (show k_ + sg_N r ≤ mc + sg_N (put_R σ b42 22 (s0)) ∧ n_ + sg_S r ≤ ms + sg_S (put_R σ b42 22 (s0)) from hc); omega
  exact t_X12_init_B125 C1 hin    (some (sg_N (put_R σ b42 22 (s0)))) (some a0) (new_C (put_R σ b42 22 (s0)) 12 (261 : Int32).toNatClampNeg) (((sg_T.putR hT (by rw [(ab42).2]; exact g_s0))).new) (((hE).putR).new) (((h0).putR).new) (is_O.some (is_A.born (put_R σ b42 22 (s0)) 12 (261 : Int32).toNatClampNeg)) (is_O.some (((h0).putR).new)) ((k_ + 1)) ((n_ + (261 : Int32).toNatClampNeg)) hc44 hf
set_option maxHeartbeats 4000000 in
set_option maxRecDepth 100000 in
theorem t_X12_init_B108 {a0 : Nat} {Γ : Gm} {σ0 : Sg} {r : Sg} {mc ms : Nat} (C1 : CM Γ cX12_init RX12 1 none 1 20 mc ms (fun r_ τ_ => (r_ = none) ∧ τ_ = r ∧ sg_T τ_ ∧ sg_E σ0 τ_)) (hin : Γ.2.2.2.2.2.2.2.2.1.name = "<init>") (s0 : Option Nat) (s1 : Option Nat) (σ : Sg) (hT : sg_T σ) (hE : sg_E σ0 σ) (h0 : is_A σ a0 11) (g_s0 : is_O σ s0 12) (g_s1 : is_O σ s1 11) (k_ n_ : Nat) (hc : (k_ + sg_N r ≤ mc + sg_N σ ∧ n_ + sg_S r ≤ ms + sg_S σ)) (hf : f_X12_init_B108 a0  s0 s1 σ = some r) : J_ Γ 108 [(0, vr (some a0))] [vr (s0), vr (s1)] σ k_ n_ := by
  have C0 := C1.1
  unfold f_X12_init_B108 at hf
  refine K_some hf (fun b39 hb39 hf => ?_)
  have ab39 : is_A σ b39 11 := (g_s1) b39 hb39
  refine J_putFR (q := 111) C0 hin rfl fl_X12_46_11 hb39 (ab39) rfl dX12_init_108 rfl ?_
  refine J_aload_n (q := 112) C0 0 rfl rfl dX12_init_111 rfl trivial ?_
  refine J_bipush (q := 114) (v := 7) C0 dX12_init_112 rfl rfl ?_
  have hm_ := e_X12_init_B116  hf
  have hk_ : k_ + 1 ≤ mc ∧ n_ + (7 : Int32).toNatClampNeg ≤ ms := by have := hm_.1; have := hm_.slots; have := sg_S_new (put_R σ b39 21 (s0)) 12 (7 : Int32).toNatClampNeg; have : sg_N (new_C (put_R σ b39 21 (s0)) 12 (7 : Int32).toNatClampNeg) = sg_N (put_R σ b39 21 (s0)) + 1 := rfl; have : ce_ 12 (7 : Int32).toNatClampNeg = (7 : Int32).toNatClampNeg := rfl; have := (show k_ + sg_N r ≤ mc + sg_N (put_R σ b39 21 (s0)) ∧ n_ + sg_S r ≤ ms + sg_S (put_R σ b39 21 (s0)) from hc); omega
  refine J_newa (at_ := .int) (kd := 12) (q := 116) C0 (by simp) wt_a_int dX12_init_114 rfl (by decide) (by decide) C1.room hk_.1 hk_.2 ?_
  have hc41 : (k_ + 1) + sg_N r ≤ mc + sg_N (new_C (put_R σ b39 21 (s0)) 12 (7 : Int32).toNatClampNeg) ∧ (n_ + (7 : Int32).toNatClampNeg) + sg_S r ≤ ms + sg_S (new_C (put_R σ b39 21 (s0)) 12 (7 : Int32).toNatClampNeg) := by have := sg_S_new (put_R σ b39 21 (s0)) 12 (7 : Int32).toNatClampNeg; have : sg_N (new_C (put_R σ b39 21 (s0)) 12 (7 : Int32).toNatClampNeg) = sg_N (put_R σ b39 21 (s0)) + 1 := rfl; have : ce_ 12 (7 : Int32).toNatClampNeg = (7 : Int32).toNatClampNeg := rfl; have := (show k_ + sg_N r ≤ mc + sg_N (put_R σ b39 21 (s0)) ∧ n_ + sg_S r ≤ ms + sg_S (put_R σ b39 21 (s0)) from hc); omega
  exact t_X12_init_B116 C1 hin    (some (sg_N (put_R σ b39 21 (s0)))) (some a0) (new_C (put_R σ b39 21 (s0)) 12 (7 : Int32).toNatClampNeg) (((sg_T.putR hT (by rw [(ab39).2]; exact g_s0))).new) (((hE).putR).new) (((h0).putR).new) (is_O.some (is_A.born (put_R σ b39 21 (s0)) 12 (7 : Int32).toNatClampNeg)) (is_O.some (((h0).putR).new)) ((k_ + 1)) ((n_ + (7 : Int32).toNatClampNeg)) hc41 hf
set_option maxHeartbeats 4000000 in
set_option maxRecDepth 100000 in
theorem t_X12_init_B100 {a0 : Nat} {Γ : Gm} {σ0 : Sg} {r : Sg} {mc ms : Nat} (C1 : CM Γ cX12_init RX12 1 none 1 20 mc ms (fun r_ τ_ => (r_ = none) ∧ τ_ = r ∧ sg_T τ_ ∧ sg_E σ0 τ_)) (hin : Γ.2.2.2.2.2.2.2.2.1.name = "<init>") (s0 : Option Nat) (s1 : Option Nat) (σ : Sg) (hT : sg_T σ) (hE : sg_E σ0 σ) (h0 : is_A σ a0 11) (g_s0 : is_O σ s0 12) (g_s1 : is_O σ s1 11) (k_ n_ : Nat) (hc : (k_ + sg_N r ≤ mc + sg_N σ ∧ n_ + sg_S r ≤ ms + sg_S σ)) (hf : f_X12_init_B100 a0  s0 s1 σ = some r) : J_ Γ 100 [(0, vr (some a0))] [vr (s0), vr (s1)] σ k_ n_ := by
  have C0 := C1.1
  unfold f_X12_init_B100 at hf
  refine K_some hf (fun b36 hb36 hf => ?_)
  have ab36 : is_A σ b36 11 := (g_s1) b36 hb36
  refine J_putFR (q := 103) C0 hin rfl fl_X12_43_11 hb36 (ab36) rfl dX12_init_100 rfl ?_
  refine J_aload_n (q := 104) C0 0 rfl rfl dX12_init_103 rfl trivial ?_
  refine J_bipush (q := 106) (v := 112) C0 dX12_init_104 rfl rfl ?_
  have hm_ := e_X12_init_B108  hf
  have hk_ : k_ + 1 ≤ mc ∧ n_ + (112 : Int32).toNatClampNeg ≤ ms := by have := hm_.1; have := hm_.slots; have := sg_S_new (put_R σ b36 18 (s0)) 12 (112 : Int32).toNatClampNeg; have : sg_N (new_C (put_R σ b36 18 (s0)) 12 (112 : Int32).toNatClampNeg) = sg_N (put_R σ b36 18 (s0)) + 1 := rfl; have : ce_ 12 (112 : Int32).toNatClampNeg = (112 : Int32).toNatClampNeg := rfl; have := (show k_ + sg_N r ≤ mc + sg_N (put_R σ b36 18 (s0)) ∧ n_ + sg_S r ≤ ms + sg_S (put_R σ b36 18 (s0)) from hc); omega
  refine J_newa (at_ := .int) (kd := 12) (q := 108) C0 (by simp) wt_a_int dX12_init_106 rfl (by decide) (by decide) C1.room hk_.1 hk_.2 ?_
  have hc38 : (k_ + 1) + sg_N r ≤ mc + sg_N (new_C (put_R σ b36 18 (s0)) 12 (112 : Int32).toNatClampNeg) ∧ (n_ + (112 : Int32).toNatClampNeg) + sg_S r ≤ ms + sg_S (new_C (put_R σ b36 18 (s0)) 12 (112 : Int32).toNatClampNeg) := by have := sg_S_new (put_R σ b36 18 (s0)) 12 (112 : Int32).toNatClampNeg; have : sg_N (new_C (put_R σ b36 18 (s0)) 12 (112 : Int32).toNatClampNeg) = sg_N (put_R σ b36 18 (s0)) + 1 := rfl; have : ce_ 12 (112 : Int32).toNatClampNeg = (112 : Int32).toNatClampNeg := rfl; have := (show k_ + sg_N r ≤ mc + sg_N (put_R σ b36 18 (s0)) ∧ n_ + sg_S r ≤ ms + sg_S (put_R σ b36 18 (s0)) from hc); omega
  exact t_X12_init_B108 C1 hin    (some (sg_N (put_R σ b36 18 (s0)))) (some a0) (new_C (put_R σ b36 18 (s0)) 12 (112 : Int32).toNatClampNeg) (((sg_T.putR hT (by rw [(ab36).2]; exact g_s0))).new) (((hE).putR).new) (((h0).putR).new) (is_O.some (is_A.born (put_R σ b36 18 (s0)) 12 (112 : Int32).toNatClampNeg)) (is_O.some (((h0).putR).new)) ((k_ + 1)) ((n_ + (112 : Int32).toNatClampNeg)) hc38 hf
set_option maxHeartbeats 4000000 in
set_option maxRecDepth 100000 in
theorem t_X12_init_B92 {a0 : Nat} {Γ : Gm} {σ0 : Sg} {r : Sg} {mc ms : Nat} (C1 : CM Γ cX12_init RX12 1 none 1 20 mc ms (fun r_ τ_ => (r_ = none) ∧ τ_ = r ∧ sg_T τ_ ∧ sg_E σ0 τ_)) (hin : Γ.2.2.2.2.2.2.2.2.1.name = "<init>") (s0 : Option Nat) (s1 : Option Nat) (σ : Sg) (hT : sg_T σ) (hE : sg_E σ0 σ) (h0 : is_A σ a0 11) (g_s0 : is_O σ s0 12) (g_s1 : is_O σ s1 11) (k_ n_ : Nat) (hc : (k_ + sg_N r ≤ mc + sg_N σ ∧ n_ + sg_S r ≤ ms + sg_S σ)) (hf : f_X12_init_B92 a0  s0 s1 σ = some r) : J_ Γ 92 [(0, vr (some a0))] [vr (s0), vr (s1)] σ k_ n_ := by
  have C0 := C1.1
  unfold f_X12_init_B92 at hf
  refine K_some hf (fun b33 hb33 hf => ?_)
  have ab33 : is_A σ b33 11 := (g_s1) b33 hb33
  refine J_putFR (q := 95) C0 hin rfl fl_X12_40_11 hb33 (ab33) rfl dX12_init_92 rfl ?_
  refine J_aload_n (q := 96) C0 0 rfl rfl dX12_init_95 rfl trivial ?_
  refine J_bipush (q := 98) (v := 16) C0 dX12_init_96 rfl rfl ?_
  have hm_ := e_X12_init_B100  hf
  have hk_ : k_ + 1 ≤ mc ∧ n_ + (16 : Int32).toNatClampNeg ≤ ms := by have := hm_.1; have := hm_.slots; have := sg_S_new (put_R σ b33 17 (s0)) 12 (16 : Int32).toNatClampNeg; have : sg_N (new_C (put_R σ b33 17 (s0)) 12 (16 : Int32).toNatClampNeg) = sg_N (put_R σ b33 17 (s0)) + 1 := rfl; have : ce_ 12 (16 : Int32).toNatClampNeg = (16 : Int32).toNatClampNeg := rfl; have := (show k_ + sg_N r ≤ mc + sg_N (put_R σ b33 17 (s0)) ∧ n_ + sg_S r ≤ ms + sg_S (put_R σ b33 17 (s0)) from hc); omega
  refine J_newa (at_ := .int) (kd := 12) (q := 100) C0 (by simp) wt_a_int dX12_init_98 rfl (by decide) (by decide) C1.room hk_.1 hk_.2 ?_
  have hc35 : (k_ + 1) + sg_N r ≤ mc + sg_N (new_C (put_R σ b33 17 (s0)) 12 (16 : Int32).toNatClampNeg) ∧ (n_ + (16 : Int32).toNatClampNeg) + sg_S r ≤ ms + sg_S (new_C (put_R σ b33 17 (s0)) 12 (16 : Int32).toNatClampNeg) := by have := sg_S_new (put_R σ b33 17 (s0)) 12 (16 : Int32).toNatClampNeg; have : sg_N (new_C (put_R σ b33 17 (s0)) 12 (16 : Int32).toNatClampNeg) = sg_N (put_R σ b33 17 (s0)) + 1 := rfl; have : ce_ 12 (16 : Int32).toNatClampNeg = (16 : Int32).toNatClampNeg := rfl; have := (show k_ + sg_N r ≤ mc + sg_N (put_R σ b33 17 (s0)) ∧ n_ + sg_S r ≤ ms + sg_S (put_R σ b33 17 (s0)) from hc); omega
  exact t_X12_init_B100 C1 hin    (some (sg_N (put_R σ b33 17 (s0)))) (some a0) (new_C (put_R σ b33 17 (s0)) 12 (16 : Int32).toNatClampNeg) (((sg_T.putR hT (by rw [(ab33).2]; exact g_s0))).new) (((hE).putR).new) (((h0).putR).new) (is_O.some (is_A.born (put_R σ b33 17 (s0)) 12 (16 : Int32).toNatClampNeg)) (is_O.some (((h0).putR).new)) ((k_ + 1)) ((n_ + (16 : Int32).toNatClampNeg)) hc35 hf
set_option maxHeartbeats 4000000 in
set_option maxRecDepth 100000 in
theorem t_X12_init_B85 {a0 : Nat} {Γ : Gm} {σ0 : Sg} {r : Sg} {mc ms : Nat} (C1 : CM Γ cX12_init RX12 1 none 1 20 mc ms (fun r_ τ_ => (r_ = none) ∧ τ_ = r ∧ sg_T τ_ ∧ sg_E σ0 τ_)) (hin : Γ.2.2.2.2.2.2.2.2.1.name = "<init>") (s0 : Option Nat) (s1 : Option Nat) (σ : Sg) (hT : sg_T σ) (hE : sg_E σ0 σ) (h0 : is_A σ a0 11) (g_s0 : is_O σ s0 12) (g_s1 : is_O σ s1 11) (k_ n_ : Nat) (hc : (k_ + sg_N r ≤ mc + sg_N σ ∧ n_ + sg_S r ≤ ms + sg_S σ)) (hf : f_X12_init_B85 a0  s0 s1 σ = some r) : J_ Γ 85 [(0, vr (some a0))] [vr (s0), vr (s1)] σ k_ n_ := by
  have C0 := C1.1
  unfold f_X12_init_B85 at hf
  refine K_some hf (fun b30 hb30 hf => ?_)
  have ab30 : is_A σ b30 11 := (g_s1) b30 hb30
  refine J_putFR (q := 88) C0 hin rfl fl_X12_37_11 hb30 (ab30) rfl dX12_init_85 rfl ?_
  refine J_aload_n (q := 89) C0 0 rfl rfl dX12_init_88 rfl trivial ?_
  refine J_iconst (q := 90) (v := 3) C0 dX12_init_89 rfl rfl ?_
  have hm_ := e_X12_init_B92  hf
  have hk_ : k_ + 1 ≤ mc ∧ n_ + (3 : Int32).toNatClampNeg ≤ ms := by have := hm_.1; have := hm_.slots; have := sg_S_new (put_R σ b30 16 (s0)) 12 (3 : Int32).toNatClampNeg; have : sg_N (new_C (put_R σ b30 16 (s0)) 12 (3 : Int32).toNatClampNeg) = sg_N (put_R σ b30 16 (s0)) + 1 := rfl; have : ce_ 12 (3 : Int32).toNatClampNeg = (3 : Int32).toNatClampNeg := rfl; have := (show k_ + sg_N r ≤ mc + sg_N (put_R σ b30 16 (s0)) ∧ n_ + sg_S r ≤ ms + sg_S (put_R σ b30 16 (s0)) from hc); omega
  refine J_newa (at_ := .int) (kd := 12) (q := 92) C0 (by simp) wt_a_int dX12_init_90 rfl (by decide) (by decide) C1.room hk_.1 hk_.2 ?_
  have hc32 : (k_ + 1) + sg_N r ≤ mc + sg_N (new_C (put_R σ b30 16 (s0)) 12 (3 : Int32).toNatClampNeg) ∧ (n_ + (3 : Int32).toNatClampNeg) + sg_S r ≤ ms + sg_S (new_C (put_R σ b30 16 (s0)) 12 (3 : Int32).toNatClampNeg) := by have := sg_S_new (put_R σ b30 16 (s0)) 12 (3 : Int32).toNatClampNeg; have : sg_N (new_C (put_R σ b30 16 (s0)) 12 (3 : Int32).toNatClampNeg) = sg_N (put_R σ b30 16 (s0)) + 1 := rfl; have : ce_ 12 (3 : Int32).toNatClampNeg = (3 : Int32).toNatClampNeg := rfl; have := (show k_ + sg_N r ≤ mc + sg_N (put_R σ b30 16 (s0)) ∧ n_ + sg_S r ≤ ms + sg_S (put_R σ b30 16 (s0)) from hc); omega
  exact t_X12_init_B92 C1 hin    (some (sg_N (put_R σ b30 16 (s0)))) (some a0) (new_C (put_R σ b30 16 (s0)) 12 (3 : Int32).toNatClampNeg) (((sg_T.putR hT (by rw [(ab30).2]; exact g_s0))).new) (((hE).putR).new) (((h0).putR).new) (is_O.some (is_A.born (put_R σ b30 16 (s0)) 12 (3 : Int32).toNatClampNeg)) (is_O.some (((h0).putR).new)) ((k_ + 1)) ((n_ + (3 : Int32).toNatClampNeg)) hc32 hf
set_option maxHeartbeats 4000000 in
set_option maxRecDepth 100000 in
theorem t_X12_init_B77 {a0 : Nat} {Γ : Gm} {σ0 : Sg} {r : Sg} {mc ms : Nat} (C1 : CM Γ cX12_init RX12 1 none 1 20 mc ms (fun r_ τ_ => (r_ = none) ∧ τ_ = r ∧ sg_T τ_ ∧ sg_E σ0 τ_)) (hin : Γ.2.2.2.2.2.2.2.2.1.name = "<init>") (s0 : Option Nat) (s1 : Option Nat) (σ : Sg) (hT : sg_T σ) (hE : sg_E σ0 σ) (h0 : is_A σ a0 11) (g_s0 : is_O σ s0 12) (g_s1 : is_O σ s1 11) (k_ n_ : Nat) (hc : (k_ + sg_N r ≤ mc + sg_N σ ∧ n_ + sg_S r ≤ ms + sg_S σ)) (hf : f_X12_init_B77 a0  s0 s1 σ = some r) : J_ Γ 77 [(0, vr (some a0))] [vr (s0), vr (s1)] σ k_ n_ := by
  have C0 := C1.1
  unfold f_X12_init_B77 at hf
  refine K_some hf (fun b27 hb27 hf => ?_)
  have ab27 : is_A σ b27 11 := (g_s1) b27 hb27
  refine J_putFR (q := 80) C0 hin rfl fl_X12_34_11 hb27 (ab27) rfl dX12_init_77 rfl ?_
  refine J_aload_n (q := 81) C0 0 rfl rfl dX12_init_80 rfl trivial ?_
  refine J_bipush (q := 83) (v := 80) C0 dX12_init_81 rfl rfl ?_
  have hm_ := e_X12_init_B85  hf
  have hk_ : k_ + 1 ≤ mc ∧ n_ + (80 : Int32).toNatClampNeg ≤ ms := by have := hm_.1; have := hm_.slots; have := sg_S_new (put_R σ b27 15 (s0)) 12 (80 : Int32).toNatClampNeg; have : sg_N (new_C (put_R σ b27 15 (s0)) 12 (80 : Int32).toNatClampNeg) = sg_N (put_R σ b27 15 (s0)) + 1 := rfl; have : ce_ 12 (80 : Int32).toNatClampNeg = (80 : Int32).toNatClampNeg := rfl; have := (show k_ + sg_N r ≤ mc + sg_N (put_R σ b27 15 (s0)) ∧ n_ + sg_S r ≤ ms + sg_S (put_R σ b27 15 (s0)) from hc); omega
  refine J_newa (at_ := .int) (kd := 12) (q := 85) C0 (by simp) wt_a_int dX12_init_83 rfl (by decide) (by decide) C1.room hk_.1 hk_.2 ?_
  have hc29 : (k_ + 1) + sg_N r ≤ mc + sg_N (new_C (put_R σ b27 15 (s0)) 12 (80 : Int32).toNatClampNeg) ∧ (n_ + (80 : Int32).toNatClampNeg) + sg_S r ≤ ms + sg_S (new_C (put_R σ b27 15 (s0)) 12 (80 : Int32).toNatClampNeg) := by have := sg_S_new (put_R σ b27 15 (s0)) 12 (80 : Int32).toNatClampNeg; have : sg_N (new_C (put_R σ b27 15 (s0)) 12 (80 : Int32).toNatClampNeg) = sg_N (put_R σ b27 15 (s0)) + 1 := rfl; have : ce_ 12 (80 : Int32).toNatClampNeg = (80 : Int32).toNatClampNeg := rfl; have := (show k_ + sg_N r ≤ mc + sg_N (put_R σ b27 15 (s0)) ∧ n_ + sg_S r ≤ ms + sg_S (put_R σ b27 15 (s0)) from hc); omega
  exact t_X12_init_B85 C1 hin    (some (sg_N (put_R σ b27 15 (s0)))) (some a0) (new_C (put_R σ b27 15 (s0)) 12 (80 : Int32).toNatClampNeg) (((sg_T.putR hT (by rw [(ab27).2]; exact g_s0))).new) (((hE).putR).new) (((h0).putR).new) (is_O.some (is_A.born (put_R σ b27 15 (s0)) 12 (80 : Int32).toNatClampNeg)) (is_O.some (((h0).putR).new)) ((k_ + 1)) ((n_ + (80 : Int32).toNatClampNeg)) hc29 hf
set_option maxHeartbeats 4000000 in
set_option maxRecDepth 100000 in
theorem t_X12_init_B69 {a0 : Nat} {Γ : Gm} {σ0 : Sg} {r : Sg} {mc ms : Nat} (C1 : CM Γ cX12_init RX12 1 none 1 20 mc ms (fun r_ τ_ => (r_ = none) ∧ τ_ = r ∧ sg_T τ_ ∧ sg_E σ0 τ_)) (hin : Γ.2.2.2.2.2.2.2.2.1.name = "<init>") (s0 : Option Nat) (s1 : Option Nat) (σ : Sg) (hT : sg_T σ) (hE : sg_E σ0 σ) (h0 : is_A σ a0 11) (g_s0 : is_O σ s0 12) (g_s1 : is_O σ s1 11) (k_ n_ : Nat) (hc : (k_ + sg_N r ≤ mc + sg_N σ ∧ n_ + sg_S r ≤ ms + sg_S σ)) (hf : f_X12_init_B69 a0  s0 s1 σ = some r) : J_ Γ 69 [(0, vr (some a0))] [vr (s0), vr (s1)] σ k_ n_ := by
  have C0 := C1.1
  unfold f_X12_init_B69 at hf
  refine K_some hf (fun b24 hb24 hf => ?_)
  have ab24 : is_A σ b24 11 := (g_s1) b24 hb24
  refine J_putFR (q := 72) C0 hin rfl fl_X12_31_11 hb24 (ab24) rfl dX12_init_69 rfl ?_
  refine J_aload_n (q := 73) C0 0 rfl rfl dX12_init_72 rfl trivial ?_
  refine J_bipush (q := 75) (v := 6) C0 dX12_init_73 rfl rfl ?_
  have hm_ := e_X12_init_B77  hf
  have hk_ : k_ + 1 ≤ mc ∧ n_ + (6 : Int32).toNatClampNeg ≤ ms := by have := hm_.1; have := hm_.slots; have := sg_S_new (put_R σ b24 12 (s0)) 12 (6 : Int32).toNatClampNeg; have : sg_N (new_C (put_R σ b24 12 (s0)) 12 (6 : Int32).toNatClampNeg) = sg_N (put_R σ b24 12 (s0)) + 1 := rfl; have : ce_ 12 (6 : Int32).toNatClampNeg = (6 : Int32).toNatClampNeg := rfl; have := (show k_ + sg_N r ≤ mc + sg_N (put_R σ b24 12 (s0)) ∧ n_ + sg_S r ≤ ms + sg_S (put_R σ b24 12 (s0)) from hc); omega
  refine J_newa (at_ := .int) (kd := 12) (q := 77) C0 (by simp) wt_a_int dX12_init_75 rfl (by decide) (by decide) C1.room hk_.1 hk_.2 ?_
  have hc26 : (k_ + 1) + sg_N r ≤ mc + sg_N (new_C (put_R σ b24 12 (s0)) 12 (6 : Int32).toNatClampNeg) ∧ (n_ + (6 : Int32).toNatClampNeg) + sg_S r ≤ ms + sg_S (new_C (put_R σ b24 12 (s0)) 12 (6 : Int32).toNatClampNeg) := by have := sg_S_new (put_R σ b24 12 (s0)) 12 (6 : Int32).toNatClampNeg; have : sg_N (new_C (put_R σ b24 12 (s0)) 12 (6 : Int32).toNatClampNeg) = sg_N (put_R σ b24 12 (s0)) + 1 := rfl; have : ce_ 12 (6 : Int32).toNatClampNeg = (6 : Int32).toNatClampNeg := rfl; have := (show k_ + sg_N r ≤ mc + sg_N (put_R σ b24 12 (s0)) ∧ n_ + sg_S r ≤ ms + sg_S (put_R σ b24 12 (s0)) from hc); omega
  exact t_X12_init_B77 C1 hin    (some (sg_N (put_R σ b24 12 (s0)))) (some a0) (new_C (put_R σ b24 12 (s0)) 12 (6 : Int32).toNatClampNeg) (((sg_T.putR hT (by rw [(ab24).2]; exact g_s0))).new) (((hE).putR).new) (((h0).putR).new) (is_O.some (is_A.born (put_R σ b24 12 (s0)) 12 (6 : Int32).toNatClampNeg)) (is_O.some (((h0).putR).new)) ((k_ + 1)) ((n_ + (6 : Int32).toNatClampNeg)) hc26 hf
set_option maxHeartbeats 4000000 in
set_option maxRecDepth 100000 in
theorem t_X12_init_B60 {a0 : Nat} {Γ : Gm} {σ0 : Sg} {r : Sg} {mc ms : Nat} (C1 : CM Γ cX12_init RX12 1 none 1 20 mc ms (fun r_ τ_ => (r_ = none) ∧ τ_ = r ∧ sg_T τ_ ∧ sg_E σ0 τ_)) (hin : Γ.2.2.2.2.2.2.2.2.1.name = "<init>") (s0 : Option Nat) (s1 : Option Nat) (σ : Sg) (hT : sg_T σ) (hE : sg_E σ0 σ) (h0 : is_A σ a0 11) (g_s0 : is_O σ s0 12) (g_s1 : is_O σ s1 11) (k_ n_ : Nat) (hc : (k_ + sg_N r ≤ mc + sg_N σ ∧ n_ + sg_S r ≤ ms + sg_S σ)) (hf : f_X12_init_B60 a0  s0 s1 σ = some r) : J_ Γ 60 [(0, vr (some a0))] [vr (s0), vr (s1)] σ k_ n_ := by
  have C0 := C1.1
  unfold f_X12_init_B60 at hf
  refine K_some hf (fun b21 hb21 hf => ?_)
  have ab21 : is_A σ b21 11 := (g_s1) b21 hb21
  refine J_putFR (q := 63) C0 hin rfl fl_X12_28_11 hb21 (ab21) rfl dX12_init_60 rfl ?_
  refine J_aload_n (q := 64) C0 0 rfl rfl dX12_init_63 rfl trivial ?_
  refine J_sipush (q := 67) (v := 700) C0 dX12_init_64 rfl rfl ?_
  have hm_ := e_X12_init_B69  hf
  have hk_ : k_ + 1 ≤ mc ∧ n_ + (700 : Int32).toNatClampNeg ≤ ms := by have := hm_.1; have := hm_.slots; have := sg_S_new (put_R σ b21 11 (s0)) 12 (700 : Int32).toNatClampNeg; have : sg_N (new_C (put_R σ b21 11 (s0)) 12 (700 : Int32).toNatClampNeg) = sg_N (put_R σ b21 11 (s0)) + 1 := rfl; have : ce_ 12 (700 : Int32).toNatClampNeg = (700 : Int32).toNatClampNeg := rfl; have := (show k_ + sg_N r ≤ mc + sg_N (put_R σ b21 11 (s0)) ∧ n_ + sg_S r ≤ ms + sg_S (put_R σ b21 11 (s0)) from hc); omega
  refine J_newa (at_ := .int) (kd := 12) (q := 69) C0 (by simp) wt_a_int dX12_init_67 rfl (by decide) (by decide) C1.room hk_.1 hk_.2 ?_
  have hc23 : (k_ + 1) + sg_N r ≤ mc + sg_N (new_C (put_R σ b21 11 (s0)) 12 (700 : Int32).toNatClampNeg) ∧ (n_ + (700 : Int32).toNatClampNeg) + sg_S r ≤ ms + sg_S (new_C (put_R σ b21 11 (s0)) 12 (700 : Int32).toNatClampNeg) := by have := sg_S_new (put_R σ b21 11 (s0)) 12 (700 : Int32).toNatClampNeg; have : sg_N (new_C (put_R σ b21 11 (s0)) 12 (700 : Int32).toNatClampNeg) = sg_N (put_R σ b21 11 (s0)) + 1 := rfl; have : ce_ 12 (700 : Int32).toNatClampNeg = (700 : Int32).toNatClampNeg := rfl; have := (show k_ + sg_N r ≤ mc + sg_N (put_R σ b21 11 (s0)) ∧ n_ + sg_S r ≤ ms + sg_S (put_R σ b21 11 (s0)) from hc); omega
  exact t_X12_init_B69 C1 hin    (some (sg_N (put_R σ b21 11 (s0)))) (some a0) (new_C (put_R σ b21 11 (s0)) 12 (700 : Int32).toNatClampNeg) (((sg_T.putR hT (by rw [(ab21).2]; exact g_s0))).new) (((hE).putR).new) (((h0).putR).new) (is_O.some (is_A.born (put_R σ b21 11 (s0)) 12 (700 : Int32).toNatClampNeg)) (is_O.some (((h0).putR).new)) ((k_ + 1)) ((n_ + (700 : Int32).toNatClampNeg)) hc23 hf
set_option maxHeartbeats 4000000 in
set_option maxRecDepth 100000 in
theorem t_X12_init_B51 {a0 : Nat} {Γ : Gm} {σ0 : Sg} {r : Sg} {mc ms : Nat} (C1 : CM Γ cX12_init RX12 1 none 1 20 mc ms (fun r_ τ_ => (r_ = none) ∧ τ_ = r ∧ sg_T τ_ ∧ sg_E σ0 τ_)) (hin : Γ.2.2.2.2.2.2.2.2.1.name = "<init>") (s0 : Option Nat) (s1 : Option Nat) (σ : Sg) (hT : sg_T σ) (hE : sg_E σ0 σ) (h0 : is_A σ a0 11) (g_s0 : is_O σ s0 12) (g_s1 : is_O σ s1 11) (k_ n_ : Nat) (hc : (k_ + sg_N r ≤ mc + sg_N σ ∧ n_ + sg_S r ≤ ms + sg_S σ)) (hf : f_X12_init_B51 a0  s0 s1 σ = some r) : J_ Γ 51 [(0, vr (some a0))] [vr (s0), vr (s1)] σ k_ n_ := by
  have C0 := C1.1
  unfold f_X12_init_B51 at hf
  refine K_some hf (fun b18 hb18 hf => ?_)
  have ab18 : is_A σ b18 11 := (g_s1) b18 hb18
  refine J_putFR (q := 54) C0 hin rfl fl_X12_25_11 hb18 (ab18) rfl dX12_init_51 rfl ?_
  refine J_aload_n (q := 55) C0 0 rfl rfl dX12_init_54 rfl trivial ?_
  refine J_sipush (q := 58) (v := 700) C0 dX12_init_55 rfl rfl ?_
  have hm_ := e_X12_init_B60  hf
  have hk_ : k_ + 1 ≤ mc ∧ n_ + (700 : Int32).toNatClampNeg ≤ ms := by have := hm_.1; have := hm_.slots; have := sg_S_new (put_R σ b18 10 (s0)) 12 (700 : Int32).toNatClampNeg; have : sg_N (new_C (put_R σ b18 10 (s0)) 12 (700 : Int32).toNatClampNeg) = sg_N (put_R σ b18 10 (s0)) + 1 := rfl; have : ce_ 12 (700 : Int32).toNatClampNeg = (700 : Int32).toNatClampNeg := rfl; have := (show k_ + sg_N r ≤ mc + sg_N (put_R σ b18 10 (s0)) ∧ n_ + sg_S r ≤ ms + sg_S (put_R σ b18 10 (s0)) from hc); omega
  refine J_newa (at_ := .int) (kd := 12) (q := 60) C0 (by simp) wt_a_int dX12_init_58 rfl (by decide) (by decide) C1.room hk_.1 hk_.2 ?_
  have hc20 : (k_ + 1) + sg_N r ≤ mc + sg_N (new_C (put_R σ b18 10 (s0)) 12 (700 : Int32).toNatClampNeg) ∧ (n_ + (700 : Int32).toNatClampNeg) + sg_S r ≤ ms + sg_S (new_C (put_R σ b18 10 (s0)) 12 (700 : Int32).toNatClampNeg) := by have := sg_S_new (put_R σ b18 10 (s0)) 12 (700 : Int32).toNatClampNeg; have : sg_N (new_C (put_R σ b18 10 (s0)) 12 (700 : Int32).toNatClampNeg) = sg_N (put_R σ b18 10 (s0)) + 1 := rfl; have : ce_ 12 (700 : Int32).toNatClampNeg = (700 : Int32).toNatClampNeg := rfl; have := (show k_ + sg_N r ≤ mc + sg_N (put_R σ b18 10 (s0)) ∧ n_ + sg_S r ≤ ms + sg_S (put_R σ b18 10 (s0)) from hc); omega
  exact t_X12_init_B60 C1 hin    (some (sg_N (put_R σ b18 10 (s0)))) (some a0) (new_C (put_R σ b18 10 (s0)) 12 (700 : Int32).toNatClampNeg) (((sg_T.putR hT (by rw [(ab18).2]; exact g_s0))).new) (((hE).putR).new) (((h0).putR).new) (is_O.some (is_A.born (put_R σ b18 10 (s0)) 12 (700 : Int32).toNatClampNeg)) (is_O.some (((h0).putR).new)) ((k_ + 1)) ((n_ + (700 : Int32).toNatClampNeg)) hc20 hf
set_option maxHeartbeats 4000000 in
set_option maxRecDepth 100000 in
theorem t_X12_init_B42 {a0 : Nat} {Γ : Gm} {σ0 : Sg} {r : Sg} {mc ms : Nat} (C1 : CM Γ cX12_init RX12 1 none 1 20 mc ms (fun r_ τ_ => (r_ = none) ∧ τ_ = r ∧ sg_T τ_ ∧ sg_E σ0 τ_)) (hin : Γ.2.2.2.2.2.2.2.2.1.name = "<init>") (s0 : Option Nat) (s1 : Option Nat) (σ : Sg) (hT : sg_T σ) (hE : sg_E σ0 σ) (h0 : is_A σ a0 11) (g_s0 : is_O σ s0 12) (g_s1 : is_O σ s1 11) (k_ n_ : Nat) (hc : (k_ + sg_N r ≤ mc + sg_N σ ∧ n_ + sg_S r ≤ ms + sg_S σ)) (hf : f_X12_init_B42 a0  s0 s1 σ = some r) : J_ Γ 42 [(0, vr (some a0))] [vr (s0), vr (s1)] σ k_ n_ := by
  have C0 := C1.1
  unfold f_X12_init_B42 at hf
  refine K_some hf (fun b15 hb15 hf => ?_)
  have ab15 : is_A σ b15 11 := (g_s1) b15 hb15
  refine J_putFR (q := 45) C0 hin rfl fl_X12_22_11 hb15 (ab15) rfl dX12_init_42 rfl ?_
  refine J_aload_n (q := 46) C0 0 rfl rfl dX12_init_45 rfl trivial ?_
  refine J_sipush (q := 49) (v := 700) C0 dX12_init_46 rfl rfl ?_
  have hm_ := e_X12_init_B51  hf
  have hk_ : k_ + 1 ≤ mc ∧ n_ + (700 : Int32).toNatClampNeg ≤ ms := by have := hm_.1; have := hm_.slots; have := sg_S_new (put_R σ b15 9 (s0)) 12 (700 : Int32).toNatClampNeg; have : sg_N (new_C (put_R σ b15 9 (s0)) 12 (700 : Int32).toNatClampNeg) = sg_N (put_R σ b15 9 (s0)) + 1 := rfl; have : ce_ 12 (700 : Int32).toNatClampNeg = (700 : Int32).toNatClampNeg := rfl; have := (show k_ + sg_N r ≤ mc + sg_N (put_R σ b15 9 (s0)) ∧ n_ + sg_S r ≤ ms + sg_S (put_R σ b15 9 (s0)) from hc); omega
  refine J_newa (at_ := .int) (kd := 12) (q := 51) C0 (by simp) wt_a_int dX12_init_49 rfl (by decide) (by decide) C1.room hk_.1 hk_.2 ?_
  have hc17 : (k_ + 1) + sg_N r ≤ mc + sg_N (new_C (put_R σ b15 9 (s0)) 12 (700 : Int32).toNatClampNeg) ∧ (n_ + (700 : Int32).toNatClampNeg) + sg_S r ≤ ms + sg_S (new_C (put_R σ b15 9 (s0)) 12 (700 : Int32).toNatClampNeg) := by have := sg_S_new (put_R σ b15 9 (s0)) 12 (700 : Int32).toNatClampNeg; have : sg_N (new_C (put_R σ b15 9 (s0)) 12 (700 : Int32).toNatClampNeg) = sg_N (put_R σ b15 9 (s0)) + 1 := rfl; have : ce_ 12 (700 : Int32).toNatClampNeg = (700 : Int32).toNatClampNeg := rfl; have := (show k_ + sg_N r ≤ mc + sg_N (put_R σ b15 9 (s0)) ∧ n_ + sg_S r ≤ ms + sg_S (put_R σ b15 9 (s0)) from hc); omega
  exact t_X12_init_B51 C1 hin    (some (sg_N (put_R σ b15 9 (s0)))) (some a0) (new_C (put_R σ b15 9 (s0)) 12 (700 : Int32).toNatClampNeg) (((sg_T.putR hT (by rw [(ab15).2]; exact g_s0))).new) (((hE).putR).new) (((h0).putR).new) (is_O.some (is_A.born (put_R σ b15 9 (s0)) 12 (700 : Int32).toNatClampNeg)) (is_O.some (((h0).putR).new)) ((k_ + 1)) ((n_ + (700 : Int32).toNatClampNeg)) hc17 hf
set_option maxHeartbeats 4000000 in
set_option maxRecDepth 100000 in
theorem t_X12_init_B35 {a0 : Nat} {Γ : Gm} {σ0 : Sg} {r : Sg} {mc ms : Nat} (C1 : CM Γ cX12_init RX12 1 none 1 20 mc ms (fun r_ τ_ => (r_ = none) ∧ τ_ = r ∧ sg_T τ_ ∧ sg_E σ0 τ_)) (hin : Γ.2.2.2.2.2.2.2.2.1.name = "<init>") (s0 : Option Nat) (s1 : Option Nat) (σ : Sg) (hT : sg_T σ) (hE : sg_E σ0 σ) (h0 : is_A σ a0 11) (g_s0 : is_O σ s0 12) (g_s1 : is_O σ s1 11) (k_ n_ : Nat) (hc : (k_ + sg_N r ≤ mc + sg_N σ ∧ n_ + sg_S r ≤ ms + sg_S σ)) (hf : f_X12_init_B35 a0  s0 s1 σ = some r) : J_ Γ 35 [(0, vr (some a0))] [vr (s0), vr (s1)] σ k_ n_ := by
  have C0 := C1.1
  unfold f_X12_init_B35 at hf
  refine K_some hf (fun b12 hb12 hf => ?_)
  have ab12 : is_A σ b12 11 := (g_s1) b12 hb12
  refine J_putFR (q := 38) C0 hin rfl fl_X12_19_11 hb12 (ab12) rfl dX12_init_35 rfl ?_
  refine J_aload_n (q := 39) C0 0 rfl rfl dX12_init_38 rfl trivial ?_
  refine J_iconst (q := 40) (v := 5) C0 dX12_init_39 rfl rfl ?_
  have hm_ := e_X12_init_B42  hf
  have hk_ : k_ + 1 ≤ mc ∧ n_ + (5 : Int32).toNatClampNeg ≤ ms := by have := hm_.1; have := hm_.slots; have := sg_S_new (put_R σ b12 8 (s0)) 12 (5 : Int32).toNatClampNeg; have : sg_N (new_C (put_R σ b12 8 (s0)) 12 (5 : Int32).toNatClampNeg) = sg_N (put_R σ b12 8 (s0)) + 1 := rfl; have : ce_ 12 (5 : Int32).toNatClampNeg = (5 : Int32).toNatClampNeg := rfl; have := (show k_ + sg_N r ≤ mc + sg_N (put_R σ b12 8 (s0)) ∧ n_ + sg_S r ≤ ms + sg_S (put_R σ b12 8 (s0)) from hc); omega
  refine J_newa (at_ := .int) (kd := 12) (q := 42) C0 (by simp) wt_a_int dX12_init_40 rfl (by decide) (by decide) C1.room hk_.1 hk_.2 ?_
  have hc14 : (k_ + 1) + sg_N r ≤ mc + sg_N (new_C (put_R σ b12 8 (s0)) 12 (5 : Int32).toNatClampNeg) ∧ (n_ + (5 : Int32).toNatClampNeg) + sg_S r ≤ ms + sg_S (new_C (put_R σ b12 8 (s0)) 12 (5 : Int32).toNatClampNeg) := by have := sg_S_new (put_R σ b12 8 (s0)) 12 (5 : Int32).toNatClampNeg; have : sg_N (new_C (put_R σ b12 8 (s0)) 12 (5 : Int32).toNatClampNeg) = sg_N (put_R σ b12 8 (s0)) + 1 := rfl; have : ce_ 12 (5 : Int32).toNatClampNeg = (5 : Int32).toNatClampNeg := rfl; have := (show k_ + sg_N r ≤ mc + sg_N (put_R σ b12 8 (s0)) ∧ n_ + sg_S r ≤ ms + sg_S (put_R σ b12 8 (s0)) from hc); omega
  exact t_X12_init_B42 C1 hin    (some (sg_N (put_R σ b12 8 (s0)))) (some a0) (new_C (put_R σ b12 8 (s0)) 12 (5 : Int32).toNatClampNeg) (((sg_T.putR hT (by rw [(ab12).2]; exact g_s0))).new) (((hE).putR).new) (((h0).putR).new) (is_O.some (is_A.born (put_R σ b12 8 (s0)) 12 (5 : Int32).toNatClampNeg)) (is_O.some (((h0).putR).new)) ((k_ + 1)) ((n_ + (5 : Int32).toNatClampNeg)) hc14 hf
set_option maxHeartbeats 4000000 in
set_option maxRecDepth 100000 in
theorem t_X12_init_B28 {a0 : Nat} {Γ : Gm} {σ0 : Sg} {r : Sg} {mc ms : Nat} (C1 : CM Γ cX12_init RX12 1 none 1 20 mc ms (fun r_ τ_ => (r_ = none) ∧ τ_ = r ∧ sg_T τ_ ∧ sg_E σ0 τ_)) (hin : Γ.2.2.2.2.2.2.2.2.1.name = "<init>") (s0 : Option Nat) (s1 : Option Nat) (σ : Sg) (hT : sg_T σ) (hE : sg_E σ0 σ) (h0 : is_A σ a0 11) (g_s0 : is_O σ s0 12) (g_s1 : is_O σ s1 11) (k_ n_ : Nat) (hc : (k_ + sg_N r ≤ mc + sg_N σ ∧ n_ + sg_S r ≤ ms + sg_S σ)) (hf : f_X12_init_B28 a0  s0 s1 σ = some r) : J_ Γ 28 [(0, vr (some a0))] [vr (s0), vr (s1)] σ k_ n_ := by
  have C0 := C1.1
  unfold f_X12_init_B28 at hf
  refine K_some hf (fun b9 hb9 hf => ?_)
  have ab9 : is_A σ b9 11 := (g_s1) b9 hb9
  refine J_putFR (q := 31) C0 hin rfl fl_X12_16_11 hb9 (ab9) rfl dX12_init_28 rfl ?_
  refine J_aload_n (q := 32) C0 0 rfl rfl dX12_init_31 rfl trivial ?_
  refine J_iconst (q := 33) (v := 5) C0 dX12_init_32 rfl rfl ?_
  have hm_ := e_X12_init_B35  hf
  have hk_ : k_ + 1 ≤ mc ∧ n_ + (5 : Int32).toNatClampNeg ≤ ms := by have := hm_.1; have := hm_.slots; have := sg_S_new (put_R σ b9 7 (s0)) 12 (5 : Int32).toNatClampNeg; have : sg_N (new_C (put_R σ b9 7 (s0)) 12 (5 : Int32).toNatClampNeg) = sg_N (put_R σ b9 7 (s0)) + 1 := rfl; have : ce_ 12 (5 : Int32).toNatClampNeg = (5 : Int32).toNatClampNeg := rfl; have := (show k_ + sg_N r ≤ mc + sg_N (put_R σ b9 7 (s0)) ∧ n_ + sg_S r ≤ ms + sg_S (put_R σ b9 7 (s0)) from hc); omega
  refine J_newa (at_ := .int) (kd := 12) (q := 35) C0 (by simp) wt_a_int dX12_init_33 rfl (by decide) (by decide) C1.room hk_.1 hk_.2 ?_
  have hc11 : (k_ + 1) + sg_N r ≤ mc + sg_N (new_C (put_R σ b9 7 (s0)) 12 (5 : Int32).toNatClampNeg) ∧ (n_ + (5 : Int32).toNatClampNeg) + sg_S r ≤ ms + sg_S (new_C (put_R σ b9 7 (s0)) 12 (5 : Int32).toNatClampNeg) := by have := sg_S_new (put_R σ b9 7 (s0)) 12 (5 : Int32).toNatClampNeg; have : sg_N (new_C (put_R σ b9 7 (s0)) 12 (5 : Int32).toNatClampNeg) = sg_N (put_R σ b9 7 (s0)) + 1 := rfl; have : ce_ 12 (5 : Int32).toNatClampNeg = (5 : Int32).toNatClampNeg := rfl; have := (show k_ + sg_N r ≤ mc + sg_N (put_R σ b9 7 (s0)) ∧ n_ + sg_S r ≤ ms + sg_S (put_R σ b9 7 (s0)) from hc); omega
  exact t_X12_init_B35 C1 hin    (some (sg_N (put_R σ b9 7 (s0)))) (some a0) (new_C (put_R σ b9 7 (s0)) 12 (5 : Int32).toNatClampNeg) (((sg_T.putR hT (by rw [(ab9).2]; exact g_s0))).new) (((hE).putR).new) (((h0).putR).new) (is_O.some (is_A.born (put_R σ b9 7 (s0)) 12 (5 : Int32).toNatClampNeg)) (is_O.some (((h0).putR).new)) ((k_ + 1)) ((n_ + (5 : Int32).toNatClampNeg)) hc11 hf
set_option maxHeartbeats 4000000 in
set_option maxRecDepth 100000 in
theorem t_X12_init_B19 {a0 : Nat} {Γ : Gm} {σ0 : Sg} {r : Sg} {mc ms : Nat} (C1 : CM Γ cX12_init RX12 1 none 1 20 mc ms (fun r_ τ_ => (r_ = none) ∧ τ_ = r ∧ sg_T τ_ ∧ sg_E σ0 τ_)) (hin : Γ.2.2.2.2.2.2.2.2.1.name = "<init>") (s0 : Option Nat) (s1 : Option Nat) (σ : Sg) (hT : sg_T σ) (hE : sg_E σ0 σ) (h0 : is_A σ a0 11) (g_s0 : is_O σ s0 12) (g_s1 : is_O σ s1 11) (k_ n_ : Nat) (hc : (k_ + sg_N r ≤ mc + sg_N σ ∧ n_ + sg_S r ≤ ms + sg_S σ)) (hf : f_X12_init_B19 a0  s0 s1 σ = some r) : J_ Γ 19 [(0, vr (some a0))] [vr (s0), vr (s1)] σ k_ n_ := by
  have C0 := C1.1
  unfold f_X12_init_B19 at hf
  refine K_some hf (fun b6 hb6 hf => ?_)
  have ab6 : is_A σ b6 11 := (g_s1) b6 hb6
  refine J_putFR (q := 22) C0 hin rfl fl_X12_13_11 hb6 (ab6) rfl dX12_init_19 rfl ?_
  refine J_aload_n (q := 23) C0 0 rfl rfl dX12_init_22 rfl trivial ?_
  refine J_sipush (q := 26) (v := 2600) C0 dX12_init_23 rfl rfl ?_
  have hm_ := e_X12_init_B28  hf
  have hk_ : k_ + 1 ≤ mc ∧ n_ + (2600 : Int32).toNatClampNeg ≤ ms := by have := hm_.1; have := hm_.slots; have := sg_S_new (put_R σ b6 6 (s0)) 12 (2600 : Int32).toNatClampNeg; have : sg_N (new_C (put_R σ b6 6 (s0)) 12 (2600 : Int32).toNatClampNeg) = sg_N (put_R σ b6 6 (s0)) + 1 := rfl; have : ce_ 12 (2600 : Int32).toNatClampNeg = (2600 : Int32).toNatClampNeg := rfl; have := (show k_ + sg_N r ≤ mc + sg_N (put_R σ b6 6 (s0)) ∧ n_ + sg_S r ≤ ms + sg_S (put_R σ b6 6 (s0)) from hc); omega
  refine J_newa (at_ := .int) (kd := 12) (q := 28) C0 (by simp) wt_a_int dX12_init_26 rfl (by decide) (by decide) C1.room hk_.1 hk_.2 ?_
  have hc8 : (k_ + 1) + sg_N r ≤ mc + sg_N (new_C (put_R σ b6 6 (s0)) 12 (2600 : Int32).toNatClampNeg) ∧ (n_ + (2600 : Int32).toNatClampNeg) + sg_S r ≤ ms + sg_S (new_C (put_R σ b6 6 (s0)) 12 (2600 : Int32).toNatClampNeg) := by have := sg_S_new (put_R σ b6 6 (s0)) 12 (2600 : Int32).toNatClampNeg; have : sg_N (new_C (put_R σ b6 6 (s0)) 12 (2600 : Int32).toNatClampNeg) = sg_N (put_R σ b6 6 (s0)) + 1 := rfl; have : ce_ 12 (2600 : Int32).toNatClampNeg = (2600 : Int32).toNatClampNeg := rfl; have := (show k_ + sg_N r ≤ mc + sg_N (put_R σ b6 6 (s0)) ∧ n_ + sg_S r ≤ ms + sg_S (put_R σ b6 6 (s0)) from hc); omega
  exact t_X12_init_B28 C1 hin    (some (sg_N (put_R σ b6 6 (s0)))) (some a0) (new_C (put_R σ b6 6 (s0)) 12 (2600 : Int32).toNatClampNeg) (((sg_T.putR hT (by rw [(ab6).2]; exact g_s0))).new) (((hE).putR).new) (((h0).putR).new) (is_O.some (is_A.born (put_R σ b6 6 (s0)) 12 (2600 : Int32).toNatClampNeg)) (is_O.some (((h0).putR).new)) ((k_ + 1)) ((n_ + (2600 : Int32).toNatClampNeg)) hc8 hf
set_option maxHeartbeats 4000000 in
set_option maxRecDepth 100000 in
theorem t_X12_init_B10 {a0 : Nat} {Γ : Gm} {σ0 : Sg} {r : Sg} {mc ms : Nat} (C1 : CM Γ cX12_init RX12 1 none 1 20 mc ms (fun r_ τ_ => (r_ = none) ∧ τ_ = r ∧ sg_T τ_ ∧ sg_E σ0 τ_)) (hin : Γ.2.2.2.2.2.2.2.2.1.name = "<init>") (s0 : Option Nat) (s1 : Option Nat) (σ : Sg) (hT : sg_T σ) (hE : sg_E σ0 σ) (h0 : is_A σ a0 11) (g_s0 : is_O σ s0 12) (g_s1 : is_O σ s1 11) (k_ n_ : Nat) (hc : (k_ + sg_N r ≤ mc + sg_N σ ∧ n_ + sg_S r ≤ ms + sg_S σ)) (hf : f_X12_init_B10 a0  s0 s1 σ = some r) : J_ Γ 10 [(0, vr (some a0))] [vr (s0), vr (s1)] σ k_ n_ := by
  have C0 := C1.1
  unfold f_X12_init_B10 at hf
  refine K_some hf (fun b3 hb3 hf => ?_)
  have ab3 : is_A σ b3 11 := (g_s1) b3 hb3
  refine J_putFR (q := 13) C0 hin rfl fl_X12_9_11 hb3 (ab3) rfl dX12_init_10 rfl ?_
  refine J_aload_n (q := 14) C0 0 rfl rfl dX12_init_13 rfl trivial ?_
  refine J_sipush (q := 17) (v := 2600) C0 dX12_init_14 rfl rfl ?_
  have hm_ := e_X12_init_B19  hf
  have hk_ : k_ + 1 ≤ mc ∧ n_ + (2600 : Int32).toNatClampNeg ≤ ms := by have := hm_.1; have := hm_.slots; have := sg_S_new (put_R σ b3 1 (s0)) 12 (2600 : Int32).toNatClampNeg; have : sg_N (new_C (put_R σ b3 1 (s0)) 12 (2600 : Int32).toNatClampNeg) = sg_N (put_R σ b3 1 (s0)) + 1 := rfl; have : ce_ 12 (2600 : Int32).toNatClampNeg = (2600 : Int32).toNatClampNeg := rfl; have := (show k_ + sg_N r ≤ mc + sg_N (put_R σ b3 1 (s0)) ∧ n_ + sg_S r ≤ ms + sg_S (put_R σ b3 1 (s0)) from hc); omega
  refine J_newa (at_ := .int) (kd := 12) (q := 19) C0 (by simp) wt_a_int dX12_init_17 rfl (by decide) (by decide) C1.room hk_.1 hk_.2 ?_
  have hc5 : (k_ + 1) + sg_N r ≤ mc + sg_N (new_C (put_R σ b3 1 (s0)) 12 (2600 : Int32).toNatClampNeg) ∧ (n_ + (2600 : Int32).toNatClampNeg) + sg_S r ≤ ms + sg_S (new_C (put_R σ b3 1 (s0)) 12 (2600 : Int32).toNatClampNeg) := by have := sg_S_new (put_R σ b3 1 (s0)) 12 (2600 : Int32).toNatClampNeg; have : sg_N (new_C (put_R σ b3 1 (s0)) 12 (2600 : Int32).toNatClampNeg) = sg_N (put_R σ b3 1 (s0)) + 1 := rfl; have : ce_ 12 (2600 : Int32).toNatClampNeg = (2600 : Int32).toNatClampNeg := rfl; have := (show k_ + sg_N r ≤ mc + sg_N (put_R σ b3 1 (s0)) ∧ n_ + sg_S r ≤ ms + sg_S (put_R σ b3 1 (s0)) from hc); omega
  exact t_X12_init_B19 C1 hin    (some (sg_N (put_R σ b3 1 (s0)))) (some a0) (new_C (put_R σ b3 1 (s0)) 12 (2600 : Int32).toNatClampNeg) (((sg_T.putR hT (by rw [(ab3).2]; exact g_s0))).new) (((hE).putR).new) (((h0).putR).new) (is_O.some (is_A.born (put_R σ b3 1 (s0)) 12 (2600 : Int32).toNatClampNeg)) (is_O.some (((h0).putR).new)) ((k_ + 1)) ((n_ + (2600 : Int32).toNatClampNeg)) hc5 hf
set_option maxHeartbeats 4000000 in
set_option maxRecDepth 100000 in
theorem t_X12_init (a0 : Nat) {σ : Sg} (hT : sg_T σ) (h0 : is_A σ a0 11) {r : Sg} (hf : f_X12_init a0  σ = some r) {mc ms : Nat} (hc : sg_N r ≤ mc + sg_N σ ∧ sg_S r ≤ ms + sg_S σ) : Ct yX12_init cX12_init 1 none 1 20 mc ms [vr (some a0)] σ (fun r_ τ_ => (r_ = none) ∧ τ_ = r ∧ sg_T τ_ ∧ sg_E σ τ_) := by
  refine Ct.ofI (by decide +kernel) (Nat.le_of_ble_eq_true rfl) (fun Γ C1 hin => ?_)
  have C0 := C1.1
  have hin : Γ.2.2.2.2.2.2.2.2.1.name = "<init>" := hin
  obtain ⟨k_, hk0⟩ : ∃ t : Nat, t = 0 := ⟨_, rfl⟩
  obtain ⟨n_, hn0⟩ : ∃ t : Nat, t = 0 := ⟨_, rfl⟩
  have hc : k_ + sg_N r ≤ mc + sg_N σ ∧ n_ + sg_S r ≤ ms + sg_S σ := by omega
  have hE : sg_E σ σ := sg_E.rf
  unfold f_X12_init at hf
  have goal9 : J_ Γ 0 [(0, vr (some a0))] [] σ k_ n_ := by
    refine J_aload_n (q := 1) C0 0 rfl rfl dX12_init_0 rfl trivial ?_
    refine J_objInit (q := 4) C0 rfl lk_X12_3 im_obj co_obj dX12_init_1 rfl (by simp [ac_]) C1.room (by decide) (by decide) ?_
    refine J_aload_n (q := 5) C0 0 rfl rfl dX12_init_4 rfl trivial ?_
    refine J_sipush (q := 8) (v := 240) C0 dX12_init_5 rfl rfl ?_
    have hm_ := e_X12_init_B10  hf
    have hk_ : k_ + 1 ≤ mc ∧ n_ + (240 : Int32).toNatClampNeg ≤ ms := by have := hm_.1; have := hm_.slots; have := sg_S_new σ 12 (240 : Int32).toNatClampNeg; have : sg_N (new_C σ 12 (240 : Int32).toNatClampNeg) = sg_N σ + 1 := rfl; have : ce_ 12 (240 : Int32).toNatClampNeg = (240 : Int32).toNatClampNeg := rfl; have := (show k_ + sg_N r ≤ mc + sg_N σ ∧ n_ + sg_S r ≤ ms + sg_S σ from hc); omega
    refine J_newa (at_ := .int) (kd := 12) (q := 10) C0 (by simp) wt_a_int dX12_init_8 rfl (by decide) (by decide) C1.room hk_.1 hk_.2 ?_
    have hc2 : (k_ + 1) + sg_N r ≤ mc + sg_N (new_C σ 12 (240 : Int32).toNatClampNeg) ∧ (n_ + (240 : Int32).toNatClampNeg) + sg_S r ≤ ms + sg_S (new_C σ 12 (240 : Int32).toNatClampNeg) := by have := sg_S_new σ 12 (240 : Int32).toNatClampNeg; have : sg_N (new_C σ 12 (240 : Int32).toNatClampNeg) = sg_N σ + 1 := rfl; have : ce_ 12 (240 : Int32).toNatClampNeg = (240 : Int32).toNatClampNeg := rfl; have := (show k_ + sg_N r ≤ mc + sg_N σ ∧ n_ + sg_S r ≤ ms + sg_S σ from hc); omega
    exact t_X12_init_B10 C1 hin    (some (sg_N σ)) (some a0) (new_C σ 12 (240 : Int32).toNatClampNeg) ((hT).new) ((hE).new) ((h0).new) (is_O.some (is_A.born σ 12 (240 : Int32).toNatClampNeg)) (is_O.some ((h0).new)) ((k_ + 1)) ((n_ + (240 : Int32).toNatClampNeg)) hc2 hf
  rw [hk0, hn0] at goal9
  exact goal9
def f_X11_init_B199 (N : Nat) (a0 : Nat) (k178 : Int32 → Sg → Option Sg) (v1 : Int32) (s0 : Option Nat) (s1 : Int32) (s2 : Option Nat) (σ : Sg) : Option Sg :=
  Option.bind (s2) fun b75 =>
  Option.bind (s0) fun b76 =>
  if (s1) < 0 ∨ sg_L σ b75 ≤ (s1).toNatClampNeg then none else
  k178 (v1 + 1) (put_R σ b75 (s1).toNatClampNeg (some b76))
def f_X11_init_B195 (N : Nat) (a0 : Nat) (k178 : Int32 → Sg → Option Sg) (v1 : Int32) (s0 : Option Nat) (s1 : Int32) (s2 : Option Nat) (σ : Sg) : Option Sg :=
  Option.bind (s0) fun b72 =>
  Option.bind (f_X0_init b72  σ) fun p73 =>
  f_X11_init_B199 N a0 k178 (v1) (s0) (s1) (s2) (p73)
def f_X11_init_L178 (N : Nat) (a0 : Nat) : Nat → Int32 → Sg → Option Sg
  | 0, _, _ => none
  | n + 1, v1, σ =>
  Option.bind (sg_R σ a0 18) fun b68 =>
  if (v1) < (Int32.ofNat (sg_L σ b68)) then
  (f_X11_init_B195 N a0 (f_X11_init_L178 N a0 n) (v1) (some (sg_N σ)) (v1) (sg_R σ a0 18) (new_C σ 0 0))
  else
  (some (σ))
def f_X11_init_B168 (N : Nat) (a0 : Nat) (s0 : Option Nat) (s1 : Option Nat) (σ : Sg) : Option Sg :=
  Option.bind (s1) fun b67 =>
  f_X11_init_L178 N a0 N (0) (put_J (put_R σ b67 18 (s0)) a0 19 (0))
def f_X11_init_B160 (N : Nat) (a0 : Nat) (s0 : Option Nat) (s1 : Option Nat) (σ : Sg) : Option Sg :=
  Option.bind (s1) fun b64 =>
  f_X11_init_B168 N a0 (some (sg_N (put_R σ b64 17 (s0)))) (some a0) (new_C (put_R σ b64 17 (s0)) 14 (4 : Int32).toNatClampNeg)
def f_X11_init_B156 (N : Nat) (a0 : Nat) (s0 : Option Nat) (s1 : Option Nat) (σ : Sg) : Option Sg :=
  Option.bind (s0) fun b61 =>
  Option.bind (f_X4_init b61  σ) fun p62 =>
  f_X11_init_B160 N a0 (s0) (s1) (p62)
def f_X11_init_B144 (N : Nat) (a0 : Nat) (s0 : Option Nat) (s1 : Option Nat) (σ : Sg) : Option Sg :=
  Option.bind (s1) fun b58 =>
  f_X11_init_B156 N a0 (some (sg_N (put_I (put_R σ b58 15 (s0)) a0 16 (0)))) (some a0) (new_C (put_I (put_R σ b58 15 (s0)) a0 16 (0)) 4 0)
def f_X11_init_B140 (N : Nat) (a0 : Nat) (s0 : Option Nat) (s1 : Option Nat) (σ : Sg) : Option Sg :=
  Option.bind (s0) fun b55 =>
  Option.bind (f_X7_init N b55  σ) fun p56 =>
  f_X11_init_B144 N a0 (s0) (s1) (p56)
def f_X11_init_B133 (N : Nat) (a0 : Nat) (s0 : Option Nat) (s1 : Option Nat) (σ : Sg) : Option Sg :=
  Option.bind (s1) fun b52 =>
  f_X11_init_B140 N a0 (some (sg_N (put_R σ b52 14 (s0)))) (some a0) (new_C (put_R σ b52 14 (s0)) 6 0)
def f_X11_init_B129 (N : Nat) (a0 : Nat) (s0 : Option Nat) (s1 : Option Nat) (σ : Sg) : Option Sg :=
  Option.bind (s0) fun b49 =>
  Option.bind (f_X5_init N b49  σ) fun p50 =>
  f_X11_init_B133 N a0 (s0) (s1) (p50)
def f_X11_init_B122 (N : Nat) (a0 : Nat) (s0 : Option Nat) (s1 : Option Nat) (σ : Sg) : Option Sg :=
  Option.bind (s1) fun b46 =>
  f_X11_init_B129 N a0 (some (sg_N (put_R σ b46 13 (s0)))) (some a0) (new_C (put_R σ b46 13 (s0)) 5 0)
def f_X11_init_B118 (N : Nat) (a0 : Nat) (s0 : Option Nat) (s1 : Option Nat) (σ : Sg) : Option Sg :=
  Option.bind (s0) fun b43 =>
  Option.bind (f_X7_init N b43  σ) fun p44 =>
  f_X11_init_B122 N a0 (s0) (s1) (p44)
def f_X11_init_B111 (N : Nat) (a0 : Nat) (s0 : Option Nat) (s1 : Option Nat) (σ : Sg) : Option Sg :=
  Option.bind (s1) fun b40 =>
  f_X11_init_B118 N a0 (some (sg_N (put_R σ b40 12 (s0)))) (some a0) (new_C (put_R σ b40 12 (s0)) 6 0)
def f_X11_init_B99 (N : Nat) (a0 : Nat) (s0 : Option Nat) (s1 : Option Nat) (σ : Sg) : Option Sg :=
  Option.bind (s1) fun b37 =>
  f_X11_init_B111 N a0 (some (sg_N (put_I (put_R σ b37 10 (s0)) a0 11 (3)))) (some a0) (new_C (put_I (put_R σ b37 10 (s0)) a0 11 (3)) 12 (5 : Int32).toNatClampNeg)
def f_X11_init_B91 (N : Nat) (a0 : Nat) (s0 : Option Nat) (s1 : Option Nat) (s2 : Option Nat) (s3 : Option Nat) (σ : Sg) : Option Sg :=
  Option.bind (s0) fun b32 =>
  if (0 : Int32) < 0 ∨ sg_L σ b32 ≤ (0 : Int32).toNatClampNeg then none else
  Option.bind (s1) fun b34 =>
  Option.bind (f_X8_init b34 (s0) (put_I σ b32 (0 : Int32).toNatClampNeg (26))) fun p35 =>
  f_X11_init_B99 N a0 (s2) (s3) (p35)
def f_X11_init_B87 (N : Nat) (a0 : Nat) (s0 : Option Nat) (s1 : Option Nat) (σ : Sg) : Option Sg :=
  f_X11_init_B91 N a0 (some (sg_N σ)) (s0) (s0) (s1) (new_C σ 12 (1 : Int32).toNatClampNeg)
def f_X11_init_B75 (N : Nat) (a0 : Nat) (s0 : Option Nat) (s1 : Option Nat) (σ : Sg) : Option Sg :=
  Option.bind (s1) fun b27 =>
  f_X11_init_B87 N a0 (some (sg_N (put_I (put_R σ b27 8 (s0)) a0 9 (0)))) (some a0) (new_C (put_I (put_R σ b27 8 (s0)) a0 9 (0)) 7 0)
def f_X11_init_B56 (N : Nat) (a0 : Nat) (s0 : Option Nat) (s1 : Option Nat) (σ : Sg) : Option Sg :=
  Option.bind (s1) fun b24 =>
  f_X11_init_B75 N a0 (some (sg_N (put_I (put_I (put_R σ b24 5 (s0)) a0 6 (0)) a0 7 ((-1))))) (some a0) (new_C (put_I (put_I (put_R σ b24 5 (s0)) a0 6 (0)) a0 7 ((-1))) 17 (6 : Int32).toNatClampNeg)
def f_X11_init_B48 (N : Nat) (a0 : Nat) (s0 : Option Nat) (s1 : Option Nat) (σ : Sg) : Option Sg :=
  Option.bind (s1) fun b21 =>
  f_X11_init_B56 N a0 (some (sg_N (put_R σ b21 4 (s0)))) (some a0) (new_C (put_R σ b21 4 (s0)) 15 (4 : Int32).toNatClampNeg)
def f_X11_init_B44 (N : Nat) (a0 : Nat) (s0 : Option Nat) (s1 : Option Nat) (σ : Sg) : Option Sg :=
  Option.bind (s0) fun b18 =>
  Option.bind (f_X9_init b18  σ) fun p19 =>
  f_X11_init_B48 N a0 (s0) (s1) (p19)
def f_X11_init_B37 (N : Nat) (a0 : Nat) (s0 : Option Nat) (s1 : Option Nat) (σ : Sg) : Option Sg :=
  Option.bind (s1) fun b15 =>
  f_X11_init_B44 N a0 (some (sg_N (put_R σ b15 3 (s0)))) (some a0) (new_C (put_R σ b15 3 (s0)) 8 0)
def f_X11_init_B33 (N : Nat) (a0 : Nat) (s0 : Option Nat) (s1 : Option Nat) (σ : Sg) : Option Sg :=
  Option.bind (s0) fun b12 =>
  Option.bind (f_X3_init b12  σ) fun p13 =>
  f_X11_init_B37 N a0 (s0) (s1) (p13)
def f_X11_init_B26 (N : Nat) (a0 : Nat) (s0 : Option Nat) (s1 : Option Nat) (σ : Sg) : Option Sg :=
  Option.bind (s1) fun b9 =>
  f_X11_init_B33 N a0 (some (sg_N (put_R σ b9 2 (s0)))) (some a0) (new_C (put_R σ b9 2 (s0)) 3 0)
def f_X11_init_B22 (N : Nat) (a0 : Nat) (s0 : Option Nat) (s1 : Option Nat) (σ : Sg) : Option Sg :=
  Option.bind (s0) fun b6 =>
  Option.bind (f_X1_init b6  σ) fun p7 =>
  f_X11_init_B26 N a0 (s0) (s1) (p7)
def f_X11_init_B10 (N : Nat) (a0 : Nat) (s0 : Option Nat) (s1 : Option Nat) (σ : Sg) : Option Sg :=
  Option.bind (s1) fun b3 =>
  f_X11_init_B22 N a0 (some (sg_N (put_I (put_R σ b3 0 (s0)) a0 1 (0)))) (some a0) (new_C (put_I (put_R σ b3 0 (s0)) a0 1 (0)) 1 0)
def f_X11_init (N : Nat) (a0 : Nat) (σ : Sg) : Option Sg :=
  f_X11_init_B10 N a0 (some (sg_N σ)) (some a0) (new_C σ 12 (240 : Int32).toNatClampNeg)
set_option maxHeartbeats 4000000 in
set_option maxRecDepth 100000 in
theorem e_X11_init_B199 {N : Nat} {a0 : Nat} {k178 : Int32 → Sg → Option Sg} {r : Sg} (hm178 : ∀ (v1 : Int32) (σ : Sg), k178 v1 σ = some r → sg_E σ r) {v1 : Int32} {s0 : Option Nat} {s1 : Int32} {s2 : Option Nat} {σ : Sg} (hf : f_X11_init_B199 N a0 k178  v1 s0 s1 s2 σ = some r) : sg_E σ r := by
  unfold f_X11_init_B199 at hf
  refine K_some hf (fun b75 hb75 hf => ?_)
  refine K_some hf (fun b76 hb76 hf => ?_)
  refine K_chk hf (fun c77 hf => ?_)
  exact ((sg_E.rf).putR).tr (hm178 (v1 + 1) (put_R σ b75 (s1).toNatClampNeg (some b76)) hf)
set_option maxHeartbeats 4000000 in
set_option maxRecDepth 100000 in
theorem e_X11_init_B195 {N : Nat} {a0 : Nat} {k178 : Int32 → Sg → Option Sg} {r : Sg} (hm178 : ∀ (v1 : Int32) (σ : Sg), k178 v1 σ = some r → sg_E σ r) {v1 : Int32} {s0 : Option Nat} {s1 : Int32} {s2 : Option Nat} {σ : Sg} (hf : f_X11_init_B195 N a0 k178  v1 s0 s1 s2 σ = some r) : sg_E σ r := by
  unfold f_X11_init_B195 at hf
  refine K_some hf (fun b72 hb72 hf => ?_)
  refine K_some hf (fun p73 hp73 hf => ?_)
  exact ((sg_E.rf).tr (e_X0_init hp73)).tr (e_X11_init_B199 hm178 hf)
set_option maxHeartbeats 4000000 in
set_option maxRecDepth 100000 in
theorem e_X11_init_L178 {N : Nat} {a0 : Nat} {r : Sg} : ∀ {n : Nat} {v1 : Int32} {σ : Sg}, f_X11_init_L178 N a0  n v1 σ = some r → sg_E σ r := by
  intro n
  induction n with
  | zero => intro v1 σ hf; unfold f_X11_init_L178 at hf; cases hf
  | succ n ih =>
    intro v1 σ hf
    rw [f_X11_init_L178] at hf
    refine K_some hf (fun b68 hb68 hf => ?_)
    refine K_ite hf (fun c_ hf => ?_) (fun c_ hf => ?_)
    · exact ((sg_E.rf).new).tr (e_X11_init_B195 (fun _ σ hf => ih hf) hf)
    · obtain rfl := Option.some.inj hf; exact sg_E.rf
set_option maxHeartbeats 4000000 in
set_option maxRecDepth 100000 in
theorem e_X11_init_B168 {N : Nat} {a0 : Nat} {r : Sg} {s0 : Option Nat} {s1 : Option Nat} {σ : Sg} (hf : f_X11_init_B168 N a0  s0 s1 σ = some r) : sg_E σ r := by
  unfold f_X11_init_B168 at hf
  refine K_some hf (fun b67 hb67 hf => ?_)
  exact (((sg_E.rf).putR).putJ).tr (e_X11_init_L178  hf)
set_option maxHeartbeats 4000000 in
set_option maxRecDepth 100000 in
theorem e_X11_init_B160 {N : Nat} {a0 : Nat} {r : Sg} {s0 : Option Nat} {s1 : Option Nat} {σ : Sg} (hf : f_X11_init_B160 N a0  s0 s1 σ = some r) : sg_E σ r := by
  unfold f_X11_init_B160 at hf
  refine K_some hf (fun b64 hb64 hf => ?_)
  exact (((sg_E.rf).putR).new).tr (e_X11_init_B168  hf)
set_option maxHeartbeats 4000000 in
set_option maxRecDepth 100000 in
theorem e_X11_init_B156 {N : Nat} {a0 : Nat} {r : Sg} {s0 : Option Nat} {s1 : Option Nat} {σ : Sg} (hf : f_X11_init_B156 N a0  s0 s1 σ = some r) : sg_E σ r := by
  unfold f_X11_init_B156 at hf
  refine K_some hf (fun b61 hb61 hf => ?_)
  refine K_some hf (fun p62 hp62 hf => ?_)
  exact ((sg_E.rf).tr (e_X4_init hp62)).tr (e_X11_init_B160  hf)
set_option maxHeartbeats 4000000 in
set_option maxRecDepth 100000 in
theorem e_X11_init_B144 {N : Nat} {a0 : Nat} {r : Sg} {s0 : Option Nat} {s1 : Option Nat} {σ : Sg} (hf : f_X11_init_B144 N a0  s0 s1 σ = some r) : sg_E σ r := by
  unfold f_X11_init_B144 at hf
  refine K_some hf (fun b58 hb58 hf => ?_)
  exact ((((sg_E.rf).putR).putI).new).tr (e_X11_init_B156  hf)
set_option maxHeartbeats 4000000 in
set_option maxRecDepth 100000 in
theorem e_X11_init_B140 {N : Nat} {a0 : Nat} {r : Sg} {s0 : Option Nat} {s1 : Option Nat} {σ : Sg} (hf : f_X11_init_B140 N a0  s0 s1 σ = some r) : sg_E σ r := by
  unfold f_X11_init_B140 at hf
  refine K_some hf (fun b55 hb55 hf => ?_)
  refine K_some hf (fun p56 hp56 hf => ?_)
  exact ((sg_E.rf).tr (e_X7_init hp56)).tr (e_X11_init_B144  hf)
set_option maxHeartbeats 4000000 in
set_option maxRecDepth 100000 in
theorem e_X11_init_B133 {N : Nat} {a0 : Nat} {r : Sg} {s0 : Option Nat} {s1 : Option Nat} {σ : Sg} (hf : f_X11_init_B133 N a0  s0 s1 σ = some r) : sg_E σ r := by
  unfold f_X11_init_B133 at hf
  refine K_some hf (fun b52 hb52 hf => ?_)
  exact (((sg_E.rf).putR).new).tr (e_X11_init_B140  hf)
set_option maxHeartbeats 4000000 in
set_option maxRecDepth 100000 in
theorem e_X11_init_B129 {N : Nat} {a0 : Nat} {r : Sg} {s0 : Option Nat} {s1 : Option Nat} {σ : Sg} (hf : f_X11_init_B129 N a0  s0 s1 σ = some r) : sg_E σ r := by
  unfold f_X11_init_B129 at hf
  refine K_some hf (fun b49 hb49 hf => ?_)
  refine K_some hf (fun p50 hp50 hf => ?_)
  exact ((sg_E.rf).tr (e_X5_init hp50)).tr (e_X11_init_B133  hf)
set_option maxHeartbeats 4000000 in
set_option maxRecDepth 100000 in
theorem e_X11_init_B122 {N : Nat} {a0 : Nat} {r : Sg} {s0 : Option Nat} {s1 : Option Nat} {σ : Sg} (hf : f_X11_init_B122 N a0  s0 s1 σ = some r) : sg_E σ r := by
  unfold f_X11_init_B122 at hf
  refine K_some hf (fun b46 hb46 hf => ?_)
  exact (((sg_E.rf).putR).new).tr (e_X11_init_B129  hf)
set_option maxHeartbeats 4000000 in
set_option maxRecDepth 100000 in
theorem e_X11_init_B118 {N : Nat} {a0 : Nat} {r : Sg} {s0 : Option Nat} {s1 : Option Nat} {σ : Sg} (hf : f_X11_init_B118 N a0  s0 s1 σ = some r) : sg_E σ r := by
  unfold f_X11_init_B118 at hf
  refine K_some hf (fun b43 hb43 hf => ?_)
  refine K_some hf (fun p44 hp44 hf => ?_)
  exact ((sg_E.rf).tr (e_X7_init hp44)).tr (e_X11_init_B122  hf)
set_option maxHeartbeats 4000000 in
set_option maxRecDepth 100000 in
theorem e_X11_init_B111 {N : Nat} {a0 : Nat} {r : Sg} {s0 : Option Nat} {s1 : Option Nat} {σ : Sg} (hf : f_X11_init_B111 N a0  s0 s1 σ = some r) : sg_E σ r := by
  unfold f_X11_init_B111 at hf
  refine K_some hf (fun b40 hb40 hf => ?_)
  exact (((sg_E.rf).putR).new).tr (e_X11_init_B118  hf)
set_option maxHeartbeats 4000000 in
set_option maxRecDepth 100000 in
theorem e_X11_init_B99 {N : Nat} {a0 : Nat} {r : Sg} {s0 : Option Nat} {s1 : Option Nat} {σ : Sg} (hf : f_X11_init_B99 N a0  s0 s1 σ = some r) : sg_E σ r := by
  unfold f_X11_init_B99 at hf
  refine K_some hf (fun b37 hb37 hf => ?_)
  exact ((((sg_E.rf).putR).putI).new).tr (e_X11_init_B111  hf)
set_option maxHeartbeats 4000000 in
set_option maxRecDepth 100000 in
theorem e_X11_init_B91 {N : Nat} {a0 : Nat} {r : Sg} {s0 : Option Nat} {s1 : Option Nat} {s2 : Option Nat} {s3 : Option Nat} {σ : Sg} (hf : f_X11_init_B91 N a0  s0 s1 s2 s3 σ = some r) : sg_E σ r := by
  unfold f_X11_init_B91 at hf
  refine K_some hf (fun b32 hb32 hf => ?_)
  refine K_chk hf (fun c33 hf => ?_)
  refine K_some hf (fun b34 hb34 hf => ?_)
  refine K_some hf (fun p35 hp35 hf => ?_)
  exact (((sg_E.rf).putI).tr (e_X8_init hp35)).tr (e_X11_init_B99  hf)
set_option maxHeartbeats 4000000 in
set_option maxRecDepth 100000 in
theorem e_X11_init_B87 {N : Nat} {a0 : Nat} {r : Sg} {s0 : Option Nat} {s1 : Option Nat} {σ : Sg} (hf : f_X11_init_B87 N a0  s0 s1 σ = some r) : sg_E σ r := by
  unfold f_X11_init_B87 at hf
  exact ((sg_E.rf).new).tr (e_X11_init_B91  hf)
set_option maxHeartbeats 4000000 in
set_option maxRecDepth 100000 in
theorem e_X11_init_B75 {N : Nat} {a0 : Nat} {r : Sg} {s0 : Option Nat} {s1 : Option Nat} {σ : Sg} (hf : f_X11_init_B75 N a0  s0 s1 σ = some r) : sg_E σ r := by
  unfold f_X11_init_B75 at hf
  refine K_some hf (fun b27 hb27 hf => ?_)
  exact ((((sg_E.rf).putR).putI).new).tr (e_X11_init_B87  hf)
set_option maxHeartbeats 4000000 in
set_option maxRecDepth 100000 in
theorem e_X11_init_B56 {N : Nat} {a0 : Nat} {r : Sg} {s0 : Option Nat} {s1 : Option Nat} {σ : Sg} (hf : f_X11_init_B56 N a0  s0 s1 σ = some r) : sg_E σ r := by
  unfold f_X11_init_B56 at hf
  refine K_some hf (fun b24 hb24 hf => ?_)
  exact (((((sg_E.rf).putR).putI).putI).new).tr (e_X11_init_B75  hf)
set_option maxHeartbeats 4000000 in
set_option maxRecDepth 100000 in
theorem e_X11_init_B48 {N : Nat} {a0 : Nat} {r : Sg} {s0 : Option Nat} {s1 : Option Nat} {σ : Sg} (hf : f_X11_init_B48 N a0  s0 s1 σ = some r) : sg_E σ r := by
  unfold f_X11_init_B48 at hf
  refine K_some hf (fun b21 hb21 hf => ?_)
  exact (((sg_E.rf).putR).new).tr (e_X11_init_B56  hf)
set_option maxHeartbeats 4000000 in
set_option maxRecDepth 100000 in
theorem e_X11_init_B44 {N : Nat} {a0 : Nat} {r : Sg} {s0 : Option Nat} {s1 : Option Nat} {σ : Sg} (hf : f_X11_init_B44 N a0  s0 s1 σ = some r) : sg_E σ r := by
  unfold f_X11_init_B44 at hf
  refine K_some hf (fun b18 hb18 hf => ?_)
  refine K_some hf (fun p19 hp19 hf => ?_)
  exact ((sg_E.rf).tr (e_X9_init hp19)).tr (e_X11_init_B48  hf)
set_option maxHeartbeats 4000000 in
set_option maxRecDepth 100000 in
theorem e_X11_init_B37 {N : Nat} {a0 : Nat} {r : Sg} {s0 : Option Nat} {s1 : Option Nat} {σ : Sg} (hf : f_X11_init_B37 N a0  s0 s1 σ = some r) : sg_E σ r := by
  unfold f_X11_init_B37 at hf
  refine K_some hf (fun b15 hb15 hf => ?_)
  exact (((sg_E.rf).putR).new).tr (e_X11_init_B44  hf)
set_option maxHeartbeats 4000000 in
set_option maxRecDepth 100000 in
theorem e_X11_init_B33 {N : Nat} {a0 : Nat} {r : Sg} {s0 : Option Nat} {s1 : Option Nat} {σ : Sg} (hf : f_X11_init_B33 N a0  s0 s1 σ = some r) : sg_E σ r := by
  unfold f_X11_init_B33 at hf
  refine K_some hf (fun b12 hb12 hf => ?_)
  refine K_some hf (fun p13 hp13 hf => ?_)
  exact ((sg_E.rf).tr (e_X3_init hp13)).tr (e_X11_init_B37  hf)
set_option maxHeartbeats 4000000 in
set_option maxRecDepth 100000 in
theorem e_X11_init_B26 {N : Nat} {a0 : Nat} {r : Sg} {s0 : Option Nat} {s1 : Option Nat} {σ : Sg} (hf : f_X11_init_B26 N a0  s0 s1 σ = some r) : sg_E σ r := by
  unfold f_X11_init_B26 at hf
  refine K_some hf (fun b9 hb9 hf => ?_)
  exact (((sg_E.rf).putR).new).tr (e_X11_init_B33  hf)
set_option maxHeartbeats 4000000 in
set_option maxRecDepth 100000 in
theorem e_X11_init_B22 {N : Nat} {a0 : Nat} {r : Sg} {s0 : Option Nat} {s1 : Option Nat} {σ : Sg} (hf : f_X11_init_B22 N a0  s0 s1 σ = some r) : sg_E σ r := by
  unfold f_X11_init_B22 at hf
  refine K_some hf (fun b6 hb6 hf => ?_)
  refine K_some hf (fun p7 hp7 hf => ?_)
  exact ((sg_E.rf).tr (e_X1_init hp7)).tr (e_X11_init_B26  hf)
set_option maxHeartbeats 4000000 in
set_option maxRecDepth 100000 in
theorem e_X11_init_B10 {N : Nat} {a0 : Nat} {r : Sg} {s0 : Option Nat} {s1 : Option Nat} {σ : Sg} (hf : f_X11_init_B10 N a0  s0 s1 σ = some r) : sg_E σ r := by
  unfold f_X11_init_B10 at hf
  refine K_some hf (fun b3 hb3 hf => ?_)
  exact ((((sg_E.rf).putR).putI).new).tr (e_X11_init_B22  hf)
set_option maxHeartbeats 4000000 in
set_option maxRecDepth 100000 in
theorem e_X11_init {N : Nat} {a0 : Nat} {σ : Sg} {r : Sg} (hf : f_X11_init N a0  σ = some r) : sg_E σ r := by
  unfold f_X11_init at hf
  exact ((sg_E.rf).new).tr (e_X11_init_B10  hf)
set_option maxHeartbeats 4000000 in
set_option maxRecDepth 100000 in
theorem t_X11_init_B199 {N : Nat} {a0 : Nat} {Γ : Gm} {σ0 : Sg} {r : Sg} {mc ms : Nat} (C1 : CM Γ cX11_init RX11 2 none 4 82 mc ms (fun r_ τ_ => (r_ = none) ∧ τ_ = r ∧ sg_T τ_ ∧ sg_E σ0 τ_)) (hin : Γ.2.2.2.2.2.2.2.2.1.name = "<init>") (k178 : Int32 → Sg → Option Sg) (hk178 : ∀ (v1 : Int32) (σ : Sg), sg_T σ → sg_E σ0 σ → is_A σ a0 10 → ∀ (k_ n_ : Nat), (k_ + sg_N r ≤ mc + sg_N σ ∧ n_ + sg_S r ≤ ms + sg_S σ) → k178 v1 σ = some r → J_ Γ 178 [(0, vr (some a0)), (1, vi v1)] [] σ k_ n_) (hm178 : ∀ (v1 : Int32) (σ : Sg), k178 v1 σ = some r → sg_E σ r) (v1 : Int32) (s0 : Option Nat) (s1 : Int32) (s2 : Option Nat) (σ : Sg) (hT : sg_T σ) (hE : sg_E σ0 σ) (h0 : is_A σ a0 10) (g_s0 : is_O σ s0 0) (g_s2 : is_O σ s2 14) (k_ n_ : Nat) (hc : (k_ + sg_N r ≤ mc + sg_N σ ∧ n_ + sg_S r ≤ ms + sg_S σ)) (hf : f_X11_init_B199 N a0 k178  v1 s0 s1 s2 σ = some r) : J_ Γ 199 [(0, vr (some a0)), (1, vi (v1))] [vr (s0), vi (s1), vr (s2)] σ k_ n_ := by
  have C0 := C1.1
  unfold f_X11_init_B199 at hf
  refine K_some hf (fun b75 hb75 hf => ?_)
  have ab75 : is_A σ b75 14 := (g_s2) b75 hb75
  refine K_some hf (fun b76 hb76 hf => ?_)
  have ab76 : is_A σ b76 0 := (g_s0) b76 hb76
  refine K_chk hf (fun c77 hf => ?_)
  refine J_aastN (kd := 14) (ci := 0) (q := 200) C0 hb75 (ab75) (by decide) hb76 (ab76) c77 dX11_init_199 rfl ?_
  refine J_iinc (q := 203) (v := v1 + 1) (lv' := [(1, vi (v1 + 1)), (0, vr (some a0))]) C0 1 rfl rfl (G_nl C1 (by decide)) dX11_init_200 rfl rfl ?_
  refine J_goto (q := 178) C0 dX11_init_203 (by decide) ?_
  refine J_sub (lv' := [(0, vr (some a0)), (1, vi (v1 + 1))]) [1, 0] rfl ?_
  exact hk178 (v1 + 1) (put_R σ b75 (s1).toNatClampNeg (some b76)) ((sg_T.putR hT (by rw [(ab75).2]; exact is_O.some (ab76)))) ((hE).putR)  ((h0).putR)  (k_) (n_) hc hf
set_option maxHeartbeats 4000000 in
set_option maxRecDepth 100000 in
theorem t_X11_init_B195 {N : Nat} {a0 : Nat} {Γ : Gm} {σ0 : Sg} {r : Sg} {mc ms : Nat} (C1 : CM Γ cX11_init RX11 2 none 4 82 mc ms (fun r_ τ_ => (r_ = none) ∧ τ_ = r ∧ sg_T τ_ ∧ sg_E σ0 τ_)) (hin : Γ.2.2.2.2.2.2.2.2.1.name = "<init>") (k178 : Int32 → Sg → Option Sg) (hk178 : ∀ (v1 : Int32) (σ : Sg), sg_T σ → sg_E σ0 σ → is_A σ a0 10 → ∀ (k_ n_ : Nat), (k_ + sg_N r ≤ mc + sg_N σ ∧ n_ + sg_S r ≤ ms + sg_S σ) → k178 v1 σ = some r → J_ Γ 178 [(0, vr (some a0)), (1, vi v1)] [] σ k_ n_) (hm178 : ∀ (v1 : Int32) (σ : Sg), k178 v1 σ = some r → sg_E σ r) (v1 : Int32) (s0 : Option Nat) (s1 : Int32) (s2 : Option Nat) (σ : Sg) (hT : sg_T σ) (hE : sg_E σ0 σ) (h0 : is_A σ a0 10) (g_s0 : is_O σ s0 0) (g_s2 : is_O σ s2 14) (k_ n_ : Nat) (hc : (k_ + sg_N r ≤ mc + sg_N σ ∧ n_ + sg_S r ≤ ms + sg_S σ)) (hf : f_X11_init_B195 N a0 k178  v1 s0 s1 s2 σ = some r) : J_ Γ 195 [(0, vr (some a0)), (1, vi (v1))] [vr (s0), vi (s1), vr (s2)] σ k_ n_ := by
  have C0 := C1.1
  unfold f_X11_init_B195 at hf
  refine J_dup (q := 196) C0 dX11_init_195 rfl rfl ?_
  refine K_some hf (fun b72 hb72 hf => ?_)
  have ab72 : is_A σ b72 0 := (g_s0) b72 hb72
  refine K_some hf (fun p73 hp73 hf => ?_)
  have hm_ := e_X11_init_B199 hm178 hf
  have he_ := e_X0_init hp73
  have hk_ : k_ + (sg_N p73 - sg_N σ) ≤ mc ∧ n_ + (sg_S p73 - sg_S σ) ≤ ms := by have := hm_.1; have := hm_.slots; have := he_.1; have := he_.slots; have := (show k_ + sg_N r ≤ mc + sg_N σ ∧ n_ + sg_S r ≤ ms + sg_S σ from hc); omega
  refine J_callIN (q := 199) (as := []) (rest := [vr (s0), vi (s1), vr (s2)]) C0 hb72 (t_X0_init b72  (hT) (ab72)  hp73 (mc := sg_N p73 - sg_N σ) (ms := sg_S p73 - sg_S σ) (by have h7 := e_X0_init hp73; have := h7.1; have := h7.slots; omega)) ml_X0_init lk_X11_110 im_X0_init rfl dX11_init_196 rfl rfl rfl (by simp [ac_]) C1.room (by decide) (by decide) hk_.1 hk_.2 (fun r_ τ_ hQ => ?_)
  obtain ⟨rfl, ht_, Tp73, Ep73⟩ := hQ; have ht_ := ht_.symm; subst ht_
  have hc74 : (k_ + (sg_N p73 - sg_N σ)) + sg_N r ≤ mc + sg_N p73 ∧ (n_ + (sg_S p73 - sg_S σ)) + sg_S r ≤ ms + sg_S p73 := by have := he_.1; have := he_.slots; have := (show k_ + sg_N r ≤ mc + sg_N σ ∧ n_ + sg_S r ≤ ms + sg_S σ from hc); omega
  show J_ Γ 199 [(0, vr (some a0)), (1, vi (v1))] [vr (s0), vi (s1), vr (s2)] p73 (k_ + (sg_N p73 - sg_N σ)) (n_ + (sg_S p73 - sg_S σ))
  exact t_X11_init_B199 C1 hin  k178  hk178 hm178  (v1) (s0) (s1) (s2) (p73) (Tp73) ((hE).tr Ep73) ((Ep73.at h0)) ((by rw [hb72]; exact is_O.some ((Ep73.at ab72)))) ((Ep73.op g_s2)) ((k_ + (sg_N p73 - sg_N σ))) ((n_ + (sg_S p73 - sg_S σ))) hc74 hf
set_option maxHeartbeats 4000000 in
set_option maxRecDepth 100000 in
theorem t_X11_init_L178 {N : Nat} {a0 : Nat} {Γ : Gm} {σ0 : Sg} {r : Sg} {mc ms : Nat} (C1 : CM Γ cX11_init RX11 2 none 4 82 mc ms (fun r_ τ_ => (r_ = none) ∧ τ_ = r ∧ sg_T τ_ ∧ sg_E σ0 τ_)) (hin : Γ.2.2.2.2.2.2.2.2.1.name = "<init>") : ∀ (n : Nat) (v1 : Int32) (σ : Sg), sg_T σ → sg_E σ0 σ → is_A σ a0 10 → ∀ (k_ n_ : Nat), (k_ + sg_N r ≤ mc + sg_N σ ∧ n_ + sg_S r ≤ ms + sg_S σ) → f_X11_init_L178 N a0  n v1 σ = some r → J_ Γ 178 [(0, vr (some a0)), (1, vi (v1))] [] σ k_ n_ := by
  have C0 := C1.1
  intro n
  induction n with
  | zero => intro v1 σ hT hE h0  k_ n_ hc hf; unfold f_X11_init_L178 at hf; cases hf
  | succ n ih =>
    intro v1 σ hT hE h0  k_ n_ hc hf
    rw [f_X11_init_L178] at hf
    refine J_iload_n (q := 179) C0 1 rfl rfl dX11_init_178 rfl ?_
    refine J_aload_n (q := 180) C0 0 rfl rfl dX11_init_179 rfl trivial ?_
    refine J_getR (q := 183) C0 fl_X11_102_10 rfl (h0) rfl dX11_init_180 rfl ?_
    refine K_some hf (fun b68 hb68 hf => ?_)
    have ab68 : is_A σ b68 14 := ((sg_T.op hT (j := 18) (h0) rfl)) b68 hb68
    refine J_alen (q := 184) C0 hb68 (ab68) (by decide) dX11_init_183 rfl ?_
    refine J_icmp_ge (t := 206) (q := 187) C0 dX11_init_184 (by decide) rfl hf (fun c69 hf => ?_) (fun c69 hf => ?_)
    · obtain rfl := Option.some.inj hf; exact J_vret C1 dX11_init_206 rfl (by have h9 : k_ + sg_N σ ≤ mc + sg_N σ ∧ n_ + sg_S σ ≤ ms + sg_S σ := hc; omega) (by have h9 : k_ + sg_N σ ≤ mc + sg_N σ ∧ n_ + sg_S σ ≤ ms + sg_S σ := hc; omega) ⟨rfl, rfl, hT, hE⟩
    · refine J_aload_n (q := 188) C0 0 rfl rfl dX11_init_187 rfl trivial ?_
      refine J_getR (q := 191) C0 fl_X11_102_10 rfl (h0) rfl dX11_init_188 rfl ?_
      refine J_iload_n (q := 192) C0 1 rfl rfl dX11_init_191 rfl ?_
      have hm_ := e_X11_init_B195 (fun _ σ hf => e_X11_init_L178 hf) hf
      have hk_ : k_ + 1 ≤ mc ∧ n_ + 10 ≤ ms := by have := hm_.1; have := hm_.slots; have := sg_S_new σ 0 0; have : sg_N (new_C σ 0 0) = sg_N σ + 1 := rfl; have : ce_ 0 0 = 10 := rfl; have := (show k_ + sg_N r ≤ mc + sg_N σ ∧ n_ + sg_S r ≤ ms + sg_S σ from hc); omega
      refine J_new (q := 195) C0 cl_X0 df_X0 kl_X11_100 in_X0 iz_X0 dX11_init_192 rfl C1.room hk_.1 hk_.2 ?_
      have hc71 : (k_ + 1) + sg_N r ≤ mc + sg_N (new_C σ 0 0) ∧ (n_ + 10) + sg_S r ≤ ms + sg_S (new_C σ 0 0) := by have := sg_S_new σ 0 0; have : sg_N (new_C σ 0 0) = sg_N σ + 1 := rfl; have : ce_ 0 0 = 10 := rfl; have := (show k_ + sg_N r ≤ mc + sg_N σ ∧ n_ + sg_S r ≤ ms + sg_S σ from hc); omega
      exact t_X11_init_B195 C1 hin  (f_X11_init_L178 N a0 n)  ih (fun _ σ hf => e_X11_init_L178 hf)  (v1) (some (sg_N σ)) (v1) (sg_R σ a0 18) (new_C σ 0 0) ((hT).new) ((hE).new) ((h0).new) (is_O.some (is_A.born σ 0 0)) ((by rw [hb68]; exact is_O.some ((ab68).new))) ((k_ + 1)) ((n_ + 10)) hc71 hf
set_option maxHeartbeats 4000000 in
set_option maxRecDepth 100000 in
theorem t_X11_init_B168 {N : Nat} {a0 : Nat} {Γ : Gm} {σ0 : Sg} {r : Sg} {mc ms : Nat} (C1 : CM Γ cX11_init RX11 2 none 4 82 mc ms (fun r_ τ_ => (r_ = none) ∧ τ_ = r ∧ sg_T τ_ ∧ sg_E σ0 τ_)) (hin : Γ.2.2.2.2.2.2.2.2.1.name = "<init>") (s0 : Option Nat) (s1 : Option Nat) (σ : Sg) (hT : sg_T σ) (hE : sg_E σ0 σ) (h0 : is_A σ a0 10) (g_s0 : is_O σ s0 14) (g_s1 : is_O σ s1 10) (k_ n_ : Nat) (hc : (k_ + sg_N r ≤ mc + sg_N σ ∧ n_ + sg_S r ≤ ms + sg_S σ)) (hf : f_X11_init_B168 N a0  s0 s1 σ = some r) : J_ Γ 168 [(0, vr (some a0))] [vr (s0), vr (s1)] σ k_ n_ := by
  have C0 := C1.1
  unfold f_X11_init_B168 at hf
  refine K_some hf (fun b67 hb67 hf => ?_)
  have ab67 : is_A σ b67 10 := (g_s1) b67 hb67
  refine J_putFR (q := 171) C0 hin rfl fl_X11_102_10 hb67 (ab67) rfl dX11_init_168 rfl ?_
  refine J_aload_n (q := 172) C0 0 rfl rfl dX11_init_171 rfl trivial ?_
  refine J_lconst (q := 173) (v := 0) C0 dX11_init_172 rfl rfl ?_
  refine J_putJ (q := 176) C0 fl_X11_106_10 rfl ((h0).putR) rfl dX11_init_173 rfl ?_
  refine J_iconst (q := 177) (v := 0) C0 dX11_init_176 rfl rfl ?_
  refine J_istore_n (q := 178) (lv' := [(1, vi (0)), (0, vr (some a0))]) C0 rfl (G_nl C1 (by decide)) dX11_init_177 rfl rfl ?_
  refine J_sub (lv' := [(0, vr (some a0)), (1, vi (0))]) [1, 0] rfl ?_
  exact t_X11_init_L178 C1 hin    N (0) (put_J (put_R σ b67 18 (s0)) a0 19 (0)) (((sg_T.putR hT (by rw [(ab67).2]; exact g_s0))).putJ) (((hE).putR).putJ) (((h0).putR).putJ)  (k_) (n_) hc hf
set_option maxHeartbeats 4000000 in
set_option maxRecDepth 100000 in
theorem t_X11_init_B160 {N : Nat} {a0 : Nat} {Γ : Gm} {σ0 : Sg} {r : Sg} {mc ms : Nat} (C1 : CM Γ cX11_init RX11 2 none 4 82 mc ms (fun r_ τ_ => (r_ = none) ∧ τ_ = r ∧ sg_T τ_ ∧ sg_E σ0 τ_)) (hin : Γ.2.2.2.2.2.2.2.2.1.name = "<init>") (s0 : Option Nat) (s1 : Option Nat) (σ : Sg) (hT : sg_T σ) (hE : sg_E σ0 σ) (h0 : is_A σ a0 10) (g_s0 : is_O σ s0 4) (g_s1 : is_O σ s1 10) (k_ n_ : Nat) (hc : (k_ + sg_N r ≤ mc + sg_N σ ∧ n_ + sg_S r ≤ ms + sg_S σ)) (hf : f_X11_init_B160 N a0  s0 s1 σ = some r) : J_ Γ 160 [(0, vr (some a0))] [vr (s0), vr (s1)] σ k_ n_ := by
  have C0 := C1.1
  unfold f_X11_init_B160 at hf
  refine K_some hf (fun b64 hb64 hf => ?_)
  have ab64 : is_A σ b64 10 := (g_s1) b64 hb64
  refine J_putFR (q := 163) C0 hin rfl fl_X11_96_10 hb64 (ab64) rfl dX11_init_160 rfl ?_
  refine J_aload_n (q := 164) C0 0 rfl rfl dX11_init_163 rfl trivial ?_
  refine J_iconst (q := 165) (v := 4) C0 dX11_init_164 rfl rfl ?_
  have hm_ := e_X11_init_B168  hf
  have hk_ : k_ + 1 ≤ mc ∧ n_ + (4 : Int32).toNatClampNeg ≤ ms := by have := hm_.1; have := hm_.slots; have := sg_S_new (put_R σ b64 17 (s0)) 14 (4 : Int32).toNatClampNeg; have : sg_N (new_C (put_R σ b64 17 (s0)) 14 (4 : Int32).toNatClampNeg) = sg_N (put_R σ b64 17 (s0)) + 1 := rfl; have : ce_ 14 (4 : Int32).toNatClampNeg = (4 : Int32).toNatClampNeg := rfl; have := (show k_ + sg_N r ≤ mc + sg_N (put_R σ b64 17 (s0)) ∧ n_ + sg_S r ≤ ms + sg_S (put_R σ b64 17 (s0)) from hc); omega
  refine J_newq (kd := 14) (q := 168) C0 (by decide) kl_X11_100 dX11_init_165 rfl (by decide) (by decide) C1.room hk_.1 hk_.2 ?_
  have hc66 : (k_ + 1) + sg_N r ≤ mc + sg_N (new_C (put_R σ b64 17 (s0)) 14 (4 : Int32).toNatClampNeg) ∧ (n_ + (4 : Int32).toNatClampNeg) + sg_S r ≤ ms + sg_S (new_C (put_R σ b64 17 (s0)) 14 (4 : Int32).toNatClampNeg) := by have := sg_S_new (put_R σ b64 17 (s0)) 14 (4 : Int32).toNatClampNeg; have : sg_N (new_C (put_R σ b64 17 (s0)) 14 (4 : Int32).toNatClampNeg) = sg_N (put_R σ b64 17 (s0)) + 1 := rfl; have : ce_ 14 (4 : Int32).toNatClampNeg = (4 : Int32).toNatClampNeg := rfl; have := (show k_ + sg_N r ≤ mc + sg_N (put_R σ b64 17 (s0)) ∧ n_ + sg_S r ≤ ms + sg_S (put_R σ b64 17 (s0)) from hc); omega
  exact t_X11_init_B168 C1 hin    (some (sg_N (put_R σ b64 17 (s0)))) (some a0) (new_C (put_R σ b64 17 (s0)) 14 (4 : Int32).toNatClampNeg) (((sg_T.putR hT (by rw [(ab64).2]; exact g_s0))).new) (((hE).putR).new) (((h0).putR).new) (is_O.some (is_A.born (put_R σ b64 17 (s0)) 14 (4 : Int32).toNatClampNeg)) (is_O.some (((h0).putR).new)) ((k_ + 1)) ((n_ + (4 : Int32).toNatClampNeg)) hc66 hf
set_option maxHeartbeats 4000000 in
set_option maxRecDepth 100000 in
theorem t_X11_init_B156 {N : Nat} {a0 : Nat} {Γ : Gm} {σ0 : Sg} {r : Sg} {mc ms : Nat} (C1 : CM Γ cX11_init RX11 2 none 4 82 mc ms (fun r_ τ_ => (r_ = none) ∧ τ_ = r ∧ sg_T τ_ ∧ sg_E σ0 τ_)) (hin : Γ.2.2.2.2.2.2.2.2.1.name = "<init>") (s0 : Option Nat) (s1 : Option Nat) (σ : Sg) (hT : sg_T σ) (hE : sg_E σ0 σ) (h0 : is_A σ a0 10) (g_s0 : is_O σ s0 4) (g_s1 : is_O σ s1 10) (k_ n_ : Nat) (hc : (k_ + sg_N r ≤ mc + sg_N σ ∧ n_ + sg_S r ≤ ms + sg_S σ)) (hf : f_X11_init_B156 N a0  s0 s1 σ = some r) : J_ Γ 156 [(0, vr (some a0))] [vr (s0), vr (s1)] σ k_ n_ := by
  have C0 := C1.1
  unfold f_X11_init_B156 at hf
  refine J_dup (q := 157) C0 dX11_init_156 rfl rfl ?_
  refine K_some hf (fun b61 hb61 hf => ?_)
  have ab61 : is_A σ b61 4 := (g_s0) b61 hb61
  refine K_some hf (fun p62 hp62 hf => ?_)
  have hm_ := e_X11_init_B160  hf
  have he_ := e_X4_init hp62
  have hk_ : k_ + (sg_N p62 - sg_N σ) ≤ mc ∧ n_ + (sg_S p62 - sg_S σ) ≤ ms := by have := hm_.1; have := hm_.slots; have := he_.1; have := he_.slots; have := (show k_ + sg_N r ≤ mc + sg_N σ ∧ n_ + sg_S r ≤ ms + sg_S σ from hc); omega
  refine J_callIN (q := 160) (as := []) (rest := [vr (s0), vr (s1)]) C0 hb61 (t_X4_init b61  (hT) (ab61)  hp62 (mc := sg_N p62 - sg_N σ) (ms := sg_S p62 - sg_S σ) (by have h7 := e_X4_init hp62; have := h7.1; have := h7.slots; omega)) ml_X4_init lk_X11_95 im_X4_init rfl dX11_init_157 rfl rfl rfl (by simp [ac_]) C1.room (by decide) (by decide) hk_.1 hk_.2 (fun r_ τ_ hQ => ?_)
  obtain ⟨rfl, ht_, Tp62, Ep62⟩ := hQ; have ht_ := ht_.symm; subst ht_
  have hc63 : (k_ + (sg_N p62 - sg_N σ)) + sg_N r ≤ mc + sg_N p62 ∧ (n_ + (sg_S p62 - sg_S σ)) + sg_S r ≤ ms + sg_S p62 := by have := he_.1; have := he_.slots; have := (show k_ + sg_N r ≤ mc + sg_N σ ∧ n_ + sg_S r ≤ ms + sg_S σ from hc); omega
  show J_ Γ 160 [(0, vr (some a0))] [vr (s0), vr (s1)] p62 (k_ + (sg_N p62 - sg_N σ)) (n_ + (sg_S p62 - sg_S σ))
  exact t_X11_init_B160 C1 hin    (s0) (s1) (p62) (Tp62) ((hE).tr Ep62) ((Ep62.at h0)) ((by rw [hb61]; exact is_O.some ((Ep62.at ab61)))) ((Ep62.op g_s1)) ((k_ + (sg_N p62 - sg_N σ))) ((n_ + (sg_S p62 - sg_S σ))) hc63 hf
set_option maxHeartbeats 4000000 in
set_option maxRecDepth 100000 in
theorem t_X11_init_B144 {N : Nat} {a0 : Nat} {Γ : Gm} {σ0 : Sg} {r : Sg} {mc ms : Nat} (C1 : CM Γ cX11_init RX11 2 none 4 82 mc ms (fun r_ τ_ => (r_ = none) ∧ τ_ = r ∧ sg_T τ_ ∧ sg_E σ0 τ_)) (hin : Γ.2.2.2.2.2.2.2.2.1.name = "<init>") (s0 : Option Nat) (s1 : Option Nat) (σ : Sg) (hT : sg_T σ) (hE : sg_E σ0 σ) (h0 : is_A σ a0 10) (g_s0 : is_O σ s0 6) (g_s1 : is_O σ s1 10) (k_ n_ : Nat) (hc : (k_ + sg_N r ≤ mc + sg_N σ ∧ n_ + sg_S r ≤ ms + sg_S σ)) (hf : f_X11_init_B144 N a0  s0 s1 σ = some r) : J_ Γ 144 [(0, vr (some a0))] [vr (s0), vr (s1)] σ k_ n_ := by
  have C0 := C1.1
  unfold f_X11_init_B144 at hf
  refine K_some hf (fun b58 hb58 hf => ?_)
  have ab58 : is_A σ b58 10 := (g_s1) b58 hb58
  refine J_putFR (q := 147) C0 hin rfl fl_X11_86_10 hb58 (ab58) rfl dX11_init_144 rfl ?_
  refine J_aload_n (q := 148) C0 0 rfl rfl dX11_init_147 rfl trivial ?_
  refine J_iconst (q := 149) (v := 0) C0 dX11_init_148 rfl rfl ?_
  refine J_putZ (q := 152) C0 (Or.inl rfl) fl_X11_89_10 rfl ((h0).putR) rfl dX11_init_149 rfl ?_
  refine J_aload_n (q := 153) C0 0 rfl rfl dX11_init_152 rfl trivial ?_
  have hm_ := e_X11_init_B156  hf
  have hk_ : k_ + 1 ≤ mc ∧ n_ + 7 ≤ ms := by have := hm_.1; have := hm_.slots; have := sg_S_new (put_I (put_R σ b58 15 (s0)) a0 16 (0)) 4 0; have : sg_N (new_C (put_I (put_R σ b58 15 (s0)) a0 16 (0)) 4 0) = sg_N (put_I (put_R σ b58 15 (s0)) a0 16 (0)) + 1 := rfl; have : ce_ 4 0 = 7 := rfl; have := (show k_ + sg_N r ≤ mc + sg_N (put_I (put_R σ b58 15 (s0)) a0 16 (0)) ∧ n_ + sg_S r ≤ ms + sg_S (put_I (put_R σ b58 15 (s0)) a0 16 (0)) from hc); omega
  refine J_new (q := 156) C0 cl_X4 df_X4 kl_X11_93 in_X4 iz_X4 dX11_init_153 rfl C1.room hk_.1 hk_.2 ?_
  have hc60 : (k_ + 1) + sg_N r ≤ mc + sg_N (new_C (put_I (put_R σ b58 15 (s0)) a0 16 (0)) 4 0) ∧ (n_ + 7) + sg_S r ≤ ms + sg_S (new_C (put_I (put_R σ b58 15 (s0)) a0 16 (0)) 4 0) := by have := sg_S_new (put_I (put_R σ b58 15 (s0)) a0 16 (0)) 4 0; have : sg_N (new_C (put_I (put_R σ b58 15 (s0)) a0 16 (0)) 4 0) = sg_N (put_I (put_R σ b58 15 (s0)) a0 16 (0)) + 1 := rfl; have : ce_ 4 0 = 7 := rfl; have := (show k_ + sg_N r ≤ mc + sg_N (put_I (put_R σ b58 15 (s0)) a0 16 (0)) ∧ n_ + sg_S r ≤ ms + sg_S (put_I (put_R σ b58 15 (s0)) a0 16 (0)) from hc); omega
  exact t_X11_init_B156 C1 hin    (some (sg_N (put_I (put_R σ b58 15 (s0)) a0 16 (0)))) (some a0) (new_C (put_I (put_R σ b58 15 (s0)) a0 16 (0)) 4 0) ((((sg_T.putR hT (by rw [(ab58).2]; exact g_s0))).putI).new) ((((hE).putR).putI).new) ((((h0).putR).putI).new) (is_O.some (is_A.born (put_I (put_R σ b58 15 (s0)) a0 16 (0)) 4 0)) (is_O.some ((((h0).putR).putI).new)) ((k_ + 1)) ((n_ + 7)) hc60 hf
set_option maxHeartbeats 4000000 in
set_option maxRecDepth 100000 in
theorem t_X11_init_B140 {N : Nat} {a0 : Nat} {Γ : Gm} {σ0 : Sg} {r : Sg} {mc ms : Nat} (C1 : CM Γ cX11_init RX11 2 none 4 82 mc ms (fun r_ τ_ => (r_ = none) ∧ τ_ = r ∧ sg_T τ_ ∧ sg_E σ0 τ_)) (hin : Γ.2.2.2.2.2.2.2.2.1.name = "<init>") (s0 : Option Nat) (s1 : Option Nat) (σ : Sg) (hT : sg_T σ) (hE : sg_E σ0 σ) (h0 : is_A σ a0 10) (g_s0 : is_O σ s0 6) (g_s1 : is_O σ s1 10) (k_ n_ : Nat) (hc : (k_ + sg_N r ≤ mc + sg_N σ ∧ n_ + sg_S r ≤ ms + sg_S σ)) (hf : f_X11_init_B140 N a0  s0 s1 σ = some r) : J_ Γ 140 [(0, vr (some a0))] [vr (s0), vr (s1)] σ k_ n_ := by
  have C0 := C1.1
  unfold f_X11_init_B140 at hf
  refine J_dup (q := 141) C0 dX11_init_140 rfl rfl ?_
  refine K_some hf (fun b55 hb55 hf => ?_)
  have ab55 : is_A σ b55 6 := (g_s0) b55 hb55
  refine K_some hf (fun p56 hp56 hf => ?_)
  have hm_ := e_X11_init_B144  hf
  have he_ := e_X7_init hp56
  have hk_ : k_ + (sg_N p56 - sg_N σ) ≤ mc ∧ n_ + (sg_S p56 - sg_S σ) ≤ ms := by have := hm_.1; have := hm_.slots; have := he_.1; have := he_.slots; have := (show k_ + sg_N r ≤ mc + sg_N σ ∧ n_ + sg_S r ≤ ms + sg_S σ from hc); omega
  refine J_callI (q := 144) (as := []) (rest := [vr (s0), vr (s1)]) C0 hb55 (t_X7_init N b55  (hT) (ab55)  hp56 (mc := sg_N p56 - sg_N σ) (ms := sg_S p56 - sg_S σ) (by have h7 := e_X7_init hp56; have := h7.1; have := h7.slots; omega)) ml_X7_init lk_X11_74 im_X7_init rfl dX11_init_141 rfl rfl rfl (by simp [ac_]) C1.room (by decide) (by decide) hk_.1 hk_.2 (fun r_ τ_ hQ => ?_)
  obtain ⟨rfl, ht_, Tp56, Ep56⟩ := hQ; have ht_ := ht_.symm; subst ht_
  have hc57 : (k_ + (sg_N p56 - sg_N σ)) + sg_N r ≤ mc + sg_N p56 ∧ (n_ + (sg_S p56 - sg_S σ)) + sg_S r ≤ ms + sg_S p56 := by have := he_.1; have := he_.slots; have := (show k_ + sg_N r ≤ mc + sg_N σ ∧ n_ + sg_S r ≤ ms + sg_S σ from hc); omega
  show J_ Γ 144 [(0, vr (some a0))] [vr (s0), vr (s1)] p56 (k_ + (sg_N p56 - sg_N σ)) (n_ + (sg_S p56 - sg_S σ))
  exact t_X11_init_B144 C1 hin    (s0) (s1) (p56) (Tp56) ((hE).tr Ep56) ((Ep56.at h0)) ((by rw [hb55]; exact is_O.some ((Ep56.at ab55)))) ((Ep56.op g_s1)) ((k_ + (sg_N p56 - sg_N σ))) ((n_ + (sg_S p56 - sg_S σ))) hc57 hf
set_option maxHeartbeats 4000000 in
set_option maxRecDepth 100000 in
theorem t_X11_init_B133 {N : Nat} {a0 : Nat} {Γ : Gm} {σ0 : Sg} {r : Sg} {mc ms : Nat} (C1 : CM Γ cX11_init RX11 2 none 4 82 mc ms (fun r_ τ_ => (r_ = none) ∧ τ_ = r ∧ sg_T τ_ ∧ sg_E σ0 τ_)) (hin : Γ.2.2.2.2.2.2.2.2.1.name = "<init>") (s0 : Option Nat) (s1 : Option Nat) (σ : Sg) (hT : sg_T σ) (hE : sg_E σ0 σ) (h0 : is_A σ a0 10) (g_s0 : is_O σ s0 5) (g_s1 : is_O σ s1 10) (k_ n_ : Nat) (hc : (k_ + sg_N r ≤ mc + sg_N σ ∧ n_ + sg_S r ≤ ms + sg_S σ)) (hf : f_X11_init_B133 N a0  s0 s1 σ = some r) : J_ Γ 133 [(0, vr (some a0))] [vr (s0), vr (s1)] σ k_ n_ := by
  have C0 := C1.1
  unfold f_X11_init_B133 at hf
  refine K_some hf (fun b52 hb52 hf => ?_)
  have ab52 : is_A σ b52 10 := (g_s1) b52 hb52
  refine J_putFR (q := 136) C0 hin rfl fl_X11_82_10 hb52 (ab52) rfl dX11_init_133 rfl ?_
  refine J_aload_n (q := 137) C0 0 rfl rfl dX11_init_136 rfl trivial ?_
  have hm_ := e_X11_init_B140  hf
  have hk_ : k_ + 1 ≤ mc ∧ n_ + 8 ≤ ms := by have := hm_.1; have := hm_.slots; have := sg_S_new (put_R σ b52 14 (s0)) 6 0; have : sg_N (new_C (put_R σ b52 14 (s0)) 6 0) = sg_N (put_R σ b52 14 (s0)) + 1 := rfl; have : ce_ 6 0 = 8 := rfl; have := (show k_ + sg_N r ≤ mc + sg_N (put_R σ b52 14 (s0)) ∧ n_ + sg_S r ≤ ms + sg_S (put_R σ b52 14 (s0)) from hc); omega
  refine J_new (q := 140) C0 cl_X7 df_X7 kl_X11_72 in_X7 iz_X7 dX11_init_137 rfl C1.room hk_.1 hk_.2 ?_
  have hc54 : (k_ + 1) + sg_N r ≤ mc + sg_N (new_C (put_R σ b52 14 (s0)) 6 0) ∧ (n_ + 8) + sg_S r ≤ ms + sg_S (new_C (put_R σ b52 14 (s0)) 6 0) := by have := sg_S_new (put_R σ b52 14 (s0)) 6 0; have : sg_N (new_C (put_R σ b52 14 (s0)) 6 0) = sg_N (put_R σ b52 14 (s0)) + 1 := rfl; have : ce_ 6 0 = 8 := rfl; have := (show k_ + sg_N r ≤ mc + sg_N (put_R σ b52 14 (s0)) ∧ n_ + sg_S r ≤ ms + sg_S (put_R σ b52 14 (s0)) from hc); omega
  exact t_X11_init_B140 C1 hin    (some (sg_N (put_R σ b52 14 (s0)))) (some a0) (new_C (put_R σ b52 14 (s0)) 6 0) (((sg_T.putR hT (by rw [(ab52).2]; exact g_s0))).new) (((hE).putR).new) (((h0).putR).new) (is_O.some (is_A.born (put_R σ b52 14 (s0)) 6 0)) (is_O.some (((h0).putR).new)) ((k_ + 1)) ((n_ + 8)) hc54 hf
set_option maxHeartbeats 4000000 in
set_option maxRecDepth 100000 in
theorem t_X11_init_B129 {N : Nat} {a0 : Nat} {Γ : Gm} {σ0 : Sg} {r : Sg} {mc ms : Nat} (C1 : CM Γ cX11_init RX11 2 none 4 82 mc ms (fun r_ τ_ => (r_ = none) ∧ τ_ = r ∧ sg_T τ_ ∧ sg_E σ0 τ_)) (hin : Γ.2.2.2.2.2.2.2.2.1.name = "<init>") (s0 : Option Nat) (s1 : Option Nat) (σ : Sg) (hT : sg_T σ) (hE : sg_E σ0 σ) (h0 : is_A σ a0 10) (g_s0 : is_O σ s0 5) (g_s1 : is_O σ s1 10) (k_ n_ : Nat) (hc : (k_ + sg_N r ≤ mc + sg_N σ ∧ n_ + sg_S r ≤ ms + sg_S σ)) (hf : f_X11_init_B129 N a0  s0 s1 σ = some r) : J_ Γ 129 [(0, vr (some a0))] [vr (s0), vr (s1)] σ k_ n_ := by
  have C0 := C1.1
  unfold f_X11_init_B129 at hf
  refine J_dup (q := 130) C0 dX11_init_129 rfl rfl ?_
  refine K_some hf (fun b49 hb49 hf => ?_)
  have ab49 : is_A σ b49 5 := (g_s0) b49 hb49
  refine K_some hf (fun p50 hp50 hf => ?_)
  have hm_ := e_X11_init_B133  hf
  have he_ := e_X5_init hp50
  have hk_ : k_ + (sg_N p50 - sg_N σ) ≤ mc ∧ n_ + (sg_S p50 - sg_S σ) ≤ ms := by have := hm_.1; have := hm_.slots; have := he_.1; have := he_.slots; have := (show k_ + sg_N r ≤ mc + sg_N σ ∧ n_ + sg_S r ≤ ms + sg_S σ from hc); omega
  refine J_callI (q := 133) (as := []) (rest := [vr (s0), vr (s1)]) C0 hb49 (t_X5_init N b49  (hT) (ab49)  hp50 (mc := sg_N p50 - sg_N σ) (ms := sg_S p50 - sg_S σ) (by have h7 := e_X5_init hp50; have := h7.1; have := h7.slots; omega)) ml_X5_init lk_X11_81 im_X5_init rfl dX11_init_130 rfl rfl rfl (by simp [ac_]) C1.room (by decide) (by decide) hk_.1 hk_.2 (fun r_ τ_ hQ => ?_)
  obtain ⟨rfl, ht_, Tp50, Ep50⟩ := hQ; have ht_ := ht_.symm; subst ht_
  have hc51 : (k_ + (sg_N p50 - sg_N σ)) + sg_N r ≤ mc + sg_N p50 ∧ (n_ + (sg_S p50 - sg_S σ)) + sg_S r ≤ ms + sg_S p50 := by have := he_.1; have := he_.slots; have := (show k_ + sg_N r ≤ mc + sg_N σ ∧ n_ + sg_S r ≤ ms + sg_S σ from hc); omega
  show J_ Γ 133 [(0, vr (some a0))] [vr (s0), vr (s1)] p50 (k_ + (sg_N p50 - sg_N σ)) (n_ + (sg_S p50 - sg_S σ))
  exact t_X11_init_B133 C1 hin    (s0) (s1) (p50) (Tp50) ((hE).tr Ep50) ((Ep50.at h0)) ((by rw [hb49]; exact is_O.some ((Ep50.at ab49)))) ((Ep50.op g_s1)) ((k_ + (sg_N p50 - sg_N σ))) ((n_ + (sg_S p50 - sg_S σ))) hc51 hf
set_option maxHeartbeats 4000000 in
set_option maxRecDepth 100000 in
theorem t_X11_init_B122 {N : Nat} {a0 : Nat} {Γ : Gm} {σ0 : Sg} {r : Sg} {mc ms : Nat} (C1 : CM Γ cX11_init RX11 2 none 4 82 mc ms (fun r_ τ_ => (r_ = none) ∧ τ_ = r ∧ sg_T τ_ ∧ sg_E σ0 τ_)) (hin : Γ.2.2.2.2.2.2.2.2.1.name = "<init>") (s0 : Option Nat) (s1 : Option Nat) (σ : Sg) (hT : sg_T σ) (hE : sg_E σ0 σ) (h0 : is_A σ a0 10) (g_s0 : is_O σ s0 6) (g_s1 : is_O σ s1 10) (k_ n_ : Nat) (hc : (k_ + sg_N r ≤ mc + sg_N σ ∧ n_ + sg_S r ≤ ms + sg_S σ)) (hf : f_X11_init_B122 N a0  s0 s1 σ = some r) : J_ Γ 122 [(0, vr (some a0))] [vr (s0), vr (s1)] σ k_ n_ := by
  have C0 := C1.1
  unfold f_X11_init_B122 at hf
  refine K_some hf (fun b46 hb46 hf => ?_)
  have ab46 : is_A σ b46 10 := (g_s1) b46 hb46
  refine J_putFR (q := 125) C0 hin rfl fl_X11_75_10 hb46 (ab46) rfl dX11_init_122 rfl ?_
  refine J_aload_n (q := 126) C0 0 rfl rfl dX11_init_125 rfl trivial ?_
  have hm_ := e_X11_init_B129  hf
  have hk_ : k_ + 1 ≤ mc ∧ n_ + 3 ≤ ms := by have := hm_.1; have := hm_.slots; have := sg_S_new (put_R σ b46 13 (s0)) 5 0; have : sg_N (new_C (put_R σ b46 13 (s0)) 5 0) = sg_N (put_R σ b46 13 (s0)) + 1 := rfl; have : ce_ 5 0 = 3 := rfl; have := (show k_ + sg_N r ≤ mc + sg_N (put_R σ b46 13 (s0)) ∧ n_ + sg_S r ≤ ms + sg_S (put_R σ b46 13 (s0)) from hc); omega
  refine J_new (q := 129) C0 cl_X5 df_X5 kl_X11_79 in_X5 iz_X5 dX11_init_126 rfl C1.room hk_.1 hk_.2 ?_
  have hc48 : (k_ + 1) + sg_N r ≤ mc + sg_N (new_C (put_R σ b46 13 (s0)) 5 0) ∧ (n_ + 3) + sg_S r ≤ ms + sg_S (new_C (put_R σ b46 13 (s0)) 5 0) := by have := sg_S_new (put_R σ b46 13 (s0)) 5 0; have : sg_N (new_C (put_R σ b46 13 (s0)) 5 0) = sg_N (put_R σ b46 13 (s0)) + 1 := rfl; have : ce_ 5 0 = 3 := rfl; have := (show k_ + sg_N r ≤ mc + sg_N (put_R σ b46 13 (s0)) ∧ n_ + sg_S r ≤ ms + sg_S (put_R σ b46 13 (s0)) from hc); omega
  exact t_X11_init_B129 C1 hin    (some (sg_N (put_R σ b46 13 (s0)))) (some a0) (new_C (put_R σ b46 13 (s0)) 5 0) (((sg_T.putR hT (by rw [(ab46).2]; exact g_s0))).new) (((hE).putR).new) (((h0).putR).new) (is_O.some (is_A.born (put_R σ b46 13 (s0)) 5 0)) (is_O.some (((h0).putR).new)) ((k_ + 1)) ((n_ + 3)) hc48 hf
set_option maxHeartbeats 4000000 in
set_option maxRecDepth 100000 in
theorem t_X11_init_B118 {N : Nat} {a0 : Nat} {Γ : Gm} {σ0 : Sg} {r : Sg} {mc ms : Nat} (C1 : CM Γ cX11_init RX11 2 none 4 82 mc ms (fun r_ τ_ => (r_ = none) ∧ τ_ = r ∧ sg_T τ_ ∧ sg_E σ0 τ_)) (hin : Γ.2.2.2.2.2.2.2.2.1.name = "<init>") (s0 : Option Nat) (s1 : Option Nat) (σ : Sg) (hT : sg_T σ) (hE : sg_E σ0 σ) (h0 : is_A σ a0 10) (g_s0 : is_O σ s0 6) (g_s1 : is_O σ s1 10) (k_ n_ : Nat) (hc : (k_ + sg_N r ≤ mc + sg_N σ ∧ n_ + sg_S r ≤ ms + sg_S σ)) (hf : f_X11_init_B118 N a0  s0 s1 σ = some r) : J_ Γ 118 [(0, vr (some a0))] [vr (s0), vr (s1)] σ k_ n_ := by
  have C0 := C1.1
  unfold f_X11_init_B118 at hf
  refine J_dup (q := 119) C0 dX11_init_118 rfl rfl ?_
  refine K_some hf (fun b43 hb43 hf => ?_)
  have ab43 : is_A σ b43 6 := (g_s0) b43 hb43
  refine K_some hf (fun p44 hp44 hf => ?_)
  have hm_ := e_X11_init_B122  hf
  have he_ := e_X7_init hp44
  have hk_ : k_ + (sg_N p44 - sg_N σ) ≤ mc ∧ n_ + (sg_S p44 - sg_S σ) ≤ ms := by have := hm_.1; have := hm_.slots; have := he_.1; have := he_.slots; have := (show k_ + sg_N r ≤ mc + sg_N σ ∧ n_ + sg_S r ≤ ms + sg_S σ from hc); omega
  refine J_callI (q := 122) (as := []) (rest := [vr (s0), vr (s1)]) C0 hb43 (t_X7_init N b43  (hT) (ab43)  hp44 (mc := sg_N p44 - sg_N σ) (ms := sg_S p44 - sg_S σ) (by have h7 := e_X7_init hp44; have := h7.1; have := h7.slots; omega)) ml_X7_init lk_X11_74 im_X7_init rfl dX11_init_119 rfl rfl rfl (by simp [ac_]) C1.room (by decide) (by decide) hk_.1 hk_.2 (fun r_ τ_ hQ => ?_)
  obtain ⟨rfl, ht_, Tp44, Ep44⟩ := hQ; have ht_ := ht_.symm; subst ht_
  have hc45 : (k_ + (sg_N p44 - sg_N σ)) + sg_N r ≤ mc + sg_N p44 ∧ (n_ + (sg_S p44 - sg_S σ)) + sg_S r ≤ ms + sg_S p44 := by have := he_.1; have := he_.slots; have := (show k_ + sg_N r ≤ mc + sg_N σ ∧ n_ + sg_S r ≤ ms + sg_S σ from hc); omega
  show J_ Γ 122 [(0, vr (some a0))] [vr (s0), vr (s1)] p44 (k_ + (sg_N p44 - sg_N σ)) (n_ + (sg_S p44 - sg_S σ))
  exact t_X11_init_B122 C1 hin    (s0) (s1) (p44) (Tp44) ((hE).tr Ep44) ((Ep44.at h0)) ((by rw [hb43]; exact is_O.some ((Ep44.at ab43)))) ((Ep44.op g_s1)) ((k_ + (sg_N p44 - sg_N σ))) ((n_ + (sg_S p44 - sg_S σ))) hc45 hf
set_option maxHeartbeats 4000000 in
set_option maxRecDepth 100000 in
theorem t_X11_init_B111 {N : Nat} {a0 : Nat} {Γ : Gm} {σ0 : Sg} {r : Sg} {mc ms : Nat} (C1 : CM Γ cX11_init RX11 2 none 4 82 mc ms (fun r_ τ_ => (r_ = none) ∧ τ_ = r ∧ sg_T τ_ ∧ sg_E σ0 τ_)) (hin : Γ.2.2.2.2.2.2.2.2.1.name = "<init>") (s0 : Option Nat) (s1 : Option Nat) (σ : Sg) (hT : sg_T σ) (hE : sg_E σ0 σ) (h0 : is_A σ a0 10) (g_s0 : is_O σ s0 12) (g_s1 : is_O σ s1 10) (k_ n_ : Nat) (hc : (k_ + sg_N r ≤ mc + sg_N σ ∧ n_ + sg_S r ≤ ms + sg_S σ)) (hf : f_X11_init_B111 N a0  s0 s1 σ = some r) : J_ Γ 111 [(0, vr (some a0))] [vr (s0), vr (s1)] σ k_ n_ := by
  have C0 := C1.1
  unfold f_X11_init_B111 at hf
  refine K_some hf (fun b40 hb40 hf => ?_)
  have ab40 : is_A σ b40 10 := (g_s1) b40 hb40
  refine J_putFR (q := 114) C0 hin rfl fl_X11_69_10 hb40 (ab40) rfl dX11_init_111 rfl ?_
  refine J_aload_n (q := 115) C0 0 rfl rfl dX11_init_114 rfl trivial ?_
  have hm_ := e_X11_init_B118  hf
  have hk_ : k_ + 1 ≤ mc ∧ n_ + 8 ≤ ms := by have := hm_.1; have := hm_.slots; have := sg_S_new (put_R σ b40 12 (s0)) 6 0; have : sg_N (new_C (put_R σ b40 12 (s0)) 6 0) = sg_N (put_R σ b40 12 (s0)) + 1 := rfl; have : ce_ 6 0 = 8 := rfl; have := (show k_ + sg_N r ≤ mc + sg_N (put_R σ b40 12 (s0)) ∧ n_ + sg_S r ≤ ms + sg_S (put_R σ b40 12 (s0)) from hc); omega
  refine J_new (q := 118) C0 cl_X7 df_X7 kl_X11_72 in_X7 iz_X7 dX11_init_115 rfl C1.room hk_.1 hk_.2 ?_
  have hc42 : (k_ + 1) + sg_N r ≤ mc + sg_N (new_C (put_R σ b40 12 (s0)) 6 0) ∧ (n_ + 8) + sg_S r ≤ ms + sg_S (new_C (put_R σ b40 12 (s0)) 6 0) := by have := sg_S_new (put_R σ b40 12 (s0)) 6 0; have : sg_N (new_C (put_R σ b40 12 (s0)) 6 0) = sg_N (put_R σ b40 12 (s0)) + 1 := rfl; have : ce_ 6 0 = 8 := rfl; have := (show k_ + sg_N r ≤ mc + sg_N (put_R σ b40 12 (s0)) ∧ n_ + sg_S r ≤ ms + sg_S (put_R σ b40 12 (s0)) from hc); omega
  exact t_X11_init_B118 C1 hin    (some (sg_N (put_R σ b40 12 (s0)))) (some a0) (new_C (put_R σ b40 12 (s0)) 6 0) (((sg_T.putR hT (by rw [(ab40).2]; exact g_s0))).new) (((hE).putR).new) (((h0).putR).new) (is_O.some (is_A.born (put_R σ b40 12 (s0)) 6 0)) (is_O.some (((h0).putR).new)) ((k_ + 1)) ((n_ + 8)) hc42 hf
set_option maxHeartbeats 4000000 in
set_option maxRecDepth 100000 in
theorem t_X11_init_B99 {N : Nat} {a0 : Nat} {Γ : Gm} {σ0 : Sg} {r : Sg} {mc ms : Nat} (C1 : CM Γ cX11_init RX11 2 none 4 82 mc ms (fun r_ τ_ => (r_ = none) ∧ τ_ = r ∧ sg_T τ_ ∧ sg_E σ0 τ_)) (hin : Γ.2.2.2.2.2.2.2.2.1.name = "<init>") (s0 : Option Nat) (s1 : Option Nat) (σ : Sg) (hT : sg_T σ) (hE : sg_E σ0 σ) (h0 : is_A σ a0 10) (g_s0 : is_O σ s0 7) (g_s1 : is_O σ s1 10) (k_ n_ : Nat) (hc : (k_ + sg_N r ≤ mc + sg_N σ ∧ n_ + sg_S r ≤ ms + sg_S σ)) (hf : f_X11_init_B99 N a0  s0 s1 σ = some r) : J_ Γ 99 [(0, vr (some a0))] [vr (s0), vr (s1)] σ k_ n_ := by
  have C0 := C1.1
  unfold f_X11_init_B99 at hf
  refine K_some hf (fun b37 hb37 hf => ?_)
  have ab37 : is_A σ b37 10 := (g_s1) b37 hb37
  refine J_putFR (q := 102) C0 hin rfl fl_X11_62_10 hb37 (ab37) rfl dX11_init_99 rfl ?_
  refine J_aload_n (q := 103) C0 0 rfl rfl dX11_init_102 rfl trivial ?_
  refine J_iconst (q := 104) (v := 3) C0 dX11_init_103 rfl rfl ?_
  refine J_putI (q := 107) C0 fl_X11_66_10 rfl ((h0).putR) rfl dX11_init_104 rfl ?_
  refine J_aload_n (q := 108) C0 0 rfl rfl dX11_init_107 rfl trivial ?_
  refine J_iconst (q := 109) (v := 5) C0 dX11_init_108 rfl rfl ?_
  have hm_ := e_X11_init_B111  hf
  have hk_ : k_ + 1 ≤ mc ∧ n_ + (5 : Int32).toNatClampNeg ≤ ms := by have := hm_.1; have := hm_.slots; have := sg_S_new (put_I (put_R σ b37 10 (s0)) a0 11 (3)) 12 (5 : Int32).toNatClampNeg; have : sg_N (new_C (put_I (put_R σ b37 10 (s0)) a0 11 (3)) 12 (5 : Int32).toNatClampNeg) = sg_N (put_I (put_R σ b37 10 (s0)) a0 11 (3)) + 1 := rfl; have : ce_ 12 (5 : Int32).toNatClampNeg = (5 : Int32).toNatClampNeg := rfl; have := (show k_ + sg_N r ≤ mc + sg_N (put_I (put_R σ b37 10 (s0)) a0 11 (3)) ∧ n_ + sg_S r ≤ ms + sg_S (put_I (put_R σ b37 10 (s0)) a0 11 (3)) from hc); omega
  refine J_newa (at_ := .int) (kd := 12) (q := 111) C0 (by simp) wt_a_int dX11_init_109 rfl (by decide) (by decide) C1.room hk_.1 hk_.2 ?_
  have hc39 : (k_ + 1) + sg_N r ≤ mc + sg_N (new_C (put_I (put_R σ b37 10 (s0)) a0 11 (3)) 12 (5 : Int32).toNatClampNeg) ∧ (n_ + (5 : Int32).toNatClampNeg) + sg_S r ≤ ms + sg_S (new_C (put_I (put_R σ b37 10 (s0)) a0 11 (3)) 12 (5 : Int32).toNatClampNeg) := by have := sg_S_new (put_I (put_R σ b37 10 (s0)) a0 11 (3)) 12 (5 : Int32).toNatClampNeg; have : sg_N (new_C (put_I (put_R σ b37 10 (s0)) a0 11 (3)) 12 (5 : Int32).toNatClampNeg) = sg_N (put_I (put_R σ b37 10 (s0)) a0 11 (3)) + 1 := rfl; have : ce_ 12 (5 : Int32).toNatClampNeg = (5 : Int32).toNatClampNeg := rfl; have := (show k_ + sg_N r ≤ mc + sg_N (put_I (put_R σ b37 10 (s0)) a0 11 (3)) ∧ n_ + sg_S r ≤ ms + sg_S (put_I (put_R σ b37 10 (s0)) a0 11 (3)) from hc); omega
  exact t_X11_init_B111 C1 hin    (some (sg_N (put_I (put_R σ b37 10 (s0)) a0 11 (3)))) (some a0) (new_C (put_I (put_R σ b37 10 (s0)) a0 11 (3)) 12 (5 : Int32).toNatClampNeg) ((((sg_T.putR hT (by rw [(ab37).2]; exact g_s0))).putI).new) ((((hE).putR).putI).new) ((((h0).putR).putI).new) (is_O.some (is_A.born (put_I (put_R σ b37 10 (s0)) a0 11 (3)) 12 (5 : Int32).toNatClampNeg)) (is_O.some ((((h0).putR).putI).new)) ((k_ + 1)) ((n_ + (5 : Int32).toNatClampNeg)) hc39 hf
set_option maxHeartbeats 4000000 in
set_option maxRecDepth 100000 in
theorem t_X11_init_B91 {N : Nat} {a0 : Nat} {Γ : Gm} {σ0 : Sg} {r : Sg} {mc ms : Nat} (C1 : CM Γ cX11_init RX11 2 none 4 82 mc ms (fun r_ τ_ => (r_ = none) ∧ τ_ = r ∧ sg_T τ_ ∧ sg_E σ0 τ_)) (hin : Γ.2.2.2.2.2.2.2.2.1.name = "<init>") (s0 : Option Nat) (s1 : Option Nat) (s2 : Option Nat) (s3 : Option Nat) (σ : Sg) (hT : sg_T σ) (hE : sg_E σ0 σ) (h0 : is_A σ a0 10) (g_s0 : is_O σ s0 12) (g_s1 : is_O σ s1 7) (g_s2 : is_O σ s2 7) (g_s3 : is_O σ s3 10) (k_ n_ : Nat) (hc : (k_ + sg_N r ≤ mc + sg_N σ ∧ n_ + sg_S r ≤ ms + sg_S σ)) (hf : f_X11_init_B91 N a0  s0 s1 s2 s3 σ = some r) : J_ Γ 91 [(0, vr (some a0))] [vr (s0), vr (s1), vr (s2), vr (s3)] σ k_ n_ := by
  have C0 := C1.1
  unfold f_X11_init_B91 at hf
  refine J_dup (q := 92) C0 dX11_init_91 rfl rfl ?_
  refine J_iconst (q := 93) (v := 0) C0 dX11_init_92 rfl rfl ?_
  refine J_bipush (q := 95) (v := 26) C0 dX11_init_93 rfl rfl ?_
  refine K_some hf (fun b32 hb32 hf => ?_)
  have ab32 : is_A σ b32 12 := (g_s0) b32 hb32
  refine K_chk hf (fun c33 hf => ?_)
  refine J_iast (q := 96) C0 hb32 (ab32) c33 dX11_init_95 rfl ?_
  refine K_some hf (fun b34 hb34 hf => ?_)
  have ab34 : is_A (put_I σ b32 (0 : Int32).toNatClampNeg (26)) b34 7 := ((fun b_ h_ => (g_s1 b_ h_).putI)) b34 hb34
  refine K_some hf (fun p35 hp35 hf => ?_)
  have hm_ := e_X11_init_B99  hf
  have he_ := e_X8_init hp35
  have hk_ : k_ + (sg_N p35 - sg_N (put_I σ b32 (0 : Int32).toNatClampNeg (26))) ≤ mc ∧ n_ + (sg_S p35 - sg_S (put_I σ b32 (0 : Int32).toNatClampNeg (26))) ≤ ms := by have := hm_.1; have := hm_.slots; have := he_.1; have := he_.slots; have := (show k_ + sg_N r ≤ mc + sg_N (put_I σ b32 (0 : Int32).toNatClampNeg (26)) ∧ n_ + sg_S r ≤ ms + sg_S (put_I σ b32 (0 : Int32).toNatClampNeg (26)) from hc); omega
  refine J_callI (q := 99) (as := [vr (s0)]) (rest := [vr (s2), vr (s3)]) C0 hb34 (t_X8_init b34 (s0) ((hT).putI) (ab34) ((by rw [hb32]; exact is_O.some ((ab32).putI))) hp35 (mc := sg_N p35 - sg_N (put_I σ b32 (0 : Int32).toNatClampNeg (26))) (ms := sg_S p35 - sg_S (put_I σ b32 (0 : Int32).toNatClampNeg (26))) (by have h7 := e_X8_init hp35; have := h7.1; have := h7.slots; omega)) ml_X8_init lk_X11_59 im_X8_init rfl dX11_init_96 rfl rfl rfl (by simp [ac_]) C1.room (by decide) (by decide) hk_.1 hk_.2 (fun r_ τ_ hQ => ?_)
  obtain ⟨rfl, ht_, Tp35, Ep35⟩ := hQ; have ht_ := ht_.symm; subst ht_
  have hc36 : (k_ + (sg_N p35 - sg_N (put_I σ b32 (0 : Int32).toNatClampNeg (26)))) + sg_N r ≤ mc + sg_N p35 ∧ (n_ + (sg_S p35 - sg_S (put_I σ b32 (0 : Int32).toNatClampNeg (26)))) + sg_S r ≤ ms + sg_S p35 := by have := he_.1; have := he_.slots; have := (show k_ + sg_N r ≤ mc + sg_N (put_I σ b32 (0 : Int32).toNatClampNeg (26)) ∧ n_ + sg_S r ≤ ms + sg_S (put_I σ b32 (0 : Int32).toNatClampNeg (26)) from hc); omega
  show J_ Γ 99 [(0, vr (some a0))] [vr (s2), vr (s3)] p35 (k_ + (sg_N p35 - sg_N (put_I σ b32 (0 : Int32).toNatClampNeg (26)))) (n_ + (sg_S p35 - sg_S (put_I σ b32 (0 : Int32).toNatClampNeg (26))))
  exact t_X11_init_B99 C1 hin    (s2) (s3) (p35) (Tp35) (((hE).putI).tr Ep35) ((Ep35.at (h0).putI)) ((Ep35.op (fun b_ h_ => (g_s2 b_ h_).putI))) ((Ep35.op (fun b_ h_ => (g_s3 b_ h_).putI))) ((k_ + (sg_N p35 - sg_N (put_I σ b32 (0 : Int32).toNatClampNeg (26))))) ((n_ + (sg_S p35 - sg_S (put_I σ b32 (0 : Int32).toNatClampNeg (26))))) hc36 hf
set_option maxHeartbeats 4000000 in
set_option maxRecDepth 100000 in
theorem t_X11_init_B87 {N : Nat} {a0 : Nat} {Γ : Gm} {σ0 : Sg} {r : Sg} {mc ms : Nat} (C1 : CM Γ cX11_init RX11 2 none 4 82 mc ms (fun r_ τ_ => (r_ = none) ∧ τ_ = r ∧ sg_T τ_ ∧ sg_E σ0 τ_)) (hin : Γ.2.2.2.2.2.2.2.2.1.name = "<init>") (s0 : Option Nat) (s1 : Option Nat) (σ : Sg) (hT : sg_T σ) (hE : sg_E σ0 σ) (h0 : is_A σ a0 10) (g_s0 : is_O σ s0 7) (g_s1 : is_O σ s1 10) (k_ n_ : Nat) (hc : (k_ + sg_N r ≤ mc + sg_N σ ∧ n_ + sg_S r ≤ ms + sg_S σ)) (hf : f_X11_init_B87 N a0  s0 s1 σ = some r) : J_ Γ 87 [(0, vr (some a0))] [vr (s0), vr (s1)] σ k_ n_ := by
  have C0 := C1.1
  unfold f_X11_init_B87 at hf
  refine J_dup (q := 88) C0 dX11_init_87 rfl rfl ?_
  refine J_iconst (q := 89) (v := 1) C0 dX11_init_88 rfl rfl ?_
  have hm_ := e_X11_init_B91  hf
  have hk_ : k_ + 1 ≤ mc ∧ n_ + (1 : Int32).toNatClampNeg ≤ ms := by have := hm_.1; have := hm_.slots; have := sg_S_new σ 12 (1 : Int32).toNatClampNeg; have : sg_N (new_C σ 12 (1 : Int32).toNatClampNeg) = sg_N σ + 1 := rfl; have : ce_ 12 (1 : Int32).toNatClampNeg = (1 : Int32).toNatClampNeg := rfl; have := (show k_ + sg_N r ≤ mc + sg_N σ ∧ n_ + sg_S r ≤ ms + sg_S σ from hc); omega
  refine J_newa (at_ := .int) (kd := 12) (q := 91) C0 (by simp) wt_a_int dX11_init_89 rfl (by decide) (by decide) C1.room hk_.1 hk_.2 ?_
  have hc31 : (k_ + 1) + sg_N r ≤ mc + sg_N (new_C σ 12 (1 : Int32).toNatClampNeg) ∧ (n_ + (1 : Int32).toNatClampNeg) + sg_S r ≤ ms + sg_S (new_C σ 12 (1 : Int32).toNatClampNeg) := by have := sg_S_new σ 12 (1 : Int32).toNatClampNeg; have : sg_N (new_C σ 12 (1 : Int32).toNatClampNeg) = sg_N σ + 1 := rfl; have : ce_ 12 (1 : Int32).toNatClampNeg = (1 : Int32).toNatClampNeg := rfl; have := (show k_ + sg_N r ≤ mc + sg_N σ ∧ n_ + sg_S r ≤ ms + sg_S σ from hc); omega
  exact t_X11_init_B91 C1 hin    (some (sg_N σ)) (s0) (s0) (s1) (new_C σ 12 (1 : Int32).toNatClampNeg) ((hT).new) ((hE).new) ((h0).new) (is_O.some (is_A.born σ 12 (1 : Int32).toNatClampNeg)) ((fun b_ h_ => (g_s0 b_ h_).new)) ((fun b_ h_ => (g_s0 b_ h_).new)) ((fun b_ h_ => (g_s1 b_ h_).new)) ((k_ + 1)) ((n_ + (1 : Int32).toNatClampNeg)) hc31 hf
set_option maxHeartbeats 4000000 in
set_option maxRecDepth 100000 in
theorem t_X11_init_B75 {N : Nat} {a0 : Nat} {Γ : Gm} {σ0 : Sg} {r : Sg} {mc ms : Nat} (C1 : CM Γ cX11_init RX11 2 none 4 82 mc ms (fun r_ τ_ => (r_ = none) ∧ τ_ = r ∧ sg_T τ_ ∧ sg_E σ0 τ_)) (hin : Γ.2.2.2.2.2.2.2.2.1.name = "<init>") (s0 : Option Nat) (s1 : Option Nat) (σ : Sg) (hT : sg_T σ) (hE : sg_E σ0 σ) (h0 : is_A σ a0 10) (g_s0 : is_O σ s0 17) (g_s1 : is_O σ s1 10) (k_ n_ : Nat) (hc : (k_ + sg_N r ≤ mc + sg_N σ ∧ n_ + sg_S r ≤ ms + sg_S σ)) (hf : f_X11_init_B75 N a0  s0 s1 σ = some r) : J_ Γ 75 [(0, vr (some a0))] [vr (s0), vr (s1)] σ k_ n_ := by
  have C0 := C1.1
  unfold f_X11_init_B75 at hf
  refine K_some hf (fun b27 hb27 hf => ?_)
  have ab27 : is_A σ b27 10 := (g_s1) b27 hb27
  refine J_putFR (q := 78) C0 hin rfl fl_X11_52_10 hb27 (ab27) rfl dX11_init_75 rfl ?_
  refine J_aload_n (q := 79) C0 0 rfl rfl dX11_init_78 rfl trivial ?_
  refine J_iconst (q := 80) (v := 0) C0 dX11_init_79 rfl rfl ?_
  refine J_putI (q := 83) C0 fl_X11_56_10 rfl ((h0).putR) rfl dX11_init_80 rfl ?_
  refine J_aload_n (q := 84) C0 0 rfl rfl dX11_init_83 rfl trivial ?_
  have hm_ := e_X11_init_B87  hf
  have hk_ : k_ + 1 ≤ mc ∧ n_ + 1 ≤ ms := by have := hm_.1; have := hm_.slots; have := sg_S_new (put_I (put_R σ b27 8 (s0)) a0 9 (0)) 7 0; have : sg_N (new_C (put_I (put_R σ b27 8 (s0)) a0 9 (0)) 7 0) = sg_N (put_I (put_R σ b27 8 (s0)) a0 9 (0)) + 1 := rfl; have : ce_ 7 0 = 1 := rfl; have := (show k_ + sg_N r ≤ mc + sg_N (put_I (put_R σ b27 8 (s0)) a0 9 (0)) ∧ n_ + sg_S r ≤ ms + sg_S (put_I (put_R σ b27 8 (s0)) a0 9 (0)) from hc); omega
  refine J_new (q := 87) C0 cl_X8 df_X8 kl_X11_50 in_X8 iz_X8 dX11_init_84 rfl C1.room hk_.1 hk_.2 ?_
  have hc29 : (k_ + 1) + sg_N r ≤ mc + sg_N (new_C (put_I (put_R σ b27 8 (s0)) a0 9 (0)) 7 0) ∧ (n_ + 1) + sg_S r ≤ ms + sg_S (new_C (put_I (put_R σ b27 8 (s0)) a0 9 (0)) 7 0) := by have := sg_S_new (put_I (put_R σ b27 8 (s0)) a0 9 (0)) 7 0; have : sg_N (new_C (put_I (put_R σ b27 8 (s0)) a0 9 (0)) 7 0) = sg_N (put_I (put_R σ b27 8 (s0)) a0 9 (0)) + 1 := rfl; have : ce_ 7 0 = 1 := rfl; have := (show k_ + sg_N r ≤ mc + sg_N (put_I (put_R σ b27 8 (s0)) a0 9 (0)) ∧ n_ + sg_S r ≤ ms + sg_S (put_I (put_R σ b27 8 (s0)) a0 9 (0)) from hc); omega
  exact t_X11_init_B87 C1 hin    (some (sg_N (put_I (put_R σ b27 8 (s0)) a0 9 (0)))) (some a0) (new_C (put_I (put_R σ b27 8 (s0)) a0 9 (0)) 7 0) ((((sg_T.putR hT (by rw [(ab27).2]; exact g_s0))).putI).new) ((((hE).putR).putI).new) ((((h0).putR).putI).new) (is_O.some (is_A.born (put_I (put_R σ b27 8 (s0)) a0 9 (0)) 7 0)) (is_O.some ((((h0).putR).putI).new)) ((k_ + 1)) ((n_ + 1)) hc29 hf
set_option maxHeartbeats 4000000 in
set_option maxRecDepth 100000 in
theorem t_X11_init_B56 {N : Nat} {a0 : Nat} {Γ : Gm} {σ0 : Sg} {r : Sg} {mc ms : Nat} (C1 : CM Γ cX11_init RX11 2 none 4 82 mc ms (fun r_ τ_ => (r_ = none) ∧ τ_ = r ∧ sg_T τ_ ∧ sg_E σ0 τ_)) (hin : Γ.2.2.2.2.2.2.2.2.1.name = "<init>") (s0 : Option Nat) (s1 : Option Nat) (σ : Sg) (hT : sg_T σ) (hE : sg_E σ0 σ) (h0 : is_A σ a0 10) (g_s0 : is_O σ s0 15) (g_s1 : is_O σ s1 10) (k_ n_ : Nat) (hc : (k_ + sg_N r ≤ mc + sg_N σ ∧ n_ + sg_S r ≤ ms + sg_S σ)) (hf : f_X11_init_B56 N a0  s0 s1 σ = some r) : J_ Γ 56 [(0, vr (some a0))] [vr (s0), vr (s1)] σ k_ n_ := by
  have C0 := C1.1
  unfold f_X11_init_B56 at hf
  refine K_some hf (fun b24 hb24 hf => ?_)
  have ab24 : is_A σ b24 10 := (g_s1) b24 hb24
  refine J_putFR (q := 59) C0 hin rfl fl_X11_40_10 hb24 (ab24) rfl dX11_init_56 rfl ?_
  refine J_aload_n (q := 60) C0 0 rfl rfl dX11_init_59 rfl trivial ?_
  refine J_iconst (q := 61) (v := 0) C0 dX11_init_60 rfl rfl ?_
  refine J_putI (q := 64) C0 fl_X11_44_10 rfl ((h0).putR) rfl dX11_init_61 rfl ?_
  refine J_aload_n (q := 65) C0 0 rfl rfl dX11_init_64 rfl trivial ?_
  refine J_iconst (q := 66) (v := (-1)) C0 dX11_init_65 rfl rfl ?_
  refine J_putI (q := 69) C0 fl_X11_47_10 rfl (((h0).putR).putI) rfl dX11_init_66 rfl ?_
  refine J_aload_n (q := 70) C0 0 rfl rfl dX11_init_69 rfl trivial ?_
  refine J_bipush (q := 72) (v := 6) C0 dX11_init_70 rfl rfl ?_
  have hm_ := e_X11_init_B75  hf
  have hk_ : k_ + 1 ≤ mc ∧ n_ + (6 : Int32).toNatClampNeg ≤ ms := by have := hm_.1; have := hm_.slots; have := sg_S_new (put_I (put_I (put_R σ b24 5 (s0)) a0 6 (0)) a0 7 ((-1))) 17 (6 : Int32).toNatClampNeg; have : sg_N (new_C (put_I (put_I (put_R σ b24 5 (s0)) a0 6 (0)) a0 7 ((-1))) 17 (6 : Int32).toNatClampNeg) = sg_N (put_I (put_I (put_R σ b24 5 (s0)) a0 6 (0)) a0 7 ((-1))) + 1 := rfl; have : ce_ 17 (6 : Int32).toNatClampNeg = (6 : Int32).toNatClampNeg := rfl; have := (show k_ + sg_N r ≤ mc + sg_N (put_I (put_I (put_R σ b24 5 (s0)) a0 6 (0)) a0 7 ((-1))) ∧ n_ + sg_S r ≤ ms + sg_S (put_I (put_I (put_R σ b24 5 (s0)) a0 6 (0)) a0 7 ((-1))) from hc); omega
  refine J_newq (kd := 17) (q := 75) C0 (by decide) kl_X11_50 dX11_init_72 rfl (by decide) (by decide) C1.room hk_.1 hk_.2 ?_
  have hc26 : (k_ + 1) + sg_N r ≤ mc + sg_N (new_C (put_I (put_I (put_R σ b24 5 (s0)) a0 6 (0)) a0 7 ((-1))) 17 (6 : Int32).toNatClampNeg) ∧ (n_ + (6 : Int32).toNatClampNeg) + sg_S r ≤ ms + sg_S (new_C (put_I (put_I (put_R σ b24 5 (s0)) a0 6 (0)) a0 7 ((-1))) 17 (6 : Int32).toNatClampNeg) := by have := sg_S_new (put_I (put_I (put_R σ b24 5 (s0)) a0 6 (0)) a0 7 ((-1))) 17 (6 : Int32).toNatClampNeg; have : sg_N (new_C (put_I (put_I (put_R σ b24 5 (s0)) a0 6 (0)) a0 7 ((-1))) 17 (6 : Int32).toNatClampNeg) = sg_N (put_I (put_I (put_R σ b24 5 (s0)) a0 6 (0)) a0 7 ((-1))) + 1 := rfl; have : ce_ 17 (6 : Int32).toNatClampNeg = (6 : Int32).toNatClampNeg := rfl; have := (show k_ + sg_N r ≤ mc + sg_N (put_I (put_I (put_R σ b24 5 (s0)) a0 6 (0)) a0 7 ((-1))) ∧ n_ + sg_S r ≤ ms + sg_S (put_I (put_I (put_R σ b24 5 (s0)) a0 6 (0)) a0 7 ((-1))) from hc); omega
  exact t_X11_init_B75 C1 hin    (some (sg_N (put_I (put_I (put_R σ b24 5 (s0)) a0 6 (0)) a0 7 ((-1))))) (some a0) (new_C (put_I (put_I (put_R σ b24 5 (s0)) a0 6 (0)) a0 7 ((-1))) 17 (6 : Int32).toNatClampNeg) (((((sg_T.putR hT (by rw [(ab24).2]; exact g_s0))).putI).putI).new) (((((hE).putR).putI).putI).new) (((((h0).putR).putI).putI).new) (is_O.some (is_A.born (put_I (put_I (put_R σ b24 5 (s0)) a0 6 (0)) a0 7 ((-1))) 17 (6 : Int32).toNatClampNeg)) (is_O.some (((((h0).putR).putI).putI).new)) ((k_ + 1)) ((n_ + (6 : Int32).toNatClampNeg)) hc26 hf
set_option maxHeartbeats 4000000 in
set_option maxRecDepth 100000 in
theorem t_X11_init_B48 {N : Nat} {a0 : Nat} {Γ : Gm} {σ0 : Sg} {r : Sg} {mc ms : Nat} (C1 : CM Γ cX11_init RX11 2 none 4 82 mc ms (fun r_ τ_ => (r_ = none) ∧ τ_ = r ∧ sg_T τ_ ∧ sg_E σ0 τ_)) (hin : Γ.2.2.2.2.2.2.2.2.1.name = "<init>") (s0 : Option Nat) (s1 : Option Nat) (σ : Sg) (hT : sg_T σ) (hE : sg_E σ0 σ) (h0 : is_A σ a0 10) (g_s0 : is_O σ s0 8) (g_s1 : is_O σ s1 10) (k_ n_ : Nat) (hc : (k_ + sg_N r ≤ mc + sg_N σ ∧ n_ + sg_S r ≤ ms + sg_S σ)) (hf : f_X11_init_B48 N a0  s0 s1 σ = some r) : J_ Γ 48 [(0, vr (some a0))] [vr (s0), vr (s1)] σ k_ n_ := by
  have C0 := C1.1
  unfold f_X11_init_B48 at hf
  refine K_some hf (fun b21 hb21 hf => ?_)
  have ab21 : is_A σ b21 10 := (g_s1) b21 hb21
  refine J_putFR (q := 51) C0 hin rfl fl_X11_34_10 hb21 (ab21) rfl dX11_init_48 rfl ?_
  refine J_aload_n (q := 52) C0 0 rfl rfl dX11_init_51 rfl trivial ?_
  refine J_iconst (q := 53) (v := 4) C0 dX11_init_52 rfl rfl ?_
  have hm_ := e_X11_init_B56  hf
  have hk_ : k_ + 1 ≤ mc ∧ n_ + (4 : Int32).toNatClampNeg ≤ ms := by have := hm_.1; have := hm_.slots; have := sg_S_new (put_R σ b21 4 (s0)) 15 (4 : Int32).toNatClampNeg; have : sg_N (new_C (put_R σ b21 4 (s0)) 15 (4 : Int32).toNatClampNeg) = sg_N (put_R σ b21 4 (s0)) + 1 := rfl; have : ce_ 15 (4 : Int32).toNatClampNeg = (4 : Int32).toNatClampNeg := rfl; have := (show k_ + sg_N r ≤ mc + sg_N (put_R σ b21 4 (s0)) ∧ n_ + sg_S r ≤ ms + sg_S (put_R σ b21 4 (s0)) from hc); omega
  refine J_newq (kd := 15) (q := 56) C0 (by decide) kl_X11_38 dX11_init_53 rfl (by decide) (by decide) C1.room hk_.1 hk_.2 ?_
  have hc23 : (k_ + 1) + sg_N r ≤ mc + sg_N (new_C (put_R σ b21 4 (s0)) 15 (4 : Int32).toNatClampNeg) ∧ (n_ + (4 : Int32).toNatClampNeg) + sg_S r ≤ ms + sg_S (new_C (put_R σ b21 4 (s0)) 15 (4 : Int32).toNatClampNeg) := by have := sg_S_new (put_R σ b21 4 (s0)) 15 (4 : Int32).toNatClampNeg; have : sg_N (new_C (put_R σ b21 4 (s0)) 15 (4 : Int32).toNatClampNeg) = sg_N (put_R σ b21 4 (s0)) + 1 := rfl; have : ce_ 15 (4 : Int32).toNatClampNeg = (4 : Int32).toNatClampNeg := rfl; have := (show k_ + sg_N r ≤ mc + sg_N (put_R σ b21 4 (s0)) ∧ n_ + sg_S r ≤ ms + sg_S (put_R σ b21 4 (s0)) from hc); omega
  exact t_X11_init_B56 C1 hin    (some (sg_N (put_R σ b21 4 (s0)))) (some a0) (new_C (put_R σ b21 4 (s0)) 15 (4 : Int32).toNatClampNeg) (((sg_T.putR hT (by rw [(ab21).2]; exact g_s0))).new) (((hE).putR).new) (((h0).putR).new) (is_O.some (is_A.born (put_R σ b21 4 (s0)) 15 (4 : Int32).toNatClampNeg)) (is_O.some (((h0).putR).new)) ((k_ + 1)) ((n_ + (4 : Int32).toNatClampNeg)) hc23 hf
set_option maxHeartbeats 4000000 in
set_option maxRecDepth 100000 in
theorem t_X11_init_B44 {N : Nat} {a0 : Nat} {Γ : Gm} {σ0 : Sg} {r : Sg} {mc ms : Nat} (C1 : CM Γ cX11_init RX11 2 none 4 82 mc ms (fun r_ τ_ => (r_ = none) ∧ τ_ = r ∧ sg_T τ_ ∧ sg_E σ0 τ_)) (hin : Γ.2.2.2.2.2.2.2.2.1.name = "<init>") (s0 : Option Nat) (s1 : Option Nat) (σ : Sg) (hT : sg_T σ) (hE : sg_E σ0 σ) (h0 : is_A σ a0 10) (g_s0 : is_O σ s0 8) (g_s1 : is_O σ s1 10) (k_ n_ : Nat) (hc : (k_ + sg_N r ≤ mc + sg_N σ ∧ n_ + sg_S r ≤ ms + sg_S σ)) (hf : f_X11_init_B44 N a0  s0 s1 σ = some r) : J_ Γ 44 [(0, vr (some a0))] [vr (s0), vr (s1)] σ k_ n_ := by
  have C0 := C1.1
  unfold f_X11_init_B44 at hf
  refine J_dup (q := 45) C0 dX11_init_44 rfl rfl ?_
  refine K_some hf (fun b18 hb18 hf => ?_)
  have ab18 : is_A σ b18 8 := (g_s0) b18 hb18
  refine K_some hf (fun p19 hp19 hf => ?_)
  have hm_ := e_X11_init_B48  hf
  have he_ := e_X9_init hp19
  have hk_ : k_ + (sg_N p19 - sg_N σ) ≤ mc ∧ n_ + (sg_S p19 - sg_S σ) ≤ ms := by have := hm_.1; have := hm_.slots; have := he_.1; have := he_.slots; have := (show k_ + sg_N r ≤ mc + sg_N σ ∧ n_ + sg_S r ≤ ms + sg_S σ from hc); omega
  refine J_callIN (q := 48) (as := []) (rest := [vr (s0), vr (s1)]) C0 hb18 (t_X9_init b18  (hT) (ab18)  hp19 (mc := sg_N p19 - sg_N σ) (ms := sg_S p19 - sg_S σ) (by have h7 := e_X9_init hp19; have := h7.1; have := h7.slots; omega)) ml_X9_init lk_X11_33 im_X9_init rfl dX11_init_45 rfl rfl rfl (by simp [ac_]) C1.room (by decide) (by decide) hk_.1 hk_.2 (fun r_ τ_ hQ => ?_)
  obtain ⟨rfl, ht_, Tp19, Ep19⟩ := hQ; have ht_ := ht_.symm; subst ht_
  have hc20 : (k_ + (sg_N p19 - sg_N σ)) + sg_N r ≤ mc + sg_N p19 ∧ (n_ + (sg_S p19 - sg_S σ)) + sg_S r ≤ ms + sg_S p19 := by have := he_.1; have := he_.slots; have := (show k_ + sg_N r ≤ mc + sg_N σ ∧ n_ + sg_S r ≤ ms + sg_S σ from hc); omega
  show J_ Γ 48 [(0, vr (some a0))] [vr (s0), vr (s1)] p19 (k_ + (sg_N p19 - sg_N σ)) (n_ + (sg_S p19 - sg_S σ))
  exact t_X11_init_B48 C1 hin    (s0) (s1) (p19) (Tp19) ((hE).tr Ep19) ((Ep19.at h0)) ((by rw [hb18]; exact is_O.some ((Ep19.at ab18)))) ((Ep19.op g_s1)) ((k_ + (sg_N p19 - sg_N σ))) ((n_ + (sg_S p19 - sg_S σ))) hc20 hf
set_option maxHeartbeats 4000000 in
set_option maxRecDepth 100000 in
theorem t_X11_init_B37 {N : Nat} {a0 : Nat} {Γ : Gm} {σ0 : Sg} {r : Sg} {mc ms : Nat} (C1 : CM Γ cX11_init RX11 2 none 4 82 mc ms (fun r_ τ_ => (r_ = none) ∧ τ_ = r ∧ sg_T τ_ ∧ sg_E σ0 τ_)) (hin : Γ.2.2.2.2.2.2.2.2.1.name = "<init>") (s0 : Option Nat) (s1 : Option Nat) (σ : Sg) (hT : sg_T σ) (hE : sg_E σ0 σ) (h0 : is_A σ a0 10) (g_s0 : is_O σ s0 3) (g_s1 : is_O σ s1 10) (k_ n_ : Nat) (hc : (k_ + sg_N r ≤ mc + sg_N σ ∧ n_ + sg_S r ≤ ms + sg_S σ)) (hf : f_X11_init_B37 N a0  s0 s1 σ = some r) : J_ Γ 37 [(0, vr (some a0))] [vr (s0), vr (s1)] σ k_ n_ := by
  have C0 := C1.1
  unfold f_X11_init_B37 at hf
  refine K_some hf (fun b15 hb15 hf => ?_)
  have ab15 : is_A σ b15 10 := (g_s1) b15 hb15
  refine J_putFR (q := 40) C0 hin rfl fl_X11_27_10 hb15 (ab15) rfl dX11_init_37 rfl ?_
  refine J_aload_n (q := 41) C0 0 rfl rfl dX11_init_40 rfl trivial ?_
  have hm_ := e_X11_init_B44  hf
  have hk_ : k_ + 1 ≤ mc ∧ n_ + 5 ≤ ms := by have := hm_.1; have := hm_.slots; have := sg_S_new (put_R σ b15 3 (s0)) 8 0; have : sg_N (new_C (put_R σ b15 3 (s0)) 8 0) = sg_N (put_R σ b15 3 (s0)) + 1 := rfl; have : ce_ 8 0 = 5 := rfl; have := (show k_ + sg_N r ≤ mc + sg_N (put_R σ b15 3 (s0)) ∧ n_ + sg_S r ≤ ms + sg_S (put_R σ b15 3 (s0)) from hc); omega
  refine J_new (q := 44) C0 cl_X9 df_X9 kl_X11_31 in_X9 iz_X9 dX11_init_41 rfl C1.room hk_.1 hk_.2 ?_
  have hc17 : (k_ + 1) + sg_N r ≤ mc + sg_N (new_C (put_R σ b15 3 (s0)) 8 0) ∧ (n_ + 5) + sg_S r ≤ ms + sg_S (new_C (put_R σ b15 3 (s0)) 8 0) := by have := sg_S_new (put_R σ b15 3 (s0)) 8 0; have : sg_N (new_C (put_R σ b15 3 (s0)) 8 0) = sg_N (put_R σ b15 3 (s0)) + 1 := rfl; have : ce_ 8 0 = 5 := rfl; have := (show k_ + sg_N r ≤ mc + sg_N (put_R σ b15 3 (s0)) ∧ n_ + sg_S r ≤ ms + sg_S (put_R σ b15 3 (s0)) from hc); omega
  exact t_X11_init_B44 C1 hin    (some (sg_N (put_R σ b15 3 (s0)))) (some a0) (new_C (put_R σ b15 3 (s0)) 8 0) (((sg_T.putR hT (by rw [(ab15).2]; exact g_s0))).new) (((hE).putR).new) (((h0).putR).new) (is_O.some (is_A.born (put_R σ b15 3 (s0)) 8 0)) (is_O.some (((h0).putR).new)) ((k_ + 1)) ((n_ + 5)) hc17 hf
set_option maxHeartbeats 4000000 in
set_option maxRecDepth 100000 in
theorem t_X11_init_B33 {N : Nat} {a0 : Nat} {Γ : Gm} {σ0 : Sg} {r : Sg} {mc ms : Nat} (C1 : CM Γ cX11_init RX11 2 none 4 82 mc ms (fun r_ τ_ => (r_ = none) ∧ τ_ = r ∧ sg_T τ_ ∧ sg_E σ0 τ_)) (hin : Γ.2.2.2.2.2.2.2.2.1.name = "<init>") (s0 : Option Nat) (s1 : Option Nat) (σ : Sg) (hT : sg_T σ) (hE : sg_E σ0 σ) (h0 : is_A σ a0 10) (g_s0 : is_O σ s0 3) (g_s1 : is_O σ s1 10) (k_ n_ : Nat) (hc : (k_ + sg_N r ≤ mc + sg_N σ ∧ n_ + sg_S r ≤ ms + sg_S σ)) (hf : f_X11_init_B33 N a0  s0 s1 σ = some r) : J_ Γ 33 [(0, vr (some a0))] [vr (s0), vr (s1)] σ k_ n_ := by
  have C0 := C1.1
  unfold f_X11_init_B33 at hf
  refine J_dup (q := 34) C0 dX11_init_33 rfl rfl ?_
  refine K_some hf (fun b12 hb12 hf => ?_)
  have ab12 : is_A σ b12 3 := (g_s0) b12 hb12
  refine K_some hf (fun p13 hp13 hf => ?_)
  have hm_ := e_X11_init_B37  hf
  have he_ := e_X3_init hp13
  have hk_ : k_ + (sg_N p13 - sg_N σ) ≤ mc ∧ n_ + (sg_S p13 - sg_S σ) ≤ ms := by have := hm_.1; have := hm_.slots; have := he_.1; have := he_.slots; have := (show k_ + sg_N r ≤ mc + sg_N σ ∧ n_ + sg_S r ≤ ms + sg_S σ from hc); omega
  refine J_callIN (q := 37) (as := []) (rest := [vr (s0), vr (s1)]) C0 hb12 (t_X3_init b12  (hT) (ab12)  hp13 (mc := sg_N p13 - sg_N σ) (ms := sg_S p13 - sg_S σ) (by have h7 := e_X3_init hp13; have := h7.1; have := h7.slots; omega)) ml_X3_init lk_X11_26 im_X3_init rfl dX11_init_34 rfl rfl rfl (by simp [ac_]) C1.room (by decide) (by decide) hk_.1 hk_.2 (fun r_ τ_ hQ => ?_)
  obtain ⟨rfl, ht_, Tp13, Ep13⟩ := hQ; have ht_ := ht_.symm; subst ht_
  have hc14 : (k_ + (sg_N p13 - sg_N σ)) + sg_N r ≤ mc + sg_N p13 ∧ (n_ + (sg_S p13 - sg_S σ)) + sg_S r ≤ ms + sg_S p13 := by have := he_.1; have := he_.slots; have := (show k_ + sg_N r ≤ mc + sg_N σ ∧ n_ + sg_S r ≤ ms + sg_S σ from hc); omega
  show J_ Γ 37 [(0, vr (some a0))] [vr (s0), vr (s1)] p13 (k_ + (sg_N p13 - sg_N σ)) (n_ + (sg_S p13 - sg_S σ))
  exact t_X11_init_B37 C1 hin    (s0) (s1) (p13) (Tp13) ((hE).tr Ep13) ((Ep13.at h0)) ((by rw [hb12]; exact is_O.some ((Ep13.at ab12)))) ((Ep13.op g_s1)) ((k_ + (sg_N p13 - sg_N σ))) ((n_ + (sg_S p13 - sg_S σ))) hc14 hf
set_option maxHeartbeats 4000000 in
set_option maxRecDepth 100000 in
theorem t_X11_init_B26 {N : Nat} {a0 : Nat} {Γ : Gm} {σ0 : Sg} {r : Sg} {mc ms : Nat} (C1 : CM Γ cX11_init RX11 2 none 4 82 mc ms (fun r_ τ_ => (r_ = none) ∧ τ_ = r ∧ sg_T τ_ ∧ sg_E σ0 τ_)) (hin : Γ.2.2.2.2.2.2.2.2.1.name = "<init>") (s0 : Option Nat) (s1 : Option Nat) (σ : Sg) (hT : sg_T σ) (hE : sg_E σ0 σ) (h0 : is_A σ a0 10) (g_s0 : is_O σ s0 1) (g_s1 : is_O σ s1 10) (k_ n_ : Nat) (hc : (k_ + sg_N r ≤ mc + sg_N σ ∧ n_ + sg_S r ≤ ms + sg_S σ)) (hf : f_X11_init_B26 N a0  s0 s1 σ = some r) : J_ Γ 26 [(0, vr (some a0))] [vr (s0), vr (s1)] σ k_ n_ := by
  have C0 := C1.1
  unfold f_X11_init_B26 at hf
  refine K_some hf (fun b9 hb9 hf => ?_)
  have ab9 : is_A σ b9 10 := (g_s1) b9 hb9
  refine J_putFR (q := 29) C0 hin rfl fl_X11_20_10 hb9 (ab9) rfl dX11_init_26 rfl ?_
  refine J_aload_n (q := 30) C0 0 rfl rfl dX11_init_29 rfl trivial ?_
  have hm_ := e_X11_init_B33  hf
  have hk_ : k_ + 1 ≤ mc ∧ n_ + 5 ≤ ms := by have := hm_.1; have := hm_.slots; have := sg_S_new (put_R σ b9 2 (s0)) 3 0; have : sg_N (new_C (put_R σ b9 2 (s0)) 3 0) = sg_N (put_R σ b9 2 (s0)) + 1 := rfl; have : ce_ 3 0 = 5 := rfl; have := (show k_ + sg_N r ≤ mc + sg_N (put_R σ b9 2 (s0)) ∧ n_ + sg_S r ≤ ms + sg_S (put_R σ b9 2 (s0)) from hc); omega
  refine J_new (q := 33) C0 cl_X3 df_X3 kl_X11_24 in_X3 iz_X3 dX11_init_30 rfl C1.room hk_.1 hk_.2 ?_
  have hc11 : (k_ + 1) + sg_N r ≤ mc + sg_N (new_C (put_R σ b9 2 (s0)) 3 0) ∧ (n_ + 5) + sg_S r ≤ ms + sg_S (new_C (put_R σ b9 2 (s0)) 3 0) := by have := sg_S_new (put_R σ b9 2 (s0)) 3 0; have : sg_N (new_C (put_R σ b9 2 (s0)) 3 0) = sg_N (put_R σ b9 2 (s0)) + 1 := rfl; have : ce_ 3 0 = 5 := rfl; have := (show k_ + sg_N r ≤ mc + sg_N (put_R σ b9 2 (s0)) ∧ n_ + sg_S r ≤ ms + sg_S (put_R σ b9 2 (s0)) from hc); omega
  exact t_X11_init_B33 C1 hin    (some (sg_N (put_R σ b9 2 (s0)))) (some a0) (new_C (put_R σ b9 2 (s0)) 3 0) (((sg_T.putR hT (by rw [(ab9).2]; exact g_s0))).new) (((hE).putR).new) (((h0).putR).new) (is_O.some (is_A.born (put_R σ b9 2 (s0)) 3 0)) (is_O.some (((h0).putR).new)) ((k_ + 1)) ((n_ + 5)) hc11 hf
set_option maxHeartbeats 4000000 in
set_option maxRecDepth 100000 in
theorem t_X11_init_B22 {N : Nat} {a0 : Nat} {Γ : Gm} {σ0 : Sg} {r : Sg} {mc ms : Nat} (C1 : CM Γ cX11_init RX11 2 none 4 82 mc ms (fun r_ τ_ => (r_ = none) ∧ τ_ = r ∧ sg_T τ_ ∧ sg_E σ0 τ_)) (hin : Γ.2.2.2.2.2.2.2.2.1.name = "<init>") (s0 : Option Nat) (s1 : Option Nat) (σ : Sg) (hT : sg_T σ) (hE : sg_E σ0 σ) (h0 : is_A σ a0 10) (g_s0 : is_O σ s0 1) (g_s1 : is_O σ s1 10) (k_ n_ : Nat) (hc : (k_ + sg_N r ≤ mc + sg_N σ ∧ n_ + sg_S r ≤ ms + sg_S σ)) (hf : f_X11_init_B22 N a0  s0 s1 σ = some r) : J_ Γ 22 [(0, vr (some a0))] [vr (s0), vr (s1)] σ k_ n_ := by
  have C0 := C1.1
  unfold f_X11_init_B22 at hf
  refine J_dup (q := 23) C0 dX11_init_22 rfl rfl ?_
  refine K_some hf (fun b6 hb6 hf => ?_)
  have ab6 : is_A σ b6 1 := (g_s0) b6 hb6
  refine K_some hf (fun p7 hp7 hf => ?_)
  have hm_ := e_X11_init_B26  hf
  have he_ := e_X1_init hp7
  have hk_ : k_ + (sg_N p7 - sg_N σ) ≤ mc ∧ n_ + (sg_S p7 - sg_S σ) ≤ ms := by have := hm_.1; have := hm_.slots; have := he_.1; have := he_.slots; have := (show k_ + sg_N r ≤ mc + sg_N σ ∧ n_ + sg_S r ≤ ms + sg_S σ from hc); omega
  refine J_callIN (q := 26) (as := []) (rest := [vr (s0), vr (s1)]) C0 hb6 (t_X1_init b6  (hT) (ab6)  hp7 (mc := sg_N p7 - sg_N σ) (ms := sg_S p7 - sg_S σ) (by have h7 := e_X1_init hp7; have := h7.1; have := h7.slots; omega)) ml_X1_init lk_X11_19 im_X1_init rfl dX11_init_23 rfl rfl rfl (by simp [ac_]) C1.room (by decide) (by decide) hk_.1 hk_.2 (fun r_ τ_ hQ => ?_)
  obtain ⟨rfl, ht_, Tp7, Ep7⟩ := hQ; have ht_ := ht_.symm; subst ht_
  have hc8 : (k_ + (sg_N p7 - sg_N σ)) + sg_N r ≤ mc + sg_N p7 ∧ (n_ + (sg_S p7 - sg_S σ)) + sg_S r ≤ ms + sg_S p7 := by have := he_.1; have := he_.slots; have := (show k_ + sg_N r ≤ mc + sg_N σ ∧ n_ + sg_S r ≤ ms + sg_S σ from hc); omega
  show J_ Γ 26 [(0, vr (some a0))] [vr (s0), vr (s1)] p7 (k_ + (sg_N p7 - sg_N σ)) (n_ + (sg_S p7 - sg_S σ))
  exact t_X11_init_B26 C1 hin    (s0) (s1) (p7) (Tp7) ((hE).tr Ep7) ((Ep7.at h0)) ((by rw [hb6]; exact is_O.some ((Ep7.at ab6)))) ((Ep7.op g_s1)) ((k_ + (sg_N p7 - sg_N σ))) ((n_ + (sg_S p7 - sg_S σ))) hc8 hf
set_option maxHeartbeats 4000000 in
set_option maxRecDepth 100000 in
theorem t_X11_init_B10 {N : Nat} {a0 : Nat} {Γ : Gm} {σ0 : Sg} {r : Sg} {mc ms : Nat} (C1 : CM Γ cX11_init RX11 2 none 4 82 mc ms (fun r_ τ_ => (r_ = none) ∧ τ_ = r ∧ sg_T τ_ ∧ sg_E σ0 τ_)) (hin : Γ.2.2.2.2.2.2.2.2.1.name = "<init>") (s0 : Option Nat) (s1 : Option Nat) (σ : Sg) (hT : sg_T σ) (hE : sg_E σ0 σ) (h0 : is_A σ a0 10) (g_s0 : is_O σ s0 12) (g_s1 : is_O σ s1 10) (k_ n_ : Nat) (hc : (k_ + sg_N r ≤ mc + sg_N σ ∧ n_ + sg_S r ≤ ms + sg_S σ)) (hf : f_X11_init_B10 N a0  s0 s1 σ = some r) : J_ Γ 10 [(0, vr (some a0))] [vr (s0), vr (s1)] σ k_ n_ := by
  have C0 := C1.1
  unfold f_X11_init_B10 at hf
  refine K_some hf (fun b3 hb3 hf => ?_)
  have ab3 : is_A σ b3 10 := (g_s1) b3 hb3
  refine J_putFR (q := 13) C0 hin rfl fl_X11_9_10 hb3 (ab3) rfl dX11_init_10 rfl ?_
  refine J_aload_n (q := 14) C0 0 rfl rfl dX11_init_13 rfl trivial ?_
  refine J_iconst (q := 15) (v := 0) C0 dX11_init_14 rfl rfl ?_
  refine J_putI (q := 18) C0 fl_X11_13_10 rfl ((h0).putR) rfl dX11_init_15 rfl ?_
  refine J_aload_n (q := 19) C0 0 rfl rfl dX11_init_18 rfl trivial ?_
  have hm_ := e_X11_init_B22  hf
  have hk_ : k_ + 1 ≤ mc ∧ n_ + 7 ≤ ms := by have := hm_.1; have := hm_.slots; have := sg_S_new (put_I (put_R σ b3 0 (s0)) a0 1 (0)) 1 0; have : sg_N (new_C (put_I (put_R σ b3 0 (s0)) a0 1 (0)) 1 0) = sg_N (put_I (put_R σ b3 0 (s0)) a0 1 (0)) + 1 := rfl; have : ce_ 1 0 = 7 := rfl; have := (show k_ + sg_N r ≤ mc + sg_N (put_I (put_R σ b3 0 (s0)) a0 1 (0)) ∧ n_ + sg_S r ≤ ms + sg_S (put_I (put_R σ b3 0 (s0)) a0 1 (0)) from hc); omega
  refine J_new (q := 22) C0 cl_X1 df_X1 kl_X11_17 in_X1 iz_X1 dX11_init_19 rfl C1.room hk_.1 hk_.2 ?_
  have hc5 : (k_ + 1) + sg_N r ≤ mc + sg_N (new_C (put_I (put_R σ b3 0 (s0)) a0 1 (0)) 1 0) ∧ (n_ + 7) + sg_S r ≤ ms + sg_S (new_C (put_I (put_R σ b3 0 (s0)) a0 1 (0)) 1 0) := by have := sg_S_new (put_I (put_R σ b3 0 (s0)) a0 1 (0)) 1 0; have : sg_N (new_C (put_I (put_R σ b3 0 (s0)) a0 1 (0)) 1 0) = sg_N (put_I (put_R σ b3 0 (s0)) a0 1 (0)) + 1 := rfl; have : ce_ 1 0 = 7 := rfl; have := (show k_ + sg_N r ≤ mc + sg_N (put_I (put_R σ b3 0 (s0)) a0 1 (0)) ∧ n_ + sg_S r ≤ ms + sg_S (put_I (put_R σ b3 0 (s0)) a0 1 (0)) from hc); omega
  exact t_X11_init_B22 C1 hin    (some (sg_N (put_I (put_R σ b3 0 (s0)) a0 1 (0)))) (some a0) (new_C (put_I (put_R σ b3 0 (s0)) a0 1 (0)) 1 0) ((((sg_T.putR hT (by rw [(ab3).2]; exact g_s0))).putI).new) ((((hE).putR).putI).new) ((((h0).putR).putI).new) (is_O.some (is_A.born (put_I (put_R σ b3 0 (s0)) a0 1 (0)) 1 0)) (is_O.some ((((h0).putR).putI).new)) ((k_ + 1)) ((n_ + 7)) hc5 hf
set_option maxHeartbeats 4000000 in
set_option maxRecDepth 100000 in
theorem t_X11_init (N : Nat) (a0 : Nat) {σ : Sg} (hT : sg_T σ) (h0 : is_A σ a0 10) {r : Sg} (hf : f_X11_init N a0  σ = some r) {mc ms : Nat} (hc : sg_N r ≤ mc + sg_N σ ∧ sg_S r ≤ ms + sg_S σ) : Ct yX11_init cX11_init 2 none 4 82 mc ms [vr (some a0)] σ (fun r_ τ_ => (r_ = none) ∧ τ_ = r ∧ sg_T τ_ ∧ sg_E σ τ_) := by
  refine Ct.ofI (by decide +kernel) (Nat.le_of_ble_eq_true rfl) (fun Γ C1 hin => ?_)
  have C0 := C1.1
  have hin : Γ.2.2.2.2.2.2.2.2.1.name = "<init>" := hin
  obtain ⟨k_, hk0⟩ : ∃ t : Nat, t = 0 := ⟨_, rfl⟩
  obtain ⟨n_, hn0⟩ : ∃ t : Nat, t = 0 := ⟨_, rfl⟩
  have hc : k_ + sg_N r ≤ mc + sg_N σ ∧ n_ + sg_S r ≤ ms + sg_S σ := by omega
  have hE : sg_E σ σ := sg_E.rf
  unfold f_X11_init at hf
  have goal9 : J_ Γ 0 [(0, vr (some a0))] [] σ k_ n_ := by
    refine J_aload_n (q := 1) C0 0 rfl rfl dX11_init_0 rfl trivial ?_
    refine J_objInit (q := 4) C0 rfl lk_X11_1 im_obj co_obj dX11_init_1 rfl (by simp [ac_]) C1.room (by decide) (by decide) ?_
    refine J_aload_n (q := 5) C0 0 rfl rfl dX11_init_4 rfl trivial ?_
    refine J_sipush (q := 8) (v := 240) C0 dX11_init_5 rfl rfl ?_
    have hm_ := e_X11_init_B10  hf
    have hk_ : k_ + 1 ≤ mc ∧ n_ + (240 : Int32).toNatClampNeg ≤ ms := by have := hm_.1; have := hm_.slots; have := sg_S_new σ 12 (240 : Int32).toNatClampNeg; have : sg_N (new_C σ 12 (240 : Int32).toNatClampNeg) = sg_N σ + 1 := rfl; have : ce_ 12 (240 : Int32).toNatClampNeg = (240 : Int32).toNatClampNeg := rfl; have := (show k_ + sg_N r ≤ mc + sg_N σ ∧ n_ + sg_S r ≤ ms + sg_S σ from hc); omega
    refine J_newa (at_ := .int) (kd := 12) (q := 10) C0 (by simp) wt_a_int dX11_init_8 rfl (by decide) (by decide) C1.room hk_.1 hk_.2 ?_
    have hc2 : (k_ + 1) + sg_N r ≤ mc + sg_N (new_C σ 12 (240 : Int32).toNatClampNeg) ∧ (n_ + (240 : Int32).toNatClampNeg) + sg_S r ≤ ms + sg_S (new_C σ 12 (240 : Int32).toNatClampNeg) := by have := sg_S_new σ 12 (240 : Int32).toNatClampNeg; have : sg_N (new_C σ 12 (240 : Int32).toNatClampNeg) = sg_N σ + 1 := rfl; have : ce_ 12 (240 : Int32).toNatClampNeg = (240 : Int32).toNatClampNeg := rfl; have := (show k_ + sg_N r ≤ mc + sg_N σ ∧ n_ + sg_S r ≤ ms + sg_S σ from hc); omega
    exact t_X11_init_B10 C1 hin    (some (sg_N σ)) (some a0) (new_C σ 12 (240 : Int32).toNatClampNeg) ((hT).new) ((hE).new) ((h0).new) (is_O.some (is_A.born σ 12 (240 : Int32).toNatClampNeg)) (is_O.some ((h0).new)) ((k_ + 1)) ((n_ + (240 : Int32).toNatClampNeg)) hc2 hf
  rw [hk0, hn0] at goal9
  exact goal9
def f_J7_copyOf_59c91_B17 (v0 : Option Nat) (v1 : Int32) (s0 : Option Nat) (σ : Sg) : Option ((Option Nat) × Sg) :=
  Option.bind (v0) fun b6 =>
  Option.bind (f_J9_min_7cf53 (Int32.ofNat (sg_L σ b6)) (v1) ) fun p7 =>
  Option.bind (s0) fun b8 =>
  if (0 : Int32) < 0 ∨ (0 : Int32) < 0 ∨ (p7) < 0 ∨ sg_L σ b6 < (0 : Int32).toNatClampNeg + (p7).toNatClampNeg ∨ sg_L σ b8 < (0 : Int32).toNatClampNeg + (p7).toNatClampNeg then none else
  some (s0, cpy_I σ b6 b8 (0 : Int32).toNatClampNeg (0 : Int32).toNatClampNeg (p7).toNatClampNeg)
def f_J7_copyOf_59c91_B10 (s0 : Option Nat) (σ : Sg) : Option ((Option Nat) × Sg) :=
  Option.bind (s0) fun b11 =>
  some (s0, σ)
def f_J7_copyOf_59c91 (e0 : Option Nat) (x1 : Int32) (σ : Sg) : Option ((Option Nat) × Sg) :=
  Option.bind (e0) fun b1 =>
  if (x1) = (Int32.ofNat (sg_L σ b1)) then
  (f_J7_copyOf_59c91_B10 (some (sg_N σ)) (cln_I σ b1))
  else
  (if (x1) < 0 ∨ 60000000 < (x1).toNatClampNeg then none else
  f_J7_copyOf_59c91_B17 (e0) (x1) (some (sg_N σ)) (new_C σ 12 (x1).toNatClampNeg))
set_option maxHeartbeats 4000000 in
set_option maxRecDepth 100000 in
theorem e_J7_copyOf_59c91_B17 {r : ((Option Nat) × Sg)} {v0 : Option Nat} {v1 : Int32} {s0 : Option Nat} {σ : Sg} (hf : f_J7_copyOf_59c91_B17  v0 v1 s0 σ = some r) : sg_E σ r.2 := by
  unfold f_J7_copyOf_59c91_B17 at hf
  refine K_some hf (fun b6 hb6 hf => ?_)
  refine K_some hf (fun p7 hp7 hf => ?_)
  refine K_some hf (fun b8 hb8 hf => ?_)
  refine K_chk hf (fun c9 hf => ?_)
  obtain rfl := Option.some.inj hf; exact (sg_E.rf).cpyI
set_option maxHeartbeats 4000000 in
set_option maxRecDepth 100000 in
theorem e_J7_copyOf_59c91_B10 {r : ((Option Nat) × Sg)} {s0 : Option Nat} {σ : Sg} (hf : f_J7_copyOf_59c91_B10  s0 σ = some r) : sg_E σ r.2 := by
  unfold f_J7_copyOf_59c91_B10 at hf
  refine K_some hf (fun b11 hb11 hf => ?_)
  obtain rfl := Option.some.inj hf; exact sg_E.rf
set_option maxHeartbeats 4000000 in
set_option maxRecDepth 100000 in
theorem e_J7_copyOf_59c91 {e0 : Option Nat} {x1 : Int32} {σ : Sg} {r : ((Option Nat) × Sg)} (hf : f_J7_copyOf_59c91 e0 x1 σ = some r) : sg_E σ r.2 := by
  unfold f_J7_copyOf_59c91 at hf
  refine K_some hf (fun b1 hb1 hf => ?_)
  refine K_ite hf (fun c_ hf => ?_) (fun c_ hf => ?_)
  · exact ((sg_E.rf).cln).tr (e_J7_copyOf_59c91_B10  hf)
  · refine K_chk hf (fun c3 hf => ?_)
    exact ((sg_E.rf).new).tr (e_J7_copyOf_59c91_B17  hf)
set_option maxHeartbeats 4000000 in
set_option maxRecDepth 100000 in
theorem t_J7_copyOf_59c91_B17 {Γ : Gm} {σ0 : Sg} {r : ((Option Nat) × Sg)} {mc ms : Nat} (C1 : CM Γ cJ7_copyOf_59c91 RJ7 3 (some (.array .int)) 1 40 mc ms (fun r_ τ_ => (r_ = some (vr r.1) ∧ is_O τ_ r.1 12) ∧ τ_ = r.2 ∧ sg_T τ_ ∧ sg_E σ0 τ_)) (v0 : Option Nat) (v1 : Int32) (s0 : Option Nat) (σ : Sg) (hT : sg_T σ) (hE : sg_E σ0 σ) (g_v0 : is_O σ v0 12) (g_s0 : is_O σ s0 12) (k_ n_ : Nat) (hc : (k_ + sg_N r.2 ≤ mc + sg_N σ ∧ n_ + sg_S r.2 ≤ ms + sg_S σ)) (hf : f_J7_copyOf_59c91_B17  v0 v1 s0 σ = some r) : J_ Γ 17 [(0, vr (v0)), (1, vi (v1))] [vr (s0)] σ k_ n_ := by
  have C0 := C1.1
  have hx_ := e_J7_copyOf_59c91_B17 hf
  have hx1_ := hx_.1
  have hx2_ := hx_.slots
  unfold f_J7_copyOf_59c91_B17 at hf
  refine J_astore_n (q := 18) (lv' := [(2, vr (s0)), (0, vr (v0)), (1, vi (v1))]) C0 rfl (G_nl C1 (by decide)) dJ7_copyOf_59c91_17 rfl trivial rfl ?_
  refine J_aload_n (q := 19) C0 1 rfl rfl dJ7_copyOf_59c91_18 rfl trivial ?_
  refine J_iconst (q := 20) (v := 0) C0 dJ7_copyOf_59c91_19 rfl rfl ?_
  refine J_aload_n (q := 21) C0 0 rfl rfl dJ7_copyOf_59c91_20 rfl trivial ?_
  refine J_iconst (q := 22) (v := 0) C0 dJ7_copyOf_59c91_21 rfl rfl ?_
  refine J_aload_n (q := 23) C0 1 rfl rfl dJ7_copyOf_59c91_22 rfl trivial ?_
  refine K_some hf (fun b6 hb6 hf => ?_)
  have ab6 : is_A σ b6 12 := (g_v0) b6 hb6
  refine J_alen (q := 24) C0 hb6 (ab6) (by decide) dJ7_copyOf_59c91_23 rfl ?_
  refine J_iload_n (q := 25) C0 2 rfl rfl dJ7_copyOf_59c91_24 rfl ?_
  refine K_some hf (fun p7 hp7 hf => ?_)
  refine J_callS (q := 28) (as := [vi (Int32.ofNat (sg_L σ b6)), vi (v1)]) (rest := [vi (0), vr (s0), vi (0), vr (v0)]) C0 (t_J9_min_7cf53 (Int32.ofNat (sg_L σ b6)) (v1)  hp7) ml_J9_min_7cf53 lk_J7_304 sm_J9_min_7cf53 dJ7_copyOf_59c91_25 rfl rfl rfl (by simp [ac_]) C1.room (by decide) (by decide) (by omega) (by omega) (fun r_ τ_ hQ => ?_)
  obtain ⟨rfl, ht_⟩ := hQ; have ht_ := ht_.symm; subst ht_
  show J_ Γ 28 [(2, vr (s0)), (0, vr (v0)), (1, vi (v1))] [vi (p7), vi (0), vr (s0), vi (0), vr (v0)] σ k_ n_
  refine K_some hf (fun b8 hb8 hf => ?_)
  have ab8 : is_A σ b8 12 := (g_s0) b8 hb8
  refine K_chk hf (fun c9 hf => ?_)
  refine J_copyi (q := 31) C0 hb6 hb8 (ab6) (ab8) c9 lk_J7_150 na_copy st_copy iz_sys dJ7_copyOf_59c91_28 rfl C1.room (by decide) (by simp [ac_, nativeFrameWords]) ?_
  refine J_aload_n (q := 32) C0 0 rfl rfl dJ7_copyOf_59c91_31 rfl trivial ?_
  have io9 : is_O (cpy_I σ b6 b8 (0 : Int32).toNatClampNeg (0 : Int32).toNatClampNeg (p7).toNatClampNeg) (s0) 12 := (by rw [hb8]; exact is_O.some ((ab8).cpyI)); obtain rfl := Option.some.inj hf; exact J_aret C1 dJ7_copyOf_59c91_32 rfl (Or.inr ⟨_, rfl⟩) (by have h9 : k_ + sg_N (cpy_I σ b6 b8 (0 : Int32).toNatClampNeg (0 : Int32).toNatClampNeg (p7).toNatClampNeg) ≤ mc + sg_N (cpy_I σ b6 b8 (0 : Int32).toNatClampNeg (0 : Int32).toNatClampNeg (p7).toNatClampNeg) ∧ n_ + sg_S (cpy_I σ b6 b8 (0 : Int32).toNatClampNeg (0 : Int32).toNatClampNeg (p7).toNatClampNeg) ≤ ms + sg_S (cpy_I σ b6 b8 (0 : Int32).toNatClampNeg (0 : Int32).toNatClampNeg (p7).toNatClampNeg) := hc; omega) (by have h9 : k_ + sg_N (cpy_I σ b6 b8 (0 : Int32).toNatClampNeg (0 : Int32).toNatClampNeg (p7).toNatClampNeg) ≤ mc + sg_N (cpy_I σ b6 b8 (0 : Int32).toNatClampNeg (0 : Int32).toNatClampNeg (p7).toNatClampNeg) ∧ n_ + sg_S (cpy_I σ b6 b8 (0 : Int32).toNatClampNeg (0 : Int32).toNatClampNeg (p7).toNatClampNeg) ≤ ms + sg_S (cpy_I σ b6 b8 (0 : Int32).toNatClampNeg (0 : Int32).toNatClampNeg (p7).toNatClampNeg) := hc; omega) ⟨⟨rfl, io9⟩, rfl, (hT).cpyI, (hE).cpyI⟩
set_option maxHeartbeats 4000000 in
set_option maxRecDepth 100000 in
theorem t_J7_copyOf_59c91_B10 {Γ : Gm} {σ0 : Sg} {r : ((Option Nat) × Sg)} {mc ms : Nat} (C1 : CM Γ cJ7_copyOf_59c91 RJ7 3 (some (.array .int)) 1 40 mc ms (fun r_ τ_ => (r_ = some (vr r.1) ∧ is_O τ_ r.1 12) ∧ τ_ = r.2 ∧ sg_T τ_ ∧ sg_E σ0 τ_)) (s0 : Option Nat) (σ : Sg) (hT : sg_T σ) (hE : sg_E σ0 σ) (g_s0 : is_O σ s0 12) (k_ n_ : Nat) (hc : (k_ + sg_N r.2 ≤ mc + sg_N σ ∧ n_ + sg_S r.2 ≤ ms + sg_S σ)) (hf : f_J7_copyOf_59c91_B10  s0 σ = some r) : J_ Γ 10 [] [vr (s0)] σ k_ n_ := by
  have C0 := C1.1
  unfold f_J7_copyOf_59c91_B10 at hf
  refine K_some hf (fun b11 hb11 hf => ?_)
  have ab11 : is_A σ b11 12 := (g_s0) b11 hb11
  refine J_castI (q := 13) C0 hb11 (ab11) kl_J7_317 dJ7_copyOf_59c91_10 rfl ?_
  have io9 : is_O σ (s0) 12 := (by rw [hb11]; exact is_O.some (ab11)); obtain rfl := Option.some.inj hf; exact J_aret C1 dJ7_copyOf_59c91_13 rfl (Or.inr ⟨_, rfl⟩) (by have h9 : k_ + sg_N σ ≤ mc + sg_N σ ∧ n_ + sg_S σ ≤ ms + sg_S σ := hc; omega) (by have h9 : k_ + sg_N σ ≤ mc + sg_N σ ∧ n_ + sg_S σ ≤ ms + sg_S σ := hc; omega) ⟨⟨rfl, io9⟩, rfl, hT, hE⟩
set_option maxHeartbeats 4000000 in
set_option maxRecDepth 100000 in
theorem t_J7_copyOf_59c91 (e0 : Option Nat) (x1 : Int32) {σ : Sg} (hT : sg_T σ) (g0 : is_O σ e0 12) {r : ((Option Nat) × Sg)} (hf : f_J7_copyOf_59c91 e0 x1 σ = some r) {mc ms : Nat} (hc : sg_N r.2 ≤ mc + sg_N σ ∧ sg_S r.2 ≤ ms + sg_S σ) : Ct yJ7_copyOf_59c91 cJ7_copyOf_59c91 3 (some (.array .int)) 1 40 mc ms [vr e0, vi x1] σ (fun r_ τ_ => (r_ = some (vr r.1) ∧ is_O τ_ r.1 12) ∧ τ_ = r.2 ∧ sg_T τ_ ∧ sg_E σ τ_) := by
  refine Ct.of (by decide +kernel) (Nat.le_of_ble_eq_true rfl) (fun Γ C1 => ?_)
  have C0 := C1.1
  obtain ⟨k_, hk0⟩ : ∃ t : Nat, t = 0 := ⟨_, rfl⟩
  obtain ⟨n_, hn0⟩ : ∃ t : Nat, t = 0 := ⟨_, rfl⟩
  have hc : k_ + sg_N r.2 ≤ mc + sg_N σ ∧ n_ + sg_S r.2 ≤ ms + sg_S σ := by omega
  have hE : sg_E σ σ := sg_E.rf
  unfold f_J7_copyOf_59c91 at hf
  have goal9 : J_ Γ 0 [(0, vr (e0)), (1, vi (x1))] [] σ k_ n_ := by
    refine J_iload_n (q := 1) C0 1 rfl rfl dJ7_copyOf_59c91_0 rfl ?_
    refine J_aload_n (q := 2) C0 0 rfl rfl dJ7_copyOf_59c91_1 rfl trivial ?_
    refine K_some hf (fun b1 hb1 hf => ?_)
    have ab1 : is_A σ b1 12 := (g0) b1 hb1
    refine J_alen (q := 3) C0 hb1 (ab1) (by decide) dJ7_copyOf_59c91_2 rfl ?_
    refine J_icmp_ne (t := 14) (q := 6) C0 dJ7_copyOf_59c91_3 (by decide) rfl hf (fun c2 hf => ?_) (fun c2 hf => ?_)
    · refine J_iload_n (q := 15) C0 1 rfl rfl dJ7_copyOf_59c91_14 rfl ?_
      refine K_chk hf (fun c3 hf => ?_)
      have hm_ := e_J7_copyOf_59c91_B17  hf
      have hk_ : k_ + 1 ≤ mc ∧ n_ + (x1).toNatClampNeg ≤ ms := by have := hm_.1; have := hm_.slots; have := sg_S_new σ 12 (x1).toNatClampNeg; have : sg_N (new_C σ 12 (x1).toNatClampNeg) = sg_N σ + 1 := rfl; have : ce_ 12 (x1).toNatClampNeg = (x1).toNatClampNeg := rfl; have := (show k_ + sg_N r.2 ≤ mc + sg_N σ ∧ n_ + sg_S r.2 ≤ ms + sg_S σ from hc); omega
      refine J_newa (at_ := .int) (kd := 12) (q := 17) C0 (by simp) wt_a_int dJ7_copyOf_59c91_15 rfl (fun q_ => c3 (Or.inl q_)) (by have := Nat.not_lt.mp (fun q_ => c3 (Or.inr q_)); omega) C1.room hk_.1 hk_.2 ?_
      have hc5 : (k_ + 1) + sg_N r.2 ≤ mc + sg_N (new_C σ 12 (x1).toNatClampNeg) ∧ (n_ + (x1).toNatClampNeg) + sg_S r.2 ≤ ms + sg_S (new_C σ 12 (x1).toNatClampNeg) := by have := sg_S_new σ 12 (x1).toNatClampNeg; have : sg_N (new_C σ 12 (x1).toNatClampNeg) = sg_N σ + 1 := rfl; have : ce_ 12 (x1).toNatClampNeg = (x1).toNatClampNeg := rfl; have := (show k_ + sg_N r.2 ≤ mc + sg_N σ ∧ n_ + sg_S r.2 ≤ ms + sg_S σ from hc); omega
      exact t_J7_copyOf_59c91_B17 C1    (e0) (x1) (some (sg_N σ)) (new_C σ 12 (x1).toNatClampNeg) ((hT).new) ((hE).new) ((by rw [hb1]; exact is_O.some ((ab1).new))) (is_O.some (is_A.born σ 12 (x1).toNatClampNeg)) ((k_ + 1)) ((n_ + (x1).toNatClampNeg)) hc5 hf
    · refine J_aload_n (q := 7) C0 0 rfl rfl dJ7_copyOf_59c91_6 rfl trivial ?_
      have hm_ := e_J7_copyOf_59c91_B10  hf
      have hk_ : k_ + 1 ≤ mc ∧ n_ + sg_L σ b1 ≤ ms := by have := hm_.1; have := hm_.slots; have := sg_S_cln σ b1; have : sg_N (cln_I σ b1) = sg_N σ + 1 := rfl; have := (show k_ + sg_N r.2 ≤ mc + sg_N σ ∧ n_ + sg_S r.2 ≤ ms + sg_S σ from hc); omega
      refine J_clone (q := 10) C0 hb1 (ab1) lk_J7_316 sa_783 (wt_in (i := 784) (by decide +kernel) rfl) (wt_in (i := 785) (by decide +kernel) rfl) se_786 dJ7_copyOf_59c91_7 rfl C1.room (by decide) (by simp [ac_]) hk_.1 hk_.2 ?_
      have hc10 : (k_ + 1) + sg_N r.2 ≤ mc + sg_N (cln_I σ b1) ∧ (n_ + sg_L σ b1) + sg_S r.2 ≤ ms + sg_S (cln_I σ b1) := by have := sg_S_cln σ b1; have : sg_N (cln_I σ b1) = sg_N σ + 1 := rfl; have := (show k_ + sg_N r.2 ≤ mc + sg_N σ ∧ n_ + sg_S r.2 ≤ ms + sg_S σ from hc); omega
      refine J_sub (lv' := []) [] rfl ?_
      exact t_J7_copyOf_59c91_B10 C1    (some (sg_N σ)) (cln_I σ b1) ((hT).cln) ((hE).cln) (is_O.some (is_A.bornC σ b1)) ((k_ + 1)) ((n_ + sg_L σ b1)) hc10 hf
  rw [hk0, hn0] at goal9
  exact goal9
def f_X3_written_B11 (a0 : Nat) (s0 : Option Nat) (σ : Sg) : Option ((Option Nat) × Sg) :=
  some (s0, σ)
def f_X3_written (a0 : Nat) (σ : Sg) : Option ((Option Nat) × Sg) :=
  Option.bind (f_J7_copyOf_59c91 (sg_R σ a0 3) (sg_I σ a0 4) σ) fun p1 =>
  f_X3_written_B11 a0 (p1.1) (p1.2)
set_option maxHeartbeats 4000000 in
set_option maxRecDepth 100000 in
theorem e_X3_written_B11 {a0 : Nat} {r : ((Option Nat) × Sg)} {s0 : Option Nat} {σ : Sg} (hf : f_X3_written_B11 a0  s0 σ = some r) : sg_E σ r.2 := by
  unfold f_X3_written_B11 at hf
  obtain rfl := Option.some.inj hf; exact sg_E.rf
set_option maxHeartbeats 4000000 in
set_option maxRecDepth 100000 in
theorem e_X3_written {a0 : Nat} {σ : Sg} {r : ((Option Nat) × Sg)} (hf : f_X3_written a0  σ = some r) : sg_E σ r.2 := by
  unfold f_X3_written at hf
  refine K_some hf (fun p1 hp1 hf => ?_)
  exact ((sg_E.rf).tr (e_J7_copyOf_59c91 hp1)).tr (e_X3_written_B11  hf)
set_option maxHeartbeats 4000000 in
set_option maxRecDepth 100000 in
theorem t_X3_written_B11 {a0 : Nat} {Γ : Gm} {σ0 : Sg} {r : ((Option Nat) × Sg)} {mc ms : Nat} (C1 : CM Γ cX3_written RX3 1 (some (.array .int)) 2 62 mc ms (fun r_ τ_ => (r_ = some (vr r.1) ∧ is_O τ_ r.1 12) ∧ τ_ = r.2 ∧ sg_T τ_ ∧ sg_E σ0 τ_)) (s0 : Option Nat) (σ : Sg) (hT : sg_T σ) (hE : sg_E σ0 σ) (h0 : is_A σ a0 3) (g_s0 : is_O σ s0 12) (k_ n_ : Nat) (hc : (k_ + sg_N r.2 ≤ mc + sg_N σ ∧ n_ + sg_S r.2 ≤ ms + sg_S σ)) (hf : f_X3_written_B11 a0  s0 σ = some r) : J_ Γ 11 [(0, vr (some a0))] [vr (s0)] σ k_ n_ := by
  have C0 := C1.1
  unfold f_X3_written_B11 at hf
  have io9 : is_O σ (s0) 12 := g_s0; obtain rfl := Option.some.inj hf; exact J_aret C1 dX3_written_11 rfl (Or.inr ⟨_, rfl⟩) (by have h9 : k_ + sg_N σ ≤ mc + sg_N σ ∧ n_ + sg_S σ ≤ ms + sg_S σ := hc; omega) (by have h9 : k_ + sg_N σ ≤ mc + sg_N σ ∧ n_ + sg_S σ ≤ ms + sg_S σ := hc; omega) ⟨⟨rfl, io9⟩, rfl, hT, hE⟩
set_option maxHeartbeats 4000000 in
set_option maxRecDepth 100000 in
theorem t_X3_written (a0 : Nat) {σ : Sg} (hT : sg_T σ) (h0 : is_A σ a0 3) {r : ((Option Nat) × Sg)} (hf : f_X3_written a0  σ = some r) {mc ms : Nat} (hc : sg_N r.2 ≤ mc + sg_N σ ∧ sg_S r.2 ≤ ms + sg_S σ) : Ct yX3_written cX3_written 1 (some (.array .int)) 2 62 mc ms [vr (some a0)] σ (fun r_ τ_ => (r_ = some (vr r.1) ∧ is_O τ_ r.1 12) ∧ τ_ = r.2 ∧ sg_T τ_ ∧ sg_E σ τ_) := by
  refine Ct.of (by decide +kernel) (Nat.le_of_ble_eq_true rfl) (fun Γ C1 => ?_)
  have C0 := C1.1
  obtain ⟨k_, hk0⟩ : ∃ t : Nat, t = 0 := ⟨_, rfl⟩
  obtain ⟨n_, hn0⟩ : ∃ t : Nat, t = 0 := ⟨_, rfl⟩
  have hc : k_ + sg_N r.2 ≤ mc + sg_N σ ∧ n_ + sg_S r.2 ≤ ms + sg_S σ := by omega
  have hE : sg_E σ σ := sg_E.rf
  unfold f_X3_written at hf
  have goal9 : J_ Γ 0 [(0, vr (some a0))] [] σ k_ n_ := by
    refine J_aload_n (q := 1) C0 0 rfl rfl dX3_written_0 rfl trivial ?_
    refine J_getR (q := 4) C0 fl_X3_9_3 rfl (h0) rfl dX3_written_1 rfl ?_
    refine J_aload_n (q := 5) C0 0 rfl rfl dX3_written_4 rfl trivial ?_
    refine J_getI (q := 8) C0 fl_X3_15_3 rfl (h0) rfl dX3_written_5 rfl ?_
    refine K_some hf (fun p1 hp1 hf => ?_)
    have hm_ := e_X3_written_B11  hf
    have he_ := e_J7_copyOf_59c91 hp1
    have hk_ : k_ + (sg_N p1.2 - sg_N σ) ≤ mc ∧ n_ + (sg_S p1.2 - sg_S σ) ≤ ms := by have := hm_.1; have := hm_.slots; have := he_.1; have := he_.slots; have := (show k_ + sg_N r.2 ≤ mc + sg_N σ ∧ n_ + sg_S r.2 ≤ ms + sg_S σ from hc); omega
    refine J_callS (q := 11) (as := [vr (sg_R σ a0 3), vi (sg_I σ a0 4)]) (rest := []) C0 (t_J7_copyOf_59c91 (sg_R σ a0 3) (sg_I σ a0 4) (hT) ((sg_T.op hT (j := 3) (h0) rfl)) hp1 (mc := sg_N p1.2 - sg_N σ) (ms := sg_S p1.2 - sg_S σ) (by have h7 := e_J7_copyOf_59c91 hp1; have := h7.1; have := h7.slots; omega)) ml_J7_copyOf_59c91 lk_X3_31 sm_J7_copyOf_59c91 dX3_written_8 rfl rfl rfl (by simp [ac_]) C1.room (by decide) (by decide) hk_.1 hk_.2 (fun r_ τ_ hQ => ?_)
    obtain ⟨⟨rfl, op1⟩, rfl, Tp1, Ep1⟩ := hQ
    have hc2 : (k_ + (sg_N p1.2 - sg_N σ)) + sg_N r.2 ≤ mc + sg_N p1.2 ∧ (n_ + (sg_S p1.2 - sg_S σ)) + sg_S r.2 ≤ ms + sg_S p1.2 := by have := he_.1; have := he_.slots; have := (show k_ + sg_N r.2 ≤ mc + sg_N σ ∧ n_ + sg_S r.2 ≤ ms + sg_S σ from hc); omega
    show J_ Γ 11 [(0, vr (some a0))] [vr (p1.1)] p1.2 (k_ + (sg_N p1.2 - sg_N σ)) (n_ + (sg_S p1.2 - sg_S σ))
    exact t_X3_written_B11 C1    (p1.1) (p1.2) (Tp1) ((hE).tr Ep1) ((Ep1.at h0)) (op1) ((k_ + (sg_N p1.2 - sg_N σ))) ((n_ + (sg_S p1.2 - sg_S σ))) hc2 hf
  rw [hk0, hn0] at goal9
  exact goal9
def f_X9_written_B11 (a0 : Nat) (s0 : Option Nat) (σ : Sg) : Option ((Option Nat) × Sg) :=
  some (s0, σ)
def f_X9_written (a0 : Nat) (σ : Sg) : Option ((Option Nat) × Sg) :=
  Option.bind (f_J7_copyOf_59c91 (sg_R σ a0 3) (sg_I σ a0 4) σ) fun p1 =>
  f_X9_written_B11 a0 (p1.1) (p1.2)
set_option maxHeartbeats 4000000 in
set_option maxRecDepth 100000 in
theorem e_X9_written_B11 {a0 : Nat} {r : ((Option Nat) × Sg)} {s0 : Option Nat} {σ : Sg} (hf : f_X9_written_B11 a0  s0 σ = some r) : sg_E σ r.2 := by
  unfold f_X9_written_B11 at hf
  obtain rfl := Option.some.inj hf; exact sg_E.rf
set_option maxHeartbeats 4000000 in
set_option maxRecDepth 100000 in
theorem e_X9_written {a0 : Nat} {σ : Sg} {r : ((Option Nat) × Sg)} (hf : f_X9_written a0  σ = some r) : sg_E σ r.2 := by
  unfold f_X9_written at hf
  refine K_some hf (fun p1 hp1 hf => ?_)
  exact ((sg_E.rf).tr (e_J7_copyOf_59c91 hp1)).tr (e_X9_written_B11  hf)
set_option maxHeartbeats 4000000 in
set_option maxRecDepth 100000 in
theorem t_X9_written_B11 {a0 : Nat} {Γ : Gm} {σ0 : Sg} {r : ((Option Nat) × Sg)} {mc ms : Nat} (C1 : CM Γ cX9_written RX9 1 (some (.array .int)) 2 62 mc ms (fun r_ τ_ => (r_ = some (vr r.1) ∧ is_O τ_ r.1 12) ∧ τ_ = r.2 ∧ sg_T τ_ ∧ sg_E σ0 τ_)) (s0 : Option Nat) (σ : Sg) (hT : sg_T σ) (hE : sg_E σ0 σ) (h0 : is_A σ a0 8) (g_s0 : is_O σ s0 12) (k_ n_ : Nat) (hc : (k_ + sg_N r.2 ≤ mc + sg_N σ ∧ n_ + sg_S r.2 ≤ ms + sg_S σ)) (hf : f_X9_written_B11 a0  s0 σ = some r) : J_ Γ 11 [(0, vr (some a0))] [vr (s0)] σ k_ n_ := by
  have C0 := C1.1
  unfold f_X9_written_B11 at hf
  have io9 : is_O σ (s0) 12 := g_s0; obtain rfl := Option.some.inj hf; exact J_aret C1 dX9_written_11 rfl (Or.inr ⟨_, rfl⟩) (by have h9 : k_ + sg_N σ ≤ mc + sg_N σ ∧ n_ + sg_S σ ≤ ms + sg_S σ := hc; omega) (by have h9 : k_ + sg_N σ ≤ mc + sg_N σ ∧ n_ + sg_S σ ≤ ms + sg_S σ := hc; omega) ⟨⟨rfl, io9⟩, rfl, hT, hE⟩
set_option maxHeartbeats 4000000 in
set_option maxRecDepth 100000 in
theorem t_X9_written (a0 : Nat) {σ : Sg} (hT : sg_T σ) (h0 : is_A σ a0 8) {r : ((Option Nat) × Sg)} (hf : f_X9_written a0  σ = some r) {mc ms : Nat} (hc : sg_N r.2 ≤ mc + sg_N σ ∧ sg_S r.2 ≤ ms + sg_S σ) : Ct yX9_written cX9_written 1 (some (.array .int)) 2 62 mc ms [vr (some a0)] σ (fun r_ τ_ => (r_ = some (vr r.1) ∧ is_O τ_ r.1 12) ∧ τ_ = r.2 ∧ sg_T τ_ ∧ sg_E σ τ_) := by
  refine Ct.of (by decide +kernel) (Nat.le_of_ble_eq_true rfl) (fun Γ C1 => ?_)
  have C0 := C1.1
  obtain ⟨k_, hk0⟩ : ∃ t : Nat, t = 0 := ⟨_, rfl⟩
  obtain ⟨n_, hn0⟩ : ∃ t : Nat, t = 0 := ⟨_, rfl⟩
  have hc : k_ + sg_N r.2 ≤ mc + sg_N σ ∧ n_ + sg_S r.2 ≤ ms + sg_S σ := by omega
  have hE : sg_E σ σ := sg_E.rf
  unfold f_X9_written at hf
  have goal9 : J_ Γ 0 [(0, vr (some a0))] [] σ k_ n_ := by
    refine J_aload_n (q := 1) C0 0 rfl rfl dX9_written_0 rfl trivial ?_
    refine J_getR (q := 4) C0 fl_X9_9_8 rfl (h0) rfl dX9_written_1 rfl ?_
    refine J_aload_n (q := 5) C0 0 rfl rfl dX9_written_4 rfl trivial ?_
    refine J_getI (q := 8) C0 fl_X9_15_8 rfl (h0) rfl dX9_written_5 rfl ?_
    refine K_some hf (fun p1 hp1 hf => ?_)
    have hm_ := e_X9_written_B11  hf
    have he_ := e_J7_copyOf_59c91 hp1
    have hk_ : k_ + (sg_N p1.2 - sg_N σ) ≤ mc ∧ n_ + (sg_S p1.2 - sg_S σ) ≤ ms := by have := hm_.1; have := hm_.slots; have := he_.1; have := he_.slots; have := (show k_ + sg_N r.2 ≤ mc + sg_N σ ∧ n_ + sg_S r.2 ≤ ms + sg_S σ from hc); omega
    refine J_callS (q := 11) (as := [vr (sg_R σ a0 3), vi (sg_I σ a0 4)]) (rest := []) C0 (t_J7_copyOf_59c91 (sg_R σ a0 3) (sg_I σ a0 4) (hT) ((sg_T.op hT (j := 3) (h0) rfl)) hp1 (mc := sg_N p1.2 - sg_N σ) (ms := sg_S p1.2 - sg_S σ) (by have h7 := e_J7_copyOf_59c91 hp1; have := h7.1; have := h7.slots; omega)) ml_J7_copyOf_59c91 lk_X9_34 sm_J7_copyOf_59c91 dX9_written_8 rfl rfl rfl (by simp [ac_]) C1.room (by decide) (by decide) hk_.1 hk_.2 (fun r_ τ_ hQ => ?_)
    obtain ⟨⟨rfl, op1⟩, rfl, Tp1, Ep1⟩ := hQ
    have hc2 : (k_ + (sg_N p1.2 - sg_N σ)) + sg_N r.2 ≤ mc + sg_N p1.2 ∧ (n_ + (sg_S p1.2 - sg_S σ)) + sg_S r.2 ≤ ms + sg_S p1.2 := by have := he_.1; have := he_.slots; have := (show k_ + sg_N r.2 ≤ mc + sg_N σ ∧ n_ + sg_S r.2 ≤ ms + sg_S σ from hc); omega
    show J_ Γ 11 [(0, vr (some a0))] [vr (p1.1)] p1.2 (k_ + (sg_N p1.2 - sg_N σ)) (n_ + (sg_S p1.2 - sg_S σ))
    exact t_X9_written_B11 C1    (p1.1) (p1.2) (Tp1) ((hE).tr Ep1) ((Ep1.at h0)) (op1) ((k_ + (sg_N p1.2 - sg_N σ))) ((n_ + (sg_S p1.2 - sg_S σ))) hc2 hf
  rw [hk0, hn0] at goal9
  exact goal9
def f_X11_tellLaw_B36 (a0 : Nat) (s0 : Option Nat) (s1 : Int32) (s2 : Option Nat) (σ : Sg) : Option (Int32 × Sg) :=
  Option.bind (s2) fun b11 =>
  Option.bind (s0) fun b12 =>
  if (s1) < 0 ∨ sg_L σ b11 ≤ (s1).toNatClampNeg then none else
  some ((sg_I (put_I (put_R σ b11 (s1).toNatClampNeg (some b12)) a0 6 ((sg_I (put_R σ b11 (s1).toNatClampNeg (some b12)) a0 6) + (1))) a0 6) - (1), put_I (put_R σ b11 (s1).toNatClampNeg (some b12)) a0 6 ((sg_I (put_R σ b11 (s1).toNatClampNeg (some b12)) a0 6) + (1)))
def f_X11_tellLaw_B33 (a0 : Nat) (s0 : Option Nat) (s1 : Option Nat) (s2 : Option Nat) (s3 : Int32) (s4 : Option Nat) (σ : Sg) : Option (Int32 × Sg) :=
  Option.bind (s1) fun b8 =>
  Option.bind (f_X2_init b8 (s0) σ) fun p9 =>
  f_X11_tellLaw_B36 a0 (s2) (s3) (s4) (p9)
def f_X11_tellLaw_B25 (a0 : Nat) (s0 : Option Nat) (s1 : Int32) (s2 : Option Nat) (σ : Sg) : Option (Int32 × Sg) :=
  Option.bind (sg_R σ a0 3) fun b5 =>
  Option.bind (f_X3_written b5  σ) fun p6 =>
  f_X11_tellLaw_B33 a0 (p6.1) (s0) (s0) (s1) (s2) (p6.2)
def f_X11_tellLaw (a0 : Nat) (σ : Sg) : Option (Int32 × Sg) :=
  Option.bind (sg_R σ a0 5) fun b1 =>
  if (sg_I σ a0 6) < (Int32.ofNat (sg_L σ b1)) then
  (f_X11_tellLaw_B25 a0 (some (sg_N σ)) (sg_I σ a0 6) (sg_R σ a0 5) (new_C σ 2 0))
  else
  (some ((-1), σ))
set_option maxHeartbeats 4000000 in
set_option maxRecDepth 100000 in
theorem e_X11_tellLaw_B36 {a0 : Nat} {r : (Int32 × Sg)} {s0 : Option Nat} {s1 : Int32} {s2 : Option Nat} {σ : Sg} (hf : f_X11_tellLaw_B36 a0  s0 s1 s2 σ = some r) : sg_E σ r.2 := by
  unfold f_X11_tellLaw_B36 at hf
  refine K_some hf (fun b11 hb11 hf => ?_)
  refine K_some hf (fun b12 hb12 hf => ?_)
  refine K_chk hf (fun c13 hf => ?_)
  obtain rfl := Option.some.inj hf; exact ((sg_E.rf).putR).putI
set_option maxHeartbeats 4000000 in
set_option maxRecDepth 100000 in
theorem e_X11_tellLaw_B33 {a0 : Nat} {r : (Int32 × Sg)} {s0 : Option Nat} {s1 : Option Nat} {s2 : Option Nat} {s3 : Int32} {s4 : Option Nat} {σ : Sg} (hf : f_X11_tellLaw_B33 a0  s0 s1 s2 s3 s4 σ = some r) : sg_E σ r.2 := by
  unfold f_X11_tellLaw_B33 at hf
  refine K_some hf (fun b8 hb8 hf => ?_)
  refine K_some hf (fun p9 hp9 hf => ?_)
  exact ((sg_E.rf).tr (e_X2_init hp9)).tr (e_X11_tellLaw_B36  hf)
set_option maxHeartbeats 4000000 in
set_option maxRecDepth 100000 in
theorem e_X11_tellLaw_B25 {a0 : Nat} {r : (Int32 × Sg)} {s0 : Option Nat} {s1 : Int32} {s2 : Option Nat} {σ : Sg} (hf : f_X11_tellLaw_B25 a0  s0 s1 s2 σ = some r) : sg_E σ r.2 := by
  unfold f_X11_tellLaw_B25 at hf
  refine K_some hf (fun b5 hb5 hf => ?_)
  refine K_some hf (fun p6 hp6 hf => ?_)
  exact ((sg_E.rf).tr (e_X3_written hp6)).tr (e_X11_tellLaw_B33  hf)
set_option maxHeartbeats 4000000 in
set_option maxRecDepth 100000 in
theorem e_X11_tellLaw {a0 : Nat} {σ : Sg} {r : (Int32 × Sg)} (hf : f_X11_tellLaw a0  σ = some r) : sg_E σ r.2 := by
  unfold f_X11_tellLaw at hf
  refine K_some hf (fun b1 hb1 hf => ?_)
  refine K_ite hf (fun c_ hf => ?_) (fun c_ hf => ?_)
  · exact ((sg_E.rf).new).tr (e_X11_tellLaw_B25  hf)
  · obtain rfl := Option.some.inj hf; exact sg_E.rf
set_option maxHeartbeats 4000000 in
set_option maxRecDepth 100000 in
theorem t_X11_tellLaw_B36 {a0 : Nat} {Γ : Gm} {σ0 : Sg} {r : (Int32 × Sg)} {mc ms : Nat} (C1 : CM Γ cX11_tellLaw RX11 1 (some .int) 3 82 mc ms (fun r_ τ_ => (r_ = some (vi r.1)) ∧ τ_ = r.2 ∧ sg_T τ_ ∧ sg_E σ0 τ_)) (s0 : Option Nat) (s1 : Int32) (s2 : Option Nat) (σ : Sg) (hT : sg_T σ) (hE : sg_E σ0 σ) (h0 : is_A σ a0 10) (g_s0 : is_O σ s0 2) (g_s2 : is_O σ s2 15) (k_ n_ : Nat) (hc : (k_ + sg_N r.2 ≤ mc + sg_N σ ∧ n_ + sg_S r.2 ≤ ms + sg_S σ)) (hf : f_X11_tellLaw_B36 a0  s0 s1 s2 σ = some r) : J_ Γ 36 [(0, vr (some a0))] [vr (s0), vi (s1), vr (s2)] σ k_ n_ := by
  have C0 := C1.1
  unfold f_X11_tellLaw_B36 at hf
  refine K_some hf (fun b11 hb11 hf => ?_)
  have ab11 : is_A σ b11 15 := (g_s2) b11 hb11
  refine K_some hf (fun b12 hb12 hf => ?_)
  have ab12 : is_A σ b12 2 := (g_s0) b12 hb12
  refine K_chk hf (fun c13 hf => ?_)
  refine J_aastN (kd := 15) (ci := 2) (q := 37) C0 hb11 (ab11) (by decide) hb12 (ab12) c13 dX11_tellLaw_36 rfl ?_
  refine J_aload_n (q := 38) C0 0 rfl rfl dX11_tellLaw_37 rfl trivial ?_
  refine J_dup (q := 39) C0 dX11_tellLaw_38 rfl rfl ?_
  refine J_getI (q := 42) C0 fl_X11_44_10 rfl ((h0).putR) rfl dX11_tellLaw_39 rfl ?_
  refine J_iconst (q := 43) (v := 1) C0 dX11_tellLaw_42 rfl rfl ?_
  refine J_iadd (q := 44) C0 dX11_tellLaw_43 rfl ?_
  refine J_putI (q := 47) C0 fl_X11_44_10 rfl ((h0).putR) rfl dX11_tellLaw_44 rfl ?_
  refine J_aload_n (q := 48) C0 0 rfl rfl dX11_tellLaw_47 rfl trivial ?_
  refine J_getI (q := 51) C0 fl_X11_44_10 rfl (((h0).putR).putI) rfl dX11_tellLaw_48 rfl ?_
  refine J_iconst (q := 52) (v := 1) C0 dX11_tellLaw_51 rfl rfl ?_
  refine J_isub (q := 53) C0 dX11_tellLaw_52 rfl ?_
  obtain rfl := Option.some.inj hf; exact J_iret C1 dX11_tellLaw_53 rfl (by have h9 : k_ + sg_N (put_I (put_R σ b11 (s1).toNatClampNeg (some b12)) a0 6 ((sg_I (put_R σ b11 (s1).toNatClampNeg (some b12)) a0 6) + (1))) ≤ mc + sg_N (put_I (put_R σ b11 (s1).toNatClampNeg (some b12)) a0 6 ((sg_I (put_R σ b11 (s1).toNatClampNeg (some b12)) a0 6) + (1))) ∧ n_ + sg_S (put_I (put_R σ b11 (s1).toNatClampNeg (some b12)) a0 6 ((sg_I (put_R σ b11 (s1).toNatClampNeg (some b12)) a0 6) + (1))) ≤ ms + sg_S (put_I (put_R σ b11 (s1).toNatClampNeg (some b12)) a0 6 ((sg_I (put_R σ b11 (s1).toNatClampNeg (some b12)) a0 6) + (1))) := hc; omega) (by have h9 : k_ + sg_N (put_I (put_R σ b11 (s1).toNatClampNeg (some b12)) a0 6 ((sg_I (put_R σ b11 (s1).toNatClampNeg (some b12)) a0 6) + (1))) ≤ mc + sg_N (put_I (put_R σ b11 (s1).toNatClampNeg (some b12)) a0 6 ((sg_I (put_R σ b11 (s1).toNatClampNeg (some b12)) a0 6) + (1))) ∧ n_ + sg_S (put_I (put_R σ b11 (s1).toNatClampNeg (some b12)) a0 6 ((sg_I (put_R σ b11 (s1).toNatClampNeg (some b12)) a0 6) + (1))) ≤ ms + sg_S (put_I (put_R σ b11 (s1).toNatClampNeg (some b12)) a0 6 ((sg_I (put_R σ b11 (s1).toNatClampNeg (some b12)) a0 6) + (1))) := hc; omega) ⟨rfl, rfl, ((sg_T.putR hT (by rw [(ab11).2]; exact is_O.some (ab12)))).putI, ((hE).putR).putI⟩
set_option maxHeartbeats 4000000 in
set_option maxRecDepth 100000 in
theorem t_X11_tellLaw_B33 {a0 : Nat} {Γ : Gm} {σ0 : Sg} {r : (Int32 × Sg)} {mc ms : Nat} (C1 : CM Γ cX11_tellLaw RX11 1 (some .int) 3 82 mc ms (fun r_ τ_ => (r_ = some (vi r.1)) ∧ τ_ = r.2 ∧ sg_T τ_ ∧ sg_E σ0 τ_)) (s0 : Option Nat) (s1 : Option Nat) (s2 : Option Nat) (s3 : Int32) (s4 : Option Nat) (σ : Sg) (hT : sg_T σ) (hE : sg_E σ0 σ) (h0 : is_A σ a0 10) (g_s0 : is_O σ s0 12) (g_s1 : is_O σ s1 2) (g_s2 : is_O σ s2 2) (g_s4 : is_O σ s4 15) (k_ n_ : Nat) (hc : (k_ + sg_N r.2 ≤ mc + sg_N σ ∧ n_ + sg_S r.2 ≤ ms + sg_S σ)) (hf : f_X11_tellLaw_B33 a0  s0 s1 s2 s3 s4 σ = some r) : J_ Γ 33 [(0, vr (some a0))] [vr (s0), vr (s1), vr (s2), vi (s3), vr (s4)] σ k_ n_ := by
  have C0 := C1.1
  unfold f_X11_tellLaw_B33 at hf
  refine K_some hf (fun b8 hb8 hf => ?_)
  have ab8 : is_A σ b8 2 := (g_s1) b8 hb8
  refine K_some hf (fun p9 hp9 hf => ?_)
  have hm_ := e_X11_tellLaw_B36  hf
  have he_ := e_X2_init hp9
  have hk_ : k_ + (sg_N p9 - sg_N σ) ≤ mc ∧ n_ + (sg_S p9 - sg_S σ) ≤ ms := by have := hm_.1; have := hm_.slots; have := he_.1; have := he_.slots; have := (show k_ + sg_N r.2 ≤ mc + sg_N σ ∧ n_ + sg_S r.2 ≤ ms + sg_S σ from hc); omega
  refine J_callI (q := 36) (as := [vr (s0)]) (rest := [vr (s2), vi (s3), vr (s4)]) C0 hb8 (t_X2_init b8 (s0) (hT) (ab8) (g_s0) hp9 (mc := sg_N p9 - sg_N σ) (ms := sg_S p9 - sg_S σ) (by have h7 := e_X2_init hp9; have := h7.1; have := h7.slots; omega)) ml_X2_init lk_X11_181 im_X2_init rfl dX11_tellLaw_33 rfl rfl rfl (by simp [ac_]) C1.room (by decide) (by decide) hk_.1 hk_.2 (fun r_ τ_ hQ => ?_)
  obtain ⟨rfl, ht_, Tp9, Ep9⟩ := hQ; have ht_ := ht_.symm; subst ht_
  have hc10 : (k_ + (sg_N p9 - sg_N σ)) + sg_N r.2 ≤ mc + sg_N p9 ∧ (n_ + (sg_S p9 - sg_S σ)) + sg_S r.2 ≤ ms + sg_S p9 := by have := he_.1; have := he_.slots; have := (show k_ + sg_N r.2 ≤ mc + sg_N σ ∧ n_ + sg_S r.2 ≤ ms + sg_S σ from hc); omega
  show J_ Γ 36 [(0, vr (some a0))] [vr (s2), vi (s3), vr (s4)] p9 (k_ + (sg_N p9 - sg_N σ)) (n_ + (sg_S p9 - sg_S σ))
  exact t_X11_tellLaw_B36 C1    (s2) (s3) (s4) (p9) (Tp9) ((hE).tr Ep9) ((Ep9.at h0)) ((Ep9.op g_s2)) ((Ep9.op g_s4)) ((k_ + (sg_N p9 - sg_N σ))) ((n_ + (sg_S p9 - sg_S σ))) hc10 hf
set_option maxHeartbeats 4000000 in
set_option maxRecDepth 100000 in
theorem t_X11_tellLaw_B25 {a0 : Nat} {Γ : Gm} {σ0 : Sg} {r : (Int32 × Sg)} {mc ms : Nat} (C1 : CM Γ cX11_tellLaw RX11 1 (some .int) 3 82 mc ms (fun r_ τ_ => (r_ = some (vi r.1)) ∧ τ_ = r.2 ∧ sg_T τ_ ∧ sg_E σ0 τ_)) (s0 : Option Nat) (s1 : Int32) (s2 : Option Nat) (σ : Sg) (hT : sg_T σ) (hE : sg_E σ0 σ) (h0 : is_A σ a0 10) (g_s0 : is_O σ s0 2) (g_s2 : is_O σ s2 15) (k_ n_ : Nat) (hc : (k_ + sg_N r.2 ≤ mc + sg_N σ ∧ n_ + sg_S r.2 ≤ ms + sg_S σ)) (hf : f_X11_tellLaw_B25 a0  s0 s1 s2 σ = some r) : J_ Γ 25 [(0, vr (some a0))] [vr (s0), vi (s1), vr (s2)] σ k_ n_ := by
  have C0 := C1.1
  unfold f_X11_tellLaw_B25 at hf
  refine J_dup (q := 26) C0 dX11_tellLaw_25 rfl rfl ?_
  refine J_aload_n (q := 27) C0 0 rfl rfl dX11_tellLaw_26 rfl trivial ?_
  refine J_getR (q := 30) C0 fl_X11_27_10 rfl (h0) rfl dX11_tellLaw_27 rfl ?_
  refine K_some hf (fun b5 hb5 hf => ?_)
  have ab5 : is_A σ b5 3 := ((sg_T.op hT (j := 3) (h0) rfl)) b5 hb5
  refine K_some hf (fun p6 hp6 hf => ?_)
  have hm_ := e_X11_tellLaw_B33  hf
  have he_ := e_X3_written hp6
  have hk_ : k_ + (sg_N p6.2 - sg_N σ) ≤ mc ∧ n_ + (sg_S p6.2 - sg_S σ) ≤ ms := by have := hm_.1; have := hm_.slots; have := he_.1; have := he_.slots; have := (show k_ + sg_N r.2 ≤ mc + sg_N σ ∧ n_ + sg_S r.2 ≤ ms + sg_S σ from hc); omega
  refine J_callV (q := 33) (ci := 3) (as := []) (rest := [vr (s0), vr (s0), vi (s1), vr (s2)]) C0 hb5 (ab5) (t_X3_written b5  (hT) (ab5)  hp6 (mc := sg_N p6.2 - sg_N σ) (ms := sg_S p6.2 - sg_S σ) (by have h7 := e_X3_written hp6; have := h7.1; have := h7.slots; omega)) ml_X3_written lk_X11_177 im_X3_written se_X3_written rfl (by decide) dX11_tellLaw_30 rfl rfl rfl (by simp [ac_]) C1.room (by decide) (by decide) hk_.1 hk_.2 (fun r_ τ_ hQ => ?_)
  obtain ⟨⟨rfl, op6⟩, rfl, Tp6, Ep6⟩ := hQ
  have hc7 : (k_ + (sg_N p6.2 - sg_N σ)) + sg_N r.2 ≤ mc + sg_N p6.2 ∧ (n_ + (sg_S p6.2 - sg_S σ)) + sg_S r.2 ≤ ms + sg_S p6.2 := by have := he_.1; have := he_.slots; have := (show k_ + sg_N r.2 ≤ mc + sg_N σ ∧ n_ + sg_S r.2 ≤ ms + sg_S σ from hc); omega
  show J_ Γ 33 [(0, vr (some a0))] [vr (p6.1), vr (s0), vr (s0), vi (s1), vr (s2)] p6.2 (k_ + (sg_N p6.2 - sg_N σ)) (n_ + (sg_S p6.2 - sg_S σ))
  exact t_X11_tellLaw_B33 C1    (p6.1) (s0) (s0) (s1) (s2) (p6.2) (Tp6) ((hE).tr Ep6) ((Ep6.at h0)) (op6) ((Ep6.op g_s0)) ((Ep6.op g_s0)) ((Ep6.op g_s2)) ((k_ + (sg_N p6.2 - sg_N σ))) ((n_ + (sg_S p6.2 - sg_S σ))) hc7 hf
set_option maxHeartbeats 4000000 in
set_option maxRecDepth 100000 in
theorem t_X11_tellLaw (a0 : Nat) {σ : Sg} (hT : sg_T σ) (h0 : is_A σ a0 10) {r : (Int32 × Sg)} (hf : f_X11_tellLaw a0  σ = some r) {mc ms : Nat} (hc : sg_N r.2 ≤ mc + sg_N σ ∧ sg_S r.2 ≤ ms + sg_S σ) : Ct yX11_tellLaw cX11_tellLaw 1 (some .int) 3 82 mc ms [vr (some a0)] σ (fun r_ τ_ => (r_ = some (vi r.1)) ∧ τ_ = r.2 ∧ sg_T τ_ ∧ sg_E σ τ_) := by
  refine Ct.of (by decide +kernel) (Nat.le_of_ble_eq_true rfl) (fun Γ C1 => ?_)
  have C0 := C1.1
  obtain ⟨k_, hk0⟩ : ∃ t : Nat, t = 0 := ⟨_, rfl⟩
  obtain ⟨n_, hn0⟩ : ∃ t : Nat, t = 0 := ⟨_, rfl⟩
  have hc : k_ + sg_N r.2 ≤ mc + sg_N σ ∧ n_ + sg_S r.2 ≤ ms + sg_S σ := by omega
  have hE : sg_E σ σ := sg_E.rf
  unfold f_X11_tellLaw at hf
  have goal9 : J_ Γ 0 [(0, vr (some a0))] [] σ k_ n_ := by
    refine J_aload_n (q := 1) C0 0 rfl rfl dX11_tellLaw_0 rfl trivial ?_
    refine J_getI (q := 4) C0 fl_X11_44_10 rfl (h0) rfl dX11_tellLaw_1 rfl ?_
    refine J_aload_n (q := 5) C0 0 rfl rfl dX11_tellLaw_4 rfl trivial ?_
    refine J_getR (q := 8) C0 fl_X11_40_10 rfl (h0) rfl dX11_tellLaw_5 rfl ?_
    refine K_some hf (fun b1 hb1 hf => ?_)
    have ab1 : is_A σ b1 15 := ((sg_T.op hT (j := 5) (h0) rfl)) b1 hb1
    refine J_alen (q := 9) C0 hb1 (ab1) (by decide) dX11_tellLaw_8 rfl ?_
    refine J_icmp_lt (t := 14) (q := 12) C0 dX11_tellLaw_9 (by decide) rfl hf (fun c2 hf => ?_) (fun c2 hf => ?_)
    · refine J_aload_n (q := 15) C0 0 rfl rfl dX11_tellLaw_14 rfl trivial ?_
      refine J_getR (q := 18) C0 fl_X11_40_10 rfl (h0) rfl dX11_tellLaw_15 rfl ?_
      refine J_aload_n (q := 19) C0 0 rfl rfl dX11_tellLaw_18 rfl trivial ?_
      refine J_getI (q := 22) C0 fl_X11_44_10 rfl (h0) rfl dX11_tellLaw_19 rfl ?_
      have hm_ := e_X11_tellLaw_B25  hf
      have hk_ : k_ + 1 ≤ mc ∧ n_ + 3 ≤ ms := by have := hm_.1; have := hm_.slots; have := sg_S_new σ 2 0; have : sg_N (new_C σ 2 0) = sg_N σ + 1 := rfl; have : ce_ 2 0 = 3 := rfl; have := (show k_ + sg_N r.2 ≤ mc + sg_N σ ∧ n_ + sg_S r.2 ≤ ms + sg_S σ from hc); omega
      refine J_new (q := 25) C0 cl_X2 df_X2 kl_X11_38 in_X2 iz_X2 dX11_tellLaw_22 rfl C1.room hk_.1 hk_.2 ?_
      have hc4 : (k_ + 1) + sg_N r.2 ≤ mc + sg_N (new_C σ 2 0) ∧ (n_ + 3) + sg_S r.2 ≤ ms + sg_S (new_C σ 2 0) := by have := sg_S_new σ 2 0; have : sg_N (new_C σ 2 0) = sg_N σ + 1 := rfl; have : ce_ 2 0 = 3 := rfl; have := (show k_ + sg_N r.2 ≤ mc + sg_N σ ∧ n_ + sg_S r.2 ≤ ms + sg_S σ from hc); omega
      exact t_X11_tellLaw_B25 C1    (some (sg_N σ)) (sg_I σ a0 6) (sg_R σ a0 5) (new_C σ 2 0) ((hT).new) ((hE).new) ((h0).new) (is_O.some (is_A.born σ 2 0)) ((by rw [hb1]; exact is_O.some ((ab1).new))) ((k_ + 1)) ((n_ + 3)) hc4 hf
    · refine J_iconst (q := 13) (v := (-1)) C0 dX11_tellLaw_12 rfl rfl ?_
      obtain rfl := Option.some.inj hf; exact J_iret C1 dX11_tellLaw_13 rfl (by have h9 : k_ + sg_N σ ≤ mc + sg_N σ ∧ n_ + sg_S σ ≤ ms + sg_S σ := hc; omega) (by have h9 : k_ + sg_N σ ≤ mc + sg_N σ ∧ n_ + sg_S σ ≤ ms + sg_S σ := hc; omega) ⟨rfl, rfl, hT, hE⟩
  rw [hk0, hn0] at goal9
  exact goal9
def f_X11_tellStrip_B36 (a0 : Nat) (s0 : Option Nat) (s1 : Int32) (s2 : Option Nat) (σ : Sg) : Option (Int32 × Sg) :=
  Option.bind (s2) fun b11 =>
  Option.bind (s0) fun b12 =>
  if (s1) < 0 ∨ sg_L σ b11 ≤ (s1).toNatClampNeg then none else
  some ((sg_I (put_I (put_R σ b11 (s1).toNatClampNeg (some b12)) a0 9 ((sg_I (put_R σ b11 (s1).toNatClampNeg (some b12)) a0 9) + (1))) a0 9) - (1), put_I (put_R σ b11 (s1).toNatClampNeg (some b12)) a0 9 ((sg_I (put_R σ b11 (s1).toNatClampNeg (some b12)) a0 9) + (1)))
def f_X11_tellStrip_B33 (a0 : Nat) (s0 : Option Nat) (s1 : Option Nat) (s2 : Option Nat) (s3 : Int32) (s4 : Option Nat) (σ : Sg) : Option (Int32 × Sg) :=
  Option.bind (s1) fun b8 =>
  Option.bind (f_X8_init b8 (s0) σ) fun p9 =>
  f_X11_tellStrip_B36 a0 (s2) (s3) (s4) (p9)
def f_X11_tellStrip_B25 (a0 : Nat) (s0 : Option Nat) (s1 : Int32) (s2 : Option Nat) (σ : Sg) : Option (Int32 × Sg) :=
  Option.bind (sg_R σ a0 4) fun b5 =>
  Option.bind (f_X9_written b5  σ) fun p6 =>
  f_X11_tellStrip_B33 a0 (p6.1) (s0) (s0) (s1) (s2) (p6.2)
def f_X11_tellStrip (a0 : Nat) (σ : Sg) : Option (Int32 × Sg) :=
  Option.bind (sg_R σ a0 8) fun b1 =>
  if (sg_I σ a0 9) < (Int32.ofNat (sg_L σ b1)) then
  (f_X11_tellStrip_B25 a0 (some (sg_N σ)) (sg_I σ a0 9) (sg_R σ a0 8) (new_C σ 7 0))
  else
  (some ((-1), σ))
set_option maxHeartbeats 4000000 in
set_option maxRecDepth 100000 in
theorem e_X11_tellStrip_B36 {a0 : Nat} {r : (Int32 × Sg)} {s0 : Option Nat} {s1 : Int32} {s2 : Option Nat} {σ : Sg} (hf : f_X11_tellStrip_B36 a0  s0 s1 s2 σ = some r) : sg_E σ r.2 := by
  unfold f_X11_tellStrip_B36 at hf
  refine K_some hf (fun b11 hb11 hf => ?_)
  refine K_some hf (fun b12 hb12 hf => ?_)
  refine K_chk hf (fun c13 hf => ?_)
  obtain rfl := Option.some.inj hf; exact ((sg_E.rf).putR).putI
set_option maxHeartbeats 4000000 in
set_option maxRecDepth 100000 in
theorem e_X11_tellStrip_B33 {a0 : Nat} {r : (Int32 × Sg)} {s0 : Option Nat} {s1 : Option Nat} {s2 : Option Nat} {s3 : Int32} {s4 : Option Nat} {σ : Sg} (hf : f_X11_tellStrip_B33 a0  s0 s1 s2 s3 s4 σ = some r) : sg_E σ r.2 := by
  unfold f_X11_tellStrip_B33 at hf
  refine K_some hf (fun b8 hb8 hf => ?_)
  refine K_some hf (fun p9 hp9 hf => ?_)
  exact ((sg_E.rf).tr (e_X8_init hp9)).tr (e_X11_tellStrip_B36  hf)
set_option maxHeartbeats 4000000 in
set_option maxRecDepth 100000 in
theorem e_X11_tellStrip_B25 {a0 : Nat} {r : (Int32 × Sg)} {s0 : Option Nat} {s1 : Int32} {s2 : Option Nat} {σ : Sg} (hf : f_X11_tellStrip_B25 a0  s0 s1 s2 σ = some r) : sg_E σ r.2 := by
  unfold f_X11_tellStrip_B25 at hf
  refine K_some hf (fun b5 hb5 hf => ?_)
  refine K_some hf (fun p6 hp6 hf => ?_)
  exact ((sg_E.rf).tr (e_X9_written hp6)).tr (e_X11_tellStrip_B33  hf)
set_option maxHeartbeats 4000000 in
set_option maxRecDepth 100000 in
theorem e_X11_tellStrip {a0 : Nat} {σ : Sg} {r : (Int32 × Sg)} (hf : f_X11_tellStrip a0  σ = some r) : sg_E σ r.2 := by
  unfold f_X11_tellStrip at hf
  refine K_some hf (fun b1 hb1 hf => ?_)
  refine K_ite hf (fun c_ hf => ?_) (fun c_ hf => ?_)
  · exact ((sg_E.rf).new).tr (e_X11_tellStrip_B25  hf)
  · obtain rfl := Option.some.inj hf; exact sg_E.rf
set_option maxHeartbeats 4000000 in
set_option maxRecDepth 100000 in
theorem t_X11_tellStrip_B36 {a0 : Nat} {Γ : Gm} {σ0 : Sg} {r : (Int32 × Sg)} {mc ms : Nat} (C1 : CM Γ cX11_tellStrip RX11 1 (some .int) 3 82 mc ms (fun r_ τ_ => (r_ = some (vi r.1)) ∧ τ_ = r.2 ∧ sg_T τ_ ∧ sg_E σ0 τ_)) (s0 : Option Nat) (s1 : Int32) (s2 : Option Nat) (σ : Sg) (hT : sg_T σ) (hE : sg_E σ0 σ) (h0 : is_A σ a0 10) (g_s0 : is_O σ s0 7) (g_s2 : is_O σ s2 17) (k_ n_ : Nat) (hc : (k_ + sg_N r.2 ≤ mc + sg_N σ ∧ n_ + sg_S r.2 ≤ ms + sg_S σ)) (hf : f_X11_tellStrip_B36 a0  s0 s1 s2 σ = some r) : J_ Γ 36 [(0, vr (some a0))] [vr (s0), vi (s1), vr (s2)] σ k_ n_ := by
  have C0 := C1.1
  unfold f_X11_tellStrip_B36 at hf
  refine K_some hf (fun b11 hb11 hf => ?_)
  have ab11 : is_A σ b11 17 := (g_s2) b11 hb11
  refine K_some hf (fun b12 hb12 hf => ?_)
  have ab12 : is_A σ b12 7 := (g_s0) b12 hb12
  refine K_chk hf (fun c13 hf => ?_)
  refine J_aastN (kd := 17) (ci := 7) (q := 37) C0 hb11 (ab11) (by decide) hb12 (ab12) c13 dX11_tellStrip_36 rfl ?_
  refine J_aload_n (q := 38) C0 0 rfl rfl dX11_tellStrip_37 rfl trivial ?_
  refine J_dup (q := 39) C0 dX11_tellStrip_38 rfl rfl ?_
  refine J_getI (q := 42) C0 fl_X11_56_10 rfl ((h0).putR) rfl dX11_tellStrip_39 rfl ?_
  refine J_iconst (q := 43) (v := 1) C0 dX11_tellStrip_42 rfl rfl ?_
  refine J_iadd (q := 44) C0 dX11_tellStrip_43 rfl ?_
  refine J_putI (q := 47) C0 fl_X11_56_10 rfl ((h0).putR) rfl dX11_tellStrip_44 rfl ?_
  refine J_aload_n (q := 48) C0 0 rfl rfl dX11_tellStrip_47 rfl trivial ?_
  refine J_getI (q := 51) C0 fl_X11_56_10 rfl (((h0).putR).putI) rfl dX11_tellStrip_48 rfl ?_
  refine J_iconst (q := 52) (v := 1) C0 dX11_tellStrip_51 rfl rfl ?_
  refine J_isub (q := 53) C0 dX11_tellStrip_52 rfl ?_
  obtain rfl := Option.some.inj hf; exact J_iret C1 dX11_tellStrip_53 rfl (by have h9 : k_ + sg_N (put_I (put_R σ b11 (s1).toNatClampNeg (some b12)) a0 9 ((sg_I (put_R σ b11 (s1).toNatClampNeg (some b12)) a0 9) + (1))) ≤ mc + sg_N (put_I (put_R σ b11 (s1).toNatClampNeg (some b12)) a0 9 ((sg_I (put_R σ b11 (s1).toNatClampNeg (some b12)) a0 9) + (1))) ∧ n_ + sg_S (put_I (put_R σ b11 (s1).toNatClampNeg (some b12)) a0 9 ((sg_I (put_R σ b11 (s1).toNatClampNeg (some b12)) a0 9) + (1))) ≤ ms + sg_S (put_I (put_R σ b11 (s1).toNatClampNeg (some b12)) a0 9 ((sg_I (put_R σ b11 (s1).toNatClampNeg (some b12)) a0 9) + (1))) := hc; omega) (by have h9 : k_ + sg_N (put_I (put_R σ b11 (s1).toNatClampNeg (some b12)) a0 9 ((sg_I (put_R σ b11 (s1).toNatClampNeg (some b12)) a0 9) + (1))) ≤ mc + sg_N (put_I (put_R σ b11 (s1).toNatClampNeg (some b12)) a0 9 ((sg_I (put_R σ b11 (s1).toNatClampNeg (some b12)) a0 9) + (1))) ∧ n_ + sg_S (put_I (put_R σ b11 (s1).toNatClampNeg (some b12)) a0 9 ((sg_I (put_R σ b11 (s1).toNatClampNeg (some b12)) a0 9) + (1))) ≤ ms + sg_S (put_I (put_R σ b11 (s1).toNatClampNeg (some b12)) a0 9 ((sg_I (put_R σ b11 (s1).toNatClampNeg (some b12)) a0 9) + (1))) := hc; omega) ⟨rfl, rfl, ((sg_T.putR hT (by rw [(ab11).2]; exact is_O.some (ab12)))).putI, ((hE).putR).putI⟩
set_option maxHeartbeats 4000000 in
set_option maxRecDepth 100000 in
theorem t_X11_tellStrip_B33 {a0 : Nat} {Γ : Gm} {σ0 : Sg} {r : (Int32 × Sg)} {mc ms : Nat} (C1 : CM Γ cX11_tellStrip RX11 1 (some .int) 3 82 mc ms (fun r_ τ_ => (r_ = some (vi r.1)) ∧ τ_ = r.2 ∧ sg_T τ_ ∧ sg_E σ0 τ_)) (s0 : Option Nat) (s1 : Option Nat) (s2 : Option Nat) (s3 : Int32) (s4 : Option Nat) (σ : Sg) (hT : sg_T σ) (hE : sg_E σ0 σ) (h0 : is_A σ a0 10) (g_s0 : is_O σ s0 12) (g_s1 : is_O σ s1 7) (g_s2 : is_O σ s2 7) (g_s4 : is_O σ s4 17) (k_ n_ : Nat) (hc : (k_ + sg_N r.2 ≤ mc + sg_N σ ∧ n_ + sg_S r.2 ≤ ms + sg_S σ)) (hf : f_X11_tellStrip_B33 a0  s0 s1 s2 s3 s4 σ = some r) : J_ Γ 33 [(0, vr (some a0))] [vr (s0), vr (s1), vr (s2), vi (s3), vr (s4)] σ k_ n_ := by
  have C0 := C1.1
  unfold f_X11_tellStrip_B33 at hf
  refine K_some hf (fun b8 hb8 hf => ?_)
  have ab8 : is_A σ b8 7 := (g_s1) b8 hb8
  refine K_some hf (fun p9 hp9 hf => ?_)
  have hm_ := e_X11_tellStrip_B36  hf
  have he_ := e_X8_init hp9
  have hk_ : k_ + (sg_N p9 - sg_N σ) ≤ mc ∧ n_ + (sg_S p9 - sg_S σ) ≤ ms := by have := hm_.1; have := hm_.slots; have := he_.1; have := he_.slots; have := (show k_ + sg_N r.2 ≤ mc + sg_N σ ∧ n_ + sg_S r.2 ≤ ms + sg_S σ from hc); omega
  refine J_callI (q := 36) (as := [vr (s0)]) (rest := [vr (s2), vi (s3), vr (s4)]) C0 hb8 (t_X8_init b8 (s0) (hT) (ab8) (g_s0) hp9 (mc := sg_N p9 - sg_N σ) (ms := sg_S p9 - sg_S σ) (by have h7 := e_X8_init hp9; have := h7.1; have := h7.slots; omega)) ml_X8_init lk_X11_59 im_X8_init rfl dX11_tellStrip_33 rfl rfl rfl (by simp [ac_]) C1.room (by decide) (by decide) hk_.1 hk_.2 (fun r_ τ_ hQ => ?_)
  obtain ⟨rfl, ht_, Tp9, Ep9⟩ := hQ; have ht_ := ht_.symm; subst ht_
  have hc10 : (k_ + (sg_N p9 - sg_N σ)) + sg_N r.2 ≤ mc + sg_N p9 ∧ (n_ + (sg_S p9 - sg_S σ)) + sg_S r.2 ≤ ms + sg_S p9 := by have := he_.1; have := he_.slots; have := (show k_ + sg_N r.2 ≤ mc + sg_N σ ∧ n_ + sg_S r.2 ≤ ms + sg_S σ from hc); omega
  show J_ Γ 36 [(0, vr (some a0))] [vr (s2), vi (s3), vr (s4)] p9 (k_ + (sg_N p9 - sg_N σ)) (n_ + (sg_S p9 - sg_S σ))
  exact t_X11_tellStrip_B36 C1    (s2) (s3) (s4) (p9) (Tp9) ((hE).tr Ep9) ((Ep9.at h0)) ((Ep9.op g_s2)) ((Ep9.op g_s4)) ((k_ + (sg_N p9 - sg_N σ))) ((n_ + (sg_S p9 - sg_S σ))) hc10 hf
set_option maxHeartbeats 4000000 in
set_option maxRecDepth 100000 in
theorem t_X11_tellStrip_B25 {a0 : Nat} {Γ : Gm} {σ0 : Sg} {r : (Int32 × Sg)} {mc ms : Nat} (C1 : CM Γ cX11_tellStrip RX11 1 (some .int) 3 82 mc ms (fun r_ τ_ => (r_ = some (vi r.1)) ∧ τ_ = r.2 ∧ sg_T τ_ ∧ sg_E σ0 τ_)) (s0 : Option Nat) (s1 : Int32) (s2 : Option Nat) (σ : Sg) (hT : sg_T σ) (hE : sg_E σ0 σ) (h0 : is_A σ a0 10) (g_s0 : is_O σ s0 7) (g_s2 : is_O σ s2 17) (k_ n_ : Nat) (hc : (k_ + sg_N r.2 ≤ mc + sg_N σ ∧ n_ + sg_S r.2 ≤ ms + sg_S σ)) (hf : f_X11_tellStrip_B25 a0  s0 s1 s2 σ = some r) : J_ Γ 25 [(0, vr (some a0))] [vr (s0), vi (s1), vr (s2)] σ k_ n_ := by
  have C0 := C1.1
  unfold f_X11_tellStrip_B25 at hf
  refine J_dup (q := 26) C0 dX11_tellStrip_25 rfl rfl ?_
  refine J_aload_n (q := 27) C0 0 rfl rfl dX11_tellStrip_26 rfl trivial ?_
  refine J_getR (q := 30) C0 fl_X11_34_10 rfl (h0) rfl dX11_tellStrip_27 rfl ?_
  refine K_some hf (fun b5 hb5 hf => ?_)
  have ab5 : is_A σ b5 8 := ((sg_T.op hT (j := 4) (h0) rfl)) b5 hb5
  refine K_some hf (fun p6 hp6 hf => ?_)
  have hm_ := e_X11_tellStrip_B33  hf
  have he_ := e_X9_written hp6
  have hk_ : k_ + (sg_N p6.2 - sg_N σ) ≤ mc ∧ n_ + (sg_S p6.2 - sg_S σ) ≤ ms := by have := hm_.1; have := hm_.slots; have := he_.1; have := he_.slots; have := (show k_ + sg_N r.2 ≤ mc + sg_N σ ∧ n_ + sg_S r.2 ≤ ms + sg_S σ from hc); omega
  refine J_callV (q := 33) (ci := 8) (as := []) (rest := [vr (s0), vr (s0), vi (s1), vr (s2)]) C0 hb5 (ab5) (t_X9_written b5  (hT) (ab5)  hp6 (mc := sg_N p6.2 - sg_N σ) (ms := sg_S p6.2 - sg_S σ) (by have h7 := e_X9_written hp6; have := h7.1; have := h7.slots; omega)) ml_X9_written lk_X11_182 im_X9_written se_X9_written rfl (by decide) dX11_tellStrip_30 rfl rfl rfl (by simp [ac_]) C1.room (by decide) (by decide) hk_.1 hk_.2 (fun r_ τ_ hQ => ?_)
  obtain ⟨⟨rfl, op6⟩, rfl, Tp6, Ep6⟩ := hQ
  have hc7 : (k_ + (sg_N p6.2 - sg_N σ)) + sg_N r.2 ≤ mc + sg_N p6.2 ∧ (n_ + (sg_S p6.2 - sg_S σ)) + sg_S r.2 ≤ ms + sg_S p6.2 := by have := he_.1; have := he_.slots; have := (show k_ + sg_N r.2 ≤ mc + sg_N σ ∧ n_ + sg_S r.2 ≤ ms + sg_S σ from hc); omega
  show J_ Γ 33 [(0, vr (some a0))] [vr (p6.1), vr (s0), vr (s0), vi (s1), vr (s2)] p6.2 (k_ + (sg_N p6.2 - sg_N σ)) (n_ + (sg_S p6.2 - sg_S σ))
  exact t_X11_tellStrip_B33 C1    (p6.1) (s0) (s0) (s1) (s2) (p6.2) (Tp6) ((hE).tr Ep6) ((Ep6.at h0)) (op6) ((Ep6.op g_s0)) ((Ep6.op g_s0)) ((Ep6.op g_s2)) ((k_ + (sg_N p6.2 - sg_N σ))) ((n_ + (sg_S p6.2 - sg_S σ))) hc7 hf
set_option maxHeartbeats 4000000 in
set_option maxRecDepth 100000 in
theorem t_X11_tellStrip (a0 : Nat) {σ : Sg} (hT : sg_T σ) (h0 : is_A σ a0 10) {r : (Int32 × Sg)} (hf : f_X11_tellStrip a0  σ = some r) {mc ms : Nat} (hc : sg_N r.2 ≤ mc + sg_N σ ∧ sg_S r.2 ≤ ms + sg_S σ) : Ct yX11_tellStrip cX11_tellStrip 1 (some .int) 3 82 mc ms [vr (some a0)] σ (fun r_ τ_ => (r_ = some (vi r.1)) ∧ τ_ = r.2 ∧ sg_T τ_ ∧ sg_E σ τ_) := by
  refine Ct.of (by decide +kernel) (Nat.le_of_ble_eq_true rfl) (fun Γ C1 => ?_)
  have C0 := C1.1
  obtain ⟨k_, hk0⟩ : ∃ t : Nat, t = 0 := ⟨_, rfl⟩
  obtain ⟨n_, hn0⟩ : ∃ t : Nat, t = 0 := ⟨_, rfl⟩
  have hc : k_ + sg_N r.2 ≤ mc + sg_N σ ∧ n_ + sg_S r.2 ≤ ms + sg_S σ := by omega
  have hE : sg_E σ σ := sg_E.rf
  unfold f_X11_tellStrip at hf
  have goal9 : J_ Γ 0 [(0, vr (some a0))] [] σ k_ n_ := by
    refine J_aload_n (q := 1) C0 0 rfl rfl dX11_tellStrip_0 rfl trivial ?_
    refine J_getI (q := 4) C0 fl_X11_56_10 rfl (h0) rfl dX11_tellStrip_1 rfl ?_
    refine J_aload_n (q := 5) C0 0 rfl rfl dX11_tellStrip_4 rfl trivial ?_
    refine J_getR (q := 8) C0 fl_X11_52_10 rfl (h0) rfl dX11_tellStrip_5 rfl ?_
    refine K_some hf (fun b1 hb1 hf => ?_)
    have ab1 : is_A σ b1 17 := ((sg_T.op hT (j := 8) (h0) rfl)) b1 hb1
    refine J_alen (q := 9) C0 hb1 (ab1) (by decide) dX11_tellStrip_8 rfl ?_
    refine J_icmp_lt (t := 14) (q := 12) C0 dX11_tellStrip_9 (by decide) rfl hf (fun c2 hf => ?_) (fun c2 hf => ?_)
    · refine J_aload_n (q := 15) C0 0 rfl rfl dX11_tellStrip_14 rfl trivial ?_
      refine J_getR (q := 18) C0 fl_X11_52_10 rfl (h0) rfl dX11_tellStrip_15 rfl ?_
      refine J_aload_n (q := 19) C0 0 rfl rfl dX11_tellStrip_18 rfl trivial ?_
      refine J_getI (q := 22) C0 fl_X11_56_10 rfl (h0) rfl dX11_tellStrip_19 rfl ?_
      have hm_ := e_X11_tellStrip_B25  hf
      have hk_ : k_ + 1 ≤ mc ∧ n_ + 1 ≤ ms := by have := hm_.1; have := hm_.slots; have := sg_S_new σ 7 0; have : sg_N (new_C σ 7 0) = sg_N σ + 1 := rfl; have : ce_ 7 0 = 1 := rfl; have := (show k_ + sg_N r.2 ≤ mc + sg_N σ ∧ n_ + sg_S r.2 ≤ ms + sg_S σ from hc); omega
      refine J_new (q := 25) C0 cl_X8 df_X8 kl_X11_50 in_X8 iz_X8 dX11_tellStrip_22 rfl C1.room hk_.1 hk_.2 ?_
      have hc4 : (k_ + 1) + sg_N r.2 ≤ mc + sg_N (new_C σ 7 0) ∧ (n_ + 1) + sg_S r.2 ≤ ms + sg_S (new_C σ 7 0) := by have := sg_S_new σ 7 0; have : sg_N (new_C σ 7 0) = sg_N σ + 1 := rfl; have : ce_ 7 0 = 1 := rfl; have := (show k_ + sg_N r.2 ≤ mc + sg_N σ ∧ n_ + sg_S r.2 ≤ ms + sg_S σ from hc); omega
      exact t_X11_tellStrip_B25 C1    (some (sg_N σ)) (sg_I σ a0 9) (sg_R σ a0 8) (new_C σ 7 0) ((hT).new) ((hE).new) ((h0).new) (is_O.some (is_A.born σ 7 0)) ((by rw [hb1]; exact is_O.some ((ab1).new))) ((k_ + 1)) ((n_ + 1)) hc4 hf
    · refine J_iconst (q := 13) (v := (-1)) C0 dX11_tellStrip_12 rfl rfl ?_
      obtain rfl := Option.some.inj hf; exact J_iret C1 dX11_tellStrip_13 rfl (by have h9 : k_ + sg_N σ ≤ mc + sg_N σ ∧ n_ + sg_S σ ≤ ms + sg_S σ := hc; omega) (by have h9 : k_ + sg_N σ ≤ mc + sg_N σ ∧ n_ + sg_S σ ≤ ms + sg_S σ := hc; omega) ⟨rfl, rfl, hT, hE⟩
  rw [hk0, hn0] at goal9
  exact goal9
