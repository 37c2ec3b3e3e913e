def f_X11_status (a0 : Nat) (x1 : Int32) (σ : Sg) : Option Int32 :=
  if (x1) < (0) then
  (some ((-1)))
  else
  (Option.bind (sg_R σ a0 12) fun b2 =>
  if (x1) < (Int32.ofNat (sg_L σ b2)) then
  (if (x1) < 0 ∨ sg_L σ b2 ≤ (x1).toNatClampNeg then none else
  some (sg_I σ b2 (x1).toNatClampNeg))
  else
  (some ((-1))))
set_option maxHeartbeats 4000000 in
set_option maxRecDepth 100000 in
theorem t_X11_status (a0 : Nat) (x1 : Int32) {σ : Sg} (hT : sg_T σ) (h0 : is_A σ a0 10) {r : Int32} (hf : f_X11_status a0 x1 σ = some r) : Ct yX11_status cX11_status 2 (some .int) 0 0 0 0 [vr (some a0), vi x1] σ (fun r_ τ_ => (r_ = some (vi r)) ∧ τ_ = σ) := by
  refine Ct.of (by decide +kernel) (Nat.le_of_ble_eq_true rfl) (fun Γ C1 => ?_)
  have C0 := C1.1
  unfold f_X11_status at hf
  show J_ Γ 0 [(0, vr (some a0)), (1, vi (x1))] [] σ 0 0
  refine J_iload_n (q := 1) C0 1 rfl rfl dX11_status_0 rfl ?_
  refine J_if_lt (t := 13) (q := 4) C0 dX11_status_1 (by decide) rfl hf (fun c1 hf => ?_) (fun c1 hf => ?_)
  · refine J_iconst (q := 14) (v := (-1)) C0 dX11_status_13 rfl rfl ?_
    refine J_goto (q := 23) C0 dX11_status_14 (by decide) ?_
    obtain rfl := Option.some.inj hf; exact J_iret C1 dX11_status_23 rfl (Nat.zero_le _) (Nat.zero_le _) ⟨rfl, rfl⟩
  · refine J_iload_n (q := 5) C0 1 rfl rfl dX11_status_4 rfl ?_
    refine J_aload_n (q := 6) C0 0 rfl rfl dX11_status_5 rfl trivial ?_
    refine J_getR (q := 9) C0 fl_X11_69_10 rfl (h0) rfl dX11_status_6 rfl ?_
    refine K_some hf (fun b2 hb2 hf => ?_)
    have ab2 : is_A σ b2 12 := ((sg_T.op hT (j := 12) (h0) rfl)) b2 hb2
    refine J_alen (q := 10) C0 hb2 (ab2) (by decide) dX11_status_9 rfl ?_
    refine J_icmp_lt (t := 17) (q := 13) C0 dX11_status_10 (by decide) rfl hf (fun c3 hf => ?_) (fun c3 hf => ?_)
    · refine J_aload_n (q := 18) C0 0 rfl rfl dX11_status_17 rfl trivial ?_
      refine J_getR (q := 21) C0 fl_X11_69_10 rfl (h0) rfl dX11_status_18 rfl ?_
      refine J_iload_n (q := 22) C0 1 rfl rfl dX11_status_21 rfl ?_
      refine K_chk hf (fun c4 hf => ?_)
      refine J_iald (q := 23) C0 hb2 (ab2) c4 dX11_status_22 rfl ?_
      obtain rfl := Option.some.inj hf; exact J_iret C1 dX11_status_23 rfl (Nat.zero_le _) (Nat.zero_le _) ⟨rfl, rfl⟩
    · refine J_iconst (q := 14) (v := (-1)) C0 dX11_status_13 rfl rfl ?_
      refine J_goto (q := 23) C0 dX11_status_14 (by decide) ?_
      obtain rfl := Option.some.inj hf; exact J_iret C1 dX11_status_23 rfl (Nat.zero_le _) (Nat.zero_le _) ⟨rfl, rfl⟩
def f_X11_undo (N : Nat) (a0 : Nat) (σ : Sg) : Option (Int32 × Sg) :=
  Option.bind (sg_R σ a0 14) fun b1 =>
  Option.bind (f_X5_bringBack N b1 (sg_R σ a0 13) σ) fun p2 =>
  some (p2.1, p2.2)
set_option maxHeartbeats 4000000 in
set_option maxRecDepth 100000 in
theorem t_X11_undo (N : Nat) (a0 : Nat) {σ : Sg} (hT : sg_T σ) (h0 : is_A σ a0 10) {r : (Int32 × Sg)} (hf : f_X11_undo N a0  σ = some r) : Ct yX11_undo cX11_undo 1 (some .int) 3 69 0 0 [vr (some a0)] σ (fun r_ τ_ => (r_ = some (vi r.1)) ∧ τ_ = r.2 ∧ sg_T τ_ ∧ sg_E σ τ_) := by
  refine Ct.of (by decide +kernel) (Nat.le_of_ble_eq_true rfl) (fun Γ C1 => ?_)
  have C0 := C1.1
  have hE : sg_E σ σ := sg_E.rf
  unfold f_X11_undo at hf
  show J_ Γ 0 [(0, vr (some a0))] [] σ 0 0
  refine J_aload_n (q := 1) C0 0 rfl rfl dX11_undo_0 rfl trivial ?_
  refine J_getR (q := 4) C0 fl_X11_82_10 rfl (h0) rfl dX11_undo_1 rfl ?_
  refine J_aload_n (q := 5) C0 0 rfl rfl dX11_undo_4 rfl trivial ?_
  refine J_getR (q := 8) C0 fl_X11_75_10 rfl (h0) rfl dX11_undo_5 rfl ?_
  refine K_some hf (fun b1 hb1 hf => ?_)
  have ab1 : is_A σ b1 5 := ((sg_T.op hT (j := 14) (h0) rfl)) b1 hb1
  refine K_some hf (fun p2 hp2 hf => ?_)
  refine J_callV (q := 11) (ci := 5) (as := [vr (sg_R σ a0 13)]) (rest := []) C0 hb1 (ab1) (t_X5_bringBack N b1 (sg_R σ a0 13) (hT) (ab1) ((sg_T.op hT (j := 13) (h0) rfl)) hp2) ml_X5_bringBack lk_X11_246 im_X5_bringBack se_X5_bringBack rfl (by decide) dX11_undo_8 rfl rfl rfl (by simp [ac_]) C1.room (by decide) (by decide) (by decide) (by decide) (fun r_ τ_ hQ => ?_)
  obtain ⟨rfl, rfl, Tp2, Ep2⟩ := hQ
  show J_ Γ 11 [(0, vr (some a0))] [vi (p2.1)] p2.2 0 0
  obtain rfl := Option.some.inj hf; exact J_iret C1 dX11_undo_11 rfl (Nat.zero_le _) (Nat.zero_le _) ⟨rfl, rfl, Tp2, (hE).tr Ep2⟩
def f_X11_log (a0 : Nat) (x1 : Int32) (x2 : Int32) (σ : Sg) : Option Int32 :=
  if (x1) < (0) then
  (some ((-1)))
  else
  (Option.bind (sg_R σ a0 13) fun b2 =>
  Option.bind (f_X7_rowCount b2  σ) fun p3 =>
  if (x1) < (p3) then
  (if (x2) < (0) then
  (some ((-1)))
  else
  (if (x2) < (4) then
  (Option.bind (f_X7_rowBefore b2 (x1) σ) fun p7 =>
  some (((p7) >>> (((5) * (x2)) &&& 31)) &&& (31)))
  else
  (some ((-1)))))
  else
  (some ((-1))))
set_option maxHeartbeats 4000000 in
set_option maxRecDepth 100000 in
theorem t_X11_log (a0 : Nat) (x1 : Int32) (x2 : Int32) {σ : Sg} (hT : sg_T σ) (h0 : is_A σ a0 10) {r : Int32} (hf : f_X11_log a0 x1 x2 σ = some r) : Ct yX11_log cX11_log 3 (some .int) 3 64 0 0 [vr (some a0), vi x1, vi x2] σ (fun r_ τ_ => (r_ = some (vi r)) ∧ τ_ = σ) := by
  refine Ct.of (by decide +kernel) (Nat.le_of_ble_eq_true rfl) (fun Γ C1 => ?_)
  have C0 := C1.1
  unfold f_X11_log at hf
  show J_ Γ 0 [(0, vr (some a0)), (1, vi (x1)), (2, vi (x2))] [] σ 0 0
  refine J_iload_n (q := 1) C0 1 rfl rfl dX11_log_0 rfl ?_
  refine J_if_lt (t := 24) (q := 4) C0 dX11_log_1 (by decide) rfl hf (fun c1 hf => ?_) (fun c1 hf => ?_)
  · refine J_iconst (q := 25) (v := (-1)) C0 dX11_log_24 rfl rfl ?_
    obtain rfl := Option.some.inj hf; exact J_iret C1 dX11_log_25 rfl (Nat.zero_le _) (Nat.zero_le _) ⟨rfl, rfl⟩
  · refine J_iload_n (q := 5) C0 1 rfl rfl dX11_log_4 rfl ?_
    refine J_aload_n (q := 6) C0 0 rfl rfl dX11_log_5 rfl trivial ?_
    refine J_getR (q := 9) C0 fl_X11_75_10 rfl (h0) rfl dX11_log_6 rfl ?_
    refine K_some hf (fun b2 hb2 hf => ?_)
    have ab2 : is_A σ b2 6 := ((sg_T.op hT (j := 13) (h0) rfl)) b2 hb2
    refine K_some hf (fun p3 hp3 hf => ?_)
    refine J_callV (q := 12) (ci := 6) (as := []) (rest := [vi (x1)]) C0 hb2 (ab2) (t_X7_rowCount b2  (ab2)  hp3) ml_X7_rowCount lk_X11_250 im_X7_rowCount se_X7_rowCount rfl (by decide) dX11_log_9 rfl rfl rfl (by simp [ac_]) C1.room (by decide) (by decide) (by decide) (by decide) (fun r_ τ_ hQ => ?_)
    obtain ⟨rfl, ht_⟩ := hQ; have ht_ := ht_.symm; subst ht_
    show J_ Γ 12 [(0, vr (some a0)), (1, vi (x1)), (2, vi (x2))] [vi (p3), vi (x1)] σ 0 0
    refine J_icmp_ge (t := 24) (q := 15) C0 dX11_log_12 (by decide) rfl hf (fun c4 hf => ?_) (fun c4 hf => ?_)
    · refine J_iconst (q := 25) (v := (-1)) C0 dX11_log_24 rfl rfl ?_
      obtain rfl := Option.some.inj hf; exact J_iret C1 dX11_log_25 rfl (Nat.zero_le _) (Nat.zero_le _) ⟨rfl, rfl⟩
    · refine J_iload_n (q := 16) C0 2 rfl rfl dX11_log_15 rfl ?_
      refine J_if_lt (t := 24) (q := 19) C0 dX11_log_16 (by decide) rfl hf (fun c5 hf => ?_) (fun c5 hf => ?_)
      · refine J_iconst (q := 25) (v := (-1)) C0 dX11_log_24 rfl rfl ?_
        obtain rfl := Option.some.inj hf; exact J_iret C1 dX11_log_25 rfl (Nat.zero_le _) (Nat.zero_le _) ⟨rfl, rfl⟩
      · refine J_iload_n (q := 20) C0 2 rfl rfl dX11_log_19 rfl ?_
        refine J_iconst (q := 21) (v := 4) C0 dX11_log_20 rfl rfl ?_
        refine J_icmp_lt (t := 26) (q := 24) C0 dX11_log_21 (by decide) rfl hf (fun c6 hf => ?_) (fun c6 hf => ?_)
        · refine J_aload_n (q := 27) C0 0 rfl rfl dX11_log_26 rfl trivial ?_
          refine J_getR (q := 30) C0 fl_X11_75_10 rfl (h0) rfl dX11_log_27 rfl ?_
          refine J_iload_n (q := 31) C0 1 rfl rfl dX11_log_30 rfl ?_
          refine K_some hf (fun p7 hp7 hf => ?_)
          refine J_callV (q := 34) (ci := 6) (as := [vi (x1)]) (rest := []) C0 hb2 (ab2) (t_X7_rowBefore b2 (x1) (hT) (ab2)  hp7) ml_X7_rowBefore lk_X11_253 im_X7_rowBefore se_X7_rowBefore rfl (by decide) dX11_log_31 rfl rfl rfl (by simp [ac_]) C1.room (by decide) (by decide) (by decide) (by decide) (fun r_ τ_ hQ => ?_)
          obtain ⟨rfl, ht_⟩ := hQ; have ht_ := ht_.symm; subst ht_
          show J_ Γ 34 [(0, vr (some a0)), (1, vi (x1)), (2, vi (x2))] [vi (p7)] σ 0 0
          refine J_iconst (q := 35) (v := 5) C0 dX11_log_34 rfl rfl ?_
          refine J_iload_n (q := 36) C0 2 rfl rfl dX11_log_35 rfl ?_
          refine J_imul (q := 37) C0 dX11_log_36 rfl ?_
          refine J_ishr (q := 38) C0 dX11_log_37 rfl ?_
          refine J_bipush (q := 40) (v := 31) C0 dX11_log_38 rfl rfl ?_
          refine J_iand (q := 41) C0 dX11_log_40 rfl ?_
          obtain rfl := Option.some.inj hf; exact J_iret C1 dX11_log_41 rfl (Nat.zero_le _) (Nat.zero_le _) ⟨rfl, rfl⟩
        · refine J_iconst (q := 25) (v := (-1)) C0 dX11_log_24 rfl rfl ?_
          obtain rfl := Option.some.inj hf; exact J_iret C1 dX11_log_25 rfl (Nat.zero_le _) (Nat.zero_le _) ⟨rfl, rfl⟩
def f_X11_traced (N : Nat) (a0 : Nat) (x1 : Int32) (σ : Sg) : Option ((Option Nat) × Sg) :=
  Option.bind (f_X11_courseOf a0 (x1) σ) fun p1 =>
  Option.bind (p1.1) fun b2 =>
  Option.bind (f_X0_trace N b2  p1.2) fun p3 =>
  some (p1.1, p3)
set_option maxHeartbeats 4000000 in
set_option maxRecDepth 100000 in
theorem t_X11_traced (N : Nat) (a0 : Nat) (x1 : Int32) {σ : Sg} (hT : sg_T σ) (h0 : is_A σ a0 10) {r : ((Option Nat) × Sg)} (hf : f_X11_traced N a0 x1 σ = some r) : Ct yX11_traced cX11_traced 3 (some (.object "SlitDrum$Course")) 5 116 0 0 [vr (some a0), vi x1] σ (fun r_ τ_ => (r_ = some (vr r.1) ∧ is_O τ_ r.1 0) ∧ τ_ = r.2 ∧ sg_T τ_ ∧ sg_E σ τ_) := by
  refine Ct.of (by decide +kernel) (Nat.le_of_ble_eq_true rfl) (fun Γ C1 => ?_)
  have C0 := C1.1
  have hE : sg_E σ σ := sg_E.rf
  unfold f_X11_traced at hf
  show J_ Γ 0 [(0, vr (some a0)), (1, vi (x1))] [] σ 0 0
  refine J_aload_n (q := 1) C0 0 rfl rfl dX11_traced_0 rfl trivial ?_
  refine J_iload_n (q := 2) C0 1 rfl rfl dX11_traced_1 rfl ?_
  refine K_some hf (fun p1 hp1 hf => ?_)
  refine J_callV (q := 5) (ci := 10) (as := [vi (x1)]) (rest := []) C0 rfl (h0) (t_X11_courseOf a0 (x1) (hT) (h0)  hp1) ml_X11_courseOf lk_X11_300 im_X11_courseOf se_X11_courseOf rfl (by decide) dX11_traced_2 rfl rfl rfl (by simp [ac_]) C1.room (by decide) (by decide) (by decide) (by decide) (fun r_ τ_ hQ => ?_)
  obtain ⟨⟨rfl, op1⟩, rfl, Tp1, Ep1⟩ := hQ
  show J_ Γ 5 [(0, vr (some a0)), (1, vi (x1))] [vr (p1.1)] p1.2 0 0
  refine J_astore_n (q := 6) (lv' := [(2, vr (p1.1)), (0, vr (some a0)), (1, vi (x1))]) C0 rfl (G_nl C1 (by decide)) dX11_traced_5 rfl trivial rfl ?_
  refine J_aload_n (q := 7) C0 0 rfl rfl dX11_traced_6 rfl trivial ?_
  refine K_some hf (fun b2 hb2 hf => ?_)
  have ab2 : is_A p1.2 b2 0 := (op1) b2 hb2
  refine K_some hf (fun p3 hp3 hf => ?_)
  refine J_callV (q := 10) (ci := 0) (as := []) (rest := []) C0 hb2 (ab2) (t_X0_trace N b2  (Tp1) (ab2)  hp3) ml_X0_trace lk_X11_314 im_X0_trace se_X0_trace rfl (by decide) dX11_traced_7 rfl rfl rfl (by simp [ac_]) C1.room (by decide) (by decide) (by decide) (by decide) (fun r_ τ_ hQ => ?_)
  obtain ⟨rfl, ht_, Tp3, Ep3⟩ := hQ; have ht_ := ht_.symm; subst ht_
  show J_ Γ 10 [(2, vr (p1.1)), (0, vr (some a0)), (1, vi (x1))] [] p3 0 0
  refine J_aload_n (q := 11) C0 0 rfl rfl dX11_traced_10 rfl trivial ?_
  have io9 : is_O p3 (p1.1) 0 := (by rw [hb2]; exact is_O.some ((Ep3.at ab2))); obtain rfl := Option.some.inj hf; exact J_aret C1 dX11_traced_11 rfl (Or.inl ⟨_, rfl⟩) (Nat.zero_le _) (Nat.zero_le _) ⟨⟨rfl, io9⟩, rfl, Tp3, ((hE).tr Ep1).tr Ep3⟩
def f_X11_at (N : Nat) (a0 : Nat) (x1 : Int32) (x2 : Int32) (σ : Sg) : Option (Int32 × Sg) :=
  Option.bind (f_X11_isWheel a0 (x1) σ) fun p1 =>
  if (p1) = (0) then
  (some ((-1), σ))
  else
  (if (x2) < (0) then
  (some ((-1), σ))
  else
  (if (99) < (x2) then
  (some ((-1), σ))
  else
  (Option.bind (f_X11_traced N a0 (x1) σ) fun p5 =>
  Option.bind (sg_R p5.2 a0 13) fun b6 =>
  Option.bind (p5.1) fun b7 =>
  Option.bind (f_X0_shownAfter b7 ((x2) * (sg_I p5.2 b6 2)) p5.2) fun p8 =>
  some (p8, p5.2))))
set_option maxHeartbeats 4000000 in
set_option maxRecDepth 100000 in
theorem t_X11_at (N : Nat) (a0 : Nat) (x1 : Int32) (x2 : Int32) {σ : Sg} (hT : sg_T σ) (h0 : is_A σ a0 10) {r : (Int32 × Sg)} (hf : f_X11_at N a0 x1 x2 σ = some r) : Ct yX11_at cX11_at 3 (some .int) 6 138 0 0 [vr (some a0), vi x1, vi x2] σ (fun r_ τ_ => (r_ = some (vi r.1)) ∧ τ_ = r.2 ∧ sg_T τ_ ∧ sg_E σ τ_) := by
  refine Ct.of (by decide +kernel) (Nat.le_of_ble_eq_true rfl) (fun Γ C1 => ?_)
  have C0 := C1.1
  have hE : sg_E σ σ := sg_E.rf
  unfold f_X11_at at hf
  show J_ Γ 0 [(0, vr (some a0)), (1, vi (x1)), (2, vi (x2))] [] σ 0 0
  refine J_aload_n (q := 1) C0 0 rfl rfl dX11_at_0 rfl trivial ?_
  refine J_iload_n (q := 2) C0 1 rfl rfl dX11_at_1 rfl ?_
  refine K_some hf (fun p1 hp1 hf => ?_)
  refine J_callV (q := 5) (ci := 10) (as := [vi (x1)]) (rest := []) C0 rfl (h0) (t_X11_isWheel a0 (x1) (hT) (h0)  hp1) ml_X11_isWheel lk_X11_195 im_X11_isWheel se_X11_isWheel rfl (by decide) dX11_at_2 rfl rfl rfl (by simp [ac_]) C1.room (by decide) (by decide) (by decide) (by decide) (fun r_ τ_ hQ => ?_)
  obtain ⟨⟨rfl, zp1⟩, ht_⟩ := hQ; have ht_ := ht_.symm; subst ht_
  show J_ Γ 5 [(0, vr (some a0)), (1, vi (x1)), (2, vi (x2))] [vi (p1)] σ 0 0
  refine J_if_eq (t := 18) (q := 8) C0 dX11_at_5 (by decide) rfl hf (fun c2 hf => ?_) (fun c2 hf => ?_)
  · refine J_iconst (q := 19) (v := (-1)) C0 dX11_at_18 rfl rfl ?_
    obtain rfl := Option.some.inj hf; exact J_iret C1 dX11_at_19 rfl (Nat.zero_le _) (Nat.zero_le _) ⟨rfl, rfl, hT, hE⟩
  · refine J_iload_n (q := 9) C0 2 rfl rfl dX11_at_8 rfl ?_
    refine J_if_lt (t := 18) (q := 12) C0 dX11_at_9 (by decide) rfl hf (fun c3 hf => ?_) (fun c3 hf => ?_)
    · refine J_iconst (q := 19) (v := (-1)) C0 dX11_at_18 rfl rfl ?_
      obtain rfl := Option.some.inj hf; exact J_iret C1 dX11_at_19 rfl (Nat.zero_le _) (Nat.zero_le _) ⟨rfl, rfl, hT, hE⟩
    · refine J_iload_n (q := 13) C0 2 rfl rfl dX11_at_12 rfl ?_
      refine J_bipush (q := 15) (v := 99) C0 dX11_at_13 rfl rfl ?_
      refine J_icmp_le (t := 20) (q := 18) C0 dX11_at_15 (by decide) rfl hf (fun c4 hf => ?_) (fun c4 hf => ?_)
      · refine J_aload_n (q := 21) C0 0 rfl rfl dX11_at_20 rfl trivial ?_
        refine J_iload_n (q := 22) C0 1 rfl rfl dX11_at_21 rfl ?_
        refine K_some hf (fun p5 hp5 hf => ?_)
        refine J_callV (q := 25) (ci := 10) (as := [vi (x1)]) (rest := []) C0 rfl (h0) (t_X11_traced N a0 (x1) (hT) (h0)  hp5) ml_X11_traced lk_X11_280 im_X11_traced se_X11_traced rfl (by decide) dX11_at_22 rfl rfl rfl (by simp [ac_]) C1.room (by decide) (by decide) (by decide) (by decide) (fun r_ τ_ hQ => ?_)
        obtain ⟨⟨rfl, op5⟩, rfl, Tp5, Ep5⟩ := hQ
        show J_ Γ 25 [(0, vr (some a0)), (1, vi (x1)), (2, vi (x2))] [vr (p5.1)] p5.2 0 0
        refine J_iload_n (q := 26) C0 2 rfl rfl dX11_at_25 rfl ?_
        refine J_aload_n (q := 27) C0 0 rfl rfl dX11_at_26 rfl trivial ?_
        refine J_getR (q := 30) C0 fl_X11_75_10 rfl ((Ep5.at h0)) rfl dX11_at_27 rfl ?_
        refine K_some hf (fun b6 hb6 hf => ?_)
        have ab6 : is_A p5.2 b6 6 := ((sg_T.op Tp5 (j := 13) ((Ep5.at h0)) rfl)) b6 hb6
        refine J_getI (q := 33) C0 fl_X11_186_6 hb6 (ab6) rfl dX11_at_30 rfl ?_
        refine J_imul (q := 34) C0 dX11_at_33 rfl ?_
        refine K_some hf (fun b7 hb7 hf => ?_)
        have ab7 : is_A p5.2 b7 0 := (op5) b7 hb7
        refine K_some hf (fun p8 hp8 hf => ?_)
        refine J_callV (q := 37) (ci := 0) (as := [vi ((x2) * (sg_I p5.2 b6 2))]) (rest := []) C0 hb7 (ab7) (t_X0_shownAfter b7 ((x2) * (sg_I p5.2 b6 2)) (Tp5) (ab7)  hp8) ml_X0_shownAfter lk_X11_284 im_X0_shownAfter se_X0_shownAfter rfl (by decide) dX11_at_34 rfl rfl rfl (by simp [ac_]) C1.room (by decide) (by decide) (by decide) (by decide) (fun r_ τ_ hQ => ?_)
        obtain ⟨rfl, ht_⟩ := hQ; have ht_ := ht_.symm; subst ht_
        show J_ Γ 37 [(0, vr (some a0)), (1, vi (x1)), (2, vi (x2))] [vi (p8)] p5.2 0 0
        obtain rfl := Option.some.inj hf; exact J_iret C1 dX11_at_37 rfl (Nat.zero_le _) (Nat.zero_le _) ⟨rfl, rfl, Tp5, (hE).tr Ep5⟩
      · refine J_iconst (q := 19) (v := (-1)) C0 dX11_at_18 rfl rfl ?_
        obtain rfl := Option.some.inj hf; exact J_iret C1 dX11_at_19 rfl (Nat.zero_le _) (Nat.zero_le _) ⟨rfl, rfl, hT, hE⟩
def f_X11_seems_B19 (N : Nat) (a0 : Nat) (σ : Sg) : Option (Int32 × Sg) :=
  some ((-1000000), σ)
def f_X11_seems (N : Nat) (a0 : Nat) (x1 : Int32) (x2 : Int32) (σ : Sg) : Option (Int32 × Sg) :=
  Option.bind (f_X11_isWheel a0 (x1) σ) fun p1 =>
  if (p1) = (0) then
  (f_X11_seems_B19 N a0  σ)
  else
  (if (x2) < (1) then
  (f_X11_seems_B19 N a0  σ)
  else
  (if (60) < (x2) then
  (f_X11_seems_B19 N a0  σ)
  else
  (Option.bind (sg_R σ a0 13) fun b5 =>
  Option.bind (sg_R σ b5 0) fun b6 =>
  if (x1) < 0 ∨ sg_L σ b6 ≤ (x1).toNatClampNeg then none else
  Option.bind (f_X11_stripOf a0 (sg_R σ b6 (x1).toNatClampNeg) σ) fun p8 =>
  Option.bind (p8) fun b9 =>
  Option.bind (f_X8_size b9  σ) fun p10 =>
  Option.bind (f_X11_traced N a0 (x1) σ) fun p11 =>
  Option.bind (p11.1) fun b12 =>
  Option.bind (f_X0_placeAfter b12 (x2) p11.2) fun p13 =>
  Option.bind (sg_R σ b6 (x1).toNatClampNeg) fun b14 =>
  Option.bind (f_X11_round ((p13) - (sg_I p11.2 b14 2)) (p10) ) fun p15 =>
  if (p10) < ((2) * (p15)) then
  (some ((p15) - (p10), p11.2))
  else
  (some (p15, p11.2)))))
set_option maxHeartbeats 4000000 in
set_option maxRecDepth 100000 in
theorem t_X11_seems_B19 {N : Nat} {a0 : Nat} {Γ : Gm} {σ0 : Sg} {r : (Int32 × Sg)} (C1 : CM Γ cX11_seems RX11 6 (some .int) 6 138 0 0 (fun r_ τ_ => (r_ = some (vi r.1)) ∧ τ_ = r.2 ∧ sg_T τ_ ∧ sg_E σ0 τ_)) (σ : Sg) (hT : sg_T σ) (hE : sg_E σ0 σ) (h0 : is_A σ a0 10) (hf : f_X11_seems_B19 N a0   σ = some r) : J_ Γ 19 [(0, vr (some a0))] [] σ 0 0 := by
  have C0 := C1.1
  unfold f_X11_seems_B19 at hf
  refine J_ldc_w (q := 22) C0 kc_X11_287 dX11_seems_19 rfl ?_
  obtain rfl := Option.some.inj hf; exact J_iret C1 dX11_seems_22 rfl (Nat.zero_le _) (Nat.zero_le _) ⟨rfl, rfl, hT, hE⟩
set_option maxHeartbeats 4000000 in
set_option maxRecDepth 100000 in
theorem t_X11_seems (N : Nat) (a0 : Nat) (x1 : Int32) (x2 : Int32) {σ : Sg} (hT : sg_T σ) (h0 : is_A σ a0 10) {r : (Int32 × Sg)} (hf : f_X11_seems N a0 x1 x2 σ = some r) : Ct yX11_seems cX11_seems 6 (some .int) 6 138 0 0 [vr (some a0), vi x1, vi x2] σ (fun r_ τ_ => (r_ = some (vi r.1)) ∧ τ_ = r.2 ∧ sg_T τ_ ∧ sg_E σ τ_) := by
  refine Ct.of (by decide +kernel) (Nat.le_of_ble_eq_true rfl) (fun Γ C1 => ?_)
  have C0 := C1.1
  have hE : sg_E σ σ := sg_E.rf
  unfold f_X11_seems at hf
  show J_ Γ 0 [(0, vr (some a0)), (1, vi (x1)), (2, vi (x2))] [] σ 0 0
  refine J_aload_n (q := 1) C0 0 rfl rfl dX11_seems_0 rfl trivial ?_
  refine J_iload_n (q := 2) C0 1 rfl rfl dX11_seems_1 rfl ?_
  refine K_some hf (fun p1 hp1 hf => ?_)
  refine J_callV (q := 5) (ci := 10) (as := [vi (x1)]) (rest := []) C0 rfl (h0) (t_X11_isWheel a0 (x1) (hT) (h0)  hp1) ml_X11_isWheel lk_X11_195 im_X11_isWheel se_X11_isWheel rfl (by decide) dX11_seems_2 rfl rfl rfl (by simp [ac_]) C1.room (by decide) (by decide) (by decide) (by decide) (fun r_ τ_ hQ => ?_)
  obtain ⟨⟨rfl, zp1⟩, ht_⟩ := hQ; have ht_ := ht_.symm; subst ht_
  show J_ Γ 5 [(0, vr (some a0)), (1, vi (x1)), (2, vi (x2))] [vi (p1)] σ 0 0
  refine J_if_eq (t := 19) (q := 8) C0 dX11_seems_5 (by decide) rfl hf (fun c2 hf => ?_) (fun c2 hf => ?_)
  · refine J_sub (lv' := [(0, vr (some a0))]) [0] rfl ?_
    exact t_X11_seems_B19 C1     σ (hT) (hE) (h0)  hf
  · refine J_iload_n (q := 9) C0 2 rfl rfl dX11_seems_8 rfl ?_
    refine J_iconst (q := 10) (v := 1) C0 dX11_seems_9 rfl rfl ?_
    refine J_icmp_lt (t := 19) (q := 13) C0 dX11_seems_10 (by decide) rfl hf (fun c3 hf => ?_) (fun c3 hf => ?_)
    · refine J_sub (lv' := [(0, vr (some a0))]) [0] rfl ?_
      exact t_X11_seems_B19 C1     σ (hT) (hE) (h0)  hf
    · refine J_iload_n (q := 14) C0 2 rfl rfl dX11_seems_13 rfl ?_
      refine J_bipush (q := 16) (v := 60) C0 dX11_seems_14 rfl rfl ?_
      refine J_icmp_le (t := 23) (q := 19) C0 dX11_seems_16 (by decide) rfl hf (fun c4 hf => ?_) (fun c4 hf => ?_)
      · refine J_aload_n (q := 24) C0 0 rfl rfl dX11_seems_23 rfl trivial ?_
        refine J_getR (q := 27) C0 fl_X11_75_10 rfl (h0) rfl dX11_seems_24 rfl ?_
        refine K_some hf (fun b5 hb5 hf => ?_)
        have ab5 : is_A σ b5 6 := ((sg_T.op hT (j := 13) (h0) rfl)) b5 hb5
        refine J_getR (q := 30) C0 fl_X11_153_6 hb5 (ab5) rfl dX11_seems_27 rfl ?_
        refine J_iload_n (q := 31) C0 1 rfl rfl dX11_seems_30 rfl ?_
        refine K_some hf (fun b6 hb6 hf => ?_)
        have ab6 : is_A σ b6 18 := ((sg_T.op hT (j := 0) (ab5) rfl)) b6 hb6
        refine K_chk hf (fun c7 hf => ?_)
        refine J_aald (q := 32) C0 hb6 (ab6) (by decide) c7 dX11_seems_31 rfl ?_
        refine J_astore_n (q := 33) (lv' := [(3, vr (sg_R σ b6 (x1).toNatClampNeg)), (0, vr (some a0)), (1, vi (x1)), (2, vi (x2))]) C0 rfl (G_nl C1 (by decide)) dX11_seems_32 rfl trivial rfl ?_
        refine J_aload_n (q := 34) C0 1 rfl rfl dX11_seems_33 rfl trivial ?_
        refine J_aload_n (q := 35) C0 0 rfl rfl dX11_seems_34 rfl trivial ?_
        refine K_some hf (fun p8 hp8 hf => ?_)
        refine J_callV (q := 38) (ci := 10) (as := [vr (sg_R σ b6 (x1).toNatClampNeg)]) (rest := []) C0 rfl (h0) (t_X11_stripOf a0 (sg_R σ b6 (x1).toNatClampNeg) (hT) (h0) ((sg_T.op hT (j := (x1).toNatClampNeg) (ab6) rfl)) hp8) ml_X11_stripOf lk_X11_162 im_X11_stripOf se_X11_stripOf rfl (by decide) dX11_seems_35 rfl rfl rfl (by simp [ac_]) C1.room (by decide) (by decide) (by decide) (by decide) (fun r_ τ_ hQ => ?_)
        obtain ⟨⟨rfl, op8⟩, ht_⟩ := hQ; have ht_ := ht_.symm; subst ht_
        show J_ Γ 38 [(3, vr (sg_R σ b6 (x1).toNatClampNeg)), (0, vr (some a0)), (1, vi (x1)), (2, vi (x2))] [vr (p8)] σ 0 0
        refine K_some hf (fun b9 hb9 hf => ?_)
        have ab9 : is_A σ b9 7 := (op8) b9 hb9
        refine K_some hf (fun p10 hp10 hf => ?_)
        refine J_callV (q := 41) (ci := 7) (as := []) (rest := []) C0 hb9 (ab9) (t_X8_size b9  (hT) (ab9)  hp10) ml_X8_size lk_X11_166 im_X8_size se_X8_size rfl (by decide) dX11_seems_38 rfl rfl rfl (by simp [ac_]) C1.room (by decide) (by decide) (by decide) (by decide) (fun r_ τ_ hQ => ?_)
        obtain ⟨rfl, ht_⟩ := hQ; have ht_ := ht_.symm; subst ht_
        show J_ Γ 41 [(3, vr (sg_R σ b6 (x1).toNatClampNeg)), (0, vr (some a0)), (1, vi (x1)), (2, vi (x2))] [vi (p10)] σ 0 0
        refine J_istore (q := 43) (lv' := [(4, vi (p10)), (3, vr (sg_R σ b6 (x1).toNatClampNeg)), (0, vr (some a0)), (1, vi (x1)), (2, vi (x2))]) C0 (G_nl C1 (by decide)) dX11_seems_41 rfl rfl ?_
        refine J_aload_n (q := 44) C0 2 rfl rfl dX11_seems_43 rfl trivial ?_
        refine J_iload_n (q := 45) C0 3 rfl rfl dX11_seems_44 rfl ?_
        refine K_some hf (fun p11 hp11 hf => ?_)
        refine J_callV (q := 48) (ci := 10) (as := [vi (x1)]) (rest := []) C0 rfl (h0) (t_X11_traced N a0 (x1) (hT) (h0)  hp11) ml_X11_traced lk_X11_280 im_X11_traced se_X11_traced rfl (by decide) dX11_seems_45 rfl rfl rfl (by simp [ac_]) C1.room (by decide) (by decide) (by decide) (by decide) (fun r_ τ_ hQ => ?_)
        obtain ⟨⟨rfl, op11⟩, rfl, Tp11, Ep11⟩ := hQ
        show J_ Γ 48 [(4, vi (p10)), (3, vr (sg_R σ b6 (x1).toNatClampNeg)), (0, vr (some a0)), (1, vi (x1)), (2, vi (x2))] [vr (p11.1)] p11.2 0 0
        refine J_iload_n (q := 49) C0 4 rfl rfl dX11_seems_48 rfl ?_
        refine K_some hf (fun b12 hb12 hf => ?_)
        have ab12 : is_A p11.2 b12 0 := (op11) b12 hb12
        refine K_some hf (fun p13 hp13 hf => ?_)
        refine J_callV (q := 52) (ci := 0) (as := [vi (x2)]) (rest := []) C0 hb12 (ab12) (t_X0_placeAfter b12 (x2) (Tp11) (ab12)  hp13) ml_X0_placeAfter lk_X11_288 im_X0_placeAfter se_X0_placeAfter rfl (by decide) dX11_seems_49 rfl rfl rfl (by simp [ac_]) C1.room (by decide) (by decide) (by decide) (by decide) (fun r_ τ_ hQ => ?_)
        obtain ⟨rfl, ht_⟩ := hQ; have ht_ := ht_.symm; subst ht_
        show J_ Γ 52 [(4, vi (p10)), (3, vr (sg_R σ b6 (x1).toNatClampNeg)), (0, vr (some a0)), (1, vi (x1)), (2, vi (x2))] [vi (p13)] p11.2 0 0
        refine J_aload_n (q := 53) C0 1 rfl rfl dX11_seems_52 rfl trivial ?_
        refine K_some hf (fun b14 hb14 hf => ?_)
        have ab14 : is_A p11.2 b14 9 := ((Ep11.op (sg_T.op hT (j := (x1).toNatClampNeg) (ab6) rfl))) b14 hb14
        refine J_getI (q := 56) C0 fl_X11_157_9 hb14 (ab14) rfl dX11_seems_53 rfl ?_
        refine J_isub (q := 57) C0 dX11_seems_56 rfl ?_
        refine J_iload (q := 59) C0 0 rfl dX11_seems_57 rfl ?_
        refine K_some hf (fun p15 hp15 hf => ?_)
        refine J_callS (q := 62) (as := [vi ((p13) - (sg_I p11.2 b14 2)), vi (p10)]) (rest := []) C0 (t_X11_round ((p13) - (sg_I p11.2 b14 2)) (p10)  hp15) ml_X11_round lk_X11_169 sm_X11_round dX11_seems_59 rfl rfl rfl (by simp [ac_]) C1.room (by decide) (by decide) (by decide) (by decide) (fun r_ τ_ hQ => ?_)
        obtain ⟨rfl, ht_⟩ := hQ; have ht_ := ht_.symm; subst ht_
        show J_ Γ 62 [(4, vi (p10)), (3, vr (sg_R σ b6 (x1).toNatClampNeg)), (0, vr (some a0)), (1, vi (x1)), (2, vi (x2))] [vi (p15)] p11.2 0 0
        refine J_istore (q := 64) (lv' := [(5, vi (p15)), (4, vi (p10)), (3, vr (sg_R σ b6 (x1).toNatClampNeg)), (0, vr (some a0)), (1, vi (x1)), (2, vi (x2))]) C0 (G_nl C1 (by decide)) dX11_seems_62 rfl rfl ?_
        refine J_iconst (q := 65) (v := 2) C0 dX11_seems_64 rfl rfl ?_
        refine J_iload (q := 67) C0 0 rfl dX11_seems_65 rfl ?_
        refine J_imul (q := 68) C0 dX11_seems_67 rfl ?_
        refine J_iload (q := 70) C0 1 rfl dX11_seems_68 rfl ?_
        refine J_icmp_le (t := 81) (q := 73) C0 dX11_seems_70 (by decide) rfl hf (fun c16 hf => ?_) (fun c16 hf => ?_)
        · refine J_iload (q := 83) C0 0 rfl dX11_seems_81 rfl ?_
          obtain rfl := Option.some.inj hf; exact J_iret C1 dX11_seems_83 rfl (Nat.zero_le _) (Nat.zero_le _) ⟨rfl, rfl, Tp11, (hE).tr Ep11⟩
        · refine J_iload (q := 75) C0 0 rfl dX11_seems_73 rfl ?_
          refine J_iload (q := 77) C0 1 rfl dX11_seems_75 rfl ?_
          refine J_isub (q := 78) C0 dX11_seems_77 rfl ?_
          refine J_goto (q := 83) C0 dX11_seems_78 (by decide) ?_
          obtain rfl := Option.some.inj hf; exact J_iret C1 dX11_seems_83 rfl (Nat.zero_le _) (Nat.zero_le _) ⟨rfl, rfl, Tp11, (hE).tr Ep11⟩
      · refine J_sub (lv' := [(0, vr (some a0))]) [0] rfl ?_
        exact t_X11_seems_B19 C1     σ (hT) (hE) (h0)  hf
def f_X11_stands_B50 (N : Nat) (a0 : Nat) (k22 : Int32 → Option Nat → Int32 → Int32 → Sg → Option (Int32 × Sg)) (v2 : Int32) (v3 : Option Nat) (v4 : Int32) (v5 : Int32) (σ : Sg) : Option (Int32 × Sg) :=
  k22 (v2) (v3) (v4) (v5 + 1) σ
def f_X11_stands_L22 (N : Nat) (a0 : Nat) : Nat → Int32 → Option Nat → Int32 → Int32 → Sg → Option (Int32 × Sg)
  | 0, _, _, _, _, _ => none
  | n + 1, v2, v3, v4, v5, σ =>
  if (60) < (v5) then
  (if (v2) = ((-1)) then
  (some (v4, σ))
  else
  (some ((-1), σ)))
  else
  (Option.bind (v3) fun b6 =>
  Option.bind (f_X0_isStillBy N b6 (v5) σ) fun p7 =>
  if (p7) = (0) then
  (f_X11_stands_B50 N a0 (f_X11_stands_L22 N a0 n) (v2) (v3) (v4) (v5) σ)
  else
  (if (v4) = (v2) then
  (some (v5, σ))
  else
  (f_X11_stands_B50 N a0 (f_X11_stands_L22 N a0 n) (v2) (v3) (v4 + 1) (v5) σ)))
def f_X11_stands (N : Nat) (a0 : Nat) (x1 : Int32) (x2 : Int32) (σ : Sg) : Option (Int32 × Sg) :=
  Option.bind (f_X11_isWheel a0 (x1) σ) fun p1 =>
  if (p1) = (0) then
  (some ((-1), σ))
  else
  (Option.bind (f_X11_traced N a0 (x1) σ) fun p3 =>
  f_X11_stands_L22 N a0 N (x2) (p3.1) (0) (1) (p3.2))
set_option maxHeartbeats 4000000 in
set_option maxRecDepth 100000 in
theorem t_X11_stands_B50 {N : Nat} {a0 : Nat} {Γ : Gm} {σ0 : Sg} {r : (Int32 × Sg)} (C1 : CM Γ cX11_stands RX11 6 (some .int) 6 138 0 0 (fun r_ τ_ => (r_ = some (vi r.1)) ∧ τ_ = r.2 ∧ sg_T τ_ ∧ sg_E σ0 τ_)) (k22 : Int32 → Option Nat → Int32 → Int32 → Sg → Option (Int32 × Sg)) (hk22 : ∀ (v2 : Int32) (v3 : Option Nat) (v4 : Int32) (v5 : Int32) (σ : Sg), sg_T σ → sg_E σ0 σ → is_A σ a0 10 → is_O σ v3 0 → k22 v2 v3 v4 v5 σ = some r → J_ Γ 22 [(0, vr (some a0)), (2, vi v2), (3, vr v3), (4, vi v4), (5, vi v5)] [] σ 0 0) (v2 : Int32) (v3 : Option Nat) (v4 : Int32) (v5 : Int32) (σ : Sg) (hT : sg_T σ) (hE : sg_E σ0 σ) (h0 : is_A σ a0 10) (g_v3 : is_O σ v3 0) (hf : f_X11_stands_B50 N a0 k22  v2 v3 v4 v5 σ = some r) : J_ Γ 50 [(0, vr (some a0)), (2, vi (v2)), (3, vr (v3)), (4, vi (v4)), (5, vi (v5))] [] σ 0 0 := by
  have C0 := C1.1
  unfold f_X11_stands_B50 at hf
  refine J_iinc (q := 53) (v := v5 + 1) (lv' := [(5, vi (v5 + 1)), (0, vr (some a0)), (2, vi (v2)), (3, vr (v3)), (4, vi (v4))]) C0 4 rfl rfl (G_nl C1 (by decide)) dX11_stands_50 rfl rfl ?_
  refine J_goto (q := 22) C0 dX11_stands_53 (by decide) ?_
  refine J_sub (lv' := [(0, vr (some a0)), (2, vi (v2)), (3, vr (v3)), (4, vi (v4)), (5, vi (v5 + 1))]) [1, 2, 3, 4, 0] rfl ?_
  exact hk22 (v2) (v3) (v4) (v5 + 1) σ (hT) (hE)  (h0) (g_v3) hf
set_option maxHeartbeats 4000000 in
set_option maxRecDepth 100000 in
theorem t_X11_stands_L22 {N : Nat} {a0 : Nat} {Γ : Gm} {σ0 : Sg} {r : (Int32 × Sg)} (C1 : CM Γ cX11_stands RX11 6 (some .int) 6 138 0 0 (fun r_ τ_ => (r_ = some (vi r.1)) ∧ τ_ = r.2 ∧ sg_T τ_ ∧ sg_E σ0 τ_)) : ∀ (n : Nat) (v2 : Int32) (v3 : Option Nat) (v4 : Int32) (v5 : Int32) (σ : Sg), sg_T σ → sg_E σ0 σ → is_A σ a0 10 → is_O σ v3 0 → f_X11_stands_L22 N a0  n v2 v3 v4 v5 σ = some r → J_ Γ 22 [(0, vr (some a0)), (2, vi (v2)), (3, vr (v3)), (4, vi (v4)), (5, vi (v5))] [] σ 0 0 := by
  have C0 := C1.1
  intro n
  induction n with
  | zero => intro v2 v3 v4 v5 σ hT hE h0 g_v3 hf; unfold f_X11_stands_L22 at hf; cases hf
  | succ n ih =>
    intro v2 v3 v4 v5 σ hT hE h0 g_v3 hf
    rw [f_X11_stands_L22] at hf
    refine J_iload (q := 24) C0 4 rfl dX11_stands_22 rfl ?_
    refine J_bipush (q := 26) (v := 60) C0 dX11_stands_24 rfl rfl ?_
    refine J_icmp_gt (t := 56) (q := 29) C0 dX11_stands_26 (by decide) rfl hf (fun c4 hf => ?_) (fun c4 hf => ?_)
    · refine J_iload_n (q := 57) C0 1 rfl rfl dX11_stands_56 rfl ?_
      refine J_iconst (q := 58) (v := (-1)) C0 dX11_stands_57 rfl rfl ?_
      refine J_icmp_ne (t := 66) (q := 61) C0 dX11_stands_58 (by decide) rfl hf (fun c5 hf => ?_) (fun c5 hf => ?_)
      · refine J_iconst (q := 67) (v := (-1)) C0 dX11_stands_66 rfl rfl ?_
        obtain rfl := Option.some.inj hf; exact J_iret C1 dX11_stands_67 rfl (Nat.zero_le _) (Nat.zero_le _) ⟨rfl, rfl, hT, hE⟩
      · refine J_iload (q := 63) C0 3 rfl dX11_stands_61 rfl ?_
        refine J_goto (q := 67) C0 dX11_stands_63 (by decide) ?_
        obtain rfl := Option.some.inj hf; exact J_iret C1 dX11_stands_67 rfl (Nat.zero_le _) (Nat.zero_le _) ⟨rfl, rfl, hT, hE⟩
    · refine J_aload_n (q := 30) C0 2 rfl rfl dX11_stands_29 rfl trivial ?_
      refine J_iload (q := 32) C0 4 rfl dX11_stands_30 rfl ?_
      refine K_some hf (fun b6 hb6 hf => ?_)
      have ab6 : is_A σ b6 0 := (g_v3) b6 hb6
      refine K_some hf (fun p7 hp7 hf => ?_)
      refine J_callV (q := 35) (ci := 0) (as := [vi (v5)]) (rest := []) C0 hb6 (ab6) (t_X0_isStillBy N b6 (v5) (hT) (ab6)  hp7) ml_X0_isStillBy lk_X11_291 im_X0_isStillBy se_X0_isStillBy rfl (by decide) dX11_stands_32 rfl rfl rfl (by simp [ac_]) C1.room (by decide) (by decide) (by decide) (by decide) (fun r_ τ_ hQ => ?_)
      obtain ⟨⟨rfl, zp7⟩, ht_⟩ := hQ; have ht_ := ht_.symm; subst ht_
      show J_ Γ 35 [(0, vr (some a0)), (2, vi (v2)), (3, vr (v3)), (4, vi (v4)), (5, vi (v5))] [vi (p7)] σ 0 0
      refine J_if_eq (t := 50) (q := 38) C0 dX11_stands_35 (by decide) rfl hf (fun c8 hf => ?_) (fun c8 hf => ?_)
      · exact t_X11_stands_B50 C1  (f_X11_stands_L22 N a0 n)  ih  (v2) (v3) (v4) (v5) σ (hT) (hE) (h0) ((by rw [hb6]; exact is_O.some (ab6))) hf
      · refine J_iload (q := 40) C0 3 rfl dX11_stands_38 rfl ?_
        refine J_iload_n (q := 41) C0 1 rfl rfl dX11_stands_40 rfl ?_
        refine J_icmp_ne (t := 47) (q := 44) C0 dX11_stands_41 (by decide) rfl hf (fun c9 hf => ?_) (fun c9 hf => ?_)
        · refine J_iinc (q := 50) (v := v4 + 1) (lv' := [(4, vi (v4 + 1)), (0, vr (some a0)), (2, vi (v2)), (3, vr (v3)), (5, vi (v5))]) C0 3 rfl rfl (G_nl C1 (by decide)) dX11_stands_47 rfl rfl ?_
          refine J_sub (lv' := [(0, vr (some a0)), (2, vi (v2)), (3, vr (v3)), (4, vi (v4 + 1)), (5, vi (v5))]) [1, 2, 3, 0, 4] rfl ?_
          exact t_X11_stands_B50 C1  (f_X11_stands_L22 N a0 n)  ih  (v2) (v3) (v4 + 1) (v5) σ (hT) (hE) (h0) ((by rw [hb6]; exact is_O.some (ab6))) hf
        · refine J_iload (q := 46) C0 4 rfl dX11_stands_44 rfl ?_
          obtain rfl := Option.some.inj hf; exact J_iret C1 dX11_stands_46 rfl (Nat.zero_le _) (Nat.zero_le _) ⟨rfl, rfl, hT, hE⟩
set_option maxHeartbeats 4000000 in
set_option maxRecDepth 100000 in
theorem t_X11_stands (N : Nat) (a0 : Nat) (x1 : Int32) (x2 : Int32) {σ : Sg} (hT : sg_T σ) (h0 : is_A σ a0 10) {r : (Int32 × Sg)} (hf : f_X11_stands N a0 x1 x2 σ = some r) : Ct yX11_stands cX11_stands 6 (some .int) 6 138 0 0 [vr (some a0), vi x1, vi x2] σ (fun r_ τ_ => (r_ = some (vi r.1)) ∧ τ_ = r.2 ∧ sg_T τ_ ∧ sg_E σ τ_) := by
  refine Ct.of (by decide +kernel) (Nat.le_of_ble_eq_true rfl) (fun Γ C1 => ?_)
  have C0 := C1.1
  have hE : sg_E σ σ := sg_E.rf
  unfold f_X11_stands at hf
  show J_ Γ 0 [(0, vr (some a0)), (1, vi (x1)), (2, vi (x2))] [] σ 0 0
  refine J_aload_n (q := 1) C0 0 rfl rfl dX11_stands_0 rfl trivial ?_
  refine J_iload_n (q := 2) C0 1 rfl rfl dX11_stands_1 rfl ?_
  refine K_some hf (fun p1 hp1 hf => ?_)
  refine J_callV (q := 5) (ci := 10) (as := [vi (x1)]) (rest := []) C0 rfl (h0) (t_X11_isWheel a0 (x1) (hT) (h0)  hp1) ml_X11_isWheel lk_X11_195 im_X11_isWheel se_X11_isWheel rfl (by decide) dX11_stands_2 rfl rfl rfl (by simp [ac_]) C1.room (by decide) (by decide) (by decide) (by decide) (fun r_ τ_ hQ => ?_)
  obtain ⟨⟨rfl, zp1⟩, ht_⟩ := hQ; have ht_ := ht_.symm; subst ht_
  show J_ Γ 5 [(0, vr (some a0)), (1, vi (x1)), (2, vi (x2))] [vi (p1)] σ 0 0
  refine J_if_ne (t := 10) (q := 8) C0 dX11_stands_5 (by decide) rfl hf (fun c2 hf => ?_) (fun c2 hf => ?_)
  · refine J_aload_n (q := 11) C0 0 rfl rfl dX11_stands_10 rfl trivial ?_
    refine J_iload_n (q := 12) C0 1 rfl rfl dX11_stands_11 rfl ?_
    refine K_some hf (fun p3 hp3 hf => ?_)
    refine J_callV (q := 15) (ci := 10) (as := [vi (x1)]) (rest := []) C0 rfl (h0) (t_X11_traced N a0 (x1) (hT) (h0)  hp3) ml_X11_traced lk_X11_280 im_X11_traced se_X11_traced rfl (by decide) dX11_stands_12 rfl rfl rfl (by simp [ac_]) C1.room (by decide) (by decide) (by decide) (by decide) (fun r_ τ_ hQ => ?_)
    obtain ⟨⟨rfl, op3⟩, rfl, Tp3, Ep3⟩ := hQ
    show J_ Γ 15 [(0, vr (some a0)), (1, vi (x1)), (2, vi (x2))] [vr (p3.1)] p3.2 0 0
    refine J_astore_n (q := 16) (lv' := [(3, vr (p3.1)), (0, vr (some a0)), (1, vi (x1)), (2, vi (x2))]) C0 rfl (G_nl C1 (by decide)) dX11_stands_15 rfl trivial rfl ?_
    refine J_iconst (q := 17) (v := 0) C0 dX11_stands_16 rfl rfl ?_
    refine J_istore (q := 19) (lv' := [(4, vi (0)), (3, vr (p3.1)), (0, vr (some a0)), (1, vi (x1)), (2, vi (x2))]) C0 (G_nl C1 (by decide)) dX11_stands_17 rfl rfl ?_
    refine J_iconst (q := 20) (v := 1) C0 dX11_stands_19 rfl rfl ?_
    refine J_istore (q := 22) (lv' := [(5, vi (1)), (4, vi (0)), (3, vr (p3.1)), (0, vr (some a0)), (1, vi (x1)), (2, vi (x2))]) C0 (G_nl C1 (by decide)) dX11_stands_20 rfl rfl ?_
    refine J_sub (lv' := [(0, vr (some a0)), (2, vi (x2)), (3, vr (p3.1)), (4, vi (0)), (5, vi (1))]) [3, 5, 2, 1, 0] rfl ?_
    exact t_X11_stands_L22 C1    N (x2) (p3.1) (0) (1) (p3.2) (Tp3) ((hE).tr Ep3) ((Ep3.at h0)) (op3) hf
  · refine J_iconst (q := 9) (v := (-1)) C0 dX11_stands_8 rfl rfl ?_
    obtain rfl := Option.some.inj hf; exact J_iret C1 dX11_stands_9 rfl (Nat.zero_le _) (Nat.zero_le _) ⟨rfl, rfl, hT, hE⟩
def f_X11_traceAll_L2 (N : Nat) (a0 : Nat) : Nat → Int32 → Sg → Option Sg
  | 0, _, _ => none
  | n + 1, v1, σ =>
  Option.bind (sg_R σ a0 13) fun b1 =>
  if (v1) < (sg_I σ b1 1) then
  (Option.bind (f_X11_traced N a0 (v1) σ) fun p3 =>
  f_X11_traceAll_L2 N a0 n (v1 + 1) (p3.2))
  else
  (some (σ))
def f_X11_traceAll (N : Nat) (a0 : Nat) (σ : Sg) : Option Sg :=
  f_X11_traceAll_L2 N a0 N (0) σ
set_option maxHeartbeats 4000000 in
set_option maxRecDepth 100000 in
theorem t_X11_traceAll_L2 {N : Nat} {a0 : Nat} {Γ : Gm} {σ0 : Sg} {r : Sg} (C1 : CM Γ cX11_traceAll RX11 2 none 6 138 0 0 (fun r_ τ_ => (r_ = none) ∧ τ_ = r ∧ sg_T τ_ ∧ sg_E σ0 τ_)) : ∀ (n : Nat) (v1 : Int32) (σ : Sg), sg_T σ → sg_E σ0 σ → is_A σ a0 10 → f_X11_traceAll_L2 N a0  n v1 σ = some r → J_ Γ 2 [(0, vr (some a0)), (1, vi (v1))] [] σ 0 0 := by
  have C0 := C1.1
  intro n
  induction n with
  | zero => intro v1 σ hT hE h0  hf; unfold f_X11_traceAll_L2 at hf; cases hf
  | succ n ih =>
    intro v1 σ hT hE h0  hf
    rw [f_X11_traceAll_L2] at hf
    refine J_iload_n (q := 3) C0 1 rfl rfl dX11_traceAll_2 rfl ?_
    refine J_aload_n (q := 4) C0 0 rfl rfl dX11_traceAll_3 rfl trivial ?_
    refine J_getR (q := 7) C0 fl_X11_75_10 rfl (h0) rfl dX11_traceAll_4 rfl ?_
    refine K_some hf (fun b1 hb1 hf => ?_)
    have ab1 : is_A σ b1 6 := ((sg_T.op hT (j := 13) (h0) rfl)) b1 hb1
    refine J_getI (q := 10) C0 fl_X11_150_6 hb1 (ab1) rfl dX11_traceAll_7 rfl ?_
    refine J_icmp_ge (t := 25) (q := 13) C0 dX11_traceAll_10 (by decide) rfl hf (fun c2 hf => ?_) (fun c2 hf => ?_)
    · obtain rfl := Option.some.inj hf; exact J_vret C1 dX11_traceAll_25 rfl (Nat.zero_le _) (Nat.zero_le _) ⟨rfl, rfl, hT, hE⟩
    · refine J_aload_n (q := 14) C0 0 rfl rfl dX11_traceAll_13 rfl trivial ?_
      refine J_iload_n (q := 15) C0 1 rfl rfl dX11_traceAll_14 rfl ?_
      refine K_some hf (fun p3 hp3 hf => ?_)
      refine J_callV (q := 18) (ci := 10) (as := [vi (v1)]) (rest := []) C0 rfl (h0) (t_X11_traced N a0 (v1) (hT) (h0)  hp3) ml_X11_traced lk_X11_280 im_X11_traced se_X11_traced rfl (by decide) dX11_traceAll_15 rfl rfl rfl (by simp [ac_]) C1.room (by decide) (by decide) (by decide) (by decide) (fun r_ τ_ hQ => ?_)
      obtain ⟨⟨rfl, op3⟩, rfl, Tp3, Ep3⟩ := hQ
      show J_ Γ 18 [(0, vr (some a0)), (1, vi (v1))] [vr (p3.1)] p3.2 0 0
      refine J_pop (q := 19) C0 dX11_traceAll_18 rfl rfl ?_
      refine J_iinc (q := 22) (v := v1 + 1) (lv' := [(1, vi (v1 + 1)), (0, vr (some a0))]) C0 1 rfl rfl (G_nl C1 (by decide)) dX11_traceAll_19 rfl rfl ?_
      refine J_goto (q := 2) C0 dX11_traceAll_22 (by decide) ?_
      refine J_sub (lv' := [(0, vr (some a0)), (1, vi (v1 + 1))]) [1, 0] rfl ?_
      exact ih (v1 + 1) (p3.2) (Tp3) ((hE).tr Ep3) ((Ep3.at h0))  hf
set_option maxHeartbeats 4000000 in
set_option maxRecDepth 100000 in
theorem t_X11_traceAll (N : Nat) (a0 : Nat) {σ : Sg} (hT : sg_T σ) (h0 : is_A σ a0 10) {r : Sg} (hf : f_X11_traceAll N a0  σ = some r) : Ct yX11_traceAll cX11_traceAll 2 none 6 138 0 0 [vr (some a0)] σ (fun r_ τ_ => (r_ = none) ∧ τ_ = r ∧ sg_T τ_ ∧ sg_E σ τ_) := by
  refine Ct.of (by decide +kernel) (Nat.le_of_ble_eq_true rfl) (fun Γ C1 => ?_)
  have C0 := C1.1
  have hE : sg_E σ σ := sg_E.rf
  unfold f_X11_traceAll at hf
  show J_ Γ 0 [(0, vr (some a0))] [] σ 0 0
  refine J_iconst (q := 1) (v := 0) C0 dX11_traceAll_0 rfl rfl ?_
  refine J_istore_n (q := 2) (lv' := [(1, vi (0)), (0, vr (some a0))]) C0 rfl (G_nl C1 (by decide)) dX11_traceAll_1 rfl rfl ?_
  refine J_sub (lv' := [(0, vr (some a0)), (1, vi (0))]) [1, 0] rfl ?_
  exact t_X11_traceAll_L2 C1    N (0) σ (hT) (hE) (h0)  hf
def f_X11_together_B57 (N : Nat) (a0 : Nat) (k15 : Int32 → Sg → Option (Int32 × Sg)) (v1 : Int32) (v2 : Int32) (σ : Sg) : Option (Int32 × Sg) :=
  if (v2) = (0) then
  (k15 (v1 + 1) σ)
  else
  (some (v1, σ))
def f_X11_together_L25 (N : Nat) (a0 : Nat) (k15 : Int32 → Sg → Option (Int32 × Sg)) : Nat → Int32 → Int32 → Int32 → Sg → Option (Int32 × Sg)
  | 0, _, _, _, _ => none
  | n + 1, v1, v2, v3, σ =>
  Option.bind (sg_R σ a0 13) fun b5 =>
  if (v3) < (sg_I σ b5 1) then
  (if (v2) = (0) then
  (f_X11_together_B57 N a0 k15 (v1) (v2) σ)
  else
  (Option.bind (sg_R σ a0 18) fun b9 =>
  if (v3) < 0 ∨ sg_L σ b9 ≤ (v3).toNatClampNeg then none else
  Option.bind (sg_R σ b9 (v3).toNatClampNeg) fun b11 =>
  Option.bind (f_X0_isStillBy N b11 (v1) σ) fun p12 =>
  f_X11_together_L25 N a0 k15 n (v1) (p12) (v3 + 1) σ))
  else
  (f_X11_together_B57 N a0 k15 (v1) (v2) σ)
def f_X11_together_L15 (N : Nat) (a0 : Nat) : Nat → Int32 → Sg → Option (Int32 × Sg)
  | 0, _, _ => none
  | n + 1, v1, σ =>
  if (60) < (v1) then
  (some ((-1), σ))
  else
  (f_X11_together_L25 N a0 (f_X11_together_L15 N a0 n) N (v1) (1) (0) σ)
def f_X11_together (N : Nat) (a0 : Nat) (σ : Sg) : Option (Int32 × Sg) :=
  Option.bind (f_X11_isLit a0  σ) fun p1 =>
  if (p1) = (0) then
  (some ((-1), σ))
  else
  (Option.bind (f_X11_traceAll N a0  σ) fun p3 =>
  f_X11_together_L15 N a0 N (1) (p3))
set_option maxHeartbeats 4000000 in
set_option maxRecDepth 100000 in
theorem t_X11_together_B57 {N : Nat} {a0 : Nat} {Γ : Gm} {σ0 : Sg} {r : (Int32 × Sg)} (C1 : CM Γ cX11_together RX11 4 (some .int) 7 159 0 0 (fun r_ τ_ => (r_ = some (vi r.1)) ∧ τ_ = r.2 ∧ sg_T τ_ ∧ sg_E σ0 τ_)) (k15 : Int32 → Sg → Option (Int32 × Sg)) (hk15 : ∀ (v1 : Int32) (σ : Sg), sg_T σ → sg_E σ0 σ → is_A σ a0 10 → k15 v1 σ = some r → J_ Γ 15 [(0, vr (some a0)), (1, vi v1)] [] σ 0 0) (v1 : Int32) (v2 : Int32) (σ : Sg) (hT : sg_T σ) (hE : sg_E σ0 σ) (h0 : is_A σ a0 10) (hf : f_X11_together_B57 N a0 k15  v1 v2 σ = some r) : J_ Γ 57 [(0, vr (some a0)), (1, vi (v1)), (2, vi (v2))] [] σ 0 0 := by
  have C0 := C1.1
  unfold f_X11_together_B57 at hf
  refine J_iload_n (q := 58) C0 2 rfl rfl dX11_together_57 rfl ?_
  refine J_if_eq (t := 63) (q := 61) C0 dX11_together_58 (by decide) rfl hf (fun c7 hf => ?_) (fun c7 hf => ?_)
  · refine J_iinc (q := 66) (v := v1 + 1) (lv' := [(1, vi (v1 + 1)), (0, vr (some a0)), (2, vi (v2))]) C0 1 rfl rfl (G_nl C1 (by decide)) dX11_together_63 rfl rfl ?_
    refine J_goto (q := 15) C0 dX11_together_66 (by decide) ?_
    refine J_sub (lv' := [(0, vr (some a0)), (1, vi (v1 + 1))]) [1, 0] rfl ?_
    exact hk15 (v1 + 1) σ (hT) (hE)  (h0)  hf
  · refine J_iload_n (q := 62) C0 1 rfl rfl dX11_together_61 rfl ?_
    obtain rfl := Option.some.inj hf; exact J_iret C1 dX11_together_62 rfl (Nat.zero_le _) (Nat.zero_le _) ⟨rfl, rfl, hT, hE⟩
set_option maxHeartbeats 4000000 in
set_option maxRecDepth 100000 in
theorem t_X11_together_L25 {N : Nat} {a0 : Nat} {Γ : Gm} {σ0 : Sg} {r : (Int32 × Sg)} (C1 : CM Γ cX11_together RX11 4 (some .int) 7 159 0 0 (fun r_ τ_ => (r_ = some (vi r.1)) ∧ τ_ = r.2 ∧ sg_T τ_ ∧ sg_E σ0 τ_)) (k15 : Int32 → Sg → Option (Int32 × Sg)) (hk15 : ∀ (v1 : Int32) (σ : Sg), sg_T σ → sg_E σ0 σ → is_A σ a0 10 → k15 v1 σ = some r → J_ Γ 15 [(0, vr (some a0)), (1, vi v1)] [] σ 0 0) : ∀ (n : Nat) (v1 : Int32) (v2 : Int32) (v3 : Int32) (σ : Sg), sg_T σ → sg_E σ0 σ → is_A σ a0 10 → f_X11_together_L25 N a0 k15  n v1 v2 v3 σ = some r → J_ Γ 25 [(0, vr (some a0)), (1, vi (v1)), (2, vi (v2)), (3, vi (v3))] [] σ 0 0 := by
  have C0 := C1.1
  intro n
  induction n with
  | zero => intro v1 v2 v3 σ hT hE h0  hf; unfold f_X11_together_L25 at hf; cases hf
  | succ n ih =>
    intro v1 v2 v3 σ hT hE h0  hf
    rw [f_X11_together_L25] at hf
    refine J_iload_n (q := 26) C0 3 rfl rfl dX11_together_25 rfl ?_
    refine J_aload_n (q := 27) C0 0 rfl rfl dX11_together_26 rfl trivial ?_
    refine J_getR (q := 30) C0 fl_X11_75_10 rfl (h0) rfl dX11_together_27 rfl ?_
    refine K_some hf (fun b5 hb5 hf => ?_)
    have ab5 : is_A σ b5 6 := ((sg_T.op hT (j := 13) (h0) rfl)) b5 hb5
    refine J_getI (q := 33) C0 fl_X11_150_6 hb5 (ab5) rfl dX11_together_30 rfl ?_
    refine J_icmp_ge (t := 57) (q := 36) C0 dX11_together_33 (by decide) rfl hf (fun c6 hf => ?_) (fun c6 hf => ?_)
    · refine J_sub (lv' := [(0, vr (some a0)), (1, vi (v1)), (2, vi (v2))]) [0, 1, 2] rfl ?_
      exact t_X11_together_B57 C1  k15  hk15  (v1) (v2) σ (hT) (hE) (h0)  hf
    · refine J_iload_n (q := 37) C0 2 rfl rfl dX11_together_36 rfl ?_
      refine J_if_eq (t := 57) (q := 40) C0 dX11_together_37 (by decide) rfl hf (fun c8 hf => ?_) (fun c8 hf => ?_)
      · refine J_sub (lv' := [(0, vr (some a0)), (1, vi (v1)), (2, vi (v2))]) [0, 1, 2] rfl ?_
        exact t_X11_together_B57 C1  k15  hk15  (v1) (v2) σ (hT) (hE) (h0)  hf
      · refine J_aload_n (q := 41) C0 0 rfl rfl dX11_together_40 rfl trivial ?_
        refine J_getR (q := 44) C0 fl_X11_102_10 rfl (h0) rfl dX11_together_41 rfl ?_
        refine J_iload_n (q := 45) C0 3 rfl rfl dX11_together_44 rfl ?_
        refine K_some hf (fun b9 hb9 hf => ?_)
        have ab9 : is_A σ b9 14 := ((sg_T.op hT (j := 18) (h0) rfl)) b9 hb9
        refine K_chk hf (fun c10 hf => ?_)
        refine J_aald (q := 46) C0 hb9 (ab9) (by decide) c10 dX11_together_45 rfl ?_
        refine J_iload_n (q := 47) C0 1 rfl rfl dX11_together_46 rfl ?_
        refine K_some hf (fun b11 hb11 hf => ?_)
        have ab11 : is_A σ b11 0 := ((sg_T.op hT (j := (v3).toNatClampNeg) (ab9) rfl)) b11 hb11
        refine K_some hf (fun p12 hp12 hf => ?_)
        refine J_callV (q := 50) (ci := 0) (as := [vi (v1)]) (rest := []) C0 hb11 (ab11) (t_X0_isStillBy N b11 (v1) (hT) (ab11)  hp12) ml_X0_isStillBy lk_X11_291 im_X0_isStillBy se_X0_isStillBy rfl (by decide) dX11_together_47 rfl rfl rfl (by simp [ac_]) C1.room (by decide) (by decide) (by decide) (by decide) (fun r_ τ_ hQ => ?_)
        obtain ⟨⟨rfl, zp12⟩, ht_⟩ := hQ; have ht_ := ht_.symm; subst ht_
        show J_ Γ 50 [(0, vr (some a0)), (1, vi (v1)), (2, vi (v2)), (3, vi (v3))] [vi (p12)] σ 0 0
        refine J_istore_n (q := 51) (lv' := [(2, vi (p12)), (0, vr (some a0)), (1, vi (v1)), (3, vi (v3))]) C0 rfl (G_nl C1 (by decide)) dX11_together_50 rfl rfl ?_
        refine J_iinc (q := 54) (v := v3 + 1) (lv' := [(3, vi (v3 + 1)), (2, vi (p12)), (0, vr (some a0)), (1, vi (v1))]) C0 3 rfl rfl (G_nl C1 (by decide)) dX11_together_51 rfl rfl ?_
        refine J_goto (q := 25) C0 dX11_together_54 (by decide) ?_
        refine J_sub (lv' := [(0, vr (some a0)), (1, vi (v1)), (2, vi (p12)), (3, vi (v3 + 1))]) [2, 3, 1, 0] rfl ?_
        exact ih (v1) (p12) (v3 + 1) σ (hT) (hE) (h0)  hf
set_option maxHeartbeats 4000000 in
set_option maxRecDepth 100000 in
theorem t_X11_together_L15 {N : Nat} {a0 : Nat} {Γ : Gm} {σ0 : Sg} {r : (Int32 × Sg)} (C1 : CM Γ cX11_together RX11 4 (some .int) 7 159 0 0 (fun r_ τ_ => (r_ = some (vi r.1)) ∧ τ_ = r.2 ∧ sg_T τ_ ∧ sg_E σ0 τ_)) : ∀ (n : Nat) (v1 : Int32) (σ : Sg), sg_T σ → sg_E σ0 σ → is_A σ a0 10 → f_X11_together_L15 N a0  n v1 σ = some r → J_ Γ 15 [(0, vr (some a0)), (1, vi (v1))] [] σ 0 0 := by
  have C0 := C1.1
  intro n
  induction n with
  | zero => intro v1 σ hT hE h0  hf; unfold f_X11_together_L15 at hf; cases hf
  | succ n ih =>
    intro v1 σ hT hE h0  hf
    rw [f_X11_together_L15] at hf
    refine J_iload_n (q := 16) C0 1 rfl rfl dX11_together_15 rfl ?_
    refine J_bipush (q := 18) (v := 60) C0 dX11_together_16 rfl rfl ?_
    refine J_icmp_gt (t := 69) (q := 21) C0 dX11_together_18 (by decide) rfl hf (fun c4 hf => ?_) (fun c4 hf => ?_)
    · refine J_iconst (q := 70) (v := (-1)) C0 dX11_together_69 rfl rfl ?_
      obtain rfl := Option.some.inj hf; exact J_iret C1 dX11_together_70 rfl (Nat.zero_le _) (Nat.zero_le _) ⟨rfl, rfl, hT, hE⟩
    · refine J_iconst (q := 22) (v := 1) C0 dX11_together_21 rfl rfl ?_
      refine J_istore_n (q := 23) (lv' := [(2, vi (1)), (0, vr (some a0)), (1, vi (v1))]) C0 rfl (G_nl C1 (by decide)) dX11_together_22 rfl rfl ?_
      refine J_iconst (q := 24) (v := 0) C0 dX11_together_23 rfl rfl ?_
      refine J_istore_n (q := 25) (lv' := [(3, vi (0)), (2, vi (1)), (0, vr (some a0)), (1, vi (v1))]) C0 rfl (G_nl C1 (by decide)) dX11_together_24 rfl rfl ?_
      refine J_sub (lv' := [(0, vr (some a0)), (1, vi (v1)), (2, vi (1)), (3, vi (0))]) [2, 3, 1, 0] rfl ?_
      exact t_X11_together_L25 C1  (f_X11_together_L15 N a0 n)  ih  N (v1) (1) (0) σ (hT) (hE) (h0)  hf
set_option maxHeartbeats 4000000 in
set_option maxRecDepth 100000 in
theorem t_X11_together (N : Nat) (a0 : Nat) {σ : Sg} (hT : sg_T σ) (h0 : is_A σ a0 10) {r : (Int32 × Sg)} (hf : f_X11_together N a0  σ = some r) : Ct yX11_together cX11_together 4 (some .int) 7 159 0 0 [vr (some a0)] σ (fun r_ τ_ => (r_ = some (vi r.1)) ∧ τ_ = r.2 ∧ sg_T τ_ ∧ sg_E σ τ_) := by
  refine Ct.of (by decide +kernel) (Nat.le_of_ble_eq_true rfl) (fun Γ C1 => ?_)
  have C0 := C1.1
  have hE : sg_E σ σ := sg_E.rf
  unfold f_X11_together at hf
  show J_ Γ 0 [(0, vr (some a0))] [] σ 0 0
  refine J_aload_n (q := 1) C0 0 rfl rfl dX11_together_0 rfl trivial ?_
  refine K_some hf (fun p1 hp1 hf => ?_)
  refine J_callV (q := 4) (ci := 10) (as := []) (rest := []) C0 rfl (h0) (t_X11_isLit a0  (hT) (h0)  hp1) ml_X11_isLit lk_X11_183 im_X11_isLit se_X11_isLit rfl (by decide) dX11_together_1 rfl rfl rfl (by simp [ac_]) C1.room (by decide) (by decide) (by decide) (by decide) (fun r_ τ_ hQ => ?_)
  obtain ⟨⟨rfl, zp1⟩, ht_⟩ := hQ; have ht_ := ht_.symm; subst ht_
  show J_ Γ 4 [(0, vr (some a0))] [vi (p1)] σ 0 0
  refine J_if_ne (t := 9) (q := 7) C0 dX11_together_4 (by decide) rfl hf (fun c2 hf => ?_) (fun c2 hf => ?_)
  · refine J_aload_n (q := 10) C0 0 rfl rfl dX11_together_9 rfl trivial ?_
    refine K_some hf (fun p3 hp3 hf => ?_)
    refine J_callV (q := 13) (ci := 10) (as := []) (rest := []) C0 rfl (h0) (t_X11_traceAll N a0  (hT) (h0)  hp3) ml_X11_traceAll lk_X11_294 im_X11_traceAll se_X11_traceAll rfl (by decide) dX11_together_10 rfl rfl rfl (by simp [ac_]) C1.room (by decide) (by decide) (by decide) (by decide) (fun r_ τ_ hQ => ?_)
    obtain ⟨rfl, ht_, Tp3, Ep3⟩ := hQ; have ht_ := ht_.symm; subst ht_
    show J_ Γ 13 [(0, vr (some a0))] [] p3 0 0
    refine J_iconst (q := 14) (v := 1) C0 dX11_together_13 rfl rfl ?_
    refine J_istore_n (q := 15) (lv' := [(1, vi (1)), (0, vr (some a0))]) C0 rfl (G_nl C1 (by decide)) dX11_together_14 rfl rfl ?_
    refine J_sub (lv' := [(0, vr (some a0)), (1, vi (1))]) [1, 0] rfl ?_
    exact t_X11_together_L15 C1    N (1) (p3) (Tp3) ((hE).tr Ep3) ((Ep3.at h0))  hf
  · refine J_iconst (q := 8) (v := (-1)) C0 dX11_together_7 rfl rfl ?_
    obtain rfl := Option.some.inj hf; exact J_iret C1 dX11_together_8 rfl (Nat.zero_le _) (Nat.zero_le _) ⟨rfl, rfl, hT, hE⟩
def f_X11_again_B128 (N : Nat) (a0 : Nat) (k83 : Int32 → Int32 → Int32 → Int32 → Sg → Option (Int32 × Sg)) (v3 : Int32) (v4 : Int32) (v5 : Int32) (v6 : Int32) (v7 : Int32) (σ : Sg) : Option (Int32 × Sg) :=
  if (v7) = (0) then
  (k83 (v3) (v4) (v5) (v6 + 1) σ)
  else
  (some (v6, σ))
def f_X11_again_L96 (N : Nat) (a0 : Nat) (k83 : Int32 → Int32 → Int32 → Int32 → Sg → Option (Int32 × Sg)) : Nat → Int32 → Int32 → Int32 → Int32 → Int32 → Int32 → Sg → Option (Int32 × Sg)
  | 0, _, _, _, _, _, _, _ => none
  | n + 1, v3, v4, v5, v6, v7, v8, σ =>
  if (v8) < (v4) then
  (if (v7) = (0) then
  (f_X11_again_B128 N a0 k83 (v3) (v4) (v5) (v6) (v7) σ)
  else
  (Option.bind (sg_R σ a0 18) fun b11 =>
  if (v8) < 0 ∨ sg_L σ b11 ≤ (v8).toNatClampNeg then none else
  Option.bind (sg_R σ b11 (v8).toNatClampNeg) fun b13 =>
  Option.bind (f_X0_isHomeAfter b13 (v6) σ) fun p14 =>
  f_X11_again_L96 N a0 k83 n (v3) (v4) (v5) (v6) (p14) (v8 + 1) σ))
  else
  (f_X11_again_B128 N a0 k83 (v3) (v4) (v5) (v6) (v7) σ)
def f_X11_again_L83 (N : Nat) (a0 : Nat) : Nat → Int32 → Int32 → Int32 → Int32 → Sg → Option (Int32 × Sg)
  | 0, _, _, _, _, _ => none
  | n + 1, v3, v4, v5, v6, σ =>
  if (v5) < (v6) then
  (some ((-1), σ))
  else
  (f_X11_again_L96 N a0 (f_X11_again_L83 N a0 n) N (v3) (v4) (v5) (v6) (1) (v3) σ)
def f_X11_again_B74 (N : Nat) (a0 : Nat) (v3 : Int32) (v4 : Int32) (s0 : Int32) (σ : Sg) : Option (Int32 × Sg) :=
  Option.bind (f_X11_traceAll N a0  σ) fun p6 =>
  f_X11_again_L83 N a0 N (v3) (v4) (s0) (1) (p6)
def f_X11_again_B59 (N : Nat) (a0 : Nat) (v2 : Int32) (v3 : Int32) (s0 : Int32) (σ : Sg) : Option (Int32 × Sg) :=
  if (v2) = (0) then
  (f_X11_again_B74 N a0 (v3) (s0) (999) σ)
  else
  (f_X11_again_B74 N a0 (v3) (s0) (9999) σ)
def f_X11_again_B41 (N : Nat) (a0 : Nat) (v1 : Int32) (v2 : Int32) (s0 : Int32) (σ : Sg) : Option (Int32 × Sg) :=
  if (v2) = (0) then
  (f_X11_again_B59 N a0 (v2) (s0) ((v1) + (1)) σ)
  else
  (Option.bind (sg_R σ a0 13) fun b15 =>
  f_X11_again_B59 N a0 (v2) (s0) (sg_I σ b15 1) σ)
def f_X11_again_B32 (N : Nat) (a0 : Nat) (v1 : Int32) (v2 : Int32) (σ : Sg) : Option (Int32 × Sg) :=
  if (v2) = (0) then
  (f_X11_again_B41 N a0 (v1) (v2) (v1) σ)
  else
  (f_X11_again_B41 N a0 (v1) (v2) (0) σ)
def f_X11_again_B17 (N : Nat) (a0 : Nat) (v1 : Int32) (s0 : Int32) (σ : Sg) : Option (Int32 × Sg) :=
  if (s0) = (0) then
  (Option.bind (f_X11_isWheel a0 (v1) σ) fun p16 =>
  if (p16) = (0) then
  (some ((-1), σ))
  else
  (f_X11_again_B32 N a0 (v1) (s0) σ))
  else
  (f_X11_again_B32 N a0 (v1) (s0) σ)
def f_X11_again_B16 (N : Nat) (a0 : Nat) (v1 : Int32) (σ : Sg) : Option (Int32 × Sg) :=
  f_X11_again_B17 N a0 (v1) (0) σ
def f_X11_again (N : Nat) (a0 : Nat) (x1 : Int32) (σ : Sg) : Option (Int32 × Sg) :=
  if (x1) = ((-1)) then
  (Option.bind (f_X11_isLit a0  σ) fun p18 =>
  if (p18) = (0) then
  (f_X11_again_B16 N a0 (x1) σ)
  else
  (f_X11_again_B17 N a0 (x1) (1) σ))
  else
  (f_X11_again_B16 N a0 (x1) σ)
set_option maxHeartbeats 4000000 in
set_option maxRecDepth 100000 in
theorem t_X11_again_B128 {N : Nat} {a0 : Nat} {Γ : Gm} {σ0 : Sg} {r : (Int32 × Sg)} (C1 : CM Γ cX11_again RX11 9 (some .int) 7 159 0 0 (fun r_ τ_ => (r_ = some (vi r.1)) ∧ τ_ = r.2 ∧ sg_T τ_ ∧ sg_E σ0 τ_)) (k83 : Int32 → Int32 → Int32 → Int32 → Sg → Option (Int32 × Sg)) (hk83 : ∀ (v3 : Int32) (v4 : Int32) (v5 : Int32) (v6 : Int32) (σ : Sg), sg_T σ → sg_E σ0 σ → is_A σ a0 10 → k83 v3 v4 v5 v6 σ = some r → J_ Γ 83 [(0, vr (some a0)), (3, vi v3), (4, vi v4), (5, vi v5), (6, vi v6)] [] σ 0 0) (v3 : Int32) (v4 : Int32) (v5 : Int32) (v6 : Int32) (v7 : Int32) (σ : Sg) (hT : sg_T σ) (hE : sg_E σ0 σ) (h0 : is_A σ a0 10) (hf : f_X11_again_B128 N a0 k83  v3 v4 v5 v6 v7 σ = some r) : J_ Γ 128 [(0, vr (some a0)), (3, vi (v3)), (4, vi (v4)), (5, vi (v5)), (6, vi (v6)), (7, vi (v7))] [] σ 0 0 := by
  have C0 := C1.1
  unfold f_X11_again_B128 at hf
  refine J_iload (q := 130) C0 5 rfl dX11_again_128 rfl ?_
  refine J_if_eq (t := 136) (q := 133) C0 dX11_again_130 (by decide) rfl hf (fun c9 hf => ?_) (fun c9 hf => ?_)
  · refine J_iinc (q := 139) (v := v6 + 1) (lv' := [(6, vi (v6 + 1)), (0, vr (some a0)), (3, vi (v3)), (4, vi (v4)), (5, vi (v5)), (7, vi (v7))]) C0 4 rfl rfl (G_nl C1 (by decide)) dX11_again_136 rfl rfl ?_
    refine J_goto (q := 83) C0 dX11_again_139 (by decide) ?_
    refine J_sub (lv' := [(0, vr (some a0)), (3, vi (v3)), (4, vi (v4)), (5, vi (v5)), (6, vi (v6 + 1))]) [1, 2, 3, 4, 0] rfl ?_
    exact hk83 (v3) (v4) (v5) (v6 + 1) σ (hT) (hE)  (h0)  hf
  · refine J_iload (q := 135) C0 4 rfl dX11_again_133 rfl ?_
    obtain rfl := Option.some.inj hf; exact J_iret C1 dX11_again_135 rfl (Nat.zero_le _) (Nat.zero_le _) ⟨rfl, rfl, hT, hE⟩
set_option maxHeartbeats 4000000 in
set_option maxRecDepth 100000 in
theorem t_X11_again_L96 {N : Nat} {a0 : Nat} {Γ : Gm} {σ0 : Sg} {r : (Int32 × Sg)} (C1 : CM Γ cX11_again RX11 9 (some .int) 7 159 0 0 (fun r_ τ_ => (r_ = some (vi r.1)) ∧ τ_ = r.2 ∧ sg_T τ_ ∧ sg_E σ0 τ_)) (k83 : Int32 → Int32 → Int32 → Int32 → Sg → Option (Int32 × Sg)) (hk83 : ∀ (v3 : Int32) (v4 : Int32) (v5 : Int32) (v6 : Int32) (σ : Sg), sg_T σ → sg_E σ0 σ → is_A σ a0 10 → k83 v3 v4 v5 v6 σ = some r → J_ Γ 83 [(0, vr (some a0)), (3, vi v3), (4, vi v4), (5, vi v5), (6, vi v6)] [] σ 0 0) : ∀ (n : Nat) (v3 : Int32) (v4 : Int32) (v5 : Int32) (v6 : Int32) (v7 : Int32) (v8 : Int32) (σ : Sg), sg_T σ → sg_E σ0 σ → is_A σ a0 10 → f_X11_again_L96 N a0 k83  n v3 v4 v5 v6 v7 v8 σ = some r → J_ Γ 96 [(0, vr (some a0)), (3, vi (v3)), (4, vi (v4)), (5, vi (v5)), (6, vi (v6)), (7, vi (v7)), (8, vi (v8))] [] σ 0 0 := by
  have C0 := C1.1
  intro n
  induction n with
  | zero => intro v3 v4 v5 v6 v7 v8 σ hT hE h0  hf; unfold f_X11_again_L96 at hf; cases hf
  | succ n ih =>
    intro v3 v4 v5 v6 v7 v8 σ hT hE h0  hf
    rw [f_X11_again_L96] at hf
    refine J_iload (q := 98) C0 6 rfl dX11_again_96 rfl ?_
    refine J_iload (q := 100) C0 2 rfl dX11_again_98 rfl ?_
    refine J_icmp_ge (t := 128) (q := 103) C0 dX11_again_100 (by decide) rfl hf (fun c8 hf => ?_) (fun c8 hf => ?_)
    · refine J_sub (lv' := [(0, vr (some a0)), (3, vi (v3)), (4, vi (v4)), (5, vi (v5)), (6, vi (v6)), (7, vi (v7))]) [0, 1, 2, 3, 4, 5] rfl ?_
      exact t_X11_again_B128 C1  k83  hk83  (v3) (v4) (v5) (v6) (v7) σ (hT) (hE) (h0)  hf
    · refine J_iload (q := 105) C0 5 rfl dX11_again_103 rfl ?_
      refine J_if_eq (t := 128) (q := 108) C0 dX11_again_105 (by decide) rfl hf (fun c10 hf => ?_) (fun c10 hf => ?_)
      · refine J_sub (lv' := [(0, vr (some a0)), (3, vi (v3)), (4, vi (v4)), (5, vi (v5)), (6, vi (v6)), (7, vi (v7))]) [0, 1, 2, 3, 4, 5] rfl ?_
        exact t_X11_again_B128 C1  k83  hk83  (v3) (v4) (v5) (v6) (v7) σ (hT) (hE) (h0)  hf
      · refine J_aload_n (q := 109) C0 0 rfl rfl dX11_again_108 rfl trivial ?_
        refine J_getR (q := 112) C0 fl_X11_102_10 rfl (h0) rfl dX11_again_109 rfl ?_
        refine J_iload (q := 114) C0 6 rfl dX11_again_112 rfl ?_
        refine K_some hf (fun b11 hb11 hf => ?_)
        have ab11 : is_A σ b11 14 := ((sg_T.op hT (j := 18) (h0) rfl)) b11 hb11
        refine K_chk hf (fun c12 hf => ?_)
        refine J_aald (q := 115) C0 hb11 (ab11) (by decide) c12 dX11_again_114 rfl ?_
        refine J_iload (q := 117) C0 4 rfl dX11_again_115 rfl ?_
        refine K_some hf (fun b13 hb13 hf => ?_)
        have ab13 : is_A σ b13 0 := ((sg_T.op hT (j := (v8).toNatClampNeg) (ab11) rfl)) b13 hb13
        refine K_some hf (fun p14 hp14 hf => ?_)
        refine J_callV (q := 120) (ci := 0) (as := [vi (v6)]) (rest := []) C0 hb13 (ab13) (t_X0_isHomeAfter b13 (v6) (hT) (ab13)  hp14) ml_X0_isHomeAfter lk_X11_297 im_X0_isHomeAfter se_X0_isHomeAfter rfl (by decide) dX11_again_117 rfl rfl rfl (by simp [ac_]) C1.room (by decide) (by decide) (by decide) (by decide) (fun r_ τ_ hQ => ?_)
        obtain ⟨⟨rfl, zp14⟩, ht_⟩ := hQ; have ht_ := ht_.symm; subst ht_
        show J_ Γ 120 [(0, vr (some a0)), (3, vi (v3)), (4, vi (v4)), (5, vi (v5)), (6, vi (v6)), (7, vi (v7)), (8, vi (v8))] [vi (p14)] σ 0 0
        refine J_istore (q := 122) (lv' := [(7, vi (p14)), (0, vr (some a0)), (3, vi (v3)), (4, vi (v4)), (5, vi (v5)), (6, vi (v6)), (8, vi (v8))]) C0 (G_nl C1 (by decide)) dX11_again_120 rfl rfl ?_
        refine J_iinc (q := 125) (v := v8 + 1) (lv' := [(8, vi (v8 + 1)), (7, vi (p14)), (0, vr (some a0)), (3, vi (v3)), (4, vi (v4)), (5, vi (v5)), (6, vi (v6))]) C0 6 rfl rfl (G_nl C1 (by decide)) dX11_again_122 rfl rfl ?_
        refine J_goto (q := 96) C0 dX11_again_125 (by decide) ?_
        refine J_sub (lv' := [(0, vr (some a0)), (3, vi (v3)), (4, vi (v4)), (5, vi (v5)), (6, vi (v6)), (7, vi (p14)), (8, vi (v8 + 1))]) [2, 3, 4, 5, 6, 1, 0] rfl ?_
        exact ih (v3) (v4) (v5) (v6) (p14) (v8 + 1) σ (hT) (hE) (h0)  hf
set_option maxHeartbeats 4000000 in
set_option maxRecDepth 100000 in
theorem t_X11_again_L83 {N : Nat} {a0 : Nat} {Γ : Gm} {σ0 : Sg} {r : (Int32 × Sg)} (C1 : CM Γ cX11_again RX11 9 (some .int) 7 159 0 0 (fun r_ τ_ => (r_ = some (vi r.1)) ∧ τ_ = r.2 ∧ sg_T τ_ ∧ sg_E σ0 τ_)) : ∀ (n : Nat) (v3 : Int32) (v4 : Int32) (v5 : Int32) (v6 : Int32) (σ : Sg), sg_T σ → sg_E σ0 σ → is_A σ a0 10 → f_X11_again_L83 N a0  n v3 v4 v5 v6 σ = some r → J_ Γ 83 [(0, vr (some a0)), (3, vi (v3)), (4, vi (v4)), (5, vi (v5)), (6, vi (v6))] [] σ 0 0 := by
  have C0 := C1.1
  intro n
  induction n with
  | zero => intro v3 v4 v5 v6 σ hT hE h0  hf; unfold f_X11_again_L83 at hf; cases hf
  | succ n ih =>
    intro v3 v4 v5 v6 σ hT hE h0  hf
    rw [f_X11_again_L83] at hf
    refine J_iload (q := 85) C0 4 rfl dX11_again_83 rfl ?_
    refine J_iload (q := 87) C0 3 rfl dX11_again_85 rfl ?_
    refine J_icmp_gt (t := 142) (q := 90) C0 dX11_again_87 (by decide) rfl hf (fun c7 hf => ?_) (fun c7 hf => ?_)
    · refine J_iconst (q := 143) (v := (-1)) C0 dX11_again_142 rfl rfl ?_
      obtain rfl := Option.some.inj hf; exact J_iret C1 dX11_again_143 rfl (Nat.zero_le _) (Nat.zero_le _) ⟨rfl, rfl, hT, hE⟩
    · refine J_iconst (q := 91) (v := 1) C0 dX11_again_90 rfl rfl ?_
      refine J_istore (q := 93) (lv' := [(7, vi (1)), (0, vr (some a0)), (3, vi (v3)), (4, vi (v4)), (5, vi (v5)), (6, vi (v6))]) C0 (G_nl C1 (by decide)) dX11_again_91 rfl rfl ?_
      refine J_iload_n (q := 94) C0 2 rfl rfl dX11_again_93 rfl ?_
      refine J_istore (q := 96) (lv' := [(8, vi (v3)), (7, vi (1)), (0, vr (some a0)), (3, vi (v3)), (4, vi (v4)), (5, vi (v5)), (6, vi (v6))]) C0 (G_nl C1 (by decide)) dX11_again_94 rfl rfl ?_
      refine J_sub (lv' := [(0, vr (some a0)), (3, vi (v3)), (4, vi (v4)), (5, vi (v5)), (6, vi (v6)), (7, vi (1)), (8, vi (v3))]) [2, 3, 4, 5, 6, 1, 0] rfl ?_
      exact t_X11_again_L96 C1  (f_X11_again_L83 N a0 n)  ih  N (v3) (v4) (v5) (v6) (1) (v3) σ (hT) (hE) (h0)  hf
set_option maxHeartbeats 4000000 in
set_option maxRecDepth 100000 in
theorem t_X11_again_B74 {N : Nat} {a0 : Nat} {Γ : Gm} {σ0 : Sg} {r : (Int32 × Sg)} (C1 : CM Γ cX11_again RX11 9 (some .int) 7 159 0 0 (fun r_ τ_ => (r_ = some (vi r.1)) ∧ τ_ = r.2 ∧ sg_T τ_ ∧ sg_E σ0 τ_)) (v3 : Int32) (v4 : Int32) (s0 : Int32) (σ : Sg) (hT : sg_T σ) (hE : sg_E σ0 σ) (h0 : is_A σ a0 10) (hf : f_X11_again_B74 N a0  v3 v4 s0 σ = some r) : J_ Γ 74 [(0, vr (some a0)), (3, vi (v3)), (4, vi (v4))] [vi (s0)] σ 0 0 := by
  have C0 := C1.1
  unfold f_X11_again_B74 at hf
  refine J_istore (q := 76) (lv' := [(5, vi (s0)), (0, vr (some a0)), (3, vi (v3)), (4, vi (v4))]) C0 (G_nl C1 (by decide)) dX11_again_74 rfl rfl ?_
  refine J_aload_n (q := 77) C0 1 rfl rfl dX11_again_76 rfl trivial ?_
  refine K_some hf (fun p6 hp6 hf => ?_)
  refine J_callV (q := 80) (ci := 10) (as := []) (rest := []) C0 rfl (h0) (t_X11_traceAll N a0  (hT) (h0)  hp6) ml_X11_traceAll lk_X11_294 im_X11_traceAll se_X11_traceAll rfl (by decide) dX11_again_77 rfl rfl rfl (by simp [ac_]) C1.room (by decide) (by decide) (by decide) (by decide) (fun r_ τ_ hQ => ?_)
  obtain ⟨rfl, ht_, Tp6, Ep6⟩ := hQ; have ht_ := ht_.symm; subst ht_
  show J_ Γ 80 [(5, vi (s0)), (0, vr (some a0)), (3, vi (v3)), (4, vi (v4))] [] p6 0 0
  refine J_iconst (q := 81) (v := 1) C0 dX11_again_80 rfl rfl ?_
  refine J_istore (q := 83) (lv' := [(6, vi (1)), (5, vi (s0)), (0, vr (some a0)), (3, vi (v3)), (4, vi (v4))]) C0 (G_nl C1 (by decide)) dX11_again_81 rfl rfl ?_
  refine J_sub (lv' := [(0, vr (some a0)), (3, vi (v3)), (4, vi (v4)), (5, vi (s0)), (6, vi (1))]) [2, 3, 4, 1, 0] rfl ?_
  exact t_X11_again_L83 C1    N (v3) (v4) (s0) (1) (p6) (Tp6) ((hE).tr Ep6) ((Ep6.at h0))  hf
set_option maxHeartbeats 4000000 in
set_option maxRecDepth 100000 in
theorem t_X11_again_B59 {N : Nat} {a0 : Nat} {Γ : Gm} {σ0 : Sg} {r : (Int32 × Sg)} (C1 : CM Γ cX11_again RX11 9 (some .int) 7 159 0 0 (fun r_ τ_ => (r_ = some (vi r.1)) ∧ τ_ = r.2 ∧ sg_T τ_ ∧ sg_E σ0 τ_)) (v2 : Int32) (v3 : Int32) (s0 : Int32) (σ : Sg) (hT : sg_T σ) (hE : sg_E σ0 σ) (h0 : is_A σ a0 10) (hf : f_X11_again_B59 N a0  v2 v3 s0 σ = some r) : J_ Γ 59 [(0, vr (some a0)), (2, vi (v2)), (3, vi (v3))] [vi (s0)] σ 0 0 := by
  have C0 := C1.1
  unfold f_X11_again_B59 at hf
  refine J_istore (q := 61) (lv' := [(4, vi (s0)), (0, vr (some a0)), (2, vi (v2)), (3, vi (v3))]) C0 (G_nl C1 (by decide)) dX11_again_59 rfl rfl ?_
  refine J_iload_n (q := 62) C0 2 rfl rfl dX11_again_61 rfl ?_
  refine J_if_eq (t := 71) (q := 65) C0 dX11_again_62 (by decide) rfl hf (fun c5 hf => ?_) (fun c5 hf => ?_)
  · refine J_sipush (q := 74) (v := 999) C0 dX11_again_71 rfl rfl ?_
    refine J_sub (lv' := [(0, vr (some a0)), (3, vi (v3)), (4, vi (s0))]) [1, 3, 0] rfl ?_
    exact t_X11_again_B74 C1    (v3) (s0) (999) σ (hT) (hE) (h0)  hf
  · refine J_sipush (q := 68) (v := 9999) C0 dX11_again_65 rfl rfl ?_
    refine J_goto (q := 74) C0 dX11_again_68 (by decide) ?_
    refine J_sub (lv' := [(0, vr (some a0)), (3, vi (v3)), (4, vi (s0))]) [1, 3, 0] rfl ?_
    exact t_X11_again_B74 C1    (v3) (s0) (9999) σ (hT) (hE) (h0)  hf
set_option maxHeartbeats 4000000 in
set_option maxRecDepth 100000 in
theorem t_X11_again_B41 {N : Nat} {a0 : Nat} {Γ : Gm} {σ0 : Sg} {r : (Int32 × Sg)} (C1 : CM Γ cX11_again RX11 9 (some .int) 7 159 0 0 (fun r_ τ_ => (r_ = some (vi r.1)) ∧ τ_ = r.2 ∧ sg_T τ_ ∧ sg_E σ0 τ_)) (v1 : Int32) (v2 : Int32) (s0 : Int32) (σ : Sg) (hT : sg_T σ) (hE : sg_E σ0 σ) (h0 : is_A σ a0 10) (hf : f_X11_again_B41 N a0  v1 v2 s0 σ = some r) : J_ Γ 41 [(0, vr (some a0)), (1, vi (v1)), (2, vi (v2))] [vi (s0)] σ 0 0 := by
  have C0 := C1.1
  unfold f_X11_again_B41 at hf
  refine J_istore_n (q := 42) (lv' := [(3, vi (s0)), (0, vr (some a0)), (1, vi (v1)), (2, vi (v2))]) C0 rfl (G_nl C1 (by decide)) dX11_again_41 rfl rfl ?_
  refine J_iload_n (q := 43) C0 3 rfl rfl dX11_again_42 rfl ?_
  refine J_if_eq (t := 56) (q := 46) C0 dX11_again_43 (by decide) rfl hf (fun c4 hf => ?_) (fun c4 hf => ?_)
  · refine J_iload_n (q := 57) C0 2 rfl rfl dX11_again_56 rfl ?_
    refine J_iconst (q := 58) (v := 1) C0 dX11_again_57 rfl rfl ?_
    refine J_iadd (q := 59) C0 dX11_again_58 rfl ?_
    refine J_sub (lv' := [(0, vr (some a0)), (2, vi (v2)), (3, vi (s0))]) [1, 3, 0] rfl ?_
    exact t_X11_again_B59 C1    (v2) (s0) ((v1) + (1)) σ (hT) (hE) (h0)  hf
  · refine J_aload_n (q := 47) C0 1 rfl rfl dX11_again_46 rfl trivial ?_
    refine J_getR (q := 50) C0 fl_X11_75_10 rfl (h0) rfl dX11_again_47 rfl ?_
    refine K_some hf (fun b15 hb15 hf => ?_)
    have ab15 : is_A σ b15 6 := ((sg_T.op hT (j := 13) (h0) rfl)) b15 hb15
    refine J_getI (q := 53) C0 fl_X11_150_6 hb15 (ab15) rfl dX11_again_50 rfl ?_
    refine J_goto (q := 59) C0 dX11_again_53 (by decide) ?_
    refine J_sub (lv' := [(0, vr (some a0)), (2, vi (v2)), (3, vi (s0))]) [1, 3, 0] rfl ?_
    exact t_X11_again_B59 C1    (v2) (s0) (sg_I σ b15 1) σ (hT) (hE) (h0)  hf
set_option maxHeartbeats 4000000 in
set_option maxRecDepth 100000 in
theorem t_X11_again_B32 {N : Nat} {a0 : Nat} {Γ : Gm} {σ0 : Sg} {r : (Int32 × Sg)} (C1 : CM Γ cX11_again RX11 9 (some .int) 7 159 0 0 (fun r_ τ_ => (r_ = some (vi r.1)) ∧ τ_ = r.2 ∧ sg_T τ_ ∧ sg_E σ0 τ_)) (v1 : Int32) (v2 : Int32) (σ : Sg) (hT : sg_T σ) (hE : sg_E σ0 σ) (h0 : is_A σ a0 10) (hf : f_X11_again_B32 N a0  v1 v2 σ = some r) : J_ Γ 32 [(0, vr (some a0)), (1, vi (v1)), (2, vi (v2))] [] σ 0 0 := by
  have C0 := C1.1
  unfold f_X11_again_B32 at hf
  refine J_iload_n (q := 33) C0 2 rfl rfl dX11_again_32 rfl ?_
  refine J_if_eq (t := 40) (q := 36) C0 dX11_again_33 (by decide) rfl hf (fun c3 hf => ?_) (fun c3 hf => ?_)
  · refine J_iload_n (q := 41) C0 1 rfl rfl dX11_again_40 rfl ?_
    exact t_X11_again_B41 C1    (v1) (v2) (v1) σ (hT) (hE) (h0)  hf
  · refine J_iconst (q := 37) (v := 0) C0 dX11_again_36 rfl rfl ?_
    refine J_goto (q := 41) C0 dX11_again_37 (by decide) ?_
    exact t_X11_again_B41 C1    (v1) (v2) (0) σ (hT) (hE) (h0)  hf
set_option maxHeartbeats 4000000 in
set_option maxRecDepth 100000 in
theorem t_X11_again_B17 {N : Nat} {a0 : Nat} {Γ : Gm} {σ0 : Sg} {r : (Int32 × Sg)} (C1 : CM Γ cX11_again RX11 9 (some .int) 7 159 0 0 (fun r_ τ_ => (r_ = some (vi r.1)) ∧ τ_ = r.2 ∧ sg_T τ_ ∧ sg_E σ0 τ_)) (v1 : Int32) (s0 : Int32) (σ : Sg) (hT : sg_T σ) (hE : sg_E σ0 σ) (h0 : is_A σ a0 10) (hf : f_X11_again_B17 N a0  v1 s0 σ = some r) : J_ Γ 17 [(0, vr (some a0)), (1, vi (v1))] [vi (s0)] σ 0 0 := by
  have C0 := C1.1
  unfold f_X11_again_B17 at hf
  refine J_istore_n (q := 18) (lv' := [(2, vi (s0)), (0, vr (some a0)), (1, vi (v1))]) C0 rfl (G_nl C1 (by decide)) dX11_again_17 rfl rfl ?_
  refine J_iload_n (q := 19) C0 0 rfl rfl dX11_again_18 rfl ?_
  refine J_if_ne (t := 32) (q := 22) C0 dX11_again_19 (by decide) rfl hf (fun c2 hf => ?_) (fun c2 hf => ?_)
  · refine J_sub (lv' := [(0, vr (some a0)), (1, vi (v1)), (2, vi (s0))]) [1, 2, 0] rfl ?_
    exact t_X11_again_B32 C1    (v1) (s0) σ (hT) (hE) (h0)  hf
  · refine J_aload_n (q := 23) C0 1 rfl rfl dX11_again_22 rfl trivial ?_
    refine J_iload_n (q := 24) C0 2 rfl rfl dX11_again_23 rfl ?_
    refine K_some hf (fun p16 hp16 hf => ?_)
    refine J_callV (q := 27) (ci := 10) (as := [vi (v1)]) (rest := []) C0 rfl (h0) (t_X11_isWheel a0 (v1) (hT) (h0)  hp16) ml_X11_isWheel lk_X11_195 im_X11_isWheel se_X11_isWheel rfl (by decide) dX11_again_24 rfl rfl rfl (by simp [ac_]) C1.room (by decide) (by decide) (by decide) (by decide) (fun r_ τ_ hQ => ?_)
    obtain ⟨⟨rfl, zp16⟩, ht_⟩ := hQ; have ht_ := ht_.symm; subst ht_
    show J_ Γ 27 [(2, vi (s0)), (0, vr (some a0)), (1, vi (v1))] [vi (p16)] σ 0 0
    refine J_if_ne (t := 32) (q := 30) C0 dX11_again_27 (by decide) rfl hf (fun c17 hf => ?_) (fun c17 hf => ?_)
    · refine J_sub (lv' := [(0, vr (some a0)), (1, vi (v1)), (2, vi (s0))]) [1, 2, 0] rfl ?_
      exact t_X11_again_B32 C1    (v1) (s0) σ (hT) (hE) (h0)  hf
    · refine J_iconst (q := 31) (v := (-1)) C0 dX11_again_30 rfl rfl ?_
      obtain rfl := Option.some.inj hf; exact J_iret C1 dX11_again_31 rfl (Nat.zero_le _) (Nat.zero_le _) ⟨rfl, rfl, hT, hE⟩
set_option maxHeartbeats 4000000 in
set_option maxRecDepth 100000 in
theorem t_X11_again_B16 {N : Nat} {a0 : Nat} {Γ : Gm} {σ0 : Sg} {r : (Int32 × Sg)} (C1 : CM Γ cX11_again RX11 9 (some .int) 7 159 0 0 (fun r_ τ_ => (r_ = some (vi r.1)) ∧ τ_ = r.2 ∧ sg_T τ_ ∧ sg_E σ0 τ_)) (v1 : Int32) (σ : Sg) (hT : sg_T σ) (hE : sg_E σ0 σ) (h0 : is_A σ a0 10) (hf : f_X11_again_B16 N a0  v1 σ = some r) : J_ Γ 16 [(0, vr (some a0)), (1, vi (v1))] [] σ 0 0 := by
  have C0 := C1.1
  unfold f_X11_again_B16 at hf
  refine J_iconst (q := 17) (v := 0) C0 dX11_again_16 rfl rfl ?_
  exact t_X11_again_B17 C1    (v1) (0) σ (hT) (hE) (h0)  hf
set_option maxHeartbeats 4000000 in
set_option maxRecDepth 100000 in
theorem t_X11_again (N : Nat) (a0 : Nat) (x1 : Int32) {σ : Sg} (hT : sg_T σ) (h0 : is_A σ a0 10) {r : (Int32 × Sg)} (hf : f_X11_again N a0 x1 σ = some r) : Ct yX11_again cX11_again 9 (some .int) 7 159 0 0 [vr (some a0), vi x1] σ (fun r_ τ_ => (r_ = some (vi r.1)) ∧ τ_ = r.2 ∧ sg_T τ_ ∧ sg_E σ τ_) := by
  refine Ct.of (by decide +kernel) (Nat.le_of_ble_eq_true rfl) (fun Γ C1 => ?_)
  have C0 := C1.1
  have hE : sg_E σ σ := sg_E.rf
  unfold f_X11_again at hf
  show J_ Γ 0 [(0, vr (some a0)), (1, vi (x1))] [] σ 0 0
  refine J_iload_n (q := 1) C0 1 rfl rfl dX11_again_0 rfl ?_
  refine J_iconst (q := 2) (v := (-1)) C0 dX11_again_1 rfl rfl ?_
  refine J_icmp_ne (t := 16) (q := 5) C0 dX11_again_2 (by decide) rfl hf (fun c1 hf => ?_) (fun c1 hf => ?_)
  · exact t_X11_again_B16 C1    (x1) σ (hT) (hE) (h0)  hf
  · refine J_aload_n (q := 6) C0 0 rfl rfl dX11_again_5 rfl trivial ?_
    refine K_some hf (fun p18 hp18 hf => ?_)
    refine J_callV (q := 9) (ci := 10) (as := []) (rest := []) C0 rfl (h0) (t_X11_isLit a0  (hT) (h0)  hp18) ml_X11_isLit lk_X11_183 im_X11_isLit se_X11_isLit rfl (by decide) dX11_again_6 rfl rfl rfl (by simp [ac_]) C1.room (by decide) (by decide) (by decide) (by decide) (fun r_ τ_ hQ => ?_)
    obtain ⟨⟨rfl, zp18⟩, ht_⟩ := hQ; have ht_ := ht_.symm; subst ht_
    show J_ Γ 9 [(0, vr (some a0)), (1, vi (x1))] [vi (p18)] σ 0 0
    refine J_if_eq (t := 16) (q := 12) C0 dX11_again_9 (by decide) rfl hf (fun c19 hf => ?_) (fun c19 hf => ?_)
    · exact t_X11_again_B16 C1    (x1) σ (hT) (hE) (h0)  hf
    · refine J_iconst (q := 13) (v := 1) C0 dX11_again_12 rfl rfl ?_
      refine J_goto (q := 17) C0 dX11_again_13 (by decide) ?_
      exact t_X11_again_B17 C1    (x1) (1) σ (hT) (hE) (h0)  hf
def f_X11_meets_B77 (N : Nat) (a0 : Nat) (k39 : Option Nat → Option Nat → Int32 → Sg → Option (Int32 × Sg)) (v3 : Option Nat) (v4 : Option Nat) (v5 : Int32) (σ : Sg) : Option (Int32 × Sg) :=
  k39 (v3) (v4) (v5 + 1) σ
def f_X11_meets_L39 (N : Nat) (a0 : Nat) : Nat → Option Nat → Option Nat → Int32 → Sg → Option (Int32 × Sg)
  | 0, _, _, _, _ => none
  | n + 1, v3, v4, v5, σ =>
  if (999) < (v5) then
  (some ((-1), σ))
  else
  (Option.bind (v3) fun b9 =>
  Option.bind (f_X0_shownAfter b9 (v5) σ) fun p10 =>
  if (p10) = (26) then
  (f_X11_meets_B77 N a0 (f_X11_meets_L39 N a0 n) (v3) (v4) (v5) σ)
  else
  (Option.bind (v4) fun b12 =>
  Option.bind (f_X0_shownAfter b12 (v5) σ) fun p13 =>
  if (p10) = (p13) then
  (some (v5, σ))
  else
  (f_X11_meets_B77 N a0 (f_X11_meets_L39 N a0 n) (v3) (v4) (v5) σ)))
def f_X11_meets (N : Nat) (a0 : Nat) (x1 : Int32) (x2 : Int32) (σ : Sg) : Option (Int32 × Sg) :=
  Option.bind (f_X11_isWheel a0 (x1) σ) fun p1 =>
  if (p1) = (0) then
  (some ((-1), σ))
  else
  (Option.bind (f_X11_isWheel a0 (x2) σ) fun p3 =>
  if (p3) = (0) then
  (some ((-1), σ))
  else
  (if (x1) = (x2) then
  (some ((-1), σ))
  else
  (Option.bind (f_X11_traced N a0 (x1) σ) fun p6 =>
  Option.bind (f_X11_traced N a0 (x2) p6.2) fun p7 =>
  f_X11_meets_L39 N a0 N (p6.1) (p7.1) (0) (p7.2))))
set_option maxHeartbeats 4000000 in
set_option maxRecDepth 100000 in
theorem t_X11_meets_B77 {N : Nat} {a0 : Nat} {Γ : Gm} {σ0 : Sg} {r : (Int32 × Sg)} (C1 : CM Γ cX11_meets RX11 7 (some .int) 6 138 0 0 (fun r_ τ_ => (r_ = some (vi r.1)) ∧ τ_ = r.2 ∧ sg_T τ_ ∧ sg_E σ0 τ_)) (k39 : Option Nat → Option Nat → Int32 → Sg → Option (Int32 × Sg)) (hk39 : ∀ (v3 : Option Nat) (v4 : Option Nat) (v5 : Int32) (σ : Sg), sg_T σ → sg_E σ0 σ → is_A σ a0 10 → is_O σ v3 0 → is_O σ v4 0 → k39 v3 v4 v5 σ = some r → J_ Γ 39 [(0, vr (some a0)), (3, vr v3), (4, vr v4), (5, vi v5)] [] σ 0 0) (v3 : Option Nat) (v4 : Option Nat) (v5 : Int32) (σ : Sg) (hT : sg_T σ) (hE : sg_E σ0 σ) (h0 : is_A σ a0 10) (g_v3 : is_O σ v3 0) (g_v4 : is_O σ v4 0) (hf : f_X11_meets_B77 N a0 k39  v3 v4 v5 σ = some r) : J_ Γ 77 [(0, vr (some a0)), (3, vr (v3)), (4, vr (v4)), (5, vi (v5))] [] σ 0 0 := by
  have C0 := C1.1
  unfold f_X11_meets_B77 at hf
  refine J_iinc (q := 80) (v := v5 + 1) (lv' := [(5, vi (v5 + 1)), (0, vr (some a0)), (3, vr (v3)), (4, vr (v4))]) C0 3 rfl rfl (G_nl C1 (by decide)) dX11_meets_77 rfl rfl ?_
  refine J_goto (q := 39) C0 dX11_meets_80 (by decide) ?_
  refine J_sub (lv' := [(0, vr (some a0)), (3, vr (v3)), (4, vr (v4)), (5, vi (v5 + 1))]) [1, 2, 3, 0] rfl ?_
  exact hk39 (v3) (v4) (v5 + 1) σ (hT) (hE)  (h0) (g_v3) (g_v4) hf
set_option maxHeartbeats 4000000 in
set_option maxRecDepth 100000 in
theorem t_X11_meets_L39 {N : Nat} {a0 : Nat} {Γ : Gm} {σ0 : Sg} {r : (Int32 × Sg)} (C1 : CM Γ cX11_meets RX11 7 (some .int) 6 138 0 0 (fun r_ τ_ => (r_ = some (vi r.1)) ∧ τ_ = r.2 ∧ sg_T τ_ ∧ sg_E σ0 τ_)) : ∀ (n : Nat) (v3 : Option Nat) (v4 : Option Nat) (v5 : Int32) (σ : Sg), sg_T σ → sg_E σ0 σ → is_A σ a0 10 → is_O σ v3 0 → is_O σ v4 0 → f_X11_meets_L39 N a0  n v3 v4 v5 σ = some r → J_ Γ 39 [(0, vr (some a0)), (3, vr (v3)), (4, vr (v4)), (5, vi (v5))] [] σ 0 0 := by
  have C0 := C1.1
  intro n
  induction n with
  | zero => intro v3 v4 v5 σ hT hE h0 g_v3 g_v4 hf; unfold f_X11_meets_L39 at hf; cases hf
  | succ n ih =>
    intro v3 v4 v5 σ hT hE h0 g_v3 g_v4 hf
    rw [f_X11_meets_L39] at hf
    refine J_iload (q := 41) C0 3 rfl dX11_meets_39 rfl ?_
    refine J_sipush (q := 44) (v := 999) C0 dX11_meets_41 rfl rfl ?_
    refine J_icmp_gt (t := 83) (q := 47) C0 dX11_meets_44 (by decide) rfl hf (fun c8 hf => ?_) (fun c8 hf => ?_)
    · refine J_iconst (q := 84) (v := (-1)) C0 dX11_meets_83 rfl rfl ?_
      obtain rfl := Option.some.inj hf; exact J_iret C1 dX11_meets_84 rfl (Nat.zero_le _) (Nat.zero_le _) ⟨rfl, rfl, hT, hE⟩
    · refine J_aload_n (q := 48) C0 1 rfl rfl dX11_meets_47 rfl trivial ?_
      refine J_iload (q := 50) C0 3 rfl dX11_meets_48 rfl ?_
      refine K_some hf (fun b9 hb9 hf => ?_)
      have ab9 : is_A σ b9 0 := (g_v3) b9 hb9
      refine K_some hf (fun p10 hp10 hf => ?_)
      refine J_callV (q := 53) (ci := 0) (as := [vi (v5)]) (rest := []) C0 hb9 (ab9) (t_X0_shownAfter b9 (v5) (hT) (ab9)  hp10) ml_X0_shownAfter lk_X11_284 im_X0_shownAfter se_X0_shownAfter rfl (by decide) dX11_meets_50 rfl rfl rfl (by simp [ac_]) C1.room (by decide) (by decide) (by decide) (by decide) (fun r_ τ_ hQ => ?_)
      obtain ⟨rfl, ht_⟩ := hQ; have ht_ := ht_.symm; subst ht_
      show J_ Γ 53 [(0, vr (some a0)), (3, vr (v3)), (4, vr (v4)), (5, vi (v5))] [vi (p10)] σ 0 0
      refine J_istore (q := 55) (lv' := [(6, vi (p10)), (0, vr (some a0)), (3, vr (v3)), (4, vr (v4)), (5, vi (v5))]) C0 (G_nl C1 (by decide)) dX11_meets_53 rfl rfl ?_
      refine J_iload (q := 57) C0 0 rfl dX11_meets_55 rfl ?_
      refine J_bipush (q := 59) (v := 26) C0 dX11_meets_57 rfl rfl ?_
      refine J_icmp_eq (t := 77) (q := 62) C0 dX11_meets_59 (by decide) rfl hf (fun c11 hf => ?_) (fun c11 hf => ?_)
      · refine J_sub (lv' := [(0, vr (some a0)), (3, vr (v3)), (4, vr (v4)), (5, vi (v5))]) [1, 2, 3, 4] rfl ?_
        exact t_X11_meets_B77 C1  (f_X11_meets_L39 N a0 n)  ih  (v3) (v4) (v5) σ (hT) (hE) (h0) ((by rw [hb9]; exact is_O.some (ab9))) (g_v4) hf
      · refine J_iload (q := 64) C0 0 rfl dX11_meets_62 rfl ?_
        refine J_aload (q := 66) C0 3 rfl dX11_meets_64 rfl trivial ?_
        refine J_iload (q := 68) C0 4 rfl dX11_meets_66 rfl ?_
        refine K_some hf (fun b12 hb12 hf => ?_)
        have ab12 : is_A σ b12 0 := (g_v4) b12 hb12
        refine K_some hf (fun p13 hp13 hf => ?_)
        refine J_callV (q := 71) (ci := 0) (as := [vi (v5)]) (rest := [vi (p10)]) C0 hb12 (ab12) (t_X0_shownAfter b12 (v5) (hT) (ab12)  hp13) ml_X0_shownAfter lk_X11_284 im_X0_shownAfter se_X0_shownAfter rfl (by decide) dX11_meets_68 rfl rfl rfl (by simp [ac_]) C1.room (by decide) (by decide) (by decide) (by decide) (fun r_ τ_ hQ => ?_)
        obtain ⟨rfl, ht_⟩ := hQ; have ht_ := ht_.symm; subst ht_
        show J_ Γ 71 [(6, vi (p10)), (0, vr (some a0)), (3, vr (v3)), (4, vr (v4)), (5, vi (v5))] [vi (p13), vi (p10)] σ 0 0
        refine J_icmp_ne (t := 77) (q := 74) C0 dX11_meets_71 (by decide) rfl hf (fun c14 hf => ?_) (fun c14 hf => ?_)
        · refine J_sub (lv' := [(0, vr (some a0)), (3, vr (v3)), (4, vr (v4)), (5, vi (v5))]) [1, 2, 3, 4] rfl ?_
          exact t_X11_meets_B77 C1  (f_X11_meets_L39 N a0 n)  ih  (v3) (v4) (v5) σ (hT) (hE) (h0) ((by rw [hb9]; exact is_O.some (ab9))) ((by rw [hb12]; exact is_O.some (ab12))) hf
        · refine J_iload (q := 76) C0 4 rfl dX11_meets_74 rfl ?_
          obtain rfl := Option.some.inj hf; exact J_iret C1 dX11_meets_76 rfl (Nat.zero_le _) (Nat.zero_le _) ⟨rfl, rfl, hT, hE⟩
set_option maxHeartbeats 4000000 in
set_option maxRecDepth 100000 in
theorem t_X11_meets (N : Nat) (a0 : Nat) (x1 : Int32) (x2 : Int32) {σ : Sg} (hT : sg_T σ) (h0 : is_A σ a0 10) {r : (Int32 × Sg)} (hf : f_X11_meets N a0 x1 x2 σ = some r) : Ct yX11_meets cX11_meets 7 (some .int) 6 138 0 0 [vr (some a0), vi x1, vi x2] σ (fun r_ τ_ => (r_ = some (vi r.1)) ∧ τ_ = r.2 ∧ sg_T τ_ ∧ sg_E σ τ_) := by
  refine Ct.of (by decide +kernel) (Nat.le_of_ble_eq_true rfl) (fun Γ C1 => ?_)
  have C0 := C1.1
  have hE : sg_E σ σ := sg_E.rf
  unfold f_X11_meets at hf
  show J_ Γ 0 [(0, vr (some a0)), (1, vi (x1)), (2, vi (x2))] [] σ 0 0
  refine J_aload_n (q := 1) C0 0 rfl rfl dX11_meets_0 rfl trivial ?_
  refine J_iload_n (q := 2) C0 1 rfl rfl dX11_meets_1 rfl ?_
  refine K_some hf (fun p1 hp1 hf => ?_)
  refine J_callV (q := 5) (ci := 10) (as := [vi (x1)]) (rest := []) C0 rfl (h0) (t_X11_isWheel a0 (x1) (hT) (h0)  hp1) ml_X11_isWheel lk_X11_195 im_X11_isWheel se_X11_isWheel rfl (by decide) dX11_meets_2 rfl rfl rfl (by simp [ac_]) C1.room (by decide) (by decide) (by decide) (by decide) (fun r_ τ_ hQ => ?_)
  obtain ⟨⟨rfl, zp1⟩, ht_⟩ := hQ; have ht_ := ht_.symm; subst ht_
  show J_ Γ 5 [(0, vr (some a0)), (1, vi (x1)), (2, vi (x2))] [vi (p1)] σ 0 0
  refine J_if_eq (t := 21) (q := 8) C0 dX11_meets_5 (by decide) rfl hf (fun c2 hf => ?_) (fun c2 hf => ?_)
  · refine J_iconst (q := 22) (v := (-1)) C0 dX11_meets_21 rfl rfl ?_
    obtain rfl := Option.some.inj hf; exact J_iret C1 dX11_meets_22 rfl (Nat.zero_le _) (Nat.zero_le _) ⟨rfl, rfl, hT, hE⟩
  · refine J_aload_n (q := 9) C0 0 rfl rfl dX11_meets_8 rfl trivial ?_
    refine J_iload_n (q := 10) C0 2 rfl rfl dX11_meets_9 rfl ?_
    refine K_some hf (fun p3 hp3 hf => ?_)
    refine J_callV (q := 13) (ci := 10) (as := [vi (x2)]) (rest := []) C0 rfl (h0) (t_X11_isWheel a0 (x2) (hT) (h0)  hp3) ml_X11_isWheel lk_X11_195 im_X11_isWheel se_X11_isWheel rfl (by decide) dX11_meets_10 rfl rfl rfl (by simp [ac_]) C1.room (by decide) (by decide) (by decide) (by decide) (fun r_ τ_ hQ => ?_)
    obtain ⟨⟨rfl, zp3⟩, ht_⟩ := hQ; have ht_ := ht_.symm; subst ht_
    show J_ Γ 13 [(0, vr (some a0)), (1, vi (x1)), (2, vi (x2))] [vi (p3)] σ 0 0
    refine J_if_eq (t := 21) (q := 16) C0 dX11_meets_13 (by decide) rfl hf (fun c4 hf => ?_) (fun c4 hf => ?_)
    · refine J_iconst (q := 22) (v := (-1)) C0 dX11_meets_21 rfl rfl ?_
      obtain rfl := Option.some.inj hf; exact J_iret C1 dX11_meets_22 rfl (Nat.zero_le _) (Nat.zero_le _) ⟨rfl, rfl, hT, hE⟩
    · refine J_iload_n (q := 17) C0 1 rfl rfl dX11_meets_16 rfl ?_
      refine J_iload_n (q := 18) C0 2 rfl rfl dX11_meets_17 rfl ?_
      refine J_icmp_ne (t := 23) (q := 21) C0 dX11_meets_18 (by decide) rfl hf (fun c5 hf => ?_) (fun c5 hf => ?_)
      · refine J_aload_n (q := 24) C0 0 rfl rfl dX11_meets_23 rfl trivial ?_
        refine J_iload_n (q := 25) C0 1 rfl rfl dX11_meets_24 rfl ?_
        refine K_some hf (fun p6 hp6 hf => ?_)
        refine J_callV (q := 28) (ci := 10) (as := [vi (x1)]) (rest := []) C0 rfl (h0) (t_X11_traced N a0 (x1) (hT) (h0)  hp6) ml_X11_traced lk_X11_280 im_X11_traced se_X11_traced rfl (by decide) dX11_meets_25 rfl rfl rfl (by simp [ac_]) C1.room (by decide) (by decide) (by decide) (by decide) (fun r_ τ_ hQ => ?_)
        obtain ⟨⟨rfl, op6⟩, rfl, Tp6, Ep6⟩ := hQ
        show J_ Γ 28 [(0, vr (some a0)), (1, vi (x1)), (2, vi (x2))] [vr (p6.1)] p6.2 0 0
        refine J_astore_n (q := 29) (lv' := [(3, vr (p6.1)), (0, vr (some a0)), (1, vi (x1)), (2, vi (x2))]) C0 rfl (G_nl C1 (by decide)) dX11_meets_28 rfl trivial rfl ?_
        refine J_aload_n (q := 30) C0 1 rfl rfl dX11_meets_29 rfl trivial ?_
        refine J_iload_n (q := 31) C0 3 rfl rfl dX11_meets_30 rfl ?_
        refine K_some hf (fun p7 hp7 hf => ?_)
        refine J_callV (q := 34) (ci := 10) (as := [vi (x2)]) (rest := []) C0 rfl ((Ep6.at h0)) (t_X11_traced N a0 (x2) (Tp6) ((Ep6.at h0))  hp7) ml_X11_traced lk_X11_280 im_X11_traced se_X11_traced rfl (by decide) dX11_meets_31 rfl rfl rfl (by simp [ac_]) C1.room (by decide) (by decide) (by decide) (by decide) (fun r_ τ_ hQ => ?_)
        obtain ⟨⟨rfl, op7⟩, rfl, Tp7, Ep7⟩ := hQ
        show J_ Γ 34 [(3, vr (p6.1)), (0, vr (some a0)), (1, vi (x1)), (2, vi (x2))] [vr (p7.1)] p7.2 0 0
        refine J_astore (q := 36) (lv' := [(4, vr (p7.1)), (3, vr (p6.1)), (0, vr (some a0)), (1, vi (x1)), (2, vi (x2))]) C0 (G_nl C1 (by decide)) dX11_meets_34 rfl trivial rfl ?_
        refine J_iconst (q := 37) (v := 0) C0 dX11_meets_36 rfl rfl ?_
        refine J_istore (q := 39) (lv' := [(5, vi (0)), (4, vr (p7.1)), (3, vr (p6.1)), (0, vr (some a0)), (1, vi (x1)), (2, vi (x2))]) C0 (G_nl C1 (by decide)) dX11_meets_37 rfl rfl ?_
        refine J_sub (lv' := [(0, vr (some a0)), (3, vr (p6.1)), (4, vr (p7.1)), (5, vi (0))]) [3, 2, 1, 0] rfl ?_
        exact t_X11_meets_L39 C1    N (p6.1) (p7.1) (0) (p7.2) (Tp7) (((hE).tr Ep6).tr Ep7) ((Ep7.at (Ep6.at h0))) ((Ep7.op op6)) (op7) hf
      · refine J_iconst (q := 22) (v := (-1)) C0 dX11_meets_21 rfl rfl ?_
        obtain rfl := Option.some.inj hf; exact J_iret C1 dX11_meets_22 rfl (Nat.zero_le _) (Nat.zero_le _) ⟨rfl, rfl, hT, hE⟩
def f_X11_reads_B88 (N : Nat) (a0 : Nat) (k23 : Int32 → Int32 → Sg → Option (Int32 × Sg)) (v1 : Int32) (v2 : Int32) (v3 : Int32) (σ : Sg) : Option (Int32 × Sg) :=
  if (v3) = (0) then
  (k23 (v1) (v2 + 1) σ)
  else
  (some (v2, σ))
def f_X11_reads_B81 (N : Nat) (a0 : Nat) (k23 : Int32 → Int32 → Sg → Option (Int32 × Sg)) (k35 : Int32 → Int32 → Int32 → Int32 → Sg → Option (Int32 × Sg)) (v1 : Int32) (v2 : Int32) (v4 : Int32) (s0 : Int32) (σ : Sg) : Option (Int32 × Sg) :=
  k35 (v1) (v2) (s0) (v4 + 1) σ
def f_X11_reads_L35 (N : Nat) (a0 : Nat) (k23 : Int32 → Int32 → Sg → Option (Int32 × Sg)) : Nat → Int32 → Int32 → Int32 → Int32 → Sg → Option (Int32 × Sg)
  | 0, _, _, _, _, _ => none
  | n + 1, v1, v2, v3, v4, σ =>
  Option.bind (sg_R σ a0 13) fun b7 =>
  if (v4) < (sg_I σ b7 1) then
  (if (v3) = (0) then
  (f_X11_reads_B88 N a0 k23 (v1) (v2) (v3) σ)
  else
  (Option.bind (sg_R σ a0 18) fun b11 =>
  if (v4) < 0 ∨ sg_L σ b11 ≤ (v4).toNatClampNeg then none else
  Option.bind (sg_R σ b11 (v4).toNatClampNeg) fun b13 =>
  Option.bind (f_X0_shownAfter b13 (v2) σ) fun p14 =>
  Option.bind (sg_R σ a0 8) fun b15 =>
  if (v1) < 0 ∨ sg_L σ b15 ≤ (v1).toNatClampNeg then none else
  Option.bind (sg_R σ b15 (v1).toNatClampNeg) fun b17 =>
  Option.bind (f_X8_shownAt b17 (v4) σ) fun p18 =>
  if (p14) = (p18) then
  (f_X11_reads_B81 N a0 k23 (f_X11_reads_L35 N a0 k23 n) (v1) (v2) (v4) (1) σ)
  else
  (f_X11_reads_B81 N a0 k23 (f_X11_reads_L35 N a0 k23 n) (v1) (v2) (v4) (0) σ)))
  else
  (f_X11_reads_B88 N a0 k23 (v1) (v2) (v3) σ)
def f_X11_reads_L23 (N : Nat) (a0 : Nat) : Nat → Int32 → Int32 → Sg → Option (Int32 × Sg)
  | 0, _, _, _ => none
  | n + 1, v1, v2, σ =>
  if (999) < (v2) then
  (some ((-1), σ))
  else
  (f_X11_reads_L35 N a0 (f_X11_reads_L23 N a0 n) N (v1) (v2) (1) (0) σ)
def f_X11_reads (N : Nat) (a0 : Nat) (x1 : Int32) (σ : Sg) : Option (Int32 × Sg) :=
  Option.bind (f_X11_isLit a0  σ) fun p1 =>
  if (p1) = (0) then
  (some ((-1), σ))
  else
  (Option.bind (f_X11_isStrip a0 (x1) σ) fun p3 =>
  if (p3) = (0) then
  (some ((-1), σ))
  else
  (Option.bind (f_X11_traceAll N a0  σ) fun p5 =>
  f_X11_reads_L23 N a0 N (x1) (0) (p5)))
set_option maxHeartbeats 4000000 in
set_option maxRecDepth 100000 in
theorem t_X11_reads_B88 {N : Nat} {a0 : Nat} {Γ : Gm} {σ0 : Sg} {r : (Int32 × Sg)} (C1 : CM Γ cX11_reads RX11 5 (some .int) 7 159 0 0 (fun r_ τ_ => (r_ = some (vi r.1)) ∧ τ_ = r.2 ∧ sg_T τ_ ∧ sg_E σ0 τ_)) (k23 : Int32 → Int32 → Sg → Option (Int32 × Sg)) (hk23 : ∀ (v1 : Int32) (v2 : Int32) (σ : Sg), sg_T σ → sg_E σ0 σ → is_A σ a0 10 → k23 v1 v2 σ = some r → J_ Γ 23 [(0, vr (some a0)), (1, vi v1), (2, vi v2)] [] σ 0 0) (v1 : Int32) (v2 : Int32) (v3 : Int32) (σ : Sg) (hT : sg_T σ) (hE : sg_E σ0 σ) (h0 : is_A σ a0 10) (hf : f_X11_reads_B88 N a0 k23  v1 v2 v3 σ = some r) : J_ Γ 88 [(0, vr (some a0)), (1, vi (v1)), (2, vi (v2)), (3, vi (v3))] [] σ 0 0 := by
  have C0 := C1.1
  unfold f_X11_reads_B88 at hf
  refine J_iload_n (q := 89) C0 3 rfl rfl dX11_reads_88 rfl ?_
  refine J_if_eq (t := 94) (q := 92) C0 dX11_reads_89 (by decide) rfl hf (fun c9 hf => ?_) (fun c9 hf => ?_)
  · refine J_iinc (q := 97) (v := v2 + 1) (lv' := [(2, vi (v2 + 1)), (0, vr (some a0)), (1, vi (v1)), (3, vi (v3))]) C0 2 rfl rfl (G_nl C1 (by decide)) dX11_reads_94 rfl rfl ?_
    refine J_goto (q := 23) C0 dX11_reads_97 (by decide) ?_
    refine J_sub (lv' := [(0, vr (some a0)), (1, vi (v1)), (2, vi (v2 + 1))]) [1, 2, 0] rfl ?_
    exact hk23 (v1) (v2 + 1) σ (hT) (hE)  (h0)  hf
  · refine J_iload_n (q := 93) C0 2 rfl rfl dX11_reads_92 rfl ?_
    obtain rfl := Option.some.inj hf; exact J_iret C1 dX11_reads_93 rfl (Nat.zero_le _) (Nat.zero_le _) ⟨rfl, rfl, hT, hE⟩
set_option maxHeartbeats 4000000 in
set_option maxRecDepth 100000 in
theorem t_X11_reads_B81 {N : Nat} {a0 : Nat} {Γ : Gm} {σ0 : Sg} {r : (Int32 × Sg)} (C1 : CM Γ cX11_reads RX11 5 (some .int) 7 159 0 0 (fun r_ τ_ => (r_ = some (vi r.1)) ∧ τ_ = r.2 ∧ sg_T τ_ ∧ sg_E σ0 τ_)) (k23 : Int32 → Int32 → Sg → Option (Int32 × Sg)) (k35 : Int32 → Int32 → Int32 → Int32 → Sg → Option (Int32 × Sg)) (hk23 : ∀ (v1 : Int32) (v2 : Int32) (σ : Sg), sg_T σ → sg_E σ0 σ → is_A σ a0 10 → k23 v1 v2 σ = some r → J_ Γ 23 [(0, vr (some a0)), (1, vi v1), (2, vi v2)] [] σ 0 0) (hk35 : ∀ (v1 : Int32) (v2 : Int32) (v3 : Int32) (v4 : Int32) (σ : Sg), sg_T σ → sg_E σ0 σ → is_A σ a0 10 → k35 v1 v2 v3 v4 σ = some r → J_ Γ 35 [(0, vr (some a0)), (1, vi v1), (2, vi v2), (3, vi v3), (4, vi v4)] [] σ 0 0) (v1 : Int32) (v2 : Int32) (v4 : Int32) (s0 : Int32) (σ : Sg) (hT : sg_T σ) (hE : sg_E σ0 σ) (h0 : is_A σ a0 10) (hf : f_X11_reads_B81 N a0 k23 k35  v1 v2 v4 s0 σ = some r) : J_ Γ 81 [(0, vr (some a0)), (1, vi (v1)), (2, vi (v2)), (4, vi (v4))] [vi (s0)] σ 0 0 := by
  have C0 := C1.1
  unfold f_X11_reads_B81 at hf
  refine J_istore_n (q := 82) (lv' := [(3, vi (s0)), (0, vr (some a0)), (1, vi (v1)), (2, vi (v2)), (4, vi (v4))]) C0 rfl (G_nl C1 (by decide)) dX11_reads_81 rfl rfl ?_
  refine J_iinc (q := 85) (v := v4 + 1) (lv' := [(4, vi (v4 + 1)), (3, vi (s0)), (0, vr (some a0)), (1, vi (v1)), (2, vi (v2))]) C0 4 rfl rfl (G_nl C1 (by decide)) dX11_reads_82 rfl rfl ?_
  refine J_goto (q := 35) C0 dX11_reads_85 (by decide) ?_
  refine J_sub (lv' := [(0, vr (some a0)), (1, vi (v1)), (2, vi (v2)), (3, vi (s0)), (4, vi (v4 + 1))]) [2, 3, 4, 1, 0] rfl ?_
  exact hk35 (v1) (v2) (s0) (v4 + 1) σ (hT) (hE)  (h0)  hf
set_option maxHeartbeats 4000000 in
set_option maxRecDepth 100000 in
theorem t_X11_reads_L35 {N : Nat} {a0 : Nat} {Γ : Gm} {σ0 : Sg} {r : (Int32 × Sg)} (C1 : CM Γ cX11_reads RX11 5 (some .int) 7 159 0 0 (fun r_ τ_ => (r_ = some (vi r.1)) ∧ τ_ = r.2 ∧ sg_T τ_ ∧ sg_E σ0 τ_)) (k23 : Int32 → Int32 → Sg → Option (Int32 × Sg)) (hk23 : ∀ (v1 : Int32) (v2 : Int32) (σ : Sg), sg_T σ → sg_E σ0 σ → is_A σ a0 10 → k23 v1 v2 σ = some r → J_ Γ 23 [(0, vr (some a0)), (1, vi v1), (2, vi v2)] [] σ 0 0) : ∀ (n : Nat) (v1 : Int32) (v2 : Int32) (v3 : Int32) (v4 : Int32) (σ : Sg), sg_T σ → sg_E σ0 σ → is_A σ a0 10 → f_X11_reads_L35 N a0 k23  n v1 v2 v3 v4 σ = some r → J_ Γ 35 [(0, vr (some a0)), (1, vi (v1)), (2, vi (v2)), (3, vi (v3)), (4, vi (v4))] [] σ 0 0 := by
  have C0 := C1.1
  intro n
  induction n with
  | zero => intro v1 v2 v3 v4 σ hT hE h0  hf; unfold f_X11_reads_L35 at hf; cases hf
  | succ n ih =>
    intro v1 v2 v3 v4 σ hT hE h0  hf
    rw [f_X11_reads_L35] at hf
    refine J_iload (q := 37) C0 4 rfl dX11_reads_35 rfl ?_
    refine J_aload_n (q := 38) C0 0 rfl rfl dX11_reads_37 rfl trivial ?_
    refine J_getR (q := 41) C0 fl_X11_75_10 rfl (h0) rfl dX11_reads_38 rfl ?_
    refine K_some hf (fun b7 hb7 hf => ?_)
    have ab7 : is_A σ b7 6 := ((sg_T.op hT (j := 13) (h0) rfl)) b7 hb7
    refine J_getI (q := 44) C0 fl_X11_150_6 hb7 (ab7) rfl dX11_reads_41 rfl ?_
    refine J_icmp_ge (t := 88) (q := 47) C0 dX11_reads_44 (by decide) rfl hf (fun c8 hf => ?_) (fun c8 hf => ?_)
    · refine J_sub (lv' := [(0, vr (some a0)), (1, vi (v1)), (2, vi (v2)), (3, vi (v3))]) [0, 1, 2, 3] rfl ?_
      exact t_X11_reads_B88 C1  k23  hk23  (v1) (v2) (v3) σ (hT) (hE) (h0)  hf
    · refine J_iload_n (q := 48) C0 3 rfl rfl dX11_reads_47 rfl ?_
      refine J_if_eq (t := 88) (q := 51) C0 dX11_reads_48 (by decide) rfl hf (fun c10 hf => ?_) (fun c10 hf => ?_)
      · refine J_sub (lv' := [(0, vr (some a0)), (1, vi (v1)), (2, vi (v2)), (3, vi (v3))]) [0, 1, 2, 3] rfl ?_
        exact t_X11_reads_B88 C1  k23  hk23  (v1) (v2) (v3) σ (hT) (hE) (h0)  hf
      · refine J_aload_n (q := 52) C0 0 rfl rfl dX11_reads_51 rfl trivial ?_
        refine J_getR (q := 55) C0 fl_X11_102_10 rfl (h0) rfl dX11_reads_52 rfl ?_
        refine J_iload (q := 57) C0 4 rfl dX11_reads_55 rfl ?_
        refine K_some hf (fun b11 hb11 hf => ?_)
        have ab11 : is_A σ b11 14 := ((sg_T.op hT (j := 18) (h0) rfl)) b11 hb11
        refine K_chk hf (fun c12 hf => ?_)
        refine J_aald (q := 58) C0 hb11 (ab11) (by decide) c12 dX11_reads_57 rfl ?_
        refine J_iload_n (q := 59) C0 2 rfl rfl dX11_reads_58 rfl ?_
        refine K_some hf (fun b13 hb13 hf => ?_)
        have ab13 : is_A σ b13 0 := ((sg_T.op hT (j := (v4).toNatClampNeg) (ab11) rfl)) b13 hb13
        refine K_some hf (fun p14 hp14 hf => ?_)
        refine J_callV (q := 62) (ci := 0) (as := [vi (v2)]) (rest := []) C0 hb13 (ab13) (t_X0_shownAfter b13 (v2) (hT) (ab13)  hp14) ml_X0_shownAfter lk_X11_284 im_X0_shownAfter se_X0_shownAfter rfl (by decide) dX11_reads_59 rfl rfl rfl (by simp [ac_]) C1.room (by decide) (by decide) (by decide) (by decide) (fun r_ τ_ hQ => ?_)
        obtain ⟨rfl, ht_⟩ := hQ; have ht_ := ht_.symm; subst ht_
        show J_ Γ 62 [(0, vr (some a0)), (1, vi (v1)), (2, vi (v2)), (3, vi (v3)), (4, vi (v4))] [vi (p14)] σ 0 0
        refine J_aload_n (q := 63) C0 0 rfl rfl dX11_reads_62 rfl trivial ?_
        refine J_getR (q := 66) C0 fl_X11_52_10 rfl (h0) rfl dX11_reads_63 rfl ?_
        refine J_iload_n (q := 67) C0 1 rfl rfl dX11_reads_66 rfl ?_
        refine K_some hf (fun b15 hb15 hf => ?_)
        have ab15 : is_A σ b15 17 := ((sg_T.op hT (j := 8) (h0) rfl)) b15 hb15
        refine K_chk hf (fun c16 hf => ?_)
        refine J_aald (q := 68) C0 hb15 (ab15) (by decide) c16 dX11_reads_67 rfl ?_
        refine J_iload (q := 70) C0 4 rfl dX11_reads_68 rfl ?_
        refine K_some hf (fun b17 hb17 hf => ?_)
        have ab17 : is_A σ b17 7 := ((sg_T.op hT (j := (v1).toNatClampNeg) (ab15) rfl)) b17 hb17
        refine K_some hf (fun p18 hp18 hf => ?_)
        refine J_callV (q := 73) (ci := 7) (as := [vi (v4)]) (rest := [vi (p14)]) C0 hb17 (ab17) (t_X8_shownAt b17 (v4) (hT) (ab17)  hp18) ml_X8_shownAt lk_X11_224 im_X8_shownAt se_X8_shownAt rfl (by decide) dX11_reads_70 rfl rfl rfl (by simp [ac_]) C1.room (by decide) (by decide) (by decide) (by decide) (fun r_ τ_ hQ => ?_)
        obtain ⟨rfl, ht_⟩ := hQ; have ht_ := ht_.symm; subst ht_
        show J_ Γ 73 [(0, vr (some a0)), (1, vi (v1)), (2, vi (v2)), (3, vi (v3)), (4, vi (v4))] [vi (p18), vi (p14)] σ 0 0
        refine J_icmp_ne (t := 80) (q := 76) C0 dX11_reads_73 (by decide) rfl hf (fun c19 hf => ?_) (fun c19 hf => ?_)
        · refine J_iconst (q := 81) (v := 0) C0 dX11_reads_80 rfl rfl ?_
          refine J_sub (lv' := [(0, vr (some a0)), (1, vi (v1)), (2, vi (v2)), (4, vi (v4))]) [0, 1, 2, 4] rfl ?_
          exact t_X11_reads_B81 C1  k23  (f_X11_reads_L35 N a0 k23 n)  hk23  ih  (v1) (v2) (v4) (0) σ (hT) (hE) (h0)  hf
        · refine J_iconst (q := 77) (v := 1) C0 dX11_reads_76 rfl rfl ?_
          refine J_goto (q := 81) C0 dX11_reads_77 (by decide) ?_
          refine J_sub (lv' := [(0, vr (some a0)), (1, vi (v1)), (2, vi (v2)), (4, vi (v4))]) [0, 1, 2, 4] rfl ?_
          exact t_X11_reads_B81 C1  k23  (f_X11_reads_L35 N a0 k23 n)  hk23  ih  (v1) (v2) (v4) (1) σ (hT) (hE) (h0)  hf
set_option maxHeartbeats 4000000 in
set_option maxRecDepth 100000 in
theorem t_X11_reads_L23 {N : Nat} {a0 : Nat} {Γ : Gm} {σ0 : Sg} {r : (Int32 × Sg)} (C1 : CM Γ cX11_reads RX11 5 (some .int) 7 159 0 0 (fun r_ τ_ => (r_ = some (vi r.1)) ∧ τ_ = r.2 ∧ sg_T τ_ ∧ sg_E σ0 τ_)) : ∀ (n : Nat) (v1 : Int32) (v2 : Int32) (σ : Sg), sg_T σ → sg_E σ0 σ → is_A σ a0 10 → f_X11_reads_L23 N a0  n v1 v2 σ = some r → J_ Γ 23 [(0, vr (some a0)), (1, vi (v1)), (2, vi (v2))] [] σ 0 0 := by
  have C0 := C1.1
  intro n
  induction n with
  | zero => intro v1 v2 σ hT hE h0  hf; unfold f_X11_reads_L23 at hf; cases hf
  | succ n ih =>
    intro v1 v2 σ hT hE h0  hf
    rw [f_X11_reads_L23] at hf
    refine J_iload_n (q := 24) C0 2 rfl rfl dX11_reads_23 rfl ?_
    refine J_sipush (q := 27) (v := 999) C0 dX11_reads_24 rfl rfl ?_
    refine J_icmp_gt (t := 100) (q := 30) C0 dX11_reads_27 (by decide) rfl hf (fun c6 hf => ?_) (fun c6 hf => ?_)
    · refine J_iconst (q := 101) (v := (-1)) C0 dX11_reads_100 rfl rfl ?_
      obtain rfl := Option.some.inj hf; exact J_iret C1 dX11_reads_101 rfl (Nat.zero_le _) (Nat.zero_le _) ⟨rfl, rfl, hT, hE⟩
    · refine J_iconst (q := 31) (v := 1) C0 dX11_reads_30 rfl rfl ?_
      refine J_istore_n (q := 32) (lv' := [(3, vi (1)), (0, vr (some a0)), (1, vi (v1)), (2, vi (v2))]) C0 rfl (G_nl C1 (by decide)) dX11_reads_31 rfl rfl ?_
      refine J_iconst (q := 33) (v := 0) C0 dX11_reads_32 rfl rfl ?_
      refine J_istore (q := 35) (lv' := [(4, vi (0)), (3, vi (1)), (0, vr (some a0)), (1, vi (v1)), (2, vi (v2))]) C0 (G_nl C1 (by decide)) dX11_reads_33 rfl rfl ?_
      refine J_sub (lv' := [(0, vr (some a0)), (1, vi (v1)), (2, vi (v2)), (3, vi (1)), (4, vi (0))]) [2, 3, 4, 1, 0] rfl ?_
      exact t_X11_reads_L35 C1  (f_X11_reads_L23 N a0 n)  ih  N (v1) (v2) (1) (0) σ (hT) (hE) (h0)  hf
set_option maxHeartbeats 4000000 in
set_option maxRecDepth 100000 in
theorem t_X11_reads (N : Nat) (a0 : Nat) (x1 : Int32) {σ : Sg} (hT : sg_T σ) (h0 : is_A σ a0 10) {r : (Int32 × Sg)} (hf : f_X11_reads N a0 x1 σ = some r) : Ct yX11_reads cX11_reads 5 (some .int) 7 159 0 0 [vr (some a0), vi x1] σ (fun r_ τ_ => (r_ = some (vi r.1)) ∧ τ_ = r.2 ∧ sg_T τ_ ∧ sg_E σ τ_) := by
  refine Ct.of (by decide +kernel) (Nat.le_of_ble_eq_true rfl) (fun Γ C1 => ?_)
  have C0 := C1.1
  have hE : sg_E σ σ := sg_E.rf
  unfold f_X11_reads at hf
  show J_ Γ 0 [(0, vr (some a0)), (1, vi (x1))] [] σ 0 0
  refine J_aload_n (q := 1) C0 0 rfl rfl dX11_reads_0 rfl trivial ?_
  refine K_some hf (fun p1 hp1 hf => ?_)
  refine J_callV (q := 4) (ci := 10) (as := []) (rest := []) C0 rfl (h0) (t_X11_isLit a0  (hT) (h0)  hp1) ml_X11_isLit lk_X11_183 im_X11_isLit se_X11_isLit rfl (by decide) dX11_reads_1 rfl rfl rfl (by simp [ac_]) C1.room (by decide) (by decide) (by decide) (by decide) (fun r_ τ_ hQ => ?_)
  obtain ⟨⟨rfl, zp1⟩, ht_⟩ := hQ; have ht_ := ht_.symm; subst ht_
  show J_ Γ 4 [(0, vr (some a0)), (1, vi (x1))] [vi (p1)] σ 0 0
  refine J_if_eq (t := 15) (q := 7) C0 dX11_reads_4 (by decide) rfl hf (fun c2 hf => ?_) (fun c2 hf => ?_)
  · refine J_iconst (q := 16) (v := (-1)) C0 dX11_reads_15 rfl rfl ?_
    obtain rfl := Option.some.inj hf; exact J_iret C1 dX11_reads_16 rfl (Nat.zero_le _) (Nat.zero_le _) ⟨rfl, rfl, hT, hE⟩
  · refine J_aload_n (q := 8) C0 0 rfl rfl dX11_reads_7 rfl trivial ?_
    refine J_iload_n (q := 9) C0 1 rfl rfl dX11_reads_8 rfl ?_
    refine K_some hf (fun p3 hp3 hf => ?_)
    refine J_callV (q := 12) (ci := 10) (as := [vi (x1)]) (rest := []) C0 rfl (h0) (t_X11_isStrip a0 (x1) (hT) (h0)  hp3) ml_X11_isStrip lk_X11_221 im_X11_isStrip se_X11_isStrip rfl (by decide) dX11_reads_9 rfl rfl rfl (by simp [ac_]) C1.room (by decide) (by decide) (by decide) (by decide) (fun r_ τ_ hQ => ?_)
    obtain ⟨⟨rfl, zp3⟩, ht_⟩ := hQ; have ht_ := ht_.symm; subst ht_
    show J_ Γ 12 [(0, vr (some a0)), (1, vi (x1))] [vi (p3)] σ 0 0
    refine J_if_ne (t := 17) (q := 15) C0 dX11_reads_12 (by decide) rfl hf (fun c4 hf => ?_) (fun c4 hf => ?_)
    · refine J_aload_n (q := 18) C0 0 rfl rfl dX11_reads_17 rfl trivial ?_
      refine K_some hf (fun p5 hp5 hf => ?_)
      refine J_callV (q := 21) (ci := 10) (as := []) (rest := []) C0 rfl (h0) (t_X11_traceAll N a0  (hT) (h0)  hp5) ml_X11_traceAll lk_X11_294 im_X11_traceAll se_X11_traceAll rfl (by decide) dX11_reads_18 rfl rfl rfl (by simp [ac_]) C1.room (by decide) (by decide) (by decide) (by decide) (fun r_ τ_ hQ => ?_)
      obtain ⟨rfl, ht_, Tp5, Ep5⟩ := hQ; have ht_ := ht_.symm; subst ht_
      show J_ Γ 21 [(0, vr (some a0)), (1, vi (x1))] [] p5 0 0
      refine J_iconst (q := 22) (v := 0) C0 dX11_reads_21 rfl rfl ?_
      refine J_istore_n (q := 23) (lv' := [(2, vi (0)), (0, vr (some a0)), (1, vi (x1))]) C0 rfl (G_nl C1 (by decide)) dX11_reads_22 rfl rfl ?_
      refine J_sub (lv' := [(0, vr (some a0)), (1, vi (x1)), (2, vi (0))]) [1, 2, 0] rfl ?_
      exact t_X11_reads_L23 C1    N (x1) (0) (p5) (Tp5) ((hE).tr Ep5) ((Ep5.at h0))  hf
    · refine J_iconst (q := 16) (v := (-1)) C0 dX11_reads_15 rfl rfl ?_
      obtain rfl := Option.some.inj hf; exact J_iret C1 dX11_reads_16 rfl (Nat.zero_le _) (Nat.zero_le _) ⟨rfl, rfl, hT, hE⟩
def f_X11_period (N : Nat) (a0 : Nat) (x1 : Int32) (σ : Sg) : Option Int32 :=
  Option.bind (f_X11_isStrip a0 (x1) σ) fun p1 =>
  if (p1) = (0) then
  (some ((-1)))
  else
  (Option.bind (sg_R σ a0 8) fun b3 =>
  if (x1) < 0 ∨ sg_L σ b3 ≤ (x1).toNatClampNeg then none else
  Option.bind (sg_R σ b3 (x1).toNatClampNeg) fun b5 =>
  Option.bind (f_X8_leastPeriod N b5  σ) fun p6 =>
  some (p6))
set_option maxHeartbeats 4000000 in
set_option maxRecDepth 100000 in
theorem t_X11_period (N : Nat) (a0 : Nat) (x1 : Int32) {σ : Sg} (hT : sg_T σ) (h0 : is_A σ a0 10) {r : Int32} (hf : f_X11_period N a0 x1 σ = some r) : Ct yX11_period cX11_period 2 (some .int) 5 111 0 0 [vr (some a0), vi x1] σ (fun r_ τ_ => (r_ = some (vi r)) ∧ τ_ = σ) := by
  refine Ct.of (by decide +kernel) (Nat.le_of_ble_eq_true rfl) (fun Γ C1 => ?_)
  have C0 := C1.1
  unfold f_X11_period at hf
  show J_ Γ 0 [(0, vr (some a0)), (1, vi (x1))] [] σ 0 0
  refine J_aload_n (q := 1) C0 0 rfl rfl dX11_period_0 rfl trivial ?_
  refine J_iload_n (q := 2) C0 1 rfl rfl dX11_period_1 rfl ?_
  refine K_some hf (fun p1 hp1 hf => ?_)
  refine J_callV (q := 5) (ci := 10) (as := [vi (x1)]) (rest := []) C0 rfl (h0) (t_X11_isStrip a0 (x1) (hT) (h0)  hp1) ml_X11_isStrip lk_X11_221 im_X11_isStrip se_X11_isStrip rfl (by decide) dX11_period_2 rfl rfl rfl (by simp [ac_]) C1.room (by decide) (by decide) (by decide) (by decide) (fun r_ τ_ hQ => ?_)
  obtain ⟨⟨rfl, zp1⟩, ht_⟩ := hQ; have ht_ := ht_.symm; subst ht_
  show J_ Γ 5 [(0, vr (some a0)), (1, vi (x1))] [vi (p1)] σ 0 0
  refine J_if_eq (t := 20) (q := 8) C0 dX11_period_5 (by decide) rfl hf (fun c2 hf => ?_) (fun c2 hf => ?_)
  · refine J_iconst (q := 21) (v := (-1)) C0 dX11_period_20 rfl rfl ?_
    obtain rfl := Option.some.inj hf; exact J_iret C1 dX11_period_21 rfl (Nat.zero_le _) (Nat.zero_le _) ⟨rfl, rfl⟩
  · refine J_aload_n (q := 9) C0 0 rfl rfl dX11_period_8 rfl trivial ?_
    refine J_getR (q := 12) C0 fl_X11_52_10 rfl (h0) rfl dX11_period_9 rfl ?_
    refine J_iload_n (q := 13) C0 1 rfl rfl dX11_period_12 rfl ?_
    refine K_some hf (fun b3 hb3 hf => ?_)
    have ab3 : is_A σ b3 17 := ((sg_T.op hT (j := 8) (h0) rfl)) b3 hb3
    refine K_chk hf (fun c4 hf => ?_)
    refine J_aald (q := 14) C0 hb3 (ab3) (by decide) c4 dX11_period_13 rfl ?_
    refine K_some hf (fun b5 hb5 hf => ?_)
    have ab5 : is_A σ b5 7 := ((sg_T.op hT (j := (x1).toNatClampNeg) (ab3) rfl)) b5 hb5
    refine K_some hf (fun p6 hp6 hf => ?_)
    refine J_callV (q := 17) (ci := 7) (as := []) (rest := []) C0 hb5 (ab5) (t_X8_leastPeriod N b5  (hT) (ab5)  hp6) ml_X8_leastPeriod lk_X11_317 im_X8_leastPeriod se_X8_leastPeriod rfl (by decide) dX11_period_14 rfl rfl rfl (by simp [ac_]) C1.room (by decide) (by decide) (by decide) (by decide) (fun r_ τ_ hQ => ?_)
    obtain ⟨rfl, ht_⟩ := hQ; have ht_ := ht_.symm; subst ht_
    show J_ Γ 17 [(0, vr (some a0)), (1, vi (x1))] [vi (p6)] σ 0 0
    refine J_goto (q := 21) C0 dX11_period_17 (by decide) ?_
    obtain rfl := Option.some.inj hf; exact J_iret C1 dX11_period_21 rfl (Nat.zero_le _) (Nat.zero_le _) ⟨rfl, rfl⟩
def f_X11_least (N : Nat) (a0 : Nat) (x1 : Int32) (σ : Sg) : Option Int32 :=
  Option.bind (f_X11_isStrip a0 (x1) σ) fun p1 =>
  if (p1) = (0) then
  (some ((-1)))
  else
  (Option.bind (sg_R σ a0 8) fun b3 =>
  if (x1) < 0 ∨ sg_L σ b3 ≤ (x1).toNatClampNeg then none else
  Option.bind (sg_R σ b3 (x1).toNatClampNeg) fun b5 =>
  Option.bind (f_X8_leastTurning N b5  σ) fun p6 =>
  some (p6))
set_option maxHeartbeats 4000000 in
set_option maxRecDepth 100000 in
theorem t_X11_least (N : Nat) (a0 : Nat) (x1 : Int32) {σ : Sg} (hT : sg_T σ) (h0 : is_A σ a0 10) {r : Int32} (hf : f_X11_least N a0 x1 σ = some r) : Ct yX11_least cX11_least 2 (some .int) 5 111 0 0 [vr (some a0), vi x1] σ (fun r_ τ_ => (r_ = some (vi r)) ∧ τ_ = σ) := by
  refine Ct.of (by decide +kernel) (Nat.le_of_ble_eq_true rfl) (fun Γ C1 => ?_)
  have C0 := C1.1
  unfold f_X11_least at hf
  show J_ Γ 0 [(0, vr (some a0)), (1, vi (x1))] [] σ 0 0
  refine J_aload_n (q := 1) C0 0 rfl rfl dX11_least_0 rfl trivial ?_
  refine J_iload_n (q := 2) C0 1 rfl rfl dX11_least_1 rfl ?_
  refine K_some hf (fun p1 hp1 hf => ?_)
  refine J_callV (q := 5) (ci := 10) (as := [vi (x1)]) (rest := []) C0 rfl (h0) (t_X11_isStrip a0 (x1) (hT) (h0)  hp1) ml_X11_isStrip lk_X11_221 im_X11_isStrip se_X11_isStrip rfl (by decide) dX11_least_2 rfl rfl rfl (by simp [ac_]) C1.room (by decide) (by decide) (by decide) (by decide) (fun r_ τ_ hQ => ?_)
  obtain ⟨⟨rfl, zp1⟩, ht_⟩ := hQ; have ht_ := ht_.symm; subst ht_
  show J_ Γ 5 [(0, vr (some a0)), (1, vi (x1))] [vi (p1)] σ 0 0
  refine J_if_eq (t := 20) (q := 8) C0 dX11_least_5 (by decide) rfl hf (fun c2 hf => ?_) (fun c2 hf => ?_)
  · refine J_iconst (q := 21) (v := (-1)) C0 dX11_least_20 rfl rfl ?_
    obtain rfl := Option.some.inj hf; exact J_iret C1 dX11_least_21 rfl (Nat.zero_le _) (Nat.zero_le _) ⟨rfl, rfl⟩
  · refine J_aload_n (q := 9) C0 0 rfl rfl dX11_least_8 rfl trivial ?_
    refine J_getR (q := 12) C0 fl_X11_52_10 rfl (h0) rfl dX11_least_9 rfl ?_
    refine J_iload_n (q := 13) C0 1 rfl rfl dX11_least_12 rfl ?_
    refine K_some hf (fun b3 hb3 hf => ?_)
    have ab3 : is_A σ b3 17 := ((sg_T.op hT (j := 8) (h0) rfl)) b3 hb3
    refine K_chk hf (fun c4 hf => ?_)
    refine J_aald (q := 14) C0 hb3 (ab3) (by decide) c4 dX11_least_13 rfl ?_
    refine K_some hf (fun b5 hb5 hf => ?_)
    have ab5 : is_A σ b5 7 := ((sg_T.op hT (j := (x1).toNatClampNeg) (ab3) rfl)) b5 hb5
    refine K_some hf (fun p6 hp6 hf => ?_)
    refine J_callV (q := 17) (ci := 7) (as := []) (rest := []) C0 hb5 (ab5) (t_X8_leastTurning N b5  (hT) (ab5)  hp6) ml_X8_leastTurning lk_X11_320 im_X8_leastTurning se_X8_leastTurning rfl (by decide) dX11_least_14 rfl rfl rfl (by simp [ac_]) C1.room (by decide) (by decide) (by decide) (by decide) (fun r_ τ_ hQ => ?_)
    obtain ⟨rfl, ht_⟩ := hQ; have ht_ := ht_.symm; subst ht_
    show J_ Γ 17 [(0, vr (some a0)), (1, vi (x1))] [vi (p6)] σ 0 0
    refine J_goto (q := 21) C0 dX11_least_17 (by decide) ?_
    obtain rfl := Option.some.inj hf; exact J_iret C1 dX11_least_21 rfl (Nat.zero_le _) (Nat.zero_le _) ⟨rfl, rfl⟩
def f_X11_alike (N : Nat) (a0 : Nat) (x1 : Int32) (x2 : Int32) (x3 : Int32) (σ : Sg) : Option Int32 :=
  Option.bind (f_X11_isStrip a0 (x1) σ) fun p1 =>
  if (p1) = (0) then
  (some ((-1)))
  else
  (Option.bind (f_X11_isStrip a0 (x2) σ) fun p3 =>
  if (p3) = (0) then
  (some ((-1)))
  else
  (Option.bind (sg_R σ a0 8) fun b5 =>
  if (x1) < 0 ∨ sg_L σ b5 ≤ (x1).toNatClampNeg then none else
  if (x2) < 0 ∨ sg_L σ b5 ≤ (x2).toNatClampNeg then none else
  Option.bind (sg_R σ b5 (x1).toNatClampNeg) fun b8 =>
  Option.bind (f_X8_turningTo N b8 (sg_R σ b5 (x2).toNatClampNeg) (x3) σ) fun p9 =>
  some (p9)))
set_option maxHeartbeats 4000000 in
set_option maxRecDepth 100000 in
theorem t_X11_alike (N : Nat) (a0 : Nat) (x1 : Int32) (x2 : Int32) (x3 : Int32) {σ : Sg} (hT : sg_T σ) (h0 : is_A σ a0 10) {r : Int32} (hf : f_X11_alike N a0 x1 x2 x3 σ = some r) : Ct yX11_alike cX11_alike 4 (some .int) 5 113 0 0 [vr (some a0), vi x1, vi x2, vi x3] σ (fun r_ τ_ => (r_ = some (vi r)) ∧ τ_ = σ) := by
  refine Ct.of (by decide +kernel) (Nat.le_of_ble_eq_true rfl) (fun Γ C1 => ?_)
  have C0 := C1.1
  unfold f_X11_alike at hf
  show J_ Γ 0 [(0, vr (some a0)), (1, vi (x1)), (2, vi (x2)), (3, vi (x3))] [] σ 0 0
  refine J_aload_n (q := 1) C0 0 rfl rfl dX11_alike_0 rfl trivial ?_
  refine J_iload_n (q := 2) C0 1 rfl rfl dX11_alike_1 rfl ?_
  refine K_some hf (fun p1 hp1 hf => ?_)
  refine J_callV (q := 5) (ci := 10) (as := [vi (x1)]) (rest := []) C0 rfl (h0) (t_X11_isStrip a0 (x1) (hT) (h0)  hp1) ml_X11_isStrip lk_X11_221 im_X11_isStrip se_X11_isStrip rfl (by decide) dX11_alike_2 rfl rfl rfl (by simp [ac_]) C1.room (by decide) (by decide) (by decide) (by decide) (fun r_ τ_ hQ => ?_)
  obtain ⟨⟨rfl, zp1⟩, ht_⟩ := hQ; have ht_ := ht_.symm; subst ht_
  show J_ Γ 5 [(0, vr (some a0)), (1, vi (x1)), (2, vi (x2)), (3, vi (x3))] [vi (p1)] σ 0 0
  refine J_if_eq (t := 35) (q := 8) C0 dX11_alike_5 (by decide) rfl hf (fun c2 hf => ?_) (fun c2 hf => ?_)
  · refine J_iconst (q := 36) (v := (-1)) C0 dX11_alike_35 rfl rfl ?_
    obtain rfl := Option.some.inj hf; exact J_iret C1 dX11_alike_36 rfl (Nat.zero_le _) (Nat.zero_le _) ⟨rfl, rfl⟩
  · refine J_aload_n (q := 9) C0 0 rfl rfl dX11_alike_8 rfl trivial ?_
    refine J_iload_n (q := 10) C0 2 rfl rfl dX11_alike_9 rfl ?_
    refine K_some hf (fun p3 hp3 hf => ?_)
    refine J_callV (q := 13) (ci := 10) (as := [vi (x2)]) (rest := []) C0 rfl (h0) (t_X11_isStrip a0 (x2) (hT) (h0)  hp3) ml_X11_isStrip lk_X11_221 im_X11_isStrip se_X11_isStrip rfl (by decide) dX11_alike_10 rfl rfl rfl (by simp [ac_]) C1.room (by decide) (by decide) (by decide) (by decide) (fun r_ τ_ hQ => ?_)
    obtain ⟨⟨rfl, zp3⟩, ht_⟩ := hQ; have ht_ := ht_.symm; subst ht_
    show J_ Γ 13 [(0, vr (some a0)), (1, vi (x1)), (2, vi (x2)), (3, vi (x3))] [vi (p3)] σ 0 0
    refine J_if_eq (t := 35) (q := 16) C0 dX11_alike_13 (by decide) rfl hf (fun c4 hf => ?_) (fun c4 hf => ?_)
    · refine J_iconst (q := 36) (v := (-1)) C0 dX11_alike_35 rfl rfl ?_
      obtain rfl := Option.some.inj hf; exact J_iret C1 dX11_alike_36 rfl (Nat.zero_le _) (Nat.zero_le _) ⟨rfl, rfl⟩
    · refine J_aload_n (q := 17) C0 0 rfl rfl dX11_alike_16 rfl trivial ?_
      refine J_getR (q := 20) C0 fl_X11_52_10 rfl (h0) rfl dX11_alike_17 rfl ?_
      refine J_iload_n (q := 21) C0 1 rfl rfl dX11_alike_20 rfl ?_
      refine K_some hf (fun b5 hb5 hf => ?_)
      have ab5 : is_A σ b5 17 := ((sg_T.op hT (j := 8) (h0) rfl)) b5 hb5
      refine K_chk hf (fun c6 hf => ?_)
      refine J_aald (q := 22) C0 hb5 (ab5) (by decide) c6 dX11_alike_21 rfl ?_
      refine J_aload_n (q := 23) C0 0 rfl rfl dX11_alike_22 rfl trivial ?_
      refine J_getR (q := 26) C0 fl_X11_52_10 rfl (h0) rfl dX11_alike_23 rfl ?_
      refine J_iload_n (q := 27) C0 2 rfl rfl dX11_alike_26 rfl ?_
      refine K_chk hf (fun c7 hf => ?_)
      refine J_aald (q := 28) C0 hb5 (ab5) (by decide) c7 dX11_alike_27 rfl ?_
      refine J_iload_n (q := 29) C0 3 rfl rfl dX11_alike_28 rfl ?_
      refine K_some hf (fun b8 hb8 hf => ?_)
      have ab8 : is_A σ b8 7 := ((sg_T.op hT (j := (x1).toNatClampNeg) (ab5) rfl)) b8 hb8
      refine K_some hf (fun p9 hp9 hf => ?_)
      refine J_callV (q := 32) (ci := 7) (as := [vr (sg_R σ b5 (x2).toNatClampNeg), vi (x3)]) (rest := []) C0 hb8 (ab8) (t_X8_turningTo N b8 (sg_R σ b5 (x2).toNatClampNeg) (x3) (hT) (ab8) ((sg_T.op hT (j := (x2).toNatClampNeg) (ab5) rfl)) hp9) ml_X8_turningTo lk_X11_323 im_X8_turningTo se_X8_turningTo rfl (by decide) dX11_alike_29 rfl rfl rfl (by simp [ac_]) C1.room (by decide) (by decide) (by decide) (by decide) (fun r_ τ_ hQ => ?_)
      obtain ⟨rfl, ht_⟩ := hQ; have ht_ := ht_.symm; subst ht_
      show J_ Γ 32 [(0, vr (some a0)), (1, vi (x1)), (2, vi (x2)), (3, vi (x3))] [vi (p9)] σ 0 0
      refine J_goto (q := 36) C0 dX11_alike_32 (by decide) ?_
      obtain rfl := Option.some.inj hf; exact J_iret C1 dX11_alike_36 rfl (Nat.zero_le _) (Nat.zero_le _) ⟨rfl, rfl⟩
def f_X11_mirror (N : Nat) (a0 : Nat) (x1 : Int32) (σ : Sg) : Option Int32 :=
  Option.bind (f_X11_isStrip a0 (x1) σ) fun p1 =>
  if (p1) = (0) then
  (some ((-1)))
  else
  (Option.bind (sg_R σ a0 8) fun b3 =>
  if (x1) < 0 ∨ sg_L σ b3 ≤ (x1).toNatClampNeg then none else
  if (x1) < 0 ∨ sg_L σ b3 ≤ (x1).toNatClampNeg then none else
  Option.bind (sg_R σ b3 (x1).toNatClampNeg) fun b6 =>
  Option.bind (f_X8_turningTo N b6 (sg_R σ b3 (x1).toNatClampNeg) (1) σ) fun p7 =>
  if (p7) = ((-1)) then
  (some (0))
  else
  (some (1)))
set_option maxHeartbeats 4000000 in
set_option maxRecDepth 100000 in
theorem t_X11_mirror (N : Nat) (a0 : Nat) (x1 : Int32) {σ : Sg} (hT : sg_T σ) (h0 : is_A σ a0 10) {r : Int32} (hf : f_X11_mirror N a0 x1 σ = some r) : Ct yX11_mirror cX11_mirror 2 (some .int) 5 113 0 0 [vr (some a0), vi x1] σ (fun r_ τ_ => (r_ = some (vi r)) ∧ τ_ = σ) := by
  refine Ct.of (by decide +kernel) (Nat.le_of_ble_eq_true rfl) (fun Γ C1 => ?_)
  have C0 := C1.1
  unfold f_X11_mirror at hf
  show J_ Γ 0 [(0, vr (some a0)), (1, vi (x1))] [] σ 0 0
  refine J_aload_n (q := 1) C0 0 rfl rfl dX11_mirror_0 rfl trivial ?_
  refine J_iload_n (q := 2) C0 1 rfl rfl dX11_mirror_1 rfl ?_
  refine K_some hf (fun p1 hp1 hf => ?_)
  refine J_callV (q := 5) (ci := 10) (as := [vi (x1)]) (rest := []) C0 rfl (h0) (t_X11_isStrip a0 (x1) (hT) (h0)  hp1) ml_X11_isStrip lk_X11_221 im_X11_isStrip se_X11_isStrip rfl (by decide) dX11_mirror_2 rfl rfl rfl (by simp [ac_]) C1.room (by decide) (by decide) (by decide) (by decide) (fun r_ τ_ hQ => ?_)
  obtain ⟨⟨rfl, zp1⟩, ht_⟩ := hQ; have ht_ := ht_.symm; subst ht_
  show J_ Γ 5 [(0, vr (some a0)), (1, vi (x1))] [vi (p1)] σ 0 0
  refine J_if_ne (t := 10) (q := 8) C0 dX11_mirror_5 (by decide) rfl hf (fun c2 hf => ?_) (fun c2 hf => ?_)
  · refine J_aload_n (q := 11) C0 0 rfl rfl dX11_mirror_10 rfl trivial ?_
    refine J_getR (q := 14) C0 fl_X11_52_10 rfl (h0) rfl dX11_mirror_11 rfl ?_
    refine J_iload_n (q := 15) C0 1 rfl rfl dX11_mirror_14 rfl ?_
    refine K_some hf (fun b3 hb3 hf => ?_)
    have ab3 : is_A σ b3 17 := ((sg_T.op hT (j := 8) (h0) rfl)) b3 hb3
    refine K_chk hf (fun c4 hf => ?_)
    refine J_aald (q := 16) C0 hb3 (ab3) (by decide) c4 dX11_mirror_15 rfl ?_
    refine J_aload_n (q := 17) C0 0 rfl rfl dX11_mirror_16 rfl trivial ?_
    refine J_getR (q := 20) C0 fl_X11_52_10 rfl (h0) rfl dX11_mirror_17 rfl ?_
    refine J_iload_n (q := 21) C0 1 rfl rfl dX11_mirror_20 rfl ?_
    refine K_chk hf (fun c5 hf => ?_)
    refine J_aald (q := 22) C0 hb3 (ab3) (by decide) c5 dX11_mirror_21 rfl ?_
    refine J_iconst (q := 23) (v := 1) C0 dX11_mirror_22 rfl rfl ?_
    refine K_some hf (fun b6 hb6 hf => ?_)
    have ab6 : is_A σ b6 7 := ((sg_T.op hT (j := (x1).toNatClampNeg) (ab3) rfl)) b6 hb6
    refine K_some hf (fun p7 hp7 hf => ?_)
    refine J_callV (q := 26) (ci := 7) (as := [vr (sg_R σ b3 (x1).toNatClampNeg), vi (1)]) (rest := []) C0 hb6 (ab6) (t_X8_turningTo N b6 (sg_R σ b3 (x1).toNatClampNeg) (1) (hT) (ab6) ((by rw [hb6]; exact is_O.some (ab6))) hp7) ml_X8_turningTo lk_X11_323 im_X8_turningTo se_X8_turningTo rfl (by decide) dX11_mirror_23 rfl rfl rfl (by simp [ac_]) C1.room (by decide) (by decide) (by decide) (by decide) (fun r_ τ_ hQ => ?_)
    obtain ⟨rfl, ht_⟩ := hQ; have ht_ := ht_.symm; subst ht_
    show J_ Γ 26 [(0, vr (some a0)), (1, vi (x1))] [vi (p7)] σ 0 0
    refine J_iconst (q := 27) (v := (-1)) C0 dX11_mirror_26 rfl rfl ?_
    refine J_icmp_ne (t := 34) (q := 30) C0 dX11_mirror_27 (by decide) rfl hf (fun c8 hf => ?_) (fun c8 hf => ?_)
    · refine J_iconst (q := 35) (v := 1) C0 dX11_mirror_34 rfl rfl ?_
      obtain rfl := Option.some.inj hf; exact J_iret C1 dX11_mirror_35 rfl (Nat.zero_le _) (Nat.zero_le _) ⟨rfl, rfl⟩
    · refine J_iconst (q := 31) (v := 0) C0 dX11_mirror_30 rfl rfl ?_
      refine J_goto (q := 35) C0 dX11_mirror_31 (by decide) ?_
      obtain rfl := Option.some.inj hf; exact J_iret C1 dX11_mirror_35 rfl (Nat.zero_le _) (Nat.zero_le _) ⟨rfl, rfl⟩
  · refine J_iconst (q := 9) (v := (-1)) C0 dX11_mirror_8 rfl rfl ?_
    obtain rfl := Option.some.inj hf; exact J_iret C1 dX11_mirror_9 rfl (Nat.zero_le _) (Nat.zero_le _) ⟨rfl, rfl⟩
def f_X11_rows (N : Nat) (a0 : Nat) (x1 : Int32) (x2 : Int32) (σ : Sg) : Option Int32 :=
  Option.bind (f_X11_isStrip a0 (x1) σ) fun p1 =>
  if (p1) = (0) then
  (some ((-1)))
  else
  (if (x2) < (1) then
  (some ((-1)))
  else
  (if (8) < (x2) then
  (some ((-1)))
  else
  (Option.bind (sg_R σ a0 8) fun b5 =>
  if (x1) < 0 ∨ sg_L σ b5 ≤ (x1).toNatClampNeg then none else
  Option.bind (sg_R σ b5 (x1).toNatClampNeg) fun b7 =>
  Option.bind (f_X8_unlikeRows N b7 (x2) σ) fun p8 =>
  some (p8))))
set_option maxHeartbeats 4000000 in
set_option maxRecDepth 100000 in
theorem t_X11_rows (N : Nat) (a0 : Nat) (x1 : Int32) (x2 : Int32) {σ : Sg} (hT : sg_T σ) (h0 : is_A σ a0 10) {r : Int32} (hf : f_X11_rows N a0 x1 x2 σ = some r) : Ct yX11_rows cX11_rows 3 (some .int) 5 114 0 0 [vr (some a0), vi x1, vi x2] σ (fun r_ τ_ => (r_ = some (vi r)) ∧ τ_ = σ) := by
  refine Ct.of (by decide +kernel) (Nat.le_of_ble_eq_true rfl) (fun Γ C1 => ?_)
  have C0 := C1.1
  unfold f_X11_rows at hf
  show J_ Γ 0 [(0, vr (some a0)), (1, vi (x1)), (2, vi (x2))] [] σ 0 0
  refine J_aload_n (q := 1) C0 0 rfl rfl dX11_rows_0 rfl trivial ?_
  refine J_iload_n (q := 2) C0 1 rfl rfl dX11_rows_1 rfl ?_
  refine K_some hf (fun p1 hp1 hf => ?_)
  refine J_callV (q := 5) (ci := 10) (as := [vi (x1)]) (rest := []) C0 rfl (h0) (t_X11_isStrip a0 (x1) (hT) (h0)  hp1) ml_X11_isStrip lk_X11_221 im_X11_isStrip se_X11_isStrip rfl (by decide) dX11_rows_2 rfl rfl rfl (by simp [ac_]) C1.room (by decide) (by decide) (by decide) (by decide) (fun r_ τ_ hQ => ?_)
  obtain ⟨⟨rfl, zp1⟩, ht_⟩ := hQ; have ht_ := ht_.symm; subst ht_
  show J_ Γ 5 [(0, vr (some a0)), (1, vi (x1)), (2, vi (x2))] [vi (p1)] σ 0 0
  refine J_if_eq (t := 32) (q := 8) C0 dX11_rows_5 (by decide) rfl hf (fun c2 hf => ?_) (fun c2 hf => ?_)
  · refine J_iconst (q := 33) (v := (-1)) C0 dX11_rows_32 rfl rfl ?_
    obtain rfl := Option.some.inj hf; exact J_iret C1 dX11_rows_33 rfl (Nat.zero_le _) (Nat.zero_le _) ⟨rfl, rfl⟩
  · refine J_iload_n (q := 9) C0 2 rfl rfl dX11_rows_8 rfl ?_
    refine J_iconst (q := 10) (v := 1) C0 dX11_rows_9 rfl rfl ?_
    refine J_icmp_lt (t := 32) (q := 13) C0 dX11_rows_10 (by decide) rfl hf (fun c3 hf => ?_) (fun c3 hf => ?_)
    · refine J_iconst (q := 33) (v := (-1)) C0 dX11_rows_32 rfl rfl ?_
      obtain rfl := Option.some.inj hf; exact J_iret C1 dX11_rows_33 rfl (Nat.zero_le _) (Nat.zero_le _) ⟨rfl, rfl⟩
    · refine J_iload_n (q := 14) C0 2 rfl rfl dX11_rows_13 rfl ?_
      refine J_bipush (q := 16) (v := 8) C0 dX11_rows_14 rfl rfl ?_
      refine J_icmp_gt (t := 32) (q := 19) C0 dX11_rows_16 (by decide) rfl hf (fun c4 hf => ?_) (fun c4 hf => ?_)
      · refine J_iconst (q := 33) (v := (-1)) C0 dX11_rows_32 rfl rfl ?_
        obtain rfl := Option.some.inj hf; exact J_iret C1 dX11_rows_33 rfl (Nat.zero_le _) (Nat.zero_le _) ⟨rfl, rfl⟩
      · refine J_aload_n (q := 20) C0 0 rfl rfl dX11_rows_19 rfl trivial ?_
        refine J_getR (q := 23) C0 fl_X11_52_10 rfl (h0) rfl dX11_rows_20 rfl ?_
        refine J_iload_n (q := 24) C0 1 rfl rfl dX11_rows_23 rfl ?_
        refine K_some hf (fun b5 hb5 hf => ?_)
        have ab5 : is_A σ b5 17 := ((sg_T.op hT (j := 8) (h0) rfl)) b5 hb5
        refine K_chk hf (fun c6 hf => ?_)
        refine J_aald (q := 25) C0 hb5 (ab5) (by decide) c6 dX11_rows_24 rfl ?_
        refine J_iload_n (q := 26) C0 2 rfl rfl dX11_rows_25 rfl ?_
        refine K_some hf (fun b7 hb7 hf => ?_)
        have ab7 : is_A σ b7 7 := ((sg_T.op hT (j := (x1).toNatClampNeg) (ab5) rfl)) b7 hb7
        refine K_some hf (fun p8 hp8 hf => ?_)
        refine J_callV (q := 29) (ci := 7) (as := [vi (x2)]) (rest := []) C0 hb7 (ab7) (t_X8_unlikeRows N b7 (x2) (hT) (ab7)  hp8) ml_X8_unlikeRows lk_X11_327 im_X8_unlikeRows se_X8_unlikeRows rfl (by decide) dX11_rows_26 rfl rfl rfl (by simp [ac_]) C1.room (by decide) (by decide) (by decide) (by decide) (fun r_ τ_ hQ => ?_)
        obtain ⟨rfl, ht_⟩ := hQ; have ht_ := ht_.symm; subst ht_
        show J_ Γ 29 [(0, vr (some a0)), (1, vi (x1)), (2, vi (x2))] [vi (p8)] σ 0 0
        refine J_goto (q := 33) C0 dX11_rows_29 (by decide) ?_
        obtain rfl := Option.some.inj hf; exact J_iret C1 dX11_rows_33 rfl (Nat.zero_le _) (Nat.zero_le _) ⟨rfl, rfl⟩
def f_X11_commonDivisor_B21 (N : Nat) (k2 : Int32 → Int32 → Int32 → Option Int32) (v0 : Int32) (v1 : Int32) (v2 : Int32) : Option Int32 :=
  k2 (v0) (v1) (v2 + (-1))
def f_X11_commonDivisor_L2 (N : Nat) : Nat → Int32 → Int32 → Int32 → Option Int32
  | 0, _, _, _ => none
  | n + 1, v0, v1, v2 =>
  if (1) < (v2) then
  (if (v2) = 0 then none else
  if (rm_ (v1) (v2)) = (0) then
  (if (v2) = 0 then none else
  if (rm_ (v0) (v2)) = (0) then
  (some (v2))
  else
  (f_X11_commonDivisor_B21 N (fun v0 v1 v2 => f_X11_commonDivisor_L2 N n v0 v1 v2) (v0) (v1) (v2) ))
  else
  (f_X11_commonDivisor_B21 N (fun v0 v1 v2 => f_X11_commonDivisor_L2 N n v0 v1 v2) (v0) (v1) (v2) ))
  else
  (some (1))
def f_X11_commonDivisor (N : Nat) (x0 : Int32) (x1 : Int32) : Option Int32 :=
  f_X11_commonDivisor_L2 N N (x0) (x1) (x1) 
set_option maxHeartbeats 4000000 in
set_option maxRecDepth 100000 in
theorem t_X11_commonDivisor_B21 {N : Nat} {Γ : Gm} {σ : Sg} {r : Int32} (C1 : CM Γ cX11_commonDivisor RX11 3 (some .int) 0 0 0 0 (fun r_ τ_ => (r_ = some (vi r)) ∧ τ_ = σ)) (k2 : Int32 → Int32 → Int32 → Option Int32) (hk2 : ∀ (v0 : Int32) (v1 : Int32) (v2 : Int32) , k2 v0 v1 v2 = some r → J_ Γ 2 [(0, vi v0), (1, vi v1), (2, vi v2)] [] σ 0 0) (v0 : Int32) (v1 : Int32) (v2 : Int32) (hf : f_X11_commonDivisor_B21 N k2  v0 v1 v2 = some r) : J_ Γ 21 [(0, vi (v0)), (1, vi (v1)), (2, vi (v2))] [] σ 0 0 := by
  have C0 := C1.1
  unfold f_X11_commonDivisor_B21 at hf
  refine J_iinc (q := 24) (v := v2 + (-1)) (lv' := [(2, vi (v2 + (-1))), (0, vi (v0)), (1, vi (v1))]) C0 2 rfl (congrArg (fun t_ : Int32 => (v2) + t_) (by decide : Int32.ofInt (-1) = (-1 : Int32))) (G_nl C1 (by decide)) dX11_commonDivisor_21 rfl rfl ?_
  refine J_goto (q := 2) C0 dX11_commonDivisor_24 (by decide) ?_
  refine J_sub (lv' := [(0, vi (v0)), (1, vi (v1)), (2, vi (v2 + (-1)))]) [1, 2, 0] rfl ?_
  exact hk2 (v0) (v1) (v2 + (-1))  hf
set_option maxHeartbeats 4000000 in
set_option maxRecDepth 100000 in
theorem t_X11_commonDivisor_L2 {N : Nat} {Γ : Gm} {σ : Sg} {r : Int32} (C1 : CM Γ cX11_commonDivisor RX11 3 (some .int) 0 0 0 0 (fun r_ τ_ => (r_ = some (vi r)) ∧ τ_ = σ)) : ∀ (n : Nat) (v0 : Int32) (v1 : Int32) (v2 : Int32), f_X11_commonDivisor_L2 N  n v0 v1 v2 = some r → J_ Γ 2 [(0, vi (v0)), (1, vi (v1)), (2, vi (v2))] [] σ 0 0 := by
  have C0 := C1.1
  intro n
  induction n with
  | zero => intro v0 v1 v2  hf; unfold f_X11_commonDivisor_L2 at hf; cases hf
  | succ n ih =>
    intro v0 v1 v2  hf
    rw [f_X11_commonDivisor_L2] at hf
    refine J_iload_n (q := 3) C0 2 rfl rfl dX11_commonDivisor_2 rfl ?_
    refine J_iconst (q := 4) (v := 1) C0 dX11_commonDivisor_3 rfl rfl ?_
    refine J_icmp_le (t := 27) (q := 7) C0 dX11_commonDivisor_4 (by decide) rfl hf (fun c1 hf => ?_) (fun c1 hf => ?_)
    · refine J_iconst (q := 28) (v := 1) C0 dX11_commonDivisor_27 rfl rfl ?_
      obtain rfl := Option.some.inj hf; exact J_iret C1 dX11_commonDivisor_28 rfl (Nat.zero_le _) (Nat.zero_le _) ⟨rfl, rfl⟩
    · refine J_iload_n (q := 8) C0 1 rfl rfl dX11_commonDivisor_7 rfl ?_
      refine J_iload_n (q := 9) C0 2 rfl rfl dX11_commonDivisor_8 rfl ?_
      refine K_chk hf (fun c2 hf => ?_)
      refine J_irem (q := 10) C0 dX11_commonDivisor_9 rfl c2 ?_
      refine J_if_ne (t := 21) (q := 13) C0 dX11_commonDivisor_10 (by decide) rfl hf (fun c3 hf => ?_) (fun c3 hf => ?_)
      · exact t_X11_commonDivisor_B21 C1 (fun v0 v1 v2 => f_X11_commonDivisor_L2 N n v0 v1 v2)  ih  (v0) (v1) (v2)  hf
      · refine J_iload_n (q := 14) C0 0 rfl rfl dX11_commonDivisor_13 rfl ?_
        refine J_iload_n (q := 15) C0 2 rfl rfl dX11_commonDivisor_14 rfl ?_
        refine K_chk hf (fun c4 hf => ?_)
        refine J_irem (q := 16) C0 dX11_commonDivisor_15 rfl c4 ?_
        refine J_if_ne (t := 21) (q := 19) C0 dX11_commonDivisor_16 (by decide) rfl hf (fun c5 hf => ?_) (fun c5 hf => ?_)
        · exact t_X11_commonDivisor_B21 C1 (fun v0 v1 v2 => f_X11_commonDivisor_L2 N n v0 v1 v2)  ih  (v0) (v1) (v2)  hf
        · refine J_iload_n (q := 20) C0 2 rfl rfl dX11_commonDivisor_19 rfl ?_
          obtain rfl := Option.some.inj hf; exact J_iret C1 dX11_commonDivisor_20 rfl (Nat.zero_le _) (Nat.zero_le _) ⟨rfl, rfl⟩
set_option maxHeartbeats 4000000 in
set_option maxRecDepth 100000 in
theorem t_X11_commonDivisor (N : Nat) (x0 : Int32) (x1 : Int32) {σ : Sg} {r : Int32} (hf : f_X11_commonDivisor N x0 x1 = some r) : Ct yX11_commonDivisor cX11_commonDivisor 3 (some .int) 0 0 0 0 [vi x0, vi x1] σ (fun r_ τ_ => (r_ = some (vi r)) ∧ τ_ = σ) := by
  refine Ct.of (by decide +kernel) (Nat.le_of_ble_eq_true rfl) (fun Γ C1 => ?_)
  have C0 := C1.1
  unfold f_X11_commonDivisor at hf
  show J_ Γ 0 [(0, vi (x0)), (1, vi (x1))] [] σ 0 0
  refine J_iload_n (q := 1) C0 1 rfl rfl dX11_commonDivisor_0 rfl ?_
  refine J_istore_n (q := 2) (lv' := [(2, vi (x1)), (0, vi (x0)), (1, vi (x1))]) C0 rfl (G_nl C1 (by decide)) dX11_commonDivisor_1 rfl rfl ?_
  refine J_sub (lv' := [(0, vi (x0)), (1, vi (x1)), (2, vi (x1))]) [1, 2, 0] rfl ?_
  exact t_X11_commonDivisor_L2 C1    N (x0) (x1) (x1)  hf
def f_X11_power_L5 (N : Nat) : Nat → Int32 → Int32 → Int64 → Int32 → Option Int64
  | 0, _, _, _, _ => none
  | n + 1, v0, v1, v2, v4 =>
  if (v4) < (v1) then
  (f_X11_power_L5 N n (v0) (v1) ((v2) * ((v0).toInt64)) (v4 + 1) )
  else
  (some (v2))
def f_X11_power (N : Nat) (x0 : Int32) (x1 : Int32) : Option Int64 :=
  f_X11_power_L5 N N (x0) (x1) (1) (0) 
set_option maxHeartbeats 4000000 in
set_option maxRecDepth 100000 in
theorem t_X11_power_L5 {N : Nat} {Γ : Gm} {σ : Sg} {r : Int64} (C1 : CM Γ cX11_power RX11 5 (some .long) 0 0 0 0 (fun r_ τ_ => (r_ = some (vl r)) ∧ τ_ = σ)) : ∀ (n : Nat) (v0 : Int32) (v1 : Int32) (v2 : Int64) (v4 : Int32), f_X11_power_L5 N  n v0 v1 v2 v4 = some r → J_ Γ 5 [(0, vi (v0)), (1, vi (v1)), (2, vl (v2)), (4, vi (v4))] [] σ 0 0 := by
  have C0 := C1.1
  intro n
  induction n with
  | zero => intro v0 v1 v2 v4  hf; unfold f_X11_power_L5 at hf; cases hf
  | succ n ih =>
    intro v0 v1 v2 v4  hf
    rw [f_X11_power_L5] at hf
    refine J_iload (q := 7) C0 3 rfl dX11_power_5 rfl ?_
    refine J_iload_n (q := 8) C0 1 rfl rfl dX11_power_7 rfl ?_
    refine J_icmp_ge (t := 22) (q := 11) C0 dX11_power_8 (by decide) rfl hf (fun c1 hf => ?_) (fun c1 hf => ?_)
    · refine J_lload_n (q := 23) C0 2 rfl rfl dX11_power_22 rfl ?_
      obtain rfl := Option.some.inj hf; exact J_lret C1 dX11_power_23 rfl (Nat.zero_le _) (Nat.zero_le _) ⟨rfl, rfl⟩
    · refine J_lload_n (q := 12) C0 2 rfl rfl dX11_power_11 rfl ?_
      refine J_iload_n (q := 13) C0 0 rfl rfl dX11_power_12 rfl ?_
      refine J_i2l (q := 14) C0 dX11_power_13 rfl ?_
      refine J_lmul (q := 15) C0 dX11_power_14 rfl ?_
      refine J_lstore_n (q := 16) (lv' := [(2, vl ((v2) * ((v0).toInt64))), (0, vi (v0)), (1, vi (v1)), (4, vi (v4))]) C0 rfl (G_nl C1 (by decide)) dX11_power_15 rfl rfl ?_
      refine J_iinc (q := 19) (v := v4 + 1) (lv' := [(4, vi (v4 + 1)), (2, vl ((v2) * ((v0).toInt64))), (0, vi (v0)), (1, vi (v1))]) C0 3 rfl rfl (G_nl C1 (by decide)) dX11_power_16 rfl rfl ?_
      refine J_goto (q := 5) C0 dX11_power_19 (by decide) ?_
      refine J_sub (lv' := [(0, vi (v0)), (1, vi (v1)), (2, vl ((v2) * ((v0).toInt64))), (4, vi (v4 + 1))]) [2, 3, 1, 0] rfl ?_
      exact ih (v0) (v1) ((v2) * ((v0).toInt64)) (v4 + 1)   hf
set_option maxHeartbeats 4000000 in
set_option maxRecDepth 100000 in
theorem t_X11_power (N : Nat) (x0 : Int32) (x1 : Int32) {σ : Sg} {r : Int64} (hf : f_X11_power N x0 x1 = some r) : Ct yX11_power cX11_power 5 (some .long) 0 0 0 0 [vi x0, vi x1] σ (fun r_ τ_ => (r_ = some (vl r)) ∧ τ_ = σ) := by
  refine Ct.of (by decide +kernel) (Nat.le_of_ble_eq_true rfl) (fun Γ C1 => ?_)
  have C0 := C1.1
  unfold f_X11_power at hf
  show J_ Γ 0 [(0, vi (x0)), (1, vi (x1))] [] σ 0 0
  refine J_lconst (q := 1) (v := 1) C0 dX11_power_0 rfl rfl ?_
  refine J_lstore_n (q := 2) (lv' := [(2, vl (1)), (0, vi (x0)), (1, vi (x1))]) C0 rfl (G_nl C1 (by decide)) dX11_power_1 rfl rfl ?_
  refine J_iconst (q := 3) (v := 0) C0 dX11_power_2 rfl rfl ?_
  refine J_istore (q := 5) (lv' := [(4, vi (0)), (2, vl (1)), (0, vi (x0)), (1, vi (x1))]) C0 (G_nl C1 (by decide)) dX11_power_3 rfl rfl ?_
  refine J_sub (lv' := [(0, vi (x0)), (1, vi (x1)), (2, vl (1)), (4, vi (0))]) [2, 3, 1, 0] rfl ?_
  exact t_X11_power_L5 C1    N (x0) (x1) (1) (0)  hf
def f_X11_pairsOver_B26 (N : Nat) (k4 : Int32 → Int32 → Int32 → Int32 → Option Int32) (v0 : Int32) (v1 : Int32) (v3 : Int32) (s0 : Int32) (s1 : Int32) : Option Int32 :=
  k4 (v0) (v1) ((s1) + (s0)) (v3 + 1)
def f_X11_pairsOver_L4 (N : Nat) : Nat → Int32 → Int32 → Int32 → Int32 → Option Int32
  | 0, _, _, _, _ => none
  | n + 1, v0, v1, v2, v3 =>
  if (v3) < (v1) then
  (Option.bind (f_X11_round ((v0) - (v3)) (v1) ) fun p2 =>
  if (p2) = (v3) then
  (f_X11_pairsOver_B26 N (fun v0 v1 v2 v3 => f_X11_pairsOver_L4 N n v0 v1 v2 v3) (v0) (v1) (v3) (1) (v2) )
  else
  (f_X11_pairsOver_B26 N (fun v0 v1 v2 v3 => f_X11_pairsOver_L4 N n v0 v1 v2 v3) (v0) (v1) (v3) (0) (v2) ))
  else
  (some (((v1) + (v2)) / (2)))
def f_X11_pairsOver (N : Nat) (x0 : Int32) (x1 : Int32) : Option Int32 :=
  f_X11_pairsOver_L4 N N (x0) (x1) (0) (0) 
set_option maxHeartbeats 4000000 in
set_option maxRecDepth 100000 in
theorem t_X11_pairsOver_B26 {N : Nat} {Γ : Gm} {σ : Sg} {r : Int32} (C1 : CM Γ cX11_pairsOver RX11 4 (some .int) 2 43 0 0 (fun r_ τ_ => (r_ = some (vi r)) ∧ τ_ = σ)) (k4 : Int32 → Int32 → Int32 → Int32 → Option Int32) (hk4 : ∀ (v0 : Int32) (v1 : Int32) (v2 : Int32) (v3 : Int32) , k4 v0 v1 v2 v3 = some r → J_ Γ 4 [(0, vi v0), (1, vi v1), (2, vi v2), (3, vi v3)] [] σ 0 0) (v0 : Int32) (v1 : Int32) (v3 : Int32) (s0 : Int32) (s1 : Int32) (hf : f_X11_pairsOver_B26 N k4  v0 v1 v3 s0 s1 = some r) : J_ Γ 26 [(0, vi (v0)), (1, vi (v1)), (3, vi (v3))] [vi (s0), vi (s1)] σ 0 0 := by
  have C0 := C1.1
  unfold f_X11_pairsOver_B26 at hf
  refine J_iadd (q := 27) C0 dX11_pairsOver_26 rfl ?_
  refine J_istore_n (q := 28) (lv' := [(2, vi ((s1) + (s0))), (0, vi (v0)), (1, vi (v1)), (3, vi (v3))]) C0 rfl (G_nl C1 (by decide)) dX11_pairsOver_27 rfl rfl ?_
  refine J_iinc (q := 31) (v := v3 + 1) (lv' := [(3, vi (v3 + 1)), (2, vi ((s1) + (s0))), (0, vi (v0)), (1, vi (v1))]) C0 3 rfl rfl (G_nl C1 (by decide)) dX11_pairsOver_28 rfl rfl ?_
  refine J_goto (q := 4) C0 dX11_pairsOver_31 (by decide) ?_
  refine J_sub (lv' := [(0, vi (v0)), (1, vi (v1)), (2, vi ((s1) + (s0))), (3, vi (v3 + 1))]) [2, 3, 1, 0] rfl ?_
  exact hk4 (v0) (v1) ((s1) + (s0)) (v3 + 1)  hf
set_option maxHeartbeats 4000000 in
set_option maxRecDepth 100000 in
theorem t_X11_pairsOver_L4 {N : Nat} {Γ : Gm} {σ : Sg} {r : Int32} (C1 : CM Γ cX11_pairsOver RX11 4 (some .int) 2 43 0 0 (fun r_ τ_ => (r_ = some (vi r)) ∧ τ_ = σ)) : ∀ (n : Nat) (v0 : Int32) (v1 : Int32) (v2 : Int32) (v3 : Int32), f_X11_pairsOver_L4 N  n v0 v1 v2 v3 = some r → J_ Γ 4 [(0, vi (v0)), (1, vi (v1)), (2, vi (v2)), (3, vi (v3))] [] σ 0 0 := by
  have C0 := C1.1
  intro n
  induction n with
  | zero => intro v0 v1 v2 v3  hf; unfold f_X11_pairsOver_L4 at hf; cases hf
  | succ n ih =>
    intro v0 v1 v2 v3  hf
    rw [f_X11_pairsOver_L4] at hf
    refine J_iload_n (q := 5) C0 3 rfl rfl dX11_pairsOver_4 rfl ?_
    refine J_iload_n (q := 6) C0 1 rfl rfl dX11_pairsOver_5 rfl ?_
    refine J_icmp_ge (t := 34) (q := 9) C0 dX11_pairsOver_6 (by decide) rfl hf (fun c1 hf => ?_) (fun c1 hf => ?_)
    · refine J_iload_n (q := 35) C0 1 rfl rfl dX11_pairsOver_34 rfl ?_
      refine J_iload_n (q := 36) C0 2 rfl rfl dX11_pairsOver_35 rfl ?_
      refine J_iadd (q := 37) C0 dX11_pairsOver_36 rfl ?_
      refine J_iconst (q := 38) (v := 2) C0 dX11_pairsOver_37 rfl rfl ?_
      refine J_idiv (q := 39) C0 dX11_pairsOver_38 rfl (by decide) ?_
      obtain rfl := Option.some.inj hf; exact J_iret C1 dX11_pairsOver_39 rfl (Nat.zero_le _) (Nat.zero_le _) ⟨rfl, rfl⟩
    · refine J_iload_n (q := 10) C0 2 rfl rfl dX11_pairsOver_9 rfl ?_
      refine J_iload_n (q := 11) C0 0 rfl rfl dX11_pairsOver_10 rfl ?_
      refine J_iload_n (q := 12) C0 3 rfl rfl dX11_pairsOver_11 rfl ?_
      refine J_isub (q := 13) C0 dX11_pairsOver_12 rfl ?_
      refine J_iload_n (q := 14) C0 1 rfl rfl dX11_pairsOver_13 rfl ?_
      refine K_some hf (fun p2 hp2 hf => ?_)
      refine J_callS (q := 17) (as := [vi ((v0) - (v3)), vi (v1)]) (rest := [vi (v2)]) C0 (t_X11_round ((v0) - (v3)) (v1)  hp2) ml_X11_round lk_X11_169 sm_X11_round dX11_pairsOver_14 rfl rfl rfl (by simp [ac_]) C1.room (by decide) (by decide) (by decide) (by decide) (fun r_ τ_ hQ => ?_)
      obtain ⟨rfl, ht_⟩ := hQ; have ht_ := ht_.symm; subst ht_
      show J_ Γ 17 [(0, vi (v0)), (1, vi (v1)), (2, vi (v2)), (3, vi (v3))] [vi (p2), vi (v2)] σ 0 0
      refine J_iload_n (q := 18) C0 3 rfl rfl dX11_pairsOver_17 rfl ?_
      refine J_icmp_ne (t := 25) (q := 21) C0 dX11_pairsOver_18 (by decide) rfl hf (fun c3 hf => ?_) (fun c3 hf => ?_)
      · refine J_iconst (q := 26) (v := 0) C0 dX11_pairsOver_25 rfl rfl ?_
        refine J_sub (lv' := [(0, vi (v0)), (1, vi (v1)), (3, vi (v3))]) [0, 1, 3] rfl ?_
        exact t_X11_pairsOver_B26 C1 (fun v0 v1 v2 v3 => f_X11_pairsOver_L4 N n v0 v1 v2 v3)  ih  (v0) (v1) (v3) (0) (v2)  hf
      · refine J_iconst (q := 22) (v := 1) C0 dX11_pairsOver_21 rfl rfl ?_
        refine J_goto (q := 26) C0 dX11_pairsOver_22 (by decide) ?_
        refine J_sub (lv' := [(0, vi (v0)), (1, vi (v1)), (3, vi (v3))]) [0, 1, 3] rfl ?_
        exact t_X11_pairsOver_B26 C1 (fun v0 v1 v2 v3 => f_X11_pairsOver_L4 N n v0 v1 v2 v3)  ih  (v0) (v1) (v3) (1) (v2)  hf
set_option maxHeartbeats 4000000 in
set_option maxRecDepth 100000 in
theorem t_X11_pairsOver (N : Nat) (x0 : Int32) (x1 : Int32) {σ : Sg} {r : Int32} (hf : f_X11_pairsOver N x0 x1 = some r) : Ct yX11_pairsOver cX11_pairsOver 4 (some .int) 2 43 0 0 [vi x0, vi x1] σ (fun r_ τ_ => (r_ = some (vi r)) ∧ τ_ = σ) := by
  refine Ct.of (by decide +kernel) (Nat.le_of_ble_eq_true rfl) (fun Γ C1 => ?_)
  have C0 := C1.1
  unfold f_X11_pairsOver at hf
  show J_ Γ 0 [(0, vi (x0)), (1, vi (x1))] [] σ 0 0
  refine J_iconst (q := 1) (v := 0) C0 dX11_pairsOver_0 rfl rfl ?_
  refine J_istore_n (q := 2) (lv' := [(2, vi (0)), (0, vi (x0)), (1, vi (x1))]) C0 rfl (G_nl C1 (by decide)) dX11_pairsOver_1 rfl rfl ?_
  refine J_iconst (q := 3) (v := 0) C0 dX11_pairsOver_2 rfl rfl ?_
  refine J_istore_n (q := 4) (lv' := [(3, vi (0)), (2, vi (0)), (0, vi (x0)), (1, vi (x1))]) C0 rfl (G_nl C1 (by decide)) dX11_pairsOver_3 rfl rfl ?_
  refine J_sub (lv' := [(0, vi (x0)), (1, vi (x1)), (2, vi (0)), (3, vi (0))]) [2, 3, 1, 0] rfl ?_
  exact t_X11_pairsOver_L4 C1    N (x0) (x1) (0) (0)  hf
