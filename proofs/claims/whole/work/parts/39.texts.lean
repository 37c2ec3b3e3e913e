/-- a reader of one of the three sorts -/
def is_RR (σ : Sg) (r : Option Nat) : Prop := ∀ b, r = some b → is_A σ b 1 ∨ is_A σ b 3 ∨ is_A σ b 8
theorem is_RR.none {σ : Sg} : is_RR σ none := fun b h => by cases h
def f_X11_readerOf (a0 : Nat) (x1 : Int32) (σ : Sg) : Option ((Option Nat) × Sg) :=
  if (x1) = 0 then
  (Option.bind (sg_R σ a0 2) fun b2 =>
  Option.bind (f_X6_start b2 (sg_R σ a0 0) (sg_I σ a0 1) σ) fun p3 =>
  some (sg_R σ a0 2, p3))
  else
  if (x1) = 1 then
  (Option.bind (sg_R σ a0 3) fun b5 =>
  Option.bind (f_X6_start b5 (sg_R σ a0 0) (sg_I σ a0 1) σ) fun p6 =>
  some (sg_R σ a0 3, p6))
  else
  if (x1) = 2 then
  (Option.bind (sg_R σ a0 4) fun b8 =>
  Option.bind (f_X6_start b8 (sg_R σ a0 0) (sg_I σ a0 1) σ) fun p9 =>
  some (sg_R σ a0 4, p9))
  else
  (some (none, σ))
set_option maxHeartbeats 4000000 in
set_option maxRecDepth 100000 in
theorem t_X11_readerOf (a0 : Nat) (x1 : Int32) {σ : Sg} (hT : sg_T σ) (h0 : is_A σ a0 10) {r : ((Option Nat) × Sg)} (hf : f_X11_readerOf a0 x1 σ = some r) : Ct yX11_readerOf cX11_readerOf 3 (some (.object "SlitDrum$Reader")) 2 43 0 0 [vr (some a0), vi x1] σ (fun r_ τ_ => (r_ = some (vr r.1) ∧ is_RR τ_ r.1) ∧ τ_ = r.2 ∧ sg_T τ_ ∧ sg_E σ τ_) := by
  refine Ct.of (by decide +kernel) (Nat.le_of_ble_eq_true rfl) (fun Γ C1 => ?_)
  have C0 := C1.1
  have hE : sg_E σ σ := sg_E.rf
  unfold f_X11_readerOf at hf
  show J_ Γ 0 [(0, vr (some a0)), (1, vi (x1))] [] σ 0 0
  refine J_null (q := 1) C0 dX11_readerOf_0 rfl ?_
  refine J_astore_n (q := 2) (lv' := [(2, vr (none)), (0, vr (some a0)), (1, vi (x1))]) C0 rfl (G_nl C1 (by decide)) dX11_readerOf_1 rfl trivial rfl ?_
  refine J_iload_n (q := 3) C0 2 rfl rfl dX11_readerOf_2 rfl ?_
  refine K_ite hf (fun c1 hf => ?_) (fun c1 hf => ?_)
  · refine J_tblIn (t := 28) (off := 25) C0 dX11_readerOf_3 (by rw [c1]; decide) (by rw [c1]; decide) (by rw [c1]; rfl) (by decide) ?_
    refine J_aload_n (q := 29) C0 1 rfl rfl dX11_readerOf_28 rfl trivial ?_
    refine J_getR (q := 32) C0 fl_X11_20_10 rfl (h0) rfl dX11_readerOf_29 rfl ?_
    refine J_astore_n (q := 33) (lv' := [(2, vr (sg_R σ a0 2)), (0, vr (some a0)), (1, vi (x1))]) C0 rfl (G_nl C1 (by decide)) dX11_readerOf_32 rfl trivial rfl ?_
    refine J_goto (q := 54) C0 dX11_readerOf_33 (by decide) ?_
    refine J_aload_n (q := 55) C0 0 rfl rfl dX11_readerOf_54 rfl trivial ?_
    refine J_aload_n (q := 56) C0 1 rfl rfl dX11_readerOf_55 rfl trivial ?_
    refine J_getR (q := 59) C0 fl_X11_9_10 rfl (h0) rfl dX11_readerOf_56 rfl ?_
    refine J_aload_n (q := 60) C0 1 rfl rfl dX11_readerOf_59 rfl trivial ?_
    refine J_getI (q := 63) C0 fl_X11_13_10 rfl (h0) rfl dX11_readerOf_60 rfl ?_
    refine K_some hf (fun b2 hb2 hf => ?_)
    have ab2 : is_A σ b2 1 := ((sg_T.op hT (j := 2) (h0) rfl)) b2 hb2
    refine K_some hf (fun p3 hp3 hf => ?_)
    refine J_callU (q := 66) (ci := 1) (as := [vr (sg_R σ a0 0), vi (sg_I σ a0 1)]) (rest := []) C0 hb2 (ab2) (t_X6_start_k1 b2 (sg_R σ a0 0) (sg_I σ a0 1) (hT) (ab2) ((sg_T.op hT (j := 0) (h0) rfl)) hp3) rfl ml_X6_start lk_X11_142 sa_495 im_X6_start se_496 rfl (by decide) dX11_readerOf_63 rfl rfl rfl (by simp [ac_]) C1.room (by decide) (by decide) (by decide) (by decide) (fun r_ τ_ hQ => ?_)
    obtain ⟨rfl, ht_, Tp3, Ep3⟩ := hQ; have ht_ := ht_.symm; subst ht_
    show J_ Γ 66 [(2, vr (sg_R σ a0 2)), (0, vr (some a0)), (1, vi (x1))] [] p3 0 0
    refine J_aload_n (q := 67) C0 0 rfl rfl dX11_readerOf_66 rfl trivial ?_
    have io9 : is_RR p3 (sg_R σ a0 2) := (fun b_ h_ => Or.inl (((by rw [hb2]; exact is_O.some ((Ep3.at ab2))) : is_O p3 (sg_R σ a0 2) 1) b_ h_)); obtain rfl := Option.some.inj hf; exact J_aret C1 dX11_readerOf_67 rfl (Or.inl ⟨_, rfl⟩) (Nat.zero_le _) (Nat.zero_le _) ⟨⟨rfl, io9⟩, rfl, Tp3, (hE).tr Ep3⟩
  refine K_ite hf (fun c4 hf => ?_) (fun c4 hf => ?_)
  · refine J_tblIn (t := 36) (off := 33) C0 dX11_readerOf_3 (by rw [c4]; decide) (by rw [c4]; decide) (by rw [c4]; rfl) (by decide) ?_
    refine J_aload_n (q := 37) C0 1 rfl rfl dX11_readerOf_36 rfl trivial ?_
    refine J_getR (q := 40) C0 fl_X11_27_10 rfl (h0) rfl dX11_readerOf_37 rfl ?_
    refine J_astore_n (q := 41) (lv' := [(2, vr (sg_R σ a0 3)), (0, vr (some a0)), (1, vi (x1))]) C0 rfl (G_nl C1 (by decide)) dX11_readerOf_40 rfl trivial rfl ?_
    refine J_goto (q := 54) C0 dX11_readerOf_41 (by decide) ?_
    refine J_aload_n (q := 55) C0 0 rfl rfl dX11_readerOf_54 rfl trivial ?_
    refine J_aload_n (q := 56) C0 1 rfl rfl dX11_readerOf_55 rfl trivial ?_
    refine J_getR (q := 59) C0 fl_X11_9_10 rfl (h0) rfl dX11_readerOf_56 rfl ?_
    refine J_aload_n (q := 60) C0 1 rfl rfl dX11_readerOf_59 rfl trivial ?_
    refine J_getI (q := 63) C0 fl_X11_13_10 rfl (h0) rfl dX11_readerOf_60 rfl ?_
    refine K_some hf (fun b5 hb5 hf => ?_)
    have ab5 : is_A σ b5 3 := ((sg_T.op hT (j := 3) (h0) rfl)) b5 hb5
    refine K_some hf (fun p6 hp6 hf => ?_)
    refine J_callU (q := 66) (ci := 3) (as := [vr (sg_R σ a0 0), vi (sg_I σ a0 1)]) (rest := []) C0 hb5 (ab5) (t_X6_start_k3 b5 (sg_R σ a0 0) (sg_I σ a0 1) (hT) (ab5) ((sg_T.op hT (j := 0) (h0) rfl)) hp6) rfl ml_X6_start lk_X11_142 sa_495 im_X6_start se_497 rfl (by decide) dX11_readerOf_63 rfl rfl rfl (by simp [ac_]) C1.room (by decide) (by decide) (by decide) (by decide) (fun r_ τ_ hQ => ?_)
    obtain ⟨rfl, ht_, Tp6, Ep6⟩ := hQ; have ht_ := ht_.symm; subst ht_
    show J_ Γ 66 [(2, vr (sg_R σ a0 3)), (0, vr (some a0)), (1, vi (x1))] [] p6 0 0
    refine J_aload_n (q := 67) C0 0 rfl rfl dX11_readerOf_66 rfl trivial ?_
    have io9 : is_RR p6 (sg_R σ a0 3) := (fun b_ h_ => Or.inr (Or.inl (((by rw [hb5]; exact is_O.some ((Ep6.at ab5))) : is_O p6 (sg_R σ a0 3) 3) b_ h_))); obtain rfl := Option.some.inj hf; exact J_aret C1 dX11_readerOf_67 rfl (Or.inl ⟨_, rfl⟩) (Nat.zero_le _) (Nat.zero_le _) ⟨⟨rfl, io9⟩, rfl, Tp6, (hE).tr Ep6⟩
  refine K_ite hf (fun c7 hf => ?_) (fun c7 hf => ?_)
  · refine J_tblIn (t := 44) (off := 41) C0 dX11_readerOf_3 (by rw [c7]; decide) (by rw [c7]; decide) (by rw [c7]; rfl) (by decide) ?_
    refine J_aload_n (q := 45) C0 1 rfl rfl dX11_readerOf_44 rfl trivial ?_
    refine J_getR (q := 48) C0 fl_X11_34_10 rfl (h0) rfl dX11_readerOf_45 rfl ?_
    refine J_astore_n (q := 49) (lv' := [(2, vr (sg_R σ a0 4)), (0, vr (some a0)), (1, vi (x1))]) C0 rfl (G_nl C1 (by decide)) dX11_readerOf_48 rfl trivial rfl ?_
    refine J_goto (q := 54) C0 dX11_readerOf_49 (by decide) ?_
    refine J_aload_n (q := 55) C0 0 rfl rfl dX11_readerOf_54 rfl trivial ?_
    refine J_aload_n (q := 56) C0 1 rfl rfl dX11_readerOf_55 rfl trivial ?_
    refine J_getR (q := 59) C0 fl_X11_9_10 rfl (h0) rfl dX11_readerOf_56 rfl ?_
    refine J_aload_n (q := 60) C0 1 rfl rfl dX11_readerOf_59 rfl trivial ?_
    refine J_getI (q := 63) C0 fl_X11_13_10 rfl (h0) rfl dX11_readerOf_60 rfl ?_
    refine K_some hf (fun b8 hb8 hf => ?_)
    have ab8 : is_A σ b8 8 := ((sg_T.op hT (j := 4) (h0) rfl)) b8 hb8
    refine K_some hf (fun p9 hp9 hf => ?_)
    refine J_callU (q := 66) (ci := 8) (as := [vr (sg_R σ a0 0), vi (sg_I σ a0 1)]) (rest := []) C0 hb8 (ab8) (t_X6_start_k8 b8 (sg_R σ a0 0) (sg_I σ a0 1) (hT) (ab8) ((sg_T.op hT (j := 0) (h0) rfl)) hp9) rfl ml_X6_start lk_X11_142 sa_495 im_X6_start se_498 rfl (by decide) dX11_readerOf_63 rfl rfl rfl (by simp [ac_]) C1.room (by decide) (by decide) (by decide) (by decide) (fun r_ τ_ hQ => ?_)
    obtain ⟨rfl, ht_, Tp9, Ep9⟩ := hQ; have ht_ := ht_.symm; subst ht_
    show J_ Γ 66 [(2, vr (sg_R σ a0 4)), (0, vr (some a0)), (1, vi (x1))] [] p9 0 0
    refine J_aload_n (q := 67) C0 0 rfl rfl dX11_readerOf_66 rfl trivial ?_
    have io9 : is_RR p9 (sg_R σ a0 4) := (fun b_ h_ => Or.inr (Or.inr (((by rw [hb8]; exact is_O.some ((Ep9.at ab8))) : is_O p9 (sg_R σ a0 4) 8) b_ h_))); obtain rfl := Option.some.inj hf; exact J_aret C1 dX11_readerOf_67 rfl (Or.inl ⟨_, rfl⟩) (Nat.zero_le _) (Nat.zero_le _) ⟨⟨rfl, io9⟩, rfl, Tp9, (hE).tr Ep9⟩
  refine J_tblOut (t := 52) C0 dX11_readerOf_3 (by have tc1 := lv_neT c1 (a := 0) (by decide); have tc4 := lv_neT c4 (a := 1) (by decide); have tc7 := lv_neT c7 (a := 2) (by decide); omega) (by decide) ?_
  refine J_null (q := 53) C0 dX11_readerOf_52 rfl ?_
  have io9 : is_RR σ (none) := is_RR.none; obtain rfl := Option.some.inj hf; exact J_aret C1 dX11_readerOf_53 rfl (Or.inl ⟨_, rfl⟩) (Nat.zero_le _) (Nat.zero_le _) ⟨⟨rfl, io9⟩, rfl, hT, hE⟩
def f_X11_fault (N : Nat) (a0 : Nat) (x1 : Int32) (σ : Sg) : Option (Int32 × Sg) :=
  Option.bind (f_X11_readerOf a0 (x1) σ) fun p1 =>
  match p1.1 with
  | none => (some ((-2), p1.2))
  | some b2 => (if sg_K p1.2 b2 = 1 then
  (Option.bind (f_X1_isWhole N b2 p1.2) fun p4 =>
  if (p4.1) = (0) then
  (some (sg_I p4.2 b2 2, p4.2))
  else
  (some ((-1), p4.2)))
  else
  (if sg_K p1.2 b2 = 3 then
  (Option.bind (f_X3_isWhole N b2 p1.2) fun p6 =>
  if (p6.1) = (0) then
  (some (sg_I p6.2 b2 2, p6.2))
  else
  (some ((-1), p6.2)))
  else
  (Option.bind (f_X9_isWhole N b2 p1.2) fun p8 =>
  if (p8.1) = (0) then
  (some (sg_I p8.2 b2 2, p8.2))
  else
  (some ((-1), p8.2)))))
set_option maxHeartbeats 4000000 in
set_option maxRecDepth 100000 in
theorem t_X11_fault (N : Nat) (a0 : Nat) (x1 : Int32) {σ : Sg} (hT : sg_T σ) (h0 : is_A σ a0 10) {r : (Int32 × Sg)} (hf : f_X11_fault N a0 x1 σ = some r) : Ct yX11_fault cX11_fault 3 (some .int) 409 9798 0 0 [vr (some a0), vi x1] σ (fun r_ τ_ => (r_ = some (vi r.1)) ∧ τ_ = r.2 ∧ sg_T τ_ ∧ sg_E σ τ_) := by
  refine Ct.of (by decide +kernel) (Nat.le_of_ble_eq_true rfl) (fun Γ C1 => ?_)
  have C0 := C1.1
  have hE : sg_E σ σ := sg_E.rf
  unfold f_X11_fault at hf
  show J_ Γ 0 [(0, vr (some a0)), (1, vi (x1))] [] σ 0 0
  refine J_aload_n (q := 1) C0 0 rfl rfl dX11_fault_0 rfl trivial ?_
  refine J_iload_n (q := 2) C0 1 rfl rfl dX11_fault_1 rfl ?_
  refine K_some hf (fun p1 hp1 hf => ?_)
  refine J_callV (q := 5) (ci := 10) (as := [vi (x1)]) (rest := []) C0 rfl (h0) (t_X11_readerOf a0 (x1) (hT) (h0)  hp1) ml_X11_readerOf lk_X11_119 im_X11_readerOf se_X11_readerOf rfl (by decide) dX11_fault_2 rfl rfl rfl (by simp [ac_]) C1.room (by decide) (by decide) (by decide) (by decide) (fun r_ τ_ hQ => ?_)
  obtain ⟨⟨rfl, op1⟩, rfl, Tp1, Ep1⟩ := hQ
  show J_ Γ 5 [(0, vr (some a0)), (1, vi (x1))] [vr (p1.1)] p1.2 0 0
  refine J_astore_n (q := 6) (lv' := [(2, vr (p1.1)), (0, vr (some a0)), (1, vi (x1))]) C0 rfl (G_nl C1 (by decide)) dX11_fault_5 rfl trivial rfl ?_
  refine J_aload_n (q := 7) C0 0 rfl rfl dX11_fault_6 rfl trivial ?_
  refine J_ifnonnull (t := 13) (q := 10) C0 dX11_fault_7 (by decide) rfl (fun b2 hn3 => ?_) (fun hn3 => ?_)
  · rw [hn3] at hf
    refine J_aload_n (q := 14) C0 0 rfl rfl dX11_fault_13 rfl trivial ?_
    have ar_ : is_A p1.2 b2 1 ∨ is_A p1.2 b2 3 ∨ is_A p1.2 b2 8 := (op1) b2 hn3
    have al_ : b2 < sg_N p1.2 := ar_.elim (fun h => h.1) (fun h => h.elim (fun h => h.1) (fun h => h.1))
    refine K_ite hf (fun ck1 hf => ?_) (fun ck1 hf => ?_)
    · have ak_1 : is_A p1.2 b2 1 := ⟨al_, ck1⟩
      refine K_some hf (fun p4 hp4 hf => ?_)
      refine J_callA (q := 17) (ci := 1) (rest := []) C0 rfl hn3 ak_1 (t_X1_isWhole N b2 (Tp1) (ak_1) hp4) ml_X1_isWhole lk_X11_123 sa_505 im_X1_isWhole se_506 rfl (by decide) dX11_fault_14 rfl rfl (by simp [ac_]) C1.room (by decide) (by decide) (by decide) (by decide) (fun r_ τ_ hQ => ?_)
      obtain ⟨⟨rfl, zp4⟩, rfl, Tp4, Ep4⟩ := hQ
      show J_ Γ 17 [(2, vr (p1.1)), (0, vr (some a0)), (1, vi (x1))] [vi (p4.1)] p4.2 0 0
      refine J_if_eq (t := 24) (q := 20) C0 dX11_fault_17 (by decide) rfl hf (fun c5 hf => ?_) (fun c5 hf => ?_)
      · refine J_aload_n (q := 25) C0 0 rfl rfl dX11_fault_24 rfl trivial ?_
        refine J_getI (q := 28) C0 fl_X11_129_1 hn3 ((Ep4.at ak_1)) rfl dX11_fault_25 rfl ?_
        obtain rfl := Option.some.inj hf; exact J_iret C1 dX11_fault_28 rfl (Nat.zero_le _) (Nat.zero_le _) ⟨rfl, rfl, Tp4, ((hE).tr Ep1).tr Ep4⟩
      · refine J_iconst (q := 21) (v := (-1)) C0 dX11_fault_20 rfl rfl ?_
        refine J_goto (q := 28) C0 dX11_fault_21 (by decide) ?_
        obtain rfl := Option.some.inj hf; exact J_iret C1 dX11_fault_28 rfl (Nat.zero_le _) (Nat.zero_le _) ⟨rfl, rfl, Tp4, ((hE).tr Ep1).tr Ep4⟩
    · refine K_ite hf (fun ck3 hf => ?_) (fun ck3 hf => ?_)
      · have ak_3 : is_A p1.2 b2 3 := ⟨al_, ck3⟩
        refine K_some hf (fun p6 hp6 hf => ?_)
        refine J_callA (q := 17) (ci := 3) (rest := []) C0 rfl hn3 ak_3 (t_X3_isWhole N b2 (Tp1) (ak_3) hp6) ml_X3_isWhole lk_X11_123 sa_505 im_X3_isWhole se_646 rfl (by decide) dX11_fault_14 rfl rfl (by simp [ac_]) C1.room (by decide) (by decide) (by decide) (by decide) (fun r_ τ_ hQ => ?_)
        obtain ⟨⟨rfl, zp6⟩, rfl, Tp6, Ep6⟩ := hQ
        show J_ Γ 17 [(2, vr (p1.1)), (0, vr (some a0)), (1, vi (x1))] [vi (p6.1)] p6.2 0 0
        refine J_if_eq (t := 24) (q := 20) C0 dX11_fault_17 (by decide) rfl hf (fun c7 hf => ?_) (fun c7 hf => ?_)
        · refine J_aload_n (q := 25) C0 0 rfl rfl dX11_fault_24 rfl trivial ?_
          refine J_getI (q := 28) C0 fl_X11_129_3 hn3 ((Ep6.at ak_3)) rfl dX11_fault_25 rfl ?_
          obtain rfl := Option.some.inj hf; exact J_iret C1 dX11_fault_28 rfl (Nat.zero_le _) (Nat.zero_le _) ⟨rfl, rfl, Tp6, ((hE).tr Ep1).tr Ep6⟩
        · refine J_iconst (q := 21) (v := (-1)) C0 dX11_fault_20 rfl rfl ?_
          refine J_goto (q := 28) C0 dX11_fault_21 (by decide) ?_
          obtain rfl := Option.some.inj hf; exact J_iret C1 dX11_fault_28 rfl (Nat.zero_le _) (Nat.zero_le _) ⟨rfl, rfl, Tp6, ((hE).tr Ep1).tr Ep6⟩
      · have ak_8 : is_A p1.2 b2 8 := ar_.elim (fun h => absurd h.2 ck1) (fun h => h.elim (fun h => absurd h.2 ck3) id)
        refine K_some hf (fun p8 hp8 hf => ?_)
        refine J_callA (q := 17) (ci := 8) (rest := []) C0 rfl hn3 ak_8 (t_X9_isWhole N b2 (Tp1) (ak_8) hp8) ml_X9_isWhole lk_X11_123 sa_505 im_X9_isWhole se_718 rfl (by decide) dX11_fault_14 rfl rfl (by simp [ac_]) C1.room (by decide) (by decide) (by decide) (by decide) (fun r_ τ_ hQ => ?_)
        obtain ⟨⟨rfl, zp8⟩, rfl, Tp8, Ep8⟩ := hQ
        show J_ Γ 17 [(2, vr (p1.1)), (0, vr (some a0)), (1, vi (x1))] [vi (p8.1)] p8.2 0 0
        refine J_if_eq (t := 24) (q := 20) C0 dX11_fault_17 (by decide) rfl hf (fun c9 hf => ?_) (fun c9 hf => ?_)
        · refine J_aload_n (q := 25) C0 0 rfl rfl dX11_fault_24 rfl trivial ?_
          refine J_getI (q := 28) C0 fl_X11_129_8 hn3 ((Ep8.at ak_8)) rfl dX11_fault_25 rfl ?_
          obtain rfl := Option.some.inj hf; exact J_iret C1 dX11_fault_28 rfl (Nat.zero_le _) (Nat.zero_le _) ⟨rfl, rfl, Tp8, ((hE).tr Ep1).tr Ep8⟩
        · refine J_iconst (q := 21) (v := (-1)) C0 dX11_fault_20 rfl rfl ?_
          refine J_goto (q := 28) C0 dX11_fault_21 (by decide) ?_
          obtain rfl := Option.some.inj hf; exact J_iret C1 dX11_fault_28 rfl (Nat.zero_le _) (Nat.zero_le _) ⟨rfl, rfl, Tp8, ((hE).tr Ep1).tr Ep8⟩
  · rw [hn3] at hf
    refine J_bipush (q := 12) (v := (-2)) C0 dX11_fault_10 rfl rfl ?_
    obtain rfl := Option.some.inj hf; exact J_iret C1 dX11_fault_12 rfl (Nat.zero_le _) (Nat.zero_le _) ⟨rfl, rfl, Tp1, (hE).tr Ep1⟩
def f_X11_text_B46 (N : Nat) (a0 : Nat) (s0 : Int32) (σ : Sg) : Option (Int32 × Sg) :=
  if (s0) = ((-1)) then
  (some (s0, σ))
  else
  (some (s0, put_I σ a0 1 (0)))
def f_X11_text_B39 (N : Nat) (a0 : Nat) (s0 : Int32) (σ : Sg) : Option (Int32 × Sg) :=
  f_X11_text_B46 N a0 (s0) σ
def f_X11_text (N : Nat) (a0 : Nat) (x1 : Int32) (σ : Sg) : Option (Int32 × Sg) :=
  Option.bind (f_X11_readerOf a0 (x1) σ) fun p1 =>
  match p1.1 with
  | none => (some ((-1), p1.2))
  | some b3 => (if sg_K p1.2 b3 = 1 then
  (Option.bind (f_X1_isWhole N b3 p1.2) fun p5 =>
  if (p5.1) = (0) then
  (some ((-1), p5.2))
  else
  (if (x1) = (0) then
  (Option.bind (f_X11_tellLantern N a0  p5.2) fun p15 =>
  f_X11_text_B46 N a0 (p15.1) (p15.2))
  else
  (if (x1) = (1) then
  (Option.bind (f_X11_tellLaw a0  p5.2) fun p13 =>
  f_X11_text_B39 N a0 (p13.1) (p13.2))
  else
  (Option.bind (f_X11_tellStrip a0  p5.2) fun p10 =>
  f_X11_text_B46 N a0 (p10.1) (p10.2)))))
  else
  (if sg_K p1.2 b3 = 3 then
  (Option.bind (f_X3_isWhole N b3 p1.2) fun p17 =>
  if (p17.1) = (0) then
  (some ((-1), p17.2))
  else
  (if (x1) = (0) then
  (Option.bind (f_X11_tellLantern N a0  p17.2) fun p26 =>
  f_X11_text_B46 N a0 (p26.1) (p26.2))
  else
  (if (x1) = (1) then
  (Option.bind (f_X11_tellLaw a0  p17.2) fun p24 =>
  f_X11_text_B39 N a0 (p24.1) (p24.2))
  else
  (Option.bind (f_X11_tellStrip a0  p17.2) fun p22 =>
  f_X11_text_B46 N a0 (p22.1) (p22.2)))))
  else
  (Option.bind (f_X9_isWhole N b3 p1.2) fun p28 =>
  if (p28.1) = (0) then
  (some ((-1), p28.2))
  else
  (if (x1) = (0) then
  (Option.bind (f_X11_tellLantern N a0  p28.2) fun p37 =>
  f_X11_text_B46 N a0 (p37.1) (p37.2))
  else
  (if (x1) = (1) then
  (Option.bind (f_X11_tellLaw a0  p28.2) fun p35 =>
  f_X11_text_B39 N a0 (p35.1) (p35.2))
  else
  (Option.bind (f_X11_tellStrip a0  p28.2) fun p33 =>
  f_X11_text_B46 N a0 (p33.1) (p33.2)))))))
set_option maxHeartbeats 4000000 in
set_option maxRecDepth 100000 in
theorem e_X11_text_B46 {N : Nat} {a0 : Nat} {r : (Int32 × Sg)} {s0 : Int32} {σ : Sg} (hf : f_X11_text_B46 N a0  s0 σ = some r) : sg_E σ r.2 := by
  unfold f_X11_text_B46 at hf
  refine K_ite hf (fun c_ hf => ?_) (fun c_ hf => ?_)
  · obtain rfl := Option.some.inj hf; exact sg_E.rf
  · obtain rfl := Option.some.inj hf; exact (sg_E.rf).putI
set_option maxHeartbeats 4000000 in
set_option maxRecDepth 100000 in
theorem e_X11_text_B39 {N : Nat} {a0 : Nat} {r : (Int32 × Sg)} {s0 : Int32} {σ : Sg} (hf : f_X11_text_B39 N a0  s0 σ = some r) : sg_E σ r.2 := by
  unfold f_X11_text_B39 at hf
  exact (sg_E.rf).tr (e_X11_text_B46  hf)
set_option maxHeartbeats 4000000 in
set_option maxRecDepth 100000 in
theorem t_X11_text_B46 {N : Nat} {a0 : Nat} {Γ : Gm} {σ0 : Sg} {r : (Int32 × Sg)} {mc ms : Nat} (C1 : CM Γ cX11_text RX11 4 (some .int) 409 9798 mc ms (fun r_ τ_ => (r_ = some (vi r.1)) ∧ τ_ = r.2 ∧ sg_T τ_ ∧ sg_E σ0 τ_)) (s0 : Int32) (σ : Sg) (hT : sg_T σ) (hE : sg_E σ0 σ) (h0 : is_A σ a0 10) (k_ n_ : Nat) (hc : (k_ + sg_N r.2 ≤ mc + sg_N σ ∧ n_ + sg_S r.2 ≤ ms + sg_S σ)) (hf : f_X11_text_B46 N a0  s0 σ = some r) : J_ Γ 46 [(0, vr (some a0))] [vi (s0)] σ k_ n_ := by
  have C0 := C1.1
  unfold f_X11_text_B46 at hf
  refine J_istore_n (q := 47) (lv' := [(3, vi (s0)), (0, vr (some a0))]) C0 rfl (G_nl C1 (by decide)) dX11_text_46 rfl rfl ?_
  refine J_iload_n (q := 48) C0 0 rfl rfl dX11_text_47 rfl ?_
  refine J_iconst (q := 49) (v := (-1)) C0 dX11_text_48 rfl rfl ?_
  refine J_icmp_eq (t := 57) (q := 52) C0 dX11_text_49 (by decide) rfl hf (fun c12 hf => ?_) (fun c12 hf => ?_)
  · refine J_iload_n (q := 58) C0 0 rfl rfl dX11_text_57 rfl ?_
    obtain rfl := Option.some.inj hf; exact J_iret C1 dX11_text_58 rfl (by have h9 : k_ + sg_N σ ≤ mc + sg_N σ ∧ n_ + sg_S σ ≤ ms + sg_S σ := hc; omega) (by have h9 : k_ + sg_N σ ≤ mc + sg_N σ ∧ n_ + sg_S σ ≤ ms + sg_S σ := hc; omega) ⟨rfl, rfl, hT, hE⟩
  · refine J_aload_n (q := 53) C0 1 rfl rfl dX11_text_52 rfl trivial ?_
    refine J_iconst (q := 54) (v := 0) C0 dX11_text_53 rfl rfl ?_
    refine J_putI (q := 57) C0 fl_X11_13_10 rfl (h0) rfl dX11_text_54 rfl ?_
    refine J_iload_n (q := 58) C0 0 rfl rfl dX11_text_57 rfl ?_
    obtain rfl := Option.some.inj hf; exact J_iret C1 dX11_text_58 rfl (by have h9 : k_ + sg_N (put_I σ a0 1 (0)) ≤ mc + sg_N (put_I σ a0 1 (0)) ∧ n_ + sg_S (put_I σ a0 1 (0)) ≤ ms + sg_S (put_I σ a0 1 (0)) := hc; omega) (by have h9 : k_ + sg_N (put_I σ a0 1 (0)) ≤ mc + sg_N (put_I σ a0 1 (0)) ∧ n_ + sg_S (put_I σ a0 1 (0)) ≤ ms + sg_S (put_I σ a0 1 (0)) := hc; omega) ⟨rfl, rfl, (hT).putI, (hE).putI⟩
set_option maxHeartbeats 4000000 in
set_option maxRecDepth 100000 in
theorem t_X11_text_B39 {N : Nat} {a0 : Nat} {Γ : Gm} {σ0 : Sg} {r : (Int32 × Sg)} {mc ms : Nat} (C1 : CM Γ cX11_text RX11 4 (some .int) 409 9798 mc ms (fun r_ τ_ => (r_ = some (vi r.1)) ∧ τ_ = r.2 ∧ sg_T τ_ ∧ sg_E σ0 τ_)) (s0 : Int32) (σ : Sg) (hT : sg_T σ) (hE : sg_E σ0 σ) (h0 : is_A σ a0 10) (k_ n_ : Nat) (hc : (k_ + sg_N r.2 ≤ mc + sg_N σ ∧ n_ + sg_S r.2 ≤ ms + sg_S σ)) (hf : f_X11_text_B39 N a0  s0 σ = some r) : J_ Γ 39 [(0, vr (some a0))] [vi (s0)] σ k_ n_ := by
  have C0 := C1.1
  unfold f_X11_text_B39 at hf
  refine J_goto (q := 46) C0 dX11_text_39 (by decide) ?_
  exact t_X11_text_B46 C1    (s0) σ (hT) (hE) (h0)  (k_) (n_) hc hf
set_option maxHeartbeats 4000000 in
set_option maxRecDepth 100000 in
theorem t_X11_text (N : Nat) (a0 : Nat) (x1 : Int32) {σ : Sg} (hT : sg_T σ) (h0 : is_A σ a0 10) {r : (Int32 × Sg)} (hf : f_X11_text N a0 x1 σ = some r) {mc ms : Nat} (hc : sg_N r.2 ≤ mc + sg_N σ ∧ sg_S r.2 ≤ ms + sg_S σ) : Ct yX11_text cX11_text 4 (some .int) 409 9798 mc ms [vr (some a0), vi x1] σ (fun r_ τ_ => (r_ = some (vi r.1)) ∧ τ_ = r.2 ∧ sg_T τ_ ∧ sg_E σ τ_) := by
  refine Ct.of (by decide +kernel) (Nat.le_of_ble_eq_true rfl) (fun Γ C1 => ?_)
  have C0 := C1.1
  obtain ⟨k_, hk0⟩ : ∃ t : Nat, t = 0 := ⟨_, rfl⟩
  obtain ⟨n_, hn0⟩ : ∃ t : Nat, t = 0 := ⟨_, rfl⟩
  have hc : k_ + sg_N r.2 ≤ mc + sg_N σ ∧ n_ + sg_S r.2 ≤ ms + sg_S σ := by omega
  have hE : sg_E σ σ := sg_E.rf
  unfold f_X11_text at hf
  have goal9 : J_ Γ 0 [(0, vr (some a0)), (1, vi (x1))] [] σ k_ n_ := by
    refine J_aload_n (q := 1) C0 0 rfl rfl dX11_text_0 rfl trivial ?_
    refine J_iload_n (q := 2) C0 1 rfl rfl dX11_text_1 rfl ?_
    refine K_some hf (fun p1 hp1 hf => ?_)
    refine J_callV (q := 5) (ci := 10) (as := [vi (x1)]) (rest := []) C0 rfl (h0) (t_X11_readerOf a0 (x1) (hT) (h0)  hp1) ml_X11_readerOf lk_X11_119 im_X11_readerOf se_X11_readerOf rfl (by decide) dX11_text_2 rfl rfl rfl (by simp [ac_]) C1.room (by decide) (by decide) (by omega) (by omega) (fun r_ τ_ hQ => ?_)
    obtain ⟨⟨rfl, op1⟩, rfl, Tp1, Ep1⟩ := hQ
    have hc2 : k_ + sg_N r.2 ≤ mc + sg_N p1.2 ∧ n_ + sg_S r.2 ≤ ms + sg_S p1.2 := by have := Ep1.1; have := Ep1.slots; have := (show k_ + sg_N r.2 ≤ mc + sg_N σ ∧ n_ + sg_S r.2 ≤ ms + sg_S σ from hc); omega
    show J_ Γ 5 [(0, vr (some a0)), (1, vi (x1))] [vr (p1.1)] p1.2 k_ n_
    refine J_astore_n (q := 6) (lv' := [(2, vr (p1.1)), (0, vr (some a0)), (1, vi (x1))]) C0 rfl (G_nl C1 (by decide)) dX11_text_5 rfl trivial rfl ?_
    refine J_aload_n (q := 7) C0 0 rfl rfl dX11_text_6 rfl trivial ?_
    refine J_ifnull (t := 17) (q := 10) C0 dX11_text_7 (by decide) rfl (fun hn4 => ?_) (fun b3 hn4 => ?_)
    · rw [hn4] at hf
      refine J_iconst (q := 18) (v := (-1)) C0 dX11_text_17 rfl rfl ?_
      obtain rfl := Option.some.inj hf; exact J_iret C1 dX11_text_18 rfl (by have h9 : k_ + sg_N p1.2 ≤ mc + sg_N p1.2 ∧ n_ + sg_S p1.2 ≤ ms + sg_S p1.2 := hc2; omega) (by have h9 : k_ + sg_N p1.2 ≤ mc + sg_N p1.2 ∧ n_ + sg_S p1.2 ≤ ms + sg_S p1.2 := hc2; omega) ⟨rfl, rfl, Tp1, (hE).tr Ep1⟩
    · rw [hn4] at hf
      refine J_aload_n (q := 11) C0 0 rfl rfl dX11_text_10 rfl trivial ?_
      have ar_ : is_A p1.2 b3 1 ∨ is_A p1.2 b3 3 ∨ is_A p1.2 b3 8 := (op1) b3 hn4
      have al_ : b3 < sg_N p1.2 := ar_.elim (fun h => h.1) (fun h => h.elim (fun h => h.1) (fun h => h.1))
      refine K_ite hf (fun ck1 hf => ?_) (fun ck1 hf => ?_)
      · have ak_1 : is_A p1.2 b3 1 := ⟨al_, ck1⟩
        refine K_some hf (fun p5 hp5 hf => ?_)
        refine J_callA (q := 14) (ci := 1) (rest := []) C0 rfl hn4 ak_1 (t_X1_isWhole N b3 (Tp1) (ak_1) hp5) ml_X1_isWhole lk_X11_123 sa_505 im_X1_isWhole se_506 rfl (by decide) dX11_text_11 rfl rfl (by simp [ac_]) C1.room (by decide) (by decide) (by omega) (by omega) (fun r_ τ_ hQ => ?_)
        obtain ⟨⟨rfl, zp5⟩, rfl, Tp5, Ep5⟩ := hQ
        have hc6 : k_ + sg_N r.2 ≤ mc + sg_N p5.2 ∧ n_ + sg_S r.2 ≤ ms + sg_S p5.2 := by have := Ep5.1; have := Ep5.slots; have := (show k_ + sg_N r.2 ≤ mc + sg_N p1.2 ∧ n_ + sg_S r.2 ≤ ms + sg_S p1.2 from hc2); omega
        show J_ Γ 14 [(2, vr (p1.1)), (0, vr (some a0)), (1, vi (x1))] [vi (p5.1)] p5.2 k_ n_
        refine J_if_ne (t := 19) (q := 17) C0 dX11_text_14 (by decide) rfl hf (fun c7 hf => ?_) (fun c7 hf => ?_)
        · refine J_iload_n (q := 20) C0 2 rfl rfl dX11_text_19 rfl ?_
          refine J_if_ne (t := 30) (q := 23) C0 dX11_text_20 (by decide) rfl hf (fun c8 hf => ?_) (fun c8 hf => ?_)
          · refine J_iload_n (q := 31) C0 2 rfl rfl dX11_text_30 rfl ?_
            refine J_iconst (q := 32) (v := 1) C0 dX11_text_31 rfl rfl ?_
            refine J_icmp_ne (t := 42) (q := 35) C0 dX11_text_32 (by decide) rfl hf (fun c9 hf => ?_) (fun c9 hf => ?_)
            · refine J_aload_n (q := 43) C0 1 rfl rfl dX11_text_42 rfl trivial ?_
              refine K_some hf (fun p10 hp10 hf => ?_)
              have hm_ := e_X11_text_B46  hf
              have he_ := e_X11_tellStrip hp10
              have hk_ : k_ + (sg_N p10.2 - sg_N p5.2) ≤ mc ∧ n_ + (sg_S p10.2 - sg_S p5.2) ≤ ms := by have := hm_.1; have := hm_.slots; have := he_.1; have := he_.slots; have := (show k_ + sg_N r.2 ≤ mc + sg_N p5.2 ∧ n_ + sg_S r.2 ≤ ms + sg_S p5.2 from hc6); omega
              refine J_callV (q := 46) (ci := 10) (as := []) (rest := []) C0 rfl ((Ep5.at (Ep1.at h0))) (t_X11_tellStrip a0  (Tp5) ((Ep5.at (Ep1.at h0)))  hp10 (mc := sg_N p10.2 - sg_N p5.2) (ms := sg_S p10.2 - sg_S p5.2) (by have h7 := e_X11_tellStrip hp10; have := h7.1; have := h7.slots; omega)) ml_X11_tellStrip lk_X11_139 im_X11_tellStrip se_X11_tellStrip rfl (by decide) dX11_text_43 rfl rfl rfl (by simp [ac_]) C1.room (by decide) (by decide) hk_.1 hk_.2 (fun r_ τ_ hQ => ?_)
              obtain ⟨rfl, rfl, Tp10, Ep10⟩ := hQ
              have hc11 : (k_ + (sg_N p10.2 - sg_N p5.2)) + sg_N r.2 ≤ mc + sg_N p10.2 ∧ (n_ + (sg_S p10.2 - sg_S p5.2)) + sg_S r.2 ≤ ms + sg_S p10.2 := by have := he_.1; have := he_.slots; have := (show k_ + sg_N r.2 ≤ mc + sg_N p5.2 ∧ n_ + sg_S r.2 ≤ ms + sg_S p5.2 from hc6); omega
              show J_ Γ 46 [(2, vr (p1.1)), (0, vr (some a0)), (1, vi (x1))] [vi (p10.1)] p10.2 (k_ + (sg_N p10.2 - sg_N p5.2)) (n_ + (sg_S p10.2 - sg_S p5.2))
              refine J_sub (lv' := [(0, vr (some a0))]) [1] rfl ?_
              exact t_X11_text_B46 C1    (p10.1) (p10.2) (Tp10) ((((hE).tr Ep1).tr Ep5).tr Ep10) ((Ep10.at (Ep5.at (Ep1.at h0))))  ((k_ + (sg_N p10.2 - sg_N p5.2))) ((n_ + (sg_S p10.2 - sg_S p5.2))) hc11 hf
            · refine J_aload_n (q := 36) C0 1 rfl rfl dX11_text_35 rfl trivial ?_
              refine K_some hf (fun p13 hp13 hf => ?_)
              have hm_ := e_X11_text_B39  hf
              have he_ := e_X11_tellLaw hp13
              have hk_ : k_ + (sg_N p13.2 - sg_N p5.2) ≤ mc ∧ n_ + (sg_S p13.2 - sg_S p5.2) ≤ ms := by have := hm_.1; have := hm_.slots; have := he_.1; have := he_.slots; have := (show k_ + sg_N r.2 ≤ mc + sg_N p5.2 ∧ n_ + sg_S r.2 ≤ ms + sg_S p5.2 from hc6); omega
              refine J_callV (q := 39) (ci := 10) (as := []) (rest := []) C0 rfl ((Ep5.at (Ep1.at h0))) (t_X11_tellLaw a0  (Tp5) ((Ep5.at (Ep1.at h0)))  hp13 (mc := sg_N p13.2 - sg_N p5.2) (ms := sg_S p13.2 - sg_S p5.2) (by have h7 := e_X11_tellLaw hp13; have := h7.1; have := h7.slots; omega)) ml_X11_tellLaw lk_X11_136 im_X11_tellLaw se_X11_tellLaw rfl (by decide) dX11_text_36 rfl rfl rfl (by simp [ac_]) C1.room (by decide) (by decide) hk_.1 hk_.2 (fun r_ τ_ hQ => ?_)
              obtain ⟨rfl, rfl, Tp13, Ep13⟩ := hQ
              have hc14 : (k_ + (sg_N p13.2 - sg_N p5.2)) + sg_N r.2 ≤ mc + sg_N p13.2 ∧ (n_ + (sg_S p13.2 - sg_S p5.2)) + sg_S r.2 ≤ ms + sg_S p13.2 := by have := he_.1; have := he_.slots; have := (show k_ + sg_N r.2 ≤ mc + sg_N p5.2 ∧ n_ + sg_S r.2 ≤ ms + sg_S p5.2 from hc6); omega
              show J_ Γ 39 [(2, vr (p1.1)), (0, vr (some a0)), (1, vi (x1))] [vi (p13.1)] p13.2 (k_ + (sg_N p13.2 - sg_N p5.2)) (n_ + (sg_S p13.2 - sg_S p5.2))
              refine J_sub (lv' := [(0, vr (some a0))]) [1] rfl ?_
              exact t_X11_text_B39 C1    (p13.1) (p13.2) (Tp13) ((((hE).tr Ep1).tr Ep5).tr Ep13) ((Ep13.at (Ep5.at (Ep1.at h0))))  ((k_ + (sg_N p13.2 - sg_N p5.2))) ((n_ + (sg_S p13.2 - sg_S p5.2))) hc14 hf
          · refine J_aload_n (q := 24) C0 1 rfl rfl dX11_text_23 rfl trivial ?_
            refine K_some hf (fun p15 hp15 hf => ?_)
            refine J_callV (q := 27) (ci := 10) (as := []) (rest := []) C0 rfl ((Ep5.at (Ep1.at h0))) (t_X11_tellLantern N a0  (Tp5) ((Ep5.at (Ep1.at h0)))  hp15) ml_X11_tellLantern lk_X11_132 im_X11_tellLantern se_X11_tellLantern rfl (by decide) dX11_text_24 rfl rfl rfl (by simp [ac_]) C1.room (by decide) (by decide) (by omega) (by omega) (fun r_ τ_ hQ => ?_)
            obtain ⟨rfl, rfl, Tp15, Ep15⟩ := hQ
            have hc16 : k_ + sg_N r.2 ≤ mc + sg_N p15.2 ∧ n_ + sg_S r.2 ≤ ms + sg_S p15.2 := by have := Ep15.1; have := Ep15.slots; have := (show k_ + sg_N r.2 ≤ mc + sg_N p5.2 ∧ n_ + sg_S r.2 ≤ ms + sg_S p5.2 from hc6); omega
            show J_ Γ 27 [(2, vr (p1.1)), (0, vr (some a0)), (1, vi (x1))] [vi (p15.1)] p15.2 k_ n_
            refine J_goto (q := 46) C0 dX11_text_27 (by decide) ?_
            refine J_sub (lv' := [(0, vr (some a0))]) [1] rfl ?_
            exact t_X11_text_B46 C1    (p15.1) (p15.2) (Tp15) ((((hE).tr Ep1).tr Ep5).tr Ep15) ((Ep15.at (Ep5.at (Ep1.at h0))))  (k_) (n_) hc16 hf
        · refine J_iconst (q := 18) (v := (-1)) C0 dX11_text_17 rfl rfl ?_
          obtain rfl := Option.some.inj hf; exact J_iret C1 dX11_text_18 rfl (by have h9 : k_ + sg_N p5.2 ≤ mc + sg_N p5.2 ∧ n_ + sg_S p5.2 ≤ ms + sg_S p5.2 := hc6; omega) (by have h9 : k_ + sg_N p5.2 ≤ mc + sg_N p5.2 ∧ n_ + sg_S p5.2 ≤ ms + sg_S p5.2 := hc6; omega) ⟨rfl, rfl, Tp5, ((hE).tr Ep1).tr Ep5⟩
      · refine K_ite hf (fun ck3 hf => ?_) (fun ck3 hf => ?_)
        · have ak_3 : is_A p1.2 b3 3 := ⟨al_, ck3⟩
          refine K_some hf (fun p17 hp17 hf => ?_)
          refine J_callA (q := 14) (ci := 3) (rest := []) C0 rfl hn4 ak_3 (t_X3_isWhole N b3 (Tp1) (ak_3) hp17) ml_X3_isWhole lk_X11_123 sa_505 im_X3_isWhole se_646 rfl (by decide) dX11_text_11 rfl rfl (by simp [ac_]) C1.room (by decide) (by decide) (by omega) (by omega) (fun r_ τ_ hQ => ?_)
          obtain ⟨⟨rfl, zp17⟩, rfl, Tp17, Ep17⟩ := hQ
          have hc18 : k_ + sg_N r.2 ≤ mc + sg_N p17.2 ∧ n_ + sg_S r.2 ≤ ms + sg_S p17.2 := by have := Ep17.1; have := Ep17.slots; have := (show k_ + sg_N r.2 ≤ mc + sg_N p1.2 ∧ n_ + sg_S r.2 ≤ ms + sg_S p1.2 from hc2); omega
          show J_ Γ 14 [(2, vr (p1.1)), (0, vr (some a0)), (1, vi (x1))] [vi (p17.1)] p17.2 k_ n_
          refine J_if_ne (t := 19) (q := 17) C0 dX11_text_14 (by decide) rfl hf (fun c19 hf => ?_) (fun c19 hf => ?_)
          · refine J_iload_n (q := 20) C0 2 rfl rfl dX11_text_19 rfl ?_
            refine J_if_ne (t := 30) (q := 23) C0 dX11_text_20 (by decide) rfl hf (fun c20 hf => ?_) (fun c20 hf => ?_)
            · refine J_iload_n (q := 31) C0 2 rfl rfl dX11_text_30 rfl ?_
              refine J_iconst (q := 32) (v := 1) C0 dX11_text_31 rfl rfl ?_
              refine J_icmp_ne (t := 42) (q := 35) C0 dX11_text_32 (by decide) rfl hf (fun c21 hf => ?_) (fun c21 hf => ?_)
              · refine J_aload_n (q := 43) C0 1 rfl rfl dX11_text_42 rfl trivial ?_
                refine K_some hf (fun p22 hp22 hf => ?_)
                have hm_ := e_X11_text_B46  hf
                have he_ := e_X11_tellStrip hp22
                have hk_ : k_ + (sg_N p22.2 - sg_N p17.2) ≤ mc ∧ n_ + (sg_S p22.2 - sg_S p17.2) ≤ ms := by have := hm_.1; have := hm_.slots; have := he_.1; have := he_.slots; have := (show k_ + sg_N r.2 ≤ mc + sg_N p17.2 ∧ n_ + sg_S r.2 ≤ ms + sg_S p17.2 from hc18); omega
                refine J_callV (q := 46) (ci := 10) (as := []) (rest := []) C0 rfl ((Ep17.at (Ep1.at h0))) (t_X11_tellStrip a0  (Tp17) ((Ep17.at (Ep1.at h0)))  hp22 (mc := sg_N p22.2 - sg_N p17.2) (ms := sg_S p22.2 - sg_S p17.2) (by have h7 := e_X11_tellStrip hp22; have := h7.1; have := h7.slots; omega)) ml_X11_tellStrip lk_X11_139 im_X11_tellStrip se_X11_tellStrip rfl (by decide) dX11_text_43 rfl rfl rfl (by simp [ac_]) C1.room (by decide) (by decide) hk_.1 hk_.2 (fun r_ τ_ hQ => ?_)
                obtain ⟨rfl, rfl, Tp22, Ep22⟩ := hQ
                have hc23 : (k_ + (sg_N p22.2 - sg_N p17.2)) + sg_N r.2 ≤ mc + sg_N p22.2 ∧ (n_ + (sg_S p22.2 - sg_S p17.2)) + sg_S r.2 ≤ ms + sg_S p22.2 := by have := he_.1; have := he_.slots; have := (show k_ + sg_N r.2 ≤ mc + sg_N p17.2 ∧ n_ + sg_S r.2 ≤ ms + sg_S p17.2 from hc18); omega
                show J_ Γ 46 [(2, vr (p1.1)), (0, vr (some a0)), (1, vi (x1))] [vi (p22.1)] p22.2 (k_ + (sg_N p22.2 - sg_N p17.2)) (n_ + (sg_S p22.2 - sg_S p17.2))
                refine J_sub (lv' := [(0, vr (some a0))]) [1] rfl ?_
                exact t_X11_text_B46 C1    (p22.1) (p22.2) (Tp22) ((((hE).tr Ep1).tr Ep17).tr Ep22) ((Ep22.at (Ep17.at (Ep1.at h0))))  ((k_ + (sg_N p22.2 - sg_N p17.2))) ((n_ + (sg_S p22.2 - sg_S p17.2))) hc23 hf
              · refine J_aload_n (q := 36) C0 1 rfl rfl dX11_text_35 rfl trivial ?_
                refine K_some hf (fun p24 hp24 hf => ?_)
                have hm_ := e_X11_text_B39  hf
                have he_ := e_X11_tellLaw hp24
                have hk_ : k_ + (sg_N p24.2 - sg_N p17.2) ≤ mc ∧ n_ + (sg_S p24.2 - sg_S p17.2) ≤ ms := by have := hm_.1; have := hm_.slots; have := he_.1; have := he_.slots; have := (show k_ + sg_N r.2 ≤ mc + sg_N p17.2 ∧ n_ + sg_S r.2 ≤ ms + sg_S p17.2 from hc18); omega
                refine J_callV (q := 39) (ci := 10) (as := []) (rest := []) C0 rfl ((Ep17.at (Ep1.at h0))) (t_X11_tellLaw a0  (Tp17) ((Ep17.at (Ep1.at h0)))  hp24 (mc := sg_N p24.2 - sg_N p17.2) (ms := sg_S p24.2 - sg_S p17.2) (by have h7 := e_X11_tellLaw hp24; have := h7.1; have := h7.slots; omega)) ml_X11_tellLaw lk_X11_136 im_X11_tellLaw se_X11_tellLaw rfl (by decide) dX11_text_36 rfl rfl rfl (by simp [ac_]) C1.room (by decide) (by decide) hk_.1 hk_.2 (fun r_ τ_ hQ => ?_)
                obtain ⟨rfl, rfl, Tp24, Ep24⟩ := hQ
                have hc25 : (k_ + (sg_N p24.2 - sg_N p17.2)) + sg_N r.2 ≤ mc + sg_N p24.2 ∧ (n_ + (sg_S p24.2 - sg_S p17.2)) + sg_S r.2 ≤ ms + sg_S p24.2 := by have := he_.1; have := he_.slots; have := (show k_ + sg_N r.2 ≤ mc + sg_N p17.2 ∧ n_ + sg_S r.2 ≤ ms + sg_S p17.2 from hc18); omega
                show J_ Γ 39 [(2, vr (p1.1)), (0, vr (some a0)), (1, vi (x1))] [vi (p24.1)] p24.2 (k_ + (sg_N p24.2 - sg_N p17.2)) (n_ + (sg_S p24.2 - sg_S p17.2))
                refine J_sub (lv' := [(0, vr (some a0))]) [1] rfl ?_
                exact t_X11_text_B39 C1    (p24.1) (p24.2) (Tp24) ((((hE).tr Ep1).tr Ep17).tr Ep24) ((Ep24.at (Ep17.at (Ep1.at h0))))  ((k_ + (sg_N p24.2 - sg_N p17.2))) ((n_ + (sg_S p24.2 - sg_S p17.2))) hc25 hf
            · refine J_aload_n (q := 24) C0 1 rfl rfl dX11_text_23 rfl trivial ?_
              refine K_some hf (fun p26 hp26 hf => ?_)
              refine J_callV (q := 27) (ci := 10) (as := []) (rest := []) C0 rfl ((Ep17.at (Ep1.at h0))) (t_X11_tellLantern N a0  (Tp17) ((Ep17.at (Ep1.at h0)))  hp26) ml_X11_tellLantern lk_X11_132 im_X11_tellLantern se_X11_tellLantern rfl (by decide) dX11_text_24 rfl rfl rfl (by simp [ac_]) C1.room (by decide) (by decide) (by omega) (by omega) (fun r_ τ_ hQ => ?_)
              obtain ⟨rfl, rfl, Tp26, Ep26⟩ := hQ
              have hc27 : k_ + sg_N r.2 ≤ mc + sg_N p26.2 ∧ n_ + sg_S r.2 ≤ ms + sg_S p26.2 := by have := Ep26.1; have := Ep26.slots; have := (show k_ + sg_N r.2 ≤ mc + sg_N p17.2 ∧ n_ + sg_S r.2 ≤ ms + sg_S p17.2 from hc18); omega
              show J_ Γ 27 [(2, vr (p1.1)), (0, vr (some a0)), (1, vi (x1))] [vi (p26.1)] p26.2 k_ n_
              refine J_goto (q := 46) C0 dX11_text_27 (by decide) ?_
              refine J_sub (lv' := [(0, vr (some a0))]) [1] rfl ?_
              exact t_X11_text_B46 C1    (p26.1) (p26.2) (Tp26) ((((hE).tr Ep1).tr Ep17).tr Ep26) ((Ep26.at (Ep17.at (Ep1.at h0))))  (k_) (n_) hc27 hf
          · refine J_iconst (q := 18) (v := (-1)) C0 dX11_text_17 rfl rfl ?_
            obtain rfl := Option.some.inj hf; exact J_iret C1 dX11_text_18 rfl (by have h9 : k_ + sg_N p17.2 ≤ mc + sg_N p17.2 ∧ n_ + sg_S p17.2 ≤ ms + sg_S p17.2 := hc18; omega) (by have h9 : k_ + sg_N p17.2 ≤ mc + sg_N p17.2 ∧ n_ + sg_S p17.2 ≤ ms + sg_S p17.2 := hc18; omega) ⟨rfl, rfl, Tp17, ((hE).tr Ep1).tr Ep17⟩
        · have ak_8 : is_A p1.2 b3 8 := ar_.elim (fun h => absurd h.2 ck1) (fun h => h.elim (fun h => absurd h.2 ck3) id)
          refine K_some hf (fun p28 hp28 hf => ?_)
          refine J_callA (q := 14) (ci := 8) (rest := []) C0 rfl hn4 ak_8 (t_X9_isWhole N b3 (Tp1) (ak_8) hp28) ml_X9_isWhole lk_X11_123 sa_505 im_X9_isWhole se_718 rfl (by decide) dX11_text_11 rfl rfl (by simp [ac_]) C1.room (by decide) (by decide) (by omega) (by omega) (fun r_ τ_ hQ => ?_)
          obtain ⟨⟨rfl, zp28⟩, rfl, Tp28, Ep28⟩ := hQ
          have hc29 : k_ + sg_N r.2 ≤ mc + sg_N p28.2 ∧ n_ + sg_S r.2 ≤ ms + sg_S p28.2 := by have := Ep28.1; have := Ep28.slots; have := (show k_ + sg_N r.2 ≤ mc + sg_N p1.2 ∧ n_ + sg_S r.2 ≤ ms + sg_S p1.2 from hc2); omega
          show J_ Γ 14 [(2, vr (p1.1)), (0, vr (some a0)), (1, vi (x1))] [vi (p28.1)] p28.2 k_ n_
          refine J_if_ne (t := 19) (q := 17) C0 dX11_text_14 (by decide) rfl hf (fun c30 hf => ?_) (fun c30 hf => ?_)
          · refine J_iload_n (q := 20) C0 2 rfl rfl dX11_text_19 rfl ?_
            refine J_if_ne (t := 30) (q := 23) C0 dX11_text_20 (by decide) rfl hf (fun c31 hf => ?_) (fun c31 hf => ?_)
            · refine J_iload_n (q := 31) C0 2 rfl rfl dX11_text_30 rfl ?_
              refine J_iconst (q := 32) (v := 1) C0 dX11_text_31 rfl rfl ?_
              refine J_icmp_ne (t := 42) (q := 35) C0 dX11_text_32 (by decide) rfl hf (fun c32 hf => ?_) (fun c32 hf => ?_)
              · refine J_aload_n (q := 43) C0 1 rfl rfl dX11_text_42 rfl trivial ?_
                refine K_some hf (fun p33 hp33 hf => ?_)
                have hm_ := e_X11_text_B46  hf
                have he_ := e_X11_tellStrip hp33
                have hk_ : k_ + (sg_N p33.2 - sg_N p28.2) ≤ mc ∧ n_ + (sg_S p33.2 - sg_S p28.2) ≤ ms := by have := hm_.1; have := hm_.slots; have := he_.1; have := he_.slots; have := (show k_ + sg_N r.2 ≤ mc + sg_N p28.2 ∧ n_ + sg_S r.2 ≤ ms + sg_S p28.2 from hc29); omega
                refine J_callV (q := 46) (ci := 10) (as := []) (rest := []) C0 rfl ((Ep28.at (Ep1.at h0))) (t_X11_tellStrip a0  (Tp28) ((Ep28.at (Ep1.at h0)))  hp33 (mc := sg_N p33.2 - sg_N p28.2) (ms := sg_S p33.2 - sg_S p28.2) (by have h7 := e_X11_tellStrip hp33; have := h7.1; have := h7.slots; omega)) ml_X11_tellStrip lk_X11_139 im_X11_tellStrip se_X11_tellStrip rfl (by decide) dX11_text_43 rfl rfl rfl (by simp [ac_]) C1.room (by decide) (by decide) hk_.1 hk_.2 (fun r_ τ_ hQ => ?_)
                obtain ⟨rfl, rfl, Tp33, Ep33⟩ := hQ
                have hc34 : (k_ + (sg_N p33.2 - sg_N p28.2)) + sg_N r.2 ≤ mc + sg_N p33.2 ∧ (n_ + (sg_S p33.2 - sg_S p28.2)) + sg_S r.2 ≤ ms + sg_S p33.2 := by have := he_.1; have := he_.slots; have := (show k_ + sg_N r.2 ≤ mc + sg_N p28.2 ∧ n_ + sg_S r.2 ≤ ms + sg_S p28.2 from hc29); omega
                show J_ Γ 46 [(2, vr (p1.1)), (0, vr (some a0)), (1, vi (x1))] [vi (p33.1)] p33.2 (k_ + (sg_N p33.2 - sg_N p28.2)) (n_ + (sg_S p33.2 - sg_S p28.2))
                refine J_sub (lv' := [(0, vr (some a0))]) [1] rfl ?_
                exact t_X11_text_B46 C1    (p33.1) (p33.2) (Tp33) ((((hE).tr Ep1).tr Ep28).tr Ep33) ((Ep33.at (Ep28.at (Ep1.at h0))))  ((k_ + (sg_N p33.2 - sg_N p28.2))) ((n_ + (sg_S p33.2 - sg_S p28.2))) hc34 hf
              · refine J_aload_n (q := 36) C0 1 rfl rfl dX11_text_35 rfl trivial ?_
                refine K_some hf (fun p35 hp35 hf => ?_)
                have hm_ := e_X11_text_B39  hf
                have he_ := e_X11_tellLaw hp35
                have hk_ : k_ + (sg_N p35.2 - sg_N p28.2) ≤ mc ∧ n_ + (sg_S p35.2 - sg_S p28.2) ≤ ms := by have := hm_.1; have := hm_.slots; have := he_.1; have := he_.slots; have := (show k_ + sg_N r.2 ≤ mc + sg_N p28.2 ∧ n_ + sg_S r.2 ≤ ms + sg_S p28.2 from hc29); omega
                refine J_callV (q := 39) (ci := 10) (as := []) (rest := []) C0 rfl ((Ep28.at (Ep1.at h0))) (t_X11_tellLaw a0  (Tp28) ((Ep28.at (Ep1.at h0)))  hp35 (mc := sg_N p35.2 - sg_N p28.2) (ms := sg_S p35.2 - sg_S p28.2) (by have h7 := e_X11_tellLaw hp35; have := h7.1; have := h7.slots; omega)) ml_X11_tellLaw lk_X11_136 im_X11_tellLaw se_X11_tellLaw rfl (by decide) dX11_text_36 rfl rfl rfl (by simp [ac_]) C1.room (by decide) (by decide) hk_.1 hk_.2 (fun r_ τ_ hQ => ?_)
                obtain ⟨rfl, rfl, Tp35, Ep35⟩ := hQ
                have hc36 : (k_ + (sg_N p35.2 - sg_N p28.2)) + sg_N r.2 ≤ mc + sg_N p35.2 ∧ (n_ + (sg_S p35.2 - sg_S p28.2)) + sg_S r.2 ≤ ms + sg_S p35.2 := by have := he_.1; have := he_.slots; have := (show k_ + sg_N r.2 ≤ mc + sg_N p28.2 ∧ n_ + sg_S r.2 ≤ ms + sg_S p28.2 from hc29); omega
                show J_ Γ 39 [(2, vr (p1.1)), (0, vr (some a0)), (1, vi (x1))] [vi (p35.1)] p35.2 (k_ + (sg_N p35.2 - sg_N p28.2)) (n_ + (sg_S p35.2 - sg_S p28.2))
                refine J_sub (lv' := [(0, vr (some a0))]) [1] rfl ?_
                exact t_X11_text_B39 C1    (p35.1) (p35.2) (Tp35) ((((hE).tr Ep1).tr Ep28).tr Ep35) ((Ep35.at (Ep28.at (Ep1.at h0))))  ((k_ + (sg_N p35.2 - sg_N p28.2))) ((n_ + (sg_S p35.2 - sg_S p28.2))) hc36 hf
            · refine J_aload_n (q := 24) C0 1 rfl rfl dX11_text_23 rfl trivial ?_
              refine K_some hf (fun p37 hp37 hf => ?_)
              refine J_callV (q := 27) (ci := 10) (as := []) (rest := []) C0 rfl ((Ep28.at (Ep1.at h0))) (t_X11_tellLantern N a0  (Tp28) ((Ep28.at (Ep1.at h0)))  hp37) ml_X11_tellLantern lk_X11_132 im_X11_tellLantern se_X11_tellLantern rfl (by decide) dX11_text_24 rfl rfl rfl (by simp [ac_]) C1.room (by decide) (by decide) (by omega) (by omega) (fun r_ τ_ hQ => ?_)
              obtain ⟨rfl, rfl, Tp37, Ep37⟩ := hQ
              have hc38 : k_ + sg_N r.2 ≤ mc + sg_N p37.2 ∧ n_ + sg_S r.2 ≤ ms + sg_S p37.2 := by have := Ep37.1; have := Ep37.slots; have := (show k_ + sg_N r.2 ≤ mc + sg_N p28.2 ∧ n_ + sg_S r.2 ≤ ms + sg_S p28.2 from hc29); omega
              show J_ Γ 27 [(2, vr (p1.1)), (0, vr (some a0)), (1, vi (x1))] [vi (p37.1)] p37.2 k_ n_
              refine J_goto (q := 46) C0 dX11_text_27 (by decide) ?_
              refine J_sub (lv' := [(0, vr (some a0))]) [1] rfl ?_
              exact t_X11_text_B46 C1    (p37.1) (p37.2) (Tp37) ((((hE).tr Ep1).tr Ep28).tr Ep37) ((Ep37.at (Ep28.at (Ep1.at h0))))  (k_) (n_) hc38 hf
          · refine J_iconst (q := 18) (v := (-1)) C0 dX11_text_17 rfl rfl ?_
            obtain rfl := Option.some.inj hf; exact J_iret C1 dX11_text_18 rfl (by have h9 : k_ + sg_N p28.2 ≤ mc + sg_N p28.2 ∧ n_ + sg_S p28.2 ≤ ms + sg_S p28.2 := hc29; omega) (by have h9 : k_ + sg_N p28.2 ≤ mc + sg_N p28.2 ∧ n_ + sg_S p28.2 ≤ ms + sg_S p28.2 := hc29; omega) ⟨rfl, rfl, Tp28, ((hE).tr Ep1).tr Ep28⟩
  rw [hk0, hn0] at goal9
  exact goal9
