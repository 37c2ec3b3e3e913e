def f_X11_wheel (a0 : Nat) (x1 : Int32) (x2 : Int32) (σ : Sg) : Option Int32 :=
  Option.bind (f_X11_isWheel a0 (x1) σ) fun p1 =>
  if (p1) = (0) then
  (none)
  else
  (Option.bind (sg_R σ a0 13) fun b3 =>
  Option.bind (sg_R σ b3 0) fun b4 =>
  if (x1) < 0 ∨ sg_L σ b4 ≤ (x1).toNatClampNeg then none else
  if (x2) = 0 then
  (Option.bind (sg_R σ b4 (x1).toNatClampNeg) fun b7 =>
  some (sg_I σ b7 0))
  else
  if (x2) = 1 then
  (Option.bind (sg_R σ b4 (x1).toNatClampNeg) fun b9 =>
  if (sg_I σ b9 1) = (0) then
  (some (0))
  else
  (some (1)))
  else
  if (x2) = 2 then
  (Option.bind (sg_R σ b4 (x1).toNatClampNeg) fun b12 =>
  some (sg_I σ b12 2))
  else
  if (x2) = 3 then
  (Option.bind (sg_R σ b4 (x1).toNatClampNeg) fun b14 =>
  some (sg_I σ b14 3))
  else
  if (x2) = 4 then
  (Option.bind (f_X11_stripOf a0 (sg_R σ b4 (x1).toNatClampNeg) σ) fun p16 =>
  Option.bind (p16) fun b17 =>
  Option.bind (f_X8_size b17  σ) fun p18 =>
  some (p18))
  else
  if (x2) = 5 then
  (Option.bind (f_X11_shown a0 (sg_R σ b4 (x1).toNatClampNeg) σ) fun p20 =>
  some (p20))
  else
  (none))
set_option maxHeartbeats 4000000 in
set_option maxRecDepth 100000 in
theorem t_X11_wheel (a0 : Nat) (x1 : Int32) (x2 : Int32) {σ : Sg} (hT : sg_T σ) (h0 : is_A σ a0 10) {r : Int32} (hf : f_X11_wheel a0 x1 x2 σ = some r) : Ct yX11_wheel cX11_wheel 4 (some .int) 4 85 0 0 [vr (some a0), vi x1, vi x2] σ (fun r_ τ_ => (r_ = some (vi r)) ∧ τ_ = σ) := by
  refine Ct.of (by decide +kernel) (Nat.le_of_ble_eq_true rfl) (fun Γ C1 => ?_)
  have C0 := C1.1
  unfold f_X11_wheel at hf
  show J_ Γ 0 [(0, vr (some a0)), (1, vi (x1)), (2, vi (x2))] [] σ 0 0
  refine J_aload_n (q := 1) C0 0 rfl rfl dX11_wheel_0 rfl trivial ?_
  refine J_iload_n (q := 2) C0 1 rfl rfl dX11_wheel_1 rfl ?_
  refine K_some hf (fun p1 hp1 hf => ?_)
  refine J_callV (q := 5) (ci := 10) (as := [vi (x1)]) (rest := []) C0 rfl (h0) (t_X11_isWheel a0 (x1) (hT) (h0)  hp1) ml_X11_isWheel lk_X11_195 im_X11_isWheel se_X11_isWheel rfl (by decide) dX11_wheel_2 rfl rfl rfl (by simp [ac_]) C1.room (by decide) (by decide) (by decide) (by decide) (fun r_ τ_ hQ => ?_)
  obtain ⟨⟨rfl, zp1⟩, ht_⟩ := hQ; have ht_ := ht_.symm; subst ht_
  show J_ Γ 5 [(0, vr (some a0)), (1, vi (x1)), (2, vi (x2))] [vi (p1)] σ 0 0
  refine J_if_ne (t := 18) (q := 8) C0 dX11_wheel_5 (by decide) rfl hf (fun c2 hf => ?_) (fun c2 hf => ?_)
  · refine J_aload_n (q := 19) C0 0 rfl rfl dX11_wheel_18 rfl trivial ?_
    refine J_getR (q := 22) C0 fl_X11_75_10 rfl (h0) rfl dX11_wheel_19 rfl ?_
    refine K_some hf (fun b3 hb3 hf => ?_)
    have ab3 : is_A σ b3 6 := ((sg_T.op hT (j := 13) (h0) rfl)) b3 hb3
    refine J_getR (q := 25) C0 fl_X11_153_6 hb3 (ab3) rfl dX11_wheel_22 rfl ?_
    refine J_iload_n (q := 26) C0 1 rfl rfl dX11_wheel_25 rfl ?_
    refine K_some hf (fun b4 hb4 hf => ?_)
    have ab4 : is_A σ b4 18 := ((sg_T.op hT (j := 0) (ab3) rfl)) b4 hb4
    refine K_chk hf (fun c5 hf => ?_)
    refine J_aald (q := 27) C0 hb4 (ab4) (by decide) c5 dX11_wheel_26 rfl ?_
    refine J_astore_n (q := 28) (lv' := [(3, vr (sg_R σ b4 (x1).toNatClampNeg)), (0, vr (some a0)), (1, vi (x1)), (2, vi (x2))]) C0 rfl (G_nl C1 (by decide)) dX11_wheel_27 rfl trivial rfl ?_
    refine J_iload_n (q := 29) C0 3 rfl rfl dX11_wheel_28 rfl ?_
    refine K_ite hf (fun c6 hf => ?_) (fun c6 hf => ?_)
    · refine J_tblIn (t := 68) (off := 39) C0 dX11_wheel_29 (by rw [c6]; decide) (by rw [c6]; decide) (by rw [c6]; rfl) (by decide) ?_
      refine J_aload_n (q := 69) C0 0 rfl rfl dX11_wheel_68 rfl trivial ?_
      refine K_some hf (fun b7 hb7 hf => ?_)
      have ab7 : is_A σ b7 9 := ((sg_T.op hT (j := (x1).toNatClampNeg) (ab4) rfl)) b7 hb7
      refine J_getI (q := 72) C0 fl_X11_206_9 hb7 (ab7) rfl dX11_wheel_69 rfl ?_
      obtain rfl := Option.some.inj hf; exact J_iret C1 dX11_wheel_72 rfl (Nat.zero_le _) (Nat.zero_le _) ⟨rfl, rfl⟩
    refine K_ite hf (fun c8 hf => ?_) (fun c8 hf => ?_)
    · refine J_tblIn (t := 73) (off := 44) C0 dX11_wheel_29 (by rw [c8]; decide) (by rw [c8]; decide) (by rw [c8]; rfl) (by decide) ?_
      refine J_aload_n (q := 74) C0 0 rfl rfl dX11_wheel_73 rfl trivial ?_
      refine K_some hf (fun b9 hb9 hf => ?_)
      have ab9 : is_A σ b9 9 := ((sg_T.op hT (j := (x1).toNatClampNeg) (ab4) rfl)) b9 hb9
      refine J_getI (q := 77) C0 fl_X11_209_9 hb9 (ab9) rfl dX11_wheel_74 rfl ?_
      refine J_if_eq (t := 84) (q := 80) C0 dX11_wheel_77 (by decide) rfl hf (fun c10 hf => ?_) (fun c10 hf => ?_)
      · refine J_iconst (q := 85) (v := 0) C0 dX11_wheel_84 rfl rfl ?_
        obtain rfl := Option.some.inj hf; exact J_iret C1 dX11_wheel_85 rfl (Nat.zero_le _) (Nat.zero_le _) ⟨rfl, rfl⟩
      · refine J_iconst (q := 81) (v := 1) C0 dX11_wheel_80 rfl rfl ?_
        refine J_goto (q := 85) C0 dX11_wheel_81 (by decide) ?_
        obtain rfl := Option.some.inj hf; exact J_iret C1 dX11_wheel_85 rfl (Nat.zero_le _) (Nat.zero_le _) ⟨rfl, rfl⟩
    refine K_ite hf (fun c11 hf => ?_) (fun c11 hf => ?_)
    · refine J_tblIn (t := 86) (off := 57) C0 dX11_wheel_29 (by rw [c11]; decide) (by rw [c11]; decide) (by rw [c11]; rfl) (by decide) ?_
      refine J_aload_n (q := 87) C0 0 rfl rfl dX11_wheel_86 rfl trivial ?_
      refine K_some hf (fun b12 hb12 hf => ?_)
      have ab12 : is_A σ b12 9 := ((sg_T.op hT (j := (x1).toNatClampNeg) (ab4) rfl)) b12 hb12
      refine J_getI (q := 90) C0 fl_X11_157_9 hb12 (ab12) rfl dX11_wheel_87 rfl ?_
      obtain rfl := Option.some.inj hf; exact J_iret C1 dX11_wheel_90 rfl (Nat.zero_le _) (Nat.zero_le _) ⟨rfl, rfl⟩
    refine K_ite hf (fun c13 hf => ?_) (fun c13 hf => ?_)
    · refine J_tblIn (t := 91) (off := 62) C0 dX11_wheel_29 (by rw [c13]; decide) (by rw [c13]; decide) (by rw [c13]; rfl) (by decide) ?_
      refine J_aload_n (q := 92) C0 0 rfl rfl dX11_wheel_91 rfl trivial ?_
      refine K_some hf (fun b14 hb14 hf => ?_)
      have ab14 : is_A σ b14 9 := ((sg_T.op hT (j := (x1).toNatClampNeg) (ab4) rfl)) b14 hb14
      refine J_getI (q := 95) C0 fl_X11_212_9 hb14 (ab14) rfl dX11_wheel_92 rfl ?_
      obtain rfl := Option.some.inj hf; exact J_iret C1 dX11_wheel_95 rfl (Nat.zero_le _) (Nat.zero_le _) ⟨rfl, rfl⟩
    refine K_ite hf (fun c15 hf => ?_) (fun c15 hf => ?_)
    · refine J_tblIn (t := 96) (off := 67) C0 dX11_wheel_29 (by rw [c15]; decide) (by rw [c15]; decide) (by rw [c15]; rfl) (by decide) ?_
      refine J_aload_n (q := 97) C0 1 rfl rfl dX11_wheel_96 rfl trivial ?_
      refine J_aload_n (q := 98) C0 0 rfl rfl dX11_wheel_97 rfl trivial ?_
      refine K_some hf (fun p16 hp16 hf => ?_)
      refine J_callV (q := 101) (ci := 10) (as := [vr (sg_R σ b4 (x1).toNatClampNeg)]) (rest := []) C0 rfl (h0) (t_X11_stripOf a0 (sg_R σ b4 (x1).toNatClampNeg) (hT) (h0) ((sg_T.op hT (j := (x1).toNatClampNeg) (ab4) rfl)) hp16) ml_X11_stripOf lk_X11_162 im_X11_stripOf se_X11_stripOf rfl (by decide) dX11_wheel_98 rfl rfl rfl (by simp [ac_]) C1.room (by decide) (by decide) (by decide) (by decide) (fun r_ τ_ hQ => ?_)
      obtain ⟨⟨rfl, op16⟩, ht_⟩ := hQ; have ht_ := ht_.symm; subst ht_
      show J_ Γ 101 [(3, vr (sg_R σ b4 (x1).toNatClampNeg)), (0, vr (some a0)), (1, vi (x1)), (2, vi (x2))] [vr (p16)] σ 0 0
      refine K_some hf (fun b17 hb17 hf => ?_)
      have ab17 : is_A σ b17 7 := (op16) b17 hb17
      refine K_some hf (fun p18 hp18 hf => ?_)
      refine J_callV (q := 104) (ci := 7) (as := []) (rest := []) C0 hb17 (ab17) (t_X8_size b17  (hT) (ab17)  hp18) ml_X8_size lk_X11_166 im_X8_size se_X8_size rfl (by decide) dX11_wheel_101 rfl rfl rfl (by simp [ac_]) C1.room (by decide) (by decide) (by decide) (by decide) (fun r_ τ_ hQ => ?_)
      obtain ⟨rfl, ht_⟩ := hQ; have ht_ := ht_.symm; subst ht_
      show J_ Γ 104 [(3, vr (sg_R σ b4 (x1).toNatClampNeg)), (0, vr (some a0)), (1, vi (x1)), (2, vi (x2))] [vi (p18)] σ 0 0
      obtain rfl := Option.some.inj hf; exact J_iret C1 dX11_wheel_104 rfl (Nat.zero_le _) (Nat.zero_le _) ⟨rfl, rfl⟩
    refine K_ite hf (fun c19 hf => ?_) (fun c19 hf => ?_)
    · refine J_tblIn (t := 105) (off := 76) C0 dX11_wheel_29 (by rw [c19]; decide) (by rw [c19]; decide) (by rw [c19]; rfl) (by decide) ?_
      refine J_aload_n (q := 106) C0 1 rfl rfl dX11_wheel_105 rfl trivial ?_
      refine J_aload_n (q := 107) C0 0 rfl rfl dX11_wheel_106 rfl trivial ?_
      refine K_some hf (fun p20 hp20 hf => ?_)
      refine J_callV (q := 110) (ci := 10) (as := [vr (sg_R σ b4 (x1).toNatClampNeg)]) (rest := []) C0 rfl (h0) (t_X11_shown a0 (sg_R σ b4 (x1).toNatClampNeg) (hT) (h0) ((sg_T.op hT (j := (x1).toNatClampNeg) (ab4) rfl)) hp20) ml_X11_shown lk_X11_215 im_X11_shown se_X11_shown rfl (by decide) dX11_wheel_107 rfl rfl rfl (by simp [ac_]) C1.room (by decide) (by decide) (by decide) (by decide) (fun r_ τ_ hQ => ?_)
      obtain ⟨rfl, ht_⟩ := hQ; have ht_ := ht_.symm; subst ht_
      show J_ Γ 110 [(3, vr (sg_R σ b4 (x1).toNatClampNeg)), (0, vr (some a0)), (1, vi (x1)), (2, vi (x2))] [vi (p20)] σ 0 0
      obtain rfl := Option.some.inj hf; exact J_iret C1 dX11_wheel_110 rfl (Nat.zero_le _) (Nat.zero_le _) ⟨rfl, rfl⟩
    refine J_tblOut (t := 111) C0 dX11_wheel_29 (by have tc6 := lv_neT c6 (a := 0) (by decide); have tc8 := lv_neT c8 (a := 1) (by decide); have tc11 := lv_neT c11 (a := 2) (by decide); have tc13 := lv_neT c13 (a := 3) (by decide); have tc15 := lv_neT c15 (a := 4) (by decide); have tc19 := lv_neT c19 (a := 5) (by decide); omega) (by decide) ?_
    cases hf
  · cases hf
/-! ===== wheel throws: what a throw needs, and the pool behind it ===== -/
def nx_E : String := "java/util/NoSuchElementException"
abbrev nx_B : List Cond := [.declares (Bundle.initS "java/lang/RuntimeException"), .declares (Bundle.initS "java/lang/Exception"), .declares (Bundle.initS Bundle.tN)]
def nx_D (s : State) : Prop := va_Nw (.castable "java/util/NoSuchElementException" "java/util/NoSuchElementException") s ∧ va_Nw (.declares (Bundle.initS "java/lang/RuntimeException")) s ∧ va_Nw (.declares (Bundle.initS "java/lang/Exception")) s ∧ va_Nw (.declares (Bundle.initS Bundle.tN)) s
def k_Y (κ : Nat → Nat) (z : Nat) (s : State) : Prop := k_X κ z s ∧ nx_D s ∧ vk_R "SlitDrum" 201 "no such wheel" (κ 12) s ∧ vk_R "SlitDrum" 219 "no such what" (κ 13) s ∧ vx_Zq Bundle.tN "UNASSIGNED_STACK" Bundle.steD (fun a => z ≤ a) s s.heap ∧ vx_Zq Bundle.tN "SUPPRESSED_SENTINEL" Bundle.listD (fun a => z ≤ a) s s.heap
theorem k_Y.moved {κ : Nat → Nat} {z : Nat} {s U : State} (h : k_Y κ z s) (hW : s.WarmedH U.vm) (hq : ∀ q : Nat, q < z → U.heap[q]? = s.heap[q]?) : k_Y κ z U := by
  obtain ⟨h1, h2, h3, h4, h5, h6⟩ := h
  have hk : ∀ a : Nat, a < s.heap.size → ¬ (fun a => z ≤ a) a → U.heap[a]? = s.heap[a]? := fun a _ hn => hq a (Nat.not_le.mp hn)
  exact ⟨h1.moved hW hq, ⟨va_Nw.warmC hW h2.1, va_Nw.warmD hW h2.2.1, va_Nw.warmD hW h2.2.2.1, va_Nw.warmD hW h2.2.2.2⟩, vk_R.warm hW h3, vk_R.warm hW h4, (vx_Zq.moved hW.alike h5).kept hk, (vx_Zq.moved hW.alike h6).kept hk⟩
theorem k_Y.same {κ : Nat → Nat} {z : Nat} {u U : State} (hv : u.vm = U.vm) (hh : u.heap = U.heap) (h : k_Y κ z u) : k_Y κ z U := by
  obtain ⟨h1, h2, h3, h4, h5, h6⟩ := h
  have ha : u.vm.Alike U.vm := by rw [hv]; exact Vm.Alike.refl _
  refine ⟨h1.same hv hh, ⟨va_Nw.same rfl hv h2.1, va_Nw.same rfl hv h2.2.1, va_Nw.same rfl hv h2.2.2.1, va_Nw.same rfl hv h2.2.2.2⟩, vk_R.same hv.symm h3, vk_R.same hv.symm h4, ?_, ?_⟩
  · rw [← hh]; exact vx_Zq.moved ha h5
  · rw [← hh]; exact vx_Zq.moved ha h6
/-- n cells more that are not spoken of -/
def pad_C (σ : Sg) (n : Nat) : Sg := (σ.1 + n, fun a => if a < σ.1 then σ.2.1 a else 20, fun a => if a < σ.1 then σ.2.2.1 a else 0, σ.2.2.2.1, fun a => if a < σ.1 then σ.2.2.2.2.1 a else fun _ => none, σ.2.2.2.2.2)
theorem pad_E (σ : Sg) (n : Nat) : sg_E σ (pad_C σ n) := ⟨Nat.le_add_right _ _, fun a ha => ⟨if_pos ha, if_pos ha⟩⟩
theorem pad_T {σ : Sg} (h : sg_T σ) (n : Nat) : sg_T (pad_C σ n) := by
  intro a j b ha hb
  have hb' : (if a < σ.1 then σ.2.2.2.2.1 a else fun _ => none) j = some b := hb
  by_cases hq : a < σ.1
  · rw [if_pos hq] at hb'
    have h1 := (pad_E σ n).at (h a j b hq hb')
    have h2 : sg_K (pad_C σ n) a = sg_K σ a := if_pos hq
    rw [h2]
    exact h1
  · rw [if_neg hq] at hb'
    cases hb'
theorem pl_pad {tA : Nat → ClassId} {D : va_G} {z : Nat} {σ : Sg} {H H' : Heap} (hP : pl_P tA D z σ H) (hsz : H.size ≤ H'.size) (oq : ∀ q : Nat, q < H.size → H'[q]? = H[q]?) : pl_P tA D z (pad_C σ (H'.size - H.size)) H' := by
  have hL : pl_L (pad_C σ (H'.size - H.size)) = pl_L σ := by
    unfold pl_L
    have hN : sg_N (pad_C σ (H'.size - H.size)) = sg_N σ + (H'.size - H.size) := rfl
    rw [hN, List.range_add, List.filter_append]
    have e2 : ((List.range (H'.size - H.size)).map (fun x => sg_N σ + x)).filter (fun a => decide (sg_K (pad_C σ (H'.size - H.size)) a < 20)) = [] := by
      apply List.filter_eq_nil_iff.mpr
      intro a ha
      obtain ⟨b, -, rfl⟩ := List.mem_map.mp ha
      have : sg_K (pad_C σ (H'.size - H.size)) (sg_N σ + b) = 20 := if_neg (Nat.not_lt.mpr (Nat.le_add_right _ _))
      rw [this]
      decide
    rw [e2, List.append_nil]
    apply List.filter_congr
    intro a ha
    rw [show sg_K (pad_C σ (H'.size - H.size)) a = sg_K σ a from if_pos (List.mem_range.mp ha)]
  have e : pl_w tA z (pad_C σ (H'.size - H.size)) = pl_w tA z σ := by
    unfold pl_w
    rw [hL]
    apply List.map_congr_left
    intro b hb
    have hlt : b < sg_N σ := List.mem_range.mp (List.mem_filter.mp hb).1
    rw [pl_c_congr (σ := σ) (τ := pad_C σ (H'.size - H.size)) (if_pos hlt) (if_pos hlt) rfl (if_pos hlt) rfl]
  refine ⟨?_, ?_, ?_⟩
  · have := hP.1
    show H'.size = z + (sg_N σ + (H'.size - H.size))
    omega
  · rw [e]
    exact hP.2.1.kept (fun i x hx => oq x.1 ((hP.2.1 i x hx).lt))
  · rw [e]
    exact hP.2.2
def cy_P (κ : Nat → Nat) (z : Nat) (tA : Nat → ClassId) (D : va_G) (as : List AV) (σ : Sg) : Array Value → State → Prop := va_Pc (as.map (av_ κ z)) (fun U => pl_P tA D z σ U.heap ∧ va_K D vwCl (pl_ty tA) U ∧ k_Y κ z U ∧ z ≤ U.heap.size)
theorem cy_blind {κ : Nat → Nat} {z : Nat} {tA : Nat → ClassId} {D : va_G} {as : List AV} {σ : Sg} : FrameBlind (cy_P κ z tA D as σ) := by
  intro a U g mk h
  obtain ⟨h1, h2, h3, h4, h5⟩ := h
  exact ⟨h1, h2, va_K.moved (u := U) (U := U.calling g mk a) (Vm.Alike.refl U.vm) h3, k_Y.same (u := U) (U := U.calling g mk a) rfl rfl h4, h5⟩
theorem cy_pre {p : Program} {s : State} {H : Heap} {locs : List Loc} {κ : Nat → Nat} {z : Nat} {tA : Nat → ClassId} {D : va_G} {as : List AV} {σ : Sg} (hP : pl_P tA D z σ H) (hS : va_S (fun q => z ≤ q) s.heap H locs) (hK : va_K D vwCl (pl_ty tA) s) (hX : k_Y κ z s) (hz : z ≤ s.heap.size) : ∀ U : State, U.heap = H → s.WarmedH U.vm → cy_P κ z tA D as σ (as.map (av_ κ z)).toArray U := by
  intro U hU hW
  refine ⟨rfl, by rw [hU]; exact hP, va_K.moved hW.alike hK, hX.moved hW (fun q hq => ?_), by rw [hU]; exact Nat.le_trans hz hS.1⟩
  rw [hU]
  exact hS.2.1 q (Nat.lt_of_lt_of_le hq hz) (Nat.not_le.mpr hq)
def xc_ (tA : Nat → ClassId) (D : va_G) (z : Nat) (σ : Sg) : String → State → State → Prop := fun E st t => E = nx_E ∧ (∃ n : Nat, pl_P tA D z (pad_C σ n) t.heap) ∧ va_F (fun q => z ≤ q) st t
def cx_F : Array Value → State → Outcome → State → Prop := fun _ _ _ _ => False
/-- a method's contract: with these arguments, over this pool, it throws -/
def Cx (y : MethodName) (b : ByteArray) (mL : Nat) (ret : Option FieldType) (fr lo : Nat) (as : List AV) (σ : Sg) : Prop :=
  ∀ (l : Launch), l.stackTraces = false → ∀ (κ : Nat → Nat) (z : Nat) (tA : Nat → ClassId) (D : va_G), vx_Met l y (Cond.code y b mL ret :: wt_) { frames := fr, cells := 1, slots := 6, locals := lo } (cy_P κ z tA D as σ) cx_F (xc_ tA D z σ) 1 6 (fun q => z ≤ q)
def CY (Γ : Gm) (cc : ByteArray) (own : String) (mL fr lo : Nat) (σ : Sg) : Prop := CX Γ cc own ∧ nl_ Γ = mL ∧ (match Γ with
  | (_, l, _, R, s, _, args, below, meth, c, κ, z, tA, D, _, Z) => k_Y κ z s ∧ l.stackTraces = false ∧ (∀ x ∈ c.exceptionTable.toList, False) ∧ meth.locks = false ∧ R = { frames := fr, cells := 1, slots := 6, locals := lo } ∧ Z = vx_MQ below cx_F (xc_ tA D z σ) args s 1 6 (fun q => z ≤ q))
theorem CY.room {Γ : Gm} {cc : ByteArray} {own : String} {mL fr lo : Nat} {σ : Sg} (C1 : CY Γ cc own mL fr lo σ) : rm_of Γ = { frames := fr, cells := 1, slots := 6, locals := lo } := by
  obtain ⟨p, l, e, R, s, m, args, below, meth, c, κ, z, tA, D, nL, Z⟩ := Γ
  exact C1.2.2.2.2.2.2.1
theorem Cx.of {y : MethodName} {b : ByteArray} {mL : Nat} {ret : Option FieldType} {fr lo : Nat} {as : List AV} {σ : Sg} (hy : plainName y.cls = true) (hsz : (as.map ac_).sum ≤ mL) (h : ∀ Γ : Gm, CY Γ b y.cls mL fr lo σ → J_ Γ 0 (al_ 0 as) [] σ 0 0) : Cx y b mL ret fr lo as σ := by
  intro l hl κ z tA D
  refine vx_ofW (cc := b) (maxL := mL) (ret := ret) hy rfl ?_
  intro p e s m args below meth c s₁ B hml hex hv
  obtain ⟨rfl, hP, hK, hX, hz⟩ := hv
  have hts := atoms_spec (ws := Cond.code y b mL ret :: wt_) B.pre
  have key := h (p, l, e, (headSpec (Cond.code y b mL ret :: wt_) { frames := fr, cells := 1, slots := 6, locals := lo }).room, s, m, (as.map (av_ κ z)).toArray, below, meth, c, κ, z, tA, D, mL, vx_MQ below cx_F (xc_ tA D z σ) (as.map (av_ κ z)).toArray s 1 6 (fun q => z ≤ q)) ⟨⟨B.exec, B.bytes, hml, findClass_of_methodNamed B.named, fun w hw => hts w (List.mem_cons_of_mem _ hw), hK, hX.1, hz⟩, rfl, hX, hl, hex, B.notSynchronized, rfl, rfl⟩
  have hlen : (lg_sl (as.map (av_ κ z))).length ≤ mL := by rw [al_len]; exact hsz
  have hl := lv_entry (as.map (av_ κ z)) (n := mL) hlen
  rw [lg_entry_eq]
  rw [lv_args_map] at hl
  exact key s.heap [] _ hP va_S.rf hl
/-- the words of this throw: the exception's own constructor calls its superclass's by the place 13 of its table -/
def nx_tail : List Cond := [.methodLink RX11 203 (Bundle.initS "java/util/NoSuchElementException"), .instantiable "java/util/NoSuchElementException" 6, .selects "java/util/NoSuchElementException" Bundle.tFill0 Bundle.tFill0, .selects "java/util/NoSuchElementException" Bundle.tFill Bundle.tFill, .lays "java/util/NoSuchElementException" Bundle.tN "cause" "Ljava/lang/Throwable;", .lays "java/util/NoSuchElementException" Bundle.tN "stackTrace" Bundle.steD, .lays "java/util/NoSuchElementException" Bundle.tN "suppressedExceptions" Bundle.listD, .lays "java/util/NoSuchElementException" Bundle.tN "detailMessage" "Ljava/lang/String;", .isRef (.static Bundle.tN "UNASSIGNED_STACK" Bundle.steD), .isRef (.static Bundle.tN "SUPPRESSED_SENTINEL" Bundle.listD), .fieldLink Bundle.tN 198 Bundle.tN "backtrace" "Ljava/lang/Object;", .lays Bundle.tN Bundle.tN "backtrace" "Ljava/lang/Object;", .lays "java/util/NoSuchElementException" Bundle.tN "backtrace" "Ljava/lang/Object;"]
def nx_at : List Cond := Bundle.throwableAtoms ++ (Bundle.throwableSAtoms ++ (Bundle.passSAtoms "java/util/NoSuchElementException" "java/lang/RuntimeException" 13 prog_32_method_4_code ++ (Bundle.chainSAtoms "java/lang/RuntimeException" ["java/lang/Exception"] ++ nx_tail)))
theorem nx_i1 {w : Cond} (h : w ∈ Bundle.throwableAtoms) : w ∈ nx_at := List.mem_append_left _ h
theorem nx_i2 {w : Cond} (h : w ∈ Bundle.throwableSAtoms) : w ∈ nx_at := List.mem_append_right _ (List.mem_append_left _ h)
theorem nx_i3 {w : Cond} (h : w ∈ Bundle.passSAtoms "java/util/NoSuchElementException" "java/lang/RuntimeException" 13 prog_32_method_4_code) : w ∈ nx_at := List.mem_append_right _ (List.mem_append_right _ (List.mem_append_left _ h))
theorem nx_i4 {w : Cond} (h : w ∈ Bundle.chainSAtoms "java/lang/RuntimeException" ["java/lang/Exception"]) : w ∈ nx_at := List.mem_append_right _ (List.mem_append_right _ (List.mem_append_right _ (List.mem_append_left _ h)))
theorem nx_i5 {w : Cond} (h : w ∈ nx_tail) : w ∈ nx_at := List.mem_append_right _ (List.mem_append_right _ (List.mem_append_right _ (List.mem_append_right _ h)))
theorem nx_6 : decode prog_32_method_4_code 0 = .ok (.aload_n 0, 1) := by decide +kernel
theorem nx_7 : decode prog_32_method_4_code 1 = .ok (.aload_n 1, 1) := by decide +kernel
theorem nx_8 : decode prog_32_method_4_code 2 = .ok (.invokespecial 13, 3) := by decide +kernel
theorem nx_9 : decode prog_32_method_4_code 5 = .ok (.return_, 1) := by decide +kernel
set_option maxRecDepth 100000 in
theorem nx_hat {args : Array Value} {s : State} (hts : ∀ w ∈ wt_, w.before args s = true) (h : nx_D s) : ∀ w ∈ nx_at.filter vx_no, w.before args s = true := by
  refine vx_hat (B := nx_B) (fun w hw => hts w ?_) (by decide +kernel) (vx_c (va_Nw.use rfl h.2.1) (vx_c (va_Nw.use rfl h.2.2.1) (vx_c (va_Nw.use rfl h.2.2.2) vx_n)))
  have h1 : ∀ w ∈ (nx_at.filter vx_no).filter goodWord, w ∈ lw_tbl := by decide +kernel
  exact List.mem_filter.mpr ⟨h1 w hw, (List.mem_filter.mp hw).2⟩
set_option maxRecDepth 100000 in
theorem nx_good : ∀ w ∈ Cond.classLink RX11 199 "java/util/NoSuchElementException" :: Cond.initialized "java/util/NoSuchElementException" :: nx_at.filter vx_no, vx_ot w = true := by decide +kernel
section NX
variable {p : Program} {l : Launch} {e : Env} {R : Room} {s : State} {m₀ : MethodId} {args : Array Value} {below : List Frame} {meth : Method} {c : Code} {W₀ : State} {locs : List Loc} {cells slots : Nat}
set_option maxHeartbeats 4000000 in
/-- the constructor's call and the throw (after the library's law for classes whose constructors pass on by place 7) -/
theorem nx_ctor (X : Stand p l e R s m₀ args below meth c W₀ locs cells slots) (hexec : p.tables.exec = Jvm.exec) (htr : e.platform.stackTraces = false)
    (hown : s.vm.findClass RX11 = some m₀.cls) (h : ∀ a ∈ nx_at, a.before args s = true)
    (hlocs : ∀ x ∈ locs, ∀ cell, s.heap[x.base]? = some cell → cell.vm.isStatics = false)
    {a : Addr} {cX : ClassId} {kX : Class} (hfoundX : s.vm.findClass "java/util/NoSuchElementException" = some cX) (hkX : s.vm.classes[cX]? = some kX) (hcell : W₀.heap[a]? = some (freshCell cX kX)) (hnew : s.heap.size ≤ a)
    {msg : Value} (hmsg : msg.isRef = true)
    {g : JFrame} (hg : g.method = m₀) (hsize : g.locals.size = c.maxLocals) (hlocked : g.locked = none) (hentered : g.entered = []) {rest : List Value} (hstack : g.stack = msg :: .ref a :: .ref a :: rest)
    (hd6 : decode c.code g.pc = .ok (.invokespecial 203, 3)) (hd9 : decode c.code (g.pc + 3) = .ok (.athrow, 1)) (hout : ∀ x ∈ c.exceptionTable.toList, covers x (g.pc + 3) = false)
    (hRframes : 2 + 3 < R.frames) (hRlocals : 2 * g.monitorRoom + ((Value.ref a :: rest).map fun v => v.category).sum + (13 * (2 + 1) + 42) ≤ R.locals) (hlocks : meth.locks = false) :
    ∃ U : State, Steps p.tables e below (W₀.setTop g) U ∧ U.status = .running ∧ Ended U below (.threw a) ∧ s.WarmedH U.vm ∧ s.sameButNew ({ U with vm := s.vm } : State) locs cells slots ∧
      ∃ ce, U.heap[a]? = some ce ∧ ce.vm = .none ∧ s.vm.findClass "java/util/NoSuchElementException" = some ce.cls := by
  have howns : e.platform.frameOwnsMonitors = true := by rw [X.admits.platform]
  have hfin : e.platform.finalization = false := by rw [X.admits.platform]
  have hpl : e.platform.magicAccessors = ({} : Platform).magicAccessors := by rw [X.admits.platform]
  have a' : ∀ x, x ∈ nx_tail → x.holds args s none s [] = true := fun x hx => h x (nx_i5 hx)
  obtain ⟨T, Z0, L, -, Y⟩ := ThrowableC.of_atoms (args := args) howns hfin hpl (fun x hx => h x (nx_i1 hx))
  obtain ⟨Z, M, LZ, LM, hnZ⟩ := Init0T.ofS_atoms (args := args) hpl L Y (fun x hx => h x (nx_i2 hx))
  obtain ⟨P1, L1, hP1m, hP1s⟩ := PassC.ofS_atoms (args := args) (s := s) hpl (X := "java/util/NoSuchElementException") (Y := "java/lang/RuntimeException") (by decide +kernel) (by decide +kernel) nx_6 nx_7 nx_8 nx_9 (fun x hx => h x (nx_i3 hx))
  obtain ⟨P2, Ps2, hlen2, L2, hL2, hP2m, hlink2, hlink3⟩ := Bundle.chainS (args := args) hpl hnZ ["java/lang/Exception"] "java/lang/RuntimeException" (by decide +kernel) (by decide +kernel) (fun x hx => h x (nx_i4 hx))
  have hlink1 : P1.sup = P2.m := Option.some.inj (hP1s.symm.trans hP2m)
  have hfound : s.vm.findClass "java/util/NoSuchElementException" = some P1.m.cls := findClass_of_methodNamed hP1m
  cases Option.some.inj (hfoundX.symm.trans hfound)
  obtain ⟨c1, kX', hc1, hk, hord, -, -, hn6⟩ := Cond.instantiable_spec (a' (.instantiable "java/util/NoSuchElementException" 6) (by simp [nx_tail]))
  cases Option.some.inj (hc1.symm.trans hfound)
  cases Option.some.inj (hkX.symm.trans hk)
  have hsel0 : selectMethod e.platform s.vm P1.m.cls T.fill0 = .method T.fill0 := by
    obtain ⟨c2, r2, m2, q1, q2, q3, q4, -⟩ := Cond.selects_spec (a' (.selects "java/util/NoSuchElementException" Bundle.tFill0 Bundle.tFill0) (by simp [nx_tail]))
    cases Option.some.inj (q1.symm.trans hfound)
    cases Option.some.inj (q2.symm.trans (State.methodFound?_of_named Y.fill0 (by decide)))
    cases Option.some.inj (q3.symm.trans Y.fill0)
    rw [Launch.admits_selectMethod X.admits]; exact q4
  have hselF : selectMethod e.platform s.vm P1.m.cls T.fill = .method T.fill := by
    obtain ⟨c2, r2, m2, q1, q2, q3, q4, -⟩ := Cond.selects_spec (a' (.selects "java/util/NoSuchElementException" Bundle.tFill Bundle.tFill) (by simp [nx_tail]))
    cases Option.some.inj (q1.symm.trans hfound)
    cases Option.some.inj (q2.symm.trans (State.methodFound?_of_named Y.fill (by decide)))
    cases Option.some.inj (q3.symm.trans Y.fill)
    rw [Launch.admits_selectMethod X.admits]; exact q4
  obtain ⟨cellS0, hcS0, hiss⟩ := Y.statics
  obtain ⟨u0, hu0⟩ := Cond.staticRefV Y.unassigned L.unassignedStatic L.statics hcS0 hiss (a' (.isRef (.static Bundle.tN "UNASSIGNED_STACK" Bundle.steD)) (by simp [nx_tail]))
  obtain ⟨sen, hsen⟩ := Cond.staticRefV Y.sentinel L.sentinelStatic L.statics hcS0 hiss (a' (.isRef (.static Bundle.tN "SUPPRESSED_SENTINEL" Bundle.listD)) (by simp [nx_tail]))
  obtain ⟨ci198, i198, fB, hk198, hg198, ha198, hsB, -, hnB, htB, hffB⟩ := Cond.ownField (t := .object "java/lang/Object") Y.found L.cls (by decide +kernel) (a' (.fieldLink Bundle.tN 198 Bundle.tN "backtrace" "Ljava/lang/Object;") (by simp [nx_tail])) (a' (.lays Bundle.tN Bundle.tN "backtrace" "Ljava/lang/Object;") (by simp [nx_tail])) e.platform hpl
  obtain ⟨cellS, hcS', heS, -, hkeep⟩ := X.same.2.2.2.2.2 T.aS cellS0 hcS0
  have hcellS : W₀.heap[T.aS]? = some cellS := hcS'
  have hout' : ∀ i, (⟨T.aS, i⟩ : Loc) ∉ locs := fun i hmem => by
    have := hlocs _ hmem cellS0 hcS0
    rw [hiss] at this; cases this
  have hknownS : cellS.vm ≠ .unknown := by
    rw [heS]; intro hu
    rw [show cellS0.vm = .unknown from hu] at hiss
    cases hiss
  have hneS : T.aS ≠ a := Nat.ne_of_lt (Nat.lt_of_lt_of_le (Array.getElem?_eq_some_iff.mp hcS0).1 hnew)
  obtain ⟨iM, hffM⟩ := Y.msg
  obtain ⟨tyC, dC, hdC, hdnC⟩ := Cond.laysAt hfound hk Y.cause (a' (.lays "java/util/NoSuchElementException" Bundle.tN "cause" "Ljava/lang/Throwable;") (by simp [nx_tail]))
  obtain ⟨tyS, dS, hdS, hdnS⟩ := Cond.laysAt hfound hk Y.stack (a' (.lays "java/util/NoSuchElementException" Bundle.tN "stackTrace" Bundle.steD) (by simp [nx_tail]))
  obtain ⟨tyP, dP, hdP, hdnP⟩ := Cond.laysAt hfound hk Y.supp (a' (.lays "java/util/NoSuchElementException" Bundle.tN "suppressedExceptions" Bundle.listD) (by simp [nx_tail]))
  obtain ⟨tyM, dM, hdM, hdnM⟩ := Cond.laysAt hfound hk hffM (a' (.lays "java/util/NoSuchElementException" Bundle.tN "detailMessage" "Ljava/lang/String;") (by simp [nx_tail]))
  obtain ⟨tyB, dB, hdB, hdnB⟩ := Cond.laysAt hfound hk hffB (a' (.lays "java/util/NoSuchElementException" Bundle.tN "backtrace" "Ljava/lang/Object;") (by simp [nx_tail]))
  have bC := Cond.laysApart hdB hdC hdnB hdnC (by rw [hnB, Y.causeName]; decide)
  have bS := Cond.laysApart hdB hdS hdnB hdnS (by rw [hnB, Y.stackName]; decide)
  have bP := Cond.laysApart hdB hdP hdnB hdnP (by rw [hnB, Y.suppName]; decide)
  have hskip : SkipFacts T e.platform s (fun u => u) u0 ((preparedCellV T.toThrowableT (freshCell P1.m.cls kX) a u0 sen).withEntry W₀.cur) :=
    ⟨{ ci198 := ci198, i198 := i198, fBack := fB }, ⟨hk198, hg198, ha198, hsB⟩, by
      have := fresh_default (c := P1.m.cls) tyB
      rw [htB] at this
      simpa [preparedCellV, Cell.setSlot, Cell.withEntry, Array.getElem?_setIfInBounds, bC, bS, bP, bC.symm, bS.symm, bP.symm, defaultValue] using this, fun _ _ => rfl⟩
  obtain ⟨tm, methC, cdC, kC, vm₁, hnC, -, -, -, -, -, -, -, hW₁, st1⟩ := Steps.initColdS (tb := p.tables) (e := e) (below := below) (s := s) (U := W₀) X.here hexec X.warmed hpl hown (t := Bundle.initS "java/util/NoSuchElementException") rfl rfl (by decide +kernel)
    (a' (.methodLink RX11 203 (Bundle.initS "java/util/NoSuchElementException")) (by simp [nx_tail])) (h (.instanceMethod (Bundle.initS "java/util/NoSuchElementException")) (nx_i3 (by simp [Bundle.passSAtoms]))) (bytes := prog_32_method_4_code) (maxL := 2) (h (.code (Bundle.initS "java/util/NoSuchElementException") prog_32_method_4_code 2 none) (nx_i3 (by simp [Bundle.passSAtoms])))
    (f := g) hg (a := a) (msg := msg) (rest := .ref a :: rest) hstack hd6
  cases Option.some.inj (hnC.symm.trans hP1m)
  have X₁ := X.noted hW₁
  have hlenP : Ps2.length = 1 := hlen2
  obtain ⟨vm₂, X₂, st2⟩ := X₁.ctorMessageOffV hexec (g := { g with stack := .ref a :: rest }) hg hsize T L Z LZ M LM (P1 :: P2 :: Ps2)
    (fun P hP => by
      rcases List.mem_cons.mp hP with rfl | hP
      · exact L1
      · rcases List.mem_cons.mp hP with rfl | hP
        · exact L2
        · exact hL2 P hP) ⟨hlink1, hlink2, hlink3⟩ (u0 := u0) (sen := sen) (self := a) hmsg (cell := freshCell P1.m.cls kX) (cellS := cellS)
    hcell (fun _ => by simp) (by simp) rfl rfl hsel0 hselF hcellS hneS hknownS (by rw [hkeep _ (hout' _)]; exact hu0) (by rw [hkeep _ (hout' _)]; exact hsen)
    (Takes.of_laid hk hord tyC (by rw [Y.causeType]; rfl)) (Takes.of_laid hk hord tyS (by rw [Y.stackType]; exact fits_refV_array _ u0)) (Takes.of_laid hk hord tyP (by rw [Y.suppType]; exact fits_refV_object _ sen))
    (Takes.of_laid hk hord tyM (by rw [Y.msgType]; exact fits_refV_object _ ⟨msg, hmsg⟩)) Y.objLocals hskip htr [] hd6
    (by simp only [List.length_cons, hlenP]; omega) (by simp only [List.length_cons, hlenP]; exact hRlocals)
  obtain ⟨hwalk, hrun, hended, hWU, hsame⟩ := X₂.athrowLeaves hexec (g := { g with stack := .ref a :: rest, pc := g.pc + 3 }) hg hlocked hentered hout (a := a) (rest := rest) rfl hd9
  have hlt : a < ((W₀.setVm vm₁).setVm vm₂).heap.size := (Array.getElem?_eq_some_iff.mp hcell).1
  have hU := heapAt_setCell_self (s := (W₀.setVm vm₁).setVm vm₂) (plainBareV T.toThrowableT (freshCell P1.m.cls kX) a u0 sen msg) hlt
  refine ⟨_, st1 _ (fun acts => ?_), hrun, hended, hWU, hsame.weaken (fun y hy hlt' => ?_) (Nat.le_refl _) (Nat.le_refl _), _, hU, rfl, hfound⟩
  · rw [doInvoke_state]
    exact st2 _ hwalk
  · rcases List.mem_append.mp hy with h1 | h1
    · exact h1
    · exfalso
      have hb : y.base = a := by
        simp only [List.mem_cons, List.not_mem_nil, or_false] at h1
        rcases h1 with rfl | rfl | rfl | rfl | rfl <;> rfl
      rw [hb] at hlt'
      exact Nat.not_lt.mpr hnew hlt'
end NX
section NY
variable {p : Program} {l : Launch} {e : Env} {R : Room} {s : State} {m : MethodId} {args : Array Value} {below : List Frame} {meth : Method} {c : Code} {H : Heap} {locs : List Loc} {cells slots : Nat} {free : Addr → Prop} {ls : Array Slot} {rest : List Value} {Qc : Array Value → State → Outcome → State → Prop} {XC : String → State → State → Prop}
set_option maxHeartbeats 4000000 in
theorem nx_throw {cc : ByteArray} {pc : Nat} (hexec : p.tables.exec = Jvm.exec) (hb : c.code = cc) (hl : l.stackTraces = false) {text : String} {is mc ms sa : Nat} {A : Nat → Prop}
    (hown : s.vm.findClass RX11 = some m.cls)
    (hk : (Cond.classLink RX11 199 "java/util/NoSuchElementException").before args s = true) (hini : (Cond.initialized "java/util/NoSuchElementException").before args s = true) (hstr : vk_R RX11 is text sa s) (hat : ∀ w ∈ nx_at.filter vx_no, w.before args s = true)
    (hU : vx_Zq Bundle.tN "UNASSIGNED_STACK" Bundle.steD A s s.heap) (hN : vx_Zq Bundle.tN "SUPPRESSED_SENTINEL" Bundle.listD A s s.heap) (hS : va_S A s.heap H locs) (hsize : ls.size = c.maxLocals)
    (d0 : decode cc pc = .ok (.new 199, 3)) (d3 : decode cc (pc + 3) = .ok (.dup, 1)) (d4 : decode cc (pc + 4) = .ok (.ldc is, 2)) (d6 : decode cc (pc + 6) = .ok (.invokespecial 203, 3)) (d9 : decode cc (pc + 9) = .ok (.athrow, 1))
    (hout : ∀ x ∈ c.exceptionTable.toList, covers x (pc + 9) = false)
    (hRframes : 2 + 3 < R.frames) (hRlocals : (rest.map fun v => v.category).sum + (13 * (2 + 1) + 43) ≤ R.locals) (hRcells : cells + 1 ≤ R.cells) (hRslots : slots + 6 ≤ R.slots) (hlocks : meth.locks = false)
    (hx : ∀ t : State, s.vm.Alike t.vm → H.size ≤ t.heap.size → (∀ q : Nat, q < H.size → t.heap[q]? = H[q]?) → XC "java/util/NoSuchElementException" s t)
    (hf : ∀ z ∈ locs, free z.base) (hc : cells + 1 ≤ mc) (hs : slots + 6 ≤ ms) :
    W p l e R s m args below meth c H locs cells slots (vx_MQ below Qc XC args s mc ms free) (F0 m pc ls rest) := by
  intro T hT X
  have htr : e.platform.stackTraces = false := (show e.platform.stackTraces = l.stackTraces by rw [X.admits.platform]).trans hl
  have Y := vx_rebase X (R' := { frames := R.frames, locals := R.locals, cells := 1, slots := 6 }) (Nat.le_refl _) (Nat.le_refl _) hRcells hRslots
  obtain ⟨s', hA⟩ : ∃ z, z = (T.setVm s.vm).setFrames (.invoking m args :: below) := ⟨_, rfl⟩
  rw [← hA] at Y
  have hvm : s'.vm = s.vm := by rw [hA]; rfl
  have hhp : s'.heap = H := by rw [hA]; exact hT
  have hW0 : s.WarmedH s'.vm := by rw [hvm]; exact State.WarmedH.refl s
  have hat' : ∀ w ∈ nx_at.filter vx_no, w.before args s' = true := fun w hw => vx_ot_at hW0 hvm.symm (nx_good w (List.mem_cons_of_mem _ (List.mem_cons_of_mem _ hw))) (hat w hw)
  have hk' : (Cond.classLink RX11 199 "java/util/NoSuchElementException").before args s' = true := vx_ot_at hW0 hvm.symm (nx_good _ List.mem_cons_self) hk
  have hini' : (Cond.initialized "java/util/NoSuchElementException").before args s' = true := vx_ot_at hW0 hvm.symm (nx_good _ (List.mem_cons_of_mem _ List.mem_cons_self)) hini
  have hU' : vx_Zq Bundle.tN "UNASSIGNED_STACK" Bundle.steD A s' s'.heap := by rw [hhp]; exact vx_Zq.moved hW0.alike (hU.kept hS.2.1)
  have hN' : vx_Zq Bundle.tN "SUPPRESSED_SENTINEL" Bundle.listD A s' s'.heap := by rw [hhp]; exact vx_Zq.moved hW0.alike (hN.kept hS.2.1)
  have h : ∀ w ∈ nx_at, w.before args s' = true := vx_own hat' (vx_isRefq hU'.1) (vx_isRefq hN'.1) hU'.2.word hN'.2.word
  have hown' : s'.vm.findClass RX11 = some m.cls := by rw [hvm]; exact hown
  have hins : (Cond.instantiable "java/util/NoSuchElementException" 6).before args s' = true := h _ (nx_i5 (by simp [nx_tail]))
  obtain ⟨vm₁, cX, kX, hfX, hkX, -, -, X₁, st1⟩ := Y.newCold hexec (own := RX11) (C := "java/util/NoSuchElementException") (index := 199) (n := 6) hown' hk' hins hini'
    (g := F0 m pc ls rest) rfl (by rw [hb]; exact d0) (Nat.le_refl _) (Nat.le_refl _)
  generalize hT1 : (T.setVm vm₁).pushCell { cls := cX, slots := kX.instanceTypes.map defaultValue, vm := .none } = T1 at X₁ st1
  have hcat : (Value.ref T.heap.size).category = 1 := rfl
  have hcellA : T1.heap[T.heap.size]? = some (freshCell cX kX) := by rw [← hT1]; exact State.heap_pushCell_size _ _
  have d3' : decode c.code (pc + 3) = .ok (.dup, 1) := by rw [hb]; exact d3
  have d4' : decode c.code (pc + 4) = .ok (.ldc is, 2) := by rw [hb]; exact d4
  have hstr' : vk_R RX11 is text sa s' := vk_R.warm hW0 hstr
  obtain ⟨U, hsteps, hrun, hend, hW, hsame, ce, hce, hO, hcl⟩ := nx_ctor X₁ hexec htr hown' h (fun x hx => nomatch hx) hfX hkX hcellA (by rw [hhp, hT]; exact Nat.le_refl _) (msg := .ref sa) rfl
    (g := { method := m, pc := pc + 6, locals := ls, stack := .ref sa :: .ref T.heap.size :: .ref T.heap.size :: rest, locked := none }) rfl hsize rfl rfl (rest := rest) rfl
    (by rw [hb]; exact d6) (by rw [hb]; exact d9) hout hRframes (by simp only [List.map_cons, List.sum_cons, hcat]; omega) hlocks
  obtain ⟨f1, f2⟩ := vx_frame hsame
  rw [hhp] at f1 f2
  have hWs : s.WarmedH U.vm := State.WarmedH.trans hW0 hW
  have hcl : s.vm.findClass "java/util/NoSuchElementException" = some ce.cls := by
    rw [hvm] at hcl
    exact hcl
  have hall : s.sameButNew ({ U with vm := s.vm } : State) locs mc ms := by
    subst hA
    obtain ⟨e1, e2⟩ := hsame
    rw [State.setFrames_setFrames] at e1
    have h2 : (T.setVm s.vm).sameButNew ({ U with vm := s.vm } : State) [] (0 + 1) (0 + 6) := ⟨e1, e2⟩
    have h3 := X.same.trans h2
    rw [List.append_nil] at h3
    exact h3.mono hc hs
  refine ⟨U, ?_, .threw T.heap.size, hrun, hend, Or.inr ⟨T.heap.size, rfl, "java/util/NoSuchElementException", ce, locs, hx U hWs.alike f1 (fun q hq => f2 q hq (fun z hz => nomatch hz)), hce, hO, hcl, hWs, hall, hf⟩⟩
  refine st1 _ ?_
  show Steps p.tables e below (T1.setTop { method := m, pc := pc + 3, locals := ls, stack := .ref T.heap.size :: rest, locked := none }) _
  jvm_step X₁.here [X₁.here.top, hexec, d3', Value.category]
  exact X₁.ldcString hexec (own := RX11) (text := text) (index := is) (a := sa) hown' hstr'.1 hstr'.2
    (g := { method := m, pc := pc + 4, locals := ls, stack := .ref T.heap.size :: .ref T.heap.size :: rest, locked := none }) rfl d4' _ hsteps
end NY
set_option maxRecDepth 100000 in
theorem nx_cl : Cond.classLink RX11 199 "java/util/NoSuchElementException" ∈ wt_ := List.mem_filter.mpr ⟨by decide +kernel, rfl⟩
set_option maxRecDepth 100000 in
theorem nx_in : Cond.initialized "java/util/NoSuchElementException" ∈ wt_ := List.mem_filter.mpr ⟨by decide +kernel, rfl⟩
/-- 'throw new NoSuchElementException(text)' -/
theorem J_throw {Γ : Gm} {pc is_ : Nat} {tx : String} {i_ : Nat} {lv : List (Nat × AV)} {σ : Sg} {fr lo : Nat} (C1 : CY Γ cX11_wheel RX11 4 fr lo σ) (hi : (is_ = 201 ∧ tx = "no such wheel" ∧ i_ = 12) ∨ (is_ = 219 ∧ tx = "no such what" ∧ i_ = 13)) (d0 : decode cX11_wheel pc = .ok (.new 199, 3)) (d3 : decode cX11_wheel (pc + 3) = .ok (.dup, 1)) (d4 : decode cX11_wheel (pc + 4) = .ok (.ldc is_, 2)) (d6 : decode cX11_wheel (pc + 6) = .ok (.invokespecial 203, 3)) (d9 : decode cX11_wheel (pc + 9) = .ok (.athrow, 1)) (hfr : 5 < fr) (hlo : 82 ≤ lo) : J_ Γ pc lv [] σ 0 0 := by
  obtain ⟨p, l, e, R, s, m, args, below, meth, c, κ, z, tA, D, nL, Z⟩ := Γ
  obtain ⟨⟨hx, hb, hml, hown, hts, hK, hX, hz⟩, hnl, hY, hl0, hex, hlk, hR, hZ⟩ := C1
  have hR : R = { frames := fr, cells := 1, slots := 6, locals := lo } := hR
  have hZ : Z = vx_MQ below cx_F (xc_ tA D z σ) args s 1 6 (fun q => z ≤ q) := hZ
  subst hR hZ
  obtain ⟨y1, y2, y3, y4, y5, y6⟩ := hY
  have hstr : vk_R RX11 is_ tx (κ i_) s := by
    rcases hi with ⟨rfl, rfl, rfl⟩ | ⟨rfl, rfl, rfl⟩
    · exact y3
    · exact y4
  intro H locs ls hP hS hl
  refine nx_throw (A := fun q => z ≤ q) hx hb hl0 hown (hts _ nx_cl) (hts _ nx_in) hstr (nx_hat hts y2) y5 y6 hS (hl.1.trans hml.symm) d0 d3 d4 d6 d9 (fun x hx => absurd (hex x hx) id) (by show 2 + 3 < fr; omega) (by show 0 + (13 * (2 + 1) + 43) ≤ lo; omega) (Nat.le_refl _) (Nat.le_refl _) hlk ?_ hS.2.2 (Nat.le_refl _) (Nat.le_refl _)
  intro t ha h1 h2
  refine ⟨rfl, ⟨_, pl_pad hP h1 h2⟩, Nat.le_trans hS.1 h1, fun q g1 g2 => ?_⟩
  rw [h2 q (Nat.lt_of_lt_of_le g1 hS.1)]
  exact hS.2.1 q g1 g2
/-- where wheel throws -/
def x_X11_wheel (a0 : Nat) (x1 x2 : Int32) (σ : Sg) : Prop := f_X11_isWheel a0 x1 σ = some 0 ∨ ∃ p1 b3 b4, f_X11_isWheel a0 x1 σ = some p1 ∧ p1 ≠ 0 ∧ sg_R σ a0 13 = some b3 ∧ sg_R σ b3 0 = some b4 ∧ ¬ (x1 < 0 ∨ sg_L σ b4 ≤ x1.toNatClampNeg) ∧ (x2.toInt < 0 ∨ 5 < x2.toInt)
set_option maxHeartbeats 4000000 in
set_option maxRecDepth 100000 in
theorem tx_X11_wheel (a0 : Nat) (x1 : Int32) (x2 : Int32) {σ : Sg} (hT : sg_T σ) (h0 : is_A σ a0 10) (hx : x_X11_wheel a0 x1 x2 σ) : Cx yX11_wheel cX11_wheel 4 (some .int) 8 120 [vr (some a0), vi x1, vi x2] σ := by
  refine Cx.of (by decide +kernel) (Nat.le_of_ble_eq_true rfl) (fun Γ C1 => ?_)
  have C0 := C1.1
  show J_ Γ 0 [(0, vr (some a0)), (1, vi (x1)), (2, vi (x2))] [] σ 0 0
  refine J_aload_n (q := 1) C0 0 rfl rfl dX11_wheel_0 rfl trivial ?_
  refine J_iload_n (q := 2) C0 1 rfl rfl dX11_wheel_1 rfl ?_
  obtain ⟨p1, hp1⟩ : ∃ p1, f_X11_isWheel a0 x1 σ = some p1 := by
    rcases hx with h | ⟨p1, b3, b4, h, -⟩
    · exact ⟨_, h⟩
    · exact ⟨_, h⟩
  refine J_callV (q := 5) (ci := 10) (as := [vi (x1)]) (rest := []) C0 rfl (h0) (t_X11_isWheel a0 (x1) (hT) (h0)  hp1) ml_X11_isWheel lk_X11_195 im_X11_isWheel se_X11_isWheel rfl (by decide) dX11_wheel_2 rfl rfl rfl (by simp [ac_]) C1.room (by decide) (by decide) (by decide) (by decide) (fun r_ τ_ hQ => ?_)
  obtain ⟨⟨rfl, zp1⟩, ht_⟩ := hQ; have ht_ := ht_.symm; subst ht_
  show J_ Γ 5 [(0, vr (some a0)), (1, vi (x1)), (2, vi (x2))] [vi (p1)] σ 0 0
  have hf : (if p1 = 0 then some () else some ()) = some () := by split <;> rfl
  refine J_if_ne (t := 18) (q := 8) C0 dX11_wheel_5 (by decide) rfl hf (fun c2 hf => ?_) (fun c2 hf => ?_)
  · obtain ⟨b3, b4, hb3, hb4, c5, hx2⟩ : ∃ b3 b4, sg_R σ a0 13 = some b3 ∧ sg_R σ b3 0 = some b4 ∧ ¬ (x1 < 0 ∨ sg_L σ b4 ≤ x1.toNatClampNeg) ∧ (x2.toInt < 0 ∨ 5 < x2.toInt) := by
      rcases hx with h | ⟨p2, b3, b4, h, h1, h2, h3, h4, h5⟩
      · rw [hp1] at h
        exact absurd (Option.some.inj h) c2
      · exact ⟨b3, b4, h2, h3, h4, h5⟩
    refine J_aload_n (q := 19) C0 0 rfl rfl dX11_wheel_18 rfl trivial ?_
    refine J_getR (q := 22) C0 fl_X11_75_10 rfl (h0) rfl dX11_wheel_19 rfl ?_
    have ab3 : is_A σ b3 6 := ((sg_T.op hT (j := 13) (h0) rfl)) b3 hb3
    refine J_getR (q := 25) C0 fl_X11_153_6 hb3 (ab3) rfl dX11_wheel_22 rfl ?_
    refine J_iload_n (q := 26) C0 1 rfl rfl dX11_wheel_25 rfl ?_
    have ab4 : is_A σ b4 18 := ((sg_T.op hT (j := 0) (ab3) rfl)) b4 hb4
    refine J_aald (q := 27) C0 hb4 (ab4) (by decide) c5 dX11_wheel_26 rfl ?_
    refine J_astore_n (q := 28) (lv' := [(3, vr (sg_R σ b4 (x1).toNatClampNeg)), (0, vr (some a0)), (1, vi (x1)), (2, vi (x2))]) C0 rfl (by rw [C1.2.1]; decide) dX11_wheel_27 rfl trivial rfl ?_
    refine J_iload_n (q := 29) C0 3 rfl rfl dX11_wheel_28 rfl ?_
    refine J_tblOut (t := 111) C0 dX11_wheel_29 hx2 (by decide) ?_
    exact J_throw C1 (Or.inr ⟨rfl, rfl, rfl⟩) dX11_wheel_111 dX11_wheel_114 dX11_wheel_115 dX11_wheel_117 dX11_wheel_120 (by decide) (by decide)
  · exact J_throw C1 (Or.inl ⟨rfl, rfl, rfl⟩) dX11_wheel_8 dX11_wheel_11 dX11_wheel_12 dX11_wheel_14 dX11_wheel_17 (by decide) (by decide)
