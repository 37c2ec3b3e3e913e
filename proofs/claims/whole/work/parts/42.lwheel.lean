/-! ===== the law's own helper: wheel, with its table ===== -/
def YG (Γ : Gm) (hh : List (Nat × Nat × Nat × Nat)) : Prop := match Γ with
  | (_, l, _, _, s, _, _, _, _, c, κ, z, _, _, _, _) => k_Y κ z s ∧ l.stackTraces = false ∧ c.exceptionTable.toList = tableOf hh
def Cw (y : MethodName) (b : ByteArray) (mL : Nat) (ret : Option FieldType) (hh : List (Nat × Nat × Nat × Nat)) (fr lo mc ms : Nat) (as : List AV) (σ : Sg) (Q : Option AV → Sg → Prop) : Prop :=
  ∀ (l : Launch), l.stackTraces = false → ∀ (κ : Nat → Nat) (z : Nat) (tA : Nat → ClassId) (D : va_G), Met l y (Cond.codeWith y b mL ret hh :: wt_) { frames := fr, cells := mc, slots := ms, locals := lo } (cy_P κ z tA D as σ) (ct_Q κ z tA D Q) mc ms (fun q => z ≤ q)
theorem Cw.of {y : MethodName} {b : ByteArray} {mL : Nat} {ret : Option FieldType} {hh : List (Nat × Nat × Nat × Nat)} {fr lo mc ms : Nat} {as : List AV} {σ : Sg} {Q : Option AV → Sg → Prop} (hy : plainName y.cls = true) (hsz : (as.map ac_).sum ≤ mL) (h : ∀ Γ : Gm, CM Γ b y.cls mL ret fr lo mc ms Q → YG Γ hh → J_ Γ 0 (al_ 0 as) [] σ 0 0) : Cw y b mL ret hh fr lo mc ms as σ Q := by
  intro l hl κ z tA D
  refine va_MetW (cc := b) (maxL := mL) (ret := ret) (hh := hh) hy rfl ?_
  intro p e s m args below meth c s₁ B hml hv
  obtain ⟨rfl, hP, hK, hX, hz⟩ := hv
  have hts := atoms_spec (ws := Cond.codeWith y b mL ret hh :: wt_) B.pre
  have hex : c.exceptionTable.toList = tableOf hh := vx_table (x := y) B (hts _ List.mem_cons_self)
  have key := h (p, l, e, (headSpec (Cond.codeWith y b mL ret hh :: wt_) { frames := fr, cells := mc, slots := ms, locals := lo }).room, s, m, (as.map (av_ κ z)).toArray, below, meth, c, κ, z, tA, D, mL, MQ below (ct_Q κ z tA D Q) (as.map (av_ κ z)).toArray s mc ms (fun q => z ≤ q)) ⟨⟨B.exec, B.bytes, hml, findClass_of_methodNamed B.named, fun w hw => hts w (List.mem_cons_of_mem _ hw), hK, hX.1, hz⟩, rfl, B.returns, B.notSynchronized, rfl, rfl⟩ ⟨hX, hl, hex⟩
  have hlen : (lg_sl (as.map (av_ κ z))).length ≤ mL := by rw [al_len]; exact hsz
  have hl := lv_entry (as.map (av_ κ z)) (n := mL) hlen
  rw [lg_entry_eq]
  rw [lv_args_map] at hl
  exact key s.heap [] _ hP va_S.rf hl
set_option maxRecDepth 100000 in
theorem lk_L_7w : Cond.methodLink RL 7 yX11_wheel ∈ wt_ := wt_in (i := 1293) (by decide +kernel) rfl
set_option maxRecDepth 100000 in
theorem cl_L_13 : Cond.classLink RL 13 "java/util/NoSuchElementException" ∈ wt_ := wt_in (i := 1292) (by decide +kernel) rfl
abbrev hh_L : List (Nat × Nat × Nat × Nat) := [(0, 10, 13, 13)]
set_option maxRecDepth 100000 in
theorem cw_L_wheel : Cond.codeWith yL_wheel cL_wheel 5 (some .int) hh_L ∈ wt_ := wt_in (i := 1291) (by decide +kernel) rfl
set_option maxHeartbeats 4000000 in
set_option maxRecDepth 100000 in
theorem tr_L_wheel (a0 o : Nat) (x1 x2 : Int32) {σ : Sg} (hT : sg_T σ) (h0 : is_A σ a0 10) (ho : is_A σ o 19) (hL : 0 < sg_L σ o) {r : Int32} (hf : f_X11_wheel a0 x1 x2 σ = some r) : Cw yL_wheel cL_wheel 5 (some .int) hh_L 9 160 1 6 [vr (some a0), vi x1, vi x2, vr (some o)] σ (fun r_ τ_ => r_ = some (vi 0) ∧ τ_ = put_J σ o 0 r.toInt64) := by
  refine Cw.of (by decide +kernel) (Nat.le_of_ble_eq_true rfl) (fun Γ C1 Y1 => ?_)
  have C0 := C1.1
  show J_ Γ 0 [(0, vr (some a0)), (1, vi x1), (2, vi x2), (3, vr (some o))] [] σ 0 0
  refine J_aload_n (q := 1) C0 3 rfl rfl dL_wheel_0 rfl trivial ?_
  refine J_iconst (q := 2) (v := 0) C0 dL_wheel_1 rfl rfl ?_
  refine J_aload_n (q := 3) C0 0 rfl rfl dL_wheel_2 rfl trivial ?_
  refine J_iload_n (q := 4) C0 1 rfl rfl dL_wheel_3 rfl ?_
  refine J_iload_n (q := 5) C0 2 rfl rfl dL_wheel_4 rfl ?_
  refine J_callV (q := 8) (ci := 10) (as := [vi x1, vi x2]) (rest := [vi 0, vr (some o)]) C0 rfl h0 (t_X11_wheel a0 x1 x2 hT h0 hf) ml_X11_wheel lk_L_7w im_X11_wheel se_X11_wheel rfl (by decide) dL_wheel_5 rfl rfl rfl (by simp [ac_]) C1.room (by decide) (by decide) (by decide) (by decide) (fun r_ τ_ hQ => ?_)
  obtain ⟨rfl, ht_⟩ := hQ; have ht_ := ht_.symm; subst ht_
  show J_ Γ 8 [(0, vr (some a0)), (1, vi x1), (2, vi x2), (3, vr (some o))] [vi r, vi 0, vr (some o)] σ 0 0
  refine J_i2l (q := 9) C0 dL_wheel_8 rfl ?_
  refine J_last (q := 10) C0 rfl ho (by
    intro h
    rcases h with h | h
    · exact absurd h (by decide)
    · exact absurd h (Nat.not_le.mpr hL)) dL_wheel_9 rfl ?_
  refine J_goto (q := 17) C0 dL_wheel_10 (by decide) ?_
  refine J_iconst (q := 18) (v := 0) C0 dL_wheel_17 rfl rfl ?_
  exact J_iret C1 dL_wheel_18 rfl (Nat.zero_le _) (Nat.zero_le _) ⟨rfl, rfl⟩
set_option maxHeartbeats 4000000 in
set_option maxRecDepth 100000 in
theorem tx_L_wheel (a0 o : Nat) (x1 x2 : Int32) {σ : Sg} (hT : sg_T σ) (h0 : is_A σ a0 10) (hx : x_X11_wheel a0 x1 x2 σ) : Cw yL_wheel cL_wheel 5 (some .int) hh_L 9 160 1 6 [vr (some a0), vi x1, vi x2, vr (some o)] σ (fun r_ τ_ => r_ = some (vi 1) ∧ ∃ n, τ_ = pad_C σ n) := by
  refine Cw.of (by decide +kernel) (Nat.le_of_ble_eq_true rfl) (fun Γ C1 Y1 => ?_)
  have C0 := C1.1
  show J_ Γ 0 [(0, vr (some a0)), (1, vi x1), (2, vi x2), (3, vr (some o))] [] σ 0 0
  refine J_aload_n (q := 1) C0 3 rfl rfl dL_wheel_0 rfl trivial ?_
  refine J_iconst (q := 2) (v := 0) C0 dL_wheel_1 rfl rfl ?_
  refine J_aload_n (q := 3) C0 0 rfl rfl dL_wheel_2 rfl trivial ?_
  refine J_iload_n (q := 4) C0 1 rfl rfl dL_wheel_3 rfl ?_
  refine J_iload_n (q := 5) C0 2 rfl rfl dL_wheel_4 rfl ?_
  have hM := tx_X11_wheel a0 x1 x2 hT h0 hx
  obtain ⟨p, l, e, R, s, m, args, below, meth, c, κ, z, tA, D, nL, Z⟩ := Γ
  obtain ⟨hC, hnl, hrt, hlk, hR, hZ⟩ := C1
  obtain ⟨hx1, hb, hml, hown, hts, hK, hX, hz⟩ := C0
  obtain ⟨hY, hl0, hex⟩ := Y1
  have hR : R = { frames := 9, cells := 1, slots := 6, locals := 160 } := hR
  subst hR hZ
  intro H locs ls hP hS hl
  have hsz : ls.size = nL := hl.1
  have hr := vx_runV (p := p) (l := l) (e := e) (R := { frames := 9, cells := 1, slots := 6, locals := 160 }) (s := s) (m := m) (args := args) (below := below) (meth := meth) (c := c) (H := H) (locs := locs) (cells := 0) (slots := 0) (C := RX11) (b := z + a0) (As := [.int x1, .int x2]) (rest := [.int 0, .ref (z + o)]) (g := F0 m 5 ls [.int x2, .int x1, .ref (z + a0), .int 0, .ref (z + o)]) ⟨hx1, hb, hml, hown, hts⟩ (hM l hl0 κ z tA D) ⟨callB_of 2 hts (wt_good ml_X11_wheel.1) rfl rfl rfl (hts _ ml_X11_wheel.2.1) (hts _ lk_L_7w) ml_X11_wheel.2.2 ⟨by decide, by decide⟩, hts _ im_X11_wheel, hts _ se_X11_wheel⟩ ⟨cy_blind, pl_recv hK hP (ci := 10) rfl (by decide) h0, cy_pre (p := p) (as := vr (some a0) :: [vi x1, vi x2]) hP hS hK hY hz⟩ rfl rfl hsz rfl (lv_room (by show 2 ≤ 8; decide)) dL_wheel_5 ⟨by decide, by decide⟩
  intro T hT X
  rcases hr T hT X with ⟨v, st₀, t, T', L, h0', X', hL, e1, e2, hq, st⟩ | ⟨q9, st₀, t, T', L, E, ce, h0', X', hL, e1, e2, ⟨hE, ⟨n, hPn⟩, hF⟩, hce, hcv, hcl, st⟩
  · exact absurd hq id
  · subst hE
    have k := vx_keep (A0 := fun q => z ≤ q) (A1 := fun q => z ≤ q) (free := fun q => z ≤ q) h0' e1 hS (fun q _ h => h) (fun q h => h) hL hF
    have hcatch : vx_W p l e { frames := 9, cells := 1, slots := 6, locals := 160 } s m args below meth c T'.heap (locs ++ L) (0 + 1) (0 + 6) (MQ below (ct_Q κ z tA D (fun r_ τ_ => r_ = some (vi 1) ∧ ∃ n, τ_ = pad_C σ n)) args s 1 6 (fun q => z ≤ q)) (F0 m 5 ls [.int 0, .ref (z + o)]) q9 := by
      refine vx_catch (own := RL) (name := "java/util/NoSuchElementException") (E := nx_E) (ce := ce) hown [] ⟨0, 10, 13, 13⟩ [] (by rw [hex]; rfl) (fun z hz => nomatch hz) rfl (by decide) (hts _ cl_L_13) (va_Nw.use rfl hY.2.1.1) (by rw [e1]; exact hce) hcv hcl ?_
      refine lv_astore hx1 hb dL_wheel_13 hl (by have h9 : nL = 5 := hnl; omega) rfl fun ls' hl' => ?_
      refine lv_iconst hx1 hb (v := 1) dL_wheel_15 rfl ?_
      exact W.iret hx1 hb hrt (fun t9 ht hW => ⟨⟨some (vi 1), pad_C σ n, rfl, ⟨rfl, n, rfl⟩, by rw [ht, e1]; exact hPn⟩, k.2.2.F ht⟩) k.2.2.2.2 dL_wheel_16 (hlocks := hlk)
    obtain ⟨t2, a1, b1⟩ := hcatch T' rfl X'
    exact ⟨t2, st.trans a1, b1⟩
