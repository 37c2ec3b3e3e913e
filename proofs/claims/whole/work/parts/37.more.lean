theorem df_X0 : ∀ j, j < 10 → defaultValue (tyX0 j) = (if (pl_ft 0)[j]? = some 0 then .int 0 else if (pl_ft 0)[j]? = some 1 then .null else .long 0) := by
  intro j hj
  rcases (show j = 0 ∨ j = 1 ∨ j = 2 ∨ j = 3 ∨ j = 4 ∨ j = 5 ∨ j = 6 ∨ j = 7 ∨ j = 8 ∨ j = 9 by omega) with rfl | rfl | rfl | rfl | rfl | rfl | rfl | rfl | rfl | rfl <;> rfl
theorem df_X1 : ∀ j, j < 7 → defaultValue (tyX1 j) = (if (pl_ft 1)[j]? = some 0 then .int 0 else if (pl_ft 1)[j]? = some 1 then .null else .long 0) := by
  intro j hj
  rcases (show j = 0 ∨ j = 1 ∨ j = 2 ∨ j = 3 ∨ j = 4 ∨ j = 5 ∨ j = 6 by omega) with rfl | rfl | rfl | rfl | rfl | rfl | rfl <;> rfl
theorem df_X2 : ∀ j, j < 3 → defaultValue (tyX2 j) = (if (pl_ft 2)[j]? = some 0 then .int 0 else if (pl_ft 2)[j]? = some 1 then .null else .long 0) := by
  intro j hj
  rcases (show j = 0 ∨ j = 1 ∨ j = 2 by omega) with rfl | rfl | rfl <;> rfl
theorem df_X3 : ∀ j, j < 5 → defaultValue (tyX3 j) = (if (pl_ft 3)[j]? = some 0 then .int 0 else if (pl_ft 3)[j]? = some 1 then .null else .long 0) := by
  intro j hj
  rcases (show j = 0 ∨ j = 1 ∨ j = 2 ∨ j = 3 ∨ j = 4 by omega) with rfl | rfl | rfl | rfl | rfl <;> rfl
theorem df_X4 : ∀ j, j < 7 → defaultValue (tyX4 j) = (if (pl_ft 4)[j]? = some 0 then .int 0 else if (pl_ft 4)[j]? = some 1 then .null else .long 0) := by
  intro j hj
  rcases (show j = 0 ∨ j = 1 ∨ j = 2 ∨ j = 3 ∨ j = 4 ∨ j = 5 ∨ j = 6 by omega) with rfl | rfl | rfl | rfl | rfl | rfl | rfl <;> rfl
theorem df_X5 : ∀ j, j < 3 → defaultValue (tyX5 j) = (if (pl_ft 5)[j]? = some 0 then .int 0 else if (pl_ft 5)[j]? = some 1 then .null else .long 0) := by
  intro j hj
  rcases (show j = 0 ∨ j = 1 ∨ j = 2 by omega) with rfl | rfl | rfl <;> rfl
theorem df_X7 : ∀ j, j < 8 → defaultValue (tyX7 j) = (if (pl_ft 6)[j]? = some 0 then .int 0 else if (pl_ft 6)[j]? = some 1 then .null else .long 0) := by
  intro j hj
  rcases (show j = 0 ∨ j = 1 ∨ j = 2 ∨ j = 3 ∨ j = 4 ∨ j = 5 ∨ j = 6 ∨ j = 7 by omega) with rfl | rfl | rfl | rfl | rfl | rfl | rfl | rfl <;> rfl
theorem df_X8 : ∀ j, j < 1 → defaultValue (tyX8 j) = (if (pl_ft 7)[j]? = some 0 then .int 0 else if (pl_ft 7)[j]? = some 1 then .null else .long 0) := by
  intro j hj
  rcases (show j = 0 by omega) with rfl <;> rfl
theorem df_X9 : ∀ j, j < 5 → defaultValue (tyX9 j) = (if (pl_ft 8)[j]? = some 0 then .int 0 else if (pl_ft 8)[j]? = some 1 then .null else .long 0) := by
  intro j hj
  rcases (show j = 0 ∨ j = 1 ∨ j = 2 ∨ j = 3 ∨ j = 4 by omega) with rfl | rfl | rfl | rfl | rfl <;> rfl
theorem df_X10 : ∀ j, j < 4 → defaultValue (tyX10 j) = (if (pl_ft 9)[j]? = some 0 then .int 0 else if (pl_ft 9)[j]? = some 1 then .null else .long 0) := by
  intro j hj
  rcases (show j = 0 ∨ j = 1 ∨ j = 2 ∨ j = 3 by omega) with rfl | rfl | rfl | rfl <;> rfl
theorem df_X11 : ∀ j, j < 20 → defaultValue (tyX11 j) = (if (pl_ft 10)[j]? = some 0 then .int 0 else if (pl_ft 10)[j]? = some 1 then .null else .long 0) := by
  intro j hj
  rcases (show j = 0 ∨ j = 1 ∨ j = 2 ∨ j = 3 ∨ j = 4 ∨ j = 5 ∨ j = 6 ∨ j = 7 ∨ j = 8 ∨ j = 9 ∨ j = 10 ∨ j = 11 ∨ j = 12 ∨ j = 13 ∨ j = 14 ∨ j = 15 ∨ j = 16 ∨ j = 17 ∨ j = 18 ∨ j = 19 by omega) with rfl | rfl | rfl | rfl | rfl | rfl | rfl | rfl | rfl | rfl | rfl | rfl | rfl | rfl | rfl | rfl | rfl | rfl | rfl | rfl <;> rfl
theorem df_X12 : ∀ j, j < 41 → defaultValue (tyX12 j) = (if (pl_ft 11)[j]? = some 0 then .int 0 else if (pl_ft 11)[j]? = some 1 then .null else .long 0) := by
  intro j hj
  rcases (show j = 0 ∨ j = 1 ∨ j = 2 ∨ j = 3 ∨ j = 4 ∨ j = 5 ∨ j = 6 ∨ j = 7 ∨ j = 8 ∨ j = 9 ∨ j = 10 ∨ j = 11 ∨ j = 12 ∨ j = 13 ∨ j = 14 ∨ j = 15 ∨ j = 16 ∨ j = 17 ∨ j = 18 ∨ j = 19 ∨ j = 20 ∨ j = 21 ∨ j = 22 ∨ j = 23 ∨ j = 24 ∨ j = 25 ∨ j = 26 ∨ j = 27 ∨ j = 28 ∨ j = 29 ∨ j = 30 ∨ j = 31 ∨ j = 32 ∨ j = 33 ∨ j = 34 ∨ j = 35 ∨ j = 36 ∨ j = 37 ∨ j = 38 ∨ j = 39 ∨ j = 40 by omega) with rfl | rfl | rfl | rfl | rfl | rfl | rfl | rfl | rfl | rfl | rfl | rfl | rfl | rfl | rfl | rfl | rfl | rfl | rfl | rfl | rfl | rfl | rfl | rfl | rfl | rfl | rfl | rfl | rfl | rfl | rfl | rfl | rfl | rfl | rfl | rfl | rfl | rfl | rfl | rfl | rfl <;> rfl
theorem im_obj : Cond.instanceMethod Lib.objectInit ∈ wt_ := wt_in (i := 159) (by decide +kernel) rfl
theorem co_obj : Cond.code Lib.objectInit ⟨#[0xb1]⟩ 1 none ∈ wt_ := wt_in (i := 160) (by decide +kernel) rfl
theorem Ct.ofI {y : MethodName} {b : ByteArray} {mL : Nat} {ret : Option FieldType} {fr lo mc ms : Nat} {as : List AV} {σ : Sg} {Q : Option AV → Sg → Prop} (hy : plainFor y = true) (hsz : (as.map ac_).sum ≤ mL) (h : ∀ Γ : Gm, CM Γ b y.cls mL ret fr lo mc ms Q → Γ.2.2.2.2.2.2.2.2.1.name = y.name → J_ Γ 0 (al_ 0 as) [] σ 0 0) : Ct y b mL ret fr lo mc ms as σ Q := by
  intro l κ z tA D
  refine va_MetF (cc := b) (maxL := mL) (ret := ret) hy rfl ?_
  intro p e s m args below meth c s₁ B hml hv
  obtain ⟨rfl, hP, hK, hX, hz⟩ := hv
  have hts := atoms_spec (ws := Cond.code y b mL ret :: wt_) B.pre
  have key := h (p, l, e, (headSpec (Cond.code y b mL ret :: wt_) { frames := fr, cells := mc, slots := ms, locals := lo }).room, s, m, (as.map (av_ κ z)).toArray, below, meth, c, κ, z, tA, D, mL, MQ below (ct_Q κ z tA D Q) (as.map (av_ κ z)).toArray s mc ms (fun q => z ≤ q)) ⟨⟨B.exec, B.bytes, hml, findClass_of_methodNamed B.named, fun w hw => hts w (List.mem_cons_of_mem _ hw), hK, hX, hz⟩, rfl, B.returns, B.notSynchronized, rfl, rfl⟩ (name_of_methodNamed B.named B.method).1
  have hlen : (lg_sl (as.map (av_ κ z))).length ≤ mL := by rw [al_len]; exact hsz
  have hl := lv_entry (as.map (av_ κ z)) (n := mL) hlen
  rw [lg_entry_eq]
  rw [lv_args_map] at hl
  exact key s.heap [] _ hP va_S.rf hl
theorem J_aastN {Γ : Gm} {cc : ByteArray} {own : String} {pc q : Nat} {lv : List (Nat × AV)} {st : List AV} {σ : Sg} {k n : Nat} (C0 : CX Γ cc own) {r rx : Option Nat} {a b kd ci : Nat} {i : Int32} (hr : r = some a) (ha : is_A σ a kd) (hk : (kd, ci) ∈ [(14, 0), (15, 2), (16, 6), (17, 7), (18, 9)]) (hrx : rx = some b) (hb0 : is_A σ b ci) (hin : ¬ (i < 0 ∨ sg_L σ a ≤ i.toNatClampNeg)) (hd : decode cc pc = .ok (.aastore, 1)) (hq : pc + 1 = q) (kk : J_ Γ q lv st (put_R σ a i.toNatClampNeg (some b)) k n) : J_ Γ pc lv (vr rx :: vi i :: vr r :: st) σ k n := by
  subst hrx
  exact J_aast C0 hr ha hk hb0 hin hd hq kk
