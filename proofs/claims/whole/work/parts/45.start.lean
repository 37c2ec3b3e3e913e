/-! ===== the law's start: what the Statement gives there ===== -/
def lw_nm (i : Nat) : String := match i with
  | 0 => "RULE_LEAST"
  | 1 => "RULE_MOST"
  | 2 => "RULE_WITHOUT"
  | 3 => "TRAIT_LEAST"
  | 4 => "TRAIT_MOST"
  | _ => "TRAIT_WITHOUT"
def lw_tm (i : Nat) : Term := .static "SlitDrum$LanternReader" (lw_nm i) "[I"
def lw_sm (i : Nat) : Term := match i with
  | 0 => .string "SlitDrum$LanternReader" 47
  | 1 => .string "SlitDrum$LanternReader" 62
  | _ => .string "SlitDrum$LawReader" 83
abbrev lw_F : List Cond := flatC (Jvm.Cond.and given_1 narrow_1)
set_option maxRecDepth 100000 in
theorem lw_f1 : ∀ i : Nat, i < 6 → Cond.arrayOf (lw_tm i) .int ∈ lw_F ∧ Cond.eq (.length (lw_tm i)) (.int (Int32.ofNat (kn_ i))) ∈ lw_F ∧ (∀ j : Nat, j < kn_ i → Cond.eq (.elem (lw_tm i) (.int (Int32.ofNat j))) (.int (kv_ i j)) ∈ lw_F) := by decide +kernel
set_option maxRecDepth 100000 in
theorem lw_f2 : ∀ i : Nat, i < 3 → Cond.exactly (lw_sm i) "java/lang/String" ∈ lw_F ∧ Cond.eq (.field (lw_sm i) "java/lang/String" "coder" "B") (.int 0) ∈ lw_F ∧ Cond.arrayOf (.field (lw_sm i) "java/lang/String" "value" "[B") .byte ∈ lw_F ∧ Cond.eq (.length (.field (lw_sm i) "java/lang/String" "value" "[B")) (.int (Int32.ofNat ([3, 4, 6].getD i 0))) ∈ lw_F ∧ (∀ j : Nat, j < [3, 4, 6].getD i 0 → Cond.eq (.elem (.field (lw_sm i) "java/lang/String" "value" "[B") (.int (Int32.ofNat j))) (.int (([kt_ 9, kt_ 10, kt_ 11].getD i []).getD j 0)) ∈ lw_F) := by decide +kernel
set_option maxRecDepth 100000 in
theorem lw_f3 : ∀ i : Nat, i < 3 → ∀ j : Nat, j < 3 → i ≠ j → Cond.not (Cond.eq (lw_sm i) (lw_sm j)) ∈ lw_F ∨ Cond.not (Cond.eq (lw_sm j) (lw_sm i)) ∈ lw_F := by decide +kernel
set_option maxRecDepth 100000 in
theorem lw_f4 : Cond.exactly (.string "SlitDrum" 201) "java/lang/String" ∈ lw_F ∧ Cond.exactly (.string "SlitDrum" 219) "java/lang/String" ∈ lw_F ∧ Cond.eq (.static "java/lang/String" "COMPACT_STRINGS" "Z") (.int 1) ∈ lw_F ∧ Cond.isRef (.static Bundle.tN "UNASSIGNED_STACK" Bundle.steD) ∈ lw_F ∧ Cond.isRef (.static Bundle.tN "SUPPRESSED_SENTINEL" Bundle.listD) ∈ lw_F := by decide +kernel
set_option maxRecDepth 100000 in
theorem lw_t1 : ∀ q ∈ k_nest, Cond.methodLinkNest q.1 q.2.1 q.2.2.1 q.2.2.2 ∈ lw_tbl := by decide +kernel
set_option maxRecDepth 100000 in
theorem lw_t2 : ∀ q ∈ k_over, Cond.arrayOver (.object q.1) ∈ lw_tbl := by decide +kernel
set_option maxRecDepth 100000 in
theorem lw_t3 : Cond.castable "[I" "java/lang/Cloneable" ∈ lw_tbl ∧ Cond.declares ⟨"SlitDrum$Reader", "isWhole", "()Z"⟩ ∈ lw_tbl ∧ Cond.laysStatic "java/lang/String" "COMPACT_STRINGS" "Z" ∈ lw_tbl ∧ Cond.initialized "java/lang/String" ∈ lw_tbl ∧ Cond.initialized "SlitDrum$LanternReader" ∈ lw_tbl ∧ Cond.initialized Bundle.tN ∈ lw_tbl ∧ Cond.laysStatic Bundle.tN "UNASSIGNED_STACK" Bundle.steD ∈ lw_tbl ∧ Cond.laysStatic Bundle.tN "SUPPRESSED_SENTINEL" Bundle.listD ∈ lw_tbl := by decide +kernel
set_option maxRecDepth 100000 in
theorem lw_t4 : ∀ q ∈ k_stat, Cond.laysStatic "SlitDrum$LanternReader" q.1 "[I" ∈ lw_tbl := by decide +kernel
set_option maxRecDepth 100000 in
theorem lw_t5 : (∀ q ∈ k_strs, Cond.stringRef q.1 q.2.1 q.2.2.1 ∈ lw_tbl) ∧ Cond.stringRef "SlitDrum" 201 "no such wheel" ∈ lw_tbl ∧ Cond.stringRef "SlitDrum" 219 "no such what" ∈ lw_tbl := by decide +kernel
set_option maxRecDepth 100000 in
theorem lw_t6 : Cond.castable "java/util/NoSuchElementException" "java/util/NoSuchElementException" ∈ lw_tbl ∧ Cond.declares (Bundle.initS "java/lang/RuntimeException") ∈ lw_tbl ∧ Cond.declares (Bundle.initS "java/lang/Exception") ∈ lw_tbl ∧ Cond.declares (Bundle.initS Bundle.tN) ∈ lw_tbl := by decide +kernel
theorem lw_stn : ∀ q ∈ k_stat, q.1 = lw_nm q.2 ∧ q.2 < 6 := by decide
theorem lw_consts {s : State} {args : Array Value} (b : Nat) (hts : ∀ w ∈ lw_tbl, w.before args s = true) (hF : ∀ c ∈ lw_F, c.before args s = true) : ∃ κ : Nat → Nat, κ 14 = b ∧ k_Y κ s.heap.size s := by
  have hA : ∀ a : Nat, a < s.heap.size → ¬ (fun a => s.heap.size ≤ a) a := fun a h => Nat.not_le.mpr h
  have h1 : ∀ i : Nat, ∃ t : Nat, i < 6 → (lw_tm i).eval args s none [] s = some (.ref t) ∧ va_T .int t (kn_ i) (fun j => .int (kv_ i j)) (fun a => s.heap.size ≤ a) s s.heap := by
    intro i
    by_cases hi : i < 6
    · have hn : kn_ i < 2 ^ 31 := by
        have : ∀ i : Nat, i < 6 → kn_ i < 2 ^ 31 := by decide
        exact this i hi
      obtain ⟨t, e1, e2⟩ := va_Tof (f := fun j => .int (kv_ i j)) (A := fun a => s.heap.size ≤ a) hn (hF _ (lw_f1 i hi).1) (va_eqt (hF _ (lw_f1 i hi).2.1)) (fun j hj => va_eqt (hF _ ((lw_f1 i hi).2.2 j hj))) hA
      exact ⟨t, fun _ => ⟨e1, e2⟩⟩
    · exact ⟨0, fun h => absurd h hi⟩
  obtain ⟨ar, har⟩ := Classical.axiomOfChoice h1
  obtain ⟨adK, adV, hS, hev⟩ := vk_Sof (N := 3) (tm := lw_sm) (len := [3, 4, 6]) (byt := [kt_ 9, kt_ 10, kt_ 11]) (A := fun a => s.heap.size ≤ a) (by decide) (fun i hi => hF _ (lw_f2 i hi).1) (fun i hi => hF _ (lw_f2 i hi).2.1) (fun i hi => hF _ (lw_f2 i hi).2.2.1) (fun i hi => hF _ (lw_f2 i hi).2.2.2.1) (fun i hi j hj => hF _ ((lw_f2 i hi).2.2.2.2 j hj)) (fun i j hi hj hij => (lw_f3 i hi j hj hij).imp (fun h => hF _ h) (fun h => hF _ h)) hA
  obtain ⟨a12, c12, cA12, kA12, q12, -⟩ := Cond.exactly_spec (args := args) (first := s) (o := none) (s := s) (idx := []) (t := .string "SlitDrum" 201) (cls := "java/lang/String") (hF _ lw_f4.1)
  obtain ⟨a13, c13, cA13, kA13, q13, -⟩ := Cond.exactly_spec (args := args) (first := s) (o := none) (s := s) (idx := []) (t := .string "SlitDrum" 219) (cls := "java/lang/String") (hF _ lw_f4.2.1)
  refine ⟨fun i => if i < 6 then ar i else if i < 9 then adK (i - 6) else if i < 12 then adV (i - 9) else if i = 12 then a12 else if i = 13 then a13 else b, rfl, ⟨?_, ?_, ?_, ?_, ?_, ?_, ?_, ?_, ?_⟩, ⟨?_, ?_, ?_, ?_⟩, ?_, ?_, ?_, ?_⟩
  · exact fun q hq => va_Nw.of rfl (hts _ (lw_t1 q hq))
  · exact fun q hq => va_AO.of (A := #[]) (by
      have h := hts _ (lw_t2 q hq)
      exact h)
  · exact va_Nw.of rfl (hts _ lw_t3.1)
  · exact va_Nw.of rfl (hts _ lw_t3.2.1)
  · intro q hq
    obtain ⟨e1, e2⟩ := lw_stn q hq
    have e3 := (har q.2 e2).1
    simp only [if_pos e2]
    refine va_Zof (hts _ (lw_t4 q hq)) (hts _ lw_t3.2.2.2.2.1) ?_ hA
    rw [e1]
    exact e3
  · intro i hi
    simp only [if_pos hi]
    exact (har i hi).2
  · intro q hq
    refine vk_R.of (A := args) (hts _ (lw_t5.1 q hq)) ?_
    have hq' : q = ("SlitDrum$LanternReader", 47, "fok", 6) ∨ q = ("SlitDrum$LanternReader", 62, "vbpr", 7) ∨ q = ("SlitDrum$LawReader", 83, "vplntf", 8) := by
      simpa using hq
    rcases hq' with rfl | rfl | rfl
    · exact hev 0 (by decide)
    · exact hev 1 (by decide)
    · exact hev 2 (by decide)
  · refine ⟨fun i hi => ?_, fun i j hi hj h => ?_⟩
    · have e1 : ¬ 6 + i < 6 := by omega
      have e2 : 6 + i < 9 := by omega
      have e3 : ¬ 9 + i < 6 := by omega
      have e4 : ¬ 9 + i < 9 := by omega
      have e5 : 9 + i < 12 := by omega
      simp only [if_neg e1, if_pos e2, if_neg e3, if_neg e4, if_pos e5, Nat.add_sub_cancel_left]
      exact hS.1 i hi
    · have e1 : ¬ 6 + i < 6 := by omega
      have e2 : 6 + i < 9 := by omega
      have e3 : ¬ 6 + j < 6 := by omega
      have e4 : 6 + j < 9 := by omega
      simp only [if_neg e1, if_pos e2, if_neg e3, if_pos e4, Nat.add_sub_cancel_left] at h
      exact hS.2 i j hi hj h
  · exact va_Zof (hts _ lw_t3.2.2.1) (hts _ lw_t3.2.2.2.1) (va_eqi (hF _ lw_f4.2.2.1)) hA
  · exact va_Nw.of rfl (hts _ lw_t6.1)
  · exact va_Nw.of rfl (hts _ lw_t6.2.1)
  · exact va_Nw.of rfl (hts _ lw_t6.2.2.1)
  · exact va_Nw.of rfl (hts _ lw_t6.2.2.2)
  · exact vk_R.of (A := args) (hts _ lw_t5.2.1) q12
  · exact vk_R.of (A := args) (hts _ lw_t5.2.2) q13
  · exact vx_Zqof (hts _ lw_t3.2.2.2.2.2.2.1) (hts _ lw_t3.2.2.2.2.2.1) (hF _ lw_f4.2.2.2.1) hA
  · exact vx_Zqof (hts _ lw_t3.2.2.2.2.2.2.2) (hts _ lw_t3.2.2.2.2.2.1) (hF _ lw_f4.2.2.2.2) hA
theorem lw_arr {s : State} {args : Array Value} {ty : FieldType} (hp : (match ty with | .object _ => False | _ => True)) (h : (Cond.arrayClass ty).before args s = true) : ∃ cA : ClassId, ArrOfT s cA ty ∧ va_RA s cA ty := by
  obtain ⟨c, k, comp, h1, h2, h3⟩ := Cond.arrayClass_spec h
  refine ⟨c, fun n z => ⟨fun k h => (by cases h), k, h2, comp, h3⟩, ?_⟩
  cases ty <;> first | exact absurd hp id | exact h1
theorem lw_arrO {s : State} {args : Array Value} {C : String} (h : (Cond.arrayOver (.object C)).before args s = true) : ∃ cA : ClassId, ArrOfT s cA (.object C) ∧ va_RA s cA (.object C) := by
  obtain ⟨comp, c, k, h1, h2, h3, h4, h5⟩ := Cond.arrayOver_spec h
  exact ⟨c, fun n z => ⟨fun k h => (by cases h), k, h3, comp, h4⟩, k, comp, h3, h4, h1, h5⟩
set_option maxHeartbeats 4000000 in
theorem lw_known {s : State} {args : Array Value} (hts : ∀ w ∈ wt_, w.before args s = true) (hov : ∀ q ∈ k_over, va_AO q.1 s) : ∃ (D : va_G) (tA : Nat → ClassId), va_K D vwCl (pl_ty tA) s := by
  have h0 : ∀ k : Nat, ∃ p : ClassId × (Nat → Nat), ∀ q : vw_C, vwCl[k]? = some q → u_Kn s q.1 q.2.1 q.2.2 p.1 p.2 := by
    have key : ∀ {ci : Nat} {C : String} {T : u_T} {N : Nat} {ty : Nat → FieldType}, CL ci C T N ty → Cond.instantiable C N ∈ wt_ → ∃ p : ClassId × (Nat → Nat), ∀ q : vw_C, vwCl[ci]? = some q → u_Kn s q.1 q.2.1 q.2.2 p.1 p.2 := by
      intro ci C T N ty h hi
      obtain ⟨cC, iS, h9⟩ := u_known (C := C) (T := T) (N := N) (n := N) hts h.2.2.1 (hts _ hi)
      refine ⟨(cC, iS), fun q hq => ?_⟩
      rw [h.1] at hq
      cases hq
      exact h9
    intro k
    match k with
    | 0 => exact key cl_X0 in_X0
    | 1 => exact key cl_X1 in_X1
    | 2 => exact key cl_X2 in_X2
    | 3 => exact key cl_X3 in_X3
    | 4 => exact key cl_X4 in_X4
    | 5 => exact key cl_X5 in_X5
    | 6 => exact key cl_X7 in_X7
    | 7 => exact key cl_X8 in_X8
    | 8 => exact key cl_X9 in_X9
    | 9 => exact key cl_X10 in_X10
    | 10 => exact key cl_X11 in_X11
    | 11 => exact key cl_X12 in_X12
    | k + 12 => exact ⟨(0, fun _ => 0), fun q hq => by
        have : (vwCl[k + 12]?) = none := List.getElem?_eq_none (by show 12 ≤ k + 12; omega)
        rw [this] at hq
        cases hq⟩
  obtain ⟨D, hD⟩ := Classical.axiomOfChoice h0
  obtain ⟨t12, a12⟩ := lw_arr (ty := .int) trivial (hts _ wt_a_int)
  obtain ⟨t13, a13⟩ := lw_arr (ty := .boolean) trivial (hts _ wt_a_boolean)
  obtain ⟨t14, a14⟩ := lw_arrO (va_AO.use (A := args) (hov ("SlitDrum$Course", 14) (by simp)))
  obtain ⟨t15, a15⟩ := lw_arrO (va_AO.use (A := args) (hov ("SlitDrum$Law", 15) (by simp)))
  obtain ⟨t16, a16⟩ := lw_arrO (va_AO.use (A := args) (hov ("SlitDrum$Scene", 16) (by simp)))
  obtain ⟨t17, a17⟩ := lw_arrO (va_AO.use (A := args) (hov ("SlitDrum$Strip", 17) (by simp)))
  obtain ⟨t18, a18⟩ := lw_arrO (va_AO.use (A := args) (hov ("SlitDrum$Wheel", 18) (by simp)))
  obtain ⟨t19, a19⟩ := lw_arr (ty := .long) trivial (hts _ wt_a_long)
  refine ⟨(fun k => (D k).1, fun k => (D k).2), fun k => match k with | 12 => t12 | 13 => t13 | 14 => t14 | 15 => t15 | 16 => t16 | 17 => t17 | 18 => t18 | _ => t19, fun c q hq => hD c q hq, fun k q hq => ?_⟩
  match k, hq with
  | 0, hq => cases hq; exact a12
  | 1, hq => cases hq; exact a13
  | 2, hq => cases hq; exact a14
  | 3, hq => cases hq; exact a15
  | 4, hq => cases hq; exact a16
  | 5, hq => cases hq; exact a17
  | 6, hq => cases hq; exact a18
  | 7, hq => cases hq; exact a19
  | k + 8, hq =>
    have h9 : ((pl_ty (fun k => match k with | 12 => t12 | 13 => t13 | 14 => t14 | 15 => t15 | 16 => t16 | 17 => t17 | 18 => t18 | _ => t19))[k + 8]?) = none := List.getElem?_eq_none (by show 8 ≤ k + 8; omega)
    rw [h9] at hq
    cases hq
/-- no cell -/
def em_ : Sg := (0, fun _ => 20, fun _ => 0, fun _ _ => 0, fun _ _ => none, fun _ _ => 0)
theorem em_T : sg_T em_ := fun a j b ha _ => absurd ha (Nat.not_lt_zero a)
theorem em_P {tA : Nat → ClassId} {D : va_G} {H : Heap} : pl_P tA D H.size em_ H := by
  have e : pl_w tA H.size em_ = [] := rfl
  refine ⟨rfl, ?_, ?_⟩
  · rw [e]; exact fun k q h => by simp at h
  · rw [e]; exact ⟨fun i j p q h => by simp at h, fun k q h => by simp at h⟩
/-- what the start must bring -/
def lw_st (Inv : Sg → Prop) (N : Nat) : Prop := ∃ σ1 σ2 : Sg, f_X11_init N 0 (new_C em_ 10 0) = some σ1 ∧ sg_N σ1 = 344 ∧ sg_S σ1 ≤ 100000 ∧ f_X12_init 344 (new_C σ1 11 0) = some σ2 ∧ sg_N σ2 = 370 ∧ sg_S σ2 ≤ 200000 ∧ Inv (new_C σ2 19 1)
set_option maxHeartbeats 4000000 in
set_option maxRecDepth 100000 in
theorem lw_start {Inv : Sg → Prop} {N : Nat} (ok : lw_ok Inv N) (so5 : so_wheel Inv N) (st : lw_st Inv N) {p : Program} {e : Env} {s : State} {m : MethodId} {below : List Frame} {meth : Method} {c : Code} (l : Launch) (hflags : l.flags = flags0) {b L : Nat} {xs : Nat → Int32} (hL : L ≤ 3072) (C0 : lw_At p s m meth c b L xs) : W p l e room_1 s m #[Value.ref b] below meth c s.heap [] 0 0 (lw_Z below #[Value.ref b] s) (entryFrame m ([Value.ref b] : List Value).toArray 7) := by
  obtain ⟨hx, hb, hr, hml, hown, hts, hX, hbl, hlocks, hgv⟩ := C0
  have hwt : ∀ w ∈ wt_, w.before #[Value.ref b] s = true := fun w hw => hts w (List.mem_filter.mp hw).1
  obtain ⟨κ, hκ, hY⟩ := lw_consts (args := #[Value.ref b]) b hts (flat_of_before _ hgv)
  obtain ⟨D, tA, hK⟩ := lw_known hwt hY.1.2.1
  have htr : l.stackTraces = false := by
    unfold Launch.stackTraces
    rw [hflags]
    decide
  have C : CLw (p, l, e, room_1, s, m, #[Value.ref b], below, meth, c, κ, s.heap.size, tA, D, 7, lw_Z below #[Value.ref b] s) b L xs := ⟨⟨hx, hb, hml, hown, hwt, hK, hY.1, Nat.le_refl _⟩, rfl, hY, htr, rfl, hX, hbl, hκ, rfl, rfl, hr, hlocks, rfl⟩
  have C1 := C.1
  obtain ⟨σ1, σ2, f1, n1, s1, f2, n2, s2, hI⟩ := st
  have key : J_ (p, l, e, room_1, s, m, #[Value.ref b], below, meth, c, κ, s.heap.size, tA, D, 7, lw_Z below #[Value.ref b] s) 0 [(0, vk 14)] [] em_ 0 0 := by
    refine J_new (q := 3) C1 cl_X11 df_X11 kl_L_8 in_X11 iz_X11 dL_law_0 rfl C.room (by decide) (by decide) ?_
    refine J_dup (q := 4) C1 dL_law_3 rfl rfl ?_
    have a0 : is_A (new_C em_ 10 0) 0 10 := is_A.born em_ 10 0
    have T0 : sg_T (new_C em_ 10 0) := sg_T.new em_T
    refine J_callI (q := 7) (as := []) (rest := [vr (some 0)]) C1 rfl (t_X11_init N 0 T0 a0 f1 (mc := 344) (ms := 100000) ⟨by rw [n1]; exact Nat.le_add_right _ _, Nat.le_trans s1 (Nat.le_add_right _ _)⟩) ml_X11_init lk_L_15 im_X11_init rfl dL_law_4 rfl rfl rfl (by simp [ac_]) C.room (Nat.le_of_ble_eq_true rfl) (Nat.le_of_ble_eq_true rfl) (Nat.le_of_ble_eq_true rfl) (Nat.le_of_ble_eq_true rfl) (fun r_ τ_ hQ => ?_)
    obtain ⟨rfl, ht_, T1, E1⟩ := hQ
    subst ht_
    show J_ _ 7 [(0, vk 14)] [vr (some 0)] τ_ 345 100020
    refine J_astore_n (q := 8) (lv' := [(1, vr (some 0)), (0, vk 14)]) C1 rfl (by show 1 < 7; decide) dL_law_7 rfl trivial rfl ?_
    refine J_new (q := 11) C1 cl_X12 df_X12 kl_L_16 in_X12 iz_X12 dL_law_8 rfl C.room (by decide) (by decide) ?_
    rw [n1]
    refine J_dup (q := 12) C1 dL_law_11 rfl rfl ?_
    have a1 : is_A (new_C τ_ 11 0) 344 11 := by
      have := is_A.born τ_ 11 0
      rw [n1] at this
      exact this
    refine J_callI (q := 15) (as := []) (rest := [vr (some 344)]) C1 rfl (t_X12_init 344 (sg_T.new T1) a1 f2 (mc := 370) (ms := 200000) ⟨by rw [n2]; exact Nat.le_add_right _ _, Nat.le_trans s2 (Nat.le_add_right _ _)⟩) ml_X12_init lk_L_18 im_X12_init rfl dL_law_12 rfl rfl rfl (by simp [ac_]) C.room (Nat.le_of_ble_eq_true rfl) (Nat.le_of_ble_eq_true rfl) (Nat.le_of_ble_eq_true rfl) (Nat.le_of_ble_eq_true rfl) (fun r_ υ_ hQ => ?_)
    obtain ⟨rfl, ht_, T2, E2⟩ := hQ
    subst ht_
    show J_ _ 15 [(1, vr (some 0)), (0, vk 14)] [vr (some 344)] υ_ 716 300061
    refine J_astore_n (q := 16) (lv' := [(2, vr (some 344)), (1, vr (some 0)), (0, vk 14)]) C1 rfl (by show 2 < 7; decide) dL_law_15 rfl trivial rfl ?_
    refine J_iconst (q := 17) (v := 1) C1 dL_law_16 rfl rfl ?_
    refine J_newa (q := 19) (kd := 19) (at_ := .long) C1 (Or.inr (Or.inr ⟨rfl, rfl⟩)) wt_a_long dL_law_17 rfl (by decide) (by decide) C.room (by decide) (by decide) ?_
    rw [n2]
    refine J_astore_n (q := 20) (lv' := [(3, vr (some 370)), (2, vr (some 344)), (1, vr (some 0)), (0, vk 14)]) C1 rfl (by show 3 < 7; decide) dL_law_19 rfl trivial rfl ?_
    refine J_iconst (q := 21) (v := 0) C1 dL_law_20 rfl rfl ?_
    refine J_istore (q := 23) (lv' := [(4, vi 0), (3, vr (some 370)), (2, vr (some 344)), (1, vr (some 0)), (0, vk 14)]) C1 (by show 4 < 7; decide) dL_law_21 rfl rfl ?_
    refine J_sub (lv' := lw_lv 0) [4, 3, 2, 1, 0] rfl ?_
    have e370 : is_A (new_C υ_ 19 1) 370 19 := by
      have := is_A.born υ_ 19 1
      rw [n2] at this
      exact this
    have l370 : sg_L (new_C υ_ 19 1) 370 = 1 := by
      have h9 : sg_L (new_C υ_ 19 1) (sg_N υ_) = 1 := va_up_self _ _ _
      rw [n2] at h9
      exact h9
    exact lw_loop C ok so5 hL 513 0 _ _ _ (by decide) (by decide) (by have : (0 : Int32).toInt = 0 := rfl; omega) (by decide) (by decide) hI ⟨sg_T.new T2, (E2.at ((E1.at a0).new)).new, (E2.at a1).new, e370, by show 0 < sg_L (new_C υ_ 19 1) 370; rw [l370]; decide⟩
  have hl := lv_entry ([.ref b]) (n := 7) (Nat.le_of_ble_eq_true rfl)
  rw [lg_entry_eq]
  have hl : lv_has _ 7 [(0, .ref b)] := hl
  refine key s.heap [] _ em_P va_S.rf ?_
  have e9 : [(0, vk 14)].map (av_q κ s.heap.size) = [(0, Value.ref b)] := by
    show [(0, Value.ref (κ 14))] = _
    rw [hκ]
  rw [e9]
  exact hl
