/-! what else the start gives, and what stays of it: the links of nest mates -/
def k_nest : List (String × Nat × MethodName × String) := [("SlitDrum", 19, ⟨"SlitDrum$LanternReader", "<init>", "()V"⟩, "SlitDrum"), ("SlitDrum$LanternReader", 3, ⟨"SlitDrum$Reader", "<init>", "()V"⟩, "SlitDrum"), ("SlitDrum", 26, ⟨"SlitDrum$LawReader", "<init>", "()V"⟩, "SlitDrum"), ("SlitDrum$LawReader", 3, ⟨"SlitDrum$Reader", "<init>", "()V"⟩, "SlitDrum"), ("SlitDrum", 33, ⟨"SlitDrum$StripReader", "<init>", "()V"⟩, "SlitDrum"), ("SlitDrum$StripReader", 3, ⟨"SlitDrum$Reader", "<init>", "()V"⟩, "SlitDrum"), ("SlitDrum$Scene", 40, ⟨"SlitDrum$Wheel", "<init>", "()V"⟩, "SlitDrum"), ("SlitDrum", 95, ⟨"SlitDrum$Notes", "<init>", "()V"⟩, "SlitDrum"), ("SlitDrum", 110, ⟨"SlitDrum$Course", "<init>", "()V"⟩, "SlitDrum"), ("SlitDrum$Strip", 15, ⟨"SlitDrum", "round", "(II)I"⟩, "SlitDrum"), ("SlitDrum$Past", 25, ⟨"SlitDrum", "round", "(II)I"⟩, "SlitDrum"), ("SlitDrum$Course", 65, ⟨"SlitDrum", "round", "(II)I"⟩, "SlitDrum"), ("SlitDrum$Law", 40, ⟨"SlitDrum", "within", "(JII)I"⟩, "SlitDrum"), ("SlitDrum$Course", 75, ⟨"SlitDrum", "within", "(JII)I"⟩, "SlitDrum"), ("SlitDrum$Scene", 51, ⟨"SlitDrum", "round", "(II)I"⟩, "SlitDrum")]
abbrev k_over : List (String × Nat) := [("SlitDrum$Course", 14), ("SlitDrum$Law", 15), ("SlitDrum$Scene", 16), ("SlitDrum$Strip", 17), ("SlitDrum$Wheel", 18)]
/-- what the constants that were there before hold: 0 .. 5 arrays of ints of LanternReader, 6 .. 8 Strings, 9 .. 11 their bytes -/
def kt_ : Nat → List Int32 := fun i => match i with
  | 0 => [1, 0, 0]
  | 1 => [60, 99, 99]
  | 2 => [6, 40, 20]
  | 3 => [0, 0, 0, 0]
  | 4 => [9, 1, 15, 5]
  | 5 => [1, 0, 0, 0]
  | 9 => [102, 111, 107]
  | 10 => [118, 98, 112, 114]
  | 11 => [118, 112, 108, 110, 116, 102]
  | _ => []
def kn_ (i : Nat) : Nat := (kt_ i).length
def kv_ (i j : Nat) : Int32 := (kt_ i).getD j 0
abbrev k_stat : List (String × Nat) := [("RULE_LEAST", 0), ("RULE_MOST", 1), ("RULE_WITHOUT", 2), ("TRAIT_LEAST", 3), ("TRAIT_MOST", 4), ("TRAIT_WITHOUT", 5)]
abbrev k_strs : List (String × Nat × String × Nat) := [("SlitDrum$LanternReader", 47, "fok", 6), ("SlitDrum$LanternReader", 62, "vbpr", 7), ("SlitDrum$LawReader", 83, "vplntf", 8)]
def k_X (κ : Nat → Nat) (z : Nat) (s : State) : Prop := (∀ q ∈ k_nest, va_Nw (.methodLinkNest q.1 q.2.1 q.2.2.1 q.2.2.2) s) ∧ (∀ q ∈ k_over, va_AO q.1 s) ∧ va_Nw (.castable "[I" "java/lang/Cloneable") s ∧ va_Nw (.declares ⟨"SlitDrum$Reader", "isWhole", "()Z"⟩) s
  ∧ (∀ q ∈ k_stat, va_Z "SlitDrum$LanternReader" q.1 "[I" (.ref (κ q.2)) (fun a => z ≤ a) s s.heap) ∧ (∀ i, i < 6 → va_T .int (κ i) (kn_ i) (fun j => .int (kv_ i j)) (fun a => z ≤ a) s s.heap)
  ∧ (∀ q ∈ k_strs, vk_R q.1 q.2.1 q.2.2.1 (κ q.2.2.2) s) ∧ vk_S 3 [3, 4, 6] [kt_ 9, kt_ 10, kt_ 11] (fun i => κ (6 + i)) (fun i => κ (9 + i)) (fun a => z ≤ a) s s.heap ∧ va_Z "java/lang/String" "COMPACT_STRINGS" "Z" (.int 1) (fun a => z ≤ a) s s.heap
theorem k_X.moved {κ : Nat → Nat} {z : Nat} {s U : State} (h : k_X κ z s) (hW : s.WarmedH U.vm) (hq : ∀ q : Nat, q < z → U.heap[q]? = s.heap[q]?) : k_X κ z U := by
  obtain ⟨h1, h2, h3, h4, h5, h6, h7, h8, h9⟩ := h
  have hk : ∀ a : Nat, a < s.heap.size → ¬ (fun a => z ≤ a) a → U.heap[a]? = s.heap[a]? := fun a _ hn => hq a (Nat.not_le.mp hn)
  exact ⟨fun q hq => va_Nw.warmM hW (h1 q hq), fun q hq => va_AO.moved hW.alike (h2 q hq), va_Nw.warmC hW h3, va_Nw.warmD hW h4, fun q hq => (va_Z.moved hW.alike (h5 q hq)).kept hk, fun i hi => (va_T.moved hW.alike (h6 i hi)).kept hk, fun q hq => vk_R.warm hW (h7 q hq), (vk_S.moved hW.alike h8).kept hk, (va_Z.moved hW.alike h9).kept hk⟩
theorem k_X.same {κ : Nat → Nat} {z : Nat} {u U : State} (hv : u.vm = U.vm) (hh : u.heap = U.heap) (h : k_X κ z u) : k_X κ z U := by
  obtain ⟨h1, h2, h3, h4, h5, h6, h7, h8, h9⟩ := h
  have ha : u.vm.Alike U.vm := by rw [hv]; exact Vm.Alike.refl _
  refine ⟨fun q hq => va_Nw.same rfl hv (h1 q hq), fun q hq => va_AO.moved ha (h2 q hq), va_Nw.same rfl hv h3, va_Nw.same rfl hv h4, ?_, ?_, fun q hq => vk_R.same hv.symm (h7 q hq), ?_, ?_⟩
  · rw [← hh]; exact fun q hq => va_Z.moved ha (h5 q hq)
  · rw [← hh]; exact fun i hi => va_T.moved ha (h6 i hi)
  · rw [← hh]; exact vk_S.moved ha h8
  · rw [← hh]; exact va_Z.moved ha h9
theorem k_X.nest {κ : Nat → Nat} {z : Nat} {s : State} (h : k_X κ z s) {a : String} {i : Nat} {x : MethodName} {b : String} (hq : (a, i, x, b) ∈ k_nest) : va_Nw (.methodLinkNest a i x b) s := h.1 _ hq
theorem k_X.over {κ : Nat → Nat} {z : Nat} {s : State} (h : k_X κ z s) {C : String} {kd : Nat} (hq : (C, kd) ∈ [("SlitDrum$Course", 14), ("SlitDrum$Law", 15), ("SlitDrum$Scene", 16), ("SlitDrum$Strip", 17), ("SlitDrum$Wheel", 18)]) : va_AO C s := h.2.1 _ hq
/-! ===== the judgement over the pool: a row an instruction ===== -/
def pl_ty (tA : Nat → ClassId) : List (ClassId × FieldType) := [(tA 12, .int), (tA 13, .boolean), (tA 14, .object "SlitDrum$Course"), (tA 15, .object "SlitDrum$Law"), (tA 16, .object "SlitDrum$Scene"), (tA 17, .object "SlitDrum$Strip"), (tA 18, .object "SlitDrum$Wheel"), (tA 19, .long)]
/-- the machine's part of a walk: program .. code; then the constants' addresses, the pool's first address, the classes, the number of locals, the end -/
abbrev Gm : Type := Program × Launch × Env × Room × State × MethodId × Array Value × List Frame × Method × Code × (Nat → Nat) × Nat × (Nat → ClassId) × va_G × Nat × (State → Prop)
def J_ (Γ : Gm) (pc : Nat) (lv : List (Nat × AV)) (st : List AV) (σ : Sg) (k n : Nat) : Prop := match Γ with
  | (p, l, e, R, s, m, args, below, meth, c, κ, z, tA, D, nL, Z) => ∀ (H : Heap) (locs : List Loc) (ls : Array Slot), pl_P tA D z σ H → va_S (fun q => z ≤ q) s.heap H locs → lv_has ls nL (lv.map (av_q κ z)) → W p l e R s m args below meth c H locs k n Z (F0 m pc ls (st.map (av_ κ z)))
def CX (Γ : Gm) (cc : ByteArray) (own : String) : Prop := match Γ with
  | (p, _, _, _, s, m, args, _, _, c, κ, z, tA, D, nL, _) => p.tables.exec = Jvm.exec ∧ c.code = cc ∧ c.maxLocals = nL ∧ s.vm.findClass own = some m.cls ∧ (∀ w ∈ wt_, w.before args s = true) ∧ va_K D vwCl (pl_ty tA) s ∧ k_X κ z s ∧ z ≤ s.heap.size
def ct_P (κ : Nat → Nat) (z : Nat) (tA : Nat → ClassId) (D : va_G) (as : List AV) (σ : Sg) : Array Value → State → Prop := va_Pc (as.map (av_ κ z)) (fun U => pl_P tA D z σ U.heap ∧ va_K D vwCl (pl_ty tA) U ∧ k_X κ z U ∧ z ≤ U.heap.size)
def ct_Q (κ : Nat → Nat) (z : Nat) (tA : Nat → ClassId) (D : va_G) (Q : Option AV → Sg → Prop) : Array Value → State → Outcome → State → Prop := fun _ st oc t => (∃ (r : Option AV) (τ : Sg), oc = .returned (r.map (av_ κ z)) ∧ Q r τ ∧ pl_P tA D z τ t.heap) ∧ va_F (fun q => z ≤ q) st t
/-- a method's contract: with these arguments, over this pool, it returns, and Q holds of its answer and of the pool then -/
def Ct (y : MethodName) (b : ByteArray) (mL : Nat) (ret : Option FieldType) (fr lo mc ms : Nat) (as : List AV) (σ : Sg) (Q : Option AV → Sg → Prop) : Prop :=
  ∀ (l : Launch) (κ : Nat → Nat) (z : Nat) (tA : Nat → ClassId) (D : va_G), Met l y (Cond.code y b mL ret :: wt_) { frames := fr, cells := mc, slots := ms, locals := lo } (ct_P κ z tA D as σ) (ct_Q κ z tA D Q) mc ms (fun q => z ≤ q)
/-- the number of locals -/
def nl_ (Γ : Gm) : Nat := Γ.2.2.2.2.2.2.2.2.2.2.2.2.2.2.1
/-- what a walk in a method's body has besides CX -/
def CM (Γ : Gm) (cc : ByteArray) (own : String) (mL : Nat) (ret : Option FieldType) (fr lo mc ms : Nat) (Q : Option AV → Sg → Prop) : Prop := CX Γ cc own ∧ nl_ Γ = mL ∧ (match Γ with
  | (_, _, _, R, s, _, args, below, meth, _, κ, z, tA, D, _, Z) => meth.sig.returnType = ret ∧ meth.locks = false ∧ R = { frames := fr, cells := mc, slots := ms, locals := lo } ∧ Z = MQ below (ct_Q κ z tA D Q) args s mc ms (fun q => z ≤ q))
theorem Ct.weaken {y : MethodName} {b : ByteArray} {mL : Nat} {ret : Option FieldType} {fr lo mc ms : Nat} {as : List AV} {σ : Sg} {Q Q' : Option AV → Sg → Prop} (h : Ct y b mL ret fr lo mc ms as σ Q) (hq : ∀ r τ, Q r τ → Q' r τ) : Ct y b mL ret fr lo mc ms as σ Q' := by
  intro l κ z tA D p e ha hc hk s m args below hf happ hP hK
  obtain ⟨k, o, h1, h2, h3, ⟨⟨r, τ, q1, q2, q3⟩, q4⟩, q5⟩ := h l κ z tA D p e ha hc hk s m args below hf happ hP hK
  exact ⟨k, o, h1, h2, h3, ⟨⟨r, τ, q1, hq r τ q2, q3⟩, q4⟩, q5⟩
def al_ : Nat → List AV → List (Nat × AV)
  | _, [] => []
  | i, a :: as => (i, a) :: al_ (i + ac_ a) as
theorem ac_12 (v : AV) : ac_ v = 1 ∨ ac_ v = 2 := by
  rcases v with x | x | r | i
  · exact Or.inl rfl
  · exact Or.inr rfl
  · exact Or.inl rfl
  · exact Or.inl rfl
theorem lv_args_map (κ : Nat → Nat) (z : Nat) : ∀ (as : List AV) (i : Nat), lv_args i (as.map (av_ κ z)) = (al_ i as).map (av_q κ z)
  | [], _ => rfl
  | a :: as, i => by
    show (i, av_ κ z a) :: lv_args (if (av_ κ z a).category = 2 then i + 2 else i + 1) (as.map (av_ κ z)) = (i, av_ κ z a) :: (al_ (i + ac_ a) as).map (av_q κ z)
    have h : (if (av_ κ z a).category = 2 then i + 2 else i + 1) = i + ac_ a := by
      rw [av_cat]
      rcases ac_12 a with h | h <;> simp [h]
    rw [h, lv_args_map κ z as]
theorem al_len (κ : Nat → Nat) (z : Nat) : ∀ (as : List AV), (lg_sl (as.map (av_ κ z))).length = (as.map ac_).sum
  | [] => rfl
  | a :: as => by
    have ih := al_len κ z as
    simp only [lg_sl, List.map_cons, List.flatMap_cons, List.length_append, List.sum_cons] at ih ⊢
    rw [ih, av_cat]
    rcases ac_12 a with h | h <;> simp [h]
theorem G_nl {Γ : Gm} {cc : ByteArray} {own : String} {mL : Nat} {ret : Option FieldType} {fr lo mc ms : Nat} {Q : Option AV → Sg → Prop} (C1 : CM Γ cc own mL ret fr lo mc ms Q) {j : Nat} (h : j < mL) : j < nl_ Γ := by rw [C1.2.1]; exact h
theorem Ct.of {y : MethodName} {b : ByteArray} {mL : Nat} {ret : Option FieldType} {fr lo mc ms : Nat} {as : List AV} {σ : Sg} {Q : Option AV → Sg → Prop} (hy : plainFor y = true) (hsz : (as.map ac_).sum ≤ mL) (h : ∀ Γ : Gm, CM Γ b y.cls mL ret fr lo mc ms Q → J_ Γ 0 (al_ 0 as) [] σ 0 0) : Ct y b mL ret fr lo mc ms as σ Q := by
  intro l κ z tA D
  refine va_MetF (cc := b) (maxL := mL) (ret := ret) hy rfl ?_
  intro p e s m args below meth c s₁ B hml hv
  obtain ⟨rfl, hP, hK, hX, hz⟩ := hv
  have hts := atoms_spec (ws := Cond.code y b mL ret :: wt_) B.pre
  have key := h (p, l, e, (headSpec (Cond.code y b mL ret :: wt_) { frames := fr, cells := mc, slots := ms, locals := lo }).room, s, m, (as.map (av_ κ z)).toArray, below, meth, c, κ, z, tA, D, mL, MQ below (ct_Q κ z tA D Q) (as.map (av_ κ z)).toArray s mc ms (fun q => z ≤ q)) ⟨⟨B.exec, B.bytes, hml, findClass_of_methodNamed B.named, fun w hw => hts w (List.mem_cons_of_mem _ hw), hK, hX, hz⟩, rfl, B.returns, B.notSynchronized, rfl, rfl⟩
  have hlen : (lg_sl (as.map (av_ κ z))).length ≤ mL := by rw [al_len]; exact hsz
  have hl := lv_entry (as.map (av_ κ z)) (n := mL) hlen
  rw [lg_entry_eq]
  rw [lv_args_map] at hl
  exact key s.heap [] _ hP va_S.rf hl
def rm_ (x y : Int32) : Int32 := x - x / y * y
def rm_L (x y : Int64) : Int64 := x - x / y * y
/-! rows -/
section RW
variable {Γ : Gm} {cc : ByteArray} {own : String} {pc q : Nat} {lv lv' : List (Nat × AV)} {st : List AV} {σ : Sg} {k n : Nat}
theorem J_iconst (C0 : CX Γ cc own) {i : Int} {v : Int32} (hd : decode cc pc = .ok (.iconst i, 1)) (hq : pc + 1 = q) (hv : Int32.ofInt i = v) (kk : J_ Γ q lv (vi v :: st) σ k n) : J_ Γ pc lv (st) σ k n := by
  obtain ⟨p, l, e, R, s, m, args, below, meth, c, κ, z, tA, D, nL, Z⟩ := Γ
  subst hq
  intro H locs ls hP hS hl
  exact lv_iconst C0.1 C0.2.1 hd hv (kk H locs ls hP hS hl)
theorem J_bipush (C0 : CX Γ cc own) {i : Int} {v : Int32} (hd : decode cc pc = .ok (.bipush i, 2)) (hq : pc + 2 = q) (hv : (Int8.ofInt i).toInt32 = v) (kk : J_ Γ q lv (vi v :: st) σ k n) : J_ Γ pc lv (st) σ k n := by
  obtain ⟨p, l, e, R, s, m, args, below, meth, c, κ, z, tA, D, nL, Z⟩ := Γ
  subst hq
  intro H locs ls hP hS hl
  exact lv_bipush C0.1 C0.2.1 hd hv (kk H locs ls hP hS hl)
theorem J_sipush (C0 : CX Γ cc own) {i : Int} {v : Int32} (hd : decode cc pc = .ok (.sipush i, 3)) (hq : pc + 3 = q) (hv : (Int16.ofInt i).toInt32 = v) (kk : J_ Γ q lv (vi v :: st) σ k n) : J_ Γ pc lv (st) σ k n := by
  obtain ⟨p, l, e, R, s, m, args, below, meth, c, κ, z, tA, D, nL, Z⟩ := Γ
  subst hq
  intro H locs ls hP hS hl
  exact lv_sipush C0.1 C0.2.1 hd hv (kk H locs ls hP hS hl)
theorem J_lconst (C0 : CX Γ cc own) {i : Fin 2} {v : Int64} (hd : decode cc pc = .ok (.lconst i, 1)) (hq : pc + 1 = q) (hv : Int64.ofNat (i : Nat) = v) (kk : J_ Γ q lv (vl v :: st) σ k n) : J_ Γ pc lv (st) σ k n := by
  obtain ⟨p, l, e, R, s, m, args, below, meth, c, κ, z, tA, D, nL, Z⟩ := Γ
  subst hq
  intro H locs ls hP hS hl
  exact lv_lconst C0.1 C0.2.1 hd hv (kk H locs ls hP hS hl)
theorem J_iadd (C0 : CX Γ cc own) {x y : Int32} (hd : decode cc pc = .ok (.iadd, 1)) (hq : pc + 1 = q) (kk : J_ Γ q lv (vi (x + y) :: st) σ k n) : J_ Γ pc lv (vi y :: vi x :: st) σ k n := by
  obtain ⟨p, l, e, R, s, m, args, below, meth, c, κ, z, tA, D, nL, Z⟩ := Γ
  subst hq
  intro H locs ls hP hS hl
  exact lv_iadd C0.1 C0.2.1 hd (kk H locs ls hP hS hl)
theorem J_isub (C0 : CX Γ cc own) {x y : Int32} (hd : decode cc pc = .ok (.isub, 1)) (hq : pc + 1 = q) (kk : J_ Γ q lv (vi (x - y) :: st) σ k n) : J_ Γ pc lv (vi y :: vi x :: st) σ k n := by
  obtain ⟨p, l, e, R, s, m, args, below, meth, c, κ, z, tA, D, nL, Z⟩ := Γ
  subst hq
  intro H locs ls hP hS hl
  exact lv_isub C0.1 C0.2.1 hd (kk H locs ls hP hS hl)
theorem J_imul (C0 : CX Γ cc own) {x y : Int32} (hd : decode cc pc = .ok (.imul, 1)) (hq : pc + 1 = q) (kk : J_ Γ q lv (vi (x * y) :: st) σ k n) : J_ Γ pc lv (vi y :: vi x :: st) σ k n := by
  obtain ⟨p, l, e, R, s, m, args, below, meth, c, κ, z, tA, D, nL, Z⟩ := Γ
  subst hq
  intro H locs ls hP hS hl
  exact lv_imul C0.1 C0.2.1 hd (kk H locs ls hP hS hl)
theorem J_iand (C0 : CX Γ cc own) {x y : Int32} (hd : decode cc pc = .ok (.iand, 1)) (hq : pc + 1 = q) (kk : J_ Γ q lv (vi (x &&& y) :: st) σ k n) : J_ Γ pc lv (vi y :: vi x :: st) σ k n := by
  obtain ⟨p, l, e, R, s, m, args, below, meth, c, κ, z, tA, D, nL, Z⟩ := Γ
  subst hq
  intro H locs ls hP hS hl
  exact lv_iand C0.1 C0.2.1 hd (kk H locs ls hP hS hl)
theorem J_ior (C0 : CX Γ cc own) {x y : Int32} (hd : decode cc pc = .ok (.ior, 1)) (hq : pc + 1 = q) (kk : J_ Γ q lv (vi (x ||| y) :: st) σ k n) : J_ Γ pc lv (vi y :: vi x :: st) σ k n := by
  obtain ⟨p, l, e, R, s, m, args, below, meth, c, κ, z, tA, D, nL, Z⟩ := Γ
  subst hq
  intro H locs ls hP hS hl
  exact lv_ior C0.1 C0.2.1 hd (kk H locs ls hP hS hl)
theorem J_ixor (C0 : CX Γ cc own) {x y : Int32} (hd : decode cc pc = .ok (.ixor, 1)) (hq : pc + 1 = q) (kk : J_ Γ q lv (vi (x ^^^ y) :: st) σ k n) : J_ Γ pc lv (vi y :: vi x :: st) σ k n := by
  obtain ⟨p, l, e, R, s, m, args, below, meth, c, κ, z, tA, D, nL, Z⟩ := Γ
  subst hq
  intro H locs ls hP hS hl
  exact lv_ixor C0.1 C0.2.1 hd (kk H locs ls hP hS hl)
theorem J_ishl (C0 : CX Γ cc own) {x y : Int32} (hd : decode cc pc = .ok (.ishl, 1)) (hq : pc + 1 = q) (kk : J_ Γ q lv (vi (x <<< (y &&& 31)) :: st) σ k n) : J_ Γ pc lv (vi y :: vi x :: st) σ k n := by
  obtain ⟨p, l, e, R, s, m, args, below, meth, c, κ, z, tA, D, nL, Z⟩ := Γ
  subst hq
  intro H locs ls hP hS hl
  exact lv_ishl C0.1 C0.2.1 hd (kk H locs ls hP hS hl)
theorem J_ishr (C0 : CX Γ cc own) {x y : Int32} (hd : decode cc pc = .ok (.ishr, 1)) (hq : pc + 1 = q) (kk : J_ Γ q lv (vi (x >>> (y &&& 31)) :: st) σ k n) : J_ Γ pc lv (vi y :: vi x :: st) σ k n := by
  obtain ⟨p, l, e, R, s, m, args, below, meth, c, κ, z, tA, D, nL, Z⟩ := Γ
  subst hq
  intro H locs ls hP hS hl
  exact lv_ishr C0.1 C0.2.1 hd (kk H locs ls hP hS hl)
theorem J_idiv (C0 : CX Γ cc own) {x y : Int32} (hd : decode cc pc = .ok (.idiv, 1)) (hq : pc + 1 = q) (hne : ¬ y = 0) (kk : J_ Γ q lv (vi (x / y) :: st) σ k n) : J_ Γ pc lv (vi y :: vi x :: st) σ k n := by
  obtain ⟨p, l, e, R, s, m, args, below, meth, c, κ, z, tA, D, nL, Z⟩ := Γ
  subst hq
  intro H locs ls hP hS hl
  exact lv_idiv C0.1 C0.2.1 hd hne (kk H locs ls hP hS hl)
theorem J_irem (C0 : CX Γ cc own) {x y : Int32} (hd : decode cc pc = .ok (.irem, 1)) (hq : pc + 1 = q) (hne : ¬ y = 0) (kk : J_ Γ q lv (vi (rm_ x y) :: st) σ k n) : J_ Γ pc lv (vi y :: vi x :: st) σ k n := by
  obtain ⟨p, l, e, R, s, m, args, below, meth, c, κ, z, tA, D, nL, Z⟩ := Γ
  subst hq
  intro H locs ls hP hS hl
  exact lv_irem C0.1 C0.2.1 hd hne (kk H locs ls hP hS hl)
theorem J_ineg (C0 : CX Γ cc own) {x : Int32} (hd : decode cc pc = .ok (.ineg, 1)) (hq : pc + 1 = q) (kk : J_ Γ q lv (vi (-x) :: st) σ k n) : J_ Γ pc lv (vi x :: st) σ k n := by
  obtain ⟨p, l, e, R, s, m, args, below, meth, c, κ, z, tA, D, nL, Z⟩ := Γ
  subst hq
  intro H locs ls hP hS hl
  exact lv_ineg C0.1 C0.2.1 hd (kk H locs ls hP hS hl)
theorem J_iushr (C0 : CX Γ cc own) {x y v : Int32} (hd : decode cc pc = .ok (.iushr, 1)) (hq : pc + 1 = q) (hv : (x.toUInt32 >>> (y.toUInt32 &&& Int32.toUInt32 31)).toInt32 = v) (kk : J_ Γ q lv (vi v :: st) σ k n) : J_ Γ pc lv (vi y :: vi x :: st) σ k n := by
  obtain ⟨p, l, e, R, s, m, args, below, meth, c, κ, z, tA, D, nL, Z⟩ := Γ
  subst hq
  intro H locs ls hP hS hl
  exact lv_iushr C0.1 C0.2.1 hd hv (kk H locs ls hP hS hl)
theorem J_ladd (C0 : CX Γ cc own) {x y : Int64} (hd : decode cc pc = .ok (.ladd, 1)) (hq : pc + 1 = q) (kk : J_ Γ q lv (vl (x + y) :: st) σ k n) : J_ Γ pc lv (vl y :: vl x :: st) σ k n := by
  obtain ⟨p, l, e, R, s, m, args, below, meth, c, κ, z, tA, D, nL, Z⟩ := Γ
  subst hq
  intro H locs ls hP hS hl
  exact lv_ladd C0.1 C0.2.1 hd (kk H locs ls hP hS hl)
theorem J_lsub (C0 : CX Γ cc own) {x y : Int64} (hd : decode cc pc = .ok (.lsub, 1)) (hq : pc + 1 = q) (kk : J_ Γ q lv (vl (x - y) :: st) σ k n) : J_ Γ pc lv (vl y :: vl x :: st) σ k n := by
  obtain ⟨p, l, e, R, s, m, args, below, meth, c, κ, z, tA, D, nL, Z⟩ := Γ
  subst hq
  intro H locs ls hP hS hl
  exact lv_lsub C0.1 C0.2.1 hd (kk H locs ls hP hS hl)
theorem J_lmul (C0 : CX Γ cc own) {x y : Int64} (hd : decode cc pc = .ok (.lmul, 1)) (hq : pc + 1 = q) (kk : J_ Γ q lv (vl (x * y) :: st) σ k n) : J_ Γ pc lv (vl y :: vl x :: st) σ k n := by
  obtain ⟨p, l, e, R, s, m, args, below, meth, c, κ, z, tA, D, nL, Z⟩ := Γ
  subst hq
  intro H locs ls hP hS hl
  exact lv_lmul C0.1 C0.2.1 hd (kk H locs ls hP hS hl)
theorem J_land (C0 : CX Γ cc own) {x y : Int64} (hd : decode cc pc = .ok (.land, 1)) (hq : pc + 1 = q) (kk : J_ Γ q lv (vl (x &&& y) :: st) σ k n) : J_ Γ pc lv (vl y :: vl x :: st) σ k n := by
  obtain ⟨p, l, e, R, s, m, args, below, meth, c, κ, z, tA, D, nL, Z⟩ := Γ
  subst hq
  intro H locs ls hP hS hl
  exact lv_land C0.1 C0.2.1 hd (kk H locs ls hP hS hl)
theorem J_lor (C0 : CX Γ cc own) {x y : Int64} (hd : decode cc pc = .ok (.lor, 1)) (hq : pc + 1 = q) (kk : J_ Γ q lv (vl (x ||| y) :: st) σ k n) : J_ Γ pc lv (vl y :: vl x :: st) σ k n := by
  obtain ⟨p, l, e, R, s, m, args, below, meth, c, κ, z, tA, D, nL, Z⟩ := Γ
  subst hq
  intro H locs ls hP hS hl
  exact lv_lor C0.1 C0.2.1 hd (kk H locs ls hP hS hl)
theorem J_lxor (C0 : CX Γ cc own) {x y : Int64} (hd : decode cc pc = .ok (.lxor, 1)) (hq : pc + 1 = q) (kk : J_ Γ q lv (vl (x ^^^ y) :: st) σ k n) : J_ Γ pc lv (vl y :: vl x :: st) σ k n := by
  obtain ⟨p, l, e, R, s, m, args, below, meth, c, κ, z, tA, D, nL, Z⟩ := Γ
  subst hq
  intro H locs ls hP hS hl
  exact lv_lxor C0.1 C0.2.1 hd (kk H locs ls hP hS hl)
theorem J_ldiv (C0 : CX Γ cc own) {x y : Int64} (hd : decode cc pc = .ok (.ldiv, 1)) (hq : pc + 1 = q) (hne : ¬ y = 0) (kk : J_ Γ q lv (vl (x / y) :: st) σ k n) : J_ Γ pc lv (vl y :: vl x :: st) σ k n := by
  obtain ⟨p, l, e, R, s, m, args, below, meth, c, κ, z, tA, D, nL, Z⟩ := Γ
  subst hq
  intro H locs ls hP hS hl
  exact lv_ldiv C0.1 C0.2.1 hd hne (kk H locs ls hP hS hl)
theorem J_lrem (C0 : CX Γ cc own) {x y : Int64} (hd : decode cc pc = .ok (.lrem, 1)) (hq : pc + 1 = q) (hne : ¬ y = 0) (kk : J_ Γ q lv (vl (rm_L x y) :: st) σ k n) : J_ Γ pc lv (vl y :: vl x :: st) σ k n := by
  obtain ⟨p, l, e, R, s, m, args, below, meth, c, κ, z, tA, D, nL, Z⟩ := Γ
  subst hq
  intro H locs ls hP hS hl
  exact lv_lrem C0.1 C0.2.1 hd hne (kk H locs ls hP hS hl)
theorem J_lushr (C0 : CX Γ cc own) {x v : Int64} {y : Int32} (hd : decode cc pc = .ok (.lushr, 1)) (hq : pc + 1 = q) (hv : (x.toUInt64 >>> (y.toInt64.toUInt64 &&& Int64.toUInt64 63)).toInt64 = v) (kk : J_ Γ q lv (vl v :: st) σ k n) : J_ Γ pc lv (vi y :: vl x :: st) σ k n := by
  obtain ⟨p, l, e, R, s, m, args, below, meth, c, κ, z, tA, D, nL, Z⟩ := Γ
  subst hq
  intro H locs ls hP hS hl
  exact lv_lushr C0.1 C0.2.1 hd hv (kk H locs ls hP hS hl)
theorem J_lshl (C0 : CX Γ cc own) {x v : Int64} {y : Int32} (hd : decode cc pc = .ok (.lshl, 1)) (hq : pc + 1 = q) (hv : x <<< (y.toInt64 &&& 63) = v) (kk : J_ Γ q lv (vl v :: st) σ k n) : J_ Γ pc lv (vi y :: vl x :: st) σ k n := by
  obtain ⟨p, l, e, R, s, m, args, below, meth, c, κ, z, tA, D, nL, Z⟩ := Γ
  subst hq
  intro H locs ls hP hS hl
  exact lv_lshl C0.1 C0.2.1 hd hv (kk H locs ls hP hS hl)
theorem J_lcmp (C0 : CX Γ cc own) {x y : Int64} (hd : decode cc pc = .ok (.lcmp, 1)) (hq : pc + 1 = q) (kk : J_ Γ q lv (vi (lg_cmp x y) :: st) σ k n) : J_ Γ pc lv (vl y :: vl x :: st) σ k n := by
  obtain ⟨p, l, e, R, s, m, args, below, meth, c, κ, z, tA, D, nL, Z⟩ := Γ
  subst hq
  intro H locs ls hP hS hl
  exact W.lcmp C0.1 C0.2.1 hd (kk H locs ls hP hS hl)
theorem J_i2l (C0 : CX Γ cc own) {x : Int32} (hd : decode cc pc = .ok (.i2l, 1)) (hq : pc + 1 = q) (kk : J_ Γ q lv (vl x.toInt64 :: st) σ k n) : J_ Γ pc lv (vi x :: st) σ k n := by
  obtain ⟨p, l, e, R, s, m, args, below, meth, c, κ, z, tA, D, nL, Z⟩ := Γ
  subst hq
  intro H locs ls hP hS hl
  exact lv_i2l C0.1 C0.2.1 hd rfl (kk H locs ls hP hS hl)
theorem J_l2i (C0 : CX Γ cc own) {x : Int64} (hd : decode cc pc = .ok (.l2i, 1)) (hq : pc + 1 = q) (kk : J_ Γ q lv (vi x.toInt32 :: st) σ k n) : J_ Γ pc lv (vl x :: st) σ k n := by
  obtain ⟨p, l, e, R, s, m, args, below, meth, c, κ, z, tA, D, nL, Z⟩ := Γ
  subst hq
  intro H locs ls hP hS hl
  exact lv_l2i C0.1 C0.2.1 hd rfl (kk H locs ls hP hS hl)
theorem J_i2c (C0 : CX Γ cc own) {x : Int32} (hd : decode cc pc = .ok (.i2c, 1)) (hq : pc + 1 = q) (kk : J_ Γ q lv (vi (x.toUInt32 % 65536).toInt32 :: st) σ k n) : J_ Γ pc lv (vi x :: st) σ k n := by
  obtain ⟨p, l, e, R, s, m, args, below, meth, c, κ, z, tA, D, nL, Z⟩ := Γ
  subst hq
  intro H locs ls hP hS hl
  exact lv_i2c C0.1 C0.2.1 hd rfl (kk H locs ls hP hS hl)
theorem J_dup (C0 : CX Γ cc own) {a : AV} (hd : decode cc pc = .ok (.dup, 1)) (hq : pc + 1 = q) (ha : ac_ a = 1) (kk : J_ Γ q lv (a :: a :: st) σ k n) : J_ Γ pc lv (a :: st) σ k n := by
  obtain ⟨p, l, e, R, s, m, args, below, meth, c, κ, z, tA, D, nL, Z⟩ := Γ
  subst hq
  intro H locs ls hP hS hl
  exact lv_dup C0.1 C0.2.1 hd ((av_cat κ z a).trans ha) (kk H locs ls hP hS hl)
theorem J_pop (C0 : CX Γ cc own) {a : AV} (hd : decode cc pc = .ok (.pop, 1)) (hq : pc + 1 = q) (ha : ac_ a = 1) (kk : J_ Γ q lv (st) σ k n) : J_ Γ pc lv (a :: st) σ k n := by
  obtain ⟨p, l, e, R, s, m, args, below, meth, c, κ, z, tA, D, nL, Z⟩ := Γ
  subst hq
  intro H locs ls hP hS hl
  exact lv_pop C0.1 C0.2.1 hd ((av_cat κ z a).trans ha) (kk H locs ls hP hS hl)
theorem J_dup2 (C0 : CX Γ cc own) {a b : AV} (hd : decode cc pc = .ok (.dup2, 1)) (hq : pc + 1 = q) (ha : ac_ a = 1) (hb : ac_ b = 1) (kk : J_ Γ q lv (a :: b :: a :: b :: st) σ k n) : J_ Γ pc lv (a :: b :: st) σ k n := by
  obtain ⟨p, l, e, R, s, m, args, below, meth, c, κ, z, tA, D, nL, Z⟩ := Γ
  subst hq
  intro H locs ls hP hS hl
  exact lv_dup2_11 C0.1 C0.2.1 hd ((av_cat κ z a).trans ha) ((av_cat κ z b).trans hb) (kk H locs ls hP hS hl)
theorem J_dup2L (C0 : CX Γ cc own) {x : Int64} (hd : decode cc pc = .ok (.dup2, 1)) (hq : pc + 1 = q) (kk : J_ Γ q lv (vl x :: vl x :: st) σ k n) : J_ Γ pc lv (vl x :: st) σ k n := by
  obtain ⟨p, l, e, R, s, m, args, below, meth, c, κ, z, tA, D, nL, Z⟩ := Γ
  subst hq
  intro H locs ls hP hS hl
  exact lv_dup2_2 C0.1 C0.2.1 hd rfl (kk H locs ls hP hS hl)
theorem J_null (C0 : CX Γ cc own) (hd : decode cc pc = .ok (.aconst_null, 1)) (hq : pc + 1 = q) (kk : J_ Γ q lv (vr none :: st) σ k n) : J_ Γ pc lv (st) σ k n := by
  obtain ⟨p, l, e, R, s, m, args, below, meth, c, κ, z, tA, D, nL, Z⟩ := Γ
  subst hq
  intro H locs ls hP hS hl
  exact lv_null C0.1 C0.2.1 hd (kk H locs ls hP hS hl)
theorem J_iload_n (C0 : CX Γ cc own) {x : Int32} {f : Fin 4} {j : Nat} (i : Nat) (hi : lv[i]? = some (j, vi x)) (hf : (f : Nat) = j) (hd : decode cc pc = .ok (.iload_n f, 1)) (hq : pc + 1 = q) (kk : J_ Γ q lv (vi x :: st) σ k n) : J_ Γ pc lv (st) σ k n := by
  obtain ⟨p, l, e, R, s, m, args, below, meth, c, κ, z, tA, D, nL, Z⟩ := Γ
  subst hq
  intro H locs ls hP hS hl
  exact lv_iload_n C0.1 C0.2.1 hd hf (lv_at hl i (by rw [List.getElem?_map, hi]; rfl)) (kk H locs ls hP hS hl)
theorem J_iload (C0 : CX Γ cc own) {x : Int32} {j : Nat} (i : Nat) (hi : lv[i]? = some (j, vi x)) (hd : decode cc pc = .ok (.iload j, 2)) (hq : pc + 2 = q) (kk : J_ Γ q lv (vi x :: st) σ k n) : J_ Γ pc lv (st) σ k n := by
  obtain ⟨p, l, e, R, s, m, args, below, meth, c, κ, z, tA, D, nL, Z⟩ := Γ
  subst hq
  intro H locs ls hP hS hl
  exact lv_iload C0.1 C0.2.1 hd (lv_at hl i (by rw [List.getElem?_map, hi]; rfl)) (kk H locs ls hP hS hl)
theorem J_lload_n (C0 : CX Γ cc own) {x : Int64} {f : Fin 4} {j : Nat} (i : Nat) (hi : lv[i]? = some (j, vl x)) (hf : (f : Nat) = j) (hd : decode cc pc = .ok (.lload_n f, 1)) (hq : pc + 1 = q) (kk : J_ Γ q lv (vl x :: st) σ k n) : J_ Γ pc lv (st) σ k n := by
  obtain ⟨p, l, e, R, s, m, args, below, meth, c, κ, z, tA, D, nL, Z⟩ := Γ
  subst hq
  intro H locs ls hP hS hl
  exact lv_lload_n C0.1 C0.2.1 hd hf (lv_at hl i (by rw [List.getElem?_map, hi]; rfl)) (kk H locs ls hP hS hl)
theorem J_lload (C0 : CX Γ cc own) {x : Int64} {j : Nat} (i : Nat) (hi : lv[i]? = some (j, vl x)) (hd : decode cc pc = .ok (.lload j, 2)) (hq : pc + 2 = q) (kk : J_ Γ q lv (vl x :: st) σ k n) : J_ Γ pc lv (st) σ k n := by
  obtain ⟨p, l, e, R, s, m, args, below, meth, c, κ, z, tA, D, nL, Z⟩ := Γ
  subst hq
  intro H locs ls hP hS hl
  exact lv_lload C0.1 C0.2.1 hd (lv_at hl i (by rw [List.getElem?_map, hi]; rfl)) (kk H locs ls hP hS hl)
/-- the value of a local is a reference -/
def rv_ : AV → Prop
  | .inr (.inr _) => True
  | _ => False
theorem rv_cases {κ : Nat → Nat} {z : Nat} {v : AV} (h : rv_ v) : av_ κ z v = .null ∨ ∃ a, av_ κ z v = .ref a := by
  rcases v with x | x | r | i
  · exact absurd h id
  · exact absurd h id
  · cases r with
    | none => exact Or.inl rfl
    | some a => exact Or.inr ⟨_, rfl⟩
  · exact Or.inr ⟨_, rfl⟩
theorem J_aload_n (C0 : CX Γ cc own) {v : AV} {f : Fin 4} {j : Nat} (i : Nat) (hi : lv[i]? = some (j, v)) (hf : (f : Nat) = j) (hd : decode cc pc = .ok (.aload_n f, 1)) (hq : pc + 1 = q) (hv : rv_ v) (kk : J_ Γ q lv (v :: st) σ k n) : J_ Γ pc lv st σ k n := by
  obtain ⟨p, l, e, R, s, m, args, below, meth, c, κ, z, tA, D, nL, Z⟩ := Γ
  subst hq
  intro H locs ls hP hS hl
  have h1 := lv_at hl i (i := j) (v := av_ κ z v) (by rw [List.getElem?_map, hi]; rfl)
  have h2 := kk H locs ls hP hS hl
  rw [List.map_cons] at h2
  rcases rv_cases (κ := κ) (z := z) hv with h | ⟨a, h⟩
  · rw [h] at h1 h2
    exact lv_aload_nN C0.1 C0.2.1 hd hf h1 h2
  · rw [h] at h1 h2
    exact lv_aload_n C0.1 C0.2.1 hd hf h1 h2
theorem J_aload (C0 : CX Γ cc own) {v : AV} {j : Nat} (i : Nat) (hi : lv[i]? = some (j, v)) (hd : decode cc pc = .ok (.aload j, 2)) (hq : pc + 2 = q) (hv : rv_ v) (kk : J_ Γ q lv (v :: st) σ k n) : J_ Γ pc lv st σ k n := by
  obtain ⟨p, l, e, R, s, m, args, below, meth, c, κ, z, tA, D, nL, Z⟩ := Γ
  subst hq
  intro H locs ls hP hS hl
  have h1 := lv_at hl i (i := j) (v := av_ κ z v) (by rw [List.getElem?_map, hi]; rfl)
  have h2 := kk H locs ls hP hS hl
  rw [List.map_cons] at h2
  rcases rv_cases (κ := κ) (z := z) hv with h | ⟨a, h⟩
  · rw [h] at h1 h2
    exact lv_aloadN C0.1 C0.2.1 hd h1 h2
  · rw [h] at h1 h2
    exact lv_aload C0.1 C0.2.1 hd h1 h2
/-- the list of locals behind a store -/
def lf_ (i : Nat) (lv : List (Nat × AV)) : List (Nat × AV) := lv.filter (fun q => !(q.1 == i) && !(q.1 + 1 == i && ac_ q.2 == 2))
def lf_2 (i : Nat) (lv : List (Nat × AV)) : List (Nat × AV) := lv.filter (fun q => !(q.1 == i) && (!(q.1 == i + 1) && !(q.1 + 1 == i && ac_ q.2 == 2)))
theorem lf_map (κ : Nat → Nat) (z : Nat) (i : Nat) (v : AV) (lv : List (Nat × AV)) : (i, av_ κ z v) :: (lv.map (av_q κ z)).filter (fun q => !(q.1 == i) && !(q.1 + 1 == i && q.2.category == 2)) = ((i, v) :: lf_ i lv).map (av_q κ z) := by
  show _ = (i, av_ κ z v) :: (lf_ i lv).map (av_q κ z)
  congr 1
  induction lv with
  | nil => rfl
  | cons a r ih =>
    have hc : (av_q κ z a).2.category = ac_ a.2 := av_cat κ z a.2
    simp only [lf_, List.map_cons, List.filter_cons, hc] at ih ⊢
    have e : (av_q κ z a).1 = a.1 := rfl
    rw [e]
    split
    · rw [List.map_cons, ih]
    · exact ih
theorem lf_map2 (κ : Nat → Nat) (z : Nat) (i : Nat) (v : AV) (lv : List (Nat × AV)) : (i, av_ κ z v) :: (lv.map (av_q κ z)).filter (fun q => !(q.1 == i) && (!(q.1 == i + 1) && !(q.1 + 1 == i && q.2.category == 2))) = ((i, v) :: lf_2 i lv).map (av_q κ z) := by
  show _ = (i, av_ κ z v) :: (lf_2 i lv).map (av_q κ z)
  congr 1
  induction lv with
  | nil => rfl
  | cons a r ih =>
    have hc : (av_q κ z a).2.category = ac_ a.2 := av_cat κ z a.2
    simp only [lf_2, List.map_cons, List.filter_cons, hc] at ih ⊢
    have e : (av_q κ z a).1 = a.1 := rfl
    rw [e]
    split
    · rw [List.map_cons, ih]
    · exact ih
theorem J_istore_n (C0 : CX Γ cc own) {x : Int32} {f : Fin 4} {j : Nat} (hf : (f : Nat) = j) (hn : j < nl_ Γ) (hd : decode cc pc = .ok (.istore_n f, 1)) (hq : pc + 1 = q) (hl' : (j, vi x) :: lf_ j lv = lv') (kk : J_ Γ q lv' st σ k n) : J_ Γ pc lv (vi x :: st) σ k n := by
  obtain ⟨p, l, e, R, s, m, args, below, meth, c, κ, z, tA, D, nL, Z⟩ := Γ
  subst hq
  intro H locs ls hP hS hl
  exact lv_istore_n C0.1 C0.2.1 hd hf hl hn ((lf_map κ z j (vi x) lv).trans (by rw [hl'])) (fun ls hl => kk H locs ls hP hS hl)
theorem J_istore (C0 : CX Γ cc own) {x : Int32} {j : Nat} (hn : j < nl_ Γ) (hd : decode cc pc = .ok (.istore j, 2)) (hq : pc + 2 = q) (hl' : (j, vi x) :: lf_ j lv = lv') (kk : J_ Γ q lv' st σ k n) : J_ Γ pc lv (vi x :: st) σ k n := by
  obtain ⟨p, l, e, R, s, m, args, below, meth, c, κ, z, tA, D, nL, Z⟩ := Γ
  subst hq
  intro H locs ls hP hS hl
  exact lv_istore C0.1 C0.2.1 hd hl hn ((lf_map κ z j (vi x) lv).trans (by rw [hl'])) (fun ls hl => kk H locs ls hP hS hl)
theorem J_lstore_n (C0 : CX Γ cc own) {x : Int64} {f : Fin 4} {j : Nat} (hf : (f : Nat) = j) (hn : j + 1 < nl_ Γ) (hd : decode cc pc = .ok (.lstore_n f, 1)) (hq : pc + 1 = q) (hl' : (j, vl x) :: lf_2 j lv = lv') (kk : J_ Γ q lv' st σ k n) : J_ Γ pc lv (vl x :: st) σ k n := by
  obtain ⟨p, l, e, R, s, m, args, below, meth, c, κ, z, tA, D, nL, Z⟩ := Γ
  subst hq
  intro H locs ls hP hS hl
  exact lv_lstore_n C0.1 C0.2.1 hd hf hl hn ((lf_map2 κ z j (vl x) lv).trans (by rw [hl'])) (fun ls hl => kk H locs ls hP hS hl)
theorem J_lstore (C0 : CX Γ cc own) {x : Int64} {j : Nat} (hn : j + 1 < nl_ Γ) (hd : decode cc pc = .ok (.lstore j, 2)) (hq : pc + 2 = q) (hl' : (j, vl x) :: lf_2 j lv = lv') (kk : J_ Γ q lv' st σ k n) : J_ Γ pc lv (vl x :: st) σ k n := by
  obtain ⟨p, l, e, R, s, m, args, below, meth, c, κ, z, tA, D, nL, Z⟩ := Γ
  subst hq
  intro H locs ls hP hS hl
  exact lv_lstore C0.1 C0.2.1 hd hl hn ((lf_map2 κ z j (vl x) lv).trans (by rw [hl'])) (fun ls hl => kk H locs ls hP hS hl)
theorem J_astore_n (C0 : CX Γ cc own) {v : AV} {f : Fin 4} {j : Nat} (hf : (f : Nat) = j) (hn : j < nl_ Γ) (hd : decode cc pc = .ok (.astore_n f, 1)) (hq : pc + 1 = q) (hv : rv_ v) (hl' : (j, v) :: lf_ j lv = lv') (kk : J_ Γ q lv' st σ k n) : J_ Γ pc lv (v :: st) σ k n := by
  obtain ⟨p, l, e, R, s, m, args, below, meth, c, κ, z, tA, D, nL, Z⟩ := Γ
  subst hq
  intro H locs ls hP hS hl
  have h3 := (lf_map κ z j v lv).trans (by rw [hl'])
  rw [List.map_cons]
  rcases rv_cases (κ := κ) (z := z) hv with h | ⟨a, h⟩
  · rw [h] at h3 ⊢
    exact lv_astore_nN C0.1 C0.2.1 hd hf hl hn h3 (fun ls hl => kk H locs ls hP hS hl)
  · rw [h] at h3 ⊢
    exact lv_astore_n C0.1 C0.2.1 hd hf hl hn h3 (fun ls hl => kk H locs ls hP hS hl)
theorem J_astore (C0 : CX Γ cc own) {v : AV} {j : Nat} (hn : j < nl_ Γ) (hd : decode cc pc = .ok (.astore j, 2)) (hq : pc + 2 = q) (hv : rv_ v) (hl' : (j, v) :: lf_ j lv = lv') (kk : J_ Γ q lv' st σ k n) : J_ Γ pc lv (v :: st) σ k n := by
  obtain ⟨p, l, e, R, s, m, args, below, meth, c, κ, z, tA, D, nL, Z⟩ := Γ
  subst hq
  intro H locs ls hP hS hl
  have h3 := (lf_map κ z j v lv).trans (by rw [hl'])
  rw [List.map_cons]
  rcases rv_cases (κ := κ) (z := z) hv with h | ⟨a, h⟩
  · rw [h] at h3 ⊢
    exact lv_astoreN C0.1 C0.2.1 hd hl hn h3 (fun ls hl => kk H locs ls hP hS hl)
  · rw [h] at h3 ⊢
    exact lv_astore C0.1 C0.2.1 hd hl hn h3 (fun ls hl => kk H locs ls hP hS hl)
theorem J_iinc (C0 : CX Γ cc own) {x v : Int32} {j : Nat} {w : Int} (i : Nat) (hi : lv[i]? = some (j, vi x)) (hv : x + Int32.ofInt w = v) (hn : j < nl_ Γ) (hd : decode cc pc = .ok (.iinc j w, 3)) (hq : pc + 3 = q) (hl' : (j, vi v) :: lf_ j lv = lv') (kk : J_ Γ q lv' st σ k n) : J_ Γ pc lv st σ k n := by
  obtain ⟨p, l, e, R, s, m, args, below, meth, c, κ, z, tA, D, nL, Z⟩ := Γ
  subst hq
  intro H locs ls hP hS hl
  exact lv_iinc (k := i) C0.1 C0.2.1 hd hl (by rw [List.getElem?_map, hi]; rfl) hv hn ((lf_map κ z j (vi v) lv).trans (by rw [hl'])) (fun ls hl => kk H locs ls hP hS hl)
theorem J_sub (is : List Nat) (hs : is.filterMap (fun i => lv[i]?) = lv') (kk : J_ Γ pc lv' st σ k n) : J_ Γ pc lv st σ k n := by
  obtain ⟨p, l, e, R, s, m, args, below, meth, c, κ, z, tA, D, nL, Z⟩ := Γ
  subst hs
  intro H locs ls hP hS hl
  refine kk H locs ls hP hS (lv_sub hl is ?_)
  clear kk
  unfold lv_pick
  induction is with
  | nil => rfl
  | cons i is ih =>
    simp only [List.filterMap_cons, List.getElem?_map] at ih ⊢
    cases lv[i]? with
    | none => exact ih
    | some a => exact congrArg (fun l => av_q κ z a :: l) ih
theorem J_goto (C0 : CX Γ cc own) {off : Int} (hd : decode cc pc = .ok (.goto off, 3)) (ht : (pc : Int) + off = (q : Int)) (kk : J_ Γ q lv st σ k n) : J_ Γ pc lv st σ k n := by
  obtain ⟨p, l, e, R, s, m, args, below, meth, c, κ, z, tA, D, nL, Z⟩ := Γ
  intro H locs ls hP hS hl
  exact lv_goto C0.1 C0.2.1 hd ht (kk H locs ls hP hS hl)
theorem J_ldc (C0 : CX Γ cc own) {idx : Nat} {v : Int32} (hw : Cond.constant own idx v ∈ wt_) (hd : decode cc pc = .ok (.ldc idx, 2)) (hq : pc + 2 = q) (kk : J_ Γ q lv (vi v :: st) σ k n) : J_ Γ pc lv st σ k n := by
  obtain ⟨p, l, e, R, s, m, args, below, meth, c, κ, z, tA, D, nL, Z⟩ := Γ
  subst hq
  intro H locs ls hP hS hl
  exact lv_ldc C0.1 C0.2.1 C0.2.2.2.1 (C0.2.2.2.2.1 _ hw) hd (kk H locs ls hP hS hl)
theorem J_ldc_w (C0 : CX Γ cc own) {idx : Nat} {v : Int32} (hw : Cond.constant own idx v ∈ wt_) (hd : decode cc pc = .ok (.ldc_w idx, 3)) (hq : pc + 3 = q) (kk : J_ Γ q lv (vi v :: st) σ k n) : J_ Γ pc lv st σ k n := by
  obtain ⟨p, l, e, R, s, m, args, below, meth, c, κ, z, tA, D, nL, Z⟩ := Γ
  subst hq
  intro H locs ls hP hS hl
  exact lv_ldcw C0.1 C0.2.1 C0.2.2.2.1 (C0.2.2.2.2.1 _ hw) hd (kk H locs ls hP hS hl)
theorem J_ldc2_w (C0 : CX Γ cc own) {idx : Nat} {v : Int64} (hw : Cond.constantLong own idx v ∈ wt_) (hd : decode cc pc = .ok (.ldc2_w idx, 3)) (hq : pc + 3 = q) (kk : J_ Γ q lv (vl v :: st) σ k n) : J_ Γ pc lv st σ k n := by
  obtain ⟨p, l, e, R, s, m, args, below, meth, c, κ, z, tA, D, nL, Z⟩ := Γ
  subst hq
  intro H locs ls hP hS hl
  exact lv_ldc2 C0.1 C0.2.1 C0.2.2.2.1 (C0.2.2.2.2.1 _ hw) hd (kk H locs ls hP hS hl)
end RW
/-! fields -/
def CL (ci : Nat) (C : String) (T : u_T) (N : Nat) (ty : Nat → FieldType) : Prop := vwCl[ci]? = some (C, T, N) ∧ ci < 12 ∧ (∀ w ∈ u_ws C T N, w ∈ wt_) ∧ (∀ k, k < N → parseFieldDescriptor (T k).2.2.1 = some (ty k)) ∧ (∀ a, a < N → ∀ b, b < N → a ≠ b → (T a).2.1 ≠ (T b).2.1) ∧ (pl_ft ci).length = N
/-- the link of a field: number j of class ci, of type t, final or not -/
def FL (own : String) (idx ci j : Nat) (t : FieldType) (fin mine : Bool) : Prop := ∃ (C : String) (T : u_T) (N : Nat) (ty : Nat → FieldType) (ref : String), CL ci C T N ty ∧ j < N ∧ ty j = t ∧ (T j).2.2.2 = fin ∧ (mine = true → (T j).1 = own) ∧ Cond.fieldLink own idx ref (T j).2.1 (T j).2.2.1 ∈ wt_ ∧ ((T j).1 = ref ∨ Cond.sameField ref (T j).1 (T j).2.1 (T j).2.2.1 ∈ wt_)
theorem fl_same {own : String} {s : State} {args : Array Value} {T : u_T} {j : Nat} {ref : String} (hts : ∀ w ∈ wt_, w.before args s = true) (h : (T j).1 = ref ∨ Cond.sameField ref (T j).1 (T j).2.1 (T j).2.2.1 ∈ wt_) : ∀ x, s.fieldFound? (T j).1 (T j).2.1 (T j).2.2.1 = some x → s.fieldFound? ref (T j).2.1 (T j).2.2.1 = some x := by
  intro x hx
  rcases h with h | h
  · rw [← h]; exact hx
  · exact u_same (hts _ h) x hx
/-- a cell is written: the pool behind it -/
theorem pl_write {tA : Nat → ClassId} {D : va_G} {z : Nat} {σ τ : Sg} {H H' : Heap} {a kd : Nat} (hP : pl_P tA D z σ H) (ha : is_A σ a kd) (hk : kd < 20) (hN : sg_N τ = sg_N σ) (hK : sg_K τ = sg_K σ) (hne : ∀ b, b ≠ a → pl_c tA z τ b = pl_c tA z σ b) (hat : va_at D vwCl (z + a, pl_c tA z τ a) H') (hsz : H'.size = H.size) (oq : ∀ q : Nat, q ≠ z + a → H'[q]? = H[q]?) : pl_P tA D z τ H' := by
  obtain ⟨i, hi⟩ := pl_get (tA := tA) (z := z) ha hk
  have hL : pl_L τ = pl_L σ := by unfold pl_L; rw [hN, hK]
  have e := pl_set (τ := τ) hP.2.2 hi hL rfl hne
  refine ⟨by rw [hsz, hN]; exact hP.1, ?_, ?_⟩
  · rw [← e]; exact hP.2.1.set hP.2.2 hi hat oq
  · rw [← e]; exact hP.2.2.set hi
section RF
variable {Γ : Gm} {cc : ByteArray} {own : String} {pc q : Nat} {lv lv' : List (Nat × AV)} {st : List AV} {σ : Sg} {k n : Nat}
theorem J_get (C0 : CX Γ cc own) {r : Option Nat} {a idx ci j t : Nat} {ft : FieldType} {fin mine : Bool} (hF : FL own idx ci j ft fin mine) (hr : r = some a) (ha : is_A σ a ci) (ht : (pl_ft ci)[j]? = some t) (hd : decode cc pc = .ok (.getfield idx, 3)) (hq : pc + 3 = q) {v : AV} (hv : ∀ (κ : Nat → Nat) (z : Nat), av_ κ z v = pl_v z σ a j t) (kk : J_ Γ q lv (v :: st) σ k n) : J_ Γ pc lv (vr r :: st) σ k n := by
  obtain ⟨p, l, e, R, s, m, args, below, meth, c, κ, z, tA, D, nL, Z⟩ := Γ
  subst hq hr
  intro H locs ls hP hS hl
  obtain ⟨C, T, N, ty, ref, ⟨h1, h2, h3, h4, h5, h6⟩, hj, hty, hfin, -, hlink, hsame⟩ := hF
  obtain ⟨hx, hb, hml, hown, hts, hK, hX, hz⟩ := C0
  obtain ⟨i, hi⟩ := pl_get (tA := tA) (z := z) ha (by omega)
  rw [pl_c_obj ha h2] at hi
  refine va_get (D := D) (ci := ci) (v := pl_v z σ a j t) hx hb hts h3 hown hK hP.2.1 i hi h1 j hj (hts _ hlink) (fl_same (own := own) hts hsame) ?_ hd ?_
  · rw [List.getElem?_mapIdx, ht]; rfl
  · have h2 := kk H locs ls hP hS hl
    rw [List.map_cons, hv] at h2
    exact h2
theorem J_getI (C0 : CX Γ cc own) {r : Option Nat} {a idx ci j : Nat} {ft : FieldType} {fin mine : Bool} (hF : FL own idx ci j ft fin mine) (hr : r = some a) (ha : is_A σ a ci) (ht : (pl_ft ci)[j]? = some 0) (hd : decode cc pc = .ok (.getfield idx, 3)) (hq : pc + 3 = q) (kk : J_ Γ q lv (vi (sg_I σ a j) :: st) σ k n) : J_ Γ pc lv (vr r :: st) σ k n :=
  J_get C0 hF hr ha ht hd hq (fun _ _ => rfl) kk
theorem J_getR (C0 : CX Γ cc own) {r : Option Nat} {a idx ci j : Nat} {ft : FieldType} {fin mine : Bool} (hF : FL own idx ci j ft fin mine) (hr : r = some a) (ha : is_A σ a ci) (ht : (pl_ft ci)[j]? = some 1) (hd : decode cc pc = .ok (.getfield idx, 3)) (hq : pc + 3 = q) (kk : J_ Γ q lv (vr (sg_R σ a j) :: st) σ k n) : J_ Γ pc lv (vr r :: st) σ k n :=
  J_get C0 hF hr ha ht hd hq (fun _ _ => rfl) kk
theorem J_getJ (C0 : CX Γ cc own) {r : Option Nat} {a idx ci j : Nat} {ft : FieldType} {fin mine : Bool} (hF : FL own idx ci j ft fin mine) (hr : r = some a) (ha : is_A σ a ci) (ht : (pl_ft ci)[j]? = some 2) (hd : decode cc pc = .ok (.getfield idx, 3)) (hq : pc + 3 = q) (kk : J_ Γ q lv (vl (sg_J σ a j) :: st) σ k n) : J_ Γ pc lv (vr r :: st) σ k n :=
  J_get C0 hF hr ha ht hd hq (fun _ _ => rfl) kk
theorem J_put (C0 : CX Γ cc own) {r : Option Nat} {a idx ci j t : Nat} {ft : FieldType} {τ : Sg} {v : AV} {mine : Bool} (hF : FL own idx ci j ft false mine) (hr : r = some a) (ha : is_A σ a ci) (ht : (pl_ft ci)[j]? = some t) (hd : decode cc pc = .ok (.putfield idx, 3)) (hq : pc + 3 = q) (hv : ∀ (κ : Nat → Nat) (z : Nat), pl_v z τ a j t = av_ κ z v ∧ narrow ft (av_ κ z v) = av_ κ z v ∧ fits ft (av_ κ z v) = true) (hN : sg_N τ = sg_N σ) (hK : sg_K τ = sg_K σ) (hne : ∀ (tA : Nat → ClassId) (z b : Nat), b ≠ a → pl_c tA z τ b = pl_c tA z σ b) (hoth : ∀ (z i u : Nat), i ≠ j → (pl_ft ci)[i]? = some u → pl_v z τ a i u = pl_v z σ a i u) (kk : J_ Γ q lv st τ k n) : J_ Γ pc lv (v :: vr r :: st) σ k n := by
  obtain ⟨p, l, e, R, s, m, args, below, meth, c, κ, z, tA, D, nL, Z⟩ := Γ
  subst hq hr
  intro H locs ls hP hS hl
  obtain ⟨C, T, N, ty0, ref, ⟨hc, h2, h3, hty, hnm, h6⟩, hj, htj, hfin, -, hlink, hsame⟩ := hF
  obtain ⟨hx, hb, hml, hown, hts, hKs, hX, hz⟩ := C0
  obtain ⟨i, hi⟩ := pl_get (tA := tA) (z := z) ha (by omega)
  have hap := va_apart (own := own) hts h3 ty0 hty hnm hKs hc
  obtain ⟨hv1, hv2, hv3⟩ := hv κ z
  have hat0 := hP.2.1 i _ hi
  rw [pl_c_obj ha h2] at hat0
  obtain ⟨r9, h1, cell, q1, q2, q3, q4⟩ := hat0
  have hr9 : r9 = (C, T, N) := Option.some.inj (h1.symm.trans hc)
  subst hr9
  obtain ⟨hSl, hfc, kC, hkC, hkind⟩ := hKs.1 ci _ hc
  obtain ⟨cf, kf, fi, f, hif, hsl⟩ := hSl j hj
  have hlay := hts _ (h3 _ (u_in_lay hj))
  unfold u_lay at hlay
  rw [if_neg (by rw [hfin]; decide)] at hlay
  have hst := (u_facts hfc hkC (u_lays hts h3 hj) hif).1
  have hd9 : parseFieldDescriptor (T j).2.2.1 = some ft := by rw [hty j hj, htj]
  have h7 := u_store hfc hkC hkind hlay hif hd9 hv2 hv3
  refine W.putK hx hb (f := f) ⟨hown, hts _ hlink, ⟨_, _, _, fl_same (own := own) hts hsame _ hif⟩, hst⟩ (by rw [q2]; exact h7) q1 q3 (by rw [hsl]; exact k2_hasslot (q4 j hj)) rfl rfl hd fun H' e1 e2 e3 => ?_
  rw [hsl] at e1 ⊢
  have haτ : is_A τ a ci := ⟨by rw [hN]; exact ha.1, by rw [hK]; exact ha.2⟩
  have hPτ : pl_P tA D z τ H' := by
    refine pl_write hP ha (by omega) hN hK (hne tA z) ?_ e2 e3
    rw [pl_c_obj haτ h2, pl_upd (v := av_ κ z v) ht hv1 (hoth z)]
    exact ⟨_, hc, t_OB.to (V := updV (vp_V ((pl_ft ci).mapIdx (fun i u => pl_v z σ a i u))) j (av_ κ z v)) ⟨_, e1, q2, q3, t_set q4 hap hj (av_ κ z v)⟩ (fun j9 _ => vp_updV_set (by rw [List.length_mapIdx, h6]; exact hj) _ j9)⟩
  exact kk H' _ ls hPτ (hS.put e2 e3 (by show z ≤ z + a; omega)) hl
theorem J_putF (C0 : CX Γ cc own) {r : Option Nat} {a idx ci j t : Nat} {ft : FieldType} {τ : Sg} {v : AV} (hin2 : Γ.2.2.2.2.2.2.2.2.1.name = "<init>") (hF : FL own idx ci j ft true true) (hr : r = some a) (ha : is_A σ a ci) (ht : (pl_ft ci)[j]? = some t) (hd : decode cc pc = .ok (.putfield idx, 3)) (hq : pc + 3 = q) (hv : ∀ (κ : Nat → Nat) (z : Nat), pl_v z τ a j t = av_ κ z v ∧ narrow ft (av_ κ z v) = av_ κ z v ∧ fits ft (av_ κ z v) = true) (hN : sg_N τ = sg_N σ) (hK : sg_K τ = sg_K σ) (hne : ∀ (tA : Nat → ClassId) (z b : Nat), b ≠ a → pl_c tA z τ b = pl_c tA z σ b) (hoth : ∀ (z i u : Nat), i ≠ j → (pl_ft ci)[i]? = some u → pl_v z τ a i u = pl_v z σ a i u) (kk : J_ Γ q lv st τ k n) : J_ Γ pc lv (v :: vr r :: st) σ k n := by
  obtain ⟨p, l, e, R, s, m, args, below, meth, c, κ, z, tA, D, nL, Z⟩ := Γ
  subst hq hr
  intro H locs ls hP hS hl
  obtain ⟨C, T, N, ty0, ref, ⟨hc, h2, h3, hty, hnm, h6⟩, hj, htj, hfin, hdecl, hlink, hsame⟩ := hF
  have hdecl := hdecl rfl
  obtain ⟨hx, hb, hml, hown, hts, hKs, hX, hz⟩ := C0
  obtain ⟨i, hi⟩ := pl_get (tA := tA) (z := z) ha (by omega)
  have hap := va_apart (own := own) hts h3 ty0 hty hnm hKs hc
  obtain ⟨hv1, hv2, hv3⟩ := hv κ z
  have hat0 := hP.2.1 i _ hi
  rw [pl_c_obj ha h2] at hat0
  obtain ⟨r9, h1, cell, q1, q2, q3, q4⟩ := hat0
  have hr9 : r9 = (C, T, N) := Option.some.inj (h1.symm.trans hc)
  subst hr9
  obtain ⟨hSl, hfc, kC, hkC, hkind⟩ := hKs.1 ci _ hc
  obtain ⟨cf, kf, fi, f, hif, hsl⟩ := hSl j hj
  have hlay := hts _ (h3 _ (u_in_lay hj))
  unfold u_lay at hlay
  rw [if_pos hfin] at hlay
  have hst := (u_facts hfc hkC (u_lays hts h3 hj) hif).1
  have hcf : m.cls = cf := by
    obtain ⟨_, _, c', _, _, _, -, -, hf', -, -, -, hown2, -⟩ := Cond.laysFinal_spec hlay
    have e1 : c' = cf := by have := hif.symm.trans hf'; simp at this; exact this.1.symm
    rw [hdecl] at hown2
    rw [← e1]; exact Option.some.inj (hown.symm.trans hown2)
  have hd9 : parseFieldDescriptor (T j).2.2.1 = some ft := by rw [hty j hj, htj]
  have h7 := u_fits hfc hkC hkind (Or.inr hlay) hif hd9 hv2 hv3
  refine W.putFinK hx hb hown (hts _ hlink) (fl_same (own := own) hts hsame _ hif) hst hcf hin2 (by rw [q2]; exact h7) q1 q3 (by rw [hsl]; exact k2_hasslot (q4 j hj)) rfl rfl hd fun H' e1 e2 e3 => ?_
  rw [hsl] at e1 ⊢
  have haτ : is_A τ a ci := ⟨by rw [hN]; exact ha.1, by rw [hK]; exact ha.2⟩
  have hPτ : pl_P tA D z τ H' := by
    refine pl_write hP ha (by omega) hN hK (hne tA z) ?_ e2 e3
    rw [pl_c_obj haτ h2, pl_upd (v := av_ κ z v) ht hv1 (hoth z)]
    exact ⟨_, hc, t_OB.to (V := updV (vp_V ((pl_ft ci).mapIdx (fun i u => pl_v z σ a i u))) j (av_ κ z v)) ⟨_, e1, q2, q3, t_set q4 hap hj (av_ κ z v)⟩ (fun j9 _ => vp_updV_set (by rw [List.length_mapIdx, h6]; exact hj) _ j9)⟩
  exact kk H' _ ls hPτ (hS.put e2 e3 (by show z ≤ z + a; omega)) hl
theorem up_2_j {α : Type} (f : Nat → Nat → α) {a j i : Nat} (v : α) (h : i ≠ j) : up_2 f a j v a i = f a i := by simp [up_2, h]
theorem up_2_s {α : Type} (f : Nat → Nat → α) (a j : Nat) (v : α) : up_2 f a j v a j = v := by simp [up_2]
theorem oth_I {a j : Nat} {x : Int32} (z i u : Nat) (h : i ≠ j) : pl_v z (put_I σ a j x) a i u = pl_v z σ a i u := by
  unfold pl_v
  rw [show sg_I (put_I σ a j x) a i = sg_I σ a i from up_2_j _ _ h]
  rfl
theorem oth_R {a j : Nat} {x : Option Nat} (z i u : Nat) (h : i ≠ j) : pl_v z (put_R σ a j x) a i u = pl_v z σ a i u := by
  unfold pl_v
  rw [show sg_R (put_R σ a j x) a i = sg_R σ a i from up_2_j _ _ h]
  rfl
theorem oth_J {a j : Nat} {x : Int64} (z i u : Nat) (h : i ≠ j) : pl_v z (put_J σ a j x) a i u = pl_v z σ a i u := by
  unfold pl_v
  rw [show sg_J (put_J σ a j x) a i = sg_J σ a i from up_2_j _ _ h]
  rfl
theorem fit_R {t : FieldType} (ht : t.isReference = true) (κ : Nat → Nat) (z : Nat) (x : Option Nat) : narrow t (av_ κ z (vr x)) = av_ κ z (vr x) ∧ fits t (av_ κ z (vr x)) = true := by
  cases x <;> cases t <;> first | (simp [FieldType.isReference] at ht; done) | exact ⟨rfl, rfl⟩
theorem J_putI (C0 : CX Γ cc own) {r : Option Nat} {a idx ci j : Nat} {x : Int32} {mine : Bool} (hF : FL own idx ci j .int false mine) (hr : r = some a) (ha : is_A σ a ci) (ht : (pl_ft ci)[j]? = some 0) (hd : decode cc pc = .ok (.putfield idx, 3)) (hq : pc + 3 = q) (kk : J_ Γ q lv st (put_I σ a j x) k n) : J_ Γ pc lv (vi x :: vr r :: st) σ k n :=
  J_put (τ := put_I σ a j x) C0 hF hr ha ht hd hq (fun κ z => ⟨by show Value.int _ = Value.int x; exact congrArg _ (up_2_s _ _ _ _), rfl, rfl⟩) rfl rfl (fun _ _ b hb => pl_ne_I b hb) (fun z i u h _ => oth_I z i u h) kk
theorem bo_n {x : Int32} (h : x = 0 ∨ x = 1) : narrow .boolean (.int x) = .int x ∧ fits .boolean (.int x) = true := by rcases h with rfl | rfl <;> exact ⟨by decide, by decide⟩
theorem J_putZ (C0 : CX Γ cc own) {r : Option Nat} {a idx ci j : Nat} {x : Int32} (hx01 : x = 0 ∨ x = 1) {mine : Bool} (hF : FL own idx ci j .boolean false mine) (hr : r = some a) (ha : is_A σ a ci) (ht : (pl_ft ci)[j]? = some 0) (hd : decode cc pc = .ok (.putfield idx, 3)) (hq : pc + 3 = q) (kk : J_ Γ q lv st (put_I σ a j x) k n) : J_ Γ pc lv (vi x :: vr r :: st) σ k n :=
  J_put (τ := put_I σ a j x) C0 hF hr ha ht hd hq (fun κ z => ⟨by show Value.int _ = Value.int x; exact congrArg _ (up_2_s _ _ _ _), (bo_n hx01).1, (bo_n hx01).2⟩) rfl rfl (fun _ _ b hb => pl_ne_I b hb) (fun z i u h _ => oth_I z i u h) kk
theorem J_putJ (C0 : CX Γ cc own) {r : Option Nat} {a idx ci j : Nat} {x : Int64} {mine : Bool} (hF : FL own idx ci j .long false mine) (hr : r = some a) (ha : is_A σ a ci) (ht : (pl_ft ci)[j]? = some 2) (hd : decode cc pc = .ok (.putfield idx, 3)) (hq : pc + 3 = q) (kk : J_ Γ q lv st (put_J σ a j x) k n) : J_ Γ pc lv (vl x :: vr r :: st) σ k n :=
  J_put (τ := put_J σ a j x) C0 hF hr ha ht hd hq (fun κ z => ⟨by show Value.long _ = Value.long x; exact congrArg _ (up_2_s _ _ _ _), rfl, rfl⟩) rfl rfl (fun _ _ b hb => pl_ne_J b hb) (fun z i u h _ => oth_J z i u h) kk
theorem J_putR (C0 : CX Γ cc own) {r x : Option Nat} {a idx ci j : Nat} {t : FieldType} (htr : t.isReference = true) {mine : Bool} (hF : FL own idx ci j t false mine) (hr : r = some a) (ha : is_A σ a ci) (ht : (pl_ft ci)[j]? = some 1) (hd : decode cc pc = .ok (.putfield idx, 3)) (hq : pc + 3 = q) (kk : J_ Γ q lv st (put_R σ a j x) k n) : J_ Γ pc lv (vr x :: vr r :: st) σ k n :=
  J_put (τ := put_R σ a j x) C0 hF hr ha ht hd hq (fun κ z => ⟨by show va_rf (vz_o z (up_2 _ _ _ _ _ _)) = va_rf (vz_o z x); rw [up_2_s], (fit_R htr κ z x).1, (fit_R htr κ z x).2⟩) rfl rfl (fun _ _ b hb => pl_ne_R b hb) (fun z i u h _ => oth_R z i u h) kk
theorem J_putFI (C0 : CX Γ cc own) {r : Option Nat} {a idx ci j : Nat} {x : Int32} (hin2 : Γ.2.2.2.2.2.2.2.2.1.name = "<init>") (hF : FL own idx ci j .int true true) (hr : r = some a) (ha : is_A σ a ci) (ht : (pl_ft ci)[j]? = some 0) (hd : decode cc pc = .ok (.putfield idx, 3)) (hq : pc + 3 = q) (kk : J_ Γ q lv st (put_I σ a j x) k n) : J_ Γ pc lv (vi x :: vr r :: st) σ k n :=
  J_putF (τ := put_I σ a j x) C0 hin2 hF hr ha ht hd hq (fun κ z => ⟨by show Value.int _ = Value.int x; exact congrArg _ (up_2_s _ _ _ _), rfl, rfl⟩) rfl rfl (fun _ _ b hb => pl_ne_I b hb) (fun z i u h _ => oth_I z i u h) kk
theorem J_putFR (C0 : CX Γ cc own) {r x : Option Nat} {a idx ci j : Nat} {t : FieldType} (hin2 : Γ.2.2.2.2.2.2.2.2.1.name = "<init>") (htr : t.isReference = true) (hF : FL own idx ci j t true true) (hr : r = some a) (ha : is_A σ a ci) (ht : (pl_ft ci)[j]? = some 1) (hd : decode cc pc = .ok (.putfield idx, 3)) (hq : pc + 3 = q) (kk : J_ Γ q lv st (put_R σ a j x) k n) : J_ Γ pc lv (vr x :: vr r :: st) σ k n :=
  J_putF (τ := put_R σ a j x) C0 hin2 hF hr ha ht hd hq (fun κ z => ⟨by show va_rf (vz_o z (up_2 _ _ _ _ _ _)) = va_rf (vz_o z x); rw [up_2_s], (fit_R htr κ z x).1, (fit_R htr κ z x).2⟩) rfl rfl (fun _ _ b hb => pl_ne_R b hb) (fun z i u h _ => oth_R z i u h) kk
/-! arrays -/
theorem J_alen (C0 : CX Γ cc own) {r : Option Nat} {a kd : Nat} (hr : r = some a) (ha : is_A σ a kd) (hk : 12 ≤ kd ∧ kd < 20) (hd : decode cc pc = .ok (.arraylength, 1)) (hq : pc + 1 = q) (kk : J_ Γ q lv (vi (Int32.ofNat (sg_L σ a)) :: st) σ k n) : J_ Γ pc lv (vr r :: st) σ k n := by
  obtain ⟨p, l, e, R, s, m, args, below, meth, c, κ, z, tA, D, nL, Z⟩ := Γ
  subst hq hr
  intro H locs ls hP hS hl
  obtain ⟨hx, hb, hml, hown, hts, hK, hX, hz⟩ := C0
  obtain ⟨i, hi⟩ := pl_get (tA := tA) (z := z) ha hk.2
  have hty : ∃ ft, (pl_ty tA)[kd - 12]? = some (tA kd, ft) := by
    rcases (show kd = 12 ∨ kd = 13 ∨ kd = 14 ∨ kd = 15 ∨ kd = 16 ∨ kd = 17 ∨ kd = 18 ∨ kd = 19 by omega) with rfl | rfl | rfl | rfl | rfl | rfl | rfl | rfl <;> exact ⟨_, rfl⟩
  obtain ⟨ft, hft⟩ := hty
  have hc : ∃ x : vp_A, x.1 = sg_L σ a ∧ pl_c tA z σ a = .inl (tA kd, x) := by
    unfold pl_c
    rw [ha.2, if_neg (by omega)]
    split
    · exact ⟨_, rfl, rfl⟩
    · split
      · exact ⟨_, rfl, rfl⟩
      · exact ⟨_, rfl, rfl⟩
  obtain ⟨x, hx1, hc⟩ := hc
  rw [hc] at hi
  exact va_alen hx hb hK hP.2.1 i (kd - 12) hi hft (by rw [hx1]) hd (kk H locs ls hP hS hl)
theorem J_iald (C0 : CX Γ cc own) {r : Option Nat} {a : Nat} {i : Int32} (hr : r = some a) (ha : is_A σ a 12) (hin : ¬ (i < 0 ∨ sg_L σ a ≤ i.toNatClampNeg)) (hd : decode cc pc = .ok (.iaload, 1)) (hq : pc + 1 = q) (kk : J_ Γ q lv (vi (sg_I σ a i.toNatClampNeg) :: st) σ k n) : J_ Γ pc lv (vi i :: vr r :: st) σ k n := by
  obtain ⟨p, l, e, R, s, m, args, below, meth, c, κ, z, tA, D, nL, Z⟩ := Γ
  subst hq hr
  intro H locs ls hP hS hl
  obtain ⟨hx, hb, hml, hown, hts, hK, hX, hz⟩ := C0
  obtain ⟨i0, hi⟩ := pl_get (tA := tA) (z := z) ha (by omega)
  rw [pl_c_int ha (Or.inl rfl)] at hi
  exact va_iald hx hb hK hP.2.1 i0 0 hi rfl hin hd (kk H locs ls hP hS hl)
theorem J_zald (C0 : CX Γ cc own) {r : Option Nat} {a : Nat} {i : Int32} (hr : r = some a) (ha : is_A σ a 13) (hin : ¬ (i < 0 ∨ sg_L σ a ≤ i.toNatClampNeg)) (hd : decode cc pc = .ok (.baload, 1)) (hq : pc + 1 = q) (kk : J_ Γ q lv (vi (sg_I σ a i.toNatClampNeg) :: st) σ k n) : J_ Γ pc lv (vi i :: vr r :: st) σ k n := by
  obtain ⟨p, l, e, R, s, m, args, below, meth, c, κ, z, tA, D, nL, Z⟩ := Γ
  subst hq hr
  intro H locs ls hP hS hl
  obtain ⟨hx, hb, hml, hown, hts, hK, hX, hz⟩ := C0
  obtain ⟨i0, hi⟩ := pl_get (tA := tA) (z := z) ha (by omega)
  rw [pl_c_int ha (Or.inr rfl)] at hi
  exact va_zald hx hb hK hP.2.1 i0 1 hi rfl hin hd (kk H locs ls hP hS hl)
theorem J_lald (C0 : CX Γ cc own) {r : Option Nat} {a : Nat} {i : Int32} (hr : r = some a) (ha : is_A σ a 19) (hin : ¬ (i < 0 ∨ sg_L σ a ≤ i.toNatClampNeg)) (hd : decode cc pc = .ok (.laload, 1)) (hq : pc + 1 = q) (kk : J_ Γ q lv (vl (sg_J σ a i.toNatClampNeg) :: st) σ k n) : J_ Γ pc lv (vi i :: vr r :: st) σ k n := by
  obtain ⟨p, l, e, R, s, m, args, below, meth, c, κ, z, tA, D, nL, Z⟩ := Γ
  subst hq hr
  intro H locs ls hP hS hl
  obtain ⟨hx, hb, hml, hown, hts, hK, hX, hz⟩ := C0
  obtain ⟨i0, hi⟩ := pl_get (tA := tA) (z := z) ha (by omega)
  rw [pl_c_long ha] at hi
  exact va_lald hx hb hK hP.2.1 i0 7 hi rfl hin hd (kk H locs ls hP hS hl)
theorem J_aald (C0 : CX Γ cc own) {r : Option Nat} {a kd : Nat} {i : Int32} (hr : r = some a) (ha : is_A σ a kd) (hk : 14 ≤ kd ∧ kd < 19) (hin : ¬ (i < 0 ∨ sg_L σ a ≤ i.toNatClampNeg)) (hd : decode cc pc = .ok (.aaload, 1)) (hq : pc + 1 = q) (kk : J_ Γ q lv (vr (sg_R σ a i.toNatClampNeg) :: st) σ k n) : J_ Γ pc lv (vi i :: vr r :: st) σ k n := by
  obtain ⟨p, l, e, R, s, m, args, below, meth, c, κ, z, tA, D, nL, Z⟩ := Γ
  subst hq hr
  intro H locs ls hP hS hl
  obtain ⟨hx, hb, hml, hown, hts, hK, hX, hz⟩ := C0
  obtain ⟨i0, hi⟩ := pl_get (tA := tA) (z := z) ha (by omega)
  rw [pl_c_ref ha hk.1 hk.2] at hi
  have hty : ∃ C : String, (pl_ty tA)[kd - 12]? = some (tA kd, .object C) := by
    rcases (show kd = 14 ∨ kd = 15 ∨ kd = 16 ∨ kd = 17 ∨ kd = 18 by omega) with rfl | rfl | rfl | rfl | rfl <;> exact ⟨_, rfl⟩
  obtain ⟨C, hft⟩ := hty
  exact va_aldq hx hb hK hP.2.1 i0 (kd - 12) hi hft hin hd (kk H locs ls hP hS hl)
theorem J_iast (C0 : CX Γ cc own) {r : Option Nat} {a : Nat} {i x : Int32} (hr : r = some a) (ha : is_A σ a 12) (hin : ¬ (i < 0 ∨ sg_L σ a ≤ i.toNatClampNeg)) (hd : decode cc pc = .ok (.iastore, 1)) (hq : pc + 1 = q) (kk : J_ Γ q lv st (put_I σ a i.toNatClampNeg x) k n) : J_ Γ pc lv (vi x :: vi i :: vr r :: st) σ k n := by
  obtain ⟨p, l, e, R, s, m, args, below, meth, c, κ, z, tA, D, nL, Z⟩ := Γ
  subst hq hr
  intro H locs ls hP hS hl
  obtain ⟨hx, hb, hml, hown, hts, hK, hX, hz⟩ := C0
  obtain ⟨i0, hi⟩ := pl_get (tA := tA) (z := z) ha (by omega)
  have hat0 := hP.2.1 i0 _ hi
  rw [pl_c_int ha (Or.inl rfl)] at hat0
  refine W.iast hx hb hat0 ((hK.2 0 _ rfl).1 (sg_L σ a) (fun j => .int (sg_I σ a j))) (fun q => by cases q) (by show ¬ (i < 0 ∨ (arrV _ _ _).slots.size ≤ _); rw [arrV_size]; exact hin) rfl rfl hd fun H1 e1 e2 oq => ?_
  refine kk H1 _ ls (pl_write hP ha (by omega) rfl rfl (fun b hb => pl_ne_I b hb) ?_ e2 oq) (hS.put e2 oq (by show z ≤ z + a; omega)) hl
  rw [pl_c_int (σ := put_I σ a i.toNatClampNeg x) ha (Or.inl rfl)]
  show H1[z + a]? = some (vp_cell _ _)
  rw [e1]
  show some ((vp_cell (tA 12) (sg_L σ a, .inl (sg_I σ a))).setSlot _ _) = some (vp_cell (tA 12) (sg_L σ a, .inl (up_2 _ a i.toNatClampNeg x a)))
  rw [vp_cell_i, vp_cell_i, arrV_store, up_2_eq]
  congr 2
  funext j
  by_cases hj : j = i.toNatClampNeg
  · subst hj; simp [updV, va_up]
  · simp [updV, va_up, hj]; rfl
theorem J_zast (C0 : CX Γ cc own) {r : Option Nat} {a : Nat} {i x : Int32} (hr : r = some a) (ha : is_A σ a 13) (hin : ¬ (i < 0 ∨ sg_L σ a ≤ i.toNatClampNeg)) (hd : decode cc pc = .ok (.bastore, 1)) (hq : pc + 1 = q) (kk : J_ Γ q lv st (put_I σ a i.toNatClampNeg (x &&& 1)) k n) : J_ Γ pc lv (vi x :: vi i :: vr r :: st) σ k n := by
  obtain ⟨p, l, e, R, s, m, args, below, meth, c, κ, z, tA, D, nL, Z⟩ := Γ
  subst hq hr
  intro H locs ls hP hS hl
  obtain ⟨hx, hb, hml, hown, hts, hK, hX, hz⟩ := C0
  obtain ⟨i0, hi⟩ := pl_get (tA := tA) (z := z) ha (by omega)
  have hat0 := hP.2.1 i0 _ hi
  rw [pl_c_int ha (Or.inr rfl)] at hat0
  refine W.zast hx hb hat0 ((hK.2 1 _ rfl).1 (sg_L σ a) (fun j => .int (sg_I σ a j))) (fun q => by cases q) (by show ¬ (i < 0 ∨ (arrV _ _ _).slots.size ≤ _); rw [arrV_size]; exact hin) rfl rfl hd fun H1 e1 e2 oq => ?_
  refine kk H1 _ ls (pl_write hP ha (by omega) rfl rfl (fun b hb => pl_ne_I b hb) ?_ e2 oq) (hS.put e2 oq (by show z ≤ z + a; omega)) hl
  rw [pl_c_int (σ := put_I σ a i.toNatClampNeg (x &&& 1)) ha (Or.inr rfl)]
  show H1[z + a]? = some (vp_cell _ _)
  rw [e1]
  show some ((vp_cell (tA 13) (sg_L σ a, .inl (sg_I σ a))).setSlot _ (.int (x &&& 1))) = some (vp_cell (tA 13) (sg_L σ a, .inl (up_2 _ a i.toNatClampNeg (x &&& 1) a)))
  rw [vp_cell_i, vp_cell_i, arrV_store, up_2_eq]
  congr 2
  funext j
  by_cases hj : j = i.toNatClampNeg
  · subst hj; simp [updV, va_up]
  · simp [updV, va_up, hj]; rfl
theorem J_last (C0 : CX Γ cc own) {r : Option Nat} {a : Nat} {i : Int32} {x : Int64} (hr : r = some a) (ha : is_A σ a 19) (hin : ¬ (i < 0 ∨ sg_L σ a ≤ i.toNatClampNeg)) (hd : decode cc pc = .ok (.lastore, 1)) (hq : pc + 1 = q) (kk : J_ Γ q lv st (put_J σ a i.toNatClampNeg x) k n) : J_ Γ pc lv (vl x :: vi i :: vr r :: st) σ k n := by
  obtain ⟨p, l, e, R, s, m, args, below, meth, c, κ, z, tA, D, nL, Z⟩ := Γ
  subst hq hr
  intro H locs ls hP hS hl
  obtain ⟨hx, hb, hml, hown, hts, hK, hX, hz⟩ := C0
  obtain ⟨i0, hi⟩ := pl_get (tA := tA) (z := z) ha (by omega)
  have hat0 := hP.2.1 i0 _ hi
  rw [pl_c_long ha] at hat0
  refine W.last hx hb hat0 ((hK.2 7 _ rfl).1 (sg_L σ a) (fun j => .long (sg_J σ a j))) (fun q => by cases q) (by show ¬ (i < 0 ∨ (arrV _ _ _).slots.size ≤ _); rw [arrV_size]; exact hin) rfl rfl hd fun H1 e1 e2 oq => ?_
  refine kk H1 _ ls (pl_write hP ha (by omega) rfl rfl (fun b hb => pl_ne_J b hb) ?_ e2 oq) (hS.put e2 oq (by show z ≤ z + a; omega)) hl
  rw [pl_c_long (σ := put_J σ a i.toNatClampNeg x) ha]
  show H1[z + a]? = some (vp_cell _ _)
  rw [e1]
  show some ((vp_cell (tA 19) (sg_L σ a, .inr (.inl (sg_J σ a)))).setSlot _ _) = some (vp_cell (tA 19) (sg_L σ a, .inr (.inl (up_2 _ a i.toNatClampNeg x a))))
  rw [vp_cell_l, vp_cell_l, arrV_store, up_2_eq]
  congr 2
  funext j
  by_cases hj : j = i.toNatClampNeg
  · subst hj; simp [updV, va_up]
  · simp [updV, va_up, hj]; rfl
theorem J_aast (C0 : CX Γ cc own) {r : Option Nat} {a b kd ci : Nat} {i : Int32} (hr : r = some a) (ha : is_A σ a kd) (hk : (kd, ci) ∈ [(14, 0), (15, 2), (16, 6), (17, 7), (18, 9)]) (hb0 : is_A σ b ci) (hin : ¬ (i < 0 ∨ sg_L σ a ≤ i.toNatClampNeg)) (hd : decode cc pc = .ok (.aastore, 1)) (hq : pc + 1 = q) (kk : J_ Γ q lv st (put_R σ a i.toNatClampNeg (some b)) k n) : J_ Γ pc lv (vr (some b) :: vi i :: vr r :: st) σ k n := by
  obtain ⟨p, l, e, R, s, m, args, below, meth, c, κ, z, tA, D, nL, Z⟩ := Γ
  subst hq hr
  intro H locs ls hP hS hl
  obtain ⟨hx, hb, hml, hown, hts, hK, hX, hz⟩ := C0
  have hkd : (14 ≤ kd ∧ kd < 19) ∧ ci < 12 := by
    simp only [List.mem_cons, Prod.mk.injEq, List.not_mem_nil, or_false] at hk
    omega
  obtain ⟨i0, hi⟩ := pl_get (tA := tA) (z := z) ha (by omega)
  obtain ⟨i1, hi1⟩ := pl_get (tA := tA) (z := z) hb0 (by omega)
  have hat0 := hP.2.1 i0 _ hi
  rw [pl_c_ref ha hkd.1.1 hkd.1.2] at hat0
  have hat1 := hP.2.1 i1 _ hi1
  rw [pl_c_obj hb0 hkd.2] at hat1
  obtain ⟨r', hr', cellV, g1, g2, g3, -⟩ := hat1
  have hty : ∃ rr : vw_C, vwCl[ci]? = some rr ∧ (pl_ty tA)[kd - 12]? = some (tA kd, .object rr.1) := by
    simp only [List.mem_cons, Prod.mk.injEq, List.not_mem_nil, or_false] at hk
    rcases hk with ⟨rfl, rfl⟩ | ⟨rfl, rfl⟩ | ⟨rfl, rfl⟩ | ⟨rfl, rfl⟩ | ⟨rfl, rfl⟩ <;> exact ⟨_, rfl, rfl⟩
  obtain ⟨rr, hrr, hft⟩ := hty
  have hcls := (hK.1 ci rr hrr).2
  obtain ⟨kA, comp, k1, k2, k3, -⟩ := (hK.2 (kd - 12) _ hft).2
  have hcomp : comp = D.1 ci := Option.some.inj (k3.symm.trans hcls.1)
  subst hcomp
  obtain ⟨kC, hkC, -⟩ := hcls.2
  have hlt : i.toNatClampNeg < sg_L σ a := Nat.not_le.mp fun q => hin (Or.inr q)
  have h0 : ¬ i < 0 := fun q => hin (Or.inl q)
  refine W.aast hx hb hat0 (fun q h => by cases h) (fun h => by cases h) k1 k2 rfl hkC ⟨h0, by show _ < (arrV _ _ _).slots.size; rw [arrV_size]; exact hlt⟩ g1 (fun q h => by rw [g3] at h; cases h) (by rw [g2]; exact hkC) (by rw [g2]; exact va_assign hcls) rfl rfl hd fun H1 e1 e2 oq => ?_
  refine kk H1 _ ls (pl_write hP ha (by omega) rfl rfl (fun b hb => pl_ne_R b hb) ?_ e2 oq) (hS.put e2 oq (by show z ≤ z + a; omega)) hl
  rw [pl_c_ref (σ := put_R σ a i.toNatClampNeg (some b)) ha hkd.1.1 hkd.1.2]
  show H1[z + a]? = some (vp_cell _ _)
  rw [e1]
  show some ((vp_cell (tA kd) (sg_L σ a, .inr (.inr (.inr (.inr (fun i => vz_o z (sg_R σ a i))))))).setSlot _ _) = some (vp_cell (tA kd) (sg_L σ a, .inr (.inr (.inr (.inr (fun j => vz_o z (up_2 _ a i.toNatClampNeg (some b) a j)))))))
  rw [vp_cell_q, vp_cell_q, arrV_store, up_2_eq]
  congr 2
  funext j
  by_cases hj : j = i.toNatClampNeg
  · subst hj; simp [updV, va_up]; rfl
  · simp [updV, va_up, hj]; rfl
end RF
section RB
variable {Γ : Gm} {cc : ByteArray} {own : String} {pc q t : Nat} {lv lv' : List (Nat × AV)} {st : List AV} {σ : Sg} {k n : Nat}
/-- a check that a run without the machine's own throws has passed; a reference that isn't null; a call that has answered -/
theorem K_chk {β : Type} {c : Prop} {dc : Decidable c} {A : Option β} {r : β} {P : Prop} (hf : @ite _ c dc none A = some r) (kk : ¬ c → A = some r → P) : P := by
  by_cases h : c
  · rw [if_pos h] at hf; cases hf
  · rw [if_neg h] at hf; exact kk h hf
theorem K_some {α β : Type} {o : Option α} {F : α → Option β} {r : β} {P : Prop} (hf : o.bind F = some r) (kk : ∀ a, o = some a → F a = some r → P) : P := by
  cases o with
  | none => cases hf
  | some a => exact kk a rfl hf
theorem K_ite {β : Type} {c : Prop} {dc : Decidable c} {A B r : β} {P : Prop} (hf : @ite _ c dc A B = r) (kt : c → A = r → P) (kf : ¬ c → B = r → P) : P := by
  by_cases h : c
  · rw [if_pos h] at hf; exact kt h hf
  · rw [if_neg h] at hf; exact kf h hf
theorem J_icmp_eq (C0 : CX Γ cc own) {x y : Int32} {off : Int} {β : Type} {A B r : β} (hd : decode cc pc = .ok (.if_icmp .eq off, 3)) (ht : (pc : Int) + off = (t : Int)) (hq : pc + 3 = q) (hf : (if x = y then A else B) = r) (kt : x = y → A = r → J_ Γ t lv st σ k n) (kf : ¬ x = y → B = r → J_ Γ q lv st σ k n) : J_ Γ pc lv (vi y :: vi x :: st) σ k n := by
  obtain ⟨p, l, e, R, s, m, args, below, meth, c, κ, z, tA, D, nL, Z⟩ := Γ
  subst hq
  intro H locs ls hP hS hl
  exact lv_icmp_eq C0.1 C0.2.1 hd ht (fun h => kt h (by rw [if_pos h] at hf; exact hf) H locs ls hP hS hl) (fun h => kf h (by rw [if_neg h] at hf; exact hf) H locs ls hP hS hl)
theorem J_icmp_ne (C0 : CX Γ cc own) {x y : Int32} {off : Int} {β : Type} {A B r : β} (hd : decode cc pc = .ok (.if_icmp .ne off, 3)) (ht : (pc : Int) + off = (t : Int)) (hq : pc + 3 = q) (hf : (if x = y then B else A) = r) (kt : ¬ x = y → A = r → J_ Γ t lv st σ k n) (kf : x = y → B = r → J_ Γ q lv st σ k n) : J_ Γ pc lv (vi y :: vi x :: st) σ k n := by
  obtain ⟨p, l, e, R, s, m, args, below, meth, c, κ, z, tA, D, nL, Z⟩ := Γ
  subst hq
  intro H locs ls hP hS hl
  exact lv_icmp_ne C0.1 C0.2.1 hd ht (fun h => kt h (by rw [if_neg h] at hf; exact hf) H locs ls hP hS hl) (fun h => kf h (by rw [if_pos h] at hf; exact hf) H locs ls hP hS hl)
theorem J_icmp_lt (C0 : CX Γ cc own) {x y : Int32} {off : Int} {β : Type} {A B r : β} (hd : decode cc pc = .ok (.if_icmp .lt off, 3)) (ht : (pc : Int) + off = (t : Int)) (hq : pc + 3 = q) (hf : (if x < y then A else B) = r) (kt : x < y → A = r → J_ Γ t lv st σ k n) (kf : ¬ x < y → B = r → J_ Γ q lv st σ k n) : J_ Γ pc lv (vi y :: vi x :: st) σ k n := by
  obtain ⟨p, l, e, R, s, m, args, below, meth, c, κ, z, tA, D, nL, Z⟩ := Γ
  subst hq
  intro H locs ls hP hS hl
  exact lv_icmp_lt C0.1 C0.2.1 hd ht (fun h => kt h (by rw [if_pos h] at hf; exact hf) H locs ls hP hS hl) (fun h => kf h (by rw [if_neg h] at hf; exact hf) H locs ls hP hS hl)
theorem J_icmp_ge (C0 : CX Γ cc own) {x y : Int32} {off : Int} {β : Type} {A B r : β} (hd : decode cc pc = .ok (.if_icmp .ge off, 3)) (ht : (pc : Int) + off = (t : Int)) (hq : pc + 3 = q) (hf : (if x < y then B else A) = r) (kt : ¬ x < y → A = r → J_ Γ t lv st σ k n) (kf : x < y → B = r → J_ Γ q lv st σ k n) : J_ Γ pc lv (vi y :: vi x :: st) σ k n := by
  obtain ⟨p, l, e, R, s, m, args, below, meth, c, κ, z, tA, D, nL, Z⟩ := Γ
  subst hq
  intro H locs ls hP hS hl
  exact lv_icmp_ge C0.1 C0.2.1 hd ht (fun h => kt (Int32.not_lt.mpr h) (by rw [if_neg (Int32.not_lt.mpr h)] at hf; exact hf) H locs ls hP hS hl) (fun h => kf (Int32.not_le.mp h) (by rw [if_pos (Int32.not_le.mp h)] at hf; exact hf) H locs ls hP hS hl)
theorem J_icmp_gt (C0 : CX Γ cc own) {x y : Int32} {off : Int} {β : Type} {A B r : β} (hd : decode cc pc = .ok (.if_icmp .gt off, 3)) (ht : (pc : Int) + off = (t : Int)) (hq : pc + 3 = q) (hf : (if y < x then A else B) = r) (kt : y < x → A = r → J_ Γ t lv st σ k n) (kf : ¬ y < x → B = r → J_ Γ q lv st σ k n) : J_ Γ pc lv (vi y :: vi x :: st) σ k n := by
  obtain ⟨p, l, e, R, s, m, args, below, meth, c, κ, z, tA, D, nL, Z⟩ := Γ
  subst hq
  intro H locs ls hP hS hl
  exact lv_icmp_gt C0.1 C0.2.1 hd ht (fun h => kt h (by rw [if_pos h] at hf; exact hf) H locs ls hP hS hl) (fun h => kf h (by rw [if_neg h] at hf; exact hf) H locs ls hP hS hl)
theorem J_icmp_le (C0 : CX Γ cc own) {x y : Int32} {off : Int} {β : Type} {A B r : β} (hd : decode cc pc = .ok (.if_icmp .le off, 3)) (ht : (pc : Int) + off = (t : Int)) (hq : pc + 3 = q) (hf : (if y < x then B else A) = r) (kt : ¬ y < x → A = r → J_ Γ t lv st σ k n) (kf : y < x → B = r → J_ Γ q lv st σ k n) : J_ Γ pc lv (vi y :: vi x :: st) σ k n := by
  obtain ⟨p, l, e, R, s, m, args, below, meth, c, κ, z, tA, D, nL, Z⟩ := Γ
  subst hq
  intro H locs ls hP hS hl
  exact lv_icmp_le C0.1 C0.2.1 hd ht (fun h => kt (Int32.not_lt.mpr h) (by rw [if_neg (Int32.not_lt.mpr h)] at hf; exact hf) H locs ls hP hS hl) (fun h => kf (Int32.not_le.mp h) (by rw [if_pos (Int32.not_le.mp h)] at hf; exact hf) H locs ls hP hS hl)
theorem J_if_eq (C0 : CX Γ cc own) {x : Int32} {off : Int} {β : Type} {A B r : β} (hd : decode cc pc = .ok (.ifCond .eq off, 3)) (ht : (pc : Int) + off = (t : Int)) (hq : pc + 3 = q) (hf : (if x = 0 then A else B) = r) (kt : x = 0 → A = r → J_ Γ t lv st σ k n) (kf : ¬ x = 0 → B = r → J_ Γ q lv st σ k n) : J_ Γ pc lv (vi x :: st) σ k n := by
  obtain ⟨p, l, e, R, s, m, args, below, meth, c, κ, z, tA, D, nL, Z⟩ := Γ
  subst hq
  intro H locs ls hP hS hl
  exact lv_if_eq C0.1 C0.2.1 hd ht (fun h => kt h (by rw [if_pos h] at hf; exact hf) H locs ls hP hS hl) (fun h => kf h (by rw [if_neg h] at hf; exact hf) H locs ls hP hS hl)
theorem J_if_ne (C0 : CX Γ cc own) {x : Int32} {off : Int} {β : Type} {A B r : β} (hd : decode cc pc = .ok (.ifCond .ne off, 3)) (ht : (pc : Int) + off = (t : Int)) (hq : pc + 3 = q) (hf : (if x = 0 then B else A) = r) (kt : ¬ x = 0 → A = r → J_ Γ t lv st σ k n) (kf : x = 0 → B = r → J_ Γ q lv st σ k n) : J_ Γ pc lv (vi x :: st) σ k n := by
  obtain ⟨p, l, e, R, s, m, args, below, meth, c, κ, z, tA, D, nL, Z⟩ := Γ
  subst hq
  intro H locs ls hP hS hl
  exact lv_if_ne C0.1 C0.2.1 hd ht (fun h => kt h (by rw [if_neg h] at hf; exact hf) H locs ls hP hS hl) (fun h => kf h (by rw [if_pos h] at hf; exact hf) H locs ls hP hS hl)
theorem J_if_lt (C0 : CX Γ cc own) {x : Int32} {off : Int} {β : Type} {A B r : β} (hd : decode cc pc = .ok (.ifCond .lt off, 3)) (ht : (pc : Int) + off = (t : Int)) (hq : pc + 3 = q) (hf : (if x < 0 then A else B) = r) (kt : x < 0 → A = r → J_ Γ t lv st σ k n) (kf : ¬ x < 0 → B = r → J_ Γ q lv st σ k n) : J_ Γ pc lv (vi x :: st) σ k n := by
  obtain ⟨p, l, e, R, s, m, args, below, meth, c, κ, z, tA, D, nL, Z⟩ := Γ
  subst hq
  intro H locs ls hP hS hl
  exact lv_if_lt C0.1 C0.2.1 hd ht (fun h => kt h (by rw [if_pos h] at hf; exact hf) H locs ls hP hS hl) (fun h => kf h (by rw [if_neg h] at hf; exact hf) H locs ls hP hS hl)
theorem J_if_ge (C0 : CX Γ cc own) {x : Int32} {off : Int} {β : Type} {A B r : β} (hd : decode cc pc = .ok (.ifCond .ge off, 3)) (ht : (pc : Int) + off = (t : Int)) (hq : pc + 3 = q) (hf : (if x < 0 then B else A) = r) (kt : ¬ x < 0 → A = r → J_ Γ t lv st σ k n) (kf : x < 0 → B = r → J_ Γ q lv st σ k n) : J_ Γ pc lv (vi x :: st) σ k n := by
  obtain ⟨p, l, e, R, s, m, args, below, meth, c, κ, z, tA, D, nL, Z⟩ := Γ
  subst hq
  intro H locs ls hP hS hl
  exact lv_if_ge C0.1 C0.2.1 hd ht (fun h => kt (Int32.not_lt.mpr h) (by rw [if_neg (Int32.not_lt.mpr h)] at hf; exact hf) H locs ls hP hS hl) (fun h => kf (Int32.not_le.mp h) (by rw [if_pos (Int32.not_le.mp h)] at hf; exact hf) H locs ls hP hS hl)
theorem J_if_gt (C0 : CX Γ cc own) {x : Int32} {off : Int} {β : Type} {A B r : β} (hd : decode cc pc = .ok (.ifCond .gt off, 3)) (ht : (pc : Int) + off = (t : Int)) (hq : pc + 3 = q) (hf : (if 0 < x then A else B) = r) (kt : 0 < x → A = r → J_ Γ t lv st σ k n) (kf : ¬ 0 < x → B = r → J_ Γ q lv st σ k n) : J_ Γ pc lv (vi x :: st) σ k n := by
  obtain ⟨p, l, e, R, s, m, args, below, meth, c, κ, z, tA, D, nL, Z⟩ := Γ
  subst hq
  intro H locs ls hP hS hl
  exact lv_if_gt C0.1 C0.2.1 hd ht (fun h => kt h (by rw [if_pos h] at hf; exact hf) H locs ls hP hS hl) (fun h => kf h (by rw [if_neg h] at hf; exact hf) H locs ls hP hS hl)
theorem J_if_le (C0 : CX Γ cc own) {x : Int32} {off : Int} {β : Type} {A B r : β} (hd : decode cc pc = .ok (.ifCond .le off, 3)) (ht : (pc : Int) + off = (t : Int)) (hq : pc + 3 = q) (hf : (if 0 < x then B else A) = r) (kt : ¬ 0 < x → A = r → J_ Γ t lv st σ k n) (kf : 0 < x → B = r → J_ Γ q lv st σ k n) : J_ Γ pc lv (vi x :: st) σ k n := by
  obtain ⟨p, l, e, R, s, m, args, below, meth, c, κ, z, tA, D, nL, Z⟩ := Γ
  subst hq
  intro H locs ls hP hS hl
  exact lv_if_le C0.1 C0.2.1 hd ht (fun h => kt (Int32.not_lt.mpr h) (by rw [if_neg (Int32.not_lt.mpr h)] at hf; exact hf) H locs ls hP hS hl) (fun h => kf (Int32.not_le.mp h) (by rw [if_pos (Int32.not_le.mp h)] at hf; exact hf) H locs ls hP hS hl)
theorem J_ifnull (C0 : CX Γ cc own) {r : Option Nat} {off : Int} (hd : decode cc pc = .ok (.ifnull off, 3)) (ht : (pc : Int) + off = (t : Int)) (hq : pc + 3 = q) (kt : r = none → J_ Γ t lv st σ k n) (kf : ∀ a, r = some a → J_ Γ q lv st σ k n) : J_ Γ pc lv (vr r :: st) σ k n := by
  obtain ⟨p, l, e, R, s, m, args, below, meth, c, κ, z, tA, D, nL, Z⟩ := Γ
  subst hq
  intro H locs ls hP hS hl
  cases r with
  | none => exact lv_ifnullN C0.1 C0.2.1 hd ht (kt rfl H locs ls hP hS hl)
  | some a => exact lv_ifnull C0.1 C0.2.1 hd (kf a rfl H locs ls hP hS hl)
theorem J_ifnonnull (C0 : CX Γ cc own) {r : Option Nat} {off : Int} (hd : decode cc pc = .ok (.ifnonnull off, 3)) (ht : (pc : Int) + off = (t : Int)) (hq : pc + 3 = q) (kt : ∀ a, r = some a → J_ Γ t lv st σ k n) (kf : r = none → J_ Γ q lv st σ k n) : J_ Γ pc lv (vr r :: st) σ k n := by
  obtain ⟨p, l, e, R, s, m, args, below, meth, c, κ, z, tA, D, nL, Z⟩ := Γ
  subst hq
  intro H locs ls hP hS hl
  cases r with
  | none => exact lv_ifnonnullN C0.1 C0.2.1 hd (kf rfl H locs ls hP hS hl)
  | some a => exact lv_ifnonnull C0.1 C0.2.1 hd ht (kt a rfl H locs ls hP hS hl)
theorem J_tblOut (C0 : CX Γ cc own) {dflt lo hi : Int} {offs : Array Int} {len : Nat} {x : Int32} (hd : decode cc pc = .ok (.tableswitch dflt lo hi offs, len)) (h : x.toInt < lo ∨ hi < x.toInt) (ht : (pc : Int) + dflt = (t : Int)) (kk : J_ Γ t lv st σ k n) : J_ Γ pc lv (vi x :: st) σ k n := by
  obtain ⟨p, l, e, R, s, m, args, below, meth, c, κ, z, tA, D, nL, Z⟩ := Γ
  intro H locs ls hP hS hl
  exact lv_tableOut C0.1 C0.2.1 hd h ht (kk H locs ls hP hS hl)
theorem J_tblIn (C0 : CX Γ cc own) {dflt lo hi off : Int} {offs : Array Int} {len : Nat} {x : Int32} (hd : decode cc pc = .ok (.tableswitch dflt lo hi offs, len)) (h1 : ¬ x.toInt < lo) (h2 : ¬ hi < x.toInt) (ho : offs[(x.toInt - lo).toNat]? = some off) (ht : (pc : Int) + off = (t : Int)) (kk : J_ Γ t lv st σ k n) : J_ Γ pc lv (vi x :: st) σ k n := by
  obtain ⟨p, l, e, R, s, m, args, below, meth, c, κ, z, tA, D, nL, Z⟩ := Γ
  intro H locs ls hP hS hl
  exact lv_tableIn C0.1 C0.2.1 hd h1 h2 ho ht (kk H locs ls hP hS hl)
theorem J_lookup (C0 : CX Γ cc own) {dflt off : Int} {ps : Array (Int × Int)} {len : Nat} {x : Int32} (hd : decode cc pc = .ok (.lookupswitch dflt ps, len)) (hp : (ps.toList.zip (ps.toList.drop 1)).all (fun (a, next) => a.1 < next.1) = true) (ho : Op.lookupswitch.offset ps.toList dflt x.toInt = off) (ht : (pc : Int) + off = (t : Int)) (kk : J_ Γ t lv st σ k n) : J_ Γ pc lv (vi x :: st) σ k n := by
  obtain ⟨p, l, e, R, s, m, args, below, meth, c, κ, z, tA, D, nL, Z⟩ := Γ
  intro H locs ls hP hS hl
  exact lv_lookup C0.1 C0.2.1 hd hp ho ht (kk H locs ls hP hS hl)
/-! ends -/
theorem J_iret {mL : Nat} {ret : Option FieldType} {fr lo mc ms : Nat} {Q : Option AV → Sg → Prop} (C1 : CM Γ cc own mL ret fr lo mc ms Q) {x : Int32} (hd : decode cc pc = .ok (.ireturn, 1)) (hret : ret = some .int) (hk : k ≤ mc) (hn : n ≤ ms) (hQ : Q (some (vi x)) σ) : J_ Γ pc lv [vi x] σ k n := by
  obtain ⟨p, l, e, R, s, m, args, below, meth, c, κ, z, tA, D, nL, Z⟩ := Γ
  obtain ⟨C0, hnl, hr, hlocks, hR, hZ⟩ := C1
  subst hZ hret
  intro H locs ls hP hS hl
  refine W.widen hk hn ?_
  exact W.iret C0.1 C0.2.1 hr (fun t ht hW => ⟨⟨some (vi x), σ, rfl, hQ, by rw [ht]; exact hP⟩, hS.F ht⟩) hS.2.2 hd (hlocks := hlocks)
theorem J_zret {mL : Nat} {ret : Option FieldType} {fr lo mc ms : Nat} {Q : Option AV → Sg → Prop} (C1 : CM Γ cc own mL ret fr lo mc ms Q) {x : Int32} (hd : decode cc pc = .ok (.ireturn, 1)) (hret : ret = some .boolean) (hx01 : x = 0 ∨ x = 1) (hk : k ≤ mc) (hn : n ≤ ms) (hQ : Q (some (vi x)) σ) : J_ Γ pc lv [vi x] σ k n := by
  obtain ⟨p, l, e, R, s, m, args, below, meth, c, κ, z, tA, D, nL, Z⟩ := Γ
  obtain ⟨C0, hnl, hr, hlocks, hR, hZ⟩ := C1
  subst hZ hret
  intro H locs ls hP hS hl
  refine W.widen hk hn ?_
  exact W.zret C0.1 C0.2.1 hr (bo_n hx01).1 (fun t ht hW => ⟨⟨some (vi x), σ, rfl, hQ, by rw [ht]; exact hP⟩, hS.F ht⟩) hS.2.2 hd (hlocks := hlocks)
theorem J_lret {mL : Nat} {ret : Option FieldType} {fr lo mc ms : Nat} {Q : Option AV → Sg → Prop} (C1 : CM Γ cc own mL ret fr lo mc ms Q) {x : Int64} (hd : decode cc pc = .ok (.lreturn, 1)) (hret : ret = some .long) (hk : k ≤ mc) (hn : n ≤ ms) (hQ : Q (some (vl x)) σ) : J_ Γ pc lv [vl x] σ k n := by
  obtain ⟨p, l, e, R, s, m, args, below, meth, c, κ, z, tA, D, nL, Z⟩ := Γ
  obtain ⟨C0, hnl, hr, hlocks, hR, hZ⟩ := C1
  subst hZ hret
  intro H locs ls hP hS hl
  refine W.widen hk hn ?_
  exact W.lret C0.1 C0.2.1 hr (fun t ht hW => ⟨⟨some (vl x), σ, rfl, hQ, by rw [ht]; exact hP⟩, hS.F ht⟩) hS.2.2 hd (hlocks := hlocks)
theorem J_aret {mL : Nat} {ret : Option FieldType} {fr lo mc ms : Nat} {Q : Option AV → Sg → Prop} (C1 : CM Γ cc own mL ret fr lo mc ms Q) {r : Option Nat} {rt : FieldType} (hd : decode cc pc = .ok (.areturn, 1)) (hret : ret = some rt) (hrt : (∃ n, rt = .object n) ∨ ∃ t, rt = .array t) (hk : k ≤ mc) (hn : n ≤ ms) (hQ : Q (some (vr r)) σ) : J_ Γ pc lv [vr r] σ k n := by
  obtain ⟨p, l, e, R, s, m, args, below, meth, c, κ, z, tA, D, nL, Z⟩ := Γ
  obtain ⟨C0, hnl, hr, hlocks, hR, hZ⟩ := C1
  subst hZ hret
  intro H locs ls hP hS hl
  refine W.widen hk hn ?_
  exact W.aret C0.1 C0.2.1 hr hrt (rv_cases (κ := κ) (z := z) (v := vr r) trivial) (fun t ht hW => ⟨⟨some (vr r), σ, rfl, hQ, by rw [ht]; exact hP⟩, hS.F ht⟩) hS.2.2 hd (hlocks := hlocks)
theorem J_vret {mL : Nat} {ret : Option FieldType} {fr lo mc ms : Nat} {Q : Option AV → Sg → Prop} (C1 : CM Γ cc own mL ret fr lo mc ms Q) (hd : decode cc pc = .ok (.return_, 1)) (hret : ret = none) (hk : k ≤ mc) (hn : n ≤ ms) (hQ : Q none σ) : J_ Γ pc lv [] σ k n := by
  obtain ⟨p, l, e, R, s, m, args, below, meth, c, κ, z, tA, D, nL, Z⟩ := Γ
  obtain ⟨C0, hnl, hr, hlocks, hR, hZ⟩ := C1
  subst hZ hret
  intro H locs ls hP hS hl
  refine W.widen hk hn ?_
  exact W.vret C0.1 C0.2.1 hr (fun t ht hW => ⟨⟨none, σ, rfl, hQ, by rw [ht]; exact hP⟩, hS.F ht⟩) hS.2.2 hd (hlocks := hlocks)
/-! calls -/
/-- what the tables say of a method -/
def ML (y : MethodName) (b : ByteArray) (mL : Nat) (ret : Option FieldType) (n0 : Nat) : Prop := Cond.code y b mL ret ∈ wt_ ∧ Cond.initialized y.cls ∈ wt_ ∧ y.cls ≠ "java/lang/invoke/MethodHandle" ∧ y.cls ≠ "java/lang/invoke/VarHandle" ∧ (parseMethodDescriptor y.desc).map (fun d => d.parameters.length) = some n0
def rm_of (Γ : Gm) : Room := Γ.2.2.2.1
theorem CM.room {mL : Nat} {ret : Option FieldType} {fr lo mc ms : Nat} {Q : Option AV → Sg → Prop} (C1 : CM Γ cc own mL ret fr lo mc ms Q) : rm_of Γ = { frames := fr, cells := mc, slots := ms, locals := lo } := by
  obtain ⟨p, l, e, R, s, m, args, below, meth, c, κ, z, tA, D, nL, Z⟩ := Γ
  exact C1.2.2.2.2.1
theorem ct_blind {κ : Nat → Nat} {z : Nat} {tA : Nat → ClassId} {D : va_G} {as : List AV} {σ : Sg} : FrameBlind (ct_P κ z tA D as σ) := by
  intro a U g mk h
  obtain ⟨h1, h2, h3, h4, h5⟩ := h
  exact ⟨h1, h2, va_K.moved (u := U) (U := U.calling g mk a) (Vm.Alike.refl U.vm) h3, k_X.same (u := U) (U := U.calling g mk a) rfl rfl h4, h5⟩
theorem ct_pre {p : Program} {s : State} {H : Heap} {locs : List Loc} {κ : Nat → Nat} {z : Nat} {tA : Nat → ClassId} {D : va_G} {as : List AV} {σ : Sg} (hP : pl_P tA D z σ H) (hS : va_S (fun q => z ≤ q) s.heap H locs) (hK : va_K D vwCl (pl_ty tA) s) (hX : k_X κ z s) (hz : z ≤ s.heap.size) : ∀ U : State, U.heap = H → s.WarmedH U.vm → ct_P κ z tA D as σ (as.map (av_ κ z)).toArray U := by
  intro U hU hW
  refine ⟨rfl, by rw [hU]; exact hP, va_K.moved hW.alike hK, hX.moved hW (fun q hq => ?_), by rw [hU]; exact Nat.le_trans hz hS.1⟩
  rw [hU]
  exact hS.2.1 q (Nat.lt_of_lt_of_le hq hz) (Nat.not_le.mpr hq)
theorem J_run (C0 : CX Γ cc own) {st0 rest : List AV} {mc ms : Nat} {Q' : Option AV → Sg → Prop} {a : List AV} (hq : pc + 3 = q)
    (hr : match Γ with | (p, l, e, R, s, m, args, below, meth, c, κ, z, tA, D, nL, _) => ∀ (H : Heap) (locs : List Loc) (ls : Array Slot), pl_P tA D z σ H → va_S (fun q => z ≤ q) s.heap H locs → ls.size = nL → va_Run p l e R s m args below meth c H locs k n mc ms (F0 m pc ls (st0.map (av_ κ z))) (rest.map (av_ κ z)) (ct_Q κ z tA D Q' (a.map (av_ κ z)).toArray) (fun q => z ≤ q))
    (kk : ∀ (r : Option AV) (τ : Sg), Q' r τ → J_ Γ q lv (r.toList ++ rest) τ (k + mc) (n + ms)) : J_ Γ pc lv st0 σ k n := by
  obtain ⟨p, l, e, R, s, m, args, below, meth, c, κ, z, tA, D, nL, Z⟩ := Γ
  subst hq
  intro H locs ls hP hS hl
  intro T hT X
  obtain ⟨v, st₀, t, T', L, h0, X', hL, e1, e2, ⟨⟨r, τ, hv, hq, hPτ⟩, hz1, hk1⟩, hst⟩ := hr H locs ls hP hS hl.1 T hT X
  injection hv with hv
  subst hv
  rw [h0] at hz1 hk1
  have hS1 : va_S (fun q => z ≤ q) s.heap T'.heap (locs ++ L) := ⟨Nat.le_trans hS.1 (by rw [e1]; exact hz1), fun q h1 h2 => by rw [e1, hk1 q (Nat.lt_of_lt_of_le h1 hS.1) h2]; exact hS.2.1 q h1 h2, fun q hq => by
      rcases List.mem_append.mp hq with h | h
      · exact hS.2.2 q h
      · exact hL q h⟩
  obtain ⟨t2, a1, b1⟩ := kk r τ hq T'.heap (locs ++ L) ls (by rw [e1]; exact hPτ) hS1 hl T' rfl X'
  refine ⟨t2, hst t2 ?_, b1⟩
  have e9 : (r.map (av_ κ z)).toList ++ rest.map (av_ κ z) = (r.toList ++ rest).map (av_ κ z) := by cases r <;> simp
  rw [e9]
  exact a1
theorem rest_cat {κ : Nat → Nat} {z : Nat} {m : MethodId} {ls : Array Slot} {st9 : List Value} {rest : List AV} (h : (rest.map ac_).sum ≤ 8) : 2 * (F0 m pc ls st9).monitorRoom + ((rest.map (av_ κ z)).map fun v => v.category).sum ≤ 8 := by
  refine lv_room ?_
  rw [List.map_map]
  have e : ((fun v : Value => v.category) ∘ av_ κ z) = ac_ := funext fun v => av_cat κ z v
  rw [e]
  exact h
theorem J_callS (C0 : CX Γ cc own) {y : MethodName} {b : ByteArray} {mL n0 fr lo mc ms idx F Lo Cc Ss : Nat} {ret : Option FieldType} {as rest st0 : List AV} {Q' : Option AV → Sg → Prop} (hM : Ct y b mL ret fr lo mc ms as σ Q') (hm : ML y b mL ret n0) (hlink : Cond.methodLink own idx y ∈ wt_) (hs : Cond.static y ∈ wt_) (hd : decode cc pc = .ok (.invokestatic idx, 3)) (hq : pc + 3 = q) (hst : st0 = as.reverse ++ rest) (hn0 : as.length = n0) (hcat : (rest.map ac_).sum ≤ 8) (hR : rm_of Γ = { frames := F, cells := Cc, slots := Ss, locals := Lo }) (h1 : fr + 1 ≤ F) (h2 : 8 + (mL + 11) + lo ≤ Lo) (h3 : k + mc ≤ Cc) (h4 : n + ms ≤ Ss)
    (kk : ∀ (r : Option AV) (τ : Sg), Q' r τ → J_ Γ q lv (r.toList ++ rest) τ (k + mc) (n + ms)) : J_ Γ pc lv st0 σ k n := by
  refine J_run (a := as) C0 hq ?_ kk
  obtain ⟨p, l, e, R, s, m, args, below, meth, c, κ, z, tA, D, nL, Z⟩ := Γ
  obtain ⟨hx, hb, hml, hown, hts, hK, hX, hz⟩ := C0
  intro H locs ls hP hS hsz
  have hR : R = { frames := F, cells := Cc, slots := Ss, locals := Lo } := hR
  subst hR hst
  refine va_runS (As := as.map (av_ κ z)) (rest := rest.map (av_ κ z)) ⟨hx, hb, hml, hown, hts⟩ (hM l κ z tA D) ⟨callB_of n0 hts (wt_good hm.1) rfl rfl rfl (hts _ hm.2.1) (hts _ hlink) hm.2.2 ⟨h1, h2⟩, hts _ hs⟩ ⟨ct_blind, ct_pre (p := p) hP hS hK hX hz⟩ rfl (by rw [List.length_map]; exact hn0) hsz ?_ (rest_cat hcat) hd ⟨h3, h4⟩
  show ((as.reverse ++ rest).map (av_ κ z)) = _
  rw [List.map_append, List.map_reverse]
theorem J_callSN (C0 : CX Γ cc own) {y : MethodName} {host : String} {b : ByteArray} {mL n0 fr lo mc ms idx F Lo Cc Ss : Nat} {ret : Option FieldType} {as rest st0 : List AV} {Q' : Option AV → Sg → Prop} (hM : Ct y b mL ret fr lo mc ms as σ Q') (hm : ML y b mL ret n0) (hlink : (own, idx, y, host) ∈ k_nest) (hs : Cond.static y ∈ wt_) (hd : decode cc pc = .ok (.invokestatic idx, 3)) (hq : pc + 3 = q) (hst : st0 = as.reverse ++ rest) (hn0 : as.length = n0) (hcat : (rest.map ac_).sum ≤ 8) (hR : rm_of Γ = { frames := F, cells := Cc, slots := Ss, locals := Lo }) (h1 : fr + 1 ≤ F) (h2 : 8 + (mL + 11) + lo ≤ Lo) (h3 : k + mc ≤ Cc) (h4 : n + ms ≤ Ss)
    (kk : ∀ (r : Option AV) (τ : Sg), Q' r τ → J_ Γ q lv (r.toList ++ rest) τ (k + mc) (n + ms)) : J_ Γ pc lv st0 σ k n := by
  refine J_run (a := as) C0 hq ?_ kk
  obtain ⟨p, l, e, R, s, m, args, below, meth, c, κ, z, tA, D, nL, Z⟩ := Γ
  obtain ⟨hx, hb, hml, hown, hts, hK, hX, hz⟩ := C0
  intro H locs ls hP hS hsz
  have hR : R = { frames := F, cells := Cc, slots := Ss, locals := Lo } := hR
  subst hR hst
  refine va_runSN (As := as.map (av_ κ z)) (rest := rest.map (av_ κ z)) ⟨hx, hb, hml, hown, hts⟩ (hM l κ z tA D) ⟨va_cnB n0 hts (wt_good hm.1) rfl rfl rfl (hX.nest hlink) (hts _ hm.2.1) hm.2.2 ⟨h1, h2⟩, hts _ hs, trivial⟩ ⟨ct_blind, ct_pre (p := p) hP hS hK hX hz⟩ rfl (by rw [List.length_map]; exact hn0) hsz ?_ (rest_cat hcat) hd ⟨h3, h4⟩
  show ((as.reverse ++ rest).map (av_ κ z)) = _
  rw [List.map_append, List.map_reverse]
/-- the receiver -/
theorem pl_recv {tA : Nat → ClassId} {D : va_G} {z : Nat} {H : Heap} {s : State} {a ci : Nat} {qc : vw_C} (hK : va_K D vwCl (pl_ty tA) s) (hP : pl_P tA D z σ H) (hc : vwCl[ci]? = some qc) (h12 : ci < 12) (ha : is_A σ a ci) : ∃ cell : Cell, H[z + a]? = some cell ∧ cell.vm.isStatics = false ∧ s.vm.findClass qc.1 = some cell.cls := by
  obtain ⟨i, hi⟩ := pl_get (tA := tA) (z := z) ha (by omega)
  rw [pl_c_obj ha h12] at hi
  exact va_recv hK hP.2.1 hc hi
theorem J_callV (C0 : CX Γ cc own) {y : MethodName} {b : ByteArray} {mL n0 fr lo mc ms idx F Lo Cc Ss a ci : Nat} {ret : Option FieldType} {as rest st0 : List AV} {Q' : Option AV → Sg → Prop} {r9 : Option Nat} (hr9 : r9 = some a) (ha : is_A σ a ci) (hM : Ct y b mL ret fr lo mc ms (vr (some a) :: as) σ Q') (hm : ML y b mL ret n0) (hlink : Cond.methodLink own idx y ∈ wt_) (hs : Cond.instanceMethod y ∈ wt_) (hsel : Cond.selects y.cls y y ∈ wt_) {T : u_T} {N : Nat} (hc : vwCl[ci]? = some (y.cls, T, N)) (h12 : ci < 12) (hd : decode cc pc = .ok (.invokevirtual idx, 3)) (hq : pc + 3 = q) (hst : st0 = as.reverse ++ vr r9 :: rest) (hn0 : as.length = n0) (hcat : (rest.map ac_).sum ≤ 8) (hR : rm_of Γ = { frames := F, cells := Cc, slots := Ss, locals := Lo }) (h1 : fr + 1 ≤ F) (h2 : 8 + (mL + 11) + lo ≤ Lo) (h3 : k + mc ≤ Cc) (h4 : n + ms ≤ Ss)
    (kk : ∀ (r : Option AV) (τ : Sg), Q' r τ → J_ Γ q lv (r.toList ++ rest) τ (k + mc) (n + ms)) : J_ Γ pc lv st0 σ k n := by
  refine J_run (a := vr (some a) :: as) C0 hq ?_ kk
  obtain ⟨p, l, e, R, s, m, args, below, meth, c, κ, z, tA, D, nL, Z⟩ := Γ
  obtain ⟨hx, hb, hml, hown, hts, hK, hX, hz⟩ := C0
  intro H locs ls hP hS hsz
  have hR : R = { frames := F, cells := Cc, slots := Ss, locals := Lo } := hR
  subst hR hst hr9
  refine va_runV (C := y.cls) (b := z + a) (As := as.map (av_ κ z)) (rest := rest.map (av_ κ z)) ⟨hx, hb, hml, hown, hts⟩ (hM l κ z tA D) ⟨callB_of n0 hts (wt_good hm.1) rfl rfl rfl (hts _ hm.2.1) (hts _ hlink) hm.2.2 ⟨h1, h2⟩, hts _ hs, hts _ hsel⟩ ⟨ct_blind, pl_recv hK hP hc h12 ha, ct_pre (p := p) (as := vr (some a) :: as) hP hS hK hX hz⟩ rfl (by rw [List.length_map]; exact hn0) hsz ?_ (rest_cat hcat) hd ⟨h3, h4⟩
  show ((as.reverse ++ vr (some a) :: rest).map (av_ κ z)) = _
  rw [List.map_append, List.map_reverse]
  rfl
/-- a method that the receiver's class inherits -/
theorem J_callU (C0 : CX Γ cc own) {x y : MethodName} {owner C : String} {b : ByteArray} {mL n0 fr lo mc ms idx F Lo Cc Ss a ci : Nat} {ret : Option FieldType} {as rest st0 : List AV} {Q' : Option AV → Sg → Prop} {r9 : Option Nat} (hr9 : r9 = some a) (ha : is_A σ a ci) (hM : Ct y b mL ret fr lo mc ms (vr (some a) :: as) σ Q') (hyx : y = ⟨owner, x.name, x.desc⟩) (hm : ML y b mL ret n0) (hlink : Cond.methodLink own idx x ∈ wt_) (hsame : Cond.sameMethod x.cls owner x.name x.desc ∈ wt_) (hs : Cond.instanceMethod y ∈ wt_) (hsel : Cond.selects C x y ∈ wt_) {T : u_T} {N : Nat} (hc : vwCl[ci]? = some (C, T, N)) (h12 : ci < 12) (hd : decode cc pc = .ok (.invokevirtual idx, 3)) (hq : pc + 3 = q) (hst : st0 = as.reverse ++ vr r9 :: rest) (hn0 : as.length = n0) (hcat : (rest.map ac_).sum ≤ 8) (hR : rm_of Γ = { frames := F, cells := Cc, slots := Ss, locals := Lo }) (h1 : fr + 1 ≤ F) (h2 : 8 + (mL + 11) + lo ≤ Lo) (h3 : k + mc ≤ Cc) (h4 : n + ms ≤ Ss)
    (kk : ∀ (r : Option AV) (τ : Sg), Q' r τ → J_ Γ q lv (r.toList ++ rest) τ (k + mc) (n + ms)) : J_ Γ pc lv st0 σ k n := by
  refine J_run (a := vr (some a) :: as) C0 hq ?_ kk
  obtain ⟨p, l, e, R, s, m, args, below, meth, c, κ, z, tA, D, nL, Z⟩ := Γ
  obtain ⟨hx, hb, hml, hown, hts, hK, hX, hz⟩ := C0
  intro H locs ls hP hS hsz
  have hR : R = { frames := F, cells := Cc, slots := Ss, locals := Lo } := hR
  subst hR hst hr9
  have hy1 : y.cls = owner := by rw [hyx]
  have hy2 : y.desc = x.desc := by rw [hyx]
  have hd9 := hm.2.2
  rw [hy1, hy2] at hd9
  refine va_runU (C := C) (owner := owner) (b := z + a) (As := as.map (av_ κ z)) (rest := rest.map (av_ κ z)) ⟨hx, hb, hml, hown, hts⟩ (hM l κ z tA D) (va_cwU n0 hts (fun w hw => ?_) rfl rfl rfl hyx hd9 ⟨h1, h2⟩) ⟨ct_blind, pl_recv hK hP hc h12 ha, ct_pre (p := p) (as := vr (some a) :: as) hP hS hK hX hz⟩ rfl (by rw [List.length_map]; exact hn0) hsz ?_ (rest_cat hcat) hd ⟨h3, h4⟩
  · have hw' : w ∈ wt_ := by
      unfold va_wsU at hw
      rcases List.mem_append.mp hw with h | h
      · simp only [List.mem_cons, List.not_mem_nil, or_false] at h
        rcases h with rfl | rfl | rfl | rfl | rfl
        · exact hlink
        · exact hsame
        · exact hsel
        · exact hs
        · exact hm.2.1
      · exact (wt_good hm.1 w h).1
    exact ⟨hw', good_of_word (List.mem_filter.mp hw').2⟩
  · show ((as.reverse ++ vr (some a) :: rest).map (av_ κ z)) = _
    rw [List.map_append, List.map_reverse]
    rfl
end RB
section RC
variable {Γ : Gm} {cc : ByteArray} {own : String} {pc q : Nat} {lv : List (Nat × AV)} {σ : Sg} {k n : Nat}
/-- n ints of a, from place i on, into b, from place j on -/
def cpy_I (σ : Sg) (a b i j n : Nat) : Sg := (σ.1, σ.2.1, σ.2.2.1, va_up σ.2.2.2.1 b (va_cpy (σ.2.2.2.1 a) (σ.2.2.2.1 b) i j n), σ.2.2.2.2.1, σ.2.2.2.2.2)
theorem sg_T.cpyI {a b i j n : Nat} (h : sg_T σ) : sg_T (cpy_I σ a b i j n) := h
theorem sg_E.cpyI {σ τ : Sg} {a b i j n : Nat} (h : sg_E σ τ) : sg_E σ (cpy_I τ a b i j n) := h
theorem is_A.cpyI {σ : Sg} {a b i j n c k : Nat} (h : is_A σ c k) : is_A (cpy_I σ a b i j n) c k := h
theorem J_copyi (C0 : CX Γ cc own) {ra rb : Option Nat} {a b idx F Lo Cc Ss : Nat} {sp dp x : Int32} {rest : List AV} (hra : ra = some a) (hrb : rb = some b) (ha : is_A σ a 12) (hb0 : is_A σ b 12) (hc : ¬ (sp < 0 ∨ dp < 0 ∨ x < 0 ∨ sg_L σ a < sp.toNatClampNeg + x.toNatClampNeg ∨ sg_L σ b < dp.toNatClampNeg + x.toNatClampNeg)) (hlink : Cond.methodLink own idx arraycopyName ∈ wt_) (hnat : Cond.native arraycopyName ∈ wt_) (hstat : Cond.static arraycopyName ∈ wt_) (hini : Cond.initialized "java/lang/System" ∈ wt_) (hd : decode cc pc = .ok (.invokestatic idx, 3)) (hq : pc + 3 = q) (hR : rm_of Γ = { frames := F, cells := Cc, slots := Ss, locals := Lo }) (h1 : 1 ≤ F) (h2 : (rest.map ac_).sum + (nativeFrameWords "java/lang/System" "arraycopy" 5 + 11) ≤ Lo) (kk : J_ Γ q lv rest (cpy_I σ a b sp.toNatClampNeg dp.toNatClampNeg x.toNatClampNeg) k n) : J_ Γ pc lv (vi x :: vi dp :: vr rb :: vi sp :: vr ra :: rest) σ k n := by
  obtain ⟨p, l, e, R, s, m, args, below, meth, c, κ, z, tA, D, nL, Z⟩ := Γ
  subst hq hra hrb
  have hR : R = { frames := F, cells := Cc, slots := Ss, locals := Lo } := hR
  subst hR
  intro H locs ls hP hS hl
  obtain ⟨hx, hb, hml, hown, hts, hK, hX, hz⟩ := C0
  have c1 : ¬ sp < 0 := fun h => hc (Or.inl h)
  have c2 : ¬ dp < 0 := fun h => hc (Or.inr (Or.inl h))
  have c3 : ¬ x < 0 := fun h => hc (Or.inr (Or.inr (Or.inl h)))
  have c4 : sp.toNatClampNeg + x.toNatClampNeg ≤ sg_L σ a := Nat.not_lt.mp fun h => hc (Or.inr (Or.inr (Or.inr (Or.inl h))))
  have c5 : dp.toNatClampNeg + x.toNatClampNeg ≤ sg_L σ b := Nat.not_lt.mp fun h => hc (Or.inr (Or.inr (Or.inr (Or.inr h))))
  have nn : ∀ z : Int32, ¬ z < 0 → z.toInt = (z.toNatClampNeg : Int) := by
    intro z hz
    have hz0 : (0 : Int) ≤ z.toInt := by
      have := Int32.not_lt.mp hz
      simpa using Int32.le_iff_toInt_le.mp this
    show z.toInt = ((z.toInt.toNat : Nat) : Int)
    omega
  obtain ⟨i0, hi0⟩ := pl_get (tA := tA) (z := z) ha (by omega)
  obtain ⟨i1, hi1⟩ := pl_get (tA := tA) (z := z) hb0 (by omega)
  have hc0 := hP.2.1 i0 _ hi0
  rw [pl_c_int ha (Or.inl rfl)] at hc0
  have hc1 := hP.2.1 i1 _ hi1
  rw [pl_c_int hb0 (Or.inl rfl)] at hc1
  have hc0 : H[z + a]? = some (vp_cell (tA 12) (sg_L σ a, .inl (sg_I σ a))) := hc0
  have hc1 : H[z + b]? = some (vp_cell (tA 12) (sg_L σ b, .inl (sg_I σ b))) := hc1
  intro T hT X
  obtain ⟨-, k0, hk0, cm0, hkk0⟩ := (hK.2 0 _ rfl).1 (sg_L σ a) (fun j => .int (sg_I σ a j))
  obtain ⟨-, k1, hk1, cm1, hkk1⟩ := (hK.2 0 _ rfl).1 (sg_L σ b) (fun j => .int (sg_I σ b j))
  obtain ⟨vm', X', step⟩ := X.arraycopy hx hown (hts _ hlink) (hts _ hnat) (hts _ hstat) (hts _ hini) (src := z + a) (dst := z + b) (cs := vp_cell (tA 12) (sg_L σ a, .inl (sg_I σ a))) (cd := vp_cell (tA 12) (sg_L σ b, .inl (sg_I σ b))) (srcPos := sp) (destPos := dp) (n := x) (by rw [hT]; exact hc0) (by rw [hT]; exact hc1)
    (fun _ h => by cases h) (fun _ h => by cases h) (fun h => by cases h) (fun h => by cases h) hk0 hk1 hkk0 hkk1 (by first | rfl | simp [refKind] | decide) c1 c2 c3
    (by rw [nn sp c1, nn x c3]; show ¬ _ > ((arrV (tA 12) (sg_L σ a) (fun j => .int (sg_I σ a j))).slots.size : Int); rw [arrV_size]; omega)
    (by rw [nn dp c2, nn x c3]; show ¬ _ > ((arrV (tA 12) (sg_L σ b) (fun j => .int (sg_I σ b j))).slots.size : Int); rw [arrV_size]; omega)
    (fun vm₁ _ i hi => by
      have e : (vp_cell (tA 12) (sg_L σ a, .inl (sg_I σ a))).slots.getD (sp.toNatClampNeg + i) .null = .int (sg_I σ a (sp.toNatClampNeg + i)) := by
        show (arrV (tA 12) (sg_L σ a) (fun j => .int (sg_I σ a j))).slots.getD _ _ = _
        rw [Array.getD_eq_getD_getElem?, arrV_read _ _ (by omega)]
        rfl
      refine ⟨?_, ?_⟩
      · rw [e]
        rfl
      · rw [e]
        exact trivial)
    (g := F0 m pc ls (.int x :: .int dp :: .ref (z + b) :: .int sp :: .ref (z + a) :: rest.map (av_ κ z))) rfl (by rw [hml]; exact hl.1) (rest := rest.map (av_ κ z)) rfl (by rw [hb]; exact hd) h1 (by
      have e8 : ((rest.map (av_ κ z)).map fun v => v.category).sum = (rest.map ac_).sum := by
        rw [List.map_map]
        have e : ((fun v : Value => v.category) ∘ av_ κ z) = ac_ := funext fun v => av_cat κ z v
        rw [e]
      show 2 * 0 + ((rest.map (av_ κ z)).map fun v => v.category).sum + (nativeFrameWords "java/lang/System" "arraycopy" 5 + 11) ≤ Lo
      omega)
  have e1 : copied (vp_cell (tA 12) (sg_L σ a, .inl (sg_I σ a))) (vp_cell (tA 12) (sg_L σ b, .inl (sg_I σ b))) sp dp x = vp_cell (tA 12) (sg_L σ b, .inl (va_cpy (sg_I σ a) (sg_I σ b) sp.toNatClampNeg dp.toNatClampNeg x.toNatClampNeg)) := va_copied (fun z => .int z) (tA 12) (tA 12) (sg_I σ a) (sg_I σ b) c4
  rw [e1] at X' step
  have hlt : z + b < H.size := (Array.getElem?_eq_some_iff.mp hc1).1
  have hheap : ((T.setVm vm').setCell (z + b) (vp_cell (tA 12) (sg_L σ b, .inl (va_cpy (sg_I σ a) (sg_I σ b) sp.toNatClampNeg dp.toNatClampNeg x.toNatClampNeg)))).heap = H.setIfInBounds (z + b) (vp_cell (tA 12) (sg_L σ b, .inl (va_cpy (sg_I σ a) (sg_I σ b) sp.toNatClampNeg dp.toNatClampNeg x.toNatClampNeg))) := by rw [← hT]; rfl
  have oq : ∀ q : Nat, q ≠ z + b → (H.setIfInBounds (z + b) (vp_cell (tA 12) (sg_L σ b, .inl (va_cpy (sg_I σ a) (sg_I σ b) sp.toNatClampNeg dp.toNatClampNeg x.toNatClampNeg))))[q]? = H[q]? := fun q hq => by simp [Array.getElem?_setIfInBounds, Ne.symm hq]
  have hPτ : pl_P tA D z (cpy_I σ a b sp.toNatClampNeg dp.toNatClampNeg x.toNatClampNeg) (H.setIfInBounds (z + b) (vp_cell (tA 12) (sg_L σ b, .inl (va_cpy (sg_I σ a) (sg_I σ b) sp.toNatClampNeg dp.toNatClampNeg x.toNatClampNeg)))) := by
    refine pl_write hP hb0 (by omega) rfl rfl (fun b' hb' => pl_c_congr rfl rfl (va_up_ne _ _ hb') rfl rfl) ?_ (by simp) oq
    rw [pl_c_int (σ := cpy_I σ a b sp.toNatClampNeg dp.toNatClampNeg x.toNatClampNeg) hb0 (Or.inl rfl)]
    show (H.setIfInBounds (z + b) _)[z + b]? = some (vp_cell (tA 12) (sg_L σ b, .inl (va_up σ.2.2.2.1 b _ b)))
    rw [va_up_self]
    simp [Array.getElem?_setIfInBounds, hlt]
    rfl
  obtain ⟨t, a1, b1⟩ := kk _ _ ls hPτ ⟨by simp; exact hS.1, fun q g1 g2 => by
      rw [oq q (fun e => g2 (by rw [e]; show z ≤ z + b; omega))]
      exact hS.2.1 q g1 g2, fun q hq => by
      rcases List.mem_append.mp hq with h | h
      · exact hS.2.2 q h
      · obtain ⟨z', -, hz'⟩ := List.mem_map.mp h
        rw [← hz']
        show z ≤ z + b
        omega⟩ hl _ hheap X'
  exact ⟨t, step t a1, b1⟩
end RC
/-! making cells -/
/-- how many slots a cell has -/
def ce_ (k n : Nat) : Nat := if k < 12 then (pl_ft k).length else n
def sg_S (σ : Sg) : Nat := ((List.range (sg_N σ)).map (fun a => ce_ (sg_K σ a) (sg_L σ a))).sum
theorem sg_S_new (σ : Sg) (k n : Nat) : sg_S (new_C σ k n) = sg_S σ + ce_ k n := by
  have hN : sg_N (new_C σ k n) = sg_N σ + 1 := rfl
  unfold sg_S
  rw [hN, List.range_succ, List.map_append, List.sum_append]
  congr 1
  · congr 1
    apply List.map_congr_left
    intro a ha
    have hne : a ≠ σ.1 := Nat.ne_of_lt (List.mem_range.mp ha)
    rw [show sg_K (new_C σ k n) a = sg_K σ a from va_up_ne _ _ hne, show sg_L (new_C σ k n) a = sg_L σ a from va_up_ne _ _ hne]
  · rw [List.map_singleton, List.sum_singleton, show sg_K (new_C σ k n) (sg_N σ) = k from va_up_self _ _ _, show sg_L (new_C σ k n) (sg_N σ) = n from va_up_self _ _ _]
theorem sg_S_putI (σ : Sg) (a j : Nat) (v : Int32) : sg_S (put_I σ a j v) = sg_S σ := rfl
theorem sg_S_putR (σ : Sg) (a j : Nat) (v : Option Nat) : sg_S (put_R σ a j v) = sg_S σ := rfl
theorem sg_S_putJ (σ : Sg) (a j : Nat) (v : Int64) : sg_S (put_J σ a j v) = sg_S σ := rfl
theorem sum_range_le (f g : Nat → Nat) : ∀ (m n : Nat), m ≤ n → (∀ a, a < m → f a = g a) → ((List.range m).map f).sum ≤ ((List.range n).map g).sum := by
  intro m n hmn hfg
  obtain ⟨d, rfl⟩ : ∃ d, n = m + d := ⟨n - m, by omega⟩
  induction d with
  | zero =>
    rw [Nat.add_zero]
    have e : (List.range m).map f = (List.range m).map g := List.map_congr_left fun a ha => hfg a (List.mem_range.mp ha)
    rw [e]
    exact Nat.le_refl _
  | succ d ih =>
    rw [show m + (d + 1) = (m + d) + 1 by omega, List.range_succ, List.map_append, List.sum_append]
    exact Nat.le_trans (ih (by omega)) (Nat.le_add_right _ _)
theorem sg_E.slots {σ τ : Sg} (h : sg_E σ τ) : sg_S σ ≤ sg_S τ := sum_range_le _ _ _ _ h.1 (fun a ha => by rw [(h.2 a ha).1, (h.2 a ha).2])
theorem pl_L_new (σ : Sg) (k n : Nat) (hk : k < 20) : pl_L (new_C σ k n) = pl_L σ ++ [sg_N σ] := by
  have hN : sg_N (new_C σ k n) = sg_N σ + 1 := rfl
  unfold pl_L
  rw [hN, List.range_succ, List.filter_append]
  congr 1
  · apply List.filter_congr
    intro a ha
    have hne : a ≠ σ.1 := Nat.ne_of_lt (List.mem_range.mp ha)
    rw [show sg_K (new_C σ k n) a = sg_K σ a from va_up_ne _ _ hne]
  · have e : sg_K (new_C σ k n) (sg_N σ) = k := va_up_self _ _ _
    simp [List.filter_cons, e, hk]
theorem pl_c_new {tA : Nat → ClassId} {z : Nat} {σ : Sg} {k n b : Nat} (hb : b ≠ sg_N σ) : pl_c tA z (new_C σ k n) b = pl_c tA z σ b := pl_c_congr (va_up_ne _ _ hb) (va_up_ne _ _ hb) (va_up_ne _ _ hb) (va_up_ne _ _ hb) (va_up_ne _ _ hb)
theorem pl_born {tA : Nat → ClassId} {D : va_G} {z : Nat} {σ : Sg} {H H' : Heap} {k n : Nat} (hP : pl_P tA D z σ H) (hk : k < 20) (hsz : H'.size = H.size + 1) (oq : ∀ q : Nat, q < H.size → H'[q]? = H[q]?) (hat : va_at D vwCl (z + sg_N σ, pl_c tA z (new_C σ k n) (sg_N σ)) H') : pl_P tA D z (new_C σ k n) H' := by
  have e : pl_w tA z (new_C σ k n) = pl_w tA z σ ++ [(z + sg_N σ, pl_c tA z (new_C σ k n) (sg_N σ))] := by
    unfold pl_w
    rw [pl_L_new σ k n hk, List.map_append, List.map_singleton]
    congr 1
    apply List.map_congr_left
    intro b hb
    have hlt : b < sg_N σ := List.mem_range.mp (List.mem_filter.mp hb).1
    rw [pl_c_new (Nat.ne_of_lt hlt)]
  have hkp : va_P D vwCl (pl_w tA z σ) H' := hP.2.1.kept (fun i x hx => oq x.1 ((hP.2.1 i x hx).lt))
  refine ⟨by rw [hsz, hP.1]; rfl, ?_, ?_⟩
  · rw [e]
    refine hkp.app (fun i x hx => ?_)
    have hi : i < 1 := (List.getElem?_eq_some_iff.mp hx).1
    rw [show i = 0 by omega] at hx
    cases hx
    exact hat
  · rw [e]
    exact hP.2.2.push hP.2.1 hP.1.symm (by show z ≤ z + sg_N σ; omega)
section RN
variable {Γ : Gm} {cc : ByteArray} {own : String} {pc q : Nat} {lv : List (Nat × AV)} {st : List AV} {σ : Sg} {k n : Nat}
theorem J_new (C0 : CX Γ cc own) {C : String} {T : u_T} {N ci idx F Lo Cc Ss : Nat} {ty : Nat → FieldType} (hC : CL ci C T N ty) (hdf : ∀ j, j < N → defaultValue (ty j) = (if (pl_ft ci)[j]? = some 0 then .int 0 else if (pl_ft ci)[j]? = some 1 then .null else .long 0)) (hcl : Cond.classLink own idx C ∈ wt_) (hin : Cond.instantiable C N ∈ wt_) (hiz : Cond.initialized C ∈ wt_) (hd : decode cc pc = .ok (.new idx, 3)) (hq : pc + 3 = q) (hR : rm_of Γ = { frames := F, cells := Cc, slots := Ss, locals := Lo }) (h3 : k + 1 ≤ Cc) (h4 : n + N ≤ Ss) (kk : J_ Γ q lv (vr (some (sg_N σ)) :: st) (new_C σ ci 0) (k + 1) (n + N)) : J_ Γ pc lv st σ k n := by
  obtain ⟨p, l, e, R, s, m, args, below, meth, c, κ, z, tA, D, nL, Z⟩ := Γ
  subst hq
  have hR : R = { frames := F, cells := Cc, slots := Ss, locals := Lo } := hR
  subst hR
  intro H locs ls hP hS hl
  obtain ⟨hx, hb, hml, hown, hts, hK, hX, hz⟩ := C0
  obtain ⟨c1, c2, c3, c4, c5, c6⟩ := hC
  have hKn := hK.1 ci _ c1
  refine W.newcK hx hb hown (hts _ hcl) (hts _ hin) (hts _ hiz) rfl hd h3 h4 hKn.2.1 hP.1 fun H1 kC hkC e1 z1 o1 => ?_
  have hPτ : pl_P tA D z (new_C σ ci 0) H1 := by
    refine pl_born hP (by omega) (by rw [z1, hP.1]) (fun q hq => o1 q (by rw [← hP.1]; exact hq)) ?_
    rw [pl_c_obj (is_A.born σ ci 0) c2]
    refine ⟨_, c1, (u_born ty hts c3 hKn hkC e1 c4).to (fun j hj => ?_)⟩
    rw [hdf j hj]
    unfold vp_V
    rw [List.getD_eq_getElem?_getD, List.getElem?_mapIdx]
    have hj' : j < (pl_ft ci).length := by rw [c6]; exact hj
    rw [List.getElem?_eq_getElem hj']
    have e2 : sg_I (new_C σ ci 0) (sg_N σ) j = 0 := by show va_up σ.2.2.2.1 σ.1 (fun _ => 0) σ.1 j = 0; rw [va_up_self]
    have e3 : sg_R (new_C σ ci 0) (sg_N σ) j = none := by show va_up σ.2.2.2.2.1 σ.1 (fun _ => none) σ.1 j = none; rw [va_up_self]
    have e4 : sg_J (new_C σ ci 0) (sg_N σ) j = 0 := by show va_up σ.2.2.2.2.2 σ.1 (fun _ => 0) σ.1 j = 0; rw [va_up_self]
    simp only [Option.map_some, Option.getD_some, Option.some.injEq, pl_v, e2, e3, e4]
    rfl
  exact kk H1 locs ls hPτ ⟨Nat.le_trans hS.1 (by rw [z1, hP.1]; omega), fun q h1 h2 => (o1 q (by rw [← hP.1]; exact Nat.lt_of_lt_of_le h1 hS.1)).trans (hS.2.1 q h1 h2), hS.2.2⟩ hl
theorem J_newa (C0 : CX Γ cc own) {at_ : ArrayType} {kd F Lo Cc Ss : Nat} {x : Int32} (hkd : (at_ = .int ∧ kd = 12) ∨ (at_ = .boolean ∧ kd = 13) ∨ (at_ = .long ∧ kd = 19)) (hw : Cond.arrayClass (newarray.typeOf at_) ∈ wt_) (hd : decode cc pc = .ok (.newarray at_, 2)) (hq : pc + 2 = q) (hx0 : ¬ x < 0) (hby : x.toNatClampNeg * 8 ≤ 536870912) (hR : rm_of Γ = { frames := F, cells := Cc, slots := Ss, locals := Lo }) (h3 : k + 1 ≤ Cc) (h4 : n + x.toNatClampNeg ≤ Ss) (kk : J_ Γ q lv (vr (some (sg_N σ)) :: st) (new_C σ kd x.toNatClampNeg) (k + 1) (n + x.toNatClampNeg)) : J_ Γ pc lv (vi x :: st) σ k n := by
  obtain ⟨p, l, e, R, s, m, args, below, meth, c, κ, z, tA, D, nL, Z⟩ := Γ
  subst hq
  have hR : R = { frames := F, cells := Cc, slots := Ss, locals := Lo } := hR
  subst hR
  intro H locs ls hP hS hl
  obtain ⟨hx, hb, hml, hown, hts, hK, hX, hz⟩ := C0
  have hby' : x.toNatClampNeg * componentBytes (newarray.typeOf at_) ≤ 536870912 := by
    refine Nat.le_trans (Nat.mul_le_mul_left _ ?_) hby
    rcases hkd with ⟨rfl, -⟩ | ⟨rfl, -⟩ | ⟨rfl, -⟩ <;> decide
  refine va_newaK hx hb (hts _ hw) rfl hd rfl hx0 rfl hby' h3 h4 hP.1 fun H1 cA e1 z1 o1 hAr hNm => ?_
  have hcA : cA = tA kd := by
    rcases hkd with ⟨rfl, rfl⟩ | ⟨rfl, rfl⟩ | ⟨rfl, rfl⟩
    · exact Option.some.inj (hNm.symm.trans (hK.2 0 _ rfl).2)
    · exact Option.some.inj (hNm.symm.trans (hK.2 1 _ rfl).2)
    · exact Option.some.inj (hNm.symm.trans (hK.2 7 _ rfl).2)
  have e2 : sg_I (new_C σ kd x.toNatClampNeg) (sg_N σ) = fun _ => 0 := by show va_up σ.2.2.2.1 σ.1 (fun _ => 0) σ.1 = _; rw [va_up_self]
  have e4 : sg_J (new_C σ kd x.toNatClampNeg) (sg_N σ) = fun _ => 0 := by show va_up σ.2.2.2.2.2 σ.1 (fun _ => 0) σ.1 = _; rw [va_up_self]
  have e5 : sg_L (new_C σ kd x.toNatClampNeg) (sg_N σ) = x.toNatClampNeg := va_up_self _ _ _
  have hPτ : pl_P tA D z (new_C σ kd x.toNatClampNeg) H1 := by
    refine pl_born hP (by omega) (by rw [z1, hP.1]) (fun q hq => o1 q (by rw [← hP.1]; exact hq)) ?_
    rcases hkd with ⟨rfl, rfl⟩ | ⟨rfl, rfl⟩ | ⟨rfl, rfl⟩
    · rw [pl_c_int (is_A.born σ 12 _) (Or.inl rfl), e2, e5]
      show H1[z + sg_N σ]? = some (vp_cell _ _)
      rw [e1, hcA]; rfl
    · rw [pl_c_int (is_A.born σ 13 _) (Or.inr rfl), e2, e5]
      show H1[z + sg_N σ]? = some (vp_cell _ _)
      rw [e1, hcA]; rfl
    · rw [pl_c_long (is_A.born σ 19 _), e4, e5]
      show H1[z + sg_N σ]? = some (vp_cell _ _)
      rw [e1, hcA]; rfl
  exact kk H1 locs ls hPτ ⟨Nat.le_trans hS.1 (by rw [z1, hP.1]; omega), fun q h1 h2 => (o1 q (by rw [← hP.1]; exact Nat.lt_of_lt_of_le h1 hS.1)).trans (hS.2.1 q h1 h2), hS.2.2⟩ hl
theorem J_newq (C0 : CX Γ cc own) {C : String} {kd idx F Lo Cc Ss : Nat} {x : Int32} (hkd : (C, kd) ∈ [("SlitDrum$Course", 14), ("SlitDrum$Law", 15), ("SlitDrum$Scene", 16), ("SlitDrum$Strip", 17), ("SlitDrum$Wheel", 18)]) (hcl : Cond.classLink own idx C ∈ wt_) (hd : decode cc pc = .ok (.anewarray idx, 3)) (hq : pc + 3 = q) (hx0 : ¬ x < 0) (hby : x.toNatClampNeg * 8 ≤ 536870912) (hR : rm_of Γ = { frames := F, cells := Cc, slots := Ss, locals := Lo }) (h3 : k + 1 ≤ Cc) (h4 : n + x.toNatClampNeg ≤ Ss) (kk : J_ Γ q lv (vr (some (sg_N σ)) :: st) (new_C σ kd x.toNatClampNeg) (k + 1) (n + x.toNatClampNeg)) : J_ Γ pc lv (vi x :: st) σ k n := by
  obtain ⟨p, l, e, R, s, m, args, below, meth, c, κ, z, tA, D, nL, Z⟩ := Γ
  subst hq
  have hR : R = { frames := F, cells := Cc, slots := Ss, locals := Lo } := hR
  subst hR
  intro H locs ls hP hS hl
  obtain ⟨hx, hb, hml, hown, hts, hK, hX, hz⟩ := C0
  have hty : (14 ≤ kd ∧ kd < 19) ∧ (pl_ty tA)[kd - 12]? = some (tA kd, .object C) := by
    simp only [List.mem_cons, Prod.mk.injEq, List.not_mem_nil, or_false] at hkd
    rcases hkd with ⟨rfl, rfl⟩ | ⟨rfl, rfl⟩ | ⟨rfl, rfl⟩ | ⟨rfl, rfl⟩ | ⟨rfl, rfl⟩ <;> exact ⟨by omega, rfl⟩
  refine W.anew hx hb hown (hts _ hcl) (va_AO.use (hX.over hkd)) rfl hd rfl hx0 (by omega) h3 h4 fun cA kA comp f1 f2 f3 f4 => ?_
  generalize hH1 : H.push ({ cls := cA, slots := Array.replicate x.toNatClampNeg .null, vm := .none } : Cell) = H1
  have z1 : H1.size = H.size + 1 := by rw [← hH1, Array.size_push]
  have e1 : H1[H.size]? = some (arrV cA x.toNatClampNeg (fun _ => .null)) := by rw [← hH1, Array.getElem?_push_size, ← arrV_new]
  have o1 : ∀ q : Nat, q < H.size → H1[q]? = H[q]? := fun q hq => by rw [← hH1, Array.getElem?_push, if_neg (Nat.ne_of_lt hq)]
  have hcA : cA = tA kd := by
    obtain ⟨kA', comp', -, -, -, g4⟩ := (hK.2 (kd - 12) _ hty.2).2
    exact Option.some.inj (f1.symm.trans g4)
  have e3 : sg_R (new_C σ kd x.toNatClampNeg) (sg_N σ) = fun _ => none := by show va_up σ.2.2.2.2.1 σ.1 (fun _ => none) σ.1 = _; rw [va_up_self]
  have e5 : sg_L (new_C σ kd x.toNatClampNeg) (sg_N σ) = x.toNatClampNeg := va_up_self _ _ _
  have hPτ : pl_P tA D z (new_C σ kd x.toNatClampNeg) H1 := by
    refine pl_born hP (by omega) z1 o1 ?_
    rw [pl_c_ref (is_A.born σ kd _) hty.1.1 hty.1.2, e3, e5]
    show H1[z + sg_N σ]? = some (vp_cell _ _)
    rw [← hP.1, e1, hcA]; rfl
  have h9 := kk H1 locs ls hPτ ⟨Nat.le_trans hS.1 (by omega), fun q h1 h2 => (o1 q (Nat.lt_of_lt_of_le h1 hS.1)).trans (hS.2.1 q h1 h2), hS.2.2⟩ hl
  rw [List.map_cons] at h9
  have e6 : av_ κ z (vr (some (sg_N σ))) = Value.ref H.size := by rw [hP.1]; rfl
  rw [e6] at h9
  exact h9
theorem J_objInit (C0 : CX Γ cc own) {r : Option Nat} {a idx F Lo Cc Ss : Nat} (hr : r = some a) (hlink : Cond.methodLink own idx Lib.objectInit ∈ wt_) (hinst : Cond.instanceMethod Lib.objectInit ∈ wt_) (hcode : Cond.code Lib.objectInit ⟨#[0xb1]⟩ 1 none ∈ wt_) (hd : decode cc pc = .ok (.invokespecial idx, 3)) (hq : pc + 3 = q) (hcat : (st.map ac_).sum ≤ 8) (hR : rm_of Γ = { frames := F, cells := Cc, slots := Ss, locals := Lo }) (h1 : 1 ≤ F) (h2 : 20 ≤ Lo) (kk : J_ Γ q lv st σ k n) : J_ Γ pc lv (vr r :: st) σ k n := by
  obtain ⟨p, l, e, R, s, m, args, below, meth, c, κ, z, tA, D, nL, Z⟩ := Γ
  subst hq hr
  have hR : R = { frames := F, cells := Cc, slots := Ss, locals := Lo } := hR
  subst hR
  intro H locs ls hP hS hl
  obtain ⟨hx, hb, hml, hown, hts, hK, hX, hz⟩ := C0
  have hrc := rest_cat (κ := κ) (z := z) (m := m) (pc := pc) (ls := ls) (st9 := []) hcat
  refine W.objInit hx hb hown (hts _ hlink) (hts _ hinst) (hts _ hcode) rfl (by rw [hml]; exact hl.1) rfl hd h1 ?_ (kk H locs ls hP hS hl)
  have : 2 * (F0 m pc ls []).monitorRoom + ((st.map (av_ κ z)).map fun v => v.category).sum ≤ 8 := hrc
  show 2 * (F0 m pc ls ((vr (some a) :: st).map (av_ κ z))).monitorRoom + ((st.map (av_ κ z)).map fun v => v.category).sum + 12 ≤ Lo
  have e9 : (F0 m pc ls ((vr (some a) :: st).map (av_ κ z))).monitorRoom = (F0 m pc ls []).monitorRoom := rfl
  rw [e9]
  omega
theorem J_callI (C0 : CX Γ cc own) {y : MethodName} {b : ByteArray} {mL n0 fr lo mc ms idx F Lo Cc Ss a : Nat} {as rest st0 : List AV} {Q' : Option AV → Sg → Prop} {r9 : Option Nat} (hr9 : r9 = some a) (hM : Ct y b mL none fr lo mc ms (vr (some a) :: as) σ Q') (hm : ML y b mL none n0) (hlink : Cond.methodLink own idx y ∈ wt_) (hs : Cond.instanceMethod y ∈ wt_) (hy1 : y.name = "<init>") (hd : decode cc pc = .ok (.invokespecial idx, 3)) (hq : pc + 3 = q) (hst : st0 = as.reverse ++ vr r9 :: rest) (hn0 : as.length = n0) (hcat : (rest.map ac_).sum ≤ 8) (hR : rm_of Γ = { frames := F, cells := Cc, slots := Ss, locals := Lo }) (h1 : fr + 1 ≤ F) (h2 : 8 + (mL + 11) + lo ≤ Lo) (h3 : k + mc ≤ Cc) (h4 : n + ms ≤ Ss)
    (kk : ∀ (r : Option AV) (τ : Sg), Q' r τ → J_ Γ q lv (r.toList ++ rest) τ (k + mc) (n + ms)) : J_ Γ pc lv st0 σ k n := by
  refine J_run (a := vr (some a) :: as) C0 hq ?_ kk
  obtain ⟨p, l, e, R, s, m, args, below, meth, c, κ, z, tA, D, nL, Z⟩ := Γ
  obtain ⟨hx, hb, hml, hown, hts, hK, hX, hz⟩ := C0
  intro H locs ls hP hS hsz
  have hR : R = { frames := F, cells := Cc, slots := Ss, locals := Lo } := hR
  subst hR hst hr9
  refine va_runI (b := z + a) (As := as.map (av_ κ z)) (rest := rest.map (av_ κ z)) ⟨hx, hb, hml, hown, hts⟩ (hM l κ z tA D) (cwI n0 hts (wt_good hm.1) rfl rfl rfl (hts _ hm.2.1) (hts _ hlink) (hts _ hs) hy1 hm.2.2 ⟨h1, h2⟩) ⟨ct_blind, ct_pre (p := p) (as := vr (some a) :: as) hP hS hK hX hz⟩ rfl (by rw [List.length_map]; exact hn0) hsz ?_ (rest_cat hcat) hd ⟨h3, h4⟩
  show ((as.reverse ++ vr (some a) :: rest).map (av_ κ z)) = _
  rw [List.map_append, List.map_reverse]
  rfl
theorem J_callIN (C0 : CX Γ cc own) {y : MethodName} {host : String} {b : ByteArray} {mL n0 fr lo mc ms idx F Lo Cc Ss a : Nat} {as rest st0 : List AV} {Q' : Option AV → Sg → Prop} {r9 : Option Nat} (hr9 : r9 = some a) (hM : Ct y b mL none fr lo mc ms (vr (some a) :: as) σ Q') (hm : ML y b mL none n0) (hlink : (own, idx, y, host) ∈ k_nest) (hs : Cond.instanceMethod y ∈ wt_) (hy1 : y.name = "<init>") (hd : decode cc pc = .ok (.invokespecial idx, 3)) (hq : pc + 3 = q) (hst : st0 = as.reverse ++ vr r9 :: rest) (hn0 : as.length = n0) (hcat : (rest.map ac_).sum ≤ 8) (hR : rm_of Γ = { frames := F, cells := Cc, slots := Ss, locals := Lo }) (h1 : fr + 1 ≤ F) (h2 : 8 + (mL + 11) + lo ≤ Lo) (h3 : k + mc ≤ Cc) (h4 : n + ms ≤ Ss)
    (kk : ∀ (r : Option AV) (τ : Sg), Q' r τ → J_ Γ q lv (r.toList ++ rest) τ (k + mc) (n + ms)) : J_ Γ pc lv st0 σ k n := by
  refine J_run (a := vr (some a) :: as) C0 hq ?_ kk
  obtain ⟨p, l, e, R, s, m, args, below, meth, c, κ, z, tA, D, nL, Z⟩ := Γ
  obtain ⟨hx, hb, hml, hown, hts, hK, hX, hz⟩ := C0
  intro H locs ls hP hS hsz
  have hR : R = { frames := F, cells := Cc, slots := Ss, locals := Lo } := hR
  subst hR hst hr9
  refine va_runIN (b := z + a) (As := as.map (av_ κ z)) (rest := rest.map (av_ κ z)) ⟨hx, hb, hml, hown, hts⟩ (hM l κ z tA D) ⟨va_cnB n0 hts (wt_good hm.1) rfl rfl rfl (hX.nest hlink) (hts _ hm.2.1) hm.2.2 ⟨h1, h2⟩, hy1, hts _ hs⟩ ⟨ct_blind, ct_pre (p := p) (as := vr (some a) :: as) hP hS hK hX hz⟩ rfl (by rw [List.length_map]; exact hn0) hsz ?_ (rest_cat hcat) hd ⟨h3, h4⟩
  show ((as.reverse ++ vr (some a) :: rest).map (av_ κ z)) = _
  rw [List.map_append, List.map_reverse]
  rfl
theorem J_putFZ (C0 : CX Γ cc own) {r : Option Nat} {a idx ci j : Nat} {x : Int32} (hx01 : x = 0 ∨ x = 1) (hin2 : Γ.2.2.2.2.2.2.2.2.1.name = "<init>") (hF : FL own idx ci j .boolean true true) (hr : r = some a) (ha : is_A σ a ci) (ht : (pl_ft ci)[j]? = some 0) (hd : decode cc pc = .ok (.putfield idx, 3)) (hq : pc + 3 = q) (kk : J_ Γ q lv st (put_I σ a j x) k n) : J_ Γ pc lv (vi x :: vr r :: st) σ k n :=
  J_putF (τ := put_I σ a j x) C0 hin2 hF hr ha ht hd hq (fun κ z => ⟨by show Value.int _ = Value.int x; exact congrArg _ (up_2_s _ _ _ _), (bo_n hx01).1, (bo_n hx01).2⟩) rfl rfl (fun _ _ b hb => pl_ne_I b hb) (fun z i u h _ => oth_I z i u h) kk
end RN
/-! the constants that were there before -/
section RK
variable {Γ : Gm} {cc : ByteArray} {own : String} {pc q : Nat} {lv : List (Nat × AV)} {st : List AV} {σ : Sg} {k n : Nat}
theorem J_i2b (C0 : CX Γ cc own) {x : Int32} (hd : decode cc pc = .ok (.i2b, 1)) (hq : pc + 1 = q) (kk : J_ Γ q lv (vi x.toInt8.toInt32 :: st) σ k n) : J_ Γ pc lv (vi x :: st) σ k n := by
  obtain ⟨p, l, e, R, s, m, args, below, meth, c, κ, z, tA, D, nL, Z⟩ := Γ
  subst hq
  intro H locs ls hP hS hl
  exact lv_i2b C0.1 C0.2.1 hd rfl (kk H locs ls hP hS hl)
theorem J_nret {mL : Nat} {ret : Option FieldType} {fr lo mc ms : Nat} {Q : Option AV → Sg → Prop} (C1 : CM Γ cc own mL ret fr lo mc ms Q) {x : Int32} {rt : FieldType} (hd : decode cc pc = .ok (.ireturn, 1)) (hret : ret = some rt) (hn9 : narrow rt (.int x) = .int x) (hk : k ≤ mc) (hn : n ≤ ms) (hQ : Q (some (vi x)) σ) : J_ Γ pc lv [vi x] σ k n := by
  obtain ⟨p, l, e, R, s, m, args, below, meth, c, κ, z, tA, D, nL, Z⟩ := Γ
  obtain ⟨C0, hnl, hr, hlocks, hR, hZ⟩ := C1
  subst hZ hret
  intro H locs ls hP hS hl
  refine W.widen hk hn ?_
  exact W.zret C0.1 C0.2.1 hr hn9 (fun t ht hW => ⟨⟨some (vi x), σ, rfl, hQ, by rw [ht]; exact hP⟩, hS.F ht⟩) hS.2.2 hd (hlocks := hlocks)
theorem J_ldcS (C0 : CX Γ cc own) {idx i : Nat} {tx : String} (hw : (own, idx, tx, i) ∈ k_strs) (hd : decode cc pc = .ok (.ldc idx, 2)) (hq : pc + 2 = q) (kk : J_ Γ q lv (vk i :: st) σ k n) : J_ Γ pc lv st σ k n := by
  obtain ⟨p, l, e, R, s, m, args, below, meth, c, κ, z, tA, D, nL, Z⟩ := Γ
  subst hq
  intro H locs ls hP hS hl
  obtain ⟨hx, hb, hml, hown, hts, hK, hX, hz⟩ := C0
  exact va_ldcS hx hb hown (hX.2.2.2.2.2.2.1 _ hw) hd (kk H locs ls hP hS hl)
theorem J_getsI (C0 : CX Γ cc own) {idx i : Nat} {nm : String} (hw : (nm, i) ∈ k_stat) (hlink : Cond.fieldLink own idx "SlitDrum$LanternReader" nm "[I" ∈ wt_) (hd : decode cc pc = .ok (.getstatic idx, 3)) (hq : pc + 3 = q) (kk : J_ Γ q lv (vk i :: st) σ k n) : J_ Γ pc lv st σ k n := by
  obtain ⟨p, l, e, R, s, m, args, below, meth, c, κ, z, tA, D, nL, Z⟩ := Γ
  subst hq
  intro H locs ls hP hS hl
  obtain ⟨hx, hb, hml, hown, hts, hK, hX, hz⟩ := C0
  exact va_gets hx hb (hX.2.2.2.2.1 _ hw) hS hown (hts _ hlink) (fun _ h => h) hd (kk H locs ls hP hS hl)
theorem J_getsZ (C0 : CX Γ cc own) {idx : Nat} (hlink : Cond.fieldLink own idx "java/lang/String" "COMPACT_STRINGS" "Z" ∈ wt_) (hd : decode cc pc = .ok (.getstatic idx, 3)) (hq : pc + 3 = q) (kk : J_ Γ q lv (vi 1 :: st) σ k n) : J_ Γ pc lv st σ k n := by
  obtain ⟨p, l, e, R, s, m, args, below, meth, c, κ, z, tA, D, nL, Z⟩ := Γ
  subst hq
  intro H locs ls hP hS hl
  obtain ⟨hx, hb, hml, hown, hts, hK, hX, hz⟩ := C0
  exact va_gets hx hb hX.2.2.2.2.2.2.2.2 hS hown (hts _ hlink) (fun _ h => h) hd (kk H locs ls hP hS hl)
theorem J_getKv (C0 : CX Γ cc own) {idx i : Nat} (hi : 6 ≤ i ∧ i < 9) (hlink : Cond.fieldLink own idx "java/lang/String" "value" "[B" ∈ wt_) (hd : decode cc pc = .ok (.getfield idx, 3)) (hq : pc + 3 = q) (kk : J_ Γ q lv (vk (i + 3) :: st) σ k n) : J_ Γ pc lv (vk i :: st) σ k n := by
  obtain ⟨p, l, e, R, s, m, args, below, meth, c, κ, z, tA, D, nL, Z⟩ := Γ
  subst hq
  intro H locs ls hP hS hl
  obtain ⟨hx, hb, hml, hown, hts, hK, hX, hz⟩ := C0
  obtain ⟨j, rfl⟩ : ∃ j, i = 6 + j := ⟨i - 6, by omega⟩
  have h1 := (hX.2.2.2.2.2.2.2.1.1 j (by omega)).2.2.1
  have h2 := kk H locs ls hP hS hl
  rw [show 6 + j + 3 = 9 + j by omega] at h2
  exact vk_getf hx hb h1 hS hown (hts _ hlink) (fun _ h => h) hd h2
theorem J_getKc (C0 : CX Γ cc own) {idx i : Nat} (hi : 6 ≤ i ∧ i < 9) (hlink : Cond.fieldLink own idx "java/lang/String" "coder" "B" ∈ wt_) (hd : decode cc pc = .ok (.getfield idx, 3)) (hq : pc + 3 = q) (kk : J_ Γ q lv (vi 0 :: st) σ k n) : J_ Γ pc lv (vk i :: st) σ k n := by
  obtain ⟨p, l, e, R, s, m, args, below, meth, c, κ, z, tA, D, nL, Z⟩ := Γ
  subst hq
  intro H locs ls hP hS hl
  obtain ⟨hx, hb, hml, hown, hts, hK, hX, hz⟩ := C0
  obtain ⟨j, rfl⟩ : ∃ j, i = 6 + j := ⟨i - 6, by omega⟩
  have h1 := (hX.2.2.2.2.2.2.2.1.1 j (by omega)).2.1
  exact vk_getf hx hb h1 hS hown (hts _ hlink) (fun _ h => h) hd (kk H locs ls hP hS hl)
/-- the bytes of a String constant -/
theorem kB_ {κ : Nat → Nat} {z : Nat} {s : State} (hX : k_X κ z s) {i : Nat} (hi : 9 ≤ i ∧ i < 12) : va_T .byte (κ i) (kn_ i) (fun j => .int (kv_ i j)) (fun a => z ≤ a) s s.heap := by
  rcases (show i = 9 ∨ i = 10 ∨ i = 11 by omega) with rfl | rfl | rfl
  · exact (hX.2.2.2.2.2.2.2.1.1 0 (by omega)).2.2.2
  · exact (hX.2.2.2.2.2.2.2.1.1 1 (by omega)).2.2.2
  · exact (hX.2.2.2.2.2.2.2.1.1 2 (by omega)).2.2.2
theorem J_alenK (C0 : CX Γ cc own) {i : Nat} (hi : i < 6 ∨ (9 ≤ i ∧ i < 12)) (hd : decode cc pc = .ok (.arraylength, 1)) (hq : pc + 1 = q) (kk : J_ Γ q lv (vi (Int32.ofNat (kn_ i)) :: st) σ k n) : J_ Γ pc lv (vk i :: st) σ k n := by
  obtain ⟨p, l, e, R, s, m, args, below, meth, c, κ, z, tA, D, nL, Z⟩ := Γ
  subst hq
  intro H locs ls hP hS hl
  obtain ⟨hx, hb, hml, hown, hts, hK, hX, hz⟩ := C0
  rcases hi with hi | hi
  · exact va_tlen hx hb (hX.2.2.2.2.2.1 i hi) hS rfl hd (kk H locs ls hP hS hl)
  · exact va_tlen hx hb (kB_ hX hi) hS rfl hd (kk H locs ls hP hS hl)
theorem J_ialdK (C0 : CX Γ cc own) {i : Nat} {x : Int32} (hi : i < 6) (hin : ¬ (x < 0 ∨ kn_ i ≤ x.toNatClampNeg)) (hd : decode cc pc = .ok (.iaload, 1)) (hq : pc + 1 = q) (kk : J_ Γ q lv (vi (kv_ i x.toNatClampNeg) :: st) σ k n) : J_ Γ pc lv (vi x :: vk i :: st) σ k n := by
  obtain ⟨p, l, e, R, s, m, args, below, meth, c, κ, z, tA, D, nL, Z⟩ := Γ
  subst hq
  intro H locs ls hP hS hl
  obtain ⟨hx, hb, hml, hown, hts, hK, hX, hz⟩ := C0
  exact va_ti hx hb (hX.2.2.2.2.2.1 i hi) hS hin rfl hd (kk H locs ls hP hS hl)
theorem J_baldK (C0 : CX Γ cc own) {i : Nat} {x : Int32} (hi : 9 ≤ i ∧ i < 12) (hin : ¬ (x < 0 ∨ kn_ i ≤ x.toNatClampNeg)) (hd : decode cc pc = .ok (.baload, 1)) (hq : pc + 1 = q) (kk : J_ Γ q lv (vi (kv_ i x.toNatClampNeg) :: st) σ k n) : J_ Γ pc lv (vi x :: vk i :: st) σ k n := by
  obtain ⟨p, l, e, R, s, m, args, below, meth, c, κ, z, tA, D, nL, Z⟩ := Γ
  subst hq
  intro H locs ls hP hS hl
  obtain ⟨hx, hb, hml, hown, hts, hK, hX, hz⟩ := C0
  exact va_tb hx hb (kB_ hX hi) hS hin rfl hd (kk H locs ls hP hS hl)
theorem J_callVK (C0 : CX Γ cc own) {y : MethodName} {b : ByteArray} {mL n0 fr lo mc ms idx F Lo Cc Ss i : Nat} {ret : Option FieldType} {as rest st0 : List AV} {Q' : Option AV → Sg → Prop} (hi : 6 ≤ i ∧ i < 9) (hM : Ct y b mL ret fr lo mc ms (vk i :: as) σ Q') (hm : ML y b mL ret n0) (hlink : Cond.methodLink own idx y ∈ wt_) (hs : Cond.instanceMethod y ∈ wt_) (hsel : Cond.selects y.cls y y ∈ wt_) (hyc : y.cls = "java/lang/String") (hd : decode cc pc = .ok (.invokevirtual idx, 3)) (hq : pc + 3 = q) (hst : st0 = as.reverse ++ vk i :: rest) (hn0 : as.length = n0) (hcat : (rest.map ac_).sum ≤ 8) (hR : rm_of Γ = { frames := F, cells := Cc, slots := Ss, locals := Lo }) (h1 : fr + 1 ≤ F) (h2 : 8 + (mL + 11) + lo ≤ Lo) (h3 : k + mc ≤ Cc) (h4 : n + ms ≤ Ss)
    (kk : ∀ (r : Option AV) (τ : Sg), Q' r τ → J_ Γ q lv (r.toList ++ rest) τ (k + mc) (n + ms)) : J_ Γ pc lv st0 σ k n := by
  refine J_run (a := vk i :: as) C0 hq ?_ kk
  obtain ⟨p, l, e, R, s, m, args, below, meth, c, κ, z, tA, D, nL, Z⟩ := Γ
  obtain ⟨hx, hb, hml, hown, hts, hK, hX, hz⟩ := C0
  intro H locs ls hP hS hsz
  have hR : R = { frames := F, cells := Cc, slots := Ss, locals := Lo } := hR
  subst hR hst
  obtain ⟨j, rfl⟩ : ∃ j, i = 6 + j := ⟨i - 6, by omega⟩
  have hrv := vk_recv hX.2.2.2.2.2.2.2.1 (show j < 3 by omega) hS
  rw [← hyc] at hrv
  refine va_runV (C := y.cls) (b := κ (6 + j)) (As := as.map (av_ κ z)) (rest := rest.map (av_ κ z)) ⟨hx, hb, hml, hown, hts⟩ (hM l κ z tA D) ⟨callB_of n0 hts (wt_good hm.1) rfl rfl rfl (hts _ hm.2.1) (hts _ hlink) hm.2.2 ⟨h1, h2⟩, hts _ hs, hts _ hsel⟩ ⟨ct_blind, hrv, ct_pre (p := p) (as := vk (6 + j) :: as) hP hS hK hX hz⟩ rfl (by rw [List.length_map]; exact hn0) hsz ?_ (rest_cat hcat) hd ⟨h3, h4⟩
  show ((as.reverse ++ vk (6 + j) :: rest).map (av_ κ z)) = _
  rw [List.map_append, List.map_reverse]
  rfl
end RK
section RI
variable {Γ : Gm} {cc : ByteArray} {own : String} {pc q : Nat} {lv : List (Nat × AV)} {σ : Sg} {k n : Nat}
/-- n ints of the constant i, from place a on, into b, from place j on -/
def cpy_K (σ : Sg) (i b a j n : Nat) : Sg := (σ.1, σ.2.1, σ.2.2.1, va_up σ.2.2.2.1 b (va_cpy (kv_ i) (σ.2.2.2.1 b) a j n), σ.2.2.2.2.1, σ.2.2.2.2.2)
theorem sg_T.cpyK {i b a j n : Nat} (h : sg_T σ) : sg_T (cpy_K σ i b a j n) := h
theorem sg_E.cpyK {σ τ : Sg} {i b a j n : Nat} (h : sg_E σ τ) : sg_E σ (cpy_K τ i b a j n) := h
theorem is_A.cpyK {σ : Sg} {i b a j n c k : Nat} (h : is_A σ c k) : is_A (cpy_K σ i b a j n) c k := h
theorem J_copyK (C0 : CX Γ cc own) {rb : Option Nat} {i b idx F Lo Cc Ss : Nat} {sp dp x : Int32} {rest : List AV} (hi : i < 6) (hrb : rb = some b) (hb0 : is_A σ b 12) (hc : ¬ (sp < 0 ∨ dp < 0 ∨ x < 0 ∨ kn_ i < sp.toNatClampNeg + x.toNatClampNeg ∨ sg_L σ b < dp.toNatClampNeg + x.toNatClampNeg)) (hlink : Cond.methodLink own idx arraycopyName ∈ wt_) (hnat : Cond.native arraycopyName ∈ wt_) (hstat : Cond.static arraycopyName ∈ wt_) (hini : Cond.initialized "java/lang/System" ∈ wt_) (hd : decode cc pc = .ok (.invokestatic idx, 3)) (hq : pc + 3 = q) (hR : rm_of Γ = { frames := F, cells := Cc, slots := Ss, locals := Lo }) (h1 : 1 ≤ F) (h2 : (rest.map ac_).sum + (nativeFrameWords "java/lang/System" "arraycopy" 5 + 11) ≤ Lo) (kk : J_ Γ q lv rest (cpy_K σ i b sp.toNatClampNeg dp.toNatClampNeg x.toNatClampNeg) k n) : J_ Γ pc lv (vi x :: vi dp :: vr rb :: vi sp :: vk i :: rest) σ k n := by
  obtain ⟨p, l, e, R, s, m, args, below, meth, c, κ, z, tA, D, nL, Z⟩ := Γ
  subst hq hrb
  have hR : R = { frames := F, cells := Cc, slots := Ss, locals := Lo } := hR
  subst hR
  intro H locs ls hP hS hl
  obtain ⟨hx, hb, hml, hown, hts, hK, hX, hz⟩ := C0
  have c1 : ¬ sp < 0 := fun h => hc (Or.inl h)
  have c2 : ¬ dp < 0 := fun h => hc (Or.inr (Or.inl h))
  have c3 : ¬ x < 0 := fun h => hc (Or.inr (Or.inr (Or.inl h)))
  have c4 : sp.toNatClampNeg + x.toNatClampNeg ≤ kn_ i := Nat.not_lt.mp fun h => hc (Or.inr (Or.inr (Or.inr (Or.inl h))))
  have c5 : dp.toNatClampNeg + x.toNatClampNeg ≤ sg_L σ b := Nat.not_lt.mp fun h => hc (Or.inr (Or.inr (Or.inr (Or.inr h))))
  have nn : ∀ z : Int32, ¬ z < 0 → z.toInt = (z.toNatClampNeg : Int) := by
    intro z hz
    have hz0 : (0 : Int) ≤ z.toInt := by
      have := Int32.not_lt.mp hz
      simpa using Int32.le_iff_toInt_le.mp this
    show z.toInt = ((z.toInt.toNat : Nat) : Int)
    omega
  obtain ⟨i1, hi1⟩ := pl_get (tA := tA) (z := z) hb0 (by omega)
  have hc1 := hP.2.1 i1 _ hi1
  rw [pl_c_int hb0 (Or.inl rfl)] at hc1
  have hc1 : H[z + b]? = some (vp_cell (tA 12) (sg_L σ b, .inl (sg_I σ b))) := hc1
  obtain ⟨scr, hs1, hs2, hs3, hs4, -, hs5, hs7⟩ := hX.2.2.2.2.2.1 i hi
  have hc0 : H[κ i]? = some scr := by rw [hS.2.1 (κ i) (Array.getElem?_eq_some_iff.mp hs1).1 hs7]; exact hs1
  intro T hT X
  obtain ⟨hs6, k0, hk0, cm0, hkk0⟩ := hs2
  obtain ⟨-, k1, hk1, cm1, hkk1⟩ := (hK.2 0 _ rfl).1 (sg_L σ b) (fun j => .int (sg_I σ b j))
  obtain ⟨vm', X', step⟩ := X.arraycopy hx hown (hts _ hlink) (hts _ hnat) (hts _ hstat) (hts _ hini) (src := κ i) (dst := z + b) (cs := scr) (cd := vp_cell (tA 12) (sg_L σ b, .inl (sg_I σ b))) (srcPos := sp) (destPos := dp) (n := x) (by rw [hT]; exact hc0) (by rw [hT]; exact hc1)
    hs6 (fun _ h => by cases h) hs3 (fun h => by cases h) hk0 hk1 hkk0 hkk1 (by first | rfl | simp [refKind] | decide) c1 c2 c3
    (by rw [nn sp c1, nn x c3]; omega)
    (by rw [nn dp c2, nn x c3]; show ¬ _ > ((arrV (tA 12) (sg_L σ b) (fun j => .int (sg_I σ b j))).slots.size : Int); rw [arrV_size]; omega)
    (fun vm₁ _ j hj => by
      have e : scr.slots.getD (sp.toNatClampNeg + j) .null = .int (kv_ i (sp.toNatClampNeg + j)) := by
        rw [Array.getD_eq_getD_getElem?, hs5 _ (by omega)]
        rfl
      refine ⟨?_, ?_⟩
      · rw [e]
        rfl
      · rw [e]
        exact trivial)
    (g := F0 m pc ls (.int x :: .int dp :: .ref (z + b) :: .int sp :: .ref (κ i) :: rest.map (av_ κ z))) rfl (by rw [hml]; exact hl.1) (rest := rest.map (av_ κ z)) rfl (by rw [hb]; exact hd) h1 (by
      have e8 : ((rest.map (av_ κ z)).map fun v => v.category).sum = (rest.map ac_).sum := by
        rw [List.map_map]
        have e : ((fun v : Value => v.category) ∘ av_ κ z) = ac_ := funext fun v => av_cat κ z v
        rw [e]
      show 2 * 0 + ((rest.map (av_ κ z)).map fun v => v.category).sum + (nativeFrameWords "java/lang/System" "arraycopy" 5 + 11) ≤ Lo
      omega)
  have e1 : copied scr (vp_cell (tA 12) (sg_L σ b, .inl (sg_I σ b))) sp dp x = vp_cell (tA 12) (sg_L σ b, .inl (va_cpy (kv_ i) (sg_I σ b) sp.toNatClampNeg dp.toNatClampNeg x.toNatClampNeg)) := va_copiedX (fun z => .int z) scr (tA 12) (kv_ i) (sg_I σ b) hs5 c4
  rw [e1] at X' step
  have hlt : z + b < H.size := (Array.getElem?_eq_some_iff.mp hc1).1
  have hheap : ((T.setVm vm').setCell (z + b) (vp_cell (tA 12) (sg_L σ b, .inl (va_cpy (kv_ i) (sg_I σ b) sp.toNatClampNeg dp.toNatClampNeg x.toNatClampNeg)))).heap = H.setIfInBounds (z + b) (vp_cell (tA 12) (sg_L σ b, .inl (va_cpy (kv_ i) (sg_I σ b) sp.toNatClampNeg dp.toNatClampNeg x.toNatClampNeg))) := by rw [← hT]; rfl
  have oq : ∀ q : Nat, q ≠ z + b → (H.setIfInBounds (z + b) (vp_cell (tA 12) (sg_L σ b, .inl (va_cpy (kv_ i) (sg_I σ b) sp.toNatClampNeg dp.toNatClampNeg x.toNatClampNeg))))[q]? = H[q]? := fun q hq => by simp [Array.getElem?_setIfInBounds, Ne.symm hq]
  have hPτ : pl_P tA D z (cpy_K σ i b sp.toNatClampNeg dp.toNatClampNeg x.toNatClampNeg) (H.setIfInBounds (z + b) (vp_cell (tA 12) (sg_L σ b, .inl (va_cpy (kv_ i) (sg_I σ b) sp.toNatClampNeg dp.toNatClampNeg x.toNatClampNeg)))) := by
    refine pl_write hP hb0 (by omega) rfl rfl (fun b' hb' => pl_c_congr rfl rfl (va_up_ne _ _ hb') rfl rfl) ?_ (by simp) oq
    rw [pl_c_int (σ := cpy_K σ i b sp.toNatClampNeg dp.toNatClampNeg x.toNatClampNeg) hb0 (Or.inl rfl)]
    show (H.setIfInBounds (z + b) _)[z + b]? = some (vp_cell (tA 12) (sg_L σ b, .inl (va_up σ.2.2.2.1 b _ b)))
    rw [va_up_self]
    simp [Array.getElem?_setIfInBounds, hlt]
    rfl
  obtain ⟨t, a1, b1⟩ := kk _ _ ls hPτ ⟨by simp; exact hS.1, fun q g1 g2 => by
      rw [oq q (fun e => g2 (by rw [e]; show z ≤ z + b; omega))]
      exact hS.2.1 q g1 g2, fun q hq => by
      rcases List.mem_append.mp hq with h | h
      · exact hS.2.2 q h
      · obtain ⟨z', -, hz'⟩ := List.mem_map.mp h
        rw [← hz']
        show z ≤ z + b
        omega⟩ hl _ hheap X'
  exact ⟨t, step t a1, b1⟩
/-- a new int[] with what a holds -/
def cln_I (σ : Sg) (a : Nat) : Sg := (σ.1 + 1, va_up σ.2.1 σ.1 12, va_up σ.2.2.1 σ.1 (σ.2.2.1 a), va_up σ.2.2.2.1 σ.1 (σ.2.2.2.1 a), va_up σ.2.2.2.2.1 σ.1 (fun _ => none), va_up σ.2.2.2.2.2 σ.1 (fun _ => 0))
theorem cln_KL (σ : Sg) (a : Nat) : sg_K (cln_I σ a) = sg_K (new_C σ 12 (sg_L σ a)) ∧ sg_L (cln_I σ a) = sg_L (new_C σ 12 (sg_L σ a)) ∧ sg_N (cln_I σ a) = sg_N (new_C σ 12 (sg_L σ a)) ∧ sg_R (cln_I σ a) = sg_R (new_C σ 12 (sg_L σ a)) := ⟨rfl, rfl, rfl, rfl⟩
theorem sg_S_cln (σ : Sg) (a : Nat) : sg_S (cln_I σ a) = sg_S σ + sg_L σ a := sg_S_new σ 12 (sg_L σ a)
theorem sg_E.cln {σ τ : Sg} {a : Nat} (h : sg_E σ τ) : sg_E σ (cln_I τ a) := (sg_E.new (k := 12) (n := sg_L τ a) h : sg_E σ (new_C τ 12 (sg_L τ a)))
theorem sg_T.cln {a : Nat} (h : sg_T σ) : sg_T (cln_I σ a) := (sg_T.new (k := 12) (n := sg_L σ a) h : sg_T (new_C σ 12 (sg_L σ a)))
theorem is_A.cln {σ : Sg} {b k a : Nat} (h : is_A σ b k) : is_A (cln_I σ a) b k := (is_A.new (q := 12) (n := sg_L σ a) h : is_A (new_C σ 12 (sg_L σ a)) b k)
theorem is_A.bornC (σ : Sg) (a : Nat) : is_A (cln_I σ a) (sg_N σ) 12 := is_A.born σ 12 (sg_L σ a)
theorem J_clone (C0 : CX Γ cc own) {r : Option Nat} {a idx F Lo Cc Ss : Nat} {rest : List AV} (hr : r = some a) (ha : is_A σ a 12) (hlink : Cond.methodLink own idx ⟨"[I", "clone", "()Ljava/lang/Object;"⟩ ∈ wt_) (hsame : Cond.sameMethod "[I" "java/lang/Object" "clone" "()Ljava/lang/Object;" ∈ wt_) (hnat : Cond.native ⟨"java/lang/Object", "clone", "()Ljava/lang/Object;"⟩ ∈ wt_) (hinst : Cond.instanceMethod ⟨"java/lang/Object", "clone", "()Ljava/lang/Object;"⟩ ∈ wt_) (hsel : Cond.selects "[I" ⟨"[I", "clone", "()Ljava/lang/Object;"⟩ ⟨"java/lang/Object", "clone", "()Ljava/lang/Object;"⟩ ∈ wt_) (hd : decode cc pc = .ok (.invokevirtual idx, 3)) (hq : pc + 3 = q) (hR : rm_of Γ = { frames := F, cells := Cc, slots := Ss, locals := Lo }) (h1 : 1 ≤ F) (h2 : (rest.map ac_).sum + 14 ≤ Lo) (h3 : k + 1 ≤ Cc) (h4 : n + sg_L σ a ≤ Ss) (kk : J_ Γ q lv (vr (some (sg_N σ)) :: rest) (cln_I σ a) (k + 1) (n + sg_L σ a)) : J_ Γ pc lv (vr r :: rest) σ k n := by
  obtain ⟨p, l, e, R, s, m, args, below, meth, c, κ, z, tA, D, nL, Z⟩ := Γ
  subst hq hr
  have hR : R = { frames := F, cells := Cc, slots := Ss, locals := Lo } := hR
  subst hR
  intro H locs ls hP hS hl
  obtain ⟨hx, hb, hml, hown, hts, hK, hX, hz⟩ := C0
  obtain ⟨i0, hi0⟩ := pl_get (tA := tA) (z := z) ha (by omega)
  have hc0 := hP.2.1 i0 _ hi0
  rw [pl_c_int ha (Or.inl rfl)] at hc0
  have hc0 : H[z + a]? = some (vp_cell (tA 12) (sg_L σ a, .inl (sg_I σ a))) := hc0
  have hnm : s.vm.findClass "[I" = some (tA 12) := (hK.2 0 _ rfl).2
  have hsz : (vp_cell (tA 12) (sg_L σ a, .inl (sg_I σ a))).slots.size = sg_L σ a := arrV_size _ _ _
  obtain ⟨c0, t0', f1, f2, f3⟩ := Cond.castable_spec (va_Nw.use (A := args) rfl hX.2.2.1)
  cases hnm.symm.trans f1
  intro T hT X
  have hcellT : T.heap[z + a]? = some (vp_cell (tA 12) (sg_L σ a, .inl (sg_I σ a))) := by rw [hT]; exact hc0
  obtain ⟨-, kA, hkA, comp, hkind⟩ := State.isArrayOf_alike X.warmed.alike ((hK.2 0 _ rfl).1 0 (fun _ => .null))
  obtain ⟨-, kS, hkS, compS, hkindS⟩ := (hK.2 0 _ rfl).1 0 (fun _ => .null)
  obtain ⟨vm', X', st⟩ := X.cloneArray hx hown (hts _ hlink) (hts _ hsame) (hts _ hnat) (hts _ hinst) (hts _ hsel) (a := z + a) (cell := vp_cell (tA 12) (sg_L σ a, .inl (sg_I σ a))) hcellT (fun k h => by cases h) (fun h => by cases h) hnm f2 f3
    (fun i v hv => by
      have hk' : T.vm.classes[tA 12]? = some kA := hkA
      have hv' : (arrV (tA 12) (sg_L σ a) (fun j => .int (sg_I σ a j))).slots[i]? = some v := hv
      have hlt : i < sg_L σ a := by
        have := (Array.getElem?_eq_some_iff.mp hv').1
        rwa [arrV_size] at this
      rw [arrV_read _ _ hlt] at hv'
      cases hv'
      show T.fitsSlot (tA 12) _ _ _ = true
      simp [State.fitsSlot, State.slotType?, hk', hkind, fits])
    (g := F0 m pc ls (.ref (z + a) :: rest.map (av_ κ z))) rfl (by rw [hml]; exact hl.1) rfl (by rw [hb]; exact hd) h1 (by
      have e8 : ((rest.map (av_ κ z)).map fun v => v.category).sum = (rest.map ac_).sum := by
        rw [List.map_map]
        have e : ((fun v : Value => v.category) ∘ av_ κ z) = ac_ := funext fun v => av_cat κ z v
        rw [e]
      show 2 * 0 + ((rest.map (av_ κ z)).map fun v => v.category).sum + 14 ≤ Lo
      omega) h3 (by rw [hsz]; exact h4) (hloader := Vm.clonesLoader_of_array hkS hkindS)
  have hcellE : ({ cls := (vp_cell (tA 12) (sg_L σ a, .inl (sg_I σ a))).cls, slots := (vp_cell (tA 12) (sg_L σ a, .inl (sg_I σ a))).slots } : Cell) = vp_cell (tA 12) (sg_L σ a, .inl (sg_I σ a)) := rfl
  rw [hcellE, hsz] at X'
  generalize hH1 : H.push (vp_cell (tA 12) (sg_L σ a, .inl (sg_I σ a))) = H1
  have z1 : H1.size = H.size + 1 := by rw [← hH1, Array.size_push]
  have e1 : H1[H.size]? = some (vp_cell (tA 12) (sg_L σ a, .inl (sg_I σ a))) := by rw [← hH1, Array.getElem?_push_size]
  have o1 : ∀ q : Nat, q < H.size → H1[q]? = H[q]? := fun q hq => by rw [← hH1, Array.getElem?_push, if_neg (Nat.ne_of_lt hq)]
  have e2 : sg_I (cln_I σ a) (sg_N σ) = sg_I σ a := by show va_up σ.2.2.2.1 σ.1 (σ.2.2.2.1 a) σ.1 = _; rw [va_up_self]; rfl
  have e5 : sg_L (cln_I σ a) (sg_N σ) = sg_L σ a := by show va_up σ.2.2.1 σ.1 (σ.2.2.1 a) σ.1 = _; rw [va_up_self]; rfl
  have hPτ : pl_P tA D z (cln_I σ a) H1 := by
    have ew : pl_w tA z (cln_I σ a) = pl_w tA z σ ++ [(z + sg_N σ, pl_c tA z (cln_I σ a) (sg_N σ))] := by
      unfold pl_w
      rw [show pl_L (cln_I σ a) = pl_L σ ++ [sg_N σ] from pl_L_new σ 12 (sg_L σ a) (by omega), List.map_append, List.map_singleton]
      congr 1
      apply List.map_congr_left
      intro b hb
      have hlt : b < sg_N σ := List.mem_range.mp (List.mem_filter.mp hb).1
      have hbn : b ≠ σ.1 := Nat.ne_of_lt hlt
      rw [show pl_c tA z (cln_I σ a) b = pl_c tA z σ b from pl_c_congr (τ := cln_I σ a) (σ := σ) (va_up_ne _ _ hbn) (va_up_ne _ _ hbn) (va_up_ne _ _ hbn) (va_up_ne _ _ hbn) (va_up_ne _ _ hbn)]
    have hkp : va_P D vwCl (pl_w tA z σ) H1 := hP.2.1.kept (fun i x hx => o1 x.1 ((hP.2.1 i x hx).lt))
    refine ⟨by rw [z1, hP.1]; rfl, ?_, ?_⟩
    · rw [ew]
      refine hkp.app (fun i x hx => ?_)
      have hi : i < 1 := (List.getElem?_eq_some_iff.mp hx).1
      rw [show i = 0 by omega] at hx
      cases hx
      rw [pl_c_int (is_A.bornC σ a) (Or.inl rfl), e2, e5]
      show H1[z + sg_N σ]? = some (vp_cell _ _)
      rw [← hP.1]
      exact e1
    · rw [ew]
      exact hP.2.2.push hP.2.1 hP.1.symm (by show z ≤ z + sg_N σ; omega)
  have h9 := kk H1 locs ls hPτ ⟨Nat.le_trans hS.1 (by omega), fun y h1 h2 => (o1 y (Nat.lt_of_lt_of_le h1 hS.1)).trans (hS.2.1 y h1 h2), hS.2.2⟩ hl
  rw [List.map_cons] at h9
  have e6 : av_ κ z (vr (some (sg_N σ))) = Value.ref H.size := by rw [hP.1]; rfl
  rw [e6] at h9
  obtain ⟨t, b1, b2⟩ := h9 ((T.setVm vm').pushCell (vp_cell (tA 12) (sg_L σ a, .inl (sg_I σ a)))) (by rw [← hH1, ← hT]; rfl) X'
  refine ⟨t, st t ?_, b2⟩
  rw [hcellE, hT]
  exact b1
theorem J_castI (C0 : CX Γ cc own) {r : Option Nat} {a idx : Nat} {rest : List AV} (hr : r = some a) (ha : is_A σ a 12) (hlink : Cond.classLink own idx "[I" ∈ wt_) (hd : decode cc pc = .ok (.checkcast idx, 3)) (hq : pc + 3 = q) (kk : J_ Γ q lv (vr r :: rest) σ k n) : J_ Γ pc lv (vr r :: rest) σ k n := by
  obtain ⟨p, l, e, R, s, m, args, below, meth, c, κ, z, tA, D, nL, Z⟩ := Γ
  subst hq hr
  intro H locs ls hP hS hl
  obtain ⟨hx, hb, hml, hown, hts, hK, hX, hz⟩ := C0
  obtain ⟨i0, hi0⟩ := pl_get (tA := tA) (z := z) ha (by omega)
  rw [pl_c_int ha (Or.inl rfl)] at hi0
  exact va_castA hx hb hown (hts _ hlink) hP.2.1 i0 hi0 (hK.2 0 _ rfl).2 hd (kk H locs ls hP hS hl)
/-- a method that the reference names as an abstract one -/
theorem J_callA (C0 : CX Γ cc own) {x y : MethodName} {C : String} {b : ByteArray} {mL n0 fr lo mc ms idx F Lo Cc Ss a ci : Nat} {ret : Option FieldType} {rest st0 : List AV} {Q' : Option AV → Sg → Prop} {r9 : Option Nat} (hx9 : x = ⟨"SlitDrum$Reader", "isWhole", "()Z"⟩) (hr9 : r9 = some a) (ha : is_A σ a ci) (hM : Ct y b mL ret fr lo mc ms [vr (some a)] σ Q') (hm : ML y b mL ret n0) (hlink : Cond.methodLink own idx x ∈ wt_) (hsame : Cond.sameMethod x.cls "SlitDrum$Reader" x.name x.desc ∈ wt_) (hs : Cond.instanceMethod y ∈ wt_) (hsel : Cond.selects C x y ∈ wt_) {T : u_T} {N : Nat} (hc : vwCl[ci]? = some (C, T, N)) (h12 : ci < 12) (hd : decode cc pc = .ok (.invokevirtual idx, 3)) (hq : pc + 3 = q) (hst : st0 = vr r9 :: rest) (hcat : (rest.map ac_).sum ≤ 8) (hR : rm_of Γ = { frames := F, cells := Cc, slots := Ss, locals := Lo }) (h1 : fr + 1 ≤ F) (h2 : 8 + (mL + 11) + lo ≤ Lo) (h3 : k + mc ≤ Cc) (h4 : n + ms ≤ Ss)
    (kk : ∀ (r : Option AV) (τ : Sg), Q' r τ → J_ Γ q lv (r.toList ++ rest) τ (k + mc) (n + ms)) : J_ Γ pc lv st0 σ k n := by
  refine J_run (a := [vr (some a)]) C0 hq ?_ kk
  obtain ⟨p, l, e, R, s, m, args, below, meth, c, κ, z, tA, D, nL, Z⟩ := Γ
  obtain ⟨hx, hb, hml, hown, hts, hK, hX, hz⟩ := C0
  intro H locs ls hP hS hsz
  have hR : R = { frames := F, cells := Cc, slots := Ss, locals := Lo } := hR
  subst hR hst hr9
  have hdc : va_Nw (.declares ⟨"SlitDrum$Reader", x.name, x.desc⟩) s := by rw [hx9]; exact hX.2.2.2.1
  have hd9 : "SlitDrum$Reader" ≠ "java/lang/invoke/MethodHandle" ∧ "SlitDrum$Reader" ≠ "java/lang/invoke/VarHandle" ∧ (parseMethodDescriptor x.desc).map (fun d => d.parameters.length) = some 0 := by
    rw [hx9]
    exact ⟨by decide, by decide, by decide +kernel⟩
  clear hx9
  have hcu := va_cwA (own := own) (C := C) (owner := "SlitDrum$Reader") (index := idx) (x := x) (y := y) (bytes := b) (maxL := mL) (ret := ret) (mc := mc) (ms := ms) (R := { frames := F, cells := Cc, slots := Ss, locals := Lo }) (ws := Cond.code y b mL ret :: wt_) (rm := { frames := fr, cells := mc, slots := ms, locals := lo }) 0 hts (fun w hw => ?_) rfl rfl rfl hdc hd9 ⟨h1, h2⟩
  refine va_runU (C := C) (owner := "SlitDrum$Reader") (b := z + a) (As := []) (rest := rest.map (av_ κ z)) ⟨hx, hb, hml, hown, hts⟩ (hM l κ z tA D) hcu ⟨ct_blind, pl_recv hK hP hc h12 ha, ct_pre (p := p) (as := [vr (some a)]) hP hS hK hX hz⟩ rfl rfl hsz ?_ (rest_cat hcat) hd ⟨h3, h4⟩
  · show ((vr (some a) :: rest).map (av_ κ z)) = _
    rfl
  have hw' : w ∈ wt_ := by
    unfold va_wsU at hw
    rcases List.mem_append.mp hw with h | h
    · simp only [List.mem_cons, List.not_mem_nil, or_false] at h
      rcases h with rfl | rfl | rfl | rfl | rfl
      · exact hlink
      · exact hsame
      · exact hsel
      · exact hs
      · exact hm.2.1
    · exact (wt_good hm.1 w h).1
  exact ⟨hw', good_of_word (List.mem_filter.mp hw').2⟩
/-- a static method that the named class inherits -/
theorem J_callSU (C0 : CX Γ cc own) {x y : MethodName} {owner : String} {b : ByteArray} {mL n0 fr lo mc ms idx F Lo Cc Ss : Nat} {ret : Option FieldType} {as rest st0 : List AV} {Q' : Option AV → Sg → Prop} (hM : Ct y b mL ret fr lo mc ms as σ Q') (hyx : y = ⟨owner, x.name, x.desc⟩) (hm : ML y b mL ret n0) (hlink : Cond.methodLink own idx x ∈ wt_) (hsame : Cond.sameMethod x.cls owner x.name x.desc ∈ wt_) (hs : Cond.static y ∈ wt_) (hd : decode cc pc = .ok (.invokestatic idx, 3)) (hq : pc + 3 = q) (hst : st0 = as.reverse ++ rest) (hn0 : as.length = n0) (hcat : (rest.map ac_).sum ≤ 8) (hR : rm_of Γ = { frames := F, cells := Cc, slots := Ss, locals := Lo }) (h1 : fr + 1 ≤ F) (h2 : 8 + (mL + 11) + lo ≤ Lo) (h3 : k + mc ≤ Cc) (h4 : n + ms ≤ Ss)
    (kk : ∀ (r : Option AV) (τ : Sg), Q' r τ → J_ Γ q lv (r.toList ++ rest) τ (k + mc) (n + ms)) : J_ Γ pc lv st0 σ k n := by
  refine J_run (a := as) C0 hq ?_ kk
  obtain ⟨p, l, e, R, s, m, args, below, meth, c, κ, z, tA, D, nL, Z⟩ := Γ
  obtain ⟨hx, hb, hml, hown, hts, hK, hX, hz⟩ := C0
  intro H locs ls hP hS hsz
  have hR : R = { frames := F, cells := Cc, slots := Ss, locals := Lo } := hR
  subst hR hst
  have hB : Back l { frames := F, cells := Cc, slots := Ss, locals := Lo } p e below s args y 3 8 (PreOf { frames := F, cells := Cc, slots := Ss, locals := Lo } mc ms (ct_P κ z tA D as σ)) (PostOf (ct_Q κ z tA D Q') mc ms (fun q => z ≤ q)) := back_of (bytes := b) (maxL := mL) (ret := ret) (hM l κ z tA D) ct_blind rfl rfl h1 h2 (pay_in hts (wt_good hm.1)) List.mem_cons_self (fun a' U hW => word_at hW (Or.inl (by first | rfl | simp [Cond.onTables, Cond.keeps, Cond.steady])) (hts _ hm.2.1))
  obtain ⟨mk, hnamed⟩ := Cond.code_named (hts _ hm.1)
  obtain ⟨methM, cM, hmethM, -, -, -, -, -, -, hsigM⟩ := Cond.code_spec hnamed (hts _ hm.1)
  have hstatic : methM.isStatic = true := Cond.static_spec hnamed hmethM (hts _ hs)
  obtain ⟨kP, hkP, -⟩ := className_of_methodNamed hnamed
  have hinitP : kP.init = .initialized := Cond.initialized_spec (findClass_of_methodNamed hnamed) hkP (hts _ hm.2.1)
  have hown9 : owner ≠ "java/lang/invoke/MethodHandle" ∧ owner ≠ "java/lang/invoke/VarHandle" := by
    have h8 := hm.2.2
    rw [hyx] at h8
    exact ⟨h8.1, h8.2.1⟩
  have hnamed9 : s.methodNamed? ⟨owner, x.name, x.desc⟩ = some mk := by rw [← hyx]; exact hnamed
  have hlen9 : (as.map (av_ κ z)).length = methM.sig.parameters.length := by
    have h8 := hm.2.2.2.2
    rw [hsigM] at h8
    rw [List.length_map, hn0]
    exact (Option.some.inj h8).symm
  intro T hT X
  obtain ⟨vm₁, X₁, hstep₁⟩ := Jvm.Stand.invokestaticUp X hx hown (hts _ hlink) (hts _ hsame) hown9 hnamed9 hmethM hstatic hkP hinitP (g := F0 m pc ls ((as.reverse ++ rest).map (av_ κ z))) rfl (argsL := as.map (av_ κ z)) (rest := rest.map (av_ κ z)) hlen9 (by show (as.reverse ++ rest).map (av_ κ z) = _; rw [List.map_append, List.map_reverse]) (by rw [hb]; exact hd)
  obtain ⟨v, ⟨U', l2, c2, s2⟩, X', ⟨g', mk', t, L, e1, e2, hqq, e3, hL, e4, e5⟩, hsteps⟩ := hB m meth c ⟨T.setVm vm₁, locs, k, n⟩ { F0 m pc ls ((as.reverse ++ rest).map (av_ κ z)) with stack := rest.map (av_ κ z) } (.invokestatic idx) mk (as.map (av_ κ z)).toArray X₁ rfl (hsz.trans hml.symm) (by rw [hb]; exact hd) (rest_cat hcat) (X₁.named hnamed) ⟨h3, h4, ct_pre (p := p) hP hS hK hX hz (T.setVm vm₁) hT X₁.warmed⟩
  dsimp only [Pt.U, Pt.locs, Pt.cells, Pt.slots] at X' e1 e2 e3 e4 e5 hsteps
  subst e3; subst e4; subst e5
  exact ⟨v, (T.setVm vm₁).calling g' mk' (as.map (av_ κ z)).toArray, t, U', L, hT, X', hL, e1, e2, hqq, fun target h => hstep₁ _ fun acts => by rw [doInvoke_state]; exact hsteps.trans h⟩
end RI
