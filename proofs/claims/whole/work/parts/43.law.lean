/-! THE CLAIM OUT OF ONE WALK OF THE LAW'S BODY. Your part is whole_start (and what it stands on); all else here is the same for every law, but numbers. -/
def R_law : String := "SlitDrumLaw"
def lw_P (b : Addr) (xs : List Int32) (args : Array Value) (s : State) : Prop := args = #[.ref b] ∧ s.IntsAt b xs ∧ xs.length ≤ 3072 ∧ (Jvm.Cond.and given_1 narrow_1).before args s = true
def lw_Q (_ : Array Value) (s : State) (o : Outcome) (t : State) : Prop := o = .returned (some (.int 1)) ∧ Framed s o t [] 601024 7293034
def lw_Z (below : List Frame) (a : Array Value) (s : State) : State → Prop := fun t => ∃ o, t.status = .running ∧ Ended t below o ∧ lw_Q a s o t
/-- the law's own end, with 1 on the stack, nothing written that was there before, its room as the claim has it -/
theorem lw_ret {p : Program} {l : Launch} {e : Env} {s : State} {m : MethodId} {below : List Frame} {meth : Method} {c : Code} {b : Nat} (hx : p.tables.exec = Jvm.exec) (hb : c.code = code) (hr : meth.sig.returnType = ret) (hlocks : meth.locks = false) {pc : Nat} {H : Heap} {ls : Array Slot} (hdg : decode code pc = .ok (.ireturn, 1)) : W p l e room_1 s m #[Value.ref b] below meth c H [] 601024 7293034 (lw_Z below #[Value.ref b] s) (F0 m pc ls [.int 1]) := by
  intro T hT X
  obtain ⟨fs, hret, hrun, hended, hW, hframe⟩ := X.leave (v := some (.int 1)) (hlocks := hlocks) (fun h => by rw [hr] at h; cases h)
  have hmeth' : T.vm.method? m = some meth := X.method'
  refine ⟨T.setFrames fs, ?_, .returned (some (.int 1)), hrun, hended, rfl, ⟨_, rfl⟩, hW, hframe⟩
  jvm_step X.here [X.here.top, hx, hb, hdg, hmeth', hr, ret, narrow_b1]
  (try refine ⟨rfl, ?_⟩); (try refine ⟨rfl, ?_⟩)
  first | (intro acts; rw [hret _ acts rfl rfl rfl]) | rw [hret _ _ rfl rfl rfl]
  exact Steps.refl _
/-- what holds at the law's entry: the machine, the code, the tables' words (any of lw_tbl by 'hts w (by decide +kernel)'), the script of L ints xs at the cell b, what the Statement gives of the start (any of its parts by flat_of_before) -/
def lw_At (p : Program) (s : State) (m : MethodId) (meth : Method) (c : Code) (b L : Nat) (xs : Nat → Int32) : Prop :=
  p.tables.exec = Jvm.exec ∧ c.code = code ∧ meth.sig.returnType = ret ∧ c.maxLocals = 7 ∧ s.vm.findClass R_law = some m.cls ∧ (∀ w ∈ lw_tbl, w.before #[Value.ref b] s = true) ∧ va_X b L xs s s.heap ∧ b < s.heap.size ∧ meth.locks = false ∧ (Jvm.Cond.and given_1 narrow_1).before #[Value.ref b] s = true
/-! ===== the law's walk: what holds in it; a theorem for each case of its switch ===== -/
abbrev lw_lv (i : Int32) : List (Nat × AV) := [(0, vk 14), (1, vr (some 0)), (2, vr (some 344)), (3, vr (some 370)), (4, vi i)]
def lw_B (σ : Sg) : Prop := sg_T σ ∧ is_A σ 0 10 ∧ is_A σ 344 11 ∧ is_A σ 370 19 ∧ 0 < sg_L σ 370
def CLw (Γ : Gm) (b L : Nat) (xs : Nat → Int32) : Prop := CX Γ cL_law RL ∧ nl_ Γ = 7 ∧ (match Γ with
  | (_, l, _, R, s, _, args, below, meth, _, κ, z, _, _, _, Z) => k_Y κ z s ∧ l.stackTraces = false ∧ R = room_1 ∧ va_X b L xs s s.heap ∧ b < s.heap.size ∧ κ 14 = b ∧ z = s.heap.size ∧ args = #[Value.ref b] ∧ meth.sig.returnType = ret ∧ meth.locks = false ∧ Z = lw_Z below #[Value.ref b] s)
theorem CLw.room {Γ : Gm} {b L : Nat} {xs : Nat → Int32} (C : CLw Γ b L xs) : rm_of Γ = { frames := 2048, cells := 601024, slots := 7293034, locals := 84000 } := by
  obtain ⟨p, l, e, R, s, m, args, below, meth, c, κ, z, tA, D, nL, Z⟩ := Γ
  exact C.2.2.2.2.1
theorem lw_ix {i j : Int32} {L : Nat} (h0 : ¬ i < 0) (h1 : i.toNatClampNeg + 6 ≤ L) (hL : L ≤ 3072) (hj : 0 ≤ j.toInt ∧ j.toInt ≤ 5) : ¬ (i + j < 0 ∨ L ≤ (i + j).toNatClampNeg) := by
  have a0 : ¬ i.toInt < 0 := fun h => h0 (Int32.lt_iff_toInt_lt.mpr h)
  have a1 : i.toNatClampNeg = i.toInt.toNat := rfl
  have a2 : (i + j).toInt = i.toInt + j.toInt := by
    rw [Int32.toInt_add]
    exact Int.bmod_eq_of_le (by omega) (by omega)
  have a3 : (i + j).toNatClampNeg = (i + j).toInt.toNat := rfl
  intro h
  rcases h with h | h
  · have := Int32.lt_iff_toInt_lt.mp h
    have e0 : (0 : Int32).toInt = 0 := rfl
    omega
  · omega
section RL
variable {Γ : Gm} {b L : Nat} {xs : Nat → Int32} {pc q : Nat} {lv : List (Nat × AV)} {st : List AV} {σ : Sg} {k n : Nat}
theorem J_sld (C : CLw Γ b L xs) {x : Int32} (hin : ¬ (x < 0 ∨ L ≤ x.toNatClampNeg)) (hd : decode cL_law pc = .ok (.iaload, 1)) (hq : pc + 1 = q) (kk : J_ Γ q lv (vi (xs x.toNatClampNeg) :: st) σ k n) : J_ Γ pc lv (vi x :: vk 14 :: st) σ k n := by
  obtain ⟨p, l, e, R, s, m, args, below, meth, c, κ, z, tA, D, nL, Z⟩ := Γ
  subst hq
  obtain ⟨⟨hx, hb, -⟩, -, -, -, -, hX, hbl, hκ, hz, -⟩ := C
  have hz : z = s.heap.size := hz
  have hκ : κ 14 = b := hκ
  intro H locs ls hP hS hl
  show W _ _ _ _ _ _ _ _ _ _ _ _ _ _ _ (F0 m pc ls (.int x :: .ref (κ 14) :: st.map (av_ κ z)))
  rw [hκ]
  exact va_sld hx hb hX hbl (by rw [hz]; exact Nat.not_le.mpr hbl) hS hin hd (kk H locs ls hP hS hl)
theorem J_slen (C : CLw Γ b L xs) (hd : decode cL_law pc = .ok (.arraylength, 1)) (hq : pc + 1 = q) (kk : J_ Γ q lv (vi (Int32.ofNat L) :: st) σ k n) : J_ Γ pc lv (vk 14 :: st) σ k n := by
  obtain ⟨p, l, e, R, s, m, args, below, meth, c, κ, z, tA, D, nL, Z⟩ := Γ
  subst hq
  obtain ⟨⟨hx, hb, -⟩, -, -, -, -, hX, hbl, hκ, hz, -⟩ := C
  have hz : z = s.heap.size := hz
  have hκ : κ 14 = b := hκ
  intro H locs ls hP hS hl
  show W _ _ _ _ _ _ _ _ _ _ _ _ _ _ _ (F0 m pc ls (.ref (κ 14) :: st.map (av_ κ z)))
  rw [hκ]
  exact va_slen hx hb hX hbl (by rw [hz]; exact Nat.not_le.mpr hbl) hS hd (kk H locs ls hP hS hl)
theorem J_widen {k' n' : Nat} (h1 : k ≤ k') (h2 : n ≤ n') (kk : J_ Γ pc lv st σ k' n') : J_ Γ pc lv st σ k n := by
  obtain ⟨p, l, e, R, s, m, args, below, meth, c, κ, z, tA, D, nL, Z⟩ := Γ
  intro H locs ls hP hS hl
  exact W.widen h1 h2 (kk H locs ls hP hS hl)
end RL
def so_feed (Inv : Sg → Prop) (N : Nat) : Prop := ∀ (x1 : Int32) (x2 : Int32) (x3 : Int32) (x4 : Int32) (x5 : Int32) (σ : Sg), Inv σ → ∃ p q, f_X11_feed N 0 x1 x2 x3 x4 x5 σ = some p ∧ f_X12_feed N 344 x1 x2 x3 x4 x5 p.2 = some q ∧ p.1 = q.1 ∧ Inv q.2
set_option maxHeartbeats 4000000 in
set_option maxRecDepth 100000 in
theorem lw_c0 {Γ : Gm} {b L : Nat} {xs : Nat → Int32} (C : CLw Γ b L xs) {Inv : Sg → Prop} {N : Nat} (so : so_feed Inv N) {σ : Sg} (hI : Inv σ) (hB : lw_B σ) {i : Int32} (hi : ¬ i < 0 ∧ i.toNatClampNeg + 6 ≤ L) (hL : L ≤ 3072) {k n : Nat} (hk : k + 3 ≤ 601024) (hn : n + 800 ≤ 7293034) (kk : ∀ τ, Inv τ → lw_B τ → J_ Γ 1772 (lw_lv i) [] τ (k + 3) (n + 800)) : J_ Γ 236 (lw_lv i) [] σ k n := by
  have C0 := C.1
  refine J_aload_n (q := 237) C0 1 rfl rfl dL_law_236 rfl trivial ?_
  refine J_aload_n (q := 238) C0 0 rfl rfl dL_law_237 rfl trivial ?_
  refine J_iload (q := 240) C0 4 rfl dL_law_238 rfl ?_
  refine J_iconst (q := 241) (v := 1) C0 dL_law_240 rfl rfl ?_
  refine J_iadd (q := 242) C0 dL_law_241 rfl ?_
  refine J_sld (q := 243) C (lw_ix hi.1 hi.2 hL (by decide)) dL_law_242 rfl ?_
  refine J_aload_n (q := 244) C0 0 rfl rfl dL_law_243 rfl trivial ?_
  refine J_iload (q := 246) C0 4 rfl dL_law_244 rfl ?_
  refine J_iconst (q := 247) (v := 2) C0 dL_law_246 rfl rfl ?_
  refine J_iadd (q := 248) C0 dL_law_247 rfl ?_
  refine J_sld (q := 249) C (lw_ix hi.1 hi.2 hL (by decide)) dL_law_248 rfl ?_
  refine J_aload_n (q := 250) C0 0 rfl rfl dL_law_249 rfl trivial ?_
  refine J_iload (q := 252) C0 4 rfl dL_law_250 rfl ?_
  refine J_iconst (q := 253) (v := 3) C0 dL_law_252 rfl rfl ?_
  refine J_iadd (q := 254) C0 dL_law_253 rfl ?_
  refine J_sld (q := 255) C (lw_ix hi.1 hi.2 hL (by decide)) dL_law_254 rfl ?_
  refine J_aload_n (q := 256) C0 0 rfl rfl dL_law_255 rfl trivial ?_
  refine J_iload (q := 258) C0 4 rfl dL_law_256 rfl ?_
  refine J_iconst (q := 259) (v := 4) C0 dL_law_258 rfl rfl ?_
  refine J_iadd (q := 260) C0 dL_law_259 rfl ?_
  refine J_sld (q := 261) C (lw_ix hi.1 hi.2 hL (by decide)) dL_law_260 rfl ?_
  refine J_aload_n (q := 262) C0 0 rfl rfl dL_law_261 rfl trivial ?_
  refine J_iload (q := 264) C0 4 rfl dL_law_262 rfl ?_
  refine J_iconst (q := 265) (v := 5) C0 dL_law_264 rfl rfl ?_
  refine J_iadd (q := 266) C0 dL_law_265 rfl ?_
  refine J_sld (q := 267) C (lw_ix hi.1 hi.2 hL (by decide)) dL_law_266 rfl ?_
  obtain ⟨p, p_, hp, hq, he, hI2⟩ := so (xs (i + 1).toNatClampNeg) (xs (i + 2).toNatClampNeg) (xs (i + 3).toNatClampNeg) (xs (i + 4).toNatClampNeg) (xs (i + 5).toNatClampNeg) σ hI
  refine J_callV (q := 270) (ci := 10) (as := [vi (xs (i + 1).toNatClampNeg), vi (xs (i + 2).toNatClampNeg), vi (xs (i + 3).toNatClampNeg), vi (xs (i + 4).toNatClampNeg), vi (xs (i + 5).toNatClampNeg)]) (rest := []) C0 rfl (hB.2.1) (t_X11_feed N 0 (xs (i + 1).toNatClampNeg) (xs (i + 2).toNatClampNeg) (xs (i + 3).toNatClampNeg) (xs (i + 4).toNatClampNeg) (xs (i + 5).toNatClampNeg) (hB.1) (hB.2.1) hp) ml_X11_feed lk_L_19 im_X11_feed se_X11_feed rfl (by decide) dL_law_267 rfl rfl rfl (by simp [ac_]) C.room (Nat.le_of_ble_eq_true rfl) (Nat.le_of_ble_eq_true rfl) (by omega) (by omega) (fun r_ τ_ hQ => ?_)
  obtain ⟨rfl, ht_, T0, E0⟩ := hQ; subst ht_
  show J_ Γ 270 (lw_lv i) [vi (p.1)] _ k n
  refine J_aload_n (q := 271) C0 2 rfl rfl dL_law_270 rfl trivial ?_
  refine J_aload_n (q := 272) C0 0 rfl rfl dL_law_271 rfl trivial ?_
  refine J_iload (q := 274) C0 4 rfl dL_law_272 rfl ?_
  refine J_iconst (q := 275) (v := 1) C0 dL_law_274 rfl rfl ?_
  refine J_iadd (q := 276) C0 dL_law_275 rfl ?_
  refine J_sld (q := 277) C (lw_ix hi.1 hi.2 hL (by decide)) dL_law_276 rfl ?_
  refine J_aload_n (q := 278) C0 0 rfl rfl dL_law_277 rfl trivial ?_
  refine J_iload (q := 280) C0 4 rfl dL_law_278 rfl ?_
  refine J_iconst (q := 281) (v := 2) C0 dL_law_280 rfl rfl ?_
  refine J_iadd (q := 282) C0 dL_law_281 rfl ?_
  refine J_sld (q := 283) C (lw_ix hi.1 hi.2 hL (by decide)) dL_law_282 rfl ?_
  refine J_aload_n (q := 284) C0 0 rfl rfl dL_law_283 rfl trivial ?_
  refine J_iload (q := 286) C0 4 rfl dL_law_284 rfl ?_
  refine J_iconst (q := 287) (v := 3) C0 dL_law_286 rfl rfl ?_
  refine J_iadd (q := 288) C0 dL_law_287 rfl ?_
  refine J_sld (q := 289) C (lw_ix hi.1 hi.2 hL (by decide)) dL_law_288 rfl ?_
  refine J_aload_n (q := 290) C0 0 rfl rfl dL_law_289 rfl trivial ?_
  refine J_iload (q := 292) C0 4 rfl dL_law_290 rfl ?_
  refine J_iconst (q := 293) (v := 4) C0 dL_law_292 rfl rfl ?_
  refine J_iadd (q := 294) C0 dL_law_293 rfl ?_
  refine J_sld (q := 295) C (lw_ix hi.1 hi.2 hL (by decide)) dL_law_294 rfl ?_
  refine J_aload_n (q := 296) C0 0 rfl rfl dL_law_295 rfl trivial ?_
  refine J_iload (q := 298) C0 4 rfl dL_law_296 rfl ?_
  refine J_iconst (q := 299) (v := 5) C0 dL_law_298 rfl rfl ?_
  refine J_iadd (q := 300) C0 dL_law_299 rfl ?_
  refine J_sld (q := 301) C (lw_ix hi.1 hi.2 hL (by decide)) dL_law_300 rfl ?_
  refine J_callV (q := 304) (ci := 11) (as := [vi (xs (i + 1).toNatClampNeg), vi (xs (i + 2).toNatClampNeg), vi (xs (i + 3).toNatClampNeg), vi (xs (i + 4).toNatClampNeg), vi (xs (i + 5).toNatClampNeg)]) (rest := [vi (p.1)]) C0 rfl (E0.at (hB.2.2.1)) (t_X12_feed N 344 (xs (i + 1).toNatClampNeg) (xs (i + 2).toNatClampNeg) (xs (i + 3).toNatClampNeg) (xs (i + 4).toNatClampNeg) (xs (i + 5).toNatClampNeg) (T0) (E0.at (hB.2.2.1)) hq) ml_X12_feed lk_L_23 im_X12_feed se_X12_feed rfl (by decide) dL_law_301 rfl rfl rfl (by simp [ac_]) C.room (Nat.le_of_ble_eq_true rfl) (Nat.le_of_ble_eq_true rfl) (by omega) (by omega) (fun r_ τ_ hQ => ?_)
  obtain ⟨rfl, ht_, T1, E1⟩ := hQ; subst ht_
  show J_ Γ 304 (lw_lv i) [vi (p_.1), vi (p.1)] _ k n
  have hf_ : (if p.1 = p_.1 then some () else some ()) = some () := by split <;> rfl
  refine J_icmp_eq (t := 1772) (q := 307) C0 dL_law_304 (by decide) rfl hf_ (fun _ _ => ?_) (fun c_ _ => absurd he c_)
  exact J_widen (by omega) (by omega) (kk _ hI2 ⟨T1, E1.at (E0.at (hB.2.1)), E1.at (E0.at (hB.2.2.1)), E1.at (E0.at (hB.2.2.2.1)), (by rw [(E1.2 370 (E0.at (hB.2.2.2.1)).1).2]; exact (by rw [(E0.2 370 (hB.2.2.2.1).1).2]; exact hB.2.2.2.2))⟩)
def so_end (Inv : Sg → Prop) (N : Nat) : Prop := ∀ (x1 : Int32) (σ : Sg), Inv σ → ∃ p q, f_X11_end 0 x1 σ = some p ∧ f_X12_end 344 x1 p.2 = some q ∧ p.1 = q.1 ∧ Inv q.2
set_option maxHeartbeats 4000000 in
set_option maxRecDepth 100000 in
theorem lw_c1 {Γ : Gm} {b L : Nat} {xs : Nat → Int32} (C : CLw Γ b L xs) {Inv : Sg → Prop} {N : Nat} (so : so_end Inv N) {σ : Sg} (hI : Inv σ) (hB : lw_B σ) {i : Int32} (hi : ¬ i < 0 ∧ i.toNatClampNeg + 6 ≤ L) (hL : L ≤ 3072) {k n : Nat} (hk : k + 3 ≤ 601024) (hn : n + 800 ≤ 7293034) (kk : ∀ τ, Inv τ → lw_B τ → J_ Γ 1772 (lw_lv i) [] τ (k + 3) (n + 800)) : J_ Γ 309 (lw_lv i) [] σ k n := by
  have C0 := C.1
  refine J_aload_n (q := 310) C0 1 rfl rfl dL_law_309 rfl trivial ?_
  refine J_aload_n (q := 311) C0 0 rfl rfl dL_law_310 rfl trivial ?_
  refine J_iload (q := 313) C0 4 rfl dL_law_311 rfl ?_
  refine J_iconst (q := 314) (v := 1) C0 dL_law_313 rfl rfl ?_
  refine J_iadd (q := 315) C0 dL_law_314 rfl ?_
  refine J_sld (q := 316) C (lw_ix hi.1 hi.2 hL (by decide)) dL_law_315 rfl ?_
  obtain ⟨p, p_, hp, hq, he, hI2⟩ := so (xs (i + 1).toNatClampNeg) σ hI
  refine J_callV (q := 319) (ci := 10) (as := [vi (xs (i + 1).toNatClampNeg)]) (rest := []) C0 rfl (hB.2.1) (t_X11_end 0 (xs (i + 1).toNatClampNeg) (hB.1) (hB.2.1) hp) ml_X11_end lk_L_24 im_X11_end se_X11_end rfl (by decide) dL_law_316 rfl rfl rfl (by simp [ac_]) C.room (Nat.le_of_ble_eq_true rfl) (Nat.le_of_ble_eq_true rfl) (by omega) (by omega) (fun r_ τ_ hQ => ?_)
  obtain ⟨⟨rfl, _⟩, ht_, T0, E0⟩ := hQ; subst ht_
  show J_ Γ 319 (lw_lv i) [vi (p.1)] _ k n
  refine J_aload_n (q := 320) C0 2 rfl rfl dL_law_319 rfl trivial ?_
  refine J_aload_n (q := 321) C0 0 rfl rfl dL_law_320 rfl trivial ?_
  refine J_iload (q := 323) C0 4 rfl dL_law_321 rfl ?_
  refine J_iconst (q := 324) (v := 1) C0 dL_law_323 rfl rfl ?_
  refine J_iadd (q := 325) C0 dL_law_324 rfl ?_
  refine J_sld (q := 326) C (lw_ix hi.1 hi.2 hL (by decide)) dL_law_325 rfl ?_
  refine J_callV (q := 329) (ci := 11) (as := [vi (xs (i + 1).toNatClampNeg)]) (rest := [vi (p.1)]) C0 rfl (E0.at (hB.2.2.1)) (t_X12_end 344 (xs (i + 1).toNatClampNeg) (T0) (E0.at (hB.2.2.1)) hq) ml_X12_end lk_L_28 im_X12_end se_X12_end rfl (by decide) dL_law_326 rfl rfl rfl (by simp [ac_]) C.room (Nat.le_of_ble_eq_true rfl) (Nat.le_of_ble_eq_true rfl) (by omega) (by omega) (fun r_ τ_ hQ => ?_)
  obtain ⟨⟨rfl, _⟩, ht_, T1, E1⟩ := hQ; subst ht_
  show J_ Γ 329 (lw_lv i) [vi (p_.1), vi (p.1)] _ k n
  have hf_ : (if p.1 = p_.1 then some () else some ()) = some () := by split <;> rfl
  refine J_icmp_eq (t := 1772) (q := 332) C0 dL_law_329 (by decide) rfl hf_ (fun _ _ => ?_) (fun c_ _ => absurd he c_)
  exact J_widen (by omega) (by omega) (kk _ hI2 ⟨T1, E1.at (E0.at (hB.2.1)), E1.at (E0.at (hB.2.2.1)), E1.at (E0.at (hB.2.2.2.1)), (by rw [(E1.2 370 (E0.at (hB.2.2.2.1)).1).2]; exact (by rw [(E0.2 370 (hB.2.2.2.1).1).2]; exact hB.2.2.2.2))⟩)
def so_fault (Inv : Sg → Prop) (N : Nat) : Prop := ∀ (x1 : Int32) (σ : Sg), Inv σ → lw_B σ → ∃ p q, f_X11_fault N 0 x1 σ = some p ∧ f_X12_fault N 344 x1 p.2 = some q ∧ p.1 = q.1 ∧ Inv q.2
set_option maxHeartbeats 4000000 in
set_option maxRecDepth 100000 in
theorem lw_c2 {Γ : Gm} {b L : Nat} {xs : Nat → Int32} (C : CLw Γ b L xs) {Inv : Sg → Prop} {N : Nat} (so : so_fault Inv N) {σ : Sg} (hI : Inv σ) (hB : lw_B σ) {i : Int32} (hi : ¬ i < 0 ∧ i.toNatClampNeg + 6 ≤ L) (hL : L ≤ 3072) {k n : Nat} (hk : k + 3 ≤ 601024) (hn : n + 800 ≤ 7293034) (kk : ∀ τ, Inv τ → lw_B τ → J_ Γ 1772 (lw_lv i) [] τ (k + 3) (n + 800)) : J_ Γ 334 (lw_lv i) [] σ k n := by
  have C0 := C.1
  refine J_aload_n (q := 335) C0 1 rfl rfl dL_law_334 rfl trivial ?_
  refine J_aload_n (q := 336) C0 0 rfl rfl dL_law_335 rfl trivial ?_
  refine J_iload (q := 338) C0 4 rfl dL_law_336 rfl ?_
  refine J_iconst (q := 339) (v := 1) C0 dL_law_338 rfl rfl ?_
  refine J_iadd (q := 340) C0 dL_law_339 rfl ?_
  refine J_sld (q := 341) C (lw_ix hi.1 hi.2 hL (by decide)) dL_law_340 rfl ?_
  obtain ⟨p, p_, hp, hq, he, hI2⟩ := so (xs (i + 1).toNatClampNeg) σ hI hB
  refine J_callV (q := 344) (ci := 10) (as := [vi (xs (i + 1).toNatClampNeg)]) (rest := []) C0 rfl (hB.2.1) (t_X11_fault N 0 (xs (i + 1).toNatClampNeg) (hB.1) (hB.2.1) hp) ml_X11_fault lk_L_29 im_X11_fault se_X11_fault rfl (by decide) dL_law_341 rfl rfl rfl (by simp [ac_]) C.room (Nat.le_of_ble_eq_true rfl) (Nat.le_of_ble_eq_true rfl) (by omega) (by omega) (fun r_ τ_ hQ => ?_)
  obtain ⟨rfl, ht_, T0, E0⟩ := hQ; subst ht_
  show J_ Γ 344 (lw_lv i) [vi (p.1)] _ k n
  refine J_aload_n (q := 345) C0 2 rfl rfl dL_law_344 rfl trivial ?_
  refine J_aload_n (q := 346) C0 0 rfl rfl dL_law_345 rfl trivial ?_
  refine J_iload (q := 348) C0 4 rfl dL_law_346 rfl ?_
  refine J_iconst (q := 349) (v := 1) C0 dL_law_348 rfl rfl ?_
  refine J_iadd (q := 350) C0 dL_law_349 rfl ?_
  refine J_sld (q := 351) C (lw_ix hi.1 hi.2 hL (by decide)) dL_law_350 rfl ?_
  refine J_callV (q := 354) (ci := 11) (as := [vi (xs (i + 1).toNatClampNeg)]) (rest := [vi (p.1)]) C0 rfl (E0.at (hB.2.2.1)) (t_X12_fault N 344 (xs (i + 1).toNatClampNeg) (T0) (E0.at (hB.2.2.1)) hq) ml_X12_fault lk_L_33 im_X12_fault se_X12_fault rfl (by decide) dL_law_351 rfl rfl rfl (by simp [ac_]) C.room (Nat.le_of_ble_eq_true rfl) (Nat.le_of_ble_eq_true rfl) (by omega) (by omega) (fun r_ τ_ hQ => ?_)
  obtain ⟨rfl, ht_, T1, E1⟩ := hQ; subst ht_
  show J_ Γ 354 (lw_lv i) [vi (p_.1), vi (p.1)] _ k n
  have hf_ : (if p.1 = p_.1 then some () else some ()) = some () := by split <;> rfl
  refine J_icmp_eq (t := 1772) (q := 357) C0 dL_law_354 (by decide) rfl hf_ (fun _ _ => ?_) (fun c_ _ => absurd he c_)
  exact J_widen (by omega) (by omega) (kk _ hI2 ⟨T1, E1.at (E0.at (hB.2.1)), E1.at (E0.at (hB.2.2.1)), E1.at (E0.at (hB.2.2.2.1)), (by rw [(E1.2 370 (E0.at (hB.2.2.2.1)).1).2]; exact (by rw [(E0.2 370 (hB.2.2.2.1).1).2]; exact hB.2.2.2.2))⟩)
def so_text (Inv : Sg → Prop) (N : Nat) : Prop := ∀ (x1 : Int32) (σ : Sg), Inv σ → lw_B σ → ∃ p q, f_X11_text N 0 x1 σ = some p ∧ f_X12_text N 344 x1 p.2 = some q ∧ p.1 = q.1 ∧ Inv q.2 ∧ sg_N p.2 ≤ 3 + sg_N σ ∧ sg_S p.2 ≤ 800 + sg_S σ
set_option maxHeartbeats 4000000 in
set_option maxRecDepth 100000 in
theorem lw_c3 {Γ : Gm} {b L : Nat} {xs : Nat → Int32} (C : CLw Γ b L xs) {Inv : Sg → Prop} {N : Nat} (so : so_text Inv N) {σ : Sg} (hI : Inv σ) (hB : lw_B σ) {i : Int32} (hi : ¬ i < 0 ∧ i.toNatClampNeg + 6 ≤ L) (hL : L ≤ 3072) {k n : Nat} (hk : k + 3 ≤ 601024) (hn : n + 800 ≤ 7293034) (kk : ∀ τ, Inv τ → lw_B τ → J_ Γ 1772 (lw_lv i) [] τ (k + 3) (n + 800)) : J_ Γ 359 (lw_lv i) [] σ k n := by
  have C0 := C.1
  refine J_aload_n (q := 360) C0 1 rfl rfl dL_law_359 rfl trivial ?_
  refine J_aload_n (q := 361) C0 0 rfl rfl dL_law_360 rfl trivial ?_
  refine J_iload (q := 363) C0 4 rfl dL_law_361 rfl ?_
  refine J_iconst (q := 364) (v := 1) C0 dL_law_363 rfl rfl ?_
  refine J_iadd (q := 365) C0 dL_law_364 rfl ?_
  refine J_sld (q := 366) C (lw_ix hi.1 hi.2 hL (by decide)) dL_law_365 rfl ?_
  obtain ⟨p, p_, hp, hq, he, hI2, hN_, hS_⟩ := so (xs (i + 1).toNatClampNeg) σ hI hB
  refine J_callV (q := 369) (ci := 10) (as := [vi (xs (i + 1).toNatClampNeg)]) (rest := []) C0 rfl (hB.2.1) (t_X11_text N 0 (xs (i + 1).toNatClampNeg) (hB.1) (hB.2.1) hp (mc := 3) (ms := 800) ⟨hN_, hS_⟩) ml_X11_text lk_L_34 im_X11_text se_X11_text rfl (by decide) dL_law_366 rfl rfl rfl (by simp [ac_]) C.room (Nat.le_of_ble_eq_true rfl) (Nat.le_of_ble_eq_true rfl) (by omega) (by omega) (fun r_ τ_ hQ => ?_)
  obtain ⟨rfl, ht_, T0, E0⟩ := hQ; subst ht_
  show J_ Γ 369 (lw_lv i) [vi (p.1)] _ (k + 3) (n + 800)
  refine J_aload_n (q := 370) C0 2 rfl rfl dL_law_369 rfl trivial ?_
  refine J_aload_n (q := 371) C0 0 rfl rfl dL_law_370 rfl trivial ?_
  refine J_iload (q := 373) C0 4 rfl dL_law_371 rfl ?_
  refine J_iconst (q := 374) (v := 1) C0 dL_law_373 rfl rfl ?_
  refine J_iadd (q := 375) C0 dL_law_374 rfl ?_
  refine J_sld (q := 376) C (lw_ix hi.1 hi.2 hL (by decide)) dL_law_375 rfl ?_
  refine J_callV (q := 379) (ci := 11) (as := [vi (xs (i + 1).toNatClampNeg)]) (rest := [vi (p.1)]) C0 rfl (E0.at (hB.2.2.1)) (t_X12_text N 344 (xs (i + 1).toNatClampNeg) (T0) (E0.at (hB.2.2.1)) hq) ml_X12_text lk_L_37 im_X12_text se_X12_text rfl (by decide) dL_law_376 rfl rfl rfl (by simp [ac_]) C.room (Nat.le_of_ble_eq_true rfl) (Nat.le_of_ble_eq_true rfl) (by omega) (by omega) (fun r_ τ_ hQ => ?_)
  obtain ⟨rfl, ht_, T1, E1⟩ := hQ; subst ht_
  show J_ Γ 379 (lw_lv i) [vi (p_.1), vi (p.1)] _ (k + 3) (n + 800)
  have hf_ : (if p.1 = p_.1 then some () else some ()) = some () := by split <;> rfl
  refine J_icmp_eq (t := 1772) (q := 382) C0 dL_law_379 (by decide) rfl hf_ (fun _ _ => ?_) (fun c_ _ => absurd he c_)
  exact (kk _ hI2 ⟨T1, E1.at (E0.at (hB.2.1)), E1.at (E0.at (hB.2.2.1)), E1.at (E0.at (hB.2.2.2.1)), (by rw [(E1.2 370 (E0.at (hB.2.2.2.1)).1).2]; exact (by rw [(E0.2 370 (hB.2.2.2.1).1).2]; exact hB.2.2.2.2))⟩)
def so_rule (Inv : Sg → Prop) (N : Nat) : Prop := ∀ (x1 : Int32) (σ : Sg), Inv σ → ∃ p q, f_X11_rule 0 x1 σ = some p ∧ f_X12_rule 344 x1 σ = some q ∧ p = q ∧ Inv σ
set_option maxHeartbeats 4000000 in
set_option maxRecDepth 100000 in
theorem lw_c4 {Γ : Gm} {b L : Nat} {xs : Nat → Int32} (C : CLw Γ b L xs) {Inv : Sg → Prop} {N : Nat} (so : so_rule Inv N) {σ : Sg} (hI : Inv σ) (hB : lw_B σ) {i : Int32} (hi : ¬ i < 0 ∧ i.toNatClampNeg + 6 ≤ L) (hL : L ≤ 3072) {k n : Nat} (hk : k + 3 ≤ 601024) (hn : n + 800 ≤ 7293034) (kk : ∀ τ, Inv τ → lw_B τ → J_ Γ 1772 (lw_lv i) [] τ (k + 3) (n + 800)) : J_ Γ 384 (lw_lv i) [] σ k n := by
  have C0 := C.1
  refine J_aload_n (q := 385) C0 1 rfl rfl dL_law_384 rfl trivial ?_
  refine J_aload_n (q := 386) C0 0 rfl rfl dL_law_385 rfl trivial ?_
  refine J_iload (q := 388) C0 4 rfl dL_law_386 rfl ?_
  refine J_iconst (q := 389) (v := 1) C0 dL_law_388 rfl rfl ?_
  refine J_iadd (q := 390) C0 dL_law_389 rfl ?_
  refine J_sld (q := 391) C (lw_ix hi.1 hi.2 hL (by decide)) dL_law_390 rfl ?_
  obtain ⟨p, p_, hp, hq, he, hI2⟩ := so (xs (i + 1).toNatClampNeg) σ hI
  refine J_callV (q := 394) (ci := 10) (as := [vi (xs (i + 1).toNatClampNeg)]) (rest := []) C0 rfl (hB.2.1) (t_X11_rule 0 (xs (i + 1).toNatClampNeg) (hB.1) (hB.2.1) hp) ml_X11_rule lk_L_38 im_X11_rule se_X11_rule rfl (by decide) dL_law_391 rfl rfl rfl (by simp [ac_]) C.room (Nat.le_of_ble_eq_true rfl) (Nat.le_of_ble_eq_true rfl) (by omega) (by omega) (fun r_ τ_ hQ => ?_)
  obtain ⟨rfl, ht_⟩ := hQ; subst ht_
  show J_ Γ 394 (lw_lv i) [vi (p)] _ k n
  refine J_aload_n (q := 395) C0 2 rfl rfl dL_law_394 rfl trivial ?_
  refine J_aload_n (q := 396) C0 0 rfl rfl dL_law_395 rfl trivial ?_
  refine J_iload (q := 398) C0 4 rfl dL_law_396 rfl ?_
  refine J_iconst (q := 399) (v := 1) C0 dL_law_398 rfl rfl ?_
  refine J_iadd (q := 400) C0 dL_law_399 rfl ?_
  refine J_sld (q := 401) C (lw_ix hi.1 hi.2 hL (by decide)) dL_law_400 rfl ?_
  refine J_callV (q := 404) (ci := 11) (as := [vi (xs (i + 1).toNatClampNeg)]) (rest := [vi (p)]) C0 rfl (hB.2.2.1) (t_X12_rule 344 (xs (i + 1).toNatClampNeg) (hB.1) (hB.2.2.1) hq) ml_X12_rule lk_L_41 im_X12_rule se_X12_rule rfl (by decide) dL_law_401 rfl rfl rfl (by simp [ac_]) C.room (Nat.le_of_ble_eq_true rfl) (Nat.le_of_ble_eq_true rfl) (by omega) (by omega) (fun r_ τ_ hQ => ?_)
  obtain ⟨rfl, ht_⟩ := hQ; subst ht_
  show J_ Γ 404 (lw_lv i) [vi (p_), vi (p)] _ k n
  have hf_ : (if p = p_ then some () else some ()) = some () := by split <;> rfl
  refine J_icmp_eq (t := 1772) (q := 407) C0 dL_law_404 (by decide) rfl hf_ (fun _ _ => ?_) (fun c_ _ => absurd he c_)
  exact J_widen (by omega) (by omega) (kk _ hI2 ⟨hB.1, hB.2.1, hB.2.2.1, hB.2.2.2.1, hB.2.2.2.2⟩)
def so_picture (Inv : Sg → Prop) (N : Nat) : Prop := ∀ (x1 : Int32) (x2 : Int32) (σ : Sg), Inv σ → ∃ p q, f_X11_picture 0 x1 x2 σ = some p ∧ f_X12_picture 344 x1 x2 σ = some q ∧ p = q ∧ Inv σ
set_option maxHeartbeats 4000000 in
set_option maxRecDepth 100000 in
theorem lw_c6 {Γ : Gm} {b L : Nat} {xs : Nat → Int32} (C : CLw Γ b L xs) {Inv : Sg → Prop} {N : Nat} (so : so_picture Inv N) {σ : Sg} (hI : Inv σ) (hB : lw_B σ) {i : Int32} (hi : ¬ i < 0 ∧ i.toNatClampNeg + 6 ≤ L) (hL : L ≤ 3072) {k n : Nat} (hk : k + 3 ≤ 601024) (hn : n + 800 ≤ 7293034) (kk : ∀ τ, Inv τ → lw_B τ → J_ Γ 1772 (lw_lv i) [] τ (k + 3) (n + 800)) : J_ Γ 477 (lw_lv i) [] σ k n := by
  have C0 := C.1
  refine J_aload_n (q := 478) C0 1 rfl rfl dL_law_477 rfl trivial ?_
  refine J_aload_n (q := 479) C0 0 rfl rfl dL_law_478 rfl trivial ?_
  refine J_iload (q := 481) C0 4 rfl dL_law_479 rfl ?_
  refine J_iconst (q := 482) (v := 1) C0 dL_law_481 rfl rfl ?_
  refine J_iadd (q := 483) C0 dL_law_482 rfl ?_
  refine J_sld (q := 484) C (lw_ix hi.1 hi.2 hL (by decide)) dL_law_483 rfl ?_
  refine J_aload_n (q := 485) C0 0 rfl rfl dL_law_484 rfl trivial ?_
  refine J_iload (q := 487) C0 4 rfl dL_law_485 rfl ?_
  refine J_iconst (q := 488) (v := 2) C0 dL_law_487 rfl rfl ?_
  refine J_iadd (q := 489) C0 dL_law_488 rfl ?_
  refine J_sld (q := 490) C (lw_ix hi.1 hi.2 hL (by decide)) dL_law_489 rfl ?_
  obtain ⟨p, p_, hp, hq, he, hI2⟩ := so (xs (i + 1).toNatClampNeg) (xs (i + 2).toNatClampNeg) σ hI
  refine J_callV (q := 493) (ci := 10) (as := [vi (xs (i + 1).toNatClampNeg), vi (xs (i + 2).toNatClampNeg)]) (rest := []) C0 rfl (hB.2.1) (t_X11_picture 0 (xs (i + 1).toNatClampNeg) (xs (i + 2).toNatClampNeg) (hB.1) (hB.2.1) hp) ml_X11_picture lk_L_52 im_X11_picture se_X11_picture rfl (by decide) dL_law_490 rfl rfl rfl (by simp [ac_]) C.room (Nat.le_of_ble_eq_true rfl) (Nat.le_of_ble_eq_true rfl) (by omega) (by omega) (fun r_ τ_ hQ => ?_)
  obtain ⟨rfl, ht_⟩ := hQ; subst ht_
  show J_ Γ 493 (lw_lv i) [vi (p)] _ k n
  refine J_aload_n (q := 494) C0 2 rfl rfl dL_law_493 rfl trivial ?_
  refine J_aload_n (q := 495) C0 0 rfl rfl dL_law_494 rfl trivial ?_
  refine J_iload (q := 497) C0 4 rfl dL_law_495 rfl ?_
  refine J_iconst (q := 498) (v := 1) C0 dL_law_497 rfl rfl ?_
  refine J_iadd (q := 499) C0 dL_law_498 rfl ?_
  refine J_sld (q := 500) C (lw_ix hi.1 hi.2 hL (by decide)) dL_law_499 rfl ?_
  refine J_aload_n (q := 501) C0 0 rfl rfl dL_law_500 rfl trivial ?_
  refine J_iload (q := 503) C0 4 rfl dL_law_501 rfl ?_
  refine J_iconst (q := 504) (v := 2) C0 dL_law_503 rfl rfl ?_
  refine J_iadd (q := 505) C0 dL_law_504 rfl ?_
  refine J_sld (q := 506) C (lw_ix hi.1 hi.2 hL (by decide)) dL_law_505 rfl ?_
  refine J_callV (q := 509) (ci := 11) (as := [vi (xs (i + 1).toNatClampNeg), vi (xs (i + 2).toNatClampNeg)]) (rest := [vi (p)]) C0 rfl (hB.2.2.1) (t_X12_picture 344 (xs (i + 1).toNatClampNeg) (xs (i + 2).toNatClampNeg) (hB.1) (hB.2.2.1) hq) ml_X12_picture lk_L_55 im_X12_picture se_X12_picture rfl (by decide) dL_law_506 rfl rfl rfl (by simp [ac_]) C.room (Nat.le_of_ble_eq_true rfl) (Nat.le_of_ble_eq_true rfl) (by omega) (by omega) (fun r_ τ_ hQ => ?_)
  obtain ⟨rfl, ht_⟩ := hQ; subst ht_
  show J_ Γ 509 (lw_lv i) [vi (p_), vi (p)] _ k n
  have hf_ : (if p = p_ then some () else some ()) = some () := by split <;> rfl
  refine J_icmp_eq (t := 1772) (q := 512) C0 dL_law_509 (by decide) rfl hf_ (fun _ _ => ?_) (fun c_ _ => absurd he c_)
  exact J_widen (by omega) (by omega) (kk _ hI2 ⟨hB.1, hB.2.1, hB.2.2.1, hB.2.2.2.1, hB.2.2.2.2⟩)
def so_law (Inv : Sg → Prop) (N : Nat) : Prop := ∀ (x1 : Int32) (σ : Sg), Inv σ → ∃ p q, f_X11_law 0 x1 σ = some p ∧ f_X12_law 344 x1 p.2 = some q ∧ p.1 = q.1 ∧ Inv q.2
set_option maxHeartbeats 4000000 in
set_option maxRecDepth 100000 in
theorem lw_c7 {Γ : Gm} {b L : Nat} {xs : Nat → Int32} (C : CLw Γ b L xs) {Inv : Sg → Prop} {N : Nat} (so : so_law Inv N) {σ : Sg} (hI : Inv σ) (hB : lw_B σ) {i : Int32} (hi : ¬ i < 0 ∧ i.toNatClampNeg + 6 ≤ L) (hL : L ≤ 3072) {k n : Nat} (hk : k + 3 ≤ 601024) (hn : n + 800 ≤ 7293034) (kk : ∀ τ, Inv τ → lw_B τ → J_ Γ 1772 (lw_lv i) [] τ (k + 3) (n + 800)) : J_ Γ 514 (lw_lv i) [] σ k n := by
  have C0 := C.1
  refine J_aload_n (q := 515) C0 1 rfl rfl dL_law_514 rfl trivial ?_
  refine J_aload_n (q := 516) C0 0 rfl rfl dL_law_515 rfl trivial ?_
  refine J_iload (q := 518) C0 4 rfl dL_law_516 rfl ?_
  refine J_iconst (q := 519) (v := 1) C0 dL_law_518 rfl rfl ?_
  refine J_iadd (q := 520) C0 dL_law_519 rfl ?_
  refine J_sld (q := 521) C (lw_ix hi.1 hi.2 hL (by decide)) dL_law_520 rfl ?_
  obtain ⟨p, p_, hp, hq, he, hI2⟩ := so (xs (i + 1).toNatClampNeg) σ hI
  refine J_callV (q := 524) (ci := 10) (as := [vi (xs (i + 1).toNatClampNeg)]) (rest := []) C0 rfl (hB.2.1) (t_X11_law 0 (xs (i + 1).toNatClampNeg) (hB.1) (hB.2.1) hp) ml_X11_law lk_L_56 im_X11_law se_X11_law rfl (by decide) dL_law_521 rfl rfl rfl (by simp [ac_]) C.room (Nat.le_of_ble_eq_true rfl) (Nat.le_of_ble_eq_true rfl) (by omega) (by omega) (fun r_ τ_ hQ => ?_)
  obtain ⟨⟨rfl, _⟩, ht_, T0, E0⟩ := hQ; subst ht_
  show J_ Γ 524 (lw_lv i) [vi (p.1)] _ k n
  refine J_aload_n (q := 525) C0 2 rfl rfl dL_law_524 rfl trivial ?_
  refine J_aload_n (q := 526) C0 0 rfl rfl dL_law_525 rfl trivial ?_
  refine J_iload (q := 528) C0 4 rfl dL_law_526 rfl ?_
  refine J_iconst (q := 529) (v := 1) C0 dL_law_528 rfl rfl ?_
  refine J_iadd (q := 530) C0 dL_law_529 rfl ?_
  refine J_sld (q := 531) C (lw_ix hi.1 hi.2 hL (by decide)) dL_law_530 rfl ?_
  refine J_callV (q := 534) (ci := 11) (as := [vi (xs (i + 1).toNatClampNeg)]) (rest := [vi (p.1)]) C0 rfl (E0.at (hB.2.2.1)) (t_X12_law 344 (xs (i + 1).toNatClampNeg) (T0) (E0.at (hB.2.2.1)) hq) ml_X12_law lk_L_59 im_X12_law se_X12_law rfl (by decide) dL_law_531 rfl rfl rfl (by simp [ac_]) C.room (Nat.le_of_ble_eq_true rfl) (Nat.le_of_ble_eq_true rfl) (by omega) (by omega) (fun r_ τ_ hQ => ?_)
  obtain ⟨⟨rfl, _⟩, ht_, T1, E1⟩ := hQ; subst ht_
  show J_ Γ 534 (lw_lv i) [vi (p_.1), vi (p.1)] _ k n
  have hf_ : (if p.1 = p_.1 then some () else some ()) = some () := by split <;> rfl
  refine J_icmp_eq (t := 1772) (q := 537) C0 dL_law_534 (by decide) rfl hf_ (fun _ _ => ?_) (fun c_ _ => absurd he c_)
  exact J_widen (by omega) (by omega) (kk _ hI2 ⟨T1, E1.at (E0.at (hB.2.1)), E1.at (E0.at (hB.2.2.1)), E1.at (E0.at (hB.2.2.2.1)), (by rw [(E1.2 370 (E0.at (hB.2.2.2.1)).1).2]; exact (by rw [(E0.2 370 (hB.2.2.2.1).1).2]; exact hB.2.2.2.2))⟩)
def so_touch (Inv : Sg → Prop) (N : Nat) : Prop := ∀ (x1 : Int32) (σ : Sg), Inv σ → ∃ p q, f_X11_touch 0 x1 σ = some p ∧ f_X12_touch 344 x1 p.2 = some q ∧ p.1 = q.1 ∧ Inv q.2
set_option maxHeartbeats 4000000 in
set_option maxRecDepth 100000 in
theorem lw_c8 {Γ : Gm} {b L : Nat} {xs : Nat → Int32} (C : CLw Γ b L xs) {Inv : Sg → Prop} {N : Nat} (so : so_touch Inv N) {σ : Sg} (hI : Inv σ) (hB : lw_B σ) {i : Int32} (hi : ¬ i < 0 ∧ i.toNatClampNeg + 6 ≤ L) (hL : L ≤ 3072) {k n : Nat} (hk : k + 3 ≤ 601024) (hn : n + 800 ≤ 7293034) (kk : ∀ τ, Inv τ → lw_B τ → J_ Γ 1772 (lw_lv i) [] τ (k + 3) (n + 800)) : J_ Γ 539 (lw_lv i) [] σ k n := by
  have C0 := C.1
  refine J_aload_n (q := 540) C0 1 rfl rfl dL_law_539 rfl trivial ?_
  refine J_aload_n (q := 541) C0 0 rfl rfl dL_law_540 rfl trivial ?_
  refine J_iload (q := 543) C0 4 rfl dL_law_541 rfl ?_
  refine J_iconst (q := 544) (v := 1) C0 dL_law_543 rfl rfl ?_
  refine J_iadd (q := 545) C0 dL_law_544 rfl ?_
  refine J_sld (q := 546) C (lw_ix hi.1 hi.2 hL (by decide)) dL_law_545 rfl ?_
  obtain ⟨p, p_, hp, hq, he, hI2⟩ := so (xs (i + 1).toNatClampNeg) σ hI
  refine J_callV (q := 549) (ci := 10) (as := [vi (xs (i + 1).toNatClampNeg)]) (rest := []) C0 rfl (hB.2.1) (t_X11_touch 0 (xs (i + 1).toNatClampNeg) (hB.1) (hB.2.1) hp) ml_X11_touch lk_L_60 im_X11_touch se_X11_touch rfl (by decide) dL_law_546 rfl rfl rfl (by simp [ac_]) C.room (Nat.le_of_ble_eq_true rfl) (Nat.le_of_ble_eq_true rfl) (by omega) (by omega) (fun r_ τ_ hQ => ?_)
  obtain ⟨⟨rfl, _⟩, ht_, T0, E0⟩ := hQ; subst ht_
  show J_ Γ 549 (lw_lv i) [vi (p.1)] _ k n
  refine J_aload_n (q := 550) C0 2 rfl rfl dL_law_549 rfl trivial ?_
  refine J_aload_n (q := 551) C0 0 rfl rfl dL_law_550 rfl trivial ?_
  refine J_iload (q := 553) C0 4 rfl dL_law_551 rfl ?_
  refine J_iconst (q := 554) (v := 1) C0 dL_law_553 rfl rfl ?_
  refine J_iadd (q := 555) C0 dL_law_554 rfl ?_
  refine J_sld (q := 556) C (lw_ix hi.1 hi.2 hL (by decide)) dL_law_555 rfl ?_
  refine J_callV (q := 559) (ci := 11) (as := [vi (xs (i + 1).toNatClampNeg)]) (rest := [vi (p.1)]) C0 rfl (E0.at (hB.2.2.1)) (t_X12_touch 344 (xs (i + 1).toNatClampNeg) (T0) (E0.at (hB.2.2.1)) hq) ml_X12_touch lk_L_63 im_X12_touch se_X12_touch rfl (by decide) dL_law_556 rfl rfl rfl (by simp [ac_]) C.room (Nat.le_of_ble_eq_true rfl) (Nat.le_of_ble_eq_true rfl) (by omega) (by omega) (fun r_ τ_ hQ => ?_)
  obtain ⟨⟨rfl, _⟩, ht_, T1, E1⟩ := hQ; subst ht_
  show J_ Γ 559 (lw_lv i) [vi (p_.1), vi (p.1)] _ k n
  have hf_ : (if p.1 = p_.1 then some () else some ()) = some () := by split <;> rfl
  refine J_icmp_eq (t := 1772) (q := 562) C0 dL_law_559 (by decide) rfl hf_ (fun _ _ => ?_) (fun c_ _ => absurd he c_)
  exact J_widen (by omega) (by omega) (kk _ hI2 ⟨T1, E1.at (E0.at (hB.2.1)), E1.at (E0.at (hB.2.2.1)), E1.at (E0.at (hB.2.2.2.1)), (by rw [(E1.2 370 (E0.at (hB.2.2.2.1)).1).2]; exact (by rw [(E0.2 370 (hB.2.2.2.1).1).2]; exact hB.2.2.2.2))⟩)
def so_ticks (Inv : Sg → Prop) (N : Nat) : Prop := ∀ (x1 : Int32) (σ : Sg), Inv σ → ∃ p q, f_X11_ticks N 0 x1 σ = some p ∧ f_X12_ticks N 344 x1 p.2 = some q ∧ p.1 = q.1 ∧ Inv q.2
set_option maxHeartbeats 4000000 in
set_option maxRecDepth 100000 in
theorem lw_c9 {Γ : Gm} {b L : Nat} {xs : Nat → Int32} (C : CLw Γ b L xs) {Inv : Sg → Prop} {N : Nat} (so : so_ticks Inv N) {σ : Sg} (hI : Inv σ) (hB : lw_B σ) {i : Int32} (hi : ¬ i < 0 ∧ i.toNatClampNeg + 6 ≤ L) (hL : L ≤ 3072) {k n : Nat} (hk : k + 3 ≤ 601024) (hn : n + 800 ≤ 7293034) (kk : ∀ τ, Inv τ → lw_B τ → J_ Γ 1772 (lw_lv i) [] τ (k + 3) (n + 800)) : J_ Γ 564 (lw_lv i) [] σ k n := by
  have C0 := C.1
  refine J_aload_n (q := 565) C0 1 rfl rfl dL_law_564 rfl trivial ?_
  refine J_aload_n (q := 566) C0 0 rfl rfl dL_law_565 rfl trivial ?_
  refine J_iload (q := 568) C0 4 rfl dL_law_566 rfl ?_
  refine J_iconst (q := 569) (v := 1) C0 dL_law_568 rfl rfl ?_
  refine J_iadd (q := 570) C0 dL_law_569 rfl ?_
  refine J_sld (q := 571) C (lw_ix hi.1 hi.2 hL (by decide)) dL_law_570 rfl ?_
  obtain ⟨p, p_, hp, hq, he, hI2⟩ := so (xs (i + 1).toNatClampNeg) σ hI
  refine J_callV (q := 574) (ci := 10) (as := [vi (xs (i + 1).toNatClampNeg)]) (rest := []) C0 rfl (hB.2.1) (t_X11_ticks N 0 (xs (i + 1).toNatClampNeg) (hB.1) (hB.2.1) hp) ml_X11_ticks lk_L_64 im_X11_ticks se_X11_ticks rfl (by decide) dL_law_571 rfl rfl rfl (by simp [ac_]) C.room (Nat.le_of_ble_eq_true rfl) (Nat.le_of_ble_eq_true rfl) (by omega) (by omega) (fun r_ τ_ hQ => ?_)
  obtain ⟨rfl, ht_, T0, E0⟩ := hQ; subst ht_
  show J_ Γ 574 (lw_lv i) [vi (p.1)] _ k n
  refine J_aload_n (q := 575) C0 2 rfl rfl dL_law_574 rfl trivial ?_
  refine J_aload_n (q := 576) C0 0 rfl rfl dL_law_575 rfl trivial ?_
  refine J_iload (q := 578) C0 4 rfl dL_law_576 rfl ?_
  refine J_iconst (q := 579) (v := 1) C0 dL_law_578 rfl rfl ?_
  refine J_iadd (q := 580) C0 dL_law_579 rfl ?_
  refine J_sld (q := 581) C (lw_ix hi.1 hi.2 hL (by decide)) dL_law_580 rfl ?_
  refine J_callV (q := 584) (ci := 11) (as := [vi (xs (i + 1).toNatClampNeg)]) (rest := [vi (p.1)]) C0 rfl (E0.at (hB.2.2.1)) (t_X12_ticks N 344 (xs (i + 1).toNatClampNeg) (T0) (E0.at (hB.2.2.1)) hq) ml_X12_ticks lk_L_67 im_X12_ticks se_X12_ticks rfl (by decide) dL_law_581 rfl rfl rfl (by simp [ac_]) C.room (Nat.le_of_ble_eq_true rfl) (Nat.le_of_ble_eq_true rfl) (by omega) (by omega) (fun r_ τ_ hQ => ?_)
  obtain ⟨rfl, ht_, T1, E1⟩ := hQ; subst ht_
  show J_ Γ 584 (lw_lv i) [vi (p_.1), vi (p.1)] _ k n
  have hf_ : (if p.1 = p_.1 then some () else some ()) = some () := by split <;> rfl
  refine J_icmp_eq (t := 1772) (q := 587) C0 dL_law_584 (by decide) rfl hf_ (fun _ _ => ?_) (fun c_ _ => absurd he c_)
  exact J_widen (by omega) (by omega) (kk _ hI2 ⟨T1, E1.at (E0.at (hB.2.1)), E1.at (E0.at (hB.2.2.1)), E1.at (E0.at (hB.2.2.2.1)), (by rw [(E1.2 370 (E0.at (hB.2.2.2.1)).1).2]; exact (by rw [(E0.2 370 (hB.2.2.2.1).1).2]; exact hB.2.2.2.2))⟩)
def so_flash (Inv : Sg → Prop) (N : Nat) : Prop := ∀ (x1 : Int32) (σ : Sg), Inv σ → ∃ p q, f_X11_flash N 0 x1 σ = some p ∧ f_X12_flash N 344 x1 p.2 = some q ∧ p.1 = q.1 ∧ Inv q.2
set_option maxHeartbeats 4000000 in
set_option maxRecDepth 100000 in
theorem lw_c10 {Γ : Gm} {b L : Nat} {xs : Nat → Int32} (C : CLw Γ b L xs) {Inv : Sg → Prop} {N : Nat} (so : so_flash Inv N) {σ : Sg} (hI : Inv σ) (hB : lw_B σ) {i : Int32} (hi : ¬ i < 0 ∧ i.toNatClampNeg + 6 ≤ L) (hL : L ≤ 3072) {k n : Nat} (hk : k + 3 ≤ 601024) (hn : n + 800 ≤ 7293034) (kk : ∀ τ, Inv τ → lw_B τ → J_ Γ 1772 (lw_lv i) [] τ (k + 3) (n + 800)) : J_ Γ 589 (lw_lv i) [] σ k n := by
  have C0 := C.1
  refine J_aload_n (q := 590) C0 1 rfl rfl dL_law_589 rfl trivial ?_
  refine J_aload_n (q := 591) C0 0 rfl rfl dL_law_590 rfl trivial ?_
  refine J_iload (q := 593) C0 4 rfl dL_law_591 rfl ?_
  refine J_iconst (q := 594) (v := 1) C0 dL_law_593 rfl rfl ?_
  refine J_iadd (q := 595) C0 dL_law_594 rfl ?_
  refine J_sld (q := 596) C (lw_ix hi.1 hi.2 hL (by decide)) dL_law_595 rfl ?_
  obtain ⟨p, p_, hp, hq, he, hI2⟩ := so (xs (i + 1).toNatClampNeg) σ hI
  refine J_callV (q := 599) (ci := 10) (as := [vi (xs (i + 1).toNatClampNeg)]) (rest := []) C0 rfl (hB.2.1) (t_X11_flash N 0 (xs (i + 1).toNatClampNeg) (hB.1) (hB.2.1) hp) ml_X11_flash lk_L_68 im_X11_flash se_X11_flash rfl (by decide) dL_law_596 rfl rfl rfl (by simp [ac_]) C.room (Nat.le_of_ble_eq_true rfl) (Nat.le_of_ble_eq_true rfl) (by omega) (by omega) (fun r_ τ_ hQ => ?_)
  obtain ⟨rfl, ht_, T0, E0⟩ := hQ; subst ht_
  show J_ Γ 599 (lw_lv i) [vi (p.1)] _ k n
  refine J_aload_n (q := 600) C0 2 rfl rfl dL_law_599 rfl trivial ?_
  refine J_aload_n (q := 601) C0 0 rfl rfl dL_law_600 rfl trivial ?_
  refine J_iload (q := 603) C0 4 rfl dL_law_601 rfl ?_
  refine J_iconst (q := 604) (v := 1) C0 dL_law_603 rfl rfl ?_
  refine J_iadd (q := 605) C0 dL_law_604 rfl ?_
  refine J_sld (q := 606) C (lw_ix hi.1 hi.2 hL (by decide)) dL_law_605 rfl ?_
  refine J_callV (q := 609) (ci := 11) (as := [vi (xs (i + 1).toNatClampNeg)]) (rest := [vi (p.1)]) C0 rfl (E0.at (hB.2.2.1)) (t_X12_flash N 344 (xs (i + 1).toNatClampNeg) (T0) (E0.at (hB.2.2.1)) hq) ml_X12_flash lk_L_71 im_X12_flash se_X12_flash rfl (by decide) dL_law_606 rfl rfl rfl (by simp [ac_]) C.room (Nat.le_of_ble_eq_true rfl) (Nat.le_of_ble_eq_true rfl) (by omega) (by omega) (fun r_ τ_ hQ => ?_)
  obtain ⟨rfl, ht_, T1, E1⟩ := hQ; subst ht_
  show J_ Γ 609 (lw_lv i) [vi (p_.1), vi (p.1)] _ k n
  have hf_ : (if p.1 = p_.1 then some () else some ()) = some () := by split <;> rfl
  refine J_icmp_eq (t := 1772) (q := 612) C0 dL_law_609 (by decide) rfl hf_ (fun _ _ => ?_) (fun c_ _ => absurd he c_)
  exact J_widen (by omega) (by omega) (kk _ hI2 ⟨T1, E1.at (E0.at (hB.2.1)), E1.at (E0.at (hB.2.2.1)), E1.at (E0.at (hB.2.2.2.1)), (by rw [(E1.2 370 (E0.at (hB.2.2.2.1)).1).2]; exact (by rw [(E0.2 370 (hB.2.2.2.1).1).2]; exact hB.2.2.2.2))⟩)
def so_speed (Inv : Sg → Prop) (N : Nat) : Prop := ∀ (x1 : Int32) (x2 : Int32) (σ : Sg), Inv σ → ∃ p q, f_X11_speed N 0 x1 x2 σ = some p ∧ f_X12_speed N 344 x1 x2 p.2 = some q ∧ p.1 = q.1 ∧ Inv q.2
set_option maxHeartbeats 4000000 in
set_option maxRecDepth 100000 in
theorem lw_c11 {Γ : Gm} {b L : Nat} {xs : Nat → Int32} (C : CLw Γ b L xs) {Inv : Sg → Prop} {N : Nat} (so : so_speed Inv N) {σ : Sg} (hI : Inv σ) (hB : lw_B σ) {i : Int32} (hi : ¬ i < 0 ∧ i.toNatClampNeg + 6 ≤ L) (hL : L ≤ 3072) {k n : Nat} (hk : k + 3 ≤ 601024) (hn : n + 800 ≤ 7293034) (kk : ∀ τ, Inv τ → lw_B τ → J_ Γ 1772 (lw_lv i) [] τ (k + 3) (n + 800)) : J_ Γ 614 (lw_lv i) [] σ k n := by
  have C0 := C.1
  refine J_aload_n (q := 615) C0 1 rfl rfl dL_law_614 rfl trivial ?_
  refine J_aload_n (q := 616) C0 0 rfl rfl dL_law_615 rfl trivial ?_
  refine J_iload (q := 618) C0 4 rfl dL_law_616 rfl ?_
  refine J_iconst (q := 619) (v := 1) C0 dL_law_618 rfl rfl ?_
  refine J_iadd (q := 620) C0 dL_law_619 rfl ?_
  refine J_sld (q := 621) C (lw_ix hi.1 hi.2 hL (by decide)) dL_law_620 rfl ?_
  refine J_aload_n (q := 622) C0 0 rfl rfl dL_law_621 rfl trivial ?_
  refine J_iload (q := 624) C0 4 rfl dL_law_622 rfl ?_
  refine J_iconst (q := 625) (v := 2) C0 dL_law_624 rfl rfl ?_
  refine J_iadd (q := 626) C0 dL_law_625 rfl ?_
  refine J_sld (q := 627) C (lw_ix hi.1 hi.2 hL (by decide)) dL_law_626 rfl ?_
  obtain ⟨p, p_, hp, hq, he, hI2⟩ := so (xs (i + 1).toNatClampNeg) (xs (i + 2).toNatClampNeg) σ hI
  refine J_callV (q := 630) (ci := 10) (as := [vi (xs (i + 1).toNatClampNeg), vi (xs (i + 2).toNatClampNeg)]) (rest := []) C0 rfl (hB.2.1) (t_X11_speed N 0 (xs (i + 1).toNatClampNeg) (xs (i + 2).toNatClampNeg) (hB.1) (hB.2.1) hp) ml_X11_speed lk_L_72 im_X11_speed se_X11_speed rfl (by decide) dL_law_627 rfl rfl rfl (by simp [ac_]) C.room (Nat.le_of_ble_eq_true rfl) (Nat.le_of_ble_eq_true rfl) (by omega) (by omega) (fun r_ τ_ hQ => ?_)
  obtain ⟨rfl, ht_, T0, E0⟩ := hQ; subst ht_
  show J_ Γ 630 (lw_lv i) [vi (p.1)] _ k n
  refine J_aload_n (q := 631) C0 2 rfl rfl dL_law_630 rfl trivial ?_
  refine J_aload_n (q := 632) C0 0 rfl rfl dL_law_631 rfl trivial ?_
  refine J_iload (q := 634) C0 4 rfl dL_law_632 rfl ?_
  refine J_iconst (q := 635) (v := 1) C0 dL_law_634 rfl rfl ?_
  refine J_iadd (q := 636) C0 dL_law_635 rfl ?_
  refine J_sld (q := 637) C (lw_ix hi.1 hi.2 hL (by decide)) dL_law_636 rfl ?_
  refine J_aload_n (q := 638) C0 0 rfl rfl dL_law_637 rfl trivial ?_
  refine J_iload (q := 640) C0 4 rfl dL_law_638 rfl ?_
  refine J_iconst (q := 641) (v := 2) C0 dL_law_640 rfl rfl ?_
  refine J_iadd (q := 642) C0 dL_law_641 rfl ?_
  refine J_sld (q := 643) C (lw_ix hi.1 hi.2 hL (by decide)) dL_law_642 rfl ?_
  refine J_callV (q := 646) (ci := 11) (as := [vi (xs (i + 1).toNatClampNeg), vi (xs (i + 2).toNatClampNeg)]) (rest := [vi (p.1)]) C0 rfl (E0.at (hB.2.2.1)) (t_X12_speed N 344 (xs (i + 1).toNatClampNeg) (xs (i + 2).toNatClampNeg) (T0) (E0.at (hB.2.2.1)) hq) ml_X12_speed lk_L_75 im_X12_speed se_X12_speed rfl (by decide) dL_law_643 rfl rfl rfl (by simp [ac_]) C.room (Nat.le_of_ble_eq_true rfl) (Nat.le_of_ble_eq_true rfl) (by omega) (by omega) (fun r_ τ_ hQ => ?_)
  obtain ⟨rfl, ht_, T1, E1⟩ := hQ; subst ht_
  show J_ Γ 646 (lw_lv i) [vi (p_.1), vi (p.1)] _ k n
  have hf_ : (if p.1 = p_.1 then some () else some ()) = some () := by split <;> rfl
  refine J_icmp_eq (t := 1772) (q := 649) C0 dL_law_646 (by decide) rfl hf_ (fun _ _ => ?_) (fun c_ _ => absurd he c_)
  exact J_widen (by omega) (by omega) (kk _ hI2 ⟨T1, E1.at (E0.at (hB.2.1)), E1.at (E0.at (hB.2.2.1)), E1.at (E0.at (hB.2.2.2.1)), (by rw [(E1.2 370 (E0.at (hB.2.2.2.1)).1).2]; exact (by rw [(E0.2 370 (hB.2.2.2.1).1).2]; exact hB.2.2.2.2))⟩)
def so_about (Inv : Sg → Prop) (N : Nat) : Prop := ∀ (x1 : Int32) (σ : Sg), Inv σ → ∃ p q, f_X11_about N 0 x1 σ = some p ∧ f_X12_about N 344 x1 p.2 = some q ∧ p.1 = q.1 ∧ Inv q.2
set_option maxHeartbeats 4000000 in
set_option maxRecDepth 100000 in
theorem lw_c12 {Γ : Gm} {b L : Nat} {xs : Nat → Int32} (C : CLw Γ b L xs) {Inv : Sg → Prop} {N : Nat} (so : so_about Inv N) {σ : Sg} (hI : Inv σ) (hB : lw_B σ) {i : Int32} (hi : ¬ i < 0 ∧ i.toNatClampNeg + 6 ≤ L) (hL : L ≤ 3072) {k n : Nat} (hk : k + 3 ≤ 601024) (hn : n + 800 ≤ 7293034) (kk : ∀ τ, Inv τ → lw_B τ → J_ Γ 1772 (lw_lv i) [] τ (k + 3) (n + 800)) : J_ Γ 651 (lw_lv i) [] σ k n := by
  have C0 := C.1
  refine J_aload_n (q := 652) C0 1 rfl rfl dL_law_651 rfl trivial ?_
  refine J_aload_n (q := 653) C0 0 rfl rfl dL_law_652 rfl trivial ?_
  refine J_iload (q := 655) C0 4 rfl dL_law_653 rfl ?_
  refine J_iconst (q := 656) (v := 1) C0 dL_law_655 rfl rfl ?_
  refine J_iadd (q := 657) C0 dL_law_656 rfl ?_
  refine J_sld (q := 658) C (lw_ix hi.1 hi.2 hL (by decide)) dL_law_657 rfl ?_
  obtain ⟨p, p_, hp, hq, he, hI2⟩ := so (xs (i + 1).toNatClampNeg) σ hI
  refine J_callV (q := 661) (ci := 10) (as := [vi (xs (i + 1).toNatClampNeg)]) (rest := []) C0 rfl (hB.2.1) (t_X11_about N 0 (xs (i + 1).toNatClampNeg) (hB.1) (hB.2.1) hp) ml_X11_about lk_L_76 im_X11_about se_X11_about rfl (by decide) dL_law_658 rfl rfl rfl (by simp [ac_]) C.room (Nat.le_of_ble_eq_true rfl) (Nat.le_of_ble_eq_true rfl) (by omega) (by omega) (fun r_ τ_ hQ => ?_)
  obtain ⟨rfl, ht_, T0, E0⟩ := hQ; subst ht_
  show J_ Γ 661 (lw_lv i) [vi (p.1)] _ k n
  refine J_aload_n (q := 662) C0 2 rfl rfl dL_law_661 rfl trivial ?_
  refine J_aload_n (q := 663) C0 0 rfl rfl dL_law_662 rfl trivial ?_
  refine J_iload (q := 665) C0 4 rfl dL_law_663 rfl ?_
  refine J_iconst (q := 666) (v := 1) C0 dL_law_665 rfl rfl ?_
  refine J_iadd (q := 667) C0 dL_law_666 rfl ?_
  refine J_sld (q := 668) C (lw_ix hi.1 hi.2 hL (by decide)) dL_law_667 rfl ?_
  refine J_callV (q := 671) (ci := 11) (as := [vi (xs (i + 1).toNatClampNeg)]) (rest := [vi (p.1)]) C0 rfl (E0.at (hB.2.2.1)) (t_X12_about N 344 (xs (i + 1).toNatClampNeg) (T0) (E0.at (hB.2.2.1)) hq) ml_X12_about lk_L_79 im_X12_about se_X12_about rfl (by decide) dL_law_668 rfl rfl rfl (by simp [ac_]) C.room (Nat.le_of_ble_eq_true rfl) (Nat.le_of_ble_eq_true rfl) (by omega) (by omega) (fun r_ τ_ hQ => ?_)
  obtain ⟨rfl, ht_, T1, E1⟩ := hQ; subst ht_
  show J_ Γ 671 (lw_lv i) [vi (p_.1), vi (p.1)] _ k n
  have hf_ : (if p.1 = p_.1 then some () else some ()) = some () := by split <;> rfl
  refine J_icmp_eq (t := 1772) (q := 674) C0 dL_law_671 (by decide) rfl hf_ (fun _ _ => ?_) (fun c_ _ => absurd he c_)
  exact J_widen (by omega) (by omega) (kk _ hI2 ⟨T1, E1.at (E0.at (hB.2.1)), E1.at (E0.at (hB.2.2.1)), E1.at (E0.at (hB.2.2.2.1)), (by rw [(E1.2 370 (E0.at (hB.2.2.2.1)).1).2]; exact (by rw [(E0.2 370 (hB.2.2.2.1).1).2]; exact hB.2.2.2.2))⟩)
def so_push (Inv : Sg → Prop) (N : Nat) : Prop := ∀ (x1 : Int32) (x2 : Int32) (σ : Sg), Inv σ → ∃ p q, f_X11_push N 0 x1 x2 σ = some p ∧ f_X12_push N 344 x1 x2 p.2 = some q ∧ p.1 = q.1 ∧ Inv q.2
set_option maxHeartbeats 4000000 in
set_option maxRecDepth 100000 in
theorem lw_c13 {Γ : Gm} {b L : Nat} {xs : Nat → Int32} (C : CLw Γ b L xs) {Inv : Sg → Prop} {N : Nat} (so : so_push Inv N) {σ : Sg} (hI : Inv σ) (hB : lw_B σ) {i : Int32} (hi : ¬ i < 0 ∧ i.toNatClampNeg + 6 ≤ L) (hL : L ≤ 3072) {k n : Nat} (hk : k + 3 ≤ 601024) (hn : n + 800 ≤ 7293034) (kk : ∀ τ, Inv τ → lw_B τ → J_ Γ 1772 (lw_lv i) [] τ (k + 3) (n + 800)) : J_ Γ 676 (lw_lv i) [] σ k n := by
  have C0 := C.1
  refine J_aload_n (q := 677) C0 1 rfl rfl dL_law_676 rfl trivial ?_
  refine J_aload_n (q := 678) C0 0 rfl rfl dL_law_677 rfl trivial ?_
  refine J_iload (q := 680) C0 4 rfl dL_law_678 rfl ?_
  refine J_iconst (q := 681) (v := 1) C0 dL_law_680 rfl rfl ?_
  refine J_iadd (q := 682) C0 dL_law_681 rfl ?_
  refine J_sld (q := 683) C (lw_ix hi.1 hi.2 hL (by decide)) dL_law_682 rfl ?_
  refine J_aload_n (q := 684) C0 0 rfl rfl dL_law_683 rfl trivial ?_
  refine J_iload (q := 686) C0 4 rfl dL_law_684 rfl ?_
  refine J_iconst (q := 687) (v := 2) C0 dL_law_686 rfl rfl ?_
  refine J_iadd (q := 688) C0 dL_law_687 rfl ?_
  refine J_sld (q := 689) C (lw_ix hi.1 hi.2 hL (by decide)) dL_law_688 rfl ?_
  obtain ⟨p, p_, hp, hq, he, hI2⟩ := so (xs (i + 1).toNatClampNeg) (xs (i + 2).toNatClampNeg) σ hI
  refine J_callV (q := 692) (ci := 10) (as := [vi (xs (i + 1).toNatClampNeg), vi (xs (i + 2).toNatClampNeg)]) (rest := []) C0 rfl (hB.2.1) (t_X11_push N 0 (xs (i + 1).toNatClampNeg) (xs (i + 2).toNatClampNeg) (hB.1) (hB.2.1) hp) ml_X11_push lk_L_80 im_X11_push se_X11_push rfl (by decide) dL_law_689 rfl rfl rfl (by simp [ac_]) C.room (Nat.le_of_ble_eq_true rfl) (Nat.le_of_ble_eq_true rfl) (by omega) (by omega) (fun r_ τ_ hQ => ?_)
  obtain ⟨rfl, ht_, T0, E0⟩ := hQ; subst ht_
  show J_ Γ 692 (lw_lv i) [vi (p.1)] _ k n
  refine J_aload_n (q := 693) C0 2 rfl rfl dL_law_692 rfl trivial ?_
  refine J_aload_n (q := 694) C0 0 rfl rfl dL_law_693 rfl trivial ?_
  refine J_iload (q := 696) C0 4 rfl dL_law_694 rfl ?_
  refine J_iconst (q := 697) (v := 1) C0 dL_law_696 rfl rfl ?_
  refine J_iadd (q := 698) C0 dL_law_697 rfl ?_
  refine J_sld (q := 699) C (lw_ix hi.1 hi.2 hL (by decide)) dL_law_698 rfl ?_
  refine J_aload_n (q := 700) C0 0 rfl rfl dL_law_699 rfl trivial ?_
  refine J_iload (q := 702) C0 4 rfl dL_law_700 rfl ?_
  refine J_iconst (q := 703) (v := 2) C0 dL_law_702 rfl rfl ?_
  refine J_iadd (q := 704) C0 dL_law_703 rfl ?_
  refine J_sld (q := 705) C (lw_ix hi.1 hi.2 hL (by decide)) dL_law_704 rfl ?_
  refine J_callV (q := 708) (ci := 11) (as := [vi (xs (i + 1).toNatClampNeg), vi (xs (i + 2).toNatClampNeg)]) (rest := [vi (p.1)]) C0 rfl (E0.at (hB.2.2.1)) (t_X12_push N 344 (xs (i + 1).toNatClampNeg) (xs (i + 2).toNatClampNeg) (T0) (E0.at (hB.2.2.1)) hq) ml_X12_push lk_L_83 im_X12_push se_X12_push rfl (by decide) dL_law_705 rfl rfl rfl (by simp [ac_]) C.room (Nat.le_of_ble_eq_true rfl) (Nat.le_of_ble_eq_true rfl) (by omega) (by omega) (fun r_ τ_ hQ => ?_)
  obtain ⟨rfl, ht_, T1, E1⟩ := hQ; subst ht_
  show J_ Γ 708 (lw_lv i) [vi (p_.1), vi (p.1)] _ k n
  have hf_ : (if p.1 = p_.1 then some () else some ()) = some () := by split <;> rfl
  refine J_icmp_eq (t := 1772) (q := 711) C0 dL_law_708 (by decide) rfl hf_ (fun _ _ => ?_) (fun c_ _ => absurd he c_)
  exact J_widen (by omega) (by omega) (kk _ hI2 ⟨T1, E1.at (E0.at (hB.2.1)), E1.at (E0.at (hB.2.2.1)), E1.at (E0.at (hB.2.2.2.1)), (by rw [(E1.2 370 (E0.at (hB.2.2.2.1)).1).2]; exact (by rw [(E0.2 370 (hB.2.2.2.1).1).2]; exact hB.2.2.2.2))⟩)
def so_puts (Inv : Sg → Prop) (N : Nat) : Prop := ∀ (x1 : Int32) (x2 : Int32) (σ : Sg), Inv σ → ∃ p q, f_X11_puts N 0 x1 x2 σ = some p ∧ f_X12_puts N 344 x1 x2 p.2 = some q ∧ p.1 = q.1 ∧ Inv q.2
set_option maxHeartbeats 4000000 in
set_option maxRecDepth 100000 in
theorem lw_c14 {Γ : Gm} {b L : Nat} {xs : Nat → Int32} (C : CLw Γ b L xs) {Inv : Sg → Prop} {N : Nat} (so : so_puts Inv N) {σ : Sg} (hI : Inv σ) (hB : lw_B σ) {i : Int32} (hi : ¬ i < 0 ∧ i.toNatClampNeg + 6 ≤ L) (hL : L ≤ 3072) {k n : Nat} (hk : k + 3 ≤ 601024) (hn : n + 800 ≤ 7293034) (kk : ∀ τ, Inv τ → lw_B τ → J_ Γ 1772 (lw_lv i) [] τ (k + 3) (n + 800)) : J_ Γ 713 (lw_lv i) [] σ k n := by
  have C0 := C.1
  refine J_aload_n (q := 714) C0 1 rfl rfl dL_law_713 rfl trivial ?_
  refine J_aload_n (q := 715) C0 0 rfl rfl dL_law_714 rfl trivial ?_
  refine J_iload (q := 717) C0 4 rfl dL_law_715 rfl ?_
  refine J_iconst (q := 718) (v := 1) C0 dL_law_717 rfl rfl ?_
  refine J_iadd (q := 719) C0 dL_law_718 rfl ?_
  refine J_sld (q := 720) C (lw_ix hi.1 hi.2 hL (by decide)) dL_law_719 rfl ?_
  refine J_aload_n (q := 721) C0 0 rfl rfl dL_law_720 rfl trivial ?_
  refine J_iload (q := 723) C0 4 rfl dL_law_721 rfl ?_
  refine J_iconst (q := 724) (v := 2) C0 dL_law_723 rfl rfl ?_
  refine J_iadd (q := 725) C0 dL_law_724 rfl ?_
  refine J_sld (q := 726) C (lw_ix hi.1 hi.2 hL (by decide)) dL_law_725 rfl ?_
  obtain ⟨p, p_, hp, hq, he, hI2⟩ := so (xs (i + 1).toNatClampNeg) (xs (i + 2).toNatClampNeg) σ hI
  refine J_callV (q := 729) (ci := 10) (as := [vi (xs (i + 1).toNatClampNeg), vi (xs (i + 2).toNatClampNeg)]) (rest := []) C0 rfl (hB.2.1) (t_X11_puts N 0 (xs (i + 1).toNatClampNeg) (xs (i + 2).toNatClampNeg) (hB.1) (hB.2.1) hp) ml_X11_puts lk_L_84 im_X11_puts se_X11_puts rfl (by decide) dL_law_726 rfl rfl rfl (by simp [ac_]) C.room (Nat.le_of_ble_eq_true rfl) (Nat.le_of_ble_eq_true rfl) (by omega) (by omega) (fun r_ τ_ hQ => ?_)
  obtain ⟨rfl, ht_, T0, E0⟩ := hQ; subst ht_
  show J_ Γ 729 (lw_lv i) [vi (p.1)] _ k n
  refine J_aload_n (q := 730) C0 2 rfl rfl dL_law_729 rfl trivial ?_
  refine J_aload_n (q := 731) C0 0 rfl rfl dL_law_730 rfl trivial ?_
  refine J_iload (q := 733) C0 4 rfl dL_law_731 rfl ?_
  refine J_iconst (q := 734) (v := 1) C0 dL_law_733 rfl rfl ?_
  refine J_iadd (q := 735) C0 dL_law_734 rfl ?_
  refine J_sld (q := 736) C (lw_ix hi.1 hi.2 hL (by decide)) dL_law_735 rfl ?_
  refine J_aload_n (q := 737) C0 0 rfl rfl dL_law_736 rfl trivial ?_
  refine J_iload (q := 739) C0 4 rfl dL_law_737 rfl ?_
  refine J_iconst (q := 740) (v := 2) C0 dL_law_739 rfl rfl ?_
  refine J_iadd (q := 741) C0 dL_law_740 rfl ?_
  refine J_sld (q := 742) C (lw_ix hi.1 hi.2 hL (by decide)) dL_law_741 rfl ?_
  refine J_callV (q := 745) (ci := 11) (as := [vi (xs (i + 1).toNatClampNeg), vi (xs (i + 2).toNatClampNeg)]) (rest := [vi (p.1)]) C0 rfl (E0.at (hB.2.2.1)) (t_X12_puts N 344 (xs (i + 1).toNatClampNeg) (xs (i + 2).toNatClampNeg) (T0) (E0.at (hB.2.2.1)) hq) ml_X12_puts lk_L_87 im_X12_puts se_X12_puts rfl (by decide) dL_law_742 rfl rfl rfl (by simp [ac_]) C.room (Nat.le_of_ble_eq_true rfl) (Nat.le_of_ble_eq_true rfl) (by omega) (by omega) (fun r_ τ_ hQ => ?_)
  obtain ⟨rfl, ht_, T1, E1⟩ := hQ; subst ht_
  show J_ Γ 745 (lw_lv i) [vi (p_.1), vi (p.1)] _ k n
  have hf_ : (if p.1 = p_.1 then some () else some ()) = some () := by split <;> rfl
  refine J_icmp_eq (t := 1772) (q := 748) C0 dL_law_745 (by decide) rfl hf_ (fun _ _ => ?_) (fun c_ _ => absurd he c_)
  exact J_widen (by omega) (by omega) (kk _ hI2 ⟨T1, E1.at (E0.at (hB.2.1)), E1.at (E0.at (hB.2.2.1)), E1.at (E0.at (hB.2.2.2.1)), (by rw [(E1.2 370 (E0.at (hB.2.2.2.1)).1).2]; exact (by rw [(E0.2 370 (hB.2.2.2.1).1).2]; exact hB.2.2.2.2))⟩)
def so_oil (Inv : Sg → Prop) (N : Nat) : Prop := ∀ (x1 : Int32) (σ : Sg), Inv σ → ∃ p q, f_X11_oil N 0 x1 σ = some p ∧ f_X12_oil N 344 x1 p.2 = some q ∧ p.1 = q.1 ∧ Inv q.2
set_option maxHeartbeats 4000000 in
set_option maxRecDepth 100000 in
theorem lw_c15 {Γ : Gm} {b L : Nat} {xs : Nat → Int32} (C : CLw Γ b L xs) {Inv : Sg → Prop} {N : Nat} (so : so_oil Inv N) {σ : Sg} (hI : Inv σ) (hB : lw_B σ) {i : Int32} (hi : ¬ i < 0 ∧ i.toNatClampNeg + 6 ≤ L) (hL : L ≤ 3072) {k n : Nat} (hk : k + 3 ≤ 601024) (hn : n + 800 ≤ 7293034) (kk : ∀ τ, Inv τ → lw_B τ → J_ Γ 1772 (lw_lv i) [] τ (k + 3) (n + 800)) : J_ Γ 750 (lw_lv i) [] σ k n := by
  have C0 := C.1
  refine J_aload_n (q := 751) C0 1 rfl rfl dL_law_750 rfl trivial ?_
  refine J_aload_n (q := 752) C0 0 rfl rfl dL_law_751 rfl trivial ?_
  refine J_iload (q := 754) C0 4 rfl dL_law_752 rfl ?_
  refine J_iconst (q := 755) (v := 1) C0 dL_law_754 rfl rfl ?_
  refine J_iadd (q := 756) C0 dL_law_755 rfl ?_
  refine J_sld (q := 757) C (lw_ix hi.1 hi.2 hL (by decide)) dL_law_756 rfl ?_
  obtain ⟨p, p_, hp, hq, he, hI2⟩ := so (xs (i + 1).toNatClampNeg) σ hI
  refine J_callV (q := 760) (ci := 10) (as := [vi (xs (i + 1).toNatClampNeg)]) (rest := []) C0 rfl (hB.2.1) (t_X11_oil N 0 (xs (i + 1).toNatClampNeg) (hB.1) (hB.2.1) hp) ml_X11_oil lk_L_88 im_X11_oil se_X11_oil rfl (by decide) dL_law_757 rfl rfl rfl (by simp [ac_]) C.room (Nat.le_of_ble_eq_true rfl) (Nat.le_of_ble_eq_true rfl) (by omega) (by omega) (fun r_ τ_ hQ => ?_)
  obtain ⟨rfl, ht_, T0, E0⟩ := hQ; subst ht_
  show J_ Γ 760 (lw_lv i) [vi (p.1)] _ k n
  refine J_aload_n (q := 761) C0 2 rfl rfl dL_law_760 rfl trivial ?_
  refine J_aload_n (q := 762) C0 0 rfl rfl dL_law_761 rfl trivial ?_
  refine J_iload (q := 764) C0 4 rfl dL_law_762 rfl ?_
  refine J_iconst (q := 765) (v := 1) C0 dL_law_764 rfl rfl ?_
  refine J_iadd (q := 766) C0 dL_law_765 rfl ?_
  refine J_sld (q := 767) C (lw_ix hi.1 hi.2 hL (by decide)) dL_law_766 rfl ?_
  refine J_callV (q := 770) (ci := 11) (as := [vi (xs (i + 1).toNatClampNeg)]) (rest := [vi (p.1)]) C0 rfl (E0.at (hB.2.2.1)) (t_X12_oil N 344 (xs (i + 1).toNatClampNeg) (T0) (E0.at (hB.2.2.1)) hq) ml_X12_oil lk_L_91 im_X12_oil se_X12_oil rfl (by decide) dL_law_767 rfl rfl rfl (by simp [ac_]) C.room (Nat.le_of_ble_eq_true rfl) (Nat.le_of_ble_eq_true rfl) (by omega) (by omega) (fun r_ τ_ hQ => ?_)
  obtain ⟨rfl, ht_, T1, E1⟩ := hQ; subst ht_
  show J_ Γ 770 (lw_lv i) [vi (p_.1), vi (p.1)] _ k n
  have hf_ : (if p.1 = p_.1 then some () else some ()) = some () := by split <;> rfl
  refine J_icmp_eq (t := 1772) (q := 773) C0 dL_law_770 (by decide) rfl hf_ (fun _ _ => ?_) (fun c_ _ => absurd he c_)
  exact J_widen (by omega) (by omega) (kk _ hI2 ⟨T1, E1.at (E0.at (hB.2.1)), E1.at (E0.at (hB.2.2.1)), E1.at (E0.at (hB.2.2.2.1)), (by rw [(E1.2 370 (E0.at (hB.2.2.2.1)).1).2]; exact (by rw [(E0.2 370 (hB.2.2.2.1).1).2]; exact hB.2.2.2.2))⟩)
def so_give (Inv : Sg → Prop) (N : Nat) : Prop := ∀ (x1 : Int32) (σ : Sg), Inv σ → ∃ p q, f_X11_give N 0 x1 σ = some p ∧ f_X12_give N 344 x1 p.2 = some q ∧ p.1 = q.1 ∧ Inv q.2
set_option maxHeartbeats 4000000 in
set_option maxRecDepth 100000 in
theorem lw_c16 {Γ : Gm} {b L : Nat} {xs : Nat → Int32} (C : CLw Γ b L xs) {Inv : Sg → Prop} {N : Nat} (so : so_give Inv N) {σ : Sg} (hI : Inv σ) (hB : lw_B σ) {i : Int32} (hi : ¬ i < 0 ∧ i.toNatClampNeg + 6 ≤ L) (hL : L ≤ 3072) {k n : Nat} (hk : k + 3 ≤ 601024) (hn : n + 800 ≤ 7293034) (kk : ∀ τ, Inv τ → lw_B τ → J_ Γ 1772 (lw_lv i) [] τ (k + 3) (n + 800)) : J_ Γ 775 (lw_lv i) [] σ k n := by
  have C0 := C.1
  refine J_aload_n (q := 776) C0 1 rfl rfl dL_law_775 rfl trivial ?_
  refine J_aload_n (q := 777) C0 0 rfl rfl dL_law_776 rfl trivial ?_
  refine J_iload (q := 779) C0 4 rfl dL_law_777 rfl ?_
  refine J_iconst (q := 780) (v := 1) C0 dL_law_779 rfl rfl ?_
  refine J_iadd (q := 781) C0 dL_law_780 rfl ?_
  refine J_sld (q := 782) C (lw_ix hi.1 hi.2 hL (by decide)) dL_law_781 rfl ?_
  obtain ⟨p, p_, hp, hq, he, hI2⟩ := so (xs (i + 1).toNatClampNeg) σ hI
  refine J_callV (q := 785) (ci := 10) (as := [vi (xs (i + 1).toNatClampNeg)]) (rest := []) C0 rfl (hB.2.1) (t_X11_give N 0 (xs (i + 1).toNatClampNeg) (hB.1) (hB.2.1) hp) ml_X11_give lk_L_92 im_X11_give se_X11_give rfl (by decide) dL_law_782 rfl rfl rfl (by simp [ac_]) C.room (Nat.le_of_ble_eq_true rfl) (Nat.le_of_ble_eq_true rfl) (by omega) (by omega) (fun r_ τ_ hQ => ?_)
  obtain ⟨rfl, ht_, T0, E0⟩ := hQ; subst ht_
  show J_ Γ 785 (lw_lv i) [vi (p.1)] _ k n
  refine J_aload_n (q := 786) C0 2 rfl rfl dL_law_785 rfl trivial ?_
  refine J_aload_n (q := 787) C0 0 rfl rfl dL_law_786 rfl trivial ?_
  refine J_iload (q := 789) C0 4 rfl dL_law_787 rfl ?_
  refine J_iconst (q := 790) (v := 1) C0 dL_law_789 rfl rfl ?_
  refine J_iadd (q := 791) C0 dL_law_790 rfl ?_
  refine J_sld (q := 792) C (lw_ix hi.1 hi.2 hL (by decide)) dL_law_791 rfl ?_
  refine J_callV (q := 795) (ci := 11) (as := [vi (xs (i + 1).toNatClampNeg)]) (rest := [vi (p.1)]) C0 rfl (E0.at (hB.2.2.1)) (t_X12_give N 344 (xs (i + 1).toNatClampNeg) (T0) (E0.at (hB.2.2.1)) hq) ml_X12_give lk_L_95 im_X12_give se_X12_give rfl (by decide) dL_law_792 rfl rfl rfl (by simp [ac_]) C.room (Nat.le_of_ble_eq_true rfl) (Nat.le_of_ble_eq_true rfl) (by omega) (by omega) (fun r_ τ_ hQ => ?_)
  obtain ⟨rfl, ht_, T1, E1⟩ := hQ; subst ht_
  show J_ Γ 795 (lw_lv i) [vi (p_.1), vi (p.1)] _ k n
  have hf_ : (if p.1 = p_.1 then some () else some ()) = some () := by split <;> rfl
  refine J_icmp_eq (t := 1772) (q := 798) C0 dL_law_795 (by decide) rfl hf_ (fun _ _ => ?_) (fun c_ _ => absurd he c_)
  exact J_widen (by omega) (by omega) (kk _ hI2 ⟨T1, E1.at (E0.at (hB.2.1)), E1.at (E0.at (hB.2.2.1)), E1.at (E0.at (hB.2.2.2.1)), (by rw [(E1.2 370 (E0.at (hB.2.2.2.1)).1).2]; exact (by rw [(E0.2 370 (hB.2.2.2.1).1).2]; exact hB.2.2.2.2))⟩)
def so_years (Inv : Sg → Prop) (N : Nat) : Prop := ∀ (x1 : Int32) (x2 : Int64) (σ : Sg), Inv σ → ∃ p q, f_X11_years N 0 x1 x2 σ = some p ∧ f_X12_years N 344 x1 x2 p.2 = some q ∧ p.1 = q.1 ∧ Inv q.2
set_option maxHeartbeats 4000000 in
set_option maxRecDepth 100000 in
theorem lw_c17 {Γ : Gm} {b L : Nat} {xs : Nat → Int32} (C : CLw Γ b L xs) {Inv : Sg → Prop} {N : Nat} (so : so_years Inv N) {σ : Sg} (hI : Inv σ) (hB : lw_B σ) {i : Int32} (hi : ¬ i < 0 ∧ i.toNatClampNeg + 6 ≤ L) (hL : L ≤ 3072) {k n : Nat} (hk : k + 3 ≤ 601024) (hn : n + 800 ≤ 7293034) (kk : ∀ τ, Inv τ → lw_B τ → J_ Γ 1772 (lw_lv i) [] τ (k + 3) (n + 800)) : J_ Γ 800 (lw_lv i) [] σ k n := by
  have C0 := C.1
  refine J_aload_n (q := 801) C0 1 rfl rfl dL_law_800 rfl trivial ?_
  refine J_aload_n (q := 802) C0 0 rfl rfl dL_law_801 rfl trivial ?_
  refine J_iload (q := 804) C0 4 rfl dL_law_802 rfl ?_
  refine J_iconst (q := 805) (v := 1) C0 dL_law_804 rfl rfl ?_
  refine J_iadd (q := 806) C0 dL_law_805 rfl ?_
  refine J_sld (q := 807) C (lw_ix hi.1 hi.2 hL (by decide)) dL_law_806 rfl ?_
  refine J_aload_n (q := 808) C0 0 rfl rfl dL_law_807 rfl trivial ?_
  refine J_iload (q := 810) C0 4 rfl dL_law_808 rfl ?_
  refine J_iconst (q := 811) (v := 2) C0 dL_law_810 rfl rfl ?_
  refine J_iadd (q := 812) C0 dL_law_811 rfl ?_
  refine J_sld (q := 813) C (lw_ix hi.1 hi.2 hL (by decide)) dL_law_812 rfl ?_
  refine J_i2l (q := 814) C0 dL_law_813 rfl ?_
  refine J_bipush (q := 816) (v := 32) C0 dL_law_814 rfl rfl ?_
  refine J_lshl (q := 817) (v := ((xs (i + 2).toNatClampNeg).toInt64) <<< ((32 : Int32).toInt64 &&& 63)) C0 dL_law_816 rfl rfl ?_
  refine J_aload_n (q := 818) C0 0 rfl rfl dL_law_817 rfl trivial ?_
  refine J_iload (q := 820) C0 4 rfl dL_law_818 rfl ?_
  refine J_iconst (q := 821) (v := 3) C0 dL_law_820 rfl rfl ?_
  refine J_iadd (q := 822) C0 dL_law_821 rfl ?_
  refine J_sld (q := 823) C (lw_ix hi.1 hi.2 hL (by decide)) dL_law_822 rfl ?_
  refine J_i2l (q := 824) C0 dL_law_823 rfl ?_
  refine J_ldc2_w (q := 827) C0 kc_L_96 dL_law_824 rfl ?_
  refine J_land (q := 828) C0 dL_law_827 rfl ?_
  refine J_lor (q := 829) C0 dL_law_828 rfl ?_
  obtain ⟨p, p_, hp, hq, he, hI2⟩ := so (xs (i + 1).toNatClampNeg) (((((xs (i + 2).toNatClampNeg).toInt64) <<< ((32 : Int32).toInt64 &&& 63)) ||| ((((xs (i + 3).toNatClampNeg).toInt64) &&& (4294967295))))) σ hI
  refine J_callV (q := 832) (ci := 10) (as := [vi (xs (i + 1).toNatClampNeg), vl (((((xs (i + 2).toNatClampNeg).toInt64) <<< ((32 : Int32).toInt64 &&& 63)) ||| ((((xs (i + 3).toNatClampNeg).toInt64) &&& (4294967295)))))]) (rest := []) C0 rfl (hB.2.1) (t_X11_years N 0 (xs (i + 1).toNatClampNeg) (((((xs (i + 2).toNatClampNeg).toInt64) <<< ((32 : Int32).toInt64 &&& 63)) ||| ((((xs (i + 3).toNatClampNeg).toInt64) &&& (4294967295))))) (hB.1) (hB.2.1) hp) ml_X11_years lk_L_98 im_X11_years se_X11_years rfl (by decide) dL_law_829 rfl rfl rfl (by simp [ac_]) C.room (Nat.le_of_ble_eq_true rfl) (Nat.le_of_ble_eq_true rfl) (by omega) (by omega) (fun r_ τ_ hQ => ?_)
  obtain ⟨rfl, ht_, T0, E0⟩ := hQ; subst ht_
  show J_ Γ 832 (lw_lv i) [vi (p.1)] _ k n
  refine J_aload_n (q := 833) C0 2 rfl rfl dL_law_832 rfl trivial ?_
  refine J_aload_n (q := 834) C0 0 rfl rfl dL_law_833 rfl trivial ?_
  refine J_iload (q := 836) C0 4 rfl dL_law_834 rfl ?_
  refine J_iconst (q := 837) (v := 1) C0 dL_law_836 rfl rfl ?_
  refine J_iadd (q := 838) C0 dL_law_837 rfl ?_
  refine J_sld (q := 839) C (lw_ix hi.1 hi.2 hL (by decide)) dL_law_838 rfl ?_
  refine J_aload_n (q := 840) C0 0 rfl rfl dL_law_839 rfl trivial ?_
  refine J_iload (q := 842) C0 4 rfl dL_law_840 rfl ?_
  refine J_iconst (q := 843) (v := 2) C0 dL_law_842 rfl rfl ?_
  refine J_iadd (q := 844) C0 dL_law_843 rfl ?_
  refine J_sld (q := 845) C (lw_ix hi.1 hi.2 hL (by decide)) dL_law_844 rfl ?_
  refine J_i2l (q := 846) C0 dL_law_845 rfl ?_
  refine J_bipush (q := 848) (v := 32) C0 dL_law_846 rfl rfl ?_
  refine J_lshl (q := 849) (v := ((xs (i + 2).toNatClampNeg).toInt64) <<< ((32 : Int32).toInt64 &&& 63)) C0 dL_law_848 rfl rfl ?_
  refine J_aload_n (q := 850) C0 0 rfl rfl dL_law_849 rfl trivial ?_
  refine J_iload (q := 852) C0 4 rfl dL_law_850 rfl ?_
  refine J_iconst (q := 853) (v := 3) C0 dL_law_852 rfl rfl ?_
  refine J_iadd (q := 854) C0 dL_law_853 rfl ?_
  refine J_sld (q := 855) C (lw_ix hi.1 hi.2 hL (by decide)) dL_law_854 rfl ?_
  refine J_i2l (q := 856) C0 dL_law_855 rfl ?_
  refine J_ldc2_w (q := 859) C0 kc_L_96 dL_law_856 rfl ?_
  refine J_land (q := 860) C0 dL_law_859 rfl ?_
  refine J_lor (q := 861) C0 dL_law_860 rfl ?_
  refine J_callV (q := 864) (ci := 11) (as := [vi (xs (i + 1).toNatClampNeg), vl (((((xs (i + 2).toNatClampNeg).toInt64) <<< ((32 : Int32).toInt64 &&& 63)) ||| ((((xs (i + 3).toNatClampNeg).toInt64) &&& (4294967295)))))]) (rest := [vi (p.1)]) C0 rfl (E0.at (hB.2.2.1)) (t_X12_years N 344 (xs (i + 1).toNatClampNeg) (((((xs (i + 2).toNatClampNeg).toInt64) <<< ((32 : Int32).toInt64 &&& 63)) ||| ((((xs (i + 3).toNatClampNeg).toInt64) &&& (4294967295))))) (T0) (E0.at (hB.2.2.1)) hq) ml_X12_years lk_L_102 im_X12_years se_X12_years rfl (by decide) dL_law_861 rfl rfl rfl (by simp [ac_]) C.room (Nat.le_of_ble_eq_true rfl) (Nat.le_of_ble_eq_true rfl) (by omega) (by omega) (fun r_ τ_ hQ => ?_)
  obtain ⟨rfl, ht_, T1, E1⟩ := hQ; subst ht_
  show J_ Γ 864 (lw_lv i) [vi (p_.1), vi (p.1)] _ k n
  have hf_ : (if p.1 = p_.1 then some () else some ()) = some () := by split <;> rfl
  refine J_icmp_eq (t := 1772) (q := 867) C0 dL_law_864 (by decide) rfl hf_ (fun _ _ => ?_) (fun c_ _ => absurd he c_)
  exact J_widen (by omega) (by omega) (kk _ hI2 ⟨T1, E1.at (E0.at (hB.2.1)), E1.at (E0.at (hB.2.2.1)), E1.at (E0.at (hB.2.2.2.1)), (by rw [(E1.2 370 (E0.at (hB.2.2.2.1)).1).2]; exact (by rw [(E0.2 370 (hB.2.2.2.1).1).2]; exact hB.2.2.2.2))⟩)
def so_status (Inv : Sg → Prop) (N : Nat) : Prop := ∀ (x1 : Int32) (σ : Sg), Inv σ → ∃ p q, f_X11_status 0 x1 σ = some p ∧ f_X12_status 344 x1 σ = some q ∧ p = q ∧ Inv σ
set_option maxHeartbeats 4000000 in
set_option maxRecDepth 100000 in
theorem lw_c18 {Γ : Gm} {b L : Nat} {xs : Nat → Int32} (C : CLw Γ b L xs) {Inv : Sg → Prop} {N : Nat} (so : so_status Inv N) {σ : Sg} (hI : Inv σ) (hB : lw_B σ) {i : Int32} (hi : ¬ i < 0 ∧ i.toNatClampNeg + 6 ≤ L) (hL : L ≤ 3072) {k n : Nat} (hk : k + 3 ≤ 601024) (hn : n + 800 ≤ 7293034) (kk : ∀ τ, Inv τ → lw_B τ → J_ Γ 1772 (lw_lv i) [] τ (k + 3) (n + 800)) : J_ Γ 869 (lw_lv i) [] σ k n := by
  have C0 := C.1
  refine J_aload_n (q := 870) C0 1 rfl rfl dL_law_869 rfl trivial ?_
  refine J_aload_n (q := 871) C0 0 rfl rfl dL_law_870 rfl trivial ?_
  refine J_iload (q := 873) C0 4 rfl dL_law_871 rfl ?_
  refine J_iconst (q := 874) (v := 1) C0 dL_law_873 rfl rfl ?_
  refine J_iadd (q := 875) C0 dL_law_874 rfl ?_
  refine J_sld (q := 876) C (lw_ix hi.1 hi.2 hL (by decide)) dL_law_875 rfl ?_
  obtain ⟨p, p_, hp, hq, he, hI2⟩ := so (xs (i + 1).toNatClampNeg) σ hI
  refine J_callV (q := 879) (ci := 10) (as := [vi (xs (i + 1).toNatClampNeg)]) (rest := []) C0 rfl (hB.2.1) (t_X11_status 0 (xs (i + 1).toNatClampNeg) (hB.1) (hB.2.1) hp) ml_X11_status lk_L_103 im_X11_status se_X11_status rfl (by decide) dL_law_876 rfl rfl rfl (by simp [ac_]) C.room (Nat.le_of_ble_eq_true rfl) (Nat.le_of_ble_eq_true rfl) (by omega) (by omega) (fun r_ τ_ hQ => ?_)
  obtain ⟨rfl, ht_⟩ := hQ; subst ht_
  show J_ Γ 879 (lw_lv i) [vi (p)] _ k n
  refine J_aload_n (q := 880) C0 2 rfl rfl dL_law_879 rfl trivial ?_
  refine J_aload_n (q := 881) C0 0 rfl rfl dL_law_880 rfl trivial ?_
  refine J_iload (q := 883) C0 4 rfl dL_law_881 rfl ?_
  refine J_iconst (q := 884) (v := 1) C0 dL_law_883 rfl rfl ?_
  refine J_iadd (q := 885) C0 dL_law_884 rfl ?_
  refine J_sld (q := 886) C (lw_ix hi.1 hi.2 hL (by decide)) dL_law_885 rfl ?_
  refine J_callV (q := 889) (ci := 11) (as := [vi (xs (i + 1).toNatClampNeg)]) (rest := [vi (p)]) C0 rfl (hB.2.2.1) (t_X12_status 344 (xs (i + 1).toNatClampNeg) (hB.1) (hB.2.2.1) hq) ml_X12_status lk_L_106 im_X12_status se_X12_status rfl (by decide) dL_law_886 rfl rfl rfl (by simp [ac_]) C.room (Nat.le_of_ble_eq_true rfl) (Nat.le_of_ble_eq_true rfl) (by omega) (by omega) (fun r_ τ_ hQ => ?_)
  obtain ⟨rfl, ht_⟩ := hQ; subst ht_
  show J_ Γ 889 (lw_lv i) [vi (p_), vi (p)] _ k n
  have hf_ : (if p = p_ then some () else some ()) = some () := by split <;> rfl
  refine J_icmp_eq (t := 1772) (q := 892) C0 dL_law_889 (by decide) rfl hf_ (fun _ _ => ?_) (fun c_ _ => absurd he c_)
  exact J_widen (by omega) (by omega) (kk _ hI2 ⟨hB.1, hB.2.1, hB.2.2.1, hB.2.2.2.1, hB.2.2.2.2⟩)
def so_undo (Inv : Sg → Prop) (N : Nat) : Prop := ∀ (σ : Sg), Inv σ → ∃ p q, f_X11_undo N 0  σ = some p ∧ f_X12_undo N 344  p.2 = some q ∧ p.1 = q.1 ∧ Inv q.2
set_option maxHeartbeats 4000000 in
set_option maxRecDepth 100000 in
theorem lw_c19 {Γ : Gm} {b L : Nat} {xs : Nat → Int32} (C : CLw Γ b L xs) {Inv : Sg → Prop} {N : Nat} (so : so_undo Inv N) {σ : Sg} (hI : Inv σ) (hB : lw_B σ) {i : Int32} (hi : ¬ i < 0 ∧ i.toNatClampNeg + 6 ≤ L) (hL : L ≤ 3072) {k n : Nat} (hk : k + 3 ≤ 601024) (hn : n + 800 ≤ 7293034) (kk : ∀ τ, Inv τ → lw_B τ → J_ Γ 1772 (lw_lv i) [] τ (k + 3) (n + 800)) : J_ Γ 894 (lw_lv i) [] σ k n := by
  have C0 := C.1
  refine J_aload_n (q := 895) C0 1 rfl rfl dL_law_894 rfl trivial ?_
  obtain ⟨p, p_, hp, hq, he, hI2⟩ := so  σ hI
  refine J_callV (q := 898) (ci := 10) (as := []) (rest := []) C0 rfl (hB.2.1) (t_X11_undo N 0  (hB.1) (hB.2.1) hp) ml_X11_undo lk_L_107 im_X11_undo se_X11_undo rfl (by decide) dL_law_895 rfl rfl rfl (by simp [ac_]) C.room (Nat.le_of_ble_eq_true rfl) (Nat.le_of_ble_eq_true rfl) (by omega) (by omega) (fun r_ τ_ hQ => ?_)
  obtain ⟨rfl, ht_, T0, E0⟩ := hQ; subst ht_
  show J_ Γ 898 (lw_lv i) [vi (p.1)] _ k n
  refine J_aload_n (q := 899) C0 2 rfl rfl dL_law_898 rfl trivial ?_
  refine J_callV (q := 902) (ci := 11) (as := []) (rest := [vi (p.1)]) C0 rfl (E0.at (hB.2.2.1)) (t_X12_undo N 344  (T0) (E0.at (hB.2.2.1)) hq) ml_X12_undo lk_L_110 im_X12_undo se_X12_undo rfl (by decide) dL_law_899 rfl rfl rfl (by simp [ac_]) C.room (Nat.le_of_ble_eq_true rfl) (Nat.le_of_ble_eq_true rfl) (by omega) (by omega) (fun r_ τ_ hQ => ?_)
  obtain ⟨rfl, ht_, T1, E1⟩ := hQ; subst ht_
  show J_ Γ 902 (lw_lv i) [vi (p_.1), vi (p.1)] _ k n
  have hf_ : (if p.1 = p_.1 then some () else some ()) = some () := by split <;> rfl
  refine J_icmp_eq (t := 1772) (q := 905) C0 dL_law_902 (by decide) rfl hf_ (fun _ _ => ?_) (fun c_ _ => absurd he c_)
  exact J_widen (by omega) (by omega) (kk _ hI2 ⟨T1, E1.at (E0.at (hB.2.1)), E1.at (E0.at (hB.2.2.1)), E1.at (E0.at (hB.2.2.2.1)), (by rw [(E1.2 370 (E0.at (hB.2.2.2.1)).1).2]; exact (by rw [(E0.2 370 (hB.2.2.2.1).1).2]; exact hB.2.2.2.2))⟩)
def so_log (Inv : Sg → Prop) (N : Nat) : Prop := ∀ (x1 : Int32) (x2 : Int32) (σ : Sg), Inv σ → ∃ p q, f_X11_log 0 x1 x2 σ = some p ∧ f_X12_log 344 x1 x2 σ = some q ∧ p = q ∧ Inv σ
set_option maxHeartbeats 4000000 in
set_option maxRecDepth 100000 in
theorem lw_c20 {Γ : Gm} {b L : Nat} {xs : Nat → Int32} (C : CLw Γ b L xs) {Inv : Sg → Prop} {N : Nat} (so : so_log Inv N) {σ : Sg} (hI : Inv σ) (hB : lw_B σ) {i : Int32} (hi : ¬ i < 0 ∧ i.toNatClampNeg + 6 ≤ L) (hL : L ≤ 3072) {k n : Nat} (hk : k + 3 ≤ 601024) (hn : n + 800 ≤ 7293034) (kk : ∀ τ, Inv τ → lw_B τ → J_ Γ 1772 (lw_lv i) [] τ (k + 3) (n + 800)) : J_ Γ 907 (lw_lv i) [] σ k n := by
  have C0 := C.1
  refine J_aload_n (q := 908) C0 1 rfl rfl dL_law_907 rfl trivial ?_
  refine J_aload_n (q := 909) C0 0 rfl rfl dL_law_908 rfl trivial ?_
  refine J_iload (q := 911) C0 4 rfl dL_law_909 rfl ?_
  refine J_iconst (q := 912) (v := 1) C0 dL_law_911 rfl rfl ?_
  refine J_iadd (q := 913) C0 dL_law_912 rfl ?_
  refine J_sld (q := 914) C (lw_ix hi.1 hi.2 hL (by decide)) dL_law_913 rfl ?_
  refine J_aload_n (q := 915) C0 0 rfl rfl dL_law_914 rfl trivial ?_
  refine J_iload (q := 917) C0 4 rfl dL_law_915 rfl ?_
  refine J_iconst (q := 918) (v := 2) C0 dL_law_917 rfl rfl ?_
  refine J_iadd (q := 919) C0 dL_law_918 rfl ?_
  refine J_sld (q := 920) C (lw_ix hi.1 hi.2 hL (by decide)) dL_law_919 rfl ?_
  obtain ⟨p, p_, hp, hq, he, hI2⟩ := so (xs (i + 1).toNatClampNeg) (xs (i + 2).toNatClampNeg) σ hI
  refine J_callV (q := 923) (ci := 10) (as := [vi (xs (i + 1).toNatClampNeg), vi (xs (i + 2).toNatClampNeg)]) (rest := []) C0 rfl (hB.2.1) (t_X11_log 0 (xs (i + 1).toNatClampNeg) (xs (i + 2).toNatClampNeg) (hB.1) (hB.2.1) hp) ml_X11_log lk_L_111 im_X11_log se_X11_log rfl (by decide) dL_law_920 rfl rfl rfl (by simp [ac_]) C.room (Nat.le_of_ble_eq_true rfl) (Nat.le_of_ble_eq_true rfl) (by omega) (by omega) (fun r_ τ_ hQ => ?_)
  obtain ⟨rfl, ht_⟩ := hQ; subst ht_
  show J_ Γ 923 (lw_lv i) [vi (p)] _ k n
  refine J_aload_n (q := 924) C0 2 rfl rfl dL_law_923 rfl trivial ?_
  refine J_aload_n (q := 925) C0 0 rfl rfl dL_law_924 rfl trivial ?_
  refine J_iload (q := 927) C0 4 rfl dL_law_925 rfl ?_
  refine J_iconst (q := 928) (v := 1) C0 dL_law_927 rfl rfl ?_
  refine J_iadd (q := 929) C0 dL_law_928 rfl ?_
  refine J_sld (q := 930) C (lw_ix hi.1 hi.2 hL (by decide)) dL_law_929 rfl ?_
  refine J_aload_n (q := 931) C0 0 rfl rfl dL_law_930 rfl trivial ?_
  refine J_iload (q := 933) C0 4 rfl dL_law_931 rfl ?_
  refine J_iconst (q := 934) (v := 2) C0 dL_law_933 rfl rfl ?_
  refine J_iadd (q := 935) C0 dL_law_934 rfl ?_
  refine J_sld (q := 936) C (lw_ix hi.1 hi.2 hL (by decide)) dL_law_935 rfl ?_
  refine J_callV (q := 939) (ci := 11) (as := [vi (xs (i + 1).toNatClampNeg), vi (xs (i + 2).toNatClampNeg)]) (rest := [vi (p)]) C0 rfl (hB.2.2.1) (t_X12_log 344 (xs (i + 1).toNatClampNeg) (xs (i + 2).toNatClampNeg) (hB.1) (hB.2.2.1) hq) ml_X12_log lk_L_114 im_X12_log se_X12_log rfl (by decide) dL_law_936 rfl rfl rfl (by simp [ac_]) C.room (Nat.le_of_ble_eq_true rfl) (Nat.le_of_ble_eq_true rfl) (by omega) (by omega) (fun r_ τ_ hQ => ?_)
  obtain ⟨rfl, ht_⟩ := hQ; subst ht_
  show J_ Γ 939 (lw_lv i) [vi (p_), vi (p)] _ k n
  have hf_ : (if p = p_ then some () else some ()) = some () := by split <;> rfl
  refine J_icmp_eq (t := 1772) (q := 942) C0 dL_law_939 (by decide) rfl hf_ (fun _ _ => ?_) (fun c_ _ => absurd he c_)
  exact J_widen (by omega) (by omega) (kk _ hI2 ⟨hB.1, hB.2.1, hB.2.2.1, hB.2.2.2.1, hB.2.2.2.2⟩)
def so_at (Inv : Sg → Prop) (N : Nat) : Prop := ∀ (x1 : Int32) (x2 : Int32) (σ : Sg), Inv σ → ∃ p q, f_X11_at N 0 x1 x2 σ = some p ∧ f_X12_at N 344 x1 x2 p.2 = some q ∧ p.1 = q.1 ∧ Inv q.2
set_option maxHeartbeats 4000000 in
set_option maxRecDepth 100000 in
theorem lw_c21 {Γ : Gm} {b L : Nat} {xs : Nat → Int32} (C : CLw Γ b L xs) {Inv : Sg → Prop} {N : Nat} (so : so_at Inv N) {σ : Sg} (hI : Inv σ) (hB : lw_B σ) {i : Int32} (hi : ¬ i < 0 ∧ i.toNatClampNeg + 6 ≤ L) (hL : L ≤ 3072) {k n : Nat} (hk : k + 3 ≤ 601024) (hn : n + 800 ≤ 7293034) (kk : ∀ τ, Inv τ → lw_B τ → J_ Γ 1772 (lw_lv i) [] τ (k + 3) (n + 800)) : J_ Γ 944 (lw_lv i) [] σ k n := by
  have C0 := C.1
  refine J_aload_n (q := 945) C0 1 rfl rfl dL_law_944 rfl trivial ?_
  refine J_aload_n (q := 946) C0 0 rfl rfl dL_law_945 rfl trivial ?_
  refine J_iload (q := 948) C0 4 rfl dL_law_946 rfl ?_
  refine J_iconst (q := 949) (v := 1) C0 dL_law_948 rfl rfl ?_
  refine J_iadd (q := 950) C0 dL_law_949 rfl ?_
  refine J_sld (q := 951) C (lw_ix hi.1 hi.2 hL (by decide)) dL_law_950 rfl ?_
  refine J_aload_n (q := 952) C0 0 rfl rfl dL_law_951 rfl trivial ?_
  refine J_iload (q := 954) C0 4 rfl dL_law_952 rfl ?_
  refine J_iconst (q := 955) (v := 2) C0 dL_law_954 rfl rfl ?_
  refine J_iadd (q := 956) C0 dL_law_955 rfl ?_
  refine J_sld (q := 957) C (lw_ix hi.1 hi.2 hL (by decide)) dL_law_956 rfl ?_
  obtain ⟨p, p_, hp, hq, he, hI2⟩ := so (xs (i + 1).toNatClampNeg) (xs (i + 2).toNatClampNeg) σ hI
  refine J_callV (q := 960) (ci := 10) (as := [vi (xs (i + 1).toNatClampNeg), vi (xs (i + 2).toNatClampNeg)]) (rest := []) C0 rfl (hB.2.1) (t_X11_at N 0 (xs (i + 1).toNatClampNeg) (xs (i + 2).toNatClampNeg) (hB.1) (hB.2.1) hp) ml_X11_at lk_L_115 im_X11_at se_X11_at rfl (by decide) dL_law_957 rfl rfl rfl (by simp [ac_]) C.room (Nat.le_of_ble_eq_true rfl) (Nat.le_of_ble_eq_true rfl) (by omega) (by omega) (fun r_ τ_ hQ => ?_)
  obtain ⟨rfl, ht_, T0, E0⟩ := hQ; subst ht_
  show J_ Γ 960 (lw_lv i) [vi (p.1)] _ k n
  refine J_aload_n (q := 961) C0 2 rfl rfl dL_law_960 rfl trivial ?_
  refine J_aload_n (q := 962) C0 0 rfl rfl dL_law_961 rfl trivial ?_
  refine J_iload (q := 964) C0 4 rfl dL_law_962 rfl ?_
  refine J_iconst (q := 965) (v := 1) C0 dL_law_964 rfl rfl ?_
  refine J_iadd (q := 966) C0 dL_law_965 rfl ?_
  refine J_sld (q := 967) C (lw_ix hi.1 hi.2 hL (by decide)) dL_law_966 rfl ?_
  refine J_aload_n (q := 968) C0 0 rfl rfl dL_law_967 rfl trivial ?_
  refine J_iload (q := 970) C0 4 rfl dL_law_968 rfl ?_
  refine J_iconst (q := 971) (v := 2) C0 dL_law_970 rfl rfl ?_
  refine J_iadd (q := 972) C0 dL_law_971 rfl ?_
  refine J_sld (q := 973) C (lw_ix hi.1 hi.2 hL (by decide)) dL_law_972 rfl ?_
  refine J_callV (q := 976) (ci := 11) (as := [vi (xs (i + 1).toNatClampNeg), vi (xs (i + 2).toNatClampNeg)]) (rest := [vi (p.1)]) C0 rfl (E0.at (hB.2.2.1)) (t_X12_at N 344 (xs (i + 1).toNatClampNeg) (xs (i + 2).toNatClampNeg) (T0) (E0.at (hB.2.2.1)) hq) ml_X12_at lk_L_118 im_X12_at se_X12_at rfl (by decide) dL_law_973 rfl rfl rfl (by simp [ac_]) C.room (Nat.le_of_ble_eq_true rfl) (Nat.le_of_ble_eq_true rfl) (by omega) (by omega) (fun r_ τ_ hQ => ?_)
  obtain ⟨rfl, ht_, T1, E1⟩ := hQ; subst ht_
  show J_ Γ 976 (lw_lv i) [vi (p_.1), vi (p.1)] _ k n
  have hf_ : (if p.1 = p_.1 then some () else some ()) = some () := by split <;> rfl
  refine J_icmp_eq (t := 1772) (q := 979) C0 dL_law_976 (by decide) rfl hf_ (fun _ _ => ?_) (fun c_ _ => absurd he c_)
  exact J_widen (by omega) (by omega) (kk _ hI2 ⟨T1, E1.at (E0.at (hB.2.1)), E1.at (E0.at (hB.2.2.1)), E1.at (E0.at (hB.2.2.2.1)), (by rw [(E1.2 370 (E0.at (hB.2.2.2.1)).1).2]; exact (by rw [(E0.2 370 (hB.2.2.2.1).1).2]; exact hB.2.2.2.2))⟩)
def so_seems (Inv : Sg → Prop) (N : Nat) : Prop := ∀ (x1 : Int32) (x2 : Int32) (σ : Sg), Inv σ → ∃ p q, f_X11_seems N 0 x1 x2 σ = some p ∧ f_X12_seems N 344 x1 x2 p.2 = some q ∧ p.1 = q.1 ∧ Inv q.2
set_option maxHeartbeats 4000000 in
set_option maxRecDepth 100000 in
theorem lw_c22 {Γ : Gm} {b L : Nat} {xs : Nat → Int32} (C : CLw Γ b L xs) {Inv : Sg → Prop} {N : Nat} (so : so_seems Inv N) {σ : Sg} (hI : Inv σ) (hB : lw_B σ) {i : Int32} (hi : ¬ i < 0 ∧ i.toNatClampNeg + 6 ≤ L) (hL : L ≤ 3072) {k n : Nat} (hk : k + 3 ≤ 601024) (hn : n + 800 ≤ 7293034) (kk : ∀ τ, Inv τ → lw_B τ → J_ Γ 1772 (lw_lv i) [] τ (k + 3) (n + 800)) : J_ Γ 981 (lw_lv i) [] σ k n := by
  have C0 := C.1
  refine J_aload_n (q := 982) C0 1 rfl rfl dL_law_981 rfl trivial ?_
  refine J_aload_n (q := 983) C0 0 rfl rfl dL_law_982 rfl trivial ?_
  refine J_iload (q := 985) C0 4 rfl dL_law_983 rfl ?_
  refine J_iconst (q := 986) (v := 1) C0 dL_law_985 rfl rfl ?_
  refine J_iadd (q := 987) C0 dL_law_986 rfl ?_
  refine J_sld (q := 988) C (lw_ix hi.1 hi.2 hL (by decide)) dL_law_987 rfl ?_
  refine J_aload_n (q := 989) C0 0 rfl rfl dL_law_988 rfl trivial ?_
  refine J_iload (q := 991) C0 4 rfl dL_law_989 rfl ?_
  refine J_iconst (q := 992) (v := 2) C0 dL_law_991 rfl rfl ?_
  refine J_iadd (q := 993) C0 dL_law_992 rfl ?_
  refine J_sld (q := 994) C (lw_ix hi.1 hi.2 hL (by decide)) dL_law_993 rfl ?_
  obtain ⟨p, p_, hp, hq, he, hI2⟩ := so (xs (i + 1).toNatClampNeg) (xs (i + 2).toNatClampNeg) σ hI
  refine J_callV (q := 997) (ci := 10) (as := [vi (xs (i + 1).toNatClampNeg), vi (xs (i + 2).toNatClampNeg)]) (rest := []) C0 rfl (hB.2.1) (t_X11_seems N 0 (xs (i + 1).toNatClampNeg) (xs (i + 2).toNatClampNeg) (hB.1) (hB.2.1) hp) ml_X11_seems lk_L_119 im_X11_seems se_X11_seems rfl (by decide) dL_law_994 rfl rfl rfl (by simp [ac_]) C.room (Nat.le_of_ble_eq_true rfl) (Nat.le_of_ble_eq_true rfl) (by omega) (by omega) (fun r_ τ_ hQ => ?_)
  obtain ⟨rfl, ht_, T0, E0⟩ := hQ; subst ht_
  show J_ Γ 997 (lw_lv i) [vi (p.1)] _ k n
  refine J_aload_n (q := 998) C0 2 rfl rfl dL_law_997 rfl trivial ?_
  refine J_aload_n (q := 999) C0 0 rfl rfl dL_law_998 rfl trivial ?_
  refine J_iload (q := 1001) C0 4 rfl dL_law_999 rfl ?_
  refine J_iconst (q := 1002) (v := 1) C0 dL_law_1001 rfl rfl ?_
  refine J_iadd (q := 1003) C0 dL_law_1002 rfl ?_
  refine J_sld (q := 1004) C (lw_ix hi.1 hi.2 hL (by decide)) dL_law_1003 rfl ?_
  refine J_aload_n (q := 1005) C0 0 rfl rfl dL_law_1004 rfl trivial ?_
  refine J_iload (q := 1007) C0 4 rfl dL_law_1005 rfl ?_
  refine J_iconst (q := 1008) (v := 2) C0 dL_law_1007 rfl rfl ?_
  refine J_iadd (q := 1009) C0 dL_law_1008 rfl ?_
  refine J_sld (q := 1010) C (lw_ix hi.1 hi.2 hL (by decide)) dL_law_1009 rfl ?_
  refine J_callV (q := 1013) (ci := 11) (as := [vi (xs (i + 1).toNatClampNeg), vi (xs (i + 2).toNatClampNeg)]) (rest := [vi (p.1)]) C0 rfl (E0.at (hB.2.2.1)) (t_X12_seems N 344 (xs (i + 1).toNatClampNeg) (xs (i + 2).toNatClampNeg) (T0) (E0.at (hB.2.2.1)) hq) ml_X12_seems lk_L_122 im_X12_seems se_X12_seems rfl (by decide) dL_law_1010 rfl rfl rfl (by simp [ac_]) C.room (Nat.le_of_ble_eq_true rfl) (Nat.le_of_ble_eq_true rfl) (by omega) (by omega) (fun r_ τ_ hQ => ?_)
  obtain ⟨rfl, ht_, T1, E1⟩ := hQ; subst ht_
  show J_ Γ 1013 (lw_lv i) [vi (p_.1), vi (p.1)] _ k n
  have hf_ : (if p.1 = p_.1 then some () else some ()) = some () := by split <;> rfl
  refine J_icmp_eq (t := 1772) (q := 1016) C0 dL_law_1013 (by decide) rfl hf_ (fun _ _ => ?_) (fun c_ _ => absurd he c_)
  exact J_widen (by omega) (by omega) (kk _ hI2 ⟨T1, E1.at (E0.at (hB.2.1)), E1.at (E0.at (hB.2.2.1)), E1.at (E0.at (hB.2.2.2.1)), (by rw [(E1.2 370 (E0.at (hB.2.2.2.1)).1).2]; exact (by rw [(E0.2 370 (hB.2.2.2.1).1).2]; exact hB.2.2.2.2))⟩)
def so_stands (Inv : Sg → Prop) (N : Nat) : Prop := ∀ (x1 : Int32) (x2 : Int32) (σ : Sg), Inv σ → ∃ p q, f_X11_stands N 0 x1 x2 σ = some p ∧ f_X12_stands N 344 x1 x2 p.2 = some q ∧ p.1 = q.1 ∧ Inv q.2
set_option maxHeartbeats 4000000 in
set_option maxRecDepth 100000 in
theorem lw_c23 {Γ : Gm} {b L : Nat} {xs : Nat → Int32} (C : CLw Γ b L xs) {Inv : Sg → Prop} {N : Nat} (so : so_stands Inv N) {σ : Sg} (hI : Inv σ) (hB : lw_B σ) {i : Int32} (hi : ¬ i < 0 ∧ i.toNatClampNeg + 6 ≤ L) (hL : L ≤ 3072) {k n : Nat} (hk : k + 3 ≤ 601024) (hn : n + 800 ≤ 7293034) (kk : ∀ τ, Inv τ → lw_B τ → J_ Γ 1772 (lw_lv i) [] τ (k + 3) (n + 800)) : J_ Γ 1018 (lw_lv i) [] σ k n := by
  have C0 := C.1
  refine J_aload_n (q := 1019) C0 1 rfl rfl dL_law_1018 rfl trivial ?_
  refine J_aload_n (q := 1020) C0 0 rfl rfl dL_law_1019 rfl trivial ?_
  refine J_iload (q := 1022) C0 4 rfl dL_law_1020 rfl ?_
  refine J_iconst (q := 1023) (v := 1) C0 dL_law_1022 rfl rfl ?_
  refine J_iadd (q := 1024) C0 dL_law_1023 rfl ?_
  refine J_sld (q := 1025) C (lw_ix hi.1 hi.2 hL (by decide)) dL_law_1024 rfl ?_
  refine J_aload_n (q := 1026) C0 0 rfl rfl dL_law_1025 rfl trivial ?_
  refine J_iload (q := 1028) C0 4 rfl dL_law_1026 rfl ?_
  refine J_iconst (q := 1029) (v := 2) C0 dL_law_1028 rfl rfl ?_
  refine J_iadd (q := 1030) C0 dL_law_1029 rfl ?_
  refine J_sld (q := 1031) C (lw_ix hi.1 hi.2 hL (by decide)) dL_law_1030 rfl ?_
  obtain ⟨p, p_, hp, hq, he, hI2⟩ := so (xs (i + 1).toNatClampNeg) (xs (i + 2).toNatClampNeg) σ hI
  refine J_callV (q := 1034) (ci := 10) (as := [vi (xs (i + 1).toNatClampNeg), vi (xs (i + 2).toNatClampNeg)]) (rest := []) C0 rfl (hB.2.1) (t_X11_stands N 0 (xs (i + 1).toNatClampNeg) (xs (i + 2).toNatClampNeg) (hB.1) (hB.2.1) hp) ml_X11_stands lk_L_123 im_X11_stands se_X11_stands rfl (by decide) dL_law_1031 rfl rfl rfl (by simp [ac_]) C.room (Nat.le_of_ble_eq_true rfl) (Nat.le_of_ble_eq_true rfl) (by omega) (by omega) (fun r_ τ_ hQ => ?_)
  obtain ⟨rfl, ht_, T0, E0⟩ := hQ; subst ht_
  show J_ Γ 1034 (lw_lv i) [vi (p.1)] _ k n
  refine J_aload_n (q := 1035) C0 2 rfl rfl dL_law_1034 rfl trivial ?_
  refine J_aload_n (q := 1036) C0 0 rfl rfl dL_law_1035 rfl trivial ?_
  refine J_iload (q := 1038) C0 4 rfl dL_law_1036 rfl ?_
  refine J_iconst (q := 1039) (v := 1) C0 dL_law_1038 rfl rfl ?_
  refine J_iadd (q := 1040) C0 dL_law_1039 rfl ?_
  refine J_sld (q := 1041) C (lw_ix hi.1 hi.2 hL (by decide)) dL_law_1040 rfl ?_
  refine J_aload_n (q := 1042) C0 0 rfl rfl dL_law_1041 rfl trivial ?_
  refine J_iload (q := 1044) C0 4 rfl dL_law_1042 rfl ?_
  refine J_iconst (q := 1045) (v := 2) C0 dL_law_1044 rfl rfl ?_
  refine J_iadd (q := 1046) C0 dL_law_1045 rfl ?_
  refine J_sld (q := 1047) C (lw_ix hi.1 hi.2 hL (by decide)) dL_law_1046 rfl ?_
  refine J_callV (q := 1050) (ci := 11) (as := [vi (xs (i + 1).toNatClampNeg), vi (xs (i + 2).toNatClampNeg)]) (rest := [vi (p.1)]) C0 rfl (E0.at (hB.2.2.1)) (t_X12_stands N 344 (xs (i + 1).toNatClampNeg) (xs (i + 2).toNatClampNeg) (T0) (E0.at (hB.2.2.1)) hq) ml_X12_stands lk_L_126 im_X12_stands se_X12_stands rfl (by decide) dL_law_1047 rfl rfl rfl (by simp [ac_]) C.room (Nat.le_of_ble_eq_true rfl) (Nat.le_of_ble_eq_true rfl) (by omega) (by omega) (fun r_ τ_ hQ => ?_)
  obtain ⟨rfl, ht_, T1, E1⟩ := hQ; subst ht_
  show J_ Γ 1050 (lw_lv i) [vi (p_.1), vi (p.1)] _ k n
  have hf_ : (if p.1 = p_.1 then some () else some ()) = some () := by split <;> rfl
  refine J_icmp_eq (t := 1772) (q := 1053) C0 dL_law_1050 (by decide) rfl hf_ (fun _ _ => ?_) (fun c_ _ => absurd he c_)
  exact J_widen (by omega) (by omega) (kk _ hI2 ⟨T1, E1.at (E0.at (hB.2.1)), E1.at (E0.at (hB.2.2.1)), E1.at (E0.at (hB.2.2.2.1)), (by rw [(E1.2 370 (E0.at (hB.2.2.2.1)).1).2]; exact (by rw [(E0.2 370 (hB.2.2.2.1).1).2]; exact hB.2.2.2.2))⟩)
def so_together (Inv : Sg → Prop) (N : Nat) : Prop := ∀ (σ : Sg), Inv σ → ∃ p q, f_X11_together N 0  σ = some p ∧ f_X12_together N 344  p.2 = some q ∧ p.1 = q.1 ∧ Inv q.2
set_option maxHeartbeats 4000000 in
set_option maxRecDepth 100000 in
theorem lw_c24 {Γ : Gm} {b L : Nat} {xs : Nat → Int32} (C : CLw Γ b L xs) {Inv : Sg → Prop} {N : Nat} (so : so_together Inv N) {σ : Sg} (hI : Inv σ) (hB : lw_B σ) {i : Int32} (hi : ¬ i < 0 ∧ i.toNatClampNeg + 6 ≤ L) (hL : L ≤ 3072) {k n : Nat} (hk : k + 3 ≤ 601024) (hn : n + 800 ≤ 7293034) (kk : ∀ τ, Inv τ → lw_B τ → J_ Γ 1772 (lw_lv i) [] τ (k + 3) (n + 800)) : J_ Γ 1055 (lw_lv i) [] σ k n := by
  have C0 := C.1
  refine J_aload_n (q := 1056) C0 1 rfl rfl dL_law_1055 rfl trivial ?_
  obtain ⟨p, p_, hp, hq, he, hI2⟩ := so  σ hI
  refine J_callV (q := 1059) (ci := 10) (as := []) (rest := []) C0 rfl (hB.2.1) (t_X11_together N 0  (hB.1) (hB.2.1) hp) ml_X11_together lk_L_127 im_X11_together se_X11_together rfl (by decide) dL_law_1056 rfl rfl rfl (by simp [ac_]) C.room (Nat.le_of_ble_eq_true rfl) (Nat.le_of_ble_eq_true rfl) (by omega) (by omega) (fun r_ τ_ hQ => ?_)
  obtain ⟨rfl, ht_, T0, E0⟩ := hQ; subst ht_
  show J_ Γ 1059 (lw_lv i) [vi (p.1)] _ k n
  refine J_aload_n (q := 1060) C0 2 rfl rfl dL_law_1059 rfl trivial ?_
  refine J_callV (q := 1063) (ci := 11) (as := []) (rest := [vi (p.1)]) C0 rfl (E0.at (hB.2.2.1)) (t_X12_together N 344  (T0) (E0.at (hB.2.2.1)) hq) ml_X12_together lk_L_130 im_X12_together se_X12_together rfl (by decide) dL_law_1060 rfl rfl rfl (by simp [ac_]) C.room (Nat.le_of_ble_eq_true rfl) (Nat.le_of_ble_eq_true rfl) (by omega) (by omega) (fun r_ τ_ hQ => ?_)
  obtain ⟨rfl, ht_, T1, E1⟩ := hQ; subst ht_
  show J_ Γ 1063 (lw_lv i) [vi (p_.1), vi (p.1)] _ k n
  have hf_ : (if p.1 = p_.1 then some () else some ()) = some () := by split <;> rfl
  refine J_icmp_eq (t := 1772) (q := 1066) C0 dL_law_1063 (by decide) rfl hf_ (fun _ _ => ?_) (fun c_ _ => absurd he c_)
  exact J_widen (by omega) (by omega) (kk _ hI2 ⟨T1, E1.at (E0.at (hB.2.1)), E1.at (E0.at (hB.2.2.1)), E1.at (E0.at (hB.2.2.2.1)), (by rw [(E1.2 370 (E0.at (hB.2.2.2.1)).1).2]; exact (by rw [(E0.2 370 (hB.2.2.2.1).1).2]; exact hB.2.2.2.2))⟩)
def so_again (Inv : Sg → Prop) (N : Nat) : Prop := ∀ (x1 : Int32) (σ : Sg), Inv σ → ∃ p q, f_X11_again N 0 x1 σ = some p ∧ f_X12_again N 344 x1 p.2 = some q ∧ p.1 = q.1 ∧ Inv q.2
set_option maxHeartbeats 4000000 in
set_option maxRecDepth 100000 in
theorem lw_c25 {Γ : Gm} {b L : Nat} {xs : Nat → Int32} (C : CLw Γ b L xs) {Inv : Sg → Prop} {N : Nat} (so : so_again Inv N) {σ : Sg} (hI : Inv σ) (hB : lw_B σ) {i : Int32} (hi : ¬ i < 0 ∧ i.toNatClampNeg + 6 ≤ L) (hL : L ≤ 3072) {k n : Nat} (hk : k + 3 ≤ 601024) (hn : n + 800 ≤ 7293034) (kk : ∀ τ, Inv τ → lw_B τ → J_ Γ 1772 (lw_lv i) [] τ (k + 3) (n + 800)) : J_ Γ 1068 (lw_lv i) [] σ k n := by
  have C0 := C.1
  refine J_aload_n (q := 1069) C0 1 rfl rfl dL_law_1068 rfl trivial ?_
  refine J_aload_n (q := 1070) C0 0 rfl rfl dL_law_1069 rfl trivial ?_
  refine J_iload (q := 1072) C0 4 rfl dL_law_1070 rfl ?_
  refine J_iconst (q := 1073) (v := 1) C0 dL_law_1072 rfl rfl ?_
  refine J_iadd (q := 1074) C0 dL_law_1073 rfl ?_
  refine J_sld (q := 1075) C (lw_ix hi.1 hi.2 hL (by decide)) dL_law_1074 rfl ?_
  obtain ⟨p, p_, hp, hq, he, hI2⟩ := so (xs (i + 1).toNatClampNeg) σ hI
  refine J_callV (q := 1078) (ci := 10) (as := [vi (xs (i + 1).toNatClampNeg)]) (rest := []) C0 rfl (hB.2.1) (t_X11_again N 0 (xs (i + 1).toNatClampNeg) (hB.1) (hB.2.1) hp) ml_X11_again lk_L_131 im_X11_again se_X11_again rfl (by decide) dL_law_1075 rfl rfl rfl (by simp [ac_]) C.room (Nat.le_of_ble_eq_true rfl) (Nat.le_of_ble_eq_true rfl) (by omega) (by omega) (fun r_ τ_ hQ => ?_)
  obtain ⟨rfl, ht_, T0, E0⟩ := hQ; subst ht_
  show J_ Γ 1078 (lw_lv i) [vi (p.1)] _ k n
  refine J_aload_n (q := 1079) C0 2 rfl rfl dL_law_1078 rfl trivial ?_
  refine J_aload_n (q := 1080) C0 0 rfl rfl dL_law_1079 rfl trivial ?_
  refine J_iload (q := 1082) C0 4 rfl dL_law_1080 rfl ?_
  refine J_iconst (q := 1083) (v := 1) C0 dL_law_1082 rfl rfl ?_
  refine J_iadd (q := 1084) C0 dL_law_1083 rfl ?_
  refine J_sld (q := 1085) C (lw_ix hi.1 hi.2 hL (by decide)) dL_law_1084 rfl ?_
  refine J_callV (q := 1088) (ci := 11) (as := [vi (xs (i + 1).toNatClampNeg)]) (rest := [vi (p.1)]) C0 rfl (E0.at (hB.2.2.1)) (t_X12_again N 344 (xs (i + 1).toNatClampNeg) (T0) (E0.at (hB.2.2.1)) hq) ml_X12_again lk_L_134 im_X12_again se_X12_again rfl (by decide) dL_law_1085 rfl rfl rfl (by simp [ac_]) C.room (Nat.le_of_ble_eq_true rfl) (Nat.le_of_ble_eq_true rfl) (by omega) (by omega) (fun r_ τ_ hQ => ?_)
  obtain ⟨rfl, ht_, T1, E1⟩ := hQ; subst ht_
  show J_ Γ 1088 (lw_lv i) [vi (p_.1), vi (p.1)] _ k n
  have hf_ : (if p.1 = p_.1 then some () else some ()) = some () := by split <;> rfl
  refine J_icmp_eq (t := 1772) (q := 1091) C0 dL_law_1088 (by decide) rfl hf_ (fun _ _ => ?_) (fun c_ _ => absurd he c_)
  exact J_widen (by omega) (by omega) (kk _ hI2 ⟨T1, E1.at (E0.at (hB.2.1)), E1.at (E0.at (hB.2.2.1)), E1.at (E0.at (hB.2.2.2.1)), (by rw [(E1.2 370 (E0.at (hB.2.2.2.1)).1).2]; exact (by rw [(E0.2 370 (hB.2.2.2.1).1).2]; exact hB.2.2.2.2))⟩)
def so_meets (Inv : Sg → Prop) (N : Nat) : Prop := ∀ (x1 : Int32) (x2 : Int32) (σ : Sg), Inv σ → ∃ p q, f_X11_meets N 0 x1 x2 σ = some p ∧ f_X12_meets N 344 x1 x2 p.2 = some q ∧ p.1 = q.1 ∧ Inv q.2
set_option maxHeartbeats 4000000 in
set_option maxRecDepth 100000 in
theorem lw_c26 {Γ : Gm} {b L : Nat} {xs : Nat → Int32} (C : CLw Γ b L xs) {Inv : Sg → Prop} {N : Nat} (so : so_meets Inv N) {σ : Sg} (hI : Inv σ) (hB : lw_B σ) {i : Int32} (hi : ¬ i < 0 ∧ i.toNatClampNeg + 6 ≤ L) (hL : L ≤ 3072) {k n : Nat} (hk : k + 3 ≤ 601024) (hn : n + 800 ≤ 7293034) (kk : ∀ τ, Inv τ → lw_B τ → J_ Γ 1772 (lw_lv i) [] τ (k + 3) (n + 800)) : J_ Γ 1093 (lw_lv i) [] σ k n := by
  have C0 := C.1
  refine J_aload_n (q := 1094) C0 1 rfl rfl dL_law_1093 rfl trivial ?_
  refine J_aload_n (q := 1095) C0 0 rfl rfl dL_law_1094 rfl trivial ?_
  refine J_iload (q := 1097) C0 4 rfl dL_law_1095 rfl ?_
  refine J_iconst (q := 1098) (v := 1) C0 dL_law_1097 rfl rfl ?_
  refine J_iadd (q := 1099) C0 dL_law_1098 rfl ?_
  refine J_sld (q := 1100) C (lw_ix hi.1 hi.2 hL (by decide)) dL_law_1099 rfl ?_
  refine J_aload_n (q := 1101) C0 0 rfl rfl dL_law_1100 rfl trivial ?_
  refine J_iload (q := 1103) C0 4 rfl dL_law_1101 rfl ?_
  refine J_iconst (q := 1104) (v := 2) C0 dL_law_1103 rfl rfl ?_
  refine J_iadd (q := 1105) C0 dL_law_1104 rfl ?_
  refine J_sld (q := 1106) C (lw_ix hi.1 hi.2 hL (by decide)) dL_law_1105 rfl ?_
  obtain ⟨p, p_, hp, hq, he, hI2⟩ := so (xs (i + 1).toNatClampNeg) (xs (i + 2).toNatClampNeg) σ hI
  refine J_callV (q := 1109) (ci := 10) (as := [vi (xs (i + 1).toNatClampNeg), vi (xs (i + 2).toNatClampNeg)]) (rest := []) C0 rfl (hB.2.1) (t_X11_meets N 0 (xs (i + 1).toNatClampNeg) (xs (i + 2).toNatClampNeg) (hB.1) (hB.2.1) hp) ml_X11_meets lk_L_135 im_X11_meets se_X11_meets rfl (by decide) dL_law_1106 rfl rfl rfl (by simp [ac_]) C.room (Nat.le_of_ble_eq_true rfl) (Nat.le_of_ble_eq_true rfl) (by omega) (by omega) (fun r_ τ_ hQ => ?_)
  obtain ⟨rfl, ht_, T0, E0⟩ := hQ; subst ht_
  show J_ Γ 1109 (lw_lv i) [vi (p.1)] _ k n
  refine J_aload_n (q := 1110) C0 2 rfl rfl dL_law_1109 rfl trivial ?_
  refine J_aload_n (q := 1111) C0 0 rfl rfl dL_law_1110 rfl trivial ?_
  refine J_iload (q := 1113) C0 4 rfl dL_law_1111 rfl ?_
  refine J_iconst (q := 1114) (v := 1) C0 dL_law_1113 rfl rfl ?_
  refine J_iadd (q := 1115) C0 dL_law_1114 rfl ?_
  refine J_sld (q := 1116) C (lw_ix hi.1 hi.2 hL (by decide)) dL_law_1115 rfl ?_
  refine J_aload_n (q := 1117) C0 0 rfl rfl dL_law_1116 rfl trivial ?_
  refine J_iload (q := 1119) C0 4 rfl dL_law_1117 rfl ?_
  refine J_iconst (q := 1120) (v := 2) C0 dL_law_1119 rfl rfl ?_
  refine J_iadd (q := 1121) C0 dL_law_1120 rfl ?_
  refine J_sld (q := 1122) C (lw_ix hi.1 hi.2 hL (by decide)) dL_law_1121 rfl ?_
  refine J_callV (q := 1125) (ci := 11) (as := [vi (xs (i + 1).toNatClampNeg), vi (xs (i + 2).toNatClampNeg)]) (rest := [vi (p.1)]) C0 rfl (E0.at (hB.2.2.1)) (t_X12_meets N 344 (xs (i + 1).toNatClampNeg) (xs (i + 2).toNatClampNeg) (T0) (E0.at (hB.2.2.1)) hq) ml_X12_meets lk_L_138 im_X12_meets se_X12_meets rfl (by decide) dL_law_1122 rfl rfl rfl (by simp [ac_]) C.room (Nat.le_of_ble_eq_true rfl) (Nat.le_of_ble_eq_true rfl) (by omega) (by omega) (fun r_ τ_ hQ => ?_)
  obtain ⟨rfl, ht_, T1, E1⟩ := hQ; subst ht_
  show J_ Γ 1125 (lw_lv i) [vi (p_.1), vi (p.1)] _ k n
  have hf_ : (if p.1 = p_.1 then some () else some ()) = some () := by split <;> rfl
  refine J_icmp_eq (t := 1772) (q := 1128) C0 dL_law_1125 (by decide) rfl hf_ (fun _ _ => ?_) (fun c_ _ => absurd he c_)
  exact J_widen (by omega) (by omega) (kk _ hI2 ⟨T1, E1.at (E0.at (hB.2.1)), E1.at (E0.at (hB.2.2.1)), E1.at (E0.at (hB.2.2.2.1)), (by rw [(E1.2 370 (E0.at (hB.2.2.2.1)).1).2]; exact (by rw [(E0.2 370 (hB.2.2.2.1).1).2]; exact hB.2.2.2.2))⟩)
def so_reads (Inv : Sg → Prop) (N : Nat) : Prop := ∀ (x1 : Int32) (σ : Sg), Inv σ → ∃ p q, f_X11_reads N 0 x1 σ = some p ∧ f_X12_reads N 344 x1 p.2 = some q ∧ p.1 = q.1 ∧ Inv q.2
set_option maxHeartbeats 4000000 in
set_option maxRecDepth 100000 in
theorem lw_c27 {Γ : Gm} {b L : Nat} {xs : Nat → Int32} (C : CLw Γ b L xs) {Inv : Sg → Prop} {N : Nat} (so : so_reads Inv N) {σ : Sg} (hI : Inv σ) (hB : lw_B σ) {i : Int32} (hi : ¬ i < 0 ∧ i.toNatClampNeg + 6 ≤ L) (hL : L ≤ 3072) {k n : Nat} (hk : k + 3 ≤ 601024) (hn : n + 800 ≤ 7293034) (kk : ∀ τ, Inv τ → lw_B τ → J_ Γ 1772 (lw_lv i) [] τ (k + 3) (n + 800)) : J_ Γ 1130 (lw_lv i) [] σ k n := by
  have C0 := C.1
  refine J_aload_n (q := 1131) C0 1 rfl rfl dL_law_1130 rfl trivial ?_
  refine J_aload_n (q := 1132) C0 0 rfl rfl dL_law_1131 rfl trivial ?_
  refine J_iload (q := 1134) C0 4 rfl dL_law_1132 rfl ?_
  refine J_iconst (q := 1135) (v := 1) C0 dL_law_1134 rfl rfl ?_
  refine J_iadd (q := 1136) C0 dL_law_1135 rfl ?_
  refine J_sld (q := 1137) C (lw_ix hi.1 hi.2 hL (by decide)) dL_law_1136 rfl ?_
  obtain ⟨p, p_, hp, hq, he, hI2⟩ := so (xs (i + 1).toNatClampNeg) σ hI
  refine J_callV (q := 1140) (ci := 10) (as := [vi (xs (i + 1).toNatClampNeg)]) (rest := []) C0 rfl (hB.2.1) (t_X11_reads N 0 (xs (i + 1).toNatClampNeg) (hB.1) (hB.2.1) hp) ml_X11_reads lk_L_139 im_X11_reads se_X11_reads rfl (by decide) dL_law_1137 rfl rfl rfl (by simp [ac_]) C.room (Nat.le_of_ble_eq_true rfl) (Nat.le_of_ble_eq_true rfl) (by omega) (by omega) (fun r_ τ_ hQ => ?_)
  obtain ⟨rfl, ht_, T0, E0⟩ := hQ; subst ht_
  show J_ Γ 1140 (lw_lv i) [vi (p.1)] _ k n
  refine J_aload_n (q := 1141) C0 2 rfl rfl dL_law_1140 rfl trivial ?_
  refine J_aload_n (q := 1142) C0 0 rfl rfl dL_law_1141 rfl trivial ?_
  refine J_iload (q := 1144) C0 4 rfl dL_law_1142 rfl ?_
  refine J_iconst (q := 1145) (v := 1) C0 dL_law_1144 rfl rfl ?_
  refine J_iadd (q := 1146) C0 dL_law_1145 rfl ?_
  refine J_sld (q := 1147) C (lw_ix hi.1 hi.2 hL (by decide)) dL_law_1146 rfl ?_
  refine J_callV (q := 1150) (ci := 11) (as := [vi (xs (i + 1).toNatClampNeg)]) (rest := [vi (p.1)]) C0 rfl (E0.at (hB.2.2.1)) (t_X12_reads N 344 (xs (i + 1).toNatClampNeg) (T0) (E0.at (hB.2.2.1)) hq) ml_X12_reads lk_L_142 im_X12_reads se_X12_reads rfl (by decide) dL_law_1147 rfl rfl rfl (by simp [ac_]) C.room (Nat.le_of_ble_eq_true rfl) (Nat.le_of_ble_eq_true rfl) (by omega) (by omega) (fun r_ τ_ hQ => ?_)
  obtain ⟨rfl, ht_, T1, E1⟩ := hQ; subst ht_
  show J_ Γ 1150 (lw_lv i) [vi (p_.1), vi (p.1)] _ k n
  have hf_ : (if p.1 = p_.1 then some () else some ()) = some () := by split <;> rfl
  refine J_icmp_eq (t := 1772) (q := 1153) C0 dL_law_1150 (by decide) rfl hf_ (fun _ _ => ?_) (fun c_ _ => absurd he c_)
  exact J_widen (by omega) (by omega) (kk _ hI2 ⟨T1, E1.at (E0.at (hB.2.1)), E1.at (E0.at (hB.2.2.1)), E1.at (E0.at (hB.2.2.2.1)), (by rw [(E1.2 370 (E0.at (hB.2.2.2.1)).1).2]; exact (by rw [(E0.2 370 (hB.2.2.2.1).1).2]; exact hB.2.2.2.2))⟩)
def so_period (Inv : Sg → Prop) (N : Nat) : Prop := ∀ (x1 : Int32) (σ : Sg), Inv σ → ∃ p q, f_X11_period N 0 x1 σ = some p ∧ f_X12_period N 344 x1 σ = some q ∧ p = q ∧ Inv σ
set_option maxHeartbeats 4000000 in
set_option maxRecDepth 100000 in
theorem lw_c28 {Γ : Gm} {b L : Nat} {xs : Nat → Int32} (C : CLw Γ b L xs) {Inv : Sg → Prop} {N : Nat} (so : so_period Inv N) {σ : Sg} (hI : Inv σ) (hB : lw_B σ) {i : Int32} (hi : ¬ i < 0 ∧ i.toNatClampNeg + 6 ≤ L) (hL : L ≤ 3072) {k n : Nat} (hk : k + 3 ≤ 601024) (hn : n + 800 ≤ 7293034) (kk : ∀ τ, Inv τ → lw_B τ → J_ Γ 1772 (lw_lv i) [] τ (k + 3) (n + 800)) : J_ Γ 1155 (lw_lv i) [] σ k n := by
  have C0 := C.1
  refine J_aload_n (q := 1156) C0 1 rfl rfl dL_law_1155 rfl trivial ?_
  refine J_aload_n (q := 1157) C0 0 rfl rfl dL_law_1156 rfl trivial ?_
  refine J_iload (q := 1159) C0 4 rfl dL_law_1157 rfl ?_
  refine J_iconst (q := 1160) (v := 1) C0 dL_law_1159 rfl rfl ?_
  refine J_iadd (q := 1161) C0 dL_law_1160 rfl ?_
  refine J_sld (q := 1162) C (lw_ix hi.1 hi.2 hL (by decide)) dL_law_1161 rfl ?_
  obtain ⟨p, p_, hp, hq, he, hI2⟩ := so (xs (i + 1).toNatClampNeg) σ hI
  refine J_callV (q := 1165) (ci := 10) (as := [vi (xs (i + 1).toNatClampNeg)]) (rest := []) C0 rfl (hB.2.1) (t_X11_period N 0 (xs (i + 1).toNatClampNeg) (hB.1) (hB.2.1) hp) ml_X11_period lk_L_143 im_X11_period se_X11_period rfl (by decide) dL_law_1162 rfl rfl rfl (by simp [ac_]) C.room (Nat.le_of_ble_eq_true rfl) (Nat.le_of_ble_eq_true rfl) (by omega) (by omega) (fun r_ τ_ hQ => ?_)
  obtain ⟨rfl, ht_⟩ := hQ; subst ht_
  show J_ Γ 1165 (lw_lv i) [vi (p)] _ k n
  refine J_aload_n (q := 1166) C0 2 rfl rfl dL_law_1165 rfl trivial ?_
  refine J_aload_n (q := 1167) C0 0 rfl rfl dL_law_1166 rfl trivial ?_
  refine J_iload (q := 1169) C0 4 rfl dL_law_1167 rfl ?_
  refine J_iconst (q := 1170) (v := 1) C0 dL_law_1169 rfl rfl ?_
  refine J_iadd (q := 1171) C0 dL_law_1170 rfl ?_
  refine J_sld (q := 1172) C (lw_ix hi.1 hi.2 hL (by decide)) dL_law_1171 rfl ?_
  refine J_callV (q := 1175) (ci := 11) (as := [vi (xs (i + 1).toNatClampNeg)]) (rest := [vi (p)]) C0 rfl (hB.2.2.1) (t_X12_period N 344 (xs (i + 1).toNatClampNeg) (hB.1) (hB.2.2.1) hq) ml_X12_period lk_L_146 im_X12_period se_X12_period rfl (by decide) dL_law_1172 rfl rfl rfl (by simp [ac_]) C.room (Nat.le_of_ble_eq_true rfl) (Nat.le_of_ble_eq_true rfl) (by omega) (by omega) (fun r_ τ_ hQ => ?_)
  obtain ⟨rfl, ht_⟩ := hQ; subst ht_
  show J_ Γ 1175 (lw_lv i) [vi (p_), vi (p)] _ k n
  have hf_ : (if p = p_ then some () else some ()) = some () := by split <;> rfl
  refine J_icmp_eq (t := 1772) (q := 1178) C0 dL_law_1175 (by decide) rfl hf_ (fun _ _ => ?_) (fun c_ _ => absurd he c_)
  exact J_widen (by omega) (by omega) (kk _ hI2 ⟨hB.1, hB.2.1, hB.2.2.1, hB.2.2.2.1, hB.2.2.2.2⟩)
def so_least (Inv : Sg → Prop) (N : Nat) : Prop := ∀ (x1 : Int32) (σ : Sg), Inv σ → ∃ p q, f_X11_least N 0 x1 σ = some p ∧ f_X12_least N 344 x1 σ = some q ∧ p = q ∧ Inv σ
set_option maxHeartbeats 4000000 in
set_option maxRecDepth 100000 in
theorem lw_c29 {Γ : Gm} {b L : Nat} {xs : Nat → Int32} (C : CLw Γ b L xs) {Inv : Sg → Prop} {N : Nat} (so : so_least Inv N) {σ : Sg} (hI : Inv σ) (hB : lw_B σ) {i : Int32} (hi : ¬ i < 0 ∧ i.toNatClampNeg + 6 ≤ L) (hL : L ≤ 3072) {k n : Nat} (hk : k + 3 ≤ 601024) (hn : n + 800 ≤ 7293034) (kk : ∀ τ, Inv τ → lw_B τ → J_ Γ 1772 (lw_lv i) [] τ (k + 3) (n + 800)) : J_ Γ 1180 (lw_lv i) [] σ k n := by
  have C0 := C.1
  refine J_aload_n (q := 1181) C0 1 rfl rfl dL_law_1180 rfl trivial ?_
  refine J_aload_n (q := 1182) C0 0 rfl rfl dL_law_1181 rfl trivial ?_
  refine J_iload (q := 1184) C0 4 rfl dL_law_1182 rfl ?_
  refine J_iconst (q := 1185) (v := 1) C0 dL_law_1184 rfl rfl ?_
  refine J_iadd (q := 1186) C0 dL_law_1185 rfl ?_
  refine J_sld (q := 1187) C (lw_ix hi.1 hi.2 hL (by decide)) dL_law_1186 rfl ?_
  obtain ⟨p, p_, hp, hq, he, hI2⟩ := so (xs (i + 1).toNatClampNeg) σ hI
  refine J_callV (q := 1190) (ci := 10) (as := [vi (xs (i + 1).toNatClampNeg)]) (rest := []) C0 rfl (hB.2.1) (t_X11_least N 0 (xs (i + 1).toNatClampNeg) (hB.1) (hB.2.1) hp) ml_X11_least lk_L_147 im_X11_least se_X11_least rfl (by decide) dL_law_1187 rfl rfl rfl (by simp [ac_]) C.room (Nat.le_of_ble_eq_true rfl) (Nat.le_of_ble_eq_true rfl) (by omega) (by omega) (fun r_ τ_ hQ => ?_)
  obtain ⟨rfl, ht_⟩ := hQ; subst ht_
  show J_ Γ 1190 (lw_lv i) [vi (p)] _ k n
  refine J_aload_n (q := 1191) C0 2 rfl rfl dL_law_1190 rfl trivial ?_
  refine J_aload_n (q := 1192) C0 0 rfl rfl dL_law_1191 rfl trivial ?_
  refine J_iload (q := 1194) C0 4 rfl dL_law_1192 rfl ?_
  refine J_iconst (q := 1195) (v := 1) C0 dL_law_1194 rfl rfl ?_
  refine J_iadd (q := 1196) C0 dL_law_1195 rfl ?_
  refine J_sld (q := 1197) C (lw_ix hi.1 hi.2 hL (by decide)) dL_law_1196 rfl ?_
  refine J_callV (q := 1200) (ci := 11) (as := [vi (xs (i + 1).toNatClampNeg)]) (rest := [vi (p)]) C0 rfl (hB.2.2.1) (t_X12_least N 344 (xs (i + 1).toNatClampNeg) (hB.1) (hB.2.2.1) hq) ml_X12_least lk_L_150 im_X12_least se_X12_least rfl (by decide) dL_law_1197 rfl rfl rfl (by simp [ac_]) C.room (Nat.le_of_ble_eq_true rfl) (Nat.le_of_ble_eq_true rfl) (by omega) (by omega) (fun r_ τ_ hQ => ?_)
  obtain ⟨rfl, ht_⟩ := hQ; subst ht_
  show J_ Γ 1200 (lw_lv i) [vi (p_), vi (p)] _ k n
  have hf_ : (if p = p_ then some () else some ()) = some () := by split <;> rfl
  refine J_icmp_eq (t := 1772) (q := 1203) C0 dL_law_1200 (by decide) rfl hf_ (fun _ _ => ?_) (fun c_ _ => absurd he c_)
  exact J_widen (by omega) (by omega) (kk _ hI2 ⟨hB.1, hB.2.1, hB.2.2.1, hB.2.2.2.1, hB.2.2.2.2⟩)
def so_alike (Inv : Sg → Prop) (N : Nat) : Prop := ∀ (x1 : Int32) (x2 : Int32) (x3 : Int32) (σ : Sg), Inv σ → ∃ p q, f_X11_alike N 0 x1 x2 x3 σ = some p ∧ f_X12_alike N 344 x1 x2 x3 σ = some q ∧ p = q ∧ Inv σ
set_option maxHeartbeats 4000000 in
set_option maxRecDepth 100000 in
theorem lw_c30a {Γ : Gm} {b L : Nat} {xs : Nat → Int32} (C : CLw Γ b L xs) {Inv : Sg → Prop} {N : Nat} (so : so_alike Inv N) {σ : Sg} (hI : Inv σ) (hB : lw_B σ) {i : Int32} (hi : ¬ i < 0 ∧ i.toNatClampNeg + 6 ≤ L) (hL : L ≤ 3072) (hz : xs (i + 3).toNatClampNeg = 0) {k n : Nat} (hk : k + 3 ≤ 601024) (hn : n + 800 ≤ 7293034) (kk : ∀ τ, Inv τ → lw_B τ → J_ Γ 1772 (lw_lv i) [] τ (k + 3) (n + 800)) : J_ Γ 1205 (lw_lv i) [] σ k n := by
  have C0 := C.1
  refine J_aload_n (q := 1206) C0 1 rfl rfl dL_law_1205 rfl trivial ?_
  refine J_aload_n (q := 1207) C0 0 rfl rfl dL_law_1206 rfl trivial ?_
  refine J_iload (q := 1209) C0 4 rfl dL_law_1207 rfl ?_
  refine J_iconst (q := 1210) (v := 1) C0 dL_law_1209 rfl rfl ?_
  refine J_iadd (q := 1211) C0 dL_law_1210 rfl ?_
  refine J_sld (q := 1212) C (lw_ix hi.1 hi.2 hL (by decide)) dL_law_1211 rfl ?_
  refine J_aload_n (q := 1213) C0 0 rfl rfl dL_law_1212 rfl trivial ?_
  refine J_iload (q := 1215) C0 4 rfl dL_law_1213 rfl ?_
  refine J_iconst (q := 1216) (v := 2) C0 dL_law_1215 rfl rfl ?_
  refine J_iadd (q := 1217) C0 dL_law_1216 rfl ?_
  refine J_sld (q := 1218) C (lw_ix hi.1 hi.2 hL (by decide)) dL_law_1217 rfl ?_
  refine J_aload_n (q := 1219) C0 0 rfl rfl dL_law_1218 rfl trivial ?_
  refine J_iload (q := 1221) C0 4 rfl dL_law_1219 rfl ?_
  refine J_iconst (q := 1222) (v := 3) C0 dL_law_1221 rfl rfl ?_
  refine J_iadd (q := 1223) C0 dL_law_1222 rfl ?_
  refine J_sld (q := 1224) C (lw_ix hi.1 hi.2 hL (by decide)) dL_law_1223 rfl ?_
  have hf_ : (if xs (i + 3).toNatClampNeg = 0 then some () else some ()) = some () := by split <;> rfl
  refine J_if_eq (t := 1231) (q := 1227) C0 dL_law_1224 (by decide) rfl hf_ (fun _ _ => ?_) (fun c_ _ => absurd hz c_)
  refine J_iconst (q := 1232) (v := 0) C0 dL_law_1231 rfl rfl ?_
  obtain ⟨p, p_, hp, hq, he, hI2⟩ := so (xs (i + 1).toNatClampNeg) (xs (i + 2).toNatClampNeg) (0) σ hI
  refine J_callV (q := 1235) (ci := 10) (as := [vi (xs (i + 1).toNatClampNeg), vi (xs (i + 2).toNatClampNeg), vi (0)]) (rest := []) C0 rfl (hB.2.1) (t_X11_alike N 0 (xs (i + 1).toNatClampNeg) (xs (i + 2).toNatClampNeg) (0) (hB.1) (hB.2.1) hp) ml_X11_alike lk_L_151 im_X11_alike se_X11_alike rfl (by decide) dL_law_1232 rfl rfl rfl (by simp [ac_]) C.room (Nat.le_of_ble_eq_true rfl) (Nat.le_of_ble_eq_true rfl) (by omega) (by omega) (fun r_ τ_ hQ => ?_)
  obtain ⟨rfl, ht_⟩ := hQ; subst ht_
  show J_ Γ 1235 (lw_lv i) [vi (p)] _ k n
  refine J_aload_n (q := 1236) C0 2 rfl rfl dL_law_1235 rfl trivial ?_
  refine J_aload_n (q := 1237) C0 0 rfl rfl dL_law_1236 rfl trivial ?_
  refine J_iload (q := 1239) C0 4 rfl dL_law_1237 rfl ?_
  refine J_iconst (q := 1240) (v := 1) C0 dL_law_1239 rfl rfl ?_
  refine J_iadd (q := 1241) C0 dL_law_1240 rfl ?_
  refine J_sld (q := 1242) C (lw_ix hi.1 hi.2 hL (by decide)) dL_law_1241 rfl ?_
  refine J_aload_n (q := 1243) C0 0 rfl rfl dL_law_1242 rfl trivial ?_
  refine J_iload (q := 1245) C0 4 rfl dL_law_1243 rfl ?_
  refine J_iconst (q := 1246) (v := 2) C0 dL_law_1245 rfl rfl ?_
  refine J_iadd (q := 1247) C0 dL_law_1246 rfl ?_
  refine J_sld (q := 1248) C (lw_ix hi.1 hi.2 hL (by decide)) dL_law_1247 rfl ?_
  refine J_aload_n (q := 1249) C0 0 rfl rfl dL_law_1248 rfl trivial ?_
  refine J_iload (q := 1251) C0 4 rfl dL_law_1249 rfl ?_
  refine J_iconst (q := 1252) (v := 3) C0 dL_law_1251 rfl rfl ?_
  refine J_iadd (q := 1253) C0 dL_law_1252 rfl ?_
  refine J_sld (q := 1254) C (lw_ix hi.1 hi.2 hL (by decide)) dL_law_1253 rfl ?_
  have hf_ : (if xs (i + 3).toNatClampNeg = 0 then some () else some ()) = some () := by split <;> rfl
  refine J_if_eq (t := 1261) (q := 1257) C0 dL_law_1254 (by decide) rfl hf_ (fun _ _ => ?_) (fun c_ _ => absurd hz c_)
  refine J_iconst (q := 1262) (v := 0) C0 dL_law_1261 rfl rfl ?_
  refine J_callV (q := 1265) (ci := 11) (as := [vi (xs (i + 1).toNatClampNeg), vi (xs (i + 2).toNatClampNeg), vi (0)]) (rest := [vi (p)]) C0 rfl (hB.2.2.1) (t_X12_alike N 344 (xs (i + 1).toNatClampNeg) (xs (i + 2).toNatClampNeg) (0) (hB.1) (hB.2.2.1) hq) ml_X12_alike lk_L_155 im_X12_alike se_X12_alike rfl (by decide) dL_law_1262 rfl rfl rfl (by simp [ac_]) C.room (Nat.le_of_ble_eq_true rfl) (Nat.le_of_ble_eq_true rfl) (by omega) (by omega) (fun r_ τ_ hQ => ?_)
  obtain ⟨rfl, ht_⟩ := hQ; subst ht_
  show J_ Γ 1265 (lw_lv i) [vi (p_), vi (p)] _ k n
  have hf_ : (if p = p_ then some () else some ()) = some () := by split <;> rfl
  refine J_icmp_eq (t := 1772) (q := 1268) C0 dL_law_1265 (by decide) rfl hf_ (fun _ _ => ?_) (fun c_ _ => absurd he c_)
  exact J_widen (by omega) (by omega) (kk _ hI2 ⟨hB.1, hB.2.1, hB.2.2.1, hB.2.2.2.1, hB.2.2.2.2⟩)
set_option maxHeartbeats 4000000 in
set_option maxRecDepth 100000 in
theorem lw_c30b {Γ : Gm} {b L : Nat} {xs : Nat → Int32} (C : CLw Γ b L xs) {Inv : Sg → Prop} {N : Nat} (so : so_alike Inv N) {σ : Sg} (hI : Inv σ) (hB : lw_B σ) {i : Int32} (hi : ¬ i < 0 ∧ i.toNatClampNeg + 6 ≤ L) (hL : L ≤ 3072) (hz : ¬ xs (i + 3).toNatClampNeg = 0) {k n : Nat} (hk : k + 3 ≤ 601024) (hn : n + 800 ≤ 7293034) (kk : ∀ τ, Inv τ → lw_B τ → J_ Γ 1772 (lw_lv i) [] τ (k + 3) (n + 800)) : J_ Γ 1205 (lw_lv i) [] σ k n := by
  have C0 := C.1
  refine J_aload_n (q := 1206) C0 1 rfl rfl dL_law_1205 rfl trivial ?_
  refine J_aload_n (q := 1207) C0 0 rfl rfl dL_law_1206 rfl trivial ?_
  refine J_iload (q := 1209) C0 4 rfl dL_law_1207 rfl ?_
  refine J_iconst (q := 1210) (v := 1) C0 dL_law_1209 rfl rfl ?_
  refine J_iadd (q := 1211) C0 dL_law_1210 rfl ?_
  refine J_sld (q := 1212) C (lw_ix hi.1 hi.2 hL (by decide)) dL_law_1211 rfl ?_
  refine J_aload_n (q := 1213) C0 0 rfl rfl dL_law_1212 rfl trivial ?_
  refine J_iload (q := 1215) C0 4 rfl dL_law_1213 rfl ?_
  refine J_iconst (q := 1216) (v := 2) C0 dL_law_1215 rfl rfl ?_
  refine J_iadd (q := 1217) C0 dL_law_1216 rfl ?_
  refine J_sld (q := 1218) C (lw_ix hi.1 hi.2 hL (by decide)) dL_law_1217 rfl ?_
  refine J_aload_n (q := 1219) C0 0 rfl rfl dL_law_1218 rfl trivial ?_
  refine J_iload (q := 1221) C0 4 rfl dL_law_1219 rfl ?_
  refine J_iconst (q := 1222) (v := 3) C0 dL_law_1221 rfl rfl ?_
  refine J_iadd (q := 1223) C0 dL_law_1222 rfl ?_
  refine J_sld (q := 1224) C (lw_ix hi.1 hi.2 hL (by decide)) dL_law_1223 rfl ?_
  have hf_ : (if xs (i + 3).toNatClampNeg = 0 then some () else some ()) = some () := by split <;> rfl
  refine J_if_eq (t := 1231) (q := 1227) C0 dL_law_1224 (by decide) rfl hf_ (fun c_ _ => absurd c_ hz) (fun _ _ => ?_)
  refine J_iconst (q := 1228) (v := 1) C0 dL_law_1227 rfl rfl ?_
  refine J_goto (q := 1232) C0 dL_law_1228 (by decide) ?_
  obtain ⟨p, p_, hp, hq, he, hI2⟩ := so (xs (i + 1).toNatClampNeg) (xs (i + 2).toNatClampNeg) (1) σ hI
  refine J_callV (q := 1235) (ci := 10) (as := [vi (xs (i + 1).toNatClampNeg), vi (xs (i + 2).toNatClampNeg), vi (1)]) (rest := []) C0 rfl (hB.2.1) (t_X11_alike N 0 (xs (i + 1).toNatClampNeg) (xs (i + 2).toNatClampNeg) (1) (hB.1) (hB.2.1) hp) ml_X11_alike lk_L_151 im_X11_alike se_X11_alike rfl (by decide) dL_law_1232 rfl rfl rfl (by simp [ac_]) C.room (Nat.le_of_ble_eq_true rfl) (Nat.le_of_ble_eq_true rfl) (by omega) (by omega) (fun r_ τ_ hQ => ?_)
  obtain ⟨rfl, ht_⟩ := hQ; subst ht_
  show J_ Γ 1235 (lw_lv i) [vi (p)] _ k n
  refine J_aload_n (q := 1236) C0 2 rfl rfl dL_law_1235 rfl trivial ?_
  refine J_aload_n (q := 1237) C0 0 rfl rfl dL_law_1236 rfl trivial ?_
  refine J_iload (q := 1239) C0 4 rfl dL_law_1237 rfl ?_
  refine J_iconst (q := 1240) (v := 1) C0 dL_law_1239 rfl rfl ?_
  refine J_iadd (q := 1241) C0 dL_law_1240 rfl ?_
  refine J_sld (q := 1242) C (lw_ix hi.1 hi.2 hL (by decide)) dL_law_1241 rfl ?_
  refine J_aload_n (q := 1243) C0 0 rfl rfl dL_law_1242 rfl trivial ?_
  refine J_iload (q := 1245) C0 4 rfl dL_law_1243 rfl ?_
  refine J_iconst (q := 1246) (v := 2) C0 dL_law_1245 rfl rfl ?_
  refine J_iadd (q := 1247) C0 dL_law_1246 rfl ?_
  refine J_sld (q := 1248) C (lw_ix hi.1 hi.2 hL (by decide)) dL_law_1247 rfl ?_
  refine J_aload_n (q := 1249) C0 0 rfl rfl dL_law_1248 rfl trivial ?_
  refine J_iload (q := 1251) C0 4 rfl dL_law_1249 rfl ?_
  refine J_iconst (q := 1252) (v := 3) C0 dL_law_1251 rfl rfl ?_
  refine J_iadd (q := 1253) C0 dL_law_1252 rfl ?_
  refine J_sld (q := 1254) C (lw_ix hi.1 hi.2 hL (by decide)) dL_law_1253 rfl ?_
  have hf_ : (if xs (i + 3).toNatClampNeg = 0 then some () else some ()) = some () := by split <;> rfl
  refine J_if_eq (t := 1261) (q := 1257) C0 dL_law_1254 (by decide) rfl hf_ (fun c_ _ => absurd c_ hz) (fun _ _ => ?_)
  refine J_iconst (q := 1258) (v := 1) C0 dL_law_1257 rfl rfl ?_
  refine J_goto (q := 1262) C0 dL_law_1258 (by decide) ?_
  refine J_callV (q := 1265) (ci := 11) (as := [vi (xs (i + 1).toNatClampNeg), vi (xs (i + 2).toNatClampNeg), vi (1)]) (rest := [vi (p)]) C0 rfl (hB.2.2.1) (t_X12_alike N 344 (xs (i + 1).toNatClampNeg) (xs (i + 2).toNatClampNeg) (1) (hB.1) (hB.2.2.1) hq) ml_X12_alike lk_L_155 im_X12_alike se_X12_alike rfl (by decide) dL_law_1262 rfl rfl rfl (by simp [ac_]) C.room (Nat.le_of_ble_eq_true rfl) (Nat.le_of_ble_eq_true rfl) (by omega) (by omega) (fun r_ τ_ hQ => ?_)
  obtain ⟨rfl, ht_⟩ := hQ; subst ht_
  show J_ Γ 1265 (lw_lv i) [vi (p_), vi (p)] _ k n
  have hf_ : (if p = p_ then some () else some ()) = some () := by split <;> rfl
  refine J_icmp_eq (t := 1772) (q := 1268) C0 dL_law_1265 (by decide) rfl hf_ (fun _ _ => ?_) (fun c_ _ => absurd he c_)
  exact J_widen (by omega) (by omega) (kk _ hI2 ⟨hB.1, hB.2.1, hB.2.2.1, hB.2.2.2.1, hB.2.2.2.2⟩)
theorem lw_c30 {Γ : Gm} {b L : Nat} {xs : Nat → Int32} (C : CLw Γ b L xs) {Inv : Sg → Prop} {N : Nat} (so : so_alike Inv N) {σ : Sg} (hI : Inv σ) (hB : lw_B σ) {i : Int32} (hi : ¬ i < 0 ∧ i.toNatClampNeg + 6 ≤ L) (hL : L ≤ 3072) {k n : Nat} (hk : k + 3 ≤ 601024) (hn : n + 800 ≤ 7293034) (kk : ∀ τ, Inv τ → lw_B τ → J_ Γ 1772 (lw_lv i) [] τ (k + 3) (n + 800)) : J_ Γ 1205 (lw_lv i) [] σ k n := by
  by_cases hz : xs (i + 3).toNatClampNeg = 0
  · exact lw_c30a C so hI hB hi hL hz hk hn kk
  · exact lw_c30b C so hI hB hi hL hz hk hn kk
def so_mirror (Inv : Sg → Prop) (N : Nat) : Prop := ∀ (x1 : Int32) (σ : Sg), Inv σ → ∃ p q, f_X11_mirror N 0 x1 σ = some p ∧ f_X12_mirror N 344 x1 σ = some q ∧ p = q ∧ Inv σ
set_option maxHeartbeats 4000000 in
set_option maxRecDepth 100000 in
theorem lw_c31 {Γ : Gm} {b L : Nat} {xs : Nat → Int32} (C : CLw Γ b L xs) {Inv : Sg → Prop} {N : Nat} (so : so_mirror Inv N) {σ : Sg} (hI : Inv σ) (hB : lw_B σ) {i : Int32} (hi : ¬ i < 0 ∧ i.toNatClampNeg + 6 ≤ L) (hL : L ≤ 3072) {k n : Nat} (hk : k + 3 ≤ 601024) (hn : n + 800 ≤ 7293034) (kk : ∀ τ, Inv τ → lw_B τ → J_ Γ 1772 (lw_lv i) [] τ (k + 3) (n + 800)) : J_ Γ 1270 (lw_lv i) [] σ k n := by
  have C0 := C.1
  refine J_aload_n (q := 1271) C0 1 rfl rfl dL_law_1270 rfl trivial ?_
  refine J_aload_n (q := 1272) C0 0 rfl rfl dL_law_1271 rfl trivial ?_
  refine J_iload (q := 1274) C0 4 rfl dL_law_1272 rfl ?_
  refine J_iconst (q := 1275) (v := 1) C0 dL_law_1274 rfl rfl ?_
  refine J_iadd (q := 1276) C0 dL_law_1275 rfl ?_
  refine J_sld (q := 1277) C (lw_ix hi.1 hi.2 hL (by decide)) dL_law_1276 rfl ?_
  obtain ⟨p, p_, hp, hq, he, hI2⟩ := so (xs (i + 1).toNatClampNeg) σ hI
  refine J_callV (q := 1280) (ci := 10) (as := [vi (xs (i + 1).toNatClampNeg)]) (rest := []) C0 rfl (hB.2.1) (t_X11_mirror N 0 (xs (i + 1).toNatClampNeg) (hB.1) (hB.2.1) hp) ml_X11_mirror lk_L_156 im_X11_mirror se_X11_mirror rfl (by decide) dL_law_1277 rfl rfl rfl (by simp [ac_]) C.room (Nat.le_of_ble_eq_true rfl) (Nat.le_of_ble_eq_true rfl) (by omega) (by omega) (fun r_ τ_ hQ => ?_)
  obtain ⟨rfl, ht_⟩ := hQ; subst ht_
  show J_ Γ 1280 (lw_lv i) [vi (p)] _ k n
  refine J_aload_n (q := 1281) C0 2 rfl rfl dL_law_1280 rfl trivial ?_
  refine J_aload_n (q := 1282) C0 0 rfl rfl dL_law_1281 rfl trivial ?_
  refine J_iload (q := 1284) C0 4 rfl dL_law_1282 rfl ?_
  refine J_iconst (q := 1285) (v := 1) C0 dL_law_1284 rfl rfl ?_
  refine J_iadd (q := 1286) C0 dL_law_1285 rfl ?_
  refine J_sld (q := 1287) C (lw_ix hi.1 hi.2 hL (by decide)) dL_law_1286 rfl ?_
  refine J_callV (q := 1290) (ci := 11) (as := [vi (xs (i + 1).toNatClampNeg)]) (rest := [vi (p)]) C0 rfl (hB.2.2.1) (t_X12_mirror N 344 (xs (i + 1).toNatClampNeg) (hB.1) (hB.2.2.1) hq) ml_X12_mirror lk_L_159 im_X12_mirror se_X12_mirror rfl (by decide) dL_law_1287 rfl rfl rfl (by simp [ac_]) C.room (Nat.le_of_ble_eq_true rfl) (Nat.le_of_ble_eq_true rfl) (by omega) (by omega) (fun r_ τ_ hQ => ?_)
  obtain ⟨rfl, ht_⟩ := hQ; subst ht_
  show J_ Γ 1290 (lw_lv i) [vi (p_), vi (p)] _ k n
  have hf_ : (if p = p_ then some () else some ()) = some () := by split <;> rfl
  refine J_icmp_eq (t := 1772) (q := 1293) C0 dL_law_1290 (by decide) rfl hf_ (fun _ _ => ?_) (fun c_ _ => absurd he c_)
  exact J_widen (by omega) (by omega) (kk _ hI2 ⟨hB.1, hB.2.1, hB.2.2.1, hB.2.2.2.1, hB.2.2.2.2⟩)
def so_rows (Inv : Sg → Prop) (N : Nat) : Prop := ∀ (x1 : Int32) (x2 : Int32) (σ : Sg), Inv σ → ∃ p q, f_X11_rows N 0 x1 x2 σ = some p ∧ f_X12_rows N 344 x1 x2 σ = some q ∧ p = q ∧ Inv σ
set_option maxHeartbeats 4000000 in
set_option maxRecDepth 100000 in
theorem lw_c32 {Γ : Gm} {b L : Nat} {xs : Nat → Int32} (C : CLw Γ b L xs) {Inv : Sg → Prop} {N : Nat} (so : so_rows Inv N) {σ : Sg} (hI : Inv σ) (hB : lw_B σ) {i : Int32} (hi : ¬ i < 0 ∧ i.toNatClampNeg + 6 ≤ L) (hL : L ≤ 3072) {k n : Nat} (hk : k + 3 ≤ 601024) (hn : n + 800 ≤ 7293034) (kk : ∀ τ, Inv τ → lw_B τ → J_ Γ 1772 (lw_lv i) [] τ (k + 3) (n + 800)) : J_ Γ 1295 (lw_lv i) [] σ k n := by
  have C0 := C.1
  refine J_aload_n (q := 1296) C0 1 rfl rfl dL_law_1295 rfl trivial ?_
  refine J_aload_n (q := 1297) C0 0 rfl rfl dL_law_1296 rfl trivial ?_
  refine J_iload (q := 1299) C0 4 rfl dL_law_1297 rfl ?_
  refine J_iconst (q := 1300) (v := 1) C0 dL_law_1299 rfl rfl ?_
  refine J_iadd (q := 1301) C0 dL_law_1300 rfl ?_
  refine J_sld (q := 1302) C (lw_ix hi.1 hi.2 hL (by decide)) dL_law_1301 rfl ?_
  refine J_aload_n (q := 1303) C0 0 rfl rfl dL_law_1302 rfl trivial ?_
  refine J_iload (q := 1305) C0 4 rfl dL_law_1303 rfl ?_
  refine J_iconst (q := 1306) (v := 2) C0 dL_law_1305 rfl rfl ?_
  refine J_iadd (q := 1307) C0 dL_law_1306 rfl ?_
  refine J_sld (q := 1308) C (lw_ix hi.1 hi.2 hL (by decide)) dL_law_1307 rfl ?_
  obtain ⟨p, p_, hp, hq, he, hI2⟩ := so (xs (i + 1).toNatClampNeg) (xs (i + 2).toNatClampNeg) σ hI
  refine J_callV (q := 1311) (ci := 10) (as := [vi (xs (i + 1).toNatClampNeg), vi (xs (i + 2).toNatClampNeg)]) (rest := []) C0 rfl (hB.2.1) (t_X11_rows N 0 (xs (i + 1).toNatClampNeg) (xs (i + 2).toNatClampNeg) (hB.1) (hB.2.1) hp) ml_X11_rows lk_L_160 im_X11_rows se_X11_rows rfl (by decide) dL_law_1308 rfl rfl rfl (by simp [ac_]) C.room (Nat.le_of_ble_eq_true rfl) (Nat.le_of_ble_eq_true rfl) (by omega) (by omega) (fun r_ τ_ hQ => ?_)
  obtain ⟨rfl, ht_⟩ := hQ; subst ht_
  show J_ Γ 1311 (lw_lv i) [vi (p)] _ k n
  refine J_aload_n (q := 1312) C0 2 rfl rfl dL_law_1311 rfl trivial ?_
  refine J_aload_n (q := 1313) C0 0 rfl rfl dL_law_1312 rfl trivial ?_
  refine J_iload (q := 1315) C0 4 rfl dL_law_1313 rfl ?_
  refine J_iconst (q := 1316) (v := 1) C0 dL_law_1315 rfl rfl ?_
  refine J_iadd (q := 1317) C0 dL_law_1316 rfl ?_
  refine J_sld (q := 1318) C (lw_ix hi.1 hi.2 hL (by decide)) dL_law_1317 rfl ?_
  refine J_aload_n (q := 1319) C0 0 rfl rfl dL_law_1318 rfl trivial ?_
  refine J_iload (q := 1321) C0 4 rfl dL_law_1319 rfl ?_
  refine J_iconst (q := 1322) (v := 2) C0 dL_law_1321 rfl rfl ?_
  refine J_iadd (q := 1323) C0 dL_law_1322 rfl ?_
  refine J_sld (q := 1324) C (lw_ix hi.1 hi.2 hL (by decide)) dL_law_1323 rfl ?_
  refine J_callV (q := 1327) (ci := 11) (as := [vi (xs (i + 1).toNatClampNeg), vi (xs (i + 2).toNatClampNeg)]) (rest := [vi (p)]) C0 rfl (hB.2.2.1) (t_X12_rows N 344 (xs (i + 1).toNatClampNeg) (xs (i + 2).toNatClampNeg) (hB.1) (hB.2.2.1) hq) ml_X12_rows lk_L_163 im_X12_rows se_X12_rows rfl (by decide) dL_law_1324 rfl rfl rfl (by simp [ac_]) C.room (Nat.le_of_ble_eq_true rfl) (Nat.le_of_ble_eq_true rfl) (by omega) (by omega) (fun r_ τ_ hQ => ?_)
  obtain ⟨rfl, ht_⟩ := hQ; subst ht_
  show J_ Γ 1327 (lw_lv i) [vi (p_), vi (p)] _ k n
  have hf_ : (if p = p_ then some () else some ()) = some () := by split <;> rfl
  refine J_icmp_eq (t := 1772) (q := 1330) C0 dL_law_1327 (by decide) rfl hf_ (fun _ _ => ?_) (fun c_ _ => absurd he c_)
  exact J_widen (by omega) (by omega) (kk _ hI2 ⟨hB.1, hB.2.1, hB.2.2.1, hB.2.2.2.1, hB.2.2.2.2⟩)
def so_kinds (Inv : Sg → Prop) (N : Nat) : Prop := ∀ (x1 : Int32) (x2 : Int32) (x3 : Int32) (σ : Sg), Inv σ → ∃ p q, f_X11_kinds N 0 x1 x2 x3 σ = some p ∧ f_X12_kinds N 344 x1 x2 x3 σ = some q ∧ p = q ∧ Inv σ
set_option maxHeartbeats 4000000 in
set_option maxRecDepth 100000 in
theorem lw_c33a {Γ : Gm} {b L : Nat} {xs : Nat → Int32} (C : CLw Γ b L xs) {Inv : Sg → Prop} {N : Nat} (so : so_kinds Inv N) {σ : Sg} (hI : Inv σ) (hB : lw_B σ) {i : Int32} (hi : ¬ i < 0 ∧ i.toNatClampNeg + 6 ≤ L) (hL : L ≤ 3072) (hz : xs (i + 3).toNatClampNeg = 0) {k n : Nat} (hk : k + 3 ≤ 601024) (hn : n + 800 ≤ 7293034) (kk : ∀ τ, Inv τ → lw_B τ → J_ Γ 1772 (lw_lv i) [] τ (k + 3) (n + 800)) : J_ Γ 1332 (lw_lv i) [] σ k n := by
  have C0 := C.1
  refine J_aload_n (q := 1333) C0 1 rfl rfl dL_law_1332 rfl trivial ?_
  refine J_aload_n (q := 1334) C0 0 rfl rfl dL_law_1333 rfl trivial ?_
  refine J_iload (q := 1336) C0 4 rfl dL_law_1334 rfl ?_
  refine J_iconst (q := 1337) (v := 1) C0 dL_law_1336 rfl rfl ?_
  refine J_iadd (q := 1338) C0 dL_law_1337 rfl ?_
  refine J_sld (q := 1339) C (lw_ix hi.1 hi.2 hL (by decide)) dL_law_1338 rfl ?_
  refine J_aload_n (q := 1340) C0 0 rfl rfl dL_law_1339 rfl trivial ?_
  refine J_iload (q := 1342) C0 4 rfl dL_law_1340 rfl ?_
  refine J_iconst (q := 1343) (v := 2) C0 dL_law_1342 rfl rfl ?_
  refine J_iadd (q := 1344) C0 dL_law_1343 rfl ?_
  refine J_sld (q := 1345) C (lw_ix hi.1 hi.2 hL (by decide)) dL_law_1344 rfl ?_
  refine J_aload_n (q := 1346) C0 0 rfl rfl dL_law_1345 rfl trivial ?_
  refine J_iload (q := 1348) C0 4 rfl dL_law_1346 rfl ?_
  refine J_iconst (q := 1349) (v := 3) C0 dL_law_1348 rfl rfl ?_
  refine J_iadd (q := 1350) C0 dL_law_1349 rfl ?_
  refine J_sld (q := 1351) C (lw_ix hi.1 hi.2 hL (by decide)) dL_law_1350 rfl ?_
  have hf_ : (if xs (i + 3).toNatClampNeg = 0 then some () else some ()) = some () := by split <;> rfl
  refine J_if_eq (t := 1358) (q := 1354) C0 dL_law_1351 (by decide) rfl hf_ (fun _ _ => ?_) (fun c_ _ => absurd hz c_)
  refine J_iconst (q := 1359) (v := 0) C0 dL_law_1358 rfl rfl ?_
  obtain ⟨p, p_, hp, hq, he, hI2⟩ := so (xs (i + 1).toNatClampNeg) (xs (i + 2).toNatClampNeg) (0) σ hI
  refine J_callV (q := 1362) (ci := 10) (as := [vi (xs (i + 1).toNatClampNeg), vi (xs (i + 2).toNatClampNeg), vi (0)]) (rest := []) C0 rfl (hB.2.1) (t_X11_kinds N 0 (xs (i + 1).toNatClampNeg) (xs (i + 2).toNatClampNeg) (0) (hB.2.1) hp) ml_X11_kinds lk_L_164 im_X11_kinds se_X11_kinds rfl (by decide) dL_law_1359 rfl rfl rfl (by simp [ac_]) C.room (Nat.le_of_ble_eq_true rfl) (Nat.le_of_ble_eq_true rfl) (by omega) (by omega) (fun r_ τ_ hQ => ?_)
  obtain ⟨rfl, ht_⟩ := hQ; subst ht_
  show J_ Γ 1362 (lw_lv i) [vi (p)] _ k n
  refine J_aload_n (q := 1363) C0 2 rfl rfl dL_law_1362 rfl trivial ?_
  refine J_aload_n (q := 1364) C0 0 rfl rfl dL_law_1363 rfl trivial ?_
  refine J_iload (q := 1366) C0 4 rfl dL_law_1364 rfl ?_
  refine J_iconst (q := 1367) (v := 1) C0 dL_law_1366 rfl rfl ?_
  refine J_iadd (q := 1368) C0 dL_law_1367 rfl ?_
  refine J_sld (q := 1369) C (lw_ix hi.1 hi.2 hL (by decide)) dL_law_1368 rfl ?_
  refine J_aload_n (q := 1370) C0 0 rfl rfl dL_law_1369 rfl trivial ?_
  refine J_iload (q := 1372) C0 4 rfl dL_law_1370 rfl ?_
  refine J_iconst (q := 1373) (v := 2) C0 dL_law_1372 rfl rfl ?_
  refine J_iadd (q := 1374) C0 dL_law_1373 rfl ?_
  refine J_sld (q := 1375) C (lw_ix hi.1 hi.2 hL (by decide)) dL_law_1374 rfl ?_
  refine J_aload_n (q := 1376) C0 0 rfl rfl dL_law_1375 rfl trivial ?_
  refine J_iload (q := 1378) C0 4 rfl dL_law_1376 rfl ?_
  refine J_iconst (q := 1379) (v := 3) C0 dL_law_1378 rfl rfl ?_
  refine J_iadd (q := 1380) C0 dL_law_1379 rfl ?_
  refine J_sld (q := 1381) C (lw_ix hi.1 hi.2 hL (by decide)) dL_law_1380 rfl ?_
  have hf_ : (if xs (i + 3).toNatClampNeg = 0 then some () else some ()) = some () := by split <;> rfl
  refine J_if_eq (t := 1388) (q := 1384) C0 dL_law_1381 (by decide) rfl hf_ (fun _ _ => ?_) (fun c_ _ => absurd hz c_)
  refine J_iconst (q := 1389) (v := 0) C0 dL_law_1388 rfl rfl ?_
  refine J_callV (q := 1392) (ci := 11) (as := [vi (xs (i + 1).toNatClampNeg), vi (xs (i + 2).toNatClampNeg), vi (0)]) (rest := [vi (p)]) C0 rfl (hB.2.2.1) (t_X12_kinds N 344 (xs (i + 1).toNatClampNeg) (xs (i + 2).toNatClampNeg) (0) (hB.1) (hB.2.2.1) hq) ml_X12_kinds lk_L_167 im_X12_kinds se_X12_kinds rfl (by decide) dL_law_1389 rfl rfl rfl (by simp [ac_]) C.room (Nat.le_of_ble_eq_true rfl) (Nat.le_of_ble_eq_true rfl) (by omega) (by omega) (fun r_ τ_ hQ => ?_)
  obtain ⟨rfl, ht_⟩ := hQ; subst ht_
  show J_ Γ 1392 (lw_lv i) [vi (p_), vi (p)] _ k n
  have hf_ : (if p = p_ then some () else some ()) = some () := by split <;> rfl
  refine J_icmp_eq (t := 1772) (q := 1395) C0 dL_law_1392 (by decide) rfl hf_ (fun _ _ => ?_) (fun c_ _ => absurd he c_)
  exact J_widen (by omega) (by omega) (kk _ hI2 ⟨hB.1, hB.2.1, hB.2.2.1, hB.2.2.2.1, hB.2.2.2.2⟩)
set_option maxHeartbeats 4000000 in
set_option maxRecDepth 100000 in
theorem lw_c33b {Γ : Gm} {b L : Nat} {xs : Nat → Int32} (C : CLw Γ b L xs) {Inv : Sg → Prop} {N : Nat} (so : so_kinds Inv N) {σ : Sg} (hI : Inv σ) (hB : lw_B σ) {i : Int32} (hi : ¬ i < 0 ∧ i.toNatClampNeg + 6 ≤ L) (hL : L ≤ 3072) (hz : ¬ xs (i + 3).toNatClampNeg = 0) {k n : Nat} (hk : k + 3 ≤ 601024) (hn : n + 800 ≤ 7293034) (kk : ∀ τ, Inv τ → lw_B τ → J_ Γ 1772 (lw_lv i) [] τ (k + 3) (n + 800)) : J_ Γ 1332 (lw_lv i) [] σ k n := by
  have C0 := C.1
  refine J_aload_n (q := 1333) C0 1 rfl rfl dL_law_1332 rfl trivial ?_
  refine J_aload_n (q := 1334) C0 0 rfl rfl dL_law_1333 rfl trivial ?_
  refine J_iload (q := 1336) C0 4 rfl dL_law_1334 rfl ?_
  refine J_iconst (q := 1337) (v := 1) C0 dL_law_1336 rfl rfl ?_
  refine J_iadd (q := 1338) C0 dL_law_1337 rfl ?_
  refine J_sld (q := 1339) C (lw_ix hi.1 hi.2 hL (by decide)) dL_law_1338 rfl ?_
  refine J_aload_n (q := 1340) C0 0 rfl rfl dL_law_1339 rfl trivial ?_
  refine J_iload (q := 1342) C0 4 rfl dL_law_1340 rfl ?_
  refine J_iconst (q := 1343) (v := 2) C0 dL_law_1342 rfl rfl ?_
  refine J_iadd (q := 1344) C0 dL_law_1343 rfl ?_
  refine J_sld (q := 1345) C (lw_ix hi.1 hi.2 hL (by decide)) dL_law_1344 rfl ?_
  refine J_aload_n (q := 1346) C0 0 rfl rfl dL_law_1345 rfl trivial ?_
  refine J_iload (q := 1348) C0 4 rfl dL_law_1346 rfl ?_
  refine J_iconst (q := 1349) (v := 3) C0 dL_law_1348 rfl rfl ?_
  refine J_iadd (q := 1350) C0 dL_law_1349 rfl ?_
  refine J_sld (q := 1351) C (lw_ix hi.1 hi.2 hL (by decide)) dL_law_1350 rfl ?_
  have hf_ : (if xs (i + 3).toNatClampNeg = 0 then some () else some ()) = some () := by split <;> rfl
  refine J_if_eq (t := 1358) (q := 1354) C0 dL_law_1351 (by decide) rfl hf_ (fun c_ _ => absurd c_ hz) (fun _ _ => ?_)
  refine J_iconst (q := 1355) (v := 1) C0 dL_law_1354 rfl rfl ?_
  refine J_goto (q := 1359) C0 dL_law_1355 (by decide) ?_
  obtain ⟨p, p_, hp, hq, he, hI2⟩ := so (xs (i + 1).toNatClampNeg) (xs (i + 2).toNatClampNeg) (1) σ hI
  refine J_callV (q := 1362) (ci := 10) (as := [vi (xs (i + 1).toNatClampNeg), vi (xs (i + 2).toNatClampNeg), vi (1)]) (rest := []) C0 rfl (hB.2.1) (t_X11_kinds N 0 (xs (i + 1).toNatClampNeg) (xs (i + 2).toNatClampNeg) (1) (hB.2.1) hp) ml_X11_kinds lk_L_164 im_X11_kinds se_X11_kinds rfl (by decide) dL_law_1359 rfl rfl rfl (by simp [ac_]) C.room (Nat.le_of_ble_eq_true rfl) (Nat.le_of_ble_eq_true rfl) (by omega) (by omega) (fun r_ τ_ hQ => ?_)
  obtain ⟨rfl, ht_⟩ := hQ; subst ht_
  show J_ Γ 1362 (lw_lv i) [vi (p)] _ k n
  refine J_aload_n (q := 1363) C0 2 rfl rfl dL_law_1362 rfl trivial ?_
  refine J_aload_n (q := 1364) C0 0 rfl rfl dL_law_1363 rfl trivial ?_
  refine J_iload (q := 1366) C0 4 rfl dL_law_1364 rfl ?_
  refine J_iconst (q := 1367) (v := 1) C0 dL_law_1366 rfl rfl ?_
  refine J_iadd (q := 1368) C0 dL_law_1367 rfl ?_
  refine J_sld (q := 1369) C (lw_ix hi.1 hi.2 hL (by decide)) dL_law_1368 rfl ?_
  refine J_aload_n (q := 1370) C0 0 rfl rfl dL_law_1369 rfl trivial ?_
  refine J_iload (q := 1372) C0 4 rfl dL_law_1370 rfl ?_
  refine J_iconst (q := 1373) (v := 2) C0 dL_law_1372 rfl rfl ?_
  refine J_iadd (q := 1374) C0 dL_law_1373 rfl ?_
  refine J_sld (q := 1375) C (lw_ix hi.1 hi.2 hL (by decide)) dL_law_1374 rfl ?_
  refine J_aload_n (q := 1376) C0 0 rfl rfl dL_law_1375 rfl trivial ?_
  refine J_iload (q := 1378) C0 4 rfl dL_law_1376 rfl ?_
  refine J_iconst (q := 1379) (v := 3) C0 dL_law_1378 rfl rfl ?_
  refine J_iadd (q := 1380) C0 dL_law_1379 rfl ?_
  refine J_sld (q := 1381) C (lw_ix hi.1 hi.2 hL (by decide)) dL_law_1380 rfl ?_
  have hf_ : (if xs (i + 3).toNatClampNeg = 0 then some () else some ()) = some () := by split <;> rfl
  refine J_if_eq (t := 1388) (q := 1384) C0 dL_law_1381 (by decide) rfl hf_ (fun c_ _ => absurd c_ hz) (fun _ _ => ?_)
  refine J_iconst (q := 1385) (v := 1) C0 dL_law_1384 rfl rfl ?_
  refine J_goto (q := 1389) C0 dL_law_1385 (by decide) ?_
  refine J_callV (q := 1392) (ci := 11) (as := [vi (xs (i + 1).toNatClampNeg), vi (xs (i + 2).toNatClampNeg), vi (1)]) (rest := [vi (p)]) C0 rfl (hB.2.2.1) (t_X12_kinds N 344 (xs (i + 1).toNatClampNeg) (xs (i + 2).toNatClampNeg) (1) (hB.1) (hB.2.2.1) hq) ml_X12_kinds lk_L_167 im_X12_kinds se_X12_kinds rfl (by decide) dL_law_1389 rfl rfl rfl (by simp [ac_]) C.room (Nat.le_of_ble_eq_true rfl) (Nat.le_of_ble_eq_true rfl) (by omega) (by omega) (fun r_ τ_ hQ => ?_)
  obtain ⟨rfl, ht_⟩ := hQ; subst ht_
  show J_ Γ 1392 (lw_lv i) [vi (p_), vi (p)] _ k n
  have hf_ : (if p = p_ then some () else some ()) = some () := by split <;> rfl
  refine J_icmp_eq (t := 1772) (q := 1395) C0 dL_law_1392 (by decide) rfl hf_ (fun _ _ => ?_) (fun c_ _ => absurd he c_)
  exact J_widen (by omega) (by omega) (kk _ hI2 ⟨hB.1, hB.2.1, hB.2.2.1, hB.2.2.2.1, hB.2.2.2.2⟩)
theorem lw_c33 {Γ : Gm} {b L : Nat} {xs : Nat → Int32} (C : CLw Γ b L xs) {Inv : Sg → Prop} {N : Nat} (so : so_kinds Inv N) {σ : Sg} (hI : Inv σ) (hB : lw_B σ) {i : Int32} (hi : ¬ i < 0 ∧ i.toNatClampNeg + 6 ≤ L) (hL : L ≤ 3072) {k n : Nat} (hk : k + 3 ≤ 601024) (hn : n + 800 ≤ 7293034) (kk : ∀ τ, Inv τ → lw_B τ → J_ Γ 1772 (lw_lv i) [] τ (k + 3) (n + 800)) : J_ Γ 1332 (lw_lv i) [] σ k n := by
  by_cases hz : xs (i + 3).toNatClampNeg = 0
  · exact lw_c33a C so hI hB hi hL hz hk hn kk
  · exact lw_c33b C so hI hB hi hL hz hk hn kk
def so_noted (Inv : Sg → Prop) (N : Nat) : Prop := ∀ (x1 : Int32) (x2 : Int32) (x3 : Int32) (σ : Sg), Inv σ → ∃ p q, f_X11_noted 0 x1 x2 x3 σ = some p ∧ f_X12_noted 344 x1 x2 x3 p.2 = some q ∧ p.1 = q.1 ∧ Inv q.2
set_option maxHeartbeats 4000000 in
set_option maxRecDepth 100000 in
theorem lw_c34a {Γ : Gm} {b L : Nat} {xs : Nat → Int32} (C : CLw Γ b L xs) {Inv : Sg → Prop} {N : Nat} (so : so_noted Inv N) {σ : Sg} (hI : Inv σ) (hB : lw_B σ) {i : Int32} (hi : ¬ i < 0 ∧ i.toNatClampNeg + 6 ≤ L) (hL : L ≤ 3072) (hz : xs (i + 3).toNatClampNeg = 0) {k n : Nat} (hk : k + 3 ≤ 601024) (hn : n + 800 ≤ 7293034) (kk : ∀ τ, Inv τ → lw_B τ → J_ Γ 1772 (lw_lv i) [] τ (k + 3) (n + 800)) : J_ Γ 1397 (lw_lv i) [] σ k n := by
  have C0 := C.1
  refine J_aload_n (q := 1398) C0 1 rfl rfl dL_law_1397 rfl trivial ?_
  refine J_aload_n (q := 1399) C0 0 rfl rfl dL_law_1398 rfl trivial ?_
  refine J_iload (q := 1401) C0 4 rfl dL_law_1399 rfl ?_
  refine J_iconst (q := 1402) (v := 1) C0 dL_law_1401 rfl rfl ?_
  refine J_iadd (q := 1403) C0 dL_law_1402 rfl ?_
  refine J_sld (q := 1404) C (lw_ix hi.1 hi.2 hL (by decide)) dL_law_1403 rfl ?_
  refine J_aload_n (q := 1405) C0 0 rfl rfl dL_law_1404 rfl trivial ?_
  refine J_iload (q := 1407) C0 4 rfl dL_law_1405 rfl ?_
  refine J_iconst (q := 1408) (v := 2) C0 dL_law_1407 rfl rfl ?_
  refine J_iadd (q := 1409) C0 dL_law_1408 rfl ?_
  refine J_sld (q := 1410) C (lw_ix hi.1 hi.2 hL (by decide)) dL_law_1409 rfl ?_
  refine J_aload_n (q := 1411) C0 0 rfl rfl dL_law_1410 rfl trivial ?_
  refine J_iload (q := 1413) C0 4 rfl dL_law_1411 rfl ?_
  refine J_iconst (q := 1414) (v := 3) C0 dL_law_1413 rfl rfl ?_
  refine J_iadd (q := 1415) C0 dL_law_1414 rfl ?_
  refine J_sld (q := 1416) C (lw_ix hi.1 hi.2 hL (by decide)) dL_law_1415 rfl ?_
  have hf_ : (if xs (i + 3).toNatClampNeg = 0 then some () else some ()) = some () := by split <;> rfl
  refine J_if_eq (t := 1423) (q := 1419) C0 dL_law_1416 (by decide) rfl hf_ (fun _ _ => ?_) (fun c_ _ => absurd hz c_)
  refine J_iconst (q := 1424) (v := 0) C0 dL_law_1423 rfl rfl ?_
  obtain ⟨p, p_, hp, hq, he, hI2⟩ := so (xs (i + 1).toNatClampNeg) (xs (i + 2).toNatClampNeg) (0) σ hI
  refine J_callV (q := 1427) (ci := 10) (as := [vi (xs (i + 1).toNatClampNeg), vi (xs (i + 2).toNatClampNeg), vi (0)]) (rest := []) C0 rfl (hB.2.1) (t_X11_noted 0 (xs (i + 1).toNatClampNeg) (xs (i + 2).toNatClampNeg) (0) (hB.1) (hB.2.1) hp) ml_X11_noted lk_L_168 im_X11_noted se_X11_noted rfl (by decide) dL_law_1424 rfl rfl rfl (by simp [ac_]) C.room (Nat.le_of_ble_eq_true rfl) (Nat.le_of_ble_eq_true rfl) (by omega) (by omega) (fun r_ τ_ hQ => ?_)
  obtain ⟨rfl, ht_, T0, E0⟩ := hQ; subst ht_
  show J_ Γ 1427 (lw_lv i) [vi (p.1)] _ k n
  refine J_aload_n (q := 1428) C0 2 rfl rfl dL_law_1427 rfl trivial ?_
  refine J_aload_n (q := 1429) C0 0 rfl rfl dL_law_1428 rfl trivial ?_
  refine J_iload (q := 1431) C0 4 rfl dL_law_1429 rfl ?_
  refine J_iconst (q := 1432) (v := 1) C0 dL_law_1431 rfl rfl ?_
  refine J_iadd (q := 1433) C0 dL_law_1432 rfl ?_
  refine J_sld (q := 1434) C (lw_ix hi.1 hi.2 hL (by decide)) dL_law_1433 rfl ?_
  refine J_aload_n (q := 1435) C0 0 rfl rfl dL_law_1434 rfl trivial ?_
  refine J_iload (q := 1437) C0 4 rfl dL_law_1435 rfl ?_
  refine J_iconst (q := 1438) (v := 2) C0 dL_law_1437 rfl rfl ?_
  refine J_iadd (q := 1439) C0 dL_law_1438 rfl ?_
  refine J_sld (q := 1440) C (lw_ix hi.1 hi.2 hL (by decide)) dL_law_1439 rfl ?_
  refine J_aload_n (q := 1441) C0 0 rfl rfl dL_law_1440 rfl trivial ?_
  refine J_iload (q := 1443) C0 4 rfl dL_law_1441 rfl ?_
  refine J_iconst (q := 1444) (v := 3) C0 dL_law_1443 rfl rfl ?_
  refine J_iadd (q := 1445) C0 dL_law_1444 rfl ?_
  refine J_sld (q := 1446) C (lw_ix hi.1 hi.2 hL (by decide)) dL_law_1445 rfl ?_
  have hf_ : (if xs (i + 3).toNatClampNeg = 0 then some () else some ()) = some () := by split <;> rfl
  refine J_if_eq (t := 1453) (q := 1449) C0 dL_law_1446 (by decide) rfl hf_ (fun _ _ => ?_) (fun c_ _ => absurd hz c_)
  refine J_iconst (q := 1454) (v := 0) C0 dL_law_1453 rfl rfl ?_
  refine J_callV (q := 1457) (ci := 11) (as := [vi (xs (i + 1).toNatClampNeg), vi (xs (i + 2).toNatClampNeg), vi (0)]) (rest := [vi (p.1)]) C0 rfl (E0.at (hB.2.2.1)) (t_X12_noted 344 (xs (i + 1).toNatClampNeg) (xs (i + 2).toNatClampNeg) (0) (T0) (E0.at (hB.2.2.1)) hq) ml_X12_noted lk_L_171 im_X12_noted se_X12_noted rfl (by decide) dL_law_1454 rfl rfl rfl (by simp [ac_]) C.room (Nat.le_of_ble_eq_true rfl) (Nat.le_of_ble_eq_true rfl) (by omega) (by omega) (fun r_ τ_ hQ => ?_)
  obtain ⟨rfl, ht_, T1, E1⟩ := hQ; subst ht_
  show J_ Γ 1457 (lw_lv i) [vi (p_.1), vi (p.1)] _ k n
  have hf_ : (if p.1 = p_.1 then some () else some ()) = some () := by split <;> rfl
  refine J_icmp_eq (t := 1772) (q := 1460) C0 dL_law_1457 (by decide) rfl hf_ (fun _ _ => ?_) (fun c_ _ => absurd he c_)
  exact J_widen (by omega) (by omega) (kk _ hI2 ⟨T1, E1.at (E0.at (hB.2.1)), E1.at (E0.at (hB.2.2.1)), E1.at (E0.at (hB.2.2.2.1)), (by rw [(E1.2 370 (E0.at (hB.2.2.2.1)).1).2]; exact (by rw [(E0.2 370 (hB.2.2.2.1).1).2]; exact hB.2.2.2.2))⟩)
set_option maxHeartbeats 4000000 in
set_option maxRecDepth 100000 in
theorem lw_c34b {Γ : Gm} {b L : Nat} {xs : Nat → Int32} (C : CLw Γ b L xs) {Inv : Sg → Prop} {N : Nat} (so : so_noted Inv N) {σ : Sg} (hI : Inv σ) (hB : lw_B σ) {i : Int32} (hi : ¬ i < 0 ∧ i.toNatClampNeg + 6 ≤ L) (hL : L ≤ 3072) (hz : ¬ xs (i + 3).toNatClampNeg = 0) {k n : Nat} (hk : k + 3 ≤ 601024) (hn : n + 800 ≤ 7293034) (kk : ∀ τ, Inv τ → lw_B τ → J_ Γ 1772 (lw_lv i) [] τ (k + 3) (n + 800)) : J_ Γ 1397 (lw_lv i) [] σ k n := by
  have C0 := C.1
  refine J_aload_n (q := 1398) C0 1 rfl rfl dL_law_1397 rfl trivial ?_
  refine J_aload_n (q := 1399) C0 0 rfl rfl dL_law_1398 rfl trivial ?_
  refine J_iload (q := 1401) C0 4 rfl dL_law_1399 rfl ?_
  refine J_iconst (q := 1402) (v := 1) C0 dL_law_1401 rfl rfl ?_
  refine J_iadd (q := 1403) C0 dL_law_1402 rfl ?_
  refine J_sld (q := 1404) C (lw_ix hi.1 hi.2 hL (by decide)) dL_law_1403 rfl ?_
  refine J_aload_n (q := 1405) C0 0 rfl rfl dL_law_1404 rfl trivial ?_
  refine J_iload (q := 1407) C0 4 rfl dL_law_1405 rfl ?_
  refine J_iconst (q := 1408) (v := 2) C0 dL_law_1407 rfl rfl ?_
  refine J_iadd (q := 1409) C0 dL_law_1408 rfl ?_
  refine J_sld (q := 1410) C (lw_ix hi.1 hi.2 hL (by decide)) dL_law_1409 rfl ?_
  refine J_aload_n (q := 1411) C0 0 rfl rfl dL_law_1410 rfl trivial ?_
  refine J_iload (q := 1413) C0 4 rfl dL_law_1411 rfl ?_
  refine J_iconst (q := 1414) (v := 3) C0 dL_law_1413 rfl rfl ?_
  refine J_iadd (q := 1415) C0 dL_law_1414 rfl ?_
  refine J_sld (q := 1416) C (lw_ix hi.1 hi.2 hL (by decide)) dL_law_1415 rfl ?_
  have hf_ : (if xs (i + 3).toNatClampNeg = 0 then some () else some ()) = some () := by split <;> rfl
  refine J_if_eq (t := 1423) (q := 1419) C0 dL_law_1416 (by decide) rfl hf_ (fun c_ _ => absurd c_ hz) (fun _ _ => ?_)
  refine J_iconst (q := 1420) (v := 1) C0 dL_law_1419 rfl rfl ?_
  refine J_goto (q := 1424) C0 dL_law_1420 (by decide) ?_
  obtain ⟨p, p_, hp, hq, he, hI2⟩ := so (xs (i + 1).toNatClampNeg) (xs (i + 2).toNatClampNeg) (1) σ hI
  refine J_callV (q := 1427) (ci := 10) (as := [vi (xs (i + 1).toNatClampNeg), vi (xs (i + 2).toNatClampNeg), vi (1)]) (rest := []) C0 rfl (hB.2.1) (t_X11_noted 0 (xs (i + 1).toNatClampNeg) (xs (i + 2).toNatClampNeg) (1) (hB.1) (hB.2.1) hp) ml_X11_noted lk_L_168 im_X11_noted se_X11_noted rfl (by decide) dL_law_1424 rfl rfl rfl (by simp [ac_]) C.room (Nat.le_of_ble_eq_true rfl) (Nat.le_of_ble_eq_true rfl) (by omega) (by omega) (fun r_ τ_ hQ => ?_)
  obtain ⟨rfl, ht_, T0, E0⟩ := hQ; subst ht_
  show J_ Γ 1427 (lw_lv i) [vi (p.1)] _ k n
  refine J_aload_n (q := 1428) C0 2 rfl rfl dL_law_1427 rfl trivial ?_
  refine J_aload_n (q := 1429) C0 0 rfl rfl dL_law_1428 rfl trivial ?_
  refine J_iload (q := 1431) C0 4 rfl dL_law_1429 rfl ?_
  refine J_iconst (q := 1432) (v := 1) C0 dL_law_1431 rfl rfl ?_
  refine J_iadd (q := 1433) C0 dL_law_1432 rfl ?_
  refine J_sld (q := 1434) C (lw_ix hi.1 hi.2 hL (by decide)) dL_law_1433 rfl ?_
  refine J_aload_n (q := 1435) C0 0 rfl rfl dL_law_1434 rfl trivial ?_
  refine J_iload (q := 1437) C0 4 rfl dL_law_1435 rfl ?_
  refine J_iconst (q := 1438) (v := 2) C0 dL_law_1437 rfl rfl ?_
  refine J_iadd (q := 1439) C0 dL_law_1438 rfl ?_
  refine J_sld (q := 1440) C (lw_ix hi.1 hi.2 hL (by decide)) dL_law_1439 rfl ?_
  refine J_aload_n (q := 1441) C0 0 rfl rfl dL_law_1440 rfl trivial ?_
  refine J_iload (q := 1443) C0 4 rfl dL_law_1441 rfl ?_
  refine J_iconst (q := 1444) (v := 3) C0 dL_law_1443 rfl rfl ?_
  refine J_iadd (q := 1445) C0 dL_law_1444 rfl ?_
  refine J_sld (q := 1446) C (lw_ix hi.1 hi.2 hL (by decide)) dL_law_1445 rfl ?_
  have hf_ : (if xs (i + 3).toNatClampNeg = 0 then some () else some ()) = some () := by split <;> rfl
  refine J_if_eq (t := 1453) (q := 1449) C0 dL_law_1446 (by decide) rfl hf_ (fun c_ _ => absurd c_ hz) (fun _ _ => ?_)
  refine J_iconst (q := 1450) (v := 1) C0 dL_law_1449 rfl rfl ?_
  refine J_goto (q := 1454) C0 dL_law_1450 (by decide) ?_
  refine J_callV (q := 1457) (ci := 11) (as := [vi (xs (i + 1).toNatClampNeg), vi (xs (i + 2).toNatClampNeg), vi (1)]) (rest := [vi (p.1)]) C0 rfl (E0.at (hB.2.2.1)) (t_X12_noted 344 (xs (i + 1).toNatClampNeg) (xs (i + 2).toNatClampNeg) (1) (T0) (E0.at (hB.2.2.1)) hq) ml_X12_noted lk_L_171 im_X12_noted se_X12_noted rfl (by decide) dL_law_1454 rfl rfl rfl (by simp [ac_]) C.room (Nat.le_of_ble_eq_true rfl) (Nat.le_of_ble_eq_true rfl) (by omega) (by omega) (fun r_ τ_ hQ => ?_)
  obtain ⟨rfl, ht_, T1, E1⟩ := hQ; subst ht_
  show J_ Γ 1457 (lw_lv i) [vi (p_.1), vi (p.1)] _ k n
  have hf_ : (if p.1 = p_.1 then some () else some ()) = some () := by split <;> rfl
  refine J_icmp_eq (t := 1772) (q := 1460) C0 dL_law_1457 (by decide) rfl hf_ (fun _ _ => ?_) (fun c_ _ => absurd he c_)
  exact J_widen (by omega) (by omega) (kk _ hI2 ⟨T1, E1.at (E0.at (hB.2.1)), E1.at (E0.at (hB.2.2.1)), E1.at (E0.at (hB.2.2.2.1)), (by rw [(E1.2 370 (E0.at (hB.2.2.2.1)).1).2]; exact (by rw [(E0.2 370 (hB.2.2.2.1).1).2]; exact hB.2.2.2.2))⟩)
theorem lw_c34 {Γ : Gm} {b L : Nat} {xs : Nat → Int32} (C : CLw Γ b L xs) {Inv : Sg → Prop} {N : Nat} (so : so_noted Inv N) {σ : Sg} (hI : Inv σ) (hB : lw_B σ) {i : Int32} (hi : ¬ i < 0 ∧ i.toNatClampNeg + 6 ≤ L) (hL : L ≤ 3072) {k n : Nat} (hk : k + 3 ≤ 601024) (hn : n + 800 ≤ 7293034) (kk : ∀ τ, Inv τ → lw_B τ → J_ Γ 1772 (lw_lv i) [] τ (k + 3) (n + 800)) : J_ Γ 1397 (lw_lv i) [] σ k n := by
  by_cases hz : xs (i + 3).toNatClampNeg = 0
  · exact lw_c34a C so hI hB hi hL hz hk hn kk
  · exact lw_c34b C so hI hB hi hL hz hk hn kk
def so_fits (Inv : Sg → Prop) (N : Nat) : Prop := ∀ (x1 : Int32) (σ : Sg), Inv σ → ∃ p q, f_X11_fits N 0 x1 σ = some p ∧ f_X12_fits N 344 x1 p.2 = some q ∧ p.1 = q ∧ Inv p.2
set_option maxHeartbeats 4000000 in
set_option maxRecDepth 100000 in
theorem lw_c35 {Γ : Gm} {b L : Nat} {xs : Nat → Int32} (C : CLw Γ b L xs) {Inv : Sg → Prop} {N : Nat} (so : so_fits Inv N) {σ : Sg} (hI : Inv σ) (hB : lw_B σ) {i : Int32} (hi : ¬ i < 0 ∧ i.toNatClampNeg + 6 ≤ L) (hL : L ≤ 3072) {k n : Nat} (hk : k + 3 ≤ 601024) (hn : n + 800 ≤ 7293034) (kk : ∀ τ, Inv τ → lw_B τ → J_ Γ 1772 (lw_lv i) [] τ (k + 3) (n + 800)) : J_ Γ 1462 (lw_lv i) [] σ k n := by
  have C0 := C.1
  refine J_aload_n (q := 1463) C0 1 rfl rfl dL_law_1462 rfl trivial ?_
  refine J_aload_n (q := 1464) C0 0 rfl rfl dL_law_1463 rfl trivial ?_
  refine J_iload (q := 1466) C0 4 rfl dL_law_1464 rfl ?_
  refine J_iconst (q := 1467) (v := 1) C0 dL_law_1466 rfl rfl ?_
  refine J_iadd (q := 1468) C0 dL_law_1467 rfl ?_
  refine J_sld (q := 1469) C (lw_ix hi.1 hi.2 hL (by decide)) dL_law_1468 rfl ?_
  obtain ⟨p, p_, hp, hq, he, hI2⟩ := so (xs (i + 1).toNatClampNeg) σ hI
  refine J_callV (q := 1472) (ci := 10) (as := [vi (xs (i + 1).toNatClampNeg)]) (rest := []) C0 rfl (hB.2.1) (t_X11_fits N 0 (xs (i + 1).toNatClampNeg) (hB.1) (hB.2.1) hp) ml_X11_fits lk_L_172 im_X11_fits se_X11_fits rfl (by decide) dL_law_1469 rfl rfl rfl (by simp [ac_]) C.room (Nat.le_of_ble_eq_true rfl) (Nat.le_of_ble_eq_true rfl) (by omega) (by omega) (fun r_ τ_ hQ => ?_)
  obtain ⟨rfl, ht_, T0, E0⟩ := hQ; subst ht_
  show J_ Γ 1472 (lw_lv i) [vi (p.1)] _ k n
  refine J_aload_n (q := 1473) C0 2 rfl rfl dL_law_1472 rfl trivial ?_
  refine J_aload_n (q := 1474) C0 0 rfl rfl dL_law_1473 rfl trivial ?_
  refine J_iload (q := 1476) C0 4 rfl dL_law_1474 rfl ?_
  refine J_iconst (q := 1477) (v := 1) C0 dL_law_1476 rfl rfl ?_
  refine J_iadd (q := 1478) C0 dL_law_1477 rfl ?_
  refine J_sld (q := 1479) C (lw_ix hi.1 hi.2 hL (by decide)) dL_law_1478 rfl ?_
  refine J_callV (q := 1482) (ci := 11) (as := [vi (xs (i + 1).toNatClampNeg)]) (rest := [vi (p.1)]) C0 rfl (E0.at (hB.2.2.1)) (t_X12_fits N 344 (xs (i + 1).toNatClampNeg) (T0) (E0.at (hB.2.2.1)) hq) ml_X12_fits lk_L_175 im_X12_fits se_X12_fits rfl (by decide) dL_law_1479 rfl rfl rfl (by simp [ac_]) C.room (Nat.le_of_ble_eq_true rfl) (Nat.le_of_ble_eq_true rfl) (by omega) (by omega) (fun r_ τ_ hQ => ?_)
  obtain ⟨rfl, ht_⟩ := hQ; subst ht_
  show J_ Γ 1482 (lw_lv i) [vi (p_), vi (p.1)] _ k n
  have hf_ : (if p.1 = p_ then some () else some ()) = some () := by split <;> rfl
  refine J_icmp_eq (t := 1772) (q := 1485) C0 dL_law_1482 (by decide) rfl hf_ (fun _ _ => ?_) (fun c_ _ => absurd he c_)
  exact J_widen (by omega) (by omega) (kk _ hI2 ⟨T0, E0.at (hB.2.1), E0.at (hB.2.2.1), E0.at (hB.2.2.2.1), (by rw [(E0.2 370 (hB.2.2.2.1).1).2]; exact hB.2.2.2.2)⟩)
def so_ask (Inv : Sg → Prop) (N : Nat) : Prop := ∀ (σ : Sg), Inv σ → ∃ p q, f_X11_ask N 0  σ = some p ∧ f_X12_ask N 344  p.2 = some q ∧ p.1 = q.1 ∧ Inv q.2
set_option maxHeartbeats 4000000 in
set_option maxRecDepth 100000 in
theorem lw_c36 {Γ : Gm} {b L : Nat} {xs : Nat → Int32} (C : CLw Γ b L xs) {Inv : Sg → Prop} {N : Nat} (so : so_ask Inv N) {σ : Sg} (hI : Inv σ) (hB : lw_B σ) {i : Int32} (hi : ¬ i < 0 ∧ i.toNatClampNeg + 6 ≤ L) (hL : L ≤ 3072) {k n : Nat} (hk : k + 3 ≤ 601024) (hn : n + 800 ≤ 7293034) (kk : ∀ τ, Inv τ → lw_B τ → J_ Γ 1772 (lw_lv i) [] τ (k + 3) (n + 800)) : J_ Γ 1487 (lw_lv i) [] σ k n := by
  have C0 := C.1
  refine J_aload_n (q := 1488) C0 1 rfl rfl dL_law_1487 rfl trivial ?_
  obtain ⟨p, p_, hp, hq, he, hI2⟩ := so  σ hI
  refine J_callV (q := 1491) (ci := 10) (as := []) (rest := []) C0 rfl (hB.2.1) (t_X11_ask N 0  (hB.1) (hB.2.1) hp) ml_X11_ask lk_L_176 im_X11_ask se_X11_ask rfl (by decide) dL_law_1488 rfl rfl rfl (by simp [ac_]) C.room (Nat.le_of_ble_eq_true rfl) (Nat.le_of_ble_eq_true rfl) (by omega) (by omega) (fun r_ τ_ hQ => ?_)
  obtain ⟨rfl, ht_, T0, E0⟩ := hQ; subst ht_
  show J_ Γ 1491 (lw_lv i) [vi (p.1)] _ k n
  refine J_aload_n (q := 1492) C0 2 rfl rfl dL_law_1491 rfl trivial ?_
  refine J_callV (q := 1495) (ci := 11) (as := []) (rest := [vi (p.1)]) C0 rfl (E0.at (hB.2.2.1)) (t_X12_ask N 344  (T0) (E0.at (hB.2.2.1)) hq) ml_X12_ask lk_L_179 im_X12_ask se_X12_ask rfl (by decide) dL_law_1492 rfl rfl rfl (by simp [ac_]) C.room (Nat.le_of_ble_eq_true rfl) (Nat.le_of_ble_eq_true rfl) (by omega) (by omega) (fun r_ τ_ hQ => ?_)
  obtain ⟨rfl, ht_, T1, E1⟩ := hQ; subst ht_
  show J_ Γ 1495 (lw_lv i) [vi (p_.1), vi (p.1)] _ k n
  have hf_ : (if p.1 = p_.1 then some () else some ()) = some () := by split <;> rfl
  refine J_icmp_eq (t := 1772) (q := 1498) C0 dL_law_1495 (by decide) rfl hf_ (fun _ _ => ?_) (fun c_ _ => absurd he c_)
  exact J_widen (by omega) (by omega) (kk _ hI2 ⟨T1, E1.at (E0.at (hB.2.1)), E1.at (E0.at (hB.2.2.1)), E1.at (E0.at (hB.2.2.2.1)), (by rw [(E1.2 370 (E0.at (hB.2.2.2.1)).1).2]; exact (by rw [(E0.2 370 (hB.2.2.2.1).1).2]; exact hB.2.2.2.2))⟩)
def so_game (Inv : Sg → Prop) (N : Nat) : Prop := ∀ (x1 : Int32) (x2 : Int32) (x3 : Int32) (x4 : Int32) (σ : Sg), Inv σ → ∃ p q, f_X11_game N 0 x1 x2 x3 x4 σ = some p ∧ f_X12_game N 344 x1 x2 x3 x4 σ = some q ∧ p = q ∧ Inv σ
set_option maxHeartbeats 4000000 in
set_option maxRecDepth 100000 in
theorem lw_c37 {Γ : Gm} {b L : Nat} {xs : Nat → Int32} (C : CLw Γ b L xs) {Inv : Sg → Prop} {N : Nat} (so : so_game Inv N) {σ : Sg} (hI : Inv σ) (hB : lw_B σ) {i : Int32} (hi : ¬ i < 0 ∧ i.toNatClampNeg + 6 ≤ L) (hL : L ≤ 3072) {k n : Nat} (hk : k + 3 ≤ 601024) (hn : n + 800 ≤ 7293034) (kk : ∀ τ, Inv τ → lw_B τ → J_ Γ 1772 (lw_lv i) [] τ (k + 3) (n + 800)) : J_ Γ 1500 (lw_lv i) [] σ k n := by
  have C0 := C.1
  refine J_aload_n (q := 1501) C0 1 rfl rfl dL_law_1500 rfl trivial ?_
  refine J_aload_n (q := 1502) C0 0 rfl rfl dL_law_1501 rfl trivial ?_
  refine J_iload (q := 1504) C0 4 rfl dL_law_1502 rfl ?_
  refine J_iconst (q := 1505) (v := 1) C0 dL_law_1504 rfl rfl ?_
  refine J_iadd (q := 1506) C0 dL_law_1505 rfl ?_
  refine J_sld (q := 1507) C (lw_ix hi.1 hi.2 hL (by decide)) dL_law_1506 rfl ?_
  refine J_aload_n (q := 1508) C0 0 rfl rfl dL_law_1507 rfl trivial ?_
  refine J_iload (q := 1510) C0 4 rfl dL_law_1508 rfl ?_
  refine J_iconst (q := 1511) (v := 2) C0 dL_law_1510 rfl rfl ?_
  refine J_iadd (q := 1512) C0 dL_law_1511 rfl ?_
  refine J_sld (q := 1513) C (lw_ix hi.1 hi.2 hL (by decide)) dL_law_1512 rfl ?_
  refine J_aload_n (q := 1514) C0 0 rfl rfl dL_law_1513 rfl trivial ?_
  refine J_iload (q := 1516) C0 4 rfl dL_law_1514 rfl ?_
  refine J_iconst (q := 1517) (v := 3) C0 dL_law_1516 rfl rfl ?_
  refine J_iadd (q := 1518) C0 dL_law_1517 rfl ?_
  refine J_sld (q := 1519) C (lw_ix hi.1 hi.2 hL (by decide)) dL_law_1518 rfl ?_
  refine J_aload_n (q := 1520) C0 0 rfl rfl dL_law_1519 rfl trivial ?_
  refine J_iload (q := 1522) C0 4 rfl dL_law_1520 rfl ?_
  refine J_iconst (q := 1523) (v := 4) C0 dL_law_1522 rfl rfl ?_
  refine J_iadd (q := 1524) C0 dL_law_1523 rfl ?_
  refine J_sld (q := 1525) C (lw_ix hi.1 hi.2 hL (by decide)) dL_law_1524 rfl ?_
  obtain ⟨p, p_, hp, hq, he, hI2⟩ := so (xs (i + 1).toNatClampNeg) (xs (i + 2).toNatClampNeg) (xs (i + 3).toNatClampNeg) (xs (i + 4).toNatClampNeg) σ hI
  refine J_callV (q := 1528) (ci := 10) (as := [vi (xs (i + 1).toNatClampNeg), vi (xs (i + 2).toNatClampNeg), vi (xs (i + 3).toNatClampNeg), vi (xs (i + 4).toNatClampNeg)]) (rest := []) C0 rfl (hB.2.1) (t_X11_game N 0 (xs (i + 1).toNatClampNeg) (xs (i + 2).toNatClampNeg) (xs (i + 3).toNatClampNeg) (xs (i + 4).toNatClampNeg) (hB.1) (hB.2.1) hp) ml_X11_game lk_L_180 im_X11_game se_X11_game rfl (by decide) dL_law_1525 rfl rfl rfl (by simp [ac_]) C.room (Nat.le_of_ble_eq_true rfl) (Nat.le_of_ble_eq_true rfl) (by omega) (by omega) (fun r_ τ_ hQ => ?_)
  obtain ⟨rfl, ht_⟩ := hQ; subst ht_
  show J_ Γ 1528 (lw_lv i) [vi (p)] _ k n
  refine J_aload_n (q := 1529) C0 2 rfl rfl dL_law_1528 rfl trivial ?_
  refine J_aload_n (q := 1530) C0 0 rfl rfl dL_law_1529 rfl trivial ?_
  refine J_iload (q := 1532) C0 4 rfl dL_law_1530 rfl ?_
  refine J_iconst (q := 1533) (v := 1) C0 dL_law_1532 rfl rfl ?_
  refine J_iadd (q := 1534) C0 dL_law_1533 rfl ?_
  refine J_sld (q := 1535) C (lw_ix hi.1 hi.2 hL (by decide)) dL_law_1534 rfl ?_
  refine J_aload_n (q := 1536) C0 0 rfl rfl dL_law_1535 rfl trivial ?_
  refine J_iload (q := 1538) C0 4 rfl dL_law_1536 rfl ?_
  refine J_iconst (q := 1539) (v := 2) C0 dL_law_1538 rfl rfl ?_
  refine J_iadd (q := 1540) C0 dL_law_1539 rfl ?_
  refine J_sld (q := 1541) C (lw_ix hi.1 hi.2 hL (by decide)) dL_law_1540 rfl ?_
  refine J_aload_n (q := 1542) C0 0 rfl rfl dL_law_1541 rfl trivial ?_
  refine J_iload (q := 1544) C0 4 rfl dL_law_1542 rfl ?_
  refine J_iconst (q := 1545) (v := 3) C0 dL_law_1544 rfl rfl ?_
  refine J_iadd (q := 1546) C0 dL_law_1545 rfl ?_
  refine J_sld (q := 1547) C (lw_ix hi.1 hi.2 hL (by decide)) dL_law_1546 rfl ?_
  refine J_aload_n (q := 1548) C0 0 rfl rfl dL_law_1547 rfl trivial ?_
  refine J_iload (q := 1550) C0 4 rfl dL_law_1548 rfl ?_
  refine J_iconst (q := 1551) (v := 4) C0 dL_law_1550 rfl rfl ?_
  refine J_iadd (q := 1552) C0 dL_law_1551 rfl ?_
  refine J_sld (q := 1553) C (lw_ix hi.1 hi.2 hL (by decide)) dL_law_1552 rfl ?_
  refine J_callV (q := 1556) (ci := 11) (as := [vi (xs (i + 1).toNatClampNeg), vi (xs (i + 2).toNatClampNeg), vi (xs (i + 3).toNatClampNeg), vi (xs (i + 4).toNatClampNeg)]) (rest := [vi (p)]) C0 rfl (hB.2.2.1) (t_X12_game N 344 (xs (i + 1).toNatClampNeg) (xs (i + 2).toNatClampNeg) (xs (i + 3).toNatClampNeg) (xs (i + 4).toNatClampNeg) (hB.1) (hB.2.2.1) hq) ml_X12_game lk_L_184 im_X12_game se_X12_game rfl (by decide) dL_law_1553 rfl rfl rfl (by simp [ac_]) C.room (Nat.le_of_ble_eq_true rfl) (Nat.le_of_ble_eq_true rfl) (by omega) (by omega) (fun r_ τ_ hQ => ?_)
  obtain ⟨rfl, ht_⟩ := hQ; subst ht_
  show J_ Γ 1556 (lw_lv i) [vi (p_), vi (p)] _ k n
  have hf_ : (if p = p_ then some () else some ()) = some () := by split <;> rfl
  refine J_icmp_eq (t := 1772) (q := 1559) C0 dL_law_1556 (by decide) rfl hf_ (fun _ _ => ?_) (fun c_ _ => absurd he c_)
  exact J_widen (by omega) (by omega) (kk _ hI2 ⟨hB.1, hB.2.1, hB.2.2.1, hB.2.2.2.1, hB.2.2.2.2⟩)
def so_rests (Inv : Sg → Prop) (N : Nat) : Prop := ∀ (x1 : Int32) (x2 : Int32) (σ : Sg), Inv σ → ∃ p q, f_X11_rests N 0 x1 x2 σ = some p ∧ f_X12_rests N 344 x1 x2 σ = some q ∧ p = q ∧ Inv σ
set_option maxHeartbeats 4000000 in
set_option maxRecDepth 100000 in
theorem lw_c38 {Γ : Gm} {b L : Nat} {xs : Nat → Int32} (C : CLw Γ b L xs) {Inv : Sg → Prop} {N : Nat} (so : so_rests Inv N) {σ : Sg} (hI : Inv σ) (hB : lw_B σ) {i : Int32} (hi : ¬ i < 0 ∧ i.toNatClampNeg + 6 ≤ L) (hL : L ≤ 3072) {k n : Nat} (hk : k + 3 ≤ 601024) (hn : n + 800 ≤ 7293034) (kk : ∀ τ, Inv τ → lw_B τ → J_ Γ 1772 (lw_lv i) [] τ (k + 3) (n + 800)) : J_ Γ 1561 (lw_lv i) [] σ k n := by
  have C0 := C.1
  refine J_aload_n (q := 1562) C0 1 rfl rfl dL_law_1561 rfl trivial ?_
  refine J_aload_n (q := 1563) C0 0 rfl rfl dL_law_1562 rfl trivial ?_
  refine J_iload (q := 1565) C0 4 rfl dL_law_1563 rfl ?_
  refine J_iconst (q := 1566) (v := 1) C0 dL_law_1565 rfl rfl ?_
  refine J_iadd (q := 1567) C0 dL_law_1566 rfl ?_
  refine J_sld (q := 1568) C (lw_ix hi.1 hi.2 hL (by decide)) dL_law_1567 rfl ?_
  refine J_aload_n (q := 1569) C0 0 rfl rfl dL_law_1568 rfl trivial ?_
  refine J_iload (q := 1571) C0 4 rfl dL_law_1569 rfl ?_
  refine J_iconst (q := 1572) (v := 2) C0 dL_law_1571 rfl rfl ?_
  refine J_iadd (q := 1573) C0 dL_law_1572 rfl ?_
  refine J_sld (q := 1574) C (lw_ix hi.1 hi.2 hL (by decide)) dL_law_1573 rfl ?_
  obtain ⟨p, p_, hp, hq, he, hI2⟩ := so (xs (i + 1).toNatClampNeg) (xs (i + 2).toNatClampNeg) σ hI
  refine J_callV (q := 1577) (ci := 10) (as := [vi (xs (i + 1).toNatClampNeg), vi (xs (i + 2).toNatClampNeg)]) (rest := []) C0 rfl (hB.2.1) (t_X11_rests N 0 (xs (i + 1).toNatClampNeg) (xs (i + 2).toNatClampNeg) (hB.1) (hB.2.1) hp) ml_X11_rests lk_L_185 im_X11_rests se_X11_rests rfl (by decide) dL_law_1574 rfl rfl rfl (by simp [ac_]) C.room (Nat.le_of_ble_eq_true rfl) (Nat.le_of_ble_eq_true rfl) (by omega) (by omega) (fun r_ τ_ hQ => ?_)
  obtain ⟨rfl, ht_⟩ := hQ; subst ht_
  show J_ Γ 1577 (lw_lv i) [vi (p)] _ k n
  refine J_aload_n (q := 1578) C0 2 rfl rfl dL_law_1577 rfl trivial ?_
  refine J_aload_n (q := 1579) C0 0 rfl rfl dL_law_1578 rfl trivial ?_
  refine J_iload (q := 1581) C0 4 rfl dL_law_1579 rfl ?_
  refine J_iconst (q := 1582) (v := 1) C0 dL_law_1581 rfl rfl ?_
  refine J_iadd (q := 1583) C0 dL_law_1582 rfl ?_
  refine J_sld (q := 1584) C (lw_ix hi.1 hi.2 hL (by decide)) dL_law_1583 rfl ?_
  refine J_aload_n (q := 1585) C0 0 rfl rfl dL_law_1584 rfl trivial ?_
  refine J_iload (q := 1587) C0 4 rfl dL_law_1585 rfl ?_
  refine J_iconst (q := 1588) (v := 2) C0 dL_law_1587 rfl rfl ?_
  refine J_iadd (q := 1589) C0 dL_law_1588 rfl ?_
  refine J_sld (q := 1590) C (lw_ix hi.1 hi.2 hL (by decide)) dL_law_1589 rfl ?_
  refine J_callV (q := 1593) (ci := 11) (as := [vi (xs (i + 1).toNatClampNeg), vi (xs (i + 2).toNatClampNeg)]) (rest := [vi (p)]) C0 rfl (hB.2.2.1) (t_X12_rests N 344 (xs (i + 1).toNatClampNeg) (xs (i + 2).toNatClampNeg) (hB.1) (hB.2.2.1) hq) ml_X12_rests lk_L_188 im_X12_rests se_X12_rests rfl (by decide) dL_law_1590 rfl rfl rfl (by simp [ac_]) C.room (Nat.le_of_ble_eq_true rfl) (Nat.le_of_ble_eq_true rfl) (by omega) (by omega) (fun r_ τ_ hQ => ?_)
  obtain ⟨rfl, ht_⟩ := hQ; subst ht_
  show J_ Γ 1593 (lw_lv i) [vi (p_), vi (p)] _ k n
  have hf_ : (if p = p_ then some () else some ()) = some () := by split <;> rfl
  refine J_icmp_eq (t := 1772) (q := 1596) C0 dL_law_1593 (by decide) rfl hf_ (fun _ _ => ?_) (fun c_ _ => absurd he c_)
  exact J_widen (by omega) (by omega) (kk _ hI2 ⟨hB.1, hB.2.1, hB.2.2.1, hB.2.2.2.1, hB.2.2.2.2⟩)
def so_odds (Inv : Sg → Prop) (N : Nat) : Prop := ∀ (x1 : Int32) (x2 : Int32) (x3 : Int32) (x4 : Int32) (σ : Sg), Inv σ → ∃ p q, f_X11_odds N 0 x1 x2 x3 x4 σ = some p ∧ f_X12_odds N 344 x1 x2 x3 x4 p.2 = some q ∧ p.1 = q.1 ∧ Inv q.2
set_option maxHeartbeats 4000000 in
set_option maxRecDepth 100000 in
theorem lw_c39 {Γ : Gm} {b L : Nat} {xs : Nat → Int32} (C : CLw Γ b L xs) {Inv : Sg → Prop} {N : Nat} (so : so_odds Inv N) {σ : Sg} (hI : Inv σ) (hB : lw_B σ) {i : Int32} (hi : ¬ i < 0 ∧ i.toNatClampNeg + 6 ≤ L) (hL : L ≤ 3072) {k n : Nat} (hk : k + 3 ≤ 601024) (hn : n + 800 ≤ 7293034) (kk : ∀ τ, Inv τ → lw_B τ → J_ Γ 1772 (lw_lv i) [] τ (k + 3) (n + 800)) : J_ Γ 1598 (lw_lv i) [] σ k n := by
  have C0 := C.1
  refine J_aload_n (q := 1599) C0 1 rfl rfl dL_law_1598 rfl trivial ?_
  refine J_aload_n (q := 1600) C0 0 rfl rfl dL_law_1599 rfl trivial ?_
  refine J_iload (q := 1602) C0 4 rfl dL_law_1600 rfl ?_
  refine J_iconst (q := 1603) (v := 1) C0 dL_law_1602 rfl rfl ?_
  refine J_iadd (q := 1604) C0 dL_law_1603 rfl ?_
  refine J_sld (q := 1605) C (lw_ix hi.1 hi.2 hL (by decide)) dL_law_1604 rfl ?_
  refine J_aload_n (q := 1606) C0 0 rfl rfl dL_law_1605 rfl trivial ?_
  refine J_iload (q := 1608) C0 4 rfl dL_law_1606 rfl ?_
  refine J_iconst (q := 1609) (v := 2) C0 dL_law_1608 rfl rfl ?_
  refine J_iadd (q := 1610) C0 dL_law_1609 rfl ?_
  refine J_sld (q := 1611) C (lw_ix hi.1 hi.2 hL (by decide)) dL_law_1610 rfl ?_
  refine J_aload_n (q := 1612) C0 0 rfl rfl dL_law_1611 rfl trivial ?_
  refine J_iload (q := 1614) C0 4 rfl dL_law_1612 rfl ?_
  refine J_iconst (q := 1615) (v := 3) C0 dL_law_1614 rfl rfl ?_
  refine J_iadd (q := 1616) C0 dL_law_1615 rfl ?_
  refine J_sld (q := 1617) C (lw_ix hi.1 hi.2 hL (by decide)) dL_law_1616 rfl ?_
  refine J_aload_n (q := 1618) C0 0 rfl rfl dL_law_1617 rfl trivial ?_
  refine J_iload (q := 1620) C0 4 rfl dL_law_1618 rfl ?_
  refine J_iconst (q := 1621) (v := 4) C0 dL_law_1620 rfl rfl ?_
  refine J_iadd (q := 1622) C0 dL_law_1621 rfl ?_
  refine J_sld (q := 1623) C (lw_ix hi.1 hi.2 hL (by decide)) dL_law_1622 rfl ?_
  obtain ⟨p, p_, hp, hq, he, hI2⟩ := so (xs (i + 1).toNatClampNeg) (xs (i + 2).toNatClampNeg) (xs (i + 3).toNatClampNeg) (xs (i + 4).toNatClampNeg) σ hI
  refine J_callV (q := 1626) (ci := 10) (as := [vi (xs (i + 1).toNatClampNeg), vi (xs (i + 2).toNatClampNeg), vi (xs (i + 3).toNatClampNeg), vi (xs (i + 4).toNatClampNeg)]) (rest := []) C0 rfl (hB.2.1) (t_X11_odds N 0 (xs (i + 1).toNatClampNeg) (xs (i + 2).toNatClampNeg) (xs (i + 3).toNatClampNeg) (xs (i + 4).toNatClampNeg) (hB.1) (hB.2.1) hp) ml_X11_odds lk_L_189 im_X11_odds se_X11_odds rfl (by decide) dL_law_1623 rfl rfl rfl (by simp [ac_]) C.room (Nat.le_of_ble_eq_true rfl) (Nat.le_of_ble_eq_true rfl) (by omega) (by omega) (fun r_ τ_ hQ => ?_)
  obtain ⟨rfl, ht_, T0, E0⟩ := hQ; subst ht_
  show J_ Γ 1626 (lw_lv i) [vi (p.1)] _ k n
  refine J_aload_n (q := 1627) C0 2 rfl rfl dL_law_1626 rfl trivial ?_
  refine J_aload_n (q := 1628) C0 0 rfl rfl dL_law_1627 rfl trivial ?_
  refine J_iload (q := 1630) C0 4 rfl dL_law_1628 rfl ?_
  refine J_iconst (q := 1631) (v := 1) C0 dL_law_1630 rfl rfl ?_
  refine J_iadd (q := 1632) C0 dL_law_1631 rfl ?_
  refine J_sld (q := 1633) C (lw_ix hi.1 hi.2 hL (by decide)) dL_law_1632 rfl ?_
  refine J_aload_n (q := 1634) C0 0 rfl rfl dL_law_1633 rfl trivial ?_
  refine J_iload (q := 1636) C0 4 rfl dL_law_1634 rfl ?_
  refine J_iconst (q := 1637) (v := 2) C0 dL_law_1636 rfl rfl ?_
  refine J_iadd (q := 1638) C0 dL_law_1637 rfl ?_
  refine J_sld (q := 1639) C (lw_ix hi.1 hi.2 hL (by decide)) dL_law_1638 rfl ?_
  refine J_aload_n (q := 1640) C0 0 rfl rfl dL_law_1639 rfl trivial ?_
  refine J_iload (q := 1642) C0 4 rfl dL_law_1640 rfl ?_
  refine J_iconst (q := 1643) (v := 3) C0 dL_law_1642 rfl rfl ?_
  refine J_iadd (q := 1644) C0 dL_law_1643 rfl ?_
  refine J_sld (q := 1645) C (lw_ix hi.1 hi.2 hL (by decide)) dL_law_1644 rfl ?_
  refine J_aload_n (q := 1646) C0 0 rfl rfl dL_law_1645 rfl trivial ?_
  refine J_iload (q := 1648) C0 4 rfl dL_law_1646 rfl ?_
  refine J_iconst (q := 1649) (v := 4) C0 dL_law_1648 rfl rfl ?_
  refine J_iadd (q := 1650) C0 dL_law_1649 rfl ?_
  refine J_sld (q := 1651) C (lw_ix hi.1 hi.2 hL (by decide)) dL_law_1650 rfl ?_
  refine J_callV (q := 1654) (ci := 11) (as := [vi (xs (i + 1).toNatClampNeg), vi (xs (i + 2).toNatClampNeg), vi (xs (i + 3).toNatClampNeg), vi (xs (i + 4).toNatClampNeg)]) (rest := [vi (p.1)]) C0 rfl (E0.at (hB.2.2.1)) (t_X12_odds N 344 (xs (i + 1).toNatClampNeg) (xs (i + 2).toNatClampNeg) (xs (i + 3).toNatClampNeg) (xs (i + 4).toNatClampNeg) (T0) (E0.at (hB.2.2.1)) hq) ml_X12_odds lk_L_192 im_X12_odds se_X12_odds rfl (by decide) dL_law_1651 rfl rfl rfl (by simp [ac_]) C.room (Nat.le_of_ble_eq_true rfl) (Nat.le_of_ble_eq_true rfl) (by omega) (by omega) (fun r_ τ_ hQ => ?_)
  obtain ⟨rfl, ht_, T1, E1⟩ := hQ; subst ht_
  show J_ Γ 1654 (lw_lv i) [vi (p_.1), vi (p.1)] _ k n
  have hf_ : (if p.1 = p_.1 then some () else some ()) = some () := by split <;> rfl
  refine J_icmp_eq (t := 1772) (q := 1657) C0 dL_law_1654 (by decide) rfl hf_ (fun _ _ => ?_) (fun c_ _ => absurd he c_)
  exact J_widen (by omega) (by omega) (kk _ hI2 ⟨T1, E1.at (E0.at (hB.2.1)), E1.at (E0.at (hB.2.2.1)), E1.at (E0.at (hB.2.2.2.1)), (by rw [(E1.2 370 (E0.at (hB.2.2.2.1)).1).2]; exact (by rw [(E0.2 370 (hB.2.2.2.1).1).2]; exact hB.2.2.2.2))⟩)
def so_shares (Inv : Sg → Prop) (N : Nat) : Prop := ∀ (x1 : Int32) (x2 : Int32) (σ : Sg), Inv σ → ∃ p q, f_X11_shares N 0 x1 x2 σ = some p ∧ f_X12_shares N 344 x1 x2 σ = some q ∧ p = q ∧ Inv σ
set_option maxHeartbeats 4000000 in
set_option maxRecDepth 100000 in
theorem lw_c40 {Γ : Gm} {b L : Nat} {xs : Nat → Int32} (C : CLw Γ b L xs) {Inv : Sg → Prop} {N : Nat} (so : so_shares Inv N) {σ : Sg} (hI : Inv σ) (hB : lw_B σ) {i : Int32} (hi : ¬ i < 0 ∧ i.toNatClampNeg + 6 ≤ L) (hL : L ≤ 3072) {k n : Nat} (hk : k + 3 ≤ 601024) (hn : n + 800 ≤ 7293034) (kk : ∀ τ, Inv τ → lw_B τ → J_ Γ 1772 (lw_lv i) [] τ (k + 3) (n + 800)) : J_ Γ 1659 (lw_lv i) [] σ k n := by
  have C0 := C.1
  refine J_aload_n (q := 1660) C0 1 rfl rfl dL_law_1659 rfl trivial ?_
  refine J_aload_n (q := 1661) C0 0 rfl rfl dL_law_1660 rfl trivial ?_
  refine J_iload (q := 1663) C0 4 rfl dL_law_1661 rfl ?_
  refine J_iconst (q := 1664) (v := 1) C0 dL_law_1663 rfl rfl ?_
  refine J_iadd (q := 1665) C0 dL_law_1664 rfl ?_
  refine J_sld (q := 1666) C (lw_ix hi.1 hi.2 hL (by decide)) dL_law_1665 rfl ?_
  refine J_aload_n (q := 1667) C0 0 rfl rfl dL_law_1666 rfl trivial ?_
  refine J_iload (q := 1669) C0 4 rfl dL_law_1667 rfl ?_
  refine J_iconst (q := 1670) (v := 2) C0 dL_law_1669 rfl rfl ?_
  refine J_iadd (q := 1671) C0 dL_law_1670 rfl ?_
  refine J_sld (q := 1672) C (lw_ix hi.1 hi.2 hL (by decide)) dL_law_1671 rfl ?_
  obtain ⟨p, p_, hp, hq, he, hI2⟩ := so (xs (i + 1).toNatClampNeg) (xs (i + 2).toNatClampNeg) σ hI
  refine J_callV (q := 1675) (ci := 10) (as := [vi (xs (i + 1).toNatClampNeg), vi (xs (i + 2).toNatClampNeg)]) (rest := []) C0 rfl (hB.2.1) (t_X11_shares N 0 (xs (i + 1).toNatClampNeg) (xs (i + 2).toNatClampNeg) (hB.1) (hB.2.1) hp) ml_X11_shares lk_L_193 im_X11_shares se_X11_shares rfl (by decide) dL_law_1672 rfl rfl rfl (by simp [ac_]) C.room (Nat.le_of_ble_eq_true rfl) (Nat.le_of_ble_eq_true rfl) (by omega) (by omega) (fun r_ τ_ hQ => ?_)
  obtain ⟨rfl, ht_⟩ := hQ; subst ht_
  show J_ Γ 1675 (lw_lv i) [vi (p)] _ k n
  refine J_aload_n (q := 1676) C0 2 rfl rfl dL_law_1675 rfl trivial ?_
  refine J_aload_n (q := 1677) C0 0 rfl rfl dL_law_1676 rfl trivial ?_
  refine J_iload (q := 1679) C0 4 rfl dL_law_1677 rfl ?_
  refine J_iconst (q := 1680) (v := 1) C0 dL_law_1679 rfl rfl ?_
  refine J_iadd (q := 1681) C0 dL_law_1680 rfl ?_
  refine J_sld (q := 1682) C (lw_ix hi.1 hi.2 hL (by decide)) dL_law_1681 rfl ?_
  refine J_aload_n (q := 1683) C0 0 rfl rfl dL_law_1682 rfl trivial ?_
  refine J_iload (q := 1685) C0 4 rfl dL_law_1683 rfl ?_
  refine J_iconst (q := 1686) (v := 2) C0 dL_law_1685 rfl rfl ?_
  refine J_iadd (q := 1687) C0 dL_law_1686 rfl ?_
  refine J_sld (q := 1688) C (lw_ix hi.1 hi.2 hL (by decide)) dL_law_1687 rfl ?_
  refine J_callV (q := 1691) (ci := 11) (as := [vi (xs (i + 1).toNatClampNeg), vi (xs (i + 2).toNatClampNeg)]) (rest := [vi (p)]) C0 rfl (hB.2.2.1) (t_X12_shares N 344 (xs (i + 1).toNatClampNeg) (xs (i + 2).toNatClampNeg) (hB.1) (hB.2.2.1) hq) ml_X12_shares lk_L_196 im_X12_shares se_X12_shares rfl (by decide) dL_law_1688 rfl rfl rfl (by simp [ac_]) C.room (Nat.le_of_ble_eq_true rfl) (Nat.le_of_ble_eq_true rfl) (by omega) (by omega) (fun r_ τ_ hQ => ?_)
  obtain ⟨rfl, ht_⟩ := hQ; subst ht_
  show J_ Γ 1691 (lw_lv i) [vi (p_), vi (p)] _ k n
  have hf_ : (if p = p_ then some () else some ()) = some () := by split <;> rfl
  refine J_icmp_eq (t := 1772) (q := 1694) C0 dL_law_1691 (by decide) rfl hf_ (fun _ _ => ?_) (fun c_ _ => absurd he c_)
  exact J_widen (by omega) (by omega) (kk _ hI2 ⟨hB.1, hB.2.1, hB.2.2.1, hB.2.2.2.1, hB.2.2.2.2⟩)
def so_most (Inv : Sg → Prop) (N : Nat) : Prop := ∀ (x1 : Int32) (σ : Sg), Inv σ → ∃ p q, f_X11_most N 0 x1 σ = some p ∧ f_X12_most N 344 x1 p.2 = some q ∧ p.1 = q.1 ∧ Inv q.2
set_option maxHeartbeats 4000000 in
set_option maxRecDepth 100000 in
theorem lw_c41 {Γ : Gm} {b L : Nat} {xs : Nat → Int32} (C : CLw Γ b L xs) {Inv : Sg → Prop} {N : Nat} (so : so_most Inv N) {σ : Sg} (hI : Inv σ) (hB : lw_B σ) {i : Int32} (hi : ¬ i < 0 ∧ i.toNatClampNeg + 6 ≤ L) (hL : L ≤ 3072) {k n : Nat} (hk : k + 3 ≤ 601024) (hn : n + 800 ≤ 7293034) (kk : ∀ τ, Inv τ → lw_B τ → J_ Γ 1772 (lw_lv i) [] τ (k + 3) (n + 800)) : J_ Γ 1696 (lw_lv i) [] σ k n := by
  have C0 := C.1
  refine J_aload_n (q := 1697) C0 1 rfl rfl dL_law_1696 rfl trivial ?_
  refine J_aload_n (q := 1698) C0 0 rfl rfl dL_law_1697 rfl trivial ?_
  refine J_iload (q := 1700) C0 4 rfl dL_law_1698 rfl ?_
  refine J_iconst (q := 1701) (v := 1) C0 dL_law_1700 rfl rfl ?_
  refine J_iadd (q := 1702) C0 dL_law_1701 rfl ?_
  refine J_sld (q := 1703) C (lw_ix hi.1 hi.2 hL (by decide)) dL_law_1702 rfl ?_
  obtain ⟨p, p_, hp, hq, he, hI2⟩ := so (xs (i + 1).toNatClampNeg) σ hI
  refine J_callV (q := 1706) (ci := 10) (as := [vi (xs (i + 1).toNatClampNeg)]) (rest := []) C0 rfl (hB.2.1) (t_X11_most N 0 (xs (i + 1).toNatClampNeg) (hB.1) (hB.2.1) hp) ml_X11_most lk_L_197 im_X11_most se_X11_most rfl (by decide) dL_law_1703 rfl rfl rfl (by simp [ac_]) C.room (Nat.le_of_ble_eq_true rfl) (Nat.le_of_ble_eq_true rfl) (by omega) (by omega) (fun r_ τ_ hQ => ?_)
  obtain ⟨rfl, ht_, T0, E0⟩ := hQ; subst ht_
  show J_ Γ 1706 (lw_lv i) [vi (p.1)] _ k n
  refine J_aload_n (q := 1707) C0 2 rfl rfl dL_law_1706 rfl trivial ?_
  refine J_aload_n (q := 1708) C0 0 rfl rfl dL_law_1707 rfl trivial ?_
  refine J_iload (q := 1710) C0 4 rfl dL_law_1708 rfl ?_
  refine J_iconst (q := 1711) (v := 1) C0 dL_law_1710 rfl rfl ?_
  refine J_iadd (q := 1712) C0 dL_law_1711 rfl ?_
  refine J_sld (q := 1713) C (lw_ix hi.1 hi.2 hL (by decide)) dL_law_1712 rfl ?_
  refine J_callV (q := 1716) (ci := 11) (as := [vi (xs (i + 1).toNatClampNeg)]) (rest := [vi (p.1)]) C0 rfl (E0.at (hB.2.2.1)) (t_X12_most N 344 (xs (i + 1).toNatClampNeg) (T0) (E0.at (hB.2.2.1)) hq) ml_X12_most lk_L_200 im_X12_most se_X12_most rfl (by decide) dL_law_1713 rfl rfl rfl (by simp [ac_]) C.room (Nat.le_of_ble_eq_true rfl) (Nat.le_of_ble_eq_true rfl) (by omega) (by omega) (fun r_ τ_ hQ => ?_)
  obtain ⟨rfl, ht_, T1, E1⟩ := hQ; subst ht_
  show J_ Γ 1716 (lw_lv i) [vi (p_.1), vi (p.1)] _ k n
  have hf_ : (if p.1 = p_.1 then some () else some ()) = some () := by split <;> rfl
  refine J_icmp_eq (t := 1772) (q := 1719) C0 dL_law_1716 (by decide) rfl hf_ (fun _ _ => ?_) (fun c_ _ => absurd he c_)
  exact J_widen (by omega) (by omega) (kk _ hI2 ⟨T1, E1.at (E0.at (hB.2.1)), E1.at (E0.at (hB.2.2.1)), E1.at (E0.at (hB.2.2.2.1)), (by rw [(E1.2 370 (E0.at (hB.2.2.2.1)).1).2]; exact (by rw [(E0.2 370 (hB.2.2.2.1).1).2]; exact hB.2.2.2.2))⟩)
def so_image (Inv : Sg → Prop) (N : Nat) : Prop := ∀ (σ : Sg), Inv σ → ∃ p q, f_X11_image N 0  σ = some p ∧ f_X12_image N 344  p.2 = some q ∧ p.1 = q.1 ∧ Inv q.2
set_option maxHeartbeats 4000000 in
set_option maxRecDepth 100000 in
theorem lw_c42 {Γ : Gm} {b L : Nat} {xs : Nat → Int32} (C : CLw Γ b L xs) {Inv : Sg → Prop} {N : Nat} (so : so_image Inv N) {σ : Sg} (hI : Inv σ) (hB : lw_B σ) {i : Int32} (hi : ¬ i < 0 ∧ i.toNatClampNeg + 6 ≤ L) (hL : L ≤ 3072) {k n : Nat} (hk : k + 3 ≤ 601024) (hn : n + 800 ≤ 7293034) (kk : ∀ τ, Inv τ → lw_B τ → J_ Γ 1772 (lw_lv i) [] τ (k + 3) (n + 800)) : J_ Γ 1721 (lw_lv i) [] σ k n := by
  have C0 := C.1
  refine J_aload_n (q := 1722) C0 1 rfl rfl dL_law_1721 rfl trivial ?_
  obtain ⟨p, p_, hp, hq, he, hI2⟩ := so  σ hI
  refine J_callV (q := 1725) (ci := 10) (as := []) (rest := []) C0 rfl (hB.2.1) (t_X11_image N 0  (hB.1) (hB.2.1) hp) ml_X11_image lk_L_201 im_X11_image se_X11_image rfl (by decide) dL_law_1722 rfl rfl rfl (by simp [ac_]) C.room (Nat.le_of_ble_eq_true rfl) (Nat.le_of_ble_eq_true rfl) (by omega) (by omega) (fun r_ τ_ hQ => ?_)
  obtain ⟨rfl, ht_, T0, E0⟩ := hQ; subst ht_
  show J_ Γ 1725 (lw_lv i) [vi (p.1)] _ k n
  refine J_aload_n (q := 1726) C0 2 rfl rfl dL_law_1725 rfl trivial ?_
  refine J_callV (q := 1729) (ci := 11) (as := []) (rest := [vi (p.1)]) C0 rfl (E0.at (hB.2.2.1)) (t_X12_image N 344  (T0) (E0.at (hB.2.2.1)) hq) ml_X12_image lk_L_204 im_X12_image se_X12_image rfl (by decide) dL_law_1726 rfl rfl rfl (by simp [ac_]) C.room (Nat.le_of_ble_eq_true rfl) (Nat.le_of_ble_eq_true rfl) (by omega) (by omega) (fun r_ τ_ hQ => ?_)
  obtain ⟨rfl, ht_, T1, E1⟩ := hQ; subst ht_
  show J_ Γ 1729 (lw_lv i) [vi (p_.1), vi (p.1)] _ k n
  have hf_ : (if p.1 = p_.1 then some () else some ()) = some () := by split <;> rfl
  refine J_icmp_eq (t := 1772) (q := 1732) C0 dL_law_1729 (by decide) rfl hf_ (fun _ _ => ?_) (fun c_ _ => absurd he c_)
  exact J_widen (by omega) (by omega) (kk _ hI2 ⟨T1, E1.at (E0.at (hB.2.1)), E1.at (E0.at (hB.2.2.1)), E1.at (E0.at (hB.2.2.2.1)), (by rw [(E1.2 370 (E0.at (hB.2.2.2.1)).1).2]; exact (by rw [(E0.2 370 (hB.2.2.2.1).1).2]; exact hB.2.2.2.2))⟩)
def so_back (Inv : Sg → Prop) (N : Nat) : Prop := ∀ (σ : Sg), Inv σ → ∃ p q, f_X11_back N 0  σ = some p ∧ f_X12_back N 344  p.2 = some q ∧ p.1 = q.1 ∧ Inv q.2
set_option maxHeartbeats 4000000 in
set_option maxRecDepth 100000 in
theorem lw_c43 {Γ : Gm} {b L : Nat} {xs : Nat → Int32} (C : CLw Γ b L xs) {Inv : Sg → Prop} {N : Nat} (so : so_back Inv N) {σ : Sg} (hI : Inv σ) (hB : lw_B σ) {i : Int32} (hi : ¬ i < 0 ∧ i.toNatClampNeg + 6 ≤ L) (hL : L ≤ 3072) {k n : Nat} (hk : k + 3 ≤ 601024) (hn : n + 800 ≤ 7293034) (kk : ∀ τ, Inv τ → lw_B τ → J_ Γ 1772 (lw_lv i) [] τ (k + 3) (n + 800)) : J_ Γ 1734 (lw_lv i) [] σ k n := by
  have C0 := C.1
  refine J_aload_n (q := 1735) C0 1 rfl rfl dL_law_1734 rfl trivial ?_
  obtain ⟨p, p_, hp, hq, he, hI2⟩ := so  σ hI
  refine J_callV (q := 1738) (ci := 10) (as := []) (rest := []) C0 rfl (hB.2.1) (t_X11_back N 0  (hB.1) (hB.2.1) hp) ml_X11_back lk_L_205 im_X11_back se_X11_back rfl (by decide) dL_law_1735 rfl rfl rfl (by simp [ac_]) C.room (Nat.le_of_ble_eq_true rfl) (Nat.le_of_ble_eq_true rfl) (by omega) (by omega) (fun r_ τ_ hQ => ?_)
  obtain ⟨rfl, ht_, T0, E0⟩ := hQ; subst ht_
  show J_ Γ 1738 (lw_lv i) [vi (p.1)] _ k n
  refine J_aload_n (q := 1739) C0 2 rfl rfl dL_law_1738 rfl trivial ?_
  refine J_callV (q := 1742) (ci := 11) (as := []) (rest := [vi (p.1)]) C0 rfl (E0.at (hB.2.2.1)) (t_X12_back N 344  (T0) (E0.at (hB.2.2.1)) hq) ml_X12_back lk_L_208 im_X12_back se_X12_back rfl (by decide) dL_law_1739 rfl rfl rfl (by simp [ac_]) C.room (Nat.le_of_ble_eq_true rfl) (Nat.le_of_ble_eq_true rfl) (by omega) (by omega) (fun r_ τ_ hQ => ?_)
  obtain ⟨rfl, ht_, T1, E1⟩ := hQ; subst ht_
  show J_ Γ 1742 (lw_lv i) [vi (p_.1), vi (p.1)] _ k n
  have hf_ : (if p.1 = p_.1 then some () else some ()) = some () := by split <;> rfl
  refine J_icmp_eq (t := 1772) (q := 1745) C0 dL_law_1742 (by decide) rfl hf_ (fun _ _ => ?_) (fun c_ _ => absurd he c_)
  exact J_widen (by omega) (by omega) (kk _ hI2 ⟨T1, E1.at (E0.at (hB.2.1)), E1.at (E0.at (hB.2.2.1)), E1.at (E0.at (hB.2.2.2.1)), (by rw [(E1.2 370 (E0.at (hB.2.2.2.1)).1).2]; exact (by rw [(E0.2 370 (hB.2.2.2.1).1).2]; exact hB.2.2.2.2))⟩)
def so_count (Inv : Sg → Prop) (N : Nat) : Prop := ∀ (x1 : Int32) (σ : Sg), Inv σ → ∃ p q, f_X11_count 0 x1 σ = some p ∧ f_X12_count 344 x1 σ = some q ∧ p = q ∧ Inv σ
set_option maxHeartbeats 4000000 in
set_option maxRecDepth 100000 in
theorem lw_c44 {Γ : Gm} {b L : Nat} {xs : Nat → Int32} (C : CLw Γ b L xs) {Inv : Sg → Prop} {N : Nat} (so : so_count Inv N) {σ : Sg} (hI : Inv σ) (hB : lw_B σ) {i : Int32} (hi : ¬ i < 0 ∧ i.toNatClampNeg + 6 ≤ L) (hL : L ≤ 3072) {k n : Nat} (hk : k + 3 ≤ 601024) (hn : n + 800 ≤ 7293034) (kk : ∀ τ, Inv τ → lw_B τ → J_ Γ 1772 (lw_lv i) [] τ (k + 3) (n + 800)) : J_ Γ 1747 (lw_lv i) [] σ k n := by
  have C0 := C.1
  refine J_aload_n (q := 1748) C0 1 rfl rfl dL_law_1747 rfl trivial ?_
  refine J_aload_n (q := 1749) C0 0 rfl rfl dL_law_1748 rfl trivial ?_
  refine J_iload (q := 1751) C0 4 rfl dL_law_1749 rfl ?_
  refine J_iconst (q := 1752) (v := 1) C0 dL_law_1751 rfl rfl ?_
  refine J_iadd (q := 1753) C0 dL_law_1752 rfl ?_
  refine J_sld (q := 1754) C (lw_ix hi.1 hi.2 hL (by decide)) dL_law_1753 rfl ?_
  obtain ⟨p, p_, hp, hq, he, hI2⟩ := so (xs (i + 1).toNatClampNeg) σ hI
  refine J_callV (q := 1757) (ci := 10) (as := [vi (xs (i + 1).toNatClampNeg)]) (rest := []) C0 rfl (hB.2.1) (t_X11_count 0 (xs (i + 1).toNatClampNeg) (hB.1) (hB.2.1) hp) ml_X11_count lk_L_209 im_X11_count se_X11_count rfl (by decide) dL_law_1754 rfl rfl rfl (by simp [ac_]) C.room (Nat.le_of_ble_eq_true rfl) (Nat.le_of_ble_eq_true rfl) (by omega) (by omega) (fun r_ τ_ hQ => ?_)
  obtain ⟨rfl, ht_⟩ := hQ; subst ht_
  show J_ Γ 1757 (lw_lv i) [vi (p)] _ k n
  refine J_aload_n (q := 1758) C0 2 rfl rfl dL_law_1757 rfl trivial ?_
  refine J_aload_n (q := 1759) C0 0 rfl rfl dL_law_1758 rfl trivial ?_
  refine J_iload (q := 1761) C0 4 rfl dL_law_1759 rfl ?_
  refine J_iconst (q := 1762) (v := 1) C0 dL_law_1761 rfl rfl ?_
  refine J_iadd (q := 1763) C0 dL_law_1762 rfl ?_
  refine J_sld (q := 1764) C (lw_ix hi.1 hi.2 hL (by decide)) dL_law_1763 rfl ?_
  refine J_callV (q := 1767) (ci := 11) (as := [vi (xs (i + 1).toNatClampNeg)]) (rest := [vi (p)]) C0 rfl (hB.2.2.1) (t_X12_count 344 (xs (i + 1).toNatClampNeg) (hB.1) (hB.2.2.1) hq) ml_X12_count lk_L_212 im_X12_count se_X12_count rfl (by decide) dL_law_1764 rfl rfl rfl (by simp [ac_]) C.room (Nat.le_of_ble_eq_true rfl) (Nat.le_of_ble_eq_true rfl) (by omega) (by omega) (fun r_ τ_ hQ => ?_)
  obtain ⟨rfl, ht_⟩ := hQ; subst ht_
  show J_ Γ 1767 (lw_lv i) [vi (p_), vi (p)] _ k n
  have hf_ : (if p = p_ then some () else some ()) = some () := by split <;> rfl
  refine J_icmp_eq (t := 1772) (q := 1770) C0 dL_law_1767 (by decide) rfl hf_ (fun _ _ => ?_) (fun c_ _ => absurd he c_)
  exact J_widen (by omega) (by omega) (kk _ hI2 ⟨hB.1, hB.2.1, hB.2.2.1, hB.2.2.2.1, hB.2.2.2.2⟩)
