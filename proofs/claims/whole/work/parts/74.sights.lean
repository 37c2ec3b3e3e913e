/-! ===== what is seen from now on ===== -/
theorem HO.kc {σ ρ τ : Sg} {law : Option Nat} {K : Option (List Kl)} (r : Rel σ ρ) (H : HO σ ρ law K) (k : KC σ τ) : HO τ ρ law K := by
  have K0 := k.2.1
  have r6 := r.1.2.2.2.2.2.1
  rcases H with ⟨q1, q2, q3, q4⟩ | ⟨i, b, K', i1, i2, i3, i4, i5, ⟨m, m1, m2, m3⟩, i7, i8, c1, c2, c3, c4, c5, c6, c7⟩
  · exact Or.inl ⟨q1, q2, q3, by rw [k.i0]; exact q4⟩
  · have eR : ∀ a j, 371 ≤ a → sg_R τ a j = sg_R σ a j := fun a j h => K0.2.1 a j (scR_lo (by omega))
    have eL : ∀ a, 371 ≤ a → sg_L τ a = sg_L σ a := fun a h => K0.1 a (by omega)
    have e12 : ∀ j, sg_R τ 12 j = sg_R σ 12 j := fun j => K0.2.1 12 j (scR_lo (by omega))
    have hg : ∀ j, sg_I τ (b + 1) j = sg_I σ (b + 1) j := fun j => K0.2.2 _ _ (by
      intro w
      rcases w with w | w | w | w | w | ⟨i2', c, w1, w2, w3, w4⟩
      · omega
      · omega
      · omega
      · omega
      · omega
      · by_cases hii : i = i2'
        · subst hii
          rw [i8] at w2
          have w2 := Option.some.inj w2
          omega
        · have := r6.1 i i2' b c i1 w1 hii i8 w2
          omega)
    refine Or.inr ⟨i, b, K', i1, i2, i3, i4, by rw [k.i0]; exact i5, ⟨m, m1, m2, by rw [k.i0]; exact m3⟩, i7, by rw [e12]; exact i8, by rw [eR b 0 i7]; exact c1, by rw [eR b 1 i7]; exact c2, by rw [eL (b + 2) (by omega)]; exact c3, by rw [eL (b + 1) (by omega)]; exact c4, c5, sl_q (fun j _ _ => hg j) c6, c7⟩
/-- of the reference the sights' rows alone have changed -/
def KS (σ τ : Sg) : Prop := kp_ σ τ ∧ ∀ a, a ≠ 353 → a ≠ 354 → a ≠ 362 → a ≠ 363 → a ≠ 364 → sg_I τ a = sg_I σ a
theorem KS.rf {σ : Sg} : KS σ σ := ⟨kp_.rf, fun _ _ _ _ _ _ => rfl⟩
theorem KS.tr {σ τ υ : Sg} (h : KS σ τ) (k : KS τ υ) : KS σ υ := ⟨h.1.tr k.1, fun a h1 h2 h3 h4 h5 => (k.2 a h1 h2 h3 h4 h5).trans (h.2 a h1 h2 h3 h4 h5)⟩
theorem KS.put {σ : Sg} {a j : Nat} {v : Int32} (h : a = 362 ∨ a = 363 ∨ a = 364) : KS σ (put_I σ a j v) := ⟨kp_.put, fun b _ _ h1 h2 h3 => gI_a (by omega)⟩
theorem KU.ks {σ τ : Sg} (h : KU σ τ) : KS σ τ := ⟨h.1, fun a h1 h2 _ _ _ => h.2 a h1 h2⟩
theorem KS.kr {σ τ : Sg} (h : KS σ τ) : KR σ τ := ⟨HK.of (fun a _ h1 h2 _ _ h3 h4 h5 _ => h.2 a h1 h2 h3 h4 h5) (fun j _ => by rw [h.2 344 (by decide) (by decide) (by decide) (by decide) (by decide)]), ⟨h.1.1, fun a ha => ⟨h.2 a (by omega) (by omega) (by omega) (by omega) (by omega), by rw [h.1.2.1], by rw [h.1.2.2.1]⟩⟩, fun a _ _ => ⟨by rw [h.1.2.1], by rw [h.1.2.2.1]⟩⟩
theorem HO.ks {σ ρ τ : Sg} {law : Option Nat} {K : Option (List Kl)} (H : HO σ ρ law K) (k : KS ρ τ) : HO σ τ law K := by
  have e : ∀ a, a ≠ 353 → a ≠ 354 → a ≠ 362 → a ≠ 363 → a ≠ 364 → sg_I τ a = sg_I ρ a := k.2
  unfold HO lw_1 at H ⊢
  rw [e 344 (by decide) (by decide) (by decide) (by decide) (by decide), e 346 (by decide) (by decide) (by decide) (by decide) (by decide), e 347 (by decide) (by decide) (by decide) (by decide) (by decide), e 349 (by decide) (by decide) (by decide) (by decide) (by decide), e 350 (by decide) (by decide) (by decide) (by decide) (by decide), e 351 (by decide) (by decide) (by decide) (by decide) (by decide), e 352 (by decide) (by decide) (by decide) (by decide) (by decide)]
  exact H
theorem KS.h {ρ τ : Sg} (k : KS ρ τ) : sg_I τ 344 = sg_I ρ 344 ∧ sg_I τ 359 = sg_I ρ 359 ∧ hL (sg_I τ) = hL (sg_I ρ) ∧ hP (sg_I τ) = hP (sg_I ρ) := by
  have e4 := k.2 344 (by decide) (by decide) (by decide) (by decide) (by decide)
  refine ⟨e4, k.2 359 (by decide) (by decide) (by decide) (by decide) (by decide), hL_q (by rw [e4]) (k.2 358 (by decide) (by decide) (by decide) (by decide) (by decide)), ?_⟩
  funext q i
  unfold hP hS
  rw [e4, k.2 357 (by decide) (by decide) (by decide) (by decide) (by decide)]
/-- wheel w's speed, strip, and its places from now on -/
def wv_ (h : Nat → Nat → Int32) (w : Nat) : Int32 := vl_ (h 359 (4 * w)).toNatClampNeg (h 359 (4 * w + 1)).toNatClampNeg
def wr_ (h : Nat → Nat → Int32) (w : Nat) : Nat := (h 359 (4 * w + 3)).toNatClampNeg
def wp0 (h : Nat → Nat → Int32) (w : Nat) : Nat := (h 359 (4 * w + 2)).toNatClampNeg
def wf_ (h : Nat → Nat → Int32) : Nat := (h 359 16).toNatClampNeg
def wt0 (h : Nat → Nat → Int32) : Nat := (h 359 19).toNatClampNeg
def tj_ (K : Option (List Kl)) (h : Nat → Nat → Int32) (w : Nat) : Nat → Nat := pt_ K (wv_ h w) (hL h (wr_ h w)) (hP h (wr_ h w)) (wf_ h) (wt0 h) (wp0 h w)
/-- all that is known of wheel w -/
theorem Rel.wn {σ ρ : Sg} (r : Rel σ ρ) {n w : Nat} (e : sg_I ρ 344 20 = Int32.ofNat n) (hn : n ≤ 4) (hw : w < n) : ∃ v z, v ≤ 9 ∧ z ≤ 1 ∧ wr_ (sg_I ρ) w ≤ 5 ∧ wp0 (sg_I ρ) w < hL (sg_I ρ) (wr_ (sg_I ρ) w) ∧ 1 ≤ hL (sg_I ρ) (wr_ (sg_I ρ) w) ∧ hL (sg_I ρ) (wr_ (sg_I ρ) w) ≤ 16 ∧ wv_ (sg_I ρ) w = vl_ v z ∧ sg_I ρ 359 (4 * w) = Int32.ofNat v ∧ sg_I ρ 359 (4 * w + 1) = Int32.ofNat z ∧ sg_I ρ 359 (4 * w + 2) = Int32.ofNat (wp0 (sg_I ρ) w) ∧ sg_I ρ 359 (4 * w + 3) = Int32.ofNat (wr_ (sg_I ρ) w) ∧ sg_I σ (20 + w) 0 = Int32.ofNat v ∧ sg_I σ (20 + w) 1 = Int32.ofNat z ∧ sg_I σ (20 + w) 2 = Int32.ofNat (wp0 (sg_I ρ) w) ∧ sg_I σ (20 + w) 3 = Int32.ofNat (wr_ (sg_I ρ) w) := by
  obtain ⟨v, z, p, q, v1, z1, q1, p1, p2, w1, w2, w3, w4, w5, w6, w7, w8⟩ := r.wh e hn hw
  obtain ⟨bb, cc, ⟨-, -, s1, s2, -⟩, -, -⟩ := r.sp q
  have eq : wr_ (sg_I ρ) w = q := by unfold wr_; rw [w4, o_tn (by omega)]
  have ep : wp0 (sg_I ρ) w = p := by unfold wp0; rw [w3, o_tn (by omega)]
  refine ⟨v, z, v1, z1, by omega, by rw [eq, ep]; exact p1, by rw [eq]; exact s1, by rw [eq]; exact s2, ?_, w1, w2, by rw [ep]; exact w3, by rw [eq]; exact w4, w5, w6, by rw [ep]; exact w7, by rw [eq]; exact w8⟩
  unfold wv_
  rw [w1, w2, o_tn (by omega), o_tn (by omega)]
theorem Rel.gn {σ ρ : Sg} (r : Rel σ ρ) {n : Nat} (e : sg_I ρ 344 20 = Int32.ofNat n) (hn : n ≤ 4) (h0 : 0 < n) : 1 ≤ wf_ (sg_I ρ) ∧ wf_ (sg_I ρ) ≤ 60 ∧ wt0 (sg_I ρ) ≤ 9999 ∧ sg_I ρ 359 16 = Int32.ofNat (wf_ (sg_I ρ)) ∧ sg_I ρ 359 19 = Int32.ofNat (wt0 (sg_I ρ)) ∧ sg_I σ 17 2 = Int32.ofNat (wf_ (sg_I ρ)) ∧ sg_I σ 17 5 = Int32.ofNat (wt0 (sg_I ρ)) := by
  obtain ⟨f, o, c, t, f1, f2, o1, c1, t1, i1, i2, i3, i4, i5, i6, i7, i8⟩ := r.gl e hn h0
  have ef : wf_ (sg_I ρ) = f := by unfold wf_; rw [i1, o_tn (by omega)]
  have et : wt0 (sg_I ρ) = t := by unfold wt0; rw [i4, o_tn (by omega)]
  rw [ef, et]
  exact ⟨f1, f2, t1, i1, i4, i5, i8⟩
theorem tj_lt {σ ρ : Sg} (r : Rel σ ρ) {n w : Nat} (e : sg_I ρ 344 20 = Int32.ofNat n) (hn : n ≤ 4) (hw : w < n) {K : Option (List Kl)} (i : Nat) : tj_ K (sg_I ρ) w i < hL (sg_I ρ) (wr_ (sg_I ρ) w) := by
  obtain ⟨v, z, -, -, -, h1, h2, -⟩ := r.wn e hn hw
  exact pt_lt h2 h1 i
/-- the reference goes on by a tick -/
theorem nx_s {σ ρ ρ' : Sg} (r : Rel σ ρ) {law : Option Nat} {K : Option (List Kl)} (H : HO σ ρ law K) {n w : Nat} (e : sg_I ρ 344 20 = Int32.ofNat n) (hn : n ≤ 4) (hw : w < n) (ks : KS ρ ρ') {i : Nat} (hi : i ≤ 50000) : ∃ τ, f_X12_nextOf 20000 344 (Int32.ofNat w) (Int32.ofNat (tj_ K (sg_I ρ) w i)) (Int32.ofNat (wt0 (sg_I ρ) + i)) ρ' = some (Int32.ofNat (tj_ K (sg_I ρ) w (i + 1)), τ) ∧ KU ρ' τ := by
  obtain ⟨v, z, v1, z1, q1, p1, s1, s2, ev, w1, w2, w3, w4, -⟩ := r.wn e hn hw
  obtain ⟨f1, f2, t1, i1, i4, -, -⟩ := r.gn e hn (by omega)
  obtain ⟨k1, k2, k3, k4⟩ := ks.h
  have hlt := tj_lt r e hn hw (K := K) i
  obtain ⟨τ, a1, a2⟩ := no_v (ks.kr.rel r) (H.ks ks) (w := w) (v := v) (z := z) (q := wr_ (sg_I ρ) w) (f := wf_ (sg_I ρ)) (spot := tj_ K (sg_I ρ) w i) (tt := wt0 (sg_I ρ) + i) (by omega) v1 z1 q1 f2 (by rw [k3]; exact hlt) (by omega) (by rw [k2]; exact w1) (by rw [k2]; exact w2) (by rw [k2]; exact w4) (by rw [k2]; exact i1)
  refine ⟨τ, ?_, a2⟩
  rw [a1, k3, k4, ← ev]
  rfl
/-- the course of a wheel other than w stays -/
theorem TR.co {σ τ : Sg} {w' w : Nat} {V : Int32} {l : Nat} {P : Nat → Int32} {f t p : Nat} {law : Option Nat} {K : Option (List Kl)} {S L : Nat} (T : TR σ w' V l P f t p law K S L) (hw : w' ≠ w) (h4 : w < 4) (hR : ∀ a j, (a ≠ 320 + 6 * w ∨ (j ≠ 2 ∧ j ≠ 3)) → sg_R τ a j = sg_R σ a j) (hL : sg_L τ = sg_L σ) (hI : ∀ a j, (a < 320 + 6 * w ∨ 325 + 6 * w < a) → (∀ b, law = some b → ¬ (a = b ∧ j = 2) ∧ a ≠ b + 2) → sg_I τ a j = sg_I σ a j) : TR τ w' V l P f t p law K S L := by
  obtain ⟨C, e8, e9, t1, t2, t3, t4, t5⟩ := T
  have hw' := C.2.2.2.2.2.1.2.2.2.2.2
  have lo : ∀ b, law = some b → 371 ≤ b := by
    intro b hb
    rcases C.2.2.2.2.2.2 with ⟨q1, -⟩ | ⟨b', K', q1, q2, q3, -⟩
    · rw [q1] at hb; cases hb
    · rw [q1] at hb; cases hb; exact q3
  refine ⟨C.q (fun a j h => hR a j (by omega)) hL (fun a j h1 h2 => hI a j (by omega) h2), ?_, ?_, t1, t2, fun i hi => ?_, t4, t5⟩
  · rw [hI _ _ (by omega) (fun b hb => by have := lo b hb; omega)]; exact e8
  · rw [hI _ _ (by omega) (fun b hb => by have := lo b hb; omega)]; exact e9
  · rw [hI _ _ (by omega) (fun b hb => by have := lo b hb; omega)]; exact t3 i hi
/-- wheel w is traced as the tie has it -/
def TW (σ ρ : Sg) (law : Option Nat) (K : Option (List Kl)) (w : Nat) : Prop := ∃ S L, TR σ w (wv_ (sg_I ρ) w) (hL (sg_I ρ) (wr_ (sg_I ρ) w)) (hP (sg_I ρ) (wr_ (sg_I ρ) w)) (wf_ (sg_I ρ)) (wt0 (sg_I ρ)) (wp0 (sg_I ρ) w) law K S L
theorem tc_w {σ ρ : Sg} (r : Rel σ ρ) {law : Option Nat} {K : Option (List Kl)} (H : HO σ ρ law K) {n w : Nat} (e : sg_I ρ 344 20 = Int32.ofNat n) (hn : n ≤ 4) (hw : w < n) : ∃ τ, f_X11_traced 20000 0 (Int32.ofNat w) σ = some (some (320 + 6 * w), τ) ∧ TW τ ρ law K w ∧ KC σ τ ∧ ∀ w', w' ≠ w → TW σ ρ law K w' → TW τ ρ law K w' := by
  obtain ⟨v, z, v1, z1, q1, p1, s1, s2, ev, w1, w2, w3, w4, w5, w6, w7, w8⟩ := r.wn e hn hw
  obtain ⟨f1, f2, t1, i1, i4, i5, i8⟩ := r.gn e hn (by omega)
  obtain ⟨υ, F1, F2, F3, F4, F5, F6, F7, F8, F9, F10⟩ := co_v r H (show w < 4 by omega) v1 z1 q1 f2 w5 w6 w7 w8 i5 i8
  obtain ⟨τ, S, L, a1, a2, a3⟩ := tr_w F2 p1 t1
  rw [← ev] at a2
  refine ⟨τ, ?_, ⟨S, L, a2⟩, F3.tr (F2.kc2 a3), fun w' hne ⟨S', L', T⟩ => ⟨S', L', ?_⟩⟩
  · unfold f_X11_traced
    rw [F1]
    simp only [Option.bind_some]
    rw [a1]
    rfl
  · refine T.co hne (show w < 4 by omega) (fun a j h => ?_) ?_ (fun a j h1 h2 => ?_)
    · rw [a3.1.2.1]
      by_cases q : a = 320 + 6 * w
      · exact F3.2.1.2.1 a j (fun q2 => by rcases q2 with q2 | q2 | q2 <;> omega)
      · exact F9 a j q
    · rw [a3.1.2.2.1]; exact F7
    · rw [a3.2 a j (by omega) h2]
      exact F8 a j h1
theorem ta_w {σ ρ : Sg} (r : Rel σ ρ) {law : Option Nat} {K : Option (List Kl)} (H : HO σ ρ law K) {n : Nat} (e : sg_I ρ 344 20 = Int32.ofNat n) (hn : n ≤ 4) : ∃ τ, f_X11_traceAll 20000 0 σ = some τ ∧ KC σ τ ∧ ∀ w, w < n → TW τ ρ law K w := by
  have lp : ∀ (j k m : Nat) (σ : Sg), k + j = n → j < m → Rel σ ρ → HO σ ρ law K → (∀ w, w < k → TW σ ρ law K w) → ∃ τ, f_X11_traceAll_L2 20000 0 m (Int32.ofNat k) σ = some τ ∧ KC σ τ ∧ ∀ w, w < n → TW τ ρ law K w := by
    intro j
    induction j with
    | zero =>
      intro k m σ hk hm r H T
      obtain ⟨m, rfl⟩ : ∃ x, m = x + 1 := ⟨m - 1, by omega⟩
      have c := r.cf
      obtain ⟨n', h1, h2, h3, -⟩ := r.nw
      have en : n' = n := (o_eq (by omega) (by omega)).mp (h2.symm.trans e)
      subst en
      refine ⟨σ, ?_, KC.rf, fun w hw => T w (by omega)⟩
      rw [f_X11_traceAll_L2]
      simp only [c, Option.bind_some, h3]
      rw [if_neg (by rw [o_lt (by omega) (by omega)]; omega)]
    | succ j ih =>
      intro k m σ hk hm r H T
      obtain ⟨m, rfl⟩ : ∃ x, m = x + 1 := ⟨m - 1, by omega⟩
      have c := r.cf
      obtain ⟨n', h1, h2, h3, -⟩ := r.nw
      have en : n' = n := (o_eq (by omega) (by omega)).mp (h2.symm.trans e)
      subst en
      obtain ⟨υ, a1, a2, a3, a4⟩ := tc_w r H e hn (show k < n' by omega)
      obtain ⟨τ, b1, b2, b3⟩ := ih (k + 1) m υ (by omega) (by omega) (a3.rel r) (H.kc r a3) (fun w hw => by
        by_cases q : w = k
        · subst q; exact a2
        · exact a4 w q (T w (by omega)))
      refine ⟨τ, ?_, a3.tr b2, b3⟩
      rw [f_X11_traceAll_L2]
      simp only [c, Option.bind_some, h3]
      rw [if_pos (by rw [o_lt (by omega) (by omega)]; omega), a1]
      simp only [Option.bind_some]
      rw [o_s]
      exact b1
  exact lp n 0 20000 σ (by omega) (by omega) r H (fun w hw => absurd hw (by omega))
/-! the reference's place behind i ticks -/
theorem pb_w {σ ρ : Sg} (r : Rel σ ρ) {law : Option Nat} {K : Option (List Kl)} (H : HO σ ρ law K) {n w : Nat} (e : sg_I ρ 344 20 = Int32.ofNat n) (hn : n ≤ 4) (hw : w < n) {i : Nat} (hi : i ≤ 15000) : ∃ τ, f_X12_placeBehind 20000 344 (Int32.ofNat w) (Int32.ofNat i) ρ = some (Int32.ofNat (tj_ K (sg_I ρ) w i), τ) ∧ KS ρ τ := by
  obtain ⟨f1, f2, t1, i1, i4, -, -⟩ := r.gn e hn (by omega)
  obtain ⟨v, z, v1, z1, q1, p1, s1, s2, ev, w1, w2, w3, w4, -⟩ := r.wn e hn hw
  have d := r.rf
  have lp : ∀ (j k m : Nat) (ρ' : Sg), k + j = i → j < m → KS ρ ρ' → ∃ τ, f_X12_placeBehind_L10 20000 344 m (Int32.ofNat w) (Int32.ofNat i) (Int32.ofNat (tj_ K (sg_I ρ) w k)) (Int32.ofNat k) ρ' = some (Int32.ofNat (tj_ K (sg_I ρ) w i), τ) ∧ KS ρ τ := by
    intro j
    induction j with
    | zero =>
      intro k m ρ' hk hm ks
      obtain ⟨m, rfl⟩ : ∃ x, m = x + 1 := ⟨m - 1, by omega⟩
      have hk : k = i := by omega
      subst hk
      exact ⟨ρ', by rw [f_X12_placeBehind_L10, if_neg (by rw [o_lt (by omega) (by omega)]; omega)], ks⟩
    | succ j ih =>
      intro k m ρ' hk hm ks
      obtain ⟨m, rfl⟩ : ∃ x, m = x + 1 := ⟨m - 1, by omega⟩
      obtain ⟨υ, a1, a2⟩ := nx_s r H e hn hw ks (i := k) (by omega)
      obtain ⟨τ, b1, b2⟩ := ih (k + 1) m υ (by omega) (by omega) (ks.tr a2.ks)
      have d' : RF (sg_R ρ') (sg_L ρ') := by rw [ks.1.2.1, ks.1.2.2.1]; exact d
      have e19 : sg_I ρ' 359 19 = Int32.ofNat (wt0 (sg_I ρ)) := by rw [ks.h.2.1]; exact i4
      refine ⟨τ, ?_, b2⟩
      rw [f_X12_placeBehind_L10, if_pos (by rw [o_lt (by omega) (by omega)]; omega)]
      simp only [Option.bind_some, ↓reduceIte, gI_I, gI_R, gI_J, gR_I, gR_R, gR_J, gL_I, gL_R, gL_J, gN_I, gN_R, gN_J, gJ_I, gJ_R, Int32.reduceLT, e_1_0, Int32.reduceToNatClampNeg, Int32.reduceToInt, Int.reduceLE, Int.reduceLT, Int.reduceNeg, Int.reduceEq,  Nat.reduceLT, Nat.reduceLeDiff, Nat.reduceEqDiff, Nat.reduceAdd, Nat.reduceMul, false_or, or_false, true_and, and_true, false_and, and_false, not_false_eq_true, not_true_eq_false, or_self, and_self, true_or, or_true, d', e19]
      rw [o_add, a1]
      simp only [Option.bind_some]
      rw [o_s]
      exact b1
  obtain ⟨τ, a1, a2⟩ := lp i 0 20000 ρ (by omega) (by omega) KS.rf
  refine ⟨τ, ?_, a2⟩
  have o2 : f_X12_of 344 (Int32.ofNat w) 2 ρ = some (Int32.ofNat (wp0 (sg_I ρ) w)) := by rw [of_2 d (by omega), w3]
  have a1' : f_X12_placeBehind_L10 20000 344 20000 (Int32.ofNat w) (Int32.ofNat i) (Int32.ofNat (wp0 (sg_I ρ) w)) 0 ρ = some (Int32.ofNat (tj_ K (sg_I ρ) w i), τ) := a1
  unfold f_X12_placeBehind
  rw [f_of o2, a1']
theorem p2_at : so_at p2_I 20000 := by
  intro x y
  refine Sm.so (Sm.of ?_)
  intro σ ρ r
  obtain ⟨n, h1, h2, h3, h4, h5⟩ := r.nw
  have c := r.cf
  have d := r.rf
  have iw := iw_v c h1 h3 x
  have jw := jw_v h1 h2 x
  have e0 : (0 : Int32).toInt = 0 := rfl
  have e99 : (99 : Int32).toInt = 99 := rfl
  by_cases g : 0 ≤ x.toInt ∧ x.toInt < n
  · rw [if_pos g] at iw jw
    by_cases gy : 0 ≤ y.toInt ∧ y.toInt ≤ 99
    · obtain ⟨w, hw, rfl⟩ := x_lt g
      obtain ⟨i, hi, rfl⟩ := x_ob (B := 99) gy
      obtain ⟨law, K, H⟩ := r.ho
      obtain ⟨f1, f2, t1, i1, i4, i5, i8⟩ := r.gn h2 h1 (by omega)
      obtain ⟨v, z, v1, z1, q1, p1, s1, s2, ev, w1, w2, w3, w4, -⟩ := r.wn h2 h1 hw
      obtain ⟨τ, a1, ⟨S, L, T⟩, a3, -⟩ := tc_w r H h2 h1 hw
      have hif : i * wf_ (sg_I ρ) ≤ 99 * 60 := Nat.mul_le_mul hi f2
      obtain ⟨υ, b1, b2⟩ := pb_w r H h2 h1 hw (i := i * wf_ (sg_I ρ)) (by omega)
      have sf := sf_v T (n := i * wf_ (sg_I ρ)) (by omega)
      have hlt := tj_lt r h2 h1 hw (K := K) (i * wf_ (sg_I ρ))
      have y1 : ¬ Int32.ofNat i < 0 := o_nn (by omega)
      have y2 : ¬ 99 < Int32.ofNat i := by rw [i_lt]; omega
      have pic := pa_v (b2.kr.rel r) (q := wr_ (sg_I ρ) w) (p := tj_ K (sg_I ρ) w (i * wf_ (sg_I ρ))) (by omega) (by omega)
      rw [b2.h.2.2.2] at pic
      refine ⟨(hP (sg_I ρ) (wr_ (sg_I ρ) w) (tj_ K (sg_I ρ) w (i * wf_ (sg_I ρ))), τ), (hP (sg_I ρ) (wr_ (sg_I ρ) w) (tj_ K (sg_I ρ) w (i * wf_ (sg_I ρ))), υ), ?_, ?_, rfl, a3, b2.kr⟩
      · have c' : sg_R τ 0 13 = some 17 := by rw [a3.2.1.2.1 0 13 (scR_lo (by omega))]; simp only [c]
        have e2 : sg_I τ 17 2 = Int32.ofNat (wf_ (sg_I ρ)) := by rw [a3.i (by omega)]; exact i5
        unfold f_X11_at
        simp only [Option.bind_some, ↓reduceIte, gI_I, gI_R, gI_J, gR_I, gR_R, gR_J, gL_I, gL_R, gL_J, gN_I, gN_R, gN_J, gJ_I, gJ_R, Int32.reduceLT, e_1_0, Int32.reduceToNatClampNeg, Int32.reduceToInt, Int.reduceLE, Int.reduceLT, Int.reduceNeg, Int.reduceEq,  Nat.reduceLT, Nat.reduceLeDiff, Nat.reduceEqDiff, Nat.reduceAdd, Nat.reduceMul, false_or, or_false, true_and, and_true, false_and, and_false, not_false_eq_true, not_true_eq_false, or_self, and_self, true_or, or_true, iw, y1, y2, a1, c', e2, o_mul, sf]
        rfl
      · unfold f_X12_at
        simp only [Option.bind_some, ↓reduceIte, gI_I, gI_R, gI_J, gR_I, gR_R, gR_J, gL_I, gL_R, gL_J, gN_I, gN_R, gN_J, gJ_I, gJ_R, Int32.reduceLT, e_1_0, Int32.reduceToNatClampNeg, Int32.reduceToInt, Int.reduceLE, Int.reduceLT, Int.reduceNeg, Int.reduceEq,  Nat.reduceLT, Nat.reduceLeDiff, Nat.reduceEqDiff, Nat.reduceAdd, Nat.reduceMul, false_or, or_false, true_and, and_true, false_and, and_false, not_false_eq_true, not_true_eq_false, or_self, and_self, true_or, or_true, jw, in_v, gy, of_3 d (show w < 4 by omega), d, i1, o_mul, b1, w4, pic]
    · refine ⟨(-1, σ), (-1, ρ), ?_, by unfold f_X12_at; simp only [Option.bind_some, ↓reduceIte, gI_I, gI_R, gI_J, gR_I, gR_R, gR_J, gL_I, gL_R, gL_J, gN_I, gN_R, gN_J, gJ_I, gJ_R, Int32.reduceLT, e_1_0, Int32.reduceToNatClampNeg, Int32.reduceToInt, Int.reduceLE, Int.reduceLT, Int.reduceNeg, Int.reduceEq,  Nat.reduceLT, Nat.reduceLeDiff, Nat.reduceEqDiff, Nat.reduceAdd, Nat.reduceMul, false_or, or_false, true_and, and_true, false_and, and_false, not_false_eq_true, not_true_eq_false, or_self, and_self, true_or, or_true, jw, in_v, gy], rfl, KC.rf, KR.rf⟩
      unfold f_X11_at
      by_cases h : y < 0
      · simp only [Option.bind_some, ↓reduceIte, gI_I, gI_R, gI_J, gR_I, gR_R, gR_J, gL_I, gL_R, gL_J, gN_I, gN_R, gN_J, gJ_I, gJ_R, Int32.reduceLT, e_1_0, Int32.reduceToNatClampNeg, Int32.reduceToInt, Int.reduceLE, Int.reduceLT, Int.reduceNeg, Int.reduceEq,  Nat.reduceLT, Nat.reduceLeDiff, Nat.reduceEqDiff, Nat.reduceAdd, Nat.reduceMul, false_or, or_false, true_and, and_true, false_and, and_false, not_false_eq_true, not_true_eq_false, or_self, and_self, true_or, or_true, iw, h]
      · have h' : 99 < y := by rw [i_lt] at h ⊢; omega
        simp only [Option.bind_some, ↓reduceIte, gI_I, gI_R, gI_J, gR_I, gR_R, gR_J, gL_I, gL_R, gL_J, gN_I, gN_R, gN_J, gJ_I, gJ_R, Int32.reduceLT, e_1_0, Int32.reduceToNatClampNeg, Int32.reduceToInt, Int.reduceLE, Int.reduceLT, Int.reduceNeg, Int.reduceEq,  Nat.reduceLT, Nat.reduceLeDiff, Nat.reduceEqDiff, Nat.reduceAdd, Nat.reduceMul, false_or, or_false, true_and, and_true, false_and, and_false, not_false_eq_true, not_true_eq_false, or_self, and_self, true_or, or_true, iw, h, h']
  · rw [if_neg g] at iw jw
    exact ⟨(-1, σ), (-1, ρ), by unfold f_X11_at; simp only [Option.bind_some, ↓reduceIte, gI_I, gI_R, gI_J, gR_I, gR_R, gR_J, gL_I, gL_R, gL_J, gN_I, gN_R, gN_J, gJ_I, gJ_R, Int32.reduceLT, e_1_0, Int32.reduceToNatClampNeg, Int32.reduceToInt, Int.reduceLE, Int.reduceLT, Int.reduceNeg, Int.reduceEq,  Nat.reduceLT, Nat.reduceLeDiff, Nat.reduceEqDiff, Nat.reduceAdd, Nat.reduceMul, false_or, or_false, true_and, and_true, false_and, and_false, not_false_eq_true, not_true_eq_false, or_self, and_self, true_or, or_true, iw], by unfold f_X12_at; simp only [Option.bind_some, ↓reduceIte, gI_I, gI_R, gI_J, gR_I, gR_R, gR_J, gL_I, gL_R, gL_J, gN_I, gN_R, gN_J, gJ_I, gJ_R, Int32.reduceLT, e_1_0, Int32.reduceToNatClampNeg, Int32.reduceToInt, Int.reduceLE, Int.reduceLT, Int.reduceNeg, Int.reduceEq,  Nat.reduceLT, Nat.reduceLeDiff, Nat.reduceEqDiff, Nat.reduceAdd, Nat.reduceMul, false_or, or_false, true_and, and_true, false_and, and_false, not_false_eq_true, not_true_eq_false, or_self, and_self, true_or, or_true, jw], rfl, KC.rf, KR.rf⟩
theorem p2_seems : so_seems p2_I 20000 := by
  intro x y
  refine Sm.so (Sm.of ?_)
  intro σ ρ r
  obtain ⟨n, h1, h2, h3, h4, h5⟩ := r.nw
  have c := r.cf
  have d := r.rf
  have iw := iw_v c h1 h3 x
  have jw := jw_v h1 h2 x
  have e1 : (1 : Int32).toInt = 1 := rfl
  have e60 : (60 : Int32).toInt = 60 := rfl
  by_cases g : 0 ≤ x.toInt ∧ x.toInt < n
  · rw [if_pos g] at iw jw
    by_cases gy : 1 ≤ y.toInt ∧ y.toInt ≤ 60
    · obtain ⟨w, hw, rfl⟩ := x_lt g
      obtain ⟨i, i1', hi, rfl⟩ := x_1 (a := 1) (b := 60) gy
      obtain ⟨law, K, H⟩ := r.ho
      obtain ⟨v, z, v1, z1, q1, p1, s1, s2, ev, w1, w2, w3, w4, w5, w6, w7, w8⟩ := r.wn h2 h1 hw
      obtain ⟨τ, a1, ⟨S, L, T⟩, a3, -⟩ := tc_w r H h2 h1 hw
      obtain ⟨υ, b1, b2⟩ := pb_w r H h2 h1 hw (i := i) (by omega)
      have pf := pf_v T (n := i) (by omega)
      have hlt := tj_lt r h2 h1 hw (K := K) i
      obtain ⟨b, cc, so1, so2, so3, -⟩ := so_v r (show wr_ (sg_I ρ) w ≤ 100 by omega) w8
      have sz := sz_v so2 so3
      have y1 : ¬ Int32.ofNat i < 1 := by rw [i_lt]; omega
      have y2 : ¬ 60 < Int32.ofNat i := by rw [i_lt]; omega
      have I4 := iw_4 (show w < 4 by omega)
      have e18 := r.w18 w (by omega)
      have ep : sg_I τ (20 + w) 2 = Int32.ofNat (wp0 (sg_I ρ) w) := by rw [a3.i (by omega)]; exact w7
      have d' : RF (sg_R υ) (sg_L υ) := by rw [b2.1.2.1, b2.1.2.2.1]; exact d
      have eq : sg_I υ 359 (4 * w + 2) = Int32.ofNat (wp0 (sg_I ρ) w) := by rw [b2.h.2.1]; exact w3
      have rc := rd_o (x := Int32.ofNat (tj_ K (sg_I ρ) w i) - Int32.ofNat (wp0 (sg_I ρ) w)) (b := hL (sg_I ρ) (wr_ (sg_I ρ) w)) (by omega) (by omega)
      have rr := rd_p (x := Int32.ofNat (tj_ K (sg_I ρ) w i) - Int32.ofNat (wp0 (sg_I ρ) w)) (b := hL (sg_I ρ) (wr_ (sg_I ρ) w)) (by omega) (by omega)
      generalize Int32.ofNat ((Int32.ofNat (tj_ K (sg_I ρ) w i) - Int32.ofNat (wp0 (sg_I ρ) w)).toInt % (hL (sg_I ρ) (wr_ (sg_I ρ) w) : Int)).toNat = k at rc rr
      have pf' : f_X0_placeAfter (320 + 6 * w) (Int32.ofNat i) τ = some (Int32.ofNat (tj_ K (sg_I ρ) w i)) := pf
      have lo := lo_v r (show w < 4 by omega) (show wr_ (sg_I ρ) w ≤ 100 by omega) w4
      by_cases q : Int32.ofNat (hL (sg_I ρ) (wr_ (sg_I ρ) w)) < 2 * k
      · refine ⟨(k - Int32.ofNat (hL (sg_I ρ) (wr_ (sg_I ρ) w)), τ), (k - Int32.ofNat (hL (sg_I ρ) (wr_ (sg_I ρ) w)), υ), ?_, ?_, rfl, a3, b2.kr⟩
        · unfold f_X11_seems
          simp only [Option.bind_some, ↓reduceIte, gI_I, gI_R, gI_J, gR_I, gR_R, gR_J, gL_I, gL_R, gL_J, gN_I, gN_R, gN_J, gJ_I, gJ_R, Int32.reduceLT, e_1_0, Int32.reduceToNatClampNeg, Int32.reduceToInt, Int.reduceLE, Int.reduceLT, Int.reduceNeg, Int.reduceEq,  Nat.reduceLT, Nat.reduceLeDiff, Nat.reduceEqDiff, Nat.reduceAdd, Nat.reduceMul, false_or, or_false, true_and, and_true, false_and, and_false, not_false_eq_true, not_true_eq_false, or_self, and_self, true_or, or_true, iw, y1, y2, c, I4, e18, so1, sz, a1, pf', ep, rc, q]
        · unfold f_X12_seems
          simp only [Option.bind_some, ↓reduceIte, gI_I, gI_R, gI_J, gR_I, gR_R, gR_J, gL_I, gL_R, gL_J, gN_I, gN_R, gN_J, gJ_I, gJ_R, Int32.reduceLT, e_1_0, Int32.reduceToNatClampNeg, Int32.reduceToInt, Int.reduceLE, Int.reduceLT, Int.reduceNeg, Int.reduceEq,  Nat.reduceLT, Nat.reduceLeDiff, Nat.reduceEqDiff, Nat.reduceAdd, Nat.reduceMul, false_or, or_false, true_and, and_true, false_and, and_false, not_false_eq_true, not_true_eq_false, or_self, and_self, true_or, or_true, jw, in_v, gy, lo, b1, of_2 d' (show w < 4 by omega), eq, rr, q]
      · refine ⟨(k, τ), (k, υ), ?_, ?_, rfl, a3, b2.kr⟩
        · unfold f_X11_seems
          simp only [Option.bind_some, ↓reduceIte, gI_I, gI_R, gI_J, gR_I, gR_R, gR_J, gL_I, gL_R, gL_J, gN_I, gN_R, gN_J, gJ_I, gJ_R, Int32.reduceLT, e_1_0, Int32.reduceToNatClampNeg, Int32.reduceToInt, Int.reduceLE, Int.reduceLT, Int.reduceNeg, Int.reduceEq,  Nat.reduceLT, Nat.reduceLeDiff, Nat.reduceEqDiff, Nat.reduceAdd, Nat.reduceMul, false_or, or_false, true_and, and_true, false_and, and_false, not_false_eq_true, not_true_eq_false, or_self, and_self, true_or, or_true, iw, y1, y2, c, I4, e18, so1, sz, a1, pf', ep, rc, q]
        · unfold f_X12_seems
          simp only [Option.bind_some, ↓reduceIte, gI_I, gI_R, gI_J, gR_I, gR_R, gR_J, gL_I, gL_R, gL_J, gN_I, gN_R, gN_J, gJ_I, gJ_R, Int32.reduceLT, e_1_0, Int32.reduceToNatClampNeg, Int32.reduceToInt, Int.reduceLE, Int.reduceLT, Int.reduceNeg, Int.reduceEq,  Nat.reduceLT, Nat.reduceLeDiff, Nat.reduceEqDiff, Nat.reduceAdd, Nat.reduceMul, false_or, or_false, true_and, and_true, false_and, and_false, not_false_eq_true, not_true_eq_false, or_self, and_self, true_or, or_true, jw, in_v, gy, lo, b1, of_2 d' (show w < 4 by omega), eq, rr, q]
    · refine ⟨(-1000000, σ), (-1000000, ρ), ?_, by unfold f_X12_seems f_X12_seems_B18; simp only [Option.bind_some, ↓reduceIte, gI_I, gI_R, gI_J, gR_I, gR_R, gR_J, gL_I, gL_R, gL_J, gN_I, gN_R, gN_J, gJ_I, gJ_R, Int32.reduceLT, e_1_0, Int32.reduceToNatClampNeg, Int32.reduceToInt, Int.reduceLE, Int.reduceLT, Int.reduceNeg, Int.reduceEq,  Nat.reduceLT, Nat.reduceLeDiff, Nat.reduceEqDiff, Nat.reduceAdd, Nat.reduceMul, false_or, or_false, true_and, and_true, false_and, and_false, not_false_eq_true, not_true_eq_false, or_self, and_self, true_or, or_true, jw, in_v, gy], rfl, KC.rf, KR.rf⟩
      unfold f_X11_seems f_X11_seems_B19
      by_cases h : y < 1
      · simp only [Option.bind_some, ↓reduceIte, gI_I, gI_R, gI_J, gR_I, gR_R, gR_J, gL_I, gL_R, gL_J, gN_I, gN_R, gN_J, gJ_I, gJ_R, Int32.reduceLT, e_1_0, Int32.reduceToNatClampNeg, Int32.reduceToInt, Int.reduceLE, Int.reduceLT, Int.reduceNeg, Int.reduceEq,  Nat.reduceLT, Nat.reduceLeDiff, Nat.reduceEqDiff, Nat.reduceAdd, Nat.reduceMul, false_or, or_false, true_and, and_true, false_and, and_false, not_false_eq_true, not_true_eq_false, or_self, and_self, true_or, or_true, iw, h]
      · have h' : 60 < y := by rw [i_lt] at h ⊢; omega
        simp only [Option.bind_some, ↓reduceIte, gI_I, gI_R, gI_J, gR_I, gR_R, gR_J, gL_I, gL_R, gL_J, gN_I, gN_R, gN_J, gJ_I, gJ_R, Int32.reduceLT, e_1_0, Int32.reduceToNatClampNeg, Int32.reduceToInt, Int.reduceLE, Int.reduceLT, Int.reduceNeg, Int.reduceEq,  Nat.reduceLT, Nat.reduceLeDiff, Nat.reduceEqDiff, Nat.reduceAdd, Nat.reduceMul, false_or, or_false, true_and, and_true, false_and, and_false, not_false_eq_true, not_true_eq_false, or_self, and_self, true_or, or_true, iw, h, h']
  · rw [if_neg g] at iw jw
    exact ⟨(-1000000, σ), (-1000000, ρ), by unfold f_X11_seems f_X11_seems_B19; simp only [Option.bind_some, ↓reduceIte, gI_I, gI_R, gI_J, gR_I, gR_R, gR_J, gL_I, gL_R, gL_J, gN_I, gN_R, gN_J, gJ_I, gJ_R, Int32.reduceLT, e_1_0, Int32.reduceToNatClampNeg, Int32.reduceToInt, Int.reduceLE, Int.reduceLT, Int.reduceNeg, Int.reduceEq,  Nat.reduceLT, Nat.reduceLeDiff, Nat.reduceEqDiff, Nat.reduceAdd, Nat.reduceMul, false_or, or_false, true_and, and_true, false_and, and_false, not_false_eq_true, not_true_eq_false, or_self, and_self, true_or, or_true, iw], by unfold f_X12_seems f_X12_seems_B18; simp only [Option.bind_some, ↓reduceIte, gI_I, gI_R, gI_J, gR_I, gR_R, gR_J, gL_I, gL_R, gL_J, gN_I, gN_R, gN_J, gJ_I, gJ_R, Int32.reduceLT, e_1_0, Int32.reduceToNatClampNeg, Int32.reduceToInt, Int.reduceLE, Int.reduceLT, Int.reduceNeg, Int.reduceEq,  Nat.reduceLT, Nat.reduceLeDiff, Nat.reduceEqDiff, Nat.reduceAdd, Nat.reduceMul, false_or, or_false, true_and, and_true, false_and, and_false, not_false_eq_true, not_true_eq_false, or_self, and_self, true_or, or_true, jw], rfl, KC.rf, KR.rf⟩
