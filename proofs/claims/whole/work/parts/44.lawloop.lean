/-! ===== the law's walk: wheel, the switch, the loop ===== -/
def so_wheel (Inv : Sg → Prop) (N : Nat) : Prop := ∀ (x1 x2 : Int32) (σ : Sg), Inv σ →
  (∃ r q, f_X11_wheel 0 x1 x2 σ = some r ∧ f_X12_wheel 344 x1 x2 (put_J σ 370 0 r.toInt64) = some q ∧ sg_I q.2 344 0 = 0 ∧ q.1 = r ∧ sg_J q.2 370 0 = r.toInt64 ∧ Inv q.2) ∨
  (x_X11_wheel 0 x1 x2 σ ∧ ∀ n : Nat, ∃ q, f_X12_wheel 344 x1 x2 (pad_C σ n) = some q ∧ sg_I q.2 344 0 = 1 ∧ Inv q.2)
set_option maxRecDepth 100000 in
theorem sm_L_wheel9 : Cond.static yL_wheel ∈ wt_ := wt_in (i := 1290) (by decide +kernel) rfl
theorem J_callL {Γ : Gm} {b L : Nat} {xs : Nat → Int32} {pc q : Nat} {lv : List (Nat × AV)} {σ : Sg} {k n : Nat} (C : CLw Γ b L xs) {as rest st0 : List AV} {Q' : Option AV → Sg → Prop} (hM : Cw yL_wheel cL_wheel 5 (some .int) hh_L 9 160 1 6 as σ Q') (hd : decode cL_law pc = .ok (.invokestatic 42, 3)) (hq : pc + 3 = q) (hst : st0 = as.reverse ++ rest) (hn0 : as.length = 4) (hcat : (rest.map ac_).sum ≤ 8) (h3 : k + 1 ≤ 601024) (h4 : n + 6 ≤ 7293034) (kk : ∀ (r : Option AV) (τ : Sg), Q' r τ → J_ Γ q lv (r.toList ++ rest) τ (k + 1) (n + 6)) : J_ Γ pc lv st0 σ k n := by
  refine J_run (a := as) C.1 hq ?_ kk
  have hR := C.room
  obtain ⟨p, l, e, R, s, m, args, below, meth, c, κ, z, tA, D, nL, Z⟩ := Γ
  obtain ⟨⟨hx, hb, hml, hown, hts, hK, hX, hz⟩, hnl, hY, hl0, -⟩ := C
  have hR : R = { frames := 2048, cells := 601024, slots := 7293034, locals := 84000 } := hR
  subst hR hst
  intro H locs ls hP hS hsz
  have hG : GoodIn wt_ (va_wsS RL 42 yL_wheel (Cond.codeWith yL_wheel cL_wheel 5 (some .int) hh_L :: wt_)) := by
    intro w hw
    have h1 : w ∈ wt_ := by
      simp only [va_wsS, List.mem_append, List.mem_cons, List.not_mem_nil, or_false] at hw
      rcases hw with hw | hw
      · rcases hw with rfl | rfl | rfl
        · exact lk_L_42
        · exact sm_L_wheel9
        · exact iz_L
      · rcases hw with rfl | hw
        · exact cw_L_wheel
        · exact hw
    exact ⟨h1, good_of_word (List.mem_filter.mp h1).2⟩
  refine vx_runSW (hh := hh_L) (As := as.map (av_ κ z)) (rest := rest.map (av_ κ z)) ⟨hx, hb, hml, hown, hts⟩ (hM l hl0 κ z tA D) (vx_cwSW 4 hts hG rfl rfl rfl ⟨by decide +kernel, by decide +kernel, by decide +kernel⟩ ⟨Nat.le_of_ble_eq_true rfl, Nat.le_of_ble_eq_true rfl⟩) ⟨cy_blind, cy_pre (p := p) hP hS hK hY hz⟩ rfl (by rw [List.length_map]; exact hn0) hsz ?_ (rest_cat hcat) hd ⟨h3, h4⟩
  show ((as.reverse ++ rest).map (av_ κ z)) = _
  rw [List.map_append, List.map_reverse]
theorem lg_cmp_self (x : Int64) : lg_cmp x x = 0 := by simp [lg_cmp]
set_option maxHeartbeats 4000000 in
set_option maxRecDepth 100000 in
theorem lw_c5 {Γ : Gm} {b L : Nat} {xs : Nat → Int32} (C : CLw Γ b L xs) {Inv : Sg → Prop} {N : Nat} (so : so_wheel Inv N) {σ : Sg} (hI : Inv σ) (hB : lw_B σ) {i : Int32} (hi : ¬ i < 0 ∧ i.toNatClampNeg + 6 ≤ L) (hL : L ≤ 3072) {k n : Nat} (hk : k + 3 ≤ 601024) (hn : n + 800 ≤ 7293034) (kk : ∀ τ, Inv τ → lw_B τ → J_ Γ 1772 (lw_lv i) [] τ (k + 3) (n + 800)) : J_ Γ 409 (lw_lv i) [] σ k n := by
  have C0 := C.1
  refine J_aload_n (q := 410) C0 1 rfl rfl dL_law_409 rfl trivial ?_
  refine J_aload_n (q := 411) C0 0 rfl rfl dL_law_410 rfl trivial ?_
  refine J_iload (q := 413) C0 4 rfl dL_law_411 rfl ?_
  refine J_iconst (q := 414) (v := 1) C0 dL_law_413 rfl rfl ?_
  refine J_iadd (q := 415) C0 dL_law_414 rfl ?_
  refine J_sld (q := 416) C (lw_ix hi.1 hi.2 hL (by decide)) dL_law_415 rfl ?_
  refine J_aload_n (q := 417) C0 0 rfl rfl dL_law_416 rfl trivial ?_
  refine J_iload (q := 419) C0 4 rfl dL_law_417 rfl ?_
  refine J_iconst (q := 420) (v := 2) C0 dL_law_419 rfl rfl ?_
  refine J_iadd (q := 421) C0 dL_law_420 rfl ?_
  refine J_sld (q := 422) C (lw_ix hi.1 hi.2 hL (by decide)) dL_law_421 rfl ?_
  refine J_aload_n (q := 423) C0 3 rfl rfl dL_law_422 rfl trivial ?_
  have key : ∀ (r5 : Int32) (τ : Sg) (q : Int32 × Sg), sg_T τ → is_A τ 0 10 → is_A τ 344 11 → is_A τ 370 19 → 0 < sg_L τ 370 → f_X12_wheel 344 (xs (i + 1).toNatClampNeg) (xs (i + 2).toNatClampNeg) τ = some q → sg_I q.2 344 0 = r5 → (r5 = 0 → sg_J q.2 370 0 = q.1.toInt64) → Inv q.2 → J_ Γ 426 (lw_lv i) [vi r5] τ (k + 1) (n + 6) := by
    intro r5 τ q hT h000 h344 h370 hL370 hq hth hj hI2
    refine J_istore (q := 428) (lv' := (5, vi r5) :: lw_lv i) C0 (by rw [C.2.1]; decide) dL_law_426 rfl rfl ?_
    refine J_aload_n (q := 429) C0 3 rfl rfl dL_law_428 rfl trivial ?_
    refine J_aload_n (q := 430) C0 1 rfl rfl dL_law_429 rfl trivial ?_
    refine J_iload (q := 432) C0 5 rfl dL_law_430 rfl ?_
    refine J_iconst (q := 433) (v := 1) C0 dL_law_432 rfl rfl ?_
    refine J_iadd (q := 434) C0 dL_law_433 rfl ?_
    refine J_sld (q := 435) C (lw_ix hi.1 hi.2 hL (by decide)) dL_law_434 rfl ?_
    refine J_aload_n (q := 436) C0 1 rfl rfl dL_law_435 rfl trivial ?_
    refine J_iload (q := 438) C0 5 rfl dL_law_436 rfl ?_
    refine J_iconst (q := 439) (v := 2) C0 dL_law_438 rfl rfl ?_
    refine J_iadd (q := 440) C0 dL_law_439 rfl ?_
    refine J_sld (q := 441) C (lw_ix hi.1 hi.2 hL (by decide)) dL_law_440 rfl ?_
    refine J_callV (q := 444) (ci := 11) (as := [vi (xs (i + 1).toNatClampNeg), vi (xs (i + 2).toNatClampNeg)]) (rest := []) C0 rfl h344 (t_X12_wheel 344 (xs (i + 1).toNatClampNeg) (xs (i + 2).toNatClampNeg) hT h344 hq) ml_X12_wheel lk_L_47 im_X12_wheel se_X12_wheel rfl (by decide) dL_law_441 rfl rfl rfl (by simp [ac_]) C.room (Nat.le_of_ble_eq_true rfl) (Nat.le_of_ble_eq_true rfl) (by omega) (by omega) (fun r_ τ_ hQ => ?_)
    obtain ⟨rfl, ht_, T1, E1⟩ := hQ; subst ht_
    show J_ Γ 444 ((5, vi r5) :: lw_lv i) [vi q.1] q.2 (k + 1) (n + 6)
    refine J_istore (q := 446) (lv' := (6, vi q.1) :: (5, vi r5) :: lw_lv i) C0 (by rw [C.2.1]; decide) dL_law_444 rfl rfl ?_
    refine J_aload_n (q := 447) C0 4 rfl rfl dL_law_446 rfl trivial ?_
    refine J_callV (q := 450) (ci := 11) (as := []) (rest := []) C0 rfl (E1.at h344) (t_X12_thrown 344 (E1.at h344) rfl) ml_X12_thrown lk_L_48 im_X12_thrown se_X12_thrown rfl (by decide) dL_law_447 rfl rfl rfl (by simp [ac_]) C.room (Nat.le_of_ble_eq_true rfl) (Nat.le_of_ble_eq_true rfl) (by omega) (by omega) (fun r_ τ_ hQ => ?_)
    obtain ⟨rfl, ht_⟩ := hQ; subst ht_
    show J_ Γ 450 ((6, vi q.1) :: (5, vi r5) :: lw_lv i) [vi (sg_I q.2 344 0)] q.2 (k + 1) (n + 6)
    rw [hth]
    refine J_iload (q := 452) C0 1 rfl dL_law_450 rfl ?_
    have hf_ : (if r5 = r5 then some () else some ()) = some () := by split <;> rfl
    refine J_icmp_eq (t := 457) (q := 455) C0 dL_law_452 (by decide) rfl hf_ (fun _ _ => ?_) (fun c_ _ => absurd rfl c_)
    refine J_iload (q := 459) C0 1 rfl dL_law_457 rfl ?_
    have fin : J_ Γ 474 ((6, vi q.1) :: (5, vi r5) :: lw_lv i) [] q.2 (k + 1) (n + 6) := by
      refine J_goto (q := 1772) C0 dL_law_474 (by decide) ?_
      refine J_sub (lv' := lw_lv i) [2, 3, 4, 5, 6] rfl ?_
      exact J_widen (by omega) (by omega) (kk _ hI2 ⟨T1, E1.at h000, E1.at h344, E1.at h370, by rw [(E1.2 370 h370.1).2]; exact hL370⟩)
    have hf2 : (if r5 = 0 then some () else some ()) = some () := by split <;> rfl
    refine J_if_ne (t := 474) (q := 462) C0 dL_law_459 (by decide) rfl hf2 (fun _ _ => fin) (fun c_ _ => ?_)
    refine J_aload_n (q := 463) C0 5 rfl rfl dL_law_462 rfl trivial ?_
    refine J_iconst (q := 464) (v := 0) C0 dL_law_463 rfl rfl ?_
    refine J_lald (q := 465) C0 rfl (E1.at h370) (by
      intro h
      rcases h with h | h
      · exact absurd h (by decide)
      · rw [(E1.2 370 h370.1).2] at h
        exact absurd h (Nat.not_le.mpr hL370)) dL_law_464 rfl ?_
    refine J_iload (q := 467) C0 0 rfl dL_law_465 rfl ?_
    refine J_i2l (q := 468) C0 dL_law_467 rfl ?_
    refine J_lcmp (q := 469) C0 dL_law_468 rfl ?_
    have e9 : lg_cmp (sg_J q.2 370 (0 : Int32).toNatClampNeg) q.1.toInt64 = 0 := by
      have : (0 : Int32).toNatClampNeg = 0 := rfl
      rw [this, hj c_]
      exact lg_cmp_self _
    rw [e9]
    have hf3 : (if (0 : Int32) = 0 then some () else some ()) = some () := by split <;> rfl
    exact J_if_eq (t := 474) (q := 472) C0 dL_law_469 (by decide) rfl hf3 (fun _ _ => fin) (fun c_ _ => absurd rfl c_)
  rcases so (xs (i + 1).toNatClampNeg) (xs (i + 2).toNatClampNeg) σ hI with ⟨r, q, h1, h2, h3, h4, h5, h6⟩ | ⟨h1, h2⟩
  · refine J_callL (q := 426) (as := [vr (some 0), vi (xs (i + 1).toNatClampNeg), vi (xs (i + 2).toNatClampNeg), vr (some 370)]) (rest := []) C (tr_L_wheel 0 370 _ _ hB.1 hB.2.1 hB.2.2.2.1 hB.2.2.2.2 h1) dL_law_423 rfl rfl rfl (by decide) (by omega) (by omega) (fun r_ τ_ hQ => ?_)
    obtain ⟨rfl, ht_⟩ := hQ; subst ht_
    exact key 0 _ q (sg_T.putJ hB.1) hB.2.1 hB.2.2.1 hB.2.2.2.1 hB.2.2.2.2 h2 h3 (fun _ => by rw [h5, h4]) h6
  · refine J_callL (q := 426) (as := [vr (some 0), vi (xs (i + 1).toNatClampNeg), vi (xs (i + 2).toNatClampNeg), vr (some 370)]) (rest := []) C (tx_L_wheel 0 370 _ _ hB.1 hB.2.1 h1) dL_law_423 rfl rfl rfl (by decide) (by omega) (by omega) (fun r_ τ_ hQ => ?_)
    obtain ⟨rfl, n9, ht_⟩ := hQ; subst ht_
    obtain ⟨q, g1, g2, g3⟩ := h2 n9
    have E := pad_E σ n9
    exact key 1 _ q (pad_T hB.1 n9) (E.at hB.2.1) (E.at hB.2.2.1) (E.at hB.2.2.2.1) (by rw [(E.2 370 hB.2.2.2.1.1).2]; exact hB.2.2.2.2) g1 g2 (fun h => absurd h (by decide)) g3
def lw_ok (Inv : Sg → Prop) (N : Nat) : Prop := so_feed Inv N ∧ so_end Inv N ∧ so_fault Inv N ∧ so_text Inv N ∧ so_rule Inv N ∧ so_picture Inv N ∧ so_law Inv N ∧ so_touch Inv N ∧ so_ticks Inv N ∧ so_flash Inv N ∧ so_speed Inv N ∧ so_about Inv N ∧ so_push Inv N ∧ so_puts Inv N ∧ so_oil Inv N ∧ so_give Inv N ∧ so_years Inv N ∧ so_status Inv N ∧ so_undo Inv N ∧ so_log Inv N ∧ so_at Inv N ∧ so_seems Inv N ∧ so_stands Inv N ∧ so_together Inv N ∧ so_again Inv N ∧ so_meets Inv N ∧ so_reads Inv N ∧ so_period Inv N ∧ so_least Inv N ∧ so_alike Inv N ∧ so_mirror Inv N ∧ so_rows Inv N ∧ so_kinds Inv N ∧ so_noted Inv N ∧ so_fits Inv N ∧ so_ask Inv N ∧ so_game Inv N ∧ so_rests Inv N ∧ so_odds Inv N ∧ so_shares Inv N ∧ so_most Inv N ∧ so_image Inv N ∧ so_back Inv N ∧ so_count Inv N
set_option maxHeartbeats 4000000 in
set_option maxRecDepth 100000 in
theorem lw_switch {Γ : Gm} {b L : Nat} {xs : Nat → Int32} (C : CLw Γ b L xs) {Inv : Sg → Prop} {N : Nat} (ok : lw_ok Inv N) (so5 : so_wheel Inv N) {σ : Sg} (hI : Inv σ) (hB : lw_B σ) {i : Int32} (hi : ¬ i < 0 ∧ i.toNatClampNeg + 6 ≤ L) (hL : L ≤ 3072) {k n : Nat} (hk : k + 3 ≤ 601024) (hn : n + 800 ≤ 7293034) (kk : ∀ τ, Inv τ → lw_B τ → J_ Γ 1772 (lw_lv i) [] τ (k + 3) (n + 800)) : J_ Γ 40 (lw_lv i) [vi (xs i.toNatClampNeg &&& 63)] σ k n := by
  have C0 := C.1
  by_cases c0 : xs i.toNatClampNeg &&& 63 = 0
  · refine J_tblIn (t := 236) (off := 196) C0 dL_law_40 (by rw [c0]; decide) (by rw [c0]; decide) (by rw [c0]; rfl) (by decide) ?_
    exact lw_c0 C (ok.1) hI hB hi hL hk hn kk
  by_cases c1 : xs i.toNatClampNeg &&& 63 = 1
  · refine J_tblIn (t := 309) (off := 269) C0 dL_law_40 (by rw [c1]; decide) (by rw [c1]; decide) (by rw [c1]; rfl) (by decide) ?_
    exact lw_c1 C (ok.2.1) hI hB hi hL hk hn kk
  by_cases c2 : xs i.toNatClampNeg &&& 63 = 2
  · refine J_tblIn (t := 334) (off := 294) C0 dL_law_40 (by rw [c2]; decide) (by rw [c2]; decide) (by rw [c2]; rfl) (by decide) ?_
    exact lw_c2 C (ok.2.2.1) hI hB hi hL hk hn kk
  by_cases c3 : xs i.toNatClampNeg &&& 63 = 3
  · refine J_tblIn (t := 359) (off := 319) C0 dL_law_40 (by rw [c3]; decide) (by rw [c3]; decide) (by rw [c3]; rfl) (by decide) ?_
    exact lw_c3 C (ok.2.2.2.1) hI hB hi hL hk hn kk
  by_cases c4 : xs i.toNatClampNeg &&& 63 = 4
  · refine J_tblIn (t := 384) (off := 344) C0 dL_law_40 (by rw [c4]; decide) (by rw [c4]; decide) (by rw [c4]; rfl) (by decide) ?_
    exact lw_c4 C (ok.2.2.2.2.1) hI hB hi hL hk hn kk
  by_cases c5 : xs i.toNatClampNeg &&& 63 = 5
  · refine J_tblIn (t := 409) (off := 369) C0 dL_law_40 (by rw [c5]; decide) (by rw [c5]; decide) (by rw [c5]; rfl) (by decide) ?_
    exact lw_c5 C so5 hI hB hi hL hk hn kk
  by_cases c6 : xs i.toNatClampNeg &&& 63 = 6
  · refine J_tblIn (t := 477) (off := 437) C0 dL_law_40 (by rw [c6]; decide) (by rw [c6]; decide) (by rw [c6]; rfl) (by decide) ?_
    exact lw_c6 C (ok.2.2.2.2.2.1) hI hB hi hL hk hn kk
  by_cases c7 : xs i.toNatClampNeg &&& 63 = 7
  · refine J_tblIn (t := 514) (off := 474) C0 dL_law_40 (by rw [c7]; decide) (by rw [c7]; decide) (by rw [c7]; rfl) (by decide) ?_
    exact lw_c7 C (ok.2.2.2.2.2.2.1) hI hB hi hL hk hn kk
  by_cases c8 : xs i.toNatClampNeg &&& 63 = 8
  · refine J_tblIn (t := 539) (off := 499) C0 dL_law_40 (by rw [c8]; decide) (by rw [c8]; decide) (by rw [c8]; rfl) (by decide) ?_
    exact lw_c8 C (ok.2.2.2.2.2.2.2.1) hI hB hi hL hk hn kk
  by_cases c9 : xs i.toNatClampNeg &&& 63 = 9
  · refine J_tblIn (t := 564) (off := 524) C0 dL_law_40 (by rw [c9]; decide) (by rw [c9]; decide) (by rw [c9]; rfl) (by decide) ?_
    exact lw_c9 C (ok.2.2.2.2.2.2.2.2.1) hI hB hi hL hk hn kk
  by_cases c10 : xs i.toNatClampNeg &&& 63 = 10
  · refine J_tblIn (t := 589) (off := 549) C0 dL_law_40 (by rw [c10]; decide) (by rw [c10]; decide) (by rw [c10]; rfl) (by decide) ?_
    exact lw_c10 C (ok.2.2.2.2.2.2.2.2.2.1) hI hB hi hL hk hn kk
  by_cases c11 : xs i.toNatClampNeg &&& 63 = 11
  · refine J_tblIn (t := 614) (off := 574) C0 dL_law_40 (by rw [c11]; decide) (by rw [c11]; decide) (by rw [c11]; rfl) (by decide) ?_
    exact lw_c11 C (ok.2.2.2.2.2.2.2.2.2.2.1) hI hB hi hL hk hn kk
  by_cases c12 : xs i.toNatClampNeg &&& 63 = 12
  · refine J_tblIn (t := 651) (off := 611) C0 dL_law_40 (by rw [c12]; decide) (by rw [c12]; decide) (by rw [c12]; rfl) (by decide) ?_
    exact lw_c12 C (ok.2.2.2.2.2.2.2.2.2.2.2.1) hI hB hi hL hk hn kk
  by_cases c13 : xs i.toNatClampNeg &&& 63 = 13
  · refine J_tblIn (t := 676) (off := 636) C0 dL_law_40 (by rw [c13]; decide) (by rw [c13]; decide) (by rw [c13]; rfl) (by decide) ?_
    exact lw_c13 C (ok.2.2.2.2.2.2.2.2.2.2.2.2.1) hI hB hi hL hk hn kk
  by_cases c14 : xs i.toNatClampNeg &&& 63 = 14
  · refine J_tblIn (t := 713) (off := 673) C0 dL_law_40 (by rw [c14]; decide) (by rw [c14]; decide) (by rw [c14]; rfl) (by decide) ?_
    exact lw_c14 C (ok.2.2.2.2.2.2.2.2.2.2.2.2.2.1) hI hB hi hL hk hn kk
  by_cases c15 : xs i.toNatClampNeg &&& 63 = 15
  · refine J_tblIn (t := 750) (off := 710) C0 dL_law_40 (by rw [c15]; decide) (by rw [c15]; decide) (by rw [c15]; rfl) (by decide) ?_
    exact lw_c15 C (ok.2.2.2.2.2.2.2.2.2.2.2.2.2.2.1) hI hB hi hL hk hn kk
  by_cases c16 : xs i.toNatClampNeg &&& 63 = 16
  · refine J_tblIn (t := 775) (off := 735) C0 dL_law_40 (by rw [c16]; decide) (by rw [c16]; decide) (by rw [c16]; rfl) (by decide) ?_
    exact lw_c16 C (ok.2.2.2.2.2.2.2.2.2.2.2.2.2.2.2.1) hI hB hi hL hk hn kk
  by_cases c17 : xs i.toNatClampNeg &&& 63 = 17
  · refine J_tblIn (t := 800) (off := 760) C0 dL_law_40 (by rw [c17]; decide) (by rw [c17]; decide) (by rw [c17]; rfl) (by decide) ?_
    exact lw_c17 C (ok.2.2.2.2.2.2.2.2.2.2.2.2.2.2.2.2.1) hI hB hi hL hk hn kk
  by_cases c18 : xs i.toNatClampNeg &&& 63 = 18
  · refine J_tblIn (t := 869) (off := 829) C0 dL_law_40 (by rw [c18]; decide) (by rw [c18]; decide) (by rw [c18]; rfl) (by decide) ?_
    exact lw_c18 C (ok.2.2.2.2.2.2.2.2.2.2.2.2.2.2.2.2.2.1) hI hB hi hL hk hn kk
  by_cases c19 : xs i.toNatClampNeg &&& 63 = 19
  · refine J_tblIn (t := 894) (off := 854) C0 dL_law_40 (by rw [c19]; decide) (by rw [c19]; decide) (by rw [c19]; rfl) (by decide) ?_
    exact lw_c19 C (ok.2.2.2.2.2.2.2.2.2.2.2.2.2.2.2.2.2.2.1) hI hB hi hL hk hn kk
  by_cases c20 : xs i.toNatClampNeg &&& 63 = 20
  · refine J_tblIn (t := 907) (off := 867) C0 dL_law_40 (by rw [c20]; decide) (by rw [c20]; decide) (by rw [c20]; rfl) (by decide) ?_
    exact lw_c20 C (ok.2.2.2.2.2.2.2.2.2.2.2.2.2.2.2.2.2.2.2.1) hI hB hi hL hk hn kk
  by_cases c21 : xs i.toNatClampNeg &&& 63 = 21
  · refine J_tblIn (t := 944) (off := 904) C0 dL_law_40 (by rw [c21]; decide) (by rw [c21]; decide) (by rw [c21]; rfl) (by decide) ?_
    exact lw_c21 C (ok.2.2.2.2.2.2.2.2.2.2.2.2.2.2.2.2.2.2.2.2.1) hI hB hi hL hk hn kk
  by_cases c22 : xs i.toNatClampNeg &&& 63 = 22
  · refine J_tblIn (t := 981) (off := 941) C0 dL_law_40 (by rw [c22]; decide) (by rw [c22]; decide) (by rw [c22]; rfl) (by decide) ?_
    exact lw_c22 C (ok.2.2.2.2.2.2.2.2.2.2.2.2.2.2.2.2.2.2.2.2.2.1) hI hB hi hL hk hn kk
  by_cases c23 : xs i.toNatClampNeg &&& 63 = 23
  · refine J_tblIn (t := 1018) (off := 978) C0 dL_law_40 (by rw [c23]; decide) (by rw [c23]; decide) (by rw [c23]; rfl) (by decide) ?_
    exact lw_c23 C (ok.2.2.2.2.2.2.2.2.2.2.2.2.2.2.2.2.2.2.2.2.2.2.1) hI hB hi hL hk hn kk
  by_cases c24 : xs i.toNatClampNeg &&& 63 = 24
  · refine J_tblIn (t := 1055) (off := 1015) C0 dL_law_40 (by rw [c24]; decide) (by rw [c24]; decide) (by rw [c24]; rfl) (by decide) ?_
    exact lw_c24 C (ok.2.2.2.2.2.2.2.2.2.2.2.2.2.2.2.2.2.2.2.2.2.2.2.1) hI hB hi hL hk hn kk
  by_cases c25 : xs i.toNatClampNeg &&& 63 = 25
  · refine J_tblIn (t := 1068) (off := 1028) C0 dL_law_40 (by rw [c25]; decide) (by rw [c25]; decide) (by rw [c25]; rfl) (by decide) ?_
    exact lw_c25 C (ok.2.2.2.2.2.2.2.2.2.2.2.2.2.2.2.2.2.2.2.2.2.2.2.2.1) hI hB hi hL hk hn kk
  by_cases c26 : xs i.toNatClampNeg &&& 63 = 26
  · refine J_tblIn (t := 1093) (off := 1053) C0 dL_law_40 (by rw [c26]; decide) (by rw [c26]; decide) (by rw [c26]; rfl) (by decide) ?_
    exact lw_c26 C (ok.2.2.2.2.2.2.2.2.2.2.2.2.2.2.2.2.2.2.2.2.2.2.2.2.2.1) hI hB hi hL hk hn kk
  by_cases c27 : xs i.toNatClampNeg &&& 63 = 27
  · refine J_tblIn (t := 1130) (off := 1090) C0 dL_law_40 (by rw [c27]; decide) (by rw [c27]; decide) (by rw [c27]; rfl) (by decide) ?_
    exact lw_c27 C (ok.2.2.2.2.2.2.2.2.2.2.2.2.2.2.2.2.2.2.2.2.2.2.2.2.2.2.1) hI hB hi hL hk hn kk
  by_cases c28 : xs i.toNatClampNeg &&& 63 = 28
  · refine J_tblIn (t := 1155) (off := 1115) C0 dL_law_40 (by rw [c28]; decide) (by rw [c28]; decide) (by rw [c28]; rfl) (by decide) ?_
    exact lw_c28 C (ok.2.2.2.2.2.2.2.2.2.2.2.2.2.2.2.2.2.2.2.2.2.2.2.2.2.2.2.1) hI hB hi hL hk hn kk
  by_cases c29 : xs i.toNatClampNeg &&& 63 = 29
  · refine J_tblIn (t := 1180) (off := 1140) C0 dL_law_40 (by rw [c29]; decide) (by rw [c29]; decide) (by rw [c29]; rfl) (by decide) ?_
    exact lw_c29 C (ok.2.2.2.2.2.2.2.2.2.2.2.2.2.2.2.2.2.2.2.2.2.2.2.2.2.2.2.2.1) hI hB hi hL hk hn kk
  by_cases c30 : xs i.toNatClampNeg &&& 63 = 30
  · refine J_tblIn (t := 1205) (off := 1165) C0 dL_law_40 (by rw [c30]; decide) (by rw [c30]; decide) (by rw [c30]; rfl) (by decide) ?_
    exact lw_c30 C (ok.2.2.2.2.2.2.2.2.2.2.2.2.2.2.2.2.2.2.2.2.2.2.2.2.2.2.2.2.2.1) hI hB hi hL hk hn kk
  by_cases c31 : xs i.toNatClampNeg &&& 63 = 31
  · refine J_tblIn (t := 1270) (off := 1230) C0 dL_law_40 (by rw [c31]; decide) (by rw [c31]; decide) (by rw [c31]; rfl) (by decide) ?_
    exact lw_c31 C (ok.2.2.2.2.2.2.2.2.2.2.2.2.2.2.2.2.2.2.2.2.2.2.2.2.2.2.2.2.2.2.1) hI hB hi hL hk hn kk
  by_cases c32 : xs i.toNatClampNeg &&& 63 = 32
  · refine J_tblIn (t := 1295) (off := 1255) C0 dL_law_40 (by rw [c32]; decide) (by rw [c32]; decide) (by rw [c32]; rfl) (by decide) ?_
    exact lw_c32 C (ok.2.2.2.2.2.2.2.2.2.2.2.2.2.2.2.2.2.2.2.2.2.2.2.2.2.2.2.2.2.2.2.1) hI hB hi hL hk hn kk
  by_cases c33 : xs i.toNatClampNeg &&& 63 = 33
  · refine J_tblIn (t := 1332) (off := 1292) C0 dL_law_40 (by rw [c33]; decide) (by rw [c33]; decide) (by rw [c33]; rfl) (by decide) ?_
    exact lw_c33 C (ok.2.2.2.2.2.2.2.2.2.2.2.2.2.2.2.2.2.2.2.2.2.2.2.2.2.2.2.2.2.2.2.2.1) hI hB hi hL hk hn kk
  by_cases c34 : xs i.toNatClampNeg &&& 63 = 34
  · refine J_tblIn (t := 1397) (off := 1357) C0 dL_law_40 (by rw [c34]; decide) (by rw [c34]; decide) (by rw [c34]; rfl) (by decide) ?_
    exact lw_c34 C (ok.2.2.2.2.2.2.2.2.2.2.2.2.2.2.2.2.2.2.2.2.2.2.2.2.2.2.2.2.2.2.2.2.2.1) hI hB hi hL hk hn kk
  by_cases c35 : xs i.toNatClampNeg &&& 63 = 35
  · refine J_tblIn (t := 1462) (off := 1422) C0 dL_law_40 (by rw [c35]; decide) (by rw [c35]; decide) (by rw [c35]; rfl) (by decide) ?_
    exact lw_c35 C (ok.2.2.2.2.2.2.2.2.2.2.2.2.2.2.2.2.2.2.2.2.2.2.2.2.2.2.2.2.2.2.2.2.2.2.1) hI hB hi hL hk hn kk
  by_cases c36 : xs i.toNatClampNeg &&& 63 = 36
  · refine J_tblIn (t := 1487) (off := 1447) C0 dL_law_40 (by rw [c36]; decide) (by rw [c36]; decide) (by rw [c36]; rfl) (by decide) ?_
    exact lw_c36 C (ok.2.2.2.2.2.2.2.2.2.2.2.2.2.2.2.2.2.2.2.2.2.2.2.2.2.2.2.2.2.2.2.2.2.2.2.1) hI hB hi hL hk hn kk
  by_cases c37 : xs i.toNatClampNeg &&& 63 = 37
  · refine J_tblIn (t := 1500) (off := 1460) C0 dL_law_40 (by rw [c37]; decide) (by rw [c37]; decide) (by rw [c37]; rfl) (by decide) ?_
    exact lw_c37 C (ok.2.2.2.2.2.2.2.2.2.2.2.2.2.2.2.2.2.2.2.2.2.2.2.2.2.2.2.2.2.2.2.2.2.2.2.2.1) hI hB hi hL hk hn kk
  by_cases c38 : xs i.toNatClampNeg &&& 63 = 38
  · refine J_tblIn (t := 1561) (off := 1521) C0 dL_law_40 (by rw [c38]; decide) (by rw [c38]; decide) (by rw [c38]; rfl) (by decide) ?_
    exact lw_c38 C (ok.2.2.2.2.2.2.2.2.2.2.2.2.2.2.2.2.2.2.2.2.2.2.2.2.2.2.2.2.2.2.2.2.2.2.2.2.2.1) hI hB hi hL hk hn kk
  by_cases c39 : xs i.toNatClampNeg &&& 63 = 39
  · refine J_tblIn (t := 1598) (off := 1558) C0 dL_law_40 (by rw [c39]; decide) (by rw [c39]; decide) (by rw [c39]; rfl) (by decide) ?_
    exact lw_c39 C (ok.2.2.2.2.2.2.2.2.2.2.2.2.2.2.2.2.2.2.2.2.2.2.2.2.2.2.2.2.2.2.2.2.2.2.2.2.2.2.1) hI hB hi hL hk hn kk
  by_cases c40 : xs i.toNatClampNeg &&& 63 = 40
  · refine J_tblIn (t := 1659) (off := 1619) C0 dL_law_40 (by rw [c40]; decide) (by rw [c40]; decide) (by rw [c40]; rfl) (by decide) ?_
    exact lw_c40 C (ok.2.2.2.2.2.2.2.2.2.2.2.2.2.2.2.2.2.2.2.2.2.2.2.2.2.2.2.2.2.2.2.2.2.2.2.2.2.2.2.1) hI hB hi hL hk hn kk
  by_cases c41 : xs i.toNatClampNeg &&& 63 = 41
  · refine J_tblIn (t := 1696) (off := 1656) C0 dL_law_40 (by rw [c41]; decide) (by rw [c41]; decide) (by rw [c41]; rfl) (by decide) ?_
    exact lw_c41 C (ok.2.2.2.2.2.2.2.2.2.2.2.2.2.2.2.2.2.2.2.2.2.2.2.2.2.2.2.2.2.2.2.2.2.2.2.2.2.2.2.2.1) hI hB hi hL hk hn kk
  by_cases c42 : xs i.toNatClampNeg &&& 63 = 42
  · refine J_tblIn (t := 1721) (off := 1681) C0 dL_law_40 (by rw [c42]; decide) (by rw [c42]; decide) (by rw [c42]; rfl) (by decide) ?_
    exact lw_c42 C (ok.2.2.2.2.2.2.2.2.2.2.2.2.2.2.2.2.2.2.2.2.2.2.2.2.2.2.2.2.2.2.2.2.2.2.2.2.2.2.2.2.2.1) hI hB hi hL hk hn kk
  by_cases c43 : xs i.toNatClampNeg &&& 63 = 43
  · refine J_tblIn (t := 1734) (off := 1694) C0 dL_law_40 (by rw [c43]; decide) (by rw [c43]; decide) (by rw [c43]; rfl) (by decide) ?_
    exact lw_c43 C (ok.2.2.2.2.2.2.2.2.2.2.2.2.2.2.2.2.2.2.2.2.2.2.2.2.2.2.2.2.2.2.2.2.2.2.2.2.2.2.2.2.2.2.1) hI hB hi hL hk hn kk
  by_cases c44 : xs i.toNatClampNeg &&& 63 = 44
  · refine J_tblIn (t := 1747) (off := 1707) C0 dL_law_40 (by rw [c44]; decide) (by rw [c44]; decide) (by rw [c44]; rfl) (by decide) ?_
    exact lw_c44 C (ok.2.2.2.2.2.2.2.2.2.2.2.2.2.2.2.2.2.2.2.2.2.2.2.2.2.2.2.2.2.2.2.2.2.2.2.2.2.2.2.2.2.2.2) hI hB hi hL hk hn kk
  refine J_tblOut (t := 1772) C0 dL_law_40 (by have t0 := lv_neT c0 (a := 0) (by decide); have t1 := lv_neT c1 (a := 1) (by decide); have t2 := lv_neT c2 (a := 2) (by decide); have t3 := lv_neT c3 (a := 3) (by decide); have t4 := lv_neT c4 (a := 4) (by decide); have t5 := lv_neT c5 (a := 5) (by decide); have t6 := lv_neT c6 (a := 6) (by decide); have t7 := lv_neT c7 (a := 7) (by decide); have t8 := lv_neT c8 (a := 8) (by decide); have t9 := lv_neT c9 (a := 9) (by decide); have t10 := lv_neT c10 (a := 10) (by decide); have t11 := lv_neT c11 (a := 11) (by decide); have t12 := lv_neT c12 (a := 12) (by decide); have t13 := lv_neT c13 (a := 13) (by decide); have t14 := lv_neT c14 (a := 14) (by decide); have t15 := lv_neT c15 (a := 15) (by decide); have t16 := lv_neT c16 (a := 16) (by decide); have t17 := lv_neT c17 (a := 17) (by decide); have t18 := lv_neT c18 (a := 18) (by decide); have t19 := lv_neT c19 (a := 19) (by decide); have t20 := lv_neT c20 (a := 20) (by decide); have t21 := lv_neT c21 (a := 21) (by decide); have t22 := lv_neT c22 (a := 22) (by decide); have t23 := lv_neT c23 (a := 23) (by decide); have t24 := lv_neT c24 (a := 24) (by decide); have t25 := lv_neT c25 (a := 25) (by decide); have t26 := lv_neT c26 (a := 26) (by decide); have t27 := lv_neT c27 (a := 27) (by decide); have t28 := lv_neT c28 (a := 28) (by decide); have t29 := lv_neT c29 (a := 29) (by decide); have t30 := lv_neT c30 (a := 30) (by decide); have t31 := lv_neT c31 (a := 31) (by decide); have t32 := lv_neT c32 (a := 32) (by decide); have t33 := lv_neT c33 (a := 33) (by decide); have t34 := lv_neT c34 (a := 34) (by decide); have t35 := lv_neT c35 (a := 35) (by decide); have t36 := lv_neT c36 (a := 36) (by decide); have t37 := lv_neT c37 (a := 37) (by decide); have t38 := lv_neT c38 (a := 38) (by decide); have t39 := lv_neT c39 (a := 39) (by decide); have t40 := lv_neT c40 (a := 40) (by decide); have t41 := lv_neT c41 (a := 41) (by decide); have t42 := lv_neT c42 (a := 42) (by decide); have t43 := lv_neT c43 (a := 43) (by decide); have t44 := lv_neT c44 (a := 44) (by decide); omega) (by decide) ?_
  exact J_widen (by omega) (by omega) (kk _ hI hB)

theorem J_end {Γ : Gm} {b L : Nat} {xs : Nat → Int32} {lv : List (Nat × AV)} {σ : Sg} {k n : Nat} (C : CLw Γ b L xs) (hk : k ≤ 601024) (hn : n ≤ 7293034) : J_ Γ 1779 lv [vi 1] σ k n := by
  obtain ⟨p, l, e, R, s, m, args, below, meth, c, κ, z, tA, D, nL, Z⟩ := Γ
  obtain ⟨⟨hx, hb, -⟩, -, -, -, hR, -, -, -, hz, ha, hrt, hlk, hZ⟩ := C
  have hR : R = room_1 := hR
  have hz : z = s.heap.size := hz
  have ha : args = #[Value.ref b] := ha
  have hZ : Z = lw_Z below #[Value.ref b] s := hZ
  subst hR ha hZ
  intro H locs ls hP hS hl
  refine va_forget (fun q hq => by have := hS.2.2 q hq; rw [← hz]; exact this) ?_
  exact W.widen hk hn (lw_ret hx hb hrt hlk dL_law_1779)
set_option maxHeartbeats 4000000 in
set_option maxRecDepth 100000 in
theorem lw_loop {Γ : Gm} {b L : Nat} {xs : Nat → Int32} (C : CLw Γ b L xs) {Inv : Sg → Prop} {N : Nat} (ok : lw_ok Inv N) (so5 : so_wheel Inv N) (hL : L ≤ 3072) : ∀ (d : Nat) (i : Int32) (σ : Sg) (k n : Nat), 0 ≤ i.toInt → i.toInt ≤ 3078 → (L : Int) - i.toInt < 6 * d → k + 3 * d ≤ 601024 → n + 800 * d ≤ 7293034 → Inv σ → lw_B σ → J_ Γ 23 (lw_lv i) [] σ k n := by
  have C0 := C.1
  intro d
  induction d with
  | zero =>
    intro i σ k n h0 h1 h2 hk hn hI hB
    refine J_iload (q := 25) C0 4 rfl dL_law_23 rfl ?_
    refine J_aload_n (q := 26) C0 0 rfl rfl dL_law_25 rfl trivial ?_
    refine J_slen (q := 27) C dL_law_26 rfl ?_
    refine J_bipush (q := 29) (v := 6) C0 dL_law_27 rfl rfl ?_
    refine J_isub (q := 30) C0 dL_law_29 rfl ?_
    have e6 : (Int32.ofNat L - 6).toInt = (L : Int) - 6 := by
      rw [Int32.toInt_sub, Int32.toInt_ofNat_of_lt (by omega)]
      exact Int.bmod_eq_of_le (by have : (6 : Int32).toInt = 6 := rfl; omega) (by have : (6 : Int32).toInt = 6 := rfl; omega)
    have hf_ : (if Int32.ofNat L - 6 < i then some () else some ()) = some () := by split <;> rfl
    refine J_icmp_gt (t := 1778) (q := 33) C0 dL_law_30 (by decide) rfl hf_ (fun _ _ => ?_) (fun c_ _ => absurd (Int32.lt_iff_toInt_lt.mpr (by omega)) c_)
    refine J_iconst (q := 1779) (v := 1) C0 dL_law_1778 rfl rfl ?_
    exact J_end C (by omega) (by omega)
  | succ d ih =>
    intro i σ k n h0 h1 h2 hk hn hI hB
    refine J_iload (q := 25) C0 4 rfl dL_law_23 rfl ?_
    refine J_aload_n (q := 26) C0 0 rfl rfl dL_law_25 rfl trivial ?_
    refine J_slen (q := 27) C dL_law_26 rfl ?_
    refine J_bipush (q := 29) (v := 6) C0 dL_law_27 rfl rfl ?_
    refine J_isub (q := 30) C0 dL_law_29 rfl ?_
    have e6 : (Int32.ofNat L - 6).toInt = (L : Int) - 6 := by
      rw [Int32.toInt_sub, Int32.toInt_ofNat_of_lt (by omega)]
      exact Int.bmod_eq_of_le (by have : (6 : Int32).toInt = 6 := rfl; omega) (by have : (6 : Int32).toInt = 6 := rfl; omega)
    have hf_ : (if Int32.ofNat L - 6 < i then some () else some ()) = some () := by split <;> rfl
    refine J_icmp_gt (t := 1778) (q := 33) C0 dL_law_30 (by decide) rfl hf_ (fun _ _ => ?_) (fun c_ _ => ?_)
    · refine J_iconst (q := 1779) (v := 1) C0 dL_law_1778 rfl rfl ?_
      exact J_end C (by omega) (by omega)
    have hc : i.toInt ≤ (L : Int) - 6 := by
      have h9 : ¬ (Int32.ofNat L - 6).toInt < i.toInt := fun h => c_ (Int32.lt_iff_toInt_lt.mpr h)
      omega
    have hi0 : ¬ i < 0 := fun h => by
      have := Int32.lt_iff_toInt_lt.mp h
      have e0 : (0 : Int32).toInt = 0 := rfl
      omega
    have a1 : i.toNatClampNeg = i.toInt.toNat := rfl
    have hi : ¬ i < 0 ∧ i.toNatClampNeg + 6 ≤ L := ⟨hi0, by omega⟩
    refine J_aload_n (q := 34) C0 0 rfl rfl dL_law_33 rfl trivial ?_
    refine J_iload (q := 36) C0 4 rfl dL_law_34 rfl ?_
    refine J_sld (q := 37) C (by
      intro h
      rcases h with h | h
      · exact hi0 h
      · omega) dL_law_36 rfl ?_
    refine J_bipush (q := 39) (v := 63) C0 dL_law_37 rfl rfl ?_
    refine J_iand (q := 40) C0 dL_law_39 rfl ?_
    refine lw_switch C ok so5 hI hB hi hL (by omega) (by omega) (fun τ hτ hτB => ?_)
    refine J_iinc (q := 1775) (v := i + 6) (lv' := [(4, vi (i + 6)), (0, vk 14), (1, vr (some 0)), (2, vr (some 344)), (3, vr (some 370))]) C0 4 rfl rfl (by rw [C.2.1]; decide) dL_law_1772 rfl rfl ?_
    refine J_goto (q := 23) C0 dL_law_1775 (by decide) ?_
    refine J_sub (lv' := lw_lv (i + 6)) [1, 2, 3, 4, 0] rfl ?_
    have e7 : (i + 6).toInt = i.toInt + 6 := by
      rw [Int32.toInt_add]
      exact Int.bmod_eq_of_le (by have : (6 : Int32).toInt = 6 := rfl; omega) (by have : (6 : Int32).toInt = 6 := rfl; omega)
    exact ih (i + 6) τ (k + 3) (n + 800) (by omega) (by omega) (by omega) (by omega) (by omega) hτ hτB
