/-! ===== where a text is at fault ===== -/
theorem kd_v {σ : Sg} (c : CF (sg_R σ) (sg_L σ)) (hB : lw_B σ) : sg_K σ 2 = 1 ∧ sg_K σ 6 = 3 ∧ sg_K σ 9 = 8 := by
  obtain ⟨hT, hA, -⟩ := hB
  have R2 : sg_R σ 0 2 = some 2 := by simp only [c]
  have R3 : sg_R σ 0 3 = some 6 := by simp only [c]
  have R4 : sg_R σ 0 4 = some 9 := by simp only [c]
  have t2 := (hT 0 2 2 hA.1 R2).2
  have t3 := (hT 0 3 6 hA.1 R3).2
  have t4 := (hT 0 4 9 hA.1 R4).2
  rw [hA.2] at t2 t3 t4
  exact ⟨t2, t3, t4⟩
theorem rtx_ {σ ρ : Sg} (r : Rel σ ρ) : ∃ t, sg_I σ 0 1 = Int32.ofNat t ∧ sg_I ρ 344 2 = Int32.ofNat t ∧ XT t (sg_I σ 1) ∧ RT t (sg_I σ 1) ρ := by
  obtain ⟨t, t1, t2, t3, t4⟩ := r.1.2.2.1
  have d := r.rf
  have R1 : sg_R ρ 344 1 = some 345 := by simp only [d]
  have L1 : sg_L ρ 345 = 240 := by simp only [d]
  exact ⟨t, t2, t3, ⟨t1, fun i hi => by rw [(t4 i hi).1]; exact (t4 i hi).2⟩, R1, L1, t3, fun i hi => (t4 i hi).1.symm⟩
theorem KI.krp {ρ τ : Sg} (h : KI PL ρ τ) : KR ρ τ := ⟨HK.of (fun a h1 _ _ h2 h3 _ _ _ _ => by funext j; exact h.2 a j (by unfold PL; omega)) (fun j hj => h.2 344 j (by unfold PL; omega)), ⟨h.1.1, fun a ha => ⟨by funext j; exact h.2 a j (by unfold PL; omega), by rw [h.1.2.1], by rw [h.1.2.2.1]⟩⟩, fun a _ _ => ⟨by rw [h.1.2.1], by rw [h.1.2.2.1]⟩⟩
theorem KH.kr {s k : Nat} {ρ τ : Sg} (h : KH s ρ τ) (hk : sg_I ρ 344 23 = Int32.ofNat k) (h6 : k ≤ 6) (hs : k ≤ s) : KR ρ τ := by
  refine ⟨⟨fun a ha => h.2.1 a (by omega) (by omega) (by omega), fun j hj => h.2.2.1 j (by omega) (by omega), fun k' _ _ => ⟨fun j _ => ⟨by rw [h.2.1 346 (by decide) (by decide) (by decide)], by rw [h.2.1 347 (by decide) (by decide) (by decide)]⟩, fun j _ => ⟨by rw [h.2.1 350 (by decide) (by decide) (by decide)], by rw [h.2.1 351 (by decide) (by decide) (by decide)], by rw [h.2.1 352 (by decide) (by decide) (by decide)]⟩, fun j _ => by rw [h.2.1 349 (by decide) (by decide) (by decide)]⟩, fun k' hk' h6' => ?_⟩, ⟨h.1.1, fun a ha => ⟨h.2.1 a (by omega) (by omega) (by omega), by rw [h.1.2.1], by rw [h.1.2.2.1]⟩⟩, fun a _ _ => ⟨by rw [h.1.2.1], by rw [h.1.2.2.1]⟩⟩
  rw [hk, o_eq (by omega) (by omega)] at hk'
  exact ⟨fun j hj => h.2.2.2.1 j (by omega), fun j hj => h.2.2.2.2 j (by omega)⟩
theorem KJJ.kr {i k : Nat} {ρ τ : Sg} (h : KJJ i ρ τ) (hk : sg_I ρ 344 13 = Int32.ofNat k) (h6 : k ≤ 4) (hs : k ≤ i) : KR ρ τ := by
  refine ⟨⟨fun a ha => h.2.1 a (by omega), fun j hj => h.2.2.1 j (by omega) (by omega) (by omega), fun k' hk' h6' => ?_, fun k' _ _ => ⟨fun j _ => by rw [h.2.1 357 (by omega)], fun j _ => by rw [h.2.1 358 (by omega)]⟩⟩, ⟨h.1.1, fun a ha => ⟨h.2.1 a (by omega), by rw [h.1.2.1], by rw [h.1.2.2.1]⟩⟩, fun a _ _ => ⟨by rw [h.1.2.1], by rw [h.1.2.2.1]⟩⟩
  rw [hk, o_eq (by omega) (by omega)] at hk'
  exact ⟨fun j hj => h.2.2.2.1 j (by omega), fun j hj => h.2.2.2.2.1 j (by omega), fun j hj => h.2.2.2.2.2 j (by omega)⟩
theorem so_of {α : Type} {A B : Sg → Option (α × Sg)} {σ : Sg} (h : ∀ ρ, Rel σ ρ → ∃ p q, A σ = some p ∧ B ρ = some q ∧ p.1 = q.1 ∧ Rel p.2 q.2 ∧ FC σ p.2 ∧ FR ρ q.2) (r : p2_I σ) : ∃ p q, A σ = some p ∧ B p.2 = some q ∧ p.1 = q.1 ∧ p2_I q.2 := by
  obtain ⟨p, -, h1, -, -, -, h2, -⟩ := h σ r
  obtain ⟨p', q, g1, g2, g3, g4, g5, g6⟩ := h p.2 (r.ref h2)
  rw [h1] at g1
  cases g1
  exact ⟨p, q, h1, g2, g3, g4.cls g6⟩
/-- the three readings, of class and reference -/
theorem rd_0 {σ ρ : Sg} (r : Rel σ ρ) : ∃ τ, f_X11_readerOf 0 0 σ = some (some 2, τ) ∧ KC σ τ ∧ sg_K τ = sg_K σ ∧ sg_N τ = sg_N σ ∧ WN τ ρ (f_X1_isWhole 20000 2 τ) (f_X12_readLantern 20000 344 ρ) := by
  obtain ⟨t, t1, t2, hx, rt⟩ := rtx_ r
  have c := r.cf
  have R0 : sg_R σ 0 0 = some 1 := by simp only [c]
  have R2 : sg_R σ 0 2 = some 2 := by simp only [c]
  have L1 : sg_L σ 1 = 240 := by simp only [c]
  have R3 : sg_R σ 2 3 = some 4 := by simp only [c]
  have R5 : sg_R σ 2 5 = some 5 := by simp only [c]
  have L4 : sg_L σ 4 = 3 := by simp only [c]
  have L5 : sg_L σ 5 = 16 := by simp only [c]
  have st := stt_v (b := 2) (t := t) (σ := σ) (by omega) L1 hx.1
  refine ⟨_, ?_, stt_k (b := 2) (t := t) (by omega), rfl, rfl, lan_2 hx (stt_c (by omega) L1) (by rw [stt_r (by decide)]; exact R3) (by rw [stt_r (by decide)]; exact R5) L4 L5 gI_e rt r.rf⟩
  unfold f_X11_readerOf
  rw [if_pos rfl, R2, f_of rfl, R0, t1, f_of st]
theorem rd_1 {σ ρ : Sg} (r : Rel σ ρ) {i : Nat} (hi : i ≤ 4) : ∃ τ, f_X11_readerOf 0 1 σ = some (some 6, τ) ∧ KC σ τ ∧ sg_K τ = sg_K σ ∧ sg_N τ = sg_N σ ∧ ∃ c υ e φ, f_X3_isWhole 20000 6 τ = some (c, υ) ∧ f_X12_readLaw 20000 344 (Int32.ofNat i) ρ = some (e, φ) ∧ KZ 6 τ υ ∧ KJJ i (put_I ρ 344 14 (Int32.ofNat i)) φ ∧ ((c = 0 ∧ e = sg_I υ 6 2 ∧ ¬ e = -1) ∨ (c = 1 ∧ e = -1 ∧ ∃ K, LC (ks_c 0 K) υ ∧ LT i (ks_t K) φ ∧ LI i K φ ∧ K.length ≤ 120 ∧ (ks_c 0 K).length ≤ 240 ∧ (ks_t K).length ≤ 240 ∧ ∀ q ∈ K, ok_k q)) := by
  obtain ⟨t, t1, t2, hx, rt⟩ := rtx_ r
  have c := r.cf
  have R0 : sg_R σ 0 0 = some 1 := by simp only [c]
  have R2 : sg_R σ 0 3 = some 6 := by simp only [c]
  have L1 : sg_L σ 1 = 240 := by simp only [c]
  have R3 : sg_R σ 6 3 = some 8 := by simp only [c]
  have L8 : sg_L σ 8 = 720 := by simp only [c]
  have st := stt_v (b := 6) (t := t) (σ := σ) (by omega) L1 hx.1
  refine ⟨_, ?_, stt_k (b := 6) (t := t) (by omega), rfl, rfl, law_2 hx (stt_c (by omega) L1) (by rw [stt_r (by decide)]; exact R3) L8 gI_e rt r.rf hi⟩
  unfold f_X11_readerOf
  rw [if_neg (by decide), if_pos rfl, R2, f_of rfl, R0, t1, f_of st]
theorem rd_s {σ ρ : Sg} (r : Rel σ ρ) {s : Nat} (hs : s ≤ 6) : ∃ τ, f_X11_readerOf 0 2 σ = some (some 9, τ) ∧ KC σ τ ∧ sg_K τ = sg_K σ ∧ sg_N τ = sg_N σ ∧ SOS s τ ρ (f_X9_isWhole 20000 9 τ) (f_X12_readStrip 20000 344 (Int32.ofNat s) ρ) := by
  obtain ⟨t, t1, t2, hx, rt⟩ := rtx_ r
  have c := r.cf
  have R0 : sg_R σ 0 0 = some 1 := by simp only [c]
  have R2 : sg_R σ 0 4 = some 9 := by simp only [c]
  have L1 : sg_L σ 1 = 240 := by simp only [c]
  have R3 : sg_R σ 9 3 = some 11 := by simp only [c]
  have L8 : sg_L σ 11 = 16 := by simp only [c]
  have st := stt_v (b := 9) (t := t) (σ := σ) (by omega) L1 hx.1
  refine ⟨_, ?_, stt_k (b := 9) (t := t) (by omega), rfl, rfl, str_2 hx hs (stt_c (by omega) L1) (by rw [stt_r (by decide)]; exact R3) L8 gI_e rt r.rf⟩
  unfold f_X11_readerOf
  rw [if_neg (by decide), if_neg (by decide), if_pos rfl, R2, f_of rfl, R0, t1, f_of st]
theorem rd_n {σ : Sg} {x : Int32} (h : ¬ x = 0 ∧ ¬ x = 1 ∧ ¬ x = 2) : f_X11_readerOf 0 x σ = some (none, σ) := by
  unfold f_X11_readerOf
  rw [if_neg h.1, if_neg h.2.1, if_neg h.2.2]
theorem p2_fault_ : ∀ (x1 : Int32) (σ : Sg), p2_I σ → lw_B σ → ∃ p q, f_X11_fault 20000 0 x1 σ = some p ∧ f_X12_fault 20000 344 x1 p.2 = some q ∧ p.1 = q.1 ∧ p2_I q.2 := by
  intro x1 σ r0 hB
  refine so_of (A := f_X11_fault 20000 0 x1) (B := f_X12_fault 20000 344 x1) ?_ r0
  intro ρ r
  obtain ⟨k2, k6, k9⟩ := kd_v r.cf hB
  suffices h : ∃ p q, f_X11_fault 20000 0 x1 σ = some p ∧ f_X12_fault 20000 344 x1 ρ = some q ∧ p.1 = q.1 ∧ KC σ p.2 ∧ KR ρ q.2 by
    obtain ⟨p, q, h1, h2, h3, h4, h5⟩ := h
    exact ⟨p, q, h1, h2, h3, h5.rel (h4.rel r), h4.2.2, h5.2.1⟩
  unfold f_X11_fault f_X12_fault
  by_cases c0 : x1 = 0
  · subst c0
    obtain ⟨τ, s1, s2, s3, s4, c, υ, e, φ, w1, w2, w3, w4, w5⟩ := rd_0 r
    rw [f_of s1, if_pos rfl, f_of w2]
    dsimp only
    rw [if_pos (by rw [s3]; exact k2), f_of w1]
    dsimp only
    rcases w5 with ⟨rfl, w6, w7⟩ | ⟨rfl, rfl, -⟩
    · rw [if_pos rfl]
      exact ⟨_, _, rfl, rfl, w6.symm, s2.tr w3.kc, w4.krp⟩
    · rw [if_neg (show ¬ (1 : Int32) = 0 by decide)]
      exact ⟨_, _, rfl, rfl, rfl, s2.tr w3.kc, w4.krp⟩
  by_cases c1 : x1 = 1
  · subst c1
    obtain ⟨m, m1, m2, m3, -⟩ := r.1.2.2.2.2.1
    obtain ⟨τ, s1, s2, s3, s4, c, υ, e, φ, w1, w2, w3, w4, w5⟩ := rd_1 r (i := 4) (by omega)
    have w2' : f_X12_readLaw 20000 344 4 ρ = some (e, φ) := w2
    have kr : KR ρ φ := (KR.put (by omega)).tr (w4.kr (k := m) (by rw [gI_n (by omega)]; exact m3) m1 m1)
    rw [f_of s1, if_neg (by decide), if_pos rfl, f_of w2']
    dsimp only
    rw [if_neg (by rw [s3, k6]; decide), if_pos (by rw [s3]; exact k6), f_of w1]
    dsimp only
    rcases w5 with ⟨rfl, w6, w7⟩ | ⟨rfl, rfl, -⟩
    · rw [if_pos rfl]
      exact ⟨_, _, rfl, rfl, w6.symm, s2.tr w3.kc, kr⟩
    · rw [if_neg (show ¬ (1 : Int32) = 0 by decide)]
      exact ⟨_, _, rfl, rfl, rfl, s2.tr w3.kc, kr⟩
  by_cases c2 : x1 = 2
  · subst c2
    obtain ⟨m, m1, m2, m3, -⟩ := r.1.2.2.2.1
    obtain ⟨τ, s1, s2, s3, s4, c, υ, e, φ, w1, w2, w3, w4, w5⟩ := rd_s r (s := 6) (by omega)
    have w2' : f_X12_readStrip 20000 344 6 ρ = some (e, φ) := w2
    have kr : KR ρ φ := w4.kr m3 m1 m1
    rw [f_of s1, if_neg (by decide), if_neg (by decide), if_pos rfl, f_of w2']
    dsimp only
    rw [if_neg (by rw [s3, k9]; decide), if_neg (by rw [s3, k9]; decide), f_of w1]
    dsimp only
    rcases w5 with ⟨rfl, w6, w7⟩ | ⟨rfl, rfl, -⟩
    · rw [if_pos rfl]
      exact ⟨_, _, rfl, rfl, w6.symm, s2.tr w3.kc, kr⟩
    · rw [if_neg (show ¬ (1 : Int32) = 0 by decide)]
      exact ⟨_, _, rfl, rfl, rfl, s2.tr w3.kc, kr⟩
  · rw [f_of (rd_n ⟨c0, c1, c2⟩), if_neg c0, if_neg c1, if_neg c2]
    exact ⟨_, _, rfl, rfl, rfl, KC.rf, KR.rf⟩
