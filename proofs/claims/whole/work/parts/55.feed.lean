/-! ===== feed ===== -/
/-- a byte of a number -/
def bt_ (x s : Int32) : Int32 := (x >>> (s &&& 31)) &&& 255
def bu_ (x s : Int32) : Int32 := ((x.toUInt32 >>> (s.toUInt32 &&& Int32.toUInt32 31)).toInt32) &&& 255
theorem bu_bt {x : Int32} {s : Int32} (k : Nat) (hk : k ≤ 24) (e1 : (s &&& 31).toBitVec.smod 32 = BitVec.ofNat 32 k) (e2 : (s.toUInt32 &&& Int32.toUInt32 31).toBitVec % 32#32 = BitVec.ofNat 32 k) : bu_ x s = bt_ x s := by
  apply Int32.toBitVec_inj.mp
  show (x.toBitVec >>> ((s.toUInt32 &&& Int32.toUInt32 31).toBitVec % 32#32)) &&& 255#32 = (x.toBitVec.sshiftRight' ((s &&& 31).toBitVec.smod 32)) &&& 255#32
  rw [e1, e2]
  have ek : (BitVec.ofNat 32 k).toNat = k := by
    rw [BitVec.toNat_ofNat]
    exact Nat.mod_eq_of_lt (by omega)
  apply BitVec.eq_of_getLsbD_eq
  intro i hi
  rw [BitVec.getLsbD_and, BitVec.getLsbD_and]
  by_cases h8 : i < 8
  · congr 1
    rw [BitVec.ushiftRight_eq', BitVec.getLsbD_ushiftRight, BitVec.sshiftRight_eq', BitVec.getLsbD_sshiftRight, ek]
    rw [if_pos (by omega)]
    have : decide (32 ≤ i) = false := decide_eq_false (by omega)
    rw [this]
    rfl
  · have : (255#32).getLsbD i = false := by
      have hx : (255#32) = BitVec.ofNat 32 255 := rfl
      rw [hx, BitVec.getLsbD_ofNat]
      have : Nat.testBit 255 i = false := Nat.testBit_lt_two_pow (Nat.lt_of_lt_of_le (by decide : 255 < 2 ^ 8) (Nat.pow_le_pow_right (by omega) (by omega)))
      rw [this, Bool.and_false]
    rw [this, Bool.and_false, Bool.and_false]
theorem bu_24 (x : Int32) : bu_ x 24 = bt_ x 24 := bu_bt 24 (by omega) (by decide) (by decide)
theorem bu_16 (x : Int32) : bu_ x 16 = bt_ x 16 := bu_bt 16 (by omega) (by decide) (by decide)
theorem bu_8 (x : Int32) : bu_ x 8 = bt_ x 8 := bu_bt 8 (by omega) (by decide) (by decide)
theorem bu_0 (x : Int32) : bu_ x 0 = bt_ x 0 := bu_bt 0 (by omega) (by decide) (by decide)
theorem an_255 (x : Int32) : 0 ≤ (x &&& 255).toInt ∧ (x &&& 255).toInt ≤ 255 := by
  have e : (x &&& 255).toBitVec.toNat = x.toBitVec.toNat &&& 255 := by
    show (x.toBitVec &&& 255#32).toNat = _
    rw [BitVec.toNat_and]
    rfl
  have h := Nat.and_le_right (n := x.toBitVec.toNat) (m := 255)
  have e2 : (x &&& 255).toInt = (x &&& 255).toBitVec.toNat := BitVec.toInt_eq_toNat_of_lt (by omega)
  omega
theorem bt_r (x s : Int32) : 0 ≤ (bt_ x s).toInt ∧ (bt_ x s).toInt ≤ 255 := an_255 _
def b4_ (x : Int32) : List Int32 := [bt_ x 24, bt_ x 16, bt_ x 8, bt_ x 0]
/-- how many are not 0 -/
def nz_ : List Int32 → Nat
  | [] => 0
  | b :: l => (if b = 0 then 0 else 1) + nz_ l
theorem nz_app (a b : List Int32) : nz_ (a ++ b) = nz_ a + nz_ b := by
  induction a with
  | nil => simp [nz_]
  | cons x a ih => simp only [List.cons_append, nz_, ih]; omega
theorem nz_le (a : List Int32) : nz_ a ≤ a.length := by
  induction a with
  | nil => simp [nz_]
  | cons x a ih =>
    simp only [nz_, List.length_cons]
    split <;> omega
theorem bi_v (N n : Nat) (x : Int32) : f_X11_bytesIn_L5 N (n + 5) x 0 24 = some (Int32.ofNat (nz_ (b4_ x))) := by
  have s1 : ∀ (m : Nat) (v s : Int32), ¬ s < 0 → f_X11_bytesIn_L5 N (m + 1) x v s = f_X11_bytesIn_L5 N m x (v + if bu_ x s = 0 then 0 else 1) (s + (-8)) := by
    intro m v s hs
    rw [f_X11_bytesIn_L5, if_neg hs]
    show (if bu_ x s = 0 then _ else _) = _
    by_cases h : bu_ x s = 0
    · rw [if_pos h, if_pos h]; rfl
    · rw [if_neg h, if_neg h]; rfl
  rw [s1 (n + 4) _ _ (by decide), show ((24 : Int32) + (-8)) = 16 by decide, s1 (n + 3) _ _ (by decide), show ((16 : Int32) + (-8)) = 8 by decide, s1 (n + 2) _ _ (by decide), show ((8 : Int32) + (-8)) = 0 by decide, s1 (n + 1) _ _ (by decide), show ((0 : Int32) + (-8)) = -8 by decide, f_X11_bytesIn_L5, if_pos (by decide)]
  congr 1
  rw [bu_24, bu_16, bu_8, bu_0]
  unfold b4_
  simp only [nz_]
  by_cases h0 : bt_ x 24 = 0 <;> by_cases h1 : bt_ x 16 = 0 <;> by_cases h2 : bt_ x 8 = 0 <;> by_cases h3 : bt_ x 0 = 0 <;> simp only [h0, h1, h2, h3, ↓reduceIte] <;> decide
/-- a byte more on the tape, if it isn't 0 -/
def rc1 (σ : Sg) (b : Int32) : Sg := if b = 0 then σ else put_I (put_I σ 1 (sg_I σ 0 1).toNatClampNeg b) 0 1 (sg_I σ 0 1 + 1)
def rr1 (ρ : Sg) (b : Int32) : Sg := if b = 0 then ρ else put_I (put_I ρ 345 (sg_I ρ 344 2).toNatClampNeg b) 344 2 (sg_I ρ 344 2 + 1)
/-- t bytes lie on the tape -/
def TP (σ ρ : Sg) (t : Nat) : Prop := Rel σ ρ ∧ sg_I σ 0 1 = Int32.ofNat t ∧ t ≤ 240
theorem rc_1 {σ ρ : Sg} {t : Nat} {b : Int32} (h : TP σ ρ t) (hb : 0 ≤ b.toInt ∧ b.toInt ≤ 255) (ht : t + nz_ [b] ≤ 240) : TP (rc1 σ b) (rr1 ρ b) (t + nz_ [b]) ∧ FC σ (rc1 σ b) ∧ FR ρ (rr1 ρ b) := by
  obtain ⟨r, h1, h2⟩ := h
  simp only [nz_] at ht ⊢
  unfold rc1 rr1
  by_cases h0 : b = 0
  · simp only [h0, ↓reduceIte]
    exact ⟨⟨r, h1, h2⟩, FC.rf, FR.rf⟩
  · simp only [h0, ↓reduceIte, Nat.add_zero] at ht ⊢
    obtain ⟨r1, r2, ⟨t', t1, t2, t3, t4⟩, r4, r5, r6, r7, r8, r9, r10⟩ := r.1
    have et : t' = t := (o_eq (by omega) (by omega)).mp (t2.symm.trans h1)
    subst et
    rw [t2, t3, o_tn (by omega), o_s]
    refine ⟨⟨⟨?_, r.2⟩, rfl, ht⟩, (FC.put (by omega)).tr (FC.put (by omega)), (FR.put (by omega)).tr (FR.put (by omega))⟩
    have b1 : 1 ≤ b.toInt := by
      have e0 : (0 : Int32).toInt = 0 := rfl
      have hb0 : b.toInt ≠ 0 := fun h => h0 (i_eq.mpr h)
      omega
    refine rl_x r.1 ⟨t' + 1, by omega, rfl, rfl, fun i hi => ?_⟩ (st_d r4 rfl rfl (fun a ha => ?_) rfl rfl rfl) (la_d r5 rfl rfl (fun a ha => ?_) rfl rfl (fun a ha => ?_)) (sw_d r7 (fun a j h1 h2 => ?_) rfl (fun a ha => ?_) (fun j hj => ?_) (fun j _ => rfl)) (ba_d r8 (fun a h1 h2 => ?_)) (mi_d r9 rfl rfl rfl rfl) (no_d r10 rfl rfl rfl rfl rfl rfl rfl rfl)
    · by_cases hi2 : i = t'
      · subst hi2
        simp only [gI_I, and_true, true_and, and_false, false_and, ↓reduceIte, Nat.reduceEqDiff, and_self]
        exact ⟨b1, hb.2⟩
      · have t5 := t4 i (by omega)
        simp only [gI_I, and_true, true_and, and_false, false_and, ↓reduceIte, Nat.reduceEqDiff, and_self, hi2]
        exact t5
    · rw [gI_a (by omega), gI_a (by omega)]
    · rw [gI_a (by omega), gI_a (by omega)]
    · rw [gI_a (by omega), gI_a (by omega)]
    · rw [gI_n (by omega), gI_n (by omega)]
    · rw [gI_a (by omega), gI_a (by omega)]
    · rw [gI_n (by omega), gI_n (by omega)]
    · rw [gI_n (by omega), gI_n (by omega)]
theorem rc_l {l : List Int32} : ∀ {σ ρ : Sg} {t : Nat}, TP σ ρ t → (∀ b ∈ l, 0 ≤ b.toInt ∧ b.toInt ≤ 255) → t + nz_ l ≤ 240 → TP (l.foldl rc1 σ) (l.foldl rr1 ρ) (t + nz_ l) ∧ FC σ (l.foldl rc1 σ) ∧ FR ρ (l.foldl rr1 ρ) := by
  induction l with
  | nil => exact fun h _ _ => ⟨h, FC.rf, FR.rf⟩
  | cons b l ih =>
    intro σ ρ t h hb ht
    have e : nz_ (b :: l) = nz_ [b] + nz_ l := nz_app [b] l
    rw [e] at ht ⊢
    obtain ⟨h1, h2, h3⟩ := rc_1 h (hb b List.mem_cons_self) (by omega)
    obtain ⟨g1, g2, g3⟩ := ih h1 (fun c hc => hb c (List.mem_cons_of_mem _ hc)) (by omega)
    rw [← Nat.add_assoc]
    exact ⟨g1, h2.tr g2, h3.tr g3⟩
theorem re_1 {N n : Nat} {x s : Int32} {σ ρ : Sg} {t : Nat} (h : TP σ ρ t) (hs : ¬ s < 0) (e : bu_ x s = bt_ x s) (ht : t + nz_ [bt_ x s] ≤ 240) : f_X11_record_L3 N 0 (n + 1) x s σ = f_X11_record_L3 N 0 n x (s + (-8)) (rc1 σ (bt_ x s)) := by
  have c := h.1.cf
  rw [f_X11_record_L3, if_neg hs]
  unfold rc1
  rw [← e]
  show (if bu_ x s = 0 then _ else _) = _
  by_cases h0 : bu_ x s = 0
  · rw [if_pos h0, if_pos h0]; rfl
  · rw [if_neg h0, if_neg h0]
    rw [← e] at ht
    simp only [nz_, h0, ↓reduceIte] at ht
    simp only [c, Option.bind_some, h.2.1]
    rw [if_pos (by rw [o_lt (by omega) (by omega)]; omega), if_neg (o_in (by omega) (by omega)), o_tn (by omega)]
    simp only [gI_I, and_true, true_and, and_false, false_and, ↓reduceIte, Nat.reduceEqDiff, and_self, h.2.1]
    rfl
theorem re_v {N n : Nat} {x : Int32} {σ ρ : Sg} {t : Nat} (h : TP σ ρ t) (ht : t + nz_ (b4_ x) ≤ 240) : f_X11_record_L3 N 0 (n + 5) x 24 σ = some ((b4_ x).foldl rc1 σ) := by
  have e : nz_ (b4_ x) = nz_ [bt_ x 24] + (nz_ [bt_ x 16] + (nz_ [bt_ x 8] + nz_ [bt_ x 0])) := by simp only [b4_, nz_]; omega
  rw [e] at ht
  rw [re_1 (n := n + 4) h (by decide) (bu_24 x) (by omega), show ((24 : Int32) + (-8)) = 16 by decide]
  have h := (rc_1 h (bt_r x 24) (by omega)).1
  rw [re_1 (n := n + 3) h (by decide) (bu_16 x) (by omega), show ((16 : Int32) + (-8)) = 8 by decide]
  have h := (rc_1 h (bt_r x 16) (by omega)).1
  rw [re_1 (n := n + 2) h (by decide) (bu_8 x) (by omega), show ((8 : Int32) + (-8)) = 0 by decide]
  have h := (rc_1 h (bt_r x 8) (by omega)).1
  rw [re_1 (n := n + 1) h (by decide) (bu_0 x) (by omega), show ((0 : Int32) + (-8)) = -8 by decide, f_X11_record_L3, if_pos (by decide)]
  rfl
def bs_ (a b c d e : Int32) : List Int32 := b4_ a ++ (b4_ b ++ (b4_ c ++ (b4_ d ++ b4_ e)))
theorem bs_r {a b c d e : Int32} : ∀ x ∈ bs_ a b c d e, 0 ≤ x.toInt ∧ x.toInt ≤ 255 := by
  intro x hx
  simp only [bs_, b4_, List.mem_append, List.mem_cons, List.not_mem_nil, or_false] at hx
  rcases hx with (h | h | h | h) | (h | h | h | h) | (h | h | h | h) | (h | h | h | h) | (h | h | h | h) <;> rw [h] <;> exact bt_r _ _

theorem by_v (a b c d e : Int32) : ∀ k, k < 20 → f_X12_byteOf a b c d e (Int32.ofNat k) = some ((bs_ a b c d e).getD k 0) := by
  intro k hk
  match k, hk with
  | 0, _ => unfold f_X12_byteOf f_X12_byteOf_B45; rw [if_pos (by decide), show (24 - 8 * rm_ (Int32.ofNat 0) 4 : Int32) = 24 by decide]; rfl
  | 1, _ => unfold f_X12_byteOf f_X12_byteOf_B45; rw [if_pos (by decide), show (24 - 8 * rm_ (Int32.ofNat 1) 4 : Int32) = 16 by decide]; rfl
  | 2, _ => unfold f_X12_byteOf f_X12_byteOf_B45; rw [if_pos (by decide), show (24 - 8 * rm_ (Int32.ofNat 2) 4 : Int32) = 8 by decide]; rfl
  | 3, _ => unfold f_X12_byteOf f_X12_byteOf_B45; rw [if_pos (by decide), show (24 - 8 * rm_ (Int32.ofNat 3) 4 : Int32) = 0 by decide]; rfl
  | 4, _ => unfold f_X12_byteOf f_X12_byteOf_B45; rw [if_neg (by decide), if_pos (by decide), show (24 - 8 * rm_ (Int32.ofNat 4) 4 : Int32) = 24 by decide]; rfl
  | 5, _ => unfold f_X12_byteOf f_X12_byteOf_B45; rw [if_neg (by decide), if_pos (by decide), show (24 - 8 * rm_ (Int32.ofNat 5) 4 : Int32) = 16 by decide]; rfl
  | 6, _ => unfold f_X12_byteOf f_X12_byteOf_B45; rw [if_neg (by decide), if_pos (by decide), show (24 - 8 * rm_ (Int32.ofNat 6) 4 : Int32) = 8 by decide]; rfl
  | 7, _ => unfold f_X12_byteOf f_X12_byteOf_B45; rw [if_neg (by decide), if_pos (by decide), show (24 - 8 * rm_ (Int32.ofNat 7) 4 : Int32) = 0 by decide]; rfl
  | 8, _ => unfold f_X12_byteOf f_X12_byteOf_B45; rw [if_neg (by decide), if_neg (by decide), if_pos (by decide), show (24 - 8 * rm_ (Int32.ofNat 8) 4 : Int32) = 24 by decide]; rfl
  | 9, _ => unfold f_X12_byteOf f_X12_byteOf_B45; rw [if_neg (by decide), if_neg (by decide), if_pos (by decide), show (24 - 8 * rm_ (Int32.ofNat 9) 4 : Int32) = 16 by decide]; rfl
  | 10, _ => unfold f_X12_byteOf f_X12_byteOf_B45; rw [if_neg (by decide), if_neg (by decide), if_pos (by decide), show (24 - 8 * rm_ (Int32.ofNat 10) 4 : Int32) = 8 by decide]; rfl
  | 11, _ => unfold f_X12_byteOf f_X12_byteOf_B45; rw [if_neg (by decide), if_neg (by decide), if_pos (by decide), show (24 - 8 * rm_ (Int32.ofNat 11) 4 : Int32) = 0 by decide]; rfl
  | 12, _ => unfold f_X12_byteOf f_X12_byteOf_B45; rw [if_neg (by decide), if_neg (by decide), if_neg (by decide), if_pos (by decide), show (24 - 8 * rm_ (Int32.ofNat 12) 4 : Int32) = 24 by decide]; rfl
  | 13, _ => unfold f_X12_byteOf f_X12_byteOf_B45; rw [if_neg (by decide), if_neg (by decide), if_neg (by decide), if_pos (by decide), show (24 - 8 * rm_ (Int32.ofNat 13) 4 : Int32) = 16 by decide]; rfl
  | 14, _ => unfold f_X12_byteOf f_X12_byteOf_B45; rw [if_neg (by decide), if_neg (by decide), if_neg (by decide), if_pos (by decide), show (24 - 8 * rm_ (Int32.ofNat 14) 4 : Int32) = 8 by decide]; rfl
  | 15, _ => unfold f_X12_byteOf f_X12_byteOf_B45; rw [if_neg (by decide), if_neg (by decide), if_neg (by decide), if_pos (by decide), show (24 - 8 * rm_ (Int32.ofNat 15) 4 : Int32) = 0 by decide]; rfl
  | 16, _ => unfold f_X12_byteOf f_X12_byteOf_B45; rw [if_neg (by decide), if_neg (by decide), if_neg (by decide), if_neg (by decide), show (24 - 8 * rm_ (Int32.ofNat 16) 4 : Int32) = 24 by decide]; rfl
  | 17, _ => unfold f_X12_byteOf f_X12_byteOf_B45; rw [if_neg (by decide), if_neg (by decide), if_neg (by decide), if_neg (by decide), show (24 - 8 * rm_ (Int32.ofNat 17) 4 : Int32) = 16 by decide]; rfl
  | 18, _ => unfold f_X12_byteOf f_X12_byteOf_B45; rw [if_neg (by decide), if_neg (by decide), if_neg (by decide), if_neg (by decide), show (24 - 8 * rm_ (Int32.ofNat 18) 4 : Int32) = 8 by decide]; rfl
  | 19, _ => unfold f_X12_byteOf f_X12_byteOf_B45; rw [if_neg (by decide), if_neg (by decide), if_neg (by decide), if_neg (by decide), show (24 - 8 * rm_ (Int32.ofNat 19) 4 : Int32) = 0 by decide]; rfl
  | k + 20, h => exact absurd h (by omega)
theorem f6_v {N : Nat} {a b c d e : Int32} {ρ : Sg} {t : Nat} (e2 : sg_I ρ 344 2 = Int32.ofNat t) (ht : t ≤ 240) : ∀ (j k n m : Nat), k + j = 20 → j < n → m ≤ k → (240 < t + (m + nz_ ((bs_ a b c d e).drop k)) → f_X12_feed_L6 N 344 n a b c d e (Int32.ofNat m) (Int32.ofNat k) ρ = some (-1, ρ)) ∧ (¬ 240 < t + (m + nz_ ((bs_ a b c d e).drop k)) → f_X12_feed_L6 N 344 n a b c d e (Int32.ofNat m) (Int32.ofNat k) ρ = f_X12_feed_L62 N 344 N a b c d e 0 ρ) := by
  intro j
  induction j with
  | zero =>
    intro k n m hk hn hm
    obtain ⟨n, rfl⟩ : ∃ m, n = m + 1 := ⟨n - 1, by omega⟩
    have hk : k = 20 := by omega
    subst hk
    have ed : (bs_ a b c d e).drop 20 = [] := rfl
    rw [ed]
    refine ⟨fun h => ?_, fun h => ?_⟩
    · have h : 240 < t + (m + 0) := h
      rw [f_X12_feed_L6, if_neg (by rw [l_20, o_lt (by omega) (by omega)]; omega), e2, o_add, if_pos (by rw [l_240, o_lt (by omega) (by omega)]; omega)]
    · have h : ¬ 240 < t + (m + 0) := h
      rw [f_X12_feed_L6, if_neg (by rw [l_20, o_lt (by omega) (by omega)]; omega), e2, o_add, if_neg (by rw [l_240, o_lt (by omega) (by omega)]; omega)]
  | succ j ih =>
    intro k n m hk hn hm
    obtain ⟨n, rfl⟩ : ∃ m, n = m + 1 := ⟨n - 1, by omega⟩
    have en : nz_ ((bs_ a b c d e).drop k) = (if (bs_ a b c d e).getD k 0 = 0 then 0 else 1) + nz_ ((bs_ a b c d e).drop (k + 1)) := by
      have hl : k < (bs_ a b c d e).length := by show k < 20; omega
      have ed : (bs_ a b c d e).drop k = (bs_ a b c d e).getD k 0 :: (bs_ a b c d e).drop (k + 1) := by
        rw [List.drop_eq_getElem_cons hl, List.getD_eq_getElem?_getD, List.getElem?_eq_getElem hl]
        rfl
      rw [ed]
      rfl
    by_cases h0 : (bs_ a b c d e).getD k 0 = 0
    · rw [if_pos h0] at en
      obtain ⟨i1, i2⟩ := ih (k + 1) n m (by omega) (by omega) (by omega)
      have ee : f_X12_feed_L6 N 344 (n + 1) a b c d e (Int32.ofNat m) (Int32.ofNat k) ρ = f_X12_feed_L6 N 344 n a b c d e (Int32.ofNat m) (Int32.ofNat (k + 1)) ρ := by
        rw [f_X12_feed_L6, if_pos (by rw [l_20, o_lt (by omega) (by omega)]; omega), by_v _ _ _ _ _ k (by omega)]
        simp only [Option.bind_some]
        rw [if_pos h0]
        unfold f_X12_feed_B35
        rw [o_s, l_0, o_add]
        rfl
      exact ⟨fun h => ee.trans (i1 (by omega)), fun h => ee.trans (i2 (by omega))⟩
    · rw [if_neg h0] at en
      obtain ⟨i1, i2⟩ := ih (k + 1) n (m + 1) (by omega) (by omega) (by omega)
      have ee : f_X12_feed_L6 N 344 (n + 1) a b c d e (Int32.ofNat m) (Int32.ofNat k) ρ = f_X12_feed_L6 N 344 n a b c d e (Int32.ofNat (m + 1)) (Int32.ofNat (k + 1)) ρ := by
        rw [f_X12_feed_L6, if_pos (by rw [l_20, o_lt (by omega) (by omega)]; omega), by_v _ _ _ _ _ k (by omega)]
        simp only [Option.bind_some]
        rw [if_neg h0]
        unfold f_X12_feed_B35
        rw [o_s, l_1, o_add]
      exact ⟨fun h => ee.trans (i1 (by omega)), fun h => ee.trans (i2 (by omega))⟩
theorem TP.r2 {σ ρ : Sg} {t : Nat} (h : TP σ ρ t) : sg_I ρ 344 2 = Int32.ofNat t := by
  obtain ⟨t', t1, t2, t3, -⟩ := h.1.1.2.2.1
  have et : t' = t := (o_eq (by omega) (by have := h.2.2; omega)).mp (t2.symm.trans h.2.1)
  rw [← et]
  exact t3
theorem g6_v {N : Nat} {a b c d e : Int32} : ∀ (j k n t : Nat) (σ ρ : Sg), k + j = 20 → j < n → TP σ ρ t → t + nz_ ((bs_ a b c d e).drop k) ≤ 240 → f_X12_feed_L62 N 344 n a b c d e (Int32.ofNat k) ρ = some (Int32.ofNat (t + nz_ ((bs_ a b c d e).drop k)), ((bs_ a b c d e).drop k).foldl rr1 ρ) := by
  intro j
  induction j with
  | zero =>
    intro k n t σ ρ hk hn h ht
    obtain ⟨n, rfl⟩ : ∃ m, n = m + 1 := ⟨n - 1, by omega⟩
    have hk : k = 20 := by omega
    subst hk
    have ed : (bs_ a b c d e).drop 20 = [] := rfl
    rw [f_X12_feed_L62, if_neg (by rw [l_20, o_lt (by omega) (by omega)]; omega), h.r2, ed]
    rfl
  | succ j ih =>
    intro k n t σ ρ hk hn h ht
    obtain ⟨n, rfl⟩ : ∃ m, n = m + 1 := ⟨n - 1, by omega⟩
    have hl : k < (bs_ a b c d e).length := by show k < 20; omega
    have ed : (bs_ a b c d e).drop k = (bs_ a b c d e).getD k 0 :: (bs_ a b c d e).drop (k + 1) := by
      rw [List.drop_eq_getElem_cons hl, List.getD_eq_getElem?_getD, List.getElem?_eq_getElem hl]
      rfl
    have hb : 0 ≤ ((bs_ a b c d e).getD k 0).toInt ∧ ((bs_ a b c d e).getD k 0).toInt ≤ 255 := by
      rw [List.getD_eq_getElem?_getD, List.getElem?_eq_getElem hl]
      exact bs_r _ (List.getElem_mem hl)
    have en : nz_ ((bs_ a b c d e).drop k) = nz_ [(bs_ a b c d e).getD k 0] + nz_ ((bs_ a b c d e).drop (k + 1)) := by
      rw [ed]
      exact nz_app [(bs_ a b c d e).getD k 0] _
    have h2 := (rc_1 h hb (by omega)).1
    have dR := h.1.rf
    have ix := ih (k + 1) n _ _ _ (by omega) (by omega) h2 (by omega)
    rw [f_X12_feed_L62, if_pos (by rw [l_20, o_lt (by omega) (by omega)]; omega), by_v _ _ _ _ _ k (by omega), en, ed]
    simp only [Option.bind_some, List.foldl_cons]
    rw [← Nat.add_assoc, ← ix]
    unfold f_X12_feed_B109 rr1
    by_cases h0 : (bs_ a b c d e).getD k 0 = 0
    · rw [if_pos h0, if_pos h0, o_s]
    · rw [if_neg h0, if_neg h0, o_s]
      have ht2 : t < 240 := by
        simp only [nz_, h0, ↓reduceIte] at en
        omega
      simp only [dR, Option.bind_some, h.r2]
      rw [if_neg (o_in (by omega) (by omega)), o_tn (by omega)]
      simp only [gI_I, and_true, true_and, and_false, false_and, ↓reduceIte, Nat.reduceEqDiff, and_self, h.r2]
theorem p2_feed : so_feed p2_I 20000 := by
  intro x1 x2 x3 x4 x5
  refine Sm.so ?_
  intro σ ρ r
  obtain ⟨t, t1, t2, t3, -⟩ := r.1.2.2.1
  have h : TP σ ρ t := ⟨r, t2, t1⟩
  have bi : ∀ x, f_X11_bytesIn 20000 x = some (Int32.ofNat (nz_ (b4_ x))) := fun x => bi_v 20000 19995 x
  have l1 := nz_le (b4_ x1)
  have l2 := nz_le (b4_ x2)
  have l3 := nz_le (b4_ x3)
  have l4 := nz_le (b4_ x4)
  have l5 := nz_le (b4_ x5)
  have e4 : ∀ x, (b4_ x).length = 4 := fun _ => rfl
  rw [e4] at l1 l2 l3 l4 l5
  have eb : nz_ (bs_ x1 x2 x3 x4 x5) = nz_ (b4_ x1) + (nz_ (b4_ x2) + (nz_ (b4_ x3) + (nz_ (b4_ x4) + nz_ (b4_ x5)))) := by
    unfold bs_
    rw [nz_app, nz_app, nz_app, nz_app]
  have ref := f6_v (N := 20000) (a := x1) (b := x2) (c := x3) (d := x4) (e := x5) t3 t1 20 0 20000 0 (by omega) (by omega) (by omega)
  have ed0 : (bs_ x1 x2 x3 x4 x5).drop 0 = bs_ x1 x2 x3 x4 x5 := rfl
  rw [ed0] at ref
  by_cases g : 240 < t + nz_ (bs_ x1 x2 x3 x4 x5)
  · refine ⟨(-1, σ), (-1, ρ), ?_, ?_, rfl, r, FC.rf, FR.rf⟩
    · unfold f_X11_feed
      simp only [bi, Option.bind_some, t2, o_add]
      rw [if_pos (by rw [l_240, o_lt (by omega) (by omega)]; omega)]
    · exact ref.1 (by omega)
  · have hh := rc_l h (l := bs_ x1 x2 x3 x4 x5) bs_r (by omega)
    refine ⟨(Int32.ofNat (t + nz_ (bs_ x1 x2 x3 x4 x5)), (bs_ x1 x2 x3 x4 x5).foldl rc1 σ), (Int32.ofNat (t + nz_ (bs_ x1 x2 x3 x4 x5)), (bs_ x1 x2 x3 x4 x5).foldl rr1 ρ), ?_, ?_, rfl, hh.1.1, hh.2.1, hh.2.2⟩
    · unfold f_X11_feed
      simp only [bi, Option.bind_some, t2, o_add]
      rw [if_neg (by rw [l_240, o_lt (by omega) (by omega)]; omega)]
      have re : ∀ {x : Int32} {σ ρ : Sg} {t : Nat}, TP σ ρ t → t + nz_ (b4_ x) ≤ 240 → f_X11_record 20000 0 x σ = some ((b4_ x).foldl rc1 σ) := fun h ht => re_v (N := 20000) (n := 19995) h ht
      have b4r : ∀ x, ∀ b ∈ b4_ x, 0 ≤ b.toInt ∧ b.toInt ≤ 255 := by
        intro x b hb
        simp only [b4_, List.mem_cons, List.not_mem_nil, or_false] at hb
        rcases hb with h | h | h | h <;> rw [h] <;> exact bt_r _ _
      have h1 := (rc_l h (b4r x1) (by omega)).1
      have h2 := (rc_l h1 (b4r x2) (by omega)).1
      have h3 := (rc_l h2 (b4r x3) (by omega)).1
      have h4 := (rc_l h3 (b4r x4) (by omega)).1
      have h5 := (rc_l h4 (b4r x5) (by omega)).1
      rw [re h (by omega), Option.bind_some, re h1 (by omega), Option.bind_some, re h2 (by omega), Option.bind_some, re h3 (by omega), Option.bind_some, re h4 (by omega), Option.bind_some, h5.2.1]
      unfold bs_
      simp only [List.foldl_append]
      rw [nz_app, nz_app, nz_app, nz_app]
      simp only [Nat.add_assoc]
    · exact (ref.2 (by omega)).trans (g6_v 20 0 20000 t σ ρ (by omega) (by omega) h (by show t + nz_ (bs_ x1 x2 x3 x4 x5) ≤ 240; omega))
