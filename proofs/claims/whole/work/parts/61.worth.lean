/-! ===== a law's worth on both sides ===== -/
/-- what a law is worth -/
def wo_ (lt : Nat → Int32) : List Kl → Int32
  | [] => 0
  | q :: r => if q.1 = [] ∨ (ev_ lt q.1 []).headD 0 ≠ 0 then (ev_ lt q.2 []).headD 0 else wo_ lt r
theorem ev_one {k : Bool} {s : List Int32} (h : okv [k] s) : ∃ v, s = [v] := by
  match s, h with
  | [v], _ => exact ⟨v, rfl⟩
/-- the answer's code -/
theorem an_v {N m b e : Nat} {σ : Sg} {C A B : List Int32} {lt : Nat → Int32} {v : Int32} (h : Lz_ σ b e C lt [v]) (eC : C = A ++ -12 :: B) (hC : C.length ≤ 720) : ∃ τ, f_X2_worth_L7 N b (m + 1) (some e) (Int32.ofNat A.length) σ = some (v, τ) ∧ KL b σ τ := by
  have h' := h
  obtain ⟨⟨q1, q2, q3, q4, q5, q6, q7, q8, q9⟩, -⟩ := h'
  obtain ⟨τ, t1, t2, t3⟩ := pu_v h (by simp)
  have hi : A.length < C.length := by rw [eC]; simp
  have ec : sg_I σ (b + 1) A.length = -12 := sl_at q5 eC
  refine ⟨τ, ?_, t3⟩
  rw [f_X2_worth_L7]
  simp only [q1, Option.bind_some, q3]
  rw [if_pos (by rw [o_lt (by omega) (by omega)]; exact hi), if_neg (o_in hi (by omega)), o_tn (by omega), ec, if_pos rfl, t1]
  rfl
/-- the code of a test -/
theorem un_v {N m b e : Nat} {σ : Sg} {C A B : List Int32} {lt : Nat → Int32} {v : Int32} {T : Nat} (h : Lz_ σ b e C lt [v]) (eC : C = A ++ -11 :: Int32.ofNat T :: B) (hC : C.length ≤ 720) (hT : A.length + 2 ≤ T) (hT2 : T ≤ 720) : ∃ τ, f_X2_worth_L7 N b (m + 1) (some e) (Int32.ofNat A.length) σ = f_X2_worth_L7 N b m (some e) (Int32.ofNat (if v = 0 then T else A.length + 2)) τ ∧ Lz_ τ b e C lt [] ∧ KL b σ τ := by
  have h' := h
  obtain ⟨⟨q1, q2, q3, q4, q5, q6, q7, q8, q9⟩, -⟩ := h'
  obtain ⟨τ, t1, t2, t3⟩ := pu_v h (by simp)
  have hl : C.length = A.length + (B.length + 2) := by rw [eC]; simp
  have ec : sg_I σ (b + 1) A.length = -11 := sl_at q5 eC
  have ed : sg_I σ (b + 1) (A.length + 1) = Int32.ofNat T := by
    have := sl_at (A := A ++ [-11]) (B := B) (x := Int32.ofNat T) q5 (by rw [eC]; simp)
    simpa using this
  refine ⟨τ, ?_, t2, t3⟩
  rw [f_X2_worth_L7]
  simp only [q1, Option.bind_some, q3]
  rw [if_pos (by rw [o_lt (by omega) (by omega)]; omega), if_neg (o_in (by omega) (by omega)), o_tn (by omega), ec, if_neg (by decide), if_pos rfl, o_s, if_pos (by rw [o_lt (by omega) (by omega)]; omega), if_neg (o_in (by omega) (by omega)), o_tn (by omega), ed]
  unfold f_X2_worth_B68 f_X2_worth_B93 f_X2_worth_B176
  rw [t1]
  simp only [Option.bind_some]
  by_cases hv : v = 0
  · rw [if_pos hv, if_pos hv]
    have e1 : f_J9_max_7cf53 (Int32.ofNat A.length + 1) (Int32.ofNat T - 1) = some (Int32.ofNat (T - 1)) := by
      unfold f_J9_max_7cf53
      rw [o_s, l_1, o_sub (by omega)]
      by_cases q : A.length + 1 < T - 1
      · rw [if_pos (by rw [o_lt (by omega) (by omega)]; exact q)]
      · rw [if_neg (by rw [o_lt (by omega) (by omega)]; exact q)]
        congr 2
        omega
    rw [e1]
    simp only [Option.bind_some]
    rw [o_s, show T - 1 + 1 = T by omega]
  · rw [if_neg hv, if_neg hv, o_s, o_s]
theorem kl_len (p : Nat) (q : Kl) : (kl_c p q).length = if q.1 = [] then q.2.length + 1 else q.1.length + q.2.length + 3 := by
  unfold kl_c
  by_cases h : q.1 = []
  · rw [if_pos h, if_pos h]; simp
  · rw [if_neg h, if_neg h]; simp; omega
theorem cw_v {N b e : Nat} {C : List Int32} {lt : Nat → Int32} (hC : C.length ≤ 720) (hl : ∀ k, k < 6 → -1000000 ≤ (lt k).toInt ∧ (lt k).toInt ≤ 1000000) : ∀ (K : List Kl) (n : Nat) (σ : Sg) (A : List Int32), Lz_ σ b e C lt [] → C = A ++ ks_c A.length K → (∀ q ∈ K, ok_k q) → (ks_c A.length K).length < n → ∃ τ, f_X2_worth_L7 N b n (some e) (Int32.ofNat A.length) σ = some (wo_ lt K, τ) ∧ KL b σ τ := by
  intro K
  induction K with
  | nil =>
    intro n σ A h eC hk hn
    obtain ⟨n, rfl⟩ : ∃ m, n = m + 1 := ⟨n - 1, by omega⟩
    have hl : C.length = A.length := by rw [eC]; simp [ks_c]
    refine ⟨σ, ?_, KL.rf⟩
    rw [f_X2_worth_L7]
    simp only [h.1.1, Option.bind_some, h.1.2.2.1]
    rw [if_neg (by rw [o_lt (by omega) (by omega)]; omega)]
    rfl
  | cons q r ih =>
    intro n σ A h eC hk hn
    have ok := hk q List.mem_cons_self
    have eC' : C = A ++ (kl_c A.length q ++ ks_c (A.length + (kl_c A.length q).length) r) := eC
    have hn' : (kl_c A.length q).length + (ks_c (A.length + (kl_c A.length q).length) r).length < n := by
      have : (ks_c A.length (q :: r)).length = (kl_c A.length q ++ ks_c (A.length + (kl_c A.length q).length) r).length := rfl
      rw [this, List.length_append] at hn
      exact hn
    have kl := kl_len A.length q
    by_cases q0 : q.1 = []
    · rw [if_pos q0] at kl
      have ek : kl_c A.length q = q.2.map tk_c ++ [-12] := by unfold kl_c; rw [if_pos q0]
      rw [ek, List.append_assoc] at eC'
      obtain ⟨m, rfl⟩ : ∃ m, n = (m + 1) + q.2.length := ⟨n - q.2.length - 1, by omega⟩
      obtain ⟨υ, u1, u2, u3, u4⟩ := cl_l (N := N) hC hl q.2 (m + 1) σ A _ [] [] [false] h eC' ok.2 trivial (by simp)
      obtain ⟨v, ev⟩ := ev_one u4
      rw [ev] at u2
      have el : A.length + q.2.length = (A ++ q.2.map tk_c).length := by simp
      obtain ⟨τ, t1, t2⟩ := an_v (N := N) (m := m) (A := A ++ q.2.map tk_c) u2 (by rw [eC', List.append_assoc]; rfl) hC
      refine ⟨τ, ?_, u3.tr t2⟩
      rw [u1, el, t1]
      rw [wo_]
      rw [if_pos (Or.inl q0), ev]
      rfl
    · rw [if_neg q0] at kl
      have ek : kl_c A.length q = q.1.map tk_c ++ (-11 :: Int32.ofNat (A.length + q.1.length + q.2.length + 3) :: (q.2.map tk_c ++ [-12])) := by unfold kl_c; rw [if_neg q0]
      have hC2 : A.length + (kl_c A.length q).length ≤ 720 := by
        have := congrArg List.length eC'
        simp only [List.length_append] at this
        omega
      rw [ek, List.append_assoc] at eC'
      obtain ⟨m, rfl⟩ : ∃ m, n = (m + 1) + q.1.length := ⟨n - q.1.length - 1, by omega⟩
      have ok1 : ck_ q.1 [] = some [true] := ok.1.resolve_left q0
      obtain ⟨υ, u1, u2, u3, u4⟩ := cl_l (N := N) hC hl q.1 (m + 1) σ A _ [] [] [true] h eC' ok1 trivial (by simp)
      obtain ⟨v, ev⟩ := ev_one u4
      rw [ev] at u2
      have el : A.length + q.1.length = (A ++ q.1.map tk_c).length := by simp
      obtain ⟨ω, w1, w2, w3⟩ := un_v (N := N) (m := m) (A := A ++ q.1.map tk_c) (T := A.length + q.1.length + q.2.length + 3) (B := q.2.map tk_c ++ ([-12] ++ ks_c (A.length + (kl_c A.length q).length) r)) u2 (by rw [eC']; simp; rw [kl]; congr 1) hC (by simp; omega) (by omega)
      by_cases hv : v = 0
      · rw [if_pos hv] at w1
        have e3 : A.length + q.1.length + q.2.length + 3 = (A ++ kl_c A.length q).length := by rw [List.length_append]; omega
        obtain ⟨τ, t1, t2⟩ := ih m ω (A ++ kl_c A.length q) w2 (by rw [List.length_append, ek, eC']; simp) (fun x hx => hk x (List.mem_cons_of_mem _ hx)) (by rw [List.length_append]; omega)
        refine ⟨τ, ?_, (u3.tr w3).tr t2⟩
        rw [u1, el, w1, e3, t1]
        rw [wo_]
        rw [if_neg (by exact fun o_ => o_.elim (fun x => q0 x) (fun x => x (by rw [ev]; exact hv)))]
      · rw [if_neg hv] at w1
        obtain ⟨m', rfl⟩ : ∃ m', m = (m' + 1) + q.2.length := ⟨m - q.2.length - 1, by omega⟩
        have e3 : (A ++ q.1.map tk_c).length + 2 = (A ++ (q.1.map tk_c ++ [-11, Int32.ofNat (A.length + q.1.length + q.2.length + 3)])).length := by simp only [List.length_append, List.length_map, List.length_cons, List.length_nil]; omega
        obtain ⟨x, x1, x2, x3, x4⟩ := cl_l (N := N) hC hl q.2 (m' + 1) ω (A ++ (q.1.map tk_c ++ [-11, Int32.ofNat (A.length + q.1.length + q.2.length + 3)])) ([-12] ++ ks_c (A.length + (kl_c A.length q).length) r) [] [] [false] w2 (by rw [eC']; simp; rw [kl]; congr 1) ok.2 trivial (by simp)
        obtain ⟨y, ey⟩ := ev_one x4
        rw [ey] at x2
        obtain ⟨τ, t1, t2⟩ := an_v (N := N) (m := m') (A := A ++ (q.1.map tk_c ++ [-11, Int32.ofNat (A.length + q.1.length + q.2.length + 3)]) ++ q.2.map tk_c) (B := ks_c (A.length + (kl_c A.length q).length) r) x2 (by rw [eC']; simp; rw [kl]; congr 1) hC
        refine ⟨τ, ?_, ((u3.tr w3).tr x3).tr t2⟩
        rw [u1, el, w1, e3, x1, show (A ++ (q.1.map tk_c ++ [-11, Int32.ofNat (A.length + q.1.length + q.2.length + 3)])).length + q.2.length = (A ++ (q.1.map tk_c ++ [-11, Int32.ofNat (A.length + q.1.length + q.2.length + 3)]) ++ q.2.map tk_c).length by simp; omega, t1]
        rw [wo_]
        rw [if_pos (Or.inr (by rw [ev]; exact hv)), ey]
        rfl
/-! the reference's -/
theorem ks_s {K : List Kl} : ∀ {c : Nat}, c < K.length → ∃ pre post, ks_t K = pre ++ ((K.getD c ([], [])).1 ++ ((K.getD c ([], [])).2 ++ post)) ∧ pre.length = ks_o K c ∧ ks_o K (c + 1) = ks_o K c + (K.getD c ([], [])).1.length + (K.getD c ([], [])).2.length := by
  induction K with
  | nil => intro c h; simp at h
  | cons q r ih =>
    intro c h
    match c with
    | 0 =>
      refine ⟨[], ks_t r, rfl, rfl, ?_⟩
      show q.1.length + q.2.length + ks_o r 0 = 0 + q.1.length + q.2.length
      have : ks_o r 0 = 0 := by cases r <;> rfl
      omega
    | c + 1 =>
      obtain ⟨pre, post, h1, h2, h3⟩ := ih (c := c) (by simpa using h)
      refine ⟨q.1 ++ (q.2 ++ pre), post, ?_, ?_, ?_⟩
      · show q.1 ++ (q.2 ++ ks_t r) = _
        rw [h1]
        simp
      · show _ = q.1.length + q.2.length + ks_o r c
        simp
        omega
      · show q.1.length + q.2.length + ks_o r (c + 1) = q.1.length + q.2.length + ks_o r c + _ + _
        rw [h3]
        simp
        omega
theorem wk_v {i o : Nat} {lt : Nat → Int32} (hi : i < 5) (hl : ∀ k, k < 6 → -1000000 ≤ (lt k).toInt ∧ (lt k).toInt ≤ 1000000) {ρ : Sg} (d : RF (sg_R ρ) (sg_L ρ)) {l : List Tk} {k : Bool} (hz : o + l.length ≤ 520) (ex : ∀ j, j < l.length → sg_I ρ 346 (520 * i + (o + j)) = (l.getD j (0, 0)).1 ∧ sg_I ρ 347 (520 * i + (o + j)) = (l.getD j (0, 0)).2) (el : ∀ k, k < 6 → sg_I ρ 353 k = lt k) (hk : ck_ l [] = some [k]) : ∃ τ, f_X12_workOut 20000 344 (Int32.ofNat i) (Int32.ofNat o) (Int32.ofNat (o + l.length)) ρ = some ((ev_ lt l []).headD 0, τ) ∧ KT ρ τ := by
  obtain ⟨m, em⟩ : ∃ m, 20000 = (m + 1) + l.length := ⟨20000 - l.length - 1, by omega⟩
  obtain ⟨τ, t1, t2, t3, t4⟩ := rl_l (N := 20000) (v := Int32.ofNat (o + l.length)) hi hz rfl hl l (m + 1) o ρ [] [] [k] d rfl ex el sk_nil hk trivial (by simp)
  obtain ⟨v, ev⟩ := ev_one t4
  refine ⟨τ, ?_, t2⟩
  have e0 : f_X12_workOut 20000 344 (Int32.ofNat i) (Int32.ofNat o) (Int32.ofNat (o + l.length)) ρ = f_X12_workOut_L12 20000 344 ((m + 1) + l.length) (Int32.ofNat i) (Int32.ofNat (o + l.length)) (Int32.ofNat ([] : List Int32).length) (Int32.ofNat (520 * i + o)) ρ := by
    unfold f_X12_workOut
    rw [← em, l_520, o_mul, o_add]
    rfl
  rw [e0, t1, f_X12_workOut_L12, l_520, o_mul, o_add, if_neg (by rw [o_lt (by omega) (by omega)]; omega), t2.1.2.1, t2.1.2.2.1]
  simp only [d, Option.bind_some]
  rw [if_neg (by decide)]
  rw [ev] at t3
  rw [ev]
  have := sk_top t3
  exact congrArg some (Prod.ext this rfl)
theorem rw_v {i : Nat} {lt : Nat → Int32} (hi : i < 5) (hl : ∀ k, k < 6 → -1000000 ≤ (lt k).toInt ∧ (lt k).toInt ≤ 1000000) {K : List Kl} (h515 : (ks_t K).length ≤ 515) (hK : K.length ≤ 130) (ok : ∀ q ∈ K, ok_k q) : ∀ (j c n : Nat) (ρ : Sg), c + j = K.length → j < n → RF (sg_R ρ) (sg_L ρ) → sg_I ρ 349 i = Int32.ofNat K.length → sl_ (sg_I ρ 346) (520 * i) ((ks_t K).map Prod.fst) → sl_ (sg_I ρ 347) (520 * i) ((ks_t K).map Prod.snd) → (∀ c, c < K.length → sg_I ρ 350 (140 * i + c) = Int32.ofNat (ks_o K c) ∧ sg_I ρ 351 (140 * i + c) = Int32.ofNat (ks_o K c + (K.getD c ([], [])).1.length) ∧ sg_I ρ 352 (140 * i + c) = Int32.ofNat (ks_o K (c + 1))) → (∀ k, k < 6 → sg_I ρ 353 k = lt k) → ∃ τ, f_X12_worthOf_L6 20000 344 n (Int32.ofNat i) (Int32.ofNat (140 * i + c)) ρ = some (wo_ lt (K.drop c), τ) ∧ KT ρ τ := by
  intro j
  induction j with
  | zero =>
    intro c n ρ hc hn d e349 s1 s2 hf el
    obtain ⟨n, rfl⟩ : ∃ m, n = m + 1 := ⟨n - 1, by omega⟩
    refine ⟨ρ, ?_, KT.rf⟩
    rw [f_X12_worthOf_L6]
    simp only [d, Option.bind_some]
    rw [if_neg (o_in (by omega) (by omega)), o_tn (by omega), e349, l_140, o_mul, o_add, if_neg (by rw [o_lt (by omega) (by omega)]; omega), List.drop_eq_nil_of_le (by omega)]
    rfl
  | succ j ih =>
    intro c n ρ hc hn d e349 s1 s2 hf el
    obtain ⟨n, rfl⟩ : ∃ m, n = m + 1 := ⟨n - 1, by omega⟩
    have hcl : c < K.length := by omega
    obtain ⟨pre, post, p1, p2, p3⟩ := ks_s hcl
    obtain ⟨f1, f2, f3⟩ := hf c hcl
    have ed : K.drop c = K.getD c ([], []) :: K.drop (c + 1) := by
      rw [List.drop_eq_getElem_cons hcl, List.getD_eq_getElem?_getD, List.getElem?_eq_getElem hcl]
      rfl
    have hok : ok_k (K.getD c ([], [])) := by
      rw [List.getD_eq_getElem?_getD, List.getElem?_eq_getElem hcl]
      exact ok _ (List.getElem_mem hcl)
    generalize K.getD c ([], []) = q at *
    have hlen : (ks_t K).length = pre.length + (q.1.length + (q.2.length + post.length)) := by rw [p1]; simp
    have x1 : ∀ j, j < q.1.length → sg_I ρ 346 (520 * i + (ks_o K c + j)) = (q.1.getD j (0, 0)).1 ∧ sg_I ρ 347 (520 * i + (ks_o K c + j)) = (q.1.getD j (0, 0)).2 := by
      intro j hj
      have y1 := s1 (ks_o K c + j) (by rw [List.length_map]; omega)
      have y2 := s2 (ks_o K c + j) (by rw [List.length_map]; omega)
      have e : (ks_t K)[ks_o K c + j]? = q.1[j]? := by
        rw [p1, ← p2, List.getElem?_append_right (by omega), Nat.add_sub_cancel_left, List.getElem?_append_left hj]
      rw [y1, y2, List.getD_eq_getElem?_getD, List.getD_eq_getElem?_getD, List.getD_eq_getElem?_getD, List.getElem?_map, List.getElem?_map, e, List.getElem?_eq_getElem hj]
      exact ⟨rfl, rfl⟩
    have x2 : ∀ j, j < q.2.length → sg_I ρ 346 (520 * i + (ks_o K c + q.1.length + j)) = (q.2.getD j (0, 0)).1 ∧ sg_I ρ 347 (520 * i + (ks_o K c + q.1.length + j)) = (q.2.getD j (0, 0)).2 := by
      intro j hj
      have y1 := s1 (ks_o K c + q.1.length + j) (by rw [List.length_map]; omega)
      have y2 := s2 (ks_o K c + q.1.length + j) (by rw [List.length_map]; omega)
      have e : (ks_t K)[ks_o K c + q.1.length + j]? = q.2[j]? := by
        rw [p1, ← p2, List.getElem?_append_right (by omega), List.getElem?_append_right (by omega), show pre.length + q.1.length + j - pre.length - q.1.length = j by omega, List.getElem?_append_left hj]
      rw [y1, y2, List.getD_eq_getElem?_getD, List.getD_eq_getElem?_getD, List.getD_eq_getElem?_getD, List.getElem?_map, List.getElem?_map, e, List.getElem?_eq_getElem hj]
      exact ⟨rfl, rfl⟩
    have B57 : ∀ υ, KT ρ υ → ∃ τ, f_X12_worthOf_B57 20000 344 (Int32.ofNat i) (Int32.ofNat (140 * i + c)) υ = some ((ev_ lt q.2 []).headD 0, τ) ∧ KT ρ τ := by
      intro υ ku
      have d' : RF (sg_R υ) (sg_L υ) := by rw [ku.1.2.1, ku.1.2.2.1]; exact d
      obtain ⟨τ, t1, t2⟩ := wk_v (o := ks_o K c + q.1.length) hi hl d' (by omega) (fun j hj => by rw [ku.2 346 (by decide), ku.2 347 (by decide)]; exact x2 j hj) (fun k hk => by rw [ku.2 353 (by decide)]; exact el k hk) hok.2
      refine ⟨τ, ?_, ku.tr t2⟩
      unfold f_X12_worthOf_B57
      simp only [d', Option.bind_some]
      rw [if_neg (o_in (by omega) (by omega)), if_neg (o_in (by omega) (by omega)), o_tn (by omega), ku.2 351 (by decide), ku.2 352 (by decide), f2, f3, p3, t1]
      rfl
    rw [ed, f_X12_worthOf_L6]
    simp only [d, Option.bind_some]
    rw [if_neg (o_in (by omega) (by omega)), o_tn (show i < 2147483648 by omega), e349, l_140, o_mul, o_add, if_pos (by rw [o_lt (by omega) (by omega)]; omega), if_neg (o_in (by omega) (by omega)), if_neg (o_in (by omega) (by omega)), o_tn (show 140 * i + c < 2147483648 by omega), f1, f2]
    by_cases q0 : q.1 = []
    · rw [if_pos (by rw [q0]; rfl)]
      obtain ⟨τ, t1, t2⟩ := B57 ρ KT.rf
      refine ⟨τ, ?_, t2⟩
      rw [t1]
      rw [wo_]
      rw [if_pos (Or.inl q0)]
    · have hq1 : 0 < q.1.length := List.length_pos_iff.mpr q0
      have nc : ¬ (Int32.ofNat (140 * i + c) < 0 ∨ 700 ≤ 140 * i + c) := by
        have h := o_in (k := 140 * i + c) (L := 700) (by omega) (by omega)
        rw [o_tn (by omega)] at h
        exact h
      rw [if_neg (by rw [o_eq (by omega) (by omega)]; omega), if_neg nc, if_neg nc]
      obtain ⟨υ, u1, u2⟩ := wk_v (o := ks_o K c) hi hl d (by omega) x1 el (hok.1.resolve_left q0)
      rw [u1]
      simp only [Option.bind_some]
      by_cases hv : (ev_ lt q.1 []).headD 0 = 0
      · rw [if_pos hv]
        obtain ⟨τ, t1, t2⟩ := ih (c + 1) n υ (by omega) (by omega) (by rw [u2.1.2.1, u2.1.2.2.1]; exact d) (by rw [u2.2 349 (by decide)]; exact e349) (by rw [u2.2 346 (by decide)]; exact s1) (by rw [u2.2 347 (by decide)]; exact s2) (by rw [u2.2 350 (by decide), u2.2 351 (by decide), u2.2 352 (by decide)]; exact hf) (by rw [u2.2 353 (by decide)]; exact el)
        refine ⟨τ, ?_, u2.tr t2⟩
        rw [o_s, show 140 * i + c + 1 = 140 * i + (c + 1) by omega, t1]
        show _ = some (wo_ lt (q :: K.drop (c + 1)), τ)
        rw [wo_]
        rw [if_neg (by exact fun o_ => o_.elim (fun x => q0 x) (fun x => x hv))]
      · rw [if_neg hv]
        obtain ⟨τ, t1, t2⟩ := B57 υ u2
        refine ⟨τ, ?_, t2⟩
        rw [t1]
        show _ = some (wo_ lt (q :: K.drop (c + 1)), τ)
        rw [wo_]
        rw [if_pos (Or.inr hv)]
