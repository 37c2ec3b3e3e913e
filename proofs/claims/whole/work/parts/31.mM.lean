def f_X12_readLantern_B225 (N : Nat) (a0 : Nat) (σ : Sg) : Option (Int32 × Sg) :=
  some (sg_I σ a0 4, σ)
def f_X12_readLantern_B221 (N : Nat) (a0 : Nat) (σ : Sg) : Option (Int32 × Sg) :=
  Option.bind (f_X12_bad a0  σ) fun p6 =>
  f_X12_readLantern_B225 N a0  (p6)
def f_X12_readLantern_B198 (N : Nat) (a0 : Nat) (σ : Sg) : Option (Int32 × Sg) :=
  if (sg_I σ a0 4) = ((-1)) then
  (Option.bind (f_X12_look N a0  σ) fun p4 =>
  if (p4.1) = ((-1)) then
  (if (sg_I p4.2 a0 19) = (0) then
  (f_X12_readLantern_B221 N a0  (p4.2))
  else
  (f_X12_readLantern_B225 N a0  (p4.2)))
  else
  (f_X12_readLantern_B221 N a0  (p4.2)))
  else
  (f_X12_readLantern_B225 N a0  σ)
def f_X12_readLantern_B191 (N : Nat) (a0 : Nat) (k44 : Int32 → Int32 → Sg → Option (Int32 × Sg)) (v1 : Int32) (v2 : Int32) (s0 : Int32) (s1 : Int32) (s2 : Option Nat) (σ : Sg) : Option (Int32 × Sg) :=
  Option.bind (s2) fun b15 =>
  k44 (v1) (v2) (put_I σ b15 3 ((s1) + (s0)))
def f_X12_readLantern_B176 (N : Nat) (a0 : Nat) (k44 : Int32 → Int32 → Sg → Option (Int32 × Sg)) (v1 : Int32) (s0 : Int32) (σ : Sg) : Option (Int32 × Sg) :=
  if (s0) = (0) then
  (f_X12_readLantern_B191 N a0 k44 (v1) (s0) (0) (sg_I σ a0 3) (some a0) σ)
  else
  (f_X12_readLantern_B191 N a0 k44 (v1) (s0) (1) (sg_I σ a0 3) (some a0) σ)
def f_X12_readLantern_B175 (N : Nat) (a0 : Nat) (k44 : Int32 → Int32 → Sg → Option (Int32 × Sg)) (v1 : Int32) (σ : Sg) : Option (Int32 × Sg) :=
  f_X12_readLantern_B176 N a0 k44 (v1) (0) σ
def f_X12_readLantern_B154 (N : Nat) (a0 : Nat) (k44 : Int32 → Int32 → Sg → Option (Int32 × Sg)) (v1 : Int32) (σ : Sg) : Option (Int32 × Sg) :=
  if (sg_I σ a0 4) = ((-1)) then
  (Option.bind (f_X12_look N a0  σ) fun p16 =>
  if (p16.1) = (59) then
  (f_X12_readLantern_B176 N a0 k44 (v1) (1) (p16.2))
  else
  (f_X12_readLantern_B175 N a0 k44 (v1) (p16.2)))
  else
  (f_X12_readLantern_B175 N a0 k44 (v1) σ)
def f_X12_readLantern_B150 (N : Nat) (a0 : Nat) (k44 : Int32 → Int32 → Sg → Option (Int32 × Sg)) (v1 : Int32) (σ : Sg) : Option (Int32 × Sg) :=
  Option.bind (f_X12_bad a0  σ) fun p12 =>
  f_X12_readLantern_B154 N a0 k44 (v1) (p12)
def f_X12_readLantern_B97 (N : Nat) (a0 : Nat) (k44 : Int32 → Int32 → Sg → Option (Int32 × Sg)) (v1 : Int32) (v3 : Int32) (σ : Sg) : Option (Int32 × Sg) :=
  if (v3) = (119) then
  (if (sg_I σ a0 19) < (4) then
  (Option.bind (f_X12_items N a0 (v3) (sg_R (put_I σ a0 3 ((sg_I σ a0 3) + (1))) a0 18) ((4) * (sg_I (put_I σ a0 3 ((sg_I σ a0 3) + (1))) a0 19)) (4) (put_I σ a0 3 ((sg_I σ a0 3) + (1)))) fun p19 =>
  f_X12_readLantern_B154 N a0 k44 (v1) (put_I p19 a0 19 ((sg_I p19 a0 19) + (1))))
  else
  (f_X12_readLantern_B150 N a0 k44 (v1) σ))
  else
  (f_X12_readLantern_B150 N a0 k44 (v1) σ)
def f_X12_readLantern_L44 (N : Nat) (a0 : Nat) : Nat → Int32 → Int32 → Sg → Option (Int32 × Sg)
  | 0, _, _, _ => none
  | n + 1, v1, v2, σ =>
  if (v2) = (0) then
  (f_X12_readLantern_B198 N a0  σ)
  else
  (if (sg_I σ a0 4) = ((-1)) then
  (Option.bind (f_X12_look N a0  σ) fun p9 =>
  if (p9.1) = (115) then
  (if (v1) = (0) then
  (Option.bind (f_X12_items N a0 (p9.1) (sg_R (put_I p9.2 a0 3 ((sg_I p9.2 a0 3) + (1))) a0 17) (0) (3) (put_I p9.2 a0 3 ((sg_I p9.2 a0 3) + (1)))) fun p21 =>
  f_X12_readLantern_B154 N a0 (f_X12_readLantern_L44 N a0 n) (1) (p21))
  else
  (f_X12_readLantern_B97 N a0 (f_X12_readLantern_L44 N a0 n) (v1) (p9.1) (p9.2)))
  else
  (f_X12_readLantern_B97 N a0 (f_X12_readLantern_L44 N a0 n) (v1) (p9.1) (p9.2)))
  else
  (f_X12_readLantern_B198 N a0  σ))
def f_X12_readLantern_L19 (N : Nat) (a0 : Nat) : Nat → Int32 → Int32 → Sg → Option (Int32 × Sg)
  | 0, _, _, _ => none
  | n + 1, v1, v2, σ =>
  if (v2) < (3) then
  (Option.bind (f_X12_usual (115) (v2) ) fun p22 =>
  Option.bind (sg_R σ a0 17) fun b23 =>
  if (v2) < 0 ∨ sg_L σ b23 ≤ (v2).toNatClampNeg then none else
  f_X12_readLantern_L19 N a0 n (v1) (v2 + 1) (put_I σ b23 (v2).toNatClampNeg (p22)))
  else
  (f_X12_readLantern_L44 N a0 N (v1) (1) σ)
def f_X12_readLantern (N : Nat) (a0 : Nat) (σ : Sg) : Option (Int32 × Sg) :=
  f_X12_readLantern_L19 N a0 N (0) (0) (put_I (put_I (put_I σ a0 3 (0)) a0 4 ((-1))) a0 19 (0))
set_option maxHeartbeats 4000000 in
set_option maxRecDepth 100000 in
theorem t_X12_readLantern_B225 {N : Nat} {a0 : Nat} {Γ : Gm} {σ0 : Sg} {r : (Int32 × Sg)} (C1 : CM Γ cX12_readLantern RX12 4 (some .int) 4 89 0 0 (fun r_ τ_ => (r_ = some (vi r.1)) ∧ τ_ = r.2 ∧ sg_T τ_ ∧ sg_E σ0 τ_)) (σ : Sg) (hT : sg_T σ) (hE : sg_E σ0 σ) (h0 : is_A σ a0 11) (hf : f_X12_readLantern_B225 N a0   σ = some r) : J_ Γ 225 [(0, vr (some a0))] [] σ 0 0 := by
  have C0 := C1.1
  unfold f_X12_readLantern_B225 at hf
  refine J_aload_n (q := 226) C0 0 rfl rfl dX12_readLantern_225 rfl trivial ?_
  refine J_getI (q := 229) C0 fl_X12_110_11 rfl (h0) rfl dX12_readLantern_226 rfl ?_
  obtain rfl := Option.some.inj hf; exact J_iret C1 dX12_readLantern_229 rfl (Nat.zero_le _) (Nat.zero_le _) ⟨rfl, rfl, hT, hE⟩
set_option maxHeartbeats 4000000 in
set_option maxRecDepth 100000 in
theorem t_X12_readLantern_B221 {N : Nat} {a0 : Nat} {Γ : Gm} {σ0 : Sg} {r : (Int32 × Sg)} (C1 : CM Γ cX12_readLantern RX12 4 (some .int) 4 89 0 0 (fun r_ τ_ => (r_ = some (vi r.1)) ∧ τ_ = r.2 ∧ sg_T τ_ ∧ sg_E σ0 τ_)) (σ : Sg) (hT : sg_T σ) (hE : sg_E σ0 σ) (h0 : is_A σ a0 11) (hf : f_X12_readLantern_B221 N a0   σ = some r) : J_ Γ 221 [(0, vr (some a0))] [] σ 0 0 := by
  have C0 := C1.1
  unfold f_X12_readLantern_B221 at hf
  refine J_aload_n (q := 222) C0 0 rfl rfl dX12_readLantern_221 rfl trivial ?_
  refine K_some hf (fun p6 hp6 hf => ?_)
  refine J_callV (q := 225) (ci := 11) (as := []) (rest := []) C0 rfl (h0) (t_X12_bad a0  (hT) (h0)  hp6) ml_X12_bad lk_X12_119 im_X12_bad se_X12_bad rfl (by decide) dX12_readLantern_222 rfl rfl rfl (by simp [ac_]) C1.room (by decide) (by decide) (by decide) (by decide) (fun r_ τ_ hQ => ?_)
  obtain ⟨rfl, ht_, Tp6, Ep6⟩ := hQ; have ht_ := ht_.symm; subst ht_
  show J_ Γ 225 [(0, vr (some a0))] [] p6 0 0
  exact t_X12_readLantern_B225 C1     (p6) (Tp6) ((hE).tr Ep6) ((Ep6.at h0))  hf
set_option maxHeartbeats 4000000 in
set_option maxRecDepth 100000 in
theorem t_X12_readLantern_B198 {N : Nat} {a0 : Nat} {Γ : Gm} {σ0 : Sg} {r : (Int32 × Sg)} (C1 : CM Γ cX12_readLantern RX12 4 (some .int) 4 89 0 0 (fun r_ τ_ => (r_ = some (vi r.1)) ∧ τ_ = r.2 ∧ sg_T τ_ ∧ sg_E σ0 τ_)) (σ : Sg) (hT : sg_T σ) (hE : sg_E σ0 σ) (h0 : is_A σ a0 11) (hf : f_X12_readLantern_B198 N a0   σ = some r) : J_ Γ 198 [(0, vr (some a0))] [] σ 0 0 := by
  have C0 := C1.1
  unfold f_X12_readLantern_B198 at hf
  refine J_aload_n (q := 199) C0 0 rfl rfl dX12_readLantern_198 rfl trivial ?_
  refine J_getI (q := 202) C0 fl_X12_110_11 rfl (h0) rfl dX12_readLantern_199 rfl ?_
  refine J_iconst (q := 203) (v := (-1)) C0 dX12_readLantern_202 rfl rfl ?_
  refine J_icmp_ne (t := 225) (q := 206) C0 dX12_readLantern_203 (by decide) rfl hf (fun c3 hf => ?_) (fun c3 hf => ?_)
  · exact t_X12_readLantern_B225 C1     σ (hT) (hE) (h0)  hf
  · refine J_aload_n (q := 207) C0 0 rfl rfl dX12_readLantern_206 rfl trivial ?_
    refine K_some hf (fun p4 hp4 hf => ?_)
    refine J_callV (q := 210) (ci := 11) (as := []) (rest := []) C0 rfl (h0) (t_X12_look N a0  (hT) (h0)  hp4) ml_X12_look lk_X12_122 im_X12_look se_X12_look rfl (by decide) dX12_readLantern_207 rfl rfl rfl (by simp [ac_]) C1.room (by decide) (by decide) (by decide) (by decide) (fun r_ τ_ hQ => ?_)
    obtain ⟨rfl, rfl, Tp4, Ep4⟩ := hQ
    show J_ Γ 210 [(0, vr (some a0))] [vi (p4.1)] p4.2 0 0
    refine J_iconst (q := 211) (v := (-1)) C0 dX12_readLantern_210 rfl rfl ?_
    refine J_icmp_ne (t := 221) (q := 214) C0 dX12_readLantern_211 (by decide) rfl hf (fun c5 hf => ?_) (fun c5 hf => ?_)
    · exact t_X12_readLantern_B221 C1     (p4.2) (Tp4) ((hE).tr Ep4) ((Ep4.at h0))  hf
    · refine J_aload_n (q := 215) C0 0 rfl rfl dX12_readLantern_214 rfl trivial ?_
      refine J_getI (q := 218) C0 fl_X12_229_11 rfl ((Ep4.at h0)) rfl dX12_readLantern_215 rfl ?_
      refine J_if_ne (t := 225) (q := 221) C0 dX12_readLantern_218 (by decide) rfl hf (fun c7 hf => ?_) (fun c7 hf => ?_)
      · exact t_X12_readLantern_B225 C1     (p4.2) (Tp4) ((hE).tr Ep4) ((Ep4.at h0))  hf
      · exact t_X12_readLantern_B221 C1     (p4.2) (Tp4) ((hE).tr Ep4) ((Ep4.at h0))  hf
set_option maxHeartbeats 4000000 in
set_option maxRecDepth 100000 in
theorem t_X12_readLantern_B191 {N : Nat} {a0 : Nat} {Γ : Gm} {σ0 : Sg} {r : (Int32 × Sg)} (C1 : CM Γ cX12_readLantern RX12 4 (some .int) 4 89 0 0 (fun r_ τ_ => (r_ = some (vi r.1)) ∧ τ_ = r.2 ∧ sg_T τ_ ∧ sg_E σ0 τ_)) (k44 : Int32 → Int32 → Sg → Option (Int32 × Sg)) (hk44 : ∀ (v1 : Int32) (v2 : Int32) (σ : Sg), sg_T σ → sg_E σ0 σ → is_A σ a0 11 → k44 v1 v2 σ = some r → J_ Γ 44 [(0, vr (some a0)), (1, vi v1), (2, vi v2)] [] σ 0 0) (v1 : Int32) (v2 : Int32) (s0 : Int32) (s1 : Int32) (s2 : Option Nat) (σ : Sg) (hT : sg_T σ) (hE : sg_E σ0 σ) (h0 : is_A σ a0 11) (g_s2 : is_O σ s2 11) (hf : f_X12_readLantern_B191 N a0 k44  v1 v2 s0 s1 s2 σ = some r) : J_ Γ 191 [(0, vr (some a0)), (1, vi (v1)), (2, vi (v2))] [vi (s0), vi (s1), vr (s2)] σ 0 0 := by
  have C0 := C1.1
  unfold f_X12_readLantern_B191 at hf
  refine J_iadd (q := 192) C0 dX12_readLantern_191 rfl ?_
  refine K_some hf (fun b15 hb15 hf => ?_)
  have ab15 : is_A σ b15 11 := (g_s2) b15 hb15
  refine J_putI (q := 195) C0 fl_X12_103_11 hb15 (ab15) rfl dX12_readLantern_192 rfl ?_
  refine J_goto (q := 44) C0 dX12_readLantern_195 (by decide) ?_
  exact hk44 (v1) (v2) (put_I σ b15 3 ((s1) + (s0))) ((hT).putI) ((hE).putI)  ((h0).putI)  hf
set_option maxHeartbeats 4000000 in
set_option maxRecDepth 100000 in
theorem t_X12_readLantern_B176 {N : Nat} {a0 : Nat} {Γ : Gm} {σ0 : Sg} {r : (Int32 × Sg)} (C1 : CM Γ cX12_readLantern RX12 4 (some .int) 4 89 0 0 (fun r_ τ_ => (r_ = some (vi r.1)) ∧ τ_ = r.2 ∧ sg_T τ_ ∧ sg_E σ0 τ_)) (k44 : Int32 → Int32 → Sg → Option (Int32 × Sg)) (hk44 : ∀ (v1 : Int32) (v2 : Int32) (σ : Sg), sg_T σ → sg_E σ0 σ → is_A σ a0 11 → k44 v1 v2 σ = some r → J_ Γ 44 [(0, vr (some a0)), (1, vi v1), (2, vi v2)] [] σ 0 0) (v1 : Int32) (s0 : Int32) (σ : Sg) (hT : sg_T σ) (hE : sg_E σ0 σ) (h0 : is_A σ a0 11) (hf : f_X12_readLantern_B176 N a0 k44  v1 s0 σ = some r) : J_ Γ 176 [(0, vr (some a0)), (1, vi (v1))] [vi (s0)] σ 0 0 := by
  have C0 := C1.1
  unfold f_X12_readLantern_B176 at hf
  refine J_istore_n (q := 177) (lv' := [(2, vi (s0)), (0, vr (some a0)), (1, vi (v1))]) C0 rfl (G_nl C1 (by decide)) dX12_readLantern_176 rfl rfl ?_
  refine J_aload_n (q := 178) C0 1 rfl rfl dX12_readLantern_177 rfl trivial ?_
  refine J_dup (q := 179) C0 dX12_readLantern_178 rfl rfl ?_
  refine J_getI (q := 182) C0 fl_X12_103_11 rfl (h0) rfl dX12_readLantern_179 rfl ?_
  refine J_iload_n (q := 183) C0 0 rfl rfl dX12_readLantern_182 rfl ?_
  refine J_if_eq (t := 190) (q := 186) C0 dX12_readLantern_183 (by decide) rfl hf (fun c14 hf => ?_) (fun c14 hf => ?_)
  · refine J_iconst (q := 191) (v := 0) C0 dX12_readLantern_190 rfl rfl ?_
    refine J_sub (lv' := [(0, vr (some a0)), (1, vi (v1)), (2, vi (s0))]) [1, 2, 0] rfl ?_
    exact t_X12_readLantern_B191 C1  k44  hk44  (v1) (s0) (0) (sg_I σ a0 3) (some a0) σ (hT) (hE) (h0) (is_O.some (h0)) hf
  · refine J_iconst (q := 187) (v := 1) C0 dX12_readLantern_186 rfl rfl ?_
    refine J_goto (q := 191) C0 dX12_readLantern_187 (by decide) ?_
    refine J_sub (lv' := [(0, vr (some a0)), (1, vi (v1)), (2, vi (s0))]) [1, 2, 0] rfl ?_
    exact t_X12_readLantern_B191 C1  k44  hk44  (v1) (s0) (1) (sg_I σ a0 3) (some a0) σ (hT) (hE) (h0) (is_O.some (h0)) hf
set_option maxHeartbeats 4000000 in
set_option maxRecDepth 100000 in
theorem t_X12_readLantern_B175 {N : Nat} {a0 : Nat} {Γ : Gm} {σ0 : Sg} {r : (Int32 × Sg)} (C1 : CM Γ cX12_readLantern RX12 4 (some .int) 4 89 0 0 (fun r_ τ_ => (r_ = some (vi r.1)) ∧ τ_ = r.2 ∧ sg_T τ_ ∧ sg_E σ0 τ_)) (k44 : Int32 → Int32 → Sg → Option (Int32 × Sg)) (hk44 : ∀ (v1 : Int32) (v2 : Int32) (σ : Sg), sg_T σ → sg_E σ0 σ → is_A σ a0 11 → k44 v1 v2 σ = some r → J_ Γ 44 [(0, vr (some a0)), (1, vi v1), (2, vi v2)] [] σ 0 0) (v1 : Int32) (σ : Sg) (hT : sg_T σ) (hE : sg_E σ0 σ) (h0 : is_A σ a0 11) (hf : f_X12_readLantern_B175 N a0 k44  v1 σ = some r) : J_ Γ 175 [(0, vr (some a0)), (1, vi (v1))] [] σ 0 0 := by
  have C0 := C1.1
  unfold f_X12_readLantern_B175 at hf
  refine J_iconst (q := 176) (v := 0) C0 dX12_readLantern_175 rfl rfl ?_
  exact t_X12_readLantern_B176 C1  k44  hk44  (v1) (0) σ (hT) (hE) (h0)  hf
set_option maxHeartbeats 4000000 in
set_option maxRecDepth 100000 in
theorem t_X12_readLantern_B154 {N : Nat} {a0 : Nat} {Γ : Gm} {σ0 : Sg} {r : (Int32 × Sg)} (C1 : CM Γ cX12_readLantern RX12 4 (some .int) 4 89 0 0 (fun r_ τ_ => (r_ = some (vi r.1)) ∧ τ_ = r.2 ∧ sg_T τ_ ∧ sg_E σ0 τ_)) (k44 : Int32 → Int32 → Sg → Option (Int32 × Sg)) (hk44 : ∀ (v1 : Int32) (v2 : Int32) (σ : Sg), sg_T σ → sg_E σ0 σ → is_A σ a0 11 → k44 v1 v2 σ = some r → J_ Γ 44 [(0, vr (some a0)), (1, vi v1), (2, vi v2)] [] σ 0 0) (v1 : Int32) (σ : Sg) (hT : sg_T σ) (hE : sg_E σ0 σ) (h0 : is_A σ a0 11) (hf : f_X12_readLantern_B154 N a0 k44  v1 σ = some r) : J_ Γ 154 [(0, vr (some a0)), (1, vi (v1))] [] σ 0 0 := by
  have C0 := C1.1
  unfold f_X12_readLantern_B154 at hf
  refine J_aload_n (q := 155) C0 0 rfl rfl dX12_readLantern_154 rfl trivial ?_
  refine J_getI (q := 158) C0 fl_X12_110_11 rfl (h0) rfl dX12_readLantern_155 rfl ?_
  refine J_iconst (q := 159) (v := (-1)) C0 dX12_readLantern_158 rfl rfl ?_
  refine J_icmp_ne (t := 175) (q := 162) C0 dX12_readLantern_159 (by decide) rfl hf (fun c13 hf => ?_) (fun c13 hf => ?_)
  · exact t_X12_readLantern_B175 C1  k44  hk44  (v1) σ (hT) (hE) (h0)  hf
  · refine J_aload_n (q := 163) C0 0 rfl rfl dX12_readLantern_162 rfl trivial ?_
    refine K_some hf (fun p16 hp16 hf => ?_)
    refine J_callV (q := 166) (ci := 11) (as := []) (rest := []) C0 rfl (h0) (t_X12_look N a0  (hT) (h0)  hp16) ml_X12_look lk_X12_122 im_X12_look se_X12_look rfl (by decide) dX12_readLantern_163 rfl rfl rfl (by simp [ac_]) C1.room (by decide) (by decide) (by decide) (by decide) (fun r_ τ_ hQ => ?_)
    obtain ⟨rfl, rfl, Tp16, Ep16⟩ := hQ
    show J_ Γ 166 [(0, vr (some a0)), (1, vi (v1))] [vi (p16.1)] p16.2 0 0
    refine J_bipush (q := 168) (v := 59) C0 dX12_readLantern_166 rfl rfl ?_
    refine J_icmp_ne (t := 175) (q := 171) C0 dX12_readLantern_168 (by decide) rfl hf (fun c17 hf => ?_) (fun c17 hf => ?_)
    · exact t_X12_readLantern_B175 C1  k44  hk44  (v1) (p16.2) (Tp16) ((hE).tr Ep16) ((Ep16.at h0))  hf
    · refine J_iconst (q := 172) (v := 1) C0 dX12_readLantern_171 rfl rfl ?_
      refine J_goto (q := 176) C0 dX12_readLantern_172 (by decide) ?_
      exact t_X12_readLantern_B176 C1  k44  hk44  (v1) (1) (p16.2) (Tp16) ((hE).tr Ep16) ((Ep16.at h0))  hf
set_option maxHeartbeats 4000000 in
set_option maxRecDepth 100000 in
theorem t_X12_readLantern_B150 {N : Nat} {a0 : Nat} {Γ : Gm} {σ0 : Sg} {r : (Int32 × Sg)} (C1 : CM Γ cX12_readLantern RX12 4 (some .int) 4 89 0 0 (fun r_ τ_ => (r_ = some (vi r.1)) ∧ τ_ = r.2 ∧ sg_T τ_ ∧ sg_E σ0 τ_)) (k44 : Int32 → Int32 → Sg → Option (Int32 × Sg)) (hk44 : ∀ (v1 : Int32) (v2 : Int32) (σ : Sg), sg_T σ → sg_E σ0 σ → is_A σ a0 11 → k44 v1 v2 σ = some r → J_ Γ 44 [(0, vr (some a0)), (1, vi v1), (2, vi v2)] [] σ 0 0) (v1 : Int32) (σ : Sg) (hT : sg_T σ) (hE : sg_E σ0 σ) (h0 : is_A σ a0 11) (hf : f_X12_readLantern_B150 N a0 k44  v1 σ = some r) : J_ Γ 150 [(0, vr (some a0)), (1, vi (v1))] [] σ 0 0 := by
  have C0 := C1.1
  unfold f_X12_readLantern_B150 at hf
  refine J_aload_n (q := 151) C0 0 rfl rfl dX12_readLantern_150 rfl trivial ?_
  refine K_some hf (fun p12 hp12 hf => ?_)
  refine J_callV (q := 154) (ci := 11) (as := []) (rest := []) C0 rfl (h0) (t_X12_bad a0  (hT) (h0)  hp12) ml_X12_bad lk_X12_119 im_X12_bad se_X12_bad rfl (by decide) dX12_readLantern_151 rfl rfl rfl (by simp [ac_]) C1.room (by decide) (by decide) (by decide) (by decide) (fun r_ τ_ hQ => ?_)
  obtain ⟨rfl, ht_, Tp12, Ep12⟩ := hQ; have ht_ := ht_.symm; subst ht_
  show J_ Γ 154 [(0, vr (some a0)), (1, vi (v1))] [] p12 0 0
  exact t_X12_readLantern_B154 C1  k44  hk44  (v1) (p12) (Tp12) ((hE).tr Ep12) ((Ep12.at h0))  hf
set_option maxHeartbeats 4000000 in
set_option maxRecDepth 100000 in
theorem t_X12_readLantern_B97 {N : Nat} {a0 : Nat} {Γ : Gm} {σ0 : Sg} {r : (Int32 × Sg)} (C1 : CM Γ cX12_readLantern RX12 4 (some .int) 4 89 0 0 (fun r_ τ_ => (r_ = some (vi r.1)) ∧ τ_ = r.2 ∧ sg_T τ_ ∧ sg_E σ0 τ_)) (k44 : Int32 → Int32 → Sg → Option (Int32 × Sg)) (hk44 : ∀ (v1 : Int32) (v2 : Int32) (σ : Sg), sg_T σ → sg_E σ0 σ → is_A σ a0 11 → k44 v1 v2 σ = some r → J_ Γ 44 [(0, vr (some a0)), (1, vi v1), (2, vi v2)] [] σ 0 0) (v1 : Int32) (v3 : Int32) (σ : Sg) (hT : sg_T σ) (hE : sg_E σ0 σ) (h0 : is_A σ a0 11) (hf : f_X12_readLantern_B97 N a0 k44  v1 v3 σ = some r) : J_ Γ 97 [(0, vr (some a0)), (1, vi (v1)), (3, vi (v3))] [] σ 0 0 := by
  have C0 := C1.1
  unfold f_X12_readLantern_B97 at hf
  refine J_iload_n (q := 98) C0 2 rfl rfl dX12_readLantern_97 rfl ?_
  refine J_bipush (q := 100) (v := 119) C0 dX12_readLantern_98 rfl rfl ?_
  refine J_icmp_ne (t := 150) (q := 103) C0 dX12_readLantern_100 (by decide) rfl hf (fun c11 hf => ?_) (fun c11 hf => ?_)
  · refine J_sub (lv' := [(0, vr (some a0)), (1, vi (v1))]) [0, 1] rfl ?_
    exact t_X12_readLantern_B150 C1  k44  hk44  (v1) σ (hT) (hE) (h0)  hf
  · refine J_aload_n (q := 104) C0 0 rfl rfl dX12_readLantern_103 rfl trivial ?_
    refine J_getI (q := 107) C0 fl_X12_229_11 rfl (h0) rfl dX12_readLantern_104 rfl ?_
    refine J_iconst (q := 108) (v := 4) C0 dX12_readLantern_107 rfl rfl ?_
    refine J_icmp_ge (t := 150) (q := 111) C0 dX12_readLantern_108 (by decide) rfl hf (fun c18 hf => ?_) (fun c18 hf => ?_)
    · refine J_sub (lv' := [(0, vr (some a0)), (1, vi (v1))]) [0, 1] rfl ?_
      exact t_X12_readLantern_B150 C1  k44  hk44  (v1) σ (hT) (hE) (h0)  hf
    · refine J_aload_n (q := 112) C0 0 rfl rfl dX12_readLantern_111 rfl trivial ?_
      refine J_dup (q := 113) C0 dX12_readLantern_112 rfl rfl ?_
      refine J_getI (q := 116) C0 fl_X12_103_11 rfl (h0) rfl dX12_readLantern_113 rfl ?_
      refine J_iconst (q := 117) (v := 1) C0 dX12_readLantern_116 rfl rfl ?_
      refine J_iadd (q := 118) C0 dX12_readLantern_117 rfl ?_
      refine J_putI (q := 121) C0 fl_X12_103_11 rfl (h0) rfl dX12_readLantern_118 rfl ?_
      refine J_aload_n (q := 122) C0 0 rfl rfl dX12_readLantern_121 rfl trivial ?_
      refine J_iload_n (q := 123) C0 2 rfl rfl dX12_readLantern_122 rfl ?_
      refine J_aload_n (q := 124) C0 0 rfl rfl dX12_readLantern_123 rfl trivial ?_
      refine J_getR (q := 127) C0 fl_X12_43_11 rfl ((h0).putI) rfl dX12_readLantern_124 rfl ?_
      refine J_iconst (q := 128) (v := 4) C0 dX12_readLantern_127 rfl rfl ?_
      refine J_aload_n (q := 129) C0 0 rfl rfl dX12_readLantern_128 rfl trivial ?_
      refine J_getI (q := 132) C0 fl_X12_229_11 rfl ((h0).putI) rfl dX12_readLantern_129 rfl ?_
      refine J_imul (q := 133) C0 dX12_readLantern_132 rfl ?_
      refine J_iconst (q := 134) (v := 4) C0 dX12_readLantern_133 rfl rfl ?_
      refine K_some hf (fun p19 hp19 hf => ?_)
      refine J_callV (q := 137) (ci := 11) (as := [vi (v3), vr (sg_R (put_I σ a0 3 ((sg_I σ a0 3) + (1))) a0 18), vi ((4) * (sg_I (put_I σ a0 3 ((sg_I σ a0 3) + (1))) a0 19)), vi (4)]) (rest := []) C0 rfl ((h0).putI) (t_X12_items N a0 (v3) (sg_R (put_I σ a0 3 ((sg_I σ a0 3) + (1))) a0 18) ((4) * (sg_I (put_I σ a0 3 ((sg_I σ a0 3) + (1))) a0 19)) (4) ((hT).putI) ((h0).putI) ((sg_T.op (hT).putI (j := 18) ((h0).putI) rfl)) hp19) ml_X12_items lk_X12_232 im_X12_items se_X12_items rfl (by decide) dX12_readLantern_134 rfl rfl rfl (by simp [ac_]) C1.room (by decide) (by decide) (by decide) (by decide) (fun r_ τ_ hQ => ?_)
      obtain ⟨rfl, ht_, Tp19, Ep19⟩ := hQ; have ht_ := ht_.symm; subst ht_
      show J_ Γ 137 [(0, vr (some a0)), (1, vi (v1)), (3, vi (v3))] [] p19 0 0
      refine J_aload_n (q := 138) C0 0 rfl rfl dX12_readLantern_137 rfl trivial ?_
      refine J_dup (q := 139) C0 dX12_readLantern_138 rfl rfl ?_
      refine J_getI (q := 142) C0 fl_X12_229_11 rfl ((Ep19.at (h0).putI)) rfl dX12_readLantern_139 rfl ?_
      refine J_iconst (q := 143) (v := 1) C0 dX12_readLantern_142 rfl rfl ?_
      refine J_iadd (q := 144) C0 dX12_readLantern_143 rfl ?_
      refine J_putI (q := 147) C0 fl_X12_229_11 rfl ((Ep19.at (h0).putI)) rfl dX12_readLantern_144 rfl ?_
      refine J_goto (q := 154) C0 dX12_readLantern_147 (by decide) ?_
      refine J_sub (lv' := [(0, vr (some a0)), (1, vi (v1))]) [0, 1] rfl ?_
      exact t_X12_readLantern_B154 C1  k44  hk44  (v1) (put_I p19 a0 19 ((sg_I p19 a0 19) + (1))) ((Tp19).putI) ((((hE).putI).tr Ep19).putI) (((Ep19.at (h0).putI)).putI)  hf
set_option maxHeartbeats 4000000 in
set_option maxRecDepth 100000 in
theorem t_X12_readLantern_L44 {N : Nat} {a0 : Nat} {Γ : Gm} {σ0 : Sg} {r : (Int32 × Sg)} (C1 : CM Γ cX12_readLantern RX12 4 (some .int) 4 89 0 0 (fun r_ τ_ => (r_ = some (vi r.1)) ∧ τ_ = r.2 ∧ sg_T τ_ ∧ sg_E σ0 τ_)) : ∀ (n : Nat) (v1 : Int32) (v2 : Int32) (σ : Sg), sg_T σ → sg_E σ0 σ → is_A σ a0 11 → f_X12_readLantern_L44 N a0  n v1 v2 σ = some r → J_ Γ 44 [(0, vr (some a0)), (1, vi (v1)), (2, vi (v2))] [] σ 0 0 := by
  have C0 := C1.1
  intro n
  induction n with
  | zero => intro v1 v2 σ hT hE h0  hf; unfold f_X12_readLantern_L44 at hf; cases hf
  | succ n ih =>
    intro v1 v2 σ hT hE h0  hf
    rw [f_X12_readLantern_L44] at hf
    refine J_iload_n (q := 45) C0 2 rfl rfl dX12_readLantern_44 rfl ?_
    refine J_if_eq (t := 198) (q := 48) C0 dX12_readLantern_45 (by decide) rfl hf (fun c2 hf => ?_) (fun c2 hf => ?_)
    · refine J_sub (lv' := [(0, vr (some a0))]) [0] rfl ?_
      exact t_X12_readLantern_B198 C1     σ (hT) (hE) (h0)  hf
    · refine J_aload_n (q := 49) C0 0 rfl rfl dX12_readLantern_48 rfl trivial ?_
      refine J_getI (q := 52) C0 fl_X12_110_11 rfl (h0) rfl dX12_readLantern_49 rfl ?_
      refine J_iconst (q := 53) (v := (-1)) C0 dX12_readLantern_52 rfl rfl ?_
      refine J_icmp_ne (t := 198) (q := 56) C0 dX12_readLantern_53 (by decide) rfl hf (fun c8 hf => ?_) (fun c8 hf => ?_)
      · refine J_sub (lv' := [(0, vr (some a0))]) [0] rfl ?_
        exact t_X12_readLantern_B198 C1     σ (hT) (hE) (h0)  hf
      · refine J_aload_n (q := 57) C0 0 rfl rfl dX12_readLantern_56 rfl trivial ?_
        refine K_some hf (fun p9 hp9 hf => ?_)
        refine J_callV (q := 60) (ci := 11) (as := []) (rest := []) C0 rfl (h0) (t_X12_look N a0  (hT) (h0)  hp9) ml_X12_look lk_X12_122 im_X12_look se_X12_look rfl (by decide) dX12_readLantern_57 rfl rfl rfl (by simp [ac_]) C1.room (by decide) (by decide) (by decide) (by decide) (fun r_ τ_ hQ => ?_)
        obtain ⟨rfl, rfl, Tp9, Ep9⟩ := hQ
        show J_ Γ 60 [(0, vr (some a0)), (1, vi (v1)), (2, vi (v2))] [vi (p9.1)] p9.2 0 0
        refine J_istore_n (q := 61) (lv' := [(3, vi (p9.1)), (0, vr (some a0)), (1, vi (v1)), (2, vi (v2))]) C0 rfl (G_nl C1 (by decide)) dX12_readLantern_60 rfl rfl ?_
        refine J_iload_n (q := 62) C0 0 rfl rfl dX12_readLantern_61 rfl ?_
        refine J_bipush (q := 64) (v := 115) C0 dX12_readLantern_62 rfl rfl ?_
        refine J_icmp_ne (t := 97) (q := 67) C0 dX12_readLantern_64 (by decide) rfl hf (fun c10 hf => ?_) (fun c10 hf => ?_)
        · refine J_sub (lv' := [(0, vr (some a0)), (1, vi (v1)), (3, vi (p9.1))]) [1, 2, 0] rfl ?_
          exact t_X12_readLantern_B97 C1  (f_X12_readLantern_L44 N a0 n)  ih  (v1) (p9.1) (p9.2) (Tp9) ((hE).tr Ep9) ((Ep9.at h0))  hf
        · refine J_iload_n (q := 68) C0 2 rfl rfl dX12_readLantern_67 rfl ?_
          refine J_if_ne (t := 97) (q := 71) C0 dX12_readLantern_68 (by decide) rfl hf (fun c20 hf => ?_) (fun c20 hf => ?_)
          · refine J_sub (lv' := [(0, vr (some a0)), (1, vi (v1)), (3, vi (p9.1))]) [1, 2, 0] rfl ?_
            exact t_X12_readLantern_B97 C1  (f_X12_readLantern_L44 N a0 n)  ih  (v1) (p9.1) (p9.2) (Tp9) ((hE).tr Ep9) ((Ep9.at h0))  hf
          · refine J_iconst (q := 72) (v := 1) C0 dX12_readLantern_71 rfl rfl ?_
            refine J_istore_n (q := 73) (lv' := [(1, vi (1)), (3, vi (p9.1)), (0, vr (some a0)), (2, vi (v2))]) C0 rfl (G_nl C1 (by decide)) dX12_readLantern_72 rfl rfl ?_
            refine J_aload_n (q := 74) C0 2 rfl rfl dX12_readLantern_73 rfl trivial ?_
            refine J_dup (q := 75) C0 dX12_readLantern_74 rfl rfl ?_
            refine J_getI (q := 78) C0 fl_X12_103_11 rfl ((Ep9.at h0)) rfl dX12_readLantern_75 rfl ?_
            refine J_iconst (q := 79) (v := 1) C0 dX12_readLantern_78 rfl rfl ?_
            refine J_iadd (q := 80) C0 dX12_readLantern_79 rfl ?_
            refine J_putI (q := 83) C0 fl_X12_103_11 rfl ((Ep9.at h0)) rfl dX12_readLantern_80 rfl ?_
            refine J_aload_n (q := 84) C0 2 rfl rfl dX12_readLantern_83 rfl trivial ?_
            refine J_iload_n (q := 85) C0 1 rfl rfl dX12_readLantern_84 rfl ?_
            refine J_aload_n (q := 86) C0 2 rfl rfl dX12_readLantern_85 rfl trivial ?_
            refine J_getR (q := 89) C0 fl_X12_40_11 rfl (((Ep9.at h0)).putI) rfl dX12_readLantern_86 rfl ?_
            refine J_iconst (q := 90) (v := 0) C0 dX12_readLantern_89 rfl rfl ?_
            refine J_iconst (q := 91) (v := 3) C0 dX12_readLantern_90 rfl rfl ?_
            refine K_some hf (fun p21 hp21 hf => ?_)
            refine J_callV (q := 94) (ci := 11) (as := [vi (p9.1), vr (sg_R (put_I p9.2 a0 3 ((sg_I p9.2 a0 3) + (1))) a0 17), vi (0), vi (3)]) (rest := []) C0 rfl (((Ep9.at h0)).putI) (t_X12_items N a0 (p9.1) (sg_R (put_I p9.2 a0 3 ((sg_I p9.2 a0 3) + (1))) a0 17) (0) (3) ((Tp9).putI) (((Ep9.at h0)).putI) ((sg_T.op (Tp9).putI (j := 17) (((Ep9.at h0)).putI) rfl)) hp21) ml_X12_items lk_X12_232 im_X12_items se_X12_items rfl (by decide) dX12_readLantern_91 rfl rfl rfl (by simp [ac_]) C1.room (by decide) (by decide) (by decide) (by decide) (fun r_ τ_ hQ => ?_)
            obtain ⟨rfl, ht_, Tp21, Ep21⟩ := hQ; have ht_ := ht_.symm; subst ht_
            show J_ Γ 94 [(1, vi (1)), (3, vi (p9.1)), (0, vr (some a0)), (2, vi (v2))] [] p21 0 0
            refine J_goto (q := 154) C0 dX12_readLantern_94 (by decide) ?_
            refine J_sub (lv' := [(0, vr (some a0)), (1, vi (1))]) [2, 0] rfl ?_
            exact t_X12_readLantern_B154 C1  (f_X12_readLantern_L44 N a0 n)  ih  (1) (p21) (Tp21) ((((hE).tr Ep9).putI).tr Ep21) ((Ep21.at ((Ep9.at h0)).putI))  hf
set_option maxHeartbeats 4000000 in
set_option maxRecDepth 100000 in
theorem t_X12_readLantern_L19 {N : Nat} {a0 : Nat} {Γ : Gm} {σ0 : Sg} {r : (Int32 × Sg)} (C1 : CM Γ cX12_readLantern RX12 4 (some .int) 4 89 0 0 (fun r_ τ_ => (r_ = some (vi r.1)) ∧ τ_ = r.2 ∧ sg_T τ_ ∧ sg_E σ0 τ_)) : ∀ (n : Nat) (v1 : Int32) (v2 : Int32) (σ : Sg), sg_T σ → sg_E σ0 σ → is_A σ a0 11 → f_X12_readLantern_L19 N a0  n v1 v2 σ = some r → J_ Γ 19 [(0, vr (some a0)), (1, vi (v1)), (2, vi (v2))] [] σ 0 0 := by
  have C0 := C1.1
  intro n
  induction n with
  | zero => intro v1 v2 σ hT hE h0  hf; unfold f_X12_readLantern_L19 at hf; cases hf
  | succ n ih =>
    intro v1 v2 σ hT hE h0  hf
    rw [f_X12_readLantern_L19] at hf
    refine J_iload_n (q := 20) C0 2 rfl rfl dX12_readLantern_19 rfl ?_
    refine J_iconst (q := 21) (v := 3) C0 dX12_readLantern_20 rfl rfl ?_
    refine J_icmp_ge (t := 42) (q := 24) C0 dX12_readLantern_21 (by decide) rfl hf (fun c1 hf => ?_) (fun c1 hf => ?_)
    · refine J_iconst (q := 43) (v := 1) C0 dX12_readLantern_42 rfl rfl ?_
      refine J_istore_n (q := 44) (lv' := [(2, vi (1)), (0, vr (some a0)), (1, vi (v1))]) C0 rfl (G_nl C1 (by decide)) dX12_readLantern_43 rfl rfl ?_
      refine J_sub (lv' := [(0, vr (some a0)), (1, vi (v1)), (2, vi (1))]) [1, 2, 0] rfl ?_
      exact t_X12_readLantern_L44 C1    N (v1) (1) σ (hT) (hE) (h0)  hf
    · refine J_aload_n (q := 25) C0 0 rfl rfl dX12_readLantern_24 rfl trivial ?_
      refine J_getR (q := 28) C0 fl_X12_40_11 rfl (h0) rfl dX12_readLantern_25 rfl ?_
      refine J_iload_n (q := 29) C0 2 rfl rfl dX12_readLantern_28 rfl ?_
      refine J_bipush (q := 31) (v := 115) C0 dX12_readLantern_29 rfl rfl ?_
      refine J_iload_n (q := 32) C0 2 rfl rfl dX12_readLantern_31 rfl ?_
      refine K_some hf (fun p22 hp22 hf => ?_)
      refine J_callS (q := 35) (as := [vi (115), vi (v2)]) (rest := [vi (v2), vr (sg_R σ a0 17)]) C0 (t_X12_usual (115) (v2)  hp22) ml_X12_usual lk_X12_212 sm_X12_usual dX12_readLantern_32 rfl rfl rfl (by simp [ac_]) C1.room (by decide) (by decide) (by decide) (by decide) (fun r_ τ_ hQ => ?_)
      obtain ⟨rfl, ht_⟩ := hQ; have ht_ := ht_.symm; subst ht_
      show J_ Γ 35 [(0, vr (some a0)), (1, vi (v1)), (2, vi (v2))] [vi (p22), vi (v2), vr (sg_R σ a0 17)] σ 0 0
      refine K_some hf (fun b23 hb23 hf => ?_)
      have ab23 : is_A σ b23 12 := ((sg_T.op hT (j := 17) (h0) rfl)) b23 hb23
      refine K_chk hf (fun c24 hf => ?_)
      refine J_iast (q := 36) C0 hb23 (ab23) c24 dX12_readLantern_35 rfl ?_
      refine J_iinc (q := 39) (v := v2 + 1) (lv' := [(2, vi (v2 + 1)), (0, vr (some a0)), (1, vi (v1))]) C0 2 rfl rfl (G_nl C1 (by decide)) dX12_readLantern_36 rfl rfl ?_
      refine J_goto (q := 19) C0 dX12_readLantern_39 (by decide) ?_
      refine J_sub (lv' := [(0, vr (some a0)), (1, vi (v1)), (2, vi (v2 + 1))]) [1, 2, 0] rfl ?_
      exact ih (v1) (v2 + 1) (put_I σ b23 (v2).toNatClampNeg (p22)) ((hT).putI) ((hE).putI) ((h0).putI)  hf
set_option maxHeartbeats 4000000 in
set_option maxRecDepth 100000 in
theorem t_X12_readLantern (N : Nat) (a0 : Nat) {σ : Sg} (hT : sg_T σ) (h0 : is_A σ a0 11) {r : (Int32 × Sg)} (hf : f_X12_readLantern N a0  σ = some r) : Ct yX12_readLantern cX12_readLantern 4 (some .int) 4 89 0 0 [vr (some a0)] σ (fun r_ τ_ => (r_ = some (vi r.1)) ∧ τ_ = r.2 ∧ sg_T τ_ ∧ sg_E σ τ_) := by
  refine Ct.of (by decide +kernel) (Nat.le_of_ble_eq_true rfl) (fun Γ C1 => ?_)
  have C0 := C1.1
  have hE : sg_E σ σ := sg_E.rf
  unfold f_X12_readLantern at hf
  show J_ Γ 0 [(0, vr (some a0))] [] σ 0 0
  refine J_aload_n (q := 1) C0 0 rfl rfl dX12_readLantern_0 rfl trivial ?_
  refine J_iconst (q := 2) (v := 0) C0 dX12_readLantern_1 rfl rfl ?_
  refine J_putI (q := 5) C0 fl_X12_103_11 rfl (h0) rfl dX12_readLantern_2 rfl ?_
  refine J_aload_n (q := 6) C0 0 rfl rfl dX12_readLantern_5 rfl trivial ?_
  refine J_iconst (q := 7) (v := (-1)) C0 dX12_readLantern_6 rfl rfl ?_
  refine J_putI (q := 10) C0 fl_X12_110_11 rfl ((h0).putI) rfl dX12_readLantern_7 rfl ?_
  refine J_aload_n (q := 11) C0 0 rfl rfl dX12_readLantern_10 rfl trivial ?_
  refine J_iconst (q := 12) (v := 0) C0 dX12_readLantern_11 rfl rfl ?_
  refine J_putI (q := 15) C0 fl_X12_229_11 rfl (((h0).putI).putI) rfl dX12_readLantern_12 rfl ?_
  refine J_iconst (q := 16) (v := 0) C0 dX12_readLantern_15 rfl rfl ?_
  refine J_istore_n (q := 17) (lv' := [(1, vi (0)), (0, vr (some a0))]) C0 rfl (G_nl C1 (by decide)) dX12_readLantern_16 rfl rfl ?_
  refine J_iconst (q := 18) (v := 0) C0 dX12_readLantern_17 rfl rfl ?_
  refine J_istore_n (q := 19) (lv' := [(2, vi (0)), (1, vi (0)), (0, vr (some a0))]) C0 rfl (G_nl C1 (by decide)) dX12_readLantern_18 rfl rfl ?_
  refine J_sub (lv' := [(0, vr (some a0)), (1, vi (0)), (2, vi (0))]) [2, 1, 0] rfl ?_
  exact t_X12_readLantern_L19 C1    N (0) (0) (put_I (put_I (put_I σ a0 3 (0)) a0 4 ((-1))) a0 19 (0)) ((((hT).putI).putI).putI) ((((hE).putI).putI).putI) ((((h0).putI).putI).putI)  hf
def f_X12_isPicture_B12 (v0 : Int32) : Option Int32 :=
  if (v0) = (46) then
  (some (1))
  else
  (some (0))
def f_X12_isPicture (x0 : Int32) : Option Int32 :=
  if (x0) < (97) then
  (f_X12_isPicture_B12 (x0) )
  else
  (if (122) < (x0) then
  (f_X12_isPicture_B12 (x0) )
  else
  (some (1)))
set_option maxHeartbeats 4000000 in
set_option maxRecDepth 100000 in
theorem t_X12_isPicture_B12 {Γ : Gm} {σ : Sg} {r : Int32} (C1 : CM Γ cX12_isPicture RX12 1 (some .boolean) 0 0 0 0 (fun r_ τ_ => (r_ = some (vi r) ∧ (r = 0 ∨ r = 1)) ∧ τ_ = σ)) (v0 : Int32) (hf : f_X12_isPicture_B12  v0 = some r) : J_ Γ 12 [(0, vi (v0))] [] σ 0 0 := by
  have C0 := C1.1
  unfold f_X12_isPicture_B12 at hf
  refine J_iload_n (q := 13) C0 0 rfl rfl dX12_isPicture_12 rfl ?_
  refine J_bipush (q := 15) (v := 46) C0 dX12_isPicture_13 rfl rfl ?_
  refine J_icmp_ne (t := 22) (q := 18) C0 dX12_isPicture_15 (by decide) rfl hf (fun c2 hf => ?_) (fun c2 hf => ?_)
  · refine J_iconst (q := 23) (v := 0) C0 dX12_isPicture_22 rfl rfl ?_
    obtain rfl := Option.some.inj hf; exact J_zret C1 dX12_isPicture_23 rfl (Or.inl rfl) (Nat.zero_le _) (Nat.zero_le _) ⟨⟨rfl, (Or.inl rfl)⟩, rfl⟩
  · refine J_iconst (q := 19) (v := 1) C0 dX12_isPicture_18 rfl rfl ?_
    refine J_goto (q := 23) C0 dX12_isPicture_19 (by decide) ?_
    obtain rfl := Option.some.inj hf; exact J_zret C1 dX12_isPicture_23 rfl (Or.inr rfl) (Nat.zero_le _) (Nat.zero_le _) ⟨⟨rfl, (Or.inr rfl)⟩, rfl⟩
set_option maxHeartbeats 4000000 in
set_option maxRecDepth 100000 in
theorem t_X12_isPicture (x0 : Int32) {σ : Sg} {r : Int32} (hf : f_X12_isPicture x0 = some r) : Ct yX12_isPicture cX12_isPicture 1 (some .boolean) 0 0 0 0 [vi x0] σ (fun r_ τ_ => (r_ = some (vi r) ∧ (r = 0 ∨ r = 1)) ∧ τ_ = σ) := by
  refine Ct.of (by decide +kernel) (Nat.le_of_ble_eq_true rfl) (fun Γ C1 => ?_)
  have C0 := C1.1
  unfold f_X12_isPicture at hf
  show J_ Γ 0 [(0, vi (x0))] [] σ 0 0
  refine J_iload_n (q := 1) C0 0 rfl rfl dX12_isPicture_0 rfl ?_
  refine J_bipush (q := 3) (v := 97) C0 dX12_isPicture_1 rfl rfl ?_
  refine J_icmp_lt (t := 12) (q := 6) C0 dX12_isPicture_3 (by decide) rfl hf (fun c1 hf => ?_) (fun c1 hf => ?_)
  · exact t_X12_isPicture_B12 C1   (x0)  hf
  · refine J_iload_n (q := 7) C0 0 rfl rfl dX12_isPicture_6 rfl ?_
    refine J_bipush (q := 9) (v := 122) C0 dX12_isPicture_7 rfl rfl ?_
    refine J_icmp_le (t := 18) (q := 12) C0 dX12_isPicture_9 (by decide) rfl hf (fun c3 hf => ?_) (fun c3 hf => ?_)
    · refine J_iconst (q := 19) (v := 1) C0 dX12_isPicture_18 rfl rfl ?_
      refine J_goto (q := 23) C0 dX12_isPicture_19 (by decide) ?_
      obtain rfl := Option.some.inj hf; exact J_zret C1 dX12_isPicture_23 rfl (Or.inr rfl) (Nat.zero_le _) (Nat.zero_le _) ⟨⟨rfl, (Or.inr rfl)⟩, rfl⟩
    · exact t_X12_isPicture_B12 C1   (x0)  hf
def f_X12_readPicture_B30 (N : Nat) (a0 : Nat) (σ : Sg) : Option Sg :=
  Option.bind (f_X12_bad a0  σ) fun p3 =>
  some (p3)
def f_X12_readPicture_B74 (N : Nat) (a0 : Nat) (k38 : Int32 → Int32 → Int32 → Int32 → Sg → Option Sg) (v1 : Int32) (v2 : Int32) (v3 : Int32) (v4 : Int32) (s0 : Int32) (s1 : Int32) (s2 : Option Nat) (σ : Sg) : Option Sg :=
  Option.bind (s2) fun b13 =>
  if (s1) < 0 ∨ sg_L σ b13 ≤ (s1).toNatClampNeg then none else
  Option.bind (sg_R (put_I σ b13 (s1).toNatClampNeg (s0)) a0 22) fun b15 =>
  if (v1) < 0 ∨ sg_L (put_I σ b13 (s1).toNatClampNeg (s0)) b15 ≤ (v1).toNatClampNeg then none else
  if (v1) < 0 ∨ sg_L (put_I σ b13 (s1).toNatClampNeg (s0)) b15 ≤ (v1).toNatClampNeg then none else
  k38 (v1) (v2) (v3) (v4 + 1) (put_I (put_I σ b13 (s1).toNatClampNeg (s0)) b15 (v1).toNatClampNeg ((sg_I (put_I σ b13 (s1).toNatClampNeg (s0)) b15 (v1).toNatClampNeg) + (1)))
def f_X12_readPicture_L38 (N : Nat) (a0 : Nat) : Nat → Int32 → Int32 → Int32 → Int32 → Sg → Option Sg
  | 0, _, _, _, _, _ => none
  | n + 1, v1, v2, v3, v4, σ =>
  if (v4) < (v2) then
  (Option.bind (sg_R σ a0 22) fun b10 =>
  if (v1) < 0 ∨ sg_L σ b10 ≤ (v1).toNatClampNeg then none else
  if (v3) = (46) then
  (f_X12_readPicture_B74 N a0 (f_X12_readPicture_L38 N a0 n) (v1) (v2) (v3) (v4) (26) (((16) * (v1)) + (sg_I σ b10 (v1).toNatClampNeg)) (sg_R σ a0 21) σ)
  else
  (f_X12_readPicture_B74 N a0 (f_X12_readPicture_L38 N a0 n) (v1) (v2) (v3) (v4) ((v3) - (97)) (((16) * (v1)) + (sg_I σ b10 (v1).toNatClampNeg)) (sg_R σ a0 21) σ))
  else
  (some (put_I σ a0 3 ((sg_I σ a0 3) + (1))))
def f_X12_readPicture (N : Nat) (a0 : Nat) (x1 : Int32) (x2 : Int32) (σ : Sg) : Option Sg :=
  Option.bind (f_X12_look N a0  σ) fun p1 =>
  if (p1.1) = ((-1)) then
  (f_X12_readPicture_B30 N a0  (p1.2))
  else
  (Option.bind (f_X12_isPicture (p1.1) ) fun p4 =>
  if (p4) = (0) then
  (f_X12_readPicture_B30 N a0  (p1.2))
  else
  (Option.bind (sg_R p1.2 a0 22) fun b6 =>
  if (x1) < 0 ∨ sg_L p1.2 b6 ≤ (x1).toNatClampNeg then none else
  if (16) < ((sg_I p1.2 b6 (x1).toNatClampNeg) + (x2)) then
  (f_X12_readPicture_B30 N a0  (p1.2))
  else
  (f_X12_readPicture_L38 N a0 N (x1) (x2) (p1.1) (0) (p1.2))))
set_option maxHeartbeats 4000000 in
set_option maxRecDepth 100000 in
theorem t_X12_readPicture_B30 {N : Nat} {a0 : Nat} {Γ : Gm} {σ0 : Sg} {r : Sg} (C1 : CM Γ cX12_readPicture RX12 5 none 2 40 0 0 (fun r_ τ_ => (r_ = none) ∧ τ_ = r ∧ sg_T τ_ ∧ sg_E σ0 τ_)) (σ : Sg) (hT : sg_T σ) (hE : sg_E σ0 σ) (h0 : is_A σ a0 11) (hf : f_X12_readPicture_B30 N a0   σ = some r) : J_ Γ 30 [(0, vr (some a0))] [] σ 0 0 := by
  have C0 := C1.1
  unfold f_X12_readPicture_B30 at hf
  refine J_aload_n (q := 31) C0 0 rfl rfl dX12_readPicture_30 rfl trivial ?_
  refine K_some hf (fun p3 hp3 hf => ?_)
  refine J_callV (q := 34) (ci := 11) (as := []) (rest := []) C0 rfl (h0) (t_X12_bad a0  (hT) (h0)  hp3) ml_X12_bad lk_X12_119 im_X12_bad se_X12_bad rfl (by decide) dX12_readPicture_31 rfl rfl rfl (by simp [ac_]) C1.room (by decide) (by decide) (by decide) (by decide) (fun r_ τ_ hQ => ?_)
  obtain ⟨rfl, ht_, Tp3, Ep3⟩ := hQ; have ht_ := ht_.symm; subst ht_
  show J_ Γ 34 [(0, vr (some a0))] [] p3 0 0
  obtain rfl := Option.some.inj hf; exact J_vret C1 dX12_readPicture_34 rfl (Nat.zero_le _) (Nat.zero_le _) ⟨rfl, rfl, Tp3, (hE).tr Ep3⟩
set_option maxHeartbeats 4000000 in
set_option maxRecDepth 100000 in
theorem t_X12_readPicture_B74 {N : Nat} {a0 : Nat} {Γ : Gm} {σ0 : Sg} {r : Sg} (C1 : CM Γ cX12_readPicture RX12 5 none 2 40 0 0 (fun r_ τ_ => (r_ = none) ∧ τ_ = r ∧ sg_T τ_ ∧ sg_E σ0 τ_)) (k38 : Int32 → Int32 → Int32 → Int32 → Sg → Option Sg) (hk38 : ∀ (v1 : Int32) (v2 : Int32) (v3 : Int32) (v4 : Int32) (σ : Sg), sg_T σ → sg_E σ0 σ → is_A σ a0 11 → k38 v1 v2 v3 v4 σ = some r → J_ Γ 38 [(0, vr (some a0)), (1, vi v1), (2, vi v2), (3, vi v3), (4, vi v4)] [] σ 0 0) (v1 : Int32) (v2 : Int32) (v3 : Int32) (v4 : Int32) (s0 : Int32) (s1 : Int32) (s2 : Option Nat) (σ : Sg) (hT : sg_T σ) (hE : sg_E σ0 σ) (h0 : is_A σ a0 11) (g_s2 : is_O σ s2 12) (hf : f_X12_readPicture_B74 N a0 k38  v1 v2 v3 v4 s0 s1 s2 σ = some r) : J_ Γ 74 [(0, vr (some a0)), (1, vi (v1)), (2, vi (v2)), (3, vi (v3)), (4, vi (v4))] [vi (s0), vi (s1), vr (s2)] σ 0 0 := by
  have C0 := C1.1
  unfold f_X12_readPicture_B74 at hf
  refine K_some hf (fun b13 hb13 hf => ?_)
  have ab13 : is_A σ b13 12 := (g_s2) b13 hb13
  refine K_chk hf (fun c14 hf => ?_)
  refine J_iast (q := 75) C0 hb13 (ab13) c14 dX12_readPicture_74 rfl ?_
  refine J_aload_n (q := 76) C0 0 rfl rfl dX12_readPicture_75 rfl trivial ?_
  refine J_getR (q := 79) C0 fl_X12_49_11 rfl ((h0).putI) rfl dX12_readPicture_76 rfl ?_
  refine J_iload_n (q := 80) C0 1 rfl rfl dX12_readPicture_79 rfl ?_
  refine J_dup2 (q := 81) C0 dX12_readPicture_80 rfl rfl rfl ?_
  refine K_some hf (fun b15 hb15 hf => ?_)
  have ab15 : is_A (put_I σ b13 (s1).toNatClampNeg (s0)) b15 12 := ((sg_T.op (hT).putI (j := 22) ((h0).putI) rfl)) b15 hb15
  refine K_chk hf (fun c16 hf => ?_)
  refine J_iald (q := 82) C0 hb15 (ab15) c16 dX12_readPicture_81 rfl ?_
  refine J_iconst (q := 83) (v := 1) C0 dX12_readPicture_82 rfl rfl ?_
  refine J_iadd (q := 84) C0 dX12_readPicture_83 rfl ?_
  refine K_chk hf (fun c17 hf => ?_)
  refine J_iast (q := 85) C0 hb15 (ab15) c17 dX12_readPicture_84 rfl ?_
  refine J_iinc (q := 88) (v := v4 + 1) (lv' := [(4, vi (v4 + 1)), (0, vr (some a0)), (1, vi (v1)), (2, vi (v2)), (3, vi (v3))]) C0 4 rfl rfl (G_nl C1 (by decide)) dX12_readPicture_85 rfl rfl ?_
  refine J_goto (q := 38) C0 dX12_readPicture_88 (by decide) ?_
  refine J_sub (lv' := [(0, vr (some a0)), (1, vi (v1)), (2, vi (v2)), (3, vi (v3)), (4, vi (v4 + 1))]) [1, 2, 3, 4, 0] rfl ?_
  exact hk38 (v1) (v2) (v3) (v4 + 1) (put_I (put_I σ b13 (s1).toNatClampNeg (s0)) b15 (v1).toNatClampNeg ((sg_I (put_I σ b13 (s1).toNatClampNeg (s0)) b15 (v1).toNatClampNeg) + (1))) (((hT).putI).putI) (((hE).putI).putI)  (((h0).putI).putI)  hf
set_option maxHeartbeats 4000000 in
set_option maxRecDepth 100000 in
theorem t_X12_readPicture_L38 {N : Nat} {a0 : Nat} {Γ : Gm} {σ0 : Sg} {r : Sg} (C1 : CM Γ cX12_readPicture RX12 5 none 2 40 0 0 (fun r_ τ_ => (r_ = none) ∧ τ_ = r ∧ sg_T τ_ ∧ sg_E σ0 τ_)) : ∀ (n : Nat) (v1 : Int32) (v2 : Int32) (v3 : Int32) (v4 : Int32) (σ : Sg), sg_T σ → sg_E σ0 σ → is_A σ a0 11 → f_X12_readPicture_L38 N a0  n v1 v2 v3 v4 σ = some r → J_ Γ 38 [(0, vr (some a0)), (1, vi (v1)), (2, vi (v2)), (3, vi (v3)), (4, vi (v4))] [] σ 0 0 := by
  have C0 := C1.1
  intro n
  induction n with
  | zero => intro v1 v2 v3 v4 σ hT hE h0  hf; unfold f_X12_readPicture_L38 at hf; cases hf
  | succ n ih =>
    intro v1 v2 v3 v4 σ hT hE h0  hf
    rw [f_X12_readPicture_L38] at hf
    refine J_iload (q := 40) C0 4 rfl dX12_readPicture_38 rfl ?_
    refine J_iload_n (q := 41) C0 2 rfl rfl dX12_readPicture_40 rfl ?_
    refine J_icmp_ge (t := 91) (q := 44) C0 dX12_readPicture_41 (by decide) rfl hf (fun c9 hf => ?_) (fun c9 hf => ?_)
    · refine J_aload_n (q := 92) C0 0 rfl rfl dX12_readPicture_91 rfl trivial ?_
      refine J_dup (q := 93) C0 dX12_readPicture_92 rfl rfl ?_
      refine J_getI (q := 96) C0 fl_X12_103_11 rfl (h0) rfl dX12_readPicture_93 rfl ?_
      refine J_iconst (q := 97) (v := 1) C0 dX12_readPicture_96 rfl rfl ?_
      refine J_iadd (q := 98) C0 dX12_readPicture_97 rfl ?_
      refine J_putI (q := 101) C0 fl_X12_103_11 rfl (h0) rfl dX12_readPicture_98 rfl ?_
      obtain rfl := Option.some.inj hf; exact J_vret C1 dX12_readPicture_101 rfl (Nat.zero_le _) (Nat.zero_le _) ⟨rfl, rfl, (hT).putI, (hE).putI⟩
    · refine J_aload_n (q := 45) C0 0 rfl rfl dX12_readPicture_44 rfl trivial ?_
      refine J_getR (q := 48) C0 fl_X12_46_11 rfl (h0) rfl dX12_readPicture_45 rfl ?_
      refine J_bipush (q := 50) (v := 16) C0 dX12_readPicture_48 rfl rfl ?_
      refine J_iload_n (q := 51) C0 1 rfl rfl dX12_readPicture_50 rfl ?_
      refine J_imul (q := 52) C0 dX12_readPicture_51 rfl ?_
      refine J_aload_n (q := 53) C0 0 rfl rfl dX12_readPicture_52 rfl trivial ?_
      refine J_getR (q := 56) C0 fl_X12_49_11 rfl (h0) rfl dX12_readPicture_53 rfl ?_
      refine J_iload_n (q := 57) C0 1 rfl rfl dX12_readPicture_56 rfl ?_
      refine K_some hf (fun b10 hb10 hf => ?_)
      have ab10 : is_A σ b10 12 := ((sg_T.op hT (j := 22) (h0) rfl)) b10 hb10
      refine K_chk hf (fun c11 hf => ?_)
      refine J_iald (q := 58) C0 hb10 (ab10) c11 dX12_readPicture_57 rfl ?_
      refine J_iadd (q := 59) C0 dX12_readPicture_58 rfl ?_
      refine J_iload_n (q := 60) C0 3 rfl rfl dX12_readPicture_59 rfl ?_
      refine J_bipush (q := 62) (v := 46) C0 dX12_readPicture_60 rfl rfl ?_
      refine J_icmp_ne (t := 70) (q := 65) C0 dX12_readPicture_62 (by decide) rfl hf (fun c12 hf => ?_) (fun c12 hf => ?_)
      · refine J_iload_n (q := 71) C0 3 rfl rfl dX12_readPicture_70 rfl ?_
        refine J_bipush (q := 73) (v := 97) C0 dX12_readPicture_71 rfl rfl ?_
        refine J_isub (q := 74) C0 dX12_readPicture_73 rfl ?_
        exact t_X12_readPicture_B74 C1  (f_X12_readPicture_L38 N a0 n)  ih  (v1) (v2) (v3) (v4) ((v3) - (97)) (((16) * (v1)) + (sg_I σ b10 (v1).toNatClampNeg)) (sg_R σ a0 21) σ (hT) (hE) (h0) ((sg_T.op hT (j := 21) (h0) rfl)) hf
      · refine J_bipush (q := 67) (v := 26) C0 dX12_readPicture_65 rfl rfl ?_
        refine J_goto (q := 74) C0 dX12_readPicture_67 (by decide) ?_
        exact t_X12_readPicture_B74 C1  (f_X12_readPicture_L38 N a0 n)  ih  (v1) (v2) (v3) (v4) (26) (((16) * (v1)) + (sg_I σ b10 (v1).toNatClampNeg)) (sg_R σ a0 21) σ (hT) (hE) (h0) ((sg_T.op hT (j := 21) (h0) rfl)) hf
set_option maxHeartbeats 4000000 in
set_option maxRecDepth 100000 in
theorem t_X12_readPicture (N : Nat) (a0 : Nat) (x1 : Int32) (x2 : Int32) {σ : Sg} (hT : sg_T σ) (h0 : is_A σ a0 11) {r : Sg} (hf : f_X12_readPicture N a0 x1 x2 σ = some r) : Ct yX12_readPicture cX12_readPicture 5 none 2 40 0 0 [vr (some a0), vi x1, vi x2] σ (fun r_ τ_ => (r_ = none) ∧ τ_ = r ∧ sg_T τ_ ∧ sg_E σ τ_) := by
  refine Ct.of (by decide +kernel) (Nat.le_of_ble_eq_true rfl) (fun Γ C1 => ?_)
  have C0 := C1.1
  have hE : sg_E σ σ := sg_E.rf
  unfold f_X12_readPicture at hf
  show J_ Γ 0 [(0, vr (some a0)), (1, vi (x1)), (2, vi (x2))] [] σ 0 0
  refine J_aload_n (q := 1) C0 0 rfl rfl dX12_readPicture_0 rfl trivial ?_
  refine K_some hf (fun p1 hp1 hf => ?_)
  refine J_callV (q := 4) (ci := 11) (as := []) (rest := []) C0 rfl (h0) (t_X12_look N a0  (hT) (h0)  hp1) ml_X12_look lk_X12_122 im_X12_look se_X12_look rfl (by decide) dX12_readPicture_1 rfl rfl rfl (by simp [ac_]) C1.room (by decide) (by decide) (by decide) (by decide) (fun r_ τ_ hQ => ?_)
  obtain ⟨rfl, rfl, Tp1, Ep1⟩ := hQ
  show J_ Γ 4 [(0, vr (some a0)), (1, vi (x1)), (2, vi (x2))] [vi (p1.1)] p1.2 0 0
  refine J_istore_n (q := 5) (lv' := [(3, vi (p1.1)), (0, vr (some a0)), (1, vi (x1)), (2, vi (x2))]) C0 rfl (G_nl C1 (by decide)) dX12_readPicture_4 rfl rfl ?_
  refine J_iload_n (q := 6) C0 0 rfl rfl dX12_readPicture_5 rfl ?_
  refine J_iconst (q := 7) (v := (-1)) C0 dX12_readPicture_6 rfl rfl ?_
  refine J_icmp_eq (t := 30) (q := 10) C0 dX12_readPicture_7 (by decide) rfl hf (fun c2 hf => ?_) (fun c2 hf => ?_)
  · refine J_sub (lv' := [(0, vr (some a0))]) [1] rfl ?_
    exact t_X12_readPicture_B30 C1     (p1.2) (Tp1) ((hE).tr Ep1) ((Ep1.at h0))  hf
  · refine J_iload_n (q := 11) C0 0 rfl rfl dX12_readPicture_10 rfl ?_
    refine K_some hf (fun p4 hp4 hf => ?_)
    refine J_callS (q := 14) (as := [vi (p1.1)]) (rest := []) C0 (t_X12_isPicture (p1.1)  hp4) ml_X12_isPicture lk_X12_236 sm_X12_isPicture dX12_readPicture_11 rfl rfl rfl (by simp [ac_]) C1.room (by decide) (by decide) (by decide) (by decide) (fun r_ τ_ hQ => ?_)
    obtain ⟨⟨rfl, zp4⟩, ht_⟩ := hQ; have ht_ := ht_.symm; subst ht_
    show J_ Γ 14 [(3, vi (p1.1)), (0, vr (some a0)), (1, vi (x1)), (2, vi (x2))] [vi (p4)] p1.2 0 0
    refine J_if_eq (t := 30) (q := 17) C0 dX12_readPicture_14 (by decide) rfl hf (fun c5 hf => ?_) (fun c5 hf => ?_)
    · refine J_sub (lv' := [(0, vr (some a0))]) [1] rfl ?_
      exact t_X12_readPicture_B30 C1     (p1.2) (Tp1) ((hE).tr Ep1) ((Ep1.at h0))  hf
    · refine J_aload_n (q := 18) C0 1 rfl rfl dX12_readPicture_17 rfl trivial ?_
      refine J_getR (q := 21) C0 fl_X12_49_11 rfl ((Ep1.at h0)) rfl dX12_readPicture_18 rfl ?_
      refine J_iload_n (q := 22) C0 2 rfl rfl dX12_readPicture_21 rfl ?_
      refine K_some hf (fun b6 hb6 hf => ?_)
      have ab6 : is_A p1.2 b6 12 := ((sg_T.op Tp1 (j := 22) ((Ep1.at h0)) rfl)) b6 hb6
      refine K_chk hf (fun c7 hf => ?_)
      refine J_iald (q := 23) C0 hb6 (ab6) c7 dX12_readPicture_22 rfl ?_
      refine J_iload_n (q := 24) C0 3 rfl rfl dX12_readPicture_23 rfl ?_
      refine J_iadd (q := 25) C0 dX12_readPicture_24 rfl ?_
      refine J_bipush (q := 27) (v := 16) C0 dX12_readPicture_25 rfl rfl ?_
      refine J_icmp_le (t := 35) (q := 30) C0 dX12_readPicture_27 (by decide) rfl hf (fun c8 hf => ?_) (fun c8 hf => ?_)
      · refine J_iconst (q := 36) (v := 0) C0 dX12_readPicture_35 rfl rfl ?_
        refine J_istore (q := 38) (lv' := [(4, vi (0)), (3, vi (p1.1)), (0, vr (some a0)), (1, vi (x1)), (2, vi (x2))]) C0 (G_nl C1 (by decide)) dX12_readPicture_36 rfl rfl ?_
        refine J_sub (lv' := [(0, vr (some a0)), (1, vi (x1)), (2, vi (x2)), (3, vi (p1.1)), (4, vi (0))]) [2, 3, 4, 1, 0] rfl ?_
        exact t_X12_readPicture_L38 C1    N (x1) (x2) (p1.1) (0) (p1.2) (Tp1) ((hE).tr Ep1) ((Ep1.at h0))  hf
      · refine J_sub (lv' := [(0, vr (some a0))]) [1] rfl ?_
        exact t_X12_readPicture_B30 C1     (p1.2) (Tp1) ((hE).tr Ep1) ((Ep1.at h0))  hf
def f_X12_readStrip_B103 (N : Nat) (a0 : Nat) (σ : Sg) : Option (Int32 × Sg) :=
  some (sg_I σ a0 4, σ)
def f_X12_readStrip_B82 (N : Nat) (a0 : Nat) (v1 : Int32) (σ : Sg) : Option (Int32 × Sg) :=
  if (sg_I σ a0 4) = ((-1)) then
  (Option.bind (sg_R σ a0 22) fun b5 =>
  if (v1) < 0 ∨ sg_L σ b5 ≤ (v1).toNatClampNeg then none else
  if (sg_I σ b5 (v1).toNatClampNeg) = (0) then
  (Option.bind (f_X12_bad a0  σ) fun p8 =>
  f_X12_readStrip_B103 N a0  (p8))
  else
  (f_X12_readStrip_B103 N a0  σ))
  else
  (f_X12_readStrip_B103 N a0  σ)
def f_X12_readStrip_B79 (N : Nat) (a0 : Nat) (k17 : Int32 → Sg → Option (Int32 × Sg)) (v1 : Int32) (σ : Sg) : Option (Int32 × Sg) :=
  k17 (v1) σ
def f_X12_readStrip_B73 (N : Nat) (a0 : Nat) (k17 : Int32 → Sg → Option (Int32 × Sg)) (v1 : Int32) (σ : Sg) : Option (Int32 × Sg) :=
  Option.bind (f_X12_readPicture N a0 (v1) (1) σ) fun p14 =>
  f_X12_readStrip_B79 N a0 k17 (v1) (p14)
def f_X12_readStrip_L17 (N : Nat) (a0 : Nat) : Nat → Int32 → Sg → Option (Int32 × Sg)
  | 0, _, _ => none
  | n + 1, v1, σ =>
  if (sg_I σ a0 4) = ((-1)) then
  (Option.bind (f_X12_look N a0  σ) fun p9 =>
  if (p9.1) = ((-1)) then
  (f_X12_readStrip_B82 N a0 (v1) (p9.2))
  else
  (Option.bind (f_X12_look N a0  p9.2) fun p11 =>
  Option.bind (f_X12_isDigit (p11.1) ) fun p12 =>
  if (p12) = (0) then
  (f_X12_readStrip_B73 N a0 (f_X12_readStrip_L17 N a0 n) (v1) (p11.2))
  else
  (if (p11.1) < (50) then
  (f_X12_readStrip_B73 N a0 (f_X12_readStrip_L17 N a0 n) (v1) (p11.2))
  else
  (Option.bind (f_X12_readPicture N a0 (v1) ((p11.1) - (48)) (put_I p11.2 a0 3 ((sg_I p11.2 a0 3) + (1)))) fun p16 =>
  f_X12_readStrip_B79 N a0 (f_X12_readStrip_L17 N a0 n) (v1) (p16)))))
  else
  (f_X12_readStrip_B82 N a0 (v1) σ)
def f_X12_readStrip (N : Nat) (a0 : Nat) (x1 : Int32) (σ : Sg) : Option (Int32 × Sg) :=
  Option.bind (sg_R (put_I (put_I σ a0 3 (0)) a0 4 ((-1))) a0 22) fun b1 =>
  if (x1) < 0 ∨ sg_L (put_I (put_I σ a0 3 (0)) a0 4 ((-1))) b1 ≤ (x1).toNatClampNeg then none else
  f_X12_readStrip_L17 N a0 N (x1) (put_I (put_I (put_I σ a0 3 (0)) a0 4 ((-1))) b1 (x1).toNatClampNeg (0))
set_option maxHeartbeats 4000000 in
set_option maxRecDepth 100000 in
theorem t_X12_readStrip_B103 {N : Nat} {a0 : Nat} {Γ : Gm} {σ0 : Sg} {r : (Int32 × Sg)} (C1 : CM Γ cX12_readStrip RX12 3 (some .int) 3 64 0 0 (fun r_ τ_ => (r_ = some (vi r.1)) ∧ τ_ = r.2 ∧ sg_T τ_ ∧ sg_E σ0 τ_)) (σ : Sg) (hT : sg_T σ) (hE : sg_E σ0 σ) (h0 : is_A σ a0 11) (hf : f_X12_readStrip_B103 N a0   σ = some r) : J_ Γ 103 [(0, vr (some a0))] [] σ 0 0 := by
  have C0 := C1.1
  unfold f_X12_readStrip_B103 at hf
  refine J_aload_n (q := 104) C0 0 rfl rfl dX12_readStrip_103 rfl trivial ?_
  refine J_getI (q := 107) C0 fl_X12_110_11 rfl (h0) rfl dX12_readStrip_104 rfl ?_
  obtain rfl := Option.some.inj hf; exact J_iret C1 dX12_readStrip_107 rfl (Nat.zero_le _) (Nat.zero_le _) ⟨rfl, rfl, hT, hE⟩
set_option maxHeartbeats 4000000 in
set_option maxRecDepth 100000 in
theorem t_X12_readStrip_B82 {N : Nat} {a0 : Nat} {Γ : Gm} {σ0 : Sg} {r : (Int32 × Sg)} (C1 : CM Γ cX12_readStrip RX12 3 (some .int) 3 64 0 0 (fun r_ τ_ => (r_ = some (vi r.1)) ∧ τ_ = r.2 ∧ sg_T τ_ ∧ sg_E σ0 τ_)) (v1 : Int32) (σ : Sg) (hT : sg_T σ) (hE : sg_E σ0 σ) (h0 : is_A σ a0 11) (hf : f_X12_readStrip_B82 N a0  v1 σ = some r) : J_ Γ 82 [(0, vr (some a0)), (1, vi (v1))] [] σ 0 0 := by
  have C0 := C1.1
  unfold f_X12_readStrip_B82 at hf
  refine J_aload_n (q := 83) C0 0 rfl rfl dX12_readStrip_82 rfl trivial ?_
  refine J_getI (q := 86) C0 fl_X12_110_11 rfl (h0) rfl dX12_readStrip_83 rfl ?_
  refine J_iconst (q := 87) (v := (-1)) C0 dX12_readStrip_86 rfl rfl ?_
  refine J_icmp_ne (t := 103) (q := 90) C0 dX12_readStrip_87 (by decide) rfl hf (fun c4 hf => ?_) (fun c4 hf => ?_)
  · refine J_sub (lv' := [(0, vr (some a0))]) [0] rfl ?_
    exact t_X12_readStrip_B103 C1     σ (hT) (hE) (h0)  hf
  · refine J_aload_n (q := 91) C0 0 rfl rfl dX12_readStrip_90 rfl trivial ?_
    refine J_getR (q := 94) C0 fl_X12_49_11 rfl (h0) rfl dX12_readStrip_91 rfl ?_
    refine J_iload_n (q := 95) C0 1 rfl rfl dX12_readStrip_94 rfl ?_
    refine K_some hf (fun b5 hb5 hf => ?_)
    have ab5 : is_A σ b5 12 := ((sg_T.op hT (j := 22) (h0) rfl)) b5 hb5
    refine K_chk hf (fun c6 hf => ?_)
    refine J_iald (q := 96) C0 hb5 (ab5) c6 dX12_readStrip_95 rfl ?_
    refine J_if_ne (t := 103) (q := 99) C0 dX12_readStrip_96 (by decide) rfl hf (fun c7 hf => ?_) (fun c7 hf => ?_)
    · refine J_sub (lv' := [(0, vr (some a0))]) [0] rfl ?_
      exact t_X12_readStrip_B103 C1     σ (hT) (hE) (h0)  hf
    · refine J_aload_n (q := 100) C0 0 rfl rfl dX12_readStrip_99 rfl trivial ?_
      refine K_some hf (fun p8 hp8 hf => ?_)
      refine J_callV (q := 103) (ci := 11) (as := []) (rest := []) C0 rfl (h0) (t_X12_bad a0  (hT) (h0)  hp8) ml_X12_bad lk_X12_119 im_X12_bad se_X12_bad rfl (by decide) dX12_readStrip_100 rfl rfl rfl (by simp [ac_]) C1.room (by decide) (by decide) (by decide) (by decide) (fun r_ τ_ hQ => ?_)
      obtain ⟨rfl, ht_, Tp8, Ep8⟩ := hQ; have ht_ := ht_.symm; subst ht_
      show J_ Γ 103 [(0, vr (some a0)), (1, vi (v1))] [] p8 0 0
      refine J_sub (lv' := [(0, vr (some a0))]) [0] rfl ?_
      exact t_X12_readStrip_B103 C1     (p8) (Tp8) ((hE).tr Ep8) ((Ep8.at h0))  hf
set_option maxHeartbeats 4000000 in
set_option maxRecDepth 100000 in
theorem t_X12_readStrip_B79 {N : Nat} {a0 : Nat} {Γ : Gm} {σ0 : Sg} {r : (Int32 × Sg)} (C1 : CM Γ cX12_readStrip RX12 3 (some .int) 3 64 0 0 (fun r_ τ_ => (r_ = some (vi r.1)) ∧ τ_ = r.2 ∧ sg_T τ_ ∧ sg_E σ0 τ_)) (k17 : Int32 → Sg → Option (Int32 × Sg)) (hk17 : ∀ (v1 : Int32) (σ : Sg), sg_T σ → sg_E σ0 σ → is_A σ a0 11 → k17 v1 σ = some r → J_ Γ 17 [(0, vr (some a0)), (1, vi v1)] [] σ 0 0) (v1 : Int32) (σ : Sg) (hT : sg_T σ) (hE : sg_E σ0 σ) (h0 : is_A σ a0 11) (hf : f_X12_readStrip_B79 N a0 k17  v1 σ = some r) : J_ Γ 79 [(0, vr (some a0)), (1, vi (v1))] [] σ 0 0 := by
  have C0 := C1.1
  unfold f_X12_readStrip_B79 at hf
  refine J_goto (q := 17) C0 dX12_readStrip_79 (by decide) ?_
  exact hk17 (v1) σ (hT) (hE)  (h0)  hf
set_option maxHeartbeats 4000000 in
set_option maxRecDepth 100000 in
theorem t_X12_readStrip_B73 {N : Nat} {a0 : Nat} {Γ : Gm} {σ0 : Sg} {r : (Int32 × Sg)} (C1 : CM Γ cX12_readStrip RX12 3 (some .int) 3 64 0 0 (fun r_ τ_ => (r_ = some (vi r.1)) ∧ τ_ = r.2 ∧ sg_T τ_ ∧ sg_E σ0 τ_)) (k17 : Int32 → Sg → Option (Int32 × Sg)) (hk17 : ∀ (v1 : Int32) (σ : Sg), sg_T σ → sg_E σ0 σ → is_A σ a0 11 → k17 v1 σ = some r → J_ Γ 17 [(0, vr (some a0)), (1, vi v1)] [] σ 0 0) (v1 : Int32) (σ : Sg) (hT : sg_T σ) (hE : sg_E σ0 σ) (h0 : is_A σ a0 11) (hf : f_X12_readStrip_B73 N a0 k17  v1 σ = some r) : J_ Γ 73 [(0, vr (some a0)), (1, vi (v1))] [] σ 0 0 := by
  have C0 := C1.1
  unfold f_X12_readStrip_B73 at hf
  refine J_aload_n (q := 74) C0 0 rfl rfl dX12_readStrip_73 rfl trivial ?_
  refine J_iload_n (q := 75) C0 1 rfl rfl dX12_readStrip_74 rfl ?_
  refine J_iconst (q := 76) (v := 1) C0 dX12_readStrip_75 rfl rfl ?_
  refine K_some hf (fun p14 hp14 hf => ?_)
  refine J_callV (q := 79) (ci := 11) (as := [vi (v1), vi (1)]) (rest := []) C0 rfl (h0) (t_X12_readPicture N a0 (v1) (1) (hT) (h0)  hp14) ml_X12_readPicture lk_X12_239 im_X12_readPicture se_X12_readPicture rfl (by decide) dX12_readStrip_76 rfl rfl rfl (by simp [ac_]) C1.room (by decide) (by decide) (by decide) (by decide) (fun r_ τ_ hQ => ?_)
  obtain ⟨rfl, ht_, Tp14, Ep14⟩ := hQ; have ht_ := ht_.symm; subst ht_
  show J_ Γ 79 [(0, vr (some a0)), (1, vi (v1))] [] p14 0 0
  exact t_X12_readStrip_B79 C1  k17  hk17  (v1) (p14) (Tp14) ((hE).tr Ep14) ((Ep14.at h0))  hf
set_option maxHeartbeats 4000000 in
set_option maxRecDepth 100000 in
theorem t_X12_readStrip_L17 {N : Nat} {a0 : Nat} {Γ : Gm} {σ0 : Sg} {r : (Int32 × Sg)} (C1 : CM Γ cX12_readStrip RX12 3 (some .int) 3 64 0 0 (fun r_ τ_ => (r_ = some (vi r.1)) ∧ τ_ = r.2 ∧ sg_T τ_ ∧ sg_E σ0 τ_)) : ∀ (n : Nat) (v1 : Int32) (σ : Sg), sg_T σ → sg_E σ0 σ → is_A σ a0 11 → f_X12_readStrip_L17 N a0  n v1 σ = some r → J_ Γ 17 [(0, vr (some a0)), (1, vi (v1))] [] σ 0 0 := by
  have C0 := C1.1
  intro n
  induction n with
  | zero => intro v1 σ hT hE h0  hf; unfold f_X12_readStrip_L17 at hf; cases hf
  | succ n ih =>
    intro v1 σ hT hE h0  hf
    rw [f_X12_readStrip_L17] at hf
    refine J_aload_n (q := 18) C0 0 rfl rfl dX12_readStrip_17 rfl trivial ?_
    refine J_getI (q := 21) C0 fl_X12_110_11 rfl (h0) rfl dX12_readStrip_18 rfl ?_
    refine J_iconst (q := 22) (v := (-1)) C0 dX12_readStrip_21 rfl rfl ?_
    refine J_icmp_ne (t := 82) (q := 25) C0 dX12_readStrip_22 (by decide) rfl hf (fun c3 hf => ?_) (fun c3 hf => ?_)
    · exact t_X12_readStrip_B82 C1    (v1) σ (hT) (hE) (h0)  hf
    · refine J_aload_n (q := 26) C0 0 rfl rfl dX12_readStrip_25 rfl trivial ?_
      refine K_some hf (fun p9 hp9 hf => ?_)
      refine J_callV (q := 29) (ci := 11) (as := []) (rest := []) C0 rfl (h0) (t_X12_look N a0  (hT) (h0)  hp9) ml_X12_look lk_X12_122 im_X12_look se_X12_look rfl (by decide) dX12_readStrip_26 rfl rfl rfl (by simp [ac_]) C1.room (by decide) (by decide) (by decide) (by decide) (fun r_ τ_ hQ => ?_)
      obtain ⟨rfl, rfl, Tp9, Ep9⟩ := hQ
      show J_ Γ 29 [(0, vr (some a0)), (1, vi (v1))] [vi (p9.1)] p9.2 0 0
      refine J_iconst (q := 30) (v := (-1)) C0 dX12_readStrip_29 rfl rfl ?_
      refine J_icmp_eq (t := 82) (q := 33) C0 dX12_readStrip_30 (by decide) rfl hf (fun c10 hf => ?_) (fun c10 hf => ?_)
      · exact t_X12_readStrip_B82 C1    (v1) (p9.2) (Tp9) ((hE).tr Ep9) ((Ep9.at h0))  hf
      · refine J_aload_n (q := 34) C0 0 rfl rfl dX12_readStrip_33 rfl trivial ?_
        refine K_some hf (fun p11 hp11 hf => ?_)
        refine J_callV (q := 37) (ci := 11) (as := []) (rest := []) C0 rfl ((Ep9.at h0)) (t_X12_look N a0  (Tp9) ((Ep9.at h0))  hp11) ml_X12_look lk_X12_122 im_X12_look se_X12_look rfl (by decide) dX12_readStrip_34 rfl rfl rfl (by simp [ac_]) C1.room (by decide) (by decide) (by decide) (by decide) (fun r_ τ_ hQ => ?_)
        obtain ⟨rfl, rfl, Tp11, Ep11⟩ := hQ
        show J_ Γ 37 [(0, vr (some a0)), (1, vi (v1))] [vi (p11.1)] p11.2 0 0
        refine J_istore_n (q := 38) (lv' := [(2, vi (p11.1)), (0, vr (some a0)), (1, vi (v1))]) C0 rfl (G_nl C1 (by decide)) dX12_readStrip_37 rfl rfl ?_
        refine J_iload_n (q := 39) C0 0 rfl rfl dX12_readStrip_38 rfl ?_
        refine K_some hf (fun p12 hp12 hf => ?_)
        refine J_callS (q := 42) (as := [vi (p11.1)]) (rest := []) C0 (t_X12_isDigit (p11.1)  hp12) ml_X12_isDigit lk_X12_125 sm_X12_isDigit dX12_readStrip_39 rfl rfl rfl (by simp [ac_]) C1.room (by decide) (by decide) (by decide) (by decide) (fun r_ τ_ hQ => ?_)
        obtain ⟨⟨rfl, zp12⟩, ht_⟩ := hQ; have ht_ := ht_.symm; subst ht_
        show J_ Γ 42 [(2, vi (p11.1)), (0, vr (some a0)), (1, vi (v1))] [vi (p12)] p11.2 0 0
        refine J_if_eq (t := 73) (q := 45) C0 dX12_readStrip_42 (by decide) rfl hf (fun c13 hf => ?_) (fun c13 hf => ?_)
        · refine J_sub (lv' := [(0, vr (some a0)), (1, vi (v1))]) [1, 2] rfl ?_
          exact t_X12_readStrip_B73 C1  (f_X12_readStrip_L17 N a0 n)  ih  (v1) (p11.2) (Tp11) (((hE).tr Ep9).tr Ep11) ((Ep11.at (Ep9.at h0)))  hf
        · refine J_iload_n (q := 46) C0 0 rfl rfl dX12_readStrip_45 rfl ?_
          refine J_bipush (q := 48) (v := 50) C0 dX12_readStrip_46 rfl rfl ?_
          refine J_icmp_lt (t := 73) (q := 51) C0 dX12_readStrip_48 (by decide) rfl hf (fun c15 hf => ?_) (fun c15 hf => ?_)
          · refine J_sub (lv' := [(0, vr (some a0)), (1, vi (v1))]) [1, 2] rfl ?_
            exact t_X12_readStrip_B73 C1  (f_X12_readStrip_L17 N a0 n)  ih  (v1) (p11.2) (Tp11) (((hE).tr Ep9).tr Ep11) ((Ep11.at (Ep9.at h0)))  hf
          · refine J_aload_n (q := 52) C0 1 rfl rfl dX12_readStrip_51 rfl trivial ?_
            refine J_dup (q := 53) C0 dX12_readStrip_52 rfl rfl ?_
            refine J_getI (q := 56) C0 fl_X12_103_11 rfl ((Ep11.at (Ep9.at h0))) rfl dX12_readStrip_53 rfl ?_
            refine J_iconst (q := 57) (v := 1) C0 dX12_readStrip_56 rfl rfl ?_
            refine J_iadd (q := 58) C0 dX12_readStrip_57 rfl ?_
            refine J_putI (q := 61) C0 fl_X12_103_11 rfl ((Ep11.at (Ep9.at h0))) rfl dX12_readStrip_58 rfl ?_
            refine J_aload_n (q := 62) C0 1 rfl rfl dX12_readStrip_61 rfl trivial ?_
            refine J_iload_n (q := 63) C0 2 rfl rfl dX12_readStrip_62 rfl ?_
            refine J_iload_n (q := 64) C0 0 rfl rfl dX12_readStrip_63 rfl ?_
            refine J_bipush (q := 66) (v := 48) C0 dX12_readStrip_64 rfl rfl ?_
            refine J_isub (q := 67) C0 dX12_readStrip_66 rfl ?_
            refine K_some hf (fun p16 hp16 hf => ?_)
            refine J_callV (q := 70) (ci := 11) (as := [vi (v1), vi ((p11.1) - (48))]) (rest := []) C0 rfl (((Ep11.at (Ep9.at h0))).putI) (t_X12_readPicture N a0 (v1) ((p11.1) - (48)) ((Tp11).putI) (((Ep11.at (Ep9.at h0))).putI)  hp16) ml_X12_readPicture lk_X12_239 im_X12_readPicture se_X12_readPicture rfl (by decide) dX12_readStrip_67 rfl rfl rfl (by simp [ac_]) C1.room (by decide) (by decide) (by decide) (by decide) (fun r_ τ_ hQ => ?_)
            obtain ⟨rfl, ht_, Tp16, Ep16⟩ := hQ; have ht_ := ht_.symm; subst ht_
            show J_ Γ 70 [(2, vi (p11.1)), (0, vr (some a0)), (1, vi (v1))] [] p16 0 0
            refine J_goto (q := 79) C0 dX12_readStrip_70 (by decide) ?_
            refine J_sub (lv' := [(0, vr (some a0)), (1, vi (v1))]) [1, 2] rfl ?_
            exact t_X12_readStrip_B79 C1  (f_X12_readStrip_L17 N a0 n)  ih  (v1) (p16) (Tp16) (((((hE).tr Ep9).tr Ep11).putI).tr Ep16) ((Ep16.at ((Ep11.at (Ep9.at h0))).putI))  hf
set_option maxHeartbeats 4000000 in
set_option maxRecDepth 100000 in
theorem t_X12_readStrip (N : Nat) (a0 : Nat) (x1 : Int32) {σ : Sg} (hT : sg_T σ) (h0 : is_A σ a0 11) {r : (Int32 × Sg)} (hf : f_X12_readStrip N a0 x1 σ = some r) : Ct yX12_readStrip cX12_readStrip 3 (some .int) 3 64 0 0 [vr (some a0), vi x1] σ (fun r_ τ_ => (r_ = some (vi r.1)) ∧ τ_ = r.2 ∧ sg_T τ_ ∧ sg_E σ τ_) := by
  refine Ct.of (by decide +kernel) (Nat.le_of_ble_eq_true rfl) (fun Γ C1 => ?_)
  have C0 := C1.1
  have hE : sg_E σ σ := sg_E.rf
  unfold f_X12_readStrip at hf
  show J_ Γ 0 [(0, vr (some a0)), (1, vi (x1))] [] σ 0 0
  refine J_aload_n (q := 1) C0 0 rfl rfl dX12_readStrip_0 rfl trivial ?_
  refine J_iconst (q := 2) (v := 0) C0 dX12_readStrip_1 rfl rfl ?_
  refine J_putI (q := 5) C0 fl_X12_103_11 rfl (h0) rfl dX12_readStrip_2 rfl ?_
  refine J_aload_n (q := 6) C0 0 rfl rfl dX12_readStrip_5 rfl trivial ?_
  refine J_iconst (q := 7) (v := (-1)) C0 dX12_readStrip_6 rfl rfl ?_
  refine J_putI (q := 10) C0 fl_X12_110_11 rfl ((h0).putI) rfl dX12_readStrip_7 rfl ?_
  refine J_aload_n (q := 11) C0 0 rfl rfl dX12_readStrip_10 rfl trivial ?_
  refine J_getR (q := 14) C0 fl_X12_49_11 rfl (((h0).putI).putI) rfl dX12_readStrip_11 rfl ?_
  refine J_iload_n (q := 15) C0 1 rfl rfl dX12_readStrip_14 rfl ?_
  refine J_iconst (q := 16) (v := 0) C0 dX12_readStrip_15 rfl rfl ?_
  refine K_some hf (fun b1 hb1 hf => ?_)
  have ab1 : is_A (put_I (put_I σ a0 3 (0)) a0 4 ((-1))) b1 12 := ((sg_T.op ((hT).putI).putI (j := 22) (((h0).putI).putI) rfl)) b1 hb1
  refine K_chk hf (fun c2 hf => ?_)
  refine J_iast (q := 17) C0 hb1 (ab1) c2 dX12_readStrip_16 rfl ?_
  exact t_X12_readStrip_L17 C1    N (x1) (put_I (put_I (put_I σ a0 3 (0)) a0 4 ((-1))) b1 (x1).toNatClampNeg (0)) ((((hT).putI).putI).putI) ((((hE).putI).putI).putI) ((((h0).putI).putI).putI)  hf
def f_X12_fault (N : Nat) (a0 : Nat) (x1 : Int32) (σ : Sg) : Option (Int32 × Sg) :=
  if (x1) = (0) then
  (Option.bind (f_X12_readLantern N a0  σ) fun p6 =>
  some (p6.1, p6.2))
  else
  (if (x1) = (1) then
  (Option.bind (f_X12_readLaw N a0 (4) σ) fun p5 =>
  some (p5.1, p5.2))
  else
  (if (x1) = (2) then
  (Option.bind (f_X12_readStrip N a0 (6) σ) fun p4 =>
  some (p4.1, p4.2))
  else
  (some ((-2), σ))))
set_option maxHeartbeats 4000000 in
set_option maxRecDepth 100000 in
theorem t_X12_fault (N : Nat) (a0 : Nat) (x1 : Int32) {σ : Sg} (hT : sg_T σ) (h0 : is_A σ a0 11) {r : (Int32 × Sg)} (hf : f_X12_fault N a0 x1 σ = some r) : Ct yX12_fault cX12_fault 2 (some .int) 406 8525 0 0 [vr (some a0), vi x1] σ (fun r_ τ_ => (r_ = some (vi r.1)) ∧ τ_ = r.2 ∧ sg_T τ_ ∧ sg_E σ τ_) := by
  refine Ct.of (by decide +kernel) (Nat.le_of_ble_eq_true rfl) (fun Γ C1 => ?_)
  have C0 := C1.1
  have hE : sg_E σ σ := sg_E.rf
  unfold f_X12_fault at hf
  show J_ Γ 0 [(0, vr (some a0)), (1, vi (x1))] [] σ 0 0
  refine J_iload_n (q := 1) C0 1 rfl rfl dX12_fault_0 rfl ?_
  refine J_if_ne (t := 11) (q := 4) C0 dX12_fault_1 (by decide) rfl hf (fun c1 hf => ?_) (fun c1 hf => ?_)
  · refine J_iload_n (q := 12) C0 1 rfl rfl dX12_fault_11 rfl ?_
    refine J_iconst (q := 13) (v := 1) C0 dX12_fault_12 rfl rfl ?_
    refine J_icmp_ne (t := 24) (q := 16) C0 dX12_fault_13 (by decide) rfl hf (fun c2 hf => ?_) (fun c2 hf => ?_)
    · refine J_iload_n (q := 25) C0 1 rfl rfl dX12_fault_24 rfl ?_
      refine J_iconst (q := 26) (v := 2) C0 dX12_fault_25 rfl rfl ?_
      refine J_icmp_ne (t := 38) (q := 29) C0 dX12_fault_26 (by decide) rfl hf (fun c3 hf => ?_) (fun c3 hf => ?_)
      · refine J_bipush (q := 40) (v := (-2)) C0 dX12_fault_38 rfl rfl ?_
        obtain rfl := Option.some.inj hf; exact J_iret C1 dX12_fault_40 rfl (Nat.zero_le _) (Nat.zero_le _) ⟨rfl, rfl, hT, hE⟩
      · refine J_aload_n (q := 30) C0 0 rfl rfl dX12_fault_29 rfl trivial ?_
        refine J_bipush (q := 32) (v := 6) C0 dX12_fault_30 rfl rfl ?_
        refine K_some hf (fun p4 hp4 hf => ?_)
        refine J_callV (q := 35) (ci := 11) (as := [vi (6)]) (rest := []) C0 rfl (h0) (t_X12_readStrip N a0 (6) (hT) (h0)  hp4) ml_X12_readStrip lk_X12_248 im_X12_readStrip se_X12_readStrip rfl (by decide) dX12_fault_32 rfl rfl rfl (by simp [ac_]) C1.room (by decide) (by decide) (by decide) (by decide) (fun r_ τ_ hQ => ?_)
        obtain ⟨rfl, rfl, Tp4, Ep4⟩ := hQ
        show J_ Γ 35 [(0, vr (some a0)), (1, vi (x1))] [vi (p4.1)] p4.2 0 0
        refine J_goto (q := 40) C0 dX12_fault_35 (by decide) ?_
        obtain rfl := Option.some.inj hf; exact J_iret C1 dX12_fault_40 rfl (Nat.zero_le _) (Nat.zero_le _) ⟨rfl, rfl, Tp4, (hE).tr Ep4⟩
    · refine J_aload_n (q := 17) C0 0 rfl rfl dX12_fault_16 rfl trivial ?_
      refine J_iconst (q := 18) (v := 4) C0 dX12_fault_17 rfl rfl ?_
      refine K_some hf (fun p5 hp5 hf => ?_)
      refine J_callV (q := 21) (ci := 11) (as := [vi (4)]) (rest := []) C0 rfl (h0) (t_X12_readLaw N a0 (4) (hT) (h0)  hp5) ml_X12_readLaw lk_X12_245 im_X12_readLaw se_X12_readLaw rfl (by decide) dX12_fault_18 rfl rfl rfl (by simp [ac_]) C1.room (by decide) (by decide) (by decide) (by decide) (fun r_ τ_ hQ => ?_)
      obtain ⟨rfl, rfl, Tp5, Ep5⟩ := hQ
      show J_ Γ 21 [(0, vr (some a0)), (1, vi (x1))] [vi (p5.1)] p5.2 0 0
      refine J_goto (q := 40) C0 dX12_fault_21 (by decide) ?_
      obtain rfl := Option.some.inj hf; exact J_iret C1 dX12_fault_40 rfl (Nat.zero_le _) (Nat.zero_le _) ⟨rfl, rfl, Tp5, (hE).tr Ep5⟩
  · refine J_aload_n (q := 5) C0 0 rfl rfl dX12_fault_4 rfl trivial ?_
    refine K_some hf (fun p6 hp6 hf => ?_)
    refine J_callV (q := 8) (ci := 11) (as := []) (rest := []) C0 rfl (h0) (t_X12_readLantern N a0  (hT) (h0)  hp6) ml_X12_readLantern lk_X12_242 im_X12_readLantern se_X12_readLantern rfl (by decide) dX12_fault_5 rfl rfl rfl (by simp [ac_]) C1.room (by decide) (by decide) (by decide) (by decide) (fun r_ τ_ hQ => ?_)
    obtain ⟨rfl, rfl, Tp6, Ep6⟩ := hQ
    show J_ Γ 8 [(0, vr (some a0)), (1, vi (x1))] [vi (p6.1)] p6.2 0 0
    refine J_goto (q := 40) C0 dX12_fault_8 (by decide) ?_
    obtain rfl := Option.some.inj hf; exact J_iret C1 dX12_fault_40 rfl (Nat.zero_le _) (Nat.zero_le _) ⟨rfl, rfl, Tp6, (hE).tr Ep6⟩
def f_X12_of (a0 : Nat) (x1 : Int32) (x2 : Int32) (σ : Sg) : Option Int32 :=
  Option.bind (sg_R σ a0 24) fun b1 =>
  if (((4) * (x1)) + (x2)) < 0 ∨ sg_L σ b1 ≤ (((4) * (x1)) + (x2)).toNatClampNeg then none else
  some (sg_I σ b1 (((4) * (x1)) + (x2)).toNatClampNeg)
set_option maxHeartbeats 4000000 in
set_option maxRecDepth 100000 in
theorem t_X12_of (a0 : Nat) (x1 : Int32) (x2 : Int32) {σ : Sg} (hT : sg_T σ) (h0 : is_A σ a0 11) {r : Int32} (hf : f_X12_of a0 x1 x2 σ = some r) : Ct yX12_of cX12_of 3 (some .int) 0 0 0 0 [vr (some a0), vi x1, vi x2] σ (fun r_ τ_ => (r_ = some (vi r)) ∧ τ_ = σ) := by
  refine Ct.of (by decide +kernel) (Nat.le_of_ble_eq_true rfl) (fun Γ C1 => ?_)
  have C0 := C1.1
  unfold f_X12_of at hf
  show J_ Γ 0 [(0, vr (some a0)), (1, vi (x1)), (2, vi (x2))] [] σ 0 0
  refine J_aload_n (q := 1) C0 0 rfl rfl dX12_of_0 rfl trivial ?_
  refine J_getR (q := 4) C0 fl_X12_52_11 rfl (h0) rfl dX12_of_1 rfl ?_
  refine J_iconst (q := 5) (v := 4) C0 dX12_of_4 rfl rfl ?_
  refine J_iload_n (q := 6) C0 1 rfl rfl dX12_of_5 rfl ?_
  refine J_imul (q := 7) C0 dX12_of_6 rfl ?_
  refine J_iload_n (q := 8) C0 2 rfl rfl dX12_of_7 rfl ?_
  refine J_iadd (q := 9) C0 dX12_of_8 rfl ?_
  refine K_some hf (fun b1 hb1 hf => ?_)
  have ab1 : is_A σ b1 12 := ((sg_T.op hT (j := 24) (h0) rfl)) b1 hb1
  refine K_chk hf (fun c2 hf => ?_)
  refine J_iald (q := 10) C0 hb1 (ab1) c2 dX12_of_9 rfl ?_
  obtain rfl := Option.some.inj hf; exact J_iret C1 dX12_of_10 rfl (Nat.zero_le _) (Nat.zero_le _) ⟨rfl, rfl⟩
def f_X12_stripLongOf (a0 : Nat) (x1 : Int32) (σ : Sg) : Option Int32 :=
  if (x1) < (sg_I σ a0 23) then
  (Option.bind (sg_R σ a0 22) fun b2 =>
  if (x1) < 0 ∨ sg_L σ b2 ≤ (x1).toNatClampNeg then none else
  some (sg_I σ b2 (x1).toNatClampNeg))
  else
  (some (1))
set_option maxHeartbeats 4000000 in
set_option maxRecDepth 100000 in
theorem t_X12_stripLongOf (a0 : Nat) (x1 : Int32) {σ : Sg} (hT : sg_T σ) (h0 : is_A σ a0 11) {r : Int32} (hf : f_X12_stripLongOf a0 x1 σ = some r) : Ct yX12_stripLongOf cX12_stripLongOf 2 (some .int) 0 0 0 0 [vr (some a0), vi x1] σ (fun r_ τ_ => (r_ = some (vi r)) ∧ τ_ = σ) := by
  refine Ct.of (by decide +kernel) (Nat.le_of_ble_eq_true rfl) (fun Γ C1 => ?_)
  have C0 := C1.1
  unfold f_X12_stripLongOf at hf
  show J_ Γ 0 [(0, vr (some a0)), (1, vi (x1))] [] σ 0 0
  refine J_iload_n (q := 1) C0 1 rfl rfl dX12_stripLongOf_0 rfl ?_
  refine J_aload_n (q := 2) C0 0 rfl rfl dX12_stripLongOf_1 rfl trivial ?_
  refine J_getI (q := 5) C0 fl_X12_251_11 rfl (h0) rfl dX12_stripLongOf_2 rfl ?_
  refine J_icmp_ge (t := 17) (q := 8) C0 dX12_stripLongOf_5 (by decide) rfl hf (fun c1 hf => ?_) (fun c1 hf => ?_)
  · refine J_iconst (q := 18) (v := 1) C0 dX12_stripLongOf_17 rfl rfl ?_
    obtain rfl := Option.some.inj hf; exact J_iret C1 dX12_stripLongOf_18 rfl (Nat.zero_le _) (Nat.zero_le _) ⟨rfl, rfl⟩
  · refine J_aload_n (q := 9) C0 0 rfl rfl dX12_stripLongOf_8 rfl trivial ?_
    refine J_getR (q := 12) C0 fl_X12_49_11 rfl (h0) rfl dX12_stripLongOf_9 rfl ?_
    refine J_iload_n (q := 13) C0 1 rfl rfl dX12_stripLongOf_12 rfl ?_
    refine K_some hf (fun b2 hb2 hf => ?_)
    have ab2 : is_A σ b2 12 := ((sg_T.op hT (j := 22) (h0) rfl)) b2 hb2
    refine K_chk hf (fun c3 hf => ?_)
    refine J_iald (q := 14) C0 hb2 (ab2) c3 dX12_stripLongOf_13 rfl ?_
    refine J_goto (q := 18) C0 dX12_stripLongOf_14 (by decide) ?_
    obtain rfl := Option.some.inj hf; exact J_iret C1 dX12_stripLongOf_18 rfl (Nat.zero_le _) (Nat.zero_le _) ⟨rfl, rfl⟩
def f_X12_longOf (a0 : Nat) (x1 : Int32) (σ : Sg) : Option Int32 :=
  Option.bind (f_X12_of a0 (x1) (3) σ) fun p1 =>
  Option.bind (f_X12_stripLongOf a0 (p1) σ) fun p2 =>
  some (p2)
set_option maxHeartbeats 4000000 in
set_option maxRecDepth 100000 in
theorem t_X12_longOf (a0 : Nat) (x1 : Int32) {σ : Sg} (hT : sg_T σ) (h0 : is_A σ a0 11) {r : Int32} (hf : f_X12_longOf a0 x1 σ = some r) : Ct yX12_longOf cX12_longOf 2 (some .int) 1 22 0 0 [vr (some a0), vi x1] σ (fun r_ τ_ => (r_ = some (vi r)) ∧ τ_ = σ) := by
  refine Ct.of (by decide +kernel) (Nat.le_of_ble_eq_true rfl) (fun Γ C1 => ?_)
  have C0 := C1.1
  unfold f_X12_longOf at hf
  show J_ Γ 0 [(0, vr (some a0)), (1, vi (x1))] [] σ 0 0
  refine J_aload_n (q := 1) C0 0 rfl rfl dX12_longOf_0 rfl trivial ?_
  refine J_aload_n (q := 2) C0 0 rfl rfl dX12_longOf_1 rfl trivial ?_
  refine J_iload_n (q := 3) C0 1 rfl rfl dX12_longOf_2 rfl ?_
  refine J_iconst (q := 4) (v := 3) C0 dX12_longOf_3 rfl rfl ?_
  refine K_some hf (fun p1 hp1 hf => ?_)
  refine J_callV (q := 7) (ci := 11) (as := [vi (x1), vi (3)]) (rest := [vr (some a0)]) C0 rfl (h0) (t_X12_of a0 (x1) (3) (hT) (h0)  hp1) ml_X12_of lk_X12_254 im_X12_of se_X12_of rfl (by decide) dX12_longOf_4 rfl rfl rfl (by simp [ac_]) C1.room (by decide) (by decide) (by decide) (by decide) (fun r_ τ_ hQ => ?_)
  obtain ⟨rfl, ht_⟩ := hQ; have ht_ := ht_.symm; subst ht_
  show J_ Γ 7 [(0, vr (some a0)), (1, vi (x1))] [vi (p1), vr (some a0)] σ 0 0
  refine K_some hf (fun p2 hp2 hf => ?_)
  refine J_callV (q := 10) (ci := 11) (as := [vi (p1)]) (rest := []) C0 rfl (h0) (t_X12_stripLongOf a0 (p1) (hT) (h0)  hp2) ml_X12_stripLongOf lk_X12_257 im_X12_stripLongOf se_X12_stripLongOf rfl (by decide) dX12_longOf_7 rfl rfl rfl (by simp [ac_]) C1.room (by decide) (by decide) (by decide) (by decide) (fun r_ τ_ hQ => ?_)
  obtain ⟨rfl, ht_⟩ := hQ; have ht_ := ht_.symm; subst ht_
  show J_ Γ 10 [(0, vr (some a0)), (1, vi (x1))] [vi (p2)] σ 0 0
  obtain rfl := Option.some.inj hf; exact J_iret C1 dX12_longOf_10 rfl (Nat.zero_le _) (Nat.zero_le _) ⟨rfl, rfl⟩
def f_X12_pictureAt (a0 : Nat) (x1 : Int32) (x2 : Int32) (σ : Sg) : Option Int32 :=
  if (x1) < (sg_I σ a0 23) then
  (Option.bind (sg_R σ a0 21) fun b2 =>
  if (((16) * (x1)) + (x2)) < 0 ∨ sg_L σ b2 ≤ (((16) * (x1)) + (x2)).toNatClampNeg then none else
  some (sg_I σ b2 (((16) * (x1)) + (x2)).toNatClampNeg))
  else
  (some (26))
set_option maxHeartbeats 4000000 in
set_option maxRecDepth 100000 in
theorem t_X12_pictureAt (a0 : Nat) (x1 : Int32) (x2 : Int32) {σ : Sg} (hT : sg_T σ) (h0 : is_A σ a0 11) {r : Int32} (hf : f_X12_pictureAt a0 x1 x2 σ = some r) : Ct yX12_pictureAt cX12_pictureAt 3 (some .int) 0 0 0 0 [vr (some a0), vi x1, vi x2] σ (fun r_ τ_ => (r_ = some (vi r)) ∧ τ_ = σ) := by
  refine Ct.of (by decide +kernel) (Nat.le_of_ble_eq_true rfl) (fun Γ C1 => ?_)
  have C0 := C1.1
  unfold f_X12_pictureAt at hf
  show J_ Γ 0 [(0, vr (some a0)), (1, vi (x1)), (2, vi (x2))] [] σ 0 0
  refine J_iload_n (q := 1) C0 1 rfl rfl dX12_pictureAt_0 rfl ?_
  refine J_aload_n (q := 2) C0 0 rfl rfl dX12_pictureAt_1 rfl trivial ?_
  refine J_getI (q := 5) C0 fl_X12_251_11 rfl (h0) rfl dX12_pictureAt_2 rfl ?_
  refine J_icmp_ge (t := 22) (q := 8) C0 dX12_pictureAt_5 (by decide) rfl hf (fun c1 hf => ?_) (fun c1 hf => ?_)
  · refine J_bipush (q := 24) (v := 26) C0 dX12_pictureAt_22 rfl rfl ?_
    obtain rfl := Option.some.inj hf; exact J_iret C1 dX12_pictureAt_24 rfl (Nat.zero_le _) (Nat.zero_le _) ⟨rfl, rfl⟩
  · refine J_aload_n (q := 9) C0 0 rfl rfl dX12_pictureAt_8 rfl trivial ?_
    refine J_getR (q := 12) C0 fl_X12_46_11 rfl (h0) rfl dX12_pictureAt_9 rfl ?_
    refine J_bipush (q := 14) (v := 16) C0 dX12_pictureAt_12 rfl rfl ?_
    refine J_iload_n (q := 15) C0 1 rfl rfl dX12_pictureAt_14 rfl ?_
    refine J_imul (q := 16) C0 dX12_pictureAt_15 rfl ?_
    refine J_iload_n (q := 17) C0 2 rfl rfl dX12_pictureAt_16 rfl ?_
    refine J_iadd (q := 18) C0 dX12_pictureAt_17 rfl ?_
    refine K_some hf (fun b2 hb2 hf => ?_)
    have ab2 : is_A σ b2 12 := ((sg_T.op hT (j := 21) (h0) rfl)) b2 hb2
    refine K_chk hf (fun c3 hf => ?_)
    refine J_iald (q := 19) C0 hb2 (ab2) c3 dX12_pictureAt_18 rfl ?_
    refine J_goto (q := 24) C0 dX12_pictureAt_19 (by decide) ?_
    obtain rfl := Option.some.inj hf; exact J_iret C1 dX12_pictureAt_24 rfl (Nat.zero_le _) (Nat.zero_le _) ⟨rfl, rfl⟩
def f_X12_showsOf (a0 : Nat) (x1 : Int32) (σ : Sg) : Option Int32 :=
  Option.bind (f_X12_of a0 (x1) (3) σ) fun p1 =>
  Option.bind (f_X12_of a0 (x1) (2) σ) fun p2 =>
  Option.bind (f_X12_pictureAt a0 (p1) (p2) σ) fun p3 =>
  some (p3)
set_option maxHeartbeats 4000000 in
set_option maxRecDepth 100000 in
theorem t_X12_showsOf (a0 : Nat) (x1 : Int32) {σ : Sg} (hT : sg_T σ) (h0 : is_A σ a0 11) {r : Int32} (hf : f_X12_showsOf a0 x1 σ = some r) : Ct yX12_showsOf cX12_showsOf 2 (some .int) 1 22 0 0 [vr (some a0), vi x1] σ (fun r_ τ_ => (r_ = some (vi r)) ∧ τ_ = σ) := by
  refine Ct.of (by decide +kernel) (Nat.le_of_ble_eq_true rfl) (fun Γ C1 => ?_)
  have C0 := C1.1
  unfold f_X12_showsOf at hf
  show J_ Γ 0 [(0, vr (some a0)), (1, vi (x1))] [] σ 0 0
  refine J_aload_n (q := 1) C0 0 rfl rfl dX12_showsOf_0 rfl trivial ?_
  refine J_aload_n (q := 2) C0 0 rfl rfl dX12_showsOf_1 rfl trivial ?_
  refine J_iload_n (q := 3) C0 1 rfl rfl dX12_showsOf_2 rfl ?_
  refine J_iconst (q := 4) (v := 3) C0 dX12_showsOf_3 rfl rfl ?_
  refine K_some hf (fun p1 hp1 hf => ?_)
  refine J_callV (q := 7) (ci := 11) (as := [vi (x1), vi (3)]) (rest := [vr (some a0)]) C0 rfl (h0) (t_X12_of a0 (x1) (3) (hT) (h0)  hp1) ml_X12_of lk_X12_254 im_X12_of se_X12_of rfl (by decide) dX12_showsOf_4 rfl rfl rfl (by simp [ac_]) C1.room (by decide) (by decide) (by decide) (by decide) (fun r_ τ_ hQ => ?_)
  obtain ⟨rfl, ht_⟩ := hQ; have ht_ := ht_.symm; subst ht_
  show J_ Γ 7 [(0, vr (some a0)), (1, vi (x1))] [vi (p1), vr (some a0)] σ 0 0
  refine J_aload_n (q := 8) C0 0 rfl rfl dX12_showsOf_7 rfl trivial ?_
  refine J_iload_n (q := 9) C0 1 rfl rfl dX12_showsOf_8 rfl ?_
  refine J_iconst (q := 10) (v := 2) C0 dX12_showsOf_9 rfl rfl ?_
  refine K_some hf (fun p2 hp2 hf => ?_)
  refine J_callV (q := 13) (ci := 11) (as := [vi (x1), vi (2)]) (rest := [vi (p1), vr (some a0)]) C0 rfl (h0) (t_X12_of a0 (x1) (2) (hT) (h0)  hp2) ml_X12_of lk_X12_254 im_X12_of se_X12_of rfl (by decide) dX12_showsOf_10 rfl rfl rfl (by simp [ac_]) C1.room (by decide) (by decide) (by decide) (by decide) (fun r_ τ_ hQ => ?_)
  obtain ⟨rfl, ht_⟩ := hQ; have ht_ := ht_.symm; subst ht_
  show J_ Γ 13 [(0, vr (some a0)), (1, vi (x1))] [vi (p2), vi (p1), vr (some a0)] σ 0 0
  refine K_some hf (fun p3 hp3 hf => ?_)
  refine J_callV (q := 16) (ci := 11) (as := [vi (p1), vi (p2)]) (rest := []) C0 rfl (h0) (t_X12_pictureAt a0 (p1) (p2) (hT) (h0)  hp3) ml_X12_pictureAt lk_X12_260 im_X12_pictureAt se_X12_pictureAt rfl (by decide) dX12_showsOf_13 rfl rfl rfl (by simp [ac_]) C1.room (by decide) (by decide) (by decide) (by decide) (fun r_ τ_ hQ => ?_)
  obtain ⟨rfl, ht_⟩ := hQ; have ht_ := ht_.symm; subst ht_
  show J_ Γ 16 [(0, vr (some a0)), (1, vi (x1))] [vi (p3)] σ 0 0
  obtain rfl := Option.some.inj hf; exact J_iret C1 dX12_showsOf_16 rfl (Nat.zero_le _) (Nat.zero_le _) ⟨rfl, rfl⟩
def f_X12_takeLantern_L62 (N : Nat) (a0 : Nat) : Nat → Int32 → Sg → Option (Int32 × Sg)
  | 0, _, _ => none
  | n + 1, v1, σ =>
  if (v1) < (sg_I σ a0 20) then
  (Option.bind (f_X12_of a0 (v1) (2) σ) fun p16 =>
  Option.bind (f_X12_longOf a0 (v1) σ) fun p17 =>
  if (p17) = 0 then none else
  Option.bind (sg_R σ a0 24) fun b19 =>
  if (((4) * (v1)) + (2)) < 0 ∨ sg_L σ b19 ≤ (((4) * (v1)) + (2)).toNatClampNeg then none else
  f_X12_takeLantern_L62 N a0 n (v1 + 1) (put_I σ b19 (((4) * (v1)) + (2)).toNatClampNeg (rm_ (p16) (p17))))
  else
  (Option.bind (sg_R σ a0 17) fun b4 =>
  if (0 : Int32) < 0 ∨ sg_L σ b4 ≤ (0 : Int32).toNatClampNeg then none else
  Option.bind (sg_R σ a0 24) fun b6 =>
  if (16 : Int32) < 0 ∨ sg_L σ b6 ≤ (16 : Int32).toNatClampNeg then none else
  Option.bind (sg_R (put_I σ b6 (16 : Int32).toNatClampNeg (sg_I σ b4 (0 : Int32).toNatClampNeg)) a0 17) fun b8 =>
  if (1 : Int32) < 0 ∨ sg_L (put_I σ b6 (16 : Int32).toNatClampNeg (sg_I σ b4 (0 : Int32).toNatClampNeg)) b8 ≤ (1 : Int32).toNatClampNeg then none else
  Option.bind (sg_R (put_I σ b6 (16 : Int32).toNatClampNeg (sg_I σ b4 (0 : Int32).toNatClampNeg)) a0 24) fun b10 =>
  if (17 : Int32) < 0 ∨ sg_L (put_I σ b6 (16 : Int32).toNatClampNeg (sg_I σ b4 (0 : Int32).toNatClampNeg)) b10 ≤ (17 : Int32).toNatClampNeg then none else
  Option.bind (sg_R (put_I (put_I σ b6 (16 : Int32).toNatClampNeg (sg_I σ b4 (0 : Int32).toNatClampNeg)) b10 (17 : Int32).toNatClampNeg (sg_I (put_I σ b6 (16 : Int32).toNatClampNeg (sg_I σ b4 (0 : Int32).toNatClampNeg)) b8 (1 : Int32).toNatClampNeg)) a0 17) fun b12 =>
  if (2 : Int32) < 0 ∨ sg_L (put_I (put_I σ b6 (16 : Int32).toNatClampNeg (sg_I σ b4 (0 : Int32).toNatClampNeg)) b10 (17 : Int32).toNatClampNeg (sg_I (put_I σ b6 (16 : Int32).toNatClampNeg (sg_I σ b4 (0 : Int32).toNatClampNeg)) b8 (1 : Int32).toNatClampNeg)) b12 ≤ (2 : Int32).toNatClampNeg then none else
  Option.bind (sg_R (put_I (put_I σ b6 (16 : Int32).toNatClampNeg (sg_I σ b4 (0 : Int32).toNatClampNeg)) b10 (17 : Int32).toNatClampNeg (sg_I (put_I σ b6 (16 : Int32).toNatClampNeg (sg_I σ b4 (0 : Int32).toNatClampNeg)) b8 (1 : Int32).toNatClampNeg)) a0 24) fun b14 =>
  if (18 : Int32) < 0 ∨ sg_L (put_I (put_I σ b6 (16 : Int32).toNatClampNeg (sg_I σ b4 (0 : Int32).toNatClampNeg)) b10 (17 : Int32).toNatClampNeg (sg_I (put_I σ b6 (16 : Int32).toNatClampNeg (sg_I σ b4 (0 : Int32).toNatClampNeg)) b8 (1 : Int32).toNatClampNeg)) b14 ≤ (18 : Int32).toNatClampNeg then none else
  some (sg_I (put_I (put_I (put_I (put_I (put_I (put_I σ b6 (16 : Int32).toNatClampNeg (sg_I σ b4 (0 : Int32).toNatClampNeg)) b10 (17 : Int32).toNatClampNeg (sg_I (put_I σ b6 (16 : Int32).toNatClampNeg (sg_I σ b4 (0 : Int32).toNatClampNeg)) b8 (1 : Int32).toNatClampNeg)) b14 (18 : Int32).toNatClampNeg (sg_I (put_I (put_I σ b6 (16 : Int32).toNatClampNeg (sg_I σ b4 (0 : Int32).toNatClampNeg)) b10 (17 : Int32).toNatClampNeg (sg_I (put_I σ b6 (16 : Int32).toNatClampNeg (sg_I σ b4 (0 : Int32).toNatClampNeg)) b8 (1 : Int32).toNatClampNeg)) b12 (2 : Int32).toNatClampNeg)) a0 37 (0)) a0 29 (0)) a0 40 (0)) a0 20, put_I (put_I (put_I (put_I (put_I (put_I σ b6 (16 : Int32).toNatClampNeg (sg_I σ b4 (0 : Int32).toNatClampNeg)) b10 (17 : Int32).toNatClampNeg (sg_I (put_I σ b6 (16 : Int32).toNatClampNeg (sg_I σ b4 (0 : Int32).toNatClampNeg)) b8 (1 : Int32).toNatClampNeg)) b14 (18 : Int32).toNatClampNeg (sg_I (put_I (put_I σ b6 (16 : Int32).toNatClampNeg (sg_I σ b4 (0 : Int32).toNatClampNeg)) b10 (17 : Int32).toNatClampNeg (sg_I (put_I σ b6 (16 : Int32).toNatClampNeg (sg_I σ b4 (0 : Int32).toNatClampNeg)) b8 (1 : Int32).toNatClampNeg)) b12 (2 : Int32).toNatClampNeg)) a0 37 (0)) a0 29 (0)) a0 40 (0)))
def f_X12_takeLantern_L32 (N : Nat) (a0 : Nat) : Nat → Int32 → Sg → Option (Int32 × Sg)
  | 0, _, _ => none
  | n + 1, v1, σ =>
  if (v1) < ((4) * (sg_I σ a0 20)) then
  (Option.bind (sg_R σ a0 18) fun b21 =>
  if (v1) < 0 ∨ sg_L σ b21 ≤ (v1).toNatClampNeg then none else
  Option.bind (sg_R σ a0 24) fun b23 =>
  if (v1) < 0 ∨ sg_L σ b23 ≤ (v1).toNatClampNeg then none else
  f_X12_takeLantern_L32 N a0 n (v1 + 1) (put_I σ b23 (v1).toNatClampNeg (sg_I σ b21 (v1).toNatClampNeg)))
  else
  (f_X12_takeLantern_L62 N a0 N (0) σ)
def f_X12_takeLantern_L10 (N : Nat) (a0 : Nat) : Nat → Int32 → Sg → Option (Int32 × Sg)
  | 0, _, _ => none
  | n + 1, v1, σ =>
  if (v1) < (261) then
  (Option.bind (sg_R σ a0 24) fun b25 =>
  if (v1) < 0 ∨ sg_L σ b25 ≤ (v1).toNatClampNeg then none else
  f_X12_takeLantern_L10 N a0 n (v1 + 1) (put_I σ b25 (v1).toNatClampNeg (0)))
  else
  (f_X12_takeLantern_L32 N a0 N (0) σ)
def f_X12_takeLantern (N : Nat) (a0 : Nat) (σ : Sg) : Option (Int32 × Sg) :=
  f_X12_takeLantern_L10 N a0 N (0) (put_I σ a0 20 (sg_I σ a0 19))
set_option maxHeartbeats 4000000 in
set_option maxRecDepth 100000 in
theorem t_X12_takeLantern_L62 {N : Nat} {a0 : Nat} {Γ : Gm} {σ0 : Sg} {r : (Int32 × Sg)} (C1 : CM Γ cX12_takeLantern RX12 2 (some .int) 2 43 0 0 (fun r_ τ_ => (r_ = some (vi r.1)) ∧ τ_ = r.2 ∧ sg_T τ_ ∧ sg_E σ0 τ_)) : ∀ (n : Nat) (v1 : Int32) (σ : Sg), sg_T σ → sg_E σ0 σ → is_A σ a0 11 → f_X12_takeLantern_L62 N a0  n v1 σ = some r → J_ Γ 62 [(0, vr (some a0)), (1, vi (v1))] [] σ 0 0 := by
  have C0 := C1.1
  intro n
  induction n with
  | zero => intro v1 σ hT hE h0  hf; unfold f_X12_takeLantern_L62 at hf; cases hf
  | succ n ih =>
    intro v1 σ hT hE h0  hf
    rw [f_X12_takeLantern_L62] at hf
    refine J_iload_n (q := 63) C0 1 rfl rfl dX12_takeLantern_62 rfl ?_
    refine J_aload_n (q := 64) C0 0 rfl rfl dX12_takeLantern_63 rfl trivial ?_
    refine J_getI (q := 67) C0 fl_X12_263_11 rfl (h0) rfl dX12_takeLantern_64 rfl ?_
    refine J_icmp_ge (t := 98) (q := 70) C0 dX12_takeLantern_67 (by decide) rfl hf (fun c3 hf => ?_) (fun c3 hf => ?_)
    · refine J_aload_n (q := 99) C0 0 rfl rfl dX12_takeLantern_98 rfl trivial ?_
      refine J_getR (q := 102) C0 fl_X12_52_11 rfl (h0) rfl dX12_takeLantern_99 rfl ?_
      refine J_bipush (q := 104) (v := 16) C0 dX12_takeLantern_102 rfl rfl ?_
      refine J_aload_n (q := 105) C0 0 rfl rfl dX12_takeLantern_104 rfl trivial ?_
      refine J_getR (q := 108) C0 fl_X12_40_11 rfl (h0) rfl dX12_takeLantern_105 rfl ?_
      refine J_iconst (q := 109) (v := 0) C0 dX12_takeLantern_108 rfl rfl ?_
      refine K_some hf (fun b4 hb4 hf => ?_)
      have ab4 : is_A σ b4 12 := ((sg_T.op hT (j := 17) (h0) rfl)) b4 hb4
      refine K_chk hf (fun c5 hf => ?_)
      refine J_iald (q := 110) C0 hb4 (ab4) c5 dX12_takeLantern_109 rfl ?_
      refine K_some hf (fun b6 hb6 hf => ?_)
      have ab6 : is_A σ b6 12 := ((sg_T.op hT (j := 24) (h0) rfl)) b6 hb6
      refine K_chk hf (fun c7 hf => ?_)
      refine J_iast (q := 111) C0 hb6 (ab6) c7 dX12_takeLantern_110 rfl ?_
      refine J_aload_n (q := 112) C0 0 rfl rfl dX12_takeLantern_111 rfl trivial ?_
      refine J_getR (q := 115) C0 fl_X12_52_11 rfl ((h0).putI) rfl dX12_takeLantern_112 rfl ?_
      refine J_bipush (q := 117) (v := 17) C0 dX12_takeLantern_115 rfl rfl ?_
      refine J_aload_n (q := 118) C0 0 rfl rfl dX12_takeLantern_117 rfl trivial ?_
      refine J_getR (q := 121) C0 fl_X12_40_11 rfl ((h0).putI) rfl dX12_takeLantern_118 rfl ?_
      refine J_iconst (q := 122) (v := 1) C0 dX12_takeLantern_121 rfl rfl ?_
      refine K_some hf (fun b8 hb8 hf => ?_)
      have ab8 : is_A (put_I σ b6 (16 : Int32).toNatClampNeg (sg_I σ b4 (0 : Int32).toNatClampNeg)) b8 12 := ((sg_T.op (hT).putI (j := 17) ((h0).putI) rfl)) b8 hb8
      refine K_chk hf (fun c9 hf => ?_)
      refine J_iald (q := 123) C0 hb8 (ab8) c9 dX12_takeLantern_122 rfl ?_
      refine K_some hf (fun b10 hb10 hf => ?_)
      have ab10 : is_A (put_I σ b6 (16 : Int32).toNatClampNeg (sg_I σ b4 (0 : Int32).toNatClampNeg)) b10 12 := ((sg_T.op (hT).putI (j := 24) ((h0).putI) rfl)) b10 hb10
      refine K_chk hf (fun c11 hf => ?_)
      refine J_iast (q := 124) C0 hb10 (ab10) c11 dX12_takeLantern_123 rfl ?_
      refine J_aload_n (q := 125) C0 0 rfl rfl dX12_takeLantern_124 rfl trivial ?_
      refine J_getR (q := 128) C0 fl_X12_52_11 rfl (((h0).putI).putI) rfl dX12_takeLantern_125 rfl ?_
      refine J_bipush (q := 130) (v := 18) C0 dX12_takeLantern_128 rfl rfl ?_
      refine J_aload_n (q := 131) C0 0 rfl rfl dX12_takeLantern_130 rfl trivial ?_
      refine J_getR (q := 134) C0 fl_X12_40_11 rfl (((h0).putI).putI) rfl dX12_takeLantern_131 rfl ?_
      refine J_iconst (q := 135) (v := 2) C0 dX12_takeLantern_134 rfl rfl ?_
      refine K_some hf (fun b12 hb12 hf => ?_)
      have ab12 : is_A (put_I (put_I σ b6 (16 : Int32).toNatClampNeg (sg_I σ b4 (0 : Int32).toNatClampNeg)) b10 (17 : Int32).toNatClampNeg (sg_I (put_I σ b6 (16 : Int32).toNatClampNeg (sg_I σ b4 (0 : Int32).toNatClampNeg)) b8 (1 : Int32).toNatClampNeg)) b12 12 := ((sg_T.op ((hT).putI).putI (j := 17) (((h0).putI).putI) rfl)) b12 hb12
      refine K_chk hf (fun c13 hf => ?_)
      refine J_iald (q := 136) C0 hb12 (ab12) c13 dX12_takeLantern_135 rfl ?_
      refine K_some hf (fun b14 hb14 hf => ?_)
      have ab14 : is_A (put_I (put_I σ b6 (16 : Int32).toNatClampNeg (sg_I σ b4 (0 : Int32).toNatClampNeg)) b10 (17 : Int32).toNatClampNeg (sg_I (put_I σ b6 (16 : Int32).toNatClampNeg (sg_I σ b4 (0 : Int32).toNatClampNeg)) b8 (1 : Int32).toNatClampNeg)) b14 12 := ((sg_T.op ((hT).putI).putI (j := 24) (((h0).putI).putI) rfl)) b14 hb14
      refine K_chk hf (fun c15 hf => ?_)
      refine J_iast (q := 137) C0 hb14 (ab14) c15 dX12_takeLantern_136 rfl ?_
      refine J_aload_n (q := 138) C0 0 rfl rfl dX12_takeLantern_137 rfl trivial ?_
      refine J_iconst (q := 139) (v := 0) C0 dX12_takeLantern_138 rfl rfl ?_
      refine J_putI (q := 142) C0 fl_X12_269_11 rfl ((((h0).putI).putI).putI) rfl dX12_takeLantern_139 rfl ?_
      refine J_aload_n (q := 143) C0 0 rfl rfl dX12_takeLantern_142 rfl trivial ?_
      refine J_iconst (q := 144) (v := 0) C0 dX12_takeLantern_143 rfl rfl ?_
      refine J_putI (q := 147) C0 fl_X12_272_11 rfl (((((h0).putI).putI).putI).putI) rfl dX12_takeLantern_144 rfl ?_
      refine J_aload_n (q := 148) C0 0 rfl rfl dX12_takeLantern_147 rfl trivial ?_
      refine J_iconst (q := 149) (v := 0) C0 dX12_takeLantern_148 rfl rfl ?_
      refine J_putZ (q := 152) C0 (Or.inl rfl) fl_X12_275_11 rfl ((((((h0).putI).putI).putI).putI).putI) rfl dX12_takeLantern_149 rfl ?_
      refine J_aload_n (q := 153) C0 0 rfl rfl dX12_takeLantern_152 rfl trivial ?_
      refine J_getI (q := 156) C0 fl_X12_263_11 rfl (((((((h0).putI).putI).putI).putI).putI).putI) rfl dX12_takeLantern_153 rfl ?_
      obtain rfl := Option.some.inj hf; exact J_iret C1 dX12_takeLantern_156 rfl (Nat.zero_le _) (Nat.zero_le _) ⟨rfl, rfl, ((((((hT).putI).putI).putI).putI).putI).putI, ((((((hE).putI).putI).putI).putI).putI).putI⟩
    · refine J_aload_n (q := 71) C0 0 rfl rfl dX12_takeLantern_70 rfl trivial ?_
      refine J_getR (q := 74) C0 fl_X12_52_11 rfl (h0) rfl dX12_takeLantern_71 rfl ?_
      refine J_iconst (q := 75) (v := 4) C0 dX12_takeLantern_74 rfl rfl ?_
      refine J_iload_n (q := 76) C0 1 rfl rfl dX12_takeLantern_75 rfl ?_
      refine J_imul (q := 77) C0 dX12_takeLantern_76 rfl ?_
      refine J_iconst (q := 78) (v := 2) C0 dX12_takeLantern_77 rfl rfl ?_
      refine J_iadd (q := 79) C0 dX12_takeLantern_78 rfl ?_
      refine J_aload_n (q := 80) C0 0 rfl rfl dX12_takeLantern_79 rfl trivial ?_
      refine J_iload_n (q := 81) C0 1 rfl rfl dX12_takeLantern_80 rfl ?_
      refine J_iconst (q := 82) (v := 2) C0 dX12_takeLantern_81 rfl rfl ?_
      refine K_some hf (fun p16 hp16 hf => ?_)
      refine J_callV (q := 85) (ci := 11) (as := [vi (v1), vi (2)]) (rest := [vi (((4) * (v1)) + (2)), vr (sg_R σ a0 24)]) C0 rfl (h0) (t_X12_of a0 (v1) (2) (hT) (h0)  hp16) ml_X12_of lk_X12_254 im_X12_of se_X12_of rfl (by decide) dX12_takeLantern_82 rfl rfl rfl (by simp [ac_]) C1.room (by decide) (by decide) (by decide) (by decide) (fun r_ τ_ hQ => ?_)
      obtain ⟨rfl, ht_⟩ := hQ; have ht_ := ht_.symm; subst ht_
      show J_ Γ 85 [(0, vr (some a0)), (1, vi (v1))] [vi (p16), vi (((4) * (v1)) + (2)), vr (sg_R σ a0 24)] σ 0 0
      refine J_aload_n (q := 86) C0 0 rfl rfl dX12_takeLantern_85 rfl trivial ?_
      refine J_iload_n (q := 87) C0 1 rfl rfl dX12_takeLantern_86 rfl ?_
      refine K_some hf (fun p17 hp17 hf => ?_)
      refine J_callV (q := 90) (ci := 11) (as := [vi (v1)]) (rest := [vi (p16), vi (((4) * (v1)) + (2)), vr (sg_R σ a0 24)]) C0 rfl (h0) (t_X12_longOf a0 (v1) (hT) (h0)  hp17) ml_X12_longOf lk_X12_266 im_X12_longOf se_X12_longOf rfl (by decide) dX12_takeLantern_87 rfl rfl rfl (by simp [ac_]) C1.room (by decide) (by decide) (by decide) (by decide) (fun r_ τ_ hQ => ?_)
      obtain ⟨rfl, ht_⟩ := hQ; have ht_ := ht_.symm; subst ht_
      show J_ Γ 90 [(0, vr (some a0)), (1, vi (v1))] [vi (p17), vi (p16), vi (((4) * (v1)) + (2)), vr (sg_R σ a0 24)] σ 0 0
      refine K_chk hf (fun c18 hf => ?_)
      refine J_irem (q := 91) C0 dX12_takeLantern_90 rfl c18 ?_
      refine K_some hf (fun b19 hb19 hf => ?_)
      have ab19 : is_A σ b19 12 := ((sg_T.op hT (j := 24) (h0) rfl)) b19 hb19
      refine K_chk hf (fun c20 hf => ?_)
      refine J_iast (q := 92) C0 hb19 (ab19) c20 dX12_takeLantern_91 rfl ?_
      refine J_iinc (q := 95) (v := v1 + 1) (lv' := [(1, vi (v1 + 1)), (0, vr (some a0))]) C0 1 rfl rfl (G_nl C1 (by decide)) dX12_takeLantern_92 rfl rfl ?_
      refine J_goto (q := 62) C0 dX12_takeLantern_95 (by decide) ?_
      refine J_sub (lv' := [(0, vr (some a0)), (1, vi (v1 + 1))]) [1, 0] rfl ?_
      exact ih (v1 + 1) (put_I σ b19 (((4) * (v1)) + (2)).toNatClampNeg (rm_ (p16) (p17))) ((hT).putI) ((hE).putI) ((h0).putI)  hf
set_option maxHeartbeats 4000000 in
set_option maxRecDepth 100000 in
theorem t_X12_takeLantern_L32 {N : Nat} {a0 : Nat} {Γ : Gm} {σ0 : Sg} {r : (Int32 × Sg)} (C1 : CM Γ cX12_takeLantern RX12 2 (some .int) 2 43 0 0 (fun r_ τ_ => (r_ = some (vi r.1)) ∧ τ_ = r.2 ∧ sg_T τ_ ∧ sg_E σ0 τ_)) : ∀ (n : Nat) (v1 : Int32) (σ : Sg), sg_T σ → sg_E σ0 σ → is_A σ a0 11 → f_X12_takeLantern_L32 N a0  n v1 σ = some r → J_ Γ 32 [(0, vr (some a0)), (1, vi (v1))] [] σ 0 0 := by
  have C0 := C1.1
  intro n
  induction n with
  | zero => intro v1 σ hT hE h0  hf; unfold f_X12_takeLantern_L32 at hf; cases hf
  | succ n ih =>
    intro v1 σ hT hE h0  hf
    rw [f_X12_takeLantern_L32] at hf
    refine J_iload_n (q := 33) C0 1 rfl rfl dX12_takeLantern_32 rfl ?_
    refine J_iconst (q := 34) (v := 4) C0 dX12_takeLantern_33 rfl rfl ?_
    refine J_aload_n (q := 35) C0 0 rfl rfl dX12_takeLantern_34 rfl trivial ?_
    refine J_getI (q := 38) C0 fl_X12_263_11 rfl (h0) rfl dX12_takeLantern_35 rfl ?_
    refine J_imul (q := 39) C0 dX12_takeLantern_38 rfl ?_
    refine J_icmp_ge (t := 60) (q := 42) C0 dX12_takeLantern_39 (by decide) rfl hf (fun c2 hf => ?_) (fun c2 hf => ?_)
    · refine J_iconst (q := 61) (v := 0) C0 dX12_takeLantern_60 rfl rfl ?_
      refine J_istore_n (q := 62) (lv' := [(1, vi (0)), (0, vr (some a0))]) C0 rfl (G_nl C1 (by decide)) dX12_takeLantern_61 rfl rfl ?_
      refine J_sub (lv' := [(0, vr (some a0)), (1, vi (0))]) [1, 0] rfl ?_
      exact t_X12_takeLantern_L62 C1    N (0) σ (hT) (hE) (h0)  hf
    · refine J_aload_n (q := 43) C0 0 rfl rfl dX12_takeLantern_42 rfl trivial ?_
      refine J_getR (q := 46) C0 fl_X12_52_11 rfl (h0) rfl dX12_takeLantern_43 rfl ?_
      refine J_iload_n (q := 47) C0 1 rfl rfl dX12_takeLantern_46 rfl ?_
      refine J_aload_n (q := 48) C0 0 rfl rfl dX12_takeLantern_47 rfl trivial ?_
      refine J_getR (q := 51) C0 fl_X12_43_11 rfl (h0) rfl dX12_takeLantern_48 rfl ?_
      refine J_iload_n (q := 52) C0 1 rfl rfl dX12_takeLantern_51 rfl ?_
      refine K_some hf (fun b21 hb21 hf => ?_)
      have ab21 : is_A σ b21 12 := ((sg_T.op hT (j := 18) (h0) rfl)) b21 hb21
      refine K_chk hf (fun c22 hf => ?_)
      refine J_iald (q := 53) C0 hb21 (ab21) c22 dX12_takeLantern_52 rfl ?_
      refine K_some hf (fun b23 hb23 hf => ?_)
      have ab23 : is_A σ b23 12 := ((sg_T.op hT (j := 24) (h0) rfl)) b23 hb23
      refine K_chk hf (fun c24 hf => ?_)
      refine J_iast (q := 54) C0 hb23 (ab23) c24 dX12_takeLantern_53 rfl ?_
      refine J_iinc (q := 57) (v := v1 + 1) (lv' := [(1, vi (v1 + 1)), (0, vr (some a0))]) C0 1 rfl rfl (G_nl C1 (by decide)) dX12_takeLantern_54 rfl rfl ?_
      refine J_goto (q := 32) C0 dX12_takeLantern_57 (by decide) ?_
      refine J_sub (lv' := [(0, vr (some a0)), (1, vi (v1 + 1))]) [1, 0] rfl ?_
      exact ih (v1 + 1) (put_I σ b23 (v1).toNatClampNeg (sg_I σ b21 (v1).toNatClampNeg)) ((hT).putI) ((hE).putI) ((h0).putI)  hf
set_option maxHeartbeats 4000000 in
set_option maxRecDepth 100000 in
theorem t_X12_takeLantern_L10 {N : Nat} {a0 : Nat} {Γ : Gm} {σ0 : Sg} {r : (Int32 × Sg)} (C1 : CM Γ cX12_takeLantern RX12 2 (some .int) 2 43 0 0 (fun r_ τ_ => (r_ = some (vi r.1)) ∧ τ_ = r.2 ∧ sg_T τ_ ∧ sg_E σ0 τ_)) : ∀ (n : Nat) (v1 : Int32) (σ : Sg), sg_T σ → sg_E σ0 σ → is_A σ a0 11 → f_X12_takeLantern_L10 N a0  n v1 σ = some r → J_ Γ 10 [(0, vr (some a0)), (1, vi (v1))] [] σ 0 0 := by
  have C0 := C1.1
  intro n
  induction n with
  | zero => intro v1 σ hT hE h0  hf; unfold f_X12_takeLantern_L10 at hf; cases hf
  | succ n ih =>
    intro v1 σ hT hE h0  hf
    rw [f_X12_takeLantern_L10] at hf
    refine J_iload_n (q := 11) C0 1 rfl rfl dX12_takeLantern_10 rfl ?_
    refine J_sipush (q := 14) (v := 261) C0 dX12_takeLantern_11 rfl rfl ?_
    refine J_icmp_ge (t := 30) (q := 17) C0 dX12_takeLantern_14 (by decide) rfl hf (fun c1 hf => ?_) (fun c1 hf => ?_)
    · refine J_iconst (q := 31) (v := 0) C0 dX12_takeLantern_30 rfl rfl ?_
      refine J_istore_n (q := 32) (lv' := [(1, vi (0)), (0, vr (some a0))]) C0 rfl (G_nl C1 (by decide)) dX12_takeLantern_31 rfl rfl ?_
      refine J_sub (lv' := [(0, vr (some a0)), (1, vi (0))]) [1, 0] rfl ?_
      exact t_X12_takeLantern_L32 C1    N (0) σ (hT) (hE) (h0)  hf
    · refine J_aload_n (q := 18) C0 0 rfl rfl dX12_takeLantern_17 rfl trivial ?_
      refine J_getR (q := 21) C0 fl_X12_52_11 rfl (h0) rfl dX12_takeLantern_18 rfl ?_
      refine J_iload_n (q := 22) C0 1 rfl rfl dX12_takeLantern_21 rfl ?_
      refine J_iconst (q := 23) (v := 0) C0 dX12_takeLantern_22 rfl rfl ?_
      refine K_some hf (fun b25 hb25 hf => ?_)
      have ab25 : is_A σ b25 12 := ((sg_T.op hT (j := 24) (h0) rfl)) b25 hb25
      refine K_chk hf (fun c26 hf => ?_)
      refine J_iast (q := 24) C0 hb25 (ab25) c26 dX12_takeLantern_23 rfl ?_
      refine J_iinc (q := 27) (v := v1 + 1) (lv' := [(1, vi (v1 + 1)), (0, vr (some a0))]) C0 1 rfl rfl (G_nl C1 (by decide)) dX12_takeLantern_24 rfl rfl ?_
      refine J_goto (q := 10) C0 dX12_takeLantern_27 (by decide) ?_
      refine J_sub (lv' := [(0, vr (some a0)), (1, vi (v1 + 1))]) [1, 0] rfl ?_
      exact ih (v1 + 1) (put_I σ b25 (v1).toNatClampNeg (0)) ((hT).putI) ((hE).putI) ((h0).putI)  hf
set_option maxHeartbeats 4000000 in
set_option maxRecDepth 100000 in
theorem t_X12_takeLantern (N : Nat) (a0 : Nat) {σ : Sg} (hT : sg_T σ) (h0 : is_A σ a0 11) {r : (Int32 × Sg)} (hf : f_X12_takeLantern N a0  σ = some r) : Ct yX12_takeLantern cX12_takeLantern 2 (some .int) 2 43 0 0 [vr (some a0)] σ (fun r_ τ_ => (r_ = some (vi r.1)) ∧ τ_ = r.2 ∧ sg_T τ_ ∧ sg_E σ τ_) := by
  refine Ct.of (by decide +kernel) (Nat.le_of_ble_eq_true rfl) (fun Γ C1 => ?_)
  have C0 := C1.1
  have hE : sg_E σ σ := sg_E.rf
  unfold f_X12_takeLantern at hf
  show J_ Γ 0 [(0, vr (some a0))] [] σ 0 0
  refine J_aload_n (q := 1) C0 0 rfl rfl dX12_takeLantern_0 rfl trivial ?_
  refine J_aload_n (q := 2) C0 0 rfl rfl dX12_takeLantern_1 rfl trivial ?_
  refine J_getI (q := 5) C0 fl_X12_229_11 rfl (h0) rfl dX12_takeLantern_2 rfl ?_
  refine J_putI (q := 8) C0 fl_X12_263_11 rfl (h0) rfl dX12_takeLantern_5 rfl ?_
  refine J_iconst (q := 9) (v := 0) C0 dX12_takeLantern_8 rfl rfl ?_
  refine J_istore_n (q := 10) (lv' := [(1, vi (0)), (0, vr (some a0))]) C0 rfl (G_nl C1 (by decide)) dX12_takeLantern_9 rfl rfl ?_
  refine J_sub (lv' := [(0, vr (some a0)), (1, vi (0))]) [1, 0] rfl ?_
  exact t_X12_takeLantern_L10 C1    N (0) (put_I σ a0 20 (sg_I σ a0 19)) ((hT).putI) ((hE).putI) ((h0).putI)  hf
def f_X12_text_B69 (N : Nat) (a0 : Nat) (v1 : Int32) (σ : Sg) : Option (Int32 × Sg) :=
  if (v1) = (2) then
  (if (sg_I σ a0 23) < (6) then
  (Option.bind (f_X12_readStrip N a0 (sg_I σ a0 23) σ) fun p5 =>
  if (p5.1) = ((-1)) then
  (some ((sg_I (put_I (put_I p5.2 a0 2 (0)) a0 23 ((sg_I (put_I p5.2 a0 2 (0)) a0 23) + (1))) a0 23) - (1), put_I (put_I p5.2 a0 2 (0)) a0 23 ((sg_I (put_I p5.2 a0 2 (0)) a0 23) + (1))))
  else
  (some ((-1), p5.2)))
  else
  (some ((-1), σ)))
  else
  (some ((-1), σ))
def f_X12_text_B22 (N : Nat) (a0 : Nat) (v1 : Int32) (σ : Sg) : Option (Int32 × Sg) :=
  if (v1) = (1) then
  (if (sg_I σ a0 13) < (4) then
  (Option.bind (f_X12_readLaw N a0 (sg_I σ a0 13) σ) fun p8 =>
  if (p8.1) = ((-1)) then
  (some ((sg_I (put_I (put_I p8.2 a0 2 (0)) a0 13 ((sg_I (put_I p8.2 a0 2 (0)) a0 13) + (1))) a0 13) - (1), put_I (put_I p8.2 a0 2 (0)) a0 13 ((sg_I (put_I p8.2 a0 2 (0)) a0 13) + (1))))
  else
  (f_X12_text_B69 N a0 (v1) (p8.2)))
  else
  (f_X12_text_B69 N a0 (v1) σ))
  else
  (f_X12_text_B69 N a0 (v1) σ)
def f_X12_text (N : Nat) (a0 : Nat) (x1 : Int32) (σ : Sg) : Option (Int32 × Sg) :=
  if (x1) = (0) then
  (Option.bind (f_X12_readLantern N a0  σ) fun p10 =>
  if (p10.1) = ((-1)) then
  (Option.bind (f_X12_takeLantern N a0  (put_I p10.2 a0 2 (0))) fun p12 =>
  some (p12.1, p12.2))
  else
  (f_X12_text_B22 N a0 (x1) (p10.2)))
  else
  (f_X12_text_B22 N a0 (x1) σ)
set_option maxHeartbeats 4000000 in
set_option maxRecDepth 100000 in
theorem t_X12_text_B69 {N : Nat} {a0 : Nat} {Γ : Gm} {σ0 : Sg} {r : (Int32 × Sg)} (C1 : CM Γ cX12_text RX12 2 (some .int) 406 8525 0 0 (fun r_ τ_ => (r_ = some (vi r.1)) ∧ τ_ = r.2 ∧ sg_T τ_ ∧ sg_E σ0 τ_)) (v1 : Int32) (σ : Sg) (hT : sg_T σ) (hE : sg_E σ0 σ) (h0 : is_A σ a0 11) (hf : f_X12_text_B69 N a0  v1 σ = some r) : J_ Γ 69 [(0, vr (some a0)), (1, vi (v1))] [] σ 0 0 := by
  have C0 := C1.1
  unfold f_X12_text_B69 at hf
  refine J_iload_n (q := 70) C0 1 rfl rfl dX12_text_69 rfl ?_
  refine J_iconst (q := 71) (v := 2) C0 dX12_text_70 rfl rfl ?_
  refine J_icmp_ne (t := 117) (q := 74) C0 dX12_text_71 (by decide) rfl hf (fun c3 hf => ?_) (fun c3 hf => ?_)
  · refine J_iconst (q := 118) (v := (-1)) C0 dX12_text_117 rfl rfl ?_
    obtain rfl := Option.some.inj hf; exact J_iret C1 dX12_text_118 rfl (Nat.zero_le _) (Nat.zero_le _) ⟨rfl, rfl, hT, hE⟩
  · refine J_aload_n (q := 75) C0 0 rfl rfl dX12_text_74 rfl trivial ?_
    refine J_getI (q := 78) C0 fl_X12_251_11 rfl (h0) rfl dX12_text_75 rfl ?_
    refine J_bipush (q := 80) (v := 6) C0 dX12_text_78 rfl rfl ?_
    refine J_icmp_ge (t := 117) (q := 83) C0 dX12_text_80 (by decide) rfl hf (fun c4 hf => ?_) (fun c4 hf => ?_)
    · refine J_iconst (q := 118) (v := (-1)) C0 dX12_text_117 rfl rfl ?_
      obtain rfl := Option.some.inj hf; exact J_iret C1 dX12_text_118 rfl (Nat.zero_le _) (Nat.zero_le _) ⟨rfl, rfl, hT, hE⟩
    · refine J_aload_n (q := 84) C0 0 rfl rfl dX12_text_83 rfl trivial ?_
      refine J_aload_n (q := 85) C0 0 rfl rfl dX12_text_84 rfl trivial ?_
      refine J_getI (q := 88) C0 fl_X12_251_11 rfl (h0) rfl dX12_text_85 rfl ?_
      refine K_some hf (fun p5 hp5 hf => ?_)
      refine J_callV (q := 91) (ci := 11) (as := [vi (sg_I σ a0 23)]) (rest := []) C0 rfl (h0) (t_X12_readStrip N a0 (sg_I σ a0 23) (hT) (h0)  hp5) ml_X12_readStrip lk_X12_248 im_X12_readStrip se_X12_readStrip rfl (by decide) dX12_text_88 rfl rfl rfl (by simp [ac_]) C1.room (by decide) (by decide) (by decide) (by decide) (fun r_ τ_ hQ => ?_)
      obtain ⟨rfl, rfl, Tp5, Ep5⟩ := hQ
      show J_ Γ 91 [(0, vr (some a0)), (1, vi (v1))] [vi (p5.1)] p5.2 0 0
      refine J_iconst (q := 92) (v := (-1)) C0 dX12_text_91 rfl rfl ?_
      refine J_icmp_ne (t := 117) (q := 95) C0 dX12_text_92 (by decide) rfl hf (fun c6 hf => ?_) (fun c6 hf => ?_)
      · refine J_iconst (q := 118) (v := (-1)) C0 dX12_text_117 rfl rfl ?_
        obtain rfl := Option.some.inj hf; exact J_iret C1 dX12_text_118 rfl (Nat.zero_le _) (Nat.zero_le _) ⟨rfl, rfl, Tp5, (hE).tr Ep5⟩
      · refine J_aload_n (q := 96) C0 0 rfl rfl dX12_text_95 rfl trivial ?_
        refine J_iconst (q := 97) (v := 0) C0 dX12_text_96 rfl rfl ?_
        refine J_putI (q := 100) C0 fl_X12_100_11 rfl ((Ep5.at h0)) rfl dX12_text_97 rfl ?_
        refine J_aload_n (q := 101) C0 0 rfl rfl dX12_text_100 rfl trivial ?_
        refine J_dup (q := 102) C0 dX12_text_101 rfl rfl ?_
        refine J_getI (q := 105) C0 fl_X12_251_11 rfl (((Ep5.at h0)).putI) rfl dX12_text_102 rfl ?_
        refine J_iconst (q := 106) (v := 1) C0 dX12_text_105 rfl rfl ?_
        refine J_iadd (q := 107) C0 dX12_text_106 rfl ?_
        refine J_putI (q := 110) C0 fl_X12_251_11 rfl (((Ep5.at h0)).putI) rfl dX12_text_107 rfl ?_
        refine J_aload_n (q := 111) C0 0 rfl rfl dX12_text_110 rfl trivial ?_
        refine J_getI (q := 114) C0 fl_X12_251_11 rfl ((((Ep5.at h0)).putI).putI) rfl dX12_text_111 rfl ?_
        refine J_iconst (q := 115) (v := 1) C0 dX12_text_114 rfl rfl ?_
        refine J_isub (q := 116) C0 dX12_text_115 rfl ?_
        obtain rfl := Option.some.inj hf; exact J_iret C1 dX12_text_116 rfl (Nat.zero_le _) (Nat.zero_le _) ⟨rfl, rfl, ((Tp5).putI).putI, (((hE).tr Ep5).putI).putI⟩
set_option maxHeartbeats 4000000 in
set_option maxRecDepth 100000 in
theorem t_X12_text_B22 {N : Nat} {a0 : Nat} {Γ : Gm} {σ0 : Sg} {r : (Int32 × Sg)} (C1 : CM Γ cX12_text RX12 2 (some .int) 406 8525 0 0 (fun r_ τ_ => (r_ = some (vi r.1)) ∧ τ_ = r.2 ∧ sg_T τ_ ∧ sg_E σ0 τ_)) (v1 : Int32) (σ : Sg) (hT : sg_T σ) (hE : sg_E σ0 σ) (h0 : is_A σ a0 11) (hf : f_X12_text_B22 N a0  v1 σ = some r) : J_ Γ 22 [(0, vr (some a0)), (1, vi (v1))] [] σ 0 0 := by
  have C0 := C1.1
  unfold f_X12_text_B22 at hf
  refine J_iload_n (q := 23) C0 1 rfl rfl dX12_text_22 rfl ?_
  refine J_iconst (q := 24) (v := 1) C0 dX12_text_23 rfl rfl ?_
  refine J_icmp_ne (t := 69) (q := 27) C0 dX12_text_24 (by decide) rfl hf (fun c2 hf => ?_) (fun c2 hf => ?_)
  · exact t_X12_text_B69 C1    (v1) σ (hT) (hE) (h0)  hf
  · refine J_aload_n (q := 28) C0 0 rfl rfl dX12_text_27 rfl trivial ?_
    refine J_getI (q := 31) C0 fl_X12_282_11 rfl (h0) rfl dX12_text_28 rfl ?_
    refine J_iconst (q := 32) (v := 4) C0 dX12_text_31 rfl rfl ?_
    refine J_icmp_ge (t := 69) (q := 35) C0 dX12_text_32 (by decide) rfl hf (fun c7 hf => ?_) (fun c7 hf => ?_)
    · exact t_X12_text_B69 C1    (v1) σ (hT) (hE) (h0)  hf
    · refine J_aload_n (q := 36) C0 0 rfl rfl dX12_text_35 rfl trivial ?_
      refine J_aload_n (q := 37) C0 0 rfl rfl dX12_text_36 rfl trivial ?_
      refine J_getI (q := 40) C0 fl_X12_282_11 rfl (h0) rfl dX12_text_37 rfl ?_
      refine K_some hf (fun p8 hp8 hf => ?_)
      refine J_callV (q := 43) (ci := 11) (as := [vi (sg_I σ a0 13)]) (rest := []) C0 rfl (h0) (t_X12_readLaw N a0 (sg_I σ a0 13) (hT) (h0)  hp8) ml_X12_readLaw lk_X12_245 im_X12_readLaw se_X12_readLaw rfl (by decide) dX12_text_40 rfl rfl rfl (by simp [ac_]) C1.room (by decide) (by decide) (by decide) (by decide) (fun r_ τ_ hQ => ?_)
      obtain ⟨rfl, rfl, Tp8, Ep8⟩ := hQ
      show J_ Γ 43 [(0, vr (some a0)), (1, vi (v1))] [vi (p8.1)] p8.2 0 0
      refine J_iconst (q := 44) (v := (-1)) C0 dX12_text_43 rfl rfl ?_
      refine J_icmp_ne (t := 69) (q := 47) C0 dX12_text_44 (by decide) rfl hf (fun c9 hf => ?_) (fun c9 hf => ?_)
      · exact t_X12_text_B69 C1    (v1) (p8.2) (Tp8) ((hE).tr Ep8) ((Ep8.at h0))  hf
      · refine J_aload_n (q := 48) C0 0 rfl rfl dX12_text_47 rfl trivial ?_
        refine J_iconst (q := 49) (v := 0) C0 dX12_text_48 rfl rfl ?_
        refine J_putI (q := 52) C0 fl_X12_100_11 rfl ((Ep8.at h0)) rfl dX12_text_49 rfl ?_
        refine J_aload_n (q := 53) C0 0 rfl rfl dX12_text_52 rfl trivial ?_
        refine J_dup (q := 54) C0 dX12_text_53 rfl rfl ?_
        refine J_getI (q := 57) C0 fl_X12_282_11 rfl (((Ep8.at h0)).putI) rfl dX12_text_54 rfl ?_
        refine J_iconst (q := 58) (v := 1) C0 dX12_text_57 rfl rfl ?_
        refine J_iadd (q := 59) C0 dX12_text_58 rfl ?_
        refine J_putI (q := 62) C0 fl_X12_282_11 rfl (((Ep8.at h0)).putI) rfl dX12_text_59 rfl ?_
        refine J_aload_n (q := 63) C0 0 rfl rfl dX12_text_62 rfl trivial ?_
        refine J_getI (q := 66) C0 fl_X12_282_11 rfl ((((Ep8.at h0)).putI).putI) rfl dX12_text_63 rfl ?_
        refine J_iconst (q := 67) (v := 1) C0 dX12_text_66 rfl rfl ?_
        refine J_isub (q := 68) C0 dX12_text_67 rfl ?_
        obtain rfl := Option.some.inj hf; exact J_iret C1 dX12_text_68 rfl (Nat.zero_le _) (Nat.zero_le _) ⟨rfl, rfl, ((Tp8).putI).putI, (((hE).tr Ep8).putI).putI⟩
set_option maxHeartbeats 4000000 in
set_option maxRecDepth 100000 in
theorem t_X12_text (N : Nat) (a0 : Nat) (x1 : Int32) {σ : Sg} (hT : sg_T σ) (h0 : is_A σ a0 11) {r : (Int32 × Sg)} (hf : f_X12_text N a0 x1 σ = some r) : Ct yX12_text cX12_text 2 (some .int) 406 8525 0 0 [vr (some a0), vi x1] σ (fun r_ τ_ => (r_ = some (vi r.1)) ∧ τ_ = r.2 ∧ sg_T τ_ ∧ sg_E σ τ_) := by
  refine Ct.of (by decide +kernel) (Nat.le_of_ble_eq_true rfl) (fun Γ C1 => ?_)
  have C0 := C1.1
  have hE : sg_E σ σ := sg_E.rf
  unfold f_X12_text at hf
  show J_ Γ 0 [(0, vr (some a0)), (1, vi (x1))] [] σ 0 0
  refine J_iload_n (q := 1) C0 1 rfl rfl dX12_text_0 rfl ?_
  refine J_if_ne (t := 22) (q := 4) C0 dX12_text_1 (by decide) rfl hf (fun c1 hf => ?_) (fun c1 hf => ?_)
  · exact t_X12_text_B22 C1    (x1) σ (hT) (hE) (h0)  hf
  · refine J_aload_n (q := 5) C0 0 rfl rfl dX12_text_4 rfl trivial ?_
    refine K_some hf (fun p10 hp10 hf => ?_)
    refine J_callV (q := 8) (ci := 11) (as := []) (rest := []) C0 rfl (h0) (t_X12_readLantern N a0  (hT) (h0)  hp10) ml_X12_readLantern lk_X12_242 im_X12_readLantern se_X12_readLantern rfl (by decide) dX12_text_5 rfl rfl rfl (by simp [ac_]) C1.room (by decide) (by decide) (by decide) (by decide) (fun r_ τ_ hQ => ?_)
    obtain ⟨rfl, rfl, Tp10, Ep10⟩ := hQ
    show J_ Γ 8 [(0, vr (some a0)), (1, vi (x1))] [vi (p10.1)] p10.2 0 0
    refine J_iconst (q := 9) (v := (-1)) C0 dX12_text_8 rfl rfl ?_
    refine J_icmp_ne (t := 22) (q := 12) C0 dX12_text_9 (by decide) rfl hf (fun c11 hf => ?_) (fun c11 hf => ?_)
    · exact t_X12_text_B22 C1    (x1) (p10.2) (Tp10) ((hE).tr Ep10) ((Ep10.at h0))  hf
    · refine J_aload_n (q := 13) C0 0 rfl rfl dX12_text_12 rfl trivial ?_
      refine J_iconst (q := 14) (v := 0) C0 dX12_text_13 rfl rfl ?_
      refine J_putI (q := 17) C0 fl_X12_100_11 rfl ((Ep10.at h0)) rfl dX12_text_14 rfl ?_
      refine J_aload_n (q := 18) C0 0 rfl rfl dX12_text_17 rfl trivial ?_
      refine K_some hf (fun p12 hp12 hf => ?_)
      refine J_callV (q := 21) (ci := 11) (as := []) (rest := []) C0 rfl (((Ep10.at h0)).putI) (t_X12_takeLantern N a0  ((Tp10).putI) (((Ep10.at h0)).putI)  hp12) ml_X12_takeLantern lk_X12_279 im_X12_takeLantern se_X12_takeLantern rfl (by decide) dX12_text_18 rfl rfl rfl (by simp [ac_]) C1.room (by decide) (by decide) (by decide) (by decide) (fun r_ τ_ hQ => ?_)
      obtain ⟨rfl, rfl, Tp12, Ep12⟩ := hQ
      show J_ Γ 21 [(0, vr (some a0)), (1, vi (x1))] [vi (p12.1)] p12.2 0 0
      obtain rfl := Option.some.inj hf; exact J_iret C1 dX12_text_21 rfl (Nat.zero_le _) (Nat.zero_le _) ⟨rfl, rfl, Tp12, (((hE).tr Ep10).putI).tr Ep12⟩
def f_X12_isWheel (a0 : Nat) (x1 : Int32) (σ : Sg) : Option Int32 :=
  Option.bind (f_X12_in (x1) (0) ((sg_I σ a0 20) - (1)) ) fun p1 =>
  some (p1)
set_option maxHeartbeats 4000000 in
set_option maxRecDepth 100000 in
theorem t_X12_isWheel (a0 : Nat) (x1 : Int32) {σ : Sg} (h0 : is_A σ a0 11) {r : Int32} (hf : f_X12_isWheel a0 x1 σ = some r) : Ct yX12_isWheel cX12_isWheel 2 (some .boolean) 1 22 0 0 [vr (some a0), vi x1] σ (fun r_ τ_ => (r_ = some (vi r) ∧ (r = 0 ∨ r = 1)) ∧ τ_ = σ) := by
  refine Ct.of (by decide +kernel) (Nat.le_of_ble_eq_true rfl) (fun Γ C1 => ?_)
  have C0 := C1.1
  unfold f_X12_isWheel at hf
  show J_ Γ 0 [(0, vr (some a0)), (1, vi (x1))] [] σ 0 0
  refine J_iload_n (q := 1) C0 1 rfl rfl dX12_isWheel_0 rfl ?_
  refine J_iconst (q := 2) (v := 0) C0 dX12_isWheel_1 rfl rfl ?_
  refine J_aload_n (q := 3) C0 0 rfl rfl dX12_isWheel_2 rfl trivial ?_
  refine J_getI (q := 6) C0 fl_X12_263_11 rfl (h0) rfl dX12_isWheel_3 rfl ?_
  refine J_iconst (q := 7) (v := 1) C0 dX12_isWheel_6 rfl rfl ?_
  refine J_isub (q := 8) C0 dX12_isWheel_7 rfl ?_
  refine K_some hf (fun p1 hp1 hf => ?_)
  refine J_callS (q := 11) (as := [vi (x1), vi (0), vi ((sg_I σ a0 20) - (1))]) (rest := []) C0 (t_X12_in (x1) (0) ((sg_I σ a0 20) - (1))  hp1) ml_X12_in lk_X12_208 sm_X12_in dX12_isWheel_8 rfl rfl rfl (by simp [ac_]) C1.room (by decide) (by decide) (by decide) (by decide) (fun r_ τ_ hQ => ?_)
  obtain ⟨⟨rfl, zp1⟩, ht_⟩ := hQ; have ht_ := ht_.symm; subst ht_
  show J_ Γ 11 [(0, vr (some a0)), (1, vi (x1))] [vi (p1)] σ 0 0
  obtain rfl := Option.some.inj hf; exact J_zret C1 dX12_isWheel_11 rfl zp1 (Nat.zero_le _) (Nat.zero_le _) ⟨⟨rfl, zp1⟩, rfl⟩
def f_X12_isStrip (a0 : Nat) (x1 : Int32) (σ : Sg) : Option Int32 :=
  Option.bind (f_X12_in (x1) (0) ((sg_I σ a0 23) - (1)) ) fun p1 =>
  some (p1)
set_option maxHeartbeats 4000000 in
set_option maxRecDepth 100000 in
theorem t_X12_isStrip (a0 : Nat) (x1 : Int32) {σ : Sg} (h0 : is_A σ a0 11) {r : Int32} (hf : f_X12_isStrip a0 x1 σ = some r) : Ct yX12_isStrip cX12_isStrip 2 (some .boolean) 1 22 0 0 [vr (some a0), vi x1] σ (fun r_ τ_ => (r_ = some (vi r) ∧ (r = 0 ∨ r = 1)) ∧ τ_ = σ) := by
  refine Ct.of (by decide +kernel) (Nat.le_of_ble_eq_true rfl) (fun Γ C1 => ?_)
  have C0 := C1.1
  unfold f_X12_isStrip at hf
  show J_ Γ 0 [(0, vr (some a0)), (1, vi (x1))] [] σ 0 0
  refine J_iload_n (q := 1) C0 1 rfl rfl dX12_isStrip_0 rfl ?_
  refine J_iconst (q := 2) (v := 0) C0 dX12_isStrip_1 rfl rfl ?_
  refine J_aload_n (q := 3) C0 0 rfl rfl dX12_isStrip_2 rfl trivial ?_
  refine J_getI (q := 6) C0 fl_X12_251_11 rfl (h0) rfl dX12_isStrip_3 rfl ?_
  refine J_iconst (q := 7) (v := 1) C0 dX12_isStrip_6 rfl rfl ?_
  refine J_isub (q := 8) C0 dX12_isStrip_7 rfl ?_
  refine K_some hf (fun p1 hp1 hf => ?_)
  refine J_callS (q := 11) (as := [vi (x1), vi (0), vi ((sg_I σ a0 23) - (1))]) (rest := []) C0 (t_X12_in (x1) (0) ((sg_I σ a0 23) - (1))  hp1) ml_X12_in lk_X12_208 sm_X12_in dX12_isStrip_8 rfl rfl rfl (by simp [ac_]) C1.room (by decide) (by decide) (by decide) (by decide) (fun r_ τ_ hQ => ?_)
  obtain ⟨⟨rfl, zp1⟩, ht_⟩ := hQ; have ht_ := ht_.symm; subst ht_
  show J_ Γ 11 [(0, vr (some a0)), (1, vi (x1))] [vi (p1)] σ 0 0
  obtain rfl := Option.some.inj hf; exact J_zret C1 dX12_isStrip_11 rfl zp1 (Nat.zero_le _) (Nat.zero_le _) ⟨⟨rfl, zp1⟩, rfl⟩
def f_X12_moveBy_B26 (N : Nat) (a0 : Nat) (v1 : Int32) (v2 : Int32) (v3 : Int32) (s0 : Int32) (σ : Sg) : Option (Int32 × Sg) :=
  if (sg_I σ a0 26) = ((-1)) then
  (some (s0, σ))
  else
  (Option.bind (sg_R σ a0 15) fun b5 =>
  if (0 : Int32) < 0 ∨ sg_L σ b5 ≤ (0 : Int32).toNatClampNeg then none else
  Option.bind (sg_R (put_I σ b5 (0 : Int32).toNatClampNeg (s0)) a0 15) fun b7 =>
  if (1 : Int32) < 0 ∨ sg_L (put_I σ b5 (0 : Int32).toNatClampNeg (s0)) b7 ≤ (1 : Int32).toNatClampNeg then none else
  Option.bind (f_X12_longOf a0 (v1) (put_I (put_I σ b5 (0 : Int32).toNatClampNeg (s0)) b7 (1 : Int32).toNatClampNeg (v2))) fun p9 =>
  Option.bind (sg_R (put_I (put_I σ b5 (0 : Int32).toNatClampNeg (s0)) b7 (1 : Int32).toNatClampNeg (v2)) a0 15) fun b10 =>
  if (2 : Int32) < 0 ∨ sg_L (put_I (put_I σ b5 (0 : Int32).toNatClampNeg (s0)) b7 (1 : Int32).toNatClampNeg (v2)) b10 ≤ (2 : Int32).toNatClampNeg then none else
  Option.bind (f_X12_of a0 (v1) (3) (put_I (put_I (put_I σ b5 (0 : Int32).toNatClampNeg (s0)) b7 (1 : Int32).toNatClampNeg (v2)) b10 (2 : Int32).toNatClampNeg (p9))) fun p12 =>
  Option.bind (f_X12_pictureAt a0 (p12) (v2) (put_I (put_I (put_I σ b5 (0 : Int32).toNatClampNeg (s0)) b7 (1 : Int32).toNatClampNeg (v2)) b10 (2 : Int32).toNatClampNeg (p9))) fun p13 =>
  Option.bind (sg_R (put_I (put_I (put_I σ b5 (0 : Int32).toNatClampNeg (s0)) b7 (1 : Int32).toNatClampNeg (v2)) b10 (2 : Int32).toNatClampNeg (p9)) a0 15) fun b14 =>
  if (3 : Int32) < 0 ∨ sg_L (put_I (put_I (put_I σ b5 (0 : Int32).toNatClampNeg (s0)) b7 (1 : Int32).toNatClampNeg (v2)) b10 (2 : Int32).toNatClampNeg (p9)) b14 ≤ (3 : Int32).toNatClampNeg then none else
  Option.bind (sg_R (put_I (put_I (put_I (put_I σ b5 (0 : Int32).toNatClampNeg (s0)) b7 (1 : Int32).toNatClampNeg (v2)) b10 (2 : Int32).toNatClampNeg (p9)) b14 (3 : Int32).toNatClampNeg (p13)) a0 15) fun b16 =>
  if (4 : Int32) < 0 ∨ sg_L (put_I (put_I (put_I (put_I σ b5 (0 : Int32).toNatClampNeg (s0)) b7 (1 : Int32).toNatClampNeg (v2)) b10 (2 : Int32).toNatClampNeg (p9)) b14 (3 : Int32).toNatClampNeg (p13)) b16 ≤ (4 : Int32).toNatClampNeg then none else
  Option.bind (sg_R (put_I (put_I (put_I (put_I (put_I σ b5 (0 : Int32).toNatClampNeg (s0)) b7 (1 : Int32).toNatClampNeg (v2)) b10 (2 : Int32).toNatClampNeg (p9)) b14 (3 : Int32).toNatClampNeg (p13)) b16 (4 : Int32).toNatClampNeg (rm_ (v3) (24))) a0 24) fun b18 =>
  if (16 : Int32) < 0 ∨ sg_L (put_I (put_I (put_I (put_I (put_I σ b5 (0 : Int32).toNatClampNeg (s0)) b7 (1 : Int32).toNatClampNeg (v2)) b10 (2 : Int32).toNatClampNeg (p9)) b14 (3 : Int32).toNatClampNeg (p13)) b16 (4 : Int32).toNatClampNeg (rm_ (v3) (24))) b18 ≤ (16 : Int32).toNatClampNeg then none else
  Option.bind (sg_R (put_I (put_I (put_I (put_I (put_I σ b5 (0 : Int32).toNatClampNeg (s0)) b7 (1 : Int32).toNatClampNeg (v2)) b10 (2 : Int32).toNatClampNeg (p9)) b14 (3 : Int32).toNatClampNeg (p13)) b16 (4 : Int32).toNatClampNeg (rm_ (v3) (24))) a0 15) fun b20 =>
  if (5 : Int32) < 0 ∨ sg_L (put_I (put_I (put_I (put_I (put_I σ b5 (0 : Int32).toNatClampNeg (s0)) b7 (1 : Int32).toNatClampNeg (v2)) b10 (2 : Int32).toNatClampNeg (p9)) b14 (3 : Int32).toNatClampNeg (p13)) b16 (4 : Int32).toNatClampNeg (rm_ (v3) (24))) b20 ≤ (5 : Int32).toNatClampNeg then none else
  Option.bind (f_X12_worthOf N a0 (sg_I (put_I (put_I (put_I (put_I (put_I (put_I σ b5 (0 : Int32).toNatClampNeg (s0)) b7 (1 : Int32).toNatClampNeg (v2)) b10 (2 : Int32).toNatClampNeg (p9)) b14 (3 : Int32).toNatClampNeg (p13)) b16 (4 : Int32).toNatClampNeg (rm_ (v3) (24))) b20 (5 : Int32).toNatClampNeg (sg_I (put_I (put_I (put_I (put_I (put_I σ b5 (0 : Int32).toNatClampNeg (s0)) b7 (1 : Int32).toNatClampNeg (v2)) b10 (2 : Int32).toNatClampNeg (p9)) b14 (3 : Int32).toNatClampNeg (p13)) b16 (4 : Int32).toNatClampNeg (rm_ (v3) (24))) b18 (16 : Int32).toNatClampNeg)) a0 26) (put_I (put_I (put_I (put_I (put_I (put_I σ b5 (0 : Int32).toNatClampNeg (s0)) b7 (1 : Int32).toNatClampNeg (v2)) b10 (2 : Int32).toNatClampNeg (p9)) b14 (3 : Int32).toNatClampNeg (p13)) b16 (4 : Int32).toNatClampNeg (rm_ (v3) (24))) b20 (5 : Int32).toNatClampNeg (sg_I (put_I (put_I (put_I (put_I (put_I σ b5 (0 : Int32).toNatClampNeg (s0)) b7 (1 : Int32).toNatClampNeg (v2)) b10 (2 : Int32).toNatClampNeg (p9)) b14 (3 : Int32).toNatClampNeg (p13)) b16 (4 : Int32).toNatClampNeg (rm_ (v3) (24))) b18 (16 : Int32).toNatClampNeg))) fun p22 =>
  Option.bind (f_J9_min_7cf53 (15) (p22.1) ) fun p23 =>
  Option.bind (f_J9_max_7cf53 ((-15)) (p23) ) fun p24 =>
  some (p24, p22.2))
def f_X12_moveBy (N : Nat) (a0 : Nat) (x1 : Int32) (x2 : Int32) (x3 : Int32) (σ : Sg) : Option (Int32 × Sg) :=
  Option.bind (f_X12_of a0 (x1) (1) σ) fun p1 =>
  if (p1) = (1) then
  (Option.bind (f_X12_of a0 (x1) (0) σ) fun p25 =>
  f_X12_moveBy_B26 N a0 (x1) (x2) (x3) (-(p25)) σ)
  else
  (Option.bind (f_X12_of a0 (x1) (0) σ) fun p3 =>
  f_X12_moveBy_B26 N a0 (x1) (x2) (x3) (p3) σ)
set_option maxHeartbeats 4000000 in
set_option maxRecDepth 100000 in
theorem t_X12_moveBy_B26 {N : Nat} {a0 : Nat} {Γ : Gm} {σ0 : Sg} {r : (Int32 × Sg)} (C1 : CM Γ cX12_moveBy RX12 5 (some .int) 5 115 0 0 (fun r_ τ_ => (r_ = some (vi r.1)) ∧ τ_ = r.2 ∧ sg_T τ_ ∧ sg_E σ0 τ_)) (v1 : Int32) (v2 : Int32) (v3 : Int32) (s0 : Int32) (σ : Sg) (hT : sg_T σ) (hE : sg_E σ0 σ) (h0 : is_A σ a0 11) (hf : f_X12_moveBy_B26 N a0  v1 v2 v3 s0 σ = some r) : J_ Γ 26 [(0, vr (some a0)), (1, vi (v1)), (2, vi (v2)), (3, vi (v3))] [vi (s0)] σ 0 0 := by
  have C0 := C1.1
  unfold f_X12_moveBy_B26 at hf
  refine J_istore (q := 28) (lv' := [(4, vi (s0)), (0, vr (some a0)), (1, vi (v1)), (2, vi (v2)), (3, vi (v3))]) C0 (G_nl C1 (by decide)) dX12_moveBy_26 rfl rfl ?_
  refine J_aload_n (q := 29) C0 1 rfl rfl dX12_moveBy_28 rfl trivial ?_
  refine J_getI (q := 32) C0 fl_X12_58_11 rfl (h0) rfl dX12_moveBy_29 rfl ?_
  refine J_iconst (q := 33) (v := (-1)) C0 dX12_moveBy_32 rfl rfl ?_
  refine J_icmp_ne (t := 39) (q := 36) C0 dX12_moveBy_33 (by decide) rfl hf (fun c4 hf => ?_) (fun c4 hf => ?_)
  · refine J_aload_n (q := 40) C0 1 rfl rfl dX12_moveBy_39 rfl trivial ?_
    refine J_getR (q := 43) C0 fl_X12_34_11 rfl (h0) rfl dX12_moveBy_40 rfl ?_
    refine J_iconst (q := 44) (v := 0) C0 dX12_moveBy_43 rfl rfl ?_
    refine J_iload (q := 46) C0 0 rfl dX12_moveBy_44 rfl ?_
    refine K_some hf (fun b5 hb5 hf => ?_)
    have ab5 : is_A σ b5 12 := ((sg_T.op hT (j := 15) (h0) rfl)) b5 hb5
    refine K_chk hf (fun c6 hf => ?_)
    refine J_iast (q := 47) C0 hb5 (ab5) c6 dX12_moveBy_46 rfl ?_
    refine J_aload_n (q := 48) C0 1 rfl rfl dX12_moveBy_47 rfl trivial ?_
    refine J_getR (q := 51) C0 fl_X12_34_11 rfl ((h0).putI) rfl dX12_moveBy_48 rfl ?_
    refine J_iconst (q := 52) (v := 1) C0 dX12_moveBy_51 rfl rfl ?_
    refine J_iload_n (q := 53) C0 3 rfl rfl dX12_moveBy_52 rfl ?_
    refine K_some hf (fun b7 hb7 hf => ?_)
    have ab7 : is_A (put_I σ b5 (0 : Int32).toNatClampNeg (s0)) b7 12 := ((sg_T.op (hT).putI (j := 15) ((h0).putI) rfl)) b7 hb7
    refine K_chk hf (fun c8 hf => ?_)
    refine J_iast (q := 54) C0 hb7 (ab7) c8 dX12_moveBy_53 rfl ?_
    refine J_aload_n (q := 55) C0 1 rfl rfl dX12_moveBy_54 rfl trivial ?_
    refine J_getR (q := 58) C0 fl_X12_34_11 rfl (((h0).putI).putI) rfl dX12_moveBy_55 rfl ?_
    refine J_iconst (q := 59) (v := 2) C0 dX12_moveBy_58 rfl rfl ?_
    refine J_aload_n (q := 60) C0 1 rfl rfl dX12_moveBy_59 rfl trivial ?_
    refine J_iload_n (q := 61) C0 2 rfl rfl dX12_moveBy_60 rfl ?_
    refine K_some hf (fun p9 hp9 hf => ?_)
    refine J_callV (q := 64) (ci := 11) (as := [vi (v1)]) (rest := [vi (2), vr (sg_R (put_I (put_I σ b5 (0 : Int32).toNatClampNeg (s0)) b7 (1 : Int32).toNatClampNeg (v2)) a0 15)]) C0 rfl (((h0).putI).putI) (t_X12_longOf a0 (v1) (((hT).putI).putI) (((h0).putI).putI)  hp9) ml_X12_longOf lk_X12_266 im_X12_longOf se_X12_longOf rfl (by decide) dX12_moveBy_61 rfl rfl rfl (by simp [ac_]) C1.room (by decide) (by decide) (by decide) (by decide) (fun r_ τ_ hQ => ?_)
    obtain ⟨rfl, ht_⟩ := hQ; have ht_ := ht_.symm; subst ht_
    show J_ Γ 64 [(4, vi (s0)), (0, vr (some a0)), (1, vi (v1)), (2, vi (v2)), (3, vi (v3))] [vi (p9), vi (2), vr (sg_R (put_I (put_I σ b5 (0 : Int32).toNatClampNeg (s0)) b7 (1 : Int32).toNatClampNeg (v2)) a0 15)] (put_I (put_I σ b5 (0 : Int32).toNatClampNeg (s0)) b7 (1 : Int32).toNatClampNeg (v2)) 0 0
    refine K_some hf (fun b10 hb10 hf => ?_)
    have ab10 : is_A (put_I (put_I σ b5 (0 : Int32).toNatClampNeg (s0)) b7 (1 : Int32).toNatClampNeg (v2)) b10 12 := ((sg_T.op ((hT).putI).putI (j := 15) (((h0).putI).putI) rfl)) b10 hb10
    refine K_chk hf (fun c11 hf => ?_)
    refine J_iast (q := 65) C0 hb10 (ab10) c11 dX12_moveBy_64 rfl ?_
    refine J_aload_n (q := 66) C0 1 rfl rfl dX12_moveBy_65 rfl trivial ?_
    refine J_getR (q := 69) C0 fl_X12_34_11 rfl ((((h0).putI).putI).putI) rfl dX12_moveBy_66 rfl ?_
    refine J_iconst (q := 70) (v := 3) C0 dX12_moveBy_69 rfl rfl ?_
    refine J_aload_n (q := 71) C0 1 rfl rfl dX12_moveBy_70 rfl trivial ?_
    refine J_aload_n (q := 72) C0 1 rfl rfl dX12_moveBy_71 rfl trivial ?_
    refine J_iload_n (q := 73) C0 2 rfl rfl dX12_moveBy_72 rfl ?_
    refine J_iconst (q := 74) (v := 3) C0 dX12_moveBy_73 rfl rfl ?_
    refine K_some hf (fun p12 hp12 hf => ?_)
    refine J_callV (q := 77) (ci := 11) (as := [vi (v1), vi (3)]) (rest := [vr (some a0), vi (3), vr (sg_R (put_I (put_I (put_I σ b5 (0 : Int32).toNatClampNeg (s0)) b7 (1 : Int32).toNatClampNeg (v2)) b10 (2 : Int32).toNatClampNeg (p9)) a0 15)]) C0 rfl ((((h0).putI).putI).putI) (t_X12_of a0 (v1) (3) ((((hT).putI).putI).putI) ((((h0).putI).putI).putI)  hp12) ml_X12_of lk_X12_254 im_X12_of se_X12_of rfl (by decide) dX12_moveBy_74 rfl rfl rfl (by simp [ac_]) C1.room (by decide) (by decide) (by decide) (by decide) (fun r_ τ_ hQ => ?_)
    obtain ⟨rfl, ht_⟩ := hQ; have ht_ := ht_.symm; subst ht_
    show J_ Γ 77 [(4, vi (s0)), (0, vr (some a0)), (1, vi (v1)), (2, vi (v2)), (3, vi (v3))] [vi (p12), vr (some a0), vi (3), vr (sg_R (put_I (put_I (put_I σ b5 (0 : Int32).toNatClampNeg (s0)) b7 (1 : Int32).toNatClampNeg (v2)) b10 (2 : Int32).toNatClampNeg (p9)) a0 15)] (put_I (put_I (put_I σ b5 (0 : Int32).toNatClampNeg (s0)) b7 (1 : Int32).toNatClampNeg (v2)) b10 (2 : Int32).toNatClampNeg (p9)) 0 0
    refine J_iload_n (q := 78) C0 3 rfl rfl dX12_moveBy_77 rfl ?_
    refine K_some hf (fun p13 hp13 hf => ?_)
    refine J_callV (q := 81) (ci := 11) (as := [vi (p12), vi (v2)]) (rest := [vi (3), vr (sg_R (put_I (put_I (put_I σ b5 (0 : Int32).toNatClampNeg (s0)) b7 (1 : Int32).toNatClampNeg (v2)) b10 (2 : Int32).toNatClampNeg (p9)) a0 15)]) C0 rfl ((((h0).putI).putI).putI) (t_X12_pictureAt a0 (p12) (v2) ((((hT).putI).putI).putI) ((((h0).putI).putI).putI)  hp13) ml_X12_pictureAt lk_X12_260 im_X12_pictureAt se_X12_pictureAt rfl (by decide) dX12_moveBy_78 rfl rfl rfl (by simp [ac_]) C1.room (by decide) (by decide) (by decide) (by decide) (fun r_ τ_ hQ => ?_)
    obtain ⟨rfl, ht_⟩ := hQ; have ht_ := ht_.symm; subst ht_
    show J_ Γ 81 [(4, vi (s0)), (0, vr (some a0)), (1, vi (v1)), (2, vi (v2)), (3, vi (v3))] [vi (p13), vi (3), vr (sg_R (put_I (put_I (put_I σ b5 (0 : Int32).toNatClampNeg (s0)) b7 (1 : Int32).toNatClampNeg (v2)) b10 (2 : Int32).toNatClampNeg (p9)) a0 15)] (put_I (put_I (put_I σ b5 (0 : Int32).toNatClampNeg (s0)) b7 (1 : Int32).toNatClampNeg (v2)) b10 (2 : Int32).toNatClampNeg (p9)) 0 0
    refine K_some hf (fun b14 hb14 hf => ?_)
    have ab14 : is_A (put_I (put_I (put_I σ b5 (0 : Int32).toNatClampNeg (s0)) b7 (1 : Int32).toNatClampNeg (v2)) b10 (2 : Int32).toNatClampNeg (p9)) b14 12 := ((sg_T.op (((hT).putI).putI).putI (j := 15) ((((h0).putI).putI).putI) rfl)) b14 hb14
    refine K_chk hf (fun c15 hf => ?_)
    refine J_iast (q := 82) C0 hb14 (ab14) c15 dX12_moveBy_81 rfl ?_
    refine J_aload_n (q := 83) C0 1 rfl rfl dX12_moveBy_82 rfl trivial ?_
    refine J_getR (q := 86) C0 fl_X12_34_11 rfl (((((h0).putI).putI).putI).putI) rfl dX12_moveBy_83 rfl ?_
    refine J_iconst (q := 87) (v := 4) C0 dX12_moveBy_86 rfl rfl ?_
    refine J_iload_n (q := 88) C0 4 rfl rfl dX12_moveBy_87 rfl ?_
    refine J_bipush (q := 90) (v := 24) C0 dX12_moveBy_88 rfl rfl ?_
    refine J_irem (q := 91) C0 dX12_moveBy_90 rfl (by decide) ?_
    refine K_some hf (fun b16 hb16 hf => ?_)
    have ab16 : is_A (put_I (put_I (put_I (put_I σ b5 (0 : Int32).toNatClampNeg (s0)) b7 (1 : Int32).toNatClampNeg (v2)) b10 (2 : Int32).toNatClampNeg (p9)) b14 (3 : Int32).toNatClampNeg (p13)) b16 12 := ((sg_T.op ((((hT).putI).putI).putI).putI (j := 15) (((((h0).putI).putI).putI).putI) rfl)) b16 hb16
    refine K_chk hf (fun c17 hf => ?_)
    refine J_iast (q := 92) C0 hb16 (ab16) c17 dX12_moveBy_91 rfl ?_
    refine J_aload_n (q := 93) C0 1 rfl rfl dX12_moveBy_92 rfl trivial ?_
    refine J_getR (q := 96) C0 fl_X12_34_11 rfl ((((((h0).putI).putI).putI).putI).putI) rfl dX12_moveBy_93 rfl ?_
    refine J_iconst (q := 97) (v := 5) C0 dX12_moveBy_96 rfl rfl ?_
    refine J_aload_n (q := 98) C0 1 rfl rfl dX12_moveBy_97 rfl trivial ?_
    refine J_getR (q := 101) C0 fl_X12_52_11 rfl ((((((h0).putI).putI).putI).putI).putI) rfl dX12_moveBy_98 rfl ?_
    refine J_bipush (q := 103) (v := 16) C0 dX12_moveBy_101 rfl rfl ?_
    refine K_some hf (fun b18 hb18 hf => ?_)
    have ab18 : is_A (put_I (put_I (put_I (put_I (put_I σ b5 (0 : Int32).toNatClampNeg (s0)) b7 (1 : Int32).toNatClampNeg (v2)) b10 (2 : Int32).toNatClampNeg (p9)) b14 (3 : Int32).toNatClampNeg (p13)) b16 (4 : Int32).toNatClampNeg (rm_ (v3) (24))) b18 12 := ((sg_T.op (((((hT).putI).putI).putI).putI).putI (j := 24) ((((((h0).putI).putI).putI).putI).putI) rfl)) b18 hb18
    refine K_chk hf (fun c19 hf => ?_)
    refine J_iald (q := 104) C0 hb18 (ab18) c19 dX12_moveBy_103 rfl ?_
    refine K_some hf (fun b20 hb20 hf => ?_)
    have ab20 : is_A (put_I (put_I (put_I (put_I (put_I σ b5 (0 : Int32).toNatClampNeg (s0)) b7 (1 : Int32).toNatClampNeg (v2)) b10 (2 : Int32).toNatClampNeg (p9)) b14 (3 : Int32).toNatClampNeg (p13)) b16 (4 : Int32).toNatClampNeg (rm_ (v3) (24))) b20 12 := ((sg_T.op (((((hT).putI).putI).putI).putI).putI (j := 15) ((((((h0).putI).putI).putI).putI).putI) rfl)) b20 hb20
    refine K_chk hf (fun c21 hf => ?_)
    refine J_iast (q := 105) C0 hb20 (ab20) c21 dX12_moveBy_104 rfl ?_
    refine J_bipush (q := 107) (v := (-15)) C0 dX12_moveBy_105 rfl rfl ?_
    refine J_bipush (q := 109) (v := 15) C0 dX12_moveBy_107 rfl rfl ?_
    refine J_aload_n (q := 110) C0 1 rfl rfl dX12_moveBy_109 rfl trivial ?_
    refine J_aload_n (q := 111) C0 1 rfl rfl dX12_moveBy_110 rfl trivial ?_
    refine J_getI (q := 114) C0 fl_X12_58_11 rfl (((((((h0).putI).putI).putI).putI).putI).putI) rfl dX12_moveBy_111 rfl ?_
    refine K_some hf (fun p22 hp22 hf => ?_)
    refine J_callV (q := 117) (ci := 11) (as := [vi (sg_I (put_I (put_I (put_I (put_I (put_I (put_I σ b5 (0 : Int32).toNatClampNeg (s0)) b7 (1 : Int32).toNatClampNeg (v2)) b10 (2 : Int32).toNatClampNeg (p9)) b14 (3 : Int32).toNatClampNeg (p13)) b16 (4 : Int32).toNatClampNeg (rm_ (v3) (24))) b20 (5 : Int32).toNatClampNeg (sg_I (put_I (put_I (put_I (put_I (put_I σ b5 (0 : Int32).toNatClampNeg (s0)) b7 (1 : Int32).toNatClampNeg (v2)) b10 (2 : Int32).toNatClampNeg (p9)) b14 (3 : Int32).toNatClampNeg (p13)) b16 (4 : Int32).toNatClampNeg (rm_ (v3) (24))) b18 (16 : Int32).toNatClampNeg)) a0 26)]) (rest := [vi (15), vi ((-15))]) C0 rfl (((((((h0).putI).putI).putI).putI).putI).putI) (t_X12_worthOf N a0 (sg_I (put_I (put_I (put_I (put_I (put_I (put_I σ b5 (0 : Int32).toNatClampNeg (s0)) b7 (1 : Int32).toNatClampNeg (v2)) b10 (2 : Int32).toNatClampNeg (p9)) b14 (3 : Int32).toNatClampNeg (p13)) b16 (4 : Int32).toNatClampNeg (rm_ (v3) (24))) b20 (5 : Int32).toNatClampNeg (sg_I (put_I (put_I (put_I (put_I (put_I σ b5 (0 : Int32).toNatClampNeg (s0)) b7 (1 : Int32).toNatClampNeg (v2)) b10 (2 : Int32).toNatClampNeg (p9)) b14 (3 : Int32).toNatClampNeg (p13)) b16 (4 : Int32).toNatClampNeg (rm_ (v3) (24))) b18 (16 : Int32).toNatClampNeg)) a0 26) (((((((hT).putI).putI).putI).putI).putI).putI) (((((((h0).putI).putI).putI).putI).putI).putI)  hp22) ml_X12_worthOf lk_X12_285 im_X12_worthOf se_X12_worthOf rfl (by decide) dX12_moveBy_114 rfl rfl rfl (by simp [ac_]) C1.room (by decide) (by decide) (by decide) (by decide) (fun r_ τ_ hQ => ?_)
    obtain ⟨rfl, rfl, Tp22, Ep22⟩ := hQ
    show J_ Γ 117 [(4, vi (s0)), (0, vr (some a0)), (1, vi (v1)), (2, vi (v2)), (3, vi (v3))] [vi (p22.1), vi (15), vi ((-15))] p22.2 0 0
    refine K_some hf (fun p23 hp23 hf => ?_)
    refine J_callS (q := 120) (as := [vi (15), vi (p22.1)]) (rest := [vi ((-15))]) C0 (t_J9_min_7cf53 (15) (p22.1)  hp23) ml_J9_min_7cf53 lk_X12_288 sm_J9_min_7cf53 dX12_moveBy_117 rfl rfl rfl (by simp [ac_]) C1.room (by decide) (by decide) (by decide) (by decide) (fun r_ τ_ hQ => ?_)
    obtain ⟨rfl, ht_⟩ := hQ; have ht_ := ht_.symm; subst ht_
    show J_ Γ 120 [(4, vi (s0)), (0, vr (some a0)), (1, vi (v1)), (2, vi (v2)), (3, vi (v3))] [vi (p23), vi ((-15))] p22.2 0 0
    refine K_some hf (fun p24 hp24 hf => ?_)
    refine J_callS (q := 123) (as := [vi ((-15)), vi (p23)]) (rest := []) C0 (t_J9_max_7cf53 ((-15)) (p23)  hp24) ml_J9_max_7cf53 lk_X12_290 sm_J9_max_7cf53 dX12_moveBy_120 rfl rfl rfl (by simp [ac_]) C1.room (by decide) (by decide) (by decide) (by decide) (fun r_ τ_ hQ => ?_)
    obtain ⟨rfl, ht_⟩ := hQ; have ht_ := ht_.symm; subst ht_
    show J_ Γ 123 [(4, vi (s0)), (0, vr (some a0)), (1, vi (v1)), (2, vi (v2)), (3, vi (v3))] [vi (p24)] p22.2 0 0
    obtain rfl := Option.some.inj hf; exact J_iret C1 dX12_moveBy_123 rfl (Nat.zero_le _) (Nat.zero_le _) ⟨rfl, rfl, Tp22, (((((((hE).putI).putI).putI).putI).putI).putI).tr Ep22⟩
  · refine J_iload (q := 38) C0 0 rfl dX12_moveBy_36 rfl ?_
    obtain rfl := Option.some.inj hf; exact J_iret C1 dX12_moveBy_38 rfl (Nat.zero_le _) (Nat.zero_le _) ⟨rfl, rfl, hT, hE⟩
set_option maxHeartbeats 4000000 in
set_option maxRecDepth 100000 in
theorem t_X12_moveBy (N : Nat) (a0 : Nat) (x1 : Int32) (x2 : Int32) (x3 : Int32) {σ : Sg} (hT : sg_T σ) (h0 : is_A σ a0 11) {r : (Int32 × Sg)} (hf : f_X12_moveBy N a0 x1 x2 x3 σ = some r) : Ct yX12_moveBy cX12_moveBy 5 (some .int) 5 115 0 0 [vr (some a0), vi x1, vi x2, vi x3] σ (fun r_ τ_ => (r_ = some (vi r.1)) ∧ τ_ = r.2 ∧ sg_T τ_ ∧ sg_E σ τ_) := by
  refine Ct.of (by decide +kernel) (Nat.le_of_ble_eq_true rfl) (fun Γ C1 => ?_)
  have C0 := C1.1
  have hE : sg_E σ σ := sg_E.rf
  unfold f_X12_moveBy at hf
  show J_ Γ 0 [(0, vr (some a0)), (1, vi (x1)), (2, vi (x2)), (3, vi (x3))] [] σ 0 0
  refine J_aload_n (q := 1) C0 0 rfl rfl dX12_moveBy_0 rfl trivial ?_
  refine J_iload_n (q := 2) C0 1 rfl rfl dX12_moveBy_1 rfl ?_
  refine J_iconst (q := 3) (v := 1) C0 dX12_moveBy_2 rfl rfl ?_
  refine K_some hf (fun p1 hp1 hf => ?_)
  refine J_callV (q := 6) (ci := 11) (as := [vi (x1), vi (1)]) (rest := []) C0 rfl (h0) (t_X12_of a0 (x1) (1) (hT) (h0)  hp1) ml_X12_of lk_X12_254 im_X12_of se_X12_of rfl (by decide) dX12_moveBy_3 rfl rfl rfl (by simp [ac_]) C1.room (by decide) (by decide) (by decide) (by decide) (fun r_ τ_ hQ => ?_)
  obtain ⟨rfl, ht_⟩ := hQ; have ht_ := ht_.symm; subst ht_
  show J_ Γ 6 [(0, vr (some a0)), (1, vi (x1)), (2, vi (x2)), (3, vi (x3))] [vi (p1)] σ 0 0
  refine J_iconst (q := 7) (v := 1) C0 dX12_moveBy_6 rfl rfl ?_
  refine J_icmp_ne (t := 20) (q := 10) C0 dX12_moveBy_7 (by decide) rfl hf (fun c2 hf => ?_) (fun c2 hf => ?_)
  · refine J_aload_n (q := 21) C0 0 rfl rfl dX12_moveBy_20 rfl trivial ?_
    refine J_iload_n (q := 22) C0 1 rfl rfl dX12_moveBy_21 rfl ?_
    refine J_iconst (q := 23) (v := 0) C0 dX12_moveBy_22 rfl rfl ?_
    refine K_some hf (fun p3 hp3 hf => ?_)
    refine J_callV (q := 26) (ci := 11) (as := [vi (x1), vi (0)]) (rest := []) C0 rfl (h0) (t_X12_of a0 (x1) (0) (hT) (h0)  hp3) ml_X12_of lk_X12_254 im_X12_of se_X12_of rfl (by decide) dX12_moveBy_23 rfl rfl rfl (by simp [ac_]) C1.room (by decide) (by decide) (by decide) (by decide) (fun r_ τ_ hQ => ?_)
    obtain ⟨rfl, ht_⟩ := hQ; have ht_ := ht_.symm; subst ht_
    show J_ Γ 26 [(0, vr (some a0)), (1, vi (x1)), (2, vi (x2)), (3, vi (x3))] [vi (p3)] σ 0 0
    exact t_X12_moveBy_B26 C1    (x1) (x2) (x3) (p3) σ (hT) (hE) (h0)  hf
  · refine J_aload_n (q := 11) C0 0 rfl rfl dX12_moveBy_10 rfl trivial ?_
    refine J_iload_n (q := 12) C0 1 rfl rfl dX12_moveBy_11 rfl ?_
    refine J_iconst (q := 13) (v := 0) C0 dX12_moveBy_12 rfl rfl ?_
    refine K_some hf (fun p25 hp25 hf => ?_)
    refine J_callV (q := 16) (ci := 11) (as := [vi (x1), vi (0)]) (rest := []) C0 rfl (h0) (t_X12_of a0 (x1) (0) (hT) (h0)  hp25) ml_X12_of lk_X12_254 im_X12_of se_X12_of rfl (by decide) dX12_moveBy_13 rfl rfl rfl (by simp [ac_]) C1.room (by decide) (by decide) (by decide) (by decide) (fun r_ τ_ hQ => ?_)
    obtain ⟨rfl, ht_⟩ := hQ; have ht_ := ht_.symm; subst ht_
    show J_ Γ 16 [(0, vr (some a0)), (1, vi (x1)), (2, vi (x2)), (3, vi (x3))] [vi (p25)] σ 0 0
    refine J_ineg (q := 17) C0 dX12_moveBy_16 rfl ?_
    refine J_goto (q := 26) C0 dX12_moveBy_17 (by decide) ?_
    exact t_X12_moveBy_B26 C1    (x1) (x2) (x3) (-(p25)) σ (hT) (hE) (h0)  hf
