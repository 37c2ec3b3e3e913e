def f_X12_clause_B251 (N : Nat) (a0 : Nat) (v1 : Int32) (σ : Sg) : Option Sg :=
  Option.bind (sg_R σ a0 8) fun b21 =>
  if (sg_I σ a0 14) < 0 ∨ sg_L σ b21 ≤ (sg_I σ a0 14).toNatClampNeg then none else
  Option.bind (sg_R σ a0 12) fun b23 =>
  if (v1) < 0 ∨ sg_L σ b23 ≤ (v1).toNatClampNeg then none else
  Option.bind (sg_R (put_I σ b23 (v1).toNatClampNeg (sg_I σ b21 (sg_I σ a0 14).toNatClampNeg)) a0 9) fun b25 =>
  if (sg_I (put_I σ b23 (v1).toNatClampNeg (sg_I σ b21 (sg_I σ a0 14).toNatClampNeg)) a0 14) < 0 ∨ sg_L (put_I σ b23 (v1).toNatClampNeg (sg_I σ b21 (sg_I σ a0 14).toNatClampNeg)) b25 ≤ (sg_I (put_I σ b23 (v1).toNatClampNeg (sg_I σ b21 (sg_I σ a0 14).toNatClampNeg)) a0 14).toNatClampNeg then none else
  if (sg_I (put_I σ b23 (v1).toNatClampNeg (sg_I σ b21 (sg_I σ a0 14).toNatClampNeg)) a0 14) < 0 ∨ sg_L (put_I σ b23 (v1).toNatClampNeg (sg_I σ b21 (sg_I σ a0 14).toNatClampNeg)) b25 ≤ (sg_I (put_I σ b23 (v1).toNatClampNeg (sg_I σ b21 (sg_I σ a0 14).toNatClampNeg)) a0 14).toNatClampNeg then none else
  some (put_I (put_I σ b23 (v1).toNatClampNeg (sg_I σ b21 (sg_I σ a0 14).toNatClampNeg)) b25 (sg_I (put_I σ b23 (v1).toNatClampNeg (sg_I σ b21 (sg_I σ a0 14).toNatClampNeg)) a0 14).toNatClampNeg ((sg_I (put_I σ b23 (v1).toNatClampNeg (sg_I σ b21 (sg_I σ a0 14).toNatClampNeg)) b25 (sg_I (put_I σ b23 (v1).toNatClampNeg (sg_I σ b21 (sg_I σ a0 14).toNatClampNeg)) a0 14).toNatClampNeg) + (1)))
def f_X12_clause_B184 (N : Nat) (a0 : Nat) (v1 : Int32) (v2 : Int32) (σ : Sg) : Option Sg :=
  Option.bind (sg_R σ a0 10) fun b16 =>
  if (v1) < 0 ∨ sg_L σ b16 ≤ (v1).toNatClampNeg then none else
  Option.bind (sg_R σ a0 11) fun b18 =>
  if (v1) < 0 ∨ sg_L σ b18 ≤ (v1).toNatClampNeg then none else
  if (v2) = (0) then
  (f_X12_clause_B251 N a0 (v1) (put_I σ b18 (v1).toNatClampNeg (sg_I σ b16 (v1).toNatClampNeg)))
  else
  (if (sg_I (put_I σ b18 (v1).toNatClampNeg (sg_I σ b16 (v1).toNatClampNeg)) a0 4) = ((-1)) then
  (Option.bind (f_X12_look N a0  (put_I σ b18 (v1).toNatClampNeg (sg_I σ b16 (v1).toNatClampNeg))) fun p29 =>
  if (p29.1) = (63) then
  (Option.bind (sg_R (put_I p29.2 a0 3 ((sg_I p29.2 a0 3) + (1))) a0 8) fun b31 =>
  if (sg_I (put_I p29.2 a0 3 ((sg_I p29.2 a0 3) + (1))) a0 14) < 0 ∨ sg_L (put_I p29.2 a0 3 ((sg_I p29.2 a0 3) + (1))) b31 ≤ (sg_I (put_I p29.2 a0 3 ((sg_I p29.2 a0 3) + (1))) a0 14).toNatClampNeg then none else
  Option.bind (sg_R (put_I p29.2 a0 3 ((sg_I p29.2 a0 3) + (1))) a0 11) fun b33 =>
  if (v1) < 0 ∨ sg_L (put_I p29.2 a0 3 ((sg_I p29.2 a0 3) + (1))) b33 ≤ (v1).toNatClampNeg then none else
  Option.bind (f_X12_sum N a0  (put_I (put_I p29.2 a0 3 ((sg_I p29.2 a0 3) + (1))) b33 (v1).toNatClampNeg (sg_I (put_I p29.2 a0 3 ((sg_I p29.2 a0 3) + (1))) b31 (sg_I (put_I p29.2 a0 3 ((sg_I p29.2 a0 3) + (1))) a0 14).toNatClampNeg))) fun p35 =>
  f_X12_clause_B251 N a0 (v1) (p35))
  else
  (Option.bind (f_X12_bad a0  p29.2) fun p36 =>
  some (p36)))
  else
  (f_X12_clause_B251 N a0 (v1) (put_I σ b18 (v1).toNatClampNeg (sg_I σ b16 (v1).toNatClampNeg))))
def f_X12_clause_B167 (N : Nat) (a0 : Nat) (v1 : Int32) (s0 : Int32) (σ : Sg) : Option Sg :=
  if (s0) = (0) then
  (f_X12_clause_B184 N a0 (v1) (s0) σ)
  else
  (Option.bind (f_X12_compare N a0  σ) fun p37 =>
  Option.bind (f_X12_goOnAnd N a0  p37) fun p38 =>
  Option.bind (f_X12_goOnOr N a0  p38) fun p39 =>
  f_X12_clause_B184 N a0 (v1) (s0) (p39))
def f_X12_clause_B166 (N : Nat) (a0 : Nat) (v1 : Int32) (σ : Sg) : Option Sg :=
  f_X12_clause_B167 N a0 (v1) (0) σ
def f_X12_clause_B128 (N : Nat) (a0 : Nat) (v1 : Int32) (s0 : Int32) (σ : Sg) : Option Sg :=
  if (s0) = (0) then
  (Option.bind (f_X12_sum N a0  σ) fun p13 =>
  if (sg_I p13 a0 4) = ((-1)) then
  (Option.bind (f_X12_look N a0  p13) fun p40 =>
  Option.bind (f_X12_isSign (p40.1) ) fun p41 =>
  if (p41) = (0) then
  (f_X12_clause_B166 N a0 (v1) (p40.2))
  else
  (f_X12_clause_B167 N a0 (v1) (1) (p40.2)))
  else
  (f_X12_clause_B166 N a0 (v1) (p13)))
  else
  (Option.bind (f_X12_condition N a0  σ) fun p43 =>
  f_X12_clause_B184 N a0 (v1) (s0) (p43))
def f_X12_clause_B123 (N : Nat) (a0 : Nat) (v1 : Int32) (σ : Sg) : Option Sg :=
  f_X12_clause_B128 N a0 (v1) (1) σ
def f_X12_clause_B71 (N : Nat) (a0 : Nat) (v1 : Int32) (σ : Sg) : Option Sg :=
  if (sg_I (put_I σ a0 3 ((sg_I σ a0 3) + (1))) a0 4) = ((-1)) then
  (Option.bind (sg_R (put_I σ a0 3 ((sg_I σ a0 3) + (1))) a0 8) fun b6 =>
  if (sg_I (put_I σ a0 3 ((sg_I σ a0 3) + (1))) a0 14) < 0 ∨ sg_L (put_I σ a0 3 ((sg_I σ a0 3) + (1))) b6 ≤ (sg_I (put_I σ a0 3 ((sg_I σ a0 3) + (1))) a0 14).toNatClampNeg then none else
  Option.bind (sg_R (put_I σ a0 3 ((sg_I σ a0 3) + (1))) a0 10) fun b8 =>
  if (v1) < 0 ∨ sg_L (put_I σ a0 3 ((sg_I σ a0 3) + (1))) b8 ≤ (v1).toNatClampNeg then none else
  Option.bind (f_X12_look N a0  (put_I (put_I σ a0 3 ((sg_I σ a0 3) + (1))) b8 (v1).toNatClampNeg (sg_I (put_I σ a0 3 ((sg_I σ a0 3) + (1))) b6 (sg_I (put_I σ a0 3 ((sg_I σ a0 3) + (1))) a0 14).toNatClampNeg))) fun p10 =>
  if (p10.1) = (33) then
  (f_X12_clause_B123 N a0 (v1) (p10.2))
  else
  (Option.bind (f_X12_look N a0  p10.2) fun p44 =>
  if (p44.1) = (40) then
  (f_X12_clause_B123 N a0 (v1) (p44.2))
  else
  (f_X12_clause_B128 N a0 (v1) (0) (p44.2))))
  else
  (some (put_I σ a0 3 ((sg_I σ a0 3) + (1))))
def f_X12_clause_B40 (N : Nat) (a0 : Nat) (v1 : Int32) (σ : Sg) : Option Sg :=
  if (sg_I (put_I σ a0 3 ((sg_I σ a0 3) + (1))) a0 4) = ((-1)) then
  (Option.bind (f_X12_look N a0  (put_I σ a0 3 ((sg_I σ a0 3) + (1)))) fun p46 =>
  if (p46.1) = (58) then
  (f_X12_clause_B71 N a0 (v1) (p46.2))
  else
  (Option.bind (f_X12_bad a0  p46.2) fun p48 =>
  f_X12_clause_B71 N a0 (v1) (p48)))
  else
  (f_X12_clause_B71 N a0 (v1) (put_I σ a0 3 ((sg_I σ a0 3) + (1))))
def f_X12_clause (N : Nat) (a0 : Nat) (σ : Sg) : Option Sg :=
  Option.bind (sg_R σ a0 9) fun b1 =>
  if (sg_I σ a0 14) < 0 ∨ sg_L σ b1 ≤ (sg_I σ a0 14).toNatClampNeg then none else
  if (sg_I σ a0 4) = ((-1)) then
  (Option.bind (f_X12_look N a0  σ) fun p49 =>
  if (p49.1) = (121) then
  (f_X12_clause_B40 N a0 (((140) * (sg_I σ a0 14)) + (sg_I σ b1 (sg_I σ a0 14).toNatClampNeg)) (p49.2))
  else
  (Option.bind (f_X12_bad a0  p49.2) fun p51 =>
  f_X12_clause_B40 N a0 (((140) * (sg_I σ a0 14)) + (sg_I σ b1 (sg_I σ a0 14).toNatClampNeg)) (p51)))
  else
  (f_X12_clause_B40 N a0 (((140) * (sg_I σ a0 14)) + (sg_I σ b1 (sg_I σ a0 14).toNatClampNeg)) σ)
set_option maxHeartbeats 4000000 in
set_option maxRecDepth 100000 in
theorem t_X12_clause_B251 {N : Nat} {a0 : Nat} {Γ : Gm} {σ0 : Sg} {r : Sg} (C1 : CM Γ cX12_clause RX12 3 none 404 8482 0 0 (fun r_ τ_ => (r_ = none) ∧ τ_ = r ∧ sg_T τ_ ∧ sg_E σ0 τ_)) (v1 : Int32) (σ : Sg) (hT : sg_T σ) (hE : sg_E σ0 σ) (h0 : is_A σ a0 11) (hf : f_X12_clause_B251 N a0  v1 σ = some r) : J_ Γ 251 [(0, vr (some a0)), (1, vi (v1))] [] σ 0 0 := by
  have C0 := C1.1
  unfold f_X12_clause_B251 at hf
  refine J_aload_n (q := 252) C0 0 rfl rfl dX12_clause_251 rfl trivial ?_
  refine J_getR (q := 255) C0 fl_X12_31_11 rfl (h0) rfl dX12_clause_252 rfl ?_
  refine J_iload_n (q := 256) C0 1 rfl rfl dX12_clause_255 rfl ?_
  refine J_aload_n (q := 257) C0 0 rfl rfl dX12_clause_256 rfl trivial ?_
  refine J_getR (q := 260) C0 fl_X12_19_11 rfl (h0) rfl dX12_clause_257 rfl ?_
  refine J_aload_n (q := 261) C0 0 rfl rfl dX12_clause_260 rfl trivial ?_
  refine J_getI (q := 264) C0 fl_X12_113_11 rfl (h0) rfl dX12_clause_261 rfl ?_
  refine K_some hf (fun b21 hb21 hf => ?_)
  have ab21 : is_A σ b21 12 := ((sg_T.op hT (j := 8) (h0) rfl)) b21 hb21
  refine K_chk hf (fun c22 hf => ?_)
  refine J_iald (q := 265) C0 hb21 (ab21) c22 dX12_clause_264 rfl ?_
  refine K_some hf (fun b23 hb23 hf => ?_)
  have ab23 : is_A σ b23 12 := ((sg_T.op hT (j := 12) (h0) rfl)) b23 hb23
  refine K_chk hf (fun c24 hf => ?_)
  refine J_iast (q := 266) C0 hb23 (ab23) c24 dX12_clause_265 rfl ?_
  refine J_aload_n (q := 267) C0 0 rfl rfl dX12_clause_266 rfl trivial ?_
  refine J_getR (q := 270) C0 fl_X12_22_11 rfl ((h0).putI) rfl dX12_clause_267 rfl ?_
  refine J_aload_n (q := 271) C0 0 rfl rfl dX12_clause_270 rfl trivial ?_
  refine J_getI (q := 274) C0 fl_X12_113_11 rfl ((h0).putI) rfl dX12_clause_271 rfl ?_
  refine J_dup2 (q := 275) C0 dX12_clause_274 rfl rfl rfl ?_
  refine K_some hf (fun b25 hb25 hf => ?_)
  have ab25 : is_A (put_I σ b23 (v1).toNatClampNeg (sg_I σ b21 (sg_I σ a0 14).toNatClampNeg)) b25 12 := ((sg_T.op (hT).putI (j := 9) ((h0).putI) rfl)) b25 hb25
  refine K_chk hf (fun c26 hf => ?_)
  refine J_iald (q := 276) C0 hb25 (ab25) c26 dX12_clause_275 rfl ?_
  refine J_iconst (q := 277) (v := 1) C0 dX12_clause_276 rfl rfl ?_
  refine J_iadd (q := 278) C0 dX12_clause_277 rfl ?_
  refine K_chk hf (fun c27 hf => ?_)
  refine J_iast (q := 279) C0 hb25 (ab25) c27 dX12_clause_278 rfl ?_
  obtain rfl := Option.some.inj hf; exact J_vret C1 dX12_clause_279 rfl (Nat.zero_le _) (Nat.zero_le _) ⟨rfl, rfl, ((hT).putI).putI, ((hE).putI).putI⟩
set_option maxHeartbeats 4000000 in
set_option maxRecDepth 100000 in
theorem t_X12_clause_B184 {N : Nat} {a0 : Nat} {Γ : Gm} {σ0 : Sg} {r : Sg} (C1 : CM Γ cX12_clause RX12 3 none 404 8482 0 0 (fun r_ τ_ => (r_ = none) ∧ τ_ = r ∧ sg_T τ_ ∧ sg_E σ0 τ_)) (v1 : Int32) (v2 : Int32) (σ : Sg) (hT : sg_T σ) (hE : sg_E σ0 σ) (h0 : is_A σ a0 11) (hf : f_X12_clause_B184 N a0  v1 v2 σ = some r) : J_ Γ 184 [(0, vr (some a0)), (1, vi (v1)), (2, vi (v2))] [] σ 0 0 := by
  have C0 := C1.1
  unfold f_X12_clause_B184 at hf
  refine J_aload_n (q := 185) C0 0 rfl rfl dX12_clause_184 rfl trivial ?_
  refine J_getR (q := 188) C0 fl_X12_28_11 rfl (h0) rfl dX12_clause_185 rfl ?_
  refine J_iload_n (q := 189) C0 1 rfl rfl dX12_clause_188 rfl ?_
  refine J_aload_n (q := 190) C0 0 rfl rfl dX12_clause_189 rfl trivial ?_
  refine J_getR (q := 193) C0 fl_X12_25_11 rfl (h0) rfl dX12_clause_190 rfl ?_
  refine J_iload_n (q := 194) C0 1 rfl rfl dX12_clause_193 rfl ?_
  refine K_some hf (fun b16 hb16 hf => ?_)
  have ab16 : is_A σ b16 12 := ((sg_T.op hT (j := 10) (h0) rfl)) b16 hb16
  refine K_chk hf (fun c17 hf => ?_)
  refine J_iald (q := 195) C0 hb16 (ab16) c17 dX12_clause_194 rfl ?_
  refine K_some hf (fun b18 hb18 hf => ?_)
  have ab18 : is_A σ b18 12 := ((sg_T.op hT (j := 11) (h0) rfl)) b18 hb18
  refine K_chk hf (fun c19 hf => ?_)
  refine J_iast (q := 196) C0 hb18 (ab18) c19 dX12_clause_195 rfl ?_
  refine J_iload_n (q := 197) C0 2 rfl rfl dX12_clause_196 rfl ?_
  refine J_if_eq (t := 251) (q := 200) C0 dX12_clause_197 (by decide) rfl hf (fun c20 hf => ?_) (fun c20 hf => ?_)
  · refine J_sub (lv' := [(0, vr (some a0)), (1, vi (v1))]) [0, 1] rfl ?_
    exact t_X12_clause_B251 C1    (v1) (put_I σ b18 (v1).toNatClampNeg (sg_I σ b16 (v1).toNatClampNeg)) ((hT).putI) ((hE).putI) ((h0).putI)  hf
  · refine J_aload_n (q := 201) C0 0 rfl rfl dX12_clause_200 rfl trivial ?_
    refine J_getI (q := 204) C0 fl_X12_110_11 rfl ((h0).putI) rfl dX12_clause_201 rfl ?_
    refine J_iconst (q := 205) (v := (-1)) C0 dX12_clause_204 rfl rfl ?_
    refine J_icmp_ne (t := 251) (q := 208) C0 dX12_clause_205 (by decide) rfl hf (fun c28 hf => ?_) (fun c28 hf => ?_)
    · refine J_sub (lv' := [(0, vr (some a0)), (1, vi (v1))]) [0, 1] rfl ?_
      exact t_X12_clause_B251 C1    (v1) (put_I σ b18 (v1).toNatClampNeg (sg_I σ b16 (v1).toNatClampNeg)) ((hT).putI) ((hE).putI) ((h0).putI)  hf
    · refine J_aload_n (q := 209) C0 0 rfl rfl dX12_clause_208 rfl trivial ?_
      refine K_some hf (fun p29 hp29 hf => ?_)
      refine J_callV (q := 212) (ci := 11) (as := []) (rest := []) C0 rfl ((h0).putI) (t_X12_look N a0  ((hT).putI) ((h0).putI)  hp29) ml_X12_look lk_X12_122 im_X12_look se_X12_look rfl (by decide) dX12_clause_209 rfl rfl rfl (by simp [ac_]) C1.room (by decide) (by decide) (by decide) (by decide) (fun r_ τ_ hQ => ?_)
      obtain ⟨rfl, rfl, Tp29, Ep29⟩ := hQ
      show J_ Γ 212 [(0, vr (some a0)), (1, vi (v1)), (2, vi (v2))] [vi (p29.1)] p29.2 0 0
      refine J_bipush (q := 214) (v := 63) C0 dX12_clause_212 rfl rfl ?_
      refine J_icmp_eq (t := 222) (q := 217) C0 dX12_clause_214 (by decide) rfl hf (fun c30 hf => ?_) (fun c30 hf => ?_)
      · refine J_aload_n (q := 223) C0 0 rfl rfl dX12_clause_222 rfl trivial ?_
        refine J_dup (q := 224) C0 dX12_clause_223 rfl rfl ?_
        refine J_getI (q := 227) C0 fl_X12_103_11 rfl ((Ep29.at (h0).putI)) rfl dX12_clause_224 rfl ?_
        refine J_iconst (q := 228) (v := 1) C0 dX12_clause_227 rfl rfl ?_
        refine J_iadd (q := 229) C0 dX12_clause_228 rfl ?_
        refine J_putI (q := 232) C0 fl_X12_103_11 rfl ((Ep29.at (h0).putI)) rfl dX12_clause_229 rfl ?_
        refine J_aload_n (q := 233) C0 0 rfl rfl dX12_clause_232 rfl trivial ?_
        refine J_getR (q := 236) C0 fl_X12_28_11 rfl (((Ep29.at (h0).putI)).putI) rfl dX12_clause_233 rfl ?_
        refine J_iload_n (q := 237) C0 1 rfl rfl dX12_clause_236 rfl ?_
        refine J_aload_n (q := 238) C0 0 rfl rfl dX12_clause_237 rfl trivial ?_
        refine J_getR (q := 241) C0 fl_X12_19_11 rfl (((Ep29.at (h0).putI)).putI) rfl dX12_clause_238 rfl ?_
        refine J_aload_n (q := 242) C0 0 rfl rfl dX12_clause_241 rfl trivial ?_
        refine J_getI (q := 245) C0 fl_X12_113_11 rfl (((Ep29.at (h0).putI)).putI) rfl dX12_clause_242 rfl ?_
        refine K_some hf (fun b31 hb31 hf => ?_)
        have ab31 : is_A (put_I p29.2 a0 3 ((sg_I p29.2 a0 3) + (1))) b31 12 := ((sg_T.op (Tp29).putI (j := 8) (((Ep29.at (h0).putI)).putI) rfl)) b31 hb31
        refine K_chk hf (fun c32 hf => ?_)
        refine J_iald (q := 246) C0 hb31 (ab31) c32 dX12_clause_245 rfl ?_
        refine K_some hf (fun b33 hb33 hf => ?_)
        have ab33 : is_A (put_I p29.2 a0 3 ((sg_I p29.2 a0 3) + (1))) b33 12 := ((sg_T.op (Tp29).putI (j := 11) (((Ep29.at (h0).putI)).putI) rfl)) b33 hb33
        refine K_chk hf (fun c34 hf => ?_)
        refine J_iast (q := 247) C0 hb33 (ab33) c34 dX12_clause_246 rfl ?_
        refine J_aload_n (q := 248) C0 0 rfl rfl dX12_clause_247 rfl trivial ?_
        refine K_some hf (fun p35 hp35 hf => ?_)
        refine J_callV (q := 251) (ci := 11) (as := []) (rest := []) C0 rfl ((((Ep29.at (h0).putI)).putI).putI) (t_X12_sum N a0  (((Tp29).putI).putI) ((((Ep29.at (h0).putI)).putI).putI)  hp35) ml_X12_sum lk_X12_143 im_X12_sum se_X12_sum rfl (by decide) dX12_clause_248 rfl rfl rfl (by simp [ac_]) C1.room (by decide) (by decide) (by decide) (by decide) (fun r_ τ_ hQ => ?_)
        obtain ⟨rfl, ht_, Tp35, Ep35⟩ := hQ; have ht_ := ht_.symm; subst ht_
        show J_ Γ 251 [(0, vr (some a0)), (1, vi (v1)), (2, vi (v2))] [] p35 0 0
        refine J_sub (lv' := [(0, vr (some a0)), (1, vi (v1))]) [0, 1] rfl ?_
        exact t_X12_clause_B251 C1    (v1) (p35) (Tp35) ((((((hE).putI).tr Ep29).putI).putI).tr Ep35) ((Ep35.at (((Ep29.at (h0).putI)).putI).putI))  hf
      · refine J_aload_n (q := 218) C0 0 rfl rfl dX12_clause_217 rfl trivial ?_
        refine K_some hf (fun p36 hp36 hf => ?_)
        refine J_callV (q := 221) (ci := 11) (as := []) (rest := []) C0 rfl ((Ep29.at (h0).putI)) (t_X12_bad a0  (Tp29) ((Ep29.at (h0).putI))  hp36) ml_X12_bad lk_X12_119 im_X12_bad se_X12_bad rfl (by decide) dX12_clause_218 rfl rfl rfl (by simp [ac_]) C1.room (by decide) (by decide) (by decide) (by decide) (fun r_ τ_ hQ => ?_)
        obtain ⟨rfl, ht_, Tp36, Ep36⟩ := hQ; have ht_ := ht_.symm; subst ht_
        show J_ Γ 221 [(0, vr (some a0)), (1, vi (v1)), (2, vi (v2))] [] p36 0 0
        obtain rfl := Option.some.inj hf; exact J_vret C1 dX12_clause_221 rfl (Nat.zero_le _) (Nat.zero_le _) ⟨rfl, rfl, Tp36, (((hE).putI).tr Ep29).tr Ep36⟩
set_option maxHeartbeats 4000000 in
set_option maxRecDepth 100000 in
theorem t_X12_clause_B167 {N : Nat} {a0 : Nat} {Γ : Gm} {σ0 : Sg} {r : Sg} (C1 : CM Γ cX12_clause RX12 3 none 404 8482 0 0 (fun r_ τ_ => (r_ = none) ∧ τ_ = r ∧ sg_T τ_ ∧ sg_E σ0 τ_)) (v1 : Int32) (s0 : Int32) (σ : Sg) (hT : sg_T σ) (hE : sg_E σ0 σ) (h0 : is_A σ a0 11) (hf : f_X12_clause_B167 N a0  v1 s0 σ = some r) : J_ Γ 167 [(0, vr (some a0)), (1, vi (v1))] [vi (s0)] σ 0 0 := by
  have C0 := C1.1
  unfold f_X12_clause_B167 at hf
  refine J_istore_n (q := 168) (lv' := [(2, vi (s0)), (0, vr (some a0)), (1, vi (v1))]) C0 rfl (G_nl C1 (by decide)) dX12_clause_167 rfl rfl ?_
  refine J_iload_n (q := 169) C0 0 rfl rfl dX12_clause_168 rfl ?_
  refine J_if_eq (t := 184) (q := 172) C0 dX12_clause_169 (by decide) rfl hf (fun c15 hf => ?_) (fun c15 hf => ?_)
  · refine J_sub (lv' := [(0, vr (some a0)), (1, vi (v1)), (2, vi (s0))]) [1, 2, 0] rfl ?_
    exact t_X12_clause_B184 C1    (v1) (s0) σ (hT) (hE) (h0)  hf
  · refine J_aload_n (q := 173) C0 1 rfl rfl dX12_clause_172 rfl trivial ?_
    refine K_some hf (fun p37 hp37 hf => ?_)
    refine J_callV (q := 176) (ci := 11) (as := []) (rest := []) C0 rfl (h0) (t_X12_compare N a0  (hT) (h0)  hp37) ml_X12_compare lk_X12_165 im_X12_compare se_X12_compare rfl (by decide) dX12_clause_173 rfl rfl rfl (by simp [ac_]) C1.room (by decide) (by decide) (by decide) (by decide) (fun r_ τ_ hQ => ?_)
    obtain ⟨rfl, ht_, Tp37, Ep37⟩ := hQ; have ht_ := ht_.symm; subst ht_
    show J_ Γ 176 [(2, vi (s0)), (0, vr (some a0)), (1, vi (v1))] [] p37 0 0
    refine J_aload_n (q := 177) C0 1 rfl rfl dX12_clause_176 rfl trivial ?_
    refine K_some hf (fun p38 hp38 hf => ?_)
    refine J_callV (q := 180) (ci := 11) (as := []) (rest := []) C0 rfl ((Ep37.at h0)) (t_X12_goOnAnd N a0  (Tp37) ((Ep37.at h0))  hp38) ml_X12_goOnAnd lk_X12_168 im_X12_goOnAnd se_X12_goOnAnd rfl (by decide) dX12_clause_177 rfl rfl rfl (by simp [ac_]) C1.room (by decide) (by decide) (by decide) (by decide) (fun r_ τ_ hQ => ?_)
    obtain ⟨rfl, ht_, Tp38, Ep38⟩ := hQ; have ht_ := ht_.symm; subst ht_
    show J_ Γ 180 [(2, vi (s0)), (0, vr (some a0)), (1, vi (v1))] [] p38 0 0
    refine J_aload_n (q := 181) C0 1 rfl rfl dX12_clause_180 rfl trivial ?_
    refine K_some hf (fun p39 hp39 hf => ?_)
    refine J_callV (q := 184) (ci := 11) (as := []) (rest := []) C0 rfl ((Ep38.at (Ep37.at h0))) (t_X12_goOnOr N a0  (Tp38) ((Ep38.at (Ep37.at h0)))  hp39) ml_X12_goOnOr lk_X12_171 im_X12_goOnOr se_X12_goOnOr rfl (by decide) dX12_clause_181 rfl rfl rfl (by simp [ac_]) C1.room (by decide) (by decide) (by decide) (by decide) (fun r_ τ_ hQ => ?_)
    obtain ⟨rfl, ht_, Tp39, Ep39⟩ := hQ; have ht_ := ht_.symm; subst ht_
    show J_ Γ 184 [(2, vi (s0)), (0, vr (some a0)), (1, vi (v1))] [] p39 0 0
    refine J_sub (lv' := [(0, vr (some a0)), (1, vi (v1)), (2, vi (s0))]) [1, 2, 0] rfl ?_
    exact t_X12_clause_B184 C1    (v1) (s0) (p39) (Tp39) ((((hE).tr Ep37).tr Ep38).tr Ep39) ((Ep39.at (Ep38.at (Ep37.at h0))))  hf
set_option maxHeartbeats 4000000 in
set_option maxRecDepth 100000 in
theorem t_X12_clause_B166 {N : Nat} {a0 : Nat} {Γ : Gm} {σ0 : Sg} {r : Sg} (C1 : CM Γ cX12_clause RX12 3 none 404 8482 0 0 (fun r_ τ_ => (r_ = none) ∧ τ_ = r ∧ sg_T τ_ ∧ sg_E σ0 τ_)) (v1 : Int32) (σ : Sg) (hT : sg_T σ) (hE : sg_E σ0 σ) (h0 : is_A σ a0 11) (hf : f_X12_clause_B166 N a0  v1 σ = some r) : J_ Γ 166 [(0, vr (some a0)), (1, vi (v1))] [] σ 0 0 := by
  have C0 := C1.1
  unfold f_X12_clause_B166 at hf
  refine J_iconst (q := 167) (v := 0) C0 dX12_clause_166 rfl rfl ?_
  exact t_X12_clause_B167 C1    (v1) (0) σ (hT) (hE) (h0)  hf
set_option maxHeartbeats 4000000 in
set_option maxRecDepth 100000 in
theorem t_X12_clause_B128 {N : Nat} {a0 : Nat} {Γ : Gm} {σ0 : Sg} {r : Sg} (C1 : CM Γ cX12_clause RX12 3 none 404 8482 0 0 (fun r_ τ_ => (r_ = none) ∧ τ_ = r ∧ sg_T τ_ ∧ sg_E σ0 τ_)) (v1 : Int32) (s0 : Int32) (σ : Sg) (hT : sg_T σ) (hE : sg_E σ0 σ) (h0 : is_A σ a0 11) (hf : f_X12_clause_B128 N a0  v1 s0 σ = some r) : J_ Γ 128 [(0, vr (some a0)), (1, vi (v1))] [vi (s0)] σ 0 0 := by
  have C0 := C1.1
  unfold f_X12_clause_B128 at hf
  refine J_istore_n (q := 129) (lv' := [(2, vi (s0)), (0, vr (some a0)), (1, vi (v1))]) C0 rfl (G_nl C1 (by decide)) dX12_clause_128 rfl rfl ?_
  refine J_iload_n (q := 130) C0 0 rfl rfl dX12_clause_129 rfl ?_
  refine J_if_eq (t := 140) (q := 133) C0 dX12_clause_130 (by decide) rfl hf (fun c12 hf => ?_) (fun c12 hf => ?_)
  · refine J_aload_n (q := 141) C0 1 rfl rfl dX12_clause_140 rfl trivial ?_
    refine K_some hf (fun p13 hp13 hf => ?_)
    refine J_callV (q := 144) (ci := 11) (as := []) (rest := []) C0 rfl (h0) (t_X12_sum N a0  (hT) (h0)  hp13) ml_X12_sum lk_X12_143 im_X12_sum se_X12_sum rfl (by decide) dX12_clause_141 rfl rfl rfl (by simp [ac_]) C1.room (by decide) (by decide) (by decide) (by decide) (fun r_ τ_ hQ => ?_)
    obtain ⟨rfl, ht_, Tp13, Ep13⟩ := hQ; have ht_ := ht_.symm; subst ht_
    show J_ Γ 144 [(2, vi (s0)), (0, vr (some a0)), (1, vi (v1))] [] p13 0 0
    refine J_aload_n (q := 145) C0 1 rfl rfl dX12_clause_144 rfl trivial ?_
    refine J_getI (q := 148) C0 fl_X12_110_11 rfl ((Ep13.at h0)) rfl dX12_clause_145 rfl ?_
    refine J_iconst (q := 149) (v := (-1)) C0 dX12_clause_148 rfl rfl ?_
    refine J_icmp_ne (t := 166) (q := 152) C0 dX12_clause_149 (by decide) rfl hf (fun c14 hf => ?_) (fun c14 hf => ?_)
    · refine J_sub (lv' := [(0, vr (some a0)), (1, vi (v1))]) [1, 2] rfl ?_
      exact t_X12_clause_B166 C1    (v1) (p13) (Tp13) ((hE).tr Ep13) ((Ep13.at h0))  hf
    · refine J_aload_n (q := 153) C0 1 rfl rfl dX12_clause_152 rfl trivial ?_
      refine K_some hf (fun p40 hp40 hf => ?_)
      refine J_callV (q := 156) (ci := 11) (as := []) (rest := []) C0 rfl ((Ep13.at h0)) (t_X12_look N a0  (Tp13) ((Ep13.at h0))  hp40) ml_X12_look lk_X12_122 im_X12_look se_X12_look rfl (by decide) dX12_clause_153 rfl rfl rfl (by simp [ac_]) C1.room (by decide) (by decide) (by decide) (by decide) (fun r_ τ_ hQ => ?_)
      obtain ⟨rfl, rfl, Tp40, Ep40⟩ := hQ
      show J_ Γ 156 [(2, vi (s0)), (0, vr (some a0)), (1, vi (v1))] [vi (p40.1)] p40.2 0 0
      refine K_some hf (fun p41 hp41 hf => ?_)
      refine J_callS (q := 159) (as := [vi (p40.1)]) (rest := []) C0 (t_X12_isSign (p40.1)  hp41) ml_X12_isSign lk_X12_156 sm_X12_isSign dX12_clause_156 rfl rfl rfl (by simp [ac_]) C1.room (by decide) (by decide) (by decide) (by decide) (fun r_ τ_ hQ => ?_)
      obtain ⟨⟨rfl, zp41⟩, ht_⟩ := hQ; have ht_ := ht_.symm; subst ht_
      show J_ Γ 159 [(2, vi (s0)), (0, vr (some a0)), (1, vi (v1))] [vi (p41)] p40.2 0 0
      refine J_if_eq (t := 166) (q := 162) C0 dX12_clause_159 (by decide) rfl hf (fun c42 hf => ?_) (fun c42 hf => ?_)
      · refine J_sub (lv' := [(0, vr (some a0)), (1, vi (v1))]) [1, 2] rfl ?_
        exact t_X12_clause_B166 C1    (v1) (p40.2) (Tp40) (((hE).tr Ep13).tr Ep40) ((Ep40.at (Ep13.at h0)))  hf
      · refine J_iconst (q := 163) (v := 1) C0 dX12_clause_162 rfl rfl ?_
        refine J_goto (q := 167) C0 dX12_clause_163 (by decide) ?_
        refine J_sub (lv' := [(0, vr (some a0)), (1, vi (v1))]) [1, 2] rfl ?_
        exact t_X12_clause_B167 C1    (v1) (1) (p40.2) (Tp40) (((hE).tr Ep13).tr Ep40) ((Ep40.at (Ep13.at h0)))  hf
  · refine J_aload_n (q := 134) C0 1 rfl rfl dX12_clause_133 rfl trivial ?_
    refine K_some hf (fun p43 hp43 hf => ?_)
    refine J_callV (q := 137) (ci := 11) (as := []) (rest := []) C0 rfl (h0) (t_X12_condition N a0  (hT) (h0)  hp43) ml_X12_condition lk_X12_162 im_X12_condition se_X12_condition rfl (by decide) dX12_clause_134 rfl rfl rfl (by simp [ac_]) C1.room (by decide) (by decide) (by decide) (by decide) (fun r_ τ_ hQ => ?_)
    obtain ⟨rfl, ht_, Tp43, Ep43⟩ := hQ; have ht_ := ht_.symm; subst ht_
    show J_ Γ 137 [(2, vi (s0)), (0, vr (some a0)), (1, vi (v1))] [] p43 0 0
    refine J_goto (q := 184) C0 dX12_clause_137 (by decide) ?_
    refine J_sub (lv' := [(0, vr (some a0)), (1, vi (v1)), (2, vi (s0))]) [1, 2, 0] rfl ?_
    exact t_X12_clause_B184 C1    (v1) (s0) (p43) (Tp43) ((hE).tr Ep43) ((Ep43.at h0))  hf
set_option maxHeartbeats 4000000 in
set_option maxRecDepth 100000 in
theorem t_X12_clause_B123 {N : Nat} {a0 : Nat} {Γ : Gm} {σ0 : Sg} {r : Sg} (C1 : CM Γ cX12_clause RX12 3 none 404 8482 0 0 (fun r_ τ_ => (r_ = none) ∧ τ_ = r ∧ sg_T τ_ ∧ sg_E σ0 τ_)) (v1 : Int32) (σ : Sg) (hT : sg_T σ) (hE : sg_E σ0 σ) (h0 : is_A σ a0 11) (hf : f_X12_clause_B123 N a0  v1 σ = some r) : J_ Γ 123 [(0, vr (some a0)), (1, vi (v1))] [] σ 0 0 := by
  have C0 := C1.1
  unfold f_X12_clause_B123 at hf
  refine J_iconst (q := 124) (v := 1) C0 dX12_clause_123 rfl rfl ?_
  refine J_goto (q := 128) C0 dX12_clause_124 (by decide) ?_
  exact t_X12_clause_B128 C1    (v1) (1) σ (hT) (hE) (h0)  hf
set_option maxHeartbeats 4000000 in
set_option maxRecDepth 100000 in
theorem t_X12_clause_B71 {N : Nat} {a0 : Nat} {Γ : Gm} {σ0 : Sg} {r : Sg} (C1 : CM Γ cX12_clause RX12 3 none 404 8482 0 0 (fun r_ τ_ => (r_ = none) ∧ τ_ = r ∧ sg_T τ_ ∧ sg_E σ0 τ_)) (v1 : Int32) (σ : Sg) (hT : sg_T σ) (hE : sg_E σ0 σ) (h0 : is_A σ a0 11) (hf : f_X12_clause_B71 N a0  v1 σ = some r) : J_ Γ 71 [(0, vr (some a0)), (1, vi (v1))] [] σ 0 0 := by
  have C0 := C1.1
  unfold f_X12_clause_B71 at hf
  refine J_aload_n (q := 72) C0 0 rfl rfl dX12_clause_71 rfl trivial ?_
  refine J_dup (q := 73) C0 dX12_clause_72 rfl rfl ?_
  refine J_getI (q := 76) C0 fl_X12_103_11 rfl (h0) rfl dX12_clause_73 rfl ?_
  refine J_iconst (q := 77) (v := 1) C0 dX12_clause_76 rfl rfl ?_
  refine J_iadd (q := 78) C0 dX12_clause_77 rfl ?_
  refine J_putI (q := 81) C0 fl_X12_103_11 rfl (h0) rfl dX12_clause_78 rfl ?_
  refine J_aload_n (q := 82) C0 0 rfl rfl dX12_clause_81 rfl trivial ?_
  refine J_getI (q := 85) C0 fl_X12_110_11 rfl ((h0).putI) rfl dX12_clause_82 rfl ?_
  refine J_iconst (q := 86) (v := (-1)) C0 dX12_clause_85 rfl rfl ?_
  refine J_icmp_eq (t := 90) (q := 89) C0 dX12_clause_86 (by decide) rfl hf (fun c5 hf => ?_) (fun c5 hf => ?_)
  · refine J_aload_n (q := 91) C0 0 rfl rfl dX12_clause_90 rfl trivial ?_
    refine J_getR (q := 94) C0 fl_X12_25_11 rfl ((h0).putI) rfl dX12_clause_91 rfl ?_
    refine J_iload_n (q := 95) C0 1 rfl rfl dX12_clause_94 rfl ?_
    refine J_aload_n (q := 96) C0 0 rfl rfl dX12_clause_95 rfl trivial ?_
    refine J_getR (q := 99) C0 fl_X12_19_11 rfl ((h0).putI) rfl dX12_clause_96 rfl ?_
    refine J_aload_n (q := 100) C0 0 rfl rfl dX12_clause_99 rfl trivial ?_
    refine J_getI (q := 103) C0 fl_X12_113_11 rfl ((h0).putI) rfl dX12_clause_100 rfl ?_
    refine K_some hf (fun b6 hb6 hf => ?_)
    have ab6 : is_A (put_I σ a0 3 ((sg_I σ a0 3) + (1))) b6 12 := ((sg_T.op (hT).putI (j := 8) ((h0).putI) rfl)) b6 hb6
    refine K_chk hf (fun c7 hf => ?_)
    refine J_iald (q := 104) C0 hb6 (ab6) c7 dX12_clause_103 rfl ?_
    refine K_some hf (fun b8 hb8 hf => ?_)
    have ab8 : is_A (put_I σ a0 3 ((sg_I σ a0 3) + (1))) b8 12 := ((sg_T.op (hT).putI (j := 10) ((h0).putI) rfl)) b8 hb8
    refine K_chk hf (fun c9 hf => ?_)
    refine J_iast (q := 105) C0 hb8 (ab8) c9 dX12_clause_104 rfl ?_
    refine J_aload_n (q := 106) C0 0 rfl rfl dX12_clause_105 rfl trivial ?_
    refine K_some hf (fun p10 hp10 hf => ?_)
    refine J_callV (q := 109) (ci := 11) (as := []) (rest := []) C0 rfl (((h0).putI).putI) (t_X12_look N a0  (((hT).putI).putI) (((h0).putI).putI)  hp10) ml_X12_look lk_X12_122 im_X12_look se_X12_look rfl (by decide) dX12_clause_106 rfl rfl rfl (by simp [ac_]) C1.room (by decide) (by decide) (by decide) (by decide) (fun r_ τ_ hQ => ?_)
    obtain ⟨rfl, rfl, Tp10, Ep10⟩ := hQ
    show J_ Γ 109 [(0, vr (some a0)), (1, vi (v1))] [vi (p10.1)] p10.2 0 0
    refine J_bipush (q := 111) (v := 33) C0 dX12_clause_109 rfl rfl ?_
    refine J_icmp_eq (t := 123) (q := 114) C0 dX12_clause_111 (by decide) rfl hf (fun c11 hf => ?_) (fun c11 hf => ?_)
    · exact t_X12_clause_B123 C1    (v1) (p10.2) (Tp10) ((((hE).putI).putI).tr Ep10) ((Ep10.at ((h0).putI).putI))  hf
    · refine J_aload_n (q := 115) C0 0 rfl rfl dX12_clause_114 rfl trivial ?_
      refine K_some hf (fun p44 hp44 hf => ?_)
      refine J_callV (q := 118) (ci := 11) (as := []) (rest := []) C0 rfl ((Ep10.at ((h0).putI).putI)) (t_X12_look N a0  (Tp10) ((Ep10.at ((h0).putI).putI))  hp44) ml_X12_look lk_X12_122 im_X12_look se_X12_look rfl (by decide) dX12_clause_115 rfl rfl rfl (by simp [ac_]) C1.room (by decide) (by decide) (by decide) (by decide) (fun r_ τ_ hQ => ?_)
      obtain ⟨rfl, rfl, Tp44, Ep44⟩ := hQ
      show J_ Γ 118 [(0, vr (some a0)), (1, vi (v1))] [vi (p44.1)] p44.2 0 0
      refine J_bipush (q := 120) (v := 40) C0 dX12_clause_118 rfl rfl ?_
      refine J_icmp_ne (t := 127) (q := 123) C0 dX12_clause_120 (by decide) rfl hf (fun c45 hf => ?_) (fun c45 hf => ?_)
      · refine J_iconst (q := 128) (v := 0) C0 dX12_clause_127 rfl rfl ?_
        exact t_X12_clause_B128 C1    (v1) (0) (p44.2) (Tp44) (((((hE).putI).putI).tr Ep10).tr Ep44) ((Ep44.at (Ep10.at ((h0).putI).putI)))  hf
      · exact t_X12_clause_B123 C1    (v1) (p44.2) (Tp44) (((((hE).putI).putI).tr Ep10).tr Ep44) ((Ep44.at (Ep10.at ((h0).putI).putI)))  hf
  · obtain rfl := Option.some.inj hf; exact J_vret C1 dX12_clause_89 rfl (Nat.zero_le _) (Nat.zero_le _) ⟨rfl, rfl, (hT).putI, (hE).putI⟩
set_option maxHeartbeats 4000000 in
set_option maxRecDepth 100000 in
theorem t_X12_clause_B40 {N : Nat} {a0 : Nat} {Γ : Gm} {σ0 : Sg} {r : Sg} (C1 : CM Γ cX12_clause RX12 3 none 404 8482 0 0 (fun r_ τ_ => (r_ = none) ∧ τ_ = r ∧ sg_T τ_ ∧ sg_E σ0 τ_)) (v1 : Int32) (σ : Sg) (hT : sg_T σ) (hE : sg_E σ0 σ) (h0 : is_A σ a0 11) (hf : f_X12_clause_B40 N a0  v1 σ = some r) : J_ Γ 40 [(0, vr (some a0)), (1, vi (v1))] [] σ 0 0 := by
  have C0 := C1.1
  unfold f_X12_clause_B40 at hf
  refine J_aload_n (q := 41) C0 0 rfl rfl dX12_clause_40 rfl trivial ?_
  refine J_dup (q := 42) C0 dX12_clause_41 rfl rfl ?_
  refine J_getI (q := 45) C0 fl_X12_103_11 rfl (h0) rfl dX12_clause_42 rfl ?_
  refine J_iconst (q := 46) (v := 1) C0 dX12_clause_45 rfl rfl ?_
  refine J_iadd (q := 47) C0 dX12_clause_46 rfl ?_
  refine J_putI (q := 50) C0 fl_X12_103_11 rfl (h0) rfl dX12_clause_47 rfl ?_
  refine J_aload_n (q := 51) C0 0 rfl rfl dX12_clause_50 rfl trivial ?_
  refine J_getI (q := 54) C0 fl_X12_110_11 rfl ((h0).putI) rfl dX12_clause_51 rfl ?_
  refine J_iconst (q := 55) (v := (-1)) C0 dX12_clause_54 rfl rfl ?_
  refine J_icmp_ne (t := 71) (q := 58) C0 dX12_clause_55 (by decide) rfl hf (fun c4 hf => ?_) (fun c4 hf => ?_)
  · exact t_X12_clause_B71 C1    (v1) (put_I σ a0 3 ((sg_I σ a0 3) + (1))) ((hT).putI) ((hE).putI) ((h0).putI)  hf
  · refine J_aload_n (q := 59) C0 0 rfl rfl dX12_clause_58 rfl trivial ?_
    refine K_some hf (fun p46 hp46 hf => ?_)
    refine J_callV (q := 62) (ci := 11) (as := []) (rest := []) C0 rfl ((h0).putI) (t_X12_look N a0  ((hT).putI) ((h0).putI)  hp46) ml_X12_look lk_X12_122 im_X12_look se_X12_look rfl (by decide) dX12_clause_59 rfl rfl rfl (by simp [ac_]) C1.room (by decide) (by decide) (by decide) (by decide) (fun r_ τ_ hQ => ?_)
    obtain ⟨rfl, rfl, Tp46, Ep46⟩ := hQ
    show J_ Γ 62 [(0, vr (some a0)), (1, vi (v1))] [vi (p46.1)] p46.2 0 0
    refine J_bipush (q := 64) (v := 58) C0 dX12_clause_62 rfl rfl ?_
    refine J_icmp_eq (t := 71) (q := 67) C0 dX12_clause_64 (by decide) rfl hf (fun c47 hf => ?_) (fun c47 hf => ?_)
    · exact t_X12_clause_B71 C1    (v1) (p46.2) (Tp46) (((hE).putI).tr Ep46) ((Ep46.at (h0).putI))  hf
    · refine J_aload_n (q := 68) C0 0 rfl rfl dX12_clause_67 rfl trivial ?_
      refine K_some hf (fun p48 hp48 hf => ?_)
      refine J_callV (q := 71) (ci := 11) (as := []) (rest := []) C0 rfl ((Ep46.at (h0).putI)) (t_X12_bad a0  (Tp46) ((Ep46.at (h0).putI))  hp48) ml_X12_bad lk_X12_119 im_X12_bad se_X12_bad rfl (by decide) dX12_clause_68 rfl rfl rfl (by simp [ac_]) C1.room (by decide) (by decide) (by decide) (by decide) (fun r_ τ_ hQ => ?_)
      obtain ⟨rfl, ht_, Tp48, Ep48⟩ := hQ; have ht_ := ht_.symm; subst ht_
      show J_ Γ 71 [(0, vr (some a0)), (1, vi (v1))] [] p48 0 0
      exact t_X12_clause_B71 C1    (v1) (p48) (Tp48) ((((hE).putI).tr Ep46).tr Ep48) ((Ep48.at (Ep46.at (h0).putI)))  hf
set_option maxHeartbeats 4000000 in
set_option maxRecDepth 100000 in
theorem t_X12_clause (N : Nat) (a0 : Nat) {σ : Sg} (hT : sg_T σ) (h0 : is_A σ a0 11) {r : Sg} (hf : f_X12_clause N a0  σ = some r) : Ct yX12_clause cX12_clause 3 none 404 8482 0 0 [vr (some a0)] σ (fun r_ τ_ => (r_ = none) ∧ τ_ = r ∧ sg_T τ_ ∧ sg_E σ τ_) := by
  refine Ct.of (by decide +kernel) (Nat.le_of_ble_eq_true rfl) (fun Γ C1 => ?_)
  have C0 := C1.1
  have hE : sg_E σ σ := sg_E.rf
  unfold f_X12_clause at hf
  show J_ Γ 0 [(0, vr (some a0))] [] σ 0 0
  refine J_sipush (q := 3) (v := 140) C0 dX12_clause_0 rfl rfl ?_
  refine J_aload_n (q := 4) C0 0 rfl rfl dX12_clause_3 rfl trivial ?_
  refine J_getI (q := 7) C0 fl_X12_113_11 rfl (h0) rfl dX12_clause_4 rfl ?_
  refine J_imul (q := 8) C0 dX12_clause_7 rfl ?_
  refine J_aload_n (q := 9) C0 0 rfl rfl dX12_clause_8 rfl trivial ?_
  refine J_getR (q := 12) C0 fl_X12_22_11 rfl (h0) rfl dX12_clause_9 rfl ?_
  refine J_aload_n (q := 13) C0 0 rfl rfl dX12_clause_12 rfl trivial ?_
  refine J_getI (q := 16) C0 fl_X12_113_11 rfl (h0) rfl dX12_clause_13 rfl ?_
  refine K_some hf (fun b1 hb1 hf => ?_)
  have ab1 : is_A σ b1 12 := ((sg_T.op hT (j := 9) (h0) rfl)) b1 hb1
  refine K_chk hf (fun c2 hf => ?_)
  refine J_iald (q := 17) C0 hb1 (ab1) c2 dX12_clause_16 rfl ?_
  refine J_iadd (q := 18) C0 dX12_clause_17 rfl ?_
  refine J_istore_n (q := 19) (lv' := [(1, vi (((140) * (sg_I σ a0 14)) + (sg_I σ b1 (sg_I σ a0 14).toNatClampNeg))), (0, vr (some a0))]) C0 rfl (G_nl C1 (by decide)) dX12_clause_18 rfl rfl ?_
  refine J_aload_n (q := 20) C0 1 rfl rfl dX12_clause_19 rfl trivial ?_
  refine J_getI (q := 23) C0 fl_X12_110_11 rfl (h0) rfl dX12_clause_20 rfl ?_
  refine J_iconst (q := 24) (v := (-1)) C0 dX12_clause_23 rfl rfl ?_
  refine J_icmp_ne (t := 40) (q := 27) C0 dX12_clause_24 (by decide) rfl hf (fun c3 hf => ?_) (fun c3 hf => ?_)
  · refine J_sub (lv' := [(0, vr (some a0)), (1, vi (((140) * (sg_I σ a0 14)) + (sg_I σ b1 (sg_I σ a0 14).toNatClampNeg)))]) [1, 0] rfl ?_
    exact t_X12_clause_B40 C1    (((140) * (sg_I σ a0 14)) + (sg_I σ b1 (sg_I σ a0 14).toNatClampNeg)) σ (hT) (hE) (h0)  hf
  · refine J_aload_n (q := 28) C0 1 rfl rfl dX12_clause_27 rfl trivial ?_
    refine K_some hf (fun p49 hp49 hf => ?_)
    refine J_callV (q := 31) (ci := 11) (as := []) (rest := []) C0 rfl (h0) (t_X12_look N a0  (hT) (h0)  hp49) ml_X12_look lk_X12_122 im_X12_look se_X12_look rfl (by decide) dX12_clause_28 rfl rfl rfl (by simp [ac_]) C1.room (by decide) (by decide) (by decide) (by decide) (fun r_ τ_ hQ => ?_)
    obtain ⟨rfl, rfl, Tp49, Ep49⟩ := hQ
    show J_ Γ 31 [(1, vi (((140) * (sg_I σ a0 14)) + (sg_I σ b1 (sg_I σ a0 14).toNatClampNeg))), (0, vr (some a0))] [vi (p49.1)] p49.2 0 0
    refine J_bipush (q := 33) (v := 121) C0 dX12_clause_31 rfl rfl ?_
    refine J_icmp_eq (t := 40) (q := 36) C0 dX12_clause_33 (by decide) rfl hf (fun c50 hf => ?_) (fun c50 hf => ?_)
    · refine J_sub (lv' := [(0, vr (some a0)), (1, vi (((140) * (sg_I σ a0 14)) + (sg_I σ b1 (sg_I σ a0 14).toNatClampNeg)))]) [1, 0] rfl ?_
      exact t_X12_clause_B40 C1    (((140) * (sg_I σ a0 14)) + (sg_I σ b1 (sg_I σ a0 14).toNatClampNeg)) (p49.2) (Tp49) ((hE).tr Ep49) ((Ep49.at h0))  hf
    · refine J_aload_n (q := 37) C0 1 rfl rfl dX12_clause_36 rfl trivial ?_
      refine K_some hf (fun p51 hp51 hf => ?_)
      refine J_callV (q := 40) (ci := 11) (as := []) (rest := []) C0 rfl ((Ep49.at h0)) (t_X12_bad a0  (Tp49) ((Ep49.at h0))  hp51) ml_X12_bad lk_X12_119 im_X12_bad se_X12_bad rfl (by decide) dX12_clause_37 rfl rfl rfl (by simp [ac_]) C1.room (by decide) (by decide) (by decide) (by decide) (fun r_ τ_ hQ => ?_)
      obtain ⟨rfl, ht_, Tp51, Ep51⟩ := hQ; have ht_ := ht_.symm; subst ht_
      show J_ Γ 40 [(1, vi (((140) * (sg_I σ a0 14)) + (sg_I σ b1 (sg_I σ a0 14).toNatClampNeg))), (0, vr (some a0))] [] p51 0 0
      refine J_sub (lv' := [(0, vr (some a0)), (1, vi (((140) * (sg_I σ a0 14)) + (sg_I σ b1 (sg_I σ a0 14).toNatClampNeg)))]) [1, 0] rfl ?_
      exact t_X12_clause_B40 C1    (((140) * (sg_I σ a0 14)) + (sg_I σ b1 (sg_I σ a0 14).toNatClampNeg)) (p51) (Tp51) (((hE).tr Ep49).tr Ep51) ((Ep51.at (Ep49.at h0)))  hf
def f_X12_open (a0 : Nat) (x1 : Int32) (σ : Sg) : Option Sg :=
  Option.bind (sg_R (put_I (put_I (put_I (put_I σ a0 14 (x1)) a0 3 (0)) a0 4 ((-1))) a0 5 (0)) a0 8) fun b1 =>
  if (x1) < 0 ∨ sg_L (put_I (put_I (put_I (put_I σ a0 14 (x1)) a0 3 (0)) a0 4 ((-1))) a0 5 (0)) b1 ≤ (x1).toNatClampNeg then none else
  Option.bind (sg_R (put_I (put_I (put_I (put_I (put_I σ a0 14 (x1)) a0 3 (0)) a0 4 ((-1))) a0 5 (0)) b1 (x1).toNatClampNeg (0)) a0 9) fun b3 =>
  if (x1) < 0 ∨ sg_L (put_I (put_I (put_I (put_I (put_I σ a0 14 (x1)) a0 3 (0)) a0 4 ((-1))) a0 5 (0)) b1 (x1).toNatClampNeg (0)) b3 ≤ (x1).toNatClampNeg then none else
  some (put_I (put_I (put_I (put_I (put_I (put_I σ a0 14 (x1)) a0 3 (0)) a0 4 ((-1))) a0 5 (0)) b1 (x1).toNatClampNeg (0)) b3 (x1).toNatClampNeg (0))
set_option maxHeartbeats 4000000 in
set_option maxRecDepth 100000 in
theorem t_X12_open (a0 : Nat) (x1 : Int32) {σ : Sg} (hT : sg_T σ) (h0 : is_A σ a0 11) {r : Sg} (hf : f_X12_open a0 x1 σ = some r) : Ct yX12_open cX12_open 2 none 0 0 0 0 [vr (some a0), vi x1] σ (fun r_ τ_ => (r_ = none) ∧ τ_ = r ∧ sg_T τ_ ∧ sg_E σ τ_) := by
  refine Ct.of (by decide +kernel) (Nat.le_of_ble_eq_true rfl) (fun Γ C1 => ?_)
  have C0 := C1.1
  have hE : sg_E σ σ := sg_E.rf
  unfold f_X12_open at hf
  show J_ Γ 0 [(0, vr (some a0)), (1, vi (x1))] [] σ 0 0
  refine J_aload_n (q := 1) C0 0 rfl rfl dX12_open_0 rfl trivial ?_
  refine J_iload_n (q := 2) C0 1 rfl rfl dX12_open_1 rfl ?_
  refine J_putI (q := 5) C0 fl_X12_113_11 rfl (h0) rfl dX12_open_2 rfl ?_
  refine J_aload_n (q := 6) C0 0 rfl rfl dX12_open_5 rfl trivial ?_
  refine J_iconst (q := 7) (v := 0) C0 dX12_open_6 rfl rfl ?_
  refine J_putI (q := 10) C0 fl_X12_103_11 rfl ((h0).putI) rfl dX12_open_7 rfl ?_
  refine J_aload_n (q := 11) C0 0 rfl rfl dX12_open_10 rfl trivial ?_
  refine J_iconst (q := 12) (v := (-1)) C0 dX12_open_11 rfl rfl ?_
  refine J_putI (q := 15) C0 fl_X12_110_11 rfl (((h0).putI).putI) rfl dX12_open_12 rfl ?_
  refine J_aload_n (q := 16) C0 0 rfl rfl dX12_open_15 rfl trivial ?_
  refine J_iconst (q := 17) (v := 0) C0 dX12_open_16 rfl rfl ?_
  refine J_putI (q := 20) C0 fl_X12_116_11 rfl ((((h0).putI).putI).putI) rfl dX12_open_17 rfl ?_
  refine J_aload_n (q := 21) C0 0 rfl rfl dX12_open_20 rfl trivial ?_
  refine J_getR (q := 24) C0 fl_X12_19_11 rfl (((((h0).putI).putI).putI).putI) rfl dX12_open_21 rfl ?_
  refine J_iload_n (q := 25) C0 1 rfl rfl dX12_open_24 rfl ?_
  refine J_iconst (q := 26) (v := 0) C0 dX12_open_25 rfl rfl ?_
  refine K_some hf (fun b1 hb1 hf => ?_)
  have ab1 : is_A (put_I (put_I (put_I (put_I σ a0 14 (x1)) a0 3 (0)) a0 4 ((-1))) a0 5 (0)) b1 12 := ((sg_T.op ((((hT).putI).putI).putI).putI (j := 8) (((((h0).putI).putI).putI).putI) rfl)) b1 hb1
  refine K_chk hf (fun c2 hf => ?_)
  refine J_iast (q := 27) C0 hb1 (ab1) c2 dX12_open_26 rfl ?_
  refine J_aload_n (q := 28) C0 0 rfl rfl dX12_open_27 rfl trivial ?_
  refine J_getR (q := 31) C0 fl_X12_22_11 rfl ((((((h0).putI).putI).putI).putI).putI) rfl dX12_open_28 rfl ?_
  refine J_iload_n (q := 32) C0 1 rfl rfl dX12_open_31 rfl ?_
  refine J_iconst (q := 33) (v := 0) C0 dX12_open_32 rfl rfl ?_
  refine K_some hf (fun b3 hb3 hf => ?_)
  have ab3 : is_A (put_I (put_I (put_I (put_I (put_I σ a0 14 (x1)) a0 3 (0)) a0 4 ((-1))) a0 5 (0)) b1 (x1).toNatClampNeg (0)) b3 12 := ((sg_T.op (((((hT).putI).putI).putI).putI).putI (j := 9) ((((((h0).putI).putI).putI).putI).putI) rfl)) b3 hb3
  refine K_chk hf (fun c4 hf => ?_)
  refine J_iast (q := 34) C0 hb3 (ab3) c4 dX12_open_33 rfl ?_
  obtain rfl := Option.some.inj hf; exact J_vret C1 dX12_open_34 rfl (Nat.zero_le _) (Nat.zero_le _) ⟨rfl, rfl, ((((((hT).putI).putI).putI).putI).putI).putI, ((((((hE).putI).putI).putI).putI).putI).putI⟩
def f_X12_atEnd_B20 (N : Nat) (a0 : Nat) (σ : Sg) : Option (Int32 × Sg) :=
  some (sg_I σ a0 4, σ)
def f_X12_atEnd (N : Nat) (a0 : Nat) (σ : Sg) : Option (Int32 × Sg) :=
  if (sg_I σ a0 4) = ((-1)) then
  (Option.bind (f_X12_look N a0  σ) fun p2 =>
  if (p2.1) = ((-1)) then
  (f_X12_atEnd_B20 N a0  (p2.2))
  else
  (Option.bind (f_X12_bad a0  p2.2) fun p4 =>
  f_X12_atEnd_B20 N a0  (p4)))
  else
  (f_X12_atEnd_B20 N a0  σ)
set_option maxHeartbeats 4000000 in
set_option maxRecDepth 100000 in
theorem t_X12_atEnd_B20 {N : Nat} {a0 : Nat} {Γ : Gm} {σ0 : Sg} {r : (Int32 × Sg)} (C1 : CM Γ cX12_atEnd RX12 1 (some .int) 2 40 0 0 (fun r_ τ_ => (r_ = some (vi r.1)) ∧ τ_ = r.2 ∧ sg_T τ_ ∧ sg_E σ0 τ_)) (σ : Sg) (hT : sg_T σ) (hE : sg_E σ0 σ) (h0 : is_A σ a0 11) (hf : f_X12_atEnd_B20 N a0   σ = some r) : J_ Γ 20 [(0, vr (some a0))] [] σ 0 0 := by
  have C0 := C1.1
  unfold f_X12_atEnd_B20 at hf
  refine J_aload_n (q := 21) C0 0 rfl rfl dX12_atEnd_20 rfl trivial ?_
  refine J_getI (q := 24) C0 fl_X12_110_11 rfl (h0) rfl dX12_atEnd_21 rfl ?_
  obtain rfl := Option.some.inj hf; exact J_iret C1 dX12_atEnd_24 rfl (Nat.zero_le _) (Nat.zero_le _) ⟨rfl, rfl, hT, hE⟩
set_option maxHeartbeats 4000000 in
set_option maxRecDepth 100000 in
theorem t_X12_atEnd (N : Nat) (a0 : Nat) {σ : Sg} (hT : sg_T σ) (h0 : is_A σ a0 11) {r : (Int32 × Sg)} (hf : f_X12_atEnd N a0  σ = some r) : Ct yX12_atEnd cX12_atEnd 1 (some .int) 2 40 0 0 [vr (some a0)] σ (fun r_ τ_ => (r_ = some (vi r.1)) ∧ τ_ = r.2 ∧ sg_T τ_ ∧ sg_E σ τ_) := by
  refine Ct.of (by decide +kernel) (Nat.le_of_ble_eq_true rfl) (fun Γ C1 => ?_)
  have C0 := C1.1
  have hE : sg_E σ σ := sg_E.rf
  unfold f_X12_atEnd at hf
  show J_ Γ 0 [(0, vr (some a0))] [] σ 0 0
  refine J_aload_n (q := 1) C0 0 rfl rfl dX12_atEnd_0 rfl trivial ?_
  refine J_getI (q := 4) C0 fl_X12_110_11 rfl (h0) rfl dX12_atEnd_1 rfl ?_
  refine J_iconst (q := 5) (v := (-1)) C0 dX12_atEnd_4 rfl rfl ?_
  refine J_icmp_ne (t := 20) (q := 8) C0 dX12_atEnd_5 (by decide) rfl hf (fun c1 hf => ?_) (fun c1 hf => ?_)
  · exact t_X12_atEnd_B20 C1     σ (hT) (hE) (h0)  hf
  · refine J_aload_n (q := 9) C0 0 rfl rfl dX12_atEnd_8 rfl trivial ?_
    refine K_some hf (fun p2 hp2 hf => ?_)
    refine J_callV (q := 12) (ci := 11) (as := []) (rest := []) C0 rfl (h0) (t_X12_look N a0  (hT) (h0)  hp2) ml_X12_look lk_X12_122 im_X12_look se_X12_look rfl (by decide) dX12_atEnd_9 rfl rfl rfl (by simp [ac_]) C1.room (by decide) (by decide) (by decide) (by decide) (fun r_ τ_ hQ => ?_)
    obtain ⟨rfl, rfl, Tp2, Ep2⟩ := hQ
    show J_ Γ 12 [(0, vr (some a0))] [vi (p2.1)] p2.2 0 0
    refine J_iconst (q := 13) (v := (-1)) C0 dX12_atEnd_12 rfl rfl ?_
    refine J_icmp_eq (t := 20) (q := 16) C0 dX12_atEnd_13 (by decide) rfl hf (fun c3 hf => ?_) (fun c3 hf => ?_)
    · exact t_X12_atEnd_B20 C1     (p2.2) (Tp2) ((hE).tr Ep2) ((Ep2.at h0))  hf
    · refine J_aload_n (q := 17) C0 0 rfl rfl dX12_atEnd_16 rfl trivial ?_
      refine K_some hf (fun p4 hp4 hf => ?_)
      refine J_callV (q := 20) (ci := 11) (as := []) (rest := []) C0 rfl ((Ep2.at h0)) (t_X12_bad a0  (Tp2) ((Ep2.at h0))  hp4) ml_X12_bad lk_X12_119 im_X12_bad se_X12_bad rfl (by decide) dX12_atEnd_17 rfl rfl rfl (by simp [ac_]) C1.room (by decide) (by decide) (by decide) (by decide) (fun r_ τ_ hQ => ?_)
      obtain ⟨rfl, ht_, Tp4, Ep4⟩ := hQ; have ht_ := ht_.symm; subst ht_
      show J_ Γ 20 [(0, vr (some a0))] [] p4 0 0
      exact t_X12_atEnd_B20 C1     (p4) (Tp4) (((hE).tr Ep2).tr Ep4) ((Ep4.at (Ep2.at h0)))  hf
def f_X12_readLaw_B43 (N : Nat) (a0 : Nat) (σ : Sg) : Option (Int32 × Sg) :=
  Option.bind (f_X12_atEnd N a0  σ) fun p4 =>
  some (p4.1, p4.2)
def f_X12_readLaw_L9 (N : Nat) (a0 : Nat) : Nat → Sg → Option (Int32 × Sg)
  | 0, _ => none
  | n + 1, σ =>
  if (sg_I σ a0 4) = ((-1)) then
  (Option.bind (f_X12_look N a0  σ) fun p5 =>
  if (p5.1) = (59) then
  (Option.bind (f_X12_clause N a0  (put_I p5.2 a0 3 ((sg_I p5.2 a0 3) + (1)))) fun p7 =>
  f_X12_readLaw_L9 N a0 n  (p7))
  else
  (f_X12_readLaw_B43 N a0  (p5.2)))
  else
  (f_X12_readLaw_B43 N a0  σ)
def f_X12_readLaw (N : Nat) (a0 : Nat) (x1 : Int32) (σ : Sg) : Option (Int32 × Sg) :=
  Option.bind (f_X12_open a0 (x1) σ) fun p1 =>
  Option.bind (f_X12_clause N a0  p1) fun p2 =>
  f_X12_readLaw_L9 N a0 N  (p2)
set_option maxHeartbeats 4000000 in
set_option maxRecDepth 100000 in
theorem t_X12_readLaw_B43 {N : Nat} {a0 : Nat} {Γ : Gm} {σ0 : Sg} {r : (Int32 × Sg)} (C1 : CM Γ cX12_readLaw RX12 2 (some .int) 405 8504 0 0 (fun r_ τ_ => (r_ = some (vi r.1)) ∧ τ_ = r.2 ∧ sg_T τ_ ∧ sg_E σ0 τ_)) (σ : Sg) (hT : sg_T σ) (hE : sg_E σ0 σ) (h0 : is_A σ a0 11) (hf : f_X12_readLaw_B43 N a0   σ = some r) : J_ Γ 43 [(0, vr (some a0))] [] σ 0 0 := by
  have C0 := C1.1
  unfold f_X12_readLaw_B43 at hf
  refine J_aload_n (q := 44) C0 0 rfl rfl dX12_readLaw_43 rfl trivial ?_
  refine K_some hf (fun p4 hp4 hf => ?_)
  refine J_callV (q := 47) (ci := 11) (as := []) (rest := []) C0 rfl (h0) (t_X12_atEnd N a0  (hT) (h0)  hp4) ml_X12_atEnd lk_X12_180 im_X12_atEnd se_X12_atEnd rfl (by decide) dX12_readLaw_44 rfl rfl rfl (by simp [ac_]) C1.room (by decide) (by decide) (by decide) (by decide) (fun r_ τ_ hQ => ?_)
  obtain ⟨rfl, rfl, Tp4, Ep4⟩ := hQ
  show J_ Γ 47 [(0, vr (some a0))] [vi (p4.1)] p4.2 0 0
  obtain rfl := Option.some.inj hf; exact J_iret C1 dX12_readLaw_47 rfl (Nat.zero_le _) (Nat.zero_le _) ⟨rfl, rfl, Tp4, (hE).tr Ep4⟩
set_option maxHeartbeats 4000000 in
set_option maxRecDepth 100000 in
theorem t_X12_readLaw_L9 {N : Nat} {a0 : Nat} {Γ : Gm} {σ0 : Sg} {r : (Int32 × Sg)} (C1 : CM Γ cX12_readLaw RX12 2 (some .int) 405 8504 0 0 (fun r_ τ_ => (r_ = some (vi r.1)) ∧ τ_ = r.2 ∧ sg_T τ_ ∧ sg_E σ0 τ_)) : ∀ (n : Nat) (σ : Sg), sg_T σ → sg_E σ0 σ → is_A σ a0 11 → f_X12_readLaw_L9 N a0  n  σ = some r → J_ Γ 9 [(0, vr (some a0))] [] σ 0 0 := by
  have C0 := C1.1
  intro n
  induction n with
  | zero => intro  σ hT hE h0  hf; unfold f_X12_readLaw_L9 at hf; cases hf
  | succ n ih =>
    intro  σ hT hE h0  hf
    rw [f_X12_readLaw_L9] at hf
    refine J_aload_n (q := 10) C0 0 rfl rfl dX12_readLaw_9 rfl trivial ?_
    refine J_getI (q := 13) C0 fl_X12_110_11 rfl (h0) rfl dX12_readLaw_10 rfl ?_
    refine J_iconst (q := 14) (v := (-1)) C0 dX12_readLaw_13 rfl rfl ?_
    refine J_icmp_ne (t := 43) (q := 17) C0 dX12_readLaw_14 (by decide) rfl hf (fun c3 hf => ?_) (fun c3 hf => ?_)
    · exact t_X12_readLaw_B43 C1     σ (hT) (hE) (h0)  hf
    · refine J_aload_n (q := 18) C0 0 rfl rfl dX12_readLaw_17 rfl trivial ?_
      refine K_some hf (fun p5 hp5 hf => ?_)
      refine J_callV (q := 21) (ci := 11) (as := []) (rest := []) C0 rfl (h0) (t_X12_look N a0  (hT) (h0)  hp5) ml_X12_look lk_X12_122 im_X12_look se_X12_look rfl (by decide) dX12_readLaw_18 rfl rfl rfl (by simp [ac_]) C1.room (by decide) (by decide) (by decide) (by decide) (fun r_ τ_ hQ => ?_)
      obtain ⟨rfl, rfl, Tp5, Ep5⟩ := hQ
      show J_ Γ 21 [(0, vr (some a0))] [vi (p5.1)] p5.2 0 0
      refine J_bipush (q := 23) (v := 59) C0 dX12_readLaw_21 rfl rfl ?_
      refine J_icmp_ne (t := 43) (q := 26) C0 dX12_readLaw_23 (by decide) rfl hf (fun c6 hf => ?_) (fun c6 hf => ?_)
      · exact t_X12_readLaw_B43 C1     (p5.2) (Tp5) ((hE).tr Ep5) ((Ep5.at h0))  hf
      · refine J_aload_n (q := 27) C0 0 rfl rfl dX12_readLaw_26 rfl trivial ?_
        refine J_dup (q := 28) C0 dX12_readLaw_27 rfl rfl ?_
        refine J_getI (q := 31) C0 fl_X12_103_11 rfl ((Ep5.at h0)) rfl dX12_readLaw_28 rfl ?_
        refine J_iconst (q := 32) (v := 1) C0 dX12_readLaw_31 rfl rfl ?_
        refine J_iadd (q := 33) C0 dX12_readLaw_32 rfl ?_
        refine J_putI (q := 36) C0 fl_X12_103_11 rfl ((Ep5.at h0)) rfl dX12_readLaw_33 rfl ?_
        refine J_aload_n (q := 37) C0 0 rfl rfl dX12_readLaw_36 rfl trivial ?_
        refine K_some hf (fun p7 hp7 hf => ?_)
        refine J_callV (q := 40) (ci := 11) (as := []) (rest := []) C0 rfl (((Ep5.at h0)).putI) (t_X12_clause N a0  ((Tp5).putI) (((Ep5.at h0)).putI)  hp7) ml_X12_clause lk_X12_177 im_X12_clause se_X12_clause rfl (by decide) dX12_readLaw_37 rfl rfl rfl (by simp [ac_]) C1.room (by decide) (by decide) (by decide) (by decide) (fun r_ τ_ hQ => ?_)
        obtain ⟨rfl, ht_, Tp7, Ep7⟩ := hQ; have ht_ := ht_.symm; subst ht_
        show J_ Γ 40 [(0, vr (some a0))] [] p7 0 0
        refine J_goto (q := 9) C0 dX12_readLaw_40 (by decide) ?_
        exact ih  (p7) (Tp7) ((((hE).tr Ep5).putI).tr Ep7) ((Ep7.at ((Ep5.at h0)).putI))  hf
set_option maxHeartbeats 4000000 in
set_option maxRecDepth 100000 in
theorem t_X12_readLaw (N : Nat) (a0 : Nat) (x1 : Int32) {σ : Sg} (hT : sg_T σ) (h0 : is_A σ a0 11) {r : (Int32 × Sg)} (hf : f_X12_readLaw N a0 x1 σ = some r) : Ct yX12_readLaw cX12_readLaw 2 (some .int) 405 8504 0 0 [vr (some a0), vi x1] σ (fun r_ τ_ => (r_ = some (vi r.1)) ∧ τ_ = r.2 ∧ sg_T τ_ ∧ sg_E σ τ_) := by
  refine Ct.of (by decide +kernel) (Nat.le_of_ble_eq_true rfl) (fun Γ C1 => ?_)
  have C0 := C1.1
  have hE : sg_E σ σ := sg_E.rf
  unfold f_X12_readLaw at hf
  show J_ Γ 0 [(0, vr (some a0)), (1, vi (x1))] [] σ 0 0
  refine J_aload_n (q := 1) C0 0 rfl rfl dX12_readLaw_0 rfl trivial ?_
  refine J_iload_n (q := 2) C0 1 rfl rfl dX12_readLaw_1 rfl ?_
  refine K_some hf (fun p1 hp1 hf => ?_)
  refine J_callV (q := 5) (ci := 11) (as := [vi (x1)]) (rest := []) C0 rfl (h0) (t_X12_open a0 (x1) (hT) (h0)  hp1) ml_X12_open lk_X12_174 im_X12_open se_X12_open rfl (by decide) dX12_readLaw_2 rfl rfl rfl (by simp [ac_]) C1.room (by decide) (by decide) (by decide) (by decide) (fun r_ τ_ hQ => ?_)
  obtain ⟨rfl, ht_, Tp1, Ep1⟩ := hQ; have ht_ := ht_.symm; subst ht_
  show J_ Γ 5 [(0, vr (some a0)), (1, vi (x1))] [] p1 0 0
  refine J_aload_n (q := 6) C0 0 rfl rfl dX12_readLaw_5 rfl trivial ?_
  refine K_some hf (fun p2 hp2 hf => ?_)
  refine J_callV (q := 9) (ci := 11) (as := []) (rest := []) C0 rfl ((Ep1.at h0)) (t_X12_clause N a0  (Tp1) ((Ep1.at h0))  hp2) ml_X12_clause lk_X12_177 im_X12_clause se_X12_clause rfl (by decide) dX12_readLaw_6 rfl rfl rfl (by simp [ac_]) C1.room (by decide) (by decide) (by decide) (by decide) (fun r_ τ_ hQ => ?_)
  obtain ⟨rfl, ht_, Tp2, Ep2⟩ := hQ; have ht_ := ht_.symm; subst ht_
  show J_ Γ 9 [(0, vr (some a0)), (1, vi (x1))] [] p2 0 0
  refine J_sub (lv' := [(0, vr (some a0))]) [0] rfl ?_
  exact t_X12_readLaw_L9 C1    N  (p2) (Tp2) (((hE).tr Ep1).tr Ep2) ((Ep2.at (Ep1.at h0)))  hf
def f_X12_bounded (x0 : Int64) : Option Int32 :=
  Option.bind (f_J9_min_f86c9 (1000000) (x0) ) fun p1 =>
  Option.bind (f_J9_max_f86c9 ((-1000000)) (p1) ) fun p2 =>
  some ((p2).toInt32)
set_option maxHeartbeats 4000000 in
set_option maxRecDepth 100000 in
theorem t_X12_bounded (x0 : Int64) {σ : Sg} {r : Int32} (hf : f_X12_bounded x0 = some r) : Ct yX12_bounded cX12_bounded 2 (some .int) 1 23 0 0 [vl x0] σ (fun r_ τ_ => (r_ = some (vi r)) ∧ τ_ = σ) := by
  refine Ct.of (by decide +kernel) (Nat.le_of_ble_eq_true rfl) (fun Γ C1 => ?_)
  have C0 := C1.1
  unfold f_X12_bounded at hf
  show J_ Γ 0 [(0, vl (x0))] [] σ 0 0
  refine J_ldc2_w (q := 3) C0 kc_X12_183 dX12_bounded_0 rfl ?_
  refine J_ldc2_w (q := 6) C0 kc_X12_185 dX12_bounded_3 rfl ?_
  refine J_lload_n (q := 7) C0 0 rfl rfl dX12_bounded_6 rfl ?_
  refine K_some hf (fun p1 hp1 hf => ?_)
  refine J_callS (q := 10) (as := [vl (1000000), vl (x0)]) (rest := [vl ((-1000000))]) C0 (t_J9_min_f86c9 (1000000) (x0)  hp1) ml_J9_min_f86c9 lk_X12_187 sm_J9_min_f86c9 dX12_bounded_7 rfl rfl rfl (by simp [ac_]) C1.room (by decide) (by decide) (by decide) (by decide) (fun r_ τ_ hQ => ?_)
  obtain ⟨rfl, ht_⟩ := hQ; have ht_ := ht_.symm; subst ht_
  show J_ Γ 10 [(0, vl (x0))] [vl (p1), vl ((-1000000))] σ 0 0
  refine K_some hf (fun p2 hp2 hf => ?_)
  refine J_callS (q := 13) (as := [vl ((-1000000)), vl (p1)]) (rest := []) C0 (t_J9_max_f86c9 ((-1000000)) (p1)  hp2) ml_J9_max_f86c9 lk_X12_193 sm_J9_max_f86c9 dX12_bounded_10 rfl rfl rfl (by simp [ac_]) C1.room (by decide) (by decide) (by decide) (by decide) (fun r_ τ_ hQ => ?_)
  obtain ⟨rfl, ht_⟩ := hQ; have ht_ := ht_.symm; subst ht_
  show J_ Γ 13 [(0, vl (x0))] [vl (p2)] σ 0 0
  refine J_l2i (q := 14) C0 dX12_bounded_13 rfl ?_
  obtain rfl := Option.some.inj hf; exact J_iret C1 dX12_bounded_14 rfl (Nat.zero_le _) (Nat.zero_le _) ⟨rfl, rfl⟩
def f_X12_worked (x0 : Int32) (x1 : Int64) (x3 : Int64) : Option Int32 :=
  if (x0) = 2 then
  (Option.bind (f_X12_bounded ((x1) + (x3)) ) fun p2 =>
  some (p2))
  else
  if (x0) = 3 then
  (Option.bind (f_X12_bounded ((x1) - (x3)) ) fun p4 =>
  some (p4))
  else
  if (x0) = 4 then
  (Option.bind (f_X12_bounded ((x1) * (x3)) ) fun p6 =>
  some (p6))
  else
  if (x0) = 5 then
  (if (lg_cmp (x3) (0)) = (0) then
  (some (0))
  else
  (if (x3) = 0 then none else
  Option.bind (f_X12_bounded ((x1) / (x3)) ) fun p10 =>
  some (p10)))
  else
  if (x0) = 6 then
  (if (lg_cmp (x1) (x3)) = (0) then
  (some (1))
  else
  (some (0)))
  else
  if (x0) = 7 then
  (if (lg_cmp (x1) (x3)) < (0) then
  (some (1))
  else
  (some (0)))
  else
  if (x0) = 8 then
  (if (0) < (lg_cmp (x1) (x3)) then
  (some (1))
  else
  (some (0)))
  else
  if (x0) = 9 then
  (if (lg_cmp (x1) (0)) = (0) then
  (if (lg_cmp (x3) (0)) = (0) then
  (some (0))
  else
  (some (1)))
  else
  (some (1)))
  else
  if (x0) = 10 then
  (if (lg_cmp (x1) (0)) = (0) then
  (some (0))
  else
  (if (lg_cmp (x3) (0)) = (0) then
  (some (0))
  else
  (some (1))))
  else
  (if (lg_cmp (x1) (0)) = (0) then
  (if (lg_cmp (x3) (0)) = (0) then
  (some (0))
  else
  (some (1)))
  else
  (some (1)))
set_option maxHeartbeats 4000000 in
set_option maxRecDepth 100000 in
theorem t_X12_worked (x0 : Int32) (x1 : Int64) (x3 : Int64) {σ : Sg} {r : Int32} (hf : f_X12_worked x0 x1 x3 = some r) : Ct yX12_worked cX12_worked 5 (some .int) 2 44 0 0 [vi x0, vl x1, vl x3] σ (fun r_ τ_ => (r_ = some (vi r)) ∧ τ_ = σ) := by
  refine Ct.of (by decide +kernel) (Nat.le_of_ble_eq_true rfl) (fun Γ C1 => ?_)
  have C0 := C1.1
  unfold f_X12_worked at hf
  show J_ Γ 0 [(0, vi (x0)), (1, vl (x1)), (3, vl (x3))] [] σ 0 0
  refine J_iload_n (q := 1) C0 0 rfl rfl dX12_worked_0 rfl ?_
  refine K_ite hf (fun c1 hf => ?_) (fun c1 hf => ?_)
  · refine J_tblIn (t := 52) (off := 51) C0 dX12_worked_1 (by rw [c1]; decide) (by rw [c1]; decide) (by rw [c1]; rfl) (by decide) ?_
    refine J_lload_n (q := 53) C0 1 rfl rfl dX12_worked_52 rfl ?_
    refine J_lload_n (q := 54) C0 2 rfl rfl dX12_worked_53 rfl ?_
    refine J_ladd (q := 55) C0 dX12_worked_54 rfl ?_
    refine K_some hf (fun p2 hp2 hf => ?_)
    refine J_callS (q := 58) (as := [vl ((x1) + (x3))]) (rest := []) C0 (t_X12_bounded ((x1) + (x3))  hp2) ml_X12_bounded lk_X12_196 sm_X12_bounded dX12_worked_55 rfl rfl rfl (by simp [ac_]) C1.room (by decide) (by decide) (by decide) (by decide) (fun r_ τ_ hQ => ?_)
    obtain ⟨rfl, ht_⟩ := hQ; have ht_ := ht_.symm; subst ht_
    show J_ Γ 58 [(0, vi (x0)), (1, vl (x1)), (3, vl (x3))] [vi (p2)] σ 0 0
    obtain rfl := Option.some.inj hf; exact J_iret C1 dX12_worked_58 rfl (Nat.zero_le _) (Nat.zero_le _) ⟨rfl, rfl⟩
  refine K_ite hf (fun c3 hf => ?_) (fun c3 hf => ?_)
  · refine J_tblIn (t := 59) (off := 58) C0 dX12_worked_1 (by rw [c3]; decide) (by rw [c3]; decide) (by rw [c3]; rfl) (by decide) ?_
    refine J_lload_n (q := 60) C0 1 rfl rfl dX12_worked_59 rfl ?_
    refine J_lload_n (q := 61) C0 2 rfl rfl dX12_worked_60 rfl ?_
    refine J_lsub (q := 62) C0 dX12_worked_61 rfl ?_
    refine K_some hf (fun p4 hp4 hf => ?_)
    refine J_callS (q := 65) (as := [vl ((x1) - (x3))]) (rest := []) C0 (t_X12_bounded ((x1) - (x3))  hp4) ml_X12_bounded lk_X12_196 sm_X12_bounded dX12_worked_62 rfl rfl rfl (by simp [ac_]) C1.room (by decide) (by decide) (by decide) (by decide) (fun r_ τ_ hQ => ?_)
    obtain ⟨rfl, ht_⟩ := hQ; have ht_ := ht_.symm; subst ht_
    show J_ Γ 65 [(0, vi (x0)), (1, vl (x1)), (3, vl (x3))] [vi (p4)] σ 0 0
    obtain rfl := Option.some.inj hf; exact J_iret C1 dX12_worked_65 rfl (Nat.zero_le _) (Nat.zero_le _) ⟨rfl, rfl⟩
  refine K_ite hf (fun c5 hf => ?_) (fun c5 hf => ?_)
  · refine J_tblIn (t := 66) (off := 65) C0 dX12_worked_1 (by rw [c5]; decide) (by rw [c5]; decide) (by rw [c5]; rfl) (by decide) ?_
    refine J_lload_n (q := 67) C0 1 rfl rfl dX12_worked_66 rfl ?_
    refine J_lload_n (q := 68) C0 2 rfl rfl dX12_worked_67 rfl ?_
    refine J_lmul (q := 69) C0 dX12_worked_68 rfl ?_
    refine K_some hf (fun p6 hp6 hf => ?_)
    refine J_callS (q := 72) (as := [vl ((x1) * (x3))]) (rest := []) C0 (t_X12_bounded ((x1) * (x3))  hp6) ml_X12_bounded lk_X12_196 sm_X12_bounded dX12_worked_69 rfl rfl rfl (by simp [ac_]) C1.room (by decide) (by decide) (by decide) (by decide) (fun r_ τ_ hQ => ?_)
    obtain ⟨rfl, ht_⟩ := hQ; have ht_ := ht_.symm; subst ht_
    show J_ Γ 72 [(0, vi (x0)), (1, vl (x1)), (3, vl (x3))] [vi (p6)] σ 0 0
    obtain rfl := Option.some.inj hf; exact J_iret C1 dX12_worked_72 rfl (Nat.zero_le _) (Nat.zero_le _) ⟨rfl, rfl⟩
  refine K_ite hf (fun c7 hf => ?_) (fun c7 hf => ?_)
  · refine J_tblIn (t := 73) (off := 72) C0 dX12_worked_1 (by rw [c7]; decide) (by rw [c7]; decide) (by rw [c7]; rfl) (by decide) ?_
    refine J_lload_n (q := 74) C0 2 rfl rfl dX12_worked_73 rfl ?_
    refine J_lconst (q := 75) (v := 0) C0 dX12_worked_74 rfl rfl ?_
    refine J_lcmp (q := 76) C0 dX12_worked_75 rfl ?_
    refine J_if_ne (t := 83) (q := 79) C0 dX12_worked_76 (by decide) rfl hf (fun c8 hf => ?_) (fun c8 hf => ?_)
    · refine J_lload_n (q := 84) C0 1 rfl rfl dX12_worked_83 rfl ?_
      refine J_lload_n (q := 85) C0 2 rfl rfl dX12_worked_84 rfl ?_
      refine K_chk hf (fun c9 hf => ?_)
      refine J_ldiv (q := 86) C0 dX12_worked_85 rfl c9 ?_
      refine K_some hf (fun p10 hp10 hf => ?_)
      refine J_callS (q := 89) (as := [vl ((x1) / (x3))]) (rest := []) C0 (t_X12_bounded ((x1) / (x3))  hp10) ml_X12_bounded lk_X12_196 sm_X12_bounded dX12_worked_86 rfl rfl rfl (by simp [ac_]) C1.room (by decide) (by decide) (by decide) (by decide) (fun r_ τ_ hQ => ?_)
      obtain ⟨rfl, ht_⟩ := hQ; have ht_ := ht_.symm; subst ht_
      show J_ Γ 89 [(0, vi (x0)), (1, vl (x1)), (3, vl (x3))] [vi (p10)] σ 0 0
      obtain rfl := Option.some.inj hf; exact J_iret C1 dX12_worked_89 rfl (Nat.zero_le _) (Nat.zero_le _) ⟨rfl, rfl⟩
    · refine J_iconst (q := 80) (v := 0) C0 dX12_worked_79 rfl rfl ?_
      refine J_goto (q := 89) C0 dX12_worked_80 (by decide) ?_
      obtain rfl := Option.some.inj hf; exact J_iret C1 dX12_worked_89 rfl (Nat.zero_le _) (Nat.zero_le _) ⟨rfl, rfl⟩
  refine K_ite hf (fun c11 hf => ?_) (fun c11 hf => ?_)
  · refine J_tblIn (t := 90) (off := 89) C0 dX12_worked_1 (by rw [c11]; decide) (by rw [c11]; decide) (by rw [c11]; rfl) (by decide) ?_
    refine J_lload_n (q := 91) C0 1 rfl rfl dX12_worked_90 rfl ?_
    refine J_lload_n (q := 92) C0 2 rfl rfl dX12_worked_91 rfl ?_
    refine J_lcmp (q := 93) C0 dX12_worked_92 rfl ?_
    refine J_if_ne (t := 100) (q := 96) C0 dX12_worked_93 (by decide) rfl hf (fun c12 hf => ?_) (fun c12 hf => ?_)
    · refine J_iconst (q := 101) (v := 0) C0 dX12_worked_100 rfl rfl ?_
      obtain rfl := Option.some.inj hf; exact J_iret C1 dX12_worked_101 rfl (Nat.zero_le _) (Nat.zero_le _) ⟨rfl, rfl⟩
    · refine J_iconst (q := 97) (v := 1) C0 dX12_worked_96 rfl rfl ?_
      refine J_goto (q := 101) C0 dX12_worked_97 (by decide) ?_
      obtain rfl := Option.some.inj hf; exact J_iret C1 dX12_worked_101 rfl (Nat.zero_le _) (Nat.zero_le _) ⟨rfl, rfl⟩
  refine K_ite hf (fun c13 hf => ?_) (fun c13 hf => ?_)
  · refine J_tblIn (t := 102) (off := 101) C0 dX12_worked_1 (by rw [c13]; decide) (by rw [c13]; decide) (by rw [c13]; rfl) (by decide) ?_
    refine J_lload_n (q := 103) C0 1 rfl rfl dX12_worked_102 rfl ?_
    refine J_lload_n (q := 104) C0 2 rfl rfl dX12_worked_103 rfl ?_
    refine J_lcmp (q := 105) C0 dX12_worked_104 rfl ?_
    refine J_if_ge (t := 112) (q := 108) C0 dX12_worked_105 (by decide) rfl hf (fun c14 hf => ?_) (fun c14 hf => ?_)
    · refine J_iconst (q := 113) (v := 0) C0 dX12_worked_112 rfl rfl ?_
      obtain rfl := Option.some.inj hf; exact J_iret C1 dX12_worked_113 rfl (Nat.zero_le _) (Nat.zero_le _) ⟨rfl, rfl⟩
    · refine J_iconst (q := 109) (v := 1) C0 dX12_worked_108 rfl rfl ?_
      refine J_goto (q := 113) C0 dX12_worked_109 (by decide) ?_
      obtain rfl := Option.some.inj hf; exact J_iret C1 dX12_worked_113 rfl (Nat.zero_le _) (Nat.zero_le _) ⟨rfl, rfl⟩
  refine K_ite hf (fun c15 hf => ?_) (fun c15 hf => ?_)
  · refine J_tblIn (t := 114) (off := 113) C0 dX12_worked_1 (by rw [c15]; decide) (by rw [c15]; decide) (by rw [c15]; rfl) (by decide) ?_
    refine J_lload_n (q := 115) C0 1 rfl rfl dX12_worked_114 rfl ?_
    refine J_lload_n (q := 116) C0 2 rfl rfl dX12_worked_115 rfl ?_
    refine J_lcmp (q := 117) C0 dX12_worked_116 rfl ?_
    refine J_if_le (t := 124) (q := 120) C0 dX12_worked_117 (by decide) rfl hf (fun c16 hf => ?_) (fun c16 hf => ?_)
    · refine J_iconst (q := 125) (v := 0) C0 dX12_worked_124 rfl rfl ?_
      obtain rfl := Option.some.inj hf; exact J_iret C1 dX12_worked_125 rfl (Nat.zero_le _) (Nat.zero_le _) ⟨rfl, rfl⟩
    · refine J_iconst (q := 121) (v := 1) C0 dX12_worked_120 rfl rfl ?_
      refine J_goto (q := 125) C0 dX12_worked_121 (by decide) ?_
      obtain rfl := Option.some.inj hf; exact J_iret C1 dX12_worked_125 rfl (Nat.zero_le _) (Nat.zero_le _) ⟨rfl, rfl⟩
  refine K_ite hf (fun c17 hf => ?_) (fun c17 hf => ?_)
  · refine J_tblIn (t := 144) (off := 143) C0 dX12_worked_1 (by rw [c17]; decide) (by rw [c17]; decide) (by rw [c17]; rfl) (by decide) ?_
    refine J_lload_n (q := 145) C0 1 rfl rfl dX12_worked_144 rfl ?_
    refine J_lconst (q := 146) (v := 0) C0 dX12_worked_145 rfl rfl ?_
    refine J_lcmp (q := 147) C0 dX12_worked_146 rfl ?_
    refine J_if_ne (t := 156) (q := 150) C0 dX12_worked_147 (by decide) rfl hf (fun c18 hf => ?_) (fun c18 hf => ?_)
    · refine J_iconst (q := 157) (v := 1) C0 dX12_worked_156 rfl rfl ?_
      refine J_goto (q := 161) C0 dX12_worked_157 (by decide) ?_
      obtain rfl := Option.some.inj hf; exact J_iret C1 dX12_worked_161 rfl (Nat.zero_le _) (Nat.zero_le _) ⟨rfl, rfl⟩
    · refine J_lload_n (q := 151) C0 2 rfl rfl dX12_worked_150 rfl ?_
      refine J_lconst (q := 152) (v := 0) C0 dX12_worked_151 rfl rfl ?_
      refine J_lcmp (q := 153) C0 dX12_worked_152 rfl ?_
      refine J_if_eq (t := 160) (q := 156) C0 dX12_worked_153 (by decide) rfl hf (fun c19 hf => ?_) (fun c19 hf => ?_)
      · refine J_iconst (q := 161) (v := 0) C0 dX12_worked_160 rfl rfl ?_
        obtain rfl := Option.some.inj hf; exact J_iret C1 dX12_worked_161 rfl (Nat.zero_le _) (Nat.zero_le _) ⟨rfl, rfl⟩
      · refine J_iconst (q := 157) (v := 1) C0 dX12_worked_156 rfl rfl ?_
        refine J_goto (q := 161) C0 dX12_worked_157 (by decide) ?_
        obtain rfl := Option.some.inj hf; exact J_iret C1 dX12_worked_161 rfl (Nat.zero_le _) (Nat.zero_le _) ⟨rfl, rfl⟩
  refine K_ite hf (fun c20 hf => ?_) (fun c20 hf => ?_)
  · refine J_tblIn (t := 126) (off := 125) C0 dX12_worked_1 (by rw [c20]; decide) (by rw [c20]; decide) (by rw [c20]; rfl) (by decide) ?_
    refine J_lload_n (q := 127) C0 1 rfl rfl dX12_worked_126 rfl ?_
    refine J_lconst (q := 128) (v := 0) C0 dX12_worked_127 rfl rfl ?_
    refine J_lcmp (q := 129) C0 dX12_worked_128 rfl ?_
    refine J_if_eq (t := 142) (q := 132) C0 dX12_worked_129 (by decide) rfl hf (fun c21 hf => ?_) (fun c21 hf => ?_)
    · refine J_iconst (q := 143) (v := 0) C0 dX12_worked_142 rfl rfl ?_
      obtain rfl := Option.some.inj hf; exact J_iret C1 dX12_worked_143 rfl (Nat.zero_le _) (Nat.zero_le _) ⟨rfl, rfl⟩
    · refine J_lload_n (q := 133) C0 2 rfl rfl dX12_worked_132 rfl ?_
      refine J_lconst (q := 134) (v := 0) C0 dX12_worked_133 rfl rfl ?_
      refine J_lcmp (q := 135) C0 dX12_worked_134 rfl ?_
      refine J_if_eq (t := 142) (q := 138) C0 dX12_worked_135 (by decide) rfl hf (fun c22 hf => ?_) (fun c22 hf => ?_)
      · refine J_iconst (q := 143) (v := 0) C0 dX12_worked_142 rfl rfl ?_
        obtain rfl := Option.some.inj hf; exact J_iret C1 dX12_worked_143 rfl (Nat.zero_le _) (Nat.zero_le _) ⟨rfl, rfl⟩
      · refine J_iconst (q := 139) (v := 1) C0 dX12_worked_138 rfl rfl ?_
        refine J_goto (q := 143) C0 dX12_worked_139 (by decide) ?_
        obtain rfl := Option.some.inj hf; exact J_iret C1 dX12_worked_143 rfl (Nat.zero_le _) (Nat.zero_le _) ⟨rfl, rfl⟩
  refine J_tblOut (t := 144) C0 dX12_worked_1 (by have tc1 := lv_neT c1 (a := 2) (by decide); have tc3 := lv_neT c3 (a := 3) (by decide); have tc5 := lv_neT c5 (a := 4) (by decide); have tc7 := lv_neT c7 (a := 5) (by decide); have tc11 := lv_neT c11 (a := 6) (by decide); have tc13 := lv_neT c13 (a := 7) (by decide); have tc15 := lv_neT c15 (a := 8) (by decide); have tc17 := lv_neT c17 (a := 9) (by decide); have tc20 := lv_neT c20 (a := 10) (by decide); omega) (by decide) ?_
  refine J_lload_n (q := 145) C0 1 rfl rfl dX12_worked_144 rfl ?_
  refine J_lconst (q := 146) (v := 0) C0 dX12_worked_145 rfl rfl ?_
  refine J_lcmp (q := 147) C0 dX12_worked_146 rfl ?_
  refine J_if_ne (t := 156) (q := 150) C0 dX12_worked_147 (by decide) rfl hf (fun c23 hf => ?_) (fun c23 hf => ?_)
  · refine J_iconst (q := 157) (v := 1) C0 dX12_worked_156 rfl rfl ?_
    refine J_goto (q := 161) C0 dX12_worked_157 (by decide) ?_
    obtain rfl := Option.some.inj hf; exact J_iret C1 dX12_worked_161 rfl (Nat.zero_le _) (Nat.zero_le _) ⟨rfl, rfl⟩
  · refine J_lload_n (q := 151) C0 2 rfl rfl dX12_worked_150 rfl ?_
    refine J_lconst (q := 152) (v := 0) C0 dX12_worked_151 rfl rfl ?_
    refine J_lcmp (q := 153) C0 dX12_worked_152 rfl ?_
    refine J_if_eq (t := 160) (q := 156) C0 dX12_worked_153 (by decide) rfl hf (fun c24 hf => ?_) (fun c24 hf => ?_)
    · refine J_iconst (q := 161) (v := 0) C0 dX12_worked_160 rfl rfl ?_
      obtain rfl := Option.some.inj hf; exact J_iret C1 dX12_worked_161 rfl (Nat.zero_le _) (Nat.zero_le _) ⟨rfl, rfl⟩
    · refine J_iconst (q := 157) (v := 1) C0 dX12_worked_156 rfl rfl ?_
      refine J_goto (q := 161) C0 dX12_worked_157 (by decide) ?_
      obtain rfl := Option.some.inj hf; exact J_iret C1 dX12_worked_161 rfl (Nat.zero_le _) (Nat.zero_le _) ⟨rfl, rfl⟩
def f_X12_workOut_B165 (N : Nat) (a0 : Nat) (k12 : Int32 → Int32 → Int32 → Int32 → Sg → Option (Int32 × Sg)) (v1 : Int32) (v3 : Int32) (v4 : Int32) (v5 : Int32) (σ : Sg) : Option (Int32 × Sg) :=
  k12 (v1) (v3) (v4) (v5 + 1) σ
def f_X12_workOut_B83 (N : Nat) (a0 : Nat) (k12 : Int32 → Int32 → Int32 → Int32 → Sg → Option (Int32 × Sg)) (v1 : Int32) (v3 : Int32) (v4 : Int32) (v5 : Int32) (s0 : Int32) (s1 : Int32) (s2 : Option Nat) (σ : Sg) : Option (Int32 × Sg) :=
  Option.bind (s2) fun b14 =>
  if (s1) < 0 ∨ sg_L σ b14 ≤ (s1).toNatClampNeg then none else
  f_X12_workOut_B165 N a0 k12 (v1) (v3) (v4 + 1) (v5) (put_I σ b14 (s1).toNatClampNeg (s0))
def f_X12_workOut_B45 (N : Nat) (a0 : Nat) (k12 : Int32 → Int32 → Int32 → Int32 → Sg → Option (Int32 × Sg)) (v1 : Int32) (v3 : Int32) (v4 : Int32) (v5 : Int32) (σ : Sg) : Option (Int32 × Sg) :=
  Option.bind (sg_R σ a0 6) fun b7 =>
  if (v5) < 0 ∨ sg_L σ b7 ≤ (v5).toNatClampNeg then none else
  if (sg_I σ b7 (v5).toNatClampNeg) = (0) then
  (Option.bind (sg_R σ a0 7) fun b16 =>
  if (v5) < 0 ∨ sg_L σ b16 ≤ (v5).toNatClampNeg then none else
  f_X12_workOut_B83 N a0 k12 (v1) (v3) (v4) (v5) (sg_I σ b16 (v5).toNatClampNeg) (v4) (sg_R σ a0 16) σ)
  else
  (Option.bind (sg_R σ a0 7) fun b10 =>
  if (v5) < 0 ∨ sg_L σ b10 ≤ (v5).toNatClampNeg then none else
  Option.bind (sg_R σ a0 15) fun b12 =>
  if (sg_I σ b10 (v5).toNatClampNeg) < 0 ∨ sg_L σ b12 ≤ (sg_I σ b10 (v5).toNatClampNeg).toNatClampNeg then none else
  f_X12_workOut_B83 N a0 k12 (v1) (v3) (v4) (v5) (sg_I σ b12 (sg_I σ b10 (v5).toNatClampNeg).toNatClampNeg) (v4) (sg_R σ a0 16) σ)
def f_X12_workOut_L12 (N : Nat) (a0 : Nat) : Nat → Int32 → Int32 → Int32 → Int32 → Sg → Option (Int32 × Sg)
  | 0, _, _, _, _, _ => none
  | n + 1, v1, v3, v4, v5, σ =>
  if (v5) < (((520) * (v1)) + (v3)) then
  (Option.bind (sg_R σ a0 6) fun b4 =>
  if (v5) < 0 ∨ sg_L σ b4 ≤ (v5).toNatClampNeg then none else
  if (sg_I σ b4 (v5).toNatClampNeg) = (0) then
  (f_X12_workOut_B45 N a0 (f_X12_workOut_L12 N a0 n) (v1) (v3) (v4) (v5) σ)
  else
  (if (v5) < 0 ∨ sg_L σ b4 ≤ (v5).toNatClampNeg then none else
  if (sg_I σ b4 (v5).toNatClampNeg) = (1) then
  (f_X12_workOut_B45 N a0 (f_X12_workOut_L12 N a0 n) (v1) (v3) (v4) (v5) σ)
  else
  (if (v5) < 0 ∨ sg_L σ b4 ≤ (v5).toNatClampNeg then none else
  if (sg_I σ b4 (v5).toNatClampNeg) = (9) then
  (Option.bind (sg_R σ a0 16) fun b28 =>
  if ((v4) - (1)) < 0 ∨ sg_L σ b28 ≤ ((v4) - (1)).toNatClampNeg then none else
  if ((v4) - (1)) < 0 ∨ sg_L σ b28 ≤ ((v4) - (1)).toNatClampNeg then none else
  f_X12_workOut_B165 N a0 (f_X12_workOut_L12 N a0 n) (v1) (v3) (v4) (v5) (put_I σ b28 ((v4) - (1)).toNatClampNeg ((1) - (sg_I σ b28 ((v4) - (1)).toNatClampNeg))))
  else
  (if (v5) < 0 ∨ sg_L σ b4 ≤ (v5).toNatClampNeg then none else
  Option.bind (sg_R σ a0 16) fun b23 =>
  if ((v4 + (-1)) - (1)) < 0 ∨ sg_L σ b23 ≤ ((v4 + (-1)) - (1)).toNatClampNeg then none else
  if (v4 + (-1)) < 0 ∨ sg_L σ b23 ≤ (v4 + (-1)).toNatClampNeg then none else
  Option.bind (f_X12_worked (sg_I σ b4 (v5).toNatClampNeg) ((sg_I σ b23 ((v4 + (-1)) - (1)).toNatClampNeg).toInt64) ((sg_I σ b23 (v4 + (-1)).toNatClampNeg).toInt64) ) fun p26 =>
  if ((v4 + (-1)) - (1)) < 0 ∨ sg_L σ b23 ≤ ((v4 + (-1)) - (1)).toNatClampNeg then none else
  f_X12_workOut_B165 N a0 (f_X12_workOut_L12 N a0 n) (v1) (v3) (v4 + (-1)) (v5) (put_I σ b23 ((v4 + (-1)) - (1)).toNatClampNeg (p26))))))
  else
  (Option.bind (sg_R σ a0 16) fun b2 =>
  if (0 : Int32) < 0 ∨ sg_L σ b2 ≤ (0 : Int32).toNatClampNeg then none else
  some (sg_I σ b2 (0 : Int32).toNatClampNeg, σ))
def f_X12_workOut (N : Nat) (a0 : Nat) (x1 : Int32) (x2 : Int32) (x3 : Int32) (σ : Sg) : Option (Int32 × Sg) :=
  f_X12_workOut_L12 N a0 N (x1) (x3) (0) (((520) * (x1)) + (x2)) σ
set_option maxHeartbeats 4000000 in
set_option maxRecDepth 100000 in
theorem t_X12_workOut_B165 {N : Nat} {a0 : Nat} {Γ : Gm} {σ0 : Sg} {r : (Int32 × Sg)} (C1 : CM Γ cX12_workOut RX12 6 (some .int) 3 68 0 0 (fun r_ τ_ => (r_ = some (vi r.1)) ∧ τ_ = r.2 ∧ sg_T τ_ ∧ sg_E σ0 τ_)) (k12 : Int32 → Int32 → Int32 → Int32 → Sg → Option (Int32 × Sg)) (hk12 : ∀ (v1 : Int32) (v3 : Int32) (v4 : Int32) (v5 : Int32) (σ : Sg), sg_T σ → sg_E σ0 σ → is_A σ a0 11 → k12 v1 v3 v4 v5 σ = some r → J_ Γ 12 [(0, vr (some a0)), (1, vi v1), (3, vi v3), (4, vi v4), (5, vi v5)] [] σ 0 0) (v1 : Int32) (v3 : Int32) (v4 : Int32) (v5 : Int32) (σ : Sg) (hT : sg_T σ) (hE : sg_E σ0 σ) (h0 : is_A σ a0 11) (hf : f_X12_workOut_B165 N a0 k12  v1 v3 v4 v5 σ = some r) : J_ Γ 165 [(0, vr (some a0)), (1, vi (v1)), (3, vi (v3)), (4, vi (v4)), (5, vi (v5))] [] σ 0 0 := by
  have C0 := C1.1
  unfold f_X12_workOut_B165 at hf
  refine J_iinc (q := 168) (v := v5 + 1) (lv' := [(5, vi (v5 + 1)), (0, vr (some a0)), (1, vi (v1)), (3, vi (v3)), (4, vi (v4))]) C0 4 rfl rfl (G_nl C1 (by decide)) dX12_workOut_165 rfl rfl ?_
  refine J_goto (q := 12) C0 dX12_workOut_168 (by decide) ?_
  refine J_sub (lv' := [(0, vr (some a0)), (1, vi (v1)), (3, vi (v3)), (4, vi (v4)), (5, vi (v5 + 1))]) [1, 2, 3, 4, 0] rfl ?_
  exact hk12 (v1) (v3) (v4) (v5 + 1) σ (hT) (hE)  (h0)  hf
set_option maxHeartbeats 4000000 in
set_option maxRecDepth 100000 in
theorem t_X12_workOut_B83 {N : Nat} {a0 : Nat} {Γ : Gm} {σ0 : Sg} {r : (Int32 × Sg)} (C1 : CM Γ cX12_workOut RX12 6 (some .int) 3 68 0 0 (fun r_ τ_ => (r_ = some (vi r.1)) ∧ τ_ = r.2 ∧ sg_T τ_ ∧ sg_E σ0 τ_)) (k12 : Int32 → Int32 → Int32 → Int32 → Sg → Option (Int32 × Sg)) (hk12 : ∀ (v1 : Int32) (v3 : Int32) (v4 : Int32) (v5 : Int32) (σ : Sg), sg_T σ → sg_E σ0 σ → is_A σ a0 11 → k12 v1 v3 v4 v5 σ = some r → J_ Γ 12 [(0, vr (some a0)), (1, vi v1), (3, vi v3), (4, vi v4), (5, vi v5)] [] σ 0 0) (v1 : Int32) (v3 : Int32) (v4 : Int32) (v5 : Int32) (s0 : Int32) (s1 : Int32) (s2 : Option Nat) (σ : Sg) (hT : sg_T σ) (hE : sg_E σ0 σ) (h0 : is_A σ a0 11) (g_s2 : is_O σ s2 12) (hf : f_X12_workOut_B83 N a0 k12  v1 v3 v4 v5 s0 s1 s2 σ = some r) : J_ Γ 83 [(0, vr (some a0)), (1, vi (v1)), (3, vi (v3)), (4, vi (v4)), (5, vi (v5))] [vi (s0), vi (s1), vr (s2)] σ 0 0 := by
  have C0 := C1.1
  unfold f_X12_workOut_B83 at hf
  refine K_some hf (fun b14 hb14 hf => ?_)
  have ab14 : is_A σ b14 12 := (g_s2) b14 hb14
  refine K_chk hf (fun c15 hf => ?_)
  refine J_iast (q := 84) C0 hb14 (ab14) c15 dX12_workOut_83 rfl ?_
  refine J_iinc (q := 87) (v := v4 + 1) (lv' := [(4, vi (v4 + 1)), (0, vr (some a0)), (1, vi (v1)), (3, vi (v3)), (5, vi (v5))]) C0 3 rfl rfl (G_nl C1 (by decide)) dX12_workOut_84 rfl rfl ?_
  refine J_goto (q := 165) C0 dX12_workOut_87 (by decide) ?_
  refine J_sub (lv' := [(0, vr (some a0)), (1, vi (v1)), (3, vi (v3)), (4, vi (v4 + 1)), (5, vi (v5))]) [1, 2, 3, 0, 4] rfl ?_
  exact t_X12_workOut_B165 C1  k12  hk12  (v1) (v3) (v4 + 1) (v5) (put_I σ b14 (s1).toNatClampNeg (s0)) ((hT).putI) ((hE).putI) ((h0).putI)  hf
set_option maxHeartbeats 4000000 in
set_option maxRecDepth 100000 in
theorem t_X12_workOut_B45 {N : Nat} {a0 : Nat} {Γ : Gm} {σ0 : Sg} {r : (Int32 × Sg)} (C1 : CM Γ cX12_workOut RX12 6 (some .int) 3 68 0 0 (fun r_ τ_ => (r_ = some (vi r.1)) ∧ τ_ = r.2 ∧ sg_T τ_ ∧ sg_E σ0 τ_)) (k12 : Int32 → Int32 → Int32 → Int32 → Sg → Option (Int32 × Sg)) (hk12 : ∀ (v1 : Int32) (v3 : Int32) (v4 : Int32) (v5 : Int32) (σ : Sg), sg_T σ → sg_E σ0 σ → is_A σ a0 11 → k12 v1 v3 v4 v5 σ = some r → J_ Γ 12 [(0, vr (some a0)), (1, vi v1), (3, vi v3), (4, vi v4), (5, vi v5)] [] σ 0 0) (v1 : Int32) (v3 : Int32) (v4 : Int32) (v5 : Int32) (σ : Sg) (hT : sg_T σ) (hE : sg_E σ0 σ) (h0 : is_A σ a0 11) (hf : f_X12_workOut_B45 N a0 k12  v1 v3 v4 v5 σ = some r) : J_ Γ 45 [(0, vr (some a0)), (1, vi (v1)), (3, vi (v3)), (4, vi (v4)), (5, vi (v5))] [] σ 0 0 := by
  have C0 := C1.1
  unfold f_X12_workOut_B45 at hf
  refine J_aload_n (q := 46) C0 0 rfl rfl dX12_workOut_45 rfl trivial ?_
  refine J_getR (q := 49) C0 fl_X12_37_11 rfl (h0) rfl dX12_workOut_46 rfl ?_
  refine J_iload (q := 51) C0 3 rfl dX12_workOut_49 rfl ?_
  refine J_aload_n (q := 52) C0 0 rfl rfl dX12_workOut_51 rfl trivial ?_
  refine J_getR (q := 55) C0 fl_X12_13_11 rfl (h0) rfl dX12_workOut_52 rfl ?_
  refine J_iload (q := 57) C0 4 rfl dX12_workOut_55 rfl ?_
  refine K_some hf (fun b7 hb7 hf => ?_)
  have ab7 : is_A σ b7 12 := ((sg_T.op hT (j := 6) (h0) rfl)) b7 hb7
  refine K_chk hf (fun c8 hf => ?_)
  refine J_iald (q := 58) C0 hb7 (ab7) c8 dX12_workOut_57 rfl ?_
  refine J_if_ne (t := 71) (q := 61) C0 dX12_workOut_58 (by decide) rfl hf (fun c9 hf => ?_) (fun c9 hf => ?_)
  · refine J_aload_n (q := 72) C0 0 rfl rfl dX12_workOut_71 rfl trivial ?_
    refine J_getR (q := 75) C0 fl_X12_34_11 rfl (h0) rfl dX12_workOut_72 rfl ?_
    refine J_aload_n (q := 76) C0 0 rfl rfl dX12_workOut_75 rfl trivial ?_
    refine J_getR (q := 79) C0 fl_X12_16_11 rfl (h0) rfl dX12_workOut_76 rfl ?_
    refine J_iload (q := 81) C0 4 rfl dX12_workOut_79 rfl ?_
    refine K_some hf (fun b10 hb10 hf => ?_)
    have ab10 : is_A σ b10 12 := ((sg_T.op hT (j := 7) (h0) rfl)) b10 hb10
    refine K_chk hf (fun c11 hf => ?_)
    refine J_iald (q := 82) C0 hb10 (ab10) c11 dX12_workOut_81 rfl ?_
    refine K_some hf (fun b12 hb12 hf => ?_)
    have ab12 : is_A σ b12 12 := ((sg_T.op hT (j := 15) (h0) rfl)) b12 hb12
    refine K_chk hf (fun c13 hf => ?_)
    refine J_iald (q := 83) C0 hb12 (ab12) c13 dX12_workOut_82 rfl ?_
    exact t_X12_workOut_B83 C1  k12  hk12  (v1) (v3) (v4) (v5) (sg_I σ b12 (sg_I σ b10 (v5).toNatClampNeg).toNatClampNeg) (v4) (sg_R σ a0 16) σ (hT) (hE) (h0) ((sg_T.op hT (j := 16) (h0) rfl)) hf
  · refine J_aload_n (q := 62) C0 0 rfl rfl dX12_workOut_61 rfl trivial ?_
    refine J_getR (q := 65) C0 fl_X12_16_11 rfl (h0) rfl dX12_workOut_62 rfl ?_
    refine J_iload (q := 67) C0 4 rfl dX12_workOut_65 rfl ?_
    refine K_some hf (fun b16 hb16 hf => ?_)
    have ab16 : is_A σ b16 12 := ((sg_T.op hT (j := 7) (h0) rfl)) b16 hb16
    refine K_chk hf (fun c17 hf => ?_)
    refine J_iald (q := 68) C0 hb16 (ab16) c17 dX12_workOut_67 rfl ?_
    refine J_goto (q := 83) C0 dX12_workOut_68 (by decide) ?_
    exact t_X12_workOut_B83 C1  k12  hk12  (v1) (v3) (v4) (v5) (sg_I σ b16 (v5).toNatClampNeg) (v4) (sg_R σ a0 16) σ (hT) (hE) (h0) ((sg_T.op hT (j := 16) (h0) rfl)) hf
set_option maxHeartbeats 4000000 in
set_option maxRecDepth 100000 in
theorem t_X12_workOut_L12 {N : Nat} {a0 : Nat} {Γ : Gm} {σ0 : Sg} {r : (Int32 × Sg)} (C1 : CM Γ cX12_workOut RX12 6 (some .int) 3 68 0 0 (fun r_ τ_ => (r_ = some (vi r.1)) ∧ τ_ = r.2 ∧ sg_T τ_ ∧ sg_E σ0 τ_)) : ∀ (n : Nat) (v1 : Int32) (v3 : Int32) (v4 : Int32) (v5 : Int32) (σ : Sg), sg_T σ → sg_E σ0 σ → is_A σ a0 11 → f_X12_workOut_L12 N a0  n v1 v3 v4 v5 σ = some r → J_ Γ 12 [(0, vr (some a0)), (1, vi (v1)), (3, vi (v3)), (4, vi (v4)), (5, vi (v5))] [] σ 0 0 := by
  have C0 := C1.1
  intro n
  induction n with
  | zero => intro v1 v3 v4 v5 σ hT hE h0  hf; unfold f_X12_workOut_L12 at hf; cases hf
  | succ n ih =>
    intro v1 v3 v4 v5 σ hT hE h0  hf
    rw [f_X12_workOut_L12] at hf
    refine J_iload (q := 14) C0 4 rfl dX12_workOut_12 rfl ?_
    refine J_sipush (q := 17) (v := 520) C0 dX12_workOut_14 rfl rfl ?_
    refine J_iload_n (q := 18) C0 1 rfl rfl dX12_workOut_17 rfl ?_
    refine J_imul (q := 19) C0 dX12_workOut_18 rfl ?_
    refine J_iload_n (q := 20) C0 2 rfl rfl dX12_workOut_19 rfl ?_
    refine J_iadd (q := 21) C0 dX12_workOut_20 rfl ?_
    refine J_icmp_ge (t := 171) (q := 24) C0 dX12_workOut_21 (by decide) rfl hf (fun c1 hf => ?_) (fun c1 hf => ?_)
    · refine J_aload_n (q := 172) C0 0 rfl rfl dX12_workOut_171 rfl trivial ?_
      refine J_getR (q := 175) C0 fl_X12_37_11 rfl (h0) rfl dX12_workOut_172 rfl ?_
      refine J_iconst (q := 176) (v := 0) C0 dX12_workOut_175 rfl rfl ?_
      refine K_some hf (fun b2 hb2 hf => ?_)
      have ab2 : is_A σ b2 12 := ((sg_T.op hT (j := 16) (h0) rfl)) b2 hb2
      refine K_chk hf (fun c3 hf => ?_)
      refine J_iald (q := 177) C0 hb2 (ab2) c3 dX12_workOut_176 rfl ?_
      obtain rfl := Option.some.inj hf; exact J_iret C1 dX12_workOut_177 rfl (Nat.zero_le _) (Nat.zero_le _) ⟨rfl, rfl, hT, hE⟩
    · refine J_aload_n (q := 25) C0 0 rfl rfl dX12_workOut_24 rfl trivial ?_
      refine J_getR (q := 28) C0 fl_X12_13_11 rfl (h0) rfl dX12_workOut_25 rfl ?_
      refine J_iload (q := 30) C0 4 rfl dX12_workOut_28 rfl ?_
      refine K_some hf (fun b4 hb4 hf => ?_)
      have ab4 : is_A σ b4 12 := ((sg_T.op hT (j := 6) (h0) rfl)) b4 hb4
      refine K_chk hf (fun c5 hf => ?_)
      refine J_iald (q := 31) C0 hb4 (ab4) c5 dX12_workOut_30 rfl ?_
      refine J_if_eq (t := 45) (q := 34) C0 dX12_workOut_31 (by decide) rfl hf (fun c6 hf => ?_) (fun c6 hf => ?_)
      · exact t_X12_workOut_B45 C1  (f_X12_workOut_L12 N a0 n)  ih  (v1) (v3) (v4) (v5) σ (hT) (hE) (h0)  hf
      · refine J_aload_n (q := 35) C0 0 rfl rfl dX12_workOut_34 rfl trivial ?_
        refine J_getR (q := 38) C0 fl_X12_13_11 rfl (h0) rfl dX12_workOut_35 rfl ?_
        refine J_iload (q := 40) C0 4 rfl dX12_workOut_38 rfl ?_
        refine K_chk hf (fun c18 hf => ?_)
        refine J_iald (q := 41) C0 hb4 (ab4) c18 dX12_workOut_40 rfl ?_
        refine J_iconst (q := 42) (v := 1) C0 dX12_workOut_41 rfl rfl ?_
        refine J_icmp_ne (t := 90) (q := 45) C0 dX12_workOut_42 (by decide) rfl hf (fun c19 hf => ?_) (fun c19 hf => ?_)
        · refine J_aload_n (q := 91) C0 0 rfl rfl dX12_workOut_90 rfl trivial ?_
          refine J_getR (q := 94) C0 fl_X12_13_11 rfl (h0) rfl dX12_workOut_91 rfl ?_
          refine J_iload (q := 96) C0 4 rfl dX12_workOut_94 rfl ?_
          refine K_chk hf (fun c20 hf => ?_)
          refine J_iald (q := 97) C0 hb4 (ab4) c20 dX12_workOut_96 rfl ?_
          refine J_bipush (q := 99) (v := 9) C0 dX12_workOut_97 rfl rfl ?_
          refine J_icmp_ne (t := 125) (q := 102) C0 dX12_workOut_99 (by decide) rfl hf (fun c21 hf => ?_) (fun c21 hf => ?_)
          · refine J_iinc (q := 128) (v := v4 + (-1)) (lv' := [(4, vi (v4 + (-1))), (0, vr (some a0)), (1, vi (v1)), (3, vi (v3)), (5, vi (v5))]) C0 3 rfl (congrArg (fun t_ : Int32 => (v4) + t_) (by decide : Int32.ofInt (-1) = (-1 : Int32))) (G_nl C1 (by decide)) dX12_workOut_125 rfl rfl ?_
            refine J_aload_n (q := 129) C0 1 rfl rfl dX12_workOut_128 rfl trivial ?_
            refine J_getR (q := 132) C0 fl_X12_37_11 rfl (h0) rfl dX12_workOut_129 rfl ?_
            refine J_iload (q := 134) C0 0 rfl dX12_workOut_132 rfl ?_
            refine J_iconst (q := 135) (v := 1) C0 dX12_workOut_134 rfl rfl ?_
            refine J_isub (q := 136) C0 dX12_workOut_135 rfl ?_
            refine J_aload_n (q := 137) C0 1 rfl rfl dX12_workOut_136 rfl trivial ?_
            refine J_getR (q := 140) C0 fl_X12_13_11 rfl (h0) rfl dX12_workOut_137 rfl ?_
            refine J_iload (q := 142) C0 4 rfl dX12_workOut_140 rfl ?_
            refine K_chk hf (fun c22 hf => ?_)
            refine J_iald (q := 143) C0 hb4 (ab4) c22 dX12_workOut_142 rfl ?_
            refine J_aload_n (q := 144) C0 1 rfl rfl dX12_workOut_143 rfl trivial ?_
            refine J_getR (q := 147) C0 fl_X12_37_11 rfl (h0) rfl dX12_workOut_144 rfl ?_
            refine J_iload (q := 149) C0 0 rfl dX12_workOut_147 rfl ?_
            refine J_iconst (q := 150) (v := 1) C0 dX12_workOut_149 rfl rfl ?_
            refine J_isub (q := 151) C0 dX12_workOut_150 rfl ?_
            refine K_some hf (fun b23 hb23 hf => ?_)
            have ab23 : is_A σ b23 12 := ((sg_T.op hT (j := 16) (h0) rfl)) b23 hb23
            refine K_chk hf (fun c24 hf => ?_)
            refine J_iald (q := 152) C0 hb23 (ab23) c24 dX12_workOut_151 rfl ?_
            refine J_i2l (q := 153) C0 dX12_workOut_152 rfl ?_
            refine J_aload_n (q := 154) C0 1 rfl rfl dX12_workOut_153 rfl trivial ?_
            refine J_getR (q := 157) C0 fl_X12_37_11 rfl (h0) rfl dX12_workOut_154 rfl ?_
            refine J_iload (q := 159) C0 0 rfl dX12_workOut_157 rfl ?_
            refine K_chk hf (fun c25 hf => ?_)
            refine J_iald (q := 160) C0 hb23 (ab23) c25 dX12_workOut_159 rfl ?_
            refine J_i2l (q := 161) C0 dX12_workOut_160 rfl ?_
            refine K_some hf (fun p26 hp26 hf => ?_)
            refine J_callS (q := 164) (as := [vi (sg_I σ b4 (v5).toNatClampNeg), vl ((sg_I σ b23 ((v4 + (-1)) - (1)).toNatClampNeg).toInt64), vl ((sg_I σ b23 (v4 + (-1)).toNatClampNeg).toInt64)]) (rest := [vi ((v4 + (-1)) - (1)), vr (sg_R σ a0 16)]) C0 (t_X12_worked (sg_I σ b4 (v5).toNatClampNeg) ((sg_I σ b23 ((v4 + (-1)) - (1)).toNatClampNeg).toInt64) ((sg_I σ b23 (v4 + (-1)).toNatClampNeg).toInt64)  hp26) ml_X12_worked lk_X12_200 sm_X12_worked dX12_workOut_161 rfl rfl rfl (by simp [ac_]) C1.room (by decide) (by decide) (by decide) (by decide) (fun r_ τ_ hQ => ?_)
            obtain ⟨rfl, ht_⟩ := hQ; have ht_ := ht_.symm; subst ht_
            show J_ Γ 164 [(4, vi (v4 + (-1))), (0, vr (some a0)), (1, vi (v1)), (3, vi (v3)), (5, vi (v5))] [vi (p26), vi ((v4 + (-1)) - (1)), vr (sg_R σ a0 16)] σ 0 0
            refine K_chk hf (fun c27 hf => ?_)
            refine J_iast (q := 165) C0 hb23 (ab23) c27 dX12_workOut_164 rfl ?_
            refine J_sub (lv' := [(0, vr (some a0)), (1, vi (v1)), (3, vi (v3)), (4, vi (v4 + (-1))), (5, vi (v5))]) [1, 2, 3, 0, 4] rfl ?_
            exact t_X12_workOut_B165 C1  (f_X12_workOut_L12 N a0 n)  ih  (v1) (v3) (v4 + (-1)) (v5) (put_I σ b23 ((v4 + (-1)) - (1)).toNatClampNeg (p26)) ((hT).putI) ((hE).putI) ((h0).putI)  hf
          · refine J_aload_n (q := 103) C0 0 rfl rfl dX12_workOut_102 rfl trivial ?_
            refine J_getR (q := 106) C0 fl_X12_37_11 rfl (h0) rfl dX12_workOut_103 rfl ?_
            refine J_iload (q := 108) C0 3 rfl dX12_workOut_106 rfl ?_
            refine J_iconst (q := 109) (v := 1) C0 dX12_workOut_108 rfl rfl ?_
            refine J_isub (q := 110) C0 dX12_workOut_109 rfl ?_
            refine J_iconst (q := 111) (v := 1) C0 dX12_workOut_110 rfl rfl ?_
            refine J_aload_n (q := 112) C0 0 rfl rfl dX12_workOut_111 rfl trivial ?_
            refine J_getR (q := 115) C0 fl_X12_37_11 rfl (h0) rfl dX12_workOut_112 rfl ?_
            refine J_iload (q := 117) C0 3 rfl dX12_workOut_115 rfl ?_
            refine J_iconst (q := 118) (v := 1) C0 dX12_workOut_117 rfl rfl ?_
            refine J_isub (q := 119) C0 dX12_workOut_118 rfl ?_
            refine K_some hf (fun b28 hb28 hf => ?_)
            have ab28 : is_A σ b28 12 := ((sg_T.op hT (j := 16) (h0) rfl)) b28 hb28
            refine K_chk hf (fun c29 hf => ?_)
            refine J_iald (q := 120) C0 hb28 (ab28) c29 dX12_workOut_119 rfl ?_
            refine J_isub (q := 121) C0 dX12_workOut_120 rfl ?_
            refine K_chk hf (fun c30 hf => ?_)
            refine J_iast (q := 122) C0 hb28 (ab28) c30 dX12_workOut_121 rfl ?_
            refine J_goto (q := 165) C0 dX12_workOut_122 (by decide) ?_
            exact t_X12_workOut_B165 C1  (f_X12_workOut_L12 N a0 n)  ih  (v1) (v3) (v4) (v5) (put_I σ b28 ((v4) - (1)).toNatClampNeg ((1) - (sg_I σ b28 ((v4) - (1)).toNatClampNeg))) ((hT).putI) ((hE).putI) ((h0).putI)  hf
        · exact t_X12_workOut_B45 C1  (f_X12_workOut_L12 N a0 n)  ih  (v1) (v3) (v4) (v5) σ (hT) (hE) (h0)  hf
set_option maxHeartbeats 4000000 in
set_option maxRecDepth 100000 in
theorem t_X12_workOut (N : Nat) (a0 : Nat) (x1 : Int32) (x2 : Int32) (x3 : Int32) {σ : Sg} (hT : sg_T σ) (h0 : is_A σ a0 11) {r : (Int32 × Sg)} (hf : f_X12_workOut N a0 x1 x2 x3 σ = some r) : Ct yX12_workOut cX12_workOut 6 (some .int) 3 68 0 0 [vr (some a0), vi x1, vi x2, vi x3] σ (fun r_ τ_ => (r_ = some (vi r.1)) ∧ τ_ = r.2 ∧ sg_T τ_ ∧ sg_E σ τ_) := by
  refine Ct.of (by decide +kernel) (Nat.le_of_ble_eq_true rfl) (fun Γ C1 => ?_)
  have C0 := C1.1
  have hE : sg_E σ σ := sg_E.rf
  unfold f_X12_workOut at hf
  show J_ Γ 0 [(0, vr (some a0)), (1, vi (x1)), (2, vi (x2)), (3, vi (x3))] [] σ 0 0
  refine J_iconst (q := 1) (v := 0) C0 dX12_workOut_0 rfl rfl ?_
  refine J_istore (q := 3) (lv' := [(4, vi (0)), (0, vr (some a0)), (1, vi (x1)), (2, vi (x2)), (3, vi (x3))]) C0 (G_nl C1 (by decide)) dX12_workOut_1 rfl rfl ?_
  refine J_sipush (q := 6) (v := 520) C0 dX12_workOut_3 rfl rfl ?_
  refine J_iload_n (q := 7) C0 2 rfl rfl dX12_workOut_6 rfl ?_
  refine J_imul (q := 8) C0 dX12_workOut_7 rfl ?_
  refine J_iload_n (q := 9) C0 3 rfl rfl dX12_workOut_8 rfl ?_
  refine J_iadd (q := 10) C0 dX12_workOut_9 rfl ?_
  refine J_istore (q := 12) (lv' := [(5, vi (((520) * (x1)) + (x2))), (4, vi (0)), (0, vr (some a0)), (1, vi (x1)), (2, vi (x2)), (3, vi (x3))]) C0 (G_nl C1 (by decide)) dX12_workOut_10 rfl rfl ?_
  refine J_sub (lv' := [(0, vr (some a0)), (1, vi (x1)), (3, vi (x3)), (4, vi (0)), (5, vi (((520) * (x1)) + (x2)))]) [2, 3, 5, 1, 0] rfl ?_
  exact t_X12_workOut_L12 C1    N (x1) (x3) (0) (((520) * (x1)) + (x2)) σ (hT) (hE) (h0)  hf
def f_X12_worthOf_B57 (N : Nat) (a0 : Nat) (v1 : Int32) (v2 : Int32) (σ : Sg) : Option (Int32 × Sg) :=
  Option.bind (sg_R σ a0 11) fun b9 =>
  if (v2) < 0 ∨ sg_L σ b9 ≤ (v2).toNatClampNeg then none else
  Option.bind (sg_R σ a0 12) fun b11 =>
  if (v2) < 0 ∨ sg_L σ b11 ≤ (v2).toNatClampNeg then none else
  Option.bind (f_X12_workOut N a0 (v1) (sg_I σ b9 (v2).toNatClampNeg) (sg_I σ b11 (v2).toNatClampNeg) σ) fun p13 =>
  some (p13.1, p13.2)
def f_X12_worthOf_L6 (N : Nat) (a0 : Nat) : Nat → Int32 → Int32 → Sg → Option (Int32 × Sg)
  | 0, _, _, _ => none
  | n + 1, v1, v2, σ =>
  Option.bind (sg_R σ a0 9) fun b1 =>
  if (v1) < 0 ∨ sg_L σ b1 ≤ (v1).toNatClampNeg then none else
  if (v2) < (((140) * (v1)) + (sg_I σ b1 (v1).toNatClampNeg)) then
  (Option.bind (sg_R σ a0 10) fun b4 =>
  if (v2) < 0 ∨ sg_L σ b4 ≤ (v2).toNatClampNeg then none else
  Option.bind (sg_R σ a0 11) fun b6 =>
  if (v2) < 0 ∨ sg_L σ b6 ≤ (v2).toNatClampNeg then none else
  if (sg_I σ b4 (v2).toNatClampNeg) = (sg_I σ b6 (v2).toNatClampNeg) then
  (f_X12_worthOf_B57 N a0 (v1) (v2) σ)
  else
  (if (v2) < 0 ∨ sg_L σ b4 ≤ (v2).toNatClampNeg then none else
  if (v2) < 0 ∨ sg_L σ b6 ≤ (v2).toNatClampNeg then none else
  Option.bind (f_X12_workOut N a0 (v1) (sg_I σ b4 (v2).toNatClampNeg) (sg_I σ b6 (v2).toNatClampNeg) σ) fun p16 =>
  if (p16.1) = (0) then
  (f_X12_worthOf_L6 N a0 n (v1) (v2 + 1) (p16.2))
  else
  (f_X12_worthOf_B57 N a0 (v1) (v2) (p16.2))))
  else
  (some (0, σ))
def f_X12_worthOf (N : Nat) (a0 : Nat) (x1 : Int32) (σ : Sg) : Option (Int32 × Sg) :=
  f_X12_worthOf_L6 N a0 N (x1) ((140) * (x1)) σ
set_option maxHeartbeats 4000000 in
set_option maxRecDepth 100000 in
theorem t_X12_worthOf_B57 {N : Nat} {a0 : Nat} {Γ : Gm} {σ0 : Sg} {r : (Int32 × Sg)} (C1 : CM Γ cX12_worthOf RX12 3 (some .int) 4 93 0 0 (fun r_ τ_ => (r_ = some (vi r.1)) ∧ τ_ = r.2 ∧ sg_T τ_ ∧ sg_E σ0 τ_)) (v1 : Int32) (v2 : Int32) (σ : Sg) (hT : sg_T σ) (hE : sg_E σ0 σ) (h0 : is_A σ a0 11) (hf : f_X12_worthOf_B57 N a0  v1 v2 σ = some r) : J_ Γ 57 [(0, vr (some a0)), (1, vi (v1)), (2, vi (v2))] [] σ 0 0 := by
  have C0 := C1.1
  unfold f_X12_worthOf_B57 at hf
  refine J_aload_n (q := 58) C0 0 rfl rfl dX12_worthOf_57 rfl trivial ?_
  refine J_iload_n (q := 59) C0 1 rfl rfl dX12_worthOf_58 rfl ?_
  refine J_aload_n (q := 60) C0 0 rfl rfl dX12_worthOf_59 rfl trivial ?_
  refine J_getR (q := 63) C0 fl_X12_28_11 rfl (h0) rfl dX12_worthOf_60 rfl ?_
  refine J_iload_n (q := 64) C0 2 rfl rfl dX12_worthOf_63 rfl ?_
  refine K_some hf (fun b9 hb9 hf => ?_)
  have ab9 : is_A σ b9 12 := ((sg_T.op hT (j := 11) (h0) rfl)) b9 hb9
  refine K_chk hf (fun c10 hf => ?_)
  refine J_iald (q := 65) C0 hb9 (ab9) c10 dX12_worthOf_64 rfl ?_
  refine J_aload_n (q := 66) C0 0 rfl rfl dX12_worthOf_65 rfl trivial ?_
  refine J_getR (q := 69) C0 fl_X12_31_11 rfl (h0) rfl dX12_worthOf_66 rfl ?_
  refine J_iload_n (q := 70) C0 2 rfl rfl dX12_worthOf_69 rfl ?_
  refine K_some hf (fun b11 hb11 hf => ?_)
  have ab11 : is_A σ b11 12 := ((sg_T.op hT (j := 12) (h0) rfl)) b11 hb11
  refine K_chk hf (fun c12 hf => ?_)
  refine J_iald (q := 71) C0 hb11 (ab11) c12 dX12_worthOf_70 rfl ?_
  refine K_some hf (fun p13 hp13 hf => ?_)
  refine J_callV (q := 74) (ci := 11) (as := [vi (v1), vi (sg_I σ b9 (v2).toNatClampNeg), vi (sg_I σ b11 (v2).toNatClampNeg)]) (rest := []) C0 rfl (h0) (t_X12_workOut N a0 (v1) (sg_I σ b9 (v2).toNatClampNeg) (sg_I σ b11 (v2).toNatClampNeg) (hT) (h0)  hp13) ml_X12_workOut lk_X12_204 im_X12_workOut se_X12_workOut rfl (by decide) dX12_worthOf_71 rfl rfl rfl (by simp [ac_]) C1.room (by decide) (by decide) (by decide) (by decide) (fun r_ τ_ hQ => ?_)
  obtain ⟨rfl, rfl, Tp13, Ep13⟩ := hQ
  show J_ Γ 74 [(0, vr (some a0)), (1, vi (v1)), (2, vi (v2))] [vi (p13.1)] p13.2 0 0
  obtain rfl := Option.some.inj hf; exact J_iret C1 dX12_worthOf_74 rfl (Nat.zero_le _) (Nat.zero_le _) ⟨rfl, rfl, Tp13, (hE).tr Ep13⟩
set_option maxHeartbeats 4000000 in
set_option maxRecDepth 100000 in
theorem t_X12_worthOf_L6 {N : Nat} {a0 : Nat} {Γ : Gm} {σ0 : Sg} {r : (Int32 × Sg)} (C1 : CM Γ cX12_worthOf RX12 3 (some .int) 4 93 0 0 (fun r_ τ_ => (r_ = some (vi r.1)) ∧ τ_ = r.2 ∧ sg_T τ_ ∧ sg_E σ0 τ_)) : ∀ (n : Nat) (v1 : Int32) (v2 : Int32) (σ : Sg), sg_T σ → sg_E σ0 σ → is_A σ a0 11 → f_X12_worthOf_L6 N a0  n v1 v2 σ = some r → J_ Γ 6 [(0, vr (some a0)), (1, vi (v1)), (2, vi (v2))] [] σ 0 0 := by
  have C0 := C1.1
  intro n
  induction n with
  | zero => intro v1 v2 σ hT hE h0  hf; unfold f_X12_worthOf_L6 at hf; cases hf
  | succ n ih =>
    intro v1 v2 σ hT hE h0  hf
    rw [f_X12_worthOf_L6] at hf
    refine J_iload_n (q := 7) C0 2 rfl rfl dX12_worthOf_6 rfl ?_
    refine J_sipush (q := 10) (v := 140) C0 dX12_worthOf_7 rfl rfl ?_
    refine J_iload_n (q := 11) C0 1 rfl rfl dX12_worthOf_10 rfl ?_
    refine J_imul (q := 12) C0 dX12_worthOf_11 rfl ?_
    refine J_aload_n (q := 13) C0 0 rfl rfl dX12_worthOf_12 rfl trivial ?_
    refine J_getR (q := 16) C0 fl_X12_22_11 rfl (h0) rfl dX12_worthOf_13 rfl ?_
    refine J_iload_n (q := 17) C0 1 rfl rfl dX12_worthOf_16 rfl ?_
    refine K_some hf (fun b1 hb1 hf => ?_)
    have ab1 : is_A σ b1 12 := ((sg_T.op hT (j := 9) (h0) rfl)) b1 hb1
    refine K_chk hf (fun c2 hf => ?_)
    refine J_iald (q := 18) C0 hb1 (ab1) c2 dX12_worthOf_17 rfl ?_
    refine J_iadd (q := 19) C0 dX12_worthOf_18 rfl ?_
    refine J_icmp_ge (t := 81) (q := 22) C0 dX12_worthOf_19 (by decide) rfl hf (fun c3 hf => ?_) (fun c3 hf => ?_)
    · refine J_iconst (q := 82) (v := 0) C0 dX12_worthOf_81 rfl rfl ?_
      obtain rfl := Option.some.inj hf; exact J_iret C1 dX12_worthOf_82 rfl (Nat.zero_le _) (Nat.zero_le _) ⟨rfl, rfl, hT, hE⟩
    · refine J_aload_n (q := 23) C0 0 rfl rfl dX12_worthOf_22 rfl trivial ?_
      refine J_getR (q := 26) C0 fl_X12_25_11 rfl (h0) rfl dX12_worthOf_23 rfl ?_
      refine J_iload_n (q := 27) C0 2 rfl rfl dX12_worthOf_26 rfl ?_
      refine K_some hf (fun b4 hb4 hf => ?_)
      have ab4 : is_A σ b4 12 := ((sg_T.op hT (j := 10) (h0) rfl)) b4 hb4
      refine K_chk hf (fun c5 hf => ?_)
      refine J_iald (q := 28) C0 hb4 (ab4) c5 dX12_worthOf_27 rfl ?_
      refine J_aload_n (q := 29) C0 0 rfl rfl dX12_worthOf_28 rfl trivial ?_
      refine J_getR (q := 32) C0 fl_X12_28_11 rfl (h0) rfl dX12_worthOf_29 rfl ?_
      refine J_iload_n (q := 33) C0 2 rfl rfl dX12_worthOf_32 rfl ?_
      refine K_some hf (fun b6 hb6 hf => ?_)
      have ab6 : is_A σ b6 12 := ((sg_T.op hT (j := 11) (h0) rfl)) b6 hb6
      refine K_chk hf (fun c7 hf => ?_)
      refine J_iald (q := 34) C0 hb6 (ab6) c7 dX12_worthOf_33 rfl ?_
      refine J_icmp_eq (t := 57) (q := 37) C0 dX12_worthOf_34 (by decide) rfl hf (fun c8 hf => ?_) (fun c8 hf => ?_)
      · exact t_X12_worthOf_B57 C1    (v1) (v2) σ (hT) (hE) (h0)  hf
      · refine J_aload_n (q := 38) C0 0 rfl rfl dX12_worthOf_37 rfl trivial ?_
        refine J_iload_n (q := 39) C0 1 rfl rfl dX12_worthOf_38 rfl ?_
        refine J_aload_n (q := 40) C0 0 rfl rfl dX12_worthOf_39 rfl trivial ?_
        refine J_getR (q := 43) C0 fl_X12_25_11 rfl (h0) rfl dX12_worthOf_40 rfl ?_
        refine J_iload_n (q := 44) C0 2 rfl rfl dX12_worthOf_43 rfl ?_
        refine K_chk hf (fun c14 hf => ?_)
        refine J_iald (q := 45) C0 hb4 (ab4) c14 dX12_worthOf_44 rfl ?_
        refine J_aload_n (q := 46) C0 0 rfl rfl dX12_worthOf_45 rfl trivial ?_
        refine J_getR (q := 49) C0 fl_X12_28_11 rfl (h0) rfl dX12_worthOf_46 rfl ?_
        refine J_iload_n (q := 50) C0 2 rfl rfl dX12_worthOf_49 rfl ?_
        refine K_chk hf (fun c15 hf => ?_)
        refine J_iald (q := 51) C0 hb6 (ab6) c15 dX12_worthOf_50 rfl ?_
        refine K_some hf (fun p16 hp16 hf => ?_)
        refine J_callV (q := 54) (ci := 11) (as := [vi (v1), vi (sg_I σ b4 (v2).toNatClampNeg), vi (sg_I σ b6 (v2).toNatClampNeg)]) (rest := []) C0 rfl (h0) (t_X12_workOut N a0 (v1) (sg_I σ b4 (v2).toNatClampNeg) (sg_I σ b6 (v2).toNatClampNeg) (hT) (h0)  hp16) ml_X12_workOut lk_X12_204 im_X12_workOut se_X12_workOut rfl (by decide) dX12_worthOf_51 rfl rfl rfl (by simp [ac_]) C1.room (by decide) (by decide) (by decide) (by decide) (fun r_ τ_ hQ => ?_)
        obtain ⟨rfl, rfl, Tp16, Ep16⟩ := hQ
        show J_ Γ 54 [(0, vr (some a0)), (1, vi (v1)), (2, vi (v2))] [vi (p16.1)] p16.2 0 0
        refine J_if_eq (t := 75) (q := 57) C0 dX12_worthOf_54 (by decide) rfl hf (fun c17 hf => ?_) (fun c17 hf => ?_)
        · refine J_iinc (q := 78) (v := v2 + 1) (lv' := [(2, vi (v2 + 1)), (0, vr (some a0)), (1, vi (v1))]) C0 2 rfl rfl (G_nl C1 (by decide)) dX12_worthOf_75 rfl rfl ?_
          refine J_goto (q := 6) C0 dX12_worthOf_78 (by decide) ?_
          refine J_sub (lv' := [(0, vr (some a0)), (1, vi (v1)), (2, vi (v2 + 1))]) [1, 2, 0] rfl ?_
          exact ih (v1) (v2 + 1) (p16.2) (Tp16) ((hE).tr Ep16) ((Ep16.at h0))  hf
        · exact t_X12_worthOf_B57 C1    (v1) (v2) (p16.2) (Tp16) ((hE).tr Ep16) ((Ep16.at h0))  hf
set_option maxHeartbeats 4000000 in
set_option maxRecDepth 100000 in
theorem t_X12_worthOf (N : Nat) (a0 : Nat) (x1 : Int32) {σ : Sg} (hT : sg_T σ) (h0 : is_A σ a0 11) {r : (Int32 × Sg)} (hf : f_X12_worthOf N a0 x1 σ = some r) : Ct yX12_worthOf cX12_worthOf 3 (some .int) 4 93 0 0 [vr (some a0), vi x1] σ (fun r_ τ_ => (r_ = some (vi r.1)) ∧ τ_ = r.2 ∧ sg_T τ_ ∧ sg_E σ τ_) := by
  refine Ct.of (by decide +kernel) (Nat.le_of_ble_eq_true rfl) (fun Γ C1 => ?_)
  have C0 := C1.1
  have hE : sg_E σ σ := sg_E.rf
  unfold f_X12_worthOf at hf
  show J_ Γ 0 [(0, vr (some a0)), (1, vi (x1))] [] σ 0 0
  refine J_sipush (q := 3) (v := 140) C0 dX12_worthOf_0 rfl rfl ?_
  refine J_iload_n (q := 4) C0 1 rfl rfl dX12_worthOf_3 rfl ?_
  refine J_imul (q := 5) C0 dX12_worthOf_4 rfl ?_
  refine J_istore_n (q := 6) (lv' := [(2, vi ((140) * (x1))), (0, vr (some a0)), (1, vi (x1))]) C0 rfl (G_nl C1 (by decide)) dX12_worthOf_5 rfl rfl ?_
  refine J_sub (lv' := [(0, vr (some a0)), (1, vi (x1)), (2, vi ((140) * (x1)))]) [1, 2, 0] rfl ?_
  exact t_X12_worthOf_L6 C1    N (x1) ((140) * (x1)) σ (hT) (hE) (h0)  hf
def f_X12_number_B67 (N : Nat) (a0 : Nat) (v1 : Int32) (v2 : Int32) (v3 : Int32) (σ : Sg) : Option (Int32 × Sg) :=
  Option.bind (f_X12_here a0  σ) fun p8 =>
  Option.bind (f_X12_isDigit (p8) ) fun p9 =>
  if (p9) = (0) then
  (Option.bind (f_X12_in (v3) (v1) (v2) ) fun p11 =>
  if (p11) = (0) then
  (Option.bind (f_X12_bad a0  (put_I σ a0 3 ((sg_I σ a0 3) - (1)))) fun p13 =>
  some (v3, p13))
  else
  (some (v3, σ)))
  else
  (Option.bind (f_X12_bad a0  σ) fun p14 =>
  some (v3, p14))
def f_X12_number (N : Nat) (a0 : Nat) (x1 : Int32) (x2 : Int32) (σ : Sg) : Option (Int32 × Sg) :=
  Option.bind (f_X12_look N a0  σ) fun p1 =>
  Option.bind (f_X12_isDigit (p1.1) ) fun p2 =>
  if (p2) = (0) then
  (Option.bind (f_X12_bad a0  p1.2) fun p16 =>
  some (x1, p16))
  else
  (Option.bind (f_X12_here a0  p1.2) fun p4 =>
  Option.bind (f_X12_here a0  (put_I p1.2 a0 3 ((sg_I p1.2 a0 3) + (1)))) fun p5 =>
  Option.bind (f_X12_isDigit (p5) ) fun p6 =>
  if (p6) = (0) then
  (f_X12_number_B67 N a0 (x1) (x2) ((p4) - (48)) (put_I p1.2 a0 3 ((sg_I p1.2 a0 3) + (1))))
  else
  (Option.bind (f_X12_here a0  (put_I p1.2 a0 3 ((sg_I p1.2 a0 3) + (1)))) fun p15 =>
  f_X12_number_B67 N a0 (x1) (x2) ((((10) * ((p4) - (48))) + (p15)) - (48)) (put_I (put_I p1.2 a0 3 ((sg_I p1.2 a0 3) + (1))) a0 3 ((sg_I (put_I p1.2 a0 3 ((sg_I p1.2 a0 3) + (1))) a0 3) + (1)))))
set_option maxHeartbeats 4000000 in
set_option maxRecDepth 100000 in
theorem t_X12_number_B67 {N : Nat} {a0 : Nat} {Γ : Gm} {σ0 : Sg} {r : (Int32 × Sg)} (C1 : CM Γ cX12_number RX12 4 (some .int) 2 40 0 0 (fun r_ τ_ => (r_ = some (vi r.1)) ∧ τ_ = r.2 ∧ sg_T τ_ ∧ sg_E σ0 τ_)) (v1 : Int32) (v2 : Int32) (v3 : Int32) (σ : Sg) (hT : sg_T σ) (hE : sg_E σ0 σ) (h0 : is_A σ a0 11) (hf : f_X12_number_B67 N a0  v1 v2 v3 σ = some r) : J_ Γ 67 [(0, vr (some a0)), (1, vi (v1)), (2, vi (v2)), (3, vi (v3))] [] σ 0 0 := by
  have C0 := C1.1
  unfold f_X12_number_B67 at hf
  refine J_aload_n (q := 68) C0 0 rfl rfl dX12_number_67 rfl trivial ?_
  refine K_some hf (fun p8 hp8 hf => ?_)
  refine J_callV (q := 71) (ci := 11) (as := []) (rest := []) C0 rfl (h0) (t_X12_here a0  (hT) (h0)  hp8) ml_X12_here lk_X12_106 im_X12_here se_X12_here rfl (by decide) dX12_number_68 rfl rfl rfl (by simp [ac_]) C1.room (by decide) (by decide) (by decide) (by decide) (fun r_ τ_ hQ => ?_)
  obtain ⟨rfl, ht_⟩ := hQ; have ht_ := ht_.symm; subst ht_
  show J_ Γ 71 [(0, vr (some a0)), (1, vi (v1)), (2, vi (v2)), (3, vi (v3))] [vi (p8)] σ 0 0
  refine K_some hf (fun p9 hp9 hf => ?_)
  refine J_callS (q := 74) (as := [vi (p8)]) (rest := []) C0 (t_X12_isDigit (p8)  hp9) ml_X12_isDigit lk_X12_125 sm_X12_isDigit dX12_number_71 rfl rfl rfl (by simp [ac_]) C1.room (by decide) (by decide) (by decide) (by decide) (fun r_ τ_ hQ => ?_)
  obtain ⟨⟨rfl, zp9⟩, ht_⟩ := hQ; have ht_ := ht_.symm; subst ht_
  show J_ Γ 74 [(0, vr (some a0)), (1, vi (v1)), (2, vi (v2)), (3, vi (v3))] [vi (p9)] σ 0 0
  refine J_if_eq (t := 84) (q := 77) C0 dX12_number_74 (by decide) rfl hf (fun c10 hf => ?_) (fun c10 hf => ?_)
  · refine J_iload_n (q := 85) C0 3 rfl rfl dX12_number_84 rfl ?_
    refine J_iload_n (q := 86) C0 1 rfl rfl dX12_number_85 rfl ?_
    refine J_iload_n (q := 87) C0 2 rfl rfl dX12_number_86 rfl ?_
    refine K_some hf (fun p11 hp11 hf => ?_)
    refine J_callS (q := 90) (as := [vi (v3), vi (v1), vi (v2)]) (rest := []) C0 (t_X12_in (v3) (v1) (v2)  hp11) ml_X12_in lk_X12_208 sm_X12_in dX12_number_87 rfl rfl rfl (by simp [ac_]) C1.room (by decide) (by decide) (by decide) (by decide) (fun r_ τ_ hQ => ?_)
    obtain ⟨⟨rfl, zp11⟩, ht_⟩ := hQ; have ht_ := ht_.symm; subst ht_
    show J_ Γ 90 [(0, vr (some a0)), (1, vi (v1)), (2, vi (v2)), (3, vi (v3))] [vi (p11)] σ 0 0
    refine J_if_ne (t := 107) (q := 93) C0 dX12_number_90 (by decide) rfl hf (fun c12 hf => ?_) (fun c12 hf => ?_)
    · refine J_iload_n (q := 108) C0 3 rfl rfl dX12_number_107 rfl ?_
      obtain rfl := Option.some.inj hf; exact J_iret C1 dX12_number_108 rfl (Nat.zero_le _) (Nat.zero_le _) ⟨rfl, rfl, hT, hE⟩
    · refine J_aload_n (q := 94) C0 0 rfl rfl dX12_number_93 rfl trivial ?_
      refine J_dup (q := 95) C0 dX12_number_94 rfl rfl ?_
      refine J_getI (q := 98) C0 fl_X12_103_11 rfl (h0) rfl dX12_number_95 rfl ?_
      refine J_iconst (q := 99) (v := 1) C0 dX12_number_98 rfl rfl ?_
      refine J_isub (q := 100) C0 dX12_number_99 rfl ?_
      refine J_putI (q := 103) C0 fl_X12_103_11 rfl (h0) rfl dX12_number_100 rfl ?_
      refine J_aload_n (q := 104) C0 0 rfl rfl dX12_number_103 rfl trivial ?_
      refine K_some hf (fun p13 hp13 hf => ?_)
      refine J_callV (q := 107) (ci := 11) (as := []) (rest := []) C0 rfl ((h0).putI) (t_X12_bad a0  ((hT).putI) ((h0).putI)  hp13) ml_X12_bad lk_X12_119 im_X12_bad se_X12_bad rfl (by decide) dX12_number_104 rfl rfl rfl (by simp [ac_]) C1.room (by decide) (by decide) (by decide) (by decide) (fun r_ τ_ hQ => ?_)
      obtain ⟨rfl, ht_, Tp13, Ep13⟩ := hQ; have ht_ := ht_.symm; subst ht_
      show J_ Γ 107 [(0, vr (some a0)), (1, vi (v1)), (2, vi (v2)), (3, vi (v3))] [] p13 0 0
      refine J_iload_n (q := 108) C0 3 rfl rfl dX12_number_107 rfl ?_
      obtain rfl := Option.some.inj hf; exact J_iret C1 dX12_number_108 rfl (Nat.zero_le _) (Nat.zero_le _) ⟨rfl, rfl, Tp13, ((hE).putI).tr Ep13⟩
  · refine J_aload_n (q := 78) C0 0 rfl rfl dX12_number_77 rfl trivial ?_
    refine K_some hf (fun p14 hp14 hf => ?_)
    refine J_callV (q := 81) (ci := 11) (as := []) (rest := []) C0 rfl (h0) (t_X12_bad a0  (hT) (h0)  hp14) ml_X12_bad lk_X12_119 im_X12_bad se_X12_bad rfl (by decide) dX12_number_78 rfl rfl rfl (by simp [ac_]) C1.room (by decide) (by decide) (by decide) (by decide) (fun r_ τ_ hQ => ?_)
    obtain ⟨rfl, ht_, Tp14, Ep14⟩ := hQ; have ht_ := ht_.symm; subst ht_
    show J_ Γ 81 [(0, vr (some a0)), (1, vi (v1)), (2, vi (v2)), (3, vi (v3))] [] p14 0 0
    refine J_goto (q := 107) C0 dX12_number_81 (by decide) ?_
    refine J_iload_n (q := 108) C0 3 rfl rfl dX12_number_107 rfl ?_
    obtain rfl := Option.some.inj hf; exact J_iret C1 dX12_number_108 rfl (Nat.zero_le _) (Nat.zero_le _) ⟨rfl, rfl, Tp14, (hE).tr Ep14⟩
set_option maxHeartbeats 4000000 in
set_option maxRecDepth 100000 in
theorem t_X12_number (N : Nat) (a0 : Nat) (x1 : Int32) (x2 : Int32) {σ : Sg} (hT : sg_T σ) (h0 : is_A σ a0 11) {r : (Int32 × Sg)} (hf : f_X12_number N a0 x1 x2 σ = some r) : Ct yX12_number cX12_number 4 (some .int) 2 40 0 0 [vr (some a0), vi x1, vi x2] σ (fun r_ τ_ => (r_ = some (vi r.1)) ∧ τ_ = r.2 ∧ sg_T τ_ ∧ sg_E σ τ_) := by
  refine Ct.of (by decide +kernel) (Nat.le_of_ble_eq_true rfl) (fun Γ C1 => ?_)
  have C0 := C1.1
  have hE : sg_E σ σ := sg_E.rf
  unfold f_X12_number at hf
  show J_ Γ 0 [(0, vr (some a0)), (1, vi (x1)), (2, vi (x2))] [] σ 0 0
  refine J_aload_n (q := 1) C0 0 rfl rfl dX12_number_0 rfl trivial ?_
  refine K_some hf (fun p1 hp1 hf => ?_)
  refine J_callV (q := 4) (ci := 11) (as := []) (rest := []) C0 rfl (h0) (t_X12_look N a0  (hT) (h0)  hp1) ml_X12_look lk_X12_122 im_X12_look se_X12_look rfl (by decide) dX12_number_1 rfl rfl rfl (by simp [ac_]) C1.room (by decide) (by decide) (by decide) (by decide) (fun r_ τ_ hQ => ?_)
  obtain ⟨rfl, rfl, Tp1, Ep1⟩ := hQ
  show J_ Γ 4 [(0, vr (some a0)), (1, vi (x1)), (2, vi (x2))] [vi (p1.1)] p1.2 0 0
  refine K_some hf (fun p2 hp2 hf => ?_)
  refine J_callS (q := 7) (as := [vi (p1.1)]) (rest := []) C0 (t_X12_isDigit (p1.1)  hp2) ml_X12_isDigit lk_X12_125 sm_X12_isDigit dX12_number_4 rfl rfl rfl (by simp [ac_]) C1.room (by decide) (by decide) (by decide) (by decide) (fun r_ τ_ hQ => ?_)
  obtain ⟨⟨rfl, zp2⟩, ht_⟩ := hQ; have ht_ := ht_.symm; subst ht_
  show J_ Γ 7 [(0, vr (some a0)), (1, vi (x1)), (2, vi (x2))] [vi (p2)] p1.2 0 0
  refine J_if_ne (t := 16) (q := 10) C0 dX12_number_7 (by decide) rfl hf (fun c3 hf => ?_) (fun c3 hf => ?_)
  · refine J_aload_n (q := 17) C0 0 rfl rfl dX12_number_16 rfl trivial ?_
    refine K_some hf (fun p4 hp4 hf => ?_)
    refine J_callV (q := 20) (ci := 11) (as := []) (rest := []) C0 rfl ((Ep1.at h0)) (t_X12_here a0  (Tp1) ((Ep1.at h0))  hp4) ml_X12_here lk_X12_106 im_X12_here se_X12_here rfl (by decide) dX12_number_17 rfl rfl rfl (by simp [ac_]) C1.room (by decide) (by decide) (by decide) (by decide) (fun r_ τ_ hQ => ?_)
    obtain ⟨rfl, ht_⟩ := hQ; have ht_ := ht_.symm; subst ht_
    show J_ Γ 20 [(0, vr (some a0)), (1, vi (x1)), (2, vi (x2))] [vi (p4)] p1.2 0 0
    refine J_bipush (q := 22) (v := 48) C0 dX12_number_20 rfl rfl ?_
    refine J_isub (q := 23) C0 dX12_number_22 rfl ?_
    refine J_istore_n (q := 24) (lv' := [(3, vi ((p4) - (48))), (0, vr (some a0)), (1, vi (x1)), (2, vi (x2))]) C0 rfl (G_nl C1 (by decide)) dX12_number_23 rfl rfl ?_
    refine J_aload_n (q := 25) C0 1 rfl rfl dX12_number_24 rfl trivial ?_
    refine J_dup (q := 26) C0 dX12_number_25 rfl rfl ?_
    refine J_getI (q := 29) C0 fl_X12_103_11 rfl ((Ep1.at h0)) rfl dX12_number_26 rfl ?_
    refine J_iconst (q := 30) (v := 1) C0 dX12_number_29 rfl rfl ?_
    refine J_iadd (q := 31) C0 dX12_number_30 rfl ?_
    refine J_putI (q := 34) C0 fl_X12_103_11 rfl ((Ep1.at h0)) rfl dX12_number_31 rfl ?_
    refine J_aload_n (q := 35) C0 1 rfl rfl dX12_number_34 rfl trivial ?_
    refine K_some hf (fun p5 hp5 hf => ?_)
    refine J_callV (q := 38) (ci := 11) (as := []) (rest := []) C0 rfl (((Ep1.at h0)).putI) (t_X12_here a0  ((Tp1).putI) (((Ep1.at h0)).putI)  hp5) ml_X12_here lk_X12_106 im_X12_here se_X12_here rfl (by decide) dX12_number_35 rfl rfl rfl (by simp [ac_]) C1.room (by decide) (by decide) (by decide) (by decide) (fun r_ τ_ hQ => ?_)
    obtain ⟨rfl, ht_⟩ := hQ; have ht_ := ht_.symm; subst ht_
    show J_ Γ 38 [(3, vi ((p4) - (48))), (0, vr (some a0)), (1, vi (x1)), (2, vi (x2))] [vi (p5)] (put_I p1.2 a0 3 ((sg_I p1.2 a0 3) + (1))) 0 0
    refine K_some hf (fun p6 hp6 hf => ?_)
    refine J_callS (q := 41) (as := [vi (p5)]) (rest := []) C0 (t_X12_isDigit (p5)  hp6) ml_X12_isDigit lk_X12_125 sm_X12_isDigit dX12_number_38 rfl rfl rfl (by simp [ac_]) C1.room (by decide) (by decide) (by decide) (by decide) (fun r_ τ_ hQ => ?_)
    obtain ⟨⟨rfl, zp6⟩, ht_⟩ := hQ; have ht_ := ht_.symm; subst ht_
    show J_ Γ 41 [(3, vi ((p4) - (48))), (0, vr (some a0)), (1, vi (x1)), (2, vi (x2))] [vi (p6)] (put_I p1.2 a0 3 ((sg_I p1.2 a0 3) + (1))) 0 0
    refine J_if_eq (t := 67) (q := 44) C0 dX12_number_41 (by decide) rfl hf (fun c7 hf => ?_) (fun c7 hf => ?_)
    · refine J_sub (lv' := [(0, vr (some a0)), (1, vi (x1)), (2, vi (x2)), (3, vi ((p4) - (48)))]) [1, 2, 3, 0] rfl ?_
      exact t_X12_number_B67 C1    (x1) (x2) ((p4) - (48)) (put_I p1.2 a0 3 ((sg_I p1.2 a0 3) + (1))) ((Tp1).putI) (((hE).tr Ep1).putI) (((Ep1.at h0)).putI)  hf
    · refine J_bipush (q := 46) (v := 10) C0 dX12_number_44 rfl rfl ?_
      refine J_iload_n (q := 47) C0 0 rfl rfl dX12_number_46 rfl ?_
      refine J_imul (q := 48) C0 dX12_number_47 rfl ?_
      refine J_aload_n (q := 49) C0 1 rfl rfl dX12_number_48 rfl trivial ?_
      refine K_some hf (fun p15 hp15 hf => ?_)
      refine J_callV (q := 52) (ci := 11) (as := []) (rest := [vi ((10) * ((p4) - (48)))]) C0 rfl (((Ep1.at h0)).putI) (t_X12_here a0  ((Tp1).putI) (((Ep1.at h0)).putI)  hp15) ml_X12_here lk_X12_106 im_X12_here se_X12_here rfl (by decide) dX12_number_49 rfl rfl rfl (by simp [ac_]) C1.room (by decide) (by decide) (by decide) (by decide) (fun r_ τ_ hQ => ?_)
      obtain ⟨rfl, ht_⟩ := hQ; have ht_ := ht_.symm; subst ht_
      show J_ Γ 52 [(3, vi ((p4) - (48))), (0, vr (some a0)), (1, vi (x1)), (2, vi (x2))] [vi (p15), vi ((10) * ((p4) - (48)))] (put_I p1.2 a0 3 ((sg_I p1.2 a0 3) + (1))) 0 0
      refine J_iadd (q := 53) C0 dX12_number_52 rfl ?_
      refine J_bipush (q := 55) (v := 48) C0 dX12_number_53 rfl rfl ?_
      refine J_isub (q := 56) C0 dX12_number_55 rfl ?_
      refine J_istore_n (q := 57) (lv' := [(3, vi ((((10) * ((p4) - (48))) + (p15)) - (48))), (0, vr (some a0)), (1, vi (x1)), (2, vi (x2))]) C0 rfl (G_nl C1 (by decide)) dX12_number_56 rfl rfl ?_
      refine J_aload_n (q := 58) C0 1 rfl rfl dX12_number_57 rfl trivial ?_
      refine J_dup (q := 59) C0 dX12_number_58 rfl rfl ?_
      refine J_getI (q := 62) C0 fl_X12_103_11 rfl (((Ep1.at h0)).putI) rfl dX12_number_59 rfl ?_
      refine J_iconst (q := 63) (v := 1) C0 dX12_number_62 rfl rfl ?_
      refine J_iadd (q := 64) C0 dX12_number_63 rfl ?_
      refine J_putI (q := 67) C0 fl_X12_103_11 rfl (((Ep1.at h0)).putI) rfl dX12_number_64 rfl ?_
      refine J_sub (lv' := [(0, vr (some a0)), (1, vi (x1)), (2, vi (x2)), (3, vi ((((10) * ((p4) - (48))) + (p15)) - (48)))]) [1, 2, 3, 0] rfl ?_
      exact t_X12_number_B67 C1    (x1) (x2) ((((10) * ((p4) - (48))) + (p15)) - (48)) (put_I (put_I p1.2 a0 3 ((sg_I p1.2 a0 3) + (1))) a0 3 ((sg_I (put_I p1.2 a0 3 ((sg_I p1.2 a0 3) + (1))) a0 3) + (1))) (((Tp1).putI).putI) ((((hE).tr Ep1).putI).putI) ((((Ep1.at h0)).putI).putI)  hf
  · refine J_aload_n (q := 11) C0 0 rfl rfl dX12_number_10 rfl trivial ?_
    refine K_some hf (fun p16 hp16 hf => ?_)
    refine J_callV (q := 14) (ci := 11) (as := []) (rest := []) C0 rfl ((Ep1.at h0)) (t_X12_bad a0  (Tp1) ((Ep1.at h0))  hp16) ml_X12_bad lk_X12_119 im_X12_bad se_X12_bad rfl (by decide) dX12_number_11 rfl rfl rfl (by simp [ac_]) C1.room (by decide) (by decide) (by decide) (by decide) (fun r_ τ_ hQ => ?_)
    obtain ⟨rfl, ht_, Tp16, Ep16⟩ := hQ; have ht_ := ht_.symm; subst ht_
    show J_ Γ 14 [(0, vr (some a0)), (1, vi (x1)), (2, vi (x2))] [] p16 0 0
    refine J_iload_n (q := 15) C0 1 rfl rfl dX12_number_14 rfl ?_
    obtain rfl := Option.some.inj hf; exact J_iret C1 dX12_number_15 rfl (Nat.zero_le _) (Nat.zero_le _) ⟨rfl, rfl, Tp16, ((hE).tr Ep1).tr Ep16⟩
def f_X12_itemOf (x0 : Int32) (x1 : Int32) : Option Int32 :=
  if (x0) = (115) then
  (if (x1) = (102) then
  (some (0))
  else
  (if (x1) = (111) then
  (some (1))
  else
  (if (x1) = (107) then
  (some (2))
  else
  (some ((-1))))))
  else
  (if (x1) = (118) then
  (some (0))
  else
  (if (x1) = (98) then
  (some (1))
  else
  (if (x1) = (112) then
  (some (2))
  else
  (if (x1) = (114) then
  (some (3))
  else
  (some ((-1)))))))
set_option maxHeartbeats 4000000 in
set_option maxRecDepth 100000 in
theorem t_X12_itemOf (x0 : Int32) (x1 : Int32) {σ : Sg} {r : Int32} (hf : f_X12_itemOf x0 x1 = some r) : Ct yX12_itemOf cX12_itemOf 2 (some .int) 0 0 0 0 [vi x0, vi x1] σ (fun r_ τ_ => (r_ = some (vi r)) ∧ τ_ = σ) := by
  refine Ct.of (by decide +kernel) (Nat.le_of_ble_eq_true rfl) (fun Γ C1 => ?_)
  have C0 := C1.1
  unfold f_X12_itemOf at hf
  show J_ Γ 0 [(0, vi (x0)), (1, vi (x1))] [] σ 0 0
  refine J_iload_n (q := 1) C0 0 rfl rfl dX12_itemOf_0 rfl ?_
  refine J_bipush (q := 3) (v := 115) C0 dX12_itemOf_1 rfl rfl ?_
  refine J_icmp_ne (t := 38) (q := 6) C0 dX12_itemOf_3 (by decide) rfl hf (fun c1 hf => ?_) (fun c1 hf => ?_)
  · refine J_iload_n (q := 39) C0 1 rfl rfl dX12_itemOf_38 rfl ?_
    refine J_bipush (q := 41) (v := 118) C0 dX12_itemOf_39 rfl rfl ?_
    refine J_icmp_ne (t := 48) (q := 44) C0 dX12_itemOf_41 (by decide) rfl hf (fun c2 hf => ?_) (fun c2 hf => ?_)
    · refine J_iload_n (q := 49) C0 1 rfl rfl dX12_itemOf_48 rfl ?_
      refine J_bipush (q := 51) (v := 98) C0 dX12_itemOf_49 rfl rfl ?_
      refine J_icmp_ne (t := 58) (q := 54) C0 dX12_itemOf_51 (by decide) rfl hf (fun c3 hf => ?_) (fun c3 hf => ?_)
      · refine J_iload_n (q := 59) C0 1 rfl rfl dX12_itemOf_58 rfl ?_
        refine J_bipush (q := 61) (v := 112) C0 dX12_itemOf_59 rfl rfl ?_
        refine J_icmp_ne (t := 68) (q := 64) C0 dX12_itemOf_61 (by decide) rfl hf (fun c4 hf => ?_) (fun c4 hf => ?_)
        · refine J_iload_n (q := 69) C0 1 rfl rfl dX12_itemOf_68 rfl ?_
          refine J_bipush (q := 71) (v := 114) C0 dX12_itemOf_69 rfl rfl ?_
          refine J_icmp_ne (t := 78) (q := 74) C0 dX12_itemOf_71 (by decide) rfl hf (fun c5 hf => ?_) (fun c5 hf => ?_)
          · refine J_iconst (q := 79) (v := (-1)) C0 dX12_itemOf_78 rfl rfl ?_
            obtain rfl := Option.some.inj hf; exact J_iret C1 dX12_itemOf_79 rfl (Nat.zero_le _) (Nat.zero_le _) ⟨rfl, rfl⟩
          · refine J_iconst (q := 75) (v := 3) C0 dX12_itemOf_74 rfl rfl ?_
            refine J_goto (q := 79) C0 dX12_itemOf_75 (by decide) ?_
            obtain rfl := Option.some.inj hf; exact J_iret C1 dX12_itemOf_79 rfl (Nat.zero_le _) (Nat.zero_le _) ⟨rfl, rfl⟩
        · refine J_iconst (q := 65) (v := 2) C0 dX12_itemOf_64 rfl rfl ?_
          refine J_goto (q := 79) C0 dX12_itemOf_65 (by decide) ?_
          obtain rfl := Option.some.inj hf; exact J_iret C1 dX12_itemOf_79 rfl (Nat.zero_le _) (Nat.zero_le _) ⟨rfl, rfl⟩
      · refine J_iconst (q := 55) (v := 1) C0 dX12_itemOf_54 rfl rfl ?_
        refine J_goto (q := 79) C0 dX12_itemOf_55 (by decide) ?_
        obtain rfl := Option.some.inj hf; exact J_iret C1 dX12_itemOf_79 rfl (Nat.zero_le _) (Nat.zero_le _) ⟨rfl, rfl⟩
    · refine J_iconst (q := 45) (v := 0) C0 dX12_itemOf_44 rfl rfl ?_
      refine J_goto (q := 79) C0 dX12_itemOf_45 (by decide) ?_
      obtain rfl := Option.some.inj hf; exact J_iret C1 dX12_itemOf_79 rfl (Nat.zero_le _) (Nat.zero_le _) ⟨rfl, rfl⟩
  · refine J_iload_n (q := 7) C0 1 rfl rfl dX12_itemOf_6 rfl ?_
    refine J_bipush (q := 9) (v := 102) C0 dX12_itemOf_7 rfl rfl ?_
    refine J_icmp_ne (t := 16) (q := 12) C0 dX12_itemOf_9 (by decide) rfl hf (fun c6 hf => ?_) (fun c6 hf => ?_)
    · refine J_iload_n (q := 17) C0 1 rfl rfl dX12_itemOf_16 rfl ?_
      refine J_bipush (q := 19) (v := 111) C0 dX12_itemOf_17 rfl rfl ?_
      refine J_icmp_ne (t := 26) (q := 22) C0 dX12_itemOf_19 (by decide) rfl hf (fun c7 hf => ?_) (fun c7 hf => ?_)
      · refine J_iload_n (q := 27) C0 1 rfl rfl dX12_itemOf_26 rfl ?_
        refine J_bipush (q := 29) (v := 107) C0 dX12_itemOf_27 rfl rfl ?_
        refine J_icmp_ne (t := 36) (q := 32) C0 dX12_itemOf_29 (by decide) rfl hf (fun c8 hf => ?_) (fun c8 hf => ?_)
        · refine J_iconst (q := 37) (v := (-1)) C0 dX12_itemOf_36 rfl rfl ?_
          obtain rfl := Option.some.inj hf; exact J_iret C1 dX12_itemOf_37 rfl (Nat.zero_le _) (Nat.zero_le _) ⟨rfl, rfl⟩
        · refine J_iconst (q := 33) (v := 2) C0 dX12_itemOf_32 rfl rfl ?_
          refine J_goto (q := 37) C0 dX12_itemOf_33 (by decide) ?_
          obtain rfl := Option.some.inj hf; exact J_iret C1 dX12_itemOf_37 rfl (Nat.zero_le _) (Nat.zero_le _) ⟨rfl, rfl⟩
      · refine J_iconst (q := 23) (v := 1) C0 dX12_itemOf_22 rfl rfl ?_
        refine J_goto (q := 37) C0 dX12_itemOf_23 (by decide) ?_
        obtain rfl := Option.some.inj hf; exact J_iret C1 dX12_itemOf_37 rfl (Nat.zero_le _) (Nat.zero_le _) ⟨rfl, rfl⟩
    · refine J_iconst (q := 13) (v := 0) C0 dX12_itemOf_12 rfl rfl ?_
      refine J_goto (q := 37) C0 dX12_itemOf_13 (by decide) ?_
      obtain rfl := Option.some.inj hf; exact J_iret C1 dX12_itemOf_37 rfl (Nat.zero_le _) (Nat.zero_le _) ⟨rfl, rfl⟩
def f_X12_highest (x0 : Int32) (x1 : Int32) : Option Int32 :=
  if (x0) = (115) then
  (if (x1) = (0) then
  (some (60))
  else
  (some (99)))
  else
  (if (x1) = (0) then
  (some (9))
  else
  (if (x1) = (1) then
  (some (1))
  else
  (if (x1) = (2) then
  (some (15))
  else
  (some (5)))))
set_option maxHeartbeats 4000000 in
set_option maxRecDepth 100000 in
theorem t_X12_highest (x0 : Int32) (x1 : Int32) {σ : Sg} {r : Int32} (hf : f_X12_highest x0 x1 = some r) : Ct yX12_highest cX12_highest 2 (some .int) 0 0 0 0 [vi x0, vi x1] σ (fun r_ τ_ => (r_ = some (vi r)) ∧ τ_ = σ) := by
  refine Ct.of (by decide +kernel) (Nat.le_of_ble_eq_true rfl) (fun Γ C1 => ?_)
  have C0 := C1.1
  unfold f_X12_highest at hf
  show J_ Γ 0 [(0, vi (x0)), (1, vi (x1))] [] σ 0 0
  refine J_iload_n (q := 1) C0 0 rfl rfl dX12_highest_0 rfl ?_
  refine J_bipush (q := 3) (v := 115) C0 dX12_highest_1 rfl rfl ?_
  refine J_icmp_ne (t := 18) (q := 6) C0 dX12_highest_3 (by decide) rfl hf (fun c1 hf => ?_) (fun c1 hf => ?_)
  · refine J_iload_n (q := 19) C0 1 rfl rfl dX12_highest_18 rfl ?_
    refine J_if_ne (t := 27) (q := 22) C0 dX12_highest_19 (by decide) rfl hf (fun c2 hf => ?_) (fun c2 hf => ?_)
    · refine J_iload_n (q := 28) C0 1 rfl rfl dX12_highest_27 rfl ?_
      refine J_iconst (q := 29) (v := 1) C0 dX12_highest_28 rfl rfl ?_
      refine J_icmp_ne (t := 36) (q := 32) C0 dX12_highest_29 (by decide) rfl hf (fun c3 hf => ?_) (fun c3 hf => ?_)
      · refine J_iload_n (q := 37) C0 1 rfl rfl dX12_highest_36 rfl ?_
        refine J_iconst (q := 38) (v := 2) C0 dX12_highest_37 rfl rfl ?_
        refine J_icmp_ne (t := 46) (q := 41) C0 dX12_highest_38 (by decide) rfl hf (fun c4 hf => ?_) (fun c4 hf => ?_)
        · refine J_iconst (q := 47) (v := 5) C0 dX12_highest_46 rfl rfl ?_
          obtain rfl := Option.some.inj hf; exact J_iret C1 dX12_highest_47 rfl (Nat.zero_le _) (Nat.zero_le _) ⟨rfl, rfl⟩
        · refine J_bipush (q := 43) (v := 15) C0 dX12_highest_41 rfl rfl ?_
          refine J_goto (q := 47) C0 dX12_highest_43 (by decide) ?_
          obtain rfl := Option.some.inj hf; exact J_iret C1 dX12_highest_47 rfl (Nat.zero_le _) (Nat.zero_le _) ⟨rfl, rfl⟩
      · refine J_iconst (q := 33) (v := 1) C0 dX12_highest_32 rfl rfl ?_
        refine J_goto (q := 47) C0 dX12_highest_33 (by decide) ?_
        obtain rfl := Option.some.inj hf; exact J_iret C1 dX12_highest_47 rfl (Nat.zero_le _) (Nat.zero_le _) ⟨rfl, rfl⟩
    · refine J_bipush (q := 24) (v := 9) C0 dX12_highest_22 rfl rfl ?_
      refine J_goto (q := 47) C0 dX12_highest_24 (by decide) ?_
      obtain rfl := Option.some.inj hf; exact J_iret C1 dX12_highest_47 rfl (Nat.zero_le _) (Nat.zero_le _) ⟨rfl, rfl⟩
  · refine J_iload_n (q := 7) C0 1 rfl rfl dX12_highest_6 rfl ?_
    refine J_if_ne (t := 15) (q := 10) C0 dX12_highest_7 (by decide) rfl hf (fun c5 hf => ?_) (fun c5 hf => ?_)
    · refine J_bipush (q := 17) (v := 99) C0 dX12_highest_15 rfl rfl ?_
      obtain rfl := Option.some.inj hf; exact J_iret C1 dX12_highest_17 rfl (Nat.zero_le _) (Nat.zero_le _) ⟨rfl, rfl⟩
    · refine J_bipush (q := 12) (v := 60) C0 dX12_highest_10 rfl rfl ?_
      refine J_goto (q := 17) C0 dX12_highest_12 (by decide) ?_
      obtain rfl := Option.some.inj hf; exact J_iret C1 dX12_highest_17 rfl (Nat.zero_le _) (Nat.zero_le _) ⟨rfl, rfl⟩
def f_X12_usual (x0 : Int32) (x1 : Int32) : Option Int32 :=
  if (x0) = (115) then
  (if (x1) = (0) then
  (some (6))
  else
  (if (x1) = (1) then
  (some (40))
  else
  (some (20))))
  else
  (if (x1) = (0) then
  (some (1))
  else
  (some (0)))
set_option maxHeartbeats 4000000 in
set_option maxRecDepth 100000 in
theorem t_X12_usual (x0 : Int32) (x1 : Int32) {σ : Sg} {r : Int32} (hf : f_X12_usual x0 x1 = some r) : Ct yX12_usual cX12_usual 2 (some .int) 0 0 0 0 [vi x0, vi x1] σ (fun r_ τ_ => (r_ = some (vi r)) ∧ τ_ = σ) := by
  refine Ct.of (by decide +kernel) (Nat.le_of_ble_eq_true rfl) (fun Γ C1 => ?_)
  have C0 := C1.1
  unfold f_X12_usual at hf
  show J_ Γ 0 [(0, vi (x0)), (1, vi (x1))] [] σ 0 0
  refine J_iload_n (q := 1) C0 0 rfl rfl dX12_usual_0 rfl ?_
  refine J_bipush (q := 3) (v := 115) C0 dX12_usual_1 rfl rfl ?_
  refine J_icmp_ne (t := 28) (q := 6) C0 dX12_usual_3 (by decide) rfl hf (fun c1 hf => ?_) (fun c1 hf => ?_)
  · refine J_iload_n (q := 29) C0 1 rfl rfl dX12_usual_28 rfl ?_
    refine J_if_ne (t := 36) (q := 32) C0 dX12_usual_29 (by decide) rfl hf (fun c2 hf => ?_) (fun c2 hf => ?_)
    · refine J_iconst (q := 37) (v := 0) C0 dX12_usual_36 rfl rfl ?_
      obtain rfl := Option.some.inj hf; exact J_iret C1 dX12_usual_37 rfl (Nat.zero_le _) (Nat.zero_le _) ⟨rfl, rfl⟩
    · refine J_iconst (q := 33) (v := 1) C0 dX12_usual_32 rfl rfl ?_
      refine J_goto (q := 37) C0 dX12_usual_33 (by decide) ?_
      obtain rfl := Option.some.inj hf; exact J_iret C1 dX12_usual_37 rfl (Nat.zero_le _) (Nat.zero_le _) ⟨rfl, rfl⟩
  · refine J_iload_n (q := 7) C0 1 rfl rfl dX12_usual_6 rfl ?_
    refine J_if_ne (t := 15) (q := 10) C0 dX12_usual_7 (by decide) rfl hf (fun c3 hf => ?_) (fun c3 hf => ?_)
    · refine J_iload_n (q := 16) C0 1 rfl rfl dX12_usual_15 rfl ?_
      refine J_iconst (q := 17) (v := 1) C0 dX12_usual_16 rfl rfl ?_
      refine J_icmp_ne (t := 25) (q := 20) C0 dX12_usual_17 (by decide) rfl hf (fun c4 hf => ?_) (fun c4 hf => ?_)
      · refine J_bipush (q := 27) (v := 20) C0 dX12_usual_25 rfl rfl ?_
        obtain rfl := Option.some.inj hf; exact J_iret C1 dX12_usual_27 rfl (Nat.zero_le _) (Nat.zero_le _) ⟨rfl, rfl⟩
      · refine J_bipush (q := 22) (v := 40) C0 dX12_usual_20 rfl rfl ?_
        refine J_goto (q := 27) C0 dX12_usual_22 (by decide) ?_
        obtain rfl := Option.some.inj hf; exact J_iret C1 dX12_usual_27 rfl (Nat.zero_le _) (Nat.zero_le _) ⟨rfl, rfl⟩
    · refine J_bipush (q := 12) (v := 6) C0 dX12_usual_10 rfl rfl ?_
      refine J_goto (q := 27) C0 dX12_usual_12 (by decide) ?_
      obtain rfl := Option.some.inj hf; exact J_iret C1 dX12_usual_27 rfl (Nat.zero_le _) (Nat.zero_le _) ⟨rfl, rfl⟩
def f_X12_items_B136 (N : Nat) (a0 : Nat) (k41 : Int32 → Option Nat → Int32 → Int32 → Int32 → Sg → Option Sg) (v1 : Int32) (v2 : Option Nat) (v3 : Int32) (v5 : Int32) (s0 : Int32) (σ : Sg) : Option Sg :=
  k41 (v1) (v2) (v3) (v5) (s0) σ
def f_X12_items_B106 (N : Nat) (a0 : Nat) (k41 : Int32 → Option Nat → Int32 → Int32 → Int32 → Sg → Option Sg) (v1 : Int32) (v2 : Option Nat) (v3 : Int32) (v5 : Int32) (v6 : Int32) (s0 : Int32) (s1 : Option Nat) (s2 : Int32) (s3 : Option Nat) (σ : Sg) : Option Sg :=
  Option.bind (f_X12_highest (v1) (v6) ) fun p9 =>
  Option.bind (s1) fun b10 =>
  Option.bind (f_X12_number N b10 (s0) (p9) σ) fun p11 =>
  Option.bind (s3) fun b12 =>
  if (s2) < 0 ∨ sg_L p11.2 b12 ≤ (s2).toNatClampNeg then none else
  if (sg_I (put_I p11.2 b12 (s2).toNatClampNeg (p11.1)) a0 4) = ((-1)) then
  (Option.bind (f_X12_look N a0  (put_I p11.2 b12 (s2).toNatClampNeg (p11.1))) fun p15 =>
  Option.bind (f_X12_itemOf (v1) (p15.1) ) fun p16 =>
  f_X12_items_B136 N a0 k41 (v1) (v2) (v3) (v5) (p16) (p15.2))
  else
  (f_X12_items_B136 N a0 k41 (v1) (v2) (v3) (v5) ((-1)) (put_I p11.2 b12 (s2).toNatClampNeg (p11.1)))
def f_X12_items_B105 (N : Nat) (a0 : Nat) (k41 : Int32 → Option Nat → Int32 → Int32 → Int32 → Sg → Option Sg) (v1 : Int32) (v2 : Option Nat) (v3 : Int32) (v5 : Int32) (v6 : Int32) (s0 : Option Nat) (s1 : Int32) (s2 : Option Nat) (σ : Sg) : Option Sg :=
  f_X12_items_B106 N a0 k41 (v1) (v2) (v3) (v5) (v6) (0) (s0) (s1) (s2) σ
def f_X12_items_L41 (N : Nat) (a0 : Nat) : Nat → Int32 → Option Nat → Int32 → Int32 → Int32 → Sg → Option Sg
  | 0, _, _, _, _, _, _ => none
  | n + 1, v1, v2, v3, v5, v6, σ =>
  if (sg_I σ a0 4) = ((-1)) then
  (if (v6) = ((-1)) then
  (some (σ))
  else
  (Option.bind (f_X12_has (v5) (v6) ) fun p6 =>
  if (p6) = (0) then
  (if (v1) = (115) then
  (if (v6) = (0) then
  (f_X12_items_B106 N a0 (f_X12_items_L41 N a0 n) (v1) (v2) (v3) ((v5) ||| ((1) <<< ((v6) &&& 31))) (v6) (1) (some a0) ((v3) + (v6)) (v2) (put_I σ a0 3 ((sg_I σ a0 3) + (1))))
  else
  (f_X12_items_B105 N a0 (f_X12_items_L41 N a0 n) (v1) (v2) (v3) ((v5) ||| ((1) <<< ((v6) &&& 31))) (v6) (some a0) ((v3) + (v6)) (v2) (put_I σ a0 3 ((sg_I σ a0 3) + (1)))))
  else
  (f_X12_items_B105 N a0 (f_X12_items_L41 N a0 n) (v1) (v2) (v3) ((v5) ||| ((1) <<< ((v6) &&& 31))) (v6) (some a0) ((v3) + (v6)) (v2) (put_I σ a0 3 ((sg_I σ a0 3) + (1)))))
  else
  (some (σ))))
  else
  (some (σ))
def f_X12_items_L3 (N : Nat) (a0 : Nat) : Nat → Int32 → Option Nat → Int32 → Int32 → Int32 → Sg → Option Sg
  | 0, _, _, _, _, _, _ => none
  | n + 1, v1, v2, v3, v4, v5, σ =>
  if (v5) < (v4) then
  (Option.bind (f_X12_usual (v1) (v5) ) fun p18 =>
  Option.bind (v2) fun b19 =>
  if ((v3) + (v5)) < 0 ∨ sg_L σ b19 ≤ ((v3) + (v5)).toNatClampNeg then none else
  f_X12_items_L3 N a0 n (v1) (v2) (v3) (v4) (v5 + 1) (put_I σ b19 ((v3) + (v5)).toNatClampNeg (p18)))
  else
  (Option.bind (f_X12_look N a0  σ) fun p2 =>
  Option.bind (f_X12_itemOf (v1) (p2.1) ) fun p3 =>
  f_X12_items_L41 N a0 N (v1) (v2) (v3) (0) (p3) (p2.2))
def f_X12_items (N : Nat) (a0 : Nat) (x1 : Int32) (e2 : Option Nat) (x3 : Int32) (x4 : Int32) (σ : Sg) : Option Sg :=
  f_X12_items_L3 N a0 N (x1) (e2) (x3) (x4) (0) σ
set_option maxHeartbeats 4000000 in
set_option maxRecDepth 100000 in
theorem t_X12_items_B136 {N : Nat} {a0 : Nat} {Γ : Gm} {σ0 : Sg} {r : Sg} (C1 : CM Γ cX12_items RX12 7 none 3 63 0 0 (fun r_ τ_ => (r_ = none) ∧ τ_ = r ∧ sg_T τ_ ∧ sg_E σ0 τ_)) (k41 : Int32 → Option Nat → Int32 → Int32 → Int32 → Sg → Option Sg) (hk41 : ∀ (v1 : Int32) (v2 : Option Nat) (v3 : Int32) (v5 : Int32) (v6 : Int32) (σ : Sg), sg_T σ → sg_E σ0 σ → is_A σ a0 11 → is_O σ v2 12 → k41 v1 v2 v3 v5 v6 σ = some r → J_ Γ 41 [(0, vr (some a0)), (1, vi v1), (2, vr v2), (3, vi v3), (5, vi v5), (6, vi v6)] [] σ 0 0) (v1 : Int32) (v2 : Option Nat) (v3 : Int32) (v5 : Int32) (s0 : Int32) (σ : Sg) (hT : sg_T σ) (hE : sg_E σ0 σ) (h0 : is_A σ a0 11) (g_v2 : is_O σ v2 12) (hf : f_X12_items_B136 N a0 k41  v1 v2 v3 v5 s0 σ = some r) : J_ Γ 136 [(0, vr (some a0)), (1, vi (v1)), (2, vr (v2)), (3, vi (v3)), (5, vi (v5))] [vi (s0)] σ 0 0 := by
  have C0 := C1.1
  unfold f_X12_items_B136 at hf
  refine J_istore (q := 138) (lv' := [(6, vi (s0)), (0, vr (some a0)), (1, vi (v1)), (2, vr (v2)), (3, vi (v3)), (5, vi (v5))]) C0 (G_nl C1 (by decide)) dX12_items_136 rfl rfl ?_
  refine J_goto (q := 41) C0 dX12_items_138 (by decide) ?_
  refine J_sub (lv' := [(0, vr (some a0)), (1, vi (v1)), (2, vr (v2)), (3, vi (v3)), (5, vi (v5)), (6, vi (s0))]) [1, 2, 3, 4, 5, 0] rfl ?_
  exact hk41 (v1) (v2) (v3) (v5) (s0) σ (hT) (hE)  (h0) (g_v2) hf
set_option maxHeartbeats 4000000 in
set_option maxRecDepth 100000 in
theorem t_X12_items_B106 {N : Nat} {a0 : Nat} {Γ : Gm} {σ0 : Sg} {r : Sg} (C1 : CM Γ cX12_items RX12 7 none 3 63 0 0 (fun r_ τ_ => (r_ = none) ∧ τ_ = r ∧ sg_T τ_ ∧ sg_E σ0 τ_)) (k41 : Int32 → Option Nat → Int32 → Int32 → Int32 → Sg → Option Sg) (hk41 : ∀ (v1 : Int32) (v2 : Option Nat) (v3 : Int32) (v5 : Int32) (v6 : Int32) (σ : Sg), sg_T σ → sg_E σ0 σ → is_A σ a0 11 → is_O σ v2 12 → k41 v1 v2 v3 v5 v6 σ = some r → J_ Γ 41 [(0, vr (some a0)), (1, vi v1), (2, vr v2), (3, vi v3), (5, vi v5), (6, vi v6)] [] σ 0 0) (v1 : Int32) (v2 : Option Nat) (v3 : Int32) (v5 : Int32) (v6 : Int32) (s0 : Int32) (s1 : Option Nat) (s2 : Int32) (s3 : Option Nat) (σ : Sg) (hT : sg_T σ) (hE : sg_E σ0 σ) (h0 : is_A σ a0 11) (g_v2 : is_O σ v2 12) (g_s1 : is_O σ s1 11) (g_s3 : is_O σ s3 12) (hf : f_X12_items_B106 N a0 k41  v1 v2 v3 v5 v6 s0 s1 s2 s3 σ = some r) : J_ Γ 106 [(0, vr (some a0)), (1, vi (v1)), (2, vr (v2)), (3, vi (v3)), (5, vi (v5)), (6, vi (v6))] [vi (s0), vr (s1), vi (s2), vr (s3)] σ 0 0 := by
  have C0 := C1.1
  unfold f_X12_items_B106 at hf
  refine J_iload_n (q := 107) C0 1 rfl rfl dX12_items_106 rfl ?_
  refine J_iload (q := 109) C0 5 rfl dX12_items_107 rfl ?_
  refine K_some hf (fun p9 hp9 hf => ?_)
  refine J_callS (q := 112) (as := [vi (v1), vi (v6)]) (rest := [vi (s0), vr (s1), vi (s2), vr (s3)]) C0 (t_X12_highest (v1) (v6)  hp9) ml_X12_highest lk_X12_223 sm_X12_highest dX12_items_109 rfl rfl rfl (by simp [ac_]) C1.room (by decide) (by decide) (by decide) (by decide) (fun r_ τ_ hQ => ?_)
  obtain ⟨rfl, ht_⟩ := hQ; have ht_ := ht_.symm; subst ht_
  show J_ Γ 112 [(0, vr (some a0)), (1, vi (v1)), (2, vr (v2)), (3, vi (v3)), (5, vi (v5)), (6, vi (v6))] [vi (p9), vi (s0), vr (s1), vi (s2), vr (s3)] σ 0 0
  refine K_some hf (fun b10 hb10 hf => ?_)
  have ab10 : is_A σ b10 11 := (g_s1) b10 hb10
  refine K_some hf (fun p11 hp11 hf => ?_)
  refine J_callV (q := 115) (ci := 11) (as := [vi (s0), vi (p9)]) (rest := [vi (s2), vr (s3)]) C0 hb10 (ab10) (t_X12_number N b10 (s0) (p9) (hT) (ab10)  hp11) ml_X12_number lk_X12_226 im_X12_number se_X12_number rfl (by decide) dX12_items_112 rfl rfl rfl (by simp [ac_]) C1.room (by decide) (by decide) (by decide) (by decide) (fun r_ τ_ hQ => ?_)
  obtain ⟨rfl, rfl, Tp11, Ep11⟩ := hQ
  show J_ Γ 115 [(0, vr (some a0)), (1, vi (v1)), (2, vr (v2)), (3, vi (v3)), (5, vi (v5)), (6, vi (v6))] [vi (p11.1), vi (s2), vr (s3)] p11.2 0 0
  refine K_some hf (fun b12 hb12 hf => ?_)
  have ab12 : is_A p11.2 b12 12 := ((Ep11.op g_s3)) b12 hb12
  refine K_chk hf (fun c13 hf => ?_)
  refine J_iast (q := 116) C0 hb12 (ab12) c13 dX12_items_115 rfl ?_
  refine J_aload_n (q := 117) C0 0 rfl rfl dX12_items_116 rfl trivial ?_
  refine J_getI (q := 120) C0 fl_X12_110_11 rfl (((Ep11.at h0)).putI) rfl dX12_items_117 rfl ?_
  refine J_iconst (q := 121) (v := (-1)) C0 dX12_items_120 rfl rfl ?_
  refine J_icmp_ne (t := 135) (q := 124) C0 dX12_items_121 (by decide) rfl hf (fun c14 hf => ?_) (fun c14 hf => ?_)
  · refine J_iconst (q := 136) (v := (-1)) C0 dX12_items_135 rfl rfl ?_
    refine J_sub (lv' := [(0, vr (some a0)), (1, vi (v1)), (2, vr (v2)), (3, vi (v3)), (5, vi (v5))]) [0, 1, 2, 3, 4] rfl ?_
    exact t_X12_items_B136 C1  k41  hk41  (v1) (v2) (v3) (v5) ((-1)) (put_I p11.2 b12 (s2).toNatClampNeg (p11.1)) ((Tp11).putI) (((hE).tr Ep11).putI) (((Ep11.at h0)).putI) ((fun b_ h_ => ((Ep11.op g_v2) b_ h_).putI)) hf
  · refine J_iload_n (q := 125) C0 1 rfl rfl dX12_items_124 rfl ?_
    refine J_aload_n (q := 126) C0 0 rfl rfl dX12_items_125 rfl trivial ?_
    refine K_some hf (fun p15 hp15 hf => ?_)
    refine J_callV (q := 129) (ci := 11) (as := []) (rest := [vi (v1)]) C0 rfl (((Ep11.at h0)).putI) (t_X12_look N a0  ((Tp11).putI) (((Ep11.at h0)).putI)  hp15) ml_X12_look lk_X12_122 im_X12_look se_X12_look rfl (by decide) dX12_items_126 rfl rfl rfl (by simp [ac_]) C1.room (by decide) (by decide) (by decide) (by decide) (fun r_ τ_ hQ => ?_)
    obtain ⟨rfl, rfl, Tp15, Ep15⟩ := hQ
    show J_ Γ 129 [(0, vr (some a0)), (1, vi (v1)), (2, vr (v2)), (3, vi (v3)), (5, vi (v5)), (6, vi (v6))] [vi (p15.1), vi (v1)] p15.2 0 0
    refine K_some hf (fun p16 hp16 hf => ?_)
    refine J_callS (q := 132) (as := [vi (v1), vi (p15.1)]) (rest := []) C0 (t_X12_itemOf (v1) (p15.1)  hp16) ml_X12_itemOf lk_X12_216 sm_X12_itemOf dX12_items_129 rfl rfl rfl (by simp [ac_]) C1.room (by decide) (by decide) (by decide) (by decide) (fun r_ τ_ hQ => ?_)
    obtain ⟨rfl, ht_⟩ := hQ; have ht_ := ht_.symm; subst ht_
    show J_ Γ 132 [(0, vr (some a0)), (1, vi (v1)), (2, vr (v2)), (3, vi (v3)), (5, vi (v5)), (6, vi (v6))] [vi (p16)] p15.2 0 0
    refine J_goto (q := 136) C0 dX12_items_132 (by decide) ?_
    refine J_sub (lv' := [(0, vr (some a0)), (1, vi (v1)), (2, vr (v2)), (3, vi (v3)), (5, vi (v5))]) [0, 1, 2, 3, 4] rfl ?_
    exact t_X12_items_B136 C1  k41  hk41  (v1) (v2) (v3) (v5) (p16) (p15.2) (Tp15) ((((hE).tr Ep11).putI).tr Ep15) ((Ep15.at ((Ep11.at h0)).putI)) ((Ep15.op (fun b_ h_ => ((Ep11.op g_v2) b_ h_).putI))) hf
set_option maxHeartbeats 4000000 in
set_option maxRecDepth 100000 in
theorem t_X12_items_B105 {N : Nat} {a0 : Nat} {Γ : Gm} {σ0 : Sg} {r : Sg} (C1 : CM Γ cX12_items RX12 7 none 3 63 0 0 (fun r_ τ_ => (r_ = none) ∧ τ_ = r ∧ sg_T τ_ ∧ sg_E σ0 τ_)) (k41 : Int32 → Option Nat → Int32 → Int32 → Int32 → Sg → Option Sg) (hk41 : ∀ (v1 : Int32) (v2 : Option Nat) (v3 : Int32) (v5 : Int32) (v6 : Int32) (σ : Sg), sg_T σ → sg_E σ0 σ → is_A σ a0 11 → is_O σ v2 12 → k41 v1 v2 v3 v5 v6 σ = some r → J_ Γ 41 [(0, vr (some a0)), (1, vi v1), (2, vr v2), (3, vi v3), (5, vi v5), (6, vi v6)] [] σ 0 0) (v1 : Int32) (v2 : Option Nat) (v3 : Int32) (v5 : Int32) (v6 : Int32) (s0 : Option Nat) (s1 : Int32) (s2 : Option Nat) (σ : Sg) (hT : sg_T σ) (hE : sg_E σ0 σ) (h0 : is_A σ a0 11) (g_v2 : is_O σ v2 12) (g_s0 : is_O σ s0 11) (g_s2 : is_O σ s2 12) (hf : f_X12_items_B105 N a0 k41  v1 v2 v3 v5 v6 s0 s1 s2 σ = some r) : J_ Γ 105 [(0, vr (some a0)), (1, vi (v1)), (2, vr (v2)), (3, vi (v3)), (5, vi (v5)), (6, vi (v6))] [vr (s0), vi (s1), vr (s2)] σ 0 0 := by
  have C0 := C1.1
  unfold f_X12_items_B105 at hf
  refine J_iconst (q := 106) (v := 0) C0 dX12_items_105 rfl rfl ?_
  exact t_X12_items_B106 C1  k41  hk41  (v1) (v2) (v3) (v5) (v6) (0) (s0) (s1) (s2) σ (hT) (hE) (h0) (g_v2) (g_s0) (g_s2) hf
set_option maxHeartbeats 4000000 in
set_option maxRecDepth 100000 in
theorem t_X12_items_L41 {N : Nat} {a0 : Nat} {Γ : Gm} {σ0 : Sg} {r : Sg} (C1 : CM Γ cX12_items RX12 7 none 3 63 0 0 (fun r_ τ_ => (r_ = none) ∧ τ_ = r ∧ sg_T τ_ ∧ sg_E σ0 τ_)) : ∀ (n : Nat) (v1 : Int32) (v2 : Option Nat) (v3 : Int32) (v5 : Int32) (v6 : Int32) (σ : Sg), sg_T σ → sg_E σ0 σ → is_A σ a0 11 → is_O σ v2 12 → f_X12_items_L41 N a0  n v1 v2 v3 v5 v6 σ = some r → J_ Γ 41 [(0, vr (some a0)), (1, vi (v1)), (2, vr (v2)), (3, vi (v3)), (5, vi (v5)), (6, vi (v6))] [] σ 0 0 := by
  have C0 := C1.1
  intro n
  induction n with
  | zero => intro v1 v2 v3 v5 v6 σ hT hE h0 g_v2 hf; unfold f_X12_items_L41 at hf; cases hf
  | succ n ih =>
    intro v1 v2 v3 v5 v6 σ hT hE h0 g_v2 hf
    rw [f_X12_items_L41] at hf
    refine J_aload_n (q := 42) C0 0 rfl rfl dX12_items_41 rfl trivial ?_
    refine J_getI (q := 45) C0 fl_X12_110_11 rfl (h0) rfl dX12_items_42 rfl ?_
    refine J_iconst (q := 46) (v := (-1)) C0 dX12_items_45 rfl rfl ?_
    refine J_icmp_ne (t := 141) (q := 49) C0 dX12_items_46 (by decide) rfl hf (fun c4 hf => ?_) (fun c4 hf => ?_)
    · obtain rfl := Option.some.inj hf; exact J_vret C1 dX12_items_141 rfl (Nat.zero_le _) (Nat.zero_le _) ⟨rfl, rfl, hT, hE⟩
    · refine J_iload (q := 51) C0 5 rfl dX12_items_49 rfl ?_
      refine J_iconst (q := 52) (v := (-1)) C0 dX12_items_51 rfl rfl ?_
      refine J_icmp_eq (t := 141) (q := 55) C0 dX12_items_52 (by decide) rfl hf (fun c5 hf => ?_) (fun c5 hf => ?_)
      · obtain rfl := Option.some.inj hf; exact J_vret C1 dX12_items_141 rfl (Nat.zero_le _) (Nat.zero_le _) ⟨rfl, rfl, hT, hE⟩
      · refine J_iload (q := 57) C0 4 rfl dX12_items_55 rfl ?_
        refine J_iload (q := 59) C0 5 rfl dX12_items_57 rfl ?_
        refine K_some hf (fun p6 hp6 hf => ?_)
        refine J_callS (q := 62) (as := [vi (v5), vi (v6)]) (rest := []) C0 (t_X12_has (v5) (v6)  hp6) ml_X12_has lk_X12_219 sm_X12_has dX12_items_59 rfl rfl rfl (by simp [ac_]) C1.room (by decide) (by decide) (by decide) (by decide) (fun r_ τ_ hQ => ?_)
        obtain ⟨⟨rfl, zp6⟩, ht_⟩ := hQ; have ht_ := ht_.symm; subst ht_
        show J_ Γ 62 [(0, vr (some a0)), (1, vi (v1)), (2, vr (v2)), (3, vi (v3)), (5, vi (v5)), (6, vi (v6))] [vi (p6)] σ 0 0
        refine J_if_ne (t := 141) (q := 65) C0 dX12_items_62 (by decide) rfl hf (fun c7 hf => ?_) (fun c7 hf => ?_)
        · obtain rfl := Option.some.inj hf; exact J_vret C1 dX12_items_141 rfl (Nat.zero_le _) (Nat.zero_le _) ⟨rfl, rfl, hT, hE⟩
        · refine J_iload (q := 67) C0 4 rfl dX12_items_65 rfl ?_
          refine J_iconst (q := 68) (v := 1) C0 dX12_items_67 rfl rfl ?_
          refine J_iload (q := 70) C0 5 rfl dX12_items_68 rfl ?_
          refine J_ishl (q := 71) C0 dX12_items_70 rfl ?_
          refine J_ior (q := 72) C0 dX12_items_71 rfl ?_
          refine J_istore (q := 74) (lv' := [(5, vi ((v5) ||| ((1) <<< ((v6) &&& 31)))), (0, vr (some a0)), (1, vi (v1)), (2, vr (v2)), (3, vi (v3)), (6, vi (v6))]) C0 (G_nl C1 (by decide)) dX12_items_72 rfl rfl ?_
          refine J_aload_n (q := 75) C0 1 rfl rfl dX12_items_74 rfl trivial ?_
          refine J_dup (q := 76) C0 dX12_items_75 rfl rfl ?_
          refine J_getI (q := 79) C0 fl_X12_103_11 rfl (h0) rfl dX12_items_76 rfl ?_
          refine J_iconst (q := 80) (v := 1) C0 dX12_items_79 rfl rfl ?_
          refine J_iadd (q := 81) C0 dX12_items_80 rfl ?_
          refine J_putI (q := 84) C0 fl_X12_103_11 rfl (h0) rfl dX12_items_81 rfl ?_
          refine J_aload_n (q := 85) C0 3 rfl rfl dX12_items_84 rfl trivial ?_
          refine J_iload_n (q := 86) C0 4 rfl rfl dX12_items_85 rfl ?_
          refine J_iload (q := 88) C0 5 rfl dX12_items_86 rfl ?_
          refine J_iadd (q := 89) C0 dX12_items_88 rfl ?_
          refine J_aload_n (q := 90) C0 1 rfl rfl dX12_items_89 rfl trivial ?_
          refine J_iload_n (q := 91) C0 2 rfl rfl dX12_items_90 rfl ?_
          refine J_bipush (q := 93) (v := 115) C0 dX12_items_91 rfl rfl ?_
          refine J_icmp_ne (t := 105) (q := 96) C0 dX12_items_93 (by decide) rfl hf (fun c8 hf => ?_) (fun c8 hf => ?_)
          · refine J_sub (lv' := [(0, vr (some a0)), (1, vi (v1)), (2, vr (v2)), (3, vi (v3)), (5, vi ((v5) ||| ((1) <<< ((v6) &&& 31)))), (6, vi (v6))]) [1, 2, 3, 4, 0, 5] rfl ?_
            exact t_X12_items_B105 C1  (f_X12_items_L41 N a0 n)  ih  (v1) (v2) (v3) ((v5) ||| ((1) <<< ((v6) &&& 31))) (v6) (some a0) ((v3) + (v6)) (v2) (put_I σ a0 3 ((sg_I σ a0 3) + (1))) ((hT).putI) ((hE).putI) ((h0).putI) ((fun b_ h_ => (g_v2 b_ h_).putI)) (is_O.some ((h0).putI)) ((fun b_ h_ => (g_v2 b_ h_).putI)) hf
          · refine J_iload (q := 98) C0 5 rfl dX12_items_96 rfl ?_
            refine J_if_ne (t := 105) (q := 101) C0 dX12_items_98 (by decide) rfl hf (fun c17 hf => ?_) (fun c17 hf => ?_)
            · refine J_sub (lv' := [(0, vr (some a0)), (1, vi (v1)), (2, vr (v2)), (3, vi (v3)), (5, vi ((v5) ||| ((1) <<< ((v6) &&& 31)))), (6, vi (v6))]) [1, 2, 3, 4, 0, 5] rfl ?_
              exact t_X12_items_B105 C1  (f_X12_items_L41 N a0 n)  ih  (v1) (v2) (v3) ((v5) ||| ((1) <<< ((v6) &&& 31))) (v6) (some a0) ((v3) + (v6)) (v2) (put_I σ a0 3 ((sg_I σ a0 3) + (1))) ((hT).putI) ((hE).putI) ((h0).putI) ((fun b_ h_ => (g_v2 b_ h_).putI)) (is_O.some ((h0).putI)) ((fun b_ h_ => (g_v2 b_ h_).putI)) hf
            · refine J_iconst (q := 102) (v := 1) C0 dX12_items_101 rfl rfl ?_
              refine J_goto (q := 106) C0 dX12_items_102 (by decide) ?_
              refine J_sub (lv' := [(0, vr (some a0)), (1, vi (v1)), (2, vr (v2)), (3, vi (v3)), (5, vi ((v5) ||| ((1) <<< ((v6) &&& 31)))), (6, vi (v6))]) [1, 2, 3, 4, 0, 5] rfl ?_
              exact t_X12_items_B106 C1  (f_X12_items_L41 N a0 n)  ih  (v1) (v2) (v3) ((v5) ||| ((1) <<< ((v6) &&& 31))) (v6) (1) (some a0) ((v3) + (v6)) (v2) (put_I σ a0 3 ((sg_I σ a0 3) + (1))) ((hT).putI) ((hE).putI) ((h0).putI) ((fun b_ h_ => (g_v2 b_ h_).putI)) (is_O.some ((h0).putI)) ((fun b_ h_ => (g_v2 b_ h_).putI)) hf
set_option maxHeartbeats 4000000 in
set_option maxRecDepth 100000 in
theorem t_X12_items_L3 {N : Nat} {a0 : Nat} {Γ : Gm} {σ0 : Sg} {r : Sg} (C1 : CM Γ cX12_items RX12 7 none 3 63 0 0 (fun r_ τ_ => (r_ = none) ∧ τ_ = r ∧ sg_T τ_ ∧ sg_E σ0 τ_)) : ∀ (n : Nat) (v1 : Int32) (v2 : Option Nat) (v3 : Int32) (v4 : Int32) (v5 : Int32) (σ : Sg), sg_T σ → sg_E σ0 σ → is_A σ a0 11 → is_O σ v2 12 → f_X12_items_L3 N a0  n v1 v2 v3 v4 v5 σ = some r → J_ Γ 3 [(0, vr (some a0)), (1, vi (v1)), (2, vr (v2)), (3, vi (v3)), (4, vi (v4)), (5, vi (v5))] [] σ 0 0 := by
  have C0 := C1.1
  intro n
  induction n with
  | zero => intro v1 v2 v3 v4 v5 σ hT hE h0 g_v2 hf; unfold f_X12_items_L3 at hf; cases hf
  | succ n ih =>
    intro v1 v2 v3 v4 v5 σ hT hE h0 g_v2 hf
    rw [f_X12_items_L3] at hf
    refine J_iload (q := 5) C0 5 rfl dX12_items_3 rfl ?_
    refine J_iload (q := 7) C0 4 rfl dX12_items_5 rfl ?_
    refine J_icmp_ge (t := 28) (q := 10) C0 dX12_items_7 (by decide) rfl hf (fun c1 hf => ?_) (fun c1 hf => ?_)
    · refine J_iconst (q := 29) (v := 0) C0 dX12_items_28 rfl rfl ?_
      refine J_istore (q := 31) (lv' := [(5, vi (0)), (0, vr (some a0)), (1, vi (v1)), (2, vr (v2)), (3, vi (v3)), (4, vi (v4))]) C0 (G_nl C1 (by decide)) dX12_items_29 rfl rfl ?_
      refine J_iload_n (q := 32) C0 2 rfl rfl dX12_items_31 rfl ?_
      refine J_aload_n (q := 33) C0 1 rfl rfl dX12_items_32 rfl trivial ?_
      refine K_some hf (fun p2 hp2 hf => ?_)
      refine J_callV (q := 36) (ci := 11) (as := []) (rest := [vi (v1)]) C0 rfl (h0) (t_X12_look N a0  (hT) (h0)  hp2) ml_X12_look lk_X12_122 im_X12_look se_X12_look rfl (by decide) dX12_items_33 rfl rfl rfl (by simp [ac_]) C1.room (by decide) (by decide) (by decide) (by decide) (fun r_ τ_ hQ => ?_)
      obtain ⟨rfl, rfl, Tp2, Ep2⟩ := hQ
      show J_ Γ 36 [(5, vi (0)), (0, vr (some a0)), (1, vi (v1)), (2, vr (v2)), (3, vi (v3)), (4, vi (v4))] [vi (p2.1), vi (v1)] p2.2 0 0
      refine K_some hf (fun p3 hp3 hf => ?_)
      refine J_callS (q := 39) (as := [vi (v1), vi (p2.1)]) (rest := []) C0 (t_X12_itemOf (v1) (p2.1)  hp3) ml_X12_itemOf lk_X12_216 sm_X12_itemOf dX12_items_36 rfl rfl rfl (by simp [ac_]) C1.room (by decide) (by decide) (by decide) (by decide) (fun r_ τ_ hQ => ?_)
      obtain ⟨rfl, ht_⟩ := hQ; have ht_ := ht_.symm; subst ht_
      show J_ Γ 39 [(5, vi (0)), (0, vr (some a0)), (1, vi (v1)), (2, vr (v2)), (3, vi (v3)), (4, vi (v4))] [vi (p3)] p2.2 0 0
      refine J_istore (q := 41) (lv' := [(6, vi (p3)), (5, vi (0)), (0, vr (some a0)), (1, vi (v1)), (2, vr (v2)), (3, vi (v3)), (4, vi (v4))]) C0 (G_nl C1 (by decide)) dX12_items_39 rfl rfl ?_
      refine J_sub (lv' := [(0, vr (some a0)), (1, vi (v1)), (2, vr (v2)), (3, vi (v3)), (5, vi (0)), (6, vi (p3))]) [2, 3, 4, 5, 1, 0] rfl ?_
      exact t_X12_items_L41 C1    N (v1) (v2) (v3) (0) (p3) (p2.2) (Tp2) ((hE).tr Ep2) ((Ep2.at h0)) ((Ep2.op g_v2)) hf
    · refine J_aload_n (q := 11) C0 2 rfl rfl dX12_items_10 rfl trivial ?_
      refine J_iload_n (q := 12) C0 3 rfl rfl dX12_items_11 rfl ?_
      refine J_iload (q := 14) C0 5 rfl dX12_items_12 rfl ?_
      refine J_iadd (q := 15) C0 dX12_items_14 rfl ?_
      refine J_iload_n (q := 16) C0 1 rfl rfl dX12_items_15 rfl ?_
      refine J_iload (q := 18) C0 5 rfl dX12_items_16 rfl ?_
      refine K_some hf (fun p18 hp18 hf => ?_)
      refine J_callS (q := 21) (as := [vi (v1), vi (v5)]) (rest := [vi ((v3) + (v5)), vr (v2)]) C0 (t_X12_usual (v1) (v5)  hp18) ml_X12_usual lk_X12_212 sm_X12_usual dX12_items_18 rfl rfl rfl (by simp [ac_]) C1.room (by decide) (by decide) (by decide) (by decide) (fun r_ τ_ hQ => ?_)
      obtain ⟨rfl, ht_⟩ := hQ; have ht_ := ht_.symm; subst ht_
      show J_ Γ 21 [(0, vr (some a0)), (1, vi (v1)), (2, vr (v2)), (3, vi (v3)), (4, vi (v4)), (5, vi (v5))] [vi (p18), vi ((v3) + (v5)), vr (v2)] σ 0 0
      refine K_some hf (fun b19 hb19 hf => ?_)
      have ab19 : is_A σ b19 12 := (g_v2) b19 hb19
      refine K_chk hf (fun c20 hf => ?_)
      refine J_iast (q := 22) C0 hb19 (ab19) c20 dX12_items_21 rfl ?_
      refine J_iinc (q := 25) (v := v5 + 1) (lv' := [(5, vi (v5 + 1)), (0, vr (some a0)), (1, vi (v1)), (2, vr (v2)), (3, vi (v3)), (4, vi (v4))]) C0 5 rfl rfl (G_nl C1 (by decide)) dX12_items_22 rfl rfl ?_
      refine J_goto (q := 3) C0 dX12_items_25 (by decide) ?_
      refine J_sub (lv' := [(0, vr (some a0)), (1, vi (v1)), (2, vr (v2)), (3, vi (v3)), (4, vi (v4)), (5, vi (v5 + 1))]) [1, 2, 3, 4, 5, 0] rfl ?_
      exact ih (v1) (v2) (v3) (v4) (v5 + 1) (put_I σ b19 ((v3) + (v5)).toNatClampNeg (p18)) ((hT).putI) ((hE).putI) ((h0).putI) ((by rw [hb19]; exact is_O.some ((ab19).putI))) hf
set_option maxHeartbeats 4000000 in
set_option maxRecDepth 100000 in
theorem t_X12_items (N : Nat) (a0 : Nat) (x1 : Int32) (e2 : Option Nat) (x3 : Int32) (x4 : Int32) {σ : Sg} (hT : sg_T σ) (h0 : is_A σ a0 11) (g2 : is_O σ e2 12) {r : Sg} (hf : f_X12_items N a0 x1 e2 x3 x4 σ = some r) : Ct yX12_items cX12_items 7 none 3 63 0 0 [vr (some a0), vi x1, vr e2, vi x3, vi x4] σ (fun r_ τ_ => (r_ = none) ∧ τ_ = r ∧ sg_T τ_ ∧ sg_E σ τ_) := by
  refine Ct.of (by decide +kernel) (Nat.le_of_ble_eq_true rfl) (fun Γ C1 => ?_)
  have C0 := C1.1
  have hE : sg_E σ σ := sg_E.rf
  unfold f_X12_items at hf
  show J_ Γ 0 [(0, vr (some a0)), (1, vi (x1)), (2, vr (e2)), (3, vi (x3)), (4, vi (x4))] [] σ 0 0
  refine J_iconst (q := 1) (v := 0) C0 dX12_items_0 rfl rfl ?_
  refine J_istore (q := 3) (lv' := [(5, vi (0)), (0, vr (some a0)), (1, vi (x1)), (2, vr (e2)), (3, vi (x3)), (4, vi (x4))]) C0 (G_nl C1 (by decide)) dX12_items_1 rfl rfl ?_
  refine J_sub (lv' := [(0, vr (some a0)), (1, vi (x1)), (2, vr (e2)), (3, vi (x3)), (4, vi (x4)), (5, vi (0))]) [1, 2, 3, 4, 5, 0] rfl ?_
  exact t_X12_items_L3 C1    N (x1) (e2) (x3) (x4) (0) σ (hT) (hE) (h0) (g2) hf
