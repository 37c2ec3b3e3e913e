/-! ===== laws as both sides hold them ===== -/
/-- a token: the reference's code and value -/
abbrev Tk : Type := Int32 × Int32
/-- the class's code for it -/
def tk_c (t : Tk) : Int32 := if t.1 = 0 then t.2 else if t.1 = 1 then -1 - t.2 else if t.1 = 2 then -143 else if t.1 = 3 then -145 else if t.1 = 4 then -142 else if t.1 = 5 then -147 else if t.1 = 6 then -161 else if t.1 = 7 then -160 else if t.1 = 8 then -162 else if t.1 = 9 then -10 else if t.1 = 10 then -138 else -224
/-- a clause: its test (none: empty) and its sum -/
abbrev Kl : Type := List Tk × List Tk
def kl_c (p : Nat) (q : Kl) : List Int32 := if q.1 = [] then q.2.map tk_c ++ [-12] else q.1.map tk_c ++ (-11 :: Int32.ofNat (p + q.1.length + q.2.length + 3) :: (q.2.map tk_c ++ [-12]))
def ks_c : Nat → List Kl → List Int32
  | _, [] => []
  | p, q :: r => kl_c p q ++ ks_c (p + (kl_c p q).length) r
def ks_t : List Kl → List Tk
  | [] => []
  | q :: r => q.1 ++ (q.2 ++ ks_t r)
/-- where clause c begins among the tokens -/
def ks_o : List Kl → Nat → Nat
  | _, 0 => 0
  | [], _ + 1 => 0
  | q :: r, c + 1 => q.1.length + q.2.length + ks_o r c
/-- kinds on the stack: true for a truth; none: not so built, or more than 62 high -/
def ck_1 (t : Tk) (s : List Bool) : Option (List Bool) :=
  if t.1 = 0 ∨ t.1 = 1 then (if s.length < 62 ∧ 0 ≤ t.2.toInt ∧ t.2.toInt ≤ 9999 ∧ (t.1 = 1 → t.2.toInt ≤ 5) then some (false :: s) else none)
  else if t.1 = 9 then (match s with | true :: r => some (true :: r) | _ => none)
  else if t.1 = 10 ∨ t.1 = 11 then (match s with | true :: true :: r => some (true :: r) | _ => none)
  else if t.1 = 2 ∨ t.1 = 3 ∨ t.1 = 4 ∨ t.1 = 5 then (match s with | false :: false :: r => some (false :: r) | _ => none)
  else if t.1 = 6 ∨ t.1 = 7 ∨ t.1 = 8 then (match s with | false :: false :: r => some (true :: r) | _ => none)
  else none
def ck_ : List Tk → List Bool → Option (List Bool)
  | [], s => some s
  | t :: r, s => (ck_1 t s).bind (ck_ r)
theorem ck_app (a b : List Tk) (s : List Bool) : ck_ (a ++ b) s = (ck_ a s).bind (ck_ b) := by
  induction a generalizing s with
  | nil => rfl
  | cons t r ih =>
    show (ck_1 t s).bind (ck_ (r ++ b)) = ((ck_1 t s).bind (ck_ r)).bind (ck_ b)
    cases ck_1 t s with
    | none => rfl
    | some u => exact ih u
def ok_k (q : Kl) : Prop := (q.1 = [] ∨ ck_ q.1 [] = some [true]) ∧ ck_ q.2 [] = some [false]
/-- from o on the row f spells l -/
def sl_ (f : Nat → Int32) (o : Nat) (l : List Int32) : Prop := ∀ j, j < l.length → f (o + j) = l.getD j 0
/-- the law i, of the class at b, of the reference in its rows, with these clauses -/
def lw_1 (R : Nat → Nat → Option Nat) (L : Nat → Nat) (g h : Nat → Nat → Int32) (i b : Nat) (K : List Kl) : Prop :=
  R b 0 = some (b + 1) ∧ R b 1 = some (b + 2) ∧ L (b + 2) = 64 ∧ L (b + 1) = (ks_c 0 K).length ∧ (ks_c 0 K).length ≤ 720 ∧ sl_ (g (b + 1)) 0 (ks_c 0 K) ∧ h 349 i = Int32.ofNat K.length ∧ K.length ≤ 130 ∧ (ks_t K).length ≤ 515 ∧
  sl_ (h 346) (520 * i) ((ks_t K).map Prod.fst) ∧ sl_ (h 347) (520 * i) ((ks_t K).map Prod.snd) ∧
  (∀ c, c < K.length → h 350 (140 * i + c) = Int32.ofNat (ks_o K c) ∧ h 351 (140 * i + c) = Int32.ofNat (ks_o K c + (K.getD c ([], [])).1.length) ∧ h 352 (140 * i + c) = Int32.ofNat (ks_o K (c + 1))) ∧ (∀ q ∈ K, ok_k q)
/-! ===== what ties the class's pool (R, L, g, N) to the reference's (h) ===== -/
def tp_ (g h : Nat → Nat → Int32) : Prop := ∃ t : Nat, t ≤ 240 ∧ g 0 1 = Int32.ofNat t ∧ h 344 2 = Int32.ofNat t ∧ ∀ i, i < t → g 1 i = h 345 i ∧ 1 ≤ (h 345 i).toInt ∧ (h 345 i).toInt ≤ 255
def sp_ (L : Nat → Nat) (g h : Nat → Nat → Int32) (b s : Nat) : Prop := 1 ≤ L (b + 1) ∧ L (b + 1) ≤ 16 ∧ h 358 s = Int32.ofNat (L (b + 1)) ∧ ∀ i, i < L (b + 1) → g (b + 1) i = h 357 (16 * s + i) ∧ 0 ≤ (h 357 (16 * s + i)).toInt ∧ (h 357 (16 * s + i)).toInt ≤ 26
def st_ (R : Nat → Nat → Option Nat) (L : Nat → Nat) (g h : Nat → Nat → Int32) (N : Nat) : Prop := ∃ k : Nat, k ≤ 6 ∧ g 0 9 = Int32.ofNat k ∧ h 344 23 = Int32.ofNat k ∧ (∀ s, s < k → ∃ b, 371 ≤ b ∧ b + 1 < N ∧ R 13 s = some b ∧ R b 0 = some (b + 1) ∧ sp_ L g h b s) ∧ (∀ s, k ≤ s → s < 6 → R 13 s = none) ∧ g 15 0 = 26
def la_ (R : Nat → Nat → Option Nat) (L : Nat → Nat) (g h : Nat → Nat → Int32) (N : Nat) : Prop := ∃ k : Nat, k ≤ 4 ∧ g 0 6 = Int32.ofNat k ∧ h 344 13 = Int32.ofNat k ∧ g 0 7 = h 344 26 ∧ -1 ≤ (g 0 7).toInt ∧ (g 0 7).toInt < k ∧ (∀ i, i < k → ∃ b K, 371 ≤ b ∧ b + 2 < N ∧ R 12 i = some b ∧ lw_1 R L g h i b K)
/-- law cells and strip cells are apart -/
def ap_ (R : Nat → Nat → Option Nat) (N : Nat) : Prop := (∀ i j b c, i < 4 → j < 4 → i ≠ j → R 12 i = some b → R 12 j = some c → b + 2 < c ∨ c + 2 < b) ∧ (∀ i s b c, i < 4 → s < 6 → R 12 i = some b → R 13 s = some c → b + 2 < c ∨ c + 1 < b) ∧ ∀ i b, i < 4 → R 12 i = some b → b + 2 < N
/-- how long a wheel's strip is -/
def ln_ (h : Nat → Nat → Int32) (r : Int32) : Int := if r.toInt < (h 344 23).toInt then (h 358 r.toNatClampNeg).toInt else 1
/-- a row of the reference keeps its bounds, for n wheels -/
def bd_ (h : Nat → Nat → Int32) (b o n : Nat) : Prop := (1 ≤ (h b (o + 16)).toInt ∧ (h b (o + 16)).toInt ≤ 60) ∧ (0 ≤ (h b (o + 17)).toInt ∧ (h b (o + 17)).toInt ≤ 999) ∧ (0 ≤ (h b (o + 18)).toInt ∧ (h b (o + 18)).toInt ≤ 999) ∧ (0 ≤ (h b (o + 19)).toInt ∧ (h b (o + 19)).toInt ≤ 9999) ∧
  ∀ w, w < n → (0 ≤ (h b (o + 4 * w)).toInt ∧ (h b (o + 4 * w)).toInt ≤ 9) ∧ (h b (o + 4 * w + 1) = 0 ∨ h b (o + 4 * w + 1) = 1) ∧ (0 ≤ (h b (o + 4 * w + 2)).toInt ∧ (h b (o + 4 * w + 2)).toInt < ln_ h (h b (o + 4 * w + 3))) ∧ (0 ≤ (h b (o + 4 * w + 3)).toInt ∧ (h b (o + 4 * w + 3)).toInt ≤ 5)
/-- the picture of wheel w in a row of the class's log -/
def lg_w (x : Int32) (w : Nat) : Int32 := (x >>> ((5 * Int32.ofNat w) &&& 31)) &&& 31
def lg_ (g h : Nat → Nat → Int32) (s b o : Nat) : Prop := ∃ e : Nat, g s 7 = Int32.ofNat e ∧ e ≤ (g s 5).toInt.toNat ∧ h b (o + 20) = Int32.ofNat (min 60 e) ∧ ∀ i, i < min 60 e → ∀ w, w < 4 → lg_w (g (s + 2) ((e - 1 - i) % 60)) w = h b (o + 21 + 4 * (min 60 e - 1 - i) + w)
/-- the class's scene at s is the reference's row at b from o on, with n wheels -/
def sc_ (g h : Nat → Nat → Int32) (s b o n : Nat) : Prop := g s 1 = Int32.ofNat n ∧ g s 2 = h b (o + 16) ∧ g s 3 = h b (o + 17) ∧ g s 4 = h b (o + 18) ∧ g s 5 = h b (o + 19) ∧ (∀ w, w < n → ∀ k, k < 4 → g (s + 3 + w) k = h b (o + 4 * w + k)) ∧ lg_ g h s b o ∧ (0 < n → bd_ h b o n)
def bk_ (g : Nat → Nat → Int32) (s : Nat) : Prop := ∀ w, w < 4 → g (s + 3 + w) 1 = 0 ∨ g (s + 3 + w) 1 = 1
def pa_ (g h : Nat → Nat → Int32) (n : Nat) : Prop := ∃ m x : Nat, m ≤ 40 ∧ x < 40 ∧ g 24 2 = Int32.ofNat m ∧ h 344 29 = Int32.ofNat m ∧ g 24 1 = Int32.ofNat x ∧ ∀ i, i < m → sc_ g h (26 + 7 * ((x + 39 - i) % 40)) 361 (261 * (m - 1 - i)) n
def im_ (g h : Nat → Nat → Int32) (n : Nat) : Prop := g 0 16 = h 344 40 ∧ (g 0 16 = 0 ∨ (g 0 16 = 1 ∧ 0 < n ∧ sc_ g h 306 369 0 n))
def ba_ (g : Nat → Nat → Int32) : Prop := bk_ g 17 ∧ bk_ g 306 ∧ ∀ i, i < 40 → bk_ g (26 + 7 * i)
def mi_ (g h : Nat → Nat → Int32) : Prop := g 0 11 = h 344 27 ∧ 0 ≤ (g 0 11).toInt ∧ (g 0 11).toInt ≤ 9 ∧ ∀ j, j < 5 → g 16 j = h 360 j
def no_ (g h : Nat → Nat → Int32) : Prop := ∃ q : Nat, q ≤ 10 ∧ g 313 3 = Int32.ofNat q ∧ h 344 37 = Int32.ofNat q ∧ ∀ i, i < q → g 314 i = h 365 i ∧ 0 ≤ (h 365 i).toInt ∧ (h 365 i).toInt ≤ 99 ∧ g 315 i = h 366 i ∧ 0 ≤ (h 366 i).toInt ∧ (h 366 i).toInt ≤ 26 ∧ g 316 i = h 367 i ∧ (h 367 i = 0 ∨ h 367 i = 1)
def sw_ (g h : Nat → Nat → Int32) : Prop := ∃ n : Nat, n ≤ 4 ∧ h 344 20 = Int32.ofNat n ∧ sc_ g h 17 359 0 n ∧ pa_ g h n ∧ im_ g h n
def rl_ (R : Nat → Nat → Option Nat) (L : Nat → Nat) (g h : Nat → Nat → Int32) (N : Nat) : Prop := cs_ R L ∧ 371 ≤ N ∧ tp_ g h ∧ st_ R L g h N ∧ la_ R L g h N ∧ ap_ R N ∧ sw_ g h ∧ ba_ g ∧ mi_ g h ∧ no_ g h
def Rel (σ ρ : Sg) : Prop := rl_ (sg_R σ) (sg_L σ) (sg_I σ) (sg_I ρ) (sg_N σ) ∧ rs_ (sg_R ρ) (sg_L ρ)
def p2_I (σ : Sg) : Prop := Rel σ σ
/-! what stays -/
def FC (σ τ : Sg) : Prop := ∀ a, 344 ≤ a → a ≤ 370 → sg_I τ a = sg_I σ a ∧ sg_R τ a = sg_R σ a ∧ sg_L τ a = sg_L σ a ∧ sg_J τ a = sg_J σ a
def FR (σ τ : Sg) : Prop := sg_N τ = sg_N σ ∧ ∀ a, a < 344 ∨ 370 ≤ a → sg_I τ a = sg_I σ a ∧ sg_R τ a = sg_R σ a ∧ sg_L τ a = sg_L σ a
