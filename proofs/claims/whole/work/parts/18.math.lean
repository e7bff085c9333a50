/-! the state that both sides hold: scalars (0 rooms, 1 doors, 2 persons, 3 stones); rows (0 kind, 1 first, 2 second side, 3 weight of doors; 4 weight, 5 room of persons; 6 weight, 7 place of stones: a room, or 20 and the person); the fault; the trace; of sheets lane and length; cells -/
abbrev sh_be : Type := (Nat → Nat) × (Nat → Nat → Nat) × Int32 × Int32 × (Nat → Option (Nat × Nat)) × (Nat → Nat → Int32)
abbrev bn (b : sh_be) (i : Nat) : Nat := b.1 i
abbrev ba (b : sh_be) (i j : Nat) : Nat := b.2.1 i j
abbrev bF (b : sh_be) : Int32 := b.2.2.1
abbrev bT (b : sh_be) : Int32 := b.2.2.2.1
abbrev bz (b : sh_be) (k : Nat) : Option (Nat × Nat) := b.2.2.2.2.1 k
abbrev bc (b : sh_be) (k i : Nat) : Int32 := b.2.2.2.2.2 k i
def uN_ (b : sh_be) (i v : Nat) : sh_be := (va_up b.1 i v, b.2)
def uA_ (b : sh_be) (i j v : Nat) : sh_be := (b.1, va_up b.2.1 i (va_up (b.2.1 i) j v), b.2.2)
def uF_ (b : sh_be) (f : Int32) : sh_be := (b.1, b.2.1, f, b.2.2.2)
def uT_ (b : sh_be) (t : Int32) : sh_be := (b.1, b.2.1, b.2.2.1, t, b.2.2.2.2)
def uZ_ (b : sh_be) (k : Nat) (z : Option (Nat × Nat)) : sh_be := (b.1, b.2.1, b.2.2.1, b.2.2.2.1, va_up b.2.2.2.2.1 k z, b.2.2.2.2.2)
def uC_ (b : sh_be) (k : Nat) (f : Nat → Int32) : sh_be := (b.1, b.2.1, b.2.2.1, b.2.2.2.1, b.2.2.2.2.1, va_up b.2.2.2.2.2 k f)
theorem up_ne {α : Type} {f : Nat → α} {k j : Nat} {v : α} (h : j ≠ k) : va_up f k v j = f j := if_neg h
theorem up_eq {α : Type} {f : Nat → α} {k : Nat} {v : α} : va_up f k v k = v := if_pos rfl
/-! doors -/
def dSl (k : Nat) : Nat := if k = 2 then 5 else 2
def dAsk (k wt side : Nat) : Nat := if side = 1 ∧ 0 < k then wt + 10 else wt
abbrev dOp (k wt side x : Nat) : Prop := dAsk k wt side - dSl k ≤ x ∧ x ≤ dAsk k wt side + dSl k
/-- where one comes by a door -/
def dBe (k f s wt r x : Nat) : Option Nat := if r = f then (if dOp k wt 0 x then some s else none) else if r = s then (if dOp k wt 1 x then some f else none) else none
/-- a door's cell -/
def kci (k : Nat) : Nat := if k = 0 then 4 else if k = 1 then 7 else 8
def dC (k f s wt : Nat) : sh_C := .inl (kci k, [.int (nI f), .int (nI s), .int (nI wt), .int (nI (dAsk k wt 0 - dSl k)), .int (nI (dAsk k wt 0 + dSl k)), .int (nI (dAsk k wt 1 - dSl k)), .int (nI (dAsk k wt 1 + dSl k))])
def plx (v : Nat) : Int32 := if v < 20 then nI v else - nI v
/-- how many stones a person carries, and which -/
def cnN (pl : Nat → Nat) (v : Nat) : Nat → Nat
  | 0 => 0
  | s + 1 => cnN pl v s + (if pl s = v then 1 else 0)
def cbN (pl : Nat → Nat) (v : Nat) : Nat → Nat
  | 0 => 0
  | s + 1 => cbN pl v s ||| (if pl s = v then 2 ^ s else 0)
def IV (b : sh_be) : Prop := bn b 0 ≤ 6 ∧ bn b 1 ≤ 8 ∧ bn b 2 ≤ 4 ∧ bn b 3 ≤ 4 ∧
  (∀ d, d < bn b 1 → ba b 0 d ≤ 2 ∧ ba b 1 d < bn b 0 ∧ ba b 2 d < bn b 0 ∧ ba b 1 d ≠ ba b 2 d ∧ 1 ≤ ba b 3 d ∧ ba b 3 d ≤ 99) ∧
  (∀ k, k < bn b 2 → 10 ≤ ba b 4 k ∧ ba b 4 k ≤ 99 ∧ ba b 5 k < bn b 0) ∧
  (∀ s, s < bn b 3 → 1 ≤ ba b 6 s ∧ ba b 6 s ≤ 20 ∧ (ba b 7 s < bn b 0 ∨ (20 ≤ ba b 7 s ∧ ba b 7 s < 20 + bn b 2))) ∧
  (∀ k, cnN (ba b 7) (20 + k) (bn b 3) ≤ 2) ∧
  (∀ k l n, k < 4 → bz b k = some (l, n) → l ≤ 2 ∧ n ≤ 60)
def shX (S : Nat → Int32) (A : Nat → Nat → Int32) (b : sh_be) (k : Nat) : Prop := match bz b k with
  | none => S (11 + k) = -1 ∧ S (15 + k) = 0
  | some z => S (11 + k) = nI z.1 ∧ S (15 + k) = nI z.2 ∧ ∀ i, i < z.2 → A (7 + k) i = bc b k i
def shM (A : Nat → Nat → Int32) (b : sh_be) (k : Nat) : Prop := match bz b k with
  | none => A 38 k = -1
  | some z => A 38 k = nI z.2 ∧ A 39 k = nI z.1 ∧ ∀ i, i < z.2 → A 40 (60 * k + i) = bc b k i
/-- the class's world holds the state -/
def RX (S : Nat → Int32) (A : Nat → Nat → Int32) (Lg : Nat → Int64) (P : Nat → Option Nat) (T : List sh_C) (b : sh_be) : Prop :=
  S 0 = bF b ∧ S 1 = nI (bn b 0) ∧ S 2 = nI (bn b 1) ∧ S 3 = nI (bn b 2) ∧ S 4 = nI (bn b 3) ∧ S 10 = bT b ∧
  (∀ k, k < 4 → shX S A b k) ∧
  (∀ d, d < bn b 1 → ∃ j, P d = some (j + 47) ∧ T[j]? = some (dC (ba b 0 d) (ba b 1 d) (ba b 2 d) (ba b 3 d))) ∧
  (∀ k, k < bn b 2 → A 0 k = nI (ba b 4 k) ∧ A 1 k = nI (ba b 5 k)) ∧
  (∀ s, s < bn b 3 → A 2 s = nI (ba b 6 s) ∧ A 3 s = plx (ba b 7 s)) ∧
  (∀ j, Lg j = 0)
/-- the reference's world holds the state -/
def RM (S : Nat → Int32) (A : Nat → Nat → Int32) (b : sh_be) : Prop :=
  S 20 = bF b ∧ S 21 = nI (bn b 0) ∧ S 22 = nI (bn b 1) ∧ S 26 = nI (bn b 2) ∧ S 27 = nI (bn b 3) ∧ S 32 = bT b ∧
  (∀ k, k < 4 → shM A b k) ∧
  (∀ d, d < bn b 1 → A 20 d = nI (ba b 0 d) ∧ A 21 (2 * d) = nI (ba b 1 d) ∧ A 21 (2 * d + 1) = nI (ba b 2 d) ∧ A 22 d = nI (ba b 3 d)) ∧
  (∀ k, k < bn b 2 → A 26 k = nI (ba b 4 k) ∧ A 27 k = nI (ba b 5 k)) ∧
  (∀ s, s < bn b 3 → A 28 s = nI (ba b 6 s) ∧ A 29 s = nI (ba b 7 s))
def FX (S : Nat → Int32) (A : Nat → Nat → Int32) (S' : Nat → Int32) (A' : Nat → Nat → Int32) : Prop := ∀ i, 20 ≤ i → S' i = S i ∧ A' i = A i
def FM (S : Nat → Int32) (A : Nat → Nat → Int32) (S' : Nat → Int32) (A' : Nat → Nat → Int32) : Prop := ∀ i, i < 20 → S' i = S i ∧ A' i = A i
theorem FX.rf {S A} : FX S A S A := fun _ _ => ⟨rfl, rfl⟩
theorem FM.rf {S A} : FM S A S A := fun _ _ => ⟨rfl, rfl⟩
theorem FX.tr {S A S1 A1 S2 A2} (h : FX S A S1 A1) (h2 : FX S1 A1 S2 A2) : FX S A S2 A2 := fun i hi => ⟨(h2 i hi).1.trans (h i hi).1, (h2 i hi).2.trans (h i hi).2⟩
theorem FM.tr {S A S1 A1 S2 A2} (h : FM S A S1 A1) (h2 : FM S1 A1 S2 A2) : FM S A S2 A2 := fun i hi => ⟨(h2 i hi).1.trans (h i hi).1, (h2 i hi).2.trans (h i hi).2⟩
theorem FX.S {S A} {k : Nat} {x : Int32} (h : k < 20) : FX S A (va_up S k x) A := fun i hi => ⟨up_ne (by omega), rfl⟩
theorem FX.A {S A} {k : Nat} {x : Nat → Int32} (h : k < 20) : FX S A S (va_up A k x) := fun i hi => ⟨rfl, up_ne (by omega)⟩
theorem FM.S {S A} {k : Nat} {x : Int32} (h : 20 ≤ k) : FM S A (va_up S k x) A := fun i hi => ⟨up_ne (by omega), rfl⟩
theorem FM.A {S A} {k : Nat} {x : Nat → Int32} (h : 20 ≤ k) : FM S A S (va_up A k x) := fun i hi => ⟨rfl, up_ne (by omega)⟩
theorem RX.fr {S A S' A' Lg P T b} (h : RX S A Lg P T b) (hf : FM S A S' A') : RX S' A' Lg P T b := by
  obtain ⟨h0, h1, h2, h3, h4, h5, h6, h7, h8, h9, h10⟩ := h
  refine ⟨by rw [(hf 0 (by omega)).1]; exact h0, by rw [(hf 1 (by omega)).1]; exact h1, by rw [(hf 2 (by omega)).1]; exact h2, by rw [(hf 3 (by omega)).1]; exact h3, by rw [(hf 4 (by omega)).1]; exact h4, by rw [(hf 10 (by omega)).1]; exact h5, fun k hk => ?_, h7, by rw [(hf 0 (by omega)).2, (hf 1 (by omega)).2]; exact h8, by rw [(hf 2 (by omega)).2, (hf 3 (by omega)).2]; exact h9, h10⟩
  have := h6 k hk
  unfold shX at this ⊢
  rw [(hf (11 + k) (by omega)).1, (hf (15 + k) (by omega)).1, (hf (7 + k) (by omega)).2]
  exact this
theorem RM.fr {S A S' A' b} (h : RM S A b) (hf : FX S A S' A') : RM S' A' b := by
  obtain ⟨h0, h1, h2, h3, h4, h5, h6, h7, h8, h9⟩ := h
  refine ⟨by rw [(hf 20 (by omega)).1]; exact h0, by rw [(hf 21 (by omega)).1]; exact h1, by rw [(hf 22 (by omega)).1]; exact h2, by rw [(hf 26 (by omega)).1]; exact h3, by rw [(hf 27 (by omega)).1]; exact h4, by rw [(hf 32 (by omega)).1]; exact h5, fun k hk => ?_, by rw [(hf 20 (by omega)).2, (hf 21 (by omega)).2, (hf 22 (by omega)).2]; exact h7, by rw [(hf 26 (by omega)).2, (hf 27 (by omega)).2]; exact h8, by rw [(hf 28 (by omega)).2, (hf 29 (by omega)).2]; exact h9⟩
  have := h6 k hk
  unfold shM at this ⊢
  rw [(hf 38 (by omega)).2, (hf 39 (by omega)).2, (hf 40 (by omega)).2]
  exact this
/-- what a call of the class leaves; of the reference -/
def QX (G : sh_G) (S : Nat → Int32) (A : Nat → Nat → Int32) (v : Option Value) (b : sh_be) : Option Value → List sh_C → Prop := fun r w => ∃ S' A' Lg' P' T', w = mkW G S' A' Lg' P' T' ∧ r = v ∧ RX S' A' Lg' P' T' b ∧ FX S A S' A'
def QM (G : sh_G) (S : Nat → Int32) (A : Nat → Nat → Int32) (Lg : Nat → Int64) (P : Nat → Option Nat) (T : List sh_C) (v : Option Value) (b : sh_be) : Option Value → List sh_C → Prop := fun r w => ∃ S' A', w = mkW G S' A' Lg P T ∧ r = v ∧ RM S' A' b ∧ FM S A S' A'
theorem RX.F {S A Lg P T b} (h : RX S A Lg P T b) (f : Int32) : RX (va_up S 0 f) A Lg P T (uF_ b f) := by
  obtain ⟨h0, h1, h2, h3, h4, h5, h6, h7, h8, h9, h10⟩ := h
  refine ⟨rfl, h1, h2, h3, h4, h5, fun k hk => ?_, h7, h8, h9, h10⟩
  have := h6 k hk
  unfold shX at this ⊢
  rw [up_ne (f := S) (show 11 + k ≠ 0 by omega), up_ne (f := S) (show 15 + k ≠ 0 by omega)]
  exact this
theorem RM.F {S A b} (h : RM S A b) (f : Int32) : RM (va_up S 20 f) A (uF_ b f) := by
  obtain ⟨h0, h1, h2, h3, h4, h5, h6, h7, h8, h9⟩ := h
  exact ⟨rfl, h1, h2, h3, h4, h5, h6, h7, h8, h9⟩
/-- places of the sheets -/
theorem sh_shs_at {k : Nat} (h : k < 4) : sh_shs k = some (16 + 2 * k) := by
  match k, h with
  | 0, _ => rfl
  | 1, _ => rfl
  | 2, _ => rfl
  | 3, _ => rfl
theorem mkW_sh {G S A Lg P T} {k : Nat} (h : k < 4) : (mkW G S A Lg P T)[16 + 2 * k]? = some (.inl (3, [.ref (17 + 2 * k), .int (S (11 + k)), .int (S (15 + k))])) := by
  match k, h with
  | 0, _ => rfl
  | 1, _ => rfl
  | 2, _ => rfl
  | 3, _ => rfl
theorem mkW_sc {G S A Lg P T} {k : Nat} (h : k < 4) : (mkW G S A Lg P T)[17 + 2 * k]? = some (.inr (0, 60, .inl (A (7 + k)))) := by
  match k, h with
  | 0, _ => rfl
  | 1, _ => rfl
  | 2, _ => rfl
  | 3, _ => rfl
theorem mkW_sc_set {G S A Lg P T} {k : Nat} (h : k < 4) (f : Nat → Int32) : (mkW G S A Lg P T).set (17 + 2 * k) (.inr (0, 60, .inl f)) = mkW G S (va_up A (7 + k) f) Lg P T := by
  match k, h with
  | 0, _ => rfl
  | 1, _ => rfl
  | 2, _ => rfl
  | 3, _ => rfl
theorem mkW_sh_set {G S A Lg P T} {k : Nat} (h : k < 4) (l n : Int32) : (mkW G S A Lg P T).set (16 + 2 * k) (.inl (3, [.ref (17 + 2 * k), .int l, .int n])) = mkW G (va_up (va_up S (11 + k) l) (15 + k) n) A Lg P T := by
  match k, h with
  | 0, _ => rfl
  | 1, _ => rfl
  | 2, _ => rfl
  | 3, _ => rfl
theorem ix_of {x N : Int32} {n : Nat} (hN : N = nI n) (hn : n < 2 ^ 31) (h : ¬ x < 0 ∧ ¬ N ≤ x) : ∃ j, j < n ∧ x = nI j := by
  subst hN
  rcases pk_ix x hn with g | g | g
  · exact absurd g h.1
  · exact absurd g h.2
  · exact g
