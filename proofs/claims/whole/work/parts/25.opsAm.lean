theorem lgl (x y : Int64) : (lg_cmp x y < 0) = (x < y) := by
  unfold lg_cmp
  apply propext
  by_cases h1 : y < x
  · rw [if_pos h1]
    exact ⟨fun h => absurd h (by decide), fun h => by rw [fa_lt64] at h h1; omega⟩
  · rw [if_neg h1]
    by_cases h2 : x = y
    · rw [if_pos h2]; subst h2
      exact ⟨fun h => absurd h (by decide), fun h => absurd h h1⟩
    · rw [if_neg h2]
      refine ⟨fun _ => ?_, fun _ => by decide⟩
      rw [fa_lt64] at h1 ⊢
      rw [fa_eq64] at h2
      omega
theorem lgg (x y : Int64) : (0 < lg_cmp x y) = (y < x) := by
  unfold lg_cmp
  apply propext
  by_cases h1 : y < x
  · rw [if_pos h1]; exact ⟨fun _ => h1, fun _ => by decide⟩
  · rw [if_neg h1]
    refine ⟨fun h => ?_, fun h => absurd h h1⟩
    by_cases h2 : x = y
    · rw [if_pos h2] at h; exact absurd h (by decide)
    · rw [if_neg h2] at h; exact absurd h (by decide)
theorem wlt (x : Int32) {c : Int64} {n : Int} (hc : c.toInt = n) : (x.toInt64 < c) = (x.toInt < n) := by
  rw [fa_lt64, Int32.toInt_toInt64, hc]
theorem wgt (x : Int32) {c : Int64} {n : Int} (hc : c.toInt = n) : (c < x.toInt64) = (n < x.toInt) := by
  rw [fa_lt64, Int32.toInt_toInt64, hc]
theorem nI_m {n : Nat} (h : n < 2 ^ 31) : ((nI n).toInt64 - 1).toInt = (n : Int) - 1 := by
  rw [nI_l h, Int64.toInt_sub, lN_toInt h]
  have e1 : (1 : Int64).toInt = 1 := by decide
  rw [e1]
  show ((n : Int) - 1).bmod (2 ^ 64) = (n : Int) - 1
  rw [Int.bmod_eq_of_le] <;> omega
def shZ (A : Nat → Nat → Int32) (g : Nat → Int32) (k : Nat) : Option (Nat × Nat) → Prop
  | none => A 38 k = -1
  | some z => A 38 k = nI z.2 ∧ A 39 k = nI z.1 ∧ ∀ i, i < z.2 → A 40 (60 * k + i) = g i
theorem RM.Z {S : Nat → Int32} {A A' : Nat → Nat → Int32} {b : sh_be} (h : RM S A b) {k : Nat} (hk : k < 4) {g : Nat → Int32} {z : Option (Nat × Nat)}
    (ho : ∀ i, i < 38 → A' i = A i) (h1 : ∀ j, j ≠ k → A' 38 j = A 38 j ∧ A' 39 j = A 39 j ∧ ∀ i, i < 60 → A' 40 (60 * j + i) = A 40 (60 * j + i)) (hl : ∀ j y, j < 4 → bz b j = some y → y.2 ≤ 60)
    (hz : shZ A' g k z) : RM S A' (uZ_ (uC_ b k g) k z) := by
  obtain ⟨g0, g1, g2, g3, g4, g5, g6, g7, g8, g9⟩ := h
  refine ⟨g0, g1, g2, g3, g4, g5, fun j hj => ?_, by rw [ho 20 (by omega), ho 21 (by omega), ho 22 (by omega)]; exact g7, by rw [ho 26 (by omega), ho 27 (by omega)]; exact g8, by rw [ho 28 (by omega), ho 29 (by omega)]; exact g9⟩
  by_cases e : j = k
  · subst e
    unfold shM
    rw [show bz (uZ_ (uC_ b j g) j z) j = z from up_eq]
    have hc : bc (uZ_ (uC_ b j g) j z) j = g := up_eq
    rw [hc]
    cases z <;> exact hz
  · have hh := g6 j hj
    unfold shM at hh ⊢
    have hc : bc (uZ_ (uC_ b k g) k z) j = bc b j := up_ne e
    rw [show bz (uZ_ (uC_ b k g) k z) j = bz b j from up_ne e, hc, (h1 j e).1, (h1 j e).2.1]
    rcases hb : bz b j with _ | y
    · rw [hb] at hh; exact hh
    · rw [hb] at hh
      exact ⟨hh.1, hh.2.1, fun i hi => by rw [(h1 j e).2.2 i (by have := hl j y hj hb; omega)]; exact hh.2.2 i hi⟩
theorem RM.C {S A b} (h : RM S A b) {k : Nat} (hk : k < 4) (hl : ∀ j y, j < 4 → bz b j = some y → y.2 ≤ 60) {f g : Nat → Int32} {z : Nat × Nat} (hz : bz b k = some z) (h1 : ∀ j i, j ≠ k → i < 60 → f (60 * j + i) = A 40 (60 * j + i)) (hf : ∀ i, i < z.2 → f (60 * k + i) = g i) : RM S (va_up A 40 f) (uC_ b k g) := by
  obtain ⟨e1, e2, -⟩ := shM_s (h.2.2.2.2.2.2.1 k hk) hz
  have := h.Z (A' := va_up A 40 f) hk (g := g) (z := some z) (fun i hi => up_ne (by omega)) (fun j hj => ⟨by rw [up_ne (by omega)], by rw [up_ne (by omega)], fun i hi => by rw [up_eq]; exact h1 j i hj hi⟩) hl ⟨by rw [up_ne (by omega)]; exact e1, by rw [up_ne (by omega)]; exact e2, fun i hi => by rw [up_eq]; exact hf i hi⟩
  have e4 : uZ_ (uC_ b k g) k (some z) = uC_ b k g := by
    have : bz (uC_ b k g) k = some z := hz
    rw [← this, uZ_self]
  rw [e4] at this
  exact this
theorem IV.m {b : sh_be} (h : IV b) : ∀ j y, j < 4 → bz b j = some y → y.2 ≤ 60 := fun j y hj hy => (IV.l h hj y hy).2
theorem mul60 (k i : Nat) : (60 : Int32) * nI k + nI i = nI (60 * k + i) := by
  rw [show (60 : Int32) = nI 60 from rfl, pk_mul, nI_add]
/-- the cells of a stretch set to 0 -/
def zr (f : Nat → Int32) (o j : Nat) : Nat → Int32 := fun i => if o ≤ i ∧ i < o + j then 0 else f i
theorem zr_s (f : Nat → Int32) (o j : Nat) : upd (zr f o j) (o + j) 0 = zr f o (j + 1) := by
  funext i
  unfold upd zr
  by_cases h : i = o + j
  · subst h; rw [if_pos rfl, if_pos (by omega)]
  · rw [if_neg h]
    by_cases h2 : o ≤ i ∧ i < o + j
    · rw [if_pos h2, if_pos (by omega)]
    · rw [if_neg h2, if_neg (by omega)]
theorem zr_0 (f : Nat → Int32) (o : Nat) : zr f o 0 = f := by
  funext i; unfold zr; rw [if_neg (by omega)]
theorem in4 {k : Int32} : bi (¬ k.toInt64 < 0 ∧ ¬ (3 : Int64) < k.toInt64) = bi (¬ k < 0 ∧ ¬ 4 ≤ k) := by
  have e : (¬ k.toInt64 < 0 ∧ ¬ (3 : Int64) < k.toInt64) ↔ (¬ k < 0 ∧ ¬ 4 ≤ k) := by
    rw [wlt k (by decide : (0 : Int64).toInt = 0), wgt k (by decide : (3 : Int64).toInt = 3), fa_lt, fa_le]
    have e1 : (0 : Int32).toInt = 0 := by decide
    have e2 : (4 : Int32).toInt = 4 := by decide
    omega
  unfold bi
  simp only [e]
theorem i_le0 {x : Int32} : (x ≤ 0) = ¬ (0 < x) := by
  rw [Int32.not_lt]
def nCl (b : sh_be) (k : Nat) (i : Int32) : Int32 := match bz b k with
  | none => 1
  | some z => if ¬ i < 0 ∧ ¬ nI z.2 ≤ i then 0 else 3
theorem shM_no {A b k} (h : shM A b k) (hl : ∀ j y, j < 4 → bz b j = some y → y.2 ≤ 60) (hk : k < 4) (h2 : ¬ 0 ≤ A 38 k) : bz b k = none := by
  rcases hb : bz b k with _ | z
  · rfl
  · have := hl k z hk hb
    rw [(shM_s h hb).1] at h2
    exact absurd (nI_pos' (by omega)) h2
theorem shM_ex {A b k} (h : shM A b k) (h2 : 0 ≤ A 38 k) : ∃ z, bz b k = some z := by
  rcases hb : bz b k with _ | z
  · rw [shM_n h hb] at h2; exact absurd h2 (by decide)
  · exact ⟨z, rfl⟩
theorem inm {i : Int32} {n : Nat} (hn : n < 2 ^ 31) (h : ¬ i.toInt < 0 ∧ ¬ ((n : Int) - 1) < i.toInt) : ¬ i < 0 ∧ ¬ nI n ≤ i := by
  rw [fa_lt, fa_le, nI_toInt hn]
  have e1 : (0 : Int32).toInt = 0 := by decide
  omega
theorem inm2 {i : Int32} {n : Nat} (hn : n < 2 ^ 31) (h : ¬ i < 0 ∧ ¬ nI n ≤ i) : ¬ i.toInt < 0 ∧ ¬ ((n : Int) - 1) < i.toInt := by
  rw [fa_lt, fa_le, nI_toInt hn] at h
  have e1 : (0 : Int32).toInt = 0 := by decide
  omega
theorem inL {i : Int32} {n : Nat} (hn : n < 2 ^ 31) : bi (¬ i.toInt64 < 0 ∧ ¬ (nI n).toInt64 - 1 < i.toInt64) = bi (¬ i < 0 ∧ ¬ nI n ≤ i) := by
  have e : (¬ i.toInt64 < 0 ∧ ¬ (nI n).toInt64 - 1 < i.toInt64) ↔ (¬ i < 0 ∧ ¬ nI n ≤ i) := by
    rw [wlt i (by decide : (0 : Int64).toInt = 0), wgt i (nI_m hn)]
    exact ⟨inm hn, inm2 hn⟩
  unfold bi
  simp only [e]
theorem inC {x a' b' : Int32} {a b : Int64} (ha : a.toInt = a'.toInt) (hb : b.toInt = b'.toInt) : bi (¬ x.toInt64 < a ∧ ¬ b < x.toInt64) = bi (¬ x < a' ∧ ¬ b' < x) := by
  have e : (¬ x.toInt64 < a ∧ ¬ b < x.toInt64) ↔ (¬ x < a' ∧ ¬ b' < x) := by
    rw [wlt x ha, wgt x hb, fa_lt, fa_lt]
  unfold bi
  simp only [e]
theorem in2 {x : Int32} : bi (¬ x.toInt64 < 0 ∧ ¬ (2 : Int64) < x.toInt64) = bi (¬ x < 0 ∧ ¬ 2 < x) := inC (by decide) (by decide)
theorem add64 (x y : Int32) : (x.toInt64 + y.toInt64).toInt = x.toInt + y.toInt := by
  have h1 := x.toInt_lt
  have h2 := x.le_toInt
  have h3 := y.toInt_lt
  have h4 := y.le_toInt
  rw [Int64.toInt_add, Int32.toInt_toInt64, Int32.toInt_toInt64]
  show (x.toInt + y.toInt).bmod (2 ^ 64) = x.toInt + y.toInt
  rw [Int.bmod_eq_of_le] <;> omega
theorem beyL {i n : Int32} {c : Nat} (hc : c ≤ 60) : bi (i < 0 ∨ n.toInt64 < 0 ∨ (nI c).toInt64 < i.toInt64 + n.toInt64) = bi (¬ (¬ i < 0 ∧ ¬ n < 0 ∧ ¬ nI c < i ∧ ¬ nI c - i < n)) := by
  have e : (i < 0 ∨ n.toInt64 < 0 ∨ (nI c).toInt64 < i.toInt64 + n.toInt64) ↔ (¬ (¬ i < 0 ∧ ¬ n < 0 ∧ ¬ nI c < i ∧ ¬ nI c - i < n)) := by
    have en : (n.toInt64 < 0) ↔ (n < 0) := by
      rw [wlt n (by decide : (0 : Int64).toInt = 0), fa_lt]
      have : (0 : Int32).toInt = 0 := by decide
      rw [this]
    by_cases h1 : i < 0
    · exact ⟨fun _ h => h.1 h1, fun _ => Or.inl h1⟩
    by_cases h2 : n < 0
    · exact ⟨fun _ h => h.2.1 h2, fun _ => Or.inr (Or.inl (en.mpr h2))⟩
    obtain ⟨a, ha, rfl⟩ := nI_of h1
    obtain ⟨m, hm, rfl⟩ := nI_of h2
    have e3 : ((nI c).toInt64 < (nI a).toInt64 + (nI m).toInt64) ↔ c < a + m := by
      rw [fa_lt64, add64, Int32.toInt_toInt64, nI_toInt (by omega), nI_toInt ha, nI_toInt hm]
      omega
    rw [e3]
    constructor
    · intro h g
      rcases h with h | h | h
      · exact h1 h
      · exact h2 (en.mp h)
      · obtain ⟨a', m', g1, g2, g3⟩ := has_ok hc g
        rw [nI_eq ha (by omega)] at g2
        rw [nI_eq hm (by omega)] at g3
        omega
    · intro h
      right; right
      rcases Nat.lt_or_ge c (a + m) with q | q
      · exact q
      · exact absurd (has_of hc q) h
  unfold bi
  simp only [e]
theorem lgge (x y : Int64) : (0 ≤ lg_cmp x y) = ¬ (x < y) := by rw [← lgl, Int32.not_lt]
theorem n64 (n : Int32) : (n.toInt64 < 0) = (n < 0) := by
  rw [wlt n (by decide : (0 : Int64).toInt = 0), fa_lt]
  have : (0 : Int32).toInt = 0 := by decide
  rw [this]
theorem nCl_n {b : sh_be} {k : Nat} {i : Int32} (h : bz b k = none) : nCl b k i = 1 := by unfold nCl; rw [h]
theorem nCl_s {b : sh_be} {k : Nat} {i : Int32} {z : Nat × Nat} (h : bz b k = some z) : nCl b k i = if ¬ i < 0 ∧ ¬ nI z.2 ≤ i then 0 else 3 := by unfold nCl; rw [h]
theorem nCl_ok {b : sh_be} {k : Nat} {i : Int32} (hI : IV b) (hk : k < 4) (h : nCl b k i ≤ 0) : ∃ z, bz b k = some z ∧ ∃ q, q < z.2 ∧ i = nI q := by
  rcases hb : bz b k with _ | z
  · rw [nCl_n hb] at h; exact absurd h (by decide)
  · rw [nCl_s hb] at h
    by_cases hc : ¬ i < 0 ∧ ¬ nI z.2 ≤ i
    · obtain ⟨q, hq, e⟩ := ix_of (n := z.2) rfl (by have := IV.l hI hk z hb; omega) hc
      exact ⟨z, rfl, q, hq, e⟩
    · rw [if_neg hc] at h; exact absurd h (by decide)
/-- a stretch copied by hands: f out of g -/
def hc (h g : Nat → Int32) (o j : Nat) : Nat → Int32 := fun i => if i < j then g (o + i) else h i
theorem hc_s (h g : Nat → Int32) (o j : Nat) : upd (hc h g o j) j (g (o + j)) = hc h g o (j + 1) := by
  funext i
  unfold upd hc
  by_cases e : i = j
  · subst e; rw [if_pos rfl, if_pos (by omega)]
  · rw [if_neg e]
    by_cases h2 : i < j
    · rw [if_pos h2, if_pos (by omega)]
    · rw [if_neg h2, if_neg (by omega)]
theorem hc_0 (h g : Nat → Int32) (o : Nat) : hc h g o 0 = h := by
  funext i; unfold hc; rw [if_neg (by omega)]
def hd (f h : Nat → Int32) (o j : Nat) : Nat → Int32 := fun i => if o ≤ i ∧ i < o + j then h (i - o) else f i
theorem hd_s (f h : Nat → Int32) (o j : Nat) : upd (hd f h o j) (o + j) (h j) = hd f h o (j + 1) := by
  funext i
  unfold upd hd
  by_cases e : i = o + j
  · subst e; rw [if_pos rfl, if_pos (by omega), show o + j - o = j by omega]
  · rw [if_neg e]
    by_cases h2 : o ≤ i ∧ i < o + j
    · rw [if_pos h2, if_pos (by omega)]
    · rw [if_neg h2, if_neg (by omega)]
theorem hd_0 (f h : Nat → Int32) (o : Nat) : hd f h o 0 = f := by
  funext i; unfold hd; rw [if_neg (by omega)]
theorem mul60b (k i q : Nat) : (60 : Int32) * nI k + nI i + nI q = nI (60 * k + i + q) := by rw [mul60, nI_add]
