/-! doors told in cells -/
def okD (b : sh_be) (k i : Nat) : Nat → Bool
  | 0 => true
  | n + 1 => okD b k i n && decide (¬ bc b k (i + n) < 0 ∧ ¬ nI (bn b 1) ≤ bc b k (i + n))
def psN (b : sh_be) (k i w r : Nat) : Nat → Option Nat
  | 0 => some r
  | n + 1 => match psN b k i w r n with
    | none => none
    | some t => bBe b (bc b k (i + n)).toNatClampNeg t w
def hdN (b : sh_be) (k i n : Nat) : Nat → Nat
  | 0 => 0
  | p + 1 => hdN b k i n p ||| (if (psN b k i (wN b p) (ba b 5 p) n).isSome = true then 2 ^ p else 0)
def bsN (p : Nat → Bool) : Nat → Nat → Nat → Nat
  | 0, _, c => c
  | m + 1, w, c => bsN p m (w + 1) (c + (if p w = true then 1 else 0))
def oDrs (b : sh_be) (k lane i n : Int32) : Int32 := if oRef b k lane i n ≠ 0 then oRef b k lane i n else if okD b k.toNatClampNeg i.toNatClampNeg n.toNatClampNeg = true then 0 else -1
def oHeard (b : sh_be) (k lane i n : Int32) : Int32 × sh_be :=
  if oDrs b k lane i n ≠ 0 then (oDrs b k lane i n, uF_ b (fOf (oRef b k lane i n))) else (nI (hdN b k.toNatClampNeg i.toNatClampNeg n.toNatClampNeg (bn b 2)), uF_ b 0)
def oBy (b : sh_be) (r k lane i n : Int32) : Int32 × sh_be :=
  if ¬ (¬ r < 0 ∧ ¬ nI (bn b 0) ≤ r) then (-1, uF_ b 0) else
  if oDrs b k lane i n ≠ 0 then (oDrs b k lane i n, uF_ b (fOf (oRef b k lane i n))) else (nI (bsN (fun w => (psN b k.toNatClampNeg i.toNatClampNeg w r.toNatClampNeg n.toNatClampNeg).isSome) 90 10 0), uF_ b 0)
theorem okD_at {b : sh_be} {k i : Nat} : ∀ {n : Nat}, okD b k i n = true → ∀ j, j < n → ¬ bc b k (i + j) < 0 ∧ ¬ nI (bn b 1) ≤ bc b k (i + j)
  | 0, _, j, hj => absurd hj (Nat.not_lt_zero j)
  | n + 1, h, j, hj => by
    unfold okD at h
    rw [Bool.and_eq_true, decide_eq_true_iff] at h
    rcases Nat.lt_or_ge j n with q | q
    · exact okD_at h.1 j q
    · rw [show j = n by omega]; exact h.2
theorem okD_no {b : sh_be} {k i j : Nat} (h : ¬ (¬ bc b k (i + j) < 0 ∧ ¬ nI (bn b 1) ≤ bc b k (i + j))) : ∀ {n : Nat}, j < n → ¬ okD b k i n = true := fun hj g => h (okD_at g j hj)
theorem okD_s {b : sh_be} {k i n : Nat} (h : okD b k i n = true) (h2 : ¬ bc b k (i + n) < 0 ∧ ¬ nI (bn b 1) ≤ bc b k (i + n)) : okD b k i (n + 1) = true := by
  unfold okD; rw [Bool.and_eq_true, decide_eq_true_iff]; exact ⟨h, h2⟩
theorem psN_none {b : sh_be} {k i w r n : Nat} (h : psN b k i w r n = none) : ∀ m, n ≤ m → psN b k i w r m = none
  | 0, hm => by rw [show n = 0 by omega] at h; exact h
  | m + 1, hm => by
    rcases Nat.lt_or_ge m n with q | q
    · rw [show m + 1 = n by omega]; exact h
    · unfold psN; rw [psN_none h m q]
theorem bBe_lt {b : sh_be} (hI : IV b) {d r w t : Nat} (hd : d < bn b 1) (h : bBe b d r w = some t) : t < bn b 0 := by
  obtain ⟨k1, k2, k3, k4, k5, k6⟩ := hI.2.2.2.2.1 d hd
  exact dBe_lt k2 k3 h
theorem psN_s {b : sh_be} {k i w r n t : Nat} (h : psN b k i w r n = some t) : psN b k i w r (n + 1) = bBe b (bc b k (i + n)).toNatClampNeg t w := by
  show (match psN b k i w r n with | none => none | some t => bBe b (bc b k (i + n)).toNatClampNeg t w) = _
  rw [h]
theorem psN_lt {b : sh_be} (hI : IV b) {k i w r m : Nat} (hok : okD b k i m = true) (hr : r < bn b 0) : ∀ {n t : Nat}, n ≤ m → psN b k i w r n = some t → t < bn b 0
  | 0, t, _, h => by cases h; exact hr
  | n + 1, t, hn, h => by
    rcases ho : psN b k i w r n with _ | u
    · rw [psN_none ho (n + 1) (by omega)] at h; cases h
    · rw [psN_s ho] at h
      obtain ⟨d, hd, e⟩ := ix_of (n := bn b 1) rfl (by have := hI.2.1; omega) (okD_at hok n (by omega))
      rw [e, nI_clamp (by have := hI.2.1; omega)] at h
      exact bBe_lt hI hd h
theorem oDrs_ok {b : sh_be} (hI : IV b) {k lane i n : Int32} (h : oDrs b k lane i n = 0) : oRef b k lane i n = 0 ∧ ∃ j z a m, j < 4 ∧ k = nI j ∧ bz b j = some z ∧ i = nI a ∧ n = nI m ∧ a + m ≤ z.2 ∧ z.2 ≤ 60 ∧ okD b j a m = true := by
  unfold oDrs at h
  split at h
  · rename_i c; exact absurd h c
  rename_i c
  have c := Classical.not_not.mp c
  obtain ⟨j, h1, rfl, z, h3, -, a, m, h5, rfl, rfl⟩ := oRef_ok hI c
  have hzl := (IV.l hI h1 z h3).2
  rw [nI_clamp (by omega), nI_clamp (by omega), nI_clamp (by omega)] at h
  split at h
  · rename_i g; exact ⟨c, j, z, a, m, h1, rfl, h3, rfl, rfl, h5, hzl, g⟩
  · exact absurd (show (-1 : Int32) = 0 from h) (by decide)
theorem wN_20 {b : sh_be} (hI : IV b) {k : Nat} (hk : k < bn b 2) : wN b k < 2 ^ 20 := by
  have := wN_le hI hk; omega
theorem okD_F {b : sh_be} {f : Int32} {k i : Nat} : ∀ n, okD (uF_ b f) k i n = okD b k i n
  | 0 => rfl
  | n + 1 => by
    unfold okD; rw [okD_F n]; rfl
theorem psN_F {b : sh_be} {f : Int32} {k i w r : Nat} : ∀ n, psN (uF_ b f) k i w r n = psN b k i w r n
  | 0 => rfl
  | n + 1 => by
    show (match psN (uF_ b f) k i w r n with | none => none | some t => bBe (uF_ b f) (bc (uF_ b f) k (i + n)).toNatClampNeg t w) = (match psN b k i w r n with | none => none | some t => bBe b (bc b k (i + n)).toNatClampNeg t w)
    rw [psN_F n]; rfl
theorem hdN_F {b : sh_be} {f : Int32} {k i n : Nat} : ∀ p, hdN (uF_ b f) k i n p = hdN b k i n p
  | 0 => rfl
  | p + 1 => by
    show hdN (uF_ b f) k i n p ||| (if (psN (uF_ b f) k i (wN b p) (ba b 5 p) n).isSome = true then 2 ^ p else 0) = hdN b k i n p ||| (if (psN b k i (wN b p) (ba b 5 p) n).isSome = true then 2 ^ p else 0)
    rw [hdN_F p, psN_F]
theorem oDrs_F {b : sh_be} {f : Int32} {k lane i n : Int32} : oDrs (uF_ b f) k lane i n = oDrs b k lane i n := by
  unfold oDrs
  rw [okD_F]
  rfl
