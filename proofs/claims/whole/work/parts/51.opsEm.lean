theorem sub48 (x : Int32) : (x - 48).toInt = if x.toInt < -2147483600 then x.toInt - 48 + 4294967296 else x.toInt - 48 := by
  have e48 : (48 : Int32).toInt = 48 := by decide
  have hl := x.toInt_lt
  have hg := x.le_toInt
  rw [Int32.toInt_sub, e48]
  show (x.toInt - 48).bmod 4294967296 = _
  split
  · have h := Int.add_bmod_right (x.toInt - 48) 4294967296
    rw [← h]
    show (x.toInt - 48 + 4294967296).bmod 4294967296 = _
    rw [Int.bmod_eq_of_le] <;> omega
  · rw [Int.bmod_eq_of_le] <;> omega
theorem dg_in {x : Int32} {lo hi : Nat} (h1 : lo ≤ 9) (h2 : hi ≤ 9) : (¬ x - 48 < nI lo ∧ ¬ nI hi < x - 48) ↔ (¬ x < nI (48 + lo) ∧ ¬ nI (48 + hi) < x) := by
  have hl := x.toInt_lt
  have hg := x.le_toInt
  rw [fa_lt, fa_lt, fa_lt, fa_lt, sub48, nI_toInt (by omega), nI_toInt (by omega), nI_toInt (by omega), nI_toInt (by omega)]
  split <;> omega
def cdN (C : Nat → Int32) (m q : Nat) : Int32 := if q < m then C q else -9
theorem inW {v lo hi : Int32} : bi (¬ v.toInt64 < lo.toInt64 ∧ ¬ hi.toInt64 < v.toInt64) = bi (¬ v < lo ∧ ¬ hi < v) := by
  unfold bi
  simp only [fa_wide_lt]
theorem rmN_in {C : Nat → Int32} {q R : Nat} (hR : C 1 - 48 = nI R) (h2 : 2 ≤ R) (hR6 : R ≤ 6) : rmN C q = true ↔ (¬ C q < nI (48 + 0) ∧ ¬ nI (48 + (R - 1)) < C q) := by
  rw [← dg_in (by omega) (by omega)]
  unfold rmN
  rw [decide_eq_true_iff, hR]
  have hl := (C q).toInt_lt
  have hg := (C q).le_toInt
  have e48 : (48 : Int32).toInt = 48 := by decide
  rw [fa_lt, fa_lt, fa_lt, fa_lt, sub48, nI_toInt (by omega), nI_toInt (by omega), nI_toInt (by omega), e48]
  split <;> omega
theorem dgB_in {C : Nat → Int32} {q : Nat} : dgB C q = true ↔ (¬ C q < nI (48 + 0) ∧ ¬ nI (48 + 9) < C q) := by
  unfold dgB
  rw [decide_eq_true_iff]
  exact Iff.rfl
theorem fl_ {C : Nat → Int32} {m p : Nat} (h : ffN C m m 0 = ffN C m (m - p) p) (hp : p ≤ m) (hq : p = m → ¬ (2 < m ∧ (m - 2) % 6 = 0)) (hg : p < m → ¬ goN C p = true) (hn : p < m → ¬ noN C p = true) : ffN C m m 0 = some p := by
  rcases Nat.lt_or_ge p m with c | c
  · exact ff_no h c (hg c) (hn c)
  · have e : p = m := by omega
    rw [ff_end h c (hq e), e]
theorem cdN_y {C : Nat → Int32} {m q : Nat} (h : q < m) : cdN C m q = C q := if_pos h
theorem cdN_n {C : Nat → Int32} {m q : Nat} (h : ¬ q < m) : cdN C m q = -9 := if_neg h
theorem cdN_of {C : Nat → Int32} {m q : Nat} {x : Int32} (h : cdN C m q = x) (hx : x ≠ -9) : q < m ∧ C q = x := by
  unfold cdN at h
  split at h
  · rename_i c; exact ⟨c, h⟩
  · exact absurd h.symm hx
theorem add48 (v : Nat) : (48 : Int32) + nI v = nI (48 + v) := by
  rw [show (48 : Int32) = nI 48 from rfl, nI_add]
theorem noF_dg {C : Nat → Int32} {d : Nat} (h : noN C (6 * d + 7) = true) : dgB C (6 * d + 7) = true := by
  unfold dgB
  rw [(noF.mp h).2]
  decide
