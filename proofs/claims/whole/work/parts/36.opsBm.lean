theorem mul2 (k : Nat) : (2 : Int32) * nI k = nI (2 * k) := by
  rw [show (2 : Int32) = nI 2 from rfl, pk_mul]
theorem mul2b (k : Nat) : (2 : Int32) * nI k + 1 = nI (2 * k + 1) := by
  rw [mul2, show (1 : Int32) = nI 1 from rfl, nI_add]
theorem sub_i {a s : Nat} (ha : a < 1000) (hs : s < 1000) : (nI a - nI s).toInt = (a : Int) - s := by
  rw [Int32.toInt_sub, nI_toInt (by omega), nI_toInt (by omega)]
  show ((a : Int) - s).bmod (2 ^ 32) = (a : Int) - s
  rw [Int.bmod_eq_of_le] <;> omega
theorem opL {a s x : Nat} (ha : a < 1000) (hs : s < 1000) (hx : x < 2 ^ 30) : bi (¬ (nI x).toInt64 < (nI a - nI s).toInt64 ∧ ¬ (nI a + nI s).toInt64 < (nI x).toInt64) = bi (a - s ≤ x ∧ x ≤ a + s) := by
  have e : (¬ (nI x).toInt64 < (nI a - nI s).toInt64 ∧ ¬ (nI a + nI s).toInt64 < (nI x).toInt64) ↔ (a - s ≤ x ∧ x ≤ a + s) := by
    rw [fa_wide_lt, fa_wide_lt, fa_lt, fa_lt, sub_i ha hs, nI_add, nI_toInt (by omega), nI_toInt (by omega)]
    omega
  unfold bi
  simp only [e]
theorem subT {a s : Nat} (ha : a < 1000) (hs : s < 1000) (h : 0 ≤ nI a - nI s) : nI a - nI s = nI (a - s) := by
  rw [fa_le, sub_i ha hs] at h
  have e0 : (0 : Int32).toInt = 0 := by decide
  exact pk_sub (by omega)
theorem subZ {a s : Nat} (ha : a < 1000) (hs : s < 1000) (h : ¬ 0 ≤ nI a - nI s) : a - s = 0 := by
  rw [fa_le, sub_i ha hs] at h
  have e0 : (0 : Int32).toInt = 0 := by decide
  omega
theorem RM.dr {S A b} (h : RM S A b) (hI : IV b) {d : Nat} (hd : d < bn b 1) : A 20 d = nI (ba b 0 d) ∧ A 21 (2 * d) = nI (ba b 1 d) ∧ A 21 (2 * d + 1) = nI (ba b 2 d) ∧ A 22 d = nI (ba b 3 d) ∧ d < 8 ∧ ba b 0 d ≤ 2 ∧ ba b 1 d < bn b 0 ∧ ba b 2 d < bn b 0 ∧ ba b 1 d ≠ ba b 2 d ∧ 1 ≤ ba b 3 d ∧ ba b 3 d ≤ 99 ∧ bn b 0 ≤ 6 := by
  obtain ⟨h1, h2, h3, h4⟩ := h.2.2.2.2.2.2.2.1 d hd
  have := hI.2.1
  obtain ⟨k1, k2, k3, k4, k5, k6⟩ := hI.2.2.2.2.1 d hd
  exact ⟨h1, h2, h3, h4, by omega, k1, k2, k3, k4, k5, k6, hI.1⟩
def sdN (b : sh_be) (d r : Nat) : Int32 := if ba b 1 d = r then 0 else if ba b 2 d = r then 1 else -9
theorem dAsk_le {k wt s : Nat} (h : wt ≤ 99) : dAsk k wt s < 110 := by
  unfold dAsk; split <;> omega
theorem dSl_le {k : Nat} : dSl k < 6 := by
  unfold dSl; split <;> omega
theorem oJ_s {o : Option Nat} {t : Nat} (h : o = some t) : oJ o = nI t := by subst h; rfl
theorem oJ_n {o : Option Nat} (h : o = none) : oJ o = -9 := by subst h; rfl
