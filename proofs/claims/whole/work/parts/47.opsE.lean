/-! a text that tells a house: its codes C, of places from 0 -/
def rmN (C : Nat → Int32) (p : Nat) : Bool := decide (¬ C p < 48 ∧ C p - 48 < C 1 - 48)
def dgB (C : Nat → Int32) (p : Nat) : Bool := decide (¬ C p < 48 ∧ ¬ 57 < C p)
def noN (C : Nat → Int32) (p : Nat) : Bool := decide (2 < p ∧ (p - 2) % 6 = 5 ∧ C (p - 1) = 48 ∧ C p = 48)
/-- the text goes on with the code of a place -/
def goN (C : Nat → Int32) (p : Nat) : Bool :=
  if p = 0 then decide (C p = 104) else if p = 1 then decide (¬ C p < 50 ∧ ¬ 54 < C p) else
  if (p - 2) % 6 = 0 then decide (C p = 59 ∧ (p - 2) / 6 < 8) else
  if (p - 2) % 6 = 1 then decide (C p = 115 ∨ C p = 116 ∨ C p = 119) else
  if (p - 2) % 6 = 2 then rmN C p else if (p - 2) % 6 = 3 then rmN C p && decide (C p ≠ C (p - 1)) else
  if (p - 2) % 6 = 4 then dgB C p else dgB C p && !noN C p
/-- the first fault, from a place on; none: there is none -/
def ffN (C : Nat → Int32) (m : Nat) : Nat → Nat → Option Nat
  | 0, _ => if 2 < m ∧ (m - 2) % 6 = 0 then none else some m
  | f + 1, p => if goN C p = true then ffN C m f (p + 1) else some (if noN C p = true then p - 1 else p)
theorem ff_step {C : Nat → Int32} {m p : Nat} (h : ffN C m m 0 = ffN C m (m - p) p) (hp : p < m) (hg : goN C p = true) : ffN C m m 0 = ffN C m (m - (p + 1)) (p + 1) := by
  rw [h, show m - p = (m - (p + 1)) + 1 by omega, ffN, if_pos hg]
theorem ff_no {C : Nat → Int32} {m p : Nat} (h : ffN C m m 0 = ffN C m (m - p) p) (hp : p < m) (hg : ¬ goN C p = true) (hn : ¬ noN C p = true) : ffN C m m 0 = some p := by
  rw [h, show m - p = (m - (p + 1)) + 1 by omega, ffN, if_neg hg, if_neg hn]
theorem ff_no2 {C : Nat → Int32} {m p : Nat} (h : ffN C m m 0 = ffN C m (m - p) p) (hp : p < m) (hg : ¬ goN C p = true) (hn : noN C p = true) : ffN C m m 0 = some (p - 1) := by
  rw [h, show m - p = (m - (p + 1)) + 1 by omega, ffN, if_neg hg, if_pos hn]
theorem ff_end {C : Nat → Int32} {m p : Nat} (h : ffN C m m 0 = ffN C m (m - p) p) (hp : m ≤ p) (hq : ¬ (2 < m ∧ (m - 2) % 6 = 0)) : ffN C m m 0 = some m := by
  rw [h, show m - p = 0 by omega, ffN, if_neg hq]
theorem ff_all {C : Nat → Int32} {m p : Nat} (h : ffN C m m 0 = ffN C m (m - p) p) (hp : m ≤ p) (hq : 2 < m ∧ (m - 2) % 6 = 0) : ffN C m m 0 = none := by
  rw [h, show m - p = 0 by omega, ffN, if_pos hq]
theorem ff_good {C : Nat → Int32} {m : Nat} : ∀ {f p : Nat}, ffN C m f p = none → p + f = m → (∀ q, p ≤ q → q < m → goN C q = true) ∧ 2 < m ∧ (m - 2) % 6 = 0
  | 0, p, h, hp => by
    unfold ffN at h
    split at h
    · rename_i g; exact ⟨fun q h1 h2 => by omega, g⟩
    · cases h
  | f + 1, p, h, hp => by
    unfold ffN at h
    split at h
    · rename_i g
      obtain ⟨h1, h2⟩ := ff_good h (by omega)
      refine ⟨fun q a1 a2 => ?_, h2⟩
      rcases Nat.lt_or_ge p q with c | c
      · exact h1 q c a2
      · rw [show q = p by omega]; exact g
    · cases h
/-- what the text tells of a door -/
def kdC (C : Nat → Int32) (d : Nat) : Nat := if C (6 * d + 3) = 115 then 0 else if C (6 * d + 3) = 116 then 1 else 2
def dgC (C : Nat → Int32) (p : Nat) : Nat := (C p - 48).toNatClampNeg
def wtC (C : Nat → Int32) (d : Nat) : Nat := 10 * dgC C (6 * d + 6) + dgC C (6 * d + 7)
theorem dg_of {x : Int32} {n : Nat} (hn : n ≤ 9) (h : ¬ x < 48 ∧ x - 48 < nI n) : ∃ v, v < n ∧ x = nI (48 + v) ∧ x - 48 = nI v := by
  have e48 : (48 : Int32).toInt = 48 := by decide
  have hl := x.toInt_lt
  have h1 := h.1
  have h2 := h.2
  rw [fa_lt, e48] at h1
  have hs : (x - 48).toInt = x.toInt - 48 := by
    rw [Int32.toInt_sub, e48]
    show (x.toInt - 48).bmod (2 ^ 32) = x.toInt - 48
    rw [Int.bmod_eq_of_le] <;> omega
  rw [fa_lt, hs, nI_toInt (by omega)] at h2
  refine ⟨(x.toInt - 48).toNat, by omega, ?_, ?_⟩
  · rw [fa_eq, nI_toInt (by omega)]; omega
  · rw [fa_eq, hs, nI_toInt (by omega)]; omega
theorem dg_b {x : Int32} : (¬ x < 48 ∧ ¬ 57 < x) ↔ (¬ x < 48 ∧ x - 48 < nI 10) := by
  have e48 : (48 : Int32).toInt = 48 := by decide
  have e57 : (57 : Int32).toInt = 57 := by decide
  have e10 : (nI 10).toInt = 10 := by decide
  have hl := x.toInt_lt
  by_cases h1 : x < 48
  · exact ⟨fun h => absurd h1 h.1, fun h => absurd h1 h.1⟩
  have h1' := h1
  rw [fa_lt, e48] at h1'
  have hs : (x - 48).toInt = x.toInt - 48 := by
    rw [Int32.toInt_sub, e48]
    show (x.toInt - 48).bmod (2 ^ 32) = x.toInt - 48
    rw [Int.bmod_eq_of_le] <;> omega
  have k : (¬ 57 < x) ↔ (x - 48 < nI 10) := by
    rw [fa_lt, fa_lt, hs, e57, e10]; omega
  exact ⟨fun h => ⟨h1, k.mp h.2⟩, fun h => ⟨h1, k.mpr h.2⟩⟩
theorem dgB_of {C : Nat → Int32} {p : Nat} (h : dgB C p = true) : ∃ v, v < 10 ∧ C p = nI (48 + v) ∧ C p - 48 = nI v ∧ dgC C p = v := by
  unfold dgB at h
  have h := dg_b.mp (of_decide_eq_true h)
  have e48 : (48 : Int32).toInt = 48 := by decide
  have e10 : (nI 10).toInt = 10 := by decide
  have hl := (C p).toInt_lt
  have h1 := h.1
  have h2 := h.2
  rw [fa_lt, e48] at h1
  have hs : (C p - 48).toInt = (C p).toInt - 48 := by
    rw [Int32.toInt_sub, e48]
    show ((C p).toInt - 48).bmod (2 ^ 32) = (C p).toInt - 48
    rw [Int.bmod_eq_of_le] <;> omega
  rw [fa_lt, hs, e10] at h2
  have e : C p - 48 = nI ((C p).toInt - 48).toNat := by
    rw [fa_eq, hs, nI_toInt (by omega)]; omega
  refine ⟨((C p).toInt - 48).toNat, by omega, ?_, e, ?_⟩
  · rw [fa_eq, nI_toInt (by omega)]; omega
  · unfold dgC; rw [e, nI_clamp (by omega)]
theorem rmN_of {C : Nat → Int32} {p R : Nat} (hR : C 1 - 48 = nI R) (hR6 : R ≤ 6) (h : rmN C p = true) : ∃ v, v < R ∧ C p = nI (48 + v) ∧ C p - 48 = nI v ∧ dgC C p = v := by
  unfold rmN at h
  have h := of_decide_eq_true h
  rw [hR] at h
  obtain ⟨v, h1, h2, h3⟩ := dg_of (by omega) h
  exact ⟨v, h1, h2, h3, by unfold dgC; rw [h3, nI_clamp (by omega)]⟩
theorem rooms_of {x : Int32} (h : ¬ x < 50 ∧ ¬ 54 < x) : ∃ R, 2 ≤ R ∧ R ≤ 6 ∧ x = nI (48 + R) ∧ x - 48 = nI R := by
  have e48 : (48 : Int32).toInt = 48 := by decide
  have e50 : (50 : Int32).toInt = 50 := by decide
  have e54 : (54 : Int32).toInt = 54 := by decide
  have hl := x.toInt_lt
  have h1 := h.1
  have h2 := h.2
  rw [fa_lt, e50] at h1
  rw [fa_lt, e54] at h2
  have hs : (x - 48).toInt = x.toInt - 48 := by
    rw [Int32.toInt_sub, e48]
    show (x.toInt - 48).bmod (2 ^ 32) = x.toInt - 48
    rw [Int.bmod_eq_of_le] <;> omega
  refine ⟨(x.toInt - 48).toNat, by omega, by omega, ?_, ?_⟩
  · rw [fa_eq, nI_toInt (by omega)]; omega
  · rw [fa_eq, hs, nI_toInt (by omega)]; omega
theorem go0 {C : Nat → Int32} : goN C 0 = true ↔ C 0 = 104 := by
  unfold goN; rw [if_pos rfl, decide_eq_true_iff]
theorem go1 {C : Nat → Int32} : goN C 1 = true ↔ (¬ C 1 < 50 ∧ ¬ 54 < C 1) := by
  unfold goN; rw [if_neg (by omega), if_pos rfl, decide_eq_true_iff]
theorem goA {C : Nat → Int32} {d : Nat} : goN C (6 * d + 2) = true ↔ (C (6 * d + 2) = 59 ∧ d < 8) := by
  unfold goN; rw [if_neg (by omega), if_neg (by omega), if_pos (by omega), decide_eq_true_iff, show (6 * d + 2 - 2) / 6 = d by omega]
theorem goB {C : Nat → Int32} {d : Nat} : goN C (6 * d + 3) = true ↔ (C (6 * d + 3) = 115 ∨ C (6 * d + 3) = 116 ∨ C (6 * d + 3) = 119) := by
  unfold goN; rw [if_neg (by omega), if_neg (by omega), if_neg (by omega), if_pos (by omega), decide_eq_true_iff]
theorem goC {C : Nat → Int32} {d : Nat} : goN C (6 * d + 4) = rmN C (6 * d + 4) := by
  unfold goN; rw [if_neg (by omega), if_neg (by omega), if_neg (by omega), if_neg (by omega), if_pos (by omega)]
theorem goD {C : Nat → Int32} {d : Nat} : goN C (6 * d + 5) = true ↔ (rmN C (6 * d + 5) = true ∧ C (6 * d + 5) ≠ C (6 * d + 4)) := by
  unfold goN; rw [if_neg (by omega), if_neg (by omega), if_neg (by omega), if_neg (by omega), if_neg (by omega), if_pos (by omega), Bool.and_eq_true, decide_eq_true_iff]
  rfl
theorem goE {C : Nat → Int32} {d : Nat} : goN C (6 * d + 6) = dgB C (6 * d + 6) := by
  unfold goN; rw [if_neg (by omega), if_neg (by omega), if_neg (by omega), if_neg (by omega), if_neg (by omega), if_neg (by omega), if_pos (by omega)]
theorem noF {C : Nat → Int32} {d : Nat} : noN C (6 * d + 7) = true ↔ (C (6 * d + 6) = 48 ∧ C (6 * d + 7) = 48) := by
  unfold noN; rw [decide_eq_true_iff]
  exact ⟨fun h => ⟨h.2.2.1, h.2.2.2⟩, fun h => ⟨by omega, by omega, h.1, h.2⟩⟩
theorem goF {C : Nat → Int32} {d : Nat} : goN C (6 * d + 7) = true ↔ (dgB C (6 * d + 7) = true ∧ ¬ (C (6 * d + 6) = 48 ∧ C (6 * d + 7) = 48)) := by
  unfold goN; rw [if_neg (by omega), if_neg (by omega), if_neg (by omega), if_neg (by omega), if_neg (by omega), if_neg (by omega), if_neg (by omega), Bool.and_eq_true]
  rw [← noF (C := C) (d := d)]
  simp
theorem noX {C : Nat → Int32} {p : Nat} (h : p ≤ 2 ∨ (p - 2) % 6 ≠ 5) : ¬ noN C p = true := by
  unfold noN; rw [decide_eq_true_iff]; omega
/-- a door that a faultless text tells -/
theorem door_ok {C : Nat → Int32} {m R d : Nat} (hR : C 1 - 48 = nI R) (hR6 : R ≤ 6) (h : ∀ q, q < m → goN C q = true) (hd : 6 * d + 8 ≤ m) : kdC C d ≤ 2 ∧ dgC C (6 * d + 4) < R ∧ dgC C (6 * d + 5) < R ∧ dgC C (6 * d + 4) ≠ dgC C (6 * d + 5) ∧ 1 ≤ wtC C d ∧ wtC C d ≤ 99 ∧ C (6 * d + 4) - 48 = nI (dgC C (6 * d + 4)) ∧ C (6 * d + 5) - 48 = nI (dgC C (6 * d + 5)) ∧ C (6 * d + 6) - 48 = nI (dgC C (6 * d + 6)) ∧ C (6 * d + 7) - 48 = nI (dgC C (6 * d + 7)) ∧ dgC C (6 * d + 6) ≤ 9 ∧ dgC C (6 * d + 7) ≤ 9 ∧ d < 8 := by
  obtain ⟨v4, a1, a2, a3, a4⟩ := rmN_of hR hR6 (goC ▸ h (6 * d + 4) (by omega))
  have h5 := goD.mp (h (6 * d + 5) (by omega))
  obtain ⟨v5, b1, b2, b3, b4⟩ := rmN_of hR hR6 h5.1
  obtain ⟨v6, c1, c2, c3, c4⟩ := dgB_of (goE ▸ h (6 * d + 6) (by omega))
  have h7 := goF.mp (h (6 * d + 7) (by omega))
  obtain ⟨v7, d1, d2, d3, d4⟩ := dgB_of h7.1
  have hw : ¬ (v6 = 0 ∧ v7 = 0) := fun g => h7.2 ⟨by rw [c2, g.1]; rfl, by rw [d2, g.2]; rfl⟩
  refine ⟨by unfold kdC; split; omega; split <;> omega, by omega, by omega, ?_, ?_, ?_, by rw [a4]; exact a3, by rw [b4]; exact b3, by rw [c4]; exact c3, by rw [d4]; exact d3, by omega, by omega, (goA.mp (h (6 * d + 2) (by omega))).2⟩
  · rw [a4, b4]; intro e; subst e; exact h5.2 (by rw [a2, b2])
  · unfold wtC; omega
  · unfold wtC; omega
/-- the new house -/
def hoB (b : sh_be) (C : Nat → Int32) (m : Nat) : sh_be :=
  (fun i => if i = 0 then (C 1 - 48).toNatClampNeg else if i = 1 then (m - 2) / 6 else 0,
   fun i j => if i = 0 then kdC C j else if i = 1 then dgC C (6 * j + 4) else if i = 2 then dgC C (6 * j + 5) else if i = 3 then wtC C j else ba b i j, 0, b.2.2.2)
def hoR (b : sh_be) (C : Nat → Int32) (m : Nat) : Int32 × sh_be := match ffN C m m 0 with
  | some p => (-100 - nI p, uF_ b 0)
  | none => (nI ((m - 2) / 6), hoB b C m)
theorem hoR_s {b : sh_be} {C : Nat → Int32} {m p : Nat} (h : ffN C m m 0 = some p) : hoR b C m = (-100 - nI p, uF_ b 0) := by unfold hoR; rw [h]
theorem hoR_n {b : sh_be} {C : Nat → Int32} {m : Nat} (h : ffN C m m 0 = none) : hoR b C m = (nI ((m - 2) / 6), hoB b C m) := by unfold hoR; rw [h]
def oHouse (b : sh_be) (k lane i n : Int32) : Int32 × sh_be :=
  if oRef b k lane i n ≠ 0 then (oRef b k lane i n, uF_ b (fOf (oRef b k lane i n))) else
  hoR b (fun q => bc b k.toNatClampNeg (i.toNatClampNeg + q)) n.toNatClampNeg
theorem house_ok {C : Nat → Int32} {m : Nat} (h : ffN C m m 0 = none) : (∀ q, q < m → goN C q = true) ∧ (∃ R, 2 ≤ R ∧ R ≤ 6 ∧ C 1 - 48 = nI R) ∧ m = 6 * ((m - 2) / 6) + 2 ∧ 1 ≤ (m - 2) / 6 ∧ (m - 2) / 6 ≤ 8 := by
  obtain ⟨h1, h2, h3⟩ := ff_good h (Nat.zero_add m)
  have h1 : ∀ q, q < m → goN C q = true := fun q hq => h1 q (Nat.zero_le q) hq
  obtain ⟨R, r1, r2, r3, r4⟩ := rooms_of (go1.mp (h1 1 (by omega)))
  have hm : m = 6 * ((m - 2) / 6) + 2 := by omega
  have h8 : (m - 2) / 6 - 1 < 8 := (goA.mp (h1 (6 * ((m - 2) / 6 - 1) + 2) (by omega))).2
  exact ⟨h1, ⟨R, r1, r2, r4⟩, hm, by omega, by omega⟩
theorem IV.house {b : sh_be} (hI : IV b) {C : Nat → Int32} {m : Nat} (h : ffN C m m 0 = none) : IV (hoB b C m) := by
  obtain ⟨h1, ⟨R, r1, r2, r4⟩, hm, hd1, hd8⟩ := house_ok h
  have e0 : bn (hoB b C m) 0 = R := by
    show (C 1 - 48).toNatClampNeg = R
    rw [r4, nI_clamp (by omega)]
  have e1 : bn (hoB b C m) 1 = (m - 2) / 6 := rfl
  refine ⟨by omega, by omega, by show 0 ≤ 4; omega, by show 0 ≤ 4; omega, fun d hd => ?_, fun k hk => absurd hk (Nat.not_lt_zero k), fun s hs => absurd hs (Nat.not_lt_zero s), fun k => by show 0 ≤ 2; omega, hI.2.2.2.2.2.2.2.2⟩
  rw [e1] at hd
  obtain ⟨q1, q2, q3, q4, q5, q6, -⟩ := door_ok (d := d) r4 r2 h1 (by omega)
  rw [e0]
  exact ⟨q1, q2, q3, q4, q5, q6⟩
theorem ff_le2 {C : Nat → Int32} {m : Nat} : ∀ {f p q : Nat}, ffN C m f p = some q → p + f = m → q ≤ m
  | 0, p, q, h, hp => by
    unfold ffN at h
    split at h
    · cases h
    · cases h; exact Nat.le_refl _
  | f + 1, p, q, h, hp => by
    unfold ffN at h
    split at h
    · exact ff_le2 h (by omega)
    · cases h; split <;> omega
theorem ff_le {C : Nat → Int32} {m q : Nat} (h : ffN C m m 0 = some q) : q ≤ m := ff_le2 h (Nat.zero_add m)
