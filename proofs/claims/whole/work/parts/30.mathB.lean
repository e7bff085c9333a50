def popc : Nat → Nat → Nat
  | 0, _ => 0
  | f + 1, n => n % 2 + popc f (n / 2)
def usr (x : Int32) (k : Int32) : Int32 := (x.toUInt32 >>> (k.toUInt32 &&& Int32.toUInt32 31)).toInt32
def bcf (x : Int32) : Int32 :=
  let i1 := x - (usr x 1 &&& 1431655765)
  let i2 := (i1 &&& 858993459) + (usr i1 2 &&& 858993459)
  let i3 := (i2 + usr i2 4) &&& 252645135
  let i4 := i3 + usr i3 8
  let i5 := i4 + usr i4 16
  i5 &&& 63
theorem bc16 : ∀ n, n < 16 → bcf (nI n) = nI (popc 4 n) := by decide +kernel
/-- one bit, shifted -/
theorem sh1 {k : Nat} (h : k < 31) : (1 : Int32) <<< (nI k &&& 31) = nI (2 ^ k) := by
  have e : ∀ k, k < 31 → (1 : Int32) <<< (nI k &&& 31) = nI (2 ^ k) := by decide +kernel
  exact e k h
theorem cbN_lt (pl : Nat → Nat) (v : Nat) : ∀ n, cbN pl v n < 2 ^ n
  | 0 => by unfold cbN; omega
  | n + 1 => by
    have h := cbN_lt pl v n
    unfold cbN
    split
    · exact Nat.or_lt_two_pow (by omega) (by omega)
    · rw [Nat.or_zero]; omega
theorem popc_cb (pl : Nat → Nat) (v : Nat) : ∀ n, n ≤ 4 → popc 4 (cbN pl v n) = cnN pl v n := by
  intro n hn
  rcases (by omega : n = 0 ∨ n = 1 ∨ n = 2 ∨ n = 3 ∨ n = 4) with rfl | rfl | rfl | rfl | rfl <;>
    simp only [cbN, cnN] <;>
    (by_cases h0 : pl 0 = v <;> by_cases h1 : pl 1 = v <;> by_cases h2 : pl 2 = v <;> by_cases h3 : pl 3 = v <;> (try simp only [h0, h1, h2, h3, if_true, if_false]) <;> rfl)
theorem plx_c {v k : Nat} (hv : v < 30) (hk : k < 10) : plx v = -20 - nI k ↔ v = 20 + k := by
  have e : ∀ v, v < 30 → ∀ k, k < 10 → (plx v = -20 - nI k ↔ v = 20 + k) := by decide +kernel
  exact e v hv k hk
theorem plx_r {v r : Nat} (hv : v < 30) (hr : r < 10) : plx v = nI r ↔ v = r := by
  have e : ∀ v, v < 30 → ∀ r, r < 10 → (plx v = nI r ↔ v = r) := by decide +kernel
  exact e v hv r hr
theorem plx_p : ∀ k, k < 10 → -20 - nI k = plx (20 + k) := by decide +kernel
theorem plx_l {r : Nat} (h : r < 20) : plx r = nI r := if_pos h
/-- what a person weighs with its stones -/
def wtN (x0 : Nat) (pl sw : Nat → Nat) (v : Nat) : Nat → Nat
  | 0 => x0
  | s + 1 => wtN x0 pl sw v s + (if pl s = v then sw s else 0)
abbrev wN (b : sh_be) (k : Nat) : Nat := wtN (ba b 4 k) (ba b 7) (ba b 6) (20 + k) (bn b 3)
theorem IV.pl {b : sh_be} (h : IV b) {s : Nat} (hs : s < bn b 3) : ba b 7 s < 24 := by
  obtain ⟨h1, h2, h3, h4, h5, h6, h7, -⟩ := h
  rcases (h7 s hs).2.2 with g | ⟨g1, g2⟩ <;> omega
theorem cb_x {S A Lg P T b} (hR : RX S A Lg P T b) (hI : IV b) {k : Nat} (hk : k < 4) : ∀ n, n ≤ bn b 3 → sh_cb (A 3) (-20 - nI k) n = nI (cbN (ba b 7) (20 + k) n)
  | 0, _ => rfl
  | n + 1, h => by
    have ih := cb_x hR hI hk n (by omega)
    have h3 := (hR.2.2.2.2.2.2.2.2.2.1 n (by omega)).2
    have hn : n < 4 := by have := hI.2.2.2.1; omega
    have hp := plx_c (v := ba b 7 n) (k := k) (by have := hI.pl (s := n) (by omega); omega) (by omega)
    unfold sh_cb cbN
    rw [ih, h3]
    by_cases hc : ba b 7 n = 20 + k
    · rw [if_pos (hp.mpr hc), if_pos hc, sh1 (by omega), fa_or]
    · rw [if_neg (fun h => hc (hp.mp h)), if_neg hc, or_z, Nat.or_zero]
theorem wt_x {S A Lg P T b} (hR : RX S A Lg P T b) (hI : IV b) {k : Nat} (hk : k < bn b 2) : ∀ n, n ≤ bn b 3 → sh_wt (A 0 k) (A 3) (A 2) (-20 - nI k) n = nI (wtN (ba b 4 k) (ba b 7) (ba b 6) (20 + k) n)
  | 0, _ => (hR.2.2.2.2.2.2.2.2.1 k hk).1
  | n + 1, h => by
    have ih := wt_x hR hI hk n (by omega)
    have h3 := hR.2.2.2.2.2.2.2.2.2.1 n (by omega)
    have hk4 : k < 4 := by have := hI.2.2.1; omega
    have hp := plx_c (v := ba b 7 n) (k := k) (by have := hI.pl (s := n) (by omega); omega) (by omega)
    unfold sh_wt wtN
    rw [ih, h3.2, h3.1]
    by_cases hc : ba b 7 n = 20 + k
    · rw [if_pos (hp.mpr hc), if_pos hc, nI_add]
    · rw [if_neg (fun h => hc (hp.mp h)), if_neg hc]
      show nI _ + nI 0 = _
      rw [nI_add]
theorem wtN_le {b : sh_be} (hI : IV b) {k : Nat} (hk : k < bn b 2) : ∀ n, n ≤ bn b 3 → ba b 4 k ≤ wtN (ba b 4 k) (ba b 7) (ba b 6) (20 + k) n ∧ wtN (ba b 4 k) (ba b 7) (ba b 6) (20 + k) n ≤ 99 + 20 * n
  | 0, _ => by unfold wtN; have := hI.2.2.2.2.2.1 k hk; omega
  | n + 1, h => by
    have ih := wtN_le hI hk n (by omega)
    have h2 := hI.2.2.2.2.2.2.1 n (by omega)
    unfold wtN
    split <;> omega
theorem wN_le {b : sh_be} (hI : IV b) {k : Nat} (hk : k < bn b 2) : 10 ≤ wN b k ∧ wN b k ≤ 179 := by
  have := wtN_le hI hk (bn b 3) (Nat.le_refl _)
  have h1 := hI.2.2.2.2.2.1 k hk
  have h2 := hI.2.2.2.1
  show 10 ≤ wtN (ba b 4 k) (ba b 7) (ba b 6) (20 + k) (bn b 3) ∧ wtN (ba b 4 k) (ba b 7) (ba b 6) (20 + k) (bn b 3) ≤ 179
  omega
/-- parties: sets of persons -/
def rpN (pr : Nat → Nat) (pt : Nat) : Nat → Option (Option Nat)
  | 0 => some none
  | k + 1 => match rpN pr pt k with
    | none => none
    | some o => if pt.testBit k = true then (match o with | none => some (some (pr k)) | some r => if r = pr k then some (some (pr k)) else none) else some o
def wpN (b : sh_be) (pt : Nat) : Nat → Nat
  | 0 => 0
  | k + 1 => wpN b pt k + (if pt.testBit k = true then wN b k else 0)
def mvN (pr : Nat → Nat) (pt r : Nat) : Nat → Nat → Nat
  | 0 => pr
  | k + 1 => if pt.testBit k = true then va_up (mvN pr pt r k) k r else mvN pr pt r k
def roomN (b : sh_be) (pt : Nat) : Option Nat := (rpN (ba b 5) pt (bn b 2)).join
theorem bitc {pt k : Nat} (hk : k < 31) : (nI pt &&& 1 <<< (nI k &&& 31) = 0) ↔ ¬ pt.testBit k = true := by
  rw [sh1 hk, fa_bit hk]; simp
theorem bitm {pt k : Nat} (hp : pt < 2 ^ 31) (hk : k < 31) : ((nI pt >>> (nI k &&& 31)) &&& 1 = 1) ↔ pt.testBit k = true := by
  have e : ∀ k, k < 31 → ((nI k &&& 31).toBitVec.smod 32).toNat = k := by decide +kernel
  rw [pk_shrN hp (nI k &&& 31) k (e k hk), pk_andN (by have := Nat.div_le_self pt (2 ^ k); omega) (m := 1) 1 (by decide), Nat.testBit_eq_decide_div_mod_eq]
  have h2 : pt / 2 ^ k % 2 ^ 1 < 2 := Nat.mod_lt _ (by omega)
  rw [show (1 : Int32) = nI 1 from rfl, nI_eq (by omega) (by omega)]
  simp
theorem rpN_none {pr : Nat → Nat} {pt k : Nat} (h : rpN pr pt k = none) : ∀ n, k ≤ n → rpN pr pt n = none
  | 0, hn => by rw [show k = 0 by omega] at h; exact h
  | n + 1, hn => by
    rcases Nat.lt_or_ge n k with q | q
    · rw [show n + 1 = k by omega]; exact h
    · unfold rpN; rw [rpN_none h n q]
def oI (o : Option Nat) : Int32 := match o with
  | none => -1
  | some r => nI r
def oJ (o : Option Nat) : Int32 := match o with
  | none => -9
  | some r => nI r
theorem rpr {A1 : Nat → Int32} {pr : Nat → Nat} {pt np : Nat} (hA : ∀ k, k < np → A1 k = nI (pr k) ∧ pr k < 6) : ∀ {k : Nat} {r : Nat}, rpN pr pt k = some (some r) → k ≤ np → r < 6
  | 0, r, h, _ => by cases h
  | k + 1, r, h, hk => by
    unfold rpN at h
    split at h
    · cases h
    rename_i o ho
    split at h
    · split at h
      · cases h; exact (hA k (by omega)).2
      · split at h
        · cases h; exact (hA k (by omega)).2
        · cases h
    · cases h; exact rpr hA ho (by omega)
theorem mkW_T {G S A Lg P T} {j : Nat} : (mkW G S A Lg P T)[j + 47]? = T[j]? := rfl
theorem RX.T {S A Lg P T b} (h : RX S A Lg P T b) (t : Int32) : RX (va_up S 10 t) A Lg P T (uT_ b t) := by
  obtain ⟨h0, h1, h2, h3, h4, h5, h6, h7, h8, h9, h10⟩ := h
  refine ⟨h0, h1, h2, h3, h4, rfl, fun k hk => ?_, h7, h8, h9, h10⟩
  have := h6 k hk
  unfold shX at this ⊢
  rw [up_ne (f := S) (show 11 + k ≠ 10 by omega), up_ne (f := S) (show 15 + k ≠ 10 by omega)]
  exact this
theorem RM.T {S A b} (h : RM S A b) (t : Int32) : RM (va_up S 32 t) A (uT_ b t) := by
  obtain ⟨h0, h1, h2, h3, h4, h5, h6, h7, h8, h9⟩ := h
  exact ⟨h0, h1, h2, h3, h4, rfl, h6, h7, h8, h9⟩
