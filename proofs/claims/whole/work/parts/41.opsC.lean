/-! sets of rooms that one comes to -/
def sdR (b : sh_be) (d s : Nat) : Nat := if s = 0 then ba b 1 d else ba b 2 d
def rsS (b : sh_be) (d w s z : Nat) : Nat := if z.testBit (sdR b d s) = true ∧ dOp (ba b 0 d) (ba b 3 d) s w then z ||| 2 ^ sdR b d (1 - s) else z
def rsd (b : sh_be) (w : Nat) : Nat → Nat → Nat
  | 0, z => z
  | d + 1, z => rsS b d w 1 (rsS b d w 0 (rsd b w d z))
def rsr (b : sh_be) (w : Nat) : Nat → Nat → Nat
  | 0, z => z
  | n + 1, z => rsd b w (bn b 1) (rsr b w n z)
def reachN (b : sh_be) (w r : Nat) : Nat := rsr b w (bn b 0) (2 ^ r)
theorem rsr_fix {b : sh_be} {w n z : Nat} (h : rsd b w (bn b 1) (rsr b w n z) = rsr b w n z) : ∀ m, n ≤ m → rsr b w m z = rsr b w n z
  | 0, hm => by rw [show n = 0 by omega]
  | m + 1, hm => by
    rcases Nat.lt_or_ge m n with q | q
    · rw [show n = m + 1 by omega]
    · have ih := rsr_fix h m q
      show rsd b w (bn b 1) (rsr b w m z) = rsr b w n z
      rw [ih, h]
theorem sdR_lt {b : sh_be} (hI : IV b) {d s : Nat} (hd : d < bn b 1) : sdR b d s < 6 := by
  have h := hI.2.2.2.2.1 d hd
  have := hI.1
  unfold sdR; split <;> omega
theorem rsS_lt {b : sh_be} (hI : IV b) {d w s z : Nat} (hd : d < bn b 1) (hz : z < 64) : rsS b d w s z < 64 := by
  unfold rsS
  split
  · exact Nat.or_lt_two_pow (n := 6) hz (Nat.pow_lt_pow_right (by omega) (sdR_lt hI hd))
  · exact hz
theorem rsd_lt {b : sh_be} (hI : IV b) {w : Nat} : ∀ {d z : Nat}, d ≤ bn b 1 → z < 64 → rsd b w d z < 64
  | 0, _, _, hz => hz
  | d + 1, z, hd, hz => by
    unfold rsd
    exact rsS_lt hI (by omega) (rsS_lt hI (by omega) (rsd_lt hI (by omega) hz))
theorem rsr_lt {b : sh_be} (hI : IV b) {w : Nat} : ∀ {n z : Nat}, z < 64 → rsr b w n z < 64
  | 0, _, hz => hz
  | n + 1, z, hz => rsd_lt hI (Nat.le_refl _) (rsr_lt hI hz)
theorem pow_r {b : sh_be} (hI : IV b) {r : Nat} (hr : r < bn b 0) : 2 ^ r < 64 := Nat.pow_lt_pow_right (n := 6) (by omega) (by have := hI.1; omega)
theorem reachN_lt {b : sh_be} (hI : IV b) {w r : Nat} (hr : r < bn b 0) : reachN b w r < 64 := rsr_lt hI (pow_r hI hr)
def thN (o : Option Nat) (c : Bool) : Int32 := match o with
  | none => 0
  | some t => if c = true then nI (2 ^ t) else 0
theorem dBe_sd {b : sh_be} {d s w : Nat} (hne : ba b 1 d ≠ ba b 2 d) (hs : s < 2) : bBe b d (sdR b d s) w = if dOp (ba b 0 d) (ba b 3 d) s w then some (sdR b d (1 - s)) else none := by
  rcases (by omega : s = 0 ∨ s = 1) with rfl | rfl
  · show dBe _ (ba b 1 d) _ _ (ba b 1 d) _ = _
    rw [dBe, if_pos rfl]; rfl
  · show dBe _ (ba b 1 d) _ _ (ba b 2 d) _ = _
    rw [dBe, if_neg (fun e => hne e.symm), if_pos rfl]; rfl
theorem thN_or {b : sh_be} {d s w z : Nat} (hne : ba b 1 d ≠ ba b 2 d) (hs : s < 2) : nI z ||| thN (bBe b d (sdR b d s) w) (z.testBit (sdR b d s)) = nI (rsS b d w s z) := by
  rw [dBe_sd hne hs]
  unfold rsS
  by_cases h1 : dOp (ba b 0 d) (ba b 3 d) s w
  · rw [if_pos h1]
    by_cases h2 : z.testBit (sdR b d s) = true
    · rw [if_pos ⟨h2, h1⟩, thN, if_pos h2, fa_or]
    · rw [if_neg (fun h => h2 h.1), thN, if_neg h2, or_z]
  · rw [if_neg h1, if_neg (fun h => h1 h.2), thN, or_z]
/-- of weights from w on, m of them: the k-th that comes, or their number -/
def stN (p : Nat → Bool) (k : Int32) : Nat → Nat → Nat → Int32
  | 0, _, n => if k = -1 then nI n else -9
  | m + 1, w, n => if p w = true then (if nI n = k then nI w else stN p k m (w + 1) (n + 1)) else stN p k m (w + 1) n
def gsN (p : Nat → Bool) (w : Nat) : Nat → Nat → Int32
  | 0, _ => -9
  | m + 1, x => if x < w ∧ p (w - x) = true then 100 - nI x else if p (w + x) = true then 100 + nI x else gsN p w m (x + 1)
def grN (p : Nat → Bool) (w g : Nat) : Nat → Nat → Int32
  | 0, _ => -9
  | m + 1, y => if p (w + g * y) = true then grN p w g m (y + 1) else nI y
def oReach (b : sh_be) (w r : Int32) : Int32 :=
  if ¬ (¬ r < 0 ∧ ¬ nI (bn b 0) ≤ r) then -1 else if ¬ (¬ w < 1 ∧ ¬ 999 < w) then -2 else nI (reachN b w.toNatClampNeg r.toNatClampNeg)
def cmB (b : sh_be) (f t w : Nat) : Bool := (reachN b w f).testBit t
def oStr (b : sh_be) (f t k : Int32) : Int32 :=
  if ¬ (¬ f < 0 ∧ ¬ nI (bn b 0) ≤ f) ∨ ¬ (¬ t < 0 ∧ ¬ nI (bn b 0) ≤ t) ∨ k < -1 then -1 else stN (cmB b f.toNatClampNeg t.toNatClampNeg) k 90 10 0
def oGuest (b : sh_be) (p r : Int32) : Int32 :=
  if ¬ (¬ p < 0 ∧ ¬ nI (bn b 2) ≤ p) ∨ ¬ (¬ r < 0 ∧ ¬ nI (bn b 0) ≤ r) then -1 else gsN (cmB b (ba b 5 p.toNatClampNeg) r.toNatClampNeg) (ba b 4 p.toNatClampNeg) 31 0
def oGrows (b : sh_be) (p g r : Int32) : Int32 :=
  if ¬ (¬ p < 0 ∧ ¬ nI (bn b 2) ≤ p) ∨ ¬ (¬ r < 0 ∧ ¬ nI (bn b 0) ≤ r) then -1 else if ¬ (¬ g < 0 ∧ ¬ 9 < g) then -2 else
  grN (cmB b (ba b 5 p.toNatClampNeg) r.toNatClampNeg) (ba b 4 p.toNatClampNeg) g.toNatClampNeg 31 0
theorem i_t6 {w : Int32} (h : nI 1000 ≤ w) : 999 < w := by
  rw [fa_le] at h; rw [fa_lt]
  have e1 : (nI 1000).toInt = 1000 := by decide
  have e2 : (999 : Int32).toInt = 999 := by decide
  omega
theorem i_t7 {w : Int32} (h : nI 10 ≤ w) : 9 < w := by
  rw [fa_le] at h; rw [fa_lt]
  have e1 : (nI 10).toInt = 10 := by decide
  have e2 : (9 : Int32).toInt = 9 := by decide
  omega
