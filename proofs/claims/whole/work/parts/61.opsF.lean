def plF (v p : Nat) : Nat := if v = 20 + p then 6 else if v < 20 then v else 7
def stF (b : sh_be) (p : Nat) : Nat → tp
  | 0 => (ba b 5 p, 7, 7, 7, 7)
  | s + 1 => tS (stF b p s) s (plF (ba b 7 s) p)
def swF (b : sh_be) (p n s : Nat) : Nat := if s < n ∧ plF (ba b 7 s) p ≠ 7 then ba b 6 s else 0
def pthR (o : Option Nat) (F St : Nat → Nat) (q : Int32) : Int32 := match o with
  | none => -9
  | some i => if q = -1 then nI (dpN F i) else stA F St i q
def fwF (b : sh_be) (k g : Nat) (q : Int32) : Int32 := pthR (fiN b (ba b 4 k) (swF b k (bn b 3)) (stF b k (bn b 3)) g) (fiQ b (ba b 4 k) (swF b k (bn b 3)) (stF b k (bn b 3))).2.2.1 (fiQ b (ba b 4 k) (swF b k (bn b 3)) (stF b k (bn b 3))).2.2.2 q
/-- the arguments of a way of a person to a room -/
abbrev bdF (b : sh_be) (p r : Int32) : Prop := ¬ (¬ p < 0 ∧ ¬ nI (bn b 2) ≤ p) ∨ ¬ (¬ r < 0 ∧ ¬ nI (bn b 0) ≤ r)
def oFewest (b : sh_be) (p r q : Int32) : Int32 := if bdF b p r ∨ q < -1 then -1 else fwF b p.toNatClampNeg r.toNatClampNeg q
theorem tV_of {R : Nat} {t : tp} (h1 : t.1 < R) (h2 : ∀ s, s < 4 → tG t s ≤ 7) : tV R (fun s => decide (tG t s = 7)) t := ⟨h1, fun s hs => ⟨h2 s hs, (decide_eq_true_iff).symm⟩⟩
theorem stF_r {b : sh_be} {p : Nat} : ∀ {s : Nat}, (stF b p s).1 = ba b 5 p
  | 0 => rfl
  | s + 1 => stF_r (s := s)
theorem tG_stF {b : sh_be} {p x : Nat} (hx : x < 4) : ∀ {s : Nat}, s ≤ 4 → tG (stF b p s) x = if x < s then plF (ba b 7 x) p else 7
  | 0, _ => by
    rw [if_neg (by omega)]
    rcases s4 hx with rfl | rfl | rfl | rfl <;> rfl
  | s + 1, hs => by
    rw [stF, tG_S (by omega) hx, tG_stF hx (by omega)]
    by_cases e : x = s
    · rw [if_pos e, if_pos (by omega), e]
    · rw [if_neg e]
      by_cases c : x < s
      · rw [if_pos c, if_pos (by omega)]
      · rw [if_neg c, if_neg (by omega)]
theorem plF_le {b : sh_be} (hI : IV b) {s k : Nat} (hs : s < bn b 3) : plF (ba b 7 s) k ≤ 7 := by
  have h1 := hI.1
  have h2 := (hI.2.2.2.2.2.2.1 s hs).2.2
  unfold plF
  split
  · omega
  · split <;> omega
theorem stF_tV {b : sh_be} (hI : IV b) {k s : Nat} (hk : k < bn b 2) (hs : s ≤ bn b 3) : tV (bn b 0) (fun x => decide (tG (stF b k s) x = 7)) (stF b k s) := by
  have h4 := hI.2.2.2.1
  refine tV_of (by rw [stF_r]; exact (hI.2.2.2.2.2.1 k hk).2.2) (fun x hx => ?_)
  rw [tG_stF hx (by omega)]
  split
  · exact plF_le hI (by omega)
  · omega
theorem swF_lt {b : sh_be} (hI : IV b) {k n s : Nat} (hn : n ≤ bn b 3) : swF b k n s < 100 := by
  unfold swF
  split
  · rename_i h
    have := (hI.2.2.2.2.2.2.1 s (by omega)).2.1
    omega
  · omega
theorem tS_7 {t : tp} {s : Nat} (hs : s < 4) (h : tG t s = 7) : tS t s 7 = t := by
  rcases s4 hs with rfl | rfl | rfl | rfl
  · exact tp_ext rfl h.symm rfl rfl rfl
  · exact tp_ext rfl rfl h.symm rfl rfl
  · exact tp_ext rfl rfl rfl h.symm rfl
  · exact tp_ext rfl rfl rfl rfl h.symm
theorem swF_y {b : sh_be} {k s : Nat} (h : plF (ba b 7 s) k ≠ 7) {f : Nat → Int32} (hf : ∀ x, x < 4 → f x = nI (swF b k s x)) : ∀ x, x < 4 → upd f s (nI (ba b 6 s)) x = nI (swF b k (s + 1) x) := by
  intro x hx
  by_cases e : x = s
  · rw [e, upd_eq]
    unfold swF
    rw [if_pos ⟨by omega, h⟩]
  · rw [upd_ne e, hf x hx]
    unfold swF
    by_cases c : x < s ∧ plF (ba b 7 x) k ≠ 7
    · rw [if_pos c, if_pos ⟨by omega, c.2⟩]
    · rw [if_neg c, if_neg (fun g => c ⟨by omega, g.2⟩)]
theorem swF_n {b : sh_be} {k s : Nat} (h : plF (ba b 7 s) k = 7) {f : Nat → Int32} (hf : ∀ x, x < 4 → f x = nI (swF b k s x)) : ∀ x, x < 4 → f x = nI (swF b k (s + 1) x) := by
  intro x hx
  rw [hf x hx]
  unfold swF
  by_cases c : x < s ∧ plF (ba b 7 x) k ≠ 7
  · rw [if_pos c, if_pos ⟨by omega, c.2⟩]
  · rw [if_neg c, if_neg (fun g => c ⟨by
      rcases Nat.lt_or_ge x s with d | d
      · exact d
      · exact absurd (by rw [show x = s by omega]; exact h) g.2, g.2⟩)]
/-! stones to be laid -/
def t12 (r x y : Nat) : tp := (r, if 0 < x then r else 7, if 0 < y then r else 7, 7, 7)
def sw12 (x y s : Nat) : Nat := if s = 0 then x else if s = 1 then y else 0
def cmW (b : sh_be) (k g x y : Nat) : Bool := (fiN b (ba b 4 k) (sw12 x y) (t12 (ba b 5 k) x y) g).isSome
def frN (p : Nat → Bool) : Nat → Nat → Option Nat
  | 0, _ => none
  | n + 1, x => if p x = true then some x else frN p n (x + 1)
def laN (p : Nat → Nat → Bool) : Nat → Nat → Option (Nat × Nat)
  | 0, _ => none
  | y + 1, x => ((frN (p x) (21 - x) x).map (Prod.mk x)).or (laN p y (x + 1))
def ofR (x y : Nat) (q : Int32) : Int32 :=
  if q = -1 then nI ((if 0 < x then 1 else 0) + (if 0 < y then 1 else 0)) else
  if nI ((if 0 < x then 1 else 0) + (if 0 < y then 1 else 0)) ≤ q then -9 else
  if q = 0 ∧ 0 < x ∧ 0 < y then nI x else nI y
def laO (o : Option (Nat × Nat)) (q : Int32) : Int32 := match o with
  | none => -9
  | some z => ofR z.1 z.2 q
def oLaid (b : sh_be) (p r q : Int32) : Int32 :=
  if bdF b p r ∨ q < -1 ∨ 1 < q then -1 else
  if cbN (ba b 7) (20 + p.toNatClampNeg) (bn b 3) ≠ 0 then -3 else
  laO (laN (cmW b p.toNatClampNeg r.toNatClampNeg) 21 0) q
theorem t12_tV {R r x y : Nat} (hr : r < R) (hR : R ≤ 6) : tV R (fun s => decide (tG (t12 r x y) s = 7)) (t12 r x y) := by
  refine tV_of hr (fun s hs => ?_)
  rcases s4 hs with rfl | rfl | rfl | rfl
  · show (if 0 < x then r else 7) ≤ 7
    split <;> omega
  · show (if 0 < y then r else 7) ≤ 7
    split <;> omega
  · show 7 ≤ 7; omega
  · show 7 ≤ 7; omega
theorem sw12_lt {x y s : Nat} (hx : x < 100) (hy : y < 100) : sw12 x y s < 100 := by
  unfold sw12; split
  · exact hx
  · split <;> omega
theorem QX.tr {G S A S1 A1 v b r w} (h : FX S A S1 A1) (hq : QX G S1 A1 v b r w) : QX G S A v b r w := by
  obtain ⟨S2, A2, L2, P2, T2, a1, a2, a3, a4⟩ := hq
  exact ⟨S2, A2, L2, P2, T2, a1, a2, a3, h.tr a4⟩
theorem RX.dx {S A Lg P T b} (h : RX S A Lg P T b) : DX S P T b := ⟨h.2.2.1, h.2.2.2.2.2.2.2.1⟩
theorem fi_path {b : sh_be} (hI : IV b) {ab} {t0 : tp} (h0 : tV (bn b 0) ab t0) {w0 i g : Nat} {sw : Nat → Nat} (h : fiN b w0 sw t0 g = some i) : (∀ x, 0 < x → x ≤ i → (fiQ b w0 sw t0).2.2.1 x < x) ∧ (∀ x, x ≤ i → (fiQ b w0 sw t0).2.2.2 x < 32) ∧ (fiQ b w0 sw t0).2.2.1 0 = 0 := by
  have hq : IQ (bn b 0) ab (fiQ b w0 sw t0) := Lk_ok hI h0
  obtain ⟨h1, h2⟩ := giN_some h
  exact ⟨fun x a c => hq.2.2.2.1 x a (by omega), fun x c => hq.2.2.2.2.1 x (by omega), hq.2.2.2.2.2.1⟩
