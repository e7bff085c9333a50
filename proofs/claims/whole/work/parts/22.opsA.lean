/-! the calls on sheets, on the state -/
def okK (k : Int32) : Prop := ¬ k < 0 ∧ ¬ 4 ≤ k
def okL (l : Int32) : Prop := ¬ l < 0 ∧ ¬ 2 < l
def oRef (b : sh_be) (k lane i n : Int32) : Int32 :=
  if ¬ (¬ k < 0 ∧ ¬ 4 ≤ k) then -1 else if ¬ (¬ lane < 0 ∧ ¬ 2 < lane) then -2 else
  match bz b k.toNatClampNeg with
  | none => -11
  | some z => if nI z.1 ≠ lane then -12 else if n < 0 then -14 else if ¬ i < 0 ∧ ¬ n < 0 ∧ ¬ nI z.2 < i ∧ ¬ nI z.2 - i < n then 0 else -13
def fOf (r : Int32) : Int32 := if r = -11 then 1 else if r = -12 then 2 else if r = -13 then 3 else if r = -14 then 4 else 0
def oSheet (b : sh_be) (k lane n : Int32) : Int32 × sh_be :=
  if ¬ (¬ k < 0 ∧ ¬ 4 ≤ k) then (-1, uF_ b 0) else if ¬ (¬ lane < 0 ∧ ¬ 2 < lane) ∨ 60 < n then (-2, uF_ b 0) else if n < 0 then (-14, uF_ b 4)
  else (1, uF_ (uZ_ (uC_ b k.toNatClampNeg (fun _ => 0)) k.toNatClampNeg (some (lane.toNatClampNeg, n.toNatClampNeg))) 0)
def oLose (b : sh_be) (k : Int32) : Int32 × sh_be :=
  if ¬ (¬ k < 0 ∧ ¬ 4 ≤ k) then (-1, b) else (if bz b k.toNatClampNeg = none then 0 else 1, uZ_ b k.toNatClampNeg none)
def cutI (l : Nat) (v : Int32) : Int32 := if l = 0 then v.toInt8.toInt32 else if l = 1 then v.toInt16.toInt32 else v
def oPut (b : sh_be) (k i v : Int32) : Int32 × sh_be :=
  if ¬ (¬ k < 0 ∧ ¬ 4 ≤ k) then (-1, uF_ b 0) else
  match bz b k.toNatClampNeg with
  | none => (-11, uF_ b 1)
  | some z => if ¬ (¬ i < 0 ∧ ¬ nI z.2 ≤ i) then (-13, uF_ b 3) else (1, uF_ (uC_ b k.toNatClampNeg (upd (bc b k.toNatClampNeg) i.toNatClampNeg (cutI z.1 v))) 0)
def oCell (b : sh_be) (k i lane : Int32) : Int64 × sh_be :=
  if oRef b k lane i 1 = 0 then ((bc b k.toNatClampNeg i.toNatClampNeg).toInt64, uF_ b 0) else (-9223372036854775808, uF_ b (fOf (oRef b k lane i 1)))
def oCopy (b : sh_be) (k i o j n : Int32) : Int32 × sh_be :=
  if ¬ (¬ k < 0 ∧ ¬ 4 ≤ k) ∨ ¬ (¬ o < 0 ∧ ¬ 4 ≤ o) then (-1, uF_ b 0) else
  match bz b k.toNatClampNeg, bz b o.toNatClampNeg with
  | some z, some y => if z.1 ≠ y.1 then (-12, uF_ b 2) else
    if ¬ (¬ i < 0 ∧ ¬ n < 0 ∧ ¬ nI z.2 < i ∧ ¬ nI z.2 - i < n) ∨ ¬ (¬ j < 0 ∧ ¬ n < 0 ∧ ¬ nI y.2 < j ∧ ¬ nI y.2 - j < n) then (-13, uF_ b 3) else
    (n, uF_ (uC_ b o.toNatClampNeg (va_cpy (bc b k.toNatClampNeg) (bc b o.toNatClampNeg) i.toNatClampNeg j.toNatClampNeg n.toNatClampNeg)) 0)
  | _, _ => (-11, uF_ b 1)
/-! what they do to the class's world -/
theorem shX_n {S A b k} (h : shX S A b k) (h2 : bz b k = none) : S (11 + k) = -1 ∧ S (15 + k) = 0 := by
  unfold shX at h; rw [h2] at h; exact h
theorem shX_s {S A b k z} (h : shX S A b k) (h2 : bz b k = some z) : S (11 + k) = nI z.1 ∧ S (15 + k) = nI z.2 ∧ ∀ i, i < z.2 → A (7 + k) i = bc b k i := by
  unfold shX at h; rw [h2] at h; exact h
theorem shM_n {A b k} (h : shM A b k) (h2 : bz b k = none) : A 38 k = -1 := by
  unfold shM at h; rw [h2] at h; exact h
theorem shM_s {A b k z} (h : shM A b k) (h2 : bz b k = some z) : A 38 k = nI z.2 ∧ A 39 k = nI z.1 ∧ ∀ i, i < z.2 → A 40 (60 * k + i) = bc b k i := by
  unfold shM at h; rw [h2] at h; exact h
theorem nI_m1 {n : Nat} (h : n < 2 ^ 31) : nI n ≠ -1 := by
  intro e
  have := congrArg Int32.toInt e
  rw [nI_toInt h] at this
  have e2 : (-1 : Int32).toInt = -1 := by decide
  omega
theorem RX.Z {S A Lg P T b} (h : RX S A Lg P T b) {k : Nat} (hk : k < 4) {l n : Int32} {f g : Nat → Int32} {z : Option (Nat × Nat)}
    (hz : match z with | none => l = -1 ∧ n = 0 | some z => l = nI z.1 ∧ n = nI z.2 ∧ ∀ i, i < z.2 → f i = g i) : RX (va_up (va_up S (11 + k) l) (15 + k) n) (va_up A (7 + k) f) Lg P T (uZ_ (uC_ b k g) k z) := by
  obtain ⟨h0, h1, h2, h3, h4, h5, h6, h7, h8, h9, h10⟩ := h
  have hs : ∀ j, j < 11 → va_up (va_up S (11 + k) l) (15 + k) n j = S j := fun j hj => by rw [up_ne (by omega), up_ne (by omega)]
  have ha : ∀ j, j < 7 → va_up A (7 + k) f j = A j := fun j hj => up_ne (by omega)
  refine ⟨by rw [hs 0 (by omega)]; exact h0, by rw [hs 1 (by omega)]; exact h1, by rw [hs 2 (by omega)]; exact h2, by rw [hs 3 (by omega)]; exact h3, by rw [hs 4 (by omega)]; exact h4, by rw [hs 10 (by omega)]; exact h5, fun j hj => ?_, h7, by rw [ha 0 (by omega), ha 1 (by omega)]; exact h8, by rw [ha 2 (by omega), ha 3 (by omega)]; exact h9, h10⟩
  by_cases e : j = k
  · subst e
    unfold shX
    rw [show bz (uZ_ (uC_ b j g) j z) j = z from up_eq, up_ne (show 11 + j ≠ 15 + j by omega), up_eq, up_eq, up_eq]
    cases z with
    | none => exact hz
    | some z => exact ⟨hz.1, hz.2.1, fun i hi => by rw [hz.2.2 i hi]; exact (congrFun (up_eq (f := b.2.2.2.2.2)) i).symm⟩
  · have hh := h6 j hj
    unfold shX at hh ⊢
    rw [show bz (uZ_ (uC_ b k g) k z) j = bz b j from up_ne e, up_ne (show 11 + j ≠ 15 + k by omega), up_ne (show 11 + j ≠ 11 + k by omega), up_ne (show 15 + j ≠ 15 + k by omega), up_ne (show 15 + j ≠ 11 + k by omega), up_ne (show 7 + j ≠ 7 + k by omega)]
    have hc : bc (uZ_ (uC_ b k g) k z) j = bc b j := up_ne e
    rw [hc]
    exact hh
theorem uC_self {b : sh_be} {k : Nat} : uC_ b k (bc b k) = b := by
  have : va_up b.2.2.2.2.2 k (b.2.2.2.2.2 k) = b.2.2.2.2.2 := by
    funext j
    by_cases e : j = k
    · subst e; exact up_eq
    · exact up_ne e
  show (b.1, b.2.1, b.2.2.1, b.2.2.2.1, b.2.2.2.2.1, va_up b.2.2.2.2.2 k (b.2.2.2.2.2 k)) = b
  rw [this]
theorem uZ_self {b : sh_be} {k : Nat} : uZ_ b k (bz b k) = b := by
  have : va_up b.2.2.2.2.1 k (b.2.2.2.2.1 k) = b.2.2.2.2.1 := by
    funext j
    by_cases e : j = k
    · subst e; exact up_eq
    · exact up_ne e
  show (b.1, b.2.1, b.2.2.1, b.2.2.2.1, va_up b.2.2.2.2.1 k (b.2.2.2.2.1 k), b.2.2.2.2.2) = b
  rw [this]
theorem up_self {α : Type} {f : Nat → α} {k : Nat} : va_up f k (f k) = f := by
  funext j
  by_cases e : j = k
  · subst e; exact up_eq
  · exact up_ne e
theorem RX.C {S A Lg P T b} (h : RX S A Lg P T b) {k : Nat} (hk : k < 4) {f g : Nat → Int32} {z : Nat × Nat} (hz : bz b k = some z) (hf : ∀ i, i < z.2 → f i = g i) : RX S (va_up A (7 + k) f) Lg P T (uC_ b k g) := by
  obtain ⟨e1, e2, -⟩ := shX_s (h.2.2.2.2.2.2.1 k hk) hz
  have := h.Z hk (l := nI z.1) (n := nI z.2) (f := f) (g := g) (z := some z) ⟨rfl, rfl, hf⟩
  rw [← e1, ← e2] at this
  have e3 : va_up (va_up S (11 + k) (S (11 + k))) (15 + k) (S (15 + k)) = S := by rw [up_self, up_self]
  rw [e3] at this
  have e4 : uZ_ (uC_ b k g) k (some z) = uC_ b k g := by
    have : bz (uC_ b k g) k = some z := hz
    rw [← this, uZ_self]
  rw [e4] at this
  exact this
def zf (f : Nat → Int32) (j : Nat) : Nat → Int32 := fun i => if i < j then 0 else f i
theorem zf_s (f : Nat → Int32) (j : Nat) : upd (zf f j) j 0 = zf f (j + 1) := by
  funext i
  unfold upd zf
  by_cases h : i = j
  · subst h; rw [if_pos rfl, if_pos (by omega)]
  · rw [if_neg h]
    by_cases h2 : i < j
    · rw [if_pos h2, if_pos (by omega)]
    · rw [if_neg h2, if_neg (by omega)]
theorem zf_0 (f : Nat → Int32) : zf f 0 = f := by
  funext i
  unfold zf
  rw [if_neg (by omega)]
theorem IV.l {b : sh_be} (h : IV b) {k : Nat} (hk : k < 4) : ∀ z, bz b k = some z → z.1 ≤ 2 ∧ z.2 ≤ 60 := fun z hz => h.2.2.2.2.2.2.2.2 k z.1 z.2 hk hz
theorem shX_no {S A b k} (h : shX S A b k) (hl : ∀ z, bz b k = some z → z.1 ≤ 2 ∧ z.2 ≤ 60) (h2 : S (11 + k) = -1) : bz b k = none := by
  rcases hb : bz b k with _ | z
  · rfl
  · have := hl z hb
    exact absurd ((shX_s h hb).1.symm.trans h2) (nI_m1 (by omega))
theorem shX_ex {S A b k} (h : shX S A b k) (h2 : ¬ S (11 + k) = -1) : ∃ z, bz b k = some z := by
  rcases hb : bz b k with _ | z
  · exact absurd (shX_n h hb).1 h2
  · exact ⟨z, rfl⟩
theorem nn_ {c : Prop} (h : c) : ¬ ¬ c := fun g => g h
theorem i_lt3 {l : Int32} (h : nI 3 ≤ l) : 2 < l := by
  rw [fa_le] at h; rw [fa_lt]
  have e1 : (nI 3).toInt = 3 := by decide
  have e2 : (2 : Int32).toInt = 2 := by decide
  omega
theorem i_lt60 {n : Int32} (h : nI 61 ≤ n) : ¬ n ≤ 60 := by
  rw [fa_le] at h; rw [fa_le]
  have e1 : (nI 61).toInt = 61 := by decide
  have e2 : (60 : Int32).toInt = 60 := by decide
  omega
theorem has_ok {i n : Int32} {c : Nat} (hc : c ≤ 60) (h : ¬ i < 0 ∧ ¬ n < 0 ∧ ¬ nI c < i ∧ ¬ nI c - i < n) : ∃ a m, a + m ≤ c ∧ i = nI a ∧ n = nI m := by
  obtain ⟨h1, h2, h3, h4⟩ := h
  obtain ⟨a, ha, rfl⟩ := nI_of h1
  obtain ⟨m, hm, rfl⟩ := nI_of h2
  have ha2 : a ≤ c := by rw [nI_ltI (by omega) ha] at h3; omega
  rw [pk_sub ha2, nI_ltI (by omega) hm] at h4
  exact ⟨a, m, by omega, rfl, rfl⟩
theorem has_of {c a m : Nat} (hc : c ≤ 60) (h : a + m ≤ c) : ¬ nI a < 0 ∧ ¬ nI m < 0 ∧ ¬ nI c < nI a ∧ ¬ nI c - nI a < nI m := by
  refine ⟨nI_pos (by omega), nI_pos (by omega), nI_nlt (by omega) (by omega), ?_⟩
  rw [pk_sub (by omega)]
  exact nI_nlt (by omega) (by omega)
theorem has1b {i : Int32} {c : Nat} (hc : c ≤ 60) (h : ¬ i < 0 ∧ ¬ (1 : Int32) < 0 ∧ ¬ nI c < i ∧ ¬ nI c - i < 1) : ¬ i < 0 ∧ ¬ nI c ≤ i := by
  obtain ⟨a, m, h1, rfl, h2⟩ := has_ok hc h
  have : m = 1 := ((nI_eq (a := 1) (b := m) (by omega) (by omega)).mp h2).symm
  subst this
  exact ⟨nI_pos (by omega), nI_ge (by omega) (by omega)⟩
theorem has1 {i : Int32} {c : Nat} (hc : c ≤ 60) (h : ¬ i < 0 ∧ ¬ nI c ≤ i) : ¬ i < 0 ∧ ¬ (1 : Int32) < 0 ∧ ¬ nI c < i ∧ ¬ nI c - i < 1 := by
  obtain ⟨a, ha, rfl⟩ := ix_of (n := c) rfl (by omega) h
  exact has_of (m := 1) hc (by omega)
theorem cutI_e {l : Nat} (h : l < 2 ^ 31) (v : Int32) : (if nI l = 0 then v.toInt8.toInt32 else if nI l = 1 then v.toInt16.toInt32 else v) = cutI l v := by
  unfold cutI
  have e0 : (nI l = 0) = (l = 0) := propext (nI_eq (a := l) (b := 0) h (by omega))
  have e1 : (nI l = 1) = (l = 1) := propext (nI_eq (a := l) (b := 1) h (by omega))
  simp only [e0, e1]
theorem oRef_ok {b : sh_be} (hI : IV b) {k lane i n : Int32} (h : oRef b k lane i n = 0) : ∃ j, j < 4 ∧ k = nI j ∧ ∃ z, bz b j = some z ∧ lane = nI z.1 ∧ ∃ a m, a + m ≤ z.2 ∧ i = nI a ∧ n = nI m := by
  unfold oRef at h
  split at h
  · cases h
  split at h
  · cases h
  rename_i h1 h2
  obtain ⟨j, hj, rfl⟩ := ix_of (x := k) (n := 4) rfl (by omega) (Classical.not_not.mp h1)
  rw [nI_clamp (by omega)] at h
  split at h
  · cases h
  rename_i z hz
  split at h
  · cases h
  rename_i hl
  split at h
  · cases h
  split at h
  · rename_i hh
    obtain ⟨a, m, h5, h6, h7⟩ := has_ok (IV.l hI hj z hz).2 hh
    exact ⟨j, hj, rfl, z, hz, (Classical.not_not.mp hl).symm, a, m, h5, h6, h7⟩
  · cases h
theorem oRef_ok1 {b : sh_be} (hI : IV b) {k lane i : Int32} (h : oRef b k lane i 1 = 0) : ∃ j, j < 4 ∧ k = nI j ∧ ∃ z, bz b j = some z ∧ ∃ q, q < z.2 ∧ i = nI q := by
  obtain ⟨j, h1, h2, z, h3, -, a, m, h5, h6, h7⟩ := oRef_ok hI h
  have hzl := IV.l hI h1 z h3
  have : m = 1 := ((nI_eq (a := 1) (b := m) (by omega) (by omega)).mp h7).symm
  exact ⟨j, h1, h2, z, h3, a, by omega, h6⟩
