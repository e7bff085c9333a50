theorem lg0 (x : Int64) : lg_cmp x 0 = 0 ↔ x = 0 := by
  have h1 := lgl x 0
  have h2 := lgg x 0
  rcases (Int64.lt_or_le x 0 : _) with c | c
  · have : lg_cmp x 0 < 0 := by rw [h1]; exact c
    constructor
    · intro e; rw [e] at this; exact absurd this (by decide)
    · intro e; rw [e] at c; exact absurd c (by decide)
  · rcases (Int64.lt_or_le 0 x : _) with d | d
    · have : 0 < lg_cmp x 0 := by rw [h2]; exact d
      constructor
      · intro e; rw [e] at this; exact absurd this (by decide)
      · intro e; rw [e] at d; exact absurd d (by decide)
    · have e : x = 0 := Int64.le_antisymm d c
      subst e
      exact ⟨fun _ => rfl, fun _ => by decide⟩
/-! three bits of a number, taken and put -/
theorem mask3 {x k : Nat} {M : Int32} (hx : x < 2 ^ 31) (hk : k + 3 ≤ 31) (hM : ∀ i, i < 32 → M.toBitVec.getLsbD i = !(decide (k ≤ i) && decide (i < k + 3))) : nI x &&& M = nI (2 ^ (k + 3) * (x / 2 ^ (k + 3)) + x % 2 ^ k) := by
  rw [← Int32.toBitVec_inj, Int32.toBitVec_and]
  apply BitVec.eq_of_getLsbD_eq
  intro i hi
  rw [BitVec.getLsbD_and, hM i hi]
  show ((BitVec.ofNat 32 x).getLsbD i && _) = (BitVec.ofNat 32 _).getLsbD i
  rw [BitVec.getLsbD_ofNat, BitVec.getLsbD_ofNat]
  have hlt : x % 2 ^ k < 2 ^ (k + 3) := Nat.lt_of_lt_of_le (Nat.mod_lt _ (Nat.two_pow_pos k)) (Nat.pow_le_pow_right (by omega) (by omega))
  rw [Nat.testBit_two_pow_mul_add _ hlt]
  by_cases c : i < k + 3
  · rw [if_pos c, Nat.testBit_mod_two_pow]
    by_cases d : i < k
    · rw [decide_eq_true d, decide_eq_false (show ¬ k ≤ i by omega)]; simp
    · rw [decide_eq_false d, decide_eq_true (show k ≤ i by omega), decide_eq_true c]; simp
  · rw [if_neg c, Nat.testBit_div_two_pow, decide_eq_false c, show i - (k + 3) + (k + 3) = i by omega]; simp
theorem put3 {h l v k : Nat} (hl : l < 2 ^ k) (hv : v < 8) : nI (2 ^ (k + 3) * h + l) ||| nI (v * 2 ^ k) = nI (2 ^ (k + 3) * h + (2 ^ k * v + l)) := by
  have e1 : l < 2 ^ (k + 3) := Nat.lt_of_lt_of_le hl (Nat.pow_le_pow_right (by omega) (by omega))
  have e2 : 2 ^ k * v + l < 2 ^ (k + 3) := by
    have h8 : 2 ^ (k + 3) = 2 ^ k * 8 := Nat.pow_add 2 k 3
    have : 2 ^ k * v + 2 ^ k ≤ 2 ^ k * 8 := by rw [← Nat.mul_succ]; exact Nat.mul_le_mul_left _ (by omega)
    omega
  rw [fa_or, Nat.two_pow_add_eq_or_of_lt e1 h, Nat.or_assoc, Nat.two_pow_add_eq_or_of_lt e2 h, Nat.two_pow_add_eq_or_of_lt hl v, Nat.mul_comm v, Nat.or_comm l]
theorem plN {t : tp} {R ab} (h : tV R ab t) (hR : R ≤ 6) {s : Nat} (hs : s < 4) : (nI (cX t) >>> (3 * nI s &&& 31)) &&& 7 = nI (tG t s) := by
  have hx := cX_lt hR h
  obtain ⟨a0, a1, a2, a3, a4⟩ := h.at
  have e : ∀ s, s < 4 → ((3 * nI s &&& 31).toBitVec.smod 32).toNat = 3 * s := by decide +kernel
  rw [pk_shrN (by omega) _ (3 * s) (e s hs), pk_andN (by have := Nat.div_le_self (cX t) (2 ^ (3 * s)); omega) (m := 7) 3 (by decide)]
  congr 1
  unfold cX tG
  rcases s4 hs with rfl | rfl | rfl | rfl <;> simp <;> omega
theorem wpN' {t : tp} {R ab} (h : tV R ab t) (hR : R ≤ 6) {s v : Nat} (hs : s < 4) (hv : v < 8) : (nI (cX t) &&& ((7 <<< (3 * nI s &&& 31)) ^^^ -1)) ||| (nI v <<< (3 * nI s &&& 31)) = nI (cX (tS t s v)) := by
  have hx := cX_lt hR h
  obtain ⟨a0, a1, a2, a3, a4⟩ := h.at
  have e : ∀ s, s < 4 → ((3 * nI s &&& 31).toBitVec.smod 32).toNat = 3 * s := by decide +kernel
  have hM : ∀ s, s < 4 → ∀ i, i < 32 → (((7 : Int32) <<< (3 * nI s &&& 31)) ^^^ -1).toBitVec.getLsbD i = !(decide (3 * s ≤ i) && decide (i < 3 * s + 3)) := by decide +kernel
  have hv2 : v * 2 ^ (3 * s) < 2 ^ 32 := by
    have : v * 2 ^ (3 * s) ≤ 8 * 2 ^ 9 := Nat.mul_le_mul (by omega) (Nat.pow_le_pow_right (by omega) (by omega))
    omega
  rw [mask3 (by omega) (by omega) (hM s hs), pk_shlN _ (3 * s) (e s hs) hv2, put3 (Nat.mod_lt _ (Nat.two_pow_pos _)) hv]
  congr 1
  unfold cX tS
  rcases s4 hs with rfl | rfl | rfl | rfl <;> simp <;> omega
theorem roX {t : tp} {R ab} (h : tV R ab t) (hR : R ≤ 6) : nI (cX t) >>> (12 &&& 31) = nI t.1 := by
  have hx := cX_lt hR h
  obtain ⟨a0, a1, a2, a3, a4⟩ := h.at
  rw [pk_shrN (by omega) ((12 : Int32) &&& 31) 12 (by decide)]
  congr 1
  unfold cX
  omega
theorem mvX {t : tp} {r : Nat} (ht : t.1 < 6) (hr : r < 6) : nI (cX t) + ((nI r - nI t.1) <<< (12 &&& 31)) = nI (cX (r, t.2)) := by
  have e : ∀ a, a < 6 → ∀ c, c < 6 → (nI a - nI c) <<< ((12 : Int32) &&& 31) = nI (4096 * a) - nI (4096 * c) := by decide +kernel
  rw [e r hr t.1 ht]
  obtain ⟨y, hy⟩ : ∃ y, y = t.2.1 + 8 * t.2.2.1 + 64 * t.2.2.2.1 + 512 * t.2.2.2.2 := ⟨_, rfl⟩
  have e1 : cX t = y + 4096 * t.1 := by unfold cX; omega
  have e2 : cX (r, t.2) = y + 4096 * r := by
    show t.2.1 + 8 * t.2.2.1 + 64 * t.2.2.2.1 + 512 * t.2.2.2.2 + 4096 * r = _
    omega
  rw [e1, e2, ← nI_add, ← nI_add, Int32.sub_eq_add_neg, Int32.add_assoc, Int32.add_comm (nI (4096 * r)), ← Int32.add_assoc (nI (4096 * t.1)), Int32.add_right_neg, Int32.zero_add]
theorem cmN {f s : Nat} (hf : f < 14406) (hs : s < 32) : (nI f <<< (5 &&& 31)) ||| nI s = nI (32 * f + s) := by
  rw [pk_shlN ((5 : Int32) &&& 31) 5 (by decide) (by omega), show f * 2 ^ 5 = 2 ^ 5 * f by omega, fa_or_sum (k := 5) f hs]
theorem cmF {f s : Nat} (hf : f < 14406) (hs : s < 32) : nI (32 * f + s) >>> (5 &&& 31) = nI f := by
  rw [pk_shrN (by omega) ((5 : Int32) &&& 31) 5 (by decide)]
  congr 1; omega
theorem cmS {f s : Nat} (hf : f < 14406) (hs : s < 32) : nI (32 * f + s) &&& 31 = nI s := by
  rw [pk_andN (by omega) (m := 31) 5 (by decide)]
  congr 1; omega
/-! the set of the seen -/
theorem bit64 {j : Nat} (hj : j < 64) : (1 : Int64) <<< ((nI j).toInt64 &&& 63) = Int64.ofBitVec (BitVec.twoPow 64 j) := by
  have e : ∀ j, j < 64 → ((1 : Int64) <<< ((nI j).toInt64 &&& 63)).toBitVec = BitVec.twoPow 64 j := by decide +kernel
  rw [← Int64.toBitVec_inj]
  exact e j hj
theorem seen_iff {x : Int64} {j : Nat} (hj : j < 64) : x &&& ((1 : Int64) <<< ((nI j).toInt64 &&& 63)) = 0 ↔ ¬ x.toBitVec.getLsbD j = true := by
  rw [bit64 hj, ← Int64.toBitVec_inj, Int64.toBitVec_and]
  show x.toBitVec &&& BitVec.twoPow 64 j = 0#64 ↔ _
  rw [BitVec.and_twoPow]
  split
  · rename_i h
    constructor
    · intro e
      have := congrArg (fun z => BitVec.getLsbD z j) e
      simp [hj] at this
    · intro g; exact absurd h g
  · rename_i h
    exact ⟨fun _ => h, fun _ => rfl⟩
theorem seen_or {x : Int64} {j i : Nat} (hj : j < 64) (hi : i < 64) : (x ||| ((1 : Int64) <<< ((nI j).toInt64 &&& 63))).toBitVec.getLsbD i = true ↔ (x.toBitVec.getLsbD i = true ∨ i = j) := by
  rw [bit64 hj, Int64.toBitVec_or, BitVec.getLsbD_or, Bool.or_eq_true]
  show _ ∨ (BitVec.twoPow 64 j).getLsbD i = true ↔ _
  rw [BitVec.getLsbD_twoPow]
  simp [hj]
  exact ⟨fun h => h.elim Or.inl (fun h => Or.inr h.symm), fun h => h.elim Or.inl (fun h => Or.inr h.symm)⟩
theorem zero_bits {x : Int64} (h : ¬ x = 0) : ∃ k, k < 64 ∧ x.toBitVec.getLsbD k = true := by
  refine Classical.byContradiction fun hn => h ?_
  rw [← Int64.toBitVec_inj]
  apply BitVec.eq_of_getLsbD_eq
  intro i hi
  show _ = (0#64).getLsbD i
  rw [BitVec.getLsbD_zero]
  rcases hb : x.toBitVec.getLsbD i with _ | _
  · rfl
  · exact absurd ⟨i, hi, hb⟩ hn
def sn (Lg : Nat → Int64) (q : bq) : Prop := ∀ j k, k < 64 → ((Lg j).toBitVec.getLsbD k = true ↔ ∃ i, i < q.1 ∧ cX (q.2.1 i) = 64 * j + k)
theorem sn_z {Lg : Nat → Int64} (h : ∀ j, Lg j = 0) {q : bq} (hq : q.1 = 0) : sn Lg q := by
  intro j k hk
  rw [h j]
  constructor
  · intro g
    have : (0#64).getLsbD k = true := g
    rw [BitVec.getLsbD_zero] at this; cases this
  · rintro ⟨i, hi, -⟩; omega
theorem rem64 {x : Nat} (h : x < 2 ^ 30) : nI x - nI x / 64 * 64 = nI (x % 64) := pk_rem (a := x) (d := 64) (by omega) (by omega) (by omega)
theorem div64 {x : Nat} (h : x < 2 ^ 30) : nI x / 64 = nI (x / 64) := pk_div (a := x) (d := 64) (by omega) (by omega) (by omega)
theorem sn_in {Lg q R ab t} (h : sn Lg q) (hR : R ≤ 6) (hv : ∀ i, i < q.1 → tV R ab (q.2.1 i)) (ht : tV R ab t) : Lg (cX t / 64) &&& ((1 : Int64) <<< ((nI (cX t % 64)).toInt64 &&& 63)) = 0 ↔ ¬ inB q.2.1 t q.1 = true := by
  rw [seen_iff (Nat.mod_lt _ (by omega)), h _ _ (Nat.mod_lt _ (by omega)), inB_iff, show 64 * (cX t / 64) + cX t % 64 = cX t by omega]
  exact not_congr ⟨fun ⟨i, hi, e⟩ => ⟨i, hi, cX_inj (hv i hi) ht e⟩, fun ⟨i, hi, e⟩ => ⟨i, hi, by rw [e]⟩⟩
theorem sn_ad {Lg q t f s} (h : sn Lg q) (hn : ¬ inB q.2.1 t q.1 = true) : sn (vp_updL Lg (cX t / 64) (Lg (cX t / 64) ||| ((1 : Int64) <<< ((nI (cX t % 64)).toInt64 &&& 63)))) (adq q t f s) := by
  rw [adq_n hn]
  intro j k hk
  have e : (∃ i, i < q.1 + 1 ∧ cX (va_up q.2.1 q.1 t i) = 64 * j + k) ↔ ((∃ i, i < q.1 ∧ cX (q.2.1 i) = 64 * j + k) ∨ cX t = 64 * j + k) := by
    constructor
    · rintro ⟨i, hi, e⟩
      rcases Nat.lt_or_ge i q.1 with c | c
      · rw [up_ne (by omega)] at e; exact Or.inl ⟨i, c, e⟩
      · rw [show i = q.1 by omega, up_eq] at e; exact Or.inr e
    · rintro (⟨i, hi, e⟩ | e)
      · exact ⟨i, by omega, by rw [up_ne (by omega)]; exact e⟩
      · exact ⟨q.1, by omega, by rw [up_eq]; exact e⟩
  show ((vp_updL Lg _ _ j).toBitVec.getLsbD k = true) ↔ (∃ i, i < q.1 + 1 ∧ cX (va_up q.2.1 q.1 t i) = 64 * j + k)
  rw [e]
  unfold vp_updL
  split
  · rename_i g
    rw [seen_or (Nat.mod_lt _ (by omega)) hk, ← g, h j k hk]
    exact or_congr Iff.rfl (by omega)
  · rename_i g
    rw [h j k hk]
    exact ⟨Or.inl, fun h => h.elim id (fun e => absurd (show j = cX t / 64 by omega) g)⟩
/-! the class's search in its rows -/
def RS (S : Nat → Int32) (A : Nat → Nat → Int32) (Lg : Nat → Int64) (w0 : Nat) (sw : Nat → Nat) (g : Nat) (q : bq) : Prop :=
  S 7 = nI q.1 ∧ S 8 = nI g ∧ S 9 = oI (giN g q.2.1 q.1) ∧ S 5 = nI w0 ∧ (∀ s, s < 4 → A 6 s = nI (sw s)) ∧ (∀ i, i < q.1 → A 4 i = nI (cX (q.2.1 i)) ∧ A 5 i = nI (32 * q.2.2.1 i + q.2.2.2 i)) ∧ sn Lg q
def SF (S : Nat → Int32) (A : Nat → Nat → Int32) (S' : Nat → Int32) (A' : Nat → Nat → Int32) : Prop := (∀ i, i ≠ 7 → i ≠ 9 → S' i = S i) ∧ (∀ i, i ≠ 4 → i ≠ 5 → A' i = A i)
theorem SF.rf {S A} : SF S A S A := ⟨fun _ _ _ => rfl, fun _ _ _ => rfl⟩
theorem SF.tr {S A S1 A1 S2 A2} (h : SF S A S1 A1) (h2 : SF S1 A1 S2 A2) : SF S A S2 A2 := ⟨fun i a c => (h2.1 i a c).trans (h.1 i a c), fun i a c => (h2.2 i a c).trans (h.2 i a c)⟩
def DX (S : Nat → Int32) (P : Nat → Option Nat) (T : List sh_C) (b : sh_be) : Prop := S 2 = nI (bn b 1) ∧ ∀ d, d < bn b 1 → ∃ j, P d = some (j + 47) ∧ T[j]? = some (dC (ba b 0 d) (ba b 1 d) (ba b 2 d) (ba b 3 d))
theorem giN_adn {g q t f s} (hn : ¬ inB q.2.1 t q.1 = true) : giN g (adq q t f s).2.1 (adq q t f s).1 = (giN g q.2.1 q.1).or (if t.1 = g then some q.1 else none) := by
  rw [adq_n hn]
  show giN g (va_up q.2.1 q.1 t) (q.1 + 1) = _
  have h := giN_cong (g := g) (X := q.2.1) (Y := va_up q.2.1 q.1 t) (n := q.1) (fun i hi => by rw [up_ne (by omega)])
  rcases ho : giN g q.2.1 q.1 with _ | i
  · rw [giN_n (h.trans ho), up_eq]; rfl
  · rw [giN_s (h.trans ho)]; rfl
theorem RS.ad {S A Lg w0 sw g q t f s} (h : RS S A Lg w0 sw g q) (hn : ¬ inB q.2.1 t q.1 = true) {S9 : Int32} (h9 : S9 = oI (giN g (adq q t f s).2.1 (adq q t f s).1)) : RS (va_up (va_up S 9 S9) 7 (nI (q.1 + 1))) (va_up (va_up A 4 (upd (A 4) q.1 (nI (cX t)))) 5 (upd (A 5) q.1 (nI (32 * f + s)))) (vp_updL Lg (cX t / 64) (Lg (cX t / 64) ||| ((1 : Int64) <<< ((nI (cX t % 64)).toInt64 &&& 63)))) w0 sw g (adq q t f s) := by
  have hs := sn_ad (f := f) (s := s) h.2.2.2.2.2.2 hn
  obtain ⟨h1, h2, h3, h4, h5, h6, h7⟩ := h
  refine ⟨by rw [adq_n hn]; rfl, h2, h9, h4, h5, fun i hi => ?_, hs⟩
  rw [adq_n hn] at hi ⊢
  have hi : i < q.1 + 1 := hi
  show upd (A 4) q.1 (nI (cX t)) i = nI (cX (va_up q.2.1 q.1 t i)) ∧ upd (A 5) q.1 (nI (32 * f + s)) i = nI (32 * va_up q.2.2.1 q.1 f i + va_up q.2.2.2 q.1 s i)
  rcases Nat.lt_or_ge i q.1 with c | c
  · rw [upd_ne (by omega), upd_ne (by omega), up_ne (by omega), up_ne (by omega), up_ne (by omega)]; exact h6 i c
  · rw [show i = q.1 by omega, upd_eq, upd_eq, up_eq, up_eq, up_eq]; exact ⟨rfl, rfl⟩
theorem RS.fr {S A Lg w0 sw g q} (h : RS S A Lg w0 sw g q) : q.1 < 2 ^ 31 → S 7 = nI q.1 := fun _ => h.1
theorem tkN_no {t : tp} {a : Nat} {q : bq} (h : ¬ cr t 4 < 2) : ∀ {s : Nat}, tkN t a q s = q
  | 0 => rfl
  | s + 1 => by rw [tkN, if_neg (fun x => h x.2), tkN_no h]
theorem cr_pos {t : tp} : ∀ {n s : Nat}, s < n → tG t s = 6 → 1 ≤ cr t n
  | n + 1, s, hs, h => by
    rw [cr]
    rcases Nat.lt_or_ge s n with c | c
    · have := cr_pos c h; omega
    · rw [show n = s by omega, if_pos h]; omega
theorem lyN_no {t : tp} {a : Nat} {q : bq} (h : cr t 4 = 0) : ∀ {s : Nat}, s ≤ 4 → lyN t a q s = q
  | 0, _ => rfl
  | s + 1, hs => by rw [lyN, if_neg (fun x => by have := cr_pos (n := 4) (s := s) (by omega) x; omega), lyN_no h (by omega)]
theorem cr_le {t : tp} : ∀ {n : Nat}, cr t n ≤ n
  | 0 => Nat.le_refl _
  | n + 1 => by
    have := cr_le (t := t) (n := n)
    rw [cr]; split <;> omega
theorem tw_le {w0 : Nat} {sw : Nat → Nat} {t : tp} (h : ∀ s, s < 4 → sw s < 100) : ∀ {n : Nat}, n ≤ 4 → tw w0 sw t n ≤ w0 + 100 * n
  | 0, _ => Nat.le_refl _
  | n + 1, hn => by
    have h1 := tw_le (w0 := w0) (t := t) h (n := n) (by omega)
    have h2 := h n (by omega)
    rw [tw]
    split <;> omega
