theorem add20 (k : Nat) : (20 : Int32) + nI k = nI (20 + k) := by
  rw [show (20 : Int32) = nI 20 from rfl, nI_add]
def rjR (o : Option (Option Nat)) (x y : Int32) : Prop := (∃ o', o = some o' ∧ y = 1 ∧ x = oJ o' ∧ ∀ r, o' = some r → r < 6) ∨ (o = none ∧ y = 0)
theorem rj_0 {pr : Nat → Nat} {pt k : Nat} {x y : Int32} (h : rjR (rpN pr pt k) x y) (hb : ¬ pt.testBit k = true) : rjR (rpN pr pt (k + 1)) x y := by
  have e : rpN pr pt (k + 1) = rpN pr pt k := by
    rcases ho : rpN pr pt k with _ | o
    · exact rpN_none ho _ (by omega)
    · simp only [rpN, ho, if_neg hb]
  rw [e]; exact h
theorem rj_1 {pr : Nat → Nat} {pt k : Nat} {x y : Int32} (h : rjR (rpN pr pt k) x y) (hb : pt.testBit k = true) (hp : pr k < 6) : rjR (rpN pr pt (k + 1)) (nI (pr k)) (if y = 0 then 0 else if x < 0 then 1 else if x = nI (pr k) then 1 else 0) := by
  rcases h with ⟨o, ho, rfl, rfl, hr⟩ | ⟨ho, rfl⟩
  · rw [if_neg (by decide)]
    rcases o with _ | r
    · rw [if_pos (show oJ none < 0 by decide)]
      refine Or.inl ⟨some (pr k), by simp only [rpN, ho, hb, if_true], rfl, rfl, fun r e => by cases e; exact hp⟩
    · have hr := hr r rfl
      rw [if_neg (show ¬ oJ (some r) < 0 from nI_pos (by omega))]
      by_cases e : r = pr k
      · subst e
        rw [if_pos (show oJ (some (pr k)) = nI (pr k) from rfl)]
        exact Or.inl ⟨some (pr k), by simp only [rpN, ho, hb, if_true], rfl, rfl, fun r e => by cases e; exact hp⟩
      · rw [if_neg (show ¬ oJ (some r) = nI (pr k) from fun h => e ((nI_eq (by omega) (by omega)).mp h))]
        exact Or.inr ⟨by simp only [rpN, ho, hb, if_true, if_neg e], rfl⟩
  · rw [if_pos rfl]
    exact Or.inr ⟨rpN_none ho _ (by omega), rfl⟩
def oBar (b : sh_be) (pa d : Int32) : Int32 :=
  if ¬ (¬ pa = 0 ∧ usr pa (nI (bn b 2)) = 0) then -2 else if ¬ (¬ d < 0 ∧ ¬ nI (bn b 1) ≤ d) then -1 else
  match roomN b pa.toNatClampNeg with
  | none => -3
  | some r => if r ≠ ba b 1 d.toNatClampNeg ∧ r ≠ ba b 2 d.toNatClampNeg then -3 else 0
theorem par_ok {pa : Int32} {n : Nat} (hn : n ≤ 4) : (¬ pa < 1 ∧ pa >>> (nI n &&& 31) = 0) ↔ (¬ pa = 0 ∧ usr pa (nI n) = 0) := by
  have e : ∀ n, n ≤ 4 → ((nI n &&& 31).toBitVec.smod 32).toNat = n := by decide +kernel
  have h16 : 2 ^ n ≤ 16 := Nat.pow_le_pow_right (n := 2) (by omega) hn
  constructor
  · intro ⟨h1, h2⟩
    have h0 : ¬ pa < 0 := by
      intro h
      apply h1
      rw [fa_lt] at h ⊢
      have e0 : (0 : Int32).toInt = 0 := by decide
      have e1 : (1 : Int32).toInt = 1 := by decide
      omega
    obtain ⟨p, hp, rfl⟩ := nI_of h0
    rw [pk_shrN hp (nI n &&& 31) n (e n hn)] at h2
    have h3 : p / 2 ^ n = 0 := (nI_eq (b := 0) (by have := Nat.div_le_self p (2 ^ n); omega) (by omega)).mp h2
    have hlt : p < 2 ^ n := by
      rcases Nat.lt_or_ge p (2 ^ n) with q | q
      · exact q
      · have := Nat.div_pos q (Nat.two_pow_pos n); omega
    exact ⟨fun h => h1 (by rw [h]; decide), usr_of hn hlt⟩
  · intro ⟨h1, h2⟩
    obtain ⟨p, hp, rfl⟩ := usr_ok hn h2
    refine ⟨fun h => h1 ?_, ?_⟩
    · rw [show (1 : Int32) = nI 1 from rfl, nI_ltI (by omega) (by omega)] at h
      rw [show p = 0 by omega]; rfl
    · rw [pk_shrN (by omega) (nI n &&& 31) n (e n hn), Nat.div_eq_of_lt hp]; rfl
theorem oBar_neg {b : sh_be} {pa d : Int32} (h : oBar b pa d < 0) : oOpens b pa d = oBar b pa d ∧ oPass b pa d = (oBar b pa d, b) := by
  have e : oOpens b pa d = oBar b pa d := by
    unfold oBar at h
    unfold oBar oOpens
    split
    · rfl
    rename_i c1
    rw [if_neg c1] at h
    split
    · rfl
    rename_i c2
    rw [if_neg c2] at h
    rcases hr : roomN b pa.toNatClampNeg with _ | r
    · rfl
    · rw [hr] at h
      simp only [] at h ⊢
      split
      · rfl
      rename_i c3
      rw [if_neg c3] at h
      exact absurd h (by decide)
  refine ⟨e, ?_⟩
  unfold oPass
  rw [e, if_pos h]
theorem oBar_ok {b : sh_be} (hI : IV b) {pa d : Int32} (h1 : ¬ oBar b pa d < 0) : ∃ pt q r, pt < 16 ∧ pa = nI pt ∧ q < bn b 1 ∧ d = nI q ∧ roomN b pt = some r ∧ r < 6 ∧
    (∀ t, bBe b q r (wpN b pt (bn b 2)) = some t → oOpens b pa d = 1 ∧ oPass b pa d = (nI t, (b.1, va_up b.2.1 5 (mvN (ba b 5) pt t (bn b 2)), b.2.2))) ∧
    (bBe b q r (wpN b pt (bn b 2)) = none → oOpens b pa d = 0 ∧ oPass b pa d = (-3, b)) := by
  unfold oBar at h1
  split at h1
  · exact absurd (show (-2 : Int32) < 0 by decide) h1
  rename_i c1
  split at h1
  · exact absurd (show (-1 : Int32) < 0 by decide) h1
  rename_i c2
  have i1 := hI.1
  have i2 := hI.2.1
  have i3 := hI.2.2.1
  obtain ⟨pt, hpt, rfl⟩ := usr_ok i3 (Classical.not_not.mp c1).2
  obtain ⟨q, hq, rfl⟩ := ix_of (x := d) rfl (by omega) (Classical.not_not.mp c2)
  have h16 : 2 ^ bn b 2 ≤ 16 := Nat.pow_le_pow_right (n := 2) (by omega) i3
  rw [nI_clamp (n := pt) (by omega), nI_clamp (n := q) (by omega)] at h1
  rcases hr : roomN b pt with _ | r
  · rw [hr] at h1; exact absurd (show (-3 : Int32) < 0 by decide) h1
  · rw [hr] at h1
    simp only [] at h1
    split at h1
    · exact absurd (show (-3 : Int32) < 0 by decide) h1
    rename_i c3
    have hrl := roomN_lt hI hr
    refine ⟨pt, q, r, by omega, rfl, hq, rfl, hr, by omega, fun t ht => ?_, fun ht => ?_⟩
    · have e : oOpens b (nI pt) (nI q) = 1 := by
        unfold oOpens
        rw [if_neg c1, if_neg c2, nI_clamp (n := pt) (by omega), nI_clamp (n := q) (by omega), hr]
        simp only []
        rw [if_neg c3, ht]
      refine ⟨e, ?_⟩
      unfold oPass
      rw [e, if_neg (by decide), nI_clamp (n := pt) (by omega), nI_clamp (n := q) (by omega), hr]
      simp only []
      rw [ht]
    · have e : oOpens b (nI pt) (nI q) = 0 := by
        unfold oOpens
        rw [if_neg c1, if_neg c2, nI_clamp (n := pt) (by omega), nI_clamp (n := q) (by omega), hr]
        simp only []
        rw [if_neg c3, ht]
      exact ⟨e, oPass_0 e⟩
theorem oJ_neg {o : Option Nat} (h : ∀ r, o = some r → r < 2 ^ 31) : oJ o < 0 ↔ o = none := by
  cases o with
  | none => exact ⟨fun _ => rfl, fun _ => by decide⟩
  | some r => exact ⟨fun e => absurd e (nI_pos (h r rfl)), fun e => by cases e⟩
theorem RM.per {S A b} (h : RM S A b) (w r : Nat) : RM (va_up S 26 (nI (bn b 2 + 1))) (va_up (va_up A 26 (upd (A 26) (bn b 2) (nI w))) 27 (upd (A 27) (bn b 2) (nI r))) (uN_ (uA_ (uA_ b 4 (bn b 2) w) 5 (bn b 2) r) 2 (bn b 2 + 1)) := by
  obtain ⟨h0, h1, h2, h3, h4, h5, h6, h7, h8, h9⟩ := h
  refine ⟨h0, h1, h2, rfl, h4, h5, h6, h7, fun k hk => ?_, h9⟩
  have hk : k < bn b 2 + 1 := hk
  by_cases e : k = bn b 2
  · subst e
    exact ⟨(if_pos rfl).trans (congrArg nI (show w = va_up (b.2.1 4) (bn b 2) w (bn b 2) from (if_pos rfl).symm)), (if_pos rfl).trans (congrArg nI (show r = va_up (b.2.1 5) (bn b 2) r (bn b 2) from (if_pos rfl).symm))⟩
  · have g := h8 k (by omega)
    exact ⟨(if_neg e).trans (g.1.trans (congrArg nI (show b.2.1 4 k = va_up (b.2.1 4) (bn b 2) w k from (if_neg e).symm))), (if_neg e).trans (g.2.trans (congrArg nI (show b.2.1 5 k = va_up (b.2.1 5) (bn b 2) r k from (if_neg e).symm)))⟩
theorem RM.sto {S A b} (h : RM S A b) (w r : Nat) : RM (va_up S 27 (nI (bn b 3 + 1))) (va_up (va_up A 28 (upd (A 28) (bn b 3) (nI w))) 29 (upd (A 29) (bn b 3) (nI r))) (uN_ (uA_ (uA_ b 6 (bn b 3) w) 7 (bn b 3) r) 3 (bn b 3 + 1)) := by
  obtain ⟨h0, h1, h2, h3, h4, h5, h6, h7, h8, h9⟩ := h
  refine ⟨h0, h1, h2, h3, rfl, h5, h6, h7, h8, fun k hk => ?_⟩
  have hk : k < bn b 3 + 1 := hk
  by_cases e : k = bn b 3
  · subst e
    exact ⟨(if_pos rfl).trans (congrArg nI (show w = va_up (b.2.1 6) (bn b 3) w (bn b 3) from (if_pos rfl).symm)), (if_pos rfl).trans (congrArg nI (show r = va_up (b.2.1 7) (bn b 3) r (bn b 3) from (if_pos rfl).symm))⟩
  · have g := h9 k (by omega)
    exact ⟨(if_neg e).trans (g.1.trans (congrArg nI (show b.2.1 6 k = va_up (b.2.1 6) (bn b 3) w k from (if_neg e).symm))), (if_neg e).trans (g.2.trans (congrArg nI (show b.2.1 7 k = va_up (b.2.1 7) (bn b 3) r k from (if_neg e).symm)))⟩
theorem RM.pl {S A b} (h : RM S A b) (s v : Nat) : RM S (va_up A 29 (upd (A 29) s (nI v))) (uA_ b 7 s v) := by
  obtain ⟨h0, h1, h2, h3, h4, h5, h6, h7, h8, h9⟩ := h
  refine ⟨h0, h1, h2, h3, h4, h5, h6, h7, h8, fun k hk => ?_⟩
  have g := h9 k hk
  refine ⟨g.1, ?_⟩
  by_cases e : k = s
  · subst e
    exact (if_pos rfl).trans (congrArg nI (show v = va_up (b.2.1 7) k v k from (if_pos rfl).symm))
  · exact (if_neg e).trans (g.2.trans (congrArg nI (show b.2.1 7 k = va_up (b.2.1 7) s v k from (if_neg e).symm)))
theorem RM.we {S A b} (h : RM S A b) (s v : Nat) : RM S (va_up A 26 (upd (A 26) s (nI v))) (uA_ b 4 s v) := by
  obtain ⟨h0, h1, h2, h3, h4, h5, h6, h7, h8, h9⟩ := h
  refine ⟨h0, h1, h2, h3, h4, h5, h6, h7, fun k hk => ?_, h9⟩
  have g := h8 k hk
  refine ⟨?_, g.2⟩
  by_cases e : k = s
  · subst e
    exact (if_pos rfl).trans (congrArg nI (show v = va_up (b.2.1 4) k v k from (if_pos rfl).symm))
  · exact (if_neg e).trans (g.1.trans (congrArg nI (show b.2.1 4 k = va_up (b.2.1 4) s v k from (if_neg e).symm)))
theorem RM.ro {S A b} (h : RM S A b) {f : Nat → Int32} {m : Nat → Nat} (hf : ∀ i, i < bn b 2 → f i = nI (m i)) : RM S (va_up A 27 f) (b.1, va_up b.2.1 5 m, b.2.2) := by
  obtain ⟨h0, h1, h2, h3, h4, h5, h6, h7, h8, h9⟩ := h
  exact ⟨h0, h1, h2, h3, h4, h5, h6, h7, fun k hk => ⟨(h8 k hk).1, hf k hk⟩, h9⟩
theorem RM.st {S A b} (h : RM S A b) (hI : IV b) {s : Nat} (hs : s < bn b 3) : A 28 s = nI (ba b 6 s) ∧ A 29 s = nI (ba b 7 s) ∧ ba b 7 s < 24 ∧ s < 4 ∧ bn b 3 ≤ 4 := by
  have := hI.2.2.2.1
  exact ⟨(h.2.2.2.2.2.2.2.2.2 s hs).1, (h.2.2.2.2.2.2.2.2.2 s hs).2, hI.pl hs, by omega, this⟩
theorem RM.pe {S A b} (h : RM S A b) (hI : IV b) {k : Nat} (hk : k < bn b 2) : A 26 k = nI (ba b 4 k) ∧ A 27 k = nI (ba b 5 k) ∧ 10 ≤ ba b 4 k ∧ ba b 4 k ≤ 99 ∧ ba b 5 k < bn b 0 ∧ bn b 0 ≤ 6 ∧ k < 4 ∧ bn b 2 ≤ 4 := by
  have := hI.2.2.1
  obtain ⟨g1, g2⟩ := h.2.2.2.2.2.2.2.2.1 k hk
  obtain ⟨g3, g4, g5⟩ := hI.2.2.2.2.2.1 k hk
  exact ⟨g1, g2, g3, g4, g5, hI.1, by omega, this⟩
theorem bitk {x n : Nat} (h : x < 2 ^ (n + 1)) : x / 2 < 2 ^ n := by
  rw [Nat.pow_succ] at h; omega
