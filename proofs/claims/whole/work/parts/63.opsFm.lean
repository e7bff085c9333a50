/-! the reference's search in its rows -/
def KP (S : Nat → Int32) (A : Nat → Nat → Int32) (w0 : Nat) (sw : Nat → Nat) (m : Nat) (ab : Nat → Bool) : Prop :=
  S 28 = nI w0 ∧ S 30 = nI m ∧ m ≤ 4 ∧ (∀ s, s < m → A 32 s = if ab s = true then 0 else 1) ∧ (∀ s, s < m → ab s = false → A 31 s = nI (sw s)) ∧ (∀ s, s < 4 → m ≤ s → ab s = true)
def KT (S : Nat → Int32) (A : Nat → Nat → Int32) (m : Nat) (ab : Nat → Bool) (t : tp) : Prop := S 29 = nI t.1 ∧ ∀ s, s < m → ab s = false → A 30 s = nI (tG t s)
def KQ (S : Nat → Int32) (A : Nat → Nat → Int32) (q : bq) : Prop :=
  S 31 = nI q.1 ∧ (∀ i, i < q.1 → A 33 i = nI (cM (q.2.1 i)) ∧ A 34 i = (if i = 0 then -9 else nI (q.2.2.1 i)) ∧ A 35 i = (if i = 0 then -9 else nI (q.2.2.2 i))) ∧ (∀ c, c < 14406 → (A 36 c = 0 ∨ A 36 c = 1) ∧ (A 36 c = 1 ↔ ∃ i, i < q.1 ∧ cM (q.2.1 i) = c))
def KF (S : Nat → Int32) (A : Nat → Nat → Int32) (S' : Nat → Int32) (A' : Nat → Nat → Int32) : Prop := (∀ i, i ≠ 29 → i ≠ 31 → S' i = S i) ∧ (∀ i, i ≠ 30 → ¬ (33 ≤ i ∧ i ≤ 36) → A' i = A i)
theorem KF.rf {S A} : KF S A S A := ⟨fun _ _ _ => rfl, fun _ _ _ => rfl⟩
theorem KF.tr {S A S1 A1 S2 A2} (h : KF S A S1 A1) (h2 : KF S1 A1 S2 A2) : KF S A S2 A2 := ⟨fun i a c => (h2.1 i a c).trans (h.1 i a c), fun i a c => (h2.2 i a c).trans (h.2 i a c)⟩
theorem KF.S {S A} {k : Nat} {x : Int32} (h : k = 29 ∨ k = 31) : KF S A (va_up S k x) A := ⟨fun i hi h2 => up_ne (by omega), fun i hi _ => rfl⟩
theorem KF.A {S A} {k : Nat} {x : Nat → Int32} (h : k = 30 ∨ (33 ≤ k ∧ k ≤ 36)) : KF S A S (va_up A k x) := ⟨fun i _ _ => rfl, fun i hi _ => up_ne (by omega)⟩
theorem KP.fr {S A S' A' w0 sw m ab} (h : KP S A w0 sw m ab) (hf : KF S A S' A') : KP S' A' w0 sw m ab := by
  obtain ⟨h1, h2, h3, h4, h5, h6⟩ := h
  exact ⟨by rw [hf.1 28 (by omega) (by omega)]; exact h1, by rw [hf.1 30 (by omega) (by omega)]; exact h2, h3, by rw [hf.2 32 (by omega) (by omega)]; exact h4, by rw [hf.2 31 (by omega) (by omega)]; exact h5, h6⟩
/-- what a search of the reference may change -/
def KG (S : Nat → Int32) (A : Nat → Nat → Int32) (S' : Nat → Int32) (A' : Nat → Nat → Int32) : Prop := (∀ i, ¬ (28 ≤ i ∧ i ≤ 31) → S' i = S i) ∧ (∀ i, ¬ (30 ≤ i ∧ i ≤ 37) → A' i = A i)
theorem KG.rf {S A} : KG S A S A := ⟨fun _ _ => rfl, fun _ _ => rfl⟩
theorem KG.tr {S A S1 A1 S2 A2} (h : KG S A S1 A1) (h2 : KG S1 A1 S2 A2) : KG S A S2 A2 := ⟨fun i a => (h2.1 i a).trans (h.1 i a), fun i a => (h2.2 i a).trans (h.2 i a)⟩
theorem KG.S {S A} {k : Nat} {x : Int32} (h : 28 ≤ k ∧ k ≤ 31) : KG S A (va_up S k x) A := ⟨fun i hi => up_ne (by omega), fun i hi => rfl⟩
theorem KG.A {S A} {k : Nat} {x : Nat → Int32} (h : 30 ≤ k ∧ k ≤ 37) : KG S A S (va_up A k x) := ⟨fun i _ => rfl, fun i hi => up_ne (by omega)⟩
theorem KF.kg {S A S' A'} (h : KF S A S' A') : KG S A S' A' := ⟨fun i a => h.1 i (by omega) (by omega), fun i a => h.2 i (by omega) (by omega)⟩
theorem KG.fm {S A S' A'} (h : KG S A S' A') : FM S A S' A' := fun i hi => ⟨h.1 i (by omega), h.2 i (by omega)⟩
theorem RM.kg {S A S' A' b} (h : RM S A b) (hf : KG S A S' A') : RM S' A' b := by
  obtain ⟨h0, h1, h2, h3, h4, h5, h6, h7, h8, h9⟩ := h
  refine ⟨by rw [hf.1 20 (by omega)]; exact h0, by rw [hf.1 21 (by omega)]; exact h1, by rw [hf.1 22 (by omega)]; exact h2, by rw [hf.1 26 (by omega)]; exact h3, by rw [hf.1 27 (by omega)]; exact h4, by rw [hf.1 32 (by omega)]; exact h5, fun k hk => ?_, by rw [hf.2 20 (by omega), hf.2 21 (by omega), hf.2 22 (by omega)]; exact h7, by rw [hf.2 26 (by omega), hf.2 27 (by omega)]; exact h8, by rw [hf.2 28 (by omega), hf.2 29 (by omega)]; exact h9⟩
  have := h6 k hk
  unfold shM at this ⊢
  rw [hf.2 38 (by omega), hf.2 39 (by omega), hf.2 40 (by omega)]
  exact this
/-- digits -/
def hqN (t : tp) : Nat → Nat
  | 0 => 0
  | j + 1 => hqN t j * 7 + dM (tG t (3 - j))
theorem hq_cM (t : tp) : hqN t 4 * 6 + t.1 = cM t := by
  show ((((0 * 7 + dM (tG t 3)) * 7 + dM (tG t 2)) * 7 + dM (tG t 1)) * 7 + dM (tG t 0)) * 6 + t.1 = _
  show ((((0 * 7 + dM t.2.2.2.2) * 7 + dM t.2.2.2.1) * 7 + dM t.2.2.1) * 7 + dM t.2.1) * 6 + t.1 = _
  unfold cM
  omega
theorem cM_dig {R ab t} (h : tV R ab t) (hR : R ≤ 6) {s : Nat} (hs : s < 4) : cM t / 6 / 7 ^ s % 7 = dM (tG t s) := by
  obtain ⟨a0, a1, a2, a3, a4⟩ := h.at
  have := dM_lt a1; have := dM_lt a2; have := dM_lt a3; have := dM_lt a4
  rcases s4 hs with rfl | rfl | rfl | rfl
  · show cM t / 6 / 1 % 7 = dM t.2.1
    unfold cM; omega
  · show cM t / 6 / 7 % 7 = dM t.2.2.1
    unfold cM; omega
  · show cM t / 6 / 49 % 7 = dM t.2.2.2.1
    unfold cM; omega
  · show cM t / 6 / 343 % 7 = dM t.2.2.2.2
    unfold cM; omega
theorem cM_room {R ab t} (h : tV R ab t) (hR : R ≤ 6) : cM t % 6 = t.1 := by
  have := h.1
  unfold cM; omega
theorem div_s (x s : Nat) : x / 7 ^ s / 7 = x / 7 ^ (s + 1) := by rw [Nat.div_div_eq_div_mul, Nat.pow_succ]
theorem dM_n {v : Nat} (h : v ≠ 7) : dM v = v := if_neg h
theorem dM_7 : dM 7 = 0 := if_pos rfl
theorem KP.out {S A w0 sw m ab} (h : KP S A w0 sw m ab) {R t} (ht : tV R ab t) {s : Nat} (hs : s < 4) (hm : m ≤ s) : tG t s = 7 := (ht.2 s hs).2.mpr (h.2.2.2.2.2 s hs hm)
theorem cr_ge {t : tp} {m : Nat} (h : ∀ s, s < 4 → m ≤ s → tG t s = 7) : ∀ {n : Nat}, m + n ≤ 4 → cr t (m + n) = cr t m
  | 0, _ => rfl
  | n + 1, hn => by
    show cr t (m + n + 1) = _
    rw [cr, if_neg (by rw [h (m + n) (by omega) (by omega)]; omega), Nat.add_zero, cr_ge h (by omega)]
theorem tw_ge {t : tp} {m w0 : Nat} {sw : Nat → Nat} (h : ∀ s, s < 4 → m ≤ s → tG t s = 7) : ∀ {n : Nat}, m + n ≤ 4 → tw w0 sw t (m + n) = tw w0 sw t m
  | 0, _ => rfl
  | n + 1, hn => by
    show tw w0 sw t (m + n + 1) = _
    rw [tw, if_neg (by rw [h (m + n) (by omega) (by omega)]; omega), Nat.add_zero, tw_ge h (by omega)]
theorem tk_ge {t : tp} {m a : Nat} {q : bq} (ht : t.1 < 7) (h : ∀ s, s < 4 → m ≤ s → tG t s = 7) : ∀ {n : Nat}, m + n ≤ 4 → tkN t a q (m + n) = tkN t a q m
  | 0, _ => rfl
  | n + 1, hn => by
    show tkN t a q (m + n + 1) = _
    rw [tkN, if_neg (by rw [h (m + n) (by omega) (by omega)]; omega), tk_ge ht h (by omega)]
theorem ly_ge {t : tp} {m a : Nat} {q : bq} (h : ∀ s, s < 4 → m ≤ s → tG t s = 7) : ∀ {n : Nat}, m + n ≤ 4 → lyN t a q (m + n) = lyN t a q m
  | 0, _ => rfl
  | n + 1, hn => by
    show lyN t a q (m + n + 1) = _
    rw [lyN, if_neg (by rw [h (m + n) (by omega) (by omega)]; omega), ly_ge h (by omega)]
theorem bno {x y : Int32} (h : x = 0 ∨ x = 1) : x ≠ 0 ↔ x = 1 := by
  rcases h with h | h
  · rw [h]; exact ⟨fun g => absurd rfl g, fun g => absurd g (by decide)⟩
  · rw [h]; exact ⟨fun _ => rfl, fun _ => by decide⟩
theorem KQ.in {S A q R ab t} (h : KQ S A q) (hR : R ≤ 6) (hv : ∀ i, i < q.1 → tV R ab (q.2.1 i)) (ht : tV R ab t) : A 36 (cM t) ≠ 0 ↔ inB q.2.1 t q.1 = true := by
  obtain ⟨h1, h2⟩ := h.2.2 (cM t) (cM_lt hR ht)
  rw [bno (y := 0) h1, h2, inB_iff]
  exact ⟨fun ⟨i, hi, e⟩ => ⟨i, hi, cM_inj hR (hv i hi) ht e⟩, fun ⟨i, hi, e⟩ => ⟨i, hi, by rw [e]⟩⟩
theorem KQ.ad {S A q t f s} {fI sI : Int32} (h : KQ S A q) (hn : ¬ inB q.2.1 t q.1 = true) (hf : fI = if q.1 = 0 then -9 else nI f) (hs : sI = if q.1 = 0 then -9 else nI s) : KQ (va_up S 31 (nI (q.1 + 1))) (va_up (va_up (va_up (va_up A 36 (upd (A 36) (cM t) 1)) 33 (upd (A 33) q.1 (nI (cM t)))) 34 (upd (A 34) q.1 fI)) 35 (upd (A 35) q.1 sI)) (adq q t f s) := by
  obtain ⟨h1, h2, h3⟩ := h
  rw [adq_n hn]
  refine ⟨rfl, fun i hi => ?_, fun c hc => ?_⟩
  · have hi : i < q.1 + 1 := hi
    show upd (A 33) q.1 (nI (cM t)) i = nI (cM (va_up q.2.1 q.1 t i)) ∧ upd (A 34) q.1 fI i = (if i = 0 then -9 else nI (va_up q.2.2.1 q.1 f i)) ∧ upd (A 35) q.1 sI i = (if i = 0 then -9 else nI (va_up q.2.2.2 q.1 s i))
    rcases Nat.lt_or_ge i q.1 with c | c
    · rw [upd_ne (by omega), upd_ne (by omega), upd_ne (by omega), up_ne (by omega), up_ne (by omega), up_ne (by omega)]; exact h2 i c
    · rw [show i = q.1 by omega, upd_eq, upd_eq, upd_eq, up_eq, up_eq, up_eq]; exact ⟨rfl, hf, hs⟩
  · show (upd (A 36) (cM t) 1 c = 0 ∨ upd (A 36) (cM t) 1 c = 1) ∧ (upd (A 36) (cM t) 1 c = 1 ↔ ∃ i, i < q.1 + 1 ∧ cM (va_up q.2.1 q.1 t i) = c)
    obtain ⟨k1, k2⟩ := h3 c hc
    have e : (∃ i, i < q.1 + 1 ∧ cM (va_up q.2.1 q.1 t i) = c) ↔ ((∃ i, i < q.1 ∧ cM (q.2.1 i) = c) ∨ cM t = c) := by
      constructor
      · rintro ⟨i, hi, e⟩
        rcases Nat.lt_or_ge i q.1 with c | c
        · rw [up_ne (by omega)] at e; exact Or.inl ⟨i, c, e⟩
        · rw [show i = q.1 by omega, up_eq] at e; exact Or.inr e
      · rintro (⟨i, hi, e⟩ | e)
        · exact ⟨i, by omega, by rw [up_ne (by omega)]; exact e⟩
        · exact ⟨q.1, by omega, by rw [up_eq]; exact e⟩
    rw [e]
    by_cases g : c = cM t
    · rw [g, upd_eq]; exact ⟨Or.inr rfl, fun _ => Or.inr rfl, fun _ => rfl⟩
    · rw [upd_ne g]
      exact ⟨k1, k2.trans ⟨Or.inl, fun h => h.elim id (fun e => absurd e.symm g)⟩⟩
/-! one stone, in the first or the second slot -/
def swp (t : tp) : tp := (t.1, t.2.2.1, t.2.1, t.2.2.2.1, t.2.2.2.2)
theorem swp_inj {t u : tp} (h : swp t = swp u) : t = u := by
  have h0 := congrArg (fun z : tp => z.1) h
  have h1 := congrArg (fun z : tp => z.2.1) h
  have h2 := congrArg (fun z : tp => z.2.2.1) h
  have h3 := congrArg (fun z : tp => z.2.2.2.1) h
  have h4 := congrArg (fun z : tp => z.2.2.2.2) h
  exact tp_ext h0 h2 h1 h3 h4
def SQ (q q' : bq) : Prop := q'.1 = q.1 ∧ ∀ i, i < q.1 → q'.2.1 i = swp (q.2.1 i)
theorem SQ.in {q q' : bq} (h : SQ q q') {t : tp} : inB q'.2.1 (swp t) q'.1 = true ↔ inB q.2.1 t q.1 = true := by
  rw [inB_iff, inB_iff, h.1]
  exact ⟨fun ⟨i, hi, e⟩ => ⟨i, hi, swp_inj ((h.2 i hi).symm.trans e)⟩, fun ⟨i, hi, e⟩ => ⟨i, hi, by rw [h.2 i hi, e]⟩⟩
theorem SQ.ad {q q' : bq} (h : SQ q q') {t : tp} {f s f' s' : Nat} : SQ (adq q t f s) (adq q' (swp t) f' s') := by
  by_cases c : inB q.2.1 t q.1 = true
  · rw [adq_y c, adq_y (h.in.mpr c)]; exact h
  · rw [adq_n c, adq_n (fun g => c (h.in.mp g))]
    refine ⟨congrArg (· + 1) h.1, fun i hi => ?_⟩
    have hi : i < q.1 + 1 := hi
    show va_up q'.2.1 q'.1 (swp t) i = swp (va_up q.2.1 q.1 t i)
    rw [h.1]
    rcases Nat.lt_or_ge i q.1 with c | c
    · rw [up_ne (by omega), up_ne (by omega)]; exact h.2 i c
    · rw [show i = q.1 by omega, up_eq, up_eq]
theorem SQ.dr {b : sh_be} {w a : Nat} {q q' : bq} (h : SQ q q') {t : tp} : ∀ {d : Nat}, SQ (drN b w t a q d) (drN b w (swp t) a q' d)
  | 0 => h
  | d + 1 => by
    rw [drN, drN]
    show SQ (drS (bBe b d t.1 w) t a d _) (drS (bBe b d t.1 w) (swp t) a d _)
    rcases bBe b d t.1 w with _ | r
    · exact SQ.dr h
    · exact (SQ.dr h).ad (t := (r, t.2))
/-- a state with one stone, in the second slot -/
def one2 (t : tp) : Prop := t.1 < 6 ∧ t.2.1 = 7 ∧ t.2.2.2.1 = 7 ∧ t.2.2.2.2 = 7
theorem one2_eq {t : tp} (h : one2 t) : t = (t.1, 7, t.2.2.1, 7, 7) := tp_ext rfl h.2.1 rfl h.2.2.1 h.2.2.2
theorem SQ.sp {b : sh_be} {w0 x a : Nat} {q q' : bq} (h : SQ q q') (ha : a < q.1) (h1 : one2 (q.2.1 a)) : SQ (spq b w0 (sw12 0 x) q a) (spq b w0 (sw12 x 0) q' a) := by
  have e := h.2 a ha
  unfold spq
  rw [e]
  obtain ⟨t, ht⟩ : ∃ t, t = q.2.1 a := ⟨_, rfl⟩
  rw [← ht] at h1 ⊢
  have e2 := one2_eq h1
  obtain ⟨r, v, hr, e3⟩ : ∃ r v, r < 6 ∧ t = (r, 7, v, 7, 7) := ⟨_, _, h1.1, e2⟩
  subst e3
  have c1 : cr (r, 7, v, 7, 7) 4 = (if v = 6 then 1 else 0) := by
    show 0 + (if (7 : Nat) = 6 then 1 else 0) + (if v = 6 then 1 else 0) + (if (7 : Nat) = 6 then 1 else 0) + (if (7 : Nat) = 6 then 1 else 0) = _
    simp
  have c2 : cr (r, v, 7, 7, 7) 4 = (if v = 6 then 1 else 0) := by
    show 0 + (if v = 6 then 1 else 0) + (if (7 : Nat) = 6 then 1 else 0) + (if (7 : Nat) = 6 then 1 else 0) + (if (7 : Nat) = 6 then 1 else 0) = _
    simp
  have w1 : tw w0 (sw12 0 x) (r, 7, v, 7, 7) 4 = w0 + (if v = 6 then x else 0) := by
    show w0 + (if (7 : Nat) = 6 then 0 else 0) + (if v = 6 then x else 0) + (if (7 : Nat) = 6 then 0 else 0) + (if (7 : Nat) = 6 then 0 else 0) = _
    simp
  have w2 : tw w0 (sw12 x 0) (r, v, 7, 7, 7) 4 = w0 + (if v = 6 then x else 0) := by
    show w0 + (if v = 6 then x else 0) + (if (7 : Nat) = 6 then 0 else 0) + (if (7 : Nat) = 6 then 0 else 0) + (if (7 : Nat) = 6 then 0 else 0) = _
    simp
  have k1 : ∀ q : bq, tkN (r, 7, v, 7, 7) a q 4 = if v = r then adq q (r, 7, 6, 7, 7) a 1 else q := by
    intro q
    have n7 : ∀ {P : Prop}, ¬ (7 = r ∧ P) := fun g => by omega
    show (if 7 = r ∧ cr (r, 7, v, 7, 7) 4 < 2 then _ else if 7 = r ∧ cr (r, 7, v, 7, 7) 4 < 2 then _ else if v = r ∧ cr (r, 7, v, 7, 7) 4 < 2 then adq (if 7 = r ∧ cr (r, 7, v, 7, 7) 4 < 2 then _ else q) (r, 7, 6, 7, 7) a 1 else (if 7 = r ∧ cr (r, 7, v, 7, 7) 4 < 2 then _ else q)) = _
    rw [if_neg n7, if_neg n7, if_neg n7, c1]
    by_cases e : v = r
    · rw [if_pos e, if_pos ⟨e, by split <;> omega⟩]
    · rw [if_neg e, if_neg (fun g => e g.1)]
  have k2 : ∀ q : bq, tkN (r, v, 7, 7, 7) a q 4 = if v = r then adq q (r, 6, 7, 7, 7) a 0 else q := by
    intro q
    have n7 : ∀ {P : Prop}, ¬ (7 = r ∧ P) := fun g => by omega
    show (if 7 = r ∧ cr (r, v, 7, 7, 7) 4 < 2 then _ else if 7 = r ∧ cr (r, v, 7, 7, 7) 4 < 2 then _ else if 7 = r ∧ cr (r, v, 7, 7, 7) 4 < 2 then _ else (if v = r ∧ cr (r, v, 7, 7, 7) 4 < 2 then adq q (r, 6, 7, 7, 7) a 0 else q)) = _
    rw [if_neg n7, if_neg n7, if_neg n7, c2]
    by_cases e : v = r
    · rw [if_pos e, if_pos ⟨e, by split <;> omega⟩]
    · rw [if_neg e, if_neg (fun g => e g.1)]
  have l1 : ∀ q : bq, lyN (r, 7, v, 7, 7) a q 4 = if v = 6 then adq q (r, 7, r, 7, 7) a 11 else q := fun q => rfl
  have l2 : ∀ q : bq, lyN (r, v, 7, 7, 7) a q 4 = if v = 6 then adq q (r, r, 7, 7, 7) a 10 else q := fun q => rfl
  show SQ (drN b (tw w0 (sw12 0 x) (r, 7, v, 7, 7) 4) (r, 7, v, 7, 7) a (lyN (r, 7, v, 7, 7) a (tkN (r, 7, v, 7, 7) a q 4) 4) (bn b 1)) (drN b (tw w0 (sw12 x 0) (r, v, 7, 7, 7) 4) (r, v, 7, 7, 7) a (lyN (r, v, 7, 7, 7) a (tkN (r, v, 7, 7, 7) a q' 4) 4) (bn b 1))
  rw [w1, w2, k1, k2, l1, l2]
  refine SQ.dr (t := (r, 7, v, 7, 7)) ?_
  have hk : SQ (if v = r then adq q (r, 7, 6, 7, 7) a 1 else q) (if v = r then adq q' (r, 6, 7, 7, 7) a 0 else q') := by
    split
    · exact h.ad (t := (r, 7, 6, 7, 7))
    · exact h
  split
  · exact hk.ad (t := (r, 7, r, 7, 7))
  · exact hk
theorem one2_ok {R : Nat} (hR : R ≤ 6) {r v : Nat} {t : tp} (h : tV R (fun s => decide (tG (t12 r 0 v) s = 7)) t) : one2 t := by
  have h0 := (h.2 0 (by omega)).2.mpr (decide_eq_true (show tG (t12 r 0 v) 0 = 7 from rfl))
  have h2 := (h.2 2 (by omega)).2.mpr (decide_eq_true (show tG (t12 r 0 v) 2 = 7 from rfl))
  have h3 := (h.2 3 (by omega)).2.mpr (decide_eq_true (show tG (t12 r 0 v) 3 = 7 from rfl))
  exact ⟨Nat.lt_of_lt_of_le h.1 hR, h0, h2, h3⟩
theorem SQ_Lk {b : sh_be} (hI : IV b) {r x w0 : Nat} (hr : r < bn b 0) : ∀ {k : Nat}, SQ (Lk b w0 (sw12 0 x) (t12 r 0 x) k) (Lk b w0 (sw12 x 0) (t12 r x 0) k)
  | 0 => ⟨rfl, fun i _ => rfl⟩
  | k + 1 => by
    have ih := SQ_Lk hI hr (x := x) (w0 := w0) (k := k)
    rw [Lk, Lk, ih.1]
    split
    · rename_i g
      exact ih.sp g (one2_ok hI.1 ((Lk_ok hI (t12_tV hr hI.1)).2.1 k g))
    · exact ih
theorem SQ.gi {q q' : bq} (h : SQ q q') {g : Nat} : giN g q'.2.1 q'.1 = giN g q.2.1 q.1 := by
  rw [h.1]
  exact giN_cong (fun i hi => by rw [h.2 i hi]; first | done | rfl)
theorem cm_swap {b : sh_be} (hI : IV b) {k g x : Nat} (hk : k < bn b 2) : cmW b k g x 0 = cmW b k g 0 x := by
  have hr := (hI.2.2.2.2.2.1 k hk).2.2
  have h := SQ_Lk hI hr (x := x) (w0 := ba b 4 k) (k := 14406)
  unfold cmW fiN fiQ
  rw [h.gi]
