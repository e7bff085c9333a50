/-! a search: a state is the room and the places of four stones (6 carried, 7 absent) -/
abbrev tp : Type := Nat × Nat × Nat × Nat × Nat
def tG (t : tp) (s : Nat) : Nat := if s = 0 then t.2.1 else if s = 1 then t.2.2.1 else if s = 2 then t.2.2.2.1 else t.2.2.2.2
def tS (t : tp) (s v : Nat) : tp := (t.1, if s = 0 then v else t.2.1, if s = 1 then v else t.2.2.1, if s = 2 then v else t.2.2.2.1, if s = 3 then v else t.2.2.2.2)
theorem s4 {s : Nat} (h : s < 4) : s = 0 ∨ s = 1 ∨ s = 2 ∨ s = 3 := by omega
theorem tG_S {t : tp} {s v x : Nat} (hs : s < 4) (hx : x < 4) : tG (tS t s v) x = if x = s then v else tG t x := by
  rcases s4 hs with rfl | rfl | rfl | rfl <;> rcases s4 hx with rfl | rfl | rfl | rfl <;> rfl
def cX (t : tp) : Nat := t.2.1 + 8 * t.2.2.1 + 64 * t.2.2.2.1 + 512 * t.2.2.2.2 + 4096 * t.1
def dM (v : Nat) : Nat := if v = 7 then 0 else v
def cM (t : tp) : Nat := 6 * (dM t.2.1 + 7 * dM t.2.2.1 + 49 * dM t.2.2.2.1 + 343 * dM t.2.2.2.2) + t.1
def tV (R : Nat) (ab : Nat → Bool) (t : tp) : Prop := t.1 < R ∧ ∀ s, s < 4 → tG t s ≤ 7 ∧ (tG t s = 7 ↔ ab s = true)
theorem tV.at {R ab t} (h : tV R ab t) : t.1 < R ∧ t.2.1 ≤ 7 ∧ t.2.2.1 ≤ 7 ∧ t.2.2.2.1 ≤ 7 ∧ t.2.2.2.2 ≤ 7 := ⟨h.1, (h.2 0 (by omega)).1, (h.2 1 (by omega)).1, (h.2 2 (by omega)).1, (h.2 3 (by omega)).1⟩
theorem tp_ext {t u : tp} (h0 : t.1 = u.1) (h1 : t.2.1 = u.2.1) (h2 : t.2.2.1 = u.2.2.1) (h3 : t.2.2.2.1 = u.2.2.2.1) (h4 : t.2.2.2.2 = u.2.2.2.2) : t = u := Prod.ext h0 (Prod.ext h1 (Prod.ext h2 (Prod.ext h3 h4)))
theorem cX_inj {R ab t u} (h : tV R ab t) (h' : tV R ab u) (e : cX t = cX u) : t = u := by
  obtain ⟨-, a1, a2, a3, a4⟩ := h.at
  obtain ⟨-, b1, b2, b3, b4⟩ := h'.at
  unfold cX at e
  exact tp_ext (by omega) (by omega) (by omega) (by omega) (by omega)
theorem cX_lt {R ab t} (hR : R ≤ 6) (h : tV R ab t) : cX t < 24576 := by
  obtain ⟨a0, a1, a2, a3, a4⟩ := h.at
  unfold cX; omega
theorem dM_lt {v : Nat} (h : v ≤ 7) : dM v < 7 := by unfold dM; split <;> omega
theorem cM_lt {R ab t} (hR : R ≤ 6) (h : tV R ab t) : cM t < 14406 := by
  obtain ⟨a0, a1, a2, a3, a4⟩ := h.at
  have := dM_lt a1; have := dM_lt a2; have := dM_lt a3; have := dM_lt a4
  unfold cM; omega
theorem dM_inj {v u : Nat} {c : Bool} (h : v = 7 ↔ c = true) (h' : u = 7 ↔ c = true) (e : dM v = dM u) : v = u := by
  unfold dM at e
  by_cases g : c = true
  · rw [h.mpr g, h'.mpr g]
  · rw [if_neg (fun x => g (h.mp x)), if_neg (fun x => g (h'.mp x))] at e; exact e
theorem cM_inj {R ab t u} (hR : R ≤ 6) (h : tV R ab t) (h' : tV R ab u) (e : cM t = cM u) : t = u := by
  obtain ⟨a0, a1, a2, a3, a4⟩ := h.at
  obtain ⟨b0, b1, b2, b3, b4⟩ := h'.at
  have := dM_lt a1; have := dM_lt a2; have := dM_lt a3; have := dM_lt a4
  have := dM_lt b1; have := dM_lt b2; have := dM_lt b3; have := dM_lt b4
  unfold cM at e
  exact tp_ext (by omega) (dM_inj (h.2 0 (by omega)).2 (h'.2 0 (by omega)).2 (by omega)) (dM_inj (h.2 1 (by omega)).2 (h'.2 1 (by omega)).2 (by omega)) (dM_inj (h.2 2 (by omega)).2 (h'.2 2 (by omega)).2 (by omega)) (dM_inj (h.2 3 (by omega)).2 (h'.2 3 (by omega)).2 (by omega))
theorem tV.st {R ab t} (h : tV R ab t) {s v : Nat} (hs : s < 4) (h7 : tG t s ≠ 7) (hv : v ≤ 6) : tV R ab (tS t s v) := by
  refine ⟨h.1, fun x hx => ?_⟩
  rw [tG_S hs hx]
  split
  · rename_i e
    subst e
    exact ⟨by omega, fun e => by omega, fun e => absurd ((h.2 x hx).2.mpr e) h7⟩
  · exact h.2 x hx
theorem tV.ro {R ab} {t : tp} (h : tV R ab t) {r : Nat} (hr : r < R) : tV R ab (r, t.2) := ⟨hr, h.2⟩
def inB (X : Nat → tp) (t : tp) : Nat → Bool
  | 0 => false
  | n + 1 => inB X t n || decide (X n = t)
theorem inB_iff {X : Nat → tp} {t : tp} : ∀ {n : Nat}, inB X t n = true ↔ ∃ i, i < n ∧ X i = t
  | 0 => Iff.intro (fun h => Bool.noConfusion h) (fun ⟨i, h, _⟩ => absurd h (Nat.not_lt_zero i))
  | n + 1 => by
    rw [inB, Bool.or_eq_true, decide_eq_true_iff, inB_iff]
    constructor
    · rintro (⟨i, h, e⟩ | e)
      · exact ⟨i, by omega, e⟩
      · exact ⟨n, by omega, e⟩
    · rintro ⟨i, h, e⟩
      rcases Nat.lt_or_ge i n with c | c
      · exact Or.inl ⟨i, c, e⟩
      · exact Or.inr (by rw [← show i = n by omega]; exact e)
/-- what was met: how many; the states; from where; by which step -/
abbrev bq : Type := Nat × (Nat → tp) × (Nat → Nat) × (Nat → Nat)
def adq (q : bq) (t : tp) (f s : Nat) : bq := if inB q.2.1 t q.1 = true then q else (q.1 + 1, va_up q.2.1 q.1 t, va_up q.2.2.1 q.1 f, va_up q.2.2.2 q.1 s)
def cr (t : tp) : Nat → Nat
  | 0 => 0
  | s + 1 => cr t s + (if tG t s = 6 then 1 else 0)
def tw (w0 : Nat) (sw : Nat → Nat) (t : tp) : Nat → Nat
  | 0 => w0
  | s + 1 => tw w0 sw t s + (if tG t s = 6 then sw s else 0)
def tkN (t : tp) (a : Nat) (q : bq) : Nat → bq
  | 0 => q
  | s + 1 => if tG t s = t.1 ∧ cr t 4 < 2 then adq (tkN t a q s) (tS t s 6) a s else tkN t a q s
def lyN (t : tp) (a : Nat) (q : bq) : Nat → bq
  | 0 => q
  | s + 1 => if tG t s = 6 then adq (lyN t a q s) (tS t s t.1) a (10 + s) else lyN t a q s
def drS (o : Option Nat) (t : tp) (a d : Nat) (q : bq) : bq := match o with
  | none => q
  | some r => adq q (r, t.2) a (20 + d)
def drN (b : sh_be) (w : Nat) (t : tp) (a : Nat) (q : bq) : Nat → bq
  | 0 => q
  | d + 1 => drS (bBe b d t.1 w) t a d (drN b w t a q d)
def spq (b : sh_be) (w0 : Nat) (sw : Nat → Nat) (q : bq) (a : Nat) : bq := drN b (tw w0 sw (q.2.1 a) 4) (q.2.1 a) a (lyN (q.2.1 a) a (tkN (q.2.1 a) a q 4) 4) (bn b 1)
def Lk (b : sh_be) (w0 : Nat) (sw : Nat → Nat) (t0 : tp) : Nat → bq
  | 0 => (1, fun _ => t0, fun _ => 0, fun _ => 0)
  | k + 1 => if k < (Lk b w0 sw t0 k).1 then spq b w0 sw (Lk b w0 sw t0 k) k else Lk b w0 sw t0 k
def IQ (R : Nat) (ab : Nat → Bool) (q : bq) : Prop := 1 ≤ q.1 ∧ (∀ i, i < q.1 → tV R ab (q.2.1 i)) ∧ (∀ i j, i < j → j < q.1 → q.2.1 i ≠ q.2.1 j) ∧ (∀ i, 0 < i → i < q.1 → q.2.2.1 i < i) ∧ (∀ i, i < q.1 → q.2.2.2 i < 32) ∧ q.2.2.1 0 = 0 ∧ q.2.2.2 0 = 0
def PQ (q q' : bq) : Prop := q.1 ≤ q'.1 ∧ ∀ i, i < q.1 → q'.2.1 i = q.2.1 i ∧ q'.2.2.1 i = q.2.2.1 i ∧ q'.2.2.2 i = q.2.2.2 i
theorem PQ.rf {q : bq} : PQ q q := ⟨Nat.le_refl _, fun _ _ => ⟨rfl, rfl, rfl⟩⟩
theorem PQ.tr {q q1 q2 : bq} (h : PQ q q1) (h2 : PQ q1 q2) : PQ q q2 := ⟨Nat.le_trans h.1 h2.1, fun i hi => by
  obtain ⟨a1, a2, a3⟩ := h.2 i hi
  obtain ⟨b1, b2, b3⟩ := h2.2 i (Nat.lt_of_lt_of_le hi h.1)
  exact ⟨b1.trans a1, b2.trans a2, b3.trans a3⟩⟩
theorem fb_holes : ∀ (m n : Nat) (f : Nat → Nat), (∀ i, i < n → f i < m) → (∀ i j, i < j → j < n → f i ≠ f j) → n ≤ m := by
  intro m
  induction m with
  | zero =>
    intro n f h1 _
    rcases Nat.eq_zero_or_pos n with h | h
    · omega
    · exact absurd (h1 0 h) (Nat.not_lt_zero _)
  | succ m ih =>
    intro n f h1 h2
    by_cases hx : ∃ i, i < n ∧ f i = m
    · obtain ⟨a, ha, hfa⟩ := hx
      have hg := ih (n - 1) (fun i => if i < a then f i else f (i + 1)) (by
        intro i hi
        by_cases q : i < a
        · simp only [if_pos q]
          have b1 := h1 i (by omega)
          have b2 := h2 i a q ha
          omega
        · simp only [if_neg q]
          have b1 := h1 (i + 1) (by omega)
          have b2 := h2 a (i + 1) (by omega) (by omega)
          omega) (by
        intro i j hij hj
        by_cases q : i < a
        · by_cases r : j < a
          · simp only [if_pos q, if_pos r]; exact h2 i j hij (by omega)
          · simp only [if_pos q, if_neg r]; exact h2 i (j + 1) (by omega) (by omega)
        · by_cases r : j < a
          · omega
          · simp only [if_neg q, if_neg r]; exact h2 (i + 1) (j + 1) (by omega) (by omega))
      omega
    · have hne : ∀ i, i < n → f i ≠ m := fun i hi e => hx ⟨i, hi, e⟩
      have := ih n f (fun i hi => by have := h1 i hi; have := hne i hi; omega) h2
      omega
theorem IQ.len {R ab q} (hR : R ≤ 6) (h : IQ R ab q) : q.1 ≤ 14406 :=
  fb_holes 14406 q.1 (fun i => cM (q.2.1 i)) (fun i hi => cM_lt hR (h.2.1 i hi)) (fun i j hij hj e => h.2.2.1 i j hij hj (cM_inj hR (h.2.1 i (by omega)) (h.2.1 j hj) e))
theorem adq_y {q : bq} {t : tp} {f s : Nat} (h : inB q.2.1 t q.1 = true) : adq q t f s = q := if_pos h
theorem adq_n {q : bq} {t : tp} {f s : Nat} (h : ¬ inB q.2.1 t q.1 = true) : adq q t f s = (q.1 + 1, va_up q.2.1 q.1 t, va_up q.2.2.1 q.1 f, va_up q.2.2.2 q.1 s) := if_neg h
theorem PQ.ad {q : bq} {t : tp} {f s : Nat} : PQ q (adq q t f s) := by
  unfold adq
  split
  · exact PQ.rf
  · exact ⟨Nat.le_succ _, fun i hi => ⟨up_ne (by omega), up_ne (by omega), up_ne (by omega)⟩⟩
theorem IQ.ad {R ab q} (h : IQ R ab q) {t : tp} {f s : Nat} (ht : tV R ab t) (hf : f < q.1) (hs : s < 32) : IQ R ab (adq q t f s) := by
  unfold adq
  split
  · exact h
  rename_i hn
  have hn : ∀ i, i < q.1 → q.2.1 i ≠ t := fun i hi e => hn (inB_iff.mpr ⟨i, hi, e⟩)
  obtain ⟨h1, h2, h3, h4, h5, h6, h7⟩ := h
  refine ⟨by show 1 ≤ q.1 + 1; omega, fun i hi => ?_, fun i j hij hj => ?_, fun i h0 hi => ?_, fun i hi => ?_, ?_, ?_⟩
  · have hi : i < q.1 + 1 := hi
    show tV R ab (va_up q.2.1 q.1 t i)
    rcases Nat.lt_or_ge i q.1 with c | c
    · rw [up_ne (by omega)]; exact h2 i c
    · rw [show i = q.1 by omega, up_eq]; exact ht
  · have hj : j < q.1 + 1 := hj
    show va_up q.2.1 q.1 t i ≠ va_up q.2.1 q.1 t j
    rw [up_ne (show i ≠ q.1 by omega)]
    rcases Nat.lt_or_ge j q.1 with c | c
    · rw [up_ne (by omega)]; exact h3 i j hij c
    · rw [show j = q.1 by omega, up_eq]; exact hn i (by omega)
  · have hi : i < q.1 + 1 := hi
    show va_up q.2.2.1 q.1 f i < i
    rcases Nat.lt_or_ge i q.1 with c | c
    · rw [up_ne (by omega)]; exact h4 i h0 c
    · rw [show i = q.1 by omega, up_eq]; exact hf
  · have hi : i < q.1 + 1 := hi
    show va_up q.2.2.2 q.1 s i < 32
    rcases Nat.lt_or_ge i q.1 with c | c
    · rw [up_ne (by omega)]; exact h5 i c
    · rw [show i = q.1 by omega, up_eq]; exact hs
  · show va_up q.2.2.1 q.1 f 0 = 0
    rw [up_ne (by omega)]; exact h6
  · show va_up q.2.2.2 q.1 s 0 = 0
    rw [up_ne (by omega)]; exact h7
theorem IQ.tk {R ab q} (hR : R ≤ 6) (h : IQ R ab q) {t : tp} {a : Nat} (ht : tV R ab t) (ha : a < q.1) : ∀ {s : Nat}, s ≤ 4 → IQ R ab (tkN t a q s) ∧ PQ q (tkN t a q s)
  | 0, _ => ⟨h, PQ.rf⟩
  | s + 1, hs => by
    obtain ⟨h1, h2⟩ := IQ.tk hR h ht ha (s := s) (by omega)
    unfold tkN
    split
    · rename_i g
      exact ⟨h1.ad (ht.st (by omega) (by have := ht.1; omega) (by omega)) (Nat.lt_of_lt_of_le ha h2.1) (by omega), h2.tr PQ.ad⟩
    · exact ⟨h1, h2⟩
theorem IQ.ly {R ab q} (hR : R ≤ 6) (h : IQ R ab q) {t : tp} {a : Nat} (ht : tV R ab t) (ha : a < q.1) : ∀ {s : Nat}, s ≤ 4 → IQ R ab (lyN t a q s) ∧ PQ q (lyN t a q s)
  | 0, _ => ⟨h, PQ.rf⟩
  | s + 1, hs => by
    obtain ⟨h1, h2⟩ := IQ.ly hR h ht ha (s := s) (by omega)
    unfold lyN
    split
    · rename_i g
      exact ⟨h1.ad (ht.st (by omega) (by omega) (by have := ht.1; omega)) (Nat.lt_of_lt_of_le ha h2.1) (by omega), h2.tr PQ.ad⟩
    · exact ⟨h1, h2⟩
theorem IQ.dr {b : sh_be} (hI : IV b) {ab q} (h : IQ (bn b 0) ab q) {t : tp} {a w : Nat} (ht : tV (bn b 0) ab t) (ha : a < q.1) : ∀ {d : Nat}, d ≤ bn b 1 → IQ (bn b 0) ab (drN b w t a q d) ∧ PQ q (drN b w t a q d)
  | 0, _ => ⟨h, PQ.rf⟩
  | d + 1, hd => by
    obtain ⟨h1, h2⟩ := IQ.dr hI h ht ha (w := w) (d := d) (by omega)
    have h8 := hI.2.1
    rw [drN]
    rcases ho : bBe b d t.1 w with _ | r
    · exact ⟨h1, h2⟩
    · exact ⟨h1.ad (ht.ro (bBe_lt hI (by omega) ho)) (Nat.lt_of_lt_of_le ha h2.1) (by omega), h2.tr PQ.ad⟩
theorem IQ.sp {b : sh_be} (hI : IV b) {ab q} (h : IQ (bn b 0) ab q) {w0 a : Nat} {sw : Nat → Nat} (ha : a < q.1) : IQ (bn b 0) ab (spq b w0 sw q a) ∧ PQ q (spq b w0 sw q a) := by
  have ht := h.2.1 a ha
  obtain ⟨h1, h2⟩ := h.tk hI.1 ht ha (s := 4) (by omega)
  obtain ⟨h3, h4⟩ := h1.ly hI.1 ht (Nat.lt_of_lt_of_le ha h2.1) (s := 4) (by omega)
  obtain ⟨h5, h6⟩ := h3.dr hI ht (Nat.lt_of_lt_of_le ha (h2.tr h4).1) (w := tw w0 sw (q.2.1 a) 4) (d := bn b 1) (by omega)
  exact ⟨h5, (h2.tr h4).tr h6⟩
theorem Lk_ok {b : sh_be} (hI : IV b) {ab} {t0 : tp} (h0 : tV (bn b 0) ab t0) {w0 : Nat} {sw : Nat → Nat} : ∀ {k : Nat}, IQ (bn b 0) ab (Lk b w0 sw t0 k)
  | 0 => ⟨Nat.le_refl _, fun _ _ => h0, fun i j h1 h2 => by have h2 : j < 1 := h2; omega, fun i h1 h2 => by have h2 : i < 1 := h2; omega, fun _ _ => (by decide : 0 < 32), rfl, rfl⟩
  | k + 1 => by
    have := Lk_ok hI h0 (w0 := w0) (sw := sw) (k := k)
    unfold Lk
    split
    · rename_i g; exact (this.sp hI g).1
    · exact this
theorem Lk_s {b : sh_be} (hI : IV b) {ab} {t0 : tp} (h0 : tV (bn b 0) ab t0) {w0 : Nat} {sw : Nat → Nat} {k : Nat} : PQ (Lk b w0 sw t0 k) (Lk b w0 sw t0 (k + 1)) := by
  rw [Lk]
  split
  · rename_i g; exact ((Lk_ok hI h0).sp hI g).2
  · exact PQ.rf
theorem Lk_mono {b : sh_be} (hI : IV b) {ab} {t0 : tp} (h0 : tV (bn b 0) ab t0) {w0 : Nat} {sw : Nat → Nat} {k : Nat} : ∀ {j : Nat}, PQ (Lk b w0 sw t0 k) (Lk b w0 sw t0 (k + j))
  | 0 => PQ.rf
  | j + 1 => (Lk_mono hI h0 (j := j)).tr (Lk_s hI h0)
theorem Lk_stop {b : sh_be} {t0 : tp} {w0 : Nat} {sw : Nat → Nat} {k : Nat} (h : (Lk b w0 sw t0 k).1 ≤ k) : ∀ {j : Nat}, Lk b w0 sw t0 (k + j) = Lk b w0 sw t0 k
  | 0 => rfl
  | j + 1 => by
    show Lk b w0 sw t0 (k + j + 1) = _
    rw [Lk, Lk_stop h (j := j), if_neg (by omega)]
theorem Lk_y {b : sh_be} {t0 : tp} {w0 : Nat} {sw : Nat → Nat} {k : Nat} (h : k < (Lk b w0 sw t0 k).1) : Lk b w0 sw t0 (k + 1) = spq b w0 sw (Lk b w0 sw t0 k) k := by
  rw [Lk, if_pos h]
/-- the first in a room -/
def giN (g : Nat) (X : Nat → tp) : Nat → Option Nat
  | 0 => none
  | n + 1 => match giN g X n with
    | some i => some i
    | none => if (X n).1 = g then some n else none
theorem giN_s {g : Nat} {X : Nat → tp} {n i : Nat} (h : giN g X n = some i) : giN g X (n + 1) = some i := by rw [giN, h]
theorem giN_n {g : Nat} {X : Nat → tp} {n : Nat} (h : giN g X n = none) : giN g X (n + 1) = if (X n).1 = g then some n else none := by rw [giN, h]
theorem giN_cong {g : Nat} {X Y : Nat → tp} : ∀ {n : Nat}, (∀ i, i < n → (Y i).1 = (X i).1) → giN g Y n = giN g X n
  | 0, _ => rfl
  | n + 1, h => by rw [giN, giN, giN_cong (fun i hi => h i (by omega)), h n (by omega)]
theorem giN_mono {g : Nat} {X : Nat → tp} {n i : Nat} (h : giN g X n = some i) : ∀ {j : Nat}, giN g X (n + j) = some i
  | 0 => h
  | j + 1 => giN_s (giN_mono h (j := j))
theorem giN_none {g : Nat} {X : Nat → tp} : ∀ {n : Nat}, (∀ i, i < n → (X i).1 ≠ g) → giN g X n = none
  | 0, _ => rfl
  | n + 1, h => by rw [giN_n (giN_none (fun i hi => h i (by omega))), if_neg (h n (by omega))]
theorem giN_first {g : Nat} {X : Nat → tp} {k n : Nat} (h : ∀ i, i < k → (X i).1 ≠ g) (hk : (X k).1 = g) (hn : k < n) : giN g X n = some k := by
  have h1 : giN g X (k + 1) = some k := by rw [giN_n (giN_none h), if_pos hk]
  have := giN_mono h1 (j := n - (k + 1))
  rw [show k + 1 + (n - (k + 1)) = n by omega] at this
  exact this
theorem giN_some {g : Nat} {X : Nat → tp} : ∀ {n i : Nat}, giN g X n = some i → i < n ∧ (X i).1 = g
  | n + 1, i, h => by
    rcases ho : giN g X n with _ | j
    · rw [giN_n ho] at h
      split at h
      · rename_i e; cases h; exact ⟨Nat.lt_succ_self _, e⟩
      · cases h
    · rw [giN_s ho] at h
      cases h
      obtain ⟨h1, h2⟩ := giN_some ho
      exact ⟨by omega, h2⟩
theorem giN_no {g : Nat} {X : Nat → tp} {n : Nat} (h : giN g X n = none) : ∀ i, i < n → (X i).1 ≠ g := by
  induction n with
  | zero => intro i hi; omega
  | succ n ih =>
    rcases ho : giN g X n with _ | j
    · have h2 := h
      rw [giN_n ho] at h2
      intro i hi
      rcases Nat.lt_or_ge i n with c | c
      · exact ih ho i c
      · rw [show i = n by omega]
        intro e
        rw [if_pos e] at h2; cases h2
    · rw [giN_s ho] at h; cases h
def fiQ (b : sh_be) (w0 : Nat) (sw : Nat → Nat) (t0 : tp) : bq := Lk b w0 sw t0 14406
def fiN (b : sh_be) (w0 : Nat) (sw : Nat → Nat) (t0 : tp) (g : Nat) : Option Nat := giN g (fiQ b w0 sw t0).2.1 (fiQ b w0 sw t0).1
theorem fi_stop {b : sh_be} {t0 : tp} {w0 k : Nat} {sw : Nat → Nat} {g : Nat} (hk : k ≤ 14406) (h : (Lk b w0 sw t0 k).1 ≤ k ∨ k = 14406) : fiQ b w0 sw t0 = Lk b w0 sw t0 k := by
  unfold fiQ
  rcases h with h | rfl
  · have := Lk_stop h (j := 14406 - k)
    rw [show k + (14406 - k) = 14406 by omega] at this
    exact this
  · rfl
theorem fi_pre {b : sh_be} (hI : IV b) {ab} {t0 : tp} (h0 : tV (bn b 0) ab t0) {w0 k : Nat} {sw : Nat → Nat} (hk : k ≤ 14406) : PQ (Lk b w0 sw t0 k) (fiQ b w0 sw t0) := by
  have := Lk_mono hI h0 (w0 := w0) (sw := sw) (k := k) (j := 14406 - k)
  rw [show k + (14406 - k) = 14406 by omega] at this
  exact this
theorem fi_some {b : sh_be} (hI : IV b) {ab} {t0 : tp} (h0 : tV (bn b 0) ab t0) {w0 k g i : Nat} {sw : Nat → Nat} (hk : k ≤ 14406) (h : giN g (Lk b w0 sw t0 k).2.1 (Lk b w0 sw t0 k).1 = some i) : fiN b w0 sw t0 g = some i ∧ i < (Lk b w0 sw t0 k).1 := by
  have hp := fi_pre hI h0 (w0 := w0) (sw := sw) hk
  refine ⟨?_, (giN_some h).1⟩
  unfold fiN
  have h1 : giN g (fiQ b w0 sw t0).2.1 (Lk b w0 sw t0 k).1 = some i := (giN_cong (fun i hi => by rw [(hp.2 i hi).1])).trans h
  have := giN_mono h1 (j := (fiQ b w0 sw t0).1 - (Lk b w0 sw t0 k).1)
  rw [show (Lk b w0 sw t0 k).1 + ((fiQ b w0 sw t0).1 - (Lk b w0 sw t0 k).1) = (fiQ b w0 sw t0).1 by have := hp.1; omega] at this
  exact this
/-! the way back -/
def dpt (F : Nat → Nat) : Nat → Nat → Nat
  | 0, _ => 0
  | f + 1, i => if i = 0 then 0 else dpt F f (F i) + 1
def anc (F : Nat → Nat) (i : Nat) : Nat → Nat
  | 0 => i
  | k + 1 => F (anc F i k)
theorem dpt_irr {F : Nat → Nat} : ∀ {f g i : Nat}, (∀ x, 0 < x → x ≤ i → F x < x) → i ≤ f → i ≤ g → dpt F f i = dpt F g i
  | 0, 0, i, _, _, _ => rfl
  | 0, g + 1, i, _, h1, _ => by rw [dpt, dpt, if_pos (by omega)]
  | f + 1, 0, i, _, _, h2 => by rw [dpt, dpt, if_pos (by omega)]
  | f + 1, g + 1, i, h, h1, h2 => by
    rw [dpt, dpt]
    by_cases e : i = 0
    · rw [if_pos e, if_pos e]
    · have := h i (by omega) (Nat.le_refl _)
      rw [if_neg e, if_neg e, dpt_irr (f := f) (g := g) (i := F i) (fun x a b => h x a (by omega)) (by omega) (by omega)]
def dpN (F : Nat → Nat) (i : Nat) : Nat := dpt F i i
theorem dpN_0 {F : Nat → Nat} : dpN F 0 = 0 := rfl
theorem dpN_s {F : Nat → Nat} {i : Nat} (h : ∀ x, 0 < x → x ≤ i → F x < x) (hi : 0 < i) : dpN F i = dpN F (F i) + 1 := by
  have h1 := h i hi (Nat.le_refl _)
  unfold dpN
  obtain ⟨j, rfl⟩ : ∃ j, i = j + 1 := ⟨i - 1, by omega⟩
  rw [dpt, if_neg (by omega), dpt_irr (g := F (j + 1)) (fun x a c => h x a (by omega)) (by omega) (by omega)]
theorem dpt_le {F : Nat → Nat} : ∀ {f i : Nat}, dpt F f i ≤ f
  | 0, _ => Nat.le_refl _
  | f + 1, i => by
    rw [dpt]
    split
    · omega
    · have := dpt_le (F := F) (f := f) (i := F i); omega
theorem dpN_le {F : Nat → Nat} {i : Nat} : dpN F i ≤ i := dpt_le
theorem anc_s {F : Nat → Nat} {i : Nat} : ∀ {k : Nat}, anc F (F i) k = anc F i (k + 1)
  | 0 => rfl
  | k + 1 => by
    show F (anc F (F i) k) = F (anc F i (k + 1))
    rw [anc_s]
theorem anc_dp {F : Nat → Nat} {i : Nat} (h : ∀ x, 0 < x → x ≤ i → F x < x) : ∀ {k : Nat}, k ≤ dpN F i → dpN F (anc F i k) = dpN F i - k ∧ anc F i k ≤ i
  | 0, _ => ⟨rfl, Nat.le_refl _⟩
  | k + 1, hk => by
    obtain ⟨h1, h2⟩ := anc_dp h (k := k) (by omega)
    have hp : 0 < anc F i k := by
      rcases Nat.eq_zero_or_pos (anc F i k) with e | e
      · rw [e, dpN_0] at h1; omega
      · exact e
    have h3 := dpN_s (fun x a c => h x a (by omega)) hp
    have h4 := h _ hp h2
    exact ⟨by show dpN F (F (anc F i k)) = _; omega, by show F (anc F i k) ≤ i; omega⟩
