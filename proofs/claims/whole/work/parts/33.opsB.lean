def oob (x : Int32) (n : Nat) : Prop := ¬ (¬ x < 0 ∧ ¬ nI n ≤ x)
def oOfDoor (b : sh_be) (d what : Int32) : Int32 :=
  if ¬ (¬ d < 0 ∧ ¬ nI (bn b 1) ≤ d) then -1 else if what < 0 ∨ 7 < what then -2
  else tlD (ba b 0 d.toNatClampNeg) (ba b 1 d.toNatClampNeg) (ba b 2 d.toNatClampNeg) (ba b 3 d.toNatClampNeg) what.toNatClampNeg
def oPerson (b : sh_be) (w r : Int32) : Int32 × sh_be :=
  if ¬ (¬ r < 0 ∧ ¬ nI (bn b 0) ≤ r) then (-1, b) else if ¬ (¬ w < 10 ∧ ¬ 99 < w) then (-2, b) else if 4 ≤ bn b 2 then (-4, b)
  else (nI (bn b 2), uN_ (uA_ (uA_ b 4 (bn b 2) w.toNatClampNeg) 5 (bn b 2) r.toNatClampNeg) 2 (bn b 2 + 1))
def oStone (b : sh_be) (w r : Int32) : Int32 × sh_be :=
  if ¬ (¬ r < 0 ∧ ¬ nI (bn b 0) ≤ r) then (-1, b) else if ¬ (¬ w < 1 ∧ ¬ 20 < w) then (-2, b) else if 4 ≤ bn b 3 then (-4, b)
  else (nI (bn b 3), uN_ (uA_ (uA_ b 6 (bn b 3) w.toNatClampNeg) 7 (bn b 3) r.toNatClampNeg) 3 (bn b 3 + 1))
def oOfPerson (b : sh_be) (p what : Int32) : Int32 :=
  if ¬ (¬ p < 0 ∧ ¬ nI (bn b 2) ≤ p) then -1 else if what = 0 then nI (ba b 4 p.toNatClampNeg) else if what = 1 then nI (ba b 5 p.toNatClampNeg)
  else if what = 2 then nI (cbN (ba b 7) (20 + p.toNatClampNeg) (bn b 3)) else if what = 3 then nI (wN b p.toNatClampNeg) else -2
def oOfStone (b : sh_be) (s what : Int32) : Int32 :=
  if ¬ (¬ s < 0 ∧ ¬ nI (bn b 3) ≤ s) then -1 else if what = 0 then nI (ba b 6 s.toNatClampNeg) else if what = 1 then plx (ba b 7 s.toNatClampNeg) else -2
def oTake (b : sh_be) (p s : Int32) : Int32 × sh_be :=
  if ¬ (¬ p < 0 ∧ ¬ nI (bn b 2) ≤ p) ∨ ¬ (¬ s < 0 ∧ ¬ nI (bn b 3) ≤ s) then (-1, b) else
  if ba b 7 s.toNatClampNeg ≠ ba b 5 p.toNatClampNeg then (-3, b) else
  if 2 ≤ cnN (ba b 7) (20 + p.toNatClampNeg) (bn b 3) then (-4, b) else
  (nI (cnN (ba (uA_ b 7 s.toNatClampNeg (20 + p.toNatClampNeg)) 7) (20 + p.toNatClampNeg) (bn b 3)), uA_ b 7 s.toNatClampNeg (20 + p.toNatClampNeg))
def oLay (b : sh_be) (p s : Int32) : Int32 × sh_be :=
  if ¬ (¬ p < 0 ∧ ¬ nI (bn b 2) ≤ p) ∨ ¬ (¬ s < 0 ∧ ¬ nI (bn b 3) ≤ s) then (-1, b) else
  if ba b 7 s.toNatClampNeg ≠ 20 + p.toNatClampNeg then (-3, b) else
  (nI (cnN (ba (uA_ b 7 s.toNatClampNeg (ba b 5 p.toNatClampNeg)) 7) (20 + p.toNatClampNeg) (bn b 3)), uA_ b 7 s.toNatClampNeg (ba b 5 p.toNatClampNeg))
abbrev bBe (b : sh_be) (d r x : Nat) : Option Nat := dBe (ba b 0 d) (ba b 1 d) (ba b 2 d) (ba b 3 d) r x
def oOpens (b : sh_be) (pa d : Int32) : Int32 :=
  if ¬ (¬ pa = 0 ∧ usr pa (nI (bn b 2)) = 0) then -2 else if ¬ (¬ d < 0 ∧ ¬ nI (bn b 1) ≤ d) then -1 else
  match roomN b pa.toNatClampNeg with
  | none => -3
  | some r => if r ≠ ba b 1 d.toNatClampNeg ∧ r ≠ ba b 2 d.toNatClampNeg then -3 else
    match bBe b d.toNatClampNeg r (wpN b pa.toNatClampNeg (bn b 2)) with
    | none => 0
    | some _ => 1
def oPass (b : sh_be) (pa d : Int32) : Int32 × sh_be :=
  if oOpens b pa d < 0 then (oOpens b pa d, b) else
  match roomN b pa.toNatClampNeg with
  | none => (-3, b)
  | some r => match bBe b d.toNatClampNeg r (wpN b pa.toNatClampNeg (bn b 2)) with
    | none => (-3, b)
    | some t => (nI t, (b.1, va_up b.2.1 5 (mvN (ba b 5) pa.toNatClampNeg t (bn b 2)), b.2.2))
def oWeigh (b : sh_be) (p w : Int32) : Int32 × sh_be :=
  if ¬ (¬ p < 0 ∧ ¬ nI (bn b 2) ≤ p) then (-1, b) else if ¬ (¬ w < 10 ∧ ¬ 99 < w) then (-2, b) else (nI (ba b 4 p.toNatClampNeg), uA_ b 4 p.toNatClampNeg w.toNatClampNeg)
def oTell (b : sh_be) (d : Int32) : Int32 × sh_be :=
  if ¬ (¬ d < 0 ∧ ¬ nI (bn b 1) ≤ d) then (-1, b) else
  if ba b 0 d.toNatClampNeg = 0 then (nI (ba b 3 d.toNatClampNeg), uT_ b (31 * bT b + 1)) else
  if ba b 0 d.toNatClampNeg = 1 then (nI (ba b 3 d.toNatClampNeg) + 100, uT_ b (31 * (31 * bT b + 2) + 1)) else
  (nI (ba b 3 d.toNatClampNeg) + 100 + nI (ba b 3 d.toNatClampNeg), uT_ b (31 * (31 * (31 * (31 * bT b + 3) + 2) + 1) + 1))
def oRing (b : sh_be) (d : Int32) : Int32 × sh_be :=
  if ¬ (¬ d < 0 ∧ ¬ nI (bn b 1) ≤ d) then (-1, b) else
  if ba b 0 d.toNatClampNeg = 2 then (80, uT_ b (31 * bT b + 5)) else (d, uT_ b (31 * bT b + 4))
def oAs (b : sh_be) (d k : Int32) : Int32 × sh_be :=
  if ¬ (¬ d < 0 ∧ ¬ nI (bn b 1) ≤ d) then (-1, uF_ b 0) else if ¬ (¬ k < 0 ∧ ¬ 2 < k) then (-2, uF_ b 0) else
  if k ≤ nI (ba b 0 d.toNatClampNeg) then (1, uF_ b 0) else (-12, uF_ b 2)
def oMany (b : sh_be) (what : Int32) : Int32 := if what = 0 then nI (bn b 0) else if what = 1 then nI (bn b 1) else if what = 2 then nI (bn b 2) else if what = 3 then nI (bn b 3) else -2
theorem RX.dr {S A Lg P T b} (h : RX S A Lg P T b) (hI : IV b) {d : Nat} (hd : d < bn b 1) : ∃ j, P d = some (j + 47) ∧ T[j]? = some (dC (ba b 0 d) (ba b 1 d) (ba b 2 d) (ba b 3 d)) ∧ ba b 0 d ≤ 2 ∧ ba b 1 d < bn b 0 ∧ ba b 2 d < bn b 0 ∧ ba b 1 d ≠ ba b 2 d ∧ 1 ≤ ba b 3 d ∧ ba b 3 d ≤ 99 := by
  obtain ⟨j, h1, h2⟩ := h.2.2.2.2.2.2.2.1 d hd
  exact ⟨j, h1, h2, hI.2.2.2.2.1 d hd⟩
theorem RX.per {S A Lg P T b} (h : RX S A Lg P T b) (w r : Nat) : RX (va_up S 3 (nI (bn b 2 + 1))) (va_up (va_up A 0 (upd (A 0) (bn b 2) (nI w))) 1 (upd (A 1) (bn b 2) (nI r))) Lg P T (uN_ (uA_ (uA_ b 4 (bn b 2) w) 5 (bn b 2) r) 2 (bn b 2 + 1)) := by
  obtain ⟨h0, h1, h2, h3, h4, h5, h6, h7, h8, h9, h10⟩ := h
  refine ⟨h0, h1, h2, rfl, h4, h5, fun k hk => ?_, h7, fun k hk => ?_, h9, h10⟩
  · have := h6 k hk
    unfold shX at this ⊢
    rw [up_ne (f := S) (show 11 + k ≠ 3 by omega), up_ne (f := S) (show 15 + k ≠ 3 by omega), up_ne (show 7 + k ≠ 1 by omega), up_ne (show 7 + k ≠ 0 by omega)]
    exact this
  · have hk : k < bn b 2 + 1 := hk
    by_cases e : k = bn b 2
    · subst e
      exact ⟨(if_pos rfl).trans (congrArg nI (show w = va_up (b.2.1 4) (bn b 2) w (bn b 2) from (if_pos rfl).symm)), (if_pos rfl).trans (congrArg nI (show r = va_up (b.2.1 5) (bn b 2) r (bn b 2) from (if_pos rfl).symm))⟩
    · have g := h8 k (by omega)
      exact ⟨(if_neg e).trans (g.1.trans (congrArg nI (show b.2.1 4 k = va_up (b.2.1 4) (bn b 2) w k from (if_neg e).symm))), (if_neg e).trans (g.2.trans (congrArg nI (show b.2.1 5 k = va_up (b.2.1 5) (bn b 2) r k from (if_neg e).symm)))⟩
theorem RX.sto {S A Lg P T b} (h : RX S A Lg P T b) (w : Nat) {r : Nat} (hr : r < 20) : RX (va_up S 4 (nI (bn b 3 + 1))) (va_up (va_up A 2 (upd (A 2) (bn b 3) (nI w))) 3 (upd (A 3) (bn b 3) (nI r))) Lg P T (uN_ (uA_ (uA_ b 6 (bn b 3) w) 7 (bn b 3) r) 3 (bn b 3 + 1)) := by
  obtain ⟨h0, h1, h2, h3, h4, h5, h6, h7, h8, h9, h10⟩ := h
  refine ⟨h0, h1, h2, h3, rfl, h5, fun k hk => ?_, h7, h8, fun k hk => ?_, h10⟩
  · have := h6 k hk
    unfold shX at this ⊢
    rw [up_ne (f := S) (show 11 + k ≠ 4 by omega), up_ne (f := S) (show 15 + k ≠ 4 by omega), up_ne (show 7 + k ≠ 3 by omega), up_ne (show 7 + k ≠ 2 by omega)]
    exact this
  · have hk : k < bn b 3 + 1 := hk
    by_cases e : k = bn b 3
    · subst e
      exact ⟨(if_pos rfl).trans (congrArg nI (show w = va_up (b.2.1 6) (bn b 3) w (bn b 3) from (if_pos rfl).symm)), (if_pos rfl).trans ((plx_l hr).symm.trans (congrArg plx (show r = va_up (b.2.1 7) (bn b 3) r (bn b 3) from (if_pos rfl).symm)))⟩
    · have g := h9 k (by omega)
      exact ⟨(if_neg e).trans (g.1.trans (congrArg nI (show b.2.1 6 k = va_up (b.2.1 6) (bn b 3) w k from (if_neg e).symm))), (if_neg e).trans (g.2.trans (congrArg plx (show b.2.1 7 k = va_up (b.2.1 7) (bn b 3) r k from (if_neg e).symm)))⟩
theorem RX.pl {S A Lg P T b} (h : RX S A Lg P T b) (s v : Nat) : RX S (va_up A 3 (upd (A 3) s (plx v))) Lg P T (uA_ b 7 s v) := by
  obtain ⟨h0, h1, h2, h3, h4, h5, h6, h7, h8, h9, h10⟩ := h
  refine ⟨h0, h1, h2, h3, h4, h5, fun k hk => ?_, h7, h8, fun k hk => ?_, h10⟩
  · have := h6 k hk
    unfold shX at this ⊢
    rw [up_ne (show 7 + k ≠ 3 by omega)]
    exact this
  · have g := h9 k hk
    refine ⟨g.1, ?_⟩
    by_cases e : k = s
    · subst e
      exact (if_pos rfl).trans (congrArg plx (show v = va_up (b.2.1 7) k v k from (if_pos rfl).symm))
    · exact (if_neg e).trans (g.2.trans (congrArg plx (show b.2.1 7 k = va_up (b.2.1 7) s v k from (if_neg e).symm)))
theorem RX.we {S A Lg P T b} (h : RX S A Lg P T b) (s v : Nat) : RX S (va_up A 0 (upd (A 0) s (nI v))) Lg P T (uA_ b 4 s v) := by
  obtain ⟨h0, h1, h2, h3, h4, h5, h6, h7, h8, h9, h10⟩ := h
  refine ⟨h0, h1, h2, h3, h4, h5, fun k hk => ?_, h7, fun k hk => ?_, h9, h10⟩
  · have := h6 k hk
    unfold shX at this ⊢
    rw [up_ne (show 7 + k ≠ 0 by omega)]
    exact this
  · have g := h8 k hk
    refine ⟨?_, g.2⟩
    by_cases e : k = s
    · subst e
      exact (if_pos rfl).trans (congrArg nI (show v = va_up (b.2.1 4) k v k from (if_pos rfl).symm))
    · exact (if_neg e).trans (g.1.trans (congrArg nI (show b.2.1 4 k = va_up (b.2.1 4) s v k from (if_neg e).symm)))
theorem RX.ro {S A Lg P T b} (h : RX S A Lg P T b) {f : Nat → Int32} {m : Nat → Nat} (hf : ∀ i, i < bn b 2 → f i = nI (m i)) : RX S (va_up A 1 f) Lg P T (b.1, va_up b.2.1 5 m, b.2.2) := by
  obtain ⟨h0, h1, h2, h3, h4, h5, h6, h7, h8, h9, h10⟩ := h
  refine ⟨h0, h1, h2, h3, h4, h5, fun k hk => ?_, h7, fun k hk => ⟨(h8 k hk).1, hf k hk⟩, h9, h10⟩
  have := h6 k hk
  unfold shX at this ⊢
  rw [up_ne (show 7 + k ≠ 1 by omega)]
  exact this
theorem usr_ok {pa : Int32} {n : Nat} (hn : n ≤ 4) (h : usr pa (nI n) = 0) : ∃ pt, pt < 2 ^ n ∧ pa = nI pt := by
  have e : ∀ n, n ≤ 4 → (((nI n).toUInt32 &&& Int32.toUInt32 31).toBitVec % 32).toNat = n := by decide +kernel
  have h2 := pk_ushr pa (nI n) n (e n hn)
  have h3 : (usr pa (nI n)).toBitVec.toNat = 0 := by rw [h]; rfl
  rw [show (usr pa (nI n)).toBitVec.toNat = pa.toBitVec.toNat / 2 ^ n from h2] at h3
  have hp : 0 < 2 ^ n := Nat.two_pow_pos n
  have hlt : pa.toBitVec.toNat < 2 ^ n := by
    rcases Nat.lt_or_ge pa.toBitVec.toNat (2 ^ n) with q | q
    · exact q
    · have := Nat.div_pos q hp; omega
  have h16 : 2 ^ n ≤ 16 := by
    have := Nat.pow_le_pow_right (n := 2) (by omega) hn
    omega
  refine ⟨pa.toBitVec.toNat, hlt, ?_⟩
  rw [← Int32.toBitVec_inj]
  apply BitVec.eq_of_toNat_eq
  rw [pk_tn (by omega)]
theorem usr_of {pt n : Nat} (hn : n ≤ 4) (h : pt < 2 ^ n) : usr (nI pt) (nI n) = 0 := by
  have e : ∀ n, n ≤ 4 → (((nI n).toUInt32 &&& Int32.toUInt32 31).toBitVec % 32).toNat = n := by decide +kernel
  have h16 : 2 ^ n ≤ 16 := by
    have := Nat.pow_le_pow_right (n := 2) (by omega) hn
    omega
  have := pk_ushrN (n := pt) (by omega) (nI n) n (e n hn)
  unfold usr
  rw [this, Nat.div_eq_of_lt h]
  rfl
theorem rpN_some {b : sh_be} (hI : IV b) {pt : Nat} : ∀ {k r : Nat}, rpN (ba b 5) pt k = some (some r) → k ≤ bn b 2 → r < bn b 0
  | 0, r, h, _ => by cases h
  | k + 1, r, h, hk => by
    have hp := (hI.2.2.2.2.2.1 k (by omega)).2.2
    unfold rpN at h
    split at h
    · cases h
    rename_i o ho
    split at h
    · split at h
      · cases h; exact hp
      · split at h
        · cases h; exact hp
        · cases h
    · cases h; exact rpN_some hI ho (by omega)
theorem roomN_lt {b : sh_be} (hI : IV b) {pt r : Nat} (h : roomN b pt = some r) : r < bn b 0 := by
  unfold roomN at h
  rcases ho : rpN (ba b 5) pt (bn b 2) with _ | o
  · rw [ho] at h; cases h
  · rw [ho] at h
    have h : o = some r := h
    subst h
    exact rpN_some hI ho (Nat.le_refl _)
theorem wpN_le {b : sh_be} (hI : IV b) (pt : Nat) : ∀ k, k ≤ bn b 2 → wpN b pt k ≤ 179 * k
  | 0, _ => by unfold wpN; omega
  | k + 1, h => by
    have := wpN_le hI pt k (by omega)
    have h2 := (wN_le hI (k := k) (by omega)).2
    unfold wpN
    split <;> omega
theorem oI_m1 {o : Option Nat} (h : ∀ r, o = some r → r < 2 ^ 31) : oI o = -1 ↔ o = none := by
  cases o with
  | none => exact ⟨fun _ => rfl, fun _ => rfl⟩
  | some r => exact ⟨fun e => absurd e (nI_m1 (h r rfl)), fun e => by cases e⟩
theorem dBe_lt {k f s wt r x m t : Nat} (hf : f < m) (hs : s < m) (h : dBe k f s wt r x = some t) : t < m := by
  unfold dBe at h
  split at h
  · split at h
    · cases h; exact hs
    · cases h
  · split at h
    · split at h
      · cases h; exact hf
      · cases h
    · cases h
section SHB2
variable {G : sh_G} {M N : sh_M} {kc ks pc : Nat} {w w1 : List sh_C} {lv : List (Option Value)} {st : List Value} {Q : Option Value → List sh_C → Prop}
/-- a call of a method that Sill has and no kind of it overrides, on a door of any kind -/
theorem f_callBi {As rest : List Value} {a idx n k f s wt : Nat} {r : Int32} (hN : sh_ok N n) (hrr : sh_rr M N) (d : decode M.2.2.1 pc = .ok (.invokevirtual idx, 3)) (hcl : N.2.1.cls = RX4) (hl1 : Cond.methodLink M.1 idx N.2.1 ∈ lw_tbl) (hl2 : Cond.instanceMethod N.2.1 ∈ lw_tbl) (hl3 : Cond.selects N.2.1.cls N.2.1 N.2.1 ∈ lw_tbl) (hl7 : Cond.selects RX7 N.2.1 N.2.1 ∈ lw_tbl) (hl8 : Cond.selects RX8 N.2.1 N.2.1 ∈ lw_tbl) (hl4 : Cond.sameMethod N.2.1.cls N.2.1.cls N.2.1.name N.2.1.desc ∈ lw_tbl) (hn : As.length = n) (hst : st = As.reverse ++ .ref a :: rest) (ha : w[a]? = some (dC k f s wt)) (hk : k ≤ 2) (hcat : (rest.map fun v => v.category).sum ≤ 8) (har : (sh_ar (.ref a :: As)).length ≤ N.2.2.2.1) (hE : Ev G N 0 0 w 0 (sh_en N.2.2.2.1 (.ref a :: As)) [] (sh_is (some (.int r)) w1)) (kk : Ev G M kc ks w1 (pc + 3) lv (.int r :: rest) Q) : Ev G M kc ks w pc lv st Q := by
  rcases (by omega : k = 0 ∨ k = 1 ∨ k = 2) with rfl | rfl | rfl
  · exact f_callVi (ci := 4) (T := TX4) (K := 7) hN hrr d hl1 hl2 hl3 hn hst ha (by rw [hcl]; rfl) hcat har (Nat.zero_add _) (Nat.zero_add _) hE kk
  · exact f_callUi (ci := 7) (T := TX7) (K := 7) (x := N.2.1) (C := RX7) hN hrr d rfl hl1 hl2 hl7 hl4 hn hst ha rfl hcat har (Nat.zero_add _) (Nat.zero_add _) hE kk
  · exact f_callUi (ci := 8) (T := TX8) (K := 7) (x := N.2.1) (C := RX8) hN hrr d rfl hl1 hl2 hl8 hl4 hn hst ha rfl hcat har (Nat.zero_add _) (Nat.zero_add _) hE kk
/-- a door's field, of any kind -/
theorem e_dfield {idx a k f s wt : Nat} {v : Value} (i : Nat) (d : decode M.2.2.1 pc = .ok (.getfield idx, 3)) (h4 : sh_fl M.1 idx 4 i) (h7 : sh_fl M.1 idx 7 i) (h8 : sh_fl M.1 idx 8 i) (ha : w[a]? = some (dC k f s wt)) (hk : k ≤ 2) (hv : ([.int (nI f), .int (nI s), .int (nI wt), .int (nI (dAsk k wt 0 - dSl k)), .int (nI (dAsk k wt 0 + dSl k)), .int (nI (dAsk k wt 1 - dSl k)), .int (nI (dAsk k wt 1 + dSl k))] : List Value)[i]? = some v) (kk : Ev G M kc ks w (pc + 3) lv (v :: st) Q) : Ev G M kc ks w pc lv (.ref a :: st) Q := by
  rcases (by omega : k = 0 ∨ k = 1 ∨ k = 2) with rfl | rfl | rfl
  · exact e_getfield (ci := 4) i d h4 ha hv kk
  · exact e_getfield (ci := 7) i d h7 ha hv kk
  · exact e_getfield (ci := 8) i d h8 ha hv kk
end SHB2
theorem cnN_up (pl : Nat → Nat) (s v x : Nat) : ∀ n, cnN (va_up pl s v) x n + (if s < n ∧ pl s = x then 1 else 0) = cnN pl x n + (if s < n ∧ v = x then 1 else 0)
  | 0 => by rw [if_neg (by omega), if_neg (by omega)]; rfl
  | n + 1 => by
    have ih := cnN_up pl s v x n
    unfold cnN
    by_cases e : n = s
    · subst e
      rw [up_eq]
      rw [if_neg (by omega), if_neg (by omega)] at ih
      have a1 : (n < n + 1 ∧ pl n = x) ↔ pl n = x := ⟨And.right, fun h => ⟨by omega, h⟩⟩
      have a2 : (n < n + 1 ∧ v = x) ↔ v = x := ⟨And.right, fun h => ⟨by omega, h⟩⟩
      simp only [a1, a2]
      split <;> split <;> omega
    · rw [up_ne e]
      have e1 : (s < n + 1 ∧ pl s = x) ↔ (s < n ∧ pl s = x) := by omega
      have e2 : (s < n + 1 ∧ v = x) ↔ (s < n ∧ v = x) := by omega
      simp only [e1, e2]
      omega
theorem IV.place {b : sh_be} (h : IV b) {s v : Nat} (hs : s < bn b 3) (hv : v < bn b 0 ∨ (20 ≤ v ∧ v < 20 + bn b 2 ∧ cnN (ba b 7) v (bn b 3) < 2)) : IV (uA_ b 7 s v) := by
  obtain ⟨h1, h2, h3, h4, h5, h6, h7, h8, h9⟩ := h
  refine ⟨h1, h2, h3, h4, h5, h6, fun k hk => ?_, fun k => ?_, h9⟩
  · have g := h7 k hk
    refine ⟨g.1, g.2.1, ?_⟩
    show va_up (b.2.1 7) s v k < bn b 0 ∨ (20 ≤ va_up (b.2.1 7) s v k ∧ va_up (b.2.1 7) s v k < 20 + bn b 2)
    by_cases e : k = s
    · subst e
      rw [up_eq]
      rcases hv with hv | hv
      · exact Or.inl hv
      · exact Or.inr ⟨hv.1, hv.2.1⟩
    · rw [up_ne e]; exact g.2.2
  · have := cnN_up (b.2.1 7) s v (20 + k) (bn b 3)
    have g := h8 k
    show cnN (va_up (b.2.1 7) s v) (20 + k) (bn b 3) ≤ 2
    rcases hv with hv | hv
    · have hz : ¬ (s < bn b 3 ∧ v = 20 + k) := by omega
      rw [if_neg hz] at this
      have g : cnN (b.2.1 7) (20 + k) (bn b 3) ≤ 2 := g
      omega
    · by_cases e : v = 20 + k
      · have q := hv.2.2
        rw [e] at q
        have q : cnN (b.2.1 7) (20 + k) (bn b 3) < 2 := q
        split at this <;> split at this <;> omega
      · have hz : ¬ (s < bn b 3 ∧ v = 20 + k) := by omega
        rw [if_neg hz] at this
        have g : cnN (b.2.1 7) (20 + k) (bn b 3) ≤ 2 := g
        omega
theorem i_t1 {w : Int32} (h : w < 0) : w < 10 := by
  rw [fa_lt] at h ⊢
  have e1 : (0 : Int32).toInt = 0 := by decide
  have e2 : (10 : Int32).toInt = 10 := by decide
  omega
theorem i_t2 {w : Int32} (h : nI 100 ≤ w) : 99 < w := by
  rw [fa_le] at h; rw [fa_lt]
  have e1 : (nI 100).toInt = 100 := by decide
  have e2 : (99 : Int32).toInt = 99 := by decide
  omega
theorem i_t3 {w : Int32} (h : w < 0) : w < 1 := by
  rw [fa_lt] at h ⊢
  have e1 : (0 : Int32).toInt = 0 := by decide
  have e2 : (1 : Int32).toInt = 1 := by decide
  omega
theorem i_t4 {w : Int32} (h : nI 21 ≤ w) : 20 < w := by
  rw [fa_le] at h; rw [fa_lt]
  have e1 : (nI 21).toInt = 21 := by decide
  have e2 : (20 : Int32).toInt = 20 := by decide
  omega
theorem i_t5 {w : Int32} (h : nI 8 ≤ w) : ¬ w ≤ 7 := by
  rw [fa_le] at h; rw [fa_le]
  have e1 : (nI 8).toInt = 8 := by decide
  have e2 : (7 : Int32).toInt = 7 := by decide
  omega
theorem i_01 {w : Int32} (h1 : ¬ w < 0) (h2 : w ≤ 1) (h3 : ¬ w = 0) : w = 1 := by
  rw [fa_lt] at h1; rw [fa_le] at h2; rw [fa_eq] at h3 ⊢
  have e1 : (0 : Int32).toInt = 0 := by decide
  have e2 : (1 : Int32).toInt = 1 := by decide
  omega
theorem sw4 {x : Int32} (c0 : ¬ x = 0) (c1 : ¬ x = 1) (c2 : ¬ x = 2) (c3 : ¬ x = 3) : x.toInt < 0 ∨ 3 < x.toInt := by
  rw [fa_eq] at c0 c1 c2 c3
  have e0 : (0 : Int32).toInt = 0 := by decide
  have e1 : (1 : Int32).toInt = 1 := by decide
  have e2 : (2 : Int32).toInt = 2 := by decide
  have e3 : (3 : Int32).toInt = 3 := by decide
  omega
theorem oPass_0 {b : sh_be} {pa d : Int32} (h : oOpens b pa d = 0) : oPass b pa d = (-3, b) := by
  have h0 := h
  unfold oPass
  rw [if_neg (by rw [h]; decide)]
  unfold oOpens at h
  split at h
  · exact absurd (show (-2 : Int32) = 0 from h) (by decide)
  split at h
  · exact absurd (show (-1 : Int32) = 0 from h) (by decide)
  rcases hr : roomN b pa.toNatClampNeg with _ | r
  · rfl
  · rw [hr] at h
    simp only [] at h ⊢
    split at h
    · exact absurd (show (-3 : Int32) = 0 from h) (by decide)
    rcases hb : bBe b d.toNatClampNeg r (wpN b pa.toNatClampNeg (bn b 2)) with _ | t
    · rfl
    · rw [hb] at h; exact absurd (show (1 : Int32) = 0 from h) (by decide)
theorem oPass_ok {b : sh_be} (hI : IV b) {pa d : Int32} (h1 : 0 ≤ oOpens b pa d) (h2 : oOpens b pa d ≠ 0) : ∃ pt q r t, pt < 16 ∧ pa = nI pt ∧ q < bn b 1 ∧ d = nI q ∧ roomN b pt = some r ∧ bBe b q r (wpN b pt (bn b 2)) = some t ∧ oPass b pa d = (nI t, (b.1, va_up b.2.1 5 (mvN (ba b 5) pt t (bn b 2)), b.2.2)) := by
  have hop : ¬ oOpens b pa d < 0 := Int32.not_lt.mpr h1
  unfold oPass
  rw [if_neg hop]
  unfold oOpens at h1 h2
  split at h1
  · exact absurd (show (0 : Int32) ≤ -2 from h1) (by decide)
  rename_i c1
  rw [if_neg c1] at h2
  split at h1
  · exact absurd (show (0 : Int32) ≤ -1 from h1) (by decide)
  rename_i c2
  rw [if_neg c2] at h2
  have i2 := hI.2.1
  have i3 := hI.2.2.1
  obtain ⟨pt, hpt, rfl⟩ := usr_ok i3 (Classical.not_not.mp c1).2
  obtain ⟨q, hq, rfl⟩ := ix_of (x := d) rfl (by omega) (Classical.not_not.mp c2)
  have h16 : 2 ^ bn b 2 ≤ 16 := Nat.pow_le_pow_right (n := 2) (by omega) i3
  rw [nI_clamp (n := pt) (by omega), nI_clamp (n := q) (by omega)] at h1 h2 ⊢
  rcases hr : roomN b pt with _ | r
  · rw [hr] at h1; exact absurd (show (0 : Int32) ≤ -3 from h1) (by decide)
  · rw [hr] at h1 h2
    simp only [] at h1 h2 ⊢
    split at h1
    · exact absurd (show (0 : Int32) ≤ -3 from h1) (by decide)
    rename_i c3
    rw [if_neg c3] at h2
    rcases hb : bBe b q r (wpN b pt (bn b 2)) with _ | t
    · rw [hb] at h2; exact absurd rfl h2
    · exact ⟨pt, q, r, t, by omega, rfl, hq, rfl, hr, hb, rfl⟩
