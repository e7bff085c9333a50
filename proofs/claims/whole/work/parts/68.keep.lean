/-! every call keeps what holds of the state -/
theorem cl_le {x : Int32} {n : Nat} (hn : n < 2 ^ 30) (h0 : ¬ x < 0) (h : ¬ nI n < x) : x.toNatClampNeg ≤ n := by
  have h1 : ¬ nI (n + 1) ≤ x := by
    intro g
    rw [fa_le, nI_toInt (by omega)] at g
    rw [fa_lt, nI_toInt (by omega)] at h
    omega
  obtain ⟨j, hj, rfl⟩ := ix_of (n := n + 1) rfl (by omega) ⟨h0, h1⟩
  rw [nI_clamp (by omega)]; omega
theorem cl_lt {x : Int32} {n : Nat} (hn : n < 2 ^ 30) (h : ¬ x < 0 ∧ ¬ nI n ≤ x) : x.toNatClampNeg < n := by
  obtain ⟨j, hj, rfl⟩ := ix_of (n := n) rfl (by omega) h
  rw [nI_clamp (by omega)]; exact hj
theorem cl_ge {x : Int32} {n m : Nat} (hn : n < 2 ^ 30) (hm : m < 2 ^ 30) (h : ¬ x < nI n ∧ ¬ nI m < x) : n ≤ x.toNatClampNeg ∧ x.toNatClampNeg ≤ m := by
  have h0 : ¬ x < 0 := by
    intro g
    apply h.1
    rw [fa_lt] at g ⊢
    rw [nI_toInt (by omega)]
    have e0 : (0 : Int32).toInt = 0 := by decide
    omega
  refine ⟨?_, cl_le hm h0 h.2⟩
  have h1 := h.1
  have hb := cl_le hm h0 h.2
  obtain ⟨j, hj, rfl⟩ := ix_of (x := x) (n := m + 1) rfl (by omega) ⟨h0, fun g => by
    have h2 := h.2
    rw [fa_le, nI_toInt (by omega)] at g
    rw [fa_lt, nI_toInt (by omega)] at h2
    omega⟩
  rw [nI_clamp (by omega)]
  rw [nI_ltI (by omega) (by omega)] at h1
  omega
theorem IV.Z {b : sh_be} (h : IV b) {k : Nat} {z : Option (Nat × Nat)} (hz : ∀ l n, z = some (l, n) → l ≤ 2 ∧ n ≤ 60) : IV (uZ_ b k z) := by
  obtain ⟨h0, h1, h2, h3, h4, h5, h6, h7, h8⟩ := h
  refine ⟨h0, h1, h2, h3, h4, h5, h6, h7, fun j l n hj e => ?_⟩
  have e : va_up b.2.2.2.2.1 k z j = some (l, n) := e
  by_cases c : j = k
  · rw [c, up_eq] at e; exact hz l n e
  · rw [up_ne c] at e; exact h8 j l n hj e
theorem IV_sheet {b : sh_be} (hI : IV b) {k lane n : Int32} : IV (oSheet b k lane n).2 := by
  unfold oSheet
  split
  · exact hI
  split
  · exact hI
  rename_i c2
  split
  · exact hI
  rename_i c3
  have h1 : ¬ lane < 0 ∧ ¬ 2 < lane := Classical.not_not.mp (fun g => c2 (Or.inl g))
  have h2 : ¬ 60 < n := fun g => c2 (Or.inr g)
  exact IV.Z (b := uC_ b k.toNatClampNeg (fun _ => 0)) hI (fun l m e => by
    cases e
    exact ⟨cl_le (n := 2) (by omega) h1.1 h1.2, cl_le (n := 60) (by omega) c3 h2⟩)
theorem IV_lose {b : sh_be} (hI : IV b) {k : Int32} : IV (oLose b k).2 := by
  unfold oLose
  split
  · exact hI
  · exact hI.Z (fun l n e => by cases e)
theorem IV_put {b : sh_be} (hI : IV b) {k i v : Int32} : IV (oPut b k i v).2 := by
  unfold oPut
  split
  · exact hI
  split
  · exact hI
  split
  · exact hI
  · exact hI
theorem IV_cell {b : sh_be} (hI : IV b) {k i lane : Int32} : IV (oCell b k i lane).2 := by
  unfold oCell
  split
  · exact hI
  · exact hI
theorem IV_copy {b : sh_be} (hI : IV b) {k i o j n : Int32} : IV (oCopy b k i o j n).2 := by
  unfold oCopy
  split
  · exact hI
  split
  · split
    · exact hI
    split
    · exact hI
    · exact hI
  · exact hI
theorem cnN_u2 {pl : Nat → Nat} {v s x : Nat} (h : x ≠ v) : ∀ {n : Nat}, n ≤ s → cnN (va_up pl s x) v n = cnN pl v n
  | 0, _ => rfl
  | n + 1, hn => by rw [cnN, cnN, cnN_u2 h (by omega), up_ne (by omega)]
theorem IV_person {b : sh_be} (hI : IV b) {w r : Int32} : IV (oPerson b w r).2 := by
  unfold oPerson
  split
  · exact hI
  rename_i c1
  split
  · exact hI
  rename_i c2
  split
  · exact hI
  rename_i c3
  obtain ⟨h0, h1, h2, h3, h4, h5, h6, h7, h8⟩ := hI
  have hr := cl_lt (by omega) (Classical.not_not.mp c1)
  have hw := cl_ge (n := 10) (m := 99) (by omega) (by omega) (Classical.not_not.mp c2)
  refine ⟨h0, h1, by show bn b 2 + 1 ≤ 4; omega, h3, h4, fun k hk => ?_, fun s hs => ?_, h7, h8⟩
  · have hk : k < bn b 2 + 1 := hk
    show 10 ≤ va_up (b.2.1 4) (bn b 2) w.toNatClampNeg k ∧ va_up (b.2.1 4) (bn b 2) w.toNatClampNeg k ≤ 99 ∧ va_up (b.2.1 5) (bn b 2) r.toNatClampNeg k < bn b 0
    by_cases e : k = bn b 2
    · rw [e, up_eq, up_eq]; exact ⟨hw.1, hw.2, hr⟩
    · rw [up_ne e, up_ne e]; exact h5 k (by omega)
  · obtain ⟨a1, a2, a3⟩ := h6 s hs
    exact ⟨a1, a2, a3.elim Or.inl (fun g => Or.inr ⟨g.1, by show ba b 7 s < 20 + (bn b 2 + 1); omega⟩)⟩
theorem IV_stone {b : sh_be} (hI : IV b) {w r : Int32} : IV (oStone b w r).2 := by
  unfold oStone
  split
  · exact hI
  rename_i c1
  split
  · exact hI
  rename_i c2
  split
  · exact hI
  rename_i c3
  obtain ⟨h0, h1, h2, h3, h4, h5, h6, h7, h8⟩ := hI
  have hr := cl_lt (by omega) (Classical.not_not.mp c1)
  have hw := cl_ge (n := 1) (m := 20) (by omega) (by omega) (Classical.not_not.mp c2)
  refine ⟨h0, h1, h2, by show bn b 3 + 1 ≤ 4; omega, h4, h5, fun s hs => ?_, fun k => ?_, h8⟩
  · have hs : s < bn b 3 + 1 := hs
    show 1 ≤ va_up (b.2.1 6) (bn b 3) w.toNatClampNeg s ∧ va_up (b.2.1 6) (bn b 3) w.toNatClampNeg s ≤ 20 ∧ (va_up (b.2.1 7) (bn b 3) r.toNatClampNeg s < bn b 0 ∨ (20 ≤ va_up (b.2.1 7) (bn b 3) r.toNatClampNeg s ∧ va_up (b.2.1 7) (bn b 3) r.toNatClampNeg s < 20 + bn b 2))
    by_cases e : s = bn b 3
    · rw [e, up_eq, up_eq]; exact ⟨hw.1, hw.2, Or.inl hr⟩
    · rw [up_ne e, up_ne e]; exact h6 s (by omega)
  · show cnN (va_up (b.2.1 7) (bn b 3) r.toNatClampNeg) (20 + k) (bn b 3 + 1) ≤ 2
    rw [cnN, cnN_u2 (by omega) (Nat.le_refl _), up_eq, if_neg (by omega)]
    exact h7 k
theorem IV_take {b : sh_be} (hI : IV b) {p s : Int32} : IV (oTake b p s).2 := by
  have h2 := hI.2.2.1
  have h3 := hI.2.2.2.1
  unfold oTake
  split
  · exact hI
  rename_i c1
  split
  · exact hI
  split
  · exact hI
  rename_i c3
  have hp := cl_lt (by omega) (Classical.not_not.mp (fun g => c1 (Or.inl g)))
  have hs := cl_lt (by omega) (Classical.not_not.mp (fun g => c1 (Or.inr g)))
  exact hI.place hs (Or.inr ⟨by omega, by omega, by omega⟩)
theorem IV_lay {b : sh_be} (hI : IV b) {p s : Int32} : IV (oLay b p s).2 := by
  have h2 := hI.2.2.1
  have h3 := hI.2.2.2.1
  unfold oLay
  split
  · exact hI
  rename_i c1
  split
  · exact hI
  have hp := cl_lt (by omega) (Classical.not_not.mp (fun g => c1 (Or.inl g)))
  have hs := cl_lt (by omega) (Classical.not_not.mp (fun g => c1 (Or.inr g)))
  exact hI.place hs (Or.inl (hI.2.2.2.2.2.1 _ hp).2.2)
theorem opens_d {b : sh_be} {pa d : Int32} (h : ¬ oOpens b pa d < 0) : ¬ d < 0 ∧ ¬ nI (bn b 1) ≤ d := by
  unfold oOpens at h
  split at h
  · exact absurd (show (-2 : Int32) < 0 by decide) h
  split at h
  · exact absurd (show (-1 : Int32) < 0 by decide) h
  · rename_i c; exact Classical.not_not.mp c
theorem mvN_lt {pr : Nat → Nat} {pt t R k : Nat} (ht : t < R) (hp : pr k < R) : ∀ {n : Nat}, mvN pr pt t n k < R := by
  intro n
  induction n with
  | zero => exact hp
  | succ n ih => unfold mvN; split <;> first | exact ih | (unfold va_up; split; exact ht; exact ih) | omega
theorem IV_pass {b : sh_be} (hI : IV b) {pa d : Int32} : IV (oPass b pa d).2 := by
  have hd8 := hI.2.1
  unfold oPass
  split
  · exact hI
  rename_i c1
  have hd := cl_lt (by omega) (opens_d c1)
  split
  · exact hI
  split
  · exact hI
  rename_i t ht
  have htl := bBe_lt hI hd ht
  obtain ⟨h0, h1, h2, h3, h4, h5, h6, h7, h8⟩ := hI
  exact ⟨h0, h1, h2, h3, h4, fun k hk => ⟨(h5 k hk).1, (h5 k hk).2.1, mvN_lt htl (h5 k hk).2.2⟩, h6, h7, h8⟩
theorem IV_weigh {b : sh_be} (hI : IV b) {p w : Int32} : IV (oWeigh b p w).2 := by
  unfold oWeigh
  split
  · exact hI
  split
  · exact hI
  rename_i c2
  have hw := cl_ge (n := 10) (m := 99) (by omega) (by omega) (Classical.not_not.mp c2)
  obtain ⟨h0, h1, h2, h3, h4, h5, h6, h7, h8⟩ := hI
  refine ⟨h0, h1, h2, h3, h4, fun k hk => ?_, h6, h7, h8⟩
  show 10 ≤ va_up (b.2.1 4) p.toNatClampNeg w.toNatClampNeg k ∧ va_up (b.2.1 4) p.toNatClampNeg w.toNatClampNeg k ≤ 99 ∧ b.2.1 5 k < bn b 0
  obtain ⟨a1, a2, a3⟩ := h5 k hk
  by_cases e : k = p.toNatClampNeg
  · rw [e, up_eq]; exact ⟨hw.1, hw.2, e ▸ a3⟩
  · rw [up_ne e]; exact ⟨a1, a2, a3⟩
theorem IV_tell {b : sh_be} (hI : IV b) {d : Int32} : IV (oTell b d).2 := by
  unfold oTell
  split
  · exact hI
  split
  · exact hI
  split
  · exact hI
  · exact hI
theorem IV_ring {b : sh_be} (hI : IV b) {d : Int32} : IV (oRing b d).2 := by
  unfold oRing
  split
  · exact hI
  split
  · exact hI
  · exact hI
theorem IV_as {b : sh_be} (hI : IV b) {d k : Int32} : IV (oAs b d k).2 := by
  unfold oAs
  split
  · exact hI
  split
  · exact hI
  split
  · exact hI
  · exact hI
theorem IV_heard {b : sh_be} (hI : IV b) {k lane i n : Int32} : IV (oHeard b k lane i n).2 := by
  unfold oHeard
  split
  · exact hI
  · exact hI
theorem IV_by {b : sh_be} (hI : IV b) {r k lane i n : Int32} : IV (oBy b r k lane i n).2 := by
  unfold oBy
  split
  · exact hI
  split
  · exact hI
  · exact hI
theorem IV_house {b : sh_be} (hI : IV b) {k lane i n : Int32} : IV (oHouse b k lane i n).2 := by
  unfold oHouse
  split
  · exact hI
  obtain ⟨C, hC⟩ : ∃ C : Nat → Int32, C = fun q => bc b k.toNatClampNeg (i.toNatClampNeg + q) := ⟨_, rfl⟩
  rw [← hC]
  obtain ⟨m, hm⟩ : ∃ m, m = n.toNatClampNeg := ⟨_, rfl⟩
  rw [← hm]
  have key : ∀ x : Int32 × sh_be, (x = hoR b C m) → IV x.2 := by
    intro x hx
    rcases hf : ffN C m m 0 with _ | p
    · rw [hoR_n hf] at hx; rw [hx]; exact IV.house hI hf
    · rw [hoR_s hf] at hx; rw [hx]; exact hI
  exact key _ rfl
