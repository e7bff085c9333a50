theorem is_i {x y : Int32} {w w1 : List sh_C} (h : x = y) (hw : w = w1) : sh_is (some (.int y)) w1 (some (.int x)) w := by
  subst h; subst hw; exact ⟨rfl, rfl⟩
section SHP
variable {G : sh_G} {M : sh_M} {kc ks pc : Nat} {w : List sh_C} {lv : List (Option Value)} {st : List Value} {Q : Option Value → List sh_C → Prop}
/-- a row's cell at a written number -/
theorem e_iald_n {a n : Nat} {f : Nat → Int32} {i : Int32} (j : Nat) (d : decode M.2.2.1 pc = .ok (.iaload, 1)) (ha : w[a]? = some (.inr (0, n, .inl f))) (hi : i = nI j) (hj : j < n) (hn : n < 2 ^ 31) (kk : Ev G M kc ks w (pc + 1) lv (.int (f j) :: st) Q) : Ev G M kc ks w pc lv (.int i :: .ref a :: st) Q := by
  subst hi
  refine e_iaload d ha (vp_in_nI hj hn) ?_
  rw [nI_clamp (by omega)]
  exact kk
theorem e_zald_n {a n : Nat} {f : Nat → Int32} {i : Int32} (j : Nat) (d : decode M.2.2.1 pc = .ok (.baload, 1)) (ha : w[a]? = some (.inr (1, n, .inl f))) (hi : i = nI j) (hj : j < n) (hn : n < 2 ^ 31) (kk : Ev G M kc ks w (pc + 1) lv (.int (f j) :: st) Q) : Ev G M kc ks w pc lv (.int i :: .ref a :: st) Q := by
  subst hi
  refine e_zaload d ha (vp_in_nI hj hn) ?_
  rw [nI_clamp (by omega)]
  exact kk
theorem e_lald_n {a n : Nat} {f : Nat → Int64} {i : Int32} (j : Nat) (d : decode M.2.2.1 pc = .ok (.laload, 1)) (ha : w[a]? = some (.inr (2, n, .inr (.inl f)))) (hi : i = nI j) (hj : j < n) (hn : n < 2 ^ 31) (kk : Ev G M kc ks w (pc + 1) lv (.long (f j) :: st) Q) : Ev G M kc ks w pc lv (.int i :: .ref a :: st) Q := by
  subst hi
  refine e_laload d ha (vp_in_nI hj hn) ?_
  rw [nI_clamp (by omega)]
  exact kk
theorem e_aald_n {t a n : Nat} {f : Nat → Option Nat} {i : Int32} {r : Nat} (j : Nat) (d : decode M.2.2.1 pc = .ok (.aaload, 1)) (ha : w[a]? = some (.inr (t, n, .inr (.inr (.inr (.inr f)))))) (ht0 : t = 3 ∨ t = 4) (hi : i = nI j) (hj : j < n) (hn : n < 2 ^ 31) (hr : f j = some r) (kk : Ev G M kc ks w (pc + 1) lv (.ref r :: st) Q) : Ev G M kc ks w pc lv (.int i :: .ref a :: st) Q := by
  subst hi
  exact e_aaload d ha ht0 (vp_in_nI hj hn) (by rw [nI_clamp (by omega)]; exact hr) kk
theorem e_iast_n {a n : Nat} {f : Nat → Int32} {i x : Int32} (j : Nat) (d : decode M.2.2.1 pc = .ok (.iastore, 1)) (ha : w[a]? = some (.inr (0, n, .inl f))) (hi : i = nI j) (hj : j < n) (hn : n < 2 ^ 31) (kk : Ev G M kc ks (w.set a (.inr (0, n, .inl (upd f j x)))) (pc + 1) lv st Q) : Ev G M kc ks w pc lv (.int x :: .int i :: .ref a :: st) Q := by
  subst hi
  refine e_iastore d ha (vp_in_nI hj hn) ?_
  rw [nI_clamp (by omega)]
  exact kk
theorem e_zast_n {a n : Nat} {f : Nat → Int32} {i x : Int32} (j : Nat) (d : decode M.2.2.1 pc = .ok (.bastore, 1)) (ha : w[a]? = some (.inr (1, n, .inl f))) (hi : i = nI j) (hj : j < n) (hn : n < 2 ^ 31) (hx : narrow .boolean (.int x) = .int x) (kk : Ev G M kc ks (w.set a (.inr (1, n, .inl (upd f j x)))) (pc + 1) lv st Q) : Ev G M kc ks w pc lv (.int x :: .int i :: .ref a :: st) Q := by
  subst hi
  refine e_zastore d ha (vp_in_nI hj hn) hx ?_
  rw [nI_clamp (by omega)]
  exact kk
theorem e_last_n {a n : Nat} {f : Nat → Int64} {i : Int32} {x : Int64} (j : Nat) (d : decode M.2.2.1 pc = .ok (.lastore, 1)) (ha : w[a]? = some (.inr (2, n, .inr (.inl f)))) (hi : i = nI j) (hj : j < n) (hn : n < 2 ^ 31) (kk : Ev G M kc ks (w.set a (.inr (2, n, .inr (.inl (vp_updL f j x))))) (pc + 1) lv st Q) : Ev G M kc ks w pc lv (.long x :: .int i :: .ref a :: st) Q := by
  subst hi
  refine e_lastore d ha (vp_in_nI hj hn) ?_
  rw [nI_clamp (by omega)]
  exact kk
/-- the locals, told anew -/
theorem e_lv {lv' : List (Option Value)} (h : lv = lv') (k : Ev G M kc ks w pc lv' st Q) : Ev G M kc ks w pc lv st Q := h ▸ k
theorem e_st {st' : List Value} (h : st = st') (k : Ev G M kc ks w pc lv st' Q) : Ev G M kc ks w pc lv st Q := h ▸ k
end SHP
/-! sums and sets over stones and persons -/
def sh_cb (pl : Nat → Int32) (v : Int32) : Nat → Int32
  | 0 => 0
  | s + 1 => sh_cb pl v s ||| (if pl s = v then 1 <<< (nI s &&& 31) else 0)
def sh_wt (x0 : Int32) (pl sw : Nat → Int32) (v : Int32) : Nat → Int32
  | 0 => x0
  | s + 1 => sh_wt x0 pl sw v s + (if pl s = v then sw s else 0)
theorem or_z (x : Int32) : x ||| 0 = x := by
  rw [← Int32.toBitVec_inj]; simp
