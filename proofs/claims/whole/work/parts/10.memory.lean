section SHM
variable {G : sh_G} {M : sh_M} {kc ks pc : Nat} {w : List sh_C} {lv : List (Option Value)} {st : List Value} {Q : Option Value → List sh_C → Prop}
theorem sh_ht.in {w : List sh_C} {H : Heap} (h : sh_ht G w H) {q : Nat} {e : va_E} (hq : (sh_im G w)[q]? = some (sh_ad G (q + 1), e)) : sh_A G (sh_ad G (q + 1)) := h.2.2.1.2 q _ hq
theorem sh_ht.put {w : List sh_C} {H H1 : Heap} (h : sh_ht G w H) {q : Nat} {e : va_E} {c : sh_C} (hq : (sh_im G w)[q]? = some (sh_ad G (q + 1), e)) (he : va_at (sh_D G) sh_cl (sh_ad G (q + 1), sh_cc G c) H1) (z : H1.size = H.size) (oq : ∀ x : Nat, x ≠ sh_ad G (q + 1) → H1[x]? = H[x]?) : sh_ht G (w.set (q + 1) c) H1 :=
  h.set z (h.2.1.set h.2.2.1 hq he oq) (h.2.2.1.set hq)
/-- a field reference: entry idx of the class own names field k of the class ci -/
def sh_fl (own : String) (idx ci k : Nat) : Prop := ∃ (C : String) (T : u_T) (N : Nat) (ref : String), sh_cl[ci]? = some (C, T, N) ∧ k < N ∧ (∀ w ∈ u_ws C T N, w ∈ lw_g) ∧ Cond.fieldLink own idx ref (T k).2.1 (T k).2.2.1 ∈ lw_tbl ∧ ref = (T k).1
theorem e_getfield {idx a ci : Nat} {fs : List Value} {v : Value} (k : Nat) (d : decode M.2.2.1 pc = .ok (.getfield idx, 3)) (hf : sh_fl M.1 idx ci k) (ha : w[a]? = some (.inl (ci, fs))) (hv : fs[k]? = some v) (kk : Ev G M kc ks w (pc + 3) lv (v :: st) Q) : Ev G M kc ks w pc lv (.ref a :: st) Q := by
  intro p e R s m args below meth c H locs cells slots ls Qf cx sx hS ht hl h1 h2 fin
  obtain ⟨C, T, N, ref, f1, f2, f3, f4, rfl⟩ := hf
  obtain ⟨q, rfl, hq⟩ := ht.at ha (fun x h => by cases h)
  have hv' : (fs.map (sh_tr G))[k]? = some (sh_tr G v) := by rw [List.getElem?_map, hv]; rfl
  exact va_get (D := sh_D G) (cl := sh_cl) (tys := sh_tys G) cx.1 cx.2.1 cx.2.2.2.2.1 f3 cx.2.2.2.1 sx.1 ht.2.1 q hq f1 k f2 (cx.2.2.2.2.1 _ (lw_g_of f4 rfl)) (fun _ h9 => h9) hv' d (kk p e R s m args below meth c H locs cells slots ls Qf cx sx hS ht hl h1 h2 fin)
/-- what a field's type takes -/
def sh_fit (ty : FieldType) (v : Value) : Prop := ∀ G : sh_G, narrow ty (sh_tr G v) = sh_tr G v ∧ fits ty (sh_tr G v) = true
theorem sh_fit_i (x : Int32) : sh_fit .int (.int x) := fun _ => ⟨rfl, rfl⟩
theorem sh_fit_a (t : FieldType) (q : Nat) : sh_fit (.array t) (.ref q) := fun _ => ⟨rfl, rfl⟩
theorem sh_fit_o (n : String) (q : Nat) : sh_fit (.object n) (.ref q) := fun _ => ⟨rfl, rfl⟩
/-- a field reference for a store: not final, or final and stored by its own class's constructor -/
def sh_fp (M : sh_M) (idx ci k : Nat) (ty : FieldType) : Prop := ∃ (C : String) (T : u_T) (N : Nat) (ref : String) (tf : Nat → FieldType), sh_cl[ci]? = some (C, T, N) ∧ k < N ∧ (∀ w ∈ u_ws C T N, w ∈ lw_g) ∧ Cond.fieldLink M.1 idx ref (T k).2.1 (T k).2.2.1 ∈ lw_tbl ∧ ref = (T k).1 ∧ (∀ j, j < N → parseFieldDescriptor (T j).2.2.1 = some (tf j)) ∧ (∀ a, a < N → ∀ b, b < N → a ≠ b → (T a).2.1 ≠ (T b).2.1) ∧ tf k = ty ∧ ((T k).2.2.2 = false ∨ ((T k).2.2.2 = true ∧ M.2.1.name = "<init>" ∧ (T k).1 = M.1))
theorem e_putfield {idx a ci : Nat} {fs : List Value} {v : Value} {ty : FieldType} (k : Nat) (d : decode M.2.2.1 pc = .ok (.putfield idx, 3)) (hf : sh_fp M idx ci k ty) (hv : sh_fit ty v) (ha : w[a]? = some (.inl (ci, fs))) (hl0 : k < fs.length) (kk : Ev G M kc ks (w.set a (.inl (ci, fs.set k v))) (pc + 3) lv st Q) : Ev G M kc ks w pc lv (v :: .ref a :: st) Q := by
  intro p e R s m args below meth c H locs cells slots ls Qf cx sx hS ht hl h1 h2 fin
  obtain ⟨C, T, N, ref, tf, f1, f2, f3, f4, rfl, f6, f7, rfl, f9⟩ := hf
  obtain ⟨q, rfl, hq⟩ := ht.at ha (fun x h => by cases h)
  have hts := cx.2.2.2.2.1
  have hlen : k < (fs.map (sh_tr G)).length := by rw [List.length_map]; exact hl0
  have hap := va_apart (D := sh_D G) (cl := sh_cl) (tys := sh_tys G) (own := C) hts f3 tf f6 f7 sx.1 f1
  obtain ⟨r, g1, cell, q1, q2, q3, q4⟩ := ht.2.1 q _ hq
  have hr : r = (C, T, N) := Option.some.inj (g1.symm.trans f1)
  subst hr
  obtain ⟨hSl, hfc, kC, hkC, hkind⟩ := sx.1.1 ci _ f1
  obtain ⟨cf, kf, fi, f, hi, hsl⟩ := hSl k f2
  have hlay := hts _ (f3 _ (u_in_lay f2))
  have hst := (u_facts hfc hkC (u_lays hts f3 f2) hi).1
  have go : ∀ H' : Heap, H'[sh_ad G (q + 1)]? = some (cell.setSlot f.slot (sh_tr G v)) → H'.size = H.size → (∀ x : Nat, x ≠ sh_ad G (q + 1) → H'[x]? = H[x]?) → W p G.1 e R s m args below meth c H' (locs ++ [⟨sh_ad G (q + 1), f.slot⟩]) cells slots Qf (F0 m (pc + 3) ls (st.map (sh_tr G))) := by
    intro H' e1 e2 e3
    rw [hsl] at e1 ⊢
    have hcell : va_at (sh_D G) sh_cl (sh_ad G (q + 1), sh_cc G (.inl (ci, fs.set k v))) H' := by
      have hq4 := t_set q4 hap f2 (sh_tr G v)
      refine ⟨_, f1, t_OB.to (V := updV (vp_V (fs.map (sh_tr G))) k (sh_tr G v)) ⟨_, e1, q2, q3, hq4⟩ (fun j _ => ?_)⟩
      have := vp_updV_set hlen (sh_tr G v) j
      rw [← List.map_set] at this
      exact this
    exact kk p e R s m args below meth c H' _ cells slots ls Qf cx sx (hS.put e2 e3 (ht.in hq)) (ht.put hq hcell e2 e3) hl h1 h2 fin
  rcases f9 with g | ⟨g2, g3, g4⟩
  · unfold u_lay at hlay
    rw [if_neg (by rw [g]; decide)] at hlay
    have h6 := u_store hfc hkC hkind hlay hi (f6 k f2) (hv G).1 (hv G).2
    exact W.putK cx.1 cx.2.1 (f := f) ⟨cx.2.2.2.1, hts _ (lw_g_of f4 rfl), ⟨_, _, _, hi⟩, hst⟩ (by rw [q2]; exact h6) q1 q3 (by rw [hsl]; exact k2_hasslot (q4 k f2)) rfl rfl d go
  · unfold u_lay at hlay
    rw [if_pos g2] at hlay
    have hcf : m.cls = cf := by
      obtain ⟨_, _, c', _, _, _, -, -, hf', -, -, -, hown2, -⟩ := Cond.laysFinal_spec hlay
      have e1 : c' = cf := by have := hi.symm.trans hf'; simp at this; exact this.1.symm
      rw [g4] at hown2
      rw [← e1]; exact Option.some.inj (cx.2.2.2.1.symm.trans hown2)
    have h6 := u_fits hfc hkC hkind (Or.inr hlay) hi (f6 k f2) (hv G).1 (hv G).2
    exact W.putFinK cx.1 cx.2.1 cx.2.2.2.1 (hts _ (lw_g_of f4 rfl)) hi hst hcf (cx.2.2.2.2.2.1.trans g3) (by rw [q2]; exact h6) q1 q3 (by rw [hsl]; exact k2_hasslot (q4 k f2)) rfl rfl d go
/-! arrays: 0 int, 1 boolean, 2 long, 3 Sill, 4 Sheet -/
theorem e_iaload {a n : Nat} {f : Nat → Int32} {i : Int32} (d : decode M.2.2.1 pc = .ok (.iaload, 1)) (ha : w[a]? = some (.inr (0, n, .inl f))) (hi : vp_in i n) (kk : Ev G M kc ks w (pc + 1) lv (.int (f i.toNatClampNeg) :: st) Q) : Ev G M kc ks w pc lv (.int i :: .ref a :: st) Q := by
  intro p e R s m args below meth c H locs cells slots ls Qf cx sx hS ht hl h1 h2 fin
  obtain ⟨q, rfl, hq⟩ := ht.at ha (fun x h => by cases h)
  exact va_iald (D := sh_D G) (cl := sh_cl) (tys := sh_tys G) cx.1 cx.2.1 sx.1 ht.2.1 q 0 hq rfl hi d (kk p e R s m args below meth c H locs cells slots ls Qf cx sx hS ht hl h1 h2 fin)
theorem e_zaload {a n : Nat} {f : Nat → Int32} {i : Int32} (d : decode M.2.2.1 pc = .ok (.baload, 1)) (ha : w[a]? = some (.inr (1, n, .inl f))) (hi : vp_in i n) (kk : Ev G M kc ks w (pc + 1) lv (.int (f i.toNatClampNeg) :: st) Q) : Ev G M kc ks w pc lv (.int i :: .ref a :: st) Q := by
  intro p e R s m args below meth c H locs cells slots ls Qf cx sx hS ht hl h1 h2 fin
  obtain ⟨q, rfl, hq⟩ := ht.at ha (fun x h => by cases h)
  exact va_zald (D := sh_D G) (cl := sh_cl) (tys := sh_tys G) cx.1 cx.2.1 sx.1 ht.2.1 q 1 hq rfl hi d (kk p e R s m args below meth c H locs cells slots ls Qf cx sx hS ht hl h1 h2 fin)
theorem e_laload {a n : Nat} {f : Nat → Int64} {i : Int32} (d : decode M.2.2.1 pc = .ok (.laload, 1)) (ha : w[a]? = some (.inr (2, n, .inr (.inl f)))) (hi : vp_in i n) (kk : Ev G M kc ks w (pc + 1) lv (.long (f i.toNatClampNeg) :: st) Q) : Ev G M kc ks w pc lv (.int i :: .ref a :: st) Q := by
  intro p e R s m args below meth c H locs cells slots ls Qf cx sx hS ht hl h1 h2 fin
  obtain ⟨q, rfl, hq⟩ := ht.at ha (fun x h => by cases h)
  exact va_lald (D := sh_D G) (cl := sh_cl) (tys := sh_tys G) cx.1 cx.2.1 sx.1 ht.2.1 q 2 hq rfl hi d (kk p e R s m args below meth c H locs cells slots ls Qf cx sx hS ht hl h1 h2 fin)
theorem e_aaload {t a n : Nat} {f : Nat → Option Nat} {i : Int32} {r : Nat} (d : decode M.2.2.1 pc = .ok (.aaload, 1)) (ha : w[a]? = some (.inr (t, n, .inr (.inr (.inr (.inr f)))))) (ht0 : t = 3 ∨ t = 4) (hi : vp_in i n) (hr : f i.toNatClampNeg = some r) (kk : Ev G M kc ks w (pc + 1) lv (.ref r :: st) Q) : Ev G M kc ks w pc lv (.int i :: .ref a :: st) Q := by
  intro p e R s m args below meth c H locs cells slots ls Qf cx sx hS ht hl h1 h2 fin
  obtain ⟨q, rfl, hq⟩ := ht.at ha (fun x h => by cases h; rcases ht0 with h | h <;> cases h)
  have k2 := kk p e R s m args below meth c H locs cells slots ls Qf cx sx hS ht hl h1 h2 fin
  rcases ht0 with rfl | rfl
  · refine va_aldq (D := sh_D G) (cl := sh_cl) (tys := sh_tys G) cx.1 cx.2.1 sx.1 ht.2.1 q 3 hq rfl hi d ?_
    rw [hr]
    exact k2
  · refine va_aldq (D := sh_D G) (cl := sh_cl) (tys := sh_tys G) cx.1 cx.2.1 sx.1 ht.2.1 q 4 hq rfl hi d ?_
    rw [hr]
    exact k2
theorem e_alen {a n : Nat} {f : Nat → Int32} (d : decode M.2.2.1 pc = .ok (.arraylength, 1)) (ha : w[a]? = some (.inr (0, n, .inl f))) (kk : Ev G M kc ks w (pc + 1) lv (.int (nI n) :: st) Q) : Ev G M kc ks w pc lv (.ref a :: st) Q := by
  intro p e R s m args below meth c H locs cells slots ls Qf cx sx hS ht hl h1 h2 fin
  obtain ⟨q, rfl, hq⟩ := ht.at ha (fun x h => by cases h)
  exact va_alen (D := sh_D G) (cl := sh_cl) (tys := sh_tys G) cx.1 cx.2.1 sx.1 ht.2.1 q 0 hq rfl rfl d (kk p e R s m args below meth c H locs cells slots ls Qf cx sx hS ht hl h1 h2 fin)
/-- the script: at place 0 -/
theorem e_slen (d : decode M.2.2.1 pc = .ok (.arraylength, 1)) (kk : Ev G M kc ks w (pc + 1) lv (.int (nI G.2.2.2.2.2.1) :: st) Q) : Ev G M kc ks w pc lv (.ref 0 :: st) Q := by
  intro p e R s m args below meth c H locs cells slots ls Qf cx sx hS ht hl h1 h2 fin
  exact va_slen cx.1 cx.2.1 sx.2.1 (Nat.lt_of_lt_of_le sx.2.2.1 sx.2.2.2.1) (Nat.not_le.mpr sx.2.2.1) hS d (kk p e R s m args below meth c H locs cells slots ls Qf cx sx hS ht hl h1 h2 fin)
theorem e_sald {i : Int32} (d : decode M.2.2.1 pc = .ok (.iaload, 1)) (hi : vp_in i G.2.2.2.2.2.1) (kk : Ev G M kc ks w (pc + 1) lv (.int (G.2.2.2.2.2.2 i.toNatClampNeg) :: st) Q) : Ev G M kc ks w pc lv (.int i :: .ref 0 :: st) Q := by
  intro p e R s m args below meth c H locs cells slots ls Qf cx sx hS ht hl h1 h2 fin
  exact va_sld cx.1 cx.2.1 sx.2.1 (Nat.lt_of_lt_of_le sx.2.2.1 sx.2.2.2.1) (Nat.not_le.mpr sx.2.2.1) hS hi d (kk p e R s m args below meth c H locs cells slots ls Qf cx sx hS ht hl h1 h2 fin)
theorem e_iastore {a n : Nat} {f : Nat → Int32} {i x : Int32} (d : decode M.2.2.1 pc = .ok (.iastore, 1)) (ha : w[a]? = some (.inr (0, n, .inl f))) (hi : vp_in i n) (kk : Ev G M kc ks (w.set a (.inr (0, n, .inl (upd f i.toNatClampNeg x)))) (pc + 1) lv st Q) : Ev G M kc ks w pc lv (.int x :: .int i :: .ref a :: st) Q := by
  intro p e R s m args below meth c H locs cells slots ls Qf cx sx hS ht hl h1 h2 fin
  obtain ⟨q, rfl, hq⟩ := ht.at ha (fun x h => by cases h)
  refine W.iast cx.1 cx.2.1 (ht.2.1 q _ hq) ((sx.1.2 0 _ rfl).1 n (fun j => .int (f j))) (fun q => by cases q) (by show ¬ (i < 0 ∨ (arrV _ _ _).slots.size ≤ _); rw [arrV_size]; exact hi) rfl rfl d fun H1 e1 z oq => ?_
  refine kk p e R s m args below meth c H1 _ cells slots ls Qf cx sx (hS.put z oq (ht.in hq)) (ht.put hq ?_ z oq) hl h1 h2 fin
  show H1[sh_ad G (q + 1)]? = some (vp_cell _ _)
  rw [e1]
  show some ((vp_cell (G.2.2.1 0) (n, .inl f)).setSlot _ _) = some (vp_cell (G.2.2.1 0) (n, .inl (upd f i.toNatClampNeg x)))
  rw [vp_cell_i, vp_cell_i, arrV_store]
  congr 2
  funext y
  by_cases hy : y = i.toNatClampNeg
  · subst hy
    simp [updV, upd]
  · simp [updV, upd, hy]
theorem e_zastore {a n : Nat} {f : Nat → Int32} {i x : Int32} (d : decode M.2.2.1 pc = .ok (.bastore, 1)) (ha : w[a]? = some (.inr (1, n, .inl f))) (hi : vp_in i n) (hx : narrow .boolean (.int x) = .int x) (kk : Ev G M kc ks (w.set a (.inr (1, n, .inl (upd f i.toNatClampNeg x)))) (pc + 1) lv st Q) : Ev G M kc ks w pc lv (.int x :: .int i :: .ref a :: st) Q := by
  intro p e R s m args below meth c H locs cells slots ls Qf cx sx hS ht hl h1 h2 fin
  obtain ⟨q, rfl, hq⟩ := ht.at ha (fun x h => by cases h)
  refine W.zast cx.1 cx.2.1 (ht.2.1 q _ hq) ((sx.1.2 1 _ rfl).1 n (fun j => .int (f j))) (fun q => by cases q) (by show ¬ (i < 0 ∨ (arrV _ _ _).slots.size ≤ _); rw [arrV_size]; exact hi) rfl rfl d fun H1 e1 z oq => ?_
  refine kk p e R s m args below meth c H1 _ cells slots ls Qf cx sx (hS.put z oq (ht.in hq)) (ht.put hq ?_ z oq) hl h1 h2 fin
  show H1[sh_ad G (q + 1)]? = some (vp_cell _ _)
  rw [e1, hx]
  show some ((vp_cell (G.2.2.1 1) (n, .inl f)).setSlot _ _) = some (vp_cell (G.2.2.1 1) (n, .inl (upd f i.toNatClampNeg x)))
  rw [vp_cell_i, vp_cell_i, arrV_store]
  congr 2
  funext y
  by_cases hy : y = i.toNatClampNeg
  · subst hy
    simp [updV, upd]
  · simp [updV, upd, hy]
theorem e_lastore {a n : Nat} {f : Nat → Int64} {i : Int32} {x : Int64} (d : decode M.2.2.1 pc = .ok (.lastore, 1)) (ha : w[a]? = some (.inr (2, n, .inr (.inl f)))) (hi : vp_in i n) (kk : Ev G M kc ks (w.set a (.inr (2, n, .inr (.inl (vp_updL f i.toNatClampNeg x))))) (pc + 1) lv st Q) : Ev G M kc ks w pc lv (.long x :: .int i :: .ref a :: st) Q := by
  intro p e R s m args below meth c H locs cells slots ls Qf cx sx hS ht hl h1 h2 fin
  obtain ⟨q, rfl, hq⟩ := ht.at ha (fun x h => by cases h)
  refine W.last cx.1 cx.2.1 (ht.2.1 q _ hq) ((sx.1.2 2 _ rfl).1 n (fun j => .long (f j))) (fun q => by cases q) (by show ¬ (i < 0 ∨ (arrV _ _ _).slots.size ≤ _); rw [arrV_size]; exact hi) rfl rfl d fun H1 e1 z oq => ?_
  refine kk p e R s m args below meth c H1 _ cells slots ls Qf cx sx (hS.put z oq (ht.in hq)) (ht.put hq ?_ z oq) hl h1 h2 fin
  show H1[sh_ad G (q + 1)]? = some (vp_cell _ _)
  rw [e1]
  show some ((vp_cell (G.2.2.1 2) (n, .inr (.inl f))).setSlot _ _) = some (vp_cell (G.2.2.1 2) (n, .inr (.inl (vp_updL f i.toNatClampNeg x))))
  rw [vp_cell_l, vp_cell_l, arrV_store]
  congr 2
  funext y
  by_cases hy : y = i.toNatClampNeg
  · subst hy
    simp [updV, vp_updL]
  · simp [updV, vp_updL, hy]
/-- the class ci may lie in a row of the type t -/
def sh_el (t ci : Nat) : Prop := (t = 3 ∧ (ci = 4 ∨ ci = 7 ∨ ci = 8)) ∨ (t = 4 ∧ ci = 3)
theorem e_aastore {t a n r ci : Nat} {fs : List Value} {f : Nat → Option Nat} {i : Int32} (d : decode M.2.2.1 pc = .ok (.aastore, 1)) (ha : w[a]? = some (.inr (t, n, .inr (.inr (.inr (.inr f)))))) (hr : w[r]? = some (.inl (ci, fs))) (hel : sh_el t ci) (hi : vp_in i n) (kk : Ev G M kc ks (w.set a (.inr (t, n, .inr (.inr (.inr (.inr (va_up f i.toNatClampNeg (some r)))))))) (pc + 1) lv st Q) : Ev G M kc ks w pc lv (.ref r :: .int i :: .ref a :: st) Q := by
  intro p e R s m args below meth c H locs cells slots ls Qf cx sx hS ht hl h1 h2 fin
  obtain ⟨q, rfl, hq⟩ := ht.at ha (fun x h => by cases h; rcases hel with ⟨h, -⟩ | ⟨h, -⟩ <;> cases h)
  obtain ⟨q2, rfl, hq2⟩ := ht.at hr (fun x h => by cases h)
  have hlt : i.toNatClampNeg < n := Nat.not_le.mp fun q => hi (Or.inr q)
  have h0 : ¬ i < 0 := fun q => hi (Or.inl q)
  obtain ⟨rr, hrr, cellV, g1, g2, g3, -⟩ := ht.2.1 q2 _ hq2
  have hcls := (sx.1.1 ci rr hrr).2
  obtain ⟨kC, hkC, -⟩ := hcls.2
  have key : ∃ (C : String) (kA : Class) (comp : ClassId) (kE : Class), (sh_tys G)[t]? = some (G.2.2.1 t, .object C) ∧ s.vm.classes[G.2.2.1 t]? = some kA ∧ kA.kind = .array comp (.object C) ∧ s.vm.classes[comp]? = some kE ∧ s.vm.assignable ((sh_D G).1 ci) comp = true := by
    rcases hel with ⟨rfl, hci⟩ | ⟨rfl, rfl⟩
    · obtain ⟨kA, comp, k1, k2, k3, -⟩ := (sx.1.2 3 _ rfl).2
      obtain ⟨kE, hkE, -⟩ := Vm.findClass_spec k3
      have e4 : comp = (sh_D G).1 4 := Option.some.inj (k3.symm.trans (sx.1.1 4 _ rfl).2.1)
      exact ⟨_, kA, comp, kE, rfl, k1, k2, hkE, by rw [e4]; exact sx.2.2.2.2.2.2.2 ci hci⟩
    · obtain ⟨kA, comp, k1, k2, k3, -⟩ := (sx.1.2 4 _ rfl).2
      obtain ⟨kE, hkE, -⟩ := Vm.findClass_spec k3
      have e4 : comp = (sh_D G).1 3 := Option.some.inj (k3.symm.trans (sx.1.1 3 _ rfl).2.1)
      exact ⟨_, kA, comp, kE, rfl, k1, k2, hkE, by rw [e4]; exact va_asg _ _⟩
  obtain ⟨C, kA, comp, kE, hty, k1, k2, hkE, hasg⟩ := key
  refine W.aast cx.1 cx.2.1 (ht.2.1 q _ hq) (fun q h => by cases h) (fun h => by cases h) k1 k2 rfl hkE ⟨h0, by show _ < (arrV _ _ _).slots.size; rw [arrV_size]; exact hlt⟩ g1 (fun q h => by rw [g3] at h; cases h) (by rw [g2]; exact hkC) (by rw [g2]; exact hasg) rfl rfl d fun H1 e1 z oq => ?_
  refine kk p e R s m args below meth c H1 _ cells slots ls Qf cx sx (hS.put z oq (ht.in hq)) (ht.put hq ?_ z oq) hl h1 h2 fin
  show H1[sh_ad G (q + 1)]? = some (vp_cell _ _)
  rw [e1]
  show some ((vp_cell (G.2.2.1 t) (n, .inr (.inr (.inr (.inr (fun i => (f i).map (sh_ad G))))))).setSlot _ _) = some (vp_cell (G.2.2.1 t) (n, .inr (.inr (.inr (.inr (fun j => (va_up f i.toNatClampNeg (some (q2 + 1)) j).map (sh_ad G)))))))
  rw [vp_cell_q, vp_cell_q, arrV_store]
  congr 2
  funext y
  by_cases hy : y = i.toNatClampNeg
  · subst hy
    simp [updV, va_up, va_rf]
  · simp [updV, va_up, hy]
end SHM
