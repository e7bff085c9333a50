/-! a world is a list of cells (place 0: the script); values name cells by their places in it -/
abbrev sh_C : Type := (Nat × List Value) ⊕ (Nat × vp_A)
abbrev sh_G : Type := Launch × va_G × (Nat → ClassId) × Nat × Nat × Nat × (Nat → Int32)
abbrev sh_cl : List vw_C := [(RX0, TX0, 6), (RX1, TX1, 3), (RX2, TX2, 9), (RX3, TX3, 3), (RX4, TX4, 7), (RX5, TX5, 3), (RX6, TX6, 1), (RX7, TX7, 7), (RX8, TX8, 7), (RX9, TX9, 6), (RX10, TX10, 35)]
abbrev sh_M : Type := String × MethodName × ByteArray × Nat × Option FieldType × Nat × Nat
abbrev sh_D (G : sh_G) : va_G := G.2.1
abbrev sh_b (G : sh_G) : Nat := G.2.2.2.1
abbrev sh_B (G : sh_G) : Nat := G.2.2.2.2.1
abbrev sh_tys (G : sh_G) : List (ClassId × FieldType) := [(G.2.2.1 0, .int), (G.2.2.1 1, .boolean), (G.2.2.1 2, .long), (G.2.2.1 3, .object RX4), (G.2.2.1 4, .object RX3)]
def sh_ad (G : sh_G) (k : Nat) : Nat := match k with
  | 0 => sh_b G
  | j + 1 => sh_B G + j
def sh_tr (G : sh_G) (v : Value) : Value := match v with
  | .ref k => .ref (sh_ad G k)
  | v => v
def sh_cc (G : sh_G) (c : sh_C) : va_E := match c with
  | .inl o => .inr (o.1, o.2.map (sh_tr G))
  | .inr a => .inl (G.2.2.1 a.1, a.2.1, match a.2.2 with
    | .inr (.inr (.inr (.inr f))) => .inr (.inr (.inr (.inr (fun i => (f i).map (sh_ad G)))))
    | x => x)
def sh_im (G : sh_G) (w : List sh_C) : va_W := w.tail.mapIdx (fun j c => (sh_B G + j, sh_cc G c))
theorem sh_cat (G : sh_G) (v : Value) : (sh_tr G v).category = v.category := by cases v <;> rfl
theorem sh_im_at {G : sh_G} {w : List sh_C} {k : Nat} {c : sh_C} (h : w[k + 1]? = some c) : (sh_im G w)[k]? = some (sh_ad G (k + 1), sh_cc G c) := by
  unfold sh_im
  rw [List.getElem?_mapIdx, List.getElem?_tail, h]
  rfl
theorem sh_im_set {G : sh_G} {w : List sh_C} {k : Nat} {c : sh_C} : sh_im G (w.set (k + 1) c) = (sh_im G w).set k (sh_ad G (k + 1), sh_cc G c) := by
  cases w with
  | nil => rfl
  | cons x xs =>
    apply List.ext_getElem?
    intro i
    unfold sh_im
    simp only [List.set_cons_succ, List.tail_cons, List.getElem?_mapIdx, List.getElem?_set, List.length_mapIdx]
    by_cases h : k = i
    · subst h
      by_cases h2 : k < xs.length
      · simp [h2, sh_ad]
      · simp [h2]
    · simp [h]
theorem sh_im_push {G : sh_G} {w : List sh_C} {c : sh_C} (hw : w ≠ []) : sh_im G (w ++ [c]) = sh_im G w ++ [(sh_ad G w.length, sh_cc G c)] := by
  cases w with
  | nil => exact absurd rfl hw
  | cons x xs =>
    unfold sh_im
    simp only [List.cons_append, List.tail_cons, List.mapIdx_append, List.mapIdx_cons, List.mapIdx_nil, List.length_cons, sh_ad]
    simp
def sh_A (G : sh_G) : Nat → Prop := fun q => sh_B G ≤ q
def sh_ht (G : sh_G) (w : List sh_C) (H : Heap) : Prop := H.size + 1 = sh_B G + w.length ∧ va_P (sh_D G) sh_cl (sh_im G w) H ∧ va_D (sh_A G) (sh_im G w) ∧ w[0]? = some (.inr (9, G.2.2.2.2.2.1, .inl G.2.2.2.2.2.2))
theorem sh_ht.at {G : sh_G} {w : List sh_C} {H : Heap} (h : sh_ht G w H) {a : Nat} {c : sh_C} (ha : w[a]? = some c) (hn : ∀ x, c ≠ .inr (9, x)) : ∃ k, a = k + 1 ∧ (sh_im G w)[k]? = some (sh_ad G a, sh_cc G c) := by
  cases a with
  | zero =>
    rw [h.2.2.2] at ha
    exact absurd (Option.some.inj ha).symm (hn _)
  | succ k => exact ⟨k, rfl, sh_im_at ha⟩
theorem sh_ht.set {G : sh_G} {w : List sh_C} {H : Heap} (h : sh_ht G w H) {k : Nat} {c : sh_C} {H1 : Heap} (hz : H1.size = H.size) (hP : va_P (sh_D G) sh_cl ((sh_im G w).set k (sh_ad G (k + 1), sh_cc G c)) H1) (hD : va_D (sh_A G) ((sh_im G w).set k (sh_ad G (k + 1), sh_cc G c))) : sh_ht G (w.set (k + 1) c) H1 := by
  refine ⟨by rw [List.length_set, hz]; exact h.1, by rw [sh_im_set]; exact hP, by rw [sh_im_set]; exact hD, ?_⟩
  rw [List.getElem?_set_ne (by omega)]
  exact h.2.2.2
theorem sh_ht.ne {G : sh_G} {w : List sh_C} {H : Heap} (h : sh_ht G w H) : w ≠ [] := by
  intro e
  have := h.2.2.2
  rw [e] at this
  cases this
theorem sh_ht.len {G : sh_G} {w : List sh_C} {H : Heap} (h : sh_ht G w H) : ∃ j, w.length = j + 1 ∧ H.size = sh_B G + j := by
  have h0 := h.ne
  have h1 := h.1
  cases w with
  | nil => exact absurd rfl h0
  | cons x xs => exact ⟨xs.length, rfl, by simp only [List.length_cons] at h1; omega⟩
/-- the nest-mate links, (the class that holds the link, its entry, the method, the host) -/
def sh_nl : List (String × Nat × MethodName × String) := [(RX9, 19, yX1_init, RX9), (RX9, 26, yX0_init, RX9), (RX9, 33, yX2_init, RX9), (RX9, 40, yX6_init, RX9), (RX9, 45, yX3_init, RX9)]
def sh_sx (G : sh_G) (s : State) : Prop := va_K (sh_D G) sh_cl (sh_tys G) s ∧ va_X (sh_b G) G.2.2.2.2.2.1 G.2.2.2.2.2.2 s s.heap ∧ sh_b G < sh_B G ∧ sh_B G ≤ s.heap.size ∧ (∀ q ∈ sh_nl, va_Nw (.methodLinkNest q.1 q.2.1 q.2.2.1 q.2.2.2) s) ∧ va_AO RX4 s ∧ va_AO RX3 s ∧ ∀ k, k = 4 ∨ k = 7 ∨ k = 8 → s.vm.assignable ((sh_D G).1 k) ((sh_D G).1 4) = true
theorem sh_sx.go {G : sh_G} {s U : State} (h : sh_sx G s) (hW : s.WarmedH U.vm) (hb : U.heap[sh_b G]? = s.heap[sh_b G]?) (hz : sh_B G ≤ U.heap.size) : sh_sx G U := by
  obtain ⟨h1, h2, h3, h4, h5, h6, h7, h8⟩ := h
  exact ⟨h1.moved hW.alike, (h2.kept hb).moved hW.alike, h3, hz, fun q hq => va_Nw.warmM hW (h5 q hq), h6.moved hW.alike, h7.moved hW.alike, fun k hk => by rw [hW.alike.assignable]; exact h8 k hk⟩
/-! the locals -/
def sh_lo (G : sh_G) (nL : Nat) (ls : Array Slot) (lv : List (Option Value)) : Prop := ls.size = nL ∧ lv_wf ls ∧ lv.length ≤ nL ∧ ∀ (k : Nat) (v : Value), lv[k]? = some (some v) → ls[k]? = some (.val (sh_tr G v))
def sh_al (G : sh_G) (lv : List (Option Value)) : List (Nat × Value) := (List.range lv.length).filterMap (fun k => match lv[k]? with
  | some (some v) => some (k, sh_tr G v)
  | _ => none)
theorem sh_al_mem {G : sh_G} {lv : List (Option Value)} {k : Nat} {v : Value} (h : lv[k]? = some (some v)) : (k, sh_tr G v) ∈ sh_al G lv := by
  refine List.mem_filterMap.mpr ⟨k, List.mem_range.mpr ?_, ?_⟩
  · exact (List.getElem?_eq_some_iff.mp h).1
  · rw [h]
theorem sh_al_out {G : sh_G} {lv : List (Option Value)} {q : Nat × Value} (h : q ∈ sh_al G lv) : ∃ v, lv[q.1]? = some (some v) ∧ q.2 = sh_tr G v := by
  obtain ⟨k, -, h2⟩ := List.mem_filterMap.mp h
  split at h2
  · rename_i v hv
    cases h2
    exact ⟨v, hv, rfl⟩
  · cases h2
theorem sh_lo.has {G : sh_G} {nL : Nat} {ls : Array Slot} {lv : List (Option Value)} (h : sh_lo G nL ls lv) : lv_has ls nL (sh_al G lv) := by
  refine ⟨h.1, h.2.1, fun q hq => ?_⟩
  obtain ⟨v, h1, h2⟩ := sh_al_out hq
  rw [h2]
  exact h.2.2.2 _ _ h1
def sh_np (lv : List (Option Value)) (i : Nat) : Bool := match i with
  | 0 => true
  | j + 1 => match lv[j]? with
    | some (some (.long _)) => false
    | some (some (.double _)) => false
    | _ => true
theorem sh_lo_set1 {G : sh_G} {nL i : Nat} {ls' ls : Array Slot} {lv : List (Option Value)} {v : Value} (h0 : sh_lo G nL ls lv) (hi : i < lv.length) (hp : sh_np lv i = true) (h : lv_has ls' nL ((i, sh_tr G v) :: (sh_al G lv).filter (fun q => !(q.1 == i) && !(q.1 + 1 == i && q.2.category == 2)))) : sh_lo G nL ls' (lv.set i (some v)) := by
  refine ⟨h.1, h.2.1, by rw [List.length_set]; exact h0.2.2.1, fun k x hx => ?_⟩
  by_cases hk : k = i
  · subst hk
    rw [List.getElem?_set_self hi] at hx
    cases hx
    exact h.2.2 _ List.mem_cons_self
  · rw [List.getElem?_set_ne (Ne.symm hk)] at hx
    refine h.2.2 (k, sh_tr G x) (List.mem_cons_of_mem _ (List.mem_filter.mpr ⟨sh_al_mem hx, ?_⟩))
    have h1 : (k == i) = false := by simpa using hk
    simp only [h1, Bool.not_false, Bool.true_and, Bool.not_eq_true', Bool.and_eq_false_iff]
    by_cases h2 : k + 1 = i
    · right
      subst h2
      rw [sh_cat]
      simp only [sh_np] at hp
      rw [hx] at hp
      cases x <;> first | rfl | (simp at hp)
    · left
      simpa using h2
theorem sh_lo_set2 {G : sh_G} {nL i : Nat} {ls' ls : Array Slot} {lv : List (Option Value)} {v : Value} (h0 : sh_lo G nL ls lv) (hi : i < lv.length) (hp : sh_np lv i = true) (h : lv_has ls' nL ((i, sh_tr G v) :: (sh_al G lv).filter (fun q => !(q.1 == i) && (!(q.1 == i + 1) && !(q.1 + 1 == i && q.2.category == 2))))) : sh_lo G nL ls' ((lv.set i (some v)).set (i + 1) none) := by
  refine ⟨h.1, h.2.1, by rw [List.length_set, List.length_set]; exact h0.2.2.1, fun k x hx => ?_⟩
  by_cases hk1 : k = i + 1
  · subst hk1
    rw [List.getElem?_set] at hx
    simp only [if_true] at hx
    split at hx <;> cases hx
  rw [List.getElem?_set_ne (Ne.symm hk1)] at hx
  by_cases hk : k = i
  · subst hk
    rw [List.getElem?_set_self hi] at hx
    cases hx
    exact h.2.2 _ List.mem_cons_self
  · rw [List.getElem?_set_ne (Ne.symm hk)] at hx
    refine h.2.2 (k, sh_tr G x) (List.mem_cons_of_mem _ (List.mem_filter.mpr ⟨sh_al_mem hx, ?_⟩))
    have h1 : (k == i) = false := by simpa using hk
    have h3 : (k == i + 1) = false := by simpa using hk1
    simp only [h1, h3, Bool.not_false, Bool.true_and, Bool.not_eq_true', Bool.and_eq_false_iff]
    by_cases h2 : k + 1 = i
    · right
      subst h2
      rw [sh_cat]
      simp only [sh_np] at hp
      rw [hx] at hp
      cases x <;> first | rfl | (simp at hp)
    · left
      simpa using h2
def sh_ar : List Value → List (Option Value)
  | [] => []
  | v :: vs => if v.category = 2 then some v :: none :: sh_ar vs else some v :: sh_ar vs
def sh_en (nL : Nat) (As : List Value) : List (Option Value) := sh_ar As ++ List.replicate (nL - (sh_ar As).length) none
theorem sh_sl_len (G : sh_G) : ∀ As : List Value, (lg_sl (As.map (sh_tr G))).length = (sh_ar As).length
  | [] => rfl
  | v :: vs => by
    have ih := sh_sl_len G vs
    by_cases h : v.category = 2
    · have h2 : (sh_tr G v).category = 2 := by rw [sh_cat]; exact h
      simp only [List.map_cons, lg_sl, List.flatMap_cons, sh_ar, h, if_true] at ih ⊢
      simp [h2, ih]; try omega
    · have h2 : ¬ (sh_tr G v).category = 2 := by rw [sh_cat]; exact h
      simp only [List.map_cons, lg_sl, List.flatMap_cons, sh_ar, h, if_false] at ih ⊢
      simp [h2, ih]; try omega
theorem sh_args_mem (G : sh_G) : ∀ (As : List Value) (i k : Nat) (v : Value), (sh_ar As)[k]? = some (some v) → (i + k, sh_tr G v) ∈ lv_args i (As.map (sh_tr G))
  | [], i, k, v, h => by cases h
  | x :: xs, i, k, v, h => by
    by_cases hc : x.category = 2
    · have h2 : (sh_tr G x).category = 2 := by rw [sh_cat]; exact hc
      simp only [sh_ar, hc, if_true] at h
      simp only [List.map_cons, lv_args, h2, if_true]
      match k, h with
      | 0, h => cases h; exact List.mem_cons_self
      | 1, h => cases h
      | k + 2, h =>
        have := sh_args_mem G xs (i + 2) k v h
        rw [show i + (k + 2) = i + 2 + k by omega]
        exact List.mem_cons_of_mem _ this
    · have h2 : ¬ (sh_tr G x).category = 2 := by rw [sh_cat]; exact hc
      simp only [sh_ar, hc, if_false] at h
      simp only [List.map_cons, lv_args, h2, if_false]
      match k, h with
      | 0, h => cases h; exact List.mem_cons_self
      | k + 1, h =>
        have := sh_args_mem G xs (i + 1) k v h
        rw [show i + (k + 1) = i + 1 + k by omega]
        exact List.mem_cons_of_mem _ this
theorem sh_entry (G : sh_G) {nL : Nat} {As : List Value} (h : (sh_ar As).length ≤ nL) : sh_lo G nL ((lg_sl (As.map (sh_tr G)) ++ List.replicate (nL - (lg_sl (As.map (sh_tr G))).length) Slot.unset).toArray) (sh_en nL As) := by
  have h1 := lv_entry (As.map (sh_tr G)) (n := nL) (by rw [sh_sl_len]; exact h)
  refine ⟨h1.1, h1.2.1, by unfold sh_en; simp; omega, fun k v hk => ?_⟩
  unfold sh_en at hk
  by_cases hl : k < (sh_ar As).length
  · rw [List.getElem?_append_left hl] at hk
    have := sh_args_mem G As 0 k v hk
    rw [Nat.zero_add] at this
    exact h1.2.2 (k, sh_tr G v) this
  · rw [List.getElem?_append_right (by omega)] at hk
    have := List.eq_of_mem_replicate (List.mem_of_getElem? hk)
    cases this
/-! the words that go on unchanged through calls -/
def lw_g : List Cond := lw_tbl.filter goodWord
theorem lw_g_of {w : Cond} (h : w ∈ lw_tbl) (hg : goodWord w = true) : w ∈ lw_g := List.mem_filter.mpr ⟨h, hg⟩
theorem lw_g_good : GoodIn lw_g lw_g := fun _ h => ⟨h, good_of_word (List.mem_filter.mp h).2⟩
theorem lw_g_in {w : Cond} (h : w ∈ lw_tbl) (hg : goodWord w = true) : w ∈ lw_g ∧ ((w.onTables && w.keeps) = true ∨ ∃ ty, w = .arrayClass ty) := ⟨lw_g_of h hg, good_of_word hg⟩
/-! the judgement: from this frame of the method M, in the world w, making at most kc cells of ks slots, M comes to a return of v in a world w' with Q v w' -/
def sh_cx (M : sh_M) (p : Program) (s : State) (m : MethodId) (args : Array Value) (meth : Method) (c : Code) (R : Room) : Prop :=
  p.tables.exec = Jvm.exec ∧ c.code = M.2.2.1 ∧ c.maxLocals = M.2.2.2.1 ∧ s.vm.findClass M.1 = some m.cls ∧ (∀ w ∈ lw_g, w.before args s = true) ∧ meth.name = M.2.1.name ∧ M.2.2.2.2.2.1 ≤ R.frames ∧ M.2.2.2.2.2.2 ≤ R.locals
def sh_ri (M : sh_M) (v : Option Value) (pc : Nat) : Prop := match v with
  | none => decode M.2.2.1 pc = .ok (.return_, 1) ∧ M.2.2.2.2.1 = none
  | some (.int x) => decode M.2.2.1 pc = .ok (.ireturn, 1) ∧ ∃ ty, M.2.2.2.2.1 = some ty ∧ narrow ty (.int x) = .int x
  | some (.long _) => decode M.2.2.1 pc = .ok (.lreturn, 1) ∧ M.2.2.2.2.1 = some .long
  | some (.ref _) => decode M.2.2.1 pc = .ok (.areturn, 1) ∧ ∃ n, M.2.2.2.2.1 = some (.object n)
  | _ => False
def Ev (G : sh_G) (M : sh_M) (kc ks : Nat) (w : List sh_C) (pc : Nat) (lv : List (Option Value)) (st : List Value) (Q : Option Value → List sh_C → Prop) : Prop :=
  ∀ (p : Program) (e : Env) (R : Room) (s : State) (m : MethodId) (args : Array Value) (below : List Frame) (meth : Method) (c : Code) (H : Heap) (locs : List Loc) (cells slots : Nat) (ls : Array Slot) (Qf : State → Prop),
    sh_cx M p s m args meth c R → sh_sx G s → va_S (sh_A G) s.heap H locs → sh_ht G w H → sh_lo G M.2.2.2.1 ls lv → cells + kc ≤ R.cells → slots + ks ≤ R.slots →
    (∀ (v : Option Value) (w' : List sh_C) (H' : Heap) (locs' : List Loc) (cells' slots' pc' : Nat) (ls' : Array Slot), Q v w' → sh_ht G w' H' → va_S (sh_A G) s.heap H' locs' → cells' ≤ cells + kc → slots' ≤ slots + ks → sh_ri M v pc' → W p G.1 e R s m args below meth c H' locs' cells' slots' Qf (F0 m pc' ls' (v.toList.map (sh_tr G)))) →
    W p G.1 e R s m args below meth c H locs cells slots Qf (F0 m pc ls (st.map (sh_tr G)))
section SHR
variable {G : sh_G} {M : sh_M} {kc ks pc : Nat} {w : List sh_C} {lv : List (Option Value)} {st : List Value} {Q : Option Value → List sh_C → Prop}
theorem e_ret {v : Option Value} (hr : sh_ri M v pc) (hq : Q v w) : Ev G M kc ks w pc lv (v.toList) Q := by
  intro p e R s m args below meth c H locs cells slots ls Qf cx sx hS ht hl h1 h2 fin
  exact fin v w H locs cells slots pc ls hq ht hS (by omega) (by omega) hr
theorem e_w {w' : List sh_C} (h : w = w') (k : Ev G M kc ks w' pc lv st Q) : Ev G M kc ks w pc lv st Q := h ▸ k
theorem e_q {Q' : Option Value → List sh_C → Prop} (k : Ev G M kc ks w pc lv st Q') (h : ∀ v w', Q' v w' → Q v w') : Ev G M kc ks w pc lv st Q := by
  intro p e R s m args below meth c H locs cells slots ls Qf cx sx hS ht hl h1 h2 fin
  exact k p e R s m args below meth c H locs cells slots ls Qf cx sx hS ht hl h1 h2 (fun v w' H' locs' cells' slots' pc' ls' hq => fin v w' H' locs' cells' slots' pc' ls' (h v w' hq))
theorem e_room {kc' ks' : Nat} (k : Ev G M kc' ks' w pc lv st Q) (h1 : kc' ≤ kc) (h2 : ks' ≤ ks) : Ev G M kc ks w pc lv st Q := by
  intro p e R s m args below meth c H locs cells slots ls Qf cx sx hS ht hl h3 h4 fin
  exact k p e R s m args below meth c H locs cells slots ls Qf cx sx hS ht hl (by omega) (by omega) (fun v w' H' locs' cells' slots' pc' ls' hq ht' hS' hc hs => fin v w' H' locs' cells' slots' pc' ls' hq ht' hS' (by omega) (by omega))
end SHR
