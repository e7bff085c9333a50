section SHN
variable {G : sh_G} {M N : sh_M} {kc ks pc : Nat} {w : List sh_C} {lv : List (Option Value)} {st : List Value} {Q : Option Value → List sh_C → Prop}
/-- the world with one more cell -/
theorem sh_ht.push {H H1 : Heap} (h : sh_ht G w H) {c : sh_C} (he : va_at (sh_D G) sh_cl (sh_ad G w.length, sh_cc G c) H1) (z : H1.size = H.size + 1) (oq : ∀ x : Nat, x < H.size → H1[x]? = H[x]?) : sh_ht G (w ++ [c]) H1 := by
  obtain ⟨j, hj, hs⟩ := h.len
  have had : sh_ad G w.length = H.size := by rw [hj, hs]; rfl
  refine ⟨by rw [z, List.length_append]; simp only [List.length_cons, List.length_nil]; have := h.1; omega, ?_, ?_, ?_⟩
  · rw [sh_im_push h.ne]
    refine (h.2.1.kept (fun k q hk => oq q.1 (h.2.1 k q hk).lt)).app (fun k q hk => ?_)
    have hz : k < 1 := (List.getElem?_eq_some_iff.mp hk).1
    rw [show k = 0 by omega] at hk
    cases hk
    exact he
  · rw [sh_im_push h.ne]
    exact h.2.2.1.push h.2.1 had (by rw [had, hs]; exact Nat.le_add_right _ _)
  · rw [List.getElem?_append_left (by omega)]
    exact h.2.2.2
theorem sh_S_push {A : Nat → Prop} {H0 H H1 : Heap} {locs : List Loc} (h : va_S A H0 H locs) (z : H1.size = H.size + 1) (oq : ∀ x : Nat, x < H.size → H1[x]? = H[x]?) : va_S A H0 H1 locs := ⟨Nat.le_trans h.1 (by omega), fun x h1 h2 => (oq x (Nat.lt_of_lt_of_le h1 h.1)).trans (h.2.1 x h1 h2), h.2.2⟩
theorem sh_ht.ad {H : Heap} (h : sh_ht G w H) : sh_ad G w.length = H.size := by
  obtain ⟨j, hj, hs⟩ := h.len
  rw [hj, hs]; rfl
/-- a new object of the class ci -/
def sh_nw (M : sh_M) (idx ci N : Nat) (fs : List Value) : Prop := ∃ (C : String) (T : u_T) (tf : Nat → FieldType), sh_cl[ci]? = some (C, T, N) ∧ Cond.classLink M.1 idx C ∈ lw_tbl ∧ Cond.instantiable C N ∈ lw_tbl ∧ Cond.initialized C ∈ lw_tbl ∧ (∀ w ∈ u_ws C T N, w ∈ lw_g) ∧ (∀ j, j < N → parseFieldDescriptor (T j).2.2.1 = some (tf j)) ∧ ∀ (G : sh_G) (j : Nat), j < N → defaultValue (tf j) = vp_V (fs.map (sh_tr G)) j
theorem e_new {idx ci N : Nat} {fs : List Value} (d : decode M.2.2.1 pc = .ok (.new idx, 3)) (hk : sh_nw M idx ci N fs) (kk : Ev G M kc ks (w ++ [.inl (ci, fs)]) (pc + 3) lv (.ref w.length :: st) Q) : Ev G M (kc + 1) (ks + N) w pc lv st Q := by
  intro p e R s m args below meth c H locs cells slots ls Qf cx sx hS ht hl h1 h2 fin
  obtain ⟨C, T, tf, f1, f2, f3, f4, f5, f6, f7⟩ := hk
  have hts := cx.2.2.2.2.1
  have hKn := sx.1.1 ci _ f1
  refine W.newcK cx.1 cx.2.1 cx.2.2.2.1 (hts _ (lw_g_of f2 rfl)) (hts _ (lw_g_of f3 rfl)) (hts _ (lw_g_of f4 rfl)) rfl d (by omega) (by omega) hKn.2.1 rfl fun H1 kC hkC e1 z1 o1 => ?_
  have had := ht.ad
  have hcell : va_at (sh_D G) sh_cl (sh_ad G w.length, sh_cc G (.inl (ci, fs))) H1 := by
    rw [had]
    exact ⟨_, f1, (u_born tf hts f5 hKn hkC e1 f6).to (fun j hj => f7 G j hj)⟩
  have hstk : (Value.ref H.size :: st.map (sh_tr G)) = ((.ref w.length :: st).map (sh_tr G)) := by
    rw [← had]; rfl
  show W p G.1 e R s m args below meth c H1 locs (cells + 1) (slots + N) Qf (F0 m (pc + 3) ls (Value.ref H.size :: st.map (sh_tr G)))
  rw [hstk]
  exact kk p e R s m args below meth c H1 locs (cells + 1) (slots + N) ls Qf cx sx (sh_S_push hS z1 o1) (ht.push hcell z1 o1) hl (by omega) (by omega) (fun v w' H' locs' cells' slots' pc' ls' q1 q2 q3 q4 q5 q6 => fin v w' H' locs' cells' slots' pc' ls' q1 q2 q3 (by omega) (by omega) q6)
theorem e_newi {n : Int32} (K : Nat) (d : decode M.2.2.1 pc = .ok (.newarray .int, 2)) (hk : Cond.arrayClass .int ∈ lw_tbl) (hn : ¬ n < 0) (hN : n.toNatClampNeg = K) (hb : K * 4 ≤ 536870912) (kk : Ev G M kc ks (w ++ [.inr (0, K, .inl (fun _ => 0))]) (pc + 2) lv (.ref w.length :: st) Q) : Ev G M (kc + 1) (ks + K) w pc lv (.int n :: st) Q := by
  intro p e R s m args below meth c H locs cells slots ls Qf cx sx hS ht hl h1 h2 fin
  refine va_newaK (atype := .int) cx.1 cx.2.1 (cx.2.2.2.2.1 _ (lw_g_of hk rfl)) rfl d rfl hn hN hb (by omega) (by omega) rfl fun H1 cA e1 z1 o1 hAr hNm => ?_
  have had := ht.ad
  have hcA : cA = G.2.2.1 0 := Option.some.inj (hNm.symm.trans (sx.1.2 0 _ rfl).2)
  subst hcA
  have hcell : va_at (sh_D G) sh_cl (sh_ad G w.length, sh_cc G (.inr (0, K, .inl (fun _ => 0)))) H1 := by
    rw [had]
    exact e1
  show W p G.1 e R s m args below meth c H1 locs (cells + 1) (slots + K) Qf (F0 m (pc + 2) ls (Value.ref H.size :: st.map (sh_tr G)))
  rw [show (Value.ref H.size :: st.map (sh_tr G)) = ((.ref w.length :: st).map (sh_tr G)) by rw [← had]; rfl]
  exact kk p e R s m args below meth c H1 locs (cells + 1) (slots + K) ls Qf cx sx (sh_S_push hS z1 o1) (ht.push hcell z1 o1) hl (by omega) (by omega) (fun v w' H' locs' cells' slots' pc' ls' q1 q2 q3 q4 q5 q6 => fin v w' H' locs' cells' slots' pc' ls' q1 q2 q3 (by omega) (by omega) q6)
theorem e_newz {n : Int32} (K : Nat) (d : decode M.2.2.1 pc = .ok (.newarray .boolean, 2)) (hk : Cond.arrayClass .boolean ∈ lw_tbl) (hn : ¬ n < 0) (hN : n.toNatClampNeg = K) (hb : K * 1 ≤ 536870912) (kk : Ev G M kc ks (w ++ [.inr (1, K, .inl (fun _ => 0))]) (pc + 2) lv (.ref w.length :: st) Q) : Ev G M (kc + 1) (ks + K) w pc lv (.int n :: st) Q := by
  intro p e R s m args below meth c H locs cells slots ls Qf cx sx hS ht hl h1 h2 fin
  refine va_newaK (atype := .boolean) cx.1 cx.2.1 (cx.2.2.2.2.1 _ (lw_g_of hk rfl)) rfl d rfl hn hN hb (by omega) (by omega) rfl fun H1 cA e1 z1 o1 hAr hNm => ?_
  have had := ht.ad
  have hcA : cA = G.2.2.1 1 := Option.some.inj (hNm.symm.trans (sx.1.2 1 _ rfl).2)
  subst hcA
  have hcell : va_at (sh_D G) sh_cl (sh_ad G w.length, sh_cc G (.inr (1, K, .inl (fun _ => 0)))) H1 := by
    rw [had]
    exact e1
  show W p G.1 e R s m args below meth c H1 locs (cells + 1) (slots + K) Qf (F0 m (pc + 2) ls (Value.ref H.size :: st.map (sh_tr G)))
  rw [show (Value.ref H.size :: st.map (sh_tr G)) = ((.ref w.length :: st).map (sh_tr G)) by rw [← had]; rfl]
  exact kk p e R s m args below meth c H1 locs (cells + 1) (slots + K) ls Qf cx sx (sh_S_push hS z1 o1) (ht.push hcell z1 o1) hl (by omega) (by omega) (fun v w' H' locs' cells' slots' pc' ls' q1 q2 q3 q4 q5 q6 => fin v w' H' locs' cells' slots' pc' ls' q1 q2 q3 (by omega) (by omega) q6)
theorem e_newl {n : Int32} (K : Nat) (d : decode M.2.2.1 pc = .ok (.newarray .long, 2)) (hk : Cond.arrayClass .long ∈ lw_tbl) (hn : ¬ n < 0) (hN : n.toNatClampNeg = K) (hb : K * 8 ≤ 536870912) (kk : Ev G M kc ks (w ++ [.inr (2, K, .inr (.inl (fun _ => 0)))]) (pc + 2) lv (.ref w.length :: st) Q) : Ev G M (kc + 1) (ks + K) w pc lv (.int n :: st) Q := by
  intro p e R s m args below meth c H locs cells slots ls Qf cx sx hS ht hl h1 h2 fin
  refine va_newaK (atype := .long) cx.1 cx.2.1 (cx.2.2.2.2.1 _ (lw_g_of hk rfl)) rfl d rfl hn hN hb (by omega) (by omega) rfl fun H1 cA e1 z1 o1 hAr hNm => ?_
  have had := ht.ad
  have hcA : cA = G.2.2.1 2 := Option.some.inj (hNm.symm.trans (sx.1.2 2 _ rfl).2)
  subst hcA
  have hcell : va_at (sh_D G) sh_cl (sh_ad G w.length, sh_cc G (.inr (2, K, .inr (.inl (fun _ => 0))))) H1 := by
    rw [had]
    exact e1
  show W p G.1 e R s m args below meth c H1 locs (cells + 1) (slots + K) Qf (F0 m (pc + 2) ls (Value.ref H.size :: st.map (sh_tr G)))
  rw [show (Value.ref H.size :: st.map (sh_tr G)) = ((.ref w.length :: st).map (sh_tr G)) by rw [← had]; rfl]
  exact kk p e R s m args below meth c H1 locs (cells + 1) (slots + K) ls Qf cx sx (sh_S_push hS z1 o1) (ht.push hcell z1 o1) hl (by omega) (by omega) (fun v w' H' locs' cells' slots' pc' ls' q1 q2 q3 q4 q5 q6 => fin v w' H' locs' cells' slots' pc' ls' q1 q2 q3 (by omega) (by omega) q6)
/-- a new row of references: type 3 Sill, 4 Sheet -/
theorem e_newq {n : Int32} {idx : Nat} (t K : Nat) (d : decode M.2.2.1 pc = .ok (.anewarray idx, 3)) (hk : (t = 3 ∧ Cond.classLink M.1 idx RX4 ∈ lw_tbl) ∨ (t = 4 ∧ Cond.classLink M.1 idx RX3 ∈ lw_tbl)) (hn : ¬ n < 0) (hN : n.toNatClampNeg = K) (hb : K * 4 ≤ 536870912) (kk : Ev G M kc ks (w ++ [.inr (t, K, .inr (.inr (.inr (.inr (fun _ => none)))))]) (pc + 3) lv (.ref w.length :: st) Q) : Ev G M (kc + 1) (ks + K) w pc lv (.int n :: st) Q := by
  intro p e R s m args below meth c H locs cells slots ls Qf cx sx hS ht hl h1 h2 fin
  subst hN
  have had := ht.ad
  have key : ∀ (cA : ClassId), cA = G.2.2.1 t → W p G.1 e R s m args below meth c (H.push { cls := cA, slots := Array.replicate n.toNatClampNeg .null, vm := .none }) locs (cells + 1) (slots + n.toNatClampNeg) Qf (F0 m (pc + 3) ls (Value.ref H.size :: st.map (sh_tr G))) := by
    rintro cA rfl
    generalize hH1 : H.push ({ cls := G.2.2.1 t, slots := Array.replicate n.toNatClampNeg .null, vm := .none } : Cell) = H1
    have z1 : H1.size = H.size + 1 := by rw [← hH1, Array.size_push]
    have e1 : H1[H.size]? = some (arrV (G.2.2.1 t) n.toNatClampNeg (fun _ => .null)) := by rw [← hH1, Array.getElem?_push_size, ← arrV_new]
    have o1 : ∀ q : Nat, q < H.size → H1[q]? = H[q]? := fun q hq => by rw [← hH1, Array.getElem?_push, if_neg (Nat.ne_of_lt hq)]
    have hcell : va_at (sh_D G) sh_cl (sh_ad G w.length, sh_cc G (.inr (t, n.toNatClampNeg, .inr (.inr (.inr (.inr (fun _ => none))))))) H1 := by
      rw [had]
      show H1[H.size]? = some (vp_cell (G.2.2.1 t) (n.toNatClampNeg, .inr (.inr (.inr (.inr (fun _ => none))))))
      rw [vp_cell_q]
      exact e1
    rw [show (Value.ref H.size :: st.map (sh_tr G)) = ((.ref w.length :: st).map (sh_tr G)) by rw [← had]; rfl]
    exact kk p e R s m args below meth c H1 locs (cells + 1) (slots + n.toNatClampNeg) ls Qf cx sx (sh_S_push hS z1 o1) (ht.push hcell z1 o1) hl (by omega) (by omega) (fun v w' H' locs' cells' slots' pc' ls' q1 q2 q3 q4 q5 q6 => fin v w' H' locs' cells' slots' pc' ls' q1 q2 q3 (by omega) (by omega) q6)
  rcases hk with ⟨rfl, hk⟩ | ⟨rfl, hk⟩
  · refine W.anew cx.1 cx.2.1 cx.2.2.2.1 (cx.2.2.2.2.1 _ (lw_g_of hk rfl)) (va_AO.use sx.2.2.2.2.2.1) rfl d rfl hn hb (by omega) (by omega) fun cA kA comp f1 f2 f3 f4 => key cA ?_
    obtain ⟨kA', comp', k1, k2, k3, k4⟩ := (sx.1.2 3 _ rfl).2
    exact Option.some.inj (f1.symm.trans k4)
  · refine W.anew cx.1 cx.2.1 cx.2.2.2.1 (cx.2.2.2.2.1 _ (lw_g_of hk rfl)) (va_AO.use sx.2.2.2.2.2.2.1) rfl d rfl hn hb (by omega) (by omega) fun cA kA comp f1 f2 f3 f4 => key cA ?_
    obtain ⟨kA', comp', k1, k2, k3, k4⟩ := (sx.1.2 4 _ rfl).2
    exact Option.some.inj (f1.symm.trans k4)
/-- Object.<init> -/
theorem e_objInit {idx a : Nat} (d : decode M.2.2.1 pc = .ok (.invokespecial idx, 3)) (hl1 : Cond.methodLink M.1 idx objectInit ∈ lw_tbl) (hl2 : Cond.instanceMethod objectInit ∈ lw_tbl) (hl3 : Cond.code objectInit ⟨#[0xb1]⟩ 1 none ∈ lw_tbl) (hr1 : 1 ≤ M.2.2.2.2.2.1) (hr2 : 20 ≤ M.2.2.2.2.2.2) (hcat : (st.map fun v => v.category).sum ≤ 8) (kk : Ev G M kc ks w (pc + 3) lv st Q) : Ev G M kc ks w pc lv (.ref a :: st) Q := by
  intro p e R s m args below meth c H locs cells slots ls Qf cx sx hS ht hl h1 h2 fin
  have hts := cx.2.2.2.2.1
  have hr1' := cx.2.2.2.2.2.2.1
  have hr2' := cx.2.2.2.2.2.2.2
  exact W.objInit (a := sh_ad G a) (rest := st.map (sh_tr G)) cx.1 cx.2.1 cx.2.2.2.1 (hts _ (lw_g_of hl1 rfl)) (hts _ (lw_g_of hl2 rfl)) (hts _ (lw_g_of hl3 rfl)) rfl (by rw [cx.2.2.1]; exact hl.1) rfl d (by omega) (by show 2 * 0 + ((st.map (sh_tr G)).map fun v => v.category).sum + 12 ≤ _; rw [sh_cats]; omega) (kk p e R s m args below meth c H locs cells slots ls Qf cx sx hS ht hl h1 h2 fin)
/-- System.arraycopy between two int rows, perhaps the same -/
theorem e_copy {idx a0 a1 n0 n1 : Nat} {f g : Nat → Int32} {sp dp n : Int32} (d : decode M.2.2.1 pc = .ok (.invokestatic idx, 3)) (hl1 : Cond.methodLink M.1 idx arraycopyName ∈ lw_tbl) (hl2 : Cond.native arraycopyName ∈ lw_tbl) (hl3 : Cond.static arraycopyName ∈ lw_tbl) (hl4 : Cond.initialized "java/lang/System" ∈ lw_tbl) (hr1 : 1 ≤ M.2.2.2.2.2.1) (hr2 : nativeFrameWords "java/lang/System" "arraycopy" 5 + 19 ≤ M.2.2.2.2.2.2)
    (ha0 : w[a0]? = some (.inr (0, n0, .inl f))) (ha1 : w[a1]? = some (.inr (0, n1, .inl g))) (g1 : ¬ sp < 0) (g2 : ¬ dp < 0) (g3 : ¬ n < 0) (g4 : sp.toNatClampNeg + n.toNatClampNeg ≤ n0) (g5 : dp.toNatClampNeg + n.toNatClampNeg ≤ n1) (hcat : (st.map fun v => v.category).sum ≤ 8)
    (kk : Ev G M kc ks (w.set a1 (.inr (0, n1, .inl (va_cpy f g sp.toNatClampNeg dp.toNatClampNeg n.toNatClampNeg)))) (pc + 3) lv st Q) : Ev G M kc ks w pc lv (.int n :: .int dp :: .ref a1 :: .int sp :: .ref a0 :: st) Q := by
  intro p e R s m args below meth c H locs cells slots ls Qf cx sx hS ht hl h1 h2 fin
  have hts := cx.2.2.2.2.1
  have hr1' := cx.2.2.2.2.2.2.1
  have hr2' := cx.2.2.2.2.2.2.2
  obtain ⟨q0, hq00, hq0⟩ := ht.at ha0 (fun x h => by cases h)
  obtain ⟨q1, rfl, hq1⟩ := ht.at ha1 (fun x h => by cases h)
  have nn : ∀ z : Int32, ¬ z < 0 → z.toInt = (z.toNatClampNeg : Int) := by
    intro z hz
    have hz0 : (0 : Int) ≤ z.toInt := by
      have := Int32.not_lt.mp hz
      simpa using Int32.le_iff_toInt_le.mp this
    show z.toInt = ((z.toInt.toNat : Nat) : Int)
    omega
  have hc0 : H[sh_ad G a0]? = some (vp_cell (G.2.2.1 0) (n0, .inl f)) := ht.2.1 q0 _ hq0
  have hc1 : H[sh_ad G (q1 + 1)]? = some (vp_cell (G.2.2.1 0) (n1, .inl g)) := ht.2.1 q1 _ hq1
  obtain ⟨-, k0, hk0, cm0, hkk0⟩ := (sx.1.2 0 _ rfl).1 n0 (fun j => .int (f j))
  obtain ⟨-, k1, hk1, cm1, hkk1⟩ := (sx.1.2 0 _ rfl).1 n1 (fun j => .int (g j))
  intro T hT X
  obtain ⟨vm', X', step⟩ := X.arraycopy cx.1 cx.2.2.2.1 (hts _ (lw_g_of hl1 rfl)) (hts _ (lw_g_of hl2 rfl)) (hts _ (lw_g_of hl3 rfl)) (hts _ (lw_g_of hl4 rfl)) (src := sh_ad G a0) (dst := sh_ad G (q1 + 1)) (cs := vp_cell (G.2.2.1 0) (n0, .inl f)) (cd := vp_cell (G.2.2.1 0) (n1, .inl g)) (srcPos := sp) (destPos := dp) (n := n) (by rw [hT]; exact hc0) (by rw [hT]; exact hc1)
    (fun _ h => by cases h) (fun _ h => by cases h) (fun h => by cases h) (fun h => by cases h) hk0 hk1 hkk0 hkk1 (by simp [refKind]) g1 g2 g3
    (by rw [nn sp g1, nn n g3]; show ¬ _ > ((arrV (G.2.2.1 0) n0 (fun j => .int (f j))).slots.size : Int); rw [arrV_size]; omega)
    (by rw [nn dp g2, nn n g3]; show ¬ _ > ((arrV (G.2.2.1 0) n1 (fun j => .int (g j))).slots.size : Int); rw [arrV_size]; omega)
    (fun vm₁ _ i hi => by
      have e0 : (vp_cell (G.2.2.1 0) (n0, .inl f)).slots.getD (sp.toNatClampNeg + i) .null = .int (f (sp.toNatClampNeg + i)) := by
        show (arrV (G.2.2.1 0) n0 (fun j => .int (f j))).slots.getD _ _ = _
        rw [Array.getD_eq_getD_getElem?, arrV_read _ _ (by omega)]
        rfl
      refine ⟨?_, ?_⟩
      · rw [e0]
        rfl
      · rw [e0]
        exact trivial)
    (g := F0 m pc ls ((.int n :: .int dp :: .ref (q1 + 1) :: .int sp :: .ref a0 :: st).map (sh_tr G))) rfl (by rw [cx.2.2.1]; exact hl.1) (rest := st.map (sh_tr G)) rfl (by rw [cx.2.1]; exact d) (by omega) (by show 2 * 0 + ((st.map (sh_tr G)).map fun v => v.category).sum + _ ≤ _; rw [sh_cats]; omega)
  have e1 : copied (vp_cell (G.2.2.1 0) (n0, .inl f)) (vp_cell (G.2.2.1 0) (n1, .inl g)) sp dp n = vp_cell (G.2.2.1 0) (n1, .inl (va_cpy f g sp.toNatClampNeg dp.toNatClampNeg n.toNatClampNeg)) := va_copied (fun z => .int z) _ _ f g g4
  rw [e1] at X' step
  have hlt : sh_ad G (q1 + 1) < H.size := (Array.getElem?_eq_some_iff.mp hc1).1
  generalize hH1 : H.setIfInBounds (sh_ad G (q1 + 1)) (vp_cell (G.2.2.1 0) (n1, .inl (va_cpy f g sp.toNatClampNeg dp.toNatClampNeg n.toNatClampNeg))) = H1
  have hheap : ((T.setVm vm').setCell (sh_ad G (q1 + 1)) (vp_cell (G.2.2.1 0) (n1, .inl (va_cpy f g sp.toNatClampNeg dp.toNatClampNeg n.toNatClampNeg)))).heap = H1 := by rw [← hH1, ← hT]; rfl
  have oq : ∀ q : Nat, q ≠ sh_ad G (q1 + 1) → H1[q]? = H[q]? := fun q hq => by rw [← hH1]; simp [Array.getElem?_setIfInBounds, Ne.symm hq]
  have ez : H1.size = H.size := by rw [← hH1]; simp
  have ec : H1[sh_ad G (q1 + 1)]? = some (vp_cell (G.2.2.1 0) (n1, .inl (va_cpy f g sp.toNatClampNeg dp.toNatClampNeg n.toNatClampNeg))) := by rw [← hH1]; simp [Array.getElem?_setIfInBounds, hlt]
  obtain ⟨t, b1, b2⟩ := kk p e R s m args below meth c H1 _ cells slots ls Qf cx sx ⟨by rw [ez]; exact hS.1, fun q y1 y2 => by
      rw [oq q (fun e => y2 (by rw [e]; exact ht.in hq1))]
      exact hS.2.1 q y1 y2, fun q hq => by
      rcases List.mem_append.mp hq with h | h
      · exact hS.2.2 q h
      · obtain ⟨z, -, hz⟩ := List.mem_map.mp h
        rw [← hz]
        exact ht.in hq1⟩ (ht.put (c := .inr (0, n1, .inl (va_cpy f g sp.toNatClampNeg dp.toNatClampNeg n.toNatClampNeg))) hq1 ec ez oq) hl h1 h2 fin _ hheap X'
  exact ⟨t, step t b1, b2⟩
end SHN
