section SHK
variable {G : sh_G} {M N : sh_M} {kc ks pc : Nat} {w : List sh_C} {lv : List (Option Value)} {st : List Value} {Q Q1 : Option Value → List sh_C → Prop}
def sh_Qc (G : sh_G) (Q : Option Value → List sh_C → Prop) : Array Value → State → Outcome → State → Prop := fun _ st oc t => (∃ (v : Option Value) (w' : List sh_C), oc = .returned (v.map (sh_tr G)) ∧ Q v w' ∧ sh_ht G w' t.heap) ∧ va_F (sh_A G) st t
def sh_Pc (G : sh_G) (w : List sh_C) (As : List Value) : Array Value → State → Prop := va_Pc (As.map (sh_tr G)) (fun U => sh_sx G U ∧ sh_ht G w U.heap)
def sh_rm (M : sh_M) (kc ks : Nat) : Room := { frames := M.2.2.2.2.2.1, cells := kc, slots := ks, locals := M.2.2.2.2.2.2 }
def sh_ws (M : sh_M) : List Cond := Cond.code M.2.1 M.2.2.1 M.2.2.2.1 M.2.2.2.2.1 :: lw_g
/-- a method's contract out of the judgement at its entry -/
theorem sh_met {As : List Value} (hpl : plainName M.2.1.cls = true) (hown : M.1 = M.2.1.cls) (hlen : (sh_ar As).length ≤ M.2.2.2.1) (hE : Ev G M kc ks w 0 (sh_en M.2.2.2.1 As) [] Q) : Met G.1 M.2.1 (sh_ws M) (sh_rm M kc ks) (sh_Pc G w As) (sh_Qc G Q) kc ks (sh_A G) := by
  refine Met.ofW (cc := M.2.2.1) (maxL := M.2.2.2.1) (ret := M.2.2.2.2.1) hpl rfl ?_
  intro p e s m args below meth c s₁ B hml hv
  obtain ⟨rfl, sx, ht⟩ := hv
  have hx := B.exec
  have hb := B.bytes
  have hr := B.returns
  have hts := atoms_spec (ws := sh_ws M) B.pre
  have hlocks := B.notSynchronized
  have hfc : s.vm.findClass M.2.1.cls = some m.cls := findClass_of_methodNamed B.named
  have hnm : meth.name = M.2.1.name := (name_of_methodNamed B.named B.method).1
  rw [lg_entry_eq]
  refine hE p e _ s m _ below meth c s.heap [] 0 0 _ _ ⟨hx, hb, hml, by rw [hown]; exact hfc, fun w hw => hts w (List.mem_cons_of_mem _ hw), hnm, Nat.le_refl _, Nat.le_refl _⟩ sx va_S.rf ht (sh_entry G hlen) (by show 0 + kc ≤ kc; omega) (by show 0 + ks ≤ ks; omega) ?_
  intro v w' H' locs' cells' slots' pc' ls' hq ht' hS' hc hs hri
  refine W.widen (k := kc) (n := ks) (by omega) (by omega) ?_
  match v, hri with
  | none, ⟨hd, hret⟩ => exact W.vret hx hb (hr.trans hret) (fun t ht2 hW => ⟨⟨none, w', rfl, hq, by rw [ht2]; exact ht'⟩, hS'.F ht2⟩) hS'.2.2 hd
  | some (.int x), ⟨hd, ty, g1, g2⟩ => exact W.zret hx hb (hr.trans g1) g2 (fun t ht2 hW => ⟨⟨some (.int x), w', rfl, hq, by rw [ht2]; exact ht'⟩, hS'.F ht2⟩) hS'.2.2 hd
  | some (.long x), ⟨hd, g1⟩ => exact W.lret hx hb (hr.trans g1) (fun t ht2 hW => ⟨⟨some (.long x), w', rfl, hq, by rw [ht2]; exact ht'⟩, hS'.F ht2⟩) hS'.2.2 hd
  | some (.ref x), ⟨hd, n, g1⟩ => exact W.aret (v := .ref (sh_ad G x)) hx hb (hr.trans g1) (Or.inl ⟨n, rfl⟩) (Or.inr ⟨_, rfl⟩) (fun t ht2 hW => ⟨⟨some (.ref x), w', rfl, hq, by rw [ht2]; exact ht'⟩, hS'.F ht2⟩) hS'.2.2 hd
theorem sh_blind {As : List Value} : FrameBlind (sh_Pc G w As) := by
  intro a U g mk h
  obtain ⟨h1, ⟨g1, g2, g3, g4, g5, g6, g7, g8⟩, h2⟩ := h
  exact ⟨h1, ⟨va_K.moved (u := U) (U := U.calling g mk a) (Vm.Alike.refl U.vm) g1, va_X.moved (u := U) (U := U.calling g mk a) (Vm.Alike.refl U.vm) g2, g3, g4, fun q hq => va_Nw.same rfl rfl (g5 q hq), va_AO.moved (u := U) (U := U.calling g mk a) (Vm.Alike.refl U.vm) g6, va_AO.moved (u := U) (U := U.calling g mk a) (Vm.Alike.refl U.vm) g7, g8⟩, h2⟩
theorem sh_pre {s : State} {H : Heap} {locs : List Loc} {As : List Value} (sx : sh_sx G s) (hS : va_S (sh_A G) s.heap H locs) (ht : sh_ht G w H) (U : State) (hU : U.heap = H) (hW : s.WarmedH U.vm) : sh_Pc G w As (As.map (sh_tr G)).toArray U := by
  refine ⟨rfl, sx.go hW ?_ ?_, by rw [hU]; exact ht⟩
  · rw [hU]
    exact hS.2.1 _ (Nat.lt_of_lt_of_le sx.2.2.1 sx.2.2.2.1) (Nat.not_le.mpr sx.2.2.1)
  · rw [hU]
    exact Nat.le_trans sx.2.2.2.1 hS.1
/-- behind a call -/
theorem sh_call {p : Program} {e : Env} {R : Room} {s : State} {m : MethodId} {args : Array Value} {below : List Frame} {meth : Method} {c : Code} {H : Heap} {locs : List Loc} {cells slots mc ms kc2 ks2 : Nat} {ls : Array Slot} {Qf : State → Prop} {stR : List Value} {a : Array Value}
    (hr : va_Run p G.1 e R s m args below meth c H locs cells slots mc ms (F0 m pc ls stR) (st.map (sh_tr G)) (sh_Qc G Q1 a) (sh_A G))
    (cx : sh_cx M p s m args meth c R) (sx : sh_sx G s) (hS : va_S (sh_A G) s.heap H locs) (hl : sh_lo G M.2.2.2.1 ls lv) (h1 : cells + (mc + kc2) ≤ R.cells) (h2 : slots + (ms + ks2) ≤ R.slots)
    (kk : ∀ (v : Option Value) (w' : List sh_C), Q1 v w' → Ev G M kc2 ks2 w' (pc + 3) lv (v.toList ++ st) Q)
    (fin : ∀ (v : Option Value) (w' : List sh_C) (H' : Heap) (locs' : List Loc) (cells' slots' pc' : Nat) (ls' : Array Slot), Q v w' → sh_ht G w' H' → va_S (sh_A G) s.heap H' locs' → cells' ≤ cells + (mc + kc2) → slots' ≤ slots + (ms + ks2) → sh_ri M v pc' → W p G.1 e R s m args below meth c H' locs' cells' slots' Qf (F0 m pc' ls' (v.toList.map (sh_tr G)))) :
    W p G.1 e R s m args below meth c H locs cells slots Qf (F0 m pc ls stR) := by
  intro T hT X
  obtain ⟨v, st₀, t, T', L, e0, X', hL, e1, e2, ⟨⟨v1, w1, hv, hq, ht1⟩, hz, hk⟩, st2⟩ := hr T hT X
  cases hv
  rw [e0] at hz hk
  have hS1 : va_S (sh_A G) s.heap T'.heap (locs ++ L) := ⟨Nat.le_trans hS.1 (by rw [e1]; exact hz), fun q g1 g2 => by rw [e1, hk q (Nat.lt_of_lt_of_le g1 hS.1) g2]; exact hS.2.1 q g1 g2, fun q hq => by
    rcases List.mem_append.mp hq with h | h
    · exact hS.2.2 q h
    · exact hL q h⟩
  obtain ⟨t2, a1, b1⟩ := kk v1 w1 hq p e R s m args below meth c T'.heap (locs ++ L) (cells + mc) (slots + ms) ls Qf cx sx hS1 (by rw [e1]; exact ht1) hl (by omega) (by omega) (fun v w' H' locs' cells' slots' pc' ls' q1 q2 q3 q4 q5 q6 => fin v w' H' locs' cells' slots' pc' ls' q1 q2 q3 (by omega) (by omega) q6) T' rfl X'
  have hst : (v1.toList ++ st).map (sh_tr G) = (v1.map (sh_tr G)).toList ++ st.map (sh_tr G) := by cases v1 <;> simp
  rw [hst] at a1
  exact ⟨t2, st2 t2 a1, b1⟩
/-- a callee: its words are there -/
def sh_ok (N : sh_M) (n : Nat) : Prop := Cond.code N.2.1 N.2.2.1 N.2.2.2.1 N.2.2.2.2.1 ∈ lw_tbl ∧ Cond.initialized N.2.1.cls ∈ lw_tbl ∧ (N.2.1.cls ≠ "java/lang/invoke/MethodHandle" ∧ N.2.1.cls ≠ "java/lang/invoke/VarHandle") ∧ (parseMethodDescriptor N.2.1.desc).map (fun d => d.parameters.length) = some n ∧ plainName N.2.1.cls = true ∧ N.1 = N.2.1.cls
theorem sh_ok.good {n : Nat} (h : sh_ok N n) : GoodIn lw_g (sh_ws N) := by
  intro w hw
  rcases List.mem_cons.mp hw with rfl | hw
  · exact lw_g_in h.1 rfl
  · exact lw_g_good w hw
theorem sh_gapp {a : List Cond} {N : sh_M} {n : Nat} (h : ∀ w ∈ a, w ∈ lw_tbl ∧ goodWord w = true) (hN : sh_ok N n) : GoodIn lw_g (a ++ sh_ws N) := by
  intro w hw
  rcases List.mem_append.mp hw with hw | hw
  · exact lw_g_in (h w hw).1 (h w hw).2
  · exact hN.good w hw
/-- the callee fits into the caller's room -/
def sh_rr (M N : sh_M) : Prop := N.2.2.2.2.2.1 + 1 ≤ M.2.2.2.2.2.1 ∧ 8 + (N.2.2.2.1 + 11) + N.2.2.2.2.2.2 ≤ M.2.2.2.2.2.2
theorem sh_rr.of {p : Program} {s : State} {m : MethodId} {args : Array Value} {meth : Method} {c : Code} {R : Room} {kc ks : Nat} (h : sh_rr M N) (cx : sh_cx M p s m args meth c R) : (sh_rm N kc ks).frames + 1 ≤ R.frames ∧ 8 + (N.2.2.2.1 + 11) + (sh_rm N kc ks).locals ≤ R.locals := ⟨Nat.le_trans h.1 cx.2.2.2.2.2.2.1, Nat.le_trans h.2 cx.2.2.2.2.2.2.2⟩
theorem sh_cats (G : sh_G) (st : List Value) : ((st.map (sh_tr G)).map fun v => v.category) = st.map fun v => v.category := by
  rw [List.map_map]
  exact List.map_congr_left (fun v _ => sh_cat G v)
variable {mc ms kc2 ks2 idx n a ci : Nat} {As rest : List Value} {fs : List Value}
theorem e_callS (hN : sh_ok N n) (hrr : sh_rr M N) (d : decode M.2.2.1 pc = .ok (.invokestatic idx, 3)) (hl1 : Cond.methodLink M.1 idx N.2.1 ∈ lw_tbl) (hl2 : Cond.static N.2.1 ∈ lw_tbl) (hn : As.length = n) (hst : st = As.reverse ++ rest) (hcat : (rest.map fun v => v.category).sum ≤ 8) (har : (sh_ar As).length ≤ N.2.2.2.1)
    (hE : Ev G N mc ms w 0 (sh_en N.2.2.2.1 As) [] Q1) (kk : ∀ (v : Option Value) (w' : List sh_C), Q1 v w' → Ev G M kc2 ks2 w' (pc + 3) lv (v.toList ++ rest) Q) : Ev G M (mc + kc2) (ms + ks2) w pc lv st Q := by
  intro p e R s m args below meth c H locs cells slots ls Qf cx sx hS ht hl h1 h2 fin
  refine sh_call (va_runS (Ts := lw_g) (n := n) (As := As.map (sh_tr G)) (rest := rest.map (sh_tr G)) ⟨cx.1, cx.2.1, cx.2.2.1, cx.2.2.2.1, cx.2.2.2.2.1⟩ (sh_met hN.2.2.2.2.1 hN.2.2.2.2.2 har hE) (va_cwS n cx.2.2.2.2.1 (sh_gapp (fun w hw => ?_) hN) rfl rfl rfl ⟨hN.2.2.1.1, hN.2.2.1.2, hN.2.2.2.1⟩ (hrr.of cx)) ⟨sh_blind, sh_pre sx hS ht⟩ rfl (by rw [List.length_map]; exact hn) hl.1 (by rw [hst]; simp) (lv_room (by rw [sh_cats]; exact hcat)) d ⟨by omega, by omega⟩) cx sx hS hl h1 h2 kk fin
  rcases List.mem_cons.mp hw with rfl | hw
  · exact ⟨hl1, rfl⟩
  rcases List.mem_cons.mp hw with rfl | hw
  · exact ⟨hl2, rfl⟩
  rcases List.mem_cons.mp hw with rfl | hw
  · exact ⟨hN.2.1, rfl⟩
  cases hw
/-- a virtual call of a method of the receiver's own class -/
theorem e_callV {T : u_T} {K : Nat} (hN : sh_ok N n) (hrr : sh_rr M N) (d : decode M.2.2.1 pc = .ok (.invokevirtual idx, 3)) (hl1 : Cond.methodLink M.1 idx N.2.1 ∈ lw_tbl) (hl2 : Cond.instanceMethod N.2.1 ∈ lw_tbl) (hl3 : Cond.selects N.2.1.cls N.2.1 N.2.1 ∈ lw_tbl) (ha : w[a]? = some (.inl (ci, fs))) (hc : sh_cl[ci]? = some (N.2.1.cls, T, K)) (hn : As.length = n) (hst : st = As.reverse ++ .ref a :: rest) (hcat : (rest.map fun v => v.category).sum ≤ 8) (har : (sh_ar (.ref a :: As)).length ≤ N.2.2.2.1)
    (hE : Ev G N mc ms w 0 (sh_en N.2.2.2.1 (.ref a :: As)) [] Q1) (kk : ∀ (v : Option Value) (w' : List sh_C), Q1 v w' → Ev G M kc2 ks2 w' (pc + 3) lv (v.toList ++ rest) Q) : Ev G M (mc + kc2) (ms + ks2) w pc lv st Q := by
  intro p e R s m args below meth c H locs cells slots ls Qf cx sx hS ht hl h1 h2 fin
  obtain ⟨q, hq0, hq⟩ := ht.at ha (fun x h => by cases h)
  have hpre := sh_pre (As := .ref a :: As) sx hS ht
  refine sh_call (va_runV (Ts := lw_g) (n := n) (C := N.2.1.cls) (b := sh_ad G a) (As := As.map (sh_tr G)) (rest := rest.map (sh_tr G)) ⟨cx.1, cx.2.1, cx.2.2.1, cx.2.2.2.1, cx.2.2.2.2.1⟩ (sh_met hN.2.2.2.2.1 hN.2.2.2.2.2 har hE) (cwV n cx.2.2.2.2.1 (sh_gapp (fun w hw => ?_) hN) rfl rfl rfl ⟨rfl, hN.2.2.1.1, hN.2.2.1.2, hN.2.2.2.1⟩ (hrr.of cx)) ⟨sh_blind, va_recv sx.1 ht.2.1 hc hq, hpre⟩ rfl (by rw [List.length_map]; exact hn) hl.1 (by rw [hst]; simp [sh_tr]) (lv_room (by rw [sh_cats]; exact hcat)) d ⟨by omega, by omega⟩) cx sx hS hl h1 h2 kk fin
  rcases List.mem_cons.mp hw with rfl | hw
  · exact ⟨hl1, rfl⟩
  rcases List.mem_cons.mp hw with rfl | hw
  · exact ⟨hl2, rfl⟩
  rcases List.mem_cons.mp hw with rfl | hw
  · exact ⟨hl3, rfl⟩
  rcases List.mem_cons.mp hw with rfl | hw
  · exact ⟨hN.2.1, rfl⟩
  cases hw
/-- a virtual call of an inherited method -/
theorem e_callU {x : MethodName} {C : String} {T : u_T} {K : Nat} (hN : sh_ok N n) (hrr : sh_rr M N) (d : decode M.2.2.1 pc = .ok (.invokevirtual idx, 3)) (hyx : N.2.1 = ⟨N.2.1.cls, x.name, x.desc⟩) (hl1 : Cond.methodLink M.1 idx x ∈ lw_tbl) (hl2 : Cond.instanceMethod N.2.1 ∈ lw_tbl) (hl3 : Cond.selects C x N.2.1 ∈ lw_tbl) (hl4 : Cond.sameMethod x.cls N.2.1.cls x.name x.desc ∈ lw_tbl) (ha : w[a]? = some (.inl (ci, fs))) (hc : sh_cl[ci]? = some (C, T, K)) (hn : As.length = n) (hst : st = As.reverse ++ .ref a :: rest) (hcat : (rest.map fun v => v.category).sum ≤ 8) (har : (sh_ar (.ref a :: As)).length ≤ N.2.2.2.1)
    (hE : Ev G N mc ms w 0 (sh_en N.2.2.2.1 (.ref a :: As)) [] Q1) (kk : ∀ (v : Option Value) (w' : List sh_C), Q1 v w' → Ev G M kc2 ks2 w' (pc + 3) lv (v.toList ++ rest) Q) : Ev G M (mc + kc2) (ms + ks2) w pc lv st Q := by
  intro p e R s m args below meth c H locs cells slots ls Qf cx sx hS ht hl h1 h2 fin
  obtain ⟨q, hq0, hq⟩ := ht.at ha (fun x h => by cases h)
  have hpre := sh_pre (As := .ref a :: As) sx hS ht
  have hpd : (parseMethodDescriptor x.desc).map (fun d => d.parameters.length) = some n := by
    have := hN.2.2.2.1
    rw [hyx] at this
    exact this
  refine sh_call (va_runU (Ts := lw_g) (n := n) (x := x) (owner := N.2.1.cls) (C := C) (b := sh_ad G a) (As := As.map (sh_tr G)) (rest := rest.map (sh_tr G)) ⟨cx.1, cx.2.1, cx.2.2.1, cx.2.2.2.1, cx.2.2.2.2.1⟩ (sh_met hN.2.2.2.2.1 hN.2.2.2.2.2 har hE) (va_cwU n cx.2.2.2.2.1 (sh_gapp (fun w hw => ?_) hN) rfl rfl rfl hyx ⟨hN.2.2.1.1, hN.2.2.1.2, hpd⟩ (hrr.of cx)) ⟨sh_blind, va_recv sx.1 ht.2.1 hc hq, hpre⟩ rfl (by rw [List.length_map]; exact hn) hl.1 (by rw [hst]; simp [sh_tr]) (lv_room (by rw [sh_cats]; exact hcat)) d ⟨by omega, by omega⟩) cx sx hS hl h1 h2 kk fin
  rcases List.mem_cons.mp hw with rfl | hw
  · exact ⟨hl1, rfl⟩
  rcases List.mem_cons.mp hw with rfl | hw
  · exact ⟨hl4, rfl⟩
  rcases List.mem_cons.mp hw with rfl | hw
  · exact ⟨hl3, rfl⟩
  rcases List.mem_cons.mp hw with rfl | hw
  · exact ⟨hl2, rfl⟩
  rcases List.mem_cons.mp hw with rfl | hw
  · exact ⟨hN.2.1, rfl⟩
  cases hw
/-- a virtual call of an overriding method -/
theorem e_callO {x : MethodName} {C owner : String} {T : u_T} {K : Nat} {b0 : ByteArray} {m0 : Nat} {r0 : Option FieldType} (hN : sh_ok N n) (hrr : sh_rr M N) (d : decode M.2.2.1 pc = .ok (.invokevirtual idx, 3)) (how : owner ≠ "java/lang/invoke/MethodHandle" ∧ owner ≠ "java/lang/invoke/VarHandle") (hxd : x.desc = N.2.1.desc) (h0 : Cond.code ⟨owner, x.name, x.desc⟩ b0 m0 r0 ∈ lw_tbl) (hl1 : Cond.methodLink M.1 idx x ∈ lw_tbl) (hl2 : Cond.instanceMethod N.2.1 ∈ lw_tbl) (hl3 : Cond.selects C x N.2.1 ∈ lw_tbl) (hl4 : Cond.sameMethod x.cls owner x.name x.desc ∈ lw_tbl) (hl5 : Cond.instanceMethod ⟨owner, x.name, x.desc⟩ ∈ lw_tbl) (ha : w[a]? = some (.inl (ci, fs))) (hc : sh_cl[ci]? = some (C, T, K)) (hn : As.length = n) (hst : st = As.reverse ++ .ref a :: rest) (hcat : (rest.map fun v => v.category).sum ≤ 8) (har : (sh_ar (.ref a :: As)).length ≤ N.2.2.2.1)
    (hE : Ev G N mc ms w 0 (sh_en N.2.2.2.1 (.ref a :: As)) [] Q1) (kk : ∀ (v : Option Value) (w' : List sh_C), Q1 v w' → Ev G M kc2 ks2 w' (pc + 3) lv (v.toList ++ rest) Q) : Ev G M (mc + kc2) (ms + ks2) w pc lv st Q := by
  intro p e R s m args below meth c H locs cells slots ls Qf cx sx hS ht hl h1 h2 fin
  obtain ⟨q, hq0, hq⟩ := ht.at ha (fun x h => by cases h)
  have hpre := sh_pre (As := .ref a :: As) sx hS ht
  have hpd : (parseMethodDescriptor x.desc).map (fun d => d.parameters.length) = some n := by rw [hxd]; exact hN.2.2.2.1
  refine sh_call (va_runU (Ts := lw_g) (n := n) (x := x) (owner := owner) (C := C) (b := sh_ad G a) (As := As.map (sh_tr G)) (rest := rest.map (sh_tr G)) ⟨cx.1, cx.2.1, cx.2.2.1, cx.2.2.2.1, cx.2.2.2.2.1⟩ (sh_met hN.2.2.2.2.1 hN.2.2.2.2.2 har hE) (va_cwO n cx.2.2.2.2.1 (sh_gapp (fun w hw => ?_) hN) rfl rfl rfl (lw_g_of h0 rfl) ⟨how.1, how.2, hpd⟩ (hrr.of cx)) ⟨sh_blind, va_recv sx.1 ht.2.1 hc hq, hpre⟩ rfl (by rw [List.length_map]; exact hn) hl.1 (by rw [hst]; simp [sh_tr]) (lv_room (by rw [sh_cats]; exact hcat)) d ⟨by omega, by omega⟩) cx sx hS hl h1 h2 kk fin
  rcases List.mem_cons.mp hw with rfl | hw
  · exact ⟨hl1, rfl⟩
  rcases List.mem_cons.mp hw with rfl | hw
  · exact ⟨hl4, rfl⟩
  rcases List.mem_cons.mp hw with rfl | hw
  · exact ⟨hl5, rfl⟩
  rcases List.mem_cons.mp hw with rfl | hw
  · exact ⟨hl3, rfl⟩
  rcases List.mem_cons.mp hw with rfl | hw
  · exact ⟨hl2, rfl⟩
  rcases List.mem_cons.mp hw with rfl | hw
  · exact ⟨hN.2.1, rfl⟩
  cases hw
/-- a constructor -/
theorem e_callI (hN : sh_ok N n) (hret : N.2.2.2.2.1 = none) (hrr : sh_rr M N) (d : decode M.2.2.1 pc = .ok (.invokespecial idx, 3)) (hnm : N.2.1.name = "<init>") (hl1 : Cond.methodLink M.1 idx N.2.1 ∈ lw_tbl) (hl2 : Cond.instanceMethod N.2.1 ∈ lw_tbl) (hn : As.length = n) (hst : st = As.reverse ++ .ref a :: rest) (hcat : (rest.map fun v => v.category).sum ≤ 8) (har : (sh_ar (.ref a :: As)).length ≤ N.2.2.2.1)
    (hE : Ev G N mc ms w 0 (sh_en N.2.2.2.1 (.ref a :: As)) [] Q1) (kk : ∀ (v : Option Value) (w' : List sh_C), Q1 v w' → Ev G M kc2 ks2 w' (pc + 3) lv (v.toList ++ rest) Q) : Ev G M (mc + kc2) (ms + ks2) w pc lv st Q := by
  intro p e R s m args below meth c H locs cells slots ls Qf cx sx hS ht hl h1 h2 fin
  have hpre := sh_pre (As := .ref a :: As) sx hS ht
  have hw0 : sh_ws N = Cond.code N.2.1 N.2.2.1 N.2.2.2.1 none :: lw_g := by unfold sh_ws; rw [hret]
  exact sh_call (va_runI (Ts := lw_g) (n := n) (b := sh_ad G a) (As := As.map (sh_tr G)) (rest := rest.map (sh_tr G)) ⟨cx.1, cx.2.1, cx.2.2.1, cx.2.2.2.1, cx.2.2.2.2.1⟩ (sh_met hN.2.2.2.2.1 hN.2.2.2.2.2 har hE) (cwI n cx.2.2.2.2.1 hN.good hw0 rfl rfl (cx.2.2.2.2.1 _ (lw_g_of hN.2.1 rfl)) (cx.2.2.2.2.1 _ (lw_g_of hl1 rfl)) (cx.2.2.2.2.1 _ (lw_g_of hl2 rfl)) hnm ⟨hN.2.2.1.1, hN.2.2.1.2, hN.2.2.2.1⟩ (hrr.of cx)) ⟨sh_blind, hpre⟩ rfl (by rw [List.length_map]; exact hn) hl.1 (by rw [hst]; simp [sh_tr]) (lv_room (by rw [sh_cats]; exact hcat)) d ⟨by omega, by omega⟩) cx sx hS hl h1 h2 kk fin
/-- a nest mate's private constructor -/
theorem e_callIN {host : String} (hN : sh_ok N n) (hret : N.2.2.2.2.1 = none) (hrr : sh_rr M N) (d : decode M.2.2.1 pc = .ok (.invokespecial idx, 3)) (hnm : N.2.1.name = "<init>") (hl1 : (M.1, idx, N.2.1, host) ∈ sh_nl) (hl2 : Cond.instanceMethod N.2.1 ∈ lw_tbl) (hn : As.length = n) (hst : st = As.reverse ++ .ref a :: rest) (hcat : (rest.map fun v => v.category).sum ≤ 8) (har : (sh_ar (.ref a :: As)).length ≤ N.2.2.2.1)
    (hE : Ev G N mc ms w 0 (sh_en N.2.2.2.1 (.ref a :: As)) [] Q1) (kk : ∀ (v : Option Value) (w' : List sh_C), Q1 v w' → Ev G M kc2 ks2 w' (pc + 3) lv (v.toList ++ rest) Q) : Ev G M (mc + kc2) (ms + ks2) w pc lv st Q := by
  intro p e R s m args below meth c H locs cells slots ls Qf cx sx hS ht hl h1 h2 fin
  have hpre := sh_pre (As := .ref a :: As) sx hS ht
  have hw0 : sh_ws N = Cond.code N.2.1 N.2.2.1 N.2.2.2.1 none :: lw_g := by unfold sh_ws; rw [hret]
  exact sh_call (va_runIN (Ts := lw_g) (n := n) (b := sh_ad G a) (As := As.map (sh_tr G)) (rest := rest.map (sh_tr G)) ⟨cx.1, cx.2.1, cx.2.2.1, cx.2.2.2.1, cx.2.2.2.2.1⟩ (sh_met hN.2.2.2.2.1 hN.2.2.2.2.2 har hE) ⟨va_cnB n cx.2.2.2.2.1 hN.good hw0 rfl rfl (sx.2.2.2.2.1 _ hl1) (cx.2.2.2.2.1 _ (lw_g_of hN.2.1 rfl)) ⟨hN.2.2.1.1, hN.2.2.1.2, hN.2.2.2.1⟩ (hrr.of cx), hnm, cx.2.2.2.2.1 _ (lw_g_of hl2 rfl)⟩ ⟨sh_blind, hpre⟩ rfl (by rw [List.length_map]; exact hn) hl.1 (by rw [hst]; simp [sh_tr]) (lv_room (by rw [sh_cats]; exact hcat)) d ⟨by omega, by omega⟩) cx sx hS hl h1 h2 kk fin
/-- a superclass's method, by super -/
theorem e_callP {C : String} {T : u_T} {K : Nat} (hN : sh_ok N n) (hrr : sh_rr M N) (d : decode M.2.2.1 pc = .ok (.invokespecial idx, 3)) (hnm : N.2.1.name ≠ "<init>") (hl1 : Cond.methodLink M.1 idx N.2.1 ∈ lw_tbl) (hl2 : Cond.instanceMethod N.2.1 ∈ lw_tbl) (hl3 : Cond.sameMethod N.2.1.cls N.2.1.cls N.2.1.name N.2.1.desc ∈ lw_tbl) (hl4 : Cond.superclass M.1 N.2.1.cls ∈ lw_tbl) (ha : w[a]? = some (.inl (ci, fs))) (hc : sh_cl[ci]? = some (C, T, K)) (hn : As.length = n) (hst : st = As.reverse ++ .ref a :: rest) (hcat : (rest.map fun v => v.category).sum ≤ 8) (har : (sh_ar (.ref a :: As)).length ≤ N.2.2.2.1)
    (hE : Ev G N mc ms w 0 (sh_en N.2.2.2.1 (.ref a :: As)) [] Q1) (kk : ∀ (v : Option Value) (w' : List sh_C), Q1 v w' → Ev G M kc2 ks2 w' (pc + 3) lv (v.toList ++ rest) Q) : Ev G M (mc + kc2) (ms + ks2) w pc lv st Q := by
  intro p e R s m args below meth c H locs cells slots ls Qf cx sx hS ht hl h1 h2 fin
  obtain ⟨q, hq0, hq⟩ := ht.at ha (fun x h => by cases h)
  have hpre := sh_pre (As := .ref a :: As) sx hS ht
  refine sh_call (va_runSU (Ts := lw_g) (n := n) (C := C) (cC := (sh_D G).1 ci) (b := sh_ad G a) (As := As.map (sh_tr G)) (rest := rest.map (sh_tr G)) (sx.1.1 ci _ hc).2 ⟨cx.1, cx.2.1, cx.2.2.1, cx.2.2.2.1, cx.2.2.2.2.1⟩ (sh_met hN.2.2.2.2.1 hN.2.2.2.2.2 har hE) (va_cwSU n cx.2.2.2.2.1 (sh_gapp (fun w hw => ?_) hN) rfl rfl rfl ⟨hnm, hN.2.2.2.1⟩ (hrr.of cx)) ⟨sh_blind, va_recv sx.1 ht.2.1 hc hq, hpre⟩ rfl (by rw [List.length_map]; exact hn) hl.1 (by rw [hst]; simp [sh_tr]) (lv_room (by rw [sh_cats]; exact hcat)) d ⟨by omega, by omega⟩) cx sx hS hl h1 h2 kk fin
  rcases List.mem_cons.mp hw with rfl | hw
  · exact ⟨hl1, rfl⟩
  rcases List.mem_cons.mp hw with rfl | hw
  · exact ⟨hl3, rfl⟩
  rcases List.mem_cons.mp hw with rfl | hw
  · exact ⟨hl4, rfl⟩
  rcases List.mem_cons.mp hw with rfl | hw
  · exact ⟨hl2, rfl⟩
  rcases List.mem_cons.mp hw with rfl | hw
  · exact ⟨hN.2.1, rfl⟩
  cases hw
end SHK
