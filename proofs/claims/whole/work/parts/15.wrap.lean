def sh_is (v : Option Value) (w1 : List sh_C) : Option Value → List sh_C → Prop := fun r w' => r = v ∧ w' = w1
def bi (c : Prop) [Decidable c] : Int32 := if c then 1 else 0
theorem bi_t {c : Prop} [Decidable c] (h : c) : bi c = 1 := if_pos h
theorem bi_f {c : Prop} [Decidable c] (h : ¬ c) : bi c = 0 := if_neg h
theorem bi_0 {c : Prop} [Decidable c] : bi c = 0 ↔ ¬ c := by unfold bi; split <;> simp_all
theorem bi_1 {c : Prop} [Decidable c] : bi c ≠ 0 ↔ c := by unfold bi; split <;> simp_all
theorem bi_n {c : Prop} [Decidable c] : narrow .boolean (.int (bi c)) = .int (bi c) := by unfold bi; split <;> rfl
section SHW
variable {G : sh_G} {M N : sh_M} {kc ks pc : Nat} {w w1 : List sh_C} {lv : List (Option Value)} {st : List Value} {Q : Option Value → List sh_C → Prop}
theorem e_iret {x : Int32} (d : decode M.2.2.1 pc = .ok (.ireturn, 1)) (hr : M.2.2.2.2.1 = some .int) (hq : Q (some (.int x)) w) : Ev G M kc ks w pc lv [.int x] Q := e_ret (v := some (.int x)) ⟨d, _, hr, rfl⟩ hq
theorem e_zret {x : Int32} (d : decode M.2.2.1 pc = .ok (.ireturn, 1)) (hr : M.2.2.2.2.1 = some .boolean) (hx : narrow .boolean (.int x) = .int x) (hq : Q (some (.int x)) w) : Ev G M kc ks w pc lv [.int x] Q := e_ret (v := some (.int x)) ⟨d, _, hr, hx⟩ hq
theorem e_lret {x : Int64} (d : decode M.2.2.1 pc = .ok (.lreturn, 1)) (hr : M.2.2.2.2.1 = some .long) (hq : Q (some (.long x)) w) : Ev G M kc ks w pc lv [.long x] Q := e_ret (v := some (.long x)) ⟨d, hr⟩ hq
theorem e_vret (d : decode M.2.2.1 pc = .ok (.return_, 1)) (hr : M.2.2.2.2.1 = none) (hq : Q none w) : Ev G M kc ks w pc lv [] Q := e_ret (v := none) ⟨d, hr⟩ hq
theorem e_aret {x : Nat} {n : String} (d : decode M.2.2.1 pc = .ok (.areturn, 1)) (hr : M.2.2.2.2.1 = some (.object n)) (hq : Q (some (.ref x)) w) : Ev G M kc ks w pc lv [.ref x] Q := e_ret (v := some (.ref x)) ⟨d, n, hr⟩ hq
theorem e_max {idx : Nat} {x y : Int32} (d : decode M.2.2.1 pc = .ok (.invokestatic idx, 3)) (hl1 : Cond.methodLink M.1 idx Lib.Math.max.name ∈ lw_tbl) (hr1 : 1 ≤ M.2.2.2.2.2.1) (hr2 : 21 ≤ M.2.2.2.2.2.2) (hcat : (st.map fun v => v.category).sum ≤ 8) (kk : Ev G M kc ks w (pc + 3) lv (.int (if x < y then y else x) :: st) Q) : Ev G M kc ks w pc lv (.int y :: .int x :: st) Q := by
  intro p e R s m args below meth c H locs cells slots ls Qf cx sx hS ht hl h1 h2 fin
  have hts := cx.2.2.2.2.1
  have hr1' := cx.2.2.2.2.2.2.1
  have hr2' := cx.2.2.2.2.2.2.2
  exact va_mmax (rest := st.map (sh_tr G)) cx.1 cx.2.1 (by rw [cx.2.2.1]; exact hl.1.symm) cx.2.2.2.1 (hts _ (lw_g_of hl1 rfl)) (hts _ (lw_g_of km_max_1 rfl)) (hts _ (lw_g_of km_i rfl)) (hts _ (lw_g_of km_max_2 rfl)) (by omega) (by rw [sh_cats]; omega) (by omega) (by omega) d (kk p e R s m args below meth c H locs cells slots ls Qf cx sx hS ht hl h1 h2 fin)
theorem e_min {idx : Nat} {x y : Int32} (d : decode M.2.2.1 pc = .ok (.invokestatic idx, 3)) (hl1 : Cond.methodLink M.1 idx Lib.Math.min.name ∈ lw_tbl) (hr1 : 1 ≤ M.2.2.2.2.2.1) (hr2 : 21 ≤ M.2.2.2.2.2.2) (hcat : (st.map fun v => v.category).sum ≤ 8) (kk : Ev G M kc ks w (pc + 3) lv (.int (if y < x then y else x) :: st) Q) : Ev G M kc ks w pc lv (.int y :: .int x :: st) Q := by
  intro p e R s m args below meth c H locs cells slots ls Qf cx sx hS ht hl h1 h2 fin
  have hts := cx.2.2.2.2.1
  have hr1' := cx.2.2.2.2.2.2.1
  have hr2' := cx.2.2.2.2.2.2.2
  exact va_mmin (rest := st.map (sh_tr G)) cx.1 cx.2.1 (by rw [cx.2.2.1]; exact hl.1.symm) cx.2.2.2.1 (hts _ (lw_g_of hl1 rfl)) (hts _ (lw_g_of km_min_1 rfl)) (hts _ (lw_g_of km_i rfl)) (hts _ (lw_g_of km_min_2 rfl)) (by omega) (by rw [sh_cats]; omega) (by omega) (by omega) d (kk p e R s m args below meth c H locs cells slots ls Qf cx sx hS ht hl h1 h2 fin)
theorem f_callSi {As rest : List Value} {idx n mc ms kc2 ks2 : Nat} {r : Int32} (hN : sh_ok N n) (hrr : sh_rr M N) (d : decode M.2.2.1 pc = .ok (.invokestatic idx, 3)) (hl1 : Cond.methodLink M.1 idx N.2.1 ∈ lw_tbl) (hl2 : Cond.static N.2.1 ∈ lw_tbl) (hn : As.length = n) (hst : st = As.reverse ++ rest) (hcat : (rest.map fun v => v.category).sum ≤ 8) (har : (sh_ar As).length ≤ N.2.2.2.1) (hk : mc + kc2 = kc) (hs : ms + ks2 = ks) (hE : Ev G N mc ms w 0 (sh_en N.2.2.2.1 As) [] (sh_is (some (.int r)) w1)) (kk : Ev G M kc2 ks2 w1 (pc + 3) lv (.int r :: rest) Q) : Ev G M kc ks w pc lv st Q := by
  subst hk; subst hs
  exact e_callS hN hrr d hl1 hl2 hn hst hcat har hE (fun v w' h => by obtain ⟨rfl, rfl⟩ := h; exact kk)
theorem f_callSl {As rest : List Value} {idx n mc ms kc2 ks2 : Nat} {r : Int64} (hN : sh_ok N n) (hrr : sh_rr M N) (d : decode M.2.2.1 pc = .ok (.invokestatic idx, 3)) (hl1 : Cond.methodLink M.1 idx N.2.1 ∈ lw_tbl) (hl2 : Cond.static N.2.1 ∈ lw_tbl) (hn : As.length = n) (hst : st = As.reverse ++ rest) (hcat : (rest.map fun v => v.category).sum ≤ 8) (har : (sh_ar As).length ≤ N.2.2.2.1) (hk : mc + kc2 = kc) (hs : ms + ks2 = ks) (hE : Ev G N mc ms w 0 (sh_en N.2.2.2.1 As) [] (sh_is (some (.long r)) w1)) (kk : Ev G M kc2 ks2 w1 (pc + 3) lv (.long r :: rest) Q) : Ev G M kc ks w pc lv st Q := by
  subst hk; subst hs
  exact e_callS hN hrr d hl1 hl2 hn hst hcat har hE (fun v w' h => by obtain ⟨rfl, rfl⟩ := h; exact kk)
theorem f_callSv {As rest : List Value} {idx n mc ms kc2 ks2 : Nat}  (hN : sh_ok N n) (hrr : sh_rr M N) (d : decode M.2.2.1 pc = .ok (.invokestatic idx, 3)) (hl1 : Cond.methodLink M.1 idx N.2.1 ∈ lw_tbl) (hl2 : Cond.static N.2.1 ∈ lw_tbl) (hn : As.length = n) (hst : st = As.reverse ++ rest) (hcat : (rest.map fun v => v.category).sum ≤ 8) (har : (sh_ar As).length ≤ N.2.2.2.1) (hk : mc + kc2 = kc) (hs : ms + ks2 = ks) (hE : Ev G N mc ms w 0 (sh_en N.2.2.2.1 As) [] (sh_is none w1)) (kk : Ev G M kc2 ks2 w1 (pc + 3) lv (rest) Q) : Ev G M kc ks w pc lv st Q := by
  subst hk; subst hs
  exact e_callS hN hrr d hl1 hl2 hn hst hcat har hE (fun v w' h => by obtain ⟨rfl, rfl⟩ := h; exact kk)
theorem f_callVi {As rest fs : List Value} {a ci idx n mc ms kc2 ks2 : Nat} {T : u_T} {K : Nat} {r : Int32} (hN : sh_ok N n) (hrr : sh_rr M N) (d : decode M.2.2.1 pc = .ok (.invokevirtual idx, 3)) (hl1 : Cond.methodLink M.1 idx N.2.1 ∈ lw_tbl) (hl2 : Cond.instanceMethod N.2.1 ∈ lw_tbl) (hl3 : Cond.selects N.2.1.cls N.2.1 N.2.1 ∈ lw_tbl) (hn : As.length = n) (hst : st = As.reverse ++ .ref a :: rest) (ha : w[a]? = some (.inl (ci, fs))) (hc : sh_cl[ci]? = some (N.2.1.cls, T, K)) (hcat : (rest.map fun v => v.category).sum ≤ 8) (har : (sh_ar (.ref a :: As)).length ≤ N.2.2.2.1) (hk : mc + kc2 = kc) (hs : ms + ks2 = ks) (hE : Ev G N mc ms w 0 (sh_en N.2.2.2.1 (.ref a :: As)) [] (sh_is (some (.int r)) w1)) (kk : Ev G M kc2 ks2 w1 (pc + 3) lv (.int r :: rest) Q) : Ev G M kc ks w pc lv st Q := by
  subst hk; subst hs
  exact e_callV hN hrr d hl1 hl2 hl3 ha hc hn hst hcat har hE (fun v w' h => by obtain ⟨rfl, rfl⟩ := h; exact kk)
theorem f_callVl {As rest fs : List Value} {a ci idx n mc ms kc2 ks2 : Nat} {T : u_T} {K : Nat} {r : Int64} (hN : sh_ok N n) (hrr : sh_rr M N) (d : decode M.2.2.1 pc = .ok (.invokevirtual idx, 3)) (hl1 : Cond.methodLink M.1 idx N.2.1 ∈ lw_tbl) (hl2 : Cond.instanceMethod N.2.1 ∈ lw_tbl) (hl3 : Cond.selects N.2.1.cls N.2.1 N.2.1 ∈ lw_tbl) (hn : As.length = n) (hst : st = As.reverse ++ .ref a :: rest) (ha : w[a]? = some (.inl (ci, fs))) (hc : sh_cl[ci]? = some (N.2.1.cls, T, K)) (hcat : (rest.map fun v => v.category).sum ≤ 8) (har : (sh_ar (.ref a :: As)).length ≤ N.2.2.2.1) (hk : mc + kc2 = kc) (hs : ms + ks2 = ks) (hE : Ev G N mc ms w 0 (sh_en N.2.2.2.1 (.ref a :: As)) [] (sh_is (some (.long r)) w1)) (kk : Ev G M kc2 ks2 w1 (pc + 3) lv (.long r :: rest) Q) : Ev G M kc ks w pc lv st Q := by
  subst hk; subst hs
  exact e_callV hN hrr d hl1 hl2 hl3 ha hc hn hst hcat har hE (fun v w' h => by obtain ⟨rfl, rfl⟩ := h; exact kk)
theorem f_callVv {As rest fs : List Value} {a ci idx n mc ms kc2 ks2 : Nat} {T : u_T} {K : Nat}  (hN : sh_ok N n) (hrr : sh_rr M N) (d : decode M.2.2.1 pc = .ok (.invokevirtual idx, 3)) (hl1 : Cond.methodLink M.1 idx N.2.1 ∈ lw_tbl) (hl2 : Cond.instanceMethod N.2.1 ∈ lw_tbl) (hl3 : Cond.selects N.2.1.cls N.2.1 N.2.1 ∈ lw_tbl) (hn : As.length = n) (hst : st = As.reverse ++ .ref a :: rest) (ha : w[a]? = some (.inl (ci, fs))) (hc : sh_cl[ci]? = some (N.2.1.cls, T, K)) (hcat : (rest.map fun v => v.category).sum ≤ 8) (har : (sh_ar (.ref a :: As)).length ≤ N.2.2.2.1) (hk : mc + kc2 = kc) (hs : ms + ks2 = ks) (hE : Ev G N mc ms w 0 (sh_en N.2.2.2.1 (.ref a :: As)) [] (sh_is none w1)) (kk : Ev G M kc2 ks2 w1 (pc + 3) lv (rest) Q) : Ev G M kc ks w pc lv st Q := by
  subst hk; subst hs
  exact e_callV hN hrr d hl1 hl2 hl3 ha hc hn hst hcat har hE (fun v w' h => by obtain ⟨rfl, rfl⟩ := h; exact kk)
theorem f_callVr {As rest fs : List Value} {a ci idx n mc ms kc2 ks2 : Nat} {T : u_T} {K : Nat} {r : Nat} (hN : sh_ok N n) (hrr : sh_rr M N) (d : decode M.2.2.1 pc = .ok (.invokevirtual idx, 3)) (hl1 : Cond.methodLink M.1 idx N.2.1 ∈ lw_tbl) (hl2 : Cond.instanceMethod N.2.1 ∈ lw_tbl) (hl3 : Cond.selects N.2.1.cls N.2.1 N.2.1 ∈ lw_tbl) (hn : As.length = n) (hst : st = As.reverse ++ .ref a :: rest) (ha : w[a]? = some (.inl (ci, fs))) (hc : sh_cl[ci]? = some (N.2.1.cls, T, K)) (hcat : (rest.map fun v => v.category).sum ≤ 8) (har : (sh_ar (.ref a :: As)).length ≤ N.2.2.2.1) (hk : mc + kc2 = kc) (hs : ms + ks2 = ks) (hE : Ev G N mc ms w 0 (sh_en N.2.2.2.1 (.ref a :: As)) [] (sh_is (some (.ref r)) w1)) (kk : Ev G M kc2 ks2 w1 (pc + 3) lv (.ref r :: rest) Q) : Ev G M kc ks w pc lv st Q := by
  subst hk; subst hs
  exact e_callV hN hrr d hl1 hl2 hl3 ha hc hn hst hcat har hE (fun v w' h => by obtain ⟨rfl, rfl⟩ := h; exact kk)
theorem f_callUi {As rest fs : List Value} {a ci idx n mc ms kc2 ks2 : Nat} {T : u_T} {K : Nat} {x : MethodName} {C : String} {r : Int32} (hN : sh_ok N n) (hrr : sh_rr M N) (d : decode M.2.2.1 pc = .ok (.invokevirtual idx, 3)) (hyx : N.2.1 = ⟨N.2.1.cls, x.name, x.desc⟩) (hl1 : Cond.methodLink M.1 idx x ∈ lw_tbl) (hl2 : Cond.instanceMethod N.2.1 ∈ lw_tbl) (hl3 : Cond.selects C x N.2.1 ∈ lw_tbl) (hl4 : Cond.sameMethod x.cls N.2.1.cls x.name x.desc ∈ lw_tbl) (hn : As.length = n) (hst : st = As.reverse ++ .ref a :: rest) (ha : w[a]? = some (.inl (ci, fs))) (hc : sh_cl[ci]? = some (C, T, K)) (hcat : (rest.map fun v => v.category).sum ≤ 8) (har : (sh_ar (.ref a :: As)).length ≤ N.2.2.2.1) (hk : mc + kc2 = kc) (hs : ms + ks2 = ks) (hE : Ev G N mc ms w 0 (sh_en N.2.2.2.1 (.ref a :: As)) [] (sh_is (some (.int r)) w1)) (kk : Ev G M kc2 ks2 w1 (pc + 3) lv (.int r :: rest) Q) : Ev G M kc ks w pc lv st Q := by
  subst hk; subst hs
  exact e_callU hN hrr d hyx hl1 hl2 hl3 hl4 ha hc hn hst hcat har hE (fun v w' h => by obtain ⟨rfl, rfl⟩ := h; exact kk)
theorem f_callOi {As rest fs : List Value} {a ci idx n mc ms kc2 ks2 : Nat} {T : u_T} {K : Nat} {x : MethodName} {C owner : String} {b0 : ByteArray} {m0 : Nat} {r0 : Option FieldType} {r : Int32} (hN : sh_ok N n) (hrr : sh_rr M N) (d : decode M.2.2.1 pc = .ok (.invokevirtual idx, 3)) (how : owner ≠ "java/lang/invoke/MethodHandle" ∧ owner ≠ "java/lang/invoke/VarHandle") (hxd : x.desc = N.2.1.desc) (h0 : Cond.code ⟨owner, x.name, x.desc⟩ b0 m0 r0 ∈ lw_tbl) (hl1 : Cond.methodLink M.1 idx x ∈ lw_tbl) (hl2 : Cond.instanceMethod N.2.1 ∈ lw_tbl) (hl3 : Cond.selects C x N.2.1 ∈ lw_tbl) (hl4 : Cond.sameMethod x.cls owner x.name x.desc ∈ lw_tbl) (hl5 : Cond.instanceMethod ⟨owner, x.name, x.desc⟩ ∈ lw_tbl) (hn : As.length = n) (hst : st = As.reverse ++ .ref a :: rest) (ha : w[a]? = some (.inl (ci, fs))) (hc : sh_cl[ci]? = some (C, T, K)) (hcat : (rest.map fun v => v.category).sum ≤ 8) (har : (sh_ar (.ref a :: As)).length ≤ N.2.2.2.1) (hk : mc + kc2 = kc) (hs : ms + ks2 = ks) (hE : Ev G N mc ms w 0 (sh_en N.2.2.2.1 (.ref a :: As)) [] (sh_is (some (.int r)) w1)) (kk : Ev G M kc2 ks2 w1 (pc + 3) lv (.int r :: rest) Q) : Ev G M kc ks w pc lv st Q := by
  subst hk; subst hs
  exact e_callO hN hrr d how hxd h0 hl1 hl2 hl3 hl4 hl5 ha hc hn hst hcat har hE (fun v w' h => by obtain ⟨rfl, rfl⟩ := h; exact kk)
theorem f_callIv {As rest : List Value} {a idx n mc ms kc2 ks2 : Nat}  (hN : sh_ok N n) (hret : N.2.2.2.2.1 = none) (hrr : sh_rr M N) (d : decode M.2.2.1 pc = .ok (.invokespecial idx, 3)) (hnm : N.2.1.name = "<init>") (hl1 : Cond.methodLink M.1 idx N.2.1 ∈ lw_tbl) (hl2 : Cond.instanceMethod N.2.1 ∈ lw_tbl) (hn : As.length = n) (hst : st = As.reverse ++ .ref a :: rest) (hcat : (rest.map fun v => v.category).sum ≤ 8) (har : (sh_ar (.ref a :: As)).length ≤ N.2.2.2.1) (hk : mc + kc2 = kc) (hs : ms + ks2 = ks) (hE : Ev G N mc ms w 0 (sh_en N.2.2.2.1 (.ref a :: As)) [] (sh_is none w1)) (kk : Ev G M kc2 ks2 w1 (pc + 3) lv (rest) Q) : Ev G M kc ks w pc lv st Q := by
  subst hk; subst hs
  exact e_callI hN hret hrr d hnm hl1 hl2 hn hst hcat har hE (fun v w' h => by obtain ⟨rfl, rfl⟩ := h; exact kk)
theorem f_callINv {As rest : List Value} {a idx n mc ms kc2 ks2 : Nat} {host : String}  (hN : sh_ok N n) (hret : N.2.2.2.2.1 = none) (hrr : sh_rr M N) (d : decode M.2.2.1 pc = .ok (.invokespecial idx, 3)) (hnm : N.2.1.name = "<init>") (hl1 : (M.1, idx, N.2.1, host) ∈ sh_nl) (hl2 : Cond.instanceMethod N.2.1 ∈ lw_tbl) (hn : As.length = n) (hst : st = As.reverse ++ .ref a :: rest) (hcat : (rest.map fun v => v.category).sum ≤ 8) (har : (sh_ar (.ref a :: As)).length ≤ N.2.2.2.1) (hk : mc + kc2 = kc) (hs : ms + ks2 = ks) (hE : Ev G N mc ms w 0 (sh_en N.2.2.2.1 (.ref a :: As)) [] (sh_is none w1)) (kk : Ev G M kc2 ks2 w1 (pc + 3) lv (rest) Q) : Ev G M kc ks w pc lv st Q := by
  subst hk; subst hs
  exact e_callIN hN hret hrr d hnm hl1 hl2 hn hst hcat har hE (fun v w' h => by obtain ⟨rfl, rfl⟩ := h; exact kk)
theorem f_callPi {As rest fs : List Value} {a ci idx n mc ms kc2 ks2 : Nat} {T : u_T} {K : Nat} {C : String} {r : Int32} (hN : sh_ok N n) (hrr : sh_rr M N) (d : decode M.2.2.1 pc = .ok (.invokespecial idx, 3)) (hnm : N.2.1.name ≠ "<init>") (hl1 : Cond.methodLink M.1 idx N.2.1 ∈ lw_tbl) (hl2 : Cond.instanceMethod N.2.1 ∈ lw_tbl) (hl3 : Cond.sameMethod N.2.1.cls N.2.1.cls N.2.1.name N.2.1.desc ∈ lw_tbl) (hl4 : Cond.superclass M.1 N.2.1.cls ∈ lw_tbl) (hn : As.length = n) (hst : st = As.reverse ++ .ref a :: rest) (ha : w[a]? = some (.inl (ci, fs))) (hc : sh_cl[ci]? = some (C, T, K)) (hcat : (rest.map fun v => v.category).sum ≤ 8) (har : (sh_ar (.ref a :: As)).length ≤ N.2.2.2.1) (hk : mc + kc2 = kc) (hs : ms + ks2 = ks) (hE : Ev G N mc ms w 0 (sh_en N.2.2.2.1 (.ref a :: As)) [] (sh_is (some (.int r)) w1)) (kk : Ev G M kc2 ks2 w1 (pc + 3) lv (.int r :: rest) Q) : Ev G M kc ks w pc lv st Q := by
  subst hk; subst hs
  exact e_callP hN hrr d hnm hl1 hl2 hl3 hl4 ha hc hn hst hcat har hE (fun v w' h => by obtain ⟨rfl, rfl⟩ := h; exact kk)
end SHW
def sh_shs : Nat → Option Nat := va_up (va_up (va_up (va_up (fun _ => none) 0 (some 16)) 1 (some 18)) 2 (some 20)) 3 (some 22)
/-- the world behind the constructors: scalars S, rows A, the long row Lg, the doors' places P, what was made since T -/
def mkW (G : sh_G) (S : Nat → Int32) (A : Nat → Nat → Int32) (Lg : Nat → Int64) (P : Nat → Option Nat) (T : List sh_C) : List sh_C :=
  .inr (9, G.2.2.2.2.2.1, .inl G.2.2.2.2.2.2) ::
  .inl (9, [.ref 2, .ref 3, .ref 5, .ref 10, .ref 15, .int (S 0)]) ::
  .inr (4, 4, .inr (.inr (.inr (.inr sh_shs)))) ::
  .inl (1, [.int (S 1), .int (S 2), .ref 4]) ::
  .inr (3, 8, .inr (.inr (.inr (.inr P)))) ::
  .inl (0, [.int (S 3), .int (S 4), .ref 6, .ref 7, .ref 8, .ref 9]) ::
  .inr (0, 4, .inl (A 0)) ::
  .inr (0, 4, .inl (A 1)) ::
  .inr (0, 4, .inl (A 2)) ::
  .inr (0, 4, .inl (A 3)) ::
  .inl (2, [.ref 11, .ref 12, .ref 13, .ref 14, .int (S 5), .int (S 6), .int (S 7), .int (S 8), .int (S 9)]) ::
  .inr (0, 14406, .inl (A 4)) ::
  .inr (0, 14406, .inl (A 5)) ::
  .inr (2, 384, .inr (.inl Lg)) ::
  .inr (0, 4, .inl (A 6)) ::
  .inl (6, [.int (S 10)]) ::
  .inl (3, [.ref 17, .int (S 11), .int (S 15)]) ::
  .inr (0, 60, .inl (A 7)) ::
  .inl (3, [.ref 19, .int (S 12), .int (S 16)]) ::
  .inr (0, 60, .inl (A 8)) ::
  .inl (3, [.ref 21, .int (S 13), .int (S 17)]) ::
  .inr (0, 60, .inl (A 9)) ::
  .inl (3, [.ref 23, .int (S 14), .int (S 18)]) ::
  .inr (0, 60, .inl (A 10)) ::
  .inl (10, [.int (S 20), .int (S 21), .int (S 22), .ref 25, .ref 26, .ref 27, .int (S 23), .int (S 24), .int (S 25), .ref 28, .ref 29, .ref 30, .int (S 26), .ref 31, .ref 32, .int (S 27), .ref 33, .ref 34, .int (S 28), .int (S 29), .int (S 30), .ref 35, .ref 36, .ref 37, .ref 38, .ref 39, .ref 40, .ref 41, .int (S 31), .ref 42, .ref 43, .ref 44, .ref 45, .ref 46, .int (S 32)]) ::
  .inr (0, 8, .inl (A 20)) ::
  .inr (0, 16, .inl (A 21)) ::
  .inr (0, 8, .inl (A 22)) ::
  .inr (0, 8, .inl (A 23)) ::
  .inr (0, 16, .inl (A 24)) ::
  .inr (0, 8, .inl (A 25)) ::
  .inr (0, 4, .inl (A 26)) ::
  .inr (0, 4, .inl (A 27)) ::
  .inr (0, 4, .inl (A 28)) ::
  .inr (0, 4, .inl (A 29)) ::
  .inr (0, 4, .inl (A 30)) ::
  .inr (0, 4, .inl (A 31)) ::
  .inr (1, 4, .inl (A 32)) ::
  .inr (0, 14406, .inl (A 33)) ::
  .inr (0, 14406, .inl (A 34)) ::
  .inr (0, 14406, .inl (A 35)) ::
  .inr (1, 14406, .inl (A 36)) ::
  .inr (0, 14406, .inl (A 37)) ::
  .inr (0, 4, .inl (A 38)) ::
  .inr (0, 4, .inl (A 39)) ::
  .inr (0, 240, .inl (A 40)) ::
  .inr (0, 60, .inl (A 41)) :: T
