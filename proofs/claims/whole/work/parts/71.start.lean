/-! from the law's entry -/
theorem st_cls {s : State} {args : Array Value} (hts : ∀ w ∈ lw_g, w.before args s = true) {M : sh_M} {idx ci N : Nat} {fs : List Value} (h : sh_nw M idx ci N fs) : ∃ d : ClassId × (Nat → Nat), ∀ q, sh_cl[ci]? = some q → u_Kn s q.1 q.2.1 q.2.2 d.1 d.2 := by
  obtain ⟨C, T, tf, f1, f2, f3, f4, f5, -⟩ := h
  obtain ⟨cC, iS, hk⟩ := u_known (n := N) hts f5 (hts _ (lw_g_of f3 rfl))
  exact ⟨(cC, iS), fun q hq => by rw [f1] at hq; cases hq; exact hk⟩
theorem st_all {s : State} {args : Array Value} (hts : ∀ w ∈ lw_g, w.before args s = true) : ∀ c : Nat, ∃ d : ClassId × (Nat → Nat), ∀ q, sh_cl[c]? = some q → u_Kn s q.1 q.2.1 q.2.2 d.1 d.2
  | 0 => st_cls hts kn_X9_init_24
  | 1 => st_cls hts kn_X9_init_17
  | 2 => st_cls hts kn_X9_init_31
  | 3 => st_cls hts kn_X9_init_11
  | 4 => st_cls hts kn_X5_door_36
  | 5 => st_cls hts kn_X9_house_50
  | 6 => st_cls hts kn_X9_init_38
  | 7 => st_cls hts kn_X5_door_41
  | 8 => st_cls hts kn_X5_door_44
  | 9 => st_cls hts kn_L_law_7
  | 10 => st_cls hts kn_L_law_10
  | c + 11 => ⟨(0, fun _ => 0), fun q h => by cases h⟩
theorem st_arr {s : State} {args : Array Value} {ty : FieldType} (h : (Cond.arrayClass ty).before args s = true) (hn : ∀ C, ty ≠ .object C) : ∃ cA : ClassId, ArrOfT s cA ty ∧ va_RA s cA ty := by
  obtain ⟨c, k, comp, h1, h2, h3⟩ := Cond.arrayClass_spec h
  refine ⟨c, fun N z => ⟨(fun k h => by cases h), k, h2, comp, h3⟩, ?_⟩
  cases ty with
  | object C => exact absurd rfl (hn C)
  | _ => exact h1
theorem st_arrO {s : State} {args : Array Value} {C : String} (h : (Cond.arrayOver (.object C)).before args s = true) : ∃ cA : ClassId, ArrOfT s cA (.object C) ∧ va_RA s cA (.object C) := by
  obtain ⟨comp, c, k, h1, h2, h3, h4, h5⟩ := Cond.arrayOver_spec h
  exact ⟨c, fun N z => ⟨(fun k h => by cases h), k, h3, comp, h4⟩, k, comp, h3, h4, h1, h5⟩
theorem st_aoRX3 : Cond.arrayOver (.object RX3) ∈ lw_tbl := List.mem_of_getElem? (i := 76) (by decide +kernel)
theorem st_aoRX4 : Cond.arrayOver (.object RX4) ∈ lw_tbl := List.mem_of_getElem? (i := 84) (by decide +kernel)
theorem st_ca7 : Cond.castable RX7 RX4 ∈ lw_tbl := List.mem_of_getElem? (i := 1125) (by decide +kernel)
theorem st_ca8 : Cond.castable RX8 RX4 ∈ lw_tbl := List.mem_of_getElem? (i := 1126) (by decide +kernel)
theorem st_nl0 : Cond.methodLinkNest RX9 19 yX1_init RX9 ∈ lw_tbl := List.mem_of_getElem? (i := 79) (by decide +kernel)
theorem st_nl1 : Cond.methodLinkNest RX9 26 yX0_init RX9 ∈ lw_tbl := List.mem_of_getElem? (i := 102) (by decide +kernel)
theorem st_nl2 : Cond.methodLinkNest RX9 33 yX2_init RX9 ∈ lw_tbl := List.mem_of_getElem? (i := 134) (by decide +kernel)
theorem st_nl3 : Cond.methodLinkNest RX9 40 yX6_init RX9 ∈ lw_tbl := List.mem_of_getElem? (i := 169) (by decide +kernel)
theorem st_nl4 : Cond.methodLinkNest RX9 45 yX3_init RX9 ∈ lw_tbl := List.mem_of_getElem? (i := 179) (by decide +kernel)
theorem st_nl {s : State} {args : Array Value} (hts : ∀ w ∈ lw_tbl, w.before args s = true) : ∀ q ∈ sh_nl, va_Nw (.methodLinkNest q.1 q.2.1 q.2.2.1 q.2.2.2) s := by
  refine List.forall_mem_cons.mpr ⟨va_Nw.of rfl (hts _ st_nl0), List.forall_mem_cons.mpr ⟨va_Nw.of rfl (hts _ st_nl1), List.forall_mem_cons.mpr ⟨va_Nw.of rfl (hts _ st_nl2), List.forall_mem_cons.mpr ⟨va_Nw.of rfl (hts _ st_nl3), List.forall_mem_cons.mpr ⟨va_Nw.of rfl (hts _ st_nl4), fun _ h => absurd h List.not_mem_nil⟩⟩⟩⟩⟩
theorem st_sx {s : State} {args : Array Value} {l : Launch} {b L : Nat} {xs : Nat → Int32} (hts : ∀ w ∈ lw_tbl, w.before args s = true) (hX : va_X b L xs s s.heap) (hb : b < s.heap.size) : ∃ G : sh_G, G.1 = l ∧ sh_b G = b ∧ sh_B G = s.heap.size ∧ G.2.2.2.2.2.1 = L ∧ G.2.2.2.2.2.2 = xs ∧ sh_sx G s := by
  have hg : ∀ w ∈ lw_g, w.before args s = true := fun w hw => hts w (List.mem_filter.mp hw).1
  have hK := st_all hg
  obtain ⟨i0, a0⟩ := st_arr (hts _ kr_int) (fun C h => by cases h)
  obtain ⟨i1, a1⟩ := st_arr (hts _ kr_boolean) (fun C h => by cases h)
  obtain ⟨i2, a2⟩ := st_arr (hts _ kr_long) (fun C h => by cases h)
  obtain ⟨i3, a3⟩ := st_arrO (hts _ st_aoRX4)
  obtain ⟨i4, a4⟩ := st_arrO (hts _ st_aoRX3)
  have hKn : ∀ (c : Nat) (q : vw_C), sh_cl[c]? = some q → u_Kn s q.1 q.2.1 q.2.2 (Classical.choose (hK c)).1 (Classical.choose (hK c)).2 := fun c q hq => Classical.choose_spec (hK c) q hq
  have f4 : s.vm.findClass RX4 = some (Classical.choose (hK 4)).1 := (hKn 4 _ rfl).2.1
  have f7 : s.vm.findClass RX7 = some (Classical.choose (hK 7)).1 := (hKn 7 _ rfl).2.1
  have f8 : s.vm.findClass RX8 = some (Classical.choose (hK 8)).1 := (hKn 8 _ rfl).2.1
  refine ⟨(l, (fun c => (Classical.choose (hK c)).1, fun c => (Classical.choose (hK c)).2), (fun k => if k = 0 then i0 else if k = 1 then i1 else if k = 2 then i2 else if k = 3 then i3 else i4), b, s.heap.size, L, xs), rfl, rfl, rfl, rfl, rfl, ⟨hKn, ?_⟩, hX, hb, Nat.le_refl _, st_nl hts, va_AO.of (hts _ st_aoRX4), va_AO.of (hts _ st_aoRX3), ?_⟩
  · intro k q hq
    match k, hq with
    | 0, hq => cases hq; exact a0
    | 1, hq => cases hq; exact a1
    | 2, hq => cases hq; exact a2
    | 3, hq => cases hq; exact a3
    | 4, hq => cases hq; exact a4
    | k + 5, hq => cases hq
  · rintro k (rfl | rfl | rfl)
    · exact va_asg _ _
    · exact vb_asgC (va_Nw.of rfl (hts _ st_ca7)) _ _ f4 f7
    · exact vb_asgC (va_Nw.of rfl (hts _ st_ca8)) _ _ f4 f8