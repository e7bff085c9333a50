set_option maxRecDepth 4000 in
theorem sp_X10_person {G : sh_G} {S : Nat → Int32} {A : Nat → Nat → Int32} {Lg : Nat → Int64} {P : Nat → Option Nat} {T : List sh_C} {b : sh_be} {w r : Int32} (hR : RM S A b) (hI : IV b) : Ev G mX10_person 0 0 (mkW G S A Lg P T) 0 [some (.ref 24), some (.int w), some (.int r)] [] (QM G S A Lg P T (some (.int (oPerson b w r).1)) (oPerson b w r).2) := by
  have e1 := hR.2.1
  have e2 := hR.2.2.1
  have e3 := hR.2.2.2.1
  have e4 := hR.2.2.2.2.1
  have i1 := hI.1
  have i2 := hI.2.1
  have i3 := hI.2.2.1
  have i4 := hI.2.2.2.1
  refine e_aload_n 0 dX10_person_0 rfl rfl ?_
  refine e_iload_n 2 dX10_person_1 rfl rfl ?_
  refine f_callVi (As := [_]) ok_X10_noRoom ⟨Nat.le_of_ble_eq_true rfl, Nat.le_of_ble_eq_true rfl⟩ dX10_person_2 kl_X10_167 ki_X10_noRoom kv_X10_noRoom rfl rfl rfl rfl (Nat.le_of_ble_eq_true rfl) (Nat.le_of_ble_eq_true rfl) (Nat.zero_add _) (Nat.zero_add _) (sp_X10_noRoom hR hI) ?_
  refine e_if_eq (tgt := 10) dX10_person_5 rfl (fun h5 => ?_) (fun h5 => ?_)
  · have h5 := Classical.not_not.mp (bi_0.mp h5)
    refine e_iload_n 1 dX10_person_10 rfl rfl ?_
    refine e_i2l dX10_person_11 ?_
    refine e_ldc2 dX10_person_12 kc_X10_170 ?_
    refine e_ldc2 dX10_person_15 kc_X10_172 ?_
    refine f_callSi (As := [_, _, _]) ok_X10_in ⟨Nat.le_of_ble_eq_true rfl, Nat.le_of_ble_eq_true rfl⟩ dX10_person_18 kl_X10_97 ks_X10_in rfl rfl (Nat.le_of_ble_eq_true rfl) (Nat.le_of_ble_eq_true rfl) (Nat.zero_add _) (Nat.zero_add _) sp_X10_in ?_
    rw [inC (a' := 10) (b' := 99) (by decide) (by decide)]
    refine e_if_ne (tgt := 27) dX10_person_21 rfl (fun h21 => ?_) (fun h21 => ?_)
    · refine e_aload_n 0 dX10_person_27 rfl rfl ?_
      refine e_getfield 12 dX10_person_28 kf_X10_145_10 rfl rfl ?_
      refine e_iconst (v := 4) dX10_person_31 rfl ?_
      refine e_icmp_ne (tgt := 38) dX10_person_32 rfl (fun h32 => ?_) (fun h32 => ?_)
      · have h4 : bn b 2 < 4 := by
          rw [e3] at h32
          have : bn b 2 ≠ 4 := fun q => h32 (by rw [q]; rfl)
          omega
        obtain ⟨j, hj, rfl⟩ := ix_of (x := r) rfl (by omega) h5
        obtain ⟨m, hm, rfl⟩ := ix_of (x := w) (n := 100) rfl (by omega) ⟨fun h => (bi_1.mp h21).1 (i_t1 h), fun h => (bi_1.mp h21).2 (i_t2 h)⟩
        refine e_aload_n 0 dX10_person_38 rfl rfl ?_
        refine e_getfield 13 dX10_person_39 kf_X10_28_10 rfl rfl ?_
        refine e_aload_n 0 dX10_person_42 rfl rfl ?_
        refine e_getfield 12 dX10_person_43 kf_X10_145_10 rfl rfl ?_
        refine e_iload_n 1 dX10_person_46 rfl rfl ?_
        refine e_iast_n (bn b 2) dX10_person_47 rfl e3 (by omega) (by decide) ?_
        refine e_w (w' := mkW G S (va_up A 26 (upd (A 26) (bn b 2) (nI m))) Lg P T) rfl ?_
        refine e_aload_n 0 dX10_person_48 rfl rfl ?_
        refine e_getfield 14 dX10_person_49 kf_X10_31_10 rfl rfl ?_
        refine e_aload_n 0 dX10_person_52 rfl rfl ?_
        refine e_getfield 12 dX10_person_53 kf_X10_145_10 rfl rfl ?_
        refine e_iload_n 2 dX10_person_56 rfl rfl ?_
        refine e_iast_n (bn b 2) dX10_person_57 rfl e3 (by omega) (by decide) ?_
        refine e_w (w' := mkW G S (va_up (va_up A 26 (upd (A 26) (bn b 2) (nI m))) 27 (upd (A 27) (bn b 2) (nI j))) Lg P T) rfl ?_
        refine e_aload_n 0 dX10_person_58 rfl rfl ?_
        refine e_dup dX10_person_59 rfl ?_
        refine e_getfield 12 dX10_person_60 kf_X10_145_10 rfl rfl ?_
        refine e_iconst (v := 1) dX10_person_63 rfl ?_
        refine e_iadd dX10_person_64 ?_
        refine e_putfield 12 dX10_person_65 kp_X10_person_145_10 (sh_fit_i _) rfl (Nat.le_of_ble_eq_true rfl) ?_
        refine e_w (w' := mkW G (va_up S 26 (nI (bn b 2 + 1))) (va_up (va_up A 26 (upd (A 26) (bn b 2) (nI m))) 27 (upd (A 27) (bn b 2) (nI j))) Lg P T) (by rw [e3, nI_1]; rfl) ?_
        refine e_aload_n 0 dX10_person_68 rfl rfl ?_
        refine e_getfield 12 dX10_person_69 kf_X10_145_10 rfl rfl ?_
        refine e_iconst (v := 1) dX10_person_72 rfl ?_
        refine e_isub dX10_person_73 ?_
        refine e_iret dX10_person_74 rfl ?_
        have ho : oPerson b (nI m) (nI j) = (nI (bn b 2), uN_ (uA_ (uA_ b 4 (bn b 2) m) 5 (bn b 2) j) 2 (bn b 2 + 1)) := by
          rw [oPerson, if_neg (nn_ h5), if_neg (nn_ (bi_1.mp h21)), if_neg (by omega), nI_clamp (by omega), nI_clamp (by omega)]
        rw [ho]
        exact ⟨_, _, rfl, congrArg some (congrArg Value.int ((pk_sub (show 1 ≤ bn b 2 + 1 by omega)).trans (congrArg nI (show bn b 2 + 1 - 1 = bn b 2 by omega)))), hR.per m j, (FM.S (by omega)).tr ((FM.A (by omega)).tr (FM.A (by omega)))⟩
      · refine e_bipush (v := -4) dX10_person_35 (by decide) ?_
        refine e_iret dX10_person_37 rfl ?_
        have ho : oPerson b w r = (-4, b) := by
          rw [e3] at h32
          have h4 := (nI_eq (b := 4) (by omega) (by omega)).mp h32
          rw [oPerson, if_neg (nn_ h5), if_neg (nn_ (bi_1.mp h21)), if_pos (by omega)]
        rw [ho]
        exact ⟨S, A, rfl, rfl, hR, FM.rf⟩
    · refine e_bipush (v := -2) dX10_person_24 (by decide) ?_
      refine e_iret dX10_person_26 rfl ?_
      have ho : oPerson b w r = (-2, b) := by
        rw [oPerson, if_neg (nn_ h5), if_pos (bi_0.mp h21)]
      rw [ho]
      exact ⟨S, A, rfl, rfl, hR, FM.rf⟩
  · refine e_iconst (v := -1) dX10_person_8 rfl ?_
    refine e_iret dX10_person_9 rfl ?_
    have ho : oPerson b w r = (-1, b) := by
      rw [oPerson, if_pos (bi_1.mp h5)]
    rw [ho]
    exact ⟨S, A, rfl, rfl, hR, FM.rf⟩

set_option maxRecDepth 4000 in
theorem sp_X10_stone {G : sh_G} {S : Nat → Int32} {A : Nat → Nat → Int32} {Lg : Nat → Int64} {P : Nat → Option Nat} {T : List sh_C} {b : sh_be} {w r : Int32} (hR : RM S A b) (hI : IV b) : Ev G mX10_stone 0 0 (mkW G S A Lg P T) 0 [some (.ref 24), some (.int w), some (.int r)] [] (QM G S A Lg P T (some (.int (oStone b w r).1)) (oStone b w r).2) := by
  have e1 := hR.2.1
  have e2 := hR.2.2.1
  have e3 := hR.2.2.2.1
  have e4 := hR.2.2.2.2.1
  have i1 := hI.1
  have i2 := hI.2.1
  have i3 := hI.2.2.1
  have i4 := hI.2.2.2.1
  refine e_aload_n 0 dX10_stone_0 rfl rfl ?_
  refine e_iload_n 2 dX10_stone_1 rfl rfl ?_
  refine f_callVi (As := [_]) ok_X10_noRoom ⟨Nat.le_of_ble_eq_true rfl, Nat.le_of_ble_eq_true rfl⟩ dX10_stone_2 kl_X10_167 ki_X10_noRoom kv_X10_noRoom rfl rfl rfl rfl (Nat.le_of_ble_eq_true rfl) (Nat.le_of_ble_eq_true rfl) (Nat.zero_add _) (Nat.zero_add _) (sp_X10_noRoom hR hI) ?_
  refine e_if_eq (tgt := 10) dX10_stone_5 rfl (fun h5 => ?_) (fun h5 => ?_)
  · have h5 := Classical.not_not.mp (bi_0.mp h5)
    refine e_iload_n 1 dX10_stone_10 rfl rfl ?_
    refine e_i2l dX10_stone_11 ?_
    refine e_lconst (v := 1) dX10_stone_12 rfl ?_
    refine e_ldc2 dX10_stone_13 kc_X10_174 ?_
    refine f_callSi (As := [_, _, _]) ok_X10_in ⟨Nat.le_of_ble_eq_true rfl, Nat.le_of_ble_eq_true rfl⟩ dX10_stone_16 kl_X10_97 ks_X10_in rfl rfl (Nat.le_of_ble_eq_true rfl) (Nat.le_of_ble_eq_true rfl) (Nat.zero_add _) (Nat.zero_add _) sp_X10_in ?_
    rw [inC (a' := 1) (b' := 20) (by decide) (by decide)]
    refine e_if_ne (tgt := 25) dX10_stone_19 rfl (fun h19 => ?_) (fun h19 => ?_)
    · refine e_aload_n 0 dX10_stone_25 rfl rfl ?_
      refine e_getfield 15 dX10_stone_26 kf_X10_148_10 rfl rfl ?_
      refine e_iconst (v := 4) dX10_stone_29 rfl ?_
      refine e_icmp_ne (tgt := 36) dX10_stone_30 rfl (fun h30 => ?_) (fun h30 => ?_)
      · have h4 : bn b 3 < 4 := by
          rw [e4] at h30
          have : bn b 3 ≠ 4 := fun q => h30 (by rw [q]; rfl)
          omega
        obtain ⟨j, hj, rfl⟩ := ix_of (x := r) rfl (by omega) h5
        obtain ⟨m, hm, rfl⟩ := ix_of (x := w) (n := 21) rfl (by omega) ⟨fun h => (bi_1.mp h19).1 (i_t3 h), fun h => (bi_1.mp h19).2 (i_t4 h)⟩
        refine e_aload_n 0 dX10_stone_36 rfl rfl ?_
        refine e_getfield 16 dX10_stone_37 kf_X10_34_10 rfl rfl ?_
        refine e_aload_n 0 dX10_stone_40 rfl rfl ?_
        refine e_getfield 15 dX10_stone_41 kf_X10_148_10 rfl rfl ?_
        refine e_iload_n 1 dX10_stone_44 rfl rfl ?_
        refine e_iast_n (bn b 3) dX10_stone_45 rfl e4 (by omega) (by decide) ?_
        refine e_w (w' := mkW G S (va_up A 28 (upd (A 28) (bn b 3) (nI m))) Lg P T) rfl ?_
        refine e_aload_n 0 dX10_stone_46 rfl rfl ?_
        refine e_getfield 17 dX10_stone_47 kf_X10_37_10 rfl rfl ?_
        refine e_aload_n 0 dX10_stone_50 rfl rfl ?_
        refine e_getfield 15 dX10_stone_51 kf_X10_148_10 rfl rfl ?_
        refine e_iload_n 2 dX10_stone_54 rfl rfl ?_
        refine e_iast_n (bn b 3) dX10_stone_55 rfl e4 (by omega) (by decide) ?_
        refine e_w (w' := mkW G S (va_up (va_up A 28 (upd (A 28) (bn b 3) (nI m))) 29 (upd (A 29) (bn b 3) (nI j))) Lg P T) rfl ?_
        refine e_aload_n 0 dX10_stone_56 rfl rfl ?_
        refine e_dup dX10_stone_57 rfl ?_
        refine e_getfield 15 dX10_stone_58 kf_X10_148_10 rfl rfl ?_
        refine e_iconst (v := 1) dX10_stone_61 rfl ?_
        refine e_iadd dX10_stone_62 ?_
        refine e_putfield 15 dX10_stone_63 kp_X10_stone_148_10 (sh_fit_i _) rfl (Nat.le_of_ble_eq_true rfl) ?_
        refine e_w (w' := mkW G (va_up S 27 (nI (bn b 3 + 1))) (va_up (va_up A 28 (upd (A 28) (bn b 3) (nI m))) 29 (upd (A 29) (bn b 3) (nI j))) Lg P T) (by rw [e4, nI_1]; rfl) ?_
        refine e_aload_n 0 dX10_stone_66 rfl rfl ?_
        refine e_getfield 15 dX10_stone_67 kf_X10_148_10 rfl rfl ?_
        refine e_iconst (v := 1) dX10_stone_70 rfl ?_
        refine e_isub dX10_stone_71 ?_
        refine e_iret dX10_stone_72 rfl ?_
        have ho : oStone b (nI m) (nI j) = (nI (bn b 3), uN_ (uA_ (uA_ b 6 (bn b 3) m) 7 (bn b 3) j) 3 (bn b 3 + 1)) := by
          rw [oStone, if_neg (nn_ h5), if_neg (nn_ (bi_1.mp h19)), if_neg (by omega), nI_clamp (by omega), nI_clamp (by omega)]
        rw [ho]
        exact ⟨_, _, rfl, congrArg some (congrArg Value.int ((pk_sub (show 1 ≤ bn b 3 + 1 by omega)).trans (congrArg nI (show bn b 3 + 1 - 1 = bn b 3 by omega)))), hR.sto m j, (FM.S (by omega)).tr ((FM.A (by omega)).tr (FM.A (by omega)))⟩
      · refine e_bipush (v := -4) dX10_stone_33 (by decide) ?_
        refine e_iret dX10_stone_35 rfl ?_
        have ho : oStone b w r = (-4, b) := by
          rw [e4] at h30
          have h4 := (nI_eq (b := 4) (by omega) (by omega)).mp h30
          rw [oStone, if_neg (nn_ h5), if_neg (nn_ (bi_1.mp h19)), if_pos (by omega)]
        rw [ho]
        exact ⟨S, A, rfl, rfl, hR, FM.rf⟩
    · refine e_bipush (v := -2) dX10_stone_22 (by decide) ?_
      refine e_iret dX10_stone_24 rfl ?_
      have ho : oStone b w r = (-2, b) := by
        rw [oStone, if_neg (nn_ h5), if_pos (bi_0.mp h19)]
      rw [ho]
      exact ⟨S, A, rfl, rfl, hR, FM.rf⟩
  · refine e_iconst (v := -1) dX10_stone_8 rfl ?_
    refine e_iret dX10_stone_9 rfl ?_
    have ho : oStone b w r = (-1, b) := by
      rw [oStone, if_pos (bi_1.mp h5)]
    rw [ho]
    exact ⟨S, A, rfl, rfl, hR, FM.rf⟩

set_option maxRecDepth 4000 in
theorem sp_X10_ofPerson {G : sh_G} {S : Nat → Int32} {A : Nat → Nat → Int32} {Lg : Nat → Int64} {P : Nat → Option Nat} {T : List sh_C} {b : sh_be} {p what : Int32} (hR : RM S A b) (hI : IV b) : Ev G mX10_ofPerson 0 0 (mkW G S A Lg P T) 0 [some (.ref 24), some (.int p), some (.int what)] [] (sh_is (some (.int (oOfPerson b p what))) (mkW G S A Lg P T)) := by
  have e1 := hR.2.1
  have e2 := hR.2.2.1
  have e3 := hR.2.2.2.1
  have e4 := hR.2.2.2.2.1
  have i1 := hI.1
  have i2 := hI.2.1
  have i3 := hI.2.2.1
  have i4 := hI.2.2.2.1
  refine e_aload_n 0 dX10_ofPerson_0 rfl rfl ?_
  refine e_iload_n 1 dX10_ofPerson_1 rfl rfl ?_
  refine f_callVi (As := [_]) ok_X10_noPerson ⟨Nat.le_of_ble_eq_true rfl, Nat.le_of_ble_eq_true rfl⟩ dX10_ofPerson_2 kl_X10_176 ki_X10_noPerson kv_X10_noPerson rfl rfl rfl rfl (Nat.le_of_ble_eq_true rfl) (Nat.le_of_ble_eq_true rfl) (Nat.zero_add _) (Nat.zero_add _) (sp_X10_noPerson hR hI) ?_
  refine e_if_eq (tgt := 10) dX10_ofPerson_5 rfl (fun h5 => ?_) (fun h5 => ?_)
  · have h5 := Classical.not_not.mp (bi_0.mp h5)
    obtain ⟨q, hq, rfl⟩ := ix_of (x := p) rfl (by omega) h5
    obtain ⟨p1, p2, p3, p4, p5, p6, p7, p8⟩ := hR.pe hI hq
    refine e_iload_n 2 dX10_ofPerson_10 rfl rfl ?_
    by_cases c0 : what = 0
    · subst c0
      refine e_tableIn (off := 29) (tgt := 40) dX10_ofPerson_11 (by decide) (by decide) (by decide) rfl ?_
      refine e_aload_n 0 dX10_ofPerson_40 rfl rfl ?_
      refine e_getfield 13 dX10_ofPerson_41 kf_X10_28_10 rfl rfl ?_
      refine e_iload_n 1 dX10_ofPerson_44 rfl rfl ?_
      refine e_iald_n (q) dX10_ofPerson_45 rfl rfl (by omega) (by decide) ?_
      refine e_iret dX10_ofPerson_46 rfl ?_
      exact is_i (by rw [oOfPerson, if_neg (nn_ h5), if_pos rfl, nI_clamp (by omega)]; exact p1) rfl
    by_cases c1 : what = 1
    · subst c1
      refine e_tableIn (off := 36) (tgt := 47) dX10_ofPerson_11 (by decide) (by decide) (by decide) rfl ?_
      refine e_aload_n 0 dX10_ofPerson_47 rfl rfl ?_
      refine e_getfield 14 dX10_ofPerson_48 kf_X10_31_10 rfl rfl ?_
      refine e_iload_n 1 dX10_ofPerson_51 rfl rfl ?_
      refine e_iald_n (q) dX10_ofPerson_52 rfl rfl (by omega) (by decide) ?_
      refine e_iret dX10_ofPerson_53 rfl ?_
      exact is_i (by rw [oOfPerson, if_neg (nn_ h5), if_neg c0, if_pos rfl, nI_clamp (by omega)]; exact p2) rfl
    by_cases c2 : what = 2
    · subst c2
      refine e_tableIn (off := 43) (tgt := 54) dX10_ofPerson_11 (by decide) (by decide) (by decide) rfl ?_
      refine e_aload_n 0 dX10_ofPerson_54 rfl rfl ?_
      refine e_iload_n 1 dX10_ofPerson_55 rfl rfl ?_
      refine f_callVi (As := [_]) ok_X10_carriedBy ⟨Nat.le_of_ble_eq_true rfl, Nat.le_of_ble_eq_true rfl⟩ dX10_ofPerson_56 kl_X10_179 ki_X10_carriedBy kv_X10_carriedBy rfl rfl rfl rfl (Nat.le_of_ble_eq_true rfl) (Nat.le_of_ble_eq_true rfl) (Nat.zero_add _) (Nat.zero_add _) (sp_X10_carriedBy hR hI (by omega)) ?_
      refine e_iret dX10_ofPerson_59 rfl ?_
      exact is_i (by rw [oOfPerson, if_neg (nn_ h5), if_neg c0, if_neg c1, if_pos rfl, nI_clamp (by omega)]) rfl
    by_cases c3 : what = 3
    · subst c3
      refine e_tableIn (off := 49) (tgt := 60) dX10_ofPerson_11 (by decide) (by decide) (by decide) rfl ?_
      refine e_aload_n 0 dX10_ofPerson_60 rfl rfl ?_
      refine e_iload_n 1 dX10_ofPerson_61 rfl rfl ?_
      refine f_callVi (As := [_]) ok_X10_withStones ⟨Nat.le_of_ble_eq_true rfl, Nat.le_of_ble_eq_true rfl⟩ dX10_ofPerson_62 kl_X10_182 ki_X10_withStones kv_X10_withStones rfl rfl rfl rfl (Nat.le_of_ble_eq_true rfl) (Nat.le_of_ble_eq_true rfl) (Nat.zero_add _) (Nat.zero_add _) (sp_X10_withStones hR hI hq) ?_
      refine e_iret dX10_ofPerson_65 rfl ?_
      exact is_i (by rw [oOfPerson, if_neg (nn_ h5), if_neg c0, if_neg c1, if_neg c2, if_pos rfl, nI_clamp (by omega)]) rfl
    refine e_tableOut (tgt := 66) dX10_ofPerson_11 (sw4 c0 c1 c2 c3) rfl ?_
    refine e_bipush (v := -2) dX10_ofPerson_66 (by decide) ?_
    refine e_iret dX10_ofPerson_68 rfl ?_
    exact is_i (by rw [oOfPerson, if_neg (nn_ h5), if_neg c0, if_neg c1, if_neg c2, if_neg c3]) rfl
  · refine e_iconst (v := -1) dX10_ofPerson_8 rfl ?_
    refine e_iret dX10_ofPerson_9 rfl ?_
    exact is_i (by rw [oOfPerson, if_pos (bi_1.mp h5)]) rfl

set_option maxRecDepth 4000 in
theorem sp_X10_ofStone {G : sh_G} {S : Nat → Int32} {A : Nat → Nat → Int32} {Lg : Nat → Int64} {P : Nat → Option Nat} {T : List sh_C} {b : sh_be} {s what : Int32} (hR : RM S A b) (hI : IV b) : Ev G mX10_ofStone 0 0 (mkW G S A Lg P T) 0 [some (.ref 24), some (.int s), some (.int what)] [] (sh_is (some (.int (oOfStone b s what))) (mkW G S A Lg P T)) := by
  have e1 := hR.2.1
  have e2 := hR.2.2.1
  have e3 := hR.2.2.2.1
  have e4 := hR.2.2.2.2.1
  have i1 := hI.1
  have i2 := hI.2.1
  have i3 := hI.2.2.1
  have i4 := hI.2.2.2.1
  refine e_aload_n 0 dX10_ofStone_0 rfl rfl ?_
  refine e_iload_n 1 dX10_ofStone_1 rfl rfl ?_
  refine f_callVi (As := [_]) ok_X10_noStone ⟨Nat.le_of_ble_eq_true rfl, Nat.le_of_ble_eq_true rfl⟩ dX10_ofStone_2 kl_X10_185 ki_X10_noStone kv_X10_noStone rfl rfl rfl rfl (Nat.le_of_ble_eq_true rfl) (Nat.le_of_ble_eq_true rfl) (Nat.zero_add _) (Nat.zero_add _) (sp_X10_noStone hR hI) ?_
  refine e_if_eq (tgt := 10) dX10_ofStone_5 rfl (fun h5 => ?_) (fun h5 => ?_)
  · have h5 := Classical.not_not.mp (bi_0.mp h5)
    obtain ⟨q, hq, rfl⟩ := ix_of (x := s) rfl (by omega) h5
    obtain ⟨q1, q2, q3, q4, q5⟩ := hR.st hI hq
    refine e_iload_n 2 dX10_ofStone_10 rfl rfl ?_
    refine e_if_ne (tgt := 23) dX10_ofStone_11 rfl (fun h11 => ?_) (fun h11 => ?_)
    · refine e_iload_n 2 dX10_ofStone_23 rfl rfl ?_
      refine e_iconst (v := 1) dX10_ofStone_24 rfl ?_
      refine e_icmp_ne (tgt := 58) dX10_ofStone_25 rfl (fun h25 => ?_) (fun h25 => ?_)
      · refine e_bipush (v := -2) dX10_ofStone_58 (by decide) ?_
        refine e_iret dX10_ofStone_60 rfl ?_
        first
        | (refine is_i ?_ rfl; rw [oOfStone, if_neg (nn_ h5), if_pos h11, nI_clamp (by omega)]; exact q1)
        | (refine is_i ?_ rfl; rw [oOfStone, if_neg (nn_ h5), if_neg h11, if_neg h25])
        | (refine is_i ?_ rfl; rw [oOfStone, if_neg (nn_ h5), if_neg h11, if_pos h25, nI_clamp (by omega)]
           rw [q2, show (20 : Int32) = nI 20 from rfl, nI_leI (by omega) (by omega)] at h36
           first
           | (rw [plx, if_pos (by omega)]; exact q2)
           | (rw [plx, if_neg (by omega)]; exact congrArg (fun x => -x) q2))
      · refine e_aload_n 0 dX10_ofStone_28 rfl rfl ?_
        refine e_getfield 17 dX10_ofStone_29 kf_X10_37_10 rfl rfl ?_
        refine e_iload_n 1 dX10_ofStone_32 rfl rfl ?_
        refine e_iald_n (q) dX10_ofStone_33 rfl rfl (by omega) (by decide) ?_
        refine e_bipush (v := 20) dX10_ofStone_34 (by decide) ?_
        refine e_icmp_ge (tgt := 48) dX10_ofStone_36 rfl (fun h36 => ?_) (fun h36 => ?_)
        · refine e_aload_n 0 dX10_ofStone_48 rfl rfl ?_
          refine e_getfield 17 dX10_ofStone_49 kf_X10_37_10 rfl rfl ?_
          refine e_iload_n 1 dX10_ofStone_52 rfl rfl ?_
          refine e_iald_n (q) dX10_ofStone_53 rfl rfl (by omega) (by decide) ?_
          refine e_ineg dX10_ofStone_54 ?_
          refine e_goto (tgt := 60) dX10_ofStone_55 rfl ?_
          refine e_iret dX10_ofStone_60 rfl ?_
          first
          | (refine is_i ?_ rfl; rw [oOfStone, if_neg (nn_ h5), if_pos h11, nI_clamp (by omega)]; exact q1)
          | (refine is_i ?_ rfl; rw [oOfStone, if_neg (nn_ h5), if_neg h11, if_neg h25])
          | (refine is_i ?_ rfl; rw [oOfStone, if_neg (nn_ h5), if_neg h11, if_pos h25, nI_clamp (by omega)]
             rw [q2, show (20 : Int32) = nI 20 from rfl, nI_leI (by omega) (by omega)] at h36
             first
             | (rw [plx, if_pos (by omega)]; exact q2)
             | (rw [plx, if_neg (by omega)]; exact congrArg (fun x => -x) q2))
        · refine e_aload_n 0 dX10_ofStone_39 rfl rfl ?_
          refine e_getfield 17 dX10_ofStone_40 kf_X10_37_10 rfl rfl ?_
          refine e_iload_n 1 dX10_ofStone_43 rfl rfl ?_
          refine e_iald_n (q) dX10_ofStone_44 rfl rfl (by omega) (by decide) ?_
          refine e_goto (tgt := 60) dX10_ofStone_45 rfl ?_
          refine e_iret dX10_ofStone_60 rfl ?_
          first
          | (refine is_i ?_ rfl; rw [oOfStone, if_neg (nn_ h5), if_pos h11, nI_clamp (by omega)]; exact q1)
          | (refine is_i ?_ rfl; rw [oOfStone, if_neg (nn_ h5), if_neg h11, if_neg h25])
          | (refine is_i ?_ rfl; rw [oOfStone, if_neg (nn_ h5), if_neg h11, if_pos h25, nI_clamp (by omega)]
             rw [q2, show (20 : Int32) = nI 20 from rfl, nI_leI (by omega) (by omega)] at h36
             first
             | (rw [plx, if_pos (by omega)]; exact q2)
             | (rw [plx, if_neg (by omega)]; exact congrArg (fun x => -x) q2))
    · refine e_aload_n 0 dX10_ofStone_14 rfl rfl ?_
      refine e_getfield 16 dX10_ofStone_15 kf_X10_34_10 rfl rfl ?_
      refine e_iload_n 1 dX10_ofStone_18 rfl rfl ?_
      refine e_iald_n (q) dX10_ofStone_19 rfl rfl (by omega) (by decide) ?_
      refine e_goto (tgt := 60) dX10_ofStone_20 rfl ?_
      refine e_iret dX10_ofStone_60 rfl ?_
      first
      | (refine is_i ?_ rfl; rw [oOfStone, if_neg (nn_ h5), if_pos h11, nI_clamp (by omega)]; exact q1)
      | (refine is_i ?_ rfl; rw [oOfStone, if_neg (nn_ h5), if_neg h11, if_neg h25])
      | (refine is_i ?_ rfl; rw [oOfStone, if_neg (nn_ h5), if_neg h11, if_pos h25, nI_clamp (by omega)]
         rw [q2, show (20 : Int32) = nI 20 from rfl, nI_leI (by omega) (by omega)] at h36
         first
         | (rw [plx, if_pos (by omega)]; exact q2)
         | (rw [plx, if_neg (by omega)]; exact congrArg (fun x => -x) q2))
  · refine e_iconst (v := -1) dX10_ofStone_8 rfl ?_
    refine e_iret dX10_ofStone_9 rfl ?_
    exact is_i (by rw [oOfStone, if_pos (bi_1.mp h5)]) rfl

set_option maxRecDepth 4000 in
theorem sp_X10_take {G : sh_G} {S : Nat → Int32} {A : Nat → Nat → Int32} {Lg : Nat → Int64} {P : Nat → Option Nat} {T : List sh_C} {b : sh_be} {p s : Int32} (hR : RM S A b) (hI : IV b) : Ev G mX10_take 0 0 (mkW G S A Lg P T) 0 [some (.ref 24), some (.int p), some (.int s)] [] (QM G S A Lg P T (some (.int (oTake b p s).1)) (oTake b p s).2) := by
  have e1 := hR.2.1
  have e2 := hR.2.2.1
  have e3 := hR.2.2.2.1
  have e4 := hR.2.2.2.2.1
  have i1 := hI.1
  have i2 := hI.2.1
  have i3 := hI.2.2.1
  have i4 := hI.2.2.2.1
  refine e_aload_n 0 dX10_take_0 rfl rfl ?_
  refine e_iload_n 1 dX10_take_1 rfl rfl ?_
  refine f_callVi (As := [_]) ok_X10_noPerson ⟨Nat.le_of_ble_eq_true rfl, Nat.le_of_ble_eq_true rfl⟩ dX10_take_2 kl_X10_176 ki_X10_noPerson kv_X10_noPerson rfl rfl rfl rfl (Nat.le_of_ble_eq_true rfl) (Nat.le_of_ble_eq_true rfl) (Nat.zero_add _) (Nat.zero_add _) (sp_X10_noPerson hR hI) ?_
  refine e_if_ne (tgt := 16) dX10_take_5 rfl (fun h5 => ?_) (fun h5 => ?_)
  · refine e_iconst (v := -1) dX10_take_16 rfl ?_
    refine e_iret dX10_take_17 rfl ?_
    have ho : oTake b p s = (-1, b) := by
      first | rw [oTake, if_pos (Or.inl (bi_1.mp h5))] | rw [oTake, if_pos (Or.inr (bi_1.mp h13))]
    rw [ho]
    exact ⟨S, A, rfl, rfl, hR, FM.rf⟩
  · refine e_aload_n 0 dX10_take_8 rfl rfl ?_
    refine e_iload_n 2 dX10_take_9 rfl rfl ?_
    refine f_callVi (As := [_]) ok_X10_noStone ⟨Nat.le_of_ble_eq_true rfl, Nat.le_of_ble_eq_true rfl⟩ dX10_take_10 kl_X10_185 ki_X10_noStone kv_X10_noStone rfl rfl rfl rfl (Nat.le_of_ble_eq_true rfl) (Nat.le_of_ble_eq_true rfl) (Nat.zero_add _) (Nat.zero_add _) (sp_X10_noStone hR hI) ?_
    refine e_if_eq (tgt := 18) dX10_take_13 rfl (fun h13 => ?_) (fun h13 => ?_)
    · have h5 := Classical.not_not.mp (bi_0.mp h5)
      have h13 := Classical.not_not.mp (bi_0.mp h13)
      obtain ⟨x, hx, rfl⟩ := ix_of (x := p) rfl (by omega) h5
      obtain ⟨y, hy, rfl⟩ := ix_of (x := s) rfl (by omega) h13
      have hko : ¬ (¬ (¬ nI x < 0 ∧ ¬ nI (bn b 2) ≤ nI x) ∨ ¬ (¬ nI y < 0 ∧ ¬ nI (bn b 3) ≤ nI y)) := fun h => h.elim (fun h => h h5) (fun h => h h13)
      obtain ⟨p1, p2, p3, p4, p5, p6, p7, p8⟩ := hR.pe hI hx
      obtain ⟨q1, q2, q3, q4, q5⟩ := hR.st hI hy
      have hc2 : cnN (ba b 7) (20 + x) (bn b 3) ≤ 2 := hI.2.2.2.2.2.2.2.1 x
      refine e_aload_n 0 dX10_take_18 rfl rfl ?_
      refine e_getfield 17 dX10_take_19 kf_X10_37_10 rfl rfl ?_
      refine e_iload_n 2 dX10_take_22 rfl rfl ?_
      refine e_iald_n (y) dX10_take_23 rfl rfl (by omega) (by decide) ?_
      refine e_aload_n 0 dX10_take_24 rfl rfl ?_
      refine e_getfield 14 dX10_take_25 kf_X10_31_10 rfl rfl ?_
      refine e_iload_n 1 dX10_take_28 rfl rfl ?_
      refine e_iald_n (x) dX10_take_29 rfl rfl (by omega) (by decide) ?_
      refine e_icmp_eq (tgt := 36) dX10_take_30 rfl (fun h30 => ?_) (fun h30 => ?_)
      · rw [q2, p2, nI_eq (by omega) (by omega)] at h30
        refine e_aload_n 0 dX10_take_36 rfl rfl ?_
        refine e_iload_n 1 dX10_take_37 rfl rfl ?_
        refine f_callVi (As := [_]) ok_X10_carriedBy ⟨Nat.le_of_ble_eq_true rfl, Nat.le_of_ble_eq_true rfl⟩ dX10_take_38 kl_X10_179 ki_X10_carriedBy kv_X10_carriedBy rfl rfl rfl rfl (Nat.le_of_ble_eq_true rfl) (Nat.le_of_ble_eq_true rfl) (Nat.zero_add _) (Nat.zero_add _) (sp_X10_carriedBy hR hI (by omega)) ?_
        refine f_callSi (As := [_]) ok_X10_bits ⟨Nat.le_of_ble_eq_true rfl, Nat.le_of_ble_eq_true rfl⟩ dX10_take_41 kl_X10_188 ks_X10_bits rfl rfl (Nat.le_of_ble_eq_true rfl) (Nat.le_of_ble_eq_true rfl) (Nat.zero_add _) (Nat.zero_add _) (sp_X10_bits (Nat.lt_of_lt_of_le (cbN_lt _ _ _) (Nat.pow_le_pow_right (by omega) i4))) ?_
        rw [popc_cb _ _ _ i4]
        refine e_iconst (v := 2) dX10_take_44 rfl ?_
        refine e_icmp_ne (tgt := 51) dX10_take_45 rfl (fun h45 => ?_) (fun h45 => ?_)
        · have g : cnN (ba b 7) (20 + x) (bn b 3) < 2 := by
            have : cnN (ba b 7) (20 + x) (bn b 3) ≠ 2 := fun q => h45 (by rw [q]; rfl)
            omega
          refine e_aload_n 0 dX10_take_51 rfl rfl ?_
          refine e_getfield 17 dX10_take_52 kf_X10_37_10 rfl rfl ?_
          refine e_iload_n 2 dX10_take_55 rfl rfl ?_
          refine e_bipush (v := 20) dX10_take_56 (by decide) ?_
          refine e_iload_n 1 dX10_take_58 rfl rfl ?_
          refine e_iadd dX10_take_59 ?_
          refine e_iast_n (y) dX10_take_60 rfl rfl (by omega) (by decide) ?_
          refine e_w (w' := mkW G S (va_up A 29 (upd (A 29) y (nI (20 + x)))) Lg P T) (by rw [add20]; rfl) ?_
          have hR2 := hR.pl y (20 + x)
          have hI2 := hI.place hy (Or.inr ⟨show 20 ≤ 20 + x by omega, by omega, g⟩)
          refine e_aload_n 0 dX10_take_61 rfl rfl ?_
          refine e_iload_n 1 dX10_take_62 rfl rfl ?_
          refine f_callVi (As := [_]) ok_X10_carriedBy ⟨Nat.le_of_ble_eq_true rfl, Nat.le_of_ble_eq_true rfl⟩ dX10_take_63 kl_X10_179 ki_X10_carriedBy kv_X10_carriedBy rfl rfl rfl rfl (Nat.le_of_ble_eq_true rfl) (Nat.le_of_ble_eq_true rfl) (Nat.zero_add _) (Nat.zero_add _) (sp_X10_carriedBy hR2 hI2 (by omega)) ?_
          refine f_callSi (As := [_]) ok_X10_bits ⟨Nat.le_of_ble_eq_true rfl, Nat.le_of_ble_eq_true rfl⟩ dX10_take_66 kl_X10_188 ks_X10_bits rfl rfl (Nat.le_of_ble_eq_true rfl) (Nat.le_of_ble_eq_true rfl) (Nat.zero_add _) (Nat.zero_add _) (sp_X10_bits (Nat.lt_of_lt_of_le (cbN_lt _ _ _) (Nat.pow_le_pow_right (by omega) i4))) ?_
          rw [popc_cb (ba (uA_ b 7 y (20 + x)) 7) (20 + x) (bn (uA_ b 7 y (20 + x)) 3) i4]
          refine e_iret dX10_take_69 rfl ?_
          have ho : oTake b (nI x) (nI y) = (nI (cnN (ba (uA_ b 7 y (20 + x)) 7) (20 + x) (bn b 3)), uA_ b 7 y (20 + x)) := by
            rw [oTake, if_neg hko, nI_clamp (by omega), nI_clamp (by omega), if_neg (nn_ h30), if_neg (by omega)]
          rw [ho]
          exact ⟨_, _, rfl, rfl, hR2, FM.A (by omega)⟩
        · refine e_bipush (v := -4) dX10_take_48 (by decide) ?_
          refine e_iret dX10_take_50 rfl ?_
          have ho : oTake b (nI x) (nI y) = (-4, b) := by
            have g := (nI_eq (b := 2) (by omega) (by omega)).mp h45
            rw [oTake, if_neg hko, nI_clamp (by omega), nI_clamp (by omega), if_neg (nn_ h30), if_pos (by omega)]
          rw [ho]
          exact ⟨S, A, rfl, rfl, hR, FM.rf⟩
      · refine e_bipush (v := -3) dX10_take_33 (by decide) ?_
        refine e_iret dX10_take_35 rfl ?_
        have ho : oTake b (nI x) (nI y) = (-3, b) := by
          rw [q2, p2, nI_eq (by omega) (by omega)] at h30
          rw [oTake, if_neg hko, nI_clamp (by omega), nI_clamp (by omega), if_pos h30]
        rw [ho]
        exact ⟨S, A, rfl, rfl, hR, FM.rf⟩
    · refine e_iconst (v := -1) dX10_take_16 rfl ?_
      refine e_iret dX10_take_17 rfl ?_
      have ho : oTake b p s = (-1, b) := by
        first | rw [oTake, if_pos (Or.inl (bi_1.mp h5))] | rw [oTake, if_pos (Or.inr (bi_1.mp h13))]
      rw [ho]
      exact ⟨S, A, rfl, rfl, hR, FM.rf⟩

set_option maxRecDepth 4000 in
theorem sp_X10_lay {G : sh_G} {S : Nat → Int32} {A : Nat → Nat → Int32} {Lg : Nat → Int64} {P : Nat → Option Nat} {T : List sh_C} {b : sh_be} {p s : Int32} (hR : RM S A b) (hI : IV b) : Ev G mX10_lay 0 0 (mkW G S A Lg P T) 0 [some (.ref 24), some (.int p), some (.int s)] [] (QM G S A Lg P T (some (.int (oLay b p s).1)) (oLay b p s).2) := by
  have e1 := hR.2.1
  have e2 := hR.2.2.1
  have e3 := hR.2.2.2.1
  have e4 := hR.2.2.2.2.1
  have i1 := hI.1
  have i2 := hI.2.1
  have i3 := hI.2.2.1
  have i4 := hI.2.2.2.1
  refine e_aload_n 0 dX10_lay_0 rfl rfl ?_
  refine e_iload_n 1 dX10_lay_1 rfl rfl ?_
  refine f_callVi (As := [_]) ok_X10_noPerson ⟨Nat.le_of_ble_eq_true rfl, Nat.le_of_ble_eq_true rfl⟩ dX10_lay_2 kl_X10_176 ki_X10_noPerson kv_X10_noPerson rfl rfl rfl rfl (Nat.le_of_ble_eq_true rfl) (Nat.le_of_ble_eq_true rfl) (Nat.zero_add _) (Nat.zero_add _) (sp_X10_noPerson hR hI) ?_
  refine e_if_ne (tgt := 16) dX10_lay_5 rfl (fun h5 => ?_) (fun h5 => ?_)
  · refine e_iconst (v := -1) dX10_lay_16 rfl ?_
    refine e_iret dX10_lay_17 rfl ?_
    have ho : oLay b p s = (-1, b) := by
      first | rw [oLay, if_pos (Or.inl (bi_1.mp h5))] | rw [oLay, if_pos (Or.inr (bi_1.mp h13))]
    rw [ho]
    exact ⟨S, A, rfl, rfl, hR, FM.rf⟩
  · refine e_aload_n 0 dX10_lay_8 rfl rfl ?_
    refine e_iload_n 2 dX10_lay_9 rfl rfl ?_
    refine f_callVi (As := [_]) ok_X10_noStone ⟨Nat.le_of_ble_eq_true rfl, Nat.le_of_ble_eq_true rfl⟩ dX10_lay_10 kl_X10_185 ki_X10_noStone kv_X10_noStone rfl rfl rfl rfl (Nat.le_of_ble_eq_true rfl) (Nat.le_of_ble_eq_true rfl) (Nat.zero_add _) (Nat.zero_add _) (sp_X10_noStone hR hI) ?_
    refine e_if_eq (tgt := 18) dX10_lay_13 rfl (fun h13 => ?_) (fun h13 => ?_)
    · have h5 := Classical.not_not.mp (bi_0.mp h5)
      have h13 := Classical.not_not.mp (bi_0.mp h13)
      obtain ⟨x, hx, rfl⟩ := ix_of (x := p) rfl (by omega) h5
      obtain ⟨y, hy, rfl⟩ := ix_of (x := s) rfl (by omega) h13
      have hko : ¬ (¬ (¬ nI x < 0 ∧ ¬ nI (bn b 2) ≤ nI x) ∨ ¬ (¬ nI y < 0 ∧ ¬ nI (bn b 3) ≤ nI y)) := fun h => h.elim (fun h => h h5) (fun h => h h13)
      obtain ⟨p1, p2, p3, p4, p5, p6, p7, p8⟩ := hR.pe hI hx
      obtain ⟨q1, q2, q3, q4, q5⟩ := hR.st hI hy
      have hc2 : cnN (ba b 7) (20 + x) (bn b 3) ≤ 2 := hI.2.2.2.2.2.2.2.1 x
      refine e_aload_n 0 dX10_lay_18 rfl rfl ?_
      refine e_getfield 17 dX10_lay_19 kf_X10_37_10 rfl rfl ?_
      refine e_iload_n 2 dX10_lay_22 rfl rfl ?_
      refine e_iald_n (y) dX10_lay_23 rfl rfl (by omega) (by decide) ?_
      refine e_bipush (v := 20) dX10_lay_24 (by decide) ?_
      refine e_iload_n 1 dX10_lay_26 rfl rfl ?_
      refine e_iadd dX10_lay_27 ?_
      refine e_icmp_eq (tgt := 34) dX10_lay_28 rfl (fun h28 => ?_) (fun h28 => ?_)
      · rw [q2, add20, nI_eq (by omega) (by omega)] at h28
        refine e_aload_n 0 dX10_lay_34 rfl rfl ?_
        refine e_getfield 17 dX10_lay_35 kf_X10_37_10 rfl rfl ?_
        refine e_iload_n 2 dX10_lay_38 rfl rfl ?_
        refine e_aload_n 0 dX10_lay_39 rfl rfl ?_
        refine e_getfield 14 dX10_lay_40 kf_X10_31_10 rfl rfl ?_
        refine e_iload_n 1 dX10_lay_43 rfl rfl ?_
        refine e_iald_n (x) dX10_lay_44 rfl rfl (by omega) (by decide) ?_
        refine e_iast_n (y) dX10_lay_45 rfl rfl (by omega) (by decide) ?_
        refine e_w (w' := mkW G S (va_up A 29 (upd (A 29) y (nI (ba b 5 x)))) Lg P T) (by rw [← p2]; rfl) ?_
        have hR2 := hR.pl y (ba b 5 x)
        have hI2 := hI.place hy (v := ba b 5 x) (Or.inl p5)
        refine e_aload_n 0 dX10_lay_46 rfl rfl ?_
        refine e_iload_n 1 dX10_lay_47 rfl rfl ?_
        refine f_callVi (As := [_]) ok_X10_carriedBy ⟨Nat.le_of_ble_eq_true rfl, Nat.le_of_ble_eq_true rfl⟩ dX10_lay_48 kl_X10_179 ki_X10_carriedBy kv_X10_carriedBy rfl rfl rfl rfl (Nat.le_of_ble_eq_true rfl) (Nat.le_of_ble_eq_true rfl) (Nat.zero_add _) (Nat.zero_add _) (sp_X10_carriedBy hR2 hI2 (by omega)) ?_
        refine f_callSi (As := [_]) ok_X10_bits ⟨Nat.le_of_ble_eq_true rfl, Nat.le_of_ble_eq_true rfl⟩ dX10_lay_51 kl_X10_188 ks_X10_bits rfl rfl (Nat.le_of_ble_eq_true rfl) (Nat.le_of_ble_eq_true rfl) (Nat.zero_add _) (Nat.zero_add _) (sp_X10_bits (Nat.lt_of_lt_of_le (cbN_lt _ _ _) (Nat.pow_le_pow_right (by omega) i4))) ?_
        rw [popc_cb (ba (uA_ b 7 y (ba b 5 x)) 7) (20 + x) (bn (uA_ b 7 y (ba b 5 x)) 3) i4]
        refine e_iret dX10_lay_54 rfl ?_
        have ho : oLay b (nI x) (nI y) = (nI (cnN (ba (uA_ b 7 y (ba b 5 x)) 7) (20 + x) (bn b 3)), uA_ b 7 y (ba b 5 x)) := by
          rw [oLay, if_neg hko, nI_clamp (by omega), nI_clamp (by omega), if_neg (nn_ h28)]
        rw [ho]
        exact ⟨_, _, rfl, rfl, hR2, FM.A (by omega)⟩
      · refine e_bipush (v := -3) dX10_lay_31 (by decide) ?_
        refine e_iret dX10_lay_33 rfl ?_
        have ho : oLay b (nI x) (nI y) = (-3, b) := by
          rw [q2, add20, nI_eq (by omega) (by omega)] at h28
          rw [oLay, if_neg hko, nI_clamp (by omega), nI_clamp (by omega), if_pos h28]
        rw [ho]
        exact ⟨S, A, rfl, rfl, hR, FM.rf⟩
    · refine e_iconst (v := -1) dX10_lay_16 rfl ?_
      refine e_iret dX10_lay_17 rfl ?_
      have ho : oLay b p s = (-1, b) := by
        first | rw [oLay, if_pos (Or.inl (bi_1.mp h5))] | rw [oLay, if_pos (Or.inr (bi_1.mp h13))]
      rw [ho]
      exact ⟨S, A, rfl, rfl, hR, FM.rf⟩

set_option maxRecDepth 4000 in
theorem sp_X10_opens {G : sh_G} {S : Nat → Int32} {A : Nat → Nat → Int32} {Lg : Nat → Int64} {P : Nat → Option Nat} {T : List sh_C} {b : sh_be} {pa d : Int32} (hR : RM S A b) (hI : IV b) : Ev G mX10_opens 0 0 (mkW G S A Lg P T) 0 [some (.ref 24), some (.int pa), some (.int d), none] [] (sh_is (some (.int (oOpens b pa d))) (mkW G S A Lg P T)) := by
  have e1 := hR.2.1
  have e2 := hR.2.2.1
  have e3 := hR.2.2.2.1
  have e4 := hR.2.2.2.2.1
  have i1 := hI.1
  have i2 := hI.2.1
  have i3 := hI.2.2.1
  have i4 := hI.2.2.2.1
  refine e_aload_n 0 dX10_opens_0 rfl rfl ?_
  refine e_iload_n 1 dX10_opens_1 rfl rfl ?_
  refine e_iload_n 2 dX10_opens_2 rfl rfl ?_
  refine f_callVi (As := [_, _]) ok_X10_partyBarred ⟨Nat.le_of_ble_eq_true rfl, Nat.le_of_ble_eq_true rfl⟩ dX10_opens_3 kl_X10_194 ki_X10_partyBarred kv_X10_partyBarred rfl rfl rfl rfl (Nat.le_of_ble_eq_true rfl) (Nat.le_of_ble_eq_true rfl) (Nat.zero_add _) (Nat.zero_add _) (sp_X10_partyBarred hR hI) ?_
  refine e_istore_n (lv' := [_, _, _, _]) 3 dX10_opens_6 rfl (Nat.le_of_ble_eq_true rfl) rfl rfl ?_
  refine e_iload_n 3 dX10_opens_7 rfl rfl ?_
  refine e_if_ge (tgt := 13) dX10_opens_8 rfl (fun h8 => ?_) (fun h8 => ?_)
  · have h8 := Int32.not_lt.mpr h8
    obtain ⟨pt, q, r, hpt, rfl, hq, rfl, hr, hr6, hs, hn⟩ := oBar_ok hI h8
    have hW := wpN_le hI pt (bn b 2) (Nat.le_refl _)
    have hbn : ∀ t, bBe b q r (wpN b pt (bn b 2)) = some t → t < 2 ^ 31 := fun t ht => by
      obtain ⟨k1, k2, k3, k4, k5, k6⟩ := hI.2.2.2.2.1 q hq
      have := dBe_lt k2 k3 ht
      omega
    refine e_aload_n 0 dX10_opens_13 rfl rfl ?_
    refine e_iload_n 2 dX10_opens_14 rfl rfl ?_
    refine e_aload_n 0 dX10_opens_15 rfl rfl ?_
    refine e_iload_n 1 dX10_opens_16 rfl rfl ?_
    refine f_callVi (As := [_]) ok_X10_roomOf ⟨Nat.le_of_ble_eq_true rfl, Nat.le_of_ble_eq_true rfl⟩ dX10_opens_17 kl_X10_191 ki_X10_roomOf kv_X10_roomOf rfl rfl rfl rfl (Nat.le_of_ble_eq_true rfl) (Nat.le_of_ble_eq_true rfl) (Nat.zero_add _) (Nat.zero_add _) (sp_X10_roomOf hR hI (by omega)) ?_
    rw [oJ_s hr]
    refine e_aload_n 0 dX10_opens_20 rfl rfl ?_
    refine e_iload_n 1 dX10_opens_21 rfl rfl ?_
    refine f_callVi (As := [_]) ok_X10_weightOfAll ⟨Nat.le_of_ble_eq_true rfl, Nat.le_of_ble_eq_true rfl⟩ dX10_opens_22 kl_X10_197 ki_X10_weightOfAll kv_X10_weightOfAll rfl rfl rfl rfl (Nat.le_of_ble_eq_true rfl) (Nat.le_of_ble_eq_true rfl) (Nat.zero_add _) (Nat.zero_add _) (sp_X10_weightOfAll hR hI (by omega)) ?_
    refine f_callVi (As := [_, _, _]) ok_X10_throughTo ⟨Nat.le_of_ble_eq_true rfl, Nat.le_of_ble_eq_true rfl⟩ dX10_opens_25 kl_X10_200 ki_X10_throughTo kv_X10_throughTo rfl rfl rfl rfl (Nat.le_of_ble_eq_true rfl) (Nat.le_of_ble_eq_true rfl) (Nat.zero_add _) (Nat.zero_add _) (sp_X10_throughTo hR hI hq (by omega) (by omega)) ?_
    refine e_if_ge (tgt := 35) dX10_opens_28 rfl (fun h28 => ?_) (fun h28 => ?_)
    · refine e_iconst (v := 1) dX10_opens_35 rfl ?_
      refine e_iret dX10_opens_36 rfl ?_
      refine is_i ?_ rfl
      rcases hb : bBe b q r (wpN b pt (bn b 2)) with _ | t
      · first
        | exact (hn hb).1.symm
        | (rw [hb] at h28; exact absurd h28 (by decide))
      · first
        | exact (hs t hb).1.symm
        | (rw [hb] at h28; exact absurd (Int32.not_lt.mp (nI_pos (hbn t hb))) h28)
    · refine e_iconst (v := 0) dX10_opens_31 rfl ?_
      refine e_goto (tgt := 36) dX10_opens_32 rfl ?_
      refine e_iret dX10_opens_36 rfl ?_
      refine is_i ?_ rfl
      rcases hb : bBe b q r (wpN b pt (bn b 2)) with _ | t
      · first
        | exact (hn hb).1.symm
        | (rw [hb] at h28; exact absurd h28 (by decide))
      · first
        | exact (hs t hb).1.symm
        | (rw [hb] at h28; exact absurd (Int32.not_lt.mp (nI_pos (hbn t hb))) h28)
  · refine e_iload_n 3 dX10_opens_11 rfl rfl ?_
    refine e_iret dX10_opens_12 rfl ?_
    exact is_i (oBar_neg (Int32.not_le.mp h8)).1.symm rfl

set_option maxRecDepth 4000 in
theorem lp_X10_pass {G : sh_G} {S : Nat → Int32} {A : Nat → Nat → Int32} {Lg : Nat → Int64} {P : Nat → Option Nat} {T : List sh_C} {pr : Nat → Nat} {np pt t : Nat} {z : Int32} {D : Option Value} (hS : S 26 = nI np) (hn : np ≤ 4) (hp : pt < 2 ^ 31) : ∀ (m k : Nat) (f : Nat → Int32), np - k < m → k ≤ np → (∀ i, i < np → f i = nI (mvN pr pt t k i)) → Ev G mX10_pass 0 0 (mkW G S (va_up A 27 f) Lg P T) 41 [some (.ref 24), some (.int (nI pt)), D, some (.int z), some (.int (nI t)), some (.int (nI k))] [] (fun v w => v = some (.int (nI t)) ∧ ∃ g, (∀ i, i < np → g i = nI (mvN pr pt t np i)) ∧ w = mkW G S (va_up A 27 g) Lg P T) := by
  intro m
  induction m with
  | zero => intro k f h; omega
  | succ m ih =>
    intro k f hm hk hf
    refine e_iload dX10_pass_41 rfl ?_
    refine e_aload_n 0 dX10_pass_43 rfl rfl ?_
    refine e_getfield 12 dX10_pass_44 kf_X10_145_10 rfl rfl ?_
    refine e_icmp_ge (tgt := 85) dX10_pass_47 rfl (fun h47 => ?_) (fun h47 => ?_)
    · have e : k = np := by rw [hS, nI_leI (by omega) (by omega)] at h47; omega
      subst e
      refine e_iload dX10_pass_85 rfl ?_
      refine e_iret dX10_pass_87 rfl ?_
      exact ⟨rfl, f, hf, rfl⟩
    · have hlt : k < np := by rw [hS, nI_leI (by omega) (by omega)] at h47; omega
      refine e_aload_n 0 dX10_pass_50 rfl rfl ?_
      refine e_getfield 14 dX10_pass_51 kf_X10_31_10 rfl rfl ?_
      refine e_iload dX10_pass_54 rfl ?_
      refine e_iload_n 1 dX10_pass_56 rfl rfl ?_
      refine e_iload dX10_pass_57 rfl ?_
      refine e_ishr dX10_pass_59 ?_
      refine e_iconst (v := 1) dX10_pass_60 rfl ?_
      refine e_iand dX10_pass_61 ?_
      refine e_iconst (v := 1) dX10_pass_62 rfl ?_
      refine e_icmp_ne (tgt := 71) dX10_pass_63 rfl (fun h63 => ?_) (fun h63 => ?_)
      · refine e_aload_n 0 dX10_pass_71 rfl rfl ?_
        refine e_getfield 14 dX10_pass_72 kf_X10_31_10 rfl rfl ?_
        refine e_iload dX10_pass_75 rfl ?_
        refine e_iald_n (k) dX10_pass_77 rfl rfl (by omega) (by decide) ?_
        refine e_iast_n (k) dX10_pass_78 rfl rfl (by omega) (by decide) ?_
        first
        | refine e_w (w' := mkW G S (va_up (va_up A 27 f) 27 (upd f k (nI t))) Lg P T) rfl ?_
        | refine e_w (w' := mkW G S (va_up (va_up A 27 f) 27 (upd f k (f k))) Lg P T) rfl ?_
        refine e_iinc (v := _ + 1) (lv' := [_, _, _, _, _, _]) dX10_pass_79 rfl (Nat.le_of_ble_eq_true rfl) rfl rfl rfl ?_
        refine e_goto (tgt := 41) dX10_pass_82 rfl ?_
        rw [nI_1, bx_uu]
        first
        | (rw [Ne, bitm hp (by omega)] at h63; exact ih (k + 1) _ (by omega) (by omega) (fun i hi => by
             simp only [mvN, if_neg h63]; unfold upd; by_cases e : i = k
             · subst e; rw [if_pos rfl]; exact hf i hi
             · rw [if_neg e]; exact hf i hi))
        | (rw [bitm hp (by omega)] at h63; exact ih (k + 1) (upd f k (nI t)) (by omega) (by omega) (fun i hi => by
             simp only [mvN, h63, if_true]
             unfold upd va_up
             by_cases e : i = k
             · rw [if_pos e, if_pos e]
             · rw [if_neg e, if_neg e]; exact hf i hi))
      · refine e_iload dX10_pass_66 rfl ?_
        refine e_goto (tgt := 78) dX10_pass_68 rfl ?_
        refine e_iast_n (k) dX10_pass_78 rfl rfl (by omega) (by decide) ?_
        first
        | refine e_w (w' := mkW G S (va_up (va_up A 27 f) 27 (upd f k (nI t))) Lg P T) rfl ?_
        | refine e_w (w' := mkW G S (va_up (va_up A 27 f) 27 (upd f k (f k))) Lg P T) rfl ?_
        refine e_iinc (v := _ + 1) (lv' := [_, _, _, _, _, _]) dX10_pass_79 rfl (Nat.le_of_ble_eq_true rfl) rfl rfl rfl ?_
        refine e_goto (tgt := 41) dX10_pass_82 rfl ?_
        rw [nI_1, bx_uu]
        first
        | (rw [Ne, bitm hp (by omega)] at h63; exact ih (k + 1) _ (by omega) (by omega) (fun i hi => by
             simp only [mvN, if_neg h63]; unfold upd; by_cases e : i = k
             · subst e; rw [if_pos rfl]; exact hf i hi
             · rw [if_neg e]; exact hf i hi))
        | (rw [bitm hp (by omega)] at h63; exact ih (k + 1) (upd f k (nI t)) (by omega) (by omega) (fun i hi => by
             simp only [mvN, h63, if_true]
             unfold upd va_up
             by_cases e : i = k
             · rw [if_pos e, if_pos e]
             · rw [if_neg e, if_neg e]; exact hf i hi))

set_option maxRecDepth 4000 in
theorem sp_X10_pass {G : sh_G} {S : Nat → Int32} {A : Nat → Nat → Int32} {Lg : Nat → Int64} {P : Nat → Option Nat} {T : List sh_C} {b : sh_be} {pa d : Int32} (hR : RM S A b) (hI : IV b) : Ev G mX10_pass 0 0 (mkW G S A Lg P T) 0 [some (.ref 24), some (.int pa), some (.int d), none, none, none] [] (QM G S A Lg P T (some (.int (oPass b pa d).1)) (oPass b pa d).2) := by
  have e1 := hR.2.1
  have e2 := hR.2.2.1
  have e3 := hR.2.2.2.1
  have e4 := hR.2.2.2.2.1
  have i1 := hI.1
  have i2 := hI.2.1
  have i3 := hI.2.2.1
  have i4 := hI.2.2.2.1
  refine e_aload_n 0 dX10_pass_0 rfl rfl ?_
  refine e_iload_n 1 dX10_pass_1 rfl rfl ?_
  refine e_iload_n 2 dX10_pass_2 rfl rfl ?_
  refine f_callVi (As := [_, _]) ok_X10_partyBarred ⟨Nat.le_of_ble_eq_true rfl, Nat.le_of_ble_eq_true rfl⟩ dX10_pass_3 kl_X10_194 ki_X10_partyBarred kv_X10_partyBarred rfl rfl rfl rfl (Nat.le_of_ble_eq_true rfl) (Nat.le_of_ble_eq_true rfl) (Nat.zero_add _) (Nat.zero_add _) (sp_X10_partyBarred hR hI) ?_
  refine e_istore_n (lv' := [_, _, _, _, _, _]) 3 dX10_pass_6 rfl (Nat.le_of_ble_eq_true rfl) rfl rfl ?_
  refine e_iload_n 3 dX10_pass_7 rfl rfl ?_
  refine e_if_ge (tgt := 13) dX10_pass_8 rfl (fun h8 => ?_) (fun h8 => ?_)
  · have h8 := Int32.not_lt.mpr h8
    obtain ⟨pt, q, r, hpt, rfl, hq, rfl, hr, hr6, hs, hn⟩ := oBar_ok hI h8
    have hW := wpN_le hI pt (bn b 2) (Nat.le_refl _)
    have hbn : ∀ t, bBe b q r (wpN b pt (bn b 2)) = some t → t < 2 ^ 31 := fun t ht => by
      obtain ⟨k1, k2, k3, k4, k5, k6⟩ := hI.2.2.2.2.1 q hq
      have := dBe_lt k2 k3 ht
      omega
    refine e_aload_n 0 dX10_pass_13 rfl rfl ?_
    refine e_iload_n 2 dX10_pass_14 rfl rfl ?_
    refine e_aload_n 0 dX10_pass_15 rfl rfl ?_
    refine e_iload_n 1 dX10_pass_16 rfl rfl ?_
    refine f_callVi (As := [_]) ok_X10_roomOf ⟨Nat.le_of_ble_eq_true rfl, Nat.le_of_ble_eq_true rfl⟩ dX10_pass_17 kl_X10_191 ki_X10_roomOf kv_X10_roomOf rfl rfl rfl rfl (Nat.le_of_ble_eq_true rfl) (Nat.le_of_ble_eq_true rfl) (Nat.zero_add _) (Nat.zero_add _) (sp_X10_roomOf hR hI (by omega)) ?_
    rw [oJ_s hr]
    refine e_aload_n 0 dX10_pass_20 rfl rfl ?_
    refine e_iload_n 1 dX10_pass_21 rfl rfl ?_
    refine f_callVi (As := [_]) ok_X10_weightOfAll ⟨Nat.le_of_ble_eq_true rfl, Nat.le_of_ble_eq_true rfl⟩ dX10_pass_22 kl_X10_197 ki_X10_weightOfAll kv_X10_weightOfAll rfl rfl rfl rfl (Nat.le_of_ble_eq_true rfl) (Nat.le_of_ble_eq_true rfl) (Nat.zero_add _) (Nat.zero_add _) (sp_X10_weightOfAll hR hI (by omega)) ?_
    refine f_callVi (As := [_, _, _]) ok_X10_throughTo ⟨Nat.le_of_ble_eq_true rfl, Nat.le_of_ble_eq_true rfl⟩ dX10_pass_25 kl_X10_200 ki_X10_throughTo kv_X10_throughTo rfl rfl rfl rfl (Nat.le_of_ble_eq_true rfl) (Nat.le_of_ble_eq_true rfl) (Nat.zero_add _) (Nat.zero_add _) (sp_X10_throughTo hR hI hq (by omega) (by omega)) ?_
    refine e_istore (lv' := [_, _, _, _, _, _]) dX10_pass_28 (Nat.le_of_ble_eq_true rfl) rfl rfl ?_
    refine e_iload dX10_pass_30 rfl ?_
    refine e_if_ge (tgt := 38) dX10_pass_32 rfl (fun h32 => ?_) (fun h32 => ?_)
    · obtain ⟨t, ht⟩ : ∃ t, bBe b q r (wpN b pt (bn b 2)) = some t := by
        rcases hb : bBe b q r (wpN b pt (bn b 2)) with _ | t
        · rw [hb] at h32; exact absurd h32 (by decide)
        · exact ⟨t, rfl⟩
      rw [oJ_s ht, (hs t ht).2]
      refine e_iconst (v := 0) dX10_pass_38 rfl ?_
      refine e_istore (lv' := [_, _, _, _, _, _]) dX10_pass_39 (Nat.le_of_ble_eq_true rfl) rfl rfl ?_
      have h := lp_X10_pass (G := G) (S := S) (A := A) (Lg := Lg) (P := P) (T := T) (pr := ba b 5) (pt := pt) (t := t) (z := oBar b (nI pt) (nI q)) (D := some (.int (nI q))) e3 i3 (by omega) (bn b 2 + 1) 0 (A 27) (by omega) (by omega) (fun i hi => (hR.2.2.2.2.2.2.2.2.1 i hi).2)
      rw [up_self] at h
      refine e_q h (fun v w' hw => ?_)
      obtain ⟨rfl, g, hg, rfl⟩ := hw
      exact ⟨_, _, rfl, rfl, hR.ro hg, FM.A (by omega)⟩
    · refine e_bipush (v := -3) dX10_pass_35 (by decide) ?_
      refine e_iret dX10_pass_37 rfl ?_
      have hb := (oJ_neg hbn).mp (Int32.not_le.mp h32)
      have ho : oPass b (nI pt) (nI q) = (-3, b) := by
        exact (hn hb).2
      rw [ho]
      exact ⟨S, A, rfl, rfl, hR, FM.rf⟩
  · refine e_iload_n 3 dX10_pass_11 rfl rfl ?_
    refine e_iret dX10_pass_12 rfl ?_
    have ho : oPass b pa d = (oBar b pa d, b) := by
      exact (oBar_neg (Int32.not_le.mp h8)).2
    rw [ho]
    exact ⟨S, A, rfl, rfl, hR, FM.rf⟩

set_option maxRecDepth 4000 in
theorem sp_X10_weigh {G : sh_G} {S : Nat → Int32} {A : Nat → Nat → Int32} {Lg : Nat → Int64} {P : Nat → Option Nat} {T : List sh_C} {b : sh_be} {p w : Int32} (hR : RM S A b) (hI : IV b) : Ev G mX10_weigh 0 0 (mkW G S A Lg P T) 0 [some (.ref 24), some (.int p), some (.int w), none] [] (QM G S A Lg P T (some (.int (oWeigh b p w).1)) (oWeigh b p w).2) := by
  have e1 := hR.2.1
  have e2 := hR.2.2.1
  have e3 := hR.2.2.2.1
  have e4 := hR.2.2.2.2.1
  have i1 := hI.1
  have i2 := hI.2.1
  have i3 := hI.2.2.1
  have i4 := hI.2.2.2.1
  refine e_aload_n 0 dX10_weigh_0 rfl rfl ?_
  refine e_iload_n 1 dX10_weigh_1 rfl rfl ?_
  refine f_callVi (As := [_]) ok_X10_noPerson ⟨Nat.le_of_ble_eq_true rfl, Nat.le_of_ble_eq_true rfl⟩ dX10_weigh_2 kl_X10_176 ki_X10_noPerson kv_X10_noPerson rfl rfl rfl rfl (Nat.le_of_ble_eq_true rfl) (Nat.le_of_ble_eq_true rfl) (Nat.zero_add _) (Nat.zero_add _) (sp_X10_noPerson hR hI) ?_
  refine e_if_eq (tgt := 10) dX10_weigh_5 rfl (fun h5 => ?_) (fun h5 => ?_)
  · have h5 := Classical.not_not.mp (bi_0.mp h5)
    refine e_iload_n 2 dX10_weigh_10 rfl rfl ?_
    refine e_i2l dX10_weigh_11 ?_
    refine e_ldc2 dX10_weigh_12 kc_X10_170 ?_
    refine e_ldc2 dX10_weigh_15 kc_X10_172 ?_
    refine f_callSi (As := [_, _, _]) ok_X10_in ⟨Nat.le_of_ble_eq_true rfl, Nat.le_of_ble_eq_true rfl⟩ dX10_weigh_18 kl_X10_97 ks_X10_in rfl rfl (Nat.le_of_ble_eq_true rfl) (Nat.le_of_ble_eq_true rfl) (Nat.zero_add _) (Nat.zero_add _) sp_X10_in ?_
    rw [inC (a' := 10) (b' := 99) (by decide) (by decide)]
    refine e_if_ne (tgt := 27) dX10_weigh_21 rfl (fun h21 => ?_) (fun h21 => ?_)
    · obtain ⟨x, hx, rfl⟩ := ix_of (x := p) rfl (by omega) h5
      obtain ⟨m, hm, rfl⟩ := ix_of (x := w) (n := 100) rfl (by omega) ⟨fun h => (bi_1.mp h21).1 (i_t1 h), fun h => (bi_1.mp h21).2 (i_t2 h)⟩
      obtain ⟨p1, p2, p3, p4, p5, p6, p7, p8⟩ := hR.pe hI hx
      refine e_aload_n 0 dX10_weigh_27 rfl rfl ?_
      refine e_getfield 13 dX10_weigh_28 kf_X10_28_10 rfl rfl ?_
      refine e_iload_n 1 dX10_weigh_31 rfl rfl ?_
      refine e_iald_n (x) dX10_weigh_32 rfl rfl (by omega) (by decide) ?_
      refine e_istore_n (lv' := [_, _, _, _]) 3 dX10_weigh_33 rfl (Nat.le_of_ble_eq_true rfl) rfl rfl ?_
      refine e_aload_n 0 dX10_weigh_34 rfl rfl ?_
      refine e_getfield 13 dX10_weigh_35 kf_X10_28_10 rfl rfl ?_
      refine e_iload_n 1 dX10_weigh_38 rfl rfl ?_
      refine e_iload_n 2 dX10_weigh_39 rfl rfl ?_
      refine e_iast_n (x) dX10_weigh_40 rfl rfl (by omega) (by decide) ?_
      refine e_w (w' := mkW G S (va_up A 26 (upd (A 26) x (nI m))) Lg P T) rfl ?_
      refine e_iload_n 3 dX10_weigh_41 rfl rfl ?_
      refine e_iret dX10_weigh_42 rfl ?_
      have ho : oWeigh b (nI x) (nI m) = (nI (ba b 4 x), uA_ b 4 x m) := by
        rw [oWeigh, if_neg (nn_ h5), if_neg (nn_ (bi_1.mp h21)), nI_clamp (by omega), nI_clamp (by omega)]
      rw [ho]
      exact ⟨_, _, rfl, by rw [p1], hR.we x m, FM.A (by omega)⟩
    · refine e_bipush (v := -2) dX10_weigh_24 (by decide) ?_
      refine e_iret dX10_weigh_26 rfl ?_
      have ho : oWeigh b p w = (-2, b) := by
        rw [oWeigh, if_neg (nn_ h5), if_pos (bi_0.mp h21)]
      rw [ho]
      exact ⟨S, A, rfl, rfl, hR, FM.rf⟩
  · refine e_iconst (v := -1) dX10_weigh_8 rfl ?_
    refine e_iret dX10_weigh_9 rfl ?_
    have ho : oWeigh b p w = (-1, b) := by
      rw [oWeigh, if_pos (bi_1.mp h5)]
    rw [ho]
    exact ⟨S, A, rfl, rfl, hR, FM.rf⟩

set_option maxRecDepth 4000 in
theorem sp_X10_traced {G : sh_G} {S : Nat → Int32} {A : Nat → Nat → Int32} {Lg : Nat → Int64} {P : Nat → Option Nat} {T : List sh_C} {v : Int32}  : Ev G mX10_traced 0 0 (mkW G S A Lg P T) 0 [some (.ref 24), some (.int v)] [] (sh_is none (mkW G (va_up S 32 (31 * S 32 + v)) A Lg P T)) := by
  refine e_aload_n 0 dX10_traced_0 rfl rfl ?_
  refine e_bipush (v := 31) dX10_traced_1 (by decide) ?_
  refine e_aload_n 0 dX10_traced_3 rfl rfl ?_
  refine e_getfield 34 dX10_traced_4 kf_X10_272_10 rfl rfl ?_
  refine e_imul dX10_traced_7 ?_
  refine e_iload_n 1 dX10_traced_8 rfl rfl ?_
  refine e_iadd dX10_traced_9 ?_
  refine e_putfield 34 dX10_traced_10 kp_X10_traced_272_10 (sh_fit_i _) rfl (Nat.le_of_ble_eq_true rfl) ?_
  exact e_vret dX10_traced_13 rfl ⟨rfl, rfl⟩

theorem tw2 {n : Nat} (h : n ≤ 99) : (2 : Int32) * nI n + 100 = nI n + 100 + nI n := by
  have e : ∀ n, n < 100 → (2 : Int32) * nI n + 100 = nI n + 100 + nI n := by decide +kernel
  exact e n (by omega)
set_option maxRecDepth 4000 in
theorem sp_X10_tell {G : sh_G} {S : Nat → Int32} {A : Nat → Nat → Int32} {Lg : Nat → Int64} {P : Nat → Option Nat} {T : List sh_C} {b : sh_be} {d : Int32} (hR : RM S A b) (hI : IV b) : Ev G mX10_tell 0 0 (mkW G S A Lg P T) 0 [some (.ref 24), some (.int d), none, none] [] (QM G S A Lg P T (some (.int (oTell b d).1)) (oTell b d).2) := by
  have e1 := hR.2.1
  have e2 := hR.2.2.1
  have e3 := hR.2.2.2.1
  have e4 := hR.2.2.2.2.1
  have i1 := hI.1
  have i2 := hI.2.1
  have i3 := hI.2.2.1
  have i4 := hI.2.2.2.1
  refine e_aload_n 0 dX10_tell_0 rfl rfl ?_
  refine e_iload_n 1 dX10_tell_1 rfl rfl ?_
  refine f_callVi (As := [_]) ok_X10_noDoor ⟨Nat.le_of_ble_eq_true rfl, Nat.le_of_ble_eq_true rfl⟩ dX10_tell_2 kl_X10_164 ki_X10_noDoor kv_X10_noDoor rfl rfl rfl rfl (Nat.le_of_ble_eq_true rfl) (Nat.le_of_ble_eq_true rfl) (Nat.zero_add _) (Nat.zero_add _) (sp_X10_noDoor hR hI) ?_
  refine e_if_eq (tgt := 10) dX10_tell_5 rfl (fun h5 => ?_) (fun h5 => ?_)
  · have h5 := Classical.not_not.mp (bi_0.mp h5)
    obtain ⟨q, hq, rfl⟩ := ix_of (x := d) rfl (by omega) h5
    obtain ⟨g0, g1, g2, g3, d8, k1, k2, k3, k4, k5, k6, k7⟩ := hR.dr hI hq
    have eT : S 32 = bT b := hR.2.2.2.2.2.1
    rcases (by omega : ba b 0 q = 0 ∨ ba b 0 q = 1 ∨ ba b 0 q = 2) with hk | hk | hk
    · rw [hk] at g0
      refine e_aload_n 0 dX10_tell_10 rfl rfl ?_
      refine e_getfield 3 dX10_tell_11 kf_X10_7_10 rfl rfl ?_
      refine e_iload_n 1 dX10_tell_14 rfl rfl ?_
      refine e_iald_n (q) dX10_tell_15 rfl rfl (by omega) (by decide) ?_
      refine e_istore_n (lv' := [_, _, _, _]) 2 dX10_tell_16 rfl (Nat.le_of_ble_eq_true rfl) rfl rfl ?_
      rw [g0]
      refine e_iload_n 2 dX10_tell_17 rfl rfl ?_
      refine e_iconst (v := 2) dX10_tell_18 rfl ?_
      refine e_icmp_ne (tgt := 27) dX10_tell_19 rfl (fun _ => ?_) (fun h19 => absurd h19 (by decide))
      refine e_iload_n 2 dX10_tell_27 rfl rfl ?_
      refine e_if_le (tgt := 36) dX10_tell_28 rfl (fun _ => ?_) (fun h28 => absurd (by decide) h28)
      refine e_aload_n 0 dX10_tell_36 rfl rfl ?_
      refine e_iconst (v := 1) dX10_tell_37 rfl ?_
      refine f_callVv (As := [_]) ok_X10_traced ⟨Nat.le_of_ble_eq_true rfl, Nat.le_of_ble_eq_true rfl⟩ dX10_tell_38 kl_X10_275 ki_X10_traced kv_X10_traced rfl rfl rfl rfl (Nat.le_of_ble_eq_true rfl) (Nat.le_of_ble_eq_true rfl) (Nat.zero_add _) (Nat.zero_add _) sp_X10_traced ?_
      refine e_iload_n 2 dX10_tell_41 rfl rfl ?_
      refine e_iconst (v := 2) dX10_tell_42 rfl ?_
      refine e_icmp_ne (tgt := 51) dX10_tell_43 rfl (fun _ => ?_) (fun h43 => absurd h43 (by decide))
      refine e_aload_n 0 dX10_tell_51 rfl rfl ?_
      refine e_getfield 5 dX10_tell_52 kf_X10_16_10 rfl rfl ?_
      refine e_iload_n 1 dX10_tell_55 rfl rfl ?_
      refine e_iald_n (q) dX10_tell_56 rfl rfl (by omega) (by decide) ?_
      rw [eT, g3]
      refine e_istore_n (lv' := [_, _, _, _]) 3 dX10_tell_57 rfl (Nat.le_of_ble_eq_true rfl) rfl rfl ?_
      refine e_iload_n 2 dX10_tell_58 rfl rfl ?_
      refine e_if_ne (tgt := 66) dX10_tell_59 rfl (fun h59 => absurd h59 (by decide)) (fun _ => ?_)
      refine e_iload_n 3 dX10_tell_62 rfl rfl ?_
      refine e_goto (tgt := 84) dX10_tell_63 rfl ?_
      refine e_iret dX10_tell_84 rfl ?_
      have ho : oTell b (nI q) = (nI (ba b 3 q), uT_ b (31 * bT b + 1)) := by
        rw [oTell, if_neg (nn_ h5), nI_clamp (by omega), if_pos hk]
      rw [ho]
      exact ⟨_, A, rfl, rfl, hR.T _, FM.S (by omega)⟩
    · rw [hk] at g0
      refine e_aload_n 0 dX10_tell_10 rfl rfl ?_
      refine e_getfield 3 dX10_tell_11 kf_X10_7_10 rfl rfl ?_
      refine e_iload_n 1 dX10_tell_14 rfl rfl ?_
      refine e_iald_n (q) dX10_tell_15 rfl rfl (by omega) (by decide) ?_
      refine e_istore_n (lv' := [_, _, _, _]) 2 dX10_tell_16 rfl (Nat.le_of_ble_eq_true rfl) rfl rfl ?_
      rw [g0]
      refine e_iload_n 2 dX10_tell_17 rfl rfl ?_
      refine e_iconst (v := 2) dX10_tell_18 rfl ?_
      refine e_icmp_ne (tgt := 27) dX10_tell_19 rfl (fun _ => ?_) (fun h19 => absurd h19 (by decide))
      refine e_iload_n 2 dX10_tell_27 rfl rfl ?_
      refine e_if_le (tgt := 36) dX10_tell_28 rfl (fun h28 => absurd h28 (by decide)) (fun _ => ?_)
      refine e_aload_n 0 dX10_tell_31 rfl rfl ?_
      refine e_iconst (v := 2) dX10_tell_32 rfl ?_
      refine f_callVv (As := [_]) ok_X10_traced ⟨Nat.le_of_ble_eq_true rfl, Nat.le_of_ble_eq_true rfl⟩ dX10_tell_33 kl_X10_275 ki_X10_traced kv_X10_traced rfl rfl rfl rfl (Nat.le_of_ble_eq_true rfl) (Nat.le_of_ble_eq_true rfl) (Nat.zero_add _) (Nat.zero_add _) sp_X10_traced ?_
      refine e_aload_n 0 dX10_tell_36 rfl rfl ?_
      refine e_iconst (v := 1) dX10_tell_37 rfl ?_
      refine f_callVv (As := [_]) ok_X10_traced ⟨Nat.le_of_ble_eq_true rfl, Nat.le_of_ble_eq_true rfl⟩ dX10_tell_38 kl_X10_275 ki_X10_traced kv_X10_traced rfl rfl rfl rfl (Nat.le_of_ble_eq_true rfl) (Nat.le_of_ble_eq_true rfl) (Nat.zero_add _) (Nat.zero_add _) sp_X10_traced ?_
      refine e_iload_n 2 dX10_tell_41 rfl rfl ?_
      refine e_iconst (v := 2) dX10_tell_42 rfl ?_
      refine e_icmp_ne (tgt := 51) dX10_tell_43 rfl (fun _ => ?_) (fun h43 => absurd h43 (by decide))
      refine e_aload_n 0 dX10_tell_51 rfl rfl ?_
      refine e_getfield 5 dX10_tell_52 kf_X10_16_10 rfl rfl ?_
      refine e_iload_n 1 dX10_tell_55 rfl rfl ?_
      refine e_iald_n (q) dX10_tell_56 rfl rfl (by omega) (by decide) ?_
      refine e_w (w' := mkW G (va_up S 32 (31 * (31 * bT b + 2) + 1)) A Lg P T) (by rw [← eT]; exact congrArg (fun f => mkW G f A Lg P T) (bx_uu _ _ _ _)) ?_
      rw [g3]
      refine e_istore_n (lv' := [_, _, _, _]) 3 dX10_tell_57 rfl (Nat.le_of_ble_eq_true rfl) rfl rfl ?_
      refine e_iload_n 2 dX10_tell_58 rfl rfl ?_
      refine e_if_ne (tgt := 66) dX10_tell_59 rfl (fun _ => ?_) (fun h59 => absurd h59 (by decide))
      refine e_iload_n 2 dX10_tell_66 rfl rfl ?_
      refine e_iconst (v := 1) dX10_tell_67 rfl ?_
      refine e_icmp_ne (tgt := 78) dX10_tell_68 rfl (fun h68 => absurd h68 (by decide)) (fun _ => ?_)
      refine e_iload_n 3 dX10_tell_71 rfl rfl ?_
      refine e_bipush (v := 100) dX10_tell_72 (by decide) ?_
      refine e_iadd dX10_tell_74 ?_
      refine e_goto (tgt := 84) dX10_tell_75 rfl ?_
      refine e_iret dX10_tell_84 rfl ?_
      have ho : oTell b (nI q) = (nI (ba b 3 q) + 100, uT_ b (31 * (31 * bT b + 2) + 1)) := by
        rw [oTell, if_neg (nn_ h5), nI_clamp (by omega), if_neg (by omega), if_pos hk]
      rw [ho]
      exact ⟨_, A, rfl, rfl, hR.T _, FM.S (by omega)⟩
    · rw [hk] at g0
      refine e_aload_n 0 dX10_tell_10 rfl rfl ?_
      refine e_getfield 3 dX10_tell_11 kf_X10_7_10 rfl rfl ?_
      refine e_iload_n 1 dX10_tell_14 rfl rfl ?_
      refine e_iald_n (q) dX10_tell_15 rfl rfl (by omega) (by decide) ?_
      refine e_istore_n (lv' := [_, _, _, _]) 2 dX10_tell_16 rfl (Nat.le_of_ble_eq_true rfl) rfl rfl ?_
      rw [g0]
      refine e_iload_n 2 dX10_tell_17 rfl rfl ?_
      refine e_iconst (v := 2) dX10_tell_18 rfl ?_
      refine e_icmp_ne (tgt := 27) dX10_tell_19 rfl (fun h19 => absurd h19 (by decide)) (fun _ => ?_)
      refine e_aload_n 0 dX10_tell_22 rfl rfl ?_
      refine e_iconst (v := 3) dX10_tell_23 rfl ?_
      refine f_callVv (As := [_]) ok_X10_traced ⟨Nat.le_of_ble_eq_true rfl, Nat.le_of_ble_eq_true rfl⟩ dX10_tell_24 kl_X10_275 ki_X10_traced kv_X10_traced rfl rfl rfl rfl (Nat.le_of_ble_eq_true rfl) (Nat.le_of_ble_eq_true rfl) (Nat.zero_add _) (Nat.zero_add _) sp_X10_traced ?_
      refine e_iload_n 2 dX10_tell_27 rfl rfl ?_
      refine e_if_le (tgt := 36) dX10_tell_28 rfl (fun h28 => absurd h28 (by decide)) (fun _ => ?_)
      refine e_aload_n 0 dX10_tell_31 rfl rfl ?_
      refine e_iconst (v := 2) dX10_tell_32 rfl ?_
      refine f_callVv (As := [_]) ok_X10_traced ⟨Nat.le_of_ble_eq_true rfl, Nat.le_of_ble_eq_true rfl⟩ dX10_tell_33 kl_X10_275 ki_X10_traced kv_X10_traced rfl rfl rfl rfl (Nat.le_of_ble_eq_true rfl) (Nat.le_of_ble_eq_true rfl) (Nat.zero_add _) (Nat.zero_add _) sp_X10_traced ?_
      refine e_aload_n 0 dX10_tell_36 rfl rfl ?_
      refine e_iconst (v := 1) dX10_tell_37 rfl ?_
      refine f_callVv (As := [_]) ok_X10_traced ⟨Nat.le_of_ble_eq_true rfl, Nat.le_of_ble_eq_true rfl⟩ dX10_tell_38 kl_X10_275 ki_X10_traced kv_X10_traced rfl rfl rfl rfl (Nat.le_of_ble_eq_true rfl) (Nat.le_of_ble_eq_true rfl) (Nat.zero_add _) (Nat.zero_add _) sp_X10_traced ?_
      refine e_iload_n 2 dX10_tell_41 rfl rfl ?_
      refine e_iconst (v := 2) dX10_tell_42 rfl ?_
      refine e_icmp_ne (tgt := 51) dX10_tell_43 rfl (fun h43 => absurd h43 (by decide)) (fun _ => ?_)
      refine e_aload_n 0 dX10_tell_46 rfl rfl ?_
      refine e_iconst (v := 1) dX10_tell_47 rfl ?_
      refine f_callVv (As := [_]) ok_X10_traced ⟨Nat.le_of_ble_eq_true rfl, Nat.le_of_ble_eq_true rfl⟩ dX10_tell_48 kl_X10_275 ki_X10_traced kv_X10_traced rfl rfl rfl rfl (Nat.le_of_ble_eq_true rfl) (Nat.le_of_ble_eq_true rfl) (Nat.zero_add _) (Nat.zero_add _) sp_X10_traced ?_
      refine e_aload_n 0 dX10_tell_51 rfl rfl ?_
      refine e_getfield 5 dX10_tell_52 kf_X10_16_10 rfl rfl ?_
      refine e_iload_n 1 dX10_tell_55 rfl rfl ?_
      refine e_iald_n (q) dX10_tell_56 rfl rfl (by omega) (by decide) ?_
      refine e_w (w' := mkW G (va_up S 32 (31 * (31 * (31 * (31 * bT b + 3) + 2) + 1) + 1)) A Lg P T) (by rw [← eT]; exact congrArg (fun f => mkW G f A Lg P T) (by rw [bx_uu, bx_uu, bx_uu]; rfl)) ?_
      rw [g3]
      refine e_istore_n (lv' := [_, _, _, _]) 3 dX10_tell_57 rfl (Nat.le_of_ble_eq_true rfl) rfl rfl ?_
      refine e_iload_n 2 dX10_tell_58 rfl rfl ?_
      refine e_if_ne (tgt := 66) dX10_tell_59 rfl (fun _ => ?_) (fun h59 => absurd h59 (by decide))
      refine e_iload_n 2 dX10_tell_66 rfl rfl ?_
      refine e_iconst (v := 1) dX10_tell_67 rfl ?_
      refine e_icmp_ne (tgt := 78) dX10_tell_68 rfl (fun _ => ?_) (fun h68 => absurd h68 (by decide))
      refine e_iconst (v := 2) dX10_tell_78 rfl ?_
      refine e_iload_n 3 dX10_tell_79 rfl rfl ?_
      refine e_imul dX10_tell_80 ?_
      refine e_bipush (v := 100) dX10_tell_81 (by decide) ?_
      refine e_iadd dX10_tell_83 ?_
      refine e_iret dX10_tell_84 rfl ?_
      have ho : oTell b (nI q) = (nI (ba b 3 q) + 100 + nI (ba b 3 q), uT_ b (31 * (31 * (31 * (31 * bT b + 3) + 2) + 1) + 1)) := by
        rw [oTell, if_neg (nn_ h5), nI_clamp (by omega), if_neg (by omega), if_neg (by omega)]
      rw [ho]
      exact ⟨_, A, rfl, congrArg some (congrArg Value.int (tw2 k6)), hR.T _, FM.S (by omega)⟩
  · refine e_iconst (v := -1) dX10_tell_8 rfl ?_
    refine e_iret dX10_tell_9 rfl ?_
    have ho : oTell b d = (-1, b) := by
      rw [oTell, if_pos (bi_1.mp h5)]
    rw [ho]
    exact ⟨S, A, rfl, rfl, hR, FM.rf⟩

set_option maxRecDepth 4000 in
theorem sp_X10_ring {G : sh_G} {S : Nat → Int32} {A : Nat → Nat → Int32} {Lg : Nat → Int64} {P : Nat → Option Nat} {T : List sh_C} {b : sh_be} {d : Int32} (hR : RM S A b) (hI : IV b) : Ev G mX10_ring 0 0 (mkW G S A Lg P T) 0 [some (.ref 24), some (.int d)] [] (QM G S A Lg P T (some (.int (oRing b d).1)) (oRing b d).2) := by
  have e1 := hR.2.1
  have e2 := hR.2.2.1
  have e3 := hR.2.2.2.1
  have e4 := hR.2.2.2.2.1
  have i1 := hI.1
  have i2 := hI.2.1
  have i3 := hI.2.2.1
  have i4 := hI.2.2.2.1
  refine e_aload_n 0 dX10_ring_0 rfl rfl ?_
  refine e_iload_n 1 dX10_ring_1 rfl rfl ?_
  refine f_callVi (As := [_]) ok_X10_noDoor ⟨Nat.le_of_ble_eq_true rfl, Nat.le_of_ble_eq_true rfl⟩ dX10_ring_2 kl_X10_164 ki_X10_noDoor kv_X10_noDoor rfl rfl rfl rfl (Nat.le_of_ble_eq_true rfl) (Nat.le_of_ble_eq_true rfl) (Nat.zero_add _) (Nat.zero_add _) (sp_X10_noDoor hR hI) ?_
  refine e_if_eq (tgt := 10) dX10_ring_5 rfl (fun h5 => ?_) (fun h5 => ?_)
  · have h5 := Classical.not_not.mp (bi_0.mp h5)
    obtain ⟨q, hq, rfl⟩ := ix_of (x := d) rfl (by omega) h5
    obtain ⟨g0, g1, g2, g3, d8, k1, k2, k3, k4, k5, k6, k7⟩ := hR.dr hI hq
    have eT : S 32 = bT b := hR.2.2.2.2.2.1
    rcases (by omega : ba b 0 q = 0 ∨ ba b 0 q = 1 ∨ ba b 0 q = 2) with hk | hk | hk
    · rw [hk] at g0
      refine e_aload_n 0 dX10_ring_10 rfl rfl ?_
      refine e_aload_n 0 dX10_ring_11 rfl rfl ?_
      refine e_getfield 3 dX10_ring_12 kf_X10_7_10 rfl rfl ?_
      refine e_iload_n 1 dX10_ring_15 rfl rfl ?_
      refine e_iald_n (q) dX10_ring_16 rfl rfl (by omega) (by decide) ?_
      rw [g0]
      refine e_iconst (v := 2) dX10_ring_17 rfl ?_
      refine e_icmp_ne (tgt := 25) dX10_ring_18 rfl (fun _ => ?_) (fun h18 => absurd h18 (by decide))
      refine e_iconst (v := 4) dX10_ring_25 rfl ?_
      refine f_callVv (As := [_]) ok_X10_traced ⟨Nat.le_of_ble_eq_true rfl, Nat.le_of_ble_eq_true rfl⟩ dX10_ring_26 kl_X10_275 ki_X10_traced kv_X10_traced rfl rfl rfl rfl (Nat.le_of_ble_eq_true rfl) (Nat.le_of_ble_eq_true rfl) (Nat.zero_add _) (Nat.zero_add _) sp_X10_traced ?_
      rw [eT]
      refine e_aload_n 0 dX10_ring_29 rfl rfl ?_
      refine e_getfield 3 dX10_ring_30 kf_X10_7_10 rfl rfl ?_
      refine e_iload_n 1 dX10_ring_33 rfl rfl ?_
      refine e_iald_n (q) dX10_ring_34 rfl rfl (by omega) (by decide) ?_
      rw [g0]
      refine e_iconst (v := 2) dX10_ring_35 rfl ?_
      refine e_icmp_ne (tgt := 44) dX10_ring_36 rfl (fun _ => ?_) (fun h36 => absurd h36 (by decide))
      refine e_iload_n 1 dX10_ring_44 rfl rfl ?_
      refine e_iret dX10_ring_45 rfl ?_
      have ho : oRing b (nI q) = (nI q, uT_ b (31 * bT b + 4)) := by
        rw [oRing, if_neg (nn_ h5), nI_clamp (by omega), if_neg (by omega)]
      rw [ho]
      exact ⟨_, A, rfl, rfl, hR.T _, FM.S (by omega)⟩
    · rw [hk] at g0
      refine e_aload_n 0 dX10_ring_10 rfl rfl ?_
      refine e_aload_n 0 dX10_ring_11 rfl rfl ?_
      refine e_getfield 3 dX10_ring_12 kf_X10_7_10 rfl rfl ?_
      refine e_iload_n 1 dX10_ring_15 rfl rfl ?_
      refine e_iald_n (q) dX10_ring_16 rfl rfl (by omega) (by decide) ?_
      rw [g0]
      refine e_iconst (v := 2) dX10_ring_17 rfl ?_
      refine e_icmp_ne (tgt := 25) dX10_ring_18 rfl (fun _ => ?_) (fun h18 => absurd h18 (by decide))
      refine e_iconst (v := 4) dX10_ring_25 rfl ?_
      refine f_callVv (As := [_]) ok_X10_traced ⟨Nat.le_of_ble_eq_true rfl, Nat.le_of_ble_eq_true rfl⟩ dX10_ring_26 kl_X10_275 ki_X10_traced kv_X10_traced rfl rfl rfl rfl (Nat.le_of_ble_eq_true rfl) (Nat.le_of_ble_eq_true rfl) (Nat.zero_add _) (Nat.zero_add _) sp_X10_traced ?_
      rw [eT]
      refine e_aload_n 0 dX10_ring_29 rfl rfl ?_
      refine e_getfield 3 dX10_ring_30 kf_X10_7_10 rfl rfl ?_
      refine e_iload_n 1 dX10_ring_33 rfl rfl ?_
      refine e_iald_n (q) dX10_ring_34 rfl rfl (by omega) (by decide) ?_
      rw [g0]
      refine e_iconst (v := 2) dX10_ring_35 rfl ?_
      refine e_icmp_ne (tgt := 44) dX10_ring_36 rfl (fun _ => ?_) (fun h36 => absurd h36 (by decide))
      refine e_iload_n 1 dX10_ring_44 rfl rfl ?_
      refine e_iret dX10_ring_45 rfl ?_
      have ho : oRing b (nI q) = (nI q, uT_ b (31 * bT b + 4)) := by
        rw [oRing, if_neg (nn_ h5), nI_clamp (by omega), if_neg (by omega)]
      rw [ho]
      exact ⟨_, A, rfl, rfl, hR.T _, FM.S (by omega)⟩
    · rw [hk] at g0
      refine e_aload_n 0 dX10_ring_10 rfl rfl ?_
      refine e_aload_n 0 dX10_ring_11 rfl rfl ?_
      refine e_getfield 3 dX10_ring_12 kf_X10_7_10 rfl rfl ?_
      refine e_iload_n 1 dX10_ring_15 rfl rfl ?_
      refine e_iald_n (q) dX10_ring_16 rfl rfl (by omega) (by decide) ?_
      rw [g0]
      refine e_iconst (v := 2) dX10_ring_17 rfl ?_
      refine e_icmp_ne (tgt := 25) dX10_ring_18 rfl (fun h18 => absurd h18 (by decide)) (fun _ => ?_)
      refine e_iconst (v := 5) dX10_ring_21 rfl ?_
      refine e_goto (tgt := 26) dX10_ring_22 rfl ?_
      refine f_callVv (As := [_]) ok_X10_traced ⟨Nat.le_of_ble_eq_true rfl, Nat.le_of_ble_eq_true rfl⟩ dX10_ring_26 kl_X10_275 ki_X10_traced kv_X10_traced rfl rfl rfl rfl (Nat.le_of_ble_eq_true rfl) (Nat.le_of_ble_eq_true rfl) (Nat.zero_add _) (Nat.zero_add _) sp_X10_traced ?_
      rw [eT]
      refine e_aload_n 0 dX10_ring_29 rfl rfl ?_
      refine e_getfield 3 dX10_ring_30 kf_X10_7_10 rfl rfl ?_
      refine e_iload_n 1 dX10_ring_33 rfl rfl ?_
      refine e_iald_n (q) dX10_ring_34 rfl rfl (by omega) (by decide) ?_
      rw [g0]
      refine e_iconst (v := 2) dX10_ring_35 rfl ?_
      refine e_icmp_ne (tgt := 44) dX10_ring_36 rfl (fun h36 => absurd h36 (by decide)) (fun _ => ?_)
      refine e_bipush (v := 80) dX10_ring_39 (by decide) ?_
      refine e_goto (tgt := 45) dX10_ring_41 rfl ?_
      refine e_iret dX10_ring_45 rfl ?_
      have ho : oRing b (nI q) = (80, uT_ b (31 * bT b + 5)) := by
        rw [oRing, if_neg (nn_ h5), nI_clamp (by omega), if_pos hk]
      rw [ho]
      exact ⟨_, A, rfl, rfl, hR.T _, FM.S (by omega)⟩
  · refine e_iconst (v := -1) dX10_ring_8 rfl ?_
    refine e_iret dX10_ring_9 rfl ?_
    have ho : oRing b d = (-1, b) := by
      rw [oRing, if_pos (bi_1.mp h5)]
    rw [ho]
    exact ⟨S, A, rfl, rfl, hR, FM.rf⟩

set_option maxRecDepth 4000 in
theorem sp_X10_as {G : sh_G} {S : Nat → Int32} {A : Nat → Nat → Int32} {Lg : Nat → Int64} {P : Nat → Option Nat} {T : List sh_C} {b : sh_be} {d k : Int32} (hR : RM S A b) (hI : IV b) : Ev G mX10_as 0 0 (mkW G S A Lg P T) 0 [some (.ref 24), some (.int d), some (.int k)] [] (QM G S A Lg P T (some (.int (oAs b d k).1)) (oAs b d k).2) := by
  have e1 := hR.2.1
  have e2 := hR.2.2.1
  have e3 := hR.2.2.2.1
  have e4 := hR.2.2.2.2.1
  have i1 := hI.1
  have i2 := hI.2.1
  have i3 := hI.2.2.1
  have i4 := hI.2.2.2.1
  refine e_aload_n 0 dX10_as_0 rfl rfl ?_
  refine e_iload_n 1 dX10_as_1 rfl rfl ?_
  refine f_callVi (As := [_]) ok_X10_noDoor ⟨Nat.le_of_ble_eq_true rfl, Nat.le_of_ble_eq_true rfl⟩ dX10_as_2 kl_X10_164 ki_X10_noDoor kv_X10_noDoor rfl rfl rfl rfl (Nat.le_of_ble_eq_true rfl) (Nat.le_of_ble_eq_true rfl) (Nat.zero_add _) (Nat.zero_add _) (sp_X10_noDoor hR hI) ?_
  refine e_if_eq (tgt := 14) dX10_as_5 rfl (fun h5 => ?_) (fun h5 => ?_)
  · have h5 := Classical.not_not.mp (bi_0.mp h5)
    obtain ⟨q, hq, rfl⟩ := ix_of (x := d) rfl (by omega) h5
    obtain ⟨g0, g1, g2, g3, d8, k1, k2, k3, k4, k5, k6, k7⟩ := hR.dr hI hq
    have eT : S 32 = bT b := hR.2.2.2.2.2.1
    refine e_iload_n 2 dX10_as_14 rfl rfl ?_
    refine e_i2l dX10_as_15 ?_
    refine e_lconst (v := 0) dX10_as_16 rfl ?_
    refine e_ldc2 dX10_as_17 kc_X10_95 ?_
    refine f_callSi (As := [_, _, _]) ok_X10_in ⟨Nat.le_of_ble_eq_true rfl, Nat.le_of_ble_eq_true rfl⟩ dX10_as_20 kl_X10_97 ks_X10_in rfl rfl (Nat.le_of_ble_eq_true rfl) (Nat.le_of_ble_eq_true rfl) (Nat.zero_add _) (Nat.zero_add _) sp_X10_in ?_
    rw [in2]
    refine e_if_ne (tgt := 33) dX10_as_23 rfl (fun h23 => ?_) (fun h23 => ?_)
    · refine e_aload_n 0 dX10_as_33 rfl rfl ?_
      refine e_getfield 3 dX10_as_34 kf_X10_7_10 rfl rfl ?_
      refine e_iload_n 1 dX10_as_37 rfl rfl ?_
      refine e_iald_n (q) dX10_as_38 rfl rfl (by omega) (by decide) ?_
      refine e_iload_n 2 dX10_as_39 rfl rfl ?_
      refine e_icmp_lt (tgt := 51) dX10_as_40 rfl (fun h40 => ?_) (fun h40 => ?_)
      · refine e_aload_n 0 dX10_as_51 rfl rfl ?_
        refine e_iconst (v := 2) dX10_as_52 rfl ?_
        refine f_callVi (As := [_]) ok_X10_failed ⟨Nat.le_of_ble_eq_true rfl, Nat.le_of_ble_eq_true rfl⟩ dX10_as_53 kl_X10_101 ki_X10_failed kv_X10_failed rfl rfl rfl rfl (Nat.le_of_ble_eq_true rfl) (Nat.le_of_ble_eq_true rfl) (Nat.zero_add _) (Nat.zero_add _) sp_X10_failed ?_
        refine e_iret dX10_as_56 rfl ?_
        rw [g0] at h40
        first
        | (have ho : oAs b (nI q) k = (-12, uF_ b 2) := by
             rw [oAs, if_neg (nn_ h5), if_neg (nn_ (bi_1.mp h23)), nI_clamp (by omega), if_neg (Int32.not_le.mpr h40)]
           rw [ho]
           exact ⟨_, A, rfl, rfl, hR.F 2, FM.S (by omega)⟩)
        | (have ho : oAs b (nI q) k = (1, uF_ b 0) := by
             rw [oAs, if_neg (nn_ h5), if_neg (nn_ (bi_1.mp h23)), nI_clamp (by omega), if_pos (Int32.not_lt.mp h40)]
           rw [ho]
           exact ⟨_, A, rfl, rfl, hR.F 0, FM.S (by omega)⟩)
      · refine e_aload_n 0 dX10_as_43 rfl rfl ?_
        refine e_iconst (v := 1) dX10_as_44 rfl ?_
        refine f_callVi (As := [_]) ok_X10_refused ⟨Nat.le_of_ble_eq_true rfl, Nat.le_of_ble_eq_true rfl⟩ dX10_as_45 kl_X10_91 ki_X10_refused kv_X10_refused rfl rfl rfl rfl (Nat.le_of_ble_eq_true rfl) (Nat.le_of_ble_eq_true rfl) (Nat.zero_add _) (Nat.zero_add _) sp_X10_refused ?_
        refine e_goto (tgt := 56) dX10_as_48 rfl ?_
        refine e_iret dX10_as_56 rfl ?_
        rw [g0] at h40
        first
        | (have ho : oAs b (nI q) k = (-12, uF_ b 2) := by
             rw [oAs, if_neg (nn_ h5), if_neg (nn_ (bi_1.mp h23)), nI_clamp (by omega), if_neg (Int32.not_le.mpr h40)]
           rw [ho]
           exact ⟨_, A, rfl, rfl, hR.F 2, FM.S (by omega)⟩)
        | (have ho : oAs b (nI q) k = (1, uF_ b 0) := by
             rw [oAs, if_neg (nn_ h5), if_neg (nn_ (bi_1.mp h23)), nI_clamp (by omega), if_pos (Int32.not_lt.mp h40)]
           rw [ho]
           exact ⟨_, A, rfl, rfl, hR.F 0, FM.S (by omega)⟩)
    · refine e_aload_n 0 dX10_as_26 rfl rfl ?_
      refine e_bipush (v := -2) dX10_as_27 (by decide) ?_
      refine f_callVi (As := [_]) ok_X10_refused ⟨Nat.le_of_ble_eq_true rfl, Nat.le_of_ble_eq_true rfl⟩ dX10_as_29 kl_X10_91 ki_X10_refused kv_X10_refused rfl rfl rfl rfl (Nat.le_of_ble_eq_true rfl) (Nat.le_of_ble_eq_true rfl) (Nat.zero_add _) (Nat.zero_add _) sp_X10_refused ?_
      refine e_iret dX10_as_32 rfl ?_
      have ho : oAs b (nI q) k = (-2, uF_ b 0) := by
        rw [oAs, if_neg (nn_ h5), if_pos (bi_0.mp h23)]
      rw [ho]
      exact ⟨_, A, rfl, rfl, hR.F 0, FM.S (by omega)⟩
  · refine e_aload_n 0 dX10_as_8 rfl rfl ?_
    refine e_iconst (v := -1) dX10_as_9 rfl ?_
    refine f_callVi (As := [_]) ok_X10_refused ⟨Nat.le_of_ble_eq_true rfl, Nat.le_of_ble_eq_true rfl⟩ dX10_as_10 kl_X10_91 ki_X10_refused kv_X10_refused rfl rfl rfl rfl (Nat.le_of_ble_eq_true rfl) (Nat.le_of_ble_eq_true rfl) (Nat.zero_add _) (Nat.zero_add _) sp_X10_refused ?_
    refine e_iret dX10_as_13 rfl ?_
    have ho : oAs b d k = (-1, uF_ b 0) := by
      rw [oAs, if_pos (bi_1.mp h5)]
    rw [ho]
    exact ⟨_, A, rfl, rfl, hR.F 0, FM.S (by omega)⟩

set_option maxRecDepth 4000 in
theorem sp_X10_many {G : sh_G} {S : Nat → Int32} {A : Nat → Nat → Int32} {Lg : Nat → Int64} {P : Nat → Option Nat} {T : List sh_C} {b : sh_be} {what : Int32} (hR : RM S A b) (hI : IV b) : Ev G mX10_many 0 0 (mkW G S A Lg P T) 0 [some (.ref 24), some (.int what)] [] (sh_is (some (.int (oMany b what))) (mkW G S A Lg P T)) := by
  have e1 := hR.2.1
  have e2 := hR.2.2.1
  have e3 := hR.2.2.2.1
  have e4 := hR.2.2.2.2.1
  have i1 := hI.1
  have i2 := hI.2.1
  have i3 := hI.2.2.1
  have i4 := hI.2.2.2.1
  refine e_iload_n 1 dX10_many_0 rfl rfl ?_
  by_cases c0 : what = 0
  · subst c0
    refine e_tableIn (off := 31) (tgt := 32) dX10_many_1 (by decide) (by decide) (by decide) rfl ?_
    refine e_aload_n 0 dX10_many_32 rfl rfl ?_
    refine e_getfield 1 dX10_many_33 kf_X10_108_10 rfl rfl ?_
    refine e_iret dX10_many_36 rfl ?_
    exact is_i (by rw [oMany, if_pos rfl]; exact e1) rfl
  by_cases c1 : what = 1
  · subst c1
    refine e_tableIn (off := 36) (tgt := 37) dX10_many_1 (by decide) (by decide) (by decide) rfl ?_
    refine e_aload_n 0 dX10_many_37 rfl rfl ?_
    refine e_getfield 2 dX10_many_38 kf_X10_111_10 rfl rfl ?_
    refine e_iret dX10_many_41 rfl ?_
    exact is_i (by rw [oMany, if_neg c0, if_pos rfl]; exact e2) rfl
  by_cases c2 : what = 2
  · subst c2
    refine e_tableIn (off := 41) (tgt := 42) dX10_many_1 (by decide) (by decide) (by decide) rfl ?_
    refine e_aload_n 0 dX10_many_42 rfl rfl ?_
    refine e_getfield 12 dX10_many_43 kf_X10_145_10 rfl rfl ?_
    refine e_iret dX10_many_46 rfl ?_
    exact is_i (by rw [oMany, if_neg c0, if_neg c1, if_pos rfl]; exact e3) rfl
  by_cases c3 : what = 3
  · subst c3
    refine e_tableIn (off := 46) (tgt := 47) dX10_many_1 (by decide) (by decide) (by decide) rfl ?_
    refine e_aload_n 0 dX10_many_47 rfl rfl ?_
    refine e_getfield 15 dX10_many_48 kf_X10_148_10 rfl rfl ?_
    refine e_iret dX10_many_51 rfl ?_
    exact is_i (by rw [oMany, if_neg c0, if_neg c1, if_neg c2, if_pos rfl]; exact e4) rfl
  refine e_tableOut (tgt := 52) dX10_many_1 (sw4 c0 c1 c2 c3) rfl ?_
  refine e_bipush (v := -2) dX10_many_52 (by decide) ?_
  refine e_iret dX10_many_54 rfl ?_
  exact is_i (by rw [oMany, if_neg c0, if_neg c1, if_neg c2, if_neg c3]) rfl

set_option maxRecDepth 4000 in
theorem sp_X10_trace {G : sh_G} {S : Nat → Int32} {A : Nat → Nat → Int32} {Lg : Nat → Int64} {P : Nat → Option Nat} {T : List sh_C} {b : sh_be} (hR : RM S A b) (hI : IV b) : Ev G mX10_trace 0 0 (mkW G S A Lg P T) 0 [some (.ref 24)] [] (sh_is (some (.int (bT b))) (mkW G S A Lg P T)) := by
  refine e_aload_n 0 dX10_trace_0 rfl rfl ?_
  refine e_getfield 34 dX10_trace_1 kf_X10_272_10 rfl rfl ?_
  refine e_iret dX10_trace_4 rfl ?_
  exact is_i hR.2.2.2.2.2.1 rfl

set_option maxRecDepth 4000 in
theorem sp_X10_fault {G : sh_G} {S : Nat → Int32} {A : Nat → Nat → Int32} {Lg : Nat → Int64} {P : Nat → Option Nat} {T : List sh_C} {b : sh_be} (hR : RM S A b) (hI : IV b) : Ev G mX10_fault 0 0 (mkW G S A Lg P T) 0 [some (.ref 24)] [] (sh_is (some (.int (bF b))) (mkW G S A Lg P T)) := by
  refine e_aload_n 0 dX10_fault_0 rfl rfl ?_
  refine e_getfield 0 dX10_fault_1 kf_X10_79_10 rfl rfl ?_
  refine e_iret dX10_fault_4 rfl ?_
  exact is_i hR.1 rfl
