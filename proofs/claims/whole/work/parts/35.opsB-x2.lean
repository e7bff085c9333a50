set_option maxRecDepth 4000 in
theorem sp_X9_take {G : sh_G} {S : Nat → Int32} {A : Nat → Nat → Int32} {Lg : Nat → Int64} {P : Nat → Option Nat} {T : List sh_C} {b : sh_be} {p s : Int32} (hR : RX S A Lg P T b) (hI : IV b) : Ev G mX9_take 0 0 (mkW G S A Lg P T) 0 [some (.ref 1), some (.int p), some (.int s)] [] (QX G S A (some (.int (oTake b p s).1)) (oTake b p s).2) := by
  have e1 := hR.2.1
  have e2 := hR.2.2.1
  have e3 := hR.2.2.2.1
  have e4 := hR.2.2.2.2.1
  have i1 := hI.1
  have i2 := hI.2.1
  have i3 := hI.2.2.1
  have i4 := hI.2.2.2.1
  refine e_aload_n 0 dX9_take_0 rfl rfl ?_
  refine e_getfield 2 dX9_take_1 kf_X9_27_9 rfl rfl ?_
  refine e_iload_n 1 dX9_take_4 rfl rfl ?_
  refine f_callVi (As := [_]) ok_X0_hasPerson ⟨Nat.le_of_ble_eq_true rfl, Nat.le_of_ble_eq_true rfl⟩ dX9_take_5 kl_X9_107 ki_X0_hasPerson kv_X0_hasPerson rfl rfl rfl rfl (Nat.le_of_ble_eq_true rfl) (Nat.le_of_ble_eq_true rfl) (Nat.zero_add _) (Nat.zero_add _) sp_X0_hasPerson ?_
  refine e_if_eq (tgt := 22) dX9_take_8 rfl (fun h8 => ?_) (fun h8 => ?_)
  · rw [e3] at h8
    try rw [e4] at h19
    refine e_iconst (v := -1) dX9_take_22 rfl ?_
    refine e_iret dX9_take_23 rfl ?_
    have ho : oTake b p s = (-1, b) := by
      first | rw [oTake, if_pos (Or.inl (bi_0.mp h8))] | rw [oTake, if_pos (Or.inr (bi_0.mp h19))]
    rw [ho]
    exact ⟨S, A, Lg, P, T, rfl, rfl, hR, FX.rf⟩
  · refine e_aload_n 0 dX9_take_11 rfl rfl ?_
    refine e_getfield 2 dX9_take_12 kf_X9_27_9 rfl rfl ?_
    refine e_iload_n 2 dX9_take_15 rfl rfl ?_
    refine f_callVi (As := [_]) ok_X0_hasStone ⟨Nat.le_of_ble_eq_true rfl, Nat.le_of_ble_eq_true rfl⟩ dX9_take_16 kl_X9_122 ki_X0_hasStone kv_X0_hasStone rfl rfl rfl rfl (Nat.le_of_ble_eq_true rfl) (Nat.le_of_ble_eq_true rfl) (Nat.zero_add _) (Nat.zero_add _) sp_X0_hasStone ?_
    refine e_if_ne (tgt := 24) dX9_take_19 rfl (fun h19 => ?_) (fun h19 => ?_)
    · rw [e3] at h8
      rw [e4] at h19
      obtain ⟨x, hx, rfl⟩ := ix_of (x := p) rfl (by omega) (bi_1.mp h8)
      obtain ⟨y, hy, rfl⟩ := ix_of (x := s) rfl (by omega) (bi_1.mp h19)
      have hko : ¬ (¬ (¬ nI x < 0 ∧ ¬ nI (bn b 2) ≤ nI x) ∨ ¬ (¬ nI y < 0 ∧ ¬ nI (bn b 3) ≤ nI y)) := fun h => h.elim (fun h => h (bi_1.mp h8)) (fun h => h (bi_1.mp h19))
      have gp := (hR.2.2.2.2.2.2.2.2.1 x hx).2
      have gs := (hR.2.2.2.2.2.2.2.2.2.1 y hy).2
      have ip := (hI.2.2.2.2.2.1 x hx).2.2
      have is := hI.2.2.2.2.2.2.1 y hy
      have il := hI.pl hy
      refine e_aload_n 0 dX9_take_24 rfl rfl ?_
      refine e_getfield 2 dX9_take_25 kf_X9_27_9 rfl rfl ?_
      refine e_getfield 5 dX9_take_28 kf_X9_128_0 rfl rfl ?_
      refine e_iload_n 2 dX9_take_31 rfl rfl ?_
      refine e_iald_n (y) dX9_take_32 rfl rfl (by omega) (by decide) ?_
      refine e_aload_n 0 dX9_take_33 rfl rfl ?_
      refine e_getfield 2 dX9_take_34 kf_X9_27_9 rfl rfl ?_
      refine e_getfield 3 dX9_take_37 kf_X9_113_0 rfl rfl ?_
      refine e_iload_n 1 dX9_take_40 rfl rfl ?_
      refine e_iald_n (x) dX9_take_41 rfl rfl (by omega) (by decide) ?_
      refine e_icmp_eq (tgt := 48) dX9_take_42 rfl (fun h42 => ?_) (fun h42 => ?_)
      · rw [gs, gp, plx_r (by omega) (by omega)] at h42
        refine e_aload_n 0 dX9_take_48 rfl rfl ?_
        refine e_getfield 2 dX9_take_49 kf_X9_27_9 rfl rfl ?_
        refine e_iload_n 1 dX9_take_52 rfl rfl ?_
        refine f_callVi (As := [_]) ok_X0_howManyCarriedBy ⟨Nat.le_of_ble_eq_true rfl, Nat.le_of_ble_eq_true rfl⟩ dX9_take_53 kl_X9_131 ki_X0_howManyCarriedBy kv_X0_howManyCarriedBy rfl rfl rfl rfl (Nat.le_of_ble_eq_true rfl) (Nat.le_of_ble_eq_true rfl) (Nat.zero_add _) (Nat.zero_add _) (sp_X0_hm hR hI (by omega)) ?_
        refine e_iconst (v := 2) dX9_take_56 rfl ?_
        refine e_icmp_lt (tgt := 63) dX9_take_57 rfl (fun h57 => ?_) (fun h57 => ?_)
        · rw [show (2 : Int32) = nI 2 from rfl, nI_ltI (by have := hI.2.2.2.2.2.2.2.1 x; omega) (by omega)] at h57
          refine e_aload_n 0 dX9_take_63 rfl rfl ?_
          refine e_getfield 2 dX9_take_64 kf_X9_27_9 rfl rfl ?_
          refine e_getfield 5 dX9_take_67 kf_X9_128_0 rfl rfl ?_
          refine e_iload_n 2 dX9_take_70 rfl rfl ?_
          refine e_iload_n 1 dX9_take_71 rfl rfl ?_
          refine f_callSi (As := [_]) ok_X0_placeWith ⟨Nat.le_of_ble_eq_true rfl, Nat.le_of_ble_eq_true rfl⟩ dX9_take_72 kl_X9_134 ks_X0_placeWith rfl rfl (Nat.le_of_ble_eq_true rfl) (Nat.le_of_ble_eq_true rfl) (Nat.zero_add _) (Nat.zero_add _) sp_X0_placeWith ?_
          refine e_iast_n (y) dX9_take_75 rfl rfl (by omega) (by decide) ?_
          refine e_w (w' := mkW G S (va_up A 3 (upd (A 3) y (plx (20 + x)))) Lg P T) (by rw [plx_p x (by omega)]; rfl) ?_
          have hR2 := hR.pl y (20 + x)
          have hI2 := hI.place hy (Or.inr ⟨show 20 ≤ 20 + x by omega, by omega, by omega⟩)
          refine e_aload_n 0 dX9_take_76 rfl rfl ?_
          refine e_getfield 2 dX9_take_77 kf_X9_27_9 rfl rfl ?_
          refine e_iload_n 1 dX9_take_80 rfl rfl ?_
          refine f_callVi (As := [_]) ok_X0_howManyCarriedBy ⟨Nat.le_of_ble_eq_true rfl, Nat.le_of_ble_eq_true rfl⟩ dX9_take_81 kl_X9_131 ki_X0_howManyCarriedBy kv_X0_howManyCarriedBy rfl rfl rfl rfl (Nat.le_of_ble_eq_true rfl) (Nat.le_of_ble_eq_true rfl) (Nat.zero_add _) (Nat.zero_add _) (sp_X0_hm hR2 hI2 (by omega)) ?_
          refine e_iret dX9_take_84 rfl ?_
          have ho : oTake b (nI x) (nI y) = (nI (cnN (ba (uA_ b 7 y (20 + x)) 7) (20 + x) (bn b 3)), uA_ b 7 y (20 + x)) := by
            rw [oTake, if_neg hko, nI_clamp (by omega), nI_clamp (by omega), if_neg (nn_ h42), if_neg (by omega)]
          rw [ho]
          exact ⟨_, _, Lg, P, T, rfl, rfl, hR2, FX.A (by omega)⟩
        · rw [show (2 : Int32) = nI 2 from rfl, nI_ltI (by have := hI.2.2.2.2.2.2.2.1 x; omega) (by omega)] at h57
          refine e_bipush (v := -4) dX9_take_60 (by decide) ?_
          refine e_iret dX9_take_62 rfl ?_
          have ho : oTake b (nI x) (nI y) = (-4, b) := by
            rw [oTake, if_neg hko, nI_clamp (by omega), nI_clamp (by omega), if_neg (nn_ h42), if_pos (by omega)]
          rw [ho]
          exact ⟨S, A, Lg, P, T, rfl, rfl, hR, FX.rf⟩
      · rw [gs, gp, plx_r (by omega) (by omega)] at h42
        refine e_bipush (v := -3) dX9_take_45 (by decide) ?_
        refine e_iret dX9_take_47 rfl ?_
        have ho : oTake b (nI x) (nI y) = (-3, b) := by
          rw [oTake, if_neg hko, nI_clamp (by omega), nI_clamp (by omega), if_pos h42]
        rw [ho]
        exact ⟨S, A, Lg, P, T, rfl, rfl, hR, FX.rf⟩
    · rw [e3] at h8
      try rw [e4] at h19
      refine e_iconst (v := -1) dX9_take_22 rfl ?_
      refine e_iret dX9_take_23 rfl ?_
      have ho : oTake b p s = (-1, b) := by
        first | rw [oTake, if_pos (Or.inl (bi_0.mp h8))] | rw [oTake, if_pos (Or.inr (bi_0.mp h19))]
      rw [ho]
      exact ⟨S, A, Lg, P, T, rfl, rfl, hR, FX.rf⟩

set_option maxRecDepth 4000 in
theorem sp_X9_lay {G : sh_G} {S : Nat → Int32} {A : Nat → Nat → Int32} {Lg : Nat → Int64} {P : Nat → Option Nat} {T : List sh_C} {b : sh_be} {p s : Int32} (hR : RX S A Lg P T b) (hI : IV b) : Ev G mX9_lay 0 0 (mkW G S A Lg P T) 0 [some (.ref 1), some (.int p), some (.int s)] [] (QX G S A (some (.int (oLay b p s).1)) (oLay b p s).2) := by
  have e1 := hR.2.1
  have e2 := hR.2.2.1
  have e3 := hR.2.2.2.1
  have e4 := hR.2.2.2.2.1
  have i1 := hI.1
  have i2 := hI.2.1
  have i3 := hI.2.2.1
  have i4 := hI.2.2.2.1
  refine e_aload_n 0 dX9_lay_0 rfl rfl ?_
  refine e_getfield 2 dX9_lay_1 kf_X9_27_9 rfl rfl ?_
  refine e_iload_n 1 dX9_lay_4 rfl rfl ?_
  refine f_callVi (As := [_]) ok_X0_hasPerson ⟨Nat.le_of_ble_eq_true rfl, Nat.le_of_ble_eq_true rfl⟩ dX9_lay_5 kl_X9_107 ki_X0_hasPerson kv_X0_hasPerson rfl rfl rfl rfl (Nat.le_of_ble_eq_true rfl) (Nat.le_of_ble_eq_true rfl) (Nat.zero_add _) (Nat.zero_add _) sp_X0_hasPerson ?_
  refine e_if_eq (tgt := 22) dX9_lay_8 rfl (fun h8 => ?_) (fun h8 => ?_)
  · rw [e3] at h8
    try rw [e4] at h19
    refine e_iconst (v := -1) dX9_lay_22 rfl ?_
    refine e_iret dX9_lay_23 rfl ?_
    have ho : oLay b p s = (-1, b) := by
      first | rw [oLay, if_pos (Or.inl (bi_0.mp h8))] | rw [oLay, if_pos (Or.inr (bi_0.mp h19))]
    rw [ho]
    exact ⟨S, A, Lg, P, T, rfl, rfl, hR, FX.rf⟩
  · refine e_aload_n 0 dX9_lay_11 rfl rfl ?_
    refine e_getfield 2 dX9_lay_12 kf_X9_27_9 rfl rfl ?_
    refine e_iload_n 2 dX9_lay_15 rfl rfl ?_
    refine f_callVi (As := [_]) ok_X0_hasStone ⟨Nat.le_of_ble_eq_true rfl, Nat.le_of_ble_eq_true rfl⟩ dX9_lay_16 kl_X9_122 ki_X0_hasStone kv_X0_hasStone rfl rfl rfl rfl (Nat.le_of_ble_eq_true rfl) (Nat.le_of_ble_eq_true rfl) (Nat.zero_add _) (Nat.zero_add _) sp_X0_hasStone ?_
    refine e_if_ne (tgt := 24) dX9_lay_19 rfl (fun h19 => ?_) (fun h19 => ?_)
    · rw [e3] at h8
      rw [e4] at h19
      obtain ⟨x, hx, rfl⟩ := ix_of (x := p) rfl (by omega) (bi_1.mp h8)
      obtain ⟨y, hy, rfl⟩ := ix_of (x := s) rfl (by omega) (bi_1.mp h19)
      have hko : ¬ (¬ (¬ nI x < 0 ∧ ¬ nI (bn b 2) ≤ nI x) ∨ ¬ (¬ nI y < 0 ∧ ¬ nI (bn b 3) ≤ nI y)) := fun h => h.elim (fun h => h (bi_1.mp h8)) (fun h => h (bi_1.mp h19))
      have gp := (hR.2.2.2.2.2.2.2.2.1 x hx).2
      have gs := (hR.2.2.2.2.2.2.2.2.2.1 y hy).2
      have ip := (hI.2.2.2.2.2.1 x hx).2.2
      have is := hI.2.2.2.2.2.2.1 y hy
      have il := hI.pl hy
      refine e_aload_n 0 dX9_lay_24 rfl rfl ?_
      refine e_getfield 2 dX9_lay_25 kf_X9_27_9 rfl rfl ?_
      refine e_getfield 5 dX9_lay_28 kf_X9_128_0 rfl rfl ?_
      refine e_iload_n 2 dX9_lay_31 rfl rfl ?_
      refine e_iald_n (y) dX9_lay_32 rfl rfl (by omega) (by decide) ?_
      refine e_iload_n 1 dX9_lay_33 rfl rfl ?_
      refine f_callSi (As := [_]) ok_X0_placeWith ⟨Nat.le_of_ble_eq_true rfl, Nat.le_of_ble_eq_true rfl⟩ dX9_lay_34 kl_X9_134 ks_X0_placeWith rfl rfl (Nat.le_of_ble_eq_true rfl) (Nat.le_of_ble_eq_true rfl) (Nat.zero_add _) (Nat.zero_add _) sp_X0_placeWith ?_
      refine e_icmp_eq (tgt := 43) dX9_lay_37 rfl (fun h37 => ?_) (fun h37 => ?_)
      · rw [gs, plx_c (by omega) (by omega)] at h37
        refine e_aload_n 0 dX9_lay_43 rfl rfl ?_
        refine e_getfield 2 dX9_lay_44 kf_X9_27_9 rfl rfl ?_
        refine e_getfield 5 dX9_lay_47 kf_X9_128_0 rfl rfl ?_
        refine e_iload_n 2 dX9_lay_50 rfl rfl ?_
        refine e_aload_n 0 dX9_lay_51 rfl rfl ?_
        refine e_getfield 2 dX9_lay_52 kf_X9_27_9 rfl rfl ?_
        refine e_getfield 3 dX9_lay_55 kf_X9_113_0 rfl rfl ?_
        refine e_iload_n 1 dX9_lay_58 rfl rfl ?_
        refine e_iald_n (x) dX9_lay_59 rfl rfl (by omega) (by decide) ?_
        refine e_iast_n (y) dX9_lay_60 rfl rfl (by omega) (by decide) ?_
        refine e_w (w' := mkW G S (va_up A 3 (upd (A 3) y (plx (ba b 5 x)))) Lg P T) (by rw [plx_l (by omega), ← gp]; rfl) ?_
        have hR2 := hR.pl y (ba b 5 x)
        have hI2 := hI.place hy (v := ba b 5 x) (Or.inl ip)
        refine e_aload_n 0 dX9_lay_61 rfl rfl ?_
        refine e_getfield 2 dX9_lay_62 kf_X9_27_9 rfl rfl ?_
        refine e_iload_n 1 dX9_lay_65 rfl rfl ?_
        refine f_callVi (As := [_]) ok_X0_howManyCarriedBy ⟨Nat.le_of_ble_eq_true rfl, Nat.le_of_ble_eq_true rfl⟩ dX9_lay_66 kl_X9_131 ki_X0_howManyCarriedBy kv_X0_howManyCarriedBy rfl rfl rfl rfl (Nat.le_of_ble_eq_true rfl) (Nat.le_of_ble_eq_true rfl) (Nat.zero_add _) (Nat.zero_add _) (sp_X0_hm hR2 hI2 (by omega)) ?_
        refine e_iret dX9_lay_69 rfl ?_
        have ho : oLay b (nI x) (nI y) = (nI (cnN (ba (uA_ b 7 y (ba b 5 x)) 7) (20 + x) (bn b 3)), uA_ b 7 y (ba b 5 x)) := by
          rw [oLay, if_neg hko, nI_clamp (by omega), nI_clamp (by omega), if_neg (nn_ h37)]
        rw [ho]
        exact ⟨_, _, Lg, P, T, rfl, rfl, hR2, FX.A (by omega)⟩
      · rw [gs, plx_c (by omega) (by omega)] at h37
        refine e_bipush (v := -3) dX9_lay_40 (by decide) ?_
        refine e_iret dX9_lay_42 rfl ?_
        have ho : oLay b (nI x) (nI y) = (-3, b) := by
          rw [oLay, if_neg hko, nI_clamp (by omega), nI_clamp (by omega), if_pos h37]
        rw [ho]
        exact ⟨S, A, Lg, P, T, rfl, rfl, hR, FX.rf⟩
    · rw [e3] at h8
      try rw [e4] at h19
      refine e_iconst (v := -1) dX9_lay_22 rfl ?_
      refine e_iret dX9_lay_23 rfl ?_
      have ho : oLay b p s = (-1, b) := by
        first | rw [oLay, if_pos (Or.inl (bi_0.mp h8))] | rw [oLay, if_pos (Or.inr (bi_0.mp h19))]
      rw [ho]
      exact ⟨S, A, Lg, P, T, rfl, rfl, hR, FX.rf⟩

set_option maxRecDepth 4000 in
theorem sp_X9_opens {G : sh_G} {S : Nat → Int32} {A : Nat → Nat → Int32} {Lg : Nat → Int64} {P : Nat → Option Nat} {T : List sh_C} {b : sh_be} {pa d : Int32} (hR : RX S A Lg P T b) (hI : IV b) : Ev G mX9_opens 0 0 (mkW G S A Lg P T) 0 [some (.ref 1), some (.int pa), some (.int d), none] [] (sh_is (some (.int (oOpens b pa d))) (mkW G S A Lg P T)) := by
  have e1 := hR.2.1
  have e2 := hR.2.2.1
  have e3 := hR.2.2.2.1
  have e4 := hR.2.2.2.2.1
  have i1 := hI.1
  have i2 := hI.2.1
  have i3 := hI.2.2.1
  have i4 := hI.2.2.2.1
  refine e_aload_n 0 dX9_opens_0 rfl rfl ?_
  refine e_getfield 2 dX9_opens_1 kf_X9_27_9 rfl rfl ?_
  refine e_iload_n 1 dX9_opens_4 rfl rfl ?_
  refine f_callVi (As := [_]) ok_X0_isParty ⟨Nat.le_of_ble_eq_true rfl, Nat.le_of_ble_eq_true rfl⟩ dX9_opens_5 kl_X9_137 ki_X0_isParty kv_X0_isParty rfl rfl rfl rfl (Nat.le_of_ble_eq_true rfl) (Nat.le_of_ble_eq_true rfl) (Nat.zero_add _) (Nat.zero_add _) sp_X0_isParty ?_
  refine e_if_ne (tgt := 14) dX9_opens_8 rfl (fun h8 => ?_) (fun h8 => ?_)
  · rw [e3] at h8
    refine e_aload_n 0 dX9_opens_14 rfl rfl ?_
    refine e_getfield 1 dX9_opens_15 kf_X9_20_9 rfl rfl ?_
    refine e_iload_n 2 dX9_opens_18 rfl rfl ?_
    refine f_callVi (As := [_]) ok_X1_hasDoor ⟨Nat.le_of_ble_eq_true rfl, Nat.le_of_ble_eq_true rfl⟩ dX9_opens_19 kl_X9_74 ki_X1_hasDoor kv_X1_hasDoor rfl rfl rfl rfl (Nat.le_of_ble_eq_true rfl) (Nat.le_of_ble_eq_true rfl) (Nat.zero_add _) (Nat.zero_add _) sp_X1_hasDoor ?_
    refine e_if_ne (tgt := 27) dX9_opens_22 rfl (fun h22 => ?_) (fun h22 => ?_)
    · rw [e2] at h22
      obtain ⟨pt, hpt, rfl⟩ := usr_ok i3 (bi_1.mp h8).2
      have h16 : 2 ^ bn b 2 ≤ 16 := Nat.pow_le_pow_right (n := 2) (by omega) i3
      have hW := wpN_le hI pt (bn b 2) (Nat.le_refl _)
      obtain ⟨q, hq, rfl⟩ := ix_of (x := d) rfl (by omega) (bi_1.mp h22)
      obtain ⟨j, hP, hT, k1, k2, k3, k4, k5, k6⟩ := hR.dr hI hq
      refine e_aload_n 0 dX9_opens_27 rfl rfl ?_
      refine e_getfield 2 dX9_opens_28 kf_X9_27_9 rfl rfl ?_
      refine e_iload_n 1 dX9_opens_31 rfl rfl ?_
      refine f_callVi (As := [_]) ok_X0_roomOfParty ⟨Nat.le_of_ble_eq_true rfl, Nat.le_of_ble_eq_true rfl⟩ dX9_opens_32 kl_X9_140 ki_X0_roomOfParty kv_X0_roomOfParty rfl rfl rfl rfl (Nat.le_of_ble_eq_true rfl) (Nat.le_of_ble_eq_true rfl) (Nat.zero_add _) (Nat.zero_add _) (sp_X0_roomOfParty hR hI) ?_
      refine e_istore_n (lv' := [_, _, _, _]) 3 dX9_opens_35 rfl (Nat.le_of_ble_eq_true rfl) rfl rfl ?_
      refine e_aload_n 0 dX9_opens_36 rfl rfl ?_
      refine e_getfield 1 dX9_opens_37 kf_X9_20_9 rfl rfl ?_
      refine e_getfield 2 dX9_opens_40 kf_X9_78_1 rfl rfl ?_
      refine e_iload_n 2 dX9_opens_43 rfl rfl ?_
      refine e_aald_n (q) dX9_opens_44 rfl (Or.inl rfl) rfl (by omega) (by decide) hP ?_
      refine e_iload_n 3 dX9_opens_45 rfl rfl ?_
      refine f_callBi (As := [_]) ok_X4_isOf ⟨Nat.le_of_ble_eq_true rfl, Nat.le_of_ble_eq_true rfl⟩ dX9_opens_46 rfl kl_X9_143 ki_X4_isOf kv_X4_isOf kx_X7_X4_isOf_X4 kx_X8_X4_isOf_X4 kq_X4_X4_isOf rfl rfl (mkW_T.trans hT) k1 (Nat.le_of_ble_eq_true rfl) (Nat.le_of_ble_eq_true rfl) (sp_X4_isOf hT k1) ?_
      refine e_if_ne (tgt := 55) dX9_opens_49 rfl (fun h49 => ?_) (fun h49 => ?_)
      · obtain ⟨r, hr⟩ : ∃ r, roomN b pt = some r := by
          rcases hr : roomN b pt with _ | r
          · rw [hr] at h49
            exact absurd (bi_1.mp h49) (fun h => h.elim (fun h => nI_m1 (by omega) h.symm) (fun h => nI_m1 (by omega) h.symm))
          · exact ⟨r, rfl⟩
        have hrl := roomN_lt hI hr
        rw [hr] at h49
        have g49 : ¬ (r ≠ ba b 1 q ∧ r ≠ ba b 2 q) := fun h => (bi_1.mp h49).elim (fun e => h.1 ((nI_eq (by omega) (by omega)).mp e)) (fun e => h.2 ((nI_eq (by omega) (by omega)).mp e))
        rw [hr]
        refine e_aload_n 0 dX9_opens_55 rfl rfl ?_
        refine e_getfield 1 dX9_opens_56 kf_X9_20_9 rfl rfl ?_
        refine e_getfield 2 dX9_opens_59 kf_X9_78_1 rfl rfl ?_
        refine e_iload_n 2 dX9_opens_62 rfl rfl ?_
        refine e_aald_n (q) dX9_opens_63 rfl (Or.inl rfl) rfl (by omega) (by decide) hP ?_
        refine e_iload_n 3 dX9_opens_64 rfl rfl ?_
        refine e_aload_n 0 dX9_opens_65 rfl rfl ?_
        refine e_getfield 2 dX9_opens_66 kf_X9_27_9 rfl rfl ?_
        refine e_iload_n 1 dX9_opens_69 rfl rfl ?_
        refine f_callVi (As := [_]) ok_X0_weightOfParty ⟨Nat.le_of_ble_eq_true rfl, Nat.le_of_ble_eq_true rfl⟩ dX9_opens_70 kl_X9_146 ki_X0_weightOfParty kv_X0_weightOfParty rfl rfl rfl rfl (Nat.le_of_ble_eq_true rfl) (Nat.le_of_ble_eq_true rfl) (Nat.zero_add _) (Nat.zero_add _) (sp_X0_weightOfParty hR hI) ?_
        refine f_callBi (As := [_, _]) ok_X4_beyond ⟨Nat.le_of_ble_eq_true rfl, Nat.le_of_ble_eq_true rfl⟩ dX9_opens_73 rfl kl_X9_149 ki_X4_beyond kv_X4_beyond kx_X7_X4_beyond_X4 kx_X8_X4_beyond_X4 kq_X4_X4_beyond rfl rfl (mkW_T.trans hT) k1 (Nat.le_of_ble_eq_true rfl) (Nat.le_of_ble_eq_true rfl) (sp_X4_beyond hT k1 (by omega) (by omega) (by omega) (by omega) (by omega)) ?_
        refine e_iconst (v := -1) dX9_opens_76 rfl ?_
        refine e_icmp_ne (tgt := 84) dX9_opens_77 rfl (fun h77 => ?_) (fun h77 => ?_)
        · have hb : ¬ bBe b q r (wpN b pt (bn b 2)) = none := fun h => h77 ((oI_m1 (fun t ht => by have := dBe_lt k2 k3 ht; omega)).mpr h)
          refine e_iconst (v := 1) dX9_opens_84 rfl ?_
          refine e_iret dX9_opens_85 rfl ?_
          first
          | (have ho : oOpens b (nI pt) (nI q) = 0 := by
               rw [oOpens, if_neg (nn_ (bi_1.mp h8)), if_neg (nn_ (bi_1.mp h22)), nI_clamp (by omega), nI_clamp (by omega), hr]
               simp only []
               rw [if_neg g49, hb]
             rw [ho]
             exact ⟨rfl, rfl⟩)
          | (have ho : oOpens b (nI pt) (nI q) = 1 := by
               rw [oOpens, if_neg (nn_ (bi_1.mp h8)), if_neg (nn_ (bi_1.mp h22)), nI_clamp (by omega), nI_clamp (by omega), hr]
               simp only []
               rw [if_neg g49]
               rcases hb2 : bBe b q r (wpN b pt (bn b 2)) with _ | t
               · exact absurd hb2 hb
               · rfl
             rw [ho]
             exact ⟨rfl, rfl⟩)
        · have hb : bBe b q r (wpN b pt (bn b 2)) = none := (oI_m1 (fun t ht => by have := dBe_lt k2 k3 ht; omega)).mp h77
          refine e_iconst (v := 0) dX9_opens_80 rfl ?_
          refine e_goto (tgt := 85) dX9_opens_81 rfl ?_
          refine e_iret dX9_opens_85 rfl ?_
          first
          | (have ho : oOpens b (nI pt) (nI q) = 0 := by
               rw [oOpens, if_neg (nn_ (bi_1.mp h8)), if_neg (nn_ (bi_1.mp h22)), nI_clamp (by omega), nI_clamp (by omega), hr]
               simp only []
               rw [if_neg g49, hb]
             rw [ho]
             exact ⟨rfl, rfl⟩)
          | (have ho : oOpens b (nI pt) (nI q) = 1 := by
               rw [oOpens, if_neg (nn_ (bi_1.mp h8)), if_neg (nn_ (bi_1.mp h22)), nI_clamp (by omega), nI_clamp (by omega), hr]
               simp only []
               rw [if_neg g49]
               rcases hb2 : bBe b q r (wpN b pt (bn b 2)) with _ | t
               · exact absurd hb2 hb
               · rfl
             rw [ho]
             exact ⟨rfl, rfl⟩)
      · refine e_bipush (v := -3) dX9_opens_52 (by decide) ?_
        refine e_iret dX9_opens_54 rfl ?_
        have ho : oOpens b (nI pt) (nI q) = -3 := by
          rw [oOpens, if_neg (nn_ (bi_1.mp h8)), if_neg (nn_ (bi_1.mp h22)), nI_clamp (by omega), nI_clamp (by omega)]
          rcases hr : roomN b pt with _ | r
          · rfl
          · rw [hr] at h49
            have hrl := roomN_lt hI hr
            have g := bi_0.mp h49
            simp only []
            rw [if_pos ⟨fun e => g (Or.inl (by rw [e]; rfl)), fun e => g (Or.inr (by rw [e]; rfl))⟩]
        rw [ho]
        exact ⟨rfl, rfl⟩
    · rw [e2] at h22
      refine e_iconst (v := -1) dX9_opens_25 rfl ?_
      refine e_iret dX9_opens_26 rfl ?_
      have ho : oOpens b pa d = -1 := by
        rw [oOpens, if_neg (nn_ (bi_1.mp h8)), if_pos (bi_0.mp h22)]
      rw [ho]
      exact ⟨rfl, rfl⟩
  · rw [e3] at h8
    refine e_bipush (v := -2) dX9_opens_11 (by decide) ?_
    refine e_iret dX9_opens_13 rfl ?_
    have ho : oOpens b pa d = -2 := by
      rw [oOpens, if_pos (bi_0.mp h8)]
    rw [ho]
    exact ⟨rfl, rfl⟩

set_option maxRecDepth 4000 in
theorem sp_X9_pass {G : sh_G} {S : Nat → Int32} {A : Nat → Nat → Int32} {Lg : Nat → Int64} {P : Nat → Option Nat} {T : List sh_C} {b : sh_be} {pa d : Int32} (hR : RX S A Lg P T b) (hI : IV b) : Ev G mX9_pass 0 0 (mkW G S A Lg P T) 0 [some (.ref 1), some (.int pa), some (.int d), none, none] [] (QX G S A (some (.int (oPass b pa d).1)) (oPass b pa d).2) := by
  have e1 := hR.2.1
  have e2 := hR.2.2.1
  have e3 := hR.2.2.2.1
  have e4 := hR.2.2.2.2.1
  have i1 := hI.1
  have i2 := hI.2.1
  have i3 := hI.2.2.1
  have i4 := hI.2.2.2.1
  refine e_aload_n 0 dX9_pass_0 rfl rfl ?_
  refine e_iload_n 1 dX9_pass_1 rfl rfl ?_
  refine e_iload_n 2 dX9_pass_2 rfl rfl ?_
  refine f_callVi (As := [_, _]) ok_X9_opens ⟨Nat.le_of_ble_eq_true rfl, Nat.le_of_ble_eq_true rfl⟩ dX9_pass_3 kl_X9_152 ki_X9_opens kv_X9_opens rfl rfl rfl rfl (Nat.le_of_ble_eq_true rfl) (Nat.le_of_ble_eq_true rfl) (Nat.zero_add _) (Nat.zero_add _) (sp_X9_opens hR hI) ?_
  refine e_istore_n (lv' := [_, _, _, _, _]) 3 dX9_pass_6 rfl (Nat.le_of_ble_eq_true rfl) rfl rfl ?_
  refine e_iload_n 3 dX9_pass_7 rfl rfl ?_
  refine e_if_ge (tgt := 13) dX9_pass_8 rfl (fun h8 => ?_) (fun h8 => ?_)
  · refine e_iload_n 3 dX9_pass_13 rfl rfl ?_
    refine e_if_ne (tgt := 20) dX9_pass_14 rfl (fun h14 => ?_) (fun h14 => ?_)
    · obtain ⟨pt, q, r, t, hpt, rfl, hq, rfl, hr, ht, ho⟩ := oPass_ok hI h8 h14
      obtain ⟨j, hP, hT, k1, k2, k3, k4, k5, k6⟩ := hR.dr hI hq
      have hW := wpN_le hI pt (bn b 2) (Nat.le_refl _)
      have hrl := roomN_lt hI hr
      refine e_aload_n 0 dX9_pass_20 rfl rfl ?_
      refine e_getfield 1 dX9_pass_21 kf_X9_20_9 rfl rfl ?_
      refine e_getfield 2 dX9_pass_24 kf_X9_78_1 rfl rfl ?_
      refine e_iload_n 2 dX9_pass_27 rfl rfl ?_
      refine e_aald_n (q) dX9_pass_28 rfl (Or.inl rfl) rfl (by omega) (by decide) hP ?_
      refine e_aload_n 0 dX9_pass_29 rfl rfl ?_
      refine e_getfield 2 dX9_pass_30 kf_X9_27_9 rfl rfl ?_
      refine e_iload_n 1 dX9_pass_33 rfl rfl ?_
      refine f_callVi (As := [_]) ok_X0_roomOfParty ⟨Nat.le_of_ble_eq_true rfl, Nat.le_of_ble_eq_true rfl⟩ dX9_pass_34 kl_X9_140 ki_X0_roomOfParty kv_X0_roomOfParty rfl rfl rfl rfl (Nat.le_of_ble_eq_true rfl) (Nat.le_of_ble_eq_true rfl) (Nat.zero_add _) (Nat.zero_add _) (sp_X0_roomOfParty hR hI) ?_
      rw [hr]
      refine e_aload_n 0 dX9_pass_37 rfl rfl ?_
      refine e_getfield 2 dX9_pass_38 kf_X9_27_9 rfl rfl ?_
      refine e_iload_n 1 dX9_pass_41 rfl rfl ?_
      refine f_callVi (As := [_]) ok_X0_weightOfParty ⟨Nat.le_of_ble_eq_true rfl, Nat.le_of_ble_eq_true rfl⟩ dX9_pass_42 kl_X9_146 ki_X0_weightOfParty kv_X0_weightOfParty rfl rfl rfl rfl (Nat.le_of_ble_eq_true rfl) (Nat.le_of_ble_eq_true rfl) (Nat.zero_add _) (Nat.zero_add _) (sp_X0_weightOfParty hR hI) ?_
      refine f_callBi (As := [_, _]) ok_X4_beyond ⟨Nat.le_of_ble_eq_true rfl, Nat.le_of_ble_eq_true rfl⟩ dX9_pass_45 rfl kl_X9_149 ki_X4_beyond kv_X4_beyond kx_X7_X4_beyond_X4 kx_X8_X4_beyond_X4 kq_X4_X4_beyond rfl rfl (mkW_T.trans hT) k1 (Nat.le_of_ble_eq_true rfl) (Nat.le_of_ble_eq_true rfl) (sp_X4_beyond hT k1 (by omega) (by omega) (by omega) (by omega) (by omega)) ?_
      rw [show dBe (ba b 0 q) (ba b 1 q) (ba b 2 q) (ba b 3 q) r (wpN b pt (bn b 2)) = some t from ht]
      refine e_istore (lv' := [_, _, _, _, _]) dX9_pass_48 (Nat.le_of_ble_eq_true rfl) rfl rfl ?_
      refine e_aload_n 0 dX9_pass_50 rfl rfl ?_
      refine e_getfield 2 dX9_pass_51 kf_X9_27_9 rfl rfl ?_
      refine e_iload_n 1 dX9_pass_54 rfl rfl ?_
      refine e_iload dX9_pass_55 rfl ?_
      refine e_callV (mc := 0) (ms := 0) (kc2 := 0) (ks2 := 0) (As := [_, _]) ok_X0_moveParty ⟨Nat.le_of_ble_eq_true rfl, Nat.le_of_ble_eq_true rfl⟩ dX9_pass_57 kl_X9_155 ki_X0_moveParty kv_X0_moveParty rfl rfl rfl rfl (Nat.le_of_ble_eq_true rfl) (Nat.le_of_ble_eq_true rfl) (sp_X0_moveParty hR hI) (fun v w' hq => ?_)
      obtain ⟨rfl, g, hg, rfl⟩ := hq
      refine e_iload dX9_pass_60 rfl ?_
      refine e_iret dX9_pass_62 rfl ?_
      rw [ho]
      exact ⟨_, _, Lg, P, T, rfl, rfl, hR.ro hg, FX.A (by omega)⟩
    · refine e_bipush (v := -3) dX9_pass_17 (by decide) ?_
      refine e_iret dX9_pass_19 rfl ?_
      have ho : oPass b pa d = (-3, b) := by
        exact oPass_0 h14
      rw [ho]
      exact ⟨S, A, Lg, P, T, rfl, rfl, hR, FX.rf⟩
  · refine e_iload_n 3 dX9_pass_11 rfl rfl ?_
    refine e_iret dX9_pass_12 rfl ?_
    have ho : oPass b pa d = (oOpens b pa d, b) := by
      rw [oPass, if_pos (Int32.not_le.mp h8)]
    rw [ho]
    exact ⟨S, A, Lg, P, T, rfl, rfl, hR, FX.rf⟩

set_option maxRecDepth 4000 in
theorem sp_X9_weigh {G : sh_G} {S : Nat → Int32} {A : Nat → Nat → Int32} {Lg : Nat → Int64} {P : Nat → Option Nat} {T : List sh_C} {b : sh_be} {p w : Int32} (hR : RX S A Lg P T b) (hI : IV b) : Ev G mX9_weigh 0 0 (mkW G S A Lg P T) 0 [some (.ref 1), some (.int p), some (.int w), none] [] (QX G S A (some (.int (oWeigh b p w).1)) (oWeigh b p w).2) := by
  have e1 := hR.2.1
  have e2 := hR.2.2.1
  have e3 := hR.2.2.2.1
  have e4 := hR.2.2.2.2.1
  have i1 := hI.1
  have i2 := hI.2.1
  have i3 := hI.2.2.1
  have i4 := hI.2.2.2.1
  refine e_aload_n 0 dX9_weigh_0 rfl rfl ?_
  refine e_getfield 2 dX9_weigh_1 kf_X9_27_9 rfl rfl ?_
  refine e_iload_n 1 dX9_weigh_4 rfl rfl ?_
  refine f_callVi (As := [_]) ok_X0_hasPerson ⟨Nat.le_of_ble_eq_true rfl, Nat.le_of_ble_eq_true rfl⟩ dX9_weigh_5 kl_X9_107 ki_X0_hasPerson kv_X0_hasPerson rfl rfl rfl rfl (Nat.le_of_ble_eq_true rfl) (Nat.le_of_ble_eq_true rfl) (Nat.zero_add _) (Nat.zero_add _) sp_X0_hasPerson ?_
  refine e_if_ne (tgt := 13) dX9_weigh_8 rfl (fun h8 => ?_) (fun h8 => ?_)
  · rw [e3] at h8
    refine e_iload_n 2 dX9_weigh_13 rfl rfl ?_
    refine f_callSi (As := [_]) ok_X9_isPersonsWeight ⟨Nat.le_of_ble_eq_true rfl, Nat.le_of_ble_eq_true rfl⟩ dX9_weigh_14 kl_X9_91 ks_X9_isPersonsWeight rfl rfl (Nat.le_of_ble_eq_true rfl) (Nat.le_of_ble_eq_true rfl) (Nat.zero_add _) (Nat.zero_add _) sp_X9_isPersonsWeight ?_
    refine e_if_ne (tgt := 23) dX9_weigh_17 rfl (fun h17 => ?_) (fun h17 => ?_)
    · obtain ⟨x, hx, rfl⟩ := ix_of (x := p) rfl (by omega) (bi_1.mp h8)
      obtain ⟨m, hm, rfl⟩ := ix_of (x := w) (n := 100) rfl (by omega) ⟨fun h => (bi_1.mp h17).1 (i_t1 h), fun h => (bi_1.mp h17).2 (i_t2 h)⟩
      refine e_aload_n 0 dX9_weigh_23 rfl rfl ?_
      refine e_getfield 2 dX9_weigh_24 kf_X9_27_9 rfl rfl ?_
      refine e_getfield 2 dX9_weigh_27 kf_X9_110_0 rfl rfl ?_
      refine e_iload_n 1 dX9_weigh_30 rfl rfl ?_
      refine e_iald_n (x) dX9_weigh_31 rfl rfl (by omega) (by decide) ?_
      refine e_istore_n (lv' := [_, _, _, _]) 3 dX9_weigh_32 rfl (Nat.le_of_ble_eq_true rfl) rfl rfl ?_
      refine e_aload_n 0 dX9_weigh_33 rfl rfl ?_
      refine e_getfield 2 dX9_weigh_34 kf_X9_27_9 rfl rfl ?_
      refine e_getfield 2 dX9_weigh_37 kf_X9_110_0 rfl rfl ?_
      refine e_iload_n 1 dX9_weigh_40 rfl rfl ?_
      refine e_iload_n 2 dX9_weigh_41 rfl rfl ?_
      refine e_iast_n (x) dX9_weigh_42 rfl rfl (by omega) (by decide) ?_
      refine e_w (w' := mkW G S (va_up A 0 (upd (A 0) x (nI m))) Lg P T) rfl ?_
      refine e_iload_n 3 dX9_weigh_43 rfl rfl ?_
      refine e_iret dX9_weigh_44 rfl ?_
      have ho : oWeigh b (nI x) (nI m) = (nI (ba b 4 x), uA_ b 4 x m) := by
        rw [oWeigh, if_neg (nn_ (bi_1.mp h8)), if_neg (nn_ (bi_1.mp h17)), nI_clamp (by omega), nI_clamp (by omega)]
      rw [ho]
      exact ⟨_, _, Lg, P, T, rfl, by rw [(hR.2.2.2.2.2.2.2.2.1 x hx).1], hR.we x m, FX.A (by omega)⟩
    · refine e_bipush (v := -2) dX9_weigh_20 (by decide) ?_
      refine e_iret dX9_weigh_22 rfl ?_
      have ho : oWeigh b p w = (-2, b) := by
        rw [oWeigh, if_neg (nn_ (bi_1.mp h8)), if_pos (bi_0.mp h17)]
      rw [ho]
      exact ⟨S, A, Lg, P, T, rfl, rfl, hR, FX.rf⟩
  · rw [e3] at h8
    refine e_iconst (v := -1) dX9_weigh_11 rfl ?_
    refine e_iret dX9_weigh_12 rfl ?_
    have ho : oWeigh b p w = (-1, b) := by
      rw [oWeigh, if_pos (bi_0.mp h8)]
    rw [ho]
    exact ⟨S, A, Lg, P, T, rfl, rfl, hR, FX.rf⟩

set_option maxRecDepth 4000 in
theorem sp_X9_tell {G : sh_G} {S : Nat → Int32} {A : Nat → Nat → Int32} {Lg : Nat → Int64} {P : Nat → Option Nat} {T : List sh_C} {b : sh_be} {d : Int32} (hR : RX S A Lg P T b) (hI : IV b) : Ev G mX9_tell 0 0 (mkW G S A Lg P T) 0 [some (.ref 1), some (.int d)] [] (QX G S A (some (.int (oTell b d).1)) (oTell b d).2) := by
  have e1 := hR.2.1
  have e2 := hR.2.2.1
  have e3 := hR.2.2.2.1
  have e4 := hR.2.2.2.2.1
  have i1 := hI.1
  have i2 := hI.2.1
  have i3 := hI.2.2.1
  have i4 := hI.2.2.2.1
  refine e_aload_n 0 dX9_tell_0 rfl rfl ?_
  refine e_getfield 1 dX9_tell_1 kf_X9_20_9 rfl rfl ?_
  refine e_iload_n 1 dX9_tell_4 rfl rfl ?_
  refine f_callVi (As := [_]) ok_X1_hasDoor ⟨Nat.le_of_ble_eq_true rfl, Nat.le_of_ble_eq_true rfl⟩ dX9_tell_5 kl_X9_74 ki_X1_hasDoor kv_X1_hasDoor rfl rfl rfl rfl (Nat.le_of_ble_eq_true rfl) (Nat.le_of_ble_eq_true rfl) (Nat.zero_add _) (Nat.zero_add _) sp_X1_hasDoor ?_
  refine e_if_eq (tgt := 30) dX9_tell_8 rfl (fun h8 => ?_) (fun h8 => ?_)
  · rw [e2] at h8
    refine e_iconst (v := -1) dX9_tell_30 rfl ?_
    refine e_iret dX9_tell_31 rfl ?_
    have ho : oTell b d = (-1, b) := by
      rw [oTell, if_pos (bi_0.mp h8)]
    rw [ho]
    exact ⟨S, A, Lg, P, T, rfl, rfl, hR, FX.rf⟩
  · rw [e2] at h8
    obtain ⟨q, hq, rfl⟩ := ix_of (x := d) rfl (by omega) (bi_1.mp h8)
    obtain ⟨j, hP, hT, k1, k2, k3, k4, k5, k6⟩ := hR.dr hI hq
    refine e_aload_n 0 dX9_tell_11 rfl rfl ?_
    refine e_getfield 1 dX9_tell_12 kf_X9_20_9 rfl rfl ?_
    refine e_getfield 2 dX9_tell_15 kf_X9_78_1 rfl rfl ?_
    refine e_iload_n 1 dX9_tell_18 rfl rfl ?_
    refine e_aald_n (q) dX9_tell_19 rfl (Or.inl rfl) rfl (by omega) (by decide) hP ?_
    refine e_aload_n 0 dX9_tell_20 rfl rfl ?_
    refine e_getfield 4 dX9_tell_21 kf_X9_41_9 rfl rfl ?_
    rcases (by omega : ba b 0 q = 0 ∨ ba b 0 q = 1 ∨ ba b 0 q = 2) with hk | hk | hk
    · rw [hk] at hT
      refine f_callVi (As := [_]) ok_X4_telling ⟨Nat.le_of_ble_eq_true rfl, Nat.le_of_ble_eq_true rfl⟩ dX9_tell_24 kl_X9_241 ki_X4_telling kv_X4_telling rfl rfl (mkW_T.trans hT) rfl (Nat.le_of_ble_eq_true rfl) (Nat.le_of_ble_eq_true rfl) (Nat.zero_add _) (Nat.zero_add _) (sp_X4_telling hT (by omega)) ?_
      refine e_goto (tgt := 31) dX9_tell_27 rfl ?_
      refine e_iret dX9_tell_31 rfl ?_
      have ho : oTell b (nI q) = (nI (ba b 3 q), uT_ b (31 * bT b + 1)) := by
        rw [oTell, if_neg (nn_ (bi_1.mp h8)), nI_clamp (by omega), if_pos hk]
      rw [ho]
      exact ⟨_, A, Lg, P, T, rfl, rfl, hR.2.2.2.2.2.1 ▸ hR.T _, FX.S (by omega)⟩
    · rw [hk] at hT
      refine f_callOi (x := yX4_telling) (C := RX7) (owner := RX4) (As := [_]) ok_X7_telling ⟨Nat.le_of_ble_eq_true rfl, Nat.le_of_ble_eq_true rfl⟩ dX9_tell_24 ⟨by decide, by decide⟩ rfl ok_X4_telling.1 kl_X9_241 ki_X7_telling kx_X7_X7_telling_X4 kq_X4_X4_telling ki_X4_telling rfl rfl (mkW_T.trans hT) rfl (Nat.le_of_ble_eq_true rfl) (Nat.le_of_ble_eq_true rfl) (Nat.zero_add _) (Nat.zero_add _) (sp_X7_telling hT (Or.inl rfl)) ?_
      refine e_goto (tgt := 31) dX9_tell_27 rfl ?_
      refine e_iret dX9_tell_31 rfl ?_
      have ho : oTell b (nI q) = (nI (ba b 3 q) + 100, uT_ b (31 * (31 * bT b + 2) + 1)) := by
        rw [oTell, if_neg (nn_ (bi_1.mp h8)), nI_clamp (by omega), if_neg (by omega), if_pos hk]
      rw [ho]
      exact ⟨_, A, Lg, P, T, rfl, rfl, hR.2.2.2.2.2.1 ▸ hR.T _, FX.S (by omega)⟩
    · rw [hk] at hT
      refine f_callOi (x := yX4_telling) (C := RX8) (owner := RX4) (As := [_]) ok_X8_telling ⟨Nat.le_of_ble_eq_true rfl, Nat.le_of_ble_eq_true rfl⟩ dX9_tell_24 ⟨by decide, by decide⟩ rfl ok_X4_telling.1 kl_X9_241 ki_X8_telling kx_X8_X8_telling_X4 kq_X4_X4_telling ki_X4_telling rfl rfl (mkW_T.trans hT) rfl (Nat.le_of_ble_eq_true rfl) (Nat.le_of_ble_eq_true rfl) (Nat.zero_add _) (Nat.zero_add _) (sp_X8_telling hT) ?_
      refine e_goto (tgt := 31) dX9_tell_27 rfl ?_
      refine e_iret dX9_tell_31 rfl ?_
      have ho : oTell b (nI q) = (nI (ba b 3 q) + 100 + nI (ba b 3 q), uT_ b (31 * (31 * (31 * (31 * bT b + 3) + 2) + 1) + 1)) := by
        rw [oTell, if_neg (nn_ (bi_1.mp h8)), nI_clamp (by omega), if_neg (by omega), if_neg (by omega)]
      rw [ho]
      exact ⟨_, A, Lg, P, T, rfl, rfl, hR.2.2.2.2.2.1 ▸ hR.T _, FX.S (by omega)⟩

set_option maxRecDepth 4000 in
theorem sp_X9_ring {G : sh_G} {S : Nat → Int32} {A : Nat → Nat → Int32} {Lg : Nat → Int64} {P : Nat → Option Nat} {T : List sh_C} {b : sh_be} {d : Int32} (hR : RX S A Lg P T b) (hI : IV b) : Ev G mX9_ring 0 0 (mkW G S A Lg P T) 0 [some (.ref 1), some (.int d)] [] (QX G S A (some (.int (oRing b d).1)) (oRing b d).2) := by
  have e1 := hR.2.1
  have e2 := hR.2.2.1
  have e3 := hR.2.2.2.1
  have e4 := hR.2.2.2.2.1
  have i1 := hI.1
  have i2 := hI.2.1
  have i3 := hI.2.2.1
  have i4 := hI.2.2.2.1
  refine e_aload_n 0 dX9_ring_0 rfl rfl ?_
  refine e_getfield 1 dX9_ring_1 kf_X9_20_9 rfl rfl ?_
  refine e_iload_n 1 dX9_ring_4 rfl rfl ?_
  refine f_callVi (As := [_]) ok_X1_hasDoor ⟨Nat.le_of_ble_eq_true rfl, Nat.le_of_ble_eq_true rfl⟩ dX9_ring_5 kl_X9_74 ki_X1_hasDoor kv_X1_hasDoor rfl rfl rfl rfl (Nat.le_of_ble_eq_true rfl) (Nat.le_of_ble_eq_true rfl) (Nat.zero_add _) (Nat.zero_add _) sp_X1_hasDoor ?_
  refine e_if_eq (tgt := 31) dX9_ring_8 rfl (fun h8 => ?_) (fun h8 => ?_)
  · rw [e2] at h8
    refine e_iconst (v := -1) dX9_ring_31 rfl ?_
    refine e_iret dX9_ring_32 rfl ?_
    have ho : oRing b d = (-1, b) := by
      rw [oRing, if_pos (bi_0.mp h8)]
    rw [ho]
    exact ⟨S, A, Lg, P, T, rfl, rfl, hR, FX.rf⟩
  · rw [e2] at h8
    obtain ⟨q, hq, rfl⟩ := ix_of (x := d) rfl (by omega) (bi_1.mp h8)
    obtain ⟨j, hP, hT, k1, k2, k3, k4, k5, k6⟩ := hR.dr hI hq
    refine e_aload_n 0 dX9_ring_11 rfl rfl ?_
    refine e_getfield 1 dX9_ring_12 kf_X9_20_9 rfl rfl ?_
    refine e_getfield 2 dX9_ring_15 kf_X9_78_1 rfl rfl ?_
    refine e_iload_n 1 dX9_ring_18 rfl rfl ?_
    refine e_aald_n (q) dX9_ring_19 rfl (Or.inl rfl) rfl (by omega) (by decide) hP ?_
    refine e_aload_n 0 dX9_ring_20 rfl rfl ?_
    refine e_getfield 4 dX9_ring_21 kf_X9_41_9 rfl rfl ?_
    refine e_iload_n 1 dX9_ring_24 rfl rfl ?_
    rcases (by omega : ba b 0 q = 0 ∨ ba b 0 q = 1 ∨ ba b 0 q = 2) with hk | hk | hk
    · rw [hk] at hT
      refine f_callVi (As := [_, _]) ok_X4_rung ⟨Nat.le_of_ble_eq_true rfl, Nat.le_of_ble_eq_true rfl⟩ dX9_ring_25 kl_X9_245 ki_X4_rung kv_X4_rung rfl rfl (mkW_T.trans hT) rfl (Nat.le_of_ble_eq_true rfl) (Nat.le_of_ble_eq_true rfl) (Nat.zero_add _) (Nat.zero_add _) sp_X4_rung ?_
      refine e_goto (tgt := 32) dX9_ring_28 rfl ?_
      refine e_iret dX9_ring_32 rfl ?_
      have ho : oRing b (nI q) = (nI q, uT_ b (31 * bT b + 4)) := by
        rw [oRing, if_neg (nn_ (bi_1.mp h8)), nI_clamp (by omega), if_neg (by omega)]
      rw [ho]
      exact ⟨_, A, Lg, P, T, rfl, rfl, hR.2.2.2.2.2.1 ▸ hR.T _, FX.S (by omega)⟩
    · rw [hk] at hT
      refine f_callUi (x := yX4_rung) (C := RX7) (As := [_, _]) ok_X4_rung ⟨Nat.le_of_ble_eq_true rfl, Nat.le_of_ble_eq_true rfl⟩ dX9_ring_25 rfl kl_X9_245 ki_X4_rung kx_X7_X4_rung_X4 kq_X4_X4_rung rfl rfl (mkW_T.trans hT) rfl (Nat.le_of_ble_eq_true rfl) (Nat.le_of_ble_eq_true rfl) (Nat.zero_add _) (Nat.zero_add _) sp_X4_rung ?_
      refine e_goto (tgt := 32) dX9_ring_28 rfl ?_
      refine e_iret dX9_ring_32 rfl ?_
      have ho : oRing b (nI q) = (nI q, uT_ b (31 * bT b + 4)) := by
        rw [oRing, if_neg (nn_ (bi_1.mp h8)), nI_clamp (by omega), if_neg (by omega)]
      rw [ho]
      exact ⟨_, A, Lg, P, T, rfl, rfl, hR.2.2.2.2.2.1 ▸ hR.T _, FX.S (by omega)⟩
    · rw [hk] at hT
      refine f_callOi (x := yX4_rung) (C := RX8) (owner := RX4) (As := [_, _]) ok_X8_rung ⟨Nat.le_of_ble_eq_true rfl, Nat.le_of_ble_eq_true rfl⟩ dX9_ring_25 ⟨by decide, by decide⟩ rfl ok_X4_rung.1 kl_X9_245 ki_X8_rung kx_X8_X8_rung_X4 kq_X4_X4_rung ki_X4_rung rfl rfl (mkW_T.trans hT) rfl (Nat.le_of_ble_eq_true rfl) (Nat.le_of_ble_eq_true rfl) (Nat.zero_add _) (Nat.zero_add _) sp_X8_rung ?_
      refine e_goto (tgt := 32) dX9_ring_28 rfl ?_
      refine e_iret dX9_ring_32 rfl ?_
      have ho : oRing b (nI q) = (80, uT_ b (31 * bT b + 5)) := by
        rw [oRing, if_neg (nn_ (bi_1.mp h8)), nI_clamp (by omega), if_pos hk]
      rw [ho]
      exact ⟨_, A, Lg, P, T, rfl, rfl, hR.2.2.2.2.2.1 ▸ hR.T _, FX.S (by omega)⟩

set_option maxRecDepth 4000 in
theorem sp_X9_as {G : sh_G} {S : Nat → Int32} {A : Nat → Nat → Int32} {Lg : Nat → Int64} {P : Nat → Option Nat} {T : List sh_C} {b : sh_be} {d k : Int32} (hR : RX S A Lg P T b) (hI : IV b) : Ev G mX9_as 0 0 (mkW G S A Lg P T) 0 [some (.ref 1), some (.int d), some (.int k)] [] (QX G S A (some (.int (oAs b d k).1)) (oAs b d k).2) := by
  have e1 := hR.2.1
  have e2 := hR.2.2.1
  have e3 := hR.2.2.2.1
  have e4 := hR.2.2.2.2.1
  have i1 := hI.1
  have i2 := hI.2.1
  have i3 := hI.2.2.1
  have i4 := hI.2.2.2.1
  refine e_aload_n 0 dX9_as_0 rfl rfl ?_
  refine e_iconst (v := 0) dX9_as_1 rfl ?_
  refine e_putfield 5 dX9_as_2 kp_X9_as_201_9 (sh_fit_i _) rfl (Nat.le_of_ble_eq_true rfl) ?_
  obtain ⟨S1, e0, hR, hf⟩ : ∃ S1, S1 = va_up S 0 0 ∧ RX S1 A Lg P T (uF_ b 0) ∧ FX S A S1 A := ⟨_, rfl, hR.F 0, FX.S (by omega)⟩
  have e2 : S1 2 = nI (bn b 1) := hR.2.2.1
  refine e_w (w' := mkW G S1 A Lg P T) (by rw [e0]; rfl) ?_
  refine e_aload_n 0 dX9_as_5 rfl rfl ?_
  refine e_getfield 1 dX9_as_6 kf_X9_20_9 rfl rfl ?_
  refine e_iload_n 1 dX9_as_9 rfl rfl ?_
  refine f_callVi (As := [_]) ok_X1_hasDoor ⟨Nat.le_of_ble_eq_true rfl, Nat.le_of_ble_eq_true rfl⟩ dX9_as_10 kl_X9_74 ki_X1_hasDoor kv_X1_hasDoor rfl rfl rfl rfl (Nat.le_of_ble_eq_true rfl) (Nat.le_of_ble_eq_true rfl) (Nat.zero_add _) (Nat.zero_add _) sp_X1_hasDoor ?_
  refine e_if_ne (tgt := 18) dX9_as_13 rfl (fun h13 => ?_) (fun h13 => ?_)
  · rw [e2] at h13
    obtain ⟨q, hq, rfl⟩ := ix_of (x := d) rfl (by omega) (bi_1.mp h13)
    obtain ⟨j, hP, hT, k1, k2, k3, k4, k5, k6⟩ := RX.dr (b := b) (S := va_up S1 0 (bF b)) (A := A) (Lg := Lg) (by have := RX.F hR (bF b); exact this) hI hq
    refine e_iload_n 2 dX9_as_18 rfl rfl ?_
    refine e_if_lt (tgt := 27) dX9_as_19 rfl (fun h19 => ?_) (fun h19 => ?_)
    · refine e_bipush (v := -2) dX9_as_27 (by decide) ?_
      refine e_iret dX9_as_29 rfl ?_
      have ho : oAs b (nI q) k = (-2, uF_ b 0) := by
        have hkk : ¬ (¬ k < 0 ∧ ¬ 2 < k) := by
          intro h
          first
          | exact h.2 (Int32.not_le.mp h24)
          | exact h.1 h19
        rw [oAs, if_neg (nn_ (bi_1.mp h13)), if_pos hkk]
      rw [ho]
      exact ⟨S1, A, Lg, P, T, rfl, rfl, hR, hf⟩
    · refine e_iload_n 2 dX9_as_22 rfl rfl ?_
      refine e_iconst (v := 2) dX9_as_23 rfl ?_
      refine e_icmp_le (tgt := 30) dX9_as_24 rfl (fun h24 => ?_) (fun h24 => ?_)
      · have hkk : ¬ k < 0 ∧ ¬ 2 < k := ⟨h19, Int32.not_lt.mpr h24⟩
        refine e_iload_n 2 dX9_as_30 rfl rfl ?_
        refine e_aload_n 0 dX9_as_31 rfl rfl ?_
        refine e_getfield 1 dX9_as_32 kf_X9_20_9 rfl rfl ?_
        refine e_getfield 2 dX9_as_35 kf_X9_78_1 rfl rfl ?_
        refine e_iload_n 1 dX9_as_38 rfl rfl ?_
        refine e_aald_n (q) dX9_as_39 rfl (Or.inl rfl) rfl (by omega) (by decide) hP ?_
        rcases (by omega : ba b 0 q = 0 ∨ ba b 0 q = 1 ∨ ba b 0 q = 2) with hk | hk | hk
        · rw [hk] at hT
          refine f_callVi (As := []) ok_X4_kind ⟨Nat.le_of_ble_eq_true rfl, Nat.le_of_ble_eq_true rfl⟩ dX9_as_40 kl_X9_249 ki_X4_kind kv_X4_kind rfl rfl (mkW_T.trans hT) rfl (Nat.le_of_ble_eq_true rfl) (Nat.le_of_ble_eq_true rfl) (Nat.zero_add _) (Nat.zero_add _) sp_X4_kind ?_
          refine e_icmp_gt (tgt := 50) dX9_as_43 rfl (fun h43 => ?_) (fun h43 => ?_)
          · refine e_aload_n 0 dX9_as_50 rfl rfl ?_
            refine e_iconst (v := 2) dX9_as_51 rfl ?_
            refine f_callVi (As := [_]) ok_X9_faulted ⟨Nat.le_of_ble_eq_true rfl, Nat.le_of_ble_eq_true rfl⟩ dX9_as_52 kl_X9_210 ki_X9_faulted kv_X9_faulted rfl rfl rfl rfl (Nat.le_of_ble_eq_true rfl) (Nat.le_of_ble_eq_true rfl) (Nat.zero_add _) (Nat.zero_add _) sp_X9_faulted ?_
            refine e_iret dX9_as_55 rfl ?_
            first
            | (have ho : oAs b (nI q) k = (-12, uF_ b 2) := by
                 rw [oAs, if_neg (nn_ (bi_1.mp h13)), if_neg (nn_ hkk), nI_clamp (by omega), hk, if_neg (show ¬ k ≤ nI 0 from Int32.not_le.mpr h43)]
               rw [ho]
               exact ⟨_, A, Lg, P, T, rfl, rfl, RX.F hR 2, hf.tr (FX.S (by omega))⟩)
            | (have ho : oAs b (nI q) k = (1, uF_ b 0) := by
                 rw [oAs, if_neg (nn_ (bi_1.mp h13)), if_neg (nn_ hkk), nI_clamp (by omega), hk, if_pos (show k ≤ nI 0 from Int32.not_lt.mp h43)]
               rw [ho]
               exact ⟨S1, A, Lg, P, T, rfl, rfl, hR, hf⟩)
          · skip
            refine e_iconst (v := 1) dX9_as_46 rfl ?_
            refine e_goto (tgt := 55) dX9_as_47 rfl ?_
            refine e_iret dX9_as_55 rfl ?_
            first
            | (have ho : oAs b (nI q) k = (-12, uF_ b 2) := by
                 rw [oAs, if_neg (nn_ (bi_1.mp h13)), if_neg (nn_ hkk), nI_clamp (by omega), hk, if_neg (show ¬ k ≤ nI 0 from Int32.not_le.mpr h43)]
               rw [ho]
               exact ⟨_, A, Lg, P, T, rfl, rfl, RX.F hR 2, hf.tr (FX.S (by omega))⟩)
            | (have ho : oAs b (nI q) k = (1, uF_ b 0) := by
                 rw [oAs, if_neg (nn_ (bi_1.mp h13)), if_neg (nn_ hkk), nI_clamp (by omega), hk, if_pos (show k ≤ nI 0 from Int32.not_lt.mp h43)]
               rw [ho]
               exact ⟨S1, A, Lg, P, T, rfl, rfl, hR, hf⟩)
        · rw [hk] at hT
          refine f_callOi (x := yX4_kind) (C := RX7) (owner := RX4) (As := []) ok_X7_kind ⟨Nat.le_of_ble_eq_true rfl, Nat.le_of_ble_eq_true rfl⟩ dX9_as_40 ⟨by decide, by decide⟩ rfl ok_X4_kind.1 kl_X9_249 ki_X7_kind kx_X7_X7_kind_X4 kq_X4_X4_kind ki_X4_kind rfl rfl (mkW_T.trans hT) rfl (Nat.le_of_ble_eq_true rfl) (Nat.le_of_ble_eq_true rfl) (Nat.zero_add _) (Nat.zero_add _) sp_X7_kind ?_
          refine e_icmp_gt (tgt := 50) dX9_as_43 rfl (fun h43 => ?_) (fun h43 => ?_)
          · refine e_aload_n 0 dX9_as_50 rfl rfl ?_
            refine e_iconst (v := 2) dX9_as_51 rfl ?_
            refine f_callVi (As := [_]) ok_X9_faulted ⟨Nat.le_of_ble_eq_true rfl, Nat.le_of_ble_eq_true rfl⟩ dX9_as_52 kl_X9_210 ki_X9_faulted kv_X9_faulted rfl rfl rfl rfl (Nat.le_of_ble_eq_true rfl) (Nat.le_of_ble_eq_true rfl) (Nat.zero_add _) (Nat.zero_add _) sp_X9_faulted ?_
            refine e_iret dX9_as_55 rfl ?_
            first
            | (have ho : oAs b (nI q) k = (-12, uF_ b 2) := by
                 rw [oAs, if_neg (nn_ (bi_1.mp h13)), if_neg (nn_ hkk), nI_clamp (by omega), hk, if_neg (show ¬ k ≤ nI 1 from Int32.not_le.mpr h43)]
               rw [ho]
               exact ⟨_, A, Lg, P, T, rfl, rfl, RX.F hR 2, hf.tr (FX.S (by omega))⟩)
            | (have ho : oAs b (nI q) k = (1, uF_ b 0) := by
                 rw [oAs, if_neg (nn_ (bi_1.mp h13)), if_neg (nn_ hkk), nI_clamp (by omega), hk, if_pos (show k ≤ nI 1 from Int32.not_lt.mp h43)]
               rw [ho]
               exact ⟨S1, A, Lg, P, T, rfl, rfl, hR, hf⟩)
          · skip
            refine e_iconst (v := 1) dX9_as_46 rfl ?_
            refine e_goto (tgt := 55) dX9_as_47 rfl ?_
            refine e_iret dX9_as_55 rfl ?_
            first
            | (have ho : oAs b (nI q) k = (-12, uF_ b 2) := by
                 rw [oAs, if_neg (nn_ (bi_1.mp h13)), if_neg (nn_ hkk), nI_clamp (by omega), hk, if_neg (show ¬ k ≤ nI 1 from Int32.not_le.mpr h43)]
               rw [ho]
               exact ⟨_, A, Lg, P, T, rfl, rfl, RX.F hR 2, hf.tr (FX.S (by omega))⟩)
            | (have ho : oAs b (nI q) k = (1, uF_ b 0) := by
                 rw [oAs, if_neg (nn_ (bi_1.mp h13)), if_neg (nn_ hkk), nI_clamp (by omega), hk, if_pos (show k ≤ nI 1 from Int32.not_lt.mp h43)]
               rw [ho]
               exact ⟨S1, A, Lg, P, T, rfl, rfl, hR, hf⟩)
        · rw [hk] at hT
          refine f_callOi (x := yX4_kind) (C := RX8) (owner := RX4) (As := []) ok_X8_kind ⟨Nat.le_of_ble_eq_true rfl, Nat.le_of_ble_eq_true rfl⟩ dX9_as_40 ⟨by decide, by decide⟩ rfl ok_X4_kind.1 kl_X9_249 ki_X8_kind kx_X8_X8_kind_X4 kq_X4_X4_kind ki_X4_kind rfl rfl (mkW_T.trans hT) rfl (Nat.le_of_ble_eq_true rfl) (Nat.le_of_ble_eq_true rfl) (Nat.zero_add _) (Nat.zero_add _) sp_X8_kind ?_
          refine e_icmp_gt (tgt := 50) dX9_as_43 rfl (fun h43 => ?_) (fun h43 => ?_)
          · refine e_aload_n 0 dX9_as_50 rfl rfl ?_
            refine e_iconst (v := 2) dX9_as_51 rfl ?_
            refine f_callVi (As := [_]) ok_X9_faulted ⟨Nat.le_of_ble_eq_true rfl, Nat.le_of_ble_eq_true rfl⟩ dX9_as_52 kl_X9_210 ki_X9_faulted kv_X9_faulted rfl rfl rfl rfl (Nat.le_of_ble_eq_true rfl) (Nat.le_of_ble_eq_true rfl) (Nat.zero_add _) (Nat.zero_add _) sp_X9_faulted ?_
            refine e_iret dX9_as_55 rfl ?_
            first
            | (have ho : oAs b (nI q) k = (-12, uF_ b 2) := by
                 rw [oAs, if_neg (nn_ (bi_1.mp h13)), if_neg (nn_ hkk), nI_clamp (by omega), hk, if_neg (show ¬ k ≤ nI 2 from Int32.not_le.mpr h43)]
               rw [ho]
               exact ⟨_, A, Lg, P, T, rfl, rfl, RX.F hR 2, hf.tr (FX.S (by omega))⟩)
            | (have ho : oAs b (nI q) k = (1, uF_ b 0) := by
                 rw [oAs, if_neg (nn_ (bi_1.mp h13)), if_neg (nn_ hkk), nI_clamp (by omega), hk, if_pos (show k ≤ nI 2 from Int32.not_lt.mp h43)]
               rw [ho]
               exact ⟨S1, A, Lg, P, T, rfl, rfl, hR, hf⟩)
          · skip
            refine e_iconst (v := 1) dX9_as_46 rfl ?_
            refine e_goto (tgt := 55) dX9_as_47 rfl ?_
            refine e_iret dX9_as_55 rfl ?_
            first
            | (have ho : oAs b (nI q) k = (-12, uF_ b 2) := by
                 rw [oAs, if_neg (nn_ (bi_1.mp h13)), if_neg (nn_ hkk), nI_clamp (by omega), hk, if_neg (show ¬ k ≤ nI 2 from Int32.not_le.mpr h43)]
               rw [ho]
               exact ⟨_, A, Lg, P, T, rfl, rfl, RX.F hR 2, hf.tr (FX.S (by omega))⟩)
            | (have ho : oAs b (nI q) k = (1, uF_ b 0) := by
                 rw [oAs, if_neg (nn_ (bi_1.mp h13)), if_neg (nn_ hkk), nI_clamp (by omega), hk, if_pos (show k ≤ nI 2 from Int32.not_lt.mp h43)]
               rw [ho]
               exact ⟨S1, A, Lg, P, T, rfl, rfl, hR, hf⟩)
      · refine e_bipush (v := -2) dX9_as_27 (by decide) ?_
        refine e_iret dX9_as_29 rfl ?_
        have ho : oAs b (nI q) k = (-2, uF_ b 0) := by
          have hkk : ¬ (¬ k < 0 ∧ ¬ 2 < k) := by
            intro h
            first
            | exact h.2 (Int32.not_le.mp h24)
            | exact h.1 h19
          rw [oAs, if_neg (nn_ (bi_1.mp h13)), if_pos hkk]
        rw [ho]
        exact ⟨S1, A, Lg, P, T, rfl, rfl, hR, hf⟩
  · rw [e2] at h13
    refine e_iconst (v := -1) dX9_as_16 rfl ?_
    refine e_iret dX9_as_17 rfl ?_
    have ho : oAs b d k = (-1, uF_ b 0) := by
      rw [oAs, if_pos (bi_0.mp h13)]
    rw [ho]
    exact ⟨S1, A, Lg, P, T, rfl, rfl, hR, hf⟩
