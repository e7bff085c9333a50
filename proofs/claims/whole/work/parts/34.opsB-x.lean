set_option maxRecDepth 4000 in
theorem sp_X1_hasRoom {G : sh_G} {S : Nat → Int32} {A : Nat → Nat → Int32} {Lg : Nat → Int64} {P : Nat → Option Nat} {T : List sh_C} {p : Int32}  : Ev G mX1_hasRoom 0 0 (mkW G S A Lg P T) 0 [some (.ref 3), some (.int p)] [] (sh_is (some (.int (bi (¬ p < 0 ∧ ¬ S 1 ≤ p)))) (mkW G S A Lg P T)) := by
  refine e_iload_n 1 dX1_hasRoom_0 rfl rfl ?_
  refine e_if_lt (tgt := 16) dX1_hasRoom_1 rfl (fun h1 => ?_) (fun h1 => ?_)
  · refine e_iconst (v := 0) dX1_hasRoom_16 rfl ?_
    exact e_zret dX1_hasRoom_17 rfl rfl (is_i (by first | rfl | simp [bi, h1]) rfl)
  · refine e_iload_n 1 dX1_hasRoom_4 rfl rfl ?_
    refine e_aload_n 0 dX1_hasRoom_5 rfl rfl ?_
    refine e_getfield 0 dX1_hasRoom_6 kf_X1_23_1 rfl rfl ?_
    refine e_icmp_ge (tgt := 16) dX1_hasRoom_9 rfl (fun h9 => ?_) (fun h9 => ?_)
    · refine e_iconst (v := 0) dX1_hasRoom_16 rfl ?_
      exact e_zret dX1_hasRoom_17 rfl rfl (is_i (by first | rfl | simp [bi, h1, h9]) rfl)
    · refine e_iconst (v := 1) dX1_hasRoom_12 rfl ?_
      refine e_goto (tgt := 17) dX1_hasRoom_13 rfl ?_
      exact e_zret dX1_hasRoom_17 rfl rfl (is_i (by first | rfl | simp [bi, h1, h9]) rfl)

set_option maxRecDepth 4000 in
theorem sp_X1_hasDoor {G : sh_G} {S : Nat → Int32} {A : Nat → Nat → Int32} {Lg : Nat → Int64} {P : Nat → Option Nat} {T : List sh_C} {p : Int32}  : Ev G mX1_hasDoor 0 0 (mkW G S A Lg P T) 0 [some (.ref 3), some (.int p)] [] (sh_is (some (.int (bi (¬ p < 0 ∧ ¬ S 2 ≤ p)))) (mkW G S A Lg P T)) := by
  refine e_iload_n 1 dX1_hasDoor_0 rfl rfl ?_
  refine e_if_lt (tgt := 16) dX1_hasDoor_1 rfl (fun h1 => ?_) (fun h1 => ?_)
  · refine e_iconst (v := 0) dX1_hasDoor_16 rfl ?_
    exact e_zret dX1_hasDoor_17 rfl rfl (is_i (by first | rfl | simp [bi, h1]) rfl)
  · refine e_iload_n 1 dX1_hasDoor_4 rfl rfl ?_
    refine e_aload_n 0 dX1_hasDoor_5 rfl rfl ?_
    refine e_getfield 1 dX1_hasDoor_6 kf_X1_35_1 rfl rfl ?_
    refine e_icmp_ge (tgt := 16) dX1_hasDoor_9 rfl (fun h9 => ?_) (fun h9 => ?_)
    · refine e_iconst (v := 0) dX1_hasDoor_16 rfl ?_
      exact e_zret dX1_hasDoor_17 rfl rfl (is_i (by first | rfl | simp [bi, h1, h9]) rfl)
    · refine e_iconst (v := 1) dX1_hasDoor_12 rfl ?_
      refine e_goto (tgt := 17) dX1_hasDoor_13 rfl ?_
      exact e_zret dX1_hasDoor_17 rfl rfl (is_i (by first | rfl | simp [bi, h1, h9]) rfl)

set_option maxRecDepth 4000 in
theorem sp_X9_person {G : sh_G} {S : Nat → Int32} {A : Nat → Nat → Int32} {Lg : Nat → Int64} {P : Nat → Option Nat} {T : List sh_C} {b : sh_be} {w r : Int32} (hR : RX S A Lg P T b) (hI : IV b) : Ev G mX9_person 0 0 (mkW G S A Lg P T) 0 [some (.ref 1), some (.int w), some (.int r)] [] (QX G S A (some (.int (oPerson b w r).1)) (oPerson b w r).2) := by
  have e1 := hR.2.1
  have e2 := hR.2.2.1
  have e3 := hR.2.2.2.1
  have e4 := hR.2.2.2.2.1
  have i1 := hI.1
  have i2 := hI.2.1
  have i3 := hI.2.2.1
  have i4 := hI.2.2.2.1
  refine e_aload_n 0 dX9_person_0 rfl rfl ?_
  refine e_getfield 1 dX9_person_1 kf_X9_20_9 rfl rfl ?_
  refine e_iload_n 2 dX9_person_4 rfl rfl ?_
  refine f_callVi (As := [_]) ok_X1_hasRoom ⟨Nat.le_of_ble_eq_true rfl, Nat.le_of_ble_eq_true rfl⟩ dX9_person_5 kl_X9_88 ki_X1_hasRoom kv_X1_hasRoom rfl rfl rfl rfl (Nat.le_of_ble_eq_true rfl) (Nat.le_of_ble_eq_true rfl) (Nat.zero_add _) (Nat.zero_add _) sp_X1_hasRoom ?_
  refine e_if_ne (tgt := 13) dX9_person_8 rfl (fun h8 => ?_) (fun h8 => ?_)
  · rw [e1] at h8
    refine e_iload_n 1 dX9_person_13 rfl rfl ?_
    refine f_callSi (As := [_]) ok_X9_isPersonsWeight ⟨Nat.le_of_ble_eq_true rfl, Nat.le_of_ble_eq_true rfl⟩ dX9_person_14 kl_X9_91 ks_X9_isPersonsWeight rfl rfl (Nat.le_of_ble_eq_true rfl) (Nat.le_of_ble_eq_true rfl) (Nat.zero_add _) (Nat.zero_add _) sp_X9_isPersonsWeight ?_
    refine e_if_ne (tgt := 23) dX9_person_17 rfl (fun h17 => ?_) (fun h17 => ?_)
    · refine e_aload_n 0 dX9_person_23 rfl rfl ?_
      refine e_getfield 2 dX9_person_24 kf_X9_27_9 rfl rfl ?_
      refine e_getfield 0 dX9_person_27 kf_X9_94_0 rfl rfl ?_
      refine e_iconst (v := 4) dX9_person_30 rfl ?_
      refine e_icmp_lt (tgt := 37) dX9_person_31 rfl (fun h31 => ?_) (fun h31 => ?_)
      · rw [e3, show (4 : Int32) = nI 4 from rfl, nI_ltI (by omega) (by omega)] at h31
        obtain ⟨j, hj, rfl⟩ := ix_of (x := r) rfl (by omega) (bi_1.mp h8)
        obtain ⟨m, hm, rfl⟩ := ix_of (x := w) (n := 100) rfl (by omega) ⟨fun h => (bi_1.mp h17).1 (i_t1 h), fun h => (bi_1.mp h17).2 (i_t2 h)⟩
        refine e_aload_n 0 dX9_person_37 rfl rfl ?_
        refine e_getfield 2 dX9_person_38 kf_X9_27_9 rfl rfl ?_
        refine e_iload_n 1 dX9_person_41 rfl rfl ?_
        refine e_iload_n 2 dX9_person_42 rfl rfl ?_
        refine f_callVi (As := [_, _]) ok_X0_addPerson ⟨Nat.le_of_ble_eq_true rfl, Nat.le_of_ble_eq_true rfl⟩ dX9_person_43 kl_X9_97 ki_X0_addPerson kv_X0_addPerson rfl rfl rfl rfl (Nat.le_of_ble_eq_true rfl) (Nat.le_of_ble_eq_true rfl) (Nat.zero_add _) (Nat.zero_add _) (sp_X0_addPerson e3 h31) ?_
        refine e_iret dX9_person_46 rfl ?_
        have ho : oPerson b (nI m) (nI j) = (nI (bn b 2), uN_ (uA_ (uA_ b 4 (bn b 2) m) 5 (bn b 2) j) 2 (bn b 2 + 1)) := by
          rw [oPerson, if_neg (nn_ (bi_1.mp h8)), if_neg (nn_ (bi_1.mp h17)), if_neg (by omega), nI_clamp (by omega), nI_clamp (by omega)]
        rw [ho]
        exact ⟨_, _, Lg, P, T, rfl, rfl, hR.per m j, (FX.S (by omega)).tr ((FX.A (by omega)).tr (FX.A (by omega)))⟩
      · rw [e3, show (4 : Int32) = nI 4 from rfl, nI_ltI (by omega) (by omega)] at h31
        refine e_bipush (v := -4) dX9_person_34 (by decide) ?_
        refine e_iret dX9_person_36 rfl ?_
        have ho : oPerson b w r = (-4, b) := by
          rw [oPerson, if_neg (nn_ (bi_1.mp h8)), if_neg (nn_ (bi_1.mp h17)), if_pos (by omega)]
        rw [ho]
        exact ⟨S, A, Lg, P, T, rfl, rfl, hR, FX.rf⟩
    · refine e_bipush (v := -2) dX9_person_20 (by decide) ?_
      refine e_iret dX9_person_22 rfl ?_
      have ho : oPerson b w r = (-2, b) := by
        rw [oPerson, if_neg (nn_ (bi_1.mp h8)), if_pos (bi_0.mp h17)]
      rw [ho]
      exact ⟨S, A, Lg, P, T, rfl, rfl, hR, FX.rf⟩
  · refine e_iconst (v := -1) dX9_person_11 rfl ?_
    refine e_iret dX9_person_12 rfl ?_
    rw [e1] at h8
    have ho : oPerson b w r = (-1, b) := by
      rw [oPerson, if_pos (bi_0.mp h8)]
    rw [ho]
    exact ⟨S, A, Lg, P, T, rfl, rfl, hR, FX.rf⟩

set_option maxRecDepth 4000 in
theorem sp_X9_stone {G : sh_G} {S : Nat → Int32} {A : Nat → Nat → Int32} {Lg : Nat → Int64} {P : Nat → Option Nat} {T : List sh_C} {b : sh_be} {w r : Int32} (hR : RX S A Lg P T b) (hI : IV b) : Ev G mX9_stone 0 0 (mkW G S A Lg P T) 0 [some (.ref 1), some (.int w), some (.int r)] [] (QX G S A (some (.int (oStone b w r).1)) (oStone b w r).2) := by
  have e1 := hR.2.1
  have e2 := hR.2.2.1
  have e3 := hR.2.2.2.1
  have e4 := hR.2.2.2.2.1
  have i1 := hI.1
  have i2 := hI.2.1
  have i3 := hI.2.2.1
  have i4 := hI.2.2.2.1
  refine e_aload_n 0 dX9_stone_0 rfl rfl ?_
  refine e_getfield 1 dX9_stone_1 kf_X9_20_9 rfl rfl ?_
  refine e_iload_n 2 dX9_stone_4 rfl rfl ?_
  refine f_callVi (As := [_]) ok_X1_hasRoom ⟨Nat.le_of_ble_eq_true rfl, Nat.le_of_ble_eq_true rfl⟩ dX9_stone_5 kl_X9_88 ki_X1_hasRoom kv_X1_hasRoom rfl rfl rfl rfl (Nat.le_of_ble_eq_true rfl) (Nat.le_of_ble_eq_true rfl) (Nat.zero_add _) (Nat.zero_add _) sp_X1_hasRoom ?_
  refine e_if_ne (tgt := 13) dX9_stone_8 rfl (fun h8 => ?_) (fun h8 => ?_)
  · rw [e1] at h8
    refine e_iload_n 1 dX9_stone_13 rfl rfl ?_
    refine e_iconst (v := 1) dX9_stone_14 rfl ?_
    refine e_icmp_lt (tgt := 24) dX9_stone_15 rfl (fun h15 => ?_) (fun h15 => ?_)
    · refine e_bipush (v := -2) dX9_stone_24 (by decide) ?_
      refine e_iret dX9_stone_26 rfl ?_
      have ho : oStone b w r = (-2, b) := by
        have hq : ¬ (¬ w < 1 ∧ ¬ 20 < w) := by
          intro h
          first
          | exact h.1 h15
          | exact h.2 (Int32.not_le.mp h21)
        rw [oStone, if_neg (nn_ (bi_1.mp h8)), if_pos hq]
      rw [ho]
      exact ⟨S, A, Lg, P, T, rfl, rfl, hR, FX.rf⟩
    · refine e_iload_n 1 dX9_stone_18 rfl rfl ?_
      refine e_bipush (v := 20) dX9_stone_19 (by decide) ?_
      refine e_icmp_le (tgt := 27) dX9_stone_21 rfl (fun h21 => ?_) (fun h21 => ?_)
      · have hw : ¬ w < 1 ∧ ¬ 20 < w := ⟨h15, Int32.not_lt.mpr h21⟩
        refine e_aload_n 0 dX9_stone_27 rfl rfl ?_
        refine e_getfield 2 dX9_stone_28 kf_X9_27_9 rfl rfl ?_
        refine e_getfield 1 dX9_stone_31 kf_X9_101_0 rfl rfl ?_
        refine e_iconst (v := 4) dX9_stone_34 rfl ?_
        refine e_icmp_lt (tgt := 41) dX9_stone_35 rfl (fun h35 => ?_) (fun h35 => ?_)
        · rw [e4, show (4 : Int32) = nI 4 from rfl, nI_ltI (by omega) (by omega)] at h35
          obtain ⟨j, hj, rfl⟩ := ix_of (x := r) rfl (by omega) (bi_1.mp h8)
          obtain ⟨m, hm, rfl⟩ := ix_of (x := w) (n := 21) rfl (by omega) ⟨fun h => h15 (i_t3 h), fun h => hw.2 (i_t4 h)⟩
          refine e_aload_n 0 dX9_stone_41 rfl rfl ?_
          refine e_getfield 2 dX9_stone_42 kf_X9_27_9 rfl rfl ?_
          refine e_iload_n 1 dX9_stone_45 rfl rfl ?_
          refine e_iload_n 2 dX9_stone_46 rfl rfl ?_
          refine f_callVi (As := [_, _]) ok_X0_addStone ⟨Nat.le_of_ble_eq_true rfl, Nat.le_of_ble_eq_true rfl⟩ dX9_stone_47 kl_X9_104 ki_X0_addStone kv_X0_addStone rfl rfl rfl rfl (Nat.le_of_ble_eq_true rfl) (Nat.le_of_ble_eq_true rfl) (Nat.zero_add _) (Nat.zero_add _) (sp_X0_addStone e4 h35) ?_
          refine e_iret dX9_stone_50 rfl ?_
          have ho : oStone b (nI m) (nI j) = (nI (bn b 3), uN_ (uA_ (uA_ b 6 (bn b 3) m) 7 (bn b 3) j) 3 (bn b 3 + 1)) := by
            rw [oStone, if_neg (nn_ (bi_1.mp h8)), if_neg (nn_ hw), if_neg (by omega), nI_clamp (by omega), nI_clamp (by omega)]
          rw [ho]
          exact ⟨_, _, Lg, P, T, rfl, rfl, hR.sto m (by omega), (FX.S (by omega)).tr ((FX.A (by omega)).tr (FX.A (by omega)))⟩
        · rw [e4, show (4 : Int32) = nI 4 from rfl, nI_ltI (by omega) (by omega)] at h35
          refine e_bipush (v := -4) dX9_stone_38 (by decide) ?_
          refine e_iret dX9_stone_40 rfl ?_
          have ho : oStone b w r = (-4, b) := by
            rw [oStone, if_neg (nn_ (bi_1.mp h8)), if_neg (nn_ hw), if_pos (by omega)]
          rw [ho]
          exact ⟨S, A, Lg, P, T, rfl, rfl, hR, FX.rf⟩
      · refine e_bipush (v := -2) dX9_stone_24 (by decide) ?_
        refine e_iret dX9_stone_26 rfl ?_
        have ho : oStone b w r = (-2, b) := by
          have hq : ¬ (¬ w < 1 ∧ ¬ 20 < w) := by
            intro h
            first
            | exact h.1 h15
            | exact h.2 (Int32.not_le.mp h21)
          rw [oStone, if_neg (nn_ (bi_1.mp h8)), if_pos hq]
        rw [ho]
        exact ⟨S, A, Lg, P, T, rfl, rfl, hR, FX.rf⟩
  · refine e_iconst (v := -1) dX9_stone_11 rfl ?_
    refine e_iret dX9_stone_12 rfl ?_
    rw [e1] at h8
    have ho : oStone b w r = (-1, b) := by
      rw [oStone, if_pos (bi_0.mp h8)]
    rw [ho]
    exact ⟨S, A, Lg, P, T, rfl, rfl, hR, FX.rf⟩

set_option maxRecDepth 4000 in
theorem sp_X9_ofDoor {G : sh_G} {S : Nat → Int32} {A : Nat → Nat → Int32} {Lg : Nat → Int64} {P : Nat → Option Nat} {T : List sh_C} {b : sh_be} {d what : Int32} (hR : RX S A Lg P T b) (hI : IV b) : Ev G mX9_ofDoor 0 0 (mkW G S A Lg P T) 0 [some (.ref 1), some (.int d), some (.int what)] [] (sh_is (some (.int (oOfDoor b d what))) (mkW G S A Lg P T)) := by
  have e1 := hR.2.1
  have e2 := hR.2.2.1
  have e3 := hR.2.2.2.1
  have e4 := hR.2.2.2.2.1
  have i1 := hI.1
  have i2 := hI.2.1
  have i3 := hI.2.2.1
  have i4 := hI.2.2.2.1
  refine e_aload_n 0 dX9_ofDoor_0 rfl rfl ?_
  refine e_getfield 1 dX9_ofDoor_1 kf_X9_20_9 rfl rfl ?_
  refine e_iload_n 1 dX9_ofDoor_4 rfl rfl ?_
  refine f_callVi (As := [_]) ok_X1_hasDoor ⟨Nat.le_of_ble_eq_true rfl, Nat.le_of_ble_eq_true rfl⟩ dX9_ofDoor_5 kl_X9_74 ki_X1_hasDoor kv_X1_hasDoor rfl rfl rfl rfl (Nat.le_of_ble_eq_true rfl) (Nat.le_of_ble_eq_true rfl) (Nat.zero_add _) (Nat.zero_add _) sp_X1_hasDoor ?_
  refine e_if_ne (tgt := 13) dX9_ofDoor_8 rfl (fun h8 => ?_) (fun h8 => ?_)
  · rw [e2] at h8
    obtain ⟨q, hq, rfl⟩ := ix_of (x := d) rfl (by omega) (bi_1.mp h8)
    obtain ⟨j, hP, hT, k1, k2, k3, k4, k5, k6⟩ := hR.dr hI hq
    refine e_iload_n 2 dX9_ofDoor_13 rfl rfl ?_
    refine e_if_lt (tgt := 23) dX9_ofDoor_14 rfl (fun h14 => ?_) (fun h14 => ?_)
    · refine e_bipush (v := -2) dX9_ofDoor_23 (by decide) ?_
      refine e_iret dX9_ofDoor_25 rfl ?_
      have ho : oOfDoor b (nI q) what = -2 := by
        first | rw [oOfDoor, if_neg (nn_ (bi_1.mp h8)), if_pos (Or.inl h14)] | rw [oOfDoor, if_neg (nn_ (bi_1.mp h8)), if_pos (Or.inr (Int32.not_le.mp h20))]
      rw [ho]
      exact ⟨rfl, rfl⟩
    · refine e_iload_n 2 dX9_ofDoor_17 rfl rfl ?_
      refine e_bipush (v := 7) dX9_ofDoor_18 (by decide) ?_
      refine e_icmp_le (tgt := 26) dX9_ofDoor_20 rfl (fun h20 => ?_) (fun h20 => ?_)
      · obtain ⟨i, hi, rfl⟩ := ix_of (x := what) (n := 8) rfl (by omega) ⟨h14, fun h => i_t5 h h20⟩
        refine e_aload_n 0 dX9_ofDoor_26 rfl rfl ?_
        refine e_getfield 1 dX9_ofDoor_27 kf_X9_20_9 rfl rfl ?_
        refine e_getfield 2 dX9_ofDoor_30 kf_X9_78_1 rfl rfl ?_
        refine e_iload_n 1 dX9_ofDoor_33 rfl rfl ?_
        refine e_aald_n (q) dX9_ofDoor_34 rfl (Or.inl rfl) rfl (by omega) (by decide) hP ?_
        refine e_iload_n 2 dX9_ofDoor_35 rfl rfl ?_
        refine f_callBi (As := [_]) ok_X4_told ⟨Nat.le_of_ble_eq_true rfl, Nat.le_of_ble_eq_true rfl⟩ dX9_ofDoor_36 rfl kl_X9_82 ki_X4_told kv_X4_told kx_X7_X4_told_X4 kx_X8_X4_told_X4 kq_X4_X4_told rfl rfl (mkW_T.trans hT) k1 (Nat.le_of_ble_eq_true rfl) (Nat.le_of_ble_eq_true rfl) (sp_X4_told hT k1 hi) ?_
        refine e_iret dX9_ofDoor_39 rfl ?_
        exact is_i (by rw [oOfDoor, if_neg (nn_ (bi_1.mp h8)), if_neg (fun h => h.elim h14 (fun h => absurd h20 (Int32.not_le.mpr h))), nI_clamp (by omega), nI_clamp (by omega)]) rfl
      · refine e_bipush (v := -2) dX9_ofDoor_23 (by decide) ?_
        refine e_iret dX9_ofDoor_25 rfl ?_
        have ho : oOfDoor b (nI q) what = -2 := by
          first | rw [oOfDoor, if_neg (nn_ (bi_1.mp h8)), if_pos (Or.inl h14)] | rw [oOfDoor, if_neg (nn_ (bi_1.mp h8)), if_pos (Or.inr (Int32.not_le.mp h20))]
        rw [ho]
        exact ⟨rfl, rfl⟩
  · refine e_iconst (v := -1) dX9_ofDoor_11 rfl ?_
    refine e_iret dX9_ofDoor_12 rfl ?_
    rw [e2] at h8
    have ho : oOfDoor b d what = -1 := by
      rw [oOfDoor, if_pos (bi_0.mp h8)]
    rw [ho]
    exact ⟨rfl, rfl⟩

set_option maxRecDepth 4000 in
theorem sp_X9_ofPerson {G : sh_G} {S : Nat → Int32} {A : Nat → Nat → Int32} {Lg : Nat → Int64} {P : Nat → Option Nat} {T : List sh_C} {b : sh_be} {p what : Int32} (hR : RX S A Lg P T b) (hI : IV b) : Ev G mX9_ofPerson 0 0 (mkW G S A Lg P T) 0 [some (.ref 1), some (.int p), some (.int what)] [] (sh_is (some (.int (oOfPerson b p what))) (mkW G S A Lg P T)) := by
  have e1 := hR.2.1
  have e2 := hR.2.2.1
  have e3 := hR.2.2.2.1
  have e4 := hR.2.2.2.2.1
  have i1 := hI.1
  have i2 := hI.2.1
  have i3 := hI.2.2.1
  have i4 := hI.2.2.2.1
  refine e_aload_n 0 dX9_ofPerson_0 rfl rfl ?_
  refine e_getfield 2 dX9_ofPerson_1 kf_X9_27_9 rfl rfl ?_
  refine e_iload_n 1 dX9_ofPerson_4 rfl rfl ?_
  refine f_callVi (As := [_]) ok_X0_hasPerson ⟨Nat.le_of_ble_eq_true rfl, Nat.le_of_ble_eq_true rfl⟩ dX9_ofPerson_5 kl_X9_107 ki_X0_hasPerson kv_X0_hasPerson rfl rfl rfl rfl (Nat.le_of_ble_eq_true rfl) (Nat.le_of_ble_eq_true rfl) (Nat.zero_add _) (Nat.zero_add _) sp_X0_hasPerson ?_
  refine e_if_ne (tgt := 13) dX9_ofPerson_8 rfl (fun h8 => ?_) (fun h8 => ?_)
  · rw [e3] at h8
    obtain ⟨q, hq, rfl⟩ := ix_of (x := p) rfl (by omega) (bi_1.mp h8)
    refine e_iload_n 2 dX9_ofPerson_13 rfl rfl ?_
    by_cases c0 : what = 0
    · subst c0
      refine e_tableIn (off := 30) (tgt := 44) dX9_ofPerson_14 (by decide) (by decide) (by decide) rfl ?_
      refine e_aload_n 0 dX9_ofPerson_44 rfl rfl ?_
      refine e_getfield 2 dX9_ofPerson_45 kf_X9_27_9 rfl rfl ?_
      refine e_getfield 2 dX9_ofPerson_48 kf_X9_110_0 rfl rfl ?_
      refine e_iload_n 1 dX9_ofPerson_51 rfl rfl ?_
      refine e_iald_n (q) dX9_ofPerson_52 rfl rfl (by omega) (by decide) ?_
      refine e_iret dX9_ofPerson_53 rfl ?_
      exact is_i (by rw [oOfPerson, if_neg (nn_ (bi_1.mp h8)), if_pos rfl, nI_clamp (by omega)]; exact (hR.2.2.2.2.2.2.2.2.1 q hq).1) rfl
    by_cases c1 : what = 1
    · subst c1
      refine e_tableIn (off := 40) (tgt := 54) dX9_ofPerson_14 (by decide) (by decide) (by decide) rfl ?_
      refine e_aload_n 0 dX9_ofPerson_54 rfl rfl ?_
      refine e_getfield 2 dX9_ofPerson_55 kf_X9_27_9 rfl rfl ?_
      refine e_getfield 3 dX9_ofPerson_58 kf_X9_113_0 rfl rfl ?_
      refine e_iload_n 1 dX9_ofPerson_61 rfl rfl ?_
      refine e_iald_n (q) dX9_ofPerson_62 rfl rfl (by omega) (by decide) ?_
      refine e_iret dX9_ofPerson_63 rfl ?_
      exact is_i (by rw [oOfPerson, if_neg (nn_ (bi_1.mp h8)), if_neg c0, if_pos rfl, nI_clamp (by omega)]; exact (hR.2.2.2.2.2.2.2.2.1 q hq).2) rfl
    by_cases c2 : what = 2
    · subst c2
      refine e_tableIn (off := 50) (tgt := 64) dX9_ofPerson_14 (by decide) (by decide) (by decide) rfl ?_
      refine e_aload_n 0 dX9_ofPerson_64 rfl rfl ?_
      refine e_getfield 2 dX9_ofPerson_65 kf_X9_27_9 rfl rfl ?_
      refine e_iload_n 1 dX9_ofPerson_68 rfl rfl ?_
      refine f_callVi (As := [_]) ok_X0_carriedBy ⟨Nat.le_of_ble_eq_true rfl, Nat.le_of_ble_eq_true rfl⟩ dX9_ofPerson_69 kl_X9_116 ki_X0_carriedBy kv_X0_carriedBy rfl rfl rfl rfl (Nat.le_of_ble_eq_true rfl) (Nat.le_of_ble_eq_true rfl) (Nat.zero_add _) (Nat.zero_add _) (sp_X0_cb hR hI (by omega)) ?_
      refine e_iret dX9_ofPerson_72 rfl ?_
      exact is_i (by rw [oOfPerson, if_neg (nn_ (bi_1.mp h8)), if_neg c0, if_neg c1, if_pos rfl, nI_clamp (by omega)]) rfl
    by_cases c3 : what = 3
    · subst c3
      refine e_tableIn (off := 59) (tgt := 73) dX9_ofPerson_14 (by decide) (by decide) (by decide) rfl ?_
      refine e_aload_n 0 dX9_ofPerson_73 rfl rfl ?_
      refine e_getfield 2 dX9_ofPerson_74 kf_X9_27_9 rfl rfl ?_
      refine e_iload_n 1 dX9_ofPerson_77 rfl rfl ?_
      refine f_callVi (As := [_]) ok_X0_weightWithStones ⟨Nat.le_of_ble_eq_true rfl, Nat.le_of_ble_eq_true rfl⟩ dX9_ofPerson_78 kl_X9_119 ki_X0_weightWithStones kv_X0_weightWithStones rfl rfl rfl rfl (Nat.le_of_ble_eq_true rfl) (Nat.le_of_ble_eq_true rfl) (Nat.zero_add _) (Nat.zero_add _) (sp_X0_weightWithStones hR hI hq) ?_
      refine e_iret dX9_ofPerson_81 rfl ?_
      exact is_i (by rw [oOfPerson, if_neg (nn_ (bi_1.mp h8)), if_neg c0, if_neg c1, if_neg c2, if_pos rfl, nI_clamp (by omega)]) rfl
    refine e_tableOut (tgt := 82) dX9_ofPerson_14 (sw4 c0 c1 c2 c3) rfl ?_
    refine e_bipush (v := -2) dX9_ofPerson_82 (by decide) ?_
    refine e_iret dX9_ofPerson_84 rfl ?_
    exact is_i (by rw [oOfPerson, if_neg (nn_ (bi_1.mp h8)), if_neg c0, if_neg c1, if_neg c2, if_neg c3]) rfl
  · refine e_iconst (v := -1) dX9_ofPerson_11 rfl ?_
    refine e_iret dX9_ofPerson_12 rfl ?_
    rw [e3] at h8
    have ho : oOfPerson b p what = -1 := by
      rw [oOfPerson, if_pos (bi_0.mp h8)]
    rw [ho]
    exact ⟨rfl, rfl⟩

set_option maxRecDepth 4000 in
theorem sp_X9_ofStone {G : sh_G} {S : Nat → Int32} {A : Nat → Nat → Int32} {Lg : Nat → Int64} {P : Nat → Option Nat} {T : List sh_C} {b : sh_be} {s what : Int32} (hR : RX S A Lg P T b) (hI : IV b) : Ev G mX9_ofStone 0 0 (mkW G S A Lg P T) 0 [some (.ref 1), some (.int s), some (.int what)] [] (sh_is (some (.int (oOfStone b s what))) (mkW G S A Lg P T)) := by
  have e1 := hR.2.1
  have e2 := hR.2.2.1
  have e3 := hR.2.2.2.1
  have e4 := hR.2.2.2.2.1
  have i1 := hI.1
  have i2 := hI.2.1
  have i3 := hI.2.2.1
  have i4 := hI.2.2.2.1
  refine e_aload_n 0 dX9_ofStone_0 rfl rfl ?_
  refine e_getfield 2 dX9_ofStone_1 kf_X9_27_9 rfl rfl ?_
  refine e_iload_n 1 dX9_ofStone_4 rfl rfl ?_
  refine f_callVi (As := [_]) ok_X0_hasStone ⟨Nat.le_of_ble_eq_true rfl, Nat.le_of_ble_eq_true rfl⟩ dX9_ofStone_5 kl_X9_122 ki_X0_hasStone kv_X0_hasStone rfl rfl rfl rfl (Nat.le_of_ble_eq_true rfl) (Nat.le_of_ble_eq_true rfl) (Nat.zero_add _) (Nat.zero_add _) sp_X0_hasStone ?_
  refine e_if_ne (tgt := 13) dX9_ofStone_8 rfl (fun h8 => ?_) (fun h8 => ?_)
  · rw [e4] at h8
    obtain ⟨q, hq, rfl⟩ := ix_of (x := s) rfl (by omega) (bi_1.mp h8)
    refine e_iload_n 2 dX9_ofStone_13 rfl rfl ?_
    refine e_if_lt (tgt := 22) dX9_ofStone_14 rfl (fun h14 => ?_) (fun h14 => ?_)
    · refine e_bipush (v := -2) dX9_ofStone_22 (by decide) ?_
      refine e_iret dX9_ofStone_24 rfl ?_
      have ho : oOfStone b (nI q) what = -2 := by
        have c0 : ¬ what = 0 := fun h => by subst h; first | (exact absurd h14 (by decide)) | (exact absurd (by decide) h19)
        have c1 : ¬ what = 1 := fun h => by subst h; first | (exact absurd h14 (by decide)) | (exact absurd (by decide) h19)
        rw [oOfStone, if_neg (nn_ (bi_1.mp h8)), if_neg c0, if_neg c1]
      rw [ho]
      exact ⟨rfl, rfl⟩
    · refine e_iload_n 2 dX9_ofStone_17 rfl rfl ?_
      refine e_iconst (v := 1) dX9_ofStone_18 rfl ?_
      refine e_icmp_le (tgt := 25) dX9_ofStone_19 rfl (fun h19 => ?_) (fun h19 => ?_)
      · refine e_iload_n 2 dX9_ofStone_25 rfl rfl ?_
        refine e_if_ne (tgt := 41) dX9_ofStone_26 rfl (fun h26 => ?_) (fun h26 => ?_)
        · refine e_aload_n 0 dX9_ofStone_41 rfl rfl ?_
          refine e_getfield 2 dX9_ofStone_42 kf_X9_27_9 rfl rfl ?_
          refine e_getfield 5 dX9_ofStone_45 kf_X9_128_0 rfl rfl ?_
          refine e_iload_n 1 dX9_ofStone_48 rfl rfl ?_
          refine e_iald_n (q) dX9_ofStone_49 rfl rfl (by omega) (by decide) ?_
          refine e_iret dX9_ofStone_50 rfl ?_
          first
          | (exact is_i (by rw [oOfStone, if_neg (nn_ (bi_1.mp h8)), if_pos h26, nI_clamp (by omega)]; exact (hR.2.2.2.2.2.2.2.2.2.1 q hq).1) rfl)
          | (have c1 : what = 1 := i_01 h14 h19 h26
             exact is_i (by rw [oOfStone, if_neg (nn_ (bi_1.mp h8)), if_neg h26, if_pos c1, nI_clamp (by omega)]; exact (hR.2.2.2.2.2.2.2.2.2.1 q hq).2) rfl)
        · refine e_aload_n 0 dX9_ofStone_29 rfl rfl ?_
          refine e_getfield 2 dX9_ofStone_30 kf_X9_27_9 rfl rfl ?_
          refine e_getfield 4 dX9_ofStone_33 kf_X9_125_0 rfl rfl ?_
          refine e_iload_n 1 dX9_ofStone_36 rfl rfl ?_
          refine e_iald_n (q) dX9_ofStone_37 rfl rfl (by omega) (by decide) ?_
          refine e_goto (tgt := 50) dX9_ofStone_38 rfl ?_
          refine e_iret dX9_ofStone_50 rfl ?_
          first
          | (exact is_i (by rw [oOfStone, if_neg (nn_ (bi_1.mp h8)), if_pos h26, nI_clamp (by omega)]; exact (hR.2.2.2.2.2.2.2.2.2.1 q hq).1) rfl)
          | (have c1 : what = 1 := i_01 h14 h19 h26
             exact is_i (by rw [oOfStone, if_neg (nn_ (bi_1.mp h8)), if_neg h26, if_pos c1, nI_clamp (by omega)]; exact (hR.2.2.2.2.2.2.2.2.2.1 q hq).2) rfl)
      · refine e_bipush (v := -2) dX9_ofStone_22 (by decide) ?_
        refine e_iret dX9_ofStone_24 rfl ?_
        have ho : oOfStone b (nI q) what = -2 := by
          have c0 : ¬ what = 0 := fun h => by subst h; first | (exact absurd h14 (by decide)) | (exact absurd (by decide) h19)
          have c1 : ¬ what = 1 := fun h => by subst h; first | (exact absurd h14 (by decide)) | (exact absurd (by decide) h19)
          rw [oOfStone, if_neg (nn_ (bi_1.mp h8)), if_neg c0, if_neg c1]
        rw [ho]
        exact ⟨rfl, rfl⟩
  · refine e_iconst (v := -1) dX9_ofStone_11 rfl ?_
    refine e_iret dX9_ofStone_12 rfl ?_
    rw [e4] at h8
    have ho : oOfStone b s what = -1 := by
      rw [oOfStone, if_pos (bi_0.mp h8)]
    rw [ho]
    exact ⟨rfl, rfl⟩

set_option maxRecDepth 4000 in
theorem sp_X9_many {G : sh_G} {S : Nat → Int32} {A : Nat → Nat → Int32} {Lg : Nat → Int64} {P : Nat → Option Nat} {T : List sh_C} {b : sh_be} {what : Int32} (hR : RX S A Lg P T b) (hI : IV b) : Ev G mX9_many 0 0 (mkW G S A Lg P T) 0 [some (.ref 1), some (.int what)] [] (sh_is (some (.int (oMany b what))) (mkW G S A Lg P T)) := by
  have e1 := hR.2.1
  have e2 := hR.2.2.1
  have e3 := hR.2.2.2.1
  have e4 := hR.2.2.2.2.1
  have i1 := hI.1
  have i2 := hI.2.1
  have i3 := hI.2.2.1
  have i4 := hI.2.2.2.1
  refine e_iload_n 1 dX9_many_0 rfl rfl ?_
  by_cases c0 : what = 0
  · subst c0
    refine e_tableIn (off := 31) (tgt := 32) dX9_many_1 (by decide) (by decide) (by decide) rfl ?_
    refine e_aload_n 0 dX9_many_32 rfl rfl ?_
    refine e_getfield 1 dX9_many_33 kf_X9_20_9 rfl rfl ?_
    refine e_getfield 0 dX9_many_36 kf_X9_255_1 rfl rfl ?_
    refine e_iret dX9_many_39 rfl ?_
    exact is_i (by rw [oMany, if_pos rfl]; exact e1) rfl
  by_cases c1 : what = 1
  · subst c1
    refine e_tableIn (off := 39) (tgt := 40) dX9_many_1 (by decide) (by decide) (by decide) rfl ?_
    refine e_aload_n 0 dX9_many_40 rfl rfl ?_
    refine e_getfield 1 dX9_many_41 kf_X9_20_9 rfl rfl ?_
    refine e_getfield 1 dX9_many_44 kf_X9_70_1 rfl rfl ?_
    refine e_iret dX9_many_47 rfl ?_
    exact is_i (by rw [oMany, if_neg c0, if_pos rfl]; exact e2) rfl
  by_cases c2 : what = 2
  · subst c2
    refine e_tableIn (off := 47) (tgt := 48) dX9_many_1 (by decide) (by decide) (by decide) rfl ?_
    refine e_aload_n 0 dX9_many_48 rfl rfl ?_
    refine e_getfield 2 dX9_many_49 kf_X9_27_9 rfl rfl ?_
    refine e_getfield 0 dX9_many_52 kf_X9_94_0 rfl rfl ?_
    refine e_iret dX9_many_55 rfl ?_
    exact is_i (by rw [oMany, if_neg c0, if_neg c1, if_pos rfl]; exact e3) rfl
  by_cases c3 : what = 3
  · subst c3
    refine e_tableIn (off := 55) (tgt := 56) dX9_many_1 (by decide) (by decide) (by decide) rfl ?_
    refine e_aload_n 0 dX9_many_56 rfl rfl ?_
    refine e_getfield 2 dX9_many_57 kf_X9_27_9 rfl rfl ?_
    refine e_getfield 1 dX9_many_60 kf_X9_101_0 rfl rfl ?_
    refine e_iret dX9_many_63 rfl ?_
    exact is_i (by rw [oMany, if_neg c0, if_neg c1, if_neg c2, if_pos rfl]; exact e4) rfl
  refine e_tableOut (tgt := 64) dX9_many_1 (sw4 c0 c1 c2 c3) rfl ?_
  refine e_bipush (v := -2) dX9_many_64 (by decide) ?_
  refine e_iret dX9_many_66 rfl ?_
  exact is_i (by rw [oMany, if_neg c0, if_neg c1, if_neg c2, if_neg c3]) rfl

set_option maxRecDepth 4000 in
theorem sp_X9_trace {G : sh_G} {S : Nat → Int32} {A : Nat → Nat → Int32} {Lg : Nat → Int64} {P : Nat → Option Nat} {T : List sh_C} {b : sh_be} (hR : RX S A Lg P T b) (hI : IV b) : Ev G mX9_trace 0 0 (mkW G S A Lg P T) 0 [some (.ref 1)] [] (sh_is (some (.int (bT b))) (mkW G S A Lg P T)) := by
  refine e_aload_n 0 dX9_trace_0 rfl rfl ?_
  refine e_getfield 4 dX9_trace_1 kf_X9_41_9 rfl rfl ?_
  refine e_getfield 0 dX9_trace_4 kf_X9_252_6 rfl rfl ?_
  refine e_iret dX9_trace_7 rfl ?_
  exact is_i hR.2.2.2.2.2.1 rfl

set_option maxRecDepth 4000 in
theorem sp_X9_fault {G : sh_G} {S : Nat → Int32} {A : Nat → Nat → Int32} {Lg : Nat → Int64} {P : Nat → Option Nat} {T : List sh_C} {b : sh_be} (hR : RX S A Lg P T b) (hI : IV b) : Ev G mX9_fault 0 0 (mkW G S A Lg P T) 0 [some (.ref 1)] [] (sh_is (some (.int (bF b))) (mkW G S A Lg P T)) := by
  refine e_aload_n 0 dX9_fault_0 rfl rfl ?_
  refine e_getfield 5 dX9_fault_1 kf_X9_201_9 rfl rfl ?_
  refine e_iret dX9_fault_4 rfl ?_
  exact is_i hR.1 rfl
