set_option maxRecDepth 4000 in
theorem sp_X0_cb {G : sh_G} {S : Nat → Int32} {A : Nat → Nat → Int32} {Lg : Nat → Int64} {P : Nat → Option Nat} {T : List sh_C} {b : sh_be} {k : Nat} (hR : RX S A Lg P T b) (hI : IV b) (hk : k < 4) : Ev G mX0_carriedBy 0 0 (mkW G S A Lg P T) 0 [some (.ref 5), some (.int (nI k)), none, none] [] (sh_is (some (.int (nI (cbN (ba b 7) (20 + k) (bn b 3))))) (mkW G S A Lg P T)) := by
  rw [← cb_x hR hI hk _ (Nat.le_refl _)]
  exact sp_X0_carriedBy hR.2.2.2.2.1 hI.2.2.2.1

set_option maxRecDepth 4000 in
theorem sp_J6_bitCount {G : sh_G} {S : Nat → Int32} {A : Nat → Nat → Int32} {Lg : Nat → Int64} {P : Nat → Option Nat} {T : List sh_C} {n : Nat} (hn : n < 16) : Ev G mJ6_bitCount_0f7a4 0 0 (mkW G S A Lg P T) 0 [some (.int (nI n))] [] (sh_is (some (.int (nI (popc 4 n)))) (mkW G S A Lg P T)) := by
  refine e_iload_n 0 dJ6_bitCount_0f7a4_0 rfl rfl ?_
  refine e_iload_n 0 dJ6_bitCount_0f7a4_1 rfl rfl ?_
  refine e_iconst (v := 1) dJ6_bitCount_0f7a4_2 rfl ?_
  refine e_iushr dJ6_bitCount_0f7a4_3 ?_
  refine e_ldcw dJ6_bitCount_0f7a4_4 kc_J6_265 ?_
  refine e_iand dJ6_bitCount_0f7a4_7 ?_
  refine e_isub dJ6_bitCount_0f7a4_8 ?_
  refine e_istore_n (lv' := [_]) 0 dJ6_bitCount_0f7a4_9 rfl (Nat.le_of_ble_eq_true rfl) rfl rfl ?_
  refine e_iload_n 0 dJ6_bitCount_0f7a4_10 rfl rfl ?_
  refine e_ldcw dJ6_bitCount_0f7a4_11 kc_J6_266 ?_
  refine e_iand dJ6_bitCount_0f7a4_14 ?_
  refine e_iload_n 0 dJ6_bitCount_0f7a4_15 rfl rfl ?_
  refine e_iconst (v := 2) dJ6_bitCount_0f7a4_16 rfl ?_
  refine e_iushr dJ6_bitCount_0f7a4_17 ?_
  refine e_ldcw dJ6_bitCount_0f7a4_18 kc_J6_266 ?_
  refine e_iand dJ6_bitCount_0f7a4_21 ?_
  refine e_iadd dJ6_bitCount_0f7a4_22 ?_
  refine e_istore_n (lv' := [_]) 0 dJ6_bitCount_0f7a4_23 rfl (Nat.le_of_ble_eq_true rfl) rfl rfl ?_
  refine e_iload_n 0 dJ6_bitCount_0f7a4_24 rfl rfl ?_
  refine e_iload_n 0 dJ6_bitCount_0f7a4_25 rfl rfl ?_
  refine e_iconst (v := 4) dJ6_bitCount_0f7a4_26 rfl ?_
  refine e_iushr dJ6_bitCount_0f7a4_27 ?_
  refine e_iadd dJ6_bitCount_0f7a4_28 ?_
  refine e_ldcw dJ6_bitCount_0f7a4_29 kc_J6_267 ?_
  refine e_iand dJ6_bitCount_0f7a4_32 ?_
  refine e_istore_n (lv' := [_]) 0 dJ6_bitCount_0f7a4_33 rfl (Nat.le_of_ble_eq_true rfl) rfl rfl ?_
  refine e_iload_n 0 dJ6_bitCount_0f7a4_34 rfl rfl ?_
  refine e_iload_n 0 dJ6_bitCount_0f7a4_35 rfl rfl ?_
  refine e_bipush (v := 8) dJ6_bitCount_0f7a4_36 (by decide) ?_
  refine e_iushr dJ6_bitCount_0f7a4_38 ?_
  refine e_iadd dJ6_bitCount_0f7a4_39 ?_
  refine e_istore_n (lv' := [_]) 0 dJ6_bitCount_0f7a4_40 rfl (Nat.le_of_ble_eq_true rfl) rfl rfl ?_
  refine e_iload_n 0 dJ6_bitCount_0f7a4_41 rfl rfl ?_
  refine e_iload_n 0 dJ6_bitCount_0f7a4_42 rfl rfl ?_
  refine e_bipush (v := 16) dJ6_bitCount_0f7a4_43 (by decide) ?_
  refine e_iushr dJ6_bitCount_0f7a4_45 ?_
  refine e_iadd dJ6_bitCount_0f7a4_46 ?_
  refine e_istore_n (lv' := [_]) 0 dJ6_bitCount_0f7a4_47 rfl (Nat.le_of_ble_eq_true rfl) rfl rfl ?_
  refine e_iload_n 0 dJ6_bitCount_0f7a4_48 rfl rfl ?_
  refine e_bipush (v := 63) dJ6_bitCount_0f7a4_49 (by decide) ?_
  refine e_iand dJ6_bitCount_0f7a4_51 ?_
  exact e_iret dJ6_bitCount_0f7a4_52 rfl (is_i (bc16 n hn) rfl)

set_option maxRecDepth 4000 in
theorem sp_X0_hm {G : sh_G} {S : Nat → Int32} {A : Nat → Nat → Int32} {Lg : Nat → Int64} {P : Nat → Option Nat} {T : List sh_C} {b : sh_be} {k : Nat} (hR : RX S A Lg P T b) (hI : IV b) (hk : k < 4) : Ev G mX0_howManyCarriedBy 0 0 (mkW G S A Lg P T) 0 [some (.ref 5), some (.int (nI k))] [] (sh_is (some (.int (nI (cnN (ba b 7) (20 + k) (bn b 3))))) (mkW G S A Lg P T)) := by
  have hS := hR.2.2.2.2.1
  have hns := hI.2.2.2.1
  have hS3 := hR.2.2.2.1
  have hnp := hI.2.2.1
  refine e_aload_n 0 dX0_howManyCarriedBy_0 rfl rfl ?_
  refine e_iload_n 1 dX0_howManyCarriedBy_1 rfl rfl ?_
  refine f_callVi (As := [_]) ok_X0_carriedBy ⟨Nat.le_of_ble_eq_true rfl, Nat.le_of_ble_eq_true rfl⟩ dX0_howManyCarriedBy_2 kl_X0_35 ki_X0_carriedBy kv_X0_carriedBy rfl rfl rfl rfl (Nat.le_of_ble_eq_true rfl) (Nat.le_of_ble_eq_true rfl) (Nat.zero_add _) (Nat.zero_add _) (sp_X0_cb hR hI hk) ?_
  refine f_callSi (As := [_]) ok_J6_bitCount_0f7a4 ⟨Nat.le_of_ble_eq_true rfl, Nat.le_of_ble_eq_true rfl⟩ dX0_howManyCarriedBy_5 kl_X0_38 ks_J6_bitCount_0f7a4 rfl rfl (Nat.le_of_ble_eq_true rfl) (Nat.le_of_ble_eq_true rfl) (Nat.zero_add _) (Nat.zero_add _) (sp_J6_bitCount (Nat.lt_of_lt_of_le (cbN_lt _ _ _) (Nat.pow_le_pow_right (by omega) hns))) ?_
  refine e_iret dX0_howManyCarriedBy_8 rfl ?_
  exact is_i (by rw [popc_cb _ _ _ hns]) rfl

set_option maxRecDepth 4000 in
theorem lp_X0_weightWithStones {G : sh_G} {S : Nat → Int32} {A : Nat → Nat → Int32} {Lg : Nat → Int64} {P : Nat → Option Nat} {T : List sh_C} {k ns : Nat} (hS : S 4 = nI ns) (hn : ns ≤ 4) (hk : k < 4) : ∀ (m s : Nat), ns - s < m → s ≤ ns → Ev G mX0_weightWithStones 0 0 (mkW G S A Lg P T) 9 [some (.ref 5), some (.int (nI k)), some (.int (sh_wt (A 0 k) (A 3) (A 2) (-20 - nI k) s)), some (.int (nI s))] [] (sh_is (some (.int (sh_wt (A 0 k) (A 3) (A 2) (-20 - nI k) ns))) (mkW G S A Lg P T)) := by
  intro m
  induction m with
  | zero => intro s h; omega
  | succ m ih =>
    intro s hm hs
    refine e_iload_n 3 dX0_weightWithStones_9 rfl rfl ?_
    refine e_aload_n 0 dX0_weightWithStones_10 rfl rfl ?_
    refine e_getfield 1 dX0_weightWithStones_11 kf_X0_28_0 rfl rfl ?_
    refine e_icmp_ge (tgt := 45) dX0_weightWithStones_14 rfl (fun h14 => ?_) (fun h14 => ?_)
    · have e : s = ns := by rw [hS, nI_leI (by omega) (by omega)] at h14; omega
      subst e
      refine e_iload_n 2 dX0_weightWithStones_45 rfl rfl ?_
      exact e_iret dX0_weightWithStones_46 rfl ⟨rfl, rfl⟩
    · have hlt : s < ns := by rw [hS, nI_leI (by omega) (by omega)] at h14; omega
      refine e_aload_n 0 dX0_weightWithStones_17 rfl rfl ?_
      refine e_getfield 5 dX0_weightWithStones_18 kf_X0_21_0 rfl rfl ?_
      refine e_iload_n 3 dX0_weightWithStones_21 rfl rfl ?_
      refine e_iald_n (s) dX0_weightWithStones_22 rfl rfl (by omega) (by decide) ?_
      refine e_iload_n 1 dX0_weightWithStones_23 rfl rfl ?_
      refine f_callSi (As := [_]) ok_X0_placeWith ⟨Nat.le_of_ble_eq_true rfl, Nat.le_of_ble_eq_true rfl⟩ dX0_weightWithStones_24 kl_X0_31 ks_X0_placeWith rfl rfl (Nat.le_of_ble_eq_true rfl) (Nat.le_of_ble_eq_true rfl) (Nat.zero_add _) (Nat.zero_add _) sp_X0_placeWith ?_
      refine e_icmp_ne (tgt := 39) dX0_weightWithStones_27 rfl (fun h27 => ?_) (fun h27 => ?_)
      · refine e_iinc (v := _ + 1) (lv' := [_, _, _, _]) dX0_weightWithStones_39 rfl (Nat.le_of_ble_eq_true rfl) rfl rfl rfl ?_
        refine e_goto (tgt := 9) dX0_weightWithStones_42 rfl ?_
        have := ih (s + 1) (by omega) (by omega)
        first
        | (simpa only [sh_wt, h27, if_true, nI_1] using this)
        | (simpa only [sh_wt, if_neg h27, nI_1, Int32.add_zero] using this)
      · refine e_iload_n 2 dX0_weightWithStones_30 rfl rfl ?_
        refine e_aload_n 0 dX0_weightWithStones_31 rfl rfl ?_
        refine e_getfield 4 dX0_weightWithStones_32 kf_X0_18_0 rfl rfl ?_
        refine e_iload_n 3 dX0_weightWithStones_35 rfl rfl ?_
        refine e_iald_n (s) dX0_weightWithStones_36 rfl rfl (by omega) (by decide) ?_
        refine e_iadd dX0_weightWithStones_37 ?_
        refine e_istore_n (lv' := [_, _, _, _]) 2 dX0_weightWithStones_38 rfl (Nat.le_of_ble_eq_true rfl) rfl rfl ?_
        refine e_iinc (v := _ + 1) (lv' := [_, _, _, _]) dX0_weightWithStones_39 rfl (Nat.le_of_ble_eq_true rfl) rfl rfl rfl ?_
        refine e_goto (tgt := 9) dX0_weightWithStones_42 rfl ?_
        have := ih (s + 1) (by omega) (by omega)
        first
        | (simpa only [sh_wt, h27, if_true, nI_1] using this)
        | (simpa only [sh_wt, if_neg h27, nI_1, Int32.add_zero] using this)

set_option maxRecDepth 4000 in
theorem sp_X0_weightWithStones {G : sh_G} {S : Nat → Int32} {A : Nat → Nat → Int32} {Lg : Nat → Int64} {P : Nat → Option Nat} {T : List sh_C} {b : sh_be} {k : Nat} (hR : RX S A Lg P T b) (hI : IV b) (hk : k < bn b 2) : Ev G mX0_weightWithStones 0 0 (mkW G S A Lg P T) 0 [some (.ref 5), some (.int (nI k)), none, none] [] (sh_is (some (.int (nI (wN b k)))) (mkW G S A Lg P T)) := by
  have hS := hR.2.2.2.2.1
  have hns := hI.2.2.2.1
  have hS3 := hR.2.2.2.1
  have hnp := hI.2.2.1
  refine e_aload_n 0 dX0_weightWithStones_0 rfl rfl ?_
  refine e_getfield 2 dX0_weightWithStones_1 kf_X0_9_0 rfl rfl ?_
  refine e_iload_n 1 dX0_weightWithStones_4 rfl rfl ?_
  refine e_iald_n (k) dX0_weightWithStones_5 rfl rfl (by omega) (by decide) ?_
  refine e_istore_n (lv' := [_, _, _, _]) 2 dX0_weightWithStones_6 rfl (Nat.le_of_ble_eq_true rfl) rfl rfl ?_
  refine e_iconst (v := 0) dX0_weightWithStones_7 rfl ?_
  refine e_istore_n (lv' := [_, _, _, _]) 3 dX0_weightWithStones_8 rfl (Nat.le_of_ble_eq_true rfl) rfl rfl ?_
  rw [wN, ← wt_x hR hI hk _ (Nat.le_refl _)]
  exact lp_X0_weightWithStones hS hns (by omega) (bn b 3 + 1) 0 (by omega) (by omega)

set_option maxRecDepth 4000 in
theorem sp_X0_leave {G : sh_G} {S : Nat → Int32} {A : Nat → Nat → Int32} {Lg : Nat → Int64} {P : Nat → Option Nat} {T : List sh_C}   : Ev G mX0_leave 0 0 (mkW G S A Lg P T) 0 [some (.ref 5)] [] (sh_is none (mkW G (va_up (va_up S 3 0) 4 0) A Lg P T)) := by
  refine e_aload_n 0 dX0_leave_0 rfl rfl ?_
  refine e_iconst (v := 0) dX0_leave_1 rfl ?_
  refine e_putfield 0 dX0_leave_2 kp_X0_leave_24_0 (sh_fit_i _) rfl (Nat.le_of_ble_eq_true rfl) ?_
  refine e_aload_n 0 dX0_leave_5 rfl rfl ?_
  refine e_iconst (v := 0) dX0_leave_6 rfl ?_
  refine e_putfield 1 dX0_leave_7 kp_X0_leave_28_0 (sh_fit_i _) rfl (Nat.le_of_ble_eq_true rfl) ?_
  exact e_vret dX0_leave_10 rfl ⟨rfl, rfl⟩

set_option maxRecDepth 4000 in
theorem sp_X0_addPerson {G : sh_G} {S : Nat → Int32} {A : Nat → Nat → Int32} {Lg : Nat → Int64} {P : Nat → Option Nat} {T : List sh_C} {w r : Int32} {n : Nat} (hS : S 3 = nI n) (hn : n < 4) : Ev G mX0_addPerson 0 0 (mkW G S A Lg P T) 0 [some (.ref 5), some (.int w), some (.int r)] [] (sh_is (some (.int (nI n))) (mkW G (va_up S 3 (nI (n + 1))) (va_up (va_up A 0 (upd (A 0) n w)) 1 (upd (A 1) n r)) Lg P T)) := by
  refine e_aload_n 0 dX0_addPerson_0 rfl rfl ?_
  refine e_getfield 2 dX0_addPerson_1 kf_X0_9_0 rfl rfl ?_
  refine e_aload_n 0 dX0_addPerson_4 rfl rfl ?_
  refine e_getfield 0 dX0_addPerson_5 kf_X0_24_0 rfl rfl ?_
  refine e_iload_n 1 dX0_addPerson_8 rfl rfl ?_
  refine e_iast_n (n) dX0_addPerson_9 rfl hS (by omega) (by decide) ?_
  refine e_w (w' := mkW G S (va_up A 0 (upd (A 0) n w)) Lg P T) rfl ?_
  refine e_aload_n 0 dX0_addPerson_10 rfl rfl ?_
  refine e_getfield 3 dX0_addPerson_11 kf_X0_15_0 rfl rfl ?_
  refine e_aload_n 0 dX0_addPerson_14 rfl rfl ?_
  refine e_getfield 0 dX0_addPerson_15 kf_X0_24_0 rfl rfl ?_
  refine e_iload_n 2 dX0_addPerson_18 rfl rfl ?_
  refine e_iast_n (n) dX0_addPerson_19 rfl hS (by omega) (by decide) ?_
  refine e_w (w' := mkW G S (va_up (va_up A 0 (upd (A 0) n w)) 1 (upd (A 1) n r)) Lg P T) rfl ?_
  refine e_aload_n 0 dX0_addPerson_20 rfl rfl ?_
  refine e_dup dX0_addPerson_21 rfl ?_
  refine e_getfield 0 dX0_addPerson_22 kf_X0_24_0 rfl rfl ?_
  refine e_dup_x1 dX0_addPerson_25 rfl rfl ?_
  refine e_iconst (v := 1) dX0_addPerson_26 rfl ?_
  refine e_iadd dX0_addPerson_27 ?_
  refine e_putfield 0 dX0_addPerson_28 kp_X0_addPerson_24_0 (sh_fit_i _) rfl (Nat.le_of_ble_eq_true rfl) ?_
  refine e_iret dX0_addPerson_31 rfl ?_
  exact is_i hS (by rw [hS, nI_1]; rfl)

set_option maxRecDepth 4000 in
theorem sp_X0_addStone {G : sh_G} {S : Nat → Int32} {A : Nat → Nat → Int32} {Lg : Nat → Int64} {P : Nat → Option Nat} {T : List sh_C} {w r : Int32} {n : Nat} (hS : S 4 = nI n) (hn : n < 4) : Ev G mX0_addStone 0 0 (mkW G S A Lg P T) 0 [some (.ref 5), some (.int w), some (.int r)] [] (sh_is (some (.int (nI n))) (mkW G (va_up S 4 (nI (n + 1))) (va_up (va_up A 2 (upd (A 2) n w)) 3 (upd (A 3) n r)) Lg P T)) := by
  refine e_aload_n 0 dX0_addStone_0 rfl rfl ?_
  refine e_getfield 4 dX0_addStone_1 kf_X0_18_0 rfl rfl ?_
  refine e_aload_n 0 dX0_addStone_4 rfl rfl ?_
  refine e_getfield 1 dX0_addStone_5 kf_X0_28_0 rfl rfl ?_
  refine e_iload_n 1 dX0_addStone_8 rfl rfl ?_
  refine e_iast_n (n) dX0_addStone_9 rfl hS (by omega) (by decide) ?_
  refine e_w (w' := mkW G S (va_up A 2 (upd (A 2) n w)) Lg P T) rfl ?_
  refine e_aload_n 0 dX0_addStone_10 rfl rfl ?_
  refine e_getfield 5 dX0_addStone_11 kf_X0_21_0 rfl rfl ?_
  refine e_aload_n 0 dX0_addStone_14 rfl rfl ?_
  refine e_getfield 1 dX0_addStone_15 kf_X0_28_0 rfl rfl ?_
  refine e_iload_n 2 dX0_addStone_18 rfl rfl ?_
  refine e_iast_n (n) dX0_addStone_19 rfl hS (by omega) (by decide) ?_
  refine e_w (w' := mkW G S (va_up (va_up A 2 (upd (A 2) n w)) 3 (upd (A 3) n r)) Lg P T) rfl ?_
  refine e_aload_n 0 dX0_addStone_20 rfl rfl ?_
  refine e_dup dX0_addStone_21 rfl ?_
  refine e_getfield 1 dX0_addStone_22 kf_X0_28_0 rfl rfl ?_
  refine e_dup_x1 dX0_addStone_25 rfl rfl ?_
  refine e_iconst (v := 1) dX0_addStone_26 rfl ?_
  refine e_iadd dX0_addStone_27 ?_
  refine e_putfield 1 dX0_addStone_28 kp_X0_addStone_28_0 (sh_fit_i _) rfl (Nat.le_of_ble_eq_true rfl) ?_
  refine e_iret dX0_addStone_31 rfl ?_
  exact is_i hS (by rw [hS, nI_1]; rfl)

set_option maxRecDepth 4000 in
theorem sp_X0_isParty {G : sh_G} {S : Nat → Int32} {A : Nat → Nat → Int32} {Lg : Nat → Int64} {P : Nat → Option Nat} {T : List sh_C} {pa : Int32}  : Ev G mX0_isParty 0 0 (mkW G S A Lg P T) 0 [some (.ref 5), some (.int pa)] [] (sh_is (some (.int (bi (¬ pa = 0 ∧ usr pa (S 3) = 0)))) (mkW G S A Lg P T)) := by
  refine e_iload_n 1 dX0_isParty_0 rfl rfl ?_
  refine e_if_eq (tgt := 17) dX0_isParty_1 rfl (fun h1 => ?_) (fun h1 => ?_)
  · refine e_iconst (v := 0) dX0_isParty_17 rfl ?_
    refine e_zret dX0_isParty_18 rfl rfl ?_
    refine is_i ?_ rfl
    first
    | (rw [bi_t ⟨h1, h10⟩]; done)
    | (rw [bi_f (fun h => h10 h.2)]; done)
    | (rw [bi_f (fun h => h.1 h1)]; done)
  · refine e_iload_n 1 dX0_isParty_4 rfl rfl ?_
    refine e_aload_n 0 dX0_isParty_5 rfl rfl ?_
    refine e_getfield 0 dX0_isParty_6 kf_X0_24_0 rfl rfl ?_
    refine e_iushr dX0_isParty_9 ?_
    refine e_if_ne (tgt := 17) dX0_isParty_10 rfl (fun h10 => ?_) (fun h10 => ?_)
    · refine e_iconst (v := 0) dX0_isParty_17 rfl ?_
      refine e_zret dX0_isParty_18 rfl rfl ?_
      refine is_i ?_ rfl
      first
      | (rw [bi_t ⟨h1, h10⟩]; done)
      | (rw [bi_f (fun h => h10 h.2)]; done)
      | (rw [bi_f (fun h => h.1 h1)]; done)
    · refine e_iconst (v := 1) dX0_isParty_13 rfl ?_
      refine e_goto (tgt := 18) dX0_isParty_14 rfl ?_
      refine e_zret dX0_isParty_18 rfl rfl ?_
      refine is_i ?_ rfl
      first
      | (rw [bi_t ⟨h1, h10⟩]; done)
      | (rw [bi_f (fun h => h10 h.2)]; done)
      | (rw [bi_f (fun h => h.1 h1)]; done)

set_option maxRecDepth 4000 in
theorem lp_X0_roomOfParty {G : sh_G} {S : Nat → Int32} {A : Nat → Nat → Int32} {Lg : Nat → Int64} {P : Nat → Option Nat} {T : List sh_C} {np pt : Nat} {pr : Nat → Nat} (hS : S 3 = nI np) (hn : np ≤ 4) (hA : ∀ k, k < np → A 1 k = nI (pr k) ∧ pr k < 6) : ∀ (m k : Nat) (o : Option Nat), np - k < m → k ≤ np → rpN pr pt k = some o → Ev G mX0_roomOfParty 0 0 (mkW G S A Lg P T) 4 [some (.ref 5), some (.int (nI pt)), some (.int (oI o)), some (.int (nI k))] [] (sh_is (some (.int (oI (rpN pr pt np).join))) (mkW G S A Lg P T)) := by
  intro m
  induction m with
  | zero => intro k o h; omega
  | succ m ih =>
    intro k o hm hk ho
    refine e_iload_n 3 dX0_roomOfParty_4 rfl rfl ?_
    refine e_aload_n 0 dX0_roomOfParty_5 rfl rfl ?_
    refine e_getfield 0 dX0_roomOfParty_6 kf_X0_24_0 rfl rfl ?_
    refine e_icmp_ge (tgt := 50) dX0_roomOfParty_9 rfl (fun h9 => ?_) (fun h9 => ?_)
    · have e : k = np := by rw [hS, nI_leI (by omega) (by omega)] at h9; omega
      subst e
      refine e_iload_n 2 dX0_roomOfParty_50 rfl rfl ?_
      refine e_iret dX0_roomOfParty_51 rfl ?_
      exact is_i (by rw [ho]; rfl) rfl
    · have hlt : k < np := by rw [hS, nI_leI (by omega) (by omega)] at h9; omega
      obtain ⟨hA1, hA2⟩ := hA k hlt
      refine e_iload_n 1 dX0_roomOfParty_12 rfl rfl ?_
      refine e_iconst (v := 1) dX0_roomOfParty_13 rfl ?_
      refine e_iload_n 3 dX0_roomOfParty_14 rfl rfl ?_
      refine e_ishl dX0_roomOfParty_15 ?_
      refine e_iand dX0_roomOfParty_16 ?_
      refine e_if_eq (tgt := 44) dX0_roomOfParty_17 rfl (fun h17 => ?_) (fun h17 => ?_)
      · refine e_iinc (v := _ + 1) (lv' := [_, _, _, _]) dX0_roomOfParty_44 rfl (Nat.le_of_ble_eq_true rfl) rfl rfl rfl ?_
        refine e_goto (tgt := 4) dX0_roomOfParty_47 rfl ?_
        first
        | (rw [bitc (by omega)] at h17; have := ih (k + 1) o (by omega) (by omega) (by simp only [rpN, ho, if_neg h17]); simpa only [nI_1] using this)
        | (have h1 : rpN pr pt (k + 1) = some (some (pr k)) := by
             rcases o with _ | r
             · simp only [rpN, ho, h17, if_true]
             · have h32 : r = pr k := by
                 first
                 | (exact absurd h22 (nI_m1 (by have := rpr hA ho (by omega); omega)))
                 | (rw [hA1] at h32; exact (nI_eq (by have := rpr hA ho (by omega); omega) (by omega)).mp h32)
               simp only [rpN, ho, h17, if_true, h32]
           have := ih (k + 1) (some (pr k)) (by omega) (by omega) h1
           rw [hA1, nI_1]
           exact this)
      · rw [bitc (by omega), Classical.not_not] at h17
        refine e_iload_n 2 dX0_roomOfParty_20 rfl rfl ?_
        refine e_iconst (v := -1) dX0_roomOfParty_21 rfl ?_
        refine e_icmp_eq (tgt := 37) dX0_roomOfParty_22 rfl (fun h22 => ?_) (fun h22 => ?_)
        · refine e_aload_n 0 dX0_roomOfParty_37 rfl rfl ?_
          refine e_getfield 3 dX0_roomOfParty_38 kf_X0_15_0 rfl rfl ?_
          refine e_iload_n 3 dX0_roomOfParty_41 rfl rfl ?_
          refine e_iald_n (k) dX0_roomOfParty_42 rfl rfl (by omega) (by decide) ?_
          refine e_istore_n (lv' := [_, _, _, _]) 2 dX0_roomOfParty_43 rfl (Nat.le_of_ble_eq_true rfl) rfl rfl ?_
          refine e_iinc (v := _ + 1) (lv' := [_, _, _, _]) dX0_roomOfParty_44 rfl (Nat.le_of_ble_eq_true rfl) rfl rfl rfl ?_
          refine e_goto (tgt := 4) dX0_roomOfParty_47 rfl ?_
          first
          | (rw [bitc (by omega)] at h17; have := ih (k + 1) o (by omega) (by omega) (by simp only [rpN, ho, if_neg h17]); simpa only [nI_1] using this)
          | (have h1 : rpN pr pt (k + 1) = some (some (pr k)) := by
               rcases o with _ | r
               · simp only [rpN, ho, h17, if_true]
               · have h32 : r = pr k := by
                   first
                   | (exact absurd h22 (nI_m1 (by have := rpr hA ho (by omega); omega)))
                   | (rw [hA1] at h32; exact (nI_eq (by have := rpr hA ho (by omega); omega) (by omega)).mp h32)
                 simp only [rpN, ho, h17, if_true, h32]
             have := ih (k + 1) (some (pr k)) (by omega) (by omega) h1
             rw [hA1, nI_1]
             exact this)
        · refine e_iload_n 2 dX0_roomOfParty_25 rfl rfl ?_
          refine e_aload_n 0 dX0_roomOfParty_26 rfl rfl ?_
          refine e_getfield 3 dX0_roomOfParty_27 kf_X0_15_0 rfl rfl ?_
          refine e_iload_n 3 dX0_roomOfParty_30 rfl rfl ?_
          refine e_iald_n (k) dX0_roomOfParty_31 rfl rfl (by omega) (by decide) ?_
          refine e_icmp_eq (tgt := 37) dX0_roomOfParty_32 rfl (fun h32 => ?_) (fun h32 => ?_)
          · refine e_aload_n 0 dX0_roomOfParty_37 rfl rfl ?_
            refine e_getfield 3 dX0_roomOfParty_38 kf_X0_15_0 rfl rfl ?_
            refine e_iload_n 3 dX0_roomOfParty_41 rfl rfl ?_
            refine e_iald_n (k) dX0_roomOfParty_42 rfl rfl (by omega) (by decide) ?_
            refine e_istore_n (lv' := [_, _, _, _]) 2 dX0_roomOfParty_43 rfl (Nat.le_of_ble_eq_true rfl) rfl rfl ?_
            refine e_iinc (v := _ + 1) (lv' := [_, _, _, _]) dX0_roomOfParty_44 rfl (Nat.le_of_ble_eq_true rfl) rfl rfl rfl ?_
            refine e_goto (tgt := 4) dX0_roomOfParty_47 rfl ?_
            first
            | (rw [bitc (by omega)] at h17; have := ih (k + 1) o (by omega) (by omega) (by simp only [rpN, ho, if_neg h17]); simpa only [nI_1] using this)
            | (have h1 : rpN pr pt (k + 1) = some (some (pr k)) := by
                 rcases o with _ | r
                 · simp only [rpN, ho, h17, if_true]
                 · have h32 : r = pr k := by
                     first
                     | (exact absurd h22 (nI_m1 (by have := rpr hA ho (by omega); omega)))
                     | (rw [hA1] at h32; exact (nI_eq (by have := rpr hA ho (by omega); omega) (by omega)).mp h32)
                   simp only [rpN, ho, h17, if_true, h32]
               have := ih (k + 1) (some (pr k)) (by omega) (by omega) h1
               rw [hA1, nI_1]
               exact this)
          · refine e_iconst (v := -1) dX0_roomOfParty_35 rfl ?_
            refine e_iret dX0_roomOfParty_36 rfl ?_
            have hc : rpN pr pt (k + 1) = none := by
              rcases o with _ | r
              · exact absurd rfl h22
              · have h32 : ¬ r = pr k := fun e => h32 (by rw [hA1, e]; rfl)
                simp only [rpN, ho, h17, if_true, if_neg h32]
            exact is_i (by rw [rpN_none hc np (by omega)]; rfl) rfl

set_option maxRecDepth 4000 in
theorem sp_X0_roomOfParty {G : sh_G} {S : Nat → Int32} {A : Nat → Nat → Int32} {Lg : Nat → Int64} {P : Nat → Option Nat} {T : List sh_C} {b : sh_be} {pt : Nat} (hR : RX S A Lg P T b) (hI : IV b) : Ev G mX0_roomOfParty 0 0 (mkW G S A Lg P T) 0 [some (.ref 5), some (.int (nI pt)), none, none] [] (sh_is (some (.int (oI (roomN b pt)))) (mkW G S A Lg P T)) := by
  have hS := hR.2.2.2.2.1
  have hns := hI.2.2.2.1
  have hS3 := hR.2.2.2.1
  have hnp := hI.2.2.1
  refine e_iconst (v := -1) dX0_roomOfParty_0 rfl ?_
  refine e_istore_n (lv' := [_, _, _, _]) 2 dX0_roomOfParty_1 rfl (Nat.le_of_ble_eq_true rfl) rfl rfl ?_
  refine e_iconst (v := 0) dX0_roomOfParty_2 rfl ?_
  refine e_istore_n (lv' := [_, _, _, _]) 3 dX0_roomOfParty_3 rfl (Nat.le_of_ble_eq_true rfl) rfl rfl ?_
  exact lp_X0_roomOfParty hS3 hnp (fun k hk => ⟨(hR.2.2.2.2.2.2.2.2.1 k hk).2, by have := (hI.2.2.2.2.2.1 k hk).2.2; have := hI.1; omega⟩) (bn b 2 + 1) 0 none (by omega) (by omega) rfl

set_option maxRecDepth 4000 in
theorem lp_X0_weightOfParty {G : sh_G} {S : Nat → Int32} {A : Nat → Nat → Int32} {Lg : Nat → Int64} {P : Nat → Option Nat} {T : List sh_C} {b : sh_be} {pt : Nat} (hR : RX S A Lg P T b) (hI : IV b) : ∀ (m k : Nat), bn b 2 - k < m → k ≤ bn b 2 → Ev G mX0_weightOfParty 0 0 (mkW G S A Lg P T) 4 [some (.ref 5), some (.int (nI pt)), some (.int (nI (wpN b pt k))), some (.int (nI k))] [] (sh_is (some (.int (nI (wpN b pt (bn b 2))))) (mkW G S A Lg P T)) := by
  have hS := hR.2.2.2.2.1
  have hns := hI.2.2.2.1
  have hS3 := hR.2.2.2.1
  have hnp := hI.2.2.1
  intro m
  induction m with
  | zero => intro k h; omega
  | succ m ih =>
    intro k hm hk
    refine e_iload_n 3 dX0_weightOfParty_4 rfl rfl ?_
    refine e_aload_n 0 dX0_weightOfParty_5 rfl rfl ?_
    refine e_getfield 0 dX0_weightOfParty_6 kf_X0_24_0 rfl rfl ?_
    refine e_icmp_ge (tgt := 34) dX0_weightOfParty_9 rfl (fun h9 => ?_) (fun h9 => ?_)
    · have e : k = bn b 2 := by rw [hS3, nI_leI (by omega) (by omega)] at h9; omega
      rw [e]
      refine e_iload_n 2 dX0_weightOfParty_34 rfl rfl ?_
      exact e_iret dX0_weightOfParty_35 rfl ⟨rfl, rfl⟩
    · have hlt : k < bn b 2 := by rw [hS3, nI_leI (by omega) (by omega)] at h9; omega
      refine e_iload_n 1 dX0_weightOfParty_12 rfl rfl ?_
      refine e_iconst (v := 1) dX0_weightOfParty_13 rfl ?_
      refine e_iload_n 3 dX0_weightOfParty_14 rfl rfl ?_
      refine e_ishl dX0_weightOfParty_15 ?_
      refine e_iand dX0_weightOfParty_16 ?_
      refine e_if_eq (tgt := 28) dX0_weightOfParty_17 rfl (fun h17 => ?_) (fun h17 => ?_)
      · refine e_iinc (v := _ + 1) (lv' := [_, _, _, _]) dX0_weightOfParty_28 rfl (Nat.le_of_ble_eq_true rfl) rfl rfl rfl ?_
        refine e_goto (tgt := 4) dX0_weightOfParty_31 rfl ?_
        have := ih (k + 1) (by omega) (by omega)
        first
        | (rw [bitc (by omega)] at h17; simpa only [wpN, if_neg h17, nI_1, Nat.add_zero] using this)
        | (simpa only [wpN, h17, if_true, nI_1, nI_add] using this)
      · rw [bitc (by omega), Classical.not_not] at h17
        refine e_iload_n 2 dX0_weightOfParty_20 rfl rfl ?_
        refine e_aload_n 0 dX0_weightOfParty_21 rfl rfl ?_
        refine e_iload_n 3 dX0_weightOfParty_22 rfl rfl ?_
        refine f_callVi (As := [_]) ok_X0_weightWithStones ⟨Nat.le_of_ble_eq_true rfl, Nat.le_of_ble_eq_true rfl⟩ dX0_weightOfParty_23 kl_X0_43 ki_X0_weightWithStones kv_X0_weightWithStones rfl rfl rfl rfl (Nat.le_of_ble_eq_true rfl) (Nat.le_of_ble_eq_true rfl) (Nat.zero_add _) (Nat.zero_add _) (sp_X0_weightWithStones hR hI hlt) ?_
        refine e_iadd dX0_weightOfParty_26 ?_
        refine e_istore_n (lv' := [_, _, _, _]) 2 dX0_weightOfParty_27 rfl (Nat.le_of_ble_eq_true rfl) rfl rfl ?_
        refine e_iinc (v := _ + 1) (lv' := [_, _, _, _]) dX0_weightOfParty_28 rfl (Nat.le_of_ble_eq_true rfl) rfl rfl rfl ?_
        refine e_goto (tgt := 4) dX0_weightOfParty_31 rfl ?_
        have := ih (k + 1) (by omega) (by omega)
        first
        | (rw [bitc (by omega)] at h17; simpa only [wpN, if_neg h17, nI_1, Nat.add_zero] using this)
        | (simpa only [wpN, h17, if_true, nI_1, nI_add] using this)

set_option maxRecDepth 4000 in
theorem sp_X0_weightOfParty {G : sh_G} {S : Nat → Int32} {A : Nat → Nat → Int32} {Lg : Nat → Int64} {P : Nat → Option Nat} {T : List sh_C} {b : sh_be} {pt : Nat} (hR : RX S A Lg P T b) (hI : IV b) : Ev G mX0_weightOfParty 0 0 (mkW G S A Lg P T) 0 [some (.ref 5), some (.int (nI pt)), none, none] [] (sh_is (some (.int (nI (wpN b pt (bn b 2))))) (mkW G S A Lg P T)) := by
  refine e_iconst (v := 0) dX0_weightOfParty_0 rfl ?_
  refine e_istore_n (lv' := [_, _, _, _]) 2 dX0_weightOfParty_1 rfl (Nat.le_of_ble_eq_true rfl) rfl rfl ?_
  refine e_iconst (v := 0) dX0_weightOfParty_2 rfl ?_
  refine e_istore_n (lv' := [_, _, _, _]) 3 dX0_weightOfParty_3 rfl (Nat.le_of_ble_eq_true rfl) rfl rfl ?_
  exact lp_X0_weightOfParty hR hI (bn b 2 + 1) 0 (by omega) (by omega)

set_option maxRecDepth 4000 in
theorem lp_X0_moveParty {G : sh_G} {S : Nat → Int32} {A : Nat → Nat → Int32} {Lg : Nat → Int64} {P : Nat → Option Nat} {T : List sh_C} {pr : Nat → Nat} {np pt r : Nat} (hS : S 3 = nI np) (hn : np ≤ 4) : ∀ (m k : Nat) (f : Nat → Int32), np - k < m → k ≤ np → (∀ i, i < np → f i = nI (mvN pr pt r k i)) → Ev G mX0_moveParty 0 0 (mkW G S (va_up A 1 f) Lg P T) 2 [some (.ref 5), some (.int (nI pt)), some (.int (nI r)), some (.int (nI k))] [] (fun v w => v = none ∧ ∃ g, (∀ i, i < np → g i = nI (mvN pr pt r np i)) ∧ w = mkW G S (va_up A 1 g) Lg P T) := by
  intro m
  induction m with
  | zero => intro k f h; omega
  | succ m ih =>
    intro k f hm hk hf
    refine e_iload_n 3 dX0_moveParty_2 rfl rfl ?_
    refine e_aload_n 0 dX0_moveParty_3 rfl rfl ?_
    refine e_getfield 0 dX0_moveParty_4 kf_X0_24_0 rfl rfl ?_
    refine e_icmp_ge (tgt := 31) dX0_moveParty_7 rfl (fun h7 => ?_) (fun h7 => ?_)
    · have e : k = np := by rw [hS, nI_leI (by omega) (by omega)] at h7; omega
      subst e
      refine e_vret dX0_moveParty_31 rfl ?_
      exact ⟨rfl, f, hf, rfl⟩
    · have hlt : k < np := by rw [hS, nI_leI (by omega) (by omega)] at h7; omega
      refine e_iload_n 1 dX0_moveParty_10 rfl rfl ?_
      refine e_iconst (v := 1) dX0_moveParty_11 rfl ?_
      refine e_iload_n 3 dX0_moveParty_12 rfl rfl ?_
      refine e_ishl dX0_moveParty_13 ?_
      refine e_iand dX0_moveParty_14 ?_
      refine e_if_eq (tgt := 25) dX0_moveParty_15 rfl (fun h15 => ?_) (fun h15 => ?_)
      · try refine e_w (w' := mkW G S (va_up (va_up A 1 f) 1 (upd f k (nI r))) Lg P T) rfl ?_
        refine e_iinc (v := _ + 1) (lv' := [_, _, _, _]) dX0_moveParty_25 rfl (Nat.le_of_ble_eq_true rfl) rfl rfl rfl ?_
        refine e_goto (tgt := 2) dX0_moveParty_28 rfl ?_
        rw [nI_1]
        first
        | (rw [bitc (by omega)] at h15; exact ih (k + 1) f (by omega) (by omega) (fun i hi => by simp only [mvN, if_neg h15]; exact hf i hi))
        | (rw [bx_uu]; exact ih (k + 1) (upd f k (nI r)) (by omega) (by omega) (fun i hi => by
             simp only [mvN, h15, if_true]
             unfold upd va_up
             by_cases e : i = k
             · rw [if_pos e, if_pos e]
             · rw [if_neg e, if_neg e]; exact hf i hi))
      · rw [bitc (by omega), Classical.not_not] at h15
        refine e_aload_n 0 dX0_moveParty_18 rfl rfl ?_
        refine e_getfield 3 dX0_moveParty_19 kf_X0_15_0 rfl rfl ?_
        refine e_iload_n 3 dX0_moveParty_22 rfl rfl ?_
        refine e_iload_n 2 dX0_moveParty_23 rfl rfl ?_
        refine e_iast_n (k) dX0_moveParty_24 rfl rfl (by omega) (by decide) ?_
        try refine e_w (w' := mkW G S (va_up (va_up A 1 f) 1 (upd f k (nI r))) Lg P T) rfl ?_
        refine e_iinc (v := _ + 1) (lv' := [_, _, _, _]) dX0_moveParty_25 rfl (Nat.le_of_ble_eq_true rfl) rfl rfl rfl ?_
        refine e_goto (tgt := 2) dX0_moveParty_28 rfl ?_
        rw [nI_1]
        first
        | (rw [bitc (by omega)] at h15; exact ih (k + 1) f (by omega) (by omega) (fun i hi => by simp only [mvN, if_neg h15]; exact hf i hi))
        | (rw [bx_uu]; exact ih (k + 1) (upd f k (nI r)) (by omega) (by omega) (fun i hi => by
             simp only [mvN, h15, if_true]
             unfold upd va_up
             by_cases e : i = k
             · rw [if_pos e, if_pos e]
             · rw [if_neg e, if_neg e]; exact hf i hi))

set_option maxRecDepth 4000 in
theorem sp_X0_moveParty {G : sh_G} {S : Nat → Int32} {A : Nat → Nat → Int32} {Lg : Nat → Int64} {P : Nat → Option Nat} {T : List sh_C} {b : sh_be} {pt r : Nat} (hR : RX S A Lg P T b) (hI : IV b) : Ev G mX0_moveParty 0 0 (mkW G S A Lg P T) 0 [some (.ref 5), some (.int (nI pt)), some (.int (nI r)), none] [] (fun v w => v = none ∧ ∃ g, (∀ i, i < bn b 2 → g i = nI (mvN (ba b 5) pt r (bn b 2) i)) ∧ w = mkW G S (va_up A 1 g) Lg P T) := by
  have hS := hR.2.2.2.2.1
  have hns := hI.2.2.2.1
  have hS3 := hR.2.2.2.1
  have hnp := hI.2.2.1
  refine e_iconst (v := 0) dX0_moveParty_0 rfl ?_
  refine e_istore_n (lv' := [_, _, _, _]) 3 dX0_moveParty_1 rfl (Nat.le_of_ble_eq_true rfl) rfl rfl ?_
  have h := lp_X0_moveParty (G := G) (S := S) (A := A) (Lg := Lg) (P := P) (T := T) (pr := ba b 5) (pt := pt) (r := r) hS3 hnp (bn b 2 + 1) 0 (A 1) (by omega) (by omega) (fun i hi => (hR.2.2.2.2.2.2.2.2.1 i hi).2)
  rw [up_self] at h
  exact h
