set_option maxRecDepth 4000 in
theorem lp_X3_renew {G : sh_G} {S : Nat → Int32} {A : Nat → Nat → Int32} {Lg : Nat → Int64} {P : Nat → Option Nat} {T : List sh_C} {k : Nat} {l n : Int32} (hk : k < 4) : ∀ (m j : Nat), 60 - j < m → j ≤ 60 → Ev G mX3_renew 0 0 (mkW G S (va_up A (7 + k) (zf (A (7 + k)) j)) Lg P T) 12 [some (.ref (16 + 2 * k)), some (.int l), some (.int n), some (.int (nI j))] [] (sh_is none (mkW G S (va_up A (7 + k) (zf (A (7 + k)) 60)) Lg P T)) := by
  intro m
  induction m with
  | zero => intro j h; omega
  | succ m ih =>
    intro j hm hj
    refine e_iload_n 3 dX3_renew_12 rfl rfl ?_
    refine e_bipush (v := 60) dX3_renew_13 (by decide) ?_
    refine e_icmp_ge (tgt := 31) dX3_renew_15 rfl (fun h15 => ?_) (fun h15 => ?_)
    · have e : j = 60 := by rw [show (60 : Int32) = nI 60 from rfl, nI_leI (by omega) (by omega)] at h15; omega
      subst e
      exact e_vret dX3_renew_31 rfl ⟨rfl, rfl⟩
    · have hlt : j < 60 := by rw [show (60 : Int32) = nI 60 from rfl, nI_leI (by omega) (by omega)] at h15; omega
      refine e_aload_n 0 dX3_renew_18 rfl rfl ?_
      refine e_getfield 0 dX3_renew_19 kf_X3_9_3 (mkW_sh hk) rfl ?_
      refine e_iload_n 3 dX3_renew_22 rfl rfl ?_
      refine e_iconst (v := 0) dX3_renew_23 rfl ?_
      refine e_iast_n j dX3_renew_24 (mkW_sc hk) rfl (by omega) (by decide) ?_
      refine e_w (mkW_sc_set hk _) ?_
      rw [up_eq, zf_s, bx_uu]
      refine e_iinc (v := _ + 1) (lv' := [_, _, _, _]) dX3_renew_25 rfl (Nat.le_of_ble_eq_true rfl) rfl rfl rfl ?_
      refine e_goto (tgt := 12) dX3_renew_28 rfl ?_
      rw [nI_1]
      exact ih (j + 1) (by omega) (by omega)

set_option maxRecDepth 4000 in
theorem sp_X3_renew {G : sh_G} {S : Nat → Int32} {A : Nat → Nat → Int32} {Lg : Nat → Int64} {P : Nat → Option Nat} {T : List sh_C} {k : Nat} {l n : Int32} (hk : k < 4) : Ev G mX3_renew 0 0 (mkW G S A Lg P T) 0 [some (.ref (16 + 2 * k)), some (.int l), some (.int n), none] [] (sh_is none (mkW G (va_up (va_up S (11 + k) l) (15 + k) n) (va_up A (7 + k) (zf (A (7 + k)) 60)) Lg P T)) := by
  match k, hk with
  | 0, hk =>
    refine e_aload_n 0 dX3_renew_0 rfl rfl ?_
    refine e_iload_n 1 dX3_renew_1 rfl rfl ?_
    refine e_putfield 1 dX3_renew_2 kp_X3_renew_15_3 (sh_fit_i _) rfl (Nat.le_of_ble_eq_true rfl) ?_
    refine e_aload_n 0 dX3_renew_5 rfl rfl ?_
    refine e_iload_n 2 dX3_renew_6 rfl rfl ?_
    refine e_putfield 2 dX3_renew_7 kp_X3_renew_19_3 (sh_fit_i _) rfl (Nat.le_of_ble_eq_true rfl) ?_
    refine e_iconst (v := 0) dX3_renew_10 rfl ?_
    refine e_istore_n (lv' := [_, _, _, _]) 3 dX3_renew_11 rfl (Nat.le_of_ble_eq_true rfl) rfl rfl ?_
    refine e_w (w' := mkW G (va_up (va_up S (11 + 0) l) (15 + 0) n) (va_up A (7 + 0) (zf (A (7 + 0)) 0)) Lg P T) (by rw [zf_0, up_self]; rfl) ?_
    exact lp_X3_renew hk 61 0 (by omega) (by omega)
  | 1, hk =>
    refine e_aload_n 0 dX3_renew_0 rfl rfl ?_
    refine e_iload_n 1 dX3_renew_1 rfl rfl ?_
    refine e_putfield 1 dX3_renew_2 kp_X3_renew_15_3 (sh_fit_i _) rfl (Nat.le_of_ble_eq_true rfl) ?_
    refine e_aload_n 0 dX3_renew_5 rfl rfl ?_
    refine e_iload_n 2 dX3_renew_6 rfl rfl ?_
    refine e_putfield 2 dX3_renew_7 kp_X3_renew_19_3 (sh_fit_i _) rfl (Nat.le_of_ble_eq_true rfl) ?_
    refine e_iconst (v := 0) dX3_renew_10 rfl ?_
    refine e_istore_n (lv' := [_, _, _, _]) 3 dX3_renew_11 rfl (Nat.le_of_ble_eq_true rfl) rfl rfl ?_
    refine e_w (w' := mkW G (va_up (va_up S (11 + 1) l) (15 + 1) n) (va_up A (7 + 1) (zf (A (7 + 1)) 0)) Lg P T) (by rw [zf_0, up_self]; rfl) ?_
    exact lp_X3_renew hk 61 0 (by omega) (by omega)
  | 2, hk =>
    refine e_aload_n 0 dX3_renew_0 rfl rfl ?_
    refine e_iload_n 1 dX3_renew_1 rfl rfl ?_
    refine e_putfield 1 dX3_renew_2 kp_X3_renew_15_3 (sh_fit_i _) rfl (Nat.le_of_ble_eq_true rfl) ?_
    refine e_aload_n 0 dX3_renew_5 rfl rfl ?_
    refine e_iload_n 2 dX3_renew_6 rfl rfl ?_
    refine e_putfield 2 dX3_renew_7 kp_X3_renew_19_3 (sh_fit_i _) rfl (Nat.le_of_ble_eq_true rfl) ?_
    refine e_iconst (v := 0) dX3_renew_10 rfl ?_
    refine e_istore_n (lv' := [_, _, _, _]) 3 dX3_renew_11 rfl (Nat.le_of_ble_eq_true rfl) rfl rfl ?_
    refine e_w (w' := mkW G (va_up (va_up S (11 + 2) l) (15 + 2) n) (va_up A (7 + 2) (zf (A (7 + 2)) 0)) Lg P T) (by rw [zf_0, up_self]; rfl) ?_
    exact lp_X3_renew hk 61 0 (by omega) (by omega)
  | 3, hk =>
    refine e_aload_n 0 dX3_renew_0 rfl rfl ?_
    refine e_iload_n 1 dX3_renew_1 rfl rfl ?_
    refine e_putfield 1 dX3_renew_2 kp_X3_renew_15_3 (sh_fit_i _) rfl (Nat.le_of_ble_eq_true rfl) ?_
    refine e_aload_n 0 dX3_renew_5 rfl rfl ?_
    refine e_iload_n 2 dX3_renew_6 rfl rfl ?_
    refine e_putfield 2 dX3_renew_7 kp_X3_renew_19_3 (sh_fit_i _) rfl (Nat.le_of_ble_eq_true rfl) ?_
    refine e_iconst (v := 0) dX3_renew_10 rfl ?_
    refine e_istore_n (lv' := [_, _, _, _]) 3 dX3_renew_11 rfl (Nat.le_of_ble_eq_true rfl) rfl rfl ?_
    refine e_w (w' := mkW G (va_up (va_up S (11 + 3) l) (15 + 3) n) (va_up A (7 + 3) (zf (A (7 + 3)) 0)) Lg P T) (by rw [zf_0, up_self]; rfl) ?_
    exact lp_X3_renew hk 61 0 (by omega) (by omega)

set_option maxRecDepth 4000 in
theorem sp_X9_cellsRefused {G : sh_G} {S : Nat → Int32} {A : Nat → Nat → Int32} {Lg : Nat → Int64} {P : Nat → Option Nat} {T : List sh_C} {b : sh_be} {k lane i n : Int32} (hR : RX S A Lg P T b) (hI : IV b) : Ev G mX9_cellsRefused 0 0 (mkW G S A Lg P T) 0 [some (.ref 1), some (.int k), some (.int lane), some (.int i), some (.int n)] [] (sh_is (some (.int (oRef b k lane i n))) (mkW G (va_up S 0 (fOf (oRef b k lane i n))) A Lg P T)) := by
  refine e_aload_n 0 dX9_cellsRefused_0 rfl rfl ?_
  refine e_iconst (v := 0) dX9_cellsRefused_1 rfl ?_
  refine e_putfield 5 dX9_cellsRefused_2 kp_X9_cellsRefused_201_9 (sh_fit_i _) rfl (Nat.le_of_ble_eq_true rfl) ?_
  obtain ⟨S1, e0, hR⟩ : ∃ S1, S1 = va_up S 0 0 ∧ RX S1 A Lg P T (uF_ b 0) := ⟨_, rfl, hR.F 0⟩
  refine e_w (w' := mkW G S1 A Lg P T) (by rw [e0]; rfl) ?_
  refine e_iload_n 1 dX9_cellsRefused_5 rfl rfl ?_
  refine f_callSi (As := [_]) ok_X9_isSheet ⟨Nat.le_of_ble_eq_true rfl, Nat.le_of_ble_eq_true rfl⟩ dX9_cellsRefused_6 kl_X9_204 ks_X9_isSheet rfl rfl (Nat.le_of_ble_eq_true rfl) (Nat.le_of_ble_eq_true rfl) (Nat.zero_add _) (Nat.zero_add _) sp_X9_isSheet ?_
  refine e_if_ne (tgt := 14) dX9_cellsRefused_9 rfl (fun h9 => ?_) (fun h9 => ?_)
  · refine e_iload_n 2 dX9_cellsRefused_14 rfl rfl ?_
    refine f_callSi (As := [_]) ok_X9_isLane ⟨Nat.le_of_ble_eq_true rfl, Nat.le_of_ble_eq_true rfl⟩ dX9_cellsRefused_15 kl_X9_207 ks_X9_isLane rfl rfl (Nat.le_of_ble_eq_true rfl) (Nat.le_of_ble_eq_true rfl) (Nat.zero_add _) (Nat.zero_add _) sp_X9_isLane ?_
    refine e_if_ne (tgt := 24) dX9_cellsRefused_18 rfl (fun h18 => ?_) (fun h18 => ?_)
    · obtain ⟨j, hj, rfl⟩ := ix_of (n := 4) rfl (by omega) (bi_1.mp h9)
      have hX := hR.2.2.2.2.2.2.1 j hj
      refine e_aload_n 0 dX9_cellsRefused_24 rfl rfl ?_
      refine e_getfield 0 dX9_cellsRefused_25 kf_X9_13_9 rfl rfl ?_
      refine e_iload_n 1 dX9_cellsRefused_28 rfl rfl ?_
      refine e_aald_n (j) dX9_cellsRefused_29 rfl (Or.inr rfl) rfl (by omega) (by decide) (sh_shs_at hj) ?_
      refine f_callVi (As := []) ok_X3_hasNothing ⟨Nat.le_of_ble_eq_true rfl, Nat.le_of_ble_eq_true rfl⟩ dX9_cellsRefused_30 kl_X9_216 ki_X3_hasNothing kv_X3_hasNothing rfl rfl (mkW_sh hj) rfl (Nat.le_of_ble_eq_true rfl) (Nat.le_of_ble_eq_true rfl) (Nat.zero_add _) (Nat.zero_add _) (sp_X3_hasNothing hj) ?_
      refine e_if_eq (tgt := 42) dX9_cellsRefused_33 rfl (fun h33 => ?_) (fun h33 => ?_)
      · obtain ⟨z, hz⟩ : ∃ z, bz b j = some z := shX_ex hX (bi_0.mp h33)
        obtain ⟨e1, e2, e3⟩ := shX_s hX hz
        refine e_aload_n 0 dX9_cellsRefused_42 rfl rfl ?_
        refine e_getfield 0 dX9_cellsRefused_43 kf_X9_13_9 rfl rfl ?_
        refine e_iload_n 1 dX9_cellsRefused_46 rfl rfl ?_
        refine e_aald_n (j) dX9_cellsRefused_47 rfl (Or.inr rfl) rfl (by omega) (by decide) (sh_shs_at hj) ?_
        refine e_getfield 1 dX9_cellsRefused_48 kf_X9_232_3 (mkW_sh hj) rfl ?_
        refine e_iload_n 2 dX9_cellsRefused_51 rfl rfl ?_
        refine e_icmp_eq (tgt := 61) dX9_cellsRefused_52 rfl (fun h52 => ?_) (fun h52 => ?_)
        · rw [e1] at h52
          refine e_iload dX9_cellsRefused_61 rfl ?_
          refine e_if_ge (tgt := 72) dX9_cellsRefused_63 rfl (fun h63 => ?_) (fun h63 => ?_)
          · refine e_aload_n 0 dX9_cellsRefused_72 rfl rfl ?_
            refine e_getfield 0 dX9_cellsRefused_73 kf_X9_13_9 rfl rfl ?_
            refine e_iload_n 1 dX9_cellsRefused_76 rfl rfl ?_
            refine e_aald_n (j) dX9_cellsRefused_77 rfl (Or.inr rfl) rfl (by omega) (by decide) (sh_shs_at hj) ?_
            refine e_iload_n 3 dX9_cellsRefused_78 rfl rfl ?_
            refine e_iload dX9_cellsRefused_79 rfl ?_
            refine f_callVi (As := [_, _]) ok_X3_has ⟨Nat.le_of_ble_eq_true rfl, Nat.le_of_ble_eq_true rfl⟩ dX9_cellsRefused_81 kl_X9_223 ki_X3_has kv_X3_has rfl rfl (mkW_sh hj) rfl (Nat.le_of_ble_eq_true rfl) (Nat.le_of_ble_eq_true rfl) (Nat.zero_add _) (Nat.zero_add _) (sp_X3_has hj) ?_
            refine e_if_eq (tgt := 91) dX9_cellsRefused_84 rfl (fun h84 => ?_) (fun h84 => ?_)
            · rw [e2] at h84
              refine e_aload_n 0 dX9_cellsRefused_91 rfl rfl ?_
              refine e_iconst (v := 3) dX9_cellsRefused_92 rfl ?_
              refine f_callVi (As := [_]) ok_X9_faulted ⟨Nat.le_of_ble_eq_true rfl, Nat.le_of_ble_eq_true rfl⟩ dX9_cellsRefused_93 kl_X9_210 ki_X9_faulted kv_X9_faulted rfl rfl rfl rfl (Nat.le_of_ble_eq_true rfl) (Nat.le_of_ble_eq_true rfl) (Nat.zero_add _) (Nat.zero_add _) sp_X9_faulted ?_
              refine e_iret dX9_cellsRefused_96 rfl ?_
              have hr : oRef b (nI j) lane i n = -13 := by
                rw [oRef, if_neg (nn_ (bi_1.mp h9)), if_neg (nn_ (bi_1.mp h18)), nI_clamp (by omega), hz]
                simp only []
                rw [if_neg (nn_ h52), if_neg (Int32.not_lt.mpr h63), if_neg (bi_0.mp h84)]
              exact ⟨by rw [hr]; try rfl, by rw [hr, e0]; rw [bx_uu]; rfl⟩
            · rw [e2] at h84
              refine e_iconst (v := 0) dX9_cellsRefused_87 rfl ?_
              refine e_goto (tgt := 96) dX9_cellsRefused_88 rfl ?_
              refine e_iret dX9_cellsRefused_96 rfl ?_
              have hr : oRef b (nI j) lane i n = 0 := by
                rw [oRef, if_neg (nn_ (bi_1.mp h9)), if_neg (nn_ (bi_1.mp h18)), nI_clamp (by omega), hz]
                simp only []
                rw [if_neg (nn_ h52), if_neg (Int32.not_lt.mpr h63), if_pos (bi_1.mp h84)]
              exact ⟨by rw [hr]; try rfl, by rw [hr, e0]; rfl⟩
          · refine e_aload_n 0 dX9_cellsRefused_66 rfl rfl ?_
            refine e_iconst (v := 4) dX9_cellsRefused_67 rfl ?_
            refine f_callVi (As := [_]) ok_X9_faulted ⟨Nat.le_of_ble_eq_true rfl, Nat.le_of_ble_eq_true rfl⟩ dX9_cellsRefused_68 kl_X9_210 ki_X9_faulted kv_X9_faulted rfl rfl rfl rfl (Nat.le_of_ble_eq_true rfl) (Nat.le_of_ble_eq_true rfl) (Nat.zero_add _) (Nat.zero_add _) sp_X9_faulted ?_
            refine e_iret dX9_cellsRefused_71 rfl ?_
            have hr : oRef b (nI j) lane i n = -14 := by
              rw [oRef, if_neg (nn_ (bi_1.mp h9)), if_neg (nn_ (bi_1.mp h18)), nI_clamp (by omega), hz]
              simp only []
              rw [if_neg (nn_ h52), if_pos (Int32.not_le.mp h63)]
            exact ⟨by rw [hr]; try rfl, by rw [hr, e0]; rw [bx_uu]; rfl⟩
        · rw [e1] at h52
          refine e_aload_n 0 dX9_cellsRefused_55 rfl rfl ?_
          refine e_iconst (v := 2) dX9_cellsRefused_56 rfl ?_
          refine f_callVi (As := [_]) ok_X9_faulted ⟨Nat.le_of_ble_eq_true rfl, Nat.le_of_ble_eq_true rfl⟩ dX9_cellsRefused_57 kl_X9_210 ki_X9_faulted kv_X9_faulted rfl rfl rfl rfl (Nat.le_of_ble_eq_true rfl) (Nat.le_of_ble_eq_true rfl) (Nat.zero_add _) (Nat.zero_add _) sp_X9_faulted ?_
          refine e_iret dX9_cellsRefused_60 rfl ?_
          have hr : oRef b (nI j) lane i n = -12 := by
            rw [oRef, if_neg (nn_ (bi_1.mp h9)), if_neg (nn_ (bi_1.mp h18)), nI_clamp (by omega), hz]
            simp only []
            rw [if_pos h52]
          exact ⟨by rw [hr]; try rfl, by rw [hr, e0]; rw [bx_uu]; rfl⟩
      · have hz : bz b j = none := shX_no hX (IV.l hI hj) (bi_1.mp h33)
        refine e_aload_n 0 dX9_cellsRefused_36 rfl rfl ?_
        refine e_iconst (v := 1) dX9_cellsRefused_37 rfl ?_
        refine f_callVi (As := [_]) ok_X9_faulted ⟨Nat.le_of_ble_eq_true rfl, Nat.le_of_ble_eq_true rfl⟩ dX9_cellsRefused_38 kl_X9_210 ki_X9_faulted kv_X9_faulted rfl rfl rfl rfl (Nat.le_of_ble_eq_true rfl) (Nat.le_of_ble_eq_true rfl) (Nat.zero_add _) (Nat.zero_add _) sp_X9_faulted ?_
        refine e_iret dX9_cellsRefused_41 rfl ?_
        have hr : oRef b (nI j) lane i n = -11 := by
          rw [oRef, if_neg (nn_ (bi_1.mp h9)), if_neg (nn_ (bi_1.mp h18)), nI_clamp (by omega), hz]
        exact ⟨by rw [hr]; try rfl, by rw [hr, e0]; rw [bx_uu]; rfl⟩
    · refine e_bipush (v := -2) dX9_cellsRefused_21 (by decide) ?_
      refine e_iret dX9_cellsRefused_23 rfl ?_
      have hr : oRef b k lane i n = -2 := by
        rw [oRef, if_neg (nn_ (bi_1.mp h9)), if_pos (bi_0.mp h18)]
      exact ⟨by rw [hr]; try rfl, by rw [hr, e0]; rfl⟩
  · refine e_iconst (v := -1) dX9_cellsRefused_12 rfl ?_
    refine e_iret dX9_cellsRefused_13 rfl ?_
    have hr : oRef b k lane i n = -1 := by
      rw [oRef, if_pos (bi_0.mp h9)]
    exact ⟨by rw [hr]; try rfl, by rw [hr, e0]; rfl⟩
