set_option maxRecDepth 4000 in
theorem sp_X10_barred {G : sh_G} {S : Nat → Int32} {A : Nat → Nat → Int32} {Lg : Nat → Int64} {P : Nat → Option Nat} {T : List sh_C} {b : sh_be} {k lane i n : Int32} (hR : RM S A b) (hI : IV b) : Ev G mX10_barred 0 0 (mkW G S A Lg P T) 0 [some (.ref 24), some (.int k), some (.int lane), some (.int i), some (.long n.toInt64), none] [] (sh_is (some (.int (oRef b k lane i n))) (mkW G (if oRef b k lane i n = 0 then S else va_up S 20 (fOf (oRef b k lane i n))) A Lg P T)) := by
  refine e_iload_n 1 dX10_barred_0 rfl rfl ?_
  refine f_callSi (As := [_]) ok_X10_noSheet ⟨Nat.le_of_ble_eq_true rfl, Nat.le_of_ble_eq_true rfl⟩ dX10_barred_1 kl_X10_87 ks_X10_noSheet rfl rfl (Nat.le_of_ble_eq_true rfl) (Nat.le_of_ble_eq_true rfl) (Nat.zero_add _) (Nat.zero_add _) sp_X10_noSheet ?_
  refine e_if_eq (tgt := 13) dX10_barred_4 rfl (fun h4 => ?_) (fun h4 => ?_)
  · refine e_iload_n 2 dX10_barred_13 rfl rfl ?_
    refine e_i2l dX10_barred_14 ?_
    refine e_lconst (v := 0) dX10_barred_15 rfl ?_
    refine e_ldc2 dX10_barred_16 kc_X10_95 ?_
    refine f_callSi (As := [_, _, _]) ok_X10_in ⟨Nat.le_of_ble_eq_true rfl, Nat.le_of_ble_eq_true rfl⟩ dX10_barred_19 kl_X10_97 ks_X10_in rfl rfl (Nat.le_of_ble_eq_true rfl) (Nat.le_of_ble_eq_true rfl) (Nat.zero_add _) (Nat.zero_add _) sp_X10_in ?_
    refine e_if_ne (tgt := 32) dX10_barred_22 rfl (fun h22 => ?_) (fun h22 => ?_)
    · rw [in2] at h22
      have h4 := Classical.not_not.mp (bi_0.mp h4)
      obtain ⟨j, hj, rfl⟩ := ix_of (n := 4) rfl (by omega) h4
      have hX := hR.2.2.2.2.2.2.1 j hj
      refine e_aload_n 0 dX10_barred_32 rfl rfl ?_
      refine e_getfield 30 dX10_barred_33 kf_X10_65_10 rfl rfl ?_
      refine e_iload_n 1 dX10_barred_36 rfl rfl ?_
      refine e_iald_n (j) dX10_barred_37 rfl rfl (by omega) (by decide) ?_
      refine e_if_lt (tgt := 57) dX10_barred_38 rfl (fun h38 => ?_) (fun h38 => ?_)
      · have hz : bz b j = none := shM_no hX (IV.m hI) hj (fun h => absurd h38 (Int32.not_lt.mpr h))
        refine e_aload_n 0 dX10_barred_57 rfl rfl ?_
        refine e_getfield 30 dX10_barred_58 kf_X10_65_10 rfl rfl ?_
        refine e_iload_n 1 dX10_barred_61 rfl rfl ?_
        refine e_iald_n (j) dX10_barred_62 rfl rfl (by omega) (by decide) ?_
        refine e_if_ge (tgt := 72) dX10_barred_63 rfl (fun h63 => absurd h63 (fun h => absurd h38 (Int32.not_lt.mpr h))) (fun _ => ?_)
        refine e_aload_n 0 dX10_barred_66 rfl rfl ?_
        refine e_iconst (v := 1) dX10_barred_67 rfl ?_
        refine f_callVi (As := [_]) ok_X10_failed ⟨Nat.le_of_ble_eq_true rfl, Nat.le_of_ble_eq_true rfl⟩ dX10_barred_68 kl_X10_101 ki_X10_failed kv_X10_failed rfl rfl rfl rfl (Nat.le_of_ble_eq_true rfl) (Nat.le_of_ble_eq_true rfl) (Nat.zero_add _) (Nat.zero_add _) sp_X10_failed ?_
        refine e_iret dX10_barred_71 rfl ?_
        have hr : oRef b (nI j) lane i n = -11 := by
          rw [oRef, if_neg (nn_ h4), if_neg (nn_ (bi_1.mp h22)), nI_clamp (by omega), hz]
        exact ⟨by rw [hr]; try rfl, by rw [hr]; rfl⟩
      · obtain ⟨z, hz⟩ : ∃ z, bz b j = some z := shM_ex hX (Int32.not_lt.mp h38)
        obtain ⟨e1, e2, e3⟩ := shM_s hX hz
        have hzl := IV.l hI hj z hz
        refine e_aload_n 0 dX10_barred_41 rfl rfl ?_
        refine e_getfield 31 dX10_barred_42 kf_X10_68_10 rfl rfl ?_
        refine e_iload_n 1 dX10_barred_45 rfl rfl ?_
        refine e_iald_n (j) dX10_barred_46 rfl rfl (by omega) (by decide) ?_
        refine e_iload_n 2 dX10_barred_47 rfl rfl ?_
        refine e_icmp_eq (tgt := 57) dX10_barred_48 rfl (fun h48 => ?_) (fun h48 => ?_)
        · rw [e2] at h48
          refine e_aload_n 0 dX10_barred_57 rfl rfl ?_
          refine e_getfield 30 dX10_barred_58 kf_X10_65_10 rfl rfl ?_
          refine e_iload_n 1 dX10_barred_61 rfl rfl ?_
          refine e_iald_n (j) dX10_barred_62 rfl rfl (by omega) (by decide) ?_
          refine e_if_ge (tgt := 72) dX10_barred_63 rfl (fun _ => ?_) (fun h63 => absurd (by rw [e1]; exact nI_pos' (by omega)) h63)
          refine e_lload dX10_barred_72 rfl ?_
          refine e_lconst (v := 0) dX10_barred_74 rfl ?_
          refine e_lcmp dX10_barred_75 ?_
          refine e_if_ge (tgt := 85) dX10_barred_76 rfl (fun h76 => ?_) (fun h76 => ?_)
          · rw [lgge, n64] at h76
            refine e_iload_n 3 dX10_barred_85 rfl rfl ?_
            refine e_lload dX10_barred_86 rfl ?_
            refine e_aload_n 0 dX10_barred_88 rfl rfl ?_
            refine e_getfield 30 dX10_barred_89 kf_X10_65_10 rfl rfl ?_
            refine e_iload_n 1 dX10_barred_92 rfl rfl ?_
            refine e_iald_n (j) dX10_barred_93 rfl rfl (by omega) (by decide) ?_
            refine f_callSi (As := [_, _, _]) ok_X10_isBeyond ⟨Nat.le_of_ble_eq_true rfl, Nat.le_of_ble_eq_true rfl⟩ dX10_barred_94 kl_X10_104 ks_X10_isBeyond rfl rfl (Nat.le_of_ble_eq_true rfl) (Nat.le_of_ble_eq_true rfl) (Nat.zero_add _) (Nat.zero_add _) sp_X10_isBeyond ?_
            refine e_if_eq (tgt := 108) dX10_barred_97 rfl (fun h97 => ?_) (fun h97 => ?_)
            · rw [e1, beyL (by omega)] at h97
              refine e_iconst (v := 0) dX10_barred_108 rfl ?_
              refine e_iret dX10_barred_109 rfl ?_
              have hr : oRef b (nI j) lane i n = 0 := by
                rw [oRef, if_neg (nn_ h4), if_neg (nn_ (bi_1.mp h22)), nI_clamp (by omega), hz]
                simp only []
                rw [if_neg (nn_ h48), if_neg h76, if_pos (Classical.not_not.mp (bi_0.mp h97))]
              exact ⟨by rw [hr]; try rfl, by rw [hr]; rfl⟩
            · rw [e1, beyL (by omega)] at h97
              refine e_aload_n 0 dX10_barred_100 rfl rfl ?_
              refine e_iconst (v := 3) dX10_barred_101 rfl ?_
              refine f_callVi (As := [_]) ok_X10_failed ⟨Nat.le_of_ble_eq_true rfl, Nat.le_of_ble_eq_true rfl⟩ dX10_barred_102 kl_X10_101 ki_X10_failed kv_X10_failed rfl rfl rfl rfl (Nat.le_of_ble_eq_true rfl) (Nat.le_of_ble_eq_true rfl) (Nat.zero_add _) (Nat.zero_add _) sp_X10_failed ?_
              refine e_goto (tgt := 109) dX10_barred_105 rfl ?_
              refine e_iret dX10_barred_109 rfl ?_
              have hr : oRef b (nI j) lane i n = -13 := by
                rw [oRef, if_neg (nn_ h4), if_neg (nn_ (bi_1.mp h22)), nI_clamp (by omega), hz]
                simp only []
                rw [if_neg (nn_ h48), if_neg h76, if_neg (bi_1.mp h97)]
              exact ⟨by rw [hr]; try rfl, by rw [hr]; rfl⟩
          · rw [lgge, Classical.not_not, n64] at h76
            refine e_aload_n 0 dX10_barred_79 rfl rfl ?_
            refine e_iconst (v := 4) dX10_barred_80 rfl ?_
            refine f_callVi (As := [_]) ok_X10_failed ⟨Nat.le_of_ble_eq_true rfl, Nat.le_of_ble_eq_true rfl⟩ dX10_barred_81 kl_X10_101 ki_X10_failed kv_X10_failed rfl rfl rfl rfl (Nat.le_of_ble_eq_true rfl) (Nat.le_of_ble_eq_true rfl) (Nat.zero_add _) (Nat.zero_add _) sp_X10_failed ?_
            refine e_iret dX10_barred_84 rfl ?_
            have hr : oRef b (nI j) lane i n = -14 := by
              rw [oRef, if_neg (nn_ h4), if_neg (nn_ (bi_1.mp h22)), nI_clamp (by omega), hz]
              simp only []
              rw [if_neg (nn_ h48), if_pos h76]
            exact ⟨by rw [hr]; try rfl, by rw [hr]; rfl⟩
        · rw [e2] at h48
          refine e_aload_n 0 dX10_barred_51 rfl rfl ?_
          refine e_iconst (v := 2) dX10_barred_52 rfl ?_
          refine f_callVi (As := [_]) ok_X10_failed ⟨Nat.le_of_ble_eq_true rfl, Nat.le_of_ble_eq_true rfl⟩ dX10_barred_53 kl_X10_101 ki_X10_failed kv_X10_failed rfl rfl rfl rfl (Nat.le_of_ble_eq_true rfl) (Nat.le_of_ble_eq_true rfl) (Nat.zero_add _) (Nat.zero_add _) sp_X10_failed ?_
          refine e_iret dX10_barred_56 rfl ?_
          have hr : oRef b (nI j) lane i n = -12 := by
            rw [oRef, if_neg (nn_ h4), if_neg (nn_ (bi_1.mp h22)), nI_clamp (by omega), hz]
            simp only []
            rw [if_pos h48]
          exact ⟨by rw [hr]; try rfl, by rw [hr]; rfl⟩
    · rw [in2] at h22
      refine e_aload_n 0 dX10_barred_25 rfl rfl ?_
      refine e_bipush (v := -2) dX10_barred_26 (by decide) ?_
      refine f_callVi (As := [_]) ok_X10_refused ⟨Nat.le_of_ble_eq_true rfl, Nat.le_of_ble_eq_true rfl⟩ dX10_barred_28 kl_X10_91 ki_X10_refused kv_X10_refused rfl rfl rfl rfl (Nat.le_of_ble_eq_true rfl) (Nat.le_of_ble_eq_true rfl) (Nat.zero_add _) (Nat.zero_add _) sp_X10_refused ?_
      refine e_iret dX10_barred_31 rfl ?_
      have hr : oRef b k lane i n = -2 := by
        rw [oRef, if_neg (bi_0.mp h4), if_pos (bi_0.mp h22)]
      exact ⟨by rw [hr]; try rfl, by rw [hr]; rfl⟩
  · refine e_aload_n 0 dX10_barred_7 rfl rfl ?_
    refine e_iconst (v := -1) dX10_barred_8 rfl ?_
    refine f_callVi (As := [_]) ok_X10_refused ⟨Nat.le_of_ble_eq_true rfl, Nat.le_of_ble_eq_true rfl⟩ dX10_barred_9 kl_X10_91 ki_X10_refused kv_X10_refused rfl rfl rfl rfl (Nat.le_of_ble_eq_true rfl) (Nat.le_of_ble_eq_true rfl) (Nat.zero_add _) (Nat.zero_add _) sp_X10_refused ?_
    refine e_iret dX10_barred_12 rfl ?_
    have hr : oRef b k lane i n = -1 := by
      rw [oRef, if_pos (bi_1.mp h4)]
    exact ⟨by rw [hr]; try rfl, by rw [hr]; rfl⟩

set_option maxRecDepth 4000 in
theorem lp_X10_sheet {G : sh_G} {S : Nat → Int32} {A : Nat → Nat → Int32} {Lg : Nat → Int64} {P : Nat → Option Nat} {T : List sh_C} {k m : Nat} {l : Int32} (hk : k < 4) (hn : m ≤ 60) : ∀ (y q : Nat), m - q < y → q ≤ m → Ev G mX10_sheet 0 0 (mkW G S (va_up A 40 (zr (A 40) (60 * k) q)) Lg P T) 65 [some (.ref 24), some (.int (nI k)), some (.int l), some (.int (nI m)), some (.int (nI q))] [] (sh_is (some (.int (1))) (mkW G (va_up S 20 0) (va_up A 40 (zr (A 40) (60 * k) m)) Lg P T)) := by
  intro y
  induction y with
  | zero => intro q h; omega
  | succ y ih =>
    intro q hm hq
    refine e_iload dX10_sheet_65 rfl ?_
    refine e_iload_n 3 dX10_sheet_67 rfl rfl ?_
    refine e_icmp_ge (tgt := 90) dX10_sheet_68 rfl (fun h68 => ?_) (fun h68 => ?_)
    · have e : q = m := by rw [nI_leI (by omega) (by omega)] at h68; omega
      subst e
      refine e_aload_n 0 dX10_sheet_90 rfl rfl ?_
      refine e_iconst (v := 1) dX10_sheet_91 rfl ?_
      refine f_callVi (As := [_]) ok_X10_refused ⟨Nat.le_of_ble_eq_true rfl, Nat.le_of_ble_eq_true rfl⟩ dX10_sheet_92 kl_X10_91 ki_X10_refused kv_X10_refused rfl rfl rfl rfl (Nat.le_of_ble_eq_true rfl) (Nat.le_of_ble_eq_true rfl) (Nat.zero_add _) (Nat.zero_add _) sp_X10_refused ?_
      exact e_iret dX10_sheet_95 rfl ⟨rfl, rfl⟩
    · have hlt : q < m := by rw [nI_leI (by omega) (by omega)] at h68; omega
      refine e_aload_n 0 dX10_sheet_71 rfl rfl ?_
      refine e_getfield 32 dX10_sheet_72 kf_X10_71_10 rfl rfl ?_
      refine e_bipush (v := 60) dX10_sheet_75 (by decide) ?_
      refine e_iload_n 1 dX10_sheet_77 rfl rfl ?_
      refine e_imul dX10_sheet_78 ?_
      refine e_iload dX10_sheet_79 rfl ?_
      refine e_iadd dX10_sheet_81 ?_
      refine e_iconst (v := 0) dX10_sheet_82 rfl ?_
      rw [mul60]
      refine e_iast_n (60 * k + q) dX10_sheet_83 rfl rfl (by omega) (by decide) ?_
      refine e_w (w' := mkW G S (va_up (va_up A 40 (zr (A 40) (60 * k) q)) 40 (upd (zr (A 40) (60 * k) q) (60 * k + q) 0)) Lg P T) rfl ?_
      rw [zr_s, bx_uu]
      refine e_iinc (v := _ + 1) (lv' := [_, _, _, _, _]) dX10_sheet_84 rfl (Nat.le_of_ble_eq_true rfl) rfl rfl rfl ?_
      refine e_goto (tgt := 65) dX10_sheet_87 rfl ?_
      rw [nI_1]
      exact ih (q + 1) (by omega) (by omega)

set_option maxRecDepth 4000 in
theorem sp_X10_sheet {G : sh_G} {S : Nat → Int32} {A : Nat → Nat → Int32} {Lg : Nat → Int64} {P : Nat → Option Nat} {T : List sh_C} {b : sh_be} {k lane n : Int32} (hR : RM S A b) (hI : IV b) : Ev G mX10_sheet 0 0 (mkW G S A Lg P T) 0 [some (.ref 24), some (.int k), some (.int lane), some (.int n), none] [] (QM G S A Lg P T (some (.int (oSheet b k lane n).1)) (oSheet b k lane n).2) := by
  refine e_iload_n 1 dX10_sheet_0 rfl rfl ?_
  refine f_callSi (As := [_]) ok_X10_noSheet ⟨Nat.le_of_ble_eq_true rfl, Nat.le_of_ble_eq_true rfl⟩ dX10_sheet_1 kl_X10_87 ks_X10_noSheet rfl rfl (Nat.le_of_ble_eq_true rfl) (Nat.le_of_ble_eq_true rfl) (Nat.zero_add _) (Nat.zero_add _) sp_X10_noSheet ?_
  refine e_if_eq (tgt := 13) dX10_sheet_4 rfl (fun h4 => ?_) (fun h4 => ?_)
  · refine e_iload_n 2 dX10_sheet_13 rfl rfl ?_
    refine e_i2l dX10_sheet_14 ?_
    refine e_lconst (v := 0) dX10_sheet_15 rfl ?_
    refine e_ldc2 dX10_sheet_16 kc_X10_95 ?_
    refine f_callSi (As := [_, _, _]) ok_X10_in ⟨Nat.le_of_ble_eq_true rfl, Nat.le_of_ble_eq_true rfl⟩ dX10_sheet_19 kl_X10_97 ks_X10_in rfl rfl (Nat.le_of_ble_eq_true rfl) (Nat.le_of_ble_eq_true rfl) (Nat.zero_add _) (Nat.zero_add _) sp_X10_in ?_
    refine e_if_eq (tgt := 31) dX10_sheet_22 rfl (fun h22 => ?_) (fun h22 => ?_)
    · try rw [in2] at h22
      refine e_aload_n 0 dX10_sheet_31 rfl rfl ?_
      refine e_bipush (v := -2) dX10_sheet_32 (by decide) ?_
      refine f_callVi (As := [_]) ok_X10_refused ⟨Nat.le_of_ble_eq_true rfl, Nat.le_of_ble_eq_true rfl⟩ dX10_sheet_34 kl_X10_91 ki_X10_refused kv_X10_refused rfl rfl rfl rfl (Nat.le_of_ble_eq_true rfl) (Nat.le_of_ble_eq_true rfl) (Nat.zero_add _) (Nat.zero_add _) sp_X10_refused ?_
      refine e_iret dX10_sheet_37 rfl ?_
      have ho : oSheet b k lane n = (-2, uF_ b 0) := by
        first | rw [oSheet, if_neg (bi_0.mp h4), if_pos (Or.inl (bi_0.mp h22))] | rw [oSheet, if_neg (bi_0.mp h4), if_pos (Or.inr (Int32.not_le.mp h28))]
      rw [ho]
      exact ⟨_, A, rfl, rfl, hR.F 0, FM.S (by omega)⟩
    · rw [in2] at h22
      refine e_iload_n 3 dX10_sheet_25 rfl rfl ?_
      refine e_bipush (v := 60) dX10_sheet_26 (by decide) ?_
      refine e_icmp_le (tgt := 38) dX10_sheet_28 rfl (fun h28 => ?_) (fun h28 => ?_)
      · have hq : ¬ (¬ (¬ lane < 0 ∧ ¬ 2 < lane) ∨ 60 < n) := fun h => h.elim (fun h => h (bi_1.mp h22)) (fun h => absurd h (Int32.not_lt.mpr h28))
        refine e_iload_n 3 dX10_sheet_38 rfl rfl ?_
        refine e_if_ge (tgt := 48) dX10_sheet_39 rfl (fun h39 => ?_) (fun h39 => ?_)
        · obtain ⟨j, hj, rfl⟩ := ix_of (n := 4) rfl (by omega) (Classical.not_not.mp (bi_0.mp h4))
          obtain ⟨l, hl, rfl⟩ := ix_of (x := lane) (n := 3) rfl (by omega) ⟨(bi_1.mp h22).1, fun h => (bi_1.mp h22).2 (i_lt3 h)⟩
          obtain ⟨m, hm, rfl⟩ := ix_of (x := n) (n := 61) rfl (by omega) ⟨Int32.not_lt.mpr h39, fun h => absurd h28 (i_lt60 h)⟩
          refine e_aload_n 0 dX10_sheet_48 rfl rfl ?_
          refine e_getfield 30 dX10_sheet_49 kf_X10_65_10 rfl rfl ?_
          refine e_iload_n 1 dX10_sheet_52 rfl rfl ?_
          refine e_iload_n 3 dX10_sheet_53 rfl rfl ?_
          refine e_iast_n (j) dX10_sheet_54 rfl rfl (by omega) (by decide) ?_
          refine e_w (w' := mkW G S (va_up A 38 (upd (A 38) j (nI m))) Lg P T) rfl ?_
          refine e_aload_n 0 dX10_sheet_55 rfl rfl ?_
          refine e_getfield 31 dX10_sheet_56 kf_X10_68_10 rfl rfl ?_
          refine e_iload_n 1 dX10_sheet_59 rfl rfl ?_
          refine e_iload_n 2 dX10_sheet_60 rfl rfl ?_
          refine e_iast_n (j) dX10_sheet_61 rfl rfl (by omega) (by decide) ?_
          refine e_w (w' := mkW G S (va_up (va_up A 38 (upd (A 38) j (nI m))) 39 (upd (A 39) j (nI l))) Lg P T) rfl ?_
          refine e_iconst (v := 0) dX10_sheet_62 rfl ?_
          refine e_istore (lv' := [_, _, _, _, _]) dX10_sheet_63 (Nat.le_of_ble_eq_true rfl) rfl rfl ?_
          have hlp := lp_X10_sheet (G := G) (S := S) (A := va_up (va_up A 38 (upd (A 38) j (nI m))) 39 (upd (A 39) j (nI l))) (Lg := Lg) (P := P) (T := T) (l := nI l) hj (show m ≤ 60 by omega) (m + 1) 0 (by omega) (by omega)
          rw [zr_0, up_self] at hlp
          refine e_q hlp (fun v w' h => ?_)
          obtain ⟨rfl, rfl⟩ := h
          have ho : oSheet b (nI j) (nI l) (nI m) = (1, uF_ (uZ_ (uC_ b j (fun _ => 0)) j (some (l, m))) 0) := by
            rw [oSheet, if_neg (bi_0.mp h4), if_neg hq, if_neg (Int32.not_lt.mpr h39), nI_clamp (by omega), nI_clamp (by omega), nI_clamp (by omega)]
          rw [ho]
          refine ⟨_, _, rfl, rfl, RM.F (b := uZ_ (uC_ b j (fun _ => 0)) j (some (l, m))) (hR.Z hj (fun i hi => by rw [up_ne (by omega), up_ne (by omega), up_ne (by omega)]) (fun y hy => ⟨?_, ?_, fun i hi => ?_⟩) (IV.m hI) ⟨?_, ?_, fun i hi => ?_⟩) 0, (FM.S (by omega)).tr ((FM.A (by omega)).tr ((FM.A (by omega)).tr (FM.A (by omega))))⟩
          · rw [up_ne (by omega), up_ne (by omega), up_eq]; exact if_neg hy
          · rw [up_ne (by omega), up_eq]; exact if_neg hy
          · rw [up_eq, up_ne (by omega), up_ne (by omega)]; unfold zr; rw [if_neg (by omega)]
          · rw [up_ne (by omega), up_ne (by omega), up_eq]; exact if_pos rfl
          · rw [up_ne (by omega), up_eq]; exact if_pos rfl
          · rw [up_eq]; unfold zr; rw [if_pos (by have : i < m := hi; omega)]
        · refine e_aload_n 0 dX10_sheet_42 rfl rfl ?_
          refine e_iconst (v := 4) dX10_sheet_43 rfl ?_
          refine f_callVi (As := [_]) ok_X10_failed ⟨Nat.le_of_ble_eq_true rfl, Nat.le_of_ble_eq_true rfl⟩ dX10_sheet_44 kl_X10_101 ki_X10_failed kv_X10_failed rfl rfl rfl rfl (Nat.le_of_ble_eq_true rfl) (Nat.le_of_ble_eq_true rfl) (Nat.zero_add _) (Nat.zero_add _) sp_X10_failed ?_
          refine e_iret dX10_sheet_47 rfl ?_
          have ho : oSheet b k lane n = (-14, uF_ b 4) := by
            rw [oSheet, if_neg (bi_0.mp h4), if_neg hq, if_pos (Int32.not_le.mp h39)]
          rw [ho]
          exact ⟨_, A, rfl, rfl, hR.F 4, FM.S (by omega)⟩
      · try rw [in2] at h22
        refine e_aload_n 0 dX10_sheet_31 rfl rfl ?_
        refine e_bipush (v := -2) dX10_sheet_32 (by decide) ?_
        refine f_callVi (As := [_]) ok_X10_refused ⟨Nat.le_of_ble_eq_true rfl, Nat.le_of_ble_eq_true rfl⟩ dX10_sheet_34 kl_X10_91 ki_X10_refused kv_X10_refused rfl rfl rfl rfl (Nat.le_of_ble_eq_true rfl) (Nat.le_of_ble_eq_true rfl) (Nat.zero_add _) (Nat.zero_add _) sp_X10_refused ?_
        refine e_iret dX10_sheet_37 rfl ?_
        have ho : oSheet b k lane n = (-2, uF_ b 0) := by
          first | rw [oSheet, if_neg (bi_0.mp h4), if_pos (Or.inl (bi_0.mp h22))] | rw [oSheet, if_neg (bi_0.mp h4), if_pos (Or.inr (Int32.not_le.mp h28))]
        rw [ho]
        exact ⟨_, A, rfl, rfl, hR.F 0, FM.S (by omega)⟩
  · refine e_aload_n 0 dX10_sheet_7 rfl rfl ?_
    refine e_iconst (v := -1) dX10_sheet_8 rfl ?_
    refine f_callVi (As := [_]) ok_X10_refused ⟨Nat.le_of_ble_eq_true rfl, Nat.le_of_ble_eq_true rfl⟩ dX10_sheet_9 kl_X10_91 ki_X10_refused kv_X10_refused rfl rfl rfl rfl (Nat.le_of_ble_eq_true rfl) (Nat.le_of_ble_eq_true rfl) (Nat.zero_add _) (Nat.zero_add _) sp_X10_refused ?_
    refine e_iret dX10_sheet_12 rfl ?_
    have ho : oSheet b k lane n = (-1, uF_ b 0) := by
      rw [oSheet, if_pos (bi_1.mp h4)]
    rw [ho]
    exact ⟨_, A, rfl, rfl, hR.F 0, FM.S (by omega)⟩
