set_option maxRecDepth 4000 in
theorem sp_X9_sheet {G : sh_G} {S : Nat → Int32} {A : Nat → Nat → Int32} {Lg : Nat → Int64} {P : Nat → Option Nat} {T : List sh_C} {b : sh_be} {k lane n : Int32} (hR : RX S A Lg P T b) : Ev G mX9_sheet 0 0 (mkW G S A Lg P T) 0 [some (.ref 1), some (.int k), some (.int lane), some (.int n)] [] (QX G S A (some (.int (oSheet b k lane n).1)) (oSheet b k lane n).2) := by
  refine e_aload_n 0 dX9_sheet_0 rfl rfl ?_
  refine e_iconst (v := 0) dX9_sheet_1 rfl ?_
  refine e_putfield 5 dX9_sheet_2 kp_X9_sheet_201_9 (sh_fit_i _) rfl (Nat.le_of_ble_eq_true rfl) ?_
  obtain ⟨S1, e0, hR, hf⟩ : ∃ S1, S1 = va_up S 0 0 ∧ RX S1 A Lg P T (uF_ b 0) ∧ FX S A S1 A := ⟨_, rfl, hR.F 0, FX.S (by omega)⟩
  refine e_w (w' := mkW G S1 A Lg P T) (by rw [e0]; rfl) ?_
  refine e_iload_n 1 dX9_sheet_5 rfl rfl ?_
  refine f_callSi (As := [_]) ok_X9_isSheet ⟨Nat.le_of_ble_eq_true rfl, Nat.le_of_ble_eq_true rfl⟩ dX9_sheet_6 kl_X9_204 ks_X9_isSheet rfl rfl (Nat.le_of_ble_eq_true rfl) (Nat.le_of_ble_eq_true rfl) (Nat.zero_add _) (Nat.zero_add _) sp_X9_isSheet ?_
  refine e_if_ne (tgt := 14) dX9_sheet_9 rfl (fun h9 => ?_) (fun h9 => ?_)
  · refine e_iload_n 2 dX9_sheet_14 rfl rfl ?_
    refine f_callSi (As := [_]) ok_X9_isLane ⟨Nat.le_of_ble_eq_true rfl, Nat.le_of_ble_eq_true rfl⟩ dX9_sheet_15 kl_X9_207 ks_X9_isLane rfl rfl (Nat.le_of_ble_eq_true rfl) (Nat.le_of_ble_eq_true rfl) (Nat.zero_add _) (Nat.zero_add _) sp_X9_isLane ?_
    refine e_if_eq (tgt := 27) dX9_sheet_18 rfl (fun h18 => ?_) (fun h18 => ?_)
    · refine e_bipush (v := -2) dX9_sheet_27 (by decide) ?_
      refine e_iret dX9_sheet_29 rfl ?_
      have ho : oSheet b k lane n = (-2, uF_ b 0) := by
        first | rw [oSheet, if_neg (nn_ (bi_1.mp h9)), if_pos (Or.inl (bi_0.mp h18))] | rw [oSheet, if_neg (nn_ (bi_1.mp h9)), if_pos (Or.inr (Int32.not_le.mp h24))]
      rw [ho]
      exact ⟨S1, A, Lg, P, T, rfl, rfl, hR, hf⟩
    · refine e_iload_n 3 dX9_sheet_21 rfl rfl ?_
      refine e_bipush (v := 60) dX9_sheet_22 (by decide) ?_
      refine e_icmp_le (tgt := 30) dX9_sheet_24 rfl (fun h24 => ?_) (fun h24 => ?_)
      · have hq : ¬ (¬ (¬ lane < 0 ∧ ¬ 2 < lane) ∨ 60 < n) := fun h => h.elim (fun h => h (bi_1.mp h18)) (fun h => absurd h (Int32.not_lt.mpr h24))
        refine e_iload_n 3 dX9_sheet_30 rfl rfl ?_
        refine e_if_ge (tgt := 40) dX9_sheet_31 rfl (fun h31 => ?_) (fun h31 => ?_)
        · obtain ⟨j, hj, rfl⟩ := ix_of (n := 4) rfl (by omega) (bi_1.mp h9)
          obtain ⟨l, hl, rfl⟩ := ix_of (x := lane) (n := 3) rfl (by omega) ⟨(bi_1.mp h18).1, fun h => (bi_1.mp h18).2 (i_lt3 h)⟩
          obtain ⟨m, hm, rfl⟩ := ix_of (x := n) (n := 61) rfl (by omega) ⟨Int32.not_lt.mpr h31, fun h => absurd h24 (i_lt60 h)⟩
          refine e_aload_n 0 dX9_sheet_40 rfl rfl ?_
          refine e_getfield 0 dX9_sheet_41 kf_X9_13_9 rfl rfl ?_
          refine e_iload_n 1 dX9_sheet_44 rfl rfl ?_
          refine e_aald_n (j) dX9_sheet_45 rfl (Or.inr rfl) rfl (by omega) (by decide) (sh_shs_at hj) ?_
          refine e_iload_n 2 dX9_sheet_46 rfl rfl ?_
          refine e_iload_n 3 dX9_sheet_47 rfl rfl ?_
          refine f_callVv (As := [_, _]) ok_X3_renew ⟨Nat.le_of_ble_eq_true rfl, Nat.le_of_ble_eq_true rfl⟩ dX9_sheet_48 kl_X9_213 ki_X3_renew kv_X3_renew rfl rfl (mkW_sh hj) rfl (Nat.le_of_ble_eq_true rfl) (Nat.le_of_ble_eq_true rfl) (Nat.zero_add _) (Nat.zero_add _) (sp_X3_renew hj) ?_
          refine e_iconst (v := 1) dX9_sheet_51 rfl ?_
          refine e_iret dX9_sheet_52 rfl ?_
          have ho : oSheet b (nI j) (nI l) (nI m) = (1, uF_ (uZ_ (uC_ b j (fun _ => 0)) j (some (l, m))) 0) := by
            rw [oSheet, if_neg (nn_ (bi_1.mp h9)), if_neg hq, if_neg (Int32.not_lt.mpr h31), nI_clamp (by omega), nI_clamp (by omega), nI_clamp (by omega)]
          rw [ho]
          refine ⟨_, _, Lg, P, T, rfl, rfl, ?_, hf.tr (FX.tr (FX.tr (FX.S (by omega)) (FX.S (by omega))) (FX.A (by omega)))⟩
          exact hR.Z hj (l := nI l) (n := nI m) (z := some (l, m)) ⟨rfl, rfl, fun i hi => by unfold zf; rw [if_pos (show i < 60 by omega)]⟩
        · refine e_aload_n 0 dX9_sheet_34 rfl rfl ?_
          refine e_iconst (v := 4) dX9_sheet_35 rfl ?_
          refine f_callVi (As := [_]) ok_X9_faulted ⟨Nat.le_of_ble_eq_true rfl, Nat.le_of_ble_eq_true rfl⟩ dX9_sheet_36 kl_X9_210 ki_X9_faulted kv_X9_faulted rfl rfl rfl rfl (Nat.le_of_ble_eq_true rfl) (Nat.le_of_ble_eq_true rfl) (Nat.zero_add _) (Nat.zero_add _) sp_X9_faulted ?_
          refine e_iret dX9_sheet_39 rfl ?_
          have ho : oSheet b k lane n = (-14, uF_ b 4) := by
            rw [oSheet, if_neg (nn_ (bi_1.mp h9)), if_neg hq, if_pos (Int32.not_le.mp h31)]
          rw [ho]
          exact ⟨va_up S1 0 4, A, Lg, P, T, rfl, rfl, hR.F 4, hf.tr (FX.S (by omega))⟩
      · refine e_bipush (v := -2) dX9_sheet_27 (by decide) ?_
        refine e_iret dX9_sheet_29 rfl ?_
        have ho : oSheet b k lane n = (-2, uF_ b 0) := by
          first | rw [oSheet, if_neg (nn_ (bi_1.mp h9)), if_pos (Or.inl (bi_0.mp h18))] | rw [oSheet, if_neg (nn_ (bi_1.mp h9)), if_pos (Or.inr (Int32.not_le.mp h24))]
        rw [ho]
        exact ⟨S1, A, Lg, P, T, rfl, rfl, hR, hf⟩
  · refine e_iconst (v := -1) dX9_sheet_12 rfl ?_
    refine e_iret dX9_sheet_13 rfl ?_
    have ho : oSheet b k lane n = (-1, uF_ b 0) := by
      rw [oSheet, if_pos (bi_0.mp h9)]
    rw [ho]
    exact ⟨S1, A, Lg, P, T, rfl, rfl, hR, hf⟩

set_option maxRecDepth 4000 in
theorem sp_X9_lose {G : sh_G} {S : Nat → Int32} {A : Nat → Nat → Int32} {Lg : Nat → Int64} {P : Nat → Option Nat} {T : List sh_C} {b : sh_be} {k : Int32} (hR : RX S A Lg P T b) (hI : IV b) : Ev G mX9_lose 0 0 (mkW G S A Lg P T) 0 [some (.ref 1), some (.int k), none] [] (QX G S A (some (.int (oLose b k).1)) (oLose b k).2) := by
  refine e_iload_n 1 dX9_lose_0 rfl rfl ?_
  refine f_callSi (As := [_]) ok_X9_isSheet ⟨Nat.le_of_ble_eq_true rfl, Nat.le_of_ble_eq_true rfl⟩ dX9_lose_1 kl_X9_204 ks_X9_isSheet rfl rfl (Nat.le_of_ble_eq_true rfl) (Nat.le_of_ble_eq_true rfl) (Nat.zero_add _) (Nat.zero_add _) sp_X9_isSheet ?_
  refine e_if_ne (tgt := 9) dX9_lose_4 rfl (fun h4 => ?_) (fun h4 => ?_)
  · obtain ⟨j, hj, rfl⟩ := ix_of (n := 4) rfl (by omega) (bi_1.mp h4)
    have hX := hR.2.2.2.2.2.2.1 j hj
    refine e_aload_n 0 dX9_lose_9 rfl rfl ?_
    refine e_getfield 0 dX9_lose_10 kf_X9_13_9 rfl rfl ?_
    refine e_iload_n 1 dX9_lose_13 rfl rfl ?_
    refine e_aald_n (j) dX9_lose_14 rfl (Or.inr rfl) rfl (by omega) (by decide) (sh_shs_at hj) ?_
    refine f_callVi (As := []) ok_X3_hasNothing ⟨Nat.le_of_ble_eq_true rfl, Nat.le_of_ble_eq_true rfl⟩ dX9_lose_15 kl_X9_216 ki_X3_hasNothing kv_X3_hasNothing rfl rfl (mkW_sh hj) rfl (Nat.le_of_ble_eq_true rfl) (Nat.le_of_ble_eq_true rfl) (Nat.zero_add _) (Nat.zero_add _) (sp_X3_hasNothing hj) ?_
    refine e_if_eq (tgt := 25) dX9_lose_18 rfl (fun h18 => ?_) (fun h18 => ?_)
    · refine e_iconst (v := 1) dX9_lose_25 rfl ?_
      refine e_istore_n (lv' := [_, _, _]) 2 dX9_lose_26 rfl (Nat.le_of_ble_eq_true rfl) rfl rfl ?_
      refine e_aload_n 0 dX9_lose_27 rfl rfl ?_
      refine e_getfield 0 dX9_lose_28 kf_X9_13_9 rfl rfl ?_
      refine e_iload_n 1 dX9_lose_31 rfl rfl ?_
      refine e_aald_n (j) dX9_lose_32 rfl (Or.inr rfl) rfl (by omega) (by decide) (sh_shs_at hj) ?_
      refine f_callVv (As := []) ok_X3_empty ⟨Nat.le_of_ble_eq_true rfl, Nat.le_of_ble_eq_true rfl⟩ dX9_lose_33 kl_X9_220 ki_X3_empty kv_X3_empty rfl rfl (mkW_sh hj) rfl (Nat.le_of_ble_eq_true rfl) (Nat.le_of_ble_eq_true rfl) (Nat.zero_add _) (Nat.zero_add _) (sp_X3_empty hj) ?_
      refine e_iload_n 2 dX9_lose_36 rfl rfl ?_
      refine e_iret dX9_lose_37 rfl ?_
      have ho : oLose b (nI j) = (if bz b j = none then 0 else 1, uZ_ b j none) := by
        rw [oLose, if_neg (nn_ (bi_1.mp h4)), nI_clamp (by omega)]
      rw [ho]
      refine ⟨_, A, Lg, P, T, rfl, ?_, ?_, FX.tr (FX.S (by omega)) (FX.S (by omega))⟩
      · first
        | (have hz : bz b j = none := shX_no hX (IV.l hI hj) (bi_1.mp h18); rw [if_pos hz])
        | (obtain ⟨z, hz⟩ : ∃ z, bz b j = some z := shX_ex hX (bi_0.mp h18); rw [if_neg (by rw [hz]; intro h; cases h)])
      · have := hR.Z hj (l := -1) (n := 0) (f := A (7 + j)) (g := bc b j) (z := none) ⟨rfl, rfl⟩
        rw [uC_self, up_self] at this
        exact this
    · refine e_iconst (v := 0) dX9_lose_21 rfl ?_
      refine e_goto (tgt := 26) dX9_lose_22 rfl ?_
      refine e_istore_n (lv' := [_, _, _]) 2 dX9_lose_26 rfl (Nat.le_of_ble_eq_true rfl) rfl rfl ?_
      refine e_aload_n 0 dX9_lose_27 rfl rfl ?_
      refine e_getfield 0 dX9_lose_28 kf_X9_13_9 rfl rfl ?_
      refine e_iload_n 1 dX9_lose_31 rfl rfl ?_
      refine e_aald_n (j) dX9_lose_32 rfl (Or.inr rfl) rfl (by omega) (by decide) (sh_shs_at hj) ?_
      refine f_callVv (As := []) ok_X3_empty ⟨Nat.le_of_ble_eq_true rfl, Nat.le_of_ble_eq_true rfl⟩ dX9_lose_33 kl_X9_220 ki_X3_empty kv_X3_empty rfl rfl (mkW_sh hj) rfl (Nat.le_of_ble_eq_true rfl) (Nat.le_of_ble_eq_true rfl) (Nat.zero_add _) (Nat.zero_add _) (sp_X3_empty hj) ?_
      refine e_iload_n 2 dX9_lose_36 rfl rfl ?_
      refine e_iret dX9_lose_37 rfl ?_
      have ho : oLose b (nI j) = (if bz b j = none then 0 else 1, uZ_ b j none) := by
        rw [oLose, if_neg (nn_ (bi_1.mp h4)), nI_clamp (by omega)]
      rw [ho]
      refine ⟨_, A, Lg, P, T, rfl, ?_, ?_, FX.tr (FX.S (by omega)) (FX.S (by omega))⟩
      · first
        | (have hz : bz b j = none := shX_no hX (IV.l hI hj) (bi_1.mp h18); rw [if_pos hz])
        | (obtain ⟨z, hz⟩ : ∃ z, bz b j = some z := shX_ex hX (bi_0.mp h18); rw [if_neg (by rw [hz]; intro h; cases h)])
      · have := hR.Z hj (l := -1) (n := 0) (f := A (7 + j)) (g := bc b j) (z := none) ⟨rfl, rfl⟩
        rw [uC_self, up_self] at this
        exact this
  · refine e_iconst (v := -1) dX9_lose_7 rfl ?_
    refine e_iret dX9_lose_8 rfl ?_
    have ho : oLose b k = (-1, b) := by
      rw [oLose, if_pos (bi_0.mp h4)]
    rw [ho]
    exact ⟨S, A, Lg, P, T, rfl, rfl, hR, FX.rf⟩

set_option maxRecDepth 4000 in
theorem sp_X9_put {G : sh_G} {S : Nat → Int32} {A : Nat → Nat → Int32} {Lg : Nat → Int64} {P : Nat → Option Nat} {T : List sh_C} {b : sh_be} {k i v : Int32} (hR : RX S A Lg P T b) (hI : IV b) : Ev G mX9_put 0 0 (mkW G S A Lg P T) 0 [some (.ref 1), some (.int k), some (.int i), some (.int v)] [] (QX G S A (some (.int (oPut b k i v).1)) (oPut b k i v).2) := by
  refine e_aload_n 0 dX9_put_0 rfl rfl ?_
  refine e_iconst (v := 0) dX9_put_1 rfl ?_
  refine e_putfield 5 dX9_put_2 kp_X9_put_201_9 (sh_fit_i _) rfl (Nat.le_of_ble_eq_true rfl) ?_
  obtain ⟨S1, e0, hR, hf⟩ : ∃ S1, S1 = va_up S 0 0 ∧ RX S1 A Lg P T (uF_ b 0) ∧ FX S A S1 A := ⟨_, rfl, hR.F 0, FX.S (by omega)⟩
  refine e_w (w' := mkW G S1 A Lg P T) (by rw [e0]; rfl) ?_
  refine e_iload_n 1 dX9_put_5 rfl rfl ?_
  refine f_callSi (As := [_]) ok_X9_isSheet ⟨Nat.le_of_ble_eq_true rfl, Nat.le_of_ble_eq_true rfl⟩ dX9_put_6 kl_X9_204 ks_X9_isSheet rfl rfl (Nat.le_of_ble_eq_true rfl) (Nat.le_of_ble_eq_true rfl) (Nat.zero_add _) (Nat.zero_add _) sp_X9_isSheet ?_
  refine e_if_ne (tgt := 14) dX9_put_9 rfl (fun h9 => ?_) (fun h9 => ?_)
  · obtain ⟨j, hj, rfl⟩ := ix_of (n := 4) rfl (by omega) (bi_1.mp h9)
    have hX := hR.2.2.2.2.2.2.1 j hj
    refine e_aload_n 0 dX9_put_14 rfl rfl ?_
    refine e_getfield 0 dX9_put_15 kf_X9_13_9 rfl rfl ?_
    refine e_iload_n 1 dX9_put_18 rfl rfl ?_
    refine e_aald_n (j) dX9_put_19 rfl (Or.inr rfl) rfl (by omega) (by decide) (sh_shs_at hj) ?_
    refine f_callVi (As := []) ok_X3_hasNothing ⟨Nat.le_of_ble_eq_true rfl, Nat.le_of_ble_eq_true rfl⟩ dX9_put_20 kl_X9_216 ki_X3_hasNothing kv_X3_hasNothing rfl rfl (mkW_sh hj) rfl (Nat.le_of_ble_eq_true rfl) (Nat.le_of_ble_eq_true rfl) (Nat.zero_add _) (Nat.zero_add _) (sp_X3_hasNothing hj) ?_
    refine e_if_eq (tgt := 32) dX9_put_23 rfl (fun h23 => ?_) (fun h23 => ?_)
    · obtain ⟨z, hz⟩ : ∃ z, bz b j = some z := shX_ex hX (bi_0.mp h23)
      obtain ⟨e1, e2, e3⟩ := shX_s hX hz
      have hzl := IV.l hI hj z hz
      refine e_aload_n 0 dX9_put_32 rfl rfl ?_
      refine e_getfield 0 dX9_put_33 kf_X9_13_9 rfl rfl ?_
      refine e_iload_n 1 dX9_put_36 rfl rfl ?_
      refine e_aald_n (j) dX9_put_37 rfl (Or.inr rfl) rfl (by omega) (by decide) (sh_shs_at hj) ?_
      refine e_iload_n 2 dX9_put_38 rfl rfl ?_
      refine e_iconst (v := 1) dX9_put_39 rfl ?_
      refine f_callVi (As := [_, _]) ok_X3_has ⟨Nat.le_of_ble_eq_true rfl, Nat.le_of_ble_eq_true rfl⟩ dX9_put_40 kl_X9_223 ki_X3_has kv_X3_has rfl rfl (mkW_sh hj) rfl (Nat.le_of_ble_eq_true rfl) (Nat.le_of_ble_eq_true rfl) (Nat.zero_add _) (Nat.zero_add _) (sp_X3_has hj) ?_
      refine e_if_ne (tgt := 52) dX9_put_43 rfl (fun h43 => ?_) (fun h43 => ?_)
      · rw [e2] at h43
        obtain ⟨q, hq, rfl⟩ := ix_of (x := i) (n := z.2) rfl (by omega) (has1b (by omega) (bi_1.mp h43))
        refine e_aload_n 0 dX9_put_52 rfl rfl ?_
        refine e_getfield 0 dX9_put_53 kf_X9_13_9 rfl rfl ?_
        refine e_iload_n 1 dX9_put_56 rfl rfl ?_
        refine e_aald_n (j) dX9_put_57 rfl (Or.inr rfl) rfl (by omega) (by decide) (sh_shs_at hj) ?_
        refine e_getfield 0 dX9_put_58 kf_X9_52_3 (mkW_sh hj) rfl ?_
        refine e_iload_n 2 dX9_put_61 rfl rfl ?_
        refine e_aload_n 0 dX9_put_62 rfl rfl ?_
        refine e_getfield 0 dX9_put_63 kf_X9_13_9 rfl rfl ?_
        refine e_iload_n 1 dX9_put_66 rfl rfl ?_
        refine e_aald_n (j) dX9_put_67 rfl (Or.inr rfl) rfl (by omega) (by decide) (sh_shs_at hj) ?_
        refine e_iload_n 3 dX9_put_68 rfl rfl ?_
        refine f_callVi (As := [_]) ok_X3_cut ⟨Nat.le_of_ble_eq_true rfl, Nat.le_of_ble_eq_true rfl⟩ dX9_put_69 kl_X9_227 ki_X3_cut kv_X3_cut rfl rfl (mkW_sh hj) rfl (Nat.le_of_ble_eq_true rfl) (Nat.le_of_ble_eq_true rfl) (Nat.zero_add _) (Nat.zero_add _) (sp_X3_cut hj) ?_
        refine e_iast_n (q) dX9_put_72 (mkW_sc hj) rfl (by omega) (by decide) ?_
        refine e_w (mkW_sc_set hj _) ?_
        refine e_iconst (v := 1) dX9_put_73 rfl ?_
        refine e_iret dX9_put_74 rfl ?_
        have ho : oPut b (nI j) (nI q) v = (1, uF_ (uC_ b j (upd (bc b j) q (cutI z.1 v))) 0) := by
          rw [oPut, if_neg (nn_ (bi_1.mp h9)), nI_clamp (by omega), nI_clamp (by omega), hz]
          simp only []
          rw [if_neg (nn_ (has1b (by omega) (bi_1.mp h43)))]
        rw [ho]
        refine ⟨S1, _, Lg, P, T, rfl, rfl, ?_, hf.tr (FX.A (by omega))⟩
        exact hR.C hj (z := z) hz (fun i hi => by unfold upd; by_cases h : i = q
                                                  · rw [if_pos h, if_pos h, e1, cutI_e (by omega)]
                                                  · rw [if_neg h, if_neg h]; exact e3 i hi)
      · refine e_aload_n 0 dX9_put_46 rfl rfl ?_
        refine e_iconst (v := 3) dX9_put_47 rfl ?_
        refine f_callVi (As := [_]) ok_X9_faulted ⟨Nat.le_of_ble_eq_true rfl, Nat.le_of_ble_eq_true rfl⟩ dX9_put_48 kl_X9_210 ki_X9_faulted kv_X9_faulted rfl rfl rfl rfl (Nat.le_of_ble_eq_true rfl) (Nat.le_of_ble_eq_true rfl) (Nat.zero_add _) (Nat.zero_add _) sp_X9_faulted ?_
        refine e_iret dX9_put_51 rfl ?_
        rw [e2] at h43
        have ho : oPut b (nI j) i v = (-13, uF_ b 3) := by
          rw [oPut, if_neg (nn_ (bi_1.mp h9)), nI_clamp (by omega), hz]
          simp only []
          rw [if_pos (fun h => bi_0.mp h43 (has1 (by omega) h))]
        rw [ho]
        exact ⟨va_up S1 0 3, A, Lg, P, T, rfl, rfl, hR.F 3, hf.tr (FX.S (by omega))⟩
    · have hz : bz b j = none := shX_no hX (IV.l hI hj) (bi_1.mp h23)
      refine e_aload_n 0 dX9_put_26 rfl rfl ?_
      refine e_iconst (v := 1) dX9_put_27 rfl ?_
      refine f_callVi (As := [_]) ok_X9_faulted ⟨Nat.le_of_ble_eq_true rfl, Nat.le_of_ble_eq_true rfl⟩ dX9_put_28 kl_X9_210 ki_X9_faulted kv_X9_faulted rfl rfl rfl rfl (Nat.le_of_ble_eq_true rfl) (Nat.le_of_ble_eq_true rfl) (Nat.zero_add _) (Nat.zero_add _) sp_X9_faulted ?_
      refine e_iret dX9_put_31 rfl ?_
      have ho : oPut b (nI j) i v = (-11, uF_ b 1) := by
        rw [oPut, if_neg (nn_ (bi_1.mp h9)), nI_clamp (by omega), hz]
      rw [ho]
      exact ⟨va_up S1 0 1, A, Lg, P, T, rfl, rfl, hR.F 1, hf.tr (FX.S (by omega))⟩
  · refine e_iconst (v := -1) dX9_put_12 rfl ?_
    refine e_iret dX9_put_13 rfl ?_
    have ho : oPut b k i v = (-1, uF_ b 0) := by
      rw [oPut, if_pos (bi_0.mp h9)]
    rw [ho]
    exact ⟨S1, A, Lg, P, T, rfl, rfl, hR, hf⟩

set_option maxRecDepth 4000 in
theorem sp_X9_cell {G : sh_G} {S : Nat → Int32} {A : Nat → Nat → Int32} {Lg : Nat → Int64} {P : Nat → Option Nat} {T : List sh_C} {b : sh_be} {k i lane : Int32} (hR : RX S A Lg P T b) (hI : IV b) : Ev G mX9_cell 0 0 (mkW G S A Lg P T) 0 [some (.ref 1), some (.int k), some (.int i), some (.int lane)] [] (QX G S A (some (.long (oCell b k i lane).1)) (oCell b k i lane).2) := by
  refine e_aload_n 0 dX9_cell_0 rfl rfl ?_
  refine e_iload_n 1 dX9_cell_1 rfl rfl ?_
  refine e_iload_n 3 dX9_cell_2 rfl rfl ?_
  refine e_iload_n 2 dX9_cell_3 rfl rfl ?_
  refine e_iconst (v := 1) dX9_cell_4 rfl ?_
  refine f_callVi (As := [_, _, _, _]) ok_X9_cellsRefused ⟨Nat.le_of_ble_eq_true rfl, Nat.le_of_ble_eq_true rfl⟩ dX9_cell_5 kl_X9_46 ki_X9_cellsRefused kv_X9_cellsRefused rfl rfl rfl rfl (Nat.le_of_ble_eq_true rfl) (Nat.le_of_ble_eq_true rfl) (Nat.zero_add _) (Nat.zero_add _) (sp_X9_cellsRefused hR hI) ?_
  refine e_if_eq (tgt := 17) dX9_cell_8 rfl (fun h8 => ?_) (fun h8 => ?_)
  · obtain ⟨j, hj, rfl, z, hz, q, hq, rfl⟩ := oRef_ok1 hI h8
    obtain ⟨e1, e2, e3⟩ := shX_s (hR.2.2.2.2.2.2.1 j hj) hz
    have hzl := IV.l hI hj z hz
    refine e_aload_n 0 dX9_cell_17 rfl rfl ?_
    refine e_getfield 0 dX9_cell_18 kf_X9_13_9 rfl rfl ?_
    refine e_iload_n 1 dX9_cell_21 rfl rfl ?_
    refine e_aald_n (j) dX9_cell_22 rfl (Or.inr rfl) rfl (by omega) (by decide) (sh_shs_at hj) ?_
    refine e_getfield 0 dX9_cell_23 kf_X9_52_3 (mkW_sh hj) rfl ?_
    refine e_iload_n 2 dX9_cell_26 rfl rfl ?_
    refine e_iald_n (q) dX9_cell_27 (mkW_sc hj) rfl (by omega) (by decide) ?_
    refine e_i2l dX9_cell_28 ?_
    refine e_lret dX9_cell_29 rfl ?_
    first
    | (rw [oCell, if_neg h8]; exact ⟨_, A, Lg, P, T, rfl, rfl, hR.F _, FX.S (by omega)⟩)
    | (rw [oCell, if_pos h8, h8, nI_clamp (by omega), nI_clamp (by omega)]; exact ⟨_, A, Lg, P, T, rfl, by rw [e3 q hq], hR.F 0, FX.S (by omega)⟩)
  · refine e_ldc2 dX9_cell_11 kc_X9_230 ?_
    refine e_goto (tgt := 29) dX9_cell_14 rfl ?_
    refine e_lret dX9_cell_29 rfl ?_
    first
    | (rw [oCell, if_neg h8]; exact ⟨_, A, Lg, P, T, rfl, rfl, hR.F _, FX.S (by omega)⟩)
    | (rw [oCell, if_pos h8, h8, nI_clamp (by omega), nI_clamp (by omega)]; exact ⟨_, A, Lg, P, T, rfl, by rw [e3 q hq], hR.F 0, FX.S (by omega)⟩)

set_option maxRecDepth 4000 in
theorem sp_X9_copy {G : sh_G} {S : Nat → Int32} {A : Nat → Nat → Int32} {Lg : Nat → Int64} {P : Nat → Option Nat} {T : List sh_C} {b : sh_be} {k i o j n : Int32} (hR : RX S A Lg P T b) (hI : IV b) : Ev G mX9_copy 0 0 (mkW G S A Lg P T) 0 [some (.ref 1), some (.int k), some (.int i), some (.int o), some (.int j), some (.int n), none, none] [] (QX G S A (some (.int (oCopy b k i o j n).1)) (oCopy b k i o j n).2) := by
  refine e_aload_n 0 dX9_copy_0 rfl rfl ?_
  refine e_iconst (v := 0) dX9_copy_1 rfl ?_
  refine e_putfield 5 dX9_copy_2 kp_X9_copy_201_9 (sh_fit_i _) rfl (Nat.le_of_ble_eq_true rfl) ?_
  obtain ⟨S1, e0, hR, hf⟩ : ∃ S1, S1 = va_up S 0 0 ∧ RX S1 A Lg P T (uF_ b 0) ∧ FX S A S1 A := ⟨_, rfl, hR.F 0, FX.S (by omega)⟩
  refine e_w (w' := mkW G S1 A Lg P T) (by rw [e0]; rfl) ?_
  refine e_iload_n 1 dX9_copy_5 rfl rfl ?_
  refine f_callSi (As := [_]) ok_X9_isSheet ⟨Nat.le_of_ble_eq_true rfl, Nat.le_of_ble_eq_true rfl⟩ dX9_copy_6 kl_X9_204 ks_X9_isSheet rfl rfl (Nat.le_of_ble_eq_true rfl) (Nat.le_of_ble_eq_true rfl) (Nat.zero_add _) (Nat.zero_add _) sp_X9_isSheet ?_
  refine e_if_eq (tgt := 19) dX9_copy_9 rfl (fun h9 => ?_) (fun h9 => ?_)
  · refine e_iconst (v := -1) dX9_copy_19 rfl ?_
    refine e_iret dX9_copy_20 rfl ?_
    have ho : oCopy b k i o j n = (-1, uF_ b 0) := by
      first | rw [oCopy, if_pos (Or.inl (bi_0.mp h9))] | rw [oCopy, if_pos (Or.inr (bi_0.mp h16))]
    rw [ho]
    exact ⟨S1, A, Lg, P, T, rfl, rfl, hR, hf⟩
  · refine e_iload_n 3 dX9_copy_12 rfl rfl ?_
    refine f_callSi (As := [_]) ok_X9_isSheet ⟨Nat.le_of_ble_eq_true rfl, Nat.le_of_ble_eq_true rfl⟩ dX9_copy_13 kl_X9_204 ks_X9_isSheet rfl rfl (Nat.le_of_ble_eq_true rfl) (Nat.le_of_ble_eq_true rfl) (Nat.zero_add _) (Nat.zero_add _) sp_X9_isSheet ?_
    refine e_if_ne (tgt := 21) dX9_copy_16 rfl (fun h16 => ?_) (fun h16 => ?_)
    · have hko : ¬ (¬ (¬ k < 0 ∧ ¬ 4 ≤ k) ∨ ¬ (¬ o < 0 ∧ ¬ 4 ≤ o)) := fun h => h.elim (fun h => h (bi_1.mp h9)) (fun h => h (bi_1.mp h16))
      obtain ⟨x, hx, rfl⟩ := ix_of (n := 4) rfl (by omega) (bi_1.mp h9)
      obtain ⟨y, hy, rfl⟩ := ix_of (n := 4) rfl (by omega) (bi_1.mp h16)
      have hX := hR.2.2.2.2.2.2.1 x hx
      have hY := hR.2.2.2.2.2.2.1 y hy
      refine e_aload_n 0 dX9_copy_21 rfl rfl ?_
      refine e_getfield 0 dX9_copy_22 kf_X9_13_9 rfl rfl ?_
      refine e_iload_n 1 dX9_copy_25 rfl rfl ?_
      refine e_aald_n (x) dX9_copy_26 rfl (Or.inr rfl) rfl (by omega) (by decide) (sh_shs_at hx) ?_
      refine e_astore (lv' := [_, _, _, _, _, _, _, _]) dX9_copy_27 (Nat.le_of_ble_eq_true rfl) rfl rfl ?_
      refine e_aload_n 0 dX9_copy_29 rfl rfl ?_
      refine e_getfield 0 dX9_copy_30 kf_X9_13_9 rfl rfl ?_
      refine e_iload_n 3 dX9_copy_33 rfl rfl ?_
      refine e_aald_n (y) dX9_copy_34 rfl (Or.inr rfl) rfl (by omega) (by decide) (sh_shs_at hy) ?_
      refine e_astore (lv' := [_, _, _, _, _, _, _, _]) dX9_copy_35 (Nat.le_of_ble_eq_true rfl) rfl rfl ?_
      refine e_aload dX9_copy_37 rfl ?_
      refine f_callVi (As := []) ok_X3_hasNothing ⟨Nat.le_of_ble_eq_true rfl, Nat.le_of_ble_eq_true rfl⟩ dX9_copy_39 kl_X9_216 ki_X3_hasNothing kv_X3_hasNothing rfl rfl (mkW_sh hx) rfl (Nat.le_of_ble_eq_true rfl) (Nat.le_of_ble_eq_true rfl) (Nat.zero_add _) (Nat.zero_add _) (sp_X3_hasNothing hx) ?_
      refine e_if_ne (tgt := 53) dX9_copy_42 rfl (fun h42 => ?_) (fun h42 => ?_)
      · refine e_aload_n 0 dX9_copy_53 rfl rfl ?_
        refine e_iconst (v := 1) dX9_copy_54 rfl ?_
        refine f_callVi (As := [_]) ok_X9_faulted ⟨Nat.le_of_ble_eq_true rfl, Nat.le_of_ble_eq_true rfl⟩ dX9_copy_55 kl_X9_210 ki_X9_faulted kv_X9_faulted rfl rfl rfl rfl (Nat.le_of_ble_eq_true rfl) (Nat.le_of_ble_eq_true rfl) (Nat.zero_add _) (Nat.zero_add _) sp_X9_faulted ?_
        refine e_iret dX9_copy_58 rfl ?_
        have ho : oCopy b (nI x) i (nI y) j n = (-11, uF_ b 1) := by
          rw [oCopy, if_neg hko, nI_clamp (by omega), nI_clamp (by omega)]
          first
          | (rw [show bz b x = none from shX_no hX (IV.l hI hx) (bi_1.mp h42)])
          | (rw [show bz b y = none from shX_no hY (IV.l hI hy) (bi_1.mp h50)]; split <;> first | rfl | (rename_i h; cases h))
        rw [ho]
        exact ⟨va_up S1 0 1, A, Lg, P, T, rfl, rfl, hR.F 1, hf.tr (FX.S (by omega))⟩
      · refine e_aload dX9_copy_45 rfl ?_
        refine f_callVi (As := []) ok_X3_hasNothing ⟨Nat.le_of_ble_eq_true rfl, Nat.le_of_ble_eq_true rfl⟩ dX9_copy_47 kl_X9_216 ki_X3_hasNothing kv_X3_hasNothing rfl rfl (mkW_sh hy) rfl (Nat.le_of_ble_eq_true rfl) (Nat.le_of_ble_eq_true rfl) (Nat.zero_add _) (Nat.zero_add _) (sp_X3_hasNothing hy) ?_
        refine e_if_eq (tgt := 59) dX9_copy_50 rfl (fun h50 => ?_) (fun h50 => ?_)
        · obtain ⟨z, hz⟩ : ∃ z, bz b x = some z := shX_ex hX (bi_0.mp h42)
          obtain ⟨e1, e2, e3⟩ := shX_s hX hz
          have hzl := IV.l hI hx z hz
          obtain ⟨u, hu⟩ : ∃ z, bz b y = some z := shX_ex hY (bi_0.mp h50)
          obtain ⟨g1, g2, g3⟩ := shX_s hY hu
          have hul := IV.l hI hy u hu
          have hop : ∀ v : Int32 × sh_be, (match bz b x, bz b y with | some z, some y_1 => v | _, _ => (-11, uF_ b 1)) = v := fun v => by rw [hz, hu]
          refine e_aload dX9_copy_59 rfl ?_
          refine e_getfield 1 dX9_copy_61 kf_X9_232_3 (mkW_sh hx) rfl ?_
          refine e_aload dX9_copy_64 rfl ?_
          refine e_getfield 1 dX9_copy_66 kf_X9_232_3 (mkW_sh hy) rfl ?_
          refine e_icmp_eq (tgt := 78) dX9_copy_69 rfl (fun h69 => ?_) (fun h69 => ?_)
          · rw [e1, g1, nI_eq (by omega) (by omega)] at h69
            refine e_aload dX9_copy_78 rfl ?_
            refine e_iload_n 2 dX9_copy_80 rfl rfl ?_
            refine e_iload dX9_copy_81 rfl ?_
            refine f_callVi (As := [_, _]) ok_X3_has ⟨Nat.le_of_ble_eq_true rfl, Nat.le_of_ble_eq_true rfl⟩ dX9_copy_83 kl_X9_223 ki_X3_has kv_X3_has rfl rfl (mkW_sh hx) rfl (Nat.le_of_ble_eq_true rfl) (Nat.le_of_ble_eq_true rfl) (Nat.zero_add _) (Nat.zero_add _) (sp_X3_has hx) ?_
            refine e_if_eq (tgt := 101) dX9_copy_86 rfl (fun h86 => ?_) (fun h86 => ?_)
            · refine e_aload_n 0 dX9_copy_101 rfl rfl ?_
              refine e_iconst (v := 3) dX9_copy_102 rfl ?_
              refine f_callVi (As := [_]) ok_X9_faulted ⟨Nat.le_of_ble_eq_true rfl, Nat.le_of_ble_eq_true rfl⟩ dX9_copy_103 kl_X9_210 ki_X9_faulted kv_X9_faulted rfl rfl rfl rfl (Nat.le_of_ble_eq_true rfl) (Nat.le_of_ble_eq_true rfl) (Nat.zero_add _) (Nat.zero_add _) sp_X9_faulted ?_
              refine e_iret dX9_copy_106 rfl ?_
              have ho : oCopy b (nI x) i (nI y) j n = (-13, uF_ b 3) := by
                rw [oCopy, if_neg hko, nI_clamp (by omega), nI_clamp (by omega), hz, hu]
                simp only []
                rw [if_neg (nn_ h69)]
                first
                | (rw [e2] at h86; rw [if_pos (Or.inl (bi_0.mp h86))])
                | (rw [g2] at h98; rw [if_pos (Or.inr (bi_0.mp h98))])
              rw [ho]
              exact ⟨va_up S1 0 3, A, Lg, P, T, rfl, rfl, hR.F 3, hf.tr (FX.S (by omega))⟩
            · refine e_aload dX9_copy_89 rfl ?_
              refine e_iload dX9_copy_91 rfl ?_
              refine e_iload dX9_copy_93 rfl ?_
              refine f_callVi (As := [_, _]) ok_X3_has ⟨Nat.le_of_ble_eq_true rfl, Nat.le_of_ble_eq_true rfl⟩ dX9_copy_95 kl_X9_223 ki_X3_has kv_X3_has rfl rfl (mkW_sh hy) rfl (Nat.le_of_ble_eq_true rfl) (Nat.le_of_ble_eq_true rfl) (Nat.zero_add _) (Nat.zero_add _) (sp_X3_has hy) ?_
              refine e_if_ne (tgt := 107) dX9_copy_98 rfl (fun h98 => ?_) (fun h98 => ?_)
              · rw [e2] at h86
                rw [g2] at h98
                obtain ⟨i1, m1, hi1, rfl, rfl⟩ := has_ok (by omega) (bi_1.mp h86)
                obtain ⟨j1, m2, hj1, rfl, hm⟩ := has_ok (by omega) (bi_1.mp h98)
                have hmm : m1 = m2 := (nI_eq (by omega) (by omega)).mp hm
                subst hmm
                refine e_aload dX9_copy_107 rfl ?_
                refine e_getfield 0 dX9_copy_109 kf_X9_52_3 (mkW_sh hx) rfl ?_
                refine e_iload_n 2 dX9_copy_112 rfl rfl ?_
                refine e_aload dX9_copy_113 rfl ?_
                refine e_getfield 0 dX9_copy_115 kf_X9_52_3 (mkW_sh hy) rfl ?_
                refine e_iload dX9_copy_118 rfl ?_
                refine e_iload dX9_copy_120 rfl ?_
                refine e_copy dX9_copy_122 kl_X9_235 kb_1 kb_2 kb_3 (Nat.le_of_ble_eq_true rfl) (Nat.le_of_ble_eq_true rfl) (mkW_sc hx) (mkW_sc hy) (nI_pos (by omega)) (nI_pos (by omega)) (nI_pos (by omega)) (by rw [nI_clamp (by omega), nI_clamp (by omega)]; omega) (by rw [nI_clamp (by omega), nI_clamp (by omega)]; omega) (Nat.le_of_ble_eq_true rfl) ?_
                refine e_w (mkW_sc_set hy _) ?_
                refine e_iload dX9_copy_125 rfl ?_
                refine e_iret dX9_copy_127 rfl ?_
                have ho : oCopy b (nI x) (nI i1) (nI y) (nI j1) (nI m1) = (nI m1, uF_ (uC_ b y (va_cpy (bc b x) (bc b y) i1 j1 m1)) 0) := by
                  rw [oCopy, if_neg hko, nI_clamp (by omega), nI_clamp (by omega), nI_clamp (by omega), nI_clamp (by omega), nI_clamp (by omega), hz, hu]
                  simp only []
                  rw [if_neg (nn_ h69), if_neg (fun h => h.elim (fun h => h (bi_1.mp h86)) (fun h => h (bi_1.mp h98)))]
                rw [ho]
                refine ⟨S1, _, Lg, P, T, rfl, rfl, ?_, hf.tr (FX.A (by omega))⟩
                rw [nI_clamp (by omega), nI_clamp (by omega), nI_clamp (by omega)]
                exact hR.C hy (z := u) hu (fun i hi => by unfold va_cpy; by_cases h : j1 ≤ i ∧ i < j1 + m1
                                                          · rw [if_pos h, if_pos h]; exact e3 _ (by omega)
                                                          · rw [if_neg h, if_neg h]; exact g3 i hi)
              · refine e_aload_n 0 dX9_copy_101 rfl rfl ?_
                refine e_iconst (v := 3) dX9_copy_102 rfl ?_
                refine f_callVi (As := [_]) ok_X9_faulted ⟨Nat.le_of_ble_eq_true rfl, Nat.le_of_ble_eq_true rfl⟩ dX9_copy_103 kl_X9_210 ki_X9_faulted kv_X9_faulted rfl rfl rfl rfl (Nat.le_of_ble_eq_true rfl) (Nat.le_of_ble_eq_true rfl) (Nat.zero_add _) (Nat.zero_add _) sp_X9_faulted ?_
                refine e_iret dX9_copy_106 rfl ?_
                have ho : oCopy b (nI x) i (nI y) j n = (-13, uF_ b 3) := by
                  rw [oCopy, if_neg hko, nI_clamp (by omega), nI_clamp (by omega), hz, hu]
                  simp only []
                  rw [if_neg (nn_ h69)]
                  first
                  | (rw [e2] at h86; rw [if_pos (Or.inl (bi_0.mp h86))])
                  | (rw [g2] at h98; rw [if_pos (Or.inr (bi_0.mp h98))])
                rw [ho]
                exact ⟨va_up S1 0 3, A, Lg, P, T, rfl, rfl, hR.F 3, hf.tr (FX.S (by omega))⟩
          · rw [e1, g1, nI_eq (by omega) (by omega)] at h69
            refine e_aload_n 0 dX9_copy_72 rfl rfl ?_
            refine e_iconst (v := 2) dX9_copy_73 rfl ?_
            refine f_callVi (As := [_]) ok_X9_faulted ⟨Nat.le_of_ble_eq_true rfl, Nat.le_of_ble_eq_true rfl⟩ dX9_copy_74 kl_X9_210 ki_X9_faulted kv_X9_faulted rfl rfl rfl rfl (Nat.le_of_ble_eq_true rfl) (Nat.le_of_ble_eq_true rfl) (Nat.zero_add _) (Nat.zero_add _) sp_X9_faulted ?_
            refine e_iret dX9_copy_77 rfl ?_
            have ho : oCopy b (nI x) i (nI y) j n = (-12, uF_ b 2) := by
              rw [oCopy, if_neg hko, nI_clamp (by omega), nI_clamp (by omega), hz, hu]
              simp only []
              rw [if_pos h69]
            rw [ho]
            exact ⟨va_up S1 0 2, A, Lg, P, T, rfl, rfl, hR.F 2, hf.tr (FX.S (by omega))⟩
        · refine e_aload_n 0 dX9_copy_53 rfl rfl ?_
          refine e_iconst (v := 1) dX9_copy_54 rfl ?_
          refine f_callVi (As := [_]) ok_X9_faulted ⟨Nat.le_of_ble_eq_true rfl, Nat.le_of_ble_eq_true rfl⟩ dX9_copy_55 kl_X9_210 ki_X9_faulted kv_X9_faulted rfl rfl rfl rfl (Nat.le_of_ble_eq_true rfl) (Nat.le_of_ble_eq_true rfl) (Nat.zero_add _) (Nat.zero_add _) sp_X9_faulted ?_
          refine e_iret dX9_copy_58 rfl ?_
          have ho : oCopy b (nI x) i (nI y) j n = (-11, uF_ b 1) := by
            rw [oCopy, if_neg hko, nI_clamp (by omega), nI_clamp (by omega)]
            first
            | (rw [show bz b x = none from shX_no hX (IV.l hI hx) (bi_1.mp h42)])
            | (rw [show bz b y = none from shX_no hY (IV.l hI hy) (bi_1.mp h50)]; split <;> first | rfl | (rename_i h; cases h))
          rw [ho]
          exact ⟨va_up S1 0 1, A, Lg, P, T, rfl, rfl, hR.F 1, hf.tr (FX.S (by omega))⟩
    · refine e_iconst (v := -1) dX9_copy_19 rfl ?_
      refine e_iret dX9_copy_20 rfl ?_
      have ho : oCopy b k i o j n = (-1, uF_ b 0) := by
        first | rw [oCopy, if_pos (Or.inl (bi_0.mp h9))] | rw [oCopy, if_pos (Or.inr (bi_0.mp h16))]
      rw [ho]
      exact ⟨S1, A, Lg, P, T, rfl, rfl, hR, hf⟩
