set_option maxRecDepth 4000 in
theorem sp_X10_lose {G : sh_G} {S : Nat → Int32} {A : Nat → Nat → Int32} {Lg : Nat → Int64} {P : Nat → Option Nat} {T : List sh_C} {b : sh_be} {k : Int32} (hR : RM S A b) (hI : IV b) : Ev G mX10_lose 0 0 (mkW G S A Lg P T) 0 [some (.ref 24), some (.int k), none] [] (QM G S A Lg P T (some (.int (oLose b k).1)) (oLose b k).2) := by
  refine e_iload_n 1 dX10_lose_0 rfl rfl ?_
  refine f_callSi (As := [_]) ok_X10_noSheet ⟨Nat.le_of_ble_eq_true rfl, Nat.le_of_ble_eq_true rfl⟩ dX10_lose_1 kl_X10_87 ks_X10_noSheet rfl rfl (Nat.le_of_ble_eq_true rfl) (Nat.le_of_ble_eq_true rfl) (Nat.zero_add _) (Nat.zero_add _) sp_X10_noSheet ?_
  refine e_if_eq (tgt := 9) dX10_lose_4 rfl (fun h4 => ?_) (fun h4 => ?_)
  · obtain ⟨j, hj, rfl⟩ := ix_of (n := 4) rfl (by omega) (Classical.not_not.mp (bi_0.mp h4))
    have hX := hR.2.2.2.2.2.2.1 j hj
    refine e_aload_n 0 dX10_lose_9 rfl rfl ?_
    refine e_getfield 30 dX10_lose_10 kf_X10_65_10 rfl rfl ?_
    refine e_iload_n 1 dX10_lose_13 rfl rfl ?_
    refine e_iald_n (j) dX10_lose_14 rfl rfl (by omega) (by decide) ?_
    refine e_if_ge (tgt := 22) dX10_lose_15 rfl (fun h15 => ?_) (fun h15 => ?_)
    · refine e_iconst (v := 1) dX10_lose_22 rfl ?_
      refine e_istore_n (lv' := [_, _, _]) 2 dX10_lose_23 rfl (Nat.le_of_ble_eq_true rfl) rfl rfl ?_
      refine e_aload_n 0 dX10_lose_24 rfl rfl ?_
      refine e_getfield 30 dX10_lose_25 kf_X10_65_10 rfl rfl ?_
      refine e_iload_n 1 dX10_lose_28 rfl rfl ?_
      refine e_iconst (v := -1) dX10_lose_29 rfl ?_
      refine e_iast_n (j) dX10_lose_30 rfl rfl (by omega) (by decide) ?_
      refine e_w (w' := mkW G S (va_up A 38 (upd (A 38) j (-1))) Lg P T) rfl ?_
      refine e_iload_n 2 dX10_lose_31 rfl rfl ?_
      refine e_iret dX10_lose_32 rfl ?_
      have ho : oLose b (nI j) = (if bz b j = none then 0 else 1, uZ_ b j none) := by
        rw [oLose, if_neg (bi_0.mp h4), nI_clamp (by omega)]
      rw [ho]
      refine ⟨_, _, rfl, ?_, ?_, FM.A (by omega)⟩
      · first
        | (have hz : bz b j = none := shM_no hX (IV.m hI) hj h15; rw [if_pos hz])
        | (obtain ⟨z, hz⟩ : ∃ z, bz b j = some z := shM_ex hX h15; rw [if_neg (by rw [hz]; intro h; cases h)])
      · have := hR.Z (A' := va_up A 38 (upd (A 38) j (-1))) hj (g := bc b j) (z := none) (fun i hi => by rw [up_ne (by omega)]) (fun y hy => ⟨by rw [up_eq]; exact if_neg hy, by rw [up_ne (by omega)], fun i hi => by rw [up_ne (by omega)]⟩) (IV.m hI) (by show va_up A 38 (upd (A 38) j (-1)) 38 j = -1; rw [up_eq]; exact if_pos rfl)
        rw [uC_self] at this
        exact this
    · refine e_iconst (v := 0) dX10_lose_18 rfl ?_
      refine e_goto (tgt := 23) dX10_lose_19 rfl ?_
      refine e_istore_n (lv' := [_, _, _]) 2 dX10_lose_23 rfl (Nat.le_of_ble_eq_true rfl) rfl rfl ?_
      refine e_aload_n 0 dX10_lose_24 rfl rfl ?_
      refine e_getfield 30 dX10_lose_25 kf_X10_65_10 rfl rfl ?_
      refine e_iload_n 1 dX10_lose_28 rfl rfl ?_
      refine e_iconst (v := -1) dX10_lose_29 rfl ?_
      refine e_iast_n (j) dX10_lose_30 rfl rfl (by omega) (by decide) ?_
      refine e_w (w' := mkW G S (va_up A 38 (upd (A 38) j (-1))) Lg P T) rfl ?_
      refine e_iload_n 2 dX10_lose_31 rfl rfl ?_
      refine e_iret dX10_lose_32 rfl ?_
      have ho : oLose b (nI j) = (if bz b j = none then 0 else 1, uZ_ b j none) := by
        rw [oLose, if_neg (bi_0.mp h4), nI_clamp (by omega)]
      rw [ho]
      refine ⟨_, _, rfl, ?_, ?_, FM.A (by omega)⟩
      · first
        | (have hz : bz b j = none := shM_no hX (IV.m hI) hj h15; rw [if_pos hz])
        | (obtain ⟨z, hz⟩ : ∃ z, bz b j = some z := shM_ex hX h15; rw [if_neg (by rw [hz]; intro h; cases h)])
      · have := hR.Z (A' := va_up A 38 (upd (A 38) j (-1))) hj (g := bc b j) (z := none) (fun i hi => by rw [up_ne (by omega)]) (fun y hy => ⟨by rw [up_eq]; exact if_neg hy, by rw [up_ne (by omega)], fun i hi => by rw [up_ne (by omega)]⟩) (IV.m hI) (by show va_up A 38 (upd (A 38) j (-1)) 38 j = -1; rw [up_eq]; exact if_pos rfl)
        rw [uC_self] at this
        exact this
  · refine e_iconst (v := -1) dX10_lose_7 rfl ?_
    refine e_iret dX10_lose_8 rfl ?_
    have ho : oLose b k = (-1, b) := by
      rw [oLose, if_pos (bi_1.mp h4)]
    rw [ho]
    exact ⟨S, A, rfl, rfl, hR, FM.rf⟩

set_option maxRecDepth 4000 in
theorem sp_X10_put {G : sh_G} {S : Nat → Int32} {A : Nat → Nat → Int32} {Lg : Nat → Int64} {P : Nat → Option Nat} {T : List sh_C} {b : sh_be} {k i v : Int32} (hR : RM S A b) (hI : IV b) : Ev G mX10_put 0 0 (mkW G S A Lg P T) 0 [some (.ref 24), some (.int k), some (.int i), some (.int v)] [] (QM G S A Lg P T (some (.int (oPut b k i v).1)) (oPut b k i v).2) := by
  refine e_iload_n 1 dX10_put_0 rfl rfl ?_
  refine f_callSi (As := [_]) ok_X10_noSheet ⟨Nat.le_of_ble_eq_true rfl, Nat.le_of_ble_eq_true rfl⟩ dX10_put_1 kl_X10_87 ks_X10_noSheet rfl rfl (Nat.le_of_ble_eq_true rfl) (Nat.le_of_ble_eq_true rfl) (Nat.zero_add _) (Nat.zero_add _) sp_X10_noSheet ?_
  refine e_if_eq (tgt := 13) dX10_put_4 rfl (fun h4 => ?_) (fun h4 => ?_)
  · obtain ⟨j, hj, rfl⟩ := ix_of (n := 4) rfl (by omega) (Classical.not_not.mp (bi_0.mp h4))
    have hX := hR.2.2.2.2.2.2.1 j hj
    refine e_aload_n 0 dX10_put_13 rfl rfl ?_
    refine e_iload_n 1 dX10_put_14 rfl rfl ?_
    refine e_iload_n 2 dX10_put_15 rfl rfl ?_
    refine f_callVi (As := [_, _]) ok_X10_noCell ⟨Nat.le_of_ble_eq_true rfl, Nat.le_of_ble_eq_true rfl⟩ dX10_put_16 kl_X10_265 ki_X10_noCell kv_X10_noCell rfl rfl rfl rfl (Nat.le_of_ble_eq_true rfl) (Nat.le_of_ble_eq_true rfl) (Nat.zero_add _) (Nat.zero_add _) (sp_X10_noCell hR hI hj) ?_
    refine e_if_le (tgt := 33) dX10_put_19 rfl (fun h19 => ?_) (fun h19 => ?_)
    · obtain ⟨z, hz, q, hq, rfl⟩ := nCl_ok hI hj h19
      have hzl := IV.l hI hj z hz
      obtain ⟨e1, e2, e3⟩ := shM_s hX hz
      refine e_aload_n 0 dX10_put_33 rfl rfl ?_
      refine e_getfield 32 dX10_put_34 kf_X10_71_10 rfl rfl ?_
      refine e_bipush (v := 60) dX10_put_37 (by decide) ?_
      refine e_iload_n 1 dX10_put_39 rfl rfl ?_
      refine e_imul dX10_put_40 ?_
      refine e_iload_n 2 dX10_put_41 rfl rfl ?_
      refine e_iadd dX10_put_42 ?_
      refine e_aload_n 0 dX10_put_43 rfl rfl ?_
      refine e_getfield 31 dX10_put_44 kf_X10_68_10 rfl rfl ?_
      refine e_iload_n 1 dX10_put_47 rfl rfl ?_
      refine e_iald_n (j) dX10_put_48 rfl rfl (by omega) (by decide) ?_
      refine e_if_ne (tgt := 57) dX10_put_49 rfl (fun h49 => ?_) (fun h49 => ?_)
      · refine e_aload_n 0 dX10_put_57 rfl rfl ?_
        refine e_getfield 31 dX10_put_58 kf_X10_68_10 rfl rfl ?_
        refine e_iload_n 1 dX10_put_61 rfl rfl ?_
        refine e_iald_n (j) dX10_put_62 rfl rfl (by omega) (by decide) ?_
        refine e_iconst (v := 1) dX10_put_63 rfl ?_
        refine e_icmp_ne (tgt := 72) dX10_put_64 rfl (fun h64 => ?_) (fun h64 => ?_)
        · refine e_iload_n 3 dX10_put_72 rfl rfl ?_
          rw [mul60]
          refine e_iast_n (60 * j + q) dX10_put_73 rfl rfl (by omega) (by decide) ?_
          refine e_w (w' := mkW G S (va_up A 40 (upd (A 40) (60 * j + q) _)) Lg P T) rfl ?_
          refine e_aload_n 0 dX10_put_74 rfl rfl ?_
          refine e_iconst (v := 1) dX10_put_75 rfl ?_
          refine f_callVi (As := [_]) ok_X10_refused ⟨Nat.le_of_ble_eq_true rfl, Nat.le_of_ble_eq_true rfl⟩ dX10_put_76 kl_X10_91 ki_X10_refused kv_X10_refused rfl rfl rfl rfl (Nat.le_of_ble_eq_true rfl) (Nat.le_of_ble_eq_true rfl) (Nat.zero_add _) (Nat.zero_add _) sp_X10_refused ?_
          refine e_iret dX10_put_79 rfl ?_
          first
          | (rw [e2] at h49; have g49 := (nI_eq (a := z.1) (b := 0) (by omega) (by omega)).mp h49
             have ho : oPut b (nI j) (nI q) v = (1, uF_ (uC_ b j (upd (bc b j) q (cutI z.1 v))) 0) := by
               rw [oPut, if_neg (bi_0.mp h4), nI_clamp (by omega), nI_clamp (by omega), hz]
               simp only []
               rw [if_neg (nn_ ⟨nI_pos (by omega), nI_ge (by omega) (by omega)⟩)]
             rw [ho]
             refine ⟨_, _, rfl, rfl, RM.F (b := uC_ b j (upd (bc b j) q (cutI z.1 v))) (hR.C hj (IV.m hI) hz (fun y i hy hi => if_neg (by omega)) (fun i hi => ?_)) 0, (FM.S (by omega)).tr (FM.A (by omega))⟩
             unfold upd
             by_cases h : i = q
             · subst h; rw [if_pos rfl, if_pos rfl]; unfold cutI; rw [if_pos g49]
             · rw [if_neg (by omega), if_neg h]; exact e3 i hi)
          | (rw [e2] at h49 h64; have g49 : ¬ z.1 = 0 := fun h => h49 (by rw [h]; rfl)
             have g64 := (nI_eq (a := z.1) (b := 1) (by omega) (by omega)).mp h64
             have ho : oPut b (nI j) (nI q) v = (1, uF_ (uC_ b j (upd (bc b j) q (cutI z.1 v))) 0) := by
               rw [oPut, if_neg (bi_0.mp h4), nI_clamp (by omega), nI_clamp (by omega), hz]
               simp only []
               rw [if_neg (nn_ ⟨nI_pos (by omega), nI_ge (by omega) (by omega)⟩)]
             rw [ho]
             refine ⟨_, _, rfl, rfl, RM.F (b := uC_ b j (upd (bc b j) q (cutI z.1 v))) (hR.C hj (IV.m hI) hz (fun y i hy hi => if_neg (by omega)) (fun i hi => ?_)) 0, (FM.S (by omega)).tr (FM.A (by omega))⟩
             unfold upd
             by_cases h : i = q
             · subst h; rw [if_pos rfl, if_pos rfl]; unfold cutI; rw [if_neg g49, if_pos g64]
             · rw [if_neg (by omega), if_neg h]; exact e3 i hi)
          | (rw [e2] at h49 h64; have g49 : ¬ z.1 = 0 := fun h => h49 (by rw [h]; rfl)
             have g64 : ¬ z.1 = 1 := fun h => h64 (by rw [h]; rfl)
             have ho : oPut b (nI j) (nI q) v = (1, uF_ (uC_ b j (upd (bc b j) q (cutI z.1 v))) 0) := by
               rw [oPut, if_neg (bi_0.mp h4), nI_clamp (by omega), nI_clamp (by omega), hz]
               simp only []
               rw [if_neg (nn_ ⟨nI_pos (by omega), nI_ge (by omega) (by omega)⟩)]
             rw [ho]
             refine ⟨_, _, rfl, rfl, RM.F (b := uC_ b j (upd (bc b j) q (cutI z.1 v))) (hR.C hj (IV.m hI) hz (fun y i hy hi => if_neg (by omega)) (fun i hi => ?_)) 0, (FM.S (by omega)).tr (FM.A (by omega))⟩
             unfold upd
             by_cases h : i = q
             · subst h; rw [if_pos rfl, if_pos rfl]; unfold cutI; rw [if_neg g49, if_neg g64]
             · rw [if_neg (by omega), if_neg h]; exact e3 i hi)
        · refine e_iload_n 3 dX10_put_67 rfl rfl ?_
          refine e_i2s dX10_put_68 ?_
          refine e_goto (tgt := 73) dX10_put_69 rfl ?_
          rw [mul60]
          refine e_iast_n (60 * j + q) dX10_put_73 rfl rfl (by omega) (by decide) ?_
          refine e_w (w' := mkW G S (va_up A 40 (upd (A 40) (60 * j + q) _)) Lg P T) rfl ?_
          refine e_aload_n 0 dX10_put_74 rfl rfl ?_
          refine e_iconst (v := 1) dX10_put_75 rfl ?_
          refine f_callVi (As := [_]) ok_X10_refused ⟨Nat.le_of_ble_eq_true rfl, Nat.le_of_ble_eq_true rfl⟩ dX10_put_76 kl_X10_91 ki_X10_refused kv_X10_refused rfl rfl rfl rfl (Nat.le_of_ble_eq_true rfl) (Nat.le_of_ble_eq_true rfl) (Nat.zero_add _) (Nat.zero_add _) sp_X10_refused ?_
          refine e_iret dX10_put_79 rfl ?_
          first
          | (rw [e2] at h49; have g49 := (nI_eq (a := z.1) (b := 0) (by omega) (by omega)).mp h49
             have ho : oPut b (nI j) (nI q) v = (1, uF_ (uC_ b j (upd (bc b j) q (cutI z.1 v))) 0) := by
               rw [oPut, if_neg (bi_0.mp h4), nI_clamp (by omega), nI_clamp (by omega), hz]
               simp only []
               rw [if_neg (nn_ ⟨nI_pos (by omega), nI_ge (by omega) (by omega)⟩)]
             rw [ho]
             refine ⟨_, _, rfl, rfl, RM.F (b := uC_ b j (upd (bc b j) q (cutI z.1 v))) (hR.C hj (IV.m hI) hz (fun y i hy hi => if_neg (by omega)) (fun i hi => ?_)) 0, (FM.S (by omega)).tr (FM.A (by omega))⟩
             unfold upd
             by_cases h : i = q
             · subst h; rw [if_pos rfl, if_pos rfl]; unfold cutI; rw [if_pos g49]
             · rw [if_neg (by omega), if_neg h]; exact e3 i hi)
          | (rw [e2] at h49 h64; have g49 : ¬ z.1 = 0 := fun h => h49 (by rw [h]; rfl)
             have g64 := (nI_eq (a := z.1) (b := 1) (by omega) (by omega)).mp h64
             have ho : oPut b (nI j) (nI q) v = (1, uF_ (uC_ b j (upd (bc b j) q (cutI z.1 v))) 0) := by
               rw [oPut, if_neg (bi_0.mp h4), nI_clamp (by omega), nI_clamp (by omega), hz]
               simp only []
               rw [if_neg (nn_ ⟨nI_pos (by omega), nI_ge (by omega) (by omega)⟩)]
             rw [ho]
             refine ⟨_, _, rfl, rfl, RM.F (b := uC_ b j (upd (bc b j) q (cutI z.1 v))) (hR.C hj (IV.m hI) hz (fun y i hy hi => if_neg (by omega)) (fun i hi => ?_)) 0, (FM.S (by omega)).tr (FM.A (by omega))⟩
             unfold upd
             by_cases h : i = q
             · subst h; rw [if_pos rfl, if_pos rfl]; unfold cutI; rw [if_neg g49, if_pos g64]
             · rw [if_neg (by omega), if_neg h]; exact e3 i hi)
          | (rw [e2] at h49 h64; have g49 : ¬ z.1 = 0 := fun h => h49 (by rw [h]; rfl)
             have g64 : ¬ z.1 = 1 := fun h => h64 (by rw [h]; rfl)
             have ho : oPut b (nI j) (nI q) v = (1, uF_ (uC_ b j (upd (bc b j) q (cutI z.1 v))) 0) := by
               rw [oPut, if_neg (bi_0.mp h4), nI_clamp (by omega), nI_clamp (by omega), hz]
               simp only []
               rw [if_neg (nn_ ⟨nI_pos (by omega), nI_ge (by omega) (by omega)⟩)]
             rw [ho]
             refine ⟨_, _, rfl, rfl, RM.F (b := uC_ b j (upd (bc b j) q (cutI z.1 v))) (hR.C hj (IV.m hI) hz (fun y i hy hi => if_neg (by omega)) (fun i hi => ?_)) 0, (FM.S (by omega)).tr (FM.A (by omega))⟩
             unfold upd
             by_cases h : i = q
             · subst h; rw [if_pos rfl, if_pos rfl]; unfold cutI; rw [if_neg g49, if_neg g64]
             · rw [if_neg (by omega), if_neg h]; exact e3 i hi)
      · refine e_iload_n 3 dX10_put_52 rfl rfl ?_
        refine e_i2b dX10_put_53 ?_
        refine e_goto (tgt := 73) dX10_put_54 rfl ?_
        rw [mul60]
        refine e_iast_n (60 * j + q) dX10_put_73 rfl rfl (by omega) (by decide) ?_
        refine e_w (w' := mkW G S (va_up A 40 (upd (A 40) (60 * j + q) _)) Lg P T) rfl ?_
        refine e_aload_n 0 dX10_put_74 rfl rfl ?_
        refine e_iconst (v := 1) dX10_put_75 rfl ?_
        refine f_callVi (As := [_]) ok_X10_refused ⟨Nat.le_of_ble_eq_true rfl, Nat.le_of_ble_eq_true rfl⟩ dX10_put_76 kl_X10_91 ki_X10_refused kv_X10_refused rfl rfl rfl rfl (Nat.le_of_ble_eq_true rfl) (Nat.le_of_ble_eq_true rfl) (Nat.zero_add _) (Nat.zero_add _) sp_X10_refused ?_
        refine e_iret dX10_put_79 rfl ?_
        first
        | (rw [e2] at h49; have g49 := (nI_eq (a := z.1) (b := 0) (by omega) (by omega)).mp h49
           have ho : oPut b (nI j) (nI q) v = (1, uF_ (uC_ b j (upd (bc b j) q (cutI z.1 v))) 0) := by
             rw [oPut, if_neg (bi_0.mp h4), nI_clamp (by omega), nI_clamp (by omega), hz]
             simp only []
             rw [if_neg (nn_ ⟨nI_pos (by omega), nI_ge (by omega) (by omega)⟩)]
           rw [ho]
           refine ⟨_, _, rfl, rfl, RM.F (b := uC_ b j (upd (bc b j) q (cutI z.1 v))) (hR.C hj (IV.m hI) hz (fun y i hy hi => if_neg (by omega)) (fun i hi => ?_)) 0, (FM.S (by omega)).tr (FM.A (by omega))⟩
           unfold upd
           by_cases h : i = q
           · subst h; rw [if_pos rfl, if_pos rfl]; unfold cutI; rw [if_pos g49]
           · rw [if_neg (by omega), if_neg h]; exact e3 i hi)
        | (rw [e2] at h49 h64; have g49 : ¬ z.1 = 0 := fun h => h49 (by rw [h]; rfl)
           have g64 := (nI_eq (a := z.1) (b := 1) (by omega) (by omega)).mp h64
           have ho : oPut b (nI j) (nI q) v = (1, uF_ (uC_ b j (upd (bc b j) q (cutI z.1 v))) 0) := by
             rw [oPut, if_neg (bi_0.mp h4), nI_clamp (by omega), nI_clamp (by omega), hz]
             simp only []
             rw [if_neg (nn_ ⟨nI_pos (by omega), nI_ge (by omega) (by omega)⟩)]
           rw [ho]
           refine ⟨_, _, rfl, rfl, RM.F (b := uC_ b j (upd (bc b j) q (cutI z.1 v))) (hR.C hj (IV.m hI) hz (fun y i hy hi => if_neg (by omega)) (fun i hi => ?_)) 0, (FM.S (by omega)).tr (FM.A (by omega))⟩
           unfold upd
           by_cases h : i = q
           · subst h; rw [if_pos rfl, if_pos rfl]; unfold cutI; rw [if_neg g49, if_pos g64]
           · rw [if_neg (by omega), if_neg h]; exact e3 i hi)
        | (rw [e2] at h49 h64; have g49 : ¬ z.1 = 0 := fun h => h49 (by rw [h]; rfl)
           have g64 : ¬ z.1 = 1 := fun h => h64 (by rw [h]; rfl)
           have ho : oPut b (nI j) (nI q) v = (1, uF_ (uC_ b j (upd (bc b j) q (cutI z.1 v))) 0) := by
             rw [oPut, if_neg (bi_0.mp h4), nI_clamp (by omega), nI_clamp (by omega), hz]
             simp only []
             rw [if_neg (nn_ ⟨nI_pos (by omega), nI_ge (by omega) (by omega)⟩)]
           rw [ho]
           refine ⟨_, _, rfl, rfl, RM.F (b := uC_ b j (upd (bc b j) q (cutI z.1 v))) (hR.C hj (IV.m hI) hz (fun y i hy hi => if_neg (by omega)) (fun i hi => ?_)) 0, (FM.S (by omega)).tr (FM.A (by omega))⟩
           unfold upd
           by_cases h : i = q
           · subst h; rw [if_pos rfl, if_pos rfl]; unfold cutI; rw [if_neg g49, if_neg g64]
           · rw [if_neg (by omega), if_neg h]; exact e3 i hi)
    · refine e_aload_n 0 dX10_put_22 rfl rfl ?_
      refine e_aload_n 0 dX10_put_23 rfl rfl ?_
      refine e_iload_n 1 dX10_put_24 rfl rfl ?_
      refine e_iload_n 2 dX10_put_25 rfl rfl ?_
      refine f_callVi (As := [_, _]) ok_X10_noCell ⟨Nat.le_of_ble_eq_true rfl, Nat.le_of_ble_eq_true rfl⟩ dX10_put_26 kl_X10_265 ki_X10_noCell kv_X10_noCell rfl rfl rfl rfl (Nat.le_of_ble_eq_true rfl) (Nat.le_of_ble_eq_true rfl) (Nat.zero_add _) (Nat.zero_add _) (sp_X10_noCell hR hI hj) ?_
      refine f_callVi (As := [_]) ok_X10_failed ⟨Nat.le_of_ble_eq_true rfl, Nat.le_of_ble_eq_true rfl⟩ dX10_put_29 kl_X10_101 ki_X10_failed kv_X10_failed rfl rfl rfl rfl (Nat.le_of_ble_eq_true rfl) (Nat.le_of_ble_eq_true rfl) (Nat.zero_add _) (Nat.zero_add _) sp_X10_failed ?_
      refine e_iret dX10_put_32 rfl ?_
      rcases hb : bz b j with _ | z
      · have ho : oPut b (nI j) i v = (-11, uF_ b 1) := by
          rw [oPut, if_neg (bi_0.mp h4), nI_clamp (by omega), hb]
        rw [ho]
        rw [nCl_n hb]
        exact ⟨_, A, rfl, rfl, hR.F 1, FM.S (by omega)⟩
      · rw [nCl_s hb] at h19
        have hq : ¬ (¬ i < 0 ∧ ¬ nI z.2 ≤ i) := fun h => h19 (by rw [if_pos h]; decide)
        have ho : oPut b (nI j) i v = (-13, uF_ b 3) := by
          rw [oPut, if_neg (bi_0.mp h4), nI_clamp (by omega), hb]
          simp only []
          rw [if_pos hq]
        rw [ho]
        rw [nCl_s hb, if_neg hq]
        exact ⟨_, A, rfl, rfl, hR.F 3, FM.S (by omega)⟩
  · refine e_aload_n 0 dX10_put_7 rfl rfl ?_
    refine e_iconst (v := -1) dX10_put_8 rfl ?_
    refine f_callVi (As := [_]) ok_X10_refused ⟨Nat.le_of_ble_eq_true rfl, Nat.le_of_ble_eq_true rfl⟩ dX10_put_9 kl_X10_91 ki_X10_refused kv_X10_refused rfl rfl rfl rfl (Nat.le_of_ble_eq_true rfl) (Nat.le_of_ble_eq_true rfl) (Nat.zero_add _) (Nat.zero_add _) sp_X10_refused ?_
    refine e_iret dX10_put_12 rfl ?_
    have ho : oPut b k i v = (-1, uF_ b 0) := by
      rw [oPut, if_pos (bi_1.mp h4)]
    rw [ho]
    exact ⟨_, A, rfl, rfl, hR.F 0, FM.S (by omega)⟩

set_option maxRecDepth 4000 in
theorem sp_X10_cell {G : sh_G} {S : Nat → Int32} {A : Nat → Nat → Int32} {Lg : Nat → Int64} {P : Nat → Option Nat} {T : List sh_C} {b : sh_be} {k i lane : Int32} (hR : RM S A b) (hI : IV b) : Ev G mX10_cell 0 0 (mkW G S A Lg P T) 0 [some (.ref 24), some (.int k), some (.int i), some (.int lane)] [] (QM G S A Lg P T (some (.long (oCell b k i lane).1)) (oCell b k i lane).2) := by
  refine e_aload_n 0 dX10_cell_0 rfl rfl ?_
  refine e_iconst (v := 0) dX10_cell_1 rfl ?_
  refine e_putfield 0 dX10_cell_2 kp_X10_cell_79_10 (sh_fit_i _) rfl (Nat.le_of_ble_eq_true rfl) ?_
  obtain ⟨S1, e0, hR, hf⟩ : ∃ S1, S1 = va_up S 20 0 ∧ RM S1 A (uF_ b 0) ∧ FM S A S1 A := ⟨_, rfl, hR.F 0, FM.S (by omega)⟩
  refine e_w (w' := mkW G S1 A Lg P T) (by rw [e0]; rfl) ?_
  refine e_iload_n 1 dX10_cell_5 rfl rfl ?_
  refine f_callSi (As := [_]) ok_X10_noSheet ⟨Nat.le_of_ble_eq_true rfl, Nat.le_of_ble_eq_true rfl⟩ dX10_cell_6 kl_X10_87 ks_X10_noSheet rfl rfl (Nat.le_of_ble_eq_true rfl) (Nat.le_of_ble_eq_true rfl) (Nat.zero_add _) (Nat.zero_add _) sp_X10_noSheet ?_
  refine e_if_ne (tgt := 24) dX10_cell_9 rfl (fun h9 => ?_) (fun h9 => ?_)
  · try rw [in2] at h21
    refine f_callSl (As := []) ok_X10_lost ⟨Nat.le_of_ble_eq_true rfl, Nat.le_of_ble_eq_true rfl⟩ dX10_cell_24 kl_X10_83 ks_X10_lost rfl rfl (Nat.le_of_ble_eq_true rfl) (Nat.le_of_ble_eq_true rfl) (Nat.zero_add _) (Nat.zero_add _) sp_X10_lost ?_
    refine e_lret dX10_cell_27 rfl ?_
    have hr : oRef b k lane i 1 = -1 ∨ oRef b k lane i 1 = -2 := by
      first
      | (left; rw [oRef, if_pos (bi_1.mp h9)]; done)
      | (right; rw [oRef, if_neg (bi_0.mp h9), if_pos (bi_0.mp h21)]; done)
    rcases hr with hr | hr
    · rw [oCell, if_neg (by rw [hr]; decide), hr]
      exact ⟨_, A, rfl, rfl, hR, hf⟩
    · rw [oCell, if_neg (by rw [hr]; decide), hr]
      exact ⟨_, A, rfl, rfl, hR, hf⟩
  · refine e_iload_n 3 dX10_cell_12 rfl rfl ?_
    refine e_i2l dX10_cell_13 ?_
    refine e_lconst (v := 0) dX10_cell_14 rfl ?_
    refine e_ldc2 dX10_cell_15 kc_X10_95 ?_
    refine f_callSi (As := [_, _, _]) ok_X10_in ⟨Nat.le_of_ble_eq_true rfl, Nat.le_of_ble_eq_true rfl⟩ dX10_cell_18 kl_X10_97 ks_X10_in rfl rfl (Nat.le_of_ble_eq_true rfl) (Nat.le_of_ble_eq_true rfl) (Nat.zero_add _) (Nat.zero_add _) sp_X10_in ?_
    refine e_if_ne (tgt := 28) dX10_cell_21 rfl (fun h21 => ?_) (fun h21 => ?_)
    · rw [in2] at h21
      have h4 := Classical.not_not.mp (bi_0.mp h9)
      obtain ⟨j, hj, rfl⟩ := ix_of (n := 4) rfl (by omega) h4
      have hX : shM A b j := hR.2.2.2.2.2.2.1 j hj
      refine e_aload_n 0 dX10_cell_28 rfl rfl ?_
      refine e_getfield 30 dX10_cell_29 kf_X10_65_10 rfl rfl ?_
      refine e_iload_n 1 dX10_cell_32 rfl rfl ?_
      refine e_iald_n (j) dX10_cell_33 rfl rfl (by omega) (by decide) ?_
      refine e_if_lt (tgt := 53) dX10_cell_34 rfl (fun h34 => ?_) (fun h34 => ?_)
      · have hnc : bz b j = none ∨ ∃ z, bz b j = some z ∧ nI z.1 = lane := by
          first
          | (left; exact shM_no hX (IV.m hI) hj (fun h => absurd h34 (Int32.not_lt.mpr h)))
          | (right; exact ⟨z, hz, by rw [← e2]; exact h44⟩)
        refine e_aload_n 0 dX10_cell_53 rfl rfl ?_
        refine e_iload_n 1 dX10_cell_54 rfl rfl ?_
        refine e_iload_n 2 dX10_cell_55 rfl rfl ?_
        refine f_callVi (As := [_, _]) ok_X10_noCell ⟨Nat.le_of_ble_eq_true rfl, Nat.le_of_ble_eq_true rfl⟩ dX10_cell_56 kl_X10_265 ki_X10_noCell kv_X10_noCell rfl rfl rfl rfl (Nat.le_of_ble_eq_true rfl) (Nat.le_of_ble_eq_true rfl) (Nat.zero_add _) (Nat.zero_add _) (sp_X10_noCell (b := uF_ b 0) hR hI hj) ?_
        refine e_if_le (tgt := 75) dX10_cell_59 rfl (fun h59 => ?_) (fun h59 => ?_)
        · obtain ⟨z, hz, q, hq1, rfl⟩ := nCl_ok (b := b) hI hj h59
          have hzl := IV.l hI hj z hz
          have e3 := (shM_s hX hz).2.2
          refine e_aload_n 0 dX10_cell_75 rfl rfl ?_
          refine e_getfield 32 dX10_cell_76 kf_X10_71_10 rfl rfl ?_
          refine e_bipush (v := 60) dX10_cell_79 (by decide) ?_
          refine e_iload_n 1 dX10_cell_81 rfl rfl ?_
          refine e_imul dX10_cell_82 ?_
          refine e_iload_n 2 dX10_cell_83 rfl rfl ?_
          refine e_iadd dX10_cell_84 ?_
          rw [mul60]
          refine e_iald_n (60 * j + q) dX10_cell_85 rfl rfl (by omega) (by decide) ?_
          rw [e3 q hq1]
          refine e_i2l dX10_cell_86 ?_
          refine e_lret dX10_cell_87 rfl ?_
          first
          | (have hpth := h59
             rw [Int32.not_le] at hpth
             rcases hnc with hz | ⟨z, hz, hl⟩
             · rw [show nCl (uF_ b 0) j i = nCl b j i from rfl, nCl_n hz]
               have hr : oRef b (nI j) lane i 1 = -11 := by
                 rw [oRef, if_neg (nn_ h4), if_neg (nn_ (bi_1.mp h21)), nI_clamp (by omega), hz]
               rw [oCell, if_neg (by rw [hr]; decide), hr]
               exact ⟨_, A, rfl, rfl, hR.F 1, hf.tr (FM.S (by omega))⟩
             · have hzl := IV.l hI hj z hz
               rw [nCl_s hz] at h59
               have hq : ¬ (¬ i < 0 ∧ ¬ nI z.2 ≤ i) := fun h => h59 (by rw [if_pos h]; decide)
               rw [show nCl (uF_ b 0) j i = nCl b j i from rfl, nCl_s hz, if_neg hq]
               have hr : oRef b (nI j) lane i 1 = -13 := by
                 rw [oRef, if_neg (nn_ h4), if_neg (nn_ (bi_1.mp h21)), nI_clamp (by omega), hz]
                 simp only []
                 rw [if_neg (nn_ hl), if_neg (by decide), if_neg (fun h => hq (has1b (by omega) h))]
               rw [oCell, if_neg (by rw [hr]; decide), hr]
               exact ⟨_, A, rfl, rfl, hR.F 3, hf.tr (FM.S (by omega))⟩)
          | (have hl : nI z.1 = lane := by
               rcases hnc with h | ⟨y, hy, hl⟩
               · rw [hz] at h; cases h
               · rw [hz] at hy; cases hy; exact hl
             have hr : oRef b (nI j) lane (nI q) 1 = 0 := by
               rw [oRef, if_neg (nn_ h4), if_neg (nn_ (bi_1.mp h21)), nI_clamp (by omega), hz]
               simp only []
               rw [if_neg (nn_ hl), if_neg (by decide), if_pos (has1 (by omega) ⟨nI_pos (by omega), nI_ge (by omega) (by omega)⟩)]
             rw [oCell, if_pos hr, nI_clamp (by omega), nI_clamp (by omega)]
             exact ⟨_, A, rfl, rfl, hR, hf⟩)
        · rw [show nCl (uF_ b 0) j i = nCl b j i from rfl] at h59
          refine e_aload_n 0 dX10_cell_62 rfl rfl ?_
          refine e_aload_n 0 dX10_cell_63 rfl rfl ?_
          refine e_iload_n 1 dX10_cell_64 rfl rfl ?_
          refine e_iload_n 2 dX10_cell_65 rfl rfl ?_
          refine f_callVi (As := [_, _]) ok_X10_noCell ⟨Nat.le_of_ble_eq_true rfl, Nat.le_of_ble_eq_true rfl⟩ dX10_cell_66 kl_X10_265 ki_X10_noCell kv_X10_noCell rfl rfl rfl rfl (Nat.le_of_ble_eq_true rfl) (Nat.le_of_ble_eq_true rfl) (Nat.zero_add _) (Nat.zero_add _) (sp_X10_noCell (b := uF_ b 0) hR hI hj) ?_
          refine f_callVl (As := [_]) ok_X10_failedLong ⟨Nat.le_of_ble_eq_true rfl, Nat.le_of_ble_eq_true rfl⟩ dX10_cell_69 kl_X10_268 ki_X10_failedLong kv_X10_failedLong rfl rfl rfl rfl (Nat.le_of_ble_eq_true rfl) (Nat.le_of_ble_eq_true rfl) (Nat.zero_add _) (Nat.zero_add _) sp_X10_failedLong ?_
          refine e_goto (tgt := 87) dX10_cell_72 rfl ?_
          refine e_lret dX10_cell_87 rfl ?_
          first
          | (have hpth := h59
             rw [Int32.not_le] at hpth
             rcases hnc with hz | ⟨z, hz, hl⟩
             · rw [show nCl (uF_ b 0) j i = nCl b j i from rfl, nCl_n hz]
               have hr : oRef b (nI j) lane i 1 = -11 := by
                 rw [oRef, if_neg (nn_ h4), if_neg (nn_ (bi_1.mp h21)), nI_clamp (by omega), hz]
               rw [oCell, if_neg (by rw [hr]; decide), hr]
               exact ⟨_, A, rfl, rfl, hR.F 1, hf.tr (FM.S (by omega))⟩
             · have hzl := IV.l hI hj z hz
               rw [nCl_s hz] at h59
               have hq : ¬ (¬ i < 0 ∧ ¬ nI z.2 ≤ i) := fun h => h59 (by rw [if_pos h]; decide)
               rw [show nCl (uF_ b 0) j i = nCl b j i from rfl, nCl_s hz, if_neg hq]
               have hr : oRef b (nI j) lane i 1 = -13 := by
                 rw [oRef, if_neg (nn_ h4), if_neg (nn_ (bi_1.mp h21)), nI_clamp (by omega), hz]
                 simp only []
                 rw [if_neg (nn_ hl), if_neg (by decide), if_neg (fun h => hq (has1b (by omega) h))]
               rw [oCell, if_neg (by rw [hr]; decide), hr]
               exact ⟨_, A, rfl, rfl, hR.F 3, hf.tr (FM.S (by omega))⟩)
          | (have hl : nI z.1 = lane := by
               rcases hnc with h | ⟨y, hy, hl⟩
               · rw [hz] at h; cases h
               · rw [hz] at hy; cases hy; exact hl
             have hr : oRef b (nI j) lane (nI q) 1 = 0 := by
               rw [oRef, if_neg (nn_ h4), if_neg (nn_ (bi_1.mp h21)), nI_clamp (by omega), hz]
               simp only []
               rw [if_neg (nn_ hl), if_neg (by decide), if_pos (has1 (by omega) ⟨nI_pos (by omega), nI_ge (by omega) (by omega)⟩)]
             rw [oCell, if_pos hr, nI_clamp (by omega), nI_clamp (by omega)]
             exact ⟨_, A, rfl, rfl, hR, hf⟩)
      · obtain ⟨z, hz⟩ : ∃ z, bz b j = some z := shM_ex hX (Int32.not_lt.mp h34)
        obtain ⟨e1, e2, e3⟩ := shM_s hX hz
        have hzl := IV.l hI hj z hz
        refine e_aload_n 0 dX10_cell_37 rfl rfl ?_
        skip
        refine e_getfield 31 dX10_cell_38 kf_X10_68_10 rfl rfl ?_
        refine e_iload_n 1 dX10_cell_41 rfl rfl ?_
        refine e_iald_n (j) dX10_cell_42 rfl rfl (by omega) (by decide) ?_
        refine e_iload_n 3 dX10_cell_43 rfl rfl ?_
        refine e_icmp_eq (tgt := 53) dX10_cell_44 rfl (fun h44 => ?_) (fun h44 => ?_)
        · have hnc : bz b j = none ∨ ∃ z, bz b j = some z ∧ nI z.1 = lane := by
            first
            | (left; exact shM_no hX (IV.m hI) hj (fun h => absurd h34 (Int32.not_lt.mpr h)))
            | (right; exact ⟨z, hz, by rw [← e2]; exact h44⟩)
          refine e_aload_n 0 dX10_cell_53 rfl rfl ?_
          refine e_iload_n 1 dX10_cell_54 rfl rfl ?_
          refine e_iload_n 2 dX10_cell_55 rfl rfl ?_
          refine f_callVi (As := [_, _]) ok_X10_noCell ⟨Nat.le_of_ble_eq_true rfl, Nat.le_of_ble_eq_true rfl⟩ dX10_cell_56 kl_X10_265 ki_X10_noCell kv_X10_noCell rfl rfl rfl rfl (Nat.le_of_ble_eq_true rfl) (Nat.le_of_ble_eq_true rfl) (Nat.zero_add _) (Nat.zero_add _) (sp_X10_noCell (b := uF_ b 0) hR hI hj) ?_
          refine e_if_le (tgt := 75) dX10_cell_59 rfl (fun h59 => ?_) (fun h59 => ?_)
          · obtain ⟨z, hz, q, hq1, rfl⟩ := nCl_ok (b := b) hI hj h59
            have hzl := IV.l hI hj z hz
            have e3 := (shM_s hX hz).2.2
            refine e_aload_n 0 dX10_cell_75 rfl rfl ?_
            refine e_getfield 32 dX10_cell_76 kf_X10_71_10 rfl rfl ?_
            refine e_bipush (v := 60) dX10_cell_79 (by decide) ?_
            refine e_iload_n 1 dX10_cell_81 rfl rfl ?_
            refine e_imul dX10_cell_82 ?_
            refine e_iload_n 2 dX10_cell_83 rfl rfl ?_
            refine e_iadd dX10_cell_84 ?_
            rw [mul60]
            refine e_iald_n (60 * j + q) dX10_cell_85 rfl rfl (by omega) (by decide) ?_
            rw [e3 q hq1]
            refine e_i2l dX10_cell_86 ?_
            refine e_lret dX10_cell_87 rfl ?_
            first
            | (have hpth := h59
               rw [Int32.not_le] at hpth
               rcases hnc with hz | ⟨z, hz, hl⟩
               · rw [show nCl (uF_ b 0) j i = nCl b j i from rfl, nCl_n hz]
                 have hr : oRef b (nI j) lane i 1 = -11 := by
                   rw [oRef, if_neg (nn_ h4), if_neg (nn_ (bi_1.mp h21)), nI_clamp (by omega), hz]
                 rw [oCell, if_neg (by rw [hr]; decide), hr]
                 exact ⟨_, A, rfl, rfl, hR.F 1, hf.tr (FM.S (by omega))⟩
               · have hzl := IV.l hI hj z hz
                 rw [nCl_s hz] at h59
                 have hq : ¬ (¬ i < 0 ∧ ¬ nI z.2 ≤ i) := fun h => h59 (by rw [if_pos h]; decide)
                 rw [show nCl (uF_ b 0) j i = nCl b j i from rfl, nCl_s hz, if_neg hq]
                 have hr : oRef b (nI j) lane i 1 = -13 := by
                   rw [oRef, if_neg (nn_ h4), if_neg (nn_ (bi_1.mp h21)), nI_clamp (by omega), hz]
                   simp only []
                   rw [if_neg (nn_ hl), if_neg (by decide), if_neg (fun h => hq (has1b (by omega) h))]
                 rw [oCell, if_neg (by rw [hr]; decide), hr]
                 exact ⟨_, A, rfl, rfl, hR.F 3, hf.tr (FM.S (by omega))⟩)
            | (have hl : nI z.1 = lane := by
                 rcases hnc with h | ⟨y, hy, hl⟩
                 · rw [hz] at h; cases h
                 · rw [hz] at hy; cases hy; exact hl
               have hr : oRef b (nI j) lane (nI q) 1 = 0 := by
                 rw [oRef, if_neg (nn_ h4), if_neg (nn_ (bi_1.mp h21)), nI_clamp (by omega), hz]
                 simp only []
                 rw [if_neg (nn_ hl), if_neg (by decide), if_pos (has1 (by omega) ⟨nI_pos (by omega), nI_ge (by omega) (by omega)⟩)]
               rw [oCell, if_pos hr, nI_clamp (by omega), nI_clamp (by omega)]
               exact ⟨_, A, rfl, rfl, hR, hf⟩)
          · rw [show nCl (uF_ b 0) j i = nCl b j i from rfl] at h59
            refine e_aload_n 0 dX10_cell_62 rfl rfl ?_
            refine e_aload_n 0 dX10_cell_63 rfl rfl ?_
            refine e_iload_n 1 dX10_cell_64 rfl rfl ?_
            refine e_iload_n 2 dX10_cell_65 rfl rfl ?_
            refine f_callVi (As := [_, _]) ok_X10_noCell ⟨Nat.le_of_ble_eq_true rfl, Nat.le_of_ble_eq_true rfl⟩ dX10_cell_66 kl_X10_265 ki_X10_noCell kv_X10_noCell rfl rfl rfl rfl (Nat.le_of_ble_eq_true rfl) (Nat.le_of_ble_eq_true rfl) (Nat.zero_add _) (Nat.zero_add _) (sp_X10_noCell (b := uF_ b 0) hR hI hj) ?_
            refine f_callVl (As := [_]) ok_X10_failedLong ⟨Nat.le_of_ble_eq_true rfl, Nat.le_of_ble_eq_true rfl⟩ dX10_cell_69 kl_X10_268 ki_X10_failedLong kv_X10_failedLong rfl rfl rfl rfl (Nat.le_of_ble_eq_true rfl) (Nat.le_of_ble_eq_true rfl) (Nat.zero_add _) (Nat.zero_add _) sp_X10_failedLong ?_
            refine e_goto (tgt := 87) dX10_cell_72 rfl ?_
            refine e_lret dX10_cell_87 rfl ?_
            first
            | (have hpth := h59
               rw [Int32.not_le] at hpth
               rcases hnc with hz | ⟨z, hz, hl⟩
               · rw [show nCl (uF_ b 0) j i = nCl b j i from rfl, nCl_n hz]
                 have hr : oRef b (nI j) lane i 1 = -11 := by
                   rw [oRef, if_neg (nn_ h4), if_neg (nn_ (bi_1.mp h21)), nI_clamp (by omega), hz]
                 rw [oCell, if_neg (by rw [hr]; decide), hr]
                 exact ⟨_, A, rfl, rfl, hR.F 1, hf.tr (FM.S (by omega))⟩
               · have hzl := IV.l hI hj z hz
                 rw [nCl_s hz] at h59
                 have hq : ¬ (¬ i < 0 ∧ ¬ nI z.2 ≤ i) := fun h => h59 (by rw [if_pos h]; decide)
                 rw [show nCl (uF_ b 0) j i = nCl b j i from rfl, nCl_s hz, if_neg hq]
                 have hr : oRef b (nI j) lane i 1 = -13 := by
                   rw [oRef, if_neg (nn_ h4), if_neg (nn_ (bi_1.mp h21)), nI_clamp (by omega), hz]
                   simp only []
                   rw [if_neg (nn_ hl), if_neg (by decide), if_neg (fun h => hq (has1b (by omega) h))]
                 rw [oCell, if_neg (by rw [hr]; decide), hr]
                 exact ⟨_, A, rfl, rfl, hR.F 3, hf.tr (FM.S (by omega))⟩)
            | (have hl : nI z.1 = lane := by
                 rcases hnc with h | ⟨y, hy, hl⟩
                 · rw [hz] at h; cases h
                 · rw [hz] at hy; cases hy; exact hl
               have hr : oRef b (nI j) lane (nI q) 1 = 0 := by
                 rw [oRef, if_neg (nn_ h4), if_neg (nn_ (bi_1.mp h21)), nI_clamp (by omega), hz]
                 simp only []
                 rw [if_neg (nn_ hl), if_neg (by decide), if_pos (has1 (by omega) ⟨nI_pos (by omega), nI_ge (by omega) (by omega)⟩)]
               rw [oCell, if_pos hr, nI_clamp (by omega), nI_clamp (by omega)]
               exact ⟨_, A, rfl, rfl, hR, hf⟩)
        · rw [e2] at h44
          refine e_aload_n 0 dX10_cell_47 rfl rfl ?_
          refine e_iconst (v := 2) dX10_cell_48 rfl ?_
          refine f_callVl (As := [_]) ok_X10_failedLong ⟨Nat.le_of_ble_eq_true rfl, Nat.le_of_ble_eq_true rfl⟩ dX10_cell_49 kl_X10_268 ki_X10_failedLong kv_X10_failedLong rfl rfl rfl rfl (Nat.le_of_ble_eq_true rfl) (Nat.le_of_ble_eq_true rfl) (Nat.zero_add _) (Nat.zero_add _) sp_X10_failedLong ?_
          refine e_lret dX10_cell_52 rfl ?_
          have hr : oRef b (nI j) lane i 1 = -12 := by
            rw [oRef, if_neg (nn_ h4), if_neg (nn_ (bi_1.mp h21)), nI_clamp (by omega), hz]
            simp only []
            rw [if_pos h44]
          rw [oCell, if_neg (by rw [hr]; decide), hr]
          exact ⟨_, A, rfl, rfl, hR.F 2, hf.tr (FM.S (by omega))⟩
    · try rw [in2] at h21
      refine f_callSl (As := []) ok_X10_lost ⟨Nat.le_of_ble_eq_true rfl, Nat.le_of_ble_eq_true rfl⟩ dX10_cell_24 kl_X10_83 ks_X10_lost rfl rfl (Nat.le_of_ble_eq_true rfl) (Nat.le_of_ble_eq_true rfl) (Nat.zero_add _) (Nat.zero_add _) sp_X10_lost ?_
      refine e_lret dX10_cell_27 rfl ?_
      have hr : oRef b k lane i 1 = -1 ∨ oRef b k lane i 1 = -2 := by
        first
        | (left; rw [oRef, if_pos (bi_1.mp h9)]; done)
        | (right; rw [oRef, if_neg (bi_0.mp h9), if_pos (bi_0.mp h21)]; done)
      rcases hr with hr | hr
      · rw [oCell, if_neg (by rw [hr]; decide), hr]
        exact ⟨_, A, rfl, rfl, hR, hf⟩
      · rw [oCell, if_neg (by rw [hr]; decide), hr]
        exact ⟨_, A, rfl, rfl, hR, hf⟩
