set_option maxRecDepth 4000 in
theorem sp_X10_codeAt {G : sh_G} {S : Nat → Int32} {A : Nat → Nat → Int32} {Lg : Nat → Int64} {P : Nat → Option Nat} {T : List sh_C} {F m q : Nat} {C : Nat → Int32} (hF : F + m ≤ 240) (hC : ∀ i, i < m → A 40 (F + i) = C i) (hS : S 23 = nI q) (hq : q ≤ m) : Ev G mX10_codeAt 0 0 (mkW G S A Lg P T) 0 [some (.ref 24), some (.int (nI F)), some (.int (nI m))] [] (sh_is (some (.int (cdN C m q))) (mkW G S A Lg P T)) := by
  refine e_aload_n 0 dX10_codeAt_0 rfl rfl ?_
  refine e_getfield 6 dX10_codeAt_1 kf_X10_114_10 rfl rfl ?_
  refine e_iload_n 2 dX10_codeAt_4 rfl rfl ?_
  rw [hS]
  refine e_icmp_ge (tgt := 22) dX10_codeAt_5 rfl (fun h5 => ?_) (fun h5 => ?_)
  · refine e_bipush (v := -9) dX10_codeAt_22 (by decide) ?_
    refine e_iret dX10_codeAt_24 rfl ?_
    refine is_i ?_ rfl
    first
    | (rw [cdN_y hlt]; exact hC q hlt)
    | (have hlt : ¬ q < m := by rw [nI_leI (by omega) (by omega)] at h5; omega
       rw [cdN_n hlt])
  · have hlt : q < m := by rw [nI_leI (by omega) (by omega)] at h5; omega
    refine e_aload_n 0 dX10_codeAt_8 rfl rfl ?_
    refine e_getfield 32 dX10_codeAt_9 kf_X10_71_10 rfl rfl ?_
    refine e_iload_n 1 dX10_codeAt_12 rfl rfl ?_
    refine e_aload_n 0 dX10_codeAt_13 rfl rfl ?_
    refine e_getfield 6 dX10_codeAt_14 kf_X10_114_10 rfl rfl ?_
    refine e_iadd dX10_codeAt_17 ?_
    refine e_iald_n (F + q) dX10_codeAt_18 rfl (by rw [hS, nI_add]) (by omega) (by decide) ?_
    refine e_goto (tgt := 24) dX10_codeAt_19 rfl ?_
    refine e_iret dX10_codeAt_24 rfl ?_
    refine is_i ?_ rfl
    first
    | (rw [cdN_y hlt]; exact hC q hlt)
    | (have hlt : ¬ q < m := by rw [nI_leI (by omega) (by omega)] at h5; omega
       rw [cdN_n hlt])

theorem sub48n (v : Nat) : nI (v + 48) - 48 = nI v := (pk_sub (a := v + 48) (b := 48) (by omega)).trans (congrArg nI (by omega))
set_option maxRecDepth 4000 in
theorem sp_X10_figY {G : sh_G} {S : Nat → Int32} {A : Nat → Nat → Int32} {Lg : Nat → Int64} {P : Nat → Option Nat} {T : List sh_C} {F m q : Nat} {C : Nat → Int32} {lo hi : Nat} {v : Nat} (hF : F + m ≤ 240) (hC : ∀ i, i < m → A 40 (F + i) = C i) (hS : S 23 = nI q) (hq : q ≤ m) (hlt : q < m) (hv : C q = nI (48 + v)) (h1 : lo ≤ v) (h2 : v ≤ hi) (h3 : hi ≤ 9) : Ev G mX10_figure 0 0 (mkW G S A Lg P T) 0 [some (.ref 24), some (.int (nI F)), some (.int (nI m)), some (.int (nI lo)), some (.int (nI hi)), none, none] [] (sh_is (some (.int (nI v))) (mkW G (va_up S 23 (nI (q + 1))) A Lg P T)) := by
  refine e_aload_n 0 dX10_figure_0 rfl rfl ?_
  refine e_iload_n 1 dX10_figure_1 rfl rfl ?_
  refine e_iload_n 2 dX10_figure_2 rfl rfl ?_
  refine f_callVi (As := [_, _]) ok_X10_codeAt ⟨Nat.le_of_ble_eq_true rfl, Nat.le_of_ble_eq_true rfl⟩ dX10_figure_3 kl_X10_117 ki_X10_codeAt kv_X10_codeAt rfl rfl rfl rfl (Nat.le_of_ble_eq_true rfl) (Nat.le_of_ble_eq_true rfl) (Nat.zero_add _) (Nat.zero_add _) (sp_X10_codeAt hF hC hS hq) ?_
  refine e_bipush (v := 48) dX10_figure_6 (by decide) ?_
  refine e_isub dX10_figure_8 ?_
  rw [cdN_y hlt, hv, show nI (48 + v) - 48 = nI v from (congrArg (· - 48) (congrArg nI (Nat.add_comm 48 v))).trans (sub48n v)]
  refine e_istore (lv' := [_, _, _, _, _, _, _]) dX10_figure_9 (Nat.le_of_ble_eq_true rfl) rfl rfl ?_
  refine e_iload dX10_figure_11 rfl ?_
  refine e_i2l dX10_figure_13 ?_
  refine e_iload_n 3 dX10_figure_14 rfl rfl ?_
  refine e_i2l dX10_figure_15 ?_
  refine e_iload dX10_figure_16 rfl ?_
  refine e_i2l dX10_figure_18 ?_
  refine f_callSi (As := [_, _, _]) ok_X10_in ⟨Nat.le_of_ble_eq_true rfl, Nat.le_of_ble_eq_true rfl⟩ dX10_figure_19 kl_X10_97 ks_X10_in rfl rfl (Nat.le_of_ble_eq_true rfl) (Nat.le_of_ble_eq_true rfl) (Nat.zero_add _) (Nat.zero_add _) sp_X10_in ?_
  rw [inW, bi_t ⟨nI_nlt (by omega) (by omega), nI_nlt (by omega) (by omega)⟩]
  refine e_istore (lv' := [_, _, _, _, _, _, _]) dX10_figure_22 (Nat.le_of_ble_eq_true rfl) rfl rfl ?_
  refine e_aload_n 0 dX10_figure_24 rfl rfl ?_
  refine e_dup dX10_figure_25 rfl ?_
  refine e_getfield 6 dX10_figure_26 kf_X10_114_10 rfl rfl ?_
  refine e_iload dX10_figure_29 rfl ?_
  refine e_if_eq (tgt := 38) dX10_figure_31 rfl (fun h31 => absurd h31 (by decide)) (fun _ => ?_)
  refine e_iconst (v := 1) dX10_figure_34 rfl ?_
  refine e_goto (tgt := 39) dX10_figure_35 rfl ?_
  refine e_iadd dX10_figure_39 ?_
  refine e_putfield 6 dX10_figure_40 kp_X10_figure_114_10 (sh_fit_i _) rfl (Nat.le_of_ble_eq_true rfl) ?_
  refine e_w (w' := mkW G (va_up S 23 (nI (q + 1))) A Lg P T) (by rw [hS, nI_1]; rfl) ?_
  refine e_iload dX10_figure_43 rfl ?_
  refine e_if_eq (tgt := 53) dX10_figure_45 rfl (fun h45 => absurd h45 (by decide)) (fun _ => ?_)
  refine e_iload dX10_figure_48 rfl ?_
  refine e_goto (tgt := 55) dX10_figure_50 rfl ?_
  exact e_iret dX10_figure_55 rfl ⟨rfl, rfl⟩

set_option maxRecDepth 4000 in
theorem sp_X10_figN {G : sh_G} {S : Nat → Int32} {A : Nat → Nat → Int32} {Lg : Nat → Int64} {P : Nat → Option Nat} {T : List sh_C} {F m q : Nat} {C : Nat → Int32} {lo hi : Nat} (hF : F + m ≤ 240) (hC : ∀ i, i < m → A 40 (F + i) = C i) (hS : S 23 = nI q) (hq : q ≤ m) (h3 : lo ≤ 9) (h4 : hi ≤ 9) (hn : ¬ (q < m ∧ ¬ C q < nI (48 + lo) ∧ ¬ nI (48 + hi) < C q)) : Ev G mX10_figure 0 0 (mkW G S A Lg P T) 0 [some (.ref 24), some (.int (nI F)), some (.int (nI m)), some (.int (nI lo)), some (.int (nI hi)), none, none] [] (sh_is (some (.int (-9))) (mkW G S A Lg P T)) := by
  refine e_aload_n 0 dX10_figure_0 rfl rfl ?_
  refine e_iload_n 1 dX10_figure_1 rfl rfl ?_
  refine e_iload_n 2 dX10_figure_2 rfl rfl ?_
  refine f_callVi (As := [_, _]) ok_X10_codeAt ⟨Nat.le_of_ble_eq_true rfl, Nat.le_of_ble_eq_true rfl⟩ dX10_figure_3 kl_X10_117 ki_X10_codeAt kv_X10_codeAt rfl rfl rfl rfl (Nat.le_of_ble_eq_true rfl) (Nat.le_of_ble_eq_true rfl) (Nat.zero_add _) (Nat.zero_add _) (sp_X10_codeAt hF hC hS hq) ?_
  refine e_bipush (v := 48) dX10_figure_6 (by decide) ?_
  refine e_isub dX10_figure_8 ?_
  refine e_istore (lv' := [_, _, _, _, _, _, _]) dX10_figure_9 (Nat.le_of_ble_eq_true rfl) rfl rfl ?_
  refine e_iload dX10_figure_11 rfl ?_
  refine e_i2l dX10_figure_13 ?_
  refine e_iload_n 3 dX10_figure_14 rfl rfl ?_
  refine e_i2l dX10_figure_15 ?_
  refine e_iload dX10_figure_16 rfl ?_
  refine e_i2l dX10_figure_18 ?_
  refine f_callSi (As := [_, _, _]) ok_X10_in ⟨Nat.le_of_ble_eq_true rfl, Nat.le_of_ble_eq_true rfl⟩ dX10_figure_19 kl_X10_97 ks_X10_in rfl rfl (Nat.le_of_ble_eq_true rfl) (Nat.le_of_ble_eq_true rfl) (Nat.zero_add _) (Nat.zero_add _) sp_X10_in ?_
  rw [inW, bi_f (show ¬ (¬ cdN C m q - 48 < nI lo ∧ ¬ nI hi < cdN C m q - 48) by
    rw [dg_in h3 h4]
    intro h
    by_cases c : q < m
    · rw [cdN_y c] at h; exact hn ⟨c, h⟩
    · rw [cdN_n c] at h
      refine h.1 ?_
      rw [fa_lt, nI_toInt (by omega)]
      have : (-9 : Int32).toInt = -9 := by decide
      omega)]
  refine e_istore (lv' := [_, _, _, _, _, _, _]) dX10_figure_22 (Nat.le_of_ble_eq_true rfl) rfl rfl ?_
  refine e_aload_n 0 dX10_figure_24 rfl rfl ?_
  refine e_dup dX10_figure_25 rfl ?_
  refine e_getfield 6 dX10_figure_26 kf_X10_114_10 rfl rfl ?_
  refine e_iload dX10_figure_29 rfl ?_
  refine e_if_eq (tgt := 38) dX10_figure_31 rfl (fun _ => ?_) (fun h31 => absurd (by decide) h31)
  refine e_iconst (v := 0) dX10_figure_38 rfl ?_
  refine e_iadd dX10_figure_39 ?_
  refine e_putfield 6 dX10_figure_40 kp_X10_figure_114_10 (sh_fit_i _) rfl (Nat.le_of_ble_eq_true rfl) ?_
  refine e_w (w' := mkW G S A Lg P T) (by rw [Int32.add_zero]; exact (show mkW G (va_up S 23 (S 23)) A Lg P T = _ by rw [up_self])) ?_
  refine e_iload dX10_figure_43 rfl ?_
  refine e_if_eq (tgt := 53) dX10_figure_45 rfl (fun _ => ?_) (fun h45 => absurd (by decide) h45)
  refine e_bipush (v := -9) dX10_figure_53 (by decide) ?_
  exact e_iret dX10_figure_55 rfl ⟨rfl, rfl⟩

set_option maxRecDepth 4000 in
theorem sp_X10_readsWeight {G : sh_G} {S : Nat → Int32} {A : Nat → Nat → Int32} {Lg : Nat → Int64} {P : Nat → Option Nat} {T : List sh_C} {F m d : Nat} {C : Nat → Int32} (hF : F + m ≤ 240) (hC : ∀ i, i < m → A 40 (F + i) = C i) (hS : S 23 = nI (6 * d + 6)) (hq : 6 * d + 6 ≤ m) (hff : ffN C m m 0 = ffN C m (m - (6 * d + 6)) (6 * d + 6)) : Ev G mX10_readsWeight 0 0 (mkW G S A Lg P T) 0 [some (.ref 24), some (.int (nI F)), some (.int (nI m)), none, none, none] [] (fun v w => (v = some (.int (nI (wtC C d))) ∧ w = mkW G (va_up S 23 (nI (6 * d + 8))) A Lg P T ∧ 6 * d + 8 ≤ m ∧ goN C (6 * d + 6) = true ∧ goN C (6 * d + 7) = true) ∨ (v = some (.int (-9)) ∧ ∃ q, ffN C m m 0 = some q ∧ w = mkW G (va_up S 23 (nI q)) A Lg P T)) := by
  by_cases g6 : 6 * d + 6 < m ∧ goN C (6 * d + 6) = true
  · have g6' : dgB C (6 * d + 6) = true := goE ▸ g6.2
    obtain ⟨v6, c1, c2, c3, c4⟩ := dgB_of g6'
    have hff7 := ff_step hff g6.1 g6.2
    have hlt7 : 6 * d + 7 ≤ m := by omega
    refine e_aload_n 0 dX10_readsWeight_0 rfl rfl ?_
    refine e_iload_n 1 dX10_readsWeight_1 rfl rfl ?_
    refine e_iload_n 2 dX10_readsWeight_2 rfl rfl ?_
    refine e_iconst (v := 0) dX10_readsWeight_3 rfl ?_
    refine e_bipush (v := 9) dX10_readsWeight_4 (by decide) ?_
    refine f_callVi (As := [_, _, _, _]) ok_X10_figure ⟨Nat.le_of_ble_eq_true rfl, Nat.le_of_ble_eq_true rfl⟩ dX10_readsWeight_6 kl_X10_121 ki_X10_figure kv_X10_figure rfl rfl rfl rfl (Nat.le_of_ble_eq_true rfl) (Nat.le_of_ble_eq_true rfl) (Nat.zero_add _) (Nat.zero_add _) (sp_X10_figY (lo := 0) (hi := 9) hF hC hS hq g6.1 c2 (by omega) (by omega) (by omega)) ?_
    refine e_istore_n (lv' := [_, _, _, _, _, _]) 3 dX10_readsWeight_9 rfl (Nat.le_of_ble_eq_true rfl) rfl rfl ?_
    refine e_iload_n 3 dX10_readsWeight_10 rfl rfl ?_
    refine e_if_ge (tgt := 19) dX10_readsWeight_11 rfl (fun _ => ?_) (fun h11 => absurd (Int32.not_lt.mp (nI_pos (by omega))) h11)
    by_cases g7 : 6 * d + 7 < m ∧ dgB C (6 * d + 7) = true
    · obtain ⟨v7, d1, d2, d3, d4⟩ := dgB_of g7.2
      refine e_aload_n 0 dX10_readsWeight_19 rfl rfl ?_
      refine e_iload_n 1 dX10_readsWeight_20 rfl rfl ?_
      refine e_iload_n 2 dX10_readsWeight_21 rfl rfl ?_
      refine e_iconst (v := 0) dX10_readsWeight_22 rfl ?_
      refine e_bipush (v := 9) dX10_readsWeight_23 (by decide) ?_
      refine f_callVi (As := [_, _, _, _]) ok_X10_figure ⟨Nat.le_of_ble_eq_true rfl, Nat.le_of_ble_eq_true rfl⟩ dX10_readsWeight_25 kl_X10_121 ki_X10_figure kv_X10_figure rfl rfl rfl rfl (Nat.le_of_ble_eq_true rfl) (Nat.le_of_ble_eq_true rfl) (Nat.zero_add _) (Nat.zero_add _) (sp_X10_figY (lo := 0) (hi := 9) (S := va_up S 23 (nI (6 * d + 7))) (q := 6 * d + 7) hF hC rfl (by omega) g7.1 d2 (by omega) (by omega) (by omega)) ?_
      refine e_w (w' := mkW G (va_up S 23 (nI (6 * d + 8))) A Lg P T) (by rw [bx_uu]) ?_
      refine e_istore (lv' := [_, _, _, _, _, _]) dX10_readsWeight_28 (Nat.le_of_ble_eq_true rfl) rfl rfl ?_
      refine e_iload dX10_readsWeight_30 rfl ?_
      refine e_if_ge (tgt := 38) dX10_readsWeight_32 rfl (fun _ => ?_) (fun h32 => absurd (Int32.not_lt.mp (nI_pos (by omega))) h32)
      refine e_iload_n 3 dX10_readsWeight_38 rfl rfl ?_
      refine e_iload dX10_readsWeight_39 rfl ?_
      refine e_iadd dX10_readsWeight_41 ?_
      rw [nI_add]
      refine e_if_le (tgt := 49) dX10_readsWeight_42 rfl (fun h42 => ?_) (fun h42 => ?_)
      · have hz : v6 + v7 = 0 := by rw [show (0 : Int32) = nI 0 from rfl, nI_leI (by omega) (by omega)] at h42; omega
        refine e_iconst (v := 0) dX10_readsWeight_49 rfl ?_
        refine e_istore (lv' := [_, _, _, _, _, _]) dX10_readsWeight_50 (Nat.le_of_ble_eq_true rfl) rfl rfl ?_
        refine e_aload_n 0 dX10_readsWeight_52 rfl rfl ?_
        refine e_dup dX10_readsWeight_53 rfl ?_
        refine e_getfield 6 dX10_readsWeight_54 kf_X10_114_10 rfl rfl ?_
        refine e_iload dX10_readsWeight_57 rfl ?_
        refine e_if_eq (tgt := 66) dX10_readsWeight_59 rfl (fun h59 => ?_) (fun h59 => ?_)
        · refine e_iconst (v := 2) dX10_readsWeight_66 rfl ?_
          refine e_isub dX10_readsWeight_67 ?_
          refine e_putfield 6 dX10_readsWeight_68 kp_X10_readsWeight_114_10 (sh_fit_i _) rfl (Nat.le_of_ble_eq_true rfl) ?_
          refine e_iload dX10_readsWeight_71 rfl ?_
          refine e_if_eq (tgt := 86) dX10_readsWeight_73 rfl (fun h73 => ?_) (fun h73 => ?_)
          · refine e_bipush (v := -9) dX10_readsWeight_86 (by decide) ?_
            refine e_iret dX10_readsWeight_88 rfl ?_
            first
            | (have hz7 : 0 < v6 + v7 := hnz
               first
               | exact absurd (show (1 : Int32) = 0 from h59) (by decide)
               | exact absurd (show (1 : Int32) = 0 from h73) (by decide)
               | (refine Or.inl ⟨by rw [mul10, wtC, c4, d4], ?_, by omega, by rw [goE]; exact g6', goF.mpr ⟨g7.2, fun h => ?_⟩⟩
                  · exact congrArg (fun f => mkW G f A Lg P T) ((bx_uu S 23 (nI (6 * d + 8)) _).trans (congrArg (va_up S 23) (Int32.sub_zero (nI (6 * d + 8)))))
                  · rw [c2, d2, show (48 : Int32) = nI (48 + 0) from rfl, nI_eq (by omega) (by omega), nI_eq (by omega) (by omega)] at h
                    omega))
            | (have hz7 : v6 + v7 = 0 := hz
               first
               | exact absurd (show (0 : Int32) = 0 from rfl) h59
               | exact absurd (show (0 : Int32) = 0 from rfl) h73
               | (refine Or.inr ⟨rfl, 6 * d + 6, ?_, ?_⟩
                  · have hno : noN C (6 * d + 7) = true := noF.mpr ⟨by rw [c2, show v6 = 0 by omega]; rfl, by rw [d2, show v7 = 0 by omega]; rfl⟩
                    have hgo : ¬ goN C (6 * d + 7) = true := fun h => (goF.mp h).2 (noF.mp hno)
                    exact (ff_no2 hff7 g7.1 hgo hno)
                  · exact congrArg (fun f => mkW G f A Lg P T) ((bx_uu S 23 (nI (6 * d + 8)) _).trans (congrArg (va_up S 23) (sub2 (x := 6 * d + 8) rfl)))))
          · refine e_bipush (v := 10) dX10_readsWeight_76 (by decide) ?_
            refine e_iload_n 3 dX10_readsWeight_78 rfl rfl ?_
            refine e_imul dX10_readsWeight_79 ?_
            refine e_iload dX10_readsWeight_80 rfl ?_
            refine e_iadd dX10_readsWeight_82 ?_
            refine e_goto (tgt := 88) dX10_readsWeight_83 rfl ?_
            refine e_iret dX10_readsWeight_88 rfl ?_
            first
            | (have hz7 : 0 < v6 + v7 := hnz
               first
               | exact absurd (show (1 : Int32) = 0 from h59) (by decide)
               | exact absurd (show (1 : Int32) = 0 from h73) (by decide)
               | (refine Or.inl ⟨by rw [mul10, wtC, c4, d4], ?_, by omega, by rw [goE]; exact g6', goF.mpr ⟨g7.2, fun h => ?_⟩⟩
                  · exact congrArg (fun f => mkW G f A Lg P T) ((bx_uu S 23 (nI (6 * d + 8)) _).trans (congrArg (va_up S 23) (Int32.sub_zero (nI (6 * d + 8)))))
                  · rw [c2, d2, show (48 : Int32) = nI (48 + 0) from rfl, nI_eq (by omega) (by omega), nI_eq (by omega) (by omega)] at h
                    omega))
            | (have hz7 : v6 + v7 = 0 := hz
               first
               | exact absurd (show (0 : Int32) = 0 from rfl) h59
               | exact absurd (show (0 : Int32) = 0 from rfl) h73
               | (refine Or.inr ⟨rfl, 6 * d + 6, ?_, ?_⟩
                  · have hno : noN C (6 * d + 7) = true := noF.mpr ⟨by rw [c2, show v6 = 0 by omega]; rfl, by rw [d2, show v7 = 0 by omega]; rfl⟩
                    have hgo : ¬ goN C (6 * d + 7) = true := fun h => (goF.mp h).2 (noF.mp hno)
                    exact (ff_no2 hff7 g7.1 hgo hno)
                  · exact congrArg (fun f => mkW G f A Lg P T) ((bx_uu S 23 (nI (6 * d + 8)) _).trans (congrArg (va_up S 23) (sub2 (x := 6 * d + 8) rfl)))))
        · refine e_iconst (v := 0) dX10_readsWeight_62 rfl ?_
          refine e_goto (tgt := 67) dX10_readsWeight_63 rfl ?_
          refine e_isub dX10_readsWeight_67 ?_
          refine e_putfield 6 dX10_readsWeight_68 kp_X10_readsWeight_114_10 (sh_fit_i _) rfl (Nat.le_of_ble_eq_true rfl) ?_
          refine e_iload dX10_readsWeight_71 rfl ?_
          refine e_if_eq (tgt := 86) dX10_readsWeight_73 rfl (fun h73 => ?_) (fun h73 => ?_)
          · refine e_bipush (v := -9) dX10_readsWeight_86 (by decide) ?_
            refine e_iret dX10_readsWeight_88 rfl ?_
            first
            | (have hz7 : 0 < v6 + v7 := hnz
               first
               | exact absurd (show (1 : Int32) = 0 from h59) (by decide)
               | exact absurd (show (1 : Int32) = 0 from h73) (by decide)
               | (refine Or.inl ⟨by rw [mul10, wtC, c4, d4], ?_, by omega, by rw [goE]; exact g6', goF.mpr ⟨g7.2, fun h => ?_⟩⟩
                  · exact congrArg (fun f => mkW G f A Lg P T) ((bx_uu S 23 (nI (6 * d + 8)) _).trans (congrArg (va_up S 23) (Int32.sub_zero (nI (6 * d + 8)))))
                  · rw [c2, d2, show (48 : Int32) = nI (48 + 0) from rfl, nI_eq (by omega) (by omega), nI_eq (by omega) (by omega)] at h
                    omega))
            | (have hz7 : v6 + v7 = 0 := hz
               first
               | exact absurd (show (0 : Int32) = 0 from rfl) h59
               | exact absurd (show (0 : Int32) = 0 from rfl) h73
               | (refine Or.inr ⟨rfl, 6 * d + 6, ?_, ?_⟩
                  · have hno : noN C (6 * d + 7) = true := noF.mpr ⟨by rw [c2, show v6 = 0 by omega]; rfl, by rw [d2, show v7 = 0 by omega]; rfl⟩
                    have hgo : ¬ goN C (6 * d + 7) = true := fun h => (goF.mp h).2 (noF.mp hno)
                    exact (ff_no2 hff7 g7.1 hgo hno)
                  · exact congrArg (fun f => mkW G f A Lg P T) ((bx_uu S 23 (nI (6 * d + 8)) _).trans (congrArg (va_up S 23) (sub2 (x := 6 * d + 8) rfl)))))
          · refine e_bipush (v := 10) dX10_readsWeight_76 (by decide) ?_
            refine e_iload_n 3 dX10_readsWeight_78 rfl rfl ?_
            refine e_imul dX10_readsWeight_79 ?_
            refine e_iload dX10_readsWeight_80 rfl ?_
            refine e_iadd dX10_readsWeight_82 ?_
            refine e_goto (tgt := 88) dX10_readsWeight_83 rfl ?_
            refine e_iret dX10_readsWeight_88 rfl ?_
            first
            | (have hz7 : 0 < v6 + v7 := hnz
               first
               | exact absurd (show (1 : Int32) = 0 from h59) (by decide)
               | exact absurd (show (1 : Int32) = 0 from h73) (by decide)
               | (refine Or.inl ⟨by rw [mul10, wtC, c4, d4], ?_, by omega, by rw [goE]; exact g6', goF.mpr ⟨g7.2, fun h => ?_⟩⟩
                  · exact congrArg (fun f => mkW G f A Lg P T) ((bx_uu S 23 (nI (6 * d + 8)) _).trans (congrArg (va_up S 23) (Int32.sub_zero (nI (6 * d + 8)))))
                  · rw [c2, d2, show (48 : Int32) = nI (48 + 0) from rfl, nI_eq (by omega) (by omega), nI_eq (by omega) (by omega)] at h
                    omega))
            | (have hz7 : v6 + v7 = 0 := hz
               first
               | exact absurd (show (0 : Int32) = 0 from rfl) h59
               | exact absurd (show (0 : Int32) = 0 from rfl) h73
               | (refine Or.inr ⟨rfl, 6 * d + 6, ?_, ?_⟩
                  · have hno : noN C (6 * d + 7) = true := noF.mpr ⟨by rw [c2, show v6 = 0 by omega]; rfl, by rw [d2, show v7 = 0 by omega]; rfl⟩
                    have hgo : ¬ goN C (6 * d + 7) = true := fun h => (goF.mp h).2 (noF.mp hno)
                    exact (ff_no2 hff7 g7.1 hgo hno)
                  · exact congrArg (fun f => mkW G f A Lg P T) ((bx_uu S 23 (nI (6 * d + 8)) _).trans (congrArg (va_up S 23) (sub2 (x := 6 * d + 8) rfl)))))
      · have hnz : 0 < v6 + v7 := by rw [show (0 : Int32) = nI 0 from rfl, nI_leI (by omega) (by omega)] at h42; omega
        refine e_iconst (v := 1) dX10_readsWeight_45 rfl ?_
        refine e_goto (tgt := 50) dX10_readsWeight_46 rfl ?_
        refine e_istore (lv' := [_, _, _, _, _, _]) dX10_readsWeight_50 (Nat.le_of_ble_eq_true rfl) rfl rfl ?_
        refine e_aload_n 0 dX10_readsWeight_52 rfl rfl ?_
        refine e_dup dX10_readsWeight_53 rfl ?_
        refine e_getfield 6 dX10_readsWeight_54 kf_X10_114_10 rfl rfl ?_
        refine e_iload dX10_readsWeight_57 rfl ?_
        refine e_if_eq (tgt := 66) dX10_readsWeight_59 rfl (fun h59 => ?_) (fun h59 => ?_)
        · refine e_iconst (v := 2) dX10_readsWeight_66 rfl ?_
          refine e_isub dX10_readsWeight_67 ?_
          refine e_putfield 6 dX10_readsWeight_68 kp_X10_readsWeight_114_10 (sh_fit_i _) rfl (Nat.le_of_ble_eq_true rfl) ?_
          refine e_iload dX10_readsWeight_71 rfl ?_
          refine e_if_eq (tgt := 86) dX10_readsWeight_73 rfl (fun h73 => ?_) (fun h73 => ?_)
          · refine e_bipush (v := -9) dX10_readsWeight_86 (by decide) ?_
            refine e_iret dX10_readsWeight_88 rfl ?_
            first
            | (have hz7 : 0 < v6 + v7 := hnz
               first
               | exact absurd (show (1 : Int32) = 0 from h59) (by decide)
               | exact absurd (show (1 : Int32) = 0 from h73) (by decide)
               | (refine Or.inl ⟨by rw [mul10, wtC, c4, d4], ?_, by omega, by rw [goE]; exact g6', goF.mpr ⟨g7.2, fun h => ?_⟩⟩
                  · exact congrArg (fun f => mkW G f A Lg P T) ((bx_uu S 23 (nI (6 * d + 8)) _).trans (congrArg (va_up S 23) (Int32.sub_zero (nI (6 * d + 8)))))
                  · rw [c2, d2, show (48 : Int32) = nI (48 + 0) from rfl, nI_eq (by omega) (by omega), nI_eq (by omega) (by omega)] at h
                    omega))
            | (have hz7 : v6 + v7 = 0 := hz
               first
               | exact absurd (show (0 : Int32) = 0 from rfl) h59
               | exact absurd (show (0 : Int32) = 0 from rfl) h73
               | (refine Or.inr ⟨rfl, 6 * d + 6, ?_, ?_⟩
                  · have hno : noN C (6 * d + 7) = true := noF.mpr ⟨by rw [c2, show v6 = 0 by omega]; rfl, by rw [d2, show v7 = 0 by omega]; rfl⟩
                    have hgo : ¬ goN C (6 * d + 7) = true := fun h => (goF.mp h).2 (noF.mp hno)
                    exact (ff_no2 hff7 g7.1 hgo hno)
                  · exact congrArg (fun f => mkW G f A Lg P T) ((bx_uu S 23 (nI (6 * d + 8)) _).trans (congrArg (va_up S 23) (sub2 (x := 6 * d + 8) rfl)))))
          · refine e_bipush (v := 10) dX10_readsWeight_76 (by decide) ?_
            refine e_iload_n 3 dX10_readsWeight_78 rfl rfl ?_
            refine e_imul dX10_readsWeight_79 ?_
            refine e_iload dX10_readsWeight_80 rfl ?_
            refine e_iadd dX10_readsWeight_82 ?_
            refine e_goto (tgt := 88) dX10_readsWeight_83 rfl ?_
            refine e_iret dX10_readsWeight_88 rfl ?_
            first
            | (have hz7 : 0 < v6 + v7 := hnz
               first
               | exact absurd (show (1 : Int32) = 0 from h59) (by decide)
               | exact absurd (show (1 : Int32) = 0 from h73) (by decide)
               | (refine Or.inl ⟨by rw [mul10, wtC, c4, d4], ?_, by omega, by rw [goE]; exact g6', goF.mpr ⟨g7.2, fun h => ?_⟩⟩
                  · exact congrArg (fun f => mkW G f A Lg P T) ((bx_uu S 23 (nI (6 * d + 8)) _).trans (congrArg (va_up S 23) (Int32.sub_zero (nI (6 * d + 8)))))
                  · rw [c2, d2, show (48 : Int32) = nI (48 + 0) from rfl, nI_eq (by omega) (by omega), nI_eq (by omega) (by omega)] at h
                    omega))
            | (have hz7 : v6 + v7 = 0 := hz
               first
               | exact absurd (show (0 : Int32) = 0 from rfl) h59
               | exact absurd (show (0 : Int32) = 0 from rfl) h73
               | (refine Or.inr ⟨rfl, 6 * d + 6, ?_, ?_⟩
                  · have hno : noN C (6 * d + 7) = true := noF.mpr ⟨by rw [c2, show v6 = 0 by omega]; rfl, by rw [d2, show v7 = 0 by omega]; rfl⟩
                    have hgo : ¬ goN C (6 * d + 7) = true := fun h => (goF.mp h).2 (noF.mp hno)
                    exact (ff_no2 hff7 g7.1 hgo hno)
                  · exact congrArg (fun f => mkW G f A Lg P T) ((bx_uu S 23 (nI (6 * d + 8)) _).trans (congrArg (va_up S 23) (sub2 (x := 6 * d + 8) rfl)))))
        · refine e_iconst (v := 0) dX10_readsWeight_62 rfl ?_
          refine e_goto (tgt := 67) dX10_readsWeight_63 rfl ?_
          refine e_isub dX10_readsWeight_67 ?_
          refine e_putfield 6 dX10_readsWeight_68 kp_X10_readsWeight_114_10 (sh_fit_i _) rfl (Nat.le_of_ble_eq_true rfl) ?_
          refine e_iload dX10_readsWeight_71 rfl ?_
          refine e_if_eq (tgt := 86) dX10_readsWeight_73 rfl (fun h73 => ?_) (fun h73 => ?_)
          · refine e_bipush (v := -9) dX10_readsWeight_86 (by decide) ?_
            refine e_iret dX10_readsWeight_88 rfl ?_
            first
            | (have hz7 : 0 < v6 + v7 := hnz
               first
               | exact absurd (show (1 : Int32) = 0 from h59) (by decide)
               | exact absurd (show (1 : Int32) = 0 from h73) (by decide)
               | (refine Or.inl ⟨by rw [mul10, wtC, c4, d4], ?_, by omega, by rw [goE]; exact g6', goF.mpr ⟨g7.2, fun h => ?_⟩⟩
                  · exact congrArg (fun f => mkW G f A Lg P T) ((bx_uu S 23 (nI (6 * d + 8)) _).trans (congrArg (va_up S 23) (Int32.sub_zero (nI (6 * d + 8)))))
                  · rw [c2, d2, show (48 : Int32) = nI (48 + 0) from rfl, nI_eq (by omega) (by omega), nI_eq (by omega) (by omega)] at h
                    omega))
            | (have hz7 : v6 + v7 = 0 := hz
               first
               | exact absurd (show (0 : Int32) = 0 from rfl) h59
               | exact absurd (show (0 : Int32) = 0 from rfl) h73
               | (refine Or.inr ⟨rfl, 6 * d + 6, ?_, ?_⟩
                  · have hno : noN C (6 * d + 7) = true := noF.mpr ⟨by rw [c2, show v6 = 0 by omega]; rfl, by rw [d2, show v7 = 0 by omega]; rfl⟩
                    have hgo : ¬ goN C (6 * d + 7) = true := fun h => (goF.mp h).2 (noF.mp hno)
                    exact (ff_no2 hff7 g7.1 hgo hno)
                  · exact congrArg (fun f => mkW G f A Lg P T) ((bx_uu S 23 (nI (6 * d + 8)) _).trans (congrArg (va_up S 23) (sub2 (x := 6 * d + 8) rfl)))))
          · refine e_bipush (v := 10) dX10_readsWeight_76 (by decide) ?_
            refine e_iload_n 3 dX10_readsWeight_78 rfl rfl ?_
            refine e_imul dX10_readsWeight_79 ?_
            refine e_iload dX10_readsWeight_80 rfl ?_
            refine e_iadd dX10_readsWeight_82 ?_
            refine e_goto (tgt := 88) dX10_readsWeight_83 rfl ?_
            refine e_iret dX10_readsWeight_88 rfl ?_
            first
            | (have hz7 : 0 < v6 + v7 := hnz
               first
               | exact absurd (show (1 : Int32) = 0 from h59) (by decide)
               | exact absurd (show (1 : Int32) = 0 from h73) (by decide)
               | (refine Or.inl ⟨by rw [mul10, wtC, c4, d4], ?_, by omega, by rw [goE]; exact g6', goF.mpr ⟨g7.2, fun h => ?_⟩⟩
                  · exact congrArg (fun f => mkW G f A Lg P T) ((bx_uu S 23 (nI (6 * d + 8)) _).trans (congrArg (va_up S 23) (Int32.sub_zero (nI (6 * d + 8)))))
                  · rw [c2, d2, show (48 : Int32) = nI (48 + 0) from rfl, nI_eq (by omega) (by omega), nI_eq (by omega) (by omega)] at h
                    omega))
            | (have hz7 : v6 + v7 = 0 := hz
               first
               | exact absurd (show (0 : Int32) = 0 from rfl) h59
               | exact absurd (show (0 : Int32) = 0 from rfl) h73
               | (refine Or.inr ⟨rfl, 6 * d + 6, ?_, ?_⟩
                  · have hno : noN C (6 * d + 7) = true := noF.mpr ⟨by rw [c2, show v6 = 0 by omega]; rfl, by rw [d2, show v7 = 0 by omega]; rfl⟩
                    have hgo : ¬ goN C (6 * d + 7) = true := fun h => (goF.mp h).2 (noF.mp hno)
                    exact (ff_no2 hff7 g7.1 hgo hno)
                  · exact congrArg (fun f => mkW G f A Lg P T) ((bx_uu S 23 (nI (6 * d + 8)) _).trans (congrArg (va_up S 23) (sub2 (x := 6 * d + 8) rfl)))))
    · refine e_aload_n 0 dX10_readsWeight_19 rfl rfl ?_
      refine e_iload_n 1 dX10_readsWeight_20 rfl rfl ?_
      refine e_iload_n 2 dX10_readsWeight_21 rfl rfl ?_
      refine e_iconst (v := 0) dX10_readsWeight_22 rfl ?_
      refine e_bipush (v := 9) dX10_readsWeight_23 (by decide) ?_
      refine f_callVi (As := [_, _, _, _]) ok_X10_figure ⟨Nat.le_of_ble_eq_true rfl, Nat.le_of_ble_eq_true rfl⟩ dX10_readsWeight_25 kl_X10_121 ki_X10_figure kv_X10_figure rfl rfl rfl rfl (Nat.le_of_ble_eq_true rfl) (Nat.le_of_ble_eq_true rfl) (Nat.zero_add _) (Nat.zero_add _) (sp_X10_figN (lo := 0) (hi := 9) (S := va_up S 23 (nI (6 * d + 7))) (q := 6 * d + 7) hF hC rfl (by omega) (by omega) (by omega) (fun h => g7 ⟨h.1, dgB_in.mpr h.2⟩)) ?_
      refine e_istore (lv' := [_, _, _, _, _, _]) dX10_readsWeight_28 (Nat.le_of_ble_eq_true rfl) rfl rfl ?_
      refine e_iload dX10_readsWeight_30 rfl ?_
      refine e_if_ge (tgt := 38) dX10_readsWeight_32 rfl (fun h32 => absurd h32 (by decide)) (fun _ => ?_)
      refine e_bipush (v := -9) dX10_readsWeight_35 (by decide) ?_
      refine e_iret dX10_readsWeight_37 rfl ?_
      exact Or.inr ⟨rfl, 6 * d + 7, fl_ hff7 (by omega) (fun e => by omega) (fun c g => g7 ⟨c, (goF.mp g).1⟩) (fun c h => g7 ⟨c, noF_dg h⟩), rfl⟩
  · refine e_aload_n 0 dX10_readsWeight_0 rfl rfl ?_
    refine e_iload_n 1 dX10_readsWeight_1 rfl rfl ?_
    refine e_iload_n 2 dX10_readsWeight_2 rfl rfl ?_
    refine e_iconst (v := 0) dX10_readsWeight_3 rfl ?_
    refine e_bipush (v := 9) dX10_readsWeight_4 (by decide) ?_
    refine f_callVi (As := [_, _, _, _]) ok_X10_figure ⟨Nat.le_of_ble_eq_true rfl, Nat.le_of_ble_eq_true rfl⟩ dX10_readsWeight_6 kl_X10_121 ki_X10_figure kv_X10_figure rfl rfl rfl rfl (Nat.le_of_ble_eq_true rfl) (Nat.le_of_ble_eq_true rfl) (Nat.zero_add _) (Nat.zero_add _) (sp_X10_figN (lo := 0) (hi := 9) hF hC hS hq (by omega) (by omega) (fun h => g6 ⟨h.1, by rw [goE]; exact dgB_in.mpr h.2⟩)) ?_
    refine e_istore_n (lv' := [_, _, _, _, _, _]) 3 dX10_readsWeight_9 rfl (Nat.le_of_ble_eq_true rfl) rfl rfl ?_
    refine e_iload_n 3 dX10_readsWeight_10 rfl rfl ?_
    refine e_if_ge (tgt := 19) dX10_readsWeight_11 rfl (fun h11 => absurd h11 (by decide)) (fun _ => ?_)
    refine e_bipush (v := -9) dX10_readsWeight_14 (by decide) ?_
    refine e_goto (tgt := 28) dX10_readsWeight_16 rfl ?_
    refine e_istore (lv' := [_, _, _, _, _, _]) dX10_readsWeight_28 (Nat.le_of_ble_eq_true rfl) rfl rfl ?_
    refine e_iload dX10_readsWeight_30 rfl ?_
    refine e_if_ge (tgt := 38) dX10_readsWeight_32 rfl (fun h32 => absurd h32 (by decide)) (fun _ => ?_)
    refine e_bipush (v := -9) dX10_readsWeight_35 (by decide) ?_
    refine e_iret dX10_readsWeight_37 rfl ?_
    refine Or.inr ⟨rfl, 6 * d + 6, fl_ hff hq (fun e => by omega) (fun c g => g6 ⟨c, g⟩) (fun _ => noX (Or.inr (by omega))), ?_⟩
    rw [← hS, up_self]
