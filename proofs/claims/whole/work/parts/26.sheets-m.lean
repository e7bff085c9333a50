set_option maxRecDepth 4000 in
theorem sp_X10_in {G : sh_G} {S : Nat → Int32} {A : Nat → Nat → Int32} {Lg : Nat → Int64} {P : Nat → Option Nat} {T : List sh_C} {v l h : Int64}  : Ev G mX10_in 0 0 (mkW G S A Lg P T) 0 [some (.long v), none, some (.long l), none, some (.long h), none] [] (sh_is (some (.int (bi (¬ v < l ∧ ¬ h < v)))) (mkW G S A Lg P T)) := by
  refine e_lload_n 0 dX10_in_0 rfl rfl ?_
  refine e_lload_n 2 dX10_in_1 rfl rfl ?_
  refine e_lcmp dX10_in_2 ?_
  refine e_if_lt (tgt := 17) dX10_in_3 rfl (fun h3 => ?_) (fun h3 => ?_)
  · refine e_iconst (v := 0) dX10_in_17 rfl ?_
    refine e_zret dX10_in_18 rfl rfl ?_
    refine is_i ?_ rfl
    first
    | (simp only [lgl] at h3; simp only [lgg] at h10; simp [bi, h3, h10]; done)
    | (simp only [lgl] at h3; simp [bi, h3]; done)
  · refine e_lload_n 0 dX10_in_6 rfl rfl ?_
    refine e_lload dX10_in_7 rfl ?_
    refine e_lcmp dX10_in_9 ?_
    refine e_if_gt (tgt := 17) dX10_in_10 rfl (fun h10 => ?_) (fun h10 => ?_)
    · refine e_iconst (v := 0) dX10_in_17 rfl ?_
      refine e_zret dX10_in_18 rfl rfl ?_
      refine is_i ?_ rfl
      first
      | (simp only [lgl] at h3; simp only [lgg] at h10; simp [bi, h3, h10]; done)
      | (simp only [lgl] at h3; simp [bi, h3]; done)
    · refine e_iconst (v := 1) dX10_in_13 rfl ?_
      refine e_goto (tgt := 18) dX10_in_14 rfl ?_
      refine e_zret dX10_in_18 rfl rfl ?_
      refine is_i ?_ rfl
      first
      | (simp only [lgl] at h3; simp only [lgg] at h10; simp [bi, h3, h10]; done)
      | (simp only [lgl] at h3; simp [bi, h3]; done)

set_option maxRecDepth 4000 in
theorem sp_X10_lost {G : sh_G} {S : Nat → Int32} {A : Nat → Nat → Int32} {Lg : Nat → Int64} {P : Nat → Option Nat} {T : List sh_C}   : Ev G mX10_lost 0 0 (mkW G S A Lg P T) 0 [] [] (sh_is (some (.long (-9223372036854775808))) (mkW G S A Lg P T)) := by
  refine e_ldc2 dX10_lost_0 kc_X10_77 ?_
  exact e_lret dX10_lost_3 rfl ⟨rfl, rfl⟩

set_option maxRecDepth 4000 in
theorem sp_X10_refused {G : sh_G} {S : Nat → Int32} {A : Nat → Nat → Int32} {Lg : Nat → Int64} {P : Nat → Option Nat} {T : List sh_C} {c : Int32}  : Ev G mX10_refused 0 0 (mkW G S A Lg P T) 0 [some (.ref 24), some (.int c)] [] (sh_is (some (.int (c))) (mkW G (va_up S 20 0) A Lg P T)) := by
  refine e_aload_n 0 dX10_refused_0 rfl rfl ?_
  refine e_iconst (v := 0) dX10_refused_1 rfl ?_
  refine e_putfield 0 dX10_refused_2 kp_X10_refused_79_10 (sh_fit_i _) rfl (Nat.le_of_ble_eq_true rfl) ?_
  refine e_iload_n 1 dX10_refused_5 rfl rfl ?_
  exact e_iret dX10_refused_6 rfl (is_i (by first | rfl | simp [bi]) rfl)

set_option maxRecDepth 4000 in
theorem sp_X10_failed {G : sh_G} {S : Nat → Int32} {A : Nat → Nat → Int32} {Lg : Nat → Int64} {P : Nat → Option Nat} {T : List sh_C} {f : Int32}  : Ev G mX10_failed 0 0 (mkW G S A Lg P T) 0 [some (.ref 24), some (.int f)] [] (sh_is (some (.int (-10 - f))) (mkW G (va_up S 20 f) A Lg P T)) := by
  refine e_aload_n 0 dX10_failed_0 rfl rfl ?_
  refine e_iload_n 1 dX10_failed_1 rfl rfl ?_
  refine e_putfield 0 dX10_failed_2 kp_X10_failed_79_10 (sh_fit_i _) rfl (Nat.le_of_ble_eq_true rfl) ?_
  refine e_bipush (v := -10) dX10_failed_5 (by decide) ?_
  refine e_iload_n 1 dX10_failed_7 rfl rfl ?_
  refine e_isub dX10_failed_8 ?_
  exact e_iret dX10_failed_9 rfl (is_i (by first | rfl | simp [bi]) rfl)

set_option maxRecDepth 4000 in
theorem sp_X10_failedLong {G : sh_G} {S : Nat → Int32} {A : Nat → Nat → Int32} {Lg : Nat → Int64} {P : Nat → Option Nat} {T : List sh_C} {f : Int32}  : Ev G mX10_failedLong 0 0 (mkW G S A Lg P T) 0 [some (.ref 24), some (.int f)] [] (sh_is (some (.long (-9223372036854775808))) (mkW G (va_up S 20 f) A Lg P T)) := by
  refine e_aload_n 0 dX10_failedLong_0 rfl rfl ?_
  refine e_iload_n 1 dX10_failedLong_1 rfl rfl ?_
  refine e_putfield 0 dX10_failedLong_2 kp_X10_failedLong_79_10 (sh_fit_i _) rfl (Nat.le_of_ble_eq_true rfl) ?_
  refine e_w (w' := mkW G (va_up S 20 f) A Lg P T) rfl ?_
  refine f_callSl (As := []) ok_X10_lost ⟨Nat.le_of_ble_eq_true rfl, Nat.le_of_ble_eq_true rfl⟩ dX10_failedLong_5 kl_X10_83 ks_X10_lost rfl rfl (Nat.le_of_ble_eq_true rfl) (Nat.le_of_ble_eq_true rfl) (Nat.zero_add _) (Nat.zero_add _) sp_X10_lost ?_
  exact e_lret dX10_failedLong_8 rfl ⟨rfl, rfl⟩

set_option maxRecDepth 4000 in
theorem sp_X10_noSheet {G : sh_G} {S : Nat → Int32} {A : Nat → Nat → Int32} {Lg : Nat → Int64} {P : Nat → Option Nat} {T : List sh_C} {k : Int32}  : Ev G mX10_noSheet 0 0 (mkW G S A Lg P T) 0 [some (.int k)] [] (sh_is (some (.int (bi (¬ (¬ k < 0 ∧ ¬ 4 ≤ k))))) (mkW G S A Lg P T)) := by
  refine e_iload_n 0 dX10_noSheet_0 rfl rfl ?_
  refine e_i2l dX10_noSheet_1 ?_
  refine e_lconst (v := 0) dX10_noSheet_2 rfl ?_
  refine e_ldc2 dX10_noSheet_3 kc_X10_263 ?_
  refine f_callSi (As := [_, _, _]) ok_X10_in ⟨Nat.le_of_ble_eq_true rfl, Nat.le_of_ble_eq_true rfl⟩ dX10_noSheet_6 kl_X10_97 ks_X10_in rfl rfl (Nat.le_of_ble_eq_true rfl) (Nat.le_of_ble_eq_true rfl) (Nat.zero_add _) (Nat.zero_add _) sp_X10_in ?_
  refine e_if_ne (tgt := 16) dX10_noSheet_9 rfl (fun h9 => ?_) (fun h9 => ?_)
  · refine e_iconst (v := 0) dX10_noSheet_16 rfl ?_
    refine e_zret dX10_noSheet_17 rfl rfl ?_
    exact is_i (by rw [in4] at h9; first | exact (bi_t (bi_0.mp h9)).symm | exact (bi_f (nn_ (bi_1.mp h9))).symm) rfl
  · refine e_iconst (v := 1) dX10_noSheet_12 rfl ?_
    refine e_goto (tgt := 17) dX10_noSheet_13 rfl ?_
    refine e_zret dX10_noSheet_17 rfl rfl ?_
    exact is_i (by rw [in4] at h9; first | exact (bi_t (bi_0.mp h9)).symm | exact (bi_f (nn_ (bi_1.mp h9))).symm) rfl

set_option maxRecDepth 4000 in
theorem sp_X10_isBeyond {G : sh_G} {S : Nat → Int32} {A : Nat → Nat → Int32} {Lg : Nat → Int64} {P : Nat → Option Nat} {T : List sh_C} {i a : Int32} {n : Int64}  : Ev G mX10_isBeyond 0 0 (mkW G S A Lg P T) 0 [some (.int i), some (.long n), none, some (.int a)] [] (sh_is (some (.int (bi (i < 0 ∨ n < 0 ∨ a.toInt64 < i.toInt64 + n)))) (mkW G S A Lg P T)) := by
  refine e_iload_n 0 dX10_isBeyond_0 rfl rfl ?_
  refine e_if_lt (tgt := 20) dX10_isBeyond_1 rfl (fun h1 => ?_) (fun h1 => ?_)
  · refine e_iconst (v := 1) dX10_isBeyond_20 rfl ?_
    refine e_goto (tgt := 25) dX10_isBeyond_21 rfl ?_
    refine e_zret dX10_isBeyond_25 rfl rfl ?_
    refine is_i ?_ rfl
    first
    | (rw [lgl] at h7; rw [i_le0, lgg, Classical.not_not] at h17; rw [bi_t (Or.inr (Or.inr h17))]; done)
    | (rw [lgl] at h7; rw [i_le0, lgg] at h17; rw [bi_f (fun h => h.elim h1 (fun h => h.elim h7 h17))]; done)
    | (rw [lgl] at h7; rw [bi_t (Or.inr (Or.inl h7))]; done)
    | (rw [bi_t (Or.inl h1)]; done)
  · refine e_lload_n 1 dX10_isBeyond_4 rfl rfl ?_
    refine e_lconst (v := 0) dX10_isBeyond_5 rfl ?_
    refine e_lcmp dX10_isBeyond_6 ?_
    try simp only [lgl]
    refine e_if_lt (tgt := 20) dX10_isBeyond_7 rfl (fun h7 => ?_) (fun h7 => ?_)
    · refine e_iconst (v := 1) dX10_isBeyond_20 rfl ?_
      refine e_goto (tgt := 25) dX10_isBeyond_21 rfl ?_
      refine e_zret dX10_isBeyond_25 rfl rfl ?_
      refine is_i ?_ rfl
      first
      | (rw [lgl] at h7; rw [i_le0, lgg, Classical.not_not] at h17; rw [bi_t (Or.inr (Or.inr h17))]; done)
      | (rw [lgl] at h7; rw [i_le0, lgg] at h17; rw [bi_f (fun h => h.elim h1 (fun h => h.elim h7 h17))]; done)
      | (rw [lgl] at h7; rw [bi_t (Or.inr (Or.inl h7))]; done)
      | (rw [bi_t (Or.inl h1)]; done)
    · refine e_iload_n 0 dX10_isBeyond_10 rfl rfl ?_
      refine e_i2l dX10_isBeyond_11 ?_
      refine e_lload_n 1 dX10_isBeyond_12 rfl rfl ?_
      refine e_ladd dX10_isBeyond_13 ?_
      refine e_iload_n 3 dX10_isBeyond_14 rfl rfl ?_
      refine e_i2l dX10_isBeyond_15 ?_
      refine e_lcmp dX10_isBeyond_16 ?_
      refine e_if_le (tgt := 24) dX10_isBeyond_17 rfl (fun h17 => ?_) (fun h17 => ?_)
      · refine e_iconst (v := 0) dX10_isBeyond_24 rfl ?_
        refine e_zret dX10_isBeyond_25 rfl rfl ?_
        refine is_i ?_ rfl
        first
        | (rw [lgl] at h7; rw [i_le0, lgg, Classical.not_not] at h17; rw [bi_t (Or.inr (Or.inr h17))]; done)
        | (rw [lgl] at h7; rw [i_le0, lgg] at h17; rw [bi_f (fun h => h.elim h1 (fun h => h.elim h7 h17))]; done)
        | (rw [lgl] at h7; rw [bi_t (Or.inr (Or.inl h7))]; done)
        | (rw [bi_t (Or.inl h1)]; done)
      · refine e_iconst (v := 1) dX10_isBeyond_20 rfl ?_
        refine e_goto (tgt := 25) dX10_isBeyond_21 rfl ?_
        refine e_zret dX10_isBeyond_25 rfl rfl ?_
        refine is_i ?_ rfl
        first
        | (rw [lgl] at h7; rw [i_le0, lgg, Classical.not_not] at h17; rw [bi_t (Or.inr (Or.inr h17))]; done)
        | (rw [lgl] at h7; rw [i_le0, lgg] at h17; rw [bi_f (fun h => h.elim h1 (fun h => h.elim h7 h17))]; done)
        | (rw [lgl] at h7; rw [bi_t (Or.inr (Or.inl h7))]; done)
        | (rw [bi_t (Or.inl h1)]; done)

set_option maxRecDepth 4000 in
theorem sp_X10_noCell {G : sh_G} {S : Nat → Int32} {A : Nat → Nat → Int32} {Lg : Nat → Int64} {P : Nat → Option Nat} {T : List sh_C} {b : sh_be} {i : Int32} {k : Nat} (hR : RM S A b) (hI : IV b) (hk : k < 4) : Ev G mX10_noCell 0 0 (mkW G S A Lg P T) 0 [some (.ref 24), some (.int (nI k)), some (.int i)] [] (sh_is (some (.int (nCl b k i))) (mkW G S A Lg P T)) := by
  have hX := hR.2.2.2.2.2.2.1 k hk
  refine e_aload_n 0 dX10_noCell_0 rfl rfl ?_
  refine e_getfield 30 dX10_noCell_1 kf_X10_65_10 rfl rfl ?_
  refine e_iload_n 1 dX10_noCell_4 rfl rfl ?_
  refine e_iald_n (k) dX10_noCell_5 rfl rfl (by omega) (by decide) ?_
  refine e_if_ge (tgt := 13) dX10_noCell_6 rfl (fun h6 => ?_) (fun h6 => ?_)
  · obtain ⟨z, hz⟩ := shM_ex hX h6
    have hzl := IV.m hI k z hk hz
    have e1 := (shM_s hX hz).1
    refine e_iload_n 2 dX10_noCell_13 rfl rfl ?_
    refine e_i2l dX10_noCell_14 ?_
    refine e_lconst (v := 0) dX10_noCell_15 rfl ?_
    refine e_aload_n 0 dX10_noCell_16 rfl rfl ?_
    refine e_getfield 30 dX10_noCell_17 kf_X10_65_10 rfl rfl ?_
    refine e_iload_n 1 dX10_noCell_20 rfl rfl ?_
    refine e_iald_n (k) dX10_noCell_21 rfl rfl (by omega) (by decide) ?_
    refine e_i2l dX10_noCell_22 ?_
    refine e_lconst (v := 1) dX10_noCell_23 rfl ?_
    refine e_lsub dX10_noCell_24 ?_
    refine f_callSi (As := [_, _, _]) ok_X10_in ⟨Nat.le_of_ble_eq_true rfl, Nat.le_of_ble_eq_true rfl⟩ dX10_noCell_25 kl_X10_97 ks_X10_in rfl rfl (Nat.le_of_ble_eq_true rfl) (Nat.le_of_ble_eq_true rfl) (Nat.zero_add _) (Nat.zero_add _) sp_X10_in ?_
    refine e_if_eq (tgt := 35) dX10_noCell_28 rfl (fun h28 => ?_) (fun h28 => ?_)
    · refine e_iconst (v := 3) dX10_noCell_35 rfl ?_
      refine e_iret dX10_noCell_36 rfl ?_
      refine is_i ?_ rfl
      first
      | (rw [nCl, hz]; done)
      | (rw [e1, inL (by omega)] at h28; rw [nCl, hz]; simp only []; rw [if_pos (bi_1.mp h28)]; done)
      | (rw [e1, inL (by omega)] at h28; rw [nCl, hz]; simp only []; rw [if_neg (bi_0.mp h28)]; done)
    · refine e_iconst (v := 0) dX10_noCell_31 rfl ?_
      refine e_goto (tgt := 36) dX10_noCell_32 rfl ?_
      refine e_iret dX10_noCell_36 rfl ?_
      refine is_i ?_ rfl
      first
      | (rw [nCl, hz]; done)
      | (rw [e1, inL (by omega)] at h28; rw [nCl, hz]; simp only []; rw [if_pos (bi_1.mp h28)]; done)
      | (rw [e1, inL (by omega)] at h28; rw [nCl, hz]; simp only []; rw [if_neg (bi_0.mp h28)]; done)
  · have hz : bz b k = none := shM_no hX (IV.m hI) hk h6
    refine e_iconst (v := 1) dX10_noCell_9 rfl ?_
    refine e_goto (tgt := 36) dX10_noCell_10 rfl ?_
    refine e_iret dX10_noCell_36 rfl ?_
    refine is_i ?_ rfl
    first
    | (rw [nCl, hz]; done)
    | (rw [e1, inL (by omega)] at h28; rw [nCl, hz]; simp only []; rw [if_pos (bi_1.mp h28)]; done)
    | (rw [e1, inL (by omega)] at h28; rw [nCl, hz]; simp only []; rw [if_neg (bi_0.mp h28)]; done)
