set_option maxRecDepth 4000 in
theorem sp_X9_isSheet {G : sh_G} {S : Nat → Int32} {A : Nat → Nat → Int32} {Lg : Nat → Int64} {P : Nat → Option Nat} {T : List sh_C} {k : Int32}  : Ev G mX9_isSheet 0 0 (mkW G S A Lg P T) 0 [some (.int k)] [] (sh_is (some (.int (bi (¬ k < 0 ∧ ¬ 4 ≤ k)))) (mkW G S A Lg P T)) := by
  refine e_iload_n 0 dX9_isSheet_0 rfl rfl ?_
  refine e_if_lt (tgt := 13) dX9_isSheet_1 rfl (fun h1 => ?_) (fun h1 => ?_)
  · refine e_iconst (v := 0) dX9_isSheet_13 rfl ?_
    exact e_zret dX9_isSheet_14 rfl rfl (is_i (by first | rfl | simp [bi, h1]) rfl)
  · refine e_iload_n 0 dX9_isSheet_4 rfl rfl ?_
    refine e_iconst (v := 4) dX9_isSheet_5 rfl ?_
    refine e_icmp_ge (tgt := 13) dX9_isSheet_6 rfl (fun h6 => ?_) (fun h6 => ?_)
    · refine e_iconst (v := 0) dX9_isSheet_13 rfl ?_
      exact e_zret dX9_isSheet_14 rfl rfl (is_i (by first | rfl | simp [bi, h1, h6]) rfl)
    · refine e_iconst (v := 1) dX9_isSheet_9 rfl ?_
      refine e_goto (tgt := 14) dX9_isSheet_10 rfl ?_
      exact e_zret dX9_isSheet_14 rfl rfl (is_i (by first | rfl | simp [bi, h1, h6]) rfl)

set_option maxRecDepth 4000 in
theorem sp_X9_isLane {G : sh_G} {S : Nat → Int32} {A : Nat → Nat → Int32} {Lg : Nat → Int64} {P : Nat → Option Nat} {T : List sh_C} {k : Int32}  : Ev G mX9_isLane 0 0 (mkW G S A Lg P T) 0 [some (.int k)] [] (sh_is (some (.int (bi (¬ k < 0 ∧ ¬ 2 < k)))) (mkW G S A Lg P T)) := by
  refine e_iload_n 0 dX9_isLane_0 rfl rfl ?_
  refine e_if_lt (tgt := 13) dX9_isLane_1 rfl (fun h1 => ?_) (fun h1 => ?_)
  · refine e_iconst (v := 0) dX9_isLane_13 rfl ?_
    exact e_zret dX9_isLane_14 rfl rfl (is_i (by first | rfl | simp [bi, h1]) rfl)
  · refine e_iload_n 0 dX9_isLane_4 rfl rfl ?_
    refine e_iconst (v := 2) dX9_isLane_5 rfl ?_
    refine e_icmp_gt (tgt := 13) dX9_isLane_6 rfl (fun h6 => ?_) (fun h6 => ?_)
    · refine e_iconst (v := 0) dX9_isLane_13 rfl ?_
      exact e_zret dX9_isLane_14 rfl rfl (is_i (by first | rfl | simp [bi, h1, h6]) rfl)
    · refine e_iconst (v := 1) dX9_isLane_9 rfl ?_
      refine e_goto (tgt := 14) dX9_isLane_10 rfl ?_
      exact e_zret dX9_isLane_14 rfl rfl (is_i (by first | rfl | simp [bi, h1, h6]) rfl)

set_option maxRecDepth 4000 in
theorem sp_X9_isPersonsWeight {G : sh_G} {S : Nat → Int32} {A : Nat → Nat → Int32} {Lg : Nat → Int64} {P : Nat → Option Nat} {T : List sh_C} {k : Int32}  : Ev G mX9_isPersonsWeight 0 0 (mkW G S A Lg P T) 0 [some (.int k)] [] (sh_is (some (.int (bi (¬ k < 10 ∧ ¬ 99 < k)))) (mkW G S A Lg P T)) := by
  refine e_iload_n 0 dX9_isPersonsWeight_0 rfl rfl ?_
  refine e_bipush (v := 10) dX9_isPersonsWeight_1 (by decide) ?_
  refine e_icmp_lt (tgt := 16) dX9_isPersonsWeight_3 rfl (fun h3 => ?_) (fun h3 => ?_)
  · refine e_iconst (v := 0) dX9_isPersonsWeight_16 rfl ?_
    exact e_zret dX9_isPersonsWeight_17 rfl rfl (is_i (by first | rfl | simp [bi, h3]) rfl)
  · refine e_iload_n 0 dX9_isPersonsWeight_6 rfl rfl ?_
    refine e_bipush (v := 99) dX9_isPersonsWeight_7 (by decide) ?_
    refine e_icmp_gt (tgt := 16) dX9_isPersonsWeight_9 rfl (fun h9 => ?_) (fun h9 => ?_)
    · refine e_iconst (v := 0) dX9_isPersonsWeight_16 rfl ?_
      exact e_zret dX9_isPersonsWeight_17 rfl rfl (is_i (by first | rfl | simp [bi, h3, h9]) rfl)
    · refine e_iconst (v := 1) dX9_isPersonsWeight_12 rfl ?_
      refine e_goto (tgt := 17) dX9_isPersonsWeight_13 rfl ?_
      exact e_zret dX9_isPersonsWeight_17 rfl rfl (is_i (by first | rfl | simp [bi, h3, h9]) rfl)

set_option maxRecDepth 4000 in
theorem sp_X9_faulted {G : sh_G} {S : Nat → Int32} {A : Nat → Nat → Int32} {Lg : Nat → Int64} {P : Nat → Option Nat} {T : List sh_C} {f : Int32}  : Ev G mX9_faulted 0 0 (mkW G S A Lg P T) 0 [some (.ref 1), some (.int f)] [] (sh_is (some (.int (-10 - f))) (mkW G (va_up S 0 f) A Lg P T)) := by
  refine e_aload_n 0 dX9_faulted_0 rfl rfl ?_
  refine e_iload_n 1 dX9_faulted_1 rfl rfl ?_
  refine e_putfield 5 dX9_faulted_2 kp_X9_faulted_201_9 (sh_fit_i _) rfl (Nat.le_of_ble_eq_true rfl) ?_
  refine e_bipush (v := -10) dX9_faulted_5 (by decide) ?_
  refine e_iload_n 1 dX9_faulted_7 rfl rfl ?_
  refine e_isub dX9_faulted_8 ?_
  exact e_iret dX9_faulted_9 rfl (is_i (by first | rfl | simp [bi]) rfl)

set_option maxRecDepth 4000 in
theorem sp_X3_hasNothing {G : sh_G} {S : Nat → Int32} {A : Nat → Nat → Int32} {Lg : Nat → Int64} {P : Nat → Option Nat} {T : List sh_C} {k : Nat} (hk : k < 4) : Ev G mX3_hasNothing 0 0 (mkW G S A Lg P T) 0 [some (.ref (16 + 2 * k))] [] (sh_is (some (.int (bi (S (11 + k) = -1)))) (mkW G S A Lg P T)) := by
  match k, hk with
  | 0, _ =>
    refine e_aload_n 0 dX3_hasNothing_0 rfl rfl ?_
    refine e_getfield 1 dX3_hasNothing_1 kf_X3_15_3 rfl rfl ?_
    refine e_iconst (v := -1) dX3_hasNothing_4 rfl ?_
    refine e_icmp_ne (tgt := 12) dX3_hasNothing_5 rfl (fun h5 => ?_) (fun h5 => ?_)
    · refine e_iconst (v := 0) dX3_hasNothing_12 rfl ?_
      exact e_zret dX3_hasNothing_13 rfl rfl (is_i (by first | rfl | simp [bi, h5]) rfl)
    · refine e_iconst (v := 1) dX3_hasNothing_8 rfl ?_
      refine e_goto (tgt := 13) dX3_hasNothing_9 rfl ?_
      exact e_zret dX3_hasNothing_13 rfl rfl (is_i (by first | rfl | simp [bi, h5]) rfl)
  | 1, _ =>
    refine e_aload_n 0 dX3_hasNothing_0 rfl rfl ?_
    refine e_getfield 1 dX3_hasNothing_1 kf_X3_15_3 rfl rfl ?_
    refine e_iconst (v := -1) dX3_hasNothing_4 rfl ?_
    refine e_icmp_ne (tgt := 12) dX3_hasNothing_5 rfl (fun h5 => ?_) (fun h5 => ?_)
    · refine e_iconst (v := 0) dX3_hasNothing_12 rfl ?_
      exact e_zret dX3_hasNothing_13 rfl rfl (is_i (by first | rfl | simp [bi, h5]) rfl)
    · refine e_iconst (v := 1) dX3_hasNothing_8 rfl ?_
      refine e_goto (tgt := 13) dX3_hasNothing_9 rfl ?_
      exact e_zret dX3_hasNothing_13 rfl rfl (is_i (by first | rfl | simp [bi, h5]) rfl)
  | 2, _ =>
    refine e_aload_n 0 dX3_hasNothing_0 rfl rfl ?_
    refine e_getfield 1 dX3_hasNothing_1 kf_X3_15_3 rfl rfl ?_
    refine e_iconst (v := -1) dX3_hasNothing_4 rfl ?_
    refine e_icmp_ne (tgt := 12) dX3_hasNothing_5 rfl (fun h5 => ?_) (fun h5 => ?_)
    · refine e_iconst (v := 0) dX3_hasNothing_12 rfl ?_
      exact e_zret dX3_hasNothing_13 rfl rfl (is_i (by first | rfl | simp [bi, h5]) rfl)
    · refine e_iconst (v := 1) dX3_hasNothing_8 rfl ?_
      refine e_goto (tgt := 13) dX3_hasNothing_9 rfl ?_
      exact e_zret dX3_hasNothing_13 rfl rfl (is_i (by first | rfl | simp [bi, h5]) rfl)
  | 3, _ =>
    refine e_aload_n 0 dX3_hasNothing_0 rfl rfl ?_
    refine e_getfield 1 dX3_hasNothing_1 kf_X3_15_3 rfl rfl ?_
    refine e_iconst (v := -1) dX3_hasNothing_4 rfl ?_
    refine e_icmp_ne (tgt := 12) dX3_hasNothing_5 rfl (fun h5 => ?_) (fun h5 => ?_)
    · refine e_iconst (v := 0) dX3_hasNothing_12 rfl ?_
      exact e_zret dX3_hasNothing_13 rfl rfl (is_i (by first | rfl | simp [bi, h5]) rfl)
    · refine e_iconst (v := 1) dX3_hasNothing_8 rfl ?_
      refine e_goto (tgt := 13) dX3_hasNothing_9 rfl ?_
      exact e_zret dX3_hasNothing_13 rfl rfl (is_i (by first | rfl | simp [bi, h5]) rfl)

set_option maxRecDepth 4000 in
theorem sp_X3_empty {G : sh_G} {S : Nat → Int32} {A : Nat → Nat → Int32} {Lg : Nat → Int64} {P : Nat → Option Nat} {T : List sh_C} {k : Nat} (hk : k < 4) : Ev G mX3_empty 0 0 (mkW G S A Lg P T) 0 [some (.ref (16 + 2 * k))] [] (sh_is none (mkW G (va_up (va_up S (11 + k) (-1)) (15 + k) 0) A Lg P T)) := by
  match k, hk with
  | 0, _ =>
    refine e_aload_n 0 dX3_empty_0 rfl rfl ?_
    refine e_iconst (v := -1) dX3_empty_1 rfl ?_
    refine e_putfield 1 dX3_empty_2 kp_X3_empty_15_3 (sh_fit_i _) rfl (Nat.le_of_ble_eq_true rfl) ?_
    refine e_aload_n 0 dX3_empty_5 rfl rfl ?_
    refine e_iconst (v := 0) dX3_empty_6 rfl ?_
    refine e_putfield 2 dX3_empty_7 kp_X3_empty_19_3 (sh_fit_i _) rfl (Nat.le_of_ble_eq_true rfl) ?_
    exact e_vret dX3_empty_10 rfl ⟨rfl, rfl⟩
  | 1, _ =>
    refine e_aload_n 0 dX3_empty_0 rfl rfl ?_
    refine e_iconst (v := -1) dX3_empty_1 rfl ?_
    refine e_putfield 1 dX3_empty_2 kp_X3_empty_15_3 (sh_fit_i _) rfl (Nat.le_of_ble_eq_true rfl) ?_
    refine e_aload_n 0 dX3_empty_5 rfl rfl ?_
    refine e_iconst (v := 0) dX3_empty_6 rfl ?_
    refine e_putfield 2 dX3_empty_7 kp_X3_empty_19_3 (sh_fit_i _) rfl (Nat.le_of_ble_eq_true rfl) ?_
    exact e_vret dX3_empty_10 rfl ⟨rfl, rfl⟩
  | 2, _ =>
    refine e_aload_n 0 dX3_empty_0 rfl rfl ?_
    refine e_iconst (v := -1) dX3_empty_1 rfl ?_
    refine e_putfield 1 dX3_empty_2 kp_X3_empty_15_3 (sh_fit_i _) rfl (Nat.le_of_ble_eq_true rfl) ?_
    refine e_aload_n 0 dX3_empty_5 rfl rfl ?_
    refine e_iconst (v := 0) dX3_empty_6 rfl ?_
    refine e_putfield 2 dX3_empty_7 kp_X3_empty_19_3 (sh_fit_i _) rfl (Nat.le_of_ble_eq_true rfl) ?_
    exact e_vret dX3_empty_10 rfl ⟨rfl, rfl⟩
  | 3, _ =>
    refine e_aload_n 0 dX3_empty_0 rfl rfl ?_
    refine e_iconst (v := -1) dX3_empty_1 rfl ?_
    refine e_putfield 1 dX3_empty_2 kp_X3_empty_15_3 (sh_fit_i _) rfl (Nat.le_of_ble_eq_true rfl) ?_
    refine e_aload_n 0 dX3_empty_5 rfl rfl ?_
    refine e_iconst (v := 0) dX3_empty_6 rfl ?_
    refine e_putfield 2 dX3_empty_7 kp_X3_empty_19_3 (sh_fit_i _) rfl (Nat.le_of_ble_eq_true rfl) ?_
    exact e_vret dX3_empty_10 rfl ⟨rfl, rfl⟩

set_option maxRecDepth 4000 in
theorem sp_X3_has {G : sh_G} {S : Nat → Int32} {A : Nat → Nat → Int32} {Lg : Nat → Int64} {P : Nat → Option Nat} {T : List sh_C} {k : Nat} {i n : Int32} (hk : k < 4) : Ev G mX3_has 0 0 (mkW G S A Lg P T) 0 [some (.ref (16 + 2 * k)), some (.int i), some (.int n)] [] (sh_is (some (.int (bi (¬ i < 0 ∧ ¬ n < 0 ∧ ¬ S (15 + k) < i ∧ ¬ S (15 + k) - i < n)))) (mkW G S A Lg P T)) := by
  match k, hk with
  | 0, _ =>
    refine e_iload_n 1 dX3_has_0 rfl rfl ?_
    refine e_if_lt (tgt := 30) dX3_has_1 rfl (fun h1 => ?_) (fun h1 => ?_)
    · refine e_iconst (v := 0) dX3_has_30 rfl ?_
      exact e_zret dX3_has_31 rfl rfl (is_i (by first | rfl | simp [bi, h1]) rfl)
    · refine e_iload_n 2 dX3_has_4 rfl rfl ?_
      refine e_if_lt (tgt := 30) dX3_has_5 rfl (fun h5 => ?_) (fun h5 => ?_)
      · refine e_iconst (v := 0) dX3_has_30 rfl ?_
        exact e_zret dX3_has_31 rfl rfl (is_i (by first | rfl | simp [bi, h1, h5]) rfl)
      · refine e_iload_n 1 dX3_has_8 rfl rfl ?_
        refine e_aload_n 0 dX3_has_9 rfl rfl ?_
        refine e_getfield 2 dX3_has_10 kf_X3_19_3 rfl rfl ?_
        refine e_icmp_gt (tgt := 30) dX3_has_13 rfl (fun h13 => ?_) (fun h13 => ?_)
        · refine e_iconst (v := 0) dX3_has_30 rfl ?_
          exact e_zret dX3_has_31 rfl rfl (is_i (by first | rfl | simp [bi, h1, h5, h13]) rfl)
        · refine e_iload_n 2 dX3_has_16 rfl rfl ?_
          refine e_aload_n 0 dX3_has_17 rfl rfl ?_
          refine e_getfield 2 dX3_has_18 kf_X3_19_3 rfl rfl ?_
          refine e_iload_n 1 dX3_has_21 rfl rfl ?_
          refine e_isub dX3_has_22 ?_
          refine e_icmp_gt (tgt := 30) dX3_has_23 rfl (fun h23 => ?_) (fun h23 => ?_)
          · refine e_iconst (v := 0) dX3_has_30 rfl ?_
            exact e_zret dX3_has_31 rfl rfl (is_i (by first | rfl | simp [bi, h1, h5, h13, h23]) rfl)
          · refine e_iconst (v := 1) dX3_has_26 rfl ?_
            refine e_goto (tgt := 31) dX3_has_27 rfl ?_
            exact e_zret dX3_has_31 rfl rfl (is_i (by first | rfl | simp [bi, h1, h5, h13, h23]) rfl)
  | 1, _ =>
    refine e_iload_n 1 dX3_has_0 rfl rfl ?_
    refine e_if_lt (tgt := 30) dX3_has_1 rfl (fun h1 => ?_) (fun h1 => ?_)
    · refine e_iconst (v := 0) dX3_has_30 rfl ?_
      exact e_zret dX3_has_31 rfl rfl (is_i (by first | rfl | simp [bi, h1]) rfl)
    · refine e_iload_n 2 dX3_has_4 rfl rfl ?_
      refine e_if_lt (tgt := 30) dX3_has_5 rfl (fun h5 => ?_) (fun h5 => ?_)
      · refine e_iconst (v := 0) dX3_has_30 rfl ?_
        exact e_zret dX3_has_31 rfl rfl (is_i (by first | rfl | simp [bi, h1, h5]) rfl)
      · refine e_iload_n 1 dX3_has_8 rfl rfl ?_
        refine e_aload_n 0 dX3_has_9 rfl rfl ?_
        refine e_getfield 2 dX3_has_10 kf_X3_19_3 rfl rfl ?_
        refine e_icmp_gt (tgt := 30) dX3_has_13 rfl (fun h13 => ?_) (fun h13 => ?_)
        · refine e_iconst (v := 0) dX3_has_30 rfl ?_
          exact e_zret dX3_has_31 rfl rfl (is_i (by first | rfl | simp [bi, h1, h5, h13]) rfl)
        · refine e_iload_n 2 dX3_has_16 rfl rfl ?_
          refine e_aload_n 0 dX3_has_17 rfl rfl ?_
          refine e_getfield 2 dX3_has_18 kf_X3_19_3 rfl rfl ?_
          refine e_iload_n 1 dX3_has_21 rfl rfl ?_
          refine e_isub dX3_has_22 ?_
          refine e_icmp_gt (tgt := 30) dX3_has_23 rfl (fun h23 => ?_) (fun h23 => ?_)
          · refine e_iconst (v := 0) dX3_has_30 rfl ?_
            exact e_zret dX3_has_31 rfl rfl (is_i (by first | rfl | simp [bi, h1, h5, h13, h23]) rfl)
          · refine e_iconst (v := 1) dX3_has_26 rfl ?_
            refine e_goto (tgt := 31) dX3_has_27 rfl ?_
            exact e_zret dX3_has_31 rfl rfl (is_i (by first | rfl | simp [bi, h1, h5, h13, h23]) rfl)
  | 2, _ =>
    refine e_iload_n 1 dX3_has_0 rfl rfl ?_
    refine e_if_lt (tgt := 30) dX3_has_1 rfl (fun h1 => ?_) (fun h1 => ?_)
    · refine e_iconst (v := 0) dX3_has_30 rfl ?_
      exact e_zret dX3_has_31 rfl rfl (is_i (by first | rfl | simp [bi, h1]) rfl)
    · refine e_iload_n 2 dX3_has_4 rfl rfl ?_
      refine e_if_lt (tgt := 30) dX3_has_5 rfl (fun h5 => ?_) (fun h5 => ?_)
      · refine e_iconst (v := 0) dX3_has_30 rfl ?_
        exact e_zret dX3_has_31 rfl rfl (is_i (by first | rfl | simp [bi, h1, h5]) rfl)
      · refine e_iload_n 1 dX3_has_8 rfl rfl ?_
        refine e_aload_n 0 dX3_has_9 rfl rfl ?_
        refine e_getfield 2 dX3_has_10 kf_X3_19_3 rfl rfl ?_
        refine e_icmp_gt (tgt := 30) dX3_has_13 rfl (fun h13 => ?_) (fun h13 => ?_)
        · refine e_iconst (v := 0) dX3_has_30 rfl ?_
          exact e_zret dX3_has_31 rfl rfl (is_i (by first | rfl | simp [bi, h1, h5, h13]) rfl)
        · refine e_iload_n 2 dX3_has_16 rfl rfl ?_
          refine e_aload_n 0 dX3_has_17 rfl rfl ?_
          refine e_getfield 2 dX3_has_18 kf_X3_19_3 rfl rfl ?_
          refine e_iload_n 1 dX3_has_21 rfl rfl ?_
          refine e_isub dX3_has_22 ?_
          refine e_icmp_gt (tgt := 30) dX3_has_23 rfl (fun h23 => ?_) (fun h23 => ?_)
          · refine e_iconst (v := 0) dX3_has_30 rfl ?_
            exact e_zret dX3_has_31 rfl rfl (is_i (by first | rfl | simp [bi, h1, h5, h13, h23]) rfl)
          · refine e_iconst (v := 1) dX3_has_26 rfl ?_
            refine e_goto (tgt := 31) dX3_has_27 rfl ?_
            exact e_zret dX3_has_31 rfl rfl (is_i (by first | rfl | simp [bi, h1, h5, h13, h23]) rfl)
  | 3, _ =>
    refine e_iload_n 1 dX3_has_0 rfl rfl ?_
    refine e_if_lt (tgt := 30) dX3_has_1 rfl (fun h1 => ?_) (fun h1 => ?_)
    · refine e_iconst (v := 0) dX3_has_30 rfl ?_
      exact e_zret dX3_has_31 rfl rfl (is_i (by first | rfl | simp [bi, h1]) rfl)
    · refine e_iload_n 2 dX3_has_4 rfl rfl ?_
      refine e_if_lt (tgt := 30) dX3_has_5 rfl (fun h5 => ?_) (fun h5 => ?_)
      · refine e_iconst (v := 0) dX3_has_30 rfl ?_
        exact e_zret dX3_has_31 rfl rfl (is_i (by first | rfl | simp [bi, h1, h5]) rfl)
      · refine e_iload_n 1 dX3_has_8 rfl rfl ?_
        refine e_aload_n 0 dX3_has_9 rfl rfl ?_
        refine e_getfield 2 dX3_has_10 kf_X3_19_3 rfl rfl ?_
        refine e_icmp_gt (tgt := 30) dX3_has_13 rfl (fun h13 => ?_) (fun h13 => ?_)
        · refine e_iconst (v := 0) dX3_has_30 rfl ?_
          exact e_zret dX3_has_31 rfl rfl (is_i (by first | rfl | simp [bi, h1, h5, h13]) rfl)
        · refine e_iload_n 2 dX3_has_16 rfl rfl ?_
          refine e_aload_n 0 dX3_has_17 rfl rfl ?_
          refine e_getfield 2 dX3_has_18 kf_X3_19_3 rfl rfl ?_
          refine e_iload_n 1 dX3_has_21 rfl rfl ?_
          refine e_isub dX3_has_22 ?_
          refine e_icmp_gt (tgt := 30) dX3_has_23 rfl (fun h23 => ?_) (fun h23 => ?_)
          · refine e_iconst (v := 0) dX3_has_30 rfl ?_
            exact e_zret dX3_has_31 rfl rfl (is_i (by first | rfl | simp [bi, h1, h5, h13, h23]) rfl)
          · refine e_iconst (v := 1) dX3_has_26 rfl ?_
            refine e_goto (tgt := 31) dX3_has_27 rfl ?_
            exact e_zret dX3_has_31 rfl rfl (is_i (by first | rfl | simp [bi, h1, h5, h13, h23]) rfl)

set_option maxRecDepth 4000 in
theorem sp_X3_cut {G : sh_G} {S : Nat → Int32} {A : Nat → Nat → Int32} {Lg : Nat → Int64} {P : Nat → Option Nat} {T : List sh_C} {k : Nat} {v : Int32} (hk : k < 4) : Ev G mX3_cut 0 0 (mkW G S A Lg P T) 0 [some (.ref (16 + 2 * k)), some (.int v)] [] (sh_is (some (.int (if S (11 + k) = 0 then v.toInt8.toInt32 else if S (11 + k) = 1 then v.toInt16.toInt32 else v))) (mkW G S A Lg P T)) := by
  match k, hk with
  | 0, _ =>
    refine e_aload_n 0 dX3_cut_0 rfl rfl ?_
    refine e_getfield 1 dX3_cut_1 kf_X3_15_3 rfl rfl ?_
    refine e_if_ne (tgt := 10) dX3_cut_4 rfl (fun h4 => ?_) (fun h4 => ?_)
    · refine e_aload_n 0 dX3_cut_10 rfl rfl ?_
      refine e_getfield 1 dX3_cut_11 kf_X3_15_3 rfl rfl ?_
      refine e_iconst (v := 1) dX3_cut_14 rfl ?_
      refine e_icmp_ne (tgt := 23) dX3_cut_15 rfl (fun h15 => ?_) (fun h15 => ?_)
      · refine e_iload_n 1 dX3_cut_23 rfl rfl ?_
        exact e_iret dX3_cut_24 rfl (is_i (by first | rfl | simp [bi, h4, h15]) rfl)
      · refine e_iload_n 1 dX3_cut_18 rfl rfl ?_
        refine e_i2s dX3_cut_19 ?_
        refine e_goto (tgt := 24) dX3_cut_20 rfl ?_
        exact e_iret dX3_cut_24 rfl (is_i (by first | rfl | simp [bi, h4, h15]) rfl)
    · refine e_iload_n 1 dX3_cut_7 rfl rfl ?_
      refine e_i2b dX3_cut_8 ?_
      exact e_iret dX3_cut_9 rfl (is_i (by first | rfl | simp [bi, h4]) rfl)
  | 1, _ =>
    refine e_aload_n 0 dX3_cut_0 rfl rfl ?_
    refine e_getfield 1 dX3_cut_1 kf_X3_15_3 rfl rfl ?_
    refine e_if_ne (tgt := 10) dX3_cut_4 rfl (fun h4 => ?_) (fun h4 => ?_)
    · refine e_aload_n 0 dX3_cut_10 rfl rfl ?_
      refine e_getfield 1 dX3_cut_11 kf_X3_15_3 rfl rfl ?_
      refine e_iconst (v := 1) dX3_cut_14 rfl ?_
      refine e_icmp_ne (tgt := 23) dX3_cut_15 rfl (fun h15 => ?_) (fun h15 => ?_)
      · refine e_iload_n 1 dX3_cut_23 rfl rfl ?_
        exact e_iret dX3_cut_24 rfl (is_i (by first | rfl | simp [bi, h4, h15]) rfl)
      · refine e_iload_n 1 dX3_cut_18 rfl rfl ?_
        refine e_i2s dX3_cut_19 ?_
        refine e_goto (tgt := 24) dX3_cut_20 rfl ?_
        exact e_iret dX3_cut_24 rfl (is_i (by first | rfl | simp [bi, h4, h15]) rfl)
    · refine e_iload_n 1 dX3_cut_7 rfl rfl ?_
      refine e_i2b dX3_cut_8 ?_
      exact e_iret dX3_cut_9 rfl (is_i (by first | rfl | simp [bi, h4]) rfl)
  | 2, _ =>
    refine e_aload_n 0 dX3_cut_0 rfl rfl ?_
    refine e_getfield 1 dX3_cut_1 kf_X3_15_3 rfl rfl ?_
    refine e_if_ne (tgt := 10) dX3_cut_4 rfl (fun h4 => ?_) (fun h4 => ?_)
    · refine e_aload_n 0 dX3_cut_10 rfl rfl ?_
      refine e_getfield 1 dX3_cut_11 kf_X3_15_3 rfl rfl ?_
      refine e_iconst (v := 1) dX3_cut_14 rfl ?_
      refine e_icmp_ne (tgt := 23) dX3_cut_15 rfl (fun h15 => ?_) (fun h15 => ?_)
      · refine e_iload_n 1 dX3_cut_23 rfl rfl ?_
        exact e_iret dX3_cut_24 rfl (is_i (by first | rfl | simp [bi, h4, h15]) rfl)
      · refine e_iload_n 1 dX3_cut_18 rfl rfl ?_
        refine e_i2s dX3_cut_19 ?_
        refine e_goto (tgt := 24) dX3_cut_20 rfl ?_
        exact e_iret dX3_cut_24 rfl (is_i (by first | rfl | simp [bi, h4, h15]) rfl)
    · refine e_iload_n 1 dX3_cut_7 rfl rfl ?_
      refine e_i2b dX3_cut_8 ?_
      exact e_iret dX3_cut_9 rfl (is_i (by first | rfl | simp [bi, h4]) rfl)
  | 3, _ =>
    refine e_aload_n 0 dX3_cut_0 rfl rfl ?_
    refine e_getfield 1 dX3_cut_1 kf_X3_15_3 rfl rfl ?_
    refine e_if_ne (tgt := 10) dX3_cut_4 rfl (fun h4 => ?_) (fun h4 => ?_)
    · refine e_aload_n 0 dX3_cut_10 rfl rfl ?_
      refine e_getfield 1 dX3_cut_11 kf_X3_15_3 rfl rfl ?_
      refine e_iconst (v := 1) dX3_cut_14 rfl ?_
      refine e_icmp_ne (tgt := 23) dX3_cut_15 rfl (fun h15 => ?_) (fun h15 => ?_)
      · refine e_iload_n 1 dX3_cut_23 rfl rfl ?_
        exact e_iret dX3_cut_24 rfl (is_i (by first | rfl | simp [bi, h4, h15]) rfl)
      · refine e_iload_n 1 dX3_cut_18 rfl rfl ?_
        refine e_i2s dX3_cut_19 ?_
        refine e_goto (tgt := 24) dX3_cut_20 rfl ?_
        exact e_iret dX3_cut_24 rfl (is_i (by first | rfl | simp [bi, h4, h15]) rfl)
    · refine e_iload_n 1 dX3_cut_7 rfl rfl ?_
      refine e_i2b dX3_cut_8 ?_
      exact e_iret dX3_cut_9 rfl (is_i (by first | rfl | simp [bi, h4]) rfl)
