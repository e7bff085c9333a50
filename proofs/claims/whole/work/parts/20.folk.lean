set_option maxRecDepth 4000 in
theorem sp_X0_placeWith {G : sh_G} {S : Nat → Int32} {A : Nat → Nat → Int32} {Lg : Nat → Int64} {P : Nat → Option Nat} {T : List sh_C} {p : Int32}  : Ev G mX0_placeWith 0 0 (mkW G S A Lg P T) 0 [some (.int p)] [] (sh_is (some (.int (-20 - p))) (mkW G S A Lg P T)) := by
  refine e_bipush (v := -20) dX0_placeWith_0 (by decide) ?_
  refine e_iload_n 0 dX0_placeWith_2 rfl rfl ?_
  refine e_isub dX0_placeWith_3 ?_
  exact e_iret dX0_placeWith_4 rfl (is_i (by first | rfl | simp [bi]) rfl)

set_option maxRecDepth 4000 in
theorem sp_X0_hasPerson {G : sh_G} {S : Nat → Int32} {A : Nat → Nat → Int32} {Lg : Nat → Int64} {P : Nat → Option Nat} {T : List sh_C} {p : Int32}  : Ev G mX0_hasPerson 0 0 (mkW G S A Lg P T) 0 [some (.ref 5), some (.int p)] [] (sh_is (some (.int (bi (¬ p < 0 ∧ ¬ S 3 ≤ p)))) (mkW G S A Lg P T)) := by
  refine e_iload_n 1 dX0_hasPerson_0 rfl rfl ?_
  refine e_if_lt (tgt := 16) dX0_hasPerson_1 rfl (fun h1 => ?_) (fun h1 => ?_)
  · refine e_iconst (v := 0) dX0_hasPerson_16 rfl ?_
    exact e_zret dX0_hasPerson_17 rfl rfl (is_i (by first | rfl | simp [bi, h1]) rfl)
  · refine e_iload_n 1 dX0_hasPerson_4 rfl rfl ?_
    refine e_aload_n 0 dX0_hasPerson_5 rfl rfl ?_
    refine e_getfield 0 dX0_hasPerson_6 kf_X0_24_0 rfl rfl ?_
    refine e_icmp_ge (tgt := 16) dX0_hasPerson_9 rfl (fun h9 => ?_) (fun h9 => ?_)
    · refine e_iconst (v := 0) dX0_hasPerson_16 rfl ?_
      exact e_zret dX0_hasPerson_17 rfl rfl (is_i (by first | rfl | simp [bi, h1, h9]) rfl)
    · refine e_iconst (v := 1) dX0_hasPerson_12 rfl ?_
      refine e_goto (tgt := 17) dX0_hasPerson_13 rfl ?_
      exact e_zret dX0_hasPerson_17 rfl rfl (is_i (by first | rfl | simp [bi, h1, h9]) rfl)

set_option maxRecDepth 4000 in
theorem sp_X0_hasStone {G : sh_G} {S : Nat → Int32} {A : Nat → Nat → Int32} {Lg : Nat → Int64} {P : Nat → Option Nat} {T : List sh_C} {p : Int32}  : Ev G mX0_hasStone 0 0 (mkW G S A Lg P T) 0 [some (.ref 5), some (.int p)] [] (sh_is (some (.int (bi (¬ p < 0 ∧ ¬ S 4 ≤ p)))) (mkW G S A Lg P T)) := by
  refine e_iload_n 1 dX0_hasStone_0 rfl rfl ?_
  refine e_if_lt (tgt := 16) dX0_hasStone_1 rfl (fun h1 => ?_) (fun h1 => ?_)
  · refine e_iconst (v := 0) dX0_hasStone_16 rfl ?_
    exact e_zret dX0_hasStone_17 rfl rfl (is_i (by first | rfl | simp [bi, h1]) rfl)
  · refine e_iload_n 1 dX0_hasStone_4 rfl rfl ?_
    refine e_aload_n 0 dX0_hasStone_5 rfl rfl ?_
    refine e_getfield 1 dX0_hasStone_6 kf_X0_28_0 rfl rfl ?_
    refine e_icmp_ge (tgt := 16) dX0_hasStone_9 rfl (fun h9 => ?_) (fun h9 => ?_)
    · refine e_iconst (v := 0) dX0_hasStone_16 rfl ?_
      exact e_zret dX0_hasStone_17 rfl rfl (is_i (by first | rfl | simp [bi, h1, h9]) rfl)
    · refine e_iconst (v := 1) dX0_hasStone_12 rfl ?_
      refine e_goto (tgt := 17) dX0_hasStone_13 rfl ?_
      exact e_zret dX0_hasStone_17 rfl rfl (is_i (by first | rfl | simp [bi, h1, h9]) rfl)

set_option maxRecDepth 4000 in
theorem lp_X0_carriedBy {G : sh_G} {S : Nat → Int32} {A : Nat → Nat → Int32} {Lg : Nat → Int64} {P : Nat → Option Nat} {T : List sh_C} {p : Int32} {ns : Nat} (hS : S 4 = nI ns) (hn : ns ≤ 4) : ∀ (m s : Nat), ns - s < m → s ≤ ns → Ev G mX0_carriedBy 0 0 (mkW G S A Lg P T) 4 [some (.ref 5), some (.int p), some (.int (sh_cb (A 3) (-20 - p) s)), some (.int (nI s))] [] (sh_is (some (.int (sh_cb (A 3) (-20 - p) ns))) (mkW G S A Lg P T)) := by
  intro m
  induction m with
  | zero => intro s h; omega
  | succ m ih =>
    intro s hm hs
    refine e_iload_n 3 dX0_carriedBy_4 rfl rfl ?_
    refine e_aload_n 0 dX0_carriedBy_5 rfl rfl ?_
    refine e_getfield 1 dX0_carriedBy_6 kf_X0_28_0 rfl rfl ?_
    refine e_icmp_ge (tgt := 37) dX0_carriedBy_9 rfl (fun h9 => ?_) (fun h9 => ?_)
    · have e : s = ns := by rw [hS, nI_leI (by omega) (by omega)] at h9; omega
      subst e
      refine e_iload_n 2 dX0_carriedBy_37 rfl rfl ?_
      exact e_iret dX0_carriedBy_38 rfl ⟨rfl, rfl⟩
    · have hlt : s < ns := by rw [hS, nI_leI (by omega) (by omega)] at h9; omega
      refine e_aload_n 0 dX0_carriedBy_12 rfl rfl ?_
      refine e_getfield 5 dX0_carriedBy_13 kf_X0_21_0 rfl rfl ?_
      refine e_iload_n 3 dX0_carriedBy_16 rfl rfl ?_
      refine e_iald_n s dX0_carriedBy_17 rfl rfl (by omega) (by decide) ?_
      refine e_iload_n 1 dX0_carriedBy_18 rfl rfl ?_
      refine f_callSi (As := [_]) ok_X0_placeWith ⟨Nat.le_of_ble_eq_true rfl, Nat.le_of_ble_eq_true rfl⟩ dX0_carriedBy_19 kl_X0_31 ks_X0_placeWith rfl rfl (Nat.le_of_ble_eq_true rfl) (Nat.le_of_ble_eq_true rfl) (Nat.zero_add _) (Nat.zero_add _) sp_X0_placeWith ?_
      refine e_icmp_ne (tgt := 31) dX0_carriedBy_22 rfl (fun h22 => ?_) (fun h22 => ?_)
      · refine e_iinc (v := _ + 1) (lv' := [_, _, _, _]) dX0_carriedBy_31 rfl (Nat.le_of_ble_eq_true rfl) rfl rfl rfl ?_
        refine e_goto (tgt := 4) dX0_carriedBy_34 rfl ?_
        have := ih (s + 1) (by omega) (by omega)
        simpa only [sh_cb, h22, if_true, if_false, or_z, nI_1] using this
      · refine e_iload_n 2 dX0_carriedBy_25 rfl rfl ?_
        refine e_iconst (v := 1) dX0_carriedBy_26 rfl ?_
        refine e_iload_n 3 dX0_carriedBy_27 rfl rfl ?_
        refine e_ishl dX0_carriedBy_28 ?_
        refine e_ior dX0_carriedBy_29 ?_
        refine e_istore_n (lv' := [_, _, _, _]) 2 dX0_carriedBy_30 rfl (Nat.le_of_ble_eq_true rfl) rfl rfl ?_
        refine e_iinc (v := _ + 1) (lv' := [_, _, _, _]) dX0_carriedBy_31 rfl (Nat.le_of_ble_eq_true rfl) rfl rfl rfl ?_
        refine e_goto (tgt := 4) dX0_carriedBy_34 rfl ?_
        have := ih (s + 1) (by omega) (by omega)
        simpa only [sh_cb, h22, if_true, if_false, or_z, nI_1] using this

set_option maxRecDepth 4000 in
theorem sp_X0_carriedBy {G : sh_G} {S : Nat → Int32} {A : Nat → Nat → Int32} {Lg : Nat → Int64} {P : Nat → Option Nat} {T : List sh_C} {p : Int32} {ns : Nat} (hS : S 4 = nI ns) (hn : ns ≤ 4) : Ev G mX0_carriedBy 0 0 (mkW G S A Lg P T) 0 [some (.ref 5), some (.int p), none, none] [] (sh_is (some (.int (sh_cb (A 3) (-20 - p) ns))) (mkW G S A Lg P T)) := by
  refine e_iconst (v := 0) dX0_carriedBy_0 rfl ?_
  refine e_istore_n (lv' := [_, _, _, _]) 2 dX0_carriedBy_1 rfl (Nat.le_of_ble_eq_true rfl) rfl rfl ?_
  refine e_iconst (v := 0) dX0_carriedBy_2 rfl ?_
  refine e_istore_n (lv' := [_, _, _, _]) 3 dX0_carriedBy_3 rfl (Nat.le_of_ble_eq_true rfl) rfl rfl ?_
  exact lp_X0_carriedBy hS hn (ns + 1) 0 (by omega) (by omega)
