/-- a door that a text tells, as a cell -/
def dcC (C : Nat → Int32) (d : Nat) : sh_C := dC (kdC C d) (dgC C (6 * d + 4)) (dgC C (6 * d + 5)) (wtC C d)
def TU (C : Nat → Int32) (T : List sh_C) : Nat → List sh_C
  | 0 => T
  | d + 1 => TU C T d ++ [dcC C d]
def PU (n : Nat) (P : Nat → Option Nat) : Nat → Nat → Option Nat
  | 0 => P
  | d + 1 => va_up (PU n P d) d (some (n + d + 47))
theorem TU_len {C : Nat → Int32} {T : List sh_C} : ∀ d, (TU C T d).length = T.length + d
  | 0 => rfl
  | d + 1 => by unfold TU; rw [List.length_append, TU_len d]; rfl
theorem TU_old {C : Nat → Int32} {T : List sh_C} {t : Nat} {c : sh_C} (h : T[t]? = some c) : ∀ d, (TU C T d)[t]? = some c
  | 0 => h
  | d + 1 => by
    have := (List.getElem?_eq_some_iff.mp h).1
    unfold TU
    rw [List.getElem?_append_left (by rw [TU_len]; omega)]
    exact TU_old h d
theorem TU_new {C : Nat → Int32} {T : List sh_C} : ∀ {d e : Nat}, e < d → (TU C T d)[T.length + e]? = some (dcC C e)
  | 0, e, h => absurd h (Nat.not_lt_zero e)
  | d + 1, e, h => by
    unfold TU
    rcases Nat.lt_or_ge e d with q | q
    · rw [List.getElem?_append_left (by rw [TU_len]; omega)]
      exact TU_new q
    · have : e = d := by omega
      subst this
      rw [List.getElem?_append_right (by rw [TU_len]; omega), TU_len, Nat.sub_self]; rfl
theorem PU_at {n : Nat} {P : Nat → Option Nat} : ∀ {d e : Nat}, e < d → PU n P d e = some (n + e + 47)
  | 0, e, h => absurd h (Nat.not_lt_zero e)
  | d + 1, e, h => by
    unfold PU
    by_cases q : e = d
    · subst q; exact up_eq
    · rw [up_ne q]; exact PU_at (by omega)
theorem mkW_app {G S A Lg P T} {c : sh_C} : mkW G S A Lg P T ++ [c] = mkW G S A Lg P (T ++ [c]) := rfl
theorem mkW_len {G S A Lg P T} : (mkW G S A Lg P T).length = T.length + 47 := rfl
theorem mkW_set {G S A Lg P T} {k : Nat} {c : sh_C} : (mkW G S A Lg P T).set (k + 47) c = mkW G S A Lg P (T.set k c) := rfl
theorem app_at {T : List sh_C} {c : sh_C} : (T ++ [c])[T.length]? = some c := by
  rw [List.getElem?_append_right (Nat.le_refl _), Nat.sub_self]; rfl
theorem app_set {T : List sh_C} {c c' : sh_C} : (T ++ [c]).set T.length c' = T ++ [c'] := by
  rw [List.set_append_right _ _ (Nat.le_refl _), Nat.sub_self]; rfl
theorem mul6 (d : Nat) : (2 : Int32) + 6 * nI d = nI (6 * d + 2) := by
  rw [show (6 : Int32) = nI 6 from rfl, pk_mul, show (2 : Int32) = nI 2 from rfl, nI_add, Nat.add_comm]
theorem addK (x k : Nat) : nI x + nI k = nI (x + k) := nI_add x k
theorem mul10 (x y : Nat) : (10 : Int32) * nI x + nI y = nI (10 * x + y) := by
  rw [show (10 : Int32) = nI 10 from rfl, pk_mul, nI_add]
theorem RX.app {S A Lg P T b} (h : RX S A Lg P T b) (c : sh_C) : RX S A Lg P (T ++ [c]) b := by
  obtain ⟨h0, h1, h2, h3, h4, h5, h6, h7, h8, h9, h10⟩ := h
  refine ⟨h0, h1, h2, h3, h4, h5, h6, fun d hd => ?_, h8, h9, h10⟩
  obtain ⟨j, g1, g2⟩ := h7 d hd
  exact ⟨j, g1, by rw [List.getElem?_append_left (List.getElem?_eq_some_iff.mp g2).1]; exact g2⟩
set_option maxRecDepth 4000 in
theorem sp_X5_door {G : sh_G} {S : Nat → Int32} {A : Nat → Nat → Int32} {Lg : Nat → Int64} {P : Nat → Option Nat} {T : List sh_C} {t j a m : Nat} {C : Nat → Int32} {d R : Nat} (hT : T[t]? = some (.inl (5, [.ref (17 + 2 * j), .int (nI a), .int (nI m)]))) (hj : j < 4) (ham : a + m ≤ 60) (hC : ∀ i, i < m → A (7 + j) (a + i) = C i) (hR : C 1 - 48 = nI R) (hR6 : R ≤ 6) (hgo : ∀ q, q < m → goN C q = true) (hd : 6 * d + 8 ≤ m) : Ev G mX5_door 1 7 (mkW G S A Lg P T) 0 [some (.ref (t + 47)), some (.int (nI d)), none, none, none, none] [] (sh_is (some (.ref (T.length + 47))) (mkW G S A Lg P (T ++ [dcC C d]))) := by
  obtain ⟨z1, z2, z3, z4, z5, z6, z7, z8, z9, z10, z11, z12, z13⟩ := door_ok (d := d) hR hR6 hgo hd
  rcases goB.mp (hgo (6 * d + 3) (by omega)) with hk | hk | hk
  · have ek : kdC C d = 0 := if_pos hk
    refine e_iconst (v := 2) dX5_door_0 rfl ?_
    refine e_bipush (v := 6) dX5_door_1 (by decide) ?_
    refine e_iload_n 1 dX5_door_3 rfl rfl ?_
    refine e_imul dX5_door_4 ?_
    refine e_iadd dX5_door_5 ?_
    rw [mul6]
    refine e_istore_n (lv' := [_, _, _, _, _, _]) 2 dX5_door_6 rfl (Nat.le_of_ble_eq_true rfl) rfl rfl ?_
    refine e_aload_n 0 dX5_door_7 rfl rfl ?_
    refine e_iload_n 2 dX5_door_8 rfl rfl ?_
    refine e_iconst (v := 2) dX5_door_9 rfl ?_
    refine e_iadd dX5_door_10 ?_
    rw [show nI (6 * d + 2) + 2 = nI (6 * d + 4) from nI_add (6 * d + 2) 2]
    refine f_callVi (As := [_]) ok_X5_digit ⟨Nat.le_of_ble_eq_true rfl, Nat.le_of_ble_eq_true rfl⟩ dX5_door_11 kl_X5_29 ki_X5_digit kv_X5_digit rfl rfl (mkW_T.trans hT) rfl (Nat.le_of_ble_eq_true rfl) (Nat.le_of_ble_eq_true rfl) (Nat.zero_add _) (Nat.zero_add _) (sp_X5_digit hT hj ham hC (q := 6 * d + 4) (by omega)) ?_
    rw [z7]
    refine e_istore_n (lv' := [_, _, _, _, _, _]) 3 dX5_door_14 rfl (Nat.le_of_ble_eq_true rfl) rfl rfl ?_
    refine e_aload_n 0 dX5_door_15 rfl rfl ?_
    refine e_iload_n 2 dX5_door_16 rfl rfl ?_
    refine e_iconst (v := 3) dX5_door_17 rfl ?_
    refine e_iadd dX5_door_18 ?_
    rw [show nI (6 * d + 2) + 3 = nI (6 * d + 5) from nI_add (6 * d + 2) 3]
    refine f_callVi (As := [_]) ok_X5_digit ⟨Nat.le_of_ble_eq_true rfl, Nat.le_of_ble_eq_true rfl⟩ dX5_door_19 kl_X5_29 ki_X5_digit kv_X5_digit rfl rfl (mkW_T.trans hT) rfl (Nat.le_of_ble_eq_true rfl) (Nat.le_of_ble_eq_true rfl) (Nat.zero_add _) (Nat.zero_add _) (sp_X5_digit hT hj ham hC (q := 6 * d + 5) (by omega)) ?_
    rw [z8]
    refine e_istore (lv' := [_, _, _, _, _, _]) dX5_door_22 (Nat.le_of_ble_eq_true rfl) rfl rfl ?_
    refine e_bipush (v := 10) dX5_door_24 (by decide) ?_
    refine e_aload_n 0 dX5_door_26 rfl rfl ?_
    refine e_iload_n 2 dX5_door_27 rfl rfl ?_
    refine e_iconst (v := 4) dX5_door_28 rfl ?_
    refine e_iadd dX5_door_29 ?_
    rw [show nI (6 * d + 2) + 4 = nI (6 * d + 6) from nI_add (6 * d + 2) 4]
    refine f_callVi (As := [_]) ok_X5_digit ⟨Nat.le_of_ble_eq_true rfl, Nat.le_of_ble_eq_true rfl⟩ dX5_door_30 kl_X5_29 ki_X5_digit kv_X5_digit rfl rfl (mkW_T.trans hT) rfl (Nat.le_of_ble_eq_true rfl) (Nat.le_of_ble_eq_true rfl) (Nat.zero_add _) (Nat.zero_add _) (sp_X5_digit hT hj ham hC (q := 6 * d + 6) (by omega)) ?_
    rw [z9]
    refine e_imul dX5_door_33 ?_
    refine e_aload_n 0 dX5_door_34 rfl rfl ?_
    refine e_iload_n 2 dX5_door_35 rfl rfl ?_
    refine e_iconst (v := 5) dX5_door_36 rfl ?_
    refine e_iadd dX5_door_37 ?_
    rw [show nI (6 * d + 2) + 5 = nI (6 * d + 7) from nI_add (6 * d + 2) 5]
    refine f_callVi (As := [_]) ok_X5_digit ⟨Nat.le_of_ble_eq_true rfl, Nat.le_of_ble_eq_true rfl⟩ dX5_door_38 kl_X5_29 ki_X5_digit kv_X5_digit rfl rfl (mkW_T.trans hT) rfl (Nat.le_of_ble_eq_true rfl) (Nat.le_of_ble_eq_true rfl) (Nat.zero_add _) (Nat.zero_add _) (sp_X5_digit hT hj ham hC (q := 6 * d + 7) (by omega)) ?_
    refine e_iadd dX5_door_41 ?_
    rw [z10, mul10]
    refine e_istore (lv' := [_, _, _, _, _, _]) dX5_door_42 (Nat.le_of_ble_eq_true rfl) rfl rfl ?_
    refine e_aload_n 0 dX5_door_44 rfl rfl ?_
    refine e_iload_n 2 dX5_door_45 rfl rfl ?_
    refine e_iconst (v := 1) dX5_door_46 rfl ?_
    refine e_iadd dX5_door_47 ?_
    rw [show nI (6 * d + 2) + 1 = nI (6 * d + 3) from nI_add (6 * d + 2) 1]
    refine f_callVi (As := [_]) ok_X5_code ⟨Nat.le_of_ble_eq_true rfl, Nat.le_of_ble_eq_true rfl⟩ dX5_door_48 kl_X5_33 ki_X5_code kv_X5_code rfl rfl (mkW_T.trans hT) rfl (Nat.le_of_ble_eq_true rfl) (Nat.le_of_ble_eq_true rfl) (Nat.zero_add _) (Nat.zero_add _) (sp_X5_code hT hj ham hC (q := 6 * d + 3) (by omega)) ?_
    rw [hk]
    refine e_lookup (off := 25) (tgt := 76) dX5_door_51 (by decide) (by decide) rfl ?_
    refine e_new dX5_door_76 kn_X5_door_36 ?_
    rw [mkW_app, mkW_len]
    refine e_dup dX5_door_79 rfl ?_
    refine e_iload_n 3 dX5_door_80 rfl rfl ?_
    refine e_iload dX5_door_81 rfl ?_
    refine e_iload dX5_door_83 rfl ?_
    refine f_callIv (As := [_, _, _]) ok_X4_init rfl ⟨Nat.le_of_ble_eq_true rfl, Nat.le_of_ble_eq_true rfl⟩ dX5_door_85 rfl kl_X5_38 ki_X4_init rfl rfl (Nat.le_of_ble_eq_true rfl) (Nat.le_of_ble_eq_true rfl) (Nat.zero_add _) (Nat.zero_add _) (sp_X4_init (x := T.length + 47) (mkW_T.trans app_at) (by show wtC C d < 900; omega)) ?_
    refine e_w (w' := mkW G S A Lg P (T ++ [dcC C d])) (by rw [mkW_set, app_set, dcC, ek]; rfl) ?_
    exact e_aret dX5_door_88 rfl ⟨rfl, rfl⟩
  · have ek : kdC C d = 1 := by unfold kdC; rw [hk]; rfl
    refine e_iconst (v := 2) dX5_door_0 rfl ?_
    refine e_bipush (v := 6) dX5_door_1 (by decide) ?_
    refine e_iload_n 1 dX5_door_3 rfl rfl ?_
    refine e_imul dX5_door_4 ?_
    refine e_iadd dX5_door_5 ?_
    rw [mul6]
    refine e_istore_n (lv' := [_, _, _, _, _, _]) 2 dX5_door_6 rfl (Nat.le_of_ble_eq_true rfl) rfl rfl ?_
    refine e_aload_n 0 dX5_door_7 rfl rfl ?_
    refine e_iload_n 2 dX5_door_8 rfl rfl ?_
    refine e_iconst (v := 2) dX5_door_9 rfl ?_
    refine e_iadd dX5_door_10 ?_
    rw [show nI (6 * d + 2) + 2 = nI (6 * d + 4) from nI_add (6 * d + 2) 2]
    refine f_callVi (As := [_]) ok_X5_digit ⟨Nat.le_of_ble_eq_true rfl, Nat.le_of_ble_eq_true rfl⟩ dX5_door_11 kl_X5_29 ki_X5_digit kv_X5_digit rfl rfl (mkW_T.trans hT) rfl (Nat.le_of_ble_eq_true rfl) (Nat.le_of_ble_eq_true rfl) (Nat.zero_add _) (Nat.zero_add _) (sp_X5_digit hT hj ham hC (q := 6 * d + 4) (by omega)) ?_
    rw [z7]
    refine e_istore_n (lv' := [_, _, _, _, _, _]) 3 dX5_door_14 rfl (Nat.le_of_ble_eq_true rfl) rfl rfl ?_
    refine e_aload_n 0 dX5_door_15 rfl rfl ?_
    refine e_iload_n 2 dX5_door_16 rfl rfl ?_
    refine e_iconst (v := 3) dX5_door_17 rfl ?_
    refine e_iadd dX5_door_18 ?_
    rw [show nI (6 * d + 2) + 3 = nI (6 * d + 5) from nI_add (6 * d + 2) 3]
    refine f_callVi (As := [_]) ok_X5_digit ⟨Nat.le_of_ble_eq_true rfl, Nat.le_of_ble_eq_true rfl⟩ dX5_door_19 kl_X5_29 ki_X5_digit kv_X5_digit rfl rfl (mkW_T.trans hT) rfl (Nat.le_of_ble_eq_true rfl) (Nat.le_of_ble_eq_true rfl) (Nat.zero_add _) (Nat.zero_add _) (sp_X5_digit hT hj ham hC (q := 6 * d + 5) (by omega)) ?_
    rw [z8]
    refine e_istore (lv' := [_, _, _, _, _, _]) dX5_door_22 (Nat.le_of_ble_eq_true rfl) rfl rfl ?_
    refine e_bipush (v := 10) dX5_door_24 (by decide) ?_
    refine e_aload_n 0 dX5_door_26 rfl rfl ?_
    refine e_iload_n 2 dX5_door_27 rfl rfl ?_
    refine e_iconst (v := 4) dX5_door_28 rfl ?_
    refine e_iadd dX5_door_29 ?_
    rw [show nI (6 * d + 2) + 4 = nI (6 * d + 6) from nI_add (6 * d + 2) 4]
    refine f_callVi (As := [_]) ok_X5_digit ⟨Nat.le_of_ble_eq_true rfl, Nat.le_of_ble_eq_true rfl⟩ dX5_door_30 kl_X5_29 ki_X5_digit kv_X5_digit rfl rfl (mkW_T.trans hT) rfl (Nat.le_of_ble_eq_true rfl) (Nat.le_of_ble_eq_true rfl) (Nat.zero_add _) (Nat.zero_add _) (sp_X5_digit hT hj ham hC (q := 6 * d + 6) (by omega)) ?_
    rw [z9]
    refine e_imul dX5_door_33 ?_
    refine e_aload_n 0 dX5_door_34 rfl rfl ?_
    refine e_iload_n 2 dX5_door_35 rfl rfl ?_
    refine e_iconst (v := 5) dX5_door_36 rfl ?_
    refine e_iadd dX5_door_37 ?_
    rw [show nI (6 * d + 2) + 5 = nI (6 * d + 7) from nI_add (6 * d + 2) 5]
    refine f_callVi (As := [_]) ok_X5_digit ⟨Nat.le_of_ble_eq_true rfl, Nat.le_of_ble_eq_true rfl⟩ dX5_door_38 kl_X5_29 ki_X5_digit kv_X5_digit rfl rfl (mkW_T.trans hT) rfl (Nat.le_of_ble_eq_true rfl) (Nat.le_of_ble_eq_true rfl) (Nat.zero_add _) (Nat.zero_add _) (sp_X5_digit hT hj ham hC (q := 6 * d + 7) (by omega)) ?_
    refine e_iadd dX5_door_41 ?_
    rw [z10, mul10]
    refine e_istore (lv' := [_, _, _, _, _, _]) dX5_door_42 (Nat.le_of_ble_eq_true rfl) rfl rfl ?_
    refine e_aload_n 0 dX5_door_44 rfl rfl ?_
    refine e_iload_n 2 dX5_door_45 rfl rfl ?_
    refine e_iconst (v := 1) dX5_door_46 rfl ?_
    refine e_iadd dX5_door_47 ?_
    rw [show nI (6 * d + 2) + 1 = nI (6 * d + 3) from nI_add (6 * d + 2) 1]
    refine f_callVi (As := [_]) ok_X5_code ⟨Nat.le_of_ble_eq_true rfl, Nat.le_of_ble_eq_true rfl⟩ dX5_door_48 kl_X5_33 ki_X5_code kv_X5_code rfl rfl (mkW_T.trans hT) rfl (Nat.le_of_ble_eq_true rfl) (Nat.le_of_ble_eq_true rfl) (Nat.zero_add _) (Nat.zero_add _) (sp_X5_code hT hj ham hC (q := 6 * d + 3) (by omega)) ?_
    rw [hk]
    refine e_lookup (off := 38) (tgt := 89) dX5_door_51 (by decide) (by decide) rfl ?_
    refine e_new dX5_door_89 kn_X5_door_41 ?_
    rw [mkW_app, mkW_len]
    refine e_dup dX5_door_92 rfl ?_
    refine e_iload_n 3 dX5_door_93 rfl rfl ?_
    refine e_iload dX5_door_94 rfl ?_
    refine e_iload dX5_door_96 rfl ?_
    refine f_callIv (As := [_, _, _]) ok_X7_init rfl ⟨Nat.le_of_ble_eq_true rfl, Nat.le_of_ble_eq_true rfl⟩ dX5_door_98 rfl kl_X5_43 ki_X7_init rfl rfl (Nat.le_of_ble_eq_true rfl) (Nat.le_of_ble_eq_true rfl) (Nat.zero_add _) (Nat.zero_add _) (sp_X7_init (x := T.length + 47) (mkW_T.trans app_at) (by show wtC C d < 900; omega)) ?_
    refine e_w (w' := mkW G S A Lg P (T ++ [dcC C d])) (by rw [mkW_set, app_set, dcC, ek]; rfl) ?_
    exact e_aret dX5_door_101 rfl ⟨rfl, rfl⟩
  · have ek : kdC C d = 2 := by unfold kdC; rw [hk]; rfl
    refine e_iconst (v := 2) dX5_door_0 rfl ?_
    refine e_bipush (v := 6) dX5_door_1 (by decide) ?_
    refine e_iload_n 1 dX5_door_3 rfl rfl ?_
    refine e_imul dX5_door_4 ?_
    refine e_iadd dX5_door_5 ?_
    rw [mul6]
    refine e_istore_n (lv' := [_, _, _, _, _, _]) 2 dX5_door_6 rfl (Nat.le_of_ble_eq_true rfl) rfl rfl ?_
    refine e_aload_n 0 dX5_door_7 rfl rfl ?_
    refine e_iload_n 2 dX5_door_8 rfl rfl ?_
    refine e_iconst (v := 2) dX5_door_9 rfl ?_
    refine e_iadd dX5_door_10 ?_
    rw [show nI (6 * d + 2) + 2 = nI (6 * d + 4) from nI_add (6 * d + 2) 2]
    refine f_callVi (As := [_]) ok_X5_digit ⟨Nat.le_of_ble_eq_true rfl, Nat.le_of_ble_eq_true rfl⟩ dX5_door_11 kl_X5_29 ki_X5_digit kv_X5_digit rfl rfl (mkW_T.trans hT) rfl (Nat.le_of_ble_eq_true rfl) (Nat.le_of_ble_eq_true rfl) (Nat.zero_add _) (Nat.zero_add _) (sp_X5_digit hT hj ham hC (q := 6 * d + 4) (by omega)) ?_
    rw [z7]
    refine e_istore_n (lv' := [_, _, _, _, _, _]) 3 dX5_door_14 rfl (Nat.le_of_ble_eq_true rfl) rfl rfl ?_
    refine e_aload_n 0 dX5_door_15 rfl rfl ?_
    refine e_iload_n 2 dX5_door_16 rfl rfl ?_
    refine e_iconst (v := 3) dX5_door_17 rfl ?_
    refine e_iadd dX5_door_18 ?_
    rw [show nI (6 * d + 2) + 3 = nI (6 * d + 5) from nI_add (6 * d + 2) 3]
    refine f_callVi (As := [_]) ok_X5_digit ⟨Nat.le_of_ble_eq_true rfl, Nat.le_of_ble_eq_true rfl⟩ dX5_door_19 kl_X5_29 ki_X5_digit kv_X5_digit rfl rfl (mkW_T.trans hT) rfl (Nat.le_of_ble_eq_true rfl) (Nat.le_of_ble_eq_true rfl) (Nat.zero_add _) (Nat.zero_add _) (sp_X5_digit hT hj ham hC (q := 6 * d + 5) (by omega)) ?_
    rw [z8]
    refine e_istore (lv' := [_, _, _, _, _, _]) dX5_door_22 (Nat.le_of_ble_eq_true rfl) rfl rfl ?_
    refine e_bipush (v := 10) dX5_door_24 (by decide) ?_
    refine e_aload_n 0 dX5_door_26 rfl rfl ?_
    refine e_iload_n 2 dX5_door_27 rfl rfl ?_
    refine e_iconst (v := 4) dX5_door_28 rfl ?_
    refine e_iadd dX5_door_29 ?_
    rw [show nI (6 * d + 2) + 4 = nI (6 * d + 6) from nI_add (6 * d + 2) 4]
    refine f_callVi (As := [_]) ok_X5_digit ⟨Nat.le_of_ble_eq_true rfl, Nat.le_of_ble_eq_true rfl⟩ dX5_door_30 kl_X5_29 ki_X5_digit kv_X5_digit rfl rfl (mkW_T.trans hT) rfl (Nat.le_of_ble_eq_true rfl) (Nat.le_of_ble_eq_true rfl) (Nat.zero_add _) (Nat.zero_add _) (sp_X5_digit hT hj ham hC (q := 6 * d + 6) (by omega)) ?_
    rw [z9]
    refine e_imul dX5_door_33 ?_
    refine e_aload_n 0 dX5_door_34 rfl rfl ?_
    refine e_iload_n 2 dX5_door_35 rfl rfl ?_
    refine e_iconst (v := 5) dX5_door_36 rfl ?_
    refine e_iadd dX5_door_37 ?_
    rw [show nI (6 * d + 2) + 5 = nI (6 * d + 7) from nI_add (6 * d + 2) 5]
    refine f_callVi (As := [_]) ok_X5_digit ⟨Nat.le_of_ble_eq_true rfl, Nat.le_of_ble_eq_true rfl⟩ dX5_door_38 kl_X5_29 ki_X5_digit kv_X5_digit rfl rfl (mkW_T.trans hT) rfl (Nat.le_of_ble_eq_true rfl) (Nat.le_of_ble_eq_true rfl) (Nat.zero_add _) (Nat.zero_add _) (sp_X5_digit hT hj ham hC (q := 6 * d + 7) (by omega)) ?_
    refine e_iadd dX5_door_41 ?_
    rw [z10, mul10]
    refine e_istore (lv' := [_, _, _, _, _, _]) dX5_door_42 (Nat.le_of_ble_eq_true rfl) rfl rfl ?_
    refine e_aload_n 0 dX5_door_44 rfl rfl ?_
    refine e_iload_n 2 dX5_door_45 rfl rfl ?_
    refine e_iconst (v := 1) dX5_door_46 rfl ?_
    refine e_iadd dX5_door_47 ?_
    rw [show nI (6 * d + 2) + 1 = nI (6 * d + 3) from nI_add (6 * d + 2) 1]
    refine f_callVi (As := [_]) ok_X5_code ⟨Nat.le_of_ble_eq_true rfl, Nat.le_of_ble_eq_true rfl⟩ dX5_door_48 kl_X5_33 ki_X5_code kv_X5_code rfl rfl (mkW_T.trans hT) rfl (Nat.le_of_ble_eq_true rfl) (Nat.le_of_ble_eq_true rfl) (Nat.zero_add _) (Nat.zero_add _) (sp_X5_code hT hj ham hC (q := 6 * d + 3) (by omega)) ?_
    rw [hk]
    refine e_lookup (off := 51) (tgt := 102) dX5_door_51 (by decide) (by decide) rfl ?_
    refine e_new dX5_door_102 kn_X5_door_44 ?_
    rw [mkW_app, mkW_len]
    refine e_dup dX5_door_105 rfl ?_
    refine e_iload_n 3 dX5_door_106 rfl rfl ?_
    refine e_iload dX5_door_107 rfl ?_
    refine e_iload dX5_door_109 rfl ?_
    refine f_callIv (As := [_, _, _]) ok_X8_init rfl ⟨Nat.le_of_ble_eq_true rfl, Nat.le_of_ble_eq_true rfl⟩ dX5_door_111 rfl kl_X5_46 ki_X8_init rfl rfl (Nat.le_of_ble_eq_true rfl) (Nat.le_of_ble_eq_true rfl) (Nat.zero_add _) (Nat.zero_add _) (sp_X8_init (x := T.length + 47) (mkW_T.trans app_at) (by show wtC C d < 900; omega)) ?_
    refine e_w (w' := mkW G S A Lg P (T ++ [dcC C d])) (by rw [mkW_set, app_set, dcC, ek]; rfl) ?_
    exact e_aret dX5_door_114 rfl ⟨rfl, rfl⟩

theorem kci_el {k : Nat} (h : k ≤ 2) : kci k = 4 ∨ kci k = 7 ∨ kci k = 8 := by
  rcases (by omega : k = 0 ∨ k = 1 ∨ k = 2) with rfl | rfl | rfl
  · exact Or.inl rfl
  · exact Or.inr (Or.inl rfl)
  · exact Or.inr (Or.inr rfl)
set_option maxRecDepth 4000 in
theorem lp_X1_build {G : sh_G} {S : Nat → Int32} {A : Nat → Nat → Int32} {Lg : Nat → Int64} {P : Nat → Option Nat} {T : List sh_C} {t j a m : Nat} {C : Nat → Int32} {D R : Nat} (hT : T[t]? = some (.inl (5, [.ref (17 + 2 * j), .int (nI a), .int (nI m)]))) (hj : j < 4) (ham : a + m ≤ 60) (hC : ∀ i, i < m → A (7 + j) (a + i) = C i) (hR : C 1 - 48 = nI R) (hR6 : R ≤ 6) (hgo : ∀ q, q < m → goN C q = true) (hm : m = 6 * D + 2) (hD : D ≤ 8) (hS : S 2 = nI D) : ∀ (y d : Nat), d + y = D → Ev G mX1_build y (7 * y) (mkW G S A Lg (PU T.length P d) (TU C T d)) 23 [some (.ref 3), some (.ref (t + 47)), some (.int (nI d))] [] (sh_is none (mkW G S A Lg (PU T.length P D) (TU C T D))) := by
  intro y
  induction y with
  | zero =>
    intro d hd
    have e : d = D := by omega
    subst e
    refine e_iload_n 2 dX1_build_23 rfl rfl ?_
    refine e_aload_n 0 dX1_build_24 rfl rfl ?_
    refine e_getfield 1 dX1_build_25 kf_X1_35_1 rfl rfl ?_
    refine e_icmp_ge (tgt := 48) dX1_build_28 rfl (fun _ => ?_) (fun h28 => absurd (by rw [hS, nI_leI (by omega) (by omega)]; omega) h28)
    exact e_vret dX1_build_48 rfl ⟨rfl, rfl⟩
  | succ y ih =>
    intro d hd
    have hTd := TU_old (C := C) hT d
    obtain ⟨z1, z2, z3, z4, z5, z6, -⟩ := door_ok (d := d) hR hR6 hgo (by omega)
    refine e_iload_n 2 dX1_build_23 rfl rfl ?_
    refine e_aload_n 0 dX1_build_24 rfl rfl ?_
    refine e_getfield 1 dX1_build_25 kf_X1_35_1 rfl rfl ?_
    refine e_icmp_ge (tgt := 48) dX1_build_28 rfl (fun h28 => absurd h28 (by rw [hS, nI_leI (by omega) (by omega)]; omega)) (fun _ => ?_)
    refine e_aload_n 0 dX1_build_31 rfl rfl ?_
    refine e_getfield 2 dX1_build_32 kf_X1_11_1 rfl rfl ?_
    refine e_iload_n 2 dX1_build_35 rfl rfl ?_
    refine e_aload_n 1 dX1_build_36 rfl rfl ?_
    refine e_iload_n 2 dX1_build_37 rfl rfl ?_
    refine f_callVr (As := [_]) ok_X5_door ⟨Nat.le_of_ble_eq_true rfl, Nat.le_of_ble_eq_true rfl⟩ dX1_build_38 kl_X1_37 ki_X5_door kv_X5_door rfl rfl (mkW_T.trans hTd) rfl (Nat.le_of_ble_eq_true rfl) (Nat.le_of_ble_eq_true rfl) (show 1 + y = y + 1 by omega) (show 7 + 7 * y = 7 * (y + 1) by omega) (sp_X5_door (d := d) hTd hj ham hC hR hR6 hgo (by omega)) ?_
    refine e_aast_n (ci := kci (kdC C d)) d dX1_build_41 rfl (mkW_T.trans app_at) (Or.inl ⟨rfl, kci_el z1⟩) rfl (by omega) (by decide) ?_
    refine e_w (w' := mkW G S A Lg (PU T.length P (d + 1)) (TU C T (d + 1))) (by rw [TU_len]; rfl) ?_
    refine e_iinc (v := _ + 1) (lv' := [_, _, _]) dX1_build_42 rfl (Nat.le_of_ble_eq_true rfl) rfl rfl rfl ?_
    refine e_goto (tgt := 23) dX1_build_45 rfl ?_
    rw [nI_1]
    exact ih (d + 1) (by omega)

theorem mn8 {D : Nat} (h : D ≤ 8) : (if 8 < nI D then 8 else nI D) = nI D := if_neg (nI_nlt (a := 8) (b := D) (by omega) (by omega))
set_option maxRecDepth 4000 in
theorem sp_X1_build {G : sh_G} {S : Nat → Int32} {A : Nat → Nat → Int32} {Lg : Nat → Int64} {P : Nat → Option Nat} {T : List sh_C} {t j a m : Nat} {C : Nat → Int32} {D R : Nat} (hT : T[t]? = some (.inl (5, [.ref (17 + 2 * j), .int (nI a), .int (nI m)]))) (hj : j < 4) (ham : a + m ≤ 60) (hC : ∀ i, i < m → A (7 + j) (a + i) = C i) (hR : C 1 - 48 = nI R) (hR6 : R ≤ 6) (hgo : ∀ q, q < m → goN C q = true) (hm : m = 6 * D + 2) (hD : D ≤ 8) (hD1 : 1 ≤ D) : Ev G mX1_build D (7 * D) (mkW G S A Lg P T) 0 [some (.ref 3), some (.ref (t + 47)), none] [] (sh_is none (mkW G (va_up (va_up S 1 (nI R)) 2 (nI D)) A Lg (PU T.length P D) (TU C T D))) := by
  refine e_aload_n 0 dX1_build_0 rfl rfl ?_
  refine e_aload_n 1 dX1_build_1 rfl rfl ?_
  refine f_callVi (As := []) ok_X5_rooms ⟨Nat.le_of_ble_eq_true rfl, Nat.le_of_ble_eq_true rfl⟩ dX1_build_2 kl_X1_17 ki_X5_rooms kv_X5_rooms rfl rfl (mkW_T.trans hT) rfl (Nat.le_of_ble_eq_true rfl) (Nat.le_of_ble_eq_true rfl) (Nat.zero_add _) (Nat.zero_add _) (sp_X5_rooms hT hj ham hC (by omega)) ?_
  rw [hR]
  refine e_putfield 0 dX1_build_5 kp_X1_build_23_1 (sh_fit_i _) rfl (Nat.le_of_ble_eq_true rfl) ?_
  refine e_w (w' := mkW G (va_up S 1 (nI R)) A Lg P T) rfl ?_
  refine e_aload_n 0 dX1_build_8 rfl rfl ?_
  refine e_aload_n 1 dX1_build_9 rfl rfl ?_
  refine f_callVi (As := []) ok_X5_doorCount ⟨Nat.le_of_ble_eq_true rfl, Nat.le_of_ble_eq_true rfl⟩ dX1_build_10 kl_X1_26 ki_X5_doorCount kv_X5_doorCount rfl rfl (mkW_T.trans hT) rfl (Nat.le_of_ble_eq_true rfl) (Nat.le_of_ble_eq_true rfl) (Nat.zero_add _) (Nat.zero_add _) (sp_X5_doorCount hT hj ham hC (by omega)) ?_
  refine e_bipush (v := 8) dX1_build_13 (by decide) ?_
  refine e_min dX1_build_15 kl_X1_29 (Nat.le_of_ble_eq_true rfl) (Nat.le_of_ble_eq_true rfl) (Nat.le_of_ble_eq_true rfl) ?_
  rw [show (m - 2) / 6 = D by omega, mn8 hD]
  refine e_putfield 1 dX1_build_18 kp_X1_build_35_1 (sh_fit_i _) rfl (Nat.le_of_ble_eq_true rfl) ?_
  refine e_iconst (v := 0) dX1_build_21 rfl ?_
  refine e_istore_n (lv' := [_, _, _]) 2 dX1_build_22 rfl (Nat.le_of_ble_eq_true rfl) rfl rfl ?_
  refine e_w (w' := mkW G (va_up (va_up S 1 (nI R)) 2 (nI D)) A Lg P T) rfl ?_
  exact lp_X1_build (S := va_up (va_up S 1 (nI R)) 2 (nI D)) hT hj ham hC hR hR6 hgo hm hD rfl D 0 (by omega)

theorem RX.house {S A Lg P T b} (h : RX S A Lg P T b) {C : Nat → Int32} {m R : Nat} (hR : C 1 - 48 = nI R) (hR6 : R ≤ 6) : RX (va_up (va_up (va_up (va_up S 1 (nI R)) 2 (nI ((m - 2) / 6))) 3 0) 4 0) A Lg (PU T.length P ((m - 2) / 6)) (TU C T ((m - 2) / 6)) (uF_ (hoB b C m) (bF b)) := by
  obtain ⟨h0, h1, h2, h3, h4, h5, h6, h7, h8, h9, h10⟩ := h
  refine ⟨h0, ?_, rfl, rfl, rfl, h5, fun k hk => ?_, fun d hd => ?_, fun k hk => absurd hk (Nat.not_lt_zero k), fun k hk => absurd hk (Nat.not_lt_zero k), h10⟩
  · show nI R = nI (C 1 - 48).toNatClampNeg
    rw [hR, nI_clamp (by omega)]
  · have := h6 k hk
    unfold shX at this ⊢
    rw [up_ne (show 11 + k ≠ 4 by omega), up_ne (show 11 + k ≠ 3 by omega), up_ne (show 11 + k ≠ 2 by omega), up_ne (show 11 + k ≠ 1 by omega), up_ne (show 15 + k ≠ 4 by omega), up_ne (show 15 + k ≠ 3 by omega), up_ne (show 15 + k ≠ 2 by omega), up_ne (show 15 + k ≠ 1 by omega)]
    exact this
  · have hd : d < (m - 2) / 6 := hd
    exact ⟨T.length + d, PU_at hd, TU_new hd⟩
set_option maxRecDepth 4000 in
theorem sp_X5_init {G : sh_G} {w : List sh_C} {x q : Nat} {a m : Int32} (ha : w[x]? = some (.inl (5, [.null, .int 0, .int 0]))) : Ev G mX5_init 0 0 w 0 [some (.ref x), some (.ref q), some (.int a), some (.int m)] [] (sh_is none (w.set x (.inl (5, [.ref q, .int a, .int m])))) := by
  refine e_aload_n 0 dX5_init_0 rfl rfl ?_
  refine e_objInit dX5_init_1 kl_X5_3 ko_1 ko_2 (Nat.le_of_ble_eq_true rfl) (Nat.le_of_ble_eq_true rfl) (Nat.le_of_ble_eq_true rfl) ?_
  refine e_aload_n 0 dX5_init_4 rfl rfl ?_
  refine e_aload_n 1 dX5_init_5 rfl rfl ?_
  refine e_putfield 0 dX5_init_6 kp_X5_init_9_5 (sh_fit_a _ _) ha (Nat.le_of_ble_eq_true rfl) ?_
  refine e_aload_n 0 dX5_init_9 rfl rfl ?_
  refine e_iload_n 2 dX5_init_10 rfl rfl ?_
  refine e_putfield 1 dX5_init_11 kp_X5_init_15_5 (sh_fit_i _) (set_at ha) (Nat.le_of_ble_eq_true rfl) ?_
  rw [List.set_set]
  refine e_aload_n 0 dX5_init_14 rfl rfl ?_
  refine e_iload_n 3 dX5_init_15 rfl rfl ?_
  refine e_putfield 2 dX5_init_16 kp_X5_init_19_5 (sh_fit_i _) (set_at ha) (Nat.le_of_ble_eq_true rfl) ?_
  rw [List.set_set]
  exact e_vret dX5_init_19 rfl ⟨rfl, rfl⟩

set_option maxRecDepth 4000 in
theorem sp_X9_house {G : sh_G} {S : Nat → Int32} {A : Nat → Nat → Int32} {Lg : Nat → Int64} {P : Nat → Option Nat} {T : List sh_C} {b : sh_be} {k lane i n : Int32} (hR : RX S A Lg P T b) (hI : IV b) : Ev G mX9_house 9 59 (mkW G S A Lg P T) 0 [some (.ref 1), some (.int k), some (.int lane), some (.int i), some (.int n), none, none, none] [] (QX G S A (some (.int (oHouse b k lane i n).1)) (oHouse b k lane i n).2) := by
  refine e_aload_n 0 dX9_house_0 rfl rfl ?_
  refine e_iload_n 1 dX9_house_1 rfl rfl ?_
  refine e_iload_n 2 dX9_house_2 rfl rfl ?_
  refine e_iload_n 3 dX9_house_3 rfl rfl ?_
  refine e_iload dX9_house_4 rfl ?_
  refine f_callVi (As := [_, _, _, _]) ok_X9_cellsRefused ⟨Nat.le_of_ble_eq_true rfl, Nat.le_of_ble_eq_true rfl⟩ dX9_house_6 kl_X9_46 ki_X9_cellsRefused kv_X9_cellsRefused rfl rfl rfl rfl (Nat.le_of_ble_eq_true rfl) (Nat.le_of_ble_eq_true rfl) (Nat.zero_add _) (Nat.zero_add _) (sp_X9_cellsRefused hR hI) ?_
  refine e_istore (lv' := [_, _, _, _, _, _, _, _]) dX9_house_9 (Nat.le_of_ble_eq_true rfl) rfl rfl ?_
  refine e_iload dX9_house_11 rfl ?_
  refine e_if_eq (tgt := 19) dX9_house_13 rfl (fun h13 => ?_) (fun h13 => ?_)
  · obtain ⟨j, hj, rfl, z, hz, -, a, m, ham, rfl, rfl⟩ := oRef_ok hI h13
    have hzl := (IV.l hI hj z hz).2
    have hR1 : RX (va_up S 0 0) A Lg P T (uF_ b 0) := hR.F 0
    obtain ⟨x1, x2, x3⟩ := shX_s (hR1.2.2.2.2.2.2.1 j hj) hz
    obtain ⟨C, hCe⟩ : ∃ C : Nat → Int32, C = fun q => bc b j (a + q) := ⟨_, rfl⟩
    have hC : ∀ q, q < m → A (7 + j) (a + q) = C q := fun q hq => by rw [hCe]; exact x3 (a + q) (by omega)
    have hoh : oHouse b (nI j) lane (nI a) (nI m) = hoR b C m := by
      rw [oHouse, if_neg (nn_ h13), nI_clamp (by omega), nI_clamp (by omega), nI_clamp (by omega), hCe]
    rw [h13, hoh]
    obtain ⟨S1, hS1⟩ : ∃ S1, S1 = va_up S 0 0 := ⟨_, rfl⟩
    rw [← hS1] at hR1 x1 x2
    have hfS : FX S A S1 A := by rw [hS1]; exact FX.S (by omega)
    refine e_w (w' := mkW G S1 A Lg P T) (by rw [hS1]; rfl) ?_
    have hT := app_at (T := T) (c := .inl (5, [.ref (17 + 2 * j), .int (nI a), .int (nI m)]))
    refine e_new dX9_house_19 kn_X9_house_50 ?_
    rw [mkW_app, mkW_len]
    refine e_dup dX9_house_22 rfl ?_
    refine e_aload_n 0 dX9_house_23 rfl rfl ?_
    refine e_getfield 0 dX9_house_24 kf_X9_13_9 rfl rfl ?_
    refine e_iload_n 1 dX9_house_27 rfl rfl ?_
    refine e_aald_n (j) dX9_house_28 rfl (Or.inr rfl) rfl (by omega) (by decide) (sh_shs_at hj) ?_
    refine e_getfield 0 dX9_house_29 kf_X9_52_3 (mkW_sh hj) rfl ?_
    refine e_iload_n 3 dX9_house_32 rfl rfl ?_
    refine e_iload dX9_house_33 rfl ?_
    refine f_callIv (As := [_, _, _]) ok_X5_init rfl ⟨Nat.le_of_ble_eq_true rfl, Nat.le_of_ble_eq_true rfl⟩ dX9_house_35 rfl kl_X9_56 ki_X5_init rfl rfl (Nat.le_of_ble_eq_true rfl) (Nat.le_of_ble_eq_true rfl) (Nat.zero_add _) (Nat.zero_add _) (sp_X5_init (mkW_T.trans app_at)) ?_
    refine e_w (w' := mkW G S1 A Lg P (T ++ [.inl (5, [.ref (17 + 2 * j), .int (nI a), .int (nI m)])])) (by rw [mkW_set, app_set]) ?_
    refine e_astore (lv' := [_, _, _, _, _, _, _, _]) dX9_house_38 (Nat.le_of_ble_eq_true rfl) rfl rfl ?_
    refine e_aload dX9_house_40 rfl ?_
    refine f_callVi (As := []) ok_X5_firstFault ⟨Nat.le_of_ble_eq_true rfl, Nat.le_of_ble_eq_true rfl⟩ dX9_house_42 kl_X9_59 ki_X5_firstFault kv_X5_firstFault rfl rfl (mkW_T.trans hT) rfl (Nat.le_of_ble_eq_true rfl) (Nat.le_of_ble_eq_true rfl) (Nat.zero_add _) (Nat.zero_add _) (sp_X5_firstFault hT hj (by omega) hC) ?_
    refine e_istore (lv' := [_, _, _, _, _, _, _, _]) dX9_house_45 (Nat.le_of_ble_eq_true rfl) rfl rfl ?_
    refine e_iload dX9_house_47 rfl ?_
    refine e_iconst (v := -1) dX9_house_49 rfl ?_
    refine e_icmp_eq (tgt := 59) dX9_house_50 rfl (fun h50 => ?_) (fun h50 => ?_)
    · have hf : ffN C m m 0 = none := by
        rcases hf : ffN C m m 0 with _ | p
        · rfl
        · rw [hf] at h50
          exact absurd h50 (nI_m1 (by have := ff_le hf; omega))
      obtain ⟨hgo, ⟨R, r1, r2, r3⟩, hm, hd1, hd8⟩ := house_ok hf
      rw [hoR_n hf]
      refine e_room (kc' := (m - 2) / 6) (ks' := 7 * ((m - 2) / 6)) ?_ (by omega) (by omega)
      refine e_aload_n 0 dX9_house_59 rfl rfl ?_
      refine e_getfield 1 dX9_house_60 kf_X9_20_9 rfl rfl ?_
      refine e_aload dX9_house_63 rfl ?_
      refine f_callVv (As := [_]) ok_X1_build ⟨Nat.le_of_ble_eq_true rfl, Nat.le_of_ble_eq_true rfl⟩ dX9_house_65 kl_X9_63 ki_X1_build kv_X1_build rfl rfl rfl rfl (Nat.le_of_ble_eq_true rfl) (Nat.le_of_ble_eq_true rfl) (Nat.add_zero _) (Nat.add_zero _) (sp_X1_build (D := (m - 2) / 6) hT hj (by omega) hC r3 r2 hgo hm hd8 hd1) ?_
      refine e_aload_n 0 dX9_house_68 rfl rfl ?_
      refine e_getfield 2 dX9_house_69 kf_X9_27_9 rfl rfl ?_
      refine f_callVv (As := []) ok_X0_leave ⟨Nat.le_of_ble_eq_true rfl, Nat.le_of_ble_eq_true rfl⟩ dX9_house_72 kl_X9_67 ki_X0_leave kv_X0_leave rfl rfl rfl rfl (Nat.le_of_ble_eq_true rfl) (Nat.le_of_ble_eq_true rfl) (Nat.zero_add _) (Nat.zero_add _) sp_X0_leave ?_
      refine e_aload_n 0 dX9_house_75 rfl rfl ?_
      refine e_getfield 1 dX9_house_76 kf_X9_20_9 rfl rfl ?_
      refine e_getfield 1 dX9_house_79 kf_X9_70_1 rfl rfl ?_
      refine e_iret dX9_house_82 rfl ?_
      have hf2 := RX.house (m := m) (hR1.app (.inl (5, [.ref (17 + 2 * j), .int (nI a), .int (nI m)]))) r3 r2
      exact ⟨_, A, Lg, _, _, rfl, rfl, hf2, hfS.tr ((FX.S (by omega)).tr ((FX.S (by omega)).tr ((FX.S (by omega)).tr (FX.S (by omega)))))⟩
    · refine e_bipush (v := -100) dX9_house_53 (by decide) ?_
      refine e_iload dX9_house_55 rfl ?_
      refine e_isub dX9_house_57 ?_
      refine e_iret dX9_house_58 rfl ?_
      rcases hf : ffN C m m 0 with _ | p
      · rw [hf] at h50; exact absurd rfl h50
      · rw [hoR_s hf]
        exact ⟨S1, A, Lg, P, _, rfl, rfl, hR1.app _, hfS⟩
  · refine e_iload dX9_house_16 rfl ?_
    refine e_iret dX9_house_18 rfl ?_
    have ho : oHouse b k lane i n = (oRef b k lane i n, uF_ b (fOf (oRef b k lane i n))) := by
      rw [oHouse, if_pos h13]
    rw [ho]
    exact ⟨_, A, Lg, P, T, rfl, rfl, hR.F _, FX.S (by omega)⟩
