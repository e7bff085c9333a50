theorem sub2 {x r : Nat} (h : x = r + 2) : nI x - 2 = nI r := by
  subst h
  exact (pk_sub (a := r + 2) (b := 2) (by omega)).trans (congrArg nI (by omega))
theorem sub1 {x r : Nat} (h : x = r + 1) : nI x - 1 = nI r := by
  subst h
  exact (pk_sub (a := r + 1) (b := 1) (by omega)).trans (congrArg nI (by omega))
theorem rem6 {q d r : Nat} (hq : q < 2 ^ 30) (hr : r < 6) (e : q = 6 * d + r) : nI q - nI q / 6 * 6 = nI r := by
  have h := pk_rem (a := q) (d := 6) (by omega) (by omega) (by omega)
  rw [show q % 6 = r by omega] at h
  exact h
theorem div6 {q d r : Nat} (hq : q < 2 ^ 30) (hr : r < 6) (e : q = 6 * d + r) : nI q / 6 = nI d := by
  have h := pk_div (a := q) (d := 6) (by omega) (by omega) (by omega)
  rw [show q / 6 = d by omega] at h
  exact h
set_option maxRecDepth 4000 in
theorem sp_X5_code {G : sh_G} {S : Nat → Int32} {A : Nat → Nat → Int32} {Lg : Nat → Int64} {P : Nat → Option Nat} {T : List sh_C} {t j a m : Nat} {C : Nat → Int32} {q : Nat} (hT : T[t]? = some (.inl (5, [.ref (17 + 2 * j), .int (nI a), .int (nI m)]))) (hj : j < 4) (ham : a + m ≤ 60) (hC : ∀ i, i < m → A (7 + j) (a + i) = C i) (hq : q < m) : Ev G mX5_code 0 0 (mkW G S A Lg P T) 0 [some (.ref (t + 47)), some (.int (nI q)), none] [] (sh_is (some (.int (C q))) (mkW G S A Lg P T)) := by
  refine e_aload_n 0 dX5_code_0 rfl rfl ?_
  refine e_getfield 1 dX5_code_1 kf_X5_15_5 (mkW_T.trans hT) rfl ?_
  refine e_iload_n 1 dX5_code_4 rfl rfl ?_
  refine e_iadd dX5_code_5 ?_
  rw [nI_add]
  refine e_istore_n (lv' := [_, _, _]) 2 dX5_code_6 rfl (Nat.le_of_ble_eq_true rfl) rfl rfl ?_
  refine e_iload_n 2 dX5_code_7 rfl rfl ?_
  refine e_if_lt (tgt := 29) dX5_code_8 rfl (fun h8 => absurd h8 (nI_pos (by omega))) (fun _ => ?_)
  refine e_iload_n 2 dX5_code_11 rfl rfl ?_
  refine e_aload_n 0 dX5_code_12 rfl rfl ?_
  refine e_getfield 0 dX5_code_13 kf_X5_9_5 (mkW_T.trans hT) rfl ?_
  refine e_alen dX5_code_16 (mkW_sc hj) ?_
  refine e_icmp_ge (tgt := 29) dX5_code_17 rfl (fun h17 => absurd h17 (by rw [nI_leI (by omega) (by omega)]; omega)) (fun _ => ?_)
  refine e_aload_n 0 dX5_code_20 rfl rfl ?_
  refine e_getfield 0 dX5_code_21 kf_X5_9_5 (mkW_T.trans hT) rfl ?_
  refine e_iload_n 2 dX5_code_24 rfl rfl ?_
  refine e_iald_n (a + q) dX5_code_25 (mkW_sc hj) rfl (by omega) (by decide) ?_
  refine e_goto (tgt := 30) dX5_code_26 rfl ?_
  exact e_iret dX5_code_30 rfl (is_i (hC q hq) rfl)

set_option maxRecDepth 4000 in
theorem sp_X5_digit {G : sh_G} {S : Nat → Int32} {A : Nat → Nat → Int32} {Lg : Nat → Int64} {P : Nat → Option Nat} {T : List sh_C} {t j a m : Nat} {C : Nat → Int32} {q : Nat} (hT : T[t]? = some (.inl (5, [.ref (17 + 2 * j), .int (nI a), .int (nI m)]))) (hj : j < 4) (ham : a + m ≤ 60) (hC : ∀ i, i < m → A (7 + j) (a + i) = C i) (hq : q < m) : Ev G mX5_digit 0 0 (mkW G S A Lg P T) 0 [some (.ref (t + 47)), some (.int (nI q))] [] (sh_is (some (.int (C q - 48))) (mkW G S A Lg P T)) := by
  refine e_aload_n 0 dX5_digit_0 rfl rfl ?_
  refine e_iload_n 1 dX5_digit_1 rfl rfl ?_
  refine f_callVi (As := [_]) ok_X5_code ⟨Nat.le_of_ble_eq_true rfl, Nat.le_of_ble_eq_true rfl⟩ dX5_digit_2 kl_X5_33 ki_X5_code kv_X5_code rfl rfl (mkW_T.trans hT) rfl (Nat.le_of_ble_eq_true rfl) (Nat.le_of_ble_eq_true rfl) (Nat.zero_add _) (Nat.zero_add _) (sp_X5_code hT hj ham hC hq) ?_
  refine e_bipush (v := 48) dX5_digit_5 (by decide) ?_
  refine e_isub dX5_digit_7 ?_
  exact e_iret dX5_digit_8 rfl ⟨rfl, rfl⟩

set_option maxRecDepth 4000 in
theorem sp_X5_rooms {G : sh_G} {S : Nat → Int32} {A : Nat → Nat → Int32} {Lg : Nat → Int64} {P : Nat → Option Nat} {T : List sh_C} {t j a m : Nat} {C : Nat → Int32} (hT : T[t]? = some (.inl (5, [.ref (17 + 2 * j), .int (nI a), .int (nI m)]))) (hj : j < 4) (ham : a + m ≤ 60) (hC : ∀ i, i < m → A (7 + j) (a + i) = C i) (hm : 1 < m) : Ev G mX5_rooms 0 0 (mkW G S A Lg P T) 0 [some (.ref (t + 47))] [] (sh_is (some (.int (C 1 - 48))) (mkW G S A Lg P T)) := by
  refine e_aload_n 0 dX5_rooms_0 rfl rfl ?_
  refine e_iconst (v := 1) dX5_rooms_1 rfl ?_
  refine f_callVi (As := [_]) ok_X5_digit ⟨Nat.le_of_ble_eq_true rfl, Nat.le_of_ble_eq_true rfl⟩ dX5_rooms_2 kl_X5_29 ki_X5_digit kv_X5_digit rfl rfl (mkW_T.trans hT) rfl (Nat.le_of_ble_eq_true rfl) (Nat.le_of_ble_eq_true rfl) (Nat.zero_add _) (Nat.zero_add _) (sp_X5_digit hT hj ham hC (q := 1) hm) ?_
  exact e_iret dX5_rooms_5 rfl ⟨rfl, rfl⟩

set_option maxRecDepth 4000 in
theorem sp_X5_doorCount {G : sh_G} {S : Nat → Int32} {A : Nat → Nat → Int32} {Lg : Nat → Int64} {P : Nat → Option Nat} {T : List sh_C} {t j a m : Nat} {C : Nat → Int32} (hT : T[t]? = some (.inl (5, [.ref (17 + 2 * j), .int (nI a), .int (nI m)]))) (hj : j < 4) (ham : a + m ≤ 60) (hC : ∀ i, i < m → A (7 + j) (a + i) = C i) (hm : 2 ≤ m) : Ev G mX5_doorCount 0 0 (mkW G S A Lg P T) 0 [some (.ref (t + 47))] [] (sh_is (some (.int (nI ((m - 2) / 6)))) (mkW G S A Lg P T)) := by
  refine e_aload_n 0 dX5_doorCount_0 rfl rfl ?_
  refine e_getfield 2 dX5_doorCount_1 kf_X5_19_5 (mkW_T.trans hT) rfl ?_
  refine e_iconst (v := 2) dX5_doorCount_4 rfl ?_
  refine e_isub dX5_doorCount_5 ?_
  rw [show nI m - 2 = nI (m - 2) from sub2 (by omega)]
  refine e_bipush (v := 6) dX5_doorCount_6 (by decide) ?_
  refine e_idiv dX5_doorCount_8 (by decide) ?_
  refine e_iret dX5_doorCount_9 rfl ?_
  exact is_i (div6 (d := (m - 2) / 6) (r := (m - 2) % 6) (by omega) (by omega) (by omega)) rfl

set_option maxRecDepth 4000 in
theorem sp_X5_isDigit {G : sh_G} {S : Nat → Int32} {A : Nat → Nat → Int32} {Lg : Nat → Int64} {P : Nat → Option Nat} {T : List sh_C} {t j a m : Nat} {C : Nat → Int32} {q : Nat} (hT : T[t]? = some (.inl (5, [.ref (17 + 2 * j), .int (nI a), .int (nI m)]))) (hj : j < 4) (ham : a + m ≤ 60) (hC : ∀ i, i < m → A (7 + j) (a + i) = C i) (hq : q < m) : Ev G mX5_isDigit 0 0 (mkW G S A Lg P T) 0 [some (.ref (t + 47)), some (.int (nI q))] [] (sh_is (some (.int (bi (dgB C q = true)))) (mkW G S A Lg P T)) := by
  refine e_aload_n 0 dX5_isDigit_0 rfl rfl ?_
  refine e_iload_n 1 dX5_isDigit_1 rfl rfl ?_
  refine f_callVi (As := [_]) ok_X5_code ⟨Nat.le_of_ble_eq_true rfl, Nat.le_of_ble_eq_true rfl⟩ dX5_isDigit_2 kl_X5_33 ki_X5_code kv_X5_code rfl rfl (mkW_T.trans hT) rfl (Nat.le_of_ble_eq_true rfl) (Nat.le_of_ble_eq_true rfl) (Nat.zero_add _) (Nat.zero_add _) (sp_X5_code hT hj ham hC hq) ?_
  refine e_bipush (v := 48) dX5_isDigit_5 (by decide) ?_
  refine e_icmp_lt (tgt := 24) dX5_isDigit_7 rfl (fun h7 => ?_) (fun h7 => ?_)
  · refine e_iconst (v := 0) dX5_isDigit_24 rfl ?_
    refine e_zret dX5_isDigit_25 rfl rfl ?_
    refine is_i ?_ rfl
    first
    | exact (bi_t (c := dgB C q = true) (decide_eq_true (show ¬ C q < 48 ∧ ¬ 57 < C q from ⟨h7, h17⟩))).symm
    | (exact (bi_f (c := dgB C q = true) (fun h => (of_decide_eq_true h).1 h7)).symm)
    | (exact (bi_f (c := dgB C q = true) (fun h => h17 (of_decide_eq_true h).2)).symm)
    | (exact (bi_f (c := dgB C q = true) (fun h => (of_decide_eq_true h).2 h17)).symm)
  · refine e_aload_n 0 dX5_isDigit_10 rfl rfl ?_
    refine e_iload_n 1 dX5_isDigit_11 rfl rfl ?_
    refine f_callVi (As := [_]) ok_X5_code ⟨Nat.le_of_ble_eq_true rfl, Nat.le_of_ble_eq_true rfl⟩ dX5_isDigit_12 kl_X5_33 ki_X5_code kv_X5_code rfl rfl (mkW_T.trans hT) rfl (Nat.le_of_ble_eq_true rfl) (Nat.le_of_ble_eq_true rfl) (Nat.zero_add _) (Nat.zero_add _) (sp_X5_code hT hj ham hC hq) ?_
    refine e_bipush (v := 57) dX5_isDigit_15 (by decide) ?_
    refine e_icmp_gt (tgt := 24) dX5_isDigit_17 rfl (fun h17 => ?_) (fun h17 => ?_)
    · refine e_iconst (v := 0) dX5_isDigit_24 rfl ?_
      refine e_zret dX5_isDigit_25 rfl rfl ?_
      refine is_i ?_ rfl
      first
      | exact (bi_t (c := dgB C q = true) (decide_eq_true (show ¬ C q < 48 ∧ ¬ 57 < C q from ⟨h7, h17⟩))).symm
      | (exact (bi_f (c := dgB C q = true) (fun h => (of_decide_eq_true h).1 h7)).symm)
      | (exact (bi_f (c := dgB C q = true) (fun h => h17 (of_decide_eq_true h).2)).symm)
      | (exact (bi_f (c := dgB C q = true) (fun h => (of_decide_eq_true h).2 h17)).symm)
    · refine e_iconst (v := 1) dX5_isDigit_20 rfl ?_
      refine e_goto (tgt := 25) dX5_isDigit_21 rfl ?_
      refine e_zret dX5_isDigit_25 rfl rfl ?_
      refine is_i ?_ rfl
      first
      | exact (bi_t (c := dgB C q = true) (decide_eq_true (show ¬ C q < 48 ∧ ¬ 57 < C q from ⟨h7, h17⟩))).symm
      | (exact (bi_f (c := dgB C q = true) (fun h => (of_decide_eq_true h).1 h7)).symm)
      | (exact (bi_f (c := dgB C q = true) (fun h => h17 (of_decide_eq_true h).2)).symm)
      | (exact (bi_f (c := dgB C q = true) (fun h => (of_decide_eq_true h).2 h17)).symm)

set_option maxRecDepth 4000 in
theorem sp_X5_isRoom {G : sh_G} {S : Nat → Int32} {A : Nat → Nat → Int32} {Lg : Nat → Int64} {P : Nat → Option Nat} {T : List sh_C} {t j a m : Nat} {C : Nat → Int32} {q : Nat} (hT : T[t]? = some (.inl (5, [.ref (17 + 2 * j), .int (nI a), .int (nI m)]))) (hj : j < 4) (ham : a + m ≤ 60) (hC : ∀ i, i < m → A (7 + j) (a + i) = C i) (hq : q < m) (hm : 1 < m) : Ev G mX5_isRoom 0 0 (mkW G S A Lg P T) 0 [some (.ref (t + 47)), some (.int (nI q))] [] (sh_is (some (.int (bi (rmN C q = true)))) (mkW G S A Lg P T)) := by
  refine e_aload_n 0 dX5_isRoom_0 rfl rfl ?_
  refine e_iload_n 1 dX5_isRoom_1 rfl rfl ?_
  refine f_callVi (As := [_]) ok_X5_code ⟨Nat.le_of_ble_eq_true rfl, Nat.le_of_ble_eq_true rfl⟩ dX5_isRoom_2 kl_X5_33 ki_X5_code kv_X5_code rfl rfl (mkW_T.trans hT) rfl (Nat.le_of_ble_eq_true rfl) (Nat.le_of_ble_eq_true rfl) (Nat.zero_add _) (Nat.zero_add _) (sp_X5_code hT hj ham hC hq) ?_
  refine e_bipush (v := 48) dX5_isRoom_5 (by decide) ?_
  refine e_icmp_lt (tgt := 26) dX5_isRoom_7 rfl (fun h7 => ?_) (fun h7 => ?_)
  · refine e_iconst (v := 0) dX5_isRoom_26 rfl ?_
    refine e_zret dX5_isRoom_27 rfl rfl ?_
    refine is_i ?_ rfl
    first
    | (exact (bi_t (c := rmN C q = true) (decide_eq_true ⟨h7, Int32.not_le.mp h19⟩)).symm)
    | (exact (bi_f (c := rmN C q = true) (fun h => (of_decide_eq_true h).1 h7)).symm)
    | (exact (bi_f (c := rmN C q = true) (fun h => absurd (of_decide_eq_true h).2 (Int32.not_lt.mpr h19))).symm)
  · refine e_aload_n 0 dX5_isRoom_10 rfl rfl ?_
    refine e_iload_n 1 dX5_isRoom_11 rfl rfl ?_
    refine f_callVi (As := [_]) ok_X5_digit ⟨Nat.le_of_ble_eq_true rfl, Nat.le_of_ble_eq_true rfl⟩ dX5_isRoom_12 kl_X5_29 ki_X5_digit kv_X5_digit rfl rfl (mkW_T.trans hT) rfl (Nat.le_of_ble_eq_true rfl) (Nat.le_of_ble_eq_true rfl) (Nat.zero_add _) (Nat.zero_add _) (sp_X5_digit hT hj ham hC hq) ?_
    refine e_aload_n 0 dX5_isRoom_15 rfl rfl ?_
    refine f_callVi (As := []) ok_X5_rooms ⟨Nat.le_of_ble_eq_true rfl, Nat.le_of_ble_eq_true rfl⟩ dX5_isRoom_16 kl_X5_47 ki_X5_rooms kv_X5_rooms rfl rfl (mkW_T.trans hT) rfl (Nat.le_of_ble_eq_true rfl) (Nat.le_of_ble_eq_true rfl) (Nat.zero_add _) (Nat.zero_add _) (sp_X5_rooms hT hj ham hC hm) ?_
    refine e_icmp_ge (tgt := 26) dX5_isRoom_19 rfl (fun h19 => ?_) (fun h19 => ?_)
    · refine e_iconst (v := 0) dX5_isRoom_26 rfl ?_
      refine e_zret dX5_isRoom_27 rfl rfl ?_
      refine is_i ?_ rfl
      first
      | (exact (bi_t (c := rmN C q = true) (decide_eq_true ⟨h7, Int32.not_le.mp h19⟩)).symm)
      | (exact (bi_f (c := rmN C q = true) (fun h => (of_decide_eq_true h).1 h7)).symm)
      | (exact (bi_f (c := rmN C q = true) (fun h => absurd (of_decide_eq_true h).2 (Int32.not_lt.mpr h19))).symm)
    · refine e_iconst (v := 1) dX5_isRoom_22 rfl ?_
      refine e_goto (tgt := 27) dX5_isRoom_23 rfl ?_
      refine e_zret dX5_isRoom_27 rfl rfl ?_
      refine is_i ?_ rfl
      first
      | (exact (bi_t (c := rmN C q = true) (decide_eq_true ⟨h7, Int32.not_le.mp h19⟩)).symm)
      | (exact (bi_f (c := rmN C q = true) (fun h => (of_decide_eq_true h).1 h7)).symm)
      | (exact (bi_f (c := rmN C q = true) (fun h => absurd (of_decide_eq_true h).2 (Int32.not_lt.mpr h19))).symm)

set_option maxRecDepth 4000 in
theorem sp_X5_isNought {G : sh_G} {S : Nat → Int32} {A : Nat → Nat → Int32} {Lg : Nat → Int64} {P : Nat → Option Nat} {T : List sh_C} {t j a m : Nat} {C : Nat → Int32} {q : Nat} (hT : T[t]? = some (.inl (5, [.ref (17 + 2 * j), .int (nI a), .int (nI m)]))) (hj : j < 4) (ham : a + m ≤ 60) (hC : ∀ i, i < m → A (7 + j) (a + i) = C i) (hq : q < m) : Ev G mX5_isNought 0 0 (mkW G S A Lg P T) 0 [some (.ref (t + 47)), some (.int (nI q))] [] (sh_is (some (.int (bi (noN C q = true)))) (mkW G S A Lg P T)) := by
  refine e_iload_n 1 dX5_isNought_0 rfl rfl ?_
  refine e_iconst (v := 2) dX5_isNought_1 rfl ?_
  refine e_icmp_le (tgt := 41) dX5_isNought_2 rfl (fun h2 => ?_) (fun h2 => ?_)
  · refine e_iconst (v := 0) dX5_isNought_41 rfl ?_
    refine e_zret dX5_isNought_42 rfl rfl ?_
    refine is_i ?_ rfl
    first
    | (exact (bi_t (c := noN C q = true) (decide_eq_true ⟨hq2, h12, h24, h34⟩)).symm)
    | (exact (bi_f (c := noN C q = true) (fun h => h34 (of_decide_eq_true h).2.2.2)).symm)
    | (exact (bi_f (c := noN C q = true) (fun h => h24 (of_decide_eq_true h).2.2.1)).symm)
    | (refine (bi_f (c := noN C q = true) (fun h => h12 ?_)).symm
       rw [(of_decide_eq_true h).2.1]; rfl)
    | (refine (bi_f (c := noN C q = true) (fun h => ?_)).symm
       have h := (of_decide_eq_true h).1
       rw [show (2 : Int32) = nI 2 from rfl, nI_leI (by omega) (by omega)] at h2
       omega)
  · have hq2 : 2 < q := by
      rw [show (2 : Int32) = nI 2 from rfl, nI_leI (by omega) (by omega)] at h2; omega
    refine e_iload_n 1 dX5_isNought_5 rfl rfl ?_
    refine e_iconst (v := 2) dX5_isNought_6 rfl ?_
    refine e_isub dX5_isNought_7 ?_
    rw [show nI q - 2 = nI (q - 2) from sub2 (by omega)]
    refine e_bipush (v := 6) dX5_isNought_8 (by decide) ?_
    refine e_irem dX5_isNought_10 (by decide) ?_
    rw [rem6 (d := (q - 2) / 6) (r := (q - 2) % 6) (by omega) (by omega) (by omega)]
    refine e_iconst (v := 5) dX5_isNought_11 rfl ?_
    refine e_icmp_ne (tgt := 41) dX5_isNought_12 rfl (fun h12 => ?_) (fun h12 => ?_)
    · refine e_iconst (v := 0) dX5_isNought_41 rfl ?_
      refine e_zret dX5_isNought_42 rfl rfl ?_
      refine is_i ?_ rfl
      first
      | (exact (bi_t (c := noN C q = true) (decide_eq_true ⟨hq2, h12, h24, h34⟩)).symm)
      | (exact (bi_f (c := noN C q = true) (fun h => h34 (of_decide_eq_true h).2.2.2)).symm)
      | (exact (bi_f (c := noN C q = true) (fun h => h24 (of_decide_eq_true h).2.2.1)).symm)
      | (refine (bi_f (c := noN C q = true) (fun h => h12 ?_)).symm
         rw [(of_decide_eq_true h).2.1]; rfl)
      | (refine (bi_f (c := noN C q = true) (fun h => ?_)).symm
         have h := (of_decide_eq_true h).1
         rw [show (2 : Int32) = nI 2 from rfl, nI_leI (by omega) (by omega)] at h2
         omega)
    · have h12 : (q - 2) % 6 = 5 := (nI_eq (b := 5) (by omega) (by omega)).mp h12
      refine e_aload_n 0 dX5_isNought_15 rfl rfl ?_
      refine e_iload_n 1 dX5_isNought_16 rfl rfl ?_
      refine e_iconst (v := 1) dX5_isNought_17 rfl ?_
      refine e_isub dX5_isNought_18 ?_
      rw [show nI q - 1 = nI (q - 1) from sub1 (by omega)]
      refine f_callVi (As := [_]) ok_X5_code ⟨Nat.le_of_ble_eq_true rfl, Nat.le_of_ble_eq_true rfl⟩ dX5_isNought_19 kl_X5_33 ki_X5_code kv_X5_code rfl rfl (mkW_T.trans hT) rfl (Nat.le_of_ble_eq_true rfl) (Nat.le_of_ble_eq_true rfl) (Nat.zero_add _) (Nat.zero_add _) (sp_X5_code hT hj ham hC (q := q - 1) (by omega)) ?_
      refine e_bipush (v := 48) dX5_isNought_22 (by decide) ?_
      refine e_icmp_ne (tgt := 41) dX5_isNought_24 rfl (fun h24 => ?_) (fun h24 => ?_)
      · refine e_iconst (v := 0) dX5_isNought_41 rfl ?_
        refine e_zret dX5_isNought_42 rfl rfl ?_
        refine is_i ?_ rfl
        first
        | (exact (bi_t (c := noN C q = true) (decide_eq_true ⟨hq2, h12, h24, h34⟩)).symm)
        | (exact (bi_f (c := noN C q = true) (fun h => h34 (of_decide_eq_true h).2.2.2)).symm)
        | (exact (bi_f (c := noN C q = true) (fun h => h24 (of_decide_eq_true h).2.2.1)).symm)
        | (refine (bi_f (c := noN C q = true) (fun h => h12 ?_)).symm
           rw [(of_decide_eq_true h).2.1]; rfl)
        | (refine (bi_f (c := noN C q = true) (fun h => ?_)).symm
           have h := (of_decide_eq_true h).1
           rw [show (2 : Int32) = nI 2 from rfl, nI_leI (by omega) (by omega)] at h2
           omega)
      · refine e_aload_n 0 dX5_isNought_27 rfl rfl ?_
        refine e_iload_n 1 dX5_isNought_28 rfl rfl ?_
        refine f_callVi (As := [_]) ok_X5_code ⟨Nat.le_of_ble_eq_true rfl, Nat.le_of_ble_eq_true rfl⟩ dX5_isNought_29 kl_X5_33 ki_X5_code kv_X5_code rfl rfl (mkW_T.trans hT) rfl (Nat.le_of_ble_eq_true rfl) (Nat.le_of_ble_eq_true rfl) (Nat.zero_add _) (Nat.zero_add _) (sp_X5_code hT hj ham hC hq) ?_
        refine e_bipush (v := 48) dX5_isNought_32 (by decide) ?_
        refine e_icmp_ne (tgt := 41) dX5_isNought_34 rfl (fun h34 => ?_) (fun h34 => ?_)
        · refine e_iconst (v := 0) dX5_isNought_41 rfl ?_
          refine e_zret dX5_isNought_42 rfl rfl ?_
          refine is_i ?_ rfl
          first
          | (exact (bi_t (c := noN C q = true) (decide_eq_true ⟨hq2, h12, h24, h34⟩)).symm)
          | (exact (bi_f (c := noN C q = true) (fun h => h34 (of_decide_eq_true h).2.2.2)).symm)
          | (exact (bi_f (c := noN C q = true) (fun h => h24 (of_decide_eq_true h).2.2.1)).symm)
          | (refine (bi_f (c := noN C q = true) (fun h => h12 ?_)).symm
             rw [(of_decide_eq_true h).2.1]; rfl)
          | (refine (bi_f (c := noN C q = true) (fun h => ?_)).symm
             have h := (of_decide_eq_true h).1
             rw [show (2 : Int32) = nI 2 from rfl, nI_leI (by omega) (by omega)] at h2
             omega)
        · refine e_iconst (v := 1) dX5_isNought_37 rfl ?_
          refine e_goto (tgt := 42) dX5_isNought_38 rfl ?_
          refine e_zret dX5_isNought_42 rfl rfl ?_
          refine is_i ?_ rfl
          first
          | (exact (bi_t (c := noN C q = true) (decide_eq_true ⟨hq2, h12, h24, h34⟩)).symm)
          | (exact (bi_f (c := noN C q = true) (fun h => h34 (of_decide_eq_true h).2.2.2)).symm)
          | (exact (bi_f (c := noN C q = true) (fun h => h24 (of_decide_eq_true h).2.2.1)).symm)
          | (refine (bi_f (c := noN C q = true) (fun h => h12 ?_)).symm
             rw [(of_decide_eq_true h).2.1]; rfl)
          | (refine (bi_f (c := noN C q = true) (fun h => ?_)).symm
             have h := (of_decide_eq_true h).1
             rw [show (2 : Int32) = nI 2 from rfl, nI_leI (by omega) (by omega)] at h2
             omega)

set_option maxRecDepth 4000 in
theorem sp_X5_goesOn {G : sh_G} {S : Nat → Int32} {A : Nat → Nat → Int32} {Lg : Nat → Int64} {P : Nat → Option Nat} {T : List sh_C} {t j a m : Nat} {C : Nat → Int32} {q : Nat} (hT : T[t]? = some (.inl (5, [.ref (17 + 2 * j), .int (nI a), .int (nI m)]))) (hj : j < 4) (ham : a + m ≤ 60) (hC : ∀ i, i < m → A (7 + j) (a + i) = C i) (hq : q < m) : Ev G mX5_goesOn 0 0 (mkW G S A Lg P T) 0 [some (.ref (t + 47)), some (.int (nI q))] [] (sh_is (some (.int (bi (goN C q = true)))) (mkW G S A Lg P T)) := by
  by_cases c0 : q = 0
  · subst c0
    refine e_iload_n 1 dX5_goesOn_0 rfl rfl ?_
    refine e_if_ne (tgt := 20) dX5_goesOn_1 rfl (fun h1 => absurd h1 (by decide)) (fun _ => ?_)
    refine e_aload_n 0 dX5_goesOn_4 rfl rfl ?_
    refine e_iload_n 1 dX5_goesOn_5 rfl rfl ?_
    refine f_callVi (As := [_]) ok_X5_code ⟨Nat.le_of_ble_eq_true rfl, Nat.le_of_ble_eq_true rfl⟩ dX5_goesOn_6 kl_X5_33 ki_X5_code kv_X5_code rfl rfl (mkW_T.trans hT) rfl (Nat.le_of_ble_eq_true rfl) (Nat.le_of_ble_eq_true rfl) (Nat.zero_add _) (Nat.zero_add _) (sp_X5_code hT hj ham hC (q := 0) (by omega)) ?_
    refine e_bipush (v := 104) dX5_goesOn_9 (by decide) ?_
    refine e_icmp_ne (tgt := 18) dX5_goesOn_11 rfl (fun h11 => ?_) (fun h11 => ?_)
    · refine e_iconst (v := 0) dX5_goesOn_18 rfl ?_
      refine e_zret dX5_goesOn_19 rfl rfl ?_
      refine is_i ?_ rfl
      first
      | exact (bi_t (go0.mpr h11)).symm
      | exact (bi_f (c := goN C 0 = true) (fun h => h11 (go0.mp h))).symm
    · refine e_iconst (v := 1) dX5_goesOn_14 rfl ?_
      refine e_goto (tgt := 19) dX5_goesOn_15 rfl ?_
      refine e_zret dX5_goesOn_19 rfl rfl ?_
      refine is_i ?_ rfl
      first
      | exact (bi_t (go0.mpr h11)).symm
      | exact (bi_f (c := goN C 0 = true) (fun h => h11 (go0.mp h))).symm
  have n0 : nI q ≠ 0 := fun h => c0 ((nI_eq (b := 0) (by omega) (by omega)).mp h)
  by_cases c1 : q = 1
  · subst c1
    refine e_iload_n 1 dX5_goesOn_0 rfl rfl ?_
    refine e_if_ne (tgt := 20) dX5_goesOn_1 rfl (fun _ => ?_) (fun h1 => absurd h1 n0)
    refine e_iload_n 1 dX5_goesOn_20 rfl rfl ?_
    refine e_iconst (v := 1) dX5_goesOn_21 rfl ?_
    refine e_icmp_ne (tgt := 51) dX5_goesOn_22 rfl (fun h22 => absurd h22 (by decide)) (fun _ => ?_)
    refine e_aload_n 0 dX5_goesOn_25 rfl rfl ?_
    refine e_iload_n 1 dX5_goesOn_26 rfl rfl ?_
    refine f_callVi (As := [_]) ok_X5_code ⟨Nat.le_of_ble_eq_true rfl, Nat.le_of_ble_eq_true rfl⟩ dX5_goesOn_27 kl_X5_33 ki_X5_code kv_X5_code rfl rfl (mkW_T.trans hT) rfl (Nat.le_of_ble_eq_true rfl) (Nat.le_of_ble_eq_true rfl) (Nat.zero_add _) (Nat.zero_add _) (sp_X5_code hT hj ham hC (q := 1) (by omega)) ?_
    refine e_bipush (v := 50) dX5_goesOn_30 (by decide) ?_
    refine e_icmp_lt (tgt := 49) dX5_goesOn_32 rfl (fun h32 => ?_) (fun h32 => ?_)
    · refine e_iconst (v := 0) dX5_goesOn_49 rfl ?_
      refine e_zret dX5_goesOn_50 rfl rfl ?_
      refine is_i ?_ rfl
      first
      | exact (bi_t (go1.mpr ⟨h32, h42⟩)).symm
      | exact (bi_f (c := goN C 1 = true) (fun h => (go1.mp h).1 h32)).symm
      | exact (bi_f (c := goN C 1 = true) (fun h => (go1.mp h).2 h42)).symm
    · refine e_aload_n 0 dX5_goesOn_35 rfl rfl ?_
      refine e_iload_n 1 dX5_goesOn_36 rfl rfl ?_
      refine f_callVi (As := [_]) ok_X5_code ⟨Nat.le_of_ble_eq_true rfl, Nat.le_of_ble_eq_true rfl⟩ dX5_goesOn_37 kl_X5_33 ki_X5_code kv_X5_code rfl rfl (mkW_T.trans hT) rfl (Nat.le_of_ble_eq_true rfl) (Nat.le_of_ble_eq_true rfl) (Nat.zero_add _) (Nat.zero_add _) (sp_X5_code hT hj ham hC (q := 1) (by omega)) ?_
      refine e_bipush (v := 54) dX5_goesOn_40 (by decide) ?_
      refine e_icmp_gt (tgt := 49) dX5_goesOn_42 rfl (fun h42 => ?_) (fun h42 => ?_)
      · refine e_iconst (v := 0) dX5_goesOn_49 rfl ?_
        refine e_zret dX5_goesOn_50 rfl rfl ?_
        refine is_i ?_ rfl
        first
        | exact (bi_t (go1.mpr ⟨h32, h42⟩)).symm
        | exact (bi_f (c := goN C 1 = true) (fun h => (go1.mp h).1 h32)).symm
        | exact (bi_f (c := goN C 1 = true) (fun h => (go1.mp h).2 h42)).symm
      · refine e_iconst (v := 1) dX5_goesOn_45 rfl ?_
        refine e_goto (tgt := 50) dX5_goesOn_46 rfl ?_
        refine e_zret dX5_goesOn_50 rfl rfl ?_
        refine is_i ?_ rfl
        first
        | exact (bi_t (go1.mpr ⟨h32, h42⟩)).symm
        | exact (bi_f (c := goN C 1 = true) (fun h => (go1.mp h).1 h32)).symm
        | exact (bi_f (c := goN C 1 = true) (fun h => (go1.mp h).2 h42)).symm
  have n1 : nI q ≠ 1 := fun h => c1 ((nI_eq (b := 1) (by omega) (by omega)).mp h)
  obtain ⟨d, r, hr, e⟩ : ∃ d r, r < 6 ∧ q = 6 * d + 2 + r := ⟨(q - 2) / 6, (q - 2) % 6, by omega, by omega⟩
  have hm : 1 < m := by omega
  rcases (by omega : r = 0 ∨ r = 1 ∨ r = 2 ∨ r = 3 ∨ r = 4 ∨ r = 5) with rfl | rfl | rfl | rfl | rfl | rfl
  · have e : q = 6 * d + 2 := by omega
    subst e
    refine e_iload_n 1 dX5_goesOn_0 rfl rfl ?_
    refine e_if_ne (tgt := 20) dX5_goesOn_1 rfl (fun _ => ?_) (fun h1 => absurd h1 n0)
    refine e_iload_n 1 dX5_goesOn_20 rfl rfl ?_
    refine e_iconst (v := 1) dX5_goesOn_21 rfl ?_
    refine e_icmp_ne (tgt := 51) dX5_goesOn_22 rfl (fun _ => ?_) (fun h22 => absurd h22 n1)
    refine e_iload_n 1 dX5_goesOn_51 rfl rfl ?_
    refine e_iconst (v := 2) dX5_goesOn_52 rfl ?_
    refine e_isub dX5_goesOn_53 ?_
    rw [show nI (6 * d + 2) - 2 = nI (6 * d + 0) from sub2 (by omega)]
    refine e_bipush (v := 6) dX5_goesOn_54 (by decide) ?_
    refine e_irem dX5_goesOn_56 (by decide) ?_
    rw [rem6 (d := d) (r := 0) (by omega) (by omega) rfl]
    refine e_tableIn (off := 35) (tgt := 92) dX5_goesOn_57 (by decide) (by decide) (by decide) rfl ?_
    refine e_aload_n 0 dX5_goesOn_92 rfl rfl ?_
    refine e_iload_n 1 dX5_goesOn_93 rfl rfl ?_
    refine f_callVi (As := [_]) ok_X5_code ⟨Nat.le_of_ble_eq_true rfl, Nat.le_of_ble_eq_true rfl⟩ dX5_goesOn_94 kl_X5_33 ki_X5_code kv_X5_code rfl rfl (mkW_T.trans hT) rfl (Nat.le_of_ble_eq_true rfl) (Nat.le_of_ble_eq_true rfl) (Nat.zero_add _) (Nat.zero_add _) (sp_X5_code hT hj ham hC hq) ?_
    refine e_bipush (v := 59) dX5_goesOn_97 (by decide) ?_
    refine e_icmp_ne (tgt := 117) dX5_goesOn_99 rfl (fun h99 => ?_) (fun h99 => ?_)
    · refine e_iconst (v := 0) dX5_goesOn_117 rfl ?_
      refine e_zret dX5_goesOn_118 rfl rfl ?_
      refine is_i ?_ rfl
      first
      | (have h110 : d < 8 := by rw [show (8 : Int32) = nI 8 from rfl, nI_leI (by omega) (by omega)] at h110; omega
         exact (bi_t (goA.mpr ⟨h99, h110⟩)).symm)
      | (have h110 : ¬ d < 8 := by rw [show (8 : Int32) = nI 8 from rfl, nI_leI (by omega) (by omega)] at h110; omega
         exact (bi_f (c := goN C (6 * d + 2) = true) (fun h => h110 (goA.mp h).2)).symm)
      | exact (bi_f (c := goN C (6 * d + 2) = true) (fun h => h99 (goA.mp h).1)).symm
    · refine e_iload_n 1 dX5_goesOn_102 rfl rfl ?_
      refine e_iconst (v := 2) dX5_goesOn_103 rfl ?_
      refine e_isub dX5_goesOn_104 ?_
      rw [show nI (6 * d + 2) - 2 = nI (6 * d + 0) from sub2 (by omega)]
      refine e_bipush (v := 6) dX5_goesOn_105 (by decide) ?_
      refine e_idiv dX5_goesOn_107 (by decide) ?_
      rw [div6 (d := d) (r := 0) (by omega) (by omega) rfl]
      refine e_bipush (v := 8) dX5_goesOn_108 (by decide) ?_
      refine e_icmp_ge (tgt := 117) dX5_goesOn_110 rfl (fun h110 => ?_) (fun h110 => ?_)
      · refine e_iconst (v := 0) dX5_goesOn_117 rfl ?_
        refine e_zret dX5_goesOn_118 rfl rfl ?_
        refine is_i ?_ rfl
        first
        | (have h110 : d < 8 := by rw [show (8 : Int32) = nI 8 from rfl, nI_leI (by omega) (by omega)] at h110; omega
           exact (bi_t (goA.mpr ⟨h99, h110⟩)).symm)
        | (have h110 : ¬ d < 8 := by rw [show (8 : Int32) = nI 8 from rfl, nI_leI (by omega) (by omega)] at h110; omega
           exact (bi_f (c := goN C (6 * d + 2) = true) (fun h => h110 (goA.mp h).2)).symm)
        | exact (bi_f (c := goN C (6 * d + 2) = true) (fun h => h99 (goA.mp h).1)).symm
      · refine e_iconst (v := 1) dX5_goesOn_113 rfl ?_
        refine e_goto (tgt := 118) dX5_goesOn_114 rfl ?_
        refine e_zret dX5_goesOn_118 rfl rfl ?_
        refine is_i ?_ rfl
        first
        | (have h110 : d < 8 := by rw [show (8 : Int32) = nI 8 from rfl, nI_leI (by omega) (by omega)] at h110; omega
           exact (bi_t (goA.mpr ⟨h99, h110⟩)).symm)
        | (have h110 : ¬ d < 8 := by rw [show (8 : Int32) = nI 8 from rfl, nI_leI (by omega) (by omega)] at h110; omega
           exact (bi_f (c := goN C (6 * d + 2) = true) (fun h => h110 (goA.mp h).2)).symm)
        | exact (bi_f (c := goN C (6 * d + 2) = true) (fun h => h99 (goA.mp h).1)).symm
  · have e : q = 6 * d + 3 := by omega
    subst e
    refine e_iload_n 1 dX5_goesOn_0 rfl rfl ?_
    refine e_if_ne (tgt := 20) dX5_goesOn_1 rfl (fun _ => ?_) (fun h1 => absurd h1 n0)
    refine e_iload_n 1 dX5_goesOn_20 rfl rfl ?_
    refine e_iconst (v := 1) dX5_goesOn_21 rfl ?_
    refine e_icmp_ne (tgt := 51) dX5_goesOn_22 rfl (fun _ => ?_) (fun h22 => absurd h22 n1)
    refine e_iload_n 1 dX5_goesOn_51 rfl rfl ?_
    refine e_iconst (v := 2) dX5_goesOn_52 rfl ?_
    refine e_isub dX5_goesOn_53 ?_
    rw [show nI (6 * d + 3) - 2 = nI (6 * d + 1) from sub2 (by omega)]
    refine e_bipush (v := 6) dX5_goesOn_54 (by decide) ?_
    refine e_irem dX5_goesOn_56 (by decide) ?_
    rw [rem6 (d := d) (r := 1) (by omega) (by omega) rfl]
    refine e_tableIn (off := 62) (tgt := 119) dX5_goesOn_57 (by decide) (by decide) (by decide) rfl ?_
    refine e_aload_n 0 dX5_goesOn_119 rfl rfl ?_
    refine e_iload_n 1 dX5_goesOn_120 rfl rfl ?_
    refine f_callVi (As := [_]) ok_X5_code ⟨Nat.le_of_ble_eq_true rfl, Nat.le_of_ble_eq_true rfl⟩ dX5_goesOn_121 kl_X5_33 ki_X5_code kv_X5_code rfl rfl (mkW_T.trans hT) rfl (Nat.le_of_ble_eq_true rfl) (Nat.le_of_ble_eq_true rfl) (Nat.zero_add _) (Nat.zero_add _) (sp_X5_code hT hj ham hC hq) ?_
    refine e_bipush (v := 115) dX5_goesOn_124 (by decide) ?_
    refine e_icmp_eq (tgt := 149) dX5_goesOn_126 rfl (fun h126 => ?_) (fun h126 => ?_)
    · refine e_iconst (v := 1) dX5_goesOn_149 rfl ?_
      refine e_goto (tgt := 154) dX5_goesOn_150 rfl ?_
      refine e_zret dX5_goesOn_154 rfl rfl ?_
      refine is_i ?_ rfl
      first
      | exact (bi_t (goB.mpr (Or.inl h126))).symm
      | exact (bi_t (goB.mpr (Or.inr (Or.inl h136)))).symm
      | exact (bi_t (goB.mpr (Or.inr (Or.inr h146)))).symm
      | exact (bi_f (c := goN C (6 * d + 3) = true) (fun h => (goB.mp h).elim h126 (fun h => h.elim h136 h146))).symm
    · refine e_aload_n 0 dX5_goesOn_129 rfl rfl ?_
      refine e_iload_n 1 dX5_goesOn_130 rfl rfl ?_
      refine f_callVi (As := [_]) ok_X5_code ⟨Nat.le_of_ble_eq_true rfl, Nat.le_of_ble_eq_true rfl⟩ dX5_goesOn_131 kl_X5_33 ki_X5_code kv_X5_code rfl rfl (mkW_T.trans hT) rfl (Nat.le_of_ble_eq_true rfl) (Nat.le_of_ble_eq_true rfl) (Nat.zero_add _) (Nat.zero_add _) (sp_X5_code hT hj ham hC hq) ?_
      refine e_bipush (v := 116) dX5_goesOn_134 (by decide) ?_
      refine e_icmp_eq (tgt := 149) dX5_goesOn_136 rfl (fun h136 => ?_) (fun h136 => ?_)
      · refine e_iconst (v := 1) dX5_goesOn_149 rfl ?_
        refine e_goto (tgt := 154) dX5_goesOn_150 rfl ?_
        refine e_zret dX5_goesOn_154 rfl rfl ?_
        refine is_i ?_ rfl
        first
        | exact (bi_t (goB.mpr (Or.inl h126))).symm
        | exact (bi_t (goB.mpr (Or.inr (Or.inl h136)))).symm
        | exact (bi_t (goB.mpr (Or.inr (Or.inr h146)))).symm
        | exact (bi_f (c := goN C (6 * d + 3) = true) (fun h => (goB.mp h).elim h126 (fun h => h.elim h136 h146))).symm
      · refine e_aload_n 0 dX5_goesOn_139 rfl rfl ?_
        refine e_iload_n 1 dX5_goesOn_140 rfl rfl ?_
        refine f_callVi (As := [_]) ok_X5_code ⟨Nat.le_of_ble_eq_true rfl, Nat.le_of_ble_eq_true rfl⟩ dX5_goesOn_141 kl_X5_33 ki_X5_code kv_X5_code rfl rfl (mkW_T.trans hT) rfl (Nat.le_of_ble_eq_true rfl) (Nat.le_of_ble_eq_true rfl) (Nat.zero_add _) (Nat.zero_add _) (sp_X5_code hT hj ham hC hq) ?_
        refine e_bipush (v := 119) dX5_goesOn_144 (by decide) ?_
        refine e_icmp_ne (tgt := 153) dX5_goesOn_146 rfl (fun h146 => ?_) (fun h146 => ?_)
        · refine e_iconst (v := 0) dX5_goesOn_153 rfl ?_
          refine e_zret dX5_goesOn_154 rfl rfl ?_
          refine is_i ?_ rfl
          first
          | exact (bi_t (goB.mpr (Or.inl h126))).symm
          | exact (bi_t (goB.mpr (Or.inr (Or.inl h136)))).symm
          | exact (bi_t (goB.mpr (Or.inr (Or.inr h146)))).symm
          | exact (bi_f (c := goN C (6 * d + 3) = true) (fun h => (goB.mp h).elim h126 (fun h => h.elim h136 h146))).symm
        · refine e_iconst (v := 1) dX5_goesOn_149 rfl ?_
          refine e_goto (tgt := 154) dX5_goesOn_150 rfl ?_
          refine e_zret dX5_goesOn_154 rfl rfl ?_
          refine is_i ?_ rfl
          first
          | exact (bi_t (goB.mpr (Or.inl h126))).symm
          | exact (bi_t (goB.mpr (Or.inr (Or.inl h136)))).symm
          | exact (bi_t (goB.mpr (Or.inr (Or.inr h146)))).symm
          | exact (bi_f (c := goN C (6 * d + 3) = true) (fun h => (goB.mp h).elim h126 (fun h => h.elim h136 h146))).symm
  · have e : q = 6 * d + 4 := by omega
    subst e
    refine e_iload_n 1 dX5_goesOn_0 rfl rfl ?_
    refine e_if_ne (tgt := 20) dX5_goesOn_1 rfl (fun _ => ?_) (fun h1 => absurd h1 n0)
    refine e_iload_n 1 dX5_goesOn_20 rfl rfl ?_
    refine e_iconst (v := 1) dX5_goesOn_21 rfl ?_
    refine e_icmp_ne (tgt := 51) dX5_goesOn_22 rfl (fun _ => ?_) (fun h22 => absurd h22 n1)
    refine e_iload_n 1 dX5_goesOn_51 rfl rfl ?_
    refine e_iconst (v := 2) dX5_goesOn_52 rfl ?_
    refine e_isub dX5_goesOn_53 ?_
    rw [show nI (6 * d + 4) - 2 = nI (6 * d + 2) from sub2 (by omega)]
    refine e_bipush (v := 6) dX5_goesOn_54 (by decide) ?_
    refine e_irem dX5_goesOn_56 (by decide) ?_
    rw [rem6 (d := d) (r := 2) (by omega) (by omega) rfl]
    refine e_tableIn (off := 98) (tgt := 155) dX5_goesOn_57 (by decide) (by decide) (by decide) rfl ?_
    refine e_aload_n 0 dX5_goesOn_155 rfl rfl ?_
    refine e_iload_n 1 dX5_goesOn_156 rfl rfl ?_
    refine f_callVi (As := [_]) ok_X5_isRoom ⟨Nat.le_of_ble_eq_true rfl, Nat.le_of_ble_eq_true rfl⟩ dX5_goesOn_157 kl_X5_51 ki_X5_isRoom kv_X5_isRoom rfl rfl (mkW_T.trans hT) rfl (Nat.le_of_ble_eq_true rfl) (Nat.le_of_ble_eq_true rfl) (Nat.zero_add _) (Nat.zero_add _) (sp_X5_isRoom hT hj ham hC hq hm) ?_
    refine e_zret dX5_goesOn_160 rfl bi_n ?_
    exact is_i (by rw [goC]) rfl
  · have e : q = 6 * d + 5 := by omega
    subst e
    refine e_iload_n 1 dX5_goesOn_0 rfl rfl ?_
    refine e_if_ne (tgt := 20) dX5_goesOn_1 rfl (fun _ => ?_) (fun h1 => absurd h1 n0)
    refine e_iload_n 1 dX5_goesOn_20 rfl rfl ?_
    refine e_iconst (v := 1) dX5_goesOn_21 rfl ?_
    refine e_icmp_ne (tgt := 51) dX5_goesOn_22 rfl (fun _ => ?_) (fun h22 => absurd h22 n1)
    refine e_iload_n 1 dX5_goesOn_51 rfl rfl ?_
    refine e_iconst (v := 2) dX5_goesOn_52 rfl ?_
    refine e_isub dX5_goesOn_53 ?_
    rw [show nI (6 * d + 5) - 2 = nI (6 * d + 3) from sub2 (by omega)]
    refine e_bipush (v := 6) dX5_goesOn_54 (by decide) ?_
    refine e_irem dX5_goesOn_56 (by decide) ?_
    rw [rem6 (d := d) (r := 3) (by omega) (by omega) rfl]
    refine e_tableIn (off := 104) (tgt := 161) dX5_goesOn_57 (by decide) (by decide) (by decide) rfl ?_
    refine e_aload_n 0 dX5_goesOn_161 rfl rfl ?_
    refine e_iload_n 1 dX5_goesOn_162 rfl rfl ?_
    refine f_callVi (As := [_]) ok_X5_isRoom ⟨Nat.le_of_ble_eq_true rfl, Nat.le_of_ble_eq_true rfl⟩ dX5_goesOn_163 kl_X5_51 ki_X5_isRoom kv_X5_isRoom rfl rfl (mkW_T.trans hT) rfl (Nat.le_of_ble_eq_true rfl) (Nat.le_of_ble_eq_true rfl) (Nat.zero_add _) (Nat.zero_add _) (sp_X5_isRoom hT hj ham hC hq hm) ?_
    refine e_if_eq (tgt := 188) dX5_goesOn_166 rfl (fun h166 => ?_) (fun h166 => ?_)
    · refine e_iconst (v := 0) dX5_goesOn_188 rfl ?_
      refine e_zret dX5_goesOn_189 rfl rfl ?_
      refine is_i ?_ rfl
      first
      | exact (bi_t (goD.mpr ⟨bi_1.mp h166, h181⟩)).symm
      | exact (bi_f (c := goN C (6 * d + 5) = true) (fun h => (goD.mp h).2 h181)).symm
      | exact (bi_f (c := goN C (6 * d + 5) = true) (fun h => bi_0.mp h166 (goD.mp h).1)).symm
    · refine e_aload_n 0 dX5_goesOn_169 rfl rfl ?_
      refine e_iload_n 1 dX5_goesOn_170 rfl rfl ?_
      refine f_callVi (As := [_]) ok_X5_code ⟨Nat.le_of_ble_eq_true rfl, Nat.le_of_ble_eq_true rfl⟩ dX5_goesOn_171 kl_X5_33 ki_X5_code kv_X5_code rfl rfl (mkW_T.trans hT) rfl (Nat.le_of_ble_eq_true rfl) (Nat.le_of_ble_eq_true rfl) (Nat.zero_add _) (Nat.zero_add _) (sp_X5_code hT hj ham hC hq) ?_
      refine e_aload_n 0 dX5_goesOn_174 rfl rfl ?_
      refine e_iload_n 1 dX5_goesOn_175 rfl rfl ?_
      refine e_iconst (v := 1) dX5_goesOn_176 rfl ?_
      refine e_isub dX5_goesOn_177 ?_
      rw [show nI (6 * d + 5) - 1 = nI (6 * d + 4) from sub1 (by omega)]
      refine f_callVi (As := [_]) ok_X5_code ⟨Nat.le_of_ble_eq_true rfl, Nat.le_of_ble_eq_true rfl⟩ dX5_goesOn_178 kl_X5_33 ki_X5_code kv_X5_code rfl rfl (mkW_T.trans hT) rfl (Nat.le_of_ble_eq_true rfl) (Nat.le_of_ble_eq_true rfl) (Nat.zero_add _) (Nat.zero_add _) (sp_X5_code hT hj ham hC (q := 6 * d + 4) (by omega)) ?_
      refine e_icmp_eq (tgt := 188) dX5_goesOn_181 rfl (fun h181 => ?_) (fun h181 => ?_)
      · refine e_iconst (v := 0) dX5_goesOn_188 rfl ?_
        refine e_zret dX5_goesOn_189 rfl rfl ?_
        refine is_i ?_ rfl
        first
        | exact (bi_t (goD.mpr ⟨bi_1.mp h166, h181⟩)).symm
        | exact (bi_f (c := goN C (6 * d + 5) = true) (fun h => (goD.mp h).2 h181)).symm
        | exact (bi_f (c := goN C (6 * d + 5) = true) (fun h => bi_0.mp h166 (goD.mp h).1)).symm
      · refine e_iconst (v := 1) dX5_goesOn_184 rfl ?_
        refine e_goto (tgt := 189) dX5_goesOn_185 rfl ?_
        refine e_zret dX5_goesOn_189 rfl rfl ?_
        refine is_i ?_ rfl
        first
        | exact (bi_t (goD.mpr ⟨bi_1.mp h166, h181⟩)).symm
        | exact (bi_f (c := goN C (6 * d + 5) = true) (fun h => (goD.mp h).2 h181)).symm
        | exact (bi_f (c := goN C (6 * d + 5) = true) (fun h => bi_0.mp h166 (goD.mp h).1)).symm
  · have e : q = 6 * d + 6 := by omega
    subst e
    refine e_iload_n 1 dX5_goesOn_0 rfl rfl ?_
    refine e_if_ne (tgt := 20) dX5_goesOn_1 rfl (fun _ => ?_) (fun h1 => absurd h1 n0)
    refine e_iload_n 1 dX5_goesOn_20 rfl rfl ?_
    refine e_iconst (v := 1) dX5_goesOn_21 rfl ?_
    refine e_icmp_ne (tgt := 51) dX5_goesOn_22 rfl (fun _ => ?_) (fun h22 => absurd h22 n1)
    refine e_iload_n 1 dX5_goesOn_51 rfl rfl ?_
    refine e_iconst (v := 2) dX5_goesOn_52 rfl ?_
    refine e_isub dX5_goesOn_53 ?_
    rw [show nI (6 * d + 6) - 2 = nI (6 * d + 4) from sub2 (by omega)]
    refine e_bipush (v := 6) dX5_goesOn_54 (by decide) ?_
    refine e_irem dX5_goesOn_56 (by decide) ?_
    rw [rem6 (d := d) (r := 4) (by omega) (by omega) rfl]
    refine e_tableIn (off := 133) (tgt := 190) dX5_goesOn_57 (by decide) (by decide) (by decide) rfl ?_
    refine e_aload_n 0 dX5_goesOn_190 rfl rfl ?_
    refine e_iload_n 1 dX5_goesOn_191 rfl rfl ?_
    refine f_callVi (As := [_]) ok_X5_isDigit ⟨Nat.le_of_ble_eq_true rfl, Nat.le_of_ble_eq_true rfl⟩ dX5_goesOn_192 kl_X5_54 ki_X5_isDigit kv_X5_isDigit rfl rfl (mkW_T.trans hT) rfl (Nat.le_of_ble_eq_true rfl) (Nat.le_of_ble_eq_true rfl) (Nat.zero_add _) (Nat.zero_add _) (sp_X5_isDigit hT hj ham hC hq) ?_
    refine e_zret dX5_goesOn_195 rfl bi_n ?_
    exact is_i (by rw [goE]) rfl
  · have e : q = 6 * d + 7 := by omega
    subst e
    refine e_iload_n 1 dX5_goesOn_0 rfl rfl ?_
    refine e_if_ne (tgt := 20) dX5_goesOn_1 rfl (fun _ => ?_) (fun h1 => absurd h1 n0)
    refine e_iload_n 1 dX5_goesOn_20 rfl rfl ?_
    refine e_iconst (v := 1) dX5_goesOn_21 rfl ?_
    refine e_icmp_ne (tgt := 51) dX5_goesOn_22 rfl (fun _ => ?_) (fun h22 => absurd h22 n1)
    refine e_iload_n 1 dX5_goesOn_51 rfl rfl ?_
    refine e_iconst (v := 2) dX5_goesOn_52 rfl ?_
    refine e_isub dX5_goesOn_53 ?_
    rw [show nI (6 * d + 7) - 2 = nI (6 * d + 5) from sub2 (by omega)]
    refine e_bipush (v := 6) dX5_goesOn_54 (by decide) ?_
    refine e_irem dX5_goesOn_56 (by decide) ?_
    rw [rem6 (d := d) (r := 5) (by omega) (by omega) rfl]
    refine e_tableOut (tgt := 196) dX5_goesOn_57 (by decide) rfl ?_
    refine e_aload_n 0 dX5_goesOn_196 rfl rfl ?_
    refine e_iload_n 1 dX5_goesOn_197 rfl rfl ?_
    refine f_callVi (As := [_]) ok_X5_isDigit ⟨Nat.le_of_ble_eq_true rfl, Nat.le_of_ble_eq_true rfl⟩ dX5_goesOn_198 kl_X5_54 ki_X5_isDigit kv_X5_isDigit rfl rfl (mkW_T.trans hT) rfl (Nat.le_of_ble_eq_true rfl) (Nat.le_of_ble_eq_true rfl) (Nat.zero_add _) (Nat.zero_add _) (sp_X5_isDigit hT hj ham hC hq) ?_
    refine e_if_eq (tgt := 216) dX5_goesOn_201 rfl (fun h201 => ?_) (fun h201 => ?_)
    · refine e_iconst (v := 0) dX5_goesOn_216 rfl ?_
      refine e_zret dX5_goesOn_217 rfl rfl ?_
      refine is_i ?_ rfl
      first
      | exact (bi_t (goF.mpr ⟨bi_1.mp h201, fun h => bi_0.mp h209 (noF.mpr h)⟩)).symm
      | exact (bi_f (c := goN C (6 * d + 7) = true) (fun h => (goF.mp h).2 (noF.mp (bi_1.mp h209)))).symm
      | exact (bi_f (c := goN C (6 * d + 7) = true) (fun h => bi_0.mp h201 (goF.mp h).1)).symm
    · refine e_aload_n 0 dX5_goesOn_204 rfl rfl ?_
      refine e_iload_n 1 dX5_goesOn_205 rfl rfl ?_
      refine f_callVi (As := [_]) ok_X5_isNought ⟨Nat.le_of_ble_eq_true rfl, Nat.le_of_ble_eq_true rfl⟩ dX5_goesOn_206 kl_X5_26 ki_X5_isNought kv_X5_isNought rfl rfl (mkW_T.trans hT) rfl (Nat.le_of_ble_eq_true rfl) (Nat.le_of_ble_eq_true rfl) (Nat.zero_add _) (Nat.zero_add _) (sp_X5_isNought hT hj ham hC hq) ?_
      refine e_if_ne (tgt := 216) dX5_goesOn_209 rfl (fun h209 => ?_) (fun h209 => ?_)
      · refine e_iconst (v := 0) dX5_goesOn_216 rfl ?_
        refine e_zret dX5_goesOn_217 rfl rfl ?_
        refine is_i ?_ rfl
        first
        | exact (bi_t (goF.mpr ⟨bi_1.mp h201, fun h => bi_0.mp h209 (noF.mpr h)⟩)).symm
        | exact (bi_f (c := goN C (6 * d + 7) = true) (fun h => (goF.mp h).2 (noF.mp (bi_1.mp h209)))).symm
        | exact (bi_f (c := goN C (6 * d + 7) = true) (fun h => bi_0.mp h201 (goF.mp h).1)).symm
      · refine e_iconst (v := 1) dX5_goesOn_212 rfl ?_
        refine e_goto (tgt := 217) dX5_goesOn_213 rfl ?_
        refine e_zret dX5_goesOn_217 rfl rfl ?_
        refine is_i ?_ rfl
        first
        | exact (bi_t (goF.mpr ⟨bi_1.mp h201, fun h => bi_0.mp h209 (noF.mpr h)⟩)).symm
        | exact (bi_f (c := goN C (6 * d + 7) = true) (fun h => (goF.mp h).2 (noF.mp (bi_1.mp h209)))).symm
        | exact (bi_f (c := goN C (6 * d + 7) = true) (fun h => bi_0.mp h201 (goF.mp h).1)).symm

set_option maxRecDepth 4000 in
theorem lp_X5_firstFault {G : sh_G} {S : Nat → Int32} {A : Nat → Nat → Int32} {Lg : Nat → Int64} {P : Nat → Option Nat} {T : List sh_C} {t j a m : Nat} {C : Nat → Int32} (hT : T[t]? = some (.inl (5, [.ref (17 + 2 * j), .int (nI a), .int (nI m)]))) (hj : j < 4) (ham : a + m ≤ 60) (hC : ∀ i, i < m → A (7 + j) (a + i) = C i) : ∀ (f q : Nat), q + f = m → Ev G mX5_firstFault 0 0 (mkW G S A Lg P T) 2 [some (.ref (t + 47)), some (.int (nI q))] [] (sh_is (some (.int (oI (ffN C m f q)))) (mkW G S A Lg P T)) := by
  intro f
  induction f with
  | zero =>
    intro q hq
    have e : q = m := by omega
    subst e
    refine e_iload_n 1 dX5_firstFault_2 rfl rfl ?_
    refine e_aload_n 0 dX5_firstFault_3 rfl rfl ?_
    refine e_getfield 2 dX5_firstFault_4 kf_X5_19_5 (mkW_T.trans hT) rfl ?_
    refine e_icmp_ge (tgt := 40) dX5_firstFault_7 rfl (fun _ => ?_) (fun h7 => absurd (by rw [nI_leI (by omega) (by omega)]; omega) h7)
    refine e_aload_n 0 dX5_firstFault_40 rfl rfl ?_
    refine e_getfield 2 dX5_firstFault_41 kf_X5_19_5 (mkW_T.trans hT) rfl ?_
    refine e_iconst (v := 2) dX5_firstFault_44 rfl ?_
    refine e_icmp_le (tgt := 64) dX5_firstFault_45 rfl (fun h45 => ?_) (fun h45 => ?_)
    · refine e_aload_n 0 dX5_firstFault_64 rfl rfl ?_
      refine e_getfield 2 dX5_firstFault_65 kf_X5_19_5 (mkW_T.trans hT) rfl ?_
      refine e_iret dX5_firstFault_68 rfl ?_
      refine is_i ?_ rfl
      rw [ffN]
      first
      | (have h57 : (q - 2) % 6 = 0 := (nI_eq (b := 0) (by omega) (by omega)).mp h57
         rw [if_pos ⟨hm2, h57⟩]; rfl)
      | (have h57 : ¬ (q - 2) % 6 = 0 := fun h => h57 (by rw [h]; rfl)
         rw [if_neg (fun h => h57 h.2)]; rfl)
      | (have hm2 : ¬ 2 < q := by rw [show (2 : Int32) = nI 2 from rfl, nI_leI (by omega) (by omega)] at h45; omega
         rw [if_neg (fun h => hm2 h.1)]; rfl)
    · have hm2 : 2 < q := by rw [show (2 : Int32) = nI 2 from rfl, nI_leI (by omega) (by omega)] at h45; omega
      refine e_aload_n 0 dX5_firstFault_48 rfl rfl ?_
      refine e_getfield 2 dX5_firstFault_49 kf_X5_19_5 (mkW_T.trans hT) rfl ?_
      refine e_iconst (v := 2) dX5_firstFault_52 rfl ?_
      refine e_isub dX5_firstFault_53 ?_
      rw [show nI q - 2 = nI (q - 2) from sub2 (by omega)]
      refine e_bipush (v := 6) dX5_firstFault_54 (by decide) ?_
      refine e_irem dX5_firstFault_56 (by decide) ?_
      rw [rem6 (d := (q - 2) / 6) (r := (q - 2) % 6) (by omega) (by omega) (by omega)]
      refine e_if_ne (tgt := 64) dX5_firstFault_57 rfl (fun h57 => ?_) (fun h57 => ?_)
      · refine e_aload_n 0 dX5_firstFault_64 rfl rfl ?_
        refine e_getfield 2 dX5_firstFault_65 kf_X5_19_5 (mkW_T.trans hT) rfl ?_
        refine e_iret dX5_firstFault_68 rfl ?_
        refine is_i ?_ rfl
        rw [ffN]
        first
        | (have h57 : (q - 2) % 6 = 0 := (nI_eq (b := 0) (by omega) (by omega)).mp h57
           rw [if_pos ⟨hm2, h57⟩]; rfl)
        | (have h57 : ¬ (q - 2) % 6 = 0 := fun h => h57 (by rw [h]; rfl)
           rw [if_neg (fun h => h57 h.2)]; rfl)
        | (have hm2 : ¬ 2 < q := by rw [show (2 : Int32) = nI 2 from rfl, nI_leI (by omega) (by omega)] at h45; omega
           rw [if_neg (fun h => hm2 h.1)]; rfl)
      · refine e_iconst (v := -1) dX5_firstFault_60 rfl ?_
        refine e_goto (tgt := 68) dX5_firstFault_61 rfl ?_
        refine e_iret dX5_firstFault_68 rfl ?_
        refine is_i ?_ rfl
        rw [ffN]
        first
        | (have h57 : (q - 2) % 6 = 0 := (nI_eq (b := 0) (by omega) (by omega)).mp h57
           rw [if_pos ⟨hm2, h57⟩]; rfl)
        | (have h57 : ¬ (q - 2) % 6 = 0 := fun h => h57 (by rw [h]; rfl)
           rw [if_neg (fun h => h57 h.2)]; rfl)
        | (have hm2 : ¬ 2 < q := by rw [show (2 : Int32) = nI 2 from rfl, nI_leI (by omega) (by omega)] at h45; omega
           rw [if_neg (fun h => hm2 h.1)]; rfl)
  | succ f ih =>
    intro q hq
    refine e_iload_n 1 dX5_firstFault_2 rfl rfl ?_
    refine e_aload_n 0 dX5_firstFault_3 rfl rfl ?_
    refine e_getfield 2 dX5_firstFault_4 kf_X5_19_5 (mkW_T.trans hT) rfl ?_
    refine e_icmp_ge (tgt := 40) dX5_firstFault_7 rfl (fun h7 => absurd h7 (by rw [nI_leI (by omega) (by omega)]; omega)) (fun _ => ?_)
    refine e_aload_n 0 dX5_firstFault_10 rfl rfl ?_
    refine e_iload_n 1 dX5_firstFault_11 rfl rfl ?_
    refine f_callVi (As := [_]) ok_X5_goesOn ⟨Nat.le_of_ble_eq_true rfl, Nat.le_of_ble_eq_true rfl⟩ dX5_firstFault_12 kl_X5_22 ki_X5_goesOn kv_X5_goesOn rfl rfl (mkW_T.trans hT) rfl (Nat.le_of_ble_eq_true rfl) (Nat.le_of_ble_eq_true rfl) (Nat.zero_add _) (Nat.zero_add _) (sp_X5_goesOn hT hj ham hC (by omega)) ?_
    refine e_if_ne (tgt := 34) dX5_firstFault_15 rfl (fun h15 => ?_) (fun h15 => ?_)
    · refine e_iinc (v := _ + 1) (lv' := [_, _]) dX5_firstFault_34 rfl (Nat.le_of_ble_eq_true rfl) rfl rfl rfl ?_
      refine e_goto (tgt := 2) dX5_firstFault_37 rfl ?_
      rw [nI_1]
      have := ih (q + 1) (by omega)
      rw [ffN, if_pos (bi_1.mp h15)]
      exact this
    · refine e_aload_n 0 dX5_firstFault_18 rfl rfl ?_
      refine e_iload_n 1 dX5_firstFault_19 rfl rfl ?_
      refine f_callVi (As := [_]) ok_X5_isNought ⟨Nat.le_of_ble_eq_true rfl, Nat.le_of_ble_eq_true rfl⟩ dX5_firstFault_20 kl_X5_26 ki_X5_isNought kv_X5_isNought rfl rfl (mkW_T.trans hT) rfl (Nat.le_of_ble_eq_true rfl) (Nat.le_of_ble_eq_true rfl) (Nat.zero_add _) (Nat.zero_add _) (sp_X5_isNought hT hj ham hC (by omega)) ?_
      refine e_if_eq (tgt := 32) dX5_firstFault_23 rfl (fun h23 => ?_) (fun h23 => ?_)
      · refine e_iload_n 1 dX5_firstFault_32 rfl rfl ?_
        refine e_iret dX5_firstFault_33 rfl ?_
        refine is_i ?_ rfl
        rw [ffN, if_neg (bi_0.mp h15)]
        first
        | (have hn := bi_1.mp h23
           have hq3 : 2 < q := (of_decide_eq_true hn).1
           rw [if_pos hn]
           exact sub1 (by omega))
        | (rw [if_neg (bi_0.mp h23)]; rfl)
      · refine e_iload_n 1 dX5_firstFault_26 rfl rfl ?_
        refine e_iconst (v := 1) dX5_firstFault_27 rfl ?_
        refine e_isub dX5_firstFault_28 ?_
        refine e_goto (tgt := 33) dX5_firstFault_29 rfl ?_
        refine e_iret dX5_firstFault_33 rfl ?_
        refine is_i ?_ rfl
        rw [ffN, if_neg (bi_0.mp h15)]
        first
        | (have hn := bi_1.mp h23
           have hq3 : 2 < q := (of_decide_eq_true hn).1
           rw [if_pos hn]
           exact sub1 (by omega))
        | (rw [if_neg (bi_0.mp h23)]; rfl)

set_option maxRecDepth 4000 in
theorem sp_X5_firstFault {G : sh_G} {S : Nat → Int32} {A : Nat → Nat → Int32} {Lg : Nat → Int64} {P : Nat → Option Nat} {T : List sh_C} {t j a m : Nat} {C : Nat → Int32} (hT : T[t]? = some (.inl (5, [.ref (17 + 2 * j), .int (nI a), .int (nI m)]))) (hj : j < 4) (ham : a + m ≤ 60) (hC : ∀ i, i < m → A (7 + j) (a + i) = C i) : Ev G mX5_firstFault 0 0 (mkW G S A Lg P T) 0 [some (.ref (t + 47)), none] [] (sh_is (some (.int (oI (ffN C m m 0)))) (mkW G S A Lg P T)) := by
  refine e_iconst (v := 0) dX5_firstFault_0 rfl ?_
  refine e_istore_n (lv' := [_, _]) 1 dX5_firstFault_1 rfl (Nat.le_of_ble_eq_true rfl) rfl rfl ?_
  exact lp_X5_firstFault hT hj ham hC m 0 (by omega)
