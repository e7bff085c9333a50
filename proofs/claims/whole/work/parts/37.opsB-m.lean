set_option maxRecDepth 4000 in
theorem sp_X10_noRoom {G : sh_G} {S : Nat → Int32} {A : Nat → Nat → Int32} {Lg : Nat → Int64} {P : Nat → Option Nat} {T : List sh_C} {b : sh_be} {x : Int32} (hR : RM S A b) (hI : IV b) : Ev G mX10_noRoom 0 0 (mkW G S A Lg P T) 0 [some (.ref 24), some (.int x)] [] (sh_is (some (.int (bi (¬ (¬ x < 0 ∧ ¬ nI (bn b 0) ≤ x))))) (mkW G S A Lg P T)) := by
  refine e_iload_n 1 dX10_noRoom_0 rfl rfl ?_
  refine e_i2l dX10_noRoom_1 ?_
  refine e_lconst (v := 0) dX10_noRoom_2 rfl ?_
  refine e_aload_n 0 dX10_noRoom_3 rfl rfl ?_
  refine e_getfield 1 dX10_noRoom_4 kf_X10_108_10 rfl rfl ?_
  refine e_i2l dX10_noRoom_7 ?_
  refine e_lconst (v := 1) dX10_noRoom_8 rfl ?_
  refine e_lsub dX10_noRoom_9 ?_
  refine f_callSi (As := [_, _, _]) ok_X10_in ⟨Nat.le_of_ble_eq_true rfl, Nat.le_of_ble_eq_true rfl⟩ dX10_noRoom_10 kl_X10_97 ks_X10_in rfl rfl (Nat.le_of_ble_eq_true rfl) (Nat.le_of_ble_eq_true rfl) (Nat.zero_add _) (Nat.zero_add _) sp_X10_in ?_
  refine e_if_ne (tgt := 20) dX10_noRoom_13 rfl (fun h13 => ?_) (fun h13 => ?_)
  · refine e_iconst (v := 0) dX10_noRoom_20 rfl ?_
    refine e_zret dX10_noRoom_21 rfl rfl ?_
    exact is_i (by rw [hR.2.1, inL (by have := hI.1; omega)] at h13; first | exact (bi_t (bi_0.mp h13)).symm | exact (bi_f (nn_ (bi_1.mp h13))).symm) rfl
  · refine e_iconst (v := 1) dX10_noRoom_16 rfl ?_
    refine e_goto (tgt := 21) dX10_noRoom_17 rfl ?_
    refine e_zret dX10_noRoom_21 rfl rfl ?_
    exact is_i (by rw [hR.2.1, inL (by have := hI.1; omega)] at h13; first | exact (bi_t (bi_0.mp h13)).symm | exact (bi_f (nn_ (bi_1.mp h13))).symm) rfl

set_option maxRecDepth 4000 in
theorem sp_X10_noDoor {G : sh_G} {S : Nat → Int32} {A : Nat → Nat → Int32} {Lg : Nat → Int64} {P : Nat → Option Nat} {T : List sh_C} {b : sh_be} {x : Int32} (hR : RM S A b) (hI : IV b) : Ev G mX10_noDoor 0 0 (mkW G S A Lg P T) 0 [some (.ref 24), some (.int x)] [] (sh_is (some (.int (bi (¬ (¬ x < 0 ∧ ¬ nI (bn b 1) ≤ x))))) (mkW G S A Lg P T)) := by
  refine e_iload_n 1 dX10_noDoor_0 rfl rfl ?_
  refine e_i2l dX10_noDoor_1 ?_
  refine e_lconst (v := 0) dX10_noDoor_2 rfl ?_
  refine e_aload_n 0 dX10_noDoor_3 rfl rfl ?_
  refine e_getfield 2 dX10_noDoor_4 kf_X10_111_10 rfl rfl ?_
  refine e_i2l dX10_noDoor_7 ?_
  refine e_lconst (v := 1) dX10_noDoor_8 rfl ?_
  refine e_lsub dX10_noDoor_9 ?_
  refine f_callSi (As := [_, _, _]) ok_X10_in ⟨Nat.le_of_ble_eq_true rfl, Nat.le_of_ble_eq_true rfl⟩ dX10_noDoor_10 kl_X10_97 ks_X10_in rfl rfl (Nat.le_of_ble_eq_true rfl) (Nat.le_of_ble_eq_true rfl) (Nat.zero_add _) (Nat.zero_add _) sp_X10_in ?_
  refine e_if_ne (tgt := 20) dX10_noDoor_13 rfl (fun h13 => ?_) (fun h13 => ?_)
  · refine e_iconst (v := 0) dX10_noDoor_20 rfl ?_
    refine e_zret dX10_noDoor_21 rfl rfl ?_
    exact is_i (by rw [hR.2.2.1, inL (by have := hI.2.1; omega)] at h13; first | exact (bi_t (bi_0.mp h13)).symm | exact (bi_f (nn_ (bi_1.mp h13))).symm) rfl
  · refine e_iconst (v := 1) dX10_noDoor_16 rfl ?_
    refine e_goto (tgt := 21) dX10_noDoor_17 rfl ?_
    refine e_zret dX10_noDoor_21 rfl rfl ?_
    exact is_i (by rw [hR.2.2.1, inL (by have := hI.2.1; omega)] at h13; first | exact (bi_t (bi_0.mp h13)).symm | exact (bi_f (nn_ (bi_1.mp h13))).symm) rfl

set_option maxRecDepth 4000 in
theorem sp_X10_noPerson {G : sh_G} {S : Nat → Int32} {A : Nat → Nat → Int32} {Lg : Nat → Int64} {P : Nat → Option Nat} {T : List sh_C} {b : sh_be} {x : Int32} (hR : RM S A b) (hI : IV b) : Ev G mX10_noPerson 0 0 (mkW G S A Lg P T) 0 [some (.ref 24), some (.int x)] [] (sh_is (some (.int (bi (¬ (¬ x < 0 ∧ ¬ nI (bn b 2) ≤ x))))) (mkW G S A Lg P T)) := by
  refine e_iload_n 1 dX10_noPerson_0 rfl rfl ?_
  refine e_i2l dX10_noPerson_1 ?_
  refine e_lconst (v := 0) dX10_noPerson_2 rfl ?_
  refine e_aload_n 0 dX10_noPerson_3 rfl rfl ?_
  refine e_getfield 12 dX10_noPerson_4 kf_X10_145_10 rfl rfl ?_
  refine e_i2l dX10_noPerson_7 ?_
  refine e_lconst (v := 1) dX10_noPerson_8 rfl ?_
  refine e_lsub dX10_noPerson_9 ?_
  refine f_callSi (As := [_, _, _]) ok_X10_in ⟨Nat.le_of_ble_eq_true rfl, Nat.le_of_ble_eq_true rfl⟩ dX10_noPerson_10 kl_X10_97 ks_X10_in rfl rfl (Nat.le_of_ble_eq_true rfl) (Nat.le_of_ble_eq_true rfl) (Nat.zero_add _) (Nat.zero_add _) sp_X10_in ?_
  refine e_if_ne (tgt := 20) dX10_noPerson_13 rfl (fun h13 => ?_) (fun h13 => ?_)
  · refine e_iconst (v := 0) dX10_noPerson_20 rfl ?_
    refine e_zret dX10_noPerson_21 rfl rfl ?_
    exact is_i (by rw [hR.2.2.2.1, inL (by have := hI.2.2.1; omega)] at h13; first | exact (bi_t (bi_0.mp h13)).symm | exact (bi_f (nn_ (bi_1.mp h13))).symm) rfl
  · refine e_iconst (v := 1) dX10_noPerson_16 rfl ?_
    refine e_goto (tgt := 21) dX10_noPerson_17 rfl ?_
    refine e_zret dX10_noPerson_21 rfl rfl ?_
    exact is_i (by rw [hR.2.2.2.1, inL (by have := hI.2.2.1; omega)] at h13; first | exact (bi_t (bi_0.mp h13)).symm | exact (bi_f (nn_ (bi_1.mp h13))).symm) rfl

set_option maxRecDepth 4000 in
theorem sp_X10_noStone {G : sh_G} {S : Nat → Int32} {A : Nat → Nat → Int32} {Lg : Nat → Int64} {P : Nat → Option Nat} {T : List sh_C} {b : sh_be} {x : Int32} (hR : RM S A b) (hI : IV b) : Ev G mX10_noStone 0 0 (mkW G S A Lg P T) 0 [some (.ref 24), some (.int x)] [] (sh_is (some (.int (bi (¬ (¬ x < 0 ∧ ¬ nI (bn b 3) ≤ x))))) (mkW G S A Lg P T)) := by
  refine e_iload_n 1 dX10_noStone_0 rfl rfl ?_
  refine e_i2l dX10_noStone_1 ?_
  refine e_lconst (v := 0) dX10_noStone_2 rfl ?_
  refine e_aload_n 0 dX10_noStone_3 rfl rfl ?_
  refine e_getfield 15 dX10_noStone_4 kf_X10_148_10 rfl rfl ?_
  refine e_i2l dX10_noStone_7 ?_
  refine e_lconst (v := 1) dX10_noStone_8 rfl ?_
  refine e_lsub dX10_noStone_9 ?_
  refine f_callSi (As := [_, _, _]) ok_X10_in ⟨Nat.le_of_ble_eq_true rfl, Nat.le_of_ble_eq_true rfl⟩ dX10_noStone_10 kl_X10_97 ks_X10_in rfl rfl (Nat.le_of_ble_eq_true rfl) (Nat.le_of_ble_eq_true rfl) (Nat.zero_add _) (Nat.zero_add _) sp_X10_in ?_
  refine e_if_ne (tgt := 20) dX10_noStone_13 rfl (fun h13 => ?_) (fun h13 => ?_)
  · refine e_iconst (v := 0) dX10_noStone_20 rfl ?_
    refine e_zret dX10_noStone_21 rfl rfl ?_
    exact is_i (by rw [hR.2.2.2.2.1, inL (by have := hI.2.2.2.1; omega)] at h13; first | exact (bi_t (bi_0.mp h13)).symm | exact (bi_f (nn_ (bi_1.mp h13))).symm) rfl
  · refine e_iconst (v := 1) dX10_noStone_16 rfl ?_
    refine e_goto (tgt := 21) dX10_noStone_17 rfl ?_
    refine e_zret dX10_noStone_21 rfl rfl ?_
    exact is_i (by rw [hR.2.2.2.2.1, inL (by have := hI.2.2.2.1; omega)] at h13; first | exact (bi_t (bi_0.mp h13)).symm | exact (bi_f (nn_ (bi_1.mp h13))).symm) rfl

set_option maxRecDepth 4000 in
theorem sp_X10_slackOf {G : sh_G} {S : Nat → Int32} {A : Nat → Nat → Int32} {Lg : Nat → Int64} {P : Nat → Option Nat} {T : List sh_C} {b : sh_be} {d : Nat} (hR : RM S A b) (hI : IV b) (hd : d < bn b 1) : Ev G mX10_slackOf 0 0 (mkW G S A Lg P T) 0 [some (.ref 24), some (.int (nI d))] [] (sh_is (some (.int (nI (dSl (ba b 0 d))))) (mkW G S A Lg P T)) := by
  obtain ⟨g0, g1, g2, g3, d8, k1, k2, k3, k4, k5, k6, k7⟩ := hR.dr hI hd
  refine e_aload_n 0 dX10_slackOf_0 rfl rfl ?_
  refine e_getfield 3 dX10_slackOf_1 kf_X10_7_10 rfl rfl ?_
  refine e_iload_n 1 dX10_slackOf_4 rfl rfl ?_
  refine e_iald_n (d) dX10_slackOf_5 rfl rfl (by omega) (by decide) ?_
  refine e_iconst (v := 2) dX10_slackOf_6 rfl ?_
  refine e_icmp_ne (tgt := 14) dX10_slackOf_7 rfl (fun h7 => ?_) (fun h7 => ?_)
  · refine e_iconst (v := 2) dX10_slackOf_14 rfl ?_
    refine e_iret dX10_slackOf_15 rfl ?_
    refine is_i ?_ rfl
    first
    | (rw [g0] at h7; rw [dSl, if_pos ((nI_eq (b := 2) (by omega) (by omega)).mp h7)]; rfl)
    | (rw [g0] at h7; rw [dSl, if_neg (fun e => h7 ((nI_eq (b := 2) (by omega) (by omega)).mpr e))]; rfl)
  · refine e_iconst (v := 5) dX10_slackOf_10 rfl ?_
    refine e_goto (tgt := 15) dX10_slackOf_11 rfl ?_
    refine e_iret dX10_slackOf_15 rfl ?_
    refine is_i ?_ rfl
    first
    | (rw [g0] at h7; rw [dSl, if_pos ((nI_eq (b := 2) (by omega) (by omega)).mp h7)]; rfl)
    | (rw [g0] at h7; rw [dSl, if_neg (fun e => h7 ((nI_eq (b := 2) (by omega) (by omega)).mpr e))]; rfl)

set_option maxRecDepth 4000 in
theorem sp_X10_asks {G : sh_G} {S : Nat → Int32} {A : Nat → Nat → Int32} {Lg : Nat → Int64} {P : Nat → Option Nat} {T : List sh_C} {b : sh_be} {d s : Nat} (hR : RM S A b) (hI : IV b) (hd : d < bn b 1) (hs : s < 2) : Ev G mX10_asks 0 0 (mkW G S A Lg P T) 0 [some (.ref 24), some (.int (nI d)), some (.int (nI s))] [] (sh_is (some (.int (nI (dAsk (ba b 0 d) (ba b 3 d) s)))) (mkW G S A Lg P T)) := by
  obtain ⟨g0, g1, g2, g3, d8, k1, k2, k3, k4, k5, k6, k7⟩ := hR.dr hI hd
  refine e_iload_n 2 dX10_asks_0 rfl rfl ?_
  refine e_iconst (v := 1) dX10_asks_1 rfl ?_
  refine e_icmp_ne (tgt := 26) dX10_asks_2 rfl (fun h2 => ?_) (fun h2 => ?_)
  · refine e_aload_n 0 dX10_asks_26 rfl rfl ?_
    refine e_getfield 5 dX10_asks_27 kf_X10_16_10 rfl rfl ?_
    refine e_iload_n 1 dX10_asks_30 rfl rfl ?_
    refine e_iald_n (d) dX10_asks_31 rfl rfl (by omega) (by decide) ?_
    refine e_iret dX10_asks_32 rfl ?_
    refine is_i ?_ rfl
    rw [g3]
    first
    | (have e : s = 1 := (nI_eq (b := 1) (by omega) (by omega)).mp h2
       have e2 : 0 < ba b 0 d := by
         rw [g0] at h11
         rcases Nat.eq_zero_or_pos (ba b 0 d) with q | q
         · rw [q] at h11; exact absurd (by decide) h11
         · exact q
       rw [dAsk, if_pos ⟨e, e2⟩, show (10 : Int32) = nI 10 from rfl, nI_add])
    | (have e2 : ¬ 0 < ba b 0 d := by
         rw [g0] at h11
         intro q
         rw [show (0 : Int32) = nI 0 from rfl, nI_leI (by omega) (by omega)] at h11
         omega
       rw [dAsk, if_neg (fun h => e2 h.2)])
    | (have e : ¬ s = 1 := fun e => h2 (by rw [e]; rfl)
       rw [dAsk, if_neg (fun h => e h.1)])
  · refine e_aload_n 0 dX10_asks_5 rfl rfl ?_
    refine e_getfield 3 dX10_asks_6 kf_X10_7_10 rfl rfl ?_
    refine e_iload_n 1 dX10_asks_9 rfl rfl ?_
    refine e_iald_n (d) dX10_asks_10 rfl rfl (by omega) (by decide) ?_
    refine e_if_le (tgt := 26) dX10_asks_11 rfl (fun h11 => ?_) (fun h11 => ?_)
    · refine e_aload_n 0 dX10_asks_26 rfl rfl ?_
      refine e_getfield 5 dX10_asks_27 kf_X10_16_10 rfl rfl ?_
      refine e_iload_n 1 dX10_asks_30 rfl rfl ?_
      refine e_iald_n (d) dX10_asks_31 rfl rfl (by omega) (by decide) ?_
      refine e_iret dX10_asks_32 rfl ?_
      refine is_i ?_ rfl
      rw [g3]
      first
      | (have e : s = 1 := (nI_eq (b := 1) (by omega) (by omega)).mp h2
         have e2 : 0 < ba b 0 d := by
           rw [g0] at h11
           rcases Nat.eq_zero_or_pos (ba b 0 d) with q | q
           · rw [q] at h11; exact absurd (by decide) h11
           · exact q
         rw [dAsk, if_pos ⟨e, e2⟩, show (10 : Int32) = nI 10 from rfl, nI_add])
      | (have e2 : ¬ 0 < ba b 0 d := by
           rw [g0] at h11
           intro q
           rw [show (0 : Int32) = nI 0 from rfl, nI_leI (by omega) (by omega)] at h11
           omega
         rw [dAsk, if_neg (fun h => e2 h.2)])
      | (have e : ¬ s = 1 := fun e => h2 (by rw [e]; rfl)
         rw [dAsk, if_neg (fun h => e h.1)])
    · refine e_aload_n 0 dX10_asks_14 rfl rfl ?_
      refine e_getfield 5 dX10_asks_15 kf_X10_16_10 rfl rfl ?_
      refine e_iload_n 1 dX10_asks_18 rfl rfl ?_
      refine e_iald_n (d) dX10_asks_19 rfl rfl (by omega) (by decide) ?_
      refine e_bipush (v := 10) dX10_asks_20 (by decide) ?_
      refine e_iadd dX10_asks_22 ?_
      refine e_goto (tgt := 32) dX10_asks_23 rfl ?_
      refine e_iret dX10_asks_32 rfl ?_
      refine is_i ?_ rfl
      rw [g3]
      first
      | (have e : s = 1 := (nI_eq (b := 1) (by omega) (by omega)).mp h2
         have e2 : 0 < ba b 0 d := by
           rw [g0] at h11
           rcases Nat.eq_zero_or_pos (ba b 0 d) with q | q
           · rw [q] at h11; exact absurd (by decide) h11
           · exact q
         rw [dAsk, if_pos ⟨e, e2⟩, show (10 : Int32) = nI 10 from rfl, nI_add])
      | (have e2 : ¬ 0 < ba b 0 d := by
           rw [g0] at h11
           intro q
           rw [show (0 : Int32) = nI 0 from rfl, nI_leI (by omega) (by omega)] at h11
           omega
         rw [dAsk, if_neg (fun h => e2 h.2)])
      | (have e : ¬ s = 1 := fun e => h2 (by rw [e]; rfl)
         rw [dAsk, if_neg (fun h => e h.1)])

set_option maxRecDepth 4000 in
theorem sp_X10_isOpen {G : sh_G} {S : Nat → Int32} {A : Nat → Nat → Int32} {Lg : Nat → Int64} {P : Nat → Option Nat} {T : List sh_C} {b : sh_be} {d s x : Nat} (hR : RM S A b) (hI : IV b) (hd : d < bn b 1) (hs : s < 2) (hx : x < 2 ^ 30) : Ev G mX10_isOpen 0 0 (mkW G S A Lg P T) 0 [some (.ref 24), some (.int (nI d)), some (.int (nI s)), some (.int (nI x))] [] (sh_is (some (.int (bi (dOp (ba b 0 d) (ba b 3 d) s x)))) (mkW G S A Lg P T)) := by
  obtain ⟨g0, g1, g2, g3, d8, k1, k2, k3, k4, k5, k6, k7⟩ := hR.dr hI hd
  refine e_iload_n 3 dX10_isOpen_0 rfl rfl ?_
  refine e_i2l dX10_isOpen_1 ?_
  refine e_aload_n 0 dX10_isOpen_2 rfl rfl ?_
  refine e_iload_n 1 dX10_isOpen_3 rfl rfl ?_
  refine e_iload_n 2 dX10_isOpen_4 rfl rfl ?_
  refine f_callVi (As := [_, _]) ok_X10_asks ⟨Nat.le_of_ble_eq_true rfl, Nat.le_of_ble_eq_true rfl⟩ dX10_isOpen_5 kl_X10_151 ki_X10_asks kv_X10_asks rfl rfl rfl rfl (Nat.le_of_ble_eq_true rfl) (Nat.le_of_ble_eq_true rfl) (Nat.zero_add _) (Nat.zero_add _) (sp_X10_asks hR hI hd hs) ?_
  refine e_aload_n 0 dX10_isOpen_8 rfl rfl ?_
  refine e_iload_n 1 dX10_isOpen_9 rfl rfl ?_
  refine f_callVi (As := [_]) ok_X10_slackOf ⟨Nat.le_of_ble_eq_true rfl, Nat.le_of_ble_eq_true rfl⟩ dX10_isOpen_10 kl_X10_154 ki_X10_slackOf kv_X10_slackOf rfl rfl rfl rfl (Nat.le_of_ble_eq_true rfl) (Nat.le_of_ble_eq_true rfl) (Nat.zero_add _) (Nat.zero_add _) (sp_X10_slackOf hR hI hd) ?_
  refine e_isub dX10_isOpen_13 ?_
  refine e_i2l dX10_isOpen_14 ?_
  refine e_aload_n 0 dX10_isOpen_15 rfl rfl ?_
  refine e_iload_n 1 dX10_isOpen_16 rfl rfl ?_
  refine e_iload_n 2 dX10_isOpen_17 rfl rfl ?_
  refine f_callVi (As := [_, _]) ok_X10_asks ⟨Nat.le_of_ble_eq_true rfl, Nat.le_of_ble_eq_true rfl⟩ dX10_isOpen_18 kl_X10_151 ki_X10_asks kv_X10_asks rfl rfl rfl rfl (Nat.le_of_ble_eq_true rfl) (Nat.le_of_ble_eq_true rfl) (Nat.zero_add _) (Nat.zero_add _) (sp_X10_asks hR hI hd hs) ?_
  refine e_aload_n 0 dX10_isOpen_21 rfl rfl ?_
  refine e_iload_n 1 dX10_isOpen_22 rfl rfl ?_
  refine f_callVi (As := [_]) ok_X10_slackOf ⟨Nat.le_of_ble_eq_true rfl, Nat.le_of_ble_eq_true rfl⟩ dX10_isOpen_23 kl_X10_154 ki_X10_slackOf kv_X10_slackOf rfl rfl rfl rfl (Nat.le_of_ble_eq_true rfl) (Nat.le_of_ble_eq_true rfl) (Nat.zero_add _) (Nat.zero_add _) (sp_X10_slackOf hR hI hd) ?_
  refine e_iadd dX10_isOpen_26 ?_
  refine e_i2l dX10_isOpen_27 ?_
  refine f_callSi (As := [_, _, _]) ok_X10_in ⟨Nat.le_of_ble_eq_true rfl, Nat.le_of_ble_eq_true rfl⟩ dX10_isOpen_28 kl_X10_97 ks_X10_in rfl rfl (Nat.le_of_ble_eq_true rfl) (Nat.le_of_ble_eq_true rfl) (Nat.zero_add _) (Nat.zero_add _) sp_X10_in ?_
  exact e_zret dX10_isOpen_31 rfl bi_n (is_i (opL (by have := dAsk_le (k := ba b 0 d) (s := s) k6; omega) (by have := dSl_le (k := ba b 0 d); omega) hx) rfl)

set_option maxRecDepth 4000 in
theorem sp_X10_sideIn {G : sh_G} {S : Nat → Int32} {A : Nat → Nat → Int32} {Lg : Nat → Int64} {P : Nat → Option Nat} {T : List sh_C} {b : sh_be} {d r : Nat} (hR : RM S A b) (hI : IV b) (hd : d < bn b 1) (hr : r < 2 ^ 31) : Ev G mX10_sideIn 0 0 (mkW G S A Lg P T) 0 [some (.ref 24), some (.int (nI d)), some (.int (nI r))] [] (sh_is (some (.int (sdN b d r))) (mkW G S A Lg P T)) := by
  obtain ⟨g0, g1, g2, g3, d8, k1, k2, k3, k4, k5, k6, k7⟩ := hR.dr hI hd
  refine e_aload_n 0 dX10_sideIn_0 rfl rfl ?_
  refine e_getfield 4 dX10_sideIn_1 kf_X10_13_10 rfl rfl ?_
  refine e_iconst (v := 2) dX10_sideIn_4 rfl ?_
  refine e_iload_n 1 dX10_sideIn_5 rfl rfl ?_
  refine e_imul dX10_sideIn_6 ?_
  refine e_iald_n (2 * d) dX10_sideIn_7 rfl (mul2 d) (by omega) (by decide) ?_
  refine e_iload_n 2 dX10_sideIn_8 rfl rfl ?_
  skip
  refine e_icmp_ne (tgt := 16) dX10_sideIn_9 rfl (fun h9 => ?_) (fun h9 => ?_)
  · refine e_aload_n 0 dX10_sideIn_16 rfl rfl ?_
    refine e_getfield 4 dX10_sideIn_17 kf_X10_13_10 rfl rfl ?_
    refine e_iconst (v := 2) dX10_sideIn_20 rfl ?_
    refine e_iload_n 1 dX10_sideIn_21 rfl rfl ?_
    refine e_imul dX10_sideIn_22 ?_
    refine e_iconst (v := 1) dX10_sideIn_23 rfl ?_
    refine e_iadd dX10_sideIn_24 ?_
    refine e_iald_n (2 * d + 1) dX10_sideIn_25 rfl (mul2b d) (by omega) (by decide) ?_
    refine e_iload_n 2 dX10_sideIn_26 rfl rfl ?_
    refine e_icmp_ne (tgt := 34) dX10_sideIn_27 rfl (fun h27 => ?_) (fun h27 => ?_)
    · refine e_bipush (v := -9) dX10_sideIn_34 (by decide) ?_
      refine e_iret dX10_sideIn_36 rfl ?_
      refine is_i ?_ rfl
      rw [sdN]
      first
      | (rw [g1] at h9; rw [if_pos ((nI_eq (by omega) (by omega)).mp h9)]; done)
      | (rw [g1] at h9; rw [g2] at h27; rw [if_neg (fun e => h9 ((nI_eq (by omega) (by omega)).mpr e)), if_pos ((nI_eq (by omega) (by omega)).mp h27)]; done)
      | (rw [g1] at h9; rw [g2] at h27; rw [if_neg (fun e => h9 ((nI_eq (by omega) (by omega)).mpr e)), if_neg (fun e => h27 ((nI_eq (by omega) (by omega)).mpr e))]; done)
    · refine e_iconst (v := 1) dX10_sideIn_30 rfl ?_
      refine e_goto (tgt := 36) dX10_sideIn_31 rfl ?_
      refine e_iret dX10_sideIn_36 rfl ?_
      refine is_i ?_ rfl
      rw [sdN]
      first
      | (rw [g1] at h9; rw [if_pos ((nI_eq (by omega) (by omega)).mp h9)]; done)
      | (rw [g1] at h9; rw [g2] at h27; rw [if_neg (fun e => h9 ((nI_eq (by omega) (by omega)).mpr e)), if_pos ((nI_eq (by omega) (by omega)).mp h27)]; done)
      | (rw [g1] at h9; rw [g2] at h27; rw [if_neg (fun e => h9 ((nI_eq (by omega) (by omega)).mpr e)), if_neg (fun e => h27 ((nI_eq (by omega) (by omega)).mpr e))]; done)
  · refine e_iconst (v := 0) dX10_sideIn_12 rfl ?_
    refine e_goto (tgt := 36) dX10_sideIn_13 rfl ?_
    refine e_iret dX10_sideIn_36 rfl ?_
    refine is_i ?_ rfl
    rw [sdN]
    first
    | (rw [g1] at h9; rw [if_pos ((nI_eq (by omega) (by omega)).mp h9)]; done)
    | (rw [g1] at h9; rw [g2] at h27; rw [if_neg (fun e => h9 ((nI_eq (by omega) (by omega)).mpr e)), if_pos ((nI_eq (by omega) (by omega)).mp h27)]; done)
    | (rw [g1] at h9; rw [g2] at h27; rw [if_neg (fun e => h9 ((nI_eq (by omega) (by omega)).mpr e)), if_neg (fun e => h27 ((nI_eq (by omega) (by omega)).mpr e))]; done)

set_option maxRecDepth 4000 in
theorem sp_X10_throughTo {G : sh_G} {S : Nat → Int32} {A : Nat → Nat → Int32} {Lg : Nat → Int64} {P : Nat → Option Nat} {T : List sh_C} {b : sh_be} {d r x : Nat} (hR : RM S A b) (hI : IV b) (hd : d < bn b 1) (hr : r < 2 ^ 31) (hx : x < 2 ^ 30) : Ev G mX10_throughTo 0 0 (mkW G S A Lg P T) 0 [some (.ref 24), some (.int (nI d)), some (.int (nI r)), some (.int (nI x)), none] [] (sh_is (some (.int (oJ (bBe b d r x)))) (mkW G S A Lg P T)) := by
  obtain ⟨g0, g1, g2, g3, d8, k1, k2, k3, k4, k5, k6, k7⟩ := hR.dr hI hd
  by_cases c1 : ba b 1 d = r
  · refine e_aload_n 0 dX10_throughTo_0 rfl rfl ?_
    refine e_iload_n 1 dX10_throughTo_1 rfl rfl ?_
    refine e_iload_n 2 dX10_throughTo_2 rfl rfl ?_
    refine f_callVi (As := [_, _]) ok_X10_sideIn ⟨Nat.le_of_ble_eq_true rfl, Nat.le_of_ble_eq_true rfl⟩ dX10_throughTo_3 kl_X10_157 ki_X10_sideIn kv_X10_sideIn rfl rfl rfl rfl (Nat.le_of_ble_eq_true rfl) (Nat.le_of_ble_eq_true rfl) (Nat.zero_add _) (Nat.zero_add _) (sp_X10_sideIn hR hI hd (by omega)) ?_
    rw [show sdN b d r = nI 0 from if_pos c1]
    refine e_istore (lv' := [_, _, _, _, _]) dX10_throughTo_6 (Nat.le_of_ble_eq_true rfl) rfl rfl ?_
    refine e_iload dX10_throughTo_8 rfl ?_
    refine e_if_lt (tgt := 40) dX10_throughTo_10 rfl (fun h10 => absurd h10 (by decide)) (fun _ => ?_)
    refine e_aload_n 0 dX10_throughTo_13 rfl rfl ?_
    refine e_iload_n 1 dX10_throughTo_14 rfl rfl ?_
    refine e_iload dX10_throughTo_15 rfl ?_
    refine e_iload_n 3 dX10_throughTo_17 rfl rfl ?_
    refine f_callVi (As := [_, _, _]) ok_X10_isOpen ⟨Nat.le_of_ble_eq_true rfl, Nat.le_of_ble_eq_true rfl⟩ dX10_throughTo_18 kl_X10_160 ki_X10_isOpen kv_X10_isOpen rfl rfl rfl rfl (Nat.le_of_ble_eq_true rfl) (Nat.le_of_ble_eq_true rfl) (Nat.zero_add _) (Nat.zero_add _) (sp_X10_isOpen hR hI hd (by omega) hx) ?_
    refine e_if_eq (tgt := 40) dX10_throughTo_21 rfl (fun h21 => ?_) (fun h21 => ?_)
    · refine e_bipush (v := -9) dX10_throughTo_40 (by decide) ?_
      refine e_iret dX10_throughTo_42 rfl ?_
      refine is_i ?_ rfl
      first
      | (rw [g2, oJ_s (show bBe b d r x = some (ba b 2 d) by rw [bBe, dBe, if_pos c1.symm, if_pos (bi_1.mp h21)])]; done)
      | (rw [oJ_n (show bBe b d r x = none by rw [bBe, dBe, if_pos c1.symm, if_neg (bi_0.mp h21)])]; done)
    · refine e_aload_n 0 dX10_throughTo_24 rfl rfl ?_
      refine e_getfield 4 dX10_throughTo_25 kf_X10_13_10 rfl rfl ?_
      refine e_iconst (v := 2) dX10_throughTo_28 rfl ?_
      refine e_iload_n 1 dX10_throughTo_29 rfl rfl ?_
      refine e_imul dX10_throughTo_30 ?_
      refine e_iconst (v := 1) dX10_throughTo_31 rfl ?_
      refine e_iadd dX10_throughTo_32 ?_
      refine e_iload dX10_throughTo_33 rfl ?_
      refine e_isub dX10_throughTo_35 ?_
      refine e_iald_n (2 * d + 1) dX10_throughTo_36 rfl (by rw [mul2b]; exact pk_sub (by omega)) (by omega) (by decide) ?_
      refine e_goto (tgt := 42) dX10_throughTo_37 rfl ?_
      refine e_iret dX10_throughTo_42 rfl ?_
      refine is_i ?_ rfl
      first
      | (rw [g2, oJ_s (show bBe b d r x = some (ba b 2 d) by rw [bBe, dBe, if_pos c1.symm, if_pos (bi_1.mp h21)])]; done)
      | (rw [oJ_n (show bBe b d r x = none by rw [bBe, dBe, if_pos c1.symm, if_neg (bi_0.mp h21)])]; done)
  by_cases c2 : ba b 2 d = r
  · refine e_aload_n 0 dX10_throughTo_0 rfl rfl ?_
    refine e_iload_n 1 dX10_throughTo_1 rfl rfl ?_
    refine e_iload_n 2 dX10_throughTo_2 rfl rfl ?_
    refine f_callVi (As := [_, _]) ok_X10_sideIn ⟨Nat.le_of_ble_eq_true rfl, Nat.le_of_ble_eq_true rfl⟩ dX10_throughTo_3 kl_X10_157 ki_X10_sideIn kv_X10_sideIn rfl rfl rfl rfl (Nat.le_of_ble_eq_true rfl) (Nat.le_of_ble_eq_true rfl) (Nat.zero_add _) (Nat.zero_add _) (sp_X10_sideIn hR hI hd (by omega)) ?_
    rw [show sdN b d r = nI 1 by rw [sdN, if_neg c1, if_pos c2]; rfl]
    refine e_istore (lv' := [_, _, _, _, _]) dX10_throughTo_6 (Nat.le_of_ble_eq_true rfl) rfl rfl ?_
    refine e_iload dX10_throughTo_8 rfl ?_
    refine e_if_lt (tgt := 40) dX10_throughTo_10 rfl (fun h10 => absurd h10 (by decide)) (fun _ => ?_)
    refine e_aload_n 0 dX10_throughTo_13 rfl rfl ?_
    refine e_iload_n 1 dX10_throughTo_14 rfl rfl ?_
    refine e_iload dX10_throughTo_15 rfl ?_
    refine e_iload_n 3 dX10_throughTo_17 rfl rfl ?_
    refine f_callVi (As := [_, _, _]) ok_X10_isOpen ⟨Nat.le_of_ble_eq_true rfl, Nat.le_of_ble_eq_true rfl⟩ dX10_throughTo_18 kl_X10_160 ki_X10_isOpen kv_X10_isOpen rfl rfl rfl rfl (Nat.le_of_ble_eq_true rfl) (Nat.le_of_ble_eq_true rfl) (Nat.zero_add _) (Nat.zero_add _) (sp_X10_isOpen hR hI hd (by omega) hx) ?_
    refine e_if_eq (tgt := 40) dX10_throughTo_21 rfl (fun h21 => ?_) (fun h21 => ?_)
    · refine e_bipush (v := -9) dX10_throughTo_40 (by decide) ?_
      refine e_iret dX10_throughTo_42 rfl ?_
      refine is_i ?_ rfl
      first
      | (rw [g1, oJ_s (show bBe b d r x = some (ba b 1 d) by rw [bBe, dBe, if_neg (fun e => c1 e.symm), if_pos c2.symm, if_pos (bi_1.mp h21)])]; done)
      | (rw [oJ_n (show bBe b d r x = none by rw [bBe, dBe, if_neg (fun e => c1 e.symm), if_pos c2.symm, if_neg (bi_0.mp h21)])]; done)
    · refine e_aload_n 0 dX10_throughTo_24 rfl rfl ?_
      refine e_getfield 4 dX10_throughTo_25 kf_X10_13_10 rfl rfl ?_
      refine e_iconst (v := 2) dX10_throughTo_28 rfl ?_
      refine e_iload_n 1 dX10_throughTo_29 rfl rfl ?_
      refine e_imul dX10_throughTo_30 ?_
      refine e_iconst (v := 1) dX10_throughTo_31 rfl ?_
      refine e_iadd dX10_throughTo_32 ?_
      refine e_iload dX10_throughTo_33 rfl ?_
      refine e_isub dX10_throughTo_35 ?_
      refine e_iald_n (2 * d) dX10_throughTo_36 rfl (by rw [mul2b]; exact (pk_sub (by omega)).trans (congrArg nI (show 2 * d + 1 - 1 = 2 * d by omega))) (by omega) (by decide) ?_
      refine e_goto (tgt := 42) dX10_throughTo_37 rfl ?_
      refine e_iret dX10_throughTo_42 rfl ?_
      refine is_i ?_ rfl
      first
      | (rw [g1, oJ_s (show bBe b d r x = some (ba b 1 d) by rw [bBe, dBe, if_neg (fun e => c1 e.symm), if_pos c2.symm, if_pos (bi_1.mp h21)])]; done)
      | (rw [oJ_n (show bBe b d r x = none by rw [bBe, dBe, if_neg (fun e => c1 e.symm), if_pos c2.symm, if_neg (bi_0.mp h21)])]; done)
  refine e_aload_n 0 dX10_throughTo_0 rfl rfl ?_
  refine e_iload_n 1 dX10_throughTo_1 rfl rfl ?_
  refine e_iload_n 2 dX10_throughTo_2 rfl rfl ?_
  refine f_callVi (As := [_, _]) ok_X10_sideIn ⟨Nat.le_of_ble_eq_true rfl, Nat.le_of_ble_eq_true rfl⟩ dX10_throughTo_3 kl_X10_157 ki_X10_sideIn kv_X10_sideIn rfl rfl rfl rfl (Nat.le_of_ble_eq_true rfl) (Nat.le_of_ble_eq_true rfl) (Nat.zero_add _) (Nat.zero_add _) (sp_X10_sideIn hR hI hd (by omega)) ?_
  rw [show sdN b d r = -9 by rw [sdN, if_neg c1, if_neg c2]]
  refine e_istore (lv' := [_, _, _, _, _]) dX10_throughTo_6 (Nat.le_of_ble_eq_true rfl) rfl rfl ?_
  refine e_iload dX10_throughTo_8 rfl ?_
  refine e_if_lt (tgt := 40) dX10_throughTo_10 rfl (fun _ => ?_) (fun h10 => absurd (by decide) h10)
  refine e_bipush (v := -9) dX10_throughTo_40 (by decide) ?_
  refine e_iret dX10_throughTo_42 rfl ?_
  exact is_i (oJ_n (show bBe b d r x = none by rw [bBe, dBe, if_neg (fun e => c1 e.symm), if_neg (fun e => c2 e.symm)])).symm rfl

theorem sw8 {x : Int32} (c0 : ¬ x = 0) (c1 : ¬ x = 1) (c2 : ¬ x = 2) (c3 : ¬ x = 3) (c4 : ¬ x = 4) (c5 : ¬ x = 5) (c6 : ¬ x = 6) (c7 : ¬ x = 7) : x.toInt < 0 ∨ 7 < x.toInt := by
  rw [fa_eq] at c0 c1 c2 c3 c4 c5 c6 c7
  have e0 : (0 : Int32).toInt = 0 := by decide
  have e1 : (1 : Int32).toInt = 1 := by decide
  have e2 : (2 : Int32).toInt = 2 := by decide
  have e3 : (3 : Int32).toInt = 3 := by decide
  have e4 : (4 : Int32).toInt = 4 := by decide
  have e5 : (5 : Int32).toInt = 5 := by decide
  have e6 : (6 : Int32).toInt = 6 := by decide
  have e7 : (7 : Int32).toInt = 7 := by decide
  omega
theorem sw8b {x : Int32} (c0 : ¬ x = 0) (c1 : ¬ x = 1) (c2 : ¬ x = 2) (c3 : ¬ x = 3) (c4 : ¬ x = 4) (c5 : ¬ x = 5) (c6 : ¬ x = 6) (c7 : ¬ x = 7) : x < 0 ∨ 7 < x := by
  rw [fa_lt, fa_lt]
  exact sw8 c0 c1 c2 c3 c4 c5 c6 c7
set_option maxRecDepth 4000 in
theorem sp_X10_ofDoor {G : sh_G} {S : Nat → Int32} {A : Nat → Nat → Int32} {Lg : Nat → Int64} {P : Nat → Option Nat} {T : List sh_C} {b : sh_be} {d what : Int32} (hR : RM S A b) (hI : IV b) : Ev G mX10_ofDoor 0 0 (mkW G S A Lg P T) 0 [some (.ref 24), some (.int d), some (.int what), none] [] (sh_is (some (.int (oOfDoor b d what))) (mkW G S A Lg P T)) := by
  refine e_aload_n 0 dX10_ofDoor_0 rfl rfl ?_
  refine e_iload_n 1 dX10_ofDoor_1 rfl rfl ?_
  refine f_callVi (As := [_]) ok_X10_noDoor ⟨Nat.le_of_ble_eq_true rfl, Nat.le_of_ble_eq_true rfl⟩ dX10_ofDoor_2 kl_X10_164 ki_X10_noDoor kv_X10_noDoor rfl rfl rfl rfl (Nat.le_of_ble_eq_true rfl) (Nat.le_of_ble_eq_true rfl) (Nat.zero_add _) (Nat.zero_add _) (sp_X10_noDoor hR hI) ?_
  refine e_if_eq (tgt := 10) dX10_ofDoor_5 rfl (fun h5 => ?_) (fun h5 => ?_)
  · have h5 := Classical.not_not.mp (bi_0.mp h5)
    obtain ⟨q, hq, rfl⟩ := ix_of (x := d) rfl (by have := hI.2.1; omega) h5
    obtain ⟨g0, g1, g2, g3, d8, k1, k2, k3, k4, k5, k6, k7⟩ := hR.dr hI hq
    refine e_iconst (v := 0) dX10_ofDoor_10 rfl ?_
    refine e_istore_n (lv' := [_, _, _, _]) 3 dX10_ofDoor_11 rfl (Nat.le_of_ble_eq_true rfl) rfl rfl ?_
    refine e_iload_n 2 dX10_ofDoor_12 rfl rfl ?_
    by_cases c0 : what = 0
    · subst c0
      refine e_tableIn (off := 47) (tgt := 60) dX10_ofDoor_13 (by decide) (by decide) (by decide) rfl ?_
      refine e_aload_n 0 dX10_ofDoor_60 rfl rfl ?_
      refine e_getfield 3 dX10_ofDoor_61 kf_X10_7_10 rfl rfl ?_
      refine e_iload_n 1 dX10_ofDoor_64 rfl rfl ?_
      refine e_iald_n (q) dX10_ofDoor_65 rfl rfl (by omega) (by decide) ?_
      refine e_iret dX10_ofDoor_66 rfl ?_
      exact is_i (by rw [oOfDoor, if_neg (nn_ h5), if_neg (by decide), nI_clamp (by omega)]; exact g0) rfl
    by_cases c1 : what = 1
    · subst c1
      refine e_tableIn (off := 54) (tgt := 67) dX10_ofDoor_13 (by decide) (by decide) (by decide) rfl ?_
      refine e_aload_n 0 dX10_ofDoor_67 rfl rfl ?_
      refine e_getfield 4 dX10_ofDoor_68 kf_X10_13_10 rfl rfl ?_
      refine e_iconst (v := 2) dX10_ofDoor_71 rfl ?_
      refine e_iload_n 1 dX10_ofDoor_72 rfl rfl ?_
      refine e_imul dX10_ofDoor_73 ?_
      refine e_iload_n 2 dX10_ofDoor_74 rfl rfl ?_
      refine e_iadd dX10_ofDoor_75 ?_
      refine e_iconst (v := 1) dX10_ofDoor_76 rfl ?_
      refine e_isub dX10_ofDoor_77 ?_
      refine e_iald_n (2 * q) dX10_ofDoor_78 rfl (by rw [mul2, Int32.add_sub_cancel]) (by omega) (by decide) ?_
      refine e_iret dX10_ofDoor_79 rfl ?_
      exact is_i (by rw [oOfDoor, if_neg (nn_ h5), if_neg (by decide), nI_clamp (by omega)]; exact g1) rfl
    by_cases c2 : what = 2
    · subst c2
      refine e_tableIn (off := 54) (tgt := 67) dX10_ofDoor_13 (by decide) (by decide) (by decide) rfl ?_
      refine e_aload_n 0 dX10_ofDoor_67 rfl rfl ?_
      refine e_getfield 4 dX10_ofDoor_68 kf_X10_13_10 rfl rfl ?_
      refine e_iconst (v := 2) dX10_ofDoor_71 rfl ?_
      refine e_iload_n 1 dX10_ofDoor_72 rfl rfl ?_
      refine e_imul dX10_ofDoor_73 ?_
      refine e_iload_n 2 dX10_ofDoor_74 rfl rfl ?_
      refine e_iadd dX10_ofDoor_75 ?_
      refine e_iconst (v := 1) dX10_ofDoor_76 rfl ?_
      refine e_isub dX10_ofDoor_77 ?_
      refine e_iald_n (2 * q + 1) dX10_ofDoor_78 rfl (by rw [mul2, show nI (2 * q) + 2 - 1 = nI (2 * q + 1) by exact (congrArg (· - 1) (nI_add (2 * q) 2)).trans ((pk_sub (show 1 ≤ 2 * q + 2 by omega)).trans (congrArg nI (show 2 * q + 2 - 1 = 2 * q + 1 by omega)))]) (by omega) (by decide) ?_
      refine e_iret dX10_ofDoor_79 rfl ?_
      exact is_i (by rw [oOfDoor, if_neg (nn_ h5), if_neg (by decide), nI_clamp (by omega)]; exact g2) rfl
    by_cases c3 : what = 3
    · subst c3
      refine e_tableIn (off := 67) (tgt := 80) dX10_ofDoor_13 (by decide) (by decide) (by decide) rfl ?_
      refine e_aload_n 0 dX10_ofDoor_80 rfl rfl ?_
      refine e_getfield 5 dX10_ofDoor_81 kf_X10_16_10 rfl rfl ?_
      refine e_iload_n 1 dX10_ofDoor_84 rfl rfl ?_
      refine e_iald_n (q) dX10_ofDoor_85 rfl rfl (by omega) (by decide) ?_
      refine e_iret dX10_ofDoor_86 rfl ?_
      exact is_i (by rw [oOfDoor, if_neg (nn_ h5), if_neg (by decide), nI_clamp (by omega)]; exact g3) rfl
    by_cases c4 : what = 4
    · subst c4
      refine e_tableIn (off := 74) (tgt := 87) dX10_ofDoor_13 (by decide) (by decide) (by decide) rfl ?_
      refine e_aload_n 0 dX10_ofDoor_87 rfl rfl ?_
      refine e_iload_n 1 dX10_ofDoor_88 rfl rfl ?_
      refine e_iload_n 2 dX10_ofDoor_89 rfl rfl ?_
      refine e_iconst (v := 2) dX10_ofDoor_90 rfl ?_
      refine e_idiv dX10_ofDoor_91 (by decide) ?_
      refine e_iconst (v := 2) dX10_ofDoor_92 rfl ?_
      refine e_isub dX10_ofDoor_93 ?_
      have ha := dAsk_le (k := ba b 0 q) (wt := ba b 3 q) (s := 0) k6
      have hs := dSl_le (k := ba b 0 q)
      rw [show (4 : Int32) / 2 - 2 = nI 0 by decide]
      refine f_callVi (As := [_, _]) ok_X10_asks ⟨Nat.le_of_ble_eq_true rfl, Nat.le_of_ble_eq_true rfl⟩ dX10_ofDoor_94 kl_X10_151 ki_X10_asks kv_X10_asks rfl rfl rfl rfl (Nat.le_of_ble_eq_true rfl) (Nat.le_of_ble_eq_true rfl) (Nat.zero_add _) (Nat.zero_add _) (sp_X10_asks hR hI hq (by omega)) ?_
      refine e_aload_n 0 dX10_ofDoor_97 rfl rfl ?_
      refine e_iload_n 1 dX10_ofDoor_98 rfl rfl ?_
      refine f_callVi (As := [_]) ok_X10_slackOf ⟨Nat.le_of_ble_eq_true rfl, Nat.le_of_ble_eq_true rfl⟩ dX10_ofDoor_99 kl_X10_154 ki_X10_slackOf kv_X10_slackOf rfl rfl rfl rfl (Nat.le_of_ble_eq_true rfl) (Nat.le_of_ble_eq_true rfl) (Nat.zero_add _) (Nat.zero_add _) (sp_X10_slackOf hR hI hq) ?_
      refine e_isub dX10_ofDoor_102 ?_
      refine e_istore_n (lv' := [_, _, _, _]) 3 dX10_ofDoor_103 rfl (Nat.le_of_ble_eq_true rfl) rfl rfl ?_
      refine e_iload_n 3 dX10_ofDoor_104 rfl rfl ?_
      refine e_if_ge (tgt := 112) dX10_ofDoor_105 rfl (fun h105 => ?_) (fun h105 => ?_)
      · refine e_iload_n 3 dX10_ofDoor_112 rfl rfl ?_
        refine e_iret dX10_ofDoor_113 rfl ?_
        refine is_i ?_ rfl
        rw [oOfDoor, if_neg (nn_ h5), if_neg (by decide), nI_clamp (by omega)]
        first
        | exact subT (by omega) (by omega) h105
        | exact congrArg nI (subZ (by omega) (by omega) h105).symm
      · refine e_iconst (v := 0) dX10_ofDoor_108 rfl ?_
        refine e_goto (tgt := 113) dX10_ofDoor_109 rfl ?_
        refine e_iret dX10_ofDoor_113 rfl ?_
        refine is_i ?_ rfl
        rw [oOfDoor, if_neg (nn_ h5), if_neg (by decide), nI_clamp (by omega)]
        first
        | exact subT (by omega) (by omega) h105
        | exact congrArg nI (subZ (by omega) (by omega) h105).symm
    by_cases c5 : what = 5
    · subst c5
      refine e_tableIn (off := 101) (tgt := 114) dX10_ofDoor_13 (by decide) (by decide) (by decide) rfl ?_
      refine e_aload_n 0 dX10_ofDoor_114 rfl rfl ?_
      refine e_iload_n 1 dX10_ofDoor_115 rfl rfl ?_
      refine e_iload_n 2 dX10_ofDoor_116 rfl rfl ?_
      refine e_iconst (v := 2) dX10_ofDoor_117 rfl ?_
      refine e_idiv dX10_ofDoor_118 (by decide) ?_
      refine e_iconst (v := 2) dX10_ofDoor_119 rfl ?_
      refine e_isub dX10_ofDoor_120 ?_
      have ha := dAsk_le (k := ba b 0 q) (wt := ba b 3 q) (s := 0) k6
      have hs := dSl_le (k := ba b 0 q)
      rw [show (5 : Int32) / 2 - 2 = nI 0 by decide]
      refine f_callVi (As := [_, _]) ok_X10_asks ⟨Nat.le_of_ble_eq_true rfl, Nat.le_of_ble_eq_true rfl⟩ dX10_ofDoor_121 kl_X10_151 ki_X10_asks kv_X10_asks rfl rfl rfl rfl (Nat.le_of_ble_eq_true rfl) (Nat.le_of_ble_eq_true rfl) (Nat.zero_add _) (Nat.zero_add _) (sp_X10_asks hR hI hq (by omega)) ?_
      refine e_aload_n 0 dX10_ofDoor_124 rfl rfl ?_
      refine e_iload_n 1 dX10_ofDoor_125 rfl rfl ?_
      refine f_callVi (As := [_]) ok_X10_slackOf ⟨Nat.le_of_ble_eq_true rfl, Nat.le_of_ble_eq_true rfl⟩ dX10_ofDoor_126 kl_X10_154 ki_X10_slackOf kv_X10_slackOf rfl rfl rfl rfl (Nat.le_of_ble_eq_true rfl) (Nat.le_of_ble_eq_true rfl) (Nat.zero_add _) (Nat.zero_add _) (sp_X10_slackOf hR hI hq) ?_
      refine e_iadd dX10_ofDoor_129 ?_
      refine e_iret dX10_ofDoor_130 rfl ?_
      exact is_i (by rw [oOfDoor, if_neg (nn_ h5), if_neg (by decide), nI_clamp (by omega)]; rw [nI_add]; rfl) rfl
    by_cases c6 : what = 6
    · subst c6
      refine e_tableIn (off := 74) (tgt := 87) dX10_ofDoor_13 (by decide) (by decide) (by decide) rfl ?_
      refine e_aload_n 0 dX10_ofDoor_87 rfl rfl ?_
      refine e_iload_n 1 dX10_ofDoor_88 rfl rfl ?_
      refine e_iload_n 2 dX10_ofDoor_89 rfl rfl ?_
      refine e_iconst (v := 2) dX10_ofDoor_90 rfl ?_
      refine e_idiv dX10_ofDoor_91 (by decide) ?_
      refine e_iconst (v := 2) dX10_ofDoor_92 rfl ?_
      refine e_isub dX10_ofDoor_93 ?_
      have ha := dAsk_le (k := ba b 0 q) (wt := ba b 3 q) (s := 1) k6
      have hs := dSl_le (k := ba b 0 q)
      rw [show (6 : Int32) / 2 - 2 = nI 1 by decide]
      refine f_callVi (As := [_, _]) ok_X10_asks ⟨Nat.le_of_ble_eq_true rfl, Nat.le_of_ble_eq_true rfl⟩ dX10_ofDoor_94 kl_X10_151 ki_X10_asks kv_X10_asks rfl rfl rfl rfl (Nat.le_of_ble_eq_true rfl) (Nat.le_of_ble_eq_true rfl) (Nat.zero_add _) (Nat.zero_add _) (sp_X10_asks hR hI hq (by omega)) ?_
      refine e_aload_n 0 dX10_ofDoor_97 rfl rfl ?_
      refine e_iload_n 1 dX10_ofDoor_98 rfl rfl ?_
      refine f_callVi (As := [_]) ok_X10_slackOf ⟨Nat.le_of_ble_eq_true rfl, Nat.le_of_ble_eq_true rfl⟩ dX10_ofDoor_99 kl_X10_154 ki_X10_slackOf kv_X10_slackOf rfl rfl rfl rfl (Nat.le_of_ble_eq_true rfl) (Nat.le_of_ble_eq_true rfl) (Nat.zero_add _) (Nat.zero_add _) (sp_X10_slackOf hR hI hq) ?_
      refine e_isub dX10_ofDoor_102 ?_
      refine e_istore_n (lv' := [_, _, _, _]) 3 dX10_ofDoor_103 rfl (Nat.le_of_ble_eq_true rfl) rfl rfl ?_
      refine e_iload_n 3 dX10_ofDoor_104 rfl rfl ?_
      refine e_if_ge (tgt := 112) dX10_ofDoor_105 rfl (fun h105 => ?_) (fun h105 => ?_)
      · refine e_iload_n 3 dX10_ofDoor_112 rfl rfl ?_
        refine e_iret dX10_ofDoor_113 rfl ?_
        refine is_i ?_ rfl
        rw [oOfDoor, if_neg (nn_ h5), if_neg (by decide), nI_clamp (by omega)]
        first
        | exact subT (by omega) (by omega) h105
        | exact congrArg nI (subZ (by omega) (by omega) h105).symm
      · refine e_iconst (v := 0) dX10_ofDoor_108 rfl ?_
        refine e_goto (tgt := 113) dX10_ofDoor_109 rfl ?_
        refine e_iret dX10_ofDoor_113 rfl ?_
        refine is_i ?_ rfl
        rw [oOfDoor, if_neg (nn_ h5), if_neg (by decide), nI_clamp (by omega)]
        first
        | exact subT (by omega) (by omega) h105
        | exact congrArg nI (subZ (by omega) (by omega) h105).symm
    by_cases c7 : what = 7
    · subst c7
      refine e_tableIn (off := 101) (tgt := 114) dX10_ofDoor_13 (by decide) (by decide) (by decide) rfl ?_
      refine e_aload_n 0 dX10_ofDoor_114 rfl rfl ?_
      refine e_iload_n 1 dX10_ofDoor_115 rfl rfl ?_
      refine e_iload_n 2 dX10_ofDoor_116 rfl rfl ?_
      refine e_iconst (v := 2) dX10_ofDoor_117 rfl ?_
      refine e_idiv dX10_ofDoor_118 (by decide) ?_
      refine e_iconst (v := 2) dX10_ofDoor_119 rfl ?_
      refine e_isub dX10_ofDoor_120 ?_
      have ha := dAsk_le (k := ba b 0 q) (wt := ba b 3 q) (s := 1) k6
      have hs := dSl_le (k := ba b 0 q)
      rw [show (7 : Int32) / 2 - 2 = nI 1 by decide]
      refine f_callVi (As := [_, _]) ok_X10_asks ⟨Nat.le_of_ble_eq_true rfl, Nat.le_of_ble_eq_true rfl⟩ dX10_ofDoor_121 kl_X10_151 ki_X10_asks kv_X10_asks rfl rfl rfl rfl (Nat.le_of_ble_eq_true rfl) (Nat.le_of_ble_eq_true rfl) (Nat.zero_add _) (Nat.zero_add _) (sp_X10_asks hR hI hq (by omega)) ?_
      refine e_aload_n 0 dX10_ofDoor_124 rfl rfl ?_
      refine e_iload_n 1 dX10_ofDoor_125 rfl rfl ?_
      refine f_callVi (As := [_]) ok_X10_slackOf ⟨Nat.le_of_ble_eq_true rfl, Nat.le_of_ble_eq_true rfl⟩ dX10_ofDoor_126 kl_X10_154 ki_X10_slackOf kv_X10_slackOf rfl rfl rfl rfl (Nat.le_of_ble_eq_true rfl) (Nat.le_of_ble_eq_true rfl) (Nat.zero_add _) (Nat.zero_add _) (sp_X10_slackOf hR hI hq) ?_
      refine e_iadd dX10_ofDoor_129 ?_
      refine e_iret dX10_ofDoor_130 rfl ?_
      exact is_i (by rw [oOfDoor, if_neg (nn_ h5), if_neg (by decide), nI_clamp (by omega)]; rw [nI_add]; rfl) rfl
    refine e_tableOut (tgt := 131) dX10_ofDoor_13 (sw8 c0 c1 c2 c3 c4 c5 c6 c7) rfl ?_
    refine e_bipush (v := -2) dX10_ofDoor_131 (by decide) ?_
    refine e_iret dX10_ofDoor_133 rfl ?_
    exact is_i (by rw [oOfDoor, if_neg (nn_ h5), if_pos (sw8b c0 c1 c2 c3 c4 c5 c6 c7)]) rfl
  · refine e_iconst (v := -1) dX10_ofDoor_8 rfl ?_
    refine e_iret dX10_ofDoor_9 rfl ?_
    exact is_i (by rw [oOfDoor, if_pos (bi_1.mp h5)]) rfl
