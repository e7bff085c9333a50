set_option maxRecDepth 4000 in
theorem sp_X1_through {G : sh_G} {S : Nat → Int32} {A : Nat → Nat → Int32} {Lg : Nat → Int64} {P : Nat → Option Nat} {T : List sh_C} {b : sh_be} {d r w z j : Nat} (hI : IV b) (hd : d < bn b 1) (hT : T[j]? = some (dC (ba b 0 d) (ba b 1 d) (ba b 2 d) (ba b 3 d))) (hr : r < 31) (hw : w < 2 ^ 20) (hz : z < 64) : Ev G mX1_through 0 0 (mkW G S A Lg P T) 0 [some (.ref (j + 47)), some (.int (nI r)), some (.int (nI w)), some (.int (nI z)), none] [] (sh_is (some (.int (thN (bBe b d r w) (z.testBit r)))) (mkW G S A Lg P T)) := by
  have i1 := hI.1
  obtain ⟨k1, k2, k3, k4, k5, k6⟩ := hI.2.2.2.2.1 d hd
  have hlt : ∀ t, bBe b d r w = some t → t < 6 := fun t h => by have := dBe_lt k2 k3 h; omega
  refine e_aload_n 0 dX1_through_0 rfl rfl ?_
  refine e_iload_n 1 dX1_through_1 rfl rfl ?_
  refine e_iload_n 2 dX1_through_2 rfl rfl ?_
  refine f_callBi (As := [_, _]) ok_X4_beyond ⟨Nat.le_of_ble_eq_true rfl, Nat.le_of_ble_eq_true rfl⟩ dX1_through_3 rfl kl_X1_54 ki_X4_beyond kv_X4_beyond kx_X7_X4_beyond_X4 kx_X8_X4_beyond_X4 kq_X4_X4_beyond rfl rfl (mkW_T.trans hT) k1 (Nat.le_of_ble_eq_true rfl) (Nat.le_of_ble_eq_true rfl) (sp_X4_beyond hT k1 (by omega) (by omega) (by omega) (by omega) (by omega)) ?_
  refine e_istore (lv' := [_, _, _, _, _]) dX1_through_6 (Nat.le_of_ble_eq_true rfl) rfl rfl ?_
  refine e_iload_n 3 dX1_through_8 rfl rfl ?_
  refine e_iconst (v := 1) dX1_through_9 rfl ?_
  refine e_iload_n 1 dX1_through_10 rfl rfl ?_
  refine e_ishl dX1_through_11 ?_
  refine e_iand dX1_through_12 ?_
  refine e_if_eq (tgt := 22) dX1_through_13 rfl (fun h13 => ?_) (fun h13 => ?_)
  · refine e_iconst (v := 0) dX1_through_22 rfl ?_
    refine e_goto (tgt := 30) dX1_through_23 rfl ?_
    refine e_iret dX1_through_30 rfl ?_
    refine is_i ?_ rfl
    first
    | (have c : ¬ z.testBit r = true := (bitc hr).mp h13
       rcases bBe b d r w with _ | t
       · rfl
       · rw [thN, if_neg c]; done)
    | (rcases ho : bBe b d r w with _ | t
       · rfl
       · have h19 : oI (bBe b d r w) = -1 := h19
         rw [ho] at h19; exact absurd h19 (nI_m1 (by have := hlt t ho; omega)))
    | (have h19 : oI (bBe b d r w) ≠ -1 := h19
       show 1 <<< (oI (bBe b d r w) &&& 31) = _
       rcases ho : bBe b d r w with _ | t
       · rw [ho] at h19; exact absurd rfl h19
       · rw [thN, if_pos h13]; exact sh1 (by have := hlt t ho; omega))
  · rw [bitc hr, Classical.not_not] at h13
    refine e_iload dX1_through_16 rfl ?_
    refine e_iconst (v := -1) dX1_through_18 rfl ?_
    refine e_icmp_ne (tgt := 26) dX1_through_19 rfl (fun h19 => ?_) (fun h19 => ?_)
    · refine e_iconst (v := 1) dX1_through_26 rfl ?_
      refine e_iload dX1_through_27 rfl ?_
      refine e_ishl dX1_through_29 ?_
      refine e_iret dX1_through_30 rfl ?_
      refine is_i ?_ rfl
      first
      | (have c : ¬ z.testBit r = true := (bitc hr).mp h13
         rcases bBe b d r w with _ | t
         · rfl
         · rw [thN, if_neg c]; done)
      | (rcases ho : bBe b d r w with _ | t
         · rfl
         · have h19 : oI (bBe b d r w) = -1 := h19
           rw [ho] at h19; exact absurd h19 (nI_m1 (by have := hlt t ho; omega)))
      | (have h19 : oI (bBe b d r w) ≠ -1 := h19
         show 1 <<< (oI (bBe b d r w) &&& 31) = _
         rcases ho : bBe b d r w with _ | t
         · rw [ho] at h19; exact absurd rfl h19
         · rw [thN, if_pos h13]; exact sh1 (by have := hlt t ho; omega))
    · refine e_iconst (v := 0) dX1_through_22 rfl ?_
      refine e_goto (tgt := 30) dX1_through_23 rfl ?_
      refine e_iret dX1_through_30 rfl ?_
      refine is_i ?_ rfl
      first
      | (have c : ¬ z.testBit r = true := (bitc hr).mp h13
         rcases bBe b d r w with _ | t
         · rfl
         · rw [thN, if_neg c]; done)
      | (rcases ho : bBe b d r w with _ | t
         · rfl
         · have h19 : oI (bBe b d r w) = -1 := h19
           rw [ho] at h19; exact absurd h19 (nI_m1 (by have := hlt t ho; omega)))
      | (have h19 : oI (bBe b d r w) ≠ -1 := h19
         show 1 <<< (oI (bBe b d r w) &&& 31) = _
         rcases ho : bBe b d r w with _ | t
         · rw [ho] at h19; exact absurd rfl h19
         · rw [thN, if_pos h13]; exact sh1 (by have := hlt t ho; omega))

set_option maxRecDepth 4000 in
theorem lq_X1_reachOf {G : sh_G} {S : Nat → Int32} {A : Nat → Nat → Int32} {Lg : Nat → Int64} {P : Nat → Option Nat} {T : List sh_C} {b : sh_be} {w r z y : Nat} {x : Int32} {Q : Option Value → List sh_C → Prop} (hR : RX S A Lg P T b) (hI : IV b) (hw : w < 2 ^ 20) (hz : z < 64) (kk : Ev G mX1_reachOf 0 0 (mkW G S A Lg P T) 87 [some (.ref 3), some (.int (nI w)), some (.int (nI r)), some (.int (nI (rsd b w (bn b 1) z))), some (.int x), some (.int (nI y)), some (.int (nI (bn b 1)))] [] Q) : ∀ (m d : Nat), bn b 1 - d < m → d ≤ bn b 1 → Ev G mX1_reachOf 0 0 (mkW G S A Lg P T) 22 [some (.ref 3), some (.int (nI w)), some (.int (nI r)), some (.int (nI (rsd b w d z))), some (.int x), some (.int (nI y)), some (.int (nI d))] [] Q := by
  have e1 := hR.2.1
  have e2 := hR.2.2.1
  have e3 := hR.2.2.2.1
  have e4 := hR.2.2.2.2.1
  have i1 := hI.1
  have i2 := hI.2.1
  have i3 := hI.2.2.1
  have i4 := hI.2.2.2.1
  intro m
  induction m with
  | zero => intro d h; omega
  | succ m ih =>
    intro d hm hdl
    refine e_iload dX1_reachOf_22 rfl ?_
    refine e_aload_n 0 dX1_reachOf_24 rfl rfl ?_
    refine e_getfield 1 dX1_reachOf_25 kf_X1_35_1 rfl rfl ?_
    refine e_icmp_ge (tgt := 87) dX1_reachOf_28 rfl (fun h28 => ?_) (fun h28 => ?_)
    · have e : d = bn b 1 := by rw [e2, nI_leI (by omega) (by omega)] at h28; omega
      subst e
      exact kk
    · have hd : d < bn b 1 := by rw [e2, nI_leI (by omega) (by omega)] at h28; omega
      obtain ⟨j, hP, hT, k1, k2, k3, k4, k5, k6⟩ := hR.dr hI hd
      have hz1 := rsd_lt hI (w := w) (d := d) (by omega) hz
      refine e_iload_n 3 dX1_reachOf_31 rfl rfl ?_
      refine e_aload_n 0 dX1_reachOf_32 rfl rfl ?_
      refine e_getfield 2 dX1_reachOf_33 kf_X1_11_1 rfl rfl ?_
      refine e_iload dX1_reachOf_36 rfl ?_
      refine e_aald_n (d) dX1_reachOf_38 rfl (Or.inl rfl) rfl (by omega) (by decide) hP ?_
      refine e_aload_n 0 dX1_reachOf_39 rfl rfl ?_
      refine e_getfield 2 dX1_reachOf_40 kf_X1_11_1 rfl rfl ?_
      refine e_iload dX1_reachOf_43 rfl ?_
      refine e_aald_n (d) dX1_reachOf_45 rfl (Or.inl rfl) rfl (by omega) (by decide) hP ?_
      refine e_dfield 0 dX1_reachOf_46 kf_X1_41_4 kf_X1_41_7 kf_X1_41_8 (mkW_T.trans hT) k1 rfl ?_
      refine e_iload_n 1 dX1_reachOf_49 rfl rfl ?_
      refine e_iload_n 3 dX1_reachOf_50 rfl rfl ?_
      refine f_callSi (As := [_, _, _, _]) ok_X1_through ⟨Nat.le_of_ble_eq_true rfl, Nat.le_of_ble_eq_true rfl⟩ dX1_reachOf_51 kl_X1_44 ks_X1_through rfl rfl (Nat.le_of_ble_eq_true rfl) (Nat.le_of_ble_eq_true rfl) (Nat.zero_add _) (Nat.zero_add _) (sp_X1_through hI hd hT (r := ba b 1 d) (by omega) hw hz1) ?_
      refine e_ior dX1_reachOf_54 ?_
      rw [show (nI (rsd b w d z) ||| thN (bBe b d (ba b 1 d) w) ((rsd b w d z).testBit (ba b 1 d))) = nI (rsS b d w 0 (rsd b w d z)) from thN_or (s := 0) k4 (by omega)]
      have hz2 := rsS_lt hI (w := w) (s := 0) hd hz1
      refine e_istore_n (lv' := [_, _, _, _, _, _, _]) 3 dX1_reachOf_55 rfl (Nat.le_of_ble_eq_true rfl) rfl rfl ?_
      refine e_iload_n 3 dX1_reachOf_56 rfl rfl ?_
      refine e_aload_n 0 dX1_reachOf_57 rfl rfl ?_
      refine e_getfield 2 dX1_reachOf_58 kf_X1_11_1 rfl rfl ?_
      refine e_iload dX1_reachOf_61 rfl ?_
      refine e_aald_n (d) dX1_reachOf_63 rfl (Or.inl rfl) rfl (by omega) (by decide) hP ?_
      refine e_aload_n 0 dX1_reachOf_64 rfl rfl ?_
      refine e_getfield 2 dX1_reachOf_65 kf_X1_11_1 rfl rfl ?_
      refine e_iload dX1_reachOf_68 rfl ?_
      refine e_aald_n (d) dX1_reachOf_70 rfl (Or.inl rfl) rfl (by omega) (by decide) hP ?_
      refine e_dfield 1 dX1_reachOf_71 kf_X1_48_4 kf_X1_48_7 kf_X1_48_8 (mkW_T.trans hT) k1 rfl ?_
      refine e_iload_n 1 dX1_reachOf_74 rfl rfl ?_
      refine e_iload_n 3 dX1_reachOf_75 rfl rfl ?_
      refine f_callSi (As := [_, _, _, _]) ok_X1_through ⟨Nat.le_of_ble_eq_true rfl, Nat.le_of_ble_eq_true rfl⟩ dX1_reachOf_76 kl_X1_44 ks_X1_through rfl rfl (Nat.le_of_ble_eq_true rfl) (Nat.le_of_ble_eq_true rfl) (Nat.zero_add _) (Nat.zero_add _) (sp_X1_through hI hd hT (r := ba b 2 d) (by omega) hw hz2) ?_
      refine e_ior dX1_reachOf_79 ?_
      rw [show (nI (rsS b d w 0 (rsd b w d z)) ||| thN (bBe b d (ba b 2 d) w) ((rsS b d w 0 (rsd b w d z)).testBit (ba b 2 d))) = nI (rsd b w (d + 1) z) from thN_or (s := 1) k4 (by omega)]
      refine e_istore_n (lv' := [_, _, _, _, _, _, _]) 3 dX1_reachOf_80 rfl (Nat.le_of_ble_eq_true rfl) rfl rfl ?_
      refine e_iinc (v := _ + 1) (lv' := [_, _, _, _, _, _, _]) dX1_reachOf_81 rfl (Nat.le_of_ble_eq_true rfl) rfl rfl rfl ?_
      refine e_goto (tgt := 22) dX1_reachOf_84 rfl ?_
      rw [nI_1]
      exact ih (d + 1) (by omega) (by omega)

set_option maxRecDepth 4000 in
theorem lp_X1_reachOf {G : sh_G} {S : Nat → Int32} {A : Nat → Nat → Int32} {Lg : Nat → Int64} {P : Nat → Option Nat} {T : List sh_C} {b : sh_be} {w r : Nat} (hR : RX S A Lg P T b) (hI : IV b) (hw : w < 2 ^ 20) (hr : r < bn b 0) : ∀ (m n : Nat) (L5 L6 : Option Value), bn b 0 - n < m → n ≤ bn b 0 → Ev G mX1_reachOf 0 0 (mkW G S A Lg P T) 7 [some (.ref 3), some (.int (nI w)), some (.int (nI r)), some (.int (nI (rsr b w n (2 ^ r)))), some (.int (nI n)), L5, L6] [] (sh_is (some (.int (nI (reachN b w r)))) (mkW G S A Lg P T)) := by
  have e1 := hR.2.1
  have e2 := hR.2.2.1
  have e3 := hR.2.2.2.1
  have e4 := hR.2.2.2.2.1
  have i1 := hI.1
  have i2 := hI.2.1
  have i3 := hI.2.2.1
  have i4 := hI.2.2.2.1
  intro m
  induction m with
  | zero => intro n L5 L6 h; omega
  | succ m ih =>
    intro n L5 L6 hm hn
    refine e_iload dX1_reachOf_7 rfl ?_
    refine e_aload_n 0 dX1_reachOf_9 rfl rfl ?_
    refine e_getfield 0 dX1_reachOf_10 kf_X1_23_1 rfl rfl ?_
    refine e_icmp_ge (tgt := 101) dX1_reachOf_13 rfl (fun h13 => ?_) (fun h13 => ?_)
    · have e : n = bn b 0 := by rw [e1, nI_leI (by omega) (by omega)] at h13; omega
      subst e
      refine e_iload_n 3 dX1_reachOf_101 rfl rfl ?_
      exact e_iret dX1_reachOf_102 rfl ⟨rfl, rfl⟩
    · have hlt : n < bn b 0 := by rw [e1, nI_leI (by omega) (by omega)] at h13; omega
      have hz := rsr_lt hI (w := w) (n := n) (pow_r hI hr)
      refine e_iload_n 3 dX1_reachOf_16 rfl rfl ?_
      refine e_istore (lv' := [_, _, _, _, _, _, _]) dX1_reachOf_17 (Nat.le_of_ble_eq_true rfl) rfl rfl ?_
      refine e_iconst (v := 0) dX1_reachOf_19 rfl ?_
      refine e_istore (lv' := [_, _, _, _, _, _, _]) dX1_reachOf_20 (Nat.le_of_ble_eq_true rfl) rfl rfl ?_
      refine lq_X1_reachOf hR hI hw hz ?_ (bn b 1 + 1) 0 (by omega) (by omega)
      refine e_iload_n 3 dX1_reachOf_87 rfl rfl ?_
      refine e_iload dX1_reachOf_88 rfl ?_
      refine e_icmp_ne (tgt := 95) dX1_reachOf_90 rfl (fun h90 => ?_) (fun h90 => ?_)
      · refine e_iinc (v := _ + 1) (lv' := [_, _, _, _, _, _, _]) dX1_reachOf_95 rfl (Nat.le_of_ble_eq_true rfl) rfl rfl rfl ?_
        refine e_goto (tgt := 7) dX1_reachOf_98 rfl ?_
        rw [nI_1]
        exact ih (n + 1) _ _ (by omega) (by omega)
      · rw [nI_eq (by have := rsd_lt hI (w := w) (d := bn b 1) (Nat.le_refl _) hz; omega) (by omega)] at h90
        refine e_iload_n 3 dX1_reachOf_93 rfl rfl ?_
        exact e_iret dX1_reachOf_94 rfl (is_i (congrArg nI (h90.trans (rsr_fix h90 (bn b 0) (by omega)).symm)) rfl)

set_option maxRecDepth 4000 in
theorem sp_X1_reachOf {G : sh_G} {S : Nat → Int32} {A : Nat → Nat → Int32} {Lg : Nat → Int64} {P : Nat → Option Nat} {T : List sh_C} {b : sh_be} {w r : Nat} (hR : RX S A Lg P T b) (hI : IV b) (hw : w < 2 ^ 20) (hr : r < bn b 0) : Ev G mX1_reachOf 0 0 (mkW G S A Lg P T) 0 [some (.ref 3), some (.int (nI w)), some (.int (nI r)), none, none, none, none] [] (sh_is (some (.int (nI (reachN b w r)))) (mkW G S A Lg P T)) := by
  refine e_iconst (v := 1) dX1_reachOf_0 rfl ?_
  refine e_iload_n 2 dX1_reachOf_1 rfl rfl ?_
  refine e_ishl dX1_reachOf_2 ?_
  refine e_istore_n (lv' := [_, _, _, _, _, _, _]) 3 dX1_reachOf_3 rfl (Nat.le_of_ble_eq_true rfl) rfl rfl ?_
  refine e_iconst (v := 0) dX1_reachOf_4 rfl ?_
  refine e_istore (lv' := [_, _, _, _, _, _, _]) dX1_reachOf_5 (Nat.le_of_ble_eq_true rfl) rfl rfl ?_
  rw [sh1 (by have := hI.1; omega)]
  exact lp_X1_reachOf hR hI hw hr (bn b 0 + 1) 0 _ _ (by omega) (by omega)

set_option maxRecDepth 4000 in
theorem sp_X1_reaches {G : sh_G} {S : Nat → Int32} {A : Nat → Nat → Int32} {Lg : Nat → Int64} {P : Nat → Option Nat} {T : List sh_C} {b : sh_be} {w f t : Nat} (hR : RX S A Lg P T b) (hI : IV b) (hw : w < 2 ^ 20) (hf : f < bn b 0) (ht : t < bn b 0) : Ev G mX1_reaches 0 0 (mkW G S A Lg P T) 0 [some (.ref 3), some (.int (nI w)), some (.int (nI f)), some (.int (nI t))] [] (sh_is (some (.int (bi (cmB b f t w = true)))) (mkW G S A Lg P T)) := by
  refine e_aload_n 0 dX1_reaches_0 rfl rfl ?_
  refine e_iload_n 1 dX1_reaches_1 rfl rfl ?_
  refine e_iload_n 2 dX1_reaches_2 rfl rfl ?_
  refine f_callVi (As := [_, _]) ok_X1_reachOf ⟨Nat.le_of_ble_eq_true rfl, Nat.le_of_ble_eq_true rfl⟩ dX1_reaches_3 kl_X1_51 ki_X1_reachOf kv_X1_reachOf rfl rfl rfl rfl (Nat.le_of_ble_eq_true rfl) (Nat.le_of_ble_eq_true rfl) (Nat.zero_add _) (Nat.zero_add _) (sp_X1_reachOf hR hI hw hf) ?_
  refine e_iconst (v := 1) dX1_reaches_6 rfl ?_
  refine e_iload_n 3 dX1_reaches_7 rfl rfl ?_
  refine e_ishl dX1_reaches_8 ?_
  refine e_iand dX1_reaches_9 ?_
  refine e_if_eq (tgt := 17) dX1_reaches_10 rfl (fun h10 => ?_) (fun h10 => ?_)
  · refine e_iconst (v := 0) dX1_reaches_17 rfl ?_
    refine e_zret dX1_reaches_18 rfl rfl ?_
    refine is_i ?_ rfl
    rw [bitc (by have := hI.1; omega)] at h10
    first
    | (exact (bi_t (c := cmB b f t w = true) (Classical.not_not.mp h10)).symm)
    | (exact (bi_f (c := cmB b f t w = true) h10).symm)
  · refine e_iconst (v := 1) dX1_reaches_13 rfl ?_
    refine e_goto (tgt := 18) dX1_reaches_14 rfl ?_
    refine e_zret dX1_reaches_18 rfl rfl ?_
    refine is_i ?_ rfl
    rw [bitc (by have := hI.1; omega)] at h10
    first
    | (exact (bi_t (c := cmB b f t w = true) (Classical.not_not.mp h10)).symm)
    | (exact (bi_f (c := cmB b f t w = true) h10).symm)

set_option maxRecDepth 4000 in
theorem sp_X9_reach {G : sh_G} {S : Nat → Int32} {A : Nat → Nat → Int32} {Lg : Nat → Int64} {P : Nat → Option Nat} {T : List sh_C} {b : sh_be} {w r : Int32} (hR : RX S A Lg P T b) (hI : IV b) : Ev G mX9_reach 0 0 (mkW G S A Lg P T) 0 [some (.ref 1), some (.int w), some (.int r)] [] (sh_is (some (.int (oReach b w r))) (mkW G S A Lg P T)) := by
  have e1 := hR.2.1
  have e2 := hR.2.2.1
  have e3 := hR.2.2.2.1
  have e4 := hR.2.2.2.2.1
  have i1 := hI.1
  have i2 := hI.2.1
  have i3 := hI.2.2.1
  have i4 := hI.2.2.2.1
  refine e_aload_n 0 dX9_reach_0 rfl rfl ?_
  refine e_getfield 1 dX9_reach_1 kf_X9_20_9 rfl rfl ?_
  refine e_iload_n 2 dX9_reach_4 rfl rfl ?_
  refine f_callVi (As := [_]) ok_X1_hasRoom ⟨Nat.le_of_ble_eq_true rfl, Nat.le_of_ble_eq_true rfl⟩ dX9_reach_5 kl_X9_88 ki_X1_hasRoom kv_X1_hasRoom rfl rfl rfl rfl (Nat.le_of_ble_eq_true rfl) (Nat.le_of_ble_eq_true rfl) (Nat.zero_add _) (Nat.zero_add _) sp_X1_hasRoom ?_
  refine e_if_ne (tgt := 13) dX9_reach_8 rfl (fun h8 => ?_) (fun h8 => ?_)
  · rw [e1] at h8
    refine e_iload_n 1 dX9_reach_13 rfl rfl ?_
    refine e_iconst (v := 1) dX9_reach_14 rfl ?_
    refine e_icmp_lt (tgt := 25) dX9_reach_15 rfl (fun h15 => ?_) (fun h15 => ?_)
    · refine e_bipush (v := -2) dX9_reach_25 (by decide) ?_
      refine e_iret dX9_reach_27 rfl ?_
      have ho : oReach b w r = -2 := by
        have hq : ¬ (¬ w < 1 ∧ ¬ 999 < w) := by
          intro h
          first
          | exact h.1 h15
          | exact h.2 (Int32.not_le.mp h22)
        rw [oReach, if_neg (nn_ (bi_1.mp h8)), if_pos hq]
      rw [ho]
      exact ⟨rfl, rfl⟩
    · refine e_iload_n 1 dX9_reach_18 rfl rfl ?_
      refine e_sipush (v := 999) dX9_reach_19 (by decide) ?_
      refine e_icmp_le (tgt := 28) dX9_reach_22 rfl (fun h22 => ?_) (fun h22 => ?_)
      · have hw : ¬ w < 1 ∧ ¬ 999 < w := ⟨h15, Int32.not_lt.mpr h22⟩
        obtain ⟨q, hq, rfl⟩ := ix_of (x := r) rfl (by omega) (bi_1.mp h8)
        obtain ⟨v, hv, rfl⟩ := ix_of (x := w) (n := 1000) rfl (by omega) ⟨fun h => h15 (i_t3 h), fun h => hw.2 (i_t6 h)⟩
        refine e_aload_n 0 dX9_reach_28 rfl rfl ?_
        refine e_getfield 1 dX9_reach_29 kf_X9_20_9 rfl rfl ?_
        refine e_iload_n 1 dX9_reach_32 rfl rfl ?_
        refine e_iload_n 2 dX9_reach_33 rfl rfl ?_
        refine f_callVi (As := [_, _]) ok_X1_reachOf ⟨Nat.le_of_ble_eq_true rfl, Nat.le_of_ble_eq_true rfl⟩ dX9_reach_34 kl_X9_176 ki_X1_reachOf kv_X1_reachOf rfl rfl rfl rfl (Nat.le_of_ble_eq_true rfl) (Nat.le_of_ble_eq_true rfl) (Nat.zero_add _) (Nat.zero_add _) (sp_X1_reachOf hR hI (by omega) hq) ?_
        refine e_iret dX9_reach_37 rfl ?_
        exact is_i (by rw [oReach, if_neg (nn_ (bi_1.mp h8)), if_neg (nn_ hw), nI_clamp (by omega), nI_clamp (by omega)]) rfl
      · refine e_bipush (v := -2) dX9_reach_25 (by decide) ?_
        refine e_iret dX9_reach_27 rfl ?_
        have ho : oReach b w r = -2 := by
          have hq : ¬ (¬ w < 1 ∧ ¬ 999 < w) := by
            intro h
            first
            | exact h.1 h15
            | exact h.2 (Int32.not_le.mp h22)
          rw [oReach, if_neg (nn_ (bi_1.mp h8)), if_pos hq]
        rw [ho]
        exact ⟨rfl, rfl⟩
  · rw [e1] at h8
    refine e_iconst (v := -1) dX9_reach_11 rfl ?_
    refine e_iret dX9_reach_12 rfl ?_
    have ho : oReach b w r = -1 := by
      rw [oReach, if_pos (bi_0.mp h8)]
    rw [ho]
    exact ⟨rfl, rfl⟩

set_option maxRecDepth 4000 in
theorem lp_X9_strangers {G : sh_G} {S : Nat → Int32} {A : Nat → Nat → Int32} {Lg : Nat → Int64} {P : Nat → Option Nat} {T : List sh_C} {b : sh_be} {f t : Nat} {k : Int32} (hR : RX S A Lg P T b) (hI : IV b) (hf : f < bn b 0) (ht : t < bn b 0) : ∀ (m w n : Nat), w + m = 100 → Ev G mX9_strangers 0 0 (mkW G S A Lg P T) 36 [some (.ref 1), some (.int (nI f)), some (.int (nI t)), some (.int k), some (.int (nI n)), some (.int (nI w))] [] (sh_is (some (.int (stN (cmB b f t) k m w n))) (mkW G S A Lg P T)) := by
  intro m
  induction m with
  | zero =>
    intro w n hw
    have e : w = 100 := by omega
    subst e
    refine e_iload dX9_strangers_36 rfl ?_
    refine e_bipush (v := 99) dX9_strangers_38 (by decide) ?_
    refine e_icmp_gt (tgt := 75) dX9_strangers_40 rfl (fun _ => ?_) (fun h40 => absurd (by decide) h40)
    refine e_iload_n 3 dX9_strangers_75 rfl rfl ?_
    refine e_iconst (v := -1) dX9_strangers_76 rfl ?_
    refine e_icmp_ne (tgt := 85) dX9_strangers_77 rfl (fun h77 => ?_) (fun h77 => ?_)
    · refine e_bipush (v := -9) dX9_strangers_85 (by decide) ?_
      refine e_iret dX9_strangers_87 rfl ?_
      refine is_i ?_ rfl
      first
      | (rw [stN, if_pos h77]; done)
      | (rw [stN, if_neg h77]; done)
    · refine e_iload dX9_strangers_80 rfl ?_
      refine e_goto (tgt := 87) dX9_strangers_82 rfl ?_
      refine e_iret dX9_strangers_87 rfl ?_
      refine is_i ?_ rfl
      first
      | (rw [stN, if_pos h77]; done)
      | (rw [stN, if_neg h77]; done)
  | succ m ih =>
    intro w n hw
    refine e_iload dX9_strangers_36 rfl ?_
    refine e_bipush (v := 99) dX9_strangers_38 (by decide) ?_
    refine e_icmp_gt (tgt := 75) dX9_strangers_40 rfl (fun h40 => absurd h40 (by rw [show (99 : Int32) = nI 99 from rfl]; exact nI_nlt (by omega) (by omega))) (fun _ => ?_)
    refine e_aload_n 0 dX9_strangers_43 rfl rfl ?_
    refine e_getfield 1 dX9_strangers_44 kf_X9_20_9 rfl rfl ?_
    refine e_iload dX9_strangers_47 rfl ?_
    refine e_iload_n 1 dX9_strangers_49 rfl rfl ?_
    refine e_iload_n 2 dX9_strangers_50 rfl rfl ?_
    refine f_callVi (As := [_, _, _]) ok_X1_reaches ⟨Nat.le_of_ble_eq_true rfl, Nat.le_of_ble_eq_true rfl⟩ dX9_strangers_51 kl_X9_179 ki_X1_reaches kv_X1_reaches rfl rfl rfl rfl (Nat.le_of_ble_eq_true rfl) (Nat.le_of_ble_eq_true rfl) (Nat.zero_add _) (Nat.zero_add _) (sp_X1_reaches hR hI (by omega) hf ht) ?_
    refine e_if_eq (tgt := 69) dX9_strangers_54 rfl (fun h54 => ?_) (fun h54 => ?_)
    · refine e_iinc (v := _ + 1) (lv' := [_, _, _, _, _, _]) dX9_strangers_69 rfl (Nat.le_of_ble_eq_true rfl) rfl rfl rfl ?_
      refine e_goto (tgt := 36) dX9_strangers_72 rfl ?_
      rw [nI_1]
      first
      | (rw [nI_1]; have := ih (w + 1) (n + 1) (by omega); rw [stN, if_pos (bi_1.mp h54), if_neg h60]; exact this)
      | (have := ih (w + 1) n (by omega); rw [stN, if_neg (bi_0.mp h54)]; exact this)
    · refine e_iload dX9_strangers_57 rfl ?_
      refine e_iload_n 3 dX9_strangers_59 rfl rfl ?_
      refine e_icmp_ne (tgt := 66) dX9_strangers_60 rfl (fun h60 => ?_) (fun h60 => ?_)
      · refine e_iinc (v := _ + 1) (lv' := [_, _, _, _, _, _]) dX9_strangers_66 rfl (Nat.le_of_ble_eq_true rfl) rfl rfl rfl ?_
        refine e_iinc (v := _ + 1) (lv' := [_, _, _, _, _, _]) dX9_strangers_69 rfl (Nat.le_of_ble_eq_true rfl) rfl rfl rfl ?_
        refine e_goto (tgt := 36) dX9_strangers_72 rfl ?_
        rw [nI_1]
        first
        | (rw [nI_1]; have := ih (w + 1) (n + 1) (by omega); rw [stN, if_pos (bi_1.mp h54), if_neg h60]; exact this)
        | (have := ih (w + 1) n (by omega); rw [stN, if_neg (bi_0.mp h54)]; exact this)
      · refine e_iload dX9_strangers_63 rfl ?_
        refine e_iret dX9_strangers_65 rfl ?_
        exact is_i (by rw [stN, if_pos (bi_1.mp h54), if_pos h60]) rfl

set_option maxRecDepth 4000 in
theorem sp_X9_strangers {G : sh_G} {S : Nat → Int32} {A : Nat → Nat → Int32} {Lg : Nat → Int64} {P : Nat → Option Nat} {T : List sh_C} {b : sh_be} {f t k : Int32} (hR : RX S A Lg P T b) (hI : IV b) : Ev G mX9_strangers 0 0 (mkW G S A Lg P T) 0 [some (.ref 1), some (.int f), some (.int t), some (.int k), none, none] [] (sh_is (some (.int (oStr b f t k))) (mkW G S A Lg P T)) := by
  have e1 := hR.2.1
  have e2 := hR.2.2.1
  have e3 := hR.2.2.2.1
  have e4 := hR.2.2.2.2.1
  have i1 := hI.1
  have i2 := hI.2.1
  have i3 := hI.2.2.1
  have i4 := hI.2.2.2.1
  refine e_aload_n 0 dX9_strangers_0 rfl rfl ?_
  refine e_getfield 1 dX9_strangers_1 kf_X9_20_9 rfl rfl ?_
  refine e_iload_n 1 dX9_strangers_4 rfl rfl ?_
  refine f_callVi (As := [_]) ok_X1_hasRoom ⟨Nat.le_of_ble_eq_true rfl, Nat.le_of_ble_eq_true rfl⟩ dX9_strangers_5 kl_X9_88 ki_X1_hasRoom kv_X1_hasRoom rfl rfl rfl rfl (Nat.le_of_ble_eq_true rfl) (Nat.le_of_ble_eq_true rfl) (Nat.zero_add _) (Nat.zero_add _) sp_X1_hasRoom ?_
  refine e_if_eq (tgt := 27) dX9_strangers_8 rfl (fun h8 => ?_) (fun h8 => ?_)
  · rw [e1] at h8
    try rw [e1] at h19
    refine e_iconst (v := -1) dX9_strangers_27 rfl ?_
    refine e_iret dX9_strangers_28 rfl ?_
    have ho : oStr b f t k = -1 := by
      have hq : ¬ (¬ f < 0 ∧ ¬ nI (bn b 0) ≤ f) ∨ ¬ (¬ t < 0 ∧ ¬ nI (bn b 0) ≤ t) ∨ k < -1 := by
        first
        | exact Or.inl (bi_0.mp h8)
        | exact Or.inr (Or.inl (bi_0.mp h19))
        | exact Or.inr (Or.inr (Int32.not_le.mp h24))
      rw [oStr, if_pos hq]
    rw [ho]
    exact ⟨rfl, rfl⟩
  · refine e_aload_n 0 dX9_strangers_11 rfl rfl ?_
    refine e_getfield 1 dX9_strangers_12 kf_X9_20_9 rfl rfl ?_
    refine e_iload_n 2 dX9_strangers_15 rfl rfl ?_
    refine f_callVi (As := [_]) ok_X1_hasRoom ⟨Nat.le_of_ble_eq_true rfl, Nat.le_of_ble_eq_true rfl⟩ dX9_strangers_16 kl_X9_88 ki_X1_hasRoom kv_X1_hasRoom rfl rfl rfl rfl (Nat.le_of_ble_eq_true rfl) (Nat.le_of_ble_eq_true rfl) (Nat.zero_add _) (Nat.zero_add _) sp_X1_hasRoom ?_
    refine e_if_eq (tgt := 27) dX9_strangers_19 rfl (fun h19 => ?_) (fun h19 => ?_)
    · rw [e1] at h8
      try rw [e1] at h19
      refine e_iconst (v := -1) dX9_strangers_27 rfl ?_
      refine e_iret dX9_strangers_28 rfl ?_
      have ho : oStr b f t k = -1 := by
        have hq : ¬ (¬ f < 0 ∧ ¬ nI (bn b 0) ≤ f) ∨ ¬ (¬ t < 0 ∧ ¬ nI (bn b 0) ≤ t) ∨ k < -1 := by
          first
          | exact Or.inl (bi_0.mp h8)
          | exact Or.inr (Or.inl (bi_0.mp h19))
          | exact Or.inr (Or.inr (Int32.not_le.mp h24))
        rw [oStr, if_pos hq]
      rw [ho]
      exact ⟨rfl, rfl⟩
    · refine e_iload_n 3 dX9_strangers_22 rfl rfl ?_
      refine e_iconst (v := -1) dX9_strangers_23 rfl ?_
      refine e_icmp_ge (tgt := 29) dX9_strangers_24 rfl (fun h24 => ?_) (fun h24 => ?_)
      · rw [e1] at h8 h19
        have hq : ¬ (¬ (¬ f < 0 ∧ ¬ nI (bn b 0) ≤ f) ∨ ¬ (¬ t < 0 ∧ ¬ nI (bn b 0) ≤ t) ∨ k < -1) := fun h => h.elim (fun h => h (bi_1.mp h8)) (fun h => h.elim (fun h => h (bi_1.mp h19)) (Int32.not_lt.mpr h24))
        obtain ⟨f, hf, rfl⟩ := ix_of (x := f) rfl (by omega) (bi_1.mp h8)
        obtain ⟨t, ht, rfl⟩ := ix_of (x := t) rfl (by omega) (bi_1.mp h19)
        refine e_iconst (v := 0) dX9_strangers_29 rfl ?_
        refine e_istore (lv' := [_, _, _, _, _, _]) dX9_strangers_30 (Nat.le_of_ble_eq_true rfl) rfl rfl ?_
        refine e_bipush (v := 10) dX9_strangers_32 (by decide) ?_
        refine e_istore (lv' := [_, _, _, _, _, _]) dX9_strangers_34 (Nat.le_of_ble_eq_true rfl) rfl rfl ?_
        rw [oStr, if_neg hq, nI_clamp (by omega), nI_clamp (by omega)]
        exact lp_X9_strangers hR hI hf ht 90 10 0 rfl
      · rw [e1] at h8
        try rw [e1] at h19
        refine e_iconst (v := -1) dX9_strangers_27 rfl ?_
        refine e_iret dX9_strangers_28 rfl ?_
        have ho : oStr b f t k = -1 := by
          have hq : ¬ (¬ f < 0 ∧ ¬ nI (bn b 0) ≤ f) ∨ ¬ (¬ t < 0 ∧ ¬ nI (bn b 0) ≤ t) ∨ k < -1 := by
            first
            | exact Or.inl (bi_0.mp h8)
            | exact Or.inr (Or.inl (bi_0.mp h19))
            | exact Or.inr (Or.inr (Int32.not_le.mp h24))
          rw [oStr, if_pos hq]
        rw [ho]
        exact ⟨rfl, rfl⟩

theorem add_neg (x y : Int32) : x + -y = x - y := (Int32.sub_eq_add_neg x y).symm
set_option maxRecDepth 4000 in
theorem sp_X9_less {G : sh_G} {S : Nat → Int32} {A : Nat → Nat → Int32} {Lg : Nat → Int64} {P : Nat → Option Nat} {T : List sh_C} {b : sh_be} {p r x : Nat} (hR : RX S A Lg P T b) (hI : IV b) (hp : p < bn b 2) (hr : r < bn b 0) (hx : x < 31) : Ev G mX9_comesChanged 0 0 (mkW G S A Lg P T) 0 [some (.ref 1), some (.int (nI p)), some (.int (nI r)), some (.int (-nI x)), none] [] (sh_is (some (.int (bi (x < ba b 4 p ∧ cmB b (ba b 5 p) r (ba b 4 p - x) = true)))) (mkW G S A Lg P T)) := by
  have gp := hR.2.2.2.2.2.2.2.2.1 p hp
  have ip := hI.2.2.2.2.2.1 p hp
  have i1 := hI.1
  have i3 := hI.2.2.1
  refine e_aload_n 0 dX9_comesChanged_0 rfl rfl ?_
  refine e_getfield 2 dX9_comesChanged_1 kf_X9_27_9 rfl rfl ?_
  refine e_getfield 2 dX9_comesChanged_4 kf_X9_110_0 rfl rfl ?_
  refine e_iload_n 1 dX9_comesChanged_7 rfl rfl ?_
  refine e_iald_n (p) dX9_comesChanged_8 rfl rfl (by omega) (by decide) ?_
  refine e_iload_n 3 dX9_comesChanged_9 rfl rfl ?_
  refine e_iadd dX9_comesChanged_10 ?_
  refine e_istore (lv' := [_, _, _, _, _]) dX9_comesChanged_11 (Nat.le_of_ble_eq_true rfl) rfl rfl ?_
  refine e_iload dX9_comesChanged_13 rfl ?_
  have hs := sub_i (a := ba b 4 p) (s := x) (by omega) (by omega)
  refine e_iconst (v := 1) dX9_comesChanged_15 rfl ?_
  refine e_icmp_lt (tgt := 45) dX9_comesChanged_16 rfl (fun h16 => ?_) (fun h16 => ?_)
  · refine e_iconst (v := 0) dX9_comesChanged_45 rfl ?_
    refine e_zret dX9_comesChanged_46 rfl rfl ?_
    refine is_i ?_ rfl
    first
    | (rw [bi_t ⟨hxw, bi_1.mp h38⟩]; done)
    | (rw [bi_f (fun h => (bi_0.mp h38) h.2)]; done)
    | (have hxw : ¬ x < ba b 4 p := by
         rw [gp.1, add_neg, fa_lt, hs] at h16
         have e1 : (1 : Int32).toInt = 1 := by decide
         omega
       rw [bi_f (fun h => hxw h.1)]; done)
  · have hxw : x < ba b 4 p := by
      rw [gp.1, add_neg, fa_lt, hs] at h16
      have e1 : (1 : Int32).toInt = 1 := by decide
      omega
    rw [gp.1, add_neg, pk_sub (by omega)]
    refine e_aload_n 0 dX9_comesChanged_19 rfl rfl ?_
    refine e_getfield 1 dX9_comesChanged_20 kf_X9_20_9 rfl rfl ?_
    refine e_iload dX9_comesChanged_23 rfl ?_
    refine e_aload_n 0 dX9_comesChanged_25 rfl rfl ?_
    refine e_getfield 2 dX9_comesChanged_26 kf_X9_27_9 rfl rfl ?_
    refine e_getfield 3 dX9_comesChanged_29 kf_X9_113_0 rfl rfl ?_
    refine e_iload_n 1 dX9_comesChanged_32 rfl rfl ?_
    refine e_iald_n (p) dX9_comesChanged_33 rfl rfl (by omega) (by decide) ?_
    refine e_iload_n 2 dX9_comesChanged_34 rfl rfl ?_
    rw [gp.2]
    refine f_callVi (As := [_, _, _]) ok_X1_reaches ⟨Nat.le_of_ble_eq_true rfl, Nat.le_of_ble_eq_true rfl⟩ dX9_comesChanged_35 kl_X9_179 ki_X1_reaches kv_X1_reaches rfl rfl rfl rfl (Nat.le_of_ble_eq_true rfl) (Nat.le_of_ble_eq_true rfl) (Nat.zero_add _) (Nat.zero_add _) (sp_X1_reaches hR hI (by omega) ip.2.2 hr) ?_
    refine e_if_eq (tgt := 45) dX9_comesChanged_38 rfl (fun h38 => ?_) (fun h38 => ?_)
    · refine e_iconst (v := 0) dX9_comesChanged_45 rfl ?_
      refine e_zret dX9_comesChanged_46 rfl rfl ?_
      refine is_i ?_ rfl
      first
      | (rw [bi_t ⟨hxw, bi_1.mp h38⟩]; done)
      | (rw [bi_f (fun h => (bi_0.mp h38) h.2)]; done)
      | (have hxw : ¬ x < ba b 4 p := by
           rw [gp.1, add_neg, fa_lt, hs] at h16
           have e1 : (1 : Int32).toInt = 1 := by decide
           omega
         rw [bi_f (fun h => hxw h.1)]; done)
    · refine e_iconst (v := 1) dX9_comesChanged_41 rfl ?_
      refine e_goto (tgt := 46) dX9_comesChanged_42 rfl ?_
      refine e_zret dX9_comesChanged_46 rfl rfl ?_
      refine is_i ?_ rfl
      first
      | (rw [bi_t ⟨hxw, bi_1.mp h38⟩]; done)
      | (rw [bi_f (fun h => (bi_0.mp h38) h.2)]; done)
      | (have hxw : ¬ x < ba b 4 p := by
           rw [gp.1, add_neg, fa_lt, hs] at h16
           have e1 : (1 : Int32).toInt = 1 := by decide
           omega
         rw [bi_f (fun h => hxw h.1)]; done)

set_option maxRecDepth 4000 in
theorem sp_X9_more {G : sh_G} {S : Nat → Int32} {A : Nat → Nat → Int32} {Lg : Nat → Int64} {P : Nat → Option Nat} {T : List sh_C} {b : sh_be} {p r x : Nat} (hR : RX S A Lg P T b) (hI : IV b) (hp : p < bn b 2) (hr : r < bn b 0) (hx : x < 31) : Ev G mX9_comesChanged 0 0 (mkW G S A Lg P T) 0 [some (.ref 1), some (.int (nI p)), some (.int (nI r)), some (.int (nI x)), none] [] (sh_is (some (.int (bi (cmB b (ba b 5 p) r (ba b 4 p + x) = true)))) (mkW G S A Lg P T)) := by
  have gp := hR.2.2.2.2.2.2.2.2.1 p hp
  have ip := hI.2.2.2.2.2.1 p hp
  have i1 := hI.1
  have i3 := hI.2.2.1
  refine e_aload_n 0 dX9_comesChanged_0 rfl rfl ?_
  refine e_getfield 2 dX9_comesChanged_1 kf_X9_27_9 rfl rfl ?_
  refine e_getfield 2 dX9_comesChanged_4 kf_X9_110_0 rfl rfl ?_
  refine e_iload_n 1 dX9_comesChanged_7 rfl rfl ?_
  refine e_iald_n (p) dX9_comesChanged_8 rfl rfl (by omega) (by decide) ?_
  refine e_iload_n 3 dX9_comesChanged_9 rfl rfl ?_
  refine e_iadd dX9_comesChanged_10 ?_
  refine e_istore (lv' := [_, _, _, _, _]) dX9_comesChanged_11 (Nat.le_of_ble_eq_true rfl) rfl rfl ?_
  refine e_iload dX9_comesChanged_13 rfl ?_
  refine e_iconst (v := 1) dX9_comesChanged_15 rfl ?_
  refine e_icmp_lt (tgt := 45) dX9_comesChanged_16 rfl (fun h16 => absurd h16 (by rw [gp.1, nI_add, show (1 : Int32) = nI 1 from rfl]; exact nI_nlt (by omega) (by omega))) (fun _ => ?_)
  rw [gp.1, nI_add]
  refine e_aload_n 0 dX9_comesChanged_19 rfl rfl ?_
  refine e_getfield 1 dX9_comesChanged_20 kf_X9_20_9 rfl rfl ?_
  refine e_iload dX9_comesChanged_23 rfl ?_
  refine e_aload_n 0 dX9_comesChanged_25 rfl rfl ?_
  refine e_getfield 2 dX9_comesChanged_26 kf_X9_27_9 rfl rfl ?_
  refine e_getfield 3 dX9_comesChanged_29 kf_X9_113_0 rfl rfl ?_
  refine e_iload_n 1 dX9_comesChanged_32 rfl rfl ?_
  refine e_iald_n (p) dX9_comesChanged_33 rfl rfl (by omega) (by decide) ?_
  refine e_iload_n 2 dX9_comesChanged_34 rfl rfl ?_
  rw [gp.2]
  refine f_callVi (As := [_, _, _]) ok_X1_reaches ⟨Nat.le_of_ble_eq_true rfl, Nat.le_of_ble_eq_true rfl⟩ dX9_comesChanged_35 kl_X9_179 ki_X1_reaches kv_X1_reaches rfl rfl rfl rfl (Nat.le_of_ble_eq_true rfl) (Nat.le_of_ble_eq_true rfl) (Nat.zero_add _) (Nat.zero_add _) (sp_X1_reaches hR hI (by omega) ip.2.2 hr) ?_
  refine e_if_eq (tgt := 45) dX9_comesChanged_38 rfl (fun h38 => ?_) (fun h38 => ?_)
  · refine e_iconst (v := 0) dX9_comesChanged_45 rfl ?_
    refine e_zret dX9_comesChanged_46 rfl rfl ?_
    refine is_i ?_ rfl
    first
    | (rw [bi_t (bi_1.mp h38)]; done)
    | (rw [bi_f (bi_0.mp h38)]; done)
  · refine e_iconst (v := 1) dX9_comesChanged_41 rfl ?_
    refine e_goto (tgt := 46) dX9_comesChanged_42 rfl ?_
    refine e_zret dX9_comesChanged_46 rfl rfl ?_
    refine is_i ?_ rfl
    first
    | (rw [bi_t (bi_1.mp h38)]; done)
    | (rw [bi_f (bi_0.mp h38)]; done)

set_option maxRecDepth 4000 in
theorem lp_X9_guest {G : sh_G} {S : Nat → Int32} {A : Nat → Nat → Int32} {Lg : Nat → Int64} {P : Nat → Option Nat} {T : List sh_C} {b : sh_be} {p r : Nat} (hR : RX S A Lg P T b) (hI : IV b) (hp : p < bn b 2) (hr : r < bn b 0) : ∀ (m x : Nat), x + m = 31 → Ev G mX9_guest 0 0 (mkW G S A Lg P T) 26 [some (.ref 1), some (.int (nI p)), some (.int (nI r)), some (.int (nI x))] [] (sh_is (some (.int (gsN (cmB b (ba b 5 p) r) (ba b 4 p) m x))) (mkW G S A Lg P T)) := by
  intro m
  induction m with
  | zero =>
    intro x hx
    have e : x = 31 := by omega
    subst e
    refine e_iload_n 3 dX9_guest_26 rfl rfl ?_
    refine e_bipush (v := 30) dX9_guest_27 (by decide) ?_
    refine e_icmp_gt (tgt := 69) dX9_guest_29 rfl (fun _ => ?_) (fun h29 => absurd (by decide) h29)
    refine e_bipush (v := -9) dX9_guest_69 (by decide) ?_
    exact e_iret dX9_guest_71 rfl ⟨rfl, rfl⟩
  | succ m ih =>
    intro x hx
    refine e_iload_n 3 dX9_guest_26 rfl rfl ?_
    refine e_bipush (v := 30) dX9_guest_27 (by decide) ?_
    refine e_icmp_gt (tgt := 69) dX9_guest_29 rfl (fun h29 => absurd h29 (by rw [show (30 : Int32) = nI 30 from rfl]; exact nI_nlt (by omega) (by omega))) (fun _ => ?_)
    refine e_aload_n 0 dX9_guest_32 rfl rfl ?_
    refine e_iload_n 1 dX9_guest_33 rfl rfl ?_
    refine e_iload_n 2 dX9_guest_34 rfl rfl ?_
    refine e_iload_n 3 dX9_guest_35 rfl rfl ?_
    refine e_ineg dX9_guest_36 ?_
    refine f_callVi (As := [_, _, _]) ok_X9_comesChanged ⟨Nat.le_of_ble_eq_true rfl, Nat.le_of_ble_eq_true rfl⟩ dX9_guest_37 kl_X9_191 ki_X9_comesChanged kv_X9_comesChanged rfl rfl rfl rfl (Nat.le_of_ble_eq_true rfl) (Nat.le_of_ble_eq_true rfl) (Nat.zero_add _) (Nat.zero_add _) (sp_X9_less hR hI hp hr (by omega)) ?_
    refine e_if_eq (tgt := 48) dX9_guest_40 rfl (fun h40 => ?_) (fun h40 => ?_)
    · refine e_aload_n 0 dX9_guest_48 rfl rfl ?_
      refine e_iload_n 1 dX9_guest_49 rfl rfl ?_
      refine e_iload_n 2 dX9_guest_50 rfl rfl ?_
      refine e_iload_n 3 dX9_guest_51 rfl rfl ?_
      refine f_callVi (As := [_, _, _]) ok_X9_comesChanged ⟨Nat.le_of_ble_eq_true rfl, Nat.le_of_ble_eq_true rfl⟩ dX9_guest_52 kl_X9_191 ki_X9_comesChanged kv_X9_comesChanged rfl rfl rfl rfl (Nat.le_of_ble_eq_true rfl) (Nat.le_of_ble_eq_true rfl) (Nat.zero_add _) (Nat.zero_add _) (sp_X9_more hR hI hp hr (by omega)) ?_
      refine e_if_eq (tgt := 63) dX9_guest_55 rfl (fun h55 => ?_) (fun h55 => ?_)
      · refine e_iinc (v := _ + 1) (lv' := [_, _, _, _]) dX9_guest_63 rfl (Nat.le_of_ble_eq_true rfl) rfl rfl rfl ?_
        refine e_goto (tgt := 26) dX9_guest_66 rfl ?_
        rw [nI_1]
        have := ih (x + 1) (by omega)
        rw [gsN, if_neg (bi_0.mp h40), if_neg (bi_0.mp h55)]
        exact this
      · refine e_bipush (v := 100) dX9_guest_58 (by decide) ?_
        refine e_iload_n 3 dX9_guest_60 rfl rfl ?_
        refine e_iadd dX9_guest_61 ?_
        refine e_iret dX9_guest_62 rfl ?_
        exact is_i (by rw [gsN, if_neg (bi_0.mp h40), if_pos (bi_1.mp h55)]) rfl
    · refine e_bipush (v := 100) dX9_guest_43 (by decide) ?_
      refine e_iload_n 3 dX9_guest_45 rfl rfl ?_
      refine e_isub dX9_guest_46 ?_
      refine e_iret dX9_guest_47 rfl ?_
      exact is_i (by rw [gsN, if_pos (bi_1.mp h40)]) rfl

set_option maxRecDepth 4000 in
theorem sp_X9_guest {G : sh_G} {S : Nat → Int32} {A : Nat → Nat → Int32} {Lg : Nat → Int64} {P : Nat → Option Nat} {T : List sh_C} {b : sh_be} {p r : Int32} (hR : RX S A Lg P T b) (hI : IV b) : Ev G mX9_guest 0 0 (mkW G S A Lg P T) 0 [some (.ref 1), some (.int p), some (.int r), none] [] (sh_is (some (.int (oGuest b p r))) (mkW G S A Lg P T)) := by
  have e1 := hR.2.1
  have e2 := hR.2.2.1
  have e3 := hR.2.2.2.1
  have e4 := hR.2.2.2.2.1
  have i1 := hI.1
  have i2 := hI.2.1
  have i3 := hI.2.2.1
  have i4 := hI.2.2.2.1
  refine e_aload_n 0 dX9_guest_0 rfl rfl ?_
  refine e_getfield 2 dX9_guest_1 kf_X9_27_9 rfl rfl ?_
  refine e_iload_n 1 dX9_guest_4 rfl rfl ?_
  refine f_callVi (As := [_]) ok_X0_hasPerson ⟨Nat.le_of_ble_eq_true rfl, Nat.le_of_ble_eq_true rfl⟩ dX9_guest_5 kl_X9_107 ki_X0_hasPerson kv_X0_hasPerson rfl rfl rfl rfl (Nat.le_of_ble_eq_true rfl) (Nat.le_of_ble_eq_true rfl) (Nat.zero_add _) (Nat.zero_add _) sp_X0_hasPerson ?_
  refine e_if_eq (tgt := 22) dX9_guest_8 rfl (fun h8 => ?_) (fun h8 => ?_)
  · rw [e3] at h8
    try rw [e1] at h19
    refine e_iconst (v := -1) dX9_guest_22 rfl ?_
    refine e_iret dX9_guest_23 rfl ?_
    have ho : oGuest b p r = -1 := by
      first
      | rw [oGuest, if_pos (Or.inl (bi_0.mp h8))]
      | rw [oGuest, if_pos (Or.inr (bi_0.mp h19))]
    rw [ho]
    exact ⟨rfl, rfl⟩
  · refine e_aload_n 0 dX9_guest_11 rfl rfl ?_
    refine e_getfield 1 dX9_guest_12 kf_X9_20_9 rfl rfl ?_
    refine e_iload_n 2 dX9_guest_15 rfl rfl ?_
    refine f_callVi (As := [_]) ok_X1_hasRoom ⟨Nat.le_of_ble_eq_true rfl, Nat.le_of_ble_eq_true rfl⟩ dX9_guest_16 kl_X9_88 ki_X1_hasRoom kv_X1_hasRoom rfl rfl rfl rfl (Nat.le_of_ble_eq_true rfl) (Nat.le_of_ble_eq_true rfl) (Nat.zero_add _) (Nat.zero_add _) sp_X1_hasRoom ?_
    refine e_if_ne (tgt := 24) dX9_guest_19 rfl (fun h19 => ?_) (fun h19 => ?_)
    · rw [e3] at h8
      rw [e1] at h19
      have hq : ¬ (¬ (¬ p < 0 ∧ ¬ nI (bn b 2) ≤ p) ∨ ¬ (¬ r < 0 ∧ ¬ nI (bn b 0) ≤ r)) := fun h => h.elim (fun h => h (bi_1.mp h8)) (fun h => h (bi_1.mp h19))
      obtain ⟨p, hp, rfl⟩ := ix_of (x := p) rfl (by omega) (bi_1.mp h8)
      obtain ⟨r, hr, rfl⟩ := ix_of (x := r) rfl (by omega) (bi_1.mp h19)
      refine e_iconst (v := 0) dX9_guest_24 rfl ?_
      refine e_istore_n (lv' := [_, _, _, _]) 3 dX9_guest_25 rfl (Nat.le_of_ble_eq_true rfl) rfl rfl ?_
      rw [oGuest, if_neg hq, nI_clamp (by omega), nI_clamp (by omega)]
      exact lp_X9_guest hR hI hp hr 31 0 rfl
    · rw [e3] at h8
      try rw [e1] at h19
      refine e_iconst (v := -1) dX9_guest_22 rfl ?_
      refine e_iret dX9_guest_23 rfl ?_
      have ho : oGuest b p r = -1 := by
        first
        | rw [oGuest, if_pos (Or.inl (bi_0.mp h8))]
        | rw [oGuest, if_pos (Or.inr (bi_0.mp h19))]
      rw [ho]
      exact ⟨rfl, rfl⟩

set_option maxRecDepth 4000 in
theorem lp_X9_grows {G : sh_G} {S : Nat → Int32} {A : Nat → Nat → Int32} {Lg : Nat → Int64} {P : Nat → Option Nat} {T : List sh_C} {b : sh_be} {p g r : Nat} (hR : RX S A Lg P T b) (hI : IV b) (hp : p < bn b 2) (hr : r < bn b 0) (hg : g < 10) : ∀ (m y : Nat), y + m = 31 → Ev G mX9_grows 0 0 (mkW G S A Lg P T) 40 [some (.ref 1), some (.int (nI p)), some (.int (nI g)), some (.int (nI r)), some (.int (nI y))] [] (sh_is (some (.int (grN (cmB b (ba b 5 p) r) (ba b 4 p) g m y))) (mkW G S A Lg P T)) := by
  have gp := hR.2.2.2.2.2.2.2.2.1 p hp
  have ip := hI.2.2.2.2.2.1 p hp
  have i1 := hI.1
  have i3 := hI.2.2.1
  intro m
  induction m with
  | zero =>
    intro y hy
    have e : y = 31 := by omega
    subst e
    refine e_iload dX9_grows_40 rfl ?_
    refine e_bipush (v := 30) dX9_grows_42 (by decide) ?_
    refine e_icmp_gt (tgt := 90) dX9_grows_44 rfl (fun _ => ?_) (fun h44 => absurd (by decide) h44)
    refine e_bipush (v := -9) dX9_grows_90 (by decide) ?_
    exact e_iret dX9_grows_92 rfl ⟨rfl, rfl⟩
  | succ m ih =>
    intro y hy
    have hgy : g * y ≤ 9 * 30 := Nat.mul_le_mul (by omega) (by omega)
    refine e_iload dX9_grows_40 rfl ?_
    refine e_bipush (v := 30) dX9_grows_42 (by decide) ?_
    refine e_icmp_gt (tgt := 90) dX9_grows_44 rfl (fun h44 => absurd h44 (by rw [show (30 : Int32) = nI 30 from rfl]; exact nI_nlt (by omega) (by omega))) (fun _ => ?_)
    refine e_aload_n 0 dX9_grows_47 rfl rfl ?_
    refine e_getfield 1 dX9_grows_48 kf_X9_20_9 rfl rfl ?_
    refine e_aload_n 0 dX9_grows_51 rfl rfl ?_
    refine e_getfield 2 dX9_grows_52 kf_X9_27_9 rfl rfl ?_
    refine e_getfield 2 dX9_grows_55 kf_X9_110_0 rfl rfl ?_
    refine e_iload_n 1 dX9_grows_58 rfl rfl ?_
    refine e_iald_n (p) dX9_grows_59 rfl rfl (by omega) (by decide) ?_
    refine e_iload_n 2 dX9_grows_60 rfl rfl ?_
    refine e_iload dX9_grows_61 rfl ?_
    refine e_imul dX9_grows_63 ?_
    refine e_iadd dX9_grows_64 ?_
    refine e_aload_n 0 dX9_grows_65 rfl rfl ?_
    refine e_getfield 2 dX9_grows_66 kf_X9_27_9 rfl rfl ?_
    refine e_getfield 3 dX9_grows_69 kf_X9_113_0 rfl rfl ?_
    refine e_iload_n 1 dX9_grows_72 rfl rfl ?_
    refine e_iald_n (p) dX9_grows_73 rfl rfl (by omega) (by decide) ?_
    refine e_iload_n 3 dX9_grows_74 rfl rfl ?_
    rw [gp.1, gp.2, pk_mul, nI_add]
    refine f_callVi (As := [_, _, _]) ok_X1_reaches ⟨Nat.le_of_ble_eq_true rfl, Nat.le_of_ble_eq_true rfl⟩ dX9_grows_75 kl_X9_179 ki_X1_reaches kv_X1_reaches rfl rfl rfl rfl (Nat.le_of_ble_eq_true rfl) (Nat.le_of_ble_eq_true rfl) (Nat.zero_add _) (Nat.zero_add _) (sp_X1_reaches hR hI (by omega) ip.2.2 hr) ?_
    refine e_if_ne (tgt := 84) dX9_grows_78 rfl (fun h78 => ?_) (fun h78 => ?_)
    · refine e_iinc (v := _ + 1) (lv' := [_, _, _, _, _]) dX9_grows_84 rfl (Nat.le_of_ble_eq_true rfl) rfl rfl rfl ?_
      refine e_goto (tgt := 40) dX9_grows_87 rfl ?_
      rw [nI_1]
      have := ih (y + 1) (by omega)
      rw [grN, if_pos (bi_1.mp h78)]
      exact this
    · refine e_iload dX9_grows_81 rfl ?_
      refine e_iret dX9_grows_83 rfl ?_
      exact is_i (by rw [grN, if_neg (bi_0.mp h78)]) rfl

set_option maxRecDepth 4000 in
theorem sp_X9_grows {G : sh_G} {S : Nat → Int32} {A : Nat → Nat → Int32} {Lg : Nat → Int64} {P : Nat → Option Nat} {T : List sh_C} {b : sh_be} {p g r : Int32} (hR : RX S A Lg P T b) (hI : IV b) : Ev G mX9_grows 0 0 (mkW G S A Lg P T) 0 [some (.ref 1), some (.int p), some (.int g), some (.int r), none] [] (sh_is (some (.int (oGrows b p g r))) (mkW G S A Lg P T)) := by
  have e1 := hR.2.1
  have e2 := hR.2.2.1
  have e3 := hR.2.2.2.1
  have e4 := hR.2.2.2.2.1
  have i1 := hI.1
  have i2 := hI.2.1
  have i3 := hI.2.2.1
  have i4 := hI.2.2.2.1
  refine e_aload_n 0 dX9_grows_0 rfl rfl ?_
  refine e_getfield 2 dX9_grows_1 kf_X9_27_9 rfl rfl ?_
  refine e_iload_n 1 dX9_grows_4 rfl rfl ?_
  refine f_callVi (As := [_]) ok_X0_hasPerson ⟨Nat.le_of_ble_eq_true rfl, Nat.le_of_ble_eq_true rfl⟩ dX9_grows_5 kl_X9_107 ki_X0_hasPerson kv_X0_hasPerson rfl rfl rfl rfl (Nat.le_of_ble_eq_true rfl) (Nat.le_of_ble_eq_true rfl) (Nat.zero_add _) (Nat.zero_add _) sp_X0_hasPerson ?_
  refine e_if_eq (tgt := 22) dX9_grows_8 rfl (fun h8 => ?_) (fun h8 => ?_)
  · rw [e3] at h8
    try rw [e1] at h19
    refine e_iconst (v := -1) dX9_grows_22 rfl ?_
    refine e_iret dX9_grows_23 rfl ?_
    have ho : oGrows b p g r = -1 := by
      first
      | rw [oGrows, if_pos (Or.inl (bi_0.mp h8))]
      | rw [oGrows, if_pos (Or.inr (bi_0.mp h19))]
    rw [ho]
    exact ⟨rfl, rfl⟩
  · refine e_aload_n 0 dX9_grows_11 rfl rfl ?_
    refine e_getfield 1 dX9_grows_12 kf_X9_20_9 rfl rfl ?_
    refine e_iload_n 3 dX9_grows_15 rfl rfl ?_
    refine f_callVi (As := [_]) ok_X1_hasRoom ⟨Nat.le_of_ble_eq_true rfl, Nat.le_of_ble_eq_true rfl⟩ dX9_grows_16 kl_X9_88 ki_X1_hasRoom kv_X1_hasRoom rfl rfl rfl rfl (Nat.le_of_ble_eq_true rfl) (Nat.le_of_ble_eq_true rfl) (Nat.zero_add _) (Nat.zero_add _) sp_X1_hasRoom ?_
    refine e_if_ne (tgt := 24) dX9_grows_19 rfl (fun h19 => ?_) (fun h19 => ?_)
    · rw [e3] at h8
      rw [e1] at h19
      have hq : ¬ (¬ (¬ p < 0 ∧ ¬ nI (bn b 2) ≤ p) ∨ ¬ (¬ r < 0 ∧ ¬ nI (bn b 0) ≤ r)) := fun h => h.elim (fun h => h (bi_1.mp h8)) (fun h => h (bi_1.mp h19))
      obtain ⟨p, hp, rfl⟩ := ix_of (x := p) rfl (by omega) (bi_1.mp h8)
      obtain ⟨r, hr, rfl⟩ := ix_of (x := r) rfl (by omega) (bi_1.mp h19)
      refine e_iload_n 2 dX9_grows_24 rfl rfl ?_
      refine e_if_lt (tgt := 34) dX9_grows_25 rfl (fun h25 => ?_) (fun h25 => ?_)
      · refine e_bipush (v := -2) dX9_grows_34 (by decide) ?_
        refine e_iret dX9_grows_36 rfl ?_
        have ho : oGrows b (nI p) g (nI r) = -2 := by
          have hg : ¬ (¬ g < 0 ∧ ¬ 9 < g) := by
            intro h
            first
            | exact h.1 h25
            | exact h.2 (Int32.not_le.mp h31)
          rw [oGrows, if_neg hq, if_pos hg]
        rw [ho]
        exact ⟨rfl, rfl⟩
      · refine e_iload_n 2 dX9_grows_28 rfl rfl ?_
        refine e_bipush (v := 9) dX9_grows_29 (by decide) ?_
        refine e_icmp_le (tgt := 37) dX9_grows_31 rfl (fun h31 => ?_) (fun h31 => ?_)
        · have hgg : ¬ g < 0 ∧ ¬ 9 < g := ⟨h25, Int32.not_lt.mpr h31⟩
          obtain ⟨g, hg, rfl⟩ := ix_of (x := g) (n := 10) rfl (by omega) ⟨h25, fun h => hgg.2 (i_t7 h)⟩
          refine e_iconst (v := 0) dX9_grows_37 rfl ?_
          refine e_istore (lv' := [_, _, _, _, _]) dX9_grows_38 (Nat.le_of_ble_eq_true rfl) rfl rfl ?_
          rw [oGrows, if_neg hq, if_neg (nn_ hgg), nI_clamp (by omega), nI_clamp (by omega), nI_clamp (by omega)]
          exact lp_X9_grows hR hI hp hr hg 31 0 rfl
        · refine e_bipush (v := -2) dX9_grows_34 (by decide) ?_
          refine e_iret dX9_grows_36 rfl ?_
          have ho : oGrows b (nI p) g (nI r) = -2 := by
            have hg : ¬ (¬ g < 0 ∧ ¬ 9 < g) := by
              intro h
              first
              | exact h.1 h25
              | exact h.2 (Int32.not_le.mp h31)
            rw [oGrows, if_neg hq, if_pos hg]
          rw [ho]
          exact ⟨rfl, rfl⟩
    · rw [e3] at h8
      try rw [e1] at h19
      refine e_iconst (v := -1) dX9_grows_22 rfl ?_
      refine e_iret dX9_grows_23 rfl ?_
      have ho : oGrows b p g r = -1 := by
        first
        | rw [oGrows, if_pos (Or.inl (bi_0.mp h8))]
        | rw [oGrows, if_pos (Or.inr (bi_0.mp h19))]
      rw [ho]
      exact ⟨rfl, rfl⟩
