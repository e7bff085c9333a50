set_option maxRecDepth 4000 in
theorem lp_X9_passesAll {G : sh_G} {S : Nat → Int32} {A : Nat → Nat → Int32} {Lg : Nat → Int64} {P : Nat → Option Nat} {T : List sh_C} {b : sh_be} {j a m : Nat} {z : Nat × Nat} {w r : Nat} (hR : RX S A Lg P T b) (hI : IV b) (hj : j < 4) (hz : bz b j = some z) (ham : a + m ≤ z.2) (hok : okD b j a m = true) (hr : r < bn b 0) (hw : w < 2 ^ 20) : ∀ (y q : Nat), m - q < y → q ≤ m → Ev G mX9_passesAll 0 0 (mkW G S A Lg P T) 7 [some (.ref 1), some (.ref (17 + 2 * j)), some (.int (nI a)), some (.int (nI m)), some (.int (nI w)), some (.int (nI r)), some (.int (oI (psN b j a w r q))), some (.int (nI (a + q)))] [] (sh_is (some (.int (bi ((psN b j a w r m).isSome = true)))) (mkW G S A Lg P T)) := by
  have e1 := hR.2.1
  have e2 := hR.2.2.1
  have e3 := hR.2.2.2.1
  have e4 := hR.2.2.2.2.1
  have i1 := hI.1
  have i2 := hI.2.1
  have i3 := hI.2.2.1
  have i4 := hI.2.2.2.1
  have hzl := (IV.l hI hj z hz).2
  obtain ⟨x1, x2, x3⟩ := shX_s (hR.2.2.2.2.2.2.1 j hj) hz
  intro y
  induction y with
  | zero => intro q h; omega
  | succ y ih =>
    intro q hm hq
    refine e_iload dX9_passesAll_7 rfl ?_
    refine e_iload_n 2 dX9_passesAll_9 rfl rfl ?_
    refine e_iload_n 3 dX9_passesAll_10 rfl rfl ?_
    refine e_iadd dX9_passesAll_11 ?_
    rw [nI_add]
    refine e_icmp_ge (tgt := 48) dX9_passesAll_12 rfl (fun h12 => ?_) (fun h12 => ?_)
    · have hfin : oI (psN b j a w r q) = -1 ↔ psN b j a w r m = none := by
        have hmm : psN b j a w r q = none ∨ q = m := by
          first
          | (right; rw [nI_leI (by omega) (by omega)] at h12; omega)
          | (left; exact (oI_m1 (fun t ht => by have := psN_lt hI hok hr (by omega) ht; omega)).mp h18)
        rw [oI_m1 (fun t ht => by have := psN_lt hI hok hr (by omega) ht; omega)]
        rcases hmm with hmm | rfl
        · exact ⟨fun _ => psN_none hmm m hq, fun _ => hmm⟩
        · exact Iff.rfl
      refine e_iload dX9_passesAll_48 rfl ?_
      refine e_iconst (v := -1) dX9_passesAll_50 rfl ?_
      refine e_icmp_eq (tgt := 58) dX9_passesAll_51 rfl (fun h51 => ?_) (fun h51 => ?_)
      · refine e_iconst (v := 0) dX9_passesAll_58 rfl ?_
        refine e_zret dX9_passesAll_59 rfl rfl ?_
        refine is_i ?_ rfl
        first
        | (rw [hfin] at h51; rw [h51]; rfl)
        | (rw [hfin] at h51
           rcases ho : psN b j a w r m with _ | t
           · exact absurd ho h51
           · rfl)
      · refine e_iconst (v := 1) dX9_passesAll_54 rfl ?_
        refine e_goto (tgt := 59) dX9_passesAll_55 rfl ?_
        refine e_zret dX9_passesAll_59 rfl rfl ?_
        refine is_i ?_ rfl
        first
        | (rw [hfin] at h51; rw [h51]; rfl)
        | (rw [hfin] at h51
           rcases ho : psN b j a w r m with _ | t
           · exact absurd ho h51
           · rfl)
    · have hlt : q < m := by rw [nI_leI (by omega) (by omega)] at h12; omega
      refine e_iload dX9_passesAll_15 rfl ?_
      refine e_iconst (v := -1) dX9_passesAll_17 rfl ?_
      refine e_icmp_eq (tgt := 48) dX9_passesAll_18 rfl (fun h18 => ?_) (fun h18 => ?_)
      · have hfin : oI (psN b j a w r q) = -1 ↔ psN b j a w r m = none := by
          have hmm : psN b j a w r q = none ∨ q = m := by
            first
            | (right; rw [nI_leI (by omega) (by omega)] at h12; omega)
            | (left; exact (oI_m1 (fun t ht => by have := psN_lt hI hok hr (by omega) ht; omega)).mp h18)
          rw [oI_m1 (fun t ht => by have := psN_lt hI hok hr (by omega) ht; omega)]
          rcases hmm with hmm | rfl
          · exact ⟨fun _ => psN_none hmm m hq, fun _ => hmm⟩
          · exact Iff.rfl
        refine e_iload dX9_passesAll_48 rfl ?_
        refine e_iconst (v := -1) dX9_passesAll_50 rfl ?_
        refine e_icmp_eq (tgt := 58) dX9_passesAll_51 rfl (fun h51 => ?_) (fun h51 => ?_)
        · refine e_iconst (v := 0) dX9_passesAll_58 rfl ?_
          refine e_zret dX9_passesAll_59 rfl rfl ?_
          refine is_i ?_ rfl
          first
          | (rw [hfin] at h51; rw [h51]; rfl)
          | (rw [hfin] at h51
             rcases ho : psN b j a w r m with _ | t
             · exact absurd ho h51
             · rfl)
        · refine e_iconst (v := 1) dX9_passesAll_54 rfl ?_
          refine e_goto (tgt := 59) dX9_passesAll_55 rfl ?_
          refine e_zret dX9_passesAll_59 rfl rfl ?_
          refine is_i ?_ rfl
          first
          | (rw [hfin] at h51; rw [h51]; rfl)
          | (rw [hfin] at h51
             rcases ho : psN b j a w r m with _ | t
             · exact absurd ho h51
             · rfl)
      · obtain ⟨t, ht⟩ : ∃ t, psN b j a w r q = some t := by
          rcases ht : psN b j a w r q with _ | t
          · rw [ht] at h18; exact absurd rfl h18
          · exact ⟨t, rfl⟩
        have htl := psN_lt hI hok hr (by omega) ht
        obtain ⟨d, hd, ed⟩ := ix_of (n := bn b 1) rfl (by omega) (okD_at hok q hlt)
        obtain ⟨y, hP, hT, k1, k2, k3, k4, k5, k6⟩ := hR.dr hI hd
        have hnx : psN b j a w r (q + 1) = bBe b d t w := by rw [psN_s ht, ed, nI_clamp (by omega)]
        refine e_aload_n 0 dX9_passesAll_21 rfl rfl ?_
        refine e_getfield 1 dX9_passesAll_22 kf_X9_20_9 rfl rfl ?_
        refine e_getfield 2 dX9_passesAll_25 kf_X9_78_1 rfl rfl ?_
        refine e_aload_n 1 dX9_passesAll_28 rfl rfl ?_
        refine e_iload dX9_passesAll_29 rfl ?_
        refine e_iald_n (a + q) dX9_passesAll_31 (mkW_sc hj) rfl (by omega) (by decide) ?_
        rw [x3 (a + q) (by omega), ed]
        refine e_aald_n (d) dX9_passesAll_32 rfl (Or.inl rfl) rfl (by omega) (by decide) hP ?_
        refine e_iload dX9_passesAll_33 rfl ?_
        rw [ht]
        refine e_iload dX9_passesAll_35 rfl ?_
        refine f_callBi (As := [_, _]) ok_X4_beyond ⟨Nat.le_of_ble_eq_true rfl, Nat.le_of_ble_eq_true rfl⟩ dX9_passesAll_37 rfl kl_X9_149 ki_X4_beyond kv_X4_beyond kx_X7_X4_beyond_X4 kx_X8_X4_beyond_X4 kq_X4_X4_beyond rfl rfl (mkW_T.trans hT) k1 (Nat.le_of_ble_eq_true rfl) (Nat.le_of_ble_eq_true rfl) (sp_X4_beyond hT k1 (by omega) (by omega) (by omega) (by omega) (by omega)) ?_
        refine e_istore (lv' := [_, _, _, _, _, _, _, _]) dX9_passesAll_40 (Nat.le_of_ble_eq_true rfl) rfl rfl ?_
        refine e_iinc (v := _ + 1) (lv' := [_, _, _, _, _, _, _, _]) dX9_passesAll_42 rfl (Nat.le_of_ble_eq_true rfl) rfl rfl rfl ?_
        refine e_goto (tgt := 7) dX9_passesAll_45 rfl ?_
        rw [nI_1]
        have := ih (q + 1) (by omega) (by omega)
        rw [hnx] at this
        exact this

set_option maxRecDepth 4000 in
theorem sp_X9_passesAll {G : sh_G} {S : Nat → Int32} {A : Nat → Nat → Int32} {Lg : Nat → Int64} {P : Nat → Option Nat} {T : List sh_C} {b : sh_be} {j a m : Nat} {z : Nat × Nat} {w r : Nat} (hR : RX S A Lg P T b) (hI : IV b) (hj : j < 4) (hz : bz b j = some z) (ham : a + m ≤ z.2) (hok : okD b j a m = true) (hr : r < bn b 0) (hw : w < 2 ^ 20) : Ev G mX9_passesAll 0 0 (mkW G S A Lg P T) 0 [some (.ref 1), some (.ref (17 + 2 * j)), some (.int (nI a)), some (.int (nI m)), some (.int (nI w)), some (.int (nI r)), none, none] [] (sh_is (some (.int (bi ((psN b j a w r m).isSome = true)))) (mkW G S A Lg P T)) := by
  refine e_iload dX9_passesAll_0 rfl ?_
  refine e_istore (lv' := [_, _, _, _, _, _, _, _]) dX9_passesAll_2 (Nat.le_of_ble_eq_true rfl) rfl rfl ?_
  refine e_iload_n 2 dX9_passesAll_4 rfl rfl ?_
  refine e_istore (lv' := [_, _, _, _, _, _, _, _]) dX9_passesAll_5 (Nat.le_of_ble_eq_true rfl) rfl rfl ?_
  exact lp_X9_passesAll hR hI hj hz ham hok hr hw (m + 1) 0 (by omega) (by omega)

set_option maxRecDepth 4000 in
theorem lp_X9_doorsRefused {G : sh_G} {S : Nat → Int32} {A : Nat → Nat → Int32} {Lg : Nat → Int64} {P : Nat → Option Nat} {T : List sh_C} {b : sh_be} {j a m : Nat} {z : Nat × Nat} {lane x : Int32} (hR : RX S A Lg P T b) (hI : IV b) (hj : j < 4) (hz : bz b j = some z) (ham : a + m ≤ z.2) : ∀ (y q : Nat), m - q < y → q ≤ m → okD b j a q = true → Ev G mX9_doorsRefused 0 0 (mkW G S A Lg P T) 22 [some (.ref 1), some (.int (nI j)), some (.int lane), some (.int (nI a)), some (.int (nI m)), some (.int x), some (.int (nI (a + q)))] [] (sh_is (some (.int (if okD b j a m = true then 0 else -1))) (mkW G S A Lg P T)) := by
  have e1 := hR.2.1
  have e2 := hR.2.2.1
  have e3 := hR.2.2.2.1
  have e4 := hR.2.2.2.2.1
  have i1 := hI.1
  have i2 := hI.2.1
  have i3 := hI.2.2.1
  have i4 := hI.2.2.2.1
  have hzl := (IV.l hI hj z hz).2
  obtain ⟨x1, x2, x3⟩ := shX_s (hR.2.2.2.2.2.2.1 j hj) hz
  intro y
  induction y with
  | zero => intro q h; omega
  | succ y ih =>
    intro q hm hq hok
    refine e_iload dX9_doorsRefused_22 rfl ?_
    refine e_iload_n 3 dX9_doorsRefused_24 rfl rfl ?_
    refine e_iload dX9_doorsRefused_25 rfl ?_
    refine e_iadd dX9_doorsRefused_27 ?_
    rw [nI_add]
    refine e_icmp_ge (tgt := 61) dX9_doorsRefused_28 rfl (fun h28 => ?_) (fun h28 => ?_)
    · have e : q = m := by rw [nI_leI (by omega) (by omega)] at h28; omega
      subst e
      refine e_iconst (v := 0) dX9_doorsRefused_61 rfl ?_
      refine e_iret dX9_doorsRefused_62 rfl ?_
      exact is_i (by rw [if_pos hok]) rfl
    · have hlt : q < m := by rw [nI_leI (by omega) (by omega)] at h28; omega
      refine e_aload_n 0 dX9_doorsRefused_31 rfl rfl ?_
      refine e_getfield 1 dX9_doorsRefused_32 kf_X9_20_9 rfl rfl ?_
      refine e_aload_n 0 dX9_doorsRefused_35 rfl rfl ?_
      refine e_getfield 0 dX9_doorsRefused_36 kf_X9_13_9 rfl rfl ?_
      refine e_iload_n 1 dX9_doorsRefused_39 rfl rfl ?_
      refine e_aald_n (j) dX9_doorsRefused_40 rfl (Or.inr rfl) rfl (by omega) (by decide) (sh_shs_at hj) ?_
      refine e_getfield 0 dX9_doorsRefused_41 kf_X9_52_3 (mkW_sh hj) rfl ?_
      refine e_iload dX9_doorsRefused_44 rfl ?_
      refine e_iald_n (a + q) dX9_doorsRefused_46 (mkW_sc hj) rfl (by omega) (by decide) ?_
      rw [x3 (a + q) (by omega)]
      refine f_callVi (As := [_]) ok_X1_hasDoor ⟨Nat.le_of_ble_eq_true rfl, Nat.le_of_ble_eq_true rfl⟩ dX9_doorsRefused_47 kl_X9_74 ki_X1_hasDoor kv_X1_hasDoor rfl rfl rfl rfl (Nat.le_of_ble_eq_true rfl) (Nat.le_of_ble_eq_true rfl) (Nat.zero_add _) (Nat.zero_add _) sp_X1_hasDoor ?_
      rw [e2]
      refine e_if_ne (tgt := 55) dX9_doorsRefused_50 rfl (fun h50 => ?_) (fun h50 => ?_)
      · refine e_iinc (v := _ + 1) (lv' := [_, _, _, _, _, _, _]) dX9_doorsRefused_55 rfl (Nat.le_of_ble_eq_true rfl) rfl rfl rfl ?_
        refine e_goto (tgt := 22) dX9_doorsRefused_58 rfl ?_
        rw [nI_1]
        exact ih (q + 1) (by omega) (by omega) (okD_s hok (bi_1.mp h50))
      · refine e_iconst (v := -1) dX9_doorsRefused_53 rfl ?_
        refine e_iret dX9_doorsRefused_54 rfl ?_
        exact is_i (by rw [if_neg (okD_no (bi_0.mp h50) hlt)]) rfl

set_option maxRecDepth 4000 in
theorem sp_X9_doorsRefused {G : sh_G} {S : Nat → Int32} {A : Nat → Nat → Int32} {Lg : Nat → Int64} {P : Nat → Option Nat} {T : List sh_C} {b : sh_be} {k lane i n : Int32} (hR : RX S A Lg P T b) (hI : IV b) : Ev G mX9_doorsRefused 0 0 (mkW G S A Lg P T) 0 [some (.ref 1), some (.int k), some (.int lane), some (.int i), some (.int n), none, none] [] (sh_is (some (.int (oDrs b k lane i n))) (mkW G (va_up S 0 (fOf (oRef b k lane i n))) A Lg P T)) := by
  refine e_aload_n 0 dX9_doorsRefused_0 rfl rfl ?_
  refine e_iload_n 1 dX9_doorsRefused_1 rfl rfl ?_
  refine e_iload_n 2 dX9_doorsRefused_2 rfl rfl ?_
  refine e_iload_n 3 dX9_doorsRefused_3 rfl rfl ?_
  refine e_iload dX9_doorsRefused_4 rfl ?_
  refine f_callVi (As := [_, _, _, _]) ok_X9_cellsRefused ⟨Nat.le_of_ble_eq_true rfl, Nat.le_of_ble_eq_true rfl⟩ dX9_doorsRefused_6 kl_X9_46 ki_X9_cellsRefused kv_X9_cellsRefused rfl rfl rfl rfl (Nat.le_of_ble_eq_true rfl) (Nat.le_of_ble_eq_true rfl) (Nat.zero_add _) (Nat.zero_add _) (sp_X9_cellsRefused hR hI) ?_
  refine e_istore (lv' := [_, _, _, _, _, _, _]) dX9_doorsRefused_9 (Nat.le_of_ble_eq_true rfl) rfl rfl ?_
  refine e_iload dX9_doorsRefused_11 rfl ?_
  refine e_if_eq (tgt := 19) dX9_doorsRefused_13 rfl (fun h13 => ?_) (fun h13 => ?_)
  · refine e_iload_n 3 dX9_doorsRefused_19 rfl rfl ?_
    refine e_istore (lv' := [_, _, _, _, _, _, _]) dX9_doorsRefused_20 (Nat.le_of_ble_eq_true rfl) rfl rfl ?_
    obtain ⟨j, hj, rfl, z, hz, -, a, m, ham, rfl, rfl⟩ := oRef_ok hI h13
    have hzl := (IV.l hI hj z hz).2
    rw [oDrs, if_neg (nn_ h13), h13, nI_clamp (by omega), nI_clamp (by omega), nI_clamp (by omega)]
    have h := lp_X9_doorsRefused (G := G) (b := uF_ b 0) (lane := lane) (x := 0) (hR.F 0) hI hj hz ham (m + 1) 0 (by omega) (by omega) rfl
    rw [okD_F] at h
    exact h
  · refine e_iload dX9_doorsRefused_16 rfl ?_
    refine e_iret dX9_doorsRefused_18 rfl ?_
    exact is_i (by rw [oDrs, if_pos h13]) rfl

set_option maxRecDepth 4000 in
theorem lp_X9_heard {G : sh_G} {S : Nat → Int32} {A : Nat → Nat → Int32} {Lg : Nat → Int64} {P : Nat → Option Nat} {T : List sh_C} {b : sh_be} {j a m : Nat} {z : Nat × Nat} {lane x : Int32} (hR : RX S A Lg P T b) (hI : IV b) (hj : j < 4) (hz : bz b j = some z) (ham : a + m ≤ z.2) (hok : okD b j a m = true) : ∀ (y q : Nat), bn b 2 - q < y → q ≤ bn b 2 → Ev G mX9_heard 0 0 (mkW G S A Lg P T) 25 [some (.ref 1), some (.int (nI j)), some (.int lane), some (.int (nI a)), some (.int (nI m)), some (.int x), some (.int (nI (hdN b j a m q))), some (.int (nI q))] [] (sh_is (some (.int (nI (hdN b j a m (bn b 2))))) (mkW G S A Lg P T)) := by
  have e1 := hR.2.1
  have e2 := hR.2.2.1
  have e3 := hR.2.2.2.1
  have e4 := hR.2.2.2.2.1
  have i1 := hI.1
  have i2 := hI.2.1
  have i3 := hI.2.2.1
  have i4 := hI.2.2.2.1
  have hzl := (IV.l hI hj z hz).2
  obtain ⟨x1, x2, x3⟩ := shX_s (hR.2.2.2.2.2.2.1 j hj) hz
  intro y
  induction y with
  | zero => intro q h; omega
  | succ y ih =>
    intro q hm hq
    refine e_iload dX9_heard_25 rfl ?_
    refine e_aload_n 0 dX9_heard_27 rfl rfl ?_
    refine e_getfield 2 dX9_heard_28 kf_X9_27_9 rfl rfl ?_
    refine e_getfield 0 dX9_heard_31 kf_X9_94_0 rfl rfl ?_
    refine e_icmp_ge (tgt := 90) dX9_heard_34 rfl (fun h34 => ?_) (fun h34 => ?_)
    · have e : q = bn b 2 := by rw [e3, nI_leI (by omega) (by omega)] at h34; omega
      subst e
      refine e_iload dX9_heard_90 rfl ?_
      exact e_iret dX9_heard_92 rfl ⟨rfl, rfl⟩
    · have hlt : q < bn b 2 := by rw [e3, nI_leI (by omega) (by omega)] at h34; omega
      have gp := (hR.2.2.2.2.2.2.2.2.1 q hlt).2
      have ip := (hI.2.2.2.2.2.1 q hlt).2.2
      refine e_aload_n 0 dX9_heard_37 rfl rfl ?_
      refine e_aload_n 0 dX9_heard_38 rfl rfl ?_
      refine e_getfield 0 dX9_heard_39 kf_X9_13_9 rfl rfl ?_
      refine e_iload_n 1 dX9_heard_42 rfl rfl ?_
      refine e_aald_n (j) dX9_heard_43 rfl (Or.inr rfl) rfl (by omega) (by decide) (sh_shs_at hj) ?_
      refine e_getfield 0 dX9_heard_44 kf_X9_52_3 (mkW_sh hj) rfl ?_
      refine e_iload_n 3 dX9_heard_47 rfl rfl ?_
      refine e_iload dX9_heard_48 rfl ?_
      refine e_aload_n 0 dX9_heard_50 rfl rfl ?_
      refine e_getfield 2 dX9_heard_51 kf_X9_27_9 rfl rfl ?_
      refine e_iload dX9_heard_54 rfl ?_
      refine f_callVi (As := [_]) ok_X0_weightWithStones ⟨Nat.le_of_ble_eq_true rfl, Nat.le_of_ble_eq_true rfl⟩ dX9_heard_56 kl_X9_119 ki_X0_weightWithStones kv_X0_weightWithStones rfl rfl rfl rfl (Nat.le_of_ble_eq_true rfl) (Nat.le_of_ble_eq_true rfl) (Nat.zero_add _) (Nat.zero_add _) (sp_X0_weightWithStones hR hI hlt) ?_
      refine e_aload_n 0 dX9_heard_59 rfl rfl ?_
      refine e_getfield 2 dX9_heard_60 kf_X9_27_9 rfl rfl ?_
      refine e_getfield 3 dX9_heard_63 kf_X9_113_0 rfl rfl ?_
      refine e_iload dX9_heard_66 rfl ?_
      refine e_iald_n (q) dX9_heard_68 rfl rfl (by omega) (by decide) ?_
      rw [gp]
      refine f_callVi (As := [_, _, _, _, _]) ok_X9_passesAll ⟨Nat.le_of_ble_eq_true rfl, Nat.le_of_ble_eq_true rfl⟩ dX9_heard_69 kl_X9_197 ki_X9_passesAll kv_X9_passesAll rfl rfl rfl rfl (Nat.le_of_ble_eq_true rfl) (Nat.le_of_ble_eq_true rfl) (Nat.zero_add _) (Nat.zero_add _) (sp_X9_passesAll hR hI hj hz ham hok ip (wN_20 hI hlt)) ?_
      refine e_if_eq (tgt := 84) dX9_heard_72 rfl (fun h72 => ?_) (fun h72 => ?_)
      · refine e_iinc (v := _ + 1) (lv' := [_, _, _, _, _, _, _, _]) dX9_heard_84 rfl (Nat.le_of_ble_eq_true rfl) rfl rfl rfl ?_
        refine e_goto (tgt := 25) dX9_heard_87 rfl ?_
        rw [nI_1]
        have := ih (q + 1) (by omega) (by omega)
        first
        | (rw [hdN, if_neg (bi_0.mp h72), Nat.or_zero] at this; exact this)
        | (rw [hdN, if_pos (bi_1.mp h72), ← fa_or] at this; rw [sh1 (by omega)]; exact this)
      · refine e_iload dX9_heard_75 rfl ?_
        refine e_iconst (v := 1) dX9_heard_77 rfl ?_
        refine e_iload dX9_heard_78 rfl ?_
        refine e_ishl dX9_heard_80 ?_
        refine e_ior dX9_heard_81 ?_
        refine e_istore (lv' := [_, _, _, _, _, _, _, _]) dX9_heard_82 (Nat.le_of_ble_eq_true rfl) rfl rfl ?_
        refine e_iinc (v := _ + 1) (lv' := [_, _, _, _, _, _, _, _]) dX9_heard_84 rfl (Nat.le_of_ble_eq_true rfl) rfl rfl rfl ?_
        refine e_goto (tgt := 25) dX9_heard_87 rfl ?_
        rw [nI_1]
        have := ih (q + 1) (by omega) (by omega)
        first
        | (rw [hdN, if_neg (bi_0.mp h72), Nat.or_zero] at this; exact this)
        | (rw [hdN, if_pos (bi_1.mp h72), ← fa_or] at this; rw [sh1 (by omega)]; exact this)

set_option maxRecDepth 4000 in
theorem sp_X9_heard {G : sh_G} {S : Nat → Int32} {A : Nat → Nat → Int32} {Lg : Nat → Int64} {P : Nat → Option Nat} {T : List sh_C} {b : sh_be} {k lane i n : Int32} (hR : RX S A Lg P T b) (hI : IV b) : Ev G mX9_heard 0 0 (mkW G S A Lg P T) 0 [some (.ref 1), some (.int k), some (.int lane), some (.int i), some (.int n), none, none, none] [] (QX G S A (some (.int (oHeard b k lane i n).1)) (oHeard b k lane i n).2) := by
  refine e_aload_n 0 dX9_heard_0 rfl rfl ?_
  refine e_iload_n 1 dX9_heard_1 rfl rfl ?_
  refine e_iload_n 2 dX9_heard_2 rfl rfl ?_
  refine e_iload_n 3 dX9_heard_3 rfl rfl ?_
  refine e_iload dX9_heard_4 rfl ?_
  refine f_callVi (As := [_, _, _, _]) ok_X9_doorsRefused ⟨Nat.le_of_ble_eq_true rfl, Nat.le_of_ble_eq_true rfl⟩ dX9_heard_6 kl_X9_194 ki_X9_doorsRefused kv_X9_doorsRefused rfl rfl rfl rfl (Nat.le_of_ble_eq_true rfl) (Nat.le_of_ble_eq_true rfl) (Nat.zero_add _) (Nat.zero_add _) (sp_X9_doorsRefused hR hI) ?_
  refine e_istore (lv' := [_, _, _, _, _, _, _, _]) dX9_heard_9 (Nat.le_of_ble_eq_true rfl) rfl rfl ?_
  refine e_iload dX9_heard_11 rfl ?_
  refine e_if_eq (tgt := 19) dX9_heard_13 rfl (fun h13 => ?_) (fun h13 => ?_)
  · have hrf := (oDrs_ok hI h13).1
    obtain ⟨-, j, z, a, m, hj, rfl, hz, rfl, rfl, ham, hzl, hok⟩ := oDrs_ok hI h13
    have hR1 : RX (va_up S 0 0) A Lg P T (uF_ b 0) := hR.F 0
    have hI1 : IV (uF_ b 0) := hI
    rw [hrf]
    refine e_w (w' := mkW G (va_up S 0 0) A Lg P T) rfl ?_
    refine e_iconst (v := 0) dX9_heard_19 rfl ?_
    refine e_istore (lv' := [_, _, _, _, _, _, _, _]) dX9_heard_20 (Nat.le_of_ble_eq_true rfl) rfl rfl ?_
    refine e_iconst (v := 0) dX9_heard_22 rfl ?_
    refine e_istore (lv' := [_, _, _, _, _, _, _, _]) dX9_heard_23 (Nat.le_of_ble_eq_true rfl) rfl rfl ?_
    refine e_q (lp_X9_heard hR1 hI1 hj hz ham ((okD_F _).trans hok) (bn b 2 + 1) 0 (by have : bn (uF_ b 0) 2 = bn b 2 := rfl; omega) (by omega)) (fun v w' hw => ?_)
    obtain ⟨rfl, rfl⟩ := hw
    have ho : oHeard b (nI j) lane (nI a) (nI m) = (nI (hdN b j a m (bn b 2)), uF_ b 0) := by
      rw [oHeard, if_neg (nn_ h13), nI_clamp (by omega), nI_clamp (by omega), nI_clamp (by omega)]
    rw [ho]
    exact ⟨_, A, Lg, P, T, rfl, congrArg some (congrArg Value.int (congrArg nI (hdN_F _))), hR1, FX.S (by omega)⟩
  · refine e_iload dX9_heard_16 rfl ?_
    refine e_iret dX9_heard_18 rfl ?_
    have ho : oHeard b k lane i n = (oDrs b k lane i n, uF_ b (fOf (oRef b k lane i n))) := by
      rw [oHeard, if_pos h13]
    rw [ho]
    exact ⟨_, A, Lg, P, T, rfl, rfl, hR.F _, FX.S (by omega)⟩

set_option maxRecDepth 4000 in
theorem lp_X9_byStrangers {G : sh_G} {S : Nat → Int32} {A : Nat → Nat → Int32} {Lg : Nat → Int64} {P : Nat → Option Nat} {T : List sh_C} {b : sh_be} {j a m : Nat} {z : Nat × Nat} {r : Nat} {lane x : Int32} (hR : RX S A Lg P T b) (hI : IV b) (hj : j < 4) (hz : bz b j = some z) (ham : a + m ≤ z.2) (hok : okD b j a m = true) (hr : r < bn b 0) : ∀ (y w c : Nat), w + y = 100 → Ev G mX9_byStrangers 0 0 (mkW G S A Lg P T) 45 [some (.ref 1), some (.int (nI r)), some (.int (nI j)), some (.int lane), some (.int (nI a)), some (.int (nI m)), some (.int x), some (.int (nI c)), some (.int (nI w))] [] (sh_is (some (.int (nI (bsN (fun w => (psN b j a w r m).isSome) y w c)))) (mkW G S A Lg P T)) := by
  have hzl := (IV.l hI hj z hz).2
  obtain ⟨x1, x2, x3⟩ := shX_s (hR.2.2.2.2.2.2.1 j hj) hz
  intro y
  induction y with
  | zero =>
    intro w c hw
    have e : w = 100 := by omega
    subst e
    refine e_iload dX9_byStrangers_45 rfl ?_
    refine e_bipush (v := 99) dX9_byStrangers_47 (by decide) ?_
    refine e_icmp_gt (tgt := 84) dX9_byStrangers_49 rfl (fun _ => ?_) (fun h49 => absurd (by decide) h49)
    refine e_iload dX9_byStrangers_84 rfl ?_
    exact e_iret dX9_byStrangers_86 rfl ⟨rfl, rfl⟩
  | succ y ih =>
    intro w c hw
    refine e_iload dX9_byStrangers_45 rfl ?_
    refine e_bipush (v := 99) dX9_byStrangers_47 (by decide) ?_
    refine e_icmp_gt (tgt := 84) dX9_byStrangers_49 rfl (fun h49 => absurd h49 (by rw [show (99 : Int32) = nI 99 from rfl]; exact nI_nlt (by omega) (by omega))) (fun _ => ?_)
    refine e_aload_n 0 dX9_byStrangers_52 rfl rfl ?_
    refine e_aload_n 0 dX9_byStrangers_53 rfl rfl ?_
    refine e_getfield 0 dX9_byStrangers_54 kf_X9_13_9 rfl rfl ?_
    refine e_iload_n 2 dX9_byStrangers_57 rfl rfl ?_
    refine e_aald_n (j) dX9_byStrangers_58 rfl (Or.inr rfl) rfl (by omega) (by decide) (sh_shs_at hj) ?_
    refine e_getfield 0 dX9_byStrangers_59 kf_X9_52_3 (mkW_sh hj) rfl ?_
    refine e_iload dX9_byStrangers_62 rfl ?_
    refine e_iload dX9_byStrangers_64 rfl ?_
    refine e_iload dX9_byStrangers_66 rfl ?_
    refine e_iload_n 1 dX9_byStrangers_68 rfl rfl ?_
    refine f_callVi (As := [_, _, _, _, _]) ok_X9_passesAll ⟨Nat.le_of_ble_eq_true rfl, Nat.le_of_ble_eq_true rfl⟩ dX9_byStrangers_69 kl_X9_197 ki_X9_passesAll kv_X9_passesAll rfl rfl rfl rfl (Nat.le_of_ble_eq_true rfl) (Nat.le_of_ble_eq_true rfl) (Nat.zero_add _) (Nat.zero_add _) (sp_X9_passesAll hR hI hj hz ham hok hr (by omega)) ?_
    refine e_if_eq (tgt := 78) dX9_byStrangers_72 rfl (fun h72 => ?_) (fun h72 => ?_)
    · refine e_iinc (v := _ + 1) (lv' := [_, _, _, _, _, _, _, _, _]) dX9_byStrangers_78 rfl (Nat.le_of_ble_eq_true rfl) rfl rfl rfl ?_
      refine e_goto (tgt := 45) dX9_byStrangers_81 rfl ?_
      rw [nI_1]
      first
      | (rw [nI_1]; have := ih (w + 1) (c + 1) (by omega); rw [bsN, if_pos (bi_1.mp h72)]; exact this)
      | (have := ih (w + 1) c (by omega); rw [bsN, if_neg (bi_0.mp h72)]; exact this)
    · refine e_iinc (v := _ + 1) (lv' := [_, _, _, _, _, _, _, _, _]) dX9_byStrangers_75 rfl (Nat.le_of_ble_eq_true rfl) rfl rfl rfl ?_
      refine e_iinc (v := _ + 1) (lv' := [_, _, _, _, _, _, _, _, _]) dX9_byStrangers_78 rfl (Nat.le_of_ble_eq_true rfl) rfl rfl rfl ?_
      refine e_goto (tgt := 45) dX9_byStrangers_81 rfl ?_
      rw [nI_1]
      first
      | (rw [nI_1]; have := ih (w + 1) (c + 1) (by omega); rw [bsN, if_pos (bi_1.mp h72)]; exact this)
      | (have := ih (w + 1) c (by omega); rw [bsN, if_neg (bi_0.mp h72)]; exact this)

set_option maxRecDepth 4000 in
theorem sp_X9_byStrangers {G : sh_G} {S : Nat → Int32} {A : Nat → Nat → Int32} {Lg : Nat → Int64} {P : Nat → Option Nat} {T : List sh_C} {b : sh_be} {r k lane i n : Int32} (hR : RX S A Lg P T b) (hI : IV b) : Ev G mX9_byStrangers 0 0 (mkW G S A Lg P T) 0 [some (.ref 1), some (.int r), some (.int k), some (.int lane), some (.int i), some (.int n), none, none, none] [] (QX G S A (some (.int (oBy b r k lane i n).1)) (oBy b r k lane i n).2) := by
  have i1 := hI.1
  refine e_aload_n 0 dX9_byStrangers_0 rfl rfl ?_
  refine e_iconst (v := 0) dX9_byStrangers_1 rfl ?_
  refine e_putfield 5 dX9_byStrangers_2 kp_X9_byStrangers_201_9 (sh_fit_i _) rfl (Nat.le_of_ble_eq_true rfl) ?_
  obtain ⟨S1, e0, hR, hf⟩ : ∃ S1, S1 = va_up S 0 0 ∧ RX S1 A Lg P T (uF_ b 0) ∧ FX S A S1 A := ⟨_, rfl, hR.F 0, FX.S (by omega)⟩
  have e1 : S1 1 = nI (bn b 0) := hR.2.1
  refine e_w (w' := mkW G S1 A Lg P T) (by rw [e0]; rfl) ?_
  refine e_aload_n 0 dX9_byStrangers_5 rfl rfl ?_
  refine e_getfield 1 dX9_byStrangers_6 kf_X9_20_9 rfl rfl ?_
  refine e_iload_n 1 dX9_byStrangers_9 rfl rfl ?_
  refine f_callVi (As := [_]) ok_X1_hasRoom ⟨Nat.le_of_ble_eq_true rfl, Nat.le_of_ble_eq_true rfl⟩ dX9_byStrangers_10 kl_X9_88 ki_X1_hasRoom kv_X1_hasRoom rfl rfl rfl rfl (Nat.le_of_ble_eq_true rfl) (Nat.le_of_ble_eq_true rfl) (Nat.zero_add _) (Nat.zero_add _) sp_X1_hasRoom ?_
  refine e_if_ne (tgt := 18) dX9_byStrangers_13 rfl (fun h13 => ?_) (fun h13 => ?_)
  · rw [e1] at h13
    obtain ⟨r, hr, rfl⟩ := ix_of (x := r) rfl (by omega) (bi_1.mp h13)
    refine e_aload_n 0 dX9_byStrangers_18 rfl rfl ?_
    refine e_iload_n 2 dX9_byStrangers_19 rfl rfl ?_
    refine e_iload_n 3 dX9_byStrangers_20 rfl rfl ?_
    refine e_iload dX9_byStrangers_21 rfl ?_
    refine e_iload dX9_byStrangers_23 rfl ?_
    refine f_callVi (As := [_, _, _, _]) ok_X9_doorsRefused ⟨Nat.le_of_ble_eq_true rfl, Nat.le_of_ble_eq_true rfl⟩ dX9_byStrangers_25 kl_X9_194 ki_X9_doorsRefused kv_X9_doorsRefused rfl rfl rfl rfl (Nat.le_of_ble_eq_true rfl) (Nat.le_of_ble_eq_true rfl) (Nat.zero_add _) (Nat.zero_add _) (sp_X9_doorsRefused (b := uF_ b 0) hR hI) ?_
    have q1 : oDrs (uF_ b 0) k lane i n = oDrs b k lane i n := oDrs_F
    have q2 : oRef (uF_ b 0) k lane i n = oRef b k lane i n := rfl
    rw [q1, q2]
    refine e_w (w' := mkW G (va_up S 0 (fOf (oRef b k lane i n))) A Lg P T) (by rw [e0, bx_uu]) ?_
    have hR2 : RX (va_up S 0 (fOf (oRef b k lane i n))) A Lg P T (uF_ b (fOf (oRef b k lane i n))) := by
      have := RX.F hR (fOf (oRef b k lane i n))
      rw [e0, bx_uu] at this
      exact this
    refine e_istore (lv' := [_, _, _, _, _, _, _, _, _]) dX9_byStrangers_28 (Nat.le_of_ble_eq_true rfl) rfl rfl ?_
    refine e_iload dX9_byStrangers_30 rfl ?_
    refine e_if_eq (tgt := 38) dX9_byStrangers_32 rfl (fun h32 => ?_) (fun h32 => ?_)
    · have hrf := (oDrs_ok hI h32).1
      obtain ⟨-, j, z, a, m, hj, rfl, hz, rfl, rfl, ham, hzl, hok⟩ := oDrs_ok hI h32
      rw [hrf] at hR2 ⊢
      refine e_iconst (v := 0) dX9_byStrangers_38 rfl ?_
      refine e_istore (lv' := [_, _, _, _, _, _, _, _, _]) dX9_byStrangers_39 (Nat.le_of_ble_eq_true rfl) rfl rfl ?_
      refine e_bipush (v := 10) dX9_byStrangers_41 (by decide) ?_
      refine e_istore (lv' := [_, _, _, _, _, _, _, _, _]) dX9_byStrangers_43 (Nat.le_of_ble_eq_true rfl) rfl rfl ?_
      refine e_q (lp_X9_byStrangers (b := uF_ b (fOf 0)) hR2 hI hj hz ham ((okD_F _).trans hok) hr 90 10 0 rfl) (fun v w' hw => ?_)
      obtain ⟨rfl, rfl⟩ := hw
      have ho : oBy b (nI r) (nI j) lane (nI a) (nI m) = (nI (bsN (fun w => (psN b j a w r m).isSome) 90 10 0), uF_ b 0) := by
        rw [oBy, if_neg (nn_ (bi_1.mp h13)), if_neg (nn_ h32), nI_clamp (by omega), nI_clamp (by omega), nI_clamp (by omega), nI_clamp (by omega)]
      rw [ho]
      exact ⟨_, A, Lg, P, T, rfl, by simp only [psN_F], hR2, FX.S (by omega)⟩
    · refine e_iload dX9_byStrangers_35 rfl ?_
      refine e_iret dX9_byStrangers_37 rfl ?_
      have ho : oBy b (nI r) k lane i n = (oDrs b k lane i n, uF_ b (fOf (oRef b k lane i n))) := by
        rw [oBy, if_neg (nn_ (bi_1.mp h13)), if_pos h32]
      rw [ho]
      exact ⟨_, A, Lg, P, T, rfl, rfl, hR2, FX.S (by omega)⟩
  · rw [e1] at h13
    refine e_iconst (v := -1) dX9_byStrangers_16 rfl ?_
    refine e_iret dX9_byStrangers_17 rfl ?_
    have ho : oBy b r k lane i n = (-1, uF_ b 0) := by
      rw [oBy, if_pos (bi_0.mp h13)]
    rw [ho]
    exact ⟨S1, A, Lg, P, T, rfl, rfl, hR, hf⟩
