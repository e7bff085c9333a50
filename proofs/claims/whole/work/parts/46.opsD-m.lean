set_option maxRecDepth 4000 in
theorem lp_X10_passesAll {G : sh_G} {S : Nat → Int32} {A : Nat → Nat → Int32} {Lg : Nat → Int64} {P : Nat → Option Nat} {T : List sh_C} {b : sh_be} {j a m : Nat} {z : Nat × Nat} {w r : Nat} (hR : RM S A b) (hI : IV b) (hj : j < 4) (hz : bz b j = some z) (ham : a + m ≤ z.2) (hok : okD b j a m = true) (hr : r < bn b 0) (hw : w < 2 ^ 20) : ∀ (y q : Nat), m - q < y → q ≤ m → Ev G mX10_passesAll 0 0 (mkW G S A Lg P T) 6 [some (.ref 24), some (.int (nI w)), some (.int (nI r)), some (.int (nI (60 * j + a))), some (.int (nI m)), some (.int (oJ (psN b j a w r q))), some (.int (nI q))] [] (sh_is (some (.int (bi ((psN b j a w r m).isSome = true)))) (mkW G S A Lg P T)) := by
  have e1 := hR.2.1
  have e2 := hR.2.2.1
  have e3 := hR.2.2.2.1
  have e4 := hR.2.2.2.2.1
  have i1 := hI.1
  have i2 := hI.2.1
  have i3 := hI.2.2.1
  have i4 := hI.2.2.2.1
  have hzl := (IV.l hI hj z hz).2
  obtain ⟨x1, x2, x3⟩ := shM_s (hR.2.2.2.2.2.2.1 j hj) hz
  intro y
  induction y with
  | zero => intro q h; omega
  | succ y ih =>
    intro q hm hq
    refine e_iload dX10_passesAll_6 rfl ?_
    refine e_iload dX10_passesAll_8 rfl ?_
    refine e_icmp_ge (tgt := 42) dX10_passesAll_10 rfl (fun h10 => ?_) (fun h10 => ?_)
    · have hfin : oJ (psN b j a w r q) < 0 ↔ psN b j a w r m = none := by
        have hmm : psN b j a w r q = none ∨ q = m := by
          first
          | (right; rw [nI_leI (by omega) (by omega)] at h10; omega)
          | (left; exact (oJ_neg (fun t ht => by have := psN_lt hI hok hr (by omega) ht; omega)).mp h15)
        rw [oJ_neg (fun t ht => by have := psN_lt hI hok hr (by omega) ht; omega)]
        rcases hmm with hmm | rfl
        · exact ⟨fun _ => psN_none hmm m hq, fun _ => hmm⟩
        · exact Iff.rfl
      refine e_iload dX10_passesAll_42 rfl ?_
      refine e_if_lt (tgt := 51) dX10_passesAll_44 rfl (fun h44 => ?_) (fun h44 => ?_)
      · refine e_iconst (v := 0) dX10_passesAll_51 rfl ?_
        refine e_zret dX10_passesAll_52 rfl rfl ?_
        refine is_i ?_ rfl
        first
        | (rw [hfin] at h44; rw [h44]; rfl)
        | (rw [hfin] at h44
           rcases ho : psN b j a w r m with _ | t
           · exact absurd ho h44
           · rfl)
      · refine e_iconst (v := 1) dX10_passesAll_47 rfl ?_
        refine e_goto (tgt := 52) dX10_passesAll_48 rfl ?_
        refine e_zret dX10_passesAll_52 rfl rfl ?_
        refine is_i ?_ rfl
        first
        | (rw [hfin] at h44; rw [h44]; rfl)
        | (rw [hfin] at h44
           rcases ho : psN b j a w r m with _ | t
           · exact absurd ho h44
           · rfl)
    · have hlt : q < m := by rw [nI_leI (by omega) (by omega)] at h10; omega
      refine e_iload dX10_passesAll_13 rfl ?_
      refine e_if_lt (tgt := 42) dX10_passesAll_15 rfl (fun h15 => ?_) (fun h15 => ?_)
      · have hfin : oJ (psN b j a w r q) < 0 ↔ psN b j a w r m = none := by
          have hmm : psN b j a w r q = none ∨ q = m := by
            first
            | (right; rw [nI_leI (by omega) (by omega)] at h10; omega)
            | (left; exact (oJ_neg (fun t ht => by have := psN_lt hI hok hr (by omega) ht; omega)).mp h15)
          rw [oJ_neg (fun t ht => by have := psN_lt hI hok hr (by omega) ht; omega)]
          rcases hmm with hmm | rfl
          · exact ⟨fun _ => psN_none hmm m hq, fun _ => hmm⟩
          · exact Iff.rfl
        refine e_iload dX10_passesAll_42 rfl ?_
        refine e_if_lt (tgt := 51) dX10_passesAll_44 rfl (fun h44 => ?_) (fun h44 => ?_)
        · refine e_iconst (v := 0) dX10_passesAll_51 rfl ?_
          refine e_zret dX10_passesAll_52 rfl rfl ?_
          refine is_i ?_ rfl
          first
          | (rw [hfin] at h44; rw [h44]; rfl)
          | (rw [hfin] at h44
             rcases ho : psN b j a w r m with _ | t
             · exact absurd ho h44
             · rfl)
        · refine e_iconst (v := 1) dX10_passesAll_47 rfl ?_
          refine e_goto (tgt := 52) dX10_passesAll_48 rfl ?_
          refine e_zret dX10_passesAll_52 rfl rfl ?_
          refine is_i ?_ rfl
          first
          | (rw [hfin] at h44; rw [h44]; rfl)
          | (rw [hfin] at h44
             rcases ho : psN b j a w r m with _ | t
             · exact absurd ho h44
             · rfl)
      · obtain ⟨t, ht⟩ : ∃ t, psN b j a w r q = some t := by
          rcases ht : psN b j a w r q with _ | t
          · rw [ht] at h15; exact absurd (show oJ none < 0 by decide) h15
          · exact ⟨t, rfl⟩
        have htl := psN_lt hI hok hr (by omega) ht
        obtain ⟨d, hd, ed⟩ := ix_of (n := bn b 1) rfl (by omega) (okD_at hok q hlt)
        have hnx : psN b j a w r (q + 1) = bBe b d t w := by rw [psN_s ht, ed, nI_clamp (by omega)]
        refine e_aload_n 0 dX10_passesAll_18 rfl rfl ?_
        refine e_aload_n 0 dX10_passesAll_19 rfl rfl ?_
        refine e_getfield 32 dX10_passesAll_20 kf_X10_71_10 rfl rfl ?_
        refine e_iload_n 3 dX10_passesAll_23 rfl rfl ?_
        refine e_iload dX10_passesAll_24 rfl ?_
        refine e_iadd dX10_passesAll_26 ?_
        refine e_iald_n (60 * j + (a + q)) dX10_passesAll_27 rfl (by rw [nI_add, Nat.add_assoc]) (by omega) (by decide) ?_
        rw [x3 (a + q) (by omega), ed, oJ_s ht]
        refine e_iload dX10_passesAll_28 rfl ?_
        refine e_iload_n 1 dX10_passesAll_30 rfl rfl ?_
        refine f_callVi (As := [_, _, _]) ok_X10_throughTo ⟨Nat.le_of_ble_eq_true rfl, Nat.le_of_ble_eq_true rfl⟩ dX10_passesAll_31 kl_X10_200 ki_X10_throughTo kv_X10_throughTo rfl rfl rfl rfl (Nat.le_of_ble_eq_true rfl) (Nat.le_of_ble_eq_true rfl) (Nat.zero_add _) (Nat.zero_add _) (sp_X10_throughTo hR hI hd (by omega) (by omega)) ?_
        refine e_istore (lv' := [_, _, _, _, _, _, _]) dX10_passesAll_34 (Nat.le_of_ble_eq_true rfl) rfl rfl ?_
        refine e_iinc (v := _ + 1) (lv' := [_, _, _, _, _, _, _]) dX10_passesAll_36 rfl (Nat.le_of_ble_eq_true rfl) rfl rfl rfl ?_
        refine e_goto (tgt := 6) dX10_passesAll_39 rfl ?_
        rw [nI_1]
        have := ih (q + 1) (by omega) (by omega)
        rw [hnx] at this
        exact this

set_option maxRecDepth 4000 in
theorem sp_X10_passesAll {G : sh_G} {S : Nat → Int32} {A : Nat → Nat → Int32} {Lg : Nat → Int64} {P : Nat → Option Nat} {T : List sh_C} {b : sh_be} {j a m : Nat} {z : Nat × Nat} {w r : Nat} (hR : RM S A b) (hI : IV b) (hj : j < 4) (hz : bz b j = some z) (ham : a + m ≤ z.2) (hok : okD b j a m = true) (hr : r < bn b 0) (hw : w < 2 ^ 20) : Ev G mX10_passesAll 0 0 (mkW G S A Lg P T) 0 [some (.ref 24), some (.int (nI w)), some (.int (nI r)), some (.int (nI (60 * j + a))), some (.int (nI m)), none, none] [] (sh_is (some (.int (bi ((psN b j a w r m).isSome = true)))) (mkW G S A Lg P T)) := by
  refine e_iload_n 2 dX10_passesAll_0 rfl rfl ?_
  refine e_istore (lv' := [_, _, _, _, _, _, _]) dX10_passesAll_1 (Nat.le_of_ble_eq_true rfl) rfl rfl ?_
  refine e_iconst (v := 0) dX10_passesAll_3 rfl ?_
  refine e_istore (lv' := [_, _, _, _, _, _, _]) dX10_passesAll_4 (Nat.le_of_ble_eq_true rfl) rfl rfl ?_
  exact lp_X10_passesAll hR hI hj hz ham hok hr hw (m + 1) 0 (by omega) (by omega)

set_option maxRecDepth 4000 in
theorem lp_X10_areDoors {G : sh_G} {S : Nat → Int32} {A : Nat → Nat → Int32} {Lg : Nat → Int64} {P : Nat → Option Nat} {T : List sh_C} {b : sh_be} {j a m : Nat} {z : Nat × Nat} (hR : RM S A b) (hI : IV b) (hj : j < 4) (hz : bz b j = some z) (ham : a + m ≤ z.2) : ∀ (y q : Nat), m - q < y → q ≤ m → Ev G mX10_areDoors 0 0 (mkW G S A Lg P T) 5 [some (.ref 24), some (.int (nI (60 * j + a))), some (.int (nI m)), some (.int (bi (okD b j a q = true))), some (.int (nI q))] [] (sh_is (some (.int (bi (okD b j a m = true)))) (mkW G S A Lg P T)) := by
  have e1 := hR.2.1
  have e2 := hR.2.2.1
  have e3 := hR.2.2.2.1
  have e4 := hR.2.2.2.2.1
  have i1 := hI.1
  have i2 := hI.2.1
  have i3 := hI.2.2.1
  have i4 := hI.2.2.2.1
  have hzl := (IV.l hI hj z hz).2
  obtain ⟨x1, x2, x3⟩ := shM_s (hR.2.2.2.2.2.2.1 j hj) hz
  intro y
  induction y with
  | zero => intro q h; omega
  | succ y ih =>
    intro q hm hq
    refine e_iload dX10_areDoors_5 rfl ?_
    refine e_iload_n 2 dX10_areDoors_7 rfl rfl ?_
    refine e_icmp_ge (tgt := 43) dX10_areDoors_8 rfl (fun h8 => ?_) (fun h8 => ?_)
    · have e : q = m := by rw [nI_leI (by omega) (by omega)] at h8; omega
      subst e
      refine e_iload_n 3 dX10_areDoors_43 rfl rfl ?_
      exact e_zret dX10_areDoors_44 rfl bi_n ⟨rfl, rfl⟩
    · have hlt : q < m := by rw [nI_leI (by omega) (by omega)] at h8; omega
      refine e_iload_n 3 dX10_areDoors_11 rfl rfl ?_
      refine e_if_eq (tgt := 35) dX10_areDoors_12 rfl (fun h12 => ?_) (fun h12 => ?_)
      · refine e_iconst (v := 0) dX10_areDoors_35 rfl ?_
        refine e_istore_n (lv' := [_, _, _, _, _]) 3 dX10_areDoors_36 rfl (Nat.le_of_ble_eq_true rfl) rfl rfl ?_
        refine e_iinc (v := _ + 1) (lv' := [_, _, _, _, _]) dX10_areDoors_37 rfl (Nat.le_of_ble_eq_true rfl) rfl rfl rfl ?_
        refine e_goto (tgt := 5) dX10_areDoors_40 rfl ?_
        rw [nI_1]
        have := ih (q + 1) (by omega) (by omega)
        first
        | (have e : okD b j a (q + 1) = true := okD_s (bi_1.mp h12) (Classical.not_not.mp (bi_0.mp (Classical.not_not.mp h28)))
           rw [bi_t e] at this; exact this)
        | (have e : okD b j a (q + 1) = true := okD_s (bi_1.mp h12) (Classical.not_not.mp (bi_0.mp h28))
           rw [bi_t e] at this; exact this)
        | (have e : ¬ okD b j a (q + 1) = true := by
             intro h
             unfold okD at h
             rw [Bool.and_eq_true, decide_eq_true_iff] at h
             first
             | exact bi_0.mp h12 h.1
             | exact bi_1.mp h28 h.2
           rw [bi_f e] at this; exact this)
      · refine e_aload_n 0 dX10_areDoors_15 rfl rfl ?_
        refine e_aload_n 0 dX10_areDoors_16 rfl rfl ?_
        refine e_getfield 32 dX10_areDoors_17 kf_X10_71_10 rfl rfl ?_
        refine e_iload_n 1 dX10_areDoors_20 rfl rfl ?_
        refine e_iload dX10_areDoors_21 rfl ?_
        refine e_iadd dX10_areDoors_23 ?_
        refine e_iald_n (60 * j + (a + q)) dX10_areDoors_24 rfl (by rw [nI_add, Nat.add_assoc]) (by omega) (by decide) ?_
        rw [x3 (a + q) (by omega)]
        refine f_callVi (As := [_]) ok_X10_noDoor ⟨Nat.le_of_ble_eq_true rfl, Nat.le_of_ble_eq_true rfl⟩ dX10_areDoors_25 kl_X10_164 ki_X10_noDoor kv_X10_noDoor rfl rfl rfl rfl (Nat.le_of_ble_eq_true rfl) (Nat.le_of_ble_eq_true rfl) (Nat.zero_add _) (Nat.zero_add _) (sp_X10_noDoor hR hI) ?_
        refine e_if_ne (tgt := 35) dX10_areDoors_28 rfl (fun h28 => ?_) (fun h28 => ?_)
        · refine e_iconst (v := 0) dX10_areDoors_35 rfl ?_
          refine e_istore_n (lv' := [_, _, _, _, _]) 3 dX10_areDoors_36 rfl (Nat.le_of_ble_eq_true rfl) rfl rfl ?_
          refine e_iinc (v := _ + 1) (lv' := [_, _, _, _, _]) dX10_areDoors_37 rfl (Nat.le_of_ble_eq_true rfl) rfl rfl rfl ?_
          refine e_goto (tgt := 5) dX10_areDoors_40 rfl ?_
          rw [nI_1]
          have := ih (q + 1) (by omega) (by omega)
          first
          | (have e : okD b j a (q + 1) = true := okD_s (bi_1.mp h12) (Classical.not_not.mp (bi_0.mp (Classical.not_not.mp h28)))
             rw [bi_t e] at this; exact this)
          | (have e : okD b j a (q + 1) = true := okD_s (bi_1.mp h12) (Classical.not_not.mp (bi_0.mp h28))
             rw [bi_t e] at this; exact this)
          | (have e : ¬ okD b j a (q + 1) = true := by
               intro h
               unfold okD at h
               rw [Bool.and_eq_true, decide_eq_true_iff] at h
               first
               | exact bi_0.mp h12 h.1
               | exact bi_1.mp h28 h.2
             rw [bi_f e] at this; exact this)
        · refine e_iconst (v := 1) dX10_areDoors_31 rfl ?_
          refine e_goto (tgt := 36) dX10_areDoors_32 rfl ?_
          refine e_istore_n (lv' := [_, _, _, _, _]) 3 dX10_areDoors_36 rfl (Nat.le_of_ble_eq_true rfl) rfl rfl ?_
          refine e_iinc (v := _ + 1) (lv' := [_, _, _, _, _]) dX10_areDoors_37 rfl (Nat.le_of_ble_eq_true rfl) rfl rfl rfl ?_
          refine e_goto (tgt := 5) dX10_areDoors_40 rfl ?_
          rw [nI_1]
          have := ih (q + 1) (by omega) (by omega)
          first
          | (have e : okD b j a (q + 1) = true := okD_s (bi_1.mp h12) (Classical.not_not.mp (bi_0.mp (Classical.not_not.mp h28)))
             rw [bi_t e] at this; exact this)
          | (have e : okD b j a (q + 1) = true := okD_s (bi_1.mp h12) (Classical.not_not.mp (bi_0.mp h28))
             rw [bi_t e] at this; exact this)
          | (have e : ¬ okD b j a (q + 1) = true := by
               intro h
               unfold okD at h
               rw [Bool.and_eq_true, decide_eq_true_iff] at h
               first
               | exact bi_0.mp h12 h.1
               | exact bi_1.mp h28 h.2
             rw [bi_f e] at this; exact this)

set_option maxRecDepth 4000 in
theorem sp_X10_areDoors {G : sh_G} {S : Nat → Int32} {A : Nat → Nat → Int32} {Lg : Nat → Int64} {P : Nat → Option Nat} {T : List sh_C} {b : sh_be} {j a m : Nat} {z : Nat × Nat} (hR : RM S A b) (hI : IV b) (hj : j < 4) (hz : bz b j = some z) (ham : a + m ≤ z.2) : Ev G mX10_areDoors 0 0 (mkW G S A Lg P T) 0 [some (.ref 24), some (.int (nI (60 * j + a))), some (.int (nI m)), none, none] [] (sh_is (some (.int (bi (okD b j a m = true)))) (mkW G S A Lg P T)) := by
  refine e_iconst (v := 1) dX10_areDoors_0 rfl ?_
  refine e_istore_n (lv' := [_, _, _, _, _]) 3 dX10_areDoors_1 rfl (Nat.le_of_ble_eq_true rfl) rfl rfl ?_
  refine e_iconst (v := 0) dX10_areDoors_2 rfl ?_
  refine e_istore (lv' := [_, _, _, _, _]) dX10_areDoors_3 (Nat.le_of_ble_eq_true rfl) rfl rfl ?_
  exact lp_X10_areDoors hR hI hj hz ham (m + 1) 0 (by omega) (by omega)

set_option maxRecDepth 4000 in
theorem lp_X10_heard {G : sh_G} {S : Nat → Int32} {A : Nat → Nat → Int32} {Lg : Nat → Int64} {P : Nat → Option Nat} {T : List sh_C} {b : sh_be} {j a m : Nat} {z : Nat × Nat} {lane x : Int32} (hR : RM S A b) (hI : IV b) (hj : j < 4) (hz : bz b j = some z) (ham : a + m ≤ z.2) (hok : okD b j a m = true) : ∀ (y q : Nat), bn b 2 - q < y → q ≤ bn b 2 → Ev G mX10_heard 0 0 (mkW G S A Lg P T) 51 [some (.ref 24), some (.int (nI j)), some (.int lane), some (.int (nI a)), some (.int (nI m)), some (.int x), some (.int (nI (60 * j + a))), some (.int (nI (hdN b j a m q))), some (.int (nI q))] [] (sh_is (some (.int (nI (hdN b j a m (bn b 2))))) (mkW G (va_up S 20 0) A Lg P T)) := by
  have e1 := hR.2.1
  have e2 := hR.2.2.1
  have e3 := hR.2.2.2.1
  have e4 := hR.2.2.2.2.1
  have i1 := hI.1
  have i2 := hI.2.1
  have i3 := hI.2.2.1
  have i4 := hI.2.2.2.1
  have hzl := (IV.l hI hj z hz).2
  obtain ⟨x1, x2, x3⟩ := shM_s (hR.2.2.2.2.2.2.1 j hj) hz
  intro y
  induction y with
  | zero => intro q h; omega
  | succ y ih =>
    intro q hm hq
    refine e_iload dX10_heard_51 rfl ?_
    refine e_aload_n 0 dX10_heard_53 rfl rfl ?_
    refine e_getfield 12 dX10_heard_54 kf_X10_145_10 rfl rfl ?_
    refine e_icmp_ge (tgt := 103) dX10_heard_57 rfl (fun h57 => ?_) (fun h57 => ?_)
    · have e : q = bn b 2 := by rw [e3, nI_leI (by omega) (by omega)] at h57; omega
      subst e
      refine e_aload_n 0 dX10_heard_103 rfl rfl ?_
      refine e_iload dX10_heard_104 rfl ?_
      refine f_callVi (As := [_]) ok_X10_refused ⟨Nat.le_of_ble_eq_true rfl, Nat.le_of_ble_eq_true rfl⟩ dX10_heard_106 kl_X10_91 ki_X10_refused kv_X10_refused rfl rfl rfl rfl (Nat.le_of_ble_eq_true rfl) (Nat.le_of_ble_eq_true rfl) (Nat.zero_add _) (Nat.zero_add _) sp_X10_refused ?_
      exact e_iret dX10_heard_109 rfl ⟨rfl, rfl⟩
    · have hlt : q < bn b 2 := by rw [e3, nI_leI (by omega) (by omega)] at h57; omega
      obtain ⟨p1, p2, p3, p4, p5, p6, p7, p8⟩ := hR.pe hI hlt
      refine e_iload dX10_heard_60 rfl ?_
      refine e_aload_n 0 dX10_heard_62 rfl rfl ?_
      refine e_aload_n 0 dX10_heard_63 rfl rfl ?_
      refine e_iload dX10_heard_64 rfl ?_
      refine f_callVi (As := [_]) ok_X10_withStones ⟨Nat.le_of_ble_eq_true rfl, Nat.le_of_ble_eq_true rfl⟩ dX10_heard_66 kl_X10_182 ki_X10_withStones kv_X10_withStones rfl rfl rfl rfl (Nat.le_of_ble_eq_true rfl) (Nat.le_of_ble_eq_true rfl) (Nat.zero_add _) (Nat.zero_add _) (sp_X10_withStones hR hI hlt) ?_
      refine e_aload_n 0 dX10_heard_69 rfl rfl ?_
      refine e_getfield 14 dX10_heard_70 kf_X10_31_10 rfl rfl ?_
      refine e_iload dX10_heard_73 rfl ?_
      refine e_iald_n (q) dX10_heard_75 rfl rfl (by omega) (by decide) ?_
      rw [p2]
      refine e_iload dX10_heard_76 rfl ?_
      refine e_iload dX10_heard_78 rfl ?_
      refine f_callVi (As := [_, _, _, _]) ok_X10_passesAll ⟨Nat.le_of_ble_eq_true rfl, Nat.le_of_ble_eq_true rfl⟩ dX10_heard_80 kl_X10_257 ki_X10_passesAll kv_X10_passesAll rfl rfl rfl rfl (Nat.le_of_ble_eq_true rfl) (Nat.le_of_ble_eq_true rfl) (Nat.zero_add _) (Nat.zero_add _) (sp_X10_passesAll hR hI hj hz ham hok p5 (wN_20 hI hlt)) ?_
      refine e_if_eq (tgt := 93) dX10_heard_83 rfl (fun h83 => ?_) (fun h83 => ?_)
      · refine e_iconst (v := 0) dX10_heard_93 rfl ?_
        refine e_ior dX10_heard_94 ?_
        refine e_istore (lv' := [_, _, _, _, _, _, _, _, _]) dX10_heard_95 (Nat.le_of_ble_eq_true rfl) rfl rfl ?_
        refine e_iinc (v := _ + 1) (lv' := [_, _, _, _, _, _, _, _, _]) dX10_heard_97 rfl (Nat.le_of_ble_eq_true rfl) rfl rfl rfl ?_
        refine e_goto (tgt := 51) dX10_heard_100 rfl ?_
        rw [nI_1]
        have := ih (q + 1) (by omega) (by omega)
        first
        | (rw [hdN, if_neg (bi_0.mp h83), Nat.or_zero] at this; rw [or_z]; exact this)
        | (rw [hdN, if_pos (bi_1.mp h83), ← fa_or] at this; rw [sh1 (by omega)]; exact this)
      · refine e_iconst (v := 1) dX10_heard_86 rfl ?_
        refine e_iload dX10_heard_87 rfl ?_
        refine e_ishl dX10_heard_89 ?_
        refine e_goto (tgt := 94) dX10_heard_90 rfl ?_
        refine e_ior dX10_heard_94 ?_
        refine e_istore (lv' := [_, _, _, _, _, _, _, _, _]) dX10_heard_95 (Nat.le_of_ble_eq_true rfl) rfl rfl ?_
        refine e_iinc (v := _ + 1) (lv' := [_, _, _, _, _, _, _, _, _]) dX10_heard_97 rfl (Nat.le_of_ble_eq_true rfl) rfl rfl rfl ?_
        refine e_goto (tgt := 51) dX10_heard_100 rfl ?_
        rw [nI_1]
        have := ih (q + 1) (by omega) (by omega)
        first
        | (rw [hdN, if_neg (bi_0.mp h83), Nat.or_zero] at this; rw [or_z]; exact this)
        | (rw [hdN, if_pos (bi_1.mp h83), ← fa_or] at this; rw [sh1 (by omega)]; exact this)

theorem oRef_pos {b : sh_be} {k lane i n : Int32} (h : 0 ≤ oRef b k lane i n) : oRef b k lane i n = 0 := by
  unfold oRef at h ⊢
  split at h
  · exact absurd (show (0 : Int32) ≤ -1 from h) (by decide)
  rename_i c1
  rw [if_neg c1]
  split at h
  · exact absurd (show (0 : Int32) ≤ -2 from h) (by decide)
  rename_i c2
  rw [if_neg c2]
  rcases hz : bz b k.toNatClampNeg with _ | z
  · rw [hz] at h; exact absurd (show (0 : Int32) ≤ -11 from h) (by decide)
  · rw [hz] at h
    simp only [] at h ⊢
    split at h
    · exact absurd (show (0 : Int32) ≤ -12 from h) (by decide)
    rename_i c3
    rw [if_neg c3]
    split at h
    · exact absurd (show (0 : Int32) ≤ -14 from h) (by decide)
    rename_i c4
    rw [if_neg c4]
    split at h
    · rename_i c5; rw [if_pos c5]
    · exact absurd (show (0 : Int32) ≤ -13 from h) (by decide)
set_option maxRecDepth 4000 in
theorem sp_X10_heard {G : sh_G} {S : Nat → Int32} {A : Nat → Nat → Int32} {Lg : Nat → Int64} {P : Nat → Option Nat} {T : List sh_C} {b : sh_be} {k lane i n : Int32} (hR : RM S A b) (hI : IV b) : Ev G mX10_heard 0 0 (mkW G S A Lg P T) 0 [some (.ref 24), some (.int k), some (.int lane), some (.int i), some (.int n), none, none, none, none] [] (QM G S A Lg P T (some (.int (oHeard b k lane i n).1)) (oHeard b k lane i n).2) := by
  refine e_aload_n 0 dX10_heard_0 rfl rfl ?_
  refine e_iload_n 1 dX10_heard_1 rfl rfl ?_
  refine e_iload_n 2 dX10_heard_2 rfl rfl ?_
  refine e_iload_n 3 dX10_heard_3 rfl rfl ?_
  refine e_iload dX10_heard_4 rfl ?_
  refine e_i2l dX10_heard_6 ?_
  refine f_callVi (As := [_, _, _, _]) ok_X10_barred ⟨Nat.le_of_ble_eq_true rfl, Nat.le_of_ble_eq_true rfl⟩ dX10_heard_7 kl_X10_138 ki_X10_barred kv_X10_barred rfl rfl rfl rfl (Nat.le_of_ble_eq_true rfl) (Nat.le_of_ble_eq_true rfl) (Nat.zero_add _) (Nat.zero_add _) (sp_X10_barred hR hI) ?_
  refine e_istore (lv' := [_, _, _, _, _, _, _, _, _]) dX10_heard_10 (Nat.le_of_ble_eq_true rfl) rfl rfl ?_
  refine e_iload dX10_heard_12 rfl ?_
  refine e_if_ge (tgt := 20) dX10_heard_14 rfl (fun h14 => ?_) (fun h14 => ?_)
  · have hz0 : oRef b k lane i n = 0 := oRef_pos h14
    rw [if_pos hz0]
    obtain ⟨j, hj, rfl, z, hz, -, a, m, ham, rfl, rfl⟩ := oRef_ok hI hz0
    have hzl := (IV.l hI hj z hz).2
    refine e_bipush (v := 60) dX10_heard_20 (by decide) ?_
    refine e_iload_n 1 dX10_heard_22 rfl rfl ?_
    refine e_imul dX10_heard_23 ?_
    refine e_iload_n 3 dX10_heard_24 rfl rfl ?_
    refine e_iadd dX10_heard_25 ?_
    rw [mul60]
    refine e_istore (lv' := [_, _, _, _, _, _, _, _, _]) dX10_heard_26 (Nat.le_of_ble_eq_true rfl) rfl rfl ?_
    refine e_aload_n 0 dX10_heard_28 rfl rfl ?_
    refine e_iload dX10_heard_29 rfl ?_
    refine e_iload dX10_heard_31 rfl ?_
    refine f_callVi (As := [_, _]) ok_X10_areDoors ⟨Nat.le_of_ble_eq_true rfl, Nat.le_of_ble_eq_true rfl⟩ dX10_heard_33 kl_X10_254 ki_X10_areDoors kv_X10_areDoors rfl rfl rfl rfl (Nat.le_of_ble_eq_true rfl) (Nat.le_of_ble_eq_true rfl) (Nat.zero_add _) (Nat.zero_add _) (sp_X10_areDoors hR hI hj hz ham) ?_
    refine e_if_ne (tgt := 45) dX10_heard_36 rfl (fun h36 => ?_) (fun h36 => ?_)
    · refine e_iconst (v := 0) dX10_heard_45 rfl ?_
      refine e_istore (lv' := [_, _, _, _, _, _, _, _, _]) dX10_heard_46 (Nat.le_of_ble_eq_true rfl) rfl rfl ?_
      refine e_iconst (v := 0) dX10_heard_48 rfl ?_
      refine e_istore (lv' := [_, _, _, _, _, _, _, _, _]) dX10_heard_49 (Nat.le_of_ble_eq_true rfl) rfl rfl ?_
      have hd : oDrs b (nI j) lane (nI a) (nI m) = 0 := by rw [oDrs, if_neg (nn_ hz0), nI_clamp (by omega), nI_clamp (by omega), nI_clamp (by omega), if_pos (bi_1.mp h36)]
      refine e_q (lp_X10_heard hR hI hj hz ham (bi_1.mp h36) (bn b 2 + 1) 0 (by omega) (by omega)) (fun v w' hw => ?_)
      obtain ⟨rfl, rfl⟩ := hw
      have ho : oHeard b (nI j) lane (nI a) (nI m) = (nI (hdN b j a m (bn b 2)), uF_ b 0) := by
        rw [oHeard, if_neg (nn_ hd), nI_clamp (by omega), nI_clamp (by omega), nI_clamp (by omega)]
      rw [ho]
      exact ⟨_, A, rfl, rfl, hR.F 0, FM.S (by omega)⟩
    · refine e_aload_n 0 dX10_heard_39 rfl rfl ?_
      refine e_iconst (v := -1) dX10_heard_40 rfl ?_
      refine f_callVi (As := [_]) ok_X10_refused ⟨Nat.le_of_ble_eq_true rfl, Nat.le_of_ble_eq_true rfl⟩ dX10_heard_41 kl_X10_91 ki_X10_refused kv_X10_refused rfl rfl rfl rfl (Nat.le_of_ble_eq_true rfl) (Nat.le_of_ble_eq_true rfl) (Nat.zero_add _) (Nat.zero_add _) sp_X10_refused ?_
      refine e_iret dX10_heard_44 rfl ?_
      have hd : oDrs b (nI j) lane (nI a) (nI m) = -1 := by rw [oDrs, if_neg (nn_ hz0), nI_clamp (by omega), nI_clamp (by omega), nI_clamp (by omega), if_neg (bi_0.mp h36)]
      have ho : oHeard b (nI j) lane (nI a) (nI m) = (-1, uF_ b 0) := by
        rw [oHeard, hd, if_pos (by decide), hz0]; rfl
      rw [ho]
      exact ⟨_, A, rfl, rfl, hR.F 0, FM.S (by omega)⟩
  · refine e_iload dX10_heard_17 rfl ?_
    refine e_iret dX10_heard_19 rfl ?_
    have hne : oRef b k lane i n ≠ 0 := fun h => absurd (show ¬ 0 ≤ oRef b k lane i n from h14) (by rw [h]; decide)
    have hd : oDrs b k lane i n = oRef b k lane i n := by rw [oDrs, if_pos hne]
    rw [if_neg hne]
    have ho : oHeard b k lane i n = (oRef b k lane i n, uF_ b (fOf (oRef b k lane i n))) := by
      rw [oHeard, hd, if_pos hne]
    rw [ho]
    exact ⟨_, A, rfl, rfl, hR.F _, FM.S (by omega)⟩

set_option maxRecDepth 4000 in
theorem lp_X10_byStrangers {G : sh_G} {S : Nat → Int32} {A : Nat → Nat → Int32} {Lg : Nat → Int64} {P : Nat → Option Nat} {T : List sh_C} {b : sh_be} {j a m : Nat} {z : Nat × Nat} {r : Nat} {lane x : Int32} (hR : RM S A b) (hI : IV b) (hj : j < 4) (hz : bz b j = some z) (ham : a + m ≤ z.2) (hok : okD b j a m = true) (hr : r < bn b 0) : ∀ (y w c : Nat), w + y = 100 → Ev G mX10_byStrangers 0 0 (mkW G S A Lg P T) 68 [some (.ref 24), some (.int (nI r)), some (.int (nI j)), some (.int lane), some (.int (nI a)), some (.int (nI m)), some (.int x), some (.int (nI (60 * j + a))), some (.int (nI c)), some (.int (nI w))] [] (sh_is (some (.int (nI (bsN (fun w => (psN b j a w r m).isSome) y w c)))) (mkW G (va_up S 20 0) A Lg P T)) := by
  have hzl := (IV.l hI hj z hz).2
  obtain ⟨x1, x2, x3⟩ := shM_s (hR.2.2.2.2.2.2.1 j hj) hz
  intro y
  induction y with
  | zero =>
    intro w c hw
    have e : w = 100 := by omega
    subst e
    refine e_iload dX10_byStrangers_68 rfl ?_
    refine e_bipush (v := 100) dX10_byStrangers_70 (by decide) ?_
    refine e_icmp_ge (tgt := 105) dX10_byStrangers_72 rfl (fun _ => ?_) (fun h72 => absurd (by decide) h72)
    refine e_aload_n 0 dX10_byStrangers_105 rfl rfl ?_
    refine e_iload dX10_byStrangers_106 rfl ?_
    refine f_callVi (As := [_]) ok_X10_refused ⟨Nat.le_of_ble_eq_true rfl, Nat.le_of_ble_eq_true rfl⟩ dX10_byStrangers_108 kl_X10_91 ki_X10_refused kv_X10_refused rfl rfl rfl rfl (Nat.le_of_ble_eq_true rfl) (Nat.le_of_ble_eq_true rfl) (Nat.zero_add _) (Nat.zero_add _) sp_X10_refused ?_
    exact e_iret dX10_byStrangers_111 rfl ⟨rfl, rfl⟩
  | succ y ih =>
    intro w c hw
    refine e_iload dX10_byStrangers_68 rfl ?_
    refine e_bipush (v := 100) dX10_byStrangers_70 (by decide) ?_
    refine e_icmp_ge (tgt := 105) dX10_byStrangers_72 rfl (fun h72 => absurd h72 (by rw [show (100 : Int32) = nI 100 from rfl, nI_leI (by omega) (by omega)]; omega)) (fun _ => ?_)
    refine e_iload dX10_byStrangers_75 rfl ?_
    refine e_aload_n 0 dX10_byStrangers_77 rfl rfl ?_
    refine e_iload dX10_byStrangers_78 rfl ?_
    refine e_iload_n 1 dX10_byStrangers_80 rfl rfl ?_
    refine e_iload dX10_byStrangers_81 rfl ?_
    refine e_iload dX10_byStrangers_83 rfl ?_
    refine f_callVi (As := [_, _, _, _]) ok_X10_passesAll ⟨Nat.le_of_ble_eq_true rfl, Nat.le_of_ble_eq_true rfl⟩ dX10_byStrangers_85 kl_X10_257 ki_X10_passesAll kv_X10_passesAll rfl rfl rfl rfl (Nat.le_of_ble_eq_true rfl) (Nat.le_of_ble_eq_true rfl) (Nat.zero_add _) (Nat.zero_add _) (sp_X10_passesAll hR hI hj hz ham hok hr (by omega)) ?_
    refine e_if_eq (tgt := 95) dX10_byStrangers_88 rfl (fun h88 => ?_) (fun h88 => ?_)
    · refine e_iconst (v := 0) dX10_byStrangers_95 rfl ?_
      refine e_iadd dX10_byStrangers_96 ?_
      refine e_istore (lv' := [_, _, _, _, _, _, _, _, _, _]) dX10_byStrangers_97 (Nat.le_of_ble_eq_true rfl) rfl rfl ?_
      refine e_iinc (v := _ + 1) (lv' := [_, _, _, _, _, _, _, _, _, _]) dX10_byStrangers_99 rfl (Nat.le_of_ble_eq_true rfl) rfl rfl rfl ?_
      refine e_goto (tgt := 68) dX10_byStrangers_102 rfl ?_
      rw [nI_1]
      first
      | (rw [nI_1]; have := ih (w + 1) (c + 1) (by omega); rw [bsN, if_pos (bi_1.mp h88)]; exact this)
      | (rw [Int32.add_zero]; have := ih (w + 1) c (by omega); rw [bsN, if_neg (bi_0.mp h88)]; exact this)
    · refine e_iconst (v := 1) dX10_byStrangers_91 rfl ?_
      refine e_goto (tgt := 96) dX10_byStrangers_92 rfl ?_
      refine e_iadd dX10_byStrangers_96 ?_
      refine e_istore (lv' := [_, _, _, _, _, _, _, _, _, _]) dX10_byStrangers_97 (Nat.le_of_ble_eq_true rfl) rfl rfl ?_
      refine e_iinc (v := _ + 1) (lv' := [_, _, _, _, _, _, _, _, _, _]) dX10_byStrangers_99 rfl (Nat.le_of_ble_eq_true rfl) rfl rfl rfl ?_
      refine e_goto (tgt := 68) dX10_byStrangers_102 rfl ?_
      rw [nI_1]
      first
      | (rw [nI_1]; have := ih (w + 1) (c + 1) (by omega); rw [bsN, if_pos (bi_1.mp h88)]; exact this)
      | (rw [Int32.add_zero]; have := ih (w + 1) c (by omega); rw [bsN, if_neg (bi_0.mp h88)]; exact this)

set_option maxRecDepth 4000 in
theorem sp_X10_byStrangers {G : sh_G} {S : Nat → Int32} {A : Nat → Nat → Int32} {Lg : Nat → Int64} {P : Nat → Option Nat} {T : List sh_C} {b : sh_be} {r k lane i n : Int32} (hR : RM S A b) (hI : IV b) : Ev G mX10_byStrangers 0 0 (mkW G S A Lg P T) 0 [some (.ref 24), some (.int r), some (.int k), some (.int lane), some (.int i), some (.int n), none, none, none, none] [] (QM G S A Lg P T (some (.int (oBy b r k lane i n).1)) (oBy b r k lane i n).2) := by
  have i1 := hI.1
  refine e_aload_n 0 dX10_byStrangers_0 rfl rfl ?_
  refine e_iload_n 1 dX10_byStrangers_1 rfl rfl ?_
  refine f_callVi (As := [_]) ok_X10_noRoom ⟨Nat.le_of_ble_eq_true rfl, Nat.le_of_ble_eq_true rfl⟩ dX10_byStrangers_2 kl_X10_167 ki_X10_noRoom kv_X10_noRoom rfl rfl rfl rfl (Nat.le_of_ble_eq_true rfl) (Nat.le_of_ble_eq_true rfl) (Nat.zero_add _) (Nat.zero_add _) (sp_X10_noRoom hR hI) ?_
  refine e_if_eq (tgt := 14) dX10_byStrangers_5 rfl (fun h5 => ?_) (fun h5 => ?_)
  · have h5 := Classical.not_not.mp (bi_0.mp h5)
    obtain ⟨r, hr, rfl⟩ := ix_of (x := r) rfl (by omega) h5
    refine e_aload_n 0 dX10_byStrangers_14 rfl rfl ?_
    refine e_iload_n 2 dX10_byStrangers_15 rfl rfl ?_
    refine e_iload_n 3 dX10_byStrangers_16 rfl rfl ?_
    refine e_iload dX10_byStrangers_17 rfl ?_
    refine e_iload dX10_byStrangers_19 rfl ?_
    refine e_i2l dX10_byStrangers_21 ?_
    refine f_callVi (As := [_, _, _, _]) ok_X10_barred ⟨Nat.le_of_ble_eq_true rfl, Nat.le_of_ble_eq_true rfl⟩ dX10_byStrangers_22 kl_X10_138 ki_X10_barred kv_X10_barred rfl rfl rfl rfl (Nat.le_of_ble_eq_true rfl) (Nat.le_of_ble_eq_true rfl) (Nat.zero_add _) (Nat.zero_add _) (sp_X10_barred hR hI) ?_
    refine e_istore (lv' := [_, _, _, _, _, _, _, _, _, _]) dX10_byStrangers_25 (Nat.le_of_ble_eq_true rfl) rfl rfl ?_
    refine e_iload dX10_byStrangers_27 rfl ?_
    refine e_if_ge (tgt := 35) dX10_byStrangers_29 rfl (fun h29 => ?_) (fun h29 => ?_)
    · have hz0 : oRef b k lane i n = 0 := oRef_pos h29
      rw [if_pos hz0]
      obtain ⟨j, hj, rfl, z, hz, -, a, m, ham, rfl, rfl⟩ := oRef_ok hI hz0
      have hzl := (IV.l hI hj z hz).2
      refine e_bipush (v := 60) dX10_byStrangers_35 (by decide) ?_
      refine e_iload_n 2 dX10_byStrangers_37 rfl rfl ?_
      refine e_imul dX10_byStrangers_38 ?_
      refine e_iload dX10_byStrangers_39 rfl ?_
      refine e_iadd dX10_byStrangers_41 ?_
      rw [mul60]
      refine e_istore (lv' := [_, _, _, _, _, _, _, _, _, _]) dX10_byStrangers_42 (Nat.le_of_ble_eq_true rfl) rfl rfl ?_
      refine e_aload_n 0 dX10_byStrangers_44 rfl rfl ?_
      refine e_iload dX10_byStrangers_45 rfl ?_
      refine e_iload dX10_byStrangers_47 rfl ?_
      refine f_callVi (As := [_, _]) ok_X10_areDoors ⟨Nat.le_of_ble_eq_true rfl, Nat.le_of_ble_eq_true rfl⟩ dX10_byStrangers_49 kl_X10_254 ki_X10_areDoors kv_X10_areDoors rfl rfl rfl rfl (Nat.le_of_ble_eq_true rfl) (Nat.le_of_ble_eq_true rfl) (Nat.zero_add _) (Nat.zero_add _) (sp_X10_areDoors hR hI hj hz ham) ?_
      refine e_if_ne (tgt := 61) dX10_byStrangers_52 rfl (fun h52 => ?_) (fun h52 => ?_)
      · refine e_iconst (v := 0) dX10_byStrangers_61 rfl ?_
        refine e_istore (lv' := [_, _, _, _, _, _, _, _, _, _]) dX10_byStrangers_62 (Nat.le_of_ble_eq_true rfl) rfl rfl ?_
        refine e_bipush (v := 10) dX10_byStrangers_64 (by decide) ?_
        refine e_istore (lv' := [_, _, _, _, _, _, _, _, _, _]) dX10_byStrangers_66 (Nat.le_of_ble_eq_true rfl) rfl rfl ?_
        have hd : oDrs b (nI j) lane (nI a) (nI m) = 0 := by rw [oDrs, if_neg (nn_ hz0), nI_clamp (by omega), nI_clamp (by omega), nI_clamp (by omega), if_pos (bi_1.mp h52)]
        refine e_q (lp_X10_byStrangers hR hI hj hz ham (bi_1.mp h52) hr 90 10 0 rfl) (fun v w' hw => ?_)
        obtain ⟨rfl, rfl⟩ := hw
        have ho : oBy b (nI r) (nI j) lane (nI a) (nI m) = (nI (bsN (fun w => (psN b j a w r m).isSome) 90 10 0), uF_ b 0) := by
          rw [oBy, if_neg (nn_ h5), if_neg (nn_ hd), nI_clamp (by omega), nI_clamp (by omega), nI_clamp (by omega), nI_clamp (by omega)]
        rw [ho]
        exact ⟨_, A, rfl, rfl, hR.F 0, FM.S (by omega)⟩
      · refine e_aload_n 0 dX10_byStrangers_55 rfl rfl ?_
        refine e_iconst (v := -1) dX10_byStrangers_56 rfl ?_
        refine f_callVi (As := [_]) ok_X10_refused ⟨Nat.le_of_ble_eq_true rfl, Nat.le_of_ble_eq_true rfl⟩ dX10_byStrangers_57 kl_X10_91 ki_X10_refused kv_X10_refused rfl rfl rfl rfl (Nat.le_of_ble_eq_true rfl) (Nat.le_of_ble_eq_true rfl) (Nat.zero_add _) (Nat.zero_add _) sp_X10_refused ?_
        refine e_iret dX10_byStrangers_60 rfl ?_
        have hd : oDrs b (nI j) lane (nI a) (nI m) = -1 := by rw [oDrs, if_neg (nn_ hz0), nI_clamp (by omega), nI_clamp (by omega), nI_clamp (by omega), if_neg (bi_0.mp h52)]
        have ho : oBy b (nI r) (nI j) lane (nI a) (nI m) = (-1, uF_ b 0) := by
          rw [oBy, if_neg (nn_ h5), hd, if_pos (by decide), hz0]; rfl
        rw [ho]
        exact ⟨_, A, rfl, rfl, hR.F 0, FM.S (by omega)⟩
    · refine e_iload dX10_byStrangers_32 rfl ?_
      refine e_iret dX10_byStrangers_34 rfl ?_
      have hne : oRef b k lane i n ≠ 0 := fun h => absurd (show ¬ 0 ≤ oRef b k lane i n from h29) (by rw [h]; decide)
      have hd : oDrs b k lane i n = oRef b k lane i n := by rw [oDrs, if_pos hne]
      rw [if_neg hne]
      have ho : oBy b (nI r) k lane i n = (oRef b k lane i n, uF_ b (fOf (oRef b k lane i n))) := by
        rw [oBy, if_neg (nn_ h5), hd, if_pos hne]
      rw [ho]
      exact ⟨_, A, rfl, rfl, hR.F _, FM.S (by omega)⟩
  · refine e_aload_n 0 dX10_byStrangers_8 rfl rfl ?_
    refine e_iconst (v := -1) dX10_byStrangers_9 rfl ?_
    refine f_callVi (As := [_]) ok_X10_refused ⟨Nat.le_of_ble_eq_true rfl, Nat.le_of_ble_eq_true rfl⟩ dX10_byStrangers_10 kl_X10_91 ki_X10_refused kv_X10_refused rfl rfl rfl rfl (Nat.le_of_ble_eq_true rfl) (Nat.le_of_ble_eq_true rfl) (Nat.zero_add _) (Nat.zero_add _) sp_X10_refused ?_
    refine e_iret dX10_byStrangers_13 rfl ?_
    have ho : oBy b r k lane i n = (-1, uF_ b 0) := by
      rw [oBy, if_pos (bi_1.mp h5)]
    rw [ho]
    exact ⟨_, A, rfl, rfl, hR.F 0, FM.S (by omega)⟩
