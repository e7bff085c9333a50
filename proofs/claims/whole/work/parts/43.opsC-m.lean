set_option maxRecDepth 4000 in
theorem lr_X10_reachOf {G : sh_G} {S : Nat → Int32} {A : Nat → Nat → Int32} {Lg : Nat → Int64} {P : Nat → Option Nat} {T : List sh_C} {b : sh_be} {w r z d s : Nat} {x : Int32} {L7 : Option Value} {Q : Option Value → List sh_C → Prop} (hR : RM S A b) (hI : IV b) (hw : w < 2 ^ 20) (hz : z < 64) (hd : d < bn b 1) (hs : s < 2) (kk : ∀ L, Ev G mX10_reachOf 0 0 (mkW G S A Lg P T) 31 [some (.ref 24), some (.int (nI w)), some (.int (nI r)), some (.int (nI (rsS b d w s z))), some (.int x), some (.int (nI d)), some (.int (nI (s + 1))), L] [] Q) : Ev G mX10_reachOf 0 0 (mkW G S A Lg P T) 31 [some (.ref 24), some (.int (nI w)), some (.int (nI r)), some (.int (nI (z))), some (.int x), some (.int (nI d)), some (.int (nI s)), L7] [] Q := by
  have e1 := hR.2.1
  have e2 := hR.2.2.1
  have e3 := hR.2.2.2.1
  have e4 := hR.2.2.2.2.1
  have i1 := hI.1
  have i2 := hI.2.1
  have i3 := hI.2.2.1
  have i4 := hI.2.2.2.1
  obtain ⟨g0, g1, g2, g3, d8, k1, k2, k3, k4, k5, k6, k7⟩ := hR.dr hI hd
  have hs6 : ∀ s, sdR b d s < 6 := fun s => sdR_lt hI hd
  have hA : ∀ s, s < 2 → A 21 (2 * d + s) = nI (sdR b d s) := by
    intro s hs
    rcases (by omega : s = 0 ∨ s = 1) with rfl | rfl
    · exact g1
    · exact g2
  refine e_iload dX10_reachOf_31 rfl ?_
  refine e_iconst (v := 2) dX10_reachOf_33 rfl ?_
  refine e_icmp_ge (tgt := 110) dX10_reachOf_34 rfl (fun h34 => absurd h34 (by rw [show (2 : Int32) = nI 2 from rfl, nI_leI (by omega) (by omega)]; omega)) (fun _ => ?_)
  refine e_iload_n 3 dX10_reachOf_37 rfl rfl ?_
  refine e_aload_n 0 dX10_reachOf_38 rfl rfl ?_
  refine e_getfield 4 dX10_reachOf_39 kf_X10_13_10 rfl rfl ?_
  refine e_iconst (v := 2) dX10_reachOf_42 rfl ?_
  refine e_iload dX10_reachOf_43 rfl ?_
  refine e_imul dX10_reachOf_45 ?_
  refine e_iload dX10_reachOf_46 rfl ?_
  refine e_iadd dX10_reachOf_48 ?_
  refine e_iald_n (2 * d + s) dX10_reachOf_49 rfl (by rw [mul2, nI_add]) (by omega) (by decide) ?_
  rw [hA s hs]
  refine e_ishr dX10_reachOf_50 ?_
  refine e_iconst (v := 1) dX10_reachOf_51 rfl ?_
  refine e_iand dX10_reachOf_52 ?_
  refine e_iconst (v := 1) dX10_reachOf_53 rfl ?_
  refine e_icmp_ne (tgt := 61) dX10_reachOf_54 rfl (fun h54 => ?_) (fun h54 => ?_)
  · rw [Ne, bitm (by omega) (by have := hs6 s; omega)] at h54
    refine e_iconst (v := 0) dX10_reachOf_61 rfl ?_
    refine e_istore (lv' := [_, _, _, _, _, _, _, _]) dX10_reachOf_62 (Nat.le_of_ble_eq_true rfl) rfl rfl ?_
    refine e_iload_n 3 dX10_reachOf_64 rfl rfl ?_
    refine e_iload dX10_reachOf_65 rfl ?_
    refine e_if_eq (tgt := 101) dX10_reachOf_67 rfl (fun h67 => ?_) (fun h67 => ?_)
    · refine e_iconst (v := 0) dX10_reachOf_101 rfl ?_
      refine e_ior dX10_reachOf_102 ?_
      refine e_istore_n (lv' := [_, _, _, _, _, _, _, _]) 3 dX10_reachOf_103 rfl (Nat.le_of_ble_eq_true rfl) rfl rfl ?_
      refine e_iinc (v := _ + 1) (lv' := [_, _, _, _, _, _, _, _]) dX10_reachOf_104 rfl (Nat.le_of_ble_eq_true rfl) rfl rfl rfl ?_
      refine e_goto (tgt := 31) dX10_reachOf_107 rfl ?_
      rw [nI_1]
      first
      | exact absurd rfl h67
      | exact absurd (show (1 : Int32) = 0 from h67) (by decide)
      | (rw [sh1 (by have := hs6 (1 - s); omega), fa_or, show z ||| 2 ^ sdR b d (1 - s) = rsS b d w s z by rw [rsS, if_pos ⟨h54, bi_1.mp h79⟩]]
         exact kk _)
      | (rw [or_z]
         have e : rsS b d w s z = z := by
           rw [rsS]
           first
           | (rw [if_neg (fun h => h54 h.1)]; done)
           | (rw [if_neg (fun h => bi_0.mp h79 h.2)]; done)
         rw [e] at kk
         exact kk _)
    · refine e_aload_n 0 dX10_reachOf_70 rfl rfl ?_
      refine e_iload dX10_reachOf_71 rfl ?_
      refine e_iload dX10_reachOf_73 rfl ?_
      refine e_iload_n 1 dX10_reachOf_75 rfl rfl ?_
      refine f_callVi (As := [_, _, _]) ok_X10_isOpen ⟨Nat.le_of_ble_eq_true rfl, Nat.le_of_ble_eq_true rfl⟩ dX10_reachOf_76 kl_X10_160 ki_X10_isOpen kv_X10_isOpen rfl rfl rfl rfl (Nat.le_of_ble_eq_true rfl) (Nat.le_of_ble_eq_true rfl) (Nat.zero_add _) (Nat.zero_add _) (sp_X10_isOpen hR hI hd hs (by omega)) ?_
      refine e_if_eq (tgt := 101) dX10_reachOf_79 rfl (fun h79 => ?_) (fun h79 => ?_)
      · refine e_iconst (v := 0) dX10_reachOf_101 rfl ?_
        refine e_ior dX10_reachOf_102 ?_
        refine e_istore_n (lv' := [_, _, _, _, _, _, _, _]) 3 dX10_reachOf_103 rfl (Nat.le_of_ble_eq_true rfl) rfl rfl ?_
        refine e_iinc (v := _ + 1) (lv' := [_, _, _, _, _, _, _, _]) dX10_reachOf_104 rfl (Nat.le_of_ble_eq_true rfl) rfl rfl rfl ?_
        refine e_goto (tgt := 31) dX10_reachOf_107 rfl ?_
        rw [nI_1]
        first
        | exact absurd rfl h67
        | exact absurd (show (1 : Int32) = 0 from h67) (by decide)
        | (rw [sh1 (by have := hs6 (1 - s); omega), fa_or, show z ||| 2 ^ sdR b d (1 - s) = rsS b d w s z by rw [rsS, if_pos ⟨h54, bi_1.mp h79⟩]]
           exact kk _)
        | (rw [or_z]
           have e : rsS b d w s z = z := by
             rw [rsS]
             first
             | (rw [if_neg (fun h => h54 h.1)]; done)
             | (rw [if_neg (fun h => bi_0.mp h79 h.2)]; done)
           rw [e] at kk
           exact kk _)
      · refine e_iconst (v := 1) dX10_reachOf_82 rfl ?_
        refine e_aload_n 0 dX10_reachOf_83 rfl rfl ?_
        refine e_getfield 4 dX10_reachOf_84 kf_X10_13_10 rfl rfl ?_
        refine e_iconst (v := 2) dX10_reachOf_87 rfl ?_
        refine e_iload dX10_reachOf_88 rfl ?_
        refine e_imul dX10_reachOf_90 ?_
        refine e_iconst (v := 1) dX10_reachOf_91 rfl ?_
        refine e_iadd dX10_reachOf_92 ?_
        refine e_iload dX10_reachOf_93 rfl ?_
        refine e_isub dX10_reachOf_95 ?_
        refine e_iald_n (2 * d + (1 - s)) dX10_reachOf_96 rfl (by rw [mul2b]; exact (pk_sub (by omega)).trans (congrArg nI (by omega))) (by omega) (by decide) ?_
        rw [hA (1 - s) (by omega)]
        refine e_ishl dX10_reachOf_97 ?_
        refine e_goto (tgt := 102) dX10_reachOf_98 rfl ?_
        refine e_ior dX10_reachOf_102 ?_
        refine e_istore_n (lv' := [_, _, _, _, _, _, _, _]) 3 dX10_reachOf_103 rfl (Nat.le_of_ble_eq_true rfl) rfl rfl ?_
        refine e_iinc (v := _ + 1) (lv' := [_, _, _, _, _, _, _, _]) dX10_reachOf_104 rfl (Nat.le_of_ble_eq_true rfl) rfl rfl rfl ?_
        refine e_goto (tgt := 31) dX10_reachOf_107 rfl ?_
        rw [nI_1]
        first
        | exact absurd rfl h67
        | exact absurd (show (1 : Int32) = 0 from h67) (by decide)
        | (rw [sh1 (by have := hs6 (1 - s); omega), fa_or, show z ||| 2 ^ sdR b d (1 - s) = rsS b d w s z by rw [rsS, if_pos ⟨h54, bi_1.mp h79⟩]]
           exact kk _)
        | (rw [or_z]
           have e : rsS b d w s z = z := by
             rw [rsS]
             first
             | (rw [if_neg (fun h => h54 h.1)]; done)
             | (rw [if_neg (fun h => bi_0.mp h79 h.2)]; done)
           rw [e] at kk
           exact kk _)
  · rw [bitm (by omega) (by have := hs6 s; omega)] at h54
    refine e_iconst (v := 1) dX10_reachOf_57 rfl ?_
    refine e_goto (tgt := 62) dX10_reachOf_58 rfl ?_
    refine e_istore (lv' := [_, _, _, _, _, _, _, _]) dX10_reachOf_62 (Nat.le_of_ble_eq_true rfl) rfl rfl ?_
    refine e_iload_n 3 dX10_reachOf_64 rfl rfl ?_
    refine e_iload dX10_reachOf_65 rfl ?_
    refine e_if_eq (tgt := 101) dX10_reachOf_67 rfl (fun h67 => ?_) (fun h67 => ?_)
    · refine e_iconst (v := 0) dX10_reachOf_101 rfl ?_
      refine e_ior dX10_reachOf_102 ?_
      refine e_istore_n (lv' := [_, _, _, _, _, _, _, _]) 3 dX10_reachOf_103 rfl (Nat.le_of_ble_eq_true rfl) rfl rfl ?_
      refine e_iinc (v := _ + 1) (lv' := [_, _, _, _, _, _, _, _]) dX10_reachOf_104 rfl (Nat.le_of_ble_eq_true rfl) rfl rfl rfl ?_
      refine e_goto (tgt := 31) dX10_reachOf_107 rfl ?_
      rw [nI_1]
      first
      | exact absurd rfl h67
      | exact absurd (show (1 : Int32) = 0 from h67) (by decide)
      | (rw [sh1 (by have := hs6 (1 - s); omega), fa_or, show z ||| 2 ^ sdR b d (1 - s) = rsS b d w s z by rw [rsS, if_pos ⟨h54, bi_1.mp h79⟩]]
         exact kk _)
      | (rw [or_z]
         have e : rsS b d w s z = z := by
           rw [rsS]
           first
           | (rw [if_neg (fun h => h54 h.1)]; done)
           | (rw [if_neg (fun h => bi_0.mp h79 h.2)]; done)
         rw [e] at kk
         exact kk _)
    · refine e_aload_n 0 dX10_reachOf_70 rfl rfl ?_
      refine e_iload dX10_reachOf_71 rfl ?_
      refine e_iload dX10_reachOf_73 rfl ?_
      refine e_iload_n 1 dX10_reachOf_75 rfl rfl ?_
      refine f_callVi (As := [_, _, _]) ok_X10_isOpen ⟨Nat.le_of_ble_eq_true rfl, Nat.le_of_ble_eq_true rfl⟩ dX10_reachOf_76 kl_X10_160 ki_X10_isOpen kv_X10_isOpen rfl rfl rfl rfl (Nat.le_of_ble_eq_true rfl) (Nat.le_of_ble_eq_true rfl) (Nat.zero_add _) (Nat.zero_add _) (sp_X10_isOpen hR hI hd hs (by omega)) ?_
      refine e_if_eq (tgt := 101) dX10_reachOf_79 rfl (fun h79 => ?_) (fun h79 => ?_)
      · refine e_iconst (v := 0) dX10_reachOf_101 rfl ?_
        refine e_ior dX10_reachOf_102 ?_
        refine e_istore_n (lv' := [_, _, _, _, _, _, _, _]) 3 dX10_reachOf_103 rfl (Nat.le_of_ble_eq_true rfl) rfl rfl ?_
        refine e_iinc (v := _ + 1) (lv' := [_, _, _, _, _, _, _, _]) dX10_reachOf_104 rfl (Nat.le_of_ble_eq_true rfl) rfl rfl rfl ?_
        refine e_goto (tgt := 31) dX10_reachOf_107 rfl ?_
        rw [nI_1]
        first
        | exact absurd rfl h67
        | exact absurd (show (1 : Int32) = 0 from h67) (by decide)
        | (rw [sh1 (by have := hs6 (1 - s); omega), fa_or, show z ||| 2 ^ sdR b d (1 - s) = rsS b d w s z by rw [rsS, if_pos ⟨h54, bi_1.mp h79⟩]]
           exact kk _)
        | (rw [or_z]
           have e : rsS b d w s z = z := by
             rw [rsS]
             first
             | (rw [if_neg (fun h => h54 h.1)]; done)
             | (rw [if_neg (fun h => bi_0.mp h79 h.2)]; done)
           rw [e] at kk
           exact kk _)
      · refine e_iconst (v := 1) dX10_reachOf_82 rfl ?_
        refine e_aload_n 0 dX10_reachOf_83 rfl rfl ?_
        refine e_getfield 4 dX10_reachOf_84 kf_X10_13_10 rfl rfl ?_
        refine e_iconst (v := 2) dX10_reachOf_87 rfl ?_
        refine e_iload dX10_reachOf_88 rfl ?_
        refine e_imul dX10_reachOf_90 ?_
        refine e_iconst (v := 1) dX10_reachOf_91 rfl ?_
        refine e_iadd dX10_reachOf_92 ?_
        refine e_iload dX10_reachOf_93 rfl ?_
        refine e_isub dX10_reachOf_95 ?_
        refine e_iald_n (2 * d + (1 - s)) dX10_reachOf_96 rfl (by rw [mul2b]; exact (pk_sub (by omega)).trans (congrArg nI (by omega))) (by omega) (by decide) ?_
        rw [hA (1 - s) (by omega)]
        refine e_ishl dX10_reachOf_97 ?_
        refine e_goto (tgt := 102) dX10_reachOf_98 rfl ?_
        refine e_ior dX10_reachOf_102 ?_
        refine e_istore_n (lv' := [_, _, _, _, _, _, _, _]) 3 dX10_reachOf_103 rfl (Nat.le_of_ble_eq_true rfl) rfl rfl ?_
        refine e_iinc (v := _ + 1) (lv' := [_, _, _, _, _, _, _, _]) dX10_reachOf_104 rfl (Nat.le_of_ble_eq_true rfl) rfl rfl rfl ?_
        refine e_goto (tgt := 31) dX10_reachOf_107 rfl ?_
        rw [nI_1]
        first
        | exact absurd rfl h67
        | exact absurd (show (1 : Int32) = 0 from h67) (by decide)
        | (rw [sh1 (by have := hs6 (1 - s); omega), fa_or, show z ||| 2 ^ sdR b d (1 - s) = rsS b d w s z by rw [rsS, if_pos ⟨h54, bi_1.mp h79⟩]]
           exact kk _)
        | (rw [or_z]
           have e : rsS b d w s z = z := by
             rw [rsS]
             first
             | (rw [if_neg (fun h => h54 h.1)]; done)
             | (rw [if_neg (fun h => bi_0.mp h79 h.2)]; done)
           rw [e] at kk
           exact kk _)

set_option maxRecDepth 4000 in
theorem lq_X10_reachOf {G : sh_G} {S : Nat → Int32} {A : Nat → Nat → Int32} {Lg : Nat → Int64} {P : Nat → Option Nat} {T : List sh_C} {b : sh_be} {w r z : Nat} {x : Int32} {Q : Option Value → List sh_C → Prop} (hR : RM S A b) (hI : IV b) (hw : w < 2 ^ 20) (hz : z < 64) (kk : ∀ L6 L7, Ev G mX10_reachOf 0 0 (mkW G S A Lg P T) 116 [some (.ref 24), some (.int (nI w)), some (.int (nI r)), some (.int (nI (rsd b w (bn b 1) z))), some (.int x), some (.int (nI (bn b 1))), L6, L7] [] Q) : ∀ (m d : Nat) (L6 L7 : Option Value), bn b 1 - d < m → d ≤ bn b 1 → Ev G mX10_reachOf 0 0 (mkW G S A Lg P T) 19 [some (.ref 24), some (.int (nI w)), some (.int (nI r)), some (.int (nI (rsd b w d z))), some (.int x), some (.int (nI d)), L6, L7] [] Q := by
  have e1 := hR.2.1
  have e2 := hR.2.2.1
  have e3 := hR.2.2.2.1
  have e4 := hR.2.2.2.2.1
  have i1 := hI.1
  have i2 := hI.2.1
  have i3 := hI.2.2.1
  have i4 := hI.2.2.2.1
  intro m
  induction m with
  | zero => intro d L6 L7 h; omega
  | succ m ih =>
    intro d L6 L7 hm hdl
    refine e_iload dX10_reachOf_19 rfl ?_
    refine e_aload_n 0 dX10_reachOf_21 rfl rfl ?_
    refine e_getfield 2 dX10_reachOf_22 kf_X10_111_10 rfl rfl ?_
    refine e_icmp_ge (tgt := 116) dX10_reachOf_25 rfl (fun h25 => ?_) (fun h25 => ?_)
    · have e : d = bn b 1 := by rw [e2, nI_leI (by omega) (by omega)] at h25; omega
      subst e
      exact kk _ _
    · have hd : d < bn b 1 := by rw [e2, nI_leI (by omega) (by omega)] at h25; omega
      have hz1 := rsd_lt hI (w := w) (d := d) (by omega) hz
      have hz2 := rsS_lt hI (w := w) (s := 0) hd hz1
      refine e_iconst (v := 0) dX10_reachOf_28 rfl ?_
      refine e_istore (lv' := [_, _, _, _, _, _, _, _]) dX10_reachOf_29 (Nat.le_of_ble_eq_true rfl) rfl rfl ?_
      refine lr_X10_reachOf hR hI hw hz1 hd (s := 0) (by omega) (fun L => ?_)
      refine lr_X10_reachOf hR hI hw hz2 hd (s := 1) (by omega) (fun L => ?_)
      refine e_iload dX10_reachOf_31 rfl ?_
      refine e_iconst (v := 2) dX10_reachOf_33 rfl ?_
      refine e_icmp_ge (tgt := 110) dX10_reachOf_34 rfl (fun _ => ?_) (fun h34 => absurd (by decide) h34)
      refine e_iinc (v := _ + 1) (lv' := [_, _, _, _, _, _, _, _]) dX10_reachOf_110 rfl (Nat.le_of_ble_eq_true rfl) rfl rfl rfl ?_
      refine e_goto (tgt := 19) dX10_reachOf_113 rfl ?_
      rw [nI_1]
      exact ih (d + 1) _ _ (by omega) (by omega)

set_option maxRecDepth 4000 in
theorem lp_X10_reachOf {G : sh_G} {S : Nat → Int32} {A : Nat → Nat → Int32} {Lg : Nat → Int64} {P : Nat → Option Nat} {T : List sh_C} {b : sh_be} {w r : Nat} (hR : RM S A b) (hI : IV b) (hw : w < 2 ^ 20) (hr : r < bn b 0) : ∀ (m n : Nat) (L5 L6 L7 : Option Value), bn b 0 - n < m → n ≤ bn b 0 → Ev G mX10_reachOf 0 0 (mkW G S A Lg P T) 7 [some (.ref 24), some (.int (nI w)), some (.int (nI r)), some (.int (nI (rsr b w n (2 ^ r)))), some (.int (nI n)), L5, L6, L7] [] (sh_is (some (.int (nI (reachN b w r)))) (mkW G S A Lg P T)) := by
  have e1 := hR.2.1
  have e2 := hR.2.2.1
  have e3 := hR.2.2.2.1
  have e4 := hR.2.2.2.2.1
  have i1 := hI.1
  have i2 := hI.2.1
  have i3 := hI.2.2.1
  have i4 := hI.2.2.2.1
  intro m
  induction m with
  | zero => intro n L5 L6 L7 h; omega
  | succ m ih =>
    intro n L5 L6 L7 hm hn
    refine e_iload dX10_reachOf_7 rfl ?_
    refine e_aload_n 0 dX10_reachOf_9 rfl rfl ?_
    refine e_getfield 1 dX10_reachOf_10 kf_X10_108_10 rfl rfl ?_
    refine e_icmp_ge (tgt := 122) dX10_reachOf_13 rfl (fun h13 => ?_) (fun h13 => ?_)
    · have e : n = bn b 0 := by rw [e1, nI_leI (by omega) (by omega)] at h13; omega
      subst e
      refine e_iload_n 3 dX10_reachOf_122 rfl rfl ?_
      exact e_iret dX10_reachOf_123 rfl ⟨rfl, rfl⟩
    · have hlt : n < bn b 0 := by rw [e1, nI_leI (by omega) (by omega)] at h13; omega
      have hz := rsr_lt hI (w := w) (n := n) (pow_r hI hr)
      refine e_iconst (v := 0) dX10_reachOf_16 rfl ?_
      refine e_istore (lv' := [_, _, _, _, _, _, _, _]) dX10_reachOf_17 (Nat.le_of_ble_eq_true rfl) rfl rfl ?_
      refine lq_X10_reachOf hR hI hw hz (fun L6 L7 => ?_) (bn b 1 + 1) 0 _ _ (by omega) (by omega)
      refine e_iinc (v := _ + 1) (lv' := [_, _, _, _, _, _, _, _]) dX10_reachOf_116 rfl (Nat.le_of_ble_eq_true rfl) rfl rfl rfl ?_
      refine e_goto (tgt := 7) dX10_reachOf_119 rfl ?_
      rw [nI_1]
      exact ih (n + 1) _ _ _ (by omega) (by omega)

set_option maxRecDepth 4000 in
theorem sp_X10_reachOf {G : sh_G} {S : Nat → Int32} {A : Nat → Nat → Int32} {Lg : Nat → Int64} {P : Nat → Option Nat} {T : List sh_C} {b : sh_be} {w r : Nat} (hR : RM S A b) (hI : IV b) (hw : w < 2 ^ 20) (hr : r < bn b 0) : Ev G mX10_reachOf 0 0 (mkW G S A Lg P T) 0 [some (.ref 24), some (.int (nI w)), some (.int (nI r)), none, none, none, none, none] [] (sh_is (some (.int (nI (reachN b w r)))) (mkW G S A Lg P T)) := by
  refine e_iconst (v := 1) dX10_reachOf_0 rfl ?_
  refine e_iload_n 2 dX10_reachOf_1 rfl rfl ?_
  refine e_ishl dX10_reachOf_2 ?_
  refine e_istore_n (lv' := [_, _, _, _, _, _, _, _]) 3 dX10_reachOf_3 rfl (Nat.le_of_ble_eq_true rfl) rfl rfl ?_
  refine e_iconst (v := 0) dX10_reachOf_4 rfl ?_
  refine e_istore (lv' := [_, _, _, _, _, _, _, _]) dX10_reachOf_5 (Nat.le_of_ble_eq_true rfl) rfl rfl ?_
  rw [sh1 (by have := hI.1; omega)]
  exact lp_X10_reachOf hR hI hw hr (bn b 0 + 1) 0 _ _ _ (by omega) (by omega)

set_option maxRecDepth 4000 in
theorem sp_X10_comesTo {G : sh_G} {S : Nat → Int32} {A : Nat → Nat → Int32} {Lg : Nat → Int64} {P : Nat → Option Nat} {T : List sh_C} {b : sh_be} {w f t : Nat} (hR : RM S A b) (hI : IV b) (hw : w < 2 ^ 20) (hf : f < bn b 0) (ht : t < bn b 0) : Ev G mX10_comesTo 0 0 (mkW G S A Lg P T) 0 [some (.ref 24), some (.int (nI w)), some (.int (nI f)), some (.int (nI t))] [] (sh_is (some (.int (bi (cmB b f t w = true)))) (mkW G S A Lg P T)) := by
  refine e_aload_n 0 dX10_comesTo_0 rfl rfl ?_
  refine e_iload_n 1 dX10_comesTo_1 rfl rfl ?_
  refine e_iload_n 2 dX10_comesTo_2 rfl rfl ?_
  refine f_callVi (As := [_, _]) ok_X10_reachOf ⟨Nat.le_of_ble_eq_true rfl, Nat.le_of_ble_eq_true rfl⟩ dX10_comesTo_3 kl_X10_242 ki_X10_reachOf kv_X10_reachOf rfl rfl rfl rfl (Nat.le_of_ble_eq_true rfl) (Nat.le_of_ble_eq_true rfl) (Nat.zero_add _) (Nat.zero_add _) (sp_X10_reachOf hR hI hw hf) ?_
  refine e_iload_n 3 dX10_comesTo_6 rfl rfl ?_
  refine e_ishr dX10_comesTo_7 ?_
  refine e_iconst (v := 1) dX10_comesTo_8 rfl ?_
  refine e_iand dX10_comesTo_9 ?_
  refine e_iconst (v := 1) dX10_comesTo_10 rfl ?_
  refine e_icmp_ne (tgt := 18) dX10_comesTo_11 rfl (fun h11 => ?_) (fun h11 => ?_)
  · refine e_iconst (v := 0) dX10_comesTo_18 rfl ?_
    refine e_zret dX10_comesTo_19 rfl rfl ?_
    have hz := reachN_lt hI (w := w) hf
    have i1 := hI.1
    refine is_i ?_ rfl
    first
    | (rw [bitm (by omega) (by omega)] at h11; exact (bi_t (c := cmB b f t w = true) h11).symm)
    | (rw [Ne, bitm (by omega) (by omega)] at h11; exact (bi_f (c := cmB b f t w = true) h11).symm)
  · refine e_iconst (v := 1) dX10_comesTo_14 rfl ?_
    refine e_goto (tgt := 19) dX10_comesTo_15 rfl ?_
    refine e_zret dX10_comesTo_19 rfl rfl ?_
    have hz := reachN_lt hI (w := w) hf
    have i1 := hI.1
    refine is_i ?_ rfl
    first
    | (rw [bitm (by omega) (by omega)] at h11; exact (bi_t (c := cmB b f t w = true) h11).symm)
    | (rw [Ne, bitm (by omega) (by omega)] at h11; exact (bi_f (c := cmB b f t w = true) h11).symm)

set_option maxRecDepth 4000 in
theorem sp_X10_reach {G : sh_G} {S : Nat → Int32} {A : Nat → Nat → Int32} {Lg : Nat → Int64} {P : Nat → Option Nat} {T : List sh_C} {b : sh_be} {w r : Int32} (hR : RM S A b) (hI : IV b) : Ev G mX10_reach 0 0 (mkW G S A Lg P T) 0 [some (.ref 24), some (.int w), some (.int r)] [] (sh_is (some (.int (oReach b w r))) (mkW G S A Lg P T)) := by
  have e1 := hR.2.1
  have e2 := hR.2.2.1
  have e3 := hR.2.2.2.1
  have e4 := hR.2.2.2.2.1
  have i1 := hI.1
  have i2 := hI.2.1
  have i3 := hI.2.2.1
  have i4 := hI.2.2.2.1
  refine e_aload_n 0 dX10_reach_0 rfl rfl ?_
  refine e_iload_n 2 dX10_reach_1 rfl rfl ?_
  refine f_callVi (As := [_]) ok_X10_noRoom ⟨Nat.le_of_ble_eq_true rfl, Nat.le_of_ble_eq_true rfl⟩ dX10_reach_2 kl_X10_167 ki_X10_noRoom kv_X10_noRoom rfl rfl rfl rfl (Nat.le_of_ble_eq_true rfl) (Nat.le_of_ble_eq_true rfl) (Nat.zero_add _) (Nat.zero_add _) (sp_X10_noRoom hR hI) ?_
  refine e_if_eq (tgt := 10) dX10_reach_5 rfl (fun h5 => ?_) (fun h5 => ?_)
  · have h5 := Classical.not_not.mp (bi_0.mp h5)
    refine e_iload_n 1 dX10_reach_10 rfl rfl ?_
    refine e_i2l dX10_reach_11 ?_
    refine e_lconst (v := 1) dX10_reach_12 rfl ?_
    refine e_ldc2 dX10_reach_13 kc_X10_240 ?_
    refine f_callSi (As := [_, _, _]) ok_X10_in ⟨Nat.le_of_ble_eq_true rfl, Nat.le_of_ble_eq_true rfl⟩ dX10_reach_16 kl_X10_97 ks_X10_in rfl rfl (Nat.le_of_ble_eq_true rfl) (Nat.le_of_ble_eq_true rfl) (Nat.zero_add _) (Nat.zero_add _) sp_X10_in ?_
    rw [inC (a' := 1) (b' := 999) (by decide) (by decide)]
    refine e_if_eq (tgt := 31) dX10_reach_19 rfl (fun h19 => ?_) (fun h19 => ?_)
    · refine e_bipush (v := -2) dX10_reach_31 (by decide) ?_
      refine e_iret dX10_reach_33 rfl ?_
      first
      | (refine is_i ?_ rfl; rw [oReach, if_neg (nn_ h5), if_neg (nn_ hw), nI_clamp (by omega), nI_clamp (by omega)]; done)
      | (refine is_i ?_ rfl; rw [oReach, if_neg (nn_ h5), if_pos (bi_0.mp h19)]; done)
    · obtain ⟨q, hq, rfl⟩ := ix_of (x := r) rfl (by omega) h5
      have hw := bi_1.mp h19
      obtain ⟨v, hv, rfl⟩ := ix_of (x := w) (n := 1000) rfl (by omega) ⟨fun h => hw.1 (i_t3 h), fun h => hw.2 (i_t6 h)⟩
      refine e_aload_n 0 dX10_reach_22 rfl rfl ?_
      refine e_iload_n 1 dX10_reach_23 rfl rfl ?_
      refine e_iload_n 2 dX10_reach_24 rfl rfl ?_
      refine f_callVi (As := [_, _]) ok_X10_reachOf ⟨Nat.le_of_ble_eq_true rfl, Nat.le_of_ble_eq_true rfl⟩ dX10_reach_25 kl_X10_242 ki_X10_reachOf kv_X10_reachOf rfl rfl rfl rfl (Nat.le_of_ble_eq_true rfl) (Nat.le_of_ble_eq_true rfl) (Nat.zero_add _) (Nat.zero_add _) (sp_X10_reachOf hR hI (by omega) hq) ?_
      refine e_goto (tgt := 33) dX10_reach_28 rfl ?_
      refine e_iret dX10_reach_33 rfl ?_
      first
      | (refine is_i ?_ rfl; rw [oReach, if_neg (nn_ h5), if_neg (nn_ hw), nI_clamp (by omega), nI_clamp (by omega)]; done)
      | (refine is_i ?_ rfl; rw [oReach, if_neg (nn_ h5), if_pos (bi_0.mp h19)]; done)
  · refine e_iconst (v := -1) dX10_reach_8 rfl ?_
    refine e_iret dX10_reach_9 rfl ?_
    have ho : oReach b w r = -1 := by
      rw [oReach, if_pos (bi_1.mp h5)]
    rw [ho]
    exact ⟨rfl, rfl⟩

theorem km1 {k : Int32} (h1 : ¬ k < -1) (h2 : ¬ 0 ≤ k) : k = -1 := by
  rw [fa_lt] at h1; rw [fa_le] at h2; rw [fa_eq]
  have e1 : (-1 : Int32).toInt = -1 := by decide
  have e0 : (0 : Int32).toInt = 0 := by decide
  omega
set_option maxRecDepth 4000 in
theorem lp_X10_strangers {G : sh_G} {S : Nat → Int32} {A : Nat → Nat → Int32} {Lg : Nat → Int64} {P : Nat → Option Nat} {T : List sh_C} {b : sh_be} {f t : Nat} {k : Int32} (hR : RM S A b) (hI : IV b) (hf : f < bn b 0) (ht : t < bn b 0) (hk : ¬ k < -1) : ∀ (m w n : Nat), w + m = 100 → Ev G mX10_strangers 0 0 (mkW G S A Lg P T) 30 [some (.ref 24), some (.int (nI f)), some (.int (nI t)), some (.int k), some (.int (nI n)), some (.int (nI w))] [] (sh_is (some (.int (stN (cmB b f t) k m w n))) (mkW G S A Lg P T)) := by
  intro m
  induction m with
  | zero =>
    intro w n hw
    have e : w = 100 := by omega
    subst e
    refine e_iload dX10_strangers_30 rfl ?_
    refine e_bipush (v := 100) dX10_strangers_32 (by decide) ?_
    refine e_icmp_ge (tgt := 66) dX10_strangers_34 rfl (fun _ => ?_) (fun h34 => absurd (by decide) h34)
    refine e_iload_n 3 dX10_strangers_66 rfl rfl ?_
    refine e_if_ge (tgt := 75) dX10_strangers_67 rfl (fun h67 => ?_) (fun h67 => ?_)
    · refine e_bipush (v := -9) dX10_strangers_75 (by decide) ?_
      refine e_iret dX10_strangers_77 rfl ?_
      refine is_i ?_ rfl
      first
      | (rw [stN, if_neg (fun h => absurd h67 (by rw [h]; decide))]; done)
      | (rw [stN, if_pos (km1 hk h67)]; done)
    · refine e_iload dX10_strangers_70 rfl ?_
      refine e_goto (tgt := 77) dX10_strangers_72 rfl ?_
      refine e_iret dX10_strangers_77 rfl ?_
      refine is_i ?_ rfl
      first
      | (rw [stN, if_neg (fun h => absurd h67 (by rw [h]; decide))]; done)
      | (rw [stN, if_pos (km1 hk h67)]; done)
  | succ m ih =>
    intro w n hw
    refine e_iload dX10_strangers_30 rfl ?_
    refine e_bipush (v := 100) dX10_strangers_32 (by decide) ?_
    refine e_icmp_ge (tgt := 66) dX10_strangers_34 rfl (fun h34 => absurd h34 (by rw [show (100 : Int32) = nI 100 from rfl, nI_leI (by omega) (by omega)]; omega)) (fun _ => ?_)
    refine e_aload_n 0 dX10_strangers_37 rfl rfl ?_
    refine e_iload dX10_strangers_38 rfl ?_
    refine e_iload_n 1 dX10_strangers_40 rfl rfl ?_
    refine e_iload_n 2 dX10_strangers_41 rfl rfl ?_
    refine f_callVi (As := [_, _, _]) ok_X10_comesTo ⟨Nat.le_of_ble_eq_true rfl, Nat.le_of_ble_eq_true rfl⟩ dX10_strangers_42 kl_X10_245 ki_X10_comesTo kv_X10_comesTo rfl rfl rfl rfl (Nat.le_of_ble_eq_true rfl) (Nat.le_of_ble_eq_true rfl) (Nat.zero_add _) (Nat.zero_add _) (sp_X10_comesTo hR hI (by omega) hf ht) ?_
    refine e_if_eq (tgt := 60) dX10_strangers_45 rfl (fun h45 => ?_) (fun h45 => ?_)
    · refine e_iinc (v := _ + 1) (lv' := [_, _, _, _, _, _]) dX10_strangers_60 rfl (Nat.le_of_ble_eq_true rfl) rfl rfl rfl ?_
      refine e_goto (tgt := 30) dX10_strangers_63 rfl ?_
      rw [nI_1]
      first
      | (rw [nI_1]; have := ih (w + 1) (n + 1) (by omega); rw [stN, if_pos (bi_1.mp h45), if_neg h51]; exact this)
      | (have := ih (w + 1) n (by omega); rw [stN, if_neg (bi_0.mp h45)]; exact this)
    · refine e_iload dX10_strangers_48 rfl ?_
      refine e_iload_n 3 dX10_strangers_50 rfl rfl ?_
      refine e_icmp_ne (tgt := 57) dX10_strangers_51 rfl (fun h51 => ?_) (fun h51 => ?_)
      · refine e_iinc (v := _ + 1) (lv' := [_, _, _, _, _, _]) dX10_strangers_57 rfl (Nat.le_of_ble_eq_true rfl) rfl rfl rfl ?_
        refine e_iinc (v := _ + 1) (lv' := [_, _, _, _, _, _]) dX10_strangers_60 rfl (Nat.le_of_ble_eq_true rfl) rfl rfl rfl ?_
        refine e_goto (tgt := 30) dX10_strangers_63 rfl ?_
        rw [nI_1]
        first
        | (rw [nI_1]; have := ih (w + 1) (n + 1) (by omega); rw [stN, if_pos (bi_1.mp h45), if_neg h51]; exact this)
        | (have := ih (w + 1) n (by omega); rw [stN, if_neg (bi_0.mp h45)]; exact this)
      · refine e_iload dX10_strangers_54 rfl ?_
        refine e_iret dX10_strangers_56 rfl ?_
        exact is_i (by rw [stN, if_pos (bi_1.mp h45), if_pos h51]) rfl

set_option maxRecDepth 4000 in
theorem sp_X10_strangers {G : sh_G} {S : Nat → Int32} {A : Nat → Nat → Int32} {Lg : Nat → Int64} {P : Nat → Option Nat} {T : List sh_C} {b : sh_be} {f t k : Int32} (hR : RM S A b) (hI : IV b) : Ev G mX10_strangers 0 0 (mkW G S A Lg P T) 0 [some (.ref 24), some (.int f), some (.int t), some (.int k), none, none] [] (sh_is (some (.int (oStr b f t k))) (mkW G S A Lg P T)) := by
  have e1 := hR.2.1
  have e2 := hR.2.2.1
  have e3 := hR.2.2.2.1
  have e4 := hR.2.2.2.2.1
  have i1 := hI.1
  have i2 := hI.2.1
  have i3 := hI.2.2.1
  have i4 := hI.2.2.2.1
  refine e_aload_n 0 dX10_strangers_0 rfl rfl ?_
  refine e_iload_n 1 dX10_strangers_1 rfl rfl ?_
  refine f_callVi (As := [_]) ok_X10_noRoom ⟨Nat.le_of_ble_eq_true rfl, Nat.le_of_ble_eq_true rfl⟩ dX10_strangers_2 kl_X10_167 ki_X10_noRoom kv_X10_noRoom rfl rfl rfl rfl (Nat.le_of_ble_eq_true rfl) (Nat.le_of_ble_eq_true rfl) (Nat.zero_add _) (Nat.zero_add _) (sp_X10_noRoom hR hI) ?_
  refine e_if_ne (tgt := 21) dX10_strangers_5 rfl (fun h5 => ?_) (fun h5 => ?_)
  · refine e_iconst (v := -1) dX10_strangers_21 rfl ?_
    refine e_iret dX10_strangers_22 rfl ?_
    have ho : oStr b f t k = -1 := by
      have hq : ¬ (¬ f < 0 ∧ ¬ nI (bn b 0) ≤ f) ∨ ¬ (¬ t < 0 ∧ ¬ nI (bn b 0) ≤ t) ∨ k < -1 := by
        first
        | exact Or.inl (bi_1.mp h5)
        | exact Or.inr (Or.inl (bi_1.mp h13))
        | exact Or.inr (Or.inr (Int32.not_le.mp h18))
      rw [oStr, if_pos hq]
    rw [ho]
    exact ⟨rfl, rfl⟩
  · refine e_aload_n 0 dX10_strangers_8 rfl rfl ?_
    refine e_iload_n 2 dX10_strangers_9 rfl rfl ?_
    refine f_callVi (As := [_]) ok_X10_noRoom ⟨Nat.le_of_ble_eq_true rfl, Nat.le_of_ble_eq_true rfl⟩ dX10_strangers_10 kl_X10_167 ki_X10_noRoom kv_X10_noRoom rfl rfl rfl rfl (Nat.le_of_ble_eq_true rfl) (Nat.le_of_ble_eq_true rfl) (Nat.zero_add _) (Nat.zero_add _) (sp_X10_noRoom hR hI) ?_
    refine e_if_ne (tgt := 21) dX10_strangers_13 rfl (fun h13 => ?_) (fun h13 => ?_)
    · refine e_iconst (v := -1) dX10_strangers_21 rfl ?_
      refine e_iret dX10_strangers_22 rfl ?_
      have ho : oStr b f t k = -1 := by
        have hq : ¬ (¬ f < 0 ∧ ¬ nI (bn b 0) ≤ f) ∨ ¬ (¬ t < 0 ∧ ¬ nI (bn b 0) ≤ t) ∨ k < -1 := by
          first
          | exact Or.inl (bi_1.mp h5)
          | exact Or.inr (Or.inl (bi_1.mp h13))
          | exact Or.inr (Or.inr (Int32.not_le.mp h18))
        rw [oStr, if_pos hq]
      rw [ho]
      exact ⟨rfl, rfl⟩
    · refine e_iload_n 3 dX10_strangers_16 rfl rfl ?_
      refine e_iconst (v := -1) dX10_strangers_17 rfl ?_
      refine e_icmp_ge (tgt := 23) dX10_strangers_18 rfl (fun h18 => ?_) (fun h18 => ?_)
      · have h5 := Classical.not_not.mp (bi_0.mp h5)
        have h13 := Classical.not_not.mp (bi_0.mp h13)
        have hq : ¬ (¬ (¬ f < 0 ∧ ¬ nI (bn b 0) ≤ f) ∨ ¬ (¬ t < 0 ∧ ¬ nI (bn b 0) ≤ t) ∨ k < -1) := fun h => h.elim (fun h => h h5) (fun h => h.elim (fun h => h h13) (Int32.not_lt.mpr h18))
        obtain ⟨f, hf, rfl⟩ := ix_of (x := f) rfl (by omega) h5
        obtain ⟨t, ht, rfl⟩ := ix_of (x := t) rfl (by omega) h13
        refine e_iconst (v := 0) dX10_strangers_23 rfl ?_
        refine e_istore (lv' := [_, _, _, _, _, _]) dX10_strangers_24 (Nat.le_of_ble_eq_true rfl) rfl rfl ?_
        refine e_bipush (v := 10) dX10_strangers_26 (by decide) ?_
        refine e_istore (lv' := [_, _, _, _, _, _]) dX10_strangers_28 (Nat.le_of_ble_eq_true rfl) rfl rfl ?_
        rw [oStr, if_neg hq, nI_clamp (by omega), nI_clamp (by omega)]
        exact lp_X10_strangers hR hI hf ht (Int32.not_lt.mpr h18) 90 10 0 rfl
      · refine e_iconst (v := -1) dX10_strangers_21 rfl ?_
        refine e_iret dX10_strangers_22 rfl ?_
        have ho : oStr b f t k = -1 := by
          have hq : ¬ (¬ f < 0 ∧ ¬ nI (bn b 0) ≤ f) ∨ ¬ (¬ t < 0 ∧ ¬ nI (bn b 0) ≤ t) ∨ k < -1 := by
            first
            | exact Or.inl (bi_1.mp h5)
            | exact Or.inr (Or.inl (bi_1.mp h13))
            | exact Or.inr (Or.inr (Int32.not_le.mp h18))
          rw [oStr, if_pos hq]
        rw [ho]
        exact ⟨rfl, rfl⟩

set_option maxRecDepth 4000 in
theorem lp_X10_guest {G : sh_G} {S : Nat → Int32} {A : Nat → Nat → Int32} {Lg : Nat → Int64} {P : Nat → Option Nat} {T : List sh_C} {b : sh_be} {p r : Nat} (hR : RM S A b) (hI : IV b) (hp : p < bn b 2) (hr : r < bn b 0) : ∀ (m x : Nat), x + m = 31 → Ev G mX10_guest 0 0 (mkW G S A Lg P T) 20 [some (.ref 24), some (.int (nI p)), some (.int (nI r)), some (.int (nI x))] [] (sh_is (some (.int (gsN (cmB b (ba b 5 p) r) (ba b 4 p) m x))) (mkW G S A Lg P T)) := by
  obtain ⟨p1, p2, p3, p4, p5, p6, p7, p8⟩ := hR.pe hI hp
  intro m
  induction m with
  | zero =>
    intro x hx
    have e : x = 31 := by omega
    subst e
    refine e_iload_n 3 dX10_guest_20 rfl rfl ?_
    refine e_bipush (v := 31) dX10_guest_21 (by decide) ?_
    refine e_icmp_ge (tgt := 97) dX10_guest_23 rfl (fun _ => ?_) (fun h23 => absurd (by decide) h23)
    refine e_bipush (v := -9) dX10_guest_97 (by decide) ?_
    exact e_iret dX10_guest_99 rfl ⟨rfl, rfl⟩
  | succ m ih =>
    intro x hx
    have hs := sub_i (a := ba b 4 p) (s := x) (by omega) (by omega)
    refine e_iload_n 3 dX10_guest_20 rfl rfl ?_
    refine e_bipush (v := 31) dX10_guest_21 (by decide) ?_
    refine e_icmp_ge (tgt := 97) dX10_guest_23 rfl (fun h23 => absurd h23 (by rw [show (31 : Int32) = nI 31 from rfl, nI_leI (by omega) (by omega)]; omega)) (fun _ => ?_)
    refine e_aload_n 0 dX10_guest_26 rfl rfl ?_
    refine e_getfield 13 dX10_guest_27 kf_X10_28_10 rfl rfl ?_
    refine e_iload_n 1 dX10_guest_30 rfl rfl ?_
    refine e_iald_n (p) dX10_guest_31 rfl rfl (by omega) (by decide) ?_
    refine e_iload_n 3 dX10_guest_32 rfl rfl ?_
    refine e_isub dX10_guest_33 ?_
    refine e_if_le (tgt := 64) dX10_guest_34 rfl (fun h34 => ?_) (fun h34 => ?_)
    · have hno : ¬ (x < ba b 4 p ∧ cmB b (ba b 5 p) r (ba b 4 p - x) = true) := by
        intro h
        first
        | exact bi_0.mp h56 h.2
        | (rw [p1, fa_le, hs] at h34
           have e1 : (0 : Int32).toInt = 0 := by decide
           have := h.1
           omega)
      refine e_aload_n 0 dX10_guest_64 rfl rfl ?_
      refine e_aload_n 0 dX10_guest_65 rfl rfl ?_
      refine e_getfield 13 dX10_guest_66 kf_X10_28_10 rfl rfl ?_
      refine e_iload_n 1 dX10_guest_69 rfl rfl ?_
      refine e_iald_n (p) dX10_guest_70 rfl rfl (by omega) (by decide) ?_
      refine e_iload_n 3 dX10_guest_71 rfl rfl ?_
      refine e_iadd dX10_guest_72 ?_
      refine e_aload_n 0 dX10_guest_73 rfl rfl ?_
      refine e_getfield 14 dX10_guest_74 kf_X10_31_10 rfl rfl ?_
      refine e_iload_n 1 dX10_guest_77 rfl rfl ?_
      refine e_iald_n (p) dX10_guest_78 rfl rfl (by omega) (by decide) ?_
      refine e_iload_n 2 dX10_guest_79 rfl rfl ?_
      rw [p1, p2, nI_add]
      refine f_callVi (As := [_, _, _]) ok_X10_comesTo ⟨Nat.le_of_ble_eq_true rfl, Nat.le_of_ble_eq_true rfl⟩ dX10_guest_80 kl_X10_245 ki_X10_comesTo kv_X10_comesTo rfl rfl rfl rfl (Nat.le_of_ble_eq_true rfl) (Nat.le_of_ble_eq_true rfl) (Nat.zero_add _) (Nat.zero_add _) (sp_X10_comesTo hR hI (by omega) p5 hr) ?_
      refine e_if_eq (tgt := 91) dX10_guest_83 rfl (fun h83 => ?_) (fun h83 => ?_)
      · refine e_iinc (v := _ + 1) (lv' := [_, _, _, _]) dX10_guest_91 rfl (Nat.le_of_ble_eq_true rfl) rfl rfl rfl ?_
        refine e_goto (tgt := 20) dX10_guest_94 rfl ?_
        rw [nI_1]
        have := ih (x + 1) (by omega)
        rw [gsN, if_neg hno, if_neg (bi_0.mp h83)]
        exact this
      · refine e_bipush (v := 100) dX10_guest_86 (by decide) ?_
        refine e_iload_n 3 dX10_guest_88 rfl rfl ?_
        refine e_iadd dX10_guest_89 ?_
        refine e_iret dX10_guest_90 rfl ?_
        exact is_i (by rw [gsN, if_neg hno, if_pos (bi_1.mp h83)]) rfl
    · have hxw : x < ba b 4 p := by
        rw [p1, fa_le, hs] at h34
        have e1 : (0 : Int32).toInt = 0 := by decide
        omega
      refine e_aload_n 0 dX10_guest_37 rfl rfl ?_
      refine e_aload_n 0 dX10_guest_38 rfl rfl ?_
      refine e_getfield 13 dX10_guest_39 kf_X10_28_10 rfl rfl ?_
      refine e_iload_n 1 dX10_guest_42 rfl rfl ?_
      refine e_iald_n (p) dX10_guest_43 rfl rfl (by omega) (by decide) ?_
      refine e_iload_n 3 dX10_guest_44 rfl rfl ?_
      refine e_isub dX10_guest_45 ?_
      refine e_aload_n 0 dX10_guest_46 rfl rfl ?_
      refine e_getfield 14 dX10_guest_47 kf_X10_31_10 rfl rfl ?_
      refine e_iload_n 1 dX10_guest_50 rfl rfl ?_
      refine e_iald_n (p) dX10_guest_51 rfl rfl (by omega) (by decide) ?_
      refine e_iload_n 2 dX10_guest_52 rfl rfl ?_
      rw [p1, p2, pk_sub (by omega)]
      refine f_callVi (As := [_, _, _]) ok_X10_comesTo ⟨Nat.le_of_ble_eq_true rfl, Nat.le_of_ble_eq_true rfl⟩ dX10_guest_53 kl_X10_245 ki_X10_comesTo kv_X10_comesTo rfl rfl rfl rfl (Nat.le_of_ble_eq_true rfl) (Nat.le_of_ble_eq_true rfl) (Nat.zero_add _) (Nat.zero_add _) (sp_X10_comesTo hR hI (by omega) p5 hr) ?_
      refine e_if_eq (tgt := 64) dX10_guest_56 rfl (fun h56 => ?_) (fun h56 => ?_)
      · have hno : ¬ (x < ba b 4 p ∧ cmB b (ba b 5 p) r (ba b 4 p - x) = true) := by
          intro h
          first
          | exact bi_0.mp h56 h.2
          | (rw [p1, fa_le, hs] at h34
             have e1 : (0 : Int32).toInt = 0 := by decide
             have := h.1
             omega)
        refine e_aload_n 0 dX10_guest_64 rfl rfl ?_
        refine e_aload_n 0 dX10_guest_65 rfl rfl ?_
        refine e_getfield 13 dX10_guest_66 kf_X10_28_10 rfl rfl ?_
        refine e_iload_n 1 dX10_guest_69 rfl rfl ?_
        refine e_iald_n (p) dX10_guest_70 rfl rfl (by omega) (by decide) ?_
        refine e_iload_n 3 dX10_guest_71 rfl rfl ?_
        refine e_iadd dX10_guest_72 ?_
        refine e_aload_n 0 dX10_guest_73 rfl rfl ?_
        refine e_getfield 14 dX10_guest_74 kf_X10_31_10 rfl rfl ?_
        refine e_iload_n 1 dX10_guest_77 rfl rfl ?_
        refine e_iald_n (p) dX10_guest_78 rfl rfl (by omega) (by decide) ?_
        refine e_iload_n 2 dX10_guest_79 rfl rfl ?_
        rw [p1, p2, nI_add]
        refine f_callVi (As := [_, _, _]) ok_X10_comesTo ⟨Nat.le_of_ble_eq_true rfl, Nat.le_of_ble_eq_true rfl⟩ dX10_guest_80 kl_X10_245 ki_X10_comesTo kv_X10_comesTo rfl rfl rfl rfl (Nat.le_of_ble_eq_true rfl) (Nat.le_of_ble_eq_true rfl) (Nat.zero_add _) (Nat.zero_add _) (sp_X10_comesTo hR hI (by omega) p5 hr) ?_
        refine e_if_eq (tgt := 91) dX10_guest_83 rfl (fun h83 => ?_) (fun h83 => ?_)
        · refine e_iinc (v := _ + 1) (lv' := [_, _, _, _]) dX10_guest_91 rfl (Nat.le_of_ble_eq_true rfl) rfl rfl rfl ?_
          refine e_goto (tgt := 20) dX10_guest_94 rfl ?_
          rw [nI_1]
          have := ih (x + 1) (by omega)
          rw [gsN, if_neg hno, if_neg (bi_0.mp h83)]
          exact this
        · refine e_bipush (v := 100) dX10_guest_86 (by decide) ?_
          refine e_iload_n 3 dX10_guest_88 rfl rfl ?_
          refine e_iadd dX10_guest_89 ?_
          refine e_iret dX10_guest_90 rfl ?_
          exact is_i (by rw [gsN, if_neg hno, if_pos (bi_1.mp h83)]) rfl
      · refine e_bipush (v := 100) dX10_guest_59 (by decide) ?_
        refine e_iload_n 3 dX10_guest_61 rfl rfl ?_
        refine e_isub dX10_guest_62 ?_
        refine e_iret dX10_guest_63 rfl ?_
        exact is_i (by rw [gsN, if_pos ⟨hxw, bi_1.mp h56⟩]) rfl

set_option maxRecDepth 4000 in
theorem sp_X10_guest {G : sh_G} {S : Nat → Int32} {A : Nat → Nat → Int32} {Lg : Nat → Int64} {P : Nat → Option Nat} {T : List sh_C} {b : sh_be} {p r : Int32} (hR : RM S A b) (hI : IV b) : Ev G mX10_guest 0 0 (mkW G S A Lg P T) 0 [some (.ref 24), some (.int p), some (.int r), none] [] (sh_is (some (.int (oGuest b p r))) (mkW G S A Lg P T)) := by
  have e1 := hR.2.1
  have e2 := hR.2.2.1
  have e3 := hR.2.2.2.1
  have e4 := hR.2.2.2.2.1
  have i1 := hI.1
  have i2 := hI.2.1
  have i3 := hI.2.2.1
  have i4 := hI.2.2.2.1
  refine e_aload_n 0 dX10_guest_0 rfl rfl ?_
  refine e_iload_n 1 dX10_guest_1 rfl rfl ?_
  refine f_callVi (As := [_]) ok_X10_noPerson ⟨Nat.le_of_ble_eq_true rfl, Nat.le_of_ble_eq_true rfl⟩ dX10_guest_2 kl_X10_176 ki_X10_noPerson kv_X10_noPerson rfl rfl rfl rfl (Nat.le_of_ble_eq_true rfl) (Nat.le_of_ble_eq_true rfl) (Nat.zero_add _) (Nat.zero_add _) (sp_X10_noPerson hR hI) ?_
  refine e_if_ne (tgt := 16) dX10_guest_5 rfl (fun h5 => ?_) (fun h5 => ?_)
  · refine e_iconst (v := -1) dX10_guest_16 rfl ?_
    refine e_iret dX10_guest_17 rfl ?_
    have ho : oGuest b p r = -1 := by
      first
      | rw [oGuest, if_pos (Or.inl (bi_1.mp h5))]
      | rw [oGuest, if_pos (Or.inr (bi_1.mp h13))]
    rw [ho]
    exact ⟨rfl, rfl⟩
  · refine e_aload_n 0 dX10_guest_8 rfl rfl ?_
    refine e_iload_n 2 dX10_guest_9 rfl rfl ?_
    refine f_callVi (As := [_]) ok_X10_noRoom ⟨Nat.le_of_ble_eq_true rfl, Nat.le_of_ble_eq_true rfl⟩ dX10_guest_10 kl_X10_167 ki_X10_noRoom kv_X10_noRoom rfl rfl rfl rfl (Nat.le_of_ble_eq_true rfl) (Nat.le_of_ble_eq_true rfl) (Nat.zero_add _) (Nat.zero_add _) (sp_X10_noRoom hR hI) ?_
    refine e_if_eq (tgt := 18) dX10_guest_13 rfl (fun h13 => ?_) (fun h13 => ?_)
    · have h5 := Classical.not_not.mp (bi_0.mp h5)
      have h13 := Classical.not_not.mp (bi_0.mp h13)
      have hq : ¬ (¬ (¬ p < 0 ∧ ¬ nI (bn b 2) ≤ p) ∨ ¬ (¬ r < 0 ∧ ¬ nI (bn b 0) ≤ r)) := fun h => h.elim (fun h => h h5) (fun h => h h13)
      obtain ⟨p, hp, rfl⟩ := ix_of (x := p) rfl (by omega) h5
      obtain ⟨r, hr, rfl⟩ := ix_of (x := r) rfl (by omega) h13
      refine e_iconst (v := 0) dX10_guest_18 rfl ?_
      refine e_istore_n (lv' := [_, _, _, _]) 3 dX10_guest_19 rfl (Nat.le_of_ble_eq_true rfl) rfl rfl ?_
      rw [oGuest, if_neg hq, nI_clamp (by omega), nI_clamp (by omega)]
      exact lp_X10_guest hR hI hp hr 31 0 rfl
    · refine e_iconst (v := -1) dX10_guest_16 rfl ?_
      refine e_iret dX10_guest_17 rfl ?_
      have ho : oGuest b p r = -1 := by
        first
        | rw [oGuest, if_pos (Or.inl (bi_1.mp h5))]
        | rw [oGuest, if_pos (Or.inr (bi_1.mp h13))]
      rw [ho]
      exact ⟨rfl, rfl⟩

set_option maxRecDepth 4000 in
theorem lp_X10_grows {G : sh_G} {S : Nat → Int32} {A : Nat → Nat → Int32} {Lg : Nat → Int64} {P : Nat → Option Nat} {T : List sh_C} {b : sh_be} {p g r : Nat} (hR : RM S A b) (hI : IV b) (hp : p < bn b 2) (hr : r < bn b 0) (hg : g < 10) : ∀ (m y : Nat), y + m = 31 → Ev G mX10_grows 0 0 (mkW G S A Lg P T) 36 [some (.ref 24), some (.int (nI p)), some (.int (nI g)), some (.int (nI r)), some (.int (nI y))] [] (sh_is (some (.int (grN (cmB b (ba b 5 p) r) (ba b 4 p) g m y))) (mkW G S A Lg P T)) := by
  obtain ⟨p1, p2, p3, p4, p5, p6, p7, p8⟩ := hR.pe hI hp
  intro m
  induction m with
  | zero =>
    intro y hy
    have e : y = 31 := by omega
    subst e
    refine e_iload dX10_grows_36 rfl ?_
    refine e_bipush (v := 31) dX10_grows_38 (by decide) ?_
    refine e_icmp_ge (tgt := 77) dX10_grows_40 rfl (fun _ => ?_) (fun h40 => absurd (by decide) h40)
    refine e_bipush (v := -9) dX10_grows_77 (by decide) ?_
    exact e_iret dX10_grows_79 rfl ⟨rfl, rfl⟩
  | succ m ih =>
    intro y hy
    have hgy : g * y ≤ 9 * 30 := Nat.mul_le_mul (by omega) (by omega)
    refine e_iload dX10_grows_36 rfl ?_
    refine e_bipush (v := 31) dX10_grows_38 (by decide) ?_
    refine e_icmp_ge (tgt := 77) dX10_grows_40 rfl (fun h40 => absurd h40 (by rw [show (31 : Int32) = nI 31 from rfl, nI_leI (by omega) (by omega)]; omega)) (fun _ => ?_)
    refine e_aload_n 0 dX10_grows_43 rfl rfl ?_
    refine e_aload_n 0 dX10_grows_44 rfl rfl ?_
    refine e_getfield 13 dX10_grows_45 kf_X10_28_10 rfl rfl ?_
    refine e_iload_n 1 dX10_grows_48 rfl rfl ?_
    refine e_iald_n (p) dX10_grows_49 rfl rfl (by omega) (by decide) ?_
    refine e_iload_n 2 dX10_grows_50 rfl rfl ?_
    refine e_iload dX10_grows_51 rfl ?_
    refine e_imul dX10_grows_53 ?_
    refine e_iadd dX10_grows_54 ?_
    refine e_aload_n 0 dX10_grows_55 rfl rfl ?_
    refine e_getfield 14 dX10_grows_56 kf_X10_31_10 rfl rfl ?_
    refine e_iload_n 1 dX10_grows_59 rfl rfl ?_
    refine e_iald_n (p) dX10_grows_60 rfl rfl (by omega) (by decide) ?_
    refine e_iload_n 3 dX10_grows_61 rfl rfl ?_
    rw [p1, p2, pk_mul, nI_add]
    refine f_callVi (As := [_, _, _]) ok_X10_comesTo ⟨Nat.le_of_ble_eq_true rfl, Nat.le_of_ble_eq_true rfl⟩ dX10_grows_62 kl_X10_245 ki_X10_comesTo kv_X10_comesTo rfl rfl rfl rfl (Nat.le_of_ble_eq_true rfl) (Nat.le_of_ble_eq_true rfl) (Nat.zero_add _) (Nat.zero_add _) (sp_X10_comesTo hR hI (by omega) p5 hr) ?_
    refine e_if_ne (tgt := 71) dX10_grows_65 rfl (fun h65 => ?_) (fun h65 => ?_)
    · refine e_iinc (v := _ + 1) (lv' := [_, _, _, _, _]) dX10_grows_71 rfl (Nat.le_of_ble_eq_true rfl) rfl rfl rfl ?_
      refine e_goto (tgt := 36) dX10_grows_74 rfl ?_
      rw [nI_1]
      have := ih (y + 1) (by omega)
      rw [grN, if_pos (bi_1.mp h65)]
      exact this
    · refine e_iload dX10_grows_68 rfl ?_
      refine e_iret dX10_grows_70 rfl ?_
      exact is_i (by rw [grN, if_neg (bi_0.mp h65)]) rfl

set_option maxRecDepth 4000 in
theorem sp_X10_grows {G : sh_G} {S : Nat → Int32} {A : Nat → Nat → Int32} {Lg : Nat → Int64} {P : Nat → Option Nat} {T : List sh_C} {b : sh_be} {p g r : Int32} (hR : RM S A b) (hI : IV b) : Ev G mX10_grows 0 0 (mkW G S A Lg P T) 0 [some (.ref 24), some (.int p), some (.int g), some (.int r), none] [] (sh_is (some (.int (oGrows b p g r))) (mkW G S A Lg P T)) := by
  have e1 := hR.2.1
  have e2 := hR.2.2.1
  have e3 := hR.2.2.2.1
  have e4 := hR.2.2.2.2.1
  have i1 := hI.1
  have i2 := hI.2.1
  have i3 := hI.2.2.1
  have i4 := hI.2.2.2.1
  refine e_aload_n 0 dX10_grows_0 rfl rfl ?_
  refine e_iload_n 1 dX10_grows_1 rfl rfl ?_
  refine f_callVi (As := [_]) ok_X10_noPerson ⟨Nat.le_of_ble_eq_true rfl, Nat.le_of_ble_eq_true rfl⟩ dX10_grows_2 kl_X10_176 ki_X10_noPerson kv_X10_noPerson rfl rfl rfl rfl (Nat.le_of_ble_eq_true rfl) (Nat.le_of_ble_eq_true rfl) (Nat.zero_add _) (Nat.zero_add _) (sp_X10_noPerson hR hI) ?_
  refine e_if_ne (tgt := 16) dX10_grows_5 rfl (fun h5 => ?_) (fun h5 => ?_)
  · refine e_iconst (v := -1) dX10_grows_16 rfl ?_
    refine e_iret dX10_grows_17 rfl ?_
    have ho : oGrows b p g r = -1 := by
      first
      | rw [oGrows, if_pos (Or.inl (bi_1.mp h5))]
      | rw [oGrows, if_pos (Or.inr (bi_1.mp h13))]
    rw [ho]
    exact ⟨rfl, rfl⟩
  · refine e_aload_n 0 dX10_grows_8 rfl rfl ?_
    refine e_iload_n 3 dX10_grows_9 rfl rfl ?_
    refine f_callVi (As := [_]) ok_X10_noRoom ⟨Nat.le_of_ble_eq_true rfl, Nat.le_of_ble_eq_true rfl⟩ dX10_grows_10 kl_X10_167 ki_X10_noRoom kv_X10_noRoom rfl rfl rfl rfl (Nat.le_of_ble_eq_true rfl) (Nat.le_of_ble_eq_true rfl) (Nat.zero_add _) (Nat.zero_add _) (sp_X10_noRoom hR hI) ?_
    refine e_if_eq (tgt := 18) dX10_grows_13 rfl (fun h13 => ?_) (fun h13 => ?_)
    · have h5 := Classical.not_not.mp (bi_0.mp h5)
      have h13 := Classical.not_not.mp (bi_0.mp h13)
      have hq : ¬ (¬ (¬ p < 0 ∧ ¬ nI (bn b 2) ≤ p) ∨ ¬ (¬ r < 0 ∧ ¬ nI (bn b 0) ≤ r)) := fun h => h.elim (fun h => h h5) (fun h => h h13)
      obtain ⟨p, hp, rfl⟩ := ix_of (x := p) rfl (by omega) h5
      obtain ⟨r, hr, rfl⟩ := ix_of (x := r) rfl (by omega) h13
      refine e_iload_n 2 dX10_grows_18 rfl rfl ?_
      refine e_i2l dX10_grows_19 ?_
      refine e_lconst (v := 0) dX10_grows_20 rfl ?_
      refine e_ldc2 dX10_grows_21 kc_X10_261 ?_
      refine f_callSi (As := [_, _, _]) ok_X10_in ⟨Nat.le_of_ble_eq_true rfl, Nat.le_of_ble_eq_true rfl⟩ dX10_grows_24 kl_X10_97 ks_X10_in rfl rfl (Nat.le_of_ble_eq_true rfl) (Nat.le_of_ble_eq_true rfl) (Nat.zero_add _) (Nat.zero_add _) sp_X10_in ?_
      rw [inC (a' := 0) (b' := 9) (by decide) (by decide)]
      refine e_if_ne (tgt := 33) dX10_grows_27 rfl (fun h27 => ?_) (fun h27 => ?_)
      · have hgg := bi_1.mp h27
        obtain ⟨g, hg, rfl⟩ := ix_of (x := g) (n := 10) rfl (by omega) ⟨hgg.1, fun h => hgg.2 (i_t7 h)⟩
        refine e_iconst (v := 0) dX10_grows_33 rfl ?_
        refine e_istore (lv' := [_, _, _, _, _]) dX10_grows_34 (Nat.le_of_ble_eq_true rfl) rfl rfl ?_
        rw [oGrows, if_neg hq, if_neg (nn_ hgg), nI_clamp (by omega), nI_clamp (by omega), nI_clamp (by omega)]
        exact lp_X10_grows hR hI hp hr hg 31 0 rfl
      · refine e_bipush (v := -2) dX10_grows_30 (by decide) ?_
        refine e_iret dX10_grows_32 rfl ?_
        have ho : oGrows b (nI p) g (nI r) = -2 := by
          rw [oGrows, if_neg hq, if_pos (bi_0.mp h27)]
        rw [ho]
        exact ⟨rfl, rfl⟩
    · refine e_iconst (v := -1) dX10_grows_16 rfl ?_
      refine e_iret dX10_grows_17 rfl ?_
      have ho : oGrows b p g r = -1 := by
        first
        | rw [oGrows, if_pos (Or.inl (bi_1.mp h5))]
        | rw [oGrows, if_pos (Or.inr (bi_1.mp h13))]
      rw [ho]
      exact ⟨rfl, rfl⟩
