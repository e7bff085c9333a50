set_option maxRecDepth 4000 in
theorem lp2_X10_copy {G : sh_G} {S : Nat → Int32} {A : Nat → Nat → Int32} {Lg : Nat → Int64} {P : Nat → Option Nat} {T : List sh_C} {x i y j m : Nat} (hx : x < 4) (hy : y < 4) (hi : i + m ≤ 60) (hj : j + m ≤ 60) : ∀ (v q : Nat), m - q < v → q ≤ m → Ev G mX10_copy 0 0 (mkW G S (va_up A 40 (hd (A 40) (A 41) (60 * y + j) q)) Lg P T) 144 [some (.ref 24), some (.int (nI x)), some (.int (nI i)), some (.int (nI y)), some (.int (nI j)), some (.int (nI m)), some (.int (nI q))] [] (sh_is (some (.int (nI m))) (mkW G (va_up S 20 0) (va_up A 40 (hd (A 40) (A 41) (60 * y + j) m)) Lg P T)) := by
  intro v
  induction v with
  | zero => intro q h; omega
  | succ v ih =>
    intro q hm hq
    refine e_iload dX10_copy_144 rfl ?_
    refine e_iload dX10_copy_146 rfl ?_
    refine e_icmp_ge (tgt := 179) dX10_copy_148 rfl (fun h148 => ?_) (fun h148 => ?_)
    · have e : q = m := by rw [nI_leI (by omega) (by omega)] at h148; omega
      subst e
      refine e_aload_n 0 dX10_copy_179 rfl rfl ?_
      refine e_iload dX10_copy_180 rfl ?_
      refine f_callVi (As := [_]) ok_X10_refused ⟨Nat.le_of_ble_eq_true rfl, Nat.le_of_ble_eq_true rfl⟩ dX10_copy_182 kl_X10_91 ki_X10_refused kv_X10_refused rfl rfl rfl rfl (Nat.le_of_ble_eq_true rfl) (Nat.le_of_ble_eq_true rfl) (Nat.zero_add _) (Nat.zero_add _) sp_X10_refused ?_
      exact e_iret dX10_copy_185 rfl ⟨rfl, rfl⟩
    · have hlt : q < m := by rw [nI_leI (by omega) (by omega)] at h148; omega
      refine e_aload_n 0 dX10_copy_151 rfl rfl ?_
      refine e_getfield 32 dX10_copy_152 kf_X10_71_10 rfl rfl ?_
      refine e_bipush (v := 60) dX10_copy_155 (by decide) ?_
      refine e_iload_n 3 dX10_copy_157 rfl rfl ?_
      refine e_imul dX10_copy_158 ?_
      refine e_iload dX10_copy_159 rfl ?_
      refine e_iadd dX10_copy_161 ?_
      refine e_iload dX10_copy_162 rfl ?_
      refine e_iadd dX10_copy_164 ?_
      refine e_aload_n 0 dX10_copy_165 rfl rfl ?_
      refine e_getfield 33 dX10_copy_166 kf_X10_74_10 rfl rfl ?_
      refine e_iload dX10_copy_169 rfl ?_
      refine e_iald_n (q) dX10_copy_171 rfl rfl (by omega) (by decide) ?_
      rw [mul60b]
      refine e_iast_n (60 * y + j + q) dX10_copy_172 rfl rfl (by omega) (by decide) ?_
      refine e_w (w' := mkW G S (va_up (va_up A 40 (hd (A 40) (A 41) (60 * y + j) q)) 40 (upd (hd (A 40) (A 41) (60 * y + j) q) (60 * y + j + q) (A 41 q))) Lg P T) rfl ?_
      rw [hd_s, bx_uu]
      refine e_iinc (v := _ + 1) (lv' := [_, _, _, _, _, _, _]) dX10_copy_173 rfl (Nat.le_of_ble_eq_true rfl) rfl rfl rfl ?_
      refine e_goto (tgt := 144) dX10_copy_176 rfl ?_
      rw [nI_1]
      exact ih (q + 1) (by omega) (by omega)

set_option maxRecDepth 4000 in
theorem lp1_X10_copy {G : sh_G} {S : Nat → Int32} {A : Nat → Nat → Int32} {Lg : Nat → Int64} {P : Nat → Option Nat} {T : List sh_C} {x i y j m : Nat} (hx : x < 4) (hy : y < 4) (hi : i + m ≤ 60) (hj : j + m ≤ 60) : ∀ (v q : Nat), m - q < v → q ≤ m → Ev G mX10_copy 0 0 (mkW G S (va_up A 41 (hc (A 41) (A 40) (60 * x + i) q)) Lg P T) 107 [some (.ref 24), some (.int (nI x)), some (.int (nI i)), some (.int (nI y)), some (.int (nI j)), some (.int (nI m)), some (.int (nI q))] [] (sh_is (some (.int (nI m))) (mkW G (va_up S 20 0) (va_up (va_up A 41 (hc (A 41) (A 40) (60 * x + i) m)) 40 (hd (A 40) (hc (A 41) (A 40) (60 * x + i) m) (60 * y + j) m)) Lg P T)) := by
  intro v
  induction v with
  | zero => intro q h; omega
  | succ v ih =>
    intro q hm hq
    refine e_iload dX10_copy_107 rfl ?_
    refine e_iload dX10_copy_109 rfl ?_
    refine e_icmp_ge (tgt := 141) dX10_copy_111 rfl (fun h111 => ?_) (fun h111 => ?_)
    · have e : q = m := by rw [nI_leI (by omega) (by omega)] at h111; omega
      subst e
      refine e_iconst (v := 0) dX10_copy_141 rfl ?_
      refine e_istore (lv' := [_, _, _, _, _, _, _]) dX10_copy_142 (Nat.le_of_ble_eq_true rfl) rfl rfl ?_
      have h2 := lp2_X10_copy (G := G) (S := S) (A := va_up A 41 (hc (A 41) (A 40) (60 * x + i) q)) (Lg := Lg) (P := P) (T := T) hx hy hi hj (q + 1) 0 (by omega) (by omega)
      rw [hd_0, up_self] at h2
      exact h2
    · have hlt : q < m := by rw [nI_leI (by omega) (by omega)] at h111; omega
      refine e_aload_n 0 dX10_copy_114 rfl rfl ?_
      refine e_getfield 33 dX10_copy_115 kf_X10_74_10 rfl rfl ?_
      refine e_iload dX10_copy_118 rfl ?_
      refine e_aload_n 0 dX10_copy_120 rfl rfl ?_
      refine e_getfield 32 dX10_copy_121 kf_X10_71_10 rfl rfl ?_
      refine e_bipush (v := 60) dX10_copy_124 (by decide) ?_
      refine e_iload_n 1 dX10_copy_126 rfl rfl ?_
      refine e_imul dX10_copy_127 ?_
      refine e_iload_n 2 dX10_copy_128 rfl rfl ?_
      refine e_iadd dX10_copy_129 ?_
      refine e_iload dX10_copy_130 rfl ?_
      refine e_iadd dX10_copy_132 ?_
      rw [mul60b]
      refine e_iald_n (60 * x + i + q) dX10_copy_133 rfl rfl (by omega) (by decide) ?_
      refine e_iast_n q dX10_copy_134 rfl rfl (by omega) (by decide) ?_
      refine e_w (w' := mkW G S (va_up (va_up A 41 (hc (A 41) (A 40) (60 * x + i) q)) 41 (upd (hc (A 41) (A 40) (60 * x + i) q) q (A 40 (60 * x + i + q)))) Lg P T) rfl ?_
      rw [hc_s, bx_uu]
      refine e_iinc (v := _ + 1) (lv' := [_, _, _, _, _, _, _]) dX10_copy_135 rfl (Nat.le_of_ble_eq_true rfl) rfl rfl rfl ?_
      refine e_goto (tgt := 107) dX10_copy_138 rfl ?_
      rw [nI_1]
      exact ih (q + 1) (by omega) (by omega)

set_option maxRecDepth 4000 in
theorem sp_X10_copy {G : sh_G} {S : Nat → Int32} {A : Nat → Nat → Int32} {Lg : Nat → Int64} {P : Nat → Option Nat} {T : List sh_C} {b : sh_be} {k i o j n : Int32} (hR : RM S A b) (hI : IV b) : Ev G mX10_copy 0 0 (mkW G S A Lg P T) 0 [some (.ref 24), some (.int k), some (.int i), some (.int o), some (.int j), some (.int n), none] [] (QM G S A Lg P T (some (.int (oCopy b k i o j n).1)) (oCopy b k i o j n).2) := by
  refine e_iload_n 1 dX10_copy_0 rfl rfl ?_
  refine f_callSi (As := [_]) ok_X10_noSheet ⟨Nat.le_of_ble_eq_true rfl, Nat.le_of_ble_eq_true rfl⟩ dX10_copy_1 kl_X10_87 ks_X10_noSheet rfl rfl (Nat.le_of_ble_eq_true rfl) (Nat.le_of_ble_eq_true rfl) (Nat.zero_add _) (Nat.zero_add _) sp_X10_noSheet ?_
  refine e_if_ne (tgt := 14) dX10_copy_4 rfl (fun h4 => ?_) (fun h4 => ?_)
  · refine e_aload_n 0 dX10_copy_14 rfl rfl ?_
    refine e_iconst (v := -1) dX10_copy_15 rfl ?_
    refine f_callVi (As := [_]) ok_X10_refused ⟨Nat.le_of_ble_eq_true rfl, Nat.le_of_ble_eq_true rfl⟩ dX10_copy_16 kl_X10_91 ki_X10_refused kv_X10_refused rfl rfl rfl rfl (Nat.le_of_ble_eq_true rfl) (Nat.le_of_ble_eq_true rfl) (Nat.zero_add _) (Nat.zero_add _) sp_X10_refused ?_
    refine e_iret dX10_copy_19 rfl ?_
    have ho : oCopy b k i o j n = (-1, uF_ b 0) := by
      first | rw [oCopy, if_pos (Or.inl (bi_1.mp h4))] | rw [oCopy, if_pos (Or.inr (bi_1.mp h11))]
    rw [ho]
    exact ⟨_, A, rfl, rfl, hR.F 0, FM.S (by omega)⟩
  · refine e_iload_n 3 dX10_copy_7 rfl rfl ?_
    refine f_callSi (As := [_]) ok_X10_noSheet ⟨Nat.le_of_ble_eq_true rfl, Nat.le_of_ble_eq_true rfl⟩ dX10_copy_8 kl_X10_87 ks_X10_noSheet rfl rfl (Nat.le_of_ble_eq_true rfl) (Nat.le_of_ble_eq_true rfl) (Nat.zero_add _) (Nat.zero_add _) sp_X10_noSheet ?_
    refine e_if_eq (tgt := 20) dX10_copy_11 rfl (fun h11 => ?_) (fun h11 => ?_)
    · have hko : ¬ (¬ (¬ k < 0 ∧ ¬ 4 ≤ k) ∨ ¬ (¬ o < 0 ∧ ¬ 4 ≤ o)) := fun h => h.elim (bi_0.mp h4) (bi_0.mp h11)
      obtain ⟨x, hx, rfl⟩ := ix_of (n := 4) rfl (by omega) (Classical.not_not.mp (bi_0.mp h4))
      obtain ⟨y, hy, rfl⟩ := ix_of (n := 4) rfl (by omega) (Classical.not_not.mp (bi_0.mp h11))
      have hX := hR.2.2.2.2.2.2.1 x hx
      have hY := hR.2.2.2.2.2.2.1 y hy
      refine e_aload_n 0 dX10_copy_20 rfl rfl ?_
      refine e_getfield 30 dX10_copy_21 kf_X10_65_10 rfl rfl ?_
      refine e_iload_n 1 dX10_copy_24 rfl rfl ?_
      refine e_iald_n (x) dX10_copy_25 rfl rfl (by omega) (by decide) ?_
      refine e_if_lt (tgt := 38) dX10_copy_26 rfl (fun h26 => ?_) (fun h26 => ?_)
      · refine e_aload_n 0 dX10_copy_38 rfl rfl ?_
        refine e_iconst (v := 1) dX10_copy_39 rfl ?_
        refine f_callVi (As := [_]) ok_X10_failed ⟨Nat.le_of_ble_eq_true rfl, Nat.le_of_ble_eq_true rfl⟩ dX10_copy_40 kl_X10_101 ki_X10_failed kv_X10_failed rfl rfl rfl rfl (Nat.le_of_ble_eq_true rfl) (Nat.le_of_ble_eq_true rfl) (Nat.zero_add _) (Nat.zero_add _) sp_X10_failed ?_
        refine e_iret dX10_copy_43 rfl ?_
        have ho : oCopy b (nI x) i (nI y) j n = (-11, uF_ b 1) := by
          rw [oCopy, if_neg hko, nI_clamp (by omega), nI_clamp (by omega)]
          first
          | (rw [show bz b x = none from shM_no hX (IV.m hI) hx (fun h => absurd h26 (Int32.not_lt.mpr h))])
          | (rw [show bz b y = none from shM_no hY (IV.m hI) hy h35]; split <;> first | rfl | (rename_i h; cases h))
        rw [ho]
        exact ⟨_, A, rfl, rfl, hR.F 1, FM.S (by omega)⟩
      · refine e_aload_n 0 dX10_copy_29 rfl rfl ?_
        refine e_getfield 30 dX10_copy_30 kf_X10_65_10 rfl rfl ?_
        refine e_iload_n 3 dX10_copy_33 rfl rfl ?_
        refine e_iald_n (y) dX10_copy_34 rfl rfl (by omega) (by decide) ?_
        refine e_if_ge (tgt := 44) dX10_copy_35 rfl (fun h35 => ?_) (fun h35 => ?_)
        · obtain ⟨z, hz⟩ : ∃ z, bz b x = some z := shM_ex hX (Int32.not_lt.mp h26)
          obtain ⟨e1, e2, e3⟩ := shM_s hX hz
          have hzl := IV.l hI hx z hz
          obtain ⟨u, hu⟩ : ∃ z, bz b y = some z := shM_ex hY h35
          obtain ⟨g1, g2, g3⟩ := shM_s hY hu
          have hul := IV.l hI hy u hu
          refine e_aload_n 0 dX10_copy_44 rfl rfl ?_
          refine e_getfield 31 dX10_copy_45 kf_X10_68_10 rfl rfl ?_
          refine e_iload_n 1 dX10_copy_48 rfl rfl ?_
          refine e_iald_n (x) dX10_copy_49 rfl rfl (by omega) (by decide) ?_
          refine e_aload_n 0 dX10_copy_50 rfl rfl ?_
          refine e_getfield 31 dX10_copy_51 kf_X10_68_10 rfl rfl ?_
          refine e_iload_n 3 dX10_copy_54 rfl rfl ?_
          refine e_iald_n (y) dX10_copy_55 rfl rfl (by omega) (by decide) ?_
          refine e_icmp_eq (tgt := 65) dX10_copy_56 rfl (fun h56 => ?_) (fun h56 => ?_)
          · rw [e2, g2, nI_eq (by omega) (by omega)] at h56
            refine e_iload_n 2 dX10_copy_65 rfl rfl ?_
            refine e_iload dX10_copy_66 rfl ?_
            refine e_i2l dX10_copy_68 ?_
            refine e_aload_n 0 dX10_copy_69 rfl rfl ?_
            refine e_getfield 30 dX10_copy_70 kf_X10_65_10 rfl rfl ?_
            refine e_iload_n 1 dX10_copy_73 rfl rfl ?_
            refine e_iald_n (x) dX10_copy_74 rfl rfl (by omega) (by decide) ?_
            refine f_callSi (As := [_, _, _]) ok_X10_isBeyond ⟨Nat.le_of_ble_eq_true rfl, Nat.le_of_ble_eq_true rfl⟩ dX10_copy_75 kl_X10_104 ks_X10_isBeyond rfl rfl (Nat.le_of_ble_eq_true rfl) (Nat.le_of_ble_eq_true rfl) (Nat.zero_add _) (Nat.zero_add _) sp_X10_isBeyond ?_
            refine e_if_ne (tgt := 98) dX10_copy_78 rfl (fun h78 => ?_) (fun h78 => ?_)
            · refine e_aload_n 0 dX10_copy_98 rfl rfl ?_
              refine e_iconst (v := 3) dX10_copy_99 rfl ?_
              refine f_callVi (As := [_]) ok_X10_failed ⟨Nat.le_of_ble_eq_true rfl, Nat.le_of_ble_eq_true rfl⟩ dX10_copy_100 kl_X10_101 ki_X10_failed kv_X10_failed rfl rfl rfl rfl (Nat.le_of_ble_eq_true rfl) (Nat.le_of_ble_eq_true rfl) (Nat.zero_add _) (Nat.zero_add _) sp_X10_failed ?_
              refine e_iret dX10_copy_103 rfl ?_
              have ho : oCopy b (nI x) i (nI y) j n = (-13, uF_ b 3) := by
                rw [oCopy, if_neg hko, nI_clamp (by omega), nI_clamp (by omega), hz, hu]
                simp only []
                rw [if_neg (nn_ h56)]
                first
                | (rw [e1, beyL (by omega)] at h78; rw [if_pos (Or.inl (bi_1.mp h78))])
                | (rw [g1, beyL (by omega)] at h95; rw [if_pos (Or.inr (bi_1.mp h95))])
              rw [ho]
              exact ⟨_, A, rfl, rfl, hR.F 3, FM.S (by omega)⟩
            · refine e_iload dX10_copy_81 rfl ?_
              refine e_iload dX10_copy_83 rfl ?_
              refine e_i2l dX10_copy_85 ?_
              refine e_aload_n 0 dX10_copy_86 rfl rfl ?_
              refine e_getfield 30 dX10_copy_87 kf_X10_65_10 rfl rfl ?_
              refine e_iload_n 3 dX10_copy_90 rfl rfl ?_
              refine e_iald_n (y) dX10_copy_91 rfl rfl (by omega) (by decide) ?_
              refine f_callSi (As := [_, _, _]) ok_X10_isBeyond ⟨Nat.le_of_ble_eq_true rfl, Nat.le_of_ble_eq_true rfl⟩ dX10_copy_92 kl_X10_104 ks_X10_isBeyond rfl rfl (Nat.le_of_ble_eq_true rfl) (Nat.le_of_ble_eq_true rfl) (Nat.zero_add _) (Nat.zero_add _) sp_X10_isBeyond ?_
              refine e_if_eq (tgt := 104) dX10_copy_95 rfl (fun h95 => ?_) (fun h95 => ?_)
              · rw [e1, beyL (by omega)] at h78
                rw [g1, beyL (by omega)] at h95
                have q78 := Classical.not_not.mp (bi_0.mp h78)
                have q95 := Classical.not_not.mp (bi_0.mp h95)
                obtain ⟨i1, m1, hi1, rfl, rfl⟩ := has_ok (by omega) q78
                obtain ⟨j1, m2, hj1, rfl, hm⟩ := has_ok (by omega) q95
                have hmm : m1 = m2 := (nI_eq (by omega) (by omega)).mp hm
                subst hmm
                refine e_iconst (v := 0) dX10_copy_104 rfl ?_
                refine e_istore (lv' := [_, _, _, _, _, _, _]) dX10_copy_105 (Nat.le_of_ble_eq_true rfl) rfl rfl ?_
                have hlp := lp1_X10_copy (G := G) (S := S) (A := A) (Lg := Lg) (P := P) (T := T) hx hy (show i1 + m1 ≤ 60 by omega) (show j1 + m1 ≤ 60 by omega) (m1 + 1) 0 (by omega) (by omega)
                rw [hc_0, up_self] at hlp
                refine e_q hlp (fun v w' h => ?_)
                obtain ⟨rfl, rfl⟩ := h
                have ho : oCopy b (nI x) (nI i1) (nI y) (nI j1) (nI m1) = (nI m1, uF_ (uC_ b y (va_cpy (bc b x) (bc b y) i1 j1 m1)) 0) := by
                  rw [oCopy, if_neg hko, nI_clamp (by omega), nI_clamp (by omega), nI_clamp (by omega), nI_clamp (by omega), nI_clamp (by omega), hz, hu]
                  simp only []
                  rw [if_neg (nn_ h56), if_neg (fun h => h.elim (fun h => h q78) (fun h => h q95))]
                rw [ho]
                have hR1 : RM S (va_up A 41 (hc (A 41) (A 40) (60 * x + i1) m1)) b := by
                  obtain ⟨r0, r1, r2, r3, r4, r5, r6, r7, r8, r9⟩ := hR
                  refine ⟨r0, r1, r2, r3, r4, r5, fun k hk => ?_, r7, r8, r9⟩
                  exact r6 k hk
                refine ⟨_, _, rfl, rfl, RM.F (b := uC_ b y (va_cpy (bc b x) (bc b y) i1 j1 m1)) (hR1.C hy (IV.m hI) hu (fun s r hs hr => ?_) (fun r hr => ?_)) 0, (FM.S (by omega)).tr ((FM.A (by omega)).tr (FM.A (by omega)))⟩
                · rw [up_ne (by omega)]; unfold hd; rw [if_neg (by omega)]
                · unfold hd va_cpy
                  by_cases h : j1 ≤ r ∧ r < j1 + m1
                  · rw [if_pos (by omega), if_pos h]; unfold hc; rw [if_pos (by omega), show 60 * x + i1 + (60 * y + r - (60 * y + j1)) = 60 * x + (i1 + (r - j1)) by omega]; exact e3 _ (by omega)
                  · rw [if_neg (by omega), if_neg h]; exact g3 r hr
              · refine e_aload_n 0 dX10_copy_98 rfl rfl ?_
                refine e_iconst (v := 3) dX10_copy_99 rfl ?_
                refine f_callVi (As := [_]) ok_X10_failed ⟨Nat.le_of_ble_eq_true rfl, Nat.le_of_ble_eq_true rfl⟩ dX10_copy_100 kl_X10_101 ki_X10_failed kv_X10_failed rfl rfl rfl rfl (Nat.le_of_ble_eq_true rfl) (Nat.le_of_ble_eq_true rfl) (Nat.zero_add _) (Nat.zero_add _) sp_X10_failed ?_
                refine e_iret dX10_copy_103 rfl ?_
                have ho : oCopy b (nI x) i (nI y) j n = (-13, uF_ b 3) := by
                  rw [oCopy, if_neg hko, nI_clamp (by omega), nI_clamp (by omega), hz, hu]
                  simp only []
                  rw [if_neg (nn_ h56)]
                  first
                  | (rw [e1, beyL (by omega)] at h78; rw [if_pos (Or.inl (bi_1.mp h78))])
                  | (rw [g1, beyL (by omega)] at h95; rw [if_pos (Or.inr (bi_1.mp h95))])
                rw [ho]
                exact ⟨_, A, rfl, rfl, hR.F 3, FM.S (by omega)⟩
          · rw [e2, g2, nI_eq (by omega) (by omega)] at h56
            refine e_aload_n 0 dX10_copy_59 rfl rfl ?_
            refine e_iconst (v := 2) dX10_copy_60 rfl ?_
            refine f_callVi (As := [_]) ok_X10_failed ⟨Nat.le_of_ble_eq_true rfl, Nat.le_of_ble_eq_true rfl⟩ dX10_copy_61 kl_X10_101 ki_X10_failed kv_X10_failed rfl rfl rfl rfl (Nat.le_of_ble_eq_true rfl) (Nat.le_of_ble_eq_true rfl) (Nat.zero_add _) (Nat.zero_add _) sp_X10_failed ?_
            refine e_iret dX10_copy_64 rfl ?_
            have ho : oCopy b (nI x) i (nI y) j n = (-12, uF_ b 2) := by
              rw [oCopy, if_neg hko, nI_clamp (by omega), nI_clamp (by omega), hz, hu]
              simp only []
              rw [if_pos h56]
            rw [ho]
            exact ⟨_, A, rfl, rfl, hR.F 2, FM.S (by omega)⟩
        · refine e_aload_n 0 dX10_copy_38 rfl rfl ?_
          refine e_iconst (v := 1) dX10_copy_39 rfl ?_
          refine f_callVi (As := [_]) ok_X10_failed ⟨Nat.le_of_ble_eq_true rfl, Nat.le_of_ble_eq_true rfl⟩ dX10_copy_40 kl_X10_101 ki_X10_failed kv_X10_failed rfl rfl rfl rfl (Nat.le_of_ble_eq_true rfl) (Nat.le_of_ble_eq_true rfl) (Nat.zero_add _) (Nat.zero_add _) sp_X10_failed ?_
          refine e_iret dX10_copy_43 rfl ?_
          have ho : oCopy b (nI x) i (nI y) j n = (-11, uF_ b 1) := by
            rw [oCopy, if_neg hko, nI_clamp (by omega), nI_clamp (by omega)]
            first
            | (rw [show bz b x = none from shM_no hX (IV.m hI) hx (fun h => absurd h26 (Int32.not_lt.mpr h))])
            | (rw [show bz b y = none from shM_no hY (IV.m hI) hy h35]; split <;> first | rfl | (rename_i h; cases h))
          rw [ho]
          exact ⟨_, A, rfl, rfl, hR.F 1, FM.S (by omega)⟩
    · refine e_aload_n 0 dX10_copy_14 rfl rfl ?_
      refine e_iconst (v := -1) dX10_copy_15 rfl ?_
      refine f_callVi (As := [_]) ok_X10_refused ⟨Nat.le_of_ble_eq_true rfl, Nat.le_of_ble_eq_true rfl⟩ dX10_copy_16 kl_X10_91 ki_X10_refused kv_X10_refused rfl rfl rfl rfl (Nat.le_of_ble_eq_true rfl) (Nat.le_of_ble_eq_true rfl) (Nat.zero_add _) (Nat.zero_add _) sp_X10_refused ?_
      refine e_iret dX10_copy_19 rfl ?_
      have ho : oCopy b k i o j n = (-1, uF_ b 0) := by
        first | rw [oCopy, if_pos (Or.inl (bi_1.mp h4))] | rw [oCopy, if_pos (Or.inr (bi_1.mp h11))]
      rw [ho]
      exact ⟨_, A, rfl, rfl, hR.F 0, FM.S (by omega)⟩
