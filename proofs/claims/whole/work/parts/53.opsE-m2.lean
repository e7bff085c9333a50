def rdA (A : Nat → Nat → Int32) (C : Nat → Int32) (d : Nat) : Nat → Nat → Int32 := va_up (va_up (va_up A 23 (upd (A 23) d (nI (kdC C d)))) 24 (upd (upd (A 24) (2 * d) (nI (dgC C (6 * d + 4)))) (2 * d + 1) (nI (dgC C (6 * d + 5))))) 25 (upd (A 25) d (nI (wtC C d)))
theorem kd1 {C : Nat → Int32} {d : Nat} (h : C (6 * d + 3) = 115) : nI (kdC C d) = 0 := by unfold kdC; rw [if_pos h]; rfl
theorem n9 {v : Nat} (h : v < 1000) : nI v ≠ -9 := by
  intro e
  have e := congrArg Int32.toInt e
  rw [nI_toInt (by omega)] at e
  have e9 : (-9 : Int32).toInt = -9 := by decide
  omega
theorem kd2 {C : Nat → Int32} {d : Nat} (h0 : C (6 * d + 3) ≠ 115) (h : C (6 * d + 3) = 116) : nI (kdC C d) = 1 := by unfold kdC; rw [if_neg h0, if_pos h]; rfl
theorem kd3 {C : Nat → Int32} {d : Nat} (h0 : C (6 * d + 3) ≠ 115) (h : C (6 * d + 3) ≠ 116) : nI (kdC C d) = 2 := by unfold kdC; rw [if_neg h0, if_neg h]; rfl
set_option maxRecDepth 8000 in
theorem lp_X10_readsDoor {G : sh_G} {S : Nat → Int32} {A : Nat → Nat → Int32} {Lg : Nat → Int64} {P : Nat → Option Nat} {T : List sh_C} {F m d R : Nat} {C : Nat → Int32} (hF : F + m ≤ 240) (hC : ∀ i, i < m → A 40 (F + i) = C i) (h24 : S 24 = nI R) (h25 : S 25 = nI d) (hR : C 1 - 48 = nI R) (hR2 : 2 ≤ R) (hR6 : R ≤ 6) (hd8 : d < 8) (hS : S 23 = nI (6 * d + 3)) (hq : 6 * d + 4 ≤ m) (hff4 : ffN C m m 0 = ffN C m (m - (6 * d + 4)) (6 * d + 4)) : Ev G mX10_readsDoor 0 0 (mkW G S A Lg P T) 59 [some (.ref 24), some (.int (nI F)), some (.int (nI m)), some (.int (C (6 * d + 3))), none, none, none] [] (fun v w => (v = some (.int 0) ∧ ∃ q, ffN C m m 0 = some q ∧ w = mkW G (va_up S 23 (nI q)) A Lg P T) ∨ (v = some (.int 1) ∧ w = mkW G (va_up (va_up S 23 (nI (6 * d + 8))) 25 (nI (d + 1))) (rdA A C d) Lg P T ∧ 6 * d + 8 ≤ m ∧ ffN C m m 0 = ffN C m (m - (6 * d + 8)) (6 * d + 8))) := by
  refine e_aload_n 0 dX10_readsDoor_59 rfl rfl ?_
  refine e_dup dX10_readsDoor_60 rfl ?_
  refine e_getfield 6 dX10_readsDoor_61 kf_X10_114_10 rfl rfl ?_
  refine e_iconst (v := 1) dX10_readsDoor_64 rfl ?_
  refine e_iadd dX10_readsDoor_65 ?_
  refine e_putfield 6 dX10_readsDoor_66 kp_X10_readsDoor_114_10 (sh_fit_i _) rfl (Nat.le_of_ble_eq_true rfl) ?_
  refine e_w (w' := mkW G (va_up S 23 (nI (6 * d + 4))) A Lg P T) (by rw [hS, nI_1]; rfl) ?_
  by_cases g4 : 6 * d + 4 < m ∧ rmN C (6 * d + 4) = true
  · obtain ⟨v4, a1, a2, a3, a4⟩ := rmN_of hR hR6 g4.2
    have hff5 := ff_step hff4 g4.1 (goC ▸ g4.2)
    refine e_aload_n 0 dX10_readsDoor_69 rfl rfl ?_
    refine e_iload_n 1 dX10_readsDoor_70 rfl rfl ?_
    refine e_iload_n 2 dX10_readsDoor_71 rfl rfl ?_
    refine e_iconst (v := 0) dX10_readsDoor_72 rfl ?_
    refine e_aload_n 0 dX10_readsDoor_73 rfl rfl ?_
    refine e_getfield 7 dX10_readsDoor_74 kf_X10_128_10 rfl rfl ?_
    refine e_iconst (v := 1) dX10_readsDoor_77 rfl ?_
    refine e_isub dX10_readsDoor_78 ?_
    rw [show va_up S 23 (nI (6 * d + 4)) 24 = nI R from h24, sub1 (x := R) (r := R - 1) (by omega)]
    refine f_callVi (As := [_, _, _, _]) ok_X10_figure ⟨Nat.le_of_ble_eq_true rfl, Nat.le_of_ble_eq_true rfl⟩ dX10_readsDoor_79 kl_X10_121 ki_X10_figure kv_X10_figure rfl rfl rfl rfl (Nat.le_of_ble_eq_true rfl) (Nat.le_of_ble_eq_true rfl) (Nat.zero_add _) (Nat.zero_add _) (sp_X10_figY (lo := 0) (hi := R - 1) (S := va_up S 23 (nI (6 * d + 4))) (q := 6 * d + 4) hF hC rfl (by omega) g4.1 a2 (by omega) (by omega) (by omega)) ?_
    refine e_istore (lv' := [_, _, _, _, _, _, _]) dX10_readsDoor_82 (Nat.le_of_ble_eq_true rfl) rfl rfl ?_
    refine e_w (w' := mkW G (va_up S 23 (nI (6 * d + 5))) A Lg P T) (by rw [bx_uu]) ?_
    refine e_iload dX10_readsDoor_84 rfl ?_
    refine e_if_lt (tgt := 103) dX10_readsDoor_86 rfl (fun h86 => absurd h86 (nI_pos (by omega))) (fun _ => ?_)
    refine e_aload_n 0 dX10_readsDoor_89 rfl rfl ?_
    refine e_iload_n 1 dX10_readsDoor_90 rfl rfl ?_
    refine e_iload_n 2 dX10_readsDoor_91 rfl rfl ?_
    refine f_callVi (As := [_, _]) ok_X10_codeAt ⟨Nat.le_of_ble_eq_true rfl, Nat.le_of_ble_eq_true rfl⟩ dX10_readsDoor_92 kl_X10_117 ki_X10_codeAt kv_X10_codeAt rfl rfl rfl rfl (Nat.le_of_ble_eq_true rfl) (Nat.le_of_ble_eq_true rfl) (Nat.zero_add _) (Nat.zero_add _) (sp_X10_codeAt (S := va_up S 23 (nI (6 * d + 5))) (q := 6 * d + 5) hF hC rfl (by omega)) ?_
    refine e_bipush (v := 48) dX10_readsDoor_95 (by decide) ?_
    refine e_iload dX10_readsDoor_97 rfl ?_
    refine e_iadd dX10_readsDoor_99 ?_
    refine e_icmp_ne (tgt := 105) dX10_readsDoor_100 rfl (fun h100 => ?_) (fun h100 => ?_)
    · by_cases g5 : 6 * d + 5 < m ∧ rmN C (6 * d + 5) = true
      · obtain ⟨v5, b1, b2, b3, b4⟩ := rmN_of hR hR6 g5.2
        have hD : goN C (6 * d + 5) = true := goD.mpr ⟨g5.2, fun e => by
          rw [cdN_y g5.1, add48] at h100
          exact h100 (e.trans a2)⟩
        have hff6 := ff_step hff5 g5.1 hD
        refine e_aload_n 0 dX10_readsDoor_105 rfl rfl ?_
        refine e_iload_n 1 dX10_readsDoor_106 rfl rfl ?_
        refine e_iload_n 2 dX10_readsDoor_107 rfl rfl ?_
        refine e_iconst (v := 0) dX10_readsDoor_108 rfl ?_
        refine e_aload_n 0 dX10_readsDoor_109 rfl rfl ?_
        refine e_getfield 7 dX10_readsDoor_110 kf_X10_128_10 rfl rfl ?_
        refine e_iconst (v := 1) dX10_readsDoor_113 rfl ?_
        refine e_isub dX10_readsDoor_114 ?_
        rw [show va_up S 23 (nI (6 * d + 5)) 24 = nI R from h24, sub1 (x := R) (r := R - 1) (by omega)]
        refine f_callVi (As := [_, _, _, _]) ok_X10_figure ⟨Nat.le_of_ble_eq_true rfl, Nat.le_of_ble_eq_true rfl⟩ dX10_readsDoor_115 kl_X10_121 ki_X10_figure kv_X10_figure rfl rfl rfl rfl (Nat.le_of_ble_eq_true rfl) (Nat.le_of_ble_eq_true rfl) (Nat.zero_add _) (Nat.zero_add _) (sp_X10_figY (lo := 0) (hi := R - 1) (S := va_up S 23 (nI (6 * d + 5))) (q := 6 * d + 5) hF hC rfl (by omega) g5.1 b2 (by omega) (by omega) (by omega)) ?_
        refine e_istore (lv' := [_, _, _, _, _, _, _]) dX10_readsDoor_118 (Nat.le_of_ble_eq_true rfl) rfl rfl ?_
        refine e_w (w' := mkW G (va_up S 23 (nI (6 * d + 6))) A Lg P T) (by rw [bx_uu]) ?_
        refine e_iload dX10_readsDoor_120 rfl ?_
        refine e_if_ge (tgt := 130) dX10_readsDoor_122 rfl (fun _ => ?_) (fun h122 => absurd (Int32.not_lt.mp (nI_pos (by omega))) h122)
        refine e_aload_n 0 dX10_readsDoor_130 rfl rfl ?_
        refine e_iload_n 1 dX10_readsDoor_131 rfl rfl ?_
        refine e_iload_n 2 dX10_readsDoor_132 rfl rfl ?_
        refine e_callV (mc := 0) (ms := 0) (kc2 := 0) (ks2 := 0) (As := [_, _]) ok_X10_readsWeight ⟨Nat.le_of_ble_eq_true rfl, Nat.le_of_ble_eq_true rfl⟩ dX10_readsDoor_133 kl_X10_131 ki_X10_readsWeight kv_X10_readsWeight rfl rfl rfl rfl (Nat.le_of_ble_eq_true rfl) (Nat.le_of_ble_eq_true rfl) (sp_X10_readsWeight (S := va_up S 23 (nI (6 * d + 6))) hF hC rfl (by omega) hff6) (fun v w' hw => ?_)
        rcases hw with ⟨rfl, rfl, hw8, gE, gF⟩ | ⟨rfl, q, hwf, rfl⟩
        · have hff8 := ff_step (ff_step hff6 (by omega) gE) (by omega) gF
          have hw9 : dgC C (6 * d + 6) ≤ 9 ∧ dgC C (6 * d + 7) ≤ 9 := by
            obtain ⟨v6, c1, c2, c3, c4⟩ := dgB_of (goE ▸ gE)
            obtain ⟨v7, d1, d2, d3, d4⟩ := dgB_of (goF.mp gF).1
            omega
          refine e_w (w' := mkW G (va_up S 23 (nI (6 * d + 8))) A Lg P T) (by rw [bx_uu]) ?_
          refine e_istore (lv' := [_, _, _, _, _, _, _]) dX10_readsDoor_136 (Nat.le_of_ble_eq_true rfl) rfl rfl ?_
          refine e_iload dX10_readsDoor_138 rfl ?_
          refine e_if_ge (tgt := 145) dX10_readsDoor_140 rfl (fun _ => ?_) (fun h140 => absurd (Int32.not_lt.mp (nI_pos (by unfold wtC; omega))) h140)
          refine e_aload_n 0 dX10_readsDoor_145 rfl rfl ?_
          refine e_getfield 9 dX10_readsDoor_146 kf_X10_19_10 rfl rfl ?_
          refine e_aload_n 0 dX10_readsDoor_149 rfl rfl ?_
          refine e_getfield 8 dX10_readsDoor_150 kf_X10_125_10 rfl rfl ?_
          refine e_iload_n 3 dX10_readsDoor_153 rfl rfl ?_
          refine e_bipush (v := 115) dX10_readsDoor_154 (by decide) ?_
          refine e_icmp_ne (tgt := 163) dX10_readsDoor_156 rfl (fun h156 => ?_) (fun h156 => ?_)
          · refine e_iload_n 3 dX10_readsDoor_163 rfl rfl ?_
            refine e_bipush (v := 116) dX10_readsDoor_164 (by decide) ?_
            refine e_icmp_ne (tgt := 173) dX10_readsDoor_166 rfl (fun h166 => ?_) (fun h166 => ?_)
            · refine e_iconst (v := 2) dX10_readsDoor_173 rfl ?_
              refine e_iast_n (d) dX10_readsDoor_174 rfl h25 (by omega) (by decide) ?_
              refine e_w (w' := mkW G (va_up S 23 (nI (6 * d + 8))) (va_up A 23 (upd (A 23) d (nI (kdC C d)))) Lg P T) (by first | (rw [kd1 h156]; rfl) | (rw [kd2 h156 h166]; rfl) | (rw [kd3 h156 h166]; rfl)) ?_
              refine e_aload_n 0 dX10_readsDoor_175 rfl rfl ?_
              refine e_getfield 10 dX10_readsDoor_176 kf_X10_22_10 rfl rfl ?_
              refine e_iconst (v := 2) dX10_readsDoor_179 rfl ?_
              refine e_aload_n 0 dX10_readsDoor_180 rfl rfl ?_
              refine e_getfield 8 dX10_readsDoor_181 kf_X10_125_10 rfl rfl ?_
              refine e_imul dX10_readsDoor_184 ?_
              refine e_iload dX10_readsDoor_185 rfl ?_
              refine e_iast_n (2 * d) dX10_readsDoor_187 rfl (by rw [show va_up S 23 (nI (6 * d + 8)) 25 = nI d from h25]; exact mul2 d) (by omega) (by decide) ?_
              refine e_w (w' := mkW G (va_up S 23 (nI (6 * d + 8))) (va_up (va_up A 23 (upd (A 23) d (nI (kdC C d)))) 24 (upd (A 24) (2 * d) (nI (dgC C (6 * d + 4))))) Lg P T) (by rw [a4]; rfl) ?_
              refine e_aload_n 0 dX10_readsDoor_188 rfl rfl ?_
              refine e_getfield 10 dX10_readsDoor_189 kf_X10_22_10 rfl rfl ?_
              refine e_iconst (v := 2) dX10_readsDoor_192 rfl ?_
              refine e_aload_n 0 dX10_readsDoor_193 rfl rfl ?_
              refine e_getfield 8 dX10_readsDoor_194 kf_X10_125_10 rfl rfl ?_
              refine e_imul dX10_readsDoor_197 ?_
              refine e_iconst (v := 1) dX10_readsDoor_198 rfl ?_
              refine e_iadd dX10_readsDoor_199 ?_
              refine e_iload dX10_readsDoor_200 rfl ?_
              refine e_iast_n (2 * d + 1) dX10_readsDoor_202 rfl (by rw [show va_up S 23 (nI (6 * d + 8)) 25 = nI d from h25]; exact mul2b d) (by omega) (by decide) ?_
              refine e_w (w' := mkW G (va_up S 23 (nI (6 * d + 8))) (va_up (va_up (va_up A 23 (upd (A 23) d (nI (kdC C d)))) 24 (upd (A 24) (2 * d) (nI (dgC C (6 * d + 4))))) 24 (upd (upd (A 24) (2 * d) (nI (dgC C (6 * d + 4)))) (2 * d + 1) (nI (dgC C (6 * d + 5))))) Lg P T) (by rw [b4]; rfl) ?_
              rw [bx_uu (va_up A 23 (upd (A 23) d (nI (kdC C d))))]
              refine e_aload_n 0 dX10_readsDoor_203 rfl rfl ?_
              refine e_getfield 11 dX10_readsDoor_204 kf_X10_25_10 rfl rfl ?_
              refine e_aload_n 0 dX10_readsDoor_207 rfl rfl ?_
              refine e_getfield 8 dX10_readsDoor_208 kf_X10_125_10 rfl rfl ?_
              refine e_iload dX10_readsDoor_211 rfl ?_
              refine e_iast_n (d) dX10_readsDoor_213 rfl h25 (by omega) (by decide) ?_
              refine e_w (w' := mkW G (va_up S 23 (nI (6 * d + 8))) (rdA A C d) Lg P T) rfl ?_
              refine e_aload_n 0 dX10_readsDoor_214 rfl rfl ?_
              refine e_dup dX10_readsDoor_215 rfl ?_
              refine e_getfield 8 dX10_readsDoor_216 kf_X10_125_10 rfl rfl ?_
              refine e_iconst (v := 1) dX10_readsDoor_219 rfl ?_
              refine e_iadd dX10_readsDoor_220 ?_
              refine e_putfield 8 dX10_readsDoor_221 kp_X10_readsDoor_125_10 (sh_fit_i _) rfl (Nat.le_of_ble_eq_true rfl) ?_
              refine e_w (w' := mkW G (va_up (va_up S 23 (nI (6 * d + 8))) 25 (nI (d + 1))) (rdA A C d) Lg P T) (by rw [show nI (d + 1) = (va_up S 23 (nI (6 * d + 8))) 25 + 1 by rw [show (va_up S 23 (nI (6 * d + 8))) 25 = nI d from h25, nI_1]]; rfl) ?_
              refine e_iconst (v := 1) dX10_readsDoor_224 rfl ?_
              refine e_zret dX10_readsDoor_225 rfl rfl ?_
              exact Or.inr ⟨rfl, rfl, hw8, hff8⟩
            · refine e_iconst (v := 1) dX10_readsDoor_169 rfl ?_
              refine e_goto (tgt := 174) dX10_readsDoor_170 rfl ?_
              refine e_iast_n (d) dX10_readsDoor_174 rfl h25 (by omega) (by decide) ?_
              refine e_w (w' := mkW G (va_up S 23 (nI (6 * d + 8))) (va_up A 23 (upd (A 23) d (nI (kdC C d)))) Lg P T) (by first | (rw [kd1 h156]; rfl) | (rw [kd2 h156 h166]; rfl) | (rw [kd3 h156 h166]; rfl)) ?_
              refine e_aload_n 0 dX10_readsDoor_175 rfl rfl ?_
              refine e_getfield 10 dX10_readsDoor_176 kf_X10_22_10 rfl rfl ?_
              refine e_iconst (v := 2) dX10_readsDoor_179 rfl ?_
              refine e_aload_n 0 dX10_readsDoor_180 rfl rfl ?_
              refine e_getfield 8 dX10_readsDoor_181 kf_X10_125_10 rfl rfl ?_
              refine e_imul dX10_readsDoor_184 ?_
              refine e_iload dX10_readsDoor_185 rfl ?_
              refine e_iast_n (2 * d) dX10_readsDoor_187 rfl (by rw [show va_up S 23 (nI (6 * d + 8)) 25 = nI d from h25]; exact mul2 d) (by omega) (by decide) ?_
              refine e_w (w' := mkW G (va_up S 23 (nI (6 * d + 8))) (va_up (va_up A 23 (upd (A 23) d (nI (kdC C d)))) 24 (upd (A 24) (2 * d) (nI (dgC C (6 * d + 4))))) Lg P T) (by rw [a4]; rfl) ?_
              refine e_aload_n 0 dX10_readsDoor_188 rfl rfl ?_
              refine e_getfield 10 dX10_readsDoor_189 kf_X10_22_10 rfl rfl ?_
              refine e_iconst (v := 2) dX10_readsDoor_192 rfl ?_
              refine e_aload_n 0 dX10_readsDoor_193 rfl rfl ?_
              refine e_getfield 8 dX10_readsDoor_194 kf_X10_125_10 rfl rfl ?_
              refine e_imul dX10_readsDoor_197 ?_
              refine e_iconst (v := 1) dX10_readsDoor_198 rfl ?_
              refine e_iadd dX10_readsDoor_199 ?_
              refine e_iload dX10_readsDoor_200 rfl ?_
              refine e_iast_n (2 * d + 1) dX10_readsDoor_202 rfl (by rw [show va_up S 23 (nI (6 * d + 8)) 25 = nI d from h25]; exact mul2b d) (by omega) (by decide) ?_
              refine e_w (w' := mkW G (va_up S 23 (nI (6 * d + 8))) (va_up (va_up (va_up A 23 (upd (A 23) d (nI (kdC C d)))) 24 (upd (A 24) (2 * d) (nI (dgC C (6 * d + 4))))) 24 (upd (upd (A 24) (2 * d) (nI (dgC C (6 * d + 4)))) (2 * d + 1) (nI (dgC C (6 * d + 5))))) Lg P T) (by rw [b4]; rfl) ?_
              rw [bx_uu (va_up A 23 (upd (A 23) d (nI (kdC C d))))]
              refine e_aload_n 0 dX10_readsDoor_203 rfl rfl ?_
              refine e_getfield 11 dX10_readsDoor_204 kf_X10_25_10 rfl rfl ?_
              refine e_aload_n 0 dX10_readsDoor_207 rfl rfl ?_
              refine e_getfield 8 dX10_readsDoor_208 kf_X10_125_10 rfl rfl ?_
              refine e_iload dX10_readsDoor_211 rfl ?_
              refine e_iast_n (d) dX10_readsDoor_213 rfl h25 (by omega) (by decide) ?_
              refine e_w (w' := mkW G (va_up S 23 (nI (6 * d + 8))) (rdA A C d) Lg P T) rfl ?_
              refine e_aload_n 0 dX10_readsDoor_214 rfl rfl ?_
              refine e_dup dX10_readsDoor_215 rfl ?_
              refine e_getfield 8 dX10_readsDoor_216 kf_X10_125_10 rfl rfl ?_
              refine e_iconst (v := 1) dX10_readsDoor_219 rfl ?_
              refine e_iadd dX10_readsDoor_220 ?_
              refine e_putfield 8 dX10_readsDoor_221 kp_X10_readsDoor_125_10 (sh_fit_i _) rfl (Nat.le_of_ble_eq_true rfl) ?_
              refine e_w (w' := mkW G (va_up (va_up S 23 (nI (6 * d + 8))) 25 (nI (d + 1))) (rdA A C d) Lg P T) (by rw [show nI (d + 1) = (va_up S 23 (nI (6 * d + 8))) 25 + 1 by rw [show (va_up S 23 (nI (6 * d + 8))) 25 = nI d from h25, nI_1]]; rfl) ?_
              refine e_iconst (v := 1) dX10_readsDoor_224 rfl ?_
              refine e_zret dX10_readsDoor_225 rfl rfl ?_
              exact Or.inr ⟨rfl, rfl, hw8, hff8⟩
          · refine e_iconst (v := 0) dX10_readsDoor_159 rfl ?_
            refine e_goto (tgt := 174) dX10_readsDoor_160 rfl ?_
            refine e_iast_n (d) dX10_readsDoor_174 rfl h25 (by omega) (by decide) ?_
            refine e_w (w' := mkW G (va_up S 23 (nI (6 * d + 8))) (va_up A 23 (upd (A 23) d (nI (kdC C d)))) Lg P T) (by first | (rw [kd1 h156]; rfl) | (rw [kd2 h156 h166]; rfl) | (rw [kd3 h156 h166]; rfl)) ?_
            refine e_aload_n 0 dX10_readsDoor_175 rfl rfl ?_
            refine e_getfield 10 dX10_readsDoor_176 kf_X10_22_10 rfl rfl ?_
            refine e_iconst (v := 2) dX10_readsDoor_179 rfl ?_
            refine e_aload_n 0 dX10_readsDoor_180 rfl rfl ?_
            refine e_getfield 8 dX10_readsDoor_181 kf_X10_125_10 rfl rfl ?_
            refine e_imul dX10_readsDoor_184 ?_
            refine e_iload dX10_readsDoor_185 rfl ?_
            refine e_iast_n (2 * d) dX10_readsDoor_187 rfl (by rw [show va_up S 23 (nI (6 * d + 8)) 25 = nI d from h25]; exact mul2 d) (by omega) (by decide) ?_
            refine e_w (w' := mkW G (va_up S 23 (nI (6 * d + 8))) (va_up (va_up A 23 (upd (A 23) d (nI (kdC C d)))) 24 (upd (A 24) (2 * d) (nI (dgC C (6 * d + 4))))) Lg P T) (by rw [a4]; rfl) ?_
            refine e_aload_n 0 dX10_readsDoor_188 rfl rfl ?_
            refine e_getfield 10 dX10_readsDoor_189 kf_X10_22_10 rfl rfl ?_
            refine e_iconst (v := 2) dX10_readsDoor_192 rfl ?_
            refine e_aload_n 0 dX10_readsDoor_193 rfl rfl ?_
            refine e_getfield 8 dX10_readsDoor_194 kf_X10_125_10 rfl rfl ?_
            refine e_imul dX10_readsDoor_197 ?_
            refine e_iconst (v := 1) dX10_readsDoor_198 rfl ?_
            refine e_iadd dX10_readsDoor_199 ?_
            refine e_iload dX10_readsDoor_200 rfl ?_
            refine e_iast_n (2 * d + 1) dX10_readsDoor_202 rfl (by rw [show va_up S 23 (nI (6 * d + 8)) 25 = nI d from h25]; exact mul2b d) (by omega) (by decide) ?_
            refine e_w (w' := mkW G (va_up S 23 (nI (6 * d + 8))) (va_up (va_up (va_up A 23 (upd (A 23) d (nI (kdC C d)))) 24 (upd (A 24) (2 * d) (nI (dgC C (6 * d + 4))))) 24 (upd (upd (A 24) (2 * d) (nI (dgC C (6 * d + 4)))) (2 * d + 1) (nI (dgC C (6 * d + 5))))) Lg P T) (by rw [b4]; rfl) ?_
            rw [bx_uu (va_up A 23 (upd (A 23) d (nI (kdC C d))))]
            refine e_aload_n 0 dX10_readsDoor_203 rfl rfl ?_
            refine e_getfield 11 dX10_readsDoor_204 kf_X10_25_10 rfl rfl ?_
            refine e_aload_n 0 dX10_readsDoor_207 rfl rfl ?_
            refine e_getfield 8 dX10_readsDoor_208 kf_X10_125_10 rfl rfl ?_
            refine e_iload dX10_readsDoor_211 rfl ?_
            refine e_iast_n (d) dX10_readsDoor_213 rfl h25 (by omega) (by decide) ?_
            refine e_w (w' := mkW G (va_up S 23 (nI (6 * d + 8))) (rdA A C d) Lg P T) rfl ?_
            refine e_aload_n 0 dX10_readsDoor_214 rfl rfl ?_
            refine e_dup dX10_readsDoor_215 rfl ?_
            refine e_getfield 8 dX10_readsDoor_216 kf_X10_125_10 rfl rfl ?_
            refine e_iconst (v := 1) dX10_readsDoor_219 rfl ?_
            refine e_iadd dX10_readsDoor_220 ?_
            refine e_putfield 8 dX10_readsDoor_221 kp_X10_readsDoor_125_10 (sh_fit_i _) rfl (Nat.le_of_ble_eq_true rfl) ?_
            refine e_w (w' := mkW G (va_up (va_up S 23 (nI (6 * d + 8))) 25 (nI (d + 1))) (rdA A C d) Lg P T) (by rw [show nI (d + 1) = (va_up S 23 (nI (6 * d + 8))) 25 + 1 by rw [show (va_up S 23 (nI (6 * d + 8))) 25 = nI d from h25, nI_1]]; rfl) ?_
            refine e_iconst (v := 1) dX10_readsDoor_224 rfl ?_
            refine e_zret dX10_readsDoor_225 rfl rfl ?_
            exact Or.inr ⟨rfl, rfl, hw8, hff8⟩
        · refine e_w (w' := mkW G (va_up S 23 (nI q)) A Lg P T) (by rw [bx_uu]) ?_
          refine e_istore (lv' := [_, _, _, _, _, _, _]) dX10_readsDoor_136 (Nat.le_of_ble_eq_true rfl) rfl rfl ?_
          refine e_iload dX10_readsDoor_138 rfl ?_
          refine e_if_ge (tgt := 145) dX10_readsDoor_140 rfl (fun h140 => absurd h140 (by decide)) (fun _ => ?_)
          refine e_iconst (v := 0) dX10_readsDoor_143 rfl ?_
          refine e_zret dX10_readsDoor_144 rfl rfl ?_
          exact Or.inl ⟨rfl, q, hwf, rfl⟩
      · refine e_aload_n 0 dX10_readsDoor_105 rfl rfl ?_
        refine e_iload_n 1 dX10_readsDoor_106 rfl rfl ?_
        refine e_iload_n 2 dX10_readsDoor_107 rfl rfl ?_
        refine e_iconst (v := 0) dX10_readsDoor_108 rfl ?_
        refine e_aload_n 0 dX10_readsDoor_109 rfl rfl ?_
        refine e_getfield 7 dX10_readsDoor_110 kf_X10_128_10 rfl rfl ?_
        refine e_iconst (v := 1) dX10_readsDoor_113 rfl ?_
        refine e_isub dX10_readsDoor_114 ?_
        rw [show va_up S 23 (nI (6 * d + 5)) 24 = nI R from h24, sub1 (x := R) (r := R - 1) (by omega)]
        refine f_callVi (As := [_, _, _, _]) ok_X10_figure ⟨Nat.le_of_ble_eq_true rfl, Nat.le_of_ble_eq_true rfl⟩ dX10_readsDoor_115 kl_X10_121 ki_X10_figure kv_X10_figure rfl rfl rfl rfl (Nat.le_of_ble_eq_true rfl) (Nat.le_of_ble_eq_true rfl) (Nat.zero_add _) (Nat.zero_add _) (sp_X10_figN (lo := 0) (hi := R - 1) (S := va_up S 23 (nI (6 * d + 5))) (q := 6 * d + 5) hF hC rfl (by omega) (by omega) (by omega) (fun h => g5 ⟨h.1, (rmN_in hR hR2 hR6).mpr h.2⟩)) ?_
        refine e_istore (lv' := [_, _, _, _, _, _, _]) dX10_readsDoor_118 (Nat.le_of_ble_eq_true rfl) rfl rfl ?_
        refine e_iload dX10_readsDoor_120 rfl ?_
        refine e_if_ge (tgt := 130) dX10_readsDoor_122 rfl (fun h122 => absurd h122 (by decide)) (fun _ => ?_)
        refine e_bipush (v := -9) dX10_readsDoor_125 (by decide) ?_
        refine e_goto (tgt := 136) dX10_readsDoor_127 rfl ?_
        refine e_istore (lv' := [_, _, _, _, _, _, _]) dX10_readsDoor_136 (Nat.le_of_ble_eq_true rfl) rfl rfl ?_
        refine e_iload dX10_readsDoor_138 rfl ?_
        refine e_if_ge (tgt := 145) dX10_readsDoor_140 rfl (fun h140 => absurd h140 (by decide)) (fun _ => ?_)
        refine e_iconst (v := 0) dX10_readsDoor_143 rfl ?_
        refine e_zret dX10_readsDoor_144 rfl rfl ?_
        exact Or.inl ⟨rfl, 6 * d + 5, fl_ hff5 (by omega) (fun e => by omega) (fun c g => g5 ⟨c, (goD.mp g).1⟩) (fun _ => noX (Or.inr (by omega))), rfl⟩
    · refine e_iconst (v := 0) dX10_readsDoor_103 rfl ?_
      refine e_zret dX10_readsDoor_104 rfl rfl ?_
      rw [add48] at h100
      obtain ⟨hl5, hc5⟩ := cdN_of h100 (n9 (by omega))
      exact Or.inl ⟨rfl, 6 * d + 5, fl_ hff5 (by omega) (fun e => by omega) (fun c g => (goD.mp g).2 (hc5.trans a2.symm)) (fun _ => noX (Or.inr (by omega))), rfl⟩
  · refine e_aload_n 0 dX10_readsDoor_69 rfl rfl ?_
    refine e_iload_n 1 dX10_readsDoor_70 rfl rfl ?_
    refine e_iload_n 2 dX10_readsDoor_71 rfl rfl ?_
    refine e_iconst (v := 0) dX10_readsDoor_72 rfl ?_
    refine e_aload_n 0 dX10_readsDoor_73 rfl rfl ?_
    refine e_getfield 7 dX10_readsDoor_74 kf_X10_128_10 rfl rfl ?_
    refine e_iconst (v := 1) dX10_readsDoor_77 rfl ?_
    refine e_isub dX10_readsDoor_78 ?_
    rw [show va_up S 23 (nI (6 * d + 4)) 24 = nI R from h24, sub1 (x := R) (r := R - 1) (by omega)]
    refine f_callVi (As := [_, _, _, _]) ok_X10_figure ⟨Nat.le_of_ble_eq_true rfl, Nat.le_of_ble_eq_true rfl⟩ dX10_readsDoor_79 kl_X10_121 ki_X10_figure kv_X10_figure rfl rfl rfl rfl (Nat.le_of_ble_eq_true rfl) (Nat.le_of_ble_eq_true rfl) (Nat.zero_add _) (Nat.zero_add _) (sp_X10_figN (lo := 0) (hi := R - 1) (S := va_up S 23 (nI (6 * d + 4))) (q := 6 * d + 4) hF hC rfl (by omega) (by omega) (by omega) (fun h => g4 ⟨h.1, (rmN_in hR hR2 hR6).mpr h.2⟩)) ?_
    refine e_istore (lv' := [_, _, _, _, _, _, _]) dX10_readsDoor_82 (Nat.le_of_ble_eq_true rfl) rfl rfl ?_
    refine e_iload dX10_readsDoor_84 rfl ?_
    refine e_if_lt (tgt := 103) dX10_readsDoor_86 rfl (fun _ => ?_) (fun h86 => absurd (by decide) h86)
    refine e_iconst (v := 0) dX10_readsDoor_103 rfl ?_
    refine e_zret dX10_readsDoor_104 rfl rfl ?_
    exact Or.inl ⟨rfl, 6 * d + 4, fl_ hff4 (by omega) (fun e => by omega) (fun c g => g4 ⟨c, goC ▸ g⟩) (fun _ => noX (Or.inr (by omega))), rfl⟩
