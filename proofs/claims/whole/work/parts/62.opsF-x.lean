theorem pthR_1 {i : Nat} {F St : Nat → Nat} : pthR (some i) F St (-1) = nI (dpN F i) := by
  show (if (-1 : Int32) = -1 then nI (dpN F i) else stA F St i (-1)) = _
  exact if_pos rfl
theorem pthR_n {i : Nat} {F St : Nat → Nat} {q : Int32} (h : q ≠ -1) : pthR (some i) F St q = stA F St i q := if_neg h
theorem RX.z {S A Lg P T b} (h : RX S A Lg P T b) : ∀ j, Lg j = 0 := h.2.2.2.2.2.2.2.2.2.2
theorem RX.sto2 {S A Lg P T b} (h : RX S A Lg P T b) {s : Nat} (hs : s < bn b 3) : A 2 s = nI (ba b 6 s) ∧ A 3 s = plx (ba b 7 s) := h.2.2.2.2.2.2.2.2.2.1 s hs
theorem RX.per2 {S A Lg P T b} (h : RX S A Lg P T b) {s : Nat} (hs : s < bn b 2) : A 0 s = nI (ba b 4 s) ∧ A 1 s = nI (ba b 5 s) := h.2.2.2.2.2.2.2.2.1 s hs
theorem plx_neg {v : Nat} (h : 20 ≤ v) (h2 : v < 30) : plx v < 0 := by
  have e : ∀ v, v < 30 → 20 ≤ v → plx v < 0 := by decide +kernel
  exact e v h2 h
theorem plF_c {k : Nat} : plF (20 + k) k = 6 := if_pos rfl
theorem plF_r {v k : Nat} (h : v < 20) : plF v k = v := by unfold plF; rw [if_neg (by omega), if_pos h]
theorem plF_o {v k : Nat} (h : 20 ≤ v) (h2 : v ≠ 20 + k) : plF v k = 7 := by unfold plF; rw [if_neg h2, if_neg (by omega)]
set_option maxRecDepth 8000 in
theorem lp_X9_fewest {G : sh_G} {Lg : Nat → Int64} {P : Nat → Option Nat} {T : List sh_C} {b : sh_be} {k g : Nat} {q : Int32} (hI : IV b) (hk : k < bn b 2) (hg : g < bn b 0) : ∀ (y s : Nat) (S : Nat → Int32) (A : Nat → Nat → Int32), bn b 3 - s < y → s ≤ bn b 3 → RX S A Lg P T b → S 5 = nI (ba b 4 k) → S 6 = nI (cX (stF b k s)) → (∀ x, x < 4 → A 6 x = nI (swF b k s x)) → Ev G mX9_fewest 0 0 (mkW G S A Lg P T) 57 [some (.ref 1), some (.int (nI k)), some (.int (nI g)), some (.int q), some (.int (nI s))] [] (QX G S A (some (.int (fwF b k g q))) b) := by
  have i1 := hI.1
  have i3 := hI.2.2.1
  have i4 := hI.2.2.2.1
  have ip := hI.2.2.2.2.2.1 k hk
  intro y
  induction y with
  | zero => intro s S A hy; omega
  | succ y ih =>
    intro s S A hy hs hR h5 h6 hA
    have e1 := hR.2.1
    have e4 := hR.2.2.2.2.1
    refine e_iload dX9_fewest_57 rfl ?_
    refine e_aload_n 0 dX9_fewest_59 rfl rfl ?_
    refine e_getfield 2 dX9_fewest_60 kf_X9_27_9 rfl rfl ?_
    refine e_getfield 1 dX9_fewest_63 kf_X9_101_0 rfl rfl ?_
    rw [e4]
    refine e_icmp_ge (tgt := 165) dX9_fewest_66 rfl (fun h66 => ?_) (fun h66 => ?_)
    · have e : s = bn b 3 := by rw [nI_leI (by omega) (by omega)] at h66; omega
      subst e
      refine e_aload_n 0 dX9_fewest_165 rfl rfl ?_
      refine e_getfield 3 dX9_fewest_166 kf_X9_34_9 rfl rfl ?_
      refine e_aload_n 0 dX9_fewest_169 rfl rfl ?_
      refine e_getfield 1 dX9_fewest_170 kf_X9_20_9 rfl rfl ?_
      refine e_iload_n 2 dX9_fewest_173 rfl rfl ?_
      refine e_callV (mc := 0) (ms := 0) (kc2 := 0) (ks2 := 0) (As := [_, _]) ok_X2_finds ⟨Nat.le_of_ble_eq_true rfl, Nat.le_of_ble_eq_true rfl⟩ dX9_fewest_174 kl_X9_166 ki_X2_finds kv_X2_finds rfl rfl rfl rfl (Nat.le_of_ble_eq_true rfl) (Nat.le_of_ble_eq_true rfl) (sp_X2_finds hI (by omega) (stF_tV hI hk (Nat.le_refl _)) (by omega) (fun s hs => swF_lt hI (Nat.le_refl _)) hR.dx hR.z h5 h6 hA) (fun v w' hw => ?_)
      obtain ⟨S1, A1, L1, rfl, hz1, hf1, hfi⟩ := hw
      rcases hfi with ⟨rfl, hn⟩ | ⟨rfl, i, hi1, hi2, hi3, hi4⟩
      · refine e_if_ne (tgt := 183) dX9_fewest_177 rfl (fun h177 => absurd h177 (fun h => h rfl)) (fun _ => ?_)
        refine e_bipush (v := -9) dX9_fewest_180 (by decide) ?_
        refine e_iret dX9_fewest_182 rfl ?_
        exact ⟨S1, A1, L1, P, T, rfl, by unfold fwF; rw [hn]; rfl, hR.sr hf1 hz1, hf1.fx⟩
      · obtain ⟨p1, p2, p3⟩ := fi_path hI (stF_tV hI hk (Nat.le_refl _)) hi1
        refine e_if_ne (tgt := 183) dX9_fewest_177 rfl (fun _ => ?_) (fun h177 => absurd h177 (by decide))
        refine e_iload_n 3 dX9_fewest_183 rfl rfl ?_
        refine e_iconst (v := -1) dX9_fewest_184 rfl ?_
        refine e_icmp_ne (tgt := 198) dX9_fewest_185 rfl (fun h185 => ?_) (fun h185 => ?_)
        · refine e_aload_n 0 dX9_fewest_198 rfl rfl ?_
          refine e_getfield 3 dX9_fewest_199 kf_X9_34_9 rfl rfl ?_
          refine e_iload_n 3 dX9_fewest_202 rfl rfl ?_
          refine f_callVi (As := [_]) ok_X2_stepAt ⟨Nat.le_of_ble_eq_true rfl, Nat.le_of_ble_eq_true rfl⟩ dX9_fewest_203 kl_X9_173 ki_X2_stepAt kv_X2_stepAt rfl rfl rfl rfl (Nat.le_of_ble_eq_true rfl) (Nat.le_of_ble_eq_true rfl) (Nat.zero_add _) (Nat.zero_add _) (sp_X2_stepAt hi3 hi4 p1 p2 hi2 p3) ?_
          refine e_iret dX9_fewest_206 rfl ?_
          refine ⟨S1, A1, L1, P, T, rfl, ?_, hR.sr hf1 hz1, hf1.fx⟩
          unfold fwF
          rw [hi1]
          first
          | (rw [pthR_n h185]; done)
          | (rw [h185, pthR_1])
        · refine e_aload_n 0 dX9_fewest_188 rfl rfl ?_
          refine e_getfield 3 dX9_fewest_189 kf_X9_34_9 rfl rfl ?_
          refine f_callVi (As := []) ok_X2_howManySteps ⟨Nat.le_of_ble_eq_true rfl, Nat.le_of_ble_eq_true rfl⟩ dX9_fewest_192 kl_X9_170 ki_X2_howManySteps kv_X2_howManySteps rfl rfl rfl rfl (Nat.le_of_ble_eq_true rfl) (Nat.le_of_ble_eq_true rfl) (Nat.zero_add _) (Nat.zero_add _) (sp_X2_howManySteps hi3 hi4 p1 p2 hi2) ?_
          refine e_goto (tgt := 206) dX9_fewest_195 rfl ?_
          refine e_iret dX9_fewest_206 rfl ?_
          refine ⟨S1, A1, L1, P, T, rfl, ?_, hR.sr hf1 hz1, hf1.fx⟩
          unfold fwF
          rw [hi1]
          first
          | (rw [pthR_n h185]; done)
          | (rw [h185, pthR_1])
    · have hlt : s < bn b 3 := by rw [nI_leI (by omega) (by omega)] at h66; omega
      obtain ⟨a2, a3⟩ := hR.sto2 hlt
      have hpl4 := hI.pl hlt
      have hIs := (hI.2.2.2.2.2.2.1 s hlt).2.2
      refine e_aload_n 0 dX9_fewest_69 rfl rfl ?_
      refine e_getfield 2 dX9_fewest_70 kf_X9_27_9 rfl rfl ?_
      refine e_getfield 5 dX9_fewest_73 kf_X9_128_0 rfl rfl ?_
      refine e_iload dX9_fewest_76 rfl ?_
      refine e_iald_n (s) dX9_fewest_78 rfl rfl (by omega) (by decide) ?_
      rw [a3]
      refine e_iload_n 1 dX9_fewest_79 rfl rfl ?_
      refine f_callSi (As := [_]) ok_X0_placeWith ⟨Nat.le_of_ble_eq_true rfl, Nat.le_of_ble_eq_true rfl⟩ dX9_fewest_80 kl_X9_134 ks_X0_placeWith rfl rfl (Nat.le_of_ble_eq_true rfl) (Nat.le_of_ble_eq_true rfl) (Nat.zero_add _) (Nat.zero_add _) sp_X0_placeWith ?_
      refine e_icmp_ne (tgt := 110) dX9_fewest_83 rfl (fun h83 => ?_) (fun h83 => ?_)
      · have hv : ba b 7 s ≠ 20 + k := fun e => h83 ((plx_c (by omega) (by omega)).mpr e)
        refine e_aload_n 0 dX9_fewest_110 rfl rfl ?_
        refine e_getfield 1 dX9_fewest_111 kf_X9_20_9 rfl rfl ?_
        refine e_aload_n 0 dX9_fewest_114 rfl rfl ?_
        refine e_getfield 2 dX9_fewest_115 kf_X9_27_9 rfl rfl ?_
        refine e_getfield 5 dX9_fewest_118 kf_X9_128_0 rfl rfl ?_
        refine e_iload dX9_fewest_121 rfl ?_
        refine e_iald_n (s) dX9_fewest_123 rfl rfl (by omega) (by decide) ?_
        rw [a3]
        refine f_callVi (As := [_]) ok_X1_hasRoom ⟨Nat.le_of_ble_eq_true rfl, Nat.le_of_ble_eq_true rfl⟩ dX9_fewest_124 kl_X9_88 ki_X1_hasRoom kv_X1_hasRoom rfl rfl rfl rfl (Nat.le_of_ble_eq_true rfl) (Nat.le_of_ble_eq_true rfl) (Nat.zero_add _) (Nat.zero_add _) sp_X1_hasRoom ?_
        refine e_if_eq (tgt := 159) dX9_fewest_127 rfl (fun h127 => ?_) (fun h127 => ?_)
        · have hv2 : 20 ≤ ba b 7 s := by
            rcases hIs with c | c
            · refine absurd ⟨?_, ?_⟩ (bi_0.mp h127)
              · rw [plx_l (by omega)]; exact (show ¬ nI (ba b 7 s) < nI 0 from nI_nlt (by omega) (by omega))
              · rw [e1, plx_l (by omega), nI_leI (by omega) (by omega)]; omega
            · exact c.1
          have hpl : plF (ba b 7 s) k = 7 := plF_o hv2 hv
          refine e_iinc (v := _ + 1) (lv' := [_, _, _, _, _]) dX9_fewest_159 rfl (Nat.le_of_ble_eq_true rfl) rfl rfl rfl ?_
          refine e_goto (tgt := 57) dX9_fewest_162 rfl ?_
          rw [nI_1]
          refine ih (s + 1) S A (by omega) (by omega) hR h5 ?_ (swF_n hpl hA)
          rw [h6, stF, hpl, tS_7 (by omega) (by rw [tG_stF (by omega) (by omega), if_neg (by omega)])]
        · have hv2 : ba b 7 s < 20 := by
            rcases Nat.lt_or_ge (ba b 7 s) 20 with c | c
            · exact c
            · exact absurd (plx_neg c (by omega)) (bi_1.mp h127).1
          have hpl : plF (ba b 7 s) k = ba b 7 s := plF_r hv2
          refine e_aload_n 0 dX9_fewest_130 rfl rfl ?_
          refine e_getfield 3 dX9_fewest_131 kf_X9_34_9 rfl rfl ?_
          refine e_iload dX9_fewest_134 rfl ?_
          refine e_aload_n 0 dX9_fewest_136 rfl rfl ?_
          refine e_getfield 2 dX9_fewest_137 kf_X9_27_9 rfl rfl ?_
          refine e_getfield 4 dX9_fewest_140 kf_X9_125_0 rfl rfl ?_
          refine e_iload dX9_fewest_143 rfl ?_
          refine e_iald_n (s) dX9_fewest_145 rfl rfl (by omega) (by decide) ?_
          rw [a2]
          refine e_aload_n 0 dX9_fewest_146 rfl rfl ?_
          refine e_getfield 2 dX9_fewest_147 kf_X9_27_9 rfl rfl ?_
          refine e_getfield 5 dX9_fewest_150 kf_X9_128_0 rfl rfl ?_
          refine e_iload dX9_fewest_153 rfl ?_
          refine e_iald_n (s) dX9_fewest_155 rfl rfl (by omega) (by decide) ?_
          rw [a3, plx_l hv2]
          refine f_callVv (As := [_, _, _]) ok_X2_setStone ⟨Nat.le_of_ble_eq_true rfl, Nat.le_of_ble_eq_true rfl⟩ dX9_fewest_156 kl_X9_162 ki_X2_setStone kv_X2_setStone rfl rfl rfl rfl (Nat.le_of_ble_eq_true rfl) (Nat.le_of_ble_eq_true rfl) (Nat.zero_add _) (Nat.zero_add _) (sp_X2_setStone (v := ba b 7 s) (stF_tV hI hk hs) hI.1 (by omega) (by omega) h6) ?_
          refine e_iinc (v := _ + 1) (lv' := [_, _, _, _, _]) dX9_fewest_159 rfl (Nat.le_of_ble_eq_true rfl) rfl rfl rfl ?_
          refine e_goto (tgt := 57) dX9_fewest_162 rfl ?_
          rw [nI_1]
          refine e_q (ih (s + 1) _ _ (by omega) (by omega) (hR.sr ((SG.S (by omega)).tr (SG.A (by omega))) hR.z) h5 (by show nI (cX (tS (stF b k s) s (ba b 7 s))) = nI (cX (tS (stF b k s) s (plF (ba b 7 s) k))); rw [hpl]) (swF_y (by rw [hpl]; omega) hA)) (fun v w hw => QX.tr (SG.fx ((SG.S (by omega)).tr (SG.A (by omega)))) hw)
      · have hv : ba b 7 s = 20 + k := (plx_c (by omega) (by omega)).mp h83
        have hpl : plF (ba b 7 s) k = 6 := by rw [hv]; exact plF_c
        refine e_aload_n 0 dX9_fewest_86 rfl rfl ?_
        refine e_getfield 3 dX9_fewest_87 kf_X9_34_9 rfl rfl ?_
        refine e_iload dX9_fewest_90 rfl ?_
        refine e_aload_n 0 dX9_fewest_92 rfl rfl ?_
        refine e_getfield 2 dX9_fewest_93 kf_X9_27_9 rfl rfl ?_
        refine e_getfield 4 dX9_fewest_96 kf_X9_125_0 rfl rfl ?_
        refine e_iload dX9_fewest_99 rfl ?_
        refine e_iald_n (s) dX9_fewest_101 rfl rfl (by omega) (by decide) ?_
        rw [a2]
        refine e_bipush (v := 6) dX9_fewest_102 (by decide) ?_
        refine f_callVv (As := [_, _, _]) ok_X2_setStone ⟨Nat.le_of_ble_eq_true rfl, Nat.le_of_ble_eq_true rfl⟩ dX9_fewest_104 kl_X9_162 ki_X2_setStone kv_X2_setStone rfl rfl rfl rfl (Nat.le_of_ble_eq_true rfl) (Nat.le_of_ble_eq_true rfl) (Nat.zero_add _) (Nat.zero_add _) (sp_X2_setStone (v := 6) (stF_tV hI hk hs) hI.1 (by omega) (by omega) h6) ?_
        refine e_goto (tgt := 159) dX9_fewest_107 rfl ?_
        refine e_iinc (v := _ + 1) (lv' := [_, _, _, _, _]) dX9_fewest_159 rfl (Nat.le_of_ble_eq_true rfl) rfl rfl rfl ?_
        refine e_goto (tgt := 57) dX9_fewest_162 rfl ?_
        rw [nI_1]
        refine e_q (ih (s + 1) _ _ (by omega) (by omega) (hR.sr ((SG.S (by omega)).tr (SG.A (by omega))) hR.z) h5 (by show nI (cX (tS (stF b k s) s 6)) = nI (cX (tS (stF b k s) s (plF (ba b 7 s) k))); rw [hpl]) (swF_y (by rw [hpl]; omega) hA)) (fun v w hw => QX.tr (SG.fx ((SG.S (by omega)).tr (SG.A (by omega)))) hw)
set_option maxRecDepth 8000 in
theorem sp_X9_fewest {G : sh_G} {S : Nat → Int32} {A : Nat → Nat → Int32} {Lg : Nat → Int64} {P : Nat → Option Nat} {T : List sh_C} {b : sh_be} {p r q : Int32} (hR : RX S A Lg P T b) (hI : IV b) : Ev G mX9_fewest 0 0 (mkW G S A Lg P T) 0 [some (.ref 1), some (.int p), some (.int r), some (.int q), none] [] (QX G S A (some (.int (oFewest b p r q))) b) := by
  have e1 := hR.2.1
  have e3 := hR.2.2.2.1
  have e4 := hR.2.2.2.2.1
  have i1 := hI.1
  have i3 := hI.2.2.1
  have i4 := hI.2.2.2.1
  refine e_aload_n 0 dX9_fewest_0 rfl rfl ?_
  refine e_getfield 2 dX9_fewest_1 kf_X9_27_9 rfl rfl ?_
  refine e_iload_n 1 dX9_fewest_4 rfl rfl ?_
  refine f_callVi (As := [_]) ok_X0_hasPerson ⟨Nat.le_of_ble_eq_true rfl, Nat.le_of_ble_eq_true rfl⟩ dX9_fewest_5 kl_X9_107 ki_X0_hasPerson kv_X0_hasPerson rfl rfl rfl rfl (Nat.le_of_ble_eq_true rfl) (Nat.le_of_ble_eq_true rfl) (Nat.zero_add _) (Nat.zero_add _) sp_X0_hasPerson ?_
  refine e_if_eq (tgt := 27) dX9_fewest_8 rfl (fun h8 => ?_) (fun h8 => ?_)
  · rw [e3] at h8
    try rw [e1] at h19
    refine e_iconst (v := -1) dX9_fewest_27 rfl ?_
    refine e_iret dX9_fewest_28 rfl ?_
    have ho : oFewest b p r q = -1 := by
      first
      | rw [oFewest, if_pos (Or.inl (Or.inl (bi_0.mp h8)))]
      | rw [oFewest, if_pos (Or.inl (Or.inr (bi_0.mp h19)))]
      | rw [oFewest, if_pos (Or.inr (Int32.not_le.mp h24))]
    rw [ho]
    exact ⟨S, A, Lg, P, T, rfl, rfl, hR, FX.rf⟩
  · refine e_aload_n 0 dX9_fewest_11 rfl rfl ?_
    refine e_getfield 1 dX9_fewest_12 kf_X9_20_9 rfl rfl ?_
    refine e_iload_n 2 dX9_fewest_15 rfl rfl ?_
    refine f_callVi (As := [_]) ok_X1_hasRoom ⟨Nat.le_of_ble_eq_true rfl, Nat.le_of_ble_eq_true rfl⟩ dX9_fewest_16 kl_X9_88 ki_X1_hasRoom kv_X1_hasRoom rfl rfl rfl rfl (Nat.le_of_ble_eq_true rfl) (Nat.le_of_ble_eq_true rfl) (Nat.zero_add _) (Nat.zero_add _) sp_X1_hasRoom ?_
    refine e_if_eq (tgt := 27) dX9_fewest_19 rfl (fun h19 => ?_) (fun h19 => ?_)
    · rw [e3] at h8
      try rw [e1] at h19
      refine e_iconst (v := -1) dX9_fewest_27 rfl ?_
      refine e_iret dX9_fewest_28 rfl ?_
      have ho : oFewest b p r q = -1 := by
        first
        | rw [oFewest, if_pos (Or.inl (Or.inl (bi_0.mp h8)))]
        | rw [oFewest, if_pos (Or.inl (Or.inr (bi_0.mp h19)))]
        | rw [oFewest, if_pos (Or.inr (Int32.not_le.mp h24))]
      rw [ho]
      exact ⟨S, A, Lg, P, T, rfl, rfl, hR, FX.rf⟩
    · refine e_iload_n 3 dX9_fewest_22 rfl rfl ?_
      refine e_iconst (v := -1) dX9_fewest_23 rfl ?_
      refine e_icmp_ge (tgt := 29) dX9_fewest_24 rfl (fun h24 => ?_) (fun h24 => ?_)
      · rw [e3] at h8
        rw [e1] at h19
        have hq : ¬ bdF b p r := fun h => h.elim (fun h => h (bi_1.mp h8)) (fun h => h (bi_1.mp h19))
        obtain ⟨k, hk, rfl⟩ := ix_of (x := p) rfl (by omega) (bi_1.mp h8)
        obtain ⟨g, hg, rfl⟩ := ix_of (x := r) rfl (by omega) (bi_1.mp h19)
        have gp := hR.per2 hk
        have ip := hI.2.2.2.2.2.1 k hk
        refine e_aload_n 0 dX9_fewest_29 rfl rfl ?_
        refine e_getfield 3 dX9_fewest_30 kf_X9_34_9 rfl rfl ?_
        refine e_aload_n 0 dX9_fewest_33 rfl rfl ?_
        refine e_getfield 2 dX9_fewest_34 kf_X9_27_9 rfl rfl ?_
        refine e_getfield 2 dX9_fewest_37 kf_X9_110_0 rfl rfl ?_
        refine e_iload_n 1 dX9_fewest_40 rfl rfl ?_
        refine e_iald_n (k) dX9_fewest_41 rfl rfl (by omega) (by decide) ?_
        rw [gp.1]
        refine e_aload_n 0 dX9_fewest_42 rfl rfl ?_
        refine e_getfield 2 dX9_fewest_43 kf_X9_27_9 rfl rfl ?_
        refine e_getfield 3 dX9_fewest_46 kf_X9_113_0 rfl rfl ?_
        refine e_iload_n 1 dX9_fewest_49 rfl rfl ?_
        refine e_iald_n (k) dX9_fewest_50 rfl rfl (by omega) (by decide) ?_
        rw [gp.2]
        refine e_callV (mc := 0) (ms := 0) (kc2 := 0) (ks2 := 0) (As := [_, _]) ok_X2_begin ⟨Nat.le_of_ble_eq_true rfl, Nat.le_of_ble_eq_true rfl⟩ dX9_fewest_51 kl_X9_159 ki_X2_begin kv_X2_begin rfl rfl rfl rfl (Nat.le_of_ble_eq_true rfl) (Nat.le_of_ble_eq_true rfl) (sp_X2_begin (r := ba b 5 k) (by omega)) (fun v w' hw => ?_)
        obtain ⟨rfl, f, rfl, hf⟩ := hw
        refine e_iconst (v := 0) dX9_fewest_54 rfl ?_
        refine e_istore (lv' := [_, _, _, _, _]) dX9_fewest_55 (Nat.le_of_ble_eq_true rfl) rfl rfl ?_
        have ho : oFewest b (nI k) (nI g) q = fwF b k g q := by
          rw [oFewest, if_neg (fun h => h.elim hq (fun h => absurd h (Int32.not_lt.mpr h24))), nI_clamp (by omega), nI_clamp (by omega)]
        rw [ho]
        refine e_q (lp_X9_fewest (q := q) hI hk hg (bn b 3 + 1) 0 _ _ (by omega) (by omega) (hR.sr ((SG.S (by omega)).tr ((SG.S (by omega)).tr (SG.A (by omega)))) hR.z) rfl rfl (fun x hx => ?_)) (fun v w hw => QX.tr (SG.fx ((SG.S (by omega)).tr ((SG.S (by omega)).tr (SG.A (by omega))))) hw)
        show f x = nI (swF b k 0 x)
        rw [hf x hx, swF, if_neg (fun g => absurd g.1 (Nat.not_lt_zero x))]
        rfl
      · rw [e3] at h8
        try rw [e1] at h19
        refine e_iconst (v := -1) dX9_fewest_27 rfl ?_
        refine e_iret dX9_fewest_28 rfl ?_
        have ho : oFewest b p r q = -1 := by
          first
          | rw [oFewest, if_pos (Or.inl (Or.inl (bi_0.mp h8)))]
          | rw [oFewest, if_pos (Or.inl (Or.inr (bi_0.mp h19)))]
          | rw [oFewest, if_pos (Or.inr (Int32.not_le.mp h24))]
        rw [ho]
        exact ⟨S, A, Lg, P, T, rfl, rfl, hR, FX.rf⟩

set_option maxRecDepth 8000 in
theorem lp2_X9_comesWith {G : sh_G} {S : Nat → Int32} {A : Nat → Nat → Int32} {Lg : Nat → Int64} {P : Nat → Option Nat} {T : List sh_C} {b : sh_be} {k g x y : Nat} (hR : RX S A Lg P T b) (hI : IV b) (hk : k < bn b 2) (hg : g < bn b 0) (hx : x < 100) (hy : y < 100) (h5 : S 5 = nI (ba b 4 k)) (h6 : S 6 = nI (cX (t12 (ba b 5 k) x y))) (hA : ∀ s, s < 4 → A 6 s = nI (sw12 x y s)) : Ev G mX9_comesWith 0 0 (mkW G S A Lg P T) 71 [some (.ref 1), some (.int (nI k)), some (.int (nI g)), some (.int (nI x)), some (.int (nI y))] [] (fun v w => v = some (.int (bi (cmW b k g x y = true))) ∧ ∃ S' A' Lg', w = mkW G S' A' Lg' P T ∧ (∀ j, Lg' j = 0) ∧ SG S A S' A') := by
  have i1 := hI.1
  have i3 := hI.2.2.1
  have ip := hI.2.2.2.2.2.1 k hk
  have gp := hR.per2 hk
  refine e_aload_n 0 dX9_comesWith_71 rfl rfl ?_
  refine e_getfield 3 dX9_comesWith_72 kf_X9_34_9 rfl rfl ?_
  refine e_aload_n 0 dX9_comesWith_75 rfl rfl ?_
  refine e_getfield 1 dX9_comesWith_76 kf_X9_20_9 rfl rfl ?_
  refine e_iload_n 2 dX9_comesWith_79 rfl rfl ?_
  refine e_callV (mc := 0) (ms := 0) (kc2 := 0) (ks2 := 0) (As := [_, _]) ok_X2_finds ⟨Nat.le_of_ble_eq_true rfl, Nat.le_of_ble_eq_true rfl⟩ dX9_comesWith_80 kl_X9_166 ki_X2_finds kv_X2_finds rfl rfl rfl rfl (Nat.le_of_ble_eq_true rfl) (Nat.le_of_ble_eq_true rfl) (sp_X2_finds hI (by omega) (t12_tV (by omega) hI.1) (by omega) (fun s hs => sw12_lt hx hy) hR.dx hR.z h5 h6 hA) (fun v w' hw => ?_)
  obtain ⟨S1, A1, L1, rfl, hz1, hf1, hfi⟩ := hw
  rcases hfi with ⟨rfl, hn⟩ | ⟨rfl, i, hi1, hi2, hi3, hi4⟩
  · exact e_zret dX9_comesWith_83 rfl rfl ⟨by rw [bi_f (by unfold cmW; rw [hn]; decide)], S1, A1, L1, rfl, hz1, hf1⟩
  · exact e_zret dX9_comesWith_83 rfl rfl ⟨by rw [bi_t (by unfold cmW; rw [hi1]; rfl)], S1, A1, L1, rfl, hz1, hf1⟩
set_option maxRecDepth 8000 in
theorem lp1_X9_comesWith {G : sh_G} {S : Nat → Int32} {A : Nat → Nat → Int32} {Lg : Nat → Int64} {P : Nat → Option Nat} {T : List sh_C} {b : sh_be} {k g x y : Nat} (hR : RX S A Lg P T b) (hI : IV b) (hk : k < bn b 2) (hg : g < bn b 0) (hx : x < 100) (hy : y < 100) (h5 : S 5 = nI (ba b 4 k)) (h6 : S 6 = nI (cX (ba b 5 k, if 0 < x then ba b 5 k else 7, 7, 7, 7))) (hA : ∀ s, s < 4 → A 6 s = nI (sw12 x 0 s)) : Ev G mX9_comesWith 0 0 (mkW G S A Lg P T) 47 [some (.ref 1), some (.int (nI k)), some (.int (nI g)), some (.int (nI x)), some (.int (nI y))] [] (fun v w => v = some (.int (bi (cmW b k g x y = true))) ∧ ∃ S' A' Lg', w = mkW G S' A' Lg' P T ∧ (∀ j, Lg' j = 0) ∧ SG S A S' A') := by
  have i1 := hI.1
  have i3 := hI.2.2.1
  have ip := hI.2.2.2.2.2.1 k hk
  have gp := hR.per2 hk
  refine e_iload dX9_comesWith_47 rfl ?_
  refine e_if_le (tgt := 71) dX9_comesWith_49 rfl (fun h49 => ?_) (fun h49 => ?_)
  · have hy0 : y = 0 := by rw [show (0 : Int32) = nI 0 from rfl, nI_leI (by omega) (by omega)] at h49; omega
    subst hy0
    exact lp2_X9_comesWith hR hI hk hg hx hy h5 (by rw [h6]; rfl) hA
  · have hy0 : 0 < y := by rw [show (0 : Int32) = nI 0 from rfl, nI_leI (by omega) (by omega)] at h49; omega
    have htv : tV (bn b 0) (fun s => decide (tG (t12 (ba b 5 k) x 0) s = 7)) (t12 (ba b 5 k) x 0) := t12_tV (by omega) hI.1
    refine e_aload_n 0 dX9_comesWith_52 rfl rfl ?_
    refine e_getfield 3 dX9_comesWith_53 kf_X9_34_9 rfl rfl ?_
    refine e_iconst (v := 1) dX9_comesWith_56 rfl ?_
    refine e_iload dX9_comesWith_57 rfl ?_
    refine e_aload_n 0 dX9_comesWith_59 rfl rfl ?_
    refine e_getfield 2 dX9_comesWith_60 kf_X9_27_9 rfl rfl ?_
    refine e_getfield 3 dX9_comesWith_63 kf_X9_113_0 rfl rfl ?_
    refine e_iload_n 1 dX9_comesWith_66 rfl rfl ?_
    refine e_iald_n (k) dX9_comesWith_67 rfl rfl (by omega) (by decide) ?_
    rw [gp.2]
    refine f_callVv (As := [_, _, _]) ok_X2_setStone ⟨Nat.le_of_ble_eq_true rfl, Nat.le_of_ble_eq_true rfl⟩ dX9_comesWith_68 kl_X9_162 ki_X2_setStone kv_X2_setStone rfl rfl rfl rfl (Nat.le_of_ble_eq_true rfl) (Nat.le_of_ble_eq_true rfl) (Nat.zero_add _) (Nat.zero_add _) (sp_X2_setStone (s := 1) (v := ba b 5 k) htv hI.1 (by omega) (by omega) (h6.trans rfl)) ?_
    refine e_q (lp2_X9_comesWith (y := y) (hR.sr ((SG.S (by omega)).tr (SG.A (by omega))) hR.z) hI hk hg hx hy h5 ?_ (fun s hs => ?_)) (fun v w hw => ?_)
    · show nI (cX (tS (t12 (ba b 5 k) x 0) 1 (ba b 5 k))) = nI (cX (t12 (ba b 5 k) x y))
      unfold t12
      rw [if_pos hy0]; rfl
    · show upd (A 6) 1 (nI y) s = nI (sw12 x y s)
      by_cases e : s = 1
      · subst e; rw [upd_eq]; rfl
      · rw [upd_ne e, hA s hs]
        unfold sw12
        by_cases e0 : s = 0
        · rw [if_pos e0, if_pos e0]
        · rw [if_neg e0, if_neg e0, if_neg e, if_neg e]
    · obtain ⟨a1, S2, A2, L2, a2, a3, a4⟩ := hw
      exact ⟨a1, S2, A2, L2, a2, a3, ((SG.S (by omega)).tr (SG.A (by omega))).tr a4⟩
set_option maxRecDepth 8000 in
theorem sp_X9_comesWith {G : sh_G} {S : Nat → Int32} {A : Nat → Nat → Int32} {Lg : Nat → Int64} {P : Nat → Option Nat} {T : List sh_C} {b : sh_be} {k g x y : Nat} (hR : RX S A Lg P T b) (hI : IV b) (hk : k < bn b 2) (hg : g < bn b 0) (hx : x < 100) (hy : y < 100) : Ev G mX9_comesWith 0 0 (mkW G S A Lg P T) 0 [some (.ref 1), some (.int (nI k)), some (.int (nI g)), some (.int (nI x)), some (.int (nI y))] [] (fun v w => v = some (.int (bi (cmW b k g x y = true))) ∧ ∃ S' A' Lg', w = mkW G S' A' Lg' P T ∧ (∀ j, Lg' j = 0) ∧ SG S A S' A') := by
  have i1 := hI.1
  have i3 := hI.2.2.1
  have ip := hI.2.2.2.2.2.1 k hk
  have gp := hR.per2 hk
  refine e_aload_n 0 dX9_comesWith_0 rfl rfl ?_
  refine e_getfield 3 dX9_comesWith_1 kf_X9_34_9 rfl rfl ?_
  refine e_aload_n 0 dX9_comesWith_4 rfl rfl ?_
  refine e_getfield 2 dX9_comesWith_5 kf_X9_27_9 rfl rfl ?_
  refine e_getfield 2 dX9_comesWith_8 kf_X9_110_0 rfl rfl ?_
  refine e_iload_n 1 dX9_comesWith_11 rfl rfl ?_
  refine e_iald_n (k) dX9_comesWith_12 rfl rfl (by omega) (by decide) ?_
  rw [gp.1]
  refine e_aload_n 0 dX9_comesWith_13 rfl rfl ?_
  refine e_getfield 2 dX9_comesWith_14 kf_X9_27_9 rfl rfl ?_
  refine e_getfield 3 dX9_comesWith_17 kf_X9_113_0 rfl rfl ?_
  refine e_iload_n 1 dX9_comesWith_20 rfl rfl ?_
  refine e_iald_n (k) dX9_comesWith_21 rfl rfl (by omega) (by decide) ?_
  rw [gp.2]
  refine e_callV (mc := 0) (ms := 0) (kc2 := 0) (ks2 := 0) (As := [_, _]) ok_X2_begin ⟨Nat.le_of_ble_eq_true rfl, Nat.le_of_ble_eq_true rfl⟩ dX9_comesWith_22 kl_X9_159 ki_X2_begin kv_X2_begin rfl rfl rfl rfl (Nat.le_of_ble_eq_true rfl) (Nat.le_of_ble_eq_true rfl) (sp_X2_begin (r := ba b 5 k) (by omega)) (fun v w' hw => ?_)
  obtain ⟨rfl, f, rfl, hf⟩ := hw
  have hR1 := hR.sr ((SG.S (x := nI (ba b 4 k)) (show 5 ≤ 5 ∧ 5 ≤ 9 by omega)).tr ((SG.S (x := nI (cX (ba b 5 k, 7, 7, 7, 7))) (show 5 ≤ 6 ∧ 6 ≤ 9 by omega)).tr (SG.A (x := f) (show 4 ≤ 6 ∧ 6 ≤ 6 by omega)))) hR.z
  refine e_iload_n 3 dX9_comesWith_25 rfl rfl ?_
  refine e_if_le (tgt := 47) dX9_comesWith_26 rfl (fun h26 => ?_) (fun h26 => ?_)
  · have hx0 : x = 0 := by rw [show (0 : Int32) = nI 0 from rfl, nI_leI (by omega) (by omega)] at h26; omega
    subst hx0
    refine e_q (lp1_X9_comesWith hR1 hI hk hg hx hy rfl rfl (fun s hs => ?_)) (fun v w hw => ?_)
    · show f s = nI (sw12 0 0 s)
      rw [hf s hs]
      unfold sw12
      split
      · rfl
      · split <;> rfl
    · obtain ⟨a1, S2, A2, L2, a2, a3, a4⟩ := hw
      exact ⟨a1, S2, A2, L2, a2, a3, ((SG.S (by omega)).tr ((SG.S (by omega)).tr (SG.A (by omega)))).tr a4⟩
  · have hx0 : 0 < x := by rw [show (0 : Int32) = nI 0 from rfl, nI_leI (by omega) (by omega)] at h26; omega
    have htv : tV (bn b 0) (fun s => decide (tG (ba b 5 k, 7, 7, 7, 7) s = 7)) (ba b 5 k, 7, 7, 7, 7) := t12_tV (x := 0) (y := 0) (by omega) hI.1
    refine e_aload_n 0 dX9_comesWith_29 rfl rfl ?_
    refine e_getfield 3 dX9_comesWith_30 kf_X9_34_9 rfl rfl ?_
    refine e_iconst (v := 0) dX9_comesWith_33 rfl ?_
    refine e_iload_n 3 dX9_comesWith_34 rfl rfl ?_
    refine e_aload_n 0 dX9_comesWith_35 rfl rfl ?_
    refine e_getfield 2 dX9_comesWith_36 kf_X9_27_9 rfl rfl ?_
    refine e_getfield 3 dX9_comesWith_39 kf_X9_113_0 rfl rfl ?_
    refine e_iload_n 1 dX9_comesWith_42 rfl rfl ?_
    refine e_iald_n (k) dX9_comesWith_43 rfl rfl (by omega) (by decide) ?_
    rw [show (va_up A 6 f) 1 k = nI (ba b 5 k) from gp.2]
    refine f_callVv (As := [_, _, _]) ok_X2_setStone ⟨Nat.le_of_ble_eq_true rfl, Nat.le_of_ble_eq_true rfl⟩ dX9_comesWith_44 kl_X9_162 ki_X2_setStone kv_X2_setStone rfl rfl rfl rfl (Nat.le_of_ble_eq_true rfl) (Nat.le_of_ble_eq_true rfl) (Nat.zero_add _) (Nat.zero_add _) (sp_X2_setStone (s := 0) (v := ba b 5 k) htv hI.1 (by omega) (by omega) rfl) ?_
    refine e_q (lp1_X9_comesWith (x := x) (hR1.sr ((SG.S (by omega)).tr (SG.A (by omega))) hR.z) hI hk hg hx hy rfl ?_ (fun s hs => ?_)) (fun v w hw => ?_)
    · show nI (cX (tS (ba b 5 k, 7, 7, 7, 7) 0 (ba b 5 k))) = nI (cX (ba b 5 k, if 0 < x then ba b 5 k else 7, 7, 7, 7))
      rw [if_pos hx0]; rfl
    · show upd f 0 (nI x) s = nI (sw12 x 0 s)
      by_cases e : s = 0
      · subst e; rw [upd_eq]; rfl
      · rw [upd_ne e, hf s hs]
        unfold sw12
        rw [if_neg e]
        split <;> rfl
    · obtain ⟨a1, S2, A2, L2, a2, a3, a4⟩ := hw
      exact ⟨a1, S2, A2, L2, a2, a3, (((SG.S (by omega)).tr ((SG.S (by omega)).tr (SG.A (by omega)))).tr ((SG.S (by omega)).tr (SG.A (by omega)))).tr a4⟩

set_option maxRecDepth 4000 in
theorem sp_X9_ofLaidRow {G : sh_G} {S : Nat → Int32} {A : Nat → Nat → Int32} {Lg : Nat → Int64} {P : Nat → Option Nat} {T : List sh_C} {x y : Nat} {q : Int32} (hx : x < 100) (hy : y < 100) : Ev G mX9_ofLaidRow 0 0 (mkW G S A Lg P T) 0 [some (.int (nI x)), some (.int (nI y)), some (.int q), none] [] (sh_is (some (.int (ofR x y q))) (mkW G S A Lg P T)) := by
  by_cases ex : 0 < x
  · have hex : ¬ nI x ≤ 0 := by rw [show (0 : Int32) = nI 0 from rfl, nI_leI (by omega) (by omega)]; omega
    by_cases ey : 0 < y
    · have hey : ¬ nI y ≤ 0 := by rw [show (0 : Int32) = nI 0 from rfl, nI_leI (by omega) (by omega)]; omega
      refine e_iload_n 0 dX9_ofLaidRow_0 rfl rfl ?_
      refine e_if_le (tgt := 8) dX9_ofLaidRow_1 rfl (fun h1 => absurd h1 hex) (fun _ => ?_)
      refine e_iconst (v := 1) dX9_ofLaidRow_4 rfl ?_
      refine e_goto (tgt := 9) dX9_ofLaidRow_5 rfl ?_
      refine e_iload_n 1 dX9_ofLaidRow_9 rfl rfl ?_
      refine e_if_le (tgt := 17) dX9_ofLaidRow_10 rfl (fun h10 => absurd h10 hey) (fun _ => ?_)
      refine e_iconst (v := 1) dX9_ofLaidRow_13 rfl ?_
      refine e_goto (tgt := 18) dX9_ofLaidRow_14 rfl ?_
      refine e_iadd dX9_ofLaidRow_18 ?_
      refine e_istore_n (lv' := [_, _, _, _]) 3 dX9_ofLaidRow_19 rfl (Nat.le_of_ble_eq_true rfl) rfl rfl ?_
      refine e_iload_n 2 dX9_ofLaidRow_20 rfl rfl ?_
      refine e_iconst (v := -1) dX9_ofLaidRow_21 rfl ?_
      refine e_icmp_ne (tgt := 27) dX9_ofLaidRow_22 rfl (fun h22 => ?_) (fun h22 => ?_)
      · refine e_iload_n 2 dX9_ofLaidRow_27 rfl rfl ?_
        refine e_iload_n 3 dX9_ofLaidRow_28 rfl rfl ?_
        refine e_icmp_lt (tgt := 35) dX9_ofLaidRow_29 rfl (fun h29 => ?_) (fun h29 => ?_)
        · refine e_iload_n 2 dX9_ofLaidRow_35 rfl rfl ?_
          refine e_if_ne (tgt := 48) dX9_ofLaidRow_36 rfl (fun h36 => ?_) (fun h36 => ?_)
          · refine e_iload_n 1 dX9_ofLaidRow_48 rfl rfl ?_
            exact e_iret dX9_ofLaidRow_49 rfl (is_i (by
                have hlt : ¬ nI (1 + 1) ≤ q := fun g => absurd h29 (Int32.not_lt.mpr g)
                rw [ofR, if_neg h22, if_pos ex, if_pos ey, if_neg hlt]
                by_cases e : q = 0
                · rw [if_pos ⟨e, ex, ey⟩]
                  all_goals first
                  | rfl
                  | exact absurd e h36
                · rw [if_neg (fun g => e g.1)]
                  all_goals first
                  | rfl
                  | exact absurd h36 e) rfl)
          · refine e_iload_n 3 dX9_ofLaidRow_39 rfl rfl ?_
            refine e_iconst (v := 2) dX9_ofLaidRow_40 rfl ?_
            refine e_icmp_ne (tgt := 48) dX9_ofLaidRow_41 rfl (fun h41 => absurd h41 (fun h => h rfl)) (fun _ => ?_)
            refine e_iload_n 0 dX9_ofLaidRow_44 rfl rfl ?_
            refine e_goto (tgt := 49) dX9_ofLaidRow_45 rfl ?_
            exact e_iret dX9_ofLaidRow_49 rfl (is_i (by
                have hlt : ¬ nI (1 + 1) ≤ q := fun g => absurd h29 (Int32.not_lt.mpr g)
                rw [ofR, if_neg h22, if_pos ex, if_pos ey, if_neg hlt]
                by_cases e : q = 0
                · rw [if_pos ⟨e, ex, ey⟩]
                  all_goals first
                  | rfl
                  | exact absurd e h36
                · rw [if_neg (fun g => e g.1)]
                  all_goals first
                  | rfl
                  | exact absurd h36 e) rfl)
        · refine e_bipush (v := -9) dX9_ofLaidRow_32 (by decide) ?_
          exact e_iret dX9_ofLaidRow_34 rfl (is_i (by rw [ofR, if_neg h22, if_pos ex, if_pos ey, if_pos (show nI (1 + 1) ≤ q from Int32.not_lt.mp h29)]) rfl)
      · refine e_iload_n 3 dX9_ofLaidRow_25 rfl rfl ?_
        exact e_iret dX9_ofLaidRow_26 rfl (is_i (by rw [ofR, if_pos h22, if_pos ex, if_pos ey]; rfl) rfl)
    · have hey : nI y ≤ 0 := by rw [show (0 : Int32) = nI 0 from rfl, nI_leI (by omega) (by omega)]; omega
      refine e_iload_n 0 dX9_ofLaidRow_0 rfl rfl ?_
      refine e_if_le (tgt := 8) dX9_ofLaidRow_1 rfl (fun h1 => absurd h1 hex) (fun _ => ?_)
      refine e_iconst (v := 1) dX9_ofLaidRow_4 rfl ?_
      refine e_goto (tgt := 9) dX9_ofLaidRow_5 rfl ?_
      refine e_iload_n 1 dX9_ofLaidRow_9 rfl rfl ?_
      refine e_if_le (tgt := 17) dX9_ofLaidRow_10 rfl (fun _ => ?_) (fun h10 => absurd hey h10)
      refine e_iconst (v := 0) dX9_ofLaidRow_17 rfl ?_
      refine e_iadd dX9_ofLaidRow_18 ?_
      refine e_istore_n (lv' := [_, _, _, _]) 3 dX9_ofLaidRow_19 rfl (Nat.le_of_ble_eq_true rfl) rfl rfl ?_
      refine e_iload_n 2 dX9_ofLaidRow_20 rfl rfl ?_
      refine e_iconst (v := -1) dX9_ofLaidRow_21 rfl ?_
      refine e_icmp_ne (tgt := 27) dX9_ofLaidRow_22 rfl (fun h22 => ?_) (fun h22 => ?_)
      · refine e_iload_n 2 dX9_ofLaidRow_27 rfl rfl ?_
        refine e_iload_n 3 dX9_ofLaidRow_28 rfl rfl ?_
        refine e_icmp_lt (tgt := 35) dX9_ofLaidRow_29 rfl (fun h29 => ?_) (fun h29 => ?_)
        · refine e_iload_n 2 dX9_ofLaidRow_35 rfl rfl ?_
          refine e_if_ne (tgt := 48) dX9_ofLaidRow_36 rfl (fun h36 => ?_) (fun h36 => ?_)
          · refine e_iload_n 1 dX9_ofLaidRow_48 rfl rfl ?_
            exact e_iret dX9_ofLaidRow_49 rfl (is_i (by
                have hlt : ¬ nI (1 + 0) ≤ q := fun g => absurd h29 (Int32.not_lt.mpr g)
                rw [ofR, if_neg h22, if_pos ex, if_neg ey, if_neg hlt]
                by_cases h36 : q = 0
                · rw [if_neg (fun g => ey g.2.2)]
                · rw [if_neg (fun g => h36 g.1)]) rfl)
          · refine e_iload_n 3 dX9_ofLaidRow_39 rfl rfl ?_
            refine e_iconst (v := 2) dX9_ofLaidRow_40 rfl ?_
            refine e_icmp_ne (tgt := 48) dX9_ofLaidRow_41 rfl (fun _ => ?_) (fun h41 => absurd h41 (by decide))
            refine e_iload_n 1 dX9_ofLaidRow_48 rfl rfl ?_
            exact e_iret dX9_ofLaidRow_49 rfl (is_i (by
                have hlt : ¬ nI (1 + 0) ≤ q := fun g => absurd h29 (Int32.not_lt.mpr g)
                rw [ofR, if_neg h22, if_pos ex, if_neg ey, if_neg hlt]
                by_cases h36 : q = 0
                · rw [if_neg (fun g => ey g.2.2)]
                · rw [if_neg (fun g => h36 g.1)]) rfl)
        · refine e_bipush (v := -9) dX9_ofLaidRow_32 (by decide) ?_
          exact e_iret dX9_ofLaidRow_34 rfl (is_i (by rw [ofR, if_neg h22, if_pos ex, if_neg ey, if_pos (show nI (1 + 0) ≤ q from Int32.not_lt.mp h29)]) rfl)
      · refine e_iload_n 3 dX9_ofLaidRow_25 rfl rfl ?_
        exact e_iret dX9_ofLaidRow_26 rfl (is_i (by rw [ofR, if_pos h22, if_pos ex, if_neg ey]; rfl) rfl)
  · have hex : nI x ≤ 0 := by rw [show (0 : Int32) = nI 0 from rfl, nI_leI (by omega) (by omega)]; omega
    by_cases ey : 0 < y
    · have hey : ¬ nI y ≤ 0 := by rw [show (0 : Int32) = nI 0 from rfl, nI_leI (by omega) (by omega)]; omega
      refine e_iload_n 0 dX9_ofLaidRow_0 rfl rfl ?_
      refine e_if_le (tgt := 8) dX9_ofLaidRow_1 rfl (fun _ => ?_) (fun h1 => absurd hex h1)
      refine e_iconst (v := 0) dX9_ofLaidRow_8 rfl ?_
      refine e_iload_n 1 dX9_ofLaidRow_9 rfl rfl ?_
      refine e_if_le (tgt := 17) dX9_ofLaidRow_10 rfl (fun h10 => absurd h10 hey) (fun _ => ?_)
      refine e_iconst (v := 1) dX9_ofLaidRow_13 rfl ?_
      refine e_goto (tgt := 18) dX9_ofLaidRow_14 rfl ?_
      refine e_iadd dX9_ofLaidRow_18 ?_
      refine e_istore_n (lv' := [_, _, _, _]) 3 dX9_ofLaidRow_19 rfl (Nat.le_of_ble_eq_true rfl) rfl rfl ?_
      refine e_iload_n 2 dX9_ofLaidRow_20 rfl rfl ?_
      refine e_iconst (v := -1) dX9_ofLaidRow_21 rfl ?_
      refine e_icmp_ne (tgt := 27) dX9_ofLaidRow_22 rfl (fun h22 => ?_) (fun h22 => ?_)
      · refine e_iload_n 2 dX9_ofLaidRow_27 rfl rfl ?_
        refine e_iload_n 3 dX9_ofLaidRow_28 rfl rfl ?_
        refine e_icmp_lt (tgt := 35) dX9_ofLaidRow_29 rfl (fun h29 => ?_) (fun h29 => ?_)
        · refine e_iload_n 2 dX9_ofLaidRow_35 rfl rfl ?_
          refine e_if_ne (tgt := 48) dX9_ofLaidRow_36 rfl (fun h36 => ?_) (fun h36 => ?_)
          · refine e_iload_n 1 dX9_ofLaidRow_48 rfl rfl ?_
            exact e_iret dX9_ofLaidRow_49 rfl (is_i (by
                have hlt : ¬ nI (0 + 1) ≤ q := fun g => absurd h29 (Int32.not_lt.mpr g)
                rw [ofR, if_neg h22, if_neg ex, if_pos ey, if_neg hlt]
                by_cases h36 : q = 0
                · rw [if_neg (fun g => ex g.2.1)]
                · rw [if_neg (fun g => h36 g.1)]) rfl)
          · refine e_iload_n 3 dX9_ofLaidRow_39 rfl rfl ?_
            refine e_iconst (v := 2) dX9_ofLaidRow_40 rfl ?_
            refine e_icmp_ne (tgt := 48) dX9_ofLaidRow_41 rfl (fun _ => ?_) (fun h41 => absurd h41 (by decide))
            refine e_iload_n 1 dX9_ofLaidRow_48 rfl rfl ?_
            exact e_iret dX9_ofLaidRow_49 rfl (is_i (by
                have hlt : ¬ nI (0 + 1) ≤ q := fun g => absurd h29 (Int32.not_lt.mpr g)
                rw [ofR, if_neg h22, if_neg ex, if_pos ey, if_neg hlt]
                by_cases h36 : q = 0
                · rw [if_neg (fun g => ex g.2.1)]
                · rw [if_neg (fun g => h36 g.1)]) rfl)
        · refine e_bipush (v := -9) dX9_ofLaidRow_32 (by decide) ?_
          exact e_iret dX9_ofLaidRow_34 rfl (is_i (by rw [ofR, if_neg h22, if_neg ex, if_pos ey, if_pos (show nI (0 + 1) ≤ q from Int32.not_lt.mp h29)]) rfl)
      · refine e_iload_n 3 dX9_ofLaidRow_25 rfl rfl ?_
        exact e_iret dX9_ofLaidRow_26 rfl (is_i (by rw [ofR, if_pos h22, if_neg ex, if_pos ey]; rfl) rfl)
    · have hey : nI y ≤ 0 := by rw [show (0 : Int32) = nI 0 from rfl, nI_leI (by omega) (by omega)]; omega
      refine e_iload_n 0 dX9_ofLaidRow_0 rfl rfl ?_
      refine e_if_le (tgt := 8) dX9_ofLaidRow_1 rfl (fun _ => ?_) (fun h1 => absurd hex h1)
      refine e_iconst (v := 0) dX9_ofLaidRow_8 rfl ?_
      refine e_iload_n 1 dX9_ofLaidRow_9 rfl rfl ?_
      refine e_if_le (tgt := 17) dX9_ofLaidRow_10 rfl (fun _ => ?_) (fun h10 => absurd hey h10)
      refine e_iconst (v := 0) dX9_ofLaidRow_17 rfl ?_
      refine e_iadd dX9_ofLaidRow_18 ?_
      refine e_istore_n (lv' := [_, _, _, _]) 3 dX9_ofLaidRow_19 rfl (Nat.le_of_ble_eq_true rfl) rfl rfl ?_
      refine e_iload_n 2 dX9_ofLaidRow_20 rfl rfl ?_
      refine e_iconst (v := -1) dX9_ofLaidRow_21 rfl ?_
      refine e_icmp_ne (tgt := 27) dX9_ofLaidRow_22 rfl (fun h22 => ?_) (fun h22 => ?_)
      · refine e_iload_n 2 dX9_ofLaidRow_27 rfl rfl ?_
        refine e_iload_n 3 dX9_ofLaidRow_28 rfl rfl ?_
        refine e_icmp_lt (tgt := 35) dX9_ofLaidRow_29 rfl (fun h29 => ?_) (fun h29 => ?_)
        · refine e_iload_n 2 dX9_ofLaidRow_35 rfl rfl ?_
          refine e_if_ne (tgt := 48) dX9_ofLaidRow_36 rfl (fun h36 => ?_) (fun h36 => ?_)
          · refine e_iload_n 1 dX9_ofLaidRow_48 rfl rfl ?_
            exact e_iret dX9_ofLaidRow_49 rfl (is_i (by
                have hlt : ¬ nI (0 + 0) ≤ q := fun g => absurd h29 (Int32.not_lt.mpr g)
                rw [ofR, if_neg h22, if_neg ex, if_neg ey, if_neg hlt]
                by_cases h36 : q = 0
                · rw [if_neg (fun g => ex g.2.1)]
                · rw [if_neg (fun g => h36 g.1)]) rfl)
          · refine e_iload_n 3 dX9_ofLaidRow_39 rfl rfl ?_
            refine e_iconst (v := 2) dX9_ofLaidRow_40 rfl ?_
            refine e_icmp_ne (tgt := 48) dX9_ofLaidRow_41 rfl (fun _ => ?_) (fun h41 => absurd h41 (by decide))
            refine e_iload_n 1 dX9_ofLaidRow_48 rfl rfl ?_
            exact e_iret dX9_ofLaidRow_49 rfl (is_i (by
                have hlt : ¬ nI (0 + 0) ≤ q := fun g => absurd h29 (Int32.not_lt.mpr g)
                rw [ofR, if_neg h22, if_neg ex, if_neg ey, if_neg hlt]
                by_cases h36 : q = 0
                · rw [if_neg (fun g => ex g.2.1)]
                · rw [if_neg (fun g => h36 g.1)]) rfl)
        · refine e_bipush (v := -9) dX9_ofLaidRow_32 (by decide) ?_
          exact e_iret dX9_ofLaidRow_34 rfl (is_i (by rw [ofR, if_neg h22, if_neg ex, if_neg ey, if_pos (show nI (0 + 0) ≤ q from Int32.not_lt.mp h29)]) rfl)
      · refine e_iload_n 3 dX9_ofLaidRow_25 rfl rfl ?_
        exact e_iret dX9_ofLaidRow_26 rfl (is_i (by rw [ofR, if_pos h22, if_neg ex, if_neg ey]; rfl) rfl)

set_option maxRecDepth 8000 in
theorem lpi_X9_laid {G : sh_G} {P : Nat → Option Nat} {T : List sh_C} {b : sh_be} {k g x y : Nat} {q : Int32} (hI : IV b) (hk : k < bn b 2) (hg : g < bn b 0) (hx : x ≤ 20) : ∀ (n c : Nat) (S : Nat → Int32) (A : Nat → Nat → Int32) (Lg : Nat → Int64), c + n = 21 → RX S A Lg P T b → (∀ (S : Nat → Int32) (A : Nat → Nat → Int32) (Lg : Nat → Int64), RX S A Lg P T b → Ev G mX9_laid 0 0 (mkW G S A Lg P T) 51 [some (.ref 1), some (.int (nI k)), some (.int (nI g)), some (.int q), some (.int (nI (x + 1))), some (.int (nI 21))] [] (QX G S A (some (.int (laO (laN (cmW b k g) y (x + 1)) q))) b)) → Ev G mX9_laid 0 0 (mkW G S A Lg P T) 62 [some (.ref 1), some (.int (nI k)), some (.int (nI g)), some (.int q), some (.int (nI x)), some (.int (nI c))] [] (QX G S A (some (.int (laO (((frN (cmW b k g x) n c).map (Prod.mk x)).or (laN (cmW b k g) y (x + 1))) q))) b) := by
  intro n
  induction n with
  | zero =>
    intro c S A Lg hc hR hout
    have e : c = 21 := by omega
    subst e
    refine e_iload dX9_laid_62 rfl ?_
    refine e_bipush (v := 20) dX9_laid_64 (by decide) ?_
    refine e_icmp_gt (tgt := 97) dX9_laid_66 rfl (fun _ => ?_) (fun h66 => absurd (by decide) h66)
    refine e_iinc (v := _ + 1) (lv' := [_, _, _, _, _, _]) dX9_laid_97 rfl (Nat.le_of_ble_eq_true rfl) rfl rfl rfl ?_
    refine e_goto (tgt := 51) dX9_laid_100 rfl ?_
    rw [nI_1]
    exact hout S A Lg hR
  | succ n ih =>
    intro c S A Lg hc hR hout
    refine e_iload dX9_laid_62 rfl ?_
    refine e_bipush (v := 20) dX9_laid_64 (by decide) ?_
    refine e_icmp_gt (tgt := 97) dX9_laid_66 rfl (fun h66 => absurd h66 (by rw [show (20 : Int32) = nI 20 from rfl]; exact nI_nlt (by omega) (by omega))) (fun _ => ?_)
    refine e_aload_n 0 dX9_laid_69 rfl rfl ?_
    refine e_iload_n 1 dX9_laid_70 rfl rfl ?_
    refine e_iload_n 2 dX9_laid_71 rfl rfl ?_
    refine e_iload dX9_laid_72 rfl ?_
    refine e_iload dX9_laid_74 rfl ?_
    refine e_callV (mc := 0) (ms := 0) (kc2 := 0) (ks2 := 0) (As := [_, _, _, _]) ok_X9_comesWith ⟨Nat.le_of_ble_eq_true rfl, Nat.le_of_ble_eq_true rfl⟩ dX9_laid_76 kl_X9_183 ki_X9_comesWith kv_X9_comesWith rfl rfl rfl rfl (Nat.le_of_ble_eq_true rfl) (Nat.le_of_ble_eq_true rfl) (sp_X9_comesWith hR hI hk hg (by omega) (by omega)) (fun v w' hw => ?_)
    obtain ⟨rfl, S1, A1, L1, rfl, hz1, hf1⟩ := hw
    have hR1 := hR.sr hf1 hz1
    refine e_if_eq (tgt := 91) dX9_laid_79 rfl (fun h79 => ?_) (fun h79 => ?_)
    · refine e_iinc (v := _ + 1) (lv' := [_, _, _, _, _, _]) dX9_laid_91 rfl (Nat.le_of_ble_eq_true rfl) rfl rfl rfl ?_
      refine e_goto (tgt := 62) dX9_laid_94 rfl ?_
      rw [nI_1, frN, if_neg (bi_0.mp h79)]
      exact e_q (ih (c + 1) S1 A1 L1 (by omega) hR1 hout) (fun v w hw => QX.tr hf1.fx hw)
    · refine e_iload dX9_laid_82 rfl ?_
      refine e_iload dX9_laid_84 rfl ?_
      refine e_iload_n 3 dX9_laid_86 rfl rfl ?_
      refine f_callSi (As := [_, _, _]) ok_X9_ofLaidRow ⟨Nat.le_of_ble_eq_true rfl, Nat.le_of_ble_eq_true rfl⟩ dX9_laid_87 kl_X9_187 ks_X9_ofLaidRow rfl rfl (Nat.le_of_ble_eq_true rfl) (Nat.le_of_ble_eq_true rfl) (Nat.zero_add _) (Nat.zero_add _) (sp_X9_ofLaidRow (by omega) (by omega)) ?_
      refine e_iret dX9_laid_90 rfl ?_
      rw [frN, if_pos (bi_1.mp h79)]
      exact ⟨S1, A1, L1, P, T, rfl, rfl, hR1, hf1.fx⟩
set_option maxRecDepth 8000 in
theorem lpo_X9_laid {G : sh_G} {P : Nat → Option Nat} {T : List sh_C} {b : sh_be} {k g : Nat} {q : Int32} (hI : IV b) (hk : k < bn b 2) (hg : g < bn b 0) : ∀ (y x : Nat) (y5 : Option Value) (S : Nat → Int32) (A : Nat → Nat → Int32) (Lg : Nat → Int64), x + y = 21 → RX S A Lg P T b → Ev G mX9_laid 0 0 (mkW G S A Lg P T) 51 [some (.ref 1), some (.int (nI k)), some (.int (nI g)), some (.int q), some (.int (nI x)), y5] [] (QX G S A (some (.int (laO (laN (cmW b k g) y x) q))) b) := by
  intro y
  induction y with
  | zero =>
    intro x y5 S A Lg hx hR
    have e : x = 21 := by omega
    subst e
    refine e_iload dX9_laid_51 rfl ?_
    refine e_bipush (v := 20) dX9_laid_53 (by decide) ?_
    refine e_icmp_gt (tgt := 103) dX9_laid_55 rfl (fun _ => ?_) (fun h55 => absurd (by decide) h55)
    refine e_bipush (v := -9) dX9_laid_103 (by decide) ?_
    refine e_iret dX9_laid_105 rfl ?_
    exact ⟨S, A, Lg, P, T, rfl, rfl, hR, FX.rf⟩
  | succ y ih =>
    intro x y5 S A Lg hx hR
    refine e_iload dX9_laid_51 rfl ?_
    refine e_bipush (v := 20) dX9_laid_53 (by decide) ?_
    refine e_icmp_gt (tgt := 103) dX9_laid_55 rfl (fun h55 => absurd h55 (by rw [show (20 : Int32) = nI 20 from rfl]; exact nI_nlt (by omega) (by omega))) (fun _ => ?_)
    refine e_iload dX9_laid_58 rfl ?_
    refine e_istore (lv' := [_, _, _, _, _, _]) dX9_laid_60 (Nat.le_of_ble_eq_true rfl) rfl rfl ?_
    exact lpi_X9_laid hI hk hg (by omega) (21 - x) x S A Lg (by omega) hR (fun S A Lg hR => ih (x + 1) _ S A Lg (by omega) hR)
set_option maxRecDepth 8000 in
theorem sp_X9_laid {G : sh_G} {S : Nat → Int32} {A : Nat → Nat → Int32} {Lg : Nat → Int64} {P : Nat → Option Nat} {T : List sh_C} {b : sh_be} {p r q : Int32} (hR : RX S A Lg P T b) (hI : IV b) : Ev G mX9_laid 0 0 (mkW G S A Lg P T) 0 [some (.ref 1), some (.int p), some (.int r), some (.int q), none, none] [] (QX G S A (some (.int (oLaid b p r q))) b) := by
  have e1 := hR.2.1
  have e3 := hR.2.2.2.1
  have e4 := hR.2.2.2.2.1
  have i1 := hI.1
  have i3 := hI.2.2.1
  have i4 := hI.2.2.2.1
  refine e_aload_n 0 dX9_laid_0 rfl rfl ?_
  refine e_getfield 2 dX9_laid_1 kf_X9_27_9 rfl rfl ?_
  refine e_iload_n 1 dX9_laid_4 rfl rfl ?_
  refine f_callVi (As := [_]) ok_X0_hasPerson ⟨Nat.le_of_ble_eq_true rfl, Nat.le_of_ble_eq_true rfl⟩ dX9_laid_5 kl_X9_107 ki_X0_hasPerson kv_X0_hasPerson rfl rfl rfl rfl (Nat.le_of_ble_eq_true rfl) (Nat.le_of_ble_eq_true rfl) (Nat.zero_add _) (Nat.zero_add _) sp_X0_hasPerson ?_
  refine e_if_eq (tgt := 32) dX9_laid_8 rfl (fun h8 => ?_) (fun h8 => ?_)
  · rw [e3] at h8
    try rw [e1] at h19
    refine e_iconst (v := -1) dX9_laid_32 rfl ?_
    refine e_iret dX9_laid_33 rfl ?_
    have ho : oLaid b p r q = -1 := by
      first
      | rw [oLaid, if_pos (Or.inl (Or.inl (bi_0.mp h8)))]
      | rw [oLaid, if_pos (Or.inl (Or.inr (bi_0.mp h19)))]
      | rw [oLaid, if_pos (Or.inr (Or.inl h24))]
      | rw [oLaid, if_pos (Or.inr (Or.inr (Int32.not_le.mp h29)))]
    rw [ho]
    exact ⟨S, A, Lg, P, T, rfl, rfl, hR, FX.rf⟩
  · refine e_aload_n 0 dX9_laid_11 rfl rfl ?_
    refine e_getfield 1 dX9_laid_12 kf_X9_20_9 rfl rfl ?_
    refine e_iload_n 2 dX9_laid_15 rfl rfl ?_
    refine f_callVi (As := [_]) ok_X1_hasRoom ⟨Nat.le_of_ble_eq_true rfl, Nat.le_of_ble_eq_true rfl⟩ dX9_laid_16 kl_X9_88 ki_X1_hasRoom kv_X1_hasRoom rfl rfl rfl rfl (Nat.le_of_ble_eq_true rfl) (Nat.le_of_ble_eq_true rfl) (Nat.zero_add _) (Nat.zero_add _) sp_X1_hasRoom ?_
    refine e_if_eq (tgt := 32) dX9_laid_19 rfl (fun h19 => ?_) (fun h19 => ?_)
    · rw [e3] at h8
      try rw [e1] at h19
      refine e_iconst (v := -1) dX9_laid_32 rfl ?_
      refine e_iret dX9_laid_33 rfl ?_
      have ho : oLaid b p r q = -1 := by
        first
        | rw [oLaid, if_pos (Or.inl (Or.inl (bi_0.mp h8)))]
        | rw [oLaid, if_pos (Or.inl (Or.inr (bi_0.mp h19)))]
        | rw [oLaid, if_pos (Or.inr (Or.inl h24))]
        | rw [oLaid, if_pos (Or.inr (Or.inr (Int32.not_le.mp h29)))]
      rw [ho]
      exact ⟨S, A, Lg, P, T, rfl, rfl, hR, FX.rf⟩
    · refine e_iload_n 3 dX9_laid_22 rfl rfl ?_
      refine e_iconst (v := -1) dX9_laid_23 rfl ?_
      refine e_icmp_lt (tgt := 32) dX9_laid_24 rfl (fun h24 => ?_) (fun h24 => ?_)
      · rw [e3] at h8
        try rw [e1] at h19
        refine e_iconst (v := -1) dX9_laid_32 rfl ?_
        refine e_iret dX9_laid_33 rfl ?_
        have ho : oLaid b p r q = -1 := by
          first
          | rw [oLaid, if_pos (Or.inl (Or.inl (bi_0.mp h8)))]
          | rw [oLaid, if_pos (Or.inl (Or.inr (bi_0.mp h19)))]
          | rw [oLaid, if_pos (Or.inr (Or.inl h24))]
          | rw [oLaid, if_pos (Or.inr (Or.inr (Int32.not_le.mp h29)))]
        rw [ho]
        exact ⟨S, A, Lg, P, T, rfl, rfl, hR, FX.rf⟩
      · refine e_iload_n 3 dX9_laid_27 rfl rfl ?_
        refine e_iconst (v := 1) dX9_laid_28 rfl ?_
        refine e_icmp_le (tgt := 34) dX9_laid_29 rfl (fun h29 => ?_) (fun h29 => ?_)
        · rw [e3] at h8
          rw [e1] at h19
          have hq : ¬ bdF b p r := fun h => h.elim (fun h => h (bi_1.mp h8)) (fun h => h (bi_1.mp h19))
          obtain ⟨k, hk, rfl⟩ := ix_of (x := p) rfl (by omega) (bi_1.mp h8)
          obtain ⟨g, hg, rfl⟩ := ix_of (x := r) rfl (by omega) (bi_1.mp h19)
          have gp := hR.per2 hk
          have ip := hI.2.2.2.2.2.1 k hk
          have hok : ¬ (bdF b (nI k) (nI g) ∨ q < -1 ∨ 1 < q) := fun h => h.elim hq (fun h => h.elim h24 (fun h => absurd h (Int32.not_lt.mpr h29)))
          have hcl := cbN_lt (ba b 7) (20 + k) (bn b 3)
          have h16 : 2 ^ bn b 3 ≤ 2 ^ 4 := Nat.pow_le_pow_right (by omega) (by omega)
          refine e_aload_n 0 dX9_laid_34 rfl rfl ?_
          refine e_getfield 2 dX9_laid_35 kf_X9_27_9 rfl rfl ?_
          refine e_iload_n 1 dX9_laid_38 rfl rfl ?_
          refine f_callVi (As := [_]) ok_X0_carriedBy ⟨Nat.le_of_ble_eq_true rfl, Nat.le_of_ble_eq_true rfl⟩ dX9_laid_39 kl_X9_116 ki_X0_carriedBy kv_X0_carriedBy rfl rfl rfl rfl (Nat.le_of_ble_eq_true rfl) (Nat.le_of_ble_eq_true rfl) (Nat.zero_add _) (Nat.zero_add _) (sp_X0_carriedBy e4 i4) ?_
          rw [cb_x hR hI (by omega) _ (Nat.le_refl _)]
          refine e_if_eq (tgt := 48) dX9_laid_42 rfl (fun h42 => ?_) (fun h42 => ?_)
          · refine e_iconst (v := 0) dX9_laid_48 rfl ?_
            refine e_istore (lv' := [_, _, _, _, _, _]) dX9_laid_49 (Nat.le_of_ble_eq_true rfl) rfl rfl ?_
            have hc0 : cbN (ba b 7) (20 + k) (bn b 3) = 0 := by rw [show (0 : Int32) = nI 0 from rfl, nI_eq (by omega) (by omega)] at h42; exact h42
            have ho : oLaid b (nI k) (nI g) q = laO (laN (cmW b k g) 21 0) q := by
              rw [oLaid, if_neg hok, nI_clamp (by omega), nI_clamp (by omega), if_neg (fun h => h hc0)]
            rw [ho]
            exact lpo_X9_laid hI hk hg 21 0 _ S A Lg rfl hR
          · refine e_bipush (v := -3) dX9_laid_45 (by decide) ?_
            refine e_iret dX9_laid_47 rfl ?_
            have ho : oLaid b (nI k) (nI g) q = -3 := by
              rw [oLaid, if_neg hok, nI_clamp (by omega), if_pos (fun e => h42 (by rw [e]; rfl))]
            rw [ho]
            exact ⟨S, A, Lg, P, T, rfl, rfl, hR, FX.rf⟩
        · rw [e3] at h8
          try rw [e1] at h19
          refine e_iconst (v := -1) dX9_laid_32 rfl ?_
          refine e_iret dX9_laid_33 rfl ?_
          have ho : oLaid b p r q = -1 := by
            first
            | rw [oLaid, if_pos (Or.inl (Or.inl (bi_0.mp h8)))]
            | rw [oLaid, if_pos (Or.inl (Or.inr (bi_0.mp h19)))]
            | rw [oLaid, if_pos (Or.inr (Or.inl h24))]
            | rw [oLaid, if_pos (Or.inr (Or.inr (Int32.not_le.mp h29)))]
          rw [ho]
          exact ⟨S, A, Lg, P, T, rfl, rfl, hR, FX.rf⟩
