def VQ (G : sh_G) (S : Nat → Int32) (A : Nat → Nat → Int32) (Lg : Nat → Int64) (P : Nat → Option Nat) (T : List sh_C) (q : bq) : Option Value → List sh_C → Prop := fun v w => v = none ∧ ∃ S' A', w = mkW G S' A' Lg P T ∧ KQ S' A' q ∧ KF S A S' A'
theorem VQ.tr {G S A Lg P T q S1 A1} (h : KF S A S1 A1) {v w} (hq : VQ G S1 A1 Lg P T q v w) : VQ G S A Lg P T q v w := by
  obtain ⟨h1, S2, A2, h2, h3, h4⟩ := hq
  exact ⟨h1, S2, A2, h2, h3, h.tr h4⟩
theorem KQ.ta {S A q} (h : KQ S A q) {x : Int32} {f : Nat → Int32} : KQ (va_up S 29 x) (va_up A 30 f) q := ⟨h.1, h.2.1, h.2.2⟩
theorem KF.ta {S A} {x : Int32} {f : Nat → Int32} : KF S A (va_up S 29 x) (va_up A 30 f) := (KF.S (by omega)).tr (KF.A (by omega))
theorem KT_S {t : tp} {m s v : Nat} {ab : Nat → Bool} {f : Nat → Int32} (hf : ∀ x, x < m → ab x = false → f x = nI (tG t x)) (hm : m ≤ 4) (hs : s < m) : ∀ x, x < m → ab x = false → upd f s (nI v) x = nI (tG (tS t s v) x) := by
  intro x hx he
  rw [tG_S (by omega) (by omega)]
  by_cases c : x = s
  · rw [c, upd_eq, if_pos rfl]
  · rw [upd_ne c, if_neg c]; exact hf x hx he
theorem one_if {q : bq} {R ab} (h : IQ R ab q) {a : Nat} : nI a = if q.1 = 0 then -9 else nI a := (if_neg (by have := h.1; omega)).symm
set_option maxRecDepth 8000 in
theorem lp4_X10_spread {G : sh_G} {Lg : Nat → Int64} {P : Nat → Option Nat} {T : List sh_C} {t : tp} {ab : Nat → Bool} {a w0 m : Nat} {sw : Nat → Nat} {b : sh_be} {q3 : bq} (hI : IV b) (ht : tV (bn b 0) ab t) (hq3 : IQ (bn b 0) ab q3) (ha : a < q3.1) (hW : tw w0 sw t 4 < 2 ^ 30) : ∀ (y d : Nat) (y4 : Option Value) (S : Nat → Int32) (A : Nat → Nat → Int32), bn b 1 - d < y → d ≤ bn b 1 → RM S A b → KP S A w0 sw m ab → KQ S A (drN b (tw w0 sw t 4) t a q3 d) → Ev G mX10_spread 0 0 (mkW G S A Lg P T) 136 [some (.ref 24), some (.int (nI a)), some (.int (nI (cM t))), some (.int (nI d)), y4] [] (VQ G S A Lg P T (drN b (tw w0 sw t 4) t a q3 (bn b 1))) := by
  have i1 := hI.1
  have i2 := hI.2.1
  have ht1 := ht.1
  intro y
  induction y with
  | zero => intro d y4 S A hy; omega
  | succ y ih =>
    intro d y4 S A hy hd hR hP hQ
    refine e_iload_n 3 dX10_spread_136 rfl rfl ?_
    refine e_aload_n 0 dX10_spread_137 rfl rfl ?_
    refine e_getfield 2 dX10_spread_138 kf_X10_111_10 rfl rfl ?_
    rw [show S 22 = nI (bn b 1) from hR.2.2.1]
    refine e_icmp_ge (tgt := 190) dX10_spread_141 rfl (fun h141 => ?_) (fun h141 => ?_)
    · exact e_vret dX10_spread_190 rfl (by
          have e : d = bn b 1 := by rw [nI_leI (by omega) (by omega)] at h141; omega
          subst e
          exact ⟨rfl, S, A, rfl, hQ, KF.rf⟩)
    · have hlt : d < bn b 1 := by rw [nI_leI (by omega) (by omega)] at h141; omega
      refine e_aload_n 0 dX10_spread_144 rfl rfl ?_
      refine e_iload_n 2 dX10_spread_145 rfl rfl ?_
      refine e_callV (mc := 0) (ms := 0) (kc2 := 0) (ks2 := 0) (As := [_]) ok_X10_takeState ⟨Nat.le_of_ble_eq_true rfl, Nat.le_of_ble_eq_true rfl⟩ dX10_spread_146 kl_X10_220 ki_X10_takeState kv_X10_takeState rfl rfl rfl rfl (Nat.le_of_ble_eq_true rfl) (Nat.le_of_ble_eq_true rfl) (sp_X10_takeState ht hI.1 hP) (fun v w' hw => ?_)
      obtain ⟨rfl, f, rfl, hf⟩ := hw
      have hP1 : KP (va_up S 29 (nI t.1)) (va_up A 30 f) w0 sw m ab := hP.fr KF.ta
      have hT1 : KT (va_up S 29 (nI t.1)) (va_up A 30 f) m ab t := ⟨rfl, hf⟩
      have hR1 : RM (va_up S 29 (nI t.1)) (va_up A 30 f) b := hR.kg (KF.ta (S := S) (A := A)).kg
      refine e_aload_n 0 dX10_spread_149 rfl rfl ?_
      refine e_iload_n 3 dX10_spread_150 rfl rfl ?_
      refine e_aload_n 0 dX10_spread_151 rfl rfl ?_
      refine e_getfield 19 dX10_spread_152 kf_X10_207_10 rfl rfl ?_
      refine e_aload_n 0 dX10_spread_155 rfl rfl ?_
      refine f_callVi (As := []) ok_X10_weightNow ⟨Nat.le_of_ble_eq_true rfl, Nat.le_of_ble_eq_true rfl⟩ dX10_spread_156 kl_X10_231 ki_X10_weightNow kv_X10_weightNow rfl rfl rfl rfl (Nat.le_of_ble_eq_true rfl) (Nat.le_of_ble_eq_true rfl) (Nat.zero_add _) (Nat.zero_add _) (sp_X10_weightNow ht hI.1 hP1 hT1) ?_
      refine f_callVi (As := [_, _, _]) ok_X10_throughTo ⟨Nat.le_of_ble_eq_true rfl, Nat.le_of_ble_eq_true rfl⟩ dX10_spread_159 kl_X10_200 ki_X10_throughTo kv_X10_throughTo rfl rfl rfl rfl (Nat.le_of_ble_eq_true rfl) (Nat.le_of_ble_eq_true rfl) (Nat.zero_add _) (Nat.zero_add _) (sp_X10_throughTo (d := d) (r := t.1) (x := tw w0 sw t 4) hR1 hI hlt (by omega) hW) ?_
      refine e_istore (lv' := [_, _, _, _, _]) dX10_spread_162 (Nat.le_of_ble_eq_true rfl) rfl rfl ?_
      refine e_iload dX10_spread_164 rfl ?_
      refine e_if_lt (tgt := 184) dX10_spread_166 rfl (fun h166 => ?_) (fun h166 => ?_)
      · have hbe : bBe b d t.1 (tw w0 sw t 4) = none := (oJ_neg (fun r hr => by have := bBe_lt hI hlt hr; omega)).mp h166
        refine e_iinc (v := _ + 1) (lv' := [_, _, _, _, _]) dX10_spread_184 rfl (Nat.le_of_ble_eq_true rfl) rfl rfl rfl ?_
        refine e_goto (tgt := 136) dX10_spread_187 rfl ?_
        rw [nI_1]
        refine e_q (ih (d + 1) _ _ _ (by omega) (by omega) hR1 hP1 ?_) (fun v w hw => VQ.tr KF.ta hw)
        rw [drN, hbe]
        exact hQ.ta
      · obtain ⟨r, hbe⟩ : ∃ r, bBe b d t.1 (tw w0 sw t 4) = some r := by
          rcases hb : bBe b d t.1 (tw w0 sw t 4) with _ | r
          · exact absurd ((oJ_neg (fun r hr => by have := bBe_lt hI hlt hr; omega)).mpr hb) h166
          · exact ⟨r, rfl⟩
        have hr := bBe_lt hI hlt hbe
        have e8 : oJ (bBe b d t.1 (tw w0 sw t 4)) = nI r := by rw [hbe]; rfl
        obtain ⟨hk, hk2⟩ := hq3.dr hI ht ha (w := tw w0 sw t 4) (d := d) hd
        refine e_aload_n 0 dX10_spread_169 rfl rfl ?_
        refine e_iload dX10_spread_170 rfl ?_
        rw [e8]
        refine e_putfield 19 dX10_spread_172 kp_X10_spread_207_10 (sh_fit_i _) rfl (Nat.le_of_ble_eq_true rfl) ?_
        refine e_w (w' := mkW G (va_up (va_up S 29 (nI t.1)) 29 (nI r)) (va_up A 30 f) Lg P T) rfl ?_
        have hP2 : KP (va_up (va_up S 29 (nI t.1)) 29 (nI r)) (va_up A 30 f) w0 sw m ab := hP1.fr (KF.S (by omega))
        have hR2 : RM (va_up (va_up S 29 (nI t.1)) 29 (nI r)) (va_up A 30 f) b := hR1.kg (KG.S (by omega))
        refine e_aload_n 0 dX10_spread_175 rfl rfl ?_
        refine e_iload_n 1 dX10_spread_176 rfl rfl ?_
        refine e_bipush (v := 20) dX10_spread_177 (by decide) ?_
        refine e_iload_n 3 dX10_spread_179 rfl rfl ?_
        refine e_iadd dX10_spread_180 ?_
        rw [add20]
        refine e_callV (mc := 0) (ms := 0) (kc2 := 0) (ks2 := 0) (As := [_, _]) ok_X10_add ⟨Nat.le_of_ble_eq_true rfl, Nat.le_of_ble_eq_true rfl⟩ dX10_spread_181 kl_X10_227 ki_X10_add kv_X10_add rfl rfl rfl rfl (Nat.le_of_ble_eq_true rfl) (Nat.le_of_ble_eq_true rfl) (sp_X10_add (t := (r, t.2)) (f := a) (s := 20 + d) (ht.ro hr) hI.1 hP2 ⟨rfl, hf⟩ ⟨hQ.1, hQ.2.1, hQ.2.2⟩ hk.2.1 (hk.new hI.1 (ht.ro hr)) (hk.len hI.1) (one_if hk) (one_if hk)) (fun v w' hw => ?_)
        obtain ⟨rfl, S2, A2, rfl, hQ2, hf2⟩ := hw
        refine e_iinc (v := _ + 1) (lv' := [_, _, _, _, _]) dX10_spread_184 rfl (Nat.le_of_ble_eq_true rfl) rfl rfl rfl ?_
        refine e_goto (tgt := 136) dX10_spread_187 rfl ?_
        rw [nI_1]
        refine e_q (ih (d + 1) _ S2 A2 (by omega) (by omega) (hR2.kg hf2.kg) (hP2.fr hf2) ?_) (fun v w hw => VQ.tr (KF.ta.tr ((KF.S (by omega)).tr hf2)) hw)
        rw [drN, hbe]
        exact hQ2
set_option maxRecDepth 8000 in
theorem lp3_X10_spread {G : sh_G} {Lg : Nat → Int64} {P : Nat → Option Nat} {T : List sh_C} {t : tp} {ab : Nat → Bool} {a w0 m : Nat} {sw : Nat → Nat} {b : sh_be} {q2 : bq} {y4 : Option Value} (hI : IV b) (ht : tV (bn b 0) ab t) (hq2 : IQ (bn b 0) ab q2) (ha : a < q2.1) (hW : tw w0 sw t 4 < 2 ^ 30) : ∀ (y s : Nat) (S : Nat → Int32) (A : Nat → Nat → Int32), m - s < y → s ≤ m → RM S A b → KP S A w0 sw m ab → KQ S A (lyN t a q2 s) → Ev G mX10_spread 0 0 (mkW G S A Lg P T) 76 [some (.ref 24), some (.int (nI a)), some (.int (nI (cM t))), some (.int (nI s)), y4] [] (VQ G S A Lg P T (drN b (tw w0 sw t 4) t a (lyN t a q2 4) (bn b 1))) := by
  have i1 := hI.1
  have i2 := hI.2.1
  have ht1 := ht.1
  intro y
  induction y with
  | zero => intro s S A hy; omega
  | succ y ih =>
    intro s S A hy hs hR hP hQ
    refine e_iload_n 3 dX10_spread_76 rfl rfl ?_
    refine e_aload_n 0 dX10_spread_77 rfl rfl ?_
    refine e_getfield 20 dX10_spread_78 kf_X10_204_10 rfl rfl ?_
    rw [hP.2.1]
    have k3 := hP.2.2.1
    refine e_icmp_ge (tgt := 134) dX10_spread_81 rfl (fun h81 => ?_) (fun h81 => ?_)
    · have e : s = m := by rw [nI_leI (by omega) (by omega)] at h81; omega
      subst e
      have e := ly_ge (t := t) (m := s) (a := a) (q := q2) (fun x h1 h2 => hP.out ht h1 h2) (n := 4 - s) (by omega)
      rw [show s + (4 - s) = 4 by omega] at e
      rw [← e] at hQ
      obtain ⟨hk, hk2⟩ := hq2.ly hI.1 ht ha (s := 4) (by omega)
      refine e_iconst (v := 0) dX10_spread_134 rfl ?_
      refine e_istore_n (lv' := [_, _, _, _, _]) 3 dX10_spread_135 rfl (Nat.le_of_ble_eq_true rfl) rfl rfl ?_
      exact lp4_X10_spread hI ht hk (Nat.lt_of_lt_of_le ha hk2.1) hW (bn b 1 + 1) 0 y4 S A (by omega) (by omega) hR hP hQ
    · have hlt : s < m := by rw [nI_leI (by omega) (by omega)] at h81; omega
      obtain ⟨h8, h7⟩ := ht.2 s (by omega)
      refine e_aload_n 0 dX10_spread_84 rfl rfl ?_
      refine e_iload_n 2 dX10_spread_85 rfl rfl ?_
      refine e_callV (mc := 0) (ms := 0) (kc2 := 0) (ks2 := 0) (As := [_]) ok_X10_takeState ⟨Nat.le_of_ble_eq_true rfl, Nat.le_of_ble_eq_true rfl⟩ dX10_spread_86 kl_X10_220 ki_X10_takeState kv_X10_takeState rfl rfl rfl rfl (Nat.le_of_ble_eq_true rfl) (Nat.le_of_ble_eq_true rfl) (sp_X10_takeState ht hI.1 hP) (fun v w' hw => ?_)
      obtain ⟨rfl, f, rfl, hf⟩ := hw
      have hP1 : KP (va_up S 29 (nI t.1)) (va_up A 30 f) w0 sw m ab := hP.fr KF.ta
      have hT1 : KT (va_up S 29 (nI t.1)) (va_up A 30 f) m ab t := ⟨rfl, hf⟩
      have hR1 : RM (va_up S 29 (nI t.1)) (va_up A 30 f) b := hR.kg (KF.ta (S := S) (A := A)).kg
      refine e_aload_n 0 dX10_spread_89 rfl rfl ?_
      refine e_getfield 23 dX10_spread_90 kf_X10_46_10 rfl rfl ?_
      refine e_iload_n 3 dX10_spread_93 rfl rfl ?_
      refine e_zald_n (s) dX10_spread_94 rfl rfl (by omega) (by decide) ?_
      refine e_if_eq (tgt := 128) dX10_spread_95 rfl (fun h95 => ?_) (fun h95 => ?_)
      · have e7 : tG t s = 7 := h7.mpr (hP1.no hlt h95)
        refine e_iinc (v := _ + 1) (lv' := [_, _, _, _, _]) dX10_spread_128 rfl (Nat.le_of_ble_eq_true rfl) rfl rfl rfl ?_
        refine e_goto (tgt := 76) dX10_spread_131 rfl ?_
        rw [nI_1]
        refine e_q (ih (s + 1) _ _ (by omega) (by omega) hR1 hP1 ?_) (fun v w hw => VQ.tr KF.ta hw)
        rw [lyN, if_neg (show ¬ _ from fun e => by omega)]
        exact hQ.ta
      · refine e_aload_n 0 dX10_spread_98 rfl rfl ?_
        refine e_getfield 21 dX10_spread_99 kf_X10_40_10 rfl rfl ?_
        refine e_iload_n 3 dX10_spread_102 rfl rfl ?_
        refine e_iald_n (s) dX10_spread_103 rfl rfl (by omega) (by decide) ?_
        refine e_bipush (v := 6) dX10_spread_104 (by decide) ?_
        rw [show (va_up A 30 f) 30 s = nI (tG t s) from hf s hlt (hP1.ye hlt h95)]
        refine e_icmp_ne (tgt := 128) dX10_spread_106 rfl (fun h106 => ?_) (fun h106 => ?_)
        · refine e_iinc (v := _ + 1) (lv' := [_, _, _, _, _]) dX10_spread_128 rfl (Nat.le_of_ble_eq_true rfl) rfl rfl rfl ?_
          refine e_goto (tgt := 76) dX10_spread_131 rfl ?_
          rw [nI_1]
          refine e_q (ih (s + 1) _ _ (by omega) (by omega) hR1 hP1 ?_) (fun v w hw => VQ.tr KF.ta hw)
          rw [lyN, if_neg (show ¬ _ from fun e => h106 (congrArg nI e))]
          exact hQ.ta
        · have h6 : tG t s = 6 := (nI_eq (by omega) (by omega)).mp h106
          obtain ⟨hk, hk2⟩ := hq2.ly hI.1 ht ha (s := s) (by omega)
          have htv : tV (bn b 0) ab (tS t s t.1) := ht.st (by omega) (by omega) (by omega)
          refine e_aload_n 0 dX10_spread_109 rfl rfl ?_
          refine e_getfield 21 dX10_spread_110 kf_X10_40_10 rfl rfl ?_
          refine e_iload_n 3 dX10_spread_113 rfl rfl ?_
          refine e_aload_n 0 dX10_spread_114 rfl rfl ?_
          refine e_getfield 19 dX10_spread_115 kf_X10_207_10 rfl rfl ?_
          refine e_iast_n (s) dX10_spread_118 rfl rfl (by omega) (by decide) ?_
          refine e_w (w' := mkW G (va_up S 29 (nI t.1)) (va_up (va_up A 30 f) 30 (upd f s (nI (t.1)))) Lg P T) rfl ?_
          have hP2 : KP (va_up S 29 (nI t.1)) (va_up (va_up A 30 f) 30 (upd f s (nI (t.1)))) w0 sw m ab := hP1.fr (KF.A (by omega))
          have hR2 : RM (va_up S 29 (nI t.1)) (va_up (va_up A 30 f) 30 (upd f s (nI (t.1)))) b := hR1.kg (KG.A (by omega))
          refine e_aload_n 0 dX10_spread_119 rfl rfl ?_
          refine e_iload_n 1 dX10_spread_120 rfl rfl ?_
          refine e_bipush (v := 10) dX10_spread_121 (by decide) ?_
          refine e_iload_n 3 dX10_spread_123 rfl rfl ?_
          refine e_iadd dX10_spread_124 ?_
          rw [tenN]
          refine e_callV (mc := 0) (ms := 0) (kc2 := 0) (ks2 := 0) (As := [_, _]) ok_X10_add ⟨Nat.le_of_ble_eq_true rfl, Nat.le_of_ble_eq_true rfl⟩ dX10_spread_125 kl_X10_227 ki_X10_add kv_X10_add rfl rfl rfl rfl (Nat.le_of_ble_eq_true rfl) (Nat.le_of_ble_eq_true rfl) (sp_X10_add (t := (tS t s t.1)) (f := a) (s := 10 + s) htv hI.1 hP2 ⟨rfl, KT_S hf k3 hlt⟩ ⟨hQ.1, hQ.2.1, hQ.2.2⟩ hk.2.1 (hk.new hI.1 htv) (hk.len hI.1) (one_if hk) (one_if hk)) (fun v w' hw => ?_)
          obtain ⟨rfl, S2, A2, rfl, hQ2, hf2⟩ := hw
          refine e_iinc (v := _ + 1) (lv' := [_, _, _, _, _]) dX10_spread_128 rfl (Nat.le_of_ble_eq_true rfl) rfl rfl rfl ?_
          refine e_goto (tgt := 76) dX10_spread_131 rfl ?_
          rw [nI_1]
          refine e_q (ih (s + 1) S2 A2 (by omega) (by omega) (hR2.kg hf2.kg) (hP2.fr hf2) ?_) (fun v w hw => VQ.tr (KF.ta.tr ((KF.A (by omega)).tr hf2)) hw)
          rw [lyN, if_pos h6]
          exact hQ2
set_option maxRecDepth 8000 in
theorem lp2_X10_spread {G : sh_G} {Lg : Nat → Int64} {P : Nat → Option Nat} {T : List sh_C} {t : tp} {ab : Nat → Bool} {a w0 m : Nat} {sw : Nat → Nat} {b : sh_be} {q : bq} {y4 : Option Value} (hI : IV b) (ht : tV (bn b 0) ab t) (hq : IQ (bn b 0) ab q) (ha : a < q.1) (hW : tw w0 sw t 4 < 2 ^ 30) : ∀ (y s : Nat) (S : Nat → Int32) (A : Nat → Nat → Int32), m - s < y → s ≤ m → RM S A b → KP S A w0 sw m ab → KQ S A (tkN t a q s) → Ev G mX10_spread 0 0 (mkW G S A Lg P T) 9 [some (.ref 24), some (.int (nI a)), some (.int (nI (cM t))), some (.int (nI s)), y4] [] (VQ G S A Lg P T (drN b (tw w0 sw t 4) t a (lyN t a (tkN t a q 4) 4) (bn b 1))) := by
  have i1 := hI.1
  have i2 := hI.2.1
  have ht1 := ht.1
  have hcl := cr_le (t := t) (n := 4)
  intro y
  induction y with
  | zero => intro s S A hy; omega
  | succ y ih =>
    intro s S A hy hs hR hP hQ
    refine e_iload_n 3 dX10_spread_9 rfl rfl ?_
    refine e_aload_n 0 dX10_spread_10 rfl rfl ?_
    refine e_getfield 20 dX10_spread_11 kf_X10_204_10 rfl rfl ?_
    rw [hP.2.1]
    have k3 := hP.2.2.1
    refine e_icmp_ge (tgt := 74) dX10_spread_14 rfl (fun h14 => ?_) (fun h14 => ?_)
    · have e : s = m := by rw [nI_leI (by omega) (by omega)] at h14; omega
      subst e
      have e := tk_ge (t := t) (m := s) (a := a) (q := q) (by omega) (fun x h1 h2 => hP.out ht h1 h2) (n := 4 - s) (by omega)
      rw [show s + (4 - s) = 4 by omega] at e
      rw [← e] at hQ
      obtain ⟨hk, hk2⟩ := hq.tk hI.1 ht ha (s := 4) (by omega)
      refine e_iconst (v := 0) dX10_spread_74 rfl ?_
      refine e_istore_n (lv' := [_, _, _, _, _]) 3 dX10_spread_75 rfl (Nat.le_of_ble_eq_true rfl) rfl rfl ?_
      exact lp3_X10_spread hI ht hk (Nat.lt_of_lt_of_le ha hk2.1) hW (s + 1) 0 S A (by omega) (by omega) hR hP hQ
    · have hlt : s < m := by rw [nI_leI (by omega) (by omega)] at h14; omega
      obtain ⟨h8, h7⟩ := ht.2 s (by omega)
      refine e_aload_n 0 dX10_spread_17 rfl rfl ?_
      refine e_iload_n 2 dX10_spread_18 rfl rfl ?_
      refine e_callV (mc := 0) (ms := 0) (kc2 := 0) (ks2 := 0) (As := [_]) ok_X10_takeState ⟨Nat.le_of_ble_eq_true rfl, Nat.le_of_ble_eq_true rfl⟩ dX10_spread_19 kl_X10_220 ki_X10_takeState kv_X10_takeState rfl rfl rfl rfl (Nat.le_of_ble_eq_true rfl) (Nat.le_of_ble_eq_true rfl) (sp_X10_takeState ht hI.1 hP) (fun v w' hw => ?_)
      obtain ⟨rfl, f, rfl, hf⟩ := hw
      have hP1 : KP (va_up S 29 (nI t.1)) (va_up A 30 f) w0 sw m ab := hP.fr KF.ta
      have hT1 : KT (va_up S 29 (nI t.1)) (va_up A 30 f) m ab t := ⟨rfl, hf⟩
      have hR1 : RM (va_up S 29 (nI t.1)) (va_up A 30 f) b := hR.kg (KF.ta (S := S) (A := A)).kg
      refine e_aload_n 0 dX10_spread_22 rfl rfl ?_
      refine e_getfield 23 dX10_spread_23 kf_X10_46_10 rfl rfl ?_
      refine e_iload_n 3 dX10_spread_26 rfl rfl ?_
      refine e_zald_n (s) dX10_spread_27 rfl rfl (by omega) (by decide) ?_
      refine e_if_eq (tgt := 68) dX10_spread_28 rfl (fun h28 => ?_) (fun h28 => ?_)
      · have e7 : tG t s = 7 := h7.mpr (hP1.no hlt h28)
        refine e_iinc (v := _ + 1) (lv' := [_, _, _, _, _]) dX10_spread_68 rfl (Nat.le_of_ble_eq_true rfl) rfl rfl rfl ?_
        refine e_goto (tgt := 9) dX10_spread_71 rfl ?_
        rw [nI_1]
        refine e_q (ih (s + 1) _ _ (by omega) (by omega) hR1 hP1 ?_) (fun v w hw => VQ.tr KF.ta hw)
        rw [tkN, if_neg (show ¬ _ from fun e => by omega)]
        exact hQ.ta
      · refine e_aload_n 0 dX10_spread_31 rfl rfl ?_
        refine e_getfield 21 dX10_spread_32 kf_X10_40_10 rfl rfl ?_
        refine e_iload_n 3 dX10_spread_35 rfl rfl ?_
        refine e_iald_n (s) dX10_spread_36 rfl rfl (by omega) (by decide) ?_
        refine e_aload_n 0 dX10_spread_37 rfl rfl ?_
        refine e_getfield 19 dX10_spread_38 kf_X10_207_10 rfl rfl ?_
        rw [show (va_up A 30 f) 30 s = nI (tG t s) from hf s hlt (hP1.ye hlt h28)]
        refine e_icmp_ne (tgt := 68) dX10_spread_41 rfl (fun h41 => ?_) (fun h41 => ?_)
        · refine e_iinc (v := _ + 1) (lv' := [_, _, _, _, _]) dX10_spread_68 rfl (Nat.le_of_ble_eq_true rfl) rfl rfl rfl ?_
          refine e_goto (tgt := 9) dX10_spread_71 rfl ?_
          rw [nI_1]
          refine e_q (ih (s + 1) _ _ (by omega) (by omega) hR1 hP1 ?_) (fun v w hw => VQ.tr KF.ta hw)
          rw [tkN, if_neg (show ¬ _ from fun e => h41 (congrArg nI e.1))]
          exact hQ.ta
        · refine e_aload_n 0 dX10_spread_44 rfl rfl ?_
          refine f_callVi (As := []) ok_X10_carriedNow ⟨Nat.le_of_ble_eq_true rfl, Nat.le_of_ble_eq_true rfl⟩ dX10_spread_45 kl_X10_224 ki_X10_carriedNow kv_X10_carriedNow rfl rfl rfl rfl (Nat.le_of_ble_eq_true rfl) (Nat.le_of_ble_eq_true rfl) (Nat.zero_add _) (Nat.zero_add _) (sp_X10_carriedNow ht hI.1 hP1 hT1) ?_
          refine e_iconst (v := 2) dX10_spread_48 rfl ?_
          refine e_icmp_ge (tgt := 68) dX10_spread_49 rfl (fun h49 => ?_) (fun h49 => ?_)
          · have hc2 : ¬ cr t 4 < 2 := by rw [show (2 : Int32) = nI 2 from rfl, nI_leI (by omega) (by omega)] at h49; omega
            refine e_iinc (v := _ + 1) (lv' := [_, _, _, _, _]) dX10_spread_68 rfl (Nat.le_of_ble_eq_true rfl) rfl rfl rfl ?_
            refine e_goto (tgt := 9) dX10_spread_71 rfl ?_
            rw [nI_1]
            refine e_q (ih (s + 1) _ _ (by omega) (by omega) hR1 hP1 ?_) (fun v w hw => VQ.tr KF.ta hw)
            rw [tkN, if_neg (show ¬ _ from fun e => hc2 e.2)]
            exact hQ.ta
          · have hc2 : cr t 4 < 2 := by rw [show (2 : Int32) = nI 2 from rfl, nI_leI (by omega) (by omega)] at h49; omega
            have h6 : tG t s = t.1 := (nI_eq (by omega) (by omega)).mp h41
            obtain ⟨hk, hk2⟩ := hq.tk hI.1 ht ha (s := s) (by omega)
            have htv : tV (bn b 0) ab (tS t s 6) := ht.st (by omega) (by omega) (by omega)
            refine e_aload_n 0 dX10_spread_52 rfl rfl ?_
            refine e_getfield 21 dX10_spread_53 kf_X10_40_10 rfl rfl ?_
            refine e_iload_n 3 dX10_spread_56 rfl rfl ?_
            refine e_bipush (v := 6) dX10_spread_57 (by decide) ?_
            refine e_iast_n (s) dX10_spread_59 rfl rfl (by omega) (by decide) ?_
            refine e_w (w' := mkW G (va_up S 29 (nI t.1)) (va_up (va_up A 30 f) 30 (upd f s (nI (6)))) Lg P T) rfl ?_
            have hP2 : KP (va_up S 29 (nI t.1)) (va_up (va_up A 30 f) 30 (upd f s (nI (6)))) w0 sw m ab := hP1.fr (KF.A (by omega))
            have hR2 : RM (va_up S 29 (nI t.1)) (va_up (va_up A 30 f) 30 (upd f s (nI (6)))) b := hR1.kg (KG.A (by omega))
            refine e_aload_n 0 dX10_spread_60 rfl rfl ?_
            refine e_iload_n 1 dX10_spread_61 rfl rfl ?_
            refine e_iconst (v := 0) dX10_spread_62 rfl ?_
            refine e_iload_n 3 dX10_spread_63 rfl rfl ?_
            refine e_iadd dX10_spread_64 ?_
            rw [Int32.zero_add]
            refine e_callV (mc := 0) (ms := 0) (kc2 := 0) (ks2 := 0) (As := [_, _]) ok_X10_add ⟨Nat.le_of_ble_eq_true rfl, Nat.le_of_ble_eq_true rfl⟩ dX10_spread_65 kl_X10_227 ki_X10_add kv_X10_add rfl rfl rfl rfl (Nat.le_of_ble_eq_true rfl) (Nat.le_of_ble_eq_true rfl) (sp_X10_add (t := (tS t s 6)) (f := a) (s := s) htv hI.1 hP2 ⟨rfl, KT_S hf k3 hlt⟩ ⟨hQ.1, hQ.2.1, hQ.2.2⟩ hk.2.1 (hk.new hI.1 htv) (hk.len hI.1) (one_if hk) (one_if hk)) (fun v w' hw => ?_)
            obtain ⟨rfl, S2, A2, rfl, hQ2, hf2⟩ := hw
            refine e_iinc (v := _ + 1) (lv' := [_, _, _, _, _]) dX10_spread_68 rfl (Nat.le_of_ble_eq_true rfl) rfl rfl rfl ?_
            refine e_goto (tgt := 9) dX10_spread_71 rfl ?_
            rw [nI_1]
            refine e_q (ih (s + 1) S2 A2 (by omega) (by omega) (hR2.kg hf2.kg) (hP2.fr hf2) ?_) (fun v w hw => VQ.tr (KF.ta.tr ((KF.A (by omega)).tr hf2)) hw)
            rw [tkN, if_pos ⟨h6, hc2⟩]
            exact hQ2
set_option maxRecDepth 4000 in
theorem sp_X10_spread {G : sh_G} {S : Nat → Int32} {A : Nat → Nat → Int32} {Lg : Nat → Int64} {P : Nat → Option Nat} {T : List sh_C} {ab : Nat → Bool} {a w0 m : Nat} {sw : Nat → Nat} {b : sh_be} {q : bq} (hI : IV b) (hR : RM S A b) (hP : KP S A w0 sw m ab) (hq : IQ (bn b 0) ab q) (ha : a < q.1) (hw0 : w0 < 1000) (hsw : ∀ s, s < 4 → sw s < 100) (hQ : KQ S A q) : Ev G mX10_spread 0 0 (mkW G S A Lg P T) 0 [some (.ref 24), some (.int (nI a)), none, none, none] [] (VQ G S A Lg P T (spq b w0 sw q a)) := by
  have hlen := hq.len hI.1
  have ht := hq.2.1 a ha
  refine e_aload_n 0 dX10_spread_0 rfl rfl ?_
  refine e_getfield 24 dX10_spread_1 kf_X10_50_10 rfl rfl ?_
  refine e_iload_n 1 dX10_spread_4 rfl rfl ?_
  refine e_iald_n (a) dX10_spread_5 rfl rfl (by omega) (by decide) ?_
  rw [(hQ.2.1 a ha).1]
  refine e_istore_n (lv' := [_, _, _, _, _]) 2 dX10_spread_6 rfl (Nat.le_of_ble_eq_true rfl) rfl rfl ?_
  refine e_iconst (v := 0) dX10_spread_7 rfl ?_
  refine e_istore_n (lv' := [_, _, _, _, _]) 3 dX10_spread_8 rfl (Nat.le_of_ble_eq_true rfl) rfl rfl ?_
  exact lp2_X10_spread hI ht hq ha (by have := tw_le (w0 := w0) (t := q.2.1 a) hsw (n := 4) (by omega); omega) (m + 1) 0 S A (by omega) (by omega) hR hP hQ

set_option maxRecDepth 8000 in
theorem lp2_X10_goTill {G : sh_G} {Lg : Nat → Int64} {P : Nat → Option Nat} {T : List sh_C} {ab : Nat → Bool} {g w0 m : Nat} {sw : Nat → Nat} {b : sh_be} {t0 : tp} (hI : IV b) (hg : g < 100) (h0 : tV (bn b 0) ab t0) (hw0 : w0 < 1000) (hsw : ∀ s, s < 4 → sw s < 100) : ∀ (y k : Nat) (S : Nat → Int32) (A : Nat → Nat → Int32), 14406 - k < y → k ≤ 14406 → RM S A b → KP S A w0 sw m ab → KQ S A (Lk b w0 sw t0 k) → (∀ i, i < k → ((Lk b w0 sw t0 k).2.1 i).1 ≠ g) → Ev G mX10_goTill 0 0 (mkW G S A Lg P T) 37 [some (.ref 24), some (.int (nI g)), some (.int (nI k))] [] (fun v w => ∃ S' A', w = mkW G S' A' Lg P T ∧ KF S A S' A' ∧ ((v = some (.int (-9)) ∧ fiN b w0 sw t0 g = none) ∨ (∃ i, v = some (.int (nI i)) ∧ fiN b w0 sw t0 g = some i ∧ i < 14406 ∧ ∀ x, x ≤ i → A' 34 x = (if x = 0 then -9 else nI ((fiQ b w0 sw t0).2.2.1 x)) ∧ A' 35 x = (if x = 0 then -9 else nI ((fiQ b w0 sw t0).2.2.2 x))))) := by
  intro y
  induction y with
  | zero => intro k S A hy; omega
  | succ y ih =>
    intro k S A hy hk hR hP hQ hno
    have hlen := (Lk_ok hI h0 (w0 := w0) (sw := sw) (k := k)).len hI.1
    refine e_iload_n 2 dX10_goTill_37 rfl rfl ?_
    refine e_aload_n 0 dX10_goTill_38 rfl rfl ?_
    refine e_getfield 28 dX10_goTill_39 kf_X10_214_10 rfl rfl ?_
    rw [hQ.1]
    refine e_icmp_ge (tgt := 71) dX10_goTill_42 rfl (fun h42 => ?_) (fun h42 => ?_)
    · refine e_bipush (v := -9) dX10_goTill_71 (by decide) ?_
      refine e_iret dX10_goTill_73 rfl ?_
      have hle : (Lk b w0 sw t0 k).1 ≤ k := by rw [nI_leI (by omega) (by omega)] at h42; exact h42
      refine ⟨S, A, rfl, KF.rf, Or.inl ⟨rfl, ?_⟩⟩
      unfold fiN
      rw [fi_stop (g := g) hk (Or.inl hle)]
      exact giN_none (fun i hi => hno i (by omega))
    · have hlt : k < (Lk b w0 sw t0 k).1 := by rw [nI_leI (by omega) (by omega)] at h42; omega
      have htk := (Lk_ok hI h0 (w0 := w0) (sw := sw) (k := k)).2.1 k hlt
      have hcl := cM_lt hI.1 htk
      refine e_aload_n 0 dX10_goTill_45 rfl rfl ?_
      refine e_getfield 24 dX10_goTill_46 kf_X10_50_10 rfl rfl ?_
      refine e_iload_n 2 dX10_goTill_49 rfl rfl ?_
      refine e_iald_n (k) dX10_goTill_50 rfl rfl (by omega) (by decide) ?_
      rw [(hQ.2.1 k hlt).1]
      refine e_bipush (v := 6) dX10_goTill_51 (by decide) ?_
      refine e_irem dX10_goTill_53 (by decide) ?_
      rw [show nI (cM ((Lk b w0 sw t0 k).2.1 k)) - nI (cM ((Lk b w0 sw t0 k).2.1 k)) / 6 * 6 = nI (cM ((Lk b w0 sw t0 k).2.1 k) % 6) from pk_rem (d := 6) (by omega) (by omega) (by omega), cM_room htk hI.1]
      refine e_iload_n 1 dX10_goTill_54 rfl rfl ?_
      refine e_icmp_ne (tgt := 60) dX10_goTill_55 rfl (fun h55 => ?_) (fun h55 => ?_)
      · refine e_aload_n 0 dX10_goTill_60 rfl rfl ?_
        refine e_iload_n 2 dX10_goTill_61 rfl rfl ?_
        refine e_callV (mc := 0) (ms := 0) (kc2 := 0) (ks2 := 0) (As := [_]) ok_X10_spread ⟨Nat.le_of_ble_eq_true rfl, Nat.le_of_ble_eq_true rfl⟩ dX10_goTill_62 kl_X10_234 ki_X10_spread kv_X10_spread rfl rfl rfl rfl (Nat.le_of_ble_eq_true rfl) (Nat.le_of_ble_eq_true rfl) (sp_X10_spread hI hR hP (Lk_ok hI h0) hlt hw0 hsw hQ) (fun v w' hw => ?_)
        obtain ⟨rfl, S1, A1, rfl, hQ1, hf1⟩ := hw
        refine e_iinc (v := _ + 1) (lv' := [_, _, _]) dX10_goTill_65 rfl (Nat.le_of_ble_eq_true rfl) rfl rfl rfl ?_
        refine e_goto (tgt := 37) dX10_goTill_68 rfl ?_
        rw [nI_1]
        refine e_q (ih (k + 1) S1 A1 (by omega) (by omega) (hR.kg hf1.kg) (hP.fr hf1) (by rw [Lk_y hlt]; exact hQ1) (fun i hi => ?_)) (fun v w hw => ?_)
        · rw [(((Lk_s hI h0).2 i (by omega))).1]
          rcases Nat.lt_or_ge i k with c | c
          · exact hno i c
          · rw [show i = k by omega]
            exact fun e => h55 (congrArg nI e)
        · obtain ⟨S2, A2, a1, a2, a3⟩ := hw
          exact ⟨S2, A2, a1, hf1.tr a2, a3⟩
      · refine e_iload_n 2 dX10_goTill_58 rfl rfl ?_
        refine e_iret dX10_goTill_59 rfl ?_
        have hgi := giN_first hno ((nI_eq (by have := htk.1; have := hI.1; omega) (by omega)).mp h55) hlt
        obtain ⟨f1, f2⟩ := fi_some hI h0 (by omega) hgi
        have hp := (fi_pre hI h0 (w0 := w0) (sw := sw) (k := k) (by omega)).2
        refine ⟨S, A, rfl, KF.rf, Or.inr ⟨k, rfl, f1, by omega, fun x hx => ?_⟩⟩
        obtain ⟨-, p2, p3⟩ := hp x (by omega)
        obtain ⟨-, q2, q3⟩ := hQ.2.1 x (by omega)
        rw [p2, p3]
        exact ⟨q2, q3⟩
set_option maxRecDepth 8000 in
theorem lp1_X10_goTill {G : sh_G} {S : Nat → Int32} {Lg : Nat → Int64} {P : Nat → Option Nat} {T : List sh_C} {ab : Nat → Bool} {g w0 m : Nat} {sw : Nat → Nat} {b : sh_be} {t0 : tp} (hI : IV b) (hg : g < 100) (h0 : tV (bn b 0) ab t0) (hw0 : w0 < 1000) (hsw : ∀ s, s < 4 → sw s < 100) : ∀ (y x : Nat) (A : Nat → Nat → Int32), 14406 - x < y → x ≤ 14406 → RM S A b → KP S A w0 sw m ab → KT S A m ab t0 → (∀ c, c < x → A 36 c = 0) → Ev G mX10_goTill 0 0 (mkW G S A Lg P T) 2 [some (.ref 24), some (.int (nI g)), some (.int (nI x))] [] (fun v w => ∃ S' A', w = mkW G S' A' Lg P T ∧ KF S A S' A' ∧ ((v = some (.int (-9)) ∧ fiN b w0 sw t0 g = none) ∨ (∃ i, v = some (.int (nI i)) ∧ fiN b w0 sw t0 g = some i ∧ i < 14406 ∧ ∀ x, x ≤ i → A' 34 x = (if x = 0 then -9 else nI ((fiQ b w0 sw t0).2.2.1 x)) ∧ A' 35 x = (if x = 0 then -9 else nI ((fiQ b w0 sw t0).2.2.2 x))))) := by
  intro y
  induction y with
  | zero => intro x A hy; omega
  | succ y ih =>
    intro x A hy hx hR hP hT hz
    refine e_iload_n 2 dX10_goTill_2 rfl rfl ?_
    refine e_sipush (v := 14406) dX10_goTill_3 (by decide) ?_
    refine e_icmp_ge (tgt := 22) dX10_goTill_6 rfl (fun h6 => ?_) (fun h6 => ?_)
    · have e : x = 14406 := by rw [show (14406 : Int32) = nI 14406 from rfl, nI_leI (by omega) (by omega)] at h6; omega
      subst e
      refine e_aload_n 0 dX10_goTill_22 rfl rfl ?_
      refine e_iconst (v := 0) dX10_goTill_23 rfl ?_
      refine e_putfield 28 dX10_goTill_24 kp_X10_goTill_214_10 (sh_fit_i _) rfl (Nat.le_of_ble_eq_true rfl) ?_
      refine e_w (w' := mkW G (va_up S 31 0) A Lg P T) rfl ?_
      have hP2 : KP (va_up S 31 0) A w0 sw m ab := hP.fr (KF.S (by omega))
      have hQ0 : KQ (va_up S 31 0) A (0, fun _ => t0, fun _ => 0, fun _ => 0) := ⟨rfl, fun i hi => absurd hi (Nat.not_lt_zero i), fun c hc => ⟨Or.inl (hz c hc), fun e => absurd ((hz c hc).symm.trans e) (by decide), fun ⟨i, hi, _⟩ => absurd hi (Nat.not_lt_zero i)⟩⟩
      refine e_aload_n 0 dX10_goTill_27 rfl rfl ?_
      refine e_bipush (v := -9) dX10_goTill_28 (by decide) ?_
      refine e_bipush (v := -9) dX10_goTill_30 (by decide) ?_
      refine e_callV (mc := 0) (ms := 0) (kc2 := 0) (ks2 := 0) (As := [_, _]) ok_X10_add ⟨Nat.le_of_ble_eq_true rfl, Nat.le_of_ble_eq_true rfl⟩ dX10_goTill_32 kl_X10_227 ki_X10_add kv_X10_add rfl rfl rfl rfl (Nat.le_of_ble_eq_true rfl) (Nat.le_of_ble_eq_true rfl) (sp_X10_add (q := (0, fun _ => t0, fun _ => 0, fun _ => 0)) (f := 0) (s := 0) h0 hI.1 hP2 ⟨hT.1, hT.2⟩ hQ0 (fun i hi => absurd hi (Nat.not_lt_zero i)) (fun _ => (show 0 < 14406 by decide)) (show 0 ≤ 14406 by decide) (if_pos rfl).symm (if_pos rfl).symm) (fun v w' hw => ?_)
      obtain ⟨rfl, S1, A1, rfl, hQ1, hf1⟩ := hw
      rw [adq_0] at hQ1
      refine e_iconst (v := 0) dX10_goTill_35 rfl ?_
      refine e_istore_n (lv' := [_, _, _]) 2 dX10_goTill_36 rfl (Nat.le_of_ble_eq_true rfl) rfl rfl ?_
      refine e_q (lp2_X10_goTill hI hg h0 hw0 hsw 14407 0 S1 A1 (by omega) (by omega) ((hR.kg (KG.S (by omega))).kg hf1.kg) (hP2.fr hf1) hQ1 (fun i hi => absurd hi (Nat.not_lt_zero i))) (fun v w hw => ?_)
      obtain ⟨S2, A2, a1, a2, a3⟩ := hw
      exact ⟨S2, A2, a1, (KF.S (by omega)).tr (hf1.tr a2), a3⟩
    · have hlt : x < 14406 := by rw [show (14406 : Int32) = nI 14406 from rfl, nI_leI (by omega) (by omega)] at h6; omega
      refine e_aload_n 0 dX10_goTill_9 rfl rfl ?_
      refine e_getfield 27 dX10_goTill_10 kf_X10_59_10 rfl rfl ?_
      refine e_iload_n 2 dX10_goTill_13 rfl rfl ?_
      refine e_iconst (v := 0) dX10_goTill_14 rfl ?_
      refine e_zast_n (x) dX10_goTill_15 rfl rfl (by omega) (by decide) rfl ?_
      refine e_w (w' := mkW G S (va_up A 36 (upd (A 36) x 0)) Lg P T) rfl ?_
      refine e_iinc (v := _ + 1) (lv' := [_, _, _]) dX10_goTill_16 rfl (Nat.le_of_ble_eq_true rfl) rfl rfl rfl ?_
      refine e_goto (tgt := 2) dX10_goTill_19 rfl ?_
      rw [nI_1]
      refine e_q (ih (x + 1) _ (by omega) (by omega) (hR.kg (KG.A (by omega))) (hP.fr (KF.A (by omega))) ⟨hT.1, hT.2⟩ (fun c hc => ?_)) (fun v w hw => ?_)
      · show upd (A 36) x 0 c = 0
        rcases Nat.lt_or_ge c x with d | d
        · rw [upd_ne (by omega)]; exact hz c d
        · rw [show c = x by omega, upd_eq]
      · obtain ⟨S2, A2, a1, a2, a3⟩ := hw
        exact ⟨S2, A2, a1, (KF.A (by omega)).tr a2, a3⟩
set_option maxRecDepth 4000 in
theorem sp_X10_goTill {G : sh_G} {S : Nat → Int32} {A : Nat → Nat → Int32} {Lg : Nat → Int64} {P : Nat → Option Nat} {T : List sh_C} {ab : Nat → Bool} {g w0 m : Nat} {sw : Nat → Nat} {b : sh_be} {t0 : tp} (hI : IV b) (hg : g < 100) (h0 : tV (bn b 0) ab t0) (hw0 : w0 < 1000) (hsw : ∀ s, s < 4 → sw s < 100) (hR : RM S A b) (hP : KP S A w0 sw m ab) (hT : KT S A m ab t0) : Ev G mX10_goTill 0 0 (mkW G S A Lg P T) 0 [some (.ref 24), some (.int (nI g)), none] [] (fun v w => ∃ S' A', w = mkW G S' A' Lg P T ∧ KF S A S' A' ∧ ((v = some (.int (-9)) ∧ fiN b w0 sw t0 g = none) ∨ (∃ i, v = some (.int (nI i)) ∧ fiN b w0 sw t0 g = some i ∧ i < 14406 ∧ ∀ x, x ≤ i → A' 34 x = (if x = 0 then -9 else nI ((fiQ b w0 sw t0).2.2.1 x)) ∧ A' 35 x = (if x = 0 then -9 else nI ((fiQ b w0 sw t0).2.2.2 x))))) := by
  refine e_iconst (v := 0) dX10_goTill_0 rfl ?_
  refine e_istore_n (lv' := [_, _, _]) 2 dX10_goTill_1 rfl (Nat.le_of_ble_eq_true rfl) rfl rfl ?_
  exact lp1_X10_goTill hI hg h0 hw0 hsw 14407 0 A (by omega) (by omega) hR hP hT (fun c hc => absurd hc (Nat.not_lt_zero c))
