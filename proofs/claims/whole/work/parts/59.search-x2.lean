def LQ (G : sh_G) (S : Nat → Int32) (A : Nat → Nat → Int32) (P : Nat → Option Nat) (T : List sh_C) (w0 : Nat) (sw : Nat → Nat) (g : Nat) (q : bq) : Option Value → List sh_C → Prop := fun v w => v = none ∧ ∃ S' A' Lg', w = mkW G S' A' Lg' P T ∧ RS S' A' Lg' w0 sw g q ∧ SF S A S' A'
theorem LQ.tr {G S A P T w0 sw g q S1 A1} (h : SF S A S1 A1) {v w} (hq : LQ G S1 A1 P T w0 sw g q v w) : LQ G S A P T w0 sw g q v w := by
  obtain ⟨h1, S2, A2, L2, h2, h3, h4⟩ := hq
  exact ⟨h1, S2, A2, L2, h2, h3, h.tr h4⟩
theorem DX.fr {S S' P T b} (h : DX S P T b) (e : S' 2 = S 2) : DX S' P T b := ⟨e.trans h.1, h.2⟩
theorem IQ.new {R ab q t} (h : IQ R ab q) (hR : R ≤ 6) (ht : tV R ab t) : ¬ inB q.2.1 t q.1 = true → q.1 < 14406 := by
  intro hn
  have h1 := (h.ad (f := 0) (s := 0) ht h.1 (by omega)).len hR
  rw [adq_n hn] at h1
  exact h1
theorem tenN (k : Nat) : (10 : Int32) + nI k = nI (10 + k) := (nI_add 10 k)
theorem addN (a c : Nat) : nI a + nI c = nI (a + c) := nI_add a c
set_option maxRecDepth 8000 in
theorem lp4_X2_leave {G : sh_G} {P : Nat → Option Nat} {T : List sh_C} {t : tp} {ab : Nat → Bool} {a g w0 : Nat} {sw : Nat → Nat} {b : sh_be} {W : Nat} {q3 : bq} (hI : IV b) (ht : tV (bn b 0) ab t) (ha4 : a < 14406) (hg : g < 100) (hq3 : IQ (bn b 0) ab q3) (ha : a < q3.1) (hW : W < 2 ^ 30) : ∀ (y d : Nat) (y8 : Option Value) (S : Nat → Int32) (A : Nat → Nat → Int32) (Lg : Nat → Int64), bn b 1 - d < y → d ≤ bn b 1 → DX S P T b → RS S A Lg w0 sw g (drN b W t a q3 d) → Ev G mX2_leaveBySteps 0 0 (mkW G S A Lg P T) 162 [some (.ref 10), some (.ref 3), some (.int (nI a)), some (.int (nI (cX t))), some (.int (nI t.1)), some (.int (nI (W))), some (.int (nI (cr t 4))), some (.int (nI d)), y8] [] (LQ G S A P T w0 sw g (drN b W t a q3 (bn b 1))) := by
  have i1 := hI.1
  have i2 := hI.2.1
  have ht1 := ht.1
  intro y
  induction y with
  | zero => intro d y8 S A Lg hy; omega
  | succ y ih =>
    intro d y8 S A Lg hy hd hD hS
    refine e_iload dX2_leaveBySteps_162 rfl ?_
    refine e_aload_n 1 dX2_leaveBySteps_164 rfl rfl ?_
    refine e_getfield 1 dX2_leaveBySteps_165 kf_X2_64_1 rfl rfl ?_
    rw [hD.1]
    refine e_icmp_ge (tgt := 219) dX2_leaveBySteps_168 rfl (fun h168 => ?_) (fun h168 => ?_)
    · exact e_vret dX2_leaveBySteps_219 rfl (by
          have e : d = bn b 1 := by rw [nI_leI (by omega) (by omega)] at h168; omega
          subst e
          exact ⟨rfl, S, A, Lg, rfl, hS, SF.rf⟩)
    · have hlt : d < bn b 1 := by rw [nI_leI (by omega) (by omega)] at h168; omega
      obtain ⟨yy, hP, hT⟩ := hD.2 d hlt
      obtain ⟨k1, k2, k3, k4, k5, k6⟩ := hI.2.2.2.2.1 d hlt
      obtain ⟨hk, hk2⟩ := hq3.dr hI ht ha (w := W) (d := d) hd
      refine e_aload_n 1 dX2_leaveBySteps_171 rfl rfl ?_
      refine e_getfield 2 dX2_leaveBySteps_172 kf_X2_69_1 rfl rfl ?_
      refine e_iload dX2_leaveBySteps_175 rfl ?_
      refine e_aald_n (d) dX2_leaveBySteps_177 rfl (Or.inl rfl) rfl (by omega) (by decide) hP ?_
      refine e_iload dX2_leaveBySteps_178 rfl ?_
      refine e_iload dX2_leaveBySteps_180 rfl ?_
      refine f_callBi (As := [_, _]) ok_X4_beyond ⟨Nat.le_of_ble_eq_true rfl, Nat.le_of_ble_eq_true rfl⟩ dX2_leaveBySteps_182 rfl kl_X2_73 ki_X4_beyond kv_X4_beyond kx_X7_X4_beyond_X4 kx_X8_X4_beyond_X4 kq_X4_X4_beyond rfl rfl (mkW_T.trans hT) k1 (Nat.le_of_ble_eq_true rfl) (Nat.le_of_ble_eq_true rfl) (sp_X4_beyond hT k1 (by omega) (by omega) (by omega) (by omega) hW) ?_
      refine e_istore (lv' := [_, _, _, _, _, _, _, _, _]) dX2_leaveBySteps_185 (Nat.le_of_ble_eq_true rfl) rfl rfl ?_
      refine e_iload dX2_leaveBySteps_187 rfl ?_
      refine e_iconst (v := -1) dX2_leaveBySteps_189 rfl ?_
      refine e_icmp_eq (tgt := 213) dX2_leaveBySteps_190 rfl (fun h190 => ?_) (fun h190 => ?_)
      · have hbe : bBe b d t.1 W = none := (oI_m1 (fun i hi => by have := bBe_lt hI hlt hi; omega)).mp h190
        refine e_iinc (v := _ + 1) (lv' := [_, _, _, _, _, _, _, _, _]) dX2_leaveBySteps_213 rfl (Nat.le_of_ble_eq_true rfl) rfl rfl rfl ?_
        refine e_goto (tgt := 162) dX2_leaveBySteps_216 rfl ?_
        rw [nI_1]
        refine ih (d + 1) _ S A Lg (by omega) (by omega) hD ?_
        rw [drN, hbe]
        exact hS
      · obtain ⟨r, hbe⟩ : ∃ r, bBe b d t.1 W = some r := by
          rcases hb : bBe b d t.1 W with _ | r
          · exact absurd (show oI (bBe b d t.1 W) = -1 by rw [hb]; rfl) h190
          · exact ⟨r, rfl⟩
        have hr := bBe_lt hI hlt hbe
        have e8 : oI (bBe b d t.1 W) = nI r := by rw [hbe]; rfl
        refine e_aload_n 0 dX2_leaveBySteps_193 rfl rfl ?_
        refine e_iload_n 3 dX2_leaveBySteps_194 rfl rfl ?_
        refine e_iload dX2_leaveBySteps_195 rfl ?_
        refine e_iload dX2_leaveBySteps_197 rfl ?_
        rw [e8]
        refine e_isub dX2_leaveBySteps_199 ?_
        refine e_bipush (v := 12) dX2_leaveBySteps_200 (by decide) ?_
        refine e_ishl dX2_leaveBySteps_202 ?_
        refine e_iadd dX2_leaveBySteps_203 ?_
        rw [mvX (by omega) (by omega)]
        refine e_iload_n 2 dX2_leaveBySteps_204 rfl rfl ?_
        refine e_bipush (v := 20) dX2_leaveBySteps_205 (by decide) ?_
        refine e_iload dX2_leaveBySteps_207 rfl ?_
        refine e_iadd dX2_leaveBySteps_209 ?_
        rw [add20]
        refine e_callV (mc := 0) (ms := 0) (kc2 := 0) (ks2 := 0) (As := [_, _, _]) ok_X2_meet ⟨Nat.le_of_ble_eq_true rfl, Nat.le_of_ble_eq_true rfl⟩ dX2_leaveBySteps_210 kl_X2_45 ki_X2_meet kv_X2_meet rfl rfl rfl rfl (Nat.le_of_ble_eq_true rfl) (Nat.le_of_ble_eq_true rfl) (sp_X2_meet (ht.ro hr) hI.1 hS hk.2.1 (hk.new hI.1 (ht.ro hr)) (hk.len hI.1) ha4 (by omega) hg) (fun v w' hw => ?_)
        obtain ⟨rfl, S1, A1, Lg1, rfl, hS1, hf1⟩ := hw
        refine e_iinc (v := _ + 1) (lv' := [_, _, _, _, _, _, _, _, _]) dX2_leaveBySteps_213 rfl (Nat.le_of_ble_eq_true rfl) rfl rfl rfl ?_
        refine e_goto (tgt := 162) dX2_leaveBySteps_216 rfl ?_
        rw [nI_1]
        refine e_q (ih (d + 1) _ S1 A1 Lg1 (by omega) (by omega) (hD.fr (hf1.1 2 (by omega) (by omega))) ?_) (fun v w hw => LQ.tr hf1 hw)
        rw [drN, hbe]
        exact hS1
set_option maxRecDepth 8000 in
theorem lp3_X2_leave {G : sh_G} {P : Nat → Option Nat} {T : List sh_C} {t : tp} {ab : Nat → Bool} {a g w0 : Nat} {sw : Nat → Nat} {b : sh_be} {W : Nat} {q2 : bq} {y8 : Option Value} (hI : IV b) (ht : tV (bn b 0) ab t) (ha4 : a < 14406) (hg : g < 100) (hq2 : IQ (bn b 0) ab q2) (ha : a < q2.1) (hW : W < 2 ^ 30) : ∀ (y s : Nat) (S : Nat → Int32) (A : Nat → Nat → Int32) (Lg : Nat → Int64), 4 - s < y → s ≤ 4 → DX S P T b → RS S A Lg w0 sw g (lyN t a q2 s) → Ev G mX2_leaveBySteps 0 0 (mkW G S A Lg P T) 113 [some (.ref 10), some (.ref 3), some (.int (nI a)), some (.int (nI (cX t))), some (.int (nI t.1)), some (.int (nI (W))), some (.int (nI (cr t 4))), some (.int (nI s)), y8] [] (LQ G S A P T w0 sw g (drN b W t a (lyN t a q2 4) (bn b 1))) := by
  have i1 := hI.1
  have i2 := hI.2.1
  have ht1 := ht.1
  have hcl := cr_le (t := t) (n := 4)
  intro y
  induction y with
  | zero => intro s S A Lg hy; omega
  | succ y ih =>
    intro s S A Lg hy hs hD hS
    refine e_iload dX2_leaveBySteps_113 rfl ?_
    refine e_iconst (v := 4) dX2_leaveBySteps_115 rfl ?_
    refine e_icmp_ge (tgt := 159) dX2_leaveBySteps_116 rfl (fun h116 => ?_) (fun h116 => ?_)
    · have e : lyN t a q2 s = lyN t a q2 4 := by
        first
        | (have e : s = 4 := by rw [show (4 : Int32) = nI 4 from rfl, nI_leI (by omega) (by omega)] at h116; omega
           rw [e])
        | (have e : cr t 4 = 0 := by
             have := cr_le (t := t) (n := 4)
             rw [show (0 : Int32) = nI 0 from rfl, nI_leI (by omega) (by omega)] at h121; omega
           rw [lyN_no e hs, lyN_no e (by omega)])
      rw [e] at hS
      obtain ⟨hk, hk2⟩ := hq2.ly hI.1 ht ha (s := 4) (by omega)
      
      refine e_iconst (v := 0) dX2_leaveBySteps_159 rfl ?_
      refine e_istore (lv' := [_, _, _, _, _, _, _, _, _]) dX2_leaveBySteps_160 (Nat.le_of_ble_eq_true rfl) rfl rfl ?_
      exact lp4_X2_leave hI ht ha4 hg hk (Nat.lt_of_lt_of_le ha hk2.1) hW (bn b 1 + 1) 0 y8 S A Lg (by omega) (by omega) hD hS
    · refine e_iload dX2_leaveBySteps_119 rfl ?_
      refine e_if_le (tgt := 159) dX2_leaveBySteps_121 rfl (fun h121 => ?_) (fun h121 => ?_)
      · have e : lyN t a q2 s = lyN t a q2 4 := by
          first
          | (have e : s = 4 := by rw [show (4 : Int32) = nI 4 from rfl, nI_leI (by omega) (by omega)] at h116; omega
             rw [e])
          | (have e : cr t 4 = 0 := by
               have := cr_le (t := t) (n := 4)
               rw [show (0 : Int32) = nI 0 from rfl, nI_leI (by omega) (by omega)] at h121; omega
             rw [lyN_no e hs, lyN_no e (by omega)])
        rw [e] at hS
        obtain ⟨hk, hk2⟩ := hq2.ly hI.1 ht ha (s := 4) (by omega)
        
        refine e_iconst (v := 0) dX2_leaveBySteps_159 rfl ?_
        refine e_istore (lv' := [_, _, _, _, _, _, _, _, _]) dX2_leaveBySteps_160 (Nat.le_of_ble_eq_true rfl) rfl rfl ?_
        exact lp4_X2_leave hI ht ha4 hg hk (Nat.lt_of_lt_of_le ha hk2.1) hW (bn b 1 + 1) 0 y8 S A Lg (by omega) (by omega) hD hS
      · have hlt : s < 4 := by rw [show (4 : Int32) = nI 4 from rfl, nI_leI (by omega) (by omega)] at h116; omega
        refine e_iload_n 3 dX2_leaveBySteps_124 rfl rfl ?_
        refine e_iload dX2_leaveBySteps_125 rfl ?_
        refine f_callSi (As := [_, _]) ok_X2_place ⟨Nat.le_of_ble_eq_true rfl, Nat.le_of_ble_eq_true rfl⟩ dX2_leaveBySteps_127 kl_X2_60 ks_X2_place rfl rfl (Nat.le_of_ble_eq_true rfl) (Nat.le_of_ble_eq_true rfl) (Nat.zero_add _) (Nat.zero_add _) (sp_X2_place ht hI.1 hlt) ?_
        refine e_bipush (v := 6) dX2_leaveBySteps_130 (by decide) ?_
        refine e_icmp_ne (tgt := 153) dX2_leaveBySteps_132 rfl (fun h132 => ?_) (fun h132 => ?_)
        · refine e_iinc (v := _ + 1) (lv' := [_, _, _, _, _, _, _, _, _]) dX2_leaveBySteps_153 rfl (Nat.le_of_ble_eq_true rfl) rfl rfl rfl ?_
          refine e_goto (tgt := 113) dX2_leaveBySteps_156 rfl ?_
          rw [nI_1]
          refine ih (s + 1) S A Lg (by omega) (by omega) hD ?_
          rw [lyN, if_neg (fun e => h132 (by rw [e]; rfl))]
          exact hS
        · have h6 : tG t s = 6 := (nI_eq (by have := (ht.2 s hlt).1; omega) (by omega)).mp h132
          obtain ⟨hk, hk2⟩ := hq2.ly hI.1 ht ha (s := s) (by omega)
          have htv : tV (bn b 0) ab (tS t s t.1) := ht.st hlt (by omega) (by omega)
          refine e_aload_n 0 dX2_leaveBySteps_135 rfl rfl ?_
          refine e_iload_n 3 dX2_leaveBySteps_136 rfl rfl ?_
          refine e_iload dX2_leaveBySteps_137 rfl ?_
          refine e_iload dX2_leaveBySteps_139 rfl ?_
          refine f_callSi (As := [_, _, _]) ok_X2_withPlace ⟨Nat.le_of_ble_eq_true rfl, Nat.le_of_ble_eq_true rfl⟩ dX2_leaveBySteps_141 kl_X2_32 ks_X2_withPlace rfl rfl (Nat.le_of_ble_eq_true rfl) (Nat.le_of_ble_eq_true rfl) (Nat.zero_add _) (Nat.zero_add _) (sp_X2_withPlace ht hI.1 hlt (by omega)) ?_
          refine e_iload_n 2 dX2_leaveBySteps_144 rfl rfl ?_
          refine e_bipush (v := 10) dX2_leaveBySteps_145 (by decide) ?_
          refine e_iload dX2_leaveBySteps_147 rfl ?_
          refine e_iadd dX2_leaveBySteps_149 ?_
          rw [tenN]
          refine e_callV (mc := 0) (ms := 0) (kc2 := 0) (ks2 := 0) (As := [_, _, _]) ok_X2_meet ⟨Nat.le_of_ble_eq_true rfl, Nat.le_of_ble_eq_true rfl⟩ dX2_leaveBySteps_150 kl_X2_45 ki_X2_meet kv_X2_meet rfl rfl rfl rfl (Nat.le_of_ble_eq_true rfl) (Nat.le_of_ble_eq_true rfl) (sp_X2_meet htv hI.1 hS hk.2.1 (hk.new hI.1 htv) (hk.len hI.1) ha4 (by omega) hg) (fun v w' hw => ?_)
          obtain ⟨rfl, S1, A1, Lg1, rfl, hS1, hf1⟩ := hw
          refine e_iinc (v := _ + 1) (lv' := [_, _, _, _, _, _, _, _, _]) dX2_leaveBySteps_153 rfl (Nat.le_of_ble_eq_true rfl) rfl rfl rfl ?_
          refine e_goto (tgt := 113) dX2_leaveBySteps_156 rfl ?_
          rw [nI_1]
          refine e_q (ih (s + 1) S1 A1 Lg1 (by omega) (by omega) (hD.fr (hf1.1 2 (by omega) (by omega))) ?_) (fun v w hw => LQ.tr hf1 hw)
          rw [lyN, if_pos h6]
          exact hS1
set_option maxRecDepth 8000 in
theorem lp2_X2_leave {G : sh_G} {P : Nat → Option Nat} {T : List sh_C} {t : tp} {ab : Nat → Bool} {a g w0 : Nat} {sw : Nat → Nat} {b : sh_be} {W : Nat} {q : bq} {y8 : Option Value} (hI : IV b) (ht : tV (bn b 0) ab t) (ha4 : a < 14406) (hg : g < 100) (hq : IQ (bn b 0) ab q) (ha : a < q.1) (hW : W < 2 ^ 30) : ∀ (y s : Nat) (S : Nat → Int32) (A : Nat → Nat → Int32) (Lg : Nat → Int64), 4 - s < y → s ≤ 4 → DX S P T b → RS S A Lg w0 sw g (tkN t a q s) → Ev G mX2_leaveBySteps 0 0 (mkW G S A Lg P T) 66 [some (.ref 10), some (.ref 3), some (.int (nI a)), some (.int (nI (cX t))), some (.int (nI t.1)), some (.int (nI (W))), some (.int (nI (cr t 4))), some (.int (nI s)), y8] [] (LQ G S A P T w0 sw g (drN b W t a (lyN t a (tkN t a q 4) 4) (bn b 1))) := by
  have i1 := hI.1
  have i2 := hI.2.1
  have ht1 := ht.1
  have hcl := cr_le (t := t) (n := 4)
  intro y
  induction y with
  | zero => intro s S A Lg hy; omega
  | succ y ih =>
    intro s S A Lg hy hs hD hS
    refine e_iload dX2_leaveBySteps_66 rfl ?_
    refine e_iconst (v := 4) dX2_leaveBySteps_68 rfl ?_
    refine e_icmp_ge (tgt := 110) dX2_leaveBySteps_69 rfl (fun h69 => ?_) (fun h69 => ?_)
    · have e : tkN t a q s = tkN t a q 4 := by
        first
        | (have e : s = 4 := by rw [show (4 : Int32) = nI 4 from rfl, nI_leI (by omega) (by omega)] at h69; omega
           rw [e])
        | (have e : ¬ cr t 4 < 2 := by
             rw [show (2 : Int32) = nI 2 from rfl, nI_leI (by omega) (by omega)] at h75; omega
           rw [tkN_no e, tkN_no e])
      rw [e] at hS
      obtain ⟨hk, hk2⟩ := hq.tk hI.1 ht ha (s := 4) (by omega)
      
      refine e_iconst (v := 0) dX2_leaveBySteps_110 rfl ?_
      refine e_istore (lv' := [_, _, _, _, _, _, _, _, _]) dX2_leaveBySteps_111 (Nat.le_of_ble_eq_true rfl) rfl rfl ?_
      exact lp3_X2_leave hI ht ha4 hg hk (Nat.lt_of_lt_of_le ha hk2.1) hW 5 0 S A Lg (by omega) (by omega) hD hS
    · refine e_iload dX2_leaveBySteps_72 rfl ?_
      refine e_iconst (v := 2) dX2_leaveBySteps_74 rfl ?_
      refine e_icmp_ge (tgt := 110) dX2_leaveBySteps_75 rfl (fun h75 => ?_) (fun h75 => ?_)
      · have e : tkN t a q s = tkN t a q 4 := by
          first
          | (have e : s = 4 := by rw [show (4 : Int32) = nI 4 from rfl, nI_leI (by omega) (by omega)] at h69; omega
             rw [e])
          | (have e : ¬ cr t 4 < 2 := by
               rw [show (2 : Int32) = nI 2 from rfl, nI_leI (by omega) (by omega)] at h75; omega
             rw [tkN_no e, tkN_no e])
        rw [e] at hS
        obtain ⟨hk, hk2⟩ := hq.tk hI.1 ht ha (s := 4) (by omega)
        
        refine e_iconst (v := 0) dX2_leaveBySteps_110 rfl ?_
        refine e_istore (lv' := [_, _, _, _, _, _, _, _, _]) dX2_leaveBySteps_111 (Nat.le_of_ble_eq_true rfl) rfl rfl ?_
        exact lp3_X2_leave hI ht ha4 hg hk (Nat.lt_of_lt_of_le ha hk2.1) hW 5 0 S A Lg (by omega) (by omega) hD hS
      · have hlt : s < 4 := by rw [show (4 : Int32) = nI 4 from rfl, nI_leI (by omega) (by omega)] at h69; omega
        have hc2 : cr t 4 < 2 := by rw [show (2 : Int32) = nI 2 from rfl, nI_leI (by omega) (by omega)] at h75; omega
        refine e_iload_n 3 dX2_leaveBySteps_78 rfl rfl ?_
        refine e_iload dX2_leaveBySteps_79 rfl ?_
        refine f_callSi (As := [_, _]) ok_X2_place ⟨Nat.le_of_ble_eq_true rfl, Nat.le_of_ble_eq_true rfl⟩ dX2_leaveBySteps_81 kl_X2_60 ks_X2_place rfl rfl (Nat.le_of_ble_eq_true rfl) (Nat.le_of_ble_eq_true rfl) (Nat.zero_add _) (Nat.zero_add _) (sp_X2_place ht hI.1 hlt) ?_
        refine e_iload dX2_leaveBySteps_84 rfl ?_
        refine e_icmp_ne (tgt := 104) dX2_leaveBySteps_86 rfl (fun h86 => ?_) (fun h86 => ?_)
        · refine e_iinc (v := _ + 1) (lv' := [_, _, _, _, _, _, _, _, _]) dX2_leaveBySteps_104 rfl (Nat.le_of_ble_eq_true rfl) rfl rfl rfl ?_
          refine e_goto (tgt := 66) dX2_leaveBySteps_107 rfl ?_
          rw [nI_1]
          refine ih (s + 1) S A Lg (by omega) (by omega) hD ?_
          rw [tkN, if_neg (fun e => h86 (by rw [e.1]))]
          exact hS
        · have h6 : tG t s = t.1 := (nI_eq (by have := (ht.2 s hlt).1; omega) (by omega)).mp h86
          obtain ⟨hk, hk2⟩ := hq.tk hI.1 ht ha (s := s) (by omega)
          have htv : tV (bn b 0) ab (tS t s 6) := ht.st hlt (by omega) (by omega)
          refine e_aload_n 0 dX2_leaveBySteps_89 rfl rfl ?_
          refine e_iload_n 3 dX2_leaveBySteps_90 rfl rfl ?_
          refine e_iload dX2_leaveBySteps_91 rfl ?_
          refine e_bipush (v := 6) dX2_leaveBySteps_93 (by decide) ?_
          refine f_callSi (As := [_, _, _]) ok_X2_withPlace ⟨Nat.le_of_ble_eq_true rfl, Nat.le_of_ble_eq_true rfl⟩ dX2_leaveBySteps_95 kl_X2_32 ks_X2_withPlace rfl rfl (Nat.le_of_ble_eq_true rfl) (Nat.le_of_ble_eq_true rfl) (Nat.zero_add _) (Nat.zero_add _) (sp_X2_withPlace (v := 6) ht hI.1 hlt (by omega)) ?_
          refine e_iload_n 2 dX2_leaveBySteps_98 rfl rfl ?_
          refine e_iload dX2_leaveBySteps_99 rfl ?_
          refine e_callV (mc := 0) (ms := 0) (kc2 := 0) (ks2 := 0) (As := [_, _, _]) ok_X2_meet ⟨Nat.le_of_ble_eq_true rfl, Nat.le_of_ble_eq_true rfl⟩ dX2_leaveBySteps_101 kl_X2_45 ki_X2_meet kv_X2_meet rfl rfl rfl rfl (Nat.le_of_ble_eq_true rfl) (Nat.le_of_ble_eq_true rfl) (sp_X2_meet htv hI.1 hS hk.2.1 (hk.new hI.1 htv) (hk.len hI.1) ha4 (by omega) hg) (fun v w' hw => ?_)
          obtain ⟨rfl, S1, A1, Lg1, rfl, hS1, hf1⟩ := hw
          refine e_iinc (v := _ + 1) (lv' := [_, _, _, _, _, _, _, _, _]) dX2_leaveBySteps_104 rfl (Nat.le_of_ble_eq_true rfl) rfl rfl rfl ?_
          refine e_goto (tgt := 66) dX2_leaveBySteps_107 rfl ?_
          rw [nI_1]
          refine e_q (ih (s + 1) S1 A1 Lg1 (by omega) (by omega) (hD.fr (hf1.1 2 (by omega) (by omega))) ?_) (fun v w hw => LQ.tr hf1 hw)
          rw [tkN, if_pos ⟨h6, hc2⟩]
          exact hS1
set_option maxRecDepth 8000 in
theorem lp1_X2_leave {G : sh_G} {S : Nat → Int32} {A : Nat → Nat → Int32} {Lg : Nat → Int64} {P : Nat → Option Nat} {T : List sh_C} {t : tp} {ab : Nat → Bool} {a g w0 : Nat} {sw : Nat → Nat} {b : sh_be} {q : bq} {y8 : Option Value} (hI : IV b) (ht : tV (bn b 0) ab t) (ha4 : a < 14406) (hg : g < 100) (hq : IQ (bn b 0) ab q) (ha : a < q.1) (hW : tw w0 sw t 4 < 2 ^ 30) (hD : DX S P T b) (hS : RS S A Lg w0 sw g q) : ∀ (y s : Nat), 4 - s < y → s ≤ 4 → Ev G mX2_leaveBySteps 0 0 (mkW G S A Lg P T) 25 [some (.ref 10), some (.ref 3), some (.int (nI a)), some (.int (nI (cX t))), some (.int (nI t.1)), some (.int (nI (tw w0 sw t s))), some (.int (nI (cr t s))), some (.int (nI s)), y8] [] (LQ G S A P T w0 sw g (drN b (tw w0 sw t 4) t a (lyN t a (tkN t a q 4) 4) (bn b 1))) := by
  have i1 := hI.1
  have i2 := hI.2.1
  have ht1 := ht.1
  intro y
  induction y with
  | zero => intro s hy; omega
  | succ y ih =>
    intro s hy hs
    refine e_iload dX2_leaveBySteps_25 rfl ?_
    refine e_iconst (v := 4) dX2_leaveBySteps_27 rfl ?_
    refine e_icmp_ge (tgt := 63) dX2_leaveBySteps_28 rfl (fun h28 => ?_) (fun h28 => ?_)
    · have e : s = 4 := by rw [show (4 : Int32) = nI 4 from rfl, nI_leI (by omega) (by omega)] at h28; omega
      subst e
      refine e_iconst (v := 0) dX2_leaveBySteps_63 rfl ?_
      refine e_istore (lv' := [_, _, _, _, _, _, _, _, _]) dX2_leaveBySteps_64 (Nat.le_of_ble_eq_true rfl) rfl rfl ?_
      exact lp2_X2_leave hI ht ha4 hg hq ha hW 5 0 S A Lg (by omega) (by omega) hD hS
    · have hlt : s < 4 := by rw [show (4 : Int32) = nI 4 from rfl, nI_leI (by omega) (by omega)] at h28; omega
      refine e_iload_n 3 dX2_leaveBySteps_31 rfl rfl ?_
      refine e_iload dX2_leaveBySteps_32 rfl ?_
      refine f_callSi (As := [_, _]) ok_X2_place ⟨Nat.le_of_ble_eq_true rfl, Nat.le_of_ble_eq_true rfl⟩ dX2_leaveBySteps_34 kl_X2_60 ks_X2_place rfl rfl (Nat.le_of_ble_eq_true rfl) (Nat.le_of_ble_eq_true rfl) (Nat.zero_add _) (Nat.zero_add _) (sp_X2_place ht hI.1 hlt) ?_
      refine e_bipush (v := 6) dX2_leaveBySteps_37 (by decide) ?_
      refine e_icmp_ne (tgt := 57) dX2_leaveBySteps_39 rfl (fun h39 => ?_) (fun h39 => ?_)
      · refine e_iinc (v := _ + 1) (lv' := [_, _, _, _, _, _, _, _, _]) dX2_leaveBySteps_57 rfl (Nat.le_of_ble_eq_true rfl) rfl rfl rfl ?_
        refine e_goto (tgt := 25) dX2_leaveBySteps_60 rfl ?_
        rw [nI_1]
        have := ih (s + 1) (by omega) (by omega)
        rw [tw, cr, if_neg (fun e => h39 (by rw [e]; rfl)), if_neg (fun e => h39 (by rw [e]; rfl))] at this
        exact this
      · have h6 : tG t s = 6 := (nI_eq (by have := (ht.2 s hlt).1; omega) (by omega)).mp h39
        refine e_iload dX2_leaveBySteps_42 rfl ?_
        refine e_aload_n 0 dX2_leaveBySteps_44 rfl rfl ?_
        refine e_getfield 3 dX2_leaveBySteps_45 kf_X2_22_2 rfl rfl ?_
        refine e_iload dX2_leaveBySteps_48 rfl ?_
        refine e_iald_n (s) dX2_leaveBySteps_50 rfl rfl (by omega) (by decide) ?_
        refine e_iadd dX2_leaveBySteps_51 ?_
        rw [hS.2.2.2.2.1 s hlt, addN]
        refine e_istore (lv' := [_, _, _, _, _, _, _, _, _]) dX2_leaveBySteps_52 (Nat.le_of_ble_eq_true rfl) rfl rfl ?_
        refine e_iinc (v := _ + 1) (lv' := [_, _, _, _, _, _, _, _, _]) dX2_leaveBySteps_54 rfl (Nat.le_of_ble_eq_true rfl) rfl rfl rfl ?_
        refine e_iinc (v := _ + 1) (lv' := [_, _, _, _, _, _, _, _, _]) dX2_leaveBySteps_57 rfl (Nat.le_of_ble_eq_true rfl) rfl rfl rfl ?_
        refine e_goto (tgt := 25) dX2_leaveBySteps_60 rfl ?_
        rw [nI_1, nI_1]
        have := ih (s + 1) (by omega) (by omega)
        rw [tw, cr, if_pos h6, if_pos h6] at this
        exact this
set_option maxRecDepth 4000 in
theorem sp_X2_leave {G : sh_G} {S : Nat → Int32} {A : Nat → Nat → Int32} {Lg : Nat → Int64} {P : Nat → Option Nat} {T : List sh_C} {ab : Nat → Bool} {a g w0 : Nat} {sw : Nat → Nat} {b : sh_be} {q : bq} (hI : IV b) (hg : g < 100) (hq : IQ (bn b 0) ab q) (ha : a < q.1) (hw0 : w0 < 1000) (hsw : ∀ s, s < 4 → sw s < 100) (hD : DX S P T b) (hS : RS S A Lg w0 sw g q) : Ev G mX2_leaveBySteps 0 0 (mkW G S A Lg P T) 0 [some (.ref 10), some (.ref 3), some (.int (nI a)), none, none, none, none, none, none] [] (LQ G S A P T w0 sw g (spq b w0 sw q a)) := by
  have hlen := hq.len hI.1
  have ht := hq.2.1 a ha
  refine e_aload_n 0 dX2_leaveBySteps_0 rfl rfl ?_
  refine e_getfield 0 dX2_leaveBySteps_1 kf_X2_11_2 rfl rfl ?_
  refine e_iload_n 2 dX2_leaveBySteps_4 rfl rfl ?_
  refine e_iald_n (a) dX2_leaveBySteps_5 rfl rfl (by omega) (by decide) ?_
  rw [(hS.2.2.2.2.2.1 a ha).1]
  refine e_istore_n (lv' := [_, _, _, _, _, _, _, _, _]) 3 dX2_leaveBySteps_6 rfl (Nat.le_of_ble_eq_true rfl) rfl rfl ?_
  refine e_iload_n 3 dX2_leaveBySteps_7 rfl rfl ?_
  refine e_bipush (v := 12) dX2_leaveBySteps_8 (by decide) ?_
  refine e_ishr dX2_leaveBySteps_10 ?_
  rw [roX ht hI.1]
  refine e_istore (lv' := [_, _, _, _, _, _, _, _, _]) dX2_leaveBySteps_11 (Nat.le_of_ble_eq_true rfl) rfl rfl ?_
  refine e_aload_n 0 dX2_leaveBySteps_13 rfl rfl ?_
  refine e_getfield 4 dX2_leaveBySteps_14 kf_X2_25_2 rfl rfl ?_
  rw [hS.2.2.2.1]
  refine e_istore (lv' := [_, _, _, _, _, _, _, _, _]) dX2_leaveBySteps_17 (Nat.le_of_ble_eq_true rfl) rfl rfl ?_
  refine e_iconst (v := 0) dX2_leaveBySteps_19 rfl ?_
  refine e_istore (lv' := [_, _, _, _, _, _, _, _, _]) dX2_leaveBySteps_20 (Nat.le_of_ble_eq_true rfl) rfl rfl ?_
  refine e_iconst (v := 0) dX2_leaveBySteps_22 rfl ?_
  refine e_istore (lv' := [_, _, _, _, _, _, _, _, _]) dX2_leaveBySteps_23 (Nat.le_of_ble_eq_true rfl) rfl rfl ?_
  exact lp1_X2_leave hI ht (by omega) hg hq ha (by have := tw_le (w0 := w0) (t := q.2.1 a) hsw (n := 4) (by omega); omega) hD hS 5 0 (by omega) (by omega)
