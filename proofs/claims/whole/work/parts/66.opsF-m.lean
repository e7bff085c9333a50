theorem QM.tr {G S A Lg P T S1 A1 v b r w} (h : FM S A S1 A1) (hq : QM G S1 A1 Lg P T v b r w) : QM G S A Lg P T v b r w := by
  obtain ⟨S2, A2, a1, a2, a3, a4⟩ := hq
  exact ⟨S2, A2, a1, a2, a3, h.tr a4⟩
def abF (t : tp) (s : Nat) : Bool := decide (tG t s = 7)
theorem abF_f {t : tp} {s : Nat} : abF t s = false ↔ tG t s ≠ 7 := by unfold abF; exact decide_eq_false_iff_not
theorem abF_t {t : tp} {s : Nat} : abF t s = true ↔ tG t s = 7 := by unfold abF; exact decide_eq_true_iff
def gwR (A : Nat → Nat → Int32) (ab : Nat → Bool) (t : tp) (sw : Nat → Nat) (n : Nat) : Prop := ∀ x, x < n → A 32 x = (if ab x = true then 0 else 1) ∧ (ab x = false → A 30 x = nI (tG t x) ∧ A 31 x = nI (sw x))
theorem gwR_s {A ab t sw s} (h : gwR A ab t sw s) {x1 x2 x3 : Int32} (h1 : x1 = (if ab s = true then 0 else 1)) (h2 : ab s = false → x2 = nI (tG t s)) (h3 : ab s = false → x3 = nI (sw s)) : gwR (va_up (va_up (va_up A 32 (upd (A 32) s x1)) 30 (upd (A 30) s x2)) 31 (upd (A 31) s x3)) ab t sw (s + 1) := by
  intro x hx
  show upd (A 32) s x1 x = _ ∧ (ab x = false → upd (A 30) s x2 x = _ ∧ upd (A 31) s x3 x = _)
  rcases Nat.lt_or_ge x s with c | c
  · rw [upd_ne (by omega), upd_ne (by omega), upd_ne (by omega)]; exact h x c
  · rw [show x = s by omega, upd_eq, upd_eq, upd_eq]
    exact ⟨h1, fun e => ⟨h2 e, h3 e⟩⟩
set_option maxRecDepth 8000 in
theorem lp2_X10_fewest {G : sh_G} {S : Nat → Int32} {Lg : Nat → Int64} {P : Nat → Option Nat} {T : List sh_C} {b : sh_be} {k g i : Nat} {q : Int32} {F St : Nat → Nat} (hF : ∀ x, 0 < x → x ≤ i → F x < x) (hi : i < 14406) (hq : -1 ≤ q) : ∀ (y n : Nat) (A : Nat → Nat → Int32), dpN F i - n < y → n ≤ dpN F i → RM S A b → (∀ x, x ≤ i → A 34 x = (if x = 0 then -9 else nI (F x)) ∧ A 35 x = (if x = 0 then -9 else nI (St x))) → (∀ x, x < n → A 37 x = nI (St (anc F i x))) → Ev G mX10_fewest 0 0 (mkW G S A Lg P T) 170 [some (.ref 24), some (.int (nI k)), some (.int (nI g)), some (.int q), some (.int (nI (anc F i n))), some (.int (nI n))] [] (QM G S A Lg P T (some (.int (pthR (some i) F St q))) b) := by
  have hle := dpN_le (F := F) (i := i)
  intro y
  induction y with
  | zero => intro n A hy; omega
  | succ y ih =>
    intro n A hy hn hR hA hrow
    obtain ⟨had, hal⟩ := anc_dp hF (k := n) hn
    refine e_aload_n 0 dX10_fewest_170 rfl rfl ?_
    refine e_getfield 25 dX10_fewest_171 kf_X10_53_10 rfl rfl ?_
    refine e_iload dX10_fewest_174 rfl ?_
    refine e_iald_n (anc F i n) dX10_fewest_176 rfl rfl (by omega) (by decide) ?_
    rw [(hA _ hal).1]
    refine e_if_lt (tgt := 209) dX10_fewest_177 rfl (fun h177 => ?_) (fun h177 => ?_)
    · have hz : anc F i n = 0 := by
        rcases Nat.eq_zero_or_pos (anc F i n) with e | e
        · exact e
        · rw [if_neg (by omega)] at h177
          exact absurd h177 (show ¬ nI (F (anc F i n)) < nI 0 from nI_nlt (by omega) (by have := hF _ e hal; omega))
      have hnd : n = dpN F i := by rw [hz, dpN_0] at had; omega
      refine e_iload_n 3 dX10_fewest_209 rfl rfl ?_
      refine e_if_ge (tgt := 218) dX10_fewest_210 rfl (fun h210 => ?_) (fun h210 => ?_)
      · have hq0 : ¬ q < 0 := Int32.not_lt.mpr h210
        have hqm : q ≠ -1 := fun e => by rw [e] at h210; exact absurd h210 (by decide)
        refine e_iload_n 3 dX10_fewest_218 rfl rfl ?_
        refine e_iload dX10_fewest_219 rfl ?_
        refine e_icmp_ge (tgt := 238) dX10_fewest_221 rfl (fun h221 => ?_) (fun h221 => ?_)
        · refine e_bipush (v := -9) dX10_fewest_238 (by decide) ?_
          refine e_iret dX10_fewest_240 rfl ?_
          refine ⟨S, A, rfl, ?_, hR, FM.rf⟩
          first
          | (have e : q = -1 := by
               rw [fa_le] at h210
               rw [fa_le] at hq
               rw [fa_eq]
               have e1 : (0 : Int32).toInt = 0 := by decide
               have e2 : (-1 : Int32).toInt = -1 := by decide
               omega
             rw [e, pthR_1, hnd])
          | (rw [pthR_n hqm, stA, if_neg (show ¬ (¬ q < 0 ∧ ¬ nI (dpN F i) ≤ q) from by rw [← hnd]; intro g; exact g.2 h221)])
        · obtain ⟨qq, hqq, rfl⟩ := ix_of (n := n) rfl (by omega) ⟨hq0, fun g => h221 g⟩
          refine e_aload_n 0 dX10_fewest_224 rfl rfl ?_
          refine e_getfield 29 dX10_fewest_225 kf_X10_62_10 rfl rfl ?_
          refine e_iload dX10_fewest_228 rfl ?_
          refine e_iconst (v := 1) dX10_fewest_230 rfl ?_
          refine e_isub dX10_fewest_231 ?_
          refine e_iload_n 3 dX10_fewest_232 rfl rfl ?_
          refine e_isub dX10_fewest_233 ?_
          rw [show nI n - 1 - nI qq = nI (n - 1 - qq) by rw [sub1 (x := n) (r := n - 1) (by omega), pk_sub (by omega)]]
          refine e_iald_n (n - 1 - qq) dX10_fewest_234 rfl rfl (by omega) (by decide) ?_
          rw [(hrow (n - 1 - qq) (by omega))]
          refine e_goto (tgt := 240) dX10_fewest_235 rfl ?_
          refine e_iret dX10_fewest_240 rfl ?_
          refine ⟨S, A, rfl, ?_, hR, FM.rf⟩
          rw [pthR_n hqm, stA, if_pos (show ¬ nI qq < 0 ∧ ¬ nI (dpN F i) ≤ nI qq from ⟨hq0, by rw [← hnd]; exact h221⟩), nI_clamp (by omega), ← hnd]
      · refine e_iload dX10_fewest_213 rfl ?_
        refine e_goto (tgt := 240) dX10_fewest_215 rfl ?_
        refine e_iret dX10_fewest_240 rfl ?_
        refine ⟨S, A, rfl, ?_, hR, FM.rf⟩
        first
        | (have e : q = -1 := by
             rw [fa_le] at h210
             rw [fa_le] at hq
             rw [fa_eq]
             have e1 : (0 : Int32).toInt = 0 := by decide
             have e2 : (-1 : Int32).toInt = -1 := by decide
             omega
           rw [e, pthR_1, hnd])
        | (rw [pthR_n hqm, stA, if_neg (show ¬ (¬ q < 0 ∧ ¬ nI (dpN F i) ≤ q) from by rw [← hnd]; intro g; exact g.2 h221)])
    · have hnz : anc F i n ≠ 0 := fun e => h177 (by rw [if_pos e]; decide)
      have hnd : n < dpN F i := by
        rcases Nat.lt_or_ge n (dpN F i) with c | c
        · exact c
        · have h0 := dpN_s (F := F) (i := anc F i n) (fun x a c => hF x a (by omega)) (by omega)
          omega
      refine e_aload_n 0 dX10_fewest_180 rfl rfl ?_
      refine e_getfield 29 dX10_fewest_181 kf_X10_62_10 rfl rfl ?_
      refine e_iload dX10_fewest_184 rfl ?_
      refine e_aload_n 0 dX10_fewest_186 rfl rfl ?_
      refine e_getfield 26 dX10_fewest_187 kf_X10_56_10 rfl rfl ?_
      refine e_iload dX10_fewest_190 rfl ?_
      refine e_iald_n (anc F i n) dX10_fewest_192 rfl rfl (by omega) (by decide) ?_
      rw [(hA _ hal).2, if_neg hnz]
      refine e_iast_n (n) dX10_fewest_193 rfl rfl (by omega) (by decide) ?_
      refine e_w (w' := mkW G S (va_up A 37 (upd (A 37) n (nI (St (anc F i n))))) Lg P T) rfl ?_
      refine e_aload_n 0 dX10_fewest_194 rfl rfl ?_
      refine e_getfield 25 dX10_fewest_195 kf_X10_53_10 rfl rfl ?_
      refine e_iload dX10_fewest_198 rfl ?_
      refine e_iald_n (anc F i n) dX10_fewest_200 rfl rfl (by omega) (by decide) ?_
      rw [show (va_up A 37 (upd (A 37) n (nI (St (anc F i n))))) 34 (anc F i n) = nI (F (anc F i n)) from (hA _ hal).1.trans (if_neg hnz)]
      refine e_istore (lv' := [_, _, _, _, _, _]) dX10_fewest_201 (Nat.le_of_ble_eq_true rfl) rfl rfl ?_
      refine e_iinc (v := _ + 1) (lv' := [_, _, _, _, _, _]) dX10_fewest_203 rfl (Nat.le_of_ble_eq_true rfl) rfl rfl rfl ?_
      refine e_goto (tgt := 170) dX10_fewest_206 rfl ?_
      rw [nI_1]
      refine e_q (ih (n + 1) _ (by omega) (by omega) (hR.kg (KG.A (by omega))) (fun x hx => hA x hx) (fun x hx => ?_)) (fun v w hw => QM.tr (KG.fm (KG.A (by omega))) hw)
      show upd (A 37) n _ x = _
      rcases Nat.lt_or_ge x n with c | c
      · rw [upd_ne (by omega)]; exact hrow x c
      · rw [show x = n by omega, upd_eq]
set_option maxRecDepth 8000 in
theorem lp_X10_fewest {G : sh_G} {S : Nat → Int32} {Lg : Nat → Int64} {P : Nat → Option Nat} {T : List sh_C} {b : sh_be} {k g : Nat} {q : Int32} (hI : IV b) (hk : k < bn b 2) (hg : g < bn b 0) (hq : -1 ≤ q) (h28 : S 28 = nI (ba b 4 k)) (h29 : S 29 = nI (ba b 5 k)) (h30 : S 30 = nI (bn b 3)) : ∀ (y s : Nat) (A : Nat → Nat → Int32), bn b 3 - s < y → s ≤ bn b 3 → RM S A b → gwR A (abF (stF b k (bn b 3))) (stF b k (bn b 3)) (swF b k (bn b 3)) s → Ev G mX10_fewest 0 0 (mkW G S A Lg P T) 54 [some (.ref 24), some (.int (nI k)), some (.int (nI g)), some (.int q), some (.int (nI s)), none] [] (QM G S A Lg P T (some (.int (fwF b k g q))) b) := by
  have i1 := hI.1
  have i3 := hI.2.2.1
  have i4 := hI.2.2.2.1
  have ip := hI.2.2.2.2.2.1 k hk
  intro y
  induction y with
  | zero => intro s A hy; omega
  | succ y ih =>
    intro s A hy hs hR hG
    refine e_iload dX10_fewest_54 rfl ?_
    refine e_aload_n 0 dX10_fewest_56 rfl rfl ?_
    refine e_getfield 15 dX10_fewest_57 kf_X10_148_10 rfl rfl ?_
    rw [show S 27 = nI (bn b 3) from hR.2.2.2.2.1]
    refine e_icmp_ge (tgt := 152) dX10_fewest_60 rfl (fun h60 => ?_) (fun h60 => ?_)
    · have e : s = bn b 3 := by rw [nI_leI (by omega) (by omega)] at h60; omega
      subst e
      have hP : KP S A (ba b 4 k) (swF b k (bn b 3)) (bn b 3) (abF (stF b k (bn b 3))) := ⟨h28, h30, i4, fun x hx => (hG x hx).1, fun x hx he => ((hG x hx).2 he).2, fun x hx hm => by rw [abF_t, tG_stF hx i4, if_neg (by omega)]⟩
      have hT : KT S A (bn b 3) (abF (stF b k (bn b 3))) (stF b k (bn b 3)) := ⟨by rw [stF_r]; exact h29, fun x hx he => ((hG x hx).2 he).1⟩
      refine e_aload_n 0 dX10_fewest_152 rfl rfl ?_
      refine e_iload_n 2 dX10_fewest_153 rfl rfl ?_
      refine e_callV (mc := 0) (ms := 0) (kc2 := 0) (ks2 := 0) (As := [_]) ok_X10_goTill ⟨Nat.le_of_ble_eq_true rfl, Nat.le_of_ble_eq_true rfl⟩ dX10_fewest_154 kl_X10_237 ki_X10_goTill kv_X10_goTill rfl rfl rfl rfl (Nat.le_of_ble_eq_true rfl) (Nat.le_of_ble_eq_true rfl) (sp_X10_goTill (sw := swF b k (bn b 3)) hI (by omega) (stF_tV hI hk (Nat.le_refl _)) (by omega) (fun s hs => swF_lt hI (Nat.le_refl _)) hR hP hT) (fun v w' hw => ?_)
      obtain ⟨S2, A2, rfl, hf2, hfi⟩ := hw
      rcases hfi with ⟨rfl, hn⟩ | ⟨i, rfl, hi1, hi2, hi3⟩
      · refine e_istore (lv' := [_, _, _, _, _, _]) dX10_fewest_157 (Nat.le_of_ble_eq_true rfl) rfl rfl ?_
        refine e_iload dX10_fewest_159 rfl ?_
        refine e_if_ge (tgt := 167) dX10_fewest_161 rfl (fun h161 => absurd h161 (by decide)) (fun _ => ?_)
        refine e_bipush (v := -9) dX10_fewest_164 (by decide) ?_
        refine e_iret dX10_fewest_166 rfl ?_
        exact ⟨S2, A2, rfl, by unfold fwF; rw [hn]; rfl, hR.kg hf2.kg, hf2.kg.fm⟩
      · obtain ⟨p1, p2, p3⟩ := fi_path hI (stF_tV hI hk (Nat.le_refl _)) hi1
        refine e_istore (lv' := [_, _, _, _, _, _]) dX10_fewest_157 (Nat.le_of_ble_eq_true rfl) rfl rfl ?_
        refine e_iload dX10_fewest_159 rfl ?_
        refine e_if_ge (tgt := 167) dX10_fewest_161 rfl (fun _ => ?_) (fun h161 => absurd (by rw [show (0 : Int32) = nI 0 from rfl, nI_leI (by omega) (by omega)]; omega) h161)
        refine e_iconst (v := 0) dX10_fewest_167 rfl ?_
        refine e_istore (lv' := [_, _, _, _, _, _]) dX10_fewest_168 (Nat.le_of_ble_eq_true rfl) rfl rfl ?_
        unfold fwF
        rw [hi1]
        exact e_q (lp2_X10_fewest p1 hi2 hq (dpN (fiQ b (ba b 4 k) (swF b k (bn b 3)) (stF b k (bn b 3))).2.2.1 i + 1) 0 A2 (by omega) (by omega) (hR.kg hf2.kg) hi3 (fun x hx => absurd hx (Nat.not_lt_zero x))) (fun v w hw => QM.tr hf2.kg.fm hw)
    · have hlt : s < bn b 3 := by rw [nI_leI (by omega) (by omega)] at h60; omega
      obtain ⟨a1, a2, a3, a4, a5⟩ := hR.st hI hlt
      have hIs := (hI.2.2.2.2.2.2.1 s hlt).2.2
      have htp : tG (stF b k (bn b 3)) s = plF (ba b 7 s) k := by rw [tG_stF (by omega) (by omega), if_pos hlt]
      rcases Nat.lt_or_ge (ba b 7 s) 20 with c | c
      · have hlt20 : nI (ba b 7 s) < 20 := by rw [show (20 : Int32) = nI 20 from rfl, nI_ltI (by omega) (by omega)]; omega
        have hge20 : ¬ 20 ≤ nI (ba b 7 s) := by rw [show (20 : Int32) = nI 20 from rfl, nI_leI (by omega) (by omega)]; omega
        have hpl : plF (ba b 7 s) k = ba b 7 s := plF_r c
        refine e_aload_n 0 dX10_fewest_63 rfl rfl ?_
        refine e_getfield 23 dX10_fewest_64 kf_X10_46_10 rfl rfl ?_
        refine e_iload dX10_fewest_67 rfl ?_
        refine e_aload_n 0 dX10_fewest_69 rfl rfl ?_
        refine e_getfield 17 dX10_fewest_70 kf_X10_37_10 rfl rfl ?_
        refine e_iload dX10_fewest_73 rfl ?_
        refine e_iald_n (s) dX10_fewest_75 rfl rfl (by omega) (by decide) ?_
        rw [a2]
        refine e_bipush (v := 20) dX10_fewest_76 (by decide) ?_
        refine e_icmp_lt (tgt := 95) dX10_fewest_78 rfl (fun _ => ?_) (fun h78 => absurd hlt20 h78)
        refine e_iconst (v := 1) dX10_fewest_95 rfl ?_
        refine e_goto (tgt := 100) dX10_fewest_96 rfl ?_
        refine e_zast_n (s) dX10_fewest_100 rfl rfl (by omega) (by decide) rfl ?_
        refine e_w (w' := mkW G S (va_up A 32 (upd (A 32) s 1)) Lg P T) rfl ?_
        refine e_aload_n 0 dX10_fewest_101 rfl rfl ?_
        refine e_getfield 21 dX10_fewest_102 kf_X10_40_10 rfl rfl ?_
        refine e_iload dX10_fewest_105 rfl ?_
        refine e_aload_n 0 dX10_fewest_107 rfl rfl ?_
        refine e_getfield 17 dX10_fewest_108 kf_X10_37_10 rfl rfl ?_
        refine e_iload dX10_fewest_111 rfl ?_
        refine e_iald_n (s) dX10_fewest_113 rfl rfl (by omega) (by decide) ?_
        rw [show (va_up A 32 (upd (A 32) s 1)) 29 s = nI (ba b 7 s) from a2]
        refine e_bipush (v := 20) dX10_fewest_114 (by decide) ?_
        refine e_icmp_ge (tgt := 129) dX10_fewest_116 rfl (fun h116 => absurd h116 hge20) (fun _ => ?_)
        refine e_aload_n 0 dX10_fewest_119 rfl rfl ?_
        refine e_getfield 17 dX10_fewest_120 kf_X10_37_10 rfl rfl ?_
        refine e_iload dX10_fewest_123 rfl ?_
        refine e_iald_n (s) dX10_fewest_125 rfl rfl (by omega) (by decide) ?_
        rw [show (va_up A 32 (upd (A 32) s 1)) 29 s = nI (ba b 7 s) from a2]
        refine e_goto (tgt := 131) dX10_fewest_126 rfl ?_
        refine e_iast_n (s) dX10_fewest_131 rfl rfl (by omega) (by decide) ?_
        refine e_w (w' := mkW G S (va_up (va_up A 32 (upd (A 32) s 1)) 30 (upd (A 30) s (nI (ba b 7 s)))) Lg P T) rfl ?_
        refine e_aload_n 0 dX10_fewest_132 rfl rfl ?_
        refine e_getfield 22 dX10_fewest_133 kf_X10_43_10 rfl rfl ?_
        refine e_iload dX10_fewest_136 rfl ?_
        refine e_aload_n 0 dX10_fewest_138 rfl rfl ?_
        refine e_getfield 16 dX10_fewest_139 kf_X10_34_10 rfl rfl ?_
        refine e_iload dX10_fewest_142 rfl ?_
        refine e_iald_n (s) dX10_fewest_144 rfl rfl (by omega) (by decide) ?_
        rw [show (va_up (va_up A 32 (upd (A 32) s 1)) 30 (upd (A 30) s (nI (ba b 7 s)))) 28 s = nI (ba b 6 s) from a1]
        refine e_iast_n (s) dX10_fewest_145 rfl rfl (by omega) (by decide) ?_
        refine e_w (w' := mkW G S (va_up (va_up (va_up A 32 (upd (A 32) s 1)) 30 (upd (A 30) s (nI (ba b 7 s)))) 31 (upd (A 31) s (nI (ba b 6 s)))) Lg P T) rfl ?_
        refine e_iinc (v := _ + 1) (lv' := [_, _, _, _, _, _]) dX10_fewest_146 rfl (Nat.le_of_ble_eq_true rfl) rfl rfl rfl ?_
        refine e_goto (tgt := 54) dX10_fewest_149 rfl ?_
        rw [nI_1]
        refine e_q (ih (s + 1) _ (by omega) (by omega) (hR.kg ((KG.A (by omega)).tr ((KG.A (by omega)).tr (KG.A (by omega))))) (gwR_s hG ?_ ?_ ?_)) (fun v w hw => QM.tr (KG.fm ((KG.A (by omega)).tr ((KG.A (by omega)).tr (KG.A (by omega))))) hw)
        · rw [if_neg (fun e => by rw [abF_t, htp, hpl] at e; omega)]
        · exact fun _ => by rw [htp, hpl]
        · exact fun _ => by rw [swF, if_pos ⟨hlt, by rw [hpl]; omega⟩]
      · by_cases d : ba b 7 s = 20 + k
        · have hlt20 : ¬ nI (ba b 7 s) < 20 := by rw [show (20 : Int32) = nI 20 from rfl, nI_ltI (by omega) (by omega)]; omega
          have hge20 : 20 ≤ nI (ba b 7 s) := by rw [show (20 : Int32) = nI 20 from rfl, nI_leI (by omega) (by omega)]; omega
          have hne : ¬ nI (ba b 7 s) ≠ nI (20 + k) := fun n => n (congrArg nI d)
          have hpl : plF (ba b 7 s) k = 6 := by rw [d]; exact plF_c
          refine e_aload_n 0 dX10_fewest_63 rfl rfl ?_
          refine e_getfield 23 dX10_fewest_64 kf_X10_46_10 rfl rfl ?_
          refine e_iload dX10_fewest_67 rfl ?_
          refine e_aload_n 0 dX10_fewest_69 rfl rfl ?_
          refine e_getfield 17 dX10_fewest_70 kf_X10_37_10 rfl rfl ?_
          refine e_iload dX10_fewest_73 rfl ?_
          refine e_iald_n (s) dX10_fewest_75 rfl rfl (by omega) (by decide) ?_
          rw [a2]
          refine e_bipush (v := 20) dX10_fewest_76 (by decide) ?_
          refine e_icmp_lt (tgt := 95) dX10_fewest_78 rfl (fun h78 => absurd h78 hlt20) (fun _ => ?_)
          refine e_aload_n 0 dX10_fewest_81 rfl rfl ?_
          refine e_getfield 17 dX10_fewest_82 kf_X10_37_10 rfl rfl ?_
          refine e_iload dX10_fewest_85 rfl ?_
          refine e_iald_n (s) dX10_fewest_87 rfl rfl (by omega) (by decide) ?_
          rw [a2]
          refine e_bipush (v := 20) dX10_fewest_88 (by decide) ?_
          refine e_iload_n 1 dX10_fewest_90 rfl rfl ?_
          refine e_iadd dX10_fewest_91 ?_
          rw [add20]
          refine e_icmp_ne (tgt := 99) dX10_fewest_92 rfl (fun h92 => absurd h92 hne) (fun _ => ?_)
          refine e_iconst (v := 1) dX10_fewest_95 rfl ?_
          refine e_goto (tgt := 100) dX10_fewest_96 rfl ?_
          refine e_zast_n (s) dX10_fewest_100 rfl rfl (by omega) (by decide) rfl ?_
          refine e_w (w' := mkW G S (va_up A 32 (upd (A 32) s 1)) Lg P T) rfl ?_
          refine e_aload_n 0 dX10_fewest_101 rfl rfl ?_
          refine e_getfield 21 dX10_fewest_102 kf_X10_40_10 rfl rfl ?_
          refine e_iload dX10_fewest_105 rfl ?_
          refine e_aload_n 0 dX10_fewest_107 rfl rfl ?_
          refine e_getfield 17 dX10_fewest_108 kf_X10_37_10 rfl rfl ?_
          refine e_iload dX10_fewest_111 rfl ?_
          refine e_iald_n (s) dX10_fewest_113 rfl rfl (by omega) (by decide) ?_
          rw [show (va_up A 32 (upd (A 32) s 1)) 29 s = nI (ba b 7 s) from a2]
          refine e_bipush (v := 20) dX10_fewest_114 (by decide) ?_
          refine e_icmp_ge (tgt := 129) dX10_fewest_116 rfl (fun _ => ?_) (fun h116 => absurd hge20 h116)
          refine e_bipush (v := 6) dX10_fewest_129 (by decide) ?_
          refine e_iast_n (s) dX10_fewest_131 rfl rfl (by omega) (by decide) ?_
          refine e_w (w' := mkW G S (va_up (va_up A 32 (upd (A 32) s 1)) 30 (upd (A 30) s 6)) Lg P T) rfl ?_
          refine e_aload_n 0 dX10_fewest_132 rfl rfl ?_
          refine e_getfield 22 dX10_fewest_133 kf_X10_43_10 rfl rfl ?_
          refine e_iload dX10_fewest_136 rfl ?_
          refine e_aload_n 0 dX10_fewest_138 rfl rfl ?_
          refine e_getfield 16 dX10_fewest_139 kf_X10_34_10 rfl rfl ?_
          refine e_iload dX10_fewest_142 rfl ?_
          refine e_iald_n (s) dX10_fewest_144 rfl rfl (by omega) (by decide) ?_
          rw [show (va_up (va_up A 32 (upd (A 32) s 1)) 30 (upd (A 30) s 6)) 28 s = nI (ba b 6 s) from a1]
          refine e_iast_n (s) dX10_fewest_145 rfl rfl (by omega) (by decide) ?_
          refine e_w (w' := mkW G S (va_up (va_up (va_up A 32 (upd (A 32) s 1)) 30 (upd (A 30) s 6)) 31 (upd (A 31) s (nI (ba b 6 s)))) Lg P T) rfl ?_
          refine e_iinc (v := _ + 1) (lv' := [_, _, _, _, _, _]) dX10_fewest_146 rfl (Nat.le_of_ble_eq_true rfl) rfl rfl rfl ?_
          refine e_goto (tgt := 54) dX10_fewest_149 rfl ?_
          rw [nI_1]
          refine e_q (ih (s + 1) _ (by omega) (by omega) (hR.kg ((KG.A (by omega)).tr ((KG.A (by omega)).tr (KG.A (by omega))))) (gwR_s hG ?_ ?_ ?_)) (fun v w hw => QM.tr (KG.fm ((KG.A (by omega)).tr ((KG.A (by omega)).tr (KG.A (by omega))))) hw)
          · rw [if_neg (fun e => by rw [abF_t, htp, hpl] at e; omega)]
          · exact fun _ => by rw [htp, hpl]; rfl
          · exact fun _ => by rw [swF, if_pos ⟨hlt, by rw [hpl]; omega⟩]
        · have hlt20 : ¬ nI (ba b 7 s) < 20 := by rw [show (20 : Int32) = nI 20 from rfl, nI_ltI (by omega) (by omega)]; omega
          have hge20 : 20 ≤ nI (ba b 7 s) := by rw [show (20 : Int32) = nI 20 from rfl, nI_leI (by omega) (by omega)]; omega
          have hne : ¬ nI (ba b 7 s) = nI (20 + k) := fun e => d ((nI_eq (by omega) (by omega)).mp e)
          have hpl : plF (ba b 7 s) k = 7 := plF_o (by omega) d
          have hab : abF (stF b k (bn b 3)) s = true := by rw [abF_t, htp, hpl]
          refine e_aload_n 0 dX10_fewest_63 rfl rfl ?_
          refine e_getfield 23 dX10_fewest_64 kf_X10_46_10 rfl rfl ?_
          refine e_iload dX10_fewest_67 rfl ?_
          refine e_aload_n 0 dX10_fewest_69 rfl rfl ?_
          refine e_getfield 17 dX10_fewest_70 kf_X10_37_10 rfl rfl ?_
          refine e_iload dX10_fewest_73 rfl ?_
          refine e_iald_n (s) dX10_fewest_75 rfl rfl (by omega) (by decide) ?_
          rw [a2]
          refine e_bipush (v := 20) dX10_fewest_76 (by decide) ?_
          refine e_icmp_lt (tgt := 95) dX10_fewest_78 rfl (fun h78 => absurd h78 hlt20) (fun _ => ?_)
          refine e_aload_n 0 dX10_fewest_81 rfl rfl ?_
          refine e_getfield 17 dX10_fewest_82 kf_X10_37_10 rfl rfl ?_
          refine e_iload dX10_fewest_85 rfl ?_
          refine e_iald_n (s) dX10_fewest_87 rfl rfl (by omega) (by decide) ?_
          rw [a2]
          refine e_bipush (v := 20) dX10_fewest_88 (by decide) ?_
          refine e_iload_n 1 dX10_fewest_90 rfl rfl ?_
          refine e_iadd dX10_fewest_91 ?_
          rw [add20]
          refine e_icmp_ne (tgt := 99) dX10_fewest_92 rfl (fun _ => ?_) (fun h92 => absurd h92 hne)
          refine e_iconst (v := 0) dX10_fewest_99 rfl ?_
          refine e_zast_n (s) dX10_fewest_100 rfl rfl (by omega) (by decide) rfl ?_
          refine e_w (w' := mkW G S (va_up A 32 (upd (A 32) s 0)) Lg P T) rfl ?_
          refine e_aload_n 0 dX10_fewest_101 rfl rfl ?_
          refine e_getfield 21 dX10_fewest_102 kf_X10_40_10 rfl rfl ?_
          refine e_iload dX10_fewest_105 rfl ?_
          refine e_aload_n 0 dX10_fewest_107 rfl rfl ?_
          refine e_getfield 17 dX10_fewest_108 kf_X10_37_10 rfl rfl ?_
          refine e_iload dX10_fewest_111 rfl ?_
          refine e_iald_n (s) dX10_fewest_113 rfl rfl (by omega) (by decide) ?_
          rw [show (va_up A 32 (upd (A 32) s 0)) 29 s = nI (ba b 7 s) from a2]
          refine e_bipush (v := 20) dX10_fewest_114 (by decide) ?_
          refine e_icmp_ge (tgt := 129) dX10_fewest_116 rfl (fun _ => ?_) (fun h116 => absurd hge20 h116)
          refine e_bipush (v := 6) dX10_fewest_129 (by decide) ?_
          refine e_iast_n (s) dX10_fewest_131 rfl rfl (by omega) (by decide) ?_
          refine e_w (w' := mkW G S (va_up (va_up A 32 (upd (A 32) s 0)) 30 (upd (A 30) s 6)) Lg P T) rfl ?_
          refine e_aload_n 0 dX10_fewest_132 rfl rfl ?_
          refine e_getfield 22 dX10_fewest_133 kf_X10_43_10 rfl rfl ?_
          refine e_iload dX10_fewest_136 rfl ?_
          refine e_aload_n 0 dX10_fewest_138 rfl rfl ?_
          refine e_getfield 16 dX10_fewest_139 kf_X10_34_10 rfl rfl ?_
          refine e_iload dX10_fewest_142 rfl ?_
          refine e_iald_n (s) dX10_fewest_144 rfl rfl (by omega) (by decide) ?_
          rw [show (va_up (va_up A 32 (upd (A 32) s 0)) 30 (upd (A 30) s 6)) 28 s = nI (ba b 6 s) from a1]
          refine e_iast_n (s) dX10_fewest_145 rfl rfl (by omega) (by decide) ?_
          refine e_w (w' := mkW G S (va_up (va_up (va_up A 32 (upd (A 32) s 0)) 30 (upd (A 30) s 6)) 31 (upd (A 31) s (nI (ba b 6 s)))) Lg P T) rfl ?_
          refine e_iinc (v := _ + 1) (lv' := [_, _, _, _, _, _]) dX10_fewest_146 rfl (Nat.le_of_ble_eq_true rfl) rfl rfl rfl ?_
          refine e_goto (tgt := 54) dX10_fewest_149 rfl ?_
          rw [nI_1]
          refine e_q (ih (s + 1) _ (by omega) (by omega) (hR.kg ((KG.A (by omega)).tr ((KG.A (by omega)).tr (KG.A (by omega))))) (gwR_s hG ?_ ?_ ?_)) (fun v w hw => QM.tr (KG.fm ((KG.A (by omega)).tr ((KG.A (by omega)).tr (KG.A (by omega))))) hw)
          · rw [if_pos hab]
          · exact fun e => by rw [hab] at e; cases e
          · exact fun e => by rw [hab] at e; cases e
set_option maxRecDepth 8000 in
theorem sp_X10_fewest {G : sh_G} {S : Nat → Int32} {A : Nat → Nat → Int32} {Lg : Nat → Int64} {P : Nat → Option Nat} {T : List sh_C} {b : sh_be} {p r q : Int32} (hR : RM S A b) (hI : IV b) : Ev G mX10_fewest 0 0 (mkW G S A Lg P T) 0 [some (.ref 24), some (.int p), some (.int r), some (.int q), none, none] [] (QM G S A Lg P T (some (.int (oFewest b p r q))) b) := by
  have i1 := hI.1
  have i3 := hI.2.2.1
  have i4 := hI.2.2.2.1
  refine e_aload_n 0 dX10_fewest_0 rfl rfl ?_
  refine e_iload_n 1 dX10_fewest_1 rfl rfl ?_
  refine f_callVi (As := [_]) ok_X10_noPerson ⟨Nat.le_of_ble_eq_true rfl, Nat.le_of_ble_eq_true rfl⟩ dX10_fewest_2 kl_X10_176 ki_X10_noPerson kv_X10_noPerson rfl rfl rfl rfl (Nat.le_of_ble_eq_true rfl) (Nat.le_of_ble_eq_true rfl) (Nat.zero_add _) (Nat.zero_add _) (sp_X10_noPerson hR hI) ?_
  refine e_if_ne (tgt := 21) dX10_fewest_5 rfl (fun h5 => ?_) (fun h5 => ?_)
  · refine e_iconst (v := -1) dX10_fewest_21 rfl ?_
    refine e_iret dX10_fewest_22 rfl ?_
    have ho : oFewest b p r q = -1 := by
      first
      | rw [oFewest, if_pos (Or.inl (Or.inl (bi_1.mp h5)))]
      | rw [oFewest, if_pos (Or.inl (Or.inr (bi_1.mp h13)))]
      | rw [oFewest, if_pos (Or.inr (Int32.not_le.mp h18))]
    rw [ho]
    exact ⟨S, A, rfl, rfl, hR, FM.rf⟩
  · refine e_aload_n 0 dX10_fewest_8 rfl rfl ?_
    refine e_iload_n 2 dX10_fewest_9 rfl rfl ?_
    refine f_callVi (As := [_]) ok_X10_noRoom ⟨Nat.le_of_ble_eq_true rfl, Nat.le_of_ble_eq_true rfl⟩ dX10_fewest_10 kl_X10_167 ki_X10_noRoom kv_X10_noRoom rfl rfl rfl rfl (Nat.le_of_ble_eq_true rfl) (Nat.le_of_ble_eq_true rfl) (Nat.zero_add _) (Nat.zero_add _) (sp_X10_noRoom hR hI) ?_
    refine e_if_ne (tgt := 21) dX10_fewest_13 rfl (fun h13 => ?_) (fun h13 => ?_)
    · refine e_iconst (v := -1) dX10_fewest_21 rfl ?_
      refine e_iret dX10_fewest_22 rfl ?_
      have ho : oFewest b p r q = -1 := by
        first
        | rw [oFewest, if_pos (Or.inl (Or.inl (bi_1.mp h5)))]
        | rw [oFewest, if_pos (Or.inl (Or.inr (bi_1.mp h13)))]
        | rw [oFewest, if_pos (Or.inr (Int32.not_le.mp h18))]
      rw [ho]
      exact ⟨S, A, rfl, rfl, hR, FM.rf⟩
    · refine e_iload_n 3 dX10_fewest_16 rfl rfl ?_
      refine e_iconst (v := -1) dX10_fewest_17 rfl ?_
      refine e_icmp_ge (tgt := 23) dX10_fewest_18 rfl (fun h18 => ?_) (fun h18 => ?_)
      · have h5 := Classical.not_not.mp (bi_0.mp h5)
        have h13 := Classical.not_not.mp (bi_0.mp h13)
        have hb : ¬ bdF b p r := fun h => h.elim (fun h => h h5) (fun h => h h13)
        obtain ⟨k, hk, rfl⟩ := ix_of (x := p) rfl (by omega) h5
        obtain ⟨g, hg, rfl⟩ := ix_of (x := r) rfl (by omega) h13
        obtain ⟨p1, p2, p3, p4, p5, p6, p7, p8⟩ := hR.pe hI hk
        refine e_aload_n 0 dX10_fewest_23 rfl rfl ?_
        refine e_aload_n 0 dX10_fewest_24 rfl rfl ?_
        refine e_getfield 13 dX10_fewest_25 kf_X10_28_10 rfl rfl ?_
        refine e_iload_n 1 dX10_fewest_28 rfl rfl ?_
        refine e_iald_n (k) dX10_fewest_29 rfl rfl (by omega) (by decide) ?_
        rw [p1]
        refine e_putfield 18 dX10_fewest_30 kp_X10_fewest_217_10 (sh_fit_i _) rfl (Nat.le_of_ble_eq_true rfl) ?_
        refine e_aload_n 0 dX10_fewest_33 rfl rfl ?_
        refine e_aload_n 0 dX10_fewest_34 rfl rfl ?_
        refine e_getfield 14 dX10_fewest_35 kf_X10_31_10 rfl rfl ?_
        refine e_iload_n 1 dX10_fewest_38 rfl rfl ?_
        refine e_iald_n (k) dX10_fewest_39 rfl rfl (by omega) (by decide) ?_
        rw [p2]
        refine e_putfield 19 dX10_fewest_40 kp_X10_fewest_207_10 (sh_fit_i _) rfl (Nat.le_of_ble_eq_true rfl) ?_
        refine e_aload_n 0 dX10_fewest_43 rfl rfl ?_
        refine e_aload_n 0 dX10_fewest_44 rfl rfl ?_
        refine e_getfield 15 dX10_fewest_45 kf_X10_148_10 rfl rfl ?_
        refine e_putfield 20 dX10_fewest_48 kp_X10_fewest_204_10 (sh_fit_i _) rfl (Nat.le_of_ble_eq_true rfl) ?_
        refine e_w (w' := mkW G (va_up (va_up (va_up S 28 (nI (ba b 4 k))) 29 (nI (ba b 5 k))) 30 (nI (bn b 3))) A Lg P T) (by rw [show nI (bn b 3) = S 27 from hR.2.2.2.2.1.symm]; rfl) ?_
        refine e_iconst (v := 0) dX10_fewest_51 rfl ?_
        refine e_istore (lv' := [_, _, _, _, _, _]) dX10_fewest_52 (Nat.le_of_ble_eq_true rfl) rfl rfl ?_
        have ho : oFewest b (nI k) (nI g) q = fwF b k g q := by
          rw [oFewest, if_neg (fun h => h.elim hb (fun h => absurd h (Int32.not_lt.mpr h18))), nI_clamp (by omega), nI_clamp (by omega)]
        rw [ho]
        exact e_q (lp_X10_fewest hI hk hg h18 rfl rfl rfl (bn b 3 + 1) 0 A (by omega) (by omega) (hR.kg ((KG.S (by omega)).tr ((KG.S (by omega)).tr (KG.S (by omega))))) (fun x hx => absurd hx (Nat.not_lt_zero x))) (fun v w hw => QM.tr (KG.fm ((KG.S (by omega)).tr ((KG.S (by omega)).tr (KG.S (by omega))))) hw)
      · refine e_iconst (v := -1) dX10_fewest_21 rfl ?_
        refine e_iret dX10_fewest_22 rfl ?_
        have ho : oFewest b p r q = -1 := by
          first
          | rw [oFewest, if_pos (Or.inl (Or.inl (bi_1.mp h5)))]
          | rw [oFewest, if_pos (Or.inl (Or.inr (bi_1.mp h13)))]
          | rw [oFewest, if_pos (Or.inr (Int32.not_le.mp h18))]
        rw [ho]
        exact ⟨S, A, rfl, rfl, hR, FM.rf⟩

theorem t12_in {r m a c s : Nat} (hm : (m = 0 ∧ a = 0 ∧ c = 0) ∨ (m = 1 ∧ 0 < a ∧ c = 0) ∨ (m = 2 ∧ 0 < a ∧ 0 < c)) (hs : s < m) : tG (t12 r a c) s = r := by
  have : s = 0 ∨ s = 1 := by omega
  rcases this with rfl | rfl
  · show (if 0 < a then r else 7) = r
    rw [if_pos (by omega)]
  · show (if 0 < c then r else 7) = r
    rw [if_pos (by omega)]
theorem t12_out {r m a c s : Nat} (hm : (m = 0 ∧ a = 0 ∧ c = 0) ∨ (m = 1 ∧ 0 < a ∧ c = 0) ∨ (m = 2 ∧ 0 < a ∧ 0 < c)) (h4 : s < 4) (hs : m ≤ s) : tG (t12 r a c) s = 7 := by
  rcases s4 h4 with rfl | rfl | rfl | rfl
  · show (if 0 < a then r else 7) = 7
    rw [if_neg (by omega)]
  · show (if 0 < c then r else 7) = 7
    rw [if_neg (by omega)]
  · rfl
  · rfl
set_option maxRecDepth 8000 in
theorem lp_X10_goesWith {G : sh_G} {S : Nat → Int32} {Lg : Nat → Int64} {P : Nat → Option Nat} {T : List sh_C} {b : sh_be} {k g m a c : Nat} (hI : IV b) (hk : k < bn b 2) (hg : g < bn b 0) (hm : (m = 0 ∧ a = 0 ∧ c = 0) ∨ (m = 1 ∧ 0 < a ∧ c = 0) ∨ (m = 2 ∧ 0 < a ∧ 0 < c)) (ha : a < 100) (hc : c < 100) (h28 : S 28 = nI (ba b 4 k)) (h29 : S 29 = nI (ba b 5 k)) (h30 : S 30 = nI m) : ∀ (y s : Nat) (A : Nat → Nat → Int32), m - s < y → s ≤ m → RM S A b → gwR A (abF (t12 (ba b 5 k) a c)) (t12 (ba b 5 k) a c) (sw12 a c) s → Ev G mX10_goesWith 0 0 (mkW G S A Lg P T) 28 [some (.ref 24), some (.int (nI k)), some (.int (nI g)), some (.int (nI m)), some (.int (nI a)), some (.int (nI c)), some (.int (nI s))] [] (fun v w => v = some (.int (bi (cmW b k g a c = true))) ∧ ∃ S' A', w = mkW G S' A' Lg P T ∧ KG S A S' A') := by
  have i1 := hI.1
  have i3 := hI.2.2.1
  have i4 := hI.2.2.2.1
  have ip := hI.2.2.2.2.2.1 k hk
  intro y
  induction y with
  | zero => intro s A hy; omega
  | succ y ih =>
    intro s A hy hs hR hG
    refine e_iload dX10_goesWith_28 rfl ?_
    refine e_iload_n 3 dX10_goesWith_30 rfl rfl ?_
    refine e_icmp_ge (tgt := 80) dX10_goesWith_31 rfl (fun h31 => ?_) (fun h31 => ?_)
    · have e : s = m := by rw [nI_leI (by omega) (by omega)] at h31; omega
      subst e
      have hP : KP S A (ba b 4 k) (sw12 a c) s (abF (t12 (ba b 5 k) a c)) := ⟨h28, h30, by omega, fun x hx => (hG x hx).1, fun x hx he => ((hG x hx).2 he).2, fun x hx hx2 => by rw [abF_t]; exact t12_out hm hx hx2⟩
      have hT : KT S A s (abF (t12 (ba b 5 k) a c)) (t12 (ba b 5 k) a c) := ⟨h29, fun x hx he => ((hG x hx).2 he).1⟩
      refine e_aload_n 0 dX10_goesWith_80 rfl rfl ?_
      refine e_iload_n 2 dX10_goesWith_81 rfl rfl ?_
      refine e_callV (mc := 0) (ms := 0) (kc2 := 0) (ks2 := 0) (As := [_]) ok_X10_goTill ⟨Nat.le_of_ble_eq_true rfl, Nat.le_of_ble_eq_true rfl⟩ dX10_goesWith_82 kl_X10_237 ki_X10_goTill kv_X10_goTill rfl rfl rfl rfl (Nat.le_of_ble_eq_true rfl) (Nat.le_of_ble_eq_true rfl) (sp_X10_goTill hI (by omega) (t12_tV ip.2.2 hI.1) (by omega) (fun s hs => sw12_lt (x := a) (y := c) (by omega) (by omega)) hR hP hT) (fun v w' hw => ?_)
      obtain ⟨S2, A2, rfl, hf2, hfi⟩ := hw
      rcases hfi with ⟨rfl, hn⟩ | ⟨i, rfl, hi1, hi2, hi3⟩
      · refine e_if_lt (tgt := 92) dX10_goesWith_85 rfl (fun _ => ?_) (fun h85 => absurd (by decide) h85)
        refine e_iconst (v := 0) dX10_goesWith_92 rfl ?_
        refine e_zret dX10_goesWith_93 rfl rfl ?_
        exact ⟨by rw [bi_f (show ¬ cmW b k g a c = true by unfold cmW; rw [hn]; decide)], S2, A2, rfl, hf2.kg⟩
      · refine e_if_lt (tgt := 92) dX10_goesWith_85 rfl (fun h85 => absurd h85 (show ¬ nI i < nI 0 from nI_nlt (by omega) (by omega))) (fun _ => ?_)
        refine e_iconst (v := 1) dX10_goesWith_88 rfl ?_
        refine e_goto (tgt := 93) dX10_goesWith_89 rfl ?_
        refine e_zret dX10_goesWith_93 rfl rfl ?_
        exact ⟨by rw [bi_t (show cmW b k g a c = true by unfold cmW; rw [hi1]; rfl)], S2, A2, rfl, hf2.kg⟩
    · have hlt : s < m := by rw [nI_leI (by omega) (by omega)] at h31; omega
      have htp : tG (t12 (ba b 5 k) a c) s = ba b 5 k := t12_in hm hlt
      have hab : abF (t12 (ba b 5 k) a c) s = false := by rw [abF_f, htp]; omega
      obtain ⟨q1, q2, q3, q4, q5, q6, q7, q8⟩ := hR.pe hI hk
      refine e_aload_n 0 dX10_goesWith_34 rfl rfl ?_
      refine e_getfield 23 dX10_goesWith_35 kf_X10_46_10 rfl rfl ?_
      refine e_iload dX10_goesWith_38 rfl ?_
      refine e_iconst (v := 1) dX10_goesWith_40 rfl ?_
      refine e_zast_n (s) dX10_goesWith_41 rfl rfl (by omega) (by decide) rfl ?_
      refine e_w (w' := mkW G S (va_up A 32 (upd (A 32) s 1)) Lg P T) rfl ?_
      refine e_aload_n 0 dX10_goesWith_42 rfl rfl ?_
      refine e_getfield 21 dX10_goesWith_43 kf_X10_40_10 rfl rfl ?_
      refine e_iload dX10_goesWith_46 rfl ?_
      refine e_aload_n 0 dX10_goesWith_48 rfl rfl ?_
      refine e_getfield 14 dX10_goesWith_49 kf_X10_31_10 rfl rfl ?_
      refine e_iload_n 1 dX10_goesWith_52 rfl rfl ?_
      refine e_iald_n (k) dX10_goesWith_53 rfl rfl (by omega) (by decide) ?_
      rw [show (va_up A 32 (upd (A 32) s 1)) 27 k = nI (ba b 5 k) from q2]
      refine e_iast_n (s) dX10_goesWith_54 rfl rfl (by omega) (by decide) ?_
      refine e_w (w' := mkW G S (va_up (va_up A 32 (upd (A 32) s 1)) 30 (upd (A 30) s (nI (ba b 5 k)))) Lg P T) rfl ?_
      refine e_aload_n 0 dX10_goesWith_55 rfl rfl ?_
      refine e_getfield 22 dX10_goesWith_56 kf_X10_43_10 rfl rfl ?_
      refine e_iload dX10_goesWith_59 rfl ?_
      refine e_iload dX10_goesWith_61 rfl ?_
      refine e_if_ne (tgt := 71) dX10_goesWith_63 rfl (fun h63 => ?_) (fun h63 => ?_)
      · have e : s ≠ 0 := fun e => h63 (by rw [e]; rfl)
        refine e_iload dX10_goesWith_71 rfl ?_
        refine e_iast_n (s) dX10_goesWith_73 rfl rfl (by omega) (by decide) ?_
        refine e_w (w' := mkW G S (va_up (va_up (va_up A 32 (upd (A 32) s 1)) 30 (upd (A 30) s (nI (ba b 5 k)))) 31 (upd (A 31) s (nI c))) Lg P T) rfl ?_
        refine e_iinc (v := _ + 1) (lv' := [_, _, _, _, _, _, _]) dX10_goesWith_74 rfl (Nat.le_of_ble_eq_true rfl) rfl rfl rfl ?_
        refine e_goto (tgt := 28) dX10_goesWith_77 rfl ?_
        rw [nI_1]
        refine e_q (ih (s + 1) _ (by omega) (by omega) (hR.kg ((KG.A (by omega)).tr ((KG.A (by omega)).tr (KG.A (by omega))))) (gwR_s hG (by rw [if_neg (by rw [hab]; exact Bool.false_ne_true)]) (fun _ => by rw [htp]) (fun _ => by rw [show sw12 a c s = c by unfold sw12; rw [if_neg e, if_pos (by omega)]]))) (fun v w hw => ?_)
        obtain ⟨b1, S3, A3, b2, b3⟩ := hw
        exact ⟨b1, S3, A3, b2, ((KG.A (by omega)).tr ((KG.A (by omega)).tr (KG.A (by omega)))).tr b3⟩
      · have e : s = 0 := (nI_eq (a := s) (b := 0) (by omega) (by omega)).mp h63
        refine e_iload dX10_goesWith_66 rfl ?_
        refine e_goto (tgt := 73) dX10_goesWith_68 rfl ?_
        refine e_iast_n (s) dX10_goesWith_73 rfl rfl (by omega) (by decide) ?_
        refine e_w (w' := mkW G S (va_up (va_up (va_up A 32 (upd (A 32) s 1)) 30 (upd (A 30) s (nI (ba b 5 k)))) 31 (upd (A 31) s (nI a))) Lg P T) rfl ?_
        refine e_iinc (v := _ + 1) (lv' := [_, _, _, _, _, _, _]) dX10_goesWith_74 rfl (Nat.le_of_ble_eq_true rfl) rfl rfl rfl ?_
        refine e_goto (tgt := 28) dX10_goesWith_77 rfl ?_
        rw [nI_1]
        refine e_q (ih (s + 1) _ (by omega) (by omega) (hR.kg ((KG.A (by omega)).tr ((KG.A (by omega)).tr (KG.A (by omega))))) (gwR_s hG (by rw [if_neg (by rw [hab]; exact Bool.false_ne_true)]) (fun _ => by rw [htp]) (fun _ => by rw [show sw12 a c s = a by unfold sw12; rw [if_pos e]]))) (fun v w hw => ?_)
        obtain ⟨b1, S3, A3, b2, b3⟩ := hw
        exact ⟨b1, S3, A3, b2, ((KG.A (by omega)).tr ((KG.A (by omega)).tr (KG.A (by omega)))).tr b3⟩
set_option maxRecDepth 8000 in
theorem sp_X10_goesWith {G : sh_G} {S : Nat → Int32} {A : Nat → Nat → Int32} {Lg : Nat → Int64} {P : Nat → Option Nat} {T : List sh_C} {b : sh_be} {k g m a c : Nat} (hR : RM S A b) (hI : IV b) (hk : k < bn b 2) (hg : g < bn b 0) (hm : (m = 0 ∧ a = 0 ∧ c = 0) ∨ (m = 1 ∧ 0 < a ∧ c = 0) ∨ (m = 2 ∧ 0 < a ∧ 0 < c)) (ha : a < 100) (hc : c < 100) : Ev G mX10_goesWith 0 0 (mkW G S A Lg P T) 0 [some (.ref 24), some (.int (nI k)), some (.int (nI g)), some (.int (nI m)), some (.int (nI a)), some (.int (nI c)), none] [] (fun v w => v = some (.int (bi (cmW b k g a c = true))) ∧ ∃ S' A', w = mkW G S' A' Lg P T ∧ KG S A S' A') := by
  have i1 := hI.1
  have i3 := hI.2.2.1
  have i4 := hI.2.2.2.1
  obtain ⟨p1, p2, p3, p4, p5, p6, p7, p8⟩ := hR.pe hI hk
  refine e_aload_n 0 dX10_goesWith_0 rfl rfl ?_
  refine e_aload_n 0 dX10_goesWith_1 rfl rfl ?_
  refine e_getfield 13 dX10_goesWith_2 kf_X10_28_10 rfl rfl ?_
  refine e_iload_n 1 dX10_goesWith_5 rfl rfl ?_
  refine e_iald_n (k) dX10_goesWith_6 rfl rfl (by omega) (by decide) ?_
  rw [p1]
  refine e_putfield 18 dX10_goesWith_7 kp_X10_goesWith_217_10 (sh_fit_i _) rfl (Nat.le_of_ble_eq_true rfl) ?_
  refine e_aload_n 0 dX10_goesWith_10 rfl rfl ?_
  refine e_aload_n 0 dX10_goesWith_11 rfl rfl ?_
  refine e_getfield 14 dX10_goesWith_12 kf_X10_31_10 rfl rfl ?_
  refine e_iload_n 1 dX10_goesWith_15 rfl rfl ?_
  refine e_iald_n (k) dX10_goesWith_16 rfl rfl (by omega) (by decide) ?_
  rw [p2]
  refine e_putfield 19 dX10_goesWith_17 kp_X10_goesWith_207_10 (sh_fit_i _) rfl (Nat.le_of_ble_eq_true rfl) ?_
  refine e_aload_n 0 dX10_goesWith_20 rfl rfl ?_
  refine e_iload_n 3 dX10_goesWith_21 rfl rfl ?_
  refine e_putfield 20 dX10_goesWith_22 kp_X10_goesWith_204_10 (sh_fit_i _) rfl (Nat.le_of_ble_eq_true rfl) ?_
  refine e_w (w' := mkW G (va_up (va_up (va_up S 28 (nI (ba b 4 k))) 29 (nI (ba b 5 k))) 30 (nI m)) A Lg P T) rfl ?_
  refine e_iconst (v := 0) dX10_goesWith_25 rfl ?_
  refine e_istore (lv' := [_, _, _, _, _, _, _]) dX10_goesWith_26 (Nat.le_of_ble_eq_true rfl) rfl rfl ?_
  refine e_q (lp_X10_goesWith hI hk hg hm ha hc rfl rfl rfl (m + 1) 0 A (by omega) (by omega) (hR.kg ((KG.S (by omega)).tr ((KG.S (by omega)).tr (KG.S (by omega))))) (fun x hx => absurd hx (Nat.not_lt_zero x))) (fun v w hw => ?_)
  obtain ⟨b1, S3, A3, b2, b3⟩ := hw
  exact ⟨b1, S3, A3, b2, ((KG.S (by omega)).tr ((KG.S (by omega)).tr (KG.S (by omega)))).tr b3⟩
