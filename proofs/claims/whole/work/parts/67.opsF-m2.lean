theorem q3 {q : Int32} (h1 : -1 ≤ q) (h2 : q ≤ 1) : q = -1 ∨ q = 0 ∨ q = 1 := by
  rw [fa_le] at h1 h2
  rw [fa_eq, fa_eq, fa_eq]
  have e0 : (0 : Int32).toInt = 0 := by decide
  have e1 : (1 : Int32).toInt = 1 := by decide
  have e2 : (-1 : Int32).toInt = -1 := by decide
  omega
theorem of0 : ofR 0 0 (-1) = 0 ∧ ofR 0 0 0 = -9 ∧ ofR 0 0 1 = -9 := by decide
theorem of1 {c : Nat} (hc : 0 < c) : ofR 0 c (-1) = 1 ∧ ofR 0 c 0 = nI c ∧ ofR 0 c 1 = -9 := by
  refine ⟨?_, ?_, ?_⟩
  · rw [ofR, if_pos rfl, if_pos hc]; rfl
  · rw [ofR, if_neg (by decide), if_pos hc, if_neg (by decide), if_neg (fun g => absurd g.2.1 (Nat.lt_irrefl 0))]
  · rw [ofR, if_neg (by decide), if_pos hc, if_pos (by decide)]
theorem of2 {x c : Nat} (hx : 0 < x) (hc : 0 < c) : ofR x c (-1) = 2 ∧ ofR x c 0 = nI x ∧ ofR x c 1 = nI c := by
  refine ⟨?_, ?_, ?_⟩
  · rw [ofR, if_pos rfl, if_pos hx, if_pos hc]; rfl
  · rw [ofR, if_neg (by decide), if_pos hx, if_pos hc, if_neg (by decide), if_pos ⟨rfl, hx, hc⟩]
  · rw [ofR, if_neg (by decide), if_pos hx, if_pos hc, if_neg (by decide), if_neg (fun g => absurd g.1 (by decide))]
set_option maxRecDepth 8000 in
theorem lpi_X10_laid {G : sh_G} {Lg : Nat → Int64} {P : Nat → Option Nat} {T : List sh_C} {b : sh_be} {k g x y : Nat} {q : Int32} (hI : IV b) (hk : k < bn b 2) (hg : g < bn b 0) (hx : x ≤ 20) (hx1 : 1 ≤ x) (hq1 : -1 ≤ q) (hq2 : q ≤ 1) : ∀ (n c : Nat) (S : Nat → Int32) (A : Nat → Nat → Int32), c + n = 21 → 1 ≤ c → RM S A b → (∀ (S : Nat → Int32) (A : Nat → Nat → Int32), RM S A b → Ev G mX10_laid 0 0 (mkW G S A Lg P T) 116 [some (.ref 24), some (.int (nI k)), some (.int (nI g)), some (.int q), some (.int (nI (x + 1))), some (.int (nI 21))] [] (QM G S A Lg P T (some (.int (laO (laN (cmW b k g) y (x + 1)) q))) b)) → Ev G mX10_laid 0 0 (mkW G S A Lg P T) 127 [some (.ref 24), some (.int (nI k)), some (.int (nI g)), some (.int q), some (.int (nI x)), some (.int (nI c))] [] (QM G S A Lg P T (some (.int (laO (((frN (cmW b k g x) n c).map (Prod.mk x)).or (laN (cmW b k g) y (x + 1))) q))) b) := by
  intro n
  induction n with
  | zero =>
    intro c S A hc hc1 hR hout
    have e : c = 21 := by omega
    subst e
    refine e_iload dX10_laid_127 rfl ?_
    refine e_bipush (v := 21) dX10_laid_129 (by decide) ?_
    refine e_icmp_ge (tgt := 174) dX10_laid_131 rfl (fun _ => ?_) (fun h131 => absurd (by decide) h131)
    refine e_iinc (v := _ + 1) (lv' := [_, _, _, _, _, _]) dX10_laid_174 rfl (Nat.le_of_ble_eq_true rfl) rfl rfl rfl ?_
    refine e_goto (tgt := 116) dX10_laid_177 rfl ?_
    rw [nI_1]
    exact hout S A hR
  | succ n ih =>
    intro c S A hc hc1 hR hout
    refine e_iload dX10_laid_127 rfl ?_
    refine e_bipush (v := 21) dX10_laid_129 (by decide) ?_
    refine e_icmp_ge (tgt := 174) dX10_laid_131 rfl (fun h131 => absurd h131 (by rw [show (21 : Int32) = nI 21 from rfl, nI_leI (by omega) (by omega)]; omega)) (fun _ => ?_)
    refine e_aload_n 0 dX10_laid_134 rfl rfl ?_
    refine e_iload_n 1 dX10_laid_135 rfl rfl ?_
    refine e_iload_n 2 dX10_laid_136 rfl rfl ?_
    refine e_iconst (v := 2) dX10_laid_137 rfl ?_
    refine e_iload dX10_laid_138 rfl ?_
    refine e_iload dX10_laid_140 rfl ?_
    refine e_callV (mc := 0) (ms := 0) (kc2 := 0) (ks2 := 0) (As := [_, _, _, _, _]) ok_X10_goesWith ⟨Nat.le_of_ble_eq_true rfl, Nat.le_of_ble_eq_true rfl⟩ dX10_laid_142 kl_X10_250 ki_X10_goesWith kv_X10_goesWith rfl rfl rfl rfl (Nat.le_of_ble_eq_true rfl) (Nat.le_of_ble_eq_true rfl) (sp_X10_goesWith (m := 2) (a := x) (c := c) hR hI hk hg (Or.inr (Or.inr ⟨rfl, by omega, by omega⟩)) (by omega) (by omega)) (fun v w' hw => ?_)
    obtain ⟨rfl, S1, A1, rfl, hf1⟩ := hw
    have hR1 := hR.kg hf1
    refine e_if_eq (tgt := 168) dX10_laid_145 rfl (fun h145 => ?_) (fun h145 => ?_)
    · refine e_iinc (v := _ + 1) (lv' := [_, _, _, _, _, _]) dX10_laid_168 rfl (Nat.le_of_ble_eq_true rfl) rfl rfl rfl ?_
      refine e_goto (tgt := 127) dX10_laid_171 rfl ?_
      rw [nI_1, frN, if_neg (bi_0.mp h145)]
      exact e_q (ih (c + 1) S1 A1 (by omega) (by omega) hR1 hout) (fun v w hw => QM.tr hf1.fm hw)
    · refine e_iload_n 3 dX10_laid_148 rfl rfl ?_
      refine e_if_ge (tgt := 156) dX10_laid_149 rfl (fun hqa => ?_) (fun hqa => ?_)
      · refine e_iload_n 3 dX10_laid_156 rfl rfl ?_
        refine e_if_ne (tgt := 165) dX10_laid_157 rfl (fun hqb => ?_) (fun hqb => ?_)
        · refine e_iload dX10_laid_165 rfl ?_
          refine e_iret dX10_laid_167 rfl ?_
          rw [frN, if_pos (bi_1.mp h145)]
          refine ⟨S1, A1, rfl, ?_, hR1, hf1.fm⟩
          show _ = some (Value.int (ofR _ _ q))
          rcases q3 hq1 hq2 with rfl | rfl | rfl
          · rw [(of2 (x := x) (c := c) (by omega) (by omega)).1]
            all_goals first
            | rfl
            | exact absurd hqa (by decide)
            | exact absurd hqb (by decide)
          · rw [(of2 (x := x) (c := c) (by omega) (by omega)).2.1]
            all_goals first
            | rfl
            | exact absurd hqa (by decide)
            | exact absurd hqb (by decide)
          · rw [(of2 (x := x) (c := c) (by omega) (by omega)).2.2]
            all_goals first
            | rfl
            | exact absurd hqa (by decide)
            | exact absurd hqb (by decide)
        · refine e_iload dX10_laid_160 rfl ?_
          refine e_goto (tgt := 167) dX10_laid_162 rfl ?_
          refine e_iret dX10_laid_167 rfl ?_
          rw [frN, if_pos (bi_1.mp h145)]
          refine ⟨S1, A1, rfl, ?_, hR1, hf1.fm⟩
          show _ = some (Value.int (ofR _ _ q))
          rcases q3 hq1 hq2 with rfl | rfl | rfl
          · rw [(of2 (x := x) (c := c) (by omega) (by omega)).1]
            all_goals first
            | rfl
            | exact absurd hqa (by decide)
            | exact absurd hqb (by decide)
          · rw [(of2 (x := x) (c := c) (by omega) (by omega)).2.1]
            all_goals first
            | rfl
            | exact absurd hqa (by decide)
            | exact absurd hqb (by decide)
          · rw [(of2 (x := x) (c := c) (by omega) (by omega)).2.2]
            all_goals first
            | rfl
            | exact absurd hqa (by decide)
            | exact absurd hqb (by decide)
      · refine e_iconst (v := 2) dX10_laid_152 rfl ?_
        refine e_goto (tgt := 167) dX10_laid_153 rfl ?_
        refine e_iret dX10_laid_167 rfl ?_
        rw [frN, if_pos (bi_1.mp h145)]
        refine ⟨S1, A1, rfl, ?_, hR1, hf1.fm⟩
        show _ = some (Value.int (ofR _ _ q))
        rcases q3 hq1 hq2 with rfl | rfl | rfl
        · rw [(of2 (x := x) (c := c) (by omega) (by omega)).1]
          all_goals first
          | rfl
          | exact absurd hqa (by decide)
          | exact absurd hqb (by decide)
        · rw [(of2 (x := x) (c := c) (by omega) (by omega)).2.1]
          all_goals first
          | rfl
          | exact absurd hqa (by decide)
          | exact absurd hqb (by decide)
        · rw [(of2 (x := x) (c := c) (by omega) (by omega)).2.2]
          all_goals first
          | rfl
          | exact absurd hqa (by decide)
          | exact absurd hqb (by decide)
set_option maxRecDepth 8000 in
theorem lpo_X10_laid {G : sh_G} {Lg : Nat → Int64} {P : Nat → Option Nat} {T : List sh_C} {b : sh_be} {k g : Nat} {q : Int32} (hI : IV b) (hk : k < bn b 2) (hg : g < bn b 0) (hq1 : -1 ≤ q) (hq2 : q ≤ 1) : ∀ (y x : Nat) (y5 : Option Value) (S : Nat → Int32) (A : Nat → Nat → Int32), x + y = 21 → 1 ≤ x → RM S A b → Ev G mX10_laid 0 0 (mkW G S A Lg P T) 116 [some (.ref 24), some (.int (nI k)), some (.int (nI g)), some (.int q), some (.int (nI x)), y5] [] (QM G S A Lg P T (some (.int (laO (laN (cmW b k g) y x) q))) b) := by
  intro y
  induction y with
  | zero =>
    intro x y5 S A hx hx1 hR
    have e : x = 21 := by omega
    subst e
    refine e_iload dX10_laid_116 rfl ?_
    refine e_bipush (v := 21) dX10_laid_118 (by decide) ?_
    refine e_icmp_ge (tgt := 180) dX10_laid_120 rfl (fun _ => ?_) (fun h120 => absurd (by decide) h120)
    refine e_bipush (v := -9) dX10_laid_180 (by decide) ?_
    refine e_iret dX10_laid_182 rfl ?_
    exact ⟨S, A, rfl, rfl, hR, FM.rf⟩
  | succ y ih =>
    intro x y5 S A hx hx1 hR
    refine e_iload dX10_laid_116 rfl ?_
    refine e_bipush (v := 21) dX10_laid_118 (by decide) ?_
    refine e_icmp_ge (tgt := 180) dX10_laid_120 rfl (fun h120 => absurd h120 (by rw [show (21 : Int32) = nI 21 from rfl, nI_leI (by omega) (by omega)]; omega)) (fun _ => ?_)
    refine e_iload dX10_laid_123 rfl ?_
    refine e_istore (lv' := [_, _, _, _, _, _]) dX10_laid_125 (Nat.le_of_ble_eq_true rfl) rfl rfl ?_
    exact lpi_X10_laid hI hk hg (by omega) hx1 hq1 hq2 (21 - x) x S A (by omega) hx1 hR (fun S A hR => ih (x + 1) _ S A (by omega) (by omega) hR)
set_option maxRecDepth 8000 in
theorem lps_X10_laid {G : sh_G} {Lg : Nat → Int64} {P : Nat → Option Nat} {T : List sh_C} {b : sh_be} {k g : Nat} {q : Int32} (hI : IV b) (hk : k < bn b 2) (hg : g < bn b 0) (hq1 : -1 ≤ q) (hq2 : q ≤ 1) : ∀ (n a : Nat) (S : Nat → Int32) (A : Nat → Nat → Int32), a + n = 21 → 1 ≤ a → RM S A b → Ev G mX10_laid 0 0 (mkW G S A Lg P T) 67 [some (.ref 24), some (.int (nI k)), some (.int (nI g)), some (.int q), some (.int (nI a)), none] [] (QM G S A Lg P T (some (.int (laO (((frN (cmW b k g 0) n a).map (Prod.mk 0)).or (laN (cmW b k g) 20 1)) q))) b) := by
  intro n
  induction n with
  | zero =>
    intro a S A ha ha1 hR
    have e : a = 21 := by omega
    subst e
    refine e_iload dX10_laid_67 rfl ?_
    refine e_bipush (v := 21) dX10_laid_69 (by decide) ?_
    refine e_icmp_ge (tgt := 113) dX10_laid_71 rfl (fun _ => ?_) (fun h71 => absurd (by decide) h71)
    refine e_iconst (v := 1) dX10_laid_113 rfl ?_
    refine e_istore (lv' := [_, _, _, _, _, _]) dX10_laid_114 (Nat.le_of_ble_eq_true rfl) rfl rfl ?_
    rw [frN, Option.map_none, Option.none_or]
    exact lpo_X10_laid hI hk hg hq1 hq2 20 1 _ S A rfl (by omega) hR
  | succ n ih =>
    intro a S A ha ha1 hR
    refine e_iload dX10_laid_67 rfl ?_
    refine e_bipush (v := 21) dX10_laid_69 (by decide) ?_
    refine e_icmp_ge (tgt := 113) dX10_laid_71 rfl (fun h71 => absurd h71 (by rw [show (21 : Int32) = nI 21 from rfl, nI_leI (by omega) (by omega)]; omega)) (fun _ => ?_)
    refine e_aload_n 0 dX10_laid_74 rfl rfl ?_
    refine e_iload_n 1 dX10_laid_75 rfl rfl ?_
    refine e_iload_n 2 dX10_laid_76 rfl rfl ?_
    refine e_iconst (v := 1) dX10_laid_77 rfl ?_
    refine e_iload dX10_laid_78 rfl ?_
    refine e_iconst (v := 0) dX10_laid_80 rfl ?_
    refine e_callV (mc := 0) (ms := 0) (kc2 := 0) (ks2 := 0) (As := [_, _, _, _, _]) ok_X10_goesWith ⟨Nat.le_of_ble_eq_true rfl, Nat.le_of_ble_eq_true rfl⟩ dX10_laid_81 kl_X10_250 ki_X10_goesWith kv_X10_goesWith rfl rfl rfl rfl (Nat.le_of_ble_eq_true rfl) (Nat.le_of_ble_eq_true rfl) (sp_X10_goesWith (m := 1) (a := a) (c := 0) hR hI hk hg (Or.inr (Or.inl ⟨rfl, by omega, rfl⟩)) (by omega) (by omega)) (fun v w' hw => ?_)
    obtain ⟨rfl, S1, A1, rfl, hf1⟩ := hw
    have hR1 := hR.kg hf1
    rw [cm_swap hI hk]
    refine e_if_eq (tgt := 107) dX10_laid_84 rfl (fun h84 => ?_) (fun h84 => ?_)
    · refine e_iinc (v := _ + 1) (lv' := [_, _, _, _, _, _]) dX10_laid_107 rfl (Nat.le_of_ble_eq_true rfl) rfl rfl rfl ?_
      refine e_goto (tgt := 67) dX10_laid_110 rfl ?_
      rw [nI_1, frN, if_neg (bi_0.mp h84)]
      exact e_q (ih (a + 1) S1 A1 (by omega) (by omega) hR1) (fun v w hw => QM.tr hf1.fm hw)
    · refine e_iload_n 3 dX10_laid_87 rfl rfl ?_
      refine e_if_ge (tgt := 95) dX10_laid_88 rfl (fun hqa => ?_) (fun hqa => ?_)
      · refine e_iload_n 3 dX10_laid_95 rfl rfl ?_
        refine e_if_ne (tgt := 104) dX10_laid_96 rfl (fun hqb => ?_) (fun hqb => ?_)
        · refine e_bipush (v := -9) dX10_laid_104 (by decide) ?_
          refine e_iret dX10_laid_106 rfl ?_
          rw [frN, if_pos (bi_1.mp h84)]
          refine ⟨S1, A1, rfl, ?_, hR1, hf1.fm⟩
          show _ = some (Value.int (ofR _ _ q))
          rcases q3 hq1 hq2 with rfl | rfl | rfl
          · rw [(of1 (c := a) (by omega)).1]
            all_goals first
            | rfl
            | exact absurd hqa (by decide)
            | exact absurd hqb (by decide)
          · rw [(of1 (c := a) (by omega)).2.1]
            all_goals first
            | rfl
            | exact absurd hqa (by decide)
            | exact absurd hqb (by decide)
          · rw [(of1 (c := a) (by omega)).2.2]
            all_goals first
            | rfl
            | exact absurd hqa (by decide)
            | exact absurd hqb (by decide)
        · refine e_iload dX10_laid_99 rfl ?_
          refine e_goto (tgt := 106) dX10_laid_101 rfl ?_
          refine e_iret dX10_laid_106 rfl ?_
          rw [frN, if_pos (bi_1.mp h84)]
          refine ⟨S1, A1, rfl, ?_, hR1, hf1.fm⟩
          show _ = some (Value.int (ofR _ _ q))
          rcases q3 hq1 hq2 with rfl | rfl | rfl
          · rw [(of1 (c := a) (by omega)).1]
            all_goals first
            | rfl
            | exact absurd hqa (by decide)
            | exact absurd hqb (by decide)
          · rw [(of1 (c := a) (by omega)).2.1]
            all_goals first
            | rfl
            | exact absurd hqa (by decide)
            | exact absurd hqb (by decide)
          · rw [(of1 (c := a) (by omega)).2.2]
            all_goals first
            | rfl
            | exact absurd hqa (by decide)
            | exact absurd hqb (by decide)
      · refine e_iconst (v := 1) dX10_laid_91 rfl ?_
        refine e_goto (tgt := 106) dX10_laid_92 rfl ?_
        refine e_iret dX10_laid_106 rfl ?_
        rw [frN, if_pos (bi_1.mp h84)]
        refine ⟨S1, A1, rfl, ?_, hR1, hf1.fm⟩
        show _ = some (Value.int (ofR _ _ q))
        rcases q3 hq1 hq2 with rfl | rfl | rfl
        · rw [(of1 (c := a) (by omega)).1]
          all_goals first
          | rfl
          | exact absurd hqa (by decide)
          | exact absurd hqb (by decide)
        · rw [(of1 (c := a) (by omega)).2.1]
          all_goals first
          | rfl
          | exact absurd hqa (by decide)
          | exact absurd hqb (by decide)
        · rw [(of1 (c := a) (by omega)).2.2]
          all_goals first
          | rfl
          | exact absurd hqa (by decide)
          | exact absurd hqb (by decide)
set_option maxRecDepth 8000 in
theorem sp_X10_laid {G : sh_G} {S : Nat → Int32} {A : Nat → Nat → Int32} {Lg : Nat → Int64} {P : Nat → Option Nat} {T : List sh_C} {b : sh_be} {p r q : Int32} (hR : RM S A b) (hI : IV b) : Ev G mX10_laid 0 0 (mkW G S A Lg P T) 0 [some (.ref 24), some (.int p), some (.int r), some (.int q), none, none] [] (QM G S A Lg P T (some (.int (oLaid b p r q))) b) := by
  have i1 := hI.1
  have i3 := hI.2.2.1
  have i4 := hI.2.2.2.1
  refine e_aload_n 0 dX10_laid_0 rfl rfl ?_
  refine e_iload_n 1 dX10_laid_1 rfl rfl ?_
  refine f_callVi (As := [_]) ok_X10_noPerson ⟨Nat.le_of_ble_eq_true rfl, Nat.le_of_ble_eq_true rfl⟩ dX10_laid_2 kl_X10_176 ki_X10_noPerson kv_X10_noPerson rfl rfl rfl rfl (Nat.le_of_ble_eq_true rfl) (Nat.le_of_ble_eq_true rfl) (Nat.zero_add _) (Nat.zero_add _) (sp_X10_noPerson hR hI) ?_
  refine e_if_ne (tgt := 28) dX10_laid_5 rfl (fun h5 => ?_) (fun h5 => ?_)
  · refine e_iconst (v := -1) dX10_laid_28 rfl ?_
    refine e_iret dX10_laid_29 rfl ?_
    have ho : oLaid b p r q = -1 := by
      first
      | rw [oLaid, if_pos (Or.inl (Or.inl (bi_1.mp h5)))]
      | rw [oLaid, if_pos (Or.inl (Or.inr (bi_1.mp h13)))]
      | (have h := bi_0.mp h25
         by_cases e : q < -1
         · rw [oLaid, if_pos (Or.inr (Or.inl e))]
         · rw [oLaid, if_pos (Or.inr (Or.inr (Classical.not_not.mp (fun n => h ⟨e, n⟩))))])
    rw [ho]
    exact ⟨S, A, rfl, rfl, hR, FM.rf⟩
  · refine e_aload_n 0 dX10_laid_8 rfl rfl ?_
    refine e_iload_n 2 dX10_laid_9 rfl rfl ?_
    refine f_callVi (As := [_]) ok_X10_noRoom ⟨Nat.le_of_ble_eq_true rfl, Nat.le_of_ble_eq_true rfl⟩ dX10_laid_10 kl_X10_167 ki_X10_noRoom kv_X10_noRoom rfl rfl rfl rfl (Nat.le_of_ble_eq_true rfl) (Nat.le_of_ble_eq_true rfl) (Nat.zero_add _) (Nat.zero_add _) (sp_X10_noRoom hR hI) ?_
    refine e_if_ne (tgt := 28) dX10_laid_13 rfl (fun h13 => ?_) (fun h13 => ?_)
    · refine e_iconst (v := -1) dX10_laid_28 rfl ?_
      refine e_iret dX10_laid_29 rfl ?_
      have ho : oLaid b p r q = -1 := by
        first
        | rw [oLaid, if_pos (Or.inl (Or.inl (bi_1.mp h5)))]
        | rw [oLaid, if_pos (Or.inl (Or.inr (bi_1.mp h13)))]
        | (have h := bi_0.mp h25
           by_cases e : q < -1
           · rw [oLaid, if_pos (Or.inr (Or.inl e))]
           · rw [oLaid, if_pos (Or.inr (Or.inr (Classical.not_not.mp (fun n => h ⟨e, n⟩))))])
      rw [ho]
      exact ⟨S, A, rfl, rfl, hR, FM.rf⟩
    · refine e_iload_n 3 dX10_laid_16 rfl rfl ?_
      refine e_i2l dX10_laid_17 ?_
      refine e_ldc2 dX10_laid_18 kc_X10_248 ?_
      refine e_lconst (v := 1) dX10_laid_21 rfl ?_
      refine f_callSi (As := [_, _, _]) ok_X10_in ⟨Nat.le_of_ble_eq_true rfl, Nat.le_of_ble_eq_true rfl⟩ dX10_laid_22 kl_X10_97 ks_X10_in rfl rfl (Nat.le_of_ble_eq_true rfl) (Nat.le_of_ble_eq_true rfl) (Nat.zero_add _) (Nat.zero_add _) sp_X10_in ?_
      rw [inC (a' := -1) (b' := 1) (by decide) (by decide)]
      refine e_if_ne (tgt := 30) dX10_laid_25 rfl (fun h25 => ?_) (fun h25 => ?_)
      · have h5 := Classical.not_not.mp (bi_0.mp h5)
        have h13 := Classical.not_not.mp (bi_0.mp h13)
        have hb : ¬ bdF b p r := fun h => h.elim (fun h => h h5) (fun h => h h13)
        obtain ⟨k, hk, rfl⟩ := ix_of (x := p) rfl (by omega) h5
        obtain ⟨g, hg, rfl⟩ := ix_of (x := r) rfl (by omega) h13
        have h25 := bi_1.mp h25
        have hok : ¬ (bdF b (nI k) (nI g) ∨ q < -1 ∨ 1 < q) := fun h => h.elim hb (fun h => h.elim h25.1 h25.2)
        have hq1 : -1 ≤ q := Int32.not_lt.mp h25.1
        have hq2 : q ≤ 1 := Int32.not_lt.mp h25.2
        have hcl := cbN_lt (ba b 7) (20 + k) (bn b 3)
        have h16 : 2 ^ bn b 3 ≤ 2 ^ 4 := Nat.pow_le_pow_right (by omega) (by omega)
        refine e_aload_n 0 dX10_laid_30 rfl rfl ?_
        refine e_iload_n 1 dX10_laid_31 rfl rfl ?_
        refine f_callVi (As := [_]) ok_X10_carriedBy ⟨Nat.le_of_ble_eq_true rfl, Nat.le_of_ble_eq_true rfl⟩ dX10_laid_32 kl_X10_179 ki_X10_carriedBy kv_X10_carriedBy rfl rfl rfl rfl (Nat.le_of_ble_eq_true rfl) (Nat.le_of_ble_eq_true rfl) (Nat.zero_add _) (Nat.zero_add _) (sp_X10_carriedBy hR hI (by omega)) ?_
        refine e_if_eq (tgt := 41) dX10_laid_35 rfl (fun h35 => ?_) (fun h35 => ?_)
        · have hc0 : cbN (ba b 7) (20 + k) (bn b 3) = 0 := by rw [show (0 : Int32) = nI 0 from rfl, nI_eq (by omega) (by omega)] at h35; exact h35
          have ho : oLaid b (nI k) (nI g) q = laO (((frN (cmW b k g 0) 21 0).map (Prod.mk 0)).or (laN (cmW b k g) 20 1)) q := by
            rw [oLaid, if_neg hok, nI_clamp (by omega), nI_clamp (by omega), if_neg (fun h => h hc0), laN]
          rw [ho, frN]
          refine e_aload_n 0 dX10_laid_41 rfl rfl ?_
          refine e_iload_n 1 dX10_laid_42 rfl rfl ?_
          refine e_iload_n 2 dX10_laid_43 rfl rfl ?_
          refine e_iconst (v := 0) dX10_laid_44 rfl ?_
          refine e_iconst (v := 0) dX10_laid_45 rfl ?_
          refine e_iconst (v := 0) dX10_laid_46 rfl ?_
          refine e_callV (mc := 0) (ms := 0) (kc2 := 0) (ks2 := 0) (As := [_, _, _, _, _]) ok_X10_goesWith ⟨Nat.le_of_ble_eq_true rfl, Nat.le_of_ble_eq_true rfl⟩ dX10_laid_47 kl_X10_250 ki_X10_goesWith kv_X10_goesWith rfl rfl rfl rfl (Nat.le_of_ble_eq_true rfl) (Nat.le_of_ble_eq_true rfl) (sp_X10_goesWith (m := 0) (a := 0) (c := 0) hR hI hk hg (Or.inl ⟨rfl, rfl, rfl⟩) (by omega) (by omega)) (fun v w' hw => ?_)
          obtain ⟨rfl, S1, A1, rfl, hf1⟩ := hw
          have hR1 := hR.kg hf1
          refine e_if_eq (tgt := 64) dX10_laid_50 rfl (fun h50 => ?_) (fun h50 => ?_)
          · refine e_iconst (v := 1) dX10_laid_64 rfl ?_
            refine e_istore (lv' := [_, _, _, _, _, _]) dX10_laid_65 (Nat.le_of_ble_eq_true rfl) rfl rfl ?_
            rw [if_neg (bi_0.mp h50)]
            exact e_q (lps_X10_laid hI hk hg hq1 hq2 20 1 S1 A1 rfl (by omega) hR1) (fun v w hw => QM.tr hf1.fm hw)
          · refine e_iload_n 3 dX10_laid_53 rfl rfl ?_
            refine e_if_ge (tgt := 61) dX10_laid_54 rfl (fun hqa => ?_) (fun hqa => ?_)
            · refine e_bipush (v := -9) dX10_laid_61 (by decide) ?_
              refine e_iret dX10_laid_63 rfl ?_
              rw [if_pos (bi_1.mp h50)]
              refine ⟨S1, A1, rfl, ?_, hR1, hf1.fm⟩
              show _ = some (Value.int (ofR _ _ q))
              rcases q3 hq1 hq2 with rfl | rfl | rfl
              · rw [of0.1]
                all_goals first
                | rfl
                | exact absurd hqa (by decide)
                | exact absurd hqa (by decide)
              · rw [of0.2.1]
                all_goals first
                | rfl
                | exact absurd hqa (by decide)
                | exact absurd hqa (by decide)
              · rw [of0.2.2]
                all_goals first
                | rfl
                | exact absurd hqa (by decide)
                | exact absurd hqa (by decide)
            · refine e_iconst (v := 0) dX10_laid_57 rfl ?_
              refine e_goto (tgt := 63) dX10_laid_58 rfl ?_
              refine e_iret dX10_laid_63 rfl ?_
              rw [if_pos (bi_1.mp h50)]
              refine ⟨S1, A1, rfl, ?_, hR1, hf1.fm⟩
              show _ = some (Value.int (ofR _ _ q))
              rcases q3 hq1 hq2 with rfl | rfl | rfl
              · rw [of0.1]
                all_goals first
                | rfl
                | exact absurd hqa (by decide)
                | exact absurd hqa (by decide)
              · rw [of0.2.1]
                all_goals first
                | rfl
                | exact absurd hqa (by decide)
                | exact absurd hqa (by decide)
              · rw [of0.2.2]
                all_goals first
                | rfl
                | exact absurd hqa (by decide)
                | exact absurd hqa (by decide)
        · refine e_bipush (v := -3) dX10_laid_38 (by decide) ?_
          refine e_iret dX10_laid_40 rfl ?_
          have ho : oLaid b (nI k) (nI g) q = -3 := by
            rw [oLaid, if_neg hok, nI_clamp (by omega), if_pos (fun e => h35 (by rw [e]; rfl))]
          rw [ho]
          exact ⟨S, A, rfl, rfl, hR, FM.rf⟩
      · refine e_iconst (v := -1) dX10_laid_28 rfl ?_
        refine e_iret dX10_laid_29 rfl ?_
        have ho : oLaid b p r q = -1 := by
          first
          | rw [oLaid, if_pos (Or.inl (Or.inl (bi_1.mp h5)))]
          | rw [oLaid, if_pos (Or.inl (Or.inr (bi_1.mp h13)))]
          | (have h := bi_0.mp h25
             by_cases e : q < -1
             · rw [oLaid, if_pos (Or.inr (Or.inl e))]
             · rw [oLaid, if_pos (Or.inr (Or.inr (Classical.not_not.mp (fun n => h ⟨e, n⟩))))])
        rw [ho]
        exact ⟨S, A, rfl, rfl, hR, FM.rf⟩
