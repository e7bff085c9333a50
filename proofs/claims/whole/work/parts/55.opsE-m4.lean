def FR (S : Nat → Int32) (A : Nat → Nat → Int32) (S' : Nat → Int32) (A' : Nat → Nat → Int32) : Prop := ∀ i, ¬ (23 ≤ i ∧ i ≤ 25) → S' i = S i ∧ A' i = A i
theorem FR.tr {S A S1 A1 S2 A2} (h : FR S A S1 A1) (h2 : FR S1 A1 S2 A2) : FR S A S2 A2 := fun i hi => ⟨(h2 i hi).1.trans (h i hi).1, (h2 i hi).2.trans (h i hi).2⟩
def rdR (C : Nat → Int32) (A : Nat → Nat → Int32) (D : Nat) : Prop := ∀ e, e < D → A 23 e = nI (kdC C e) ∧ A 24 (2 * e) = nI (dgC C (6 * e + 4)) ∧ A 24 (2 * e + 1) = nI (dgC C (6 * e + 5)) ∧ A 25 e = nI (wtC C e)
def dnR (C : Nat → Int32) (A : Nat → Nat → Int32) (D : Nat) : Prop := ∀ e, e < D → A 20 e = nI (kdC C e) ∧ A 21 (2 * e) = nI (dgC C (6 * e + 4)) ∧ A 21 (2 * e + 1) = nI (dgC C (6 * e + 5)) ∧ A 22 e = nI (wtC C e)
theorem upd_eq {f : Nat → Int32} {i : Nat} {x : Int32} : upd f i x i = x := if_pos rfl
theorem upd_ne {f : Nat → Int32} {i k : Nat} {x : Int32} (h : k ≠ i) : upd f i x k = f k := if_neg h
theorem rdR_s {C A d} (h : rdR C A d) : rdR C (rdA A C d) (d + 1) := by
  intro e he
  show upd (A 23) d _ e = _ ∧ upd (upd (A 24) _ _) _ _ (2 * e) = _ ∧ upd (upd (A 24) _ _) _ _ (2 * e + 1) = _ ∧ upd (A 25) d _ e = _
  rcases Nat.lt_or_ge e d with c | c
  · obtain ⟨a1, a2, a3, a4⟩ := h e c
    rw [upd_ne (by omega), upd_ne (by omega), upd_ne (by omega), upd_ne (by omega), upd_ne (by omega), upd_ne (by omega)]
    exact ⟨a1, a2, a3, a4⟩
  · have e1 : e = d := by omega
    subst e1
    refine ⟨upd_eq, ?_, upd_eq, upd_eq⟩
    rw [upd_ne (by omega)]; exact upd_eq
def cpA (A : Nat → Nat → Int32) (e : Nat) : Nat → Nat → Int32 := va_up (va_up (va_up A 20 (upd (A 20) e (A 23 e))) 21 (upd (upd (A 21) (2 * e) (A 24 (2 * e))) (2 * e + 1) (A 24 (2 * e + 1)))) 22 (upd (A 22) e (A 25 e))
theorem dnR_s {C A d} (h : dnR C A d) {D : Nat} (hr : rdR C A D) (hd : d < D) : dnR C (cpA A d) (d + 1) := by
  intro e he
  show upd (A 20) d _ e = _ ∧ upd (upd (A 21) _ _) _ _ (2 * e) = _ ∧ upd (upd (A 21) _ _) _ _ (2 * e + 1) = _ ∧ upd (A 22) d _ e = _
  rcases Nat.lt_or_ge e d with c | c
  · obtain ⟨a1, a2, a3, a4⟩ := h e c
    rw [upd_ne (by omega), upd_ne (by omega), upd_ne (by omega), upd_ne (by omega), upd_ne (by omega), upd_ne (by omega)]
    exact ⟨a1, a2, a3, a4⟩
  · have e1 : e = d := by omega
    subst e1
    obtain ⟨a1, a2, a3, a4⟩ := hr e hd
    refine ⟨by rw [upd_eq]; exact a1, ?_, by rw [upd_eq]; exact a3, by rw [upd_eq]; exact a4⟩
    rw [upd_ne (by omega), upd_eq]; exact a2
/-- what the reading of a house leaves -/
def rhQ (G : sh_G) (S : Nat → Int32) (A : Nat → Nat → Int32) (Lg : Nat → Int64) (P : Nat → Option Nat) (T : List sh_C) (C : Nat → Int32) (m : Nat) : Option Value → List sh_C → Prop := fun v w => ∃ S' A', w = mkW G S' A' Lg P T ∧ FR S A S' A' ∧ ((v = some (.int 0) ∧ ∃ q, ffN C m m 0 = some q ∧ S' 23 = nI q) ∨ (v = some (.int 1) ∧ ffN C m m 0 = none ∧ C 1 - 48 = S' 24 ∧ S' 25 = nI ((m - 2) / 6) ∧ rdR C A' ((m - 2) / 6)))
theorem rhQ.tr {G S A Lg P T C m S1 A1} (h : FR S A S1 A1) {v w} (hq : rhQ G S1 A1 Lg P T C m v w) : rhQ G S A Lg P T C m v w := by
  obtain ⟨S2, A2, h1, h2, h3⟩ := hq
  exact ⟨S2, A2, h1, h.tr h2, h3⟩
theorem FR.S {S A} {k : Nat} {x : Int32} (h : 23 ≤ k ∧ k ≤ 25) : FR S A (va_up S k x) A := fun i hi => ⟨up_ne (by omega), rfl⟩
theorem FR.A {S A} {k : Nat} {x : Nat → Int32} (h : 23 ≤ k ∧ k ≤ 25) : FR S A S (va_up A k x) := fun i hi => ⟨rfl, up_ne (by omega)⟩
theorem FR.rf {S A} : FR S A S A := fun _ _ => ⟨rfl, rfl⟩
theorem FR.rd {S A C d} : FR S A S (rdA A C d) := (FR.A (by omega)).tr ((FR.A (by omega)).tr (FR.A (by omega)))
set_option maxRecDepth 8000 in
theorem lp_X10_readsHouse {G : sh_G} {S : Nat → Int32} {A : Nat → Nat → Int32} {Lg : Nat → Int64} {P : Nat → Option Nat} {T : List sh_C} {F m R : Nat} {C : Nat → Int32} (hF : F + m ≤ 240) (hR : C 1 - 48 = nI R) (hR2 : 2 ≤ R) (hR6 : R ≤ 6) : ∀ (y d : Nat) (S : Nat → Int32) (A : Nat → Nat → Int32), 10 - d ≤ y → (∀ i, i < m → A 40 (F + i) = C i) → S 24 = nI R → S 25 = nI d → S 23 = nI (6 * d + 2) → d ≤ 8 → 6 * d + 2 ≤ m → ffN C m m 0 = ffN C m (m - (6 * d + 2)) (6 * d + 2) → rdR C A d → Ev G mX10_readsHouse 0 0 (mkW G S A Lg P T) 80 [some (.ref 24), some (.int (nI F)), some (.int (nI m)), some (.int 1)] [] (rhQ G S A Lg P T C m) := by
  intro y
  induction y with
  | zero => intro d S A hy _ _ _ _ hd; omega
  | succ y ih =>
    intro d S A hy hC h24 h25 hS hd hq hff hrd
    refine e_iload_n 3 dX10_readsHouse_80 rfl rfl ?_
    refine e_if_eq (tgt := 110) dX10_readsHouse_81 rfl (fun h81 => absurd h81 (by decide)) (fun _ => ?_)
    refine e_aload_n 0 dX10_readsHouse_84 rfl rfl ?_
    refine e_getfield 8 dX10_readsHouse_85 kf_X10_125_10 rfl rfl ?_
    refine e_iconst (v := 1) dX10_readsHouse_88 rfl ?_
    refine e_icmp_lt (tgt := 100) dX10_readsHouse_89 rfl (fun h89 => ?_) (fun h89 => ?_)
    · refine e_aload_n 0 dX10_readsHouse_100 rfl rfl ?_
      refine e_iload_n 1 dX10_readsHouse_101 rfl rfl ?_
      refine e_iload_n 2 dX10_readsHouse_102 rfl rfl ?_
      have h0 : d = 0 ∨ 6 * d + 2 < m := by
        first
        | (rw [hS, nI_leI (by omega) (by omega)] at h97; omega)
        | (rw [h25, show (1 : Int32) = nI 1 from rfl, nI_ltI (by omega) (by omega)] at h89; omega)
      refine e_callV (mc := 0) (ms := 0) (kc2 := 0) (ks2 := 0) (As := [_, _]) ok_X10_readsDoor ⟨Nat.le_of_ble_eq_true rfl, Nat.le_of_ble_eq_true rfl⟩ dX10_readsHouse_103 kl_X10_134 ki_X10_readsDoor kv_X10_readsDoor rfl rfl rfl rfl (Nat.le_of_ble_eq_true rfl) (Nat.le_of_ble_eq_true rfl) (sp_X10_readsDoor hF hC h24 h25 hR hR2 hR6 hd hS h0 hq hff) (fun v w' hw => ?_)
      rcases hw with ⟨rfl, q, hqf, rfl⟩ | ⟨rfl, rfl, hm8, hff8, hd8⟩
      · refine e_istore_n (lv' := [_, _, _, _]) 3 dX10_readsHouse_106 rfl (Nat.le_of_ble_eq_true rfl) rfl rfl ?_
        refine e_goto (tgt := 80) dX10_readsHouse_107 rfl ?_
        refine e_iload_n 3 dX10_readsHouse_80 rfl rfl ?_
        refine e_if_eq (tgt := 110) dX10_readsHouse_81 rfl (fun _ => ?_) (fun h81 => absurd rfl h81)
        refine e_iload_n 3 dX10_readsHouse_110 rfl rfl ?_
        refine e_zret dX10_readsHouse_111 rfl rfl ?_
        exact ⟨_, A, rfl, FR.S (by omega), Or.inl ⟨rfl, q, hqf, rfl⟩⟩
      · refine e_istore_n (lv' := [_, _, _, _]) 3 dX10_readsHouse_106 rfl (Nat.le_of_ble_eq_true rfl) rfl rfl ?_
        refine e_goto (tgt := 80) dX10_readsHouse_107 rfl ?_
        refine e_q (ih (d + 1) (va_up (va_up S 23 (nI (6 * d + 8))) 25 (nI (d + 1))) (rdA A C d) (by omega) (fun i hi => hC i hi) h24 rfl rfl (by omega) (by omega) hff8 (rdR_s hrd)) (fun v w hw => rhQ.tr ((FR.S (by omega)).tr ((FR.S (by omega)).tr FR.rd)) hw)
    · refine e_aload_n 0 dX10_readsHouse_92 rfl rfl ?_
      refine e_getfield 6 dX10_readsHouse_93 kf_X10_114_10 rfl rfl ?_
      refine e_iload_n 2 dX10_readsHouse_96 rfl rfl ?_
      refine e_icmp_ge (tgt := 110) dX10_readsHouse_97 rfl (fun h97 => ?_) (fun h97 => ?_)
      · refine e_iload_n 3 dX10_readsHouse_110 rfl rfl ?_
        refine e_zret dX10_readsHouse_111 rfl rfl ?_
        have hd1 : 1 ≤ d := by rw [h25, show (1 : Int32) = nI 1 from rfl, nI_ltI (by omega) (by omega)] at h89; omega
        have hme : m = 6 * d + 2 := by rw [hS, nI_leI (by omega) (by omega)] at h97; omega
        have hde : (m - 2) / 6 = d := by omega
        exact ⟨S, A, rfl, FR.rf, Or.inr ⟨rfl, ff_all hff (by omega) (by omega), hR.trans h24.symm, by rw [hde]; exact h25, by rw [hde]; exact hrd⟩⟩
      · refine e_aload_n 0 dX10_readsHouse_100 rfl rfl ?_
        refine e_iload_n 1 dX10_readsHouse_101 rfl rfl ?_
        refine e_iload_n 2 dX10_readsHouse_102 rfl rfl ?_
        have h0 : d = 0 ∨ 6 * d + 2 < m := by
          first
          | (rw [hS, nI_leI (by omega) (by omega)] at h97; omega)
          | (rw [h25, show (1 : Int32) = nI 1 from rfl, nI_ltI (by omega) (by omega)] at h89; omega)
        refine e_callV (mc := 0) (ms := 0) (kc2 := 0) (ks2 := 0) (As := [_, _]) ok_X10_readsDoor ⟨Nat.le_of_ble_eq_true rfl, Nat.le_of_ble_eq_true rfl⟩ dX10_readsHouse_103 kl_X10_134 ki_X10_readsDoor kv_X10_readsDoor rfl rfl rfl rfl (Nat.le_of_ble_eq_true rfl) (Nat.le_of_ble_eq_true rfl) (sp_X10_readsDoor hF hC h24 h25 hR hR2 hR6 hd hS h0 hq hff) (fun v w' hw => ?_)
        rcases hw with ⟨rfl, q, hqf, rfl⟩ | ⟨rfl, rfl, hm8, hff8, hd8⟩
        · refine e_istore_n (lv' := [_, _, _, _]) 3 dX10_readsHouse_106 rfl (Nat.le_of_ble_eq_true rfl) rfl rfl ?_
          refine e_goto (tgt := 80) dX10_readsHouse_107 rfl ?_
          refine e_iload_n 3 dX10_readsHouse_80 rfl rfl ?_
          refine e_if_eq (tgt := 110) dX10_readsHouse_81 rfl (fun _ => ?_) (fun h81 => absurd rfl h81)
          refine e_iload_n 3 dX10_readsHouse_110 rfl rfl ?_
          refine e_zret dX10_readsHouse_111 rfl rfl ?_
          exact ⟨_, A, rfl, FR.S (by omega), Or.inl ⟨rfl, q, hqf, rfl⟩⟩
        · refine e_istore_n (lv' := [_, _, _, _]) 3 dX10_readsHouse_106 rfl (Nat.le_of_ble_eq_true rfl) rfl rfl ?_
          refine e_goto (tgt := 80) dX10_readsHouse_107 rfl ?_
          refine e_q (ih (d + 1) (va_up (va_up S 23 (nI (6 * d + 8))) 25 (nI (d + 1))) (rdA A C d) (by omega) (fun i hi => hC i hi) h24 rfl rfl (by omega) (by omega) hff8 (rdR_s hrd)) (fun v w hw => rhQ.tr ((FR.S (by omega)).tr ((FR.S (by omega)).tr FR.rd)) hw)
set_option maxRecDepth 8000 in
theorem sp_X10_readsHouse {G : sh_G} {S : Nat → Int32} {A : Nat → Nat → Int32} {Lg : Nat → Int64} {P : Nat → Option Nat} {T : List sh_C} {F m : Nat} {C : Nat → Int32} (hF : F + m ≤ 240) (hC : ∀ i, i < m → A 40 (F + i) = C i) : Ev G mX10_readsHouse 0 0 (mkW G S A Lg P T) 0 [some (.ref 24), some (.int (nI F)), some (.int (nI m)), none] [] (rhQ G S A Lg P T C m) := by
  by_cases g0 : 0 < m ∧ C 0 = 104
  · have hff1 : ffN C m m 0 = ffN C m (m - 1) 1 := ff_step (p := 0) rfl g0.1 (go0.mpr g0.2)
    by_cases g1 : 1 < m ∧ ¬ C 1 < 50 ∧ ¬ 54 < C 1
    · obtain ⟨R, r1, r2, r3, r4⟩ := rooms_of g1.2
      have hff2 := ff_step hff1 g1.1 (go1.mpr g1.2)
      refine e_aload_n 0 dX10_readsHouse_0 rfl rfl ?_
      refine e_iconst (v := 0) dX10_readsHouse_1 rfl ?_
      refine e_putfield 6 dX10_readsHouse_2 kp_X10_readsHouse_114_10 (sh_fit_i _) rfl (Nat.le_of_ble_eq_true rfl) ?_
      refine e_aload_n 0 dX10_readsHouse_5 rfl rfl ?_
      refine e_iconst (v := 0) dX10_readsHouse_6 rfl ?_
      refine e_putfield 8 dX10_readsHouse_7 kp_X10_readsHouse_125_10 (sh_fit_i _) rfl (Nat.le_of_ble_eq_true rfl) ?_
      refine e_w (w' := mkW G (va_up (va_up S 25 0) 23 (nI 0)) A Lg P T) rfl ?_
      refine e_aload_n 0 dX10_readsHouse_10 rfl rfl ?_
      refine e_iload_n 1 dX10_readsHouse_11 rfl rfl ?_
      refine e_iload_n 2 dX10_readsHouse_12 rfl rfl ?_
      refine f_callVi (As := [_, _]) ok_X10_codeAt ⟨Nat.le_of_ble_eq_true rfl, Nat.le_of_ble_eq_true rfl⟩ dX10_readsHouse_13 kl_X10_117 ki_X10_codeAt kv_X10_codeAt rfl rfl rfl rfl (Nat.le_of_ble_eq_true rfl) (Nat.le_of_ble_eq_true rfl) (Nat.zero_add _) (Nat.zero_add _) (sp_X10_codeAt (S := va_up (va_up S 25 0) 23 (nI 0)) (q := 0) hF hC rfl (by omega)) ?_
      refine e_bipush (v := 104) dX10_readsHouse_16 (by decide) ?_
      refine e_icmp_ne (tgt := 25) dX10_readsHouse_18 rfl (fun h18 => absurd h18 (fun n => n ((cdN_y g0.1).trans g0.2))) (fun _ => ?_)
      refine e_iconst (v := 1) dX10_readsHouse_21 rfl ?_
      refine e_goto (tgt := 26) dX10_readsHouse_22 rfl ?_
      refine e_istore_n (lv' := [_, _, _, _]) 3 dX10_readsHouse_26 rfl (Nat.le_of_ble_eq_true rfl) rfl rfl ?_
      refine e_aload_n 0 dX10_readsHouse_27 rfl rfl ?_
      refine e_dup dX10_readsHouse_28 rfl ?_
      refine e_getfield 6 dX10_readsHouse_29 kf_X10_114_10 rfl rfl ?_
      refine e_iload_n 3 dX10_readsHouse_32 rfl rfl ?_
      refine e_if_eq (tgt := 40) dX10_readsHouse_33 rfl (fun h33 => absurd h33 (by decide)) (fun _ => ?_)
      refine e_iconst (v := 1) dX10_readsHouse_36 rfl ?_
      refine e_goto (tgt := 41) dX10_readsHouse_37 rfl ?_
      refine e_iadd dX10_readsHouse_41 ?_
      refine e_putfield 6 dX10_readsHouse_42 kp_X10_readsHouse_114_10 (sh_fit_i _) rfl (Nat.le_of_ble_eq_true rfl) ?_
      refine e_w (w' := mkW G (va_up (va_up S 25 0) 23 (nI 1)) A Lg P T) rfl ?_
      refine e_aload_n 0 dX10_readsHouse_45 rfl rfl ?_
      refine e_iload_n 3 dX10_readsHouse_46 rfl rfl ?_
      refine e_if_eq (tgt := 62) dX10_readsHouse_47 rfl (fun h47 => absurd h47 (by decide)) (fun _ => ?_)
      refine e_aload_n 0 dX10_readsHouse_50 rfl rfl ?_
      refine e_iload_n 1 dX10_readsHouse_51 rfl rfl ?_
      refine e_iload_n 2 dX10_readsHouse_52 rfl rfl ?_
      refine e_iconst (v := 2) dX10_readsHouse_53 rfl ?_
      refine e_bipush (v := 6) dX10_readsHouse_54 (by decide) ?_
      refine f_callVi (As := [_, _, _, _]) ok_X10_figure ⟨Nat.le_of_ble_eq_true rfl, Nat.le_of_ble_eq_true rfl⟩ dX10_readsHouse_56 kl_X10_121 ki_X10_figure kv_X10_figure rfl rfl rfl rfl (Nat.le_of_ble_eq_true rfl) (Nat.le_of_ble_eq_true rfl) (Nat.zero_add _) (Nat.zero_add _) (sp_X10_figY (lo := 2) (hi := 6) (v := R) (S := va_up (va_up S 25 0) 23 (nI 1)) (q := 1) hF hC rfl (by omega) g1.1 r3 (by omega) (by omega) (by omega)) ?_
      refine e_goto (tgt := 64) dX10_readsHouse_59 rfl ?_
      refine e_putfield 7 dX10_readsHouse_64 kp_X10_readsHouse_128_10 (sh_fit_i _) rfl (Nat.le_of_ble_eq_true rfl) ?_
      refine e_w (w' := mkW G (va_up (va_up (va_up S 25 0) 23 (nI 2)) 24 (nI R)) A Lg P T) rfl ?_
      refine e_aload_n 0 dX10_readsHouse_67 rfl rfl ?_
      refine e_getfield 7 dX10_readsHouse_68 kf_X10_128_10 rfl rfl ?_
      refine e_if_le (tgt := 78) dX10_readsHouse_71 rfl (fun h71 => absurd h71 (by rw [show (0 : Int32) = nI 0 from rfl]; exact fun h => absurd ((nI_leI (by omega) (by omega)).mp h) (by omega))) (fun _ => ?_)
      refine e_iconst (v := 1) dX10_readsHouse_74 rfl ?_
      refine e_goto (tgt := 79) dX10_readsHouse_75 rfl ?_
      refine e_istore_n (lv' := [_, _, _, _]) 3 dX10_readsHouse_79 rfl (Nat.le_of_ble_eq_true rfl) rfl rfl ?_
      exact e_q (lp_X10_readsHouse (S := S) (A := A) hF r4 r1 r2 10 0 (va_up (va_up (va_up S 25 0) 23 (nI 2)) 24 (nI R)) A (by omega) hC rfl rfl rfl (by omega) (by omega) hff2 (fun e he => absurd he (Nat.not_lt_zero e))) (fun v w hw => rhQ.tr ((FR.S (by omega)).tr ((FR.S (by omega)).tr (FR.S (by omega)))) hw)
    · refine e_aload_n 0 dX10_readsHouse_0 rfl rfl ?_
      refine e_iconst (v := 0) dX10_readsHouse_1 rfl ?_
      refine e_putfield 6 dX10_readsHouse_2 kp_X10_readsHouse_114_10 (sh_fit_i _) rfl (Nat.le_of_ble_eq_true rfl) ?_
      refine e_aload_n 0 dX10_readsHouse_5 rfl rfl ?_
      refine e_iconst (v := 0) dX10_readsHouse_6 rfl ?_
      refine e_putfield 8 dX10_readsHouse_7 kp_X10_readsHouse_125_10 (sh_fit_i _) rfl (Nat.le_of_ble_eq_true rfl) ?_
      refine e_w (w' := mkW G (va_up (va_up S 25 0) 23 (nI 0)) A Lg P T) rfl ?_
      refine e_aload_n 0 dX10_readsHouse_10 rfl rfl ?_
      refine e_iload_n 1 dX10_readsHouse_11 rfl rfl ?_
      refine e_iload_n 2 dX10_readsHouse_12 rfl rfl ?_
      refine f_callVi (As := [_, _]) ok_X10_codeAt ⟨Nat.le_of_ble_eq_true rfl, Nat.le_of_ble_eq_true rfl⟩ dX10_readsHouse_13 kl_X10_117 ki_X10_codeAt kv_X10_codeAt rfl rfl rfl rfl (Nat.le_of_ble_eq_true rfl) (Nat.le_of_ble_eq_true rfl) (Nat.zero_add _) (Nat.zero_add _) (sp_X10_codeAt (S := va_up (va_up S 25 0) 23 (nI 0)) (q := 0) hF hC rfl (by omega)) ?_
      refine e_bipush (v := 104) dX10_readsHouse_16 (by decide) ?_
      refine e_icmp_ne (tgt := 25) dX10_readsHouse_18 rfl (fun h18 => absurd h18 (fun n => n ((cdN_y g0.1).trans g0.2))) (fun _ => ?_)
      refine e_iconst (v := 1) dX10_readsHouse_21 rfl ?_
      refine e_goto (tgt := 26) dX10_readsHouse_22 rfl ?_
      refine e_istore_n (lv' := [_, _, _, _]) 3 dX10_readsHouse_26 rfl (Nat.le_of_ble_eq_true rfl) rfl rfl ?_
      refine e_aload_n 0 dX10_readsHouse_27 rfl rfl ?_
      refine e_dup dX10_readsHouse_28 rfl ?_
      refine e_getfield 6 dX10_readsHouse_29 kf_X10_114_10 rfl rfl ?_
      refine e_iload_n 3 dX10_readsHouse_32 rfl rfl ?_
      refine e_if_eq (tgt := 40) dX10_readsHouse_33 rfl (fun h33 => absurd h33 (by decide)) (fun _ => ?_)
      refine e_iconst (v := 1) dX10_readsHouse_36 rfl ?_
      refine e_goto (tgt := 41) dX10_readsHouse_37 rfl ?_
      refine e_iadd dX10_readsHouse_41 ?_
      refine e_putfield 6 dX10_readsHouse_42 kp_X10_readsHouse_114_10 (sh_fit_i _) rfl (Nat.le_of_ble_eq_true rfl) ?_
      refine e_w (w' := mkW G (va_up (va_up S 25 0) 23 (nI 1)) A Lg P T) rfl ?_
      refine e_aload_n 0 dX10_readsHouse_45 rfl rfl ?_
      refine e_iload_n 3 dX10_readsHouse_46 rfl rfl ?_
      refine e_if_eq (tgt := 62) dX10_readsHouse_47 rfl (fun h47 => absurd h47 (by decide)) (fun _ => ?_)
      refine e_aload_n 0 dX10_readsHouse_50 rfl rfl ?_
      refine e_iload_n 1 dX10_readsHouse_51 rfl rfl ?_
      refine e_iload_n 2 dX10_readsHouse_52 rfl rfl ?_
      refine e_iconst (v := 2) dX10_readsHouse_53 rfl ?_
      refine e_bipush (v := 6) dX10_readsHouse_54 (by decide) ?_
      refine f_callVi (As := [_, _, _, _]) ok_X10_figure ⟨Nat.le_of_ble_eq_true rfl, Nat.le_of_ble_eq_true rfl⟩ dX10_readsHouse_56 kl_X10_121 ki_X10_figure kv_X10_figure rfl rfl rfl rfl (Nat.le_of_ble_eq_true rfl) (Nat.le_of_ble_eq_true rfl) (Nat.zero_add _) (Nat.zero_add _) (sp_X10_figN (lo := 2) (hi := 6) (S := va_up (va_up S 25 0) 23 (nI 1)) (q := 1) hF hC rfl (by omega) (by omega) (by omega) (fun h => g1 h)) ?_
      refine e_goto (tgt := 64) dX10_readsHouse_59 rfl ?_
      refine e_putfield 7 dX10_readsHouse_64 kp_X10_readsHouse_128_10 (sh_fit_i _) rfl (Nat.le_of_ble_eq_true rfl) ?_
      refine e_w (w' := mkW G (va_up (va_up (va_up S 25 0) 23 (nI 1)) 24 (-9)) A Lg P T) rfl ?_
      refine e_aload_n 0 dX10_readsHouse_67 rfl rfl ?_
      refine e_getfield 7 dX10_readsHouse_68 kf_X10_128_10 rfl rfl ?_
      refine e_if_le (tgt := 78) dX10_readsHouse_71 rfl (fun _ => ?_) (fun h71 => absurd (show (-9 : Int32) ≤ 0 by decide) h71)
      refine e_iconst (v := 0) dX10_readsHouse_78 rfl ?_
      refine e_istore_n (lv' := [_, _, _, _]) 3 dX10_readsHouse_79 rfl (Nat.le_of_ble_eq_true rfl) rfl rfl ?_
      refine e_iload_n 3 dX10_readsHouse_80 rfl rfl ?_
      refine e_if_eq (tgt := 110) dX10_readsHouse_81 rfl (fun _ => ?_) (fun h81 => absurd rfl h81)
      refine e_iload_n 3 dX10_readsHouse_110 rfl rfl ?_
      refine e_zret dX10_readsHouse_111 rfl rfl ?_
      exact ⟨_, A, rfl, (FR.S (by omega)).tr ((FR.S (by omega)).tr (FR.S (by omega))), Or.inl ⟨rfl, 1, fl_ hff1 (by omega) (fun e => by omega) (fun c g => g1 ⟨c, go1.mp g⟩) (fun _ => noX (by omega)), rfl⟩⟩
  · refine e_aload_n 0 dX10_readsHouse_0 rfl rfl ?_
    refine e_iconst (v := 0) dX10_readsHouse_1 rfl ?_
    refine e_putfield 6 dX10_readsHouse_2 kp_X10_readsHouse_114_10 (sh_fit_i _) rfl (Nat.le_of_ble_eq_true rfl) ?_
    refine e_aload_n 0 dX10_readsHouse_5 rfl rfl ?_
    refine e_iconst (v := 0) dX10_readsHouse_6 rfl ?_
    refine e_putfield 8 dX10_readsHouse_7 kp_X10_readsHouse_125_10 (sh_fit_i _) rfl (Nat.le_of_ble_eq_true rfl) ?_
    refine e_w (w' := mkW G (va_up (va_up S 25 0) 23 (nI 0)) A Lg P T) rfl ?_
    refine e_aload_n 0 dX10_readsHouse_10 rfl rfl ?_
    refine e_iload_n 1 dX10_readsHouse_11 rfl rfl ?_
    refine e_iload_n 2 dX10_readsHouse_12 rfl rfl ?_
    refine f_callVi (As := [_, _]) ok_X10_codeAt ⟨Nat.le_of_ble_eq_true rfl, Nat.le_of_ble_eq_true rfl⟩ dX10_readsHouse_13 kl_X10_117 ki_X10_codeAt kv_X10_codeAt rfl rfl rfl rfl (Nat.le_of_ble_eq_true rfl) (Nat.le_of_ble_eq_true rfl) (Nat.zero_add _) (Nat.zero_add _) (sp_X10_codeAt (S := va_up (va_up S 25 0) 23 (nI 0)) (q := 0) hF hC rfl (by omega)) ?_
    refine e_bipush (v := 104) dX10_readsHouse_16 (by decide) ?_
    refine e_icmp_ne (tgt := 25) dX10_readsHouse_18 rfl (fun _ => ?_) (fun h18 => absurd h18 (fun e => g0 (cdN_of e (by decide))))
    refine e_iconst (v := 0) dX10_readsHouse_25 rfl ?_
    refine e_istore_n (lv' := [_, _, _, _]) 3 dX10_readsHouse_26 rfl (Nat.le_of_ble_eq_true rfl) rfl rfl ?_
    refine e_aload_n 0 dX10_readsHouse_27 rfl rfl ?_
    refine e_dup dX10_readsHouse_28 rfl ?_
    refine e_getfield 6 dX10_readsHouse_29 kf_X10_114_10 rfl rfl ?_
    refine e_iload_n 3 dX10_readsHouse_32 rfl rfl ?_
    refine e_if_eq (tgt := 40) dX10_readsHouse_33 rfl (fun _ => ?_) (fun h33 => absurd rfl h33)
    refine e_iconst (v := 0) dX10_readsHouse_40 rfl ?_
    refine e_iadd dX10_readsHouse_41 ?_
    refine e_putfield 6 dX10_readsHouse_42 kp_X10_readsHouse_114_10 (sh_fit_i _) rfl (Nat.le_of_ble_eq_true rfl) ?_
    refine e_aload_n 0 dX10_readsHouse_45 rfl rfl ?_
    refine e_iload_n 3 dX10_readsHouse_46 rfl rfl ?_
    refine e_if_eq (tgt := 62) dX10_readsHouse_47 rfl (fun _ => ?_) (fun h47 => absurd rfl h47)
    refine e_bipush (v := -9) dX10_readsHouse_62 (by decide) ?_
    refine e_putfield 7 dX10_readsHouse_64 kp_X10_readsHouse_128_10 (sh_fit_i _) rfl (Nat.le_of_ble_eq_true rfl) ?_
    refine e_w (w' := mkW G (va_up (va_up (va_up S 25 0) 23 (nI 0)) 24 (-9)) A Lg P T) rfl ?_
    refine e_aload_n 0 dX10_readsHouse_67 rfl rfl ?_
    refine e_getfield 7 dX10_readsHouse_68 kf_X10_128_10 rfl rfl ?_
    refine e_if_le (tgt := 78) dX10_readsHouse_71 rfl (fun _ => ?_) (fun h71 => absurd (show (-9 : Int32) ≤ 0 by decide) h71)
    refine e_iconst (v := 0) dX10_readsHouse_78 rfl ?_
    refine e_istore_n (lv' := [_, _, _, _]) 3 dX10_readsHouse_79 rfl (Nat.le_of_ble_eq_true rfl) rfl rfl ?_
    refine e_iload_n 3 dX10_readsHouse_80 rfl rfl ?_
    refine e_if_eq (tgt := 110) dX10_readsHouse_81 rfl (fun _ => ?_) (fun h81 => absurd rfl h81)
    refine e_iload_n 3 dX10_readsHouse_110 rfl rfl ?_
    refine e_zret dX10_readsHouse_111 rfl rfl ?_
    exact ⟨_, A, rfl, (FR.S (by omega)).tr ((FR.S (by omega)).tr (FR.S (by omega))), Or.inl ⟨rfl, 0, fl_ rfl (by omega) (fun e => by omega) (fun c g => g0 ⟨c, go0.mp g⟩) (fun _ => noX (by omega)), rfl⟩⟩

set_option maxRecDepth 8000 in
theorem lp_X10_house {G : sh_G} {S : Nat → Int32} {A : Nat → Nat → Int32} {Lg : Nat → Int64} {P : Nat → Option Nat} {T : List sh_C} {D : Nat} {C : Nat → Int32} {x1 x2 x3 x4 x5 : Int32} (h8 : D ≤ 8) (h22 : S 22 = nI D) : ∀ (y e : Nat) (A : Nat → Nat → Int32), D - e < y → e ≤ D → rdR C A D → dnR C A e → Ev G mX10_house 0 0 (mkW G S A Lg P T) 66 [some (.ref 24), some (.int (x1)), some (.int (x2)), some (.int x3), some (.int x4), some (.int x5), some (.int (nI e))] [] (fun v w => ∃ A', w = mkW G (va_up (va_up (va_up S 26 0) 27 0) 20 0) A' Lg P T ∧ v = some (.int (nI D)) ∧ (∀ i, ¬ (20 ≤ i ∧ i ≤ 22) → A' i = A i) ∧ dnR C A' D) := by
  intro y
  induction y with
  | zero => intro e A hy he; omega
  | succ y ih =>
    intro e A hy he hrd hdn
    refine e_iload dX10_house_66 rfl ?_
    refine e_aload_n 0 dX10_house_68 rfl rfl ?_
    refine e_getfield 2 dX10_house_69 kf_X10_111_10 rfl rfl ?_
    rw [h22]
    refine e_icmp_ge (tgt := 149) dX10_house_72 rfl (fun h72 => ?_) (fun h72 => ?_)
    · have hee : e = D := by rw [nI_leI (by omega) (by omega)] at h72; omega
      subst hee
      refine e_aload_n 0 dX10_house_149 rfl rfl ?_
      refine e_iconst (v := 0) dX10_house_150 rfl ?_
      refine e_putfield 12 dX10_house_151 kp_X10_house_145_10 (sh_fit_i _) rfl (Nat.le_of_ble_eq_true rfl) ?_
      refine e_aload_n 0 dX10_house_154 rfl rfl ?_
      refine e_iconst (v := 0) dX10_house_155 rfl ?_
      refine e_putfield 15 dX10_house_156 kp_X10_house_148_10 (sh_fit_i _) rfl (Nat.le_of_ble_eq_true rfl) ?_
      refine e_w (w' := mkW G (va_up (va_up S 26 0) 27 0) A Lg P T) rfl ?_
      refine e_aload_n 0 dX10_house_159 rfl rfl ?_
      refine e_aload_n 0 dX10_house_160 rfl rfl ?_
      refine e_getfield 2 dX10_house_161 kf_X10_111_10 rfl rfl ?_
      refine f_callVi (As := [_]) ok_X10_refused ⟨Nat.le_of_ble_eq_true rfl, Nat.le_of_ble_eq_true rfl⟩ dX10_house_164 kl_X10_91 ki_X10_refused kv_X10_refused rfl rfl rfl rfl (Nat.le_of_ble_eq_true rfl) (Nat.le_of_ble_eq_true rfl) (Nat.zero_add _) (Nat.zero_add _) sp_X10_refused ?_
      refine e_iret dX10_house_167 rfl ?_
      exact ⟨A, rfl, by rw [show va_up (va_up S 26 0) 27 0 22 = nI e from h22], fun i _ => rfl, hdn⟩
    · have hlt : e < D := by rw [nI_leI (by omega) (by omega)] at h72; omega
      refine e_aload_n 0 dX10_house_75 rfl rfl ?_
      refine e_getfield 3 dX10_house_76 kf_X10_7_10 rfl rfl ?_
      refine e_iload dX10_house_79 rfl ?_
      refine e_aload_n 0 dX10_house_81 rfl rfl ?_
      refine e_getfield 9 dX10_house_82 kf_X10_19_10 rfl rfl ?_
      refine e_iload dX10_house_85 rfl ?_
      refine e_iald_n (e) dX10_house_87 rfl rfl (by omega) (by decide) ?_
      refine e_iast_n (e) dX10_house_88 rfl rfl (by omega) (by decide) ?_
      refine e_w (w' := mkW G S (va_up A 20 (upd (A 20) e (A 23 e))) Lg P T) rfl ?_
      refine e_aload_n 0 dX10_house_89 rfl rfl ?_
      refine e_getfield 4 dX10_house_90 kf_X10_13_10 rfl rfl ?_
      refine e_iconst (v := 2) dX10_house_93 rfl ?_
      refine e_iload dX10_house_94 rfl ?_
      refine e_imul dX10_house_96 ?_
      refine e_aload_n 0 dX10_house_97 rfl rfl ?_
      refine e_getfield 10 dX10_house_98 kf_X10_22_10 rfl rfl ?_
      refine e_iconst (v := 2) dX10_house_101 rfl ?_
      refine e_iload dX10_house_102 rfl ?_
      refine e_imul dX10_house_104 ?_
      refine e_iald_n (2 * e) dX10_house_105 rfl (mul2 e) (by omega) (by decide) ?_
      refine e_iast_n (2 * e) dX10_house_106 rfl (mul2 e) (by omega) (by decide) ?_
      refine e_w (w' := mkW G S (va_up (va_up A 20 (upd (A 20) e (A 23 e))) 21 (upd (A 21) (2 * e) (A 24 (2 * e)))) Lg P T) rfl ?_
      refine e_aload_n 0 dX10_house_107 rfl rfl ?_
      refine e_getfield 4 dX10_house_108 kf_X10_13_10 rfl rfl ?_
      refine e_iconst (v := 2) dX10_house_111 rfl ?_
      refine e_iload dX10_house_112 rfl ?_
      refine e_imul dX10_house_114 ?_
      refine e_iconst (v := 1) dX10_house_115 rfl ?_
      refine e_iadd dX10_house_116 ?_
      refine e_aload_n 0 dX10_house_117 rfl rfl ?_
      refine e_getfield 10 dX10_house_118 kf_X10_22_10 rfl rfl ?_
      refine e_iconst (v := 2) dX10_house_121 rfl ?_
      refine e_iload dX10_house_122 rfl ?_
      refine e_imul dX10_house_124 ?_
      refine e_iconst (v := 1) dX10_house_125 rfl ?_
      refine e_iadd dX10_house_126 ?_
      refine e_iald_n (2 * e + 1) dX10_house_127 rfl (mul2b e) (by omega) (by decide) ?_
      refine e_iast_n (2 * e + 1) dX10_house_128 rfl (mul2b e) (by omega) (by decide) ?_
      refine e_w (w' := mkW G S (va_up (va_up A 20 (upd (A 20) e (A 23 e))) 21 (upd (upd (A 21) (2 * e) (A 24 (2 * e))) (2 * e + 1) (A 24 (2 * e + 1)))) Lg P T) rfl ?_
      refine e_aload_n 0 dX10_house_129 rfl rfl ?_
      refine e_getfield 5 dX10_house_130 kf_X10_16_10 rfl rfl ?_
      refine e_iload dX10_house_133 rfl ?_
      refine e_aload_n 0 dX10_house_135 rfl rfl ?_
      refine e_getfield 11 dX10_house_136 kf_X10_25_10 rfl rfl ?_
      refine e_iload dX10_house_139 rfl ?_
      refine e_iald_n (e) dX10_house_141 rfl rfl (by omega) (by decide) ?_
      refine e_iast_n (e) dX10_house_142 rfl rfl (by omega) (by decide) ?_
      refine e_w (w' := mkW G S (cpA A e) Lg P T) rfl ?_
      refine e_iinc (v := _ + 1) (lv' := [_, _, _, _, _, _, _]) dX10_house_143 rfl (Nat.le_of_ble_eq_true rfl) rfl rfl rfl ?_
      refine e_goto (tgt := 66) dX10_house_146 rfl ?_
      rw [nI_1]
      refine e_q (ih (e + 1) (cpA A e) (by omega) (by omega) (fun x hx => hrd x hx) (dnR_s hdn hrd hlt)) (fun v w hw => ?_)
      obtain ⟨A', w1, w2, w3, w4⟩ := hw
      refine ⟨A', w1, w2, fun i hi => (w3 i hi).trans ?_, w4⟩
      unfold cpA
      rw [up_ne (by omega), up_ne (by omega), up_ne (by omega)]
theorem RM.house {S A b} (h : RM S A b) {C : Nat → Int32} {m R : Nat} {S' : Nat → Int32} {A' : Nat → Nat → Int32} (hR : C 1 - 48 = nI R) (hR6 : R ≤ 6) (h20 : S' 20 = 0) (h21 : S' 21 = nI R) (h22 : S' 22 = nI ((m - 2) / 6)) (h26 : S' 26 = 0) (h27 : S' 27 = 0) (h32 : S' 32 = S 32) (h38 : A' 38 = A 38) (h39 : A' 39 = A 39) (h40 : A' 40 = A 40) (hdn : dnR C A' ((m - 2) / 6)) : RM S' A' (hoB b C m) := by
  obtain ⟨h0, h1, h2, h3, h4, h5, h6, h7, h8, h9⟩ := h
  refine ⟨h20, ?_, h22, h26, h27, h32.trans h5, fun k hk => ?_, fun d hd => ?_, fun k hk => absurd hk (Nat.not_lt_zero k), fun k hk => absurd hk (Nat.not_lt_zero k)⟩
  · show S' 21 = nI (C 1 - 48).toNatClampNeg
    rw [hR, nI_clamp (by omega)]; exact h21
  · have := h6 k hk
    unfold shM at this ⊢
    rw [h38, h39, h40]
    exact this
  · exact hdn d hd
theorem RM.fr2 {S A S' A' b} (h : RM S A b) (hf : FR S A S' A') : RM S' A' b := by
  obtain ⟨h0, h1, h2, h3, h4, h5, h6, h7, h8, h9⟩ := h
  refine ⟨by rw [(hf 20 (by omega)).1]; exact h0, by rw [(hf 21 (by omega)).1]; exact h1, by rw [(hf 22 (by omega)).1]; exact h2, by rw [(hf 26 (by omega)).1]; exact h3, by rw [(hf 27 (by omega)).1]; exact h4, by rw [(hf 32 (by omega)).1]; exact h5, fun k hk => ?_, by rw [(hf 20 (by omega)).2, (hf 21 (by omega)).2, (hf 22 (by omega)).2]; exact h7, by rw [(hf 26 (by omega)).2, (hf 27 (by omega)).2]; exact h8, by rw [(hf 28 (by omega)).2, (hf 29 (by omega)).2]; exact h9⟩
  have := h6 k hk
  unfold shM at this ⊢
  rw [(hf 38 (by omega)).2, (hf 39 (by omega)).2, (hf 40 (by omega)).2]
  exact this
theorem FR.fm {S A S' A'} (h : FR S A S' A') : FM S A S' A' := fun i hi => h i (by omega)
set_option maxRecDepth 8000 in
theorem sp_X10_house {G : sh_G} {S : Nat → Int32} {A : Nat → Nat → Int32} {Lg : Nat → Int64} {P : Nat → Option Nat} {T : List sh_C} {b : sh_be} {k lane i n : Int32} (hR : RM S A b) (hI : IV b) : Ev G mX10_house 0 0 (mkW G S A Lg P T) 0 [some (.ref 24), some (.int k), some (.int lane), some (.int i), some (.int n), none, none] [] (QM G S A Lg P T (some (.int (oHouse b k lane i n).1)) (oHouse b k lane i n).2) := by
  refine e_aload_n 0 dX10_house_0 rfl rfl ?_
  refine e_iload_n 1 dX10_house_1 rfl rfl ?_
  refine e_iload_n 2 dX10_house_2 rfl rfl ?_
  refine e_iload_n 3 dX10_house_3 rfl rfl ?_
  refine e_iload dX10_house_4 rfl ?_
  refine e_i2l dX10_house_6 ?_
  refine f_callVi (As := [_, _, _, _]) ok_X10_barred ⟨Nat.le_of_ble_eq_true rfl, Nat.le_of_ble_eq_true rfl⟩ dX10_house_7 kl_X10_138 ki_X10_barred kv_X10_barred rfl rfl rfl rfl (Nat.le_of_ble_eq_true rfl) (Nat.le_of_ble_eq_true rfl) (Nat.zero_add _) (Nat.zero_add _) (sp_X10_barred hR hI) ?_
  refine e_istore (lv' := [_, _, _, _, _, _, _]) dX10_house_10 (Nat.le_of_ble_eq_true rfl) rfl rfl ?_
  refine e_iload dX10_house_12 rfl ?_
  refine e_if_ge (tgt := 20) dX10_house_14 rfl (fun h14 => ?_) (fun h14 => ?_)
  · have hz0 : oRef b k lane i n = 0 := oRef_pos h14
    rw [if_pos hz0]
    obtain ⟨j, hj, rfl, z, hz, -, a, m, ham, rfl, rfl⟩ := oRef_ok hI hz0
    have hzl := (IV.l hI hj z hz).2
    obtain ⟨C, hCe⟩ : ∃ C : Nat → Int32, C = fun q => bc b j (a + q) := ⟨_, rfl⟩
    have hC : ∀ q, q < m → A 40 (60 * j + a + q) = C q := fun q hq => by rw [hCe, Nat.add_assoc]; exact (shM_s (hR.2.2.2.2.2.2.1 j hj) hz).2.2 (a + q) (by omega)
    have hoh : oHouse b (nI j) lane (nI a) (nI m) = hoR b C m := by
      rw [oHouse, if_neg (nn_ hz0), nI_clamp (by omega), nI_clamp (by omega), nI_clamp (by omega), hCe]
    rw [hoh]
    refine e_aload_n 0 dX10_house_20 rfl rfl ?_
    refine e_bipush (v := 60) dX10_house_21 (by decide) ?_
    refine e_iload_n 1 dX10_house_23 rfl rfl ?_
    refine e_imul dX10_house_24 ?_
    refine e_iload_n 3 dX10_house_25 rfl rfl ?_
    refine e_iadd dX10_house_26 ?_
    rw [mul60]
    refine e_iload dX10_house_27 rfl ?_
    refine e_callV (mc := 0) (ms := 0) (kc2 := 0) (ks2 := 0) (As := [_, _]) ok_X10_readsHouse ⟨Nat.le_of_ble_eq_true rfl, Nat.le_of_ble_eq_true rfl⟩ dX10_house_29 kl_X10_142 ki_X10_readsHouse kv_X10_readsHouse rfl rfl rfl rfl (Nat.le_of_ble_eq_true rfl) (Nat.le_of_ble_eq_true rfl) (sp_X10_readsHouse (F := 60 * j + a) (by omega) hC) (fun v w' hw => ?_)
    obtain ⟨S1, A1, rfl, hf1, hw⟩ := hw
    rcases hw with ⟨rfl, q, hqf, h23⟩ | ⟨rfl, hff, hc1, h25, hrd⟩
    · refine e_if_ne (tgt := 47) dX10_house_32 rfl (fun h32 => absurd h32 (fun h => h rfl)) (fun _ => ?_)
      refine e_aload_n 0 dX10_house_35 rfl rfl ?_
      refine e_bipush (v := -100) dX10_house_36 (by decide) ?_
      refine e_aload_n 0 dX10_house_38 rfl rfl ?_
      refine e_getfield 6 dX10_house_39 kf_X10_114_10 rfl rfl ?_
      refine e_isub dX10_house_42 ?_
      refine f_callVi (As := [_]) ok_X10_refused ⟨Nat.le_of_ble_eq_true rfl, Nat.le_of_ble_eq_true rfl⟩ dX10_house_43 kl_X10_91 ki_X10_refused kv_X10_refused rfl rfl rfl rfl (Nat.le_of_ble_eq_true rfl) (Nat.le_of_ble_eq_true rfl) (Nat.zero_add _) (Nat.zero_add _) sp_X10_refused ?_
      refine e_iret dX10_house_46 rfl ?_
      rw [hoR_s hqf, h23]
      exact ⟨_, A1, rfl, rfl, (hR.fr2 hf1).F 0, hf1.fm.tr (FM.S (by omega))⟩
    · obtain ⟨hgo, ⟨R, r1, r2, r3⟩, hm, hd1, hd8⟩ := house_ok hff
      have h24 : S1 24 = nI R := hc1.symm.trans r3
      refine e_if_ne (tgt := 47) dX10_house_32 rfl (fun _ => ?_) (fun h32 => absurd h32 (by decide))
      refine e_aload_n 0 dX10_house_47 rfl rfl ?_
      refine e_aload_n 0 dX10_house_48 rfl rfl ?_
      refine e_getfield 7 dX10_house_49 kf_X10_128_10 rfl rfl ?_
      refine e_putfield 1 dX10_house_52 kp_X10_house_108_10 (sh_fit_i _) rfl (Nat.le_of_ble_eq_true rfl) ?_
      refine e_aload_n 0 dX10_house_55 rfl rfl ?_
      refine e_aload_n 0 dX10_house_56 rfl rfl ?_
      refine e_getfield 8 dX10_house_57 kf_X10_125_10 rfl rfl ?_
      refine e_putfield 2 dX10_house_60 kp_X10_house_111_10 (sh_fit_i _) rfl (Nat.le_of_ble_eq_true rfl) ?_
      refine e_w (w' := mkW G (va_up (va_up S1 21 (nI R)) 22 (nI ((m - 2) / 6))) A1 Lg P T) (by rw [← h24, ← h25]; rfl) ?_
      refine e_iconst (v := 0) dX10_house_63 rfl ?_
      refine e_istore (lv' := [_, _, _, _, _, _, _]) dX10_house_64 (Nat.le_of_ble_eq_true rfl) rfl rfl ?_
      rw [hoR_n hff]
      refine e_q (lp_X10_house (A := A) (S := va_up (va_up S1 21 (nI R)) 22 (nI ((m - 2) / 6))) hd8 rfl ((m - 2) / 6 + 1) 0 A1 (by omega) (by omega) hrd (fun e he => absurd he (Nat.not_lt_zero e))) (fun v w hw => ?_)
      obtain ⟨A2, rfl, rfl, w3, w4⟩ := hw
      refine ⟨_, A2, rfl, rfl, hR.house r3 r2 rfl rfl rfl rfl rfl (hf1 32 (by omega)).1 ((w3 38 (by omega)).trans (hf1 38 (by omega)).2) ((w3 39 (by omega)).trans (hf1 39 (by omega)).2) ((w3 40 (by omega)).trans (hf1 40 (by omega)).2) w4, fun i hi => ⟨?_, (w3 i (by omega)).trans (hf1 i (by omega)).2⟩⟩
      rw [up_ne (by omega), up_ne (by omega), up_ne (by omega), up_ne (by omega), up_ne (by omega)]
      exact (hf1 i (by omega)).1
  · refine e_iload dX10_house_17 rfl ?_
    refine e_iret dX10_house_19 rfl ?_
    have hne : oRef b k lane i n ≠ 0 := fun h => absurd (show ¬ 0 ≤ oRef b k lane i n from h14) (by rw [h]; decide)
    rw [if_neg hne]
    have ho : oHouse b k lane i n = (oRef b k lane i n, uF_ b (fOf (oRef b k lane i n))) := by
      rw [oHouse, if_pos hne]
    rw [ho]
    exact ⟨_, A, rfl, rfl, hR.F _, FM.S (by omega)⟩
