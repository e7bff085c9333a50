set_option maxRecDepth 8000 in
theorem sp_X10_readsDoor {G : sh_G} {S : Nat → Int32} {A : Nat → Nat → Int32} {Lg : Nat → Int64} {P : Nat → Option Nat} {T : List sh_C} {F m d R : Nat} {C : Nat → Int32} (hF : F + m ≤ 240) (hC : ∀ i, i < m → A 40 (F + i) = C i) (h24 : S 24 = nI R) (h25 : S 25 = nI d) (hR : C 1 - 48 = nI R) (hR2 : 2 ≤ R) (hR6 : R ≤ 6) (hd : d ≤ 8) (hS : S 23 = nI (6 * d + 2)) (h0 : d = 0 ∨ 6 * d + 2 < m) (hq : 6 * d + 2 ≤ m) (hff : ffN C m m 0 = ffN C m (m - (6 * d + 2)) (6 * d + 2)) : Ev G mX10_readsDoor 0 0 (mkW G S A Lg P T) 0 [some (.ref 24), some (.int (nI F)), some (.int (nI m)), none, none, none, none] [] (fun v w => (v = some (.int 0) ∧ ∃ q, ffN C m m 0 = some q ∧ w = mkW G (va_up S 23 (nI q)) A Lg P T) ∨ (v = some (.int 1) ∧ w = mkW G (va_up (va_up S 23 (nI (6 * d + 8))) 25 (nI (d + 1))) (rdA A C d) Lg P T ∧ 6 * d + 8 ≤ m ∧ ffN C m m 0 = ffN C m (m - (6 * d + 8)) (6 * d + 8) ∧ d < 8)) := by
  refine e_aload_n 0 dX10_readsDoor_0 rfl rfl ?_
  refine e_getfield 8 dX10_readsDoor_1 kf_X10_125_10 rfl rfl ?_
  refine e_bipush (v := 8) dX10_readsDoor_4 (by decide) ?_
  rw [h25]
  refine e_icmp_eq (tgt := 20) dX10_readsDoor_6 rfl (fun h6 => ?_) (fun h6 => ?_)
  · refine e_iconst (v := 0) dX10_readsDoor_20 rfl ?_
    refine e_zret dX10_readsDoor_21 rfl rfl ?_
    refine Or.inl ⟨rfl, 6 * d + 2, fl_ hff hq (fun e => by omega) (fun c g => ?_) (fun _ => noX (by omega)), by rw [← hS, up_self]⟩
    first
    | (rw [show (8 : Int32) = nI 8 from rfl, nI_eq (by omega) (by omega)] at h6
       have := (goA.mp g).2
       omega)
    | exact h17 ((cdN_y c).trans (goA.mp g).1)
  · refine e_aload_n 0 dX10_readsDoor_9 rfl rfl ?_
    refine e_iload_n 1 dX10_readsDoor_10 rfl rfl ?_
    refine e_iload_n 2 dX10_readsDoor_11 rfl rfl ?_
    refine f_callVi (As := [_, _]) ok_X10_codeAt ⟨Nat.le_of_ble_eq_true rfl, Nat.le_of_ble_eq_true rfl⟩ dX10_readsDoor_12 kl_X10_117 ki_X10_codeAt kv_X10_codeAt rfl rfl rfl rfl (Nat.le_of_ble_eq_true rfl) (Nat.le_of_ble_eq_true rfl) (Nat.zero_add _) (Nat.zero_add _) (sp_X10_codeAt hF hC hS hq) ?_
    refine e_bipush (v := 59) dX10_readsDoor_15 (by decide) ?_
    refine e_icmp_eq (tgt := 22) dX10_readsDoor_17 rfl (fun h17 => ?_) (fun h17 => ?_)
    · obtain ⟨hl2, hc2⟩ := cdN_of h17 (by decide)
      have hd8 : d < 8 := by
        rcases Nat.lt_or_ge d 8 with c | c
        · exact c
        · exact absurd (show nI d = 8 from by rw [show d = 8 by omega]; rfl) h6
      have hff3 := ff_step hff hl2 (goA.mpr ⟨hc2, hd8⟩)
      refine e_aload_n 0 dX10_readsDoor_22 rfl rfl ?_
      refine e_dup dX10_readsDoor_23 rfl ?_
      refine e_getfield 6 dX10_readsDoor_24 kf_X10_114_10 rfl rfl ?_
      refine e_iconst (v := 1) dX10_readsDoor_27 rfl ?_
      refine e_iadd dX10_readsDoor_28 ?_
      refine e_putfield 6 dX10_readsDoor_29 kp_X10_readsDoor_114_10 (sh_fit_i _) rfl (Nat.le_of_ble_eq_true rfl) ?_
      refine e_w (w' := mkW G (va_up S 23 (nI (6 * d + 3))) A Lg P T) (by rw [hS, nI_1]; rfl) ?_
      refine e_aload_n 0 dX10_readsDoor_32 rfl rfl ?_
      refine e_iload_n 1 dX10_readsDoor_33 rfl rfl ?_
      refine e_iload_n 2 dX10_readsDoor_34 rfl rfl ?_
      refine f_callVi (As := [_, _]) ok_X10_codeAt ⟨Nat.le_of_ble_eq_true rfl, Nat.le_of_ble_eq_true rfl⟩ dX10_readsDoor_35 kl_X10_117 ki_X10_codeAt kv_X10_codeAt rfl rfl rfl rfl (Nat.le_of_ble_eq_true rfl) (Nat.le_of_ble_eq_true rfl) (Nat.zero_add _) (Nat.zero_add _) (sp_X10_codeAt (S := va_up S 23 (nI (6 * d + 3))) (q := 6 * d + 3) hF hC rfl (by omega)) ?_
      refine e_istore_n (lv' := [_, _, _, _, _, _, _]) 3 dX10_readsDoor_38 rfl (Nat.le_of_ble_eq_true rfl) rfl rfl ?_
      refine e_iload_n 3 dX10_readsDoor_39 rfl rfl ?_
      refine e_bipush (v := 115) dX10_readsDoor_40 (by decide) ?_
      refine e_icmp_eq (tgt := 59) dX10_readsDoor_42 rfl (fun h42 => ?_) (fun h42 => ?_)
      · obtain ⟨hl3, hc3⟩ : 6 * d + 3 < m ∧ (C (6 * d + 3) = 115 ∨ C (6 * d + 3) = 116 ∨ C (6 * d + 3) = 119) := by
          first
          | exact ⟨(cdN_of h42 (by decide)).1, Or.inl (cdN_of h42 (by decide)).2⟩
          | exact ⟨(cdN_of h48 (by decide)).1, Or.inr (Or.inl (cdN_of h48 (by decide)).2)⟩
          | exact ⟨(cdN_of h54 (by decide)).1, Or.inr (Or.inr (cdN_of h54 (by decide)).2)⟩
        have hff4 := ff_step hff3 hl3 (goB.mpr hc3)
        rw [cdN_y hl3]
        refine e_q (lp_X10_readsDoor (S := va_up S 23 (nI (6 * d + 3))) hF hC h24 h25 hR hR2 hR6 (by omega) rfl (by omega) hff4) (fun v w' hw => ?_)
        rcases hw with ⟨a1, q, a2, a3⟩ | ⟨a1, a2, a3, a4⟩
        · exact Or.inl ⟨a1, q, a2, by rw [a3, bx_uu]⟩
        · exact Or.inr ⟨a1, by rw [a2, bx_uu], a3, a4, hd8⟩
      · refine e_iload_n 3 dX10_readsDoor_45 rfl rfl ?_
        refine e_bipush (v := 116) dX10_readsDoor_46 (by decide) ?_
        refine e_icmp_eq (tgt := 59) dX10_readsDoor_48 rfl (fun h48 => ?_) (fun h48 => ?_)
        · obtain ⟨hl3, hc3⟩ : 6 * d + 3 < m ∧ (C (6 * d + 3) = 115 ∨ C (6 * d + 3) = 116 ∨ C (6 * d + 3) = 119) := by
            first
            | exact ⟨(cdN_of h42 (by decide)).1, Or.inl (cdN_of h42 (by decide)).2⟩
            | exact ⟨(cdN_of h48 (by decide)).1, Or.inr (Or.inl (cdN_of h48 (by decide)).2)⟩
            | exact ⟨(cdN_of h54 (by decide)).1, Or.inr (Or.inr (cdN_of h54 (by decide)).2)⟩
          have hff4 := ff_step hff3 hl3 (goB.mpr hc3)
          rw [cdN_y hl3]
          refine e_q (lp_X10_readsDoor (S := va_up S 23 (nI (6 * d + 3))) hF hC h24 h25 hR hR2 hR6 (by omega) rfl (by omega) hff4) (fun v w' hw => ?_)
          rcases hw with ⟨a1, q, a2, a3⟩ | ⟨a1, a2, a3, a4⟩
          · exact Or.inl ⟨a1, q, a2, by rw [a3, bx_uu]⟩
          · exact Or.inr ⟨a1, by rw [a2, bx_uu], a3, a4, hd8⟩
        · refine e_iload_n 3 dX10_readsDoor_51 rfl rfl ?_
          refine e_bipush (v := 119) dX10_readsDoor_52 (by decide) ?_
          refine e_icmp_eq (tgt := 59) dX10_readsDoor_54 rfl (fun h54 => ?_) (fun h54 => ?_)
          · obtain ⟨hl3, hc3⟩ : 6 * d + 3 < m ∧ (C (6 * d + 3) = 115 ∨ C (6 * d + 3) = 116 ∨ C (6 * d + 3) = 119) := by
              first
              | exact ⟨(cdN_of h42 (by decide)).1, Or.inl (cdN_of h42 (by decide)).2⟩
              | exact ⟨(cdN_of h48 (by decide)).1, Or.inr (Or.inl (cdN_of h48 (by decide)).2)⟩
              | exact ⟨(cdN_of h54 (by decide)).1, Or.inr (Or.inr (cdN_of h54 (by decide)).2)⟩
            have hff4 := ff_step hff3 hl3 (goB.mpr hc3)
            rw [cdN_y hl3]
            refine e_q (lp_X10_readsDoor (S := va_up S 23 (nI (6 * d + 3))) hF hC h24 h25 hR hR2 hR6 (by omega) rfl (by omega) hff4) (fun v w' hw => ?_)
            rcases hw with ⟨a1, q, a2, a3⟩ | ⟨a1, a2, a3, a4⟩
            · exact Or.inl ⟨a1, q, a2, by rw [a3, bx_uu]⟩
            · exact Or.inr ⟨a1, by rw [a2, bx_uu], a3, a4, hd8⟩
          · refine e_iconst (v := 0) dX10_readsDoor_57 rfl ?_
            refine e_zret dX10_readsDoor_58 rfl rfl ?_
            refine Or.inl ⟨rfl, 6 * d + 3, fl_ hff3 (by omega) (fun e => by omega) (fun c g => ?_) (fun _ => noX (by omega)), rfl⟩
            rw [cdN_y c] at h42 h48 h54
            rcases goB.mp g with g | g | g
            · exact h42 g
            · exact h48 g
            · exact h54 g
    · refine e_iconst (v := 0) dX10_readsDoor_20 rfl ?_
      refine e_zret dX10_readsDoor_21 rfl rfl ?_
      refine Or.inl ⟨rfl, 6 * d + 2, fl_ hff hq (fun e => by omega) (fun c g => ?_) (fun _ => noX (by omega)), by rw [← hS, up_self]⟩
      first
      | (rw [show (8 : Int32) = nI 8 from rfl, nI_eq (by omega) (by omega)] at h6
         have := (goA.mp g).2
         omega)
      | exact h17 ((cdN_y c).trans (goA.mp g).1)
