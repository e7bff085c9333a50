set_option maxRecDepth 4000 in
theorem sp_X2_place {G : sh_G} {S : Nat → Int32} {A : Nat → Nat → Int32} {Lg : Nat → Int64} {P : Nat → Option Nat} {T : List sh_C} {t : tp} {R : Nat} {ab : Nat → Bool} {s : Nat} (ht : tV R ab t) (hR : R ≤ 6) (hs : s < 4) : Ev G mX2_place 0 0 (mkW G S A Lg P T) 0 [some (.int (nI (cX t))), some (.int (nI s))] [] (sh_is (some (.int (nI (tG t s)))) (mkW G S A Lg P T)) := by
  refine e_iload_n 0 dX2_place_0 rfl rfl ?_
  refine e_iconst (v := 3) dX2_place_1 rfl ?_
  refine e_iload_n 1 dX2_place_2 rfl rfl ?_
  refine e_imul dX2_place_3 ?_
  refine e_ishr dX2_place_4 ?_
  refine e_bipush (v := 7) dX2_place_5 (by decide) ?_
  refine e_iand dX2_place_7 ?_
  rw [plN ht hR hs]
  exact e_iret dX2_place_8 rfl ⟨rfl, rfl⟩

set_option maxRecDepth 4000 in
theorem sp_X2_withPlace {G : sh_G} {S : Nat → Int32} {A : Nat → Nat → Int32} {Lg : Nat → Int64} {P : Nat → Option Nat} {T : List sh_C} {t : tp} {R : Nat} {ab : Nat → Bool} {s v : Nat} (ht : tV R ab t) (hR : R ≤ 6) (hs : s < 4) (hv : v < 8) : Ev G mX2_withPlace 0 0 (mkW G S A Lg P T) 0 [some (.int (nI (cX t))), some (.int (nI s)), some (.int (nI v)), none] [] (sh_is (some (.int (nI (cX (tS t s v))))) (mkW G S A Lg P T)) := by
  refine e_iconst (v := 3) dX2_withPlace_0 rfl ?_
  refine e_iload_n 1 dX2_withPlace_1 rfl rfl ?_
  refine e_imul dX2_withPlace_2 ?_
  refine e_istore_n (lv' := [_, _, _, _]) 3 dX2_withPlace_3 rfl (Nat.le_of_ble_eq_true rfl) rfl rfl ?_
  refine e_iload_n 0 dX2_withPlace_4 rfl rfl ?_
  refine e_bipush (v := 7) dX2_withPlace_5 (by decide) ?_
  refine e_iload_n 3 dX2_withPlace_7 rfl rfl ?_
  refine e_ishl dX2_withPlace_8 ?_
  refine e_iconst (v := -1) dX2_withPlace_9 rfl ?_
  refine e_ixor dX2_withPlace_10 ?_
  refine e_iand dX2_withPlace_11 ?_
  refine e_iload_n 2 dX2_withPlace_12 rfl rfl ?_
  refine e_iload_n 3 dX2_withPlace_13 rfl rfl ?_
  refine e_ishl dX2_withPlace_14 ?_
  refine e_ior dX2_withPlace_15 ?_
  rw [wpN' ht hR hs hv]
  exact e_iret dX2_withPlace_16 rfl ⟨rfl, rfl⟩

set_option maxRecDepth 8000 in
theorem sp_X2_meet {G : sh_G} {S : Nat → Int32} {A : Nat → Nat → Int32} {Lg : Nat → Int64} {P : Nat → Option Nat} {T : List sh_C} {t : tp} {R : Nat} {ab : Nat → Bool} {f s : Nat} {w0 g : Nat} {sw : Nat → Nat} {q : bq} (ht : tV R ab t) (hR : R ≤ 6) (hS : RS S A Lg w0 sw g q) (hv : ∀ i, i < q.1 → tV R ab (q.2.1 i)) (hl : ¬ inB q.2.1 t q.1 = true → q.1 < 14406) (hl2 : q.1 ≤ 14406) (hf : f < 14406) (hs : s < 32) (hg : g < 100) : Ev G mX2_meet 0 0 (mkW G S A Lg P T) 0 [some (.ref 10), some (.int (nI (cX t))), some (.int (nI f)), some (.int (nI s)), none, none] [] (fun v w => v = none ∧ ∃ S' A' Lg', w = mkW G S' A' Lg' P T ∧ RS S' A' Lg' w0 sw g (adq q t f s) ∧ SF S A S' A') := by
  have hx := cX_lt hR ht
  refine e_lconst (v := 1) dX2_meet_0 rfl ?_
  refine e_iload_n 1 dX2_meet_1 rfl rfl ?_
  refine e_bipush (v := 64) dX2_meet_2 (by decide) ?_
  refine e_irem dX2_meet_4 (by decide) ?_
  rw [rem64 (by omega)]
  refine e_lshl dX2_meet_5 ?_
  refine e_lstore (lv' := [_, _, _, _, _, _]) dX2_meet_6 (Nat.le_of_ble_eq_true rfl) rfl rfl ?_
  refine e_aload_n 0 dX2_meet_8 rfl rfl ?_
  refine e_getfield 2 dX2_meet_9 kf_X2_18_2 rfl rfl ?_
  refine e_iload_n 1 dX2_meet_12 rfl rfl ?_
  refine e_bipush (v := 64) dX2_meet_13 (by decide) ?_
  refine e_idiv dX2_meet_15 (by decide) ?_
  rw [div64 (by omega)]
  refine e_lald_n (cX t / 64) dX2_meet_16 rfl rfl (by omega) (by decide) ?_
  refine e_lload dX2_meet_17 rfl ?_
  refine e_land dX2_meet_19 ?_
  refine e_lconst (v := 0) dX2_meet_20 rfl ?_
  refine e_lcmp dX2_meet_21 ?_
  refine e_if_ne (tgt := 35) dX2_meet_22 rfl (fun h22 => ?_) (fun h22 => ?_)
  · exact e_vret dX2_meet_35 rfl (by
        first
        | (have hin : inB q.2.1 t q.1 = true := Classical.not_not.mp (fun g => h22 ((lg0 _).mpr ((sn_in hS.2.2.2.2.2.2 hR hv ht).mpr g)))
           exact ⟨rfl, S, A, Lg, rfl, by rw [adq_y hin]; exact hS, SF.rf⟩)
        | (have hn : ¬ inB q.2.1 t q.1 = true := (sn_in hS.2.2.2.2.2.2 hR hv ht).mp ((lg0 _).mp h22)
           have := hl hn
           rw [hS.1, show (14406 : Int32) = nI 14406 from rfl, nI_ltI (by omega) (by omega)] at h32
           omega))
  · refine e_aload_n 0 dX2_meet_25 rfl rfl ?_
    refine e_getfield 6 dX2_meet_26 kf_X2_42_2 rfl rfl ?_
    refine e_sipush (v := 14406) dX2_meet_29 (by decide) ?_
    refine e_icmp_lt (tgt := 36) dX2_meet_32 rfl (fun h32 => ?_) (fun h32 => ?_)
    · have hn : ¬ inB q.2.1 t q.1 = true := (sn_in hS.2.2.2.2.2.2 hR hv ht).mp ((lg0 _).mp h22)
      have hl := hl hn
      have hfr : ∀ X : Int32, SF S A (va_up (va_up S 9 X) 7 (nI (q.1 + 1))) (va_up (va_up A 4 (upd (A 4) q.1 (nI (cX t)))) 5 (upd (A 5) q.1 (nI (32 * f + s)))) := fun X => ⟨fun i a c => by rw [up_ne a, up_ne c], fun i a c => by rw [up_ne c, up_ne a]⟩
      have ho := oI_m1 (o := giN g q.2.1 q.1) (fun i hi => by have := (giN_some hi).1; omega)
      refine e_aload_n 0 dX2_meet_36 rfl rfl ?_
      refine e_getfield 2 dX2_meet_37 kf_X2_18_2 rfl rfl ?_
      refine e_iload_n 1 dX2_meet_40 rfl rfl ?_
      refine e_bipush (v := 64) dX2_meet_41 (by decide) ?_
      refine e_idiv dX2_meet_43 (by decide) ?_
      rw [div64 (by omega)]
      refine e_dup2 dX2_meet_44 rfl rfl ?_
      refine e_lald_n (cX t / 64) dX2_meet_45 rfl rfl (by omega) (by decide) ?_
      refine e_lload dX2_meet_46 rfl ?_
      refine e_lor dX2_meet_48 ?_
      refine e_last_n (cX t / 64) dX2_meet_49 rfl rfl (by omega) (by decide) ?_
      refine e_w (w' := mkW G (S) (A) (vp_updL Lg (cX t / 64) (Lg (cX t / 64) ||| ((1 : Int64) <<< ((nI (cX t % 64)).toInt64 &&& 63)))) P T) rfl ?_
      refine e_aload_n 0 dX2_meet_50 rfl rfl ?_
      refine e_getfield 0 dX2_meet_51 kf_X2_11_2 rfl rfl ?_
      refine e_aload_n 0 dX2_meet_54 rfl rfl ?_
      refine e_getfield 6 dX2_meet_55 kf_X2_42_2 rfl rfl ?_
      refine e_iload_n 1 dX2_meet_58 rfl rfl ?_
      refine e_iast_n (q.1) dX2_meet_59 rfl hS.1 (by omega) (by decide) ?_
      refine e_w (w' := mkW G (S) (va_up A 4 (upd (A 4) q.1 (nI (cX t)))) (vp_updL Lg (cX t / 64) (Lg (cX t / 64) ||| ((1 : Int64) <<< ((nI (cX t % 64)).toInt64 &&& 63)))) P T) rfl ?_
      refine e_aload_n 0 dX2_meet_60 rfl rfl ?_
      refine e_getfield 1 dX2_meet_61 kf_X2_15_2 rfl rfl ?_
      refine e_aload_n 0 dX2_meet_64 rfl rfl ?_
      refine e_getfield 6 dX2_meet_65 kf_X2_42_2 rfl rfl ?_
      refine e_iload_n 2 dX2_meet_68 rfl rfl ?_
      refine e_iconst (v := 5) dX2_meet_69 rfl ?_
      refine e_ishl dX2_meet_70 ?_
      refine e_iload_n 3 dX2_meet_71 rfl rfl ?_
      refine e_ior dX2_meet_72 ?_
      rw [cmN hf hs]
      refine e_iast_n (q.1) dX2_meet_73 rfl hS.1 (by omega) (by decide) ?_
      refine e_w (w' := mkW G (S) (va_up (va_up A 4 (upd (A 4) q.1 (nI (cX t)))) 5 (upd (A 5) q.1 (nI (32 * f + s)))) (vp_updL Lg (cX t / 64) (Lg (cX t / 64) ||| ((1 : Int64) <<< ((nI (cX t % 64)).toInt64 &&& 63)))) P T) rfl ?_
      refine e_aload_n 0 dX2_meet_74 rfl rfl ?_
      refine e_getfield 8 dX2_meet_75 kf_X2_39_2 rfl rfl ?_
      refine e_iconst (v := -1) dX2_meet_78 rfl ?_
      refine e_icmp_ne (tgt := 101) dX2_meet_79 rfl (fun h79 => ?_) (fun h79 => ?_)
      · refine e_w (w' := mkW G (va_up S 9 (S 9)) (va_up (va_up A 4 (upd (A 4) q.1 (nI (cX t)))) 5 (upd (A 5) q.1 (nI (32 * f + s)))) (vp_updL Lg (cX t / 64) (Lg (cX t / 64) ||| ((1 : Int64) <<< ((nI (cX t % 64)).toInt64 &&& 63)))) P T) (by rw [up_self]) ?_
        refine e_aload_n 0 dX2_meet_101 rfl rfl ?_
        refine e_dup dX2_meet_102 rfl ?_
        refine e_getfield 6 dX2_meet_103 kf_X2_42_2 rfl rfl ?_
        refine e_iconst (v := 1) dX2_meet_106 rfl ?_
        refine e_iadd dX2_meet_107 ?_
        refine e_putfield 6 dX2_meet_108 kp_X2_meet_42_2 (sh_fit_i _) rfl (Nat.le_of_ble_eq_true rfl) ?_
        refine e_w (w' := mkW G (va_up (va_up S 9 (S 9)) 7 (nI (q.1 + 1))) (va_up (va_up A 4 (upd (A 4) q.1 (nI (cX t)))) 5 (upd (A 5) q.1 (nI (32 * f + s)))) (vp_updL Lg (cX t / 64) (Lg (cX t / 64) ||| ((1 : Int64) <<< ((nI (cX t % 64)).toInt64 &&& 63)))) P T) (by rw [← nI_1, ← hS.1]; rfl) ?_
        exact e_vret dX2_meet_111 rfl ⟨rfl, _, _, _, rfl, hS.ad hn (by
            rw [giN_adn hn]
            rcases hg : giN g q.2.1 q.1 with _ | i
            · exact absurd (hS.2.2.1.trans (ho.mpr hg)) h79
            · rw [hS.2.2.1, hg]; rfl), hfr _⟩
      · refine e_iload_n 1 dX2_meet_82 rfl rfl ?_
        refine e_bipush (v := 12) dX2_meet_83 (by decide) ?_
        refine e_ishr dX2_meet_85 ?_
        rw [roX ht hR]
        refine e_aload_n 0 dX2_meet_86 rfl rfl ?_
        refine e_getfield 7 dX2_meet_87 kf_X2_36_2 rfl rfl ?_
        rw [show S 8 = nI g from hS.2.1]
        refine e_icmp_ne (tgt := 101) dX2_meet_90 rfl (fun h90 => ?_) (fun h90 => ?_)
        · refine e_w (w' := mkW G (va_up S 9 (S 9)) (va_up (va_up A 4 (upd (A 4) q.1 (nI (cX t)))) 5 (upd (A 5) q.1 (nI (32 * f + s)))) (vp_updL Lg (cX t / 64) (Lg (cX t / 64) ||| ((1 : Int64) <<< ((nI (cX t % 64)).toInt64 &&& 63)))) P T) (by rw [up_self]) ?_
          refine e_aload_n 0 dX2_meet_101 rfl rfl ?_
          refine e_dup dX2_meet_102 rfl ?_
          refine e_getfield 6 dX2_meet_103 kf_X2_42_2 rfl rfl ?_
          refine e_iconst (v := 1) dX2_meet_106 rfl ?_
          refine e_iadd dX2_meet_107 ?_
          refine e_putfield 6 dX2_meet_108 kp_X2_meet_42_2 (sh_fit_i _) rfl (Nat.le_of_ble_eq_true rfl) ?_
          refine e_w (w' := mkW G (va_up (va_up S 9 (S 9)) 7 (nI (q.1 + 1))) (va_up (va_up A 4 (upd (A 4) q.1 (nI (cX t)))) 5 (upd (A 5) q.1 (nI (32 * f + s)))) (vp_updL Lg (cX t / 64) (Lg (cX t / 64) ||| ((1 : Int64) <<< ((nI (cX t % 64)).toInt64 &&& 63)))) P T) (by rw [← nI_1, ← hS.1]; rfl) ?_
          exact e_vret dX2_meet_111 rfl ⟨rfl, _, _, _, rfl, hS.ad hn (by
              rw [giN_adn hn]
              rw [ho.mp (hS.2.2.1.symm.trans h79), if_neg (fun e => h90 (by rw [e]))]; exact h79), hfr _⟩
        · refine e_aload_n 0 dX2_meet_93 rfl rfl ?_
          refine e_aload_n 0 dX2_meet_94 rfl rfl ?_
          refine e_getfield 6 dX2_meet_95 kf_X2_42_2 rfl rfl ?_
          refine e_putfield 8 dX2_meet_98 kp_X2_meet_39_2 (sh_fit_i _) rfl (Nat.le_of_ble_eq_true rfl) ?_
          refine e_w (w' := mkW G (va_up S 9 (nI q.1)) (va_up (va_up A 4 (upd (A 4) q.1 (nI (cX t)))) 5 (upd (A 5) q.1 (nI (32 * f + s)))) (vp_updL Lg (cX t / 64) (Lg (cX t / 64) ||| ((1 : Int64) <<< ((nI (cX t % 64)).toInt64 &&& 63)))) P T) (by rw [← hS.1]; rfl) ?_
          refine e_aload_n 0 dX2_meet_101 rfl rfl ?_
          refine e_dup dX2_meet_102 rfl ?_
          refine e_getfield 6 dX2_meet_103 kf_X2_42_2 rfl rfl ?_
          refine e_iconst (v := 1) dX2_meet_106 rfl ?_
          refine e_iadd dX2_meet_107 ?_
          refine e_putfield 6 dX2_meet_108 kp_X2_meet_42_2 (sh_fit_i _) rfl (Nat.le_of_ble_eq_true rfl) ?_
          refine e_w (w' := mkW G (va_up (va_up S 9 (nI q.1)) 7 (nI (q.1 + 1))) (va_up (va_up A 4 (upd (A 4) q.1 (nI (cX t)))) 5 (upd (A 5) q.1 (nI (32 * f + s)))) (vp_updL Lg (cX t / 64) (Lg (cX t / 64) ||| ((1 : Int64) <<< ((nI (cX t % 64)).toInt64 &&& 63)))) P T) (by rw [← nI_1, ← hS.1]; rfl) ?_
          exact e_vret dX2_meet_111 rfl ⟨rfl, _, _, _, rfl, hS.ad hn (by
              rw [giN_adn hn]
              rw [ho.mp (hS.2.2.1.symm.trans h79), if_pos ((nI_eq (by have := ht.1; omega) (by omega)).mp h90)]; rfl), hfr _⟩
    · exact e_vret dX2_meet_35 rfl (by
          first
          | (have hin : inB q.2.1 t q.1 = true := Classical.not_not.mp (fun g => h22 ((lg0 _).mpr ((sn_in hS.2.2.2.2.2.2 hR hv ht).mpr g)))
             exact ⟨rfl, S, A, Lg, rfl, by rw [adq_y hin]; exact hS, SF.rf⟩)
          | (have hn : ¬ inB q.2.1 t q.1 = true := (sn_in hS.2.2.2.2.2.2 hR hv ht).mp ((lg0 _).mp h22)
             have := hl hn
             rw [hS.1, show (14406 : Int32) = nI 14406 from rfl, nI_ltI (by omega) (by omega)] at h32
             omega))