theorem KP.no {S A w0 sw m ab} (h : KP S A w0 sw m ab) {s : Nat} (hs : s < m) (e : A 32 s = 0) : ab s = true := by
  have := h.2.2.2.1 s hs
  by_cases c : ab s = true
  · exact c
  · rw [if_neg c, e] at this; exact absurd this (by decide)
theorem KP.ye {S A w0 sw m ab} (h : KP S A w0 sw m ab) {s : Nat} (hs : s < m) (e : ¬ A 32 s = 0) : ab s = false := by
  have := h.2.2.2.1 s hs
  by_cases c : ab s = true
  · rw [if_pos c] at this; exact absurd this e
  · exact Bool.not_eq_true _ ▸ c
set_option maxRecDepth 8000 in
theorem lb_X10_stateNow {G : sh_G} {S : Nat → Int32} {A : Nat → Nat → Int32} {Lg : Nat → Int64} {P : Nat → Option Nat} {T : List sh_C} {t : tp} {R : Nat} {ab : Nat → Bool} {w0 m : Nat} {sw : Nat → Nat} {s : Nat} {H : Nat} (ht : tV R ab t) (hR : R ≤ 6) (hP : KP S A w0 sw m ab) (hT : KT S A m ab t) (hs4 : s < 4) {Q : Option Value → List sh_C → Prop} (kk : Ev G mX10_stateNow 0 0 (mkW G S A Lg P T) 4 [some (.ref 24), some (.int (nI (H * 7 + dM (tG t s)))), some (.int (nI s + -1))] [] Q) : Ev G mX10_stateNow 0 0 (mkW G S A Lg P T) 4 [some (.ref 24), some (.int (nI H)), some (.int (nI s))] [] Q := by
  obtain ⟨k1, k2, k3, k4, k5, k6⟩ := hP
  have hP : KP S A w0 sw m ab := ⟨k1, k2, k3, k4, k5, k6⟩
  obtain ⟨h8, h7⟩ := ht.2 s hs4
  refine e_iload_n 2 dX10_stateNow_4 rfl rfl ?_
  refine e_if_lt (tgt := 47) dX10_stateNow_5 rfl (fun h5 => absurd h5 (show ¬ nI s < nI 0 from nI_nlt (by omega) (by omega))) (fun _ => ?_)
  refine e_iload_n 1 dX10_stateNow_8 rfl rfl ?_
  refine e_bipush (v := 7) dX10_stateNow_9 (by decide) ?_
  refine e_imul dX10_stateNow_11 ?_
  refine e_iload_n 2 dX10_stateNow_12 rfl rfl ?_
  refine e_aload_n 0 dX10_stateNow_13 rfl rfl ?_
  refine e_getfield 20 dX10_stateNow_14 kf_X10_204_10 rfl rfl ?_
  rw [k2]
  refine e_icmp_ge (tgt := 38) dX10_stateNow_17 rfl (fun h17 => ?_) (fun h17 => ?_)
  · refine e_iconst (v := 0) dX10_stateNow_38 rfl ?_
    refine e_iadd dX10_stateNow_39 ?_
    refine e_st (st' := [.int (nI (H * 7 + dM (tG t s)))]) ?_ ?_
    · first
      | (rw [hT.2 s (by rw [nI_leI (by omega) (by omega)] at h17; omega) (hP.ye (by rw [nI_leI (by omega) (by omega)] at h17; omega) h26), dM_n (fun e => by
           have h1 := h7.mp e
           rw [hP.ye (by rw [nI_leI (by omega) (by omega)] at h17; omega) h26] at h1
           cases h1), ← addN, ← pk_mul]
         rfl)
      | (have e7 : tG t s = 7 := h7.mpr (hP.no (by rw [nI_leI (by omega) (by omega)] at h17; omega) h26)
         rw [e7, dM_7, ← addN, ← pk_mul]; rfl)
      | (have e7 : tG t s = 7 := hP.out ht hs4 (by rw [nI_leI (by omega) (by omega)] at h17; exact h17)
         rw [e7, dM_7, ← addN, ← pk_mul]; rfl)
    refine e_istore_n (lv' := [_, _, _]) 1 dX10_stateNow_40 rfl (Nat.le_of_ble_eq_true rfl) rfl rfl ?_
    refine e_iinc (v := _ + (-1)) (lv' := [_, _, _]) dX10_stateNow_41 rfl (Nat.le_of_ble_eq_true rfl) rfl rfl rfl ?_
    refine e_goto (tgt := 4) dX10_stateNow_44 rfl ?_
    exact kk
  · refine e_aload_n 0 dX10_stateNow_20 rfl rfl ?_
    refine e_getfield 23 dX10_stateNow_21 kf_X10_46_10 rfl rfl ?_
    refine e_iload_n 2 dX10_stateNow_24 rfl rfl ?_
    refine e_zald_n (s) dX10_stateNow_25 rfl rfl (by omega) (by decide) ?_
    refine e_if_eq (tgt := 38) dX10_stateNow_26 rfl (fun h26 => ?_) (fun h26 => ?_)
    · refine e_iconst (v := 0) dX10_stateNow_38 rfl ?_
      refine e_iadd dX10_stateNow_39 ?_
      refine e_st (st' := [.int (nI (H * 7 + dM (tG t s)))]) ?_ ?_
      · first
        | (rw [hT.2 s (by rw [nI_leI (by omega) (by omega)] at h17; omega) (hP.ye (by rw [nI_leI (by omega) (by omega)] at h17; omega) h26), dM_n (fun e => by
             have h1 := h7.mp e
             rw [hP.ye (by rw [nI_leI (by omega) (by omega)] at h17; omega) h26] at h1
             cases h1), ← addN, ← pk_mul]
           rfl)
        | (have e7 : tG t s = 7 := h7.mpr (hP.no (by rw [nI_leI (by omega) (by omega)] at h17; omega) h26)
           rw [e7, dM_7, ← addN, ← pk_mul]; rfl)
        | (have e7 : tG t s = 7 := hP.out ht hs4 (by rw [nI_leI (by omega) (by omega)] at h17; exact h17)
           rw [e7, dM_7, ← addN, ← pk_mul]; rfl)
      refine e_istore_n (lv' := [_, _, _]) 1 dX10_stateNow_40 rfl (Nat.le_of_ble_eq_true rfl) rfl rfl ?_
      refine e_iinc (v := _ + (-1)) (lv' := [_, _, _]) dX10_stateNow_41 rfl (Nat.le_of_ble_eq_true rfl) rfl rfl rfl ?_
      refine e_goto (tgt := 4) dX10_stateNow_44 rfl ?_
      exact kk
    · refine e_aload_n 0 dX10_stateNow_29 rfl rfl ?_
      refine e_getfield 21 dX10_stateNow_30 kf_X10_40_10 rfl rfl ?_
      refine e_iload_n 2 dX10_stateNow_33 rfl rfl ?_
      refine e_iald_n (s) dX10_stateNow_34 rfl rfl (by omega) (by decide) ?_
      refine e_goto (tgt := 39) dX10_stateNow_35 rfl ?_
      refine e_iadd dX10_stateNow_39 ?_
      refine e_st (st' := [.int (nI (H * 7 + dM (tG t s)))]) ?_ ?_
      · first
        | (rw [hT.2 s (by rw [nI_leI (by omega) (by omega)] at h17; omega) (hP.ye (by rw [nI_leI (by omega) (by omega)] at h17; omega) h26), dM_n (fun e => by
             have h1 := h7.mp e
             rw [hP.ye (by rw [nI_leI (by omega) (by omega)] at h17; omega) h26] at h1
             cases h1), ← addN, ← pk_mul]
           rfl)
        | (have e7 : tG t s = 7 := h7.mpr (hP.no (by rw [nI_leI (by omega) (by omega)] at h17; omega) h26)
           rw [e7, dM_7, ← addN, ← pk_mul]; rfl)
        | (have e7 : tG t s = 7 := hP.out ht hs4 (by rw [nI_leI (by omega) (by omega)] at h17; exact h17)
           rw [e7, dM_7, ← addN, ← pk_mul]; rfl)
      refine e_istore_n (lv' := [_, _, _]) 1 dX10_stateNow_40 rfl (Nat.le_of_ble_eq_true rfl) rfl rfl ?_
      refine e_iinc (v := _ + (-1)) (lv' := [_, _, _]) dX10_stateNow_41 rfl (Nat.le_of_ble_eq_true rfl) rfl rfl rfl ?_
      refine e_goto (tgt := 4) dX10_stateNow_44 rfl ?_
      exact kk
set_option maxRecDepth 4000 in
theorem lx_X10_stateNow {G : sh_G} {S : Nat → Int32} {A : Nat → Nat → Int32} {Lg : Nat → Int64} {P : Nat → Option Nat} {T : List sh_C} {t : tp} {ab : Nat → Bool} {m H : Nat} (hT : KT S A m ab t) (hH : H * 6 + t.1 = cM t) : Ev G mX10_stateNow 0 0 (mkW G S A Lg P T) 4 [some (.ref 24), some (.int (nI H)), some (.int (-1))] [] (sh_is (some (.int (nI (cM t)))) (mkW G S A Lg P T)) := by
  refine e_iload_n 2 dX10_stateNow_4 rfl rfl ?_
  refine e_if_lt (tgt := 47) dX10_stateNow_5 rfl (fun _ => ?_) (fun h5 => absurd (by decide) h5)
  refine e_iload_n 1 dX10_stateNow_47 rfl rfl ?_
  refine e_bipush (v := 6) dX10_stateNow_48 (by decide) ?_
  refine e_imul dX10_stateNow_50 ?_
  refine e_aload_n 0 dX10_stateNow_51 rfl rfl ?_
  refine e_getfield 19 dX10_stateNow_52 kf_X10_207_10 rfl rfl ?_
  refine e_iadd dX10_stateNow_55 ?_
  rw [show S 29 = nI t.1 from hT.1, show nI H * 6 = nI (H * 6) from pk_mul H 6, addN, hH]
  exact e_iret dX10_stateNow_56 rfl ⟨rfl, rfl⟩
set_option maxRecDepth 4000 in
theorem sp_X10_stateNow {G : sh_G} {S : Nat → Int32} {A : Nat → Nat → Int32} {Lg : Nat → Int64} {P : Nat → Option Nat} {T : List sh_C} {t : tp} {R : Nat} {ab : Nat → Bool} {w0 m : Nat} {sw : Nat → Nat} (ht : tV R ab t) (hR : R ≤ 6) (hP : KP S A w0 sw m ab) (hT : KT S A m ab t) : Ev G mX10_stateNow 0 0 (mkW G S A Lg P T) 0 [some (.ref 24), none, none] [] (sh_is (some (.int (nI (cM t)))) (mkW G S A Lg P T)) := by
  refine e_iconst (v := 0) dX10_stateNow_0 rfl ?_
  refine e_istore_n (lv' := [_, _, _]) 1 dX10_stateNow_1 rfl (Nat.le_of_ble_eq_true rfl) rfl rfl ?_
  refine e_iconst (v := 3) dX10_stateNow_2 rfl ?_
  refine e_istore_n (lv' := [_, _, _]) 2 dX10_stateNow_3 rfl (Nat.le_of_ble_eq_true rfl) rfl rfl ?_
  refine lb_X10_stateNow (s := 3) (H := 0) ht hR hP hT (by omega) ?_
  refine lb_X10_stateNow (s := 2) ht hR hP hT (by omega) ?_
  refine lb_X10_stateNow (s := 1) ht hR hP hT (by omega) ?_
  refine lb_X10_stateNow (s := 0) ht hR hP hT (by omega) ?_
  exact lx_X10_stateNow hT (hq_cM t)

set_option maxRecDepth 8000 in
theorem lp_X10_takeState {G : sh_G} {S : Nat → Int32} {A : Nat → Nat → Int32} {Lg : Nat → Int64} {P : Nat → Option Nat} {T : List sh_C} {t : tp} {R : Nat} {ab : Nat → Bool} {w0 m : Nat} {sw : Nat → Nat} (ht : tV R ab t) (hR : R ≤ 6) (hP : KP S A w0 sw m ab) : ∀ (y s : Nat) (f : Nat → Int32), 4 - s < y → s ≤ 4 → (∀ x, x < s → x < m → ab x = false → f x = nI (tG t x)) → Ev G mX10_takeState 0 0 (mkW G (va_up S 29 (nI t.1)) (va_up A 30 f) Lg P T) 15 [some (.ref 24), some (.int (nI (cM t))), some (.int (nI (cM t / 6 / 7 ^ s))), some (.int (nI s))] [] (fun v w => v = none ∧ ∃ f : Nat → Int32, w = mkW G (va_up S 29 (nI t.1)) (va_up A 30 f) Lg P T ∧ ∀ s, s < m → ab s = false → f s = nI (tG t s)) := by
  obtain ⟨k1, k2, k3, k4, k5, k6⟩ := hP
  have hP : KP S A w0 sw m ab := ⟨k1, k2, k3, k4, k5, k6⟩
  have hb : ∀ s, cM t / 6 / 7 ^ s < 2 ^ 31 := fun s => by
    have h1 := cM_lt hR ht
    have h2 := Nat.div_le_self (cM t / 6) (7 ^ s)
    omega
  intro y
  induction y with
  | zero => intro s f hy; omega
  | succ y ih =>
    intro s f hy hs hf
    refine e_iload_n 3 dX10_takeState_15 rfl rfl ?_
    refine e_iconst (v := 4) dX10_takeState_16 rfl ?_
    refine e_icmp_ge (tgt := 58) dX10_takeState_17 rfl (fun h17 => ?_) (fun h17 => ?_)
    · exact e_vret dX10_takeState_58 rfl (by
          have e : s = 4 := by rw [show (4 : Int32) = nI 4 from rfl, nI_leI (by omega) (by omega)] at h17; omega
          subst e
          exact ⟨rfl, f, rfl, fun x hx he => hf x (by omega) hx he⟩)
    · have hs4 : s < 4 := by rw [show (4 : Int32) = nI 4 from rfl, nI_leI (by omega) (by omega)] at h17; omega
      obtain ⟨h8, h7⟩ := ht.2 s hs4
      refine e_iload_n 3 dX10_takeState_20 rfl rfl ?_
      refine e_aload_n 0 dX10_takeState_21 rfl rfl ?_
      refine e_getfield 20 dX10_takeState_22 kf_X10_204_10 rfl rfl ?_
      rw [show va_up S 29 (nI t.1) 30 = nI m from k2]
      refine e_icmp_ge (tgt := 47) dX10_takeState_25 rfl (fun h25 => ?_) (fun h25 => ?_)
      · refine e_iload_n 2 dX10_takeState_47 rfl rfl ?_
        refine e_bipush (v := 7) dX10_takeState_48 (by decide) ?_
        refine e_idiv dX10_takeState_50 (by decide) ?_
        rw [show nI (cM t / 6 / 7 ^ s) / 7 = nI (cM t / 6 / 7 ^ s / 7) from pk_div (d := 7) (hb s) (by omega) (by omega), div_s]
        refine e_istore_n (lv' := [_, _, _, _]) 2 dX10_takeState_51 rfl (Nat.le_of_ble_eq_true rfl) rfl rfl ?_
        refine e_iinc (v := _ + 1) (lv' := [_, _, _, _]) dX10_takeState_52 rfl (Nat.le_of_ble_eq_true rfl) rfl rfl rfl ?_
        refine e_goto (tgt := 15) dX10_takeState_55 rfl ?_
        rw [nI_1]
        refine ih (s + 1) f (by omega) (by omega) (fun x hx hx2 he => ?_)
        rcases Nat.lt_or_ge x s with c | c
        · exact hf x c hx2 he
        · have e : x = s := by omega
          subst e
          rw [nI_leI (by omega) (by omega)] at h25
          omega
      · refine e_aload_n 0 dX10_takeState_28 rfl rfl ?_
        refine e_getfield 23 dX10_takeState_29 kf_X10_46_10 rfl rfl ?_
        refine e_iload_n 3 dX10_takeState_32 rfl rfl ?_
        refine e_zald_n (s) dX10_takeState_33 rfl rfl (by omega) (by decide) ?_
        refine e_if_eq (tgt := 47) dX10_takeState_34 rfl (fun h34 => ?_) (fun h34 => ?_)
        · refine e_iload_n 2 dX10_takeState_47 rfl rfl ?_
          refine e_bipush (v := 7) dX10_takeState_48 (by decide) ?_
          refine e_idiv dX10_takeState_50 (by decide) ?_
          rw [show nI (cM t / 6 / 7 ^ s) / 7 = nI (cM t / 6 / 7 ^ s / 7) from pk_div (d := 7) (hb s) (by omega) (by omega), div_s]
          refine e_istore_n (lv' := [_, _, _, _]) 2 dX10_takeState_51 rfl (Nat.le_of_ble_eq_true rfl) rfl rfl ?_
          refine e_iinc (v := _ + 1) (lv' := [_, _, _, _]) dX10_takeState_52 rfl (Nat.le_of_ble_eq_true rfl) rfl rfl rfl ?_
          refine e_goto (tgt := 15) dX10_takeState_55 rfl ?_
          rw [nI_1]
          refine ih (s + 1) f (by omega) (by omega) (fun x hx hx2 he => ?_)
          rcases Nat.lt_or_ge x s with c | c
          · exact hf x c hx2 he
          · have e : x = s := by omega
            subst e
            rw [hP.no hx2 h34] at he
            cases he
        · refine e_aload_n 0 dX10_takeState_37 rfl rfl ?_
          refine e_getfield 21 dX10_takeState_38 kf_X10_40_10 rfl rfl ?_
          refine e_iload_n 3 dX10_takeState_41 rfl rfl ?_
          refine e_iload_n 2 dX10_takeState_42 rfl rfl ?_
          refine e_bipush (v := 7) dX10_takeState_43 (by decide) ?_
          refine e_irem dX10_takeState_45 (by decide) ?_
          rw [show nI (cM t / 6 / 7 ^ s) - nI (cM t / 6 / 7 ^ s) / 7 * 7 = nI (cM t / 6 / 7 ^ s % 7) from pk_rem (d := 7) (hb s) (by omega) (by omega), cM_dig ht hR hs4]
          refine e_iast_n (s) dX10_takeState_46 rfl rfl (by omega) (by decide) ?_
          refine e_iload_n 2 dX10_takeState_47 rfl rfl ?_
          refine e_bipush (v := 7) dX10_takeState_48 (by decide) ?_
          refine e_idiv dX10_takeState_50 (by decide) ?_
          rw [show nI (cM t / 6 / 7 ^ s) / 7 = nI (cM t / 6 / 7 ^ s / 7) from pk_div (d := 7) (hb s) (by omega) (by omega), div_s]
          refine e_istore_n (lv' := [_, _, _, _]) 2 dX10_takeState_51 rfl (Nat.le_of_ble_eq_true rfl) rfl rfl ?_
          refine e_iinc (v := _ + 1) (lv' := [_, _, _, _]) dX10_takeState_52 rfl (Nat.le_of_ble_eq_true rfl) rfl rfl rfl ?_
          refine e_goto (tgt := 15) dX10_takeState_55 rfl ?_
          rw [nI_1]
          have hlt : s < m := by rw [nI_leI (by omega) (by omega)] at h25; omega
          have hab := hP.ye hlt h34
          refine ih (s + 1) (upd f s (nI (dM (tG t s)))) (by omega) (by omega) (fun x hx hx2 he => ?_)
          rcases Nat.lt_or_ge x s with c | c
          · rw [upd_ne (by omega)]; exact hf x c hx2 he
          · rw [show x = s by omega, upd_eq, dM_n (fun e => by
              have h1 := h7.mp e
              rw [hab] at h1
              cases h1)]
set_option maxRecDepth 4000 in
theorem sp_X10_takeState {G : sh_G} {S : Nat → Int32} {A : Nat → Nat → Int32} {Lg : Nat → Int64} {P : Nat → Option Nat} {T : List sh_C} {t : tp} {R : Nat} {ab : Nat → Bool} {w0 m : Nat} {sw : Nat → Nat} (ht : tV R ab t) (hR : R ≤ 6) (hP : KP S A w0 sw m ab) : Ev G mX10_takeState 0 0 (mkW G S A Lg P T) 0 [some (.ref 24), some (.int (nI (cM t))), none, none] [] (fun v w => v = none ∧ ∃ f : Nat → Int32, w = mkW G (va_up S 29 (nI t.1)) (va_up A 30 f) Lg P T ∧ ∀ s, s < m → ab s = false → f s = nI (tG t s)) := by
  have hx := cM_lt hR ht
  refine e_aload_n 0 dX10_takeState_0 rfl rfl ?_
  refine e_iload_n 1 dX10_takeState_1 rfl rfl ?_
  refine e_bipush (v := 6) dX10_takeState_2 (by decide) ?_
  refine e_irem dX10_takeState_4 (by decide) ?_
  rw [show nI (cM t) - nI (cM t) / 6 * 6 = nI (cM t % 6) from pk_rem (d := 6) (by omega) (by omega) (by omega), cM_room ht hR]
  refine e_putfield 19 dX10_takeState_5 kp_X10_takeState_207_10 (sh_fit_i _) rfl (Nat.le_of_ble_eq_true rfl) ?_
  refine e_w (w' := mkW G (va_up S 29 (nI t.1)) (va_up A 30 (A 30)) Lg P T) (by rw [up_self]; rfl) ?_
  refine e_iload_n 1 dX10_takeState_8 rfl rfl ?_
  refine e_bipush (v := 6) dX10_takeState_9 (by decide) ?_
  refine e_idiv dX10_takeState_11 (by decide) ?_
  rw [show nI (cM t) / 6 = nI (cM t / 6) from pk_div (d := 6) (by omega) (by omega) (by omega)]
  refine e_istore_n (lv' := [_, _, _, _]) 2 dX10_takeState_12 rfl (Nat.le_of_ble_eq_true rfl) rfl rfl ?_
  refine e_iconst (v := 0) dX10_takeState_13 rfl ?_
  refine e_istore_n (lv' := [_, _, _, _]) 3 dX10_takeState_14 rfl (Nat.le_of_ble_eq_true rfl) rfl rfl ?_
  rw [show cM t / 6 = cM t / 6 / 7 ^ 0 from (Nat.div_one _).symm]
  exact lp_X10_takeState ht hR hP 5 0 (A 30) (by omega) (by omega) (fun x hx => absurd hx (Nat.not_lt_zero x))

set_option maxRecDepth 8000 in
theorem sp_X10_add {G : sh_G} {S : Nat → Int32} {A : Nat → Nat → Int32} {Lg : Nat → Int64} {P : Nat → Option Nat} {T : List sh_C} {t : tp} {R : Nat} {ab : Nat → Bool} {w0 m : Nat} {sw : Nat → Nat} {q : bq} {f s : Nat} {fI sI : Int32} (ht : tV R ab t) (hR : R ≤ 6) (hP : KP S A w0 sw m ab) (hT : KT S A m ab t) (hQ : KQ S A q) (hv : ∀ i, i < q.1 → tV R ab (q.2.1 i)) (hl : ¬ inB q.2.1 t q.1 = true → q.1 < 14406) (hl2 : q.1 ≤ 14406) (hf : fI = if q.1 = 0 then -9 else nI f) (hs : sI = if q.1 = 0 then -9 else nI s) : Ev G mX10_add 0 0 (mkW G S A Lg P T) 0 [some (.ref 24), some (.int fI), some (.int sI), none] [] (fun v w => v = none ∧ ∃ S' A', w = mkW G S' A' Lg P T ∧ KQ S' A' (adq q t f s) ∧ KF S A S' A') := by
  have hx := cM_lt hR ht
  refine e_aload_n 0 dX10_add_0 rfl rfl ?_
  refine f_callVi (As := []) ok_X10_stateNow ⟨Nat.le_of_ble_eq_true rfl, Nat.le_of_ble_eq_true rfl⟩ dX10_add_1 kl_X10_210 ki_X10_stateNow kv_X10_stateNow rfl rfl rfl rfl (Nat.le_of_ble_eq_true rfl) (Nat.le_of_ble_eq_true rfl) (Nat.zero_add _) (Nat.zero_add _) (sp_X10_stateNow ht hR hP hT) ?_
  refine e_istore_n (lv' := [_, _, _, _]) 3 dX10_add_4 rfl (Nat.le_of_ble_eq_true rfl) rfl rfl ?_
  refine e_aload_n 0 dX10_add_5 rfl rfl ?_
  refine e_getfield 27 dX10_add_6 kf_X10_59_10 rfl rfl ?_
  refine e_iload_n 3 dX10_add_9 rfl rfl ?_
  refine e_zald_n (cM t) dX10_add_10 rfl rfl (by omega) (by decide) ?_
  refine e_if_ne (tgt := 61) dX10_add_11 rfl (fun h11 => ?_) (fun h11 => ?_)
  · try refine e_w (w' := mkW G (va_up S 31 (nI (q.1 + 1))) (va_up (va_up (va_up (va_up A 36 (upd (A 36) (cM t) 1)) 33 (upd (A 33) q.1 (nI (cM t)))) 34 (upd (A 34) q.1 fI)) 35 (upd (A 35) q.1 sI)) Lg P T) (by rw [← nI_1, ← hQ.1]; rfl) ?_
    exact e_vret dX10_add_61 rfl (by
        first
        | (have hin : inB q.2.1 t q.1 = true := (hQ.in hR hv ht).mp h11
           exact ⟨rfl, S, A, rfl, by rw [adq_y hin]; exact hQ, KF.rf⟩)
        | exact ⟨rfl, _, _, rfl, hQ.ad hn hf hs, (KF.S (by omega)).tr ((KF.A (by omega)).tr ((KF.A (by omega)).tr ((KF.A (by omega)).tr (KF.A (by omega)))))⟩)
  · have hn : ¬ inB q.2.1 t q.1 = true := fun g => ((hQ.in hR hv ht).mpr g) h11
    have hl := hl hn
    refine e_aload_n 0 dX10_add_14 rfl rfl ?_
    refine e_getfield 27 dX10_add_15 kf_X10_59_10 rfl rfl ?_
    refine e_iload_n 3 dX10_add_18 rfl rfl ?_
    refine e_iconst (v := 1) dX10_add_19 rfl ?_
    refine e_zast_n (cM t) dX10_add_20 rfl rfl (by omega) (by decide) rfl ?_
    refine e_w (w' := mkW G S (va_up A 36 (upd (A 36) (cM t) 1)) Lg P T) rfl ?_
    refine e_aload_n 0 dX10_add_21 rfl rfl ?_
    refine e_getfield 24 dX10_add_22 kf_X10_50_10 rfl rfl ?_
    refine e_aload_n 0 dX10_add_25 rfl rfl ?_
    refine e_getfield 28 dX10_add_26 kf_X10_214_10 rfl rfl ?_
    refine e_iload_n 3 dX10_add_29 rfl rfl ?_
    refine e_iast_n (q.1) dX10_add_30 rfl hQ.1 (by omega) (by decide) ?_
    refine e_w (w' := mkW G S (va_up (va_up A 36 (upd (A 36) (cM t) 1)) 33 (upd (A 33) q.1 (nI (cM t)))) Lg P T) rfl ?_
    refine e_aload_n 0 dX10_add_31 rfl rfl ?_
    refine e_getfield 25 dX10_add_32 kf_X10_53_10 rfl rfl ?_
    refine e_aload_n 0 dX10_add_35 rfl rfl ?_
    refine e_getfield 28 dX10_add_36 kf_X10_214_10 rfl rfl ?_
    refine e_iload_n 1 dX10_add_39 rfl rfl ?_
    refine e_iast_n (q.1) dX10_add_40 rfl hQ.1 (by omega) (by decide) ?_
    refine e_w (w' := mkW G S (va_up (va_up (va_up A 36 (upd (A 36) (cM t) 1)) 33 (upd (A 33) q.1 (nI (cM t)))) 34 (upd (A 34) q.1 fI)) Lg P T) rfl ?_
    refine e_aload_n 0 dX10_add_41 rfl rfl ?_
    refine e_getfield 26 dX10_add_42 kf_X10_56_10 rfl rfl ?_
    refine e_aload_n 0 dX10_add_45 rfl rfl ?_
    refine e_getfield 28 dX10_add_46 kf_X10_214_10 rfl rfl ?_
    refine e_iload_n 2 dX10_add_49 rfl rfl ?_
    refine e_iast_n (q.1) dX10_add_50 rfl hQ.1 (by omega) (by decide) ?_
    refine e_w (w' := mkW G S (va_up (va_up (va_up (va_up A 36 (upd (A 36) (cM t) 1)) 33 (upd (A 33) q.1 (nI (cM t)))) 34 (upd (A 34) q.1 fI)) 35 (upd (A 35) q.1 sI)) Lg P T) rfl ?_
    refine e_aload_n 0 dX10_add_51 rfl rfl ?_
    refine e_dup dX10_add_52 rfl ?_
    refine e_getfield 28 dX10_add_53 kf_X10_214_10 rfl rfl ?_
    refine e_iconst (v := 1) dX10_add_56 rfl ?_
    refine e_iadd dX10_add_57 ?_
    refine e_putfield 28 dX10_add_58 kp_X10_add_214_10 (sh_fit_i _) rfl (Nat.le_of_ble_eq_true rfl) ?_
    try refine e_w (w' := mkW G (va_up S 31 (nI (q.1 + 1))) (va_up (va_up (va_up (va_up A 36 (upd (A 36) (cM t) 1)) 33 (upd (A 33) q.1 (nI (cM t)))) 34 (upd (A 34) q.1 fI)) 35 (upd (A 35) q.1 sI)) Lg P T) (by rw [← nI_1, ← hQ.1]; rfl) ?_
    exact e_vret dX10_add_61 rfl (by
        first
        | (have hin : inB q.2.1 t q.1 = true := (hQ.in hR hv ht).mp h11
           exact ⟨rfl, S, A, rfl, by rw [adq_y hin]; exact hQ, KF.rf⟩)
        | exact ⟨rfl, _, _, rfl, hQ.ad hn hf hs, (KF.S (by omega)).tr ((KF.A (by omega)).tr ((KF.A (by omega)).tr ((KF.A (by omega)).tr (KF.A (by omega)))))⟩)

set_option maxRecDepth 8000 in
theorem lp_X10_carriedNow {G : sh_G} {S : Nat → Int32} {A : Nat → Nat → Int32} {Lg : Nat → Int64} {P : Nat → Option Nat} {T : List sh_C} {t : tp} {R : Nat} {ab : Nat → Bool} {w0 m : Nat} {sw : Nat → Nat} (ht : tV R ab t) (hR : R ≤ 6) (hP : KP S A w0 sw m ab) (hT : KT S A m ab t) : ∀ (y s : Nat), m - s < y → s ≤ m → Ev G mX10_carriedNow 0 0 (mkW G S A Lg P T) 4 [some (.ref 24), some (.int (nI (cr t s))), some (.int (nI s))] [] (sh_is (some (.int (nI (cr t m)))) (mkW G S A Lg P T)) := by
  obtain ⟨k1, k2, k3, k4, k5, k6⟩ := hP
  have hP : KP S A w0 sw m ab := ⟨k1, k2, k3, k4, k5, k6⟩
  intro y
  induction y with
  | zero => intro s hy; omega
  | succ y ih =>
    intro s hy hs
    refine e_iload_n 2 dX10_carriedNow_4 rfl rfl ?_
    refine e_aload_n 0 dX10_carriedNow_5 rfl rfl ?_
    refine e_getfield 20 dX10_carriedNow_6 kf_X10_204_10 rfl rfl ?_
    rw [k2]
    refine e_icmp_ge (tgt := 46) dX10_carriedNow_9 rfl (fun h9 => ?_) (fun h9 => ?_)
    · refine e_iload_n 1 dX10_carriedNow_46 rfl rfl ?_
      exact e_iret dX10_carriedNow_47 rfl (is_i (by rw [show s = m by rw [nI_leI (by omega) (by omega)] at h9; omega]) rfl)
    · have hlt : s < m := by rw [nI_leI (by omega) (by omega)] at h9; omega
      obtain ⟨h8, h7⟩ := ht.2 s (by omega)
      refine e_iload_n 1 dX10_carriedNow_12 rfl rfl ?_
      refine e_aload_n 0 dX10_carriedNow_13 rfl rfl ?_
      refine e_getfield 23 dX10_carriedNow_14 kf_X10_46_10 rfl rfl ?_
      refine e_iload_n 2 dX10_carriedNow_17 rfl rfl ?_
      refine e_zald_n (s) dX10_carriedNow_18 rfl rfl (by omega) (by decide) ?_
      refine e_if_eq (tgt := 37) dX10_carriedNow_19 rfl (fun h19 => ?_) (fun h19 => ?_)
      · refine e_iconst (v := 0) dX10_carriedNow_37 rfl ?_
        refine e_iadd dX10_carriedNow_38 ?_
        refine e_st (st' := [.int (nI (cr t (s + 1)))]) (by
          rw [cr]
          first
          | (have e7 : tG t s = 7 := h7.mpr (hP.no hlt h19)
             rw [if_neg (by omega), Nat.add_zero]; exact congrArg (fun x => [Value.int x]) (Int32.add_zero _))
          | (have e6 : ¬ tG t s = 6 := fun e => h30 ((hT.2 s hlt (hP.ye hlt h19)).trans (congrArg nI e))
             rw [if_neg e6, Nat.add_zero]; exact congrArg (fun x => [Value.int x]) (Int32.add_zero _))
          | (have e6 : tG t s = 6 := (nI_eq (by omega) (by omega)).mp ((hT.2 s hlt (hP.ye hlt h19)).symm.trans h30)
             rw [if_pos e6, ← nI_1])) ?_
        refine e_istore_n (lv' := [_, _, _]) 1 dX10_carriedNow_39 rfl (Nat.le_of_ble_eq_true rfl) rfl rfl ?_
        refine e_iinc (v := _ + 1) (lv' := [_, _, _]) dX10_carriedNow_40 rfl (Nat.le_of_ble_eq_true rfl) rfl rfl rfl ?_
        refine e_goto (tgt := 4) dX10_carriedNow_43 rfl ?_
        rw [nI_1]
        exact ih (s + 1) (by omega) (by omega)
      · refine e_aload_n 0 dX10_carriedNow_22 rfl rfl ?_
        refine e_getfield 21 dX10_carriedNow_23 kf_X10_40_10 rfl rfl ?_
        refine e_iload_n 2 dX10_carriedNow_26 rfl rfl ?_
        refine e_iald_n (s) dX10_carriedNow_27 rfl rfl (by omega) (by decide) ?_
        refine e_bipush (v := 6) dX10_carriedNow_28 (by decide) ?_
        refine e_icmp_ne (tgt := 37) dX10_carriedNow_30 rfl (fun h30 => ?_) (fun h30 => ?_)
        · refine e_iconst (v := 0) dX10_carriedNow_37 rfl ?_
          refine e_iadd dX10_carriedNow_38 ?_
          refine e_st (st' := [.int (nI (cr t (s + 1)))]) (by
            rw [cr]
            first
            | (have e7 : tG t s = 7 := h7.mpr (hP.no hlt h19)
               rw [if_neg (by omega), Nat.add_zero]; exact congrArg (fun x => [Value.int x]) (Int32.add_zero _))
            | (have e6 : ¬ tG t s = 6 := fun e => h30 ((hT.2 s hlt (hP.ye hlt h19)).trans (congrArg nI e))
               rw [if_neg e6, Nat.add_zero]; exact congrArg (fun x => [Value.int x]) (Int32.add_zero _))
            | (have e6 : tG t s = 6 := (nI_eq (by omega) (by omega)).mp ((hT.2 s hlt (hP.ye hlt h19)).symm.trans h30)
               rw [if_pos e6, ← nI_1])) ?_
          refine e_istore_n (lv' := [_, _, _]) 1 dX10_carriedNow_39 rfl (Nat.le_of_ble_eq_true rfl) rfl rfl ?_
          refine e_iinc (v := _ + 1) (lv' := [_, _, _]) dX10_carriedNow_40 rfl (Nat.le_of_ble_eq_true rfl) rfl rfl rfl ?_
          refine e_goto (tgt := 4) dX10_carriedNow_43 rfl ?_
          rw [nI_1]
          exact ih (s + 1) (by omega) (by omega)
        · refine e_iconst (v := 1) dX10_carriedNow_33 rfl ?_
          refine e_goto (tgt := 38) dX10_carriedNow_34 rfl ?_
          refine e_iadd dX10_carriedNow_38 ?_
          refine e_st (st' := [.int (nI (cr t (s + 1)))]) (by
            rw [cr]
            first
            | (have e7 : tG t s = 7 := h7.mpr (hP.no hlt h19)
               rw [if_neg (by omega), Nat.add_zero]; exact congrArg (fun x => [Value.int x]) (Int32.add_zero _))
            | (have e6 : ¬ tG t s = 6 := fun e => h30 ((hT.2 s hlt (hP.ye hlt h19)).trans (congrArg nI e))
               rw [if_neg e6, Nat.add_zero]; exact congrArg (fun x => [Value.int x]) (Int32.add_zero _))
            | (have e6 : tG t s = 6 := (nI_eq (by omega) (by omega)).mp ((hT.2 s hlt (hP.ye hlt h19)).symm.trans h30)
               rw [if_pos e6, ← nI_1])) ?_
          refine e_istore_n (lv' := [_, _, _]) 1 dX10_carriedNow_39 rfl (Nat.le_of_ble_eq_true rfl) rfl rfl ?_
          refine e_iinc (v := _ + 1) (lv' := [_, _, _]) dX10_carriedNow_40 rfl (Nat.le_of_ble_eq_true rfl) rfl rfl rfl ?_
          refine e_goto (tgt := 4) dX10_carriedNow_43 rfl ?_
          rw [nI_1]
          exact ih (s + 1) (by omega) (by omega)
set_option maxRecDepth 4000 in
theorem sp_X10_carriedNow {G : sh_G} {S : Nat → Int32} {A : Nat → Nat → Int32} {Lg : Nat → Int64} {P : Nat → Option Nat} {T : List sh_C} {t : tp} {R : Nat} {ab : Nat → Bool} {w0 m : Nat} {sw : Nat → Nat} (ht : tV R ab t) (hR : R ≤ 6) (hP : KP S A w0 sw m ab) (hT : KT S A m ab t) : Ev G mX10_carriedNow 0 0 (mkW G S A Lg P T) 0 [some (.ref 24), none, none] [] (sh_is (some (.int (nI (cr t 4)))) (mkW G S A Lg P T)) := by
  refine e_iconst (v := 0) dX10_carriedNow_0 rfl ?_
  refine e_istore_n (lv' := [_, _, _]) 1 dX10_carriedNow_1 rfl (Nat.le_of_ble_eq_true rfl) rfl rfl ?_
  refine e_iconst (v := 0) dX10_carriedNow_2 rfl ?_
  refine e_istore_n (lv' := [_, _, _]) 2 dX10_carriedNow_3 rfl (Nat.le_of_ble_eq_true rfl) rfl rfl ?_
  have e := cr_ge (t := t) (m := m) (fun s h1 h2 => hP.out ht h1 h2) (n := 4 - m) (by have := hP.2.2.1; omega)
  rw [show m + (4 - m) = 4 by have := hP.2.2.1; omega] at e
  rw [e]
  exact lp_X10_carriedNow ht hR hP hT (m + 1) 0 (by omega) (by omega)

set_option maxRecDepth 8000 in
theorem lp_X10_weightNow {G : sh_G} {S : Nat → Int32} {A : Nat → Nat → Int32} {Lg : Nat → Int64} {P : Nat → Option Nat} {T : List sh_C} {t : tp} {R : Nat} {ab : Nat → Bool} {w0 m : Nat} {sw : Nat → Nat} (ht : tV R ab t) (hR : R ≤ 6) (hP : KP S A w0 sw m ab) (hT : KT S A m ab t) : ∀ (y s : Nat), m - s < y → s ≤ m → Ev G mX10_weightNow 0 0 (mkW G S A Lg P T) 7 [some (.ref 24), some (.int (nI (tw w0 sw t s))), some (.int (nI s))] [] (sh_is (some (.int (nI (tw w0 sw t m)))) (mkW G S A Lg P T)) := by
  obtain ⟨k1, k2, k3, k4, k5, k6⟩ := hP
  have hP : KP S A w0 sw m ab := ⟨k1, k2, k3, k4, k5, k6⟩
  intro y
  induction y with
  | zero => intro s hy; omega
  | succ y ih =>
    intro s hy hs
    refine e_iload_n 2 dX10_weightNow_7 rfl rfl ?_
    refine e_aload_n 0 dX10_weightNow_8 rfl rfl ?_
    refine e_getfield 20 dX10_weightNow_9 kf_X10_204_10 rfl rfl ?_
    rw [k2]
    refine e_icmp_ge (tgt := 54) dX10_weightNow_12 rfl (fun h12 => ?_) (fun h12 => ?_)
    · refine e_iload_n 1 dX10_weightNow_54 rfl rfl ?_
      exact e_iret dX10_weightNow_55 rfl (is_i (by rw [show s = m by rw [nI_leI (by omega) (by omega)] at h12; omega]) rfl)
    · have hlt : s < m := by rw [nI_leI (by omega) (by omega)] at h12; omega
      obtain ⟨h8, h7⟩ := ht.2 s (by omega)
      refine e_iload_n 1 dX10_weightNow_15 rfl rfl ?_
      refine e_aload_n 0 dX10_weightNow_16 rfl rfl ?_
      refine e_getfield 23 dX10_weightNow_17 kf_X10_46_10 rfl rfl ?_
      refine e_iload_n 2 dX10_weightNow_20 rfl rfl ?_
      refine e_zald_n (s) dX10_weightNow_21 rfl rfl (by omega) (by decide) ?_
      refine e_if_eq (tgt := 45) dX10_weightNow_22 rfl (fun h22 => ?_) (fun h22 => ?_)
      · refine e_iconst (v := 0) dX10_weightNow_45 rfl ?_
        refine e_iadd dX10_weightNow_46 ?_
        refine e_st (st' := [.int (nI (tw w0 sw t (s + 1)))]) (by
          rw [tw]
          first
          | (have e7 : tG t s = 7 := h7.mpr (hP.no hlt h22)
             rw [if_neg (by omega), Nat.add_zero]; exact congrArg (fun x => [Value.int x]) (Int32.add_zero _))
          | (have e6 : ¬ tG t s = 6 := fun e => h33 ((hT.2 s hlt (hP.ye hlt h22)).trans (congrArg nI e))
             rw [if_neg e6, Nat.add_zero]; exact congrArg (fun x => [Value.int x]) (Int32.add_zero _))
          | (have e6 : tG t s = 6 := (nI_eq (by omega) (by omega)).mp ((hT.2 s hlt (hP.ye hlt h22)).symm.trans h33)
             rw [if_pos e6, ← addN, k5 s hlt (hP.ye hlt h22)])) ?_
        refine e_istore_n (lv' := [_, _, _]) 1 dX10_weightNow_47 rfl (Nat.le_of_ble_eq_true rfl) rfl rfl ?_
        refine e_iinc (v := _ + 1) (lv' := [_, _, _]) dX10_weightNow_48 rfl (Nat.le_of_ble_eq_true rfl) rfl rfl rfl ?_
        refine e_goto (tgt := 7) dX10_weightNow_51 rfl ?_
        rw [nI_1]
        exact ih (s + 1) (by omega) (by omega)
      · refine e_aload_n 0 dX10_weightNow_25 rfl rfl ?_
        refine e_getfield 21 dX10_weightNow_26 kf_X10_40_10 rfl rfl ?_
        refine e_iload_n 2 dX10_weightNow_29 rfl rfl ?_
        refine e_iald_n (s) dX10_weightNow_30 rfl rfl (by omega) (by decide) ?_
        refine e_bipush (v := 6) dX10_weightNow_31 (by decide) ?_
        refine e_icmp_ne (tgt := 45) dX10_weightNow_33 rfl (fun h33 => ?_) (fun h33 => ?_)
        · refine e_iconst (v := 0) dX10_weightNow_45 rfl ?_
          refine e_iadd dX10_weightNow_46 ?_
          refine e_st (st' := [.int (nI (tw w0 sw t (s + 1)))]) (by
            rw [tw]
            first
            | (have e7 : tG t s = 7 := h7.mpr (hP.no hlt h22)
               rw [if_neg (by omega), Nat.add_zero]; exact congrArg (fun x => [Value.int x]) (Int32.add_zero _))
            | (have e6 : ¬ tG t s = 6 := fun e => h33 ((hT.2 s hlt (hP.ye hlt h22)).trans (congrArg nI e))
               rw [if_neg e6, Nat.add_zero]; exact congrArg (fun x => [Value.int x]) (Int32.add_zero _))
            | (have e6 : tG t s = 6 := (nI_eq (by omega) (by omega)).mp ((hT.2 s hlt (hP.ye hlt h22)).symm.trans h33)
               rw [if_pos e6, ← addN, k5 s hlt (hP.ye hlt h22)])) ?_
          refine e_istore_n (lv' := [_, _, _]) 1 dX10_weightNow_47 rfl (Nat.le_of_ble_eq_true rfl) rfl rfl ?_
          refine e_iinc (v := _ + 1) (lv' := [_, _, _]) dX10_weightNow_48 rfl (Nat.le_of_ble_eq_true rfl) rfl rfl rfl ?_
          refine e_goto (tgt := 7) dX10_weightNow_51 rfl ?_
          rw [nI_1]
          exact ih (s + 1) (by omega) (by omega)
        · refine e_aload_n 0 dX10_weightNow_36 rfl rfl ?_
          refine e_getfield 22 dX10_weightNow_37 kf_X10_43_10 rfl rfl ?_
          refine e_iload_n 2 dX10_weightNow_40 rfl rfl ?_
          refine e_iald_n (s) dX10_weightNow_41 rfl rfl (by omega) (by decide) ?_
          refine e_goto (tgt := 46) dX10_weightNow_42 rfl ?_
          refine e_iadd dX10_weightNow_46 ?_
          refine e_st (st' := [.int (nI (tw w0 sw t (s + 1)))]) (by
            rw [tw]
            first
            | (have e7 : tG t s = 7 := h7.mpr (hP.no hlt h22)
               rw [if_neg (by omega), Nat.add_zero]; exact congrArg (fun x => [Value.int x]) (Int32.add_zero _))
            | (have e6 : ¬ tG t s = 6 := fun e => h33 ((hT.2 s hlt (hP.ye hlt h22)).trans (congrArg nI e))
               rw [if_neg e6, Nat.add_zero]; exact congrArg (fun x => [Value.int x]) (Int32.add_zero _))
            | (have e6 : tG t s = 6 := (nI_eq (by omega) (by omega)).mp ((hT.2 s hlt (hP.ye hlt h22)).symm.trans h33)
               rw [if_pos e6, ← addN, k5 s hlt (hP.ye hlt h22)])) ?_
          refine e_istore_n (lv' := [_, _, _]) 1 dX10_weightNow_47 rfl (Nat.le_of_ble_eq_true rfl) rfl rfl ?_
          refine e_iinc (v := _ + 1) (lv' := [_, _, _]) dX10_weightNow_48 rfl (Nat.le_of_ble_eq_true rfl) rfl rfl rfl ?_
          refine e_goto (tgt := 7) dX10_weightNow_51 rfl ?_
          rw [nI_1]
          exact ih (s + 1) (by omega) (by omega)
set_option maxRecDepth 4000 in
theorem sp_X10_weightNow {G : sh_G} {S : Nat → Int32} {A : Nat → Nat → Int32} {Lg : Nat → Int64} {P : Nat → Option Nat} {T : List sh_C} {t : tp} {R : Nat} {ab : Nat → Bool} {w0 m : Nat} {sw : Nat → Nat} (ht : tV R ab t) (hR : R ≤ 6) (hP : KP S A w0 sw m ab) (hT : KT S A m ab t) : Ev G mX10_weightNow 0 0 (mkW G S A Lg P T) 0 [some (.ref 24), none, none] [] (sh_is (some (.int (nI (tw w0 sw t 4)))) (mkW G S A Lg P T)) := by
  refine e_aload_n 0 dX10_weightNow_0 rfl rfl ?_
  refine e_getfield 18 dX10_weightNow_1 kf_X10_217_10 rfl rfl ?_
  rw [show S 28 = nI w0 from hP.1]
  refine e_istore_n (lv' := [_, _, _]) 1 dX10_weightNow_4 rfl (Nat.le_of_ble_eq_true rfl) rfl rfl ?_
  refine e_iconst (v := 0) dX10_weightNow_5 rfl ?_
  refine e_istore_n (lv' := [_, _, _]) 2 dX10_weightNow_6 rfl (Nat.le_of_ble_eq_true rfl) rfl rfl ?_
  have e := tw_ge (t := t) (m := m) (w0 := w0) (sw := sw) (fun s h1 h2 => hP.out ht h1 h2) (n := 4 - m) (by have := hP.2.2.1; omega)
  rw [show m + (4 - m) = 4 by have := hP.2.2.1; omega] at e
  rw [e]
  exact lp_X10_weightNow ht hR hP hT (m + 1) 0 (by omega) (by omega)
