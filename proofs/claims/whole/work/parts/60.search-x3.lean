theorem adq_0 {t : tp} : adq (0, fun _ => t, fun _ => 0, fun _ => 0) t 0 0 = (1, fun _ => t, fun _ => 0, fun _ => 0) := by
  rw [adq_n (fun h => Bool.noConfusion h)]
  have e : ∀ {α : Type} (x : α), va_up (fun _ : Nat => x) 0 x = fun _ => x := fun x => funext fun j => by unfold va_up; split <;> rfl
  rw [e, e]
/-- what was found: the answer, and the way back -/
def fiR (b : sh_be) (w0 : Nat) (sw : Nat → Nat) (t0 : tp) (g : Nat) (v : Option Value) (S : Nat → Int32) (A : Nat → Nat → Int32) : Prop :=
  (v = some (.int 0) ∧ fiN b w0 sw t0 g = none) ∨ (v = some (.int 1) ∧ ∃ i, fiN b w0 sw t0 g = some i ∧ i < 14406 ∧ S 9 = nI i ∧ ∀ x, x ≤ i → A 5 x = nI (32 * (fiQ b w0 sw t0).2.2.1 x + (fiQ b w0 sw t0).2.2.2 x))
def SG (S : Nat → Int32) (A : Nat → Nat → Int32) (S' : Nat → Int32) (A' : Nat → Nat → Int32) : Prop := (∀ i, ¬ (5 ≤ i ∧ i ≤ 9) → S' i = S i) ∧ (∀ i, ¬ (4 ≤ i ∧ i ≤ 6) → A' i = A i)
theorem SG.tr {S A S1 A1 S2 A2} (h : SG S A S1 A1) (h2 : SG S1 A1 S2 A2) : SG S A S2 A2 := ⟨fun i a => (h2.1 i a).trans (h.1 i a), fun i a => (h2.2 i a).trans (h.2 i a)⟩
theorem SG.rf {S A} : SG S A S A := ⟨fun _ _ => rfl, fun _ _ => rfl⟩
theorem SF.sg {S A S' A'} (h : SF S A S' A') : SG S A S' A' := ⟨fun i a => h.1 i (by omega) (by omega), fun i a => h.2 i (by omega) (by omega)⟩
theorem SG.S {S A} {k : Nat} {x : Int32} (h : 5 ≤ k ∧ k ≤ 9) : SG S A (va_up S k x) A := ⟨fun i hi => up_ne (by omega), fun i hi => rfl⟩
theorem SG.A {S A} {k : Nat} {x : Nat → Int32} (h : 4 ≤ k ∧ k ≤ 6) : SG S A S (va_up A k x) := ⟨fun i hi => rfl, fun i hi => up_ne (by omega)⟩
theorem RX.sr {S A Lg P T b S' A' Lg'} (h : RX S A Lg P T b) (hf : SG S A S' A') (hz : ∀ j, Lg' j = 0) : RX S' A' Lg' P T b := by
  obtain ⟨h0, h1, h2, h3, h4, h5, h6, h7, h8, h9, h10⟩ := h
  refine ⟨by rw [hf.1 0 (by omega)]; exact h0, by rw [hf.1 1 (by omega)]; exact h1, by rw [hf.1 2 (by omega)]; exact h2, by rw [hf.1 3 (by omega)]; exact h3, by rw [hf.1 4 (by omega)]; exact h4, by rw [hf.1 10 (by omega)]; exact h5, fun k hk => ?_, h7, by rw [hf.2 0 (by omega), hf.2 1 (by omega)]; exact h8, by rw [hf.2 2 (by omega), hf.2 3 (by omega)]; exact h9, hz⟩
  have := h6 k hk
  unfold shX at this ⊢
  rw [hf.1 (11 + k) (by omega), hf.1 (15 + k) (by omega), hf.2 (7 + k) (by omega)]
  exact this
theorem SG.fx {S A S' A'} (h : SG S A S' A') : FX S A S' A' := fun i hi => ⟨h.1 i (by omega), h.2 i (by omega)⟩
set_option maxRecDepth 8000 in
theorem lp_X2_forgetSeen {G : sh_G} {S : Nat → Int32} {A : Nat → Nat → Int32} {P : Nat → Option Nat} {T : List sh_C} {q : bq} {R : Nat} {ab : Nat → Bool} (hR : R ≤ 6) (h7 : S 7 = nI q.1) (hl : q.1 ≤ 14406) (hA : ∀ i, i < q.1 → A 4 i = nI (cX (q.2.1 i))) (hv : ∀ i, i < q.1 → tV R ab (q.2.1 i)) : ∀ (y i : Nat) (Lg : Nat → Int64), q.1 - i < y → i ≤ q.1 → (∀ j, ¬ Lg j = 0 → ∃ x, i ≤ x ∧ x < q.1 ∧ cX (q.2.1 x) / 64 = j) → Ev G mX2_forgetSeen 0 0 (mkW G S A Lg P T) 2 [some (.ref 10), some (.int (nI i))] [] (fun v w => v = none ∧ ∃ Lg', w = mkW G S A Lg' P T ∧ ∀ j, Lg' j = 0) := by
  intro y
  induction y with
  | zero => intro i Lg hy; omega
  | succ y ih =>
    intro i Lg hy hi hz
    refine e_iload_n 1 dX2_forgetSeen_2 rfl rfl ?_
    refine e_aload_n 0 dX2_forgetSeen_3 rfl rfl ?_
    refine e_getfield 6 dX2_forgetSeen_4 kf_X2_42_2 rfl rfl ?_
    rw [h7]
    refine e_icmp_ge (tgt := 31) dX2_forgetSeen_7 rfl (fun h7x => ?_) (fun h7x => ?_)
    · exact e_vret dX2_forgetSeen_31 rfl (by
          refine ⟨rfl, Lg, rfl, fun j => Classical.byContradiction fun hj => ?_⟩
          obtain ⟨x, x1, x2, x3⟩ := hz j hj
          rw [nI_leI (by omega) (by omega)] at h7x
          omega)
    · have hlt : i < q.1 := by rw [nI_leI (by omega) (by omega)] at h7x; omega
      have hx := cX_lt hR (hv i hlt)
      refine e_aload_n 0 dX2_forgetSeen_10 rfl rfl ?_
      refine e_getfield 2 dX2_forgetSeen_11 kf_X2_18_2 rfl rfl ?_
      refine e_aload_n 0 dX2_forgetSeen_14 rfl rfl ?_
      refine e_getfield 0 dX2_forgetSeen_15 kf_X2_11_2 rfl rfl ?_
      refine e_iload_n 1 dX2_forgetSeen_18 rfl rfl ?_
      refine e_iald_n (i) dX2_forgetSeen_19 rfl rfl (by omega) (by decide) ?_
      refine e_bipush (v := 64) dX2_forgetSeen_20 (by decide) ?_
      rw [hA i hlt]
      refine e_idiv dX2_forgetSeen_22 (by decide) ?_
      rw [div64 (by omega)]
      refine e_lconst (v := 0) dX2_forgetSeen_23 rfl ?_
      refine e_last_n (cX (q.2.1 i) / 64) dX2_forgetSeen_24 rfl rfl (by omega) (by decide) ?_
      refine e_w (w' := mkW G S A (vp_updL Lg (cX (q.2.1 i) / 64) 0) P T) rfl ?_
      refine e_iinc (v := _ + 1) (lv' := [_, _]) dX2_forgetSeen_25 rfl (Nat.le_of_ble_eq_true rfl) rfl rfl rfl ?_
      refine e_goto (tgt := 2) dX2_forgetSeen_28 rfl ?_
      rw [nI_1]
      refine ih (i + 1) _ (by omega) (by omega) (fun j hj => ?_)
      unfold vp_updL at hj
      split at hj
      · exact absurd rfl hj
      · rename_i g
        obtain ⟨x, x1, x2, x3⟩ := hz j hj
        exact ⟨x, by rcases Nat.lt_or_ge i x with c | c
                     · omega
                     · exact absurd (by rw [← x3, show x = i by omega]) g, x2, x3⟩
set_option maxRecDepth 4000 in
theorem sp_X2_forgetSeen {G : sh_G} {S : Nat → Int32} {A : Nat → Nat → Int32} {Lg : Nat → Int64} {P : Nat → Option Nat} {T : List sh_C} {q : bq} {R g w0 : Nat} {sw : Nat → Nat} {ab : Nat → Bool} (hR : R ≤ 6) (hq : IQ R ab q) (hS : RS S A Lg w0 sw g q) : Ev G mX2_forgetSeen 0 0 (mkW G S A Lg P T) 0 [some (.ref 10), none] [] (fun v w => v = none ∧ ∃ Lg', w = mkW G S A Lg' P T ∧ ∀ j, Lg' j = 0) := by
  refine e_iconst (v := 0) dX2_forgetSeen_0 rfl ?_
  refine e_istore_n (lv' := [_, _]) 1 dX2_forgetSeen_1 rfl (Nat.le_of_ble_eq_true rfl) rfl rfl ?_
  refine lp_X2_forgetSeen hR hS.1 (hq.len hR) (fun i hi => (hS.2.2.2.2.2.1 i hi).1) hq.2.1 (q.1 + 1) 0 Lg (by omega) (by omega) (fun j hj => ?_)
  obtain ⟨k, k1, k2⟩ := zero_bits hj
  obtain ⟨i, i1, i2⟩ := (hS.2.2.2.2.2.2 j k k1).mp k2
  exact ⟨i, by omega, i1, by omega⟩

set_option maxRecDepth 8000 in
theorem lp_X2_finds {G : sh_G} {P : Nat → Option Nat} {T : List sh_C} {ab : Nat → Bool} {g w0 : Nat} {sw : Nat → Nat} {b : sh_be} {t0 : tp} (hI : IV b) (hg : g < 100) (h0 : tV (bn b 0) ab t0) (hw0 : w0 < 1000) (hsw : ∀ s, s < 4 → sw s < 100) : ∀ (y k : Nat) (S : Nat → Int32) (A : Nat → Nat → Int32) (Lg : Nat → Int64), 14406 - k < y → k ≤ 14406 → DX S P T b → RS S A Lg w0 sw g (Lk b w0 sw t0 k) → Ev G mX2_finds 0 0 (mkW G S A Lg P T) 27 [some (.ref 10), some (.ref 3), some (.int (nI g)), some (.int (nI k))] [] (fun v w => ∃ S' A' Lg', w = mkW G S' A' Lg' P T ∧ (∀ j, Lg' j = 0) ∧ SG S A S' A' ∧ fiR b w0 sw t0 g v S' A') := by
  intro y
  induction y with
  | zero => intro k S A Lg hy; omega
  | succ y ih =>
    intro k S A Lg hy hk hD hS
    have hlen := (Lk_ok hI h0 (w0 := w0) (sw := sw) (k := k)).len hI.1
    refine e_iload_n 3 dX2_finds_27 rfl rfl ?_
    refine e_sipush (v := 14406) dX2_finds_28 (by decide) ?_
    refine e_icmp_ge (tgt := 62) dX2_finds_31 rfl (fun h31 => ?_) (fun h31 => ?_)
    · refine e_aload_n 0 dX2_finds_62 rfl rfl ?_
      have hn : giN g (Lk b w0 sw t0 k).2.1 (Lk b w0 sw t0 k).1 = none → fiN b w0 sw t0 g = none := by
        intro hn
        unfold fiN
        first
        | (have e : k = 14406 := by rw [show (14406 : Int32) = nI 14406 from rfl, nI_leI (by omega) (by omega)] at h31; omega
           rw [fi_stop (g := g) hk (Or.inr e)]; exact hn)
        | (have e : (Lk b w0 sw t0 k).1 ≤ k := by rw [nI_leI (by omega) (by omega)] at h39; exact h39
           rw [fi_stop (g := g) hk (Or.inl e)]; exact hn)
        | exact absurd (hS.2.2.1.trans (by rw [hn]; rfl)) h47
      refine e_callV (mc := 0) (ms := 0) (kc2 := 0) (ks2 := 0) (As := []) ok_X2_forgetSeen ⟨Nat.le_of_ble_eq_true rfl, Nat.le_of_ble_eq_true rfl⟩ dX2_finds_63 kl_X2_53 ki_X2_forgetSeen kv_X2_forgetSeen rfl rfl rfl rfl (Nat.le_of_ble_eq_true rfl) (Nat.le_of_ble_eq_true rfl) (sp_X2_forgetSeen hI.1 (Lk_ok hI h0) hS) (fun v w' hw => ?_)
      obtain ⟨rfl, L2, rfl, hz⟩ := hw
      refine e_aload_n 0 dX2_finds_66 rfl rfl ?_
      refine e_getfield 8 dX2_finds_67 kf_X2_39_2 rfl rfl ?_
      refine e_iconst (v := -1) dX2_finds_70 rfl ?_
      refine e_icmp_eq (tgt := 78) dX2_finds_71 rfl (fun h71 => ?_) (fun h71 => ?_)
      · refine e_iconst (v := 0) dX2_finds_78 rfl ?_
        refine e_zret dX2_finds_79 rfl (by first | rfl | decide) ?_
        refine ⟨S, A, L2, rfl, hz, SG.rf, ?_⟩
        have ho := oI_m1 (o := giN g (Lk b w0 sw t0 k).2.1 (Lk b w0 sw t0 k).1) (fun i hi => by have := (giN_some hi).1; omega)
        first
        | exact Or.inl ⟨rfl, hn (ho.mp (hS.2.2.1.symm.trans h71))⟩
        | (rcases hgi : giN g (Lk b w0 sw t0 k).2.1 (Lk b w0 sw t0 k).1 with _ | i
           · exact absurd (hS.2.2.1.trans (ho.mpr hgi)) h71
           · obtain ⟨f1, f2⟩ := fi_some hI h0 hk hgi
             have hp := (fi_pre hI h0 (w0 := w0) (sw := sw) hk).2
             refine Or.inr ⟨rfl, i, f1, by omega, by rw [hS.2.2.1, hgi]; rfl, fun x hx => ?_⟩
             obtain ⟨-, p2, p3⟩ := hp x (by omega)
             rw [(hS.2.2.2.2.2.1 x (by omega)).2, p2, p3])
      · refine e_iconst (v := 1) dX2_finds_74 rfl ?_
        refine e_goto (tgt := 79) dX2_finds_75 rfl ?_
        refine e_zret dX2_finds_79 rfl (by first | rfl | decide) ?_
        refine ⟨S, A, L2, rfl, hz, SG.rf, ?_⟩
        have ho := oI_m1 (o := giN g (Lk b w0 sw t0 k).2.1 (Lk b w0 sw t0 k).1) (fun i hi => by have := (giN_some hi).1; omega)
        first
        | exact Or.inl ⟨rfl, hn (ho.mp (hS.2.2.1.symm.trans h71))⟩
        | (rcases hgi : giN g (Lk b w0 sw t0 k).2.1 (Lk b w0 sw t0 k).1 with _ | i
           · exact absurd (hS.2.2.1.trans (ho.mpr hgi)) h71
           · obtain ⟨f1, f2⟩ := fi_some hI h0 hk hgi
             have hp := (fi_pre hI h0 (w0 := w0) (sw := sw) hk).2
             refine Or.inr ⟨rfl, i, f1, by omega, by rw [hS.2.2.1, hgi]; rfl, fun x hx => ?_⟩
             obtain ⟨-, p2, p3⟩ := hp x (by omega)
             rw [(hS.2.2.2.2.2.1 x (by omega)).2, p2, p3])
    · refine e_iload_n 3 dX2_finds_34 rfl rfl ?_
      refine e_aload_n 0 dX2_finds_35 rfl rfl ?_
      refine e_getfield 6 dX2_finds_36 kf_X2_42_2 rfl rfl ?_
      rw [hS.1]
      refine e_icmp_ge (tgt := 62) dX2_finds_39 rfl (fun h39 => ?_) (fun h39 => ?_)
      · refine e_aload_n 0 dX2_finds_62 rfl rfl ?_
        have hn : giN g (Lk b w0 sw t0 k).2.1 (Lk b w0 sw t0 k).1 = none → fiN b w0 sw t0 g = none := by
          intro hn
          unfold fiN
          first
          | (have e : k = 14406 := by rw [show (14406 : Int32) = nI 14406 from rfl, nI_leI (by omega) (by omega)] at h31; omega
             rw [fi_stop (g := g) hk (Or.inr e)]; exact hn)
          | (have e : (Lk b w0 sw t0 k).1 ≤ k := by rw [nI_leI (by omega) (by omega)] at h39; exact h39
             rw [fi_stop (g := g) hk (Or.inl e)]; exact hn)
          | exact absurd (hS.2.2.1.trans (by rw [hn]; rfl)) h47
        refine e_callV (mc := 0) (ms := 0) (kc2 := 0) (ks2 := 0) (As := []) ok_X2_forgetSeen ⟨Nat.le_of_ble_eq_true rfl, Nat.le_of_ble_eq_true rfl⟩ dX2_finds_63 kl_X2_53 ki_X2_forgetSeen kv_X2_forgetSeen rfl rfl rfl rfl (Nat.le_of_ble_eq_true rfl) (Nat.le_of_ble_eq_true rfl) (sp_X2_forgetSeen hI.1 (Lk_ok hI h0) hS) (fun v w' hw => ?_)
        obtain ⟨rfl, L2, rfl, hz⟩ := hw
        refine e_aload_n 0 dX2_finds_66 rfl rfl ?_
        refine e_getfield 8 dX2_finds_67 kf_X2_39_2 rfl rfl ?_
        refine e_iconst (v := -1) dX2_finds_70 rfl ?_
        refine e_icmp_eq (tgt := 78) dX2_finds_71 rfl (fun h71 => ?_) (fun h71 => ?_)
        · refine e_iconst (v := 0) dX2_finds_78 rfl ?_
          refine e_zret dX2_finds_79 rfl (by first | rfl | decide) ?_
          refine ⟨S, A, L2, rfl, hz, SG.rf, ?_⟩
          have ho := oI_m1 (o := giN g (Lk b w0 sw t0 k).2.1 (Lk b w0 sw t0 k).1) (fun i hi => by have := (giN_some hi).1; omega)
          first
          | exact Or.inl ⟨rfl, hn (ho.mp (hS.2.2.1.symm.trans h71))⟩
          | (rcases hgi : giN g (Lk b w0 sw t0 k).2.1 (Lk b w0 sw t0 k).1 with _ | i
             · exact absurd (hS.2.2.1.trans (ho.mpr hgi)) h71
             · obtain ⟨f1, f2⟩ := fi_some hI h0 hk hgi
               have hp := (fi_pre hI h0 (w0 := w0) (sw := sw) hk).2
               refine Or.inr ⟨rfl, i, f1, by omega, by rw [hS.2.2.1, hgi]; rfl, fun x hx => ?_⟩
               obtain ⟨-, p2, p3⟩ := hp x (by omega)
               rw [(hS.2.2.2.2.2.1 x (by omega)).2, p2, p3])
        · refine e_iconst (v := 1) dX2_finds_74 rfl ?_
          refine e_goto (tgt := 79) dX2_finds_75 rfl ?_
          refine e_zret dX2_finds_79 rfl (by first | rfl | decide) ?_
          refine ⟨S, A, L2, rfl, hz, SG.rf, ?_⟩
          have ho := oI_m1 (o := giN g (Lk b w0 sw t0 k).2.1 (Lk b w0 sw t0 k).1) (fun i hi => by have := (giN_some hi).1; omega)
          first
          | exact Or.inl ⟨rfl, hn (ho.mp (hS.2.2.1.symm.trans h71))⟩
          | (rcases hgi : giN g (Lk b w0 sw t0 k).2.1 (Lk b w0 sw t0 k).1 with _ | i
             · exact absurd (hS.2.2.1.trans (ho.mpr hgi)) h71
             · obtain ⟨f1, f2⟩ := fi_some hI h0 hk hgi
               have hp := (fi_pre hI h0 (w0 := w0) (sw := sw) hk).2
               refine Or.inr ⟨rfl, i, f1, by omega, by rw [hS.2.2.1, hgi]; rfl, fun x hx => ?_⟩
               obtain ⟨-, p2, p3⟩ := hp x (by omega)
               rw [(hS.2.2.2.2.2.1 x (by omega)).2, p2, p3])
      · refine e_aload_n 0 dX2_finds_42 rfl rfl ?_
        refine e_getfield 8 dX2_finds_43 kf_X2_39_2 rfl rfl ?_
        refine e_iconst (v := -1) dX2_finds_46 rfl ?_
        refine e_icmp_ne (tgt := 62) dX2_finds_47 rfl (fun h47 => ?_) (fun h47 => ?_)
        · refine e_aload_n 0 dX2_finds_62 rfl rfl ?_
          have hn : giN g (Lk b w0 sw t0 k).2.1 (Lk b w0 sw t0 k).1 = none → fiN b w0 sw t0 g = none := by
            intro hn
            unfold fiN
            first
            | (have e : k = 14406 := by rw [show (14406 : Int32) = nI 14406 from rfl, nI_leI (by omega) (by omega)] at h31; omega
               rw [fi_stop (g := g) hk (Or.inr e)]; exact hn)
            | (have e : (Lk b w0 sw t0 k).1 ≤ k := by rw [nI_leI (by omega) (by omega)] at h39; exact h39
               rw [fi_stop (g := g) hk (Or.inl e)]; exact hn)
            | exact absurd (hS.2.2.1.trans (by rw [hn]; rfl)) h47
          refine e_callV (mc := 0) (ms := 0) (kc2 := 0) (ks2 := 0) (As := []) ok_X2_forgetSeen ⟨Nat.le_of_ble_eq_true rfl, Nat.le_of_ble_eq_true rfl⟩ dX2_finds_63 kl_X2_53 ki_X2_forgetSeen kv_X2_forgetSeen rfl rfl rfl rfl (Nat.le_of_ble_eq_true rfl) (Nat.le_of_ble_eq_true rfl) (sp_X2_forgetSeen hI.1 (Lk_ok hI h0) hS) (fun v w' hw => ?_)
          obtain ⟨rfl, L2, rfl, hz⟩ := hw
          refine e_aload_n 0 dX2_finds_66 rfl rfl ?_
          refine e_getfield 8 dX2_finds_67 kf_X2_39_2 rfl rfl ?_
          refine e_iconst (v := -1) dX2_finds_70 rfl ?_
          refine e_icmp_eq (tgt := 78) dX2_finds_71 rfl (fun h71 => ?_) (fun h71 => ?_)
          · refine e_iconst (v := 0) dX2_finds_78 rfl ?_
            refine e_zret dX2_finds_79 rfl (by first | rfl | decide) ?_
            refine ⟨S, A, L2, rfl, hz, SG.rf, ?_⟩
            have ho := oI_m1 (o := giN g (Lk b w0 sw t0 k).2.1 (Lk b w0 sw t0 k).1) (fun i hi => by have := (giN_some hi).1; omega)
            first
            | exact Or.inl ⟨rfl, hn (ho.mp (hS.2.2.1.symm.trans h71))⟩
            | (rcases hgi : giN g (Lk b w0 sw t0 k).2.1 (Lk b w0 sw t0 k).1 with _ | i
               · exact absurd (hS.2.2.1.trans (ho.mpr hgi)) h71
               · obtain ⟨f1, f2⟩ := fi_some hI h0 hk hgi
                 have hp := (fi_pre hI h0 (w0 := w0) (sw := sw) hk).2
                 refine Or.inr ⟨rfl, i, f1, by omega, by rw [hS.2.2.1, hgi]; rfl, fun x hx => ?_⟩
                 obtain ⟨-, p2, p3⟩ := hp x (by omega)
                 rw [(hS.2.2.2.2.2.1 x (by omega)).2, p2, p3])
          · refine e_iconst (v := 1) dX2_finds_74 rfl ?_
            refine e_goto (tgt := 79) dX2_finds_75 rfl ?_
            refine e_zret dX2_finds_79 rfl (by first | rfl | decide) ?_
            refine ⟨S, A, L2, rfl, hz, SG.rf, ?_⟩
            have ho := oI_m1 (o := giN g (Lk b w0 sw t0 k).2.1 (Lk b w0 sw t0 k).1) (fun i hi => by have := (giN_some hi).1; omega)
            first
            | exact Or.inl ⟨rfl, hn (ho.mp (hS.2.2.1.symm.trans h71))⟩
            | (rcases hgi : giN g (Lk b w0 sw t0 k).2.1 (Lk b w0 sw t0 k).1 with _ | i
               · exact absurd (hS.2.2.1.trans (ho.mpr hgi)) h71
               · obtain ⟨f1, f2⟩ := fi_some hI h0 hk hgi
                 have hp := (fi_pre hI h0 (w0 := w0) (sw := sw) hk).2
                 refine Or.inr ⟨rfl, i, f1, by omega, by rw [hS.2.2.1, hgi]; rfl, fun x hx => ?_⟩
                 obtain ⟨-, p2, p3⟩ := hp x (by omega)
                 rw [(hS.2.2.2.2.2.1 x (by omega)).2, p2, p3])
        · have hlt : k < (Lk b w0 sw t0 k).1 := by rw [nI_leI (by omega) (by omega)] at h39; omega
          have hk4 : k < 14406 := by rw [show (14406 : Int32) = nI 14406 from rfl, nI_leI (by omega) (by omega)] at h31; omega
          refine e_aload_n 0 dX2_finds_50 rfl rfl ?_
          refine e_aload_n 1 dX2_finds_51 rfl rfl ?_
          refine e_iload_n 3 dX2_finds_52 rfl rfl ?_
          refine e_callV (mc := 0) (ms := 0) (kc2 := 0) (ks2 := 0) (As := [_, _]) ok_X2_leaveBySteps ⟨Nat.le_of_ble_eq_true rfl, Nat.le_of_ble_eq_true rfl⟩ dX2_finds_53 kl_X2_49 ki_X2_leaveBySteps kv_X2_leaveBySteps rfl rfl rfl rfl (Nat.le_of_ble_eq_true rfl) (Nat.le_of_ble_eq_true rfl) (sp_X2_leave hI hg (Lk_ok hI h0) hlt hw0 hsw hD hS) (fun v w' hw => ?_)
          obtain ⟨rfl, S1, A1, Lg1, rfl, hS1, hf1⟩ := hw
          refine e_iinc (v := _ + 1) (lv' := [_, _, _, _]) dX2_finds_56 rfl (Nat.le_of_ble_eq_true rfl) rfl rfl rfl ?_
          refine e_goto (tgt := 27) dX2_finds_59 rfl ?_
          rw [nI_1]
          refine e_q (ih (k + 1) S1 A1 Lg1 (by omega) (by omega) (hD.fr (hf1.1 2 (by omega) (by omega))) (by rw [Lk_y hlt]; exact hS1)) (fun v w hw => ?_)
          obtain ⟨S2, A2, L2, a1, a2, a3, a4⟩ := hw
          exact ⟨S2, A2, L2, a1, a2, hf1.sg.tr a3, a4⟩
set_option maxRecDepth 8000 in
theorem sp_X2_finds {G : sh_G} {S : Nat → Int32} {A : Nat → Nat → Int32} {Lg : Nat → Int64} {P : Nat → Option Nat} {T : List sh_C} {ab : Nat → Bool} {g w0 : Nat} {sw : Nat → Nat} {b : sh_be} {t0 : tp} (hI : IV b) (hg : g < 100) (h0 : tV (bn b 0) ab t0) (hw0 : w0 < 1000) (hsw : ∀ s, s < 4 → sw s < 100) (hD : DX S P T b) (hz : ∀ j, Lg j = 0) (h5 : S 5 = nI w0) (h6 : S 6 = nI (cX t0)) (hA : ∀ s, s < 4 → A 6 s = nI (sw s)) : Ev G mX2_finds 0 0 (mkW G S A Lg P T) 0 [some (.ref 10), some (.ref 3), some (.int (nI g)), none] [] (fun v w => ∃ S' A' Lg', w = mkW G S' A' Lg' P T ∧ (∀ j, Lg' j = 0) ∧ SG S A S' A' ∧ fiR b w0 sw t0 g v S' A') := by
  refine e_aload_n 0 dX2_finds_0 rfl rfl ?_
  refine e_iload_n 2 dX2_finds_1 rfl rfl ?_
  refine e_putfield 7 dX2_finds_2 kp_X2_finds_36_2 (sh_fit_i _) rfl (Nat.le_of_ble_eq_true rfl) ?_
  refine e_aload_n 0 dX2_finds_5 rfl rfl ?_
  refine e_iconst (v := -1) dX2_finds_6 rfl ?_
  refine e_putfield 8 dX2_finds_7 kp_X2_finds_39_2 (sh_fit_i _) rfl (Nat.le_of_ble_eq_true rfl) ?_
  refine e_aload_n 0 dX2_finds_10 rfl rfl ?_
  refine e_iconst (v := 0) dX2_finds_11 rfl ?_
  refine e_putfield 6 dX2_finds_12 kp_X2_finds_42_2 (sh_fit_i _) rfl (Nat.le_of_ble_eq_true rfl) ?_
  refine e_w (w' := mkW G (va_up (va_up (va_up S 8 (nI g)) 9 (-1)) 7 0) A Lg P T) rfl ?_
  refine e_aload_n 0 dX2_finds_15 rfl rfl ?_
  refine e_aload_n 0 dX2_finds_16 rfl rfl ?_
  refine e_getfield 5 dX2_finds_17 kf_X2_29_2 rfl rfl ?_
  rw [show (va_up (va_up (va_up S 8 (nI g)) 9 (-1)) 7 0) 6 = nI (cX t0) from h6]
  have hS0 : RS (va_up (va_up (va_up S 8 (nI g)) 9 (-1)) 7 0) A Lg w0 sw g (0, fun _ => t0, fun _ => 0, fun _ => 0) := ⟨rfl, rfl, rfl, h5, hA, fun i hi => absurd hi (Nat.not_lt_zero i), sn_z hz rfl⟩
  refine e_iconst (v := 0) dX2_finds_20 rfl ?_
  refine e_iconst (v := 0) dX2_finds_21 rfl ?_
  refine e_callV (mc := 0) (ms := 0) (kc2 := 0) (ks2 := 0) (As := [_, _, _]) ok_X2_meet ⟨Nat.le_of_ble_eq_true rfl, Nat.le_of_ble_eq_true rfl⟩ dX2_finds_22 kl_X2_45 ki_X2_meet kv_X2_meet rfl rfl rfl rfl (Nat.le_of_ble_eq_true rfl) (Nat.le_of_ble_eq_true rfl) (sp_X2_meet (f := 0) (s := 0) (w0 := w0) (sw := sw) (q := (0, fun _ => t0, fun _ => 0, fun _ => 0)) h0 hI.1 hS0 (fun i hi => absurd hi (Nat.not_lt_zero i)) (fun _ => (show 0 < 14406 by decide)) (show 0 ≤ 14406 by decide) (by decide) (by decide) hg) (fun v w' hw => ?_)
  obtain ⟨rfl, S1, A1, Lg1, rfl, hS1, hf1⟩ := hw
  rw [adq_0] at hS1
  refine e_iconst (v := 0) dX2_finds_25 rfl ?_
  refine e_istore_n (lv' := [_, _, _, _]) 3 dX2_finds_26 rfl (Nat.le_of_ble_eq_true rfl) rfl rfl ?_
  refine e_q (lp_X2_finds hI hg h0 hw0 hsw 14407 0 S1 A1 Lg1 (by omega) (by omega) (hD.fr (hf1.1 2 (by omega) (by omega))) hS1) (fun v w hw => ?_)
  obtain ⟨S2, A2, L2, a1, a2, a3, a4⟩ := hw
  exact ⟨S2, A2, L2, a1, a2, ((SG.S (by omega)).tr ((SG.S (by omega)).tr (SG.S (by omega)))).tr (hf1.sg.tr a3), a4⟩
set_option maxRecDepth 8000 in
theorem lp_X2_howManySteps {G : sh_G} {S : Nat → Int32} {A : Nat → Nat → Int32} {Lg : Nat → Int64} {P : Nat → Option Nat} {T : List sh_C} {F St : Nat → Nat} {i : Nat} (h9 : S 9 = nI i) (hA : ∀ x, x ≤ i → A 5 x = nI (32 * F x + St x)) (hF : ∀ x, 0 < x → x ≤ i → F x < x) (hSt : ∀ x, x ≤ i → St x < 32) (hi : i < 14406) : ∀ (y s z : Nat), z < y → z ≤ i → s + dpN F z = dpN F i → Ev G mX2_howManySteps 0 0 (mkW G S A Lg P T) 7 [some (.ref 10), some (.int (nI s)), some (.int (nI z))] [] (sh_is (some (.int (nI (dpN F i)))) (mkW G S A Lg P T)) := by
  have hle := dpN_le (F := F) (i := i)
  intro y
  induction y with
  | zero => intro s z hy; omega
  | succ y ih =>
    intro s z hy hzi hs
    refine e_iload_n 2 dX2_howManySteps_7 rfl rfl ?_
    refine e_if_le (tgt := 33) dX2_howManySteps_8 rfl (fun h8 => ?_) (fun h8 => ?_)
    · refine e_iload_n 1 dX2_howManySteps_33 rfl rfl ?_
      exact e_iret dX2_howManySteps_34 rfl (by
          refine is_i ?_ rfl
          first
          | (have hz : z = 0 := by rw [show (0 : Int32) = nI 0 from rfl, nI_leI (by omega) (by omega)] at h8; omega
             rw [hz, dpN_0] at hs
             rw [← hs]; rfl)
          | (rw [show (14406 : Int32) = nI 14406 from rfl, nI_leI (by omega) (by omega)] at h15
             omega))
    · refine e_iload_n 1 dX2_howManySteps_11 rfl rfl ?_
      refine e_sipush (v := 14406) dX2_howManySteps_12 (by decide) ?_
      refine e_icmp_ge (tgt := 33) dX2_howManySteps_15 rfl (fun h15 => ?_) (fun h15 => ?_)
      · refine e_iload_n 1 dX2_howManySteps_33 rfl rfl ?_
        exact e_iret dX2_howManySteps_34 rfl (by
            refine is_i ?_ rfl
            first
            | (have hz : z = 0 := by rw [show (0 : Int32) = nI 0 from rfl, nI_leI (by omega) (by omega)] at h8; omega
               rw [hz, dpN_0] at hs
               rw [← hs]; rfl)
            | (rw [show (14406 : Int32) = nI 14406 from rfl, nI_leI (by omega) (by omega)] at h15
               omega))
      · have hz : 0 < z := by rw [show (0 : Int32) = nI 0 from rfl, nI_leI (by omega) (by omega)] at h8; omega
        have hd := dpN_s (fun x a c => hF x a (by omega)) hz
        have hfz := hF z hz hzi
        refine e_iinc (v := _ + 1) (lv' := [_, _, _]) dX2_howManySteps_18 rfl (Nat.le_of_ble_eq_true rfl) rfl rfl rfl ?_
        refine e_aload_n 0 dX2_howManySteps_21 rfl rfl ?_
        refine e_getfield 1 dX2_howManySteps_22 kf_X2_15_2 rfl rfl ?_
        refine e_iload_n 2 dX2_howManySteps_25 rfl rfl ?_
        refine e_iald_n (z) dX2_howManySteps_26 rfl rfl (by omega) (by decide) ?_
        refine e_iconst (v := 5) dX2_howManySteps_27 rfl ?_
        refine e_ishr dX2_howManySteps_28 ?_
        rw [hA z hzi, cmF (by omega) (hSt z hzi)]
        refine e_istore_n (lv' := [_, _, _]) 2 dX2_howManySteps_29 rfl (Nat.le_of_ble_eq_true rfl) rfl rfl ?_
        refine e_goto (tgt := 7) dX2_howManySteps_30 rfl ?_
        rw [nI_1]
        exact ih (s + 1) (F z) (by omega) (by omega) (by omega)
set_option maxRecDepth 4000 in
theorem sp_X2_howManySteps {G : sh_G} {S : Nat → Int32} {A : Nat → Nat → Int32} {Lg : Nat → Int64} {P : Nat → Option Nat} {T : List sh_C} {F St : Nat → Nat} {i : Nat} (h9 : S 9 = nI i) (hA : ∀ x, x ≤ i → A 5 x = nI (32 * F x + St x)) (hF : ∀ x, 0 < x → x ≤ i → F x < x) (hSt : ∀ x, x ≤ i → St x < 32) (hi : i < 14406) : Ev G mX2_howManySteps 0 0 (mkW G S A Lg P T) 0 [some (.ref 10), none, none] [] (sh_is (some (.int (nI (dpN F i)))) (mkW G S A Lg P T)) := by
  refine e_iconst (v := 0) dX2_howManySteps_0 rfl ?_
  refine e_istore_n (lv' := [_, _, _]) 1 dX2_howManySteps_1 rfl (Nat.le_of_ble_eq_true rfl) rfl rfl ?_
  refine e_aload_n 0 dX2_howManySteps_2 rfl rfl ?_
  refine e_getfield 8 dX2_howManySteps_3 kf_X2_39_2 rfl rfl ?_
  rw [h9]
  refine e_istore_n (lv' := [_, _, _]) 2 dX2_howManySteps_6 rfl (Nat.le_of_ble_eq_true rfl) rfl rfl ?_
  exact lp_X2_howManySteps h9 hA hF hSt hi (i + 1) 0 i (by omega) (by omega) (by omega)

def stA (F St : Nat → Nat) (i : Nat) (q : Int32) : Int32 := if ¬ q < 0 ∧ ¬ nI (dpN F i) ≤ q then nI (St (anc F i (dpN F i - 1 - q.toNatClampNeg))) else -9
set_option maxRecDepth 8000 in
theorem lp_X2_stepAt {G : sh_G} {S : Nat → Int32} {A : Nat → Nat → Int32} {Lg : Nat → Int64} {P : Nat → Option Nat} {T : List sh_C} {F St : Nat → Nat} {i : Nat} {qq : Nat} (h9 : S 9 = nI i) (hA : ∀ x, x ≤ i → A 5 x = nI (32 * F x + St x)) (hF : ∀ x, 0 < x → x ≤ i → F x < x) (hSt : ∀ x, x ≤ i → St x < 32) (hi : i < 14406) (hqq : qq < dpN F i) (hF0 : F 0 = 0) : ∀ (y n j : Nat), n < y → j + n = dpN F i - 1 - qq → Ev G mX2_stepAt 0 0 (mkW G S A Lg P T) 27 [some (.ref 10), some (.int (nI qq)), some (.int (nI (dpN F i))), some (.int (nI (anc F i j))), some (.int (nI (qq + n)))] [] (sh_is (some (.int (nI (St (anc F i (dpN F i - 1 - qq)))))) (mkW G S A Lg P T)) := by
  have hle := dpN_le (F := F) (i := i)
  intro y
  induction y with
  | zero => intro n j hy; omega
  | succ y ih =>
    intro n j hy hj
    obtain ⟨had, hal⟩ := anc_dp hF (k := j) (by omega)
    refine e_iload dX2_stepAt_27 rfl ?_
    refine e_iload_n 1 dX2_stepAt_29 rfl rfl ?_
    refine e_icmp_le (tgt := 48) dX2_stepAt_30 rfl (fun h30 => ?_) (fun h30 => ?_)
    · have hn : n = 0 := by rw [nI_leI (by omega) (by omega)] at h30; omega
      refine e_aload_n 0 dX2_stepAt_48 rfl rfl ?_
      refine e_getfield 1 dX2_stepAt_49 kf_X2_15_2 rfl rfl ?_
      refine e_iload_n 3 dX2_stepAt_52 rfl rfl ?_
      refine e_iald_n (anc F i j) dX2_stepAt_53 rfl rfl (by omega) (by decide) ?_
      refine e_bipush (v := 31) dX2_stepAt_54 (by decide) ?_
      refine e_iand dX2_stepAt_56 ?_
      rw [hA _ hal, cmS (by rcases Nat.eq_zero_or_pos (anc F i j) with e | e; (rw [e, hF0]; omega); (have := hF _ e hal; omega)) (hSt _ hal)]
      exact e_iret dX2_stepAt_57 rfl (is_i (by rw [show j = dpN F i - 1 - qq by omega]) rfl)
    · have hn : 0 < n := by rw [nI_leI (by omega) (by omega)] at h30; omega
      obtain ⟨n, rfl⟩ : ∃ n', n = n' + 1 := ⟨n - 1, by omega⟩
      have hpos : 0 < anc F i j := by rcases Nat.eq_zero_or_pos (anc F i j) with e | e
                                      · rw [e, dpN_0] at had; omega
                                      · exact e
      have hfz := hF _ hpos hal
      refine e_aload_n 0 dX2_stepAt_33 rfl rfl ?_
      refine e_getfield 1 dX2_stepAt_34 kf_X2_15_2 rfl rfl ?_
      refine e_iload_n 3 dX2_stepAt_37 rfl rfl ?_
      refine e_iald_n (anc F i j) dX2_stepAt_38 rfl rfl (by omega) (by decide) ?_
      refine e_iconst (v := 5) dX2_stepAt_39 rfl ?_
      refine e_ishr dX2_stepAt_40 ?_
      rw [hA _ hal, cmF (by omega) (hSt _ hal)]
      refine e_istore_n (lv' := [_, _, _, _, _]) 3 dX2_stepAt_41 rfl (Nat.le_of_ble_eq_true rfl) rfl rfl ?_
      refine e_iinc (v := _ + (-1)) (lv' := [_, _, _, _, _]) dX2_stepAt_42 rfl (Nat.le_of_ble_eq_true rfl) rfl rfl rfl ?_
      refine e_goto (tgt := 27) dX2_stepAt_45 rfl ?_
      rw [show qq + (n + 1) = qq + n + 1 from rfl, pk_m1]
      exact ih n (j + 1) (by omega) (by omega)
set_option maxRecDepth 8000 in
theorem sp_X2_stepAt {G : sh_G} {S : Nat → Int32} {A : Nat → Nat → Int32} {Lg : Nat → Int64} {P : Nat → Option Nat} {T : List sh_C} {F St : Nat → Nat} {i : Nat} {q : Int32} (h9 : S 9 = nI i) (hA : ∀ x, x ≤ i → A 5 x = nI (32 * F x + St x)) (hF : ∀ x, 0 < x → x ≤ i → F x < x) (hSt : ∀ x, x ≤ i → St x < 32) (hi : i < 14406) (hF0 : F 0 = 0) : Ev G mX2_stepAt 0 0 (mkW G S A Lg P T) 0 [some (.ref 10), some (.int q), none, none, none] [] (sh_is (some (.int (stA F St i q))) (mkW G S A Lg P T)) := by
  have hle := dpN_le (F := F) (i := i)
  refine e_aload_n 0 dX2_stepAt_0 rfl rfl ?_
  refine f_callVi (As := []) ok_X2_howManySteps ⟨Nat.le_of_ble_eq_true rfl, Nat.le_of_ble_eq_true rfl⟩ dX2_stepAt_1 kl_X2_56 ki_X2_howManySteps kv_X2_howManySteps rfl rfl rfl rfl (Nat.le_of_ble_eq_true rfl) (Nat.le_of_ble_eq_true rfl) (Nat.zero_add _) (Nat.zero_add _) (sp_X2_howManySteps h9 hA hF hSt hi) ?_
  refine e_istore_n (lv' := [_, _, _, _, _]) 2 dX2_stepAt_4 rfl (Nat.le_of_ble_eq_true rfl) rfl rfl ?_
  refine e_iload_n 1 dX2_stepAt_5 rfl rfl ?_
  refine e_if_lt (tgt := 14) dX2_stepAt_6 rfl (fun h6 => ?_) (fun h6 => ?_)
  · refine e_bipush (v := -9) dX2_stepAt_14 (by decide) ?_
    exact e_iret dX2_stepAt_16 rfl (is_i (by
        unfold stA
        rw [if_neg (show ¬ (¬ q < 0 ∧ ¬ nI (dpN F i) ≤ q) by
          intro g
          first
          | exact g.1 h6
          | exact h11 (Int32.not_le.mp g.2))]) rfl)
  · refine e_iload_n 1 dX2_stepAt_9 rfl rfl ?_
    refine e_iload_n 2 dX2_stepAt_10 rfl rfl ?_
    refine e_icmp_lt (tgt := 17) dX2_stepAt_11 rfl (fun h11 => ?_) (fun h11 => ?_)
    · obtain ⟨qq, hqq, rfl⟩ := ix_of (n := dpN F i) rfl (by omega) ⟨h6, fun g => absurd h11 (Int32.not_lt.mpr g)⟩
      refine e_aload_n 0 dX2_stepAt_17 rfl rfl ?_
      refine e_getfield 8 dX2_stepAt_18 kf_X2_39_2 rfl rfl ?_
      rw [h9]
      refine e_istore_n (lv' := [_, _, _, _, _]) 3 dX2_stepAt_21 rfl (Nat.le_of_ble_eq_true rfl) rfl rfl ?_
      refine e_iload_n 2 dX2_stepAt_22 rfl rfl ?_
      refine e_iconst (v := 1) dX2_stepAt_23 rfl ?_
      refine e_isub dX2_stepAt_24 ?_
      rw [sub1 (x := dpN F i) (r := qq + (dpN F i - 1 - qq)) (by omega)]
      refine e_istore (lv' := [_, _, _, _, _]) dX2_stepAt_25 (Nat.le_of_ble_eq_true rfl) rfl rfl ?_
      have := lp_X2_stepAt (G := G) (Lg := Lg) (P := P) (T := T) h9 hA hF hSt hi hqq hF0 (dpN F i) (dpN F i - 1 - qq) 0 (by omega) (by omega)
      have e : stA F St i (nI qq) = nI (St (anc F i (dpN F i - 1 - qq))) := by
        unfold stA
        rw [if_pos ⟨h6, fun g => absurd h11 (Int32.not_lt.mpr g)⟩, nI_clamp (by omega)]
      rw [e]
      exact this
    · refine e_bipush (v := -9) dX2_stepAt_14 (by decide) ?_
      exact e_iret dX2_stepAt_16 rfl (is_i (by
          unfold stA
          rw [if_neg (show ¬ (¬ q < 0 ∧ ¬ nI (dpN F i) ≤ q) by
            intro g
            first
            | exact g.1 h6
            | exact h11 (Int32.not_le.mp g.2))]) rfl)

theorem bgN : ∀ r, r < 6 → ∀ s, s < 4 → nI (4096 * r + (8 ^ s - 1)) ||| ((7 : Int32) <<< (3 * nI s &&& 31)) = nI (4096 * r + (8 ^ (s + 1) - 1)) := by decide +kernel
theorem bg0 : ∀ r, r < 6 → nI r <<< ((12 : Int32) &&& 31) = nI (4096 * r + (8 ^ 0 - 1)) := by decide +kernel
set_option maxRecDepth 8000 in
theorem lp_X2_begin {G : sh_G} {S : Nat → Int32} {A : Nat → Nat → Int32} {Lg : Nat → Int64} {P : Nat → Option Nat} {T : List sh_C} {r : Nat} {x : Int32} (hr : r < 6) : ∀ (y s : Nat) (f : Nat → Int32), 4 - s < y → s ≤ 4 → (∀ x, x < s → f x = 0) → Ev G mX2_begin 0 0 (mkW G (va_up (va_up S 5 x) 6 (nI (4096 * r + (8 ^ s - 1)))) (va_up A 6 f) Lg P T) 15 [some (.ref 10), some (.int x), some (.int (nI r)), some (.int (nI s))] [] (fun v w => v = none ∧ ∃ f : Nat → Int32, w = mkW G (va_up (va_up S 5 x) 6 (nI (cX (r, 7, 7, 7, 7)))) (va_up A 6 f) Lg P T ∧ ∀ s, s < 4 → f s = 0) := by
  intro y
  induction y with
  | zero => intro s f hy; omega
  | succ y ih =>
    intro s f hy hs hf
    refine e_iload_n 3 dX2_begin_15 rfl rfl ?_
    refine e_iconst (v := 4) dX2_begin_16 rfl ?_
    refine e_icmp_ge (tgt := 48) dX2_begin_17 rfl (fun h17 => ?_) (fun h17 => ?_)
    · exact e_vret dX2_begin_48 rfl (by
          have e : s = 4 := by rw [show (4 : Int32) = nI 4 from rfl, nI_leI (by omega) (by omega)] at h17; omega
          subst e
          exact ⟨rfl, f, by rw [show cX (r, 7, 7, 7, 7) = 4096 * r + (8 ^ 4 - 1) by show 7 + 8 * 7 + 64 * 7 + 512 * 7 + 4096 * r = _; omega], hf⟩)
    · have hlt : s < 4 := by rw [show (4 : Int32) = nI 4 from rfl, nI_leI (by omega) (by omega)] at h17; omega
      refine e_aload_n 0 dX2_begin_20 rfl rfl ?_
      refine e_dup dX2_begin_21 rfl ?_
      refine e_getfield 5 dX2_begin_22 kf_X2_29_2 rfl rfl ?_
      rw [show (va_up (va_up S 5 x) 6 (nI (4096 * r + (8 ^ s - 1)))) 6 = nI (4096 * r + (8 ^ s - 1)) from rfl]
      refine e_bipush (v := 7) dX2_begin_25 (by decide) ?_
      refine e_iconst (v := 3) dX2_begin_27 rfl ?_
      refine e_iload_n 3 dX2_begin_28 rfl rfl ?_
      refine e_imul dX2_begin_29 ?_
      refine e_ishl dX2_begin_30 ?_
      refine e_ior dX2_begin_31 ?_
      rw [bgN r hr s hlt]
      refine e_putfield 5 dX2_begin_32 kp_X2_begin_29_2 (sh_fit_i _) rfl (Nat.le_of_ble_eq_true rfl) ?_
      refine e_w (w' := mkW G (va_up (va_up S 5 x) 6 (nI (4096 * r + (8 ^ (s + 1) - 1)))) (va_up A 6 f) Lg P T) rfl ?_
      refine e_aload_n 0 dX2_begin_35 rfl rfl ?_
      refine e_getfield 3 dX2_begin_36 kf_X2_22_2 rfl rfl ?_
      refine e_iload_n 3 dX2_begin_39 rfl rfl ?_
      refine e_iconst (v := 0) dX2_begin_40 rfl ?_
      refine e_iast_n (s) dX2_begin_41 rfl rfl (by omega) (by decide) ?_
      refine e_w (w' := mkW G (va_up (va_up S 5 x) 6 (nI (4096 * r + (8 ^ (s + 1) - 1)))) (va_up A 6 (upd f s 0)) Lg P T) rfl ?_
      refine e_iinc (v := _ + 1) (lv' := [_, _, _, _]) dX2_begin_42 rfl (Nat.le_of_ble_eq_true rfl) rfl rfl rfl ?_
      refine e_goto (tgt := 15) dX2_begin_45 rfl ?_
      rw [nI_1]
      refine ih (s + 1) _ (by omega) (by omega) (fun x hx => ?_)
      rcases Nat.lt_or_ge x s with c | c
      · rw [upd_ne (by omega)]; exact hf x c
      · rw [show x = s by omega, upd_eq]
set_option maxRecDepth 4000 in
theorem sp_X2_begin {G : sh_G} {S : Nat → Int32} {A : Nat → Nat → Int32} {Lg : Nat → Int64} {P : Nat → Option Nat} {T : List sh_C} {r : Nat} {x : Int32} (hr : r < 6) : Ev G mX2_begin 0 0 (mkW G S A Lg P T) 0 [some (.ref 10), some (.int x), some (.int (nI r)), none] [] (fun v w => v = none ∧ ∃ f : Nat → Int32, w = mkW G (va_up (va_up S 5 x) 6 (nI (cX (r, 7, 7, 7, 7)))) (va_up A 6 f) Lg P T ∧ ∀ s, s < 4 → f s = 0) := by
  refine e_aload_n 0 dX2_begin_0 rfl rfl ?_
  refine e_iload_n 1 dX2_begin_1 rfl rfl ?_
  refine e_putfield 4 dX2_begin_2 kp_X2_begin_25_2 (sh_fit_i _) rfl (Nat.le_of_ble_eq_true rfl) ?_
  refine e_aload_n 0 dX2_begin_5 rfl rfl ?_
  refine e_iload_n 2 dX2_begin_6 rfl rfl ?_
  refine e_bipush (v := 12) dX2_begin_7 (by decide) ?_
  refine e_ishl dX2_begin_9 ?_
  rw [bg0 r hr]
  refine e_putfield 5 dX2_begin_10 kp_X2_begin_29_2 (sh_fit_i _) rfl (Nat.le_of_ble_eq_true rfl) ?_
  refine e_w (w' := mkW G (va_up (va_up S 5 x) 6 (nI (4096 * r + (8 ^ 0 - 1)))) (va_up A 6 (A 6)) Lg P T) rfl ?_
  refine e_iconst (v := 0) dX2_begin_13 rfl ?_
  refine e_istore_n (lv' := [_, _, _, _]) 3 dX2_begin_14 rfl (Nat.le_of_ble_eq_true rfl) rfl rfl ?_
  exact lp_X2_begin hr 5 0 (A 6) (by omega) (by omega) (fun x hx => absurd hx (Nat.not_lt_zero x))

set_option maxRecDepth 4000 in
theorem sp_X2_setStone {G : sh_G} {S : Nat → Int32} {A : Nat → Nat → Int32} {Lg : Nat → Int64} {P : Nat → Option Nat} {T : List sh_C} {t : tp} {R : Nat} {ab : Nat → Bool} {s v : Nat} {x : Int32} (ht : tV R ab t) (hR : R ≤ 6) (hs : s < 4) (hv : v < 8) (h6 : S 6 = nI (cX t)) : Ev G mX2_setStone 0 0 (mkW G S A Lg P T) 0 [some (.ref 10), some (.int (nI s)), some (.int x), some (.int (nI v))] [] (sh_is none (mkW G (va_up S 6 (nI (cX (tS t s v)))) (va_up A 6 (upd (A 6) s x)) Lg P T)) := by
  refine e_aload_n 0 dX2_setStone_0 rfl rfl ?_
  refine e_getfield 3 dX2_setStone_1 kf_X2_22_2 rfl rfl ?_
  refine e_iload_n 1 dX2_setStone_4 rfl rfl ?_
  refine e_iload_n 2 dX2_setStone_5 rfl rfl ?_
  refine e_iast_n (s) dX2_setStone_6 rfl rfl (by omega) (by decide) ?_
  refine e_w (w' := mkW G S (va_up A 6 (upd (A 6) s x)) Lg P T) rfl ?_
  refine e_aload_n 0 dX2_setStone_7 rfl rfl ?_
  refine e_aload_n 0 dX2_setStone_8 rfl rfl ?_
  refine e_getfield 5 dX2_setStone_9 kf_X2_29_2 rfl rfl ?_
  rw [h6]
  refine e_iload_n 1 dX2_setStone_12 rfl rfl ?_
  refine e_iload_n 3 dX2_setStone_13 rfl rfl ?_
  refine f_callSi (As := [_, _, _]) ok_X2_withPlace ⟨Nat.le_of_ble_eq_true rfl, Nat.le_of_ble_eq_true rfl⟩ dX2_setStone_14 kl_X2_32 ks_X2_withPlace rfl rfl (Nat.le_of_ble_eq_true rfl) (Nat.le_of_ble_eq_true rfl) (Nat.zero_add _) (Nat.zero_add _) (sp_X2_withPlace ht hR hs hv) ?_
  refine e_putfield 5 dX2_setStone_17 kp_X2_setStone_29_2 (sh_fit_i _) rfl (Nat.le_of_ble_eq_true rfl) ?_
  exact e_vret dX2_setStone_20 rfl ⟨rfl, rfl⟩
