set_option maxRecDepth 4000 in
theorem lp_X10_carriedBy {G : sh_G} {S : Nat → Int32} {A : Nat → Nat → Int32} {Lg : Nat → Int64} {P : Nat → Option Nat} {T : List sh_C} {b : sh_be} {k : Nat} (hR : RM S A b) (hI : IV b) (hk : k < 4) : ∀ (m s : Nat), bn b 3 - s < m → s ≤ bn b 3 → Ev G mX10_carriedBy 0 0 (mkW G S A Lg P T) 4 [some (.ref 24), some (.int (nI k)), some (.int (nI (cbN (ba b 7) (20 + k) s))), some (.int (nI s))] [] (sh_is (some (.int (nI (cbN (ba b 7) (20 + k) (bn b 3))))) (mkW G S A Lg P T)) := by
  have e1 := hR.2.1
  have e2 := hR.2.2.1
  have e3 := hR.2.2.2.1
  have e4 := hR.2.2.2.2.1
  have i1 := hI.1
  have i2 := hI.2.1
  have i3 := hI.2.2.1
  have i4 := hI.2.2.2.1
  intro m
  induction m with
  | zero => intro s h; omega
  | succ m ih =>
    intro s hm hs
    refine e_iload_n 3 dX10_carriedBy_4 rfl rfl ?_
    refine e_aload_n 0 dX10_carriedBy_5 rfl rfl ?_
    refine e_getfield 15 dX10_carriedBy_6 kf_X10_148_10 rfl rfl ?_
    refine e_icmp_ge (tgt := 41) dX10_carriedBy_9 rfl (fun h9 => ?_) (fun h9 => ?_)
    · have e : s = bn b 3 := by rw [e4, nI_leI (by omega) (by omega)] at h9; omega
      subst e
      refine e_iload_n 2 dX10_carriedBy_41 rfl rfl ?_
      exact e_iret dX10_carriedBy_42 rfl ⟨rfl, rfl⟩
    · have hlt : s < bn b 3 := by rw [e4, nI_leI (by omega) (by omega)] at h9; omega
      obtain ⟨q1, q2, q3, q4, q5⟩ := hR.st hI hlt
      refine e_iload_n 2 dX10_carriedBy_12 rfl rfl ?_
      refine e_aload_n 0 dX10_carriedBy_13 rfl rfl ?_
      refine e_getfield 17 dX10_carriedBy_14 kf_X10_37_10 rfl rfl ?_
      refine e_iload_n 3 dX10_carriedBy_17 rfl rfl ?_
      refine e_iald_n (s) dX10_carriedBy_18 rfl rfl (by omega) (by decide) ?_
      refine e_bipush (v := 20) dX10_carriedBy_19 (by decide) ?_
      refine e_iload_n 1 dX10_carriedBy_21 rfl rfl ?_
      refine e_iadd dX10_carriedBy_22 ?_
      refine e_icmp_ne (tgt := 32) dX10_carriedBy_23 rfl (fun h23 => ?_) (fun h23 => ?_)
      · refine e_iconst (v := 0) dX10_carriedBy_32 rfl ?_
        refine e_ior dX10_carriedBy_33 ?_
        refine e_istore_n (lv' := [_, _, _, _]) 2 dX10_carriedBy_34 rfl (Nat.le_of_ble_eq_true rfl) rfl rfl ?_
        refine e_iinc (v := _ + 1) (lv' := [_, _, _, _]) dX10_carriedBy_35 rfl (Nat.le_of_ble_eq_true rfl) rfl rfl rfl ?_
        refine e_goto (tgt := 4) dX10_carriedBy_38 rfl ?_
        have := ih (s + 1) (by omega) (by omega)
        first
        | (rw [q2, add20, nI_eq (by omega) (by omega)] at h23; rw [sh1 (by omega), fa_or, nI_1]; simpa only [cbN, h23, if_true] using this)
        | (rw [q2, add20, Ne, nI_eq (by omega) (by omega)] at h23; rw [or_z, nI_1]; simpa only [cbN, if_neg h23, Nat.or_zero] using this)
      · refine e_iconst (v := 1) dX10_carriedBy_26 rfl ?_
        refine e_iload_n 3 dX10_carriedBy_27 rfl rfl ?_
        refine e_ishl dX10_carriedBy_28 ?_
        refine e_goto (tgt := 33) dX10_carriedBy_29 rfl ?_
        refine e_ior dX10_carriedBy_33 ?_
        refine e_istore_n (lv' := [_, _, _, _]) 2 dX10_carriedBy_34 rfl (Nat.le_of_ble_eq_true rfl) rfl rfl ?_
        refine e_iinc (v := _ + 1) (lv' := [_, _, _, _]) dX10_carriedBy_35 rfl (Nat.le_of_ble_eq_true rfl) rfl rfl rfl ?_
        refine e_goto (tgt := 4) dX10_carriedBy_38 rfl ?_
        have := ih (s + 1) (by omega) (by omega)
        first
        | (rw [q2, add20, nI_eq (by omega) (by omega)] at h23; rw [sh1 (by omega), fa_or, nI_1]; simpa only [cbN, h23, if_true] using this)
        | (rw [q2, add20, Ne, nI_eq (by omega) (by omega)] at h23; rw [or_z, nI_1]; simpa only [cbN, if_neg h23, Nat.or_zero] using this)

set_option maxRecDepth 4000 in
theorem sp_X10_carriedBy {G : sh_G} {S : Nat → Int32} {A : Nat → Nat → Int32} {Lg : Nat → Int64} {P : Nat → Option Nat} {T : List sh_C} {b : sh_be} {k : Nat} (hR : RM S A b) (hI : IV b) (hk : k < 4) : Ev G mX10_carriedBy 0 0 (mkW G S A Lg P T) 0 [some (.ref 24), some (.int (nI k)), none, none] [] (sh_is (some (.int (nI (cbN (ba b 7) (20 + k) (bn b 3))))) (mkW G S A Lg P T)) := by
  refine e_iconst (v := 0) dX10_carriedBy_0 rfl ?_
  refine e_istore_n (lv' := [_, _, _, _]) 2 dX10_carriedBy_1 rfl (Nat.le_of_ble_eq_true rfl) rfl rfl ?_
  refine e_iconst (v := 0) dX10_carriedBy_2 rfl ?_
  refine e_istore_n (lv' := [_, _, _, _]) 3 dX10_carriedBy_3 rfl (Nat.le_of_ble_eq_true rfl) rfl rfl ?_
  exact lp_X10_carriedBy hR hI hk (bn b 3 + 1) 0 (by omega) (by omega)

theorem popc_0 : ∀ f, popc f 0 = 0
  | 0 => rfl
  | f + 1 => by unfold popc; rw [show 0 / 2 = 0 from rfl, popc_0 f]
theorem shr1 {n : Nat} (h : n < 2 ^ 31) : nI n >>> ((1 : Int32) &&& 31) = nI (n / 2) := by
  rw [pk_shrN h ((1 : Int32) &&& 31) 1 (by decide)]
set_option maxRecDepth 4000 in
theorem lp_X10_bits {G : sh_G} {S : Nat → Int32} {A : Nat → Nat → Int32} {Lg : Nat → Int64} {P : Nat → Option Nat} {T : List sh_C}   : ∀ (f : Nat), f ≤ 4 → ∀ (n a : Nat) (x0 : Int32), n < 2 ^ f → Ev G mX10_bits 0 0 (mkW G S A Lg P T) 4 [some (.int x0), some (.int (nI a)), some (.int (nI n))] [] (sh_is (some (.int (nI (a + popc f n)))) (mkW G S A Lg P T)) := by
  intro f
  induction f with
  | zero =>
    intro hf n a x0 hn
    have e : n = 0 := by omega
    subst e
    refine e_iload_n 2 dX10_bits_4 rfl rfl ?_
    refine e_if_le (tgt := 21) dX10_bits_5 rfl (fun _ => ?_) (fun h5 => absurd (by decide) h5)
    refine e_iload_n 1 dX10_bits_21 rfl rfl ?_
    exact e_iret dX10_bits_22 rfl ⟨rfl, rfl⟩
  | succ f ih =>
    intro hf n a x0 hn
    refine e_iload_n 2 dX10_bits_4 rfl rfl ?_
    refine e_if_le (tgt := 21) dX10_bits_5 rfl (fun h5 => ?_) (fun h5 => ?_)
    · refine e_iload_n 1 dX10_bits_21 rfl rfl ?_
      refine e_iret dX10_bits_22 rfl ?_
      have e : n = 0 := by
        rw [show (0 : Int32) = nI 0 from rfl, nI_leI (by have := Nat.pow_le_pow_right (n := 2) (by omega) hf; omega) (by omega)] at h5
        omega
      subst e
      exact is_i (by rw [show popc (f + 1) 0 = 0 from popc_0 _]; rfl) rfl
    · refine e_iload_n 1 dX10_bits_8 rfl rfl ?_
      refine e_iload_n 2 dX10_bits_9 rfl rfl ?_
      refine e_iconst (v := 1) dX10_bits_10 rfl ?_
      refine e_iand dX10_bits_11 ?_
      refine e_iadd dX10_bits_12 ?_
      refine e_istore_n (lv' := [_, _, _]) 1 dX10_bits_13 rfl (Nat.le_of_ble_eq_true rfl) rfl rfl ?_
      refine e_iload_n 2 dX10_bits_14 rfl rfl ?_
      refine e_iconst (v := 1) dX10_bits_15 rfl ?_
      refine e_ishr dX10_bits_16 ?_
      refine e_istore_n (lv' := [_, _, _]) 2 dX10_bits_17 rfl (Nat.le_of_ble_eq_true rfl) rfl rfl ?_
      refine e_goto (tgt := 4) dX10_bits_18 rfl ?_
      have hp := Nat.pow_le_pow_right (n := 2) (by omega) hf
      have := ih (by omega) (n / 2) (a + n % 2) x0 (bitk hn)
      rw [pk_andN (by omega) (m := 1) 1 (by decide), nI_add, shr1 (by omega)]
      simpa only [popc, Nat.add_assoc, Nat.pow_one] using this

set_option maxRecDepth 4000 in
theorem sp_X10_bits {G : sh_G} {S : Nat → Int32} {A : Nat → Nat → Int32} {Lg : Nat → Int64} {P : Nat → Option Nat} {T : List sh_C} {n : Nat} (hn : n < 16) : Ev G mX10_bits 0 0 (mkW G S A Lg P T) 0 [some (.int (nI n)), none, none] [] (sh_is (some (.int (nI (popc 4 n)))) (mkW G S A Lg P T)) := by
  refine e_iconst (v := 0) dX10_bits_0 rfl ?_
  refine e_istore_n (lv' := [_, _, _]) 1 dX10_bits_1 rfl (Nat.le_of_ble_eq_true rfl) rfl rfl ?_
  refine e_iload_n 0 dX10_bits_2 rfl rfl ?_
  refine e_istore_n (lv' := [_, _, _]) 2 dX10_bits_3 rfl (Nat.le_of_ble_eq_true rfl) rfl rfl ?_
  have := lp_X10_bits (G := G) (S := S) (A := A) (Lg := Lg) (P := P) (T := T) 4 (by omega) n 0 (nI n) hn
  rw [Nat.zero_add] at this
  exact this

set_option maxRecDepth 4000 in
theorem lp_X10_withStones {G : sh_G} {S : Nat → Int32} {A : Nat → Nat → Int32} {Lg : Nat → Int64} {P : Nat → Option Nat} {T : List sh_C} {b : sh_be} {k : Nat} (hR : RM S A b) (hI : IV b) (hk : k < 4) : ∀ (m s : Nat), bn b 3 - s < m → s ≤ bn b 3 → Ev G mX10_withStones 0 0 (mkW G S A Lg P T) 9 [some (.ref 24), some (.int (nI k)), some (.int (nI (wtN (ba b 4 k) (ba b 7) (ba b 6) (20 + k) s))), some (.int (nI s))] [] (sh_is (some (.int (nI (wN b k)))) (mkW G S A Lg P T)) := by
  have e1 := hR.2.1
  have e2 := hR.2.2.1
  have e3 := hR.2.2.2.1
  have e4 := hR.2.2.2.2.1
  have i1 := hI.1
  have i2 := hI.2.1
  have i3 := hI.2.2.1
  have i4 := hI.2.2.2.1
  intro m
  induction m with
  | zero => intro s h; omega
  | succ m ih =>
    intro s hm hs
    refine e_iload_n 3 dX10_withStones_9 rfl rfl ?_
    refine e_aload_n 0 dX10_withStones_10 rfl rfl ?_
    refine e_getfield 15 dX10_withStones_11 kf_X10_148_10 rfl rfl ?_
    refine e_icmp_ge (tgt := 49) dX10_withStones_14 rfl (fun h14 => ?_) (fun h14 => ?_)
    · have e : s = bn b 3 := by rw [e4, nI_leI (by omega) (by omega)] at h14; omega
      subst e
      refine e_iload_n 2 dX10_withStones_49 rfl rfl ?_
      exact e_iret dX10_withStones_50 rfl ⟨rfl, rfl⟩
    · have hlt : s < bn b 3 := by rw [e4, nI_leI (by omega) (by omega)] at h14; omega
      obtain ⟨q1, q2, q3, q4, q5⟩ := hR.st hI hlt
      refine e_iload_n 2 dX10_withStones_17 rfl rfl ?_
      refine e_aload_n 0 dX10_withStones_18 rfl rfl ?_
      refine e_getfield 17 dX10_withStones_19 kf_X10_37_10 rfl rfl ?_
      refine e_iload_n 3 dX10_withStones_22 rfl rfl ?_
      refine e_iald_n (s) dX10_withStones_23 rfl rfl (by omega) (by decide) ?_
      refine e_bipush (v := 20) dX10_withStones_24 (by decide) ?_
      refine e_iload_n 1 dX10_withStones_26 rfl rfl ?_
      refine e_iadd dX10_withStones_27 ?_
      refine e_icmp_ne (tgt := 40) dX10_withStones_28 rfl (fun h28 => ?_) (fun h28 => ?_)
      · refine e_iconst (v := 0) dX10_withStones_40 rfl ?_
        refine e_iadd dX10_withStones_41 ?_
        refine e_istore_n (lv' := [_, _, _, _]) 2 dX10_withStones_42 rfl (Nat.le_of_ble_eq_true rfl) rfl rfl ?_
        refine e_iinc (v := _ + 1) (lv' := [_, _, _, _]) dX10_withStones_43 rfl (Nat.le_of_ble_eq_true rfl) rfl rfl rfl ?_
        refine e_goto (tgt := 9) dX10_withStones_46 rfl ?_
        have := ih (s + 1) (by omega) (by omega)
        first
        | (rw [q2, add20, nI_eq (by omega) (by omega)] at h28; rw [q1, nI_add, nI_1]; simpa only [wtN, h28, if_true] using this)
        | (rw [q2, add20, Ne, nI_eq (by omega) (by omega)] at h28; rw [Int32.add_zero, nI_1]; simpa only [wtN, if_neg h28, Nat.add_zero] using this)
      · refine e_aload_n 0 dX10_withStones_31 rfl rfl ?_
        refine e_getfield 16 dX10_withStones_32 kf_X10_34_10 rfl rfl ?_
        refine e_iload_n 3 dX10_withStones_35 rfl rfl ?_
        refine e_iald_n (s) dX10_withStones_36 rfl rfl (by omega) (by decide) ?_
        refine e_goto (tgt := 41) dX10_withStones_37 rfl ?_
        refine e_iadd dX10_withStones_41 ?_
        refine e_istore_n (lv' := [_, _, _, _]) 2 dX10_withStones_42 rfl (Nat.le_of_ble_eq_true rfl) rfl rfl ?_
        refine e_iinc (v := _ + 1) (lv' := [_, _, _, _]) dX10_withStones_43 rfl (Nat.le_of_ble_eq_true rfl) rfl rfl rfl ?_
        refine e_goto (tgt := 9) dX10_withStones_46 rfl ?_
        have := ih (s + 1) (by omega) (by omega)
        first
        | (rw [q2, add20, nI_eq (by omega) (by omega)] at h28; rw [q1, nI_add, nI_1]; simpa only [wtN, h28, if_true] using this)
        | (rw [q2, add20, Ne, nI_eq (by omega) (by omega)] at h28; rw [Int32.add_zero, nI_1]; simpa only [wtN, if_neg h28, Nat.add_zero] using this)

set_option maxRecDepth 4000 in
theorem sp_X10_withStones {G : sh_G} {S : Nat → Int32} {A : Nat → Nat → Int32} {Lg : Nat → Int64} {P : Nat → Option Nat} {T : List sh_C} {b : sh_be} {k : Nat} (hR : RM S A b) (hI : IV b) (hk : k < bn b 2) : Ev G mX10_withStones 0 0 (mkW G S A Lg P T) 0 [some (.ref 24), some (.int (nI k)), none, none] [] (sh_is (some (.int (nI (wN b k)))) (mkW G S A Lg P T)) := by
  obtain ⟨p1, p2, p3, p4, p5, p6, p7, p8⟩ := hR.pe hI hk
  refine e_aload_n 0 dX10_withStones_0 rfl rfl ?_
  refine e_getfield 13 dX10_withStones_1 kf_X10_28_10 rfl rfl ?_
  refine e_iload_n 1 dX10_withStones_4 rfl rfl ?_
  refine e_iald_n (k) dX10_withStones_5 rfl rfl (by omega) (by decide) ?_
  refine e_istore_n (lv' := [_, _, _, _]) 2 dX10_withStones_6 rfl (Nat.le_of_ble_eq_true rfl) rfl rfl ?_
  refine e_iconst (v := 0) dX10_withStones_7 rfl ?_
  refine e_istore_n (lv' := [_, _, _, _]) 3 dX10_withStones_8 rfl (Nat.le_of_ble_eq_true rfl) rfl rfl ?_
  rw [p1]
  exact lp_X10_withStones hR hI (by omega) (bn b 3 + 1) 0 (by omega) (by omega)

set_option maxRecDepth 4000 in
theorem lp_X10_roomOf {G : sh_G} {S : Nat → Int32} {A : Nat → Nat → Int32} {Lg : Nat → Int64} {P : Nat → Option Nat} {T : List sh_C} {b : sh_be} {pt : Nat} (hR : RM S A b) (hI : IV b) (hp : pt < 2 ^ 31) : ∀ (m k : Nat) (x y : Int32), bn b 2 - k < m → k ≤ bn b 2 → rjR (rpN (ba b 5) pt k) x y → Ev G mX10_roomOf 0 0 (mkW G S A Lg P T) 8 [some (.ref 24), some (.int (nI pt)), some (.int x), some (.int y), some (.int (nI k))] [] (sh_is (some (.int (oJ (roomN b pt)))) (mkW G S A Lg P T)) := by
  have e1 := hR.2.1
  have e2 := hR.2.2.1
  have e3 := hR.2.2.2.1
  have e4 := hR.2.2.2.2.1
  have i1 := hI.1
  have i2 := hI.2.1
  have i3 := hI.2.2.1
  have i4 := hI.2.2.2.1
  intro m
  induction m with
  | zero => intro k x y h; omega
  | succ m ih =>
    intro k x y hm hk hr
    refine e_iload dX10_roomOf_8 rfl ?_
    refine e_aload_n 0 dX10_roomOf_10 rfl rfl ?_
    refine e_getfield 12 dX10_roomOf_11 kf_X10_145_10 rfl rfl ?_
    refine e_icmp_ge (tgt := 66) dX10_roomOf_14 rfl (fun h14 => ?_) (fun h14 => ?_)
    · have e : k = bn b 2 := by rw [e3, nI_leI (by omega) (by omega)] at h14; omega
      subst e
      refine e_iload_n 3 dX10_roomOf_66 rfl rfl ?_
      refine e_if_eq (tgt := 74) dX10_roomOf_67 rfl (fun h67 => ?_) (fun h67 => ?_)
      · refine e_bipush (v := -9) dX10_roomOf_74 (by decide) ?_
        refine e_iret dX10_roomOf_76 rfl ?_
        rcases hr with ⟨o, ho, rfl, rfl, -⟩ | ⟨ho, rfl⟩
        · first
          | exact absurd h67 (by decide)
          | exact is_i (by rw [roomN, ho]; rfl) rfl
        · first
          | exact absurd rfl h67
          | exact is_i (by rw [roomN, ho]; rfl) rfl
      · refine e_iload_n 2 dX10_roomOf_70 rfl rfl ?_
        refine e_goto (tgt := 76) dX10_roomOf_71 rfl ?_
        refine e_iret dX10_roomOf_76 rfl ?_
        rcases hr with ⟨o, ho, rfl, rfl, -⟩ | ⟨ho, rfl⟩
        · first
          | exact absurd h67 (by decide)
          | exact is_i (by rw [roomN, ho]; rfl) rfl
        · first
          | exact absurd rfl h67
          | exact is_i (by rw [roomN, ho]; rfl) rfl
    · have hlt : k < bn b 2 := by rw [e3, nI_leI (by omega) (by omega)] at h14; omega
      obtain ⟨p1, p2, p3, p4, p5, p6, p7, p8⟩ := hR.pe hI hlt
      refine e_iload_n 1 dX10_roomOf_17 rfl rfl ?_
      refine e_iload dX10_roomOf_18 rfl ?_
      refine e_ishr dX10_roomOf_20 ?_
      refine e_iconst (v := 1) dX10_roomOf_21 rfl ?_
      refine e_iand dX10_roomOf_22 ?_
      refine e_iconst (v := 1) dX10_roomOf_23 rfl ?_
      refine e_icmp_ne (tgt := 60) dX10_roomOf_24 rfl (fun h24 => ?_) (fun h24 => ?_)
      · refine e_iinc (v := _ + 1) (lv' := [_, _, _, _, _]) dX10_roomOf_60 rfl (Nat.le_of_ble_eq_true rfl) rfl rfl rfl ?_
        refine e_goto (tgt := 8) dX10_roomOf_63 rfl ?_
        rw [nI_1]
        first
        | (rw [Ne, bitm hp (by omega)] at h24; exact ih (k + 1) x y (by omega) (by omega) (rj_0 hr h24))
        | (rw [if_pos h28] at hj; rw [p2]; exact ih (k + 1) _ _ (by omega) (by omega) hj)
        | (rw [if_neg h28, if_pos h32] at hj; rw [p2]; exact ih (k + 1) _ _ (by omega) (by omega) hj)
        | (rw [p2] at h43; rw [if_neg h28, if_neg h32, if_neg h43] at hj; rw [p2]; exact ih (k + 1) _ _ (by omega) (by omega) hj)
        | (rw [p2] at h43; rw [if_neg h28, if_neg h32, if_pos h43] at hj; rw [p2]; exact ih (k + 1) _ _ (by omega) (by omega) hj)
      · rw [bitm hp (by omega)] at h24
        have hj := rj_1 hr h24 (by omega)
        refine e_iload_n 3 dX10_roomOf_27 rfl rfl ?_
        refine e_if_eq (tgt := 50) dX10_roomOf_28 rfl (fun h28 => ?_) (fun h28 => ?_)
        · refine e_iconst (v := 0) dX10_roomOf_50 rfl ?_
          refine e_istore_n (lv' := [_, _, _, _, _]) 3 dX10_roomOf_51 rfl (Nat.le_of_ble_eq_true rfl) rfl rfl ?_
          refine e_aload_n 0 dX10_roomOf_52 rfl rfl ?_
          refine e_getfield 14 dX10_roomOf_53 kf_X10_31_10 rfl rfl ?_
          refine e_iload dX10_roomOf_56 rfl ?_
          refine e_iald_n (k) dX10_roomOf_58 rfl rfl (by omega) (by decide) ?_
          refine e_istore_n (lv' := [_, _, _, _, _]) 2 dX10_roomOf_59 rfl (Nat.le_of_ble_eq_true rfl) rfl rfl ?_
          refine e_iinc (v := _ + 1) (lv' := [_, _, _, _, _]) dX10_roomOf_60 rfl (Nat.le_of_ble_eq_true rfl) rfl rfl rfl ?_
          refine e_goto (tgt := 8) dX10_roomOf_63 rfl ?_
          rw [nI_1]
          first
          | (rw [Ne, bitm hp (by omega)] at h24; exact ih (k + 1) x y (by omega) (by omega) (rj_0 hr h24))
          | (rw [if_pos h28] at hj; rw [p2]; exact ih (k + 1) _ _ (by omega) (by omega) hj)
          | (rw [if_neg h28, if_pos h32] at hj; rw [p2]; exact ih (k + 1) _ _ (by omega) (by omega) hj)
          | (rw [p2] at h43; rw [if_neg h28, if_neg h32, if_neg h43] at hj; rw [p2]; exact ih (k + 1) _ _ (by omega) (by omega) hj)
          | (rw [p2] at h43; rw [if_neg h28, if_neg h32, if_pos h43] at hj; rw [p2]; exact ih (k + 1) _ _ (by omega) (by omega) hj)
        · refine e_iload_n 2 dX10_roomOf_31 rfl rfl ?_
          refine e_if_lt (tgt := 46) dX10_roomOf_32 rfl (fun h32 => ?_) (fun h32 => ?_)
          · refine e_iconst (v := 1) dX10_roomOf_46 rfl ?_
            refine e_goto (tgt := 51) dX10_roomOf_47 rfl ?_
            refine e_istore_n (lv' := [_, _, _, _, _]) 3 dX10_roomOf_51 rfl (Nat.le_of_ble_eq_true rfl) rfl rfl ?_
            refine e_aload_n 0 dX10_roomOf_52 rfl rfl ?_
            refine e_getfield 14 dX10_roomOf_53 kf_X10_31_10 rfl rfl ?_
            refine e_iload dX10_roomOf_56 rfl ?_
            refine e_iald_n (k) dX10_roomOf_58 rfl rfl (by omega) (by decide) ?_
            refine e_istore_n (lv' := [_, _, _, _, _]) 2 dX10_roomOf_59 rfl (Nat.le_of_ble_eq_true rfl) rfl rfl ?_
            refine e_iinc (v := _ + 1) (lv' := [_, _, _, _, _]) dX10_roomOf_60 rfl (Nat.le_of_ble_eq_true rfl) rfl rfl rfl ?_
            refine e_goto (tgt := 8) dX10_roomOf_63 rfl ?_
            rw [nI_1]
            first
            | (rw [Ne, bitm hp (by omega)] at h24; exact ih (k + 1) x y (by omega) (by omega) (rj_0 hr h24))
            | (rw [if_pos h28] at hj; rw [p2]; exact ih (k + 1) _ _ (by omega) (by omega) hj)
            | (rw [if_neg h28, if_pos h32] at hj; rw [p2]; exact ih (k + 1) _ _ (by omega) (by omega) hj)
            | (rw [p2] at h43; rw [if_neg h28, if_neg h32, if_neg h43] at hj; rw [p2]; exact ih (k + 1) _ _ (by omega) (by omega) hj)
            | (rw [p2] at h43; rw [if_neg h28, if_neg h32, if_pos h43] at hj; rw [p2]; exact ih (k + 1) _ _ (by omega) (by omega) hj)
          · refine e_iload_n 2 dX10_roomOf_35 rfl rfl ?_
            refine e_aload_n 0 dX10_roomOf_36 rfl rfl ?_
            refine e_getfield 14 dX10_roomOf_37 kf_X10_31_10 rfl rfl ?_
            refine e_iload dX10_roomOf_40 rfl ?_
            refine e_iald_n (k) dX10_roomOf_42 rfl rfl (by omega) (by decide) ?_
            refine e_icmp_ne (tgt := 50) dX10_roomOf_43 rfl (fun h43 => ?_) (fun h43 => ?_)
            · refine e_iconst (v := 0) dX10_roomOf_50 rfl ?_
              refine e_istore_n (lv' := [_, _, _, _, _]) 3 dX10_roomOf_51 rfl (Nat.le_of_ble_eq_true rfl) rfl rfl ?_
              refine e_aload_n 0 dX10_roomOf_52 rfl rfl ?_
              refine e_getfield 14 dX10_roomOf_53 kf_X10_31_10 rfl rfl ?_
              refine e_iload dX10_roomOf_56 rfl ?_
              refine e_iald_n (k) dX10_roomOf_58 rfl rfl (by omega) (by decide) ?_
              refine e_istore_n (lv' := [_, _, _, _, _]) 2 dX10_roomOf_59 rfl (Nat.le_of_ble_eq_true rfl) rfl rfl ?_
              refine e_iinc (v := _ + 1) (lv' := [_, _, _, _, _]) dX10_roomOf_60 rfl (Nat.le_of_ble_eq_true rfl) rfl rfl rfl ?_
              refine e_goto (tgt := 8) dX10_roomOf_63 rfl ?_
              rw [nI_1]
              first
              | (rw [Ne, bitm hp (by omega)] at h24; exact ih (k + 1) x y (by omega) (by omega) (rj_0 hr h24))
              | (rw [if_pos h28] at hj; rw [p2]; exact ih (k + 1) _ _ (by omega) (by omega) hj)
              | (rw [if_neg h28, if_pos h32] at hj; rw [p2]; exact ih (k + 1) _ _ (by omega) (by omega) hj)
              | (rw [p2] at h43; rw [if_neg h28, if_neg h32, if_neg h43] at hj; rw [p2]; exact ih (k + 1) _ _ (by omega) (by omega) hj)
              | (rw [p2] at h43; rw [if_neg h28, if_neg h32, if_pos h43] at hj; rw [p2]; exact ih (k + 1) _ _ (by omega) (by omega) hj)
            · refine e_iconst (v := 1) dX10_roomOf_46 rfl ?_
              refine e_goto (tgt := 51) dX10_roomOf_47 rfl ?_
              refine e_istore_n (lv' := [_, _, _, _, _]) 3 dX10_roomOf_51 rfl (Nat.le_of_ble_eq_true rfl) rfl rfl ?_
              refine e_aload_n 0 dX10_roomOf_52 rfl rfl ?_
              refine e_getfield 14 dX10_roomOf_53 kf_X10_31_10 rfl rfl ?_
              refine e_iload dX10_roomOf_56 rfl ?_
              refine e_iald_n (k) dX10_roomOf_58 rfl rfl (by omega) (by decide) ?_
              refine e_istore_n (lv' := [_, _, _, _, _]) 2 dX10_roomOf_59 rfl (Nat.le_of_ble_eq_true rfl) rfl rfl ?_
              refine e_iinc (v := _ + 1) (lv' := [_, _, _, _, _]) dX10_roomOf_60 rfl (Nat.le_of_ble_eq_true rfl) rfl rfl rfl ?_
              refine e_goto (tgt := 8) dX10_roomOf_63 rfl ?_
              rw [nI_1]
              first
              | (rw [Ne, bitm hp (by omega)] at h24; exact ih (k + 1) x y (by omega) (by omega) (rj_0 hr h24))
              | (rw [if_pos h28] at hj; rw [p2]; exact ih (k + 1) _ _ (by omega) (by omega) hj)
              | (rw [if_neg h28, if_pos h32] at hj; rw [p2]; exact ih (k + 1) _ _ (by omega) (by omega) hj)
              | (rw [p2] at h43; rw [if_neg h28, if_neg h32, if_neg h43] at hj; rw [p2]; exact ih (k + 1) _ _ (by omega) (by omega) hj)
              | (rw [p2] at h43; rw [if_neg h28, if_neg h32, if_pos h43] at hj; rw [p2]; exact ih (k + 1) _ _ (by omega) (by omega) hj)

set_option maxRecDepth 4000 in
theorem sp_X10_roomOf {G : sh_G} {S : Nat → Int32} {A : Nat → Nat → Int32} {Lg : Nat → Int64} {P : Nat → Option Nat} {T : List sh_C} {b : sh_be} {pt : Nat} (hR : RM S A b) (hI : IV b) (hp : pt < 2 ^ 31) : Ev G mX10_roomOf 0 0 (mkW G S A Lg P T) 0 [some (.ref 24), some (.int (nI pt)), none, none, none] [] (sh_is (some (.int (oJ (roomN b pt)))) (mkW G S A Lg P T)) := by
  refine e_bipush (v := -9) dX10_roomOf_0 (by decide) ?_
  refine e_istore_n (lv' := [_, _, _, _, _]) 2 dX10_roomOf_2 rfl (Nat.le_of_ble_eq_true rfl) rfl rfl ?_
  refine e_iconst (v := 1) dX10_roomOf_3 rfl ?_
  refine e_istore_n (lv' := [_, _, _, _, _]) 3 dX10_roomOf_4 rfl (Nat.le_of_ble_eq_true rfl) rfl rfl ?_
  refine e_iconst (v := 0) dX10_roomOf_5 rfl ?_
  refine e_istore (lv' := [_, _, _, _, _]) dX10_roomOf_6 (Nat.le_of_ble_eq_true rfl) rfl rfl ?_
  exact lp_X10_roomOf hR hI hp (bn b 2 + 1) 0 (-9) 1 (by omega) (by omega) (Or.inl ⟨none, rfl, rfl, rfl, fun r h => by cases h⟩)

set_option maxRecDepth 4000 in
theorem lp_X10_weightOfAll {G : sh_G} {S : Nat → Int32} {A : Nat → Nat → Int32} {Lg : Nat → Int64} {P : Nat → Option Nat} {T : List sh_C} {b : sh_be} {pt : Nat} (hR : RM S A b) (hI : IV b) (hp : pt < 2 ^ 31) : ∀ (m k : Nat), bn b 2 - k < m → k ≤ bn b 2 → Ev G mX10_weightOfAll 0 0 (mkW G S A Lg P T) 4 [some (.ref 24), some (.int (nI pt)), some (.int (nI (wpN b pt k))), some (.int (nI k))] [] (sh_is (some (.int (nI (wpN b pt (bn b 2))))) (mkW G S A Lg P T)) := by
  have e1 := hR.2.1
  have e2 := hR.2.2.1
  have e3 := hR.2.2.2.1
  have e4 := hR.2.2.2.2.1
  have i1 := hI.1
  have i2 := hI.2.1
  have i3 := hI.2.2.1
  have i4 := hI.2.2.2.1
  intro m
  induction m with
  | zero => intro k h; omega
  | succ m ih =>
    intro k hm hk
    refine e_iload_n 3 dX10_weightOfAll_4 rfl rfl ?_
    refine e_aload_n 0 dX10_weightOfAll_5 rfl rfl ?_
    refine e_getfield 12 dX10_weightOfAll_6 kf_X10_145_10 rfl rfl ?_
    refine e_icmp_ge (tgt := 39) dX10_weightOfAll_9 rfl (fun h9 => ?_) (fun h9 => ?_)
    · have e : k = bn b 2 := by rw [e3, nI_leI (by omega) (by omega)] at h9; omega
      subst e
      refine e_iload_n 2 dX10_weightOfAll_39 rfl rfl ?_
      exact e_iret dX10_weightOfAll_40 rfl ⟨rfl, rfl⟩
    · have hlt : k < bn b 2 := by rw [e3, nI_leI (by omega) (by omega)] at h9; omega
      refine e_iload_n 2 dX10_weightOfAll_12 rfl rfl ?_
      refine e_iload_n 1 dX10_weightOfAll_13 rfl rfl ?_
      refine e_iload_n 3 dX10_weightOfAll_14 rfl rfl ?_
      refine e_ishr dX10_weightOfAll_15 ?_
      refine e_iconst (v := 1) dX10_weightOfAll_16 rfl ?_
      refine e_iand dX10_weightOfAll_17 ?_
      refine e_iconst (v := 1) dX10_weightOfAll_18 rfl ?_
      refine e_icmp_ne (tgt := 30) dX10_weightOfAll_19 rfl (fun h19 => ?_) (fun h19 => ?_)
      · refine e_iconst (v := 0) dX10_weightOfAll_30 rfl ?_
        refine e_iadd dX10_weightOfAll_31 ?_
        refine e_istore_n (lv' := [_, _, _, _]) 2 dX10_weightOfAll_32 rfl (Nat.le_of_ble_eq_true rfl) rfl rfl ?_
        refine e_iinc (v := _ + 1) (lv' := [_, _, _, _]) dX10_weightOfAll_33 rfl (Nat.le_of_ble_eq_true rfl) rfl rfl rfl ?_
        refine e_goto (tgt := 4) dX10_weightOfAll_36 rfl ?_
        have := ih (k + 1) (by omega) (by omega)
        first
        | (rw [Ne, bitm hp (by omega)] at h19; rw [Int32.add_zero, nI_1]; simpa only [wpN, if_neg h19, Nat.add_zero] using this)
        | (rw [bitm hp (by omega)] at h19; rw [nI_add, nI_1]; simpa only [wpN, h19, if_true] using this)
      · refine e_aload_n 0 dX10_weightOfAll_22 rfl rfl ?_
        refine e_iload_n 3 dX10_weightOfAll_23 rfl rfl ?_
        refine f_callVi (As := [_]) ok_X10_withStones ⟨Nat.le_of_ble_eq_true rfl, Nat.le_of_ble_eq_true rfl⟩ dX10_weightOfAll_24 kl_X10_182 ki_X10_withStones kv_X10_withStones rfl rfl rfl rfl (Nat.le_of_ble_eq_true rfl) (Nat.le_of_ble_eq_true rfl) (Nat.zero_add _) (Nat.zero_add _) (sp_X10_withStones hR hI hlt) ?_
        refine e_goto (tgt := 31) dX10_weightOfAll_27 rfl ?_
        refine e_iadd dX10_weightOfAll_31 ?_
        refine e_istore_n (lv' := [_, _, _, _]) 2 dX10_weightOfAll_32 rfl (Nat.le_of_ble_eq_true rfl) rfl rfl ?_
        refine e_iinc (v := _ + 1) (lv' := [_, _, _, _]) dX10_weightOfAll_33 rfl (Nat.le_of_ble_eq_true rfl) rfl rfl rfl ?_
        refine e_goto (tgt := 4) dX10_weightOfAll_36 rfl ?_
        have := ih (k + 1) (by omega) (by omega)
        first
        | (rw [Ne, bitm hp (by omega)] at h19; rw [Int32.add_zero, nI_1]; simpa only [wpN, if_neg h19, Nat.add_zero] using this)
        | (rw [bitm hp (by omega)] at h19; rw [nI_add, nI_1]; simpa only [wpN, h19, if_true] using this)

set_option maxRecDepth 4000 in
theorem sp_X10_weightOfAll {G : sh_G} {S : Nat → Int32} {A : Nat → Nat → Int32} {Lg : Nat → Int64} {P : Nat → Option Nat} {T : List sh_C} {b : sh_be} {pt : Nat} (hR : RM S A b) (hI : IV b) (hp : pt < 2 ^ 31) : Ev G mX10_weightOfAll 0 0 (mkW G S A Lg P T) 0 [some (.ref 24), some (.int (nI pt)), none, none] [] (sh_is (some (.int (nI (wpN b pt (bn b 2))))) (mkW G S A Lg P T)) := by
  refine e_iconst (v := 0) dX10_weightOfAll_0 rfl ?_
  refine e_istore_n (lv' := [_, _, _, _]) 2 dX10_weightOfAll_1 rfl (Nat.le_of_ble_eq_true rfl) rfl rfl ?_
  refine e_iconst (v := 0) dX10_weightOfAll_2 rfl ?_
  refine e_istore_n (lv' := [_, _, _, _]) 3 dX10_weightOfAll_3 rfl (Nat.le_of_ble_eq_true rfl) rfl rfl ?_
  exact lp_X10_weightOfAll hR hI hp (bn b 2 + 1) 0 (by omega) (by omega)

set_option maxRecDepth 4000 in
theorem sp_X10_partyBarred {G : sh_G} {S : Nat → Int32} {A : Nat → Nat → Int32} {Lg : Nat → Int64} {P : Nat → Option Nat} {T : List sh_C} {b : sh_be} {pa d : Int32} (hR : RM S A b) (hI : IV b) : Ev G mX10_partyBarred 0 0 (mkW G S A Lg P T) 0 [some (.ref 24), some (.int pa), some (.int d), none] [] (sh_is (some (.int (oBar b pa d))) (mkW G S A Lg P T)) := by
  have e1 := hR.2.1
  have e2 := hR.2.2.1
  have e3 := hR.2.2.2.1
  have e4 := hR.2.2.2.2.1
  have i1 := hI.1
  have i2 := hI.2.1
  have i3 := hI.2.2.1
  have i4 := hI.2.2.2.1
  refine e_iload_n 1 dX10_partyBarred_0 rfl rfl ?_
  refine e_iconst (v := 1) dX10_partyBarred_1 rfl ?_
  refine e_icmp_lt (tgt := 14) dX10_partyBarred_2 rfl (fun h2 => ?_) (fun h2 => ?_)
  · refine e_bipush (v := -2) dX10_partyBarred_14 (by decide) ?_
    refine e_iret dX10_partyBarred_16 rfl ?_
    refine is_i ?_ rfl
    have hn : ¬ (¬ pa = 0 ∧ usr pa (nI (bn b 2)) = 0) := by
      intro h
      have h := (par_ok i3).mpr h
      first
      | exact h.1 h2
      | (rw [e3] at h11; exact h11 h.2)
    rw [oBar, if_pos hn]
  · refine e_iload_n 1 dX10_partyBarred_5 rfl rfl ?_
    refine e_aload_n 0 dX10_partyBarred_6 rfl rfl ?_
    refine e_getfield 12 dX10_partyBarred_7 kf_X10_145_10 rfl rfl ?_
    refine e_ishr dX10_partyBarred_10 ?_
    refine e_if_eq (tgt := 17) dX10_partyBarred_11 rfl (fun h11 => ?_) (fun h11 => ?_)
    · have hpa := (par_ok i3).mp ⟨h2, by rw [← e3]; exact h11⟩
      refine e_aload_n 0 dX10_partyBarred_17 rfl rfl ?_
      refine e_iload_n 2 dX10_partyBarred_18 rfl rfl ?_
      refine f_callVi (As := [_]) ok_X10_noDoor ⟨Nat.le_of_ble_eq_true rfl, Nat.le_of_ble_eq_true rfl⟩ dX10_partyBarred_19 kl_X10_164 ki_X10_noDoor kv_X10_noDoor rfl rfl rfl rfl (Nat.le_of_ble_eq_true rfl) (Nat.le_of_ble_eq_true rfl) (Nat.zero_add _) (Nat.zero_add _) (sp_X10_noDoor hR hI) ?_
      refine e_if_eq (tgt := 27) dX10_partyBarred_22 rfl (fun h22 => ?_) (fun h22 => ?_)
      · have h22 := Classical.not_not.mp (bi_0.mp h22)
        obtain ⟨pt, hpt, rfl⟩ := usr_ok i3 hpa.2
        have h16 : 2 ^ bn b 2 ≤ 16 := Nat.pow_le_pow_right (n := 2) (by omega) i3
        obtain ⟨q, hq, rfl⟩ := ix_of (x := d) rfl (by omega) h22
        refine e_aload_n 0 dX10_partyBarred_27 rfl rfl ?_
        refine e_iload_n 1 dX10_partyBarred_28 rfl rfl ?_
        refine f_callVi (As := [_]) ok_X10_roomOf ⟨Nat.le_of_ble_eq_true rfl, Nat.le_of_ble_eq_true rfl⟩ dX10_partyBarred_29 kl_X10_191 ki_X10_roomOf kv_X10_roomOf rfl rfl rfl rfl (Nat.le_of_ble_eq_true rfl) (Nat.le_of_ble_eq_true rfl) (Nat.zero_add _) (Nat.zero_add _) (sp_X10_roomOf hR hI (by omega)) ?_
        refine e_istore_n (lv' := [_, _, _, _]) 3 dX10_partyBarred_32 rfl (Nat.le_of_ble_eq_true rfl) rfl rfl ?_
        refine e_iload_n 3 dX10_partyBarred_33 rfl rfl ?_
        refine e_if_lt (tgt := 46) dX10_partyBarred_34 rfl (fun h34 => ?_) (fun h34 => ?_)
        · try rw [sdN] at h43
          refine e_bipush (v := -3) dX10_partyBarred_46 (by decide) ?_
          refine e_goto (tgt := 52) dX10_partyBarred_48 rfl ?_
          refine e_iret dX10_partyBarred_52 rfl ?_
          refine is_i ?_ rfl
          first
          | (have hr : roomN b pt = none := (oJ_neg (fun r h => by have := roomN_lt hI h; omega)).mp h34
             rw [oBar, if_neg (nn_ hpa), if_neg (nn_ h22), nI_clamp (by omega), nI_clamp (by omega), hr]; done)
          | (have c3 : r ≠ ba b 1 q ∧ r ≠ ba b 2 q := by
               refine ⟨fun e => h43 ?_, fun e => h43 ?_⟩
               · rw [if_pos e.symm]; decide
               · split
                 · decide
                 · rw [if_pos e.symm]; decide
             rw [oBar, if_neg (nn_ hpa), if_neg (nn_ h22), nI_clamp (by omega), nI_clamp (by omega), hr]; simp only []; rw [if_pos c3]; done)
          | (have c3 : ¬ (r ≠ ba b 1 q ∧ r ≠ ba b 2 q) := by
               intro h
               rw [if_neg (fun e => h.1 e.symm), if_neg (fun e => h.2 e.symm)] at h43
               exact absurd h43 (by decide)
             rw [oBar, if_neg (nn_ hpa), if_neg (nn_ h22), nI_clamp (by omega), nI_clamp (by omega), hr]; simp only []; rw [if_neg c3]; done)
        · obtain ⟨r, hr⟩ : ∃ r, roomN b pt = some r := by
            rcases hr : roomN b pt with _ | r
            · rw [hr] at h34; exact absurd (show oJ none < 0 by decide) h34
            · exact ⟨r, rfl⟩
          have hrl := roomN_lt hI hr
          rw [oJ_s hr]
          refine e_aload_n 0 dX10_partyBarred_37 rfl rfl ?_
          refine e_iload_n 2 dX10_partyBarred_38 rfl rfl ?_
          refine e_iload_n 3 dX10_partyBarred_39 rfl rfl ?_
          refine f_callVi (As := [_, _]) ok_X10_sideIn ⟨Nat.le_of_ble_eq_true rfl, Nat.le_of_ble_eq_true rfl⟩ dX10_partyBarred_40 kl_X10_157 ki_X10_sideIn kv_X10_sideIn rfl rfl rfl rfl (Nat.le_of_ble_eq_true rfl) (Nat.le_of_ble_eq_true rfl) (Nat.zero_add _) (Nat.zero_add _) (sp_X10_sideIn hR hI hq (by omega)) ?_
          refine e_if_ge (tgt := 51) dX10_partyBarred_43 rfl (fun h43 => ?_) (fun h43 => ?_)
          · try rw [sdN] at h43
            refine e_iconst (v := 0) dX10_partyBarred_51 rfl ?_
            refine e_iret dX10_partyBarred_52 rfl ?_
            refine is_i ?_ rfl
            first
            | (have hr : roomN b pt = none := (oJ_neg (fun r h => by have := roomN_lt hI h; omega)).mp h34
               rw [oBar, if_neg (nn_ hpa), if_neg (nn_ h22), nI_clamp (by omega), nI_clamp (by omega), hr]; done)
            | (have c3 : r ≠ ba b 1 q ∧ r ≠ ba b 2 q := by
                 refine ⟨fun e => h43 ?_, fun e => h43 ?_⟩
                 · rw [if_pos e.symm]; decide
                 · split
                   · decide
                   · rw [if_pos e.symm]; decide
               rw [oBar, if_neg (nn_ hpa), if_neg (nn_ h22), nI_clamp (by omega), nI_clamp (by omega), hr]; simp only []; rw [if_pos c3]; done)
            | (have c3 : ¬ (r ≠ ba b 1 q ∧ r ≠ ba b 2 q) := by
                 intro h
                 rw [if_neg (fun e => h.1 e.symm), if_neg (fun e => h.2 e.symm)] at h43
                 exact absurd h43 (by decide)
               rw [oBar, if_neg (nn_ hpa), if_neg (nn_ h22), nI_clamp (by omega), nI_clamp (by omega), hr]; simp only []; rw [if_neg c3]; done)
          · try rw [sdN] at h43
            refine e_bipush (v := -3) dX10_partyBarred_46 (by decide) ?_
            refine e_goto (tgt := 52) dX10_partyBarred_48 rfl ?_
            refine e_iret dX10_partyBarred_52 rfl ?_
            refine is_i ?_ rfl
            first
            | (have hr : roomN b pt = none := (oJ_neg (fun r h => by have := roomN_lt hI h; omega)).mp h34
               rw [oBar, if_neg (nn_ hpa), if_neg (nn_ h22), nI_clamp (by omega), nI_clamp (by omega), hr]; done)
            | (have c3 : r ≠ ba b 1 q ∧ r ≠ ba b 2 q := by
                 refine ⟨fun e => h43 ?_, fun e => h43 ?_⟩
                 · rw [if_pos e.symm]; decide
                 · split
                   · decide
                   · rw [if_pos e.symm]; decide
               rw [oBar, if_neg (nn_ hpa), if_neg (nn_ h22), nI_clamp (by omega), nI_clamp (by omega), hr]; simp only []; rw [if_pos c3]; done)
            | (have c3 : ¬ (r ≠ ba b 1 q ∧ r ≠ ba b 2 q) := by
                 intro h
                 rw [if_neg (fun e => h.1 e.symm), if_neg (fun e => h.2 e.symm)] at h43
                 exact absurd h43 (by decide)
               rw [oBar, if_neg (nn_ hpa), if_neg (nn_ h22), nI_clamp (by omega), nI_clamp (by omega), hr]; simp only []; rw [if_neg c3]; done)
      · refine e_iconst (v := -1) dX10_partyBarred_25 rfl ?_
        refine e_iret dX10_partyBarred_26 rfl ?_
        exact is_i (by rw [oBar, if_neg (nn_ hpa), if_pos (bi_1.mp h22)]) rfl
    · refine e_bipush (v := -2) dX10_partyBarred_14 (by decide) ?_
      refine e_iret dX10_partyBarred_16 rfl ?_
      refine is_i ?_ rfl
      have hn : ¬ (¬ pa = 0 ∧ usr pa (nI (bn b 2)) = 0) := by
        intro h
        have h := (par_ok i3).mpr h
        first
        | exact h.1 h2
        | (rw [e3] at h11; exact h11 h.2)
      rw [oBar, if_pos hn]
