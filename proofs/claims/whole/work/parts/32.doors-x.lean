def tlD (k f s wt i : Nat) : Int32 := match i with
  | 0 => nI k
  | 1 => nI f
  | 2 => nI s
  | 3 => nI wt
  | 4 => nI (dAsk k wt 0 - dSl k)
  | 5 => nI (dAsk k wt 0 + dSl k)
  | 6 => nI (dAsk k wt 1 - dSl k)
  | _ => nI (dAsk k wt 1 + dSl k)
set_option maxRecDepth 4000 in
theorem sp_X6_note {G : sh_G} {S : Nat → Int32} {A : Nat → Nat → Int32} {Lg : Nat → Int64} {P : Nat → Option Nat} {T : List sh_C} {v : Int32}  : Ev G mX6_note 0 0 (mkW G S A Lg P T) 0 [some (.ref 15), some (.int v)] [] (sh_is none (mkW G (va_up S 10 (31 * S 10 + v)) A Lg P T)) := by
  refine e_aload_n 0 dX6_note_0 rfl rfl ?_
  refine e_bipush (v := 31) dX6_note_1 (by decide) ?_
  refine e_aload_n 0 dX6_note_3 rfl rfl ?_
  refine e_getfield 0 dX6_note_4 kf_X6_7_6 rfl rfl ?_
  refine e_imul dX6_note_7 ?_
  refine e_iload_n 1 dX6_note_8 rfl rfl ?_
  refine e_iadd dX6_note_9 ?_
  refine e_putfield 0 dX6_note_10 kp_X6_note_7_6 (sh_fit_i _) rfl (Nat.le_of_ble_eq_true rfl) ?_
  exact e_vret dX6_note_13 rfl ⟨rfl, rfl⟩

set_option maxRecDepth 4000 in
theorem sp_X4_beyond {G : sh_G} {S : Nat → Int32} {A : Nat → Nat → Int32} {Lg : Nat → Int64} {P : Nat → Option Nat} {T : List sh_C} {k f s wt j : Nat} {r x : Nat} (hT : T[j]? = some (dC k f s wt)) (hk : k ≤ 2) (hf : f < 100) (hs : s < 100) (hw : wt < 1000) (hr : r < 100) (hx : x < 2 ^ 30) : Ev G mX4_beyond 0 0 (mkW G S A Lg P T) 0 [some (.ref (j + 47)), some (.int (nI r)), some (.int (nI x))] [] (sh_is (some (.int (oI (dBe k f s wt r x)))) (mkW G S A Lg P T)) := by
  have hb : ∀ k, dAsk k wt 0 + dSl k < 2 ^ 30 ∧ dAsk k wt 1 + dSl k < 2 ^ 30 := fun k => by unfold dAsk dSl; constructor <;> (repeat' split) <;> omega
  have hb0 := hb 0
  have hb1 := hb 1
  have hb2 := hb 2
  rcases (by omega : k = 0 ∨ k = 1 ∨ k = 2) with rfl | rfl | rfl
  · refine e_iload_n 1 dX4_beyond_0 rfl rfl ?_
    refine e_aload_n 0 dX4_beyond_1 rfl rfl ?_
    refine e_getfield 0 dX4_beyond_2 kf_X4_14_4 (mkW_T.trans hT) rfl ?_
    refine e_icmp_ne (tgt := 33) dX4_beyond_5 rfl (fun h5 => ?_) (fun h5 => ?_)
    · first | rw [nI_eq (by omega) (by omega)] at h5 | rw [Ne, nI_eq (by omega) (by omega)] at h5
      refine e_iload_n 1 dX4_beyond_33 rfl rfl ?_
      refine e_aload_n 0 dX4_beyond_34 rfl rfl ?_
      refine e_getfield 1 dX4_beyond_35 kf_X4_18_4 (mkW_T.trans hT) rfl ?_
      refine e_icmp_ne (tgt := 66) dX4_beyond_38 rfl (fun h38 => ?_) (fun h38 => ?_)
      · first | rw [nI_eq (by omega) (by omega)] at h38 | rw [Ne, nI_eq (by omega) (by omega)] at h38
        refine e_iconst (v := -1) dX4_beyond_66 rfl ?_
        refine e_iret dX4_beyond_67 rfl ?_
        exact is_i (by rw [dBe, if_neg h5, if_neg h38]; rfl) rfl
      · first | rw [nI_eq (by omega) (by omega)] at h38 | rw [Ne, nI_eq (by omega) (by omega)] at h38
        refine e_iload_n 2 dX4_beyond_41 rfl rfl ?_
        refine e_aload_n 0 dX4_beyond_42 rfl rfl ?_
        refine e_getfield 5 dX4_beyond_43 kf_X4_36_4 (mkW_T.trans hT) rfl ?_
        refine e_icmp_lt (tgt := 64) dX4_beyond_46 rfl (fun h46 => ?_) (fun h46 => ?_)
        · first | (rw [nI_ltI (by omega) (by omega)] at h54) | (rw [nI_ltI (by omega) (by omega)] at h46)
          refine e_iconst (v := -1) dX4_beyond_64 rfl ?_
          refine e_iret dX4_beyond_65 rfl ?_
          refine is_i ?_ rfl
          first
          | (rw [dBe, if_neg h5, if_pos h38, if_pos ⟨by omega, by omega⟩]; rfl)
          | (rw [dBe, if_neg h5, if_pos h38, if_neg (by show ¬ (_ ∧ _); omega)]; rfl)
        · rw [nI_ltI (by omega) (by omega)] at h46
          refine e_iload_n 2 dX4_beyond_49 rfl rfl ?_
          refine e_aload_n 0 dX4_beyond_50 rfl rfl ?_
          refine e_getfield 6 dX4_beyond_51 kf_X4_39_4 (mkW_T.trans hT) rfl ?_
          refine e_icmp_gt (tgt := 64) dX4_beyond_54 rfl (fun h54 => ?_) (fun h54 => ?_)
          · first | (rw [nI_ltI (by omega) (by omega)] at h54) | (rw [nI_ltI (by omega) (by omega)] at h46)
            refine e_iconst (v := -1) dX4_beyond_64 rfl ?_
            refine e_iret dX4_beyond_65 rfl ?_
            refine is_i ?_ rfl
            first
            | (rw [dBe, if_neg h5, if_pos h38, if_pos ⟨by omega, by omega⟩]; rfl)
            | (rw [dBe, if_neg h5, if_pos h38, if_neg (by show ¬ (_ ∧ _); omega)]; rfl)
          · rw [nI_ltI (by omega) (by omega)] at h54
            refine e_aload_n 0 dX4_beyond_57 rfl rfl ?_
            refine e_getfield 0 dX4_beyond_58 kf_X4_14_4 (mkW_T.trans hT) rfl ?_
            refine e_goto (tgt := 65) dX4_beyond_61 rfl ?_
            refine e_iret dX4_beyond_65 rfl ?_
            refine is_i ?_ rfl
            first
            | (rw [dBe, if_neg h5, if_pos h38, if_pos ⟨by omega, by omega⟩]; rfl)
            | (rw [dBe, if_neg h5, if_pos h38, if_neg (by show ¬ (_ ∧ _); omega)]; rfl)
    · first | rw [nI_eq (by omega) (by omega)] at h5 | rw [Ne, nI_eq (by omega) (by omega)] at h5
      refine e_iload_n 2 dX4_beyond_8 rfl rfl ?_
      refine e_aload_n 0 dX4_beyond_9 rfl rfl ?_
      refine e_getfield 3 dX4_beyond_10 kf_X4_30_4 (mkW_T.trans hT) rfl ?_
      refine e_icmp_lt (tgt := 31) dX4_beyond_13 rfl (fun h13 => ?_) (fun h13 => ?_)
      · first | (rw [nI_ltI (by omega) (by omega)] at h21) | (rw [nI_ltI (by omega) (by omega)] at h13)
        refine e_iconst (v := -1) dX4_beyond_31 rfl ?_
        refine e_iret dX4_beyond_32 rfl ?_
        refine is_i ?_ rfl
        first
        | (rw [dBe, if_pos h5, if_pos ⟨by omega, by omega⟩]; rfl)
        | (rw [dBe, if_pos h5, if_neg (by show ¬ (_ ∧ _); omega)]; rfl)
      · rw [nI_ltI (by omega) (by omega)] at h13
        refine e_iload_n 2 dX4_beyond_16 rfl rfl ?_
        refine e_aload_n 0 dX4_beyond_17 rfl rfl ?_
        refine e_getfield 4 dX4_beyond_18 kf_X4_33_4 (mkW_T.trans hT) rfl ?_
        refine e_icmp_gt (tgt := 31) dX4_beyond_21 rfl (fun h21 => ?_) (fun h21 => ?_)
        · first | (rw [nI_ltI (by omega) (by omega)] at h21) | (rw [nI_ltI (by omega) (by omega)] at h13)
          refine e_iconst (v := -1) dX4_beyond_31 rfl ?_
          refine e_iret dX4_beyond_32 rfl ?_
          refine is_i ?_ rfl
          first
          | (rw [dBe, if_pos h5, if_pos ⟨by omega, by omega⟩]; rfl)
          | (rw [dBe, if_pos h5, if_neg (by show ¬ (_ ∧ _); omega)]; rfl)
        · rw [nI_ltI (by omega) (by omega)] at h21
          refine e_aload_n 0 dX4_beyond_24 rfl rfl ?_
          refine e_getfield 1 dX4_beyond_25 kf_X4_18_4 (mkW_T.trans hT) rfl ?_
          refine e_goto (tgt := 32) dX4_beyond_28 rfl ?_
          refine e_iret dX4_beyond_32 rfl ?_
          refine is_i ?_ rfl
          first
          | (rw [dBe, if_pos h5, if_pos ⟨by omega, by omega⟩]; rfl)
          | (rw [dBe, if_pos h5, if_neg (by show ¬ (_ ∧ _); omega)]; rfl)
  · refine e_iload_n 1 dX4_beyond_0 rfl rfl ?_
    refine e_aload_n 0 dX4_beyond_1 rfl rfl ?_
    refine e_getfield 0 dX4_beyond_2 kf_X4_14_7 (mkW_T.trans hT) rfl ?_
    refine e_icmp_ne (tgt := 33) dX4_beyond_5 rfl (fun h5 => ?_) (fun h5 => ?_)
    · first | rw [nI_eq (by omega) (by omega)] at h5 | rw [Ne, nI_eq (by omega) (by omega)] at h5
      refine e_iload_n 1 dX4_beyond_33 rfl rfl ?_
      refine e_aload_n 0 dX4_beyond_34 rfl rfl ?_
      refine e_getfield 1 dX4_beyond_35 kf_X4_18_7 (mkW_T.trans hT) rfl ?_
      refine e_icmp_ne (tgt := 66) dX4_beyond_38 rfl (fun h38 => ?_) (fun h38 => ?_)
      · first | rw [nI_eq (by omega) (by omega)] at h38 | rw [Ne, nI_eq (by omega) (by omega)] at h38
        refine e_iconst (v := -1) dX4_beyond_66 rfl ?_
        refine e_iret dX4_beyond_67 rfl ?_
        exact is_i (by rw [dBe, if_neg h5, if_neg h38]; rfl) rfl
      · first | rw [nI_eq (by omega) (by omega)] at h38 | rw [Ne, nI_eq (by omega) (by omega)] at h38
        refine e_iload_n 2 dX4_beyond_41 rfl rfl ?_
        refine e_aload_n 0 dX4_beyond_42 rfl rfl ?_
        refine e_getfield 5 dX4_beyond_43 kf_X4_36_7 (mkW_T.trans hT) rfl ?_
        refine e_icmp_lt (tgt := 64) dX4_beyond_46 rfl (fun h46 => ?_) (fun h46 => ?_)
        · first | (rw [nI_ltI (by omega) (by omega)] at h54) | (rw [nI_ltI (by omega) (by omega)] at h46)
          refine e_iconst (v := -1) dX4_beyond_64 rfl ?_
          refine e_iret dX4_beyond_65 rfl ?_
          refine is_i ?_ rfl
          first
          | (rw [dBe, if_neg h5, if_pos h38, if_pos ⟨by omega, by omega⟩]; rfl)
          | (rw [dBe, if_neg h5, if_pos h38, if_neg (by show ¬ (_ ∧ _); omega)]; rfl)
        · rw [nI_ltI (by omega) (by omega)] at h46
          refine e_iload_n 2 dX4_beyond_49 rfl rfl ?_
          refine e_aload_n 0 dX4_beyond_50 rfl rfl ?_
          refine e_getfield 6 dX4_beyond_51 kf_X4_39_7 (mkW_T.trans hT) rfl ?_
          refine e_icmp_gt (tgt := 64) dX4_beyond_54 rfl (fun h54 => ?_) (fun h54 => ?_)
          · first | (rw [nI_ltI (by omega) (by omega)] at h54) | (rw [nI_ltI (by omega) (by omega)] at h46)
            refine e_iconst (v := -1) dX4_beyond_64 rfl ?_
            refine e_iret dX4_beyond_65 rfl ?_
            refine is_i ?_ rfl
            first
            | (rw [dBe, if_neg h5, if_pos h38, if_pos ⟨by omega, by omega⟩]; rfl)
            | (rw [dBe, if_neg h5, if_pos h38, if_neg (by show ¬ (_ ∧ _); omega)]; rfl)
          · rw [nI_ltI (by omega) (by omega)] at h54
            refine e_aload_n 0 dX4_beyond_57 rfl rfl ?_
            refine e_getfield 0 dX4_beyond_58 kf_X4_14_7 (mkW_T.trans hT) rfl ?_
            refine e_goto (tgt := 65) dX4_beyond_61 rfl ?_
            refine e_iret dX4_beyond_65 rfl ?_
            refine is_i ?_ rfl
            first
            | (rw [dBe, if_neg h5, if_pos h38, if_pos ⟨by omega, by omega⟩]; rfl)
            | (rw [dBe, if_neg h5, if_pos h38, if_neg (by show ¬ (_ ∧ _); omega)]; rfl)
    · first | rw [nI_eq (by omega) (by omega)] at h5 | rw [Ne, nI_eq (by omega) (by omega)] at h5
      refine e_iload_n 2 dX4_beyond_8 rfl rfl ?_
      refine e_aload_n 0 dX4_beyond_9 rfl rfl ?_
      refine e_getfield 3 dX4_beyond_10 kf_X4_30_7 (mkW_T.trans hT) rfl ?_
      refine e_icmp_lt (tgt := 31) dX4_beyond_13 rfl (fun h13 => ?_) (fun h13 => ?_)
      · first | (rw [nI_ltI (by omega) (by omega)] at h21) | (rw [nI_ltI (by omega) (by omega)] at h13)
        refine e_iconst (v := -1) dX4_beyond_31 rfl ?_
        refine e_iret dX4_beyond_32 rfl ?_
        refine is_i ?_ rfl
        first
        | (rw [dBe, if_pos h5, if_pos ⟨by omega, by omega⟩]; rfl)
        | (rw [dBe, if_pos h5, if_neg (by show ¬ (_ ∧ _); omega)]; rfl)
      · rw [nI_ltI (by omega) (by omega)] at h13
        refine e_iload_n 2 dX4_beyond_16 rfl rfl ?_
        refine e_aload_n 0 dX4_beyond_17 rfl rfl ?_
        refine e_getfield 4 dX4_beyond_18 kf_X4_33_7 (mkW_T.trans hT) rfl ?_
        refine e_icmp_gt (tgt := 31) dX4_beyond_21 rfl (fun h21 => ?_) (fun h21 => ?_)
        · first | (rw [nI_ltI (by omega) (by omega)] at h21) | (rw [nI_ltI (by omega) (by omega)] at h13)
          refine e_iconst (v := -1) dX4_beyond_31 rfl ?_
          refine e_iret dX4_beyond_32 rfl ?_
          refine is_i ?_ rfl
          first
          | (rw [dBe, if_pos h5, if_pos ⟨by omega, by omega⟩]; rfl)
          | (rw [dBe, if_pos h5, if_neg (by show ¬ (_ ∧ _); omega)]; rfl)
        · rw [nI_ltI (by omega) (by omega)] at h21
          refine e_aload_n 0 dX4_beyond_24 rfl rfl ?_
          refine e_getfield 1 dX4_beyond_25 kf_X4_18_7 (mkW_T.trans hT) rfl ?_
          refine e_goto (tgt := 32) dX4_beyond_28 rfl ?_
          refine e_iret dX4_beyond_32 rfl ?_
          refine is_i ?_ rfl
          first
          | (rw [dBe, if_pos h5, if_pos ⟨by omega, by omega⟩]; rfl)
          | (rw [dBe, if_pos h5, if_neg (by show ¬ (_ ∧ _); omega)]; rfl)
  · refine e_iload_n 1 dX4_beyond_0 rfl rfl ?_
    refine e_aload_n 0 dX4_beyond_1 rfl rfl ?_
    refine e_getfield 0 dX4_beyond_2 kf_X4_14_8 (mkW_T.trans hT) rfl ?_
    refine e_icmp_ne (tgt := 33) dX4_beyond_5 rfl (fun h5 => ?_) (fun h5 => ?_)
    · first | rw [nI_eq (by omega) (by omega)] at h5 | rw [Ne, nI_eq (by omega) (by omega)] at h5
      refine e_iload_n 1 dX4_beyond_33 rfl rfl ?_
      refine e_aload_n 0 dX4_beyond_34 rfl rfl ?_
      refine e_getfield 1 dX4_beyond_35 kf_X4_18_8 (mkW_T.trans hT) rfl ?_
      refine e_icmp_ne (tgt := 66) dX4_beyond_38 rfl (fun h38 => ?_) (fun h38 => ?_)
      · first | rw [nI_eq (by omega) (by omega)] at h38 | rw [Ne, nI_eq (by omega) (by omega)] at h38
        refine e_iconst (v := -1) dX4_beyond_66 rfl ?_
        refine e_iret dX4_beyond_67 rfl ?_
        exact is_i (by rw [dBe, if_neg h5, if_neg h38]; rfl) rfl
      · first | rw [nI_eq (by omega) (by omega)] at h38 | rw [Ne, nI_eq (by omega) (by omega)] at h38
        refine e_iload_n 2 dX4_beyond_41 rfl rfl ?_
        refine e_aload_n 0 dX4_beyond_42 rfl rfl ?_
        refine e_getfield 5 dX4_beyond_43 kf_X4_36_8 (mkW_T.trans hT) rfl ?_
        refine e_icmp_lt (tgt := 64) dX4_beyond_46 rfl (fun h46 => ?_) (fun h46 => ?_)
        · first | (rw [nI_ltI (by omega) (by omega)] at h54) | (rw [nI_ltI (by omega) (by omega)] at h46)
          refine e_iconst (v := -1) dX4_beyond_64 rfl ?_
          refine e_iret dX4_beyond_65 rfl ?_
          refine is_i ?_ rfl
          first
          | (rw [dBe, if_neg h5, if_pos h38, if_pos ⟨by omega, by omega⟩]; rfl)
          | (rw [dBe, if_neg h5, if_pos h38, if_neg (by show ¬ (_ ∧ _); omega)]; rfl)
        · rw [nI_ltI (by omega) (by omega)] at h46
          refine e_iload_n 2 dX4_beyond_49 rfl rfl ?_
          refine e_aload_n 0 dX4_beyond_50 rfl rfl ?_
          refine e_getfield 6 dX4_beyond_51 kf_X4_39_8 (mkW_T.trans hT) rfl ?_
          refine e_icmp_gt (tgt := 64) dX4_beyond_54 rfl (fun h54 => ?_) (fun h54 => ?_)
          · first | (rw [nI_ltI (by omega) (by omega)] at h54) | (rw [nI_ltI (by omega) (by omega)] at h46)
            refine e_iconst (v := -1) dX4_beyond_64 rfl ?_
            refine e_iret dX4_beyond_65 rfl ?_
            refine is_i ?_ rfl
            first
            | (rw [dBe, if_neg h5, if_pos h38, if_pos ⟨by omega, by omega⟩]; rfl)
            | (rw [dBe, if_neg h5, if_pos h38, if_neg (by show ¬ (_ ∧ _); omega)]; rfl)
          · rw [nI_ltI (by omega) (by omega)] at h54
            refine e_aload_n 0 dX4_beyond_57 rfl rfl ?_
            refine e_getfield 0 dX4_beyond_58 kf_X4_14_8 (mkW_T.trans hT) rfl ?_
            refine e_goto (tgt := 65) dX4_beyond_61 rfl ?_
            refine e_iret dX4_beyond_65 rfl ?_
            refine is_i ?_ rfl
            first
            | (rw [dBe, if_neg h5, if_pos h38, if_pos ⟨by omega, by omega⟩]; rfl)
            | (rw [dBe, if_neg h5, if_pos h38, if_neg (by show ¬ (_ ∧ _); omega)]; rfl)
    · first | rw [nI_eq (by omega) (by omega)] at h5 | rw [Ne, nI_eq (by omega) (by omega)] at h5
      refine e_iload_n 2 dX4_beyond_8 rfl rfl ?_
      refine e_aload_n 0 dX4_beyond_9 rfl rfl ?_
      refine e_getfield 3 dX4_beyond_10 kf_X4_30_8 (mkW_T.trans hT) rfl ?_
      refine e_icmp_lt (tgt := 31) dX4_beyond_13 rfl (fun h13 => ?_) (fun h13 => ?_)
      · first | (rw [nI_ltI (by omega) (by omega)] at h21) | (rw [nI_ltI (by omega) (by omega)] at h13)
        refine e_iconst (v := -1) dX4_beyond_31 rfl ?_
        refine e_iret dX4_beyond_32 rfl ?_
        refine is_i ?_ rfl
        first
        | (rw [dBe, if_pos h5, if_pos ⟨by omega, by omega⟩]; rfl)
        | (rw [dBe, if_pos h5, if_neg (by show ¬ (_ ∧ _); omega)]; rfl)
      · rw [nI_ltI (by omega) (by omega)] at h13
        refine e_iload_n 2 dX4_beyond_16 rfl rfl ?_
        refine e_aload_n 0 dX4_beyond_17 rfl rfl ?_
        refine e_getfield 4 dX4_beyond_18 kf_X4_33_8 (mkW_T.trans hT) rfl ?_
        refine e_icmp_gt (tgt := 31) dX4_beyond_21 rfl (fun h21 => ?_) (fun h21 => ?_)
        · first | (rw [nI_ltI (by omega) (by omega)] at h21) | (rw [nI_ltI (by omega) (by omega)] at h13)
          refine e_iconst (v := -1) dX4_beyond_31 rfl ?_
          refine e_iret dX4_beyond_32 rfl ?_
          refine is_i ?_ rfl
          first
          | (rw [dBe, if_pos h5, if_pos ⟨by omega, by omega⟩]; rfl)
          | (rw [dBe, if_pos h5, if_neg (by show ¬ (_ ∧ _); omega)]; rfl)
        · rw [nI_ltI (by omega) (by omega)] at h21
          refine e_aload_n 0 dX4_beyond_24 rfl rfl ?_
          refine e_getfield 1 dX4_beyond_25 kf_X4_18_8 (mkW_T.trans hT) rfl ?_
          refine e_goto (tgt := 32) dX4_beyond_28 rfl ?_
          refine e_iret dX4_beyond_32 rfl ?_
          refine is_i ?_ rfl
          first
          | (rw [dBe, if_pos h5, if_pos ⟨by omega, by omega⟩]; rfl)
          | (rw [dBe, if_pos h5, if_neg (by show ¬ (_ ∧ _); omega)]; rfl)

set_option maxRecDepth 4000 in
theorem sp_X4_isOf {G : sh_G} {S : Nat → Int32} {A : Nat → Nat → Int32} {Lg : Nat → Int64} {P : Nat → Option Nat} {T : List sh_C} {k f s wt j : Nat} {r : Int32} (hT : T[j]? = some (dC k f s wt)) (hk : k ≤ 2) : Ev G mX4_isOf 0 0 (mkW G S A Lg P T) 0 [some (.ref (j + 47)), some (.int r)] [] (sh_is (some (.int (bi (r = nI f ∨ r = nI s)))) (mkW G S A Lg P T)) := by
  rcases (by omega : k = 0 ∨ k = 1 ∨ k = 2) with rfl | rfl | rfl
  · refine e_iload_n 1 dX4_isOf_0 rfl rfl ?_
    refine e_aload_n 0 dX4_isOf_1 rfl rfl ?_
    refine e_getfield 0 dX4_isOf_2 kf_X4_14_4 (mkW_T.trans hT) rfl ?_
    refine e_icmp_eq (tgt := 16) dX4_isOf_5 rfl (fun h5 => ?_) (fun h5 => ?_)
    · refine e_iconst (v := 1) dX4_isOf_16 rfl ?_
      refine e_goto (tgt := 21) dX4_isOf_17 rfl ?_
      refine e_zret dX4_isOf_21 rfl rfl ?_
      refine is_i ?_ rfl
      first
      | (rw [bi_f (fun h => h.elim h5 h13)]; done)
      | (rw [bi_t (Or.inl h5)]; done)
      | (rw [bi_t (Or.inr h13)]; done)
    · refine e_iload_n 1 dX4_isOf_8 rfl rfl ?_
      refine e_aload_n 0 dX4_isOf_9 rfl rfl ?_
      refine e_getfield 1 dX4_isOf_10 kf_X4_18_4 (mkW_T.trans hT) rfl ?_
      refine e_icmp_ne (tgt := 20) dX4_isOf_13 rfl (fun h13 => ?_) (fun h13 => ?_)
      · refine e_iconst (v := 0) dX4_isOf_20 rfl ?_
        refine e_zret dX4_isOf_21 rfl rfl ?_
        refine is_i ?_ rfl
        first
        | (rw [bi_f (fun h => h.elim h5 h13)]; done)
        | (rw [bi_t (Or.inl h5)]; done)
        | (rw [bi_t (Or.inr h13)]; done)
      · refine e_iconst (v := 1) dX4_isOf_16 rfl ?_
        refine e_goto (tgt := 21) dX4_isOf_17 rfl ?_
        refine e_zret dX4_isOf_21 rfl rfl ?_
        refine is_i ?_ rfl
        first
        | (rw [bi_f (fun h => h.elim h5 h13)]; done)
        | (rw [bi_t (Or.inl h5)]; done)
        | (rw [bi_t (Or.inr h13)]; done)
  · refine e_iload_n 1 dX4_isOf_0 rfl rfl ?_
    refine e_aload_n 0 dX4_isOf_1 rfl rfl ?_
    refine e_getfield 0 dX4_isOf_2 kf_X4_14_7 (mkW_T.trans hT) rfl ?_
    refine e_icmp_eq (tgt := 16) dX4_isOf_5 rfl (fun h5 => ?_) (fun h5 => ?_)
    · refine e_iconst (v := 1) dX4_isOf_16 rfl ?_
      refine e_goto (tgt := 21) dX4_isOf_17 rfl ?_
      refine e_zret dX4_isOf_21 rfl rfl ?_
      refine is_i ?_ rfl
      first
      | (rw [bi_f (fun h => h.elim h5 h13)]; done)
      | (rw [bi_t (Or.inl h5)]; done)
      | (rw [bi_t (Or.inr h13)]; done)
    · refine e_iload_n 1 dX4_isOf_8 rfl rfl ?_
      refine e_aload_n 0 dX4_isOf_9 rfl rfl ?_
      refine e_getfield 1 dX4_isOf_10 kf_X4_18_7 (mkW_T.trans hT) rfl ?_
      refine e_icmp_ne (tgt := 20) dX4_isOf_13 rfl (fun h13 => ?_) (fun h13 => ?_)
      · refine e_iconst (v := 0) dX4_isOf_20 rfl ?_
        refine e_zret dX4_isOf_21 rfl rfl ?_
        refine is_i ?_ rfl
        first
        | (rw [bi_f (fun h => h.elim h5 h13)]; done)
        | (rw [bi_t (Or.inl h5)]; done)
        | (rw [bi_t (Or.inr h13)]; done)
      · refine e_iconst (v := 1) dX4_isOf_16 rfl ?_
        refine e_goto (tgt := 21) dX4_isOf_17 rfl ?_
        refine e_zret dX4_isOf_21 rfl rfl ?_
        refine is_i ?_ rfl
        first
        | (rw [bi_f (fun h => h.elim h5 h13)]; done)
        | (rw [bi_t (Or.inl h5)]; done)
        | (rw [bi_t (Or.inr h13)]; done)
  · refine e_iload_n 1 dX4_isOf_0 rfl rfl ?_
    refine e_aload_n 0 dX4_isOf_1 rfl rfl ?_
    refine e_getfield 0 dX4_isOf_2 kf_X4_14_8 (mkW_T.trans hT) rfl ?_
    refine e_icmp_eq (tgt := 16) dX4_isOf_5 rfl (fun h5 => ?_) (fun h5 => ?_)
    · refine e_iconst (v := 1) dX4_isOf_16 rfl ?_
      refine e_goto (tgt := 21) dX4_isOf_17 rfl ?_
      refine e_zret dX4_isOf_21 rfl rfl ?_
      refine is_i ?_ rfl
      first
      | (rw [bi_f (fun h => h.elim h5 h13)]; done)
      | (rw [bi_t (Or.inl h5)]; done)
      | (rw [bi_t (Or.inr h13)]; done)
    · refine e_iload_n 1 dX4_isOf_8 rfl rfl ?_
      refine e_aload_n 0 dX4_isOf_9 rfl rfl ?_
      refine e_getfield 1 dX4_isOf_10 kf_X4_18_8 (mkW_T.trans hT) rfl ?_
      refine e_icmp_ne (tgt := 20) dX4_isOf_13 rfl (fun h13 => ?_) (fun h13 => ?_)
      · refine e_iconst (v := 0) dX4_isOf_20 rfl ?_
        refine e_zret dX4_isOf_21 rfl rfl ?_
        refine is_i ?_ rfl
        first
        | (rw [bi_f (fun h => h.elim h5 h13)]; done)
        | (rw [bi_t (Or.inl h5)]; done)
        | (rw [bi_t (Or.inr h13)]; done)
      · refine e_iconst (v := 1) dX4_isOf_16 rfl ?_
        refine e_goto (tgt := 21) dX4_isOf_17 rfl ?_
        refine e_zret dX4_isOf_21 rfl rfl ?_
        refine is_i ?_ rfl
        first
        | (rw [bi_f (fun h => h.elim h5 h13)]; done)
        | (rw [bi_t (Or.inl h5)]; done)
        | (rw [bi_t (Or.inr h13)]; done)

set_option maxRecDepth 4000 in
theorem sp_X4_kind {G : sh_G} {S : Nat → Int32} {A : Nat → Nat → Int32} {Lg : Nat → Int64} {P : Nat → Option Nat} {T : List sh_C} {j : Nat}  : Ev G mX4_kind 0 0 (mkW G S A Lg P T) 0 [some (.ref (j + 47))] [] (sh_is (some (.int (0))) (mkW G S A Lg P T)) := by
  refine e_iconst (v := 0) dX4_kind_0 rfl ?_
  exact e_iret dX4_kind_1 rfl (is_i (by first | rfl | simp [bi]) rfl)

set_option maxRecDepth 4000 in
theorem sp_X7_kind {G : sh_G} {S : Nat → Int32} {A : Nat → Nat → Int32} {Lg : Nat → Int64} {P : Nat → Option Nat} {T : List sh_C} {j : Nat}  : Ev G mX7_kind 0 0 (mkW G S A Lg P T) 0 [some (.ref (j + 47))] [] (sh_is (some (.int (1))) (mkW G S A Lg P T)) := by
  refine e_iconst (v := 1) dX7_kind_0 rfl ?_
  exact e_iret dX7_kind_1 rfl (is_i (by first | rfl | simp [bi]) rfl)

set_option maxRecDepth 4000 in
theorem sp_X8_kind {G : sh_G} {S : Nat → Int32} {A : Nat → Nat → Int32} {Lg : Nat → Int64} {P : Nat → Option Nat} {T : List sh_C} {j : Nat}  : Ev G mX8_kind 0 0 (mkW G S A Lg P T) 0 [some (.ref (j + 47))] [] (sh_is (some (.int (2))) (mkW G S A Lg P T)) := by
  refine e_iconst (v := 2) dX8_kind_0 rfl ?_
  exact e_iret dX8_kind_1 rfl (is_i (by first | rfl | simp [bi]) rfl)

set_option maxRecDepth 4000 in
theorem sp_X4_sillsTelling {G : sh_G} {S : Nat → Int32} {A : Nat → Nat → Int32} {Lg : Nat → Int64} {P : Nat → Option Nat} {T : List sh_C} {k f s wt j : Nat} (hT : T[j]? = some (dC k f s wt)) (hk : k ≤ 2) : Ev G mX4_sillsTelling 0 0 (mkW G S A Lg P T) 0 [some (.ref (j + 47)), some (.ref 15)] [] (sh_is (some (.int (nI wt))) (mkW G (va_up S 10 (31 * S 10 + 1)) A Lg P T)) := by
  rcases (by omega : k = 0 ∨ k = 1 ∨ k = 2) with rfl | rfl | rfl
  · refine e_aload_n 1 dX4_sillsTelling_0 rfl rfl ?_
    refine e_iconst (v := 1) dX4_sillsTelling_1 rfl ?_
    refine f_callVv (As := [_]) ok_X6_note ⟨Nat.le_of_ble_eq_true rfl, Nat.le_of_ble_eq_true rfl⟩ dX4_sillsTelling_2 kl_X4_46 ki_X6_note kv_X6_note rfl rfl rfl rfl (Nat.le_of_ble_eq_true rfl) (Nat.le_of_ble_eq_true rfl) (Nat.zero_add _) (Nat.zero_add _) sp_X6_note ?_
    refine e_aload_n 0 dX4_sillsTelling_5 rfl rfl ?_
    refine e_getfield 2 dX4_sillsTelling_6 kf_X4_21_4 (mkW_T.trans hT) rfl ?_
    exact e_iret dX4_sillsTelling_9 rfl (is_i (by first | rfl | simp [bi]) rfl)
  · refine e_aload_n 1 dX4_sillsTelling_0 rfl rfl ?_
    refine e_iconst (v := 1) dX4_sillsTelling_1 rfl ?_
    refine f_callVv (As := [_]) ok_X6_note ⟨Nat.le_of_ble_eq_true rfl, Nat.le_of_ble_eq_true rfl⟩ dX4_sillsTelling_2 kl_X4_46 ki_X6_note kv_X6_note rfl rfl rfl rfl (Nat.le_of_ble_eq_true rfl) (Nat.le_of_ble_eq_true rfl) (Nat.zero_add _) (Nat.zero_add _) sp_X6_note ?_
    refine e_aload_n 0 dX4_sillsTelling_5 rfl rfl ?_
    refine e_getfield 2 dX4_sillsTelling_6 kf_X4_21_7 (mkW_T.trans hT) rfl ?_
    exact e_iret dX4_sillsTelling_9 rfl (is_i (by first | rfl | simp [bi]) rfl)
  · refine e_aload_n 1 dX4_sillsTelling_0 rfl rfl ?_
    refine e_iconst (v := 1) dX4_sillsTelling_1 rfl ?_
    refine f_callVv (As := [_]) ok_X6_note ⟨Nat.le_of_ble_eq_true rfl, Nat.le_of_ble_eq_true rfl⟩ dX4_sillsTelling_2 kl_X4_46 ki_X6_note kv_X6_note rfl rfl rfl rfl (Nat.le_of_ble_eq_true rfl) (Nat.le_of_ble_eq_true rfl) (Nat.zero_add _) (Nat.zero_add _) sp_X6_note ?_
    refine e_aload_n 0 dX4_sillsTelling_5 rfl rfl ?_
    refine e_getfield 2 dX4_sillsTelling_6 kf_X4_21_8 (mkW_T.trans hT) rfl ?_
    exact e_iret dX4_sillsTelling_9 rfl (is_i (by first | rfl | simp [bi]) rfl)

set_option maxRecDepth 4000 in
theorem sp_X4_telling {G : sh_G} {S : Nat → Int32} {A : Nat → Nat → Int32} {Lg : Nat → Int64} {P : Nat → Option Nat} {T : List sh_C} {k f s wt j : Nat} (hT : T[j]? = some (dC k f s wt)) (hk : k ≤ 2) : Ev G mX4_telling 0 0 (mkW G S A Lg P T) 0 [some (.ref (j + 47)), some (.ref 15)] [] (sh_is (some (.int (nI wt))) (mkW G (va_up S 10 (31 * S 10 + 1)) A Lg P T)) := by
  rcases (by omega : k = 0 ∨ k = 1 ∨ k = 2) with rfl | rfl | rfl
  · refine e_aload_n 0 dX4_telling_0 rfl rfl ?_
    refine e_aload_n 1 dX4_telling_1 rfl rfl ?_
    refine f_callVi (As := [_]) ok_X4_sillsTelling ⟨Nat.le_of_ble_eq_true rfl, Nat.le_of_ble_eq_true rfl⟩ dX4_telling_2 kl_X4_52 ki_X4_sillsTelling kv_X4_sillsTelling rfl rfl (mkW_T.trans hT) rfl (Nat.le_of_ble_eq_true rfl) (Nat.le_of_ble_eq_true rfl) (Nat.zero_add _) (Nat.zero_add _) (sp_X4_sillsTelling hT (by omega)) ?_
    exact e_iret dX4_telling_5 rfl (is_i (by first | rfl | simp [bi]) rfl)
  · refine e_aload_n 0 dX4_telling_0 rfl rfl ?_
    refine e_aload_n 1 dX4_telling_1 rfl rfl ?_
    refine f_callUi (x := yX4_sillsTelling) (C := RX7) (As := [_]) ok_X4_sillsTelling ⟨Nat.le_of_ble_eq_true rfl, Nat.le_of_ble_eq_true rfl⟩ dX4_telling_2 rfl kl_X4_52 ki_X4_sillsTelling kx_X7_X4_sillsTelling_X4 kq_X4_X4_sillsTelling rfl rfl (mkW_T.trans hT) rfl (Nat.le_of_ble_eq_true rfl) (Nat.le_of_ble_eq_true rfl) (Nat.zero_add _) (Nat.zero_add _) (sp_X4_sillsTelling hT (by omega)) ?_
    exact e_iret dX4_telling_5 rfl (is_i (by first | rfl | simp [bi]) rfl)
  · refine e_aload_n 0 dX4_telling_0 rfl rfl ?_
    refine e_aload_n 1 dX4_telling_1 rfl rfl ?_
    refine f_callUi (x := yX4_sillsTelling) (C := RX8) (As := [_]) ok_X4_sillsTelling ⟨Nat.le_of_ble_eq_true rfl, Nat.le_of_ble_eq_true rfl⟩ dX4_telling_2 rfl kl_X4_52 ki_X4_sillsTelling kx_X8_X4_sillsTelling_X4 kq_X4_X4_sillsTelling rfl rfl (mkW_T.trans hT) rfl (Nat.le_of_ble_eq_true rfl) (Nat.le_of_ble_eq_true rfl) (Nat.zero_add _) (Nat.zero_add _) (sp_X4_sillsTelling hT (by omega)) ?_
    exact e_iret dX4_telling_5 rfl (is_i (by first | rfl | simp [bi]) rfl)

set_option maxRecDepth 4000 in
theorem sp_X7_telling {G : sh_G} {S : Nat → Int32} {A : Nat → Nat → Int32} {Lg : Nat → Int64} {P : Nat → Option Nat} {T : List sh_C} {k f s wt j : Nat} (hT : T[j]? = some (dC k f s wt)) (hk : k = 1 ∨ k = 2) : Ev G mX7_telling 0 0 (mkW G S A Lg P T) 0 [some (.ref (j + 47)), some (.ref 15)] [] (sh_is (some (.int (nI wt + 100))) (mkW G (va_up S 10 (31 * (31 * S 10 + 2) + 1)) A Lg P T)) := by
  rcases (by omega : k = 1 ∨ k = 2) with rfl | rfl
  · refine e_aload_n 1 dX7_telling_0 rfl rfl ?_
    refine e_iconst (v := 2) dX7_telling_1 rfl ?_
    refine f_callVv (As := [_]) ok_X6_note ⟨Nat.le_of_ble_eq_true rfl, Nat.le_of_ble_eq_true rfl⟩ dX7_telling_2 kl_X7_14 ki_X6_note kv_X6_note rfl rfl rfl rfl (Nat.le_of_ble_eq_true rfl) (Nat.le_of_ble_eq_true rfl) (Nat.zero_add _) (Nat.zero_add _) sp_X6_note ?_
    refine e_aload_n 0 dX7_telling_5 rfl rfl ?_
    refine e_aload_n 1 dX7_telling_6 rfl rfl ?_
    refine f_callPi (As := [_]) ok_X4_telling ⟨Nat.le_of_ble_eq_true rfl, Nat.le_of_ble_eq_true rfl⟩ dX7_telling_7 (by decide) kl_X7_20 ki_X4_telling kq_X4_X4_telling kz_X7 rfl rfl (mkW_T.trans hT) rfl (Nat.le_of_ble_eq_true rfl) (Nat.le_of_ble_eq_true rfl) (Nat.zero_add _) (Nat.zero_add _) (sp_X4_telling hT (by omega)) ?_
    refine e_bipush (v := 100) dX7_telling_10 (by decide) ?_
    refine e_iadd dX7_telling_12 ?_
    refine e_iret dX7_telling_13 rfl ?_
    exact is_i rfl (by rw [bx_uu, up_eq])
  · refine e_aload_n 1 dX7_telling_0 rfl rfl ?_
    refine e_iconst (v := 2) dX7_telling_1 rfl ?_
    refine f_callVv (As := [_]) ok_X6_note ⟨Nat.le_of_ble_eq_true rfl, Nat.le_of_ble_eq_true rfl⟩ dX7_telling_2 kl_X7_14 ki_X6_note kv_X6_note rfl rfl rfl rfl (Nat.le_of_ble_eq_true rfl) (Nat.le_of_ble_eq_true rfl) (Nat.zero_add _) (Nat.zero_add _) sp_X6_note ?_
    refine e_aload_n 0 dX7_telling_5 rfl rfl ?_
    refine e_aload_n 1 dX7_telling_6 rfl rfl ?_
    refine f_callPi (As := [_]) ok_X4_telling ⟨Nat.le_of_ble_eq_true rfl, Nat.le_of_ble_eq_true rfl⟩ dX7_telling_7 (by decide) kl_X7_20 ki_X4_telling kq_X4_X4_telling kz_X7 rfl rfl (mkW_T.trans hT) rfl (Nat.le_of_ble_eq_true rfl) (Nat.le_of_ble_eq_true rfl) (Nat.zero_add _) (Nat.zero_add _) (sp_X4_telling hT (by omega)) ?_
    refine e_bipush (v := 100) dX7_telling_10 (by decide) ?_
    refine e_iadd dX7_telling_12 ?_
    refine e_iret dX7_telling_13 rfl ?_
    exact is_i rfl (by rw [bx_uu, up_eq])

set_option maxRecDepth 4000 in
theorem sp_X8_telling {G : sh_G} {S : Nat → Int32} {A : Nat → Nat → Int32} {Lg : Nat → Int64} {P : Nat → Option Nat} {T : List sh_C} {f s wt j : Nat} (hT : T[j]? = some (dC 2 f s wt)) : Ev G mX8_telling 0 0 (mkW G S A Lg P T) 0 [some (.ref (j + 47)), some (.ref 15), none] [] (sh_is (some (.int (nI wt + 100 + nI wt))) (mkW G (va_up S 10 (31 * (31 * (31 * (31 * S 10 + 3) + 2) + 1) + 1)) A Lg P T)) := by
  refine e_aload_n 1 dX8_telling_0 rfl rfl ?_
  refine e_iconst (v := 3) dX8_telling_1 rfl ?_
  refine f_callVv (As := [_]) ok_X6_note ⟨Nat.le_of_ble_eq_true rfl, Nat.le_of_ble_eq_true rfl⟩ dX8_telling_2 kl_X8_11 ki_X6_note kv_X6_note rfl rfl rfl rfl (Nat.le_of_ble_eq_true rfl) (Nat.le_of_ble_eq_true rfl) (Nat.zero_add _) (Nat.zero_add _) sp_X6_note ?_
  refine e_aload_n 0 dX8_telling_5 rfl rfl ?_
  refine e_aload_n 1 dX8_telling_6 rfl rfl ?_
  refine f_callPi (As := [_]) ok_X7_telling ⟨Nat.le_of_ble_eq_true rfl, Nat.le_of_ble_eq_true rfl⟩ dX8_telling_7 (by decide) kl_X8_17 ki_X7_telling kq_X7_X7_telling kz_X8 rfl rfl (mkW_T.trans hT) rfl (Nat.le_of_ble_eq_true rfl) (Nat.le_of_ble_eq_true rfl) (Nat.zero_add _) (Nat.zero_add _) (sp_X7_telling hT (Or.inr rfl)) ?_
  refine e_istore_n (lv' := [_, _, _]) 2 dX8_telling_10 rfl (Nat.le_of_ble_eq_true rfl) rfl rfl ?_
  refine e_iload_n 2 dX8_telling_11 rfl rfl ?_
  refine e_aload_n 0 dX8_telling_12 rfl rfl ?_
  refine e_aload_n 1 dX8_telling_13 rfl rfl ?_
  refine f_callUi (x := ⟨"SillHouse$Worn", "sillsTelling", "(LSillHouse$Trace;)I"⟩) (C := RX8) (As := [_]) ok_X4_sillsTelling ⟨Nat.le_of_ble_eq_true rfl, Nat.le_of_ble_eq_true rfl⟩ dX8_telling_14 rfl kl_X8_21 ki_X4_sillsTelling kx_X8_X4_sillsTelling_X8 kq_X8_X4_sillsTelling rfl rfl (mkW_T.trans hT) rfl (Nat.le_of_ble_eq_true rfl) (Nat.le_of_ble_eq_true rfl) (Nat.zero_add _) (Nat.zero_add _) (sp_X4_sillsTelling hT (by omega)) ?_
  refine e_iadd dX8_telling_17 ?_
  refine e_iret dX8_telling_18 rfl ?_
  exact is_i rfl (by rw [bx_uu, bx_uu, up_eq, up_eq])

set_option maxRecDepth 4000 in
theorem sp_X4_rung {G : sh_G} {S : Nat → Int32} {A : Nat → Nat → Int32} {Lg : Nat → Int64} {P : Nat → Option Nat} {T : List sh_C} {j : Nat} {d : Int32}  : Ev G mX4_rung 0 0 (mkW G S A Lg P T) 0 [some (.ref (j + 47)), some (.ref 15), some (.int d)] [] (sh_is (some (.int (d))) (mkW G (va_up S 10 (31 * S 10 + 4)) A Lg P T)) := by
  refine e_aload_n 1 dX4_rung_0 rfl rfl ?_
  refine e_iconst (v := 4) dX4_rung_1 rfl ?_
  refine f_callVv (As := [_]) ok_X6_note ⟨Nat.le_of_ble_eq_true rfl, Nat.le_of_ble_eq_true rfl⟩ dX4_rung_2 kl_X4_46 ki_X6_note kv_X6_note rfl rfl rfl rfl (Nat.le_of_ble_eq_true rfl) (Nat.le_of_ble_eq_true rfl) (Nat.zero_add _) (Nat.zero_add _) sp_X6_note ?_
  refine e_iload_n 2 dX4_rung_5 rfl rfl ?_
  exact e_iret dX4_rung_6 rfl (is_i (by first | rfl | simp [bi]) rfl)

set_option maxRecDepth 4000 in
theorem sp_X8_rung {G : sh_G} {S : Nat → Int32} {A : Nat → Nat → Int32} {Lg : Nat → Int64} {P : Nat → Option Nat} {T : List sh_C} {j : Nat} {d : Int32}  : Ev G mX8_rung 0 0 (mkW G S A Lg P T) 0 [some (.ref (j + 47)), some (.ref 15), some (.int d)] [] (sh_is (some (.int (80))) (mkW G (va_up S 10 (31 * S 10 + 5)) A Lg P T)) := by
  refine e_aload_n 1 dX8_rung_0 rfl rfl ?_
  refine e_iconst (v := 5) dX8_rung_1 rfl ?_
  refine f_callVv (As := [_]) ok_X6_note ⟨Nat.le_of_ble_eq_true rfl, Nat.le_of_ble_eq_true rfl⟩ dX8_rung_2 kl_X8_11 ki_X6_note kv_X6_note rfl rfl rfl rfl (Nat.le_of_ble_eq_true rfl) (Nat.le_of_ble_eq_true rfl) (Nat.zero_add _) (Nat.zero_add _) sp_X6_note ?_
  refine e_bipush (v := 80) dX8_rung_5 (by decide) ?_
  exact e_iret dX8_rung_7 rfl (is_i (by first | rfl | simp [bi]) rfl)

set_option maxRecDepth 4000 in
theorem sp_X4_told {G : sh_G} {S : Nat → Int32} {A : Nat → Nat → Int32} {Lg : Nat → Int64} {P : Nat → Option Nat} {T : List sh_C} {k f s wt j : Nat} {i : Nat} (hT : T[j]? = some (dC k f s wt)) (hk : k ≤ 2) (hi : i < 8) : Ev G mX4_told 0 0 (mkW G S A Lg P T) 0 [some (.ref (j + 47)), some (.int (nI i))] [] (sh_is (some (.int (tlD k f s wt i))) (mkW G S A Lg P T)) := by
  rcases (by omega : k = 0 ∨ k = 1 ∨ k = 2) with rfl | rfl | rfl
  · rcases (by omega : i = 0 ∨ i = 1 ∨ i = 2 ∨ i = 3 ∨ i = 4 ∨ i = 5 ∨ i = 6 ∨ i = 7) with rfl | rfl | rfl | rfl | rfl | rfl | rfl | rfl
    · refine e_iload_n 1 dX4_told_0 rfl rfl ?_
      refine e_tableIn (off := 43) (tgt := 44) dX4_told_1 (by decide) (by decide) (by decide) rfl ?_
      refine e_aload_n 0 dX4_told_44 rfl rfl ?_
      refine f_callVi (As := []) ok_X4_kind ⟨Nat.le_of_ble_eq_true rfl, Nat.le_of_ble_eq_true rfl⟩ dX4_told_45 kl_X4_42 ki_X4_kind kv_X4_kind rfl rfl (mkW_T.trans hT) rfl (Nat.le_of_ble_eq_true rfl) (Nat.le_of_ble_eq_true rfl) (Nat.zero_add _) (Nat.zero_add _) sp_X4_kind ?_
      exact e_iret dX4_told_48 rfl (is_i (by first | rfl | simp [bi]) rfl)
    · refine e_iload_n 1 dX4_told_0 rfl rfl ?_
      refine e_tableIn (off := 48) (tgt := 49) dX4_told_1 (by decide) (by decide) (by decide) rfl ?_
      refine e_aload_n 0 dX4_told_49 rfl rfl ?_
      refine e_getfield 0 dX4_told_50 kf_X4_14_4 (mkW_T.trans hT) rfl ?_
      exact e_iret dX4_told_53 rfl (is_i (by first | rfl | simp [bi]) rfl)
    · refine e_iload_n 1 dX4_told_0 rfl rfl ?_
      refine e_tableIn (off := 53) (tgt := 54) dX4_told_1 (by decide) (by decide) (by decide) rfl ?_
      refine e_aload_n 0 dX4_told_54 rfl rfl ?_
      refine e_getfield 1 dX4_told_55 kf_X4_18_4 (mkW_T.trans hT) rfl ?_
      exact e_iret dX4_told_58 rfl (is_i (by first | rfl | simp [bi]) rfl)
    · refine e_iload_n 1 dX4_told_0 rfl rfl ?_
      refine e_tableIn (off := 58) (tgt := 59) dX4_told_1 (by decide) (by decide) (by decide) rfl ?_
      refine e_aload_n 0 dX4_told_59 rfl rfl ?_
      refine e_getfield 2 dX4_told_60 kf_X4_21_4 (mkW_T.trans hT) rfl ?_
      exact e_iret dX4_told_63 rfl (is_i (by first | rfl | simp [bi]) rfl)
    · refine e_iload_n 1 dX4_told_0 rfl rfl ?_
      refine e_tableIn (off := 63) (tgt := 64) dX4_told_1 (by decide) (by decide) (by decide) rfl ?_
      refine e_aload_n 0 dX4_told_64 rfl rfl ?_
      refine e_getfield 3 dX4_told_65 kf_X4_30_4 (mkW_T.trans hT) rfl ?_
      exact e_iret dX4_told_68 rfl (is_i (by first | rfl | simp [bi]) rfl)
    · refine e_iload_n 1 dX4_told_0 rfl rfl ?_
      refine e_tableIn (off := 68) (tgt := 69) dX4_told_1 (by decide) (by decide) (by decide) rfl ?_
      refine e_aload_n 0 dX4_told_69 rfl rfl ?_
      refine e_getfield 4 dX4_told_70 kf_X4_33_4 (mkW_T.trans hT) rfl ?_
      exact e_iret dX4_told_73 rfl (is_i (by first | rfl | simp [bi]) rfl)
    · refine e_iload_n 1 dX4_told_0 rfl rfl ?_
      refine e_tableIn (off := 73) (tgt := 74) dX4_told_1 (by decide) (by decide) (by decide) rfl ?_
      refine e_aload_n 0 dX4_told_74 rfl rfl ?_
      refine e_getfield 5 dX4_told_75 kf_X4_36_4 (mkW_T.trans hT) rfl ?_
      exact e_iret dX4_told_78 rfl (is_i (by first | rfl | simp [bi]) rfl)
    · refine e_iload_n 1 dX4_told_0 rfl rfl ?_
      refine e_tableOut (tgt := 79) dX4_told_1 (by decide) rfl ?_
      refine e_aload_n 0 dX4_told_79 rfl rfl ?_
      refine e_getfield 6 dX4_told_80 kf_X4_39_4 (mkW_T.trans hT) rfl ?_
      exact e_iret dX4_told_83 rfl (is_i (by first | rfl | simp [bi]) rfl)
  · rcases (by omega : i = 0 ∨ i = 1 ∨ i = 2 ∨ i = 3 ∨ i = 4 ∨ i = 5 ∨ i = 6 ∨ i = 7) with rfl | rfl | rfl | rfl | rfl | rfl | rfl | rfl
    · refine e_iload_n 1 dX4_told_0 rfl rfl ?_
      refine e_tableIn (off := 43) (tgt := 44) dX4_told_1 (by decide) (by decide) (by decide) rfl ?_
      refine e_aload_n 0 dX4_told_44 rfl rfl ?_
      refine f_callOi (x := yX4_kind) (C := RX7) (owner := RX4) (As := []) ok_X7_kind ⟨Nat.le_of_ble_eq_true rfl, Nat.le_of_ble_eq_true rfl⟩ dX4_told_45 ⟨by decide, by decide⟩ rfl ok_X4_kind.1 kl_X4_42 ki_X7_kind kx_X7_X7_kind_X4 kq_X4_X4_kind ki_X4_kind rfl rfl (mkW_T.trans hT) rfl (Nat.le_of_ble_eq_true rfl) (Nat.le_of_ble_eq_true rfl) (Nat.zero_add _) (Nat.zero_add _) sp_X7_kind ?_
      exact e_iret dX4_told_48 rfl (is_i (by first | rfl | simp [bi]) rfl)
    · refine e_iload_n 1 dX4_told_0 rfl rfl ?_
      refine e_tableIn (off := 48) (tgt := 49) dX4_told_1 (by decide) (by decide) (by decide) rfl ?_
      refine e_aload_n 0 dX4_told_49 rfl rfl ?_
      refine e_getfield 0 dX4_told_50 kf_X4_14_7 (mkW_T.trans hT) rfl ?_
      exact e_iret dX4_told_53 rfl (is_i (by first | rfl | simp [bi]) rfl)
    · refine e_iload_n 1 dX4_told_0 rfl rfl ?_
      refine e_tableIn (off := 53) (tgt := 54) dX4_told_1 (by decide) (by decide) (by decide) rfl ?_
      refine e_aload_n 0 dX4_told_54 rfl rfl ?_
      refine e_getfield 1 dX4_told_55 kf_X4_18_7 (mkW_T.trans hT) rfl ?_
      exact e_iret dX4_told_58 rfl (is_i (by first | rfl | simp [bi]) rfl)
    · refine e_iload_n 1 dX4_told_0 rfl rfl ?_
      refine e_tableIn (off := 58) (tgt := 59) dX4_told_1 (by decide) (by decide) (by decide) rfl ?_
      refine e_aload_n 0 dX4_told_59 rfl rfl ?_
      refine e_getfield 2 dX4_told_60 kf_X4_21_7 (mkW_T.trans hT) rfl ?_
      exact e_iret dX4_told_63 rfl (is_i (by first | rfl | simp [bi]) rfl)
    · refine e_iload_n 1 dX4_told_0 rfl rfl ?_
      refine e_tableIn (off := 63) (tgt := 64) dX4_told_1 (by decide) (by decide) (by decide) rfl ?_
      refine e_aload_n 0 dX4_told_64 rfl rfl ?_
      refine e_getfield 3 dX4_told_65 kf_X4_30_7 (mkW_T.trans hT) rfl ?_
      exact e_iret dX4_told_68 rfl (is_i (by first | rfl | simp [bi]) rfl)
    · refine e_iload_n 1 dX4_told_0 rfl rfl ?_
      refine e_tableIn (off := 68) (tgt := 69) dX4_told_1 (by decide) (by decide) (by decide) rfl ?_
      refine e_aload_n 0 dX4_told_69 rfl rfl ?_
      refine e_getfield 4 dX4_told_70 kf_X4_33_7 (mkW_T.trans hT) rfl ?_
      exact e_iret dX4_told_73 rfl (is_i (by first | rfl | simp [bi]) rfl)
    · refine e_iload_n 1 dX4_told_0 rfl rfl ?_
      refine e_tableIn (off := 73) (tgt := 74) dX4_told_1 (by decide) (by decide) (by decide) rfl ?_
      refine e_aload_n 0 dX4_told_74 rfl rfl ?_
      refine e_getfield 5 dX4_told_75 kf_X4_36_7 (mkW_T.trans hT) rfl ?_
      exact e_iret dX4_told_78 rfl (is_i (by first | rfl | simp [bi]) rfl)
    · refine e_iload_n 1 dX4_told_0 rfl rfl ?_
      refine e_tableOut (tgt := 79) dX4_told_1 (by decide) rfl ?_
      refine e_aload_n 0 dX4_told_79 rfl rfl ?_
      refine e_getfield 6 dX4_told_80 kf_X4_39_7 (mkW_T.trans hT) rfl ?_
      exact e_iret dX4_told_83 rfl (is_i (by first | rfl | simp [bi]) rfl)
  · rcases (by omega : i = 0 ∨ i = 1 ∨ i = 2 ∨ i = 3 ∨ i = 4 ∨ i = 5 ∨ i = 6 ∨ i = 7) with rfl | rfl | rfl | rfl | rfl | rfl | rfl | rfl
    · refine e_iload_n 1 dX4_told_0 rfl rfl ?_
      refine e_tableIn (off := 43) (tgt := 44) dX4_told_1 (by decide) (by decide) (by decide) rfl ?_
      refine e_aload_n 0 dX4_told_44 rfl rfl ?_
      refine f_callOi (x := yX4_kind) (C := RX8) (owner := RX4) (As := []) ok_X8_kind ⟨Nat.le_of_ble_eq_true rfl, Nat.le_of_ble_eq_true rfl⟩ dX4_told_45 ⟨by decide, by decide⟩ rfl ok_X4_kind.1 kl_X4_42 ki_X8_kind kx_X8_X8_kind_X4 kq_X4_X4_kind ki_X4_kind rfl rfl (mkW_T.trans hT) rfl (Nat.le_of_ble_eq_true rfl) (Nat.le_of_ble_eq_true rfl) (Nat.zero_add _) (Nat.zero_add _) sp_X8_kind ?_
      exact e_iret dX4_told_48 rfl (is_i (by first | rfl | simp [bi]) rfl)
    · refine e_iload_n 1 dX4_told_0 rfl rfl ?_
      refine e_tableIn (off := 48) (tgt := 49) dX4_told_1 (by decide) (by decide) (by decide) rfl ?_
      refine e_aload_n 0 dX4_told_49 rfl rfl ?_
      refine e_getfield 0 dX4_told_50 kf_X4_14_8 (mkW_T.trans hT) rfl ?_
      exact e_iret dX4_told_53 rfl (is_i (by first | rfl | simp [bi]) rfl)
    · refine e_iload_n 1 dX4_told_0 rfl rfl ?_
      refine e_tableIn (off := 53) (tgt := 54) dX4_told_1 (by decide) (by decide) (by decide) rfl ?_
      refine e_aload_n 0 dX4_told_54 rfl rfl ?_
      refine e_getfield 1 dX4_told_55 kf_X4_18_8 (mkW_T.trans hT) rfl ?_
      exact e_iret dX4_told_58 rfl (is_i (by first | rfl | simp [bi]) rfl)
    · refine e_iload_n 1 dX4_told_0 rfl rfl ?_
      refine e_tableIn (off := 58) (tgt := 59) dX4_told_1 (by decide) (by decide) (by decide) rfl ?_
      refine e_aload_n 0 dX4_told_59 rfl rfl ?_
      refine e_getfield 2 dX4_told_60 kf_X4_21_8 (mkW_T.trans hT) rfl ?_
      exact e_iret dX4_told_63 rfl (is_i (by first | rfl | simp [bi]) rfl)
    · refine e_iload_n 1 dX4_told_0 rfl rfl ?_
      refine e_tableIn (off := 63) (tgt := 64) dX4_told_1 (by decide) (by decide) (by decide) rfl ?_
      refine e_aload_n 0 dX4_told_64 rfl rfl ?_
      refine e_getfield 3 dX4_told_65 kf_X4_30_8 (mkW_T.trans hT) rfl ?_
      exact e_iret dX4_told_68 rfl (is_i (by first | rfl | simp [bi]) rfl)
    · refine e_iload_n 1 dX4_told_0 rfl rfl ?_
      refine e_tableIn (off := 68) (tgt := 69) dX4_told_1 (by decide) (by decide) (by decide) rfl ?_
      refine e_aload_n 0 dX4_told_69 rfl rfl ?_
      refine e_getfield 4 dX4_told_70 kf_X4_33_8 (mkW_T.trans hT) rfl ?_
      exact e_iret dX4_told_73 rfl (is_i (by first | rfl | simp [bi]) rfl)
    · refine e_iload_n 1 dX4_told_0 rfl rfl ?_
      refine e_tableIn (off := 73) (tgt := 74) dX4_told_1 (by decide) (by decide) (by decide) rfl ?_
      refine e_aload_n 0 dX4_told_74 rfl rfl ?_
      refine e_getfield 5 dX4_told_75 kf_X4_36_8 (mkW_T.trans hT) rfl ?_
      exact e_iret dX4_told_78 rfl (is_i (by first | rfl | simp [bi]) rfl)
    · refine e_iload_n 1 dX4_told_0 rfl rfl ?_
      refine e_tableOut (tgt := 79) dX4_told_1 (by decide) rfl ?_
      refine e_aload_n 0 dX4_told_79 rfl rfl ?_
      refine e_getfield 6 dX4_told_80 kf_X4_39_8 (mkW_T.trans hT) rfl ?_
      exact e_iret dX4_told_83 rfl (is_i (by first | rfl | simp [bi]) rfl)
