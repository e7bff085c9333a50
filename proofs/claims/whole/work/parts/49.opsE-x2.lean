theorem set_at {w : List sh_C} {x : Nat} {c c' : sh_C} (h : w[x]? = some c) : (w.set x c')[x]? = some c' := by
  have hl := (List.getElem?_eq_some_iff.mp h).1
  rw [List.getElem?_set_self hl]
theorem mxT {a s : Nat} (ha : a < 1000) (hs : s < 1000) : (if 0 < nI a - nI s then nI a - nI s else 0) = nI (a - s) := by
  have h := sub_i ha hs
  have e0 : (0 : Int32).toInt = 0 := by decide
  split
  · rename_i g
    rw [fa_lt, h] at g
    exact pk_sub (by omega)
  · rename_i g
    rw [fa_lt, h] at g
    rw [show a - s = 0 by omega]; rfl
theorem add10 (k : Nat) : nI k + 10 = nI (k + 10) := nI_add k 10
section SHAA
variable {G : sh_G} {M N : sh_M} {kc ks pc : Nat} {w : List sh_C} {lv : List (Option Value)} {st : List Value} {Q : Option Value → List sh_C → Prop}
theorem e_aast_n {t a n r ci : Nat} {fs : List Value} {f : Nat → Option Nat} {i : Int32} (j : Nat) (d : decode M.2.2.1 pc = .ok (.aastore, 1)) (ha : w[a]? = some (.inr (t, n, .inr (.inr (.inr (.inr f)))))) (hr : w[r]? = some (.inl (ci, fs))) (hel : sh_el t ci) (hi : i = nI j) (hj : j < n) (hn : n < 2 ^ 31) (kk : Ev G M kc ks (w.set a (.inr (t, n, .inr (.inr (.inr (.inr (va_up f j (some r)))))))) (pc + 1) lv st Q) : Ev G M kc ks w pc lv (.ref r :: .int i :: .ref a :: st) Q := by
  subst hi
  refine e_aastore d ha hr hel (fun h => ?_) ?_
  · rcases h with h | h
    · exact nI_pos (by omega) h
    · rw [nI_clamp (by omega)] at h; omega
  · rw [nI_clamp (by omega)]; exact kk
end SHAA
set_option maxRecDepth 4000 in
theorem sp_X4_init_4 {G : sh_G} {w : List sh_C} {x f s wt bk sl : Nat} (ha : w[x]? = some (.inl (4, [.int 0, .int 0, .int 0, .int 0, .int 0, .int 0, .int 0]))) (hw : wt < 1000) (hb : bk < 1000) (hs : sl < 1000) : Ev G mX4_init_ 0 0 w 0 [some (.ref x), some (.int (nI f)), some (.int (nI s)), some (.int (nI wt)), some (.int (nI bk)), some (.int (nI sl))] [] (sh_is none (w.set x (.inl (4, [.int (nI f), .int (nI s), .int (nI wt), .int (nI (wt - sl)), .int (nI (wt + sl)), .int (nI (bk - sl)), .int (nI (bk + sl))])))) := by
  refine e_aload_n 0 dX4_init__0 rfl rfl ?_
  refine e_objInit dX4_init__1 kl_X4_9 ko_1 ko_2 (Nat.le_of_ble_eq_true rfl) (Nat.le_of_ble_eq_true rfl) (Nat.le_of_ble_eq_true rfl) ?_
  refine e_aload_n 0 dX4_init__4 rfl rfl ?_
  refine e_iload_n 1 dX4_init__5 rfl rfl ?_
  refine e_putfield 0 dX4_init__6 kp_X4_init__14_4 (sh_fit_i _) ha (Nat.le_of_ble_eq_true rfl) ?_
  refine e_aload_n 0 dX4_init__9 rfl rfl ?_
  refine e_iload_n 2 dX4_init__10 rfl rfl ?_
  refine e_putfield 1 dX4_init__11 kp_X4_init__18_4 (sh_fit_i _) (set_at ha) (Nat.le_of_ble_eq_true rfl) ?_
  rw [List.set_set]
  refine e_aload_n 0 dX4_init__14 rfl rfl ?_
  refine e_iload_n 3 dX4_init__15 rfl rfl ?_
  refine e_putfield 2 dX4_init__16 kp_X4_init__21_4 (sh_fit_i _) (set_at ha) (Nat.le_of_ble_eq_true rfl) ?_
  rw [List.set_set]
  refine e_aload_n 0 dX4_init__19 rfl rfl ?_
  refine e_iconst (v := 0) dX4_init__20 rfl ?_
  refine e_iload_n 3 dX4_init__21 rfl rfl ?_
  refine e_iload dX4_init__22 rfl ?_
  refine e_isub dX4_init__24 ?_
  refine e_max dX4_init__25 kl_X4_24 (Nat.le_of_ble_eq_true rfl) (Nat.le_of_ble_eq_true rfl) (Nat.le_of_ble_eq_true rfl) ?_
  rw [mxT hw hs]
  refine e_putfield 3 dX4_init__28 kp_X4_init__30_4 (sh_fit_i _) (set_at ha) (Nat.le_of_ble_eq_true rfl) ?_
  rw [List.set_set]
  refine e_aload_n 0 dX4_init__31 rfl rfl ?_
  refine e_iload_n 3 dX4_init__32 rfl rfl ?_
  refine e_iload dX4_init__33 rfl ?_
  refine e_iadd dX4_init__35 ?_
  rw [nI_add]
  refine e_putfield 4 dX4_init__36 kp_X4_init__33_4 (sh_fit_i _) (set_at ha) (Nat.le_of_ble_eq_true rfl) ?_
  rw [List.set_set]
  refine e_aload_n 0 dX4_init__39 rfl rfl ?_
  refine e_iconst (v := 0) dX4_init__40 rfl ?_
  refine e_iload dX4_init__41 rfl ?_
  refine e_iload dX4_init__43 rfl ?_
  refine e_isub dX4_init__45 ?_
  refine e_max dX4_init__46 kl_X4_24 (Nat.le_of_ble_eq_true rfl) (Nat.le_of_ble_eq_true rfl) (Nat.le_of_ble_eq_true rfl) ?_
  rw [mxT hb hs]
  refine e_putfield 5 dX4_init__49 kp_X4_init__36_4 (sh_fit_i _) (set_at ha) (Nat.le_of_ble_eq_true rfl) ?_
  rw [List.set_set]
  refine e_aload_n 0 dX4_init__52 rfl rfl ?_
  refine e_iload dX4_init__53 rfl ?_
  refine e_iload dX4_init__55 rfl ?_
  refine e_iadd dX4_init__57 ?_
  rw [nI_add]
  refine e_putfield 6 dX4_init__58 kp_X4_init__39_4 (sh_fit_i _) (set_at ha) (Nat.le_of_ble_eq_true rfl) ?_
  rw [List.set_set]
  exact e_vret dX4_init__61 rfl ⟨rfl, rfl⟩

set_option maxRecDepth 4000 in
theorem sp_X4_init_7 {G : sh_G} {w : List sh_C} {x f s wt bk sl : Nat} (ha : w[x]? = some (.inl (7, [.int 0, .int 0, .int 0, .int 0, .int 0, .int 0, .int 0]))) (hw : wt < 1000) (hb : bk < 1000) (hs : sl < 1000) : Ev G mX4_init_ 0 0 w 0 [some (.ref x), some (.int (nI f)), some (.int (nI s)), some (.int (nI wt)), some (.int (nI bk)), some (.int (nI sl))] [] (sh_is none (w.set x (.inl (7, [.int (nI f), .int (nI s), .int (nI wt), .int (nI (wt - sl)), .int (nI (wt + sl)), .int (nI (bk - sl)), .int (nI (bk + sl))])))) := by
  refine e_aload_n 0 dX4_init__0 rfl rfl ?_
  refine e_objInit dX4_init__1 kl_X4_9 ko_1 ko_2 (Nat.le_of_ble_eq_true rfl) (Nat.le_of_ble_eq_true rfl) (Nat.le_of_ble_eq_true rfl) ?_
  refine e_aload_n 0 dX4_init__4 rfl rfl ?_
  refine e_iload_n 1 dX4_init__5 rfl rfl ?_
  refine e_putfield 0 dX4_init__6 kp_X4_init__14_7 (sh_fit_i _) ha (Nat.le_of_ble_eq_true rfl) ?_
  refine e_aload_n 0 dX4_init__9 rfl rfl ?_
  refine e_iload_n 2 dX4_init__10 rfl rfl ?_
  refine e_putfield 1 dX4_init__11 kp_X4_init__18_7 (sh_fit_i _) (set_at ha) (Nat.le_of_ble_eq_true rfl) ?_
  rw [List.set_set]
  refine e_aload_n 0 dX4_init__14 rfl rfl ?_
  refine e_iload_n 3 dX4_init__15 rfl rfl ?_
  refine e_putfield 2 dX4_init__16 kp_X4_init__21_7 (sh_fit_i _) (set_at ha) (Nat.le_of_ble_eq_true rfl) ?_
  rw [List.set_set]
  refine e_aload_n 0 dX4_init__19 rfl rfl ?_
  refine e_iconst (v := 0) dX4_init__20 rfl ?_
  refine e_iload_n 3 dX4_init__21 rfl rfl ?_
  refine e_iload dX4_init__22 rfl ?_
  refine e_isub dX4_init__24 ?_
  refine e_max dX4_init__25 kl_X4_24 (Nat.le_of_ble_eq_true rfl) (Nat.le_of_ble_eq_true rfl) (Nat.le_of_ble_eq_true rfl) ?_
  rw [mxT hw hs]
  refine e_putfield 3 dX4_init__28 kp_X4_init__30_7 (sh_fit_i _) (set_at ha) (Nat.le_of_ble_eq_true rfl) ?_
  rw [List.set_set]
  refine e_aload_n 0 dX4_init__31 rfl rfl ?_
  refine e_iload_n 3 dX4_init__32 rfl rfl ?_
  refine e_iload dX4_init__33 rfl ?_
  refine e_iadd dX4_init__35 ?_
  rw [nI_add]
  refine e_putfield 4 dX4_init__36 kp_X4_init__33_7 (sh_fit_i _) (set_at ha) (Nat.le_of_ble_eq_true rfl) ?_
  rw [List.set_set]
  refine e_aload_n 0 dX4_init__39 rfl rfl ?_
  refine e_iconst (v := 0) dX4_init__40 rfl ?_
  refine e_iload dX4_init__41 rfl ?_
  refine e_iload dX4_init__43 rfl ?_
  refine e_isub dX4_init__45 ?_
  refine e_max dX4_init__46 kl_X4_24 (Nat.le_of_ble_eq_true rfl) (Nat.le_of_ble_eq_true rfl) (Nat.le_of_ble_eq_true rfl) ?_
  rw [mxT hb hs]
  refine e_putfield 5 dX4_init__49 kp_X4_init__36_7 (sh_fit_i _) (set_at ha) (Nat.le_of_ble_eq_true rfl) ?_
  rw [List.set_set]
  refine e_aload_n 0 dX4_init__52 rfl rfl ?_
  refine e_iload dX4_init__53 rfl ?_
  refine e_iload dX4_init__55 rfl ?_
  refine e_iadd dX4_init__57 ?_
  rw [nI_add]
  refine e_putfield 6 dX4_init__58 kp_X4_init__39_7 (sh_fit_i _) (set_at ha) (Nat.le_of_ble_eq_true rfl) ?_
  rw [List.set_set]
  exact e_vret dX4_init__61 rfl ⟨rfl, rfl⟩

set_option maxRecDepth 4000 in
theorem sp_X4_init_8 {G : sh_G} {w : List sh_C} {x f s wt bk sl : Nat} (ha : w[x]? = some (.inl (8, [.int 0, .int 0, .int 0, .int 0, .int 0, .int 0, .int 0]))) (hw : wt < 1000) (hb : bk < 1000) (hs : sl < 1000) : Ev G mX4_init_ 0 0 w 0 [some (.ref x), some (.int (nI f)), some (.int (nI s)), some (.int (nI wt)), some (.int (nI bk)), some (.int (nI sl))] [] (sh_is none (w.set x (.inl (8, [.int (nI f), .int (nI s), .int (nI wt), .int (nI (wt - sl)), .int (nI (wt + sl)), .int (nI (bk - sl)), .int (nI (bk + sl))])))) := by
  refine e_aload_n 0 dX4_init__0 rfl rfl ?_
  refine e_objInit dX4_init__1 kl_X4_9 ko_1 ko_2 (Nat.le_of_ble_eq_true rfl) (Nat.le_of_ble_eq_true rfl) (Nat.le_of_ble_eq_true rfl) ?_
  refine e_aload_n 0 dX4_init__4 rfl rfl ?_
  refine e_iload_n 1 dX4_init__5 rfl rfl ?_
  refine e_putfield 0 dX4_init__6 kp_X4_init__14_8 (sh_fit_i _) ha (Nat.le_of_ble_eq_true rfl) ?_
  refine e_aload_n 0 dX4_init__9 rfl rfl ?_
  refine e_iload_n 2 dX4_init__10 rfl rfl ?_
  refine e_putfield 1 dX4_init__11 kp_X4_init__18_8 (sh_fit_i _) (set_at ha) (Nat.le_of_ble_eq_true rfl) ?_
  rw [List.set_set]
  refine e_aload_n 0 dX4_init__14 rfl rfl ?_
  refine e_iload_n 3 dX4_init__15 rfl rfl ?_
  refine e_putfield 2 dX4_init__16 kp_X4_init__21_8 (sh_fit_i _) (set_at ha) (Nat.le_of_ble_eq_true rfl) ?_
  rw [List.set_set]
  refine e_aload_n 0 dX4_init__19 rfl rfl ?_
  refine e_iconst (v := 0) dX4_init__20 rfl ?_
  refine e_iload_n 3 dX4_init__21 rfl rfl ?_
  refine e_iload dX4_init__22 rfl ?_
  refine e_isub dX4_init__24 ?_
  refine e_max dX4_init__25 kl_X4_24 (Nat.le_of_ble_eq_true rfl) (Nat.le_of_ble_eq_true rfl) (Nat.le_of_ble_eq_true rfl) ?_
  rw [mxT hw hs]
  refine e_putfield 3 dX4_init__28 kp_X4_init__30_8 (sh_fit_i _) (set_at ha) (Nat.le_of_ble_eq_true rfl) ?_
  rw [List.set_set]
  refine e_aload_n 0 dX4_init__31 rfl rfl ?_
  refine e_iload_n 3 dX4_init__32 rfl rfl ?_
  refine e_iload dX4_init__33 rfl ?_
  refine e_iadd dX4_init__35 ?_
  rw [nI_add]
  refine e_putfield 4 dX4_init__36 kp_X4_init__33_8 (sh_fit_i _) (set_at ha) (Nat.le_of_ble_eq_true rfl) ?_
  rw [List.set_set]
  refine e_aload_n 0 dX4_init__39 rfl rfl ?_
  refine e_iconst (v := 0) dX4_init__40 rfl ?_
  refine e_iload dX4_init__41 rfl ?_
  refine e_iload dX4_init__43 rfl ?_
  refine e_isub dX4_init__45 ?_
  refine e_max dX4_init__46 kl_X4_24 (Nat.le_of_ble_eq_true rfl) (Nat.le_of_ble_eq_true rfl) (Nat.le_of_ble_eq_true rfl) ?_
  rw [mxT hb hs]
  refine e_putfield 5 dX4_init__49 kp_X4_init__36_8 (sh_fit_i _) (set_at ha) (Nat.le_of_ble_eq_true rfl) ?_
  rw [List.set_set]
  refine e_aload_n 0 dX4_init__52 rfl rfl ?_
  refine e_iload dX4_init__53 rfl ?_
  refine e_iload dX4_init__55 rfl ?_
  refine e_iadd dX4_init__57 ?_
  rw [nI_add]
  refine e_putfield 6 dX4_init__58 kp_X4_init__39_8 (sh_fit_i _) (set_at ha) (Nat.le_of_ble_eq_true rfl) ?_
  rw [List.set_set]
  exact e_vret dX4_init__61 rfl ⟨rfl, rfl⟩

set_option maxRecDepth 4000 in
theorem sp_X7_init_7 {G : sh_G} {w : List sh_C} {x f s wt sl : Nat} (ha : w[x]? = some (.inl (7, [.int 0, .int 0, .int 0, .int 0, .int 0, .int 0, .int 0]))) (hw : wt < 900) (hs : sl < 1000) : Ev G mX7_init_ 0 0 w 0 [some (.ref x), some (.int (nI f)), some (.int (nI s)), some (.int (nI wt)), some (.int (nI sl))] [] (sh_is none (w.set x (.inl (7, [.int (nI f), .int (nI s), .int (nI wt), .int (nI (wt - sl)), .int (nI (wt + sl)), .int (nI ((wt + 10) - sl)), .int (nI ((wt + 10) + sl))])))) := by
  refine e_aload_n 0 dX7_init__0 rfl rfl ?_
  refine e_iload_n 1 dX7_init__1 rfl rfl ?_
  refine e_iload_n 2 dX7_init__2 rfl rfl ?_
  refine e_iload_n 3 dX7_init__3 rfl rfl ?_
  refine e_iload_n 3 dX7_init__4 rfl rfl ?_
  refine e_bipush (v := 10) dX7_init__5 (by decide) ?_
  refine e_iadd dX7_init__7 ?_
  rw [add10]
  refine e_iload dX7_init__8 rfl ?_
  refine f_callIv (As := [_, _, _, _, _]) ok_X4_init_ rfl ⟨Nat.le_of_ble_eq_true rfl, Nat.le_of_ble_eq_true rfl⟩ dX7_init__10 rfl kl_X7_11 ki_X4_init_ rfl rfl (Nat.le_of_ble_eq_true rfl) (Nat.le_of_ble_eq_true rfl) (Nat.zero_add _) (Nat.zero_add _) (sp_X4_init_7 ha (by omega) (by omega) hs) ?_
  exact e_vret dX7_init__13 rfl ⟨rfl, rfl⟩

set_option maxRecDepth 4000 in
theorem sp_X7_init_8 {G : sh_G} {w : List sh_C} {x f s wt sl : Nat} (ha : w[x]? = some (.inl (8, [.int 0, .int 0, .int 0, .int 0, .int 0, .int 0, .int 0]))) (hw : wt < 900) (hs : sl < 1000) : Ev G mX7_init_ 0 0 w 0 [some (.ref x), some (.int (nI f)), some (.int (nI s)), some (.int (nI wt)), some (.int (nI sl))] [] (sh_is none (w.set x (.inl (8, [.int (nI f), .int (nI s), .int (nI wt), .int (nI (wt - sl)), .int (nI (wt + sl)), .int (nI ((wt + 10) - sl)), .int (nI ((wt + 10) + sl))])))) := by
  refine e_aload_n 0 dX7_init__0 rfl rfl ?_
  refine e_iload_n 1 dX7_init__1 rfl rfl ?_
  refine e_iload_n 2 dX7_init__2 rfl rfl ?_
  refine e_iload_n 3 dX7_init__3 rfl rfl ?_
  refine e_iload_n 3 dX7_init__4 rfl rfl ?_
  refine e_bipush (v := 10) dX7_init__5 (by decide) ?_
  refine e_iadd dX7_init__7 ?_
  rw [add10]
  refine e_iload dX7_init__8 rfl ?_
  refine f_callIv (As := [_, _, _, _, _]) ok_X4_init_ rfl ⟨Nat.le_of_ble_eq_true rfl, Nat.le_of_ble_eq_true rfl⟩ dX7_init__10 rfl kl_X7_11 ki_X4_init_ rfl rfl (Nat.le_of_ble_eq_true rfl) (Nat.le_of_ble_eq_true rfl) (Nat.zero_add _) (Nat.zero_add _) (sp_X4_init_8 ha (by omega) (by omega) hs) ?_
  exact e_vret dX7_init__13 rfl ⟨rfl, rfl⟩

set_option maxRecDepth 4000 in
theorem sp_X4_init {G : sh_G} {w : List sh_C} {x f s wt : Nat} (ha : w[x]? = some (.inl (4, [.int 0, .int 0, .int 0, .int 0, .int 0, .int 0, .int 0]))) (hw : wt < 900) : Ev G mX4_init 0 0 w 0 [some (.ref x), some (.int (nI f)), some (.int (nI s)), some (.int (nI wt))] [] (sh_is none (w.set x (dC 0 f s wt))) := by
  refine e_aload_n 0 dX4_init_0 rfl rfl ?_
  refine e_iload_n 1 dX4_init_1 rfl rfl ?_
  refine e_iload_n 2 dX4_init_2 rfl rfl ?_
  refine e_iload_n 3 dX4_init_3 rfl rfl ?_
  refine e_iload_n 3 dX4_init_4 rfl rfl ?_
  refine e_iconst (v := 2) dX4_init_5 rfl ?_
  refine f_callIv (As := [_, _, _, _, _]) ok_X4_init_ rfl ⟨Nat.le_of_ble_eq_true rfl, Nat.le_of_ble_eq_true rfl⟩ dX4_init_6 rfl kl_X4_5 ki_X4_init_ rfl rfl (Nat.le_of_ble_eq_true rfl) (Nat.le_of_ble_eq_true rfl) (Nat.zero_add _) (Nat.zero_add _) (sp_X4_init_4 (sl := 2) ha (by omega) (by omega) (by omega)) ?_
  exact e_vret dX4_init_9 rfl ⟨rfl, rfl⟩

set_option maxRecDepth 4000 in
theorem sp_X7_init {G : sh_G} {w : List sh_C} {x f s wt : Nat} (ha : w[x]? = some (.inl (7, [.int 0, .int 0, .int 0, .int 0, .int 0, .int 0, .int 0]))) (hw : wt < 900) : Ev G mX7_init 0 0 w 0 [some (.ref x), some (.int (nI f)), some (.int (nI s)), some (.int (nI wt))] [] (sh_is none (w.set x (dC 1 f s wt))) := by
  refine e_aload_n 0 dX7_init_0 rfl rfl ?_
  refine e_iload_n 1 dX7_init_1 rfl rfl ?_
  refine e_iload_n 2 dX7_init_2 rfl rfl ?_
  refine e_iload_n 3 dX7_init_3 rfl rfl ?_
  refine e_iconst (v := 2) dX7_init_4 rfl ?_
  refine f_callIv (As := [_, _, _, _]) ok_X7_init_ rfl ⟨Nat.le_of_ble_eq_true rfl, Nat.le_of_ble_eq_true rfl⟩ dX7_init_5 rfl kl_X7_5 ki_X7_init_ rfl rfl (Nat.le_of_ble_eq_true rfl) (Nat.le_of_ble_eq_true rfl) (Nat.zero_add _) (Nat.zero_add _) (sp_X7_init_7 (sl := 2) ha (by omega) (by omega)) ?_
  exact e_vret dX7_init_8 rfl ⟨rfl, rfl⟩

set_option maxRecDepth 4000 in
theorem sp_X8_init {G : sh_G} {w : List sh_C} {x f s wt : Nat} (ha : w[x]? = some (.inl (8, [.int 0, .int 0, .int 0, .int 0, .int 0, .int 0, .int 0]))) (hw : wt < 900) : Ev G mX8_init 0 0 w 0 [some (.ref x), some (.int (nI f)), some (.int (nI s)), some (.int (nI wt))] [] (sh_is none (w.set x (dC 2 f s wt))) := by
  refine e_aload_n 0 dX8_init_0 rfl rfl ?_
  refine e_iload_n 1 dX8_init_1 rfl rfl ?_
  refine e_iload_n 2 dX8_init_2 rfl rfl ?_
  refine e_iload_n 3 dX8_init_3 rfl rfl ?_
  refine e_iconst (v := 5) dX8_init_4 rfl ?_
  refine f_callIv (As := [_, _, _, _]) ok_X7_init_ rfl ⟨Nat.le_of_ble_eq_true rfl, Nat.le_of_ble_eq_true rfl⟩ dX8_init_5 rfl kl_X8_5 ki_X7_init_ rfl rfl (Nat.le_of_ble_eq_true rfl) (Nat.le_of_ble_eq_true rfl) (Nat.zero_add _) (Nat.zero_add _) (sp_X7_init_8 (sl := 5) ha (by omega) (by omega)) ?_
  exact e_vret dX8_init_8 rfl ⟨rfl, rfl⟩
