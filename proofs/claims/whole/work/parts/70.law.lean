theorem lg_self (x : Int64) : lg_cmp x x = 0 := by
  unfold lg_cmp
  have h : ¬ x < x := by rw [fa_lt64]; omega
  rw [if_neg (show ¬ x > x from h), if_pos rfl]
section SHL
variable {G : sh_G} {M : sh_M} {kc ks pc : Nat} {w : List sh_C} {lv : List (Option Value)} {st : List Value} {Q : Option Value → List sh_C → Prop}
/-- the script's int at a written number -/
theorem e_sald_n {x : Int32} (j : Nat) (d : decode M.2.2.1 pc = .ok (.iaload, 1)) (hx : x = nI j) (hj : j < G.2.2.2.2.2.1) (hn : G.2.2.2.2.2.1 < 2 ^ 31) (kk : Ev G M kc ks w (pc + 1) lv (.int (G.2.2.2.2.2.2 j) :: st) Q) : Ev G M kc ks w pc lv (.int x :: .ref 0 :: st) Q := by
  subst hx
  refine e_sald d (vp_in_nI hj hn) ?_
  rw [nI_clamp (by omega)]
  exact kk
end SHL
set_option maxRecDepth 4000 in
theorem lk_0 {G : sh_G} {S : Nat → Int32} {A : Nat → Nat → Int32} {Lg : Nat → Int64} {P : Nat → Option Nat} {T : List sh_C} {b : sh_be} {i K K' : Nat} {Q : Option Value → List sh_C → Prop} (hL : G.2.2.2.2.2.1 < 2 ^ 31) (hi : i + 6 ≤ G.2.2.2.2.2.1) (hR : RX S A Lg P T b) (hM : RM S A b) (hI : IV b) (kk : ∀ (S : Nat → Int32) (A : Nat → Nat → Int32) (Lg : Nat → Int64) (P : Nat → Option Nat) (T : List sh_C) (b : sh_be), RX S A Lg P T b → RM S A b → IV b → Ev G mL_law K K' (mkW G S A Lg P T) 1249 [some (.ref 0), some (.ref 1), some (.ref 24), some (.int (nI i))] [] Q) : Ev G mL_law (9 + K) (59 + K') (mkW G S A Lg P T) 168 [some (.ref 0), some (.ref 1), some (.ref 24), some (.int (nI i))] [] Q := by
  refine e_aload_n 1 dL_law_168 rfl rfl ?_
  refine e_aload_n 0 dL_law_169 rfl rfl ?_
  refine e_iload_n 3 dL_law_170 rfl rfl ?_
  refine e_iconst (v := 1) dL_law_171 rfl ?_
  refine e_iadd dL_law_172 ?_
  refine e_sald_n (i + 1) dL_law_173 (nI_add i 1) (by omega) hL ?_
  refine e_aload_n 0 dL_law_174 rfl rfl ?_
  refine e_iload_n 3 dL_law_175 rfl rfl ?_
  refine e_iconst (v := 2) dL_law_176 rfl ?_
  refine e_iadd dL_law_177 ?_
  refine e_sald_n (i + 2) dL_law_178 (nI_add i 2) (by omega) hL ?_
  refine e_aload_n 0 dL_law_179 rfl rfl ?_
  refine e_iload_n 3 dL_law_180 rfl rfl ?_
  refine e_iconst (v := 3) dL_law_181 rfl ?_
  refine e_iadd dL_law_182 ?_
  refine e_sald_n (i + 3) dL_law_183 (nI_add i 3) (by omega) hL ?_
  refine e_aload_n 0 dL_law_184 rfl rfl ?_
  refine e_iload_n 3 dL_law_185 rfl rfl ?_
  refine e_iconst (v := 4) dL_law_186 rfl ?_
  refine e_iadd dL_law_187 ?_
  refine e_sald_n (i + 4) dL_law_188 (nI_add i 4) (by omega) hL ?_
  refine e_callV (mc := 9) (ms := 59) (kc2 := K) (ks2 := K') (As := [_, _, _, _]) ok_X9_house ⟨Nat.le_of_ble_eq_true rfl, Nat.le_of_ble_eq_true rfl⟩ dL_law_189 kl_L_13 ki_X9_house kv_X9_house rfl rfl rfl rfl (Nat.le_of_ble_eq_true rfl) (Nat.le_of_ble_eq_true rfl) (sp_X9_house hR hI) (fun v w' hw => ?_)
  obtain ⟨S1, A1, Lg1, P1, T1, rfl, rfl, hR1, hf1⟩ := hw
  refine e_aload_n 2 dL_law_192 rfl rfl ?_
  refine e_aload_n 0 dL_law_193 rfl rfl ?_
  refine e_iload_n 3 dL_law_194 rfl rfl ?_
  refine e_iconst (v := 1) dL_law_195 rfl ?_
  refine e_iadd dL_law_196 ?_
  refine e_sald_n (i + 1) dL_law_197 (nI_add i 1) (by omega) hL ?_
  refine e_aload_n 0 dL_law_198 rfl rfl ?_
  refine e_iload_n 3 dL_law_199 rfl rfl ?_
  refine e_iconst (v := 2) dL_law_200 rfl ?_
  refine e_iadd dL_law_201 ?_
  refine e_sald_n (i + 2) dL_law_202 (nI_add i 2) (by omega) hL ?_
  refine e_aload_n 0 dL_law_203 rfl rfl ?_
  refine e_iload_n 3 dL_law_204 rfl rfl ?_
  refine e_iconst (v := 3) dL_law_205 rfl ?_
  refine e_iadd dL_law_206 ?_
  refine e_sald_n (i + 3) dL_law_207 (nI_add i 3) (by omega) hL ?_
  refine e_aload_n 0 dL_law_208 rfl rfl ?_
  refine e_iload_n 3 dL_law_209 rfl rfl ?_
  refine e_iconst (v := 4) dL_law_210 rfl ?_
  refine e_iadd dL_law_211 ?_
  refine e_sald_n (i + 4) dL_law_212 (nI_add i 4) (by omega) hL ?_
  refine e_room (kc' := 0 + K) (ks' := 0 + K') ?_ (by omega) (by omega)
  refine e_callV (mc := 0) (ms := 0) (kc2 := K) (ks2 := K') (As := [_, _, _, _]) ok_X10_house ⟨Nat.le_of_ble_eq_true rfl, Nat.le_of_ble_eq_true rfl⟩ dL_law_213 kl_L_17 ki_X10_house kv_X10_house rfl rfl rfl rfl (Nat.le_of_ble_eq_true rfl) (Nat.le_of_ble_eq_true rfl) (sp_X10_house (hM.fr hf1) hI) (fun v w' hw => ?_)
  obtain ⟨S2, A2, rfl, rfl, hM2, hf2⟩ := hw
  refine e_icmp_eq (tgt := 1249) dL_law_216 rfl (fun _ => ?_) (fun h216 => absurd rfl h216)
  exact kk _ _ _ _ _ _ (hR1.fr hf2) hM2 (IV_house hI)
set_option maxRecDepth 4000 in
theorem lk_1 {G : sh_G} {S : Nat → Int32} {A : Nat → Nat → Int32} {Lg : Nat → Int64} {P : Nat → Option Nat} {T : List sh_C} {b : sh_be} {i K K' : Nat} {Q : Option Value → List sh_C → Prop} (hL : G.2.2.2.2.2.1 < 2 ^ 31) (hi : i + 6 ≤ G.2.2.2.2.2.1) (hR : RX S A Lg P T b) (hM : RM S A b) (hI : IV b) (kk : ∀ (S : Nat → Int32) (A : Nat → Nat → Int32) (Lg : Nat → Int64) (P : Nat → Option Nat) (T : List sh_C) (b : sh_be), RX S A Lg P T b → RM S A b → IV b → Ev G mL_law K K' (mkW G S A Lg P T) 1249 [some (.ref 0), some (.ref 1), some (.ref 24), some (.int (nI i))] [] Q) : Ev G mL_law (9 + K) (59 + K') (mkW G S A Lg P T) 221 [some (.ref 0), some (.ref 1), some (.ref 24), some (.int (nI i))] [] Q := by
  refine e_room (kc' := K) (ks' := K') ?_ (by omega) (by omega)
  refine e_aload_n 1 dL_law_221 rfl rfl ?_
  refine e_aload_n 0 dL_law_222 rfl rfl ?_
  refine e_iload_n 3 dL_law_223 rfl rfl ?_
  refine e_iconst (v := 1) dL_law_224 rfl ?_
  refine e_iadd dL_law_225 ?_
  refine e_sald_n (i + 1) dL_law_226 (nI_add i 1) (by omega) hL ?_
  refine e_aload_n 0 dL_law_227 rfl rfl ?_
  refine e_iload_n 3 dL_law_228 rfl rfl ?_
  refine e_iconst (v := 2) dL_law_229 rfl ?_
  refine e_iadd dL_law_230 ?_
  refine e_sald_n (i + 2) dL_law_231 (nI_add i 2) (by omega) hL ?_
  refine f_callVi (As := [_, _]) ok_X9_ofDoor ⟨Nat.le_of_ble_eq_true rfl, Nat.le_of_ble_eq_true rfl⟩ dL_law_232 kl_L_18 ki_X9_ofDoor kv_X9_ofDoor rfl rfl rfl rfl (Nat.le_of_ble_eq_true rfl) (Nat.le_of_ble_eq_true rfl) (Nat.zero_add _) (Nat.zero_add _) (sp_X9_ofDoor hR hI) ?_
  refine e_aload_n 2 dL_law_235 rfl rfl ?_
  refine e_aload_n 0 dL_law_236 rfl rfl ?_
  refine e_iload_n 3 dL_law_237 rfl rfl ?_
  refine e_iconst (v := 1) dL_law_238 rfl ?_
  refine e_iadd dL_law_239 ?_
  refine e_sald_n (i + 1) dL_law_240 (nI_add i 1) (by omega) hL ?_
  refine e_aload_n 0 dL_law_241 rfl rfl ?_
  refine e_iload_n 3 dL_law_242 rfl rfl ?_
  refine e_iconst (v := 2) dL_law_243 rfl ?_
  refine e_iadd dL_law_244 ?_
  refine e_sald_n (i + 2) dL_law_245 (nI_add i 2) (by omega) hL ?_
  refine f_callVi (As := [_, _]) ok_X10_ofDoor ⟨Nat.le_of_ble_eq_true rfl, Nat.le_of_ble_eq_true rfl⟩ dL_law_246 kl_L_22 ki_X10_ofDoor kv_X10_ofDoor rfl rfl rfl rfl (Nat.le_of_ble_eq_true rfl) (Nat.le_of_ble_eq_true rfl) (Nat.zero_add _) (Nat.zero_add _) (sp_X10_ofDoor hM hI) ?_
  refine e_icmp_eq (tgt := 1249) dL_law_249 rfl (fun _ => ?_) (fun h249 => absurd rfl h249)
  exact kk S A Lg P T b hR hM hI
set_option maxRecDepth 4000 in
theorem lk_2 {G : sh_G} {S : Nat → Int32} {A : Nat → Nat → Int32} {Lg : Nat → Int64} {P : Nat → Option Nat} {T : List sh_C} {b : sh_be} {i K K' : Nat} {Q : Option Value → List sh_C → Prop} (hL : G.2.2.2.2.2.1 < 2 ^ 31) (hi : i + 6 ≤ G.2.2.2.2.2.1) (hR : RX S A Lg P T b) (hM : RM S A b) (hI : IV b) (kk : ∀ (S : Nat → Int32) (A : Nat → Nat → Int32) (Lg : Nat → Int64) (P : Nat → Option Nat) (T : List sh_C) (b : sh_be), RX S A Lg P T b → RM S A b → IV b → Ev G mL_law K K' (mkW G S A Lg P T) 1249 [some (.ref 0), some (.ref 1), some (.ref 24), some (.int (nI i))] [] Q) : Ev G mL_law (9 + K) (59 + K') (mkW G S A Lg P T) 254 [some (.ref 0), some (.ref 1), some (.ref 24), some (.int (nI i))] [] Q := by
  refine e_room (kc' := 0 + K) (ks' := 0 + K') ?_ (by omega) (by omega)
  refine e_aload_n 1 dL_law_254 rfl rfl ?_
  refine e_aload_n 0 dL_law_255 rfl rfl ?_
  refine e_iload_n 3 dL_law_256 rfl rfl ?_
  refine e_iconst (v := 1) dL_law_257 rfl ?_
  refine e_iadd dL_law_258 ?_
  refine e_sald_n (i + 1) dL_law_259 (nI_add i 1) (by omega) hL ?_
  refine e_aload_n 0 dL_law_260 rfl rfl ?_
  refine e_iload_n 3 dL_law_261 rfl rfl ?_
  refine e_iconst (v := 2) dL_law_262 rfl ?_
  refine e_iadd dL_law_263 ?_
  refine e_sald_n (i + 2) dL_law_264 (nI_add i 2) (by omega) hL ?_
  refine e_callV (mc := 0) (ms := 0) (kc2 := K) (ks2 := K') (As := [_, _]) ok_X9_person ⟨Nat.le_of_ble_eq_true rfl, Nat.le_of_ble_eq_true rfl⟩ dL_law_265 kl_L_23 ki_X9_person kv_X9_person rfl rfl rfl rfl (Nat.le_of_ble_eq_true rfl) (Nat.le_of_ble_eq_true rfl) (sp_X9_person hR hI) (fun v w' hw => ?_)
  obtain ⟨S1, A1, Lg1, P1, T1, rfl, rfl, hR1, hf1⟩ := hw
  refine e_aload_n 2 dL_law_268 rfl rfl ?_
  refine e_aload_n 0 dL_law_269 rfl rfl ?_
  refine e_iload_n 3 dL_law_270 rfl rfl ?_
  refine e_iconst (v := 1) dL_law_271 rfl ?_
  refine e_iadd dL_law_272 ?_
  refine e_sald_n (i + 1) dL_law_273 (nI_add i 1) (by omega) hL ?_
  refine e_aload_n 0 dL_law_274 rfl rfl ?_
  refine e_iload_n 3 dL_law_275 rfl rfl ?_
  refine e_iconst (v := 2) dL_law_276 rfl ?_
  refine e_iadd dL_law_277 ?_
  refine e_sald_n (i + 2) dL_law_278 (nI_add i 2) (by omega) hL ?_
  refine e_room (kc' := 0 + K) (ks' := 0 + K') ?_ (by omega) (by omega)
  refine e_callV (mc := 0) (ms := 0) (kc2 := K) (ks2 := K') (As := [_, _]) ok_X10_person ⟨Nat.le_of_ble_eq_true rfl, Nat.le_of_ble_eq_true rfl⟩ dL_law_279 kl_L_26 ki_X10_person kv_X10_person rfl rfl rfl rfl (Nat.le_of_ble_eq_true rfl) (Nat.le_of_ble_eq_true rfl) (sp_X10_person (hM.fr hf1) hI) (fun v w' hw => ?_)
  obtain ⟨S2, A2, rfl, rfl, hM2, hf2⟩ := hw
  refine e_icmp_eq (tgt := 1249) dL_law_282 rfl (fun _ => ?_) (fun h282 => absurd rfl h282)
  exact kk _ _ _ _ _ _ (hR1.fr hf2) hM2 (IV_person hI)
set_option maxRecDepth 4000 in
theorem lk_3 {G : sh_G} {S : Nat → Int32} {A : Nat → Nat → Int32} {Lg : Nat → Int64} {P : Nat → Option Nat} {T : List sh_C} {b : sh_be} {i K K' : Nat} {Q : Option Value → List sh_C → Prop} (hL : G.2.2.2.2.2.1 < 2 ^ 31) (hi : i + 6 ≤ G.2.2.2.2.2.1) (hR : RX S A Lg P T b) (hM : RM S A b) (hI : IV b) (kk : ∀ (S : Nat → Int32) (A : Nat → Nat → Int32) (Lg : Nat → Int64) (P : Nat → Option Nat) (T : List sh_C) (b : sh_be), RX S A Lg P T b → RM S A b → IV b → Ev G mL_law K K' (mkW G S A Lg P T) 1249 [some (.ref 0), some (.ref 1), some (.ref 24), some (.int (nI i))] [] Q) : Ev G mL_law (9 + K) (59 + K') (mkW G S A Lg P T) 287 [some (.ref 0), some (.ref 1), some (.ref 24), some (.int (nI i))] [] Q := by
  refine e_room (kc' := 0 + K) (ks' := 0 + K') ?_ (by omega) (by omega)
  refine e_aload_n 1 dL_law_287 rfl rfl ?_
  refine e_aload_n 0 dL_law_288 rfl rfl ?_
  refine e_iload_n 3 dL_law_289 rfl rfl ?_
  refine e_iconst (v := 1) dL_law_290 rfl ?_
  refine e_iadd dL_law_291 ?_
  refine e_sald_n (i + 1) dL_law_292 (nI_add i 1) (by omega) hL ?_
  refine e_aload_n 0 dL_law_293 rfl rfl ?_
  refine e_iload_n 3 dL_law_294 rfl rfl ?_
  refine e_iconst (v := 2) dL_law_295 rfl ?_
  refine e_iadd dL_law_296 ?_
  refine e_sald_n (i + 2) dL_law_297 (nI_add i 2) (by omega) hL ?_
  refine e_callV (mc := 0) (ms := 0) (kc2 := K) (ks2 := K') (As := [_, _]) ok_X9_stone ⟨Nat.le_of_ble_eq_true rfl, Nat.le_of_ble_eq_true rfl⟩ dL_law_298 kl_L_27 ki_X9_stone kv_X9_stone rfl rfl rfl rfl (Nat.le_of_ble_eq_true rfl) (Nat.le_of_ble_eq_true rfl) (sp_X9_stone hR hI) (fun v w' hw => ?_)
  obtain ⟨S1, A1, Lg1, P1, T1, rfl, rfl, hR1, hf1⟩ := hw
  refine e_aload_n 2 dL_law_301 rfl rfl ?_
  refine e_aload_n 0 dL_law_302 rfl rfl ?_
  refine e_iload_n 3 dL_law_303 rfl rfl ?_
  refine e_iconst (v := 1) dL_law_304 rfl ?_
  refine e_iadd dL_law_305 ?_
  refine e_sald_n (i + 1) dL_law_306 (nI_add i 1) (by omega) hL ?_
  refine e_aload_n 0 dL_law_307 rfl rfl ?_
  refine e_iload_n 3 dL_law_308 rfl rfl ?_
  refine e_iconst (v := 2) dL_law_309 rfl ?_
  refine e_iadd dL_law_310 ?_
  refine e_sald_n (i + 2) dL_law_311 (nI_add i 2) (by omega) hL ?_
  refine e_room (kc' := 0 + K) (ks' := 0 + K') ?_ (by omega) (by omega)
  refine e_callV (mc := 0) (ms := 0) (kc2 := K) (ks2 := K') (As := [_, _]) ok_X10_stone ⟨Nat.le_of_ble_eq_true rfl, Nat.le_of_ble_eq_true rfl⟩ dL_law_312 kl_L_30 ki_X10_stone kv_X10_stone rfl rfl rfl rfl (Nat.le_of_ble_eq_true rfl) (Nat.le_of_ble_eq_true rfl) (sp_X10_stone (hM.fr hf1) hI) (fun v w' hw => ?_)
  obtain ⟨S2, A2, rfl, rfl, hM2, hf2⟩ := hw
  refine e_icmp_eq (tgt := 1249) dL_law_315 rfl (fun _ => ?_) (fun h315 => absurd rfl h315)
  exact kk _ _ _ _ _ _ (hR1.fr hf2) hM2 (IV_stone hI)
set_option maxRecDepth 4000 in
theorem lk_4 {G : sh_G} {S : Nat → Int32} {A : Nat → Nat → Int32} {Lg : Nat → Int64} {P : Nat → Option Nat} {T : List sh_C} {b : sh_be} {i K K' : Nat} {Q : Option Value → List sh_C → Prop} (hL : G.2.2.2.2.2.1 < 2 ^ 31) (hi : i + 6 ≤ G.2.2.2.2.2.1) (hR : RX S A Lg P T b) (hM : RM S A b) (hI : IV b) (kk : ∀ (S : Nat → Int32) (A : Nat → Nat → Int32) (Lg : Nat → Int64) (P : Nat → Option Nat) (T : List sh_C) (b : sh_be), RX S A Lg P T b → RM S A b → IV b → Ev G mL_law K K' (mkW G S A Lg P T) 1249 [some (.ref 0), some (.ref 1), some (.ref 24), some (.int (nI i))] [] Q) : Ev G mL_law (9 + K) (59 + K') (mkW G S A Lg P T) 320 [some (.ref 0), some (.ref 1), some (.ref 24), some (.int (nI i))] [] Q := by
  refine e_room (kc' := K) (ks' := K') ?_ (by omega) (by omega)
  refine e_aload_n 1 dL_law_320 rfl rfl ?_
  refine e_aload_n 0 dL_law_321 rfl rfl ?_
  refine e_iload_n 3 dL_law_322 rfl rfl ?_
  refine e_iconst (v := 1) dL_law_323 rfl ?_
  refine e_iadd dL_law_324 ?_
  refine e_sald_n (i + 1) dL_law_325 (nI_add i 1) (by omega) hL ?_
  refine e_aload_n 0 dL_law_326 rfl rfl ?_
  refine e_iload_n 3 dL_law_327 rfl rfl ?_
  refine e_iconst (v := 2) dL_law_328 rfl ?_
  refine e_iadd dL_law_329 ?_
  refine e_sald_n (i + 2) dL_law_330 (nI_add i 2) (by omega) hL ?_
  refine f_callVi (As := [_, _]) ok_X9_ofPerson ⟨Nat.le_of_ble_eq_true rfl, Nat.le_of_ble_eq_true rfl⟩ dL_law_331 kl_L_31 ki_X9_ofPerson kv_X9_ofPerson rfl rfl rfl rfl (Nat.le_of_ble_eq_true rfl) (Nat.le_of_ble_eq_true rfl) (Nat.zero_add _) (Nat.zero_add _) (sp_X9_ofPerson hR hI) ?_
  refine e_aload_n 2 dL_law_334 rfl rfl ?_
  refine e_aload_n 0 dL_law_335 rfl rfl ?_
  refine e_iload_n 3 dL_law_336 rfl rfl ?_
  refine e_iconst (v := 1) dL_law_337 rfl ?_
  refine e_iadd dL_law_338 ?_
  refine e_sald_n (i + 1) dL_law_339 (nI_add i 1) (by omega) hL ?_
  refine e_aload_n 0 dL_law_340 rfl rfl ?_
  refine e_iload_n 3 dL_law_341 rfl rfl ?_
  refine e_iconst (v := 2) dL_law_342 rfl ?_
  refine e_iadd dL_law_343 ?_
  refine e_sald_n (i + 2) dL_law_344 (nI_add i 2) (by omega) hL ?_
  refine f_callVi (As := [_, _]) ok_X10_ofPerson ⟨Nat.le_of_ble_eq_true rfl, Nat.le_of_ble_eq_true rfl⟩ dL_law_345 kl_L_34 ki_X10_ofPerson kv_X10_ofPerson rfl rfl rfl rfl (Nat.le_of_ble_eq_true rfl) (Nat.le_of_ble_eq_true rfl) (Nat.zero_add _) (Nat.zero_add _) (sp_X10_ofPerson hM hI) ?_
  refine e_icmp_eq (tgt := 1249) dL_law_348 rfl (fun _ => ?_) (fun h348 => absurd rfl h348)
  exact kk S A Lg P T b hR hM hI
set_option maxRecDepth 4000 in
theorem lk_5 {G : sh_G} {S : Nat → Int32} {A : Nat → Nat → Int32} {Lg : Nat → Int64} {P : Nat → Option Nat} {T : List sh_C} {b : sh_be} {i K K' : Nat} {Q : Option Value → List sh_C → Prop} (hL : G.2.2.2.2.2.1 < 2 ^ 31) (hi : i + 6 ≤ G.2.2.2.2.2.1) (hR : RX S A Lg P T b) (hM : RM S A b) (hI : IV b) (kk : ∀ (S : Nat → Int32) (A : Nat → Nat → Int32) (Lg : Nat → Int64) (P : Nat → Option Nat) (T : List sh_C) (b : sh_be), RX S A Lg P T b → RM S A b → IV b → Ev G mL_law K K' (mkW G S A Lg P T) 1249 [some (.ref 0), some (.ref 1), some (.ref 24), some (.int (nI i))] [] Q) : Ev G mL_law (9 + K) (59 + K') (mkW G S A Lg P T) 353 [some (.ref 0), some (.ref 1), some (.ref 24), some (.int (nI i))] [] Q := by
  refine e_room (kc' := K) (ks' := K') ?_ (by omega) (by omega)
  refine e_aload_n 1 dL_law_353 rfl rfl ?_
  refine e_aload_n 0 dL_law_354 rfl rfl ?_
  refine e_iload_n 3 dL_law_355 rfl rfl ?_
  refine e_iconst (v := 1) dL_law_356 rfl ?_
  refine e_iadd dL_law_357 ?_
  refine e_sald_n (i + 1) dL_law_358 (nI_add i 1) (by omega) hL ?_
  refine e_aload_n 0 dL_law_359 rfl rfl ?_
  refine e_iload_n 3 dL_law_360 rfl rfl ?_
  refine e_iconst (v := 2) dL_law_361 rfl ?_
  refine e_iadd dL_law_362 ?_
  refine e_sald_n (i + 2) dL_law_363 (nI_add i 2) (by omega) hL ?_
  refine f_callVi (As := [_, _]) ok_X9_ofStone ⟨Nat.le_of_ble_eq_true rfl, Nat.le_of_ble_eq_true rfl⟩ dL_law_364 kl_L_35 ki_X9_ofStone kv_X9_ofStone rfl rfl rfl rfl (Nat.le_of_ble_eq_true rfl) (Nat.le_of_ble_eq_true rfl) (Nat.zero_add _) (Nat.zero_add _) (sp_X9_ofStone hR hI) ?_
  refine e_aload_n 2 dL_law_367 rfl rfl ?_
  refine e_aload_n 0 dL_law_368 rfl rfl ?_
  refine e_iload_n 3 dL_law_369 rfl rfl ?_
  refine e_iconst (v := 1) dL_law_370 rfl ?_
  refine e_iadd dL_law_371 ?_
  refine e_sald_n (i + 1) dL_law_372 (nI_add i 1) (by omega) hL ?_
  refine e_aload_n 0 dL_law_373 rfl rfl ?_
  refine e_iload_n 3 dL_law_374 rfl rfl ?_
  refine e_iconst (v := 2) dL_law_375 rfl ?_
  refine e_iadd dL_law_376 ?_
  refine e_sald_n (i + 2) dL_law_377 (nI_add i 2) (by omega) hL ?_
  refine f_callVi (As := [_, _]) ok_X10_ofStone ⟨Nat.le_of_ble_eq_true rfl, Nat.le_of_ble_eq_true rfl⟩ dL_law_378 kl_L_38 ki_X10_ofStone kv_X10_ofStone rfl rfl rfl rfl (Nat.le_of_ble_eq_true rfl) (Nat.le_of_ble_eq_true rfl) (Nat.zero_add _) (Nat.zero_add _) (sp_X10_ofStone hM hI) ?_
  refine e_icmp_eq (tgt := 1249) dL_law_381 rfl (fun _ => ?_) (fun h381 => absurd rfl h381)
  exact kk S A Lg P T b hR hM hI
set_option maxRecDepth 4000 in
theorem lk_6 {G : sh_G} {S : Nat → Int32} {A : Nat → Nat → Int32} {Lg : Nat → Int64} {P : Nat → Option Nat} {T : List sh_C} {b : sh_be} {i K K' : Nat} {Q : Option Value → List sh_C → Prop} (hL : G.2.2.2.2.2.1 < 2 ^ 31) (hi : i + 6 ≤ G.2.2.2.2.2.1) (hR : RX S A Lg P T b) (hM : RM S A b) (hI : IV b) (kk : ∀ (S : Nat → Int32) (A : Nat → Nat → Int32) (Lg : Nat → Int64) (P : Nat → Option Nat) (T : List sh_C) (b : sh_be), RX S A Lg P T b → RM S A b → IV b → Ev G mL_law K K' (mkW G S A Lg P T) 1249 [some (.ref 0), some (.ref 1), some (.ref 24), some (.int (nI i))] [] Q) : Ev G mL_law (9 + K) (59 + K') (mkW G S A Lg P T) 386 [some (.ref 0), some (.ref 1), some (.ref 24), some (.int (nI i))] [] Q := by
  refine e_room (kc' := 0 + K) (ks' := 0 + K') ?_ (by omega) (by omega)
  refine e_aload_n 1 dL_law_386 rfl rfl ?_
  refine e_aload_n 0 dL_law_387 rfl rfl ?_
  refine e_iload_n 3 dL_law_388 rfl rfl ?_
  refine e_iconst (v := 1) dL_law_389 rfl ?_
  refine e_iadd dL_law_390 ?_
  refine e_sald_n (i + 1) dL_law_391 (nI_add i 1) (by omega) hL ?_
  refine e_aload_n 0 dL_law_392 rfl rfl ?_
  refine e_iload_n 3 dL_law_393 rfl rfl ?_
  refine e_iconst (v := 2) dL_law_394 rfl ?_
  refine e_iadd dL_law_395 ?_
  refine e_sald_n (i + 2) dL_law_396 (nI_add i 2) (by omega) hL ?_
  refine e_callV (mc := 0) (ms := 0) (kc2 := K) (ks2 := K') (As := [_, _]) ok_X9_take ⟨Nat.le_of_ble_eq_true rfl, Nat.le_of_ble_eq_true rfl⟩ dL_law_397 kl_L_39 ki_X9_take kv_X9_take rfl rfl rfl rfl (Nat.le_of_ble_eq_true rfl) (Nat.le_of_ble_eq_true rfl) (sp_X9_take hR hI) (fun v w' hw => ?_)
  obtain ⟨S1, A1, Lg1, P1, T1, rfl, rfl, hR1, hf1⟩ := hw
  refine e_aload_n 2 dL_law_400 rfl rfl ?_
  refine e_aload_n 0 dL_law_401 rfl rfl ?_
  refine e_iload_n 3 dL_law_402 rfl rfl ?_
  refine e_iconst (v := 1) dL_law_403 rfl ?_
  refine e_iadd dL_law_404 ?_
  refine e_sald_n (i + 1) dL_law_405 (nI_add i 1) (by omega) hL ?_
  refine e_aload_n 0 dL_law_406 rfl rfl ?_
  refine e_iload_n 3 dL_law_407 rfl rfl ?_
  refine e_iconst (v := 2) dL_law_408 rfl ?_
  refine e_iadd dL_law_409 ?_
  refine e_sald_n (i + 2) dL_law_410 (nI_add i 2) (by omega) hL ?_
  refine e_room (kc' := 0 + K) (ks' := 0 + K') ?_ (by omega) (by omega)
  refine e_callV (mc := 0) (ms := 0) (kc2 := K) (ks2 := K') (As := [_, _]) ok_X10_take ⟨Nat.le_of_ble_eq_true rfl, Nat.le_of_ble_eq_true rfl⟩ dL_law_411 kl_L_42 ki_X10_take kv_X10_take rfl rfl rfl rfl (Nat.le_of_ble_eq_true rfl) (Nat.le_of_ble_eq_true rfl) (sp_X10_take (hM.fr hf1) hI) (fun v w' hw => ?_)
  obtain ⟨S2, A2, rfl, rfl, hM2, hf2⟩ := hw
  refine e_icmp_eq (tgt := 1249) dL_law_414 rfl (fun _ => ?_) (fun h414 => absurd rfl h414)
  exact kk _ _ _ _ _ _ (hR1.fr hf2) hM2 (IV_take hI)
set_option maxRecDepth 4000 in
theorem lk_7 {G : sh_G} {S : Nat → Int32} {A : Nat → Nat → Int32} {Lg : Nat → Int64} {P : Nat → Option Nat} {T : List sh_C} {b : sh_be} {i K K' : Nat} {Q : Option Value → List sh_C → Prop} (hL : G.2.2.2.2.2.1 < 2 ^ 31) (hi : i + 6 ≤ G.2.2.2.2.2.1) (hR : RX S A Lg P T b) (hM : RM S A b) (hI : IV b) (kk : ∀ (S : Nat → Int32) (A : Nat → Nat → Int32) (Lg : Nat → Int64) (P : Nat → Option Nat) (T : List sh_C) (b : sh_be), RX S A Lg P T b → RM S A b → IV b → Ev G mL_law K K' (mkW G S A Lg P T) 1249 [some (.ref 0), some (.ref 1), some (.ref 24), some (.int (nI i))] [] Q) : Ev G mL_law (9 + K) (59 + K') (mkW G S A Lg P T) 419 [some (.ref 0), some (.ref 1), some (.ref 24), some (.int (nI i))] [] Q := by
  refine e_room (kc' := 0 + K) (ks' := 0 + K') ?_ (by omega) (by omega)
  refine e_aload_n 1 dL_law_419 rfl rfl ?_
  refine e_aload_n 0 dL_law_420 rfl rfl ?_
  refine e_iload_n 3 dL_law_421 rfl rfl ?_
  refine e_iconst (v := 1) dL_law_422 rfl ?_
  refine e_iadd dL_law_423 ?_
  refine e_sald_n (i + 1) dL_law_424 (nI_add i 1) (by omega) hL ?_
  refine e_aload_n 0 dL_law_425 rfl rfl ?_
  refine e_iload_n 3 dL_law_426 rfl rfl ?_
  refine e_iconst (v := 2) dL_law_427 rfl ?_
  refine e_iadd dL_law_428 ?_
  refine e_sald_n (i + 2) dL_law_429 (nI_add i 2) (by omega) hL ?_
  refine e_callV (mc := 0) (ms := 0) (kc2 := K) (ks2 := K') (As := [_, _]) ok_X9_lay ⟨Nat.le_of_ble_eq_true rfl, Nat.le_of_ble_eq_true rfl⟩ dL_law_430 kl_L_43 ki_X9_lay kv_X9_lay rfl rfl rfl rfl (Nat.le_of_ble_eq_true rfl) (Nat.le_of_ble_eq_true rfl) (sp_X9_lay hR hI) (fun v w' hw => ?_)
  obtain ⟨S1, A1, Lg1, P1, T1, rfl, rfl, hR1, hf1⟩ := hw
  refine e_aload_n 2 dL_law_433 rfl rfl ?_
  refine e_aload_n 0 dL_law_434 rfl rfl ?_
  refine e_iload_n 3 dL_law_435 rfl rfl ?_
  refine e_iconst (v := 1) dL_law_436 rfl ?_
  refine e_iadd dL_law_437 ?_
  refine e_sald_n (i + 1) dL_law_438 (nI_add i 1) (by omega) hL ?_
  refine e_aload_n 0 dL_law_439 rfl rfl ?_
  refine e_iload_n 3 dL_law_440 rfl rfl ?_
  refine e_iconst (v := 2) dL_law_441 rfl ?_
  refine e_iadd dL_law_442 ?_
  refine e_sald_n (i + 2) dL_law_443 (nI_add i 2) (by omega) hL ?_
  refine e_room (kc' := 0 + K) (ks' := 0 + K') ?_ (by omega) (by omega)
  refine e_callV (mc := 0) (ms := 0) (kc2 := K) (ks2 := K') (As := [_, _]) ok_X10_lay ⟨Nat.le_of_ble_eq_true rfl, Nat.le_of_ble_eq_true rfl⟩ dL_law_444 kl_L_46 ki_X10_lay kv_X10_lay rfl rfl rfl rfl (Nat.le_of_ble_eq_true rfl) (Nat.le_of_ble_eq_true rfl) (sp_X10_lay (hM.fr hf1) hI) (fun v w' hw => ?_)
  obtain ⟨S2, A2, rfl, rfl, hM2, hf2⟩ := hw
  refine e_icmp_eq (tgt := 1249) dL_law_447 rfl (fun _ => ?_) (fun h447 => absurd rfl h447)
  exact kk _ _ _ _ _ _ (hR1.fr hf2) hM2 (IV_lay hI)
set_option maxRecDepth 4000 in
theorem lk_8 {G : sh_G} {S : Nat → Int32} {A : Nat → Nat → Int32} {Lg : Nat → Int64} {P : Nat → Option Nat} {T : List sh_C} {b : sh_be} {i K K' : Nat} {Q : Option Value → List sh_C → Prop} (hL : G.2.2.2.2.2.1 < 2 ^ 31) (hi : i + 6 ≤ G.2.2.2.2.2.1) (hR : RX S A Lg P T b) (hM : RM S A b) (hI : IV b) (kk : ∀ (S : Nat → Int32) (A : Nat → Nat → Int32) (Lg : Nat → Int64) (P : Nat → Option Nat) (T : List sh_C) (b : sh_be), RX S A Lg P T b → RM S A b → IV b → Ev G mL_law K K' (mkW G S A Lg P T) 1249 [some (.ref 0), some (.ref 1), some (.ref 24), some (.int (nI i))] [] Q) : Ev G mL_law (9 + K) (59 + K') (mkW G S A Lg P T) 452 [some (.ref 0), some (.ref 1), some (.ref 24), some (.int (nI i))] [] Q := by
  refine e_room (kc' := K) (ks' := K') ?_ (by omega) (by omega)
  refine e_aload_n 1 dL_law_452 rfl rfl ?_
  refine e_aload_n 0 dL_law_453 rfl rfl ?_
  refine e_iload_n 3 dL_law_454 rfl rfl ?_
  refine e_iconst (v := 1) dL_law_455 rfl ?_
  refine e_iadd dL_law_456 ?_
  refine e_sald_n (i + 1) dL_law_457 (nI_add i 1) (by omega) hL ?_
  refine e_aload_n 0 dL_law_458 rfl rfl ?_
  refine e_iload_n 3 dL_law_459 rfl rfl ?_
  refine e_iconst (v := 2) dL_law_460 rfl ?_
  refine e_iadd dL_law_461 ?_
  refine e_sald_n (i + 2) dL_law_462 (nI_add i 2) (by omega) hL ?_
  refine f_callVi (As := [_, _]) ok_X9_opens ⟨Nat.le_of_ble_eq_true rfl, Nat.le_of_ble_eq_true rfl⟩ dL_law_463 kl_L_47 ki_X9_opens kv_X9_opens rfl rfl rfl rfl (Nat.le_of_ble_eq_true rfl) (Nat.le_of_ble_eq_true rfl) (Nat.zero_add _) (Nat.zero_add _) (sp_X9_opens hR hI) ?_
  refine e_aload_n 2 dL_law_466 rfl rfl ?_
  refine e_aload_n 0 dL_law_467 rfl rfl ?_
  refine e_iload_n 3 dL_law_468 rfl rfl ?_
  refine e_iconst (v := 1) dL_law_469 rfl ?_
  refine e_iadd dL_law_470 ?_
  refine e_sald_n (i + 1) dL_law_471 (nI_add i 1) (by omega) hL ?_
  refine e_aload_n 0 dL_law_472 rfl rfl ?_
  refine e_iload_n 3 dL_law_473 rfl rfl ?_
  refine e_iconst (v := 2) dL_law_474 rfl ?_
  refine e_iadd dL_law_475 ?_
  refine e_sald_n (i + 2) dL_law_476 (nI_add i 2) (by omega) hL ?_
  refine f_callVi (As := [_, _]) ok_X10_opens ⟨Nat.le_of_ble_eq_true rfl, Nat.le_of_ble_eq_true rfl⟩ dL_law_477 kl_L_50 ki_X10_opens kv_X10_opens rfl rfl rfl rfl (Nat.le_of_ble_eq_true rfl) (Nat.le_of_ble_eq_true rfl) (Nat.zero_add _) (Nat.zero_add _) (sp_X10_opens hM hI) ?_
  refine e_icmp_eq (tgt := 1249) dL_law_480 rfl (fun _ => ?_) (fun h480 => absurd rfl h480)
  exact kk S A Lg P T b hR hM hI
set_option maxRecDepth 4000 in
theorem lk_9 {G : sh_G} {S : Nat → Int32} {A : Nat → Nat → Int32} {Lg : Nat → Int64} {P : Nat → Option Nat} {T : List sh_C} {b : sh_be} {i K K' : Nat} {Q : Option Value → List sh_C → Prop} (hL : G.2.2.2.2.2.1 < 2 ^ 31) (hi : i + 6 ≤ G.2.2.2.2.2.1) (hR : RX S A Lg P T b) (hM : RM S A b) (hI : IV b) (kk : ∀ (S : Nat → Int32) (A : Nat → Nat → Int32) (Lg : Nat → Int64) (P : Nat → Option Nat) (T : List sh_C) (b : sh_be), RX S A Lg P T b → RM S A b → IV b → Ev G mL_law K K' (mkW G S A Lg P T) 1249 [some (.ref 0), some (.ref 1), some (.ref 24), some (.int (nI i))] [] Q) : Ev G mL_law (9 + K) (59 + K') (mkW G S A Lg P T) 485 [some (.ref 0), some (.ref 1), some (.ref 24), some (.int (nI i))] [] Q := by
  refine e_room (kc' := 0 + K) (ks' := 0 + K') ?_ (by omega) (by omega)
  refine e_aload_n 1 dL_law_485 rfl rfl ?_
  refine e_aload_n 0 dL_law_486 rfl rfl ?_
  refine e_iload_n 3 dL_law_487 rfl rfl ?_
  refine e_iconst (v := 1) dL_law_488 rfl ?_
  refine e_iadd dL_law_489 ?_
  refine e_sald_n (i + 1) dL_law_490 (nI_add i 1) (by omega) hL ?_
  refine e_aload_n 0 dL_law_491 rfl rfl ?_
  refine e_iload_n 3 dL_law_492 rfl rfl ?_
  refine e_iconst (v := 2) dL_law_493 rfl ?_
  refine e_iadd dL_law_494 ?_
  refine e_sald_n (i + 2) dL_law_495 (nI_add i 2) (by omega) hL ?_
  refine e_callV (mc := 0) (ms := 0) (kc2 := K) (ks2 := K') (As := [_, _]) ok_X9_pass ⟨Nat.le_of_ble_eq_true rfl, Nat.le_of_ble_eq_true rfl⟩ dL_law_496 kl_L_51 ki_X9_pass kv_X9_pass rfl rfl rfl rfl (Nat.le_of_ble_eq_true rfl) (Nat.le_of_ble_eq_true rfl) (sp_X9_pass hR hI) (fun v w' hw => ?_)
  obtain ⟨S1, A1, Lg1, P1, T1, rfl, rfl, hR1, hf1⟩ := hw
  refine e_aload_n 2 dL_law_499 rfl rfl ?_
  refine e_aload_n 0 dL_law_500 rfl rfl ?_
  refine e_iload_n 3 dL_law_501 rfl rfl ?_
  refine e_iconst (v := 1) dL_law_502 rfl ?_
  refine e_iadd dL_law_503 ?_
  refine e_sald_n (i + 1) dL_law_504 (nI_add i 1) (by omega) hL ?_
  refine e_aload_n 0 dL_law_505 rfl rfl ?_
  refine e_iload_n 3 dL_law_506 rfl rfl ?_
  refine e_iconst (v := 2) dL_law_507 rfl ?_
  refine e_iadd dL_law_508 ?_
  refine e_sald_n (i + 2) dL_law_509 (nI_add i 2) (by omega) hL ?_
  refine e_room (kc' := 0 + K) (ks' := 0 + K') ?_ (by omega) (by omega)
  refine e_callV (mc := 0) (ms := 0) (kc2 := K) (ks2 := K') (As := [_, _]) ok_X10_pass ⟨Nat.le_of_ble_eq_true rfl, Nat.le_of_ble_eq_true rfl⟩ dL_law_510 kl_L_54 ki_X10_pass kv_X10_pass rfl rfl rfl rfl (Nat.le_of_ble_eq_true rfl) (Nat.le_of_ble_eq_true rfl) (sp_X10_pass (hM.fr hf1) hI) (fun v w' hw => ?_)
  obtain ⟨S2, A2, rfl, rfl, hM2, hf2⟩ := hw
  refine e_icmp_eq (tgt := 1249) dL_law_513 rfl (fun _ => ?_) (fun h513 => absurd rfl h513)
  exact kk _ _ _ _ _ _ (hR1.fr hf2) hM2 (IV_pass hI)
set_option maxRecDepth 4000 in
theorem lk_10 {G : sh_G} {S : Nat → Int32} {A : Nat → Nat → Int32} {Lg : Nat → Int64} {P : Nat → Option Nat} {T : List sh_C} {b : sh_be} {i K K' : Nat} {Q : Option Value → List sh_C → Prop} (hL : G.2.2.2.2.2.1 < 2 ^ 31) (hi : i + 6 ≤ G.2.2.2.2.2.1) (hR : RX S A Lg P T b) (hM : RM S A b) (hI : IV b) (kk : ∀ (S : Nat → Int32) (A : Nat → Nat → Int32) (Lg : Nat → Int64) (P : Nat → Option Nat) (T : List sh_C) (b : sh_be), RX S A Lg P T b → RM S A b → IV b → Ev G mL_law K K' (mkW G S A Lg P T) 1249 [some (.ref 0), some (.ref 1), some (.ref 24), some (.int (nI i))] [] Q) : Ev G mL_law (9 + K) (59 + K') (mkW G S A Lg P T) 518 [some (.ref 0), some (.ref 1), some (.ref 24), some (.int (nI i))] [] Q := by
  refine e_room (kc' := 0 + K) (ks' := 0 + K') ?_ (by omega) (by omega)
  refine e_aload_n 1 dL_law_518 rfl rfl ?_
  refine e_aload_n 0 dL_law_519 rfl rfl ?_
  refine e_iload_n 3 dL_law_520 rfl rfl ?_
  refine e_iconst (v := 1) dL_law_521 rfl ?_
  refine e_iadd dL_law_522 ?_
  refine e_sald_n (i + 1) dL_law_523 (nI_add i 1) (by omega) hL ?_
  refine e_aload_n 0 dL_law_524 rfl rfl ?_
  refine e_iload_n 3 dL_law_525 rfl rfl ?_
  refine e_iconst (v := 2) dL_law_526 rfl ?_
  refine e_iadd dL_law_527 ?_
  refine e_sald_n (i + 2) dL_law_528 (nI_add i 2) (by omega) hL ?_
  refine e_callV (mc := 0) (ms := 0) (kc2 := K) (ks2 := K') (As := [_, _]) ok_X9_weigh ⟨Nat.le_of_ble_eq_true rfl, Nat.le_of_ble_eq_true rfl⟩ dL_law_529 kl_L_55 ki_X9_weigh kv_X9_weigh rfl rfl rfl rfl (Nat.le_of_ble_eq_true rfl) (Nat.le_of_ble_eq_true rfl) (sp_X9_weigh hR hI) (fun v w' hw => ?_)
  obtain ⟨S1, A1, Lg1, P1, T1, rfl, rfl, hR1, hf1⟩ := hw
  refine e_aload_n 2 dL_law_532 rfl rfl ?_
  refine e_aload_n 0 dL_law_533 rfl rfl ?_
  refine e_iload_n 3 dL_law_534 rfl rfl ?_
  refine e_iconst (v := 1) dL_law_535 rfl ?_
  refine e_iadd dL_law_536 ?_
  refine e_sald_n (i + 1) dL_law_537 (nI_add i 1) (by omega) hL ?_
  refine e_aload_n 0 dL_law_538 rfl rfl ?_
  refine e_iload_n 3 dL_law_539 rfl rfl ?_
  refine e_iconst (v := 2) dL_law_540 rfl ?_
  refine e_iadd dL_law_541 ?_
  refine e_sald_n (i + 2) dL_law_542 (nI_add i 2) (by omega) hL ?_
  refine e_room (kc' := 0 + K) (ks' := 0 + K') ?_ (by omega) (by omega)
  refine e_callV (mc := 0) (ms := 0) (kc2 := K) (ks2 := K') (As := [_, _]) ok_X10_weigh ⟨Nat.le_of_ble_eq_true rfl, Nat.le_of_ble_eq_true rfl⟩ dL_law_543 kl_L_58 ki_X10_weigh kv_X10_weigh rfl rfl rfl rfl (Nat.le_of_ble_eq_true rfl) (Nat.le_of_ble_eq_true rfl) (sp_X10_weigh (hM.fr hf1) hI) (fun v w' hw => ?_)
  obtain ⟨S2, A2, rfl, rfl, hM2, hf2⟩ := hw
  refine e_icmp_eq (tgt := 1249) dL_law_546 rfl (fun _ => ?_) (fun h546 => absurd rfl h546)
  exact kk _ _ _ _ _ _ (hR1.fr hf2) hM2 (IV_weigh hI)
set_option maxRecDepth 4000 in
theorem lk_11 {G : sh_G} {S : Nat → Int32} {A : Nat → Nat → Int32} {Lg : Nat → Int64} {P : Nat → Option Nat} {T : List sh_C} {b : sh_be} {i K K' : Nat} {Q : Option Value → List sh_C → Prop} (hL : G.2.2.2.2.2.1 < 2 ^ 31) (hi : i + 6 ≤ G.2.2.2.2.2.1) (hR : RX S A Lg P T b) (hM : RM S A b) (hI : IV b) (kk : ∀ (S : Nat → Int32) (A : Nat → Nat → Int32) (Lg : Nat → Int64) (P : Nat → Option Nat) (T : List sh_C) (b : sh_be), RX S A Lg P T b → RM S A b → IV b → Ev G mL_law K K' (mkW G S A Lg P T) 1249 [some (.ref 0), some (.ref 1), some (.ref 24), some (.int (nI i))] [] Q) : Ev G mL_law (9 + K) (59 + K') (mkW G S A Lg P T) 551 [some (.ref 0), some (.ref 1), some (.ref 24), some (.int (nI i))] [] Q := by
  refine e_room (kc' := 0 + K) (ks' := 0 + K') ?_ (by omega) (by omega)
  refine e_aload_n 1 dL_law_551 rfl rfl ?_
  refine e_aload_n 0 dL_law_552 rfl rfl ?_
  refine e_iload_n 3 dL_law_553 rfl rfl ?_
  refine e_iconst (v := 1) dL_law_554 rfl ?_
  refine e_iadd dL_law_555 ?_
  refine e_sald_n (i + 1) dL_law_556 (nI_add i 1) (by omega) hL ?_
  refine e_aload_n 0 dL_law_557 rfl rfl ?_
  refine e_iload_n 3 dL_law_558 rfl rfl ?_
  refine e_iconst (v := 2) dL_law_559 rfl ?_
  refine e_iadd dL_law_560 ?_
  refine e_sald_n (i + 2) dL_law_561 (nI_add i 2) (by omega) hL ?_
  refine e_aload_n 0 dL_law_562 rfl rfl ?_
  refine e_iload_n 3 dL_law_563 rfl rfl ?_
  refine e_iconst (v := 3) dL_law_564 rfl ?_
  refine e_iadd dL_law_565 ?_
  refine e_sald_n (i + 3) dL_law_566 (nI_add i 3) (by omega) hL ?_
  refine e_callV (mc := 0) (ms := 0) (kc2 := K) (ks2 := K') (As := [_, _, _]) ok_X9_fewest ⟨Nat.le_of_ble_eq_true rfl, Nat.le_of_ble_eq_true rfl⟩ dL_law_567 kl_L_59 ki_X9_fewest kv_X9_fewest rfl rfl rfl rfl (Nat.le_of_ble_eq_true rfl) (Nat.le_of_ble_eq_true rfl) (sp_X9_fewest hR hI) (fun v w' hw => ?_)
  obtain ⟨S1, A1, Lg1, P1, T1, rfl, rfl, hR1, hf1⟩ := hw
  refine e_aload_n 2 dL_law_570 rfl rfl ?_
  refine e_aload_n 0 dL_law_571 rfl rfl ?_
  refine e_iload_n 3 dL_law_572 rfl rfl ?_
  refine e_iconst (v := 1) dL_law_573 rfl ?_
  refine e_iadd dL_law_574 ?_
  refine e_sald_n (i + 1) dL_law_575 (nI_add i 1) (by omega) hL ?_
  refine e_aload_n 0 dL_law_576 rfl rfl ?_
  refine e_iload_n 3 dL_law_577 rfl rfl ?_
  refine e_iconst (v := 2) dL_law_578 rfl ?_
  refine e_iadd dL_law_579 ?_
  refine e_sald_n (i + 2) dL_law_580 (nI_add i 2) (by omega) hL ?_
  refine e_aload_n 0 dL_law_581 rfl rfl ?_
  refine e_iload_n 3 dL_law_582 rfl rfl ?_
  refine e_iconst (v := 3) dL_law_583 rfl ?_
  refine e_iadd dL_law_584 ?_
  refine e_sald_n (i + 3) dL_law_585 (nI_add i 3) (by omega) hL ?_
  refine e_room (kc' := 0 + K) (ks' := 0 + K') ?_ (by omega) (by omega)
  refine e_callV (mc := 0) (ms := 0) (kc2 := K) (ks2 := K') (As := [_, _, _]) ok_X10_fewest ⟨Nat.le_of_ble_eq_true rfl, Nat.le_of_ble_eq_true rfl⟩ dL_law_586 kl_L_63 ki_X10_fewest kv_X10_fewest rfl rfl rfl rfl (Nat.le_of_ble_eq_true rfl) (Nat.le_of_ble_eq_true rfl) (sp_X10_fewest (hM.fr hf1) hI) (fun v w' hw => ?_)
  obtain ⟨S2, A2, rfl, rfl, hM2, hf2⟩ := hw
  refine e_icmp_eq (tgt := 1249) dL_law_589 rfl (fun _ => ?_) (fun h589 => absurd rfl h589)
  exact kk _ _ _ _ _ _ (hR1.fr hf2) hM2 (hI)
set_option maxRecDepth 4000 in
theorem lk_12 {G : sh_G} {S : Nat → Int32} {A : Nat → Nat → Int32} {Lg : Nat → Int64} {P : Nat → Option Nat} {T : List sh_C} {b : sh_be} {i K K' : Nat} {Q : Option Value → List sh_C → Prop} (hL : G.2.2.2.2.2.1 < 2 ^ 31) (hi : i + 6 ≤ G.2.2.2.2.2.1) (hR : RX S A Lg P T b) (hM : RM S A b) (hI : IV b) (kk : ∀ (S : Nat → Int32) (A : Nat → Nat → Int32) (Lg : Nat → Int64) (P : Nat → Option Nat) (T : List sh_C) (b : sh_be), RX S A Lg P T b → RM S A b → IV b → Ev G mL_law K K' (mkW G S A Lg P T) 1249 [some (.ref 0), some (.ref 1), some (.ref 24), some (.int (nI i))] [] Q) : Ev G mL_law (9 + K) (59 + K') (mkW G S A Lg P T) 594 [some (.ref 0), some (.ref 1), some (.ref 24), some (.int (nI i))] [] Q := by
  refine e_room (kc' := K) (ks' := K') ?_ (by omega) (by omega)
  refine e_aload_n 1 dL_law_594 rfl rfl ?_
  refine e_aload_n 0 dL_law_595 rfl rfl ?_
  refine e_iload_n 3 dL_law_596 rfl rfl ?_
  refine e_iconst (v := 1) dL_law_597 rfl ?_
  refine e_iadd dL_law_598 ?_
  refine e_sald_n (i + 1) dL_law_599 (nI_add i 1) (by omega) hL ?_
  refine e_aload_n 0 dL_law_600 rfl rfl ?_
  refine e_iload_n 3 dL_law_601 rfl rfl ?_
  refine e_iconst (v := 2) dL_law_602 rfl ?_
  refine e_iadd dL_law_603 ?_
  refine e_sald_n (i + 2) dL_law_604 (nI_add i 2) (by omega) hL ?_
  refine f_callVi (As := [_, _]) ok_X9_reach ⟨Nat.le_of_ble_eq_true rfl, Nat.le_of_ble_eq_true rfl⟩ dL_law_605 kl_L_64 ki_X9_reach kv_X9_reach rfl rfl rfl rfl (Nat.le_of_ble_eq_true rfl) (Nat.le_of_ble_eq_true rfl) (Nat.zero_add _) (Nat.zero_add _) (sp_X9_reach hR hI) ?_
  refine e_aload_n 2 dL_law_608 rfl rfl ?_
  refine e_aload_n 0 dL_law_609 rfl rfl ?_
  refine e_iload_n 3 dL_law_610 rfl rfl ?_
  refine e_iconst (v := 1) dL_law_611 rfl ?_
  refine e_iadd dL_law_612 ?_
  refine e_sald_n (i + 1) dL_law_613 (nI_add i 1) (by omega) hL ?_
  refine e_aload_n 0 dL_law_614 rfl rfl ?_
  refine e_iload_n 3 dL_law_615 rfl rfl ?_
  refine e_iconst (v := 2) dL_law_616 rfl ?_
  refine e_iadd dL_law_617 ?_
  refine e_sald_n (i + 2) dL_law_618 (nI_add i 2) (by omega) hL ?_
  refine f_callVi (As := [_, _]) ok_X10_reach ⟨Nat.le_of_ble_eq_true rfl, Nat.le_of_ble_eq_true rfl⟩ dL_law_619 kl_L_67 ki_X10_reach kv_X10_reach rfl rfl rfl rfl (Nat.le_of_ble_eq_true rfl) (Nat.le_of_ble_eq_true rfl) (Nat.zero_add _) (Nat.zero_add _) (sp_X10_reach hM hI) ?_
  refine e_icmp_eq (tgt := 1249) dL_law_622 rfl (fun _ => ?_) (fun h622 => absurd rfl h622)
  exact kk S A Lg P T b hR hM hI
set_option maxRecDepth 4000 in
theorem lk_13 {G : sh_G} {S : Nat → Int32} {A : Nat → Nat → Int32} {Lg : Nat → Int64} {P : Nat → Option Nat} {T : List sh_C} {b : sh_be} {i K K' : Nat} {Q : Option Value → List sh_C → Prop} (hL : G.2.2.2.2.2.1 < 2 ^ 31) (hi : i + 6 ≤ G.2.2.2.2.2.1) (hR : RX S A Lg P T b) (hM : RM S A b) (hI : IV b) (kk : ∀ (S : Nat → Int32) (A : Nat → Nat → Int32) (Lg : Nat → Int64) (P : Nat → Option Nat) (T : List sh_C) (b : sh_be), RX S A Lg P T b → RM S A b → IV b → Ev G mL_law K K' (mkW G S A Lg P T) 1249 [some (.ref 0), some (.ref 1), some (.ref 24), some (.int (nI i))] [] Q) : Ev G mL_law (9 + K) (59 + K') (mkW G S A Lg P T) 627 [some (.ref 0), some (.ref 1), some (.ref 24), some (.int (nI i))] [] Q := by
  refine e_room (kc' := K) (ks' := K') ?_ (by omega) (by omega)
  refine e_aload_n 1 dL_law_627 rfl rfl ?_
  refine e_aload_n 0 dL_law_628 rfl rfl ?_
  refine e_iload_n 3 dL_law_629 rfl rfl ?_
  refine e_iconst (v := 1) dL_law_630 rfl ?_
  refine e_iadd dL_law_631 ?_
  refine e_sald_n (i + 1) dL_law_632 (nI_add i 1) (by omega) hL ?_
  refine e_aload_n 0 dL_law_633 rfl rfl ?_
  refine e_iload_n 3 dL_law_634 rfl rfl ?_
  refine e_iconst (v := 2) dL_law_635 rfl ?_
  refine e_iadd dL_law_636 ?_
  refine e_sald_n (i + 2) dL_law_637 (nI_add i 2) (by omega) hL ?_
  refine e_aload_n 0 dL_law_638 rfl rfl ?_
  refine e_iload_n 3 dL_law_639 rfl rfl ?_
  refine e_iconst (v := 3) dL_law_640 rfl ?_
  refine e_iadd dL_law_641 ?_
  refine e_sald_n (i + 3) dL_law_642 (nI_add i 3) (by omega) hL ?_
  refine f_callVi (As := [_, _, _]) ok_X9_strangers ⟨Nat.le_of_ble_eq_true rfl, Nat.le_of_ble_eq_true rfl⟩ dL_law_643 kl_L_68 ki_X9_strangers kv_X9_strangers rfl rfl rfl rfl (Nat.le_of_ble_eq_true rfl) (Nat.le_of_ble_eq_true rfl) (Nat.zero_add _) (Nat.zero_add _) (sp_X9_strangers hR hI) ?_
  refine e_aload_n 2 dL_law_646 rfl rfl ?_
  refine e_aload_n 0 dL_law_647 rfl rfl ?_
  refine e_iload_n 3 dL_law_648 rfl rfl ?_
  refine e_iconst (v := 1) dL_law_649 rfl ?_
  refine e_iadd dL_law_650 ?_
  refine e_sald_n (i + 1) dL_law_651 (nI_add i 1) (by omega) hL ?_
  refine e_aload_n 0 dL_law_652 rfl rfl ?_
  refine e_iload_n 3 dL_law_653 rfl rfl ?_
  refine e_iconst (v := 2) dL_law_654 rfl ?_
  refine e_iadd dL_law_655 ?_
  refine e_sald_n (i + 2) dL_law_656 (nI_add i 2) (by omega) hL ?_
  refine e_aload_n 0 dL_law_657 rfl rfl ?_
  refine e_iload_n 3 dL_law_658 rfl rfl ?_
  refine e_iconst (v := 3) dL_law_659 rfl ?_
  refine e_iadd dL_law_660 ?_
  refine e_sald_n (i + 3) dL_law_661 (nI_add i 3) (by omega) hL ?_
  refine f_callVi (As := [_, _, _]) ok_X10_strangers ⟨Nat.le_of_ble_eq_true rfl, Nat.le_of_ble_eq_true rfl⟩ dL_law_662 kl_L_71 ki_X10_strangers kv_X10_strangers rfl rfl rfl rfl (Nat.le_of_ble_eq_true rfl) (Nat.le_of_ble_eq_true rfl) (Nat.zero_add _) (Nat.zero_add _) (sp_X10_strangers hM hI) ?_
  refine e_icmp_eq (tgt := 1249) dL_law_665 rfl (fun _ => ?_) (fun h665 => absurd rfl h665)
  exact kk S A Lg P T b hR hM hI
set_option maxRecDepth 4000 in
theorem lk_14 {G : sh_G} {S : Nat → Int32} {A : Nat → Nat → Int32} {Lg : Nat → Int64} {P : Nat → Option Nat} {T : List sh_C} {b : sh_be} {i K K' : Nat} {Q : Option Value → List sh_C → Prop} (hL : G.2.2.2.2.2.1 < 2 ^ 31) (hi : i + 6 ≤ G.2.2.2.2.2.1) (hR : RX S A Lg P T b) (hM : RM S A b) (hI : IV b) (kk : ∀ (S : Nat → Int32) (A : Nat → Nat → Int32) (Lg : Nat → Int64) (P : Nat → Option Nat) (T : List sh_C) (b : sh_be), RX S A Lg P T b → RM S A b → IV b → Ev G mL_law K K' (mkW G S A Lg P T) 1249 [some (.ref 0), some (.ref 1), some (.ref 24), some (.int (nI i))] [] Q) : Ev G mL_law (9 + K) (59 + K') (mkW G S A Lg P T) 670 [some (.ref 0), some (.ref 1), some (.ref 24), some (.int (nI i))] [] Q := by
  refine e_room (kc' := 0 + K) (ks' := 0 + K') ?_ (by omega) (by omega)
  refine e_aload_n 1 dL_law_670 rfl rfl ?_
  refine e_aload_n 0 dL_law_671 rfl rfl ?_
  refine e_iload_n 3 dL_law_672 rfl rfl ?_
  refine e_iconst (v := 1) dL_law_673 rfl ?_
  refine e_iadd dL_law_674 ?_
  refine e_sald_n (i + 1) dL_law_675 (nI_add i 1) (by omega) hL ?_
  refine e_aload_n 0 dL_law_676 rfl rfl ?_
  refine e_iload_n 3 dL_law_677 rfl rfl ?_
  refine e_iconst (v := 2) dL_law_678 rfl ?_
  refine e_iadd dL_law_679 ?_
  refine e_sald_n (i + 2) dL_law_680 (nI_add i 2) (by omega) hL ?_
  refine e_aload_n 0 dL_law_681 rfl rfl ?_
  refine e_iload_n 3 dL_law_682 rfl rfl ?_
  refine e_iconst (v := 3) dL_law_683 rfl ?_
  refine e_iadd dL_law_684 ?_
  refine e_sald_n (i + 3) dL_law_685 (nI_add i 3) (by omega) hL ?_
  refine e_callV (mc := 0) (ms := 0) (kc2 := K) (ks2 := K') (As := [_, _, _]) ok_X9_laid ⟨Nat.le_of_ble_eq_true rfl, Nat.le_of_ble_eq_true rfl⟩ dL_law_686 kl_L_72 ki_X9_laid kv_X9_laid rfl rfl rfl rfl (Nat.le_of_ble_eq_true rfl) (Nat.le_of_ble_eq_true rfl) (sp_X9_laid hR hI) (fun v w' hw => ?_)
  obtain ⟨S1, A1, Lg1, P1, T1, rfl, rfl, hR1, hf1⟩ := hw
  refine e_aload_n 2 dL_law_689 rfl rfl ?_
  refine e_aload_n 0 dL_law_690 rfl rfl ?_
  refine e_iload_n 3 dL_law_691 rfl rfl ?_
  refine e_iconst (v := 1) dL_law_692 rfl ?_
  refine e_iadd dL_law_693 ?_
  refine e_sald_n (i + 1) dL_law_694 (nI_add i 1) (by omega) hL ?_
  refine e_aload_n 0 dL_law_695 rfl rfl ?_
  refine e_iload_n 3 dL_law_696 rfl rfl ?_
  refine e_iconst (v := 2) dL_law_697 rfl ?_
  refine e_iadd dL_law_698 ?_
  refine e_sald_n (i + 2) dL_law_699 (nI_add i 2) (by omega) hL ?_
  refine e_aload_n 0 dL_law_700 rfl rfl ?_
  refine e_iload_n 3 dL_law_701 rfl rfl ?_
  refine e_iconst (v := 3) dL_law_702 rfl ?_
  refine e_iadd dL_law_703 ?_
  refine e_sald_n (i + 3) dL_law_704 (nI_add i 3) (by omega) hL ?_
  refine e_room (kc' := 0 + K) (ks' := 0 + K') ?_ (by omega) (by omega)
  refine e_callV (mc := 0) (ms := 0) (kc2 := K) (ks2 := K') (As := [_, _, _]) ok_X10_laid ⟨Nat.le_of_ble_eq_true rfl, Nat.le_of_ble_eq_true rfl⟩ dL_law_705 kl_L_75 ki_X10_laid kv_X10_laid rfl rfl rfl rfl (Nat.le_of_ble_eq_true rfl) (Nat.le_of_ble_eq_true rfl) (sp_X10_laid (hM.fr hf1) hI) (fun v w' hw => ?_)
  obtain ⟨S2, A2, rfl, rfl, hM2, hf2⟩ := hw
  refine e_icmp_eq (tgt := 1249) dL_law_708 rfl (fun _ => ?_) (fun h708 => absurd rfl h708)
  exact kk _ _ _ _ _ _ (hR1.fr hf2) hM2 (hI)
set_option maxRecDepth 4000 in
theorem lk_15 {G : sh_G} {S : Nat → Int32} {A : Nat → Nat → Int32} {Lg : Nat → Int64} {P : Nat → Option Nat} {T : List sh_C} {b : sh_be} {i K K' : Nat} {Q : Option Value → List sh_C → Prop} (hL : G.2.2.2.2.2.1 < 2 ^ 31) (hi : i + 6 ≤ G.2.2.2.2.2.1) (hR : RX S A Lg P T b) (hM : RM S A b) (hI : IV b) (kk : ∀ (S : Nat → Int32) (A : Nat → Nat → Int32) (Lg : Nat → Int64) (P : Nat → Option Nat) (T : List sh_C) (b : sh_be), RX S A Lg P T b → RM S A b → IV b → Ev G mL_law K K' (mkW G S A Lg P T) 1249 [some (.ref 0), some (.ref 1), some (.ref 24), some (.int (nI i))] [] Q) : Ev G mL_law (9 + K) (59 + K') (mkW G S A Lg P T) 713 [some (.ref 0), some (.ref 1), some (.ref 24), some (.int (nI i))] [] Q := by
  refine e_room (kc' := K) (ks' := K') ?_ (by omega) (by omega)
  refine e_aload_n 1 dL_law_713 rfl rfl ?_
  refine e_aload_n 0 dL_law_714 rfl rfl ?_
  refine e_iload_n 3 dL_law_715 rfl rfl ?_
  refine e_iconst (v := 1) dL_law_716 rfl ?_
  refine e_iadd dL_law_717 ?_
  refine e_sald_n (i + 1) dL_law_718 (nI_add i 1) (by omega) hL ?_
  refine e_aload_n 0 dL_law_719 rfl rfl ?_
  refine e_iload_n 3 dL_law_720 rfl rfl ?_
  refine e_iconst (v := 2) dL_law_721 rfl ?_
  refine e_iadd dL_law_722 ?_
  refine e_sald_n (i + 2) dL_law_723 (nI_add i 2) (by omega) hL ?_
  refine f_callVi (As := [_, _]) ok_X9_guest ⟨Nat.le_of_ble_eq_true rfl, Nat.le_of_ble_eq_true rfl⟩ dL_law_724 kl_L_76 ki_X9_guest kv_X9_guest rfl rfl rfl rfl (Nat.le_of_ble_eq_true rfl) (Nat.le_of_ble_eq_true rfl) (Nat.zero_add _) (Nat.zero_add _) (sp_X9_guest hR hI) ?_
  refine e_aload_n 2 dL_law_727 rfl rfl ?_
  refine e_aload_n 0 dL_law_728 rfl rfl ?_
  refine e_iload_n 3 dL_law_729 rfl rfl ?_
  refine e_iconst (v := 1) dL_law_730 rfl ?_
  refine e_iadd dL_law_731 ?_
  refine e_sald_n (i + 1) dL_law_732 (nI_add i 1) (by omega) hL ?_
  refine e_aload_n 0 dL_law_733 rfl rfl ?_
  refine e_iload_n 3 dL_law_734 rfl rfl ?_
  refine e_iconst (v := 2) dL_law_735 rfl ?_
  refine e_iadd dL_law_736 ?_
  refine e_sald_n (i + 2) dL_law_737 (nI_add i 2) (by omega) hL ?_
  refine f_callVi (As := [_, _]) ok_X10_guest ⟨Nat.le_of_ble_eq_true rfl, Nat.le_of_ble_eq_true rfl⟩ dL_law_738 kl_L_79 ki_X10_guest kv_X10_guest rfl rfl rfl rfl (Nat.le_of_ble_eq_true rfl) (Nat.le_of_ble_eq_true rfl) (Nat.zero_add _) (Nat.zero_add _) (sp_X10_guest hM hI) ?_
  refine e_icmp_eq (tgt := 1249) dL_law_741 rfl (fun _ => ?_) (fun h741 => absurd rfl h741)
  exact kk S A Lg P T b hR hM hI
set_option maxRecDepth 4000 in
theorem lk_16 {G : sh_G} {S : Nat → Int32} {A : Nat → Nat → Int32} {Lg : Nat → Int64} {P : Nat → Option Nat} {T : List sh_C} {b : sh_be} {i K K' : Nat} {Q : Option Value → List sh_C → Prop} (hL : G.2.2.2.2.2.1 < 2 ^ 31) (hi : i + 6 ≤ G.2.2.2.2.2.1) (hR : RX S A Lg P T b) (hM : RM S A b) (hI : IV b) (kk : ∀ (S : Nat → Int32) (A : Nat → Nat → Int32) (Lg : Nat → Int64) (P : Nat → Option Nat) (T : List sh_C) (b : sh_be), RX S A Lg P T b → RM S A b → IV b → Ev G mL_law K K' (mkW G S A Lg P T) 1249 [some (.ref 0), some (.ref 1), some (.ref 24), some (.int (nI i))] [] Q) : Ev G mL_law (9 + K) (59 + K') (mkW G S A Lg P T) 746 [some (.ref 0), some (.ref 1), some (.ref 24), some (.int (nI i))] [] Q := by
  refine e_room (kc' := 0 + K) (ks' := 0 + K') ?_ (by omega) (by omega)
  refine e_aload_n 1 dL_law_746 rfl rfl ?_
  refine e_aload_n 0 dL_law_747 rfl rfl ?_
  refine e_iload_n 3 dL_law_748 rfl rfl ?_
  refine e_iconst (v := 1) dL_law_749 rfl ?_
  refine e_iadd dL_law_750 ?_
  refine e_sald_n (i + 1) dL_law_751 (nI_add i 1) (by omega) hL ?_
  refine e_aload_n 0 dL_law_752 rfl rfl ?_
  refine e_iload_n 3 dL_law_753 rfl rfl ?_
  refine e_iconst (v := 2) dL_law_754 rfl ?_
  refine e_iadd dL_law_755 ?_
  refine e_sald_n (i + 2) dL_law_756 (nI_add i 2) (by omega) hL ?_
  refine e_aload_n 0 dL_law_757 rfl rfl ?_
  refine e_iload_n 3 dL_law_758 rfl rfl ?_
  refine e_iconst (v := 3) dL_law_759 rfl ?_
  refine e_iadd dL_law_760 ?_
  refine e_sald_n (i + 3) dL_law_761 (nI_add i 3) (by omega) hL ?_
  refine e_aload_n 0 dL_law_762 rfl rfl ?_
  refine e_iload_n 3 dL_law_763 rfl rfl ?_
  refine e_iconst (v := 4) dL_law_764 rfl ?_
  refine e_iadd dL_law_765 ?_
  refine e_sald_n (i + 4) dL_law_766 (nI_add i 4) (by omega) hL ?_
  refine e_callV (mc := 0) (ms := 0) (kc2 := K) (ks2 := K') (As := [_, _, _, _]) ok_X9_heard ⟨Nat.le_of_ble_eq_true rfl, Nat.le_of_ble_eq_true rfl⟩ dL_law_767 kl_L_80 ki_X9_heard kv_X9_heard rfl rfl rfl rfl (Nat.le_of_ble_eq_true rfl) (Nat.le_of_ble_eq_true rfl) (sp_X9_heard hR hI) (fun v w' hw => ?_)
  obtain ⟨S1, A1, Lg1, P1, T1, rfl, rfl, hR1, hf1⟩ := hw
  refine e_aload_n 2 dL_law_770 rfl rfl ?_
  refine e_aload_n 0 dL_law_771 rfl rfl ?_
  refine e_iload_n 3 dL_law_772 rfl rfl ?_
  refine e_iconst (v := 1) dL_law_773 rfl ?_
  refine e_iadd dL_law_774 ?_
  refine e_sald_n (i + 1) dL_law_775 (nI_add i 1) (by omega) hL ?_
  refine e_aload_n 0 dL_law_776 rfl rfl ?_
  refine e_iload_n 3 dL_law_777 rfl rfl ?_
  refine e_iconst (v := 2) dL_law_778 rfl ?_
  refine e_iadd dL_law_779 ?_
  refine e_sald_n (i + 2) dL_law_780 (nI_add i 2) (by omega) hL ?_
  refine e_aload_n 0 dL_law_781 rfl rfl ?_
  refine e_iload_n 3 dL_law_782 rfl rfl ?_
  refine e_iconst (v := 3) dL_law_783 rfl ?_
  refine e_iadd dL_law_784 ?_
  refine e_sald_n (i + 3) dL_law_785 (nI_add i 3) (by omega) hL ?_
  refine e_aload_n 0 dL_law_786 rfl rfl ?_
  refine e_iload_n 3 dL_law_787 rfl rfl ?_
  refine e_iconst (v := 4) dL_law_788 rfl ?_
  refine e_iadd dL_law_789 ?_
  refine e_sald_n (i + 4) dL_law_790 (nI_add i 4) (by omega) hL ?_
  refine e_room (kc' := 0 + K) (ks' := 0 + K') ?_ (by omega) (by omega)
  refine e_callV (mc := 0) (ms := 0) (kc2 := K) (ks2 := K') (As := [_, _, _, _]) ok_X10_heard ⟨Nat.le_of_ble_eq_true rfl, Nat.le_of_ble_eq_true rfl⟩ dL_law_791 kl_L_83 ki_X10_heard kv_X10_heard rfl rfl rfl rfl (Nat.le_of_ble_eq_true rfl) (Nat.le_of_ble_eq_true rfl) (sp_X10_heard (hM.fr hf1) hI) (fun v w' hw => ?_)
  obtain ⟨S2, A2, rfl, rfl, hM2, hf2⟩ := hw
  refine e_icmp_eq (tgt := 1249) dL_law_794 rfl (fun _ => ?_) (fun h794 => absurd rfl h794)
  exact kk _ _ _ _ _ _ (hR1.fr hf2) hM2 (IV_heard hI)
set_option maxRecDepth 4000 in
theorem lk_17 {G : sh_G} {S : Nat → Int32} {A : Nat → Nat → Int32} {Lg : Nat → Int64} {P : Nat → Option Nat} {T : List sh_C} {b : sh_be} {i K K' : Nat} {Q : Option Value → List sh_C → Prop} (hL : G.2.2.2.2.2.1 < 2 ^ 31) (hi : i + 6 ≤ G.2.2.2.2.2.1) (hR : RX S A Lg P T b) (hM : RM S A b) (hI : IV b) (kk : ∀ (S : Nat → Int32) (A : Nat → Nat → Int32) (Lg : Nat → Int64) (P : Nat → Option Nat) (T : List sh_C) (b : sh_be), RX S A Lg P T b → RM S A b → IV b → Ev G mL_law K K' (mkW G S A Lg P T) 1249 [some (.ref 0), some (.ref 1), some (.ref 24), some (.int (nI i))] [] Q) : Ev G mL_law (9 + K) (59 + K') (mkW G S A Lg P T) 799 [some (.ref 0), some (.ref 1), some (.ref 24), some (.int (nI i))] [] Q := by
  refine e_room (kc' := 0 + K) (ks' := 0 + K') ?_ (by omega) (by omega)
  refine e_aload_n 1 dL_law_799 rfl rfl ?_
  refine e_aload_n 0 dL_law_800 rfl rfl ?_
  refine e_iload_n 3 dL_law_801 rfl rfl ?_
  refine e_iconst (v := 1) dL_law_802 rfl ?_
  refine e_iadd dL_law_803 ?_
  refine e_sald_n (i + 1) dL_law_804 (nI_add i 1) (by omega) hL ?_
  refine e_aload_n 0 dL_law_805 rfl rfl ?_
  refine e_iload_n 3 dL_law_806 rfl rfl ?_
  refine e_iconst (v := 2) dL_law_807 rfl ?_
  refine e_iadd dL_law_808 ?_
  refine e_sald_n (i + 2) dL_law_809 (nI_add i 2) (by omega) hL ?_
  refine e_aload_n 0 dL_law_810 rfl rfl ?_
  refine e_iload_n 3 dL_law_811 rfl rfl ?_
  refine e_iconst (v := 3) dL_law_812 rfl ?_
  refine e_iadd dL_law_813 ?_
  refine e_sald_n (i + 3) dL_law_814 (nI_add i 3) (by omega) hL ?_
  refine e_aload_n 0 dL_law_815 rfl rfl ?_
  refine e_iload_n 3 dL_law_816 rfl rfl ?_
  refine e_iconst (v := 4) dL_law_817 rfl ?_
  refine e_iadd dL_law_818 ?_
  refine e_sald_n (i + 4) dL_law_819 (nI_add i 4) (by omega) hL ?_
  refine e_aload_n 0 dL_law_820 rfl rfl ?_
  refine e_iload_n 3 dL_law_821 rfl rfl ?_
  refine e_iconst (v := 5) dL_law_822 rfl ?_
  refine e_iadd dL_law_823 ?_
  refine e_sald_n (i + 5) dL_law_824 (nI_add i 5) (by omega) hL ?_
  refine e_callV (mc := 0) (ms := 0) (kc2 := K) (ks2 := K') (As := [_, _, _, _, _]) ok_X9_byStrangers ⟨Nat.le_of_ble_eq_true rfl, Nat.le_of_ble_eq_true rfl⟩ dL_law_825 kl_L_84 ki_X9_byStrangers kv_X9_byStrangers rfl rfl rfl rfl (Nat.le_of_ble_eq_true rfl) (Nat.le_of_ble_eq_true rfl) (sp_X9_byStrangers hR hI) (fun v w' hw => ?_)
  obtain ⟨S1, A1, Lg1, P1, T1, rfl, rfl, hR1, hf1⟩ := hw
  refine e_aload_n 2 dL_law_828 rfl rfl ?_
  refine e_aload_n 0 dL_law_829 rfl rfl ?_
  refine e_iload_n 3 dL_law_830 rfl rfl ?_
  refine e_iconst (v := 1) dL_law_831 rfl ?_
  refine e_iadd dL_law_832 ?_
  refine e_sald_n (i + 1) dL_law_833 (nI_add i 1) (by omega) hL ?_
  refine e_aload_n 0 dL_law_834 rfl rfl ?_
  refine e_iload_n 3 dL_law_835 rfl rfl ?_
  refine e_iconst (v := 2) dL_law_836 rfl ?_
  refine e_iadd dL_law_837 ?_
  refine e_sald_n (i + 2) dL_law_838 (nI_add i 2) (by omega) hL ?_
  refine e_aload_n 0 dL_law_839 rfl rfl ?_
  refine e_iload_n 3 dL_law_840 rfl rfl ?_
  refine e_iconst (v := 3) dL_law_841 rfl ?_
  refine e_iadd dL_law_842 ?_
  refine e_sald_n (i + 3) dL_law_843 (nI_add i 3) (by omega) hL ?_
  refine e_aload_n 0 dL_law_844 rfl rfl ?_
  refine e_iload_n 3 dL_law_845 rfl rfl ?_
  refine e_iconst (v := 4) dL_law_846 rfl ?_
  refine e_iadd dL_law_847 ?_
  refine e_sald_n (i + 4) dL_law_848 (nI_add i 4) (by omega) hL ?_
  refine e_aload_n 0 dL_law_849 rfl rfl ?_
  refine e_iload_n 3 dL_law_850 rfl rfl ?_
  refine e_iconst (v := 5) dL_law_851 rfl ?_
  refine e_iadd dL_law_852 ?_
  refine e_sald_n (i + 5) dL_law_853 (nI_add i 5) (by omega) hL ?_
  refine e_room (kc' := 0 + K) (ks' := 0 + K') ?_ (by omega) (by omega)
  refine e_callV (mc := 0) (ms := 0) (kc2 := K) (ks2 := K') (As := [_, _, _, _, _]) ok_X10_byStrangers ⟨Nat.le_of_ble_eq_true rfl, Nat.le_of_ble_eq_true rfl⟩ dL_law_854 kl_L_88 ki_X10_byStrangers kv_X10_byStrangers rfl rfl rfl rfl (Nat.le_of_ble_eq_true rfl) (Nat.le_of_ble_eq_true rfl) (sp_X10_byStrangers (hM.fr hf1) hI) (fun v w' hw => ?_)
  obtain ⟨S2, A2, rfl, rfl, hM2, hf2⟩ := hw
  refine e_icmp_eq (tgt := 1249) dL_law_857 rfl (fun _ => ?_) (fun h857 => absurd rfl h857)
  exact kk _ _ _ _ _ _ (hR1.fr hf2) hM2 (IV_by hI)
set_option maxRecDepth 4000 in
theorem lk_18 {G : sh_G} {S : Nat → Int32} {A : Nat → Nat → Int32} {Lg : Nat → Int64} {P : Nat → Option Nat} {T : List sh_C} {b : sh_be} {i K K' : Nat} {Q : Option Value → List sh_C → Prop} (hL : G.2.2.2.2.2.1 < 2 ^ 31) (hi : i + 6 ≤ G.2.2.2.2.2.1) (hR : RX S A Lg P T b) (hM : RM S A b) (hI : IV b) (kk : ∀ (S : Nat → Int32) (A : Nat → Nat → Int32) (Lg : Nat → Int64) (P : Nat → Option Nat) (T : List sh_C) (b : sh_be), RX S A Lg P T b → RM S A b → IV b → Ev G mL_law K K' (mkW G S A Lg P T) 1249 [some (.ref 0), some (.ref 1), some (.ref 24), some (.int (nI i))] [] Q) : Ev G mL_law (9 + K) (59 + K') (mkW G S A Lg P T) 862 [some (.ref 0), some (.ref 1), some (.ref 24), some (.int (nI i))] [] Q := by
  refine e_room (kc' := K) (ks' := K') ?_ (by omega) (by omega)
  refine e_aload_n 1 dL_law_862 rfl rfl ?_
  refine e_aload_n 0 dL_law_863 rfl rfl ?_
  refine e_iload_n 3 dL_law_864 rfl rfl ?_
  refine e_iconst (v := 1) dL_law_865 rfl ?_
  refine e_iadd dL_law_866 ?_
  refine e_sald_n (i + 1) dL_law_867 (nI_add i 1) (by omega) hL ?_
  refine e_aload_n 0 dL_law_868 rfl rfl ?_
  refine e_iload_n 3 dL_law_869 rfl rfl ?_
  refine e_iconst (v := 2) dL_law_870 rfl ?_
  refine e_iadd dL_law_871 ?_
  refine e_sald_n (i + 2) dL_law_872 (nI_add i 2) (by omega) hL ?_
  refine e_aload_n 0 dL_law_873 rfl rfl ?_
  refine e_iload_n 3 dL_law_874 rfl rfl ?_
  refine e_iconst (v := 3) dL_law_875 rfl ?_
  refine e_iadd dL_law_876 ?_
  refine e_sald_n (i + 3) dL_law_877 (nI_add i 3) (by omega) hL ?_
  refine f_callVi (As := [_, _, _]) ok_X9_grows ⟨Nat.le_of_ble_eq_true rfl, Nat.le_of_ble_eq_true rfl⟩ dL_law_878 kl_L_89 ki_X9_grows kv_X9_grows rfl rfl rfl rfl (Nat.le_of_ble_eq_true rfl) (Nat.le_of_ble_eq_true rfl) (Nat.zero_add _) (Nat.zero_add _) (sp_X9_grows hR hI) ?_
  refine e_aload_n 2 dL_law_881 rfl rfl ?_
  refine e_aload_n 0 dL_law_882 rfl rfl ?_
  refine e_iload_n 3 dL_law_883 rfl rfl ?_
  refine e_iconst (v := 1) dL_law_884 rfl ?_
  refine e_iadd dL_law_885 ?_
  refine e_sald_n (i + 1) dL_law_886 (nI_add i 1) (by omega) hL ?_
  refine e_aload_n 0 dL_law_887 rfl rfl ?_
  refine e_iload_n 3 dL_law_888 rfl rfl ?_
  refine e_iconst (v := 2) dL_law_889 rfl ?_
  refine e_iadd dL_law_890 ?_
  refine e_sald_n (i + 2) dL_law_891 (nI_add i 2) (by omega) hL ?_
  refine e_aload_n 0 dL_law_892 rfl rfl ?_
  refine e_iload_n 3 dL_law_893 rfl rfl ?_
  refine e_iconst (v := 3) dL_law_894 rfl ?_
  refine e_iadd dL_law_895 ?_
  refine e_sald_n (i + 3) dL_law_896 (nI_add i 3) (by omega) hL ?_
  refine f_callVi (As := [_, _, _]) ok_X10_grows ⟨Nat.le_of_ble_eq_true rfl, Nat.le_of_ble_eq_true rfl⟩ dL_law_897 kl_L_92 ki_X10_grows kv_X10_grows rfl rfl rfl rfl (Nat.le_of_ble_eq_true rfl) (Nat.le_of_ble_eq_true rfl) (Nat.zero_add _) (Nat.zero_add _) (sp_X10_grows hM hI) ?_
  refine e_icmp_eq (tgt := 1249) dL_law_900 rfl (fun _ => ?_) (fun h900 => absurd rfl h900)
  exact kk S A Lg P T b hR hM hI
set_option maxRecDepth 4000 in
theorem lk_19 {G : sh_G} {S : Nat → Int32} {A : Nat → Nat → Int32} {Lg : Nat → Int64} {P : Nat → Option Nat} {T : List sh_C} {b : sh_be} {i K K' : Nat} {Q : Option Value → List sh_C → Prop} (hL : G.2.2.2.2.2.1 < 2 ^ 31) (hi : i + 6 ≤ G.2.2.2.2.2.1) (hR : RX S A Lg P T b) (hM : RM S A b) (hI : IV b) (kk : ∀ (S : Nat → Int32) (A : Nat → Nat → Int32) (Lg : Nat → Int64) (P : Nat → Option Nat) (T : List sh_C) (b : sh_be), RX S A Lg P T b → RM S A b → IV b → Ev G mL_law K K' (mkW G S A Lg P T) 1249 [some (.ref 0), some (.ref 1), some (.ref 24), some (.int (nI i))] [] Q) : Ev G mL_law (9 + K) (59 + K') (mkW G S A Lg P T) 905 [some (.ref 0), some (.ref 1), some (.ref 24), some (.int (nI i))] [] Q := by
  refine e_room (kc' := 0 + K) (ks' := 0 + K') ?_ (by omega) (by omega)
  refine e_aload_n 1 dL_law_905 rfl rfl ?_
  refine e_aload_n 0 dL_law_906 rfl rfl ?_
  refine e_iload_n 3 dL_law_907 rfl rfl ?_
  refine e_iconst (v := 1) dL_law_908 rfl ?_
  refine e_iadd dL_law_909 ?_
  refine e_sald_n (i + 1) dL_law_910 (nI_add i 1) (by omega) hL ?_
  refine e_aload_n 0 dL_law_911 rfl rfl ?_
  refine e_iload_n 3 dL_law_912 rfl rfl ?_
  refine e_iconst (v := 2) dL_law_913 rfl ?_
  refine e_iadd dL_law_914 ?_
  refine e_sald_n (i + 2) dL_law_915 (nI_add i 2) (by omega) hL ?_
  refine e_aload_n 0 dL_law_916 rfl rfl ?_
  refine e_iload_n 3 dL_law_917 rfl rfl ?_
  refine e_iconst (v := 3) dL_law_918 rfl ?_
  refine e_iadd dL_law_919 ?_
  refine e_sald_n (i + 3) dL_law_920 (nI_add i 3) (by omega) hL ?_
  refine e_callV (mc := 0) (ms := 0) (kc2 := K) (ks2 := K') (As := [_, _, _]) ok_X9_sheet ⟨Nat.le_of_ble_eq_true rfl, Nat.le_of_ble_eq_true rfl⟩ dL_law_921 kl_L_93 ki_X9_sheet kv_X9_sheet rfl rfl rfl rfl (Nat.le_of_ble_eq_true rfl) (Nat.le_of_ble_eq_true rfl) (sp_X9_sheet hR) (fun v w' hw => ?_)
  obtain ⟨S1, A1, Lg1, P1, T1, rfl, rfl, hR1, hf1⟩ := hw
  refine e_aload_n 2 dL_law_924 rfl rfl ?_
  refine e_aload_n 0 dL_law_925 rfl rfl ?_
  refine e_iload_n 3 dL_law_926 rfl rfl ?_
  refine e_iconst (v := 1) dL_law_927 rfl ?_
  refine e_iadd dL_law_928 ?_
  refine e_sald_n (i + 1) dL_law_929 (nI_add i 1) (by omega) hL ?_
  refine e_aload_n 0 dL_law_930 rfl rfl ?_
  refine e_iload_n 3 dL_law_931 rfl rfl ?_
  refine e_iconst (v := 2) dL_law_932 rfl ?_
  refine e_iadd dL_law_933 ?_
  refine e_sald_n (i + 2) dL_law_934 (nI_add i 2) (by omega) hL ?_
  refine e_aload_n 0 dL_law_935 rfl rfl ?_
  refine e_iload_n 3 dL_law_936 rfl rfl ?_
  refine e_iconst (v := 3) dL_law_937 rfl ?_
  refine e_iadd dL_law_938 ?_
  refine e_sald_n (i + 3) dL_law_939 (nI_add i 3) (by omega) hL ?_
  refine e_room (kc' := 0 + K) (ks' := 0 + K') ?_ (by omega) (by omega)
  refine e_callV (mc := 0) (ms := 0) (kc2 := K) (ks2 := K') (As := [_, _, _]) ok_X10_sheet ⟨Nat.le_of_ble_eq_true rfl, Nat.le_of_ble_eq_true rfl⟩ dL_law_940 kl_L_96 ki_X10_sheet kv_X10_sheet rfl rfl rfl rfl (Nat.le_of_ble_eq_true rfl) (Nat.le_of_ble_eq_true rfl) (sp_X10_sheet (hM.fr hf1) hI) (fun v w' hw => ?_)
  obtain ⟨S2, A2, rfl, rfl, hM2, hf2⟩ := hw
  refine e_icmp_eq (tgt := 1249) dL_law_943 rfl (fun _ => ?_) (fun h943 => absurd rfl h943)
  exact kk _ _ _ _ _ _ (hR1.fr hf2) hM2 (IV_sheet hI)
set_option maxRecDepth 4000 in
theorem lk_20 {G : sh_G} {S : Nat → Int32} {A : Nat → Nat → Int32} {Lg : Nat → Int64} {P : Nat → Option Nat} {T : List sh_C} {b : sh_be} {i K K' : Nat} {Q : Option Value → List sh_C → Prop} (hL : G.2.2.2.2.2.1 < 2 ^ 31) (hi : i + 6 ≤ G.2.2.2.2.2.1) (hR : RX S A Lg P T b) (hM : RM S A b) (hI : IV b) (kk : ∀ (S : Nat → Int32) (A : Nat → Nat → Int32) (Lg : Nat → Int64) (P : Nat → Option Nat) (T : List sh_C) (b : sh_be), RX S A Lg P T b → RM S A b → IV b → Ev G mL_law K K' (mkW G S A Lg P T) 1249 [some (.ref 0), some (.ref 1), some (.ref 24), some (.int (nI i))] [] Q) : Ev G mL_law (9 + K) (59 + K') (mkW G S A Lg P T) 948 [some (.ref 0), some (.ref 1), some (.ref 24), some (.int (nI i))] [] Q := by
  refine e_room (kc' := 0 + K) (ks' := 0 + K') ?_ (by omega) (by omega)
  refine e_aload_n 1 dL_law_948 rfl rfl ?_
  refine e_aload_n 0 dL_law_949 rfl rfl ?_
  refine e_iload_n 3 dL_law_950 rfl rfl ?_
  refine e_iconst (v := 1) dL_law_951 rfl ?_
  refine e_iadd dL_law_952 ?_
  refine e_sald_n (i + 1) dL_law_953 (nI_add i 1) (by omega) hL ?_
  refine e_callV (mc := 0) (ms := 0) (kc2 := K) (ks2 := K') (As := [_]) ok_X9_lose ⟨Nat.le_of_ble_eq_true rfl, Nat.le_of_ble_eq_true rfl⟩ dL_law_954 kl_L_97 ki_X9_lose kv_X9_lose rfl rfl rfl rfl (Nat.le_of_ble_eq_true rfl) (Nat.le_of_ble_eq_true rfl) (sp_X9_lose hR hI) (fun v w' hw => ?_)
  obtain ⟨S1, A1, Lg1, P1, T1, rfl, rfl, hR1, hf1⟩ := hw
  refine e_aload_n 2 dL_law_957 rfl rfl ?_
  refine e_aload_n 0 dL_law_958 rfl rfl ?_
  refine e_iload_n 3 dL_law_959 rfl rfl ?_
  refine e_iconst (v := 1) dL_law_960 rfl ?_
  refine e_iadd dL_law_961 ?_
  refine e_sald_n (i + 1) dL_law_962 (nI_add i 1) (by omega) hL ?_
  refine e_room (kc' := 0 + K) (ks' := 0 + K') ?_ (by omega) (by omega)
  refine e_callV (mc := 0) (ms := 0) (kc2 := K) (ks2 := K') (As := [_]) ok_X10_lose ⟨Nat.le_of_ble_eq_true rfl, Nat.le_of_ble_eq_true rfl⟩ dL_law_963 kl_L_101 ki_X10_lose kv_X10_lose rfl rfl rfl rfl (Nat.le_of_ble_eq_true rfl) (Nat.le_of_ble_eq_true rfl) (sp_X10_lose (hM.fr hf1) hI) (fun v w' hw => ?_)
  obtain ⟨S2, A2, rfl, rfl, hM2, hf2⟩ := hw
  refine e_icmp_eq (tgt := 1249) dL_law_966 rfl (fun _ => ?_) (fun h966 => absurd rfl h966)
  exact kk _ _ _ _ _ _ (hR1.fr hf2) hM2 (IV_lose hI)
set_option maxRecDepth 4000 in
theorem lk_21 {G : sh_G} {S : Nat → Int32} {A : Nat → Nat → Int32} {Lg : Nat → Int64} {P : Nat → Option Nat} {T : List sh_C} {b : sh_be} {i K K' : Nat} {Q : Option Value → List sh_C → Prop} (hL : G.2.2.2.2.2.1 < 2 ^ 31) (hi : i + 6 ≤ G.2.2.2.2.2.1) (hR : RX S A Lg P T b) (hM : RM S A b) (hI : IV b) (kk : ∀ (S : Nat → Int32) (A : Nat → Nat → Int32) (Lg : Nat → Int64) (P : Nat → Option Nat) (T : List sh_C) (b : sh_be), RX S A Lg P T b → RM S A b → IV b → Ev G mL_law K K' (mkW G S A Lg P T) 1249 [some (.ref 0), some (.ref 1), some (.ref 24), some (.int (nI i))] [] Q) : Ev G mL_law (9 + K) (59 + K') (mkW G S A Lg P T) 971 [some (.ref 0), some (.ref 1), some (.ref 24), some (.int (nI i))] [] Q := by
  refine e_room (kc' := 0 + K) (ks' := 0 + K') ?_ (by omega) (by omega)
  refine e_aload_n 1 dL_law_971 rfl rfl ?_
  refine e_aload_n 0 dL_law_972 rfl rfl ?_
  refine e_iload_n 3 dL_law_973 rfl rfl ?_
  refine e_iconst (v := 1) dL_law_974 rfl ?_
  refine e_iadd dL_law_975 ?_
  refine e_sald_n (i + 1) dL_law_976 (nI_add i 1) (by omega) hL ?_
  refine e_aload_n 0 dL_law_977 rfl rfl ?_
  refine e_iload_n 3 dL_law_978 rfl rfl ?_
  refine e_iconst (v := 2) dL_law_979 rfl ?_
  refine e_iadd dL_law_980 ?_
  refine e_sald_n (i + 2) dL_law_981 (nI_add i 2) (by omega) hL ?_
  refine e_aload_n 0 dL_law_982 rfl rfl ?_
  refine e_iload_n 3 dL_law_983 rfl rfl ?_
  refine e_iconst (v := 3) dL_law_984 rfl ?_
  refine e_iadd dL_law_985 ?_
  refine e_sald_n (i + 3) dL_law_986 (nI_add i 3) (by omega) hL ?_
  refine e_callV (mc := 0) (ms := 0) (kc2 := K) (ks2 := K') (As := [_, _, _]) ok_X9_put ⟨Nat.le_of_ble_eq_true rfl, Nat.le_of_ble_eq_true rfl⟩ dL_law_987 kl_L_102 ki_X9_put kv_X9_put rfl rfl rfl rfl (Nat.le_of_ble_eq_true rfl) (Nat.le_of_ble_eq_true rfl) (sp_X9_put hR hI) (fun v w' hw => ?_)
  obtain ⟨S1, A1, Lg1, P1, T1, rfl, rfl, hR1, hf1⟩ := hw
  refine e_aload_n 2 dL_law_990 rfl rfl ?_
  refine e_aload_n 0 dL_law_991 rfl rfl ?_
  refine e_iload_n 3 dL_law_992 rfl rfl ?_
  refine e_iconst (v := 1) dL_law_993 rfl ?_
  refine e_iadd dL_law_994 ?_
  refine e_sald_n (i + 1) dL_law_995 (nI_add i 1) (by omega) hL ?_
  refine e_aload_n 0 dL_law_996 rfl rfl ?_
  refine e_iload_n 3 dL_law_997 rfl rfl ?_
  refine e_iconst (v := 2) dL_law_998 rfl ?_
  refine e_iadd dL_law_999 ?_
  refine e_sald_n (i + 2) dL_law_1000 (nI_add i 2) (by omega) hL ?_
  refine e_aload_n 0 dL_law_1001 rfl rfl ?_
  refine e_iload_n 3 dL_law_1002 rfl rfl ?_
  refine e_iconst (v := 3) dL_law_1003 rfl ?_
  refine e_iadd dL_law_1004 ?_
  refine e_sald_n (i + 3) dL_law_1005 (nI_add i 3) (by omega) hL ?_
  refine e_room (kc' := 0 + K) (ks' := 0 + K') ?_ (by omega) (by omega)
  refine e_callV (mc := 0) (ms := 0) (kc2 := K) (ks2 := K') (As := [_, _, _]) ok_X10_put ⟨Nat.le_of_ble_eq_true rfl, Nat.le_of_ble_eq_true rfl⟩ dL_law_1006 kl_L_105 ki_X10_put kv_X10_put rfl rfl rfl rfl (Nat.le_of_ble_eq_true rfl) (Nat.le_of_ble_eq_true rfl) (sp_X10_put (hM.fr hf1) hI) (fun v w' hw => ?_)
  obtain ⟨S2, A2, rfl, rfl, hM2, hf2⟩ := hw
  refine e_icmp_eq (tgt := 1249) dL_law_1009 rfl (fun _ => ?_) (fun h1009 => absurd rfl h1009)
  exact kk _ _ _ _ _ _ (hR1.fr hf2) hM2 (IV_put hI)
set_option maxRecDepth 4000 in
theorem lk_22 {G : sh_G} {S : Nat → Int32} {A : Nat → Nat → Int32} {Lg : Nat → Int64} {P : Nat → Option Nat} {T : List sh_C} {b : sh_be} {i K K' : Nat} {Q : Option Value → List sh_C → Prop} (hL : G.2.2.2.2.2.1 < 2 ^ 31) (hi : i + 6 ≤ G.2.2.2.2.2.1) (hR : RX S A Lg P T b) (hM : RM S A b) (hI : IV b) (kk : ∀ (S : Nat → Int32) (A : Nat → Nat → Int32) (Lg : Nat → Int64) (P : Nat → Option Nat) (T : List sh_C) (b : sh_be), RX S A Lg P T b → RM S A b → IV b → Ev G mL_law K K' (mkW G S A Lg P T) 1249 [some (.ref 0), some (.ref 1), some (.ref 24), some (.int (nI i))] [] Q) : Ev G mL_law (9 + K) (59 + K') (mkW G S A Lg P T) 1014 [some (.ref 0), some (.ref 1), some (.ref 24), some (.int (nI i))] [] Q := by
  refine e_room (kc' := 0 + K) (ks' := 0 + K') ?_ (by omega) (by omega)
  refine e_aload_n 1 dL_law_1014 rfl rfl ?_
  refine e_aload_n 0 dL_law_1015 rfl rfl ?_
  refine e_iload_n 3 dL_law_1016 rfl rfl ?_
  refine e_iconst (v := 1) dL_law_1017 rfl ?_
  refine e_iadd dL_law_1018 ?_
  refine e_sald_n (i + 1) dL_law_1019 (nI_add i 1) (by omega) hL ?_
  refine e_aload_n 0 dL_law_1020 rfl rfl ?_
  refine e_iload_n 3 dL_law_1021 rfl rfl ?_
  refine e_iconst (v := 2) dL_law_1022 rfl ?_
  refine e_iadd dL_law_1023 ?_
  refine e_sald_n (i + 2) dL_law_1024 (nI_add i 2) (by omega) hL ?_
  refine e_aload_n 0 dL_law_1025 rfl rfl ?_
  refine e_iload_n 3 dL_law_1026 rfl rfl ?_
  refine e_iconst (v := 3) dL_law_1027 rfl ?_
  refine e_iadd dL_law_1028 ?_
  refine e_sald_n (i + 3) dL_law_1029 (nI_add i 3) (by omega) hL ?_
  refine e_callV (mc := 0) (ms := 0) (kc2 := K) (ks2 := K') (As := [_, _, _]) ok_X9_cell ⟨Nat.le_of_ble_eq_true rfl, Nat.le_of_ble_eq_true rfl⟩ dL_law_1030 kl_L_106 ki_X9_cell kv_X9_cell rfl rfl rfl rfl (Nat.le_of_ble_eq_true rfl) (Nat.le_of_ble_eq_true rfl) (sp_X9_cell hR hI) (fun v w' hw => ?_)
  obtain ⟨S1, A1, Lg1, P1, T1, rfl, rfl, hR1, hf1⟩ := hw
  refine e_aload_n 2 dL_law_1033 rfl rfl ?_
  refine e_aload_n 0 dL_law_1034 rfl rfl ?_
  refine e_iload_n 3 dL_law_1035 rfl rfl ?_
  refine e_iconst (v := 1) dL_law_1036 rfl ?_
  refine e_iadd dL_law_1037 ?_
  refine e_sald_n (i + 1) dL_law_1038 (nI_add i 1) (by omega) hL ?_
  refine e_aload_n 0 dL_law_1039 rfl rfl ?_
  refine e_iload_n 3 dL_law_1040 rfl rfl ?_
  refine e_iconst (v := 2) dL_law_1041 rfl ?_
  refine e_iadd dL_law_1042 ?_
  refine e_sald_n (i + 2) dL_law_1043 (nI_add i 2) (by omega) hL ?_
  refine e_aload_n 0 dL_law_1044 rfl rfl ?_
  refine e_iload_n 3 dL_law_1045 rfl rfl ?_
  refine e_iconst (v := 3) dL_law_1046 rfl ?_
  refine e_iadd dL_law_1047 ?_
  refine e_sald_n (i + 3) dL_law_1048 (nI_add i 3) (by omega) hL ?_
  refine e_room (kc' := 0 + K) (ks' := 0 + K') ?_ (by omega) (by omega)
  refine e_callV (mc := 0) (ms := 0) (kc2 := K) (ks2 := K') (As := [_, _, _]) ok_X10_cell ⟨Nat.le_of_ble_eq_true rfl, Nat.le_of_ble_eq_true rfl⟩ dL_law_1049 kl_L_110 ki_X10_cell kv_X10_cell rfl rfl rfl rfl (Nat.le_of_ble_eq_true rfl) (Nat.le_of_ble_eq_true rfl) (sp_X10_cell (hM.fr hf1) hI) (fun v w' hw => ?_)
  obtain ⟨S2, A2, rfl, rfl, hM2, hf2⟩ := hw
  refine e_lcmp dL_law_1052 ?_
  refine e_if_eq (tgt := 1249) dL_law_1053 rfl (fun _ => ?_) (fun h1053 => absurd (lg_self _) h1053)
  exact kk _ _ _ _ _ _ (hR1.fr hf2) hM2 (IV_cell hI)
set_option maxRecDepth 4000 in
theorem lk_23 {G : sh_G} {S : Nat → Int32} {A : Nat → Nat → Int32} {Lg : Nat → Int64} {P : Nat → Option Nat} {T : List sh_C} {b : sh_be} {i K K' : Nat} {Q : Option Value → List sh_C → Prop} (hL : G.2.2.2.2.2.1 < 2 ^ 31) (hi : i + 6 ≤ G.2.2.2.2.2.1) (hR : RX S A Lg P T b) (hM : RM S A b) (hI : IV b) (kk : ∀ (S : Nat → Int32) (A : Nat → Nat → Int32) (Lg : Nat → Int64) (P : Nat → Option Nat) (T : List sh_C) (b : sh_be), RX S A Lg P T b → RM S A b → IV b → Ev G mL_law K K' (mkW G S A Lg P T) 1249 [some (.ref 0), some (.ref 1), some (.ref 24), some (.int (nI i))] [] Q) : Ev G mL_law (9 + K) (59 + K') (mkW G S A Lg P T) 1058 [some (.ref 0), some (.ref 1), some (.ref 24), some (.int (nI i))] [] Q := by
  refine e_room (kc' := 0 + K) (ks' := 0 + K') ?_ (by omega) (by omega)
  refine e_aload_n 1 dL_law_1058 rfl rfl ?_
  refine e_aload_n 0 dL_law_1059 rfl rfl ?_
  refine e_iload_n 3 dL_law_1060 rfl rfl ?_
  refine e_iconst (v := 1) dL_law_1061 rfl ?_
  refine e_iadd dL_law_1062 ?_
  refine e_sald_n (i + 1) dL_law_1063 (nI_add i 1) (by omega) hL ?_
  refine e_aload_n 0 dL_law_1064 rfl rfl ?_
  refine e_iload_n 3 dL_law_1065 rfl rfl ?_
  refine e_iconst (v := 2) dL_law_1066 rfl ?_
  refine e_iadd dL_law_1067 ?_
  refine e_sald_n (i + 2) dL_law_1068 (nI_add i 2) (by omega) hL ?_
  refine e_aload_n 0 dL_law_1069 rfl rfl ?_
  refine e_iload_n 3 dL_law_1070 rfl rfl ?_
  refine e_iconst (v := 3) dL_law_1071 rfl ?_
  refine e_iadd dL_law_1072 ?_
  refine e_sald_n (i + 3) dL_law_1073 (nI_add i 3) (by omega) hL ?_
  refine e_aload_n 0 dL_law_1074 rfl rfl ?_
  refine e_iload_n 3 dL_law_1075 rfl rfl ?_
  refine e_iconst (v := 4) dL_law_1076 rfl ?_
  refine e_iadd dL_law_1077 ?_
  refine e_sald_n (i + 4) dL_law_1078 (nI_add i 4) (by omega) hL ?_
  refine e_aload_n 0 dL_law_1079 rfl rfl ?_
  refine e_iload_n 3 dL_law_1080 rfl rfl ?_
  refine e_iconst (v := 5) dL_law_1081 rfl ?_
  refine e_iadd dL_law_1082 ?_
  refine e_sald_n (i + 5) dL_law_1083 (nI_add i 5) (by omega) hL ?_
  refine e_callV (mc := 0) (ms := 0) (kc2 := K) (ks2 := K') (As := [_, _, _, _, _]) ok_X9_copy ⟨Nat.le_of_ble_eq_true rfl, Nat.le_of_ble_eq_true rfl⟩ dL_law_1084 kl_L_111 ki_X9_copy kv_X9_copy rfl rfl rfl rfl (Nat.le_of_ble_eq_true rfl) (Nat.le_of_ble_eq_true rfl) (sp_X9_copy hR hI) (fun v w' hw => ?_)
  obtain ⟨S1, A1, Lg1, P1, T1, rfl, rfl, hR1, hf1⟩ := hw
  refine e_aload_n 2 dL_law_1087 rfl rfl ?_
  refine e_aload_n 0 dL_law_1088 rfl rfl ?_
  refine e_iload_n 3 dL_law_1089 rfl rfl ?_
  refine e_iconst (v := 1) dL_law_1090 rfl ?_
  refine e_iadd dL_law_1091 ?_
  refine e_sald_n (i + 1) dL_law_1092 (nI_add i 1) (by omega) hL ?_
  refine e_aload_n 0 dL_law_1093 rfl rfl ?_
  refine e_iload_n 3 dL_law_1094 rfl rfl ?_
  refine e_iconst (v := 2) dL_law_1095 rfl ?_
  refine e_iadd dL_law_1096 ?_
  refine e_sald_n (i + 2) dL_law_1097 (nI_add i 2) (by omega) hL ?_
  refine e_aload_n 0 dL_law_1098 rfl rfl ?_
  refine e_iload_n 3 dL_law_1099 rfl rfl ?_
  refine e_iconst (v := 3) dL_law_1100 rfl ?_
  refine e_iadd dL_law_1101 ?_
  refine e_sald_n (i + 3) dL_law_1102 (nI_add i 3) (by omega) hL ?_
  refine e_aload_n 0 dL_law_1103 rfl rfl ?_
  refine e_iload_n 3 dL_law_1104 rfl rfl ?_
  refine e_iconst (v := 4) dL_law_1105 rfl ?_
  refine e_iadd dL_law_1106 ?_
  refine e_sald_n (i + 4) dL_law_1107 (nI_add i 4) (by omega) hL ?_
  refine e_aload_n 0 dL_law_1108 rfl rfl ?_
  refine e_iload_n 3 dL_law_1109 rfl rfl ?_
  refine e_iconst (v := 5) dL_law_1110 rfl ?_
  refine e_iadd dL_law_1111 ?_
  refine e_sald_n (i + 5) dL_law_1112 (nI_add i 5) (by omega) hL ?_
  refine e_room (kc' := 0 + K) (ks' := 0 + K') ?_ (by omega) (by omega)
  refine e_callV (mc := 0) (ms := 0) (kc2 := K) (ks2 := K') (As := [_, _, _, _, _]) ok_X10_copy ⟨Nat.le_of_ble_eq_true rfl, Nat.le_of_ble_eq_true rfl⟩ dL_law_1113 kl_L_114 ki_X10_copy kv_X10_copy rfl rfl rfl rfl (Nat.le_of_ble_eq_true rfl) (Nat.le_of_ble_eq_true rfl) (sp_X10_copy (hM.fr hf1) hI) (fun v w' hw => ?_)
  obtain ⟨S2, A2, rfl, rfl, hM2, hf2⟩ := hw
  refine e_icmp_eq (tgt := 1249) dL_law_1116 rfl (fun _ => ?_) (fun h1116 => absurd rfl h1116)
  exact kk _ _ _ _ _ _ (hR1.fr hf2) hM2 (IV_copy hI)
set_option maxRecDepth 4000 in
theorem lk_24 {G : sh_G} {S : Nat → Int32} {A : Nat → Nat → Int32} {Lg : Nat → Int64} {P : Nat → Option Nat} {T : List sh_C} {b : sh_be} {i K K' : Nat} {Q : Option Value → List sh_C → Prop} (hL : G.2.2.2.2.2.1 < 2 ^ 31) (hi : i + 6 ≤ G.2.2.2.2.2.1) (hR : RX S A Lg P T b) (hM : RM S A b) (hI : IV b) (kk : ∀ (S : Nat → Int32) (A : Nat → Nat → Int32) (Lg : Nat → Int64) (P : Nat → Option Nat) (T : List sh_C) (b : sh_be), RX S A Lg P T b → RM S A b → IV b → Ev G mL_law K K' (mkW G S A Lg P T) 1249 [some (.ref 0), some (.ref 1), some (.ref 24), some (.int (nI i))] [] Q) : Ev G mL_law (9 + K) (59 + K') (mkW G S A Lg P T) 1121 [some (.ref 0), some (.ref 1), some (.ref 24), some (.int (nI i))] [] Q := by
  refine e_room (kc' := 0 + K) (ks' := 0 + K') ?_ (by omega) (by omega)
  refine e_aload_n 1 dL_law_1121 rfl rfl ?_
  refine e_aload_n 0 dL_law_1122 rfl rfl ?_
  refine e_iload_n 3 dL_law_1123 rfl rfl ?_
  refine e_iconst (v := 1) dL_law_1124 rfl ?_
  refine e_iadd dL_law_1125 ?_
  refine e_sald_n (i + 1) dL_law_1126 (nI_add i 1) (by omega) hL ?_
  refine e_callV (mc := 0) (ms := 0) (kc2 := K) (ks2 := K') (As := [_]) ok_X9_tell ⟨Nat.le_of_ble_eq_true rfl, Nat.le_of_ble_eq_true rfl⟩ dL_law_1127 kl_L_115 ki_X9_tell kv_X9_tell rfl rfl rfl rfl (Nat.le_of_ble_eq_true rfl) (Nat.le_of_ble_eq_true rfl) (sp_X9_tell hR hI) (fun v w' hw => ?_)
  obtain ⟨S1, A1, Lg1, P1, T1, rfl, rfl, hR1, hf1⟩ := hw
  refine e_aload_n 2 dL_law_1130 rfl rfl ?_
  refine e_aload_n 0 dL_law_1131 rfl rfl ?_
  refine e_iload_n 3 dL_law_1132 rfl rfl ?_
  refine e_iconst (v := 1) dL_law_1133 rfl ?_
  refine e_iadd dL_law_1134 ?_
  refine e_sald_n (i + 1) dL_law_1135 (nI_add i 1) (by omega) hL ?_
  refine e_room (kc' := 0 + K) (ks' := 0 + K') ?_ (by omega) (by omega)
  refine e_callV (mc := 0) (ms := 0) (kc2 := K) (ks2 := K') (As := [_]) ok_X10_tell ⟨Nat.le_of_ble_eq_true rfl, Nat.le_of_ble_eq_true rfl⟩ dL_law_1136 kl_L_118 ki_X10_tell kv_X10_tell rfl rfl rfl rfl (Nat.le_of_ble_eq_true rfl) (Nat.le_of_ble_eq_true rfl) (sp_X10_tell (hM.fr hf1) hI) (fun v w' hw => ?_)
  obtain ⟨S2, A2, rfl, rfl, hM2, hf2⟩ := hw
  refine e_icmp_eq (tgt := 1249) dL_law_1139 rfl (fun _ => ?_) (fun h1139 => absurd rfl h1139)
  exact kk _ _ _ _ _ _ (hR1.fr hf2) hM2 (IV_tell hI)
set_option maxRecDepth 4000 in
theorem lk_25 {G : sh_G} {S : Nat → Int32} {A : Nat → Nat → Int32} {Lg : Nat → Int64} {P : Nat → Option Nat} {T : List sh_C} {b : sh_be} {i K K' : Nat} {Q : Option Value → List sh_C → Prop} (hL : G.2.2.2.2.2.1 < 2 ^ 31) (hi : i + 6 ≤ G.2.2.2.2.2.1) (hR : RX S A Lg P T b) (hM : RM S A b) (hI : IV b) (kk : ∀ (S : Nat → Int32) (A : Nat → Nat → Int32) (Lg : Nat → Int64) (P : Nat → Option Nat) (T : List sh_C) (b : sh_be), RX S A Lg P T b → RM S A b → IV b → Ev G mL_law K K' (mkW G S A Lg P T) 1249 [some (.ref 0), some (.ref 1), some (.ref 24), some (.int (nI i))] [] Q) : Ev G mL_law (9 + K) (59 + K') (mkW G S A Lg P T) 1144 [some (.ref 0), some (.ref 1), some (.ref 24), some (.int (nI i))] [] Q := by
  refine e_room (kc' := 0 + K) (ks' := 0 + K') ?_ (by omega) (by omega)
  refine e_aload_n 1 dL_law_1144 rfl rfl ?_
  refine e_aload_n 0 dL_law_1145 rfl rfl ?_
  refine e_iload_n 3 dL_law_1146 rfl rfl ?_
  refine e_iconst (v := 1) dL_law_1147 rfl ?_
  refine e_iadd dL_law_1148 ?_
  refine e_sald_n (i + 1) dL_law_1149 (nI_add i 1) (by omega) hL ?_
  refine e_callV (mc := 0) (ms := 0) (kc2 := K) (ks2 := K') (As := [_]) ok_X9_ring ⟨Nat.le_of_ble_eq_true rfl, Nat.le_of_ble_eq_true rfl⟩ dL_law_1150 kl_L_119 ki_X9_ring kv_X9_ring rfl rfl rfl rfl (Nat.le_of_ble_eq_true rfl) (Nat.le_of_ble_eq_true rfl) (sp_X9_ring hR hI) (fun v w' hw => ?_)
  obtain ⟨S1, A1, Lg1, P1, T1, rfl, rfl, hR1, hf1⟩ := hw
  refine e_aload_n 2 dL_law_1153 rfl rfl ?_
  refine e_aload_n 0 dL_law_1154 rfl rfl ?_
  refine e_iload_n 3 dL_law_1155 rfl rfl ?_
  refine e_iconst (v := 1) dL_law_1156 rfl ?_
  refine e_iadd dL_law_1157 ?_
  refine e_sald_n (i + 1) dL_law_1158 (nI_add i 1) (by omega) hL ?_
  refine e_room (kc' := 0 + K) (ks' := 0 + K') ?_ (by omega) (by omega)
  refine e_callV (mc := 0) (ms := 0) (kc2 := K) (ks2 := K') (As := [_]) ok_X10_ring ⟨Nat.le_of_ble_eq_true rfl, Nat.le_of_ble_eq_true rfl⟩ dL_law_1159 kl_L_122 ki_X10_ring kv_X10_ring rfl rfl rfl rfl (Nat.le_of_ble_eq_true rfl) (Nat.le_of_ble_eq_true rfl) (sp_X10_ring (hM.fr hf1) hI) (fun v w' hw => ?_)
  obtain ⟨S2, A2, rfl, rfl, hM2, hf2⟩ := hw
  refine e_icmp_eq (tgt := 1249) dL_law_1162 rfl (fun _ => ?_) (fun h1162 => absurd rfl h1162)
  exact kk _ _ _ _ _ _ (hR1.fr hf2) hM2 (IV_ring hI)
set_option maxRecDepth 4000 in
theorem lk_26 {G : sh_G} {S : Nat → Int32} {A : Nat → Nat → Int32} {Lg : Nat → Int64} {P : Nat → Option Nat} {T : List sh_C} {b : sh_be} {i K K' : Nat} {Q : Option Value → List sh_C → Prop} (hL : G.2.2.2.2.2.1 < 2 ^ 31) (hi : i + 6 ≤ G.2.2.2.2.2.1) (hR : RX S A Lg P T b) (hM : RM S A b) (hI : IV b) (kk : ∀ (S : Nat → Int32) (A : Nat → Nat → Int32) (Lg : Nat → Int64) (P : Nat → Option Nat) (T : List sh_C) (b : sh_be), RX S A Lg P T b → RM S A b → IV b → Ev G mL_law K K' (mkW G S A Lg P T) 1249 [some (.ref 0), some (.ref 1), some (.ref 24), some (.int (nI i))] [] Q) : Ev G mL_law (9 + K) (59 + K') (mkW G S A Lg P T) 1167 [some (.ref 0), some (.ref 1), some (.ref 24), some (.int (nI i))] [] Q := by
  refine e_room (kc' := 0 + K) (ks' := 0 + K') ?_ (by omega) (by omega)
  refine e_aload_n 1 dL_law_1167 rfl rfl ?_
  refine e_aload_n 0 dL_law_1168 rfl rfl ?_
  refine e_iload_n 3 dL_law_1169 rfl rfl ?_
  refine e_iconst (v := 1) dL_law_1170 rfl ?_
  refine e_iadd dL_law_1171 ?_
  refine e_sald_n (i + 1) dL_law_1172 (nI_add i 1) (by omega) hL ?_
  refine e_aload_n 0 dL_law_1173 rfl rfl ?_
  refine e_iload_n 3 dL_law_1174 rfl rfl ?_
  refine e_iconst (v := 2) dL_law_1175 rfl ?_
  refine e_iadd dL_law_1176 ?_
  refine e_sald_n (i + 2) dL_law_1177 (nI_add i 2) (by omega) hL ?_
  refine e_callV (mc := 0) (ms := 0) (kc2 := K) (ks2 := K') (As := [_, _]) ok_X9_as ⟨Nat.le_of_ble_eq_true rfl, Nat.le_of_ble_eq_true rfl⟩ dL_law_1178 kl_L_123 ki_X9_as kv_X9_as rfl rfl rfl rfl (Nat.le_of_ble_eq_true rfl) (Nat.le_of_ble_eq_true rfl) (sp_X9_as hR hI) (fun v w' hw => ?_)
  obtain ⟨S1, A1, Lg1, P1, T1, rfl, rfl, hR1, hf1⟩ := hw
  refine e_aload_n 2 dL_law_1181 rfl rfl ?_
  refine e_aload_n 0 dL_law_1182 rfl rfl ?_
  refine e_iload_n 3 dL_law_1183 rfl rfl ?_
  refine e_iconst (v := 1) dL_law_1184 rfl ?_
  refine e_iadd dL_law_1185 ?_
  refine e_sald_n (i + 1) dL_law_1186 (nI_add i 1) (by omega) hL ?_
  refine e_aload_n 0 dL_law_1187 rfl rfl ?_
  refine e_iload_n 3 dL_law_1188 rfl rfl ?_
  refine e_iconst (v := 2) dL_law_1189 rfl ?_
  refine e_iadd dL_law_1190 ?_
  refine e_sald_n (i + 2) dL_law_1191 (nI_add i 2) (by omega) hL ?_
  refine e_room (kc' := 0 + K) (ks' := 0 + K') ?_ (by omega) (by omega)
  refine e_callV (mc := 0) (ms := 0) (kc2 := K) (ks2 := K') (As := [_, _]) ok_X10_as ⟨Nat.le_of_ble_eq_true rfl, Nat.le_of_ble_eq_true rfl⟩ dL_law_1192 kl_L_126 ki_X10_as kv_X10_as rfl rfl rfl rfl (Nat.le_of_ble_eq_true rfl) (Nat.le_of_ble_eq_true rfl) (sp_X10_as (hM.fr hf1) hI) (fun v w' hw => ?_)
  obtain ⟨S2, A2, rfl, rfl, hM2, hf2⟩ := hw
  refine e_icmp_eq (tgt := 1249) dL_law_1195 rfl (fun _ => ?_) (fun h1195 => absurd rfl h1195)
  exact kk _ _ _ _ _ _ (hR1.fr hf2) hM2 (IV_as hI)
set_option maxRecDepth 4000 in
theorem lk_27 {G : sh_G} {S : Nat → Int32} {A : Nat → Nat → Int32} {Lg : Nat → Int64} {P : Nat → Option Nat} {T : List sh_C} {b : sh_be} {i K K' : Nat} {Q : Option Value → List sh_C → Prop} (hL : G.2.2.2.2.2.1 < 2 ^ 31) (hi : i + 6 ≤ G.2.2.2.2.2.1) (hR : RX S A Lg P T b) (hM : RM S A b) (hI : IV b) (kk : ∀ (S : Nat → Int32) (A : Nat → Nat → Int32) (Lg : Nat → Int64) (P : Nat → Option Nat) (T : List sh_C) (b : sh_be), RX S A Lg P T b → RM S A b → IV b → Ev G mL_law K K' (mkW G S A Lg P T) 1249 [some (.ref 0), some (.ref 1), some (.ref 24), some (.int (nI i))] [] Q) : Ev G mL_law (9 + K) (59 + K') (mkW G S A Lg P T) 1200 [some (.ref 0), some (.ref 1), some (.ref 24), some (.int (nI i))] [] Q := by
  refine e_room (kc' := K) (ks' := K') ?_ (by omega) (by omega)
  refine e_aload_n 1 dL_law_1200 rfl rfl ?_
  refine f_callVi (As := []) ok_X9_trace ⟨Nat.le_of_ble_eq_true rfl, Nat.le_of_ble_eq_true rfl⟩ dL_law_1201 kl_L_127 ki_X9_trace kv_X9_trace rfl rfl rfl rfl (Nat.le_of_ble_eq_true rfl) (Nat.le_of_ble_eq_true rfl) (Nat.zero_add _) (Nat.zero_add _) (sp_X9_trace hR hI) ?_
  refine e_aload_n 2 dL_law_1204 rfl rfl ?_
  refine f_callVi (As := []) ok_X10_trace ⟨Nat.le_of_ble_eq_true rfl, Nat.le_of_ble_eq_true rfl⟩ dL_law_1205 kl_L_131 ki_X10_trace kv_X10_trace rfl rfl rfl rfl (Nat.le_of_ble_eq_true rfl) (Nat.le_of_ble_eq_true rfl) (Nat.zero_add _) (Nat.zero_add _) (sp_X10_trace hM hI) ?_
  refine e_icmp_eq (tgt := 1249) dL_law_1208 rfl (fun _ => ?_) (fun h1208 => absurd rfl h1208)
  exact kk S A Lg P T b hR hM hI
set_option maxRecDepth 4000 in
theorem lk_28 {G : sh_G} {S : Nat → Int32} {A : Nat → Nat → Int32} {Lg : Nat → Int64} {P : Nat → Option Nat} {T : List sh_C} {b : sh_be} {i K K' : Nat} {Q : Option Value → List sh_C → Prop} (hL : G.2.2.2.2.2.1 < 2 ^ 31) (hi : i + 6 ≤ G.2.2.2.2.2.1) (hR : RX S A Lg P T b) (hM : RM S A b) (hI : IV b) (kk : ∀ (S : Nat → Int32) (A : Nat → Nat → Int32) (Lg : Nat → Int64) (P : Nat → Option Nat) (T : List sh_C) (b : sh_be), RX S A Lg P T b → RM S A b → IV b → Ev G mL_law K K' (mkW G S A Lg P T) 1249 [some (.ref 0), some (.ref 1), some (.ref 24), some (.int (nI i))] [] Q) : Ev G mL_law (9 + K) (59 + K') (mkW G S A Lg P T) 1213 [some (.ref 0), some (.ref 1), some (.ref 24), some (.int (nI i))] [] Q := by
  refine e_room (kc' := K) (ks' := K') ?_ (by omega) (by omega)
  refine e_aload_n 1 dL_law_1213 rfl rfl ?_
  refine f_callVi (As := []) ok_X9_fault ⟨Nat.le_of_ble_eq_true rfl, Nat.le_of_ble_eq_true rfl⟩ dL_law_1214 kl_L_132 ki_X9_fault kv_X9_fault rfl rfl rfl rfl (Nat.le_of_ble_eq_true rfl) (Nat.le_of_ble_eq_true rfl) (Nat.zero_add _) (Nat.zero_add _) (sp_X9_fault hR hI) ?_
  refine e_aload_n 2 dL_law_1217 rfl rfl ?_
  refine f_callVi (As := []) ok_X10_fault ⟨Nat.le_of_ble_eq_true rfl, Nat.le_of_ble_eq_true rfl⟩ dL_law_1218 kl_L_135 ki_X10_fault kv_X10_fault rfl rfl rfl rfl (Nat.le_of_ble_eq_true rfl) (Nat.le_of_ble_eq_true rfl) (Nat.zero_add _) (Nat.zero_add _) (sp_X10_fault hM hI) ?_
  refine e_icmp_eq (tgt := 1249) dL_law_1221 rfl (fun _ => ?_) (fun h1221 => absurd rfl h1221)
  exact kk S A Lg P T b hR hM hI
set_option maxRecDepth 4000 in
theorem lk_29 {G : sh_G} {S : Nat → Int32} {A : Nat → Nat → Int32} {Lg : Nat → Int64} {P : Nat → Option Nat} {T : List sh_C} {b : sh_be} {i K K' : Nat} {Q : Option Value → List sh_C → Prop} (hL : G.2.2.2.2.2.1 < 2 ^ 31) (hi : i + 6 ≤ G.2.2.2.2.2.1) (hR : RX S A Lg P T b) (hM : RM S A b) (hI : IV b) (kk : ∀ (S : Nat → Int32) (A : Nat → Nat → Int32) (Lg : Nat → Int64) (P : Nat → Option Nat) (T : List sh_C) (b : sh_be), RX S A Lg P T b → RM S A b → IV b → Ev G mL_law K K' (mkW G S A Lg P T) 1249 [some (.ref 0), some (.ref 1), some (.ref 24), some (.int (nI i))] [] Q) : Ev G mL_law (9 + K) (59 + K') (mkW G S A Lg P T) 1226 [some (.ref 0), some (.ref 1), some (.ref 24), some (.int (nI i))] [] Q := by
  refine e_room (kc' := K) (ks' := K') ?_ (by omega) (by omega)
  refine e_aload_n 1 dL_law_1226 rfl rfl ?_
  refine e_aload_n 0 dL_law_1227 rfl rfl ?_
  refine e_iload_n 3 dL_law_1228 rfl rfl ?_
  refine e_iconst (v := 1) dL_law_1229 rfl ?_
  refine e_iadd dL_law_1230 ?_
  refine e_sald_n (i + 1) dL_law_1231 (nI_add i 1) (by omega) hL ?_
  refine f_callVi (As := [_]) ok_X9_many ⟨Nat.le_of_ble_eq_true rfl, Nat.le_of_ble_eq_true rfl⟩ dL_law_1232 kl_L_136 ki_X9_many kv_X9_many rfl rfl rfl rfl (Nat.le_of_ble_eq_true rfl) (Nat.le_of_ble_eq_true rfl) (Nat.zero_add _) (Nat.zero_add _) (sp_X9_many hR hI) ?_
  refine e_aload_n 2 dL_law_1235 rfl rfl ?_
  refine e_aload_n 0 dL_law_1236 rfl rfl ?_
  refine e_iload_n 3 dL_law_1237 rfl rfl ?_
  refine e_iconst (v := 1) dL_law_1238 rfl ?_
  refine e_iadd dL_law_1239 ?_
  refine e_sald_n (i + 1) dL_law_1240 (nI_add i 1) (by omega) hL ?_
  refine f_callVi (As := [_]) ok_X10_many ⟨Nat.le_of_ble_eq_true rfl, Nat.le_of_ble_eq_true rfl⟩ dL_law_1241 kl_L_139 ki_X10_many kv_X10_many rfl rfl rfl rfl (Nat.le_of_ble_eq_true rfl) (Nat.le_of_ble_eq_true rfl) (Nat.zero_add _) (Nat.zero_add _) (sp_X10_many hM hI) ?_
  refine e_icmp_eq (tgt := 1249) dL_law_1244 rfl (fun _ => ?_) (fun h1244 => absurd rfl h1244)
  exact kk S A Lg P T b hR hM hI
set_option maxRecDepth 4000 in
theorem lp_L_law {G : sh_G} (hL : G.2.2.2.2.2.1 ≤ 384) : ∀ (n i : Nat) (S : Nat → Int32) (A : Nat → Nat → Int32) (Lg : Nat → Int64) (P : Nat → Option Nat) (T : List sh_C) (b : sh_be), i + 6 * n ≤ G.2.2.2.2.2.1 → G.2.2.2.2.2.1 < i + 6 * (n + 1) → RX S A Lg P T b → RM S A b → IV b → Ev G mL_law (9 * n) (59 * n) (mkW G S A Lg P T) 18 [some (.ref 0), some (.ref 1), some (.ref 24), some (.int (nI i))] [] (fun v _ => v = some (.int 1)) := by
  have hL384 := hL
  have hL : G.2.2.2.2.2.1 < 2 ^ 31 := by omega
  intro n
  induction n with
  | zero =>
    intro i S A Lg P T b h1 h2 hR hM hI
    have hex : nI G.2.2.2.2.2.1 - 6 < nI i := by
      rw [fa_lt, show (6 : Int32) = nI 6 from rfl, sub_i (by omega) (by omega), nI_toInt (by omega)]; omega
    refine e_iload_n 3 dL_law_18 rfl rfl ?_
    refine e_aload_n 0 dL_law_19 rfl rfl ?_
    refine e_slen dL_law_20 ?_
    refine e_bipush (v := 6) dL_law_21 (by decide) ?_
    refine e_isub dL_law_23 ?_
    refine e_icmp_gt (tgt := 1255) dL_law_24 rfl (fun _ => ?_) (fun h24 => absurd hex h24)
    refine e_iconst (v := 1) dL_law_1255 rfl ?_
    exact e_zret dL_law_1256 rfl rfl rfl
  | succ n ih =>
    intro i S A Lg P T b h1 h2 hR hM hI
    have hex : ¬ nI G.2.2.2.2.2.1 - 6 < nI i := by
      rw [fa_lt, show (6 : Int32) = nI 6 from rfl, sub_i (by omega) (by omega), nI_toInt (by omega)]; omega
    have hgo : ∀ (S : Nat → Int32) (A : Nat → Nat → Int32) (Lg : Nat → Int64) (P : Nat → Option Nat) (T : List sh_C) (b : sh_be), RX S A Lg P T b → RM S A b → IV b → Ev G mL_law (9 * n) (59 * n) (mkW G S A Lg P T) 1249 [some (.ref 0), some (.ref 1), some (.ref 24), some (.int (nI i))] [] (fun v _ => v = some (.int 1)) := by
      intro S A Lg P T b hR hM hI
      refine e_iinc (v := _ + 6) (lv' := [_, _, _, _]) dL_law_1249 rfl (Nat.le_of_ble_eq_true rfl) rfl rfl rfl ?_
      refine e_goto (tgt := 18) dL_law_1252 rfl ?_
      rw [show nI i + 6 = nI (i + 6) from nI_add i 6]
      exact ih (i + 6) S A Lg P T b (by omega) (by omega) hR hM hI
    refine e_room (kc' := 9 + 9 * n) (ks' := 59 + 59 * n) ?_ (by omega) (by omega)
    refine e_iload_n 3 dL_law_18 rfl rfl ?_
    refine e_aload_n 0 dL_law_19 rfl rfl ?_
    refine e_slen dL_law_20 ?_
    refine e_bipush (v := 6) dL_law_21 (by decide) ?_
    refine e_isub dL_law_23 ?_
    refine e_icmp_gt (tgt := 1255) dL_law_24 rfl (fun h24 => absurd h24 hex) (fun _ => ?_)
    refine e_aload_n 0 dL_law_27 rfl rfl ?_
    refine e_iload_n 3 dL_law_28 rfl rfl ?_
    refine e_sald_n i dL_law_29 rfl (by omega) hL ?_
    refine e_bipush (v := 31) dL_law_30 (by decide) ?_
    refine e_iand dL_law_32 ?_
    obtain ⟨j, hj32, ej⟩ := pk_andE (G.2.2.2.2.2.2 i) (m := 31) 5 (by decide)
    rw [ej]
    have hcs : j = 0 ∨ j = 1 ∨ j = 2 ∨ j = 3 ∨ j = 4 ∨ j = 5 ∨ j = 6 ∨ j = 7 ∨ j = 8 ∨ j = 9 ∨ j = 10 ∨ j = 11 ∨ j = 12 ∨ j = 13 ∨ j = 14 ∨ j = 15 ∨ j = 16 ∨ j = 17 ∨ j = 18 ∨ j = 19 ∨ j = 20 ∨ j = 21 ∨ j = 22 ∨ j = 23 ∨ j = 24 ∨ j = 25 ∨ j = 26 ∨ j = 27 ∨ j = 28 ∨ j = 29 ∨ 30 ≤ j := by omega
    rcases hcs with hj | hj | hj | hj | hj | hj | hj | hj | hj | hj | hj | hj | hj | hj | hj | hj | hj | hj | hj | hj | hj | hj | hj | hj | hj | hj | hj | hj | hj | hj | hj
    · subst hj
      refine e_tableIn (off := 135) (tgt := 168) dL_law_33 (by decide) (by decide) (by decide) rfl ?_
      exact lk_0 hL (by omega) hR hM hI hgo
    · subst hj
      refine e_tableIn (off := 188) (tgt := 221) dL_law_33 (by decide) (by decide) (by decide) rfl ?_
      exact lk_1 hL (by omega) hR hM hI hgo
    · subst hj
      refine e_tableIn (off := 221) (tgt := 254) dL_law_33 (by decide) (by decide) (by decide) rfl ?_
      exact lk_2 hL (by omega) hR hM hI hgo
    · subst hj
      refine e_tableIn (off := 254) (tgt := 287) dL_law_33 (by decide) (by decide) (by decide) rfl ?_
      exact lk_3 hL (by omega) hR hM hI hgo
    · subst hj
      refine e_tableIn (off := 287) (tgt := 320) dL_law_33 (by decide) (by decide) (by decide) rfl ?_
      exact lk_4 hL (by omega) hR hM hI hgo
    · subst hj
      refine e_tableIn (off := 320) (tgt := 353) dL_law_33 (by decide) (by decide) (by decide) rfl ?_
      exact lk_5 hL (by omega) hR hM hI hgo
    · subst hj
      refine e_tableIn (off := 353) (tgt := 386) dL_law_33 (by decide) (by decide) (by decide) rfl ?_
      exact lk_6 hL (by omega) hR hM hI hgo
    · subst hj
      refine e_tableIn (off := 386) (tgt := 419) dL_law_33 (by decide) (by decide) (by decide) rfl ?_
      exact lk_7 hL (by omega) hR hM hI hgo
    · subst hj
      refine e_tableIn (off := 419) (tgt := 452) dL_law_33 (by decide) (by decide) (by decide) rfl ?_
      exact lk_8 hL (by omega) hR hM hI hgo
    · subst hj
      refine e_tableIn (off := 452) (tgt := 485) dL_law_33 (by decide) (by decide) (by decide) rfl ?_
      exact lk_9 hL (by omega) hR hM hI hgo
    · subst hj
      refine e_tableIn (off := 485) (tgt := 518) dL_law_33 (by decide) (by decide) (by decide) rfl ?_
      exact lk_10 hL (by omega) hR hM hI hgo
    · subst hj
      refine e_tableIn (off := 518) (tgt := 551) dL_law_33 (by decide) (by decide) (by decide) rfl ?_
      exact lk_11 hL (by omega) hR hM hI hgo
    · subst hj
      refine e_tableIn (off := 561) (tgt := 594) dL_law_33 (by decide) (by decide) (by decide) rfl ?_
      exact lk_12 hL (by omega) hR hM hI hgo
    · subst hj
      refine e_tableIn (off := 594) (tgt := 627) dL_law_33 (by decide) (by decide) (by decide) rfl ?_
      exact lk_13 hL (by omega) hR hM hI hgo
    · subst hj
      refine e_tableIn (off := 637) (tgt := 670) dL_law_33 (by decide) (by decide) (by decide) rfl ?_
      exact lk_14 hL (by omega) hR hM hI hgo
    · subst hj
      refine e_tableIn (off := 680) (tgt := 713) dL_law_33 (by decide) (by decide) (by decide) rfl ?_
      exact lk_15 hL (by omega) hR hM hI hgo
    · subst hj
      refine e_tableIn (off := 713) (tgt := 746) dL_law_33 (by decide) (by decide) (by decide) rfl ?_
      exact lk_16 hL (by omega) hR hM hI hgo
    · subst hj
      refine e_tableIn (off := 766) (tgt := 799) dL_law_33 (by decide) (by decide) (by decide) rfl ?_
      exact lk_17 hL (by omega) hR hM hI hgo
    · subst hj
      refine e_tableIn (off := 829) (tgt := 862) dL_law_33 (by decide) (by decide) (by decide) rfl ?_
      exact lk_18 hL (by omega) hR hM hI hgo
    · subst hj
      refine e_tableIn (off := 872) (tgt := 905) dL_law_33 (by decide) (by decide) (by decide) rfl ?_
      exact lk_19 hL (by omega) hR hM hI hgo
    · subst hj
      refine e_tableIn (off := 915) (tgt := 948) dL_law_33 (by decide) (by decide) (by decide) rfl ?_
      exact lk_20 hL (by omega) hR hM hI hgo
    · subst hj
      refine e_tableIn (off := 938) (tgt := 971) dL_law_33 (by decide) (by decide) (by decide) rfl ?_
      exact lk_21 hL (by omega) hR hM hI hgo
    · subst hj
      refine e_tableIn (off := 981) (tgt := 1014) dL_law_33 (by decide) (by decide) (by decide) rfl ?_
      exact lk_22 hL (by omega) hR hM hI hgo
    · subst hj
      refine e_tableIn (off := 1025) (tgt := 1058) dL_law_33 (by decide) (by decide) (by decide) rfl ?_
      exact lk_23 hL (by omega) hR hM hI hgo
    · subst hj
      refine e_tableIn (off := 1088) (tgt := 1121) dL_law_33 (by decide) (by decide) (by decide) rfl ?_
      exact lk_24 hL (by omega) hR hM hI hgo
    · subst hj
      refine e_tableIn (off := 1111) (tgt := 1144) dL_law_33 (by decide) (by decide) (by decide) rfl ?_
      exact lk_25 hL (by omega) hR hM hI hgo
    · subst hj
      refine e_tableIn (off := 1134) (tgt := 1167) dL_law_33 (by decide) (by decide) (by decide) rfl ?_
      exact lk_26 hL (by omega) hR hM hI hgo
    · subst hj
      refine e_tableIn (off := 1167) (tgt := 1200) dL_law_33 (by decide) (by decide) (by decide) rfl ?_
      exact lk_27 hL (by omega) hR hM hI hgo
    · subst hj
      refine e_tableIn (off := 1180) (tgt := 1213) dL_law_33 (by decide) (by decide) (by decide) rfl ?_
      exact lk_28 hL (by omega) hR hM hI hgo
    · subst hj
      refine e_tableIn (off := 1193) (tgt := 1226) dL_law_33 (by decide) (by decide) (by decide) rfl ?_
      exact lk_29 hL (by omega) hR hM hI hgo
    · refine e_tableOut (tgt := 1249) dL_law_33 (Or.inr (by rw [nI_toInt (by omega)]; omega)) rfl ?_
      refine e_room (kc' := 9 * n) (ks' := 59 * n) ?_ (by omega) (by omega)
      exact hgo S A Lg P T b hR hM hI
def b00 : sh_be := (fun _ => 0, fun _ _ => 0, 0, 0, fun _ => none, fun _ _ => 0)
theorem IV_00 : IV b00 := ⟨Nat.zero_le _, Nat.zero_le _, Nat.zero_le _, Nat.zero_le _, fun d h => absurd h (Nat.not_lt_zero d), fun d h => absurd h (Nat.not_lt_zero d), fun d h => absurd h (Nat.not_lt_zero d), fun k => Nat.zero_le _, fun k l n _ h => by cases h⟩
def S00 : Nat → Int32 := fun i => if 11 ≤ i ∧ i ≤ 14 then -1 else 0
theorem S00_0 {i : Nat} (h : ¬ (11 ≤ i ∧ i ≤ 14)) : S00 i = 0 := if_neg h
theorem RX_00 {A : Nat → Nat → Int32} : RX S00 A (fun _ => 0) (fun _ => none) [] b00 := by
  refine ⟨rfl, rfl, rfl, rfl, rfl, rfl, fun k hk => ?_, fun d h => absurd h (Nat.not_lt_zero d), fun d h => absurd h (Nat.not_lt_zero d), fun d h => absurd h (Nat.not_lt_zero d), fun _ => rfl⟩
  show S00 (11 + k) = -1 ∧ S00 (15 + k) = 0
  exact ⟨if_pos (by omega), if_neg (by omega)⟩
theorem RM_00 {A : Nat → Nat → Int32} (h : ∀ k, k < 4 → A 38 k = -1) : RM S00 A b00 := by
  refine ⟨rfl, rfl, rfl, rfl, rfl, rfl, fun k hk => ?_, fun d h => absurd h (Nat.not_lt_zero d), fun d h => absurd h (Nat.not_lt_zero d), fun d h => absurd h (Nat.not_lt_zero d)⟩
  exact h k hk
set_option maxRecDepth 8000 in
theorem sp_L_law {G : sh_G} (hL : G.2.2.2.2.2.1 ≤ 384) : Ev G mL_law 700 150000 [.inr (9, G.2.2.2.2.2.1, .inl G.2.2.2.2.2.2)] 0 [some (.ref 0), none, none, none] [] (fun v _ => v = some (.int 1)) := by
  obtain ⟨n, h1, h2⟩ : ∃ n, 6 * n ≤ G.2.2.2.2.2.1 ∧ G.2.2.2.2.2.1 < 6 * (n + 1) := ⟨G.2.2.2.2.2.1 / 6, by omega, by omega⟩
  refine e_room (kc' := (22 + ((22 + 9 * n) + 1)) + 1) (ks' := (29499 + ((72430 + 59 * n) + 35)) + 6) ?_ (by omega) (by omega)
  refine e_new dL_law_0 kn_L_law_7 ?_
  refine e_w (w' := [.inr (9, G.2.2.2.2.2.1, .inl G.2.2.2.2.2.2), .inl (9, [.null, .null, .null, .null, .null, .int 0])]) rfl ?_
  refine e_st (st' := [.ref 1]) rfl ?_
  refine e_dup dL_law_3 rfl ?_
  refine f_callIv (mc := 22) (ms := 29499) (kc2 := (22 + 9 * n) + 1) (ks2 := (72430 + 59 * n) + 35) (As := []) ok_X9_init rfl ⟨Nat.le_of_ble_eq_true rfl, Nat.le_of_ble_eq_true rfl⟩ dL_law_4 rfl kl_L_9 ki_X9_init rfl rfl (Nat.le_of_ble_eq_true rfl) (Nat.le_of_ble_eq_true rfl) rfl rfl sp_X9_init ?_
  refine e_astore_n (lv' := [_, _, _, _]) 1 dL_law_7 rfl (Nat.le_of_ble_eq_true rfl) rfl rfl ?_
  refine e_new dL_law_8 kn_L_law_10 ?_
  refine e_w (w' := w24 G ++ [.inl (10, [.int 0, .int 0, .int 0, .null, .null, .null, .int 0, .int 0, .int 0, .null, .null, .null, .int 0, .null, .null, .int 0, .null, .null, .int 0, .int 0, .int 0, .null, .null, .null, .null, .null, .null, .null, .int 0, .null, .null, .null, .null, .null, .int 0])]) rfl ?_
  refine e_st (st' := [.ref 24]) rfl ?_
  refine e_dup dL_law_11 rfl ?_
  refine e_callI (mc := 22) (ms := 72430) (kc2 := 9 * n) (ks2 := 59 * n) (As := []) ok_X10_init rfl ⟨Nat.le_of_ble_eq_true rfl, Nat.le_of_ble_eq_true rfl⟩ dL_law_12 rfl kl_L_12 ki_X10_init rfl rfl (Nat.le_of_ble_eq_true rfl) (Nat.le_of_ble_eq_true rfl) sp_X10_init (fun v w' hw => ?_)
  obtain ⟨rfl, f, rfl, hf⟩ := hw
  refine e_astore_n (lv' := [_, _, _, _]) 2 dL_law_15 rfl (Nat.le_of_ble_eq_true rfl) rfl rfl ?_
  refine e_iconst (v := 0) dL_law_16 rfl ?_
  refine e_istore_n (lv' := [_, _, _, _]) 3 dL_law_17 rfl (Nat.le_of_ble_eq_true rfl) rfl rfl ?_
  refine e_w (w' := mkW G S00 (va_up (fun _ _ => 0) 38 f) (fun _ => 0) (fun _ => none) []) rfl ?_
  refine e_lv (lv' := [some (.ref 0), some (.ref 1), some (.ref 24), some (.int (nI 0))]) rfl ?_
  exact lp_L_law hL n 0 S00 _ _ _ [] b00 (by omega) (by omega) RX_00 (RM_00 hf) IV_00