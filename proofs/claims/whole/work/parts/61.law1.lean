section LAW
variable {G : Gx} {σ : State} {p : Program} {l : Launch} {e : Env} {R0 : Room} {s : State} {m : MethodId} {args : Array Value} {below : List Frame} {meth : Method} {c : Code} {Q : Option Value → Mm → Prop} {M M1 M2 : Mm} {k n a N i : Nat} {S : Nat → Int} {x : Int}
theorem lw_feed (hC : Cy G σ) (C : BxL G σ p R0 s m args meth c) (hS : Scr G σ a N S) (hi : i + 6 ≤ N) (k1 : Kd M 0 9) (k2 : Kd M1 57 10) (hk : k + 25 ≤ 601024) (hn : n + 9146 ≤ 7293034) (h1 : uX9_feed 0 (S (i + 1)) (S (i + 2)) (S (i + 3)) (S (i + 4)) (S (i + 5)) M = some (x, M1)) (h2 : uX10_feed 57 (S (i + 1)) (S (i + 2)) (S (i + 3)) (S (i + 4)) (S (i + 5)) M1 = some (x, M2)) (kk : Jz G σ p l e R0 s m args below meth c 7 601024 7293034 Q M2 (k + 25) (n + 9146) 1584 (LV G a i) []) : Jz G σ p l e R0 s m args below meth c 7 601024 7293034 Q M k n 204 (LV G a i) [] := by
  refine z_aload_n C dL_law_204 1 rfl ?_
  refine x_arg C dL_law_205 dL_law_206 dL_law_208 dL_law_209 dL_law_210 rfl rfl hS hi (j := 1) rfl (by decide) ?_
  refine x_arg C dL_law_211 dL_law_212 dL_law_214 dL_law_215 dL_law_216 rfl rfl hS hi (j := 2) rfl (by decide) ?_
  refine x_arg C dL_law_217 dL_law_218 dL_law_220 dL_law_221 dL_law_222 rfl rfl hS hi (j := 3) rfl (by decide) ?_
  refine x_arg C dL_law_223 dL_law_224 dL_law_226 dL_law_227 dL_law_228 rfl rfl hS hi (j := 4) rfl (by decide) ?_
  refine x_arg C dL_law_229 dL_law_230 dL_law_232 dL_law_233 dL_law_234 rfl rfl hS hi (j := 5) rfl (by decide) ?_
  refine y_cVi (st := []) (As := [.int (iv (S (i + 1))), .int (iv (S (i + 2))), .int (iv (S (i + 3))), .int (iv (S (i + 4))), .int (iv (S (i + 5)))]) (M1 := M1) (r := x) C dL_law_235 mL_31 k1 (tX9_feed hC 0 (S (i + 1)) (S (i + 2)) (S (i + 3)) (S (i + 4)) (S (i + 5)) (hS.2.1 _) (hS.2.1 _) (hS.2.1 _) (hS.2.1 _) (hS.2.1 _) h1) rfl rfl (Nat.le_of_ble_eq_true rfl) (by decide) (fun g1 => ?_)
  refine z_aload_n C dL_law_238 2 rfl ?_
  refine x_arg C dL_law_239 dL_law_240 dL_law_242 dL_law_243 dL_law_244 rfl rfl hS hi (j := 1) rfl (by decide) ?_
  refine x_arg C dL_law_245 dL_law_246 dL_law_248 dL_law_249 dL_law_250 rfl rfl hS hi (j := 2) rfl (by decide) ?_
  refine x_arg C dL_law_251 dL_law_252 dL_law_254 dL_law_255 dL_law_256 rfl rfl hS hi (j := 3) rfl (by decide) ?_
  refine x_arg C dL_law_257 dL_law_258 dL_law_260 dL_law_261 dL_law_262 rfl rfl hS hi (j := 4) rfl (by decide) ?_
  refine x_arg C dL_law_263 dL_law_264 dL_law_266 dL_law_267 dL_law_268 rfl rfl hS hi (j := 5) rfl (by decide) ?_
  refine y_cVi (st := [.int (iv x)]) (As := [.int (iv (S (i + 1))), .int (iv (S (i + 2))), .int (iv (S (i + 3))), .int (iv (S (i + 4))), .int (iv (S (i + 5)))]) (M1 := M2) (r := x) C dL_law_269 mL_35 k2 (tX10_feed hC 57 (S (i + 1)) (S (i + 2)) (S (i + 3)) (S (i + 4)) (S (i + 5)) (hS.2.1 _) (hS.2.1 _) (hS.2.1 _) (hS.2.1 _) (hS.2.1 _) h2) rfl rfl (Nat.le_of_ble_eq_true rfl) (by decide) (fun g2 => ?_)
  refine z_icmp_eq 1584 C dL_law_272 (by decide) g1 g2 (fun _ => ?_) (fun h => absurd rfl h)
  exact y_widen (by omega) (by omega) kk
theorem lw_end (hC : Cy G σ) (C : BxL G σ p R0 s m args meth c) (hS : Scr G σ a N S) (hi : i + 6 ≤ N) (k1 : Kd M 0 9) (k2 : Kd M1 57 10) (hk : k + 25 ≤ 601024) (hn : n + 9146 ≤ 7293034) (h1 : uX9_end 0 (S (i + 1)) M = some (x, M1)) (h2 : uX10_end 57 (S (i + 1)) M1 = some (x, M2)) (kk : Jz G σ p l e R0 s m args below meth c 7 601024 7293034 Q M2 (k + 25) (n + 9146) 1584 (LV G a i) []) : Jz G σ p l e R0 s m args below meth c 7 601024 7293034 Q M k n 277 (LV G a i) [] := by
  refine z_aload_n C dL_law_277 1 rfl ?_
  refine x_arg C dL_law_278 dL_law_279 dL_law_281 dL_law_282 dL_law_283 rfl rfl hS hi (j := 1) rfl (by decide) ?_
  refine y_cVb (st := []) (As := [.int (iv (S (i + 1)))]) (M1 := M1) (r := x) C dL_law_284 mL_36 k1 (tX9_end hC 0 (S (i + 1)) (hS.2.1 _) h1) rfl rfl (Nat.le_of_ble_eq_true rfl) (by decide) (fun g1 => ?_)
  refine z_aload_n C dL_law_287 2 rfl ?_
  refine x_arg C dL_law_288 dL_law_289 dL_law_291 dL_law_292 dL_law_293 rfl rfl hS hi (j := 1) rfl (by decide) ?_
  refine y_cVb (st := [.int (iv x)]) (As := [.int (iv (S (i + 1)))]) (M1 := M2) (r := x) C dL_law_294 mL_40 k2 (tX10_end hC 57 (S (i + 1)) (hS.2.1 _) h2) rfl rfl (Nat.le_of_ble_eq_true rfl) (by decide) (fun g2 => ?_)
  refine z_icmp_eq 1584 C dL_law_297 (by decide) (rg01 g1) (rg01 g2) (fun _ => ?_) (fun h => absurd rfl h)
  exact y_widen (by omega) (by omega) kk
theorem lw_law (hC : Cy G σ) (C : BxL G σ p R0 s m args meth c) (hS : Scr G σ a N S) (hi : i + 6 ≤ N) (k1 : Kd M 0 9) (k2 : Kd M1 57 10) (hk : k + 25 ≤ 601024) (hn : n + 9146 ≤ 7293034) (h1 : uX9_law 0  M = some (x, M1)) (h2 : uX10_law 57  M1 = some (x, M2)) (kk : Jz G σ p l e R0 s m args below meth c 7 601024 7293034 Q M2 (k + 25) (n + 9146) 1584 (LV G a i) []) : Jz G σ p l e R0 s m args below meth c 7 601024 7293034 Q M k n 302 (LV G a i) [] := by
  refine z_aload_n C dL_law_302 1 rfl ?_
  refine y_cVi (st := []) (As := []) (M1 := M1) (r := x) C dL_law_303 mL_41 k1 (tX9_law hC 0   h1) rfl rfl (Nat.le_of_ble_eq_true rfl) (by decide) (fun g1 => ?_)
  refine z_aload_n C dL_law_306 2 rfl ?_
  refine y_cVi (st := [.int (iv x)]) (As := []) (M1 := M2) (r := x) C dL_law_307 mL_45 k2 (tX10_law hC 57   h2) rfl rfl (Nat.le_of_ble_eq_true rfl) (by decide) (fun g2 => ?_)
  refine z_icmp_eq 1584 C dL_law_310 (by decide) g1 g2 (fun _ => ?_) (fun h => absurd rfl h)
  exact y_widen (by omega) (by omega) kk
theorem lw_fault (hC : Cy G σ) (C : BxL G σ p R0 s m args meth c) (hS : Scr G σ a N S) (hi : i + 6 ≤ N) (k1 : Kd M 0 9) (k2 : Kd M 57 10) (hk : k + 25 ≤ 601024) (hn : n + 9146 ≤ 7293034) (h1 : uX9_fault 0  M = some x) (h2 : uX10_fault 57  M = some (x, M2)) (kk : Jz G σ p l e R0 s m args below meth c 7 601024 7293034 Q M2 (k + 25) (n + 9146) 1584 (LV G a i) []) : Jz G σ p l e R0 s m args below meth c 7 601024 7293034 Q M k n 315 (LV G a i) [] := by
  refine z_aload_n C dL_law_315 1 rfl ?_
  refine y_cVi (st := []) (As := []) (M1 := M) (r := x) C dL_law_316 mL_46 k1 (tX9_fault hC 0   h1) rfl rfl (Nat.le_of_ble_eq_true rfl) (by decide) (fun g1 => ?_)
  refine z_aload_n C dL_law_319 2 rfl ?_
  refine y_cVi (st := [.int (iv x)]) (As := []) (M1 := M2) (r := x) C dL_law_320 mL_49 k2 (tX10_fault hC 57   h2) rfl rfl (Nat.le_of_ble_eq_true rfl) (by decide) (fun g2 => ?_)
  refine z_icmp_eq 1584 C dL_law_323 (by decide) g1 g2 (fun _ => ?_) (fun h => absurd rfl h)
  exact y_widen (by omega) (by omega) kk
theorem wl_who : MlW RL 50 yL_who cL_who 5 (some .int) [(0, 10, 13, 13)] 4 := ⟨⟨by decide +kernel, by decide +kernel, by decide +kernel⟩, by decide, (gt_5 (i := 101) (by decide +kernel) (by decide +kernel)), gt_1 (i := 0) (by decide +kernel) (by decide +kernel), (gt_5 (i := 100) (by decide +kernel) (by decide +kernel)), (gt_5 (i := 99) (by decide +kernel) (by decide +kernel))⟩
theorem lw_who_r (hC : Cy G σ) (hT : Zt G σ) (htr : ∀ e : Env, l.admits e → e.platform.stackTraces = false) (C : BxL G σ p R0 s m args meth c) (hS : Scr G σ a N S) (hi : i + 6 ≤ N) (k1 : Kd M 0 9) (ka : Ka M.1 80 13 1) (k2 : Kd (M.1, M.2.1, wj M.2.2 80 0 x) 57 10) (k3 : Kd M2 57 10) (hk : k + 25 ≤ 601024) (hn : n + 9146 ≤ 7293034) (h1 : eX9_who 0 (S (i + 1)) (S (i + 2)) M = some (.inl x)) (h2 : uX10_who 57 (S (i + 1)) (S (i + 2)) (M.1, M.2.1, wj M.2.2 80 0 x) = some (x, M2)) (h3 : uX10_thrown 57 M2 = some 0) (h4 : rg x → aJ M2 80 0 = some x) (kk : Jz G σ p l e R0 s m args below meth c 7 601024 7293034 Q M2 (k + 25) (n + 9146) 1584 (LV G a i) []) : Jz G σ p l e R0 s m args below meth c 7 601024 7293034 Q M k n 328 (LV G a i) [] := by
  have KK : rg x → Jz G σ p l e R0 s m args below meth c 7 601024 7293034 Q (M.1, M.2.1, wj M.2.2 80 0 x) (k + 1) (n + 6) 345 (LV G a i) [.int (iv 0)] := by
    intro gx
    refine z_istore (lv' := LW G a i 0) C dL_law_345 (by decide) [1, 2, 3, 4, 5, 0] rfl ?_
    refine z_aload_n C dL_law_347 2 rfl ?_
    refine x_arg C dL_law_348 dL_law_349 dL_law_351 dL_law_352 dL_law_353 rfl rfl hS hi (j := 1) rfl (by decide) ?_
    refine x_arg C dL_law_354 dL_law_355 dL_law_357 dL_law_358 dL_law_359 rfl rfl hS hi (j := 2) rfl (by decide) ?_
    refine y_cVi (st := []) (As := [.int (iv (S (i + 1))), .int (iv (S (i + 2)))]) (M1 := M2) (r := x) C dL_law_360 mL_55 k2 (tX10_who hC 57 (S (i + 1)) (S (i + 2)) (hS.2.1 _) (hS.2.1 _) h2) rfl rfl (Nat.le_of_ble_eq_true rfl) (by decide) (fun g2 => ?_)
    refine z_istore (lv' := LX G a i 0 x) C dL_law_363 (by decide) [1, 2, 3, 4, 5, 6, 0] rfl ?_
    refine z_aload_n C dL_law_365 2 rfl ?_
    refine y_cVi (st := []) (As := []) (M1 := M2) (r := 0) C dL_law_366 mL_56 k3 (tX10_thrown hC 57 h3) rfl rfl (Nat.le_of_ble_eq_true rfl) (by decide) (fun g3 => ?_)
    refine z_iload C dL_law_369 5 rfl ?_
    refine z_icmp_eq 376 C dL_law_371 (by decide) (by decide) (by decide) (fun _ => ?_) (fun h => absurd rfl h)
    refine z_iload C dL_law_376 5 rfl ?_
    refine z_if_ne 393 C dL_law_378 (by decide) (by decide) (fun h => absurd rfl h) (fun _ => ?_)
    refine z_aload_n C dL_law_381 3 rfl ?_
    refine z_iconst C dL_law_382 ?_
    refine y_lald (id := 80) (x := 0) (v := x) C dL_law_383 (h4 gx) (fun gl => ?_)
    refine z_iload C dL_law_384 6 rfl ?_
    refine z_i2l x C dL_law_386 (i2l_iv gx) ?_
    refine z_lcmp 0 C dL_law_387 ((lcmp_jv gl gl).trans (by rw [if_pos rfl])) ?_
    refine z_if_eq 393 C dL_law_388 (by decide) (by decide) (fun _ => ?_) (fun h => absurd rfl h)
    refine z_goto 1584 C dL_law_393 (by decide) ?_
    refine z_drop (lv' := LV G a i) [0, 1, 2, 3, 4] rfl ?_
    exact y_widen (by omega) (by omega) kk
  refine z_aload_n C dL_law_328 1 rfl ?_
  refine x_arg C dL_law_329 dL_law_330 dL_law_332 dL_law_333 dL_law_334 rfl rfl hS hi (j := 1) rfl (by decide) ?_
  refine x_arg C dL_law_335 dL_law_336 dL_law_338 dL_law_339 dL_law_340 rfl rfl hS hi (j := 2) rfl (by decide) ?_
  refine z_aload_n C dL_law_341 3 rfl ?_
  refine z_callSW (st := []) (As := [.ref (G.2.2 + 0), .int (iv (S (i + 1))), .int (iv (S (i + 2))), .ref (G.2.2 + 80)]) (Q2 := Qw (.inl x) M 80) C htr dL_law_342 wl_who (wL_who hC hT (hS.2.1 _) (hS.2.1 _) k1 ka h1) rfl rfl (Nat.le_of_ble_eq_true rfl) (by decide) (by omega) (by omega) (fun v M' hq => by obtain ⟨rfl, rfl, gx⟩ := hq; exact KK gx)
theorem lw_who_t (hC : Cy G σ) (hT : Zt G σ) (htr : ∀ e : Env, l.admits e → e.platform.stackTraces = false) (C : BxL G σ p R0 s m args meth c) (hS : Scr G σ a N S) (hi : i + 6 ≤ N) (k1 : Kd M 0 9) (ka : Ka M.1 80 13 1) (k2 : Kd (nC M 11 0) 57 10) (k3 : Kd M2 57 10) (hk : k + 25 ≤ 601024) (hn : n + 9146 ≤ 7293034) (h1 : eX9_who 0 (S (i + 1)) (S (i + 2)) M = some (.inr ())) (h2 : uX10_who 57 (S (i + 1)) (S (i + 2)) (nC M 11 0) = some (x, M2)) (h3 : uX10_thrown 57 M2 = some 1) (kk : Jz G σ p l e R0 s m args below meth c 7 601024 7293034 Q M2 (k + 25) (n + 9146) 1584 (LV G a i) []) : Jz G σ p l e R0 s m args below meth c 7 601024 7293034 Q M k n 328 (LV G a i) [] := by
  have KK : Jz G σ p l e R0 s m args below meth c 7 601024 7293034 Q (nC M 11 0) (k + 1) (n + 6) 345 (LV G a i) [.int (iv 1)] := by
    refine z_istore (lv' := LW G a i 1) C dL_law_345 (by decide) [1, 2, 3, 4, 5, 0] rfl ?_
    refine z_aload_n C dL_law_347 2 rfl ?_
    refine x_arg C dL_law_348 dL_law_349 dL_law_351 dL_law_352 dL_law_353 rfl rfl hS hi (j := 1) rfl (by decide) ?_
    refine x_arg C dL_law_354 dL_law_355 dL_law_357 dL_law_358 dL_law_359 rfl rfl hS hi (j := 2) rfl (by decide) ?_
    refine y_cVi (st := []) (As := [.int (iv (S (i + 1))), .int (iv (S (i + 2)))]) (M1 := M2) (r := x) C dL_law_360 mL_55 k2 (tX10_who hC 57 (S (i + 1)) (S (i + 2)) (hS.2.1 _) (hS.2.1 _) h2) rfl rfl (Nat.le_of_ble_eq_true rfl) (by decide) (fun g2 => ?_)
    refine z_istore (lv' := LX G a i 1 x) C dL_law_363 (by decide) [1, 2, 3, 4, 5, 6, 0] rfl ?_
    refine z_aload_n C dL_law_365 2 rfl ?_
    refine y_cVi (st := []) (As := []) (M1 := M2) (r := 1) C dL_law_366 mL_56 k3 (tX10_thrown hC 57 h3) rfl rfl (Nat.le_of_ble_eq_true rfl) (by decide) (fun g3 => ?_)
    refine z_iload C dL_law_369 5 rfl ?_
    refine z_icmp_eq 376 C dL_law_371 (by decide) (by decide) (by decide) (fun _ => ?_) (fun h => absurd rfl h)
    refine z_iload C dL_law_376 5 rfl ?_
    refine z_if_ne 393 C dL_law_378 (by decide) (by decide) (fun _ => ?_) (fun h => absurd h (by decide))
    refine z_goto 1584 C dL_law_393 (by decide) ?_
    refine z_drop (lv' := LV G a i) [0, 1, 2, 3, 4] rfl ?_
    exact y_widen (by omega) (by omega) kk
  refine z_aload_n C dL_law_328 1 rfl ?_
  refine x_arg C dL_law_329 dL_law_330 dL_law_332 dL_law_333 dL_law_334 rfl rfl hS hi (j := 1) rfl (by decide) ?_
  refine x_arg C dL_law_335 dL_law_336 dL_law_338 dL_law_339 dL_law_340 rfl rfl hS hi (j := 2) rfl (by decide) ?_
  refine z_aload_n C dL_law_341 3 rfl ?_
  refine z_callSW (st := []) (As := [.ref (G.2.2 + 0), .int (iv (S (i + 1))), .int (iv (S (i + 2))), .ref (G.2.2 + 80)]) (Q2 := Qw (.inr ()) M 80) C htr dL_law_342 wl_who (wL_who hC hT (hS.2.1 _) (hS.2.1 _) k1 ka h1) rfl rfl (Nat.le_of_ble_eq_true rfl) (by decide) (by omega) (by omega) (fun v M' hq => by obtain ⟨rfl, rfl⟩ := hq; exact KK)
theorem wl_mint : MlW RL 59 yL_mint cL_mint 5 (some .int) [(0, 10, 13, 13)] 4 := ⟨⟨by decide +kernel, by decide +kernel, by decide +kernel⟩, by decide, (gt_5 (i := 188) (by decide +kernel) (by decide +kernel)), gt_1 (i := 0) (by decide +kernel) (by decide +kernel), (gt_5 (i := 187) (by decide +kernel) (by decide +kernel)), (gt_5 (i := 186) (by decide +kernel) (by decide +kernel))⟩
theorem lw_mint_r (hC : Cy G σ) (hT : Zt G σ) (htr : ∀ e : Env, l.admits e → e.platform.stackTraces = false) (C : BxL G σ p R0 s m args meth c) (hS : Scr G σ a N S) (hi : i + 6 ≤ N) (k1 : Kd M 0 9) (ka : Ka M.1 80 13 1) (k2 : Kd (M.1, M.2.1, wj M.2.2 80 0 x) 57 10) (k3 : Kd M2 57 10) (hk : k + 25 ≤ 601024) (hn : n + 9146 ≤ 7293034) (h1 : eX9_mint 0 (S (i + 1)) (S (i + 2)) M = some (.inl x)) (h2 : uX10_mint 57 (S (i + 1)) (S (i + 2)) (M.1, M.2.1, wj M.2.2 80 0 x) = some (x, M2)) (h3 : uX10_thrown 57 M2 = some 0) (h4 : rg x → aJ M2 80 0 = some x) (kk : Jz G σ p l e R0 s m args below meth c 7 601024 7293034 Q M2 (k + 25) (n + 9146) 1584 (LV G a i) []) : Jz G σ p l e R0 s m args below meth c 7 601024 7293034 Q M k n 396 (LV G a i) [] := by
  have KK : rg x → Jz G σ p l e R0 s m args below meth c 7 601024 7293034 Q (M.1, M.2.1, wj M.2.2 80 0 x) (k + 1) (n + 6) 413 (LV G a i) [.int (iv 0)] := by
    intro gx
    refine z_istore (lv' := LW G a i 0) C dL_law_413 (by decide) [1, 2, 3, 4, 5, 0] rfl ?_
    refine z_aload_n C dL_law_415 2 rfl ?_
    refine x_arg C dL_law_416 dL_law_417 dL_law_419 dL_law_420 dL_law_421 rfl rfl hS hi (j := 1) rfl (by decide) ?_
    refine x_arg C dL_law_422 dL_law_423 dL_law_425 dL_law_426 dL_law_427 rfl rfl hS hi (j := 2) rfl (by decide) ?_
    refine y_cVi (st := []) (As := [.int (iv (S (i + 1))), .int (iv (S (i + 2)))]) (M1 := M2) (r := x) C dL_law_428 mL_61 k2 (tX10_mint hC 57 (S (i + 1)) (S (i + 2)) (hS.2.1 _) (hS.2.1 _) h2) rfl rfl (Nat.le_of_ble_eq_true rfl) (by decide) (fun g2 => ?_)
    refine z_istore (lv' := LX G a i 0 x) C dL_law_431 (by decide) [1, 2, 3, 4, 5, 6, 0] rfl ?_
    refine z_aload_n C dL_law_433 2 rfl ?_
    refine y_cVi (st := []) (As := []) (M1 := M2) (r := 0) C dL_law_434 mL_56 k3 (tX10_thrown hC 57 h3) rfl rfl (Nat.le_of_ble_eq_true rfl) (by decide) (fun g3 => ?_)
    refine z_iload C dL_law_437 5 rfl ?_
    refine z_icmp_eq 444 C dL_law_439 (by decide) (by decide) (by decide) (fun _ => ?_) (fun h => absurd rfl h)
    refine z_iload C dL_law_444 5 rfl ?_
    refine z_if_ne 461 C dL_law_446 (by decide) (by decide) (fun h => absurd rfl h) (fun _ => ?_)
    refine z_aload_n C dL_law_449 3 rfl ?_
    refine z_iconst C dL_law_450 ?_
    refine y_lald (id := 80) (x := 0) (v := x) C dL_law_451 (h4 gx) (fun gl => ?_)
    refine z_iload C dL_law_452 6 rfl ?_
    refine z_i2l x C dL_law_454 (i2l_iv gx) ?_
    refine z_lcmp 0 C dL_law_455 ((lcmp_jv gl gl).trans (by rw [if_pos rfl])) ?_
    refine z_if_eq 461 C dL_law_456 (by decide) (by decide) (fun _ => ?_) (fun h => absurd rfl h)
    refine z_goto 1584 C dL_law_461 (by decide) ?_
    refine z_drop (lv' := LV G a i) [0, 1, 2, 3, 4] rfl ?_
    exact y_widen (by omega) (by omega) kk
  refine z_aload_n C dL_law_396 1 rfl ?_
  refine x_arg C dL_law_397 dL_law_398 dL_law_400 dL_law_401 dL_law_402 rfl rfl hS hi (j := 1) rfl (by decide) ?_
  refine x_arg C dL_law_403 dL_law_404 dL_law_406 dL_law_407 dL_law_408 rfl rfl hS hi (j := 2) rfl (by decide) ?_
  refine z_aload_n C dL_law_409 3 rfl ?_
  refine z_callSW (st := []) (As := [.ref (G.2.2 + 0), .int (iv (S (i + 1))), .int (iv (S (i + 2))), .ref (G.2.2 + 80)]) (Q2 := Qw (.inl x) M 80) C htr dL_law_410 wl_mint (wL_mint hC hT (hS.2.1 _) (hS.2.1 _) k1 ka h1) rfl rfl (Nat.le_of_ble_eq_true rfl) (by decide) (by omega) (by omega) (fun v M' hq => by obtain ⟨rfl, rfl, gx⟩ := hq; exact KK gx)
theorem lw_mint_t (hC : Cy G σ) (hT : Zt G σ) (htr : ∀ e : Env, l.admits e → e.platform.stackTraces = false) (C : BxL G σ p R0 s m args meth c) (hS : Scr G σ a N S) (hi : i + 6 ≤ N) (k1 : Kd M 0 9) (ka : Ka M.1 80 13 1) (k2 : Kd (nC M 11 0) 57 10) (k3 : Kd M2 57 10) (hk : k + 25 ≤ 601024) (hn : n + 9146 ≤ 7293034) (h1 : eX9_mint 0 (S (i + 1)) (S (i + 2)) M = some (.inr ())) (h2 : uX10_mint 57 (S (i + 1)) (S (i + 2)) (nC M 11 0) = some (x, M2)) (h3 : uX10_thrown 57 M2 = some 1) (kk : Jz G σ p l e R0 s m args below meth c 7 601024 7293034 Q M2 (k + 25) (n + 9146) 1584 (LV G a i) []) : Jz G σ p l e R0 s m args below meth c 7 601024 7293034 Q M k n 396 (LV G a i) [] := by
  have KK : Jz G σ p l e R0 s m args below meth c 7 601024 7293034 Q (nC M 11 0) (k + 1) (n + 6) 413 (LV G a i) [.int (iv 1)] := by
    refine z_istore (lv' := LW G a i 1) C dL_law_413 (by decide) [1, 2, 3, 4, 5, 0] rfl ?_
    refine z_aload_n C dL_law_415 2 rfl ?_
    refine x_arg C dL_law_416 dL_law_417 dL_law_419 dL_law_420 dL_law_421 rfl rfl hS hi (j := 1) rfl (by decide) ?_
    refine x_arg C dL_law_422 dL_law_423 dL_law_425 dL_law_426 dL_law_427 rfl rfl hS hi (j := 2) rfl (by decide) ?_
    refine y_cVi (st := []) (As := [.int (iv (S (i + 1))), .int (iv (S (i + 2)))]) (M1 := M2) (r := x) C dL_law_428 mL_61 k2 (tX10_mint hC 57 (S (i + 1)) (S (i + 2)) (hS.2.1 _) (hS.2.1 _) h2) rfl rfl (Nat.le_of_ble_eq_true rfl) (by decide) (fun g2 => ?_)
    refine z_istore (lv' := LX G a i 1 x) C dL_law_431 (by decide) [1, 2, 3, 4, 5, 6, 0] rfl ?_
    refine z_aload_n C dL_law_433 2 rfl ?_
    refine y_cVi (st := []) (As := []) (M1 := M2) (r := 1) C dL_law_434 mL_56 k3 (tX10_thrown hC 57 h3) rfl rfl (Nat.le_of_ble_eq_true rfl) (by decide) (fun g3 => ?_)
    refine z_iload C dL_law_437 5 rfl ?_
    refine z_icmp_eq 444 C dL_law_439 (by decide) (by decide) (by decide) (fun _ => ?_) (fun h => absurd rfl h)
    refine z_iload C dL_law_444 5 rfl ?_
    refine z_if_ne 461 C dL_law_446 (by decide) (by decide) (fun _ => ?_) (fun h => absurd h (by decide))
    refine z_goto 1584 C dL_law_461 (by decide) ?_
    refine z_drop (lv' := LV G a i) [0, 1, 2, 3, 4] rfl ?_
    exact y_widen (by omega) (by omega) kk
  refine z_aload_n C dL_law_396 1 rfl ?_
  refine x_arg C dL_law_397 dL_law_398 dL_law_400 dL_law_401 dL_law_402 rfl rfl hS hi (j := 1) rfl (by decide) ?_
  refine x_arg C dL_law_403 dL_law_404 dL_law_406 dL_law_407 dL_law_408 rfl rfl hS hi (j := 2) rfl (by decide) ?_
  refine z_aload_n C dL_law_409 3 rfl ?_
  refine z_callSW (st := []) (As := [.ref (G.2.2 + 0), .int (iv (S (i + 1))), .int (iv (S (i + 2))), .ref (G.2.2 + 80)]) (Q2 := Qw (.inr ()) M 80) C htr dL_law_410 wl_mint (wL_mint hC hT (hS.2.1 _) (hS.2.1 _) k1 ka h1) rfl rfl (Nat.le_of_ble_eq_true rfl) (by decide) (by omega) (by omega) (fun v M' hq => by obtain ⟨rfl, rfl⟩ := hq; exact KK)
theorem lw_coin (hC : Cy G σ) (C : BxL G σ p R0 s m args meth c) (hS : Scr G σ a N S) (hi : i + 6 ≤ N) (k1 : Kd M 0 9) (k2 : Kd M1 57 10) (hk : k + 25 ≤ 601024) (hn : n + 9146 ≤ 7293034) (h1 : uX9_coin 0 (S (i + 1)) (S (i + 2)) (S (i + 3)) M = some (x, M1)) (h2 : uX10_coin 57 (S (i + 1)) (S (i + 2)) (S (i + 3)) M1 = some (x, M2)) (kk : Jz G σ p l e R0 s m args below meth c 7 601024 7293034 Q M2 (k + 25) (n + 9146) 1584 (LV G a i) []) : Jz G σ p l e R0 s m args below meth c 7 601024 7293034 Q M k n 464 (LV G a i) [] := by
  refine z_aload_n C dL_law_464 1 rfl ?_
  refine x_arg C dL_law_465 dL_law_466 dL_law_468 dL_law_469 dL_law_470 rfl rfl hS hi (j := 1) rfl (by decide) ?_
  refine x_arg C dL_law_471 dL_law_472 dL_law_474 dL_law_475 dL_law_476 rfl rfl hS hi (j := 2) rfl (by decide) ?_
  refine x_arg C dL_law_477 dL_law_478 dL_law_480 dL_law_481 dL_law_482 rfl rfl hS hi (j := 3) rfl (by decide) ?_
  refine y_cVia (st := []) (As := [.int (iv (S (i + 1))), .int (iv (S (i + 2))), .int (iv (S (i + 3)))]) (M1 := M1) (r := x) C dL_law_483 mL_62 k1 (tX9_coin hC 0 (S (i + 1)) (S (i + 2)) (S (i + 3)) (hS.2.1 _) (hS.2.1 _) (hS.2.1 _) h1) rfl rfl (Nat.le_of_ble_eq_true rfl) (by decide) (fun g1 => ?_)
  refine z_aload_n C dL_law_486 2 rfl ?_
  refine x_arg C dL_law_487 dL_law_488 dL_law_490 dL_law_491 dL_law_492 rfl rfl hS hi (j := 1) rfl (by decide) ?_
  refine x_arg C dL_law_493 dL_law_494 dL_law_496 dL_law_497 dL_law_498 rfl rfl hS hi (j := 2) rfl (by decide) ?_
  refine x_arg C dL_law_499 dL_law_500 dL_law_502 dL_law_503 dL_law_504 rfl rfl hS hi (j := 3) rfl (by decide) ?_
  refine y_cVi (st := [.int (iv x)]) (As := [.int (iv (S (i + 1))), .int (iv (S (i + 2))), .int (iv (S (i + 3)))]) (M1 := M2) (r := x) C dL_law_505 mL_66 k2 (tX10_coin hC 57 (S (i + 1)) (S (i + 2)) (S (i + 3)) (hS.2.1 _) (hS.2.1 _) (hS.2.1 _) h2) rfl rfl (Nat.le_of_ble_eq_true rfl) (by decide) (fun g2 => ?_)
  refine z_icmp_eq 1584 C dL_law_508 (by decide) g1 g2 (fun _ => ?_) (fun h => absurd rfl h)
  exact y_widen (by omega) (by omega) kk
theorem wl_of : MlW RL 67 yL_of cL_of 5 (some .int) [(0, 10, 13, 13)] 4 := ⟨⟨by decide +kernel, by decide +kernel, by decide +kernel⟩, by decide, (gt_5 (i := 201) (by decide +kernel) (by decide +kernel)), gt_1 (i := 0) (by decide +kernel) (by decide +kernel), (gt_5 (i := 200) (by decide +kernel) (by decide +kernel)), (gt_5 (i := 199) (by decide +kernel) (by decide +kernel))⟩
theorem lw_of_r (hC : Cy G σ) (hT : Zt G σ) (htr : ∀ e : Env, l.admits e → e.platform.stackTraces = false) (C : BxL G σ p R0 s m args meth c) (hS : Scr G σ a N S) (hi : i + 6 ≤ N) (k1 : Kd M 0 9) (ka : Ka M.1 80 13 1) (k2 : Kd (M.1, M.2.1, wj M.2.2 80 0 x) 57 10) (k3 : Kd M2 57 10) (hk : k + 25 ≤ 601024) (hn : n + 9146 ≤ 7293034) (h1 : eX9_of 0 (S (i + 1)) (S (i + 2)) M = some (.inl x)) (h2 : uX10_of 57 (S (i + 1)) (S (i + 2)) (M.1, M.2.1, wj M.2.2 80 0 x) = some (x, M2)) (h3 : uX10_thrown 57 M2 = some 0) (h4 : rg x → aJ M2 80 0 = some x) (kk : Jz G σ p l e R0 s m args below meth c 7 601024 7293034 Q M2 (k + 25) (n + 9146) 1584 (LV G a i) []) : Jz G σ p l e R0 s m args below meth c 7 601024 7293034 Q M k n 513 (LV G a i) [] := by
  have KK : rg x → Jz G σ p l e R0 s m args below meth c 7 601024 7293034 Q (M.1, M.2.1, wj M.2.2 80 0 x) (k + 1) (n + 6) 530 (LV G a i) [.int (iv 0)] := by
    intro gx
    refine z_istore (lv' := LW G a i 0) C dL_law_530 (by decide) [1, 2, 3, 4, 5, 0] rfl ?_
    refine z_aload_n C dL_law_532 2 rfl ?_
    refine x_arg C dL_law_533 dL_law_534 dL_law_536 dL_law_537 dL_law_538 rfl rfl hS hi (j := 1) rfl (by decide) ?_
    refine x_arg C dL_law_539 dL_law_540 dL_law_542 dL_law_543 dL_law_544 rfl rfl hS hi (j := 2) rfl (by decide) ?_
    refine y_cVi (st := []) (As := [.int (iv (S (i + 1))), .int (iv (S (i + 2)))]) (M1 := M2) (r := x) C dL_law_545 mL_69 k2 (tX10_of hC 57 (S (i + 1)) (S (i + 2)) (hS.2.1 _) (hS.2.1 _) h2) rfl rfl (Nat.le_of_ble_eq_true rfl) (by decide) (fun g2 => ?_)
    refine z_istore (lv' := LX G a i 0 x) C dL_law_548 (by decide) [1, 2, 3, 4, 5, 6, 0] rfl ?_
    refine z_aload_n C dL_law_550 2 rfl ?_
    refine y_cVi (st := []) (As := []) (M1 := M2) (r := 0) C dL_law_551 mL_56 k3 (tX10_thrown hC 57 h3) rfl rfl (Nat.le_of_ble_eq_true rfl) (by decide) (fun g3 => ?_)
    refine z_iload C dL_law_554 5 rfl ?_
    refine z_icmp_eq 561 C dL_law_556 (by decide) (by decide) (by decide) (fun _ => ?_) (fun h => absurd rfl h)
    refine z_iload C dL_law_561 5 rfl ?_
    refine z_if_ne 578 C dL_law_563 (by decide) (by decide) (fun h => absurd rfl h) (fun _ => ?_)
    refine z_aload_n C dL_law_566 3 rfl ?_
    refine z_iconst C dL_law_567 ?_
    refine y_lald (id := 80) (x := 0) (v := x) C dL_law_568 (h4 gx) (fun gl => ?_)
    refine z_iload C dL_law_569 6 rfl ?_
    refine z_i2l x C dL_law_571 (i2l_iv gx) ?_
    refine z_lcmp 0 C dL_law_572 ((lcmp_jv gl gl).trans (by rw [if_pos rfl])) ?_
    refine z_if_eq 578 C dL_law_573 (by decide) (by decide) (fun _ => ?_) (fun h => absurd rfl h)
    refine z_goto 1584 C dL_law_578 (by decide) ?_
    refine z_drop (lv' := LV G a i) [0, 1, 2, 3, 4] rfl ?_
    exact y_widen (by omega) (by omega) kk
  refine z_aload_n C dL_law_513 1 rfl ?_
  refine x_arg C dL_law_514 dL_law_515 dL_law_517 dL_law_518 dL_law_519 rfl rfl hS hi (j := 1) rfl (by decide) ?_
  refine x_arg C dL_law_520 dL_law_521 dL_law_523 dL_law_524 dL_law_525 rfl rfl hS hi (j := 2) rfl (by decide) ?_
  refine z_aload_n C dL_law_526 3 rfl ?_
  refine z_callSW (st := []) (As := [.ref (G.2.2 + 0), .int (iv (S (i + 1))), .int (iv (S (i + 2))), .ref (G.2.2 + 80)]) (Q2 := Qw (.inl x) M 80) C htr dL_law_527 wl_of (wL_of hC hT (hS.2.1 _) (hS.2.1 _) k1 ka h1) rfl rfl (Nat.le_of_ble_eq_true rfl) (by decide) (by omega) (by omega) (fun v M' hq => by obtain ⟨rfl, rfl, gx⟩ := hq; exact KK gx)
theorem lw_of_t (hC : Cy G σ) (hT : Zt G σ) (htr : ∀ e : Env, l.admits e → e.platform.stackTraces = false) (C : BxL G σ p R0 s m args meth c) (hS : Scr G σ a N S) (hi : i + 6 ≤ N) (k1 : Kd M 0 9) (ka : Ka M.1 80 13 1) (k2 : Kd (nC M 11 0) 57 10) (k3 : Kd M2 57 10) (hk : k + 25 ≤ 601024) (hn : n + 9146 ≤ 7293034) (h1 : eX9_of 0 (S (i + 1)) (S (i + 2)) M = some (.inr ())) (h2 : uX10_of 57 (S (i + 1)) (S (i + 2)) (nC M 11 0) = some (x, M2)) (h3 : uX10_thrown 57 M2 = some 1) (kk : Jz G σ p l e R0 s m args below meth c 7 601024 7293034 Q M2 (k + 25) (n + 9146) 1584 (LV G a i) []) : Jz G σ p l e R0 s m args below meth c 7 601024 7293034 Q M k n 513 (LV G a i) [] := by
  have KK : Jz G σ p l e R0 s m args below meth c 7 601024 7293034 Q (nC M 11 0) (k + 1) (n + 6) 530 (LV G a i) [.int (iv 1)] := by
    refine z_istore (lv' := LW G a i 1) C dL_law_530 (by decide) [1, 2, 3, 4, 5, 0] rfl ?_
    refine z_aload_n C dL_law_532 2 rfl ?_
    refine x_arg C dL_law_533 dL_law_534 dL_law_536 dL_law_537 dL_law_538 rfl rfl hS hi (j := 1) rfl (by decide) ?_
    refine x_arg C dL_law_539 dL_law_540 dL_law_542 dL_law_543 dL_law_544 rfl rfl hS hi (j := 2) rfl (by decide) ?_
    refine y_cVi (st := []) (As := [.int (iv (S (i + 1))), .int (iv (S (i + 2)))]) (M1 := M2) (r := x) C dL_law_545 mL_69 k2 (tX10_of hC 57 (S (i + 1)) (S (i + 2)) (hS.2.1 _) (hS.2.1 _) h2) rfl rfl (Nat.le_of_ble_eq_true rfl) (by decide) (fun g2 => ?_)
    refine z_istore (lv' := LX G a i 1 x) C dL_law_548 (by decide) [1, 2, 3, 4, 5, 6, 0] rfl ?_
    refine z_aload_n C dL_law_550 2 rfl ?_
    refine y_cVi (st := []) (As := []) (M1 := M2) (r := 1) C dL_law_551 mL_56 k3 (tX10_thrown hC 57 h3) rfl rfl (Nat.le_of_ble_eq_true rfl) (by decide) (fun g3 => ?_)
    refine z_iload C dL_law_554 5 rfl ?_
    refine z_icmp_eq 561 C dL_law_556 (by decide) (by decide) (by decide) (fun _ => ?_) (fun h => absurd rfl h)
    refine z_iload C dL_law_561 5 rfl ?_
    refine z_if_ne 578 C dL_law_563 (by decide) (by decide) (fun _ => ?_) (fun h => absurd h (by decide))
    refine z_goto 1584 C dL_law_578 (by decide) ?_
    refine z_drop (lv' := LV G a i) [0, 1, 2, 3, 4] rfl ?_
    exact y_widen (by omega) (by omega) kk
  refine z_aload_n C dL_law_513 1 rfl ?_
  refine x_arg C dL_law_514 dL_law_515 dL_law_517 dL_law_518 dL_law_519 rfl rfl hS hi (j := 1) rfl (by decide) ?_
  refine x_arg C dL_law_520 dL_law_521 dL_law_523 dL_law_524 dL_law_525 rfl rfl hS hi (j := 2) rfl (by decide) ?_
  refine z_aload_n C dL_law_526 3 rfl ?_
  refine z_callSW (st := []) (As := [.ref (G.2.2 + 0), .int (iv (S (i + 1))), .int (iv (S (i + 2))), .ref (G.2.2 + 80)]) (Q2 := Qw (.inr ()) M 80) C htr dL_law_527 wl_of (wL_of hC hT (hS.2.1 _) (hS.2.1 _) k1 ka h1) rfl rfl (Nat.le_of_ble_eq_true rfl) (by decide) (by omega) (by omega) (fun v M' hq => by obtain ⟨rfl, rfl⟩ := hq; exact KK)
theorem lw_face (hC : Cy G σ) (C : BxL G σ p R0 s m args meth c) (hS : Scr G σ a N S) (hi : i + 6 ≤ N) (k1 : Kd M 0 9) (k2 : Kd M 57 10) (hk : k + 25 ≤ 601024) (hn : n + 9146 ≤ 7293034) (h1 : uX9_face 0 (S (i + 1)) (S (i + 2)) (S (i + 3)) M = some x) (h2 : uX10_face 57 (S (i + 1)) (S (i + 2)) (S (i + 3)) M = some (x, M2)) (kk : Jz G σ p l e R0 s m args below meth c 7 601024 7293034 Q M2 (k + 25) (n + 9146) 1584 (LV G a i) []) : Jz G σ p l e R0 s m args below meth c 7 601024 7293034 Q M k n 581 (LV G a i) [] := by
  refine z_aload_n C dL_law_581 1 rfl ?_
  refine x_arg C dL_law_582 dL_law_583 dL_law_585 dL_law_586 dL_law_587 rfl rfl hS hi (j := 1) rfl (by decide) ?_
  refine x_arg C dL_law_588 dL_law_589 dL_law_591 dL_law_592 dL_law_593 rfl rfl hS hi (j := 2) rfl (by decide) ?_
  refine x_arg C dL_law_594 dL_law_595 dL_law_597 dL_law_598 dL_law_599 rfl rfl hS hi (j := 3) rfl (by decide) ?_
  refine y_cVi (st := []) (As := [.int (iv (S (i + 1))), .int (iv (S (i + 2))), .int (iv (S (i + 3)))]) (M1 := M) (r := x) C dL_law_600 mL_70 k1 (tX9_face hC 0 (S (i + 1)) (S (i + 2)) (S (i + 3)) (hS.2.1 _) (hS.2.1 _) (hS.2.1 _) h1) rfl rfl (Nat.le_of_ble_eq_true rfl) (by decide) (fun g1 => ?_)
  refine z_aload_n C dL_law_603 2 rfl ?_
  refine x_arg C dL_law_604 dL_law_605 dL_law_607 dL_law_608 dL_law_609 rfl rfl hS hi (j := 1) rfl (by decide) ?_
  refine x_arg C dL_law_610 dL_law_611 dL_law_613 dL_law_614 dL_law_615 rfl rfl hS hi (j := 2) rfl (by decide) ?_
  refine x_arg C dL_law_616 dL_law_617 dL_law_619 dL_law_620 dL_law_621 rfl rfl hS hi (j := 3) rfl (by decide) ?_
  refine y_cVi (st := [.int (iv x)]) (As := [.int (iv (S (i + 1))), .int (iv (S (i + 2))), .int (iv (S (i + 3)))]) (M1 := M2) (r := x) C dL_law_622 mL_73 k2 (tX10_face hC 57 (S (i + 1)) (S (i + 2)) (S (i + 3)) (hS.2.1 _) (hS.2.1 _) (hS.2.1 _) h2) rfl rfl (Nat.le_of_ble_eq_true rfl) (by decide) (fun g2 => ?_)
  refine z_icmp_eq 1584 C dL_law_625 (by decide) g1 g2 (fun _ => ?_) (fun h => absurd rfl h)
  exact y_widen (by omega) (by omega) kk
theorem lw_value (hC : Cy G σ) (C : BxL G σ p R0 s m args meth c) (hS : Scr G σ a N S) (hi : i + 6 ≤ N) (k1 : Kd M 0 9) (k2 : Kd M 57 10) (hk : k + 25 ≤ 601024) (hn : n + 9146 ≤ 7293034) (h1 : uX9_value 0 (S (i + 1)) (S (i + 2)) (S (i + 3)) M = some x) (h2 : uX10_value 57 (S (i + 1)) (S (i + 2)) (S (i + 3)) M = some (x, M2)) (kk : Jz G σ p l e R0 s m args below meth c 7 601024 7293034 Q M2 (k + 25) (n + 9146) 1584 (LV G a i) []) : Jz G σ p l e R0 s m args below meth c 7 601024 7293034 Q M k n 630 (LV G a i) [] := by
  refine z_aload_n C dL_law_630 1 rfl ?_
  refine x_arg C dL_law_631 dL_law_632 dL_law_634 dL_law_635 dL_law_636 rfl rfl hS hi (j := 1) rfl (by decide) ?_
  refine x_arg C dL_law_637 dL_law_638 dL_law_640 dL_law_641 dL_law_642 rfl rfl hS hi (j := 2) rfl (by decide) ?_
  refine x_arg C dL_law_643 dL_law_644 dL_law_646 dL_law_647 dL_law_648 rfl rfl hS hi (j := 3) rfl (by decide) ?_
  refine y_cVi (st := []) (As := [.int (iv (S (i + 1))), .int (iv (S (i + 2))), .int (iv (S (i + 3)))]) (M1 := M) (r := x) C dL_law_649 mL_74 k1 (tX9_value hC 0 (S (i + 1)) (S (i + 2)) (S (i + 3)) (hS.2.1 _) (hS.2.1 _) (hS.2.1 _) h1) rfl rfl (Nat.le_of_ble_eq_true rfl) (by decide) (fun g1 => ?_)
  refine z_aload_n C dL_law_652 2 rfl ?_
  refine x_arg C dL_law_653 dL_law_654 dL_law_656 dL_law_657 dL_law_658 rfl rfl hS hi (j := 1) rfl (by decide) ?_
  refine x_arg C dL_law_659 dL_law_660 dL_law_662 dL_law_663 dL_law_664 rfl rfl hS hi (j := 2) rfl (by decide) ?_
  refine x_arg C dL_law_665 dL_law_666 dL_law_668 dL_law_669 dL_law_670 rfl rfl hS hi (j := 3) rfl (by decide) ?_
  refine y_cVi (st := [.int (iv x)]) (As := [.int (iv (S (i + 1))), .int (iv (S (i + 2))), .int (iv (S (i + 3)))]) (M1 := M2) (r := x) C dL_law_671 mL_77 k2 (tX10_value hC 57 (S (i + 1)) (S (i + 2)) (S (i + 3)) (hS.2.1 _) (hS.2.1 _) (hS.2.1 _) h2) rfl rfl (Nat.le_of_ble_eq_true rfl) (by decide) (fun g2 => ?_)
  refine z_icmp_eq 1584 C dL_law_674 (by decide) g1 g2 (fun _ => ?_) (fun h => absurd rfl h)
  exact y_widen (by omega) (by omega) kk
theorem lw_luck (hC : Cy G σ) (C : BxL G σ p R0 s m args meth c) (hS : Scr G σ a N S) (hi : i + 6 ≤ N) (k1 : Kd M 0 9) (k2 : Kd M 57 10) (hk : k + 25 ≤ 601024) (hn : n + 9146 ≤ 7293034) (h1 : uX9_luck 0  M = some x) (h2 : uX10_luck 57  M = some (x, M2)) (kk : Jz G σ p l e R0 s m args below meth c 7 601024 7293034 Q M2 (k + 25) (n + 9146) 1584 (LV G a i) []) : Jz G σ p l e R0 s m args below meth c 7 601024 7293034 Q M k n 679 (LV G a i) [] := by
  refine z_aload_n C dL_law_679 1 rfl ?_
  refine y_cVi (st := []) (As := []) (M1 := M) (r := x) C dL_law_680 mL_78 k1 (tX9_luck hC 0   h1) rfl rfl (Nat.le_of_ble_eq_true rfl) (by decide) (fun g1 => ?_)
  refine z_aload_n C dL_law_683 2 rfl ?_
  refine y_cVi (st := [.int (iv x)]) (As := []) (M1 := M2) (r := x) C dL_law_684 mL_81 k2 (tX10_luck hC 57   h2) rfl rfl (Nat.le_of_ble_eq_true rfl) (by decide) (fun g2 => ?_)
  refine z_icmp_eq 1584 C dL_law_687 (by decide) g1 g2 (fun _ => ?_) (fun h => absurd rfl h)
  exact y_widen (by omega) (by omega) kk
theorem lw_bears (hC : Cy G σ) (C : BxL G σ p R0 s m args meth c) (hS : Scr G σ a N S) (hi : i + 6 ≤ N) (k1 : Kd M 0 9) (k2 : Kd M 57 10) (hk : k + 25 ≤ 601024) (hn : n + 9146 ≤ 7293034) (h1 : uX9_bears 0 (S (i + 1)) (S (i + 2)) M = some x) (h2 : uX10_bears 57 (S (i + 1)) (S (i + 2)) M = some (x, M2)) (kk : Jz G σ p l e R0 s m args below meth c 7 601024 7293034 Q M2 (k + 25) (n + 9146) 1584 (LV G a i) []) : Jz G σ p l e R0 s m args below meth c 7 601024 7293034 Q M k n 692 (LV G a i) [] := by
  refine z_aload_n C dL_law_692 1 rfl ?_
  refine x_arg C dL_law_693 dL_law_694 dL_law_696 dL_law_697 dL_law_698 rfl rfl hS hi (j := 1) rfl (by decide) ?_
  refine x_arg C dL_law_699 dL_law_700 dL_law_702 dL_law_703 dL_law_704 rfl rfl hS hi (j := 2) rfl (by decide) ?_
  refine y_cVi (st := []) (As := [.int (iv (S (i + 1))), .int (iv (S (i + 2)))]) (M1 := M) (r := x) C dL_law_705 mL_82 k1 (tX9_bears hC 0 (S (i + 1)) (S (i + 2)) (hS.2.1 _) (hS.2.1 _) h1) rfl rfl (Nat.le_of_ble_eq_true rfl) (by decide) (fun g1 => ?_)
  refine z_aload_n C dL_law_708 2 rfl ?_
  refine x_arg C dL_law_709 dL_law_710 dL_law_712 dL_law_713 dL_law_714 rfl rfl hS hi (j := 1) rfl (by decide) ?_
  refine x_arg C dL_law_715 dL_law_716 dL_law_718 dL_law_719 dL_law_720 rfl rfl hS hi (j := 2) rfl (by decide) ?_
  refine y_cVi (st := [.int (iv x)]) (As := [.int (iv (S (i + 1))), .int (iv (S (i + 2)))]) (M1 := M2) (r := x) C dL_law_721 mL_85 k2 (tX10_bears hC 57 (S (i + 1)) (S (i + 2)) (hS.2.1 _) (hS.2.1 _) h2) rfl rfl (Nat.le_of_ble_eq_true rfl) (by decide) (fun g2 => ?_)
  refine z_icmp_eq 1584 C dL_law_724 (by decide) g1 g2 (fun _ => ?_) (fun h => absurd rfl h)
  exact y_widen (by omega) (by omega) kk
theorem lw_sale (hC : Cy G σ) (C : BxL G σ p R0 s m args meth c) (hS : Scr G σ a N S) (hi : i + 6 ≤ N) (k1 : Kd M 0 9) (k2 : Kd M1 57 10) (hk : k + 25 ≤ 601024) (hn : n + 9146 ≤ 7293034) (h1 : uX9_sale 0 (S (i + 1)) (S (i + 2)) (S (i + 3)) (S (i + 4)) M = some (x, M1)) (h2 : uX10_sale 57 (S (i + 1)) (S (i + 2)) (S (i + 3)) (S (i + 4)) M1 = some (x, M2)) (kk : Jz G σ p l e R0 s m args below meth c 7 601024 7293034 Q M2 (k + 25) (n + 9146) 1584 (LV G a i) []) : Jz G σ p l e R0 s m args below meth c 7 601024 7293034 Q M k n 729 (LV G a i) [] := by
  refine z_aload_n C dL_law_729 1 rfl ?_
  refine x_arg C dL_law_730 dL_law_731 dL_law_733 dL_law_734 dL_law_735 rfl rfl hS hi (j := 1) rfl (by decide) ?_
  refine x_arg C dL_law_736 dL_law_737 dL_law_739 dL_law_740 dL_law_741 rfl rfl hS hi (j := 2) rfl (by decide) ?_
  refine x_arg C dL_law_742 dL_law_743 dL_law_745 dL_law_746 dL_law_747 rfl rfl hS hi (j := 3) rfl (by decide) ?_
  refine x_arg C dL_law_748 dL_law_749 dL_law_751 dL_law_752 dL_law_753 rfl rfl hS hi (j := 4) rfl (by decide) ?_
  refine y_cVia (st := []) (As := [.int (iv (S (i + 1))), .int (iv (S (i + 2))), .int (iv (S (i + 3))), .int (iv (S (i + 4)))]) (M1 := M1) (r := x) C dL_law_754 mL_86 k1 (tX9_sale hC 0 (S (i + 1)) (S (i + 2)) (S (i + 3)) (S (i + 4)) (hS.2.1 _) (hS.2.1 _) (hS.2.1 _) (hS.2.1 _) h1) rfl rfl (Nat.le_of_ble_eq_true rfl) (by decide) (fun g1 => ?_)
  refine z_aload_n C dL_law_757 2 rfl ?_
  refine x_arg C dL_law_758 dL_law_759 dL_law_761 dL_law_762 dL_law_763 rfl rfl hS hi (j := 1) rfl (by decide) ?_
  refine x_arg C dL_law_764 dL_law_765 dL_law_767 dL_law_768 dL_law_769 rfl rfl hS hi (j := 2) rfl (by decide) ?_
  refine x_arg C dL_law_770 dL_law_771 dL_law_773 dL_law_774 dL_law_775 rfl rfl hS hi (j := 3) rfl (by decide) ?_
  refine x_arg C dL_law_776 dL_law_777 dL_law_779 dL_law_780 dL_law_781 rfl rfl hS hi (j := 4) rfl (by decide) ?_
  refine y_cVi (st := [.int (iv x)]) (As := [.int (iv (S (i + 1))), .int (iv (S (i + 2))), .int (iv (S (i + 3))), .int (iv (S (i + 4)))]) (M1 := M2) (r := x) C dL_law_782 mL_90 k2 (tX10_sale hC 57 (S (i + 1)) (S (i + 2)) (S (i + 3)) (S (i + 4)) (hS.2.1 _) (hS.2.1 _) (hS.2.1 _) (hS.2.1 _) h2) rfl rfl (Nat.le_of_ble_eq_true rfl) (by decide) (fun g2 => ?_)
  refine z_icmp_eq 1584 C dL_law_785 (by decide) g1 g2 (fun _ => ?_) (fun h => absurd rfl h)
  exact y_widen (by omega) (by omega) kk
end LAW
