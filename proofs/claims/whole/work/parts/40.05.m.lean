set_option maxHeartbeats 4000000 in
set_option maxRecDepth 100000 in
theorem tX10_strike {G : Gx} {σ : State} (hC : Cy G σ) (o0 : Nat) (v1 : Int) (v2 : Int) (v3 : Int) (v4 : Int) (v5 : Int) {M0 : Mm} (gv1 : rg v1) (gv2 : rg v2) (gv3 : rg v3) (gv4 : rg v4) (gv5 : rg v5) {R : Mm} (h : uX10_strike o0 v1 v2 v3 v4 v5 M0 = some R) : Ct G σ (2) yX10_strike cX10_strike 13 none [.ref (G.2.2 + o0), .int (iv v1), .int (iv v2), .int (iv v3), .int (iv v4), .int (iv v5)] M0 0 0 (Qv R) := by
  refine Ct.of hC.1 (by decide +kernel) (Nat.le_of_ble_eq_true rfl) ?_
  intro p l e R0 s m args below meth c C
  show Jz G σ p l e R0 s m args below meth c 13 0 0 (Qv R) M0 0 0 0 [(0, .ref (G.2.2 + o0)), (1, .int (iv v1)), (2, .int (iv v2)), (3, .int (iv v3)), (4, .int (iv v4)), (5, .int (iv v5))] []
  have hb229 : ∀ (o0 : Nat) (v1 : Int) (v2 : Int) (v3 : Int) (v4 : Int) (v5 : Int) (v6 : Int) (v8 : Int) (M : Mm), (rg v1) → (rg v2) → (rg v3) → (rg v4) → (rg v5) → (rg v6) → (rg v8) → uX10_strike_b229 o0 v1 v2 v3 v4 v5 v6 v8 M = some R → Jz G σ p l e R0 s m args below meth c 13 0 0 (Qv R) M 0 0 229 [(0, .ref (G.2.2 + o0)), (1, .int (iv v1)), (2, .int (iv v2)), (3, .int (iv v3)), (4, .int (iv v4)), (5, .int (iv v5)), (6, .int (iv v6)), (8, .int (iv v8))] [] := by
    intro o0 v1 v2 v3 v4 v5 v6 v8 M gv1 gv2 gv3 gv4 gv5 gv6 gv8 h
    unfold uX10_strike_b229 at h
    refine z_aload_n C dX10_strike_229 0 rfl ?_
    obtain ⟨on1, hon1, h⟩ := bnd h
    refine y_getR C dX10_strike_230 fX10_13 rfl hon1 ?_
    refine z_iload C dX10_strike_233 6 rfl ?_
    refine z_iconst C dX10_strike_235 ?_
    refine y_iadd C dX10_strike_236 ?_
    refine z_iload_n C dX10_strike_237 2 rfl ?_
    obtain ⟨M2, hM2, h⟩ := bnd h
    refine y_iast C dX10_strike_238 hM2 ?_
    refine z_aload_n C dX10_strike_239 0 rfl ?_
    obtain ⟨on3, hon3, h⟩ := bnd h
    refine y_getR C dX10_strike_240 fX10_13 rfl hon3 ?_
    refine z_iload C dX10_strike_243 6 rfl ?_
    refine z_iconst C dX10_strike_245 ?_
    refine y_iadd C dX10_strike_246 ?_
    refine z_iconst C dX10_strike_247 ?_
    refine y_iadd C dX10_strike_248 ?_
    refine z_bipush C dX10_strike_249 (by decide) ?_
    obtain ⟨M4, hM4, h⟩ := bnd h
    refine y_iast C dX10_strike_251 hM4 ?_
    refine z_aload_n C dX10_strike_252 0 rfl ?_
    obtain ⟨on5, hon5, h⟩ := bnd h
    refine y_getR C dX10_strike_253 fX10_13 rfl hon5 ?_
    refine z_iload C dX10_strike_256 6 rfl ?_
    refine z_iconst C dX10_strike_258 ?_
    refine y_iadd C dX10_strike_259 ?_
    refine z_iconst C dX10_strike_260 ?_
    refine y_iadd C dX10_strike_261 ?_
    refine z_aload_n C dX10_strike_262 0 rfl ?_
    obtain ⟨on6, hon6, h⟩ := bnd h
    refine y_getR C dX10_strike_263 fX10_13 rfl hon6 ?_
    refine z_bipush C dX10_strike_266 (by decide) ?_
    obtain ⟨x7, hx7, h⟩ := bnd h
    refine y_iald C dX10_strike_268 hx7 (fun gx7 => ?_)
    obtain ⟨M8, hM8, h⟩ := bnd h
    refine y_iast C dX10_strike_269 hM8 ?_
    refine z_aload_n C dX10_strike_270 0 rfl ?_
    obtain ⟨on9, hon9, h⟩ := bnd h
    refine y_getR C dX10_strike_271 fX10_13 rfl hon9 ?_
    refine z_iload C dX10_strike_274 6 rfl ?_
    refine z_iconst C dX10_strike_276 ?_
    refine y_iadd C dX10_strike_277 ?_
    refine z_iload C dX10_strike_278 7 rfl ?_
    refine z_iconst C dX10_strike_280 ?_
    refine y_iadd C dX10_strike_281 ?_
    obtain ⟨M10, hM10, h⟩ := bnd h
    refine y_iast C dX10_strike_282 hM10 ?_
    refine z_aload_n C dX10_strike_283 0 rfl ?_
    obtain ⟨on11, hon11, h⟩ := bnd h
    refine y_getR C dX10_strike_284 fX10_13 rfl hon11 ?_
    refine z_iload C dX10_strike_287 6 rfl ?_
    refine z_iconst C dX10_strike_289 ?_
    refine y_iadd C dX10_strike_290 ?_
    refine z_dup2 C dX10_strike_291 rfl rfl ?_
    obtain ⟨x12, hx12, h⟩ := bnd h
    refine y_iald C dX10_strike_292 hx12 (fun gx12 => ?_)
    refine z_iconst C dX10_strike_293 ?_
    refine y_iadd C dX10_strike_294 ?_
    obtain ⟨M13, hM13, h⟩ := bnd h
    refine y_iast C dX10_strike_295 hM13 ?_
    refine z_sipush C dX10_strike_296 (by decide) ?_
    refine z_bipush C dX10_strike_299 (by decide) ?_
    refine z_aload_n C dX10_strike_301 0 rfl ?_
    obtain ⟨on14, hon14, h⟩ := bnd h
    refine y_getR C dX10_strike_302 fX10_13 rfl hon14 ?_
    refine z_bipush C dX10_strike_305 (by decide) ?_
    obtain ⟨x15, hx15, h⟩ := bnd h
    refine y_iald C dX10_strike_307 hx15 (fun gx15 => ?_)
    refine y_imul C dX10_strike_308 ?_
    refine y_iadd C dX10_strike_309 ?_
    refine z_istore (lv' := [(0, .ref (G.2.2 + o0)), (1, .int (iv v1)), (2, .int (iv v2)), (3, .int (iv v3)), (4, .int (iv v4)), (5, .int (iv v5)), (6, .int (iv v6)), (8, .int (iv v8)), (9, .int (iv (w32 (1400 + (w32 (6 * x15))))))]) C dX10_strike_310 (by decide) [1, 2, 3, 4, 5, 6, 7, 8, 0] rfl ?_
    refine z_aload_n C dX10_strike_312 0 rfl ?_
    obtain ⟨on16, hon16, h⟩ := bnd h
    refine y_getR C dX10_strike_313 fX10_13 rfl hon16 ?_
    refine z_iload C dX10_strike_316 8 rfl ?_
    refine z_iload_n C dX10_strike_318 1 rfl ?_
    obtain ⟨M17, hM17, h⟩ := bnd h
    refine y_iast C dX10_strike_319 hM17 ?_
    refine z_aload_n C dX10_strike_320 0 rfl ?_
    obtain ⟨on18, hon18, h⟩ := bnd h
    refine y_getR C dX10_strike_321 fX10_13 rfl hon18 ?_
    refine z_iload C dX10_strike_324 8 rfl ?_
    refine z_iconst C dX10_strike_326 ?_
    refine y_iadd C dX10_strike_327 ?_
    refine z_iload_n C dX10_strike_328 2 rfl ?_
    obtain ⟨M19, hM19, h⟩ := bnd h
    refine y_iast C dX10_strike_329 hM19 ?_
    refine z_aload_n C dX10_strike_330 0 rfl ?_
    obtain ⟨on20, hon20, h⟩ := bnd h
    refine y_getR C dX10_strike_331 fX10_13 rfl hon20 ?_
    refine z_iload C dX10_strike_334 8 rfl ?_
    refine z_iconst C dX10_strike_336 ?_
    refine y_iadd C dX10_strike_337 ?_
    refine z_iload_n C dX10_strike_338 3 rfl ?_
    obtain ⟨M21, hM21, h⟩ := bnd h
    refine y_iast C dX10_strike_339 hM21 ?_
    refine z_aload_n C dX10_strike_340 0 rfl ?_
    obtain ⟨on22, hon22, h⟩ := bnd h
    refine y_getR C dX10_strike_341 fX10_13 rfl hon22 ?_
    refine z_iload C dX10_strike_344 8 rfl ?_
    refine z_iconst C dX10_strike_346 ?_
    refine y_iadd C dX10_strike_347 ?_
    refine z_aload_n C dX10_strike_348 0 rfl ?_
    obtain ⟨on23, hon23, h⟩ := bnd h
    refine y_getR C dX10_strike_349 fX10_13 rfl hon23 ?_
    refine z_bipush C dX10_strike_352 (by decide) ?_
    obtain ⟨x24, hx24, h⟩ := bnd h
    refine y_iald C dX10_strike_354 hx24 (fun gx24 => ?_)
    obtain ⟨M25, hM25, h⟩ := bnd h
    refine y_iast C dX10_strike_355 hM25 ?_
    refine z_aload_n C dX10_strike_356 0 rfl ?_
    obtain ⟨on26, hon26, h⟩ := bnd h
    refine y_getR C dX10_strike_357 fX10_13 rfl hon26 ?_
    refine z_iload C dX10_strike_360 8 rfl ?_
    refine z_iconst C dX10_strike_362 ?_
    refine y_iadd C dX10_strike_363 ?_
    refine z_iload C dX10_strike_364 4 rfl ?_
    obtain ⟨M27, hM27, h⟩ := bnd h
    refine y_iast C dX10_strike_366 hM27 ?_
    refine z_aload_n C dX10_strike_367 0 rfl ?_
    obtain ⟨on28, hon28, h⟩ := bnd h
    refine y_getR C dX10_strike_368 fX10_13 rfl hon28 ?_
    refine z_iload C dX10_strike_371 8 rfl ?_
    refine z_iconst C dX10_strike_373 ?_
    refine y_iadd C dX10_strike_374 ?_
    refine z_iload C dX10_strike_375 5 rfl ?_
    obtain ⟨M29, hM29, h⟩ := bnd h
    refine y_iast C dX10_strike_377 hM29 ?_
    refine z_aload_n C dX10_strike_378 0 rfl ?_
    obtain ⟨on30, hon30, h⟩ := bnd h
    refine y_getR C dX10_strike_379 fX10_13 rfl hon30 ?_
    refine z_bipush C dX10_strike_382 (by decide) ?_
    refine z_dup2 C dX10_strike_384 rfl rfl ?_
    obtain ⟨x31, hx31, h⟩ := bnd h
    refine y_iald C dX10_strike_385 hx31 (fun gx31 => ?_)
    refine z_iconst C dX10_strike_386 ?_
    refine y_iadd C dX10_strike_387 ?_
    obtain ⟨M32, hM32, h⟩ := bnd h
    refine y_iast C dX10_strike_388 hM32 ?_
    exact y_retV C dX10_strike_389 h
  have hb167 : ∀ (o0 : Nat) (v1 : Int) (v2 : Int) (v3 : Int) (v4 : Int) (v5 : Int) (v6 : Int) (v8 : Int) (v9 : Int) (M : Mm), (rg v1) → (rg v2) → (rg v3) → (rg v4) → (rg v5) → (rg v6) → (rg v8) → (rg v9) → uX10_strike_b167 o0 v1 v2 v3 v4 v5 v6 v8 v9 M = some R → Jz G σ p l e R0 s m args below meth c 13 0 0 (Qv R) M 0 0 167 [(0, .ref (G.2.2 + o0)), (1, .int (iv v1)), (2, .int (iv v2)), (3, .int (iv v3)), (4, .int (iv v4)), (5, .int (iv v5)), (6, .int (iv v6)), (8, .int (iv v8)), (9, .int (iv v9))] [] := by
    intro o0 v1 v2 v3 v4 v5 v6 v8 v9 M gv1 gv2 gv3 gv4 gv5 gv6 gv8 gv9 h
    unfold uX10_strike_b167 at h
    obtain ⟨b167, hb167_, hc167⟩ := bnd h
    have hL167 : ∀ (n : Nat) (v9 : Int) (M : Mm), (rg v9) → lp (uX10_strike_f167 o0 v1 v2 v3 v4 v5 v6 v8) n (v9, M) = some b167 → Jz G σ p l e R0 s m args below meth c 13 0 0 (Qv R) M 0 0 167 [(0, .ref (G.2.2 + o0)), (1, .int (iv v1)), (2, .int (iv v2)), (3, .int (iv v3)), (4, .int (iv v4)), (5, .int (iv v5)), (6, .int (iv v6)), (8, .int (iv v8)), (9, .int (iv v9))] [] := by
      intro n; induction n with
      | zero => intro v9 M gv9 hq; exact (lp_0 hq).elim
      | succ n167 ih167 =>
        intro v9 M gv9 hq
        obtain ⟨z167, h, hZ167⟩ := lp_s hq
        have h : uX10_strike_s167 o0 v1 v2 v3 v4 v5 v6 v8 v9 M = some z167 := h
        have hb223 : ∀ (v9 : Int) (M : Mm), (rg v9) → ∀ z167, uX10_strike_b223 o0 v1 v2 v3 v4 v5 v6 v8 v9 M = some z167 → lpc (uX10_strike_f167 o0 v1 v2 v3 v4 v5 v6 v8) n167 z167 b167 → Jz G σ p l e R0 s m args below meth c 13 0 0 (Qv R) M 0 0 223 [(0, .ref (G.2.2 + o0)), (1, .int (iv v1)), (2, .int (iv v2)), (3, .int (iv v3)), (4, .int (iv v4)), (5, .int (iv v5)), (6, .int (iv v6)), (8, .int (iv v8)), (9, .int (iv v9))] [] := by
          intro v9 M gv9 z167 h hZ167
          unfold uX10_strike_b223 at h
          refine y_iinc (lv' := [(0, .ref (G.2.2 + o0)), (1, .int (iv v1)), (2, .int (iv v2)), (3, .int (iv v3)), (4, .int (iv v4)), (5, .int (iv v5)), (6, .int (iv v6)), (8, .int (iv v8)), (9, .int (iv (w32 (v9 + (-1)))))]) C dX10_strike_223 8 rfl (by decide) [1, 2, 3, 4, 5, 6, 7, 8, 0] rfl ?_
          refine z_goto 167 C dX10_strike_226 (by decide) ?_
          exact ih167 (w32 (v9 + (-1))) M (w32_rng _) (lp_back h hZ167)
        have hb175 : ∀ (v9 : Int) (v10 : Int) (M : Mm), (rg v9) → (rg v10) → ∀ z167, uX10_strike_b175 o0 v1 v2 v3 v4 v5 v6 v8 v9 v10 M = some z167 → lpc (uX10_strike_f167 o0 v1 v2 v3 v4 v5 v6 v8) n167 z167 b167 → Jz G σ p l e R0 s m args below meth c 13 0 0 (Qv R) M 0 0 175 [(0, .ref (G.2.2 + o0)), (1, .int (iv v1)), (2, .int (iv v2)), (3, .int (iv v3)), (4, .int (iv v4)), (5, .int (iv v5)), (6, .int (iv v6)), (8, .int (iv v8)), (9, .int (iv v9)), (10, .int (iv v10))] [] := by
          intro v9 v10 M gv9 gv10 z167 h hZ167
          unfold uX10_strike_b175 at h
          obtain ⟨b175, hb175_, hc175⟩ := bnd h
          have hL175 : ∀ (n : Nat) (v10 : Int) (M : Mm), (rg v10) → lp (uX10_strike_f175 o0 v1 v2 v3 v4 v5 v6 v8 v9) n (v10, M) = some b175 → Jz G σ p l e R0 s m args below meth c 13 0 0 (Qv R) M 0 0 175 [(0, .ref (G.2.2 + o0)), (1, .int (iv v1)), (2, .int (iv v2)), (3, .int (iv v3)), (4, .int (iv v4)), (5, .int (iv v5)), (6, .int (iv v6)), (8, .int (iv v8)), (9, .int (iv v9)), (10, .int (iv v10))] [] := by
            intro n; induction n with
            | zero => intro v10 M gv10 hq; exact (lp_0 hq).elim
            | succ n175 ih175 =>
              intro v10 M gv10 hq
              obtain ⟨z175, h, hZ175⟩ := lp_s hq
              have h : uX10_strike_s175 o0 v1 v2 v3 v4 v5 v6 v8 v9 v10 M = some z175 := h
              unfold uX10_strike_s175 at h
              refine z_iload C dX10_strike_175 9 rfl ?_
              refine z_iconst C dX10_strike_177 ?_
              refine z_icmp_ge 223 C dX10_strike_178 (by decide) gv10 (by decide) (fun e33 => ?_) (fun e33 => ?_)
              ·
                have h := (if_pos e33).symm.trans h
                have h : uX10_strike_b223 o0 v1 v2 v3 v4 v5 v6 v8 v9 M = some z167 := lp_ex (K := (uX10_strike_c175 o0 v1 v2 v3 v4 v5 v6 v8 v9)) h hZ175 hc175
                refine z_drop (lv' := [(0, .ref (G.2.2 + o0)), (1, .int (iv v1)), (2, .int (iv v2)), (3, .int (iv v3)), (4, .int (iv v4)), (5, .int (iv v5)), (6, .int (iv v6)), (8, .int (iv v8)), (9, .int (iv v9))]) [0, 1, 2, 3, 4, 5, 6, 7, 8] rfl ?_
                exact hb223 v9 M gv9 _ h hZ167
              ·
                have h := (if_neg e33).symm.trans h
                refine z_aload_n C dX10_strike_181 0 rfl ?_
                obtain ⟨on34, hon34, h⟩ := bnd h
                refine y_getR C dX10_strike_182 fX10_13 rfl hon34 ?_
                refine z_iload C dX10_strike_185 6 rfl ?_
                refine z_iconst C dX10_strike_187 ?_
                refine y_iadd C dX10_strike_188 ?_
                refine z_iconst C dX10_strike_189 ?_
                refine z_iload C dX10_strike_190 8 rfl ?_
                refine y_imul C dX10_strike_192 ?_
                refine y_iadd C dX10_strike_193 ?_
                refine z_iload C dX10_strike_194 9 rfl ?_
                refine y_iadd C dX10_strike_196 ?_
                refine z_aload_n C dX10_strike_197 0 rfl ?_
                obtain ⟨on35, hon35, h⟩ := bnd h
                refine y_getR C dX10_strike_198 fX10_13 rfl hon35 ?_
                refine z_iload C dX10_strike_201 6 rfl ?_
                refine z_iconst C dX10_strike_203 ?_
                refine y_iadd C dX10_strike_204 ?_
                refine z_iconst C dX10_strike_205 ?_
                refine z_iload C dX10_strike_206 8 rfl ?_
                refine z_iconst C dX10_strike_208 ?_
                refine y_isub C dX10_strike_209 ?_
                refine y_imul C dX10_strike_210 ?_
                refine y_iadd C dX10_strike_211 ?_
                refine z_iload C dX10_strike_212 9 rfl ?_
                refine y_iadd C dX10_strike_214 ?_
                obtain ⟨x36, hx36, h⟩ := bnd h
                refine y_iald C dX10_strike_215 hx36 (fun gx36 => ?_)
                obtain ⟨M37, hM37, h⟩ := bnd h
                refine y_iast C dX10_strike_216 hM37 ?_
                refine y_iinc (lv' := [(0, .ref (G.2.2 + o0)), (1, .int (iv v1)), (2, .int (iv v2)), (3, .int (iv v3)), (4, .int (iv v4)), (5, .int (iv v5)), (6, .int (iv v6)), (8, .int (iv v8)), (9, .int (iv v9)), (10, .int (iv (w32 (v10 + 1))))]) C dX10_strike_217 9 rfl (by decide) [1, 2, 3, 4, 5, 6, 7, 8, 9, 0] rfl ?_
                refine z_goto 175 C dX10_strike_220 (by decide) ?_
                exact ih175 (w32 (v10 + 1)) M37 (w32_rng _) (lp_back h hZ175)
          exact hL175 _ v10 M gv10 hb175_
        unfold uX10_strike_s167 at h
        refine z_iload C dX10_strike_167 8 rfl ?_
        refine z_if_le 229 C dX10_strike_169 (by decide) gv9 (fun e38 => ?_) (fun e38 => ?_)
        ·
          have h := (if_pos e38).symm.trans h
          have h : uX10_strike_b229 o0 v1 v2 v3 v4 v5 v6 v8 M = some R := lp_ex (K := (uX10_strike_c167 o0 v1 v2 v3 v4 v5 v6 v8)) h hZ167 hc167
          refine z_drop (lv' := [(0, .ref (G.2.2 + o0)), (1, .int (iv v1)), (2, .int (iv v2)), (3, .int (iv v3)), (4, .int (iv v4)), (5, .int (iv v5)), (6, .int (iv v6)), (8, .int (iv v8))]) [0, 1, 2, 3, 4, 5, 6, 7] rfl ?_
          exact hb229 o0 v1 v2 v3 v4 v5 v6 v8 M gv1 gv2 gv3 gv4 gv5 gv6 gv8 h
        ·
          have h := (if_neg e38).symm.trans h
          refine z_iconst C dX10_strike_172 ?_
          refine z_istore (lv' := [(0, .ref (G.2.2 + o0)), (1, .int (iv v1)), (2, .int (iv v2)), (3, .int (iv v3)), (4, .int (iv v4)), (5, .int (iv v5)), (6, .int (iv v6)), (8, .int (iv v8)), (9, .int (iv v9)), (10, .int (iv 0))]) C dX10_strike_173 (by decide) [1, 2, 3, 4, 5, 6, 7, 8, 9, 0] rfl ?_
          exact hb175 v9 0 M gv9 (by decide) _ h hZ167
    exact hL167 _ v9 M gv9 hb167_
  have hb163 : ∀ (o0 : Nat) (v1 : Int) (v2 : Int) (v3 : Int) (v4 : Int) (v5 : Int) (v6 : Int) (v8 : Int) (M : Mm), (rg v1) → (rg v2) → (rg v3) → (rg v4) → (rg v5) → (rg v6) → (rg v8) → uX10_strike_b163 o0 v1 v2 v3 v4 v5 v6 v8 M = some R → Jz G σ p l e R0 s m args below meth c 13 0 0 (Qv R) M 0 0 163 [(0, .ref (G.2.2 + o0)), (1, .int (iv v1)), (2, .int (iv v2)), (3, .int (iv v3)), (4, .int (iv v4)), (5, .int (iv v5)), (6, .int (iv v6)), (8, .int (iv v8))] [] := by
    intro o0 v1 v2 v3 v4 v5 v6 v8 M gv1 gv2 gv3 gv4 gv5 gv6 gv8 h
    unfold uX10_strike_b163 at h
    refine z_iload C dX10_strike_163 7 rfl ?_
    refine z_istore (lv' := [(0, .ref (G.2.2 + o0)), (1, .int (iv v1)), (2, .int (iv v2)), (3, .int (iv v3)), (4, .int (iv v4)), (5, .int (iv v5)), (6, .int (iv v6)), (8, .int (iv v8)), (9, .int (iv v8))]) C dX10_strike_165 (by decide) [1, 2, 3, 4, 5, 6, 7, 8, 0] rfl ?_
    exact hb167 o0 v1 v2 v3 v4 v5 v6 v8 v8 M gv1 gv2 gv3 gv4 gv5 gv6 gv8 gv8 h
  have hb49 : ∀ (o0 : Nat) (v1 : Int) (v2 : Int) (v3 : Int) (v4 : Int) (v5 : Int) (v6 : Int) (v8 : Int) (v9 : Int) (M : Mm), (rg v1) → (rg v2) → (rg v3) → (rg v4) → (rg v5) → (rg v6) → (rg v8) → (rg v9) → uX10_strike_b49 o0 v1 v2 v3 v4 v5 v6 v8 v9 M = some R → Jz G σ p l e R0 s m args below meth c 13 0 0 (Qv R) M 0 0 49 [(0, .ref (G.2.2 + o0)), (1, .int (iv v1)), (2, .int (iv v2)), (3, .int (iv v3)), (4, .int (iv v4)), (5, .int (iv v5)), (6, .int (iv v6)), (8, .int (iv v8)), (9, .int (iv v9))] [] := by
    intro o0 v1 v2 v3 v4 v5 v6 v8 v9 M gv1 gv2 gv3 gv4 gv5 gv6 gv8 gv9 h
    unfold uX10_strike_b49 at h
    obtain ⟨b49, hb49_, hc49⟩ := bnd h
    have hL49 : ∀ (n : Nat) (v8 : Int) (v9 : Int) (M : Mm), (rg v8) → (rg v9) → lp (uX10_strike_f49 o0 v1 v2 v3 v4 v5 v6) n (v8, v9, M) = some b49 → Jz G σ p l e R0 s m args below meth c 13 0 0 (Qv R) M 0 0 49 [(0, .ref (G.2.2 + o0)), (1, .int (iv v1)), (2, .int (iv v2)), (3, .int (iv v3)), (4, .int (iv v4)), (5, .int (iv v5)), (6, .int (iv v6)), (8, .int (iv v8)), (9, .int (iv v9))] [] := by
      intro n; induction n with
      | zero => intro v8 v9 M gv8 gv9 hq; exact (lp_0 hq).elim
      | succ n49 ih49 =>
        intro v8 v9 M gv8 gv9 hq
        obtain ⟨z49, h, hZ49⟩ := lp_s hq
        have h : uX10_strike_s49 o0 v1 v2 v3 v4 v5 v6 v8 v9 M = some z49 := h
        unfold uX10_strike_s49 at h
        refine z_iload C dX10_strike_49 8 rfl ?_
        refine z_aload_n C dX10_strike_51 0 rfl ?_
        obtain ⟨on39, hon39, h⟩ := bnd h
        refine y_getR C dX10_strike_52 fX10_13 rfl hon39 ?_
        refine z_iload C dX10_strike_55 6 rfl ?_
        refine z_iconst C dX10_strike_57 ?_
        refine y_iadd C dX10_strike_58 ?_
        obtain ⟨x40, hx40, h⟩ := bnd h
        refine y_iald C dX10_strike_59 hx40 (fun gx40 => ?_)
        refine z_icmp_ge 163 C dX10_strike_60 (by decide) gv9 gx40 (fun e41 => ?_) (fun e41 => ?_)
        ·
          have h := (if_pos e41).symm.trans h
          have h : uX10_strike_b163 o0 v1 v2 v3 v4 v5 v6 v8 M = some R := lp_ex (K := (uX10_strike_c49 o0 v1 v2 v3 v4 v5 v6)) h hZ49 hc49
          refine z_drop (lv' := [(0, .ref (G.2.2 + o0)), (1, .int (iv v1)), (2, .int (iv v2)), (3, .int (iv v3)), (4, .int (iv v4)), (5, .int (iv v5)), (6, .int (iv v6)), (8, .int (iv v8))]) [0, 1, 2, 3, 4, 5, 6, 7] rfl ?_
          exact hb163 o0 v1 v2 v3 v4 v5 v6 v8 M gv1 gv2 gv3 gv4 gv5 gv6 gv8 h
        ·
          have h := (if_neg e41).symm.trans h
          refine z_iload C dX10_strike_63 6 rfl ?_
          refine z_iconst C dX10_strike_65 ?_
          refine y_iadd C dX10_strike_66 ?_
          refine z_iconst C dX10_strike_67 ?_
          refine z_iload C dX10_strike_68 8 rfl ?_
          refine y_imul C dX10_strike_70 ?_
          refine y_iadd C dX10_strike_71 ?_
          refine z_istore (lv' := [(0, .ref (G.2.2 + o0)), (1, .int (iv v1)), (2, .int (iv v2)), (3, .int (iv v3)), (4, .int (iv v4)), (5, .int (iv v5)), (6, .int (iv v6)), (8, .int (iv v8)), (9, .int (iv v9)), (10, .int (iv (w32 ((w32 (v6 + 4)) + (w32 (3 * v9))))))]) C dX10_strike_72 (by decide) [1, 2, 3, 4, 5, 6, 7, 8, 9, 0] rfl ?_
          refine z_aload_n C dX10_strike_74 0 rfl ?_
          obtain ⟨on42, hon42, h⟩ := bnd h
          refine y_getR C dX10_strike_75 fX10_13 rfl hon42 ?_
          refine z_iload C dX10_strike_78 9 rfl ?_
          refine z_iconst C dX10_strike_80 ?_
          refine y_iadd C dX10_strike_81 ?_
          obtain ⟨x43, hx43, h⟩ := bnd h
          refine y_iald C dX10_strike_82 hx43 (fun gx43 => ?_)
          refine z_aload_n C dX10_strike_83 0 rfl ?_
          refine z_iload_n C dX10_strike_84 3 rfl ?_
          refine z_iconst C dX10_strike_85 ?_
          obtain ⟨k44, h⟩ := gK_inv h
          obtain ⟨r45, hr45, h⟩ := bnd h
          refine y_cVi (st := [.int (iv x43)]) C dX10_strike_86 mX10_262 k44 (tX10_ofMint hC o0 v3 1 gv3 (by decide) hr45) rfl rfl (Nat.le_of_ble_eq_true rfl) (by decide) (fun gr45 => ?_)
          refine y_isub C dX10_strike_89 ?_
          refine z_istore (lv' := [(0, .ref (G.2.2 + o0)), (1, .int (iv v1)), (2, .int (iv v2)), (3, .int (iv v3)), (4, .int (iv v4)), (5, .int (iv v5)), (6, .int (iv v6)), (8, .int (iv v8)), (9, .int (iv v9)), (10, .int (iv (w32 ((w32 (v6 + 4)) + (w32 (3 * v9)))))), (11, .int (iv (w32 (x43 - r45))))]) C dX10_strike_90 (by decide) [1, 2, 3, 4, 5, 6, 7, 8, 9, 10, 0] rfl ?_
          refine z_iload C dX10_strike_92 10 rfl ?_
          refine z_if_gt 100 C dX10_strike_94 (by decide) (w32_rng _) (fun e46 => ?_) (fun e46 => ?_)
          ·
            have h := (if_pos e46).symm.trans h
            refine z_iload C dX10_strike_100 6 rfl ?_
            refine z_iconst C dX10_strike_102 ?_
            refine y_iadd C dX10_strike_103 ?_
            refine z_iconst C dX10_strike_104 ?_
            refine z_iload C dX10_strike_105 7 rfl ?_
            refine y_imul C dX10_strike_107 ?_
            refine y_iadd C dX10_strike_108 ?_
            refine z_istore (lv' := [(0, .ref (G.2.2 + o0)), (1, .int (iv v1)), (2, .int (iv v2)), (3, .int (iv v3)), (4, .int (iv v4)), (5, .int (iv v5)), (6, .int (iv v6)), (8, .int (iv v8)), (9, .int (iv v9)), (10, .int (iv (w32 ((w32 (v6 + 4)) + (w32 (3 * v9)))))), (11, .int (iv (w32 (x43 - r45)))), (12, .int (iv (w32 ((w32 (v6 + 4)) + (w32 (3 * v8))))))]) C dX10_strike_109 (by decide) [1, 2, 3, 4, 5, 6, 7, 8, 9, 10, 11, 0] rfl ?_
            refine z_aload_n C dX10_strike_111 0 rfl ?_
            obtain ⟨on47, hon47, h⟩ := bnd h
            refine y_getR C dX10_strike_112 fX10_13 rfl hon47 ?_
            refine z_iload C dX10_strike_115 11 rfl ?_
            refine z_aload_n C dX10_strike_117 0 rfl ?_
            obtain ⟨on48, hon48, h⟩ := bnd h
            refine y_getR C dX10_strike_118 fX10_13 rfl hon48 ?_
            refine z_iload C dX10_strike_121 9 rfl ?_
            obtain ⟨x49, hx49, h⟩ := bnd h
            refine y_iald C dX10_strike_123 hx49 (fun gx49 => ?_)
            obtain ⟨M50, hM50, h⟩ := bnd h
            refine y_iast C dX10_strike_124 hM50 ?_
            refine z_aload_n C dX10_strike_125 0 rfl ?_
            obtain ⟨on51, hon51, h⟩ := bnd h
            refine y_getR C dX10_strike_126 fX10_13 rfl hon51 ?_
            refine z_iload C dX10_strike_129 11 rfl ?_
            refine z_iconst C dX10_strike_131 ?_
            refine y_iadd C dX10_strike_132 ?_
            refine z_iload C dX10_strike_133 10 rfl ?_
            obtain ⟨M52, hM52, h⟩ := bnd h
            refine y_iast C dX10_strike_135 hM52 ?_
            refine z_aload_n C dX10_strike_136 0 rfl ?_
            obtain ⟨on53, hon53, h⟩ := bnd h
            refine y_getR C dX10_strike_137 fX10_13 rfl hon53 ?_
            refine z_iload C dX10_strike_140 11 rfl ?_
            refine z_iconst C dX10_strike_142 ?_
            refine y_iadd C dX10_strike_143 ?_
            refine z_aload_n C dX10_strike_144 0 rfl ?_
            obtain ⟨on54, hon54, h⟩ := bnd h
            refine y_getR C dX10_strike_145 fX10_13 rfl hon54 ?_
            refine z_iload C dX10_strike_148 9 rfl ?_
            refine z_iconst C dX10_strike_150 ?_
            refine y_iadd C dX10_strike_151 ?_
            obtain ⟨x55, hx55, h⟩ := bnd h
            refine y_iald C dX10_strike_152 hx55 (fun gx55 => ?_)
            obtain ⟨M56, hM56, h⟩ := bnd h
            refine y_iast C dX10_strike_153 hM56 ?_
            refine y_iinc (lv' := [(0, .ref (G.2.2 + o0)), (1, .int (iv v1)), (2, .int (iv v2)), (3, .int (iv v3)), (4, .int (iv v4)), (5, .int (iv v5)), (6, .int (iv v6)), (8, .int (iv (w32 (v8 + 1)))), (9, .int (iv v9)), (10, .int (iv (w32 ((w32 (v6 + 4)) + (w32 (3 * v9)))))), (11, .int (iv (w32 (x43 - r45)))), (12, .int (iv (w32 ((w32 (v6 + 4)) + (w32 (3 * v8))))))]) C dX10_strike_154 7 rfl (by decide) [1, 2, 3, 4, 5, 6, 7, 0, 8, 9, 10, 11] rfl ?_
            refine y_iinc (lv' := [(0, .ref (G.2.2 + o0)), (1, .int (iv v1)), (2, .int (iv v2)), (3, .int (iv v3)), (4, .int (iv v4)), (5, .int (iv v5)), (6, .int (iv v6)), (8, .int (iv (w32 (v8 + 1)))), (9, .int (iv (w32 (v9 + 1)))), (10, .int (iv (w32 ((w32 (v6 + 4)) + (w32 (3 * v9)))))), (11, .int (iv (w32 (x43 - r45)))), (12, .int (iv (w32 ((w32 (v6 + 4)) + (w32 (3 * v8))))))]) C dX10_strike_157 8 rfl (by decide) [1, 2, 3, 4, 5, 6, 7, 8, 0, 9, 10, 11] rfl ?_
            refine z_goto 49 C dX10_strike_160 (by decide) ?_
            refine z_drop (lv' := [(0, .ref (G.2.2 + o0)), (1, .int (iv v1)), (2, .int (iv v2)), (3, .int (iv v3)), (4, .int (iv v4)), (5, .int (iv v5)), (6, .int (iv v6)), (8, .int (iv (w32 (v8 + 1)))), (9, .int (iv (w32 (v9 + 1))))]) [0, 1, 2, 3, 4, 5, 6, 7, 8] rfl ?_
            exact ih49 (w32 (v8 + 1)) (w32 (v9 + 1)) M56 (w32_rng _) (w32_rng _) (lp_back h hZ49)
          ·
            have h := (if_neg e46).symm.trans h
            refine z_goto 157 C dX10_strike_97 (by decide) ?_
            refine y_iinc (lv' := [(0, .ref (G.2.2 + o0)), (1, .int (iv v1)), (2, .int (iv v2)), (3, .int (iv v3)), (4, .int (iv v4)), (5, .int (iv v5)), (6, .int (iv v6)), (8, .int (iv v8)), (9, .int (iv (w32 (v9 + 1)))), (10, .int (iv (w32 ((w32 (v6 + 4)) + (w32 (3 * v9)))))), (11, .int (iv (w32 (x43 - r45))))]) C dX10_strike_157 8 rfl (by decide) [1, 2, 3, 4, 5, 6, 7, 8, 0, 9, 10] rfl ?_
            refine z_goto 49 C dX10_strike_160 (by decide) ?_
            refine z_drop (lv' := [(0, .ref (G.2.2 + o0)), (1, .int (iv v1)), (2, .int (iv v2)), (3, .int (iv v3)), (4, .int (iv v4)), (5, .int (iv v5)), (6, .int (iv v6)), (8, .int (iv v8)), (9, .int (iv (w32 (v9 + 1))))]) [0, 1, 2, 3, 4, 5, 6, 7, 8] rfl ?_
            exact ih49 v8 (w32 (v9 + 1)) M gv8 (w32_rng _) (lp_back h hZ49)
    exact hL49 _ v8 v9 M gv8 gv9 hb49_
  unfold uX10_strike at h
  refine z_bipush C dX10_strike_0 (by decide) ?_
  refine z_bipush C dX10_strike_2 (by decide) ?_
  refine z_iload_n C dX10_strike_4 1 rfl ?_
  refine y_imul C dX10_strike_5 ?_
  refine y_iadd C dX10_strike_6 ?_
  refine z_istore (lv' := [(0, .ref (G.2.2 + o0)), (1, .int (iv v1)), (2, .int (iv v2)), (3, .int (iv v3)), (4, .int (iv v4)), (5, .int (iv v5)), (6, .int (iv (w32 (120 + (w32 (32 * v1))))))]) C dX10_strike_7 (by decide) [1, 2, 3, 4, 5, 6, 0] rfl ?_
  refine z_aload_n C dX10_strike_9 0 rfl ?_
  refine z_iload_n C dX10_strike_10 3 rfl ?_
  refine z_iconst C dX10_strike_11 ?_
  obtain ⟨k57, h⟩ := gK_inv h
  obtain ⟨r58, hr58, h⟩ := bnd h
  refine y_cVi (st := []) C dX10_strike_12 mX10_262 k57 (tX10_ofMint hC o0 v3 0 gv3 (by decide) hr58) rfl rfl (Nat.le_of_ble_eq_true rfl) (by decide) (fun gr58 => ?_)
  refine z_istore (lv' := [(0, .ref (G.2.2 + o0)), (1, .int (iv v1)), (2, .int (iv v2)), (3, .int (iv v3)), (4, .int (iv v4)), (5, .int (iv v5)), (6, .int (iv (w32 (120 + (w32 (32 * v1)))))), (7, .int (iv r58))]) C dX10_strike_15 (by decide) [1, 2, 3, 4, 5, 6, 7, 0] rfl ?_
  refine z_aload_n C dX10_strike_17 0 rfl ?_
  obtain ⟨on59, hon59, h⟩ := bnd h
  refine y_getR C dX10_strike_18 fX10_13 rfl hon59 ?_
  refine z_iload C dX10_strike_21 6 rfl ?_
  refine z_iconst C dX10_strike_23 ?_
  refine y_iadd C dX10_strike_24 ?_
  refine z_dup2 C dX10_strike_25 rfl rfl ?_
  obtain ⟨x60, hx60, h⟩ := bnd h
  refine y_iald C dX10_strike_26 hx60 (fun gx60 => ?_)
  refine z_iload C dX10_strike_27 7 rfl ?_
  refine y_isub C dX10_strike_29 ?_
  obtain ⟨M61, hM61, h⟩ := bnd h
  refine y_iast C dX10_strike_30 hM61 ?_
  refine z_aload_n C dX10_strike_31 0 rfl ?_
  obtain ⟨on62, hon62, h⟩ := bnd h
  refine y_getR C dX10_strike_32 fX10_13 rfl hon62 ?_
  refine z_bipush C dX10_strike_35 (by decide) ?_
  refine z_dup2 C dX10_strike_37 rfl rfl ?_
  obtain ⟨x63, hx63, h⟩ := bnd h
  refine y_iald C dX10_strike_38 hx63 (fun gx63 => ?_)
  refine z_iload C dX10_strike_39 7 rfl ?_
  refine y_iadd C dX10_strike_41 ?_
  obtain ⟨M64, hM64, h⟩ := bnd h
  refine y_iast C dX10_strike_42 hM64 ?_
  refine z_iconst C dX10_strike_43 ?_
  refine z_istore (lv' := [(0, .ref (G.2.2 + o0)), (1, .int (iv v1)), (2, .int (iv v2)), (3, .int (iv v3)), (4, .int (iv v4)), (5, .int (iv v5)), (6, .int (iv (w32 (120 + (w32 (32 * v1)))))), (7, .int (iv r58)), (8, .int (iv 0))]) C dX10_strike_44 (by decide) [1, 2, 3, 4, 5, 6, 7, 8, 0] rfl ?_
  refine z_iconst C dX10_strike_46 ?_
  refine z_istore (lv' := [(0, .ref (G.2.2 + o0)), (1, .int (iv v1)), (2, .int (iv v2)), (3, .int (iv v3)), (4, .int (iv v4)), (5, .int (iv v5)), (6, .int (iv (w32 (120 + (w32 (32 * v1)))))), (7, .int (iv r58)), (8, .int (iv 0)), (9, .int (iv 0))]) C dX10_strike_47 (by decide) [1, 2, 3, 4, 5, 6, 7, 8, 9, 0] rfl ?_
  refine z_drop (lv' := [(0, .ref (G.2.2 + o0)), (1, .int (iv v1)), (2, .int (iv v2)), (3, .int (iv v3)), (4, .int (iv v4)), (5, .int (iv v5)), (6, .int (iv (w32 (120 + (w32 (32 * v1)))))), (8, .int (iv 0)), (9, .int (iv 0))]) [0, 1, 2, 3, 4, 5, 6, 8, 9] rfl ?_
  exact hb49 o0 v1 v2 v3 v4 v5 (w32 (120 + (w32 (32 * v1)))) 0 0 M64 gv1 gv2 gv3 gv4 gv5 (w32_rng _) (by decide) (by decide) h

set_option maxHeartbeats 4000000 in
set_option maxRecDepth 100000 in
theorem tX10_faceFalse {G : Gx} {σ : State} (hC : Cy G σ) (o0 : Nat) (v1 : Int) (v2 : Int) {M0 : Mm} (gv1 : rg v1) (gv2 : rg v2) {R : Int} (h : uX10_faceFalse o0 v1 v2 M0 = some R) : Ct G σ (2) yX10_faceFalse cX10_faceFalse 3 (some .int) [.ref (G.2.2 + o0), .int (iv v1), .int (iv v2)] M0 0 0 (Qi R M0) := by
  refine Ct.of hC.1 (by decide +kernel) (Nat.le_of_ble_eq_true rfl) ?_
  intro p l e R0 s m args below meth c C
  show Jz G σ p l e R0 s m args below meth c 3 0 0 (Qi R M0) M0 0 0 0 [(0, .ref (G.2.2 + o0)), (1, .int (iv v1)), (2, .int (iv v2))] []
  unfold uX10_faceFalse at h
  refine z_aload_n C dX10_faceFalse_0 0 rfl ?_
  obtain ⟨on1, hon1, h⟩ := bnd h
  refine y_getR C dX10_faceFalse_1 fX10_13 rfl hon1 ?_
  refine z_sipush C dX10_faceFalse_4 (by decide) ?_
  refine z_bipush C dX10_faceFalse_7 (by decide) ?_
  refine z_aload_n C dX10_faceFalse_9 0 rfl ?_
  refine z_iload_n C dX10_faceFalse_10 1 rfl ?_
  refine z_iconst C dX10_faceFalse_11 ?_
  refine z_iconst C dX10_faceFalse_12 ?_
  refine z_iload_n C dX10_faceFalse_13 2 rfl ?_
  refine y_imul C dX10_faceFalse_14 ?_
  refine y_iadd C dX10_faceFalse_15 ?_
  refine z_iconst C dX10_faceFalse_16 ?_
  refine y_iadd C dX10_faceFalse_17 ?_
  obtain ⟨k2, h⟩ := gK_inv h
  obtain ⟨r3, hr3, h⟩ := bnd h
  refine y_cVi (st := [.int (iv 6), .int (iv 1400), .ref (G.2.2 + on1)]) C dX10_faceFalse_18 mX10_256 k2 (tX10_ofCoin hC o0 v1 (w32 ((w32 (4 + (w32 (3 * v2)))) + 2)) gv1 (w32_rng _) hr3) rfl rfl (Nat.le_of_ble_eq_true rfl) (by decide) (fun gr3 => ?_)
  refine y_imul C dX10_faceFalse_21 ?_
  refine y_iadd C dX10_faceFalse_22 ?_
  refine z_iconst C dX10_faceFalse_23 ?_
  refine y_iadd C dX10_faceFalse_24 ?_
  obtain ⟨x4, hx4, h⟩ := bnd h
  refine y_iald C dX10_faceFalse_25 hx4 (fun gx4 => ?_)
  exact y_iretP C dX10_faceFalse_26 h gx4

set_option maxHeartbeats 4000000 in
set_option maxRecDepth 100000 in
theorem tX10_hundredths {G : Gx} {σ : State} (hC : Cy G σ) (o0 : Nat) (v1 : Int) (v2 : Int) (v3 : Int) {M0 : Mm} (gv1 : rg v1) (gv2 : rg v2) (gv3 : rg v3) {R : Int} (h : uX10_hundredths o0 v1 v2 v3 M0 = some R) : Ct G σ (2) yX10_hundredths cX10_hundredths 6 (some .int) [.ref (G.2.2 + o0), .int (iv v1), .int (iv v2), .int (iv v3)] M0 0 0 (Qi R M0) := by
  refine Ct.of hC.1 (by decide +kernel) (Nat.le_of_ble_eq_true rfl) ?_
  intro p l e R0 s m args below meth c C
  show Jz G σ p l e R0 s m args below meth c 6 0 0 (Qi R M0) M0 0 0 0 [(0, .ref (G.2.2 + o0)), (1, .int (iv v1)), (2, .int (iv v2)), (3, .int (iv v3))] []
  have hb67 : ∀ (o0 : Nat) (v2 : Int) (v3 : Int) (vs0 : Int), (rg v2) → (rg v3) → (rg vs0) → uX10_hundredths_b67 o0 v2 v3 vs0 M0 = some R → Jz G σ p l e R0 s m args below meth c 6 0 0 (Qi R M0) M0 0 0 67 [(0, .ref (G.2.2 + o0)), (2, .int (iv v2)), (3, .int (iv v3))] [.int (iv vs0)] := by
    intro o0 v2 v3 vs0  gv2 gv3 gvs0 h
    unfold uX10_hundredths_b67 at h
    refine z_istore (lv' := [(0, .ref (G.2.2 + o0)), (2, .int (iv v2)), (3, .int (iv v3)), (5, .int (iv vs0))]) C dX10_hundredths_67 (by decide) [1, 2, 3, 0] rfl ?_
    refine z_aload_n C dX10_hundredths_69 0 rfl ?_
    refine z_iload_n C dX10_hundredths_70 1 rfl ?_
    refine z_iconst C dX10_hundredths_71 ?_
    obtain ⟨k1, h⟩ := gK_inv h
    obtain ⟨r2, hr2, h⟩ := bnd h
    refine y_cVi (st := []) C dX10_hundredths_72 mX10_249 k1 (tX10_ofWho hC o0 v2 0 gv2 (by decide) hr2) rfl rfl (Nat.le_of_ble_eq_true rfl) (by decide) (fun gr2 => ?_)
    refine z_if_le 85 C dX10_hundredths_75 (by decide) gr2 (fun e3 => ?_) (fun e3 => ?_)
    ·
      have h := (if_pos e3).symm.trans h
      refine z_iload C dX10_hundredths_85 3 rfl ?_
      exact y_iretP C dX10_hundredths_87 h gvs0
    ·
      have h := (if_neg e3).symm.trans h
      refine z_iload C dX10_hundredths_78 3 rfl ?_
      refine z_iload_n C dX10_hundredths_80 2 rfl ?_
      refine y_iadd C dX10_hundredths_81 ?_
      refine z_goto 87 C dX10_hundredths_82 (by decide) ?_
      exact y_iretP C dX10_hundredths_87 h (w32_rng _)
  unfold uX10_hundredths at h
  refine z_iload_n C dX10_hundredths_0 2 rfl ?_
  refine z_iload_n C dX10_hundredths_1 1 rfl ?_
  refine z_icmp_ne 8 C dX10_hundredths_2 (by decide) gv2 gv1 (fun e4 => ?_) (fun e4 => ?_)
  ·
    have h := (if_neg e4).symm.trans h
    refine z_aload_n C dX10_hundredths_8 0 rfl ?_
    refine z_iload_n C dX10_hundredths_9 2 rfl ?_
    refine z_iconst C dX10_hundredths_10 ?_
    obtain ⟨k5, h⟩ := gK_inv h
    obtain ⟨r6, hr6, h⟩ := bnd h
    refine y_cVi (st := []) C dX10_hundredths_11 mX10_249 k5 (tX10_ofWho hC o0 v2 1 gv2 (by decide) hr6) rfl rfl (Nat.le_of_ble_eq_true rfl) (by decide) (fun gr6 => ?_)
    refine z_if_le 19 C dX10_hundredths_14 (by decide) gr6 (fun e7 => ?_) (fun e7 => ?_)
    ·
      have h := (if_pos e7).symm.trans h
      refine z_aload_n C dX10_hundredths_19 0 rfl ?_
      obtain ⟨on8, hon8, h⟩ := bnd h
      refine y_getR C dX10_hundredths_20 fX10_13 rfl hon8 ?_
      refine z_bipush C dX10_hundredths_23 (by decide) ?_
      refine z_bipush C dX10_hundredths_25 (by decide) ?_
      refine z_iload_n C dX10_hundredths_27 1 rfl ?_
      refine y_imul C dX10_hundredths_28 ?_
      refine y_iadd C dX10_hundredths_29 ?_
      refine z_iload_n C dX10_hundredths_30 2 rfl ?_
      refine y_iadd C dX10_hundredths_31 ?_
      obtain ⟨x9, hx9, h⟩ := bnd h
      refine y_iald C dX10_hundredths_32 hx9 (fun gx9 => ?_)
      refine z_istore (lv' := [(0, .ref (G.2.2 + o0)), (1, .int (iv v1)), (2, .int (iv v2)), (3, .int (iv v3)), (4, .int (iv x9))]) C dX10_hundredths_33 (by decide) [1, 2, 3, 4, 0] rfl ?_
      refine z_aload_n C dX10_hundredths_35 0 rfl ?_
      refine z_iload_n C dX10_hundredths_36 2 rfl ?_
      refine z_iconst C dX10_hundredths_37 ?_
      obtain ⟨k10, h⟩ := gK_inv h
      obtain ⟨r11, hr11, h⟩ := bnd h
      refine y_cVi (st := []) C dX10_hundredths_38 mX10_249 k10 (tX10_ofWho hC o0 v2 2 gv2 (by decide) hr11) rfl rfl (Nat.le_of_ble_eq_true rfl) (by decide) (fun gr11 => ?_)
      refine z_if_le 53 C dX10_hundredths_41 (by decide) gr11 (fun e12 => ?_) (fun e12 => ?_)
      ·
        have h := (if_pos e12).symm.trans h
        refine z_iload C dX10_hundredths_53 4 rfl ?_
        refine z_if_ne 63 C dX10_hundredths_55 (by decide) gx9 (fun e13 => ?_) (fun e13 => ?_)
        ·
          have h := (if_neg e13).symm.trans h
          refine z_iload C dX10_hundredths_63 4 rfl ?_
          refine z_iconst C dX10_hundredths_65 ?_
          refine y_isub C dX10_hundredths_66 ?_
          refine z_drop (lv' := [(0, .ref (G.2.2 + o0)), (2, .int (iv v2)), (3, .int (iv v3))]) [0, 2, 3] rfl ?_
          exact hb67 o0 v2 v3 (w32 (x9 - 1))  gv2 gv3 (w32_rng _) h
        ·
          have h := (if_pos e13).symm.trans h
          refine z_bipush C dX10_hundredths_58 (by decide) ?_
          refine z_goto 67 C dX10_hundredths_60 (by decide) ?_
          refine z_drop (lv' := [(0, .ref (G.2.2 + o0)), (2, .int (iv v2)), (3, .int (iv v3))]) [0, 2, 3] rfl ?_
          exact hb67 o0 v2 v3 100  gv2 gv3 (by decide) h
      ·
        have h := (if_neg e12).symm.trans h
        refine z_aload_n C dX10_hundredths_44 0 rfl ?_
        obtain ⟨on14, hon14, h⟩ := bnd h
        refine y_getR C dX10_hundredths_45 fX10_13 rfl hon14 ?_
        refine z_iconst C dX10_hundredths_48 ?_
        obtain ⟨x15, hx15, h⟩ := bnd h
        refine y_iald C dX10_hundredths_49 hx15 (fun gx15 => ?_)
        refine z_goto 67 C dX10_hundredths_50 (by decide) ?_
        refine z_drop (lv' := [(0, .ref (G.2.2 + o0)), (2, .int (iv v2)), (3, .int (iv v3))]) [0, 2, 3] rfl ?_
        exact hb67 o0 v2 v3 x15  gv2 gv3 gx15 h
    ·
      have h := (if_neg e7).symm.trans h
      refine z_iconst C dX10_hundredths_17 ?_
      exact y_iretP C dX10_hundredths_18 h (by decide)
  ·
    have h := (if_pos e4).symm.trans h
    refine z_bipush C dX10_hundredths_5 (by decide) ?_
    exact y_iretP C dX10_hundredths_7 h (by decide)

set_option maxHeartbeats 4000000 in
set_option maxRecDepth 100000 in
theorem tX10_areUnfit {G : Gx} {σ : State} (hC : Cy G σ) (o0 : Nat) (v1 : Int) (v2 : Int) {M0 : Mm} (gv1 : rg v1) (gv2 : rg v2) {R : Int} (h : uX10_areUnfit o0 v1 v2 M0 = some R) : Ct G σ (2) yX10_areUnfit cX10_areUnfit 3 (some .boolean) [.ref (G.2.2 + o0), .int (iv v1), .int (iv v2)] M0 0 0 (Qb R M0) := by
  refine Ct.of hC.1 (by decide +kernel) (Nat.le_of_ble_eq_true rfl) ?_
  intro p l e R0 s m args below meth c C
  show Jz G σ p l e R0 s m args below meth c 3 0 0 (Qb R M0) M0 0 0 0 [(0, .ref (G.2.2 + o0)), (1, .int (iv v1)), (2, .int (iv v2))] []
  unfold uX10_areUnfit at h
  refine z_iload_n C dX10_areUnfit_0 1 rfl ?_
  refine z_iload_n C dX10_areUnfit_1 2 rfl ?_
  refine z_icmp_eq 23 C dX10_areUnfit_2 (by decide) gv1 gv2 (fun e1 => ?_) (fun e1 => ?_)
  ·
    have h := (if_pos e1).symm.trans h
    refine z_iconst C dX10_areUnfit_23 ?_
    refine z_goto 28 C dX10_areUnfit_24 (by decide) ?_
    exact y_zretP C dX10_areUnfit_28 h (by decide)
  ·
    have h := (if_neg e1).symm.trans h
    refine z_aload_n C dX10_areUnfit_5 0 rfl ?_
    refine z_iload_n C dX10_areUnfit_6 1 rfl ?_
    refine z_iconst C dX10_areUnfit_7 ?_
    obtain ⟨k2, h⟩ := gK_inv h
    obtain ⟨r3, hr3, h⟩ := bnd h
    refine y_cVi (st := []) C dX10_areUnfit_8 mX10_249 k2 (tX10_ofWho hC o0 v1 2 gv1 (by decide) hr3) rfl rfl (Nat.le_of_ble_eq_true rfl) (by decide) (fun gr3 => ?_)
    refine z_if_gt 23 C dX10_areUnfit_11 (by decide) gr3 (fun e4 => ?_) (fun e4 => ?_)
    ·
      have h := (if_pos e4).symm.trans h
      refine z_iconst C dX10_areUnfit_23 ?_
      refine z_goto 28 C dX10_areUnfit_24 (by decide) ?_
      exact y_zretP C dX10_areUnfit_28 h (by decide)
    ·
      have h := (if_neg e4).symm.trans h
      refine z_aload_n C dX10_areUnfit_14 0 rfl ?_
      refine z_iload_n C dX10_areUnfit_15 2 rfl ?_
      refine z_iconst C dX10_areUnfit_16 ?_
      obtain ⟨k5, h⟩ := gK_inv h
      obtain ⟨r6, hr6, h⟩ := bnd h
      refine y_cVi (st := []) C dX10_areUnfit_17 mX10_249 k5 (tX10_ofWho hC o0 v2 2 gv2 (by decide) hr6) rfl rfl (Nat.le_of_ble_eq_true rfl) (by decide) (fun gr6 => ?_)
      refine z_if_le 27 C dX10_areUnfit_20 (by decide) gr6 (fun e7 => ?_) (fun e7 => ?_)
      ·
        have h := (if_pos e7).symm.trans h
        refine z_iconst C dX10_areUnfit_27 ?_
        exact y_zretP C dX10_areUnfit_28 h (by decide)
      ·
        have h := (if_neg e7).symm.trans h
        refine z_iconst C dX10_areUnfit_23 ?_
        refine z_goto 28 C dX10_areUnfit_24 (by decide) ?_
        exact y_zretP C dX10_areUnfit_28 h (by decide)

set_option maxHeartbeats 4000000 in
set_option maxRecDepth 100000 in
theorem tX10_sold {G : Gx} {σ : State} (hC : Cy G σ) (o0 : Nat) (v1 : Int) (v2 : Int) {M0 : Mm} (gv1 : rg v1) (gv2 : rg v2) {R : Int × Mm} (h : uX10_sold o0 v1 v2 M0 = some R) : Ct G σ (2) yX10_sold cX10_sold 3 (some .int) [.ref (G.2.2 + o0), .int (iv v1), .int (iv v2)] M0 0 0 (Qi R.1 R.2) := by
  refine Ct.of hC.1 (by decide +kernel) (Nat.le_of_ble_eq_true rfl) ?_
  intro p l e R0 s m args below meth c C
  show Jz G σ p l e R0 s m args below meth c 3 0 0 (Qi R.1 R.2) M0 0 0 0 [(0, .ref (G.2.2 + o0)), (1, .int (iv v1)), (2, .int (iv v2))] []
  have hb25 : ∀ (o0 : Nat) (M : Mm), uX10_sold_b25 o0 M = some R → Jz G σ p l e R0 s m args below meth c 3 0 0 (Qi R.1 R.2) M 0 0 25 [(0, .ref (G.2.2 + o0))] [] := by
    intro o0 M  h
    unfold uX10_sold_b25 at h
    refine z_aload_n C dX10_sold_25 0 rfl ?_
    obtain ⟨k1, h⟩ := gK_inv h
    obtain ⟨r2, M3, hr2, h⟩ := bnd2 h
    refine y_cVi (st := []) C dX10_sold_26 mX10_246 k1 (tX10_refuse hC o0  hr2) rfl rfl (Nat.le_of_ble_eq_true rfl) (by decide) (fun gr2 => ?_)
    exact y_iretB C dX10_sold_29 h gr2
  unfold uX10_sold at h
  refine z_iload_n C dX10_sold_0 1 rfl ?_
  refine z_if_lt 25 C dX10_sold_1 (by decide) gv1 (fun e4 => ?_) (fun e4 => ?_)
  ·
    have h := (if_pos e4).symm.trans h
    refine z_drop (lv' := [(0, .ref (G.2.2 + o0))]) [0] rfl ?_
    exact hb25 o0 M0  h
  ·
    have h := (if_neg e4).symm.trans h
    refine z_iload_n C dX10_sold_4 1 rfl ?_
    refine z_aload_n C dX10_sold_5 0 rfl ?_
    obtain ⟨on5, hon5, h⟩ := bnd h
    refine y_getR C dX10_sold_6 fX10_13 rfl hon5 ?_
    refine z_bipush C dX10_sold_9 (by decide) ?_
    obtain ⟨x6, hx6, h⟩ := bnd h
    refine y_iald C dX10_sold_11 hx6 (fun gx6 => ?_)
    refine z_icmp_ge 25 C dX10_sold_12 (by decide) gv1 gx6 (fun e7 => ?_) (fun e7 => ?_)
    ·
      have h := (if_pos e7).symm.trans h
      refine z_drop (lv' := [(0, .ref (G.2.2 + o0))]) [0] rfl ?_
      exact hb25 o0 M0  h
    ·
      have h := (if_neg e7).symm.trans h
      refine z_iload_n C dX10_sold_15 2 rfl ?_
      refine z_iconst C dX10_sold_16 ?_
      refine z_bipush C dX10_sold_17 (by decide) ?_
      obtain ⟨r8, hr8, h⟩ := bnd h
      refine y_cSb (st := []) C dX10_sold_19 mX10_154 (tX10_isIn hC v2 0 6 gv2 (by decide) (by decide) hr8) rfl rfl (Nat.le_of_ble_eq_true rfl) (by decide) (fun br8 => ?_)
      refine z_if_ne 30 C dX10_sold_22 (by decide) (rg01 br8) (fun e9 => ?_) (fun e9 => ?_)
      ·
        have h := (if_neg e9).symm.trans h
        refine z_aload_n C dX10_sold_30 0 rfl ?_
        refine z_iconst C dX10_sold_31 ?_
        obtain ⟨M10, hM10, h⟩ := bnd h
        refine y_putI C dX10_sold_32 fX10_83 rfl rfl rfl rfl hM10 ?_
        refine z_aload_n C dX10_sold_35 0 rfl ?_
        obtain ⟨on11, hon11, h⟩ := bnd h
        refine y_getR C dX10_sold_36 fX10_13 rfl hon11 ?_
        refine z_sipush C dX10_sold_39 (by decide) ?_
        refine z_bipush C dX10_sold_42 (by decide) ?_
        refine z_iload_n C dX10_sold_44 1 rfl ?_
        refine y_imul C dX10_sold_45 ?_
        refine y_iadd C dX10_sold_46 ?_
        refine z_iload_n C dX10_sold_47 2 rfl ?_
        refine y_iadd C dX10_sold_48 ?_
        obtain ⟨x12, hx12, h⟩ := bnd h
        refine y_iald C dX10_sold_49 hx12 (fun gx12 => ?_)
        exact y_iretB C dX10_sold_50 h gx12
      ·
        have h := (if_pos e9).symm.trans h
        refine z_drop (lv' := [(0, .ref (G.2.2 + o0))]) [0] rfl ?_
        exact hb25 o0 M0  h

set_option maxHeartbeats 4000000 in
set_option maxRecDepth 100000 in
theorem tX10_costOf {G : Gx} {σ : State} (hC : Cy G σ) (o0 : Nat) (v1 : Int) (v2 : Int) (v3 : Int) {M0 : Mm} (gv1 : rg v1) (gv2 : rg v2) (gv3 : rg v3) {R : Int} (h : uX10_costOf o0 v1 v2 v3 M0 = some R) : Ct G σ (2) yX10_costOf cX10_costOf 7 (some .int) [.ref (G.2.2 + o0), .int (iv v1), .int (iv v2), .int (iv v3)] M0 0 0 (Qi R M0) := by
  refine Ct.of hC.1 (by decide +kernel) (Nat.le_of_ble_eq_true rfl) ?_
  intro p l e R0 s m args below meth c C
  show Jz G σ p l e R0 s m args below meth c 7 0 0 (Qi R M0) M0 0 0 0 [(0, .ref (G.2.2 + o0)), (1, .int (iv v1)), (2, .int (iv v2)), (3, .int (iv v3))] []
  have hb69 : ∀ (o0 : Nat) (v1 : Int) (os0 : Nat) (vs1 : Int) (vs2 : Int), (rg v1) → (rg vs1) → (rg vs2) → uX10_costOf_b69 o0 v1 os0 vs1 vs2 M0 = some R → Jz G σ p l e R0 s m args below meth c 7 0 0 (Qi R M0) M0 0 0 69 [(0, .ref (G.2.2 + o0)), (1, .int (iv v1))] [.int (iv vs2), .int (iv vs1), .ref (G.2.2 + os0)] := by
    intro o0 v1 os0 vs1 vs2  gv1 gvs1 gvs2 h
    unfold uX10_costOf_b69 at h
    refine y_iadd C dX10_costOf_69 ?_
    obtain ⟨x1, hx1, h⟩ := bnd h
    refine y_iald C dX10_costOf_70 hx1 (fun gx1 => ?_)
    refine z_istore (lv' := [(0, .ref (G.2.2 + o0)), (1, .int (iv v1)), (6, .int (iv x1))]) C dX10_costOf_71 (by decide) [1, 2, 0] rfl ?_
    refine z_iload C dX10_costOf_73 2 rfl ?_
    refine z_ldcw C dX10_costOf_75 kX10_314 ?_
    refine z_icmp_lt 87 C dX10_costOf_78 (by decide) gx1 (by decide) (fun e2 => ?_) (fun e2 => ?_)
    ·
      have h := (if_pos e2).symm.trans h
      refine z_iload C dX10_costOf_87 2 rfl ?_
      refine z_bipush C dX10_costOf_89 (by decide) ?_
      refine z_aload_n C dX10_costOf_91 0 rfl ?_
      refine z_aload_n C dX10_costOf_92 0 rfl ?_
      obtain ⟨on3, hon3, h⟩ := bnd h
      refine y_getR C dX10_costOf_93 fX10_43 rfl hon3 ?_
      refine z_iload_n C dX10_costOf_96 1 rfl ?_
      obtain ⟨x4, hx4, h⟩ := bnd h
      refine y_iald C dX10_costOf_97 hx4 (fun gx4 => ?_)
      refine z_iconst C dX10_costOf_98 ?_
      obtain ⟨k5, h⟩ := gK_inv h
      obtain ⟨r6, hr6, h⟩ := bnd h
      refine y_cVi (st := [.int (iv 16), .int (iv x1)]) C dX10_costOf_99 mX10_256 k5 (tX10_ofCoin hC o0 x4 0 gx4 (by decide) hr6) rfl rfl (Nat.le_of_ble_eq_true rfl) (by decide) (fun gr6 => ?_)
      refine y_imul C dX10_costOf_102 ?_
      refine y_iadd C dX10_costOf_103 ?_
      refine z_iconst C dX10_costOf_104 ?_
      refine y_iadd C dX10_costOf_105 ?_
      exact y_iretP C dX10_costOf_106 h (w32_rng _)
    ·
      have h := (if_neg e2).symm.trans h
      refine z_ldcw C dX10_costOf_81 kX10_314 ?_
      refine z_goto 106 C dX10_costOf_84 (by decide) ?_
      exact y_iretP C dX10_costOf_106 h (by decide)
  unfold uX10_costOf at h
  refine z_sipush C dX10_costOf_0 (by decide) ?_
  refine z_istore (lv' := [(0, .ref (G.2.2 + o0)), (1, .int (iv v1)), (2, .int (iv v2)), (3, .int (iv v3)), (4, .int (iv 2001))]) C dX10_costOf_3 (by decide) [1, 2, 3, 4, 0] rfl ?_
  refine z_iload_n C dX10_costOf_5 3 rfl ?_
  refine z_if_ne 23 C dX10_costOf_6 (by decide) gv3 (fun e7 => ?_) (fun e7 => ?_)
  ·
    have h := (if_neg e7).symm.trans h
    refine z_aload_n C dX10_costOf_23 0 rfl ?_
    obtain ⟨on8, hon8, h⟩ := bnd h
    refine y_getR C dX10_costOf_24 fX10_46 rfl hon8 ?_
    refine z_bipush C dX10_costOf_27 (by decide) ?_
    refine z_iload_n C dX10_costOf_29 1 rfl ?_
    refine y_imul C dX10_costOf_30 ?_
    refine z_iload_n C dX10_costOf_31 3 rfl ?_
    refine y_iadd C dX10_costOf_32 ?_
    obtain ⟨x9, hx9, h⟩ := bnd h
    refine y_iald C dX10_costOf_33 hx9 (fun gx9 => ?_)
    refine z_istore (lv' := [(0, .ref (G.2.2 + o0)), (1, .int (iv v1)), (2, .int (iv v2)), (3, .int (iv v3)), (4, .int (iv 2001)), (5, .int (iv x9))]) C dX10_costOf_34 (by decide) [1, 2, 3, 4, 5, 0] rfl ?_
    refine z_iload C dX10_costOf_36 5 rfl ?_
    refine z_if_ne 45 C dX10_costOf_38 (by decide) gx9 (fun e10 => ?_) (fun e10 => ?_)
    ·
      have h := (if_neg e10).symm.trans h
      refine z_aload_n C dX10_costOf_45 0 rfl ?_
      obtain ⟨on11, hon11, h⟩ := bnd h
      refine y_getR C dX10_costOf_46 fX10_49 rfl hon11 ?_
      refine z_iload C dX10_costOf_49 4 rfl ?_
      refine z_iload_n C dX10_costOf_51 1 rfl ?_
      refine z_iconst C dX10_costOf_52 ?_
      refine y_iadd C dX10_costOf_53 ?_
      refine y_imul C dX10_costOf_54 ?_
      refine z_iload_n C dX10_costOf_55 2 rfl ?_
      refine z_iload C dX10_costOf_56 5 rfl ?_
      refine z_icmp_le 68 C dX10_costOf_58 (by decide) gv2 gx9 (fun e12 => ?_) (fun e12 => ?_)
      ·
        have h := (if_pos e12).symm.trans h
        refine z_iconst C dX10_costOf_68 ?_
        refine z_drop (lv' := [(0, .ref (G.2.2 + o0)), (1, .int (iv v1))]) [0, 1] rfl ?_
        exact hb69 o0 v1 on11 (w32 (2001 * (w32 (v1 + 1)))) 0  gv1 (w32_rng _) (by decide) h
      ·
        have h := (if_neg e12).symm.trans h
        refine z_iload_n C dX10_costOf_61 2 rfl ?_
        refine z_iload C dX10_costOf_62 5 rfl ?_
        refine y_isub C dX10_costOf_64 ?_
        refine z_goto 69 C dX10_costOf_65 (by decide) ?_
        refine z_drop (lv' := [(0, .ref (G.2.2 + o0)), (1, .int (iv v1))]) [0, 1] rfl ?_
        exact hb69 o0 v1 on11 (w32 (2001 * (w32 (v1 + 1)))) (w32 (v2 - x9))  gv1 (w32_rng _) (w32_rng _) h
    ·
      have h := (if_pos e10).symm.trans h
      refine z_ldcw C dX10_costOf_41 kX10_314 ?_
      exact y_iretP C dX10_costOf_44 h (by decide)
  ·
    have h := (if_pos e7).symm.trans h
    refine z_aload_n C dX10_costOf_9 0 rfl ?_
    obtain ⟨on13, hon13, h⟩ := bnd h
    refine y_getR C dX10_costOf_10 fX10_49 rfl hon13 ?_
    refine z_iload C dX10_costOf_13 4 rfl ?_
    refine z_iload_n C dX10_costOf_15 1 rfl ?_
    refine z_iconst C dX10_costOf_16 ?_
    refine y_iadd C dX10_costOf_17 ?_
    refine y_imul C dX10_costOf_18 ?_
    refine z_iload_n C dX10_costOf_19 2 rfl ?_
    refine y_iadd C dX10_costOf_20 ?_
    obtain ⟨x14, hx14, h⟩ := bnd h
    refine y_iald C dX10_costOf_21 hx14 (fun gx14 => ?_)
    exact y_iretP C dX10_costOf_22 h gx14

set_option maxHeartbeats 4000000 in
set_option maxRecDepth 100000 in
theorem tX10_paid {G : Gx} {σ : State} (hC : Cy G σ) (o0 : Nat) (v1 : Int) {M0 : Mm} (gv1 : rg v1) {R : Int × Mm} (h : uX10_paid o0 v1 M0 = some R) : Ct G σ (2) yX10_paid cX10_paid 2 (some .int) [.ref (G.2.2 + o0), .int (iv v1)] M0 0 0 (Qi R.1 R.2) := by
  refine Ct.of hC.1 (by decide +kernel) (Nat.le_of_ble_eq_true rfl) ?_
  intro p l e R0 s m args below meth c C
  show Jz G σ p l e R0 s m args below meth c 2 0 0 (Qi R.1 R.2) M0 0 0 0 [(0, .ref (G.2.2 + o0)), (1, .int (iv v1))] []
  unfold uX10_paid at h
  refine z_aload_n C dX10_paid_0 0 rfl ?_
  refine z_iconst C dX10_paid_1 ?_
  obtain ⟨M1, hM1, h⟩ := bnd h
  refine y_putI C dX10_paid_2 fX10_83 rfl rfl rfl rfl hM1 ?_
  refine z_aload_n C dX10_paid_5 0 rfl ?_
  obtain ⟨x2, hx2, h⟩ := bnd h
  refine y_getI C dX10_paid_6 fX10_58 rfl hx2 (fun gx2 => ?_)
  refine z_iconst C dX10_paid_9 ?_
  refine z_icmp_eq 23 C dX10_paid_10 (by decide) gx2 (by decide) (fun e3 => ?_) (fun e3 => ?_)
  ·
    have h := (if_pos e3).symm.trans h
    refine z_iconst C dX10_paid_23 ?_
    refine z_goto 33 C dX10_paid_24 (by decide) ?_
    exact y_iretB C dX10_paid_33 h (by decide)
  ·
    have h := (if_neg e3).symm.trans h
    refine z_iload_n C dX10_paid_13 1 rfl ?_
    refine z_iconst C dX10_paid_14 ?_
    refine z_bipush C dX10_paid_15 (by decide) ?_
    obtain ⟨r4, hr4, h⟩ := bnd h
    refine y_cSb (st := []) C dX10_paid_17 mX10_154 (tX10_isIn hC v1 0 39 gv1 (by decide) (by decide) hr4) rfl rfl (Nat.le_of_ble_eq_true rfl) (by decide) (fun br4 => ?_)
    refine z_if_ne 27 C dX10_paid_20 (by decide) (rg01 br4) (fun e5 => ?_) (fun e5 => ?_)
    ·
      have h := (if_neg e5).symm.trans h
      refine z_aload_n C dX10_paid_27 0 rfl ?_
      obtain ⟨on6, hon6, h⟩ := bnd h
      refine y_getR C dX10_paid_28 fX10_52 rfl hon6 ?_
      refine z_iload_n C dX10_paid_31 1 rfl ?_
      obtain ⟨x7, hx7, h⟩ := bnd h
      refine y_iald C dX10_paid_32 hx7 (fun gx7 => ?_)
      exact y_iretB C dX10_paid_33 h gx7
    ·
      have h := (if_pos e5).symm.trans h
      refine z_iconst C dX10_paid_23 ?_
      refine z_goto 33 C dX10_paid_24 (by decide) ?_
      exact y_iretB C dX10_paid_33 h (by decide)

set_option maxHeartbeats 4000000 in
set_option maxRecDepth 100000 in
theorem tX10_isShown {G : Gx} {σ : State} (hC : Cy G σ) (o0 : Nat) (v1 : Int) {M0 : Mm} (gv1 : rg v1) {R : Int} (h : uX10_isShown o0 v1 M0 = some R) : Ct G σ (2) yX10_isShown cX10_isShown 4 (some .int) [.ref (G.2.2 + o0), .int (iv v1)] M0 0 0 (Qi R M0) := by
  refine Ct.of hC.1 (by decide +kernel) (Nat.le_of_ble_eq_true rfl) ?_
  intro p l e R0 s m args below meth c C
  show Jz G σ p l e R0 s m args below meth c 4 0 0 (Qi R M0) M0 0 0 0 [(0, .ref (G.2.2 + o0)), (1, .int (iv v1))] []
  have hb50 : uX10_isShown_b50 M0 = some R → Jz G σ p l e R0 s m args below meth c 4 0 0 (Qi R M0) M0 0 0 50 [] [] := by
    intro    h
    unfold uX10_isShown_b50 at h
    refine z_iconst C dX10_isShown_50 ?_
    exact y_iretP C dX10_isShown_51 h (by decide)
  have hb16 : ∀ (o0 : Nat) (v1 : Int) (v2 : Int) (v3 : Int), (rg v1) → (rg v2) → (rg v3) → uX10_isShown_b16 o0 v1 v2 v3 M0 = some R → Jz G σ p l e R0 s m args below meth c 4 0 0 (Qi R M0) M0 0 0 16 [(0, .ref (G.2.2 + o0)), (1, .int (iv v1)), (2, .int (iv v2)), (3, .int (iv v3))] [] := by
    intro o0 v1 v2 v3  gv1 gv2 gv3 h
    unfold uX10_isShown_b16 at h
    obtain ⟨b16, hb16_, hc16⟩ := bnd h
    have hL16 : ∀ (n : Nat) (v3 : Int), (rg v3) → lp (uX10_isShown_f16 o0 v1 v2 M0) n v3 = some b16 → Jz G σ p l e R0 s m args below meth c 4 0 0 (Qi R M0) M0 0 0 16 [(0, .ref (G.2.2 + o0)), (1, .int (iv v1)), (2, .int (iv v2)), (3, .int (iv v3))] [] := by
      intro n; induction n with
      | zero => intro v3 gv3 hq; exact (lp_0 hq).elim
      | succ n16 ih16 =>
        intro v3 gv3 hq
        obtain ⟨z16, h, hZ16⟩ := lp_s hq
        have h : uX10_isShown_s16 o0 v1 v2 M0 v3 = some z16 := h
        unfold uX10_isShown_s16 at h
        refine z_iload_n C dX10_isShown_16 3 rfl ?_
        refine z_aload_n C dX10_isShown_17 0 rfl ?_
        refine z_iload_n C dX10_isShown_18 2 rfl ?_
        refine z_iconst C dX10_isShown_19 ?_
        obtain ⟨k1, h⟩ := gK_inv h
        obtain ⟨r2, hr2, h⟩ := bnd h
        refine y_cVi (st := [.int (iv v3)]) C dX10_isShown_20 mX10_256 k1 (tX10_ofCoin hC o0 v2 3 gv2 (by decide) hr2) rfl rfl (Nat.le_of_ble_eq_true rfl) (by decide) (fun gr2 => ?_)
        refine z_icmp_ge 50 C dX10_isShown_23 (by decide) gv3 gr2 (fun e3 => ?_) (fun e3 => ?_)
        ·
          have h := (if_pos e3).symm.trans h
          have h : uX10_isShown_b50 M0 = some R := lp_ex (K := (uX10_isShown_c16 o0 v1 v2 M0)) h hZ16 hc16
          refine z_drop (lv' := []) [] rfl ?_
          exact hb50    h
        ·
          have h := (if_neg e3).symm.trans h
          refine z_aload_n C dX10_isShown_26 0 rfl ?_
          refine z_iload_n C dX10_isShown_27 2 rfl ?_
          refine z_iconst C dX10_isShown_28 ?_
          refine z_iconst C dX10_isShown_29 ?_
          refine z_iload_n C dX10_isShown_30 3 rfl ?_
          refine y_imul C dX10_isShown_31 ?_
          refine y_iadd C dX10_isShown_32 ?_
          refine z_iconst C dX10_isShown_33 ?_
          refine y_iadd C dX10_isShown_34 ?_
          obtain ⟨k4, h⟩ := gK_inv h
          obtain ⟨r5, hr5, h⟩ := bnd h
          refine y_cVi (st := []) C dX10_isShown_35 mX10_256 k4 (tX10_ofCoin hC o0 v2 (w32 ((w32 (4 + (w32 (3 * v3)))) + 2)) gv2 (w32_rng _) hr5) rfl rfl (Nat.le_of_ble_eq_true rfl) (by decide) (fun gr5 => ?_)
          refine z_iload_n C dX10_isShown_38 1 rfl ?_
          refine z_icmp_ne 44 C dX10_isShown_39 (by decide) gr5 gv1 (fun e6 => ?_) (fun e6 => ?_)
          ·
            have h := (if_neg e6).symm.trans h
            refine y_iinc (lv' := [(0, .ref (G.2.2 + o0)), (1, .int (iv v1)), (2, .int (iv v2)), (3, .int (iv (w32 (v3 + 1))))]) C dX10_isShown_44 3 rfl (by decide) [1, 2, 3, 0] rfl ?_
            refine z_goto 16 C dX10_isShown_47 (by decide) ?_
            exact ih16 (w32 (v3 + 1)) (w32_rng _) (lp_back h hZ16)
          ·
            have h := (if_pos e6).symm.trans h
            refine z_iconst C dX10_isShown_42 ?_
            have h := lp_ret (K := (uX10_isShown_c16 o0 v1 v2 M0)) h hZ16 hc16
            exact y_iretP C dX10_isShown_43 h (by decide)
    exact hL16 _ v3 gv3 hb16_
  unfold uX10_isShown at h
  refine z_aload_n C dX10_isShown_0 0 rfl ?_
  obtain ⟨on7, hon7, h⟩ := bnd h
  refine y_getR C dX10_isShown_1 fX10_13 rfl hon7 ?_
  refine z_sipush C dX10_isShown_4 (by decide) ?_
  refine z_bipush C dX10_isShown_7 (by decide) ?_
  refine z_iload_n C dX10_isShown_9 1 rfl ?_
  refine y_imul C dX10_isShown_10 ?_
  refine y_iadd C dX10_isShown_11 ?_
  obtain ⟨x8, hx8, h⟩ := bnd h
  refine y_iald C dX10_isShown_12 hx8 (fun gx8 => ?_)
  refine z_istore_n (lv' := [(0, .ref (G.2.2 + o0)), (1, .int (iv v1)), (2, .int (iv x8))]) C dX10_isShown_13 rfl (by decide) [1, 2, 0] rfl ?_
  refine z_iconst C dX10_isShown_14 ?_
  refine z_istore_n (lv' := [(0, .ref (G.2.2 + o0)), (1, .int (iv v1)), (2, .int (iv x8)), (3, .int (iv 0))]) C dX10_isShown_15 rfl (by decide) [1, 2, 3, 0] rfl ?_
  exact hb16 o0 v1 x8 0  gv1 gx8 (by decide) h

set_option maxHeartbeats 4000000 in
set_option maxRecDepth 100000 in
theorem tX10_isLike {G : Gx} {σ : State} (hC : Cy G σ) (o0 : Nat) (v1 : Int) (v2 : Int) {M0 : Mm} (gv1 : rg v1) (gv2 : rg v2) {R : Int × Mm} (h : uX10_isLike o0 v1 v2 M0 = some R) : Ct G σ (2) yX10_isLike cX10_isLike 7 (some .boolean) [.ref (G.2.2 + o0), .int (iv v1), .int (iv v2)] M0 0 0 (Qb R.1 R.2) := by
  refine Ct.of hC.1 (by decide +kernel) (Nat.le_of_ble_eq_true rfl) ?_
  intro p l e R0 s m args below meth c C
  show Jz G σ p l e R0 s m args below meth c 7 0 0 (Qb R.1 R.2) M0 0 0 0 [(0, .ref (G.2.2 + o0)), (1, .int (iv v1)), (2, .int (iv v2))] []
  have hb150 : ∀  (M : Mm), uX10_isLike_b150 M = some R → Jz G σ p l e R0 s m args below meth c 7 0 0 (Qb R.1 R.2) M 0 0 150 [] [] := by
    intro  M  h
    unfold uX10_isLike_b150 at h
    refine z_iconst C dX10_isLike_150 ?_
    exact y_zretB C dX10_isLike_151 h (by decide)
  have hb92 : ∀ (o0 : Nat) (v1 : Int) (v3 : Int) (v5 : Int) (M : Mm), (rg v1) → (rg v3) → (rg v5) → uX10_isLike_b92 o0 v1 v3 v5 M = some R → Jz G σ p l e R0 s m args below meth c 7 0 0 (Qb R.1 R.2) M 0 0 92 [(0, .ref (G.2.2 + o0)), (1, .int (iv v1)), (3, .int (iv v3)), (5, .int (iv v5))] [] := by
    intro o0 v1 v3 v5 M gv1 gv3 gv5 h
    unfold uX10_isLike_b92 at h
    obtain ⟨b92, hb92_, hc92⟩ := bnd h
    have hL92 : ∀ (n : Nat) (v5 : Int), (rg v5) → lp (uX10_isLike_f92 o0 v1 v3 M) n v5 = some b92 → Jz G σ p l e R0 s m args below meth c 7 0 0 (Qb R.1 R.2) M 0 0 92 [(0, .ref (G.2.2 + o0)), (1, .int (iv v1)), (3, .int (iv v3)), (5, .int (iv v5))] [] := by
      intro n; induction n with
      | zero => intro v5 gv5 hq; exact (lp_0 hq).elim
      | succ n92 ih92 =>
        intro v5 gv5 hq
        obtain ⟨z92, h, hZ92⟩ := lp_s hq
        have h : uX10_isLike_s92 o0 v1 v3 M v5 = some z92 := h
        unfold uX10_isLike_s92 at h
        refine z_iload C dX10_isLike_92 3 rfl ?_
        refine z_iload_n C dX10_isLike_94 2 rfl ?_
        refine z_icmp_ge 150 C dX10_isLike_95 (by decide) gv5 gv3 (fun e1 => ?_) (fun e1 => ?_)
        ·
          have h := (if_pos e1).symm.trans h
          have h : uX10_isLike_b150 M = some R := lp_ex (K := (uX10_isLike_c92 o0 v1 v3 M)) h hZ92 hc92
          refine z_drop (lv' := []) [] rfl ?_
          exact hb150  M  h
        ·
          have h := (if_neg e1).symm.trans h
          refine z_aload_n C dX10_isLike_98 0 rfl ?_
          obtain ⟨on2, hon2, h⟩ := bnd h
          refine y_getR C dX10_isLike_99 fX10_74 rfl hon2 ?_
          refine z_iload C dX10_isLike_102 3 rfl ?_
          obtain ⟨x3, hx3, h⟩ := bnd h
          refine y_iald C dX10_isLike_104 hx3 (fun gx3 => ?_)
          refine z_aload_n C dX10_isLike_105 0 rfl ?_
          refine z_iload_n C dX10_isLike_106 1 rfl ?_
          refine z_iconst C dX10_isLike_107 ?_
          refine z_iconst C dX10_isLike_108 ?_
          refine z_iload C dX10_isLike_109 3 rfl ?_
          refine y_imul C dX10_isLike_111 ?_
          refine y_iadd C dX10_isLike_112 ?_
          obtain ⟨k4, h⟩ := gK_inv h
          obtain ⟨r5, hr5, h⟩ := bnd h
          refine y_cVi (st := [.int (iv x3)]) C dX10_isLike_113 mX10_256 k4 (tX10_ofCoin hC o0 v1 (w32 (4 + (w32 (3 * v5)))) gv1 (w32_rng _) hr5) rfl rfl (Nat.le_of_ble_eq_true rfl) (by decide) (fun gr5 => ?_)
          refine z_icmp_ne 142 C dX10_isLike_116 (by decide) gx3 gr5 (fun e6 => ?_) (fun e6 => ?_)
          ·
            have h := (if_neg e6).symm.trans h
            refine z_iconst C dX10_isLike_142 ?_
            have h := lp_ret (K := (uX10_isLike_c92 o0 v1 v3 M)) h hZ92 hc92
            exact y_zretB C dX10_isLike_143 h (by decide)
          ·
            have h := (if_pos e6).symm.trans h
            refine z_aload_n C dX10_isLike_119 0 rfl ?_
            obtain ⟨on7, hon7, h⟩ := bnd h
            refine y_getR C dX10_isLike_120 fX10_77 rfl hon7 ?_
            refine z_iload C dX10_isLike_123 3 rfl ?_
            obtain ⟨x8, hx8, h⟩ := bnd h
            refine y_iald C dX10_isLike_125 hx8 (fun gx8 => ?_)
            refine z_aload_n C dX10_isLike_126 0 rfl ?_
            refine z_iload_n C dX10_isLike_127 1 rfl ?_
            refine z_iconst C dX10_isLike_128 ?_
            refine z_iconst C dX10_isLike_129 ?_
            refine z_iload C dX10_isLike_130 3 rfl ?_
            refine y_imul C dX10_isLike_132 ?_
            refine y_iadd C dX10_isLike_133 ?_
            refine z_iconst C dX10_isLike_134 ?_
            refine y_iadd C dX10_isLike_135 ?_
            obtain ⟨k9, h⟩ := gK_inv h
            obtain ⟨r10, hr10, h⟩ := bnd h
            refine y_cVi (st := [.int (iv x8)]) C dX10_isLike_136 mX10_256 k9 (tX10_ofCoin hC o0 v1 (w32 ((w32 (4 + (w32 (3 * v5)))) + 1)) gv1 (w32_rng _) hr10) rfl rfl (Nat.le_of_ble_eq_true rfl) (by decide) (fun gr10 => ?_)
            refine z_icmp_eq 144 C dX10_isLike_139 (by decide) gx8 gr10 (fun e11 => ?_) (fun e11 => ?_)
            ·
              have h := (if_pos e11).symm.trans h
              refine y_iinc (lv' := [(0, .ref (G.2.2 + o0)), (1, .int (iv v1)), (3, .int (iv v3)), (5, .int (iv (w32 (v5 + 1))))]) C dX10_isLike_144 3 rfl (by decide) [1, 2, 3, 0] rfl ?_
              refine z_goto 92 C dX10_isLike_147 (by decide) ?_
              exact ih92 (w32 (v5 + 1)) (w32_rng _) (lp_back h hZ92)
            ·
              have h := (if_neg e11).symm.trans h
              refine z_iconst C dX10_isLike_142 ?_
              have h := lp_ret (K := (uX10_isLike_c92 o0 v1 v3 M)) h hZ92 hc92
              exact y_zretB C dX10_isLike_143 h (by decide)
    exact hL92 _ v5 gv5 hb92_
  have hb77 : ∀ (o0 : Nat) (v1 : Int) (v3 : Int) (M : Mm), (rg v1) → (rg v3) → uX10_isLike_b77 o0 v1 v3 M = some R → Jz G σ p l e R0 s m args below meth c 7 0 0 (Qb R.1 R.2) M 0 0 77 [(0, .ref (G.2.2 + o0)), (1, .int (iv v1)), (3, .int (iv v3))] [] := by
    intro o0 v1 v3 M gv1 gv3 h
    unfold uX10_isLike_b77 at h
    refine z_iload_n C dX10_isLike_77 2 rfl ?_
    refine z_aload_n C dX10_isLike_78 0 rfl ?_
    refine z_iload_n C dX10_isLike_79 1 rfl ?_
    refine z_iconst C dX10_isLike_80 ?_
    obtain ⟨k12, h⟩ := gK_inv h
    obtain ⟨r13, hr13, h⟩ := bnd h
    refine y_cVi (st := [.int (iv v3)]) C dX10_isLike_81 mX10_256 k12 (tX10_ofCoin hC o0 v1 3 gv1 (by decide) hr13) rfl rfl (Nat.le_of_ble_eq_true rfl) (by decide) (fun gr13 => ?_)
    refine z_icmp_eq 89 C dX10_isLike_84 (by decide) gv3 gr13 (fun e14 => ?_) (fun e14 => ?_)
    ·
      have h := (if_pos e14).symm.trans h
      refine z_iconst C dX10_isLike_89 ?_
      refine z_istore (lv' := [(0, .ref (G.2.2 + o0)), (1, .int (iv v1)), (3, .int (iv v3)), (5, .int (iv 0))]) C dX10_isLike_90 (by decide) [1, 2, 3, 0] rfl ?_
      exact hb92 o0 v1 v3 0 M gv1 gv3 (by decide) h
    ·
      have h := (if_neg e14).symm.trans h
      refine z_iconst C dX10_isLike_87 ?_
      exact y_zretB C dX10_isLike_88 h (by decide)
  have hb10 : ∀ (o0 : Nat) (v1 : Int) (v3 : Int) (v4 : Int) (v5 : Int) (M : Mm), (rg v1) → (rg v3) → (rg v4) → (rg v5) → uX10_isLike_b10 o0 v1 v3 v4 v5 M = some R → Jz G σ p l e R0 s m args below meth c 7 0 0 (Qb R.1 R.2) M 0 0 10 [(0, .ref (G.2.2 + o0)), (1, .int (iv v1)), (3, .int (iv v3)), (4, .int (iv v4)), (5, .int (iv v5))] [] := by
    intro o0 v1 v3 v4 v5 M gv1 gv3 gv4 gv5 h
    unfold uX10_isLike_b10 at h
    obtain ⟨b10, hb10_, hc10⟩ := bnd h
    have hL10 : ∀ (n : Nat) (v3 : Int) (v4 : Int) (v5 : Int) (M : Mm), (rg v3) → (rg v4) → (rg v5) → lp (uX10_isLike_f10 o0 v1) n (v3, v4, v5, M) = some b10 → Jz G σ p l e R0 s m args below meth c 7 0 0 (Qb R.1 R.2) M 0 0 10 [(0, .ref (G.2.2 + o0)), (1, .int (iv v1)), (3, .int (iv v3)), (4, .int (iv v4)), (5, .int (iv v5))] [] := by
      intro n; induction n with
      | zero => intro v3 v4 v5 M gv3 gv4 gv5 hq; exact (lp_0 hq).elim
      | succ n10 ih10 =>
        intro v3 v4 v5 M gv3 gv4 gv5 hq
        obtain ⟨z10, h, hZ10⟩ := lp_s hq
        have h : uX10_isLike_s10 o0 v1 v3 v4 v5 M = some z10 := h
        unfold uX10_isLike_s10 at h
        refine z_iload C dX10_isLike_10 4 rfl ?_
        refine z_if_lt 77 C dX10_isLike_12 (by decide) gv5 (fun e15 => ?_) (fun e15 => ?_)
        ·
          have h := (if_pos e15).symm.trans h
          have h : uX10_isLike_b77 o0 v1 v3 M = some R := lp_ex (K := (uX10_isLike_c10 o0 v1)) h hZ10 hc10
          refine z_drop (lv' := [(0, .ref (G.2.2 + o0)), (1, .int (iv v1)), (3, .int (iv v3))]) [0, 1, 2] rfl ?_
          exact hb77 o0 v1 v3 M gv1 gv3 h
        ·
          have h := (if_neg e15).symm.trans h
          refine z_bipush C dX10_isLike_15 (by decide) ?_
          refine z_iload C dX10_isLike_17 3 rfl ?_
          refine y_isub C dX10_isLike_19 ?_
          refine z_istore (lv' := [(0, .ref (G.2.2 + o0)), (1, .int (iv v1)), (3, .int (iv v3)), (4, .int (iv v4)), (5, .int (iv v5)), (6, .int (iv (w32 (9 - v4))))]) C dX10_isLike_20 (by decide) [1, 2, 3, 4, 5, 0] rfl ?_
          refine z_iload C dX10_isLike_22 3 rfl ?_
          refine z_aload_n C dX10_isLike_24 0 rfl ?_
          refine z_aload_n C dX10_isLike_25 0 rfl ?_
          obtain ⟨on16, hon16, h⟩ := bnd h
          refine y_getR C dX10_isLike_26 fX10_65 rfl hon16 ?_
          refine z_iload C dX10_isLike_29 4 rfl ?_
          obtain ⟨x17, hx17, h⟩ := bnd h
          refine y_iald C dX10_isLike_31 hx17 (fun gx17 => ?_)
          refine z_iconst C dX10_isLike_32 ?_
          obtain ⟨k18, h⟩ := gK_inv h
          obtain ⟨r19, hr19, h⟩ := bnd h
          refine y_cVi (st := [.int (iv v4)]) C dX10_isLike_33 mX10_262 k18 (tX10_ofMint hC o0 x17 1 gx17 (by decide) hr19) rfl rfl (Nat.le_of_ble_eq_true rfl) (by decide) (fun gr19 => ?_)
          refine y_iadd C dX10_isLike_36 ?_
          refine z_istore (lv' := [(0, .ref (G.2.2 + o0)), (1, .int (iv v1)), (3, .int (iv v3)), (4, .int (iv (w32 (v4 + r19)))), (5, .int (iv v5)), (6, .int (iv (w32 (9 - v4))))]) C dX10_isLike_37 (by decide) [1, 2, 3, 0, 4, 5] rfl ?_
          refine z_iload C dX10_isLike_39 5 rfl ?_
          refine z_if_gt 47 C dX10_isLike_41 (by decide) (w32_rng _) (fun e20 => ?_) (fun e20 => ?_)
          ·
            have h := (if_pos e20).symm.trans h
            refine z_aload_n C dX10_isLike_47 0 rfl ?_
            obtain ⟨on21, hon21, h⟩ := bnd h
            refine y_getR C dX10_isLike_48 fX10_74 rfl hon21 ?_
            refine z_iload_n C dX10_isLike_51 2 rfl ?_
            refine z_aload_n C dX10_isLike_52 0 rfl ?_
            obtain ⟨on22, hon22, h⟩ := bnd h
            refine y_getR C dX10_isLike_53 fX10_62 rfl hon22 ?_
            refine z_iload C dX10_isLike_56 4 rfl ?_
            obtain ⟨x23, hx23, h⟩ := bnd h
            refine y_iald C dX10_isLike_58 hx23 (fun gx23 => ?_)
            obtain ⟨M24, hM24, h⟩ := bnd h
            refine y_iast C dX10_isLike_59 hM24 ?_
            refine z_aload_n C dX10_isLike_60 0 rfl ?_
            obtain ⟨on25, hon25, h⟩ := bnd h
            refine y_getR C dX10_isLike_61 fX10_77 rfl hon25 ?_
            refine z_iload_n C dX10_isLike_64 2 rfl ?_
            refine z_iload C dX10_isLike_65 5 rfl ?_
            obtain ⟨M26, hM26, h⟩ := bnd h
            refine y_iast C dX10_isLike_67 hM26 ?_
            refine y_iinc (lv' := [(0, .ref (G.2.2 + o0)), (1, .int (iv v1)), (3, .int (iv (w32 (v3 + 1)))), (4, .int (iv (w32 (v4 + r19)))), (5, .int (iv v5)), (6, .int (iv (w32 (9 - v4))))]) C dX10_isLike_68 2 rfl (by decide) [1, 2, 0, 3, 4, 5] rfl ?_
            refine y_iinc (lv' := [(0, .ref (G.2.2 + o0)), (1, .int (iv v1)), (3, .int (iv (w32 (v3 + 1)))), (4, .int (iv (w32 (v4 + r19)))), (5, .int (iv (w32 (v5 + (-1))))), (6, .int (iv (w32 (9 - v4))))]) C dX10_isLike_71 4 rfl (by decide) [1, 2, 3, 4, 0, 5] rfl ?_
            refine z_goto 10 C dX10_isLike_74 (by decide) ?_
            refine z_drop (lv' := [(0, .ref (G.2.2 + o0)), (1, .int (iv v1)), (3, .int (iv (w32 (v3 + 1)))), (4, .int (iv (w32 (v4 + r19)))), (5, .int (iv (w32 (v5 + (-1)))))]) [0, 1, 2, 3, 4] rfl ?_
            exact ih10 (w32 (v3 + 1)) (w32 (v4 + r19)) (w32 (v5 + (-1))) M26 (w32_rng _) (w32_rng _) (w32_rng _) (lp_back h hZ10)
          ·
            have h := (if_neg e20).symm.trans h
            refine z_goto 71 C dX10_isLike_44 (by decide) ?_
            refine y_iinc (lv' := [(0, .ref (G.2.2 + o0)), (1, .int (iv v1)), (3, .int (iv v3)), (4, .int (iv (w32 (v4 + r19)))), (5, .int (iv (w32 (v5 + (-1))))), (6, .int (iv (w32 (9 - v4))))]) C dX10_isLike_71 4 rfl (by decide) [1, 2, 3, 4, 0, 5] rfl ?_
            refine z_goto 10 C dX10_isLike_74 (by decide) ?_
            refine z_drop (lv' := [(0, .ref (G.2.2 + o0)), (1, .int (iv v1)), (3, .int (iv v3)), (4, .int (iv (w32 (v4 + r19)))), (5, .int (iv (w32 (v5 + (-1)))))]) [0, 1, 2, 3, 4] rfl ?_
            exact ih10 v3 (w32 (v4 + r19)) (w32 (v5 + (-1))) M gv3 (w32_rng _) (w32_rng _) (lp_back h hZ10)
    exact hL10 _ v3 v4 v5 M gv3 gv4 gv5 hb10_
  unfold uX10_isLike at h
  refine z_iconst C dX10_isLike_0 ?_
  refine z_istore_n (lv' := [(0, .ref (G.2.2 + o0)), (1, .int (iv v1)), (2, .int (iv v2)), (3, .int (iv 0))]) C dX10_isLike_1 rfl (by decide) [1, 2, 3, 0] rfl ?_
  refine z_iconst C dX10_isLike_2 ?_
  refine z_istore (lv' := [(0, .ref (G.2.2 + o0)), (1, .int (iv v1)), (2, .int (iv v2)), (3, .int (iv 0)), (4, .int (iv 0))]) C dX10_isLike_3 (by decide) [1, 2, 3, 4, 0] rfl ?_
  refine z_iload_n C dX10_isLike_5 2 rfl ?_
  refine z_iconst C dX10_isLike_6 ?_
  refine y_isub C dX10_isLike_7 ?_
  refine z_istore (lv' := [(0, .ref (G.2.2 + o0)), (1, .int (iv v1)), (2, .int (iv v2)), (3, .int (iv 0)), (4, .int (iv 0)), (5, .int (iv (w32 (v2 - 1))))]) C dX10_isLike_8 (by decide) [1, 2, 3, 4, 5, 0] rfl ?_
  refine z_drop (lv' := [(0, .ref (G.2.2 + o0)), (1, .int (iv v1)), (3, .int (iv 0)), (4, .int (iv 0)), (5, .int (iv (w32 (v2 - 1))))]) [0, 1, 3, 4, 5] rfl ?_
  exact hb10 o0 v1 0 0 (w32 (v2 - 1)) M0 gv1 (by decide) (by decide) (w32_rng _) h

set_option maxHeartbeats 4000000 in
set_option maxRecDepth 100000 in
theorem tX10_could {G : Gx} {σ : State} (hC : Cy G σ) (o0 : Nat) (v1 : Int) (v2 : Int) {M0 : Mm} (gv1 : rg v1) (gv2 : rg v2) {R : Int × Mm} (h : uX10_could o0 v1 v2 M0 = some R) : Ct G σ (2) yX10_could cX10_could 3 (some .int) [.ref (G.2.2 + o0), .int (iv v1), .int (iv v2)] M0 0 0 (Qi R.1 R.2) := by
  refine Ct.of hC.1 (by decide +kernel) (Nat.le_of_ble_eq_true rfl) ?_
  intro p l e R0 s m args below meth c C
  show Jz G σ p l e R0 s m args below meth c 3 0 0 (Qi R.1 R.2) M0 0 0 0 [(0, .ref (G.2.2 + o0)), (1, .int (iv v1)), (2, .int (iv v2))] []
  unfold uX10_could at h
  refine z_aload_n C dX10_could_0 0 rfl ?_
  refine z_iconst C dX10_could_1 ?_
  obtain ⟨M1, hM1, h⟩ := bnd h
  refine y_putI C dX10_could_2 fX10_83 rfl rfl rfl rfl hM1 ?_
  refine z_iload_n C dX10_could_5 1 rfl ?_
  refine z_if_lt 48 C dX10_could_6 (by decide) gv1 (fun e2 => ?_) (fun e2 => ?_)
  ·
    have h := (if_pos e2).symm.trans h
    refine z_iconst C dX10_could_48 ?_
    exact y_iretB C dX10_could_49 h (by decide)
  ·
    have h := (if_neg e2).symm.trans h
    refine z_iload_n C dX10_could_9 1 rfl ?_
    refine z_aload_n C dX10_could_10 0 rfl ?_
    obtain ⟨x3, hx3, h⟩ := bnd h
    refine y_getI C dX10_could_11 fX10_352 rfl hx3 (fun gx3 => ?_)
    refine z_icmp_ge 48 C dX10_could_14 (by decide) gv1 gx3 (fun e4 => ?_) (fun e4 => ?_)
    ·
      have h := (if_pos e4).symm.trans h
      refine z_iconst C dX10_could_48 ?_
      exact y_iretB C dX10_could_49 h (by decide)
    ·
      have h := (if_neg e4).symm.trans h
      refine z_iload_n C dX10_could_17 2 rfl ?_
      refine z_iconst C dX10_could_18 ?_
      refine z_iconst C dX10_could_19 ?_
      obtain ⟨r5, hr5, h⟩ := bnd h
      refine y_cSb (st := []) C dX10_could_20 mX10_154 (tX10_isIn hC v2 0 1 gv2 (by decide) (by decide) hr5) rfl rfl (Nat.le_of_ble_eq_true rfl) (by decide) (fun br5 => ?_)
      refine z_if_eq 48 C dX10_could_23 (by decide) (rg01 br5) (fun e6 => ?_) (fun e6 => ?_)
      ·
        have h := (if_pos e6).symm.trans h
        refine z_iconst C dX10_could_48 ?_
        exact y_iretB C dX10_could_49 h (by decide)
      ·
        have h := (if_neg e6).symm.trans h
        refine z_iload_n C dX10_could_26 2 rfl ?_
        refine z_if_ne 39 C dX10_could_27 (by decide) gv2 (fun e7 => ?_) (fun e7 => ?_)
        ·
          have h := (if_neg e7).symm.trans h
          refine z_aload_n C dX10_could_39 0 rfl ?_
          obtain ⟨on8, hon8, h⟩ := bnd h
          refine y_getR C dX10_could_40 fX10_71 rfl hon8 ?_
          refine z_iload_n C dX10_could_43 1 rfl ?_
          obtain ⟨x9, hx9, h⟩ := bnd h
          refine y_iald C dX10_could_44 hx9 (fun gx9 => ?_)
          refine z_goto 49 C dX10_could_45 (by decide) ?_
          exact y_iretB C dX10_could_49 h gx9
        ·
          have h := (if_pos e7).symm.trans h
          refine z_aload_n C dX10_could_30 0 rfl ?_
          obtain ⟨on10, hon10, h⟩ := bnd h
          refine y_getR C dX10_could_31 fX10_68 rfl hon10 ?_
          refine z_iload_n C dX10_could_34 1 rfl ?_
          obtain ⟨x11, hx11, h⟩ := bnd h
          refine y_iald C dX10_could_35 hx11 (fun gx11 => ?_)
          refine z_goto 49 C dX10_could_36 (by decide) ?_
          exact y_iretB C dX10_could_49 h gx11

set_option maxHeartbeats 4000000 in
set_option maxRecDepth 100000 in
theorem tX10_shows {G : Gx} {σ : State} (hC : Cy G σ) (o0 : Nat) (v1 : Int) (v2 : Int) {M0 : Mm} (gv1 : rg v1) (gv2 : rg v2) {R : Int} (h : uX10_shows o0 v1 v2 M0 = some R) : Ct G σ (2) yX10_shows cX10_shows 4 (some .boolean) [.ref (G.2.2 + o0), .int (iv v1), .int (iv v2)] M0 0 0 (Qb R M0) := by
  refine Ct.of hC.1 (by decide +kernel) (Nat.le_of_ble_eq_true rfl) ?_
  intro p l e R0 s m args below meth c C
  show Jz G σ p l e R0 s m args below meth c 4 0 0 (Qb R M0) M0 0 0 0 [(0, .ref (G.2.2 + o0)), (1, .int (iv v1)), (2, .int (iv v2))] []
  have hb34 : uX10_shows_b34 M0 = some R → Jz G σ p l e R0 s m args below meth c 4 0 0 (Qb R M0) M0 0 0 34 [] [] := by
    intro    h
    unfold uX10_shows_b34 at h
    refine z_iconst C dX10_shows_34 ?_
    exact y_zretP C dX10_shows_35 h (by decide)
  have hb2 : ∀ (o0 : Nat) (v1 : Int) (v2 : Int) (v3 : Int), (rg v1) → (rg v2) → (rg v3) → uX10_shows_b2 o0 v1 v2 v3 M0 = some R → Jz G σ p l e R0 s m args below meth c 4 0 0 (Qb R M0) M0 0 0 2 [(0, .ref (G.2.2 + o0)), (1, .int (iv v1)), (2, .int (iv v2)), (3, .int (iv v3))] [] := by
    intro o0 v1 v2 v3  gv1 gv2 gv3 h
    unfold uX10_shows_b2 at h
    obtain ⟨b2, hb2_, hc2⟩ := bnd h
    have hL2 : ∀ (n : Nat) (v3 : Int), (rg v3) → lp (uX10_shows_f2 o0 v1 v2 M0) n v3 = some b2 → Jz G σ p l e R0 s m args below meth c 4 0 0 (Qb R M0) M0 0 0 2 [(0, .ref (G.2.2 + o0)), (1, .int (iv v1)), (2, .int (iv v2)), (3, .int (iv v3))] [] := by
      intro n; induction n with
      | zero => intro v3 gv3 hq; exact (lp_0 hq).elim
      | succ n2 ih2 =>
        intro v3 gv3 hq
        obtain ⟨z2, h, hZ2⟩ := lp_s hq
        have h : uX10_shows_s2 o0 v1 v2 M0 v3 = some z2 := h
        unfold uX10_shows_s2 at h
        refine z_iload_n C dX10_shows_2 3 rfl ?_
        refine z_aload_n C dX10_shows_3 0 rfl ?_
        refine z_iload_n C dX10_shows_4 1 rfl ?_
        refine z_iconst C dX10_shows_5 ?_
        obtain ⟨k1, h⟩ := gK_inv h
        obtain ⟨r2, hr2, h⟩ := bnd h
        refine y_cVi (st := [.int (iv v3)]) C dX10_shows_6 mX10_256 k1 (tX10_ofCoin hC o0 v1 3 gv1 (by decide) hr2) rfl rfl (Nat.le_of_ble_eq_true rfl) (by decide) (fun gr2 => ?_)
        refine z_icmp_ge 34 C dX10_shows_9 (by decide) gv3 gr2 (fun e3 => ?_) (fun e3 => ?_)
        ·
          have h := (if_pos e3).symm.trans h
          have h : uX10_shows_b34 M0 = some R := lp_ex (K := (uX10_shows_c2 o0 v1 v2 M0)) h hZ2 hc2
          refine z_drop (lv' := []) [] rfl ?_
          exact hb34    h
        ·
          have h := (if_neg e3).symm.trans h
          refine z_aload_n C dX10_shows_12 0 rfl ?_
          refine z_iload_n C dX10_shows_13 1 rfl ?_
          refine z_iconst C dX10_shows_14 ?_
          refine z_iconst C dX10_shows_15 ?_
          refine z_iload_n C dX10_shows_16 3 rfl ?_
          refine y_imul C dX10_shows_17 ?_
          refine y_iadd C dX10_shows_18 ?_
          obtain ⟨k4, h⟩ := gK_inv h
          obtain ⟨r5, hr5, h⟩ := bnd h
          refine y_cVi (st := []) C dX10_shows_19 mX10_256 k4 (tX10_ofCoin hC o0 v1 (w32 (4 + (w32 (3 * v3)))) gv1 (w32_rng _) hr5) rfl rfl (Nat.le_of_ble_eq_true rfl) (by decide) (fun gr5 => ?_)
          refine z_iload_n C dX10_shows_22 2 rfl ?_
          refine z_icmp_ne 28 C dX10_shows_23 (by decide) gr5 gv2 (fun e6 => ?_) (fun e6 => ?_)
          ·
            have h := (if_neg e6).symm.trans h
            refine y_iinc (lv' := [(0, .ref (G.2.2 + o0)), (1, .int (iv v1)), (2, .int (iv v2)), (3, .int (iv (w32 (v3 + 1))))]) C dX10_shows_28 3 rfl (by decide) [1, 2, 3, 0] rfl ?_
            refine z_goto 2 C dX10_shows_31 (by decide) ?_
            exact ih2 (w32 (v3 + 1)) (w32_rng _) (lp_back h hZ2)
          ·
            have h := (if_pos e6).symm.trans h
            refine z_iconst C dX10_shows_26 ?_
            have h := lp_ret (K := (uX10_shows_c2 o0 v1 v2 M0)) h hZ2 hc2
            exact y_zretP C dX10_shows_27 h (by decide)
    exact hL2 _ v3 gv3 hb2_
  unfold uX10_shows at h
  refine z_iconst C dX10_shows_0 ?_
  refine z_istore_n (lv' := [(0, .ref (G.2.2 + o0)), (1, .int (iv v1)), (2, .int (iv v2)), (3, .int (iv 0))]) C dX10_shows_1 rfl (by decide) [1, 2, 3, 0] rfl ?_
  exact hb2 o0 v1 v2 0  gv1 gv2 (by decide) h

set_option maxHeartbeats 4000000 in
set_option maxRecDepth 100000 in
theorem tX0_seekCheapest_o {G : Gx} {σ : State} (hC : Cy G σ) (dd : Nat) (rc : Nat → Int → Int → Int → Int → Mm → Option (Mm)) (hrc : ∀ (o0 : Nat) (v1 : Int) (v2 : Int) (v3 : Int) (v4 : Int) {M : Mm}, rg v1 → rg v2 → rg v3 → rg v4 → ∀ {R : Mm}, rc o0 v1 v2 v3 v4 M = some R → Ct G σ dd yX0_seekCheapest cX0_seekCheapest 5 none [.ref (G.2.2 + o0), .int (iv v1), .int (iv v2), .int (iv v3), .int (iv v4)] M 0 0 (Qv R)) (o0 : Nat) (v1 : Int) (v2 : Int) (v3 : Int) (v4 : Int) {M0 : Mm} (gv1 : rg v1) (gv2 : rg v2) (gv3 : rg v3) (gv4 : rg v4) {R : Mm} (h : uX0_seekCheapest_o rc o0 v1 v2 v3 v4 M0 = some R) : Ct G σ (dd + 13) yX0_seekCheapest cX0_seekCheapest 5 none [.ref (G.2.2 + o0), .int (iv v1), .int (iv v2), .int (iv v3), .int (iv v4)] M0 0 0 (Qv R) := by
  refine Ct.of hC.1 (by decide +kernel) (Nat.le_of_ble_eq_true rfl) ?_
  intro p l e R0 s m args below meth c C
  show Jz G σ p l e R0 s m args below meth c 5 0 0 (Qv R) M0 0 0 0 [(0, .ref (G.2.2 + o0)), (1, .int (iv v1)), (2, .int (iv v2)), (3, .int (iv v3)), (4, .int (iv v4))] []
  have hb55 : ∀ (o0 : Nat) (v1 : Int) (v2 : Int) (v3 : Int) (v4 : Int) (M : Mm), (rg v1) → (rg v2) → (rg v3) → (rg v4) → uX0_seekCheapest_b55 rc o0 v1 v2 v3 v4 M = some R → Jz G σ p l e R0 s m args below meth c 5 0 0 (Qv R) M 0 0 55 [(0, .ref (G.2.2 + o0)), (1, .int (iv v1)), (2, .int (iv v2)), (3, .int (iv v3)), (4, .int (iv v4))] [] := by
    intro o0 v1 v2 v3 v4 M gv1 gv2 gv3 gv4 h
    unfold uX0_seekCheapest_b55 at h
    refine z_aload_n C dX0_seekCheapest_55 0 rfl ?_
    refine z_iload_n C dX0_seekCheapest_56 1 rfl ?_
    refine z_iconst C dX0_seekCheapest_57 ?_
    refine y_iadd C dX0_seekCheapest_58 ?_
    refine z_iload_n C dX0_seekCheapest_59 2 rfl ?_
    refine z_aload_n C dX0_seekCheapest_60 0 rfl ?_
    obtain ⟨on1, hon1, h⟩ := bnd h
    refine y_getR C dX0_seekCheapest_61 fX0_24 rfl hon1 ?_
    refine z_iload_n C dX0_seekCheapest_64 1 rfl ?_
    obtain ⟨x2, hx2, h⟩ := bnd h
    refine y_iald C dX0_seekCheapest_65 hx2 (fun gx2 => ?_)
    refine y_iadd C dX0_seekCheapest_66 ?_
    refine z_iload_n C dX0_seekCheapest_67 3 rfl ?_
    refine z_iconst C dX0_seekCheapest_68 ?_
    refine y_iadd C dX0_seekCheapest_69 ?_
    refine z_iload C dX0_seekCheapest_70 4 rfl ?_
    refine z_aload_n C dX0_seekCheapest_72 0 rfl ?_
    obtain ⟨on3, hon3, h⟩ := bnd h
    refine y_getR C dX0_seekCheapest_73 fX0_27 rfl hon3 ?_
    refine z_iload_n C dX0_seekCheapest_76 1 rfl ?_
    obtain ⟨x4, hx4, h⟩ := bnd h
    refine y_iald C dX0_seekCheapest_77 hx4 (fun gx4 => ?_)
    refine y_isub C dX0_seekCheapest_78 ?_
    obtain ⟨k5, h⟩ := gK_inv h
    obtain ⟨M6, hM6, h⟩ := bnd h
    refine y_cVv (st := []) C dX0_seekCheapest_79 mX0_71 k5 (hrc o0 (w32 (v1 + 1)) (w32 (v2 + x2)) (w32 (v3 + 1)) (w32 (v4 - x4)) (w32_rng _) (w32_rng _) (w32_rng _) (w32_rng _) hM6) rfl rfl (Nat.le_of_ble_eq_true rfl) (by omega) ?_
    refine z_aload_n C dX0_seekCheapest_82 0 rfl ?_
    refine z_iload_n C dX0_seekCheapest_83 1 rfl ?_
    refine z_iconst C dX0_seekCheapest_84 ?_
    refine y_iadd C dX0_seekCheapest_85 ?_
    refine z_iload_n C dX0_seekCheapest_86 2 rfl ?_
    refine z_iload_n C dX0_seekCheapest_87 3 rfl ?_
    refine z_iload C dX0_seekCheapest_88 4 rfl ?_
    obtain ⟨k7, h⟩ := gK_inv h
    obtain ⟨M8, hM8, h⟩ := bnd h
    refine y_cVv (st := []) C dX0_seekCheapest_90 mX0_71 k7 (hrc o0 (w32 (v1 + 1)) v2 v3 v4 (w32_rng _) gv2 gv3 gv4 hM8) rfl rfl (Nat.le_of_ble_eq_true rfl) (by omega) ?_
    exact y_retV C dX0_seekCheapest_93 h
  unfold uX0_seekCheapest_o at h
  refine z_iload C dX0_seekCheapest_0 4 rfl ?_
  refine z_if_gt 12 C dX0_seekCheapest_2 (by decide) gv4 (fun e9 => ?_) (fun e9 => ?_)
  ·
    have h := (if_pos e9).symm.trans h
    refine z_iload_n C dX0_seekCheapest_12 1 rfl ?_
    refine z_aload_n C dX0_seekCheapest_13 0 rfl ?_
    obtain ⟨x10, hx10, h⟩ := bnd h
    refine y_getI C dX0_seekCheapest_14 fX0_37 rfl hx10 (fun gx10 => ?_)
    refine z_icmp_ge 37 C dX0_seekCheapest_17 (by decide) gv1 gx10 (fun e11 => ?_) (fun e11 => ?_)
    ·
      have h := (if_pos e11).symm.trans h
      exact y_retV C dX0_seekCheapest_37 h
    ·
      have h := (if_neg e11).symm.trans h
      refine z_iload_n C dX0_seekCheapest_20 1 rfl ?_
      refine z_bipush C dX0_seekCheapest_21 (by decide) ?_
      refine z_icmp_ge 37 C dX0_seekCheapest_23 (by decide) gv1 (by decide) (fun e12 => ?_) (fun e12 => ?_)
      ·
        have h := (if_pos e12).symm.trans h
        exact y_retV C dX0_seekCheapest_37 h
      ·
        have h := (if_neg e12).symm.trans h
        refine z_aload_n C dX0_seekCheapest_26 0 rfl ?_
        obtain ⟨on13, hon13, h⟩ := bnd h
        refine y_getR C dX0_seekCheapest_27 fX0_30 rfl hon13 ?_
        refine z_iload_n C dX0_seekCheapest_30 1 rfl ?_
        obtain ⟨x14, hx14, h⟩ := bnd h
        refine y_iald C dX0_seekCheapest_31 hx14 (fun gx14 => ?_)
        refine z_iload C dX0_seekCheapest_32 4 rfl ?_
        refine z_icmp_ge 38 C dX0_seekCheapest_34 (by decide) gx14 gv4 (fun e15 => ?_) (fun e15 => ?_)
        ·
          have h := (if_pos e15).symm.trans h
          refine z_aload_n C dX0_seekCheapest_38 0 rfl ?_
          obtain ⟨x16, hx16, h⟩ := bnd h
          refine y_getI C dX0_seekCheapest_39 fX0_68 rfl hx16 (fun gx16 => ?_)
          refine z_iconst C dX0_seekCheapest_42 ?_
          refine z_icmp_eq 55 C dX0_seekCheapest_43 (by decide) gx16 (by decide) (fun e17 => ?_) (fun e17 => ?_)
          ·
            have h := (if_pos e17).symm.trans h
            exact hb55 o0 v1 v2 v3 v4 M0 gv1 gv2 gv3 gv4 h
          ·
            have h := (if_neg e17).symm.trans h
            refine z_iload_n C dX0_seekCheapest_46 2 rfl ?_
            refine z_aload_n C dX0_seekCheapest_47 0 rfl ?_
            obtain ⟨x18, hx18, h⟩ := bnd h
            refine y_getI C dX0_seekCheapest_48 fX0_68 rfl hx18 (fun gx18 => ?_)
            refine z_icmp_lt 55 C dX0_seekCheapest_51 (by decide) gv2 gx18 (fun e19 => ?_) (fun e19 => ?_)
            ·
              have h := (if_pos e19).symm.trans h
              exact hb55 o0 v1 v2 v3 v4 M0 gv1 gv2 gv3 gv4 h
            ·
              have h := (if_neg e19).symm.trans h
              exact y_retV C dX0_seekCheapest_54 h
        ·
          have h := (if_neg e15).symm.trans h
          exact y_retV C dX0_seekCheapest_37 h
  ·
    have h := (if_neg e9).symm.trans h
    refine z_aload_n C dX0_seekCheapest_5 0 rfl ?_
    refine z_iload_n C dX0_seekCheapest_6 2 rfl ?_
    refine z_iload_n C dX0_seekCheapest_7 3 rfl ?_
    obtain ⟨k20, h⟩ := gK_inv h
    obtain ⟨M21, hM21, h⟩ := bnd h
    refine y_cVv (st := []) C dX0_seekCheapest_8 mX0_122 k20 (tX0_noteCheapest hC o0 v2 v3 gv2 gv3 hM21) rfl rfl (Nat.le_of_ble_eq_true rfl) (by omega) ?_
    exact y_retV C dX0_seekCheapest_11 h

theorem tX0_seekCheapest {G : Gx} {σ : State} (hC : Cy G σ) (n : Nat) : ∀ (o0 : Nat) (v1 : Int) (v2 : Int) (v3 : Int) (v4 : Int) {M : Mm}, rg v1 → rg v2 → rg v3 → rg v4 → ∀ {R : Mm}, uX0_seekCheapest n o0 v1 v2 v3 v4 M = some R → Ct G σ (13 * n) yX0_seekCheapest cX0_seekCheapest 5 none [.ref (G.2.2 + o0), .int (iv v1), .int (iv v2), .int (iv v3), .int (iv v4)] M 0 0 (Qv R) := by
  induction n with
  | zero => intro o0 v1 v2 v3 v4 M gv1 gv2 gv3 gv4 R h; cases h
  | succ n ih =>
    intro o0 v1 v2 v3 v4 M gv1 gv2 gv3 gv4 R h
    have := tX0_seekCheapest_o hC (13 * n) (uX0_seekCheapest n) ih o0 v1 v2 v3 v4 gv1 gv2 gv3 gv4 h
    rw [show 13 * (n + 1) = 13 * n + 13 from by omega]; exact this
