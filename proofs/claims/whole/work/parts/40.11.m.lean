set_option maxHeartbeats 4000000 in
set_option maxRecDepth 100000 in
theorem tX10_layPayment {G : Gx} {σ : State} (hC : Cy G σ) (o0 : Nat) (v1 : Int) (v2 : Int) (v3 : Int) (v4 : Int) {M0 : Mm} (gv1 : rg v1) (gv2 : rg v2) (gv3 : rg v3) (gv4 : rg v4) {R : Int × Mm} (h : uX10_layPayment o0 v1 v2 v3 v4 M0 = some R) : Ct G σ (4) yX10_layPayment cX10_layPayment 10 (some .int) [.ref (G.2.2 + o0), .int (iv v1), .int (iv v2), .int (iv v3), .int (iv v4)] M0 0 0 (Qi R.1 R.2) := by
  refine Ct.of hC.1 (by decide +kernel) (Nat.le_of_ble_eq_true rfl) ?_
  intro p l e R0 s m args below meth c C
  show Jz G σ p l e R0 s m args below meth c 10 0 0 (Qi R.1 R.2) M0 0 0 0 [(0, .ref (G.2.2 + o0)), (1, .int (iv v1)), (2, .int (iv v2)), (3, .int (iv v3)), (4, .int (iv v4))] []
  have hb399 : ∀ (o0 : Nat) (v4 : Int) (M : Mm), (rg v4) → uX10_layPayment_b399 o0 v4 M = some R → Jz G σ p l e R0 s m args below meth c 10 0 0 (Qi R.1 R.2) M 0 0 399 [(0, .ref (G.2.2 + o0)), (4, .int (iv v4))] [] := by
    intro o0 v4 M gv4 h
    unfold uX10_layPayment_b399 at h
    refine z_aload_n C dX10_layPayment_399 0 rfl ?_
    obtain ⟨on1, hon1, h⟩ := bnd h
    refine y_getR C dX10_layPayment_400 fX10_49 rfl hon1 ?_
    refine z_iload C dX10_layPayment_403 1 rfl ?_
    obtain ⟨x2, hx2, h⟩ := bnd h
    refine y_iald C dX10_layPayment_405 hx2 (fun gx2 => ?_)
    refine z_bipush C dX10_layPayment_406 (by decide) ?_
    obtain ⟨x3, hx3, h⟩ := bnd h
    refine y_idiv C dX10_layPayment_408 hx3 (fun gx3 => ?_)
    exact y_iretB C dX10_layPayment_409 h gx3
  have hb295 : ∀ (o0 : Nat) (v4 : Int) (v6 : Int) (v7 : Int) (v8 : Int) (M : Mm), (rg v4) → (rg v6) → (rg v7) → (rg v8) → uX10_layPayment_b295 o0 v4 v6 v7 v8 M = some R → Jz G σ p l e R0 s m args below meth c 10 0 0 (Qi R.1 R.2) M 0 0 295 [(0, .ref (G.2.2 + o0)), (4, .int (iv v4)), (6, .int (iv v6)), (7, .int (iv v7)), (8, .int (iv v8))] [] := by
    intro o0 v4 v6 v7 v8 M gv4 gv6 gv7 gv8 h
    unfold uX10_layPayment_b295 at h
    obtain ⟨b295, hb295_, hc295⟩ := bnd h
    have hL295 : ∀ (n : Nat) (v7 : Int) (v8 : Int) (M : Mm), (rg v7) → (rg v8) → lp (uX10_layPayment_f295 o0 v4 v6) n (v7, v8, M) = some b295 → Jz G σ p l e R0 s m args below meth c 10 0 0 (Qi R.1 R.2) M 0 0 295 [(0, .ref (G.2.2 + o0)), (4, .int (iv v4)), (6, .int (iv v6)), (7, .int (iv v7)), (8, .int (iv v8))] [] := by
      intro n; induction n with
      | zero => intro v7 v8 M gv7 gv8 hq; exact (lp_0 hq).elim
      | succ n295 ih295 =>
        intro v7 v8 M gv7 gv8 hq
        obtain ⟨z295, h, hZ295⟩ := lp_s hq
        have h : uX10_layPayment_s295 o0 v4 v6 v7 v8 M = some z295 := h
        have hb391 : ∀ (v8 : Int) (vs0 : Int) (M : Mm), (rg v8) → (rg vs0) → ∀ z295, uX10_layPayment_b391 o0 v4 v6 v8 vs0 M = some z295 → lpc (uX10_layPayment_f295 o0 v4 v6) n295 z295 b295 → Jz G σ p l e R0 s m args below meth c 10 0 0 (Qi R.1 R.2) M 0 0 391 [(0, .ref (G.2.2 + o0)), (4, .int (iv v4)), (6, .int (iv v6)), (8, .int (iv v8))] [.int (iv vs0)] := by
          intro v8 vs0 M gv8 gvs0 z295 h hZ295
          unfold uX10_layPayment_b391 at h
          refine z_istore (lv' := [(0, .ref (G.2.2 + o0)), (4, .int (iv v4)), (6, .int (iv v6)), (7, .int (iv vs0)), (8, .int (iv v8))]) C dX10_layPayment_391 (by decide) [1, 2, 3, 0, 4] rfl ?_
          refine y_iinc (lv' := [(0, .ref (G.2.2 + o0)), (4, .int (iv v4)), (6, .int (iv v6)), (7, .int (iv vs0)), (8, .int (iv (w32 (v8 + 1))))]) C dX10_layPayment_393 4 rfl (by decide) [1, 2, 3, 4, 0] rfl ?_
          refine z_goto 295 C dX10_layPayment_396 (by decide) ?_
          exact ih295 vs0 (w32 (v8 + 1)) M gvs0 (w32_rng _) (lp_back h hZ295)
        have hb339 : ∀ (v7 : Int) (v8 : Int) (v9 : Int) (M : Mm), (rg v7) → (rg v8) → (rg v9) → ∀ z295, uX10_layPayment_b339 o0 v4 v6 v7 v8 v9 M = some z295 → lpc (uX10_layPayment_f295 o0 v4 v6) n295 z295 b295 → Jz G σ p l e R0 s m args below meth c 10 0 0 (Qi R.1 R.2) M 0 0 339 [(0, .ref (G.2.2 + o0)), (4, .int (iv v4)), (6, .int (iv v6)), (7, .int (iv v7)), (8, .int (iv v8)), (9, .int (iv v9))] [] := by
          intro v7 v8 v9 M gv7 gv8 gv9 z295 h hZ295
          unfold uX10_layPayment_b339 at h
          refine z_aload_n C dX10_layPayment_339 0 rfl ?_
          obtain ⟨on4, hon4, h⟩ := bnd h
          refine y_getR C dX10_layPayment_340 fX10_55 rfl hon4 ?_
          refine z_iload C dX10_layPayment_343 4 rfl ?_
          refine z_iload C dX10_layPayment_345 5 rfl ?_
          obtain ⟨M5, hM5, h⟩ := bnd h
          refine y_iast C dX10_layPayment_347 hM5 ?_
          refine z_iload C dX10_layPayment_348 5 rfl ?_
          refine z_if_le 393 C dX10_layPayment_350 (by decide) gv9 (fun e6 => ?_) (fun e6 => ?_)
          ·
            have h := (if_pos e6).symm.trans h
            refine y_iinc (lv' := [(0, .ref (G.2.2 + o0)), (4, .int (iv v4)), (6, .int (iv v6)), (7, .int (iv v7)), (8, .int (iv (w32 (v8 + 1)))), (9, .int (iv v9))]) C dX10_layPayment_393 4 rfl (by decide) [1, 2, 3, 4, 0, 5] rfl ?_
            refine z_goto 295 C dX10_layPayment_396 (by decide) ?_
            refine z_drop (lv' := [(0, .ref (G.2.2 + o0)), (4, .int (iv v4)), (6, .int (iv v6)), (7, .int (iv v7)), (8, .int (iv (w32 (v8 + 1))))]) [0, 1, 2, 3, 4] rfl ?_
            exact ih295 v7 (w32 (v8 + 1)) M5 gv7 (w32_rng _) (lp_back h hZ295)
          ·
            have h := (if_neg e6).symm.trans h
            refine z_iload C dX10_layPayment_353 3 rfl ?_
            refine z_aload_n C dX10_layPayment_355 0 rfl ?_
            obtain ⟨on7, hon7, h⟩ := bnd h
            refine y_getR C dX10_layPayment_356 fX10_46 rfl hon7 ?_
            refine z_bipush C dX10_layPayment_359 (by decide) ?_
            refine z_iload C dX10_layPayment_361 4 rfl ?_
            refine y_imul C dX10_layPayment_363 ?_
            refine z_iload C dX10_layPayment_364 5 rfl ?_
            refine y_iadd C dX10_layPayment_366 ?_
            obtain ⟨x8, hx8, h⟩ := bnd h
            refine y_iald C dX10_layPayment_367 hx8 (fun gx8 => ?_)
            refine z_icmp_le 390 C dX10_layPayment_368 (by decide) gv7 gx8 (fun e9 => ?_) (fun e9 => ?_)
            ·
              have h := (if_pos e9).symm.trans h
              refine z_iconst C dX10_layPayment_390 ?_
              refine z_drop (lv' := [(0, .ref (G.2.2 + o0)), (4, .int (iv v4)), (6, .int (iv v6)), (8, .int (iv v8))]) [0, 1, 2, 4] rfl ?_
              exact hb391 v8 0 M5 gv8 (by decide) _ h hZ295
            ·
              have h := (if_neg e9).symm.trans h
              refine z_iload C dX10_layPayment_371 3 rfl ?_
              refine z_aload_n C dX10_layPayment_373 0 rfl ?_
              obtain ⟨on10, hon10, h⟩ := bnd h
              refine y_getR C dX10_layPayment_374 fX10_46 rfl hon10 ?_
              refine z_bipush C dX10_layPayment_377 (by decide) ?_
              refine z_iload C dX10_layPayment_379 4 rfl ?_
              refine y_imul C dX10_layPayment_381 ?_
              refine z_iload C dX10_layPayment_382 5 rfl ?_
              refine y_iadd C dX10_layPayment_384 ?_
              obtain ⟨x11, hx11, h⟩ := bnd h
              refine y_iald C dX10_layPayment_385 hx11 (fun gx11 => ?_)
              refine y_isub C dX10_layPayment_386 ?_
              refine z_goto 391 C dX10_layPayment_387 (by decide) ?_
              refine z_drop (lv' := [(0, .ref (G.2.2 + o0)), (4, .int (iv v4)), (6, .int (iv v6)), (8, .int (iv v8))]) [0, 1, 2, 4] rfl ?_
              exact hb391 v8 (w32 (v7 - x11)) M5 gv8 (w32_rng _) _ h hZ295
        have hb307 : ∀ (v7 : Int) (v8 : Int) (v9 : Int) (M : Mm), (rg v7) → (rg v8) → (rg v9) → ∀ z295, uX10_layPayment_b307 o0 v4 v6 v7 v8 v9 M = some z295 → lpc (uX10_layPayment_f295 o0 v4 v6) n295 z295 b295 → Jz G σ p l e R0 s m args below meth c 10 0 0 (Qi R.1 R.2) M 0 0 307 [(0, .ref (G.2.2 + o0)), (4, .int (iv v4)), (6, .int (iv v6)), (7, .int (iv v7)), (8, .int (iv v8)), (9, .int (iv v9))] [] := by
          intro v7 v8 v9 M gv7 gv8 gv9 z295 h hZ295
          unfold uX10_layPayment_b307 at h
          obtain ⟨b307, hb307_, hc307⟩ := bnd h
          have hL307 : ∀ (n : Nat) (v9 : Int), (rg v9) → lp (uX10_layPayment_f307 o0 v4 v6 v7 v8 M) n v9 = some b307 → Jz G σ p l e R0 s m args below meth c 10 0 0 (Qi R.1 R.2) M 0 0 307 [(0, .ref (G.2.2 + o0)), (4, .int (iv v4)), (6, .int (iv v6)), (7, .int (iv v7)), (8, .int (iv v8)), (9, .int (iv v9))] [] := by
            intro n; induction n with
            | zero => intro v9 gv9 hq; exact (lp_0 hq).elim
            | succ n307 ih307 =>
              intro v9 gv9 hq
              obtain ⟨z307, h, hZ307⟩ := lp_s hq
              have h : uX10_layPayment_s307 o0 v4 v6 v7 v8 M v9 = some z307 := h
              unfold uX10_layPayment_s307 at h
              refine z_aload_n C dX10_layPayment_307 0 rfl ?_
              refine z_iload C dX10_layPayment_308 4 rfl ?_
              refine z_iload C dX10_layPayment_310 3 rfl ?_
              refine z_iload C dX10_layPayment_312 5 rfl ?_
              obtain ⟨k12, h⟩ := gK_inv h
              obtain ⟨r13, hr13, h⟩ := bnd h
              refine y_cVi (st := []) C dX10_layPayment_314 mX10_318 k12 (tX10_costOf hC o0 v8 v7 v9 gv8 gv7 gv9 hr13) rfl rfl (Nat.le_of_ble_eq_true rfl) (by decide) (fun gr13 => ?_)
              refine z_aload_n C dX10_layPayment_317 0 rfl ?_
              obtain ⟨on14, hon14, h⟩ := bnd h
              refine y_getR C dX10_layPayment_318 fX10_49 rfl hon14 ?_
              refine z_iload C dX10_layPayment_321 2 rfl ?_
              refine z_iload C dX10_layPayment_323 4 rfl ?_
              refine y_imul C dX10_layPayment_325 ?_
              refine z_iload C dX10_layPayment_326 3 rfl ?_
              refine y_iadd C dX10_layPayment_328 ?_
              obtain ⟨x15, hx15, h⟩ := bnd h
              refine y_iald C dX10_layPayment_329 hx15 (fun gx15 => ?_)
              refine z_icmp_eq 339 C dX10_layPayment_330 (by decide) gr13 gx15 (fun e16 => ?_) (fun e16 => ?_)
              ·
                have h := (if_pos e16).symm.trans h
                have h : uX10_layPayment_b339 o0 v4 v6 v7 v8 v9 M = some z295 := lp_ex (K := (uX10_layPayment_c307 o0 v4 v6 v7 v8 M)) h hZ307 hc307
                exact hb339 v7 v8 v9 M gv7 gv8 gv9 _ h hZ295
              ·
                have h := (if_neg e16).symm.trans h
                refine y_iinc (lv' := [(0, .ref (G.2.2 + o0)), (4, .int (iv v4)), (6, .int (iv v6)), (7, .int (iv v7)), (8, .int (iv v8)), (9, .int (iv (w32 (v9 + 1))))]) C dX10_layPayment_333 5 rfl (by decide) [1, 2, 3, 4, 5, 0] rfl ?_
                refine z_goto 307 C dX10_layPayment_336 (by decide) ?_
                exact ih307 (w32 (v9 + 1)) (w32_rng _) (lp_back h hZ307)
          exact hL307 _ v9 gv9 hb307_
        unfold uX10_layPayment_s295 at h
        refine z_iload C dX10_layPayment_295 4 rfl ?_
        refine z_aload_n C dX10_layPayment_297 0 rfl ?_
        obtain ⟨x17, hx17, h⟩ := bnd h
        refine y_getI C dX10_layPayment_298 fX10_307 rfl hx17 (fun gx17 => ?_)
        refine z_icmp_ge 399 C dX10_layPayment_301 (by decide) gv8 gx17 (fun e18 => ?_) (fun e18 => ?_)
        ·
          have h := (if_pos e18).symm.trans h
          have h : uX10_layPayment_b399 o0 v4 M = some R := lp_ex (K := (uX10_layPayment_c295 o0 v4 v6)) h hZ295 hc295
          refine z_drop (lv' := [(0, .ref (G.2.2 + o0)), (4, .int (iv v4))]) [0, 1] rfl ?_
          exact hb399 o0 v4 M gv4 h
        ·
          have h := (if_neg e18).symm.trans h
          refine z_iconst C dX10_layPayment_304 ?_
          refine z_istore (lv' := [(0, .ref (G.2.2 + o0)), (4, .int (iv v4)), (6, .int (iv v6)), (7, .int (iv v7)), (8, .int (iv v8)), (9, .int (iv 0))]) C dX10_layPayment_305 (by decide) [1, 2, 3, 4, 5, 0] rfl ?_
          exact hb307 v7 v8 0 M gv7 gv8 (by decide) _ h hZ295
    exact hL295 _ v7 v8 M gv7 gv8 hb295_
  have hb273 : ∀ (o0 : Nat) (v4 : Int) (v6 : Int) (M : Mm), (rg v4) → (rg v6) → uX10_layPayment_b273 o0 v4 v6 M = some R → Jz G σ p l e R0 s m args below meth c 10 0 0 (Qi R.1 R.2) M 0 0 273 [(0, .ref (G.2.2 + o0)), (4, .int (iv v4)), (6, .int (iv v6))] [] := by
    intro o0 v4 v6 M gv4 gv6 h
    unfold uX10_layPayment_b273 at h
    refine z_aload_n C dX10_layPayment_273 0 rfl ?_
    obtain ⟨on19, hon19, h⟩ := bnd h
    refine y_getR C dX10_layPayment_274 fX10_49 rfl hon19 ?_
    refine z_iload C dX10_layPayment_277 1 rfl ?_
    obtain ⟨x20, hx20, h⟩ := bnd h
    refine y_iald C dX10_layPayment_279 hx20 (fun gx20 => ?_)
    refine z_ldcw C dX10_layPayment_280 kX10_314 ?_
    refine z_icmp_lt 288 C dX10_layPayment_283 (by decide) gx20 (by decide) (fun e21 => ?_) (fun e21 => ?_)
    ·
      have h := (if_pos e21).symm.trans h
      refine z_iload C dX10_layPayment_288 1 rfl ?_
      refine z_istore (lv' := [(0, .ref (G.2.2 + o0)), (4, .int (iv v4)), (6, .int (iv v6)), (7, .int (iv v4))]) C dX10_layPayment_290 (by decide) [1, 2, 3, 0] rfl ?_
      refine z_iconst C dX10_layPayment_292 ?_
      refine z_istore (lv' := [(0, .ref (G.2.2 + o0)), (4, .int (iv v4)), (6, .int (iv v6)), (7, .int (iv v4)), (8, .int (iv 0))]) C dX10_layPayment_293 (by decide) [1, 2, 3, 4, 0] rfl ?_
      exact hb295 o0 v4 v6 v4 0 M gv4 gv6 gv4 (by decide) h
    ·
      have h := (if_neg e21).symm.trans h
      refine z_iconst C dX10_layPayment_286 ?_
      exact y_iretB C dX10_layPayment_287 h (by decide)
  have hb225 : ∀ (o0 : Nat) (v4 : Int) (v6 : Int) (v7 : Int) (M : Mm), (rg v4) → (rg v6) → (rg v7) → uX10_layPayment_b225 o0 v4 v6 v7 M = some R → Jz G σ p l e R0 s m args below meth c 10 0 0 (Qi R.1 R.2) M 0 0 225 [(0, .ref (G.2.2 + o0)), (4, .int (iv v4)), (6, .int (iv v6)), (7, .int (iv v7))] [] := by
    intro o0 v4 v6 v7 M gv4 gv6 gv7 h
    unfold uX10_layPayment_b225 at h
    obtain ⟨b225, hb225_, hc225⟩ := bnd h
    have hL225 : ∀ (n : Nat) (v7 : Int) (M : Mm), (rg v7) → lp (uX10_layPayment_f225 o0 v4 v6) n (v7, M) = some b225 → Jz G σ p l e R0 s m args below meth c 10 0 0 (Qi R.1 R.2) M 0 0 225 [(0, .ref (G.2.2 + o0)), (4, .int (iv v4)), (6, .int (iv v6)), (7, .int (iv v7))] [] := by
      intro n; induction n with
      | zero => intro v7 M gv7 hq; exact (lp_0 hq).elim
      | succ n225 ih225 =>
        intro v7 M gv7 hq
        obtain ⟨z225, h, hZ225⟩ := lp_s hq
        have h : uX10_layPayment_s225 o0 v4 v6 v7 M = some z225 := h
        have hb267 : ∀ (v7 : Int) (M : Mm), (rg v7) → ∀ z225, uX10_layPayment_b267 o0 v4 v6 v7 M = some z225 → lpc (uX10_layPayment_f225 o0 v4 v6) n225 z225 b225 → Jz G σ p l e R0 s m args below meth c 10 0 0 (Qi R.1 R.2) M 0 0 267 [(0, .ref (G.2.2 + o0)), (4, .int (iv v4)), (6, .int (iv v6)), (7, .int (iv v7))] [] := by
          intro v7 M gv7 z225 h hZ225
          unfold uX10_layPayment_b267 at h
          refine y_iinc (lv' := [(0, .ref (G.2.2 + o0)), (4, .int (iv v4)), (6, .int (iv v6)), (7, .int (iv (w32 (v7 + (-1)))))]) C dX10_layPayment_267 3 rfl (by decide) [1, 2, 3, 0] rfl ?_
          refine z_goto 225 C dX10_layPayment_270 (by decide) ?_
          exact ih225 (w32 (v7 + (-1))) M (w32_rng _) (lp_back h hZ225)
        have hb233 : ∀ (v7 : Int) (v8 : Int) (M : Mm), (rg v7) → (rg v8) → ∀ z225, uX10_layPayment_b233 o0 v4 v6 v7 v8 M = some z225 → lpc (uX10_layPayment_f225 o0 v4 v6) n225 z225 b225 → Jz G σ p l e R0 s m args below meth c 10 0 0 (Qi R.1 R.2) M 0 0 233 [(0, .ref (G.2.2 + o0)), (4, .int (iv v4)), (6, .int (iv v6)), (7, .int (iv v7)), (8, .int (iv v8))] [] := by
          intro v7 v8 M gv7 gv8 z225 h hZ225
          unfold uX10_layPayment_b233 at h
          obtain ⟨b233, hb233_, hc233⟩ := bnd h
          have hL233 : ∀ (n : Nat) (v8 : Int) (M : Mm), (rg v8) → lp (uX10_layPayment_f233 o0 v4 v6 v7) n (v8, M) = some b233 → Jz G σ p l e R0 s m args below meth c 10 0 0 (Qi R.1 R.2) M 0 0 233 [(0, .ref (G.2.2 + o0)), (4, .int (iv v4)), (6, .int (iv v6)), (7, .int (iv v7)), (8, .int (iv v8))] [] := by
            intro n; induction n with
            | zero => intro v8 M gv8 hq; exact (lp_0 hq).elim
            | succ n233 ih233 =>
              intro v8 M gv8 hq
              obtain ⟨z233, h, hZ233⟩ := lp_s hq
              have h : uX10_layPayment_s233 o0 v4 v6 v7 v8 M = some z233 := h
              unfold uX10_layPayment_s233 at h
              refine z_iload C dX10_layPayment_233 4 rfl ?_
              refine z_iload C dX10_layPayment_235 1 rfl ?_
              refine z_icmp_gt 267 C dX10_layPayment_237 (by decide) gv8 gv4 (fun e22 => ?_) (fun e22 => ?_)
              ·
                have h := (if_pos e22).symm.trans h
                have h : uX10_layPayment_b267 o0 v4 v6 v7 M = some z225 := lp_ex (K := (uX10_layPayment_c233 o0 v4 v6 v7)) h hZ233 hc233
                refine z_drop (lv' := [(0, .ref (G.2.2 + o0)), (4, .int (iv v4)), (6, .int (iv v6)), (7, .int (iv v7))]) [0, 1, 2, 3] rfl ?_
                exact hb267 v7 M gv7 _ h hZ225
              ·
                have h := (if_neg e22).symm.trans h
                refine z_aload_n C dX10_layPayment_240 0 rfl ?_
                obtain ⟨on23, hon23, h⟩ := bnd h
                refine y_getR C dX10_layPayment_241 fX10_49 rfl hon23 ?_
                refine z_iload C dX10_layPayment_244 2 rfl ?_
                refine z_iload C dX10_layPayment_246 3 rfl ?_
                refine y_imul C dX10_layPayment_248 ?_
                refine z_iload C dX10_layPayment_249 4 rfl ?_
                refine y_iadd C dX10_layPayment_251 ?_
                refine z_aload_n C dX10_layPayment_252 0 rfl ?_
                refine z_iload C dX10_layPayment_253 3 rfl ?_
                refine z_iload C dX10_layPayment_255 4 rfl ?_
                obtain ⟨k24, h⟩ := gK_inv h
                obtain ⟨r25, hr25, h⟩ := bnd h
                refine y_cVi (st := [.int (iv (w32 ((w32 (v6 * v7)) + v8))), .ref (G.2.2 + on23)]) C dX10_layPayment_257 mX10_315 k24 (tX10_bestOf hC o0 v7 v8 gv7 gv8 hr25) rfl rfl (Nat.le_of_ble_eq_true rfl) (by decide) (fun gr25 => ?_)
                obtain ⟨M26, hM26, h⟩ := bnd h
                refine y_iast C dX10_layPayment_260 hM26 ?_
                refine y_iinc (lv' := [(0, .ref (G.2.2 + o0)), (4, .int (iv v4)), (6, .int (iv v6)), (7, .int (iv v7)), (8, .int (iv (w32 (v8 + 1))))]) C dX10_layPayment_261 4 rfl (by decide) [1, 2, 3, 4, 0] rfl ?_
                refine z_goto 233 C dX10_layPayment_264 (by decide) ?_
                exact ih233 (w32 (v8 + 1)) M26 (w32_rng _) (lp_back h hZ233)
          exact hL233 _ v8 M gv8 hb233_
        unfold uX10_layPayment_s225 at h
        refine z_iload C dX10_layPayment_225 3 rfl ?_
        refine z_if_lt 273 C dX10_layPayment_227 (by decide) gv7 (fun e27 => ?_) (fun e27 => ?_)
        ·
          have h := (if_pos e27).symm.trans h
          have h : uX10_layPayment_b273 o0 v4 v6 M = some R := lp_ex (K := (uX10_layPayment_c225 o0 v4 v6)) h hZ225 hc225
          refine z_drop (lv' := [(0, .ref (G.2.2 + o0)), (4, .int (iv v4)), (6, .int (iv v6))]) [0, 1, 2] rfl ?_
          exact hb273 o0 v4 v6 M gv4 gv6 h
        ·
          have h := (if_neg e27).symm.trans h
          refine z_iconst C dX10_layPayment_230 ?_
          refine z_istore (lv' := [(0, .ref (G.2.2 + o0)), (4, .int (iv v4)), (6, .int (iv v6)), (7, .int (iv v7)), (8, .int (iv 0))]) C dX10_layPayment_231 (by decide) [1, 2, 3, 4, 0] rfl ?_
          exact hb233 v7 0 M gv7 (by decide) _ h hZ225
    exact hL225 _ v7 M gv7 hb225_
  have hb217 : ∀ (o0 : Nat) (v4 : Int) (v6 : Int) (M : Mm), (rg v4) → (rg v6) → uX10_layPayment_b217 o0 v4 v6 M = some R → Jz G σ p l e R0 s m args below meth c 10 0 0 (Qi R.1 R.2) M 0 0 217 [(0, .ref (G.2.2 + o0)), (4, .int (iv v4)), (6, .int (iv v6))] [] := by
    intro o0 v4 v6 M gv4 gv6 h
    unfold uX10_layPayment_b217 at h
    refine z_aload_n C dX10_layPayment_217 0 rfl ?_
    obtain ⟨x28, hx28, h⟩ := bnd h
    refine y_getI C dX10_layPayment_218 fX10_307 rfl hx28 (fun gx28 => ?_)
    refine z_iconst C dX10_layPayment_221 ?_
    refine y_isub C dX10_layPayment_222 ?_
    refine z_istore (lv' := [(0, .ref (G.2.2 + o0)), (4, .int (iv v4)), (6, .int (iv v6)), (7, .int (iv (w32 (x28 - 1))))]) C dX10_layPayment_223 (by decide) [1, 2, 3, 0] rfl ?_
    exact hb225 o0 v4 v6 (w32 (x28 - 1)) M gv4 gv6 (w32_rng _) h
  have hb177 : ∀ (o0 : Nat) (v4 : Int) (v6 : Int) (v7 : Int) (M : Mm), (rg v4) → (rg v6) → (rg v7) → uX10_layPayment_b177 o0 v4 v6 v7 M = some R → Jz G σ p l e R0 s m args below meth c 10 0 0 (Qi R.1 R.2) M 0 0 177 [(0, .ref (G.2.2 + o0)), (4, .int (iv v4)), (6, .int (iv v6)), (7, .int (iv v7))] [] := by
    intro o0 v4 v6 v7 M gv4 gv6 gv7 h
    unfold uX10_layPayment_b177 at h
    obtain ⟨b177, hb177_, hc177⟩ := bnd h
    have hL177 : ∀ (n : Nat) (v7 : Int) (M : Mm), (rg v7) → lp (uX10_layPayment_f177 o0 v4 v6) n (v7, M) = some b177 → Jz G σ p l e R0 s m args below meth c 10 0 0 (Qi R.1 R.2) M 0 0 177 [(0, .ref (G.2.2 + o0)), (4, .int (iv v4)), (6, .int (iv v6)), (7, .int (iv v7))] [] := by
      intro n; induction n with
      | zero => intro v7 M gv7 hq; exact (lp_0 hq).elim
      | succ n177 ih177 =>
        intro v7 M gv7 hq
        obtain ⟨z177, h, hZ177⟩ := lp_s hq
        have h : uX10_layPayment_s177 o0 v4 v6 v7 M = some z177 := h
        have hb210 : ∀ (v7 : Int) (os0 : Nat) (vs1 : Int) (vs2 : Int) (M : Mm), (rg v7) → (rg vs1) → (rg vs2) → ∀ z177, uX10_layPayment_b210 o0 v4 v6 v7 os0 vs1 vs2 M = some z177 → lpc (uX10_layPayment_f177 o0 v4 v6) n177 z177 b177 → Jz G σ p l e R0 s m args below meth c 10 0 0 (Qi R.1 R.2) M 0 0 210 [(0, .ref (G.2.2 + o0)), (4, .int (iv v4)), (6, .int (iv v6)), (7, .int (iv v7))] [.int (iv vs2), .int (iv vs1), .ref (G.2.2 + os0)] := by
          intro v7 os0 vs1 vs2 M gv7 gvs1 gvs2 z177 h hZ177
          unfold uX10_layPayment_b210 at h
          obtain ⟨M29, hM29, h⟩ := bnd h
          refine y_iast C dX10_layPayment_210 hM29 ?_
          refine y_iinc (lv' := [(0, .ref (G.2.2 + o0)), (4, .int (iv v4)), (6, .int (iv v6)), (7, .int (iv (w32 (v7 + 1))))]) C dX10_layPayment_211 3 rfl (by decide) [1, 2, 3, 0] rfl ?_
          refine z_goto 177 C dX10_layPayment_214 (by decide) ?_
          exact ih177 (w32 (v7 + 1)) M29 (w32_rng _) (lp_back h hZ177)
        unfold uX10_layPayment_s177 at h
        refine z_iload C dX10_layPayment_177 3 rfl ?_
        refine z_iload C dX10_layPayment_179 1 rfl ?_
        refine z_icmp_gt 217 C dX10_layPayment_181 (by decide) gv7 gv4 (fun e30 => ?_) (fun e30 => ?_)
        ·
          have h := (if_pos e30).symm.trans h
          have h : uX10_layPayment_b217 o0 v4 v6 M = some R := lp_ex (K := (uX10_layPayment_c177 o0 v4 v6)) h hZ177 hc177
          refine z_drop (lv' := [(0, .ref (G.2.2 + o0)), (4, .int (iv v4)), (6, .int (iv v6))]) [0, 1, 2] rfl ?_
          exact hb217 o0 v4 v6 M gv4 gv6 h
        ·
          have h := (if_neg e30).symm.trans h
          refine z_aload_n C dX10_layPayment_184 0 rfl ?_
          obtain ⟨on31, hon31, h⟩ := bnd h
          refine y_getR C dX10_layPayment_185 fX10_49 rfl hon31 ?_
          refine z_iload C dX10_layPayment_188 2 rfl ?_
          refine z_aload_n C dX10_layPayment_190 0 rfl ?_
          obtain ⟨x32, hx32, h⟩ := bnd h
          refine y_getI C dX10_layPayment_191 fX10_307 rfl hx32 (fun gx32 => ?_)
          refine y_imul C dX10_layPayment_194 ?_
          refine z_iload C dX10_layPayment_195 3 rfl ?_
          refine y_iadd C dX10_layPayment_197 ?_
          refine z_iload C dX10_layPayment_198 3 rfl ?_
          refine z_if_ne 207 C dX10_layPayment_200 (by decide) gv7 (fun e33 => ?_) (fun e33 => ?_)
          ·
            have h := (if_neg e33).symm.trans h
            refine z_ldcw C dX10_layPayment_207 kX10_314 ?_
            exact hb210 v7 on31 (w32 ((w32 (v6 * x32)) + v7)) 100000000 M gv7 (w32_rng _) (by decide) _ h hZ177
          ·
            have h := (if_pos e33).symm.trans h
            refine z_iconst C dX10_layPayment_203 ?_
            refine z_goto 210 C dX10_layPayment_204 (by decide) ?_
            exact hb210 v7 on31 (w32 ((w32 (v6 * x32)) + v7)) 0 M gv7 (w32_rng _) (by decide) _ h hZ177
    exact hL177 _ v7 M gv7 hb177_
  have hb169 : ∀ (o0 : Nat) (v4 : Int) (M : Mm), (rg v4) → uX10_layPayment_b169 o0 v4 M = some R → Jz G σ p l e R0 s m args below meth c 10 0 0 (Qi R.1 R.2) M 0 0 169 [(0, .ref (G.2.2 + o0)), (4, .int (iv v4))] [] := by
    intro o0 v4 M gv4 h
    unfold uX10_layPayment_b169 at h
    refine z_sipush C dX10_layPayment_169 (by decide) ?_
    refine z_istore (lv' := [(0, .ref (G.2.2 + o0)), (4, .int (iv v4)), (6, .int (iv 2001))]) C dX10_layPayment_172 (by decide) [1, 2, 0] rfl ?_
    refine z_iconst C dX10_layPayment_174 ?_
    refine z_istore (lv' := [(0, .ref (G.2.2 + o0)), (4, .int (iv v4)), (6, .int (iv 2001)), (7, .int (iv 0))]) C dX10_layPayment_175 (by decide) [1, 2, 3, 0] rfl ?_
    exact hb177 o0 v4 2001 0 M gv4 (by decide) (by decide) h
  have hb62 : ∀ (o0 : Nat) (v1 : Int) (v2 : Int) (v3 : Int) (v4 : Int) (v5 : Int) (v6 : Int) (M : Mm), (rg v1) → (rg v2) → (rg v3) → (rg v4) → (rg v5) → (rg v6) → uX10_layPayment_b62 o0 v1 v2 v3 v4 v5 v6 M = some R → Jz G σ p l e R0 s m args below meth c 10 0 0 (Qi R.1 R.2) M 0 0 62 [(0, .ref (G.2.2 + o0)), (1, .int (iv v1)), (2, .int (iv v2)), (3, .int (iv v3)), (4, .int (iv v4)), (5, .int (iv v5)), (6, .int (iv v6))] [] := by
    intro o0 v1 v2 v3 v4 v5 v6 M gv1 gv2 gv3 gv4 gv5 gv6 h
    unfold uX10_layPayment_b62 at h
    obtain ⟨b62, hb62_, hc62⟩ := bnd h
    have hL62 : ∀ (n : Nat) (v6 : Int) (M : Mm), (rg v6) → lp (uX10_layPayment_f62 o0 v1 v2 v3 v4 v5) n (v6, M) = some b62 → Jz G σ p l e R0 s m args below meth c 10 0 0 (Qi R.1 R.2) M 0 0 62 [(0, .ref (G.2.2 + o0)), (1, .int (iv v1)), (2, .int (iv v2)), (3, .int (iv v3)), (4, .int (iv v4)), (5, .int (iv v5)), (6, .int (iv v6))] [] := by
      intro n; induction n with
      | zero => intro v6 M gv6 hq; exact (lp_0 hq).elim
      | succ n62 ih62 =>
        intro v6 M gv6 hq
        obtain ⟨z62, h, hZ62⟩ := lp_s hq
        have h : uX10_layPayment_s62 o0 v1 v2 v3 v4 v5 v6 M = some z62 := h
        have hb153 : ∀ (v6 : Int) (M : Mm), (rg v6) → ∀ z62, uX10_layPayment_b153 o0 v1 v2 v3 v4 v5 v6 M = some z62 → lpc (uX10_layPayment_f62 o0 v1 v2 v3 v4 v5) n62 z62 b62 → Jz G σ p l e R0 s m args below meth c 10 0 0 (Qi R.1 R.2) M 0 0 153 [(0, .ref (G.2.2 + o0)), (1, .int (iv v1)), (2, .int (iv v2)), (3, .int (iv v3)), (4, .int (iv v4)), (5, .int (iv v5)), (6, .int (iv v6))] [] := by
          intro v6 M gv6 z62 h hZ62
          unfold uX10_layPayment_b153 at h
          refine z_aload_n C dX10_layPayment_153 0 rfl ?_
          refine z_dup C dX10_layPayment_154 rfl ?_
          obtain ⟨x34, hx34, h⟩ := bnd h
          refine y_getI C dX10_layPayment_155 fX10_307 rfl hx34 (fun gx34 => ?_)
          refine z_iconst C dX10_layPayment_158 ?_
          refine y_iadd C dX10_layPayment_159 ?_
          obtain ⟨M35, hM35, h⟩ := bnd h
          refine y_putI C dX10_layPayment_160 fX10_307 rfl rfl rfl rfl hM35 ?_
          refine y_iinc (lv' := [(0, .ref (G.2.2 + o0)), (1, .int (iv v1)), (2, .int (iv v2)), (3, .int (iv v3)), (4, .int (iv v4)), (5, .int (iv v5)), (6, .int (iv (w32 (v6 + 1))))]) C dX10_layPayment_163 6 rfl (by decide) [1, 2, 3, 4, 5, 6, 0] rfl ?_
          refine z_goto 62 C dX10_layPayment_166 (by decide) ?_
          exact ih62 (w32 (v6 + 1)) M35 (w32_rng _) (lp_back h hZ62)
        have hb108 : ∀ (v6 : Int) (v7 : Int) (M : Mm), (rg v6) → (rg v7) → ∀ z62, uX10_layPayment_b108 o0 v1 v2 v3 v4 v5 v6 v7 M = some z62 → lpc (uX10_layPayment_f62 o0 v1 v2 v3 v4 v5) n62 z62 b62 → Jz G σ p l e R0 s m args below meth c 10 0 0 (Qi R.1 R.2) M 0 0 108 [(0, .ref (G.2.2 + o0)), (1, .int (iv v1)), (2, .int (iv v2)), (3, .int (iv v3)), (4, .int (iv v4)), (5, .int (iv v5)), (6, .int (iv v6)), (7, .int (iv v7))] [] := by
          intro v6 v7 M gv6 gv7 z62 h hZ62
          unfold uX10_layPayment_b108 at h
          obtain ⟨b108, hb108_, hc108⟩ := bnd h
          have hL108 : ∀ (n : Nat) (v7 : Int) (M : Mm), (rg v7) → lp (uX10_layPayment_f108 o0 v1 v2 v3 v4 v5 v6) n (v7, M) = some b108 → Jz G σ p l e R0 s m args below meth c 10 0 0 (Qi R.1 R.2) M 0 0 108 [(0, .ref (G.2.2 + o0)), (1, .int (iv v1)), (2, .int (iv v2)), (3, .int (iv v3)), (4, .int (iv v4)), (5, .int (iv v5)), (6, .int (iv v6)), (7, .int (iv v7))] [] := by
            intro n; induction n with
            | zero => intro v7 M gv7 hq; exact (lp_0 hq).elim
            | succ n108 ih108 =>
              intro v7 M gv7 hq
              obtain ⟨z108, h, hZ108⟩ := lp_s hq
              have h : uX10_layPayment_s108 o0 v1 v2 v3 v4 v5 v6 v7 M = some z108 := h
              unfold uX10_layPayment_s108 at h
              refine z_iload C dX10_layPayment_108 7 rfl ?_
              refine z_iconst C dX10_layPayment_110 ?_
              refine z_aload_n C dX10_layPayment_111 0 rfl ?_
              obtain ⟨k36, h⟩ := gK_inv h
              obtain ⟨r37, hr37, h⟩ := bnd h
              refine y_cVi (st := [.int (iv 2), .int (iv v7)]) C dX10_layPayment_112 mX10_185 k36 (tX10_mints hC o0  hr37) rfl rfl (Nat.le_of_ble_eq_true rfl) (by decide) (fun gr37 => ?_)
              refine y_iadd C dX10_layPayment_115 ?_
              refine z_icmp_ge 153 C dX10_layPayment_116 (by decide) gv7 (w32_rng _) (fun e38 => ?_) (fun e38 => ?_)
              ·
                have h := (if_pos e38).symm.trans h
                have h : uX10_layPayment_b153 o0 v1 v2 v3 v4 v5 v6 M = some z62 := lp_ex (K := (uX10_layPayment_c108 o0 v1 v2 v3 v4 v5 v6)) h hZ108 hc108
                refine z_drop (lv' := [(0, .ref (G.2.2 + o0)), (1, .int (iv v1)), (2, .int (iv v2)), (3, .int (iv v3)), (4, .int (iv v4)), (5, .int (iv v5)), (6, .int (iv v6))]) [0, 1, 2, 3, 4, 5, 6] rfl ?_
                exact hb153 v6 M gv6 _ h hZ62
              ·
                have h := (if_neg e38).symm.trans h
                refine z_aload_n C dX10_layPayment_119 0 rfl ?_
                obtain ⟨on39, hon39, h⟩ := bnd h
                refine y_getR C dX10_layPayment_120 fX10_46 rfl hon39 ?_
                refine z_bipush C dX10_layPayment_123 (by decide) ?_
                refine z_aload_n C dX10_layPayment_125 0 rfl ?_
                obtain ⟨x40, hx40, h⟩ := bnd h
                refine y_getI C dX10_layPayment_126 fX10_307 rfl hx40 (fun gx40 => ?_)
                refine y_imul C dX10_layPayment_129 ?_
                refine z_iload C dX10_layPayment_130 7 rfl ?_
                refine y_iadd C dX10_layPayment_132 ?_
                refine z_aload_n C dX10_layPayment_133 0 rfl ?_
                refine z_iload C dX10_layPayment_134 6 rfl ?_
                refine z_iload C dX10_layPayment_136 7 rfl ?_
                refine z_iload_n C dX10_layPayment_138 1 rfl ?_
                refine z_iload_n C dX10_layPayment_139 2 rfl ?_
                refine z_iload_n C dX10_layPayment_140 3 rfl ?_
                refine z_iload C dX10_layPayment_141 5 rfl ?_
                obtain ⟨k41, h⟩ := gK_inv h
                obtain ⟨r42, hr42, h⟩ := bnd h
                refine y_cVi (st := [.int (iv (w32 ((w32 (6 * x40)) + v7))), .ref (G.2.2 + on39)]) C dX10_layPayment_143 mX10_310 k41 (tX10_worthOf hC o0 v6 v7 v1 v2 v3 v5 gv6 gv7 gv1 gv2 gv3 gv5 hr42) rfl rfl (Nat.le_of_ble_eq_true rfl) (by decide) (fun gr42 => ?_)
                obtain ⟨M43, hM43, h⟩ := bnd h
                refine y_iast C dX10_layPayment_146 hM43 ?_
                refine y_iinc (lv' := [(0, .ref (G.2.2 + o0)), (1, .int (iv v1)), (2, .int (iv v2)), (3, .int (iv v3)), (4, .int (iv v4)), (5, .int (iv v5)), (6, .int (iv v6)), (7, .int (iv (w32 (v7 + 1))))]) C dX10_layPayment_147 7 rfl (by decide) [1, 2, 3, 4, 5, 6, 7, 0] rfl ?_
                refine z_goto 108 C dX10_layPayment_150 (by decide) ?_
                exact ih108 (w32 (v7 + 1)) M43 (w32_rng _) (lp_back h hZ108)
          exact hL108 _ v7 M gv7 hb108_
        unfold uX10_layPayment_s62 at h
        refine z_iload C dX10_layPayment_62 6 rfl ?_
        refine z_aload_n C dX10_layPayment_64 0 rfl ?_
        obtain ⟨k44, h⟩ := gK_inv h
        obtain ⟨r45, hr45, h⟩ := bnd h
        refine y_cVi (st := [.int (iv v6)]) C dX10_layPayment_65 mX10_188 k44 (tX10_coins hC o0  hr45) rfl rfl (Nat.le_of_ble_eq_true rfl) (by decide) (fun gr45 => ?_)
        refine z_icmp_ge 169 C dX10_layPayment_68 (by decide) gv6 gr45 (fun e46 => ?_) (fun e46 => ?_)
        ·
          have h := (if_pos e46).symm.trans h
          have h : uX10_layPayment_b169 o0 v4 M = some R := lp_ex (K := (uX10_layPayment_c62 o0 v1 v2 v3 v4 v5)) h hZ62 hc62
          refine z_drop (lv' := [(0, .ref (G.2.2 + o0)), (4, .int (iv v4))]) [0, 4] rfl ?_
          exact hb169 o0 v4 M gv4 h
        ·
          have h := (if_neg e46).symm.trans h
          refine z_aload_n C dX10_layPayment_71 0 rfl ?_
          obtain ⟨x47, hx47, h⟩ := bnd h
          refine y_getI C dX10_layPayment_72 fX10_307 rfl hx47 (fun gx47 => ?_)
          refine z_bipush C dX10_layPayment_75 (by decide) ?_
          refine z_icmp_ge 169 C dX10_layPayment_77 (by decide) gx47 (by decide) (fun e48 => ?_) (fun e48 => ?_)
          ·
            have h := (if_pos e48).symm.trans h
            have h : uX10_layPayment_b169 o0 v4 M = some R := lp_ex (K := (uX10_layPayment_c62 o0 v1 v2 v3 v4 v5)) h hZ62 hc62
            refine z_drop (lv' := [(0, .ref (G.2.2 + o0)), (4, .int (iv v4))]) [0, 4] rfl ?_
            exact hb169 o0 v4 M gv4 h
          ·
            have h := (if_neg e48).symm.trans h
            refine z_aload_n C dX10_layPayment_80 0 rfl ?_
            refine z_iload C dX10_layPayment_81 6 rfl ?_
            refine z_iconst C dX10_layPayment_83 ?_
            obtain ⟨k49, h⟩ := gK_inv h
            obtain ⟨r50, hr50, h⟩ := bnd h
            refine y_cVi (st := []) C dX10_layPayment_84 mX10_256 k49 (tX10_ofCoin hC o0 v6 1 gv6 (by decide) hr50) rfl rfl (Nat.le_of_ble_eq_true rfl) (by decide) (fun gr50 => ?_)
            refine z_iload_n C dX10_layPayment_87 1 rfl ?_
            refine z_icmp_eq 94 C dX10_layPayment_88 (by decide) gr50 gv1 (fun e51 => ?_) (fun e51 => ?_)
            ·
              have h := (if_pos e51).symm.trans h
              refine z_aload_n C dX10_layPayment_94 0 rfl ?_
              obtain ⟨on52, hon52, h⟩ := bnd h
              refine y_getR C dX10_layPayment_95 fX10_43 rfl hon52 ?_
              refine z_aload_n C dX10_layPayment_98 0 rfl ?_
              obtain ⟨x53, hx53, h⟩ := bnd h
              refine y_getI C dX10_layPayment_99 fX10_307 rfl hx53 (fun gx53 => ?_)
              refine z_iload C dX10_layPayment_102 6 rfl ?_
              obtain ⟨M54, hM54, h⟩ := bnd h
              refine y_iast C dX10_layPayment_104 hM54 ?_
              refine z_iconst C dX10_layPayment_105 ?_
              refine z_istore (lv' := [(0, .ref (G.2.2 + o0)), (1, .int (iv v1)), (2, .int (iv v2)), (3, .int (iv v3)), (4, .int (iv v4)), (5, .int (iv v5)), (6, .int (iv v6)), (7, .int (iv 1))]) C dX10_layPayment_106 (by decide) [1, 2, 3, 4, 5, 6, 7, 0] rfl ?_
              exact hb108 v6 1 M54 gv6 (by decide) _ h hZ62
            ·
              have h := (if_neg e51).symm.trans h
              refine z_goto 163 C dX10_layPayment_91 (by decide) ?_
              refine y_iinc (lv' := [(0, .ref (G.2.2 + o0)), (1, .int (iv v1)), (2, .int (iv v2)), (3, .int (iv v3)), (4, .int (iv v4)), (5, .int (iv v5)), (6, .int (iv (w32 (v6 + 1))))]) C dX10_layPayment_163 6 rfl (by decide) [1, 2, 3, 4, 5, 6, 0] rfl ?_
              refine z_goto 62 C dX10_layPayment_166 (by decide) ?_
              exact ih62 (w32 (v6 + 1)) M (w32_rng _) (lp_back h hZ62)
    exact hL62 _ v6 M gv6 hb62_
  unfold uX10_layPayment at h
  refine z_aload_n C dX10_layPayment_0 0 rfl ?_
  refine z_iload_n C dX10_layPayment_1 1 rfl ?_
  obtain ⟨k55, h⟩ := gK_inv h
  obtain ⟨r56, hr56, h⟩ := bnd h
  refine y_cVb (st := []) C dX10_layPayment_2 mX10_243 k55 (tX10_isWho hC o0 v1 gv1 hr56) rfl rfl (Nat.le_of_ble_eq_true rfl) (by decide) (fun br56 => ?_)
  refine z_if_eq 45 C dX10_layPayment_5 (by decide) (rg01 br56) (fun e57 => ?_) (fun e57 => ?_)
  ·
    have h := (if_pos e57).symm.trans h
    refine z_bipush C dX10_layPayment_45 (by decide) ?_
    exact y_iretB C dX10_layPayment_47 h (by decide)
  ·
    have h := (if_neg e57).symm.trans h
    refine z_aload_n C dX10_layPayment_8 0 rfl ?_
    refine z_iload_n C dX10_layPayment_9 2 rfl ?_
    obtain ⟨k58, h⟩ := gK_inv h
    obtain ⟨r59, hr59, h⟩ := bnd h
    refine y_cVb (st := []) C dX10_layPayment_10 mX10_243 k58 (tX10_isWho hC o0 v2 gv2 hr59) rfl rfl (Nat.le_of_ble_eq_true rfl) (by decide) (fun br59 => ?_)
    refine z_if_eq 45 C dX10_layPayment_13 (by decide) (rg01 br59) (fun e60 => ?_) (fun e60 => ?_)
    ·
      have h := (if_pos e60).symm.trans h
      refine z_bipush C dX10_layPayment_45 (by decide) ?_
      exact y_iretB C dX10_layPayment_47 h (by decide)
    ·
      have h := (if_neg e60).symm.trans h
      refine z_aload_n C dX10_layPayment_16 0 rfl ?_
      refine z_iload_n C dX10_layPayment_17 3 rfl ?_
      obtain ⟨k61, h⟩ := gK_inv h
      obtain ⟨r62, hr62, h⟩ := bnd h
      refine y_cVb (st := []) C dX10_layPayment_18 mX10_259 k61 (tX10_isMint hC o0 v3 gv3 hr62) rfl rfl (Nat.le_of_ble_eq_true rfl) (by decide) (fun br62 => ?_)
      refine z_if_eq 45 C dX10_layPayment_21 (by decide) (rg01 br62) (fun e63 => ?_) (fun e63 => ?_)
      ·
        have h := (if_pos e63).symm.trans h
        refine z_bipush C dX10_layPayment_45 (by decide) ?_
        exact y_iretB C dX10_layPayment_47 h (by decide)
      ·
        have h := (if_neg e63).symm.trans h
        refine z_iload C dX10_layPayment_24 4 rfl ?_
        refine z_iconst C dX10_layPayment_26 ?_
        refine z_sipush C dX10_layPayment_27 (by decide) ?_
        obtain ⟨r64, hr64, h⟩ := bnd h
        refine y_cSb (st := []) C dX10_layPayment_30 mX10_154 (tX10_isIn hC v4 1 2000 gv4 (by decide) (by decide) hr64) rfl rfl (Nat.le_of_ble_eq_true rfl) (by decide) (fun br64 => ?_)
        refine z_if_eq 45 C dX10_layPayment_33 (by decide) (rg01 br64) (fun e65 => ?_) (fun e65 => ?_)
        ·
          have h := (if_pos e65).symm.trans h
          refine z_bipush C dX10_layPayment_45 (by decide) ?_
          exact y_iretB C dX10_layPayment_47 h (by decide)
        ·
          have h := (if_neg e65).symm.trans h
          refine z_aload_n C dX10_layPayment_36 0 rfl ?_
          refine z_iload_n C dX10_layPayment_37 1 rfl ?_
          refine z_iload_n C dX10_layPayment_38 2 rfl ?_
          obtain ⟨k66, h⟩ := gK_inv h
          obtain ⟨r67, hr67, h⟩ := bnd h
          refine y_cVb (st := []) C dX10_layPayment_39 mX10_297 k66 (tX10_areUnfit hC o0 v1 v2 gv1 gv2 hr67) rfl rfl (Nat.le_of_ble_eq_true rfl) (by decide) (fun br67 => ?_)
          refine z_if_eq 48 C dX10_layPayment_42 (by decide) (rg01 br67) (fun e68 => ?_) (fun e68 => ?_)
          ·
            have h := (if_pos e68).symm.trans h
            refine z_aload_n C dX10_layPayment_48 0 rfl ?_
            obtain ⟨k69, h⟩ := gK_inv h
            obtain ⟨r70, hr70, h⟩ := bnd h
            refine y_cVi (st := []) C dX10_layPayment_49 mX10_288 k69 (tX10_luckOf hC o0  hr70) rfl rfl (Nat.le_of_ble_eq_true rfl) (by decide) (fun gr70 => ?_)
            refine z_istore (lv' := [(0, .ref (G.2.2 + o0)), (1, .int (iv v1)), (2, .int (iv v2)), (3, .int (iv v3)), (4, .int (iv v4)), (5, .int (iv r70))]) C dX10_layPayment_52 (by decide) [1, 2, 3, 4, 5, 0] rfl ?_
            refine z_aload_n C dX10_layPayment_54 0 rfl ?_
            refine z_iconst C dX10_layPayment_55 ?_
            obtain ⟨M71, hM71, h⟩ := bnd h
            refine y_putI C dX10_layPayment_56 fX10_307 rfl rfl rfl rfl hM71 ?_
            refine z_iconst C dX10_layPayment_59 ?_
            refine z_istore (lv' := [(0, .ref (G.2.2 + o0)), (1, .int (iv v1)), (2, .int (iv v2)), (3, .int (iv v3)), (4, .int (iv v4)), (5, .int (iv r70)), (6, .int (iv 0))]) C dX10_layPayment_60 (by decide) [1, 2, 3, 4, 5, 6, 0] rfl ?_
            exact hb62 o0 v1 v2 v3 v4 r70 0 M71 gv1 gv2 gv3 gv4 gr70 (by decide) h
          ·
            have h := (if_neg e68).symm.trans h
            refine z_bipush C dX10_layPayment_45 (by decide) ?_
            exact y_iretB C dX10_layPayment_47 h (by decide)

set_option maxHeartbeats 4000000 in
set_option maxRecDepth 100000 in
theorem tX10_forge {G : Gx} {σ : State} (hC : Cy G σ) (o0 : Nat) (v1 : Int) (v2 : Int) {M0 : Mm} (gv1 : rg v1) (gv2 : rg v2) {R : Int × Mm} (h : uX10_forge o0 v1 v2 M0 = some R) : Ct G σ (4) yX10_forge cX10_forge 4 (some .int) [.ref (G.2.2 + o0), .int (iv v1), .int (iv v2)] M0 0 0 (Qi R.1 R.2) := by
  refine Ct.of hC.1 (by decide +kernel) (Nat.le_of_ble_eq_true rfl) ?_
  intro p l e R0 s m args below meth c C
  show Jz G σ p l e R0 s m args below meth c 4 0 0 (Qi R.1 R.2) M0 0 0 0 [(0, .ref (G.2.2 + o0)), (1, .int (iv v1)), (2, .int (iv v2))] []
  unfold uX10_forge at h
  refine z_aload_n C dX10_forge_0 0 rfl ?_
  refine z_iconst C dX10_forge_1 ?_
  obtain ⟨M1, hM1, h⟩ := bnd h
  refine y_putI C dX10_forge_2 fX10_83 rfl rfl rfl rfl hM1 ?_
  refine z_aload_n C dX10_forge_5 0 rfl ?_
  obtain ⟨k2, h⟩ := gK_inv h
  obtain ⟨M3, hM3, h⟩ := bnd h
  refine y_cVv (st := []) C dX10_forge_6 mX10_167 k2 (tX10_lay hC o0  hM3) rfl rfl (Nat.le_of_ble_eq_true rfl) (by decide) ?_
  refine z_aload_n C dX10_forge_9 0 rfl ?_
  refine z_iload_n C dX10_forge_10 1 rfl ?_
  obtain ⟨k4, h⟩ := gK_inv h
  obtain ⟨r5, hr5, h⟩ := bnd h
  refine y_cVb (st := []) C dX10_forge_11 mX10_282 k4 (tX10_isCoin hC o0 v1 gv1 hr5) rfl rfl (Nat.le_of_ble_eq_true rfl) (by decide) (fun br5 => ?_)
  refine z_if_eq 33 C dX10_forge_14 (by decide) (rg01 br5) (fun e6 => ?_) (fun e6 => ?_)
  ·
    have h := (if_pos e6).symm.trans h
    refine z_iconst C dX10_forge_33 ?_
    exact y_iretB C dX10_forge_34 h (by decide)
  ·
    have h := (if_neg e6).symm.trans h
    refine z_aload_n C dX10_forge_17 0 rfl ?_
    refine z_iload_n C dX10_forge_18 2 rfl ?_
    obtain ⟨k7, h⟩ := gK_inv h
    obtain ⟨r8, hr8, h⟩ := bnd h
    refine y_cVb (st := []) C dX10_forge_19 mX10_259 k7 (tX10_isMint hC o0 v2 gv2 hr8) rfl rfl (Nat.le_of_ble_eq_true rfl) (by decide) (fun br8 => ?_)
    refine z_if_eq 33 C dX10_forge_22 (by decide) (rg01 br8) (fun e9 => ?_) (fun e9 => ?_)
    ·
      have h := (if_pos e9).symm.trans h
      refine z_iconst C dX10_forge_33 ?_
      exact y_iretB C dX10_forge_34 h (by decide)
    ·
      have h := (if_neg e9).symm.trans h
      refine z_aload_n C dX10_forge_25 0 rfl ?_
      refine z_iconst C dX10_forge_26 ?_
      obtain ⟨k10, h⟩ := gK_inv h
      obtain ⟨r11, hr11, h⟩ := bnd h
      refine y_cVb (st := []) C dX10_forge_27 mX10_269 k10 (tX10_isFull hC o0 1 (by decide) hr11) rfl rfl (Nat.le_of_ble_eq_true rfl) (by decide) (fun br11 => ?_)
      refine z_if_eq 35 C dX10_forge_30 (by decide) (rg01 br11) (fun e12 => ?_) (fun e12 => ?_)
      ·
        have h := (if_pos e12).symm.trans h
        refine z_aload_n C dX10_forge_35 0 rfl ?_
        obtain ⟨on13, hon13, h⟩ := bnd h
        refine y_getR C dX10_forge_36 fX10_13 rfl hon13 ?_
        refine z_bipush C dX10_forge_39 (by decide) ?_
        obtain ⟨x14, hx14, h⟩ := bnd h
        refine y_iald C dX10_forge_41 hx14 (fun gx14 => ?_)
        refine z_iconst C dX10_forge_42 ?_
        refine z_icmp_ne 48 C dX10_forge_43 (by decide) gx14 (by decide) (fun e15 => ?_) (fun e15 => ?_)
        ·
          have h := (if_neg e15).symm.trans h
          refine z_aload_n C dX10_forge_48 0 rfl ?_
          refine z_iload_n C dX10_forge_49 1 rfl ?_
          refine z_iconst C dX10_forge_50 ?_
          obtain ⟨k16, h⟩ := gK_inv h
          obtain ⟨r17, hr17, h⟩ := bnd h
          refine y_cVi (st := []) C dX10_forge_51 mX10_256 k16 (tX10_ofCoin hC o0 v1 1 gv1 (by decide) hr17) rfl rfl (Nat.le_of_ble_eq_true rfl) (by decide) (fun gr17 => ?_)
          refine z_aload_n C dX10_forge_54 0 rfl ?_
          obtain ⟨on18, hon18, h⟩ := bnd h
          refine y_getR C dX10_forge_55 fX10_13 rfl hon18 ?_
          refine z_bipush C dX10_forge_58 (by decide) ?_
          obtain ⟨x19, hx19, h⟩ := bnd h
          refine y_iald C dX10_forge_60 hx19 (fun gx19 => ?_)
          refine z_icmp_eq 66 C dX10_forge_61 (by decide) gr17 gx19 (fun e20 => ?_) (fun e20 => ?_)
          ·
            have h := (if_pos e20).symm.trans h
            refine z_aload_n C dX10_forge_66 0 rfl ?_
            refine z_iload_n C dX10_forge_67 1 rfl ?_
            refine z_iload_n C dX10_forge_68 2 rfl ?_
            obtain ⟨k21, h⟩ := gK_inv h
            obtain ⟨r22, hr22, h⟩ := bnd h
            refine y_cVi (st := []) C dX10_forge_69 mX10_300 k21 (tX10_wrongAt hC o0 v1 v2 gv1 gv2 hr22) rfl rfl (Nat.le_of_ble_eq_true rfl) (by decide) (fun gr22 => ?_)
            refine z_istore_n (lv' := [(0, .ref (G.2.2 + o0)), (1, .int (iv v1)), (2, .int (iv v2)), (3, .int (iv r22))]) C dX10_forge_72 rfl (by decide) [1, 2, 3, 0] rfl ?_
            refine z_iload_n C dX10_forge_73 3 rfl ?_
            refine z_if_eq 79 C dX10_forge_74 (by decide) gr22 (fun e23 => ?_) (fun e23 => ?_)
            ·
              have h := (if_pos e23).symm.trans h
              refine z_aload_n C dX10_forge_79 0 rfl ?_
              obtain ⟨k24, h⟩ := gK_inv h
              obtain ⟨M25, hM25, h⟩ := bnd h
              refine y_cVv (st := []) C dX10_forge_80 mX10_272 k24 (tX10_snap hC o0  hM25) rfl rfl (Nat.le_of_ble_eq_true rfl) (by decide) ?_
              refine z_aload_n C dX10_forge_83 0 rfl ?_
              refine z_iload_n C dX10_forge_84 1 rfl ?_
              refine z_aload_n C dX10_forge_85 0 rfl ?_
              obtain ⟨on26, hon26, h⟩ := bnd h
              refine y_getR C dX10_forge_86 fX10_13 rfl hon26 ?_
              refine z_bipush C dX10_forge_89 (by decide) ?_
              obtain ⟨x27, hx27, h⟩ := bnd h
              refine y_iald C dX10_forge_91 hx27 (fun gx27 => ?_)
              refine z_iload_n C dX10_forge_92 2 rfl ?_
              refine z_iconst C dX10_forge_93 ?_
              refine z_iconst C dX10_forge_94 ?_
              obtain ⟨k28, h⟩ := gK_inv h
              obtain ⟨M29, hM29, h⟩ := bnd h
              refine y_cVv (st := []) C dX10_forge_95 mX10_275 k28 (tX10_strike hC o0 v1 x27 v2 (-1) 1 gv1 gx27 gv2 (by decide) (by decide) hM29) rfl rfl (Nat.le_of_ble_eq_true rfl) (by decide) ?_
              refine z_iconst C dX10_forge_98 ?_
              exact y_iretB C dX10_forge_99 h (by decide)
            ·
              have h := (if_neg e23).symm.trans h
              refine z_iload_n C dX10_forge_77 3 rfl ?_
              exact y_iretB C dX10_forge_78 h gr22
          ·
            have h := (if_neg e20).symm.trans h
            refine z_iconst C dX10_forge_64 ?_
            exact y_iretB C dX10_forge_65 h (by decide)
        ·
          have h := (if_pos e15).symm.trans h
          refine z_iconst C dX10_forge_46 ?_
          exact y_iretB C dX10_forge_47 h (by decide)
      ·
        have h := (if_neg e12).symm.trans h
        refine z_iconst C dX10_forge_33 ?_
        exact y_iretB C dX10_forge_34 h (by decide)

set_option maxHeartbeats 4000000 in
set_option maxRecDepth 100000 in
theorem tX10_rows {G : Gx} {σ : State} (hC : Cy G σ) (o0 : Nat) (v1 : Int) (v2 : Int) (v3 : Int) {M0 : Mm} (gv1 : rg v1) (gv2 : rg v2) (gv3 : rg v3) {R : Int × Mm} (h : uX10_rows o0 v1 v2 v3 M0 = some R) : Ct G σ (157) yX10_rows cX10_rows 7 (some .int) [.ref (G.2.2 + o0), .int (iv v1), .int (iv v2), .int (iv v3)] M0 0 0 (Qi R.1 R.2) := by
  refine Ct.of hC.1 (by decide +kernel) (Nat.le_of_ble_eq_true rfl) ?_
  intro p l e R0 s m args below meth c C
  show Jz G σ p l e R0 s m args below meth c 7 0 0 (Qi R.1 R.2) M0 0 0 0 [(0, .ref (G.2.2 + o0)), (1, .int (iv v1)), (2, .int (iv v2)), (3, .int (iv v3))] []
  have hb128 : ∀ (o0 : Nat) (v1 : Int) (v2 : Int) (v3 : Int) (M : Mm), (rg v1) → (rg v2) → (rg v3) → uX10_rows_b128 o0 v1 v2 v3 M = some R → Jz G σ p l e R0 s m args below meth c 7 0 0 (Qi R.1 R.2) M 0 0 128 [(0, .ref (G.2.2 + o0)), (1, .int (iv v1)), (2, .int (iv v2)), (3, .int (iv v3))] [] := by
    intro o0 v1 v2 v3 M gv1 gv2 gv3 h
    unfold uX10_rows_b128 at h
    refine z_aload_n C dX10_rows_128 0 rfl ?_
    refine z_iload_n C dX10_rows_129 1 rfl ?_
    refine z_iload_n C dX10_rows_130 2 rfl ?_
    refine z_iload_n C dX10_rows_131 3 rfl ?_
    refine z_iconst C dX10_rows_132 ?_
    obtain ⟨k1, h⟩ := gK_inv h
    obtain ⟨M2, hM2, h⟩ := bnd h
    refine y_cVv (st := []) C dX10_rows_133 mX10_347 k1 (tX10_tryRows hC 12 o0 v1 v2 v3 0 gv1 gv2 gv3 (by decide) hM2) rfl rfl (Nat.le_of_ble_eq_true rfl) (by omega) ?_
    refine z_aload_n C dX10_rows_136 0 rfl ?_
    obtain ⟨x3, hx3, h⟩ := bnd h
    refine y_getI C dX10_rows_137 fX10_344 rfl hx3 (fun gx3 => ?_)
    exact y_iretB C dX10_rows_140 h gx3
  have hb99 : ∀ (o0 : Nat) (v1 : Int) (v2 : Int) (v3 : Int) (v6 : Int) (M : Mm), (rg v1) → (rg v2) → (rg v3) → (rg v6) → uX10_rows_b99 o0 v1 v2 v3 v6 M = some R → Jz G σ p l e R0 s m args below meth c 7 0 0 (Qi R.1 R.2) M 0 0 99 [(0, .ref (G.2.2 + o0)), (1, .int (iv v1)), (2, .int (iv v2)), (3, .int (iv v3)), (6, .int (iv v6))] [] := by
    intro o0 v1 v2 v3 v6 M gv1 gv2 gv3 gv6 h
    unfold uX10_rows_b99 at h
    obtain ⟨b99, hb99_, hc99⟩ := bnd h
    have hL99 : ∀ (n : Nat) (v6 : Int) (M : Mm), (rg v6) → lp (uX10_rows_f99 o0 v1 v2 v3) n (v6, M) = some b99 → Jz G σ p l e R0 s m args below meth c 7 0 0 (Qi R.1 R.2) M 0 0 99 [(0, .ref (G.2.2 + o0)), (1, .int (iv v1)), (2, .int (iv v2)), (3, .int (iv v3)), (6, .int (iv v6))] [] := by
      intro n; induction n with
      | zero => intro v6 M gv6 hq; exact (lp_0 hq).elim
      | succ n99 ih99 =>
        intro v6 M gv6 hq
        obtain ⟨z99, h, hZ99⟩ := lp_s hq
        have h : uX10_rows_s99 o0 v1 v2 v3 v6 M = some z99 := h
        unfold uX10_rows_s99 at h
        refine z_iload C dX10_rows_99 4 rfl ?_
        refine z_bipush C dX10_rows_101 (by decide) ?_
        refine z_icmp_ge 128 C dX10_rows_103 (by decide) gv6 (by decide) (fun e4 => ?_) (fun e4 => ?_)
        ·
          have h := (if_pos e4).symm.trans h
          have h : uX10_rows_b128 o0 v1 v2 v3 M = some R := lp_ex (K := (uX10_rows_c99 o0 v1 v2 v3)) h hZ99 hc99
          refine z_drop (lv' := [(0, .ref (G.2.2 + o0)), (1, .int (iv v1)), (2, .int (iv v2)), (3, .int (iv v3))]) [0, 1, 2, 3] rfl ?_
          exact hb128 o0 v1 v2 v3 M gv1 gv2 gv3 h
        ·
          have h := (if_neg e4).symm.trans h
          refine z_aload_n C dX10_rows_106 0 rfl ?_
          obtain ⟨on5, hon5, h⟩ := bnd h
          refine y_getR C dX10_rows_107 fX10_68 rfl hon5 ?_
          refine z_iload C dX10_rows_110 4 rfl ?_
          refine z_iconst C dX10_rows_112 ?_
          obtain ⟨M6, hM6, h⟩ := bnd h
          refine y_iast C dX10_rows_113 hM6 ?_
          refine z_aload_n C dX10_rows_114 0 rfl ?_
          obtain ⟨on7, hon7, h⟩ := bnd h
          refine y_getR C dX10_rows_115 fX10_71 rfl hon7 ?_
          refine z_iload C dX10_rows_118 4 rfl ?_
          refine z_iconst C dX10_rows_120 ?_
          obtain ⟨M8, hM8, h⟩ := bnd h
          refine y_iast C dX10_rows_121 hM8 ?_
          refine y_iinc (lv' := [(0, .ref (G.2.2 + o0)), (1, .int (iv v1)), (2, .int (iv v2)), (3, .int (iv v3)), (6, .int (iv (w32 (v6 + 1))))]) C dX10_rows_122 4 rfl (by decide) [1, 2, 3, 4, 0] rfl ?_
          refine z_goto 99 C dX10_rows_125 (by decide) ?_
          exact ih99 (w32 (v6 + 1)) M8 (w32_rng _) (lp_back h hZ99)
    exact hL99 _ v6 M gv6 hb99_
  have hb86 : ∀ (o0 : Nat) (v1 : Int) (v2 : Int) (v3 : Int) (M : Mm), (rg v1) → (rg v2) → (rg v3) → uX10_rows_b86 o0 v1 v2 v3 M = some R → Jz G σ p l e R0 s m args below meth c 7 0 0 (Qi R.1 R.2) M 0 0 86 [(0, .ref (G.2.2 + o0)), (1, .int (iv v1)), (2, .int (iv v2)), (3, .int (iv v3))] [] := by
    intro o0 v1 v2 v3 M gv1 gv2 gv3 h
    unfold uX10_rows_b86 at h
    refine z_aload_n C dX10_rows_86 0 rfl ?_
    refine z_iconst C dX10_rows_87 ?_
    obtain ⟨M9, hM9, h⟩ := bnd h
    refine y_putI C dX10_rows_88 fX10_344 rfl rfl rfl rfl hM9 ?_
    refine z_aload_n C dX10_rows_91 0 rfl ?_
    refine z_iload_n C dX10_rows_92 3 rfl ?_
    obtain ⟨M10, hM10, h⟩ := bnd h
    refine y_putI C dX10_rows_93 fX10_352 rfl rfl rfl rfl hM10 ?_
    refine z_iconst C dX10_rows_96 ?_
    refine z_istore (lv' := [(0, .ref (G.2.2 + o0)), (1, .int (iv v1)), (2, .int (iv v2)), (3, .int (iv v3)), (6, .int (iv 0))]) C dX10_rows_97 (by decide) [1, 2, 3, 4, 0] rfl ?_
    exact hb99 o0 v1 v2 v3 0 M10 gv1 gv2 gv3 (by decide) h
  have hb46 : ∀ (o0 : Nat) (v1 : Int) (v2 : Int) (v3 : Int) (v4 : Int) (v6 : Int) (M : Mm), (rg v1) → (rg v2) → (rg v3) → (rl v4) → (rg v6) → uX10_rows_b46 o0 v1 v2 v3 v4 v6 M = some R → Jz G σ p l e R0 s m args below meth c 7 0 0 (Qi R.1 R.2) M 0 0 46 [(0, .ref (G.2.2 + o0)), (1, .int (iv v1)), (2, .int (iv v2)), (3, .int (iv v3)), (4, .long (jv v4)), (6, .int (iv v6))] [] := by
    intro o0 v1 v2 v3 v4 v6 M gv1 gv2 gv3 gv4 gv6 h
    unfold uX10_rows_b46 at h
    obtain ⟨b46, hb46_, hc46⟩ := bnd h
    have hL46 : ∀ (n : Nat) (v4 : Int) (v6 : Int), (rl v4) → (rg v6) → lp (uX10_rows_f46 o0 v1 v2 v3 M) n (v4, v6) = some b46 → Jz G σ p l e R0 s m args below meth c 7 0 0 (Qi R.1 R.2) M 0 0 46 [(0, .ref (G.2.2 + o0)), (1, .int (iv v1)), (2, .int (iv v2)), (3, .int (iv v3)), (4, .long (jv v4)), (6, .int (iv v6))] [] := by
      intro n; induction n with
      | zero => intro v4 v6 gv4 gv6 hq; exact (lp_0 hq).elim
      | succ n46 ih46 =>
        intro v4 v6 gv4 gv6 hq
        obtain ⟨z46, h, hZ46⟩ := lp_s hq
        have h : uX10_rows_s46 o0 v1 v2 v3 M v4 v6 = some z46 := h
        unfold uX10_rows_s46 at h
        refine z_iload C dX10_rows_46 5 rfl ?_
        refine z_iload_n C dX10_rows_48 3 rfl ?_
        refine z_icmp_ge 86 C dX10_rows_49 (by decide) gv6 gv3 (fun e11 => ?_) (fun e11 => ?_)
        ·
          have h := (if_pos e11).symm.trans h
          have h : uX10_rows_b86 o0 v1 v2 v3 M = some R := lp_ex (K := (uX10_rows_c46 o0 v1 v2 v3 M)) h hZ46 hc46
          refine z_drop (lv' := [(0, .ref (G.2.2 + o0)), (1, .int (iv v1)), (2, .int (iv v2)), (3, .int (iv v3))]) [0, 1, 2, 3] rfl ?_
          exact hb86 o0 v1 v2 v3 M gv1 gv2 gv3 h
        ·
          have h := (if_neg e11).symm.trans h
          refine z_lload C dX10_rows_52 4 rfl ?_
          refine z_aload_n C dX10_rows_54 0 rfl ?_
          obtain ⟨k12, h⟩ := gK_inv h
          obtain ⟨r13, hr13, h⟩ := bnd h
          refine y_cVi (st := [.long (jv v4)]) C dX10_rows_55 mX10_182 k12 (tX10_people hC o0  hr13) rfl rfl (Nat.le_of_ble_eq_true rfl) (by decide) (fun gr13 => ?_)
          refine z_i2l (r13) C dX10_rows_58 (i2l_iv gr13) ?_
          refine z_aload_n C dX10_rows_59 0 rfl ?_
          obtain ⟨k14, h⟩ := gK_inv h
          obtain ⟨r15, hr15, h⟩ := bnd h
          refine y_cVi (st := [.long (jv r13), .long (jv v4)]) C dX10_rows_60 mX10_185 k14 (tX10_mints hC o0  hr15) rfl rfl (Nat.le_of_ble_eq_true rfl) (by decide) (fun gr15 => ?_)
          refine z_i2l (r15) C dX10_rows_63 (i2l_iv gr15) ?_
          refine y_lmul C dX10_rows_64 ?_
          refine y_lmul C dX10_rows_65 ?_
          refine z_lstore (lv' := [(0, .ref (G.2.2 + o0)), (1, .int (iv v1)), (2, .int (iv v2)), (3, .int (iv v3)), (4, .long (jv (w64 (v4 * (w64 (r13 * r15)))))), (6, .int (iv v6))]) C dX10_rows_66 (by decide) [1, 2, 3, 4, 0, 5] rfl ?_
          refine z_lload C dX10_rows_68 4 rfl ?_
          refine z_ldc2 C dX10_rows_70 kX10_350 ?_
          refine z_lcmp (cmpI (w64 (v4 * (w64 (r13 * r15)))) 60000) C dX10_rows_73 (lcmp_jv (w64_rng _) (by decide)) ?_
          refine z_if_le_c 80 C dX10_rows_74 (by decide) (fun e16 => ?_) (fun e16 => ?_)
          ·
            have h := (if_pos e16).symm.trans h
            refine y_iinc (lv' := [(0, .ref (G.2.2 + o0)), (1, .int (iv v1)), (2, .int (iv v2)), (3, .int (iv v3)), (4, .long (jv (w64 (v4 * (w64 (r13 * r15)))))), (6, .int (iv (w32 (v6 + 1))))]) C dX10_rows_80 5 rfl (by decide) [1, 2, 3, 4, 5, 0] rfl ?_
            refine z_goto 46 C dX10_rows_83 (by decide) ?_
            exact ih46 (w64 (v4 * (w64 (r13 * r15)))) (w32 (v6 + 1)) (w64_rng _) (w32_rng _) (lp_back h hZ46)
          ·
            have h := (if_neg e16).symm.trans h
            refine z_bipush C dX10_rows_77 (by decide) ?_
            have h := lp_ret (K := (uX10_rows_c46 o0 v1 v2 v3 M)) h hZ46 hc46
            exact y_iretB C dX10_rows_79 h (by decide)
    exact hL46 _ v4 v6 gv4 gv6 hb46_
  unfold uX10_rows at h
  refine z_aload_n C dX10_rows_0 0 rfl ?_
  refine z_iconst C dX10_rows_1 ?_
  obtain ⟨M17, hM17, h⟩ := bnd h
  refine y_putI C dX10_rows_2 fX10_83 rfl rfl rfl rfl hM17 ?_
  refine z_aload_n C dX10_rows_5 0 rfl ?_
  obtain ⟨k18, h⟩ := gK_inv h
  obtain ⟨M19, hM19, h⟩ := bnd h
  refine y_cVv (st := []) C dX10_rows_6 mX10_167 k18 (tX10_lay hC o0  hM19) rfl rfl (Nat.le_of_ble_eq_true rfl) (by decide) ?_
  refine z_aload_n C dX10_rows_9 0 rfl ?_
  refine z_iload_n C dX10_rows_10 1 rfl ?_
  obtain ⟨k20, h⟩ := gK_inv h
  obtain ⟨r21, hr21, h⟩ := bnd h
  refine y_cVb (st := []) C dX10_rows_11 mX10_282 k20 (tX10_isCoin hC o0 v1 gv1 hr21) rfl rfl (Nat.le_of_ble_eq_true rfl) (by decide) (fun br21 => ?_)
  refine z_if_eq 38 C dX10_rows_14 (by decide) (rg01 br21) (fun e22 => ?_) (fun e22 => ?_)
  ·
    have h := (if_pos e22).symm.trans h
    refine z_iconst C dX10_rows_38 ?_
    exact y_iretB C dX10_rows_39 h (by decide)
  ·
    have h := (if_neg e22).symm.trans h
    refine z_iload_n C dX10_rows_17 2 rfl ?_
    refine z_iconst C dX10_rows_18 ?_
    refine z_sipush C dX10_rows_19 (by decide) ?_
    obtain ⟨r23, hr23, h⟩ := bnd h
    refine y_cSb (st := []) C dX10_rows_22 mX10_154 (tX10_isIn hC v2 1 9999 gv2 (by decide) (by decide) hr23) rfl rfl (Nat.le_of_ble_eq_true rfl) (by decide) (fun br23 => ?_)
    refine z_if_eq 38 C dX10_rows_25 (by decide) (rg01 br23) (fun e24 => ?_) (fun e24 => ?_)
    ·
      have h := (if_pos e24).symm.trans h
      refine z_iconst C dX10_rows_38 ?_
      exact y_iretB C dX10_rows_39 h (by decide)
    ·
      have h := (if_neg e24).symm.trans h
      refine z_iload_n C dX10_rows_28 3 rfl ?_
      refine z_iconst C dX10_rows_29 ?_
      refine z_bipush C dX10_rows_30 (by decide) ?_
      obtain ⟨r25, hr25, h⟩ := bnd h
      refine y_cSb (st := []) C dX10_rows_32 mX10_154 (tX10_isIn hC v3 1 9 gv3 (by decide) (by decide) hr25) rfl rfl (Nat.le_of_ble_eq_true rfl) (by decide) (fun br25 => ?_)
      refine z_if_ne 40 C dX10_rows_35 (by decide) (rg01 br25) (fun e26 => ?_) (fun e26 => ?_)
      ·
        have h := (if_neg e26).symm.trans h
        refine z_lconst (v := 1) C dX10_rows_40 (by decide) ?_
        refine z_lstore (lv' := [(0, .ref (G.2.2 + o0)), (1, .int (iv v1)), (2, .int (iv v2)), (3, .int (iv v3)), (4, .long (jv 1))]) C dX10_rows_41 (by decide) [1, 2, 3, 4, 0] rfl ?_
        refine z_iconst C dX10_rows_43 ?_
        refine z_istore (lv' := [(0, .ref (G.2.2 + o0)), (1, .int (iv v1)), (2, .int (iv v2)), (3, .int (iv v3)), (4, .long (jv 1)), (6, .int (iv 0))]) C dX10_rows_44 (by decide) [1, 2, 3, 4, 5, 0] rfl ?_
        exact hb46 o0 v1 v2 v3 1 0 M19 gv1 gv2 gv3 (by decide) (by decide) h
      ·
        have h := (if_pos e26).symm.trans h
        refine z_iconst C dX10_rows_38 ?_
        exact y_iretB C dX10_rows_39 h (by decide)

set_option maxHeartbeats 4000000 in
set_option maxRecDepth 100000 in
theorem tX10_readNamed {G : Gx} {σ : State} (hC : Cy G σ) (o0 : Nat) (v1 : Int) {M0 : Mm} (gv1 : rg v1) {R : Int × Mm} (h : uX10_readNamed o0 v1 M0 = some R) : Ct G σ (4) yX10_readNamed cX10_readNamed 3 (some .boolean) [.ref (G.2.2 + o0), .int (iv v1)] M0 0 0 (Qb R.1 R.2) := by
  refine Ct.of hC.1 (by decide +kernel) (Nat.le_of_ble_eq_true rfl) ?_
  intro p l e R0 s m args below meth c C
  show Jz G σ p l e R0 s m args below meth c 3 0 0 (Qb R.1 R.2) M0 0 0 0 [(0, .ref (G.2.2 + o0)), (1, .int (iv v1))] []
  unfold uX10_readNamed at h
  refine z_aload_n C dX10_readNamed_0 0 rfl ?_
  obtain ⟨k1, h⟩ := gK_inv h
  obtain ⟨r2, hr2, h⟩ := bnd h
  refine y_cVb (st := []) C dX10_readNamed_1 mX10_191 k1 (tX10_isName hC o0  hr2) rfl rfl (Nat.le_of_ble_eq_true rfl) (by decide) (fun br2 => ?_)
  refine z_if_ne 13 C dX10_readNamed_4 (by decide) (rg01 br2) (fun e3 => ?_) (fun e3 => ?_)
  ·
    have h := (if_neg e3).symm.trans h
    refine z_aload_n C dX10_readNamed_13 0 rfl ?_
    refine z_aload_n C dX10_readNamed_14 0 rfl ?_
    obtain ⟨on4, hon4, h⟩ := bnd h
    refine y_getR C dX10_readNamed_15 fX10_26 rfl hon4 ?_
    refine z_iconst C dX10_readNamed_18 ?_
    refine z_aload_n C dX10_readNamed_19 0 rfl ?_
    obtain ⟨k5, h⟩ := gK_inv h
    obtain ⟨r6, hr6, h⟩ := bnd h
    refine y_cVi (st := [.int (iv 0), .ref (G.2.2 + on4), .ref (G.2.2 + o0)]) C dX10_readNamed_20 mX10_182 k5 (tX10_people hC o0  hr6) rfl rfl (Nat.le_of_ble_eq_true rfl) (by decide) (fun gr6 => ?_)
    obtain ⟨k7, h⟩ := gK_inv h
    obtain ⟨r8, hr8, h⟩ := bnd h
    refine y_cVi (st := []) C dX10_readNamed_23 mX10_195 k7 (tX10_findIn hC o0 on4 0 r6 (by decide) gr6 hr8) rfl rfl (Nat.le_of_ble_eq_true rfl) (by decide) (fun gr8 => ?_)
    refine z_istore_n (lv' := [(0, .ref (G.2.2 + o0)), (1, .int (iv v1)), (2, .int (iv r8))]) C dX10_readNamed_26 rfl (by decide) [1, 2, 0] rfl ?_
    refine z_iload_n C dX10_readNamed_27 2 rfl ?_
    refine z_iconst C dX10_readNamed_28 ?_
    refine z_icmp_ne 38 C dX10_readNamed_29 (by decide) gr8 (by decide) (fun e9 => ?_) (fun e9 => ?_)
    ·
      have h := (if_neg e9).symm.trans h
      refine z_aload_n C dX10_readNamed_38 0 rfl ?_
      refine z_aload_n C dX10_readNamed_39 0 rfl ?_
      refine z_bipush C dX10_readNamed_40 (by decide) ?_
      refine z_iload_n C dX10_readNamed_42 1 rfl ?_
      refine y_iadd C dX10_readNamed_43 ?_
      refine z_iload_n C dX10_readNamed_44 2 rfl ?_
      refine z_iconst C dX10_readNamed_45 ?_
      refine z_iconst C dX10_readNamed_46 ?_
      obtain ⟨k10, h⟩ := gK_inv h
      obtain ⟨r11, M12, hr11, h⟩ := bnd2 h
      refine y_cVi (st := [.ref (G.2.2 + o0)]) C dX10_readNamed_47 mX10_371 k10 (tX10_lays hC o0 (w32 (50 + v1)) r8 0 0 (w32_rng _) gr8 (by decide) (by decide) hr11) rfl rfl (Nat.le_of_ble_eq_true rfl) (by decide) (fun gr11 => ?_)
      obtain ⟨M13, hM13, h⟩ := bnd h
      refine y_putI C dX10_readNamed_50 fX10_368 rfl rfl rfl rfl hM13 ?_
      refine z_aload_n C dX10_readNamed_53 0 rfl ?_
      obtain ⟨k14, h⟩ := gK_inv h
      obtain ⟨M15, hM15, h⟩ := bnd h
      refine y_cVv (st := []) C dX10_readNamed_54 mX10_161 k14 (tX10_go hC o0  hM15) rfl rfl (Nat.le_of_ble_eq_true rfl) (by decide) ?_
      refine z_iconst C dX10_readNamed_57 ?_
      exact y_zretB C dX10_readNamed_58 h (by decide)
    ·
      have h := (if_pos e9).symm.trans h
      refine z_aload_n C dX10_readNamed_32 0 rfl ?_
      refine z_iconst C dX10_readNamed_33 ?_
      obtain ⟨k16, h⟩ := gK_inv h
      obtain ⟨r17, M18, hr17, h⟩ := bnd2 h
      refine y_cVb (st := []) C dX10_readNamed_34 mX10_151 k16 (tX10_bad hC o0 3 (by decide) hr17) rfl rfl (Nat.le_of_ble_eq_true rfl) (by decide) (fun br17 => ?_)
      exact y_zretB C dX10_readNamed_37 h br17
  ·
    have h := (if_pos e3).symm.trans h
    refine z_aload_n C dX10_readNamed_7 0 rfl ?_
    refine z_iconst C dX10_readNamed_8 ?_
    obtain ⟨k19, h⟩ := gK_inv h
    obtain ⟨r20, M21, hr20, h⟩ := bnd2 h
    refine y_cVb (st := []) C dX10_readNamed_9 mX10_151 k19 (tX10_bad hC o0 1 (by decide) hr20) rfl rfl (Nat.le_of_ble_eq_true rfl) (by decide) (fun br20 => ?_)
    exact y_zretB C dX10_readNamed_12 h br20

set_option maxHeartbeats 4000000 in
set_option maxRecDepth 100000 in
theorem tX10_readCompare {G : Gx} {σ : State} (hC : Cy G σ) (o0 : Nat) (v1 : Int) {M0 : Mm} (gv1 : rg v1) {R : Int × Mm} (h : uX10_readCompare o0 v1 M0 = some R) : Ct G σ (4) yX10_readCompare cX10_readCompare 3 (some .boolean) [.ref (G.2.2 + o0), .int (iv v1)] M0 0 0 (Qb R.1 R.2) := by
  refine Ct.of hC.1 (by decide +kernel) (Nat.le_of_ble_eq_true rfl) ?_
  intro p l e R0 s m args below meth c C
  show Jz G σ p l e R0 s m args below meth c 3 0 0 (Qb R.1 R.2) M0 0 0 0 [(0, .ref (G.2.2 + o0)), (1, .int (iv v1))] []
  have hb33 : ∀ (o0 : Nat) (v1 : Int) (M : Mm), (rg v1) → uX10_readCompare_b33 o0 v1 M = some R → Jz G σ p l e R0 s m args below meth c 3 0 0 (Qb R.1 R.2) M 0 0 33 [(0, .ref (G.2.2 + o0)), (1, .int (iv v1))] [] := by
    intro o0 v1 M gv1 h
    unfold uX10_readCompare_b33 at h
    refine z_aload_n C dX10_readCompare_33 0 rfl ?_
    obtain ⟨x1, hx1, h⟩ := bnd h
    refine y_getI C dX10_readCompare_34 fX10_115 rfl hx1 (fun gx1 => ?_)
    refine z_istore_n (lv' := [(0, .ref (G.2.2 + o0)), (1, .int (iv v1)), (2, .int (iv x1))]) C dX10_readCompare_37 rfl (by decide) [1, 2, 0] rfl ?_
    refine z_aload_n C dX10_readCompare_38 0 rfl ?_
    obtain ⟨k2, h⟩ := gK_inv h
    obtain ⟨M3, hM3, h⟩ := bnd h
    refine y_cVv (st := []) C dX10_readCompare_39 mX10_161 k2 (tX10_go hC o0  hM3) rfl rfl (Nat.le_of_ble_eq_true rfl) (by decide) ?_
    refine z_aload_n C dX10_readCompare_42 0 rfl ?_
    refine z_iconst C dX10_readCompare_43 ?_
    refine z_sipush C dX10_readCompare_44 (by decide) ?_
    obtain ⟨k4, h⟩ := gK_inv h
    obtain ⟨r5, M6, hr5, h⟩ := bnd2 h
    refine y_cVb (st := []) C dX10_readCompare_47 mX10_205 k4 (tX10_readNumber hC o0 0 9999 (by decide) (by decide) hr5) rfl rfl (Nat.le_of_ble_eq_true rfl) (by decide) (fun br5 => ?_)
    refine z_if_ne 55 C dX10_readCompare_50 (by decide) (rg01 br5) (fun e7 => ?_) (fun e7 => ?_)
    ·
      have h := (if_neg e7).symm.trans h
      refine z_aload_n C dX10_readCompare_55 0 rfl ?_
      refine z_aload_n C dX10_readCompare_56 0 rfl ?_
      refine z_bipush C dX10_readCompare_57 (by decide) ?_
      refine z_iload_n C dX10_readCompare_59 1 rfl ?_
      refine y_iadd C dX10_readCompare_60 ?_
      refine z_iconst C dX10_readCompare_61 ?_
      refine z_aload_n C dX10_readCompare_62 0 rfl ?_
      obtain ⟨x8, hx8, h⟩ := bnd h
      refine y_getI C dX10_readCompare_63 fX10_158 rfl hx8 (fun gx8 => ?_)
      refine z_iload_n C dX10_readCompare_66 2 rfl ?_
      obtain ⟨k9, h⟩ := gK_inv h
      obtain ⟨r10, M11, hr10, h⟩ := bnd2 h
      refine y_cVi (st := [.ref (G.2.2 + o0)]) C dX10_readCompare_67 mX10_371 k9 (tX10_lays hC o0 (w32 (50 + v1)) 0 x8 x1 (w32_rng _) (by decide) gx8 gx1 hr10) rfl rfl (Nat.le_of_ble_eq_true rfl) (by decide) (fun gr10 => ?_)
      obtain ⟨M12, hM12, h⟩ := bnd h
      refine y_putI C dX10_readCompare_70 fX10_368 rfl rfl rfl rfl hM12 ?_
      refine z_iconst C dX10_readCompare_73 ?_
      exact y_zretB C dX10_readCompare_74 h (by decide)
    ·
      have h := (if_pos e7).symm.trans h
      refine z_iconst C dX10_readCompare_53 ?_
      exact y_zretB C dX10_readCompare_54 h (by decide)
  unfold uX10_readCompare at h
  refine z_aload_n C dX10_readCompare_0 0 rfl ?_
  refine z_bipush C dX10_readCompare_1 (by decide) ?_
  obtain ⟨k13, h⟩ := gK_inv h
  obtain ⟨r14, hr14, h⟩ := bnd h
  refine y_cVb (st := []) C dX10_readCompare_3 mX10_164 k13 (tX10_isSign hC o0 60 (by decide) hr14) rfl rfl (Nat.le_of_ble_eq_true rfl) (by decide) (fun br14 => ?_)
  refine z_if_ne 33 C dX10_readCompare_6 (by decide) (rg01 br14) (fun e15 => ?_) (fun e15 => ?_)
  ·
    have h := (if_neg e15).symm.trans h
    exact hb33 o0 v1 M0 gv1 h
  ·
    have h := (if_pos e15).symm.trans h
    refine z_aload_n C dX10_readCompare_9 0 rfl ?_
    refine z_bipush C dX10_readCompare_10 (by decide) ?_
    obtain ⟨k16, h⟩ := gK_inv h
    obtain ⟨r17, hr17, h⟩ := bnd h
    refine y_cVb (st := []) C dX10_readCompare_12 mX10_164 k16 (tX10_isSign hC o0 61 (by decide) hr17) rfl rfl (Nat.le_of_ble_eq_true rfl) (by decide) (fun br17 => ?_)
    refine z_if_ne 33 C dX10_readCompare_15 (by decide) (rg01 br17) (fun e18 => ?_) (fun e18 => ?_)
    ·
      have h := (if_neg e18).symm.trans h
      exact hb33 o0 v1 M0 gv1 h
    ·
      have h := (if_pos e18).symm.trans h
      refine z_aload_n C dX10_readCompare_18 0 rfl ?_
      refine z_bipush C dX10_readCompare_19 (by decide) ?_
      obtain ⟨k19, h⟩ := gK_inv h
      obtain ⟨r20, hr20, h⟩ := bnd h
      refine y_cVb (st := []) C dX10_readCompare_21 mX10_164 k19 (tX10_isSign hC o0 62 (by decide) hr20) rfl rfl (Nat.le_of_ble_eq_true rfl) (by decide) (fun br20 => ?_)
      refine z_if_ne 33 C dX10_readCompare_24 (by decide) (rg01 br20) (fun e21 => ?_) (fun e21 => ?_)
      ·
        have h := (if_neg e21).symm.trans h
        exact hb33 o0 v1 M0 gv1 h
      ·
        have h := (if_pos e21).symm.trans h
        refine z_aload_n C dX10_readCompare_27 0 rfl ?_
        refine z_iconst C dX10_readCompare_28 ?_
        obtain ⟨k22, h⟩ := gK_inv h
        obtain ⟨r23, M24, hr23, h⟩ := bnd2 h
        refine y_cVb (st := []) C dX10_readCompare_29 mX10_151 k22 (tX10_bad hC o0 1 (by decide) hr23) rfl rfl (Nat.le_of_ble_eq_true rfl) (by decide) (fun br23 => ?_)
        exact y_zretB C dX10_readCompare_32 h br23

set_option maxHeartbeats 4000000 in
set_option maxRecDepth 100000 in
theorem tX10_holds_o {G : Gx} {σ : State} (hC : Cy G σ) (dd : Nat) (rc : Nat → Int → Int → Mm → Option (Int)) (hrc : ∀ (o0 : Nat) (v1 : Int) (v2 : Int) {M : Mm}, rg v1 → rg v2 → ∀ {R : Int}, rc o0 v1 v2 M = some R → Ct G σ dd yX10_holds cX10_holds 8 (some .boolean) [.ref (G.2.2 + o0), .int (iv v1), .int (iv v2)] M 0 0 (Qb R M)) (o0 : Nat) (v1 : Int) (v2 : Int) {M0 : Mm} (gv1 : rg v1) (gv2 : rg v2) {R : Int} (h : uX10_holds_o rc o0 v1 v2 M0 = some R) : Ct G σ (dd + 13) yX10_holds cX10_holds 8 (some .boolean) [.ref (G.2.2 + o0), .int (iv v1), .int (iv v2)] M0 0 0 (Qb R M0) := by
  refine Ct.of hC.1 (by decide +kernel) (Nat.le_of_ble_eq_true rfl) ?_
  intro p l e R0 s m args below meth c C
  show Jz G σ p l e R0 s m args below meth c 8 0 0 (Qb R M0) M0 0 0 0 [(0, .ref (G.2.2 + o0)), (1, .int (iv v1)), (2, .int (iv v2))] []
  have hb259 : ∀ (o0 : Nat) (v3 : Int) (v5 : Int) (os0 : Nat) (vs1 : Int) (vs2 : Int), (rg v3) → (rg v5) → (rg vs1) → (rg vs2) → uX10_holds_b259 rc o0 v3 v5 os0 vs1 vs2 M0 = some R → Jz G σ p l e R0 s m args below meth c 8 0 0 (Qb R M0) M0 0 0 259 [(0, .ref (G.2.2 + o0)), (3, .int (iv v3)), (5, .int (iv v5))] [.int (iv vs2), .int (iv vs1), .ref (G.2.2 + os0)] := by
    intro o0 v3 v5 os0 vs1 vs2  gv3 gv5 gvs1 gvs2 h
    unfold uX10_holds_b259 at h
    obtain ⟨k1, h⟩ := gK_inv h
    obtain ⟨r2, hr2, h⟩ := bnd h
    refine y_cVi (st := []) C dX10_holds_259 mX10_256 k1 (tX10_ofCoin hC os0 vs1 vs2 gvs1 gvs2 hr2) rfl rfl (Nat.le_of_ble_eq_true rfl) (by omega) (fun gr2 => ?_)
    refine z_istore (lv' := [(0, .ref (G.2.2 + o0)), (3, .int (iv v3)), (5, .int (iv v5)), (7, .int (iv r2))]) C dX10_holds_262 (by decide) [1, 2, 3, 0] rfl ?_
    refine z_aload_n C dX10_holds_264 0 rfl ?_
    obtain ⟨on3, hon3, h⟩ := bnd h
    refine y_getR C dX10_holds_265 fX10_13 rfl hon3 ?_
    refine z_iload_n C dX10_holds_268 1 rfl ?_
    refine z_iconst C dX10_holds_269 ?_
    refine y_iadd C dX10_holds_270 ?_
    obtain ⟨x4, hx4, h⟩ := bnd h
    refine y_iald C dX10_holds_271 hx4 (fun gx4 => ?_)
    refine z_bipush C dX10_holds_272 (by decide) ?_
    refine z_icmp_ne 292 C dX10_holds_274 (by decide) gx4 (by decide) (fun e5 => ?_) (fun e5 => ?_)
    ·
      have h := (if_neg e5).symm.trans h
      refine z_aload_n C dX10_holds_292 0 rfl ?_
      obtain ⟨on6, hon6, h⟩ := bnd h
      refine y_getR C dX10_holds_293 fX10_13 rfl hon6 ?_
      refine z_iload_n C dX10_holds_296 1 rfl ?_
      refine z_iconst C dX10_holds_297 ?_
      refine y_iadd C dX10_holds_298 ?_
      obtain ⟨x7, hx7, h⟩ := bnd h
      refine y_iald C dX10_holds_299 hx7 (fun gx7 => ?_)
      refine z_bipush C dX10_holds_300 (by decide) ?_
      refine z_icmp_ne 320 C dX10_holds_302 (by decide) gx7 (by decide) (fun e8 => ?_) (fun e8 => ?_)
      ·
        have h := (if_neg e8).symm.trans h
        refine z_iload C dX10_holds_320 3 rfl ?_
        refine z_iload C dX10_holds_322 2 rfl ?_
        refine z_icmp_le 331 C dX10_holds_324 (by decide) gr2 gv5 (fun e9 => ?_) (fun e9 => ?_)
        ·
          have h := (if_pos e9).symm.trans h
          refine z_iconst C dX10_holds_331 ?_
          exact y_zretP C dX10_holds_332 h (by decide)
        ·
          have h := (if_neg e9).symm.trans h
          refine z_iconst C dX10_holds_327 ?_
          refine z_goto 332 C dX10_holds_328 (by decide) ?_
          exact y_zretP C dX10_holds_332 h (by decide)
      ·
        have h := (if_pos e8).symm.trans h
        refine z_iload C dX10_holds_305 3 rfl ?_
        refine z_iload C dX10_holds_307 2 rfl ?_
        refine z_icmp_ne 316 C dX10_holds_309 (by decide) gr2 gv5 (fun e10 => ?_) (fun e10 => ?_)
        ·
          have h := (if_neg e10).symm.trans h
          refine z_iconst C dX10_holds_316 ?_
          refine z_goto 332 C dX10_holds_317 (by decide) ?_
          exact y_zretP C dX10_holds_332 h (by decide)
        ·
          have h := (if_pos e10).symm.trans h
          refine z_iconst C dX10_holds_312 ?_
          refine z_goto 332 C dX10_holds_313 (by decide) ?_
          exact y_zretP C dX10_holds_332 h (by decide)
    ·
      have h := (if_pos e5).symm.trans h
      refine z_iload C dX10_holds_277 3 rfl ?_
      refine z_iload C dX10_holds_279 2 rfl ?_
      refine z_icmp_ge 288 C dX10_holds_281 (by decide) gr2 gv5 (fun e11 => ?_) (fun e11 => ?_)
      ·
        have h := (if_pos e11).symm.trans h
        refine z_iconst C dX10_holds_288 ?_
        refine z_goto 332 C dX10_holds_289 (by decide) ?_
        exact y_zretP C dX10_holds_332 h (by decide)
      ·
        have h := (if_neg e11).symm.trans h
        refine z_iconst C dX10_holds_284 ?_
        refine z_goto 332 C dX10_holds_285 (by decide) ?_
        exact y_zretP C dX10_holds_332 h (by decide)
  unfold uX10_holds_o at h
  refine z_sipush C dX10_holds_0 (by decide) ?_
  refine z_iconst C dX10_holds_3 ?_
  refine z_iload_n C dX10_holds_4 1 rfl ?_
  refine y_imul C dX10_holds_5 ?_
  refine y_iadd C dX10_holds_6 ?_
  refine z_istore_n (lv' := [(0, .ref (G.2.2 + o0)), (1, .int (iv v1)), (2, .int (iv v2)), (3, .int (iv (w32 (7900 + (w32 (4 * v1))))))]) C dX10_holds_7 rfl (by decide) [1, 2, 3, 0] rfl ?_
  refine z_aload_n C dX10_holds_8 0 rfl ?_
  obtain ⟨on12, hon12, h⟩ := bnd h
  refine y_getR C dX10_holds_9 fX10_13 rfl hon12 ?_
  refine z_iload_n C dX10_holds_12 3 rfl ?_
  refine z_iconst C dX10_holds_13 ?_
  refine y_iadd C dX10_holds_14 ?_
  obtain ⟨x13, hx13, h⟩ := bnd h
  refine y_iald C dX10_holds_15 hx13 (fun gx13 => ?_)
  refine z_istore (lv' := [(0, .ref (G.2.2 + o0)), (1, .int (iv v1)), (2, .int (iv v2)), (3, .int (iv (w32 (7900 + (w32 (4 * v1)))))), (4, .int (iv x13))]) C dX10_holds_16 (by decide) [1, 2, 3, 4, 0] rfl ?_
  refine z_aload_n C dX10_holds_18 0 rfl ?_
  obtain ⟨on14, hon14, h⟩ := bnd h
  refine y_getR C dX10_holds_19 fX10_13 rfl hon14 ?_
  refine z_iload_n C dX10_holds_22 3 rfl ?_
  refine z_iconst C dX10_holds_23 ?_
  refine y_iadd C dX10_holds_24 ?_
  obtain ⟨x15, hx15, h⟩ := bnd h
  refine y_iald C dX10_holds_25 hx15 (fun gx15 => ?_)
  refine z_istore (lv' := [(0, .ref (G.2.2 + o0)), (1, .int (iv v1)), (2, .int (iv v2)), (3, .int (iv (w32 (7900 + (w32 (4 * v1)))))), (4, .int (iv x13)), (5, .int (iv x15))]) C dX10_holds_26 (by decide) [1, 2, 3, 4, 5, 0] rfl ?_
  refine z_aload_n C dX10_holds_28 0 rfl ?_
  obtain ⟨on16, hon16, h⟩ := bnd h
  refine y_getR C dX10_holds_29 fX10_13 rfl hon16 ?_
  refine z_iload_n C dX10_holds_32 3 rfl ?_
  obtain ⟨x17, hx17, h⟩ := bnd h
  refine y_iald C dX10_holds_33 hx17 (fun gx17 => ?_)
  by_cases e18 : x17 = 1
  ·
    have h := (if_pos e18).symm.trans h
    refine z_lookup (off := 66) 100 C dX10_holds_34 gx17 (by decide) (by rw [e18]; rfl) (by decide) ?_
    refine z_aload_n C dX10_holds_100 0 rfl ?_
    refine z_iload C dX10_holds_101 4 rfl ?_
    refine z_iload_n C dX10_holds_103 2 rfl ?_
    obtain ⟨k19, h⟩ := gK_inv h
    obtain ⟨r20, hr20, h⟩ := bnd h
    refine y_cVb (st := []) C dX10_holds_104 mX10_398 k19 (hrc o0 x13 v2 gx13 gv2 hr20) rfl rfl (Nat.le_of_ble_eq_true rfl) (by omega) (fun br20 => ?_)
    refine z_if_ne 114 C dX10_holds_107 (by decide) (rg01 br20) (fun e21 => ?_) (fun e21 => ?_)
    ·
      have h := (if_neg e21).symm.trans h
      refine z_iconst C dX10_holds_114 ?_
      exact y_zretP C dX10_holds_115 h (by decide)
    ·
      have h := (if_pos e21).symm.trans h
      refine z_iconst C dX10_holds_110 ?_
      refine z_goto 115 C dX10_holds_111 (by decide) ?_
      exact y_zretP C dX10_holds_115 h (by decide)
  have h := (if_neg e18).symm.trans h
  by_cases e22 : x17 = 2
  ·
    have h := (if_pos e22).symm.trans h
    refine z_lookup (off := 82) 116 C dX10_holds_34 gx17 (by decide) (by rw [e22]; rfl) (by decide) ?_
    refine z_aload_n C dX10_holds_116 0 rfl ?_
    refine z_iload C dX10_holds_117 4 rfl ?_
    refine z_iload_n C dX10_holds_119 2 rfl ?_
    obtain ⟨k23, h⟩ := gK_inv h
    obtain ⟨r24, hr24, h⟩ := bnd h
    refine y_cVb (st := []) C dX10_holds_120 mX10_398 k23 (hrc o0 x13 v2 gx13 gv2 hr24) rfl rfl (Nat.le_of_ble_eq_true rfl) (by omega) (fun br24 => ?_)
    refine z_if_eq 140 C dX10_holds_123 (by decide) (rg01 br24) (fun e25 => ?_) (fun e25 => ?_)
    ·
      have h := (if_pos e25).symm.trans h
      refine z_iconst C dX10_holds_140 ?_
      exact y_zretP C dX10_holds_141 h (by decide)
    ·
      have h := (if_neg e25).symm.trans h
      refine z_aload_n C dX10_holds_126 0 rfl ?_
      refine z_iload C dX10_holds_127 5 rfl ?_
      refine z_iload_n C dX10_holds_129 2 rfl ?_
      obtain ⟨k26, h⟩ := gK_inv h
      obtain ⟨r27, hr27, h⟩ := bnd h
      refine y_cVb (st := []) C dX10_holds_130 mX10_398 k26 (hrc o0 x15 v2 gx15 gv2 hr27) rfl rfl (Nat.le_of_ble_eq_true rfl) (by omega) (fun br27 => ?_)
      refine z_if_eq 140 C dX10_holds_133 (by decide) (rg01 br27) (fun e28 => ?_) (fun e28 => ?_)
      ·
        have h := (if_pos e28).symm.trans h
        refine z_iconst C dX10_holds_140 ?_
        exact y_zretP C dX10_holds_141 h (by decide)
      ·
        have h := (if_neg e28).symm.trans h
        refine z_iconst C dX10_holds_136 ?_
        refine z_goto 141 C dX10_holds_137 (by decide) ?_
        exact y_zretP C dX10_holds_141 h (by decide)
  have h := (if_neg e22).symm.trans h
  by_cases e29 : x17 = 3
  ·
    have h := (if_pos e29).symm.trans h
    refine z_lookup (off := 108) 142 C dX10_holds_34 gx17 (by decide) (by rw [e29]; rfl) (by decide) ?_
    refine z_aload_n C dX10_holds_142 0 rfl ?_
    refine z_iload C dX10_holds_143 4 rfl ?_
    refine z_iload_n C dX10_holds_145 2 rfl ?_
    obtain ⟨k30, h⟩ := gK_inv h
    obtain ⟨r31, hr31, h⟩ := bnd h
    refine y_cVb (st := []) C dX10_holds_146 mX10_398 k30 (hrc o0 x13 v2 gx13 gv2 hr31) rfl rfl (Nat.le_of_ble_eq_true rfl) (by omega) (fun br31 => ?_)
    refine z_if_ne 162 C dX10_holds_149 (by decide) (rg01 br31) (fun e32 => ?_) (fun e32 => ?_)
    ·
      have h := (if_neg e32).symm.trans h
      refine z_iconst C dX10_holds_162 ?_
      refine z_goto 167 C dX10_holds_163 (by decide) ?_
      exact y_zretP C dX10_holds_167 h (by decide)
    ·
      have h := (if_pos e32).symm.trans h
      refine z_aload_n C dX10_holds_152 0 rfl ?_
      refine z_iload C dX10_holds_153 5 rfl ?_
      refine z_iload_n C dX10_holds_155 2 rfl ?_
      obtain ⟨k33, h⟩ := gK_inv h
      obtain ⟨r34, hr34, h⟩ := bnd h
      refine y_cVb (st := []) C dX10_holds_156 mX10_398 k33 (hrc o0 x15 v2 gx15 gv2 hr34) rfl rfl (Nat.le_of_ble_eq_true rfl) (by omega) (fun br34 => ?_)
      refine z_if_eq 166 C dX10_holds_159 (by decide) (rg01 br34) (fun e35 => ?_) (fun e35 => ?_)
      ·
        have h := (if_pos e35).symm.trans h
        refine z_iconst C dX10_holds_166 ?_
        exact y_zretP C dX10_holds_167 h (by decide)
      ·
        have h := (if_neg e35).symm.trans h
        refine z_iconst C dX10_holds_162 ?_
        refine z_goto 167 C dX10_holds_163 (by decide) ?_
        exact y_zretP C dX10_holds_167 h (by decide)
  have h := (if_neg e29).symm.trans h
  by_cases e36 : x17 = 4
  ·
    have h := (if_pos e36).symm.trans h
    refine z_lookup (off := 134) 168 C dX10_holds_34 gx17 (by decide) (by rw [e36]; rfl) (by decide) ?_
    refine z_aload_n C dX10_holds_168 0 rfl ?_
    refine z_iload_n C dX10_holds_169 2 rfl ?_
    obtain ⟨k37, h⟩ := gK_inv h
    obtain ⟨r38, hr38, h⟩ := bnd h
    refine y_cVi (st := []) C dX10_holds_170 mX10_285 k37 (tX10_showsFalse hC o0 v2 gv2 hr38) rfl rfl (Nat.le_of_ble_eq_true rfl) (by omega) (fun gr38 => ?_)
    refine z_if_le 180 C dX10_holds_173 (by decide) gr38 (fun e39 => ?_) (fun e39 => ?_)
    ·
      have h := (if_pos e39).symm.trans h
      refine z_iconst C dX10_holds_180 ?_
      exact y_zretP C dX10_holds_181 h (by decide)
    ·
      have h := (if_neg e39).symm.trans h
      refine z_iconst C dX10_holds_176 ?_
      refine z_goto 181 C dX10_holds_177 (by decide) ?_
      exact y_zretP C dX10_holds_181 h (by decide)
  have h := (if_neg e36).symm.trans h
  by_cases e40 : x17 = 62
  ·
    have h := (if_pos e40).symm.trans h
    refine z_lookup (off := 148) 182 C dX10_holds_34 gx17 (by decide) (by rw [e40]; rfl) (by decide) ?_
    refine z_aload_n C dX10_holds_182 0 rfl ?_
    refine z_iload_n C dX10_holds_183 2 rfl ?_
    obtain ⟨k41, h⟩ := gK_inv h
    obtain ⟨r42, hr42, h⟩ := bnd h
    refine y_cVi (st := []) C dX10_holds_184 mX10_253 k41 (tX10_topOf hC o0 v2 gv2 hr42) rfl rfl (Nat.le_of_ble_eq_true rfl) (by omega) (fun gr42 => ?_)
    refine z_iload C dX10_holds_187 4 rfl ?_
    refine z_icmp_ne 196 C dX10_holds_189 (by decide) gr42 gx13 (fun e43 => ?_) (fun e43 => ?_)
    ·
      have h := (if_neg e43).symm.trans h
      refine z_iconst C dX10_holds_196 ?_
      exact y_zretP C dX10_holds_197 h (by decide)
    ·
      have h := (if_pos e43).symm.trans h
      refine z_iconst C dX10_holds_192 ?_
      refine z_goto 197 C dX10_holds_193 (by decide) ?_
      exact y_zretP C dX10_holds_197 h (by decide)
  have h := (if_neg e40).symm.trans h
  by_cases e44 : x17 = 63
  ·
    have h := (if_pos e44).symm.trans h
    refine z_lookup (off := 164) 198 C dX10_holds_34 gx17 (by decide) (by rw [e44]; rfl) (by decide) ?_
    refine z_aload_n C dX10_holds_198 0 rfl ?_
    refine z_iload_n C dX10_holds_199 2 rfl ?_
    refine z_iload C dX10_holds_200 4 rfl ?_
    obtain ⟨k45, h⟩ := gK_inv h
    obtain ⟨r46, hr46, h⟩ := bnd h
    refine y_cVb (st := []) C dX10_holds_202 mX10_401 k45 (tX10_shows hC o0 v2 x13 gv2 gx13 hr46) rfl rfl (Nat.le_of_ble_eq_true rfl) (by omega) (fun br46 => ?_)
    exact y_zretP C dX10_holds_205 h br46
  have h := (if_neg e44).symm.trans h
  by_cases e47 : x17 = 64
  ·
    have h := (if_pos e47).symm.trans h
    refine z_lookup (off := 172) 206 C dX10_holds_34 gx17 (by decide) (by rw [e47]; rfl) (by decide) ?_
    refine z_aload_n C dX10_holds_206 0 rfl ?_
    refine z_iload_n C dX10_holds_207 2 rfl ?_
    refine z_iconst C dX10_holds_208 ?_
    obtain ⟨k48, h⟩ := gK_inv h
    obtain ⟨r49, hr49, h⟩ := bnd h
    refine y_cVi (st := []) C dX10_holds_209 mX10_256 k48 (tX10_ofCoin hC o0 v2 1 gv2 (by decide) hr49) rfl rfl (Nat.le_of_ble_eq_true rfl) (by omega) (fun gr49 => ?_)
    refine z_iload C dX10_holds_212 4 rfl ?_
    refine z_icmp_ne 221 C dX10_holds_214 (by decide) gr49 gx13 (fun e50 => ?_) (fun e50 => ?_)
    ·
      have h := (if_neg e50).symm.trans h
      refine z_iconst C dX10_holds_221 ?_
      exact y_zretP C dX10_holds_222 h (by decide)
    ·
      have h := (if_pos e50).symm.trans h
      refine z_iconst C dX10_holds_217 ?_
      refine z_goto 222 C dX10_holds_218 (by decide) ?_
      exact y_zretP C dX10_holds_222 h (by decide)
  have h := (if_neg e47).symm.trans h
  refine z_lookup (off := 189) 223 C dX10_holds_34 gx17 (by decide) (by show Op.lookupswitch.offset [(1, 66), (2, 82), (3, 108), (4, 134), (62, 148), (63, 164), (64, 172)] _ _ = _; rw [Op.lookupswitch.offset_cons, if_neg (fun q => e18 q.symm), Op.lookupswitch.offset_cons, if_neg (fun q => e22 q.symm), Op.lookupswitch.offset_cons, if_neg (fun q => e29 q.symm), Op.lookupswitch.offset_cons, if_neg (fun q => e36 q.symm), Op.lookupswitch.offset_cons, if_neg (fun q => e40 q.symm), Op.lookupswitch.offset_cons, if_neg (fun q => e44 q.symm), Op.lookupswitch.offset_cons, if_neg (fun q => e47 q.symm), Op.lookupswitch.offset_nil]) (by decide) ?_
  refine z_aload_n C dX10_holds_223 0 rfl ?_
  obtain ⟨on51, hon51, h⟩ := bnd h
  refine y_getR C dX10_holds_224 fX10_13 rfl hon51 ?_
  refine z_iload_n C dX10_holds_227 3 rfl ?_
  obtain ⟨x52, hx52, h⟩ := bnd h
  refine y_iald C dX10_holds_228 hx52 (fun gx52 => ?_)
  refine z_bipush C dX10_holds_229 (by decide) ?_
  refine y_isub C dX10_holds_231 ?_
  refine z_istore (lv' := [(0, .ref (G.2.2 + o0)), (1, .int (iv v1)), (2, .int (iv v2)), (3, .int (iv (w32 (7900 + (w32 (4 * v1)))))), (4, .int (iv x13)), (5, .int (iv x15)), (6, .int (iv (w32 (x52 - 50))))]) C dX10_holds_232 (by decide) [1, 2, 3, 4, 5, 6, 0] rfl ?_
  refine z_aload_n C dX10_holds_234 0 rfl ?_
  refine z_iload_n C dX10_holds_235 2 rfl ?_
  refine z_iload C dX10_holds_236 6 rfl ?_
  refine z_bipush C dX10_holds_238 (by decide) ?_
  refine z_icmp_ne 247 C dX10_holds_240 (by decide) (w32_rng _) (by decide) (fun e53 => ?_) (fun e53 => ?_)
  ·
    have h := (if_neg e53).symm.trans h
    refine z_iload C dX10_holds_247 6 rfl ?_
    refine z_bipush C dX10_holds_249 (by decide) ?_
    refine z_icmp_ne 258 C dX10_holds_251 (by decide) (w32_rng _) (by decide) (fun e54 => ?_) (fun e54 => ?_)
    ·
      have h := (if_neg e54).symm.trans h
      refine z_iconst C dX10_holds_258 ?_
      refine z_drop (lv' := [(0, .ref (G.2.2 + o0)), (3, .int (iv (w32 (7900 + (w32 (4 * v1)))))), (5, .int (iv x15))]) [0, 3, 5] rfl ?_
      exact hb259 o0 (w32 (7900 + (w32 (4 * v1)))) x15 o0 v2 2  (w32_rng _) gx15 gv2 (by decide) h
    ·
      have h := (if_pos e54).symm.trans h
      refine z_iconst C dX10_holds_254 ?_
      refine z_goto 259 C dX10_holds_255 (by decide) ?_
      refine z_drop (lv' := [(0, .ref (G.2.2 + o0)), (3, .int (iv (w32 (7900 + (w32 (4 * v1)))))), (5, .int (iv x15))]) [0, 3, 5] rfl ?_
      exact hb259 o0 (w32 (7900 + (w32 (4 * v1)))) x15 o0 v2 3  (w32_rng _) gx15 gv2 (by decide) h
  ·
    have h := (if_pos e53).symm.trans h
    refine z_iconst C dX10_holds_243 ?_
    refine z_goto 259 C dX10_holds_244 (by decide) ?_
    refine z_drop (lv' := [(0, .ref (G.2.2 + o0)), (3, .int (iv (w32 (7900 + (w32 (4 * v1)))))), (5, .int (iv x15))]) [0, 3, 5] rfl ?_
    exact hb259 o0 (w32 (7900 + (w32 (4 * v1)))) x15 o0 v2 0  (w32_rng _) gx15 gv2 (by decide) h

theorem tX10_holds {G : Gx} {σ : State} (hC : Cy G σ) (n : Nat) : ∀ (o0 : Nat) (v1 : Int) (v2 : Int) {M : Mm}, rg v1 → rg v2 → ∀ {R : Int}, uX10_holds n o0 v1 v2 M = some R → Ct G σ (13 * n) yX10_holds cX10_holds 8 (some .boolean) [.ref (G.2.2 + o0), .int (iv v1), .int (iv v2)] M 0 0 (Qb R M) := by
  induction n with
  | zero => intro o0 v1 v2 M gv1 gv2 R h; cases h
  | succ n ih =>
    intro o0 v1 v2 M gv1 gv2 R h
    have := tX10_holds_o hC (13 * n) (uX10_holds n) ih o0 v1 v2 gv1 gv2 h
    rw [show 13 * (n + 1) = 13 * n + 13 from by omega]; exact this
