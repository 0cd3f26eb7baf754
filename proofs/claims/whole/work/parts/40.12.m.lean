set_option maxHeartbeats 4000000 in
set_option maxRecDepth 100000 in
theorem tX0_find {G : Gx} {σ : State} (hC : Cy G σ) (o0 : Nat) (o1 : Nat) (v2 : Int) (v3 : Int) (v4 : Int) (v5 : Int) {M0 : Mm} (gv2 : rg v2) (gv3 : rg v3) (gv4 : rg v4) (gv5 : rg v5) {R : Int × Mm} (h : uX0_find o0 o1 v2 v3 v4 v5 M0 = some R) : Ct G σ (211) yX0_find cX0_find 9 (some .int) [.ref (G.2.2 + o0), .ref (G.2.2 + o1), .int (iv v2), .int (iv v3), .int (iv v4), .int (iv v5)] M0 0 0 (Qi R.1 R.2) := by
  refine Ct.of hC.1 (by decide +kernel) (Nat.le_of_ble_eq_true rfl) ?_
  intro p l e R0 s m args below meth c C
  show Jz G σ p l e R0 s m args below meth c 9 0 0 (Qi R.1 R.2) M0 0 0 0 [(0, .ref (G.2.2 + o0)), (1, .ref (G.2.2 + o1)), (2, .int (iv v2)), (3, .int (iv v3)), (4, .int (iv v4)), (5, .int (iv v5))] []
  have hb83 : ∀ (o0 : Nat) (v5 : Int) (M : Mm), (rg v5) → uX0_find_b83 o0 v5 M = some R → Jz G σ p l e R0 s m args below meth c 9 0 0 (Qi R.1 R.2) M 0 0 83 [(0, .ref (G.2.2 + o0)), (5, .int (iv v5))] [] := by
    intro o0 v5 M gv5 h
    unfold uX0_find_b83 at h
    refine z_aload_n C dX0_find_83 0 rfl ?_
    obtain ⟨k1, h⟩ := gK_inv h
    obtain ⟨M2, hM2, h⟩ := bnd h
    refine y_cVv (st := []) C dX0_find_84 mX0_65 k1 (tX0_sumWorth hC o0  hM2) rfl rfl (Nat.le_of_ble_eq_true rfl) (by decide) ?_
    refine z_aload_n C dX0_find_87 0 rfl ?_
    refine z_iconst C dX0_find_88 ?_
    obtain ⟨M3, hM3, h⟩ := bnd h
    refine y_putI C dX0_find_89 fX0_68 rfl rfl rfl rfl hM3 ?_
    refine z_aload_n C dX0_find_92 0 rfl ?_
    refine z_iconst C dX0_find_93 ?_
    refine z_iconst C dX0_find_94 ?_
    refine z_iconst C dX0_find_95 ?_
    refine z_iload C dX0_find_96 1 rfl ?_
    obtain ⟨k4, h⟩ := gK_inv h
    obtain ⟨M5, hM5, h⟩ := bnd h
    refine y_cVv (st := []) C dX0_find_98 mX0_71 k4 (tX0_seekCheapest hC 16 o0 0 0 0 v5 (by decide) (by decide) (by decide) gv5 hM5) rfl rfl (Nat.le_of_ble_eq_true rfl) (by omega) ?_
    refine z_aload_n C dX0_find_101 0 rfl ?_
    obtain ⟨x6, hx6, h⟩ := bnd h
    refine y_getI C dX0_find_102 fX0_68 rfl hx6 (fun gx6 => ?_)
    refine z_iconst C dX0_find_105 ?_
    refine z_icmp_eq 115 C dX0_find_106 (by decide) gx6 (by decide) (fun e7 => ?_) (fun e7 => ?_)
    ·
      have h := (if_pos e7).symm.trans h
      refine z_aload_n C dX0_find_115 0 rfl ?_
      obtain ⟨x8, hx8, h⟩ := bnd h
      refine y_getI C dX0_find_116 fX0_68 rfl hx8 (fun gx8 => ?_)
      exact y_iretB C dX0_find_119 h gx8
    ·
      have h := (if_neg e7).symm.trans h
      refine z_aload_n C dX0_find_109 0 rfl ?_
      refine z_iload C dX0_find_110 1 rfl ?_
      obtain ⟨k9, h⟩ := gK_inv h
      obtain ⟨M10, hM10, h⟩ := bnd h
      refine y_cVv (st := []) C dX0_find_112 mX0_75 k9 (tX0_chooseWays hC o0 v5 gv5 hM10) rfl rfl (Nat.le_of_ble_eq_true rfl) (by decide) ?_
      refine z_aload_n C dX0_find_115 0 rfl ?_
      obtain ⟨x11, hx11, h⟩ := bnd h
      refine y_getI C dX0_find_116 fX0_68 rfl hx11 (fun gx11 => ?_)
      exact y_iretB C dX0_find_119 h gx11
  have hb30 : ∀ (o0 : Nat) (o1 : Nat) (v3 : Int) (v4 : Int) (v5 : Int) (v6 : Int) (v7 : Int) (v8 : Int) (M : Mm), (rg v3) → (rg v4) → (rg v5) → (rg v6) → (rg v7) → (rg v8) → uX0_find_b30 o0 o1 v3 v4 v5 v6 v7 v8 M = some R → Jz G σ p l e R0 s m args below meth c 9 0 0 (Qi R.1 R.2) M 0 0 30 [(0, .ref (G.2.2 + o0)), (1, .ref (G.2.2 + o1)), (3, .int (iv v3)), (4, .int (iv v4)), (5, .int (iv v5)), (6, .int (iv v6)), (7, .int (iv v7)), (8, .int (iv v8))] [] := by
    intro o0 o1 v3 v4 v5 v6 v7 v8 M gv3 gv4 gv5 gv6 gv7 gv8 h
    unfold uX0_find_b30 at h
    obtain ⟨b30, hb30_, hc30⟩ := bnd h
    have hL30 : ∀ (n : Nat) (v8 : Int) (M : Mm), (rg v8) → lp (uX0_find_f30 o0 o1 v3 v4 v5 v6 v7) n (v8, M) = some b30 → Jz G σ p l e R0 s m args below meth c 9 0 0 (Qi R.1 R.2) M 0 0 30 [(0, .ref (G.2.2 + o0)), (1, .ref (G.2.2 + o1)), (3, .int (iv v3)), (4, .int (iv v4)), (5, .int (iv v5)), (6, .int (iv v6)), (7, .int (iv v7)), (8, .int (iv v8))] [] := by
      intro n; induction n with
      | zero => intro v8 M gv8 hq; exact (lp_0 hq).elim
      | succ n30 ih30 =>
        intro v8 M gv8 hq
        obtain ⟨z30, h, hZ30⟩ := lp_s hq
        have h : uX0_find_s30 o0 o1 v3 v4 v5 v6 v7 v8 M = some z30 := h
        unfold uX0_find_s30 at h
        refine z_iload C dX0_find_30 7 rfl ?_
        refine z_aload_n C dX0_find_32 0 rfl ?_
        obtain ⟨x12, hx12, h⟩ := bnd h
        refine y_getI C dX0_find_33 fX0_51 rfl hx12 (fun gx12 => ?_)
        refine z_icmp_ge 83 C dX0_find_36 (by decide) gv8 gx12 (fun e13 => ?_) (fun e13 => ?_)
        ·
          have h := (if_pos e13).symm.trans h
          have h : uX0_find_b83 o0 v5 M = some R := lp_ex (K := (uX0_find_c30 o0 o1 v3 v4 v5 v6 v7)) h hZ30 hc30
          refine z_drop (lv' := [(0, .ref (G.2.2 + o0)), (5, .int (iv v5))]) [0, 4] rfl ?_
          exact hb83 o0 v5 M gv5 h
        ·
          have h := (if_neg e13).symm.trans h
          refine z_aload_n C dX0_find_39 0 rfl ?_
          obtain ⟨on14, hon14, h⟩ := bnd h
          refine y_getR C dX0_find_40 fX0_15 rfl hon14 ?_
          refine z_iload C dX0_find_43 7 rfl ?_
          refine z_iconst C dX0_find_45 ?_
          obtain ⟨M15, hM15, h⟩ := bnd h
          refine y_iast C dX0_find_46 hM15 ?_
          refine z_aload_n C dX0_find_47 0 rfl ?_
          refine z_aload_n C dX0_find_48 1 rfl ?_
          refine z_iload C dX0_find_49 7 rfl ?_
          refine z_iload_n C dX0_find_51 2 rfl ?_
          refine z_iload C dX0_find_52 3 rfl ?_
          refine z_iload C dX0_find_54 5 rfl ?_
          obtain ⟨k16, h⟩ := gK_inv h
          obtain ⟨M17, hM17, h⟩ := bnd h
          refine y_cVv (st := []) C dX0_find_56 mX0_54 k16 (tX0_appraiseGiven hC o0 o1 v8 v3 v4 v6 gv8 gv3 gv4 gv6 hM17) rfl rfl (Nat.le_of_ble_eq_true rfl) (by decide) ?_
          refine z_aload_n C dX0_find_59 0 rfl ?_
          refine z_aload_n C dX0_find_60 1 rfl ?_
          refine z_iload C dX0_find_61 7 rfl ?_
          refine z_iload C dX0_find_63 3 rfl ?_
          refine z_iload C dX0_find_65 6 rfl ?_
          obtain ⟨k18, h⟩ := gK_inv h
          obtain ⟨M19, hM19, h⟩ := bnd h
          refine y_cVv (st := []) C dX0_find_67 mX0_58 k18 (tX0_appraiseStruck hC o0 o1 v8 v4 v7 gv8 gv4 gv7 hM19) rfl rfl (Nat.le_of_ble_eq_true rfl) (by decide) ?_
          refine z_aload_n C dX0_find_70 0 rfl ?_
          refine z_aload_n C dX0_find_71 1 rfl ?_
          refine z_iload C dX0_find_72 7 rfl ?_
          obtain ⟨k20, h⟩ := gK_inv h
          obtain ⟨M21, hM21, h⟩ := bnd h
          refine y_cVv (st := []) C dX0_find_74 mX0_62 k20 (tX0_noteUsable hC o0 o1 v8 gv8 hM21) rfl rfl (Nat.le_of_ble_eq_true rfl) (by decide) ?_
          refine y_iinc (lv' := [(0, .ref (G.2.2 + o0)), (1, .ref (G.2.2 + o1)), (3, .int (iv v3)), (4, .int (iv v4)), (5, .int (iv v5)), (6, .int (iv v6)), (7, .int (iv v7)), (8, .int (iv (w32 (v8 + 1))))]) C dX0_find_77 7 rfl (by decide) [1, 2, 3, 4, 5, 6, 7, 0] rfl ?_
          refine z_goto 30 C dX0_find_80 (by decide) ?_
          exact ih30 (w32 (v8 + 1)) M21 (w32_rng _) (lp_back h hZ30)
    exact hL30 _ v8 M gv8 hb30_
  unfold uX0_find at h
  refine z_aload_n C dX0_find_0 0 rfl ?_
  refine z_aload_n C dX0_find_1 1 rfl ?_
  refine z_iload_n C dX0_find_2 2 rfl ?_
  obtain ⟨k22, h⟩ := gK_inv h
  obtain ⟨M23, hM23, h⟩ := bnd h
  refine y_cVv (st := []) C dX0_find_3 mX0_33 k22 (tX0_lookAt hC o0 o1 v2 gv2 hM23) rfl rfl (Nat.le_of_ble_eq_true rfl) (by decide) ?_
  refine z_aload_n C dX0_find_6 0 rfl ?_
  refine z_iconst C dX0_find_7 ?_
  obtain ⟨M24, hM24, h⟩ := bnd h
  refine y_putI C dX0_find_8 fX0_37 rfl rfl rfl rfl hM24 ?_
  refine z_aload_n C dX0_find_11 1 rfl ?_
  obtain ⟨k25, h⟩ := gK_inv h
  obtain ⟨r26, hr26, h⟩ := bnd h
  refine y_cVi (st := []) C dX0_find_12 mX0_41 k25 (tX8_luckNow hC o1  hr26) rfl rfl (Nat.le_of_ble_eq_true rfl) (by decide) (fun gr26 => ?_)
  refine z_istore (lv' := [(0, .ref (G.2.2 + o0)), (1, .ref (G.2.2 + o1)), (2, .int (iv v2)), (3, .int (iv v3)), (4, .int (iv v4)), (5, .int (iv v5)), (6, .int (iv r26))]) C dX0_find_15 (by decide) [1, 2, 3, 4, 5, 6, 0] rfl ?_
  refine z_aload_n C dX0_find_17 1 rfl ?_
  refine z_iload_n C dX0_find_18 3 rfl ?_
  refine z_iload_n C dX0_find_19 2 rfl ?_
  refine z_iload C dX0_find_20 6 rfl ?_
  obtain ⟨k27, h⟩ := gK_inv h
  obtain ⟨r28, hr28, h⟩ := bnd h
  refine y_cVi (st := []) C dX0_find_22 mX0_47 k27 (tX8_hundredths hC o1 v3 v2 r26 gv3 gv2 gr26 hr28) rfl rfl (Nat.le_of_ble_eq_true rfl) (by decide) (fun gr28 => ?_)
  refine z_istore (lv' := [(0, .ref (G.2.2 + o0)), (1, .ref (G.2.2 + o1)), (2, .int (iv v2)), (3, .int (iv v3)), (4, .int (iv v4)), (5, .int (iv v5)), (6, .int (iv r26)), (7, .int (iv r28))]) C dX0_find_25 (by decide) [1, 2, 3, 4, 5, 6, 7, 0] rfl ?_
  refine z_iconst C dX0_find_27 ?_
  refine z_istore (lv' := [(0, .ref (G.2.2 + o0)), (1, .ref (G.2.2 + o1)), (2, .int (iv v2)), (3, .int (iv v3)), (4, .int (iv v4)), (5, .int (iv v5)), (6, .int (iv r26)), (7, .int (iv r28)), (8, .int (iv 0))]) C dX0_find_28 (by decide) [1, 2, 3, 4, 5, 6, 7, 8, 0] rfl ?_
  refine z_drop (lv' := [(0, .ref (G.2.2 + o0)), (1, .ref (G.2.2 + o1)), (3, .int (iv v3)), (4, .int (iv v4)), (5, .int (iv v5)), (6, .int (iv r26)), (7, .int (iv r28)), (8, .int (iv 0))]) [0, 1, 3, 4, 5, 6, 7, 8] rfl ?_
  exact hb30 o0 o1 v3 v4 v5 r26 r28 0 M24 gv3 gv4 gv5 gr26 gr28 (by decide) h

set_option maxHeartbeats 4000000 in
set_option maxRecDepth 100000 in
theorem tX0_settle {G : Gx} {σ : State} (hC : Cy G σ) (o0 : Nat) (o1 : Nat) (v2 : Int) (v3 : Int) (v4 : Int) (v5 : Int) {M0 : Mm} (gv2 : rg v2) (gv3 : rg v3) (gv4 : rg v4) (gv5 : rg v5) {R : Mm} (h : uX0_settle o0 o1 v2 v3 v4 v5 M0 = some R) : Ct G σ (5) yX0_settle cX0_settle 8 none [.ref (G.2.2 + o0), .ref (G.2.2 + o1), .int (iv v2), .int (iv v3), .int (iv v4), .int (iv v5)] M0 0 0 (Qv R) := by
  refine Ct.of hC.1 (by decide +kernel) (Nat.le_of_ble_eq_true rfl) ?_
  intro p l e R0 s m args below meth c C
  show Jz G σ p l e R0 s m args below meth c 8 0 0 (Qv R) M0 0 0 0 [(0, .ref (G.2.2 + o0)), (1, .ref (G.2.2 + o1)), (2, .int (iv v2)), (3, .int (iv v3)), (4, .int (iv v4)), (5, .int (iv v5))] []
  have hb130 : ∀  (M : Mm), uX0_settle_b130 M = some R → Jz G σ p l e R0 s m args below meth c 8 0 0 (Qv R) M 0 0 130 [] [] := by
    intro  M  h
    unfold uX0_settle_b130 at h
    exact y_retV C dX0_settle_130 h
  have hb82 : ∀ (o0 : Nat) (o1 : Nat) (v3 : Int) (v4 : Int) (v6 : Int) (v7 : Int) (M : Mm), (rg v3) → (rg v4) → (rg v6) → (rg v7) → uX0_settle_b82 o0 o1 v3 v4 v6 v7 M = some R → Jz G σ p l e R0 s m args below meth c 8 0 0 (Qv R) M 0 0 82 [(0, .ref (G.2.2 + o0)), (1, .ref (G.2.2 + o1)), (3, .int (iv v3)), (4, .int (iv v4)), (6, .int (iv v6)), (7, .int (iv v7))] [] := by
    intro o0 o1 v3 v4 v6 v7 M gv3 gv4 gv6 gv7 h
    unfold uX0_settle_b82 at h
    obtain ⟨b82, hb82_, hc82⟩ := bnd h
    have hL82 : ∀ (n : Nat) (v7 : Int) (M : Mm), (rg v7) → lp (uX0_settle_f82 o0 o1 v3 v4 v6) n (v7, M) = some b82 → Jz G σ p l e R0 s m args below meth c 8 0 0 (Qv R) M 0 0 82 [(0, .ref (G.2.2 + o0)), (1, .ref (G.2.2 + o1)), (3, .int (iv v3)), (4, .int (iv v4)), (6, .int (iv v6)), (7, .int (iv v7))] [] := by
      intro n; induction n with
      | zero => intro v7 M gv7 hq; exact (lp_0 hq).elim
      | succ n82 ih82 =>
        intro v7 M gv7 hq
        obtain ⟨z82, h, hZ82⟩ := lp_s hq
        have h : uX0_settle_s82 o0 o1 v3 v4 v6 v7 M = some z82 := h
        unfold uX0_settle_s82 at h
        refine z_iload C dX0_settle_82 5 rfl ?_
        refine z_aload_n C dX0_settle_84 0 rfl ?_
        obtain ⟨x1, hx1, h⟩ := bnd h
        refine y_getI C dX0_settle_85 fX0_51 rfl hx1 (fun gx1 => ?_)
        refine z_icmp_ge 130 C dX0_settle_88 (by decide) gv7 gx1 (fun e2 => ?_) (fun e2 => ?_)
        ·
          have h := (if_pos e2).symm.trans h
          have h : uX0_settle_b130 M = some R := lp_ex (K := (uX0_settle_c82 o0 o1 v3 v4 v6)) h hZ82 hc82
          refine z_drop (lv' := []) [] rfl ?_
          exact hb130  M  h
        ·
          have h := (if_neg e2).symm.trans h
          refine z_iload C dX0_settle_91 5 rfl ?_
          refine z_bipush C dX0_settle_93 (by decide) ?_
          refine z_icmp_ge 130 C dX0_settle_95 (by decide) gv7 (by decide) (fun e3 => ?_) (fun e3 => ?_)
          ·
            have h := (if_pos e3).symm.trans h
            have h : uX0_settle_b130 M = some R := lp_ex (K := (uX0_settle_c82 o0 o1 v3 v4 v6)) h hZ82 hc82
            refine z_drop (lv' := []) [] rfl ?_
            exact hb130  M  h
          ·
            have h := (if_neg e3).symm.trans h
            refine z_aload_n C dX0_settle_98 0 rfl ?_
            obtain ⟨on4, hon4, h⟩ := bnd h
            refine y_getR C dX0_settle_99 fX0_15 rfl hon4 ?_
            refine z_iload C dX0_settle_102 5 rfl ?_
            obtain ⟨x5, hx5, h⟩ := bnd h
            refine y_iald C dX0_settle_104 hx5 (fun gx5 => ?_)
            refine z_if_eq 124 C dX0_settle_105 (by decide) gx5 (fun e6 => ?_) (fun e6 => ?_)
            ·
              have h := (if_pos e6).symm.trans h
              refine y_iinc (lv' := [(0, .ref (G.2.2 + o0)), (1, .ref (G.2.2 + o1)), (3, .int (iv v3)), (4, .int (iv v4)), (6, .int (iv v6)), (7, .int (iv (w32 (v7 + 1))))]) C dX0_settle_124 5 rfl (by decide) [1, 2, 3, 4, 5, 0] rfl ?_
              refine z_goto 82 C dX0_settle_127 (by decide) ?_
              exact ih82 (w32 (v7 + 1)) M (w32_rng _) (lp_back h hZ82)
            ·
              have h := (if_neg e6).symm.trans h
              refine z_aload_n C dX0_settle_108 1 rfl ?_
              refine z_aload_n C dX0_settle_109 0 rfl ?_
              obtain ⟨on7, hon7, h⟩ := bnd h
              refine y_getR C dX0_settle_110 fX0_11 rfl hon7 ?_
              refine z_iload C dX0_settle_113 5 rfl ?_
              obtain ⟨x8, hx8, h⟩ := bnd h
              refine y_iald C dX0_settle_115 hx8 (fun gx8 => ?_)
              refine z_iload_n C dX0_settle_116 2 rfl ?_
              refine z_iload C dX0_settle_117 3 rfl ?_
              refine z_iload C dX0_settle_119 4 rfl ?_
              obtain ⟨k9, h⟩ := gK_inv h
              obtain ⟨M10, hM10, h⟩ := bnd h
              refine y_cVv (st := []) C dX0_settle_121 mX0_154 k9 (tX8_handOver hC o1 x8 v3 v4 v6 gx8 gv3 gv4 gv6 hM10) rfl rfl (Nat.le_of_ble_eq_true rfl) (by decide) ?_
              refine y_iinc (lv' := [(0, .ref (G.2.2 + o0)), (1, .ref (G.2.2 + o1)), (3, .int (iv v3)), (4, .int (iv v4)), (6, .int (iv v6)), (7, .int (iv (w32 (v7 + 1))))]) C dX0_settle_124 5 rfl (by decide) [1, 2, 3, 4, 5, 0] rfl ?_
              refine z_goto 82 C dX0_settle_127 (by decide) ?_
              exact ih82 (w32 (v7 + 1)) M10 (w32_rng _) (lp_back h hZ82)
    exact hL82 _ v7 M gv7 hb82_
  have hb59 : ∀ (o0 : Nat) (o1 : Nat) (v2 : Int) (v3 : Int) (v4 : Int) (v5 : Int) (M : Mm), (rg v2) → (rg v3) → (rg v4) → (rg v5) → uX0_settle_b59 o0 o1 v2 v3 v4 v5 M = some R → Jz G σ p l e R0 s m args below meth c 8 0 0 (Qv R) M 0 0 59 [(0, .ref (G.2.2 + o0)), (1, .ref (G.2.2 + o1)), (2, .int (iv v2)), (3, .int (iv v3)), (4, .int (iv v4)), (5, .int (iv v5))] [] := by
    intro o0 o1 v2 v3 v4 v5 M gv2 gv3 gv4 gv5 h
    unfold uX0_settle_b59 at h
    refine z_aload_n C dX0_settle_59 1 rfl ?_
    refine z_iload_n C dX0_settle_60 2 rfl ?_
    refine z_iload_n C dX0_settle_61 3 rfl ?_
    refine z_iload C dX0_settle_62 4 rfl ?_
    refine z_iload C dX0_settle_64 5 rfl ?_
    refine z_aload_n C dX0_settle_66 0 rfl ?_
    obtain ⟨x11, hx11, h⟩ := bnd h
    refine y_getI C dX0_settle_67 fX0_129 rfl hx11 (fun gx11 => ?_)
    refine z_aload_n C dX0_settle_70 0 rfl ?_
    obtain ⟨x12, hx12, h⟩ := bnd h
    refine y_getI C dX0_settle_71 fX0_139 rfl hx12 (fun gx12 => ?_)
    obtain ⟨k13, h⟩ := gK_inv h
    obtain ⟨r14, M15, hr14, h⟩ := bnd2 h
    refine y_cVi (st := []) C dX0_settle_74 mX0_150 k13 (tX8_recordSale hC o1 v2 v3 v4 v5 x11 x12 gv2 gv3 gv4 gv5 gx11 gx12 hr14) rfl rfl (Nat.le_of_ble_eq_true rfl) (by decide) (fun gr14 => ?_)
    refine z_istore (lv' := [(0, .ref (G.2.2 + o0)), (1, .ref (G.2.2 + o1)), (2, .int (iv v2)), (3, .int (iv v3)), (4, .int (iv v4)), (5, .int (iv v5)), (6, .int (iv r14))]) C dX0_settle_77 (by decide) [1, 2, 3, 4, 5, 6, 0] rfl ?_
    refine z_iconst C dX0_settle_79 ?_
    refine z_istore (lv' := [(0, .ref (G.2.2 + o0)), (1, .ref (G.2.2 + o1)), (2, .int (iv v2)), (3, .int (iv v3)), (4, .int (iv v4)), (5, .int (iv v5)), (6, .int (iv r14)), (7, .int (iv 0))]) C dX0_settle_80 (by decide) [1, 2, 3, 4, 5, 6, 7, 0] rfl ?_
    refine z_drop (lv' := [(0, .ref (G.2.2 + o0)), (1, .ref (G.2.2 + o1)), (3, .int (iv v3)), (4, .int (iv v4)), (6, .int (iv r14)), (7, .int (iv 0))]) [0, 1, 3, 4, 6, 7] rfl ?_
    exact hb82 o0 o1 v3 v4 r14 0 M15 gv3 gv4 gr14 (by decide) h
  have hb3 : ∀ (o0 : Nat) (o1 : Nat) (v2 : Int) (v3 : Int) (v4 : Int) (v5 : Int) (v6 : Int) (M : Mm), (rg v2) → (rg v3) → (rg v4) → (rg v5) → (rg v6) → uX0_settle_b3 o0 o1 v2 v3 v4 v5 v6 M = some R → Jz G σ p l e R0 s m args below meth c 8 0 0 (Qv R) M 0 0 3 [(0, .ref (G.2.2 + o0)), (1, .ref (G.2.2 + o1)), (2, .int (iv v2)), (3, .int (iv v3)), (4, .int (iv v4)), (5, .int (iv v5)), (6, .int (iv v6))] [] := by
    intro o0 o1 v2 v3 v4 v5 v6 M gv2 gv3 gv4 gv5 gv6 h
    unfold uX0_settle_b3 at h
    obtain ⟨b3, hb3_, hc3⟩ := bnd h
    have hL3 : ∀ (n : Nat) (v6 : Int) (M : Mm), (rg v6) → lp (uX0_settle_f3 o0 o1 v2 v3 v4 v5) n (v6, M) = some b3 → Jz G σ p l e R0 s m args below meth c 8 0 0 (Qv R) M 0 0 3 [(0, .ref (G.2.2 + o0)), (1, .ref (G.2.2 + o1)), (2, .int (iv v2)), (3, .int (iv v3)), (4, .int (iv v4)), (5, .int (iv v5)), (6, .int (iv v6))] [] := by
      intro n; induction n with
      | zero => intro v6 M gv6 hq; exact (lp_0 hq).elim
      | succ n3 ih3 =>
        intro v6 M gv6 hq
        obtain ⟨z3, h, hZ3⟩ := lp_s hq
        have h : uX0_settle_s3 o0 o1 v2 v3 v4 v5 v6 M = some z3 := h
        unfold uX0_settle_s3 at h
        refine z_iload C dX0_settle_3 6 rfl ?_
        refine z_aload_n C dX0_settle_5 0 rfl ?_
        obtain ⟨x16, hx16, h⟩ := bnd h
        refine y_getI C dX0_settle_6 fX0_51 rfl hx16 (fun gx16 => ?_)
        refine z_icmp_ge 59 C dX0_settle_9 (by decide) gv6 gx16 (fun e17 => ?_) (fun e17 => ?_)
        ·
          have h := (if_pos e17).symm.trans h
          have h : uX0_settle_b59 o0 o1 v2 v3 v4 v5 M = some R := lp_ex (K := (uX0_settle_c3 o0 o1 v2 v3 v4 v5)) h hZ3 hc3
          refine z_drop (lv' := [(0, .ref (G.2.2 + o0)), (1, .ref (G.2.2 + o1)), (2, .int (iv v2)), (3, .int (iv v3)), (4, .int (iv v4)), (5, .int (iv v5))]) [0, 1, 2, 3, 4, 5] rfl ?_
          exact hb59 o0 o1 v2 v3 v4 v5 M gv2 gv3 gv4 gv5 h
        ·
          have h := (if_neg e17).symm.trans h
          refine z_iload C dX0_settle_12 6 rfl ?_
          refine z_bipush C dX0_settle_14 (by decide) ?_
          refine z_icmp_ge 59 C dX0_settle_16 (by decide) gv6 (by decide) (fun e18 => ?_) (fun e18 => ?_)
          ·
            have h := (if_pos e18).symm.trans h
            have h : uX0_settle_b59 o0 o1 v2 v3 v4 v5 M = some R := lp_ex (K := (uX0_settle_c3 o0 o1 v2 v3 v4 v5)) h hZ3 hc3
            refine z_drop (lv' := [(0, .ref (G.2.2 + o0)), (1, .ref (G.2.2 + o1)), (2, .int (iv v2)), (3, .int (iv v3)), (4, .int (iv v4)), (5, .int (iv v5))]) [0, 1, 2, 3, 4, 5] rfl ?_
            exact hb59 o0 o1 v2 v3 v4 v5 M gv2 gv3 gv4 gv5 h
          ·
            have h := (if_neg e18).symm.trans h
            refine z_aload_n C dX0_settle_19 0 rfl ?_
            obtain ⟨on19, hon19, h⟩ := bnd h
            refine y_getR C dX0_settle_20 fX0_15 rfl hon19 ?_
            refine z_iload C dX0_settle_23 6 rfl ?_
            obtain ⟨x20, hx20, h⟩ := bnd h
            refine y_iald C dX0_settle_25 hx20 (fun gx20 => ?_)
            refine z_iconst C dX0_settle_26 ?_
            refine z_icmp_lt 53 C dX0_settle_27 (by decide) gx20 (by decide) (fun e21 => ?_) (fun e21 => ?_)
            ·
              have h := (if_pos e21).symm.trans h
              refine y_iinc (lv' := [(0, .ref (G.2.2 + o0)), (1, .ref (G.2.2 + o1)), (2, .int (iv v2)), (3, .int (iv v3)), (4, .int (iv v4)), (5, .int (iv v5)), (6, .int (iv (w32 (v6 + 1))))]) C dX0_settle_53 6 rfl (by decide) [1, 2, 3, 4, 5, 6, 0] rfl ?_
              refine z_goto 3 C dX0_settle_56 (by decide) ?_
              exact ih3 (w32 (v6 + 1)) M (w32_rng _) (lp_back h hZ3)
            ·
              have h := (if_neg e21).symm.trans h
              refine z_aload_n C dX0_settle_30 1 rfl ?_
              refine z_aload_n C dX0_settle_31 0 rfl ?_
              obtain ⟨on22, hon22, h⟩ := bnd h
              refine y_getR C dX0_settle_32 fX0_11 rfl hon22 ?_
              refine z_iload C dX0_settle_35 6 rfl ?_
              obtain ⟨x23, hx23, h⟩ := bnd h
              refine y_iald C dX0_settle_37 hx23 (fun gx23 => ?_)
              refine z_iload_n C dX0_settle_38 2 rfl ?_
              refine z_aload_n C dX0_settle_39 0 rfl ?_
              obtain ⟨on24, hon24, h⟩ := bnd h
              refine y_getR C dX0_settle_40 fX0_15 rfl hon24 ?_
              refine z_iload C dX0_settle_43 6 rfl ?_
              obtain ⟨x25, hx25, h⟩ := bnd h
              refine y_iald C dX0_settle_45 hx25 (fun gx25 => ?_)
              refine z_iconst C dX0_settle_46 ?_
              refine y_isub C dX0_settle_47 ?_
              refine z_iconst C dX0_settle_48 ?_
              refine z_iconst C dX0_settle_49 ?_
              obtain ⟨k26, h⟩ := gK_inv h
              obtain ⟨M27, hM27, h⟩ := bnd h
              refine y_cVv (st := []) C dX0_settle_50 mX0_146 k26 (tX8_strike hC o1 x23 v2 (w32 (x25 - 2)) (-1) 0 gx23 gv2 (w32_rng _) (by decide) (by decide) hM27) rfl rfl (Nat.le_of_ble_eq_true rfl) (by decide) ?_
              refine y_iinc (lv' := [(0, .ref (G.2.2 + o0)), (1, .ref (G.2.2 + o1)), (2, .int (iv v2)), (3, .int (iv v3)), (4, .int (iv v4)), (5, .int (iv v5)), (6, .int (iv (w32 (v6 + 1))))]) C dX0_settle_53 6 rfl (by decide) [1, 2, 3, 4, 5, 6, 0] rfl ?_
              refine z_goto 3 C dX0_settle_56 (by decide) ?_
              exact ih3 (w32 (v6 + 1)) M27 (w32_rng _) (lp_back h hZ3)
    exact hL3 _ v6 M gv6 hb3_
  unfold uX0_settle at h
  refine z_iconst C dX0_settle_0 ?_
  refine z_istore (lv' := [(0, .ref (G.2.2 + o0)), (1, .ref (G.2.2 + o1)), (2, .int (iv v2)), (3, .int (iv v3)), (4, .int (iv v4)), (5, .int (iv v5)), (6, .int (iv 0))]) C dX0_settle_1 (by decide) [1, 2, 3, 4, 5, 6, 0] rfl ?_
  exact hb3 o0 o1 v2 v3 v4 v5 0 M0 gv2 gv3 gv4 gv5 (by decide) h

set_option maxHeartbeats 4000000 in
set_option maxRecDepth 100000 in
theorem tX3_readLine {G : Gx} {σ : State} (hC : Cy G σ) (o0 : Nat) (o1 : Nat) {M0 : Mm}  {R : Int × Mm} (h : uX3_readLine o0 o1 M0 = some R) : Ct G σ (12) yX3_readLine cX3_readLine 2 (some .int) [.ref (G.2.2 + o0), .ref (G.2.2 + o1)] M0 0 0 (Qi R.1 R.2) := by
  refine Ct.of hC.1 (by decide +kernel) (Nat.le_of_ble_eq_true rfl) ?_
  intro p l e R0 s m args below meth c C
  show Jz G σ p l e R0 s m args below meth c 2 0 0 (Qi R.1 R.2) M0 0 0 0 [(0, .ref (G.2.2 + o0)), (1, .ref (G.2.2 + o1))] []
  unfold uX3_readLine at h
  refine z_aload_n C dX3_readLine_0 1 rfl ?_
  obtain ⟨x1, hx1, h⟩ := bnd h
  refine y_getI C dX3_readLine_1 fX3_69 rfl hx1 (fun gx1 => ?_)
  by_cases e2 : x1 = 10
  ·
    have h := (if_pos e2).symm.trans h
    refine z_tableIn (off := 36) 40 C dX3_readLine_4 gx1 (by omega) (by omega) (by rw [e2]; rfl) (by decide) ?_
    refine z_aload_n C dX3_readLine_40 0 rfl ?_
    refine z_aload_n C dX3_readLine_41 1 rfl ?_
    obtain ⟨k3, h⟩ := gK_inv h
    obtain ⟨r4, M5, hr4, h⟩ := bnd2 h
    refine y_cVi (st := []) C dX3_readLine_42 mX3_76 k3 (tX3_readWho hC o0 o1  hr4) rfl rfl (Nat.le_of_ble_eq_true rfl) (by decide) (fun gr4 => ?_)
    exact y_iretB C dX3_readLine_45 h gr4
  have h := (if_neg e2).symm.trans h
  by_cases e6 : x1 = 11
  ·
    have h := (if_pos e6).symm.trans h
    refine z_tableIn (off := 54) 58 C dX3_readLine_4 gx1 (by omega) (by omega) (by rw [e6]; rfl) (by decide) ?_
    refine z_aload_n C dX3_readLine_58 0 rfl ?_
    refine z_aload_n C dX3_readLine_59 1 rfl ?_
    obtain ⟨k7, h⟩ := gK_inv h
    obtain ⟨r8, M9, hr8, h⟩ := bnd2 h
    refine y_cVi (st := []) C dX3_readLine_60 mX3_85 k7 (tX3_readSetting hC o0 o1  hr8) rfl rfl (Nat.le_of_ble_eq_true rfl) (by decide) (fun gr8 => ?_)
    exact y_iretB C dX3_readLine_63 h gr8
  have h := (if_neg e6).symm.trans h
  by_cases e10 : x1 = 12
  ·
    have h := (if_pos e10).symm.trans h
    refine z_tableIn (off := 54) 58 C dX3_readLine_4 gx1 (by omega) (by omega) (by rw [e10]; rfl) (by decide) ?_
    refine z_aload_n C dX3_readLine_58 0 rfl ?_
    refine z_aload_n C dX3_readLine_59 1 rfl ?_
    obtain ⟨k11, h⟩ := gK_inv h
    obtain ⟨r12, M13, hr12, h⟩ := bnd2 h
    refine y_cVi (st := []) C dX3_readLine_60 mX3_85 k11 (tX3_readSetting hC o0 o1  hr12) rfl rfl (Nat.le_of_ble_eq_true rfl) (by decide) (fun gr12 => ?_)
    exact y_iretB C dX3_readLine_63 h gr12
  have h := (if_neg e10).symm.trans h
  by_cases e14 : x1 = 13
  ·
    have h := (if_pos e14).symm.trans h
    refine z_tableIn (off := 42) 46 C dX3_readLine_4 gx1 (by omega) (by omega) (by rw [e14]; rfl) (by decide) ?_
    refine z_aload_n C dX3_readLine_46 0 rfl ?_
    refine z_aload_n C dX3_readLine_47 1 rfl ?_
    obtain ⟨k15, h⟩ := gK_inv h
    obtain ⟨r16, M17, hr16, h⟩ := bnd2 h
    refine y_cVi (st := []) C dX3_readLine_48 mX3_79 k15 (tX3_readMint hC o0 o1  hr16) rfl rfl (Nat.le_of_ble_eq_true rfl) (by decide) (fun gr16 => ?_)
    exact y_iretB C dX3_readLine_51 h gr16
  have h := (if_neg e14).symm.trans h
  by_cases e18 : x1 = 14
  ·
    have h := (if_pos e18).symm.trans h
    refine z_tableIn (off := 48) 52 C dX3_readLine_4 gx1 (by omega) (by omega) (by rw [e18]; rfl) (by decide) ?_
    refine z_aload_n C dX3_readLine_52 0 rfl ?_
    refine z_aload_n C dX3_readLine_53 1 rfl ?_
    obtain ⟨k19, h⟩ := gK_inv h
    obtain ⟨r20, M21, hr20, h⟩ := bnd2 h
    refine y_cVi (st := []) C dX3_readLine_54 mX3_82 k19 (tX3_readTakes hC o0 o1  hr20) rfl rfl (Nat.le_of_ble_eq_true rfl) (by decide) (fun gr20 => ?_)
    exact y_iretB C dX3_readLine_57 h gr20
  have h := (if_neg e18).symm.trans h
  refine z_tableOut 58 C dX3_readLine_4 gx1 (by omega) (by decide) ?_
  refine z_aload_n C dX3_readLine_58 0 rfl ?_
  refine z_aload_n C dX3_readLine_59 1 rfl ?_
  obtain ⟨k22, h⟩ := gK_inv h
  obtain ⟨r23, M24, hr23, h⟩ := bnd2 h
  refine y_cVi (st := []) C dX3_readLine_60 mX3_85 k22 (tX3_readSetting hC o0 o1  hr23) rfl rfl (Nat.le_of_ble_eq_true rfl) (by decide) (fun gr23 => ?_)
  exact y_iretB C dX3_readLine_63 h gr23

set_option maxHeartbeats 4000000 in
set_option maxRecDepth 100000 in
theorem tX4_find {G : Gx} {σ : State} (hC : Cy G σ) (o0 : Nat) (o1 : Nat) (v2 : Int) (v3 : Int) (v4 : Int) {M0 : Mm} (gv2 : rg v2) (gv3 : rg v3) (gv4 : rg v4) {R : Int × Mm} (h : uX4_find o0 o1 v2 v3 v4 M0 = some R) : Ct G σ (5) yX4_find cX4_find 8 (some .int) [.ref (G.2.2 + o0), .ref (G.2.2 + o1), .int (iv v2), .int (iv v3), .int (iv v4)] M0 0 0 (Qi R.1 R.2) := by
  refine Ct.of hC.1 (by decide +kernel) (Nat.le_of_ble_eq_true rfl) ?_
  intro p l e R0 s m args below meth c C
  show Jz G σ p l e R0 s m args below meth c 8 0 0 (Qi R.1 R.2) M0 0 0 0 [(0, .ref (G.2.2 + o0)), (1, .ref (G.2.2 + o1)), (2, .int (iv v2)), (3, .int (iv v3)), (4, .int (iv v4))] []
  have hb132 : ∀ (v5 : Int) (M : Mm), (rg v5) → uX4_find_b132 v5 M = some R → Jz G σ p l e R0 s m args below meth c 8 0 0 (Qi R.1 R.2) M 0 0 132 [(5, .int (iv v5))] [] := by
    intro v5 M gv5 h
    unfold uX4_find_b132 at h
    refine z_iload C dX4_find_132 0 rfl ?_
    exact y_iretB C dX4_find_134 h gv5
  have hb80 : ∀ (o0 : Nat) (o1 : Nat) (v2 : Int) (v3 : Int) (v5 : Int) (v6 : Int) (v7 : Int) (M : Mm), (rg v2) → (rg v3) → (rg v5) → (v6 = 0 ∨ v6 = 1) → (rg v7) → uX4_find_b80 o0 o1 v2 v3 v5 v6 v7 M = some R → Jz G σ p l e R0 s m args below meth c 8 0 0 (Qi R.1 R.2) M 0 0 80 [(0, .ref (G.2.2 + o0)), (1, .ref (G.2.2 + o1)), (2, .int (iv v2)), (3, .int (iv v3)), (5, .int (iv v5)), (6, .int (iv v6)), (7, .int (iv v7))] [] := by
    intro o0 o1 v2 v3 v5 v6 v7 M gv2 gv3 gv5 bv6 gv7 h
    unfold uX4_find_b80 at h
    obtain ⟨b80, hb80_, hc80⟩ := bnd h
    have hL80 : ∀ (n : Nat) (v5 : Int) (v6 : Int) (v7 : Int) (M : Mm), (rg v5) → (v6 = 0 ∨ v6 = 1) → (rg v7) → lp (uX4_find_f80 o0 o1 v2 v3) n (v5, v6, v7, M) = some b80 → Jz G σ p l e R0 s m args below meth c 8 0 0 (Qi R.1 R.2) M 0 0 80 [(0, .ref (G.2.2 + o0)), (1, .ref (G.2.2 + o1)), (2, .int (iv v2)), (3, .int (iv v3)), (5, .int (iv v5)), (6, .int (iv v6)), (7, .int (iv v7))] [] := by
      intro n; induction n with
      | zero => intro v5 v6 v7 M gv5 bv6 gv7 hq; exact (lp_0 hq).elim
      | succ n80 ih80 =>
        intro v5 v6 v7 M gv5 bv6 gv7 hq
        obtain ⟨z80, h, hZ80⟩ := lp_s hq
        have h : uX4_find_s80 o0 o1 v2 v3 v5 v6 v7 M = some z80 := h
        have hb113 : ∀ (v5 : Int) (v7 : Int) (M : Mm), (rg v5) → (rg v7) → ∀ z80, uX4_find_b113 o0 o1 v2 v3 v5 v7 M = some z80 → lpc (uX4_find_f80 o0 o1 v2 v3) n80 z80 b80 → Jz G σ p l e R0 s m args below meth c 8 0 0 (Qi R.1 R.2) M 0 0 113 [(0, .ref (G.2.2 + o0)), (1, .ref (G.2.2 + o1)), (2, .int (iv v2)), (3, .int (iv v3)), (5, .int (iv v5)), (7, .int (iv v7))] [] := by
          intro v5 v7 M gv5 gv7 z80 h hZ80
          unfold uX4_find_b113 at h
          refine z_aload_n C dX4_find_113 0 rfl ?_
          refine z_aload_n C dX4_find_114 1 rfl ?_
          obtain ⟨on1, hon1, h⟩ := bnd h
          refine y_getR C dX4_find_115 fX4_38 rfl hon1 ?_
          obtain ⟨x2, hx2, h⟩ := bnd h
          refine y_getI C dX4_find_118 fX4_27 rfl hx2 (fun gx2 => ?_)
          obtain ⟨k3, h⟩ := gK_inv h
          obtain ⟨r4, M5, hr4, h⟩ := bnd2 h
          refine y_cVb (st := []) C dX4_find_121 mX4_55 k3 (tX4_turnRow hC o0 x2 gx2 hr4) rfl rfl (Nat.le_of_ble_eq_true rfl) (by decide) (fun br4 => ?_)
          refine z_istore (lv' := [(0, .ref (G.2.2 + o0)), (1, .ref (G.2.2 + o1)), (2, .int (iv v2)), (3, .int (iv v3)), (5, .int (iv v5)), (6, .int (iv r4)), (7, .int (iv v7))]) C dX4_find_124 (by decide) [1, 2, 3, 4, 5, 0, 6] rfl ?_
          refine y_iinc (lv' := [(0, .ref (G.2.2 + o0)), (1, .ref (G.2.2 + o1)), (2, .int (iv v2)), (3, .int (iv v3)), (5, .int (iv v5)), (6, .int (iv r4)), (7, .int (iv (w32 (v7 + 1))))]) C dX4_find_126 6 rfl (by decide) [1, 2, 3, 4, 5, 6, 0] rfl ?_
          refine z_goto 80 C dX4_find_129 (by decide) ?_
          exact ih80 v5 r4 (w32 (v7 + 1)) M5 gv5 br4 (w32_rng _) (lp_back h hZ80)
        unfold uX4_find_s80 at h
        refine z_iload C dX4_find_80 6 rfl ?_
        refine z_ldc C dX4_find_82 kX4_21 ?_
        refine z_icmp_ge 132 C dX4_find_84 (by decide) gv7 (by decide) (fun e6 => ?_) (fun e6 => ?_)
        ·
          have h := (if_pos e6).symm.trans h
          have h : uX4_find_b132 v5 M = some R := lp_ex (K := (uX4_find_c80 o0 o1 v2 v3)) h hZ80 hc80
          refine z_drop (lv' := [(5, .int (iv v5))]) [4] rfl ?_
          exact hb132 v5 M gv5 h
        ·
          have h := (if_neg e6).symm.trans h
          refine z_iload C dX4_find_87 5 rfl ?_
          refine z_if_eq 132 C dX4_find_89 (by decide) (rg01 bv6) (fun e7 => ?_) (fun e7 => ?_)
          ·
            have h := (if_pos e7).symm.trans h
            have h : uX4_find_b132 v5 M = some R := lp_ex (K := (uX4_find_c80 o0 o1 v2 v3)) h hZ80 hc80
            refine z_drop (lv' := [(5, .int (iv v5))]) [4] rfl ?_
            exact hb132 v5 M gv5 h
          ·
            have h := (if_neg e7).symm.trans h
            refine z_aload_n C dX4_find_92 0 rfl ?_
            refine z_aload_n C dX4_find_93 1 rfl ?_
            refine z_iload_n C dX4_find_94 2 rfl ?_
            refine z_iload_n C dX4_find_95 3 rfl ?_
            obtain ⟨k8, h⟩ := gK_inv h
            obtain ⟨r9, hr9, h⟩ := bnd h
            refine y_cVb (st := []) C dX4_find_96 mX4_47 k8 (tX4_fits hC o0 o1 v2 v3 gv2 gv3 hr9) rfl rfl (Nat.le_of_ble_eq_true rfl) (by decide) (fun br9 => ?_)
            refine z_if_eq 113 C dX4_find_99 (by decide) (rg01 br9) (fun e10 => ?_) (fun e10 => ?_)
            ·
              have h := (if_pos e10).symm.trans h
              refine z_drop (lv' := [(0, .ref (G.2.2 + o0)), (1, .ref (G.2.2 + o1)), (2, .int (iv v2)), (3, .int (iv v3)), (5, .int (iv v5)), (7, .int (iv v7))]) [0, 1, 2, 3, 4, 6] rfl ?_
              exact hb113 v5 v7 M gv5 gv7 _ h hZ80
            ·
              have h := (if_neg e10).symm.trans h
              refine z_iload C dX4_find_102 4 rfl ?_
              refine z_aload_n C dX4_find_104 0 rfl ?_
              refine z_aload_n C dX4_find_105 1 rfl ?_
              refine z_iload_n C dX4_find_106 2 rfl ?_
              obtain ⟨k11, h⟩ := gK_inv h
              obtain ⟨r12, M13, hr12, h⟩ := bnd2 h
              refine y_cVi (st := [.int (iv v5)]) C dX4_find_107 mX4_51 k11 (tX4_note hC o0 o1 v2 gv2 hr12) rfl rfl (Nat.le_of_ble_eq_true rfl) (by decide) (fun gr12 => ?_)
              refine y_iadd C dX4_find_110 ?_
              refine z_istore (lv' := [(0, .ref (G.2.2 + o0)), (1, .ref (G.2.2 + o1)), (2, .int (iv v2)), (3, .int (iv v3)), (5, .int (iv (w32 (v5 + r12)))), (6, .int (iv v6)), (7, .int (iv v7))]) C dX4_find_111 (by decide) [1, 2, 3, 4, 0, 5, 6] rfl ?_
              refine z_drop (lv' := [(0, .ref (G.2.2 + o0)), (1, .ref (G.2.2 + o1)), (2, .int (iv v2)), (3, .int (iv v3)), (5, .int (iv (w32 (v5 + r12)))), (7, .int (iv v7))]) [0, 1, 2, 3, 4, 6] rfl ?_
              exact hb113 (w32 (v5 + r12)) v7 M13 (w32_rng _) gv7 _ h hZ80
    exact hL80 _ v5 v6 v7 M gv5 bv6 gv7 hb80_
  have hb53 : ∀ (o0 : Nat) (o1 : Nat) (v2 : Int) (v3 : Int) (M : Mm), (rg v2) → (rg v3) → uX4_find_b53 o0 o1 v2 v3 M = some R → Jz G σ p l e R0 s m args below meth c 8 0 0 (Qi R.1 R.2) M 0 0 53 [(0, .ref (G.2.2 + o0)), (1, .ref (G.2.2 + o1)), (2, .int (iv v2)), (3, .int (iv v3))] [] := by
    intro o0 o1 v2 v3 M gv2 gv3 h
    unfold uX4_find_b53 at h
    refine z_aload_n C dX4_find_53 0 rfl ?_
    obtain ⟨x14, hx14, h⟩ := bnd h
    refine y_getI C dX4_find_54 fX4_35 rfl hx14 (fun gx14 => ?_)
    refine z_aload_n C dX4_find_57 1 rfl ?_
    obtain ⟨on15, hon15, h⟩ := bnd h
    refine y_getR C dX4_find_58 fX4_38 rfl hon15 ?_
    obtain ⟨on16, hon16, h⟩ := bnd h
    refine y_getR C dX4_find_61 fX4_44 rfl hon16 ?_
    refine z_iconst C dX4_find_64 ?_
    obtain ⟨x17, hx17, h⟩ := bnd h
    refine y_iald C dX4_find_65 hx17 (fun gx17 => ?_)
    refine z_icmp_le 71 C dX4_find_66 (by decide) gx14 gx17 (fun e18 => ?_) (fun e18 => ?_)
    ·
      have h := (if_pos e18).symm.trans h
      refine z_iconst C dX4_find_71 ?_
      refine z_istore (lv' := [(0, .ref (G.2.2 + o0)), (1, .ref (G.2.2 + o1)), (2, .int (iv v2)), (3, .int (iv v3)), (5, .int (iv 0))]) C dX4_find_72 (by decide) [1, 2, 3, 4, 0] rfl ?_
      refine z_iconst C dX4_find_74 ?_
      refine z_istore (lv' := [(0, .ref (G.2.2 + o0)), (1, .ref (G.2.2 + o1)), (2, .int (iv v2)), (3, .int (iv v3)), (5, .int (iv 0)), (6, .int (iv 1))]) C dX4_find_75 (by decide) [1, 2, 3, 4, 5, 0] rfl ?_
      refine z_iconst C dX4_find_77 ?_
      refine z_istore (lv' := [(0, .ref (G.2.2 + o0)), (1, .ref (G.2.2 + o1)), (2, .int (iv v2)), (3, .int (iv v3)), (5, .int (iv 0)), (6, .int (iv 1)), (7, .int (iv 0))]) C dX4_find_78 (by decide) [1, 2, 3, 4, 5, 6, 0] rfl ?_
      exact hb80 o0 o1 v2 v3 0 1 0 M gv2 gv3 (by decide) (by decide) (by decide) h
    ·
      have h := (if_neg e18).symm.trans h
      refine z_iconst C dX4_find_69 ?_
      exact y_iretB C dX4_find_70 h (by decide)
  have hb14 : ∀ (o0 : Nat) (o1 : Nat) (v2 : Int) (v3 : Int) (v5 : Int) (M : Mm), (rg v2) → (rg v3) → (rg v5) → uX4_find_b14 o0 o1 v2 v3 v5 M = some R → Jz G σ p l e R0 s m args below meth c 8 0 0 (Qi R.1 R.2) M 0 0 14 [(0, .ref (G.2.2 + o0)), (1, .ref (G.2.2 + o1)), (2, .int (iv v2)), (3, .int (iv v3)), (5, .int (iv v5))] [] := by
    intro o0 o1 v2 v3 v5 M gv2 gv3 gv5 h
    unfold uX4_find_b14 at h
    obtain ⟨b14, hb14_, hc14⟩ := bnd h
    have hL14 : ∀ (n : Nat) (v5 : Int) (M : Mm), (rg v5) → lp (uX4_find_f14 o0 o1 v2 v3) n (v5, M) = some b14 → Jz G σ p l e R0 s m args below meth c 8 0 0 (Qi R.1 R.2) M 0 0 14 [(0, .ref (G.2.2 + o0)), (1, .ref (G.2.2 + o1)), (2, .int (iv v2)), (3, .int (iv v3)), (5, .int (iv v5))] [] := by
      intro n; induction n with
      | zero => intro v5 M gv5 hq; exact (lp_0 hq).elim
      | succ n14 ih14 =>
        intro v5 M gv5 hq
        obtain ⟨z14, h, hZ14⟩ := lp_s hq
        have h : uX4_find_s14 o0 o1 v2 v3 v5 M = some z14 := h
        unfold uX4_find_s14 at h
        refine z_iload C dX4_find_14 4 rfl ?_
        refine z_aload_n C dX4_find_16 0 rfl ?_
        obtain ⟨x19, hx19, h⟩ := bnd h
        refine y_getI C dX4_find_17 fX4_35 rfl hx19 (fun gx19 => ?_)
        refine z_icmp_ge 53 C dX4_find_20 (by decide) gv5 gx19 (fun e20 => ?_) (fun e20 => ?_)
        ·
          have h := (if_pos e20).symm.trans h
          have h : uX4_find_b53 o0 o1 v2 v3 M = some R := lp_ex (K := (uX4_find_c14 o0 o1 v2 v3)) h hZ14 hc14
          refine z_drop (lv' := [(0, .ref (G.2.2 + o0)), (1, .ref (G.2.2 + o1)), (2, .int (iv v2)), (3, .int (iv v3))]) [0, 1, 2, 3] rfl ?_
          exact hb53 o0 o1 v2 v3 M gv2 gv3 h
        ·
          have h := (if_neg e20).symm.trans h
          refine z_aload_n C dX4_find_23 0 rfl ?_
          obtain ⟨on21, hon21, h⟩ := bnd h
          refine y_getR C dX4_find_24 fX4_9 rfl hon21 ?_
          refine z_iload C dX4_find_27 4 rfl ?_
          refine z_iconst C dX4_find_29 ?_
          obtain ⟨M22, hM22, h⟩ := bnd h
          refine y_iast C dX4_find_30 hM22 ?_
          refine z_aload_n C dX4_find_31 0 rfl ?_
          obtain ⟨on23, hon23, h⟩ := bnd h
          refine y_getR C dX4_find_32 fX4_15 rfl hon23 ?_
          refine z_iload C dX4_find_35 4 rfl ?_
          refine z_iconst C dX4_find_37 ?_
          obtain ⟨M24, hM24, h⟩ := bnd h
          refine y_iast C dX4_find_38 hM24 ?_
          refine z_aload_n C dX4_find_39 0 rfl ?_
          obtain ⟨on25, hon25, h⟩ := bnd h
          refine y_getR C dX4_find_40 fX4_18 rfl hon25 ?_
          refine z_iload C dX4_find_43 4 rfl ?_
          refine z_iconst C dX4_find_45 ?_
          obtain ⟨M26, hM26, h⟩ := bnd h
          refine y_iast C dX4_find_46 hM26 ?_
          refine y_iinc (lv' := [(0, .ref (G.2.2 + o0)), (1, .ref (G.2.2 + o1)), (2, .int (iv v2)), (3, .int (iv v3)), (5, .int (iv (w32 (v5 + 1))))]) C dX4_find_47 4 rfl (by decide) [1, 2, 3, 4, 0] rfl ?_
          refine z_goto 14 C dX4_find_50 (by decide) ?_
          exact ih14 (w32 (v5 + 1)) M26 (w32_rng _) (lp_back h hZ14)
    exact hL14 _ v5 M gv5 hb14_
  unfold uX4_find at h
  refine z_aload_n C dX4_find_0 0 rfl ?_
  refine z_iload C dX4_find_1 4 rfl ?_
  refine z_bipush C dX4_find_3 (by decide) ?_
  refine y_min C dX4_find_5 (gt_4 (i := 191) (by decide +kernel) (by decide +kernel)) gv4 (by decide) (by decide) (Nat.le_of_ble_eq_true rfl) ?_
  obtain ⟨M27, hM27, h⟩ := bnd h
  refine y_putI C dX4_find_8 fX4_35 rfl rfl rfl rfl hM27 ?_
  refine z_iconst C dX4_find_11 ?_
  refine z_istore (lv' := [(0, .ref (G.2.2 + o0)), (1, .ref (G.2.2 + o1)), (2, .int (iv v2)), (3, .int (iv v3)), (4, .int (iv v4)), (5, .int (iv 0))]) C dX4_find_12 (by decide) [1, 2, 3, 4, 5, 0] rfl ?_
  refine z_drop (lv' := [(0, .ref (G.2.2 + o0)), (1, .ref (G.2.2 + o1)), (2, .int (iv v2)), (3, .int (iv v3)), (5, .int (iv 0))]) [0, 1, 2, 3, 5] rfl ?_
  exact hb14 o0 o1 v2 v3 0 M27 gv2 gv3 (by decide) h

set_option maxHeartbeats 4000000 in
set_option maxRecDepth 100000 in
theorem tX5_stepHolds {G : Gx} {σ : State} (hC : Cy G σ) (o0 : Nat) (o1 : Nat) (v2 : Int) (v3 : Int) {M0 : Mm} (gv2 : rg v2) (gv3 : rg v3) {R : Int} (h : uX5_stepHolds o0 o1 v2 v3 M0 = some R) : Ct G σ (5) yX5_stepHolds cX5_stepHolds 4 (some .boolean) [.ref (G.2.2 + o0), .ref (G.2.2 + o1), .int (iv v2), .int (iv v3)] M0 0 0 (Qb R M0) := by
  refine Ct.of hC.1 (by decide +kernel) (Nat.le_of_ble_eq_true rfl) ?_
  intro p l e R0 s m args below meth c C
  show Jz G σ p l e R0 s m args below meth c 4 0 0 (Qb R M0) M0 0 0 0 [(0, .ref (G.2.2 + o0)), (1, .ref (G.2.2 + o1)), (2, .int (iv v2)), (3, .int (iv v3))] []
  unfold uX5_stepHolds at h
  refine z_aload_n C dX5_stepHolds_0 0 rfl ?_
  obtain ⟨on1, hon1, h⟩ := bnd h
  refine y_getR C dX5_stepHolds_1 fX5_11 rfl hon1 ?_
  refine z_iload_n C dX5_stepHolds_4 3 rfl ?_
  obtain ⟨x2, hx2, h⟩ := bnd h
  refine y_iald C dX5_stepHolds_5 hx2 (fun gx2 => ?_)
  by_cases e3 : x2 = 22
  ·
    have h := (if_pos e3).symm.trans h
    refine z_tableIn (off := 38) 44 C dX5_stepHolds_6 gx2 (by omega) (by omega) (by rw [e3]; rfl) (by decide) ?_
    refine z_aload_n C dX5_stepHolds_44 1 rfl ?_
    refine z_iload_n C dX5_stepHolds_45 2 rfl ?_
    obtain ⟨k4, h⟩ := gK_inv h
    obtain ⟨r5, hr5, h⟩ := bnd h
    refine y_cVi (st := []) C dX5_stepHolds_46 mX5_91 k4 (tX8_whoOnTop hC o1 v2 gv2 hr5) rfl rfl (Nat.le_of_ble_eq_true rfl) (by decide) (fun gr5 => ?_)
    refine z_aload_n C dX5_stepHolds_49 0 rfl ?_
    obtain ⟨on6, hon6, h⟩ := bnd h
    refine y_getR C dX5_stepHolds_50 fX5_18 rfl hon6 ?_
    refine z_iload_n C dX5_stepHolds_53 3 rfl ?_
    obtain ⟨x7, hx7, h⟩ := bnd h
    refine y_iald C dX5_stepHolds_54 hx7 (fun gx7 => ?_)
    refine z_icmp_ne 62 C dX5_stepHolds_55 (by decide) gr5 gx7 (fun e8 => ?_) (fun e8 => ?_)
    ·
      have h := (if_neg e8).symm.trans h
      refine z_iconst C dX5_stepHolds_62 ?_
      exact y_zretP C dX5_stepHolds_63 h (by decide)
    ·
      have h := (if_pos e8).symm.trans h
      refine z_iconst C dX5_stepHolds_58 ?_
      refine z_goto 63 C dX5_stepHolds_59 (by decide) ?_
      exact y_zretP C dX5_stepHolds_63 h (by decide)
  have h := (if_neg e3).symm.trans h
  by_cases e9 : x2 = 23
  ·
    have h := (if_pos e9).symm.trans h
    refine z_tableIn (off := 58) 64 C dX5_stepHolds_6 gx2 (by omega) (by omega) (by rw [e9]; rfl) (by decide) ?_
    refine z_aload_n C dX5_stepHolds_64 1 rfl ?_
    refine z_iload_n C dX5_stepHolds_65 2 rfl ?_
    refine z_aload_n C dX5_stepHolds_66 0 rfl ?_
    obtain ⟨on10, hon10, h⟩ := bnd h
    refine y_getR C dX5_stepHolds_67 fX5_18 rfl hon10 ?_
    refine z_iload_n C dX5_stepHolds_70 3 rfl ?_
    obtain ⟨x11, hx11, h⟩ := bnd h
    refine y_iald C dX5_stepHolds_71 hx11 (fun gx11 => ?_)
    obtain ⟨k12, h⟩ := gK_inv h
    obtain ⟨r13, hr13, h⟩ := bnd h
    refine y_cVb (st := []) C dX5_stepHolds_72 mX5_96 k12 (tX8_showsWho hC o1 v2 x11 gv2 gx11 hr13) rfl rfl (Nat.le_of_ble_eq_true rfl) (by decide) (fun br13 => ?_)
    exact y_zretP C dX5_stepHolds_75 h br13
  have h := (if_neg e9).symm.trans h
  by_cases e14 : x2 = 24
  ·
    have h := (if_pos e14).symm.trans h
    refine z_tableIn (off := 70) 76 C dX5_stepHolds_6 gx2 (by omega) (by omega) (by rw [e14]; rfl) (by decide) ?_
    refine z_aload_n C dX5_stepHolds_76 1 rfl ?_
    obtain ⟨on15, hon15, h⟩ := bnd h
    refine y_getR C dX5_stepHolds_77 fX5_100 rfl hon15 ?_
    obtain ⟨on16, hon16, h⟩ := bnd h
    refine y_getR C dX5_stepHolds_80 fX5_104 rfl hon16 ?_
    refine z_iload_n C dX5_stepHolds_83 2 rfl ?_
    obtain ⟨x17, hx17, h⟩ := bnd h
    refine y_iald C dX5_stepHolds_84 hx17 (fun gx17 => ?_)
    refine z_aload_n C dX5_stepHolds_85 0 rfl ?_
    obtain ⟨on18, hon18, h⟩ := bnd h
    refine y_getR C dX5_stepHolds_86 fX5_18 rfl hon18 ?_
    refine z_iload_n C dX5_stepHolds_89 3 rfl ?_
    obtain ⟨x19, hx19, h⟩ := bnd h
    refine y_iald C dX5_stepHolds_90 hx19 (fun gx19 => ?_)
    refine z_icmp_ne 98 C dX5_stepHolds_91 (by decide) gx17 gx19 (fun e20 => ?_) (fun e20 => ?_)
    ·
      have h := (if_neg e20).symm.trans h
      refine z_iconst C dX5_stepHolds_98 ?_
      exact y_zretP C dX5_stepHolds_99 h (by decide)
    ·
      have h := (if_pos e20).symm.trans h
      refine z_iconst C dX5_stepHolds_94 ?_
      refine z_goto 99 C dX5_stepHolds_95 (by decide) ?_
      exact y_zretP C dX5_stepHolds_99 h (by decide)
  have h := (if_neg e14).symm.trans h
  by_cases e21 : x2 = 25
  ·
    have h := (if_pos e21).symm.trans h
    refine z_tableIn (off := 94) 100 C dX5_stepHolds_6 gx2 (by omega) (by omega) (by rw [e21]; rfl) (by decide) ?_
    refine z_aload_n C dX5_stepHolds_100 1 rfl ?_
    refine z_iload_n C dX5_stepHolds_101 2 rfl ?_
    obtain ⟨k22, h⟩ := gK_inv h
    obtain ⟨r23, hr23, h⟩ := bnd h
    refine y_cVb (st := []) C dX5_stepHolds_102 mX5_109 k22 (tX8_showsFalse hC o1 v2 gv2 hr23) rfl rfl (Nat.le_of_ble_eq_true rfl) (by decide) (fun br23 => ?_)
    exact y_zretP C dX5_stepHolds_105 h br23
  have h := (if_neg e21).symm.trans h
  by_cases e24 : x2 = 26
  ·
    have h := (if_pos e24).symm.trans h
    refine z_tableIn (off := 100) 106 C dX5_stepHolds_6 gx2 (by omega) (by omega) (by rw [e24]; rfl) (by decide) ?_
    refine z_aload_n C dX5_stepHolds_106 0 rfl ?_
    refine z_aload_n C dX5_stepHolds_107 1 rfl ?_
    obtain ⟨on25, hon25, h⟩ := bnd h
    refine y_getR C dX5_stepHolds_108 fX5_100 rfl hon25 ?_
    obtain ⟨on26, hon26, h⟩ := bnd h
    refine y_getR C dX5_stepHolds_111 fX5_113 rfl hon26 ?_
    refine z_iload_n C dX5_stepHolds_114 2 rfl ?_
    obtain ⟨x27, hx27, h⟩ := bnd h
    refine y_iald C dX5_stepHolds_115 hx27 (fun gx27 => ?_)
    refine z_iload_n C dX5_stepHolds_116 3 rfl ?_
    obtain ⟨k28, h⟩ := gK_inv h
    obtain ⟨r29, hr29, h⟩ := bnd h
    refine y_cVb (st := []) C dX5_stepHolds_117 mX5_116 k28 (tX5_compares hC o0 x27 v3 gx27 gv3 hr29) rfl rfl (Nat.le_of_ble_eq_true rfl) (by decide) (fun br29 => ?_)
    exact y_zretP C dX5_stepHolds_120 h br29
  have h := (if_neg e24).symm.trans h
  by_cases e30 : x2 = 27
  ·
    have h := (if_pos e30).symm.trans h
    refine z_tableIn (off := 115) 121 C dX5_stepHolds_6 gx2 (by omega) (by omega) (by rw [e30]; rfl) (by decide) ?_
    refine z_aload_n C dX5_stepHolds_121 0 rfl ?_
    refine z_aload_n C dX5_stepHolds_122 1 rfl ?_
    obtain ⟨on31, hon31, h⟩ := bnd h
    refine y_getR C dX5_stepHolds_123 fX5_100 rfl hon31 ?_
    obtain ⟨on32, hon32, h⟩ := bnd h
    refine y_getR C dX5_stepHolds_126 fX5_119 rfl hon32 ?_
    refine z_iload_n C dX5_stepHolds_129 2 rfl ?_
    obtain ⟨x33, hx33, h⟩ := bnd h
    refine y_iald C dX5_stepHolds_130 hx33 (fun gx33 => ?_)
    refine z_iload_n C dX5_stepHolds_131 3 rfl ?_
    obtain ⟨k34, h⟩ := gK_inv h
    obtain ⟨r35, hr35, h⟩ := bnd h
    refine y_cVb (st := []) C dX5_stepHolds_132 mX5_116 k34 (tX5_compares hC o0 x33 v3 gx33 gv3 hr35) rfl rfl (Nat.le_of_ble_eq_true rfl) (by decide) (fun br35 => ?_)
    exact y_zretP C dX5_stepHolds_135 h br35
  have h := (if_neg e30).symm.trans h
  refine z_tableOut 136 C dX5_stepHolds_6 gx2 (by omega) (by decide) ?_
  refine z_aload_n C dX5_stepHolds_136 0 rfl ?_
  refine z_aload_n C dX5_stepHolds_137 1 rfl ?_
  obtain ⟨on36, hon36, h⟩ := bnd h
  refine y_getR C dX5_stepHolds_138 fX5_100 rfl hon36 ?_
  obtain ⟨on37, hon37, h⟩ := bnd h
  refine y_getR C dX5_stepHolds_141 fX5_122 rfl hon37 ?_
  refine z_iload_n C dX5_stepHolds_144 2 rfl ?_
  obtain ⟨x38, hx38, h⟩ := bnd h
  refine y_iald C dX5_stepHolds_145 hx38 (fun gx38 => ?_)
  refine z_iload_n C dX5_stepHolds_146 3 rfl ?_
  obtain ⟨k39, h⟩ := gK_inv h
  obtain ⟨r40, hr40, h⟩ := bnd h
  refine y_cVb (st := []) C dX5_stepHolds_147 mX5_116 k39 (tX5_compares hC o0 x38 v3 gx38 gv3 hr40) rfl rfl (Nat.le_of_ble_eq_true rfl) (by decide) (fun br40 => ?_)
  exact y_zretP C dX5_stepHolds_150 h br40

set_option maxHeartbeats 4000000 in
set_option maxRecDepth 100000 in
theorem tX9_init {G : Gx} {σ : State} (hC : Cy G σ) (o0 : Nat) {M0 : Mm}  {R : Mm} (h : uX9_init o0 M0 = some R) : Ct G σ (5) yX9_init cX9_init 2 none [.ref (G.2.2 + o0)] M0 56 10376 (Qv R) := by
  refine Ct.of hC.1 (by decide +kernel) (Nat.le_of_ble_eq_true rfl) ?_
  intro p l e R0 s m args below meth c C
  show Jz G σ p l e R0 s m args below meth c 2 56 10376 (Qv R) M0 0 0 0 [(0, .ref (G.2.2 + o0))] []
  have hb107 : ∀ (o0 : Nat) (M : Mm), uX9_init_b107 o0 M = some R → Jz G σ p l e R0 s m args below meth c 2 56 10376 (Qv R) M 52 10345 107 [(0, .ref (G.2.2 + o0))] [] := by
    intro o0 M  h
    unfold uX9_init_b107 at h
    refine z_aload_n C dX9_init_107 0 rfl ?_
    refine y_new C dX9_init_108 clX4 defX4 nX9_59 ins_X4 ini_X4 (by omega) (by omega) ?_
    refine z_dup C dX9_init_111 rfl ?_
    obtain ⟨M1, hM1, h⟩ := bnd h
    refine y_cIva (st := [.ref (G.2.2 + M.1.1), .ref (G.2.2 + o0)]) C dX9_init_112 mX9_61 (tX4_init hC M.1.1  hM1) rfl rfl (Nat.le_of_ble_eq_true rfl) (by decide) ?_
    obtain ⟨M2, hM2, h⟩ := bnd h
    refine y_putFR C dX9_init_115 clX9 (by decide) fX9_62_l rfl rfl rfl rfl rfl rfl hM2 ?_
    exact y_retV C dX9_init_118 h
  have hb88 : ∀ (o0 : Nat) (v1 : Int) (M : Mm), (rg v1) → uX9_init_b88 o0 v1 M = some R → Jz G σ p l e R0 s m args below meth c 2 56 10376 (Qv R) M 52 10345 88 [(0, .ref (G.2.2 + o0)), (1, .int (iv v1))] [] := by
    intro o0 v1 M gv1 h
    unfold uX9_init_b88 at h
    obtain ⟨b88, hb88_, hc88⟩ := bnd h
    have hL88 : ∀ (n : Nat) (v1 : Int) (M : Mm), (rg v1) → lp (uX9_init_f88 o0) n (v1, M) = some b88 → Jz G σ p l e R0 s m args below meth c 2 56 10376 (Qv R) M 52 10345 88 [(0, .ref (G.2.2 + o0)), (1, .int (iv v1))] [] := by
      intro n; induction n with
      | zero => intro v1 M gv1 hq; exact (lp_0 hq).elim
      | succ n88 ih88 =>
        intro v1 M gv1 hq
        obtain ⟨z88, h, hZ88⟩ := lp_s hq
        have h : uX9_init_s88 o0 v1 M = some z88 := h
        unfold uX9_init_s88 at h
        refine z_iload_n C dX9_init_88 1 rfl ?_
        refine z_bipush C dX9_init_89 (by decide) ?_
        refine z_icmp_ge 107 C dX9_init_91 (by decide) gv1 (by decide) (fun e3 => ?_) (fun e3 => ?_)
        ·
          have h := (if_pos e3).symm.trans h
          have h : uX9_init_b107 o0 M = some R := lp_ex (K := (uX9_init_c88 o0)) h hZ88 hc88
          refine z_drop (lv' := [(0, .ref (G.2.2 + o0))]) [0] rfl ?_
          exact hb107 o0 M  h
        ·
          have h := (if_neg e3).symm.trans h
          refine z_aload_n C dX9_init_94 0 rfl ?_
          obtain ⟨on4, hon4, h⟩ := bnd h
          refine y_getR C dX9_init_95 fX9_55 rfl hon4 ?_
          refine z_iload_n C dX9_init_98 1 rfl ?_
          refine z_iconst C dX9_init_99 ?_
          obtain ⟨M5, hM5, h⟩ := bnd h
          refine y_iast C dX9_init_100 hM5 ?_
          refine y_iinc (lv' := [(0, .ref (G.2.2 + o0)), (1, .int (iv (w32 (v1 + 1))))]) C dX9_init_101 1 rfl (by decide) [1, 0] rfl ?_
          refine z_goto 88 C dX9_init_104 (by decide) ?_
          exact ih88 (w32 (v1 + 1)) M5 (w32_rng _) (lp_back h hZ88)
    exact hL88 _ v1 M gv1 hb88_
  unfold uX9_init at h
  refine z_aload_n C dX9_init_0 0 rfl ?_
  refine z_objInit C dX9_init_1 (gt_1 (i := 27) (by decide +kernel) (by decide +kernel)) oi_in oi_co (by decide) (Nat.le_of_ble_eq_true rfl) ?_
  refine z_aload_n C dX9_init_4 0 rfl ?_
  refine y_new C dX9_init_5 clX7 defX7 nX9_7 ins_X7 ini_X7 (by omega) (by omega) ?_
  refine z_dup C dX9_init_8 rfl ?_
  obtain ⟨M6, hM6, h⟩ := bnd h
  refine y_cIva (st := [.ref (G.2.2 + M0.1.1), .ref (G.2.2 + o0)]) C dX9_init_9 mX9_9 (tX7_init hC M0.1.1  hM6) rfl rfl (Nat.le_of_ble_eq_true rfl) (by decide) ?_
  obtain ⟨M7, hM7, h⟩ := bnd h
  refine y_putFR C dX9_init_12 clX9 (by decide) fX9_10_l rfl rfl rfl rfl rfl rfl hM7 ?_
  refine z_aload_n C dX9_init_15 0 rfl ?_
  refine y_new C dX9_init_16 clX3 defX3 nX9_16 ins_X3 ini_X3 (by omega) (by omega) ?_
  refine z_dup C dX9_init_19 rfl ?_
  obtain ⟨M8, hM8, h⟩ := bnd h
  refine y_cIva (st := [.ref (G.2.2 + M7.1.1), .ref (G.2.2 + o0)]) C dX9_init_20 mX9_18 (tX3_init hC M7.1.1  hM8) rfl rfl (Nat.le_of_ble_eq_true rfl) (by decide) ?_
  obtain ⟨M9, hM9, h⟩ := bnd h
  refine y_putFR C dX9_init_23 clX9 (by decide) fX9_19_l rfl rfl rfl rfl rfl rfl hM9 ?_
  refine z_aload_n C dX9_init_26 0 rfl ?_
  refine y_new C dX9_init_27 clX5 defX5 nX9_23 ins_X5 ini_X5 (by omega) (by omega) ?_
  refine z_dup C dX9_init_30 rfl ?_
  obtain ⟨M10, hM10, h⟩ := bnd h
  refine y_cIva (st := [.ref (G.2.2 + M9.1.1), .ref (G.2.2 + o0)]) C dX9_init_31 mX9_25 (tX5_init hC M9.1.1  hM10) rfl rfl (Nat.le_of_ble_eq_true rfl) (by decide) ?_
  obtain ⟨M11, hM11, h⟩ := bnd h
  refine y_putFR C dX9_init_34 clX9 (by decide) fX9_26_l rfl rfl rfl rfl rfl rfl hM11 ?_
  refine z_aload_n C dX9_init_37 0 rfl ?_
  refine y_new C dX9_init_38 clX8 defX8 nX9_30 ins_X8 ini_X8 (by omega) (by omega) ?_
  refine z_dup C dX9_init_41 rfl ?_
  obtain ⟨M12, hM12, h⟩ := bnd h
  refine y_cIva (st := [.ref (G.2.2 + M11.1.1), .ref (G.2.2 + o0)]) C dX9_init_42 mX9_32 (tX8_init hC M11.1.1  hM12) rfl rfl (Nat.le_of_ble_eq_true rfl) (by decide) ?_
  obtain ⟨M13, hM13, h⟩ := bnd h
  refine y_putFR C dX9_init_45 clX9 (by decide) fX9_33_l rfl rfl rfl rfl rfl rfl hM13 ?_
  refine z_aload_n C dX9_init_48 0 rfl ?_
  refine y_new C dX9_init_49 clX2 defX2 nX9_37 ins_X2 ini_X2 (by omega) (by omega) ?_
  refine z_dup C dX9_init_52 rfl ?_
  obtain ⟨M14, hM14, h⟩ := bnd h
  refine y_cIva (st := [.ref (G.2.2 + M13.1.1), .ref (G.2.2 + o0)]) C dX9_init_53 mX9_39 (tX2_init hC M13.1.1  hM14) rfl rfl (Nat.le_of_ble_eq_true rfl) (by decide) ?_
  obtain ⟨M15, hM15, h⟩ := bnd h
  refine y_putFR C dX9_init_56 clX9 (by decide) fX9_40_l rfl rfl rfl rfl rfl rfl hM15 ?_
  refine z_aload_n C dX9_init_59 0 rfl ?_
  refine z_iconst C dX9_init_60 ?_
  refine y_newRW 2 C hC.2 (gt_1 (i := 167) (by decide +kernel) (by decide +kernel)) dX9_init_61 rfl (by decide) (by omega) (by omega) ?_
  obtain ⟨M16, hM16, h⟩ := bnd h
  refine y_putFR C dX9_init_64 clX9 (by decide) fX9_44_l rfl rfl rfl rfl rfl rfl hM16 ?_
  refine z_aload_n C dX9_init_67 0 rfl ?_
  refine y_new C dX9_init_68 clX0 defX0 nX9_48 ins_X0 ini_X0 (by omega) (by omega) ?_
  refine z_dup C dX9_init_71 rfl ?_
  obtain ⟨M17, hM17, h⟩ := bnd h
  refine y_cIva (st := [.ref (G.2.2 + M16.1.1), .ref (G.2.2 + o0)]) C dX9_init_72 mX9_50 (tX0_init hC M16.1.1  hM17) rfl rfl (Nat.le_of_ble_eq_true rfl) (by decide) ?_
  obtain ⟨M18, hM18, h⟩ := bnd h
  refine y_putFR C dX9_init_75 clX9 (by decide) fX9_51_l rfl rfl rfl rfl rfl rfl hM18 ?_
  refine z_aload_n C dX9_init_78 0 rfl ?_
  refine z_bipush C dX9_init_79 (by decide) ?_
  refine y_newI 40 C dX9_init_81 rfl (by decide) (by omega) (by omega) ?_
  obtain ⟨M19, hM19, h⟩ := bnd h
  refine y_putFR C dX9_init_83 clX9 (by decide) fX9_55_l rfl rfl rfl rfl rfl rfl hM19 ?_
  refine z_iconst C dX9_init_86 ?_
  refine z_istore_n (lv' := [(0, .ref (G.2.2 + o0)), (1, .int (iv 0))]) C dX9_init_87 rfl (by decide) [1, 0] rfl ?_
  exact hb88 o0 0 M19 (by decide) h

set_option maxHeartbeats 4000000 in
set_option maxRecDepth 100000 in
theorem tX9_coin {G : Gx} {σ : State} (hC : Cy G σ) (o0 : Nat) (v1 : Int) (v2 : Int) (v3 : Int) {M0 : Mm} (gv1 : rg v1) (gv2 : rg v2) (gv3 : rg v3) {R : Int × Mm} (h : uX9_coin o0 v1 v2 v3 M0 = some R) : Ct G σ (5) yX9_coin cX9_coin 5 (some .int) [.ref (G.2.2 + o0), .int (iv v1), .int (iv v2), .int (iv v3)] M0 7 895 (Qi R.1 R.2) := by
  refine Ct.of hC.1 (by decide +kernel) (Nat.le_of_ble_eq_true rfl) ?_
  intro p l e R0 s m args below meth c C
  show Jz G σ p l e R0 s m args below meth c 5 7 895 (Qi R.1 R.2) M0 0 0 0 [(0, .ref (G.2.2 + o0)), (1, .int (iv v1)), (2, .int (iv v2)), (3, .int (iv v3))] []
  unfold uX9_coin at h
  refine z_aload_n C dX9_coin_0 0 rfl ?_
  obtain ⟨on1, hon1, h⟩ := bnd h
  refine y_getR C dX9_coin_1 fX9_33 rfl hon1 ?_
  refine z_iload_n C dX9_coin_4 1 rfl ?_
  obtain ⟨k2, h⟩ := gK_inv h
  obtain ⟨r3, hr3, h⟩ := bnd h
  refine y_cVb (st := []) C dX9_coin_5 mX9_157 k2 (tX8_isAlive hC on1 v1 gv1 hr3) rfl rfl (Nat.le_of_ble_eq_true rfl) (by decide) (fun br3 => ?_)
  refine z_if_eq 22 C dX9_coin_8 (by decide) (rg01 br3) (fun e4 => ?_) (fun e4 => ?_)
  ·
    have h := (if_pos e4).symm.trans h
    refine z_iconst C dX9_coin_22 ?_
    exact y_iretB C dX9_coin_23 h (by decide)
  ·
    have h := (if_neg e4).symm.trans h
    refine z_aload_n C dX9_coin_11 0 rfl ?_
    obtain ⟨on5, hon5, h⟩ := bnd h
    refine y_getR C dX9_coin_12 fX9_33 rfl hon5 ?_
    refine z_iload_n C dX9_coin_15 3 rfl ?_
    obtain ⟨k6, h⟩ := gK_inv h
    obtain ⟨r7, hr7, h⟩ := bnd h
    refine y_cVb (st := []) C dX9_coin_16 mX9_138 k6 (tX8_isMint hC on5 v3 gv3 hr7) rfl rfl (Nat.le_of_ble_eq_true rfl) (by decide) (fun br7 => ?_)
    refine z_if_ne 24 C dX9_coin_19 (by decide) (rg01 br7) (fun e8 => ?_) (fun e8 => ?_)
    ·
      have h := (if_neg e8).symm.trans h
      refine z_iload_n C dX9_coin_24 2 rfl ?_
      refine z_iconst C dX9_coin_25 ?_
      refine z_icmp_lt 36 C dX9_coin_26 (by decide) gv2 (by decide) (fun e9 => ?_) (fun e9 => ?_)
      ·
        have h := (if_pos e9).symm.trans h
        refine z_iconst C dX9_coin_36 ?_
        exact y_iretB C dX9_coin_37 h (by decide)
      ·
        have h := (if_neg e9).symm.trans h
        refine z_iload_n C dX9_coin_29 2 rfl ?_
        refine z_sipush C dX9_coin_30 (by decide) ?_
        refine z_icmp_le 38 C dX9_coin_33 (by decide) gv2 (by decide) (fun e10 => ?_) (fun e10 => ?_)
        ·
          have h := (if_pos e10).symm.trans h
          refine z_aload_n C dX9_coin_38 0 rfl ?_
          obtain ⟨on11, hon11, h⟩ := bnd h
          refine y_getR C dX9_coin_39 fX9_33 rfl hon11 ?_
          refine z_iload_n C dX9_coin_42 2 rfl ?_
          refine z_iconst C dX9_coin_43 ?_
          refine z_iload_n C dX9_coin_44 3 rfl ?_
          obtain ⟨k12, h⟩ := gK_inv h
          obtain ⟨r13, hr13, h⟩ := bnd h
          refine y_cVi (st := []) C dX9_coin_45 mX9_160 k12 (tX8_obstacle hC on11 v2 0 v3 gv2 (by decide) gv3 hr13) rfl rfl (Nat.le_of_ble_eq_true rfl) (by decide) (fun gr13 => ?_)
          refine z_if_eq 53 C dX9_coin_48 (by decide) gr13 (fun e14 => ?_) (fun e14 => ?_)
          ·
            have h := (if_pos e14).symm.trans h
            refine z_aload_n C dX9_coin_53 0 rfl ?_
            obtain ⟨on15, hon15, h⟩ := bnd h
            refine y_getR C dX9_coin_54 fX9_33 rfl hon15 ?_
            obtain ⟨on16, hon16, h⟩ := bnd h
            refine y_getR C dX9_coin_57 fX9_117 rfl hon16 ?_
            obtain ⟨x17, hx17, h⟩ := bnd h
            refine y_getI C dX9_coin_60 fX9_164 rfl hx17 (fun gx17 => ?_)
            refine z_bipush C dX9_coin_63 (by decide) ?_
            refine z_icmp_ge 79 C dX9_coin_65 (by decide) gx17 (by decide) (fun e18 => ?_) (fun e18 => ?_)
            ·
              have h := (if_pos e18).symm.trans h
              refine z_iconst C dX9_coin_79 ?_
              exact y_iretB C dX9_coin_80 h (by decide)
            ·
              have h := (if_neg e18).symm.trans h
              refine z_aload_n C dX9_coin_68 0 rfl ?_
              obtain ⟨on19, hon19, h⟩ := bnd h
              refine y_getR C dX9_coin_69 fX9_33 rfl hon19 ?_
              obtain ⟨k20, h⟩ := gK_inv h
              obtain ⟨r21, hr21, h⟩ := bnd h
              refine y_cVi (st := []) C dX9_coin_72 mX9_167 k20 (tX8_strokesLeft hC on19  hr21) rfl rfl (Nat.le_of_ble_eq_true rfl) (by decide) (fun gr21 => ?_)
              refine z_iconst C dX9_coin_75 ?_
              refine z_icmp_ge 81 C dX9_coin_76 (by decide) gr21 (by decide) (fun e22 => ?_) (fun e22 => ?_)
              ·
                have h := (if_pos e22).symm.trans h
                refine z_aload_n C dX9_coin_81 0 rfl ?_
                obtain ⟨on23, hon23, h⟩ := bnd h
                refine y_getR C dX9_coin_82 fX9_40 rfl hon23 ?_
                refine z_aload_n C dX9_coin_85 0 rfl ?_
                obtain ⟨on24, hon24, h⟩ := bnd h
                refine y_getR C dX9_coin_86 fX9_33 rfl hon24 ?_
                obtain ⟨on25, hon25, h⟩ := bnd h
                refine y_getR C dX9_coin_89 fX9_117 rfl hon25 ?_
                obtain ⟨k26, h⟩ := gK_inv h
                obtain ⟨M27, hM27, h⟩ := bnd h
                refine y_cVva (st := []) C dX9_coin_92 mX9_171 k26 (tX2_keep hC on23 on25  hM27) rfl rfl (Nat.le_of_ble_eq_true rfl) (by decide) ?_
                refine z_aload_n C dX9_coin_95 0 rfl ?_
                obtain ⟨on28, hon28, h⟩ := bnd h
                refine y_getR C dX9_coin_96 fX9_33 rfl hon28 ?_
                obtain ⟨on29, hon29, h⟩ := bnd h
                refine y_getR C dX9_coin_99 fX9_117 rfl hon29 ?_
                refine z_iload_n C dX9_coin_102 1 rfl ?_
                refine z_iload_n C dX9_coin_103 2 rfl ?_
                obtain ⟨k30, h⟩ := gK_inv h
                obtain ⟨r31, M32, hr31, h⟩ := bnd2 h
                refine y_cVi (st := []) C dX9_coin_104 mX9_175 k30 (tX1_addCoin hC on29 v1 v2 gv1 gv2 hr31) rfl rfl (Nat.le_of_ble_eq_true rfl) (by decide) (fun gr31 => ?_)
                refine z_istore (lv' := [(0, .ref (G.2.2 + o0)), (1, .int (iv v1)), (2, .int (iv v2)), (3, .int (iv v3)), (4, .int (iv r31))]) C dX9_coin_107 (by decide) [1, 2, 3, 4, 0] rfl ?_
                refine z_aload_n C dX9_coin_109 0 rfl ?_
                obtain ⟨on33, hon33, h⟩ := bnd h
                refine y_getR C dX9_coin_110 fX9_33 rfl hon33 ?_
                refine z_iload C dX9_coin_113 4 rfl ?_
                refine z_iload_n C dX9_coin_115 1 rfl ?_
                refine z_iload_n C dX9_coin_116 3 rfl ?_
                refine z_iconst C dX9_coin_117 ?_
                refine z_iconst C dX9_coin_118 ?_
                obtain ⟨k34, h⟩ := gK_inv h
                obtain ⟨M35, hM35, h⟩ := bnd h
                refine y_cVv (st := []) C dX9_coin_119 mX9_179 k34 (tX8_strike hC on33 r31 v1 v3 (-1) 0 gr31 gv1 gv3 (by decide) (by decide) hM35) rfl rfl (Nat.le_of_ble_eq_true rfl) (by decide) ?_
                refine z_iload C dX9_coin_122 4 rfl ?_
                exact y_iretB C dX9_coin_124 h gr31
              ·
                have h := (if_neg e22).symm.trans h
                refine z_iconst C dX9_coin_79 ?_
                exact y_iretB C dX9_coin_80 h (by decide)
          ·
            have h := (if_neg e14).symm.trans h
            refine z_iconst C dX9_coin_51 ?_
            exact y_iretB C dX9_coin_52 h (by decide)
        ·
          have h := (if_neg e10).symm.trans h
          refine z_iconst C dX9_coin_36 ?_
          exact y_iretB C dX9_coin_37 h (by decide)
    ·
      have h := (if_pos e8).symm.trans h
      refine z_iconst C dX9_coin_22 ?_
      exact y_iretB C dX9_coin_23 h (by decide)

set_option maxHeartbeats 4000000 in
set_option maxRecDepth 100000 in
theorem tX9_leastWrong {G : Gx} {σ : State} (hC : Cy G σ) (o0 : Nat) (v1 : Int) (v2 : Int) (v3 : Int) (v4 : Int) (v5 : Int) {M0 : Mm} (gv1 : rg v1) (gv2 : rg v2) (gv3 : rg v3) (gv4 : rg v4) (gv5 : rg v5) {R : Int} (h : uX9_leastWrong o0 v1 v2 v3 v4 v5 M0 = some R) : Ct G σ (5) yX9_leastWrong cX9_leastWrong 9 (some .int) [.ref (G.2.2 + o0), .int (iv v1), .int (iv v2), .int (iv v3), .int (iv v4), .int (iv v5)] M0 0 0 (Qi R M0) := by
  refine Ct.of hC.1 (by decide +kernel) (Nat.le_of_ble_eq_true rfl) ?_
  intro p l e R0 s m args below meth c C
  show Jz G σ p l e R0 s m args below meth c 9 0 0 (Qi R M0) M0 0 0 0 [(0, .ref (G.2.2 + o0)), (1, .int (iv v1)), (2, .int (iv v2)), (3, .int (iv v3)), (4, .int (iv v4)), (5, .int (iv v5))] []
  have hb60 : ∀ (v6 : Int), (rg v6) → uX9_leastWrong_b60 v6 M0 = some R → Jz G σ p l e R0 s m args below meth c 9 0 0 (Qi R M0) M0 0 0 60 [(6, .int (iv v6))] [] := by
    intro v6  gv6 h
    unfold uX9_leastWrong_b60 at h
    refine z_iload C dX9_leastWrong_60 0 rfl ?_
    exact y_iretP C dX9_leastWrong_62 h gv6
  have hb6 : ∀ (o0 : Nat) (v1 : Int) (v2 : Int) (v3 : Int) (v4 : Int) (v5 : Int) (v6 : Int) (v7 : Int), (rg v1) → (rg v2) → (rg v3) → (rg v4) → (rg v5) → (rg v6) → (rg v7) → uX9_leastWrong_b6 o0 v1 v2 v3 v4 v5 v6 v7 M0 = some R → Jz G σ p l e R0 s m args below meth c 9 0 0 (Qi R M0) M0 0 0 6 [(0, .ref (G.2.2 + o0)), (1, .int (iv v1)), (2, .int (iv v2)), (3, .int (iv v3)), (4, .int (iv v4)), (5, .int (iv v5)), (6, .int (iv v6)), (7, .int (iv v7))] [] := by
    intro o0 v1 v2 v3 v4 v5 v6 v7  gv1 gv2 gv3 gv4 gv5 gv6 gv7 h
    unfold uX9_leastWrong_b6 at h
    obtain ⟨b6, hb6_, hc6⟩ := bnd h
    have hL6 : ∀ (n : Nat) (v6 : Int) (v7 : Int), (rg v6) → (rg v7) → lp (uX9_leastWrong_f6 o0 v1 v2 v3 v4 v5 M0) n (v6, v7) = some b6 → Jz G σ p l e R0 s m args below meth c 9 0 0 (Qi R M0) M0 0 0 6 [(0, .ref (G.2.2 + o0)), (1, .int (iv v1)), (2, .int (iv v2)), (3, .int (iv v3)), (4, .int (iv v4)), (5, .int (iv v5)), (6, .int (iv v6)), (7, .int (iv v7))] [] := by
      intro n; induction n with
      | zero => intro v6 v7 gv6 gv7 hq; exact (lp_0 hq).elim
      | succ n6 ih6 =>
        intro v6 v7 gv6 gv7 hq
        obtain ⟨z6, h, hZ6⟩ := lp_s hq
        have h : uX9_leastWrong_s6 o0 v1 v2 v3 v4 v5 M0 v6 v7 = some z6 := h
        have hb50 : ∀ (v7 : Int) (v8 : Int), (rg v7) → (rg v8) → ∀ z6, uX9_leastWrong_b50 o0 v1 v2 v3 v4 v5 v7 v8 M0 = some z6 → lpc (uX9_leastWrong_f6 o0 v1 v2 v3 v4 v5 M0) n6 z6 b6 → Jz G σ p l e R0 s m args below meth c 9 0 0 (Qi R M0) M0 0 0 50 [(0, .ref (G.2.2 + o0)), (1, .int (iv v1)), (2, .int (iv v2)), (3, .int (iv v3)), (4, .int (iv v4)), (5, .int (iv v5)), (7, .int (iv v7)), (8, .int (iv v8))] [] := by
          intro v7 v8  gv7 gv8 z6 h hZ6
          unfold uX9_leastWrong_b50 at h
          refine z_iload C dX9_leastWrong_50 7 rfl ?_
          refine z_istore (lv' := [(0, .ref (G.2.2 + o0)), (1, .int (iv v1)), (2, .int (iv v2)), (3, .int (iv v3)), (4, .int (iv v4)), (5, .int (iv v5)), (6, .int (iv v8)), (7, .int (iv v7)), (8, .int (iv v8))]) C dX9_leastWrong_52 (by decide) [1, 2, 3, 4, 5, 6, 0, 7, 8] rfl ?_
          refine y_iinc (lv' := [(0, .ref (G.2.2 + o0)), (1, .int (iv v1)), (2, .int (iv v2)), (3, .int (iv v3)), (4, .int (iv v4)), (5, .int (iv v5)), (6, .int (iv v8)), (7, .int (iv (w32 (v7 + 1)))), (8, .int (iv v8))]) C dX9_leastWrong_54 7 rfl (by decide) [1, 2, 3, 4, 5, 6, 7, 0, 8] rfl ?_
          refine z_goto 6 C dX9_leastWrong_57 (by decide) ?_
          refine z_drop (lv' := [(0, .ref (G.2.2 + o0)), (1, .int (iv v1)), (2, .int (iv v2)), (3, .int (iv v3)), (4, .int (iv v4)), (5, .int (iv v5)), (6, .int (iv v8)), (7, .int (iv (w32 (v7 + 1))))]) [0, 1, 2, 3, 4, 5, 6, 7] rfl ?_
          exact ih6 v8 (w32 (v7 + 1)) gv8 (w32_rng _) (lp_back h hZ6)
        unfold uX9_leastWrong_s6 at h
        refine z_iload C dX9_leastWrong_6 7 rfl ?_
        refine z_iload C dX9_leastWrong_8 4 rfl ?_
        refine z_icmp_ge 60 C dX9_leastWrong_10 (by decide) gv7 gv4 (fun e1 => ?_) (fun e1 => ?_)
        ·
          have h := (if_pos e1).symm.trans h
          have h : uX9_leastWrong_b60 v6 M0 = some R := lp_ex (K := (uX9_leastWrong_c6 o0 v1 v2 v3 v4 v5 M0)) h hZ6 hc6
          refine z_drop (lv' := [(6, .int (iv v6))]) [6] rfl ?_
          exact hb60 v6  gv6 h
        ·
          have h := (if_neg e1).symm.trans h
          refine z_aload_n C dX9_leastWrong_13 0 rfl ?_
          refine z_iload_n C dX9_leastWrong_14 1 rfl ?_
          refine z_iload_n C dX9_leastWrong_15 2 rfl ?_
          refine z_iload_n C dX9_leastWrong_16 3 rfl ?_
          refine z_aload_n C dX9_leastWrong_17 0 rfl ?_
          obtain ⟨on2, hon2, h⟩ := bnd h
          refine y_getR C dX9_leastWrong_18 fX9_10 rfl hon2 ?_
          refine z_iload C dX9_leastWrong_21 7 rfl ?_
          obtain ⟨k3, h⟩ := gK_inv h
          obtain ⟨r4, hr4, h⟩ := bnd h
          refine y_cVi (st := [.int (iv v3), .int (iv v2), .int (iv v1), .ref (G.2.2 + o0)]) C dX9_leastWrong_23 mX9_237 k3 (tX7_at hC on2 v7 gv7 hr4) rfl rfl (Nat.le_of_ble_eq_true rfl) (by decide) (fun gr4 => ?_)
          refine z_iload C dX9_leastWrong_26 5 rfl ?_
          obtain ⟨k5, h⟩ := gK_inv h
          obtain ⟨r6, hr6, h⟩ := bnd h
          refine y_cVi (st := []) C dX9_leastWrong_28 mX9_248 k5 (tX9_coinWrong hC o0 v1 v2 v3 r4 v5 gv1 gv2 gv3 gr4 gv5 hr6) rfl rfl (Nat.le_of_ble_eq_true rfl) (by decide) (fun gr6 => ?_)
          refine z_istore (lv' := [(0, .ref (G.2.2 + o0)), (1, .int (iv v1)), (2, .int (iv v2)), (3, .int (iv v3)), (4, .int (iv v4)), (5, .int (iv v5)), (6, .int (iv v6)), (7, .int (iv v7)), (8, .int (iv r6))]) C dX9_leastWrong_31 (by decide) [1, 2, 3, 4, 5, 6, 7, 8, 0] rfl ?_
          refine z_iload C dX9_leastWrong_33 8 rfl ?_
          refine z_if_eq 54 C dX9_leastWrong_35 (by decide) gr6 (fun e7 => ?_) (fun e7 => ?_)
          ·
            have h := (if_pos e7).symm.trans h
            refine y_iinc (lv' := [(0, .ref (G.2.2 + o0)), (1, .int (iv v1)), (2, .int (iv v2)), (3, .int (iv v3)), (4, .int (iv v4)), (5, .int (iv v5)), (6, .int (iv v6)), (7, .int (iv (w32 (v7 + 1)))), (8, .int (iv r6))]) C dX9_leastWrong_54 7 rfl (by decide) [1, 2, 3, 4, 5, 6, 7, 0, 8] rfl ?_
            refine z_goto 6 C dX9_leastWrong_57 (by decide) ?_
            refine z_drop (lv' := [(0, .ref (G.2.2 + o0)), (1, .int (iv v1)), (2, .int (iv v2)), (3, .int (iv v3)), (4, .int (iv v4)), (5, .int (iv v5)), (6, .int (iv v6)), (7, .int (iv (w32 (v7 + 1))))]) [0, 1, 2, 3, 4, 5, 6, 7] rfl ?_
            exact ih6 v6 (w32 (v7 + 1)) gv6 (w32_rng _) (lp_back h hZ6)
          ·
            have h := (if_neg e7).symm.trans h
            refine z_iload C dX9_leastWrong_38 6 rfl ?_
            refine z_if_eq 50 C dX9_leastWrong_40 (by decide) gv6 (fun e8 => ?_) (fun e8 => ?_)
            ·
              have h := (if_pos e8).symm.trans h
              refine z_drop (lv' := [(0, .ref (G.2.2 + o0)), (1, .int (iv v1)), (2, .int (iv v2)), (3, .int (iv v3)), (4, .int (iv v4)), (5, .int (iv v5)), (7, .int (iv v7)), (8, .int (iv r6))]) [0, 1, 2, 3, 4, 5, 7, 8] rfl ?_
              exact hb50 v7 r6  gv7 gr6 _ h hZ6
            ·
              have h := (if_neg e8).symm.trans h
              refine z_iload C dX9_leastWrong_43 8 rfl ?_
              refine z_iload C dX9_leastWrong_45 6 rfl ?_
              refine z_icmp_ge 54 C dX9_leastWrong_47 (by decide) gr6 gv6 (fun e9 => ?_) (fun e9 => ?_)
              ·
                have h := (if_pos e9).symm.trans h
                refine y_iinc (lv' := [(0, .ref (G.2.2 + o0)), (1, .int (iv v1)), (2, .int (iv v2)), (3, .int (iv v3)), (4, .int (iv v4)), (5, .int (iv v5)), (6, .int (iv v6)), (7, .int (iv (w32 (v7 + 1)))), (8, .int (iv r6))]) C dX9_leastWrong_54 7 rfl (by decide) [1, 2, 3, 4, 5, 6, 7, 0, 8] rfl ?_
                refine z_goto 6 C dX9_leastWrong_57 (by decide) ?_
                refine z_drop (lv' := [(0, .ref (G.2.2 + o0)), (1, .int (iv v1)), (2, .int (iv v2)), (3, .int (iv v3)), (4, .int (iv v4)), (5, .int (iv v5)), (6, .int (iv v6)), (7, .int (iv (w32 (v7 + 1))))]) [0, 1, 2, 3, 4, 5, 6, 7] rfl ?_
                exact ih6 v6 (w32 (v7 + 1)) gv6 (w32_rng _) (lp_back h hZ6)
              ·
                have h := (if_neg e9).symm.trans h
                refine z_drop (lv' := [(0, .ref (G.2.2 + o0)), (1, .int (iv v1)), (2, .int (iv v2)), (3, .int (iv v3)), (4, .int (iv v4)), (5, .int (iv v5)), (7, .int (iv v7)), (8, .int (iv r6))]) [0, 1, 2, 3, 4, 5, 7, 8] rfl ?_
                exact hb50 v7 r6  gv7 gr6 _ h hZ6
    exact hL6 _ v6 v7 gv6 gv7 hb6_
  unfold uX9_leastWrong at h
  refine z_iconst C dX9_leastWrong_0 ?_
  refine z_istore (lv' := [(0, .ref (G.2.2 + o0)), (1, .int (iv v1)), (2, .int (iv v2)), (3, .int (iv v3)), (4, .int (iv v4)), (5, .int (iv v5)), (6, .int (iv 0))]) C dX9_leastWrong_1 (by decide) [1, 2, 3, 4, 5, 6, 0] rfl ?_
  refine z_iconst C dX9_leastWrong_3 ?_
  refine z_istore (lv' := [(0, .ref (G.2.2 + o0)), (1, .int (iv v1)), (2, .int (iv v2)), (3, .int (iv v3)), (4, .int (iv v4)), (5, .int (iv v5)), (6, .int (iv 0)), (7, .int (iv 0))]) C dX9_leastWrong_4 (by decide) [1, 2, 3, 4, 5, 6, 7, 0] rfl ?_
  exact hb6 o0 v1 v2 v3 v4 v5 0 0  gv1 gv2 gv3 gv4 gv5 (by decide) (by decide) h

set_option maxHeartbeats 4000000 in
set_option maxRecDepth 100000 in
theorem tX9_steal {G : Gx} {σ : State} (hC : Cy G σ) (o0 : Nat) (v1 : Int) (v2 : Int) {M0 : Mm} (gv1 : rg v1) (gv2 : rg v2) {R : Int × Mm} (h : uX9_steal o0 v1 v2 M0 = some R) : Ct G σ (5) yX9_steal cX9_steal 3 (some .boolean) [.ref (G.2.2 + o0), .int (iv v1), .int (iv v2)] M0 7 895 (Qb R.1 R.2) := by
  refine Ct.of hC.1 (by decide +kernel) (Nat.le_of_ble_eq_true rfl) ?_
  intro p l e R0 s m args below meth c C
  show Jz G σ p l e R0 s m args below meth c 3 7 895 (Qb R.1 R.2) M0 0 0 0 [(0, .ref (G.2.2 + o0)), (1, .int (iv v1)), (2, .int (iv v2))] []
  unfold uX9_steal at h
  refine z_aload_n C dX9_steal_0 0 rfl ?_
  obtain ⟨on1, hon1, h⟩ := bnd h
  refine y_getR C dX9_steal_1 fX9_33 rfl hon1 ?_
  refine z_iload_n C dX9_steal_4 1 rfl ?_
  refine z_iload_n C dX9_steal_5 2 rfl ?_
  obtain ⟨k2, h⟩ := gK_inv h
  obtain ⟨r3, hr3, h⟩ := bnd h
  refine y_cVb (st := []) C dX9_steal_6 mX9_229 k2 (tX8_canTrade hC on1 v1 v2 gv1 gv2 hr3) rfl rfl (Nat.le_of_ble_eq_true rfl) (by decide) (fun br3 => ?_)
  refine z_if_eq 26 C dX9_steal_9 (by decide) (rg01 br3) (fun e4 => ?_) (fun e4 => ?_)
  ·
    have h := (if_pos e4).symm.trans h
    refine z_iconst C dX9_steal_26 ?_
    exact y_zretB C dX9_steal_27 h (by decide)
  ·
    have h := (if_neg e4).symm.trans h
    refine z_aload_n C dX9_steal_12 0 rfl ?_
    obtain ⟨on5, hon5, h⟩ := bnd h
    refine y_getR C dX9_steal_13 fX9_33 rfl hon5 ?_
    obtain ⟨on6, hon6, h⟩ := bnd h
    refine y_getR C dX9_steal_16 fX9_117 rfl hon6 ?_
    obtain ⟨x7, hx7, h⟩ := bnd h
    refine y_getI C dX9_steal_19 fX9_292 rfl hx7 (fun gx7 => ?_)
    refine z_iconst C dX9_steal_22 ?_
    refine z_icmp_eq 28 C dX9_steal_23 (by decide) gx7 (by decide) (fun e8 => ?_) (fun e8 => ?_)
    ·
      have h := (if_pos e8).symm.trans h
      refine z_aload_n C dX9_steal_28 0 rfl ?_
      obtain ⟨on9, hon9, h⟩ := bnd h
      refine y_getR C dX9_steal_29 fX9_40 rfl hon9 ?_
      refine z_aload_n C dX9_steal_32 0 rfl ?_
      obtain ⟨on10, hon10, h⟩ := bnd h
      refine y_getR C dX9_steal_33 fX9_33 rfl hon10 ?_
      obtain ⟨on11, hon11, h⟩ := bnd h
      refine y_getR C dX9_steal_36 fX9_117 rfl hon11 ?_
      obtain ⟨k12, h⟩ := gK_inv h
      obtain ⟨M13, hM13, h⟩ := bnd h
      refine y_cVva (st := []) C dX9_steal_39 mX9_171 k12 (tX2_keep hC on9 on11  hM13) rfl rfl (Nat.le_of_ble_eq_true rfl) (by decide) ?_
      refine z_aload_n C dX9_steal_42 0 rfl ?_
      obtain ⟨on14, hon14, h⟩ := bnd h
      refine y_getR C dX9_steal_43 fX9_33 rfl hon14 ?_
      obtain ⟨on15, hon15, h⟩ := bnd h
      refine y_getR C dX9_steal_46 fX9_117 rfl hon15 ?_
      refine z_iload_n C dX9_steal_49 2 rfl ?_
      obtain ⟨M16, hM16, h⟩ := bnd h
      refine y_putI C dX9_steal_50 fX9_292 rfl rfl rfl rfl hM16 ?_
      refine z_aload_n C dX9_steal_53 0 rfl ?_
      obtain ⟨on17, hon17, h⟩ := bnd h
      refine y_getR C dX9_steal_54 fX9_33 rfl hon17 ?_
      obtain ⟨on18, hon18, h⟩ := bnd h
      refine y_getR C dX9_steal_57 fX9_117 rfl hon18 ?_
      refine z_iload_n C dX9_steal_60 1 rfl ?_
      obtain ⟨M19, hM19, h⟩ := bnd h
      refine y_putI C dX9_steal_61 fX9_295 rfl rfl rfl rfl hM19 ?_
      refine z_iconst C dX9_steal_64 ?_
      exact y_zretB C dX9_steal_65 h (by decide)
    ·
      have h := (if_neg e8).symm.trans h
      refine z_iconst C dX9_steal_26 ?_
      exact y_zretB C dX9_steal_27 h (by decide)

set_option maxHeartbeats 4000000 in
set_option maxRecDepth 100000 in
theorem tX9_forge {G : Gx} {σ : State} (hC : Cy G σ) (o0 : Nat) (v1 : Int) (v2 : Int) {M0 : Mm} (gv1 : rg v1) (gv2 : rg v2) {R : Int × Mm} (h : uX9_forge o0 v1 v2 M0 = some R) : Ct G σ (5) yX9_forge cX9_forge 4 (some .int) [.ref (G.2.2 + o0), .int (iv v1), .int (iv v2)] M0 7 895 (Qi R.1 R.2) := by
  refine Ct.of hC.1 (by decide +kernel) (Nat.le_of_ble_eq_true rfl) ?_
  intro p l e R0 s m args below meth c C
  show Jz G σ p l e R0 s m args below meth c 4 7 895 (Qi R.1 R.2) M0 0 0 0 [(0, .ref (G.2.2 + o0)), (1, .int (iv v1)), (2, .int (iv v2))] []
  unfold uX9_forge at h
  refine z_aload_n C dX9_forge_0 0 rfl ?_
  obtain ⟨on1, hon1, h⟩ := bnd h
  refine y_getR C dX9_forge_1 fX9_33 rfl hon1 ?_
  refine z_iload_n C dX9_forge_4 1 rfl ?_
  obtain ⟨k2, h⟩ := gK_inv h
  obtain ⟨r3, hr3, h⟩ := bnd h
  refine y_cVb (st := []) C dX9_forge_5 mX9_183 k2 (tX8_isCoin hC on1 v1 gv1 hr3) rfl rfl (Nat.le_of_ble_eq_true rfl) (by decide) (fun br3 => ?_)
  refine z_if_eq 22 C dX9_forge_8 (by decide) (rg01 br3) (fun e4 => ?_) (fun e4 => ?_)
  ·
    have h := (if_pos e4).symm.trans h
    refine z_iconst C dX9_forge_22 ?_
    exact y_iretB C dX9_forge_23 h (by decide)
  ·
    have h := (if_neg e4).symm.trans h
    refine z_aload_n C dX9_forge_11 0 rfl ?_
    obtain ⟨on5, hon5, h⟩ := bnd h
    refine y_getR C dX9_forge_12 fX9_33 rfl hon5 ?_
    refine z_iload_n C dX9_forge_15 2 rfl ?_
    obtain ⟨k6, h⟩ := gK_inv h
    obtain ⟨r7, hr7, h⟩ := bnd h
    refine y_cVb (st := []) C dX9_forge_16 mX9_138 k6 (tX8_isMint hC on5 v2 gv2 hr7) rfl rfl (Nat.le_of_ble_eq_true rfl) (by decide) (fun br7 => ?_)
    refine z_if_ne 24 C dX9_forge_19 (by decide) (rg01 br7) (fun e8 => ?_) (fun e8 => ?_)
    ·
      have h := (if_neg e8).symm.trans h
      refine z_aload_n C dX9_forge_24 0 rfl ?_
      obtain ⟨on9, hon9, h⟩ := bnd h
      refine y_getR C dX9_forge_25 fX9_33 rfl hon9 ?_
      obtain ⟨on10, hon10, h⟩ := bnd h
      refine y_getR C dX9_forge_28 fX9_117 rfl hon10 ?_
      obtain ⟨x11, hx11, h⟩ := bnd h
      refine y_getI C dX9_forge_31 fX9_292 rfl hx11 (fun gx11 => ?_)
      refine z_iconst C dX9_forge_34 ?_
      refine z_icmp_ne 40 C dX9_forge_35 (by decide) gx11 (by decide) (fun e12 => ?_) (fun e12 => ?_)
      ·
        have h := (if_neg e12).symm.trans h
        refine z_aload_n C dX9_forge_40 0 rfl ?_
        obtain ⟨on13, hon13, h⟩ := bnd h
        refine y_getR C dX9_forge_41 fX9_33 rfl hon13 ?_
        obtain ⟨on14, hon14, h⟩ := bnd h
        refine y_getR C dX9_forge_44 fX9_117 rfl hon14 ?_
        obtain ⟨on15, hon15, h⟩ := bnd h
        refine y_getR C dX9_forge_47 fX9_191 rfl hon15 ?_
        refine z_iload_n C dX9_forge_50 1 rfl ?_
        obtain ⟨x16, hx16, h⟩ := bnd h
        refine y_iald C dX9_forge_51 hx16 (fun gx16 => ?_)
        refine z_aload_n C dX9_forge_52 0 rfl ?_
        obtain ⟨on17, hon17, h⟩ := bnd h
        refine y_getR C dX9_forge_53 fX9_33 rfl hon17 ?_
        obtain ⟨on18, hon18, h⟩ := bnd h
        refine y_getR C dX9_forge_56 fX9_117 rfl hon18 ?_
        obtain ⟨x19, hx19, h⟩ := bnd h
        refine y_getI C dX9_forge_59 fX9_295 rfl hx19 (fun gx19 => ?_)
        refine z_icmp_eq 67 C dX9_forge_62 (by decide) gx16 gx19 (fun e20 => ?_) (fun e20 => ?_)
        ·
          have h := (if_pos e20).symm.trans h
          refine z_aload_n C dX9_forge_67 0 rfl ?_
          obtain ⟨on21, hon21, h⟩ := bnd h
          refine y_getR C dX9_forge_68 fX9_33 rfl hon21 ?_
          refine z_aload_n C dX9_forge_71 0 rfl ?_
          obtain ⟨on22, hon22, h⟩ := bnd h
          refine y_getR C dX9_forge_72 fX9_33 rfl hon22 ?_
          obtain ⟨on23, hon23, h⟩ := bnd h
          refine y_getR C dX9_forge_75 fX9_117 rfl hon23 ?_
          obtain ⟨on24, hon24, h⟩ := bnd h
          refine y_getR C dX9_forge_78 fX9_188 rfl hon24 ?_
          refine z_iload_n C dX9_forge_81 1 rfl ?_
          obtain ⟨x25, hx25, h⟩ := bnd h
          refine y_iald C dX9_forge_82 hx25 (fun gx25 => ?_)
          refine z_aload_n C dX9_forge_83 0 rfl ?_
          obtain ⟨on26, hon26, h⟩ := bnd h
          refine y_getR C dX9_forge_84 fX9_33 rfl hon26 ?_
          obtain ⟨on27, hon27, h⟩ := bnd h
          refine y_getR C dX9_forge_87 fX9_117 rfl hon27 ?_
          obtain ⟨on28, hon28, h⟩ := bnd h
          refine y_getR C dX9_forge_90 fX9_197 rfl hon28 ?_
          refine z_iload_n C dX9_forge_93 1 rfl ?_
          obtain ⟨x29, hx29, h⟩ := bnd h
          refine y_iald C dX9_forge_94 hx29 (fun gx29 => ?_)
          refine z_iload_n C dX9_forge_95 2 rfl ?_
          obtain ⟨k30, h⟩ := gK_inv h
          obtain ⟨r31, hr31, h⟩ := bnd h
          refine y_cVi (st := []) C dX9_forge_96 mX9_160 k30 (tX8_obstacle hC on21 x25 x29 v2 gx25 gx29 gv2 hr31) rfl rfl (Nat.le_of_ble_eq_true rfl) (by decide) (fun gr31 => ?_)
          refine z_istore_n (lv' := [(0, .ref (G.2.2 + o0)), (1, .int (iv v1)), (2, .int (iv v2)), (3, .int (iv r31))]) C dX9_forge_99 rfl (by decide) [1, 2, 3, 0] rfl ?_
          refine z_iload_n C dX9_forge_100 3 rfl ?_
          refine z_if_eq 106 C dX9_forge_101 (by decide) gr31 (fun e32 => ?_) (fun e32 => ?_)
          ·
            have h := (if_pos e32).symm.trans h
            refine z_aload_n C dX9_forge_106 0 rfl ?_
            obtain ⟨on33, hon33, h⟩ := bnd h
            refine y_getR C dX9_forge_107 fX9_33 rfl hon33 ?_
            obtain ⟨k34, h⟩ := gK_inv h
            obtain ⟨r35, hr35, h⟩ := bnd h
            refine y_cVi (st := []) C dX9_forge_110 mX9_167 k34 (tX8_strokesLeft hC on33  hr35) rfl rfl (Nat.le_of_ble_eq_true rfl) (by decide) (fun gr35 => ?_)
            refine z_iconst C dX9_forge_113 ?_
            refine z_icmp_ge 119 C dX9_forge_114 (by decide) gr35 (by decide) (fun e36 => ?_) (fun e36 => ?_)
            ·
              have h := (if_pos e36).symm.trans h
              refine z_aload_n C dX9_forge_119 0 rfl ?_
              obtain ⟨on37, hon37, h⟩ := bnd h
              refine y_getR C dX9_forge_120 fX9_40 rfl hon37 ?_
              refine z_aload_n C dX9_forge_123 0 rfl ?_
              obtain ⟨on38, hon38, h⟩ := bnd h
              refine y_getR C dX9_forge_124 fX9_33 rfl hon38 ?_
              obtain ⟨on39, hon39, h⟩ := bnd h
              refine y_getR C dX9_forge_127 fX9_117 rfl hon39 ?_
              obtain ⟨k40, h⟩ := gK_inv h
              obtain ⟨M41, hM41, h⟩ := bnd h
              refine y_cVva (st := []) C dX9_forge_130 mX9_171 k40 (tX2_keep hC on37 on39  hM41) rfl rfl (Nat.le_of_ble_eq_true rfl) (by decide) ?_
              refine z_aload_n C dX9_forge_133 0 rfl ?_
              obtain ⟨on42, hon42, h⟩ := bnd h
              refine y_getR C dX9_forge_134 fX9_33 rfl hon42 ?_
              refine z_iload_n C dX9_forge_137 1 rfl ?_
              refine z_aload_n C dX9_forge_138 0 rfl ?_
              obtain ⟨on43, hon43, h⟩ := bnd h
              refine y_getR C dX9_forge_139 fX9_33 rfl hon43 ?_
              obtain ⟨on44, hon44, h⟩ := bnd h
              refine y_getR C dX9_forge_142 fX9_117 rfl hon44 ?_
              obtain ⟨x45, hx45, h⟩ := bnd h
              refine y_getI C dX9_forge_145 fX9_292 rfl hx45 (fun gx45 => ?_)
              refine z_iload_n C dX9_forge_148 2 rfl ?_
              refine z_iconst C dX9_forge_149 ?_
              refine z_iconst C dX9_forge_150 ?_
              obtain ⟨k46, h⟩ := gK_inv h
              obtain ⟨M47, hM47, h⟩ := bnd h
              refine y_cVv (st := []) C dX9_forge_151 mX9_179 k46 (tX8_strike hC on42 v1 x45 v2 (-1) 1 gv1 gx45 gv2 (by decide) (by decide) hM47) rfl rfl (Nat.le_of_ble_eq_true rfl) (by decide) ?_
              refine z_iconst C dX9_forge_154 ?_
              exact y_iretB C dX9_forge_155 h (by decide)
            ·
              have h := (if_neg e36).symm.trans h
              refine z_iconst C dX9_forge_117 ?_
              exact y_iretB C dX9_forge_118 h (by decide)
          ·
            have h := (if_neg e32).symm.trans h
            refine z_iload_n C dX9_forge_104 3 rfl ?_
            exact y_iretB C dX9_forge_105 h gr31
        ·
          have h := (if_neg e20).symm.trans h
          refine z_iconst C dX9_forge_65 ?_
          exact y_iretB C dX9_forge_66 h (by decide)
      ·
        have h := (if_pos e12).symm.trans h
        refine z_iconst C dX9_forge_38 ?_
        exact y_iretB C dX9_forge_39 h (by decide)
    ·
      have h := (if_pos e8).symm.trans h
      refine z_iconst C dX9_forge_22 ?_
      exact y_iretB C dX9_forge_23 h (by decide)

set_option maxHeartbeats 4000000 in
set_option maxRecDepth 100000 in
theorem tX9_day {G : Gx} {σ : State} (hC : Cy G σ) (o0 : Nat) {M0 : Mm}  {R : Int × Mm} (h : uX9_day o0 M0 = some R) : Ct G σ (5) yX9_day cX9_day 1 (some .int) [.ref (G.2.2 + o0)] M0 7 895 (Qi R.1 R.2) := by
  refine Ct.of hC.1 (by decide +kernel) (Nat.le_of_ble_eq_true rfl) ?_
  intro p l e R0 s m args below meth c C
  show Jz G σ p l e R0 s m args below meth c 1 7 895 (Qi R.1 R.2) M0 0 0 0 [(0, .ref (G.2.2 + o0))] []
  unfold uX9_day at h
  refine z_aload_n C dX9_day_0 0 rfl ?_
  obtain ⟨on1, hon1, h⟩ := bnd h
  refine y_getR C dX9_day_1 fX9_33 rfl hon1 ?_
  obtain ⟨on2, hon2, h⟩ := bnd h
  refine y_getR C dX9_day_4 fX9_117 rfl hon2 ?_
  obtain ⟨x3, hx3, h⟩ := bnd h
  refine y_getI C dX9_day_7 fX9_298 rfl hx3 (fun gx3 => ?_)
  refine z_sipush C dX9_day_10 (by decide) ?_
  refine z_icmp_lt 18 C dX9_day_13 (by decide) gx3 (by decide) (fun e4 => ?_) (fun e4 => ?_)
  ·
    have h := (if_pos e4).symm.trans h
    refine z_aload_n C dX9_day_18 0 rfl ?_
    obtain ⟨on5, hon5, h⟩ := bnd h
    refine y_getR C dX9_day_19 fX9_40 rfl hon5 ?_
    refine z_aload_n C dX9_day_22 0 rfl ?_
    obtain ⟨on6, hon6, h⟩ := bnd h
    refine y_getR C dX9_day_23 fX9_33 rfl hon6 ?_
    obtain ⟨on7, hon7, h⟩ := bnd h
    refine y_getR C dX9_day_26 fX9_117 rfl hon7 ?_
    obtain ⟨k8, h⟩ := gK_inv h
    obtain ⟨M9, hM9, h⟩ := bnd h
    refine y_cVva (st := []) C dX9_day_29 mX9_171 k8 (tX2_keep hC on5 on7  hM9) rfl rfl (Nat.le_of_ble_eq_true rfl) (by decide) ?_
    refine z_aload_n C dX9_day_32 0 rfl ?_
    obtain ⟨on10, hon10, h⟩ := bnd h
    refine y_getR C dX9_day_33 fX9_33 rfl hon10 ?_
    obtain ⟨on11, hon11, h⟩ := bnd h
    refine y_getR C dX9_day_36 fX9_117 rfl hon11 ?_
    refine z_dup C dX9_day_39 rfl ?_
    obtain ⟨x12, hx12, h⟩ := bnd h
    refine y_getI C dX9_day_40 fX9_298 rfl hx12 (fun gx12 => ?_)
    refine z_iconst C dX9_day_43 ?_
    refine y_iadd C dX9_day_44 ?_
    obtain ⟨M13, hM13, h⟩ := bnd h
    refine y_putI C dX9_day_45 fX9_298 rfl rfl rfl rfl hM13 ?_
    refine z_aload_n C dX9_day_48 0 rfl ?_
    obtain ⟨on14, hon14, h⟩ := bnd h
    refine y_getR C dX9_day_49 fX9_33 rfl hon14 ?_
    obtain ⟨on15, hon15, h⟩ := bnd h
    refine y_getR C dX9_day_52 fX9_117 rfl hon15 ?_
    obtain ⟨k16, h⟩ := gK_inv h
    obtain ⟨M17, hM17, h⟩ := bnd h
    refine y_cVv (st := []) C dX9_day_55 mX9_301 k16 (tX1_bringDieBack hC on15  hM17) rfl rfl (Nat.le_of_ble_eq_true rfl) (by decide) ?_
    refine z_aload_n C dX9_day_58 0 rfl ?_
    obtain ⟨on18, hon18, h⟩ := bnd h
    refine y_getR C dX9_day_59 fX9_33 rfl hon18 ?_
    obtain ⟨on19, hon19, h⟩ := bnd h
    refine y_getR C dX9_day_62 fX9_117 rfl hon19 ?_
    obtain ⟨x20, hx20, h⟩ := bnd h
    refine y_getI C dX9_day_65 fX9_298 rfl hx20 (fun gx20 => ?_)
    exact y_iretB C dX9_day_68 h gx20
  ·
    have h := (if_neg e4).symm.trans h
    refine z_iconst C dX9_day_16 ?_
    exact y_iretB C dX9_day_17 h (by decide)

set_option maxHeartbeats 4000000 in
set_option maxRecDepth 100000 in
theorem tX9_rob {G : Gx} {σ : State} (hC : Cy G σ) (o0 : Nat) (v1 : Int) (v2 : Int) {M0 : Mm} (gv1 : rg v1) (gv2 : rg v2) {R : Int × Mm} (h : uX9_rob o0 v1 v2 M0 = some R) : Ct G σ (5) yX9_rob cX9_rob 3 (some .boolean) [.ref (G.2.2 + o0), .int (iv v1), .int (iv v2)] M0 7 895 (Qb R.1 R.2) := by
  refine Ct.of hC.1 (by decide +kernel) (Nat.le_of_ble_eq_true rfl) ?_
  intro p l e R0 s m args below meth c C
  show Jz G σ p l e R0 s m args below meth c 3 7 895 (Qb R.1 R.2) M0 0 0 0 [(0, .ref (G.2.2 + o0)), (1, .int (iv v1)), (2, .int (iv v2))] []
  unfold uX9_rob at h
  refine z_aload_n C dX9_rob_0 0 rfl ?_
  obtain ⟨on1, hon1, h⟩ := bnd h
  refine y_getR C dX9_rob_1 fX9_33 rfl hon1 ?_
  refine z_iload_n C dX9_rob_4 1 rfl ?_
  obtain ⟨k2, h⟩ := gK_inv h
  obtain ⟨r3, hr3, h⟩ := bnd h
  refine y_cVb (st := []) C dX9_rob_5 mX9_157 k2 (tX8_isAlive hC on1 v1 gv1 hr3) rfl rfl (Nat.le_of_ble_eq_true rfl) (by decide) (fun br3 => ?_)
  refine z_if_eq 38 C dX9_rob_8 (by decide) (rg01 br3) (fun e4 => ?_) (fun e4 => ?_)
  ·
    have h := (if_pos e4).symm.trans h
    refine z_iconst C dX9_rob_38 ?_
    exact y_zretB C dX9_rob_39 h (by decide)
  ·
    have h := (if_neg e4).symm.trans h
    refine z_aload_n C dX9_rob_11 0 rfl ?_
    obtain ⟨on5, hon5, h⟩ := bnd h
    refine y_getR C dX9_rob_12 fX9_33 rfl hon5 ?_
    refine z_iload_n C dX9_rob_15 2 rfl ?_
    obtain ⟨k6, h⟩ := gK_inv h
    obtain ⟨r7, hr7, h⟩ := bnd h
    refine y_cVb (st := []) C dX9_rob_16 mX9_183 k6 (tX8_isCoin hC on5 v2 gv2 hr7) rfl rfl (Nat.le_of_ble_eq_true rfl) (by decide) (fun br7 => ?_)
    refine z_if_eq 38 C dX9_rob_19 (by decide) (rg01 br7) (fun e8 => ?_) (fun e8 => ?_)
    ·
      have h := (if_pos e8).symm.trans h
      refine z_iconst C dX9_rob_38 ?_
      exact y_zretB C dX9_rob_39 h (by decide)
    ·
      have h := (if_neg e8).symm.trans h
      refine z_aload_n C dX9_rob_22 0 rfl ?_
      obtain ⟨on9, hon9, h⟩ := bnd h
      refine y_getR C dX9_rob_23 fX9_33 rfl hon9 ?_
      obtain ⟨on10, hon10, h⟩ := bnd h
      refine y_getR C dX9_rob_26 fX9_117 rfl hon10 ?_
      obtain ⟨on11, hon11, h⟩ := bnd h
      refine y_getR C dX9_rob_29 fX9_191 rfl hon11 ?_
      refine z_iload_n C dX9_rob_32 2 rfl ?_
      obtain ⟨x12, hx12, h⟩ := bnd h
      refine y_iald C dX9_rob_33 hx12 (fun gx12 => ?_)
      refine z_iload_n C dX9_rob_34 1 rfl ?_
      refine z_icmp_ne 40 C dX9_rob_35 (by decide) gx12 gv1 (fun e13 => ?_) (fun e13 => ?_)
      ·
        have h := (if_neg e13).symm.trans h
        refine z_aload_n C dX9_rob_40 0 rfl ?_
        obtain ⟨on14, hon14, h⟩ := bnd h
        refine y_getR C dX9_rob_41 fX9_40 rfl hon14 ?_
        refine z_aload_n C dX9_rob_44 0 rfl ?_
        obtain ⟨on15, hon15, h⟩ := bnd h
        refine y_getR C dX9_rob_45 fX9_33 rfl hon15 ?_
        obtain ⟨on16, hon16, h⟩ := bnd h
        refine y_getR C dX9_rob_48 fX9_117 rfl hon16 ?_
        obtain ⟨k17, h⟩ := gK_inv h
        obtain ⟨M18, hM18, h⟩ := bnd h
        refine y_cVva (st := []) C dX9_rob_51 mX9_171 k17 (tX2_keep hC on14 on16  hM18) rfl rfl (Nat.le_of_ble_eq_true rfl) (by decide) ?_
        refine z_aload_n C dX9_rob_54 0 rfl ?_
        obtain ⟨on19, hon19, h⟩ := bnd h
        refine y_getR C dX9_rob_55 fX9_33 rfl hon19 ?_
        obtain ⟨on20, hon20, h⟩ := bnd h
        refine y_getR C dX9_rob_58 fX9_117 rfl hon20 ?_
        obtain ⟨on21, hon21, h⟩ := bnd h
        refine y_getR C dX9_rob_61 fX9_191 rfl hon21 ?_
        refine z_iload_n C dX9_rob_64 2 rfl ?_
        refine z_iload_n C dX9_rob_65 1 rfl ?_
        obtain ⟨M22, hM22, h⟩ := bnd h
        refine y_iast C dX9_rob_66 hM22 ?_
        refine z_iconst C dX9_rob_67 ?_
        exact y_zretB C dX9_rob_68 h (by decide)
      ·
        have h := (if_pos e13).symm.trans h
        refine z_iconst C dX9_rob_38 ?_
        exact y_zretB C dX9_rob_39 h (by decide)
