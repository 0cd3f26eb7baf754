set_option maxHeartbeats 4000000 in
set_option maxRecDepth 100000 in
theorem tX10_worthOf {G : Gx} {σ : State} (hC : Cy G σ) (o0 : Nat) (v1 : Int) (v2 : Int) (v3 : Int) (v4 : Int) (v5 : Int) (v6 : Int) {M0 : Mm} (gv1 : rg v1) (gv2 : rg v2) (gv3 : rg v3) (gv4 : rg v4) (gv5 : rg v5) (gv6 : rg v6) {R : Int} (h : uX10_worthOf o0 v1 v2 v3 v4 v5 v6 M0 = some R) : Ct G σ (3) yX10_worthOf cX10_worthOf 10 (some .int) [.ref (G.2.2 + o0), .int (iv v1), .int (iv v2), .int (iv v3), .int (iv v4), .int (iv v5), .int (iv v6)] M0 0 0 (Qi R M0) := by
  refine Ct.of hC.1 (by decide +kernel) (Nat.le_of_ble_eq_true rfl) ?_
  intro p l e R0 s m args below meth c C
  show Jz G σ p l e R0 s m args below meth c 10 0 0 (Qi R M0) M0 0 0 0 [(0, .ref (G.2.2 + o0)), (1, .int (iv v1)), (2, .int (iv v2)), (3, .int (iv v3)), (4, .int (iv v4)), (5, .int (iv v5)), (6, .int (iv v6))] []
  have hb63 : ∀ (o0 : Nat) (v4 : Int) (v5 : Int) (v6 : Int) (v7 : Int) (v8 : Int) (v9 : Int), (rg v4) → (rg v5) → (rg v6) → (rg v7) → (rg v8) → (rg v9) → uX10_worthOf_b63 o0 v4 v5 v6 v7 v8 v9 M0 = some R → Jz G σ p l e R0 s m args below meth c 10 0 0 (Qi R M0) M0 0 0 63 [(0, .ref (G.2.2 + o0)), (4, .int (iv v4)), (5, .int (iv v5)), (6, .int (iv v6)), (7, .int (iv v7)), (8, .int (iv v8)), (9, .int (iv v9))] [] := by
    intro o0 v4 v5 v6 v7 v8 v9  gv4 gv5 gv6 gv7 gv8 gv9 h
    unfold uX10_worthOf_b63 at h
    refine z_aload_n C dX10_worthOf_63 0 rfl ?_
    refine z_iload C dX10_worthOf_64 4 rfl ?_
    refine z_iload C dX10_worthOf_66 5 rfl ?_
    refine z_iload C dX10_worthOf_68 2 rfl ?_
    obtain ⟨k1, h⟩ := gK_inv h
    obtain ⟨r2, hr2, h⟩ := bnd h
    refine y_cVi (st := []) C dX10_worthOf_70 mX10_265 k1 (tX10_wrongStroke hC o0 v7 v8 v5 gv7 gv8 gv5 hr2) rfl rfl (Nat.le_of_ble_eq_true rfl) (by decide) (fun gr2 => ?_)
    refine z_if_eq 80 C dX10_worthOf_73 (by decide) gr2 (fun e3 => ?_) (fun e3 => ?_)
    ·
      have h := (if_pos e3).symm.trans h
      refine z_iload C dX10_worthOf_80 4 rfl ?_
      refine z_aload_n C dX10_worthOf_82 0 rfl ?_
      refine z_iload C dX10_worthOf_83 1 rfl ?_
      refine z_iload C dX10_worthOf_85 6 rfl ?_
      refine z_iload C dX10_worthOf_87 3 rfl ?_
      obtain ⟨k4, h⟩ := gK_inv h
      obtain ⟨r5, hr5, h⟩ := bnd h
      refine y_cVi (st := [.int (iv v7)]) C dX10_worthOf_89 mX10_291 k4 (tX10_hundredths hC o0 v4 v9 v6 gv4 gv9 gv6 hr5) rfl rfl (Nat.le_of_ble_eq_true rfl) (by decide) (fun gr5 => ?_)
      refine y_imul C dX10_worthOf_92 ?_
      refine z_bipush C dX10_worthOf_93 (by decide) ?_
      obtain ⟨x6, hx6, h⟩ := bnd h
      refine y_idiv C dX10_worthOf_95 hx6 (fun gx6 => ?_)
      exact y_iretP C dX10_worthOf_96 h gx6
    ·
      have h := (if_neg e3).symm.trans h
      refine z_iconst C dX10_worthOf_76 ?_
      refine z_goto 96 C dX10_worthOf_77 (by decide) ?_
      exact y_iretP C dX10_worthOf_96 h (by decide)
  unfold uX10_worthOf at h
  refine z_aload_n C dX10_worthOf_0 0 rfl ?_
  refine z_iload_n C dX10_worthOf_1 1 rfl ?_
  refine z_iconst C dX10_worthOf_2 ?_
  obtain ⟨k7, h⟩ := gK_inv h
  obtain ⟨r8, hr8, h⟩ := bnd h
  refine y_cVi (st := []) C dX10_worthOf_3 mX10_256 k7 (tX10_ofCoin hC o0 v1 0 gv1 (by decide) hr8) rfl rfl (Nat.le_of_ble_eq_true rfl) (by decide) (fun gr8 => ?_)
  refine z_istore (lv' := [(0, .ref (G.2.2 + o0)), (1, .int (iv v1)), (2, .int (iv v2)), (3, .int (iv v3)), (4, .int (iv v4)), (5, .int (iv v5)), (6, .int (iv v6)), (7, .int (iv r8))]) C dX10_worthOf_6 (by decide) [1, 2, 3, 4, 5, 6, 7, 0] rfl ?_
  refine z_aload_n C dX10_worthOf_8 0 rfl ?_
  refine z_iload_n C dX10_worthOf_9 1 rfl ?_
  refine z_iconst C dX10_worthOf_10 ?_
  obtain ⟨k9, h⟩ := gK_inv h
  obtain ⟨r10, hr10, h⟩ := bnd h
  refine y_cVi (st := []) C dX10_worthOf_11 mX10_256 k9 (tX10_ofCoin hC o0 v1 2 gv1 (by decide) hr10) rfl rfl (Nat.le_of_ble_eq_true rfl) (by decide) (fun gr10 => ?_)
  refine z_istore (lv' := [(0, .ref (G.2.2 + o0)), (1, .int (iv v1)), (2, .int (iv v2)), (3, .int (iv v3)), (4, .int (iv v4)), (5, .int (iv v5)), (6, .int (iv v6)), (7, .int (iv r8)), (8, .int (iv r10))]) C dX10_worthOf_14 (by decide) [1, 2, 3, 4, 5, 6, 7, 8, 0] rfl ?_
  refine z_aload_n C dX10_worthOf_16 0 rfl ?_
  refine z_iload_n C dX10_worthOf_17 1 rfl ?_
  obtain ⟨k11, h⟩ := gK_inv h
  obtain ⟨r12, hr12, h⟩ := bnd h
  refine y_cVi (st := []) C dX10_worthOf_18 mX10_253 k11 (tX10_topOf hC o0 v1 gv1 hr12) rfl rfl (Nat.le_of_ble_eq_true rfl) (by decide) (fun gr12 => ?_)
  refine z_istore (lv' := [(0, .ref (G.2.2 + o0)), (1, .int (iv v1)), (2, .int (iv v2)), (3, .int (iv v3)), (4, .int (iv v4)), (5, .int (iv v5)), (6, .int (iv v6)), (7, .int (iv r8)), (8, .int (iv r10)), (9, .int (iv r12))]) C dX10_worthOf_21 (by decide) [1, 2, 3, 4, 5, 6, 7, 8, 9, 0] rfl ?_
  refine z_iload_n C dX10_worthOf_23 2 rfl ?_
  refine z_iconst C dX10_worthOf_24 ?_
  refine z_icmp_le 63 C dX10_worthOf_25 (by decide) gv2 (by decide) (fun e13 => ?_) (fun e13 => ?_)
  ·
    have h := (if_pos e13).symm.trans h
    refine z_drop (lv' := [(0, .ref (G.2.2 + o0)), (4, .int (iv v4)), (5, .int (iv v5)), (6, .int (iv v6)), (7, .int (iv r8)), (8, .int (iv r10)), (9, .int (iv r12))]) [0, 4, 5, 6, 7, 8, 9] rfl ?_
    exact hb63 o0 v4 v5 v6 r8 r10 r12  gv4 gv5 gv6 gr8 gr10 gr12 h
  ·
    have h := (if_neg e13).symm.trans h
    refine z_aload_n C dX10_worthOf_28 0 rfl ?_
    refine z_iload C dX10_worthOf_29 7 rfl ?_
    refine z_iload C dX10_worthOf_31 8 rfl ?_
    refine z_iload_n C dX10_worthOf_33 2 rfl ?_
    refine z_iconst C dX10_worthOf_34 ?_
    refine y_isub C dX10_worthOf_35 ?_
    obtain ⟨k14, h⟩ := gK_inv h
    obtain ⟨r15, hr15, h⟩ := bnd h
    refine y_cVi (st := []) C dX10_worthOf_36 mX10_265 k14 (tX10_wrongStroke hC o0 r8 r10 (w32 (v2 - 2)) gr8 gr10 (w32_rng _) hr15) rfl rfl (Nat.le_of_ble_eq_true rfl) (by decide) (fun gr15 => ?_)
    refine z_if_eq 44 C dX10_worthOf_39 (by decide) gr15 (fun e16 => ?_) (fun e16 => ?_)
    ·
      have h := (if_pos e16).symm.trans h
      refine z_iload C dX10_worthOf_44 7 rfl ?_
      refine z_aload_n C dX10_worthOf_46 0 rfl ?_
      refine z_iload_n C dX10_worthOf_47 2 rfl ?_
      refine z_iconst C dX10_worthOf_48 ?_
      refine y_isub C dX10_worthOf_49 ?_
      refine z_iconst C dX10_worthOf_50 ?_
      obtain ⟨k17, h⟩ := gK_inv h
      obtain ⟨r18, hr18, h⟩ := bnd h
      refine y_cVi (st := [.int (iv r8)]) C dX10_worthOf_51 mX10_262 k17 (tX10_ofMint hC o0 (w32 (v2 - 2)) 0 (w32_rng _) (by decide) hr18) rfl rfl (Nat.le_of_ble_eq_true rfl) (by decide) (fun gr18 => ?_)
      refine y_isub C dX10_worthOf_54 ?_
      refine z_istore (lv' := [(0, .ref (G.2.2 + o0)), (1, .int (iv v1)), (2, .int (iv v2)), (3, .int (iv v3)), (4, .int (iv v4)), (5, .int (iv v5)), (6, .int (iv v6)), (7, .int (iv (w32 (r8 - r18)))), (8, .int (iv r10)), (9, .int (iv r12))]) C dX10_worthOf_55 (by decide) [1, 2, 3, 4, 5, 6, 7, 0, 8, 9] rfl ?_
      refine y_iinc (lv' := [(0, .ref (G.2.2 + o0)), (1, .int (iv v1)), (2, .int (iv v2)), (3, .int (iv v3)), (4, .int (iv v4)), (5, .int (iv v5)), (6, .int (iv v6)), (7, .int (iv (w32 (r8 - r18)))), (8, .int (iv (w32 (r10 + 1)))), (9, .int (iv r12))]) C dX10_worthOf_57 8 rfl (by decide) [1, 2, 3, 4, 5, 6, 7, 8, 0, 9] rfl ?_
      refine z_iload_n C dX10_worthOf_60 3 rfl ?_
      refine z_istore (lv' := [(0, .ref (G.2.2 + o0)), (1, .int (iv v1)), (2, .int (iv v2)), (3, .int (iv v3)), (4, .int (iv v4)), (5, .int (iv v5)), (6, .int (iv v6)), (7, .int (iv (w32 (r8 - r18)))), (8, .int (iv (w32 (r10 + 1)))), (9, .int (iv v3))]) C dX10_worthOf_61 (by decide) [1, 2, 3, 4, 5, 6, 7, 8, 9, 0] rfl ?_
      refine z_drop (lv' := [(0, .ref (G.2.2 + o0)), (4, .int (iv v4)), (5, .int (iv v5)), (6, .int (iv v6)), (7, .int (iv (w32 (r8 - r18)))), (8, .int (iv (w32 (r10 + 1)))), (9, .int (iv v3))]) [0, 4, 5, 6, 7, 8, 9] rfl ?_
      exact hb63 o0 v4 v5 v6 (w32 (r8 - r18)) (w32 (r10 + 1)) v3  gv4 gv5 gv6 (w32_rng _) (w32_rng _) gv3 h
    ·
      have h := (if_neg e16).symm.trans h
      refine z_iconst C dX10_worthOf_42 ?_
      exact y_iretP C dX10_worthOf_43 h (by decide)

set_option maxHeartbeats 4000000 in
set_option maxRecDepth 100000 in
theorem tX10_bestOf {G : Gx} {σ : State} (hC : Cy G σ) (o0 : Nat) (v1 : Int) (v2 : Int) {M0 : Mm} (gv1 : rg v1) (gv2 : rg v2) {R : Int} (h : uX10_bestOf o0 v1 v2 M0 = some R) : Ct G σ (3) yX10_bestOf cX10_bestOf 6 (some .int) [.ref (G.2.2 + o0), .int (iv v1), .int (iv v2)] M0 0 0 (Qi R M0) := by
  refine Ct.of hC.1 (by decide +kernel) (Nat.le_of_ble_eq_true rfl) ?_
  intro p l e R0 s m args below meth c C
  show Jz G σ p l e R0 s m args below meth c 6 0 0 (Qi R M0) M0 0 0 0 [(0, .ref (G.2.2 + o0)), (1, .int (iv v1)), (2, .int (iv v2))] []
  have hb43 : ∀ (v3 : Int), (rg v3) → uX10_bestOf_b43 v3 M0 = some R → Jz G σ p l e R0 s m args below meth c 6 0 0 (Qi R M0) M0 0 0 43 [(3, .int (iv v3))] [] := by
    intro v3  gv3 h
    unfold uX10_bestOf_b43 at h
    refine z_iload_n C dX10_bestOf_43 0 rfl ?_
    exact y_iretP C dX10_bestOf_44 h gv3
  have hb7 : ∀ (o0 : Nat) (v1 : Int) (v2 : Int) (v3 : Int) (v4 : Int), (rg v1) → (rg v2) → (rg v3) → (rg v4) → uX10_bestOf_b7 o0 v1 v2 v3 v4 M0 = some R → Jz G σ p l e R0 s m args below meth c 6 0 0 (Qi R M0) M0 0 0 7 [(0, .ref (G.2.2 + o0)), (1, .int (iv v1)), (2, .int (iv v2)), (3, .int (iv v3)), (4, .int (iv v4))] [] := by
    intro o0 v1 v2 v3 v4  gv1 gv2 gv3 gv4 h
    unfold uX10_bestOf_b7 at h
    obtain ⟨b7, hb7_, hc7⟩ := bnd h
    have hL7 : ∀ (n : Nat) (v3 : Int) (v4 : Int), (rg v3) → (rg v4) → lp (uX10_bestOf_f7 o0 v1 v2 M0) n (v3, v4) = some b7 → Jz G σ p l e R0 s m args below meth c 6 0 0 (Qi R M0) M0 0 0 7 [(0, .ref (G.2.2 + o0)), (1, .int (iv v1)), (2, .int (iv v2)), (3, .int (iv v3)), (4, .int (iv v4))] [] := by
      intro n; induction n with
      | zero => intro v3 v4 gv3 gv4 hq; exact (lp_0 hq).elim
      | succ n7 ih7 =>
        intro v3 v4 gv3 gv4 hq
        obtain ⟨z7, h, hZ7⟩ := lp_s hq
        have h : uX10_bestOf_s7 o0 v1 v2 M0 v3 v4 = some z7 := h
        unfold uX10_bestOf_s7 at h
        refine z_iload C dX10_bestOf_7 4 rfl ?_
        refine z_iconst C dX10_bestOf_9 ?_
        refine z_aload_n C dX10_bestOf_10 0 rfl ?_
        obtain ⟨k1, h⟩ := gK_inv h
        obtain ⟨r2, hr2, h⟩ := bnd h
        refine y_cVi (st := [.int (iv 2), .int (iv v4)]) C dX10_bestOf_11 mX10_185 k1 (tX10_mints hC o0  hr2) rfl rfl (Nat.le_of_ble_eq_true rfl) (by decide) (fun gr2 => ?_)
        refine y_iadd C dX10_bestOf_14 ?_
        refine z_icmp_ge 43 C dX10_bestOf_15 (by decide) gv4 (w32_rng _) (fun e3 => ?_) (fun e3 => ?_)
        ·
          have h := (if_pos e3).symm.trans h
          have h : uX10_bestOf_b43 v3 M0 = some R := lp_ex (K := (uX10_bestOf_c7 o0 v1 v2 M0)) h hZ7 hc7
          refine z_drop (lv' := [(3, .int (iv v3))]) [3] rfl ?_
          exact hb43 v3  gv3 h
        ·
          have h := (if_neg e3).symm.trans h
          refine z_aload_n C dX10_bestOf_18 0 rfl ?_
          refine z_iload_n C dX10_bestOf_19 1 rfl ?_
          refine z_iload_n C dX10_bestOf_20 2 rfl ?_
          refine z_iload C dX10_bestOf_21 4 rfl ?_
          obtain ⟨k4, h⟩ := gK_inv h
          obtain ⟨r5, hr5, h⟩ := bnd h
          refine y_cVi (st := []) C dX10_bestOf_23 mX10_318 k4 (tX10_costOf hC o0 v1 v2 v4 gv1 gv2 gv4 hr5) rfl rfl (Nat.le_of_ble_eq_true rfl) (by decide) (fun gr5 => ?_)
          refine z_istore (lv' := [(0, .ref (G.2.2 + o0)), (1, .int (iv v1)), (2, .int (iv v2)), (3, .int (iv v3)), (4, .int (iv v4)), (5, .int (iv r5))]) C dX10_bestOf_26 (by decide) [1, 2, 3, 4, 5, 0] rfl ?_
          refine z_iload C dX10_bestOf_28 5 rfl ?_
          refine z_iload_n C dX10_bestOf_30 3 rfl ?_
          refine z_icmp_ge 37 C dX10_bestOf_31 (by decide) gr5 gv3 (fun e6 => ?_) (fun e6 => ?_)
          ·
            have h := (if_pos e6).symm.trans h
            refine y_iinc (lv' := [(0, .ref (G.2.2 + o0)), (1, .int (iv v1)), (2, .int (iv v2)), (3, .int (iv v3)), (4, .int (iv (w32 (v4 + 1)))), (5, .int (iv r5))]) C dX10_bestOf_37 4 rfl (by decide) [1, 2, 3, 4, 0, 5] rfl ?_
            refine z_goto 7 C dX10_bestOf_40 (by decide) ?_
            refine z_drop (lv' := [(0, .ref (G.2.2 + o0)), (1, .int (iv v1)), (2, .int (iv v2)), (3, .int (iv v3)), (4, .int (iv (w32 (v4 + 1))))]) [0, 1, 2, 3, 4] rfl ?_
            exact ih7 v3 (w32 (v4 + 1)) gv3 (w32_rng _) (lp_back h hZ7)
          ·
            have h := (if_neg e6).symm.trans h
            refine z_iload C dX10_bestOf_34 5 rfl ?_
            refine z_istore_n (lv' := [(0, .ref (G.2.2 + o0)), (1, .int (iv v1)), (2, .int (iv v2)), (3, .int (iv r5)), (4, .int (iv v4)), (5, .int (iv r5))]) C dX10_bestOf_36 rfl (by decide) [1, 2, 3, 0, 4, 5] rfl ?_
            refine y_iinc (lv' := [(0, .ref (G.2.2 + o0)), (1, .int (iv v1)), (2, .int (iv v2)), (3, .int (iv r5)), (4, .int (iv (w32 (v4 + 1)))), (5, .int (iv r5))]) C dX10_bestOf_37 4 rfl (by decide) [1, 2, 3, 4, 0, 5] rfl ?_
            refine z_goto 7 C dX10_bestOf_40 (by decide) ?_
            refine z_drop (lv' := [(0, .ref (G.2.2 + o0)), (1, .int (iv v1)), (2, .int (iv v2)), (3, .int (iv r5)), (4, .int (iv (w32 (v4 + 1))))]) [0, 1, 2, 3, 4] rfl ?_
            exact ih7 r5 (w32 (v4 + 1)) gr5 (w32_rng _) (lp_back h hZ7)
    exact hL7 _ v3 v4 gv3 gv4 hb7_
  unfold uX10_bestOf at h
  refine z_ldcw C dX10_bestOf_0 kX10_314 ?_
  refine z_istore_n (lv' := [(0, .ref (G.2.2 + o0)), (1, .int (iv v1)), (2, .int (iv v2)), (3, .int (iv 100000000))]) C dX10_bestOf_3 rfl (by decide) [1, 2, 3, 0] rfl ?_
  refine z_iconst C dX10_bestOf_4 ?_
  refine z_istore (lv' := [(0, .ref (G.2.2 + o0)), (1, .int (iv v1)), (2, .int (iv v2)), (3, .int (iv 100000000)), (4, .int (iv 0))]) C dX10_bestOf_5 (by decide) [1, 2, 3, 4, 0] rfl ?_
  exact hb7 o0 v1 v2 100000000 0  gv1 gv2 (by decide) (by decide) h

set_option maxHeartbeats 4000000 in
set_option maxRecDepth 100000 in
theorem tX10_pay {G : Gx} {σ : State} (hC : Cy G σ) (o0 : Nat) (v1 : Int) (v2 : Int) (v3 : Int) (v4 : Int) {M0 : Mm} (gv1 : rg v1) (gv2 : rg v2) (gv3 : rg v3) (gv4 : rg v4) {R : Mm} (h : uX10_pay o0 v1 v2 v3 v4 M0 = some R) : Ct G σ (3) yX10_pay cX10_pay 8 none [.ref (G.2.2 + o0), .int (iv v1), .int (iv v2), .int (iv v3), .int (iv v4)] M0 0 0 (Qv R) := by
  refine Ct.of hC.1 (by decide +kernel) (Nat.le_of_ble_eq_true rfl) ?_
  intro p l e R0 s m args below meth c C
  show Jz G σ p l e R0 s m args below meth c 8 0 0 (Qv R) M0 0 0 0 [(0, .ref (G.2.2 + o0)), (1, .int (iv v1)), (2, .int (iv v2)), (3, .int (iv v3)), (4, .int (iv v4))] []
  have hb170 : ∀ (o0 : Nat) (v1 : Int) (v2 : Int) (v3 : Int) (v4 : Int) (v5 : Int) (v6 : Int) (M : Mm), (rg v1) → (rg v2) → (rg v3) → (rg v4) → (rg v5) → (rg v6) → uX10_pay_b170 o0 v1 v2 v3 v4 v5 v6 M = some R → Jz G σ p l e R0 s m args below meth c 8 0 0 (Qv R) M 0 0 170 [(0, .ref (G.2.2 + o0)), (1, .int (iv v1)), (2, .int (iv v2)), (3, .int (iv v3)), (4, .int (iv v4)), (5, .int (iv v5)), (6, .int (iv v6))] [] := by
    intro o0 v1 v2 v3 v4 v5 v6 M gv1 gv2 gv3 gv4 gv5 gv6 h
    unfold uX10_pay_b170 at h
    refine z_aload_n C dX10_pay_170 0 rfl ?_
    refine z_iload_n C dX10_pay_171 1 rfl ?_
    refine z_iload_n C dX10_pay_172 2 rfl ?_
    refine z_iload_n C dX10_pay_173 3 rfl ?_
    refine z_iload C dX10_pay_174 4 rfl ?_
    refine z_iload C dX10_pay_176 5 rfl ?_
    refine z_iload C dX10_pay_178 6 rfl ?_
    obtain ⟨k1, h⟩ := gK_inv h
    obtain ⟨M2, hM2, h⟩ := bnd h
    refine y_cVv (st := []) C dX10_pay_180 mX10_303 k1 (tX10_keepSale hC o0 v1 v2 v3 v4 v5 v6 gv1 gv2 gv3 gv4 gv5 gv6 hM2) rfl rfl (Nat.le_of_ble_eq_true rfl) (by decide) ?_
    exact y_retV C dX10_pay_183 h
  have hb100 : ∀ (o0 : Nat) (v1 : Int) (v2 : Int) (v3 : Int) (v4 : Int) (v5 : Int) (v6 : Int) (v7 : Int) (M : Mm), (rg v1) → (rg v2) → (rg v3) → (rg v4) → (rg v5) → (rg v6) → (rg v7) → uX10_pay_b100 o0 v1 v2 v3 v4 v5 v6 v7 M = some R → Jz G σ p l e R0 s m args below meth c 8 0 0 (Qv R) M 0 0 100 [(0, .ref (G.2.2 + o0)), (1, .int (iv v1)), (2, .int (iv v2)), (3, .int (iv v3)), (4, .int (iv v4)), (5, .int (iv v5)), (6, .int (iv v6)), (7, .int (iv v7))] [] := by
    intro o0 v1 v2 v3 v4 v5 v6 v7 M gv1 gv2 gv3 gv4 gv5 gv6 gv7 h
    unfold uX10_pay_b100 at h
    obtain ⟨b100, hb100_, hc100⟩ := bnd h
    have hL100 : ∀ (n : Nat) (v7 : Int) (M : Mm), (rg v7) → lp (uX10_pay_f100 o0 v1 v2 v3 v4 v5 v6) n (v7, M) = some b100 → Jz G σ p l e R0 s m args below meth c 8 0 0 (Qv R) M 0 0 100 [(0, .ref (G.2.2 + o0)), (1, .int (iv v1)), (2, .int (iv v2)), (3, .int (iv v3)), (4, .int (iv v4)), (5, .int (iv v5)), (6, .int (iv v6)), (7, .int (iv v7))] [] := by
      intro n; induction n with
      | zero => intro v7 M gv7 hq; exact (lp_0 hq).elim
      | succ n100 ih100 =>
        intro v7 M gv7 hq
        obtain ⟨z100, h, hZ100⟩ := lp_s hq
        have h : uX10_pay_s100 o0 v1 v2 v3 v4 v5 v6 v7 M = some z100 := h
        unfold uX10_pay_s100 at h
        refine z_iload C dX10_pay_100 7 rfl ?_
        refine z_aload_n C dX10_pay_102 0 rfl ?_
        obtain ⟨x3, hx3, h⟩ := bnd h
        refine y_getI C dX10_pay_103 fX10_307 rfl hx3 (fun gx3 => ?_)
        refine z_icmp_ge 170 C dX10_pay_106 (by decide) gv7 gx3 (fun e4 => ?_) (fun e4 => ?_)
        ·
          have h := (if_pos e4).symm.trans h
          have h : uX10_pay_b170 o0 v1 v2 v3 v4 v5 v6 M = some R := lp_ex (K := (uX10_pay_c100 o0 v1 v2 v3 v4 v5 v6)) h hZ100 hc100
          refine z_drop (lv' := [(0, .ref (G.2.2 + o0)), (1, .int (iv v1)), (2, .int (iv v2)), (3, .int (iv v3)), (4, .int (iv v4)), (5, .int (iv v5)), (6, .int (iv v6))]) [0, 1, 2, 3, 4, 5, 6] rfl ?_
          exact hb170 o0 v1 v2 v3 v4 v5 v6 M gv1 gv2 gv3 gv4 gv5 gv6 h
        ·
          have h := (if_neg e4).symm.trans h
          refine z_aload_n C dX10_pay_109 0 rfl ?_
          obtain ⟨on5, hon5, h⟩ := bnd h
          refine y_getR C dX10_pay_110 fX10_55 rfl hon5 ?_
          refine z_iload C dX10_pay_113 7 rfl ?_
          obtain ⟨x6, hx6, h⟩ := bnd h
          refine y_iald C dX10_pay_115 hx6 (fun gx6 => ?_)
          refine z_if_ne 122 C dX10_pay_116 (by decide) gx6 (fun e7 => ?_) (fun e7 => ?_)
          ·
            have h := (if_neg e7).symm.trans h
            refine z_aload_n C dX10_pay_122 0 rfl ?_
            refine z_aload_n C dX10_pay_123 0 rfl ?_
            obtain ⟨on8, hon8, h⟩ := bnd h
            refine y_getR C dX10_pay_124 fX10_43 rfl hon8 ?_
            refine z_iload C dX10_pay_127 7 rfl ?_
            obtain ⟨x9, hx9, h⟩ := bnd h
            refine y_iald C dX10_pay_129 hx9 (fun gx9 => ?_)
            refine z_iload_n C dX10_pay_130 2 rfl ?_
            refine z_iload_n C dX10_pay_131 3 rfl ?_
            refine z_aload_n C dX10_pay_132 0 rfl ?_
            obtain ⟨on10, hon10, h⟩ := bnd h
            refine y_getR C dX10_pay_133 fX10_13 rfl hon10 ?_
            refine z_bipush C dX10_pay_136 (by decide) ?_
            obtain ⟨x11, hx11, h⟩ := bnd h
            refine y_iald C dX10_pay_138 hx11 (fun gx11 => ?_)
            refine z_iconst C dX10_pay_139 ?_
            obtain ⟨k12, h⟩ := gK_inv h
            obtain ⟨M13, hM13, h⟩ := bnd h
            refine y_cVv (st := []) C dX10_pay_140 mX10_275 k12 (tX10_strike hC o0 x9 v2 v3 x11 0 gx9 gv2 gv3 gx11 (by decide) hM13) rfl rfl (Nat.le_of_ble_eq_true rfl) (by decide) ?_
            refine z_aload_n C dX10_pay_143 0 rfl ?_
            obtain ⟨on14, hon14, h⟩ := bnd h
            refine y_getR C dX10_pay_144 fX10_13 rfl hon14 ?_
            refine z_bipush C dX10_pay_147 (by decide) ?_
            refine z_bipush C dX10_pay_149 (by decide) ?_
            refine z_aload_n C dX10_pay_151 0 rfl ?_
            obtain ⟨on15, hon15, h⟩ := bnd h
            refine y_getR C dX10_pay_152 fX10_43 rfl hon15 ?_
            refine z_iload C dX10_pay_155 7 rfl ?_
            obtain ⟨x16, hx16, h⟩ := bnd h
            refine y_iald C dX10_pay_157 hx16 (fun gx16 => ?_)
            refine y_imul C dX10_pay_158 ?_
            refine y_iadd C dX10_pay_159 ?_
            refine z_iconst C dX10_pay_160 ?_
            refine y_iadd C dX10_pay_161 ?_
            refine z_iload_n C dX10_pay_162 2 rfl ?_
            obtain ⟨M17, hM17, h⟩ := bnd h
            refine y_iast C dX10_pay_163 hM17 ?_
            refine y_iinc (lv' := [(0, .ref (G.2.2 + o0)), (1, .int (iv v1)), (2, .int (iv v2)), (3, .int (iv v3)), (4, .int (iv v4)), (5, .int (iv v5)), (6, .int (iv v6)), (7, .int (iv (w32 (v7 + 1))))]) C dX10_pay_164 7 rfl (by decide) [1, 2, 3, 4, 5, 6, 7, 0] rfl ?_
            refine z_goto 100 C dX10_pay_167 (by decide) ?_
            exact ih100 (w32 (v7 + 1)) M17 (w32_rng _) (lp_back h hZ100)
          ·
            have h := (if_pos e7).symm.trans h
            refine z_goto 164 C dX10_pay_119 (by decide) ?_
            refine y_iinc (lv' := [(0, .ref (G.2.2 + o0)), (1, .int (iv v1)), (2, .int (iv v2)), (3, .int (iv v3)), (4, .int (iv v4)), (5, .int (iv v5)), (6, .int (iv v6)), (7, .int (iv (w32 (v7 + 1))))]) C dX10_pay_164 7 rfl (by decide) [1, 2, 3, 4, 5, 6, 7, 0] rfl ?_
            refine z_goto 100 C dX10_pay_167 (by decide) ?_
            exact ih100 (w32 (v7 + 1)) M (w32_rng _) (lp_back h hZ100)
    exact hL100 _ v7 M gv7 hb100_
  have hb97 : ∀ (o0 : Nat) (v1 : Int) (v2 : Int) (v3 : Int) (v4 : Int) (v5 : Int) (v6 : Int) (M : Mm), (rg v1) → (rg v2) → (rg v3) → (rg v4) → (rg v5) → (rg v6) → uX10_pay_b97 o0 v1 v2 v3 v4 v5 v6 M = some R → Jz G σ p l e R0 s m args below meth c 8 0 0 (Qv R) M 0 0 97 [(0, .ref (G.2.2 + o0)), (1, .int (iv v1)), (2, .int (iv v2)), (3, .int (iv v3)), (4, .int (iv v4)), (5, .int (iv v5)), (6, .int (iv v6))] [] := by
    intro o0 v1 v2 v3 v4 v5 v6 M gv1 gv2 gv3 gv4 gv5 gv6 h
    unfold uX10_pay_b97 at h
    refine z_iconst C dX10_pay_97 ?_
    refine z_istore (lv' := [(0, .ref (G.2.2 + o0)), (1, .int (iv v1)), (2, .int (iv v2)), (3, .int (iv v3)), (4, .int (iv v4)), (5, .int (iv v5)), (6, .int (iv v6)), (7, .int (iv 0))]) C dX10_pay_98 (by decide) [1, 2, 3, 4, 5, 6, 7, 0] rfl ?_
    exact hb100 o0 v1 v2 v3 v4 v5 v6 0 M gv1 gv2 gv3 gv4 gv5 gv6 (by decide) h
  have hb9 : ∀ (o0 : Nat) (v1 : Int) (v2 : Int) (v3 : Int) (v4 : Int) (v5 : Int) (v6 : Int) (v7 : Int) (M : Mm), (rg v1) → (rg v2) → (rg v3) → (rg v4) → (rg v5) → (rg v6) → (rg v7) → uX10_pay_b9 o0 v1 v2 v3 v4 v5 v6 v7 M = some R → Jz G σ p l e R0 s m args below meth c 8 0 0 (Qv R) M 0 0 9 [(0, .ref (G.2.2 + o0)), (1, .int (iv v1)), (2, .int (iv v2)), (3, .int (iv v3)), (4, .int (iv v4)), (5, .int (iv v5)), (6, .int (iv v6)), (7, .int (iv v7))] [] := by
    intro o0 v1 v2 v3 v4 v5 v6 v7 M gv1 gv2 gv3 gv4 gv5 gv6 gv7 h
    unfold uX10_pay_b9 at h
    obtain ⟨b9, hb9_, hc9⟩ := bnd h
    have hL9 : ∀ (n : Nat) (v5 : Int) (v6 : Int) (v7 : Int) (M : Mm), (rg v5) → (rg v6) → (rg v7) → lp (uX10_pay_f9 o0 v1 v2 v3 v4) n (v5, v6, v7, M) = some b9 → Jz G σ p l e R0 s m args below meth c 8 0 0 (Qv R) M 0 0 9 [(0, .ref (G.2.2 + o0)), (1, .int (iv v1)), (2, .int (iv v2)), (3, .int (iv v3)), (4, .int (iv v4)), (5, .int (iv v5)), (6, .int (iv v6)), (7, .int (iv v7))] [] := by
      intro n; induction n with
      | zero => intro v5 v6 v7 M gv5 gv6 gv7 hq; exact (lp_0 hq).elim
      | succ n9 ih9 =>
        intro v5 v6 v7 M gv5 gv6 gv7 hq
        obtain ⟨z9, h, hZ9⟩ := lp_s hq
        have h : uX10_pay_s9 o0 v1 v2 v3 v4 v5 v6 v7 M = some z9 := h
        unfold uX10_pay_s9 at h
        refine z_iload C dX10_pay_9 7 rfl ?_
        refine z_aload_n C dX10_pay_11 0 rfl ?_
        obtain ⟨x18, hx18, h⟩ := bnd h
        refine y_getI C dX10_pay_12 fX10_307 rfl hx18 (fun gx18 => ?_)
        refine z_icmp_ge 97 C dX10_pay_15 (by decide) gv7 gx18 (fun e19 => ?_) (fun e19 => ?_)
        ·
          have h := (if_pos e19).symm.trans h
          have h : uX10_pay_b97 o0 v1 v2 v3 v4 v5 v6 M = some R := lp_ex (K := (uX10_pay_c9 o0 v1 v2 v3 v4)) h hZ9 hc9
          refine z_drop (lv' := [(0, .ref (G.2.2 + o0)), (1, .int (iv v1)), (2, .int (iv v2)), (3, .int (iv v3)), (4, .int (iv v4)), (5, .int (iv v5)), (6, .int (iv v6))]) [0, 1, 2, 3, 4, 5, 6] rfl ?_
          exact hb97 o0 v1 v2 v3 v4 v5 v6 M gv1 gv2 gv3 gv4 gv5 gv6 h
        ·
          have h := (if_neg e19).symm.trans h
          refine z_aload_n C dX10_pay_18 0 rfl ?_
          obtain ⟨on20, hon20, h⟩ := bnd h
          refine y_getR C dX10_pay_19 fX10_55 rfl hon20 ?_
          refine z_iload C dX10_pay_22 7 rfl ?_
          obtain ⟨x21, hx21, h⟩ := bnd h
          refine y_iald C dX10_pay_24 hx21 (fun gx21 => ?_)
          refine z_if_ne 31 C dX10_pay_25 (by decide) gx21 (fun e22 => ?_) (fun e22 => ?_)
          ·
            have h := (if_neg e22).symm.trans h
            refine y_iinc (lv' := [(0, .ref (G.2.2 + o0)), (1, .int (iv v1)), (2, .int (iv v2)), (3, .int (iv v3)), (4, .int (iv v4)), (5, .int (iv (w32 (v5 + 1)))), (6, .int (iv v6)), (7, .int (iv v7))]) C dX10_pay_31 5 rfl (by decide) [1, 2, 3, 4, 5, 0, 6, 7] rfl ?_
            refine z_iload C dX10_pay_34 6 rfl ?_
            refine z_aload_n C dX10_pay_36 0 rfl ?_
            obtain ⟨on23, hon23, h⟩ := bnd h
            refine y_getR C dX10_pay_37 fX10_46 rfl hon23 ?_
            refine z_bipush C dX10_pay_40 (by decide) ?_
            refine z_iload C dX10_pay_42 7 rfl ?_
            refine y_imul C dX10_pay_44 ?_
            refine z_aload_n C dX10_pay_45 0 rfl ?_
            obtain ⟨on24, hon24, h⟩ := bnd h
            refine y_getR C dX10_pay_46 fX10_55 rfl hon24 ?_
            refine z_iload C dX10_pay_49 7 rfl ?_
            obtain ⟨x25, hx25, h⟩ := bnd h
            refine y_iald C dX10_pay_51 hx25 (fun gx25 => ?_)
            refine y_iadd C dX10_pay_52 ?_
            obtain ⟨x26, hx26, h⟩ := bnd h
            refine y_iald C dX10_pay_53 hx26 (fun gx26 => ?_)
            refine y_iadd C dX10_pay_54 ?_
            refine z_istore (lv' := [(0, .ref (G.2.2 + o0)), (1, .int (iv v1)), (2, .int (iv v2)), (3, .int (iv v3)), (4, .int (iv v4)), (5, .int (iv (w32 (v5 + 1)))), (6, .int (iv (w32 (v6 + x26)))), (7, .int (iv v7))]) C dX10_pay_55 (by decide) [1, 2, 3, 4, 5, 6, 0, 7] rfl ?_
            refine z_aload_n C dX10_pay_57 0 rfl ?_
            obtain ⟨on27, hon27, h⟩ := bnd h
            refine y_getR C dX10_pay_58 fX10_55 rfl hon27 ?_
            refine z_iload C dX10_pay_61 7 rfl ?_
            obtain ⟨x28, hx28, h⟩ := bnd h
            refine y_iald C dX10_pay_63 hx28 (fun gx28 => ?_)
            refine z_iconst C dX10_pay_64 ?_
            refine z_icmp_le 91 C dX10_pay_65 (by decide) gx28 (by decide) (fun e29 => ?_) (fun e29 => ?_)
            ·
              have h := (if_pos e29).symm.trans h
              refine y_iinc (lv' := [(0, .ref (G.2.2 + o0)), (1, .int (iv v1)), (2, .int (iv v2)), (3, .int (iv v3)), (4, .int (iv v4)), (5, .int (iv (w32 (v5 + 1)))), (6, .int (iv (w32 (v6 + x26)))), (7, .int (iv (w32 (v7 + 1))))]) C dX10_pay_91 7 rfl (by decide) [1, 2, 3, 4, 5, 6, 7, 0] rfl ?_
              refine z_goto 9 C dX10_pay_94 (by decide) ?_
              exact ih9 (w32 (v5 + 1)) (w32 (v6 + x26)) (w32 (v7 + 1)) M (w32_rng _) (w32_rng _) (w32_rng _) (lp_back h hZ9)
            ·
              have h := (if_neg e29).symm.trans h
              refine z_aload_n C dX10_pay_68 0 rfl ?_
              refine z_aload_n C dX10_pay_69 0 rfl ?_
              obtain ⟨on30, hon30, h⟩ := bnd h
              refine y_getR C dX10_pay_70 fX10_43 rfl hon30 ?_
              refine z_iload C dX10_pay_73 7 rfl ?_
              obtain ⟨x31, hx31, h⟩ := bnd h
              refine y_iald C dX10_pay_75 hx31 (fun gx31 => ?_)
              refine z_iload_n C dX10_pay_76 1 rfl ?_
              refine z_aload_n C dX10_pay_77 0 rfl ?_
              obtain ⟨on32, hon32, h⟩ := bnd h
              refine y_getR C dX10_pay_78 fX10_55 rfl hon32 ?_
              refine z_iload C dX10_pay_81 7 rfl ?_
              obtain ⟨x33, hx33, h⟩ := bnd h
              refine y_iald C dX10_pay_83 hx33 (fun gx33 => ?_)
              refine z_iconst C dX10_pay_84 ?_
              refine y_isub C dX10_pay_85 ?_
              refine z_iconst C dX10_pay_86 ?_
              refine z_iconst C dX10_pay_87 ?_
              obtain ⟨k34, h⟩ := gK_inv h
              obtain ⟨M35, hM35, h⟩ := bnd h
              refine y_cVv (st := []) C dX10_pay_88 mX10_275 k34 (tX10_strike hC o0 x31 v1 (w32 (x33 - 2)) (-1) 0 gx31 gv1 (w32_rng _) (by decide) (by decide) hM35) rfl rfl (Nat.le_of_ble_eq_true rfl) (by decide) ?_
              refine y_iinc (lv' := [(0, .ref (G.2.2 + o0)), (1, .int (iv v1)), (2, .int (iv v2)), (3, .int (iv v3)), (4, .int (iv v4)), (5, .int (iv (w32 (v5 + 1)))), (6, .int (iv (w32 (v6 + x26)))), (7, .int (iv (w32 (v7 + 1))))]) C dX10_pay_91 7 rfl (by decide) [1, 2, 3, 4, 5, 6, 7, 0] rfl ?_
              refine z_goto 9 C dX10_pay_94 (by decide) ?_
              exact ih9 (w32 (v5 + 1)) (w32 (v6 + x26)) (w32 (v7 + 1)) M35 (w32_rng _) (w32_rng _) (w32_rng _) (lp_back h hZ9)
          ·
            have h := (if_pos e22).symm.trans h
            refine z_goto 91 C dX10_pay_28 (by decide) ?_
            refine y_iinc (lv' := [(0, .ref (G.2.2 + o0)), (1, .int (iv v1)), (2, .int (iv v2)), (3, .int (iv v3)), (4, .int (iv v4)), (5, .int (iv v5)), (6, .int (iv v6)), (7, .int (iv (w32 (v7 + 1))))]) C dX10_pay_91 7 rfl (by decide) [1, 2, 3, 4, 5, 6, 7, 0] rfl ?_
            refine z_goto 9 C dX10_pay_94 (by decide) ?_
            exact ih9 v5 v6 (w32 (v7 + 1)) M gv5 gv6 (w32_rng _) (lp_back h hZ9)
    exact hL9 _ v5 v6 v7 M gv5 gv6 gv7 hb9_
  unfold uX10_pay at h
  refine z_iconst C dX10_pay_0 ?_
  refine z_istore (lv' := [(0, .ref (G.2.2 + o0)), (1, .int (iv v1)), (2, .int (iv v2)), (3, .int (iv v3)), (4, .int (iv v4)), (5, .int (iv 0))]) C dX10_pay_1 (by decide) [1, 2, 3, 4, 5, 0] rfl ?_
  refine z_iconst C dX10_pay_3 ?_
  refine z_istore (lv' := [(0, .ref (G.2.2 + o0)), (1, .int (iv v1)), (2, .int (iv v2)), (3, .int (iv v3)), (4, .int (iv v4)), (5, .int (iv 0)), (6, .int (iv 0))]) C dX10_pay_4 (by decide) [1, 2, 3, 4, 5, 6, 0] rfl ?_
  refine z_iconst C dX10_pay_6 ?_
  refine z_istore (lv' := [(0, .ref (G.2.2 + o0)), (1, .int (iv v1)), (2, .int (iv v2)), (3, .int (iv v3)), (4, .int (iv v4)), (5, .int (iv 0)), (6, .int (iv 0)), (7, .int (iv 0))]) C dX10_pay_7 (by decide) [1, 2, 3, 4, 5, 6, 7, 0] rfl ?_
  exact hb9 o0 v1 v2 v3 v4 0 0 0 M0 gv1 gv2 gv3 gv4 (by decide) (by decide) (by decide) h

set_option maxHeartbeats 4000000 in
set_option maxRecDepth 100000 in
theorem tX10_steal {G : Gx} {σ : State} (hC : Cy G σ) (o0 : Nat) (v1 : Int) (v2 : Int) {M0 : Mm} (gv1 : rg v1) (gv2 : rg v2) {R : Int × Mm} (h : uX10_steal o0 v1 v2 M0 = some R) : Ct G σ (3) yX10_steal cX10_steal 3 (some .boolean) [.ref (G.2.2 + o0), .int (iv v1), .int (iv v2)] M0 0 0 (Qb R.1 R.2) := by
  refine Ct.of hC.1 (by decide +kernel) (Nat.le_of_ble_eq_true rfl) ?_
  intro p l e R0 s m args below meth c C
  show Jz G σ p l e R0 s m args below meth c 3 0 0 (Qb R.1 R.2) M0 0 0 0 [(0, .ref (G.2.2 + o0)), (1, .int (iv v1)), (2, .int (iv v2))] []
  unfold uX10_steal at h
  refine z_aload_n C dX10_steal_0 0 rfl ?_
  refine z_iconst C dX10_steal_1 ?_
  obtain ⟨M1, hM1, h⟩ := bnd h
  refine y_putI C dX10_steal_2 fX10_83 rfl rfl rfl rfl hM1 ?_
  refine z_aload_n C dX10_steal_5 0 rfl ?_
  obtain ⟨k2, h⟩ := gK_inv h
  obtain ⟨M3, hM3, h⟩ := bnd h
  refine y_cVv (st := []) C dX10_steal_6 mX10_167 k2 (tX10_lay hC o0  hM3) rfl rfl (Nat.le_of_ble_eq_true rfl) (by decide) ?_
  refine z_aload_n C dX10_steal_9 0 rfl ?_
  refine z_iload_n C dX10_steal_10 1 rfl ?_
  obtain ⟨k4, h⟩ := gK_inv h
  obtain ⟨r5, hr5, h⟩ := bnd h
  refine y_cVb (st := []) C dX10_steal_11 mX10_243 k4 (tX10_isWho hC o0 v1 gv1 hr5) rfl rfl (Nat.le_of_ble_eq_true rfl) (by decide) (fun br5 => ?_)
  refine z_if_eq 45 C dX10_steal_14 (by decide) (rg01 br5) (fun e6 => ?_) (fun e6 => ?_)
  ·
    have h := (if_pos e6).symm.trans h
    refine z_iconst C dX10_steal_45 ?_
    exact y_zretB C dX10_steal_46 h (by decide)
  ·
    have h := (if_neg e6).symm.trans h
    refine z_aload_n C dX10_steal_17 0 rfl ?_
    refine z_iload_n C dX10_steal_18 2 rfl ?_
    obtain ⟨k7, h⟩ := gK_inv h
    obtain ⟨r8, hr8, h⟩ := bnd h
    refine y_cVb (st := []) C dX10_steal_19 mX10_243 k7 (tX10_isWho hC o0 v2 gv2 hr8) rfl rfl (Nat.le_of_ble_eq_true rfl) (by decide) (fun br8 => ?_)
    refine z_if_eq 45 C dX10_steal_22 (by decide) (rg01 br8) (fun e9 => ?_) (fun e9 => ?_)
    ·
      have h := (if_pos e9).symm.trans h
      refine z_iconst C dX10_steal_45 ?_
      exact y_zretB C dX10_steal_46 h (by decide)
    ·
      have h := (if_neg e9).symm.trans h
      refine z_aload_n C dX10_steal_25 0 rfl ?_
      refine z_iload_n C dX10_steal_26 1 rfl ?_
      refine z_iload_n C dX10_steal_27 2 rfl ?_
      obtain ⟨k10, h⟩ := gK_inv h
      obtain ⟨r11, hr11, h⟩ := bnd h
      refine y_cVb (st := []) C dX10_steal_28 mX10_297 k10 (tX10_areUnfit hC o0 v1 v2 gv1 gv2 hr11) rfl rfl (Nat.le_of_ble_eq_true rfl) (by decide) (fun br11 => ?_)
      refine z_if_ne 45 C dX10_steal_31 (by decide) (rg01 br11) (fun e12 => ?_) (fun e12 => ?_)
      ·
        have h := (if_neg e12).symm.trans h
        refine z_iconst C dX10_steal_45 ?_
        exact y_zretB C dX10_steal_46 h (by decide)
      ·
        have h := (if_pos e12).symm.trans h
        refine z_aload_n C dX10_steal_34 0 rfl ?_
        obtain ⟨on13, hon13, h⟩ := bnd h
        refine y_getR C dX10_steal_35 fX10_13 rfl hon13 ?_
        refine z_bipush C dX10_steal_38 (by decide) ?_
        obtain ⟨x14, hx14, h⟩ := bnd h
        refine y_iald C dX10_steal_40 hx14 (fun gx14 => ?_)
        refine z_iconst C dX10_steal_41 ?_
        refine z_icmp_eq 47 C dX10_steal_42 (by decide) gx14 (by decide) (fun e15 => ?_) (fun e15 => ?_)
        ·
          have h := (if_pos e15).symm.trans h
          refine z_aload_n C dX10_steal_47 0 rfl ?_
          obtain ⟨k16, h⟩ := gK_inv h
          obtain ⟨M17, hM17, h⟩ := bnd h
          refine y_cVv (st := []) C dX10_steal_48 mX10_272 k16 (tX10_snap hC o0  hM17) rfl rfl (Nat.le_of_ble_eq_true rfl) (by decide) ?_
          refine z_aload_n C dX10_steal_51 0 rfl ?_
          obtain ⟨on18, hon18, h⟩ := bnd h
          refine y_getR C dX10_steal_52 fX10_13 rfl hon18 ?_
          refine z_bipush C dX10_steal_55 (by decide) ?_
          refine z_iload_n C dX10_steal_57 2 rfl ?_
          obtain ⟨M19, hM19, h⟩ := bnd h
          refine y_iast C dX10_steal_58 hM19 ?_
          refine z_aload_n C dX10_steal_59 0 rfl ?_
          obtain ⟨on20, hon20, h⟩ := bnd h
          refine y_getR C dX10_steal_60 fX10_13 rfl hon20 ?_
          refine z_bipush C dX10_steal_63 (by decide) ?_
          refine z_iload_n C dX10_steal_65 1 rfl ?_
          obtain ⟨M21, hM21, h⟩ := bnd h
          refine y_iast C dX10_steal_66 hM21 ?_
          refine z_iconst C dX10_steal_67 ?_
          exact y_zretB C dX10_steal_68 h (by decide)
        ·
          have h := (if_neg e15).symm.trans h
          refine z_iconst C dX10_steal_45 ?_
          exact y_zretB C dX10_steal_46 h (by decide)

set_option maxHeartbeats 4000000 in
set_option maxRecDepth 100000 in
theorem tX10_day {G : Gx} {σ : State} (hC : Cy G σ) (o0 : Nat) {M0 : Mm}  {R : Int × Mm} (h : uX10_day o0 M0 = some R) : Ct G σ (3) yX10_day cX10_day 1 (some .int) [.ref (G.2.2 + o0)] M0 0 0 (Qi R.1 R.2) := by
  refine Ct.of hC.1 (by decide +kernel) (Nat.le_of_ble_eq_true rfl) ?_
  intro p l e R0 s m args below meth c C
  show Jz G σ p l e R0 s m args below meth c 1 0 0 (Qi R.1 R.2) M0 0 0 0 [(0, .ref (G.2.2 + o0))] []
  unfold uX10_day at h
  refine z_aload_n C dX10_day_0 0 rfl ?_
  refine z_iconst C dX10_day_1 ?_
  obtain ⟨M1, hM1, h⟩ := bnd h
  refine y_putI C dX10_day_2 fX10_83 rfl rfl rfl rfl hM1 ?_
  refine z_aload_n C dX10_day_5 0 rfl ?_
  obtain ⟨k2, h⟩ := gK_inv h
  obtain ⟨M3, hM3, h⟩ := bnd h
  refine y_cVv (st := []) C dX10_day_6 mX10_167 k2 (tX10_lay hC o0  hM3) rfl rfl (Nat.le_of_ble_eq_true rfl) (by decide) ?_
  refine z_aload_n C dX10_day_9 0 rfl ?_
  obtain ⟨on4, hon4, h⟩ := bnd h
  refine y_getR C dX10_day_10 fX10_13 rfl hon4 ?_
  refine z_bipush C dX10_day_13 (by decide) ?_
  obtain ⟨x5, hx5, h⟩ := bnd h
  refine y_iald C dX10_day_15 hx5 (fun gx5 => ?_)
  refine z_sipush C dX10_day_16 (by decide) ?_
  refine z_icmp_ne 24 C dX10_day_19 (by decide) gx5 (by decide) (fun e6 => ?_) (fun e6 => ?_)
  ·
    have h := (if_neg e6).symm.trans h
    refine z_aload_n C dX10_day_24 0 rfl ?_
    obtain ⟨k7, h⟩ := gK_inv h
    obtain ⟨M8, hM8, h⟩ := bnd h
    refine y_cVv (st := []) C dX10_day_25 mX10_272 k7 (tX10_snap hC o0  hM8) rfl rfl (Nat.le_of_ble_eq_true rfl) (by decide) ?_
    refine z_aload_n C dX10_day_28 0 rfl ?_
    obtain ⟨on9, hon9, h⟩ := bnd h
    refine y_getR C dX10_day_29 fX10_13 rfl hon9 ?_
    refine z_bipush C dX10_day_32 (by decide) ?_
    refine z_dup2 C dX10_day_34 rfl rfl ?_
    obtain ⟨x10, hx10, h⟩ := bnd h
    refine y_iald C dX10_day_35 hx10 (fun gx10 => ?_)
    refine z_iconst C dX10_day_36 ?_
    refine y_iadd C dX10_day_37 ?_
    obtain ⟨M11, hM11, h⟩ := bnd h
    refine y_iast C dX10_day_38 hM11 ?_
    refine z_aload_n C dX10_day_39 0 rfl ?_
    obtain ⟨k12, h⟩ := gK_inv h
    obtain ⟨M13, hM13, h⟩ := bnd h
    refine y_cVv (st := []) C dX10_day_40 mX10_335 k12 (tX10_giveBack hC o0  hM13) rfl rfl (Nat.le_of_ble_eq_true rfl) (by decide) ?_
    refine z_aload_n C dX10_day_43 0 rfl ?_
    obtain ⟨on14, hon14, h⟩ := bnd h
    refine y_getR C dX10_day_44 fX10_13 rfl hon14 ?_
    refine z_bipush C dX10_day_47 (by decide) ?_
    obtain ⟨x15, hx15, h⟩ := bnd h
    refine y_iald C dX10_day_49 hx15 (fun gx15 => ?_)
    exact y_iretB C dX10_day_50 h gx15
  ·
    have h := (if_pos e6).symm.trans h
    refine z_iconst C dX10_day_22 ?_
    exact y_iretB C dX10_day_23 h (by decide)

set_option maxHeartbeats 4000000 in
set_option maxRecDepth 100000 in
theorem tX10_rob {G : Gx} {σ : State} (hC : Cy G σ) (o0 : Nat) (v1 : Int) (v2 : Int) {M0 : Mm} (gv1 : rg v1) (gv2 : rg v2) {R : Int × Mm} (h : uX10_rob o0 v1 v2 M0 = some R) : Ct G σ (3) yX10_rob cX10_rob 3 (some .boolean) [.ref (G.2.2 + o0), .int (iv v1), .int (iv v2)] M0 0 0 (Qb R.1 R.2) := by
  refine Ct.of hC.1 (by decide +kernel) (Nat.le_of_ble_eq_true rfl) ?_
  intro p l e R0 s m args below meth c C
  show Jz G σ p l e R0 s m args below meth c 3 0 0 (Qb R.1 R.2) M0 0 0 0 [(0, .ref (G.2.2 + o0)), (1, .int (iv v1)), (2, .int (iv v2))] []
  unfold uX10_rob at h
  refine z_aload_n C dX10_rob_0 0 rfl ?_
  refine z_iconst C dX10_rob_1 ?_
  obtain ⟨M1, hM1, h⟩ := bnd h
  refine y_putI C dX10_rob_2 fX10_83 rfl rfl rfl rfl hM1 ?_
  refine z_aload_n C dX10_rob_5 0 rfl ?_
  obtain ⟨k2, h⟩ := gK_inv h
  obtain ⟨M3, hM3, h⟩ := bnd h
  refine y_cVv (st := []) C dX10_rob_6 mX10_167 k2 (tX10_lay hC o0  hM3) rfl rfl (Nat.le_of_ble_eq_true rfl) (by decide) ?_
  refine z_aload_n C dX10_rob_9 0 rfl ?_
  refine z_iload_n C dX10_rob_10 1 rfl ?_
  obtain ⟨k4, h⟩ := gK_inv h
  obtain ⟨r5, hr5, h⟩ := bnd h
  refine y_cVb (st := []) C dX10_rob_11 mX10_243 k4 (tX10_isWho hC o0 v1 gv1 hr5) rfl rfl (Nat.le_of_ble_eq_true rfl) (by decide) (fun br5 => ?_)
  refine z_if_eq 44 C dX10_rob_14 (by decide) (rg01 br5) (fun e6 => ?_) (fun e6 => ?_)
  ·
    have h := (if_pos e6).symm.trans h
    refine z_iconst C dX10_rob_44 ?_
    exact y_zretB C dX10_rob_45 h (by decide)
  ·
    have h := (if_neg e6).symm.trans h
    refine z_aload_n C dX10_rob_17 0 rfl ?_
    refine z_iload_n C dX10_rob_18 2 rfl ?_
    obtain ⟨k7, h⟩ := gK_inv h
    obtain ⟨r8, hr8, h⟩ := bnd h
    refine y_cVb (st := []) C dX10_rob_19 mX10_282 k7 (tX10_isCoin hC o0 v2 gv2 hr8) rfl rfl (Nat.le_of_ble_eq_true rfl) (by decide) (fun br8 => ?_)
    refine z_if_eq 44 C dX10_rob_22 (by decide) (rg01 br8) (fun e9 => ?_) (fun e9 => ?_)
    ·
      have h := (if_pos e9).symm.trans h
      refine z_iconst C dX10_rob_44 ?_
      exact y_zretB C dX10_rob_45 h (by decide)
    ·
      have h := (if_neg e9).symm.trans h
      refine z_aload_n C dX10_rob_25 0 rfl ?_
      refine z_iload_n C dX10_rob_26 2 rfl ?_
      refine z_iconst C dX10_rob_27 ?_
      obtain ⟨k10, h⟩ := gK_inv h
      obtain ⟨r11, hr11, h⟩ := bnd h
      refine y_cVi (st := []) C dX10_rob_28 mX10_256 k10 (tX10_ofCoin hC o0 v2 1 gv2 (by decide) hr11) rfl rfl (Nat.le_of_ble_eq_true rfl) (by decide) (fun gr11 => ?_)
      refine z_iload_n C dX10_rob_31 1 rfl ?_
      refine z_icmp_eq 44 C dX10_rob_32 (by decide) gr11 gv1 (fun e12 => ?_) (fun e12 => ?_)
      ·
        have h := (if_pos e12).symm.trans h
        refine z_iconst C dX10_rob_44 ?_
        exact y_zretB C dX10_rob_45 h (by decide)
      ·
        have h := (if_neg e12).symm.trans h
        refine z_aload_n C dX10_rob_35 0 rfl ?_
        refine z_iload_n C dX10_rob_36 1 rfl ?_
        refine z_iconst C dX10_rob_37 ?_
        obtain ⟨k13, h⟩ := gK_inv h
        obtain ⟨r14, hr14, h⟩ := bnd h
        refine y_cVi (st := []) C dX10_rob_38 mX10_249 k13 (tX10_ofWho hC o0 v1 2 gv1 (by decide) hr14) rfl rfl (Nat.le_of_ble_eq_true rfl) (by decide) (fun gr14 => ?_)
        refine z_if_le 46 C dX10_rob_41 (by decide) gr14 (fun e15 => ?_) (fun e15 => ?_)
        ·
          have h := (if_pos e15).symm.trans h
          refine z_aload_n C dX10_rob_46 0 rfl ?_
          obtain ⟨k16, h⟩ := gK_inv h
          obtain ⟨M17, hM17, h⟩ := bnd h
          refine y_cVv (st := []) C dX10_rob_47 mX10_272 k16 (tX10_snap hC o0  hM17) rfl rfl (Nat.le_of_ble_eq_true rfl) (by decide) ?_
          refine z_aload_n C dX10_rob_50 0 rfl ?_
          obtain ⟨on18, hon18, h⟩ := bnd h
          refine y_getR C dX10_rob_51 fX10_13 rfl hon18 ?_
          refine z_bipush C dX10_rob_54 (by decide) ?_
          refine z_bipush C dX10_rob_56 (by decide) ?_
          refine z_iload_n C dX10_rob_58 2 rfl ?_
          refine y_imul C dX10_rob_59 ?_
          refine y_iadd C dX10_rob_60 ?_
          refine z_iconst C dX10_rob_61 ?_
          refine y_iadd C dX10_rob_62 ?_
          refine z_iload_n C dX10_rob_63 1 rfl ?_
          obtain ⟨M19, hM19, h⟩ := bnd h
          refine y_iast C dX10_rob_64 hM19 ?_
          refine z_iconst C dX10_rob_65 ?_
          exact y_zretB C dX10_rob_66 h (by decide)
        ·
          have h := (if_neg e15).symm.trans h
          refine z_iconst C dX10_rob_44 ?_
          exact y_zretB C dX10_rob_45 h (by decide)

set_option maxHeartbeats 4000000 in
set_option maxRecDepth 100000 in
theorem tX10_dies {G : Gx} {σ : State} (hC : Cy G σ) (o0 : Nat) (v1 : Int) (v2 : Int) {M0 : Mm} (gv1 : rg v1) (gv2 : rg v2) {R : Int × Mm} (h : uX10_dies o0 v1 v2 M0 = some R) : Ct G σ (3) yX10_dies cX10_dies 5 (some .int) [.ref (G.2.2 + o0), .int (iv v1), .int (iv v2)] M0 0 0 (Qi R.1 R.2) := by
  refine Ct.of hC.1 (by decide +kernel) (Nat.le_of_ble_eq_true rfl) ?_
  intro p l e R0 s m args below meth c C
  show Jz G σ p l e R0 s m args below meth c 5 0 0 (Qi R.1 R.2) M0 0 0 0 [(0, .ref (G.2.2 + o0)), (1, .int (iv v1)), (2, .int (iv v2))] []
  have hb129 : ∀ (o0 : Nat) (v3 : Int) (M : Mm), (rg v3) → uX10_dies_b129 o0 v3 M = some R → Jz G σ p l e R0 s m args below meth c 5 0 0 (Qi R.1 R.2) M 0 0 129 [(0, .ref (G.2.2 + o0)), (3, .int (iv v3))] [] := by
    intro o0 v3 M gv3 h
    unfold uX10_dies_b129 at h
    refine z_aload_n C dX10_dies_129 0 rfl ?_
    obtain ⟨k1, h⟩ := gK_inv h
    obtain ⟨M2, hM2, h⟩ := bnd h
    refine y_cVv (st := []) C dX10_dies_130 mX10_335 k1 (tX10_giveBack hC o0  hM2) rfl rfl (Nat.le_of_ble_eq_true rfl) (by decide) ?_
    refine z_iload_n C dX10_dies_133 1 rfl ?_
    exact y_iretB C dX10_dies_134 h gv3
  have hb107 : ∀ (o0 : Nat) (v1 : Int) (v3 : Int) (M : Mm), (rg v1) → (rg v3) → uX10_dies_b107 o0 v1 v3 M = some R → Jz G σ p l e R0 s m args below meth c 5 0 0 (Qi R.1 R.2) M 0 0 107 [(0, .ref (G.2.2 + o0)), (1, .int (iv v1)), (3, .int (iv v3))] [] := by
    intro o0 v1 v3 M gv1 gv3 h
    unfold uX10_dies_b107 at h
    refine z_aload_n C dX10_dies_107 0 rfl ?_
    obtain ⟨on3, hon3, h⟩ := bnd h
    refine y_getR C dX10_dies_108 fX10_13 rfl hon3 ?_
    refine z_bipush C dX10_dies_111 (by decide) ?_
    obtain ⟨x4, hx4, h⟩ := bnd h
    refine y_iald C dX10_dies_113 hx4 (fun gx4 => ?_)
    refine z_iload_n C dX10_dies_114 1 rfl ?_
    refine z_icmp_eq 129 C dX10_dies_115 (by decide) gx4 gv1 (fun e5 => ?_) (fun e5 => ?_)
    ·
      have h := (if_pos e5).symm.trans h
      refine z_drop (lv' := [(0, .ref (G.2.2 + o0)), (3, .int (iv v3))]) [0, 2] rfl ?_
      exact hb129 o0 v3 M gv3 h
    ·
      have h := (if_neg e5).symm.trans h
      refine z_aload_n C dX10_dies_118 0 rfl ?_
      obtain ⟨on6, hon6, h⟩ := bnd h
      refine y_getR C dX10_dies_119 fX10_13 rfl hon6 ?_
      refine z_bipush C dX10_dies_122 (by decide) ?_
      obtain ⟨x7, hx7, h⟩ := bnd h
      refine y_iald C dX10_dies_124 hx7 (fun gx7 => ?_)
      refine z_iload_n C dX10_dies_125 1 rfl ?_
      refine z_icmp_ne 133 C dX10_dies_126 (by decide) gx7 gv1 (fun e8 => ?_) (fun e8 => ?_)
      ·
        have h := (if_neg e8).symm.trans h
        refine z_iload_n C dX10_dies_133 2 rfl ?_
        exact y_iretB C dX10_dies_134 h gv3
      ·
        have h := (if_pos e8).symm.trans h
        refine z_drop (lv' := [(0, .ref (G.2.2 + o0)), (3, .int (iv v3))]) [0, 2] rfl ?_
        exact hb129 o0 v3 M gv3 h
  have hb59 : ∀ (o0 : Nat) (v1 : Int) (v2 : Int) (v3 : Int) (v4 : Int) (M : Mm), (rg v1) → (rg v2) → (rg v3) → (rg v4) → uX10_dies_b59 o0 v1 v2 v3 v4 M = some R → Jz G σ p l e R0 s m args below meth c 5 0 0 (Qi R.1 R.2) M 0 0 59 [(0, .ref (G.2.2 + o0)), (1, .int (iv v1)), (2, .int (iv v2)), (3, .int (iv v3)), (4, .int (iv v4))] [] := by
    intro o0 v1 v2 v3 v4 M gv1 gv2 gv3 gv4 h
    unfold uX10_dies_b59 at h
    obtain ⟨b59, hb59_, hc59⟩ := bnd h
    have hL59 : ∀ (n : Nat) (v3 : Int) (v4 : Int) (M : Mm), (rg v3) → (rg v4) → lp (uX10_dies_f59 o0 v1 v2) n (v3, v4, M) = some b59 → Jz G σ p l e R0 s m args below meth c 5 0 0 (Qi R.1 R.2) M 0 0 59 [(0, .ref (G.2.2 + o0)), (1, .int (iv v1)), (2, .int (iv v2)), (3, .int (iv v3)), (4, .int (iv v4))] [] := by
      intro n; induction n with
      | zero => intro v3 v4 M gv3 gv4 hq; exact (lp_0 hq).elim
      | succ n59 ih59 =>
        intro v3 v4 M gv3 gv4 hq
        obtain ⟨z59, h, hZ59⟩ := lp_s hq
        have h : uX10_dies_s59 o0 v1 v2 v3 v4 M = some z59 := h
        unfold uX10_dies_s59 at h
        refine z_iload C dX10_dies_59 4 rfl ?_
        refine z_aload_n C dX10_dies_61 0 rfl ?_
        obtain ⟨k9, h⟩ := gK_inv h
        obtain ⟨r10, hr10, h⟩ := bnd h
        refine y_cVi (st := [.int (iv v4)]) C dX10_dies_62 mX10_188 k9 (tX10_coins hC o0  hr10) rfl rfl (Nat.le_of_ble_eq_true rfl) (by decide) (fun gr10 => ?_)
        refine z_icmp_ge 107 C dX10_dies_65 (by decide) gv4 gr10 (fun e11 => ?_) (fun e11 => ?_)
        ·
          have h := (if_pos e11).symm.trans h
          have h : uX10_dies_b107 o0 v1 v3 M = some R := lp_ex (K := (uX10_dies_c59 o0 v1 v2)) h hZ59 hc59
          refine z_drop (lv' := [(0, .ref (G.2.2 + o0)), (1, .int (iv v1)), (3, .int (iv v3))]) [0, 1, 3] rfl ?_
          exact hb107 o0 v1 v3 M gv1 gv3 h
        ·
          have h := (if_neg e11).symm.trans h
          refine z_aload_n C dX10_dies_68 0 rfl ?_
          refine z_iload C dX10_dies_69 4 rfl ?_
          refine z_iconst C dX10_dies_71 ?_
          obtain ⟨k12, h⟩ := gK_inv h
          obtain ⟨r13, hr13, h⟩ := bnd h
          refine y_cVi (st := []) C dX10_dies_72 mX10_256 k12 (tX10_ofCoin hC o0 v4 1 gv4 (by decide) hr13) rfl rfl (Nat.le_of_ble_eq_true rfl) (by decide) (fun gr13 => ?_)
          refine z_iload_n C dX10_dies_75 1 rfl ?_
          refine z_icmp_eq 82 C dX10_dies_76 (by decide) gr13 gv1 (fun e14 => ?_) (fun e14 => ?_)
          ·
            have h := (if_pos e14).symm.trans h
            refine z_aload_n C dX10_dies_82 0 rfl ?_
            obtain ⟨on15, hon15, h⟩ := bnd h
            refine y_getR C dX10_dies_83 fX10_13 rfl hon15 ?_
            refine z_bipush C dX10_dies_86 (by decide) ?_
            refine z_bipush C dX10_dies_88 (by decide) ?_
            refine z_iload C dX10_dies_90 4 rfl ?_
            refine y_imul C dX10_dies_92 ?_
            refine y_iadd C dX10_dies_93 ?_
            refine z_iconst C dX10_dies_94 ?_
            refine y_iadd C dX10_dies_95 ?_
            refine z_iload_n C dX10_dies_96 2 rfl ?_
            obtain ⟨M16, hM16, h⟩ := bnd h
            refine y_iast C dX10_dies_97 hM16 ?_
            refine y_iinc (lv' := [(0, .ref (G.2.2 + o0)), (1, .int (iv v1)), (2, .int (iv v2)), (3, .int (iv (w32 (v3 + 1)))), (4, .int (iv v4))]) C dX10_dies_98 3 rfl (by decide) [1, 2, 3, 0, 4] rfl ?_
            refine y_iinc (lv' := [(0, .ref (G.2.2 + o0)), (1, .int (iv v1)), (2, .int (iv v2)), (3, .int (iv (w32 (v3 + 1)))), (4, .int (iv (w32 (v4 + 1))))]) C dX10_dies_101 4 rfl (by decide) [1, 2, 3, 4, 0] rfl ?_
            refine z_goto 59 C dX10_dies_104 (by decide) ?_
            exact ih59 (w32 (v3 + 1)) (w32 (v4 + 1)) M16 (w32_rng _) (w32_rng _) (lp_back h hZ59)
          ·
            have h := (if_neg e14).symm.trans h
            refine z_goto 101 C dX10_dies_79 (by decide) ?_
            refine y_iinc (lv' := [(0, .ref (G.2.2 + o0)), (1, .int (iv v1)), (2, .int (iv v2)), (3, .int (iv v3)), (4, .int (iv (w32 (v4 + 1))))]) C dX10_dies_101 4 rfl (by decide) [1, 2, 3, 4, 0] rfl ?_
            refine z_goto 59 C dX10_dies_104 (by decide) ?_
            exact ih59 v3 (w32 (v4 + 1)) M gv3 (w32_rng _) (lp_back h hZ59)
    exact hL59 _ v3 v4 M gv3 gv4 hb59_
  unfold uX10_dies at h
  refine z_aload_n C dX10_dies_0 0 rfl ?_
  refine z_iconst C dX10_dies_1 ?_
  obtain ⟨M17, hM17, h⟩ := bnd h
  refine y_putI C dX10_dies_2 fX10_83 rfl rfl rfl rfl hM17 ?_
  refine z_aload_n C dX10_dies_5 0 rfl ?_
  obtain ⟨k18, h⟩ := gK_inv h
  obtain ⟨M19, hM19, h⟩ := bnd h
  refine y_cVv (st := []) C dX10_dies_6 mX10_167 k18 (tX10_lay hC o0  hM19) rfl rfl (Nat.le_of_ble_eq_true rfl) (by decide) ?_
  refine z_aload_n C dX10_dies_9 0 rfl ?_
  refine z_iload_n C dX10_dies_10 1 rfl ?_
  obtain ⟨k20, h⟩ := gK_inv h
  obtain ⟨r21, hr21, h⟩ := bnd h
  refine y_cVb (st := []) C dX10_dies_11 mX10_243 k20 (tX10_isWho hC o0 v1 gv1 hr21) rfl rfl (Nat.le_of_ble_eq_true rfl) (by decide) (fun br21 => ?_)
  refine z_if_eq 34 C dX10_dies_14 (by decide) (rg01 br21) (fun e22 => ?_) (fun e22 => ?_)
  ·
    have h := (if_pos e22).symm.trans h
    refine z_iconst C dX10_dies_34 ?_
    exact y_iretB C dX10_dies_35 h (by decide)
  ·
    have h := (if_neg e22).symm.trans h
    refine z_aload_n C dX10_dies_17 0 rfl ?_
    refine z_iload_n C dX10_dies_18 2 rfl ?_
    obtain ⟨k23, h⟩ := gK_inv h
    obtain ⟨r24, hr24, h⟩ := bnd h
    refine y_cVb (st := []) C dX10_dies_19 mX10_243 k23 (tX10_isWho hC o0 v2 gv2 hr24) rfl rfl (Nat.le_of_ble_eq_true rfl) (by decide) (fun br24 => ?_)
    refine z_if_eq 34 C dX10_dies_22 (by decide) (rg01 br24) (fun e25 => ?_) (fun e25 => ?_)
    ·
      have h := (if_pos e25).symm.trans h
      refine z_iconst C dX10_dies_34 ?_
      exact y_iretB C dX10_dies_35 h (by decide)
    ·
      have h := (if_neg e25).symm.trans h
      refine z_aload_n C dX10_dies_25 0 rfl ?_
      refine z_iload_n C dX10_dies_26 1 rfl ?_
      refine z_iload_n C dX10_dies_27 2 rfl ?_
      obtain ⟨k26, h⟩ := gK_inv h
      obtain ⟨r27, hr27, h⟩ := bnd h
      refine y_cVb (st := []) C dX10_dies_28 mX10_297 k26 (tX10_areUnfit hC o0 v1 v2 gv1 gv2 hr27) rfl rfl (Nat.le_of_ble_eq_true rfl) (by decide) (fun br27 => ?_)
      refine z_if_eq 36 C dX10_dies_31 (by decide) (rg01 br27) (fun e28 => ?_) (fun e28 => ?_)
      ·
        have h := (if_pos e28).symm.trans h
        refine z_aload_n C dX10_dies_36 0 rfl ?_
        obtain ⟨k29, h⟩ := gK_inv h
        obtain ⟨M30, hM30, h⟩ := bnd h
        refine y_cVv (st := []) C dX10_dies_37 mX10_272 k29 (tX10_snap hC o0  hM30) rfl rfl (Nat.le_of_ble_eq_true rfl) (by decide) ?_
        refine z_aload_n C dX10_dies_40 0 rfl ?_
        obtain ⟨on31, hon31, h⟩ := bnd h
        refine y_getR C dX10_dies_41 fX10_13 rfl hon31 ?_
        refine z_bipush C dX10_dies_44 (by decide) ?_
        refine z_iconst C dX10_dies_46 ?_
        refine z_iload_n C dX10_dies_47 1 rfl ?_
        refine y_imul C dX10_dies_48 ?_
        refine y_iadd C dX10_dies_49 ?_
        refine z_iconst C dX10_dies_50 ?_
        refine y_iadd C dX10_dies_51 ?_
        refine z_iconst C dX10_dies_52 ?_
        obtain ⟨M32, hM32, h⟩ := bnd h
        refine y_iast C dX10_dies_53 hM32 ?_
        refine z_iconst C dX10_dies_54 ?_
        refine z_istore_n (lv' := [(0, .ref (G.2.2 + o0)), (1, .int (iv v1)), (2, .int (iv v2)), (3, .int (iv 0))]) C dX10_dies_55 rfl (by decide) [1, 2, 3, 0] rfl ?_
        refine z_iconst C dX10_dies_56 ?_
        refine z_istore (lv' := [(0, .ref (G.2.2 + o0)), (1, .int (iv v1)), (2, .int (iv v2)), (3, .int (iv 0)), (4, .int (iv 0))]) C dX10_dies_57 (by decide) [1, 2, 3, 4, 0] rfl ?_
        exact hb59 o0 v1 v2 0 0 M32 gv1 gv2 (by decide) (by decide) h
      ·
        have h := (if_neg e28).symm.trans h
        refine z_iconst C dX10_dies_34 ?_
        exact y_iretB C dX10_dies_35 h (by decide)

set_option maxHeartbeats 4000000 in
set_option maxRecDepth 100000 in
theorem tX10_close {G : Gx} {σ : State} (hC : Cy G σ) (o0 : Nat) (v1 : Int) {M0 : Mm} (gv1 : rg v1) {R : Int × Mm} (h : uX10_close o0 v1 M0 = some R) : Ct G σ (3) yX10_close cX10_close 2 (some .boolean) [.ref (G.2.2 + o0), .int (iv v1)] M0 0 0 (Qb R.1 R.2) := by
  refine Ct.of hC.1 (by decide +kernel) (Nat.le_of_ble_eq_true rfl) ?_
  intro p l e R0 s m args below meth c C
  show Jz G σ p l e R0 s m args below meth c 2 0 0 (Qb R.1 R.2) M0 0 0 0 [(0, .ref (G.2.2 + o0)), (1, .int (iv v1))] []
  unfold uX10_close at h
  refine z_aload_n C dX10_close_0 0 rfl ?_
  refine z_iconst C dX10_close_1 ?_
  obtain ⟨M1, hM1, h⟩ := bnd h
  refine y_putI C dX10_close_2 fX10_83 rfl rfl rfl rfl hM1 ?_
  refine z_aload_n C dX10_close_5 0 rfl ?_
  obtain ⟨k2, h⟩ := gK_inv h
  obtain ⟨M3, hM3, h⟩ := bnd h
  refine y_cVv (st := []) C dX10_close_6 mX10_167 k2 (tX10_lay hC o0  hM3) rfl rfl (Nat.le_of_ble_eq_true rfl) (by decide) ?_
  refine z_aload_n C dX10_close_9 0 rfl ?_
  refine z_iload_n C dX10_close_10 1 rfl ?_
  obtain ⟨k4, h⟩ := gK_inv h
  obtain ⟨r5, hr5, h⟩ := bnd h
  refine y_cVb (st := []) C dX10_close_11 mX10_259 k4 (tX10_isMint hC o0 v1 gv1 hr5) rfl rfl (Nat.le_of_ble_eq_true rfl) (by decide) (fun br5 => ?_)
  refine z_if_eq 26 C dX10_close_14 (by decide) (rg01 br5) (fun e6 => ?_) (fun e6 => ?_)
  ·
    have h := (if_pos e6).symm.trans h
    refine z_iconst C dX10_close_26 ?_
    exact y_zretB C dX10_close_27 h (by decide)
  ·
    have h := (if_neg e6).symm.trans h
    refine z_aload_n C dX10_close_17 0 rfl ?_
    refine z_iload_n C dX10_close_18 1 rfl ?_
    refine z_iconst C dX10_close_19 ?_
    obtain ⟨k7, h⟩ := gK_inv h
    obtain ⟨r8, hr8, h⟩ := bnd h
    refine y_cVi (st := []) C dX10_close_20 mX10_262 k7 (tX10_ofMint hC o0 v1 2 gv1 (by decide) hr8) rfl rfl (Nat.le_of_ble_eq_true rfl) (by decide) (fun gr8 => ?_)
    refine z_if_le 28 C dX10_close_23 (by decide) gr8 (fun e9 => ?_) (fun e9 => ?_)
    ·
      have h := (if_pos e9).symm.trans h
      refine z_aload_n C dX10_close_28 0 rfl ?_
      obtain ⟨k10, h⟩ := gK_inv h
      obtain ⟨M11, hM11, h⟩ := bnd h
      refine y_cVv (st := []) C dX10_close_29 mX10_272 k10 (tX10_snap hC o0  hM11) rfl rfl (Nat.le_of_ble_eq_true rfl) (by decide) ?_
      refine z_aload_n C dX10_close_32 0 rfl ?_
      obtain ⟨on12, hon12, h⟩ := bnd h
      refine y_getR C dX10_close_33 fX10_13 rfl hon12 ?_
      refine z_bipush C dX10_close_36 (by decide) ?_
      refine z_iconst C dX10_close_38 ?_
      refine z_iload_n C dX10_close_39 1 rfl ?_
      refine y_imul C dX10_close_40 ?_
      refine y_iadd C dX10_close_41 ?_
      refine z_iconst C dX10_close_42 ?_
      refine y_iadd C dX10_close_43 ?_
      refine z_iconst C dX10_close_44 ?_
      obtain ⟨M13, hM13, h⟩ := bnd h
      refine y_iast C dX10_close_45 hM13 ?_
      refine z_iconst C dX10_close_46 ?_
      exact y_zretB C dX10_close_47 h (by decide)
    ·
      have h := (if_neg e9).symm.trans h
      refine z_iconst C dX10_close_26 ?_
      exact y_zretB C dX10_close_27 h (by decide)

set_option maxHeartbeats 4000000 in
set_option maxRecDepth 100000 in
theorem tX10_stroke {G : Gx} {σ : State} (hC : Cy G σ) (o0 : Nat) (v1 : Int) (v2 : Int) {M0 : Mm} (gv1 : rg v1) (gv2 : rg v2) {R : Int × Mm} (h : uX10_stroke o0 v1 v2 M0 = some R) : Ct G σ (3) yX10_stroke cX10_stroke 3 (some .int) [.ref (G.2.2 + o0), .int (iv v1), .int (iv v2)] M0 0 0 (Qi R.1 R.2) := by
  refine Ct.of hC.1 (by decide +kernel) (Nat.le_of_ble_eq_true rfl) ?_
  intro p l e R0 s m args below meth c C
  show Jz G σ p l e R0 s m args below meth c 3 0 0 (Qi R.1 R.2) M0 0 0 0 [(0, .ref (G.2.2 + o0)), (1, .int (iv v1)), (2, .int (iv v2))] []
  have hb25 : ∀ (o0 : Nat) (M : Mm), uX10_stroke_b25 o0 M = some R → Jz G σ p l e R0 s m args below meth c 3 0 0 (Qi R.1 R.2) M 0 0 25 [(0, .ref (G.2.2 + o0))] [] := by
    intro o0 M  h
    unfold uX10_stroke_b25 at h
    refine z_aload_n C dX10_stroke_25 0 rfl ?_
    obtain ⟨k1, h⟩ := gK_inv h
    obtain ⟨r2, M3, hr2, h⟩ := bnd2 h
    refine y_cVi (st := []) C dX10_stroke_26 mX10_246 k1 (tX10_refuse hC o0  hr2) rfl rfl (Nat.le_of_ble_eq_true rfl) (by decide) (fun gr2 => ?_)
    exact y_iretB C dX10_stroke_29 h gr2
  unfold uX10_stroke at h
  refine z_iload_n C dX10_stroke_0 1 rfl ?_
  refine z_if_lt 25 C dX10_stroke_1 (by decide) gv1 (fun e4 => ?_) (fun e4 => ?_)
  ·
    have h := (if_pos e4).symm.trans h
    refine z_drop (lv' := [(0, .ref (G.2.2 + o0))]) [0] rfl ?_
    exact hb25 o0 M0  h
  ·
    have h := (if_neg e4).symm.trans h
    refine z_iload_n C dX10_stroke_4 1 rfl ?_
    refine z_aload_n C dX10_stroke_5 0 rfl ?_
    obtain ⟨on5, hon5, h⟩ := bnd h
    refine y_getR C dX10_stroke_6 fX10_13 rfl hon5 ?_
    refine z_bipush C dX10_stroke_9 (by decide) ?_
    obtain ⟨x6, hx6, h⟩ := bnd h
    refine y_iald C dX10_stroke_11 hx6 (fun gx6 => ?_)
    refine z_icmp_ge 25 C dX10_stroke_12 (by decide) gv1 gx6 (fun e7 => ?_) (fun e7 => ?_)
    ·
      have h := (if_pos e7).symm.trans h
      refine z_drop (lv' := [(0, .ref (G.2.2 + o0))]) [0] rfl ?_
      exact hb25 o0 M0  h
    ·
      have h := (if_neg e7).symm.trans h
      refine z_iload_n C dX10_stroke_15 2 rfl ?_
      refine z_iconst C dX10_stroke_16 ?_
      refine z_bipush C dX10_stroke_17 (by decide) ?_
      obtain ⟨r8, hr8, h⟩ := bnd h
      refine y_cSb (st := []) C dX10_stroke_19 mX10_154 (tX10_isIn hC v2 0 6 gv2 (by decide) (by decide) hr8) rfl rfl (Nat.le_of_ble_eq_true rfl) (by decide) (fun br8 => ?_)
      refine z_if_ne 30 C dX10_stroke_22 (by decide) (rg01 br8) (fun e9 => ?_) (fun e9 => ?_)
      ·
        have h := (if_neg e9).symm.trans h
        refine z_aload_n C dX10_stroke_30 0 rfl ?_
        refine z_iconst C dX10_stroke_31 ?_
        obtain ⟨M10, hM10, h⟩ := bnd h
        refine y_putI C dX10_stroke_32 fX10_83 rfl rfl rfl rfl hM10 ?_
        refine z_iload_n C dX10_stroke_35 2 rfl ?_
        refine z_bipush C dX10_stroke_36 (by decide) ?_
        refine z_icmp_ge 59 C dX10_stroke_38 (by decide) gv2 (by decide) (fun e11 => ?_) (fun e11 => ?_)
        ·
          have h := (if_pos e11).symm.trans h
          refine z_aload_n C dX10_stroke_59 0 rfl ?_
          refine z_iload_n C dX10_stroke_60 1 rfl ?_
          obtain ⟨k12, h⟩ := gK_inv h
          obtain ⟨r13, hr13, h⟩ := bnd h
          refine y_cVi (st := []) C dX10_stroke_61 mX10_338 k12 (tX10_isShown hC o0 v1 gv1 hr13) rfl rfl (Nat.le_of_ble_eq_true rfl) (by decide) (fun gr13 => ?_)
          exact y_iretB C dX10_stroke_64 h gr13
        ·
          have h := (if_neg e11).symm.trans h
          refine z_aload_n C dX10_stroke_41 0 rfl ?_
          obtain ⟨on14, hon14, h⟩ := bnd h
          refine y_getR C dX10_stroke_42 fX10_13 rfl hon14 ?_
          refine z_sipush C dX10_stroke_45 (by decide) ?_
          refine z_bipush C dX10_stroke_48 (by decide) ?_
          refine z_iload_n C dX10_stroke_50 1 rfl ?_
          refine y_imul C dX10_stroke_51 ?_
          refine y_iadd C dX10_stroke_52 ?_
          refine z_iload_n C dX10_stroke_53 2 rfl ?_
          refine y_iadd C dX10_stroke_54 ?_
          obtain ⟨x15, hx15, h⟩ := bnd h
          refine y_iald C dX10_stroke_55 hx15 (fun gx15 => ?_)
          refine z_goto 64 C dX10_stroke_56 (by decide) ?_
          exact y_iretB C dX10_stroke_64 h gx15
      ·
        have h := (if_pos e9).symm.trans h
        refine z_drop (lv' := [(0, .ref (G.2.2 + o0))]) [0] rfl ?_
        exact hb25 o0 M0  h

set_option maxHeartbeats 4000000 in
set_option maxRecDepth 100000 in
theorem tX10_foreign {G : Gx} {σ : State} (hC : Cy G σ) (o0 : Nat) (v1 : Int) {M0 : Mm} (gv1 : rg v1) {R : Int × Mm} (h : uX10_foreign o0 v1 M0 = some R) : Ct G σ (3) yX10_foreign cX10_foreign 4 (some .int) [.ref (G.2.2 + o0), .int (iv v1)] M0 0 0 (Qi R.1 R.2) := by
  refine Ct.of hC.1 (by decide +kernel) (Nat.le_of_ble_eq_true rfl) ?_
  intro p l e R0 s m args below meth c C
  show Jz G σ p l e R0 s m args below meth c 4 0 0 (Qi R.1 R.2) M0 0 0 0 [(0, .ref (G.2.2 + o0)), (1, .int (iv v1))] []
  have hb54 : ∀ (v1 : Int) (v2 : Int) (M : Mm), (rg v1) → (rg v2) → uX10_foreign_b54 v1 v2 M = some R → Jz G σ p l e R0 s m args below meth c 4 0 0 (Qi R.1 R.2) M 0 0 54 [(1, .int (iv v1)), (2, .int (iv v2))] [] := by
    intro v1 v2 M gv1 gv2 h
    unfold uX10_foreign_b54 at h
    refine z_iload_n C dX10_foreign_54 0 rfl ?_
    refine z_iconst C dX10_foreign_55 ?_
    refine z_icmp_ne 63 C dX10_foreign_56 (by decide) gv1 (by decide) (fun e1 => ?_) (fun e1 => ?_)
    ·
      have h := (if_neg e1).symm.trans h
      refine z_iconst C dX10_foreign_63 ?_
      exact y_iretB C dX10_foreign_64 h (by decide)
    ·
      have h := (if_pos e1).symm.trans h
      refine z_iload_n C dX10_foreign_59 1 rfl ?_
      refine z_goto 64 C dX10_foreign_60 (by decide) ?_
      exact y_iretB C dX10_foreign_64 h gv2
  have hb13 : ∀ (o0 : Nat) (v1 : Int) (v2 : Int) (v3 : Int) (M : Mm), (rg v1) → (rg v2) → (rg v3) → uX10_foreign_b13 o0 v1 v2 v3 M = some R → Jz G σ p l e R0 s m args below meth c 4 0 0 (Qi R.1 R.2) M 0 0 13 [(0, .ref (G.2.2 + o0)), (1, .int (iv v1)), (2, .int (iv v2)), (3, .int (iv v3))] [] := by
    intro o0 v1 v2 v3 M gv1 gv2 gv3 h
    unfold uX10_foreign_b13 at h
    obtain ⟨b13, hb13_, hc13⟩ := bnd h
    have hL13 : ∀ (n : Nat) (v2 : Int) (v3 : Int), (rg v2) → (rg v3) → lp (uX10_foreign_f13 o0 v1 M) n (v2, v3) = some b13 → Jz G σ p l e R0 s m args below meth c 4 0 0 (Qi R.1 R.2) M 0 0 13 [(0, .ref (G.2.2 + o0)), (1, .int (iv v1)), (2, .int (iv v2)), (3, .int (iv v3))] [] := by
      intro n; induction n with
      | zero => intro v2 v3 gv2 gv3 hq; exact (lp_0 hq).elim
      | succ n13 ih13 =>
        intro v2 v3 gv2 gv3 hq
        obtain ⟨z13, h, hZ13⟩ := lp_s hq
        have h : uX10_foreign_s13 o0 v1 M v2 v3 = some z13 := h
        unfold uX10_foreign_s13 at h
        refine z_iload_n C dX10_foreign_13 3 rfl ?_
        refine z_aload_n C dX10_foreign_14 0 rfl ?_
        obtain ⟨k2, h⟩ := gK_inv h
        obtain ⟨r3, hr3, h⟩ := bnd h
        refine y_cVi (st := [.int (iv v3)]) C dX10_foreign_15 mX10_188 k2 (tX10_coins hC o0  hr3) rfl rfl (Nat.le_of_ble_eq_true rfl) (by decide) (fun gr3 => ?_)
        refine z_icmp_ge 54 C dX10_foreign_18 (by decide) gv3 gr3 (fun e4 => ?_) (fun e4 => ?_)
        ·
          have h := (if_pos e4).symm.trans h
          have h : uX10_foreign_b54 v1 v2 M = some R := lp_ex (K := (uX10_foreign_c13 o0 v1 M)) h hZ13 hc13
          refine z_drop (lv' := [(1, .int (iv v1)), (2, .int (iv v2))]) [1, 2] rfl ?_
          exact hb54 v1 v2 M gv1 gv2 h
        ·
          have h := (if_neg e4).symm.trans h
          refine z_aload_n C dX10_foreign_21 0 rfl ?_
          refine z_iload_n C dX10_foreign_22 3 rfl ?_
          refine z_iconst C dX10_foreign_23 ?_
          obtain ⟨k5, h⟩ := gK_inv h
          obtain ⟨r6, hr6, h⟩ := bnd h
          refine y_cVi (st := []) C dX10_foreign_24 mX10_256 k5 (tX10_ofCoin hC o0 v3 1 gv3 (by decide) hr6) rfl rfl (Nat.le_of_ble_eq_true rfl) (by decide) (fun gr6 => ?_)
          refine z_aload_n C dX10_foreign_27 0 rfl ?_
          refine z_iload_n C dX10_foreign_28 3 rfl ?_
          obtain ⟨k7, h⟩ := gK_inv h
          obtain ⟨r8, hr8, h⟩ := bnd h
          refine y_cVi (st := [.int (iv r6)]) C dX10_foreign_29 mX10_253 k7 (tX10_topOf hC o0 v3 gv3 hr8) rfl rfl (Nat.le_of_ble_eq_true rfl) (by decide) (fun gr8 => ?_)
          refine z_icmp_ne 38 C dX10_foreign_32 (by decide) gr6 gr8 (fun e9 => ?_) (fun e9 => ?_)
          ·
            have h := (if_neg e9).symm.trans h
            refine z_iload_n C dX10_foreign_38 2 rfl ?_
            refine z_iload_n C dX10_foreign_39 1 rfl ?_
            refine z_icmp_ne 45 C dX10_foreign_40 (by decide) gv2 gv1 (fun e10 => ?_) (fun e10 => ?_)
            ·
              have h := (if_neg e10).symm.trans h
              refine y_iinc (lv' := [(0, .ref (G.2.2 + o0)), (1, .int (iv v1)), (2, .int (iv (w32 (v2 + 1)))), (3, .int (iv v3))]) C dX10_foreign_45 2 rfl (by decide) [1, 2, 0, 3] rfl ?_
              refine y_iinc (lv' := [(0, .ref (G.2.2 + o0)), (1, .int (iv v1)), (2, .int (iv (w32 (v2 + 1)))), (3, .int (iv (w32 (v3 + 1))))]) C dX10_foreign_48 3 rfl (by decide) [1, 2, 3, 0] rfl ?_
              refine z_goto 13 C dX10_foreign_51 (by decide) ?_
              exact ih13 (w32 (v2 + 1)) (w32 (v3 + 1)) (w32_rng _) (w32_rng _) (lp_back h hZ13)
            ·
              have h := (if_pos e10).symm.trans h
              refine z_iload_n C dX10_foreign_43 3 rfl ?_
              have h := lp_ret (K := (uX10_foreign_c13 o0 v1 M)) h hZ13 hc13
              exact y_iretB C dX10_foreign_44 h gv3
          ·
            have h := (if_pos e9).symm.trans h
            refine z_goto 48 C dX10_foreign_35 (by decide) ?_
            refine y_iinc (lv' := [(0, .ref (G.2.2 + o0)), (1, .int (iv v1)), (2, .int (iv v2)), (3, .int (iv (w32 (v3 + 1))))]) C dX10_foreign_48 3 rfl (by decide) [1, 2, 3, 0] rfl ?_
            refine z_goto 13 C dX10_foreign_51 (by decide) ?_
            exact ih13 v2 (w32 (v3 + 1)) gv2 (w32_rng _) (lp_back h hZ13)
    exact hL13 _ v2 v3 gv2 gv3 hb13_
  unfold uX10_foreign at h
  refine z_aload_n C dX10_foreign_0 0 rfl ?_
  refine z_iconst C dX10_foreign_1 ?_
  obtain ⟨M11, hM11, h⟩ := bnd h
  refine y_putI C dX10_foreign_2 fX10_83 rfl rfl rfl rfl hM11 ?_
  refine z_aload_n C dX10_foreign_5 0 rfl ?_
  obtain ⟨k12, h⟩ := gK_inv h
  obtain ⟨M13, hM13, h⟩ := bnd h
  refine y_cVv (st := []) C dX10_foreign_6 mX10_167 k12 (tX10_lay hC o0  hM13) rfl rfl (Nat.le_of_ble_eq_true rfl) (by decide) ?_
  refine z_iconst C dX10_foreign_9 ?_
  refine z_istore_n (lv' := [(0, .ref (G.2.2 + o0)), (1, .int (iv v1)), (2, .int (iv 0))]) C dX10_foreign_10 rfl (by decide) [1, 2, 0] rfl ?_
  refine z_iconst C dX10_foreign_11 ?_
  refine z_istore_n (lv' := [(0, .ref (G.2.2 + o0)), (1, .int (iv v1)), (2, .int (iv 0)), (3, .int (iv 0))]) C dX10_foreign_12 rfl (by decide) [1, 2, 3, 0] rfl ?_
  exact hb13 o0 v1 0 0 M13 gv1 (by decide) (by decide) h

set_option maxHeartbeats 4000000 in
set_option maxRecDepth 100000 in
theorem tX10_silver {G : Gx} {σ : State} (hC : Cy G σ) (o0 : Nat) (v1 : Int) {M0 : Mm} (gv1 : rg v1) {R : Int × Mm} (h : uX10_silver o0 v1 M0 = some R) : Ct G σ (3) yX10_silver cX10_silver 4 (some .int) [.ref (G.2.2 + o0), .int (iv v1)] M0 0 0 (Qi R.1 R.2) := by
  refine Ct.of hC.1 (by decide +kernel) (Nat.le_of_ble_eq_true rfl) ?_
  intro p l e R0 s m args below meth c C
  show Jz G σ p l e R0 s m args below meth c 4 0 0 (Qi R.1 R.2) M0 0 0 0 [(0, .ref (G.2.2 + o0)), (1, .int (iv v1))] []
  have hb68 : ∀ (v2 : Int) (M : Mm), (rg v2) → uX10_silver_b68 v2 M = some R → Jz G σ p l e R0 s m args below meth c 4 0 0 (Qi R.1 R.2) M 0 0 68 [(2, .int (iv v2))] [] := by
    intro v2 M gv2 h
    unfold uX10_silver_b68 at h
    refine z_iload_n C dX10_silver_68 0 rfl ?_
    exact y_iretB C dX10_silver_69 h gv2
  have hb45 : ∀ (o0 : Nat) (v2 : Int) (v3 : Int) (M : Mm), (rg v2) → (rg v3) → uX10_silver_b45 o0 v2 v3 M = some R → Jz G σ p l e R0 s m args below meth c 4 0 0 (Qi R.1 R.2) M 0 0 45 [(0, .ref (G.2.2 + o0)), (2, .int (iv v2)), (3, .int (iv v3))] [] := by
    intro o0 v2 v3 M gv2 gv3 h
    unfold uX10_silver_b45 at h
    obtain ⟨b45, hb45_, hc45⟩ := bnd h
    have hL45 : ∀ (n : Nat) (v2 : Int) (v3 : Int), (rg v2) → (rg v3) → lp (uX10_silver_f45 o0 M) n (v2, v3) = some b45 → Jz G σ p l e R0 s m args below meth c 4 0 0 (Qi R.1 R.2) M 0 0 45 [(0, .ref (G.2.2 + o0)), (2, .int (iv v2)), (3, .int (iv v3))] [] := by
      intro n; induction n with
      | zero => intro v2 v3 gv2 gv3 hq; exact (lp_0 hq).elim
      | succ n45 ih45 =>
        intro v2 v3 gv2 gv3 hq
        obtain ⟨z45, h, hZ45⟩ := lp_s hq
        have h : uX10_silver_s45 o0 M v2 v3 = some z45 := h
        unfold uX10_silver_s45 at h
        refine z_iload_n C dX10_silver_45 2 rfl ?_
        refine z_aload_n C dX10_silver_46 0 rfl ?_
        obtain ⟨k1, h⟩ := gK_inv h
        obtain ⟨r2, hr2, h⟩ := bnd h
        refine y_cVi (st := [.int (iv v3)]) C dX10_silver_47 mX10_188 k1 (tX10_coins hC o0  hr2) rfl rfl (Nat.le_of_ble_eq_true rfl) (by decide) (fun gr2 => ?_)
        refine z_icmp_ge 68 C dX10_silver_50 (by decide) gv3 gr2 (fun e3 => ?_) (fun e3 => ?_)
        ·
          have h := (if_pos e3).symm.trans h
          have h : uX10_silver_b68 v2 M = some R := lp_ex (K := (uX10_silver_c45 o0 M)) h hZ45 hc45
          refine z_drop (lv' := [(2, .int (iv v2))]) [1] rfl ?_
          exact hb68 v2 M gv2 h
        ·
          have h := (if_neg e3).symm.trans h
          refine z_iload_n C dX10_silver_53 1 rfl ?_
          refine z_aload_n C dX10_silver_54 0 rfl ?_
          refine z_iload_n C dX10_silver_55 2 rfl ?_
          refine z_iconst C dX10_silver_56 ?_
          obtain ⟨k4, h⟩ := gK_inv h
          obtain ⟨r5, hr5, h⟩ := bnd h
          refine y_cVi (st := [.int (iv v2)]) C dX10_silver_57 mX10_256 k4 (tX10_ofCoin hC o0 v3 0 gv3 (by decide) hr5) rfl rfl (Nat.le_of_ble_eq_true rfl) (by decide) (fun gr5 => ?_)
          refine y_iadd C dX10_silver_60 ?_
          refine z_istore_n (lv' := [(0, .ref (G.2.2 + o0)), (2, .int (iv (w32 (v2 + r5)))), (3, .int (iv v3))]) C dX10_silver_61 rfl (by decide) [1, 0, 2] rfl ?_
          refine y_iinc (lv' := [(0, .ref (G.2.2 + o0)), (2, .int (iv (w32 (v2 + r5)))), (3, .int (iv (w32 (v3 + 1))))]) C dX10_silver_62 2 rfl (by decide) [1, 2, 0] rfl ?_
          refine z_goto 45 C dX10_silver_65 (by decide) ?_
          exact ih45 (w32 (v2 + r5)) (w32 (v3 + 1)) (w32_rng _) (w32_rng _) (lp_back h hZ45)
    exact hL45 _ v2 v3 gv2 gv3 hb45_
  unfold uX10_silver at h
  refine z_aload_n C dX10_silver_0 0 rfl ?_
  refine z_iconst C dX10_silver_1 ?_
  obtain ⟨M6, hM6, h⟩ := bnd h
  refine y_putI C dX10_silver_2 fX10_83 rfl rfl rfl rfl hM6 ?_
  refine z_aload_n C dX10_silver_5 0 rfl ?_
  obtain ⟨k7, h⟩ := gK_inv h
  obtain ⟨M8, hM8, h⟩ := bnd h
  refine y_cVv (st := []) C dX10_silver_6 mX10_167 k7 (tX10_lay hC o0  hM8) rfl rfl (Nat.le_of_ble_eq_true rfl) (by decide) ?_
  refine z_iload_n C dX10_silver_9 1 rfl ?_
  refine z_if_ne 21 C dX10_silver_10 (by decide) gv1 (fun e9 => ?_) (fun e9 => ?_)
  ·
    have h := (if_neg e9).symm.trans h
    refine z_iload_n C dX10_silver_21 1 rfl ?_
    refine z_iconst C dX10_silver_22 ?_
    refine z_icmp_ne 34 C dX10_silver_23 (by decide) gv1 (by decide) (fun e10 => ?_) (fun e10 => ?_)
    ·
      have h := (if_neg e10).symm.trans h
      refine z_iload_n C dX10_silver_34 1 rfl ?_
      refine z_iconst C dX10_silver_35 ?_
      refine z_icmp_eq 41 C dX10_silver_36 (by decide) gv1 (by decide) (fun e11 => ?_) (fun e11 => ?_)
      ·
        have h := (if_pos e11).symm.trans h
        refine z_iconst C dX10_silver_41 ?_
        refine z_istore_n (lv' := [(0, .ref (G.2.2 + o0)), (1, .int (iv v1)), (2, .int (iv 0))]) C dX10_silver_42 rfl (by decide) [1, 2, 0] rfl ?_
        refine z_iconst C dX10_silver_43 ?_
        refine z_istore_n (lv' := [(0, .ref (G.2.2 + o0)), (1, .int (iv v1)), (2, .int (iv 0)), (3, .int (iv 0))]) C dX10_silver_44 rfl (by decide) [1, 2, 3, 0] rfl ?_
        refine z_drop (lv' := [(0, .ref (G.2.2 + o0)), (2, .int (iv 0)), (3, .int (iv 0))]) [0, 2, 3] rfl ?_
        exact hb45 o0 0 0 M8 (by decide) (by decide) h
      ·
        have h := (if_neg e11).symm.trans h
        refine z_iconst C dX10_silver_39 ?_
        exact y_iretB C dX10_silver_40 h (by decide)
    ·
      have h := (if_pos e10).symm.trans h
      refine z_aload_n C dX10_silver_26 0 rfl ?_
      obtain ⟨on12, hon12, h⟩ := bnd h
      refine y_getR C dX10_silver_27 fX10_13 rfl hon12 ?_
      refine z_bipush C dX10_silver_30 (by decide) ?_
      obtain ⟨x13, hx13, h⟩ := bnd h
      refine y_iald C dX10_silver_32 hx13 (fun gx13 => ?_)
      exact y_iretB C dX10_silver_33 h gx13
  ·
    have h := (if_pos e9).symm.trans h
    refine z_aload_n C dX10_silver_13 0 rfl ?_
    obtain ⟨on14, hon14, h⟩ := bnd h
    refine y_getR C dX10_silver_14 fX10_13 rfl hon14 ?_
    refine z_bipush C dX10_silver_17 (by decide) ?_
    obtain ⟨x15, hx15, h⟩ := bnd h
    refine y_iald C dX10_silver_19 hx15 (fun gx15 => ?_)
    exact y_iretB C dX10_silver_20 h gx15

set_option maxHeartbeats 4000000 in
set_option maxRecDepth 100000 in
theorem tX10_image {G : Gx} {σ : State} (hC : Cy G σ) (o0 : Nat) (v1 : Int) {M0 : Mm} (gv1 : rg v1) {R : Int × Mm} (h : uX10_image o0 v1 M0 = some R) : Ct G σ (3) yX10_image cX10_image 3 (some .boolean) [.ref (G.2.2 + o0), .int (iv v1)] M0 0 0 (Qb R.1 R.2) := by
  refine Ct.of hC.1 (by decide +kernel) (Nat.le_of_ble_eq_true rfl) ?_
  intro p l e R0 s m args below meth c C
  show Jz G σ p l e R0 s m args below meth c 3 0 0 (Qb R.1 R.2) M0 0 0 0 [(0, .ref (G.2.2 + o0)), (1, .int (iv v1))] []
  have hb84 : ∀ (o0 : Nat) (v1 : Int) (M : Mm), (rg v1) → uX10_image_b84 o0 v1 M = some R → Jz G σ p l e R0 s m args below meth c 3 0 0 (Qb R.1 R.2) M 0 0 84 [(0, .ref (G.2.2 + o0)), (1, .int (iv v1))] [] := by
    intro o0 v1 M gv1 h
    unfold uX10_image_b84 at h
    refine z_aload_n C dX10_image_84 0 rfl ?_
    obtain ⟨on1, hon1, h⟩ := bnd h
    refine y_getR C dX10_image_85 fX10_36 rfl hon1 ?_
    refine z_iload_n C dX10_image_88 1 rfl ?_
    refine z_iconst C dX10_image_89 ?_
    obtain ⟨M2, hM2, h⟩ := bnd h
    refine y_zast C dX10_image_90 (nar01 (by decide)) hM2 ?_
    refine z_iconst C dX10_image_91 ?_
    exact y_zretB C dX10_image_92 h (by decide)
  have hb55 : ∀ (o0 : Nat) (v1 : Int) (v2 : Int) (M : Mm), (rg v1) → (rg v2) → uX10_image_b55 o0 v1 v2 M = some R → Jz G σ p l e R0 s m args below meth c 3 0 0 (Qb R.1 R.2) M 0 0 55 [(0, .ref (G.2.2 + o0)), (1, .int (iv v1)), (2, .int (iv v2))] [] := by
    intro o0 v1 v2 M gv1 gv2 h
    unfold uX10_image_b55 at h
    obtain ⟨b55, hb55_, hc55⟩ := bnd h
    have hL55 : ∀ (n : Nat) (v2 : Int) (M : Mm), (rg v2) → lp (uX10_image_f55 o0 v1) n (v2, M) = some b55 → Jz G σ p l e R0 s m args below meth c 3 0 0 (Qb R.1 R.2) M 0 0 55 [(0, .ref (G.2.2 + o0)), (1, .int (iv v1)), (2, .int (iv v2))] [] := by
      intro n; induction n with
      | zero => intro v2 M gv2 hq; exact (lp_0 hq).elim
      | succ n55 ih55 =>
        intro v2 M gv2 hq
        obtain ⟨z55, h, hZ55⟩ := lp_s hq
        have h : uX10_image_s55 o0 v1 v2 M = some z55 := h
        unfold uX10_image_s55 at h
        refine z_iload_n C dX10_image_55 2 rfl ?_
        refine z_bipush C dX10_image_56 (by decide) ?_
        refine z_icmp_ge 84 C dX10_image_58 (by decide) gv2 (by decide) (fun e3 => ?_) (fun e3 => ?_)
        ·
          have h := (if_pos e3).symm.trans h
          have h : uX10_image_b84 o0 v1 M = some R := lp_ex (K := (uX10_image_c55 o0 v1)) h hZ55 hc55
          refine z_drop (lv' := [(0, .ref (G.2.2 + o0)), (1, .int (iv v1))]) [0, 1] rfl ?_
          exact hb84 o0 v1 M gv1 h
        ·
          have h := (if_neg e3).symm.trans h
          refine z_aload_n C dX10_image_61 0 rfl ?_
          obtain ⟨on4, hon4, h⟩ := bnd h
          refine y_getR C dX10_image_62 fX10_33 rfl hon4 ?_
          refine z_bipush C dX10_image_65 (by decide) ?_
          refine z_iload_n C dX10_image_67 1 rfl ?_
          refine y_imul C dX10_image_68 ?_
          refine z_iload_n C dX10_image_69 2 rfl ?_
          refine y_iadd C dX10_image_70 ?_
          refine z_aload_n C dX10_image_71 0 rfl ?_
          obtain ⟨on5, hon5, h⟩ := bnd h
          refine y_getR C dX10_image_72 fX10_26 rfl hon5 ?_
          refine z_iload_n C dX10_image_75 2 rfl ?_
          obtain ⟨x6, hx6, h⟩ := bnd h
          refine y_lald C dX10_image_76 hx6 (fun gx6 => ?_)
          obtain ⟨M7, hM7, h⟩ := bnd h
          refine y_last C dX10_image_77 hM7 ?_
          refine y_iinc (lv' := [(0, .ref (G.2.2 + o0)), (1, .int (iv v1)), (2, .int (iv (w32 (v2 + 1))))]) C dX10_image_78 2 rfl (by decide) [1, 2, 0] rfl ?_
          refine z_goto 55 C dX10_image_81 (by decide) ?_
          exact ih55 (w32 (v2 + 1)) M7 (w32_rng _) (lp_back h hZ55)
    exact hL55 _ v2 M gv2 hb55_
  have hb53 : ∀ (o0 : Nat) (v1 : Int) (M : Mm), (rg v1) → uX10_image_b53 o0 v1 M = some R → Jz G σ p l e R0 s m args below meth c 3 0 0 (Qb R.1 R.2) M 0 0 53 [(0, .ref (G.2.2 + o0)), (1, .int (iv v1))] [] := by
    intro o0 v1 M gv1 h
    unfold uX10_image_b53 at h
    refine z_iconst C dX10_image_53 ?_
    refine z_istore_n (lv' := [(0, .ref (G.2.2 + o0)), (1, .int (iv v1)), (2, .int (iv 0))]) C dX10_image_54 rfl (by decide) [1, 2, 0] rfl ?_
    exact hb55 o0 v1 0 M gv1 (by decide) h
  have hb22 : ∀ (o0 : Nat) (v1 : Int) (v2 : Int) (M : Mm), (rg v1) → (rg v2) → uX10_image_b22 o0 v1 v2 M = some R → Jz G σ p l e R0 s m args below meth c 3 0 0 (Qb R.1 R.2) M 0 0 22 [(0, .ref (G.2.2 + o0)), (1, .int (iv v1)), (2, .int (iv v2))] [] := by
    intro o0 v1 v2 M gv1 gv2 h
    unfold uX10_image_b22 at h
    obtain ⟨b22, hb22_, hc22⟩ := bnd h
    have hL22 : ∀ (n : Nat) (v2 : Int) (M : Mm), (rg v2) → lp (uX10_image_f22 o0 v1) n (v2, M) = some b22 → Jz G σ p l e R0 s m args below meth c 3 0 0 (Qb R.1 R.2) M 0 0 22 [(0, .ref (G.2.2 + o0)), (1, .int (iv v1)), (2, .int (iv v2))] [] := by
      intro n; induction n with
      | zero => intro v2 M gv2 hq; exact (lp_0 hq).elim
      | succ n22 ih22 =>
        intro v2 M gv2 hq
        obtain ⟨z22, h, hZ22⟩ := lp_s hq
        have h : uX10_image_s22 o0 v1 v2 M = some z22 := h
        unfold uX10_image_s22 at h
        refine z_iload_n C dX10_image_22 2 rfl ?_
        refine z_sipush C dX10_image_23 (by decide) ?_
        refine z_icmp_ge 53 C dX10_image_26 (by decide) gv2 (by decide) (fun e8 => ?_) (fun e8 => ?_)
        ·
          have h := (if_pos e8).symm.trans h
          have h : uX10_image_b53 o0 v1 M = some R := lp_ex (K := (uX10_image_c22 o0 v1)) h hZ22 hc22
          refine z_drop (lv' := [(0, .ref (G.2.2 + o0)), (1, .int (iv v1))]) [0, 1] rfl ?_
          exact hb53 o0 v1 M gv1 h
        ·
          have h := (if_neg e8).symm.trans h
          refine z_aload_n C dX10_image_29 0 rfl ?_
          obtain ⟨on9, hon9, h⟩ := bnd h
          refine y_getR C dX10_image_30 fX10_19 rfl hon9 ?_
          refine z_sipush C dX10_image_33 (by decide) ?_
          refine z_iload_n C dX10_image_36 1 rfl ?_
          refine y_imul C dX10_image_37 ?_
          refine z_iload_n C dX10_image_38 2 rfl ?_
          refine y_iadd C dX10_image_39 ?_
          refine z_aload_n C dX10_image_40 0 rfl ?_
          obtain ⟨on10, hon10, h⟩ := bnd h
          refine y_getR C dX10_image_41 fX10_13 rfl hon10 ?_
          refine z_iload_n C dX10_image_44 2 rfl ?_
          obtain ⟨x11, hx11, h⟩ := bnd h
          refine y_iald C dX10_image_45 hx11 (fun gx11 => ?_)
          obtain ⟨M12, hM12, h⟩ := bnd h
          refine y_iast C dX10_image_46 hM12 ?_
          refine y_iinc (lv' := [(0, .ref (G.2.2 + o0)), (1, .int (iv v1)), (2, .int (iv (w32 (v2 + 1))))]) C dX10_image_47 2 rfl (by decide) [1, 2, 0] rfl ?_
          refine z_goto 22 C dX10_image_50 (by decide) ?_
          exact ih22 (w32 (v2 + 1)) M12 (w32_rng _) (lp_back h hZ22)
    exact hL22 _ v2 M gv2 hb22_
  unfold uX10_image at h
  refine z_aload_n C dX10_image_0 0 rfl ?_
  refine z_iconst C dX10_image_1 ?_
  obtain ⟨M13, hM13, h⟩ := bnd h
  refine y_putI C dX10_image_2 fX10_83 rfl rfl rfl rfl hM13 ?_
  refine z_aload_n C dX10_image_5 0 rfl ?_
  obtain ⟨k14, h⟩ := gK_inv h
  obtain ⟨M15, hM15, h⟩ := bnd h
  refine y_cVv (st := []) C dX10_image_6 mX10_167 k14 (tX10_lay hC o0  hM15) rfl rfl (Nat.le_of_ble_eq_true rfl) (by decide) ?_
  refine z_iload_n C dX10_image_9 1 rfl ?_
  refine z_iconst C dX10_image_10 ?_
  refine z_iconst C dX10_image_11 ?_
  obtain ⟨r16, hr16, h⟩ := bnd h
  refine y_cSb (st := []) C dX10_image_12 mX10_154 (tX10_isIn hC v1 0 1 gv1 (by decide) (by decide) hr16) rfl rfl (Nat.le_of_ble_eq_true rfl) (by decide) (fun br16 => ?_)
  refine z_if_ne 20 C dX10_image_15 (by decide) (rg01 br16) (fun e17 => ?_) (fun e17 => ?_)
  ·
    have h := (if_neg e17).symm.trans h
    refine z_iconst C dX10_image_20 ?_
    refine z_istore_n (lv' := [(0, .ref (G.2.2 + o0)), (1, .int (iv v1)), (2, .int (iv 0))]) C dX10_image_21 rfl (by decide) [1, 2, 0] rfl ?_
    exact hb22 o0 v1 0 M15 gv1 (by decide) h
  ·
    have h := (if_pos e17).symm.trans h
    refine z_iconst C dX10_image_18 ?_
    exact y_zretB C dX10_image_19 h (by decide)

set_option maxHeartbeats 4000000 in
set_option maxRecDepth 100000 in
theorem tX10_restore {G : Gx} {σ : State} (hC : Cy G σ) (o0 : Nat) (v1 : Int) {M0 : Mm} (gv1 : rg v1) {R : Int × Mm} (h : uX10_restore o0 v1 M0 = some R) : Ct G σ (3) yX10_restore cX10_restore 3 (some .boolean) [.ref (G.2.2 + o0), .int (iv v1)] M0 0 0 (Qb R.1 R.2) := by
  refine Ct.of hC.1 (by decide +kernel) (Nat.le_of_ble_eq_true rfl) ?_
  intro p l e R0 s m args below meth c C
  show Jz G σ p l e R0 s m args below meth c 3 0 0 (Qb R.1 R.2) M0 0 0 0 [(0, .ref (G.2.2 + o0)), (1, .int (iv v1))] []
  have hb93 : ∀ (o0 : Nat) (M : Mm), uX10_restore_b93 o0 M = some R → Jz G σ p l e R0 s m args below meth c 3 0 0 (Qb R.1 R.2) M 0 0 93 [(0, .ref (G.2.2 + o0))] [] := by
    intro o0 M  h
    unfold uX10_restore_b93 at h
    refine z_aload_n C dX10_restore_93 0 rfl ?_
    refine z_iconst C dX10_restore_94 ?_
    obtain ⟨M1, hM1, h⟩ := bnd h
    refine y_putI C dX10_restore_95 fX10_240 rfl rfl rfl rfl hM1 ?_
    refine z_iconst C dX10_restore_98 ?_
    exact y_zretB C dX10_restore_99 h (by decide)
  have hb64 : ∀ (o0 : Nat) (v1 : Int) (v2 : Int) (M : Mm), (rg v1) → (rg v2) → uX10_restore_b64 o0 v1 v2 M = some R → Jz G σ p l e R0 s m args below meth c 3 0 0 (Qb R.1 R.2) M 0 0 64 [(0, .ref (G.2.2 + o0)), (1, .int (iv v1)), (2, .int (iv v2))] [] := by
    intro o0 v1 v2 M gv1 gv2 h
    unfold uX10_restore_b64 at h
    obtain ⟨b64, hb64_, hc64⟩ := bnd h
    have hL64 : ∀ (n : Nat) (v2 : Int) (M : Mm), (rg v2) → lp (uX10_restore_f64 o0 v1) n (v2, M) = some b64 → Jz G σ p l e R0 s m args below meth c 3 0 0 (Qb R.1 R.2) M 0 0 64 [(0, .ref (G.2.2 + o0)), (1, .int (iv v1)), (2, .int (iv v2))] [] := by
      intro n; induction n with
      | zero => intro v2 M gv2 hq; exact (lp_0 hq).elim
      | succ n64 ih64 =>
        intro v2 M gv2 hq
        obtain ⟨z64, h, hZ64⟩ := lp_s hq
        have h : uX10_restore_s64 o0 v1 v2 M = some z64 := h
        unfold uX10_restore_s64 at h
        refine z_iload_n C dX10_restore_64 2 rfl ?_
        refine z_bipush C dX10_restore_65 (by decide) ?_
        refine z_icmp_ge 93 C dX10_restore_67 (by decide) gv2 (by decide) (fun e2 => ?_) (fun e2 => ?_)
        ·
          have h := (if_pos e2).symm.trans h
          have h : uX10_restore_b93 o0 M = some R := lp_ex (K := (uX10_restore_c64 o0 v1)) h hZ64 hc64
          refine z_drop (lv' := [(0, .ref (G.2.2 + o0))]) [0] rfl ?_
          exact hb93 o0 M  h
        ·
          have h := (if_neg e2).symm.trans h
          refine z_aload_n C dX10_restore_70 0 rfl ?_
          obtain ⟨on3, hon3, h⟩ := bnd h
          refine y_getR C dX10_restore_71 fX10_26 rfl hon3 ?_
          refine z_iload_n C dX10_restore_74 2 rfl ?_
          refine z_aload_n C dX10_restore_75 0 rfl ?_
          obtain ⟨on4, hon4, h⟩ := bnd h
          refine y_getR C dX10_restore_76 fX10_33 rfl hon4 ?_
          refine z_bipush C dX10_restore_79 (by decide) ?_
          refine z_iload_n C dX10_restore_81 1 rfl ?_
          refine y_imul C dX10_restore_82 ?_
          refine z_iload_n C dX10_restore_83 2 rfl ?_
          refine y_iadd C dX10_restore_84 ?_
          obtain ⟨x5, hx5, h⟩ := bnd h
          refine y_lald C dX10_restore_85 hx5 (fun gx5 => ?_)
          obtain ⟨M6, hM6, h⟩ := bnd h
          refine y_last C dX10_restore_86 hM6 ?_
          refine y_iinc (lv' := [(0, .ref (G.2.2 + o0)), (1, .int (iv v1)), (2, .int (iv (w32 (v2 + 1))))]) C dX10_restore_87 2 rfl (by decide) [1, 2, 0] rfl ?_
          refine z_goto 64 C dX10_restore_90 (by decide) ?_
          exact ih64 (w32 (v2 + 1)) M6 (w32_rng _) (lp_back h hZ64)
    exact hL64 _ v2 M gv2 hb64_
  have hb62 : ∀ (o0 : Nat) (v1 : Int) (M : Mm), (rg v1) → uX10_restore_b62 o0 v1 M = some R → Jz G σ p l e R0 s m args below meth c 3 0 0 (Qb R.1 R.2) M 0 0 62 [(0, .ref (G.2.2 + o0)), (1, .int (iv v1))] [] := by
    intro o0 v1 M gv1 h
    unfold uX10_restore_b62 at h
    refine z_iconst C dX10_restore_62 ?_
    refine z_istore_n (lv' := [(0, .ref (G.2.2 + o0)), (1, .int (iv v1)), (2, .int (iv 0))]) C dX10_restore_63 rfl (by decide) [1, 2, 0] rfl ?_
    exact hb64 o0 v1 0 M gv1 (by decide) h
  have hb31 : ∀ (o0 : Nat) (v1 : Int) (v2 : Int) (M : Mm), (rg v1) → (rg v2) → uX10_restore_b31 o0 v1 v2 M = some R → Jz G σ p l e R0 s m args below meth c 3 0 0 (Qb R.1 R.2) M 0 0 31 [(0, .ref (G.2.2 + o0)), (1, .int (iv v1)), (2, .int (iv v2))] [] := by
    intro o0 v1 v2 M gv1 gv2 h
    unfold uX10_restore_b31 at h
    obtain ⟨b31, hb31_, hc31⟩ := bnd h
    have hL31 : ∀ (n : Nat) (v2 : Int) (M : Mm), (rg v2) → lp (uX10_restore_f31 o0 v1) n (v2, M) = some b31 → Jz G σ p l e R0 s m args below meth c 3 0 0 (Qb R.1 R.2) M 0 0 31 [(0, .ref (G.2.2 + o0)), (1, .int (iv v1)), (2, .int (iv v2))] [] := by
      intro n; induction n with
      | zero => intro v2 M gv2 hq; exact (lp_0 hq).elim
      | succ n31 ih31 =>
        intro v2 M gv2 hq
        obtain ⟨z31, h, hZ31⟩ := lp_s hq
        have h : uX10_restore_s31 o0 v1 v2 M = some z31 := h
        unfold uX10_restore_s31 at h
        refine z_iload_n C dX10_restore_31 2 rfl ?_
        refine z_sipush C dX10_restore_32 (by decide) ?_
        refine z_icmp_ge 62 C dX10_restore_35 (by decide) gv2 (by decide) (fun e7 => ?_) (fun e7 => ?_)
        ·
          have h := (if_pos e7).symm.trans h
          have h : uX10_restore_b62 o0 v1 M = some R := lp_ex (K := (uX10_restore_c31 o0 v1)) h hZ31 hc31
          refine z_drop (lv' := [(0, .ref (G.2.2 + o0)), (1, .int (iv v1))]) [0, 1] rfl ?_
          exact hb62 o0 v1 M gv1 h
        ·
          have h := (if_neg e7).symm.trans h
          refine z_aload_n C dX10_restore_38 0 rfl ?_
          obtain ⟨on8, hon8, h⟩ := bnd h
          refine y_getR C dX10_restore_39 fX10_13 rfl hon8 ?_
          refine z_iload_n C dX10_restore_42 2 rfl ?_
          refine z_aload_n C dX10_restore_43 0 rfl ?_
          obtain ⟨on9, hon9, h⟩ := bnd h
          refine y_getR C dX10_restore_44 fX10_19 rfl hon9 ?_
          refine z_sipush C dX10_restore_47 (by decide) ?_
          refine z_iload_n C dX10_restore_50 1 rfl ?_
          refine y_imul C dX10_restore_51 ?_
          refine z_iload_n C dX10_restore_52 2 rfl ?_
          refine y_iadd C dX10_restore_53 ?_
          obtain ⟨x10, hx10, h⟩ := bnd h
          refine y_iald C dX10_restore_54 hx10 (fun gx10 => ?_)
          obtain ⟨M11, hM11, h⟩ := bnd h
          refine y_iast C dX10_restore_55 hM11 ?_
          refine y_iinc (lv' := [(0, .ref (G.2.2 + o0)), (1, .int (iv v1)), (2, .int (iv (w32 (v2 + 1))))]) C dX10_restore_56 2 rfl (by decide) [1, 2, 0] rfl ?_
          refine z_goto 31 C dX10_restore_59 (by decide) ?_
          exact ih31 (w32 (v2 + 1)) M11 (w32_rng _) (lp_back h hZ31)
    exact hL31 _ v2 M gv2 hb31_
  unfold uX10_restore at h
  refine z_aload_n C dX10_restore_0 0 rfl ?_
  refine z_iconst C dX10_restore_1 ?_
  obtain ⟨M12, hM12, h⟩ := bnd h
  refine y_putI C dX10_restore_2 fX10_83 rfl rfl rfl rfl hM12 ?_
  refine z_aload_n C dX10_restore_5 0 rfl ?_
  obtain ⟨k13, h⟩ := gK_inv h
  obtain ⟨M14, hM14, h⟩ := bnd h
  refine y_cVv (st := []) C dX10_restore_6 mX10_167 k13 (tX10_lay hC o0  hM14) rfl rfl (Nat.le_of_ble_eq_true rfl) (by decide) ?_
  refine z_iload_n C dX10_restore_9 1 rfl ?_
  refine z_iconst C dX10_restore_10 ?_
  refine z_iconst C dX10_restore_11 ?_
  obtain ⟨r15, hr15, h⟩ := bnd h
  refine y_cSb (st := []) C dX10_restore_12 mX10_154 (tX10_isIn hC v1 0 1 gv1 (by decide) (by decide) hr15) rfl rfl (Nat.le_of_ble_eq_true rfl) (by decide) (fun br15 => ?_)
  refine z_if_eq 27 C dX10_restore_15 (by decide) (rg01 br15) (fun e16 => ?_) (fun e16 => ?_)
  ·
    have h := (if_pos e16).symm.trans h
    refine z_iconst C dX10_restore_27 ?_
    exact y_zretB C dX10_restore_28 h (by decide)
  ·
    have h := (if_neg e16).symm.trans h
    refine z_aload_n C dX10_restore_18 0 rfl ?_
    obtain ⟨on17, hon17, h⟩ := bnd h
    refine y_getR C dX10_restore_19 fX10_36 rfl hon17 ?_
    refine z_iload_n C dX10_restore_22 1 rfl ?_
    obtain ⟨x18, hx18, h⟩ := bnd h
    refine y_zald C dX10_restore_23 hx18 (fun gx18 => ?_)
    refine z_if_ne 29 C dX10_restore_24 (by decide) gx18 (fun e19 => ?_) (fun e19 => ?_)
    ·
      have h := (if_neg e19).symm.trans h
      refine z_iconst C dX10_restore_29 ?_
      refine z_istore_n (lv' := [(0, .ref (G.2.2 + o0)), (1, .int (iv v1)), (2, .int (iv 0))]) C dX10_restore_30 rfl (by decide) [1, 2, 0] rfl ?_
      exact hb31 o0 v1 0 M14 gv1 (by decide) h
    ·
      have h := (if_pos e19).symm.trans h
      refine z_iconst C dX10_restore_27 ?_
      exact y_zretB C dX10_restore_28 h (by decide)
