set_option maxHeartbeats 4000000 in
set_option maxRecDepth 100000 in
theorem tX8_hundredths {G : Gx} {σ : State} (hC : Cy G σ) (o0 : Nat) (v1 : Int) (v2 : Int) (v3 : Int) {M0 : Mm} (gv1 : rg v1) (gv2 : rg v2) (gv3 : rg v3) {R : Int} (h : uX8_hundredths o0 v1 v2 v3 M0 = some R) : Ct G σ (2) yX8_hundredths cX8_hundredths 5 (some .int) [.ref (G.2.2 + o0), .int (iv v1), .int (iv v2), .int (iv v3)] M0 0 0 (Qi R M0) := by
  refine Ct.of hC.1 (by decide +kernel) (Nat.le_of_ble_eq_true rfl) ?_
  intro p l e R0 s m args below meth c C
  show Jz G σ p l e R0 s m args below meth c 5 0 0 (Qi R M0) M0 0 0 0 [(0, .ref (G.2.2 + o0)), (1, .int (iv v1)), (2, .int (iv v2)), (3, .int (iv v3))] []
  have hb63 : ∀ (o0 : Nat) (v2 : Int) (v3 : Int) (vs0 : Int), (rg v2) → (rg v3) → (rg vs0) → uX8_hundredths_b63 o0 v2 v3 vs0 M0 = some R → Jz G σ p l e R0 s m args below meth c 5 0 0 (Qi R M0) M0 0 0 63 [(0, .ref (G.2.2 + o0)), (2, .int (iv v2)), (3, .int (iv v3))] [.int (iv vs0)] := by
    intro o0 v2 v3 vs0  gv2 gv3 gvs0 h
    unfold uX8_hundredths_b63 at h
    refine z_istore (lv' := [(0, .ref (G.2.2 + o0)), (2, .int (iv v2)), (3, .int (iv v3)), (4, .int (iv vs0))]) C dX8_hundredths_63 (by decide) [1, 2, 3, 0] rfl ?_
    refine z_aload_n C dX8_hundredths_65 0 rfl ?_
    obtain ⟨on1, hon1, h⟩ := bnd h
    refine y_getR C dX8_hundredths_66 fX8_12 rfl hon1 ?_
    obtain ⟨on2, hon2, h⟩ := bnd h
    refine y_getR C dX8_hundredths_69 fX8_109 rfl hon2 ?_
    refine z_iload_n C dX8_hundredths_72 1 rfl ?_
    obtain ⟨x3, hx3, h⟩ := bnd h
    refine y_iald C dX8_hundredths_73 hx3 (fun gx3 => ?_)
    refine z_iconst C dX8_hundredths_74 ?_
    refine z_icmp_ne 85 C dX8_hundredths_75 (by decide) gx3 (by decide) (fun e4 => ?_) (fun e4 => ?_)
    ·
      have h := (if_neg e4).symm.trans h
      refine z_iload C dX8_hundredths_85 3 rfl ?_
      exact y_iretP C dX8_hundredths_87 h gvs0
    ·
      have h := (if_pos e4).symm.trans h
      refine z_iload C dX8_hundredths_78 3 rfl ?_
      refine z_iload_n C dX8_hundredths_80 2 rfl ?_
      refine y_iadd C dX8_hundredths_81 ?_
      refine z_goto 87 C dX8_hundredths_82 (by decide) ?_
      exact y_iretP C dX8_hundredths_87 h (w32_rng _)
  unfold uX8_hundredths at h
  refine z_iload_n C dX8_hundredths_0 2 rfl ?_
  refine z_iload_n C dX8_hundredths_1 1 rfl ?_
  refine z_icmp_ne 8 C dX8_hundredths_2 (by decide) gv2 gv1 (fun e5 => ?_) (fun e5 => ?_)
  ·
    have h := (if_neg e5).symm.trans h
    refine z_aload_n C dX8_hundredths_8 0 rfl ?_
    refine z_iload_n C dX8_hundredths_9 2 rfl ?_
    obtain ⟨k6, h⟩ := gK_inv h
    obtain ⟨r7, hr7, h⟩ := bnd h
    refine y_cVb (st := []) C dX8_hundredths_10 mX8_69 k6 (tX8_isWho hC o0 v2 gv2 hr7) rfl rfl (Nat.le_of_ble_eq_true rfl) (by decide) (fun br7 => ?_)
    refine z_if_eq 29 C dX8_hundredths_13 (by decide) (rg01 br7) (fun e8 => ?_) (fun e8 => ?_)
    ·
      have h := (if_pos e8).symm.trans h
      refine z_iconst C dX8_hundredths_29 ?_
      exact y_iretP C dX8_hundredths_30 h (by decide)
    ·
      have h := (if_neg e8).symm.trans h
      refine z_aload_n C dX8_hundredths_16 0 rfl ?_
      obtain ⟨on9, hon9, h⟩ := bnd h
      refine y_getR C dX8_hundredths_17 fX8_12 rfl hon9 ?_
      obtain ⟨on10, hon10, h⟩ := bnd h
      refine y_getR C dX8_hundredths_20 fX8_117 rfl hon10 ?_
      refine z_iload_n C dX8_hundredths_23 2 rfl ?_
      obtain ⟨x11, hx11, h⟩ := bnd h
      refine y_iald C dX8_hundredths_24 hx11 (fun gx11 => ?_)
      refine z_iconst C dX8_hundredths_25 ?_
      refine z_icmp_ne 31 C dX8_hundredths_26 (by decide) gx11 (by decide) (fun e12 => ?_) (fun e12 => ?_)
      ·
        have h := (if_neg e12).symm.trans h
        refine z_aload_n C dX8_hundredths_31 0 rfl ?_
        obtain ⟨on13, hon13, h⟩ := bnd h
        refine y_getR C dX8_hundredths_32 fX8_21 rfl hon13 ?_
        refine z_iload_n C dX8_hundredths_35 2 rfl ?_
        obtain ⟨k14, h⟩ := gK_inv h
        obtain ⟨r15, hr15, h⟩ := bnd h
        refine y_cVb (st := []) C dX8_hundredths_36 mX8_73 k14 (tX1_isDead hC on13 v2 gv2 hr15) rfl rfl (Nat.le_of_ble_eq_true rfl) (by decide) (fun br15 => ?_)
        refine z_if_eq 54 C dX8_hundredths_39 (by decide) (rg01 br15) (fun e16 => ?_) (fun e16 => ?_)
        ·
          have h := (if_pos e16).symm.trans h
          refine z_aload_n C dX8_hundredths_54 0 rfl ?_
          obtain ⟨on17, hon17, h⟩ := bnd h
          refine y_getR C dX8_hundredths_55 fX8_12 rfl hon17 ?_
          refine z_iload_n C dX8_hundredths_58 1 rfl ?_
          refine z_iload_n C dX8_hundredths_59 2 rfl ?_
          obtain ⟨k18, h⟩ := gK_inv h
          obtain ⟨r19, hr19, h⟩ := bnd h
          refine y_cVi (st := []) C dX8_hundredths_60 mX8_120 k18 (tX3_takenAt hC on17 v1 v2 gv1 gv2 hr19) rfl rfl (Nat.le_of_ble_eq_true rfl) (by decide) (fun gr19 => ?_)
          refine z_drop (lv' := [(0, .ref (G.2.2 + o0)), (2, .int (iv v2)), (3, .int (iv v3))]) [0, 2, 3] rfl ?_
          exact hb63 o0 v2 v3 r19  gv2 gv3 gr19 h
        ·
          have h := (if_neg e16).symm.trans h
          refine z_aload_n C dX8_hundredths_42 0 rfl ?_
          obtain ⟨on20, hon20, h⟩ := bnd h
          refine y_getR C dX8_hundredths_43 fX8_12 rfl hon20 ?_
          obtain ⟨on21, hon21, h⟩ := bnd h
          refine y_getR C dX8_hundredths_46 fX8_106 rfl hon21 ?_
          refine z_iconst C dX8_hundredths_49 ?_
          obtain ⟨x22, hx22, h⟩ := bnd h
          refine y_iald C dX8_hundredths_50 hx22 (fun gx22 => ?_)
          refine z_goto 63 C dX8_hundredths_51 (by decide) ?_
          refine z_drop (lv' := [(0, .ref (G.2.2 + o0)), (2, .int (iv v2)), (3, .int (iv v3))]) [0, 2, 3] rfl ?_
          exact hb63 o0 v2 v3 x22  gv2 gv3 gx22 h
      ·
        have h := (if_pos e12).symm.trans h
        refine z_iconst C dX8_hundredths_29 ?_
        exact y_iretP C dX8_hundredths_30 h (by decide)
  ·
    have h := (if_pos e5).symm.trans h
    refine z_bipush C dX8_hundredths_5 (by decide) ?_
    exact y_iretP C dX8_hundredths_7 h (by decide)

set_option maxHeartbeats 4000000 in
set_option maxRecDepth 100000 in
theorem tX8_obstacle {G : Gx} {σ : State} (hC : Cy G σ) (o0 : Nat) (v1 : Int) (v2 : Int) (v3 : Int) {M0 : Mm} (gv1 : rg v1) (gv2 : rg v2) (gv3 : rg v3) {R : Int} (h : uX8_obstacle o0 v1 v2 v3 M0 = some R) : Ct G σ (2) yX8_obstacle cX8_obstacle 4 (some .int) [.ref (G.2.2 + o0), .int (iv v1), .int (iv v2), .int (iv v3)] M0 0 0 (Qi R M0) := by
  refine Ct.of hC.1 (by decide +kernel) (Nat.le_of_ble_eq_true rfl) ?_
  intro p l e R0 s m args below meth c C
  show Jz G σ p l e R0 s m args below meth c 4 0 0 (Qi R M0) M0 0 0 0 [(0, .ref (G.2.2 + o0)), (1, .int (iv v1)), (2, .int (iv v2)), (3, .int (iv v3))] []
  unfold uX8_obstacle at h
  refine z_aload_n C dX8_obstacle_0 0 rfl ?_
  refine z_iload_n C dX8_obstacle_1 3 rfl ?_
  obtain ⟨k1, h⟩ := gK_inv h
  obtain ⟨r2, hr2, h⟩ := bnd h
  refine y_cVb (st := []) C dX8_obstacle_2 mX8_130 k1 (tX8_isMint hC o0 v3 gv3 hr2) rfl rfl (Nat.le_of_ble_eq_true rfl) (by decide) (fun br2 => ?_)
  refine z_if_eq 19 C dX8_obstacle_5 (by decide) (rg01 br2) (fun e3 => ?_) (fun e3 => ?_)
  ·
    have h := (if_pos e3).symm.trans h
    refine z_iconst C dX8_obstacle_19 ?_
    exact y_iretP C dX8_obstacle_20 h (by decide)
  ·
    have h := (if_neg e3).symm.trans h
    refine z_aload_n C dX8_obstacle_8 0 rfl ?_
    obtain ⟨on4, hon4, h⟩ := bnd h
    refine y_getR C dX8_obstacle_9 fX8_21 rfl hon4 ?_
    refine z_iload_n C dX8_obstacle_12 3 rfl ?_
    obtain ⟨k5, h⟩ := gK_inv h
    obtain ⟨r6, hr6, h⟩ := bnd h
    refine y_cVb (st := []) C dX8_obstacle_13 mX8_133 k5 (tX1_isClosed hC on4 v3 gv3 hr6) rfl rfl (Nat.le_of_ble_eq_true rfl) (by decide) (fun br6 => ?_)
    refine z_if_eq 21 C dX8_obstacle_16 (by decide) (rg01 br6) (fun e7 => ?_) (fun e7 => ?_)
    ·
      have h := (if_pos e7).symm.trans h
      refine z_iload_n C dX8_obstacle_21 1 rfl ?_
      refine z_aload_n C dX8_obstacle_22 0 rfl ?_
      obtain ⟨on8, hon8, h⟩ := bnd h
      refine y_getR C dX8_obstacle_23 fX8_12 rfl hon8 ?_
      obtain ⟨on9, hon9, h⟩ := bnd h
      refine y_getR C dX8_obstacle_26 fX8_136 rfl hon9 ?_
      refine z_iload_n C dX8_obstacle_29 3 rfl ?_
      obtain ⟨x10, hx10, h⟩ := bnd h
      refine y_iald C dX8_obstacle_30 hx10 (fun gx10 => ?_)
      refine y_isub C dX8_obstacle_31 ?_
      refine z_aload_n C dX8_obstacle_32 0 rfl ?_
      obtain ⟨on11, hon11, h⟩ := bnd h
      refine y_getR C dX8_obstacle_33 fX8_12 rfl hon11 ?_
      obtain ⟨on12, hon12, h⟩ := bnd h
      refine y_getR C dX8_obstacle_36 fX8_106 rfl hon12 ?_
      refine z_iconst C dX8_obstacle_39 ?_
      obtain ⟨x13, hx13, h⟩ := bnd h
      refine y_iald C dX8_obstacle_40 hx13 (fun gx13 => ?_)
      refine z_icmp_ge 46 C dX8_obstacle_41 (by decide) (w32_rng _) gx13 (fun e14 => ?_) (fun e14 => ?_)
      ·
        have h := (if_pos e14).symm.trans h
        refine z_iload_n C dX8_obstacle_46 2 rfl ?_
        refine z_aload_n C dX8_obstacle_47 0 rfl ?_
        obtain ⟨on15, hon15, h⟩ := bnd h
        refine y_getR C dX8_obstacle_48 fX8_12 rfl hon15 ?_
        obtain ⟨on16, hon16, h⟩ := bnd h
        refine y_getR C dX8_obstacle_51 fX8_106 rfl hon16 ?_
        refine z_iconst C dX8_obstacle_54 ?_
        obtain ⟨x17, hx17, h⟩ := bnd h
        refine y_iald C dX8_obstacle_55 hx17 (fun gx17 => ?_)
        refine z_icmp_lt 64 C dX8_obstacle_56 (by decide) gv2 gx17 (fun e18 => ?_) (fun e18 => ?_)
        ·
          have h := (if_pos e18).symm.trans h
          refine z_iconst C dX8_obstacle_64 ?_
          exact y_iretP C dX8_obstacle_65 h (by decide)
        ·
          have h := (if_neg e18).symm.trans h
          refine z_bipush C dX8_obstacle_59 (by decide) ?_
          refine z_goto 65 C dX8_obstacle_61 (by decide) ?_
          exact y_iretP C dX8_obstacle_65 h (by decide)
      ·
        have h := (if_neg e14).symm.trans h
        refine z_iconst C dX8_obstacle_44 ?_
        exact y_iretP C dX8_obstacle_45 h (by decide)
    ·
      have h := (if_neg e7).symm.trans h
      refine z_iconst C dX8_obstacle_19 ?_
      exact y_iretP C dX8_obstacle_20 h (by decide)

set_option maxHeartbeats 4000000 in
set_option maxRecDepth 100000 in
theorem tX8_recordSale {G : Gx} {σ : State} (hC : Cy G σ) (o0 : Nat) (v1 : Int) (v2 : Int) (v3 : Int) (v4 : Int) (v5 : Int) (v6 : Int) {M0 : Mm} (gv1 : rg v1) (gv2 : rg v2) (gv3 : rg v3) (gv4 : rg v4) (gv5 : rg v5) (gv6 : rg v6) {R : Int × Mm} (h : uX8_recordSale o0 v1 v2 v3 v4 v5 v6 M0 = some R) : Ct G σ (2) yX8_recordSale cX8_recordSale 8 (some .int) [.ref (G.2.2 + o0), .int (iv v1), .int (iv v2), .int (iv v3), .int (iv v4), .int (iv v5), .int (iv v6)] M0 0 0 (Qi R.1 R.2) := by
  refine Ct.of hC.1 (by decide +kernel) (Nat.le_of_ble_eq_true rfl) ?_
  intro p l e R0 s m args below meth c C
  show Jz G σ p l e R0 s m args below meth c 8 0 0 (Qi R.1 R.2) M0 0 0 0 [(0, .ref (G.2.2 + o0)), (1, .int (iv v1)), (2, .int (iv v2)), (3, .int (iv v3)), (4, .int (iv v4)), (5, .int (iv v5)), (6, .int (iv v6))] []
  unfold uX8_recordSale at h
  refine z_aload_n C dX8_recordSale_0 0 rfl ?_
  obtain ⟨on1, hon1, h⟩ := bnd h
  refine y_getR C dX8_recordSale_1 fX8_21 rfl hon1 ?_
  obtain ⟨x2, hx2, h⟩ := bnd h
  refine y_getI C dX8_recordSale_4 fX8_57 rfl hx2 (fun gx2 => ?_)
  refine z_istore (lv' := [(0, .ref (G.2.2 + o0)), (1, .int (iv v1)), (2, .int (iv v2)), (3, .int (iv v3)), (4, .int (iv v4)), (5, .int (iv v5)), (6, .int (iv v6)), (7, .int (iv x2))]) C dX8_recordSale_7 (by decide) [1, 2, 3, 4, 5, 6, 7, 0] rfl ?_
  refine z_iload C dX8_recordSale_9 7 rfl ?_
  refine z_sipush C dX8_recordSale_11 (by decide) ?_
  refine z_icmp_lt 19 C dX8_recordSale_14 (by decide) gx2 (by decide) (fun e3 => ?_) (fun e3 => ?_)
  ·
    have h := (if_pos e3).symm.trans h
    refine z_aload_n C dX8_recordSale_19 0 rfl ?_
    obtain ⟨on4, hon4, h⟩ := bnd h
    refine y_getR C dX8_recordSale_20 fX8_34 rfl hon4 ?_
    refine z_iload C dX8_recordSale_23 7 rfl ?_
    refine z_iconst C dX8_recordSale_25 ?_
    refine z_iload_n C dX8_recordSale_26 1 rfl ?_
    obtain ⟨k5, h⟩ := gK_inv h
    obtain ⟨M6, hM6, h⟩ := bnd h
    refine y_cVv (st := []) C dX8_recordSale_27 mX8_143 k5 (tX6_put hC on4 x2 0 v1 gx2 (by decide) gv1 hM6) rfl rfl (Nat.le_of_ble_eq_true rfl) (by decide) ?_
    refine z_aload_n C dX8_recordSale_30 0 rfl ?_
    obtain ⟨on7, hon7, h⟩ := bnd h
    refine y_getR C dX8_recordSale_31 fX8_34 rfl hon7 ?_
    refine z_iload C dX8_recordSale_34 7 rfl ?_
    refine z_iconst C dX8_recordSale_36 ?_
    refine z_iload_n C dX8_recordSale_37 2 rfl ?_
    obtain ⟨k8, h⟩ := gK_inv h
    obtain ⟨M9, hM9, h⟩ := bnd h
    refine y_cVv (st := []) C dX8_recordSale_38 mX8_143 k8 (tX6_put hC on7 x2 1 v2 gx2 (by decide) gv2 hM9) rfl rfl (Nat.le_of_ble_eq_true rfl) (by decide) ?_
    refine z_aload_n C dX8_recordSale_41 0 rfl ?_
    obtain ⟨on10, hon10, h⟩ := bnd h
    refine y_getR C dX8_recordSale_42 fX8_34 rfl hon10 ?_
    refine z_iload C dX8_recordSale_45 7 rfl ?_
    refine z_iconst C dX8_recordSale_47 ?_
    refine z_iload_n C dX8_recordSale_48 3 rfl ?_
    obtain ⟨k11, h⟩ := gK_inv h
    obtain ⟨M12, hM12, h⟩ := bnd h
    refine y_cVv (st := []) C dX8_recordSale_49 mX8_143 k11 (tX6_put hC on10 x2 2 v3 gx2 (by decide) gv3 hM12) rfl rfl (Nat.le_of_ble_eq_true rfl) (by decide) ?_
    refine z_aload_n C dX8_recordSale_52 0 rfl ?_
    obtain ⟨on13, hon13, h⟩ := bnd h
    refine y_getR C dX8_recordSale_53 fX8_34 rfl hon13 ?_
    refine z_iload C dX8_recordSale_56 7 rfl ?_
    refine z_iconst C dX8_recordSale_58 ?_
    refine z_iload C dX8_recordSale_59 4 rfl ?_
    obtain ⟨k14, h⟩ := gK_inv h
    obtain ⟨M15, hM15, h⟩ := bnd h
    refine y_cVv (st := []) C dX8_recordSale_61 mX8_143 k14 (tX6_put hC on13 x2 3 v4 gx2 (by decide) gv4 hM15) rfl rfl (Nat.le_of_ble_eq_true rfl) (by decide) ?_
    refine z_aload_n C dX8_recordSale_64 0 rfl ?_
    obtain ⟨on16, hon16, h⟩ := bnd h
    refine y_getR C dX8_recordSale_65 fX8_34 rfl hon16 ?_
    refine z_iload C dX8_recordSale_68 7 rfl ?_
    refine z_iconst C dX8_recordSale_70 ?_
    refine z_aload_n C dX8_recordSale_71 0 rfl ?_
    obtain ⟨on17, hon17, h⟩ := bnd h
    refine y_getR C dX8_recordSale_72 fX8_21 rfl hon17 ?_
    obtain ⟨x18, hx18, h⟩ := bnd h
    refine y_getI C dX8_recordSale_75 fX8_147 rfl hx18 (fun gx18 => ?_)
    obtain ⟨k19, h⟩ := gK_inv h
    obtain ⟨M20, hM20, h⟩ := bnd h
    refine y_cVv (st := []) C dX8_recordSale_78 mX8_143 k19 (tX6_put hC on16 x2 4 x18 gx2 (by decide) gx18 hM20) rfl rfl (Nat.le_of_ble_eq_true rfl) (by decide) ?_
    refine z_aload_n C dX8_recordSale_81 0 rfl ?_
    obtain ⟨on21, hon21, h⟩ := bnd h
    refine y_getR C dX8_recordSale_82 fX8_34 rfl hon21 ?_
    refine z_iload C dX8_recordSale_85 7 rfl ?_
    refine z_iconst C dX8_recordSale_87 ?_
    refine z_iload C dX8_recordSale_88 5 rfl ?_
    obtain ⟨k22, h⟩ := gK_inv h
    obtain ⟨M23, hM23, h⟩ := bnd h
    refine y_cVv (st := []) C dX8_recordSale_90 mX8_143 k22 (tX6_put hC on21 x2 5 v5 gx2 (by decide) gv5 hM23) rfl rfl (Nat.le_of_ble_eq_true rfl) (by decide) ?_
    refine z_aload_n C dX8_recordSale_93 0 rfl ?_
    obtain ⟨on24, hon24, h⟩ := bnd h
    refine y_getR C dX8_recordSale_94 fX8_34 rfl hon24 ?_
    refine z_iload C dX8_recordSale_97 7 rfl ?_
    refine z_bipush C dX8_recordSale_99 (by decide) ?_
    refine z_iload C dX8_recordSale_101 6 rfl ?_
    obtain ⟨k25, h⟩ := gK_inv h
    obtain ⟨M26, hM26, h⟩ := bnd h
    refine y_cVv (st := []) C dX8_recordSale_103 mX8_143 k25 (tX6_put hC on24 x2 6 v6 gx2 (by decide) gv6 hM26) rfl rfl (Nat.le_of_ble_eq_true rfl) (by decide) ?_
    refine z_aload_n C dX8_recordSale_106 0 rfl ?_
    obtain ⟨on27, hon27, h⟩ := bnd h
    refine y_getR C dX8_recordSale_107 fX8_21 rfl hon27 ?_
    refine z_dup C dX8_recordSale_110 rfl ?_
    obtain ⟨x28, hx28, h⟩ := bnd h
    refine y_getI C dX8_recordSale_111 fX8_57 rfl hx28 (fun gx28 => ?_)
    refine z_iconst C dX8_recordSale_114 ?_
    refine y_iadd C dX8_recordSale_115 ?_
    obtain ⟨M29, hM29, h⟩ := bnd h
    refine y_putI C dX8_recordSale_116 fX8_57 rfl rfl rfl rfl hM29 ?_
    refine z_iload C dX8_recordSale_119 7 rfl ?_
    exact y_iretB C dX8_recordSale_121 h gx2
  ·
    have h := (if_neg e3).symm.trans h
    refine z_iconst C dX8_recordSale_17 ?_
    exact y_iretB C dX8_recordSale_18 h (by decide)

set_option maxHeartbeats 4000000 in
set_option maxRecDepth 100000 in
theorem tX9_feed {G : Gx} {σ : State} (hC : Cy G σ) (o0 : Nat) (v1 : Int) (v2 : Int) (v3 : Int) (v4 : Int) (v5 : Int) {M0 : Mm} (gv1 : rg v1) (gv2 : rg v2) (gv3 : rg v3) (gv4 : rg v4) (gv5 : rg v5) {R : Int × Mm} (h : uX9_feed o0 v1 v2 v3 v4 v5 M0 = some R) : Ct G σ (2) yX9_feed cX9_feed 6 (some .int) [.ref (G.2.2 + o0), .int (iv v1), .int (iv v2), .int (iv v3), .int (iv v4), .int (iv v5)] M0 0 0 (Qi R.1 R.2) := by
  refine Ct.of hC.1 (by decide +kernel) (Nat.le_of_ble_eq_true rfl) ?_
  intro p l e R0 s m args below meth c C
  show Jz G σ p l e R0 s m args below meth c 6 0 0 (Qi R.1 R.2) M0 0 0 0 [(0, .ref (G.2.2 + o0)), (1, .int (iv v1)), (2, .int (iv v2)), (3, .int (iv v3)), (4, .int (iv v4)), (5, .int (iv v5))] []
  unfold uX9_feed at h
  refine z_aload_n C dX9_feed_0 0 rfl ?_
  obtain ⟨on1, hon1, h⟩ := bnd h
  refine y_getR C dX9_feed_1 fX9_10 rfl hon1 ?_
  obtain ⟨x2, hx2, h⟩ := bnd h
  refine y_getI C dX9_feed_4 fX9_66 rfl hx2 (fun gx2 => ?_)
  refine z_bipush C dX9_feed_7 (by decide) ?_
  refine y_iadd C dX9_feed_9 ?_
  refine z_sipush C dX9_feed_10 (by decide) ?_
  refine z_icmp_le 18 C dX9_feed_13 (by decide) (w32_rng _) (by decide) (fun e3 => ?_) (fun e3 => ?_)
  ·
    have h := (if_pos e3).symm.trans h
    refine z_aload_n C dX9_feed_18 0 rfl ?_
    obtain ⟨on4, hon4, h⟩ := bnd h
    refine y_getR C dX9_feed_19 fX9_10 rfl hon4 ?_
    refine z_iload_n C dX9_feed_22 1 rfl ?_
    obtain ⟨k5, h⟩ := gK_inv h
    obtain ⟨M6, hM6, h⟩ := bnd h
    refine y_cVv (st := []) C dX9_feed_23 mX9_70 k5 (tX7_put hC on4 v1 gv1 hM6) rfl rfl (Nat.le_of_ble_eq_true rfl) (by decide) ?_
    refine z_aload_n C dX9_feed_26 0 rfl ?_
    obtain ⟨on7, hon7, h⟩ := bnd h
    refine y_getR C dX9_feed_27 fX9_10 rfl hon7 ?_
    refine z_iload_n C dX9_feed_30 2 rfl ?_
    obtain ⟨k8, h⟩ := gK_inv h
    obtain ⟨M9, hM9, h⟩ := bnd h
    refine y_cVv (st := []) C dX9_feed_31 mX9_70 k8 (tX7_put hC on7 v2 gv2 hM9) rfl rfl (Nat.le_of_ble_eq_true rfl) (by decide) ?_
    refine z_aload_n C dX9_feed_34 0 rfl ?_
    obtain ⟨on10, hon10, h⟩ := bnd h
    refine y_getR C dX9_feed_35 fX9_10 rfl hon10 ?_
    refine z_iload_n C dX9_feed_38 3 rfl ?_
    obtain ⟨k11, h⟩ := gK_inv h
    obtain ⟨M12, hM12, h⟩ := bnd h
    refine y_cVv (st := []) C dX9_feed_39 mX9_70 k11 (tX7_put hC on10 v3 gv3 hM12) rfl rfl (Nat.le_of_ble_eq_true rfl) (by decide) ?_
    refine z_aload_n C dX9_feed_42 0 rfl ?_
    obtain ⟨on13, hon13, h⟩ := bnd h
    refine y_getR C dX9_feed_43 fX9_10 rfl hon13 ?_
    refine z_iload C dX9_feed_46 4 rfl ?_
    obtain ⟨k14, h⟩ := gK_inv h
    obtain ⟨M15, hM15, h⟩ := bnd h
    refine y_cVv (st := []) C dX9_feed_48 mX9_70 k14 (tX7_put hC on13 v4 gv4 hM15) rfl rfl (Nat.le_of_ble_eq_true rfl) (by decide) ?_
    refine z_aload_n C dX9_feed_51 0 rfl ?_
    obtain ⟨on16, hon16, h⟩ := bnd h
    refine y_getR C dX9_feed_52 fX9_10 rfl hon16 ?_
    refine z_iload C dX9_feed_55 5 rfl ?_
    obtain ⟨k17, h⟩ := gK_inv h
    obtain ⟨M18, hM18, h⟩ := bnd h
    refine y_cVv (st := []) C dX9_feed_57 mX9_70 k17 (tX7_put hC on16 v5 gv5 hM18) rfl rfl (Nat.le_of_ble_eq_true rfl) (by decide) ?_
    refine z_aload_n C dX9_feed_60 0 rfl ?_
    obtain ⟨on19, hon19, h⟩ := bnd h
    refine y_getR C dX9_feed_61 fX9_10 rfl hon19 ?_
    obtain ⟨x20, hx20, h⟩ := bnd h
    refine y_getI C dX9_feed_64 fX9_66 rfl hx20 (fun gx20 => ?_)
    exact y_iretB C dX9_feed_67 h gx20
  ·
    have h := (if_neg e3).symm.trans h
    refine z_iconst C dX9_feed_16 ?_
    exact y_iretB C dX9_feed_17 h (by decide)

set_option maxHeartbeats 4000000 in
set_option maxRecDepth 100000 in
theorem tX9_tellsUnlikeCoins {G : Gx} {σ : State} (hC : Cy G σ) (o0 : Nat) (v1 : Int) {M0 : Mm} (gv1 : rg v1) {R : Int} (h : uX9_tellsUnlikeCoins o0 v1 M0 = some R) : Ct G σ (2) yX9_tellsUnlikeCoins cX9_tellsUnlikeCoins 6 (some .boolean) [.ref (G.2.2 + o0), .int (iv v1)] M0 0 0 (Qb R M0) := by
  refine Ct.of hC.1 (by decide +kernel) (Nat.le_of_ble_eq_true rfl) ?_
  intro p l e R0 s m args below meth c C
  show Jz G σ p l e R0 s m args below meth c 6 0 0 (Qb R M0) M0 0 0 0 [(0, .ref (G.2.2 + o0)), (1, .int (iv v1))] []
  have hb73 : uX9_tellsUnlikeCoins_b73 M0 = some R → Jz G σ p l e R0 s m args below meth c 6 0 0 (Qb R M0) M0 0 0 73 [] [] := by
    intro    h
    unfold uX9_tellsUnlikeCoins_b73 at h
    refine z_iconst C dX9_tellsUnlikeCoins_73 ?_
    exact y_zretP C dX9_tellsUnlikeCoins_74 h (by decide)
  have hb18 : ∀ (o0 : Nat) (v1 : Int) (v2 : Int) (v4 : Int), (rg v1) → (rl v2) → (rg v4) → uX9_tellsUnlikeCoins_b18 o0 v1 v2 v4 M0 = some R → Jz G σ p l e R0 s m args below meth c 6 0 0 (Qb R M0) M0 0 0 18 [(0, .ref (G.2.2 + o0)), (1, .int (iv v1)), (2, .long (jv v2)), (4, .int (iv v4))] [] := by
    intro o0 v1 v2 v4  gv1 gv2 gv4 h
    unfold uX9_tellsUnlikeCoins_b18 at h
    obtain ⟨b18, hb18_, hc18⟩ := bnd h
    have hL18 : ∀ (n : Nat) (v2 : Int) (v4 : Int), (rl v2) → (rg v4) → lp (uX9_tellsUnlikeCoins_f18 o0 v1 M0) n (v2, v4) = some b18 → Jz G σ p l e R0 s m args below meth c 6 0 0 (Qb R M0) M0 0 0 18 [(0, .ref (G.2.2 + o0)), (1, .int (iv v1)), (2, .long (jv v2)), (4, .int (iv v4))] [] := by
      intro n; induction n with
      | zero => intro v2 v4 gv2 gv4 hq; exact (lp_0 hq).elim
      | succ n18 ih18 =>
        intro v2 v4 gv2 gv4 hq
        obtain ⟨z18, h, hZ18⟩ := lp_s hq
        have h : uX9_tellsUnlikeCoins_s18 o0 v1 M0 v2 v4 = some z18 := h
        unfold uX9_tellsUnlikeCoins_s18 at h
        refine z_iload C dX9_tellsUnlikeCoins_18 3 rfl ?_
        refine z_iload_n C dX9_tellsUnlikeCoins_20 1 rfl ?_
        refine z_icmp_ge 73 C dX9_tellsUnlikeCoins_21 (by decide) gv4 gv1 (fun e1 => ?_) (fun e1 => ?_)
        ·
          have h := (if_pos e1).symm.trans h
          have h : uX9_tellsUnlikeCoins_b73 M0 = some R := lp_ex (K := (uX9_tellsUnlikeCoins_c18 o0 v1 M0)) h hZ18 hc18
          refine z_drop (lv' := []) [] rfl ?_
          exact hb73    h
        ·
          have h := (if_neg e1).symm.trans h
          refine z_aload_n C dX9_tellsUnlikeCoins_24 0 rfl ?_
          obtain ⟨on2, hon2, h⟩ := bnd h
          refine y_getR C dX9_tellsUnlikeCoins_25 fX9_10 rfl hon2 ?_
          refine z_iload C dX9_tellsUnlikeCoins_28 3 rfl ?_
          obtain ⟨k3, h⟩ := gK_inv h
          obtain ⟨r4, hr4, h⟩ := bnd h
          refine y_cVi (st := []) C dX9_tellsUnlikeCoins_30 mX9_237 k3 (tX7_at hC on2 v4 gv4 hr4) rfl rfl (Nat.le_of_ble_eq_true rfl) (by decide) (fun gr4 => ?_)
          refine z_istore (lv' := [(0, .ref (G.2.2 + o0)), (1, .int (iv v1)), (2, .long (jv v2)), (4, .int (iv v4)), (5, .int (iv r4))]) C dX9_tellsUnlikeCoins_33 (by decide) [1, 2, 3, 4, 0] rfl ?_
          refine z_aload_n C dX9_tellsUnlikeCoins_35 0 rfl ?_
          obtain ⟨on5, hon5, h⟩ := bnd h
          refine y_getR C dX9_tellsUnlikeCoins_36 fX9_33 rfl hon5 ?_
          refine z_iload C dX9_tellsUnlikeCoins_39 4 rfl ?_
          obtain ⟨k6, h⟩ := gK_inv h
          obtain ⟨r7, hr7, h⟩ := bnd h
          refine y_cVb (st := []) C dX9_tellsUnlikeCoins_41 mX9_183 k6 (tX8_isCoin hC on5 r4 gr4 hr7) rfl rfl (Nat.le_of_ble_eq_true rfl) (by decide) (fun br7 => ?_)
          refine z_if_eq 58 C dX9_tellsUnlikeCoins_44 (by decide) (rg01 br7) (fun e8 => ?_) (fun e8 => ?_)
          ·
            have h := (if_pos e8).symm.trans h
            refine z_iconst C dX9_tellsUnlikeCoins_58 ?_
            have h := lp_ret (K := (uX9_tellsUnlikeCoins_c18 o0 v1 M0)) h hZ18 hc18
            exact y_zretP C dX9_tellsUnlikeCoins_59 h (by decide)
          ·
            have h := (if_neg e8).symm.trans h
            refine z_lload_n C dX9_tellsUnlikeCoins_47 2 rfl ?_
            refine z_iload C dX9_tellsUnlikeCoins_48 4 rfl ?_
            refine z_lushr (ushr64 v2 r4) C dX9_tellsUnlikeCoins_50 (jv_self _).symm ?_
            refine z_lconst (v := 1) C dX9_tellsUnlikeCoins_51 (by decide) ?_
            refine z_land (and64 (ushr64 v2 r4) 1) C dX9_tellsUnlikeCoins_52 (jv_self _).symm ?_
            refine z_lconst (v := 0) C dX9_tellsUnlikeCoins_53 (by decide) ?_
            refine z_lcmp (cmpI (and64 (ushr64 v2 r4) 1) 0) C dX9_tellsUnlikeCoins_54 (lcmp_jv (and64_rng _ _) (by decide)) ?_
            refine z_if_eq_c 60 C dX9_tellsUnlikeCoins_55 (by decide) (fun e9 => ?_) (fun e9 => ?_)
            ·
              have h := (if_pos e9).symm.trans h
              refine z_lload_n C dX9_tellsUnlikeCoins_60 2 rfl ?_
              refine z_lconst (v := 1) C dX9_tellsUnlikeCoins_61 (by decide) ?_
              refine z_iload C dX9_tellsUnlikeCoins_62 4 rfl ?_
              refine z_lshl (shl64 1 r4) C dX9_tellsUnlikeCoins_64 (jv_self _).symm ?_
              refine z_lor (or64 v2 (shl64 1 r4)) C dX9_tellsUnlikeCoins_65 (jv_self _).symm ?_
              refine z_lstore_n (lv' := [(0, .ref (G.2.2 + o0)), (1, .int (iv v1)), (2, .long (jv (or64 v2 (shl64 1 r4)))), (4, .int (iv v4)), (5, .int (iv r4))]) C dX9_tellsUnlikeCoins_66 rfl (by decide) [1, 2, 0, 3, 4] rfl ?_
              refine y_iinc (lv' := [(0, .ref (G.2.2 + o0)), (1, .int (iv v1)), (2, .long (jv (or64 v2 (shl64 1 r4)))), (4, .int (iv (w32 (v4 + 1)))), (5, .int (iv r4))]) C dX9_tellsUnlikeCoins_67 3 rfl (by decide) [1, 2, 3, 0, 4] rfl ?_
              refine z_goto 18 C dX9_tellsUnlikeCoins_70 (by decide) ?_
              refine z_drop (lv' := [(0, .ref (G.2.2 + o0)), (1, .int (iv v1)), (2, .long (jv (or64 v2 (shl64 1 r4)))), (4, .int (iv (w32 (v4 + 1))))]) [0, 1, 2, 3] rfl ?_
              exact ih18 (or64 v2 (shl64 1 r4)) (w32 (v4 + 1)) (or64_rng _ _) (w32_rng _) (lp_back h hZ18)
            ·
              have h := (if_neg e9).symm.trans h
              refine z_iconst C dX9_tellsUnlikeCoins_58 ?_
              have h := lp_ret (K := (uX9_tellsUnlikeCoins_c18 o0 v1 M0)) h hZ18 hc18
              exact y_zretP C dX9_tellsUnlikeCoins_59 h (by decide)
    exact hL18 _ v2 v4 gv2 gv4 hb18_
  unfold uX9_tellsUnlikeCoins at h
  refine z_iload_n C dX9_tellsUnlikeCoins_0 1 rfl ?_
  refine z_iconst C dX9_tellsUnlikeCoins_1 ?_
  refine z_icmp_lt 11 C dX9_tellsUnlikeCoins_2 (by decide) gv1 (by decide) (fun e10 => ?_) (fun e10 => ?_)
  ·
    have h := (if_pos e10).symm.trans h
    refine z_iconst C dX9_tellsUnlikeCoins_11 ?_
    exact y_zretP C dX9_tellsUnlikeCoins_12 h (by decide)
  ·
    have h := (if_neg e10).symm.trans h
    refine z_iload_n C dX9_tellsUnlikeCoins_5 1 rfl ?_
    refine z_bipush C dX9_tellsUnlikeCoins_6 (by decide) ?_
    refine z_icmp_le 13 C dX9_tellsUnlikeCoins_8 (by decide) gv1 (by decide) (fun e11 => ?_) (fun e11 => ?_)
    ·
      have h := (if_pos e11).symm.trans h
      refine z_lconst (v := 0) C dX9_tellsUnlikeCoins_13 (by decide) ?_
      refine z_lstore_n (lv' := [(0, .ref (G.2.2 + o0)), (1, .int (iv v1)), (2, .long (jv 0))]) C dX9_tellsUnlikeCoins_14 rfl (by decide) [1, 2, 0] rfl ?_
      refine z_iconst C dX9_tellsUnlikeCoins_15 ?_
      refine z_istore (lv' := [(0, .ref (G.2.2 + o0)), (1, .int (iv v1)), (2, .long (jv 0)), (4, .int (iv 0))]) C dX9_tellsUnlikeCoins_16 (by decide) [1, 2, 3, 0] rfl ?_
      exact hb18 o0 v1 0 0  gv1 (by decide) (by decide) h
    ·
      have h := (if_neg e11).symm.trans h
      refine z_iconst C dX9_tellsUnlikeCoins_11 ?_
      exact y_zretP C dX9_tellsUnlikeCoins_12 h (by decide)

set_option maxHeartbeats 4000000 in
set_option maxRecDepth 100000 in
theorem tX9_silver {G : Gx} {σ : State} (hC : Cy G σ) (o0 : Nat) (v1 : Int) {M0 : Mm} (gv1 : rg v1) {R : Int} (h : uX9_silver o0 v1 M0 = some R) : Ct G σ (2) yX9_silver cX9_silver 3 (some .int) [.ref (G.2.2 + o0), .int (iv v1)] M0 0 0 (Qi R M0) := by
  refine Ct.of hC.1 (by decide +kernel) (Nat.le_of_ble_eq_true rfl) ?_
  intro p l e R0 s m args below meth c C
  show Jz G σ p l e R0 s m args below meth c 3 0 0 (Qi R M0) M0 0 0 0 [(0, .ref (G.2.2 + o0)), (1, .int (iv v1))] []
  unfold uX9_silver at h
  refine z_aload_n C dX9_silver_0 0 rfl ?_
  obtain ⟨on1, hon1, h⟩ := bnd h
  refine y_getR C dX9_silver_1 fX9_33 rfl hon1 ?_
  obtain ⟨on2, hon2, h⟩ := bnd h
  refine y_getR C dX9_silver_4 fX9_117 rfl hon2 ?_
  obtain ⟨k3, h⟩ := gK_inv h
  obtain ⟨r4, hr4, h⟩ := bnd h
  refine y_cVi (st := []) C dX9_silver_7 mX9_325 k3 (tX1_grainsOfAll hC on2  hr4) rfl rfl (Nat.le_of_ble_eq_true rfl) (by decide) (fun gr4 => ?_)
  refine z_istore_n (lv' := [(0, .ref (G.2.2 + o0)), (1, .int (iv v1)), (2, .int (iv r4))]) C dX9_silver_10 rfl (by decide) [1, 2, 0] rfl ?_
  refine z_iload_n C dX9_silver_11 1 rfl ?_
  by_cases e5 : v1 = 0
  ·
    have h := (if_pos e5).symm.trans h
    refine z_tableIn (off := 28) 40 C dX9_silver_12 gv1 (by omega) (by omega) (by rw [e5]; rfl) (by decide) ?_
    refine z_aload_n C dX9_silver_40 0 rfl ?_
    obtain ⟨on6, hon6, h⟩ := bnd h
    refine y_getR C dX9_silver_41 fX9_33 rfl hon6 ?_
    obtain ⟨on7, hon7, h⟩ := bnd h
    refine y_getR C dX9_silver_44 fX9_117 rfl hon7 ?_
    obtain ⟨x8, hx8, h⟩ := bnd h
    refine y_getI C dX9_silver_47 fX9_328 rfl hx8 (fun gx8 => ?_)
    exact y_iretP C dX9_silver_50 h gx8
  have h := (if_neg e5).symm.trans h
  by_cases e9 : v1 = 1
  ·
    have h := (if_pos e9).symm.trans h
    refine z_tableIn (off := 39) 51 C dX9_silver_12 gv1 (by omega) (by omega) (by rw [e9]; rfl) (by decide) ?_
    refine z_iload_n C dX9_silver_51 2 rfl ?_
    exact y_iretP C dX9_silver_52 h gr4
  have h := (if_neg e9).symm.trans h
  by_cases e10 : v1 = 2
  ·
    have h := (if_pos e10).symm.trans h
    refine z_tableIn (off := 41) 53 C dX9_silver_12 gv1 (by omega) (by omega) (by rw [e10]; rfl) (by decide) ?_
    refine z_aload_n C dX9_silver_53 0 rfl ?_
    obtain ⟨on11, hon11, h⟩ := bnd h
    refine y_getR C dX9_silver_54 fX9_33 rfl hon11 ?_
    obtain ⟨on12, hon12, h⟩ := bnd h
    refine y_getR C dX9_silver_57 fX9_117 rfl hon12 ?_
    obtain ⟨x13, hx13, h⟩ := bnd h
    refine y_getI C dX9_silver_60 fX9_328 rfl hx13 (fun gx13 => ?_)
    refine z_iload_n C dX9_silver_63 2 rfl ?_
    refine y_isub C dX9_silver_64 ?_
    exact y_iretP C dX9_silver_65 h (w32_rng _)
  have h := (if_neg e10).symm.trans h
  refine z_tableOut 66 C dX9_silver_12 gv1 (by omega) (by decide) ?_
  refine z_iconst C dX9_silver_66 ?_
  exact y_iretP C dX9_silver_67 h (by decide)

set_option maxHeartbeats 4000000 in
set_option maxRecDepth 100000 in
theorem tX10_feed {G : Gx} {σ : State} (hC : Cy G σ) (o0 : Nat) (v1 : Int) (v2 : Int) (v3 : Int) (v4 : Int) (v5 : Int) {M0 : Mm} (gv1 : rg v1) (gv2 : rg v2) (gv3 : rg v3) (gv4 : rg v4) (gv5 : rg v5) {R : Int × Mm} (h : uX10_feed o0 v1 v2 v3 v4 v5 M0 = some R) : Ct G σ (2) yX10_feed cX10_feed 6 (some .int) [.ref (G.2.2 + o0), .int (iv v1), .int (iv v2), .int (iv v3), .int (iv v4), .int (iv v5)] M0 0 0 (Qi R.1 R.2) := by
  refine Ct.of hC.1 (by decide +kernel) (Nat.le_of_ble_eq_true rfl) ?_
  intro p l e R0 s m args below meth c C
  show Jz G σ p l e R0 s m args below meth c 6 0 0 (Qi R.1 R.2) M0 0 0 0 [(0, .ref (G.2.2 + o0)), (1, .int (iv v1)), (2, .int (iv v2)), (3, .int (iv v3)), (4, .int (iv v4)), (5, .int (iv v5))] []
  unfold uX10_feed at h
  refine z_aload_n C dX10_feed_0 0 rfl ?_
  refine z_iconst C dX10_feed_1 ?_
  obtain ⟨M1, hM1, h⟩ := bnd h
  refine y_putI C dX10_feed_2 fX10_83 rfl rfl rfl rfl hM1 ?_
  refine z_aload_n C dX10_feed_5 0 rfl ?_
  obtain ⟨x2, hx2, h⟩ := bnd h
  refine y_getI C dX10_feed_6 fX10_86 rfl hx2 (fun gx2 => ?_)
  refine z_bipush C dX10_feed_9 (by decide) ?_
  refine y_iadd C dX10_feed_11 ?_
  refine z_sipush C dX10_feed_12 (by decide) ?_
  refine z_icmp_le 20 C dX10_feed_15 (by decide) (w32_rng _) (by decide) (fun e3 => ?_) (fun e3 => ?_)
  ·
    have h := (if_pos e3).symm.trans h
    refine z_aload_n C dX10_feed_20 0 rfl ?_
    refine z_iload_n C dX10_feed_21 1 rfl ?_
    obtain ⟨k4, h⟩ := gK_inv h
    obtain ⟨M5, hM5, h⟩ := bnd h
    refine y_cVv (st := []) C dX10_feed_22 mX10_89 k4 (tX10_come hC o0 v1 gv1 hM5) rfl rfl (Nat.le_of_ble_eq_true rfl) (by decide) ?_
    refine z_aload_n C dX10_feed_25 0 rfl ?_
    refine z_iload_n C dX10_feed_26 2 rfl ?_
    obtain ⟨k6, h⟩ := gK_inv h
    obtain ⟨M7, hM7, h⟩ := bnd h
    refine y_cVv (st := []) C dX10_feed_27 mX10_89 k6 (tX10_come hC o0 v2 gv2 hM7) rfl rfl (Nat.le_of_ble_eq_true rfl) (by decide) ?_
    refine z_aload_n C dX10_feed_30 0 rfl ?_
    refine z_iload_n C dX10_feed_31 3 rfl ?_
    obtain ⟨k8, h⟩ := gK_inv h
    obtain ⟨M9, hM9, h⟩ := bnd h
    refine y_cVv (st := []) C dX10_feed_32 mX10_89 k8 (tX10_come hC o0 v3 gv3 hM9) rfl rfl (Nat.le_of_ble_eq_true rfl) (by decide) ?_
    refine z_aload_n C dX10_feed_35 0 rfl ?_
    refine z_iload C dX10_feed_36 4 rfl ?_
    obtain ⟨k10, h⟩ := gK_inv h
    obtain ⟨M11, hM11, h⟩ := bnd h
    refine y_cVv (st := []) C dX10_feed_38 mX10_89 k10 (tX10_come hC o0 v4 gv4 hM11) rfl rfl (Nat.le_of_ble_eq_true rfl) (by decide) ?_
    refine z_aload_n C dX10_feed_41 0 rfl ?_
    refine z_iload C dX10_feed_42 5 rfl ?_
    obtain ⟨k12, h⟩ := gK_inv h
    obtain ⟨M13, hM13, h⟩ := bnd h
    refine y_cVv (st := []) C dX10_feed_44 mX10_89 k12 (tX10_come hC o0 v5 gv5 hM13) rfl rfl (Nat.le_of_ble_eq_true rfl) (by decide) ?_
    refine z_aload_n C dX10_feed_47 0 rfl ?_
    obtain ⟨x14, hx14, h⟩ := bnd h
    refine y_getI C dX10_feed_48 fX10_86 rfl hx14 (fun gx14 => ?_)
    exact y_iretB C dX10_feed_51 h gx14
  ·
    have h := (if_neg e3).symm.trans h
    refine z_iconst C dX10_feed_18 ?_
    exact y_iretB C dX10_feed_19 h (by decide)

set_option maxHeartbeats 4000000 in
set_option maxRecDepth 100000 in
theorem tX10_go {G : Gx} {σ : State} (hC : Cy G σ) (o0 : Nat) {M0 : Mm}  {R : Mm} (h : uX10_go o0 M0 = some R) : Ct G σ (2) yX10_go cX10_go 5 none [.ref (G.2.2 + o0)] M0 0 0 (Qv R) := by
  refine Ct.of hC.1 (by decide +kernel) (Nat.le_of_ble_eq_true rfl) ?_
  intro p l e R0 s m args below meth c C
  show Jz G σ p l e R0 s m args below meth c 5 0 0 (Qv R) M0 0 0 0 [(0, .ref (G.2.2 + o0))] []
  have hb390 : ∀ (os0 : Nat) (vs1 : Int) (M : Mm), (rg vs1) → uX10_go_b390 os0 vs1 M = some R → Jz G σ p l e R0 s m args below meth c 5 0 0 (Qv R) M 0 0 390 [] [.int (iv vs1), .ref (G.2.2 + os0)] := by
    intro os0 vs1 M gvs1 h
    unfold uX10_go_b390 at h
    obtain ⟨M1, hM1, h⟩ := bnd h
    refine y_putI C dX10_go_390 fX10_105 rfl rfl rfl rfl hM1 ?_
    exact y_retV C dX10_go_393 h
  have hb377 : ∀ (os0 : Nat) (M : Mm), uX10_go_b377 os0 M = some R → Jz G σ p l e R0 s m args below meth c 5 0 0 (Qv R) M 0 0 377 [] [.ref (G.2.2 + os0)] := by
    intro os0 M  h
    unfold uX10_go_b377 at h
    refine z_iconst C dX10_go_377 ?_
    refine z_goto 390 C dX10_go_378 (by decide) ?_
    exact hb390 os0 1 M (by decide) h
  have hb374 : ∀ (v2 : Int) (os0 : Nat) (vs1 : Int) (vs2 : Int) (M : Mm), (v2 = 0 ∨ v2 = 1) → (rg vs1) → (rg vs2) → uX10_go_b374 v2 os0 vs1 vs2 M = some R → Jz G σ p l e R0 s m args below meth c 5 0 0 (Qv R) M 0 0 374 [(2, .int (iv v2))] [.int (iv vs2), .int (iv vs1), .ref (G.2.2 + os0)] := by
    intro v2 os0 vs1 vs2 M bv2 gvs1 gvs2 h
    unfold uX10_go_b374 at h
    refine z_icmp_le 381 C dX10_go_374 (by decide) gvs1 gvs2 (fun e2 => ?_) (fun e2 => ?_)
    ·
      have h := (if_pos e2).symm.trans h
      refine z_iload_n C dX10_go_381 0 rfl ?_
      refine z_if_eq 389 C dX10_go_382 (by decide) (rg01 bv2) (fun e3 => ?_) (fun e3 => ?_)
      ·
        have h := (if_pos e3).symm.trans h
        refine z_iconst C dX10_go_389 ?_
        refine z_drop (lv' := []) [] rfl ?_
        exact hb390 os0 3 M (by decide) h
      ·
        have h := (if_neg e3).symm.trans h
        refine z_iconst C dX10_go_385 ?_
        refine z_goto 390 C dX10_go_386 (by decide) ?_
        refine z_drop (lv' := []) [] rfl ?_
        exact hb390 os0 2 M (by decide) h
    ·
      have h := (if_neg e2).symm.trans h
      refine z_drop (lv' := []) [] rfl ?_
      exact hb377 os0 M  h
  have hb350 : ∀ (o0 : Nat) (v2 : Int) (v3 : Int) (M : Mm), (v2 = 0 ∨ v2 = 1) → (v3 = 0 ∨ v3 = 1) → uX10_go_b350 o0 v2 v3 M = some R → Jz G σ p l e R0 s m args below meth c 5 0 0 (Qv R) M 0 0 350 [(0, .ref (G.2.2 + o0)), (2, .int (iv v2)), (3, .int (iv v3))] [] := by
    intro o0 v2 v3 M bv2 bv3 h
    unfold uX10_go_b350 at h
    refine z_aload_n C dX10_go_350 0 rfl ?_
    refine z_iload_n C dX10_go_351 2 rfl ?_
    refine z_if_eq 377 C dX10_go_352 (by decide) (rg01 bv3) (fun e4 => ?_) (fun e4 => ?_)
    ·
      have h := (if_pos e4).symm.trans h
      refine z_drop (lv' := []) [] rfl ?_
      exact hb377 o0 M  h
    ·
      have h := (if_neg e4).symm.trans h
      refine z_aload_n C dX10_go_355 0 rfl ?_
      obtain ⟨x5, hx5, h⟩ := bnd h
      refine y_getI C dX10_go_356 fX10_96 rfl hx5 (fun gx5 => ?_)
      refine z_aload_n C dX10_go_359 0 rfl ?_
      obtain ⟨x6, hx6, h⟩ := bnd h
      refine y_getI C dX10_go_360 fX10_99 rfl hx6 (fun gx6 => ?_)
      refine y_isub C dX10_go_363 ?_
      refine z_iload_n C dX10_go_364 1 rfl ?_
      refine z_if_eq 373 C dX10_go_365 (by decide) (rg01 bv2) (fun e7 => ?_) (fun e7 => ?_)
      ·
        have h := (if_pos e7).symm.trans h
        refine z_iconst C dX10_go_373 ?_
        refine z_drop (lv' := [(2, .int (iv v2))]) [1] rfl ?_
        exact hb374 v2 o0 (w32 (x5 - x6)) 4 M bv2 (w32_rng _) (by decide) h
      ·
        have h := (if_neg e7).symm.trans h
        refine z_bipush C dX10_go_368 (by decide) ?_
        refine z_goto 374 C dX10_go_370 (by decide) ?_
        refine z_drop (lv' := [(2, .int (iv v2))]) [1] rfl ?_
        exact hb374 v2 o0 (w32 (x5 - x6)) 6 M bv2 (w32_rng _) (by decide) h
  have hb215 : ∀ (o0 : Nat) (v2 : Int) (v3 : Int) (M : Mm), (v2 = 0 ∨ v2 = 1) → (v3 = 0 ∨ v3 = 1) → uX10_go_b215 o0 v2 v3 M = some R → Jz G σ p l e R0 s m args below meth c 5 0 0 (Qv R) M 0 0 215 [(0, .ref (G.2.2 + o0)), (2, .int (iv v2)), (3, .int (iv v3))] [] := by
    intro o0 v2 v3 M bv2 bv3 h
    unfold uX10_go_b215 at h
    obtain ⟨b215, hb215_, hc215⟩ := bnd h
    have hL215 : ∀ (n : Nat) (v3 : Int) (M : Mm), (v3 = 0 ∨ v3 = 1) → lp (uX10_go_f215 o0 v2) n (v3, M) = some b215 → Jz G σ p l e R0 s m args below meth c 5 0 0 (Qv R) M 0 0 215 [(0, .ref (G.2.2 + o0)), (2, .int (iv v2)), (3, .int (iv v3))] [] := by
      intro n; induction n with
      | zero => intro v3 M bv3 hq; exact (lp_0 hq).elim
      | succ n215 ih215 =>
        intro v3 M bv3 hq
        obtain ⟨z215, h, hZ215⟩ := lp_s hq
        have h : uX10_go_s215 o0 v2 v3 M = some z215 := h
        have hb337 : ∀ (v3 : Int) (M : Mm), (v3 = 0 ∨ v3 = 1) → ∀ z215, uX10_go_b337 o0 v2 v3 M = some z215 → lpc (uX10_go_f215 o0 v2) n215 z215 b215 → Jz G σ p l e R0 s m args below meth c 5 0 0 (Qv R) M 0 0 337 [(0, .ref (G.2.2 + o0)), (2, .int (iv v2)), (3, .int (iv v3))] [] := by
          intro v3 M bv3 z215 h hZ215
          unfold uX10_go_b337 at h
          refine z_aload_n C dX10_go_337 0 rfl ?_
          refine z_dup C dX10_go_338 rfl ?_
          obtain ⟨x8, hx8, h⟩ := bnd h
          refine y_getI C dX10_go_339 fX10_96 rfl hx8 (fun gx8 => ?_)
          refine z_iconst C dX10_go_342 ?_
          refine y_iadd C dX10_go_343 ?_
          obtain ⟨M9, hM9, h⟩ := bnd h
          refine y_putI C dX10_go_344 fX10_96 rfl rfl rfl rfl hM9 ?_
          refine z_goto 215 C dX10_go_347 (by decide) ?_
          exact ih215 v3 M9 bv3 (lp_back h hZ215)
        have hb307 : ∀ (v3 : Int) (v4 : Int) (M : Mm), (v3 = 0 ∨ v3 = 1) → (rg v4) → ∀ z215, uX10_go_b307 o0 v2 v3 v4 M = some z215 → lpc (uX10_go_f215 o0 v2) n215 z215 b215 → Jz G σ p l e R0 s m args below meth c 5 0 0 (Qv R) M 0 0 307 [(0, .ref (G.2.2 + o0)), (2, .int (iv v2)), (3, .int (iv v3)), (4, .int (iv v4))] [] := by
          intro v3 v4 M bv3 gv4 z215 h hZ215
          unfold uX10_go_b307 at h
          refine z_aload_n C dX10_go_307 0 rfl ?_
          obtain ⟨x10, hx10, h⟩ := bnd h
          refine y_getI C dX10_go_308 fX10_96 rfl hx10 (fun gx10 => ?_)
          refine z_aload_n C dX10_go_311 0 rfl ?_
          obtain ⟨x11, hx11, h⟩ := bnd h
          refine y_getI C dX10_go_312 fX10_99 rfl hx11 (fun gx11 => ?_)
          refine y_isub C dX10_go_315 ?_
          refine z_iconst C dX10_go_316 ?_
          refine z_icmp_ge 337 C dX10_go_317 (by decide) (w32_rng _) (by decide) (fun e12 => ?_) (fun e12 => ?_)
          ·
            have h := (if_pos e12).symm.trans h
            refine z_drop (lv' := [(0, .ref (G.2.2 + o0)), (2, .int (iv v2)), (3, .int (iv v3))]) [0, 1, 2] rfl ?_
            exact hb337 v3 M bv3 _ h hZ215
          ·
            have h := (if_neg e12).symm.trans h
            refine z_aload_n C dX10_go_320 0 rfl ?_
            refine z_bipush C dX10_go_321 (by decide) ?_
            refine z_aload_n C dX10_go_323 0 rfl ?_
            obtain ⟨x13, hx13, h⟩ := bnd h
            refine y_getI C dX10_go_324 fX10_122 rfl hx13 (fun gx13 => ?_)
            refine y_imul C dX10_go_327 ?_
            refine z_iload C dX10_go_328 3 rfl ?_
            refine y_iadd C dX10_go_330 ?_
            refine z_bipush C dX10_go_331 (by decide) ?_
            refine y_isub C dX10_go_333 ?_
            obtain ⟨M14, hM14, h⟩ := bnd h
            refine y_putI C dX10_go_334 fX10_122 rfl rfl rfl rfl hM14 ?_
            refine z_drop (lv' := [(0, .ref (G.2.2 + o0)), (2, .int (iv v2)), (3, .int (iv v3))]) [0, 1, 2] rfl ?_
            exact hb337 v3 M14 bv3 _ h hZ215
        have hb272 : ∀ (v4 : Int) (vs0 : Int) (M : Mm), (rg v4) → (vs0 = 0 ∨ vs0 = 1) → ∀ z215, uX10_go_b272 o0 v2 v4 vs0 M = some z215 → lpc (uX10_go_f215 o0 v2) n215 z215 b215 → Jz G σ p l e R0 s m args below meth c 5 0 0 (Qv R) M 0 0 272 [(0, .ref (G.2.2 + o0)), (2, .int (iv v2)), (4, .int (iv v4))] [.int (iv vs0)] := by
          intro v4 vs0 M gv4 bvs0 z215 h hZ215
          unfold uX10_go_b272 at h
          refine z_istore_n (lv' := [(0, .ref (G.2.2 + o0)), (2, .int (iv v2)), (3, .int (iv vs0)), (4, .int (iv v4))]) C dX10_go_272 rfl (by decide) [1, 2, 0, 3] rfl ?_
          refine z_aload_n C dX10_go_273 0 rfl ?_
          obtain ⟨x15, hx15, h⟩ := bnd h
          refine y_getI C dX10_go_274 fX10_96 rfl hx15 (fun gx15 => ?_)
          refine z_aload_n C dX10_go_277 0 rfl ?_
          obtain ⟨x16, hx16, h⟩ := bnd h
          refine y_getI C dX10_go_278 fX10_99 rfl hx16 (fun gx16 => ?_)
          refine y_isub C dX10_go_281 ?_
          refine z_bipush C dX10_go_282 (by decide) ?_
          refine z_icmp_ge 307 C dX10_go_284 (by decide) (w32_rng _) (by decide) (fun e17 => ?_) (fun e17 => ?_)
          ·
            have h := (if_pos e17).symm.trans h
            exact hb307 vs0 v4 M bvs0 gv4 _ h hZ215
          ·
            have h := (if_neg e17).symm.trans h
            refine z_aload_n C dX10_go_287 0 rfl ?_
            refine z_ldc2 C dX10_go_288 kX10_129 ?_
            refine z_aload_n C dX10_go_291 0 rfl ?_
            obtain ⟨x18, hx18, h⟩ := bnd h
            refine y_getJ C dX10_go_292 fX10_118 rfl hx18 (fun gx18 => ?_)
            refine y_lmul C dX10_go_295 ?_
            refine z_iload C dX10_go_296 3 rfl ?_
            refine z_i2l (v4) C dX10_go_298 (i2l_iv gv4) ?_
            refine y_ladd C dX10_go_299 ?_
            refine z_ldc2 C dX10_go_300 kX10_131 ?_
            refine y_lsub C dX10_go_303 ?_
            obtain ⟨M19, hM19, h⟩ := bnd h
            refine y_putJ C dX10_go_304 fX10_118 rfl rfl rfl rfl hM19 ?_
            exact hb307 vs0 v4 M19 bvs0 gv4 _ h hZ215
        have hb271 : ∀ (v4 : Int) (M : Mm), (rg v4) → ∀ z215, uX10_go_b271 o0 v2 v4 M = some z215 → lpc (uX10_go_f215 o0 v2) n215 z215 b215 → Jz G σ p l e R0 s m args below meth c 5 0 0 (Qv R) M 0 0 271 [(0, .ref (G.2.2 + o0)), (2, .int (iv v2)), (4, .int (iv v4))] [] := by
          intro v4 M gv4 z215 h hZ215
          unfold uX10_go_b271 at h
          refine z_iconst C dX10_go_271 ?_
          exact hb272 v4 0 M gv4 (by decide) _ h hZ215
        have hb243 : ∀ (v3 : Int) (M : Mm), (v3 = 0 ∨ v3 = 1) → ∀ z215, uX10_go_b243 o0 v2 v3 M = some z215 → lpc (uX10_go_f215 o0 v2) n215 z215 b215 → Jz G σ p l e R0 s m args below meth c 5 0 0 (Qv R) M 0 0 243 [(0, .ref (G.2.2 + o0)), (2, .int (iv v2)), (3, .int (iv v3))] [] := by
          intro v3 M bv3 z215 h hZ215
          unfold uX10_go_b243 at h
          refine z_aload_n C dX10_go_243 0 rfl ?_
          obtain ⟨on20, hon20, h⟩ := bnd h
          refine y_getR C dX10_go_244 fX10_7 rfl hon20 ?_
          refine z_aload_n C dX10_go_247 0 rfl ?_
          obtain ⟨x21, hx21, h⟩ := bnd h
          refine y_getI C dX10_go_248 fX10_96 rfl hx21 (fun gx21 => ?_)
          obtain ⟨x22, hx22, h⟩ := bnd h
          refine y_iald C dX10_go_251 hx22 (fun gx22 => ?_)
          refine z_istore (lv' := [(0, .ref (G.2.2 + o0)), (2, .int (iv v2)), (3, .int (iv v3)), (4, .int (iv x22))]) C dX10_go_252 (by decide) [1, 2, 3, 0] rfl ?_
          refine z_iload_n C dX10_go_254 2 rfl ?_
          refine z_if_eq 271 C dX10_go_255 (by decide) (rg01 bv3) (fun e23 => ?_) (fun e23 => ?_)
          ·
            have h := (if_pos e23).symm.trans h
            refine z_drop (lv' := [(0, .ref (G.2.2 + o0)), (2, .int (iv v2)), (4, .int (iv x22))]) [0, 1, 3] rfl ?_
            exact hb271 x22 M gx22 _ h hZ215
          ·
            have h := (if_neg e23).symm.trans h
            refine z_iload C dX10_go_258 3 rfl ?_
            obtain ⟨r24, hr24, h⟩ := bnd h
            refine y_cSb (st := []) C dX10_go_260 mX10_108 (tX10_isLetter hC x22 gx22 hr24) rfl rfl (Nat.le_of_ble_eq_true rfl) (by decide) (fun br24 => ?_)
            refine z_iload_n C dX10_go_263 1 rfl ?_
            refine z_icmp_ne 271 C dX10_go_264 (by decide) (rg01 br24) (rg01 bv2) (fun e25 => ?_) (fun e25 => ?_)
            ·
              have h := (if_neg e25).symm.trans h
              refine z_drop (lv' := [(0, .ref (G.2.2 + o0)), (2, .int (iv v2)), (4, .int (iv x22))]) [0, 1, 3] rfl ?_
              exact hb271 x22 M gx22 _ h hZ215
            ·
              have h := (if_pos e25).symm.trans h
              refine z_iconst C dX10_go_267 ?_
              refine z_goto 272 C dX10_go_268 (by decide) ?_
              refine z_drop (lv' := [(0, .ref (G.2.2 + o0)), (2, .int (iv v2)), (4, .int (iv x22))]) [0, 1, 3] rfl ?_
              exact hb272 x22 1 M gx22 (by decide) _ h hZ215
        unfold uX10_go_s215 at h
        refine z_aload_n C dX10_go_215 0 rfl ?_
        refine z_aload_n C dX10_go_216 0 rfl ?_
        obtain ⟨x26, hx26, h⟩ := bnd h
        refine y_getI C dX10_go_217 fX10_96 rfl hx26 (fun gx26 => ?_)
        obtain ⟨k27, h⟩ := gK_inv h
        obtain ⟨r28, hr28, h⟩ := bnd h
        refine y_cVi (st := []) C dX10_go_220 mX10_125 k27 (tX10_byteAt hC o0 x26 gx26 hr28) rfl rfl (Nat.le_of_ble_eq_true rfl) (by decide) (fun gr28 => ?_)
        obtain ⟨r29, hr29, h⟩ := bnd h
        refine y_cSb (st := []) C dX10_go_223 mX10_108 (tX10_isLetter hC r28 gr28 hr29) rfl rfl (Nat.le_of_ble_eq_true rfl) (by decide) (fun br29 => ?_)
        refine z_if_ne 243 C dX10_go_226 (by decide) (rg01 br29) (fun e30 => ?_) (fun e30 => ?_)
        ·
          have h := (if_neg e30).symm.trans h
          exact hb243 v3 M bv3 _ h hZ215
        ·
          have h := (if_pos e30).symm.trans h
          refine z_aload_n C dX10_go_229 0 rfl ?_
          refine z_aload_n C dX10_go_230 0 rfl ?_
          obtain ⟨x31, hx31, h⟩ := bnd h
          refine y_getI C dX10_go_231 fX10_96 rfl hx31 (fun gx31 => ?_)
          obtain ⟨k32, h⟩ := gK_inv h
          obtain ⟨r33, hr33, h⟩ := bnd h
          refine y_cVi (st := []) C dX10_go_234 mX10_125 k32 (tX10_byteAt hC o0 x31 gx31 hr33) rfl rfl (Nat.le_of_ble_eq_true rfl) (by decide) (fun gr33 => ?_)
          obtain ⟨r34, hr34, h⟩ := bnd h
          refine y_cSb (st := []) C dX10_go_237 mX10_112 (tX10_isDigit hC r33 gr33 hr34) rfl rfl (Nat.le_of_ble_eq_true rfl) (by decide) (fun br34 => ?_)
          refine z_if_eq 350 C dX10_go_240 (by decide) (rg01 br34) (fun e35 => ?_) (fun e35 => ?_)
          ·
            have h := (if_pos e35).symm.trans h
            have h : uX10_go_b350 o0 v2 v3 M = some R := lp_ex (K := (uX10_go_c215 o0 v2)) h hZ215 hc215
            exact hb350 o0 v2 v3 M bv2 bv3 h
          ·
            have h := (if_neg e35).symm.trans h
            exact hb243 v3 M bv3 _ h hZ215
    exact hL215 _ v3 M bv3 hb215_
  have hb198 : ∀ (o0 : Nat) (v1 : Int) (M : Mm), (rg v1) → uX10_go_b198 o0 v1 M = some R → Jz G σ p l e R0 s m args below meth c 5 0 0 (Qv R) M 0 0 198 [(0, .ref (G.2.2 + o0)), (1, .int (iv v1))] [] := by
    intro o0 v1 M gv1 h
    unfold uX10_go_b198 at h
    refine z_iload_n C dX10_go_198 1 rfl ?_
    obtain ⟨r36, hr36, h⟩ := bnd h
    refine y_cSb (st := []) C dX10_go_199 mX10_108 (tX10_isLetter hC v1 gv1 hr36) rfl rfl (Nat.le_of_ble_eq_true rfl) (by decide) (fun br36 => ?_)
    refine z_istore_n (lv' := [(0, .ref (G.2.2 + o0)), (1, .int (iv v1)), (2, .int (iv r36))]) C dX10_go_202 rfl (by decide) [1, 2, 0] rfl ?_
    refine z_iconst C dX10_go_203 ?_
    refine z_istore_n (lv' := [(0, .ref (G.2.2 + o0)), (1, .int (iv v1)), (2, .int (iv r36)), (3, .int (iv 1))]) C dX10_go_204 rfl (by decide) [1, 2, 3, 0] rfl ?_
    refine z_aload_n C dX10_go_205 0 rfl ?_
    refine z_lconst (v := 0) C dX10_go_206 (by decide) ?_
    obtain ⟨M37, hM37, h⟩ := bnd h
    refine y_putJ C dX10_go_207 fX10_118 rfl rfl rfl rfl hM37 ?_
    refine z_aload_n C dX10_go_210 0 rfl ?_
    refine z_iconst C dX10_go_211 ?_
    obtain ⟨M38, hM38, h⟩ := bnd h
    refine y_putI C dX10_go_212 fX10_122 rfl rfl rfl rfl hM38 ?_
    refine z_drop (lv' := [(0, .ref (G.2.2 + o0)), (2, .int (iv r36)), (3, .int (iv 1))]) [0, 2, 3] rfl ?_
    exact hb215 o0 r36 1 M38 br36 (by decide) h
  have hb179 : ∀ (o0 : Nat) (v1 : Int) (os0 : Nat) (vs1 : Int) (M : Mm), (rg v1) → (rg vs1) → uX10_go_b179 o0 v1 os0 vs1 M = some R → Jz G σ p l e R0 s m args below meth c 5 0 0 (Qv R) M 0 0 179 [(0, .ref (G.2.2 + o0)), (1, .int (iv v1))] [.int (iv vs1), .ref (G.2.2 + os0)] := by
    intro o0 v1 os0 vs1 M gv1 gvs1 h
    unfold uX10_go_b179 at h
    obtain ⟨M39, hM39, h⟩ := bnd h
    refine y_putI C dX10_go_179 fX10_105 rfl rfl rfl rfl hM39 ?_
    refine z_aload_n C dX10_go_182 0 rfl ?_
    refine z_iload_n C dX10_go_183 1 rfl ?_
    obtain ⟨M40, hM40, h⟩ := bnd h
    refine y_putI C dX10_go_184 fX10_115 rfl rfl rfl rfl hM40 ?_
    refine z_aload_n C dX10_go_187 0 rfl ?_
    refine z_dup C dX10_go_188 rfl ?_
    obtain ⟨x41, hx41, h⟩ := bnd h
    refine y_getI C dX10_go_189 fX10_96 rfl hx41 (fun gx41 => ?_)
    refine z_iconst C dX10_go_192 ?_
    refine y_iadd C dX10_go_193 ?_
    obtain ⟨M42, hM42, h⟩ := bnd h
    refine y_putI C dX10_go_194 fX10_96 rfl rfl rfl rfl hM42 ?_
    exact y_retV C dX10_go_197 h
  have hb174 : ∀ (o0 : Nat) (v1 : Int) (os0 : Nat) (M : Mm), (rg v1) → uX10_go_b174 o0 v1 os0 M = some R → Jz G σ p l e R0 s m args below meth c 5 0 0 (Qv R) M 0 0 174 [(0, .ref (G.2.2 + o0)), (1, .int (iv v1))] [.ref (G.2.2 + os0)] := by
    intro o0 v1 os0 M gv1 h
    unfold uX10_go_b174 at h
    refine z_iconst C dX10_go_174 ?_
    refine z_goto 179 C dX10_go_175 (by decide) ?_
    exact hb179 o0 v1 os0 4 M gv1 (by decide) h
  have hb96 : ∀ (o0 : Nat) (M : Mm), uX10_go_b96 o0 M = some R → Jz G σ p l e R0 s m args below meth c 5 0 0 (Qv R) M 0 0 96 [(0, .ref (G.2.2 + o0))] [] := by
    intro o0 M  h
    unfold uX10_go_b96 at h
    refine z_aload_n C dX10_go_96 0 rfl ?_
    obtain ⟨x43, hx43, h⟩ := bnd h
    refine y_getI C dX10_go_97 fX10_96 rfl hx43 (fun gx43 => ?_)
    refine z_aload_n C dX10_go_100 0 rfl ?_
    obtain ⟨x44, hx44, h⟩ := bnd h
    refine y_getI C dX10_go_101 fX10_93 rfl hx44 (fun gx44 => ?_)
    refine z_icmp_lt 113 C dX10_go_104 (by decide) gx43 gx44 (fun e45 => ?_) (fun e45 => ?_)
    ·
      have h := (if_pos e45).symm.trans h
      refine z_aload_n C dX10_go_113 0 rfl ?_
      obtain ⟨on46, hon46, h⟩ := bnd h
      refine y_getR C dX10_go_114 fX10_7 rfl hon46 ?_
      refine z_aload_n C dX10_go_117 0 rfl ?_
      obtain ⟨x47, hx47, h⟩ := bnd h
      refine y_getI C dX10_go_118 fX10_96 rfl hx47 (fun gx47 => ?_)
      obtain ⟨x48, hx48, h⟩ := bnd h
      refine y_iald C dX10_go_121 hx48 (fun gx48 => ?_)
      refine z_istore_n (lv' := [(0, .ref (G.2.2 + o0)), (1, .int (iv x48))]) C dX10_go_122 rfl (by decide) [1, 0] rfl ?_
      refine z_iload_n C dX10_go_123 1 rfl ?_
      obtain ⟨r49, hr49, h⟩ := bnd h
      refine y_cSb (st := []) C dX10_go_124 mX10_108 (tX10_isLetter hC x48 gx48 hr49) rfl rfl (Nat.le_of_ble_eq_true rfl) (by decide) (fun br49 => ?_)
      refine z_if_ne 198 C dX10_go_127 (by decide) (rg01 br49) (fun e50 => ?_) (fun e50 => ?_)
      ·
        have h := (if_neg e50).symm.trans h
        exact hb198 o0 x48 M gx48 h
      ·
        have h := (if_pos e50).symm.trans h
        refine z_iload_n C dX10_go_130 1 rfl ?_
        obtain ⟨r51, hr51, h⟩ := bnd h
        refine y_cSb (st := []) C dX10_go_131 mX10_112 (tX10_isDigit hC x48 gx48 hr51) rfl rfl (Nat.le_of_ble_eq_true rfl) (by decide) (fun br51 => ?_)
        refine z_if_ne 198 C dX10_go_134 (by decide) (rg01 br51) (fun e52 => ?_) (fun e52 => ?_)
        ·
          have h := (if_neg e52).symm.trans h
          exact hb198 o0 x48 M gx48 h
        ·
          have h := (if_pos e52).symm.trans h
          refine z_aload_n C dX10_go_137 0 rfl ?_
          refine z_iload_n C dX10_go_138 1 rfl ?_
          refine z_bipush C dX10_go_139 (by decide) ?_
          refine z_icmp_eq 174 C dX10_go_141 (by decide) gx48 (by decide) (fun e53 => ?_) (fun e53 => ?_)
          ·
            have h := (if_pos e53).symm.trans h
            exact hb174 o0 x48 o0 M gx48 h
          ·
            have h := (if_neg e53).symm.trans h
            refine z_iload_n C dX10_go_144 1 rfl ?_
            refine z_bipush C dX10_go_145 (by decide) ?_
            refine z_icmp_eq 174 C dX10_go_147 (by decide) gx48 (by decide) (fun e54 => ?_) (fun e54 => ?_)
            ·
              have h := (if_pos e54).symm.trans h
              exact hb174 o0 x48 o0 M gx48 h
            ·
              have h := (if_neg e54).symm.trans h
              refine z_iload_n C dX10_go_150 1 rfl ?_
              refine z_bipush C dX10_go_151 (by decide) ?_
              refine z_icmp_eq 174 C dX10_go_153 (by decide) gx48 (by decide) (fun e55 => ?_) (fun e55 => ?_)
              ·
                have h := (if_pos e55).symm.trans h
                exact hb174 o0 x48 o0 M gx48 h
              ·
                have h := (if_neg e55).symm.trans h
                refine z_iload_n C dX10_go_156 1 rfl ?_
                refine z_bipush C dX10_go_157 (by decide) ?_
                refine z_icmp_eq 174 C dX10_go_159 (by decide) gx48 (by decide) (fun e56 => ?_) (fun e56 => ?_)
                ·
                  have h := (if_pos e56).symm.trans h
                  exact hb174 o0 x48 o0 M gx48 h
                ·
                  have h := (if_neg e56).symm.trans h
                  refine z_iload_n C dX10_go_162 1 rfl ?_
                  refine z_bipush C dX10_go_163 (by decide) ?_
                  refine z_icmp_eq 174 C dX10_go_165 (by decide) gx48 (by decide) (fun e57 => ?_) (fun e57 => ?_)
                  ·
                    have h := (if_pos e57).symm.trans h
                    exact hb174 o0 x48 o0 M gx48 h
                  ·
                    have h := (if_neg e57).symm.trans h
                    refine z_iload_n C dX10_go_168 1 rfl ?_
                    refine z_bipush C dX10_go_169 (by decide) ?_
                    refine z_icmp_ne 178 C dX10_go_171 (by decide) gx48 (by decide) (fun e58 => ?_) (fun e58 => ?_)
                    ·
                      have h := (if_neg e58).symm.trans h
                      refine z_iconst C dX10_go_178 ?_
                      exact hb179 o0 x48 o0 1 M gx48 (by decide) h
                    ·
                      have h := (if_pos e58).symm.trans h
                      exact hb174 o0 x48 o0 M gx48 h
    ·
      have h := (if_neg e45).symm.trans h
      refine z_aload_n C dX10_go_107 0 rfl ?_
      refine z_iconst C dX10_go_108 ?_
      obtain ⟨M59, hM59, h⟩ := bnd h
      refine y_putI C dX10_go_109 fX10_105 rfl rfl rfl rfl hM59 ?_
      exact y_retV C dX10_go_112 h
  have hb52 : ∀ (o0 : Nat) (M : Mm), uX10_go_b52 o0 M = some R → Jz G σ p l e R0 s m args below meth c 5 0 0 (Qv R) M 0 0 52 [(0, .ref (G.2.2 + o0))] [] := by
    intro o0 M  h
    unfold uX10_go_b52 at h
    refine z_aload_n C dX10_go_52 0 rfl ?_
    refine z_aload_n C dX10_go_53 0 rfl ?_
    obtain ⟨x60, hx60, h⟩ := bnd h
    refine y_getI C dX10_go_54 fX10_96 rfl hx60 (fun gx60 => ?_)
    obtain ⟨M61, hM61, h⟩ := bnd h
    refine y_putI C dX10_go_57 fX10_99 rfl rfl rfl rfl hM61 ?_
    refine z_aload_n C dX10_go_60 0 rfl ?_
    obtain ⟨x62, hx62, h⟩ := bnd h
    refine y_getI C dX10_go_61 fX10_93 rfl hx62 (fun gx62 => ?_)
    refine z_aload_n C dX10_go_64 0 rfl ?_
    obtain ⟨x63, hx63, h⟩ := bnd h
    refine y_getI C dX10_go_65 fX10_102 rfl hx63 (fun gx63 => ?_)
    refine z_icmp_le 96 C dX10_go_68 (by decide) gx62 gx63 (fun e64 => ?_) (fun e64 => ?_)
    ·
      have h := (if_pos e64).symm.trans h
      exact hb96 o0 M61  h
    ·
      have h := (if_neg e64).symm.trans h
      refine z_aload_n C dX10_go_71 0 rfl ?_
      obtain ⟨x65, hx65, h⟩ := bnd h
      refine y_getI C dX10_go_72 fX10_99 rfl hx65 (fun gx65 => ?_)
      refine z_aload_n C dX10_go_75 0 rfl ?_
      obtain ⟨x66, hx66, h⟩ := bnd h
      refine y_getI C dX10_go_76 fX10_102 rfl hx66 (fun gx66 => ?_)
      refine z_icmp_lt 96 C dX10_go_79 (by decide) gx65 gx66 (fun e67 => ?_) (fun e67 => ?_)
      ·
        have h := (if_pos e67).symm.trans h
        exact hb96 o0 M61  h
      ·
        have h := (if_neg e67).symm.trans h
        refine z_aload_n C dX10_go_82 0 rfl ?_
        refine z_aload_n C dX10_go_83 0 rfl ?_
        obtain ⟨x68, hx68, h⟩ := bnd h
        refine y_getI C dX10_go_84 fX10_102 rfl hx68 (fun gx68 => ?_)
        obtain ⟨M69, hM69, h⟩ := bnd h
        refine y_putI C dX10_go_87 fX10_99 rfl rfl rfl rfl hM69 ?_
        refine z_aload_n C dX10_go_90 0 rfl ?_
        refine z_iconst C dX10_go_91 ?_
        obtain ⟨M70, hM70, h⟩ := bnd h
        refine y_putI C dX10_go_92 fX10_105 rfl rfl rfl rfl hM70 ?_
        exact y_retV C dX10_go_95 h
  have hb0 : ∀ (o0 : Nat) (M : Mm), uX10_go_b0 o0 M = some R → Jz G σ p l e R0 s m args below meth c 5 0 0 (Qv R) M 0 0 0 [(0, .ref (G.2.2 + o0))] [] := by
    intro o0 M  h
    unfold uX10_go_b0 at h
    obtain ⟨b0, hb0_, hc0⟩ := bnd h
    have hL0 : ∀ (n : Nat)  (M : Mm), lp (uX10_go_f0 o0) n M = some b0 → Jz G σ p l e R0 s m args below meth c 5 0 0 (Qv R) M 0 0 0 [(0, .ref (G.2.2 + o0))] [] := by
      intro n; induction n with
      | zero => intro M  hq; exact (lp_0 hq).elim
      | succ n0 ih0 =>
        intro M  hq
        obtain ⟨z0, h, hZ0⟩ := lp_s hq
        have h : uX10_go_s0 o0 M = some z0 := h
        have hb39 : ∀  (M : Mm), ∀ z0, uX10_go_b39 o0 M = some z0 → lpc (uX10_go_f0 o0) n0 z0 b0 → Jz G σ p l e R0 s m args below meth c 5 0 0 (Qv R) M 0 0 39 [(0, .ref (G.2.2 + o0))] [] := by
          intro  M  z0 h hZ0
          unfold uX10_go_b39 at h
          refine z_aload_n C dX10_go_39 0 rfl ?_
          refine z_dup C dX10_go_40 rfl ?_
          obtain ⟨x71, hx71, h⟩ := bnd h
          refine y_getI C dX10_go_41 fX10_96 rfl hx71 (fun gx71 => ?_)
          refine z_iconst C dX10_go_44 ?_
          refine y_iadd C dX10_go_45 ?_
          obtain ⟨M72, hM72, h⟩ := bnd h
          refine y_putI C dX10_go_46 fX10_96 rfl rfl rfl rfl hM72 ?_
          refine z_goto 0 C dX10_go_49 (by decide) ?_
          exact ih0 M72  (lp_back h hZ0)
        unfold uX10_go_s0 at h
        refine z_aload_n C dX10_go_0 0 rfl ?_
        obtain ⟨x73, hx73, h⟩ := bnd h
        refine y_getI C dX10_go_1 fX10_96 rfl hx73 (fun gx73 => ?_)
        refine z_aload_n C dX10_go_4 0 rfl ?_
        obtain ⟨x74, hx74, h⟩ := bnd h
        refine y_getI C dX10_go_5 fX10_93 rfl hx74 (fun gx74 => ?_)
        refine z_icmp_ge 52 C dX10_go_8 (by decide) gx73 gx74 (fun e75 => ?_) (fun e75 => ?_)
        ·
          have h := (if_pos e75).symm.trans h
          have h : uX10_go_b52 o0 M = some R := lp_ex (K := (uX10_go_c0 o0)) h hZ0 hc0
          exact hb52 o0 M  h
        ·
          have h := (if_neg e75).symm.trans h
          refine z_aload_n C dX10_go_11 0 rfl ?_
          obtain ⟨on76, hon76, h⟩ := bnd h
          refine y_getR C dX10_go_12 fX10_7 rfl hon76 ?_
          refine z_aload_n C dX10_go_15 0 rfl ?_
          obtain ⟨x77, hx77, h⟩ := bnd h
          refine y_getI C dX10_go_16 fX10_96 rfl hx77 (fun gx77 => ?_)
          obtain ⟨x78, hx78, h⟩ := bnd h
          refine y_iald C dX10_go_19 hx78 (fun gx78 => ?_)
          refine z_bipush C dX10_go_20 (by decide) ?_
          refine z_icmp_eq 39 C dX10_go_22 (by decide) gx78 (by decide) (fun e79 => ?_) (fun e79 => ?_)
          ·
            have h := (if_pos e79).symm.trans h
            exact hb39  M  _ h hZ0
          ·
            have h := (if_neg e79).symm.trans h
            refine z_aload_n C dX10_go_25 0 rfl ?_
            obtain ⟨on80, hon80, h⟩ := bnd h
            refine y_getR C dX10_go_26 fX10_7 rfl hon80 ?_
            refine z_aload_n C dX10_go_29 0 rfl ?_
            obtain ⟨x81, hx81, h⟩ := bnd h
            refine y_getI C dX10_go_30 fX10_96 rfl hx81 (fun gx81 => ?_)
            obtain ⟨x82, hx82, h⟩ := bnd h
            refine y_iald C dX10_go_33 hx82 (fun gx82 => ?_)
            refine z_bipush C dX10_go_34 (by decide) ?_
            refine z_icmp_ne 52 C dX10_go_36 (by decide) gx82 (by decide) (fun e83 => ?_) (fun e83 => ?_)
            ·
              have h := (if_neg e83).symm.trans h
              have h : uX10_go_b52 o0 M = some R := lp_ex (K := (uX10_go_c0 o0)) h hZ0 hc0
              exact hb52 o0 M  h
            ·
              have h := (if_pos e83).symm.trans h
              exact hb39  M  _ h hZ0
    exact hL0 _ M  hb0_
  unfold uX10_go at h
  exact hb0 o0 M0  h

set_option maxHeartbeats 4000000 in
set_option maxRecDepth 100000 in
theorem tX10_wordOf {G : Gx} {σ : State} (hC : Cy G σ) (v0 : Int) {M0 : Mm} (gv0 : rg v0) {R : Int} (h : uX10_wordOf v0 M0 = some R) : Ct G σ (2) yX10_wordOf cX10_wordOf 1 (some .long) [.int (iv v0)] M0 0 0 (Ql R M0) := by
  refine Ct.of hC.1 (by decide +kernel) (Nat.le_of_ble_eq_true rfl) ?_
  intro p l e R0 s m args below meth c C
  show Jz G σ p l e R0 s m args below meth c 1 0 0 (Ql R M0) M0 0 0 0 [(0, .int (iv v0))] []
  unfold uX10_wordOf at h
  refine z_iload_n C dX10_wordOf_0 0 rfl ?_
  by_cases e1 : v0 = 0
  ·
    have h := (if_pos e1).symm.trans h
    refine z_tableIn (off := 87) 88 C dX10_wordOf_1 gv0 (by omega) (by omega) (by rw [e1]; rfl) (by decide) ?_
    refine z_bipush C dX10_wordOf_88 (by decide) ?_
    refine z_bipush C dX10_wordOf_90 (by decide) ?_
    refine z_bipush C dX10_wordOf_92 (by decide) ?_
    refine z_iconst C dX10_wordOf_94 ?_
    obtain ⟨r2, hr2, h⟩ := bnd h
    refine y_cSl (st := []) C dX10_wordOf_95 mX10_133 (tX10_spelt hC 119 104 111 0 (by decide) (by decide) (by decide) (by decide) hr2) rfl rfl (Nat.le_of_ble_eq_true rfl) (by decide) (fun gr2 => ?_)
    exact y_lretP C dX10_wordOf_98 h gr2
  have h := (if_neg e1).symm.trans h
  by_cases e3 : v0 = 1
  ·
    have h := (if_pos e3).symm.trans h
    refine z_tableIn (off := 98) 99 C dX10_wordOf_1 gv0 (by omega) (by omega) (by rw [e3]; rfl) (by decide) ?_
    refine z_bipush C dX10_wordOf_99 (by decide) ?_
    refine z_bipush C dX10_wordOf_101 (by decide) ?_
    refine z_bipush C dX10_wordOf_103 (by decide) ?_
    refine z_bipush C dX10_wordOf_105 (by decide) ?_
    obtain ⟨r4, hr4, h⟩ := bnd h
    refine y_cSl (st := []) C dX10_wordOf_107 mX10_133 (tX10_spelt hC 98 101 103 115 (by decide) (by decide) (by decide) (by decide) hr4) rfl rfl (Nat.le_of_ble_eq_true rfl) (by decide) (fun gr4 => ?_)
    exact y_lretP C dX10_wordOf_110 h gr4
  have h := (if_neg e3).symm.trans h
  by_cases e5 : v0 = 2
  ·
    have h := (if_pos e5).symm.trans h
    refine z_tableIn (off := 110) 111 C dX10_wordOf_1 gv0 (by omega) (by omega) (by rw [e5]; rfl) (by decide) ?_
    refine z_bipush C dX10_wordOf_111 (by decide) ?_
    refine z_bipush C dX10_wordOf_113 (by decide) ?_
    refine z_bipush C dX10_wordOf_115 (by decide) ?_
    refine z_bipush C dX10_wordOf_117 (by decide) ?_
    obtain ⟨r6, hr6, h⟩ := bnd h
    refine y_cSl (st := []) C dX10_wordOf_119 mX10_133 (tX10_spelt hC 111 119 101 115 (by decide) (by decide) (by decide) (by decide) hr6) rfl rfl (Nat.le_of_ble_eq_true rfl) (by decide) (fun gr6 => ?_)
    exact y_lretP C dX10_wordOf_122 h gr6
  have h := (if_neg e5).symm.trans h
  by_cases e7 : v0 = 3
  ·
    have h := (if_pos e7).symm.trans h
    refine z_tableIn (off := 122) 123 C dX10_wordOf_1 gv0 (by omega) (by omega) (by rw [e7]; rfl) (by decide) ?_
    refine z_bipush C dX10_wordOf_123 (by decide) ?_
    refine z_bipush C dX10_wordOf_125 (by decide) ?_
    refine z_bipush C dX10_wordOf_127 (by decide) ?_
    refine z_bipush C dX10_wordOf_129 (by decide) ?_
    obtain ⟨r8, hr8, h⟩ := bnd h
    refine y_cSl (st := []) C dX10_wordOf_131 mX10_133 (tX10_spelt hC 109 105 110 116 (by decide) (by decide) (by decide) (by decide) hr8) rfl rfl (Nat.le_of_ble_eq_true rfl) (by decide) (fun gr8 => ?_)
    exact y_lretP C dX10_wordOf_134 h gr8
  have h := (if_neg e7).symm.trans h
  by_cases e9 : v0 = 4
  ·
    have h := (if_pos e9).symm.trans h
    refine z_tableIn (off := 134) 135 C dX10_wordOf_1 gv0 (by omega) (by omega) (by rw [e9]; rfl) (by decide) ?_
    refine z_bipush C dX10_wordOf_135 (by decide) ?_
    refine z_bipush C dX10_wordOf_137 (by decide) ?_
    refine z_bipush C dX10_wordOf_139 (by decide) ?_
    refine z_bipush C dX10_wordOf_141 (by decide) ?_
    obtain ⟨r10, hr10, h⟩ := bnd h
    refine y_cSl (st := []) C dX10_wordOf_143 mX10_133 (tX10_spelt hC 116 97 107 101 (by decide) (by decide) (by decide) (by decide) hr10) rfl rfl (Nat.le_of_ble_eq_true rfl) (by decide) (fun gr10 => ?_)
    refine z_bipush C dX10_wordOf_146 (by decide) ?_
    refine z_iconst C dX10_wordOf_148 ?_
    obtain ⟨r11, hr11, h⟩ := bnd h
    refine y_cSl (st := []) C dX10_wordOf_149 mX10_137 (tX10_on hC r10 115 0 gr10 (by decide) (by decide) hr11) rfl rfl (Nat.le_of_ble_eq_true rfl) (by decide) (fun gr11 => ?_)
    exact y_lretP C dX10_wordOf_152 h gr11
  have h := (if_neg e9).symm.trans h
  by_cases e12 : v0 = 5
  ·
    have h := (if_pos e12).symm.trans h
    refine z_tableIn (off := 152) 153 C dX10_wordOf_1 gv0 (by omega) (by omega) (by rw [e12]; rfl) (by decide) ?_
    refine z_bipush C dX10_wordOf_153 (by decide) ?_
    refine z_bipush C dX10_wordOf_155 (by decide) ?_
    refine z_bipush C dX10_wordOf_157 (by decide) ?_
    refine z_bipush C dX10_wordOf_159 (by decide) ?_
    obtain ⟨r13, hr13, h⟩ := bnd h
    refine y_cSl (st := []) C dX10_wordOf_161 mX10_133 (tX10_spelt hC 108 117 99 107 (by decide) (by decide) (by decide) (by decide) hr13) rfl rfl (Nat.le_of_ble_eq_true rfl) (by decide) (fun gr13 => ?_)
    refine z_bipush C dX10_wordOf_164 (by decide) ?_
    refine z_iconst C dX10_wordOf_166 ?_
    obtain ⟨r14, hr14, h⟩ := bnd h
    refine y_cSl (st := []) C dX10_wordOf_167 mX10_137 (tX10_on hC r13 121 0 gr13 (by decide) (by decide) hr14) rfl rfl (Nat.le_of_ble_eq_true rfl) (by decide) (fun gr14 => ?_)
    exact y_lretP C dX10_wordOf_170 h gr14
  have h := (if_neg e12).symm.trans h
  by_cases e15 : v0 = 6
  ·
    have h := (if_pos e15).symm.trans h
    refine z_tableIn (off := 170) 171 C dX10_wordOf_1 gv0 (by omega) (by omega) (by rw [e15]; rfl) (by decide) ?_
    refine z_bipush C dX10_wordOf_171 (by decide) ?_
    refine z_bipush C dX10_wordOf_173 (by decide) ?_
    refine z_bipush C dX10_wordOf_175 (by decide) ?_
    refine z_bipush C dX10_wordOf_177 (by decide) ?_
    obtain ⟨r16, hr16, h⟩ := bnd h
    refine y_cSl (st := []) C dX10_wordOf_179 mX10_133 (tX10_spelt hC 100 101 97 100 (by decide) (by decide) (by decide) (by decide) hr16) rfl rfl (Nat.le_of_ble_eq_true rfl) (by decide) (fun gr16 => ?_)
    exact y_lretP C dX10_wordOf_182 h gr16
  have h := (if_neg e15).symm.trans h
  by_cases e17 : v0 = 7
  ·
    have h := (if_pos e17).symm.trans h
    refine z_tableIn (off := 182) 183 C dX10_wordOf_1 gv0 (by omega) (by omega) (by rw [e17]; rfl) (by decide) ?_
    refine z_bipush C dX10_wordOf_183 (by decide) ?_
    refine z_bipush C dX10_wordOf_185 (by decide) ?_
    refine z_bipush C dX10_wordOf_187 (by decide) ?_
    refine z_bipush C dX10_wordOf_189 (by decide) ?_
    obtain ⟨r18, hr18, h⟩ := bnd h
    refine y_cSl (st := []) C dX10_wordOf_191 mX10_133 (tX10_spelt hC 116 104 105 110 (by decide) (by decide) (by decide) (by decide) hr18) rfl rfl (Nat.le_of_ble_eq_true rfl) (by decide) (fun gr18 => ?_)
    exact y_lretP C dX10_wordOf_194 h gr18
  have h := (if_neg e17).symm.trans h
  by_cases e19 : v0 = 8
  ·
    have h := (if_pos e19).symm.trans h
    refine z_tableIn (off := 194) 195 C dX10_wordOf_1 gv0 (by omega) (by omega) (by rw [e19]; rfl) (by decide) ?_
    refine z_bipush C dX10_wordOf_195 (by decide) ?_
    refine z_bipush C dX10_wordOf_197 (by decide) ?_
    refine z_bipush C dX10_wordOf_199 (by decide) ?_
    refine z_bipush C dX10_wordOf_201 (by decide) ?_
    obtain ⟨r20, hr20, h⟩ := bnd h
    refine y_cSl (st := []) C dX10_wordOf_203 mX10_133 (tX10_spelt hC 102 97 99 101 (by decide) (by decide) (by decide) (by decide) hr20) rfl rfl (Nat.le_of_ble_eq_true rfl) (by decide) (fun gr20 => ?_)
    refine z_bipush C dX10_wordOf_206 (by decide) ?_
    refine z_iconst C dX10_wordOf_208 ?_
    obtain ⟨r21, hr21, h⟩ := bnd h
    refine y_cSl (st := []) C dX10_wordOf_209 mX10_137 (tX10_on hC r20 115 0 gr20 (by decide) (by decide) hr21) rfl rfl (Nat.le_of_ble_eq_true rfl) (by decide) (fun gr21 => ?_)
    exact y_lretP C dX10_wordOf_212 h gr21
  have h := (if_neg e19).symm.trans h
  by_cases e22 : v0 = 9
  ·
    have h := (if_pos e22).symm.trans h
    refine z_tableIn (off := 212) 213 C dX10_wordOf_1 gv0 (by omega) (by omega) (by rw [e22]; rfl) (by decide) ?_
    refine z_bipush C dX10_wordOf_213 (by decide) ?_
    refine z_bipush C dX10_wordOf_215 (by decide) ?_
    refine z_iconst C dX10_wordOf_217 ?_
    refine z_iconst C dX10_wordOf_218 ?_
    obtain ⟨r23, hr23, h⟩ := bnd h
    refine y_cSl (st := []) C dX10_wordOf_219 mX10_133 (tX10_spelt hC 111 114 0 0 (by decide) (by decide) (by decide) (by decide) hr23) rfl rfl (Nat.le_of_ble_eq_true rfl) (by decide) (fun gr23 => ?_)
    exact y_lretP C dX10_wordOf_222 h gr23
  have h := (if_neg e22).symm.trans h
  by_cases e24 : v0 = 10
  ·
    have h := (if_pos e24).symm.trans h
    refine z_tableIn (off := 222) 223 C dX10_wordOf_1 gv0 (by omega) (by omega) (by rw [e24]; rfl) (by decide) ?_
    refine z_bipush C dX10_wordOf_223 (by decide) ?_
    refine z_bipush C dX10_wordOf_225 (by decide) ?_
    refine z_bipush C dX10_wordOf_227 (by decide) ?_
    refine z_iconst C dX10_wordOf_229 ?_
    obtain ⟨r25, hr25, h⟩ := bnd h
    refine y_cSl (st := []) C dX10_wordOf_230 mX10_133 (tX10_spelt hC 97 110 100 0 (by decide) (by decide) (by decide) (by decide) hr25) rfl rfl (Nat.le_of_ble_eq_true rfl) (by decide) (fun gr25 => ?_)
    exact y_lretP C dX10_wordOf_233 h gr25
  have h := (if_neg e24).symm.trans h
  by_cases e26 : v0 = 11
  ·
    have h := (if_pos e26).symm.trans h
    refine z_tableIn (off := 233) 234 C dX10_wordOf_1 gv0 (by omega) (by omega) (by rw [e26]; rfl) (by decide) ?_
    refine z_bipush C dX10_wordOf_234 (by decide) ?_
    refine z_bipush C dX10_wordOf_236 (by decide) ?_
    refine z_bipush C dX10_wordOf_238 (by decide) ?_
    refine z_iconst C dX10_wordOf_240 ?_
    obtain ⟨r27, hr27, h⟩ := bnd h
    refine y_cSl (st := []) C dX10_wordOf_241 mX10_133 (tX10_spelt hC 110 111 116 0 (by decide) (by decide) (by decide) (by decide) hr27) rfl rfl (Nat.le_of_ble_eq_true rfl) (by decide) (fun gr27 => ?_)
    exact y_lretP C dX10_wordOf_244 h gr27
  have h := (if_neg e26).symm.trans h
  by_cases e28 : v0 = 12
  ·
    have h := (if_pos e28).symm.trans h
    refine z_tableIn (off := 244) 245 C dX10_wordOf_1 gv0 (by omega) (by omega) (by rw [e28]; rfl) (by decide) ?_
    refine z_bipush C dX10_wordOf_245 (by decide) ?_
    refine z_bipush C dX10_wordOf_247 (by decide) ?_
    refine z_bipush C dX10_wordOf_249 (by decide) ?_
    refine z_bipush C dX10_wordOf_251 (by decide) ?_
    obtain ⟨r29, hr29, h⟩ := bnd h
    refine y_cSl (st := []) C dX10_wordOf_253 mX10_133 (tX10_spelt hC 98 101 97 114 (by decide) (by decide) (by decide) (by decide) hr29) rfl rfl (Nat.le_of_ble_eq_true rfl) (by decide) (fun gr29 => ?_)
    refine z_bipush C dX10_wordOf_256 (by decide) ?_
    refine z_iconst C dX10_wordOf_258 ?_
    obtain ⟨r30, hr30, h⟩ := bnd h
    refine y_cSl (st := []) C dX10_wordOf_259 mX10_137 (tX10_on hC r29 115 0 gr29 (by decide) (by decide) hr30) rfl rfl (Nat.le_of_ble_eq_true rfl) (by decide) (fun gr30 => ?_)
    exact y_lretP C dX10_wordOf_262 h gr30
  have h := (if_neg e28).symm.trans h
  by_cases e31 : v0 = 13
  ·
    have h := (if_pos e31).symm.trans h
    refine z_tableIn (off := 262) 263 C dX10_wordOf_1 gv0 (by omega) (by omega) (by rw [e31]; rfl) (by decide) ?_
    refine z_bipush C dX10_wordOf_263 (by decide) ?_
    refine z_bipush C dX10_wordOf_265 (by decide) ?_
    refine z_bipush C dX10_wordOf_267 (by decide) ?_
    refine z_bipush C dX10_wordOf_269 (by decide) ?_
    obtain ⟨r32, hr32, h⟩ := bnd h
    refine y_cSl (st := []) C dX10_wordOf_271 mX10_133 (tX10_spelt hC 115 104 111 119 (by decide) (by decide) (by decide) (by decide) hr32) rfl rfl (Nat.le_of_ble_eq_true rfl) (by decide) (fun gr32 => ?_)
    refine z_bipush C dX10_wordOf_274 (by decide) ?_
    refine z_iconst C dX10_wordOf_276 ?_
    obtain ⟨r33, hr33, h⟩ := bnd h
    refine y_cSl (st := []) C dX10_wordOf_277 mX10_137 (tX10_on hC r32 115 0 gr32 (by decide) (by decide) hr33) rfl rfl (Nat.le_of_ble_eq_true rfl) (by decide) (fun gr33 => ?_)
    exact y_lretP C dX10_wordOf_280 h gr33
  have h := (if_neg e31).symm.trans h
  by_cases e34 : v0 = 14
  ·
    have h := (if_pos e34).symm.trans h
    refine z_tableIn (off := 280) 281 C dX10_wordOf_1 gv0 (by omega) (by omega) (by rw [e34]; rfl) (by decide) ?_
    refine z_bipush C dX10_wordOf_281 (by decide) ?_
    refine z_bipush C dX10_wordOf_283 (by decide) ?_
    refine z_bipush C dX10_wordOf_285 (by decide) ?_
    refine z_bipush C dX10_wordOf_287 (by decide) ?_
    obtain ⟨r35, hr35, h⟩ := bnd h
    refine y_cSl (st := []) C dX10_wordOf_289 mX10_133 (tX10_spelt hC 104 101 108 100 (by decide) (by decide) (by decide) (by decide) hr35) rfl rfl (Nat.le_of_ble_eq_true rfl) (by decide) (fun gr35 => ?_)
    exact y_lretP C dX10_wordOf_292 h gr35
  have h := (if_neg e34).symm.trans h
  by_cases e36 : v0 = 15
  ·
    have h := (if_pos e36).symm.trans h
    refine z_tableIn (off := 292) 293 C dX10_wordOf_1 gv0 (by omega) (by omega) (by rw [e36]; rfl) (by decide) ?_
    refine z_bipush C dX10_wordOf_293 (by decide) ?_
    refine z_bipush C dX10_wordOf_295 (by decide) ?_
    refine z_bipush C dX10_wordOf_297 (by decide) ?_
    refine z_bipush C dX10_wordOf_299 (by decide) ?_
    obtain ⟨r37, hr37, h⟩ := bnd h
    refine y_cSl (st := []) C dX10_wordOf_301 mX10_133 (tX10_spelt hC 102 97 108 115 (by decide) (by decide) (by decide) (by decide) hr37) rfl rfl (Nat.le_of_ble_eq_true rfl) (by decide) (fun gr37 => ?_)
    refine z_bipush C dX10_wordOf_304 (by decide) ?_
    refine z_iconst C dX10_wordOf_306 ?_
    obtain ⟨r38, hr38, h⟩ := bnd h
    refine y_cSl (st := []) C dX10_wordOf_307 mX10_137 (tX10_on hC r37 101 0 gr37 (by decide) (by decide) hr38) rfl rfl (Nat.le_of_ble_eq_true rfl) (by decide) (fun gr38 => ?_)
    exact y_lretP C dX10_wordOf_310 h gr38
  have h := (if_neg e36).symm.trans h
  by_cases e39 : v0 = 16
  ·
    have h := (if_pos e39).symm.trans h
    refine z_tableIn (off := 310) 311 C dX10_wordOf_1 gv0 (by omega) (by omega) (by rw [e39]; rfl) (by decide) ?_
    refine z_bipush C dX10_wordOf_311 (by decide) ?_
    refine z_bipush C dX10_wordOf_313 (by decide) ?_
    refine z_bipush C dX10_wordOf_315 (by decide) ?_
    refine z_bipush C dX10_wordOf_317 (by decide) ?_
    obtain ⟨r40, hr40, h⟩ := bnd h
    refine y_cSl (st := []) C dX10_wordOf_319 mX10_133 (tX10_spelt hC 103 114 97 105 (by decide) (by decide) (by decide) (by decide) hr40) rfl rfl (Nat.le_of_ble_eq_true rfl) (by decide) (fun gr40 => ?_)
    refine z_bipush C dX10_wordOf_322 (by decide) ?_
    refine z_bipush C dX10_wordOf_324 (by decide) ?_
    obtain ⟨r41, hr41, h⟩ := bnd h
    refine y_cSl (st := []) C dX10_wordOf_326 mX10_137 (tX10_on hC r40 110 115 gr40 (by decide) (by decide) hr41) rfl rfl (Nat.le_of_ble_eq_true rfl) (by decide) (fun gr41 => ?_)
    exact y_lretP C dX10_wordOf_329 h gr41
  have h := (if_neg e39).symm.trans h
  by_cases e42 : v0 = 17
  ·
    have h := (if_pos e42).symm.trans h
    refine z_tableIn (off := 329) 330 C dX10_wordOf_1 gv0 (by omega) (by omega) (by rw [e42]; rfl) (by decide) ?_
    refine z_bipush C dX10_wordOf_330 (by decide) ?_
    refine z_bipush C dX10_wordOf_332 (by decide) ?_
    refine z_bipush C dX10_wordOf_334 (by decide) ?_
    refine z_bipush C dX10_wordOf_336 (by decide) ?_
    obtain ⟨r43, hr43, h⟩ := bnd h
    refine y_cSl (st := []) C dX10_wordOf_338 mX10_133 (tX10_spelt hC 108 97 121 101 (by decide) (by decide) (by decide) (by decide) hr43) rfl rfl (Nat.le_of_ble_eq_true rfl) (by decide) (fun gr43 => ?_)
    refine z_bipush C dX10_wordOf_341 (by decide) ?_
    refine z_bipush C dX10_wordOf_343 (by decide) ?_
    obtain ⟨r44, hr44, h⟩ := bnd h
    refine y_cSl (st := []) C dX10_wordOf_345 mX10_137 (tX10_on hC r43 114 115 gr43 (by decide) (by decide) hr44) rfl rfl (Nat.le_of_ble_eq_true rfl) (by decide) (fun gr44 => ?_)
    exact y_lretP C dX10_wordOf_348 h gr44
  have h := (if_neg e42).symm.trans h
  refine z_tableOut 349 C dX10_wordOf_1 gv0 (by omega) (by decide) ?_
  refine z_bipush C dX10_wordOf_349 (by decide) ?_
  refine z_bipush C dX10_wordOf_351 (by decide) ?_
  refine z_bipush C dX10_wordOf_353 (by decide) ?_
  refine z_bipush C dX10_wordOf_355 (by decide) ?_
  obtain ⟨r45, hr45, h⟩ := bnd h
  refine y_cSl (st := []) C dX10_wordOf_357 mX10_133 (tX10_spelt hC 115 116 114 117 (by decide) (by decide) (by decide) (by decide) hr45) rfl rfl (Nat.le_of_ble_eq_true rfl) (by decide) (fun gr45 => ?_)
  refine z_bipush C dX10_wordOf_360 (by decide) ?_
  refine z_bipush C dX10_wordOf_362 (by decide) ?_
  obtain ⟨r46, hr46, h⟩ := bnd h
  refine y_cSl (st := []) C dX10_wordOf_364 mX10_137 (tX10_on hC r45 99 107 gr45 (by decide) (by decide) hr46) rfl rfl (Nat.le_of_ble_eq_true rfl) (by decide) (fun gr46 => ?_)
  exact y_lretP C dX10_wordOf_367 h gr46

set_option maxHeartbeats 4000000 in
set_option maxRecDepth 100000 in
theorem tX10_lay {G : Gx} {σ : State} (hC : Cy G σ) (o0 : Nat) {M0 : Mm}  {R : Mm} (h : uX10_lay o0 M0 = some R) : Ct G σ (2) yX10_lay cX10_lay 1 none [.ref (G.2.2 + o0)] M0 0 0 (Qv R) := by
  refine Ct.of hC.1 (by decide +kernel) (Nat.le_of_ble_eq_true rfl) ?_
  intro p l e R0 s m args below meth c C
  show Jz G σ p l e R0 s m args below meth c 1 0 0 (Qv R) M0 0 0 0 [(0, .ref (G.2.2 + o0))] []
  unfold uX10_lay at h
  refine z_aload_n C dX10_lay_0 0 rfl ?_
  obtain ⟨x1, hx1, h⟩ := bnd h
  refine y_getI C dX10_lay_1 fX10_174 rfl hx1 (fun gx1 => ?_)
  refine z_if_eq 8 C dX10_lay_4 (by decide) gx1 (fun e2 => ?_) (fun e2 => ?_)
  ·
    have h := (if_pos e2).symm.trans h
    refine z_aload_n C dX10_lay_8 0 rfl ?_
    refine z_iconst C dX10_lay_9 ?_
    obtain ⟨M3, hM3, h⟩ := bnd h
    refine y_putI C dX10_lay_10 fX10_174 rfl rfl (nar01 (by decide)) rfl hM3 ?_
    refine z_aload_n C dX10_lay_13 0 rfl ?_
    refine z_aload_n C dX10_lay_14 0 rfl ?_
    obtain ⟨on4, hon4, h⟩ := bnd h
    refine y_getR C dX10_lay_15 fX10_13 rfl hon4 ?_
    obtain ⟨k5, h⟩ := gK_inv h
    obtain ⟨M6, hM6, h⟩ := bnd h
    refine y_cVv (st := []) C dX10_lay_18 mX10_178 k5 (tX10_plain hC o0 on4  hM6) rfl rfl (Nat.le_of_ble_eq_true rfl) (by decide) ?_
    refine z_aload_n C dX10_lay_21 0 rfl ?_
    obtain ⟨on7, hon7, h⟩ := bnd h
    refine y_getR C dX10_lay_22 fX10_13 rfl hon7 ?_
    refine z_bipush C dX10_lay_25 (by decide) ?_
    refine z_iconst C dX10_lay_27 ?_
    obtain ⟨M8, hM8, h⟩ := bnd h
    refine y_iast C dX10_lay_28 hM8 ?_
    refine z_aload_n C dX10_lay_29 0 rfl ?_
    obtain ⟨on9, hon9, h⟩ := bnd h
    refine y_getR C dX10_lay_30 fX10_13 rfl hon9 ?_
    refine z_bipush C dX10_lay_33 (by decide) ?_
    refine z_iconst C dX10_lay_35 ?_
    obtain ⟨M10, hM10, h⟩ := bnd h
    refine y_iast C dX10_lay_36 hM10 ?_
    exact y_retV C dX10_lay_37 h
  ·
    have h := (if_neg e2).symm.trans h
    exact y_retV C dX10_lay_7 h

set_option maxHeartbeats 4000000 in
set_option maxRecDepth 100000 in
theorem tX10_isWho {G : Gx} {σ : State} (hC : Cy G σ) (o0 : Nat) (v1 : Int) {M0 : Mm} (gv1 : rg v1) {R : Int} (h : uX10_isWho o0 v1 M0 = some R) : Ct G σ (2) yX10_isWho cX10_isWho 2 (some .boolean) [.ref (G.2.2 + o0), .int (iv v1)] M0 0 0 (Qb R M0) := by
  refine Ct.of hC.1 (by decide +kernel) (Nat.le_of_ble_eq_true rfl) ?_
  intro p l e R0 s m args below meth c C
  show Jz G σ p l e R0 s m args below meth c 2 0 0 (Qb R M0) M0 0 0 0 [(0, .ref (G.2.2 + o0)), (1, .int (iv v1))] []
  unfold uX10_isWho at h
  refine z_iload_n C dX10_isWho_0 1 rfl ?_
  refine z_if_lt 16 C dX10_isWho_1 (by decide) gv1 (fun e1 => ?_) (fun e1 => ?_)
  ·
    have h := (if_pos e1).symm.trans h
    refine z_iconst C dX10_isWho_16 ?_
    exact y_zretP C dX10_isWho_17 h (by decide)
  ·
    have h := (if_neg e1).symm.trans h
    refine z_iload_n C dX10_isWho_4 1 rfl ?_
    refine z_aload_n C dX10_isWho_5 0 rfl ?_
    obtain ⟨k2, h⟩ := gK_inv h
    obtain ⟨r3, hr3, h⟩ := bnd h
    refine y_cVi (st := [.int (iv v1)]) C dX10_isWho_6 mX10_182 k2 (tX10_people hC o0  hr3) rfl rfl (Nat.le_of_ble_eq_true rfl) (by decide) (fun gr3 => ?_)
    refine z_icmp_ge 16 C dX10_isWho_9 (by decide) gv1 gr3 (fun e4 => ?_) (fun e4 => ?_)
    ·
      have h := (if_pos e4).symm.trans h
      refine z_iconst C dX10_isWho_16 ?_
      exact y_zretP C dX10_isWho_17 h (by decide)
    ·
      have h := (if_neg e4).symm.trans h
      refine z_iconst C dX10_isWho_12 ?_
      refine z_goto 17 C dX10_isWho_13 (by decide) ?_
      exact y_zretP C dX10_isWho_17 h (by decide)

set_option maxHeartbeats 4000000 in
set_option maxRecDepth 100000 in
theorem tX10_isMint {G : Gx} {σ : State} (hC : Cy G σ) (o0 : Nat) (v1 : Int) {M0 : Mm} (gv1 : rg v1) {R : Int} (h : uX10_isMint o0 v1 M0 = some R) : Ct G σ (2) yX10_isMint cX10_isMint 2 (some .boolean) [.ref (G.2.2 + o0), .int (iv v1)] M0 0 0 (Qb R M0) := by
  refine Ct.of hC.1 (by decide +kernel) (Nat.le_of_ble_eq_true rfl) ?_
  intro p l e R0 s m args below meth c C
  show Jz G σ p l e R0 s m args below meth c 2 0 0 (Qb R M0) M0 0 0 0 [(0, .ref (G.2.2 + o0)), (1, .int (iv v1))] []
  unfold uX10_isMint at h
  refine z_iload_n C dX10_isMint_0 1 rfl ?_
  refine z_if_lt 16 C dX10_isMint_1 (by decide) gv1 (fun e1 => ?_) (fun e1 => ?_)
  ·
    have h := (if_pos e1).symm.trans h
    refine z_iconst C dX10_isMint_16 ?_
    exact y_zretP C dX10_isMint_17 h (by decide)
  ·
    have h := (if_neg e1).symm.trans h
    refine z_iload_n C dX10_isMint_4 1 rfl ?_
    refine z_aload_n C dX10_isMint_5 0 rfl ?_
    obtain ⟨k2, h⟩ := gK_inv h
    obtain ⟨r3, hr3, h⟩ := bnd h
    refine y_cVi (st := [.int (iv v1)]) C dX10_isMint_6 mX10_185 k2 (tX10_mints hC o0  hr3) rfl rfl (Nat.le_of_ble_eq_true rfl) (by decide) (fun gr3 => ?_)
    refine z_icmp_ge 16 C dX10_isMint_9 (by decide) gv1 gr3 (fun e4 => ?_) (fun e4 => ?_)
    ·
      have h := (if_pos e4).symm.trans h
      refine z_iconst C dX10_isMint_16 ?_
      exact y_zretP C dX10_isMint_17 h (by decide)
    ·
      have h := (if_neg e4).symm.trans h
      refine z_iconst C dX10_isMint_12 ?_
      refine z_goto 17 C dX10_isMint_13 (by decide) ?_
      exact y_zretP C dX10_isMint_17 h (by decide)

set_option maxHeartbeats 4000000 in
set_option maxRecDepth 100000 in
theorem tX10_isCoin {G : Gx} {σ : State} (hC : Cy G σ) (o0 : Nat) (v1 : Int) {M0 : Mm} (gv1 : rg v1) {R : Int} (h : uX10_isCoin o0 v1 M0 = some R) : Ct G σ (2) yX10_isCoin cX10_isCoin 2 (some .boolean) [.ref (G.2.2 + o0), .int (iv v1)] M0 0 0 (Qb R M0) := by
  refine Ct.of hC.1 (by decide +kernel) (Nat.le_of_ble_eq_true rfl) ?_
  intro p l e R0 s m args below meth c C
  show Jz G σ p l e R0 s m args below meth c 2 0 0 (Qb R M0) M0 0 0 0 [(0, .ref (G.2.2 + o0)), (1, .int (iv v1))] []
  unfold uX10_isCoin at h
  refine z_iload_n C dX10_isCoin_0 1 rfl ?_
  refine z_if_lt 16 C dX10_isCoin_1 (by decide) gv1 (fun e1 => ?_) (fun e1 => ?_)
  ·
    have h := (if_pos e1).symm.trans h
    refine z_iconst C dX10_isCoin_16 ?_
    exact y_zretP C dX10_isCoin_17 h (by decide)
  ·
    have h := (if_neg e1).symm.trans h
    refine z_iload_n C dX10_isCoin_4 1 rfl ?_
    refine z_aload_n C dX10_isCoin_5 0 rfl ?_
    obtain ⟨k2, h⟩ := gK_inv h
    obtain ⟨r3, hr3, h⟩ := bnd h
    refine y_cVi (st := [.int (iv v1)]) C dX10_isCoin_6 mX10_188 k2 (tX10_coins hC o0  hr3) rfl rfl (Nat.le_of_ble_eq_true rfl) (by decide) (fun gr3 => ?_)
    refine z_icmp_ge 16 C dX10_isCoin_9 (by decide) gv1 gr3 (fun e4 => ?_) (fun e4 => ?_)
    ·
      have h := (if_pos e4).symm.trans h
      refine z_iconst C dX10_isCoin_16 ?_
      exact y_zretP C dX10_isCoin_17 h (by decide)
    ·
      have h := (if_neg e4).symm.trans h
      refine z_iconst C dX10_isCoin_12 ?_
      refine z_goto 17 C dX10_isCoin_13 (by decide) ?_
      exact y_zretP C dX10_isCoin_17 h (by decide)

set_option maxHeartbeats 4000000 in
set_option maxRecDepth 100000 in
theorem tX10_topOf {G : Gx} {σ : State} (hC : Cy G σ) (o0 : Nat) (v1 : Int) {M0 : Mm} (gv1 : rg v1) {R : Int} (h : uX10_topOf o0 v1 M0 = some R) : Ct G σ (2) yX10_topOf cX10_topOf 2 (some .int) [.ref (G.2.2 + o0), .int (iv v1)] M0 0 0 (Qi R M0) := by
  refine Ct.of hC.1 (by decide +kernel) (Nat.le_of_ble_eq_true rfl) ?_
  intro p l e R0 s m args below meth c C
  show Jz G σ p l e R0 s m args below meth c 2 0 0 (Qi R M0) M0 0 0 0 [(0, .ref (G.2.2 + o0)), (1, .int (iv v1))] []
  unfold uX10_topOf at h
  refine z_aload_n C dX10_topOf_0 0 rfl ?_
  refine z_iload_n C dX10_topOf_1 1 rfl ?_
  refine z_iconst C dX10_topOf_2 ?_
  obtain ⟨k1, h⟩ := gK_inv h
  obtain ⟨r2, hr2, h⟩ := bnd h
  refine y_cVi (st := []) C dX10_topOf_3 mX10_256 k1 (tX10_ofCoin hC o0 v1 4 gv1 (by decide) hr2) rfl rfl (Nat.le_of_ble_eq_true rfl) (by decide) (fun gr2 => ?_)
  exact y_iretP C dX10_topOf_6 h gr2

set_option maxHeartbeats 4000000 in
set_option maxRecDepth 100000 in
theorem tX10_wrongStroke {G : Gx} {σ : State} (hC : Cy G σ) (o0 : Nat) (v1 : Int) (v2 : Int) (v3 : Int) {M0 : Mm} (gv1 : rg v1) (gv2 : rg v2) (gv3 : rg v3) {R : Int} (h : uX10_wrongStroke o0 v1 v2 v3 M0 = some R) : Ct G σ (2) yX10_wrongStroke cX10_wrongStroke 4 (some .int) [.ref (G.2.2 + o0), .int (iv v1), .int (iv v2), .int (iv v3)] M0 0 0 (Qi R M0) := by
  refine Ct.of hC.1 (by decide +kernel) (Nat.le_of_ble_eq_true rfl) ?_
  intro p l e R0 s m args below meth c C
  show Jz G σ p l e R0 s m args below meth c 4 0 0 (Qi R M0) M0 0 0 0 [(0, .ref (G.2.2 + o0)), (1, .int (iv v1)), (2, .int (iv v2)), (3, .int (iv v3))] []
  unfold uX10_wrongStroke at h
  refine z_aload_n C dX10_wrongStroke_0 0 rfl ?_
  refine z_iload_n C dX10_wrongStroke_1 3 rfl ?_
  refine z_iconst C dX10_wrongStroke_2 ?_
  obtain ⟨k1, h⟩ := gK_inv h
  obtain ⟨r2, hr2, h⟩ := bnd h
  refine y_cVi (st := []) C dX10_wrongStroke_3 mX10_262 k1 (tX10_ofMint hC o0 v3 2 gv3 (by decide) hr2) rfl rfl (Nat.le_of_ble_eq_true rfl) (by decide) (fun gr2 => ?_)
  refine z_if_le 13 C dX10_wrongStroke_6 (by decide) gr2 (fun e3 => ?_) (fun e3 => ?_)
  ·
    have h := (if_pos e3).symm.trans h
    refine z_iload_n C dX10_wrongStroke_13 1 rfl ?_
    refine z_aload_n C dX10_wrongStroke_14 0 rfl ?_
    refine z_iload_n C dX10_wrongStroke_15 3 rfl ?_
    refine z_iconst C dX10_wrongStroke_16 ?_
    obtain ⟨k4, h⟩ := gK_inv h
    obtain ⟨r5, hr5, h⟩ := bnd h
    refine y_cVi (st := [.int (iv v1)]) C dX10_wrongStroke_17 mX10_262 k4 (tX10_ofMint hC o0 v3 0 gv3 (by decide) hr5) rfl rfl (Nat.le_of_ble_eq_true rfl) (by decide) (fun gr5 => ?_)
    refine y_isub C dX10_wrongStroke_20 ?_
    refine z_aload_n C dX10_wrongStroke_21 0 rfl ?_
    obtain ⟨on6, hon6, h⟩ := bnd h
    refine y_getR C dX10_wrongStroke_22 fX10_13 rfl hon6 ?_
    refine z_iconst C dX10_wrongStroke_25 ?_
    obtain ⟨x7, hx7, h⟩ := bnd h
    refine y_iald C dX10_wrongStroke_26 hx7 (fun gx7 => ?_)
    refine z_icmp_ge 34 C dX10_wrongStroke_27 (by decide) (w32_rng _) gx7 (fun e8 => ?_) (fun e8 => ?_)
    ·
      have h := (if_pos e8).symm.trans h
      refine z_iload_n C dX10_wrongStroke_34 2 rfl ?_
      refine z_aload_n C dX10_wrongStroke_35 0 rfl ?_
      obtain ⟨on9, hon9, h⟩ := bnd h
      refine y_getR C dX10_wrongStroke_36 fX10_13 rfl hon9 ?_
      refine z_bipush C dX10_wrongStroke_39 (by decide) ?_
      obtain ⟨x10, hx10, h⟩ := bnd h
      refine y_iald C dX10_wrongStroke_41 hx10 (fun gx10 => ?_)
      refine z_icmp_lt 50 C dX10_wrongStroke_42 (by decide) gv2 gx10 (fun e11 => ?_) (fun e11 => ?_)
      ·
        have h := (if_pos e11).symm.trans h
        refine z_iconst C dX10_wrongStroke_50 ?_
        exact y_iretP C dX10_wrongStroke_51 h (by decide)
      ·
        have h := (if_neg e11).symm.trans h
        refine z_bipush C dX10_wrongStroke_45 (by decide) ?_
        refine z_goto 51 C dX10_wrongStroke_47 (by decide) ?_
        exact y_iretP C dX10_wrongStroke_51 h (by decide)
    ·
      have h := (if_neg e8).symm.trans h
      refine z_iconst C dX10_wrongStroke_30 ?_
      refine z_goto 51 C dX10_wrongStroke_31 (by decide) ?_
      exact y_iretP C dX10_wrongStroke_51 h (by decide)
  ·
    have h := (if_neg e3).symm.trans h
    refine z_iconst C dX10_wrongStroke_9 ?_
    refine z_goto 51 C dX10_wrongStroke_10 (by decide) ?_
    exact y_iretP C dX10_wrongStroke_51 h (by decide)
