set_option maxHeartbeats 4000000 in
set_option maxRecDepth 100000 in
theorem tX9_buy {G : Gx} {σ : State} (hC : Cy G σ) (o0 : Nat) (v1 : Int) (v2 : Int) (v3 : Int) (v4 : Int) {M0 : Mm} (gv1 : rg v1) (gv2 : rg v2) (gv3 : rg v3) (gv4 : rg v4) {R : Int × Mm} (h : uX9_buy o0 v1 v2 v3 v4 M0 = some R) : Ct G σ (212) yX9_buy cX9_buy 6 (some .int) [.ref (G.2.2 + o0), .int (iv v1), .int (iv v2), .int (iv v3), .int (iv v4)] M0 7 895 (Qi R.1 R.2) := by
  refine Ct.of hC.1 (by decide +kernel) (Nat.le_of_ble_eq_true rfl) ?_
  intro p l e R0 s m args below meth c C
  show Jz G σ p l e R0 s m args below meth c 6 7 895 (Qi R.1 R.2) M0 0 0 0 [(0, .ref (G.2.2 + o0)), (1, .int (iv v1)), (2, .int (iv v2)), (3, .int (iv v3)), (4, .int (iv v4))] []
  unfold uX9_buy at h
  refine z_aload_n C dX9_buy_0 0 rfl ?_
  refine z_iload_n C dX9_buy_1 1 rfl ?_
  refine z_iload_n C dX9_buy_2 2 rfl ?_
  refine z_iload_n C dX9_buy_3 3 rfl ?_
  refine z_iload C dX9_buy_4 4 rfl ?_
  obtain ⟨k1, h⟩ := gK_inv h
  obtain ⟨r2, hr2, h⟩ := bnd h
  refine y_cVb (st := []) C dX9_buy_6 mX9_265 k1 (tX9_payable hC o0 v1 v2 v3 v4 gv1 gv2 gv3 gv4 hr2) rfl rfl (Nat.le_of_ble_eq_true rfl) (by decide) (fun br2 => ?_)
  refine z_if_ne 15 C dX9_buy_9 (by decide) (rg01 br2) (fun e3 => ?_) (fun e3 => ?_)
  ·
    have h := (if_neg e3).symm.trans h
    refine z_aload_n C dX9_buy_15 0 rfl ?_
    obtain ⟨on4, hon4, h⟩ := bnd h
    refine y_getR C dX9_buy_16 fX9_51 rfl hon4 ?_
    refine z_aload_n C dX9_buy_19 0 rfl ?_
    obtain ⟨on5, hon5, h⟩ := bnd h
    refine y_getR C dX9_buy_20 fX9_33 rfl hon5 ?_
    refine z_iload_n C dX9_buy_23 1 rfl ?_
    refine z_iload_n C dX9_buy_24 2 rfl ?_
    refine z_iload_n C dX9_buy_25 3 rfl ?_
    refine z_iload C dX9_buy_26 4 rfl ?_
    obtain ⟨k6, h⟩ := gK_inv h
    obtain ⟨r7, M8, hr7, h⟩ := bnd2 h
    refine y_cVi (st := []) C dX9_buy_28 mX9_269 k6 (tX0_find hC on4 on5 v1 v2 v3 v4 gv1 gv2 gv3 gv4 hr7) rfl rfl (Nat.le_of_ble_eq_true rfl) (by decide) (fun gr7 => ?_)
    refine z_istore (lv' := [(0, .ref (G.2.2 + o0)), (1, .int (iv v1)), (2, .int (iv v2)), (3, .int (iv v3)), (4, .int (iv v4)), (5, .int (iv r7))]) C dX9_buy_31 (by decide) [1, 2, 3, 4, 5, 0] rfl ?_
    refine z_iload C dX9_buy_33 5 rfl ?_
    refine z_iconst C dX9_buy_35 ?_
    refine z_icmp_ne 41 C dX9_buy_36 (by decide) gr7 (by decide) (fun e9 => ?_) (fun e9 => ?_)
    ·
      have h := (if_neg e9).symm.trans h
      refine z_aload_n C dX9_buy_41 0 rfl ?_
      obtain ⟨k10, h⟩ := gK_inv h
      obtain ⟨M11, hM11, h⟩ := bnd h
      refine y_cVv (st := []) C dX9_buy_42 mX9_273 k10 (tX9_tellPaid hC o0  hM11) rfl rfl (Nat.le_of_ble_eq_true rfl) (by decide) ?_
      refine z_aload_n C dX9_buy_45 0 rfl ?_
      obtain ⟨on12, hon12, h⟩ := bnd h
      refine y_getR C dX9_buy_46 fX9_33 rfl hon12 ?_
      obtain ⟨k13, h⟩ := gK_inv h
      obtain ⟨r14, hr14, h⟩ := bnd h
      refine y_cVi (st := []) C dX9_buy_49 mX9_167 k13 (tX8_strokesLeft hC on12  hr14) rfl rfl (Nat.le_of_ble_eq_true rfl) (by decide) (fun gr14 => ?_)
      refine z_aload_n C dX9_buy_52 0 rfl ?_
      obtain ⟨on15, hon15, h⟩ := bnd h
      refine y_getR C dX9_buy_53 fX9_51 rfl hon15 ?_
      obtain ⟨k16, h⟩ := gK_inv h
      obtain ⟨r17, hr17, h⟩ := bnd h
      refine y_cVi (st := [.int (iv r14)]) C dX9_buy_56 mX9_285 k16 (tX0_strokesNeeded hC on15  hr17) rfl rfl (Nat.le_of_ble_eq_true rfl) (by decide) (fun gr17 => ?_)
      refine z_icmp_ge 64 C dX9_buy_59 (by decide) gr14 gr17 (fun e18 => ?_) (fun e18 => ?_)
      ·
        have h := (if_pos e18).symm.trans h
        refine z_aload_n C dX9_buy_64 0 rfl ?_
        obtain ⟨on19, hon19, h⟩ := bnd h
        refine y_getR C dX9_buy_65 fX9_40 rfl hon19 ?_
        refine z_aload_n C dX9_buy_68 0 rfl ?_
        obtain ⟨on20, hon20, h⟩ := bnd h
        refine y_getR C dX9_buy_69 fX9_33 rfl hon20 ?_
        obtain ⟨on21, hon21, h⟩ := bnd h
        refine y_getR C dX9_buy_72 fX9_117 rfl hon21 ?_
        obtain ⟨k22, h⟩ := gK_inv h
        obtain ⟨M23, hM23, h⟩ := bnd h
        refine y_cVva (st := []) C dX9_buy_75 mX9_171 k22 (tX2_keep hC on19 on21  hM23) rfl rfl (Nat.le_of_ble_eq_true rfl) (by decide) ?_
        refine z_aload_n C dX9_buy_78 0 rfl ?_
        obtain ⟨on24, hon24, h⟩ := bnd h
        refine y_getR C dX9_buy_79 fX9_51 rfl hon24 ?_
        refine z_aload_n C dX9_buy_82 0 rfl ?_
        obtain ⟨on25, hon25, h⟩ := bnd h
        refine y_getR C dX9_buy_83 fX9_33 rfl hon25 ?_
        refine z_iload_n C dX9_buy_86 1 rfl ?_
        refine z_iload_n C dX9_buy_87 2 rfl ?_
        refine z_iload_n C dX9_buy_88 3 rfl ?_
        refine z_iload C dX9_buy_89 4 rfl ?_
        obtain ⟨k26, h⟩ := gK_inv h
        obtain ⟨M27, hM27, h⟩ := bnd h
        refine y_cVv (st := []) C dX9_buy_91 mX9_288 k26 (tX0_settle hC on24 on25 v1 v2 v3 v4 gv1 gv2 gv3 gv4 hM27) rfl rfl (Nat.le_of_ble_eq_true rfl) (by decide) ?_
        refine z_iload C dX9_buy_94 5 rfl ?_
        exact y_iretB C dX9_buy_96 h gr7
      ·
        have h := (if_neg e18).symm.trans h
        refine z_iconst C dX9_buy_62 ?_
        exact y_iretB C dX9_buy_63 h (by decide)
    ·
      have h := (if_pos e9).symm.trans h
      refine z_iconst C dX9_buy_39 ?_
      exact y_iretB C dX9_buy_40 h (by decide)
  ·
    have h := (if_pos e3).symm.trans h
    refine z_bipush C dX9_buy_12 (by decide) ?_
    exact y_iretB C dX9_buy_14 h (by decide)

set_option maxHeartbeats 4000000 in
set_option maxRecDepth 100000 in
theorem tX9_rows {G : Gx} {σ : State} (hC : Cy G σ) (o0 : Nat) (v1 : Int) (v2 : Int) (v3 : Int) {M0 : Mm} (gv1 : rg v1) (gv2 : rg v2) (gv3 : rg v3) {R : Int × Mm} (h : uX9_rows o0 v1 v2 v3 M0 = some R) : Ct G σ (6) yX9_rows cX9_rows 4 (some .int) [.ref (G.2.2 + o0), .int (iv v1), .int (iv v2), .int (iv v3)] M0 0 0 (Qi R.1 R.2) := by
  refine Ct.of hC.1 (by decide +kernel) (Nat.le_of_ble_eq_true rfl) ?_
  intro p l e R0 s m args below meth c C
  show Jz G σ p l e R0 s m args below meth c 4 0 0 (Qi R.1 R.2) M0 0 0 0 [(0, .ref (G.2.2 + o0)), (1, .int (iv v1)), (2, .int (iv v2)), (3, .int (iv v3))] []
  unfold uX9_rows at h
  refine z_aload_n C dX9_rows_0 0 rfl ?_
  obtain ⟨on1, hon1, h⟩ := bnd h
  refine y_getR C dX9_rows_1 fX9_33 rfl hon1 ?_
  refine z_iload_n C dX9_rows_4 1 rfl ?_
  obtain ⟨k2, h⟩ := gK_inv h
  obtain ⟨r3, hr3, h⟩ := bnd h
  refine y_cVb (st := []) C dX9_rows_5 mX9_183 k2 (tX8_isCoin hC on1 v1 gv1 hr3) rfl rfl (Nat.le_of_ble_eq_true rfl) (by decide) (fun br3 => ?_)
  refine z_if_eq 23 C dX9_rows_8 (by decide) (rg01 br3) (fun e4 => ?_) (fun e4 => ?_)
  ·
    have h := (if_pos e4).symm.trans h
    refine z_iconst C dX9_rows_23 ?_
    exact y_iretB C dX9_rows_24 h (by decide)
  ·
    have h := (if_neg e4).symm.trans h
    refine z_iload_n C dX9_rows_11 2 rfl ?_
    refine z_iconst C dX9_rows_12 ?_
    refine z_icmp_lt 23 C dX9_rows_13 (by decide) gv2 (by decide) (fun e5 => ?_) (fun e5 => ?_)
    ·
      have h := (if_pos e5).symm.trans h
      refine z_iconst C dX9_rows_23 ?_
      exact y_iretB C dX9_rows_24 h (by decide)
    ·
      have h := (if_neg e5).symm.trans h
      refine z_iload_n C dX9_rows_16 2 rfl ?_
      refine z_sipush C dX9_rows_17 (by decide) ?_
      refine z_icmp_le 25 C dX9_rows_20 (by decide) gv2 (by decide) (fun e6 => ?_) (fun e6 => ?_)
      ·
        have h := (if_pos e6).symm.trans h
        refine z_iload_n C dX9_rows_25 3 rfl ?_
        refine z_iconst C dX9_rows_26 ?_
        refine z_icmp_lt 36 C dX9_rows_27 (by decide) gv3 (by decide) (fun e7 => ?_) (fun e7 => ?_)
        ·
          have h := (if_pos e7).symm.trans h
          refine z_iconst C dX9_rows_36 ?_
          exact y_iretB C dX9_rows_37 h (by decide)
        ·
          have h := (if_neg e7).symm.trans h
          refine z_iload_n C dX9_rows_30 3 rfl ?_
          refine z_bipush C dX9_rows_31 (by decide) ?_
          refine z_icmp_le 38 C dX9_rows_33 (by decide) gv3 (by decide) (fun e8 => ?_) (fun e8 => ?_)
          ·
            have h := (if_pos e8).symm.trans h
            refine z_aload_n C dX9_rows_38 0 rfl ?_
            obtain ⟨on9, hon9, h⟩ := bnd h
            refine y_getR C dX9_rows_39 fX9_33 rfl hon9 ?_
            obtain ⟨on10, hon10, h⟩ := bnd h
            refine y_getR C dX9_rows_42 fX9_108 rfl hon10 ?_
            refine z_iload_n C dX9_rows_45 3 rfl ?_
            obtain ⟨r11, hr11, h⟩ := bnd h
            refine y_cSb (st := []) C dX9_rows_46 mX9_331 (tX4_tooMany hC on10 v3 gv3 hr11) rfl rfl (Nat.le_of_ble_eq_true rfl) (by decide) (fun br11 => ?_)
            refine z_if_eq 55 C dX9_rows_49 (by decide) (rg01 br11) (fun e12 => ?_) (fun e12 => ?_)
            ·
              have h := (if_pos e12).symm.trans h
              refine z_aload_n C dX9_rows_55 0 rfl ?_
              obtain ⟨on13, hon13, h⟩ := bnd h
              refine y_getR C dX9_rows_56 fX9_62 rfl hon13 ?_
              refine z_aload_n C dX9_rows_59 0 rfl ?_
              obtain ⟨on14, hon14, h⟩ := bnd h
              refine y_getR C dX9_rows_60 fX9_33 rfl hon14 ?_
              refine z_iload_n C dX9_rows_63 1 rfl ?_
              refine z_iload_n C dX9_rows_64 2 rfl ?_
              refine z_iload_n C dX9_rows_65 3 rfl ?_
              obtain ⟨k15, h⟩ := gK_inv h
              obtain ⟨r16, M17, hr16, h⟩ := bnd2 h
              refine y_cVi (st := []) C dX9_rows_66 mX9_335 k15 (tX4_find hC on13 on14 v1 v2 v3 gv1 gv2 gv3 hr16) rfl rfl (Nat.le_of_ble_eq_true rfl) (by decide) (fun gr16 => ?_)
              exact y_iretB C dX9_rows_69 h gr16
            ·
              have h := (if_neg e12).symm.trans h
              refine z_bipush C dX9_rows_52 (by decide) ?_
              exact y_iretB C dX9_rows_54 h (by decide)
          ·
            have h := (if_neg e8).symm.trans h
            refine z_iconst C dX9_rows_36 ?_
            exact y_iretB C dX9_rows_37 h (by decide)
      ·
        have h := (if_neg e6).symm.trans h
        refine z_iconst C dX9_rows_23 ?_
        exact y_iretB C dX9_rows_24 h (by decide)

set_option maxHeartbeats 4000000 in
set_option maxRecDepth 100000 in
theorem tX9_trade {G : Gx} {σ : State} (hC : Cy G σ) (o0 : Nat) (v1 : Int) (v2 : Int) (v3 : Int) (v4 : Int) {M0 : Mm} (gv1 : rg v1) (gv2 : rg v2) (gv3 : rg v3) (gv4 : rg v4) {R : Int × Mm} (h : uX9_trade o0 v1 v2 v3 v4 M0 = some R) : Ct G σ (212) yX9_trade cX9_trade 5 (some .boolean) [.ref (G.2.2 + o0), .int (iv v1), .int (iv v2), .int (iv v3), .int (iv v4)] M0 0 0 (Qb R.1 R.2) := by
  refine Ct.of hC.1 (by decide +kernel) (Nat.le_of_ble_eq_true rfl) ?_
  intro p l e R0 s m args below meth c C
  show Jz G σ p l e R0 s m args below meth c 5 0 0 (Qb R.1 R.2) M0 0 0 0 [(0, .ref (G.2.2 + o0)), (1, .int (iv v1)), (2, .int (iv v2)), (3, .int (iv v3)), (4, .int (iv v4))] []
  unfold uX9_trade at h
  refine z_aload_n C dX9_trade_0 0 rfl ?_
  refine z_iload_n C dX9_trade_1 1 rfl ?_
  refine z_iload_n C dX9_trade_2 2 rfl ?_
  refine z_iload_n C dX9_trade_3 3 rfl ?_
  refine z_iload C dX9_trade_4 4 rfl ?_
  obtain ⟨k1, h⟩ := gK_inv h
  obtain ⟨r2, hr2, h⟩ := bnd h
  refine y_cVb (st := []) C dX9_trade_6 mX9_265 k1 (tX9_payable hC o0 v1 v2 v3 v4 gv1 gv2 gv3 gv4 hr2) rfl rfl (Nat.le_of_ble_eq_true rfl) (by decide) (fun br2 => ?_)
  refine z_if_ne 14 C dX9_trade_9 (by decide) (rg01 br2) (fun e3 => ?_) (fun e3 => ?_)
  ·
    have h := (if_neg e3).symm.trans h
    refine z_aload_n C dX9_trade_14 0 rfl ?_
    obtain ⟨on4, hon4, h⟩ := bnd h
    refine y_getR C dX9_trade_15 fX9_51 rfl hon4 ?_
    refine z_aload_n C dX9_trade_18 0 rfl ?_
    obtain ⟨on5, hon5, h⟩ := bnd h
    refine y_getR C dX9_trade_19 fX9_33 rfl hon5 ?_
    refine z_iload_n C dX9_trade_22 1 rfl ?_
    refine z_iload_n C dX9_trade_23 2 rfl ?_
    refine z_iload_n C dX9_trade_24 3 rfl ?_
    refine z_iload C dX9_trade_25 4 rfl ?_
    obtain ⟨k6, h⟩ := gK_inv h
    obtain ⟨r7, M8, hr7, h⟩ := bnd2 h
    refine y_cVi (st := []) C dX9_trade_27 mX9_269 k6 (tX0_find hC on4 on5 v1 v2 v3 v4 gv1 gv2 gv3 gv4 hr7) rfl rfl (Nat.le_of_ble_eq_true rfl) (by decide) (fun gr7 => ?_)
    refine z_iconst C dX9_trade_30 ?_
    refine z_icmp_ne 36 C dX9_trade_31 (by decide) gr7 (by decide) (fun e9 => ?_) (fun e9 => ?_)
    ·
      have h := (if_neg e9).symm.trans h
      refine z_aload_n C dX9_trade_36 0 rfl ?_
      obtain ⟨on10, hon10, h⟩ := bnd h
      refine y_getR C dX9_trade_37 fX9_33 rfl hon10 ?_
      obtain ⟨k11, h⟩ := gK_inv h
      obtain ⟨r12, hr12, h⟩ := bnd h
      refine y_cVi (st := []) C dX9_trade_40 mX9_167 k11 (tX8_strokesLeft hC on10  hr12) rfl rfl (Nat.le_of_ble_eq_true rfl) (by decide) (fun gr12 => ?_)
      refine z_aload_n C dX9_trade_43 0 rfl ?_
      obtain ⟨on13, hon13, h⟩ := bnd h
      refine y_getR C dX9_trade_44 fX9_51 rfl hon13 ?_
      obtain ⟨k14, h⟩ := gK_inv h
      obtain ⟨r15, hr15, h⟩ := bnd h
      refine y_cVi (st := [.int (iv r12)]) C dX9_trade_47 mX9_285 k14 (tX0_strokesNeeded hC on13  hr15) rfl rfl (Nat.le_of_ble_eq_true rfl) (by decide) (fun gr15 => ?_)
      refine z_icmp_ge 55 C dX9_trade_50 (by decide) gr12 gr15 (fun e16 => ?_) (fun e16 => ?_)
      ·
        have h := (if_pos e16).symm.trans h
        refine z_aload_n C dX9_trade_55 0 rfl ?_
        obtain ⟨on17, hon17, h⟩ := bnd h
        refine y_getR C dX9_trade_56 fX9_51 rfl hon17 ?_
        refine z_aload_n C dX9_trade_59 0 rfl ?_
        obtain ⟨on18, hon18, h⟩ := bnd h
        refine y_getR C dX9_trade_60 fX9_33 rfl hon18 ?_
        refine z_iload_n C dX9_trade_63 1 rfl ?_
        refine z_iload_n C dX9_trade_64 2 rfl ?_
        refine z_iload_n C dX9_trade_65 3 rfl ?_
        refine z_iload C dX9_trade_66 4 rfl ?_
        obtain ⟨k19, h⟩ := gK_inv h
        obtain ⟨M20, hM20, h⟩ := bnd h
        refine y_cVv (st := []) C dX9_trade_68 mX9_288 k19 (tX0_settle hC on17 on18 v1 v2 v3 v4 gv1 gv2 gv3 gv4 hM20) rfl rfl (Nat.le_of_ble_eq_true rfl) (by decide) ?_
        refine z_iconst C dX9_trade_71 ?_
        exact y_zretB C dX9_trade_72 h (by decide)
      ·
        have h := (if_neg e16).symm.trans h
        refine z_iconst C dX9_trade_53 ?_
        exact y_zretB C dX9_trade_54 h (by decide)
    ·
      have h := (if_pos e9).symm.trans h
      refine z_iconst C dX9_trade_34 ?_
      exact y_zretB C dX9_trade_35 h (by decide)
  ·
    have h := (if_pos e3).symm.trans h
    refine z_iconst C dX9_trade_12 ?_
    exact y_zretB C dX9_trade_13 h (by decide)

set_option maxHeartbeats 4000000 in
set_option maxRecDepth 100000 in
theorem tX10_readLine {G : Gx} {σ : State} (hC : Cy G σ) (o0 : Nat) {M0 : Mm}  {R : Int × Mm} (h : uX10_readLine o0 M0 = some R) : Ct G σ (6) yX10_readLine cX10_readLine 2 (some .boolean) [.ref (G.2.2 + o0)] M0 0 0 (Qb R.1 R.2) := by
  refine Ct.of hC.1 (by decide +kernel) (Nat.le_of_ble_eq_true rfl) ?_
  intro p l e R0 s m args below meth c C
  show Jz G σ p l e R0 s m args below meth c 2 0 0 (Qb R.1 R.2) M0 0 0 0 [(0, .ref (G.2.2 + o0))] []
  have hb143 : ∀ (o0 : Nat) (v1 : Int) (M : Mm), (v1 = 0 ∨ v1 = 1) → uX10_readLine_b143 o0 v1 M = some R → Jz G σ p l e R0 s m args below meth c 2 0 0 (Qb R.1 R.2) M 0 0 143 [(0, .ref (G.2.2 + o0)), (1, .int (iv v1))] [] := by
    intro o0 v1 M bv1 h
    unfold uX10_readLine_b143 at h
    refine z_iload_n C dX10_readLine_143 1 rfl ?_
    refine z_if_eq 158 C dX10_readLine_144 (by decide) (rg01 bv1) (fun e1 => ?_) (fun e1 => ?_)
    ·
      have h := (if_pos e1).symm.trans h
      refine z_iconst C dX10_readLine_158 ?_
      exact y_zretB C dX10_readLine_159 h (by decide)
    ·
      have h := (if_neg e1).symm.trans h
      refine z_aload_n C dX10_readLine_147 0 rfl ?_
      obtain ⟨k2, h⟩ := gK_inv h
      obtain ⟨r3, M4, hr3, h⟩ := bnd2 h
      refine y_cVb (st := []) C dX10_readLine_148 mX10_231 k2 (tX10_readEnd hC o0  hr3) rfl rfl (Nat.le_of_ble_eq_true rfl) (by decide) (fun br3 => ?_)
      refine z_if_eq 158 C dX10_readLine_151 (by decide) (rg01 br3) (fun e5 => ?_) (fun e5 => ?_)
      ·
        have h := (if_pos e5).symm.trans h
        refine z_iconst C dX10_readLine_158 ?_
        exact y_zretB C dX10_readLine_159 h (by decide)
      ·
        have h := (if_neg e5).symm.trans h
        refine z_iconst C dX10_readLine_154 ?_
        refine z_goto 159 C dX10_readLine_155 (by decide) ?_
        exact y_zretB C dX10_readLine_159 h (by decide)
  have hb142 : ∀ (o0 : Nat) (vs0 : Int) (M : Mm), (vs0 = 0 ∨ vs0 = 1) → uX10_readLine_b142 o0 vs0 M = some R → Jz G σ p l e R0 s m args below meth c 2 0 0 (Qb R.1 R.2) M 0 0 142 [(0, .ref (G.2.2 + o0))] [.int (iv vs0)] := by
    intro o0 vs0 M bvs0 h
    unfold uX10_readLine_b142 at h
    refine z_istore_n (lv' := [(0, .ref (G.2.2 + o0)), (1, .int (iv vs0))]) C dX10_readLine_142 rfl (by decide) [1, 0] rfl ?_
    exact hb143 o0 vs0 M bvs0 h
  unfold uX10_readLine at h
  refine z_aload_n C dX10_readLine_0 0 rfl ?_
  refine z_iconst C dX10_readLine_1 ?_
  obtain ⟨k6, h⟩ := gK_inv h
  obtain ⟨r7, hr7, h⟩ := bnd h
  refine y_cVb (st := []) C dX10_readLine_2 mX10_202 k6 (tX10_isWord hC o0 0 (by decide) hr7) rfl rfl (Nat.le_of_ble_eq_true rfl) (by decide) (fun br7 => ?_)
  refine z_if_eq 16 C dX10_readLine_5 (by decide) (rg01 br7) (fun e8 => ?_) (fun e8 => ?_)
  ·
    have h := (if_pos e8).symm.trans h
    refine z_aload_n C dX10_readLine_16 0 rfl ?_
    refine z_iconst C dX10_readLine_17 ?_
    obtain ⟨k9, h⟩ := gK_inv h
    obtain ⟨r10, hr10, h⟩ := bnd h
    refine y_cVb (st := []) C dX10_readLine_18 mX10_202 k9 (tX10_isWord hC o0 3 (by decide) hr10) rfl rfl (Nat.le_of_ble_eq_true rfl) (by decide) (fun br10 => ?_)
    refine z_if_eq 32 C dX10_readLine_21 (by decide) (rg01 br10) (fun e11 => ?_) (fun e11 => ?_)
    ·
      have h := (if_pos e11).symm.trans h
      refine z_aload_n C dX10_readLine_32 0 rfl ?_
      refine z_iconst C dX10_readLine_33 ?_
      obtain ⟨k12, h⟩ := gK_inv h
      obtain ⟨r13, hr13, h⟩ := bnd h
      refine y_cVb (st := []) C dX10_readLine_34 mX10_202 k12 (tX10_isWord hC o0 4 (by decide) hr13) rfl rfl (Nat.le_of_ble_eq_true rfl) (by decide) (fun br13 => ?_)
      refine z_if_eq 48 C dX10_readLine_37 (by decide) (rg01 br13) (fun e14 => ?_) (fun e14 => ?_)
      ·
        have h := (if_pos e14).symm.trans h
        refine z_aload_n C dX10_readLine_48 0 rfl ?_
        refine z_iconst C dX10_readLine_49 ?_
        obtain ⟨k15, h⟩ := gK_inv h
        obtain ⟨r16, hr16, h⟩ := bnd h
        refine y_cVb (st := []) C dX10_readLine_50 mX10_202 k15 (tX10_isWord hC o0 5 (by decide) hr16) rfl rfl (Nat.le_of_ble_eq_true rfl) (by decide) (fun br16 => ?_)
        refine z_if_eq 69 C dX10_readLine_53 (by decide) (rg01 br16) (fun e17 => ?_) (fun e17 => ?_)
        ·
          have h := (if_pos e17).symm.trans h
          refine z_aload_n C dX10_readLine_69 0 rfl ?_
          refine z_bipush C dX10_readLine_70 (by decide) ?_
          obtain ⟨k18, h⟩ := gK_inv h
          obtain ⟨r19, hr19, h⟩ := bnd h
          refine y_cVb (st := []) C dX10_readLine_72 mX10_202 k18 (tX10_isWord hC o0 6 (by decide) hr19) rfl rfl (Nat.le_of_ble_eq_true rfl) (by decide) (fun br19 => ?_)
          refine z_if_eq 92 C dX10_readLine_75 (by decide) (rg01 br19) (fun e20 => ?_) (fun e20 => ?_)
          ·
            have h := (if_pos e20).symm.trans h
            refine z_aload_n C dX10_readLine_92 0 rfl ?_
            refine z_bipush C dX10_readLine_93 (by decide) ?_
            obtain ⟨k21, h⟩ := gK_inv h
            obtain ⟨r22, hr22, h⟩ := bnd h
            refine y_cVb (st := []) C dX10_readLine_95 mX10_202 k21 (tX10_isWord hC o0 7 (by decide) hr22) rfl rfl (Nat.le_of_ble_eq_true rfl) (by decide) (fun br22 => ?_)
            refine z_if_eq 115 C dX10_readLine_98 (by decide) (rg01 br22) (fun e23 => ?_) (fun e23 => ?_)
            ·
              have h := (if_pos e23).symm.trans h
              refine z_aload_n C dX10_readLine_115 0 rfl ?_
              refine z_bipush C dX10_readLine_116 (by decide) ?_
              obtain ⟨k24, h⟩ := gK_inv h
              obtain ⟨r25, hr25, h⟩ := bnd h
              refine y_cVb (st := []) C dX10_readLine_118 mX10_202 k24 (tX10_isWord hC o0 8 (by decide) hr25) rfl rfl (Nat.le_of_ble_eq_true rfl) (by decide) (fun br25 => ?_)
              refine z_if_eq 137 C dX10_readLine_121 (by decide) (rg01 br25) (fun e26 => ?_) (fun e26 => ?_)
              ·
                have h := (if_pos e26).symm.trans h
                refine z_aload_n C dX10_readLine_137 0 rfl ?_
                refine z_iconst C dX10_readLine_138 ?_
                obtain ⟨k27, h⟩ := gK_inv h
                obtain ⟨r28, M29, hr28, h⟩ := bnd2 h
                refine y_cVb (st := []) C dX10_readLine_139 mX10_151 k27 (tX10_bad hC o0 1 (by decide) hr28) rfl rfl (Nat.le_of_ble_eq_true rfl) (by decide) (fun br28 => ?_)
                exact hb142 o0 r28 M29 br28 h
              ·
                have h := (if_neg e26).symm.trans h
                refine z_aload_n C dX10_readLine_124 0 rfl ?_
                refine z_iconst C dX10_readLine_125 ?_
                refine z_bipush C dX10_readLine_126 (by decide) ?_
                refine z_iconst C dX10_readLine_128 ?_
                refine z_bipush C dX10_readLine_129 (by decide) ?_
                obtain ⟨k30, h⟩ := gK_inv h
                obtain ⟨r31, M32, hr31, h⟩ := bnd2 h
                refine y_cVb (st := []) C dX10_readLine_131 mX10_227 k30 (tX10_readOnce hC o0 3 6 1 9 (by decide) (by decide) (by decide) (by decide) hr31) rfl rfl (Nat.le_of_ble_eq_true rfl) (by decide) (fun br31 => ?_)
                refine z_goto 142 C dX10_readLine_134 (by decide) ?_
                exact hb142 o0 r31 M32 br31 h
            ·
              have h := (if_neg e23).symm.trans h
              refine z_aload_n C dX10_readLine_101 0 rfl ?_
              refine z_iconst C dX10_readLine_102 ?_
              refine z_iconst C dX10_readLine_103 ?_
              refine z_iconst C dX10_readLine_104 ?_
              refine z_sipush C dX10_readLine_105 (by decide) ?_
              obtain ⟨k33, h⟩ := gK_inv h
              obtain ⟨r34, M35, hr34, h⟩ := bnd2 h
              refine y_cVb (st := []) C dX10_readLine_108 mX10_227 k33 (tX10_readOnce hC o0 2 5 1 999 (by decide) (by decide) (by decide) (by decide) hr34) rfl rfl (Nat.le_of_ble_eq_true rfl) (by decide) (fun br34 => ?_)
              refine z_istore_n (lv' := [(0, .ref (G.2.2 + o0)), (1, .int (iv r34))]) C dX10_readLine_111 rfl (by decide) [1, 0] rfl ?_
              refine z_goto 143 C dX10_readLine_112 (by decide) ?_
              exact hb143 o0 r34 M35 br34 h
          ·
            have h := (if_neg e20).symm.trans h
            refine z_aload_n C dX10_readLine_78 0 rfl ?_
            refine z_iconst C dX10_readLine_79 ?_
            refine z_iconst C dX10_readLine_80 ?_
            refine z_iconst C dX10_readLine_81 ?_
            refine z_sipush C dX10_readLine_82 (by decide) ?_
            obtain ⟨k36, h⟩ := gK_inv h
            obtain ⟨r37, M38, hr37, h⟩ := bnd2 h
            refine y_cVb (st := []) C dX10_readLine_85 mX10_227 k36 (tX10_readOnce hC o0 1 4 0 200 (by decide) (by decide) (by decide) (by decide) hr37) rfl rfl (Nat.le_of_ble_eq_true rfl) (by decide) (fun br37 => ?_)
            refine z_istore_n (lv' := [(0, .ref (G.2.2 + o0)), (1, .int (iv r37))]) C dX10_readLine_88 rfl (by decide) [1, 0] rfl ?_
            refine z_goto 143 C dX10_readLine_89 (by decide) ?_
            exact hb143 o0 r37 M38 br37 h
        ·
          have h := (if_neg e17).symm.trans h
          refine z_aload_n C dX10_readLine_56 0 rfl ?_
          refine z_iconst C dX10_readLine_57 ?_
          refine z_iconst C dX10_readLine_58 ?_
          refine z_iconst C dX10_readLine_59 ?_
          refine z_bipush C dX10_readLine_60 (by decide) ?_
          obtain ⟨k39, h⟩ := gK_inv h
          obtain ⟨r40, M41, hr40, h⟩ := bnd2 h
          refine y_cVb (st := []) C dX10_readLine_62 mX10_227 k39 (tX10_readOnce hC o0 0 3 0 100 (by decide) (by decide) (by decide) (by decide) hr40) rfl rfl (Nat.le_of_ble_eq_true rfl) (by decide) (fun br40 => ?_)
          refine z_istore_n (lv' := [(0, .ref (G.2.2 + o0)), (1, .int (iv r40))]) C dX10_readLine_65 rfl (by decide) [1, 0] rfl ?_
          refine z_goto 143 C dX10_readLine_66 (by decide) ?_
          exact hb143 o0 r40 M41 br40 h
      ·
        have h := (if_neg e14).symm.trans h
        refine z_aload_n C dX10_readLine_40 0 rfl ?_
        obtain ⟨k42, h⟩ := gK_inv h
        obtain ⟨r43, M44, hr43, h⟩ := bnd2 h
        refine y_cVb (st := []) C dX10_readLine_41 mX10_224 k42 (tX10_readTakes hC o0  hr43) rfl rfl (Nat.le_of_ble_eq_true rfl) (by decide) (fun br43 => ?_)
        refine z_istore_n (lv' := [(0, .ref (G.2.2 + o0)), (1, .int (iv r43))]) C dX10_readLine_44 rfl (by decide) [1, 0] rfl ?_
        refine z_goto 143 C dX10_readLine_45 (by decide) ?_
        exact hb143 o0 r43 M44 br43 h
    ·
      have h := (if_neg e11).symm.trans h
      refine z_aload_n C dX10_readLine_24 0 rfl ?_
      obtain ⟨k45, h⟩ := gK_inv h
      obtain ⟨r46, M47, hr46, h⟩ := bnd2 h
      refine y_cVb (st := []) C dX10_readLine_25 mX10_221 k45 (tX10_readMint hC o0  hr46) rfl rfl (Nat.le_of_ble_eq_true rfl) (by decide) (fun br46 => ?_)
      refine z_istore_n (lv' := [(0, .ref (G.2.2 + o0)), (1, .int (iv r46))]) C dX10_readLine_28 rfl (by decide) [1, 0] rfl ?_
      refine z_goto 143 C dX10_readLine_29 (by decide) ?_
      exact hb143 o0 r46 M47 br46 h
  ·
    have h := (if_neg e8).symm.trans h
    refine z_aload_n C dX10_readLine_8 0 rfl ?_
    obtain ⟨k48, h⟩ := gK_inv h
    obtain ⟨r49, M50, hr49, h⟩ := bnd2 h
    refine y_cVb (st := []) C dX10_readLine_9 mX10_218 k48 (tX10_readWho hC o0  hr49) rfl rfl (Nat.le_of_ble_eq_true rfl) (by decide) (fun br49 => ?_)
    refine z_istore_n (lv' := [(0, .ref (G.2.2 + o0)), (1, .int (iv r49))]) C dX10_readLine_12 rfl (by decide) [1, 0] rfl ?_
    refine z_goto 143 C dX10_readLine_13 (by decide) ?_
    exact hb143 o0 r49 M50 br49 h

set_option maxHeartbeats 4000000 in
set_option maxRecDepth 100000 in
theorem tX10_sentence {G : Gx} {σ : State} (hC : Cy G σ) (o0 : Nat) {M0 : Mm}  {R : Int × Mm} (h : uX10_sentence o0 M0 = some R) : Ct G σ (807) yX10_sentence cX10_sentence 2 (some .int) [.ref (G.2.2 + o0)] M0 0 0 (Qi R.1 R.2) := by
  refine Ct.of hC.1 (by decide +kernel) (Nat.le_of_ble_eq_true rfl) ?_
  intro p l e R0 s m args below meth c C
  show Jz G σ p l e R0 s m args below meth c 2 0 0 (Qi R.1 R.2) M0 0 0 0 [(0, .ref (G.2.2 + o0))] []
  have hb106 : ∀ (o0 : Nat) (M : Mm), uX10_sentence_b106 o0 M = some R → Jz G σ p l e R0 s m args below meth c 2 0 0 (Qi R.1 R.2) M 0 0 106 [(0, .ref (G.2.2 + o0))] [] := by
    intro o0 M  h
    unfold uX10_sentence_b106 at h
    refine z_aload_n C dX10_sentence_106 0 rfl ?_
    obtain ⟨x1, hx1, h⟩ := bnd h
    refine y_getI C dX10_sentence_107 fX10_377 rfl hx1 (fun gx1 => ?_)
    exact y_iretB C dX10_sentence_110 h gx1
  have hb77 : ∀ (o0 : Nat) (v1 : Int) (M : Mm), (rg v1) → uX10_sentence_b77 o0 v1 M = some R → Jz G σ p l e R0 s m args below meth c 2 0 0 (Qi R.1 R.2) M 0 0 77 [(0, .ref (G.2.2 + o0)), (1, .int (iv v1))] [] := by
    intro o0 v1 M gv1 h
    unfold uX10_sentence_b77 at h
    obtain ⟨b77, hb77_, hc77⟩ := bnd h
    have hL77 : ∀ (n : Nat) (v1 : Int) (M : Mm), (rg v1) → lp (uX10_sentence_f77 o0) n (v1, M) = some b77 → Jz G σ p l e R0 s m args below meth c 2 0 0 (Qi R.1 R.2) M 0 0 77 [(0, .ref (G.2.2 + o0)), (1, .int (iv v1))] [] := by
      intro n; induction n with
      | zero => intro v1 M gv1 hq; exact (lp_0 hq).elim
      | succ n77 ih77 =>
        intro v1 M gv1 hq
        obtain ⟨z77, h, hZ77⟩ := lp_s hq
        have h : uX10_sentence_s77 o0 v1 M = some z77 := h
        unfold uX10_sentence_s77 at h
        refine z_iload_n C dX10_sentence_77 1 rfl ?_
        refine z_sipush C dX10_sentence_78 (by decide) ?_
        refine z_icmp_ge 106 C dX10_sentence_81 (by decide) gv1 (by decide) (fun e2 => ?_) (fun e2 => ?_)
        ·
          have h := (if_pos e2).symm.trans h
          have h : uX10_sentence_b106 o0 M = some R := lp_ex (K := (uX10_sentence_c77 o0)) h hZ77 hc77
          refine z_drop (lv' := [(0, .ref (G.2.2 + o0))]) [0] rfl ?_
          exact hb106 o0 M  h
        ·
          have h := (if_neg e2).symm.trans h
          refine z_aload_n C dX10_sentence_84 0 rfl ?_
          obtain ⟨on3, hon3, h⟩ := bnd h
          refine y_getR C dX10_sentence_85 fX10_13 rfl hon3 ?_
          refine z_sipush C dX10_sentence_88 (by decide) ?_
          refine z_iload_n C dX10_sentence_91 1 rfl ?_
          refine y_iadd C dX10_sentence_92 ?_
          refine z_aload_n C dX10_sentence_93 0 rfl ?_
          obtain ⟨on4, hon4, h⟩ := bnd h
          refine y_getR C dX10_sentence_94 fX10_80 rfl hon4 ?_
          refine z_iload_n C dX10_sentence_97 1 rfl ?_
          obtain ⟨x5, hx5, h⟩ := bnd h
          refine y_iald C dX10_sentence_98 hx5 (fun gx5 => ?_)
          obtain ⟨M6, hM6, h⟩ := bnd h
          refine y_iast C dX10_sentence_99 hM6 ?_
          refine y_iinc (lv' := [(0, .ref (G.2.2 + o0)), (1, .int (iv (w32 (v1 + 1))))]) C dX10_sentence_100 1 rfl (by decide) [1, 0] rfl ?_
          refine z_goto 77 C dX10_sentence_103 (by decide) ?_
          exact ih77 (w32 (v1 + 1)) M6 (w32_rng _) (lp_back h hZ77)
    exact hL77 _ v1 M gv1 hb77_
  unfold uX10_sentence at h
  refine z_aload_n C dX10_sentence_0 0 rfl ?_
  refine z_sipush C dX10_sentence_1 (by decide) ?_
  obtain ⟨k7, h⟩ := gK_inv h
  obtain ⟨M8, hM8, h⟩ := bnd h
  refine y_cVv (st := []) C dX10_sentence_4 mX10_234 k7 (tX10_begin hC o0 200 (by decide) hM8) rfl rfl (Nat.le_of_ble_eq_true rfl) (by decide) ?_
  refine z_aload_n C dX10_sentence_7 0 rfl ?_
  refine z_iconst C dX10_sentence_8 ?_
  obtain ⟨M9, hM9, h⟩ := bnd h
  refine y_putI C dX10_sentence_9 fX10_362 rfl rfl rfl rfl hM9 ?_
  refine z_aload_n C dX10_sentence_12 0 rfl ?_
  refine z_iconst C dX10_sentence_13 ?_
  obtain ⟨M10, hM10, h⟩ := bnd h
  refine y_putI C dX10_sentence_14 fX10_377 rfl rfl rfl rfl hM10 ?_
  refine z_aload_n C dX10_sentence_17 0 rfl ?_
  refine z_iconst C dX10_sentence_18 ?_
  obtain ⟨M11, hM11, h⟩ := bnd h
  refine y_putI C dX10_sentence_19 fX10_380 rfl rfl rfl rfl hM11 ?_
  refine z_aload_n C dX10_sentence_22 0 rfl ?_
  obtain ⟨k12, h⟩ := gK_inv h
  obtain ⟨r13, M14, hr13, h⟩ := bnd2 h
  refine y_cVb (st := []) C dX10_sentence_23 mX10_395 k12 (tX10_readOr hC _ _ (tX10_readOne hC 12) o0  hr13) rfl rfl (Nat.le_of_ble_eq_true rfl) (by omega) (fun br13 => ?_)
  refine z_if_ne 36 C dX10_sentence_26 (by decide) (rg01 br13) (fun e15 => ?_) (fun e15 => ?_)
  ·
    have h := (if_neg e15).symm.trans h
    refine z_aload_n C dX10_sentence_36 0 rfl ?_
    obtain ⟨x16, hx16, h⟩ := bnd h
    refine y_getI C dX10_sentence_37 fX10_105 rfl hx16 (fun gx16 => ?_)
    refine z_if_eq 56 C dX10_sentence_40 (by decide) gx16 (fun e17 => ?_) (fun e17 => ?_)
    ·
      have h := (if_pos e17).symm.trans h
      refine z_aload_n C dX10_sentence_56 0 rfl ?_
      obtain ⟨on18, hon18, h⟩ := bnd h
      refine y_getR C dX10_sentence_57 fX10_13 rfl hon18 ?_
      refine z_bipush C dX10_sentence_60 (by decide) ?_
      refine z_iconst C dX10_sentence_62 ?_
      obtain ⟨M19, hM19, h⟩ := bnd h
      refine y_iast C dX10_sentence_63 hM19 ?_
      refine z_aload_n C dX10_sentence_64 0 rfl ?_
      obtain ⟨on20, hon20, h⟩ := bnd h
      refine y_getR C dX10_sentence_65 fX10_13 rfl hon20 ?_
      refine z_bipush C dX10_sentence_68 (by decide) ?_
      refine z_aload_n C dX10_sentence_70 0 rfl ?_
      obtain ⟨x21, hx21, h⟩ := bnd h
      refine y_getI C dX10_sentence_71 fX10_368 rfl hx21 (fun gx21 => ?_)
      obtain ⟨M22, hM22, h⟩ := bnd h
      refine y_iast C dX10_sentence_74 hM22 ?_
      refine z_iconst C dX10_sentence_75 ?_
      refine z_istore_n (lv' := [(0, .ref (G.2.2 + o0)), (1, .int (iv 0))]) C dX10_sentence_76 rfl (by decide) [1, 0] rfl ?_
      exact hb77 o0 0 M22 (by decide) h
    ·
      have h := (if_neg e17).symm.trans h
      refine z_aload_n C dX10_sentence_43 0 rfl ?_
      refine z_iconst C dX10_sentence_44 ?_
      obtain ⟨k23, h⟩ := gK_inv h
      obtain ⟨r24, M25, hr24, h⟩ := bnd2 h
      refine y_cVb (st := []) C dX10_sentence_45 mX10_151 k23 (tX10_bad hC o0 1 (by decide) hr24) rfl rfl (Nat.le_of_ble_eq_true rfl) (by decide) (fun br24 => ?_)
      refine z_pop C dX10_sentence_48 rfl ?_
      refine z_iconst C dX10_sentence_49 ?_
      refine z_aload_n C dX10_sentence_50 0 rfl ?_
      obtain ⟨x26, hx26, h⟩ := bnd h
      refine y_getI C dX10_sentence_51 fX10_148 rfl hx26 (fun gx26 => ?_)
      refine y_isub C dX10_sentence_54 ?_
      exact y_iretB C dX10_sentence_55 h (w32_rng _)
  ·
    have h := (if_pos e15).symm.trans h
    refine z_iconst C dX10_sentence_29 ?_
    refine z_aload_n C dX10_sentence_30 0 rfl ?_
    obtain ⟨x27, hx27, h⟩ := bnd h
    refine y_getI C dX10_sentence_31 fX10_148 rfl hx27 (fun gx27 => ?_)
    refine y_isub C dX10_sentence_34 ?_
    exact y_iretB C dX10_sentence_35 h (w32_rng _)

set_option maxHeartbeats 4000000 in
set_option maxRecDepth 100000 in
theorem tX9_law {G : Gx} {σ : State} (hC : Cy G σ) (o0 : Nat) {M0 : Mm}  {R : Int × Mm} (h : uX9_law o0 M0 = some R) : Ct G σ (14) yX9_law cX9_law 1 (some .int) [.ref (G.2.2 + o0)] M0 0 0 (Qi R.1 R.2) := by
  refine Ct.of hC.1 (by decide +kernel) (Nat.le_of_ble_eq_true rfl) ?_
  intro p l e R0 s m args below meth c C
  show Jz G σ p l e R0 s m args below meth c 1 0 0 (Qi R.1 R.2) M0 0 0 0 [(0, .ref (G.2.2 + o0))] []
  unfold uX9_law at h
  refine z_aload_n C dX9_law_0 0 rfl ?_
  obtain ⟨on1, hon1, h⟩ := bnd h
  refine y_getR C dX9_law_1 fX9_10 rfl hon1 ?_
  refine z_sipush C dX9_law_4 (by decide) ?_
  obtain ⟨k2, h⟩ := gK_inv h
  obtain ⟨M3, hM3, h⟩ := bnd h
  refine y_cVv (st := []) C dX9_law_7 mX9_74 k2 (tX7_begin hC on1 700 (by decide) hM3) rfl rfl (Nat.le_of_ble_eq_true rfl) (by decide) ?_
  refine z_aload_n C dX9_law_10 0 rfl ?_
  refine z_aload_n C dX9_law_11 0 rfl ?_
  obtain ⟨on4, hon4, h⟩ := bnd h
  refine y_getR C dX9_law_12 fX9_19 rfl hon4 ?_
  refine z_aload_n C dX9_law_15 0 rfl ?_
  obtain ⟨on5, hon5, h⟩ := bnd h
  refine y_getR C dX9_law_16 fX9_10 rfl hon5 ?_
  obtain ⟨k6, h⟩ := gK_inv h
  obtain ⟨r7, M8, hr7, h⟩ := bnd2 h
  refine y_cVi (st := [.ref (G.2.2 + o0)]) C dX9_law_19 mX9_77 k6 (tX3_readFrom hC on4 on5  hr7) rfl rfl (Nat.le_of_ble_eq_true rfl) (by decide) (fun gr7 => ?_)
  obtain ⟨M9, hM9, h⟩ := bnd h
  refine y_putI C dX9_law_22 fX9_81 rfl rfl rfl rfl hM9 ?_
  refine z_aload_n C dX9_law_25 0 rfl ?_
  obtain ⟨on10, hon10, h⟩ := bnd h
  refine y_getR C dX9_law_26 fX9_10 rfl hon10 ?_
  refine z_iconst C dX9_law_29 ?_
  obtain ⟨M11, hM11, h⟩ := bnd h
  refine y_putI C dX9_law_30 fX9_66 rfl rfl rfl rfl hM11 ?_
  refine z_aload_n C dX9_law_33 0 rfl ?_
  obtain ⟨x12, hx12, h⟩ := bnd h
  refine y_getI C dX9_law_34 fX9_81 rfl hx12 (fun gx12 => ?_)
  refine z_if_eq 50 C dX9_law_37 (by decide) gx12 (fun e13 => ?_) (fun e13 => ?_)
  ·
    have h := (if_pos e13).symm.trans h
    refine z_aload_n C dX9_law_50 0 rfl ?_
    obtain ⟨on14, hon14, h⟩ := bnd h
    refine y_getR C dX9_law_51 fX9_33 rfl hon14 ?_
    refine z_aload_n C dX9_law_54 0 rfl ?_
    obtain ⟨on15, hon15, h⟩ := bnd h
    refine y_getR C dX9_law_55 fX9_19 rfl hon15 ?_
    obtain ⟨k16, h⟩ := gK_inv h
    obtain ⟨M17, hM17, h⟩ := bnd h
    refine y_cVv (st := []) C dX9_law_58 mX9_87 k16 (tX8_enact hC on14 on15  hM17) rfl rfl (Nat.le_of_ble_eq_true rfl) (by decide) ?_
    refine z_aload_n C dX9_law_61 0 rfl ?_
    obtain ⟨on18, hon18, h⟩ := bnd h
    refine y_getR C dX9_law_62 fX9_40 rfl hon18 ?_
    obtain ⟨k19, h⟩ := gK_inv h
    obtain ⟨M20, hM20, h⟩ := bnd h
    refine y_cVv (st := []) C dX9_law_65 mX9_91 k19 (tX2_forget hC on18  hM20) rfl rfl (Nat.le_of_ble_eq_true rfl) (by decide) ?_
    refine z_aload_n C dX9_law_68 0 rfl ?_
    obtain ⟨on21, hon21, h⟩ := bnd h
    refine y_getR C dX9_law_69 fX9_19 rfl hon21 ?_
    obtain ⟨x22, hx22, h⟩ := bnd h
    refine y_getI C dX9_law_72 fX9_94 rfl hx22 (fun gx22 => ?_)
    exact y_iretB C dX9_law_75 h gx22
  ·
    have h := (if_neg e13).symm.trans h
    refine z_iconst C dX9_law_40 ?_
    refine z_aload_n C dX9_law_41 0 rfl ?_
    obtain ⟨on23, hon23, h⟩ := bnd h
    refine y_getR C dX9_law_42 fX9_10 rfl hon23 ?_
    obtain ⟨x24, hx24, h⟩ := bnd h
    refine y_getI C dX9_law_45 fX9_84 rfl hx24 (fun gx24 => ?_)
    refine y_isub C dX9_law_48 ?_
    exact y_iretB C dX9_law_49 h (w32_rng _)

set_option maxHeartbeats 4000000 in
set_option maxRecDepth 100000 in
theorem tX9_market {G : Gx} {σ : State} (hC : Cy G σ) (o0 : Nat) (v1 : Int) (v2 : Int) {M0 : Mm} (gv1 : rg v1) (gv2 : rg v2) {R : Int × Mm} (h : uX9_market o0 v1 v2 M0 = some R) : Ct G σ (213) yX9_market cX9_market 11 (some .int) [.ref (G.2.2 + o0), .int (iv v1), .int (iv v2)] M0 7 895 (Qi R.1 R.2) := by
  refine Ct.of hC.1 (by decide +kernel) (Nat.le_of_ble_eq_true rfl) ?_
  intro p l e R0 s m args below meth c C
  show Jz G σ p l e R0 s m args below meth c 11 7 895 (Qi R.1 R.2) M0 0 0 0 [(0, .ref (G.2.2 + o0)), (1, .int (iv v1)), (2, .int (iv v2))] []
  have hb186 : ∀ (v6 : Int) (M : Mm), (rg v6) → uX9_market_b186 v6 M = some R → Jz G σ p l e R0 s m args below meth c 11 7 895 (Qi R.1 R.2) M 7 895 186 [(6, .int (iv v6))] [] := by
    intro v6 M gv6 h
    unfold uX9_market_b186 at h
    refine z_iload C dX9_market_186 0 rfl ?_
    exact y_iretB C dX9_market_188 h gv6
  have hb70 : ∀ (o0 : Nat) (v1 : Int) (v3 : Int) (v4 : Int) (v5 : Int) (v6 : Int) (v7 : Int) (M : Mm), (rg v1) → (rg v3) → (rg v4) → (rg v5) → (rg v6) → (rg v7) → uX9_market_b70 o0 v1 v3 v4 v5 v6 v7 M = some R → Jz G σ p l e R0 s m args below meth c 11 7 895 (Qi R.1 R.2) M 7 895 70 [(0, .ref (G.2.2 + o0)), (1, .int (iv v1)), (3, .int (iv v3)), (4, .int (iv v4)), (5, .int (iv v5)), (6, .int (iv v6)), (7, .int (iv v7))] [] := by
    intro o0 v1 v3 v4 v5 v6 v7 M gv1 gv3 gv4 gv5 gv6 gv7 h
    unfold uX9_market_b70 at h
    obtain ⟨b70, hb70_, hc70⟩ := bnd h
    have hL70 : ∀ (n : Nat) (v5 : Int) (v6 : Int) (v7 : Int) (M : Mm), (rg v5) → (rg v6) → (rg v7) → lp (uX9_market_f70 o0 v1 v3 v4) n (v5, v6, v7, M) = some b70 → Jz G σ p l e R0 s m args below meth c 11 7 895 (Qi R.1 R.2) M 7 895 70 [(0, .ref (G.2.2 + o0)), (1, .int (iv v1)), (3, .int (iv v3)), (4, .int (iv v4)), (5, .int (iv v5)), (6, .int (iv v6)), (7, .int (iv v7))] [] := by
      intro n; induction n with
      | zero => intro v5 v6 v7 M gv5 gv6 gv7 hq; exact (lp_0 hq).elim
      | succ n70 ih70 =>
        intro v5 v6 v7 M gv5 gv6 gv7 hq
        obtain ⟨z70, h, hZ70⟩ := lp_s hq
        have h : uX9_market_s70 o0 v1 v3 v4 v5 v6 v7 M = some z70 := h
        have hb131 : ∀ (v5 : Int) (v6 : Int) (v7 : Int) (v8 : Int) (v9 : Int) (M : Mm), (rg v5) → (rg v6) → (rg v7) → (rg v8) → (rg v9) → ∀ z70, uX9_market_b131 o0 v1 v3 v4 v5 v6 v7 v8 v9 M = some z70 → lpc (uX9_market_f70 o0 v1 v3 v4) n70 z70 b70 → Jz G σ p l e R0 s m args below meth c 11 7 895 (Qi R.1 R.2) M 7 895 131 [(0, .ref (G.2.2 + o0)), (1, .int (iv v1)), (3, .int (iv v3)), (4, .int (iv v4)), (5, .int (iv v5)), (6, .int (iv v6)), (7, .int (iv v7)), (8, .int (iv v8)), (9, .int (iv v9))] [] := by
          intro v5 v6 v7 v8 v9 M gv5 gv6 gv7 gv8 gv9 z70 h hZ70
          unfold uX9_market_b131 at h
          refine z_iload C dX9_market_131 4 rfl ?_
          obtain ⟨r1, hr1, h⟩ := bnd h
          refine y_cSi (st := []) C dX9_market_133 mX9_349 (tX9_nextSeed hC v5 gv5 hr1) rfl rfl (Nat.le_of_ble_eq_true rfl) (by decide) (fun gr1 => ?_)
          refine z_istore (lv' := [(0, .ref (G.2.2 + o0)), (1, .int (iv v1)), (3, .int (iv v3)), (4, .int (iv v4)), (5, .int (iv r1)), (6, .int (iv v6)), (7, .int (iv v7)), (8, .int (iv v8)), (9, .int (iv v9))]) C dX9_market_136 (by decide) [1, 2, 3, 4, 0, 5, 6, 7, 8] rfl ?_
          refine z_iload C dX9_market_138 4 rfl ?_
          refine z_iload C dX9_market_140 3 rfl ?_
          obtain ⟨r2, hr2, h⟩ := bnd h
          refine y_cSi (st := []) C dX9_market_142 mX9_352 (tX9_drawn hC r1 v4 gr1 gv4 hr2) rfl rfl (Nat.le_of_ble_eq_true rfl) (by decide) (fun gr2 => ?_)
          refine z_istore (lv' := [(0, .ref (G.2.2 + o0)), (1, .int (iv v1)), (3, .int (iv v3)), (4, .int (iv v4)), (5, .int (iv r1)), (6, .int (iv v6)), (7, .int (iv v7)), (8, .int (iv v8)), (9, .int (iv v9)), (10, .int (iv r2))]) C dX9_market_145 (by decide) [1, 2, 3, 4, 5, 6, 7, 8, 9, 0] rfl ?_
          refine z_iload C dX9_market_147 4 rfl ?_
          obtain ⟨r3, hr3, h⟩ := bnd h
          refine y_cSi (st := []) C dX9_market_149 mX9_349 (tX9_nextSeed hC r1 gr1 hr3) rfl rfl (Nat.le_of_ble_eq_true rfl) (by decide) (fun gr3 => ?_)
          refine z_istore (lv' := [(0, .ref (G.2.2 + o0)), (1, .int (iv v1)), (3, .int (iv v3)), (4, .int (iv v4)), (5, .int (iv r3)), (6, .int (iv v6)), (7, .int (iv v7)), (8, .int (iv v8)), (9, .int (iv v9)), (10, .int (iv r2))]) C dX9_market_152 (by decide) [1, 2, 3, 4, 0, 5, 6, 7, 8, 9] rfl ?_
          refine z_aload_n C dX9_market_154 0 rfl ?_
          refine z_iload C dX9_market_155 7 rfl ?_
          refine z_iload C dX9_market_157 8 rfl ?_
          refine z_iload C dX9_market_159 9 rfl ?_
          refine z_iload C dX9_market_161 4 rfl ?_
          refine z_sipush C dX9_market_163 (by decide) ?_
          obtain ⟨r4, hr4, h⟩ := bnd h
          refine y_cSi (st := [.int (iv r2), .int (iv v9), .int (iv v8), .ref (G.2.2 + o0)]) C dX9_market_166 mX9_352 (tX9_drawn hC r3 200 gr3 (by decide) hr4) rfl rfl (Nat.le_of_ble_eq_true rfl) (by decide) (fun gr4 => ?_)
          refine z_iconst C dX9_market_169 ?_
          refine y_iadd C dX9_market_170 ?_
          obtain ⟨k5, h⟩ := gK_inv h
          obtain ⟨r6, M7, hr6, h⟩ := bnd2 h
          refine y_cVb (st := []) C dX9_market_171 mX9_355 k5 (tX9_trade hC o0 v8 v9 r2 (w32 (r4 + 1)) gv8 gv9 gr2 (w32_rng _) hr6) rfl rfl (Nat.le_of_ble_eq_true rfl) (by decide) (fun br6 => ?_)
          refine z_if_eq 180 C dX9_market_174 (by decide) (rg01 br6) (fun e8 => ?_) (fun e8 => ?_)
          ·
            have h := (if_pos e8).symm.trans h
            refine y_iinc (lv' := [(0, .ref (G.2.2 + o0)), (1, .int (iv v1)), (3, .int (iv v3)), (4, .int (iv v4)), (5, .int (iv r3)), (6, .int (iv v6)), (7, .int (iv (w32 (v7 + 1)))), (8, .int (iv v8)), (9, .int (iv v9)), (10, .int (iv r2))]) C dX9_market_180 6 rfl (by decide) [1, 2, 3, 4, 5, 6, 0, 7, 8, 9] rfl ?_
            refine z_goto 70 C dX9_market_183 (by decide) ?_
            refine z_drop (lv' := [(0, .ref (G.2.2 + o0)), (1, .int (iv v1)), (3, .int (iv v3)), (4, .int (iv v4)), (5, .int (iv r3)), (6, .int (iv v6)), (7, .int (iv (w32 (v7 + 1))))]) [0, 1, 2, 3, 4, 5, 6] rfl ?_
            exact ih70 r3 v6 (w32 (v7 + 1)) M7 gr3 gv6 (w32_rng _) (lp_back h hZ70)
          ·
            have h := (if_neg e8).symm.trans h
            refine y_iinc (lv' := [(0, .ref (G.2.2 + o0)), (1, .int (iv v1)), (3, .int (iv v3)), (4, .int (iv v4)), (5, .int (iv r3)), (6, .int (iv (w32 (v6 + 1)))), (7, .int (iv v7)), (8, .int (iv v8)), (9, .int (iv v9)), (10, .int (iv r2))]) C dX9_market_177 5 rfl (by decide) [1, 2, 3, 4, 5, 0, 6, 7, 8, 9] rfl ?_
            refine y_iinc (lv' := [(0, .ref (G.2.2 + o0)), (1, .int (iv v1)), (3, .int (iv v3)), (4, .int (iv v4)), (5, .int (iv r3)), (6, .int (iv (w32 (v6 + 1)))), (7, .int (iv (w32 (v7 + 1)))), (8, .int (iv v8)), (9, .int (iv v9)), (10, .int (iv r2))]) C dX9_market_180 6 rfl (by decide) [1, 2, 3, 4, 5, 6, 0, 7, 8, 9] rfl ?_
            refine z_goto 70 C dX9_market_183 (by decide) ?_
            refine z_drop (lv' := [(0, .ref (G.2.2 + o0)), (1, .int (iv v1)), (3, .int (iv v3)), (4, .int (iv v4)), (5, .int (iv r3)), (6, .int (iv (w32 (v6 + 1)))), (7, .int (iv (w32 (v7 + 1))))]) [0, 1, 2, 3, 4, 5, 6] rfl ?_
            exact ih70 r3 (w32 (v6 + 1)) (w32 (v7 + 1)) M7 gr3 (w32_rng _) (w32_rng _) (lp_back h hZ70)
        have hb129 : ∀ (v5 : Int) (v6 : Int) (v7 : Int) (v8 : Int) (vs0 : Int) (M : Mm), (rg v5) → (rg v6) → (rg v7) → (rg v8) → (rg vs0) → ∀ z70, uX9_market_b129 o0 v1 v3 v4 v5 v6 v7 v8 vs0 M = some z70 → lpc (uX9_market_f70 o0 v1 v3 v4) n70 z70 b70 → Jz G σ p l e R0 s m args below meth c 11 7 895 (Qi R.1 R.2) M 7 895 129 [(0, .ref (G.2.2 + o0)), (1, .int (iv v1)), (3, .int (iv v3)), (4, .int (iv v4)), (5, .int (iv v5)), (6, .int (iv v6)), (7, .int (iv v7)), (8, .int (iv v8))] [.int (iv vs0)] := by
          intro v5 v6 v7 v8 vs0 M gv5 gv6 gv7 gv8 gvs0 z70 h hZ70
          unfold uX9_market_b129 at h
          refine z_istore (lv' := [(0, .ref (G.2.2 + o0)), (1, .int (iv v1)), (3, .int (iv v3)), (4, .int (iv v4)), (5, .int (iv v5)), (6, .int (iv v6)), (7, .int (iv v7)), (8, .int (iv v8)), (9, .int (iv vs0))]) C dX9_market_129 (by decide) [1, 2, 3, 4, 5, 6, 7, 8, 0] rfl ?_
          exact hb131 v5 v6 v7 v8 vs0 M gv5 gv6 gv7 gv8 gvs0 _ h hZ70
        unfold uX9_market_s70 at h
        refine z_iload C dX9_market_70 6 rfl ?_
        refine z_iload_n C dX9_market_72 1 rfl ?_
        refine z_icmp_ge 186 C dX9_market_73 (by decide) gv7 gv1 (fun e9 => ?_) (fun e9 => ?_)
        ·
          have h := (if_pos e9).symm.trans h
          have h : uX9_market_b186 v6 M = some R := lp_ex (K := (uX9_market_c70 o0 v1 v3 v4)) h hZ70 hc70
          refine z_drop (lv' := [(6, .int (iv v6))]) [5] rfl ?_
          exact hb186 v6 M gv6 h
        ·
          have h := (if_neg e9).symm.trans h
          refine z_iload C dX9_market_76 4 rfl ?_
          obtain ⟨r10, hr10, h⟩ := bnd h
          refine y_cSi (st := []) C dX9_market_78 mX9_349 (tX9_nextSeed hC v5 gv5 hr10) rfl rfl (Nat.le_of_ble_eq_true rfl) (by decide) (fun gr10 => ?_)
          refine z_istore (lv' := [(0, .ref (G.2.2 + o0)), (1, .int (iv v1)), (3, .int (iv v3)), (4, .int (iv v4)), (5, .int (iv r10)), (6, .int (iv v6)), (7, .int (iv v7))]) C dX9_market_81 (by decide) [1, 2, 3, 4, 0, 5, 6] rfl ?_
          refine z_iload C dX9_market_83 4 rfl ?_
          refine z_iload_n C dX9_market_85 2 rfl ?_
          obtain ⟨r11, hr11, h⟩ := bnd h
          refine y_cSi (st := []) C dX9_market_86 mX9_352 (tX9_drawn hC r10 v3 gr10 gv3 hr11) rfl rfl (Nat.le_of_ble_eq_true rfl) (by decide) (fun gr11 => ?_)
          refine z_istore (lv' := [(0, .ref (G.2.2 + o0)), (1, .int (iv v1)), (3, .int (iv v3)), (4, .int (iv v4)), (5, .int (iv r10)), (6, .int (iv v6)), (7, .int (iv v7)), (8, .int (iv r11))]) C dX9_market_89 (by decide) [1, 2, 3, 4, 5, 6, 7, 0] rfl ?_
          refine z_iload C dX9_market_91 4 rfl ?_
          obtain ⟨r12, hr12, h⟩ := bnd h
          refine y_cSi (st := []) C dX9_market_93 mX9_349 (tX9_nextSeed hC r10 gr10 hr12) rfl rfl (Nat.le_of_ble_eq_true rfl) (by decide) (fun gr12 => ?_)
          refine z_istore (lv' := [(0, .ref (G.2.2 + o0)), (1, .int (iv v1)), (3, .int (iv v3)), (4, .int (iv v4)), (5, .int (iv r12)), (6, .int (iv v6)), (7, .int (iv v7)), (8, .int (iv r11))]) C dX9_market_96 (by decide) [1, 2, 3, 4, 0, 5, 6, 7] rfl ?_
          refine z_iload C dX9_market_98 4 rfl ?_
          refine z_iload_n C dX9_market_100 2 rfl ?_
          obtain ⟨r13, hr13, h⟩ := bnd h
          refine y_cSi (st := []) C dX9_market_101 mX9_352 (tX9_drawn hC r12 v3 gr12 gv3 hr13) rfl rfl (Nat.le_of_ble_eq_true rfl) (by decide) (fun gr13 => ?_)
          refine z_istore (lv' := [(0, .ref (G.2.2 + o0)), (1, .int (iv v1)), (3, .int (iv v3)), (4, .int (iv v4)), (5, .int (iv r12)), (6, .int (iv v6)), (7, .int (iv v7)), (8, .int (iv r11)), (9, .int (iv r13))]) C dX9_market_104 (by decide) [1, 2, 3, 4, 5, 6, 7, 8, 0] rfl ?_
          refine z_iload C dX9_market_106 8 rfl ?_
          refine z_iload C dX9_market_108 7 rfl ?_
          refine z_icmp_ne 131 C dX9_market_110 (by decide) gr13 gr11 (fun e14 => ?_) (fun e14 => ?_)
          ·
            have h := (if_neg e14).symm.trans h
            exact hb131 r12 v6 v7 r11 r13 M gr12 gv6 gv7 gr11 gr13 _ h hZ70
          ·
            have h := (if_pos e14).symm.trans h
            refine z_iload C dX9_market_113 8 rfl ?_
            refine z_iconst C dX9_market_115 ?_
            refine y_iadd C dX9_market_116 ?_
            refine z_iload_n C dX9_market_117 2 rfl ?_
            refine z_icmp_ge 128 C dX9_market_118 (by decide) (w32_rng _) gv3 (fun e15 => ?_) (fun e15 => ?_)
            ·
              have h := (if_pos e15).symm.trans h
              refine z_iconst C dX9_market_128 ?_
              refine z_drop (lv' := [(0, .ref (G.2.2 + o0)), (1, .int (iv v1)), (3, .int (iv v3)), (4, .int (iv v4)), (5, .int (iv r12)), (6, .int (iv v6)), (7, .int (iv v7)), (8, .int (iv r11))]) [0, 1, 2, 3, 4, 5, 6, 7] rfl ?_
              exact hb129 r12 v6 v7 r11 0 M gr12 gv6 gv7 gr11 (by decide) _ h hZ70
            ·
              have h := (if_neg e15).symm.trans h
              refine z_iload C dX9_market_121 8 rfl ?_
              refine z_iconst C dX9_market_123 ?_
              refine y_iadd C dX9_market_124 ?_
              refine z_goto 129 C dX9_market_125 (by decide) ?_
              refine z_drop (lv' := [(0, .ref (G.2.2 + o0)), (1, .int (iv v1)), (3, .int (iv v3)), (4, .int (iv v4)), (5, .int (iv r12)), (6, .int (iv v6)), (7, .int (iv v7)), (8, .int (iv r11))]) [0, 1, 2, 3, 4, 5, 6, 7] rfl ?_
              exact hb129 r12 v6 v7 r11 (w32 (r13 + 1)) M gr12 gv6 gv7 gr11 (w32_rng _) _ h hZ70
    exact hL70 _ v5 v6 v7 M gv5 gv6 gv7 hb70_
  unfold uX9_market at h
  refine z_aload_n C dX9_market_0 0 rfl ?_
  obtain ⟨on16, hon16, h⟩ := bnd h
  refine y_getR C dX9_market_1 fX9_33 rfl hon16 ?_
  obtain ⟨on17, hon17, h⟩ := bnd h
  refine y_getR C dX9_market_4 fX9_108 rfl hon17 ?_
  obtain ⟨x18, hx18, h⟩ := bnd h
  refine y_getI C dX9_market_7 fX9_345 rfl hx18 (fun gx18 => ?_)
  refine z_istore_n (lv' := [(0, .ref (G.2.2 + o0)), (1, .int (iv v1)), (2, .int (iv v2)), (3, .int (iv x18))]) C dX9_market_10 rfl (by decide) [1, 2, 3, 0] rfl ?_
  refine z_aload_n C dX9_market_11 0 rfl ?_
  obtain ⟨on19, hon19, h⟩ := bnd h
  refine y_getR C dX9_market_12 fX9_33 rfl hon19 ?_
  obtain ⟨on20, hon20, h⟩ := bnd h
  refine y_getR C dX9_market_15 fX9_108 rfl hon20 ?_
  obtain ⟨x21, hx21, h⟩ := bnd h
  refine y_getI C dX9_market_18 fX9_347 rfl hx21 (fun gx21 => ?_)
  refine z_istore (lv' := [(0, .ref (G.2.2 + o0)), (1, .int (iv v1)), (2, .int (iv v2)), (3, .int (iv x18)), (4, .int (iv x21))]) C dX9_market_21 (by decide) [1, 2, 3, 4, 0] rfl ?_
  refine z_iload_n C dX9_market_23 1 rfl ?_
  refine z_iconst C dX9_market_24 ?_
  refine z_icmp_lt 45 C dX9_market_25 (by decide) gv1 (by decide) (fun e22 => ?_) (fun e22 => ?_)
  ·
    have h := (if_pos e22).symm.trans h
    refine z_iconst C dX9_market_45 ?_
    exact y_iretB C dX9_market_46 h (by decide)
  ·
    have h := (if_neg e22).symm.trans h
    refine z_iload_n C dX9_market_28 1 rfl ?_
    refine z_bipush C dX9_market_29 (by decide) ?_
    refine z_icmp_gt 45 C dX9_market_31 (by decide) gv1 (by decide) (fun e23 => ?_) (fun e23 => ?_)
    ·
      have h := (if_pos e23).symm.trans h
      refine z_iconst C dX9_market_45 ?_
      exact y_iretB C dX9_market_46 h (by decide)
    ·
      have h := (if_neg e23).symm.trans h
      refine z_iload_n C dX9_market_34 3 rfl ?_
      refine z_iconst C dX9_market_35 ?_
      refine z_icmp_lt 45 C dX9_market_36 (by decide) gx18 (by decide) (fun e24 => ?_) (fun e24 => ?_)
      ·
        have h := (if_pos e24).symm.trans h
        refine z_iconst C dX9_market_45 ?_
        exact y_iretB C dX9_market_46 h (by decide)
      ·
        have h := (if_neg e24).symm.trans h
        refine z_iload C dX9_market_39 4 rfl ?_
        refine z_iconst C dX9_market_41 ?_
        refine z_icmp_ge 47 C dX9_market_42 (by decide) gx21 (by decide) (fun e25 => ?_) (fun e25 => ?_)
        ·
          have h := (if_pos e25).symm.trans h
          refine z_aload_n C dX9_market_47 0 rfl ?_
          obtain ⟨on26, hon26, h⟩ := bnd h
          refine y_getR C dX9_market_48 fX9_40 rfl hon26 ?_
          refine z_aload_n C dX9_market_51 0 rfl ?_
          obtain ⟨on27, hon27, h⟩ := bnd h
          refine y_getR C dX9_market_52 fX9_33 rfl hon27 ?_
          obtain ⟨on28, hon28, h⟩ := bnd h
          refine y_getR C dX9_market_55 fX9_117 rfl hon28 ?_
          obtain ⟨k29, h⟩ := gK_inv h
          obtain ⟨M30, hM30, h⟩ := bnd h
          refine y_cVva (st := []) C dX9_market_58 mX9_171 k29 (tX2_keep hC on26 on28  hM30) rfl rfl (Nat.le_of_ble_eq_true rfl) (by decide) ?_
          refine z_iload_n C dX9_market_61 2 rfl ?_
          refine z_istore (lv' := [(0, .ref (G.2.2 + o0)), (1, .int (iv v1)), (2, .int (iv v2)), (3, .int (iv x18)), (4, .int (iv x21)), (5, .int (iv v2))]) C dX9_market_62 (by decide) [1, 2, 3, 4, 5, 0] rfl ?_
          refine z_iconst C dX9_market_64 ?_
          refine z_istore (lv' := [(0, .ref (G.2.2 + o0)), (1, .int (iv v1)), (2, .int (iv v2)), (3, .int (iv x18)), (4, .int (iv x21)), (5, .int (iv v2)), (6, .int (iv 0))]) C dX9_market_65 (by decide) [1, 2, 3, 4, 5, 6, 0] rfl ?_
          refine z_iconst C dX9_market_67 ?_
          refine z_istore (lv' := [(0, .ref (G.2.2 + o0)), (1, .int (iv v1)), (2, .int (iv v2)), (3, .int (iv x18)), (4, .int (iv x21)), (5, .int (iv v2)), (6, .int (iv 0)), (7, .int (iv 0))]) C dX9_market_68 (by decide) [1, 2, 3, 4, 5, 6, 7, 0] rfl ?_
          refine z_drop (lv' := [(0, .ref (G.2.2 + o0)), (1, .int (iv v1)), (3, .int (iv x18)), (4, .int (iv x21)), (5, .int (iv v2)), (6, .int (iv 0)), (7, .int (iv 0))]) [0, 1, 3, 4, 5, 6, 7] rfl ?_
          exact hb70 o0 v1 x18 x21 v2 0 0 M30 gv1 gx18 gx21 gv2 (by decide) (by decide) h
        ·
          have h := (if_neg e25).symm.trans h
          refine z_iconst C dX9_market_45 ?_
          exact y_iretB C dX9_market_46 h (by decide)

set_option maxHeartbeats 4000000 in
set_option maxRecDepth 100000 in
theorem tX9_sentence {G : Gx} {σ : State} (hC : Cy G σ) (o0 : Nat) {M0 : Mm}  {R : Int × Mm} (h : uX9_sentence o0 M0 = some R) : Ct G σ (808) yX9_sentence cX9_sentence 1 (some .int) [.ref (G.2.2 + o0)] M0 0 0 (Qi R.1 R.2) := by
  refine Ct.of hC.1 (by decide +kernel) (Nat.le_of_ble_eq_true rfl) ?_
  intro p l e R0 s m args below meth c C
  show Jz G σ p l e R0 s m args below meth c 1 0 0 (Qi R.1 R.2) M0 0 0 0 [(0, .ref (G.2.2 + o0))] []
  unfold uX9_sentence at h
  refine z_aload_n C dX9_sentence_0 0 rfl ?_
  obtain ⟨on1, hon1, h⟩ := bnd h
  refine y_getR C dX9_sentence_1 fX9_10 rfl hon1 ?_
  refine z_sipush C dX9_sentence_4 (by decide) ?_
  obtain ⟨k2, h⟩ := gK_inv h
  obtain ⟨M3, hM3, h⟩ := bnd h
  refine y_cVv (st := []) C dX9_sentence_7 mX9_74 k2 (tX7_begin hC on1 200 (by decide) hM3) rfl rfl (Nat.le_of_ble_eq_true rfl) (by decide) ?_
  refine z_aload_n C dX9_sentence_10 0 rfl ?_
  refine z_aload_n C dX9_sentence_11 0 rfl ?_
  obtain ⟨on4, hon4, h⟩ := bnd h
  refine y_getR C dX9_sentence_12 fX9_26 rfl hon4 ?_
  refine z_aload_n C dX9_sentence_15 0 rfl ?_
  obtain ⟨on5, hon5, h⟩ := bnd h
  refine y_getR C dX9_sentence_16 fX9_10 rfl hon5 ?_
  refine z_aload_n C dX9_sentence_19 0 rfl ?_
  obtain ⟨on6, hon6, h⟩ := bnd h
  refine y_getR C dX9_sentence_20 fX9_33 rfl hon6 ?_
  obtain ⟨on7, hon7, h⟩ := bnd h
  refine y_getR C dX9_sentence_23 fX9_108 rfl hon7 ?_
  obtain ⟨k8, h⟩ := gK_inv h
  obtain ⟨r9, M10, hr9, h⟩ := bnd2 h
  refine y_cVi (st := [.ref (G.2.2 + o0)]) C dX9_sentence_26 mX9_363 k8 (tX5_readFrom hC on4 on5 on7  hr9) rfl rfl (Nat.le_of_ble_eq_true rfl) (by decide) (fun gr9 => ?_)
  obtain ⟨M11, hM11, h⟩ := bnd h
  refine y_putI C dX9_sentence_29 fX9_81 rfl rfl rfl rfl hM11 ?_
  refine z_aload_n C dX9_sentence_32 0 rfl ?_
  obtain ⟨on12, hon12, h⟩ := bnd h
  refine y_getR C dX9_sentence_33 fX9_10 rfl hon12 ?_
  refine z_iconst C dX9_sentence_36 ?_
  obtain ⟨M13, hM13, h⟩ := bnd h
  refine y_putI C dX9_sentence_37 fX9_66 rfl rfl rfl rfl hM13 ?_
  refine z_aload_n C dX9_sentence_40 0 rfl ?_
  obtain ⟨x14, hx14, h⟩ := bnd h
  refine y_getI C dX9_sentence_41 fX9_81 rfl hx14 (fun gx14 => ?_)
  refine z_if_eq 57 C dX9_sentence_44 (by decide) gx14 (fun e15 => ?_) (fun e15 => ?_)
  ·
    have h := (if_pos e15).symm.trans h
    refine z_aload_n C dX9_sentence_57 0 rfl ?_
    obtain ⟨on16, hon16, h⟩ := bnd h
    refine y_getR C dX9_sentence_58 fX9_33 rfl hon16 ?_
    obtain ⟨on17, hon17, h⟩ := bnd h
    refine y_getR C dX9_sentence_61 fX9_366 rfl hon17 ?_
    refine z_aload_n C dX9_sentence_64 0 rfl ?_
    obtain ⟨on18, hon18, h⟩ := bnd h
    refine y_getR C dX9_sentence_65 fX9_26 rfl hon18 ?_
    obtain ⟨k19, h⟩ := gK_inv h
    obtain ⟨M20, hM20, h⟩ := bnd h
    refine y_cVv (st := []) C dX9_sentence_68 mX9_369 k19 (tX5_copyFrom hC on17 on18  hM20) rfl rfl (Nat.le_of_ble_eq_true rfl) (by decide) ?_
    refine z_aload_n C dX9_sentence_71 0 rfl ?_
    obtain ⟨on21, hon21, h⟩ := bnd h
    refine y_getR C dX9_sentence_72 fX9_26 rfl hon21 ?_
    obtain ⟨x22, hx22, h⟩ := bnd h
    refine y_getI C dX9_sentence_75 fX9_373 rfl hx22 (fun gx22 => ?_)
    exact y_iretB C dX9_sentence_78 h gx22
  ·
    have h := (if_neg e15).symm.trans h
    refine z_iconst C dX9_sentence_47 ?_
    refine z_aload_n C dX9_sentence_48 0 rfl ?_
    obtain ⟨on23, hon23, h⟩ := bnd h
    refine y_getR C dX9_sentence_49 fX9_10 rfl hon23 ?_
    obtain ⟨x24, hx24, h⟩ := bnd h
    refine y_getI C dX9_sentence_52 fX9_84 rfl hx24 (fun gx24 => ?_)
    refine y_isub C dX9_sentence_55 ?_
    exact y_iretB C dX9_sentence_56 h (w32_rng _)

set_option maxHeartbeats 4000000 in
set_option maxRecDepth 100000 in
theorem tX9_said {G : Gx} {σ : State} (hC : Cy G σ) (o0 : Nat) (v1 : Int) {M0 : Mm} (gv1 : rg v1) {R : Int} (h : uX9_said o0 v1 M0 = some R) : Ct G σ (7) yX9_said cX9_said 4 (some .int) [.ref (G.2.2 + o0), .int (iv v1)] M0 0 0 (Qi R M0) := by
  refine Ct.of hC.1 (by decide +kernel) (Nat.le_of_ble_eq_true rfl) ?_
  intro p l e R0 s m args below meth c C
  show Jz G σ p l e R0 s m args below meth c 4 0 0 (Qi R M0) M0 0 0 0 [(0, .ref (G.2.2 + o0)), (1, .int (iv v1))] []
  have hb73 : ∀ (v1 : Int) (v2 : Int), (rg v1) → (rg v2) → uX9_said_b73 v1 v2 M0 = some R → Jz G σ p l e R0 s m args below meth c 4 0 0 (Qi R M0) M0 0 0 73 [(1, .int (iv v1)), (2, .int (iv v2))] [] := by
    intro v1 v2  gv1 gv2 h
    unfold uX9_said_b73 at h
    refine z_iload_n C dX9_said_73 0 rfl ?_
    refine z_iconst C dX9_said_74 ?_
    refine z_icmp_ne 82 C dX9_said_75 (by decide) gv1 (by decide) (fun e1 => ?_) (fun e1 => ?_)
    ·
      have h := (if_neg e1).symm.trans h
      refine z_iconst C dX9_said_82 ?_
      exact y_iretP C dX9_said_83 h (by decide)
    ·
      have h := (if_pos e1).symm.trans h
      refine z_iload_n C dX9_said_78 1 rfl ?_
      refine z_goto 83 C dX9_said_79 (by decide) ?_
      exact y_iretP C dX9_said_83 h gv2
  have hb19 : ∀ (o0 : Nat) (v1 : Int) (v2 : Int) (v3 : Int), (rg v1) → (rg v2) → (rg v3) → uX9_said_b19 o0 v1 v2 v3 M0 = some R → Jz G σ p l e R0 s m args below meth c 4 0 0 (Qi R M0) M0 0 0 19 [(0, .ref (G.2.2 + o0)), (1, .int (iv v1)), (2, .int (iv v2)), (3, .int (iv v3))] [] := by
    intro o0 v1 v2 v3  gv1 gv2 gv3 h
    unfold uX9_said_b19 at h
    obtain ⟨b19, hb19_, hc19⟩ := bnd h
    have hL19 : ∀ (n : Nat) (v2 : Int) (v3 : Int), (rg v2) → (rg v3) → lp (uX9_said_f19 o0 v1 M0) n (v2, v3) = some b19 → Jz G σ p l e R0 s m args below meth c 4 0 0 (Qi R M0) M0 0 0 19 [(0, .ref (G.2.2 + o0)), (1, .int (iv v1)), (2, .int (iv v2)), (3, .int (iv v3))] [] := by
      intro n; induction n with
      | zero => intro v2 v3 gv2 gv3 hq; exact (lp_0 hq).elim
      | succ n19 ih19 =>
        intro v2 v3 gv2 gv3 hq
        obtain ⟨z19, h, hZ19⟩ := lp_s hq
        have h : uX9_said_s19 o0 v1 M0 v2 v3 = some z19 := h
        unfold uX9_said_s19 at h
        refine z_iload_n C dX9_said_19 3 rfl ?_
        refine z_aload_n C dX9_said_20 0 rfl ?_
        obtain ⟨on2, hon2, h⟩ := bnd h
        refine y_getR C dX9_said_21 fX9_33 rfl hon2 ?_
        obtain ⟨on3, hon3, h⟩ := bnd h
        refine y_getR C dX9_said_24 fX9_117 rfl hon3 ?_
        obtain ⟨x4, hx4, h⟩ := bnd h
        refine y_getI C dX9_said_27 fX9_164 rfl hx4 (fun gx4 => ?_)
        refine z_icmp_ge 73 C dX9_said_30 (by decide) gv3 gx4 (fun e5 => ?_) (fun e5 => ?_)
        ·
          have h := (if_pos e5).symm.trans h
          have h : uX9_said_b73 v1 v2 M0 = some R := lp_ex (K := (uX9_said_c19 o0 v1 M0)) h hZ19 hc19
          refine z_drop (lv' := [(1, .int (iv v1)), (2, .int (iv v2))]) [1, 2] rfl ?_
          exact hb73 v1 v2  gv1 gv2 h
        ·
          have h := (if_neg e5).symm.trans h
          refine z_iload_n C dX9_said_33 3 rfl ?_
          refine z_bipush C dX9_said_34 (by decide) ?_
          refine z_icmp_ge 73 C dX9_said_36 (by decide) gv3 (by decide) (fun e6 => ?_) (fun e6 => ?_)
          ·
            have h := (if_pos e6).symm.trans h
            have h : uX9_said_b73 v1 v2 M0 = some R := lp_ex (K := (uX9_said_c19 o0 v1 M0)) h hZ19 hc19
            refine z_drop (lv' := [(1, .int (iv v1)), (2, .int (iv v2))]) [1, 2] rfl ?_
            exact hb73 v1 v2  gv1 gv2 h
          ·
            have h := (if_neg e6).symm.trans h
            refine z_aload_n C dX9_said_39 0 rfl ?_
            obtain ⟨on7, hon7, h⟩ := bnd h
            refine y_getR C dX9_said_40 fX9_33 rfl hon7 ?_
            obtain ⟨on8, hon8, h⟩ := bnd h
            refine y_getR C dX9_said_43 fX9_366 rfl hon8 ?_
            refine z_aload_n C dX9_said_46 0 rfl ?_
            obtain ⟨on9, hon9, h⟩ := bnd h
            refine y_getR C dX9_said_47 fX9_33 rfl hon9 ?_
            refine z_iload_n C dX9_said_50 3 rfl ?_
            obtain ⟨k10, h⟩ := gK_inv h
            obtain ⟨r11, hr11, h⟩ := bnd h
            refine y_cVb (st := []) C dX9_said_51 mX9_376 k10 (tX5_holds hC on8 on9 v3 gv3 hr11) rfl rfl (Nat.le_of_ble_eq_true rfl) (by decide) (fun br11 => ?_)
            refine z_if_eq 67 C dX9_said_54 (by decide) (rg01 br11) (fun e12 => ?_) (fun e12 => ?_)
            ·
              have h := (if_pos e12).symm.trans h
              refine y_iinc (lv' := [(0, .ref (G.2.2 + o0)), (1, .int (iv v1)), (2, .int (iv v2)), (3, .int (iv (w32 (v3 + 1))))]) C dX9_said_67 3 rfl (by decide) [1, 2, 3, 0] rfl ?_
              refine z_goto 19 C dX9_said_70 (by decide) ?_
              exact ih19 v2 (w32 (v3 + 1)) gv2 (w32_rng _) (lp_back h hZ19)
            ·
              have h := (if_neg e12).symm.trans h
              refine z_iload_n C dX9_said_57 2 rfl ?_
              refine z_iload_n C dX9_said_58 1 rfl ?_
              refine z_icmp_ne 64 C dX9_said_59 (by decide) gv2 gv1 (fun e13 => ?_) (fun e13 => ?_)
              ·
                have h := (if_neg e13).symm.trans h
                refine y_iinc (lv' := [(0, .ref (G.2.2 + o0)), (1, .int (iv v1)), (2, .int (iv (w32 (v2 + 1)))), (3, .int (iv v3))]) C dX9_said_64 2 rfl (by decide) [1, 2, 0, 3] rfl ?_
                refine y_iinc (lv' := [(0, .ref (G.2.2 + o0)), (1, .int (iv v1)), (2, .int (iv (w32 (v2 + 1)))), (3, .int (iv (w32 (v3 + 1))))]) C dX9_said_67 3 rfl (by decide) [1, 2, 3, 0] rfl ?_
                refine z_goto 19 C dX9_said_70 (by decide) ?_
                exact ih19 (w32 (v2 + 1)) (w32 (v3 + 1)) (w32_rng _) (w32_rng _) (lp_back h hZ19)
              ·
                have h := (if_pos e13).symm.trans h
                refine z_iload_n C dX9_said_62 3 rfl ?_
                have h := lp_ret (K := (uX9_said_c19 o0 v1 M0)) h hZ19 hc19
                exact y_iretP C dX9_said_63 h gv3
    exact hL19 _ v2 v3 gv2 gv3 hb19_
  unfold uX9_said at h
  refine z_aload_n C dX9_said_0 0 rfl ?_
  obtain ⟨on14, hon14, h⟩ := bnd h
  refine y_getR C dX9_said_1 fX9_33 rfl hon14 ?_
  obtain ⟨on15, hon15, h⟩ := bnd h
  refine y_getR C dX9_said_4 fX9_366 rfl hon15 ?_
  obtain ⟨x16, hx16, h⟩ := bnd h
  refine y_getI C dX9_said_7 fX9_373 rfl hx16 (fun gx16 => ?_)
  refine z_if_ne 15 C dX9_said_10 (by decide) gx16 (fun e17 => ?_) (fun e17 => ?_)
  ·
    have h := (if_neg e17).symm.trans h
    refine z_iconst C dX9_said_15 ?_
    refine z_istore_n (lv' := [(0, .ref (G.2.2 + o0)), (1, .int (iv v1)), (2, .int (iv 0))]) C dX9_said_16 rfl (by decide) [1, 2, 0] rfl ?_
    refine z_iconst C dX9_said_17 ?_
    refine z_istore_n (lv' := [(0, .ref (G.2.2 + o0)), (1, .int (iv v1)), (2, .int (iv 0)), (3, .int (iv 0))]) C dX9_said_18 rfl (by decide) [1, 2, 3, 0] rfl ?_
    exact hb19 o0 v1 0 0  gv1 (by decide) (by decide) h
  ·
    have h := (if_pos e17).symm.trans h
    refine z_iconst C dX9_said_13 ?_
    exact y_iretP C dX9_said_14 h (by decide)

set_option maxHeartbeats 4000000 in
set_option maxRecDepth 100000 in
theorem tX10_law {G : Gx} {σ : State} (hC : Cy G σ) (o0 : Nat) {M0 : Mm}  {R : Int × Mm} (h : uX10_law o0 M0 = some R) : Ct G σ (7) yX10_law cX10_law 3 (some .int) [.ref (G.2.2 + o0)] M0 0 0 (Qi R.1 R.2) := by
  refine Ct.of hC.1 (by decide +kernel) (Nat.le_of_ble_eq_true rfl) ?_
  intro p l e R0 s m args below meth c C
  show Jz G σ p l e R0 s m args below meth c 3 0 0 (Qi R.1 R.2) M0 0 0 0 [(0, .ref (G.2.2 + o0))] []
  have hb160 : ∀ (o0 : Nat) (v1 : Int) (M : Mm), (rg v1) → uX10_law_b160 o0 v1 M = some R → Jz G σ p l e R0 s m args below meth c 3 0 0 (Qi R.1 R.2) M 0 0 160 [(0, .ref (G.2.2 + o0)), (1, .int (iv v1))] [] := by
    intro o0 v1 M gv1 h
    unfold uX10_law_b160 at h
    refine z_aload_n C dX10_law_160 0 rfl ?_
    refine z_iconst C dX10_law_161 ?_
    obtain ⟨M1, hM1, h⟩ := bnd h
    refine y_putI C dX10_law_162 fX10_240 rfl rfl rfl rfl hM1 ?_
    refine z_iload_n C dX10_law_165 1 rfl ?_
    exact y_iretB C dX10_law_166 h gv1
  have hb136 : ∀ (o0 : Nat) (v1 : Int) (v2 : Int) (M : Mm), (rg v1) → (rg v2) → uX10_law_b136 o0 v1 v2 M = some R → Jz G σ p l e R0 s m args below meth c 3 0 0 (Qi R.1 R.2) M 0 0 136 [(0, .ref (G.2.2 + o0)), (1, .int (iv v1)), (2, .int (iv v2))] [] := by
    intro o0 v1 v2 M gv1 gv2 h
    unfold uX10_law_b136 at h
    obtain ⟨b136, hb136_, hc136⟩ := bnd h
    have hL136 : ∀ (n : Nat) (v2 : Int) (M : Mm), (rg v2) → lp (uX10_law_f136 o0 v1) n (v2, M) = some b136 → Jz G σ p l e R0 s m args below meth c 3 0 0 (Qi R.1 R.2) M 0 0 136 [(0, .ref (G.2.2 + o0)), (1, .int (iv v1)), (2, .int (iv v2))] [] := by
      intro n; induction n with
      | zero => intro v2 M gv2 hq; exact (lp_0 hq).elim
      | succ n136 ih136 =>
        intro v2 M gv2 hq
        obtain ⟨z136, h, hZ136⟩ := lp_s hq
        have h : uX10_law_s136 o0 v1 v2 M = some z136 := h
        unfold uX10_law_s136 at h
        refine z_iload_n C dX10_law_136 2 rfl ?_
        refine z_bipush C dX10_law_137 (by decide) ?_
        refine z_icmp_ge 160 C dX10_law_139 (by decide) gv2 (by decide) (fun e2 => ?_) (fun e2 => ?_)
        ·
          have h := (if_pos e2).symm.trans h
          have h : uX10_law_b160 o0 v1 M = some R := lp_ex (K := (uX10_law_c136 o0 v1)) h hZ136 hc136
          refine z_drop (lv' := [(0, .ref (G.2.2 + o0)), (1, .int (iv v1))]) [0, 1] rfl ?_
          exact hb160 o0 v1 M gv1 h
        ·
          have h := (if_neg e2).symm.trans h
          refine z_aload_n C dX10_law_142 0 rfl ?_
          obtain ⟨on3, hon3, h⟩ := bnd h
          refine y_getR C dX10_law_143 fX10_26 rfl hon3 ?_
          refine z_iload_n C dX10_law_146 2 rfl ?_
          refine z_aload_n C dX10_law_147 0 rfl ?_
          obtain ⟨on4, hon4, h⟩ := bnd h
          refine y_getR C dX10_law_148 fX10_30 rfl hon4 ?_
          refine z_iload_n C dX10_law_151 2 rfl ?_
          obtain ⟨x5, hx5, h⟩ := bnd h
          refine y_lald C dX10_law_152 hx5 (fun gx5 => ?_)
          obtain ⟨M6, hM6, h⟩ := bnd h
          refine y_last C dX10_law_153 hM6 ?_
          refine y_iinc (lv' := [(0, .ref (G.2.2 + o0)), (1, .int (iv v1)), (2, .int (iv (w32 (v2 + 1))))]) C dX10_law_154 2 rfl (by decide) [1, 2, 0] rfl ?_
          refine z_goto 136 C dX10_law_157 (by decide) ?_
          exact ih136 (w32 (v2 + 1)) M6 (w32_rng _) (lp_back h hZ136)
    exact hL136 _ v2 M gv2 hb136_
  have hb118 : ∀ (o0 : Nat) (v1 : Int) (M : Mm), (rg v1) → uX10_law_b118 o0 v1 M = some R → Jz G σ p l e R0 s m args below meth c 3 0 0 (Qi R.1 R.2) M 0 0 118 [(0, .ref (G.2.2 + o0)), (1, .int (iv v1))] [] := by
    intro o0 v1 M gv1 h
    unfold uX10_law_b118 at h
    refine z_aload_n C dX10_law_118 0 rfl ?_
    obtain ⟨on7, hon7, h⟩ := bnd h
    refine y_getR C dX10_law_119 fX10_13 rfl hon7 ?_
    refine z_bipush C dX10_law_122 (by decide) ?_
    refine z_iconst C dX10_law_124 ?_
    obtain ⟨M8, hM8, h⟩ := bnd h
    refine y_iast C dX10_law_125 hM8 ?_
    refine z_aload_n C dX10_law_126 0 rfl ?_
    obtain ⟨on9, hon9, h⟩ := bnd h
    refine y_getR C dX10_law_127 fX10_13 rfl hon9 ?_
    refine z_bipush C dX10_law_130 (by decide) ?_
    refine z_iconst C dX10_law_132 ?_
    obtain ⟨M10, hM10, h⟩ := bnd h
    refine y_iast C dX10_law_133 hM10 ?_
    refine z_iconst C dX10_law_134 ?_
    refine z_istore_n (lv' := [(0, .ref (G.2.2 + o0)), (1, .int (iv v1)), (2, .int (iv 0))]) C dX10_law_135 rfl (by decide) [1, 2, 0] rfl ?_
    exact hb136 o0 v1 0 M10 gv1 (by decide) h
  have hb99 : ∀ (o0 : Nat) (v1 : Int) (v2 : Int) (M : Mm), (rg v1) → (rg v2) → uX10_law_b99 o0 v1 v2 M = some R → Jz G σ p l e R0 s m args below meth c 3 0 0 (Qi R.1 R.2) M 0 0 99 [(0, .ref (G.2.2 + o0)), (1, .int (iv v1)), (2, .int (iv v2))] [] := by
    intro o0 v1 v2 M gv1 gv2 h
    unfold uX10_law_b99 at h
    obtain ⟨b99, hb99_, hc99⟩ := bnd h
    have hL99 : ∀ (n : Nat) (v2 : Int) (M : Mm), (rg v2) → lp (uX10_law_f99 o0 v1) n (v2, M) = some b99 → Jz G σ p l e R0 s m args below meth c 3 0 0 (Qi R.1 R.2) M 0 0 99 [(0, .ref (G.2.2 + o0)), (1, .int (iv v1)), (2, .int (iv v2))] [] := by
      intro n; induction n with
      | zero => intro v2 M gv2 hq; exact (lp_0 hq).elim
      | succ n99 ih99 =>
        intro v2 M gv2 hq
        obtain ⟨z99, h, hZ99⟩ := lp_s hq
        have h : uX10_law_s99 o0 v1 v2 M = some z99 := h
        unfold uX10_law_s99 at h
        refine z_iload_n C dX10_law_99 2 rfl ?_
        refine z_bipush C dX10_law_100 (by decide) ?_
        refine z_icmp_ge 118 C dX10_law_102 (by decide) gv2 (by decide) (fun e11 => ?_) (fun e11 => ?_)
        ·
          have h := (if_pos e11).symm.trans h
          have h : uX10_law_b118 o0 v1 M = some R := lp_ex (K := (uX10_law_c99 o0 v1)) h hZ99 hc99
          refine z_drop (lv' := [(0, .ref (G.2.2 + o0)), (1, .int (iv v1))]) [0, 1] rfl ?_
          exact hb118 o0 v1 M gv1 h
        ·
          have h := (if_neg e11).symm.trans h
          refine z_aload_n C dX10_law_105 0 rfl ?_
          obtain ⟨on12, hon12, h⟩ := bnd h
          refine y_getR C dX10_law_106 fX10_13 rfl hon12 ?_
          refine z_iload_n C dX10_law_109 2 rfl ?_
          refine z_iconst C dX10_law_110 ?_
          obtain ⟨M13, hM13, h⟩ := bnd h
          refine y_iast C dX10_law_111 hM13 ?_
          refine y_iinc (lv' := [(0, .ref (G.2.2 + o0)), (1, .int (iv v1)), (2, .int (iv (w32 (v2 + 1))))]) C dX10_law_112 2 rfl (by decide) [1, 2, 0] rfl ?_
          refine z_goto 99 C dX10_law_115 (by decide) ?_
          exact ih99 (w32 (v2 + 1)) M13 (w32_rng _) (lp_back h hZ99)
    exact hL99 _ v2 M gv2 hb99_
  have hb96 : ∀ (o0 : Nat) (v1 : Int) (M : Mm), (rg v1) → uX10_law_b96 o0 v1 M = some R → Jz G σ p l e R0 s m args below meth c 3 0 0 (Qi R.1 R.2) M 0 0 96 [(0, .ref (G.2.2 + o0)), (1, .int (iv v1))] [] := by
    intro o0 v1 M gv1 h
    unfold uX10_law_b96 at h
    refine z_bipush C dX10_law_96 (by decide) ?_
    refine z_istore_n (lv' := [(0, .ref (G.2.2 + o0)), (1, .int (iv v1)), (2, .int (iv 108))]) C dX10_law_98 rfl (by decide) [1, 2, 0] rfl ?_
    exact hb99 o0 v1 108 M gv1 (by decide) h
  have hb72 : ∀ (o0 : Nat) (v1 : Int) (v2 : Int) (M : Mm), (rg v1) → (rg v2) → uX10_law_b72 o0 v1 v2 M = some R → Jz G σ p l e R0 s m args below meth c 3 0 0 (Qi R.1 R.2) M 0 0 72 [(0, .ref (G.2.2 + o0)), (1, .int (iv v1)), (2, .int (iv v2))] [] := by
    intro o0 v1 v2 M gv1 gv2 h
    unfold uX10_law_b72 at h
    obtain ⟨b72, hb72_, hc72⟩ := bnd h
    have hL72 : ∀ (n : Nat) (v2 : Int) (M : Mm), (rg v2) → lp (uX10_law_f72 o0 v1) n (v2, M) = some b72 → Jz G σ p l e R0 s m args below meth c 3 0 0 (Qi R.1 R.2) M 0 0 72 [(0, .ref (G.2.2 + o0)), (1, .int (iv v1)), (2, .int (iv v2))] [] := by
      intro n; induction n with
      | zero => intro v2 M gv2 hq; exact (lp_0 hq).elim
      | succ n72 ih72 =>
        intro v2 M gv2 hq
        obtain ⟨z72, h, hZ72⟩ := lp_s hq
        have h : uX10_law_s72 o0 v1 v2 M = some z72 := h
        unfold uX10_law_s72 at h
        refine z_iload_n C dX10_law_72 2 rfl ?_
        refine z_bipush C dX10_law_73 (by decide) ?_
        refine z_icmp_ge 96 C dX10_law_75 (by decide) gv2 (by decide) (fun e14 => ?_) (fun e14 => ?_)
        ·
          have h := (if_pos e14).symm.trans h
          have h : uX10_law_b96 o0 v1 M = some R := lp_ex (K := (uX10_law_c72 o0 v1)) h hZ72 hc72
          refine z_drop (lv' := [(0, .ref (G.2.2 + o0)), (1, .int (iv v1))]) [0, 1] rfl ?_
          exact hb96 o0 v1 M gv1 h
        ·
          have h := (if_neg e14).symm.trans h
          refine z_aload_n C dX10_law_78 0 rfl ?_
          obtain ⟨on15, hon15, h⟩ := bnd h
          refine y_getR C dX10_law_79 fX10_13 rfl hon15 ?_
          refine z_iload_n C dX10_law_82 2 rfl ?_
          refine z_aload_n C dX10_law_83 0 rfl ?_
          obtain ⟨on16, hon16, h⟩ := bnd h
          refine y_getR C dX10_law_84 fX10_16 rfl hon16 ?_
          refine z_iload_n C dX10_law_87 2 rfl ?_
          obtain ⟨x17, hx17, h⟩ := bnd h
          refine y_iald C dX10_law_88 hx17 (fun gx17 => ?_)
          obtain ⟨M18, hM18, h⟩ := bnd h
          refine y_iast C dX10_law_89 hM18 ?_
          refine y_iinc (lv' := [(0, .ref (G.2.2 + o0)), (1, .int (iv v1)), (2, .int (iv (w32 (v2 + 1))))]) C dX10_law_90 2 rfl (by decide) [1, 2, 0] rfl ?_
          refine z_goto 72 C dX10_law_93 (by decide) ?_
          exact ih72 (w32 (v2 + 1)) M18 (w32_rng _) (lp_back h hZ72)
    exact hL72 _ v2 M gv2 hb72_
  have hb70 : ∀ (o0 : Nat) (v1 : Int) (M : Mm), (rg v1) → uX10_law_b70 o0 v1 M = some R → Jz G σ p l e R0 s m args below meth c 3 0 0 (Qi R.1 R.2) M 0 0 70 [(0, .ref (G.2.2 + o0)), (1, .int (iv v1))] [] := by
    intro o0 v1 M gv1 h
    unfold uX10_law_b70 at h
    refine z_iconst C dX10_law_70 ?_
    refine z_istore_n (lv' := [(0, .ref (G.2.2 + o0)), (1, .int (iv v1)), (2, .int (iv 0))]) C dX10_law_71 rfl (by decide) [1, 2, 0] rfl ?_
    exact hb72 o0 v1 0 M gv1 (by decide) h
  have hb43 : ∀ (o0 : Nat) (v1 : Int) (M : Mm), (rg v1) → uX10_law_b43 o0 v1 M = some R → Jz G σ p l e R0 s m args below meth c 3 0 0 (Qi R.1 R.2) M 0 0 43 [(0, .ref (G.2.2 + o0)), (1, .int (iv v1))] [] := by
    intro o0 v1 M gv1 h
    unfold uX10_law_b43 at h
    obtain ⟨b43, hb43_, hc43⟩ := bnd h
    have hL43 : ∀ (n : Nat) (v1 : Int) (M : Mm), (rg v1) → lp (uX10_law_f43 o0) n (v1, M) = some b43 → Jz G σ p l e R0 s m args below meth c 3 0 0 (Qi R.1 R.2) M 0 0 43 [(0, .ref (G.2.2 + o0)), (1, .int (iv v1))] [] := by
      intro n; induction n with
      | zero => intro v1 M gv1 hq; exact (lp_0 hq).elim
      | succ n43 ih43 =>
        intro v1 M gv1 hq
        obtain ⟨z43, h, hZ43⟩ := lp_s hq
        have h : uX10_law_s43 o0 v1 M = some z43 := h
        unfold uX10_law_s43 at h
        refine z_aload_n C dX10_law_43 0 rfl ?_
        obtain ⟨x19, hx19, h⟩ := bnd h
        refine y_getI C dX10_law_44 fX10_105 rfl hx19 (fun gx19 => ?_)
        refine z_if_eq 70 C dX10_law_47 (by decide) gx19 (fun e20 => ?_) (fun e20 => ?_)
        ·
          have h := (if_pos e20).symm.trans h
          have h : uX10_law_b70 o0 v1 M = some R := lp_ex (K := (uX10_law_c43 o0)) h hZ43 hc43
          exact hb70 o0 v1 M gv1 h
        ·
          have h := (if_neg e20).symm.trans h
          refine z_aload_n C dX10_law_50 0 rfl ?_
          obtain ⟨k21, h⟩ := gK_inv h
          obtain ⟨r22, M23, hr22, h⟩ := bnd2 h
          refine y_cVb (st := []) C dX10_law_51 mX10_237 k21 (tX10_readLine hC o0  hr22) rfl rfl (Nat.le_of_ble_eq_true rfl) (by decide) (fun br22 => ?_)
          refine z_if_ne 64 C dX10_law_54 (by decide) (rg01 br22) (fun e24 => ?_) (fun e24 => ?_)
          ·
            have h := (if_neg e24).symm.trans h
            refine y_iinc (lv' := [(0, .ref (G.2.2 + o0)), (1, .int (iv (w32 (v1 + 1))))]) C dX10_law_64 1 rfl (by decide) [1, 0] rfl ?_
            refine z_goto 43 C dX10_law_67 (by decide) ?_
            exact ih43 (w32 (v1 + 1)) M23 (w32_rng _) (lp_back h hZ43)
          ·
            have h := (if_pos e24).symm.trans h
            refine z_iconst C dX10_law_57 ?_
            refine z_aload_n C dX10_law_58 0 rfl ?_
            obtain ⟨x25, hx25, h⟩ := bnd h
            refine y_getI C dX10_law_59 fX10_148 rfl hx25 (fun gx25 => ?_)
            refine y_isub C dX10_law_62 ?_
            have h := lp_ret (K := (uX10_law_c43 o0)) h hZ43 hc43
            exact y_iretB C dX10_law_63 h (w32_rng _)
    exact hL43 _ v1 M gv1 hb43_
  have hb28 : ∀ (o0 : Nat) (M : Mm), uX10_law_b28 o0 M = some R → Jz G σ p l e R0 s m args below meth c 3 0 0 (Qi R.1 R.2) M 0 0 28 [(0, .ref (G.2.2 + o0))] [] := by
    intro o0 M  h
    unfold uX10_law_b28 at h
    refine z_aload_n C dX10_law_28 0 rfl ?_
    refine z_aload_n C dX10_law_29 0 rfl ?_
    obtain ⟨on26, hon26, h⟩ := bnd h
    refine y_getR C dX10_law_30 fX10_16 rfl hon26 ?_
    obtain ⟨k27, h⟩ := gK_inv h
    obtain ⟨M28, hM28, h⟩ := bnd h
    refine y_cVv (st := []) C dX10_law_33 mX10_178 k27 (tX10_plain hC o0 on26  hM28) rfl rfl (Nat.le_of_ble_eq_true rfl) (by decide) ?_
    refine z_aload_n C dX10_law_36 0 rfl ?_
    refine z_iconst C dX10_law_37 ?_
    obtain ⟨M29, hM29, h⟩ := bnd h
    refine y_putI C dX10_law_38 fX10_212 rfl rfl rfl rfl hM29 ?_
    refine z_iconst C dX10_law_41 ?_
    refine z_istore_n (lv' := [(0, .ref (G.2.2 + o0)), (1, .int (iv 0))]) C dX10_law_42 rfl (by decide) [1, 0] rfl ?_
    exact hb43 o0 0 M29 (by decide) h
  have hb9 : ∀ (o0 : Nat) (v1 : Int) (M : Mm), (rg v1) → uX10_law_b9 o0 v1 M = some R → Jz G σ p l e R0 s m args below meth c 3 0 0 (Qi R.1 R.2) M 0 0 9 [(0, .ref (G.2.2 + o0)), (1, .int (iv v1))] [] := by
    intro o0 v1 M gv1 h
    unfold uX10_law_b9 at h
    obtain ⟨b9, hb9_, hc9⟩ := bnd h
    have hL9 : ∀ (n : Nat) (v1 : Int) (M : Mm), (rg v1) → lp (uX10_law_f9 o0) n (v1, M) = some b9 → Jz G σ p l e R0 s m args below meth c 3 0 0 (Qi R.1 R.2) M 0 0 9 [(0, .ref (G.2.2 + o0)), (1, .int (iv v1))] [] := by
      intro n; induction n with
      | zero => intro v1 M gv1 hq; exact (lp_0 hq).elim
      | succ n9 ih9 =>
        intro v1 M gv1 hq
        obtain ⟨z9, h, hZ9⟩ := lp_s hq
        have h : uX10_law_s9 o0 v1 M = some z9 := h
        unfold uX10_law_s9 at h
        refine z_iload_n C dX10_law_9 1 rfl ?_
        refine z_bipush C dX10_law_10 (by decide) ?_
        refine z_icmp_ge 28 C dX10_law_12 (by decide) gv1 (by decide) (fun e30 => ?_) (fun e30 => ?_)
        ·
          have h := (if_pos e30).symm.trans h
          have h : uX10_law_b28 o0 M = some R := lp_ex (K := (uX10_law_c9 o0)) h hZ9 hc9
          refine z_drop (lv' := [(0, .ref (G.2.2 + o0))]) [0] rfl ?_
          exact hb28 o0 M  h
        ·
          have h := (if_neg e30).symm.trans h
          refine z_aload_n C dX10_law_15 0 rfl ?_
          obtain ⟨on31, hon31, h⟩ := bnd h
          refine y_getR C dX10_law_16 fX10_16 rfl hon31 ?_
          refine z_iload_n C dX10_law_19 1 rfl ?_
          refine z_iconst C dX10_law_20 ?_
          obtain ⟨M32, hM32, h⟩ := bnd h
          refine y_iast C dX10_law_21 hM32 ?_
          refine y_iinc (lv' := [(0, .ref (G.2.2 + o0)), (1, .int (iv (w32 (v1 + 1))))]) C dX10_law_22 1 rfl (by decide) [1, 0] rfl ?_
          refine z_goto 9 C dX10_law_25 (by decide) ?_
          exact ih9 (w32 (v1 + 1)) M32 (w32_rng _) (lp_back h hZ9)
    exact hL9 _ v1 M gv1 hb9_
  unfold uX10_law at h
  refine z_aload_n C dX10_law_0 0 rfl ?_
  refine z_sipush C dX10_law_1 (by decide) ?_
  obtain ⟨k33, h⟩ := gK_inv h
  obtain ⟨M34, hM34, h⟩ := bnd h
  refine y_cVv (st := []) C dX10_law_4 mX10_234 k33 (tX10_begin hC o0 700 (by decide) hM34) rfl rfl (Nat.le_of_ble_eq_true rfl) (by decide) ?_
  refine z_iconst C dX10_law_7 ?_
  refine z_istore_n (lv' := [(0, .ref (G.2.2 + o0)), (1, .int (iv 0))]) C dX10_law_8 rfl (by decide) [1, 0] rfl ?_
  exact hb9 o0 0 M34 (by decide) h
