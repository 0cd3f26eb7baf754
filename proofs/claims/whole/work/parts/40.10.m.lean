set_option maxHeartbeats 4000000 in
set_option maxRecDepth 100000 in
theorem tX8_init {G : Gx} {σ : State} (hC : Cy G σ) (o0 : Nat) {M0 : Mm}  {R : Mm} (h : uX8_init o0 M0 = some R) : Ct G σ (4) yX8_init cX8_init 1 none [.ref (G.2.2 + o0)] M0 24 9141 (Qv R) := by
  refine Ct.of hC.1 (by decide +kernel) (Nat.le_of_ble_eq_true rfl) ?_
  intro p l e R0 s m args below meth c C
  show Jz G σ p l e R0 s m args below meth c 1 24 9141 (Qv R) M0 0 0 0 [(0, .ref (G.2.2 + o0))] []
  unfold uX8_init at h
  refine z_aload_n C dX8_init_0 0 rfl ?_
  refine z_objInit C dX8_init_1 (gt_1 (i := 172) (by decide +kernel) (by decide +kernel)) oi_in oi_co (by decide) (Nat.le_of_ble_eq_true rfl) ?_
  refine z_aload_n C dX8_init_4 0 rfl ?_
  refine y_new C dX8_init_5 clX3 defX3 nX8_9 ins_X3 ini_X3 (by omega) (by omega) ?_
  refine z_dup C dX8_init_8 rfl ?_
  obtain ⟨M1, hM1, h⟩ := bnd h
  refine y_cIva (st := [.ref (G.2.2 + M0.1.1), .ref (G.2.2 + o0)]) C dX8_init_9 mX8_11 (tX3_init hC M0.1.1  hM1) rfl rfl (Nat.le_of_ble_eq_true rfl) (by decide) ?_
  obtain ⟨M2, hM2, h⟩ := bnd h
  refine y_putFR C dX8_init_12 clX8 (by decide) fX8_12_l rfl rfl rfl rfl rfl rfl hM2 ?_
  refine z_aload_n C dX8_init_15 0 rfl ?_
  refine y_new C dX8_init_16 clX1 defX1 nX8_18 ins_X1 ini_X1 (by omega) (by omega) ?_
  refine z_dup C dX8_init_19 rfl ?_
  obtain ⟨M3, hM3, h⟩ := bnd h
  refine y_cIva (st := [.ref (G.2.2 + M2.1.1), .ref (G.2.2 + o0)]) C dX8_init_20 mX8_20 (tX1_init hC M2.1.1  hM3) rfl rfl (Nat.le_of_ble_eq_true rfl) (by decide) ?_
  obtain ⟨M4, hM4, h⟩ := bnd h
  refine y_putFR C dX8_init_23 clX8 (by decide) fX8_21_l rfl rfl rfl rfl rfl rfl hM4 ?_
  refine z_aload_n C dX8_init_26 0 rfl ?_
  refine y_new C dX8_init_27 clX6 defX6 nX8_25 ins_X6 ini_X6 (by omega) (by omega) ?_
  refine z_dup C dX8_init_30 rfl ?_
  refine z_sipush C dX8_init_31 (by decide) ?_
  refine z_bipush C dX8_init_34 (by decide) ?_
  obtain ⟨M5, hM5, h⟩ := bnd h
  refine y_cIva (st := [.ref (G.2.2 + M4.1.1), .ref (G.2.2 + o0)]) C dX8_init_36 mX8_27 (tX6_init hC M4.1.1 500 6 (by decide) (by decide) hM5) rfl rfl (Nat.le_of_ble_eq_true rfl) (by decide) ?_
  obtain ⟨M6, hM6, h⟩ := bnd h
  refine y_putFR C dX8_init_39 clX8 (by decide) fX8_30_l rfl rfl rfl rfl rfl rfl hM6 ?_
  refine z_aload_n C dX8_init_42 0 rfl ?_
  refine y_new C dX8_init_43 clX6 defX6 nX8_25 ins_X6 ini_X6 (by omega) (by omega) ?_
  refine z_dup C dX8_init_46 rfl ?_
  refine z_sipush C dX8_init_47 (by decide) ?_
  refine z_bipush C dX8_init_50 (by decide) ?_
  obtain ⟨M7, hM7, h⟩ := bnd h
  refine y_cIva (st := [.ref (G.2.2 + M6.1.1), .ref (G.2.2 + o0)]) C dX8_init_52 mX8_27 (tX6_init hC M6.1.1 500 7 (by decide) (by decide) hM7) rfl rfl (Nat.le_of_ble_eq_true rfl) (by decide) ?_
  obtain ⟨M8, hM8, h⟩ := bnd h
  refine y_putFR C dX8_init_55 clX8 (by decide) fX8_34_l rfl rfl rfl rfl rfl rfl hM8 ?_
  refine z_aload_n C dX8_init_58 0 rfl ?_
  refine y_new C dX8_init_59 clX5 defX5 nX8_37 ins_X5 ini_X5 (by omega) (by omega) ?_
  refine z_dup C dX8_init_62 rfl ?_
  obtain ⟨M9, hM9, h⟩ := bnd h
  refine y_cIva (st := [.ref (G.2.2 + M8.1.1), .ref (G.2.2 + o0)]) C dX8_init_63 mX8_39 (tX5_init hC M8.1.1  hM9) rfl rfl (Nat.le_of_ble_eq_true rfl) (by decide) ?_
  obtain ⟨M10, hM10, h⟩ := bnd h
  refine y_putFR C dX8_init_66 clX8 (by decide) fX8_40_l rfl rfl rfl rfl rfl rfl hM10 ?_
  exact y_retV C dX8_init_69 h

set_option maxHeartbeats 4000000 in
set_option maxRecDepth 100000 in
theorem tX8_showsWho {G : Gx} {σ : State} (hC : Cy G σ) (o0 : Nat) (v1 : Int) (v2 : Int) {M0 : Mm} (gv1 : rg v1) (gv2 : rg v2) {R : Int} (h : uX8_showsWho o0 v1 v2 M0 = some R) : Ct G σ (4) yX8_showsWho cX8_showsWho 4 (some .boolean) [.ref (G.2.2 + o0), .int (iv v1), .int (iv v2)] M0 0 0 (Qb R M0) := by
  refine Ct.of hC.1 (by decide +kernel) (Nat.le_of_ble_eq_true rfl) ?_
  intro p l e R0 s m args below meth c C
  show Jz G σ p l e R0 s m args below meth c 4 0 0 (Qb R M0) M0 0 0 0 [(0, .ref (G.2.2 + o0)), (1, .int (iv v1)), (2, .int (iv v2))] []
  have hb39 : uX8_showsWho_b39 M0 = some R → Jz G σ p l e R0 s m args below meth c 4 0 0 (Qb R M0) M0 0 0 39 [] [] := by
    intro    h
    unfold uX8_showsWho_b39 at h
    refine z_iconst C dX8_showsWho_39 ?_
    exact y_zretP C dX8_showsWho_40 h (by decide)
  have hb2 : ∀ (o0 : Nat) (v1 : Int) (v2 : Int) (v3 : Int), (rg v1) → (rg v2) → (rg v3) → uX8_showsWho_b2 o0 v1 v2 v3 M0 = some R → Jz G σ p l e R0 s m args below meth c 4 0 0 (Qb R M0) M0 0 0 2 [(0, .ref (G.2.2 + o0)), (1, .int (iv v1)), (2, .int (iv v2)), (3, .int (iv v3))] [] := by
    intro o0 v1 v2 v3  gv1 gv2 gv3 h
    unfold uX8_showsWho_b2 at h
    obtain ⟨b2, hb2_, hc2⟩ := bnd h
    have hL2 : ∀ (n : Nat) (v3 : Int), (rg v3) → lp (uX8_showsWho_f2 o0 v1 v2 M0) n v3 = some b2 → Jz G σ p l e R0 s m args below meth c 4 0 0 (Qb R M0) M0 0 0 2 [(0, .ref (G.2.2 + o0)), (1, .int (iv v1)), (2, .int (iv v2)), (3, .int (iv v3))] [] := by
      intro n; induction n with
      | zero => intro v3 gv3 hq; exact (lp_0 hq).elim
      | succ n2 ih2 =>
        intro v3 gv3 hq
        obtain ⟨z2, h, hZ2⟩ := lp_s hq
        have h : uX8_showsWho_s2 o0 v1 v2 M0 v3 = some z2 := h
        unfold uX8_showsWho_s2 at h
        refine z_iload_n C dX8_showsWho_2 3 rfl ?_
        refine z_bipush C dX8_showsWho_3 (by decide) ?_
        refine z_icmp_ge 39 C dX8_showsWho_5 (by decide) gv3 (by decide) (fun e1 => ?_) (fun e1 => ?_)
        ·
          have h := (if_pos e1).symm.trans h
          have h : uX8_showsWho_b39 M0 = some R := lp_ex (K := (uX8_showsWho_c2 o0 v1 v2 M0)) h hZ2 hc2
          refine z_drop (lv' := []) [] rfl ?_
          exact hb39    h
        ·
          have h := (if_neg e1).symm.trans h
          refine z_aload_n C dX8_showsWho_8 0 rfl ?_
          obtain ⟨on2, hon2, h⟩ := bnd h
          refine y_getR C dX8_showsWho_9 fX8_21 rfl hon2 ?_
          refine z_iload_n C dX8_showsWho_12 1 rfl ?_
          refine z_iload_n C dX8_showsWho_13 3 rfl ?_
          obtain ⟨k3, h⟩ := gK_inv h
          obtain ⟨r4, hr4, h⟩ := bnd h
          refine y_cVi (st := []) C dX8_showsWho_14 mX8_96 k3 (tX1_strokeAt hC on2 v1 v3 gv1 gv3 hr4) rfl rfl (Nat.le_of_ble_eq_true rfl) (by decide) (fun gr4 => ?_)
          refine z_iconst C dX8_showsWho_17 ?_
          refine z_icmp_eq 39 C dX8_showsWho_18 (by decide) gr4 (by decide) (fun e5 => ?_) (fun e5 => ?_)
          ·
            have h := (if_pos e5).symm.trans h
            have h : uX8_showsWho_b39 M0 = some R := lp_ex (K := (uX8_showsWho_c2 o0 v1 v2 M0)) h hZ2 hc2
            refine z_drop (lv' := []) [] rfl ?_
            exact hb39    h
          ·
            have h := (if_neg e5).symm.trans h
            refine z_aload_n C dX8_showsWho_21 0 rfl ?_
            refine z_iload_n C dX8_showsWho_22 1 rfl ?_
            refine z_iload_n C dX8_showsWho_23 3 rfl ?_
            obtain ⟨k6, h⟩ := gK_inv h
            obtain ⟨r7, hr7, h⟩ := bnd h
            refine y_cVi (st := []) C dX8_showsWho_24 mX8_99 k6 (tX8_whoShown hC o0 v1 v3 gv1 gv3 hr7) rfl rfl (Nat.le_of_ble_eq_true rfl) (by decide) (fun gr7 => ?_)
            refine z_iload_n C dX8_showsWho_27 2 rfl ?_
            refine z_icmp_ne 33 C dX8_showsWho_28 (by decide) gr7 gv2 (fun e8 => ?_) (fun e8 => ?_)
            ·
              have h := (if_neg e8).symm.trans h
              refine y_iinc (lv' := [(0, .ref (G.2.2 + o0)), (1, .int (iv v1)), (2, .int (iv v2)), (3, .int (iv (w32 (v3 + 1))))]) C dX8_showsWho_33 3 rfl (by decide) [1, 2, 3, 0] rfl ?_
              refine z_goto 2 C dX8_showsWho_36 (by decide) ?_
              exact ih2 (w32 (v3 + 1)) (w32_rng _) (lp_back h hZ2)
            ·
              have h := (if_pos e8).symm.trans h
              refine z_iconst C dX8_showsWho_31 ?_
              have h := lp_ret (K := (uX8_showsWho_c2 o0 v1 v2 M0)) h hZ2 hc2
              exact y_zretP C dX8_showsWho_32 h (by decide)
    exact hL2 _ v3 gv3 hb2_
  unfold uX8_showsWho at h
  refine z_iconst C dX8_showsWho_0 ?_
  refine z_istore_n (lv' := [(0, .ref (G.2.2 + o0)), (1, .int (iv v1)), (2, .int (iv v2)), (3, .int (iv 0))]) C dX8_showsWho_1 rfl (by decide) [1, 2, 3, 0] rfl ?_
  exact hb2 o0 v1 v2 0  gv1 gv2 (by decide) h

set_option maxHeartbeats 4000000 in
set_option maxRecDepth 100000 in
theorem tX8_handOver {G : Gx} {σ : State} (hC : Cy G σ) (o0 : Nat) (v1 : Int) (v2 : Int) (v3 : Int) (v4 : Int) {M0 : Mm} (gv1 : rg v1) (gv2 : rg v2) (gv3 : rg v3) (gv4 : rg v4) {R : Mm} (h : uX8_handOver o0 v1 v2 v3 v4 M0 = some R) : Ct G σ (4) yX8_handOver cX8_handOver 5 none [.ref (G.2.2 + o0), .int (iv v1), .int (iv v2), .int (iv v3), .int (iv v4)] M0 0 0 (Qv R) := by
  refine Ct.of hC.1 (by decide +kernel) (Nat.le_of_ble_eq_true rfl) ?_
  intro p l e R0 s m args below meth c C
  show Jz G σ p l e R0 s m args below meth c 5 0 0 (Qv R) M0 0 0 0 [(0, .ref (G.2.2 + o0)), (1, .int (iv v1)), (2, .int (iv v2)), (3, .int (iv v3)), (4, .int (iv v4))] []
  unfold uX8_handOver at h
  refine z_aload_n C dX8_handOver_0 0 rfl ?_
  refine z_iload_n C dX8_handOver_1 1 rfl ?_
  obtain ⟨k1, h⟩ := gK_inv h
  obtain ⟨r2, hr2, h⟩ := bnd h
  refine y_cVb (st := []) C dX8_handOver_2 mX8_85 k1 (tX8_isCoin hC o0 v1 gv1 hr2) rfl rfl (Nat.le_of_ble_eq_true rfl) (by decide) (fun br2 => ?_)
  refine z_if_ne 9 C dX8_handOver_5 (by decide) (rg01 br2) (fun e3 => ?_) (fun e3 => ?_)
  ·
    have h := (if_neg e3).symm.trans h
    refine z_aload_n C dX8_handOver_9 0 rfl ?_
    refine z_iload_n C dX8_handOver_10 1 rfl ?_
    refine z_iload_n C dX8_handOver_11 2 rfl ?_
    refine z_iload_n C dX8_handOver_12 3 rfl ?_
    refine z_iload C dX8_handOver_13 4 rfl ?_
    refine z_iconst C dX8_handOver_15 ?_
    obtain ⟨k4, h⟩ := gK_inv h
    obtain ⟨M5, hM5, h⟩ := bnd h
    refine y_cVv (st := []) C dX8_handOver_16 mX8_157 k4 (tX8_strike hC o0 v1 v2 v3 v4 0 gv1 gv2 gv3 gv4 (by decide) hM5) rfl rfl (Nat.le_of_ble_eq_true rfl) (by decide) ?_
    refine z_aload_n C dX8_handOver_19 0 rfl ?_
    obtain ⟨on6, hon6, h⟩ := bnd h
    refine y_getR C dX8_handOver_20 fX8_21 rfl hon6 ?_
    obtain ⟨on7, hon7, h⟩ := bnd h
    refine y_getR C dX8_handOver_23 fX8_161 rfl hon7 ?_
    refine z_iload_n C dX8_handOver_26 1 rfl ?_
    refine z_iload_n C dX8_handOver_27 2 rfl ?_
    obtain ⟨M8, hM8, h⟩ := bnd h
    refine y_iast C dX8_handOver_28 hM8 ?_
    exact y_retV C dX8_handOver_29 h
  ·
    have h := (if_pos e3).symm.trans h
    exact y_retV C dX8_handOver_8 h

set_option maxHeartbeats 4000000 in
set_option maxRecDepth 100000 in
theorem tX9_face {G : Gx} {σ : State} (hC : Cy G σ) (o0 : Nat) (v1 : Int) (v2 : Int) (v3 : Int) {M0 : Mm} (gv1 : rg v1) (gv2 : rg v2) (gv3 : rg v3) {R : Int} (h : uX9_face o0 v1 v2 v3 M0 = some R) : Ct G σ (4) yX9_face cX9_face 4 (some .int) [.ref (G.2.2 + o0), .int (iv v1), .int (iv v2), .int (iv v3)] M0 0 0 (Qi R M0) := by
  refine Ct.of hC.1 (by decide +kernel) (Nat.le_of_ble_eq_true rfl) ?_
  intro p l e R0 s m args below meth c C
  show Jz G σ p l e R0 s m args below meth c 4 0 0 (Qi R M0) M0 0 0 0 [(0, .ref (G.2.2 + o0)), (1, .int (iv v1)), (2, .int (iv v2)), (3, .int (iv v3))] []
  unfold uX9_face at h
  refine z_aload_n C dX9_face_0 0 rfl ?_
  obtain ⟨on1, hon1, h⟩ := bnd h
  refine y_getR C dX9_face_1 fX9_33 rfl hon1 ?_
  refine z_iload_n C dX9_face_4 1 rfl ?_
  obtain ⟨k2, h⟩ := gK_inv h
  obtain ⟨r3, hr3, h⟩ := bnd h
  refine y_cVb (st := []) C dX9_face_5 mX9_183 k2 (tX8_isCoin hC on1 v1 gv1 hr3) rfl rfl (Nat.le_of_ble_eq_true rfl) (by decide) (fun br3 => ?_)
  refine z_if_eq 31 C dX9_face_8 (by decide) (rg01 br3) (fun e4 => ?_) (fun e4 => ?_)
  ·
    have h := (if_pos e4).symm.trans h
    refine z_iconst C dX9_face_31 ?_
    exact y_iretP C dX9_face_32 h (by decide)
  ·
    have h := (if_neg e4).symm.trans h
    refine z_iload_n C dX9_face_11 2 rfl ?_
    refine z_if_lt 31 C dX9_face_12 (by decide) gv2 (fun e5 => ?_) (fun e5 => ?_)
    ·
      have h := (if_pos e5).symm.trans h
      refine z_iconst C dX9_face_31 ?_
      exact y_iretP C dX9_face_32 h (by decide)
    ·
      have h := (if_neg e5).symm.trans h
      refine z_iload_n C dX9_face_15 2 rfl ?_
      refine z_aload_n C dX9_face_16 0 rfl ?_
      obtain ⟨on6, hon6, h⟩ := bnd h
      refine y_getR C dX9_face_17 fX9_33 rfl hon6 ?_
      obtain ⟨on7, hon7, h⟩ := bnd h
      refine y_getR C dX9_face_20 fX9_117 rfl hon7 ?_
      obtain ⟨on8, hon8, h⟩ := bnd h
      refine y_getR C dX9_face_23 fX9_194 rfl hon8 ?_
      refine z_iload_n C dX9_face_26 1 rfl ?_
      obtain ⟨x9, hx9, h⟩ := bnd h
      refine y_iald C dX9_face_27 hx9 (fun gx9 => ?_)
      refine z_icmp_lt 33 C dX9_face_28 (by decide) gv2 gx9 (fun e10 => ?_) (fun e10 => ?_)
      ·
        have h := (if_pos e10).symm.trans h
        refine z_iload_n C dX9_face_33 3 rfl ?_
        by_cases e11 : v3 = 0
        ·
          have h := (if_pos e11).symm.trans h
          refine z_tableIn (off := 26) 60 C dX9_face_34 gv3 (by omega) (by omega) (by rw [e11]; rfl) (by decide) ?_
          refine z_aload_n C dX9_face_60 0 rfl ?_
          obtain ⟨on12, hon12, h⟩ := bnd h
          refine y_getR C dX9_face_61 fX9_33 rfl hon12 ?_
          refine z_iload_n C dX9_face_64 1 rfl ?_
          refine z_iload_n C dX9_face_65 2 rfl ?_
          obtain ⟨k13, h⟩ := gK_inv h
          obtain ⟨r14, hr14, h⟩ := bnd h
          refine y_cVi (st := []) C dX9_face_66 mX9_205 k13 (tX8_whoShown hC on12 v1 v2 gv1 gv2 hr14) rfl rfl (Nat.le_of_ble_eq_true rfl) (by decide) (fun gr14 => ?_)
          exact y_iretP C dX9_face_69 h gr14
        have h := (if_neg e11).symm.trans h
        by_cases e15 : v3 = 1
        ·
          have h := (if_pos e15).symm.trans h
          refine z_tableIn (off := 36) 70 C dX9_face_34 gv3 (by omega) (by omega) (by rw [e15]; rfl) (by decide) ?_
          refine z_aload_n C dX9_face_70 0 rfl ?_
          obtain ⟨on16, hon16, h⟩ := bnd h
          refine y_getR C dX9_face_71 fX9_33 rfl hon16 ?_
          obtain ⟨on17, hon17, h⟩ := bnd h
          refine y_getR C dX9_face_74 fX9_117 rfl hon17 ?_
          refine z_iload_n C dX9_face_77 1 rfl ?_
          refine z_iload_n C dX9_face_78 2 rfl ?_
          obtain ⟨k18, h⟩ := gK_inv h
          obtain ⟨r19, hr19, h⟩ := bnd h
          refine y_cVi (st := []) C dX9_face_79 mX9_208 k18 (tX1_depthAt hC on17 v1 v2 gv1 gv2 hr19) rfl rfl (Nat.le_of_ble_eq_true rfl) (by decide) (fun gr19 => ?_)
          exact y_iretP C dX9_face_82 h gr19
        have h := (if_neg e15).symm.trans h
        by_cases e20 : v3 = 2
        ·
          have h := (if_pos e20).symm.trans h
          refine z_tableIn (off := 49) 83 C dX9_face_34 gv3 (by omega) (by omega) (by rw [e20]; rfl) (by decide) ?_
          refine z_aload_n C dX9_face_83 0 rfl ?_
          obtain ⟨on21, hon21, h⟩ := bnd h
          refine y_getR C dX9_face_84 fX9_33 rfl hon21 ?_
          obtain ⟨on22, hon22, h⟩ := bnd h
          refine y_getR C dX9_face_87 fX9_117 rfl hon22 ?_
          refine z_iload_n C dX9_face_90 1 rfl ?_
          refine z_iload_n C dX9_face_91 2 rfl ?_
          obtain ⟨k23, h⟩ := gK_inv h
          obtain ⟨r24, hr24, h⟩ := bnd h
          refine y_cVi (st := []) C dX9_face_92 mX9_211 k23 (tX1_strokeAt hC on22 v1 v2 gv1 gv2 hr24) rfl rfl (Nat.le_of_ble_eq_true rfl) (by decide) (fun gr24 => ?_)
          exact y_iretP C dX9_face_95 h gr24
        have h := (if_neg e20).symm.trans h
        refine z_tableOut 96 C dX9_face_34 gv3 (by omega) (by decide) ?_
        refine z_iconst C dX9_face_96 ?_
        exact y_iretP C dX9_face_97 h (by decide)
      ·
        have h := (if_neg e10).symm.trans h
        refine z_iconst C dX9_face_31 ?_
        exact y_iretP C dX9_face_32 h (by decide)

set_option maxHeartbeats 4000000 in
set_option maxRecDepth 100000 in
theorem tX9_value {G : Gx} {σ : State} (hC : Cy G σ) (o0 : Nat) (v1 : Int) (v2 : Int) (v3 : Int) {M0 : Mm} (gv1 : rg v1) (gv2 : rg v2) (gv3 : rg v3) {R : Int} (h : uX9_value o0 v1 v2 v3 M0 = some R) : Ct G σ (4) yX9_value cX9_value 4 (some .int) [.ref (G.2.2 + o0), .int (iv v1), .int (iv v2), .int (iv v3)] M0 0 0 (Qi R M0) := by
  refine Ct.of hC.1 (by decide +kernel) (Nat.le_of_ble_eq_true rfl) ?_
  intro p l e R0 s m args below meth c C
  show Jz G σ p l e R0 s m args below meth c 4 0 0 (Qi R M0) M0 0 0 0 [(0, .ref (G.2.2 + o0)), (1, .int (iv v1)), (2, .int (iv v2)), (3, .int (iv v3))] []
  unfold uX9_value at h
  refine z_aload_n C dX9_value_0 0 rfl ?_
  obtain ⟨on1, hon1, h⟩ := bnd h
  refine y_getR C dX9_value_1 fX9_33 rfl hon1 ?_
  refine z_iload_n C dX9_value_4 1 rfl ?_
  obtain ⟨k2, h⟩ := gK_inv h
  obtain ⟨r3, hr3, h⟩ := bnd h
  refine y_cVb (st := []) C dX9_value_5 mX9_97 k2 (tX8_isWho hC on1 v1 gv1 hr3) rfl rfl (Nat.le_of_ble_eq_true rfl) (by decide) (fun br3 => ?_)
  refine z_if_eq 22 C dX9_value_8 (by decide) (rg01 br3) (fun e4 => ?_) (fun e4 => ?_)
  ·
    have h := (if_pos e4).symm.trans h
    refine z_iconst C dX9_value_22 ?_
    exact y_iretP C dX9_value_23 h (by decide)
  ·
    have h := (if_neg e4).symm.trans h
    refine z_aload_n C dX9_value_11 0 rfl ?_
    obtain ⟨on5, hon5, h⟩ := bnd h
    refine y_getR C dX9_value_12 fX9_33 rfl hon5 ?_
    refine z_iload_n C dX9_value_15 2 rfl ?_
    obtain ⟨k6, h⟩ := gK_inv h
    obtain ⟨r7, hr7, h⟩ := bnd h
    refine y_cVb (st := []) C dX9_value_16 mX9_183 k6 (tX8_isCoin hC on5 v2 gv2 hr7) rfl rfl (Nat.le_of_ble_eq_true rfl) (by decide) (fun br7 => ?_)
    refine z_if_ne 24 C dX9_value_19 (by decide) (rg01 br7) (fun e8 => ?_) (fun e8 => ?_)
    ·
      have h := (if_neg e8).symm.trans h
      refine z_iload_n C dX9_value_24 3 rfl ?_
      by_cases e9 : v3 = 0
      ·
        have h := (if_pos e9).symm.trans h
        refine z_lookup (off := 27) 52 C dX9_value_25 gv3 (by decide) (by rw [e9]; rfl) (by decide) ?_
        refine z_aload_n C dX9_value_52 0 rfl ?_
        obtain ⟨on10, hon10, h⟩ := bnd h
        refine y_getR C dX9_value_53 fX9_33 rfl hon10 ?_
        refine z_iload_n C dX9_value_56 1 rfl ?_
        refine z_aload_n C dX9_value_57 0 rfl ?_
        obtain ⟨on11, hon11, h⟩ := bnd h
        refine y_getR C dX9_value_58 fX9_33 rfl hon11 ?_
        refine z_iload_n C dX9_value_61 2 rfl ?_
        obtain ⟨k12, h⟩ := gK_inv h
        obtain ⟨r13, hr13, h⟩ := bnd h
        refine y_cVi (st := [.int (iv v1), .ref (G.2.2 + on10)]) C dX9_value_62 mX9_214 k12 (tX8_whoOnTop hC on11 v2 gv2 hr13) rfl rfl (Nat.le_of_ble_eq_true rfl) (by decide) (fun gr13 => ?_)
        refine z_aload_n C dX9_value_65 0 rfl ?_
        obtain ⟨on14, hon14, h⟩ := bnd h
        refine y_getR C dX9_value_66 fX9_33 rfl hon14 ?_
        obtain ⟨k15, h⟩ := gK_inv h
        obtain ⟨r16, hr16, h⟩ := bnd h
        refine y_cVi (st := [.int (iv r13), .int (iv v1), .ref (G.2.2 + on10)]) C dX9_value_69 mX9_217 k15 (tX8_luckNow hC on14  hr16) rfl rfl (Nat.le_of_ble_eq_true rfl) (by decide) (fun gr16 => ?_)
        obtain ⟨k17, h⟩ := gK_inv h
        obtain ⟨r18, hr18, h⟩ := bnd h
        refine y_cVi (st := []) C dX9_value_72 mX9_220 k17 (tX8_hundredths hC on10 v1 r13 r16 gv1 gr13 gr16 hr18) rfl rfl (Nat.le_of_ble_eq_true rfl) (by decide) (fun gr18 => ?_)
        exact y_iretP C dX9_value_75 h gr18
      have h := (if_neg e9).symm.trans h
      by_cases e19 : v3 = 1
      ·
        have h := (if_pos e19).symm.trans h
        refine z_lookup (off := 51) 76 C dX9_value_25 gv3 (by decide) (by rw [e19]; rfl) (by decide) ?_
        refine z_aload_n C dX9_value_76 0 rfl ?_
        obtain ⟨on20, hon20, h⟩ := bnd h
        refine y_getR C dX9_value_77 fX9_33 rfl hon20 ?_
        refine z_iload_n C dX9_value_80 1 rfl ?_
        refine z_iload_n C dX9_value_81 2 rfl ?_
        refine z_aload_n C dX9_value_82 0 rfl ?_
        obtain ⟨on21, hon21, h⟩ := bnd h
        refine y_getR C dX9_value_83 fX9_33 rfl hon21 ?_
        obtain ⟨k22, h⟩ := gK_inv h
        obtain ⟨r23, hr23, h⟩ := bnd h
        refine y_cVi (st := [.int (iv v2), .int (iv v1), .ref (G.2.2 + on20)]) C dX9_value_86 mX9_217 k22 (tX8_luckNow hC on21  hr23) rfl rfl (Nat.le_of_ble_eq_true rfl) (by decide) (fun gr23 => ?_)
        obtain ⟨k24, h⟩ := gK_inv h
        obtain ⟨r25, hr25, h⟩ := bnd h
        refine y_cVi (st := []) C dX9_value_89 mX9_223 k24 (tX8_worth hC on20 v1 v2 r23 gv1 gv2 gr23 hr25) rfl rfl (Nat.le_of_ble_eq_true rfl) (by decide) (fun gr25 => ?_)
        exact y_iretP C dX9_value_92 h gr25
      have h := (if_neg e19).symm.trans h
      refine z_lookup (off := 68) 93 C dX9_value_25 gv3 (by decide) (by show Op.lookupswitch.offset [(0, 27), (1, 51)] _ _ = _; rw [Op.lookupswitch.offset_cons, if_neg (fun q => e9 q.symm), Op.lookupswitch.offset_cons, if_neg (fun q => e19 q.symm), Op.lookupswitch.offset_nil]) (by decide) ?_
      refine z_iconst C dX9_value_93 ?_
      exact y_iretP C dX9_value_94 h (by decide)
    ·
      have h := (if_pos e8).symm.trans h
      refine z_iconst C dX9_value_22 ?_
      exact y_iretP C dX9_value_23 h (by decide)

set_option maxHeartbeats 4000000 in
set_option maxRecDepth 100000 in
theorem tX9_luck {G : Gx} {σ : State} (hC : Cy G σ) (o0 : Nat) {M0 : Mm}  {R : Int} (h : uX9_luck o0 M0 = some R) : Ct G σ (4) yX9_luck cX9_luck 1 (some .int) [.ref (G.2.2 + o0)] M0 0 0 (Qi R M0) := by
  refine Ct.of hC.1 (by decide +kernel) (Nat.le_of_ble_eq_true rfl) ?_
  intro p l e R0 s m args below meth c C
  show Jz G σ p l e R0 s m args below meth c 1 0 0 (Qi R M0) M0 0 0 0 [(0, .ref (G.2.2 + o0))] []
  unfold uX9_luck at h
  refine z_aload_n C dX9_luck_0 0 rfl ?_
  obtain ⟨on1, hon1, h⟩ := bnd h
  refine y_getR C dX9_luck_1 fX9_33 rfl hon1 ?_
  obtain ⟨k2, h⟩ := gK_inv h
  obtain ⟨r3, hr3, h⟩ := bnd h
  refine y_cVi (st := []) C dX9_luck_4 mX9_217 k2 (tX8_luckNow hC on1  hr3) rfl rfl (Nat.le_of_ble_eq_true rfl) (by decide) (fun gr3 => ?_)
  exact y_iretP C dX9_luck_7 h gr3

set_option maxHeartbeats 4000000 in
set_option maxRecDepth 100000 in
theorem tX9_coinWrong {G : Gx} {σ : State} (hC : Cy G σ) (o0 : Nat) (v1 : Int) (v2 : Int) (v3 : Int) (v4 : Int) (v5 : Int) {M0 : Mm} (gv1 : rg v1) (gv2 : rg v2) (gv3 : rg v3) (gv4 : rg v4) (gv5 : rg v5) {R : Int} (h : uX9_coinWrong o0 v1 v2 v3 v4 v5 M0 = some R) : Ct G σ (4) yX9_coinWrong cX9_coinWrong 6 (some .int) [.ref (G.2.2 + o0), .int (iv v1), .int (iv v2), .int (iv v3), .int (iv v4), .int (iv v5)] M0 0 0 (Qi R M0) := by
  refine Ct.of hC.1 (by decide +kernel) (Nat.le_of_ble_eq_true rfl) ?_
  intro p l e R0 s m args below meth c C
  show Jz G σ p l e R0 s m args below meth c 6 0 0 (Qi R M0) M0 0 0 0 [(0, .ref (G.2.2 + o0)), (1, .int (iv v1)), (2, .int (iv v2)), (3, .int (iv v3)), (4, .int (iv v4)), (5, .int (iv v5))] []
  unfold uX9_coinWrong at h
  refine z_aload_n C dX9_coinWrong_0 0 rfl ?_
  obtain ⟨on1, hon1, h⟩ := bnd h
  refine y_getR C dX9_coinWrong_1 fX9_33 rfl hon1 ?_
  refine z_iload C dX9_coinWrong_4 4 rfl ?_
  obtain ⟨k2, h⟩ := gK_inv h
  obtain ⟨r3, hr3, h⟩ := bnd h
  refine y_cVb (st := []) C dX9_coinWrong_6 mX9_183 k2 (tX8_isCoin hC on1 v4 gv4 hr3) rfl rfl (Nat.le_of_ble_eq_true rfl) (by decide) (fun br3 => ?_)
  refine z_if_eq 29 C dX9_coinWrong_9 (by decide) (rg01 br3) (fun e4 => ?_) (fun e4 => ?_)
  ·
    have h := (if_pos e4).symm.trans h
    refine z_iconst C dX9_coinWrong_29 ?_
    exact y_iretP C dX9_coinWrong_30 h (by decide)
  ·
    have h := (if_neg e4).symm.trans h
    refine z_aload_n C dX9_coinWrong_12 0 rfl ?_
    obtain ⟨on5, hon5, h⟩ := bnd h
    refine y_getR C dX9_coinWrong_13 fX9_33 rfl hon5 ?_
    obtain ⟨on6, hon6, h⟩ := bnd h
    refine y_getR C dX9_coinWrong_16 fX9_117 rfl hon6 ?_
    obtain ⟨on7, hon7, h⟩ := bnd h
    refine y_getR C dX9_coinWrong_19 fX9_191 rfl hon7 ?_
    refine z_iload C dX9_coinWrong_22 4 rfl ?_
    obtain ⟨x8, hx8, h⟩ := bnd h
    refine y_iald C dX9_coinWrong_24 hx8 (fun gx8 => ?_)
    refine z_iload_n C dX9_coinWrong_25 1 rfl ?_
    refine z_icmp_eq 31 C dX9_coinWrong_26 (by decide) gx8 gv1 (fun e9 => ?_) (fun e9 => ?_)
    ·
      have h := (if_pos e9).symm.trans h
      refine z_aload_n C dX9_coinWrong_31 0 rfl ?_
      obtain ⟨on10, hon10, h⟩ := bnd h
      refine y_getR C dX9_coinWrong_32 fX9_33 rfl hon10 ?_
      refine z_iload_n C dX9_coinWrong_35 2 rfl ?_
      refine z_iload C dX9_coinWrong_36 4 rfl ?_
      refine z_iload C dX9_coinWrong_38 5 rfl ?_
      obtain ⟨k11, h⟩ := gK_inv h
      obtain ⟨r12, hr12, h⟩ := bnd h
      refine y_cVi (st := []) C dX9_coinWrong_40 mX9_223 k11 (tX8_worth hC on10 v2 v4 v5 gv2 gv4 gv5 hr12) rfl rfl (Nat.le_of_ble_eq_true rfl) (by decide) (fun gr12 => ?_)
      refine z_if_ne 48 C dX9_coinWrong_43 (by decide) gr12 (fun e13 => ?_) (fun e13 => ?_)
      ·
        have h := (if_neg e13).symm.trans h
        refine z_aload_n C dX9_coinWrong_48 0 rfl ?_
        obtain ⟨on14, hon14, h⟩ := bnd h
        refine y_getR C dX9_coinWrong_49 fX9_33 rfl hon14 ?_
        refine z_aload_n C dX9_coinWrong_52 0 rfl ?_
        obtain ⟨on15, hon15, h⟩ := bnd h
        refine y_getR C dX9_coinWrong_53 fX9_33 rfl hon15 ?_
        obtain ⟨on16, hon16, h⟩ := bnd h
        refine y_getR C dX9_coinWrong_56 fX9_117 rfl hon16 ?_
        obtain ⟨on17, hon17, h⟩ := bnd h
        refine y_getR C dX9_coinWrong_59 fX9_188 rfl hon17 ?_
        refine z_iload C dX9_coinWrong_62 4 rfl ?_
        obtain ⟨x18, hx18, h⟩ := bnd h
        refine y_iald C dX9_coinWrong_64 hx18 (fun gx18 => ?_)
        refine z_aload_n C dX9_coinWrong_65 0 rfl ?_
        obtain ⟨on19, hon19, h⟩ := bnd h
        refine y_getR C dX9_coinWrong_66 fX9_33 rfl hon19 ?_
        obtain ⟨on20, hon20, h⟩ := bnd h
        refine y_getR C dX9_coinWrong_69 fX9_117 rfl hon20 ?_
        obtain ⟨on21, hon21, h⟩ := bnd h
        refine y_getR C dX9_coinWrong_72 fX9_197 rfl hon21 ?_
        refine z_iload C dX9_coinWrong_75 4 rfl ?_
        obtain ⟨x22, hx22, h⟩ := bnd h
        refine y_iald C dX9_coinWrong_77 hx22 (fun gx22 => ?_)
        refine z_iload_n C dX9_coinWrong_78 3 rfl ?_
        obtain ⟨k23, h⟩ := gK_inv h
        obtain ⟨r24, hr24, h⟩ := bnd h
        refine y_cVi (st := []) C dX9_coinWrong_79 mX9_160 k23 (tX8_obstacle hC on14 x18 x22 v3 gx18 gx22 gv3 hr24) rfl rfl (Nat.le_of_ble_eq_true rfl) (by decide) (fun gr24 => ?_)
        exact y_iretP C dX9_coinWrong_82 h gr24
      ·
        have h := (if_pos e13).symm.trans h
        refine z_iconst C dX9_coinWrong_46 ?_
        exact y_iretP C dX9_coinWrong_47 h (by decide)
    ·
      have h := (if_neg e9).symm.trans h
      refine z_iconst C dX9_coinWrong_29 ?_
      exact y_iretP C dX9_coinWrong_30 h (by decide)

set_option maxHeartbeats 4000000 in
set_option maxRecDepth 100000 in
theorem tX9_payable {G : Gx} {σ : State} (hC : Cy G σ) (o0 : Nat) (v1 : Int) (v2 : Int) (v3 : Int) (v4 : Int) {M0 : Mm} (gv1 : rg v1) (gv2 : rg v2) (gv3 : rg v3) (gv4 : rg v4) {R : Int} (h : uX9_payable o0 v1 v2 v3 v4 M0 = some R) : Ct G σ (4) yX9_payable cX9_payable 5 (some .boolean) [.ref (G.2.2 + o0), .int (iv v1), .int (iv v2), .int (iv v3), .int (iv v4)] M0 0 0 (Qb R M0) := by
  refine Ct.of hC.1 (by decide +kernel) (Nat.le_of_ble_eq_true rfl) ?_
  intro p l e R0 s m args below meth c C
  show Jz G σ p l e R0 s m args below meth c 5 0 0 (Qb R M0) M0 0 0 0 [(0, .ref (G.2.2 + o0)), (1, .int (iv v1)), (2, .int (iv v2)), (3, .int (iv v3)), (4, .int (iv v4))] []
  unfold uX9_payable at h
  refine z_aload_n C dX9_payable_0 0 rfl ?_
  obtain ⟨on1, hon1, h⟩ := bnd h
  refine y_getR C dX9_payable_1 fX9_33 rfl hon1 ?_
  refine z_iload_n C dX9_payable_4 1 rfl ?_
  refine z_iload_n C dX9_payable_5 2 rfl ?_
  obtain ⟨k2, h⟩ := gK_inv h
  obtain ⟨r3, hr3, h⟩ := bnd h
  refine y_cVb (st := []) C dX9_payable_6 mX9_229 k2 (tX8_canTrade hC on1 v1 v2 gv1 gv2 hr3) rfl rfl (Nat.le_of_ble_eq_true rfl) (by decide) (fun br3 => ?_)
  refine z_if_eq 41 C dX9_payable_9 (by decide) (rg01 br3) (fun e4 => ?_) (fun e4 => ?_)
  ·
    have h := (if_pos e4).symm.trans h
    refine z_iconst C dX9_payable_41 ?_
    exact y_zretP C dX9_payable_42 h (by decide)
  ·
    have h := (if_neg e4).symm.trans h
    refine z_aload_n C dX9_payable_12 0 rfl ?_
    obtain ⟨on5, hon5, h⟩ := bnd h
    refine y_getR C dX9_payable_13 fX9_33 rfl hon5 ?_
    refine z_iload_n C dX9_payable_16 3 rfl ?_
    obtain ⟨k6, h⟩ := gK_inv h
    obtain ⟨r7, hr7, h⟩ := bnd h
    refine y_cVb (st := []) C dX9_payable_17 mX9_138 k6 (tX8_isMint hC on5 v3 gv3 hr7) rfl rfl (Nat.le_of_ble_eq_true rfl) (by decide) (fun br7 => ?_)
    refine z_if_eq 41 C dX9_payable_20 (by decide) (rg01 br7) (fun e8 => ?_) (fun e8 => ?_)
    ·
      have h := (if_pos e8).symm.trans h
      refine z_iconst C dX9_payable_41 ?_
      exact y_zretP C dX9_payable_42 h (by decide)
    ·
      have h := (if_neg e8).symm.trans h
      refine z_iload C dX9_payable_23 4 rfl ?_
      refine z_iconst C dX9_payable_25 ?_
      refine z_icmp_lt 41 C dX9_payable_26 (by decide) gv4 (by decide) (fun e9 => ?_) (fun e9 => ?_)
      ·
        have h := (if_pos e9).symm.trans h
        refine z_iconst C dX9_payable_41 ?_
        exact y_zretP C dX9_payable_42 h (by decide)
      ·
        have h := (if_neg e9).symm.trans h
        refine z_iload C dX9_payable_29 4 rfl ?_
        refine z_sipush C dX9_payable_31 (by decide) ?_
        refine z_icmp_gt 41 C dX9_payable_34 (by decide) gv4 (by decide) (fun e10 => ?_) (fun e10 => ?_)
        ·
          have h := (if_pos e10).symm.trans h
          refine z_iconst C dX9_payable_41 ?_
          exact y_zretP C dX9_payable_42 h (by decide)
        ·
          have h := (if_neg e10).symm.trans h
          refine z_iconst C dX9_payable_37 ?_
          refine z_goto 42 C dX9_payable_38 (by decide) ?_
          exact y_zretP C dX9_payable_42 h (by decide)

set_option maxHeartbeats 4000000 in
set_option maxRecDepth 100000 in
theorem tX10_readNew {G : Gx} {σ : State} (hC : Cy G σ) (o0 : Nat) (v1 : Int) {M0 : Mm} (gv1 : rg v1) {R : Int × Mm} (h : uX10_readNew o0 v1 M0 = some R) : Ct G σ (4) yX10_readNew cX10_readNew 2 (some .boolean) [.ref (G.2.2 + o0), .int (iv v1)] M0 0 0 (Qb R.1 R.2) := by
  refine Ct.of hC.1 (by decide +kernel) (Nat.le_of_ble_eq_true rfl) ?_
  intro p l e R0 s m args below meth c C
  show Jz G σ p l e R0 s m args below meth c 2 0 0 (Qb R.1 R.2) M0 0 0 0 [(0, .ref (G.2.2 + o0)), (1, .int (iv v1))] []
  have hb52 : ∀ (o0 : Nat) (M : Mm), uX10_readNew_b52 o0 M = some R → Jz G σ p l e R0 s m args below meth c 2 0 0 (Qb R.1 R.2) M 0 0 52 [(0, .ref (G.2.2 + o0))] [] := by
    intro o0 M  h
    unfold uX10_readNew_b52 at h
    refine z_aload_n C dX10_readNew_52 0 rfl ?_
    refine z_iconst C dX10_readNew_53 ?_
    obtain ⟨k1, h⟩ := gK_inv h
    obtain ⟨r2, M3, hr2, h⟩ := bnd2 h
    refine y_cVb (st := []) C dX10_readNew_54 mX10_151 k1 (tX10_bad hC o0 3 (by decide) hr2) rfl rfl (Nat.le_of_ble_eq_true rfl) (by decide) (fun br2 => ?_)
    exact y_zretB C dX10_readNew_57 h br2
  unfold uX10_readNew at h
  refine z_aload_n C dX10_readNew_0 0 rfl ?_
  obtain ⟨k4, h⟩ := gK_inv h
  obtain ⟨r5, hr5, h⟩ := bnd h
  refine y_cVb (st := []) C dX10_readNew_1 mX10_191 k4 (tX10_isName hC o0  hr5) rfl rfl (Nat.le_of_ble_eq_true rfl) (by decide) (fun br5 => ?_)
  refine z_if_ne 13 C dX10_readNew_4 (by decide) (rg01 br5) (fun e6 => ?_) (fun e6 => ?_)
  ·
    have h := (if_neg e6).symm.trans h
    refine z_aload_n C dX10_readNew_13 0 rfl ?_
    refine z_aload_n C dX10_readNew_14 0 rfl ?_
    obtain ⟨on7, hon7, h⟩ := bnd h
    refine y_getR C dX10_readNew_15 fX10_30 rfl hon7 ?_
    refine z_iconst C dX10_readNew_18 ?_
    refine z_aload_n C dX10_readNew_19 0 rfl ?_
    obtain ⟨on8, hon8, h⟩ := bnd h
    refine y_getR C dX10_readNew_20 fX10_16 rfl hon8 ?_
    refine z_iconst C dX10_readNew_23 ?_
    obtain ⟨x9, hx9, h⟩ := bnd h
    refine y_iald C dX10_readNew_24 hx9 (fun gx9 => ?_)
    obtain ⟨k10, h⟩ := gK_inv h
    obtain ⟨r11, hr11, h⟩ := bnd h
    refine y_cVi (st := []) C dX10_readNew_25 mX10_195 k10 (tX10_findIn hC o0 on7 0 x9 (by decide) gx9 hr11) rfl rfl (Nat.le_of_ble_eq_true rfl) (by decide) (fun gr11 => ?_)
    refine z_iconst C dX10_readNew_28 ?_
    refine z_icmp_ne 52 C dX10_readNew_29 (by decide) gr11 (by decide) (fun e12 => ?_) (fun e12 => ?_)
    ·
      have h := (if_neg e12).symm.trans h
      refine z_drop (lv' := [(0, .ref (G.2.2 + o0))]) [0] rfl ?_
      exact hb52 o0 M0  h
    ·
      have h := (if_pos e12).symm.trans h
      refine z_aload_n C dX10_readNew_32 0 rfl ?_
      refine z_aload_n C dX10_readNew_33 0 rfl ?_
      obtain ⟨on13, hon13, h⟩ := bnd h
      refine y_getR C dX10_readNew_34 fX10_30 rfl hon13 ?_
      refine z_bipush C dX10_readNew_37 (by decide) ?_
      refine z_aload_n C dX10_readNew_39 0 rfl ?_
      obtain ⟨on14, hon14, h⟩ := bnd h
      refine y_getR C dX10_readNew_40 fX10_16 rfl hon14 ?_
      refine z_iconst C dX10_readNew_43 ?_
      obtain ⟨x15, hx15, h⟩ := bnd h
      refine y_iald C dX10_readNew_44 hx15 (fun gx15 => ?_)
      obtain ⟨k16, h⟩ := gK_inv h
      obtain ⟨r17, hr17, h⟩ := bnd h
      refine y_cVi (st := []) C dX10_readNew_45 mX10_195 k16 (tX10_findIn hC o0 on13 8 x15 (by decide) gx15 hr17) rfl rfl (Nat.le_of_ble_eq_true rfl) (by decide) (fun gr17 => ?_)
      refine z_iconst C dX10_readNew_48 ?_
      refine z_icmp_eq 58 C dX10_readNew_49 (by decide) gr17 (by decide) (fun e18 => ?_) (fun e18 => ?_)
      ·
        have h := (if_pos e18).symm.trans h
        refine z_aload_n C dX10_readNew_58 0 rfl ?_
        obtain ⟨on19, hon19, h⟩ := bnd h
        refine y_getR C dX10_readNew_59 fX10_30 rfl hon19 ?_
        refine z_iload_n C dX10_readNew_62 1 rfl ?_
        refine z_aload_n C dX10_readNew_63 0 rfl ?_
        obtain ⟨x20, hx20, h⟩ := bnd h
        refine y_getJ C dX10_readNew_64 fX10_118 rfl hx20 (fun gx20 => ?_)
        obtain ⟨M21, hM21, h⟩ := bnd h
        refine y_last C dX10_readNew_67 hM21 ?_
        refine z_aload_n C dX10_readNew_68 0 rfl ?_
        obtain ⟨k22, h⟩ := gK_inv h
        obtain ⟨M23, hM23, h⟩ := bnd h
        refine y_cVv (st := []) C dX10_readNew_69 mX10_161 k22 (tX10_go hC o0  hM23) rfl rfl (Nat.le_of_ble_eq_true rfl) (by decide) ?_
        refine z_iconst C dX10_readNew_72 ?_
        exact y_zretB C dX10_readNew_73 h (by decide)
      ·
        have h := (if_neg e18).symm.trans h
        refine z_drop (lv' := [(0, .ref (G.2.2 + o0))]) [0] rfl ?_
        exact hb52 o0 M0  h
  ·
    have h := (if_pos e6).symm.trans h
    refine z_aload_n C dX10_readNew_7 0 rfl ?_
    refine z_iconst C dX10_readNew_8 ?_
    obtain ⟨k24, h⟩ := gK_inv h
    obtain ⟨r25, M26, hr25, h⟩ := bnd2 h
    refine y_cVb (st := []) C dX10_readNew_9 mX10_151 k24 (tX10_bad hC o0 1 (by decide) hr25) rfl rfl (Nat.le_of_ble_eq_true rfl) (by decide) (fun br25 => ?_)
    exact y_zretB C dX10_readNew_12 h br25

set_option maxHeartbeats 4000000 in
set_option maxRecDepth 100000 in
theorem tX10_readWhoTold {G : Gx} {σ : State} (hC : Cy G σ) (o0 : Nat) {M0 : Mm}  {R : Int × Mm} (h : uX10_readWhoTold o0 M0 = some R) : Ct G σ (4) yX10_readWhoTold cX10_readWhoTold 1 (some .boolean) [.ref (G.2.2 + o0)] M0 0 0 (Qb R.1 R.2) := by
  refine Ct.of hC.1 (by decide +kernel) (Nat.le_of_ble_eq_true rfl) ?_
  intro p l e R0 s m args below meth c C
  show Jz G σ p l e R0 s m args below meth c 1 0 0 (Qb R.1 R.2) M0 0 0 0 [(0, .ref (G.2.2 + o0))] []
  unfold uX10_readWhoTold at h
  refine z_aload_n C dX10_readWhoTold_0 0 rfl ?_
  obtain ⟨k1, h⟩ := gK_inv h
  obtain ⟨r2, hr2, h⟩ := bnd h
  refine y_cVb (st := []) C dX10_readWhoTold_1 mX10_191 k1 (tX10_isName hC o0  hr2) rfl rfl (Nat.le_of_ble_eq_true rfl) (by decide) (fun br2 => ?_)
  refine z_if_ne 13 C dX10_readWhoTold_4 (by decide) (rg01 br2) (fun e3 => ?_) (fun e3 => ?_)
  ·
    have h := (if_neg e3).symm.trans h
    refine z_aload_n C dX10_readWhoTold_13 0 rfl ?_
    refine z_aload_n C dX10_readWhoTold_14 0 rfl ?_
    refine z_aload_n C dX10_readWhoTold_15 0 rfl ?_
    obtain ⟨on4, hon4, h⟩ := bnd h
    refine y_getR C dX10_readWhoTold_16 fX10_30 rfl hon4 ?_
    refine z_iconst C dX10_readWhoTold_19 ?_
    refine z_aload_n C dX10_readWhoTold_20 0 rfl ?_
    obtain ⟨on5, hon5, h⟩ := bnd h
    refine y_getR C dX10_readWhoTold_21 fX10_16 rfl hon5 ?_
    refine z_iconst C dX10_readWhoTold_24 ?_
    obtain ⟨x6, hx6, h⟩ := bnd h
    refine y_iald C dX10_readWhoTold_25 hx6 (fun gx6 => ?_)
    obtain ⟨k7, h⟩ := gK_inv h
    obtain ⟨r8, hr8, h⟩ := bnd h
    refine y_cVi (st := [.ref (G.2.2 + o0)]) C dX10_readWhoTold_26 mX10_195 k7 (tX10_findIn hC o0 on4 0 x6 (by decide) gx6 hr8) rfl rfl (Nat.le_of_ble_eq_true rfl) (by decide) (fun gr8 => ?_)
    obtain ⟨M9, hM9, h⟩ := bnd h
    refine y_putI C dX10_readWhoTold_29 fX10_158 rfl rfl rfl rfl hM9 ?_
    refine z_aload_n C dX10_readWhoTold_32 0 rfl ?_
    obtain ⟨x10, hx10, h⟩ := bnd h
    refine y_getI C dX10_readWhoTold_33 fX10_158 rfl hx10 (fun gx10 => ?_)
    refine z_iconst C dX10_readWhoTold_36 ?_
    refine z_icmp_ne 48 C dX10_readWhoTold_37 (by decide) gx10 (by decide) (fun e11 => ?_) (fun e11 => ?_)
    ·
      have h := (if_neg e11).symm.trans h
      refine z_iconst C dX10_readWhoTold_48 ?_
      refine z_goto 53 C dX10_readWhoTold_49 (by decide) ?_
      exact y_zretB C dX10_readWhoTold_53 h (by decide)
    ·
      have h := (if_pos e11).symm.trans h
      refine z_aload_n C dX10_readWhoTold_40 0 rfl ?_
      refine z_iconst C dX10_readWhoTold_41 ?_
      obtain ⟨k12, h⟩ := gK_inv h
      obtain ⟨r13, M14, hr13, h⟩ := bnd2 h
      refine y_cVb (st := []) C dX10_readWhoTold_42 mX10_151 k12 (tX10_bad hC o0 3 (by decide) hr13) rfl rfl (Nat.le_of_ble_eq_true rfl) (by decide) (fun br13 => ?_)
      refine z_if_eq 52 C dX10_readWhoTold_45 (by decide) (rg01 br13) (fun e15 => ?_) (fun e15 => ?_)
      ·
        have h := (if_pos e15).symm.trans h
        refine z_iconst C dX10_readWhoTold_52 ?_
        exact y_zretB C dX10_readWhoTold_53 h (by decide)
      ·
        have h := (if_neg e15).symm.trans h
        refine z_iconst C dX10_readWhoTold_48 ?_
        refine z_goto 53 C dX10_readWhoTold_49 (by decide) ?_
        exact y_zretB C dX10_readWhoTold_53 h (by decide)
  ·
    have h := (if_pos e3).symm.trans h
    refine z_aload_n C dX10_readWhoTold_7 0 rfl ?_
    refine z_iconst C dX10_readWhoTold_8 ?_
    obtain ⟨k16, h⟩ := gK_inv h
    obtain ⟨r17, M18, hr17, h⟩ := bnd2 h
    refine y_cVb (st := []) C dX10_readWhoTold_9 mX10_151 k16 (tX10_bad hC o0 1 (by decide) hr17) rfl rfl (Nat.le_of_ble_eq_true rfl) (by decide) (fun br17 => ?_)
    exact y_zretB C dX10_readWhoTold_12 h br17

set_option maxHeartbeats 4000000 in
set_option maxRecDepth 100000 in
theorem tX10_readOnce {G : Gx} {σ : State} (hC : Cy G σ) (o0 : Nat) (v1 : Int) (v2 : Int) (v3 : Int) (v4 : Int) {M0 : Mm} (gv1 : rg v1) (gv2 : rg v2) (gv3 : rg v3) (gv4 : rg v4) {R : Int × Mm} (h : uX10_readOnce o0 v1 v2 v3 v4 M0 = some R) : Ct G σ (4) yX10_readOnce cX10_readOnce 5 (some .boolean) [.ref (G.2.2 + o0), .int (iv v1), .int (iv v2), .int (iv v3), .int (iv v4)] M0 0 0 (Qb R.1 R.2) := by
  refine Ct.of hC.1 (by decide +kernel) (Nat.le_of_ble_eq_true rfl) ?_
  intro p l e R0 s m args below meth c C
  show Jz G σ p l e R0 s m args below meth c 5 0 0 (Qb R.1 R.2) M0 0 0 0 [(0, .ref (G.2.2 + o0)), (1, .int (iv v1)), (2, .int (iv v2)), (3, .int (iv v3)), (4, .int (iv v4))] []
  unfold uX10_readOnce at h
  refine z_aload_n C dX10_readOnce_0 0 rfl ?_
  obtain ⟨x1, hx1, h⟩ := bnd h
  refine y_getI C dX10_readOnce_1 fX10_212 rfl hx1 (fun gx1 => ?_)
  refine z_iload_n C dX10_readOnce_4 1 rfl ?_
  obtain ⟨r2, hr2, h⟩ := bnd h
  refine y_cSb (st := []) C dX10_readOnce_5 mX10_215 (tX10_has hC x1 v1 gx1 gv1 hr2) rfl rfl (Nat.le_of_ble_eq_true rfl) (by decide) (fun br2 => ?_)
  refine z_if_eq 17 C dX10_readOnce_8 (by decide) (rg01 br2) (fun e3 => ?_) (fun e3 => ?_)
  ·
    have h := (if_pos e3).symm.trans h
    refine z_aload_n C dX10_readOnce_17 0 rfl ?_
    refine z_dup C dX10_readOnce_18 rfl ?_
    obtain ⟨x4, hx4, h⟩ := bnd h
    refine y_getI C dX10_readOnce_19 fX10_212 rfl hx4 (fun gx4 => ?_)
    refine z_iconst C dX10_readOnce_22 ?_
    refine z_iload_n C dX10_readOnce_23 1 rfl ?_
    refine z_ishl (shl32 1 v1) C dX10_readOnce_24 (iv_self _).symm ?_
    refine z_ior (or32 x4 (shl32 1 v1)) C dX10_readOnce_25 (iv_self _).symm ?_
    obtain ⟨M5, hM5, h⟩ := bnd h
    refine y_putI C dX10_readOnce_26 fX10_212 rfl rfl rfl rfl hM5 ?_
    refine z_aload_n C dX10_readOnce_29 0 rfl ?_
    obtain ⟨k6, h⟩ := gK_inv h
    obtain ⟨M7, hM7, h⟩ := bnd h
    refine y_cVv (st := []) C dX10_readOnce_30 mX10_161 k6 (tX10_go hC o0  hM7) rfl rfl (Nat.le_of_ble_eq_true rfl) (by decide) ?_
    refine z_aload_n C dX10_readOnce_33 0 rfl ?_
    refine z_iload_n C dX10_readOnce_34 3 rfl ?_
    refine z_iload C dX10_readOnce_35 4 rfl ?_
    obtain ⟨k8, h⟩ := gK_inv h
    obtain ⟨r9, M10, hr9, h⟩ := bnd2 h
    refine y_cVb (st := []) C dX10_readOnce_37 mX10_205 k8 (tX10_readNumber hC o0 v3 v4 gv3 gv4 hr9) rfl rfl (Nat.le_of_ble_eq_true rfl) (by decide) (fun br9 => ?_)
    refine z_if_ne 45 C dX10_readOnce_40 (by decide) (rg01 br9) (fun e11 => ?_) (fun e11 => ?_)
    ·
      have h := (if_neg e11).symm.trans h
      refine z_aload_n C dX10_readOnce_45 0 rfl ?_
      obtain ⟨on12, hon12, h⟩ := bnd h
      refine y_getR C dX10_readOnce_46 fX10_16 rfl hon12 ?_
      refine z_iload_n C dX10_readOnce_49 2 rfl ?_
      refine z_aload_n C dX10_readOnce_50 0 rfl ?_
      obtain ⟨x13, hx13, h⟩ := bnd h
      refine y_getI C dX10_readOnce_51 fX10_158 rfl hx13 (fun gx13 => ?_)
      obtain ⟨M14, hM14, h⟩ := bnd h
      refine y_iast C dX10_readOnce_54 hM14 ?_
      refine z_iconst C dX10_readOnce_55 ?_
      exact y_zretB C dX10_readOnce_56 h (by decide)
    ·
      have h := (if_pos e11).symm.trans h
      refine z_iconst C dX10_readOnce_43 ?_
      exact y_zretB C dX10_readOnce_44 h (by decide)
  ·
    have h := (if_neg e3).symm.trans h
    refine z_aload_n C dX10_readOnce_11 0 rfl ?_
    refine z_iconst C dX10_readOnce_12 ?_
    obtain ⟨k15, h⟩ := gK_inv h
    obtain ⟨r16, M17, hr16, h⟩ := bnd2 h
    refine y_cVb (st := []) C dX10_readOnce_13 mX10_151 k15 (tX10_bad hC o0 3 (by decide) hr16) rfl rfl (Nat.le_of_ble_eq_true rfl) (by decide) (fun br16 => ?_)
    exact y_zretB C dX10_readOnce_16 h br16

set_option maxHeartbeats 4000000 in
set_option maxRecDepth 100000 in
theorem tX10_of {G : Gx} {σ : State} (hC : Cy G σ) (o0 : Nat) (v1 : Int) (v2 : Int) {M0 : Mm} (gv1 : rg v1) (gv2 : rg v2) {R : Int × Mm} (h : uX10_of o0 v1 v2 M0 = some R) : Ct G σ (4) yX10_of cX10_of 3 (some .int) [.ref (G.2.2 + o0), .int (iv v1), .int (iv v2)] M0 0 0 (Qi R.1 R.2) := by
  refine Ct.of hC.1 (by decide +kernel) (Nat.le_of_ble_eq_true rfl) ?_
  intro p l e R0 s m args below meth c C
  show Jz G σ p l e R0 s m args below meth c 3 0 0 (Qi R.1 R.2) M0 0 0 0 [(0, .ref (G.2.2 + o0)), (1, .int (iv v1)), (2, .int (iv v2))] []
  have hb21 : ∀ (o0 : Nat) (M : Mm), uX10_of_b21 o0 M = some R → Jz G σ p l e R0 s m args below meth c 3 0 0 (Qi R.1 R.2) M 0 0 21 [(0, .ref (G.2.2 + o0))] [] := by
    intro o0 M  h
    unfold uX10_of_b21 at h
    refine z_aload_n C dX10_of_21 0 rfl ?_
    obtain ⟨k1, h⟩ := gK_inv h
    obtain ⟨r2, M3, hr2, h⟩ := bnd2 h
    refine y_cVi (st := []) C dX10_of_22 mX10_246 k1 (tX10_refuse hC o0  hr2) rfl rfl (Nat.le_of_ble_eq_true rfl) (by decide) (fun gr2 => ?_)
    exact y_iretB C dX10_of_25 h gr2
  unfold uX10_of at h
  refine z_aload_n C dX10_of_0 0 rfl ?_
  obtain ⟨k4, h⟩ := gK_inv h
  obtain ⟨M5, hM5, h⟩ := bnd h
  refine y_cVv (st := []) C dX10_of_1 mX10_167 k4 (tX10_lay hC o0  hM5) rfl rfl (Nat.le_of_ble_eq_true rfl) (by decide) ?_
  refine z_aload_n C dX10_of_4 0 rfl ?_
  refine z_iload_n C dX10_of_5 1 rfl ?_
  obtain ⟨k6, h⟩ := gK_inv h
  obtain ⟨r7, hr7, h⟩ := bnd h
  refine y_cVb (st := []) C dX10_of_6 mX10_282 k6 (tX10_isCoin hC o0 v1 gv1 hr7) rfl rfl (Nat.le_of_ble_eq_true rfl) (by decide) (fun br7 => ?_)
  refine z_if_eq 21 C dX10_of_9 (by decide) (rg01 br7) (fun e8 => ?_) (fun e8 => ?_)
  ·
    have h := (if_pos e8).symm.trans h
    refine z_drop (lv' := [(0, .ref (G.2.2 + o0))]) [0] rfl ?_
    exact hb21 o0 M5  h
  ·
    have h := (if_neg e8).symm.trans h
    refine z_iload_n C dX10_of_12 2 rfl ?_
    refine z_iconst C dX10_of_13 ?_
    refine z_iconst C dX10_of_14 ?_
    obtain ⟨r9, hr9, h⟩ := bnd h
    refine y_cSb (st := []) C dX10_of_15 mX10_154 (tX10_isIn hC v2 0 4 gv2 (by decide) (by decide) hr9) rfl rfl (Nat.le_of_ble_eq_true rfl) (by decide) (fun br9 => ?_)
    refine z_if_ne 26 C dX10_of_18 (by decide) (rg01 br9) (fun e10 => ?_) (fun e10 => ?_)
    ·
      have h := (if_neg e10).symm.trans h
      refine z_aload_n C dX10_of_26 0 rfl ?_
      refine z_iconst C dX10_of_27 ?_
      obtain ⟨M11, hM11, h⟩ := bnd h
      refine y_putI C dX10_of_28 fX10_83 rfl rfl rfl rfl hM11 ?_
      refine z_iload_n C dX10_of_31 2 rfl ?_
      refine z_if_ne 44 C dX10_of_32 (by decide) gv2 (fun e12 => ?_) (fun e12 => ?_)
      ·
        have h := (if_neg e12).symm.trans h
        refine z_iload_n C dX10_of_44 2 rfl ?_
        refine z_iconst C dX10_of_45 ?_
        refine z_icmp_ne 58 C dX10_of_46 (by decide) gv2 (by decide) (fun e13 => ?_) (fun e13 => ?_)
        ·
          have h := (if_neg e13).symm.trans h
          refine z_iload_n C dX10_of_58 2 rfl ?_
          refine z_iconst C dX10_of_59 ?_
          refine z_icmp_ne 72 C dX10_of_60 (by decide) gv2 (by decide) (fun e14 => ?_) (fun e14 => ?_)
          ·
            have h := (if_neg e14).symm.trans h
            refine z_iload_n C dX10_of_72 2 rfl ?_
            refine z_iconst C dX10_of_73 ?_
            refine z_icmp_ne 86 C dX10_of_74 (by decide) gv2 (by decide) (fun e15 => ?_) (fun e15 => ?_)
            ·
              have h := (if_neg e15).symm.trans h
              refine z_aload_n C dX10_of_86 0 rfl ?_
              refine z_iload_n C dX10_of_87 1 rfl ?_
              obtain ⟨k16, h⟩ := gK_inv h
              obtain ⟨r17, hr17, h⟩ := bnd h
              refine y_cVi (st := []) C dX10_of_88 mX10_285 k16 (tX10_showsFalse hC o0 v1 gv1 hr17) rfl rfl (Nat.le_of_ble_eq_true rfl) (by decide) (fun gr17 => ?_)
              exact y_iretB C dX10_of_91 h gr17
            ·
              have h := (if_pos e15).symm.trans h
              refine z_aload_n C dX10_of_77 0 rfl ?_
              refine z_iload_n C dX10_of_78 1 rfl ?_
              refine z_iconst C dX10_of_79 ?_
              obtain ⟨k18, h⟩ := gK_inv h
              obtain ⟨r19, hr19, h⟩ := bnd h
              refine y_cVi (st := []) C dX10_of_80 mX10_256 k18 (tX10_ofCoin hC o0 v1 2 gv1 (by decide) hr19) rfl rfl (Nat.le_of_ble_eq_true rfl) (by decide) (fun gr19 => ?_)
              refine z_goto 91 C dX10_of_83 (by decide) ?_
              exact y_iretB C dX10_of_91 h gr19
          ·
            have h := (if_pos e14).symm.trans h
            refine z_aload_n C dX10_of_63 0 rfl ?_
            refine z_iload_n C dX10_of_64 1 rfl ?_
            refine z_iconst C dX10_of_65 ?_
            obtain ⟨k20, h⟩ := gK_inv h
            obtain ⟨r21, hr21, h⟩ := bnd h
            refine y_cVi (st := []) C dX10_of_66 mX10_256 k20 (tX10_ofCoin hC o0 v1 3 gv1 (by decide) hr21) rfl rfl (Nat.le_of_ble_eq_true rfl) (by decide) (fun gr21 => ?_)
            refine z_goto 91 C dX10_of_69 (by decide) ?_
            exact y_iretB C dX10_of_91 h gr21
        ·
          have h := (if_pos e13).symm.trans h
          refine z_aload_n C dX10_of_49 0 rfl ?_
          refine z_iload_n C dX10_of_50 1 rfl ?_
          refine z_iconst C dX10_of_51 ?_
          obtain ⟨k22, h⟩ := gK_inv h
          obtain ⟨r23, hr23, h⟩ := bnd h
          refine y_cVi (st := []) C dX10_of_52 mX10_256 k22 (tX10_ofCoin hC o0 v1 1 gv1 (by decide) hr23) rfl rfl (Nat.le_of_ble_eq_true rfl) (by decide) (fun gr23 => ?_)
          refine z_goto 91 C dX10_of_55 (by decide) ?_
          exact y_iretB C dX10_of_91 h gr23
      ·
        have h := (if_pos e12).symm.trans h
        refine z_aload_n C dX10_of_35 0 rfl ?_
        refine z_iload_n C dX10_of_36 1 rfl ?_
        refine z_iconst C dX10_of_37 ?_
        obtain ⟨k24, h⟩ := gK_inv h
        obtain ⟨r25, hr25, h⟩ := bnd h
        refine y_cVi (st := []) C dX10_of_38 mX10_256 k24 (tX10_ofCoin hC o0 v1 0 gv1 (by decide) hr25) rfl rfl (Nat.le_of_ble_eq_true rfl) (by decide) (fun gr25 => ?_)
        refine z_goto 91 C dX10_of_41 (by decide) ?_
        exact y_iretB C dX10_of_91 h gr25
    ·
      have h := (if_pos e10).symm.trans h
      refine z_drop (lv' := [(0, .ref (G.2.2 + o0))]) [0] rfl ?_
      exact hb21 o0 M5  h

set_option maxHeartbeats 4000000 in
set_option maxRecDepth 100000 in
theorem tX10_luck {G : Gx} {σ : State} (hC : Cy G σ) (o0 : Nat) {M0 : Mm}  {R : Int × Mm} (h : uX10_luck o0 M0 = some R) : Ct G σ (4) yX10_luck cX10_luck 1 (some .int) [.ref (G.2.2 + o0)] M0 0 0 (Qi R.1 R.2) := by
  refine Ct.of hC.1 (by decide +kernel) (Nat.le_of_ble_eq_true rfl) ?_
  intro p l e R0 s m args below meth c C
  show Jz G σ p l e R0 s m args below meth c 1 0 0 (Qi R.1 R.2) M0 0 0 0 [(0, .ref (G.2.2 + o0))] []
  unfold uX10_luck at h
  refine z_aload_n C dX10_luck_0 0 rfl ?_
  refine z_iconst C dX10_luck_1 ?_
  obtain ⟨M1, hM1, h⟩ := bnd h
  refine y_putI C dX10_luck_2 fX10_83 rfl rfl rfl rfl hM1 ?_
  refine z_aload_n C dX10_luck_5 0 rfl ?_
  obtain ⟨k2, h⟩ := gK_inv h
  obtain ⟨M3, hM3, h⟩ := bnd h
  refine y_cVv (st := []) C dX10_luck_6 mX10_167 k2 (tX10_lay hC o0  hM3) rfl rfl (Nat.le_of_ble_eq_true rfl) (by decide) ?_
  refine z_aload_n C dX10_luck_9 0 rfl ?_
  obtain ⟨k4, h⟩ := gK_inv h
  obtain ⟨r5, hr5, h⟩ := bnd h
  refine y_cVi (st := []) C dX10_luck_10 mX10_288 k4 (tX10_luckOf hC o0  hr5) rfl rfl (Nat.le_of_ble_eq_true rfl) (by decide) (fun gr5 => ?_)
  exact y_iretB C dX10_luck_13 h gr5

set_option maxHeartbeats 4000000 in
set_option maxRecDepth 100000 in
theorem tX10_valueOf {G : Gx} {σ : State} (hC : Cy G σ) (o0 : Nat) (v1 : Int) (v2 : Int) {M0 : Mm} (gv1 : rg v1) (gv2 : rg v2) {R : Int} (h : uX10_valueOf o0 v1 v2 M0 = some R) : Ct G σ (4) yX10_valueOf cX10_valueOf 3 (some .int) [.ref (G.2.2 + o0), .int (iv v1), .int (iv v2)] M0 0 0 (Qi R M0) := by
  refine Ct.of hC.1 (by decide +kernel) (Nat.le_of_ble_eq_true rfl) ?_
  intro p l e R0 s m args below meth c C
  show Jz G σ p l e R0 s m args below meth c 3 0 0 (Qi R M0) M0 0 0 0 [(0, .ref (G.2.2 + o0)), (1, .int (iv v1)), (2, .int (iv v2))] []
  unfold uX10_valueOf at h
  refine z_aload_n C dX10_valueOf_0 0 rfl ?_
  refine z_iload_n C dX10_valueOf_1 2 rfl ?_
  refine z_iconst C dX10_valueOf_2 ?_
  obtain ⟨k1, h⟩ := gK_inv h
  obtain ⟨r2, hr2, h⟩ := bnd h
  refine y_cVi (st := []) C dX10_valueOf_3 mX10_256 k1 (tX10_ofCoin hC o0 v2 0 gv2 (by decide) hr2) rfl rfl (Nat.le_of_ble_eq_true rfl) (by decide) (fun gr2 => ?_)
  refine z_aload_n C dX10_valueOf_6 0 rfl ?_
  refine z_iload_n C dX10_valueOf_7 1 rfl ?_
  refine z_aload_n C dX10_valueOf_8 0 rfl ?_
  refine z_iload_n C dX10_valueOf_9 2 rfl ?_
  obtain ⟨k3, h⟩ := gK_inv h
  obtain ⟨r4, hr4, h⟩ := bnd h
  refine y_cVi (st := [.int (iv v1), .ref (G.2.2 + o0), .int (iv r2)]) C dX10_valueOf_10 mX10_253 k3 (tX10_topOf hC o0 v2 gv2 hr4) rfl rfl (Nat.le_of_ble_eq_true rfl) (by decide) (fun gr4 => ?_)
  refine z_aload_n C dX10_valueOf_13 0 rfl ?_
  obtain ⟨k5, h⟩ := gK_inv h
  obtain ⟨r6, hr6, h⟩ := bnd h
  refine y_cVi (st := [.int (iv r4), .int (iv v1), .ref (G.2.2 + o0), .int (iv r2)]) C dX10_valueOf_14 mX10_288 k5 (tX10_luckOf hC o0  hr6) rfl rfl (Nat.le_of_ble_eq_true rfl) (by decide) (fun gr6 => ?_)
  obtain ⟨k7, h⟩ := gK_inv h
  obtain ⟨r8, hr8, h⟩ := bnd h
  refine y_cVi (st := [.int (iv r2)]) C dX10_valueOf_17 mX10_291 k7 (tX10_hundredths hC o0 v1 r4 r6 gv1 gr4 gr6 hr8) rfl rfl (Nat.le_of_ble_eq_true rfl) (by decide) (fun gr8 => ?_)
  refine y_imul C dX10_valueOf_20 ?_
  refine z_bipush C dX10_valueOf_21 (by decide) ?_
  obtain ⟨x9, hx9, h⟩ := bnd h
  refine y_idiv C dX10_valueOf_23 hx9 (fun gx9 => ?_)
  exact y_iretP C dX10_valueOf_24 h gx9
