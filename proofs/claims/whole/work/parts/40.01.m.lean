set_option maxHeartbeats 4000000 in
set_option maxRecDepth 100000 in
theorem tX3_isMintName {G : Gx} {σ : State} (hC : Cy G σ) (o0 : Nat) (v1 : Int) {M0 : Mm} (gv1 : rg v1) {R : Int} (h : uX3_isMintName o0 v1 M0 = some R) : Ct G σ (1) yX3_isMintName cX3_isMintName 3 (some .boolean) [.ref (G.2.2 + o0), .int (iv v1)] M0 0 0 (Qb R M0) := by
  refine Ct.of hC.1 (by decide +kernel) (Nat.le_of_ble_eq_true rfl) ?_
  intro p l e R0 s m args below meth c C
  show Jz G σ p l e R0 s m args below meth c 3 0 0 (Qb R M0) M0 0 0 0 [(0, .ref (G.2.2 + o0)), (1, .int (iv v1))] []
  have hb33 : uX3_isMintName_b33 M0 = some R → Jz G σ p l e R0 s m args below meth c 3 0 0 (Qb R M0) M0 0 0 33 [] [] := by
    intro    h
    unfold uX3_isMintName_b33 at h
    refine z_iconst C dX3_isMintName_33 ?_
    exact y_zretP C dX3_isMintName_34 h (by decide)
  have hb2 : ∀ (o0 : Nat) (v1 : Int) (v2 : Int), (rg v1) → (rg v2) → uX3_isMintName_b2 o0 v1 v2 M0 = some R → Jz G σ p l e R0 s m args below meth c 3 0 0 (Qb R M0) M0 0 0 2 [(0, .ref (G.2.2 + o0)), (1, .int (iv v1)), (2, .int (iv v2))] [] := by
    intro o0 v1 v2  gv1 gv2 h
    unfold uX3_isMintName_b2 at h
    obtain ⟨b2, hb2_, hc2⟩ := bnd h
    have hL2 : ∀ (n : Nat) (v2 : Int), (rg v2) → lp (uX3_isMintName_f2 o0 v1 M0) n v2 = some b2 → Jz G σ p l e R0 s m args below meth c 3 0 0 (Qb R M0) M0 0 0 2 [(0, .ref (G.2.2 + o0)), (1, .int (iv v1)), (2, .int (iv v2))] [] := by
      intro n; induction n with
      | zero => intro v2 gv2 hq; exact (lp_0 hq).elim
      | succ n2 ih2 =>
        intro v2 gv2 hq
        obtain ⟨z2, h, hZ2⟩ := lp_s hq
        have h : uX3_isMintName_s2 o0 v1 M0 v2 = some z2 := h
        unfold uX3_isMintName_s2 at h
        refine z_iload_n C dX3_isMintName_2 2 rfl ?_
        refine z_aload_n C dX3_isMintName_3 0 rfl ?_
        obtain ⟨x1, hx1, h⟩ := bnd h
        refine y_getI C dX3_isMintName_4 fX3_46 rfl hx1 (fun gx1 => ?_)
        refine z_icmp_ge 33 C dX3_isMintName_7 (by decide) gv2 gx1 (fun e2 => ?_) (fun e2 => ?_)
        ·
          have h := (if_pos e2).symm.trans h
          have h : uX3_isMintName_b33 M0 = some R := lp_ex (K := (uX3_isMintName_c2 o0 v1 M0)) h hZ2 hc2
          refine z_drop (lv' := []) [] rfl ?_
          exact hb33    h
        ·
          have h := (if_neg e2).symm.trans h
          refine z_iload_n C dX3_isMintName_10 2 rfl ?_
          refine z_iconst C dX3_isMintName_11 ?_
          refine z_icmp_ge 33 C dX3_isMintName_12 (by decide) gv2 (by decide) (fun e3 => ?_) (fun e3 => ?_)
          ·
            have h := (if_pos e3).symm.trans h
            have h : uX3_isMintName_b33 M0 = some R := lp_ex (K := (uX3_isMintName_c2 o0 v1 M0)) h hZ2 hc2
            refine z_drop (lv' := []) [] rfl ?_
            exact hb33    h
          ·
            have h := (if_neg e3).symm.trans h
            refine z_aload_n C dX3_isMintName_15 0 rfl ?_
            obtain ⟨on4, hon4, h⟩ := bnd h
            refine y_getR C dX3_isMintName_16 fX3_21 rfl hon4 ?_
            refine z_iload_n C dX3_isMintName_19 2 rfl ?_
            obtain ⟨x5, hx5, h⟩ := bnd h
            refine y_iald C dX3_isMintName_20 hx5 (fun gx5 => ?_)
            refine z_iload_n C dX3_isMintName_21 1 rfl ?_
            refine z_icmp_ne 27 C dX3_isMintName_22 (by decide) gx5 gv1 (fun e6 => ?_) (fun e6 => ?_)
            ·
              have h := (if_neg e6).symm.trans h
              refine y_iinc (lv' := [(0, .ref (G.2.2 + o0)), (1, .int (iv v1)), (2, .int (iv (w32 (v2 + 1))))]) C dX3_isMintName_27 2 rfl (by decide) [1, 2, 0] rfl ?_
              refine z_goto 2 C dX3_isMintName_30 (by decide) ?_
              exact ih2 (w32 (v2 + 1)) (w32_rng _) (lp_back h hZ2)
            ·
              have h := (if_pos e6).symm.trans h
              refine z_iconst C dX3_isMintName_25 ?_
              have h := lp_ret (K := (uX3_isMintName_c2 o0 v1 M0)) h hZ2 hc2
              exact y_zretP C dX3_isMintName_26 h (by decide)
    exact hL2 _ v2 gv2 hb2_
  unfold uX3_isMintName at h
  refine z_iconst C dX3_isMintName_0 ?_
  refine z_istore_n (lv' := [(0, .ref (G.2.2 + o0)), (1, .int (iv v1)), (2, .int (iv 0))]) C dX3_isMintName_1 rfl (by decide) [1, 2, 0] rfl ?_
  exact hb2 o0 v1 0  gv1 (by decide) h

set_option maxHeartbeats 4000000 in
set_option maxRecDepth 100000 in
theorem tX3_takenAt {G : Gx} {σ : State} (hC : Cy G σ) (o0 : Nat) (v1 : Int) (v2 : Int) {M0 : Mm} (gv1 : rg v1) (gv2 : rg v2) {R : Int} (h : uX3_takenAt o0 v1 v2 M0 = some R) : Ct G σ (1) yX3_takenAt cX3_takenAt 4 (some .int) [.ref (G.2.2 + o0), .int (iv v1), .int (iv v2)] M0 0 0 (Qi R M0) := by
  refine Ct.of hC.1 (by decide +kernel) (Nat.le_of_ble_eq_true rfl) ?_
  intro p l e R0 s m args below meth c C
  show Jz G σ p l e R0 s m args below meth c 4 0 0 (Qi R M0) M0 0 0 0 [(0, .ref (G.2.2 + o0)), (1, .int (iv v1)), (2, .int (iv v2))] []
  unfold uX3_takenAt at h
  refine z_iload_n C dX3_takenAt_0 1 rfl ?_
  refine z_bipush C dX3_takenAt_1 (by decide) ?_
  refine y_imul C dX3_takenAt_3 ?_
  refine z_iload_n C dX3_takenAt_4 2 rfl ?_
  refine y_iadd C dX3_takenAt_5 ?_
  refine z_istore_n (lv' := [(0, .ref (G.2.2 + o0)), (1, .int (iv v1)), (2, .int (iv v2)), (3, .int (iv (w32 ((w32 (v1 * 8)) + v2))))]) C dX3_takenAt_6 rfl (by decide) [1, 2, 3, 0] rfl ?_
  refine z_iload_n C dX3_takenAt_7 3 rfl ?_
  refine z_if_lt 30 C dX3_takenAt_8 (by decide) (w32_rng _) (fun e1 => ?_) (fun e1 => ?_)
  ·
    have h := (if_pos e1).symm.trans h
    refine z_bipush C dX3_takenAt_30 (by decide) ?_
    exact y_iretP C dX3_takenAt_32 h (by decide)
  ·
    have h := (if_neg e1).symm.trans h
    refine z_iload_n C dX3_takenAt_11 3 rfl ?_
    refine z_aload_n C dX3_takenAt_12 0 rfl ?_
    obtain ⟨on2, hon2, h⟩ := bnd h
    refine y_getR C dX3_takenAt_13 fX3_30 rfl hon2 ?_
    obtain ⟨x3, hx3, h⟩ := bnd h
    refine y_alen C dX3_takenAt_16 hx3 (fun gx3 => ?_)
    refine z_icmp_ge 30 C dX3_takenAt_17 (by decide) (w32_rng _) gx3 (fun e4 => ?_) (fun e4 => ?_)
    ·
      have h := (if_pos e4).symm.trans h
      refine z_bipush C dX3_takenAt_30 (by decide) ?_
      exact y_iretP C dX3_takenAt_32 h (by decide)
    ·
      have h := (if_neg e4).symm.trans h
      refine z_aload_n C dX3_takenAt_20 0 rfl ?_
      obtain ⟨on5, hon5, h⟩ := bnd h
      refine y_getR C dX3_takenAt_21 fX3_30 rfl hon5 ?_
      refine z_iload_n C dX3_takenAt_24 3 rfl ?_
      obtain ⟨x6, hx6, h⟩ := bnd h
      refine y_iald C dX3_takenAt_25 hx6 (fun gx6 => ?_)
      refine z_iconst C dX3_takenAt_26 ?_
      refine z_icmp_ne 33 C dX3_takenAt_27 (by decide) gx6 (by decide) (fun e7 => ?_) (fun e7 => ?_)
      ·
        have h := (if_neg e7).symm.trans h
        refine z_aload_n C dX3_takenAt_33 0 rfl ?_
        obtain ⟨on8, hon8, h⟩ := bnd h
        refine y_getR C dX3_takenAt_34 fX3_30 rfl hon8 ?_
        refine z_iload_n C dX3_takenAt_37 3 rfl ?_
        obtain ⟨x9, hx9, h⟩ := bnd h
        refine y_iald C dX3_takenAt_38 hx9 (fun gx9 => ?_)
        exact y_iretP C dX3_takenAt_39 h gx9
      ·
        have h := (if_pos e7).symm.trans h
        refine z_bipush C dX3_takenAt_30 (by decide) ?_
        exact y_iretP C dX3_takenAt_32 h (by decide)

set_option maxHeartbeats 4000000 in
set_option maxRecDepth 100000 in
theorem tX4_init {G : Gx} {σ : State} (hC : Cy G σ) (o0 : Nat) {M0 : Mm}  {R : Mm} (h : uX4_init o0 M0 = some R) : Ct G σ (1) yX4_init cX4_init 1 none [.ref (G.2.2 + o0)] M0 3 27 (Qv R) := by
  refine Ct.of hC.1 (by decide +kernel) (Nat.le_of_ble_eq_true rfl) ?_
  intro p l e R0 s m args below meth c C
  show Jz G σ p l e R0 s m args below meth c 1 3 27 (Qv R) M0 0 0 0 [(0, .ref (G.2.2 + o0))] []
  unfold uX4_init at h
  refine z_aload_n C dX4_init_0 0 rfl ?_
  refine z_objInit C dX4_init_1 (gt_2 (i := 140) (by decide +kernel) (by decide +kernel)) oi_in oi_co (by decide) (Nat.le_of_ble_eq_true rfl) ?_
  refine z_aload_n C dX4_init_4 0 rfl ?_
  refine z_bipush C dX4_init_5 (by decide) ?_
  refine y_newI 9 C dX4_init_7 rfl (by decide) (by omega) (by omega) ?_
  obtain ⟨M1, hM1, h⟩ := bnd h
  refine y_putFR C dX4_init_9 clX4 (by decide) fX4_9_l rfl rfl rfl rfl rfl rfl hM1 ?_
  refine z_aload_n C dX4_init_12 0 rfl ?_
  refine z_bipush C dX4_init_13 (by decide) ?_
  refine y_newI 9 C dX4_init_15 rfl (by decide) (by omega) (by omega) ?_
  obtain ⟨M2, hM2, h⟩ := bnd h
  refine y_putFR C dX4_init_17 clX4 (by decide) fX4_15_l rfl rfl rfl rfl rfl rfl hM2 ?_
  refine z_aload_n C dX4_init_20 0 rfl ?_
  refine z_bipush C dX4_init_21 (by decide) ?_
  refine y_newI 9 C dX4_init_23 rfl (by decide) (by omega) (by omega) ?_
  obtain ⟨M3, hM3, h⟩ := bnd h
  refine y_putFR C dX4_init_25 clX4 (by decide) fX4_18_l rfl rfl rfl rfl rfl rfl hM3 ?_
  exact y_retV C dX4_init_28 h

set_option maxHeartbeats 4000000 in
set_option maxRecDepth 100000 in
theorem tX4_tooMany {G : Gx} {σ : State} (hC : Cy G σ) (o0 : Nat) (v1 : Int) {M0 : Mm} (gv1 : rg v1) {R : Int} (h : uX4_tooMany o0 v1 M0 = some R) : Ct G σ (1) yX4_tooMany cX4_tooMany 4 (some .boolean) [.ref (G.2.2 + o0), .int (iv v1)] M0 0 0 (Qb R M0) := by
  refine Ct.of hC.1 (by decide +kernel) (Nat.le_of_ble_eq_true rfl) ?_
  intro p l e R0 s m args below meth c C
  show Jz G σ p l e R0 s m args below meth c 4 0 0 (Qb R M0) M0 0 0 0 [(0, .ref (G.2.2 + o0)), (1, .int (iv v1))] []
  have hb33 : ∀ (v2 : Int), (rg v2) → uX4_tooMany_b33 v2 M0 = some R → Jz G σ p l e R0 s m args below meth c 4 0 0 (Qb R M0) M0 0 0 33 [(2, .int (iv v2))] [] := by
    intro v2  gv2 h
    unfold uX4_tooMany_b33 at h
    refine z_iload_n C dX4_tooMany_33 0 rfl ?_
    refine z_ldc C dX4_tooMany_34 kX4_21 ?_
    refine z_icmp_le 43 C dX4_tooMany_36 (by decide) gv2 (by decide) (fun e1 => ?_) (fun e1 => ?_)
    ·
      have h := (if_pos e1).symm.trans h
      refine z_iconst C dX4_tooMany_43 ?_
      exact y_zretP C dX4_tooMany_44 h (by decide)
    ·
      have h := (if_neg e1).symm.trans h
      refine z_iconst C dX4_tooMany_39 ?_
      refine z_goto 44 C dX4_tooMany_40 (by decide) ?_
      exact y_zretP C dX4_tooMany_44 h (by decide)
  have hb4 : ∀ (o0 : Nat) (v1 : Int) (v2 : Int) (v3 : Int), (rg v1) → (rg v2) → (rg v3) → uX4_tooMany_b4 o0 v1 v2 v3 M0 = some R → Jz G σ p l e R0 s m args below meth c 4 0 0 (Qb R M0) M0 0 0 4 [(0, .ref (G.2.2 + o0)), (1, .int (iv v1)), (2, .int (iv v2)), (3, .int (iv v3))] [] := by
    intro o0 v1 v2 v3  gv1 gv2 gv3 h
    unfold uX4_tooMany_b4 at h
    obtain ⟨b4, hb4_, hc4⟩ := bnd h
    have hL4 : ∀ (n : Nat) (v2 : Int) (v3 : Int), (rg v2) → (rg v3) → lp (uX4_tooMany_f4 o0 v1 M0) n (v2, v3) = some b4 → Jz G σ p l e R0 s m args below meth c 4 0 0 (Qb R M0) M0 0 0 4 [(0, .ref (G.2.2 + o0)), (1, .int (iv v1)), (2, .int (iv v2)), (3, .int (iv v3))] [] := by
      intro n; induction n with
      | zero => intro v2 v3 gv2 gv3 hq; exact (lp_0 hq).elim
      | succ n4 ih4 =>
        intro v2 v3 gv2 gv3 hq
        obtain ⟨z4, h, hZ4⟩ := lp_s hq
        have h : uX4_tooMany_s4 o0 v1 M0 v2 v3 = some z4 := h
        unfold uX4_tooMany_s4 at h
        refine z_iload_n C dX4_tooMany_4 3 rfl ?_
        refine z_iload_n C dX4_tooMany_5 1 rfl ?_
        refine z_icmp_ge 33 C dX4_tooMany_6 (by decide) gv3 gv1 (fun e2 => ?_) (fun e2 => ?_)
        ·
          have h := (if_pos e2).symm.trans h
          have h : uX4_tooMany_b33 v2 M0 = some R := lp_ex (K := (uX4_tooMany_c4 o0 v1 M0)) h hZ4 hc4
          refine z_drop (lv' := [(2, .int (iv v2))]) [2] rfl ?_
          exact hb33 v2  gv2 h
        ·
          have h := (if_neg e2).symm.trans h
          refine z_iload_n C dX4_tooMany_9 2 rfl ?_
          refine z_ldc C dX4_tooMany_10 kX4_21 ?_
          refine z_icmp_gt 33 C dX4_tooMany_12 (by decide) gv2 (by decide) (fun e3 => ?_) (fun e3 => ?_)
          ·
            have h := (if_pos e3).symm.trans h
            have h : uX4_tooMany_b33 v2 M0 = some R := lp_ex (K := (uX4_tooMany_c4 o0 v1 M0)) h hZ4 hc4
            refine z_drop (lv' := [(2, .int (iv v2))]) [2] rfl ?_
            exact hb33 v2  gv2 h
          ·
            have h := (if_neg e3).symm.trans h
            refine z_iload_n C dX4_tooMany_15 2 rfl ?_
            refine z_aload_n C dX4_tooMany_16 0 rfl ?_
            obtain ⟨x4, hx4, h⟩ := bnd h
            refine y_getI C dX4_tooMany_17 fX4_22 rfl hx4 (fun gx4 => ?_)
            refine z_aload_n C dX4_tooMany_20 0 rfl ?_
            obtain ⟨x5, hx5, h⟩ := bnd h
            refine y_getI C dX4_tooMany_21 fX4_27 rfl hx5 (fun gx5 => ?_)
            refine y_imul C dX4_tooMany_24 ?_
            refine y_imul C dX4_tooMany_25 ?_
            refine z_istore_n (lv' := [(0, .ref (G.2.2 + o0)), (1, .int (iv v1)), (2, .int (iv (w32 (v2 * (w32 (x4 * x5)))))), (3, .int (iv v3))]) C dX4_tooMany_26 rfl (by decide) [1, 2, 0, 3] rfl ?_
            refine y_iinc (lv' := [(0, .ref (G.2.2 + o0)), (1, .int (iv v1)), (2, .int (iv (w32 (v2 * (w32 (x4 * x5)))))), (3, .int (iv (w32 (v3 + 1))))]) C dX4_tooMany_27 3 rfl (by decide) [1, 2, 3, 0] rfl ?_
            refine z_goto 4 C dX4_tooMany_30 (by decide) ?_
            exact ih4 (w32 (v2 * (w32 (x4 * x5)))) (w32 (v3 + 1)) (w32_rng _) (w32_rng _) (lp_back h hZ4)
    exact hL4 _ v2 v3 gv2 gv3 hb4_
  unfold uX4_tooMany at h
  refine z_iconst C dX4_tooMany_0 ?_
  refine z_istore_n (lv' := [(0, .ref (G.2.2 + o0)), (1, .int (iv v1)), (2, .int (iv 1))]) C dX4_tooMany_1 rfl (by decide) [1, 2, 0] rfl ?_
  refine z_iconst C dX4_tooMany_2 ?_
  refine z_istore_n (lv' := [(0, .ref (G.2.2 + o0)), (1, .int (iv v1)), (2, .int (iv 1)), (3, .int (iv 0))]) C dX4_tooMany_3 rfl (by decide) [1, 2, 3, 0] rfl ?_
  exact hb4 o0 v1 1 0  gv1 (by decide) (by decide) h

set_option maxHeartbeats 4000000 in
set_option maxRecDepth 100000 in
theorem tX4_turnRow {G : Gx} {σ : State} (hC : Cy G σ) (o0 : Nat) (v1 : Int) {M0 : Mm} (gv1 : rg v1) {R : Int × Mm} (h : uX4_turnRow o0 v1 M0 = some R) : Ct G σ (1) yX4_turnRow cX4_turnRow 3 (some .boolean) [.ref (G.2.2 + o0), .int (iv v1)] M0 0 0 (Qb R.1 R.2) := by
  refine Ct.of hC.1 (by decide +kernel) (Nat.le_of_ble_eq_true rfl) ?_
  intro p l e R0 s m args below meth c C
  show Jz G σ p l e R0 s m args below meth c 3 0 0 (Qb R.1 R.2) M0 0 0 0 [(0, .ref (G.2.2 + o0)), (1, .int (iv v1))] []
  have hb45 : ∀  (M : Mm), uX4_turnRow_b45 M = some R → Jz G σ p l e R0 s m args below meth c 3 0 0 (Qb R.1 R.2) M 0 0 45 [] [] := by
    intro  M  h
    unfold uX4_turnRow_b45 at h
    refine z_iconst C dX4_turnRow_45 ?_
    exact y_zretB C dX4_turnRow_46 h (by decide)
  have hb2 : ∀ (o0 : Nat) (v1 : Int) (v2 : Int) (M : Mm), (rg v1) → (rg v2) → uX4_turnRow_b2 o0 v1 v2 M = some R → Jz G σ p l e R0 s m args below meth c 3 0 0 (Qb R.1 R.2) M 0 0 2 [(0, .ref (G.2.2 + o0)), (1, .int (iv v1)), (2, .int (iv v2))] [] := by
    intro o0 v1 v2 M gv1 gv2 h
    unfold uX4_turnRow_b2 at h
    obtain ⟨b2, hb2_, hc2⟩ := bnd h
    have hL2 : ∀ (n : Nat) (v2 : Int) (M : Mm), (rg v2) → lp (uX4_turnRow_f2 o0 v1) n (v2, M) = some b2 → Jz G σ p l e R0 s m args below meth c 3 0 0 (Qb R.1 R.2) M 0 0 2 [(0, .ref (G.2.2 + o0)), (1, .int (iv v1)), (2, .int (iv v2))] [] := by
      intro n; induction n with
      | zero => intro v2 M gv2 hq; exact (lp_0 hq).elim
      | succ n2 ih2 =>
        intro v2 M gv2 hq
        obtain ⟨z2, h, hZ2⟩ := lp_s hq
        have h : uX4_turnRow_s2 o0 v1 v2 M = some z2 := h
        unfold uX4_turnRow_s2 at h
        refine z_iload_n C dX4_turnRow_2 2 rfl ?_
        refine z_aload_n C dX4_turnRow_3 0 rfl ?_
        obtain ⟨x1, hx1, h⟩ := bnd h
        refine y_getI C dX4_turnRow_4 fX4_35 rfl hx1 (fun gx1 => ?_)
        refine z_icmp_ge 45 C dX4_turnRow_7 (by decide) gv2 gx1 (fun e2 => ?_) (fun e2 => ?_)
        ·
          have h := (if_pos e2).symm.trans h
          have h : uX4_turnRow_b45 M = some R := lp_ex (K := (uX4_turnRow_c2 o0 v1)) h hZ2 hc2
          refine z_drop (lv' := []) [] rfl ?_
          exact hb45  M  h
        ·
          have h := (if_neg e2).symm.trans h
          refine z_aload_n C dX4_turnRow_10 0 rfl ?_
          obtain ⟨on3, hon3, h⟩ := bnd h
          refine y_getR C dX4_turnRow_11 fX4_18 rfl hon3 ?_
          refine z_iload_n C dX4_turnRow_14 2 rfl ?_
          refine z_dup2 C dX4_turnRow_15 rfl rfl ?_
          obtain ⟨x4, hx4, h⟩ := bnd h
          refine y_iald C dX4_turnRow_16 hx4 (fun gx4 => ?_)
          refine z_iconst C dX4_turnRow_17 ?_
          refine y_iadd C dX4_turnRow_18 ?_
          obtain ⟨M5, hM5, h⟩ := bnd h
          refine y_iast C dX4_turnRow_19 hM5 ?_
          refine z_aload_n C dX4_turnRow_20 0 rfl ?_
          obtain ⟨on6, hon6, h⟩ := bnd h
          refine y_getR C dX4_turnRow_21 fX4_18 rfl hon6 ?_
          refine z_iload_n C dX4_turnRow_24 2 rfl ?_
          obtain ⟨x7, hx7, h⟩ := bnd h
          refine y_iald C dX4_turnRow_25 hx7 (fun gx7 => ?_)
          refine z_iload_n C dX4_turnRow_26 1 rfl ?_
          refine z_icmp_ge 32 C dX4_turnRow_27 (by decide) gx7 gv1 (fun e8 => ?_) (fun e8 => ?_)
          ·
            have h := (if_pos e8).symm.trans h
            refine z_aload_n C dX4_turnRow_32 0 rfl ?_
            obtain ⟨on9, hon9, h⟩ := bnd h
            refine y_getR C dX4_turnRow_33 fX4_18 rfl hon9 ?_
            refine z_iload_n C dX4_turnRow_36 2 rfl ?_
            refine z_iconst C dX4_turnRow_37 ?_
            obtain ⟨M10, hM10, h⟩ := bnd h
            refine y_iast C dX4_turnRow_38 hM10 ?_
            refine y_iinc (lv' := [(0, .ref (G.2.2 + o0)), (1, .int (iv v1)), (2, .int (iv (w32 (v2 + 1))))]) C dX4_turnRow_39 2 rfl (by decide) [1, 2, 0] rfl ?_
            refine z_goto 2 C dX4_turnRow_42 (by decide) ?_
            exact ih2 (w32 (v2 + 1)) M10 (w32_rng _) (lp_back h hZ2)
          ·
            have h := (if_neg e8).symm.trans h
            refine z_iconst C dX4_turnRow_30 ?_
            have h := lp_ret (K := (uX4_turnRow_c2 o0 v1)) h hZ2 hc2
            exact y_zretB C dX4_turnRow_31 h (by decide)
    exact hL2 _ v2 M gv2 hb2_
  unfold uX4_turnRow at h
  refine z_iconst C dX4_turnRow_0 ?_
  refine z_istore_n (lv' := [(0, .ref (G.2.2 + o0)), (1, .int (iv v1)), (2, .int (iv 0))]) C dX4_turnRow_1 rfl (by decide) [1, 2, 0] rfl ?_
  exact hb2 o0 v1 0 M0 gv1 (by decide) h

set_option maxHeartbeats 4000000 in
set_option maxRecDepth 100000 in
theorem tX5_init {G : Gx} {σ : State} (hC : Cy G σ) (o0 : Nat) {M0 : Mm}  {R : Mm} (h : uX5_init o0 M0 = some R) : Ct G σ (1) yX5_init cX5_init 1 none [.ref (G.2.2 + o0)] M0 3 120 (Qv R) := by
  refine Ct.of hC.1 (by decide +kernel) (Nat.le_of_ble_eq_true rfl) ?_
  intro p l e R0 s m args below meth c C
  show Jz G σ p l e R0 s m args below meth c 1 3 120 (Qv R) M0 0 0 0 [(0, .ref (G.2.2 + o0))] []
  unfold uX5_init at h
  refine z_aload_n C dX5_init_0 0 rfl ?_
  refine z_objInit C dX5_init_1 (gt_1 (i := 149) (by decide +kernel) (by decide +kernel)) oi_in oi_co (by decide) (Nat.le_of_ble_eq_true rfl) ?_
  refine z_aload_n C dX5_init_4 0 rfl ?_
  refine z_bipush C dX5_init_5 (by decide) ?_
  refine y_newI 40 C dX5_init_7 rfl (by decide) (by omega) (by omega) ?_
  obtain ⟨M1, hM1, h⟩ := bnd h
  refine y_putFR C dX5_init_9 clX5 (by decide) fX5_11_l rfl rfl rfl rfl rfl rfl hM1 ?_
  refine z_aload_n C dX5_init_12 0 rfl ?_
  refine z_bipush C dX5_init_13 (by decide) ?_
  refine y_newI 40 C dX5_init_15 rfl (by decide) (by omega) (by omega) ?_
  obtain ⟨M2, hM2, h⟩ := bnd h
  refine y_putFR C dX5_init_17 clX5 (by decide) fX5_15_l rfl rfl rfl rfl rfl rfl hM2 ?_
  refine z_aload_n C dX5_init_20 0 rfl ?_
  refine z_bipush C dX5_init_21 (by decide) ?_
  refine y_newI 40 C dX5_init_23 rfl (by decide) (by omega) (by omega) ?_
  obtain ⟨M3, hM3, h⟩ := bnd h
  refine y_putFR C dX5_init_25 clX5 (by decide) fX5_18_l rfl rfl rfl rfl rfl rfl hM3 ?_
  exact y_retV C dX5_init_28 h

set_option maxHeartbeats 4000000 in
set_option maxRecDepth 100000 in
theorem tX5_clear {G : Gx} {σ : State} (hC : Cy G σ) (o0 : Nat) {M0 : Mm}  {R : Mm} (h : uX5_clear o0 M0 = some R) : Ct G σ (1) yX5_clear cX5_clear 1 none [.ref (G.2.2 + o0)] M0 0 0 (Qv R) := by
  refine Ct.of hC.1 (by decide +kernel) (Nat.le_of_ble_eq_true rfl) ?_
  intro p l e R0 s m args below meth c C
  show Jz G σ p l e R0 s m args below meth c 1 0 0 (Qv R) M0 0 0 0 [(0, .ref (G.2.2 + o0))] []
  unfold uX5_clear at h
  refine z_aload_n C dX5_clear_0 0 rfl ?_
  refine z_iconst C dX5_clear_1 ?_
  obtain ⟨M1, hM1, h⟩ := bnd h
  refine y_putI C dX5_clear_2 fX5_21 rfl rfl rfl rfl hM1 ?_
  refine z_aload_n C dX5_clear_5 0 rfl ?_
  refine z_iconst C dX5_clear_6 ?_
  obtain ⟨M2, hM2, h⟩ := bnd h
  refine y_putI C dX5_clear_7 fX5_25 rfl rfl rfl rfl hM2 ?_
  exact y_retV C dX5_clear_10 h

set_option maxHeartbeats 4000000 in
set_option maxRecDepth 100000 in
theorem tX5_copyFrom {G : Gx} {σ : State} (hC : Cy G σ) (o0 : Nat) (o1 : Nat) {M0 : Mm}  {R : Mm} (h : uX5_copyFrom o0 o1 M0 = some R) : Ct G σ (1) yX5_copyFrom cX5_copyFrom 2 none [.ref (G.2.2 + o0), .ref (G.2.2 + o1)] M0 0 0 (Qv R) := by
  refine Ct.of hC.1 (by decide +kernel) (Nat.le_of_ble_eq_true rfl) ?_
  intro p l e R0 s m args below meth c C
  show Jz G σ p l e R0 s m args below meth c 2 0 0 (Qv R) M0 0 0 0 [(0, .ref (G.2.2 + o0)), (1, .ref (G.2.2 + o1))] []
  unfold uX5_copyFrom at h
  refine z_aload_n C dX5_copyFrom_0 0 rfl ?_
  refine z_aload_n C dX5_copyFrom_1 1 rfl ?_
  obtain ⟨x1, hx1, h⟩ := bnd h
  refine y_getI C dX5_copyFrom_2 fX5_21 rfl hx1 (fun gx1 => ?_)
  obtain ⟨M2, hM2, h⟩ := bnd h
  refine y_putI C dX5_copyFrom_5 fX5_21 rfl rfl rfl rfl hM2 ?_
  refine z_aload_n C dX5_copyFrom_8 0 rfl ?_
  refine z_aload_n C dX5_copyFrom_9 1 rfl ?_
  obtain ⟨x3, hx3, h⟩ := bnd h
  refine y_getI C dX5_copyFrom_10 fX5_25 rfl hx3 (fun gx3 => ?_)
  obtain ⟨M4, hM4, h⟩ := bnd h
  refine y_putI C dX5_copyFrom_13 fX5_25 rfl rfl rfl rfl hM4 ?_
  refine z_aload_n C dX5_copyFrom_16 1 rfl ?_
  obtain ⟨on5, hon5, h⟩ := bnd h
  refine y_getR C dX5_copyFrom_17 fX5_11 rfl hon5 ?_
  refine z_iconst C dX5_copyFrom_20 ?_
  refine z_aload_n C dX5_copyFrom_21 0 rfl ?_
  obtain ⟨on6, hon6, h⟩ := bnd h
  refine y_getR C dX5_copyFrom_22 fX5_11 rfl hon6 ?_
  refine z_iconst C dX5_copyFrom_25 ?_
  refine z_bipush C dX5_copyFrom_26 (by decide) ?_
  obtain ⟨M7, hM7, h⟩ := bnd h
  refine y_cpy C dX5_copyFrom_28 (gt_5 (i := 48) (by decide +kernel) (by decide +kernel)) hM7 (by decide) (Nat.le_of_ble_eq_true rfl) ?_
  refine z_aload_n C dX5_copyFrom_31 1 rfl ?_
  obtain ⟨on8, hon8, h⟩ := bnd h
  refine y_getR C dX5_copyFrom_32 fX5_15 rfl hon8 ?_
  refine z_iconst C dX5_copyFrom_35 ?_
  refine z_aload_n C dX5_copyFrom_36 0 rfl ?_
  obtain ⟨on9, hon9, h⟩ := bnd h
  refine y_getR C dX5_copyFrom_37 fX5_15 rfl hon9 ?_
  refine z_iconst C dX5_copyFrom_40 ?_
  refine z_bipush C dX5_copyFrom_41 (by decide) ?_
  obtain ⟨M10, hM10, h⟩ := bnd h
  refine y_cpy C dX5_copyFrom_43 (gt_5 (i := 48) (by decide +kernel) (by decide +kernel)) hM10 (by decide) (Nat.le_of_ble_eq_true rfl) ?_
  refine z_aload_n C dX5_copyFrom_46 1 rfl ?_
  obtain ⟨on11, hon11, h⟩ := bnd h
  refine y_getR C dX5_copyFrom_47 fX5_18 rfl hon11 ?_
  refine z_iconst C dX5_copyFrom_50 ?_
  refine z_aload_n C dX5_copyFrom_51 0 rfl ?_
  obtain ⟨on12, hon12, h⟩ := bnd h
  refine y_getR C dX5_copyFrom_52 fX5_18 rfl hon12 ?_
  refine z_iconst C dX5_copyFrom_55 ?_
  refine z_bipush C dX5_copyFrom_56 (by decide) ?_
  obtain ⟨M13, hM13, h⟩ := bnd h
  refine y_cpy C dX5_copyFrom_58 (gt_5 (i := 48) (by decide +kernel) (by decide +kernel)) hM13 (by decide) (Nat.le_of_ble_eq_true rfl) ?_
  exact y_retV C dX5_copyFrom_61 h

set_option maxHeartbeats 4000000 in
set_option maxRecDepth 100000 in
theorem tX5_add {G : Gx} {σ : State} (hC : Cy G σ) (o0 : Nat) (v1 : Int) (v2 : Int) (v3 : Int) {M0 : Mm} (gv1 : rg v1) (gv2 : rg v2) (gv3 : rg v3) {R : Mm} (h : uX5_add o0 v1 v2 v3 M0 = some R) : Ct G σ (1) yX5_add cX5_add 4 none [.ref (G.2.2 + o0), .int (iv v1), .int (iv v2), .int (iv v3)] M0 0 0 (Qv R) := by
  refine Ct.of hC.1 (by decide +kernel) (Nat.le_of_ble_eq_true rfl) ?_
  intro p l e R0 s m args below meth c C
  show Jz G σ p l e R0 s m args below meth c 4 0 0 (Qv R) M0 0 0 0 [(0, .ref (G.2.2 + o0)), (1, .int (iv v1)), (2, .int (iv v2)), (3, .int (iv v3))] []
  unfold uX5_add at h
  refine z_aload_n C dX5_add_0 0 rfl ?_
  obtain ⟨x1, hx1, h⟩ := bnd h
  refine y_getI C dX5_add_1 fX5_25 rfl hx1 (fun gx1 => ?_)
  refine z_bipush C dX5_add_4 (by decide) ?_
  refine z_icmp_lt 10 C dX5_add_6 (by decide) gx1 (by decide) (fun e2 => ?_) (fun e2 => ?_)
  ·
    have h := (if_pos e2).symm.trans h
    refine z_aload_n C dX5_add_10 0 rfl ?_
    obtain ⟨on3, hon3, h⟩ := bnd h
    refine y_getR C dX5_add_11 fX5_11 rfl hon3 ?_
    refine z_aload_n C dX5_add_14 0 rfl ?_
    obtain ⟨x4, hx4, h⟩ := bnd h
    refine y_getI C dX5_add_15 fX5_25 rfl hx4 (fun gx4 => ?_)
    refine z_iload_n C dX5_add_18 1 rfl ?_
    obtain ⟨M5, hM5, h⟩ := bnd h
    refine y_iast C dX5_add_19 hM5 ?_
    refine z_aload_n C dX5_add_20 0 rfl ?_
    obtain ⟨on6, hon6, h⟩ := bnd h
    refine y_getR C dX5_add_21 fX5_15 rfl hon6 ?_
    refine z_aload_n C dX5_add_24 0 rfl ?_
    obtain ⟨x7, hx7, h⟩ := bnd h
    refine y_getI C dX5_add_25 fX5_25 rfl hx7 (fun gx7 => ?_)
    refine z_iload_n C dX5_add_28 2 rfl ?_
    obtain ⟨M8, hM8, h⟩ := bnd h
    refine y_iast C dX5_add_29 hM8 ?_
    refine z_aload_n C dX5_add_30 0 rfl ?_
    obtain ⟨on9, hon9, h⟩ := bnd h
    refine y_getR C dX5_add_31 fX5_18 rfl hon9 ?_
    refine z_aload_n C dX5_add_34 0 rfl ?_
    obtain ⟨x10, hx10, h⟩ := bnd h
    refine y_getI C dX5_add_35 fX5_25 rfl hx10 (fun gx10 => ?_)
    refine z_iload_n C dX5_add_38 3 rfl ?_
    obtain ⟨M11, hM11, h⟩ := bnd h
    refine y_iast C dX5_add_39 hM11 ?_
    refine z_aload_n C dX5_add_40 0 rfl ?_
    refine z_dup C dX5_add_41 rfl ?_
    obtain ⟨x12, hx12, h⟩ := bnd h
    refine y_getI C dX5_add_42 fX5_25 rfl hx12 (fun gx12 => ?_)
    refine z_iconst C dX5_add_45 ?_
    refine y_iadd C dX5_add_46 ?_
    obtain ⟨M13, hM13, h⟩ := bnd h
    refine y_putI C dX5_add_47 fX5_25 rfl rfl rfl rfl hM13 ?_
    exact y_retV C dX5_add_50 h
  ·
    have h := (if_neg e2).symm.trans h
    exact y_retV C dX5_add_9 h

set_option maxHeartbeats 4000000 in
set_option maxRecDepth 100000 in
theorem tX5_compares {G : Gx} {σ : State} (hC : Cy G σ) (o0 : Nat) (v1 : Int) (v2 : Int) {M0 : Mm} (gv1 : rg v1) (gv2 : rg v2) {R : Int} (h : uX5_compares o0 v1 v2 M0 = some R) : Ct G σ (1) yX5_compares cX5_compares 3 (some .boolean) [.ref (G.2.2 + o0), .int (iv v1), .int (iv v2)] M0 0 0 (Qb R M0) := by
  refine Ct.of hC.1 (by decide +kernel) (Nat.le_of_ble_eq_true rfl) ?_
  intro p l e R0 s m args below meth c C
  show Jz G σ p l e R0 s m args below meth c 3 0 0 (Qb R M0) M0 0 0 0 [(0, .ref (G.2.2 + o0)), (1, .int (iv v1)), (2, .int (iv v2))] []
  unfold uX5_compares at h
  refine z_aload_n C dX5_compares_0 0 rfl ?_
  obtain ⟨on1, hon1, h⟩ := bnd h
  refine y_getR C dX5_compares_1 fX5_15 rfl hon1 ?_
  refine z_iload_n C dX5_compares_4 2 rfl ?_
  obtain ⟨x2, hx2, h⟩ := bnd h
  refine y_iald C dX5_compares_5 hx2 (fun gx2 => ?_)
  refine z_iconst C dX5_compares_6 ?_
  refine z_icmp_ne 26 C dX5_compares_7 (by decide) gx2 (by decide) (fun e3 => ?_) (fun e3 => ?_)
  ·
    have h := (if_neg e3).symm.trans h
    refine z_aload_n C dX5_compares_26 0 rfl ?_
    obtain ⟨on4, hon4, h⟩ := bnd h
    refine y_getR C dX5_compares_27 fX5_15 rfl hon4 ?_
    refine z_iload_n C dX5_compares_30 2 rfl ?_
    obtain ⟨x5, hx5, h⟩ := bnd h
    refine y_iald C dX5_compares_31 hx5 (fun gx5 => ?_)
    refine z_bipush C dX5_compares_32 (by decide) ?_
    refine z_icmp_ne 53 C dX5_compares_34 (by decide) gx5 (by decide) (fun e6 => ?_) (fun e6 => ?_)
    ·
      have h := (if_neg e6).symm.trans h
      refine z_iload_n C dX5_compares_53 1 rfl ?_
      refine z_aload_n C dX5_compares_54 0 rfl ?_
      obtain ⟨on7, hon7, h⟩ := bnd h
      refine y_getR C dX5_compares_55 fX5_18 rfl hon7 ?_
      refine z_iload_n C dX5_compares_58 2 rfl ?_
      obtain ⟨x8, hx8, h⟩ := bnd h
      refine y_iald C dX5_compares_59 hx8 (fun gx8 => ?_)
      refine z_icmp_ne 67 C dX5_compares_60 (by decide) gv1 gx8 (fun e9 => ?_) (fun e9 => ?_)
      ·
        have h := (if_neg e9).symm.trans h
        refine z_iconst C dX5_compares_67 ?_
        exact y_zretP C dX5_compares_68 h (by decide)
      ·
        have h := (if_pos e9).symm.trans h
        refine z_iconst C dX5_compares_63 ?_
        refine z_goto 68 C dX5_compares_64 (by decide) ?_
        exact y_zretP C dX5_compares_68 h (by decide)
    ·
      have h := (if_pos e6).symm.trans h
      refine z_iload_n C dX5_compares_37 1 rfl ?_
      refine z_aload_n C dX5_compares_38 0 rfl ?_
      obtain ⟨on10, hon10, h⟩ := bnd h
      refine y_getR C dX5_compares_39 fX5_18 rfl hon10 ?_
      refine z_iload_n C dX5_compares_42 2 rfl ?_
      obtain ⟨x11, hx11, h⟩ := bnd h
      refine y_iald C dX5_compares_43 hx11 (fun gx11 => ?_)
      refine z_icmp_le 51 C dX5_compares_44 (by decide) gv1 gx11 (fun e12 => ?_) (fun e12 => ?_)
      ·
        have h := (if_pos e12).symm.trans h
        refine z_iconst C dX5_compares_51 ?_
        exact y_zretP C dX5_compares_52 h (by decide)
      ·
        have h := (if_neg e12).symm.trans h
        refine z_iconst C dX5_compares_47 ?_
        refine z_goto 52 C dX5_compares_48 (by decide) ?_
        exact y_zretP C dX5_compares_52 h (by decide)
  ·
    have h := (if_pos e3).symm.trans h
    refine z_iload_n C dX5_compares_10 1 rfl ?_
    refine z_aload_n C dX5_compares_11 0 rfl ?_
    obtain ⟨on13, hon13, h⟩ := bnd h
    refine y_getR C dX5_compares_12 fX5_18 rfl hon13 ?_
    refine z_iload_n C dX5_compares_15 2 rfl ?_
    obtain ⟨x14, hx14, h⟩ := bnd h
    refine y_iald C dX5_compares_16 hx14 (fun gx14 => ?_)
    refine z_icmp_ge 24 C dX5_compares_17 (by decide) gv1 gx14 (fun e15 => ?_) (fun e15 => ?_)
    ·
      have h := (if_pos e15).symm.trans h
      refine z_iconst C dX5_compares_24 ?_
      exact y_zretP C dX5_compares_25 h (by decide)
    ·
      have h := (if_neg e15).symm.trans h
      refine z_iconst C dX5_compares_20 ?_
      refine z_goto 25 C dX5_compares_21 (by decide) ?_
      exact y_zretP C dX5_compares_25 h (by decide)

set_option maxHeartbeats 4000000 in
set_option maxRecDepth 100000 in
theorem tX6_init {G : Gx} {σ : State} (hC : Cy G σ) (o0 : Nat) (v1 : Int) (v2 : Int) {M0 : Mm} (gv1 : rg v1) (gv2 : rg v2) {R : Mm} (h : uX6_init o0 v1 v2 M0 = some R) : Ct G σ (1) yX6_init cX6_init 3 none [.ref (G.2.2 + o0), .int (iv v1), .int (iv v2)] M0 1 4000 (Qv R) := by
  refine Ct.of hC.1 (by decide +kernel) (Nat.le_of_ble_eq_true rfl) ?_
  intro p l e R0 s m args below meth c C
  show Jz G σ p l e R0 s m args below meth c 3 1 4000 (Qv R) M0 0 0 0 [(0, .ref (G.2.2 + o0)), (1, .int (iv v1)), (2, .int (iv v2))] []
  unfold uX6_init at h
  refine z_aload_n C dX6_init_0 0 rfl ?_
  refine z_objInit C dX6_init_1 (gt_2 (i := 28) (by decide +kernel) (by decide +kernel)) oi_in oi_co (by decide) (Nat.le_of_ble_eq_true rfl) ?_
  refine z_aload_n C dX6_init_4 0 rfl ?_
  refine z_iload_n C dX6_init_5 2 rfl ?_
  obtain ⟨M1, hM1, h⟩ := bnd h
  refine y_putFI C dX6_init_6 clX6 (by decide) fX6_9_l rfl rfl rfl rfl rfl rfl hM1 ?_
  refine z_aload_n C dX6_init_9 0 rfl ?_
  refine z_iload_n C dX6_init_10 1 rfl ?_
  refine z_iload_n C dX6_init_11 2 rfl ?_
  refine y_imul C dX6_init_12 ?_
  obtain ⟨u2, hu2, h⟩ := bnd h
  refine y_newI u2 C dX6_init_13 (nA_eq hu2) (nA_lt hu2) (by omega) (by have := nA_lt2 hu2; omega) ?_
  refine y_widen (k1 := 1) (n1 := 4000) (by omega) (by have := nA_lt2 hu2; omega) ?_
  obtain ⟨M3, hM3, h⟩ := bnd h
  refine y_putFR C dX6_init_15 clX6 (by decide) fX6_15_l rfl rfl rfl rfl rfl rfl hM3 ?_
  exact y_retV C dX6_init_18 h

set_option maxHeartbeats 4000000 in
set_option maxRecDepth 100000 in
theorem tX6_at {G : Gx} {σ : State} (hC : Cy G σ) (o0 : Nat) (v1 : Int) (v2 : Int) {M0 : Mm} (gv1 : rg v1) (gv2 : rg v2) {R : Int} (h : uX6_at o0 v1 v2 M0 = some R) : Ct G σ (1) yX6_at cX6_at 4 (some .int) [.ref (G.2.2 + o0), .int (iv v1), .int (iv v2)] M0 0 0 (Qi R M0) := by
  refine Ct.of hC.1 (by decide +kernel) (Nat.le_of_ble_eq_true rfl) ?_
  intro p l e R0 s m args below meth c C
  show Jz G σ p l e R0 s m args below meth c 4 0 0 (Qi R M0) M0 0 0 0 [(0, .ref (G.2.2 + o0)), (1, .int (iv v1)), (2, .int (iv v2))] []
  unfold uX6_at at h
  refine z_iload_n C dX6_at_0 1 rfl ?_
  refine z_aload_n C dX6_at_1 0 rfl ?_
  obtain ⟨x1, hx1, h⟩ := bnd h
  refine y_getI C dX6_at_2 fX6_9 rfl hx1 (fun gx1 => ?_)
  refine y_imul C dX6_at_5 ?_
  refine z_iload_n C dX6_at_6 2 rfl ?_
  refine y_iadd C dX6_at_7 ?_
  refine z_istore_n (lv' := [(0, .ref (G.2.2 + o0)), (1, .int (iv v1)), (2, .int (iv v2)), (3, .int (iv (w32 ((w32 (v1 * x1)) + v2))))]) C dX6_at_8 rfl (by decide) [1, 2, 3, 0] rfl ?_
  refine z_iload_n C dX6_at_9 1 rfl ?_
  refine z_if_lt 43 C dX6_at_10 (by decide) gv1 (fun e2 => ?_) (fun e2 => ?_)
  ·
    have h := (if_pos e2).symm.trans h
    refine z_iconst C dX6_at_43 ?_
    exact y_iretP C dX6_at_44 h (by decide)
  ·
    have h := (if_neg e2).symm.trans h
    refine z_iload_n C dX6_at_13 2 rfl ?_
    refine z_if_lt 43 C dX6_at_14 (by decide) gv2 (fun e3 => ?_) (fun e3 => ?_)
    ·
      have h := (if_pos e3).symm.trans h
      refine z_iconst C dX6_at_43 ?_
      exact y_iretP C dX6_at_44 h (by decide)
    ·
      have h := (if_neg e3).symm.trans h
      refine z_iload_n C dX6_at_17 2 rfl ?_
      refine z_aload_n C dX6_at_18 0 rfl ?_
      obtain ⟨x4, hx4, h⟩ := bnd h
      refine y_getI C dX6_at_19 fX6_9 rfl hx4 (fun gx4 => ?_)
      refine z_icmp_ge 43 C dX6_at_22 (by decide) gv2 gx4 (fun e5 => ?_) (fun e5 => ?_)
      ·
        have h := (if_pos e5).symm.trans h
        refine z_iconst C dX6_at_43 ?_
        exact y_iretP C dX6_at_44 h (by decide)
      ·
        have h := (if_neg e5).symm.trans h
        refine z_iload_n C dX6_at_25 3 rfl ?_
        refine z_aload_n C dX6_at_26 0 rfl ?_
        obtain ⟨on6, hon6, h⟩ := bnd h
        refine y_getR C dX6_at_27 fX6_15 rfl hon6 ?_
        obtain ⟨x7, hx7, h⟩ := bnd h
        refine y_alen C dX6_at_30 hx7 (fun gx7 => ?_)
        refine z_icmp_ge 43 C dX6_at_31 (by decide) (w32_rng _) gx7 (fun e8 => ?_) (fun e8 => ?_)
        ·
          have h := (if_pos e8).symm.trans h
          refine z_iconst C dX6_at_43 ?_
          exact y_iretP C dX6_at_44 h (by decide)
        ·
          have h := (if_neg e8).symm.trans h
          refine z_aload_n C dX6_at_34 0 rfl ?_
          obtain ⟨on9, hon9, h⟩ := bnd h
          refine y_getR C dX6_at_35 fX6_15 rfl hon9 ?_
          refine z_iload_n C dX6_at_38 3 rfl ?_
          obtain ⟨x10, hx10, h⟩ := bnd h
          refine y_iald C dX6_at_39 hx10 (fun gx10 => ?_)
          refine z_goto 44 C dX6_at_40 (by decide) ?_
          exact y_iretP C dX6_at_44 h gx10

set_option maxHeartbeats 4000000 in
set_option maxRecDepth 100000 in
theorem tX6_put {G : Gx} {σ : State} (hC : Cy G σ) (o0 : Nat) (v1 : Int) (v2 : Int) (v3 : Int) {M0 : Mm} (gv1 : rg v1) (gv2 : rg v2) (gv3 : rg v3) {R : Mm} (h : uX6_put o0 v1 v2 v3 M0 = some R) : Ct G σ (1) yX6_put cX6_put 5 none [.ref (G.2.2 + o0), .int (iv v1), .int (iv v2), .int (iv v3)] M0 0 0 (Qv R) := by
  refine Ct.of hC.1 (by decide +kernel) (Nat.le_of_ble_eq_true rfl) ?_
  intro p l e R0 s m args below meth c C
  show Jz G σ p l e R0 s m args below meth c 5 0 0 (Qv R) M0 0 0 0 [(0, .ref (G.2.2 + o0)), (1, .int (iv v1)), (2, .int (iv v2)), (3, .int (iv v3))] []
  unfold uX6_put at h
  refine z_iload_n C dX6_put_0 1 rfl ?_
  refine z_aload_n C dX6_put_1 0 rfl ?_
  obtain ⟨x1, hx1, h⟩ := bnd h
  refine y_getI C dX6_put_2 fX6_9 rfl hx1 (fun gx1 => ?_)
  refine y_imul C dX6_put_5 ?_
  refine z_iload_n C dX6_put_6 2 rfl ?_
  refine y_iadd C dX6_put_7 ?_
  refine z_istore (lv' := [(0, .ref (G.2.2 + o0)), (1, .int (iv v1)), (2, .int (iv v2)), (3, .int (iv v3)), (4, .int (iv (w32 ((w32 (v1 * x1)) + v2))))]) C dX6_put_8 (by decide) [1, 2, 3, 4, 0] rfl ?_
  refine z_iload_n C dX6_put_10 1 rfl ?_
  refine z_if_lt 44 C dX6_put_11 (by decide) gv1 (fun e2 => ?_) (fun e2 => ?_)
  ·
    have h := (if_pos e2).symm.trans h
    exact y_retV C dX6_put_44 h
  ·
    have h := (if_neg e2).symm.trans h
    refine z_iload_n C dX6_put_14 2 rfl ?_
    refine z_if_lt 44 C dX6_put_15 (by decide) gv2 (fun e3 => ?_) (fun e3 => ?_)
    ·
      have h := (if_pos e3).symm.trans h
      exact y_retV C dX6_put_44 h
    ·
      have h := (if_neg e3).symm.trans h
      refine z_iload_n C dX6_put_18 2 rfl ?_
      refine z_aload_n C dX6_put_19 0 rfl ?_
      obtain ⟨x4, hx4, h⟩ := bnd h
      refine y_getI C dX6_put_20 fX6_9 rfl hx4 (fun gx4 => ?_)
      refine z_icmp_ge 44 C dX6_put_23 (by decide) gv2 gx4 (fun e5 => ?_) (fun e5 => ?_)
      ·
        have h := (if_pos e5).symm.trans h
        exact y_retV C dX6_put_44 h
      ·
        have h := (if_neg e5).symm.trans h
        refine z_iload C dX6_put_26 4 rfl ?_
        refine z_aload_n C dX6_put_28 0 rfl ?_
        obtain ⟨on6, hon6, h⟩ := bnd h
        refine y_getR C dX6_put_29 fX6_15 rfl hon6 ?_
        obtain ⟨x7, hx7, h⟩ := bnd h
        refine y_alen C dX6_put_32 hx7 (fun gx7 => ?_)
        refine z_icmp_ge 44 C dX6_put_33 (by decide) (w32_rng _) gx7 (fun e8 => ?_) (fun e8 => ?_)
        ·
          have h := (if_pos e8).symm.trans h
          exact y_retV C dX6_put_44 h
        ·
          have h := (if_neg e8).symm.trans h
          refine z_aload_n C dX6_put_36 0 rfl ?_
          obtain ⟨on9, hon9, h⟩ := bnd h
          refine y_getR C dX6_put_37 fX6_15 rfl hon9 ?_
          refine z_iload C dX6_put_40 4 rfl ?_
          refine z_iload_n C dX6_put_42 3 rfl ?_
          obtain ⟨M10, hM10, h⟩ := bnd h
          refine y_iast C dX6_put_43 hM10 ?_
          exact y_retV C dX6_put_44 h

set_option maxHeartbeats 4000000 in
set_option maxRecDepth 100000 in
theorem tX6_copyFrom {G : Gx} {σ : State} (hC : Cy G σ) (o0 : Nat) (o1 : Nat) (v2 : Int) {M0 : Mm} (gv2 : rg v2) {R : Mm} (h : uX6_copyFrom o0 o1 v2 M0 = some R) : Ct G σ (1) yX6_copyFrom cX6_copyFrom 4 none [.ref (G.2.2 + o0), .ref (G.2.2 + o1), .int (iv v2)] M0 0 0 (Qv R) := by
  refine Ct.of hC.1 (by decide +kernel) (Nat.le_of_ble_eq_true rfl) ?_
  intro p l e R0 s m args below meth c C
  show Jz G σ p l e R0 s m args below meth c 4 0 0 (Qv R) M0 0 0 0 [(0, .ref (G.2.2 + o0)), (1, .ref (G.2.2 + o1)), (2, .int (iv v2))] []
  unfold uX6_copyFrom at h
  refine z_iload_n C dX6_copyFrom_0 2 rfl ?_
  refine z_aload_n C dX6_copyFrom_1 0 rfl ?_
  obtain ⟨x1, hx1, h⟩ := bnd h
  refine y_getI C dX6_copyFrom_2 fX6_9 rfl hx1 (fun gx1 => ?_)
  refine y_imul C dX6_copyFrom_5 ?_
  refine z_aload_n C dX6_copyFrom_6 0 rfl ?_
  obtain ⟨on2, hon2, h⟩ := bnd h
  refine y_getR C dX6_copyFrom_7 fX6_15 rfl hon2 ?_
  obtain ⟨x3, hx3, h⟩ := bnd h
  refine y_alen C dX6_copyFrom_10 hx3 (fun gx3 => ?_)
  refine z_aload_n C dX6_copyFrom_11 1 rfl ?_
  obtain ⟨on4, hon4, h⟩ := bnd h
  refine y_getR C dX6_copyFrom_12 fX6_15 rfl hon4 ?_
  obtain ⟨x5, hx5, h⟩ := bnd h
  refine y_alen C dX6_copyFrom_15 hx5 (fun gx5 => ?_)
  refine y_min C dX6_copyFrom_16 (gt_5 (i := 88) (by decide +kernel) (by decide +kernel)) gx3 gx5 (by decide) (Nat.le_of_ble_eq_true rfl) ?_
  refine y_min C dX6_copyFrom_19 (gt_5 (i := 88) (by decide +kernel) (by decide +kernel)) (w32_rng _) (min32_rng gx3 gx5) (by decide) (Nat.le_of_ble_eq_true rfl) ?_
  refine z_istore_n (lv' := [(0, .ref (G.2.2 + o0)), (1, .ref (G.2.2 + o1)), (2, .int (iv v2)), (3, .int (iv (min32 (w32 (v2 * x1)) (min32 x3 x5))))]) C dX6_copyFrom_22 rfl (by decide) [1, 2, 3, 0] rfl ?_
  refine z_iload_n C dX6_copyFrom_23 3 rfl ?_
  refine z_if_le 41 C dX6_copyFrom_24 (by decide) (min32_rng (w32_rng _) (min32_rng gx3 gx5)) (fun e6 => ?_) (fun e6 => ?_)
  ·
    have h := (if_pos e6).symm.trans h
    exact y_retV C dX6_copyFrom_41 h
  ·
    have h := (if_neg e6).symm.trans h
    refine z_aload_n C dX6_copyFrom_27 1 rfl ?_
    obtain ⟨on7, hon7, h⟩ := bnd h
    refine y_getR C dX6_copyFrom_28 fX6_15 rfl hon7 ?_
    refine z_iconst C dX6_copyFrom_31 ?_
    refine z_aload_n C dX6_copyFrom_32 0 rfl ?_
    obtain ⟨on8, hon8, h⟩ := bnd h
    refine y_getR C dX6_copyFrom_33 fX6_15 rfl hon8 ?_
    refine z_iconst C dX6_copyFrom_36 ?_
    refine z_iload_n C dX6_copyFrom_37 3 rfl ?_
    obtain ⟨M9, hM9, h⟩ := bnd h
    refine y_cpy C dX6_copyFrom_38 (gt_5 (i := 89) (by decide +kernel) (by decide +kernel)) hM9 (by decide) (Nat.le_of_ble_eq_true rfl) ?_
    exact y_retV C dX6_copyFrom_41 h

set_option maxHeartbeats 4000000 in
set_option maxRecDepth 100000 in
theorem tX7_init {G : Gx} {σ : State} (hC : Cy G σ) (o0 : Nat) {M0 : Mm}  {R : Mm} (h : uX7_init o0 M0 = some R) : Ct G σ (1) yX7_init cX7_init 1 none [.ref (G.2.2 + o0)] M0 1 740 (Qv R) := by
  refine Ct.of hC.1 (by decide +kernel) (Nat.le_of_ble_eq_true rfl) ?_
  intro p l e R0 s m args below meth c C
  show Jz G σ p l e R0 s m args below meth c 1 1 740 (Qv R) M0 0 0 0 [(0, .ref (G.2.2 + o0))] []
  unfold uX7_init at h
  refine z_aload_n C dX7_init_0 0 rfl ?_
  refine z_objInit C dX7_init_1 (gt_1 (i := 35) (by decide +kernel) (by decide +kernel)) oi_in oi_co (by decide) (Nat.le_of_ble_eq_true rfl) ?_
  refine z_aload_n C dX7_init_4 0 rfl ?_
  refine z_sipush C dX7_init_5 (by decide) ?_
  refine y_newI 740 C dX7_init_8 rfl (by decide) (by omega) (by omega) ?_
  obtain ⟨M1, hM1, h⟩ := bnd h
  refine y_putFR C dX7_init_10 clX7 (by decide) fX7_9_l rfl rfl rfl rfl rfl rfl hM1 ?_
  exact y_retV C dX7_init_13 h

set_option maxHeartbeats 4000000 in
set_option maxRecDepth 100000 in
theorem tX7_put {G : Gx} {σ : State} (hC : Cy G σ) (o0 : Nat) (v1 : Int) {M0 : Mm} (gv1 : rg v1) {R : Mm} (h : uX7_put o0 v1 M0 = some R) : Ct G σ (1) yX7_put cX7_put 3 none [.ref (G.2.2 + o0), .int (iv v1)] M0 0 0 (Qv R) := by
  refine Ct.of hC.1 (by decide +kernel) (Nat.le_of_ble_eq_true rfl) ?_
  intro p l e R0 s m args below meth c C
  show Jz G σ p l e R0 s m args below meth c 3 0 0 (Qv R) M0 0 0 0 [(0, .ref (G.2.2 + o0)), (1, .int (iv v1))] []
  have hb49 : ∀  (M : Mm), uX7_put_b49 M = some R → Jz G σ p l e R0 s m args below meth c 3 0 0 (Qv R) M 0 0 49 [] [] := by
    intro  M  h
    unfold uX7_put_b49 at h
    exact y_retV C dX7_put_49 h
  have hb3 : ∀ (o0 : Nat) (v1 : Int) (v2 : Int) (M : Mm), (rg v1) → (rg v2) → uX7_put_b3 o0 v1 v2 M = some R → Jz G σ p l e R0 s m args below meth c 3 0 0 (Qv R) M 0 0 3 [(0, .ref (G.2.2 + o0)), (1, .int (iv v1)), (2, .int (iv v2))] [] := by
    intro o0 v1 v2 M gv1 gv2 h
    unfold uX7_put_b3 at h
    obtain ⟨b3, hb3_, hc3⟩ := bnd h
    have hL3 : ∀ (n : Nat) (v2 : Int) (M : Mm), (rg v2) → lp (uX7_put_f3 o0 v1) n (v2, M) = some b3 → Jz G σ p l e R0 s m args below meth c 3 0 0 (Qv R) M 0 0 3 [(0, .ref (G.2.2 + o0)), (1, .int (iv v1)), (2, .int (iv v2))] [] := by
      intro n; induction n with
      | zero => intro v2 M gv2 hq; exact (lp_0 hq).elim
      | succ n3 ih3 =>
        intro v2 M gv2 hq
        obtain ⟨z3, h, hZ3⟩ := lp_s hq
        have h : uX7_put_s3 o0 v1 v2 M = some z3 := h
        unfold uX7_put_s3 at h
        refine z_iload_n C dX7_put_3 2 rfl ?_
        refine z_if_lt 49 C dX7_put_4 (by decide) gv2 (fun e1 => ?_) (fun e1 => ?_)
        ·
          have h := (if_pos e1).symm.trans h
          have h : uX7_put_b49 M = some R := lp_ex (K := (uX7_put_c3 o0 v1)) h hZ3 hc3
          refine z_drop (lv' := []) [] rfl ?_
          exact hb49  M  h
        ·
          have h := (if_neg e1).symm.trans h
          refine z_aload_n C dX7_put_7 0 rfl ?_
          obtain ⟨x2, hx2, h⟩ := bnd h
          refine y_getI C dX7_put_8 fX7_15 rfl hx2 (fun gx2 => ?_)
          refine z_sipush C dX7_put_11 (by decide) ?_
          refine z_icmp_ge 43 C dX7_put_14 (by decide) gx2 (by decide) (fun e3 => ?_) (fun e3 => ?_)
          ·
            have h := (if_pos e3).symm.trans h
            refine y_iinc (lv' := [(0, .ref (G.2.2 + o0)), (1, .int (iv v1)), (2, .int (iv (w32 (v2 + (-8)))))]) C dX7_put_43 2 rfl (by decide) [1, 2, 0] rfl ?_
            refine z_goto 3 C dX7_put_46 (by decide) ?_
            exact ih3 (w32 (v2 + (-8))) M (w32_rng _) (lp_back h hZ3)
          ·
            have h := (if_neg e3).symm.trans h
            refine z_aload_n C dX7_put_17 0 rfl ?_
            obtain ⟨on4, hon4, h⟩ := bnd h
            refine y_getR C dX7_put_18 fX7_9 rfl hon4 ?_
            refine z_aload_n C dX7_put_21 0 rfl ?_
            obtain ⟨x5, hx5, h⟩ := bnd h
            refine y_getI C dX7_put_22 fX7_15 rfl hx5 (fun gx5 => ?_)
            refine z_iload_n C dX7_put_25 1 rfl ?_
            refine z_iload_n C dX7_put_26 2 rfl ?_
            refine z_iushr (ushr32 v1 v2) C dX7_put_27 (iv_self _).symm ?_
            refine z_sipush C dX7_put_28 (by decide) ?_
            refine z_iand (and32 (ushr32 v1 v2) 255) C dX7_put_31 (iv_self _).symm ?_
            obtain ⟨M6, hM6, h⟩ := bnd h
            refine y_iast C dX7_put_32 hM6 ?_
            refine z_aload_n C dX7_put_33 0 rfl ?_
            refine z_dup C dX7_put_34 rfl ?_
            obtain ⟨x7, hx7, h⟩ := bnd h
            refine y_getI C dX7_put_35 fX7_15 rfl hx7 (fun gx7 => ?_)
            refine z_iconst C dX7_put_38 ?_
            refine y_iadd C dX7_put_39 ?_
            obtain ⟨M8, hM8, h⟩ := bnd h
            refine y_putI C dX7_put_40 fX7_15 rfl rfl rfl rfl hM8 ?_
            refine y_iinc (lv' := [(0, .ref (G.2.2 + o0)), (1, .int (iv v1)), (2, .int (iv (w32 (v2 + (-8)))))]) C dX7_put_43 2 rfl (by decide) [1, 2, 0] rfl ?_
            refine z_goto 3 C dX7_put_46 (by decide) ?_
            exact ih3 (w32 (v2 + (-8))) M8 (w32_rng _) (lp_back h hZ3)
    exact hL3 _ v2 M gv2 hb3_
  unfold uX7_put at h
  refine z_bipush C dX7_put_0 (by decide) ?_
  refine z_istore_n (lv' := [(0, .ref (G.2.2 + o0)), (1, .int (iv v1)), (2, .int (iv 24))]) C dX7_put_2 rfl (by decide) [1, 2, 0] rfl ?_
  exact hb3 o0 v1 24 M0 gv1 (by decide) h

set_option maxHeartbeats 4000000 in
set_option maxRecDepth 100000 in
theorem tX7_at {G : Gx} {σ : State} (hC : Cy G σ) (o0 : Nat) (v1 : Int) {M0 : Mm} (gv1 : rg v1) {R : Int} (h : uX7_at o0 v1 M0 = some R) : Ct G σ (1) yX7_at cX7_at 2 (some .int) [.ref (G.2.2 + o0), .int (iv v1)] M0 0 0 (Qi R M0) := by
  refine Ct.of hC.1 (by decide +kernel) (Nat.le_of_ble_eq_true rfl) ?_
  intro p l e R0 s m args below meth c C
  show Jz G σ p l e R0 s m args below meth c 2 0 0 (Qi R M0) M0 0 0 0 [(0, .ref (G.2.2 + o0)), (1, .int (iv v1))] []
  unfold uX7_at at h
  refine z_iload_n C dX7_at_0 1 rfl ?_
  refine z_if_lt 20 C dX7_at_1 (by decide) gv1 (fun e1 => ?_) (fun e1 => ?_)
  ·
    have h := (if_pos e1).symm.trans h
    refine z_iconst C dX7_at_20 ?_
    exact y_iretP C dX7_at_21 h (by decide)
  ·
    have h := (if_neg e1).symm.trans h
    refine z_iload_n C dX7_at_4 1 rfl ?_
    refine z_sipush C dX7_at_5 (by decide) ?_
    refine z_icmp_ge 20 C dX7_at_8 (by decide) gv1 (by decide) (fun e2 => ?_) (fun e2 => ?_)
    ·
      have h := (if_pos e2).symm.trans h
      refine z_iconst C dX7_at_20 ?_
      exact y_iretP C dX7_at_21 h (by decide)
    ·
      have h := (if_neg e2).symm.trans h
      refine z_aload_n C dX7_at_11 0 rfl ?_
      obtain ⟨on3, hon3, h⟩ := bnd h
      refine y_getR C dX7_at_12 fX7_9 rfl hon3 ?_
      refine z_iload_n C dX7_at_15 1 rfl ?_
      obtain ⟨x4, hx4, h⟩ := bnd h
      refine y_iald C dX7_at_16 hx4 (fun gx4 => ?_)
      refine z_goto 21 C dX7_at_17 (by decide) ?_
      exact y_iretP C dX7_at_21 h gx4

set_option maxHeartbeats 4000000 in
set_option maxRecDepth 100000 in
theorem tX7_begin {G : Gx} {σ : State} (hC : Cy G σ) (o0 : Nat) (v1 : Int) {M0 : Mm} (gv1 : rg v1) {R : Mm} (h : uX7_begin o0 v1 M0 = some R) : Ct G σ (1) yX7_begin cX7_begin 2 none [.ref (G.2.2 + o0), .int (iv v1)] M0 0 0 (Qv R) := by
  refine Ct.of hC.1 (by decide +kernel) (Nat.le_of_ble_eq_true rfl) ?_
  intro p l e R0 s m args below meth c C
  show Jz G σ p l e R0 s m args below meth c 2 0 0 (Qv R) M0 0 0 0 [(0, .ref (G.2.2 + o0)), (1, .int (iv v1))] []
  unfold uX7_begin at h
  refine z_aload_n C dX7_begin_0 0 rfl ?_
  refine z_iload_n C dX7_begin_1 1 rfl ?_
  obtain ⟨M1, hM1, h⟩ := bnd h
  refine y_putI C dX7_begin_2 fX7_19 rfl rfl rfl rfl hM1 ?_
  refine z_aload_n C dX7_begin_5 0 rfl ?_
  refine z_iconst C dX7_begin_6 ?_
  obtain ⟨M2, hM2, h⟩ := bnd h
  refine y_putI C dX7_begin_7 fX7_22 rfl rfl rfl rfl hM2 ?_
  exact y_retV C dX7_begin_10 h

set_option maxHeartbeats 4000000 in
set_option maxRecDepth 100000 in
theorem tX7_isBlank {G : Gx} {σ : State} (hC : Cy G σ) (v0 : Int) {M0 : Mm} (gv0 : rg v0) {R : Int} (h : uX7_isBlank v0 M0 = some R) : Ct G σ (1) yX7_isBlank cX7_isBlank 1 (some .boolean) [.int (iv v0)] M0 0 0 (Qb R M0) := by
  refine Ct.of hC.1 (by decide +kernel) (Nat.le_of_ble_eq_true rfl) ?_
  intro p l e R0 s m args below meth c C
  show Jz G σ p l e R0 s m args below meth c 1 0 0 (Qb R M0) M0 0 0 0 [(0, .int (iv v0))] []
  unfold uX7_isBlank at h
  refine z_iload_n C dX7_isBlank_0 0 rfl ?_
  refine z_bipush C dX7_isBlank_1 (by decide) ?_
  refine z_icmp_eq 12 C dX7_isBlank_3 (by decide) gv0 (by decide) (fun e1 => ?_) (fun e1 => ?_)
  ·
    have h := (if_pos e1).symm.trans h
    refine z_iconst C dX7_isBlank_12 ?_
    refine z_goto 17 C dX7_isBlank_13 (by decide) ?_
    exact y_zretP C dX7_isBlank_17 h (by decide)
  ·
    have h := (if_neg e1).symm.trans h
    refine z_iload_n C dX7_isBlank_6 0 rfl ?_
    refine z_bipush C dX7_isBlank_7 (by decide) ?_
    refine z_icmp_ne 16 C dX7_isBlank_9 (by decide) gv0 (by decide) (fun e2 => ?_) (fun e2 => ?_)
    ·
      have h := (if_neg e2).symm.trans h
      refine z_iconst C dX7_isBlank_16 ?_
      exact y_zretP C dX7_isBlank_17 h (by decide)
    ·
      have h := (if_pos e2).symm.trans h
      refine z_iconst C dX7_isBlank_12 ?_
      refine z_goto 17 C dX7_isBlank_13 (by decide) ?_
      exact y_zretP C dX7_isBlank_17 h (by decide)

set_option maxHeartbeats 4000000 in
set_option maxRecDepth 100000 in
theorem tX7_isLetter {G : Gx} {σ : State} (hC : Cy G σ) (v0 : Int) {M0 : Mm} (gv0 : rg v0) {R : Int} (h : uX7_isLetter v0 M0 = some R) : Ct G σ (1) yX7_isLetter cX7_isLetter 1 (some .boolean) [.int (iv v0)] M0 0 0 (Qb R M0) := by
  refine Ct.of hC.1 (by decide +kernel) (Nat.le_of_ble_eq_true rfl) ?_
  intro p l e R0 s m args below meth c C
  show Jz G σ p l e R0 s m args below meth c 1 0 0 (Qb R M0) M0 0 0 0 [(0, .int (iv v0))] []
  unfold uX7_isLetter at h
  refine z_iload_n C dX7_isLetter_0 0 rfl ?_
  refine z_bipush C dX7_isLetter_1 (by decide) ?_
  refine z_icmp_lt 16 C dX7_isLetter_3 (by decide) gv0 (by decide) (fun e1 => ?_) (fun e1 => ?_)
  ·
    have h := (if_pos e1).symm.trans h
    refine z_iconst C dX7_isLetter_16 ?_
    exact y_zretP C dX7_isLetter_17 h (by decide)
  ·
    have h := (if_neg e1).symm.trans h
    refine z_iload_n C dX7_isLetter_6 0 rfl ?_
    refine z_bipush C dX7_isLetter_7 (by decide) ?_
    refine z_icmp_gt 16 C dX7_isLetter_9 (by decide) gv0 (by decide) (fun e2 => ?_) (fun e2 => ?_)
    ·
      have h := (if_pos e2).symm.trans h
      refine z_iconst C dX7_isLetter_16 ?_
      exact y_zretP C dX7_isLetter_17 h (by decide)
    ·
      have h := (if_neg e2).symm.trans h
      refine z_iconst C dX7_isLetter_12 ?_
      refine z_goto 17 C dX7_isLetter_13 (by decide) ?_
      exact y_zretP C dX7_isLetter_17 h (by decide)

set_option maxHeartbeats 4000000 in
set_option maxRecDepth 100000 in
theorem tX7_isDigit {G : Gx} {σ : State} (hC : Cy G σ) (v0 : Int) {M0 : Mm} (gv0 : rg v0) {R : Int} (h : uX7_isDigit v0 M0 = some R) : Ct G σ (1) yX7_isDigit cX7_isDigit 1 (some .boolean) [.int (iv v0)] M0 0 0 (Qb R M0) := by
  refine Ct.of hC.1 (by decide +kernel) (Nat.le_of_ble_eq_true rfl) ?_
  intro p l e R0 s m args below meth c C
  show Jz G σ p l e R0 s m args below meth c 1 0 0 (Qb R M0) M0 0 0 0 [(0, .int (iv v0))] []
  unfold uX7_isDigit at h
  refine z_iload_n C dX7_isDigit_0 0 rfl ?_
  refine z_bipush C dX7_isDigit_1 (by decide) ?_
  refine z_icmp_lt 16 C dX7_isDigit_3 (by decide) gv0 (by decide) (fun e1 => ?_) (fun e1 => ?_)
  ·
    have h := (if_pos e1).symm.trans h
    refine z_iconst C dX7_isDigit_16 ?_
    exact y_zretP C dX7_isDigit_17 h (by decide)
  ·
    have h := (if_neg e1).symm.trans h
    refine z_iload_n C dX7_isDigit_6 0 rfl ?_
    refine z_bipush C dX7_isDigit_7 (by decide) ?_
    refine z_icmp_gt 16 C dX7_isDigit_9 (by decide) gv0 (by decide) (fun e2 => ?_) (fun e2 => ?_)
    ·
      have h := (if_pos e2).symm.trans h
      refine z_iconst C dX7_isDigit_16 ?_
      exact y_zretP C dX7_isDigit_17 h (by decide)
    ·
      have h := (if_neg e2).symm.trans h
      refine z_iconst C dX7_isDigit_12 ?_
      refine z_goto 17 C dX7_isDigit_13 (by decide) ?_
      exact y_zretP C dX7_isDigit_17 h (by decide)

set_option maxHeartbeats 4000000 in
set_option maxRecDepth 100000 in
theorem tX7_signKind {G : Gx} {σ : State} (hC : Cy G σ) (v0 : Int) {M0 : Mm} (gv0 : rg v0) {R : Int} (h : uX7_signKind v0 M0 = some R) : Ct G σ (1) yX7_signKind cX7_signKind 1 (some .int) [.int (iv v0)] M0 0 0 (Qi R M0) := by
  refine Ct.of hC.1 (by decide +kernel) (Nat.le_of_ble_eq_true rfl) ?_
  intro p l e R0 s m args below meth c C
  show Jz G σ p l e R0 s m args below meth c 1 0 0 (Qi R M0) M0 0 0 0 [(0, .int (iv v0))] []
  unfold uX7_signKind at h
  refine z_iload_n C dX7_signKind_0 0 rfl ?_
  by_cases e1 : v0 = 40
  ·
    have h := (if_pos e1).symm.trans h
    refine z_lookup (off := 69) 70 C dX7_signKind_1 gv0 (by decide) (by rw [e1]; rfl) (by decide) ?_
    refine z_bipush C dX7_signKind_70 (by decide) ?_
    exact y_iretP C dX7_signKind_72 h (by decide)
  have h := (if_neg e1).symm.trans h
  by_cases e2 : v0 = 41
  ·
    have h := (if_pos e2).symm.trans h
    refine z_lookup (off := 72) 73 C dX7_signKind_1 gv0 (by decide) (by rw [e2]; rfl) (by decide) ?_
    refine z_bipush C dX7_signKind_73 (by decide) ?_
    exact y_iretP C dX7_signKind_75 h (by decide)
  have h := (if_neg e2).symm.trans h
  by_cases e3 : v0 = 59
  ·
    have h := (if_pos e3).symm.trans h
    refine z_lookup (off := 59) 60 C dX7_signKind_1 gv0 (by decide) (by rw [e3]; rfl) (by decide) ?_
    refine z_iconst C dX7_signKind_60 ?_
    exact y_iretP C dX7_signKind_61 h (by decide)
  have h := (if_neg e3).symm.trans h
  by_cases e4 : v0 = 60
  ·
    have h := (if_pos e4).symm.trans h
    refine z_lookup (off := 61) 62 C dX7_signKind_1 gv0 (by decide) (by rw [e4]; rfl) (by decide) ?_
    refine z_iconst C dX7_signKind_62 ?_
    exact y_iretP C dX7_signKind_63 h (by decide)
  have h := (if_neg e4).symm.trans h
  by_cases e5 : v0 = 61
  ·
    have h := (if_pos e5).symm.trans h
    refine z_lookup (off := 63) 64 C dX7_signKind_1 gv0 (by decide) (by rw [e5]; rfl) (by decide) ?_
    refine z_bipush C dX7_signKind_64 (by decide) ?_
    exact y_iretP C dX7_signKind_66 h (by decide)
  have h := (if_neg e5).symm.trans h
  by_cases e6 : v0 = 62
  ·
    have h := (if_pos e6).symm.trans h
    refine z_lookup (off := 66) 67 C dX7_signKind_1 gv0 (by decide) (by rw [e6]; rfl) (by decide) ?_
    refine z_bipush C dX7_signKind_67 (by decide) ?_
    exact y_iretP C dX7_signKind_69 h (by decide)
  have h := (if_neg e6).symm.trans h
  refine z_lookup (off := 75) 76 C dX7_signKind_1 gv0 (by decide) (by show Op.lookupswitch.offset [(40, 69), (41, 72), (59, 59), (60, 61), (61, 63), (62, 66)] _ _ = _; rw [Op.lookupswitch.offset_cons, if_neg (fun q => e1 q.symm), Op.lookupswitch.offset_cons, if_neg (fun q => e2 q.symm), Op.lookupswitch.offset_cons, if_neg (fun q => e3 q.symm), Op.lookupswitch.offset_cons, if_neg (fun q => e4 q.symm), Op.lookupswitch.offset_cons, if_neg (fun q => e5 q.symm), Op.lookupswitch.offset_cons, if_neg (fun q => e6 q.symm), Op.lookupswitch.offset_nil]) (by decide) ?_
  refine z_iconst C dX7_signKind_76 ?_
  exact y_iretP C dX7_signKind_77 h (by decide)

set_option maxHeartbeats 4000000 in
set_option maxRecDepth 100000 in
theorem tX7_wordKind {G : Gx} {σ : State} (hC : Cy G σ) (o0 : Nat) (v1 : Int) {M0 : Mm} (gv1 : rg v1) {R : Int} (h : uX7_wordKind o0 v1 M0 = some R) : Ct G σ (9) yX7_wordKind cX7_wordKind 6 (some .int) [.ref (G.2.2 + o0), .int (iv v1)] M0 0 0 (Qi R M0) := by
  refine Ct.of hC.1 (by decide +kernel) (Nat.le_of_ble_eq_true rfl) ?_
  intro p l e R0 s m args below meth c C
  show Jz G σ p l e R0 s m args below meth c 6 0 0 (Qi R M0) M0 0 0 0 [(0, .ref (G.2.2 + o0)), (1, .int (iv v1))] []
  have hb101 : uX7_wordKind_b101 M0 = some R → Jz G σ p l e R0 s m args below meth c 6 0 0 (Qi R M0) M0 0 0 101 [] [] := by
    intro    h
    unfold uX7_wordKind_b101 at h
    refine z_iconst C dX7_wordKind_101 ?_
    exact y_iretP C dX7_wordKind_102 h (by decide)
  have hb8 : ∀ (o0 : Nat) (v1 : Int) (v2 : Int) (v3 : Int) (v4 : Int), (rg v1) → (rg v2) → (rg v3) → (rg v4) → uX7_wordKind_b8 o0 v1 v2 v3 v4 M0 = some R → Jz G σ p l e R0 s m args below meth c 6 0 0 (Qi R M0) M0 0 0 8 [(0, .ref (G.2.2 + o0)), (1, .int (iv v1)), (2, .int (iv v2)), (3, .int (iv v3)), (4, .int (iv v4))] [] := by
    intro o0 v1 v2 v3 v4  gv1 gv2 gv3 gv4 h
    unfold uX7_wordKind_b8 at h
    obtain ⟨b8, hb8_, hc8⟩ := bnd h
    have hL8 : ∀ (n : Nat) (v2 : Int) (v3 : Int) (v4 : Int), (rg v2) → (rg v3) → (rg v4) → lp (uX7_wordKind_f8 o0 v1 M0) n (v2, v3, v4) = some b8 → Jz G σ p l e R0 s m args below meth c 6 0 0 (Qi R M0) M0 0 0 8 [(0, .ref (G.2.2 + o0)), (1, .int (iv v1)), (2, .int (iv v2)), (3, .int (iv v3)), (4, .int (iv v4))] [] := by
      intro n; induction n with
      | zero => intro v2 v3 v4 gv2 gv3 gv4 hq; exact (lp_0 hq).elim
      | succ n8 ih8 =>
        intro v2 v3 v4 gv2 gv3 gv4 hq
        obtain ⟨z8, h, hZ8⟩ := lp_s hq
        have h : uX7_wordKind_s8 o0 v1 M0 v2 v3 v4 = some z8 := h
        have hb93 : ∀ (v2 : Int) (v4 : Int), (rg v2) → (rg v4) → ∀ z8, uX7_wordKind_b93 o0 v1 v2 v4 M0 = some z8 → lpc (uX7_wordKind_f8 o0 v1 M0) n8 z8 b8 → Jz G σ p l e R0 s m args below meth c 6 0 0 (Qi R M0) M0 0 0 93 [(0, .ref (G.2.2 + o0)), (1, .int (iv v1)), (2, .int (iv v2)), (4, .int (iv v4))] [] := by
          intro v2 v4  gv2 gv4 z8 h hZ8
          unfold uX7_wordKind_b93 at h
          refine z_iconst C dX7_wordKind_93 ?_
          refine z_istore_n (lv' := [(0, .ref (G.2.2 + o0)), (1, .int (iv v1)), (2, .int (iv v2)), (3, .int (iv (-1))), (4, .int (iv v4))]) C dX7_wordKind_94 rfl (by decide) [1, 2, 3, 0, 4] rfl ?_
          refine y_iinc (lv' := [(0, .ref (G.2.2 + o0)), (1, .int (iv v1)), (2, .int (iv v2)), (3, .int (iv (-1))), (4, .int (iv (w32 (v4 + 1))))]) C dX7_wordKind_95 4 rfl (by decide) [1, 2, 3, 4, 0] rfl ?_
          refine z_goto 8 C dX7_wordKind_98 (by decide) ?_
          exact ih8 v2 (-1) (w32 (v4 + 1)) gv2 (by decide) (w32_rng _) (lp_back h hZ8)
        unfold uX7_wordKind_s8 at h
        refine z_iload C dX7_wordKind_8 4 rfl ?_
        refine y_told C hC.2 dX7_wordKind_10 (fun a1 ha1 => ?_)
        refine y_slen C hC dX7_wordKind_12 ha1 ?_
        refine z_icmp_ge 101 C dX7_wordKind_15 (by decide) gv4 (by decide) (fun e2 => ?_) (fun e2 => ?_)
        ·
          have h := (if_pos e2).symm.trans h
          have h : uX7_wordKind_b101 M0 = some R := lp_ex (K := (uX7_wordKind_c8 o0 v1 M0)) h hZ8 hc8
          refine z_drop (lv' := []) [] rfl ?_
          exact hb101    h
        ·
          have h := (if_neg e2).symm.trans h
          refine y_told C hC.2 dX7_wordKind_18 (fun a3 ha3 => ?_)
          refine z_iload C dX7_wordKind_20 4 rfl ?_
          obtain ⟨x4, hx4, h⟩ := bnd h
          refine y_chat C hC dX7_wordKind_22 ha3 hx4 (fun gx4 => ?_)
          refine z_istore (lv' := [(0, .ref (G.2.2 + o0)), (1, .int (iv v1)), (2, .int (iv v2)), (3, .int (iv v3)), (4, .int (iv v4)), (5, .int (iv x4))]) C dX7_wordKind_25 (by decide) [1, 2, 3, 4, 5, 0] rfl ?_
          refine z_iload C dX7_wordKind_27 5 rfl ?_
          refine z_bipush C dX7_wordKind_29 (by decide) ?_
          refine z_icmp_ne 49 C dX7_wordKind_31 (by decide) gx4 (by decide) (fun e5 => ?_) (fun e5 => ?_)
          ·
            have h := (if_neg e5).symm.trans h
            refine z_iload_n C dX7_wordKind_49 3 rfl ?_
            refine z_iconst C dX7_wordKind_50 ?_
            refine z_icmp_eq 93 C dX7_wordKind_51 (by decide) gv3 (by decide) (fun e6 => ?_) (fun e6 => ?_)
            ·
              have h := (if_pos e6).symm.trans h
              refine z_drop (lv' := [(0, .ref (G.2.2 + o0)), (1, .int (iv v1)), (2, .int (iv v2)), (4, .int (iv v4))]) [0, 1, 2, 4] rfl ?_
              exact hb93 v2 v4  gv2 gv4 _ h hZ8
            ·
              have h := (if_neg e6).symm.trans h
              refine z_iload_n C dX7_wordKind_54 3 rfl ?_
              refine z_iload_n C dX7_wordKind_55 1 rfl ?_
              refine z_icmp_ge 93 C dX7_wordKind_56 (by decide) gv3 gv1 (fun e7 => ?_) (fun e7 => ?_)
              ·
                have h := (if_pos e7).symm.trans h
                refine z_drop (lv' := [(0, .ref (G.2.2 + o0)), (1, .int (iv v1)), (2, .int (iv v2)), (4, .int (iv v4))]) [0, 1, 2, 4] rfl ?_
                exact hb93 v2 v4  gv2 gv4 _ h hZ8
              ·
                have h := (if_neg e7).symm.trans h
                refine z_aload_n C dX7_wordKind_59 0 rfl ?_
                obtain ⟨x8, hx8, h⟩ := bnd h
                refine y_getI C dX7_wordKind_60 fX7_33 rfl hx8 (fun gx8 => ?_)
                refine z_iload_n C dX7_wordKind_63 3 rfl ?_
                refine y_iadd C dX7_wordKind_64 ?_
                refine z_sipush C dX7_wordKind_65 (by decide) ?_
                refine z_icmp_ge 93 C dX7_wordKind_68 (by decide) (w32_rng _) (by decide) (fun e9 => ?_) (fun e9 => ?_)
                ·
                  have h := (if_pos e9).symm.trans h
                  refine z_drop (lv' := [(0, .ref (G.2.2 + o0)), (1, .int (iv v1)), (2, .int (iv v2)), (4, .int (iv v4))]) [0, 1, 2, 4] rfl ?_
                  exact hb93 v2 v4  gv2 gv4 _ h hZ8
                ·
                  have h := (if_neg e9).symm.trans h
                  refine z_aload_n C dX7_wordKind_71 0 rfl ?_
                  obtain ⟨on10, hon10, h⟩ := bnd h
                  refine y_getR C dX7_wordKind_72 fX7_9 rfl hon10 ?_
                  refine z_aload_n C dX7_wordKind_75 0 rfl ?_
                  obtain ⟨x11, hx11, h⟩ := bnd h
                  refine y_getI C dX7_wordKind_76 fX7_33 rfl hx11 (fun gx11 => ?_)
                  refine z_iload_n C dX7_wordKind_79 3 rfl ?_
                  refine y_iadd C dX7_wordKind_80 ?_
                  obtain ⟨x12, hx12, h⟩ := bnd h
                  refine y_iald C dX7_wordKind_81 hx12 (fun gx12 => ?_)
                  refine z_iload C dX7_wordKind_82 5 rfl ?_
                  refine z_icmp_ne 93 C dX7_wordKind_84 (by decide) gx12 gx4 (fun e13 => ?_) (fun e13 => ?_)
                  ·
                    have h := (if_neg e13).symm.trans h
                    refine z_drop (lv' := [(0, .ref (G.2.2 + o0)), (1, .int (iv v1)), (2, .int (iv v2)), (4, .int (iv v4))]) [0, 1, 2, 4] rfl ?_
                    exact hb93 v2 v4  gv2 gv4 _ h hZ8
                  ·
                    have h := (if_pos e13).symm.trans h
                    refine y_iinc (lv' := [(0, .ref (G.2.2 + o0)), (1, .int (iv v1)), (2, .int (iv v2)), (3, .int (iv (w32 (v3 + 1)))), (4, .int (iv v4)), (5, .int (iv x4))]) C dX7_wordKind_87 3 rfl (by decide) [1, 2, 3, 0, 4, 5] rfl ?_
                    refine z_goto 95 C dX7_wordKind_90 (by decide) ?_
                    refine y_iinc (lv' := [(0, .ref (G.2.2 + o0)), (1, .int (iv v1)), (2, .int (iv v2)), (3, .int (iv (w32 (v3 + 1)))), (4, .int (iv (w32 (v4 + 1)))), (5, .int (iv x4))]) C dX7_wordKind_95 4 rfl (by decide) [1, 2, 3, 4, 0, 5] rfl ?_
                    refine z_goto 8 C dX7_wordKind_98 (by decide) ?_
                    refine z_drop (lv' := [(0, .ref (G.2.2 + o0)), (1, .int (iv v1)), (2, .int (iv v2)), (3, .int (iv (w32 (v3 + 1)))), (4, .int (iv (w32 (v4 + 1))))]) [0, 1, 2, 3, 4] rfl ?_
                    exact ih8 v2 (w32 (v3 + 1)) (w32 (v4 + 1)) gv2 (w32_rng _) (w32_rng _) (lp_back h hZ8)
          ·
            have h := (if_pos e5).symm.trans h
            refine z_iload_n C dX7_wordKind_34 3 rfl ?_
            refine z_iload_n C dX7_wordKind_35 1 rfl ?_
            refine z_icmp_ne 41 C dX7_wordKind_36 (by decide) gv3 gv1 (fun e14 => ?_) (fun e14 => ?_)
            ·
              have h := (if_neg e14).symm.trans h
              refine y_iinc (lv' := [(0, .ref (G.2.2 + o0)), (1, .int (iv v1)), (2, .int (iv (w32 (v2 + 1)))), (3, .int (iv v3)), (4, .int (iv v4)), (5, .int (iv x4))]) C dX7_wordKind_41 2 rfl (by decide) [1, 2, 0, 3, 4, 5] rfl ?_
              refine z_iconst C dX7_wordKind_44 ?_
              refine z_istore_n (lv' := [(0, .ref (G.2.2 + o0)), (1, .int (iv v1)), (2, .int (iv (w32 (v2 + 1)))), (3, .int (iv 0)), (4, .int (iv v4)), (5, .int (iv x4))]) C dX7_wordKind_45 rfl (by decide) [1, 2, 3, 0, 4, 5] rfl ?_
              refine z_goto 95 C dX7_wordKind_46 (by decide) ?_
              refine y_iinc (lv' := [(0, .ref (G.2.2 + o0)), (1, .int (iv v1)), (2, .int (iv (w32 (v2 + 1)))), (3, .int (iv 0)), (4, .int (iv (w32 (v4 + 1)))), (5, .int (iv x4))]) C dX7_wordKind_95 4 rfl (by decide) [1, 2, 3, 4, 0, 5] rfl ?_
              refine z_goto 8 C dX7_wordKind_98 (by decide) ?_
              refine z_drop (lv' := [(0, .ref (G.2.2 + o0)), (1, .int (iv v1)), (2, .int (iv (w32 (v2 + 1)))), (3, .int (iv 0)), (4, .int (iv (w32 (v4 + 1))))]) [0, 1, 2, 3, 4] rfl ?_
              exact ih8 (w32 (v2 + 1)) 0 (w32 (v4 + 1)) (w32_rng _) (by decide) (w32_rng _) (lp_back h hZ8)
            ·
              have h := (if_pos e14).symm.trans h
              refine z_iload_n C dX7_wordKind_39 2 rfl ?_
              have h := lp_ret (K := (uX7_wordKind_c8 o0 v1 M0)) h hZ8 hc8
              exact y_iretP C dX7_wordKind_40 h gv2
    exact hL8 _ v2 v3 v4 gv2 gv3 gv4 hb8_
  unfold uX7_wordKind at h
  refine z_bipush C dX7_wordKind_0 (by decide) ?_
  refine z_istore_n (lv' := [(0, .ref (G.2.2 + o0)), (1, .int (iv v1)), (2, .int (iv 10))]) C dX7_wordKind_2 rfl (by decide) [1, 2, 0] rfl ?_
  refine z_iconst C dX7_wordKind_3 ?_
  refine z_istore_n (lv' := [(0, .ref (G.2.2 + o0)), (1, .int (iv v1)), (2, .int (iv 10)), (3, .int (iv 0))]) C dX7_wordKind_4 rfl (by decide) [1, 2, 3, 0] rfl ?_
  refine z_iconst C dX7_wordKind_5 ?_
  refine z_istore (lv' := [(0, .ref (G.2.2 + o0)), (1, .int (iv v1)), (2, .int (iv 10)), (3, .int (iv 0)), (4, .int (iv 0))]) C dX7_wordKind_6 (by decide) [1, 2, 3, 4, 0] rfl ?_
  exact hb8 o0 v1 10 0 0  gv1 (by decide) (by decide) (by decide) h

set_option maxHeartbeats 4000000 in
set_option maxRecDepth 100000 in
theorem tX8_isWho {G : Gx} {σ : State} (hC : Cy G σ) (o0 : Nat) (v1 : Int) {M0 : Mm} (gv1 : rg v1) {R : Int} (h : uX8_isWho o0 v1 M0 = some R) : Ct G σ (1) yX8_isWho cX8_isWho 2 (some .boolean) [.ref (G.2.2 + o0), .int (iv v1)] M0 0 0 (Qb R M0) := by
  refine Ct.of hC.1 (by decide +kernel) (Nat.le_of_ble_eq_true rfl) ?_
  intro p l e R0 s m args below meth c C
  show Jz G σ p l e R0 s m args below meth c 2 0 0 (Qb R M0) M0 0 0 0 [(0, .ref (G.2.2 + o0)), (1, .int (iv v1))] []
  unfold uX8_isWho at h
  refine z_iload_n C dX8_isWho_0 1 rfl ?_
  refine z_if_lt 25 C dX8_isWho_1 (by decide) gv1 (fun e1 => ?_) (fun e1 => ?_)
  ·
    have h := (if_pos e1).symm.trans h
    refine z_iconst C dX8_isWho_25 ?_
    exact y_zretP C dX8_isWho_26 h (by decide)
  ·
    have h := (if_neg e1).symm.trans h
    refine z_iload_n C dX8_isWho_4 1 rfl ?_
    refine z_aload_n C dX8_isWho_5 0 rfl ?_
    obtain ⟨on2, hon2, h⟩ := bnd h
    refine y_getR C dX8_isWho_6 fX8_12 rfl hon2 ?_
    obtain ⟨x3, hx3, h⟩ := bnd h
    refine y_getI C dX8_isWho_9 fX8_66 rfl hx3 (fun gx3 => ?_)
    refine z_icmp_ge 25 C dX8_isWho_12 (by decide) gv1 gx3 (fun e4 => ?_) (fun e4 => ?_)
    ·
      have h := (if_pos e4).symm.trans h
      refine z_iconst C dX8_isWho_25 ?_
      exact y_zretP C dX8_isWho_26 h (by decide)
    ·
      have h := (if_neg e4).symm.trans h
      refine z_iload_n C dX8_isWho_15 1 rfl ?_
      refine z_bipush C dX8_isWho_16 (by decide) ?_
      refine z_icmp_ge 25 C dX8_isWho_18 (by decide) gv1 (by decide) (fun e5 => ?_) (fun e5 => ?_)
      ·
        have h := (if_pos e5).symm.trans h
        refine z_iconst C dX8_isWho_25 ?_
        exact y_zretP C dX8_isWho_26 h (by decide)
      ·
        have h := (if_neg e5).symm.trans h
        refine z_iconst C dX8_isWho_21 ?_
        refine z_goto 26 C dX8_isWho_22 (by decide) ?_
        exact y_zretP C dX8_isWho_26 h (by decide)

set_option maxHeartbeats 4000000 in
set_option maxRecDepth 100000 in
theorem tX8_isMint {G : Gx} {σ : State} (hC : Cy G σ) (o0 : Nat) (v1 : Int) {M0 : Mm} (gv1 : rg v1) {R : Int} (h : uX8_isMint o0 v1 M0 = some R) : Ct G σ (1) yX8_isMint cX8_isMint 2 (some .boolean) [.ref (G.2.2 + o0), .int (iv v1)] M0 0 0 (Qb R M0) := by
  refine Ct.of hC.1 (by decide +kernel) (Nat.le_of_ble_eq_true rfl) ?_
  intro p l e R0 s m args below meth c C
  show Jz G σ p l e R0 s m args below meth c 2 0 0 (Qb R M0) M0 0 0 0 [(0, .ref (G.2.2 + o0)), (1, .int (iv v1))] []
  unfold uX8_isMint at h
  refine z_iload_n C dX8_isMint_0 1 rfl ?_
  refine z_if_lt 24 C dX8_isMint_1 (by decide) gv1 (fun e1 => ?_) (fun e1 => ?_)
  ·
    have h := (if_pos e1).symm.trans h
    refine z_iconst C dX8_isMint_24 ?_
    exact y_zretP C dX8_isMint_25 h (by decide)
  ·
    have h := (if_neg e1).symm.trans h
    refine z_iload_n C dX8_isMint_4 1 rfl ?_
    refine z_aload_n C dX8_isMint_5 0 rfl ?_
    obtain ⟨on2, hon2, h⟩ := bnd h
    refine y_getR C dX8_isMint_6 fX8_12 rfl hon2 ?_
    obtain ⟨x3, hx3, h⟩ := bnd h
    refine y_getI C dX8_isMint_9 fX8_79 rfl hx3 (fun gx3 => ?_)
    refine z_icmp_ge 24 C dX8_isMint_12 (by decide) gv1 gx3 (fun e4 => ?_) (fun e4 => ?_)
    ·
      have h := (if_pos e4).symm.trans h
      refine z_iconst C dX8_isMint_24 ?_
      exact y_zretP C dX8_isMint_25 h (by decide)
    ·
      have h := (if_neg e4).symm.trans h
      refine z_iload_n C dX8_isMint_15 1 rfl ?_
      refine z_iconst C dX8_isMint_16 ?_
      refine z_icmp_ge 24 C dX8_isMint_17 (by decide) gv1 (by decide) (fun e5 => ?_) (fun e5 => ?_)
      ·
        have h := (if_pos e5).symm.trans h
        refine z_iconst C dX8_isMint_24 ?_
        exact y_zretP C dX8_isMint_25 h (by decide)
      ·
        have h := (if_neg e5).symm.trans h
        refine z_iconst C dX8_isMint_20 ?_
        refine z_goto 25 C dX8_isMint_21 (by decide) ?_
        exact y_zretP C dX8_isMint_25 h (by decide)

set_option maxHeartbeats 4000000 in
set_option maxRecDepth 100000 in
theorem tX8_isCoin {G : Gx} {σ : State} (hC : Cy G σ) (o0 : Nat) (v1 : Int) {M0 : Mm} (gv1 : rg v1) {R : Int} (h : uX8_isCoin o0 v1 M0 = some R) : Ct G σ (1) yX8_isCoin cX8_isCoin 2 (some .boolean) [.ref (G.2.2 + o0), .int (iv v1)] M0 0 0 (Qb R M0) := by
  refine Ct.of hC.1 (by decide +kernel) (Nat.le_of_ble_eq_true rfl) ?_
  intro p l e R0 s m args below meth c C
  show Jz G σ p l e R0 s m args below meth c 2 0 0 (Qb R M0) M0 0 0 0 [(0, .ref (G.2.2 + o0)), (1, .int (iv v1))] []
  unfold uX8_isCoin at h
  refine z_iload_n C dX8_isCoin_0 1 rfl ?_
  refine z_if_lt 25 C dX8_isCoin_1 (by decide) gv1 (fun e1 => ?_) (fun e1 => ?_)
  ·
    have h := (if_pos e1).symm.trans h
    refine z_iconst C dX8_isCoin_25 ?_
    exact y_zretP C dX8_isCoin_26 h (by decide)
  ·
    have h := (if_neg e1).symm.trans h
    refine z_iload_n C dX8_isCoin_4 1 rfl ?_
    refine z_aload_n C dX8_isCoin_5 0 rfl ?_
    obtain ⟨on2, hon2, h⟩ := bnd h
    refine y_getR C dX8_isCoin_6 fX8_21 rfl hon2 ?_
    obtain ⟨x3, hx3, h⟩ := bnd h
    refine y_getI C dX8_isCoin_9 fX8_82 rfl hx3 (fun gx3 => ?_)
    refine z_icmp_ge 25 C dX8_isCoin_12 (by decide) gv1 gx3 (fun e4 => ?_) (fun e4 => ?_)
    ·
      have h := (if_pos e4).symm.trans h
      refine z_iconst C dX8_isCoin_25 ?_
      exact y_zretP C dX8_isCoin_26 h (by decide)
    ·
      have h := (if_neg e4).symm.trans h
      refine z_iload_n C dX8_isCoin_15 1 rfl ?_
      refine z_bipush C dX8_isCoin_16 (by decide) ?_
      refine z_icmp_ge 25 C dX8_isCoin_18 (by decide) gv1 (by decide) (fun e5 => ?_) (fun e5 => ?_)
      ·
        have h := (if_pos e5).symm.trans h
        refine z_iconst C dX8_isCoin_25 ?_
        exact y_zretP C dX8_isCoin_26 h (by decide)
      ·
        have h := (if_neg e5).symm.trans h
        refine z_iconst C dX8_isCoin_21 ?_
        refine z_goto 26 C dX8_isCoin_22 (by decide) ?_
        exact y_zretP C dX8_isCoin_26 h (by decide)

set_option maxHeartbeats 4000000 in
set_option maxRecDepth 100000 in
theorem tX8_strokesLeft {G : Gx} {σ : State} (hC : Cy G σ) (o0 : Nat) {M0 : Mm}  {R : Int} (h : uX8_strokesLeft o0 M0 = some R) : Ct G σ (1) yX8_strokesLeft cX8_strokesLeft 1 (some .int) [.ref (G.2.2 + o0)] M0 0 0 (Qi R M0) := by
  refine Ct.of hC.1 (by decide +kernel) (Nat.le_of_ble_eq_true rfl) ?_
  intro p l e R0 s m args below meth c C
  show Jz G σ p l e R0 s m args below meth c 1 0 0 (Qi R M0) M0 0 0 0 [(0, .ref (G.2.2 + o0))] []
  unfold uX8_strokesLeft at h
  refine z_sipush C dX8_strokesLeft_0 (by decide) ?_
  refine z_aload_n C dX8_strokesLeft_3 0 rfl ?_
  obtain ⟨on1, hon1, h⟩ := bnd h
  refine y_getR C dX8_strokesLeft_4 fX8_21 rfl hon1 ?_
  obtain ⟨x2, hx2, h⟩ := bnd h
  refine y_getI C dX8_strokesLeft_7 fX8_51 rfl hx2 (fun gx2 => ?_)
  refine y_isub C dX8_strokesLeft_10 ?_
  exact y_iretP C dX8_strokesLeft_11 h (w32_rng _)

set_option maxHeartbeats 4000000 in
set_option maxRecDepth 100000 in
theorem tX9_end {G : Gx} {σ : State} (hC : Cy G σ) (o0 : Nat) (v1 : Int) {M0 : Mm} (gv1 : rg v1) {R : Int × Mm} (h : uX9_end o0 v1 M0 = some R) : Ct G σ (1) yX9_end cX9_end 2 (some .boolean) [.ref (G.2.2 + o0), .int (iv v1)] M0 0 0 (Qb R.1 R.2) := by
  refine Ct.of hC.1 (by decide +kernel) (Nat.le_of_ble_eq_true rfl) ?_
  intro p l e R0 s m args below meth c C
  show Jz G σ p l e R0 s m args below meth c 2 0 0 (Qb R.1 R.2) M0 0 0 0 [(0, .ref (G.2.2 + o0)), (1, .int (iv v1))] []
  unfold uX9_end at h
  refine z_iload_n C dX9_end_0 1 rfl ?_
  refine z_if_lt 15 C dX9_end_1 (by decide) gv1 (fun e1 => ?_) (fun e1 => ?_)
  ·
    have h := (if_pos e1).symm.trans h
    refine z_iconst C dX9_end_15 ?_
    exact y_zretB C dX9_end_16 h (by decide)
  ·
    have h := (if_neg e1).symm.trans h
    refine z_iload_n C dX9_end_4 1 rfl ?_
    refine z_aload_n C dX9_end_5 0 rfl ?_
    obtain ⟨on2, hon2, h⟩ := bnd h
    refine y_getR C dX9_end_6 fX9_10 rfl hon2 ?_
    obtain ⟨x3, hx3, h⟩ := bnd h
    refine y_getI C dX9_end_9 fX9_66 rfl hx3 (fun gx3 => ?_)
    refine z_icmp_le 17 C dX9_end_12 (by decide) gv1 gx3 (fun e4 => ?_) (fun e4 => ?_)
    ·
      have h := (if_pos e4).symm.trans h
      refine z_aload_n C dX9_end_17 0 rfl ?_
      obtain ⟨on5, hon5, h⟩ := bnd h
      refine y_getR C dX9_end_18 fX9_10 rfl hon5 ?_
      refine z_iload_n C dX9_end_21 1 rfl ?_
      obtain ⟨M6, hM6, h⟩ := bnd h
      refine y_putI C dX9_end_22 fX9_66 rfl rfl rfl rfl hM6 ?_
      refine z_iconst C dX9_end_25 ?_
      exact y_zretB C dX9_end_26 h (by decide)
    ·
      have h := (if_neg e4).symm.trans h
      refine z_iconst C dX9_end_15 ?_
      exact y_zretB C dX9_end_16 h (by decide)

set_option maxHeartbeats 4000000 in
set_option maxRecDepth 100000 in
theorem tX9_fault {G : Gx} {σ : State} (hC : Cy G σ) (o0 : Nat) {M0 : Mm}  {R : Int} (h : uX9_fault o0 M0 = some R) : Ct G σ (1) yX9_fault cX9_fault 1 (some .int) [.ref (G.2.2 + o0)] M0 0 0 (Qi R M0) := by
  refine Ct.of hC.1 (by decide +kernel) (Nat.le_of_ble_eq_true rfl) ?_
  intro p l e R0 s m args below meth c C
  show Jz G σ p l e R0 s m args below meth c 1 0 0 (Qi R M0) M0 0 0 0 [(0, .ref (G.2.2 + o0))] []
  unfold uX9_fault at h
  refine z_aload_n C dX9_fault_0 0 rfl ?_
  obtain ⟨x1, hx1, h⟩ := bnd h
  refine y_getI C dX9_fault_1 fX9_81 rfl hx1 (fun gx1 => ?_)
  exact y_iretP C dX9_fault_4 h gx1

set_option maxHeartbeats 4000000 in
set_option maxRecDepth 100000 in
theorem tX9_sales {G : Gx} {σ : State} (hC : Cy G σ) (o0 : Nat) {M0 : Mm}  {R : Int} (h : uX9_sales o0 M0 = some R) : Ct G σ (1) yX9_sales cX9_sales 1 (some .int) [.ref (G.2.2 + o0)] M0 0 0 (Qi R M0) := by
  refine Ct.of hC.1 (by decide +kernel) (Nat.le_of_ble_eq_true rfl) ?_
  intro p l e R0 s m args below meth c C
  show Jz G σ p l e R0 s m args below meth c 1 0 0 (Qi R M0) M0 0 0 0 [(0, .ref (G.2.2 + o0))] []
  unfold uX9_sales at h
  refine z_aload_n C dX9_sales_0 0 rfl ?_
  obtain ⟨on1, hon1, h⟩ := bnd h
  refine y_getR C dX9_sales_1 fX9_33 rfl hon1 ?_
  obtain ⟨on2, hon2, h⟩ := bnd h
  refine y_getR C dX9_sales_4 fX9_117 rfl hon2 ?_
  obtain ⟨x3, hx3, h⟩ := bnd h
  refine y_getI C dX9_sales_7 fX9_251 rfl hx3 (fun gx3 => ?_)
  exact y_iretP C dX9_sales_10 h gx3

set_option maxHeartbeats 4000000 in
set_option maxRecDepth 100000 in
theorem tX9_tellPaid {G : Gx} {σ : State} (hC : Cy G σ) (o0 : Nat) {M0 : Mm}  {R : Mm} (h : uX9_tellPaid o0 M0 = some R) : Ct G σ (1) yX9_tellPaid cX9_tellPaid 3 none [.ref (G.2.2 + o0)] M0 0 0 (Qv R) := by
  refine Ct.of hC.1 (by decide +kernel) (Nat.le_of_ble_eq_true rfl) ?_
  intro p l e R0 s m args below meth c C
  show Jz G σ p l e R0 s m args below meth c 3 0 0 (Qv R) M0 0 0 0 [(0, .ref (G.2.2 + o0))] []
  have hb81 : ∀  (M : Mm), uX9_tellPaid_b81 M = some R → Jz G σ p l e R0 s m args below meth c 3 0 0 (Qv R) M 0 0 81 [] [] := by
    intro  M  h
    unfold uX9_tellPaid_b81 at h
    exact y_retV C dX9_tellPaid_81 h
  have hb23 : ∀ (o0 : Nat) (v1 : Int) (M : Mm), (rg v1) → uX9_tellPaid_b23 o0 v1 M = some R → Jz G σ p l e R0 s m args below meth c 3 0 0 (Qv R) M 0 0 23 [(0, .ref (G.2.2 + o0)), (1, .int (iv v1))] [] := by
    intro o0 v1 M gv1 h
    unfold uX9_tellPaid_b23 at h
    obtain ⟨b23, hb23_, hc23⟩ := bnd h
    have hL23 : ∀ (n : Nat) (v1 : Int) (M : Mm), (rg v1) → lp (uX9_tellPaid_f23 o0) n (v1, M) = some b23 → Jz G σ p l e R0 s m args below meth c 3 0 0 (Qv R) M 0 0 23 [(0, .ref (G.2.2 + o0)), (1, .int (iv v1))] [] := by
      intro n; induction n with
      | zero => intro v1 M gv1 hq; exact (lp_0 hq).elim
      | succ n23 ih23 =>
        intro v1 M gv1 hq
        obtain ⟨z23, h, hZ23⟩ := lp_s hq
        have h : uX9_tellPaid_s23 o0 v1 M = some z23 := h
        unfold uX9_tellPaid_s23 at h
        refine z_iload_n C dX9_tellPaid_23 1 rfl ?_
        refine z_aload_n C dX9_tellPaid_24 0 rfl ?_
        obtain ⟨on1, hon1, h⟩ := bnd h
        refine y_getR C dX9_tellPaid_25 fX9_51 rfl hon1 ?_
        obtain ⟨x2, hx2, h⟩ := bnd h
        refine y_getI C dX9_tellPaid_28 fX9_276 rfl hx2 (fun gx2 => ?_)
        refine z_icmp_ge 81 C dX9_tellPaid_31 (by decide) gv1 gx2 (fun e3 => ?_) (fun e3 => ?_)
        ·
          have h := (if_pos e3).symm.trans h
          have h : uX9_tellPaid_b81 M = some R := lp_ex (K := (uX9_tellPaid_c23 o0)) h hZ23 hc23
          refine z_drop (lv' := []) [] rfl ?_
          exact hb81  M  h
        ·
          have h := (if_neg e3).symm.trans h
          refine z_iload_n C dX9_tellPaid_34 1 rfl ?_
          refine z_bipush C dX9_tellPaid_35 (by decide) ?_
          refine z_icmp_ge 81 C dX9_tellPaid_37 (by decide) gv1 (by decide) (fun e4 => ?_) (fun e4 => ?_)
          ·
            have h := (if_pos e4).symm.trans h
            have h : uX9_tellPaid_b81 M = some R := lp_ex (K := (uX9_tellPaid_c23 o0)) h hZ23 hc23
            refine z_drop (lv' := []) [] rfl ?_
            exact hb81  M  h
          ·
            have h := (if_neg e4).symm.trans h
            refine z_aload_n C dX9_tellPaid_40 0 rfl ?_
            obtain ⟨on5, hon5, h⟩ := bnd h
            refine y_getR C dX9_tellPaid_41 fX9_51 rfl hon5 ?_
            obtain ⟨on6, hon6, h⟩ := bnd h
            refine y_getR C dX9_tellPaid_44 fX9_279 rfl hon6 ?_
            refine z_iload_n C dX9_tellPaid_47 1 rfl ?_
            obtain ⟨x7, hx7, h⟩ := bnd h
            refine y_iald C dX9_tellPaid_48 hx7 (fun gx7 => ?_)
            refine z_istore_n (lv' := [(0, .ref (G.2.2 + o0)), (1, .int (iv v1)), (2, .int (iv x7))]) C dX9_tellPaid_49 rfl (by decide) [1, 2, 0] rfl ?_
            refine z_iload_n C dX9_tellPaid_50 2 rfl ?_
            refine z_if_lt 75 C dX9_tellPaid_51 (by decide) gx7 (fun e8 => ?_) (fun e8 => ?_)
            ·
              have h := (if_pos e8).symm.trans h
              refine y_iinc (lv' := [(0, .ref (G.2.2 + o0)), (1, .int (iv (w32 (v1 + 1)))), (2, .int (iv x7))]) C dX9_tellPaid_75 1 rfl (by decide) [1, 0, 2] rfl ?_
              refine z_goto 23 C dX9_tellPaid_78 (by decide) ?_
              refine z_drop (lv' := [(0, .ref (G.2.2 + o0)), (1, .int (iv (w32 (v1 + 1))))]) [0, 1] rfl ?_
              exact ih23 (w32 (v1 + 1)) M (w32_rng _) (lp_back h hZ23)
            ·
              have h := (if_neg e8).symm.trans h
              refine z_iload_n C dX9_tellPaid_54 2 rfl ?_
              refine z_bipush C dX9_tellPaid_55 (by decide) ?_
              refine z_icmp_ge 75 C dX9_tellPaid_57 (by decide) gx7 (by decide) (fun e9 => ?_) (fun e9 => ?_)
              ·
                have h := (if_pos e9).symm.trans h
                refine y_iinc (lv' := [(0, .ref (G.2.2 + o0)), (1, .int (iv (w32 (v1 + 1)))), (2, .int (iv x7))]) C dX9_tellPaid_75 1 rfl (by decide) [1, 0, 2] rfl ?_
                refine z_goto 23 C dX9_tellPaid_78 (by decide) ?_
                refine z_drop (lv' := [(0, .ref (G.2.2 + o0)), (1, .int (iv (w32 (v1 + 1))))]) [0, 1] rfl ?_
                exact ih23 (w32 (v1 + 1)) M (w32_rng _) (lp_back h hZ23)
              ·
                have h := (if_neg e9).symm.trans h
                refine z_aload_n C dX9_tellPaid_60 0 rfl ?_
                obtain ⟨on10, hon10, h⟩ := bnd h
                refine y_getR C dX9_tellPaid_61 fX9_55 rfl hon10 ?_
                refine z_iload_n C dX9_tellPaid_64 2 rfl ?_
                refine z_aload_n C dX9_tellPaid_65 0 rfl ?_
                obtain ⟨on11, hon11, h⟩ := bnd h
                refine y_getR C dX9_tellPaid_66 fX9_51 rfl hon11 ?_
                obtain ⟨on12, hon12, h⟩ := bnd h
                refine y_getR C dX9_tellPaid_69 fX9_282 rfl hon12 ?_
                refine z_iload_n C dX9_tellPaid_72 1 rfl ?_
                obtain ⟨x13, hx13, h⟩ := bnd h
                refine y_iald C dX9_tellPaid_73 hx13 (fun gx13 => ?_)
                obtain ⟨M14, hM14, h⟩ := bnd h
                refine y_iast C dX9_tellPaid_74 hM14 ?_
                refine y_iinc (lv' := [(0, .ref (G.2.2 + o0)), (1, .int (iv (w32 (v1 + 1)))), (2, .int (iv x7))]) C dX9_tellPaid_75 1 rfl (by decide) [1, 0, 2] rfl ?_
                refine z_goto 23 C dX9_tellPaid_78 (by decide) ?_
                refine z_drop (lv' := [(0, .ref (G.2.2 + o0)), (1, .int (iv (w32 (v1 + 1))))]) [0, 1] rfl ?_
                exact ih23 (w32 (v1 + 1)) M14 (w32_rng _) (lp_back h hZ23)
    exact hL23 _ v1 M gv1 hb23_
  have hb21 : ∀ (o0 : Nat) (M : Mm), uX9_tellPaid_b21 o0 M = some R → Jz G σ p l e R0 s m args below meth c 3 0 0 (Qv R) M 0 0 21 [(0, .ref (G.2.2 + o0))] [] := by
    intro o0 M  h
    unfold uX9_tellPaid_b21 at h
    refine z_iconst C dX9_tellPaid_21 ?_
    refine z_istore_n (lv' := [(0, .ref (G.2.2 + o0)), (1, .int (iv 0))]) C dX9_tellPaid_22 rfl (by decide) [1, 0] rfl ?_
    exact hb23 o0 0 M (by decide) h
  have hb2 : ∀ (o0 : Nat) (v1 : Int) (M : Mm), (rg v1) → uX9_tellPaid_b2 o0 v1 M = some R → Jz G σ p l e R0 s m args below meth c 3 0 0 (Qv R) M 0 0 2 [(0, .ref (G.2.2 + o0)), (1, .int (iv v1))] [] := by
    intro o0 v1 M gv1 h
    unfold uX9_tellPaid_b2 at h
    obtain ⟨b2, hb2_, hc2⟩ := bnd h
    have hL2 : ∀ (n : Nat) (v1 : Int) (M : Mm), (rg v1) → lp (uX9_tellPaid_f2 o0) n (v1, M) = some b2 → Jz G σ p l e R0 s m args below meth c 3 0 0 (Qv R) M 0 0 2 [(0, .ref (G.2.2 + o0)), (1, .int (iv v1))] [] := by
      intro n; induction n with
      | zero => intro v1 M gv1 hq; exact (lp_0 hq).elim
      | succ n2 ih2 =>
        intro v1 M gv1 hq
        obtain ⟨z2, h, hZ2⟩ := lp_s hq
        have h : uX9_tellPaid_s2 o0 v1 M = some z2 := h
        unfold uX9_tellPaid_s2 at h
        refine z_iload_n C dX9_tellPaid_2 1 rfl ?_
        refine z_bipush C dX9_tellPaid_3 (by decide) ?_
        refine z_icmp_ge 21 C dX9_tellPaid_5 (by decide) gv1 (by decide) (fun e15 => ?_) (fun e15 => ?_)
        ·
          have h := (if_pos e15).symm.trans h
          have h : uX9_tellPaid_b21 o0 M = some R := lp_ex (K := (uX9_tellPaid_c2 o0)) h hZ2 hc2
          refine z_drop (lv' := [(0, .ref (G.2.2 + o0))]) [0] rfl ?_
          exact hb21 o0 M  h
        ·
          have h := (if_neg e15).symm.trans h
          refine z_aload_n C dX9_tellPaid_8 0 rfl ?_
          obtain ⟨on16, hon16, h⟩ := bnd h
          refine y_getR C dX9_tellPaid_9 fX9_55 rfl hon16 ?_
          refine z_iload_n C dX9_tellPaid_12 1 rfl ?_
          refine z_iconst C dX9_tellPaid_13 ?_
          obtain ⟨M17, hM17, h⟩ := bnd h
          refine y_iast C dX9_tellPaid_14 hM17 ?_
          refine y_iinc (lv' := [(0, .ref (G.2.2 + o0)), (1, .int (iv (w32 (v1 + 1))))]) C dX9_tellPaid_15 1 rfl (by decide) [1, 0] rfl ?_
          refine z_goto 2 C dX9_tellPaid_18 (by decide) ?_
          exact ih2 (w32 (v1 + 1)) M17 (w32_rng _) (lp_back h hZ2)
    exact hL2 _ v1 M gv1 hb2_
  unfold uX9_tellPaid at h
  refine z_iconst C dX9_tellPaid_0 ?_
  refine z_istore_n (lv' := [(0, .ref (G.2.2 + o0)), (1, .int (iv 0))]) C dX9_tellPaid_1 rfl (by decide) [1, 0] rfl ?_
  exact hb2 o0 0 M0 (by decide) h

set_option maxHeartbeats 4000000 in
set_option maxRecDepth 100000 in
theorem tX9_paid {G : Gx} {σ : State} (hC : Cy G σ) (o0 : Nat) (v1 : Int) {M0 : Mm} (gv1 : rg v1) {R : Int} (h : uX9_paid o0 v1 M0 = some R) : Ct G σ (1) yX9_paid cX9_paid 2 (some .int) [.ref (G.2.2 + o0), .int (iv v1)] M0 0 0 (Qi R M0) := by
  refine Ct.of hC.1 (by decide +kernel) (Nat.le_of_ble_eq_true rfl) ?_
  intro p l e R0 s m args below meth c C
  show Jz G σ p l e R0 s m args below meth c 2 0 0 (Qi R M0) M0 0 0 0 [(0, .ref (G.2.2 + o0)), (1, .int (iv v1))] []
  unfold uX9_paid at h
  refine z_iload_n C dX9_paid_0 1 rfl ?_
  refine z_if_lt 19 C dX9_paid_1 (by decide) gv1 (fun e1 => ?_) (fun e1 => ?_)
  ·
    have h := (if_pos e1).symm.trans h
    refine z_iconst C dX9_paid_19 ?_
    exact y_iretP C dX9_paid_20 h (by decide)
  ·
    have h := (if_neg e1).symm.trans h
    refine z_iload_n C dX9_paid_4 1 rfl ?_
    refine z_bipush C dX9_paid_5 (by decide) ?_
    refine z_icmp_ge 19 C dX9_paid_7 (by decide) gv1 (by decide) (fun e2 => ?_) (fun e2 => ?_)
    ·
      have h := (if_pos e2).symm.trans h
      refine z_iconst C dX9_paid_19 ?_
      exact y_iretP C dX9_paid_20 h (by decide)
    ·
      have h := (if_neg e2).symm.trans h
      refine z_aload_n C dX9_paid_10 0 rfl ?_
      obtain ⟨on3, hon3, h⟩ := bnd h
      refine y_getR C dX9_paid_11 fX9_55 rfl hon3 ?_
      refine z_iload_n C dX9_paid_14 1 rfl ?_
      obtain ⟨x4, hx4, h⟩ := bnd h
      refine y_iald C dX9_paid_15 hx4 (fun gx4 => ?_)
      refine z_goto 20 C dX9_paid_16 (by decide) ?_
      exact y_iretP C dX9_paid_20 h gx4

set_option maxHeartbeats 4000000 in
set_option maxRecDepth 100000 in
theorem tX9_strokes {G : Gx} {σ : State} (hC : Cy G σ) (o0 : Nat) {M0 : Mm}  {R : Int} (h : uX9_strokes o0 M0 = some R) : Ct G σ (1) yX9_strokes cX9_strokes 1 (some .int) [.ref (G.2.2 + o0)] M0 0 0 (Qi R M0) := by
  refine Ct.of hC.1 (by decide +kernel) (Nat.le_of_ble_eq_true rfl) ?_
  intro p l e R0 s m args below meth c C
  show Jz G σ p l e R0 s m args below meth c 1 0 0 (Qi R M0) M0 0 0 0 [(0, .ref (G.2.2 + o0))] []
  unfold uX9_strokes at h
  refine z_aload_n C dX9_strokes_0 0 rfl ?_
  obtain ⟨on1, hon1, h⟩ := bnd h
  refine y_getR C dX9_strokes_1 fX9_33 rfl hon1 ?_
  obtain ⟨on2, hon2, h⟩ := bnd h
  refine y_getR C dX9_strokes_4 fX9_117 rfl hon2 ?_
  obtain ⟨x3, hx3, h⟩ := bnd h
  refine y_getI C dX9_strokes_7 fX9_313 rfl hx3 (fun gx3 => ?_)
  exact y_iretP C dX9_strokes_10 h gx3
