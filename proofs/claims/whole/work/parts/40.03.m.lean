set_option maxHeartbeats 4000000 in
set_option maxRecDepth 100000 in
theorem tX10_undo {G : Gx} {σ : State} (hC : Cy G σ) (o0 : Nat) {M0 : Mm}  {R : Int × Mm} (h : uX10_undo o0 M0 = some R) : Ct G σ (1) yX10_undo cX10_undo 4 (some .int) [.ref (G.2.2 + o0)] M0 0 0 (Qi R.1 R.2) := by
  refine Ct.of hC.1 (by decide +kernel) (Nat.le_of_ble_eq_true rfl) ?_
  intro p l e R0 s m args below meth c C
  show Jz G σ p l e R0 s m args below meth c 4 0 0 (Qi R.1 R.2) M0 0 0 0 [(0, .ref (G.2.2 + o0))] []
  have hb76 : ∀ (o0 : Nat) (v1 : Int) (v2 : Int) (M : Mm), (rg v1) → (rg v2) → uX10_undo_b76 o0 v1 v2 M = some R → Jz G σ p l e R0 s m args below meth c 4 0 0 (Qi R.1 R.2) M 0 0 76 [(0, .ref (G.2.2 + o0)), (1, .int (iv v1)), (2, .int (iv v2))] [] := by
    intro o0 v1 v2 M gv1 gv2 h
    unfold uX10_undo_b76 at h
    refine z_aload_n C dX10_undo_76 0 rfl ?_
    obtain ⟨on1, hon1, h⟩ := bnd h
    refine y_getR C dX10_undo_77 fX10_13 rfl hon1 ?_
    refine z_bipush C dX10_undo_80 (by decide) ?_
    refine z_iload_n C dX10_undo_82 1 rfl ?_
    obtain ⟨M2, hM2, h⟩ := bnd h
    refine y_iast C dX10_undo_83 hM2 ?_
    refine z_aload_n C dX10_undo_84 0 rfl ?_
    obtain ⟨on3, hon3, h⟩ := bnd h
    refine y_getR C dX10_undo_85 fX10_13 rfl hon3 ?_
    refine z_bipush C dX10_undo_88 (by decide) ?_
    refine z_iload_n C dX10_undo_90 2 rfl ?_
    obtain ⟨M4, hM4, h⟩ := bnd h
    refine y_iast C dX10_undo_91 hM4 ?_
    refine z_aload_n C dX10_undo_92 0 rfl ?_
    obtain ⟨x5, hx5, h⟩ := bnd h
    refine y_getI C dX10_undo_93 fX10_240 rfl hx5 (fun gx5 => ?_)
    exact y_iretB C dX10_undo_96 h gx5
  have hb42 : ∀ (o0 : Nat) (v1 : Int) (v2 : Int) (v3 : Int) (M : Mm), (rg v1) → (rg v2) → (rg v3) → uX10_undo_b42 o0 v1 v2 v3 M = some R → Jz G σ p l e R0 s m args below meth c 4 0 0 (Qi R.1 R.2) M 0 0 42 [(0, .ref (G.2.2 + o0)), (1, .int (iv v1)), (2, .int (iv v2)), (3, .int (iv v3))] [] := by
    intro o0 v1 v2 v3 M gv1 gv2 gv3 h
    unfold uX10_undo_b42 at h
    obtain ⟨b42, hb42_, hc42⟩ := bnd h
    have hL42 : ∀ (n : Nat) (v3 : Int) (M : Mm), (rg v3) → lp (uX10_undo_f42 o0 v1 v2) n (v3, M) = some b42 → Jz G σ p l e R0 s m args below meth c 4 0 0 (Qi R.1 R.2) M 0 0 42 [(0, .ref (G.2.2 + o0)), (1, .int (iv v1)), (2, .int (iv v2)), (3, .int (iv v3))] [] := by
      intro n; induction n with
      | zero => intro v3 M gv3 hq; exact (lp_0 hq).elim
      | succ n42 ih42 =>
        intro v3 M gv3 hq
        obtain ⟨z42, h, hZ42⟩ := lp_s hq
        have h : uX10_undo_s42 o0 v1 v2 v3 M = some z42 := h
        unfold uX10_undo_s42 at h
        refine z_iload_n C dX10_undo_42 3 rfl ?_
        refine z_sipush C dX10_undo_43 (by decide) ?_
        refine z_icmp_ge 76 C dX10_undo_46 (by decide) gv3 (by decide) (fun e6 => ?_) (fun e6 => ?_)
        ·
          have h := (if_pos e6).symm.trans h
          have h : uX10_undo_b76 o0 v1 v2 M = some R := lp_ex (K := (uX10_undo_c42 o0 v1 v2)) h hZ42 hc42
          refine z_drop (lv' := [(0, .ref (G.2.2 + o0)), (1, .int (iv v1)), (2, .int (iv v2))]) [0, 1, 2] rfl ?_
          exact hb76 o0 v1 v2 M gv1 gv2 h
        ·
          have h := (if_neg e6).symm.trans h
          refine z_aload_n C dX10_undo_49 0 rfl ?_
          obtain ⟨on7, hon7, h⟩ := bnd h
          refine y_getR C dX10_undo_50 fX10_13 rfl hon7 ?_
          refine z_iload_n C dX10_undo_53 3 rfl ?_
          refine z_aload_n C dX10_undo_54 0 rfl ?_
          obtain ⟨on8, hon8, h⟩ := bnd h
          refine y_getR C dX10_undo_55 fX10_23 rfl hon8 ?_
          refine z_sipush C dX10_undo_58 (by decide) ?_
          refine z_aload_n C dX10_undo_61 0 rfl ?_
          obtain ⟨x9, hx9, h⟩ := bnd h
          refine y_getI C dX10_undo_62 fX10_240 rfl hx9 (fun gx9 => ?_)
          refine y_imul C dX10_undo_65 ?_
          refine z_iload_n C dX10_undo_66 3 rfl ?_
          refine y_iadd C dX10_undo_67 ?_
          obtain ⟨x10, hx10, h⟩ := bnd h
          refine y_iald C dX10_undo_68 hx10 (fun gx10 => ?_)
          obtain ⟨M11, hM11, h⟩ := bnd h
          refine y_iast C dX10_undo_69 hM11 ?_
          refine y_iinc (lv' := [(0, .ref (G.2.2 + o0)), (1, .int (iv v1)), (2, .int (iv v2)), (3, .int (iv (w32 (v3 + 1))))]) C dX10_undo_70 3 rfl (by decide) [1, 2, 3, 0] rfl ?_
          refine z_goto 42 C dX10_undo_73 (by decide) ?_
          exact ih42 (w32 (v3 + 1)) M11 (w32_rng _) (lp_back h hZ42)
    exact hL42 _ v3 M gv3 hb42_
  unfold uX10_undo at h
  refine z_aload_n C dX10_undo_0 0 rfl ?_
  refine z_iconst C dX10_undo_1 ?_
  obtain ⟨M12, hM12, h⟩ := bnd h
  refine y_putI C dX10_undo_2 fX10_83 rfl rfl rfl rfl hM12 ?_
  refine z_aload_n C dX10_undo_5 0 rfl ?_
  obtain ⟨x13, hx13, h⟩ := bnd h
  refine y_getI C dX10_undo_6 fX10_240 rfl hx13 (fun gx13 => ?_)
  refine z_if_ne 14 C dX10_undo_9 (by decide) gx13 (fun e14 => ?_) (fun e14 => ?_)
  ·
    have h := (if_neg e14).symm.trans h
    refine z_aload_n C dX10_undo_14 0 rfl ?_
    refine z_dup C dX10_undo_15 rfl ?_
    obtain ⟨x15, hx15, h⟩ := bnd h
    refine y_getI C dX10_undo_16 fX10_240 rfl hx15 (fun gx15 => ?_)
    refine z_iconst C dX10_undo_19 ?_
    refine y_isub C dX10_undo_20 ?_
    obtain ⟨M16, hM16, h⟩ := bnd h
    refine y_putI C dX10_undo_21 fX10_240 rfl rfl rfl rfl hM16 ?_
    refine z_aload_n C dX10_undo_24 0 rfl ?_
    obtain ⟨on17, hon17, h⟩ := bnd h
    refine y_getR C dX10_undo_25 fX10_13 rfl hon17 ?_
    refine z_bipush C dX10_undo_28 (by decide) ?_
    obtain ⟨x18, hx18, h⟩ := bnd h
    refine y_iald C dX10_undo_30 hx18 (fun gx18 => ?_)
    refine z_istore_n (lv' := [(0, .ref (G.2.2 + o0)), (1, .int (iv x18))]) C dX10_undo_31 rfl (by decide) [1, 0] rfl ?_
    refine z_aload_n C dX10_undo_32 0 rfl ?_
    obtain ⟨on19, hon19, h⟩ := bnd h
    refine y_getR C dX10_undo_33 fX10_13 rfl hon19 ?_
    refine z_bipush C dX10_undo_36 (by decide) ?_
    obtain ⟨x20, hx20, h⟩ := bnd h
    refine y_iald C dX10_undo_38 hx20 (fun gx20 => ?_)
    refine z_istore_n (lv' := [(0, .ref (G.2.2 + o0)), (1, .int (iv x18)), (2, .int (iv x20))]) C dX10_undo_39 rfl (by decide) [1, 2, 0] rfl ?_
    refine z_iconst C dX10_undo_40 ?_
    refine z_istore_n (lv' := [(0, .ref (G.2.2 + o0)), (1, .int (iv x18)), (2, .int (iv x20)), (3, .int (iv 0))]) C dX10_undo_41 rfl (by decide) [1, 2, 3, 0] rfl ?_
    exact hb42 o0 x18 x20 0 M16 gx18 gx20 (by decide) h
  ·
    have h := (if_pos e14).symm.trans h
    refine z_iconst C dX10_undo_12 ?_
    exact y_iretB C dX10_undo_13 h (by decide)

set_option maxHeartbeats 4000000 in
set_option maxRecDepth 100000 in
theorem tX10_lays {G : Gx} {σ : State} (hC : Cy G σ) (o0 : Nat) (v1 : Int) (v2 : Int) (v3 : Int) (v4 : Int) {M0 : Mm} (gv1 : rg v1) (gv2 : rg v2) (gv3 : rg v3) (gv4 : rg v4) {R : Int × Mm} (h : uX10_lays o0 v1 v2 v3 v4 M0 = some R) : Ct G σ (1) yX10_lays cX10_lays 6 (some .int) [.ref (G.2.2 + o0), .int (iv v1), .int (iv v2), .int (iv v3), .int (iv v4)] M0 0 0 (Qi R.1 R.2) := by
  refine Ct.of hC.1 (by decide +kernel) (Nat.le_of_ble_eq_true rfl) ?_
  intro p l e R0 s m args below meth c C
  show Jz G σ p l e R0 s m args below meth c 6 0 0 (Qi R.1 R.2) M0 0 0 0 [(0, .ref (G.2.2 + o0)), (1, .int (iv v1)), (2, .int (iv v2)), (3, .int (iv v3)), (4, .int (iv v4))] []
  unfold uX10_lays at h
  refine z_iconst C dX10_lays_0 ?_
  refine z_aload_n C dX10_lays_1 0 rfl ?_
  obtain ⟨x1, hx1, h⟩ := bnd h
  refine y_getI C dX10_lays_2 fX10_362 rfl hx1 (fun gx1 => ?_)
  refine y_imul C dX10_lays_5 ?_
  refine z_istore (lv' := [(0, .ref (G.2.2 + o0)), (1, .int (iv v1)), (2, .int (iv v2)), (3, .int (iv v3)), (4, .int (iv v4)), (5, .int (iv (w32 (4 * x1))))]) C dX10_lays_6 (by decide) [1, 2, 3, 4, 5, 0] rfl ?_
  refine z_aload_n C dX10_lays_8 0 rfl ?_
  obtain ⟨on2, hon2, h⟩ := bnd h
  refine y_getR C dX10_lays_9 fX10_80 rfl hon2 ?_
  refine z_iload C dX10_lays_12 5 rfl ?_
  refine z_iload_n C dX10_lays_14 1 rfl ?_
  obtain ⟨M3, hM3, h⟩ := bnd h
  refine y_iast C dX10_lays_15 hM3 ?_
  refine z_aload_n C dX10_lays_16 0 rfl ?_
  obtain ⟨on4, hon4, h⟩ := bnd h
  refine y_getR C dX10_lays_17 fX10_80 rfl hon4 ?_
  refine z_iload C dX10_lays_20 5 rfl ?_
  refine z_iconst C dX10_lays_22 ?_
  refine y_iadd C dX10_lays_23 ?_
  refine z_iload_n C dX10_lays_24 2 rfl ?_
  obtain ⟨M5, hM5, h⟩ := bnd h
  refine y_iast C dX10_lays_25 hM5 ?_
  refine z_aload_n C dX10_lays_26 0 rfl ?_
  obtain ⟨on6, hon6, h⟩ := bnd h
  refine y_getR C dX10_lays_27 fX10_80 rfl hon6 ?_
  refine z_iload C dX10_lays_30 5 rfl ?_
  refine z_iconst C dX10_lays_32 ?_
  refine y_iadd C dX10_lays_33 ?_
  refine z_iload_n C dX10_lays_34 3 rfl ?_
  obtain ⟨M7, hM7, h⟩ := bnd h
  refine y_iast C dX10_lays_35 hM7 ?_
  refine z_aload_n C dX10_lays_36 0 rfl ?_
  obtain ⟨on8, hon8, h⟩ := bnd h
  refine y_getR C dX10_lays_37 fX10_80 rfl hon8 ?_
  refine z_iload C dX10_lays_40 5 rfl ?_
  refine z_iconst C dX10_lays_42 ?_
  refine y_iadd C dX10_lays_43 ?_
  refine z_iload C dX10_lays_44 4 rfl ?_
  obtain ⟨M9, hM9, h⟩ := bnd h
  refine y_iast C dX10_lays_46 hM9 ?_
  refine z_aload_n C dX10_lays_47 0 rfl ?_
  refine z_dup C dX10_lays_48 rfl ?_
  obtain ⟨x10, hx10, h⟩ := bnd h
  refine y_getI C dX10_lays_49 fX10_362 rfl hx10 (fun gx10 => ?_)
  refine z_iconst C dX10_lays_52 ?_
  refine y_iadd C dX10_lays_53 ?_
  obtain ⟨M11, hM11, h⟩ := bnd h
  refine y_putI C dX10_lays_54 fX10_362 rfl rfl rfl rfl hM11 ?_
  refine z_aload_n C dX10_lays_57 0 rfl ?_
  obtain ⟨x12, hx12, h⟩ := bnd h
  refine y_getI C dX10_lays_58 fX10_362 rfl hx12 (fun gx12 => ?_)
  refine z_iconst C dX10_lays_61 ?_
  refine y_isub C dX10_lays_62 ?_
  exact y_iretB C dX10_lays_63 h (w32_rng _)

set_option maxHeartbeats 4000000 in
set_option maxRecDepth 100000 in
theorem tX0_canMakeUp_o {G : Gx} {σ : State} (hC : Cy G σ) (dd : Nat) (rc : Nat → Int → Int → Int → Int → Mm → Option (Int)) (hrc : ∀ (o0 : Nat) (v1 : Int) (v2 : Int) (v3 : Int) (v4 : Int) {M : Mm}, rg v1 → rg v2 → rg v3 → rg v4 → ∀ {R : Int}, rc o0 v1 v2 v3 v4 M = some R → Ct G σ dd yX0_canMakeUp cX0_canMakeUp 5 (some .boolean) [.ref (G.2.2 + o0), .int (iv v1), .int (iv v2), .int (iv v3), .int (iv v4)] M 0 0 (Qb R M)) (o0 : Nat) (v1 : Int) (v2 : Int) (v3 : Int) (v4 : Int) {M0 : Mm} (gv1 : rg v1) (gv2 : rg v2) (gv3 : rg v3) (gv4 : rg v4) {R : Int} (h : uX0_canMakeUp_o rc o0 v1 v2 v3 v4 M0 = some R) : Ct G σ (dd + 13) yX0_canMakeUp cX0_canMakeUp 5 (some .boolean) [.ref (G.2.2 + o0), .int (iv v1), .int (iv v2), .int (iv v3), .int (iv v4)] M0 0 0 (Qb R M0) := by
  refine Ct.of hC.1 (by decide +kernel) (Nat.le_of_ble_eq_true rfl) ?_
  intro p l e R0 s m args below meth c C
  show Jz G σ p l e R0 s m args below meth c 5 0 0 (Qb R M0) M0 0 0 0 [(0, .ref (G.2.2 + o0)), (1, .int (iv v1)), (2, .int (iv v2)), (3, .int (iv v3)), (4, .int (iv v4))] []
  unfold uX0_canMakeUp_o at h
  refine z_iload_n C dX0_canMakeUp_0 3 rfl ?_
  refine z_if_gt 23 C dX0_canMakeUp_1 (by decide) gv3 (fun e1 => ?_) (fun e1 => ?_)
  ·
    have h := (if_pos e1).symm.trans h
    refine z_iload_n C dX0_canMakeUp_23 1 rfl ?_
    refine z_iload_n C dX0_canMakeUp_24 3 rfl ?_
    refine y_iadd C dX0_canMakeUp_25 ?_
    refine z_aload_n C dX0_canMakeUp_26 0 rfl ?_
    obtain ⟨x2, hx2, h⟩ := bnd h
    refine y_getI C dX0_canMakeUp_27 fX0_37 rfl hx2 (fun gx2 => ?_)
    refine z_icmp_gt 54 C dX0_canMakeUp_30 (by decide) (w32_rng _) gx2 (fun e3 => ?_) (fun e3 => ?_)
    ·
      have h := (if_pos e3).symm.trans h
      refine z_iconst C dX0_canMakeUp_54 ?_
      exact y_zretP C dX0_canMakeUp_55 h (by decide)
    ·
      have h := (if_neg e3).symm.trans h
      refine z_iload_n C dX0_canMakeUp_33 1 rfl ?_
      refine z_bipush C dX0_canMakeUp_34 (by decide) ?_
      refine z_icmp_ge 54 C dX0_canMakeUp_36 (by decide) gv1 (by decide) (fun e4 => ?_) (fun e4 => ?_)
      ·
        have h := (if_pos e4).symm.trans h
        refine z_iconst C dX0_canMakeUp_54 ?_
        exact y_zretP C dX0_canMakeUp_55 h (by decide)
      ·
        have h := (if_neg e4).symm.trans h
        refine z_iload_n C dX0_canMakeUp_39 2 rfl ?_
        refine z_if_le 54 C dX0_canMakeUp_40 (by decide) gv2 (fun e5 => ?_) (fun e5 => ?_)
        ·
          have h := (if_pos e5).symm.trans h
          refine z_iconst C dX0_canMakeUp_54 ?_
          exact y_zretP C dX0_canMakeUp_55 h (by decide)
        ·
          have h := (if_neg e5).symm.trans h
          refine z_aload_n C dX0_canMakeUp_43 0 rfl ?_
          obtain ⟨on6, hon6, h⟩ := bnd h
          refine y_getR C dX0_canMakeUp_44 fX0_30 rfl hon6 ?_
          refine z_iload_n C dX0_canMakeUp_47 1 rfl ?_
          obtain ⟨x7, hx7, h⟩ := bnd h
          refine y_iald C dX0_canMakeUp_48 hx7 (fun gx7 => ?_)
          refine z_iload C dX0_canMakeUp_49 4 rfl ?_
          refine z_icmp_ge 56 C dX0_canMakeUp_51 (by decide) gx7 gv4 (fun e8 => ?_) (fun e8 => ?_)
          ·
            have h := (if_pos e8).symm.trans h
            refine z_aload_n C dX0_canMakeUp_56 0 rfl ?_
            refine z_iload_n C dX0_canMakeUp_57 1 rfl ?_
            refine z_iconst C dX0_canMakeUp_58 ?_
            refine y_iadd C dX0_canMakeUp_59 ?_
            refine z_iload_n C dX0_canMakeUp_60 2 rfl ?_
            refine z_aload_n C dX0_canMakeUp_61 0 rfl ?_
            obtain ⟨on9, hon9, h⟩ := bnd h
            refine y_getR C dX0_canMakeUp_62 fX0_24 rfl hon9 ?_
            refine z_iload_n C dX0_canMakeUp_65 1 rfl ?_
            obtain ⟨x10, hx10, h⟩ := bnd h
            refine y_iald C dX0_canMakeUp_66 hx10 (fun gx10 => ?_)
            refine y_isub C dX0_canMakeUp_67 ?_
            refine z_iload_n C dX0_canMakeUp_68 3 rfl ?_
            refine z_iconst C dX0_canMakeUp_69 ?_
            refine y_isub C dX0_canMakeUp_70 ?_
            refine z_iload C dX0_canMakeUp_71 4 rfl ?_
            refine z_aload_n C dX0_canMakeUp_73 0 rfl ?_
            obtain ⟨on11, hon11, h⟩ := bnd h
            refine y_getR C dX0_canMakeUp_74 fX0_27 rfl hon11 ?_
            refine z_iload_n C dX0_canMakeUp_77 1 rfl ?_
            obtain ⟨x12, hx12, h⟩ := bnd h
            refine y_iald C dX0_canMakeUp_78 hx12 (fun gx12 => ?_)
            refine y_isub C dX0_canMakeUp_79 ?_
            obtain ⟨k13, h⟩ := gK_inv h
            obtain ⟨r14, hr14, h⟩ := bnd h
            refine y_cVb (st := []) C dX0_canMakeUp_80 mX0_142 k13 (hrc o0 (w32 (v1 + 1)) (w32 (v2 - x10)) (w32 (v3 - 1)) (w32 (v4 - x12)) (w32_rng _) (w32_rng _) (w32_rng _) (w32_rng _) hr14) rfl rfl (Nat.le_of_ble_eq_true rfl) (by omega) (fun br14 => ?_)
            refine z_if_ne 100 C dX0_canMakeUp_83 (by decide) (rg01 br14) (fun e15 => ?_) (fun e15 => ?_)
            ·
              have h := (if_neg e15).symm.trans h
              refine z_iconst C dX0_canMakeUp_100 ?_
              refine z_goto 105 C dX0_canMakeUp_101 (by decide) ?_
              exact y_zretP C dX0_canMakeUp_105 h (by decide)
            ·
              have h := (if_pos e15).symm.trans h
              refine z_aload_n C dX0_canMakeUp_86 0 rfl ?_
              refine z_iload_n C dX0_canMakeUp_87 1 rfl ?_
              refine z_iconst C dX0_canMakeUp_88 ?_
              refine y_iadd C dX0_canMakeUp_89 ?_
              refine z_iload_n C dX0_canMakeUp_90 2 rfl ?_
              refine z_iload_n C dX0_canMakeUp_91 3 rfl ?_
              refine z_iload C dX0_canMakeUp_92 4 rfl ?_
              obtain ⟨k16, h⟩ := gK_inv h
              obtain ⟨r17, hr17, h⟩ := bnd h
              refine y_cVb (st := []) C dX0_canMakeUp_94 mX0_142 k16 (hrc o0 (w32 (v1 + 1)) v2 v3 v4 (w32_rng _) gv2 gv3 gv4 hr17) rfl rfl (Nat.le_of_ble_eq_true rfl) (by omega) (fun br17 => ?_)
              refine z_if_eq 104 C dX0_canMakeUp_97 (by decide) (rg01 br17) (fun e18 => ?_) (fun e18 => ?_)
              ·
                have h := (if_pos e18).symm.trans h
                refine z_iconst C dX0_canMakeUp_104 ?_
                exact y_zretP C dX0_canMakeUp_105 h (by decide)
              ·
                have h := (if_neg e18).symm.trans h
                refine z_iconst C dX0_canMakeUp_100 ?_
                refine z_goto 105 C dX0_canMakeUp_101 (by decide) ?_
                exact y_zretP C dX0_canMakeUp_105 h (by decide)
          ·
            have h := (if_neg e8).symm.trans h
            refine z_iconst C dX0_canMakeUp_54 ?_
            exact y_zretP C dX0_canMakeUp_55 h (by decide)
  ·
    have h := (if_neg e1).symm.trans h
    refine z_iload_n C dX0_canMakeUp_4 3 rfl ?_
    refine z_if_ne 21 C dX0_canMakeUp_5 (by decide) gv3 (fun e19 => ?_) (fun e19 => ?_)
    ·
      have h := (if_neg e19).symm.trans h
      refine z_iconst C dX0_canMakeUp_21 ?_
      exact y_zretP C dX0_canMakeUp_22 h (by decide)
    ·
      have h := (if_pos e19).symm.trans h
      refine z_iload_n C dX0_canMakeUp_8 2 rfl ?_
      refine z_if_ne 21 C dX0_canMakeUp_9 (by decide) gv2 (fun e20 => ?_) (fun e20 => ?_)
      ·
        have h := (if_neg e20).symm.trans h
        refine z_iconst C dX0_canMakeUp_21 ?_
        exact y_zretP C dX0_canMakeUp_22 h (by decide)
      ·
        have h := (if_pos e20).symm.trans h
        refine z_iload C dX0_canMakeUp_12 4 rfl ?_
        refine z_if_gt 21 C dX0_canMakeUp_14 (by decide) gv4 (fun e21 => ?_) (fun e21 => ?_)
        ·
          have h := (if_pos e21).symm.trans h
          refine z_iconst C dX0_canMakeUp_21 ?_
          exact y_zretP C dX0_canMakeUp_22 h (by decide)
        ·
          have h := (if_neg e21).symm.trans h
          refine z_iconst C dX0_canMakeUp_17 ?_
          refine z_goto 22 C dX0_canMakeUp_18 (by decide) ?_
          exact y_zretP C dX0_canMakeUp_22 h (by decide)

theorem tX0_canMakeUp {G : Gx} {σ : State} (hC : Cy G σ) (n : Nat) : ∀ (o0 : Nat) (v1 : Int) (v2 : Int) (v3 : Int) (v4 : Int) {M : Mm}, rg v1 → rg v2 → rg v3 → rg v4 → ∀ {R : Int}, uX0_canMakeUp n o0 v1 v2 v3 v4 M = some R → Ct G σ (13 * n) yX0_canMakeUp cX0_canMakeUp 5 (some .boolean) [.ref (G.2.2 + o0), .int (iv v1), .int (iv v2), .int (iv v3), .int (iv v4)] M 0 0 (Qb R M) := by
  induction n with
  | zero => intro o0 v1 v2 v3 v4 M gv1 gv2 gv3 gv4 R h; cases h
  | succ n ih =>
    intro o0 v1 v2 v3 v4 M gv1 gv2 gv3 gv4 R h
    have := tX0_canMakeUp_o hC (13 * n) (uX0_canMakeUp n) ih o0 v1 v2 v3 v4 gv1 gv2 gv3 gv4 h
    rw [show 13 * (n + 1) = 13 * n + 13 from by omega]; exact this

set_option maxHeartbeats 4000000 in
set_option maxRecDepth 100000 in
theorem tX0_lookAt {G : Gx} {σ : State} (hC : Cy G σ) (o0 : Nat) (o1 : Nat) (v2 : Int) {M0 : Mm} (gv2 : rg v2) {R : Mm} (h : uX0_lookAt o0 o1 v2 M0 = some R) : Ct G σ (2) yX0_lookAt cX0_lookAt 4 none [.ref (G.2.2 + o0), .ref (G.2.2 + o1), .int (iv v2)] M0 0 0 (Qv R) := by
  refine Ct.of hC.1 (by decide +kernel) (Nat.le_of_ble_eq_true rfl) ?_
  intro p l e R0 s m args below meth c C
  show Jz G σ p l e R0 s m args below meth c 4 0 0 (Qv R) M0 0 0 0 [(0, .ref (G.2.2 + o0)), (1, .ref (G.2.2 + o1)), (2, .int (iv v2))] []
  have hb74 : ∀  (M : Mm), uX0_lookAt_b74 M = some R → Jz G σ p l e R0 s m args below meth c 4 0 0 (Qv R) M 0 0 74 [] [] := by
    intro  M  h
    unfold uX0_lookAt_b74 at h
    exact y_retV C dX0_lookAt_74 h
  have hb7 : ∀ (o0 : Nat) (o1 : Nat) (v2 : Int) (v3 : Int) (M : Mm), (rg v2) → (rg v3) → uX0_lookAt_b7 o0 o1 v2 v3 M = some R → Jz G σ p l e R0 s m args below meth c 4 0 0 (Qv R) M 0 0 7 [(0, .ref (G.2.2 + o0)), (1, .ref (G.2.2 + o1)), (2, .int (iv v2)), (3, .int (iv v3))] [] := by
    intro o0 o1 v2 v3 M gv2 gv3 h
    unfold uX0_lookAt_b7 at h
    obtain ⟨b7, hb7_, hc7⟩ := bnd h
    have hL7 : ∀ (n : Nat) (v3 : Int) (M : Mm), (rg v3) → lp (uX0_lookAt_f7 o0 o1 v2) n (v3, M) = some b7 → Jz G σ p l e R0 s m args below meth c 4 0 0 (Qv R) M 0 0 7 [(0, .ref (G.2.2 + o0)), (1, .ref (G.2.2 + o1)), (2, .int (iv v2)), (3, .int (iv v3))] [] := by
      intro n; induction n with
      | zero => intro v3 M gv3 hq; exact (lp_0 hq).elim
      | succ n7 ih7 =>
        intro v3 M gv3 hq
        obtain ⟨z7, h, hZ7⟩ := lp_s hq
        have h : uX0_lookAt_s7 o0 o1 v2 v3 M = some z7 := h
        unfold uX0_lookAt_s7 at h
        refine z_iload_n C dX0_lookAt_7 3 rfl ?_
        refine z_aload_n C dX0_lookAt_8 1 rfl ?_
        obtain ⟨on1, hon1, h⟩ := bnd h
        refine y_getR C dX0_lookAt_9 fX0_79 rfl hon1 ?_
        obtain ⟨x2, hx2, h⟩ := bnd h
        refine y_getI C dX0_lookAt_12 fX0_83 rfl hx2 (fun gx2 => ?_)
        refine z_icmp_ge 74 C dX0_lookAt_15 (by decide) gv3 gx2 (fun e3 => ?_) (fun e3 => ?_)
        ·
          have h := (if_pos e3).symm.trans h
          have h : uX0_lookAt_b74 M = some R := lp_ex (K := (uX0_lookAt_c7 o0 o1 v2)) h hZ7 hc7
          refine z_drop (lv' := []) [] rfl ?_
          exact hb74  M  h
        ·
          have h := (if_neg e3).symm.trans h
          refine z_aload_n C dX0_lookAt_18 0 rfl ?_
          obtain ⟨x4, hx4, h⟩ := bnd h
          refine y_getI C dX0_lookAt_19 fX0_51 rfl hx4 (fun gx4 => ?_)
          refine z_bipush C dX0_lookAt_22 (by decide) ?_
          refine z_icmp_ge 74 C dX0_lookAt_24 (by decide) gx4 (by decide) (fun e5 => ?_) (fun e5 => ?_)
          ·
            have h := (if_pos e5).symm.trans h
            have h : uX0_lookAt_b74 M = some R := lp_ex (K := (uX0_lookAt_c7 o0 o1 v2)) h hZ7 hc7
            refine z_drop (lv' := []) [] rfl ?_
            exact hb74  M  h
          ·
            have h := (if_neg e5).symm.trans h
            refine z_aload_n C dX0_lookAt_27 1 rfl ?_
            refine z_iload_n C dX0_lookAt_28 3 rfl ?_
            obtain ⟨k6, h⟩ := gK_inv h
            obtain ⟨r7, hr7, h⟩ := bnd h
            refine y_cVb (st := []) C dX0_lookAt_29 mX0_88 k6 (tX8_isCoin hC o1 v3 gv3 hr7) rfl rfl (Nat.le_of_ble_eq_true rfl) (by decide) (fun br7 => ?_)
            refine z_if_eq 68 C dX0_lookAt_32 (by decide) (rg01 br7) (fun e8 => ?_) (fun e8 => ?_)
            ·
              have h := (if_pos e8).symm.trans h
              refine y_iinc (lv' := [(0, .ref (G.2.2 + o0)), (1, .ref (G.2.2 + o1)), (2, .int (iv v2)), (3, .int (iv (w32 (v3 + 1))))]) C dX0_lookAt_68 3 rfl (by decide) [1, 2, 3, 0] rfl ?_
              refine z_goto 7 C dX0_lookAt_71 (by decide) ?_
              exact ih7 (w32 (v3 + 1)) M (w32_rng _) (lp_back h hZ7)
            ·
              have h := (if_neg e8).symm.trans h
              refine z_aload_n C dX0_lookAt_35 1 rfl ?_
              obtain ⟨on9, hon9, h⟩ := bnd h
              refine y_getR C dX0_lookAt_36 fX0_79 rfl hon9 ?_
              obtain ⟨on10, hon10, h⟩ := bnd h
              refine y_getR C dX0_lookAt_39 fX0_92 rfl hon10 ?_
              refine z_iload_n C dX0_lookAt_42 3 rfl ?_
              obtain ⟨x11, hx11, h⟩ := bnd h
              refine y_iald C dX0_lookAt_43 hx11 (fun gx11 => ?_)
              refine z_iload_n C dX0_lookAt_44 2 rfl ?_
              refine z_icmp_ne 68 C dX0_lookAt_45 (by decide) gx11 gv2 (fun e12 => ?_) (fun e12 => ?_)
              ·
                have h := (if_neg e12).symm.trans h
                refine y_iinc (lv' := [(0, .ref (G.2.2 + o0)), (1, .ref (G.2.2 + o1)), (2, .int (iv v2)), (3, .int (iv (w32 (v3 + 1))))]) C dX0_lookAt_68 3 rfl (by decide) [1, 2, 3, 0] rfl ?_
                refine z_goto 7 C dX0_lookAt_71 (by decide) ?_
                exact ih7 (w32 (v3 + 1)) M (w32_rng _) (lp_back h hZ7)
              ·
                have h := (if_pos e12).symm.trans h
                refine z_aload_n C dX0_lookAt_48 0 rfl ?_
                obtain ⟨on13, hon13, h⟩ := bnd h
                refine y_getR C dX0_lookAt_49 fX0_11 rfl hon13 ?_
                refine z_aload_n C dX0_lookAt_52 0 rfl ?_
                obtain ⟨x14, hx14, h⟩ := bnd h
                refine y_getI C dX0_lookAt_53 fX0_51 rfl hx14 (fun gx14 => ?_)
                refine z_iload_n C dX0_lookAt_56 3 rfl ?_
                obtain ⟨M15, hM15, h⟩ := bnd h
                refine y_iast C dX0_lookAt_57 hM15 ?_
                refine z_aload_n C dX0_lookAt_58 0 rfl ?_
                refine z_dup C dX0_lookAt_59 rfl ?_
                obtain ⟨x16, hx16, h⟩ := bnd h
                refine y_getI C dX0_lookAt_60 fX0_51 rfl hx16 (fun gx16 => ?_)
                refine z_iconst C dX0_lookAt_63 ?_
                refine y_iadd C dX0_lookAt_64 ?_
                obtain ⟨M17, hM17, h⟩ := bnd h
                refine y_putI C dX0_lookAt_65 fX0_51 rfl rfl rfl rfl hM17 ?_
                refine y_iinc (lv' := [(0, .ref (G.2.2 + o0)), (1, .ref (G.2.2 + o1)), (2, .int (iv v2)), (3, .int (iv (w32 (v3 + 1))))]) C dX0_lookAt_68 3 rfl (by decide) [1, 2, 3, 0] rfl ?_
                refine z_goto 7 C dX0_lookAt_71 (by decide) ?_
                exact ih7 (w32 (v3 + 1)) M17 (w32_rng _) (lp_back h hZ7)
    exact hL7 _ v3 M gv3 hb7_
  unfold uX0_lookAt at h
  refine z_aload_n C dX0_lookAt_0 0 rfl ?_
  refine z_iconst C dX0_lookAt_1 ?_
  obtain ⟨M18, hM18, h⟩ := bnd h
  refine y_putI C dX0_lookAt_2 fX0_51 rfl rfl rfl rfl hM18 ?_
  refine z_iconst C dX0_lookAt_5 ?_
  refine z_istore_n (lv' := [(0, .ref (G.2.2 + o0)), (1, .ref (G.2.2 + o1)), (2, .int (iv v2)), (3, .int (iv 0))]) C dX0_lookAt_6 rfl (by decide) [1, 2, 3, 0] rfl ?_
  exact hb7 o0 o1 v2 0 M18 gv2 (by decide) h

set_option maxHeartbeats 4000000 in
set_option maxRecDepth 100000 in
theorem tX0_firstWay {G : Gx} {σ : State} (hC : Cy G σ) (o0 : Nat) (v1 : Int) (v2 : Int) (v3 : Int) (v4 : Int) {M0 : Mm} (gv1 : rg v1) (gv2 : rg v2) (gv3 : rg v3) (gv4 : rg v4) {R : Int} (h : uX0_firstWay o0 v1 v2 v3 v4 M0 = some R) : Ct G σ (209) yX0_firstWay cX0_firstWay 7 (some .int) [.ref (G.2.2 + o0), .int (iv v1), .int (iv v2), .int (iv v3), .int (iv v4)] M0 0 0 (Qi R M0) := by
  refine Ct.of hC.1 (by decide +kernel) (Nat.le_of_ble_eq_true rfl) ?_
  intro p l e R0 s m args below meth c C
  show Jz G σ p l e R0 s m args below meth c 7 0 0 (Qi R M0) M0 0 0 0 [(0, .ref (G.2.2 + o0)), (1, .int (iv v1)), (2, .int (iv v2)), (3, .int (iv v3)), (4, .int (iv v4))] []
  have hb85 : uX0_firstWay_b85 M0 = some R → Jz G σ p l e R0 s m args below meth c 7 0 0 (Qi R M0) M0 0 0 85 [] [] := by
    intro    h
    unfold uX0_firstWay_b85 at h
    refine z_iconst C dX0_firstWay_85 ?_
    exact y_iretP C dX0_firstWay_86 h (by decide)
  have hb19 : ∀ (o0 : Nat) (v1 : Int) (v2 : Int) (v3 : Int) (v4 : Int) (v5 : Int), (rg v1) → (rg v2) → (rg v3) → (rg v4) → (rg v5) → uX0_firstWay_b19 o0 v1 v2 v3 v4 v5 M0 = some R → Jz G σ p l e R0 s m args below meth c 7 0 0 (Qi R M0) M0 0 0 19 [(0, .ref (G.2.2 + o0)), (1, .int (iv v1)), (2, .int (iv v2)), (3, .int (iv v3)), (4, .int (iv v4)), (5, .int (iv v5))] [] := by
    intro o0 v1 v2 v3 v4 v5  gv1 gv2 gv3 gv4 gv5 h
    unfold uX0_firstWay_b19 at h
    obtain ⟨b19, hb19_, hc19⟩ := bnd h
    have hL19 : ∀ (n : Nat) (v5 : Int), (rg v5) → lp (uX0_firstWay_f19 o0 v1 v2 v3 v4 M0) n v5 = some b19 → Jz G σ p l e R0 s m args below meth c 7 0 0 (Qi R M0) M0 0 0 19 [(0, .ref (G.2.2 + o0)), (1, .int (iv v1)), (2, .int (iv v2)), (3, .int (iv v3)), (4, .int (iv v4)), (5, .int (iv v5))] [] := by
      intro n; induction n with
      | zero => intro v5 gv5 hq; exact (lp_0 hq).elim
      | succ n19 ih19 =>
        intro v5 gv5 hq
        obtain ⟨z19, h, hZ19⟩ := lp_s hq
        have h : uX0_firstWay_s19 o0 v1 v2 v3 v4 M0 v5 = some z19 := h
        unfold uX0_firstWay_s19 at h
        refine z_iload C dX0_firstWay_19 5 rfl ?_
        refine z_bipush C dX0_firstWay_21 (by decide) ?_
        refine z_icmp_ge 85 C dX0_firstWay_23 (by decide) gv5 (by decide) (fun e1 => ?_) (fun e1 => ?_)
        ·
          have h := (if_pos e1).symm.trans h
          have h : uX0_firstWay_b85 M0 = some R := lp_ex (K := (uX0_firstWay_c19 o0 v1 v2 v3 v4 M0)) h hZ19 hc19
          refine z_drop (lv' := []) [] rfl ?_
          exact hb85    h
        ·
          have h := (if_neg e1).symm.trans h
          refine z_aload_n C dX0_firstWay_26 0 rfl ?_
          obtain ⟨on2, hon2, h⟩ := bnd h
          refine y_getR C dX0_firstWay_27 fX0_18 rfl hon2 ?_
          refine z_aload_n C dX0_firstWay_30 0 rfl ?_
          obtain ⟨on3, hon3, h⟩ := bnd h
          refine y_getR C dX0_firstWay_31 fX0_21 rfl hon3 ?_
          refine z_iload_n C dX0_firstWay_34 1 rfl ?_
          obtain ⟨x4, hx4, h⟩ := bnd h
          refine y_iald C dX0_firstWay_35 hx4 (fun gx4 => ?_)
          refine z_bipush C dX0_firstWay_36 (by decide) ?_
          refine y_imul C dX0_firstWay_38 ?_
          refine z_iload C dX0_firstWay_39 5 rfl ?_
          refine y_iadd C dX0_firstWay_41 ?_
          obtain ⟨x5, hx5, h⟩ := bnd h
          refine y_iald C dX0_firstWay_42 hx5 (fun gx5 => ?_)
          refine z_istore (lv' := [(0, .ref (G.2.2 + o0)), (1, .int (iv v1)), (2, .int (iv v2)), (3, .int (iv v3)), (4, .int (iv v4)), (5, .int (iv v5)), (6, .int (iv x5))]) C dX0_firstWay_43 (by decide) [1, 2, 3, 4, 5, 6, 0] rfl ?_
          refine z_iload C dX0_firstWay_45 6 rfl ?_
          refine z_if_le 79 C dX0_firstWay_47 (by decide) gx5 (fun e6 => ?_) (fun e6 => ?_)
          ·
            have h := (if_pos e6).symm.trans h
            refine y_iinc (lv' := [(0, .ref (G.2.2 + o0)), (1, .int (iv v1)), (2, .int (iv v2)), (3, .int (iv v3)), (4, .int (iv v4)), (5, .int (iv (w32 (v5 + 1)))), (6, .int (iv x5))]) C dX0_firstWay_79 5 rfl (by decide) [1, 2, 3, 4, 5, 0, 6] rfl ?_
            refine z_goto 19 C dX0_firstWay_82 (by decide) ?_
            refine z_drop (lv' := [(0, .ref (G.2.2 + o0)), (1, .int (iv v1)), (2, .int (iv v2)), (3, .int (iv v3)), (4, .int (iv v4)), (5, .int (iv (w32 (v5 + 1))))]) [0, 1, 2, 3, 4, 5] rfl ?_
            exact ih19 (w32 (v5 + 1)) (w32_rng _) (lp_back h hZ19)
          ·
            have h := (if_neg e6).symm.trans h
            refine z_aload_n C dX0_firstWay_50 0 rfl ?_
            refine z_iload_n C dX0_firstWay_51 1 rfl ?_
            refine z_iconst C dX0_firstWay_52 ?_
            refine y_iadd C dX0_firstWay_53 ?_
            refine z_iload_n C dX0_firstWay_54 2 rfl ?_
            refine z_aload_n C dX0_firstWay_55 0 rfl ?_
            obtain ⟨on7, hon7, h⟩ := bnd h
            refine y_getR C dX0_firstWay_56 fX0_24 rfl hon7 ?_
            refine z_iload_n C dX0_firstWay_59 1 rfl ?_
            obtain ⟨x8, hx8, h⟩ := bnd h
            refine y_iald C dX0_firstWay_60 hx8 (fun gx8 => ?_)
            refine y_isub C dX0_firstWay_61 ?_
            refine z_iload_n C dX0_firstWay_62 3 rfl ?_
            refine z_iconst C dX0_firstWay_63 ?_
            refine y_isub C dX0_firstWay_64 ?_
            refine z_iload C dX0_firstWay_65 4 rfl ?_
            refine z_iload C dX0_firstWay_67 6 rfl ?_
            refine y_isub C dX0_firstWay_69 ?_
            obtain ⟨k9, h⟩ := gK_inv h
            obtain ⟨r10, hr10, h⟩ := bnd h
            refine y_cVb (st := []) C dX0_firstWay_70 mX0_142 k9 (tX0_canMakeUp hC 16 o0 (w32 (v1 + 1)) (w32 (v2 - x8)) (w32 (v3 - 1)) (w32 (v4 - x5)) (w32_rng _) (w32_rng _) (w32_rng _) (w32_rng _) hr10) rfl rfl (Nat.le_of_ble_eq_true rfl) (by omega) (fun br10 => ?_)
            refine z_if_eq 79 C dX0_firstWay_73 (by decide) (rg01 br10) (fun e11 => ?_) (fun e11 => ?_)
            ·
              have h := (if_pos e11).symm.trans h
              refine y_iinc (lv' := [(0, .ref (G.2.2 + o0)), (1, .int (iv v1)), (2, .int (iv v2)), (3, .int (iv v3)), (4, .int (iv v4)), (5, .int (iv (w32 (v5 + 1)))), (6, .int (iv x5))]) C dX0_firstWay_79 5 rfl (by decide) [1, 2, 3, 4, 5, 0, 6] rfl ?_
              refine z_goto 19 C dX0_firstWay_82 (by decide) ?_
              refine z_drop (lv' := [(0, .ref (G.2.2 + o0)), (1, .int (iv v1)), (2, .int (iv v2)), (3, .int (iv v3)), (4, .int (iv v4)), (5, .int (iv (w32 (v5 + 1))))]) [0, 1, 2, 3, 4, 5] rfl ?_
              exact ih19 (w32 (v5 + 1)) (w32_rng _) (lp_back h hZ19)
            ·
              have h := (if_neg e11).symm.trans h
              refine z_iload C dX0_firstWay_76 5 rfl ?_
              have h := lp_ret (K := (uX0_firstWay_c19 o0 v1 v2 v3 v4 M0)) h hZ19 hc19
              exact y_iretP C dX0_firstWay_78 h gv5
    exact hL19 _ v5 gv5 hb19_
  unfold uX0_firstWay at h
  refine z_aload_n C dX0_firstWay_0 0 rfl ?_
  refine z_iload_n C dX0_firstWay_1 1 rfl ?_
  refine z_iconst C dX0_firstWay_2 ?_
  refine y_iadd C dX0_firstWay_3 ?_
  refine z_iload_n C dX0_firstWay_4 2 rfl ?_
  refine z_iload_n C dX0_firstWay_5 3 rfl ?_
  refine z_iload C dX0_firstWay_6 4 rfl ?_
  obtain ⟨k12, h⟩ := gK_inv h
  obtain ⟨r13, hr13, h⟩ := bnd h
  refine y_cVb (st := []) C dX0_firstWay_8 mX0_142 k12 (tX0_canMakeUp hC 16 o0 (w32 (v1 + 1)) v2 v3 v4 (w32_rng _) gv2 gv3 gv4 hr13) rfl rfl (Nat.le_of_ble_eq_true rfl) (by omega) (fun br13 => ?_)
  refine z_if_eq 16 C dX0_firstWay_11 (by decide) (rg01 br13) (fun e14 => ?_) (fun e14 => ?_)
  ·
    have h := (if_pos e14).symm.trans h
    refine z_iconst C dX0_firstWay_16 ?_
    refine z_istore (lv' := [(0, .ref (G.2.2 + o0)), (1, .int (iv v1)), (2, .int (iv v2)), (3, .int (iv v3)), (4, .int (iv v4)), (5, .int (iv 1))]) C dX0_firstWay_17 (by decide) [1, 2, 3, 4, 5, 0] rfl ?_
    exact hb19 o0 v1 v2 v3 v4 1  gv1 gv2 gv3 gv4 (by decide) h
  ·
    have h := (if_neg e14).symm.trans h
    refine z_iconst C dX0_firstWay_14 ?_
    exact y_iretP C dX0_firstWay_15 h (by decide)

set_option maxHeartbeats 4000000 in
set_option maxRecDepth 100000 in
theorem tX1_clear {G : Gx} {σ : State} (hC : Cy G σ) (o0 : Nat) {M0 : Mm}  {R : Mm} (h : uX1_clear o0 M0 = some R) : Ct G σ (2) yX1_clear cX1_clear 1 none [.ref (G.2.2 + o0)] M0 0 0 (Qv R) := by
  refine Ct.of hC.1 (by decide +kernel) (Nat.le_of_ble_eq_true rfl) ?_
  intro p l e R0 s m args below meth c C
  show Jz G σ p l e R0 s m args below meth c 1 0 0 (Qv R) M0 0 0 0 [(0, .ref (G.2.2 + o0))] []
  unfold uX1_clear at h
  refine z_aload_n C dX1_clear_0 0 rfl ?_
  refine z_iconst C dX1_clear_1 ?_
  obtain ⟨M1, hM1, h⟩ := bnd h
  refine y_putI C dX1_clear_2 fX1_33 rfl rfl rfl rfl hM1 ?_
  refine z_aload_n C dX1_clear_5 0 rfl ?_
  refine z_iconst C dX1_clear_6 ?_
  obtain ⟨M2, hM2, h⟩ := bnd h
  refine y_putI C dX1_clear_7 fX1_37 rfl rfl rfl rfl hM2 ?_
  refine z_aload_n C dX1_clear_10 0 rfl ?_
  refine z_iconst C dX1_clear_11 ?_
  obtain ⟨M3, hM3, h⟩ := bnd h
  refine y_putI C dX1_clear_12 fX1_40 rfl rfl rfl rfl hM3 ?_
  refine z_aload_n C dX1_clear_15 0 rfl ?_
  refine z_iconst C dX1_clear_16 ?_
  obtain ⟨M4, hM4, h⟩ := bnd h
  refine y_putI C dX1_clear_17 fX1_43 rfl rfl rfl rfl hM4 ?_
  refine z_aload_n C dX1_clear_20 0 rfl ?_
  refine z_iconst C dX1_clear_21 ?_
  obtain ⟨M5, hM5, h⟩ := bnd h
  refine y_putI C dX1_clear_22 fX1_46 rfl rfl rfl rfl hM5 ?_
  refine z_aload_n C dX1_clear_25 0 rfl ?_
  refine z_iconst C dX1_clear_26 ?_
  obtain ⟨M6, hM6, h⟩ := bnd h
  refine y_putI C dX1_clear_27 fX1_49 rfl rfl rfl rfl hM6 ?_
  refine z_aload_n C dX1_clear_30 0 rfl ?_
  refine z_iconst C dX1_clear_31 ?_
  obtain ⟨M7, hM7, h⟩ := bnd h
  refine y_putI C dX1_clear_32 fX1_52 rfl rfl rfl rfl hM7 ?_
  refine z_aload_n C dX1_clear_35 0 rfl ?_
  obtain ⟨k8, h⟩ := gK_inv h
  obtain ⟨M9, hM9, h⟩ := bnd h
  refine y_cVv (st := []) C dX1_clear_36 mX1_55 k8 (tX1_bringDieBack hC o0  hM9) rfl rfl (Nat.le_of_ble_eq_true rfl) (by decide) ?_
  exact y_retV C dX1_clear_39 h

set_option maxHeartbeats 4000000 in
set_option maxRecDepth 100000 in
theorem tX1_strokeAt {G : Gx} {σ : State} (hC : Cy G σ) (o0 : Nat) (v1 : Int) (v2 : Int) {M0 : Mm} (gv1 : rg v1) (gv2 : rg v2) {R : Int} (h : uX1_strokeAt o0 v1 v2 M0 = some R) : Ct G σ (2) yX1_strokeAt cX1_strokeAt 3 (some .int) [.ref (G.2.2 + o0), .int (iv v1), .int (iv v2)] M0 0 0 (Qi R M0) := by
  refine Ct.of hC.1 (by decide +kernel) (Nat.le_of_ble_eq_true rfl) ?_
  intro p l e R0 s m args below meth c C
  show Jz G σ p l e R0 s m args below meth c 3 0 0 (Qi R M0) M0 0 0 0 [(0, .ref (G.2.2 + o0)), (1, .int (iv v1)), (2, .int (iv v2))] []
  unfold uX1_strokeAt at h
  refine z_aload_n C dX1_strokeAt_0 0 rfl ?_
  refine z_iload_n C dX1_strokeAt_1 1 rfl ?_
  refine z_iload_n C dX1_strokeAt_2 2 rfl ?_
  obtain ⟨k1, h⟩ := gK_inv h
  obtain ⟨r2, hr2, h⟩ := bnd h
  refine y_cVb (st := []) C dX1_strokeAt_3 mX1_70 k1 (tX1_hasFace hC o0 v1 v2 gv1 gv2 hr2) rfl rfl (Nat.le_of_ble_eq_true rfl) (by decide) (fun br2 => ?_)
  refine z_if_eq 23 C dX1_strokeAt_6 (by decide) (rg01 br2) (fun e3 => ?_) (fun e3 => ?_)
  ·
    have h := (if_pos e3).symm.trans h
    refine z_iconst C dX1_strokeAt_23 ?_
    exact y_iretP C dX1_strokeAt_24 h (by decide)
  ·
    have h := (if_neg e3).symm.trans h
    refine z_aload_n C dX1_strokeAt_9 0 rfl ?_
    obtain ⟨on4, hon4, h⟩ := bnd h
    refine y_getR C dX1_strokeAt_10 fX1_24 rfl hon4 ?_
    refine z_iload_n C dX1_strokeAt_13 1 rfl ?_
    refine z_bipush C dX1_strokeAt_14 (by decide) ?_
    refine y_imul C dX1_strokeAt_16 ?_
    refine z_iload_n C dX1_strokeAt_17 2 rfl ?_
    refine y_iadd C dX1_strokeAt_18 ?_
    obtain ⟨x5, hx5, h⟩ := bnd h
    refine y_iald C dX1_strokeAt_19 hx5 (fun gx5 => ?_)
    refine z_goto 24 C dX1_strokeAt_20 (by decide) ?_
    exact y_iretP C dX1_strokeAt_24 h gx5

set_option maxHeartbeats 4000000 in
set_option maxRecDepth 100000 in
theorem tX1_depthAt {G : Gx} {σ : State} (hC : Cy G σ) (o0 : Nat) (v1 : Int) (v2 : Int) {M0 : Mm} (gv1 : rg v1) (gv2 : rg v2) {R : Int} (h : uX1_depthAt o0 v1 v2 M0 = some R) : Ct G σ (2) yX1_depthAt cX1_depthAt 3 (some .int) [.ref (G.2.2 + o0), .int (iv v1), .int (iv v2)] M0 0 0 (Qi R M0) := by
  refine Ct.of hC.1 (by decide +kernel) (Nat.le_of_ble_eq_true rfl) ?_
  intro p l e R0 s m args below meth c C
  show Jz G σ p l e R0 s m args below meth c 3 0 0 (Qi R M0) M0 0 0 0 [(0, .ref (G.2.2 + o0)), (1, .int (iv v1)), (2, .int (iv v2))] []
  unfold uX1_depthAt at h
  refine z_aload_n C dX1_depthAt_0 0 rfl ?_
  refine z_iload_n C dX1_depthAt_1 1 rfl ?_
  refine z_iload_n C dX1_depthAt_2 2 rfl ?_
  obtain ⟨k1, h⟩ := gK_inv h
  obtain ⟨r2, hr2, h⟩ := bnd h
  refine y_cVb (st := []) C dX1_depthAt_3 mX1_70 k1 (tX1_hasFace hC o0 v1 v2 gv1 gv2 hr2) rfl rfl (Nat.le_of_ble_eq_true rfl) (by decide) (fun br2 => ?_)
  refine z_if_eq 23 C dX1_depthAt_6 (by decide) (rg01 br2) (fun e3 => ?_) (fun e3 => ?_)
  ·
    have h := (if_pos e3).symm.trans h
    refine z_iconst C dX1_depthAt_23 ?_
    exact y_iretP C dX1_depthAt_24 h (by decide)
  ·
    have h := (if_neg e3).symm.trans h
    refine z_aload_n C dX1_depthAt_9 0 rfl ?_
    obtain ⟨on4, hon4, h⟩ := bnd h
    refine y_getR C dX1_depthAt_10 fX1_27 rfl hon4 ?_
    refine z_iload_n C dX1_depthAt_13 1 rfl ?_
    refine z_bipush C dX1_depthAt_14 (by decide) ?_
    refine y_imul C dX1_depthAt_16 ?_
    refine z_iload_n C dX1_depthAt_17 2 rfl ?_
    refine y_iadd C dX1_depthAt_18 ?_
    obtain ⟨x5, hx5, h⟩ := bnd h
    refine y_iald C dX1_depthAt_19 hx5 (fun gx5 => ?_)
    refine z_goto 24 C dX1_depthAt_20 (by decide) ?_
    exact y_iretP C dX1_depthAt_24 h gx5

set_option maxHeartbeats 4000000 in
set_option maxRecDepth 100000 in
theorem tX1_cover {G : Gx} {σ : State} (hC : Cy G σ) (o0 : Nat) (v1 : Int) (v2 : Int) (v3 : Int) (v4 : Int) {M0 : Mm} (gv1 : rg v1) (gv2 : rg v2) (gv3 : rg v3) (gv4 : rg v4) {R : Mm} (h : uX1_cover o0 v1 v2 v3 v4 M0 = some R) : Ct G σ (2) yX1_cover cX1_cover 8 none [.ref (G.2.2 + o0), .int (iv v1), .int (iv v2), .int (iv v3), .int (iv v4)] M0 0 0 (Qv R) := by
  refine Ct.of hC.1 (by decide +kernel) (Nat.le_of_ble_eq_true rfl) ?_
  intro p l e R0 s m args below meth c C
  show Jz G σ p l e R0 s m args below meth c 8 0 0 (Qv R) M0 0 0 0 [(0, .ref (G.2.2 + o0)), (1, .int (iv v1)), (2, .int (iv v2)), (3, .int (iv v3)), (4, .int (iv v4))] []
  have hb116 : ∀ (o0 : Nat) (v1 : Int) (v2 : Int) (v5 : Int) (v6 : Int) (M : Mm), (rg v1) → (rg v2) → (rg v5) → (rg v6) → uX1_cover_b116 o0 v1 v2 v5 v6 M = some R → Jz G σ p l e R0 s m args below meth c 8 0 0 (Qv R) M 0 0 116 [(0, .ref (G.2.2 + o0)), (1, .int (iv v1)), (2, .int (iv v2)), (5, .int (iv v5)), (6, .int (iv v6))] [] := by
    intro o0 v1 v2 v5 v6 M gv1 gv2 gv5 gv6 h
    unfold uX1_cover_b116 at h
    refine z_aload_n C dX1_cover_116 0 rfl ?_
    obtain ⟨on1, hon1, h⟩ := bnd h
    refine y_getR C dX1_cover_117 fX1_24 rfl hon1 ?_
    refine z_iload C dX1_cover_120 3 rfl ?_
    refine z_iload_n C dX1_cover_122 2 rfl ?_
    obtain ⟨M2, hM2, h⟩ := bnd h
    refine y_iast C dX1_cover_123 hM2 ?_
    refine z_aload_n C dX1_cover_124 0 rfl ?_
    obtain ⟨on3, hon3, h⟩ := bnd h
    refine y_getR C dX1_cover_125 fX1_27 rfl hon3 ?_
    refine z_iload C dX1_cover_128 3 rfl ?_
    refine z_bipush C dX1_cover_130 (by decide) ?_
    obtain ⟨M4, hM4, h⟩ := bnd h
    refine y_iast C dX1_cover_132 hM4 ?_
    refine z_aload_n C dX1_cover_133 0 rfl ?_
    obtain ⟨on5, hon5, h⟩ := bnd h
    refine y_getR C dX1_cover_134 fX1_21 rfl hon5 ?_
    refine z_iload_n C dX1_cover_137 1 rfl ?_
    refine z_iload C dX1_cover_138 4 rfl ?_
    refine z_iconst C dX1_cover_140 ?_
    refine y_iadd C dX1_cover_141 ?_
    obtain ⟨M6, hM6, h⟩ := bnd h
    refine y_iast C dX1_cover_142 hM6 ?_
    exact y_retV C dX1_cover_143 h
  have hb58 : ∀ (o0 : Nat) (v1 : Int) (v2 : Int) (v4 : Int) (v5 : Int) (v6 : Int) (v7 : Int) (M : Mm), (rg v1) → (rg v2) → (rg v4) → (rg v5) → (rg v6) → (rg v7) → uX1_cover_b58 o0 v1 v2 v4 v5 v6 v7 M = some R → Jz G σ p l e R0 s m args below meth c 8 0 0 (Qv R) M 0 0 58 [(0, .ref (G.2.2 + o0)), (1, .int (iv v1)), (2, .int (iv v2)), (4, .int (iv v4)), (5, .int (iv v5)), (6, .int (iv v6)), (7, .int (iv v7))] [] := by
    intro o0 v1 v2 v4 v5 v6 v7 M gv1 gv2 gv4 gv5 gv6 gv7 h
    unfold uX1_cover_b58 at h
    obtain ⟨b58, hb58_, hc58⟩ := bnd h
    have hL58 : ∀ (n : Nat) (v7 : Int) (M : Mm), (rg v7) → lp (uX1_cover_f58 o0 v1 v2 v4 v5 v6) n (v7, M) = some b58 → Jz G σ p l e R0 s m args below meth c 8 0 0 (Qv R) M 0 0 58 [(0, .ref (G.2.2 + o0)), (1, .int (iv v1)), (2, .int (iv v2)), (4, .int (iv v4)), (5, .int (iv v5)), (6, .int (iv v6)), (7, .int (iv v7))] [] := by
      intro n; induction n with
      | zero => intro v7 M gv7 hq; exact (lp_0 hq).elim
      | succ n58 ih58 =>
        intro v7 M gv7 hq
        obtain ⟨z58, h, hZ58⟩ := lp_s hq
        have h : uX1_cover_s58 o0 v1 v2 v4 v5 v6 v7 M = some z58 := h
        unfold uX1_cover_s58 at h
        refine z_iload C dX1_cover_58 6 rfl ?_
        refine z_if_le 116 C dX1_cover_60 (by decide) gv7 (fun e7 => ?_) (fun e7 => ?_)
        ·
          have h := (if_pos e7).symm.trans h
          have h : uX1_cover_b116 o0 v1 v2 v5 v6 M = some R := lp_ex (K := (uX1_cover_c58 o0 v1 v2 v4 v5 v6)) h hZ58 hc58
          refine z_drop (lv' := [(0, .ref (G.2.2 + o0)), (1, .int (iv v1)), (2, .int (iv v2)), (5, .int (iv v5)), (6, .int (iv v6))]) [0, 1, 2, 4, 5] rfl ?_
          exact hb116 o0 v1 v2 v5 v6 M gv1 gv2 gv5 gv6 h
        ·
          have h := (if_neg e7).symm.trans h
          refine z_aload_n C dX1_cover_63 0 rfl ?_
          obtain ⟨on8, hon8, h⟩ := bnd h
          refine y_getR C dX1_cover_64 fX1_24 rfl hon8 ?_
          refine z_iload C dX1_cover_67 4 rfl ?_
          refine z_iload C dX1_cover_69 6 rfl ?_
          refine y_iadd C dX1_cover_71 ?_
          refine z_aload_n C dX1_cover_72 0 rfl ?_
          obtain ⟨on9, hon9, h⟩ := bnd h
          refine y_getR C dX1_cover_73 fX1_24 rfl hon9 ?_
          refine z_iload C dX1_cover_76 4 rfl ?_
          refine z_iload C dX1_cover_78 6 rfl ?_
          refine y_iadd C dX1_cover_80 ?_
          refine z_iconst C dX1_cover_81 ?_
          refine y_isub C dX1_cover_82 ?_
          obtain ⟨x10, hx10, h⟩ := bnd h
          refine y_iald C dX1_cover_83 hx10 (fun gx10 => ?_)
          obtain ⟨M11, hM11, h⟩ := bnd h
          refine y_iast C dX1_cover_84 hM11 ?_
          refine z_aload_n C dX1_cover_85 0 rfl ?_
          obtain ⟨on12, hon12, h⟩ := bnd h
          refine y_getR C dX1_cover_86 fX1_27 rfl hon12 ?_
          refine z_iload C dX1_cover_89 4 rfl ?_
          refine z_iload C dX1_cover_91 6 rfl ?_
          refine y_iadd C dX1_cover_93 ?_
          refine z_aload_n C dX1_cover_94 0 rfl ?_
          obtain ⟨on13, hon13, h⟩ := bnd h
          refine y_getR C dX1_cover_95 fX1_27 rfl hon13 ?_
          refine z_iload C dX1_cover_98 4 rfl ?_
          refine z_iload C dX1_cover_100 6 rfl ?_
          refine y_iadd C dX1_cover_102 ?_
          refine z_iconst C dX1_cover_103 ?_
          refine y_isub C dX1_cover_104 ?_
          obtain ⟨x14, hx14, h⟩ := bnd h
          refine y_iald C dX1_cover_105 hx14 (fun gx14 => ?_)
          refine z_iload C dX1_cover_106 3 rfl ?_
          refine y_isub C dX1_cover_108 ?_
          obtain ⟨M15, hM15, h⟩ := bnd h
          refine y_iast C dX1_cover_109 hM15 ?_
          refine y_iinc (lv' := [(0, .ref (G.2.2 + o0)), (1, .int (iv v1)), (2, .int (iv v2)), (4, .int (iv v4)), (5, .int (iv v5)), (6, .int (iv v6)), (7, .int (iv (w32 (v7 + (-1)))))]) C dX1_cover_110 6 rfl (by decide) [1, 2, 3, 4, 5, 6, 0] rfl ?_
          refine z_goto 58 C dX1_cover_113 (by decide) ?_
          exact ih58 (w32 (v7 + (-1))) M15 (w32_rng _) (lp_back h hZ58)
    exact hL58 _ v7 M gv7 hb58_
  unfold uX1_cover at h
  refine z_iload_n C dX1_cover_0 1 rfl ?_
  refine z_if_lt 18 C dX1_cover_1 (by decide) gv1 (fun e16 => ?_) (fun e16 => ?_)
  ·
    have h := (if_pos e16).symm.trans h
    exact y_retV C dX1_cover_18 h
  ·
    have h := (if_neg e16).symm.trans h
    refine z_iload_n C dX1_cover_4 1 rfl ?_
    refine z_aload_n C dX1_cover_5 0 rfl ?_
    obtain ⟨x17, hx17, h⟩ := bnd h
    refine y_getI C dX1_cover_6 fX1_33 rfl hx17 (fun gx17 => ?_)
    refine z_icmp_ge 18 C dX1_cover_9 (by decide) gv1 gx17 (fun e18 => ?_) (fun e18 => ?_)
    ·
      have h := (if_pos e18).symm.trans h
      exact y_retV C dX1_cover_18 h
    ·
      have h := (if_neg e18).symm.trans h
      refine z_iload_n C dX1_cover_12 1 rfl ?_
      refine z_bipush C dX1_cover_13 (by decide) ?_
      refine z_icmp_lt 19 C dX1_cover_15 (by decide) gv1 (by decide) (fun e19 => ?_) (fun e19 => ?_)
      ·
        have h := (if_pos e19).symm.trans h
        refine z_aload_n C dX1_cover_19 0 rfl ?_
        obtain ⟨on20, hon20, h⟩ := bnd h
        refine y_getR C dX1_cover_20 fX1_9 rfl hon20 ?_
        refine z_iload_n C dX1_cover_23 1 rfl ?_
        refine z_dup2 C dX1_cover_24 rfl rfl ?_
        obtain ⟨x21, hx21, h⟩ := bnd h
        refine y_iald C dX1_cover_25 hx21 (fun gx21 => ?_)
        refine z_iload_n C dX1_cover_26 3 rfl ?_
        refine y_isub C dX1_cover_27 ?_
        obtain ⟨M22, hM22, h⟩ := bnd h
        refine y_iast C dX1_cover_28 hM22 ?_
        refine z_aload_n C dX1_cover_29 0 rfl ?_
        obtain ⟨on23, hon23, h⟩ := bnd h
        refine y_getR C dX1_cover_30 fX1_18 rfl hon23 ?_
        refine z_iload_n C dX1_cover_33 1 rfl ?_
        refine z_dup2 C dX1_cover_34 rfl rfl ?_
        obtain ⟨x24, hx24, h⟩ := bnd h
        refine y_iald C dX1_cover_35 hx24 (fun gx24 => ?_)
        refine z_iconst C dX1_cover_36 ?_
        refine y_iadd C dX1_cover_37 ?_
        obtain ⟨M25, hM25, h⟩ := bnd h
        refine y_iast C dX1_cover_38 hM25 ?_
        refine z_iload_n C dX1_cover_39 1 rfl ?_
        refine z_bipush C dX1_cover_40 (by decide) ?_
        refine y_imul C dX1_cover_42 ?_
        refine z_istore (lv' := [(0, .ref (G.2.2 + o0)), (1, .int (iv v1)), (2, .int (iv v2)), (3, .int (iv v3)), (4, .int (iv v4)), (5, .int (iv (w32 (v1 * 9))))]) C dX1_cover_43 (by decide) [1, 2, 3, 4, 5, 0] rfl ?_
        refine z_aload_n C dX1_cover_45 0 rfl ?_
        refine z_iload_n C dX1_cover_46 1 rfl ?_
        refine z_iload C dX1_cover_47 4 rfl ?_
        obtain ⟨k26, h⟩ := gK_inv h
        obtain ⟨r27, hr27, h⟩ := bnd h
        refine y_cVi (st := []) C dX1_cover_49 mX1_74 k26 (tX1_facesLeft hC o0 v1 v4 gv1 gv4 hr27) rfl rfl (Nat.le_of_ble_eq_true rfl) (by decide) (fun gr27 => ?_)
        refine z_istore (lv' := [(0, .ref (G.2.2 + o0)), (1, .int (iv v1)), (2, .int (iv v2)), (3, .int (iv v3)), (4, .int (iv v4)), (5, .int (iv (w32 (v1 * 9)))), (6, .int (iv r27))]) C dX1_cover_52 (by decide) [1, 2, 3, 4, 5, 6, 0] rfl ?_
        refine z_iload C dX1_cover_54 6 rfl ?_
        refine z_istore (lv' := [(0, .ref (G.2.2 + o0)), (1, .int (iv v1)), (2, .int (iv v2)), (3, .int (iv v3)), (4, .int (iv v4)), (5, .int (iv (w32 (v1 * 9)))), (6, .int (iv r27)), (7, .int (iv r27))]) C dX1_cover_56 (by decide) [1, 2, 3, 4, 5, 6, 7, 0] rfl ?_
        refine z_drop (lv' := [(0, .ref (G.2.2 + o0)), (1, .int (iv v1)), (2, .int (iv v2)), (4, .int (iv v4)), (5, .int (iv (w32 (v1 * 9)))), (6, .int (iv r27)), (7, .int (iv r27))]) [0, 1, 2, 4, 5, 6, 7] rfl ?_
        exact hb58 o0 v1 v2 v4 (w32 (v1 * 9)) r27 r27 M25 gv1 gv2 gv4 (w32_rng _) gr27 gr27 h
      ·
        have h := (if_neg e19).symm.trans h
        exact y_retV C dX1_cover_18 h

set_option maxHeartbeats 4000000 in
set_option maxRecDepth 100000 in
theorem tX2_takeBack {G : Gx} {σ : State} (hC : Cy G σ) (o0 : Nat) (o1 : Nat) {M0 : Mm}  {R : Int × Mm} (h : uX2_takeBack o0 o1 M0 = some R) : Ct G σ (2) yX2_takeBack cX2_takeBack 3 (some .int) [.ref (G.2.2 + o0), .ref (G.2.2 + o1)] M0 0 0 (Qi R.1 R.2) := by
  refine Ct.of hC.1 (by decide +kernel) (Nat.le_of_ble_eq_true rfl) ?_
  intro p l e R0 s m args below meth c C
  show Jz G σ p l e R0 s m args below meth c 3 0 0 (Qi R.1 R.2) M0 0 0 0 [(0, .ref (G.2.2 + o0)), (1, .ref (G.2.2 + o1))] []
  unfold uX2_takeBack at h
  refine z_aload_n C dX2_takeBack_0 0 rfl ?_
  obtain ⟨x1, hx1, h⟩ := bnd h
  refine y_getI C dX2_takeBack_1 fX2_21 rfl hx1 (fun gx1 => ?_)
  refine z_iconst C dX2_takeBack_4 ?_
  refine z_icmp_ge 10 C dX2_takeBack_5 (by decide) gx1 (by decide) (fun e2 => ?_) (fun e2 => ?_)
  ·
    have h := (if_pos e2).symm.trans h
    refine z_aload_n C dX2_takeBack_10 0 rfl ?_
    refine z_dup C dX2_takeBack_11 rfl ?_
    obtain ⟨x3, hx3, h⟩ := bnd h
    refine y_getI C dX2_takeBack_12 fX2_21 rfl hx3 (fun gx3 => ?_)
    refine z_iconst C dX2_takeBack_15 ?_
    refine y_isub C dX2_takeBack_16 ?_
    obtain ⟨M4, hM4, h⟩ := bnd h
    refine y_putI C dX2_takeBack_17 fX2_21 rfl rfl rfl rfl hM4 ?_
    refine z_aload_n C dX2_takeBack_20 0 rfl ?_
    obtain ⟨x5, hx5, h⟩ := bnd h
    refine y_getI C dX2_takeBack_21 fX2_17 rfl hx5 (fun gx5 => ?_)
    refine z_aload_n C dX2_takeBack_24 0 rfl ?_
    obtain ⟨x6, hx6, h⟩ := bnd h
    refine y_getI C dX2_takeBack_25 fX2_21 rfl hx6 (fun gx6 => ?_)
    refine y_iadd C dX2_takeBack_28 ?_
    refine z_bipush C dX2_takeBack_29 (by decide) ?_
    obtain ⟨x7, hx7, h⟩ := bnd h
    refine y_irem C dX2_takeBack_31 hx7 (fun gx7 => ?_)
    refine z_istore_n (lv' := [(0, .ref (G.2.2 + o0)), (1, .ref (G.2.2 + o1)), (2, .int (iv x7))]) C dX2_takeBack_32 rfl (by decide) [1, 2, 0] rfl ?_
    refine z_aload_n C dX2_takeBack_33 0 rfl ?_
    obtain ⟨on8, hon8, h⟩ := bnd h
    refine y_getR C dX2_takeBack_34 fX2_13 rfl hon8 ?_
    refine z_iload_n C dX2_takeBack_37 2 rfl ?_
    obtain ⟨qn9, hqn9, h⟩ := bnd h
    refine y_aaldC C dX2_takeBack_38 hqn9 ?_
    refine y_ifnull 52 C dX2_takeBack_39 (by decide) (fun e10 => ?_) (fun e10 => ?_)
    ·
      have h := (if_pos e10).symm.trans h
      refine z_aload_n C dX2_takeBack_52 0 rfl ?_
      obtain ⟨x11, hx11, h⟩ := bnd h
      refine y_getI C dX2_takeBack_53 fX2_21 rfl hx11 (fun gx11 => ?_)
      exact y_iretB C dX2_takeBack_56 h gx11
    ·
      have h := (if_neg e10).symm.trans h
      refine z_aload_n C dX2_takeBack_42 1 rfl ?_
      refine z_aload_n C dX2_takeBack_43 0 rfl ?_
      obtain ⟨on12, hon12, h⟩ := bnd h
      refine y_getR C dX2_takeBack_44 fX2_13 rfl hon12 ?_
      refine z_iload_n C dX2_takeBack_47 2 rfl ?_
      obtain ⟨qn13, hqn13, h⟩ := bnd h
      refine y_aaldC C dX2_takeBack_48 hqn13 ?_
      obtain ⟨on14, hon14, h⟩ := bnd h
      subst hon14
      obtain ⟨k15, h⟩ := gK_inv h
      obtain ⟨M16, hM16, h⟩ := bnd h
      refine y_cVv (st := []) C dX2_takeBack_49 mX2_25 k15 (tX1_copyFrom hC o1 on14  hM16) rfl rfl (Nat.le_of_ble_eq_true rfl) (by decide) ?_
      refine z_aload_n C dX2_takeBack_52 0 rfl ?_
      obtain ⟨x17, hx17, h⟩ := bnd h
      refine y_getI C dX2_takeBack_53 fX2_21 rfl hx17 (fun gx17 => ?_)
      exact y_iretB C dX2_takeBack_56 h gx17
  ·
    have h := (if_neg e2).symm.trans h
    refine z_iconst C dX2_takeBack_8 ?_
    exact y_iretB C dX2_takeBack_9 h (by decide)

set_option maxHeartbeats 4000000 in
set_option maxRecDepth 100000 in
theorem tX3_init {G : Gx} {σ : State} (hC : Cy G σ) (o0 : Nat) {M0 : Mm}  {R : Mm} (h : uX3_init o0 M0 = some R) : Ct G σ (2) yX3_init cX3_init 1 none [.ref (G.2.2 + o0)] M0 8 104 (Qv R) := by
  refine Ct.of hC.1 (by decide +kernel) (Nat.le_of_ble_eq_true rfl) ?_
  intro p l e R0 s m args below meth c C
  show Jz G σ p l e R0 s m args below meth c 1 8 104 (Qv R) M0 0 0 0 [(0, .ref (G.2.2 + o0))] []
  unfold uX3_init at h
  refine z_aload_n C dX3_init_0 0 rfl ?_
  refine z_objInit C dX3_init_1 (gt_1 (i := 75) (by decide +kernel) (by decide +kernel)) oi_in oi_co (by decide) (Nat.le_of_ble_eq_true rfl) ?_
  refine z_aload_n C dX3_init_4 0 rfl ?_
  refine z_bipush C dX3_init_5 (by decide) ?_
  refine y_newI 8 C dX3_init_7 rfl (by decide) (by omega) (by omega) ?_
  obtain ⟨M1, hM1, h⟩ := bnd h
  refine y_putFR C dX3_init_9 clX3 (by decide) fX3_9_l rfl rfl rfl rfl rfl rfl hM1 ?_
  refine z_aload_n C dX3_init_12 0 rfl ?_
  refine z_bipush C dX3_init_13 (by decide) ?_
  refine y_newI 8 C dX3_init_15 rfl (by decide) (by omega) (by omega) ?_
  obtain ⟨M2, hM2, h⟩ := bnd h
  refine y_putFR C dX3_init_17 clX3 (by decide) fX3_15_l rfl rfl rfl rfl rfl rfl hM2 ?_
  refine z_aload_n C dX3_init_20 0 rfl ?_
  refine z_bipush C dX3_init_21 (by decide) ?_
  refine y_newI 8 C dX3_init_23 rfl (by decide) (by omega) (by omega) ?_
  obtain ⟨M3, hM3, h⟩ := bnd h
  refine y_putFR C dX3_init_25 clX3 (by decide) fX3_18_l rfl rfl rfl rfl rfl rfl hM3 ?_
  refine z_aload_n C dX3_init_28 0 rfl ?_
  refine z_iconst C dX3_init_29 ?_
  refine y_newI 4 C dX3_init_30 rfl (by decide) (by omega) (by omega) ?_
  obtain ⟨M4, hM4, h⟩ := bnd h
  refine y_putFR C dX3_init_32 clX3 (by decide) fX3_21_l rfl rfl rfl rfl rfl rfl hM4 ?_
  refine z_aload_n C dX3_init_35 0 rfl ?_
  refine z_iconst C dX3_init_36 ?_
  refine y_newI 4 C dX3_init_37 rfl (by decide) (by omega) (by omega) ?_
  obtain ⟨M5, hM5, h⟩ := bnd h
  refine y_putFR C dX3_init_39 clX3 (by decide) fX3_24_l rfl rfl rfl rfl rfl rfl hM5 ?_
  refine z_aload_n C dX3_init_42 0 rfl ?_
  refine z_iconst C dX3_init_43 ?_
  refine y_newI 4 C dX3_init_44 rfl (by decide) (by omega) (by omega) ?_
  obtain ⟨M6, hM6, h⟩ := bnd h
  refine y_putFR C dX3_init_46 clX3 (by decide) fX3_27_l rfl rfl rfl rfl rfl rfl hM6 ?_
  refine z_aload_n C dX3_init_49 0 rfl ?_
  refine z_bipush C dX3_init_50 (by decide) ?_
  refine y_newI 64 C dX3_init_52 rfl (by decide) (by omega) (by omega) ?_
  obtain ⟨M7, hM7, h⟩ := bnd h
  refine y_putFR C dX3_init_54 clX3 (by decide) fX3_30_l rfl rfl rfl rfl rfl rfl hM7 ?_
  refine z_aload_n C dX3_init_57 0 rfl ?_
  refine z_iconst C dX3_init_58 ?_
  refine y_newI 4 C dX3_init_59 rfl (by decide) (by omega) (by omega) ?_
  obtain ⟨M8, hM8, h⟩ := bnd h
  refine y_putFR C dX3_init_61 clX3 (by decide) fX3_33_l rfl rfl rfl rfl rfl rfl hM8 ?_
  refine z_aload_n C dX3_init_64 0 rfl ?_
  obtain ⟨k9, h⟩ := gK_inv h
  obtain ⟨M10, hM10, h⟩ := bnd h
  refine y_cVv (st := []) C dX3_init_65 mX3_36 k9 (tX3_clear hC o0  hM10) rfl rfl (Nat.le_of_ble_eq_true rfl) (by decide) ?_
  exact y_retV C dX3_init_68 h

set_option maxHeartbeats 4000000 in
set_option maxRecDepth 100000 in
theorem tX3_newNameFault {G : Gx} {σ : State} (hC : Cy G σ) (o0 : Nat) (o1 : Nat) {M0 : Mm}  {R : Int} (h : uX3_newNameFault o0 o1 M0 = some R) : Ct G σ (2) yX3_newNameFault cX3_newNameFault 2 (some .int) [.ref (G.2.2 + o0), .ref (G.2.2 + o1)] M0 0 0 (Qi R M0) := by
  refine Ct.of hC.1 (by decide +kernel) (Nat.le_of_ble_eq_true rfl) ?_
  intro p l e R0 s m args below meth c C
  show Jz G σ p l e R0 s m args below meth c 2 0 0 (Qi R M0) M0 0 0 0 [(0, .ref (G.2.2 + o0)), (1, .ref (G.2.2 + o1))] []
  unfold uX3_newNameFault at h
  refine z_aload_n C dX3_newNameFault_0 1 rfl ?_
  obtain ⟨x1, hx1, h⟩ := bnd h
  refine y_getI C dX3_newNameFault_1 fX3_69 rfl hx1 (fun gx1 => ?_)
  refine z_iconst C dX3_newNameFault_4 ?_
  refine z_icmp_eq 10 C dX3_newNameFault_5 (by decide) gx1 (by decide) (fun e2 => ?_) (fun e2 => ?_)
  ·
    have h := (if_pos e2).symm.trans h
    refine z_aload_n C dX3_newNameFault_10 0 rfl ?_
    refine z_aload_n C dX3_newNameFault_11 1 rfl ?_
    obtain ⟨x3, hx3, h⟩ := bnd h
    refine y_getI C dX3_newNameFault_12 fX3_91 rfl hx3 (fun gx3 => ?_)
    obtain ⟨k4, h⟩ := gK_inv h
    obtain ⟨r5, hr5, h⟩ := bnd h
    refine y_cVi (st := []) C dX3_newNameFault_15 mX3_104 k4 (tX3_findWho hC o0 x3 gx3 hr5) rfl rfl (Nat.le_of_ble_eq_true rfl) (by decide) (fun gr5 => ?_)
    refine z_iconst C dX3_newNameFault_18 ?_
    refine z_icmp_ne 33 C dX3_newNameFault_19 (by decide) gr5 (by decide) (fun e6 => ?_) (fun e6 => ?_)
    ·
      have h := (if_neg e6).symm.trans h
      refine z_iconst C dX3_newNameFault_33 ?_
      refine z_goto 38 C dX3_newNameFault_34 (by decide) ?_
      exact y_iretP C dX3_newNameFault_38 h (by decide)
    ·
      have h := (if_pos e6).symm.trans h
      refine z_aload_n C dX3_newNameFault_22 0 rfl ?_
      refine z_aload_n C dX3_newNameFault_23 1 rfl ?_
      obtain ⟨x7, hx7, h⟩ := bnd h
      refine y_getI C dX3_newNameFault_24 fX3_91 rfl hx7 (fun gx7 => ?_)
      obtain ⟨k8, h⟩ := gK_inv h
      obtain ⟨r9, hr9, h⟩ := bnd h
      refine y_cVb (st := []) C dX3_newNameFault_27 mX3_114 k8 (tX3_isMintName hC o0 x7 gx7 hr9) rfl rfl (Nat.le_of_ble_eq_true rfl) (by decide) (fun br9 => ?_)
      refine z_if_eq 37 C dX3_newNameFault_30 (by decide) (rg01 br9) (fun e10 => ?_) (fun e10 => ?_)
      ·
        have h := (if_pos e10).symm.trans h
        refine z_iconst C dX3_newNameFault_37 ?_
        exact y_iretP C dX3_newNameFault_38 h (by decide)
      ·
        have h := (if_neg e10).symm.trans h
        refine z_iconst C dX3_newNameFault_33 ?_
        refine z_goto 38 C dX3_newNameFault_34 (by decide) ?_
        exact y_iretP C dX3_newNameFault_38 h (by decide)
  ·
    have h := (if_neg e2).symm.trans h
    refine z_iconst C dX3_newNameFault_8 ?_
    exact y_iretP C dX3_newNameFault_9 h (by decide)

set_option maxHeartbeats 4000000 in
set_option maxRecDepth 100000 in
theorem tX3_toldWhoFault {G : Gx} {σ : State} (hC : Cy G σ) (o0 : Nat) (o1 : Nat) {M0 : Mm}  {R : Int} (h : uX3_toldWhoFault o0 o1 M0 = some R) : Ct G σ (2) yX3_toldWhoFault cX3_toldWhoFault 2 (some .int) [.ref (G.2.2 + o0), .ref (G.2.2 + o1)] M0 0 0 (Qi R M0) := by
  refine Ct.of hC.1 (by decide +kernel) (Nat.le_of_ble_eq_true rfl) ?_
  intro p l e R0 s m args below meth c C
  show Jz G σ p l e R0 s m args below meth c 2 0 0 (Qi R M0) M0 0 0 0 [(0, .ref (G.2.2 + o0)), (1, .ref (G.2.2 + o1))] []
  unfold uX3_toldWhoFault at h
  refine z_aload_n C dX3_toldWhoFault_0 1 rfl ?_
  obtain ⟨x1, hx1, h⟩ := bnd h
  refine y_getI C dX3_toldWhoFault_1 fX3_69 rfl hx1 (fun gx1 => ?_)
  refine z_iconst C dX3_toldWhoFault_4 ?_
  refine z_icmp_eq 10 C dX3_toldWhoFault_5 (by decide) gx1 (by decide) (fun e2 => ?_) (fun e2 => ?_)
  ·
    have h := (if_pos e2).symm.trans h
    refine z_aload_n C dX3_toldWhoFault_10 0 rfl ?_
    refine z_aload_n C dX3_toldWhoFault_11 1 rfl ?_
    obtain ⟨x3, hx3, h⟩ := bnd h
    refine y_getI C dX3_toldWhoFault_12 fX3_91 rfl hx3 (fun gx3 => ?_)
    obtain ⟨k4, h⟩ := gK_inv h
    obtain ⟨r5, hr5, h⟩ := bnd h
    refine y_cVi (st := []) C dX3_toldWhoFault_15 mX3_104 k4 (tX3_findWho hC o0 x3 gx3 hr5) rfl rfl (Nat.le_of_ble_eq_true rfl) (by decide) (fun gr5 => ?_)
    refine z_iconst C dX3_toldWhoFault_18 ?_
    refine z_icmp_ne 26 C dX3_toldWhoFault_19 (by decide) gr5 (by decide) (fun e6 => ?_) (fun e6 => ?_)
    ·
      have h := (if_neg e6).symm.trans h
      refine z_iconst C dX3_toldWhoFault_26 ?_
      exact y_iretP C dX3_toldWhoFault_27 h (by decide)
    ·
      have h := (if_pos e6).symm.trans h
      refine z_iconst C dX3_toldWhoFault_22 ?_
      refine z_goto 27 C dX3_toldWhoFault_23 (by decide) ?_
      exact y_iretP C dX3_toldWhoFault_27 h (by decide)
  ·
    have h := (if_neg e2).symm.trans h
    refine z_iconst C dX3_toldWhoFault_8 ?_
    exact y_iretP C dX3_toldWhoFault_9 h (by decide)

set_option maxHeartbeats 4000000 in
set_option maxRecDepth 100000 in
theorem tX7_readRun {G : Gx} {σ : State} (hC : Cy G σ) (o0 : Nat) {M0 : Mm}  {R : Int × Mm} (h : uX7_readRun o0 M0 = some R) : Ct G σ (2) yX7_readRun cX7_readRun 5 (some .int) [.ref (G.2.2 + o0)] M0 0 0 (Qi R.1 R.2) := by
  refine Ct.of hC.1 (by decide +kernel) (Nat.le_of_ble_eq_true rfl) ?_
  intro p l e R0 s m args below meth c C
  show Jz G σ p l e R0 s m args below meth c 5 0 0 (Qi R.1 R.2) M0 0 0 0 [(0, .ref (G.2.2 + o0))] []
  have hb146 : ∀ (v1 : Int) (v2 : Int) (M : Mm), (rg v1) → (rg v2) → uX7_readRun_b146 v1 v2 M = some R → Jz G σ p l e R0 s m args below meth c 5 0 0 (Qi R.1 R.2) M 0 0 146 [(1, .int (iv v1)), (2, .int (iv v2))] [] := by
    intro v1 v2 M gv1 gv2 h
    unfold uX7_readRun_b146 at h
    refine z_iload_n C dX7_readRun_146 1 rfl ?_
    refine z_if_ne 160 C dX7_readRun_147 (by decide) gv2 (fun e1 => ?_) (fun e1 => ?_)
    ·
      have h := (if_neg e1).symm.trans h
      refine z_iconst C dX7_readRun_160 ?_
      exact y_iretB C dX7_readRun_161 h (by decide)
    ·
      have h := (if_pos e1).symm.trans h
      refine z_iload_n C dX7_readRun_150 0 rfl ?_
      refine z_bipush C dX7_readRun_151 (by decide) ?_
      refine z_icmp_gt 160 C dX7_readRun_153 (by decide) gv1 (by decide) (fun e2 => ?_) (fun e2 => ?_)
      ·
        have h := (if_pos e2).symm.trans h
        refine z_iconst C dX7_readRun_160 ?_
        exact y_iretB C dX7_readRun_161 h (by decide)
      ·
        have h := (if_neg e2).symm.trans h
        refine z_iconst C dX7_readRun_156 ?_
        refine z_goto 161 C dX7_readRun_157 (by decide) ?_
        exact y_iretB C dX7_readRun_161 h (by decide)
  have hb135 : ∀ (v1 : Int) (v2 : Int) (M : Mm), (rg v1) → (rg v2) → uX7_readRun_b135 v1 v2 M = some R → Jz G σ p l e R0 s m args below meth c 5 0 0 (Qi R.1 R.2) M 0 0 135 [(1, .int (iv v1)), (2, .int (iv v2))] [] := by
    intro v1 v2 M gv1 gv2 h
    unfold uX7_readRun_b135 at h
    refine z_iload_n C dX7_readRun_135 0 rfl ?_
    refine z_if_ne 146 C dX7_readRun_136 (by decide) gv1 (fun e3 => ?_) (fun e3 => ?_)
    ·
      have h := (if_neg e3).symm.trans h
      exact hb146 v1 v2 M gv1 gv2 h
    ·
      have h := (if_pos e3).symm.trans h
      refine z_iload_n C dX7_readRun_139 1 rfl ?_
      refine z_iconst C dX7_readRun_140 ?_
      refine z_icmp_gt 146 C dX7_readRun_141 (by decide) gv2 (by decide) (fun e4 => ?_) (fun e4 => ?_)
      ·
        have h := (if_pos e4).symm.trans h
        exact hb146 v1 v2 M gv1 gv2 h
      ·
        have h := (if_neg e4).symm.trans h
        refine z_iconst C dX7_readRun_144 ?_
        exact y_iretB C dX7_readRun_145 h (by decide)
  have hb16 : ∀ (o0 : Nat) (v1 : Int) (v2 : Int) (v3 : Int) (M : Mm), (rg v1) → (rg v2) → (v3 = 0 ∨ v3 = 1) → uX7_readRun_b16 o0 v1 v2 v3 M = some R → Jz G σ p l e R0 s m args below meth c 5 0 0 (Qi R.1 R.2) M 0 0 16 [(0, .ref (G.2.2 + o0)), (1, .int (iv v1)), (2, .int (iv v2)), (3, .int (iv v3))] [] := by
    intro o0 v1 v2 v3 M gv1 gv2 bv3 h
    unfold uX7_readRun_b16 at h
    obtain ⟨b16, hb16_, hc16⟩ := bnd h
    have hL16 : ∀ (n : Nat) (v1 : Int) (v2 : Int) (v3 : Int) (M : Mm), (rg v1) → (rg v2) → (v3 = 0 ∨ v3 = 1) → lp (uX7_readRun_f16 o0) n (v1, v2, v3, M) = some b16 → Jz G σ p l e R0 s m args below meth c 5 0 0 (Qi R.1 R.2) M 0 0 16 [(0, .ref (G.2.2 + o0)), (1, .int (iv v1)), (2, .int (iv v2)), (3, .int (iv v3))] [] := by
      intro n; induction n with
      | zero => intro v1 v2 v3 M gv1 gv2 bv3 hq; exact (lp_0 hq).elim
      | succ n16 ih16 =>
        intro v1 v2 v3 M gv1 gv2 bv3 hq
        obtain ⟨z16, h, hZ16⟩ := lp_s hq
        have h : uX7_readRun_s16 o0 v1 v2 v3 M = some z16 := h
        have hb118 : ∀ (v1 : Int) (v2 : Int) (v3 : Int) (M : Mm), (rg v1) → (rg v2) → (v3 = 0 ∨ v3 = 1) → ∀ z16, uX7_readRun_b118 o0 v1 v2 v3 M = some z16 → lpc (uX7_readRun_f16 o0) n16 z16 b16 → Jz G σ p l e R0 s m args below meth c 5 0 0 (Qi R.1 R.2) M 0 0 118 [(0, .ref (G.2.2 + o0)), (1, .int (iv v1)), (2, .int (iv v2)), (3, .int (iv v3))] [] := by
          intro v1 v2 v3 M gv1 gv2 bv3 z16 h hZ16
          unfold uX7_readRun_b118 at h
          refine z_iload_n C dX7_readRun_118 3 rfl ?_
          refine z_if_eq 132 C dX7_readRun_119 (by decide) (rg01 bv3) (fun e5 => ?_) (fun e5 => ?_)
          ·
            have h := (if_pos e5).symm.trans h
            refine z_goto 16 C dX7_readRun_132 (by decide) ?_
            exact ih16 v1 v2 v3 M gv1 gv2 bv3 (lp_back h hZ16)
          ·
            have h := (if_neg e5).symm.trans h
            refine z_aload_n C dX7_readRun_122 0 rfl ?_
            refine z_dup C dX7_readRun_123 rfl ?_
            obtain ⟨x6, hx6, h⟩ := bnd h
            refine y_getI C dX7_readRun_124 fX7_22 rfl hx6 (fun gx6 => ?_)
            refine z_iconst C dX7_readRun_127 ?_
            refine y_iadd C dX7_readRun_128 ?_
            obtain ⟨M7, hM7, h⟩ := bnd h
            refine y_putI C dX7_readRun_129 fX7_22 rfl rfl rfl rfl hM7 ?_
            refine z_goto 16 C dX7_readRun_132 (by decide) ?_
            exact ih16 v1 v2 v3 M7 gv1 gv2 bv3 (lp_back h hZ16)
        unfold uX7_readRun_s16 at h
        refine z_iload_n C dX7_readRun_16 3 rfl ?_
        refine z_if_eq 135 C dX7_readRun_17 (by decide) (rg01 bv3) (fun e8 => ?_) (fun e8 => ?_)
        ·
          have h := (if_pos e8).symm.trans h
          have h : uX7_readRun_b135 v1 v2 M = some R := lp_ex (K := (uX7_readRun_c16 o0)) h hZ16 hc16
          refine z_drop (lv' := [(1, .int (iv v1)), (2, .int (iv v2))]) [1, 2] rfl ?_
          exact hb135 v1 v2 M gv1 gv2 h
        ·
          have h := (if_neg e8).symm.trans h
          refine z_aload_n C dX7_readRun_20 0 rfl ?_
          obtain ⟨x9, hx9, h⟩ := bnd h
          refine y_getI C dX7_readRun_21 fX7_22 rfl hx9 (fun gx9 => ?_)
          refine z_aload_n C dX7_readRun_24 0 rfl ?_
          obtain ⟨x10, hx10, h⟩ := bnd h
          refine y_getI C dX7_readRun_25 fX7_15 rfl hx10 (fun gx10 => ?_)
          refine z_icmp_ge 135 C dX7_readRun_28 (by decide) gx9 gx10 (fun e11 => ?_) (fun e11 => ?_)
          ·
            have h := (if_pos e11).symm.trans h
            have h : uX7_readRun_b135 v1 v2 M = some R := lp_ex (K := (uX7_readRun_c16 o0)) h hZ16 hc16
            refine z_drop (lv' := [(1, .int (iv v1)), (2, .int (iv v2))]) [1, 2] rfl ?_
            exact hb135 v1 v2 M gv1 gv2 h
          ·
            have h := (if_neg e11).symm.trans h
            refine z_aload_n C dX7_readRun_31 0 rfl ?_
            obtain ⟨x12, hx12, h⟩ := bnd h
            refine y_getI C dX7_readRun_32 fX7_22 rfl hx12 (fun gx12 => ?_)
            refine z_sipush C dX7_readRun_35 (by decide) ?_
            refine z_icmp_ge 135 C dX7_readRun_38 (by decide) gx12 (by decide) (fun e13 => ?_) (fun e13 => ?_)
            ·
              have h := (if_pos e13).symm.trans h
              have h : uX7_readRun_b135 v1 v2 M = some R := lp_ex (K := (uX7_readRun_c16 o0)) h hZ16 hc16
              refine z_drop (lv' := [(1, .int (iv v1)), (2, .int (iv v2))]) [1, 2] rfl ?_
              exact hb135 v1 v2 M gv1 gv2 h
            ·
              have h := (if_neg e13).symm.trans h
              refine z_aload_n C dX7_readRun_41 0 rfl ?_
              obtain ⟨on14, hon14, h⟩ := bnd h
              refine y_getR C dX7_readRun_42 fX7_9 rfl hon14 ?_
              refine z_aload_n C dX7_readRun_45 0 rfl ?_
              obtain ⟨x15, hx15, h⟩ := bnd h
              refine y_getI C dX7_readRun_46 fX7_22 rfl hx15 (fun gx15 => ?_)
              obtain ⟨x16, hx16, h⟩ := bnd h
              refine y_iald C dX7_readRun_49 hx16 (fun gx16 => ?_)
              refine z_istore (lv' := [(0, .ref (G.2.2 + o0)), (1, .int (iv v1)), (2, .int (iv v2)), (3, .int (iv v3)), (4, .int (iv x16))]) C dX7_readRun_50 (by decide) [1, 2, 3, 4, 0] rfl ?_
              refine z_iload C dX7_readRun_52 4 rfl ?_
              obtain ⟨r17, hr17, h⟩ := bnd h
              refine y_cSb (st := []) C dX7_readRun_54 mX7_42 (tX7_isDigit hC x16 gx16 hr17) rfl rfl (Nat.le_of_ble_eq_true rfl) (by decide) (fun br17 => ?_)
              refine z_if_eq 83 C dX7_readRun_57 (by decide) (rg01 br17) (fun e18 => ?_) (fun e18 => ?_)
              ·
                have h := (if_pos e18).symm.trans h
                refine z_iload C dX7_readRun_83 4 rfl ?_
                obtain ⟨r19, hr19, h⟩ := bnd h
                refine y_cSb (st := []) C dX7_readRun_85 mX7_39 (tX7_isLetter hC x16 gx16 hr19) rfl rfl (Nat.le_of_ble_eq_true rfl) (by decide) (fun br19 => ?_)
                refine z_if_eq 116 C dX7_readRun_88 (by decide) (rg01 br19) (fun e20 => ?_) (fun e20 => ?_)
                ·
                  have h := (if_pos e20).symm.trans h
                  refine z_iconst C dX7_readRun_116 ?_
                  refine z_istore_n (lv' := [(0, .ref (G.2.2 + o0)), (1, .int (iv v1)), (2, .int (iv v2)), (3, .int (iv 0)), (4, .int (iv x16))]) C dX7_readRun_117 rfl (by decide) [1, 2, 3, 0, 4] rfl ?_
                  refine z_drop (lv' := [(0, .ref (G.2.2 + o0)), (1, .int (iv v1)), (2, .int (iv v2)), (3, .int (iv 0))]) [0, 1, 2, 3] rfl ?_
                  exact hb118 v1 v2 0 M gv1 gv2 (by decide) _ h hZ16
                ·
                  have h := (if_neg e20).symm.trans h
                  refine z_aload_n C dX7_readRun_91 0 rfl ?_
                  refine z_aload_n C dX7_readRun_92 0 rfl ?_
                  obtain ⟨x21, hx21, h⟩ := bnd h
                  refine y_getI C dX7_readRun_93 fX7_58 rfl hx21 (fun gx21 => ?_)
                  refine z_bipush C dX7_readRun_96 (by decide) ?_
                  refine y_imul C dX7_readRun_98 ?_
                  refine z_iload C dX7_readRun_99 4 rfl ?_
                  refine y_iadd C dX7_readRun_101 ?_
                  refine z_bipush C dX7_readRun_102 (by decide) ?_
                  refine y_isub C dX7_readRun_104 ?_
                  refine z_iconst C dX7_readRun_105 ?_
                  refine y_iadd C dX7_readRun_106 ?_
                  obtain ⟨M22, hM22, h⟩ := bnd h
                  refine y_putI C dX7_readRun_107 fX7_58 rfl rfl rfl rfl hM22 ?_
                  refine y_iinc (lv' := [(0, .ref (G.2.2 + o0)), (1, .int (iv (w32 (v1 + 1)))), (2, .int (iv v2)), (3, .int (iv v3)), (4, .int (iv x16))]) C dX7_readRun_110 1 rfl (by decide) [1, 0, 2, 3, 4] rfl ?_
                  refine z_goto 118 C dX7_readRun_113 (by decide) ?_
                  refine z_drop (lv' := [(0, .ref (G.2.2 + o0)), (1, .int (iv (w32 (v1 + 1)))), (2, .int (iv v2)), (3, .int (iv v3))]) [0, 1, 2, 3] rfl ?_
                  exact hb118 (w32 (v1 + 1)) v2 v3 M22 (w32_rng _) gv2 bv3 _ h hZ16
              ·
                have h := (if_neg e18).symm.trans h
                refine z_aload_n C dX7_readRun_60 0 rfl ?_
                refine z_aload_n C dX7_readRun_61 0 rfl ?_
                obtain ⟨x23, hx23, h⟩ := bnd h
                refine y_getI C dX7_readRun_62 fX7_55 rfl hx23 (fun gx23 => ?_)
                refine z_bipush C dX7_readRun_65 (by decide) ?_
                refine y_imul C dX7_readRun_67 ?_
                refine z_iload C dX7_readRun_68 4 rfl ?_
                refine y_iadd C dX7_readRun_70 ?_
                refine z_bipush C dX7_readRun_71 (by decide) ?_
                refine y_isub C dX7_readRun_73 ?_
                obtain ⟨M24, hM24, h⟩ := bnd h
                refine y_putI C dX7_readRun_74 fX7_55 rfl rfl rfl rfl hM24 ?_
                refine y_iinc (lv' := [(0, .ref (G.2.2 + o0)), (1, .int (iv v1)), (2, .int (iv (w32 (v2 + 1)))), (3, .int (iv v3)), (4, .int (iv x16))]) C dX7_readRun_77 2 rfl (by decide) [1, 2, 0, 3, 4] rfl ?_
                refine z_goto 118 C dX7_readRun_80 (by decide) ?_
                refine z_drop (lv' := [(0, .ref (G.2.2 + o0)), (1, .int (iv v1)), (2, .int (iv (w32 (v2 + 1)))), (3, .int (iv v3))]) [0, 1, 2, 3] rfl ?_
                exact hb118 v1 (w32 (v2 + 1)) v3 M24 gv1 (w32_rng _) bv3 _ h hZ16
    exact hL16 _ v1 v2 v3 M gv1 gv2 bv3 hb16_
  unfold uX7_readRun at h
  refine z_iconst C dX7_readRun_0 ?_
  refine z_istore_n (lv' := [(0, .ref (G.2.2 + o0)), (1, .int (iv 0))]) C dX7_readRun_1 rfl (by decide) [1, 0] rfl ?_
  refine z_iconst C dX7_readRun_2 ?_
  refine z_istore_n (lv' := [(0, .ref (G.2.2 + o0)), (1, .int (iv 0)), (2, .int (iv 0))]) C dX7_readRun_3 rfl (by decide) [1, 2, 0] rfl ?_
  refine z_aload_n C dX7_readRun_4 0 rfl ?_
  refine z_iconst C dX7_readRun_5 ?_
  obtain ⟨M25, hM25, h⟩ := bnd h
  refine y_putI C dX7_readRun_6 fX7_55 rfl rfl rfl rfl hM25 ?_
  refine z_aload_n C dX7_readRun_9 0 rfl ?_
  refine z_iconst C dX7_readRun_10 ?_
  obtain ⟨M26, hM26, h⟩ := bnd h
  refine y_putI C dX7_readRun_11 fX7_58 rfl rfl rfl rfl hM26 ?_
  refine z_iconst C dX7_readRun_14 ?_
  refine z_istore_n (lv' := [(0, .ref (G.2.2 + o0)), (1, .int (iv 0)), (2, .int (iv 0)), (3, .int (iv 1))]) C dX7_readRun_15 rfl (by decide) [1, 2, 3, 0] rfl ?_
  exact hb16 o0 0 0 1 M26 (by decide) (by decide) (by decide) h

set_option maxHeartbeats 4000000 in
set_option maxRecDepth 100000 in
theorem tX8_copyFrom {G : Gx} {σ : State} (hC : Cy G σ) (o0 : Nat) (o1 : Nat) {M0 : Mm}  {R : Mm} (h : uX8_copyFrom o0 o1 M0 = some R) : Ct G σ (2) yX8_copyFrom cX8_copyFrom 2 none [.ref (G.2.2 + o0), .ref (G.2.2 + o1)] M0 0 0 (Qv R) := by
  refine Ct.of hC.1 (by decide +kernel) (Nat.le_of_ble_eq_true rfl) ?_
  intro p l e R0 s m args below meth c C
  show Jz G σ p l e R0 s m args below meth c 2 0 0 (Qv R) M0 0 0 0 [(0, .ref (G.2.2 + o0)), (1, .ref (G.2.2 + o1))] []
  unfold uX8_copyFrom at h
  refine z_aload_n C dX8_copyFrom_0 0 rfl ?_
  obtain ⟨on1, hon1, h⟩ := bnd h
  refine y_getR C dX8_copyFrom_1 fX8_12 rfl hon1 ?_
  refine z_aload_n C dX8_copyFrom_4 1 rfl ?_
  obtain ⟨on2, hon2, h⟩ := bnd h
  refine y_getR C dX8_copyFrom_5 fX8_12 rfl hon2 ?_
  obtain ⟨k3, h⟩ := gK_inv h
  obtain ⟨M4, hM4, h⟩ := bnd h
  refine y_cVv (st := []) C dX8_copyFrom_8 mX8_44 k3 (tX3_copyFrom hC on1 on2  hM4) rfl rfl (Nat.le_of_ble_eq_true rfl) (by decide) ?_
  refine z_aload_n C dX8_copyFrom_11 0 rfl ?_
  obtain ⟨on5, hon5, h⟩ := bnd h
  refine y_getR C dX8_copyFrom_12 fX8_21 rfl hon5 ?_
  refine z_aload_n C dX8_copyFrom_15 1 rfl ?_
  obtain ⟨on6, hon6, h⟩ := bnd h
  refine y_getR C dX8_copyFrom_16 fX8_21 rfl hon6 ?_
  obtain ⟨k7, h⟩ := gK_inv h
  obtain ⟨M8, hM8, h⟩ := bnd h
  refine y_cVv (st := []) C dX8_copyFrom_19 mX8_48 k7 (tX1_copyFrom hC on5 on6  hM8) rfl rfl (Nat.le_of_ble_eq_true rfl) (by decide) ?_
  refine z_aload_n C dX8_copyFrom_22 0 rfl ?_
  obtain ⟨on9, hon9, h⟩ := bnd h
  refine y_getR C dX8_copyFrom_23 fX8_30 rfl hon9 ?_
  refine z_aload_n C dX8_copyFrom_26 1 rfl ?_
  obtain ⟨on10, hon10, h⟩ := bnd h
  refine y_getR C dX8_copyFrom_27 fX8_30 rfl hon10 ?_
  refine z_aload_n C dX8_copyFrom_30 1 rfl ?_
  obtain ⟨on11, hon11, h⟩ := bnd h
  refine y_getR C dX8_copyFrom_31 fX8_21 rfl hon11 ?_
  obtain ⟨x12, hx12, h⟩ := bnd h
  refine y_getI C dX8_copyFrom_34 fX8_51 rfl hx12 (fun gx12 => ?_)
  obtain ⟨k13, h⟩ := gK_inv h
  obtain ⟨M14, hM14, h⟩ := bnd h
  refine y_cVv (st := []) C dX8_copyFrom_37 mX8_54 k13 (tX6_copyFrom hC on9 on10 x12 gx12 hM14) rfl rfl (Nat.le_of_ble_eq_true rfl) (by decide) ?_
  refine z_aload_n C dX8_copyFrom_40 0 rfl ?_
  obtain ⟨on15, hon15, h⟩ := bnd h
  refine y_getR C dX8_copyFrom_41 fX8_34 rfl hon15 ?_
  refine z_aload_n C dX8_copyFrom_44 1 rfl ?_
  obtain ⟨on16, hon16, h⟩ := bnd h
  refine y_getR C dX8_copyFrom_45 fX8_34 rfl hon16 ?_
  refine z_aload_n C dX8_copyFrom_48 1 rfl ?_
  obtain ⟨on17, hon17, h⟩ := bnd h
  refine y_getR C dX8_copyFrom_49 fX8_21 rfl hon17 ?_
  obtain ⟨x18, hx18, h⟩ := bnd h
  refine y_getI C dX8_copyFrom_52 fX8_57 rfl hx18 (fun gx18 => ?_)
  obtain ⟨k19, h⟩ := gK_inv h
  obtain ⟨M20, hM20, h⟩ := bnd h
  refine y_cVv (st := []) C dX8_copyFrom_55 mX8_54 k19 (tX6_copyFrom hC on15 on16 x18 gx18 hM20) rfl rfl (Nat.le_of_ble_eq_true rfl) (by decide) ?_
  refine z_aload_n C dX8_copyFrom_58 0 rfl ?_
  obtain ⟨on21, hon21, h⟩ := bnd h
  refine y_getR C dX8_copyFrom_59 fX8_40 rfl hon21 ?_
  refine z_aload_n C dX8_copyFrom_62 1 rfl ?_
  obtain ⟨on22, hon22, h⟩ := bnd h
  refine y_getR C dX8_copyFrom_63 fX8_40 rfl hon22 ?_
  obtain ⟨k23, h⟩ := gK_inv h
  obtain ⟨M24, hM24, h⟩ := bnd h
  refine y_cVv (st := []) C dX8_copyFrom_66 mX8_59 k23 (tX5_copyFrom hC on21 on22  hM24) rfl rfl (Nat.le_of_ble_eq_true rfl) (by decide) ?_
  exact y_retV C dX8_copyFrom_69 h

set_option maxHeartbeats 4000000 in
set_option maxRecDepth 100000 in
theorem tX8_isAlive {G : Gx} {σ : State} (hC : Cy G σ) (o0 : Nat) (v1 : Int) {M0 : Mm} (gv1 : rg v1) {R : Int} (h : uX8_isAlive o0 v1 M0 = some R) : Ct G σ (2) yX8_isAlive cX8_isAlive 2 (some .boolean) [.ref (G.2.2 + o0), .int (iv v1)] M0 0 0 (Qb R M0) := by
  refine Ct.of hC.1 (by decide +kernel) (Nat.le_of_ble_eq_true rfl) ?_
  intro p l e R0 s m args below meth c C
  show Jz G σ p l e R0 s m args below meth c 2 0 0 (Qb R M0) M0 0 0 0 [(0, .ref (G.2.2 + o0)), (1, .int (iv v1))] []
  unfold uX8_isAlive at h
  refine z_aload_n C dX8_isAlive_0 0 rfl ?_
  refine z_iload_n C dX8_isAlive_1 1 rfl ?_
  obtain ⟨k1, h⟩ := gK_inv h
  obtain ⟨r2, hr2, h⟩ := bnd h
  refine y_cVb (st := []) C dX8_isAlive_2 mX8_69 k1 (tX8_isWho hC o0 v1 gv1 hr2) rfl rfl (Nat.le_of_ble_eq_true rfl) (by decide) (fun br2 => ?_)
  refine z_if_eq 23 C dX8_isAlive_5 (by decide) (rg01 br2) (fun e3 => ?_) (fun e3 => ?_)
  ·
    have h := (if_pos e3).symm.trans h
    refine z_iconst C dX8_isAlive_23 ?_
    exact y_zretP C dX8_isAlive_24 h (by decide)
  ·
    have h := (if_neg e3).symm.trans h
    refine z_aload_n C dX8_isAlive_8 0 rfl ?_
    obtain ⟨on4, hon4, h⟩ := bnd h
    refine y_getR C dX8_isAlive_9 fX8_21 rfl hon4 ?_
    refine z_iload_n C dX8_isAlive_12 1 rfl ?_
    obtain ⟨k5, h⟩ := gK_inv h
    obtain ⟨r6, hr6, h⟩ := bnd h
    refine y_cVb (st := []) C dX8_isAlive_13 mX8_73 k5 (tX1_isDead hC on4 v1 gv1 hr6) rfl rfl (Nat.le_of_ble_eq_true rfl) (by decide) (fun br6 => ?_)
    refine z_if_ne 23 C dX8_isAlive_16 (by decide) (rg01 br6) (fun e7 => ?_) (fun e7 => ?_)
    ·
      have h := (if_neg e7).symm.trans h
      refine z_iconst C dX8_isAlive_23 ?_
      exact y_zretP C dX8_isAlive_24 h (by decide)
    ·
      have h := (if_pos e7).symm.trans h
      refine z_iconst C dX8_isAlive_19 ?_
      refine z_goto 24 C dX8_isAlive_20 (by decide) ?_
      exact y_zretP C dX8_isAlive_24 h (by decide)

set_option maxHeartbeats 4000000 in
set_option maxRecDepth 100000 in
theorem tX8_whoOnTop {G : Gx} {σ : State} (hC : Cy G σ) (o0 : Nat) (v1 : Int) {M0 : Mm} (gv1 : rg v1) {R : Int} (h : uX8_whoOnTop o0 v1 M0 = some R) : Ct G σ (2) yX8_whoOnTop cX8_whoOnTop 2 (some .int) [.ref (G.2.2 + o0), .int (iv v1)] M0 0 0 (Qi R M0) := by
  refine Ct.of hC.1 (by decide +kernel) (Nat.le_of_ble_eq_true rfl) ?_
  intro p l e R0 s m args below meth c C
  show Jz G σ p l e R0 s m args below meth c 2 0 0 (Qi R M0) M0 0 0 0 [(0, .ref (G.2.2 + o0)), (1, .int (iv v1))] []
  unfold uX8_whoOnTop at h
  refine z_aload_n C dX8_whoOnTop_0 0 rfl ?_
  refine z_iload_n C dX8_whoOnTop_1 1 rfl ?_
  obtain ⟨k1, h⟩ := gK_inv h
  obtain ⟨r2, hr2, h⟩ := bnd h
  refine y_cVb (st := []) C dX8_whoOnTop_2 mX8_85 k1 (tX8_isCoin hC o0 v1 gv1 hr2) rfl rfl (Nat.le_of_ble_eq_true rfl) (by decide) (fun br2 => ?_)
  refine z_if_eq 31 C dX8_whoOnTop_5 (by decide) (rg01 br2) (fun e3 => ?_) (fun e3 => ?_)
  ·
    have h := (if_pos e3).symm.trans h
    refine z_iconst C dX8_whoOnTop_31 ?_
    exact y_iretP C dX8_whoOnTop_32 h (by decide)
  ·
    have h := (if_neg e3).symm.trans h
    refine z_aload_n C dX8_whoOnTop_8 0 rfl ?_
    obtain ⟨on4, hon4, h⟩ := bnd h
    refine y_getR C dX8_whoOnTop_9 fX8_30 rfl hon4 ?_
    refine z_aload_n C dX8_whoOnTop_12 0 rfl ?_
    obtain ⟨on5, hon5, h⟩ := bnd h
    refine y_getR C dX8_whoOnTop_13 fX8_21 rfl hon5 ?_
    obtain ⟨on6, hon6, h⟩ := bnd h
    refine y_getR C dX8_whoOnTop_16 fX8_88 rfl hon6 ?_
    refine z_iload_n C dX8_whoOnTop_19 1 rfl ?_
    refine z_bipush C dX8_whoOnTop_20 (by decide) ?_
    refine y_imul C dX8_whoOnTop_22 ?_
    obtain ⟨x7, hx7, h⟩ := bnd h
    refine y_iald C dX8_whoOnTop_23 hx7 (fun gx7 => ?_)
    refine z_iconst C dX8_whoOnTop_24 ?_
    obtain ⟨k8, h⟩ := gK_inv h
    obtain ⟨r9, hr9, h⟩ := bnd h
    refine y_cVi (st := []) C dX8_whoOnTop_25 mX8_92 k8 (tX6_at hC on4 x7 1 gx7 (by decide) hr9) rfl rfl (Nat.le_of_ble_eq_true rfl) (by decide) (fun gr9 => ?_)
    refine z_goto 32 C dX8_whoOnTop_28 (by decide) ?_
    exact y_iretP C dX8_whoOnTop_32 h gr9

set_option maxHeartbeats 4000000 in
set_option maxRecDepth 100000 in
theorem tX8_strokesAt {G : Gx} {σ : State} (hC : Cy G σ) (o0 : Nat) (v1 : Int) {M0 : Mm} (gv1 : rg v1) {R : Int} (h : uX8_strokesAt o0 v1 M0 = some R) : Ct G σ (2) yX8_strokesAt cX8_strokesAt 4 (some .int) [.ref (G.2.2 + o0), .int (iv v1)] M0 0 0 (Qi R M0) := by
  refine Ct.of hC.1 (by decide +kernel) (Nat.le_of_ble_eq_true rfl) ?_
  intro p l e R0 s m args below meth c C
  show Jz G σ p l e R0 s m args below meth c 4 0 0 (Qi R M0) M0 0 0 0 [(0, .ref (G.2.2 + o0)), (1, .int (iv v1))] []
  have hb37 : ∀ (v2 : Int), (rg v2) → uX8_strokesAt_b37 v2 M0 = some R → Jz G σ p l e R0 s m args below meth c 4 0 0 (Qi R M0) M0 0 0 37 [(2, .int (iv v2))] [] := by
    intro v2  gv2 h
    unfold uX8_strokesAt_b37 at h
    refine z_iload_n C dX8_strokesAt_37 0 rfl ?_
    exact y_iretP C dX8_strokesAt_38 h gv2
  have hb4 : ∀ (o0 : Nat) (v1 : Int) (v2 : Int) (v3 : Int), (rg v1) → (rg v2) → (rg v3) → uX8_strokesAt_b4 o0 v1 v2 v3 M0 = some R → Jz G σ p l e R0 s m args below meth c 4 0 0 (Qi R M0) M0 0 0 4 [(0, .ref (G.2.2 + o0)), (1, .int (iv v1)), (2, .int (iv v2)), (3, .int (iv v3))] [] := by
    intro o0 v1 v2 v3  gv1 gv2 gv3 h
    unfold uX8_strokesAt_b4 at h
    obtain ⟨b4, hb4_, hc4⟩ := bnd h
    have hL4 : ∀ (n : Nat) (v2 : Int) (v3 : Int), (rg v2) → (rg v3) → lp (uX8_strokesAt_f4 o0 v1 M0) n (v2, v3) = some b4 → Jz G σ p l e R0 s m args below meth c 4 0 0 (Qi R M0) M0 0 0 4 [(0, .ref (G.2.2 + o0)), (1, .int (iv v1)), (2, .int (iv v2)), (3, .int (iv v3))] [] := by
      intro n; induction n with
      | zero => intro v2 v3 gv2 gv3 hq; exact (lp_0 hq).elim
      | succ n4 ih4 =>
        intro v2 v3 gv2 gv3 hq
        obtain ⟨z4, h, hZ4⟩ := lp_s hq
        have h : uX8_strokesAt_s4 o0 v1 M0 v2 v3 = some z4 := h
        unfold uX8_strokesAt_s4 at h
        refine z_iload_n C dX8_strokesAt_4 3 rfl ?_
        refine z_aload_n C dX8_strokesAt_5 0 rfl ?_
        obtain ⟨on1, hon1, h⟩ := bnd h
        refine y_getR C dX8_strokesAt_6 fX8_21 rfl hon1 ?_
        obtain ⟨x2, hx2, h⟩ := bnd h
        refine y_getI C dX8_strokesAt_9 fX8_51 rfl hx2 (fun gx2 => ?_)
        refine z_icmp_ge 37 C dX8_strokesAt_12 (by decide) gv3 gx2 (fun e3 => ?_) (fun e3 => ?_)
        ·
          have h := (if_pos e3).symm.trans h
          have h : uX8_strokesAt_b37 v2 M0 = some R := lp_ex (K := (uX8_strokesAt_c4 o0 v1 M0)) h hZ4 hc4
          refine z_drop (lv' := [(2, .int (iv v2))]) [2] rfl ?_
          exact hb37 v2  gv2 h
        ·
          have h := (if_neg e3).symm.trans h
          refine z_aload_n C dX8_strokesAt_15 0 rfl ?_
          obtain ⟨on4, hon4, h⟩ := bnd h
          refine y_getR C dX8_strokesAt_16 fX8_30 rfl hon4 ?_
          refine z_iload_n C dX8_strokesAt_19 3 rfl ?_
          refine z_iconst C dX8_strokesAt_20 ?_
          obtain ⟨k5, h⟩ := gK_inv h
          obtain ⟨r6, hr6, h⟩ := bnd h
          refine y_cVi (st := []) C dX8_strokesAt_21 mX8_92 k5 (tX6_at hC on4 v3 2 gv3 (by decide) hr6) rfl rfl (Nat.le_of_ble_eq_true rfl) (by decide) (fun gr6 => ?_)
          refine z_iload_n C dX8_strokesAt_24 1 rfl ?_
          refine z_icmp_ne 31 C dX8_strokesAt_25 (by decide) gr6 gv1 (fun e7 => ?_) (fun e7 => ?_)
          ·
            have h := (if_neg e7).symm.trans h
            refine y_iinc (lv' := [(0, .ref (G.2.2 + o0)), (1, .int (iv v1)), (2, .int (iv v2)), (3, .int (iv (w32 (v3 + 1))))]) C dX8_strokesAt_31 3 rfl (by decide) [1, 2, 3, 0] rfl ?_
            refine z_goto 4 C dX8_strokesAt_34 (by decide) ?_
            exact ih4 v2 (w32 (v3 + 1)) gv2 (w32_rng _) (lp_back h hZ4)
          ·
            have h := (if_pos e7).symm.trans h
            refine y_iinc (lv' := [(0, .ref (G.2.2 + o0)), (1, .int (iv v1)), (2, .int (iv (w32 (v2 + 1)))), (3, .int (iv v3))]) C dX8_strokesAt_28 2 rfl (by decide) [1, 2, 0, 3] rfl ?_
            refine y_iinc (lv' := [(0, .ref (G.2.2 + o0)), (1, .int (iv v1)), (2, .int (iv (w32 (v2 + 1)))), (3, .int (iv (w32 (v3 + 1))))]) C dX8_strokesAt_31 3 rfl (by decide) [1, 2, 3, 0] rfl ?_
            refine z_goto 4 C dX8_strokesAt_34 (by decide) ?_
            exact ih4 (w32 (v2 + 1)) (w32 (v3 + 1)) (w32_rng _) (w32_rng _) (lp_back h hZ4)
    exact hL4 _ v2 v3 gv2 gv3 hb4_
  unfold uX8_strokesAt at h
  refine z_iconst C dX8_strokesAt_0 ?_
  refine z_istore_n (lv' := [(0, .ref (G.2.2 + o0)), (1, .int (iv v1)), (2, .int (iv 0))]) C dX8_strokesAt_1 rfl (by decide) [1, 2, 0] rfl ?_
  refine z_iconst C dX8_strokesAt_2 ?_
  refine z_istore_n (lv' := [(0, .ref (G.2.2 + o0)), (1, .int (iv v1)), (2, .int (iv 0)), (3, .int (iv 0))]) C dX8_strokesAt_3 rfl (by decide) [1, 2, 3, 0] rfl ?_
  exact hb4 o0 v1 0 0  gv1 (by decide) (by decide) h
