set_option maxHeartbeats 4000000 in
set_option maxRecDepth 100000 in
theorem tX9_dies {G : Gx} {σ : State} (hC : Cy G σ) (o0 : Nat) (v1 : Int) (v2 : Int) {M0 : Mm} (gv1 : rg v1) (gv2 : rg v2) {R : Int × Mm} (h : uX9_dies o0 v1 v2 M0 = some R) : Ct G σ (5) yX9_dies cX9_dies 3 (some .int) [.ref (G.2.2 + o0), .int (iv v1), .int (iv v2)] M0 7 895 (Qi R.1 R.2) := by
  refine Ct.of hC.1 (by decide +kernel) (Nat.le_of_ble_eq_true rfl) ?_
  intro p l e R0 s m args below meth c C
  show Jz G σ p l e R0 s m args below meth c 3 7 895 (Qi R.1 R.2) M0 0 0 0 [(0, .ref (G.2.2 + o0)), (1, .int (iv v1)), (2, .int (iv v2))] []
  have hb66 : ∀ (o0 : Nat) (v1 : Int) (v2 : Int) (M : Mm), (rg v1) → (rg v2) → uX9_dies_b66 o0 v1 v2 M = some R → Jz G σ p l e R0 s m args below meth c 3 7 895 (Qi R.1 R.2) M 7 895 66 [(0, .ref (G.2.2 + o0)), (1, .int (iv v1)), (2, .int (iv v2))] [] := by
    intro o0 v1 v2 M gv1 gv2 h
    unfold uX9_dies_b66 at h
    refine z_aload_n C dX9_dies_66 0 rfl ?_
    obtain ⟨on1, hon1, h⟩ := bnd h
    refine y_getR C dX9_dies_67 fX9_33 rfl hon1 ?_
    obtain ⟨on2, hon2, h⟩ := bnd h
    refine y_getR C dX9_dies_70 fX9_117 rfl hon2 ?_
    refine z_iload_n C dX9_dies_73 1 rfl ?_
    obtain ⟨k3, h⟩ := gK_inv h
    obtain ⟨M4, hM4, h⟩ := bnd h
    refine y_cVv (st := []) C dX9_dies_74 mX9_304 k3 (tX1_bury hC on2 v1 gv1 hM4) rfl rfl (Nat.le_of_ble_eq_true rfl) (by decide) ?_
    refine z_aload_n C dX9_dies_77 0 rfl ?_
    obtain ⟨on5, hon5, h⟩ := bnd h
    refine y_getR C dX9_dies_78 fX9_33 rfl hon5 ?_
    obtain ⟨on6, hon6, h⟩ := bnd h
    refine y_getR C dX9_dies_81 fX9_117 rfl hon6 ?_
    refine z_iload_n C dX9_dies_84 1 rfl ?_
    refine z_iload_n C dX9_dies_85 2 rfl ?_
    obtain ⟨k7, h⟩ := gK_inv h
    obtain ⟨r8, M9, hr8, h⟩ := bnd2 h
    refine y_cVi (st := []) C dX9_dies_86 mX9_307 k7 (tX1_inherit hC on6 v1 v2 gv1 gv2 hr8) rfl rfl (Nat.le_of_ble_eq_true rfl) (by decide) (fun gr8 => ?_)
    exact y_iretB C dX9_dies_89 h gr8
  have hb56 : ∀ (o0 : Nat) (v1 : Int) (v2 : Int) (M : Mm), (rg v1) → (rg v2) → uX9_dies_b56 o0 v1 v2 M = some R → Jz G σ p l e R0 s m args below meth c 3 7 895 (Qi R.1 R.2) M 7 895 56 [(0, .ref (G.2.2 + o0)), (1, .int (iv v1)), (2, .int (iv v2))] [] := by
    intro o0 v1 v2 M gv1 gv2 h
    unfold uX9_dies_b56 at h
    refine z_aload_n C dX9_dies_56 0 rfl ?_
    obtain ⟨on10, hon10, h⟩ := bnd h
    refine y_getR C dX9_dies_57 fX9_33 rfl hon10 ?_
    obtain ⟨on11, hon11, h⟩ := bnd h
    refine y_getR C dX9_dies_60 fX9_117 rfl hon11 ?_
    obtain ⟨k12, h⟩ := gK_inv h
    obtain ⟨M13, hM13, h⟩ := bnd h
    refine y_cVv (st := []) C dX9_dies_63 mX9_301 k12 (tX1_bringDieBack hC on11  hM13) rfl rfl (Nat.le_of_ble_eq_true rfl) (by decide) ?_
    exact hb66 o0 v1 v2 M13 gv1 gv2 h
  unfold uX9_dies at h
  refine z_aload_n C dX9_dies_0 0 rfl ?_
  obtain ⟨on14, hon14, h⟩ := bnd h
  refine y_getR C dX9_dies_1 fX9_33 rfl hon14 ?_
  refine z_iload_n C dX9_dies_4 1 rfl ?_
  refine z_iload_n C dX9_dies_5 2 rfl ?_
  obtain ⟨k15, h⟩ := gK_inv h
  obtain ⟨r16, hr16, h⟩ := bnd h
  refine y_cVb (st := []) C dX9_dies_6 mX9_229 k15 (tX8_canTrade hC on14 v1 v2 gv1 gv2 hr16) rfl rfl (Nat.le_of_ble_eq_true rfl) (by decide) (fun br16 => ?_)
  refine z_if_ne 14 C dX9_dies_9 (by decide) (rg01 br16) (fun e17 => ?_) (fun e17 => ?_)
  ·
    have h := (if_neg e17).symm.trans h
    refine z_aload_n C dX9_dies_14 0 rfl ?_
    obtain ⟨on18, hon18, h⟩ := bnd h
    refine y_getR C dX9_dies_15 fX9_40 rfl hon18 ?_
    refine z_aload_n C dX9_dies_18 0 rfl ?_
    obtain ⟨on19, hon19, h⟩ := bnd h
    refine y_getR C dX9_dies_19 fX9_33 rfl hon19 ?_
    obtain ⟨on20, hon20, h⟩ := bnd h
    refine y_getR C dX9_dies_22 fX9_117 rfl hon20 ?_
    obtain ⟨k21, h⟩ := gK_inv h
    obtain ⟨M22, hM22, h⟩ := bnd h
    refine y_cVva (st := []) C dX9_dies_25 mX9_171 k21 (tX2_keep hC on18 on20  hM22) rfl rfl (Nat.le_of_ble_eq_true rfl) (by decide) ?_
    refine z_aload_n C dX9_dies_28 0 rfl ?_
    obtain ⟨on23, hon23, h⟩ := bnd h
    refine y_getR C dX9_dies_29 fX9_33 rfl hon23 ?_
    obtain ⟨on24, hon24, h⟩ := bnd h
    refine y_getR C dX9_dies_32 fX9_117 rfl hon24 ?_
    obtain ⟨x25, hx25, h⟩ := bnd h
    refine y_getI C dX9_dies_35 fX9_292 rfl hx25 (fun gx25 => ?_)
    refine z_iload_n C dX9_dies_38 1 rfl ?_
    refine z_icmp_eq 56 C dX9_dies_39 (by decide) gx25 gv1 (fun e26 => ?_) (fun e26 => ?_)
    ·
      have h := (if_pos e26).symm.trans h
      exact hb56 o0 v1 v2 M22 gv1 gv2 h
    ·
      have h := (if_neg e26).symm.trans h
      refine z_aload_n C dX9_dies_42 0 rfl ?_
      obtain ⟨on27, hon27, h⟩ := bnd h
      refine y_getR C dX9_dies_43 fX9_33 rfl hon27 ?_
      obtain ⟨on28, hon28, h⟩ := bnd h
      refine y_getR C dX9_dies_46 fX9_117 rfl hon28 ?_
      obtain ⟨x29, hx29, h⟩ := bnd h
      refine y_getI C dX9_dies_49 fX9_295 rfl hx29 (fun gx29 => ?_)
      refine z_iload_n C dX9_dies_52 1 rfl ?_
      refine z_icmp_ne 66 C dX9_dies_53 (by decide) gx29 gv1 (fun e30 => ?_) (fun e30 => ?_)
      ·
        have h := (if_neg e30).symm.trans h
        exact hb66 o0 v1 v2 M22 gv1 gv2 h
      ·
        have h := (if_pos e30).symm.trans h
        exact hb56 o0 v1 v2 M22 gv1 gv2 h
  ·
    have h := (if_pos e17).symm.trans h
    refine z_iconst C dX9_dies_12 ?_
    exact y_iretB C dX9_dies_13 h (by decide)

set_option maxHeartbeats 4000000 in
set_option maxRecDepth 100000 in
theorem tX9_close {G : Gx} {σ : State} (hC : Cy G σ) (o0 : Nat) (v1 : Int) {M0 : Mm} (gv1 : rg v1) {R : Int × Mm} (h : uX9_close o0 v1 M0 = some R) : Ct G σ (5) yX9_close cX9_close 2 (some .boolean) [.ref (G.2.2 + o0), .int (iv v1)] M0 7 895 (Qb R.1 R.2) := by
  refine Ct.of hC.1 (by decide +kernel) (Nat.le_of_ble_eq_true rfl) ?_
  intro p l e R0 s m args below meth c C
  show Jz G σ p l e R0 s m args below meth c 2 7 895 (Qb R.1 R.2) M0 0 0 0 [(0, .ref (G.2.2 + o0)), (1, .int (iv v1))] []
  unfold uX9_close at h
  refine z_aload_n C dX9_close_0 0 rfl ?_
  obtain ⟨on1, hon1, h⟩ := bnd h
  refine y_getR C dX9_close_1 fX9_33 rfl hon1 ?_
  refine z_iload_n C dX9_close_4 1 rfl ?_
  obtain ⟨k2, h⟩ := gK_inv h
  obtain ⟨r3, hr3, h⟩ := bnd h
  refine y_cVb (st := []) C dX9_close_5 mX9_138 k2 (tX8_isMint hC on1 v1 gv1 hr3) rfl rfl (Nat.le_of_ble_eq_true rfl) (by decide) (fun br3 => ?_)
  refine z_if_eq 25 C dX9_close_8 (by decide) (rg01 br3) (fun e4 => ?_) (fun e4 => ?_)
  ·
    have h := (if_pos e4).symm.trans h
    refine z_iconst C dX9_close_25 ?_
    exact y_zretB C dX9_close_26 h (by decide)
  ·
    have h := (if_neg e4).symm.trans h
    refine z_aload_n C dX9_close_11 0 rfl ?_
    obtain ⟨on5, hon5, h⟩ := bnd h
    refine y_getR C dX9_close_12 fX9_33 rfl hon5 ?_
    obtain ⟨on6, hon6, h⟩ := bnd h
    refine y_getR C dX9_close_15 fX9_117 rfl hon6 ?_
    refine z_iload_n C dX9_close_18 1 rfl ?_
    obtain ⟨k7, h⟩ := gK_inv h
    obtain ⟨r8, hr8, h⟩ := bnd h
    refine y_cVb (st := []) C dX9_close_19 mX9_149 k7 (tX1_isClosed hC on6 v1 gv1 hr8) rfl rfl (Nat.le_of_ble_eq_true rfl) (by decide) (fun br8 => ?_)
    refine z_if_eq 27 C dX9_close_22 (by decide) (rg01 br8) (fun e9 => ?_) (fun e9 => ?_)
    ·
      have h := (if_pos e9).symm.trans h
      refine z_aload_n C dX9_close_27 0 rfl ?_
      obtain ⟨on10, hon10, h⟩ := bnd h
      refine y_getR C dX9_close_28 fX9_40 rfl hon10 ?_
      refine z_aload_n C dX9_close_31 0 rfl ?_
      obtain ⟨on11, hon11, h⟩ := bnd h
      refine y_getR C dX9_close_32 fX9_33 rfl hon11 ?_
      obtain ⟨on12, hon12, h⟩ := bnd h
      refine y_getR C dX9_close_35 fX9_117 rfl hon12 ?_
      obtain ⟨k13, h⟩ := gK_inv h
      obtain ⟨M14, hM14, h⟩ := bnd h
      refine y_cVva (st := []) C dX9_close_38 mX9_171 k13 (tX2_keep hC on10 on12  hM14) rfl rfl (Nat.le_of_ble_eq_true rfl) (by decide) ?_
      refine z_aload_n C dX9_close_41 0 rfl ?_
      obtain ⟨on15, hon15, h⟩ := bnd h
      refine y_getR C dX9_close_42 fX9_33 rfl hon15 ?_
      obtain ⟨on16, hon16, h⟩ := bnd h
      refine y_getR C dX9_close_45 fX9_117 rfl hon16 ?_
      refine z_iload_n C dX9_close_48 1 rfl ?_
      obtain ⟨k17, h⟩ := gK_inv h
      obtain ⟨M18, hM18, h⟩ := bnd h
      refine y_cVv (st := []) C dX9_close_49 mX9_310 k17 (tX1_shut hC on16 v1 gv1 hM18) rfl rfl (Nat.le_of_ble_eq_true rfl) (by decide) ?_
      refine z_iconst C dX9_close_52 ?_
      exact y_zretB C dX9_close_53 h (by decide)
    ·
      have h := (if_neg e9).symm.trans h
      refine z_iconst C dX9_close_25 ?_
      exact y_zretB C dX9_close_26 h (by decide)

set_option maxHeartbeats 4000000 in
set_option maxRecDepth 100000 in
theorem tX9_image {G : Gx} {σ : State} (hC : Cy G σ) (o0 : Nat) (v1 : Int) {M0 : Mm} (gv1 : rg v1) {R : Int × Mm} (h : uX9_image o0 v1 M0 = some R) : Ct G σ (5) yX9_image cX9_image 2 (some .boolean) [.ref (G.2.2 + o0), .int (iv v1)] M0 25 9146 (Qb R.1 R.2) := by
  refine Ct.of hC.1 (by decide +kernel) (Nat.le_of_ble_eq_true rfl) ?_
  intro p l e R0 s m args below meth c C
  show Jz G σ p l e R0 s m args below meth c 2 25 9146 (Qb R.1 R.2) M0 0 0 0 [(0, .ref (G.2.2 + o0)), (1, .int (iv v1))] []
  have hb37 : ∀ (o0 : Nat) (v1 : Int) (M : Mm), (rg v1) → uX9_image_b37 o0 v1 M = some R → Jz G σ p l e R0 s m args below meth c 2 25 9146 (Qb R.1 R.2) M 25 9146 37 [(0, .ref (G.2.2 + o0)), (1, .int (iv v1))] [] := by
    intro o0 v1 M gv1 h
    unfold uX9_image_b37 at h
    refine z_aload_n C dX9_image_37 0 rfl ?_
    obtain ⟨on1, hon1, h⟩ := bnd h
    refine y_getR C dX9_image_38 fX9_44 rfl hon1 ?_
    refine z_iload_n C dX9_image_41 1 rfl ?_
    obtain ⟨qn2, hqn2, h⟩ := bnd h
    refine y_aaldW C dX9_image_42 hqn2 ?_
    refine z_aload_n C dX9_image_43 0 rfl ?_
    obtain ⟨on3, hon3, h⟩ := bnd h
    refine y_getR C dX9_image_44 fX9_33 rfl hon3 ?_
    obtain ⟨on4, hon4, h⟩ := bnd h
    subst hon4
    obtain ⟨k5, h⟩ := gK_inv h
    obtain ⟨M6, hM6, h⟩ := bnd h
    refine y_cVv (st := []) C dX9_image_47 mX9_380 k5 (tX8_copyFrom hC on4 on3  hM6) rfl rfl (Nat.le_of_ble_eq_true rfl) (by decide) ?_
    refine z_iconst C dX9_image_50 ?_
    exact y_zretB C dX9_image_51 h (by decide)
  unfold uX9_image at h
  refine z_iload_n C dX9_image_0 1 rfl ?_
  refine z_if_lt 13 C dX9_image_1 (by decide) gv1 (fun e7 => ?_) (fun e7 => ?_)
  ·
    have h := (if_pos e7).symm.trans h
    refine z_iconst C dX9_image_13 ?_
    exact y_zretB C dX9_image_14 h (by decide)
  ·
    have h := (if_neg e7).symm.trans h
    refine z_iload_n C dX9_image_4 1 rfl ?_
    refine z_aload_n C dX9_image_5 0 rfl ?_
    obtain ⟨on8, hon8, h⟩ := bnd h
    refine y_getR C dX9_image_6 fX9_44 rfl hon8 ?_
    obtain ⟨x9, hx9, h⟩ := bnd h
    refine y_alen C dX9_image_9 hx9 (fun gx9 => ?_)
    refine z_icmp_lt 15 C dX9_image_10 (by decide) gv1 gx9 (fun e10 => ?_) (fun e10 => ?_)
    ·
      have h := (if_pos e10).symm.trans h
      refine z_aload_n C dX9_image_15 0 rfl ?_
      obtain ⟨on11, hon11, h⟩ := bnd h
      refine y_getR C dX9_image_16 fX9_44 rfl hon11 ?_
      refine z_iload_n C dX9_image_19 1 rfl ?_
      obtain ⟨qn12, hqn12, h⟩ := bnd h
      refine y_aaldW C dX9_image_20 hqn12 ?_
      refine y_ifnonnull 37 C dX9_image_21 (by decide) (fun e13 => ?_) (fun e13 => ?_)
      ·
        have h := (if_neg e13).symm.trans h
        refine y_widen (k1 := 25) (n1 := 9146) (by omega) (by omega) ?_
        exact hb37 o0 v1 M0 gv1 h
      ·
        have h := (if_pos e13).symm.trans h
        refine z_aload_n C dX9_image_24 0 rfl ?_
        obtain ⟨on14, hon14, h⟩ := bnd h
        refine y_getR C dX9_image_25 fX9_44 rfl hon14 ?_
        refine z_iload_n C dX9_image_28 1 rfl ?_
        refine y_new C dX9_image_29 clX8 defX8 nX9_30 ins_X8 ini_X8 (by omega) (by omega) ?_
        refine z_dup C dX9_image_32 rfl ?_
        obtain ⟨M15, hM15, h⟩ := bnd h
        refine y_cIva (st := [.ref (G.2.2 + M0.1.1), .int (iv v1), .ref (G.2.2 + on14)]) C dX9_image_33 mX9_32 (tX8_init hC M0.1.1  hM15) rfl rfl (Nat.le_of_ble_eq_true rfl) (by decide) ?_
        obtain ⟨M16, hM16, h⟩ := bnd h
        refine y_aastW C dX9_image_36 hM16 ?_
        exact hb37 o0 v1 M16 gv1 h
    ·
      have h := (if_neg e10).symm.trans h
      refine z_iconst C dX9_image_13 ?_
      exact y_zretB C dX9_image_14 h (by decide)

set_option maxHeartbeats 4000000 in
set_option maxRecDepth 100000 in
theorem tX10_readWho {G : Gx} {σ : State} (hC : Cy G σ) (o0 : Nat) {M0 : Mm}  {R : Int × Mm} (h : uX10_readWho o0 M0 = some R) : Ct G σ (5) yX10_readWho cX10_readWho 2 (some .boolean) [.ref (G.2.2 + o0)] M0 0 0 (Qb R.1 R.2) := by
  refine Ct.of hC.1 (by decide +kernel) (Nat.le_of_ble_eq_true rfl) ?_
  intro p l e R0 s m args below meth c C
  show Jz G σ p l e R0 s m args below meth c 2 0 0 (Qb R.1 R.2) M0 0 0 0 [(0, .ref (G.2.2 + o0))] []
  have hb109 : ∀ (o0 : Nat) (M : Mm), uX10_readWho_b109 o0 M = some R → Jz G σ p l e R0 s m args below meth c 2 0 0 (Qb R.1 R.2) M 0 0 109 [(0, .ref (G.2.2 + o0))] [] := by
    intro o0 M  h
    unfold uX10_readWho_b109 at h
    refine z_aload_n C dX10_readWho_109 0 rfl ?_
    obtain ⟨on1, hon1, h⟩ := bnd h
    refine y_getR C dX10_readWho_110 fX10_16 rfl hon1 ?_
    refine z_iconst C dX10_readWho_113 ?_
    refine z_dup2 C dX10_readWho_114 rfl rfl ?_
    obtain ⟨x2, hx2, h⟩ := bnd h
    refine y_iald C dX10_readWho_115 hx2 (fun gx2 => ?_)
    refine z_iconst C dX10_readWho_116 ?_
    refine y_iadd C dX10_readWho_117 ?_
    obtain ⟨M3, hM3, h⟩ := bnd h
    refine y_iast C dX10_readWho_118 hM3 ?_
    refine z_iconst C dX10_readWho_119 ?_
    exact y_zretB C dX10_readWho_120 h (by decide)
  have hb96 : ∀ (o0 : Nat) (os0 : Nat) (vs1 : Int) (vs2 : Int) (M : Mm), (rg vs1) → (vs2 = 0 ∨ vs2 = 1) → uX10_readWho_b96 o0 os0 vs1 vs2 M = some R → Jz G σ p l e R0 s m args below meth c 2 0 0 (Qb R.1 R.2) M 0 0 96 [(0, .ref (G.2.2 + o0))] [.int (iv vs2), .int (iv vs1), .ref (G.2.2 + os0)] := by
    intro o0 os0 vs1 vs2 M gvs1 bvs2 h
    unfold uX10_readWho_b96 at h
    obtain ⟨M4, hM4, h⟩ := bnd h
    refine y_iast C dX10_readWho_96 hM4 ?_
    refine z_aload_n C dX10_readWho_97 0 rfl ?_
    refine z_iconst C dX10_readWho_98 ?_
    obtain ⟨k5, h⟩ := gK_inv h
    obtain ⟨r6, hr6, h⟩ := bnd h
    refine y_cVb (st := []) C dX10_readWho_99 mX10_202 k5 (tX10_isWord hC o0 2 (by decide) hr6) rfl rfl (Nat.le_of_ble_eq_true rfl) (by decide) (fun br6 => ?_)
    refine z_if_eq 109 C dX10_readWho_102 (by decide) (rg01 br6) (fun e7 => ?_) (fun e7 => ?_)
    ·
      have h := (if_pos e7).symm.trans h
      exact hb109 o0 M4  h
    ·
      have h := (if_neg e7).symm.trans h
      refine z_aload_n C dX10_readWho_105 0 rfl ?_
      obtain ⟨k8, h⟩ := gK_inv h
      obtain ⟨M9, hM9, h⟩ := bnd h
      refine y_cVv (st := []) C dX10_readWho_106 mX10_161 k8 (tX10_go hC o0  hM9) rfl rfl (Nat.le_of_ble_eq_true rfl) (by decide) ?_
      exact hb109 o0 M9  h
  have hb71 : ∀ (o0 : Nat) (v1 : Int) (M : Mm), (rg v1) → uX10_readWho_b71 o0 v1 M = some R → Jz G σ p l e R0 s m args below meth c 2 0 0 (Qb R.1 R.2) M 0 0 71 [(0, .ref (G.2.2 + o0)), (1, .int (iv v1))] [] := by
    intro o0 v1 M gv1 h
    unfold uX10_readWho_b71 at h
    refine z_aload_n C dX10_readWho_71 0 rfl ?_
    obtain ⟨on10, hon10, h⟩ := bnd h
    refine y_getR C dX10_readWho_72 fX10_16 rfl hon10 ?_
    refine z_bipush C dX10_readWho_75 (by decide) ?_
    refine z_iconst C dX10_readWho_77 ?_
    refine z_iload_n C dX10_readWho_78 1 rfl ?_
    refine y_imul C dX10_readWho_79 ?_
    refine y_iadd C dX10_readWho_80 ?_
    refine z_iconst C dX10_readWho_81 ?_
    refine y_iadd C dX10_readWho_82 ?_
    refine z_aload_n C dX10_readWho_83 0 rfl ?_
    refine z_iconst C dX10_readWho_84 ?_
    obtain ⟨k11, h⟩ := gK_inv h
    obtain ⟨r12, hr12, h⟩ := bnd h
    refine y_cVb (st := [.int (iv (w32 ((w32 (8 + (w32 (3 * v1)))) + 1))), .ref (G.2.2 + on10)]) C dX10_readWho_85 mX10_202 k11 (tX10_isWord hC o0 2 (by decide) hr12) rfl rfl (Nat.le_of_ble_eq_true rfl) (by decide) (fun br12 => ?_)
    refine z_if_eq 95 C dX10_readWho_88 (by decide) (rg01 br12) (fun e13 => ?_) (fun e13 => ?_)
    ·
      have h := (if_pos e13).symm.trans h
      refine z_iconst C dX10_readWho_95 ?_
      refine z_drop (lv' := [(0, .ref (G.2.2 + o0))]) [0] rfl ?_
      exact hb96 o0 on10 (w32 ((w32 (8 + (w32 (3 * v1)))) + 1)) 0 M (w32_rng _) (by decide) h
    ·
      have h := (if_neg e13).symm.trans h
      refine z_iconst C dX10_readWho_91 ?_
      refine z_goto 96 C dX10_readWho_92 (by decide) ?_
      refine z_drop (lv' := [(0, .ref (G.2.2 + o0))]) [0] rfl ?_
      exact hb96 o0 on10 (w32 ((w32 (8 + (w32 (3 * v1)))) + 1)) 1 M (w32_rng _) (by decide) h
  have hb58 : ∀ (o0 : Nat) (v1 : Int) (os0 : Nat) (vs1 : Int) (vs2 : Int) (M : Mm), (rg v1) → (rg vs1) → (vs2 = 0 ∨ vs2 = 1) → uX10_readWho_b58 o0 v1 os0 vs1 vs2 M = some R → Jz G σ p l e R0 s m args below meth c 2 0 0 (Qb R.1 R.2) M 0 0 58 [(0, .ref (G.2.2 + o0)), (1, .int (iv v1))] [.int (iv vs2), .int (iv vs1), .ref (G.2.2 + os0)] := by
    intro o0 v1 os0 vs1 vs2 M gv1 gvs1 bvs2 h
    unfold uX10_readWho_b58 at h
    obtain ⟨M14, hM14, h⟩ := bnd h
    refine y_iast C dX10_readWho_58 hM14 ?_
    refine z_aload_n C dX10_readWho_59 0 rfl ?_
    refine z_iconst C dX10_readWho_60 ?_
    obtain ⟨k15, h⟩ := gK_inv h
    obtain ⟨r16, hr16, h⟩ := bnd h
    refine y_cVb (st := []) C dX10_readWho_61 mX10_202 k15 (tX10_isWord hC o0 1 (by decide) hr16) rfl rfl (Nat.le_of_ble_eq_true rfl) (by decide) (fun br16 => ?_)
    refine z_if_eq 71 C dX10_readWho_64 (by decide) (rg01 br16) (fun e17 => ?_) (fun e17 => ?_)
    ·
      have h := (if_pos e17).symm.trans h
      exact hb71 o0 v1 M14 gv1 h
    ·
      have h := (if_neg e17).symm.trans h
      refine z_aload_n C dX10_readWho_67 0 rfl ?_
      obtain ⟨k18, h⟩ := gK_inv h
      obtain ⟨M19, hM19, h⟩ := bnd h
      refine y_cVv (st := []) C dX10_readWho_68 mX10_161 k18 (tX10_go hC o0  hM19) rfl rfl (Nat.le_of_ble_eq_true rfl) (by decide) ?_
      exact hb71 o0 v1 M19 gv1 h
  unfold uX10_readWho at h
  refine z_aload_n C dX10_readWho_0 0 rfl ?_
  obtain ⟨on20, hon20, h⟩ := bnd h
  refine y_getR C dX10_readWho_1 fX10_16 rfl hon20 ?_
  refine z_iconst C dX10_readWho_4 ?_
  obtain ⟨x21, hx21, h⟩ := bnd h
  refine y_iald C dX10_readWho_5 hx21 (fun gx21 => ?_)
  refine z_istore_n (lv' := [(0, .ref (G.2.2 + o0)), (1, .int (iv x21))]) C dX10_readWho_6 rfl (by decide) [1, 0] rfl ?_
  refine z_iload_n C dX10_readWho_7 1 rfl ?_
  refine z_bipush C dX10_readWho_8 (by decide) ?_
  refine z_icmp_ne 19 C dX10_readWho_10 (by decide) gx21 (by decide) (fun e22 => ?_) (fun e22 => ?_)
  ·
    have h := (if_neg e22).symm.trans h
    refine z_aload_n C dX10_readWho_19 0 rfl ?_
    obtain ⟨k23, h⟩ := gK_inv h
    obtain ⟨M24, hM24, h⟩ := bnd h
    refine y_cVv (st := []) C dX10_readWho_20 mX10_161 k23 (tX10_go hC o0  hM24) rfl rfl (Nat.le_of_ble_eq_true rfl) (by decide) ?_
    refine z_aload_n C dX10_readWho_23 0 rfl ?_
    refine z_iload_n C dX10_readWho_24 1 rfl ?_
    obtain ⟨k25, h⟩ := gK_inv h
    obtain ⟨r26, M27, hr26, h⟩ := bnd2 h
    refine y_cVb (st := []) C dX10_readWho_25 mX10_199 k25 (tX10_readNew hC o0 x21 gx21 hr26) rfl rfl (Nat.le_of_ble_eq_true rfl) (by decide) (fun br26 => ?_)
    refine z_if_ne 33 C dX10_readWho_28 (by decide) (rg01 br26) (fun e28 => ?_) (fun e28 => ?_)
    ·
      have h := (if_neg e28).symm.trans h
      refine z_aload_n C dX10_readWho_33 0 rfl ?_
      obtain ⟨on29, hon29, h⟩ := bnd h
      refine y_getR C dX10_readWho_34 fX10_16 rfl hon29 ?_
      refine z_bipush C dX10_readWho_37 (by decide) ?_
      refine z_iconst C dX10_readWho_39 ?_
      refine z_iload_n C dX10_readWho_40 1 rfl ?_
      refine y_imul C dX10_readWho_41 ?_
      refine y_iadd C dX10_readWho_42 ?_
      refine z_iconst C dX10_readWho_43 ?_
      refine y_iadd C dX10_readWho_44 ?_
      refine z_aload_n C dX10_readWho_45 0 rfl ?_
      refine z_iconst C dX10_readWho_46 ?_
      obtain ⟨k30, h⟩ := gK_inv h
      obtain ⟨r31, hr31, h⟩ := bnd h
      refine y_cVb (st := [.int (iv (w32 ((w32 (8 + (w32 (3 * x21)))) + 0))), .ref (G.2.2 + on29)]) C dX10_readWho_47 mX10_202 k30 (tX10_isWord hC o0 1 (by decide) hr31) rfl rfl (Nat.le_of_ble_eq_true rfl) (by decide) (fun br31 => ?_)
      refine z_if_eq 57 C dX10_readWho_50 (by decide) (rg01 br31) (fun e32 => ?_) (fun e32 => ?_)
      ·
        have h := (if_pos e32).symm.trans h
        refine z_iconst C dX10_readWho_57 ?_
        exact hb58 o0 x21 on29 (w32 ((w32 (8 + (w32 (3 * x21)))) + 0)) 0 M27 gx21 (w32_rng _) (by decide) h
      ·
        have h := (if_neg e32).symm.trans h
        refine z_iconst C dX10_readWho_53 ?_
        refine z_goto 58 C dX10_readWho_54 (by decide) ?_
        exact hb58 o0 x21 on29 (w32 ((w32 (8 + (w32 (3 * x21)))) + 0)) 1 M27 gx21 (w32_rng _) (by decide) h
    ·
      have h := (if_pos e28).symm.trans h
      refine z_iconst C dX10_readWho_31 ?_
      exact y_zretB C dX10_readWho_32 h (by decide)
  ·
    have h := (if_pos e22).symm.trans h
    refine z_aload_n C dX10_readWho_13 0 rfl ?_
    refine z_iconst C dX10_readWho_14 ?_
    obtain ⟨k33, h⟩ := gK_inv h
    obtain ⟨r34, M35, hr34, h⟩ := bnd2 h
    refine y_cVb (st := []) C dX10_readWho_15 mX10_151 k33 (tX10_bad hC o0 4 (by decide) hr34) rfl rfl (Nat.le_of_ble_eq_true rfl) (by decide) (fun br34 => ?_)
    exact y_zretB C dX10_readWho_18 h br34

set_option maxHeartbeats 4000000 in
set_option maxRecDepth 100000 in
theorem tX10_readMint {G : Gx} {σ : State} (hC : Cy G σ) (o0 : Nat) {M0 : Mm}  {R : Int × Mm} (h : uX10_readMint o0 M0 = some R) : Ct G σ (5) yX10_readMint cX10_readMint 2 (some .boolean) [.ref (G.2.2 + o0)] M0 0 0 (Qb R.1 R.2) := by
  refine Ct.of hC.1 (by decide +kernel) (Nat.le_of_ble_eq_true rfl) ?_
  intro p l e R0 s m args below meth c C
  show Jz G σ p l e R0 s m args below meth c 2 0 0 (Qb R.1 R.2) M0 0 0 0 [(0, .ref (G.2.2 + o0))] []
  unfold uX10_readMint at h
  refine z_aload_n C dX10_readMint_0 0 rfl ?_
  obtain ⟨on1, hon1, h⟩ := bnd h
  refine y_getR C dX10_readMint_1 fX10_16 rfl hon1 ?_
  refine z_iconst C dX10_readMint_4 ?_
  obtain ⟨x2, hx2, h⟩ := bnd h
  refine y_iald C dX10_readMint_5 hx2 (fun gx2 => ?_)
  refine z_istore_n (lv' := [(0, .ref (G.2.2 + o0)), (1, .int (iv x2))]) C dX10_readMint_6 rfl (by decide) [1, 0] rfl ?_
  refine z_iload_n C dX10_readMint_7 1 rfl ?_
  refine z_iconst C dX10_readMint_8 ?_
  refine z_icmp_ne 18 C dX10_readMint_9 (by decide) gx2 (by decide) (fun e3 => ?_) (fun e3 => ?_)
  ·
    have h := (if_neg e3).symm.trans h
    refine z_aload_n C dX10_readMint_18 0 rfl ?_
    obtain ⟨k4, h⟩ := gK_inv h
    obtain ⟨M5, hM5, h⟩ := bnd h
    refine y_cVv (st := []) C dX10_readMint_19 mX10_161 k4 (tX10_go hC o0  hM5) rfl rfl (Nat.le_of_ble_eq_true rfl) (by decide) ?_
    refine z_aload_n C dX10_readMint_22 0 rfl ?_
    refine z_bipush C dX10_readMint_23 (by decide) ?_
    refine z_iload_n C dX10_readMint_25 1 rfl ?_
    refine y_iadd C dX10_readMint_26 ?_
    obtain ⟨k6, h⟩ := gK_inv h
    obtain ⟨r7, M8, hr7, h⟩ := bnd2 h
    refine y_cVb (st := []) C dX10_readMint_27 mX10_199 k6 (tX10_readNew hC o0 (w32 (8 + x2)) (w32_rng _) hr7) rfl rfl (Nat.le_of_ble_eq_true rfl) (by decide) (fun br7 => ?_)
    refine z_if_eq 43 C dX10_readMint_30 (by decide) (rg01 br7) (fun e9 => ?_) (fun e9 => ?_)
    ·
      have h := (if_pos e9).symm.trans h
      refine z_iconst C dX10_readMint_43 ?_
      exact y_zretB C dX10_readMint_44 h (by decide)
    ·
      have h := (if_neg e9).symm.trans h
      refine z_aload_n C dX10_readMint_33 0 rfl ?_
      refine z_iconst C dX10_readMint_34 ?_
      refine z_bipush C dX10_readMint_35 (by decide) ?_
      obtain ⟨k10, h⟩ := gK_inv h
      obtain ⟨r11, M12, hr11, h⟩ := bnd2 h
      refine y_cVb (st := []) C dX10_readMint_37 mX10_205 k10 (tX10_readNumber hC o0 1 50 (by decide) (by decide) hr11) rfl rfl (Nat.le_of_ble_eq_true rfl) (by decide) (fun br11 => ?_)
      refine z_if_ne 45 C dX10_readMint_40 (by decide) (rg01 br11) (fun e13 => ?_) (fun e13 => ?_)
      ·
        have h := (if_neg e13).symm.trans h
        refine z_aload_n C dX10_readMint_45 0 rfl ?_
        obtain ⟨on14, hon14, h⟩ := bnd h
        refine y_getR C dX10_readMint_46 fX10_16 rfl hon14 ?_
        refine z_bipush C dX10_readMint_49 (by decide) ?_
        refine z_iconst C dX10_readMint_51 ?_
        refine z_iload_n C dX10_readMint_52 1 rfl ?_
        refine y_imul C dX10_readMint_53 ?_
        refine y_iadd C dX10_readMint_54 ?_
        refine z_iconst C dX10_readMint_55 ?_
        refine y_iadd C dX10_readMint_56 ?_
        refine z_aload_n C dX10_readMint_57 0 rfl ?_
        obtain ⟨x15, hx15, h⟩ := bnd h
        refine y_getI C dX10_readMint_58 fX10_158 rfl hx15 (fun gx15 => ?_)
        obtain ⟨M16, hM16, h⟩ := bnd h
        refine y_iast C dX10_readMint_61 hM16 ?_
        refine z_aload_n C dX10_readMint_62 0 rfl ?_
        refine z_iconst C dX10_readMint_63 ?_
        refine z_bipush C dX10_readMint_64 (by decide) ?_
        obtain ⟨k17, h⟩ := gK_inv h
        obtain ⟨r18, M19, hr18, h⟩ := bnd2 h
        refine y_cVb (st := []) C dX10_readMint_66 mX10_205 k17 (tX10_readNumber hC o0 1 9 (by decide) (by decide) hr18) rfl rfl (Nat.le_of_ble_eq_true rfl) (by decide) (fun br18 => ?_)
        refine z_if_ne 74 C dX10_readMint_69 (by decide) (rg01 br18) (fun e20 => ?_) (fun e20 => ?_)
        ·
          have h := (if_neg e20).symm.trans h
          refine z_aload_n C dX10_readMint_74 0 rfl ?_
          obtain ⟨on21, hon21, h⟩ := bnd h
          refine y_getR C dX10_readMint_75 fX10_16 rfl hon21 ?_
          refine z_bipush C dX10_readMint_78 (by decide) ?_
          refine z_iconst C dX10_readMint_80 ?_
          refine z_iload_n C dX10_readMint_81 1 rfl ?_
          refine y_imul C dX10_readMint_82 ?_
          refine y_iadd C dX10_readMint_83 ?_
          refine z_iconst C dX10_readMint_84 ?_
          refine y_iadd C dX10_readMint_85 ?_
          refine z_aload_n C dX10_readMint_86 0 rfl ?_
          obtain ⟨x22, hx22, h⟩ := bnd h
          refine y_getI C dX10_readMint_87 fX10_158 rfl hx22 (fun gx22 => ?_)
          obtain ⟨M23, hM23, h⟩ := bnd h
          refine y_iast C dX10_readMint_90 hM23 ?_
          refine z_aload_n C dX10_readMint_91 0 rfl ?_
          obtain ⟨on24, hon24, h⟩ := bnd h
          refine y_getR C dX10_readMint_92 fX10_16 rfl hon24 ?_
          refine z_iconst C dX10_readMint_95 ?_
          refine z_dup2 C dX10_readMint_96 rfl rfl ?_
          obtain ⟨x25, hx25, h⟩ := bnd h
          refine y_iald C dX10_readMint_97 hx25 (fun gx25 => ?_)
          refine z_iconst C dX10_readMint_98 ?_
          refine y_iadd C dX10_readMint_99 ?_
          obtain ⟨M26, hM26, h⟩ := bnd h
          refine y_iast C dX10_readMint_100 hM26 ?_
          refine z_iconst C dX10_readMint_101 ?_
          exact y_zretB C dX10_readMint_102 h (by decide)
        ·
          have h := (if_pos e20).symm.trans h
          refine z_iconst C dX10_readMint_72 ?_
          exact y_zretB C dX10_readMint_73 h (by decide)
      ·
        have h := (if_pos e13).symm.trans h
        refine z_iconst C dX10_readMint_43 ?_
        exact y_zretB C dX10_readMint_44 h (by decide)
  ·
    have h := (if_pos e3).symm.trans h
    refine z_aload_n C dX10_readMint_12 0 rfl ?_
    refine z_iconst C dX10_readMint_13 ?_
    obtain ⟨k27, h⟩ := gK_inv h
    obtain ⟨r28, M29, hr28, h⟩ := bnd2 h
    refine y_cVb (st := []) C dX10_readMint_14 mX10_151 k27 (tX10_bad hC o0 4 (by decide) hr28) rfl rfl (Nat.le_of_ble_eq_true rfl) (by decide) (fun br28 => ?_)
    exact y_zretB C dX10_readMint_17 h br28

set_option maxHeartbeats 4000000 in
set_option maxRecDepth 100000 in
theorem tX10_readTakes {G : Gx} {σ : State} (hC : Cy G σ) (o0 : Nat) {M0 : Mm}  {R : Int × Mm} (h : uX10_readTakes o0 M0 = some R) : Ct G σ (5) yX10_readTakes cX10_readTakes 3 (some .boolean) [.ref (G.2.2 + o0)] M0 0 0 (Qb R.1 R.2) := by
  refine Ct.of hC.1 (by decide +kernel) (Nat.le_of_ble_eq_true rfl) ?_
  intro p l e R0 s m args below meth c C
  show Jz G σ p l e R0 s m args below meth c 3 0 0 (Qb R.1 R.2) M0 0 0 0 [(0, .ref (G.2.2 + o0))] []
  unfold uX10_readTakes at h
  refine z_aload_n C dX10_readTakes_0 0 rfl ?_
  obtain ⟨k1, h⟩ := gK_inv h
  obtain ⟨M2, hM2, h⟩ := bnd h
  refine y_cVv (st := []) C dX10_readTakes_1 mX10_161 k1 (tX10_go hC o0  hM2) rfl rfl (Nat.le_of_ble_eq_true rfl) (by decide) ?_
  refine z_aload_n C dX10_readTakes_4 0 rfl ?_
  obtain ⟨k3, h⟩ := gK_inv h
  obtain ⟨r4, M5, hr4, h⟩ := bnd2 h
  refine y_cVb (st := []) C dX10_readTakes_5 mX10_209 k3 (tX10_readWhoTold hC o0  hr4) rfl rfl (Nat.le_of_ble_eq_true rfl) (by decide) (fun br4 => ?_)
  refine z_if_ne 13 C dX10_readTakes_8 (by decide) (rg01 br4) (fun e6 => ?_) (fun e6 => ?_)
  ·
    have h := (if_neg e6).symm.trans h
    refine z_aload_n C dX10_readTakes_13 0 rfl ?_
    obtain ⟨x7, hx7, h⟩ := bnd h
    refine y_getI C dX10_readTakes_14 fX10_158 rfl hx7 (fun gx7 => ?_)
    refine z_istore_n (lv' := [(0, .ref (G.2.2 + o0)), (1, .int (iv x7))]) C dX10_readTakes_17 rfl (by decide) [1, 0] rfl ?_
    refine z_aload_n C dX10_readTakes_18 0 rfl ?_
    obtain ⟨k8, h⟩ := gK_inv h
    obtain ⟨M9, hM9, h⟩ := bnd h
    refine y_cVv (st := []) C dX10_readTakes_19 mX10_161 k8 (tX10_go hC o0  hM9) rfl rfl (Nat.le_of_ble_eq_true rfl) (by decide) ?_
    refine z_aload_n C dX10_readTakes_22 0 rfl ?_
    obtain ⟨k10, h⟩ := gK_inv h
    obtain ⟨r11, M12, hr11, h⟩ := bnd2 h
    refine y_cVb (st := []) C dX10_readTakes_23 mX10_209 k10 (tX10_readWhoTold hC o0  hr11) rfl rfl (Nat.le_of_ble_eq_true rfl) (by decide) (fun br11 => ?_)
    refine z_if_ne 31 C dX10_readTakes_26 (by decide) (rg01 br11) (fun e13 => ?_) (fun e13 => ?_)
    ·
      have h := (if_neg e13).symm.trans h
      refine z_bipush C dX10_readTakes_31 (by decide) ?_
      refine z_bipush C dX10_readTakes_33 (by decide) ?_
      refine z_iload_n C dX10_readTakes_35 1 rfl ?_
      refine y_imul C dX10_readTakes_36 ?_
      refine y_iadd C dX10_readTakes_37 ?_
      refine z_aload_n C dX10_readTakes_38 0 rfl ?_
      obtain ⟨x14, hx14, h⟩ := bnd h
      refine y_getI C dX10_readTakes_39 fX10_158 rfl hx14 (fun gx14 => ?_)
      refine y_iadd C dX10_readTakes_42 ?_
      refine z_istore_n (lv' := [(0, .ref (G.2.2 + o0)), (1, .int (iv x7)), (2, .int (iv (w32 ((w32 (44 + (w32 (8 * x7)))) + x14))))]) C dX10_readTakes_43 rfl (by decide) [1, 2, 0] rfl ?_
      refine z_aload_n C dX10_readTakes_44 0 rfl ?_
      obtain ⟨on15, hon15, h⟩ := bnd h
      refine y_getR C dX10_readTakes_45 fX10_16 rfl hon15 ?_
      refine z_iload_n C dX10_readTakes_48 2 rfl ?_
      obtain ⟨x16, hx16, h⟩ := bnd h
      refine y_iald C dX10_readTakes_49 hx16 (fun gx16 => ?_)
      refine z_if_le 59 C dX10_readTakes_50 (by decide) gx16 (fun e17 => ?_) (fun e17 => ?_)
      ·
        have h := (if_pos e17).symm.trans h
        refine z_aload_n C dX10_readTakes_59 0 rfl ?_
        obtain ⟨k18, h⟩ := gK_inv h
        obtain ⟨M19, hM19, h⟩ := bnd h
        refine y_cVv (st := []) C dX10_readTakes_60 mX10_161 k18 (tX10_go hC o0  hM19) rfl rfl (Nat.le_of_ble_eq_true rfl) (by decide) ?_
        refine z_aload_n C dX10_readTakes_63 0 rfl ?_
        refine z_iconst C dX10_readTakes_64 ?_
        refine z_sipush C dX10_readTakes_65 (by decide) ?_
        obtain ⟨k20, h⟩ := gK_inv h
        obtain ⟨r21, M22, hr21, h⟩ := bnd2 h
        refine y_cVb (st := []) C dX10_readTakes_68 mX10_205 k20 (tX10_readNumber hC o0 0 200 (by decide) (by decide) hr21) rfl rfl (Nat.le_of_ble_eq_true rfl) (by decide) (fun br21 => ?_)
        refine z_if_ne 76 C dX10_readTakes_71 (by decide) (rg01 br21) (fun e23 => ?_) (fun e23 => ?_)
        ·
          have h := (if_neg e23).symm.trans h
          refine z_aload_n C dX10_readTakes_76 0 rfl ?_
          obtain ⟨on24, hon24, h⟩ := bnd h
          refine y_getR C dX10_readTakes_77 fX10_16 rfl hon24 ?_
          refine z_iload_n C dX10_readTakes_80 2 rfl ?_
          refine z_aload_n C dX10_readTakes_81 0 rfl ?_
          obtain ⟨x25, hx25, h⟩ := bnd h
          refine y_getI C dX10_readTakes_82 fX10_158 rfl hx25 (fun gx25 => ?_)
          refine z_iconst C dX10_readTakes_85 ?_
          refine y_iadd C dX10_readTakes_86 ?_
          obtain ⟨M26, hM26, h⟩ := bnd h
          refine y_iast C dX10_readTakes_87 hM26 ?_
          refine z_aload_n C dX10_readTakes_88 0 rfl ?_
          obtain ⟨on27, hon27, h⟩ := bnd h
          refine y_getR C dX10_readTakes_89 fX10_16 rfl hon27 ?_
          refine z_iconst C dX10_readTakes_92 ?_
          refine z_dup2 C dX10_readTakes_93 rfl rfl ?_
          obtain ⟨x28, hx28, h⟩ := bnd h
          refine y_iald C dX10_readTakes_94 hx28 (fun gx28 => ?_)
          refine z_iconst C dX10_readTakes_95 ?_
          refine y_iadd C dX10_readTakes_96 ?_
          obtain ⟨M29, hM29, h⟩ := bnd h
          refine y_iast C dX10_readTakes_97 hM29 ?_
          refine z_iconst C dX10_readTakes_98 ?_
          exact y_zretB C dX10_readTakes_99 h (by decide)
        ·
          have h := (if_pos e23).symm.trans h
          refine z_iconst C dX10_readTakes_74 ?_
          exact y_zretB C dX10_readTakes_75 h (by decide)
      ·
        have h := (if_neg e17).symm.trans h
        refine z_aload_n C dX10_readTakes_53 0 rfl ?_
        refine z_iconst C dX10_readTakes_54 ?_
        obtain ⟨k30, h⟩ := gK_inv h
        obtain ⟨r31, M32, hr31, h⟩ := bnd2 h
        refine y_cVb (st := []) C dX10_readTakes_55 mX10_151 k30 (tX10_bad hC o0 3 (by decide) hr31) rfl rfl (Nat.le_of_ble_eq_true rfl) (by decide) (fun br31 => ?_)
        exact y_zretB C dX10_readTakes_58 h br31
    ·
      have h := (if_pos e13).symm.trans h
      refine z_iconst C dX10_readTakes_29 ?_
      exact y_zretB C dX10_readTakes_30 h (by decide)
  ·
    have h := (if_pos e6).symm.trans h
    refine z_iconst C dX10_readTakes_11 ?_
    exact y_zretB C dX10_readTakes_12 h (by decide)

set_option maxHeartbeats 4000000 in
set_option maxRecDepth 100000 in
theorem tX10_value {G : Gx} {σ : State} (hC : Cy G σ) (o0 : Nat) (v1 : Int) (v2 : Int) (v3 : Int) {M0 : Mm} (gv1 : rg v1) (gv2 : rg v2) (gv3 : rg v3) {R : Int × Mm} (h : uX10_value o0 v1 v2 v3 M0 = some R) : Ct G σ (5) yX10_value cX10_value 4 (some .int) [.ref (G.2.2 + o0), .int (iv v1), .int (iv v2), .int (iv v3)] M0 0 0 (Qi R.1 R.2) := by
  refine Ct.of hC.1 (by decide +kernel) (Nat.le_of_ble_eq_true rfl) ?_
  intro p l e R0 s m args below meth c C
  show Jz G σ p l e R0 s m args below meth c 4 0 0 (Qi R.1 R.2) M0 0 0 0 [(0, .ref (G.2.2 + o0)), (1, .int (iv v1)), (2, .int (iv v2)), (3, .int (iv v3))] []
  unfold uX10_value at h
  refine z_aload_n C dX10_value_0 0 rfl ?_
  refine z_iconst C dX10_value_1 ?_
  obtain ⟨M1, hM1, h⟩ := bnd h
  refine y_putI C dX10_value_2 fX10_83 rfl rfl rfl rfl hM1 ?_
  refine z_aload_n C dX10_value_5 0 rfl ?_
  obtain ⟨k2, h⟩ := gK_inv h
  obtain ⟨M3, hM3, h⟩ := bnd h
  refine y_cVv (st := []) C dX10_value_6 mX10_167 k2 (tX10_lay hC o0  hM3) rfl rfl (Nat.le_of_ble_eq_true rfl) (by decide) ?_
  refine z_aload_n C dX10_value_9 0 rfl ?_
  refine z_iload_n C dX10_value_10 1 rfl ?_
  obtain ⟨k4, h⟩ := gK_inv h
  obtain ⟨r5, hr5, h⟩ := bnd h
  refine y_cVb (st := []) C dX10_value_11 mX10_243 k4 (tX10_isWho hC o0 v1 gv1 hr5) rfl rfl (Nat.le_of_ble_eq_true rfl) (by decide) (fun br5 => ?_)
  refine z_if_eq 34 C dX10_value_14 (by decide) (rg01 br5) (fun e6 => ?_) (fun e6 => ?_)
  ·
    have h := (if_pos e6).symm.trans h
    refine z_iconst C dX10_value_34 ?_
    exact y_iretB C dX10_value_35 h (by decide)
  ·
    have h := (if_neg e6).symm.trans h
    refine z_aload_n C dX10_value_17 0 rfl ?_
    refine z_iload_n C dX10_value_18 2 rfl ?_
    obtain ⟨k7, h⟩ := gK_inv h
    obtain ⟨r8, hr8, h⟩ := bnd h
    refine y_cVb (st := []) C dX10_value_19 mX10_282 k7 (tX10_isCoin hC o0 v2 gv2 hr8) rfl rfl (Nat.le_of_ble_eq_true rfl) (by decide) (fun br8 => ?_)
    refine z_if_eq 34 C dX10_value_22 (by decide) (rg01 br8) (fun e9 => ?_) (fun e9 => ?_)
    ·
      have h := (if_pos e9).symm.trans h
      refine z_iconst C dX10_value_34 ?_
      exact y_iretB C dX10_value_35 h (by decide)
    ·
      have h := (if_neg e9).symm.trans h
      refine z_iload_n C dX10_value_25 3 rfl ?_
      refine z_iconst C dX10_value_26 ?_
      refine z_iconst C dX10_value_27 ?_
      obtain ⟨r10, hr10, h⟩ := bnd h
      refine y_cSb (st := []) C dX10_value_28 mX10_154 (tX10_isIn hC v3 0 1 gv3 (by decide) (by decide) hr10) rfl rfl (Nat.le_of_ble_eq_true rfl) (by decide) (fun br10 => ?_)
      refine z_if_ne 36 C dX10_value_31 (by decide) (rg01 br10) (fun e11 => ?_) (fun e11 => ?_)
      ·
        have h := (if_neg e11).symm.trans h
        refine z_iload_n C dX10_value_36 3 rfl ?_
        refine z_if_ne 57 C dX10_value_37 (by decide) gv3 (fun e12 => ?_) (fun e12 => ?_)
        ·
          have h := (if_neg e12).symm.trans h
          refine z_aload_n C dX10_value_57 0 rfl ?_
          refine z_iload_n C dX10_value_58 1 rfl ?_
          refine z_iload_n C dX10_value_59 2 rfl ?_
          obtain ⟨k13, h⟩ := gK_inv h
          obtain ⟨r14, hr14, h⟩ := bnd h
          refine y_cVi (st := []) C dX10_value_60 mX10_294 k13 (tX10_valueOf hC o0 v1 v2 gv1 gv2 hr14) rfl rfl (Nat.le_of_ble_eq_true rfl) (by decide) (fun gr14 => ?_)
          exact y_iretB C dX10_value_63 h gr14
        ·
          have h := (if_pos e12).symm.trans h
          refine z_aload_n C dX10_value_40 0 rfl ?_
          refine z_iload_n C dX10_value_41 1 rfl ?_
          refine z_aload_n C dX10_value_42 0 rfl ?_
          refine z_iload_n C dX10_value_43 2 rfl ?_
          obtain ⟨k15, h⟩ := gK_inv h
          obtain ⟨r16, hr16, h⟩ := bnd h
          refine y_cVi (st := [.int (iv v1), .ref (G.2.2 + o0)]) C dX10_value_44 mX10_253 k15 (tX10_topOf hC o0 v2 gv2 hr16) rfl rfl (Nat.le_of_ble_eq_true rfl) (by decide) (fun gr16 => ?_)
          refine z_aload_n C dX10_value_47 0 rfl ?_
          obtain ⟨k17, h⟩ := gK_inv h
          obtain ⟨r18, hr18, h⟩ := bnd h
          refine y_cVi (st := [.int (iv r16), .int (iv v1), .ref (G.2.2 + o0)]) C dX10_value_48 mX10_288 k17 (tX10_luckOf hC o0  hr18) rfl rfl (Nat.le_of_ble_eq_true rfl) (by decide) (fun gr18 => ?_)
          obtain ⟨k19, h⟩ := gK_inv h
          obtain ⟨r20, hr20, h⟩ := bnd h
          refine y_cVi (st := []) C dX10_value_51 mX10_291 k19 (tX10_hundredths hC o0 v1 r16 r18 gv1 gr16 gr18 hr20) rfl rfl (Nat.le_of_ble_eq_true rfl) (by decide) (fun gr20 => ?_)
          refine z_goto 63 C dX10_value_54 (by decide) ?_
          exact y_iretB C dX10_value_63 h gr20
      ·
        have h := (if_pos e11).symm.trans h
        refine z_iconst C dX10_value_34 ?_
        exact y_iretB C dX10_value_35 h (by decide)

set_option maxHeartbeats 4000000 in
set_option maxRecDepth 100000 in
theorem tX10_sale {G : Gx} {σ : State} (hC : Cy G σ) (o0 : Nat) (v1 : Int) (v2 : Int) (v3 : Int) (v4 : Int) {M0 : Mm} (gv1 : rg v1) (gv2 : rg v2) (gv3 : rg v3) (gv4 : rg v4) {R : Int × Mm} (h : uX10_sale o0 v1 v2 v3 v4 M0 = some R) : Ct G σ (5) yX10_sale cX10_sale 13 (some .int) [.ref (G.2.2 + o0), .int (iv v1), .int (iv v2), .int (iv v3), .int (iv v4)] M0 0 0 (Qi R.1 R.2) := by
  refine Ct.of hC.1 (by decide +kernel) (Nat.le_of_ble_eq_true rfl) ?_
  intro p l e R0 s m args below meth c C
  show Jz G σ p l e R0 s m args below meth c 13 0 0 (Qi R.1 R.2) M0 0 0 0 [(0, .ref (G.2.2 + o0)), (1, .int (iv v1)), (2, .int (iv v2)), (3, .int (iv v3)), (4, .int (iv v4))] []
  have hb350 : ∀ (o0 : Nat) (v1 : Int) (v2 : Int) (v3 : Int) (v4 : Int) (v5 : Int) (v9 : Int) (M : Mm), (rg v1) → (rg v2) → (rg v3) → (rg v4) → (rg v5) → (rg v9) → uX10_sale_b350 o0 v1 v2 v3 v4 v5 v9 M = some R → Jz G σ p l e R0 s m args below meth c 13 0 0 (Qi R.1 R.2) M 0 0 350 [(0, .ref (G.2.2 + o0)), (1, .int (iv v1)), (2, .int (iv v2)), (3, .int (iv v3)), (4, .int (iv v4)), (5, .int (iv v5)), (9, .int (iv v9))] [] := by
    intro o0 v1 v2 v3 v4 v5 v9 M gv1 gv2 gv3 gv4 gv5 gv9 h
    unfold uX10_sale_b350 at h
    refine z_aload_n C dX10_sale_350 0 rfl ?_
    refine z_iload_n C dX10_sale_351 1 rfl ?_
    refine z_iload_n C dX10_sale_352 2 rfl ?_
    refine z_iload_n C dX10_sale_353 3 rfl ?_
    refine z_iload C dX10_sale_354 4 rfl ?_
    refine z_iload C dX10_sale_356 5 rfl ?_
    refine z_iload C dX10_sale_358 6 rfl ?_
    obtain ⟨k1, h⟩ := gK_inv h
    obtain ⟨M2, hM2, h⟩ := bnd h
    refine y_cVv (st := []) C dX10_sale_360 mX10_303 k1 (tX10_keepSale hC o0 v1 v2 v3 v4 v5 v9 gv1 gv2 gv3 gv4 gv5 gv9 hM2) rfl rfl (Nat.le_of_ble_eq_true rfl) (by decide) ?_
    refine z_iconst C dX10_sale_363 ?_
    exact y_iretB C dX10_sale_364 h (by decide)
  have hb295 : ∀ (o0 : Nat) (v1 : Int) (v2 : Int) (v3 : Int) (v4 : Int) (v5 : Int) (v9 : Int) (v10 : Int) (M : Mm), (rg v1) → (rg v2) → (rg v3) → (rg v4) → (rg v5) → (rg v9) → (rg v10) → uX10_sale_b295 o0 v1 v2 v3 v4 v5 v9 v10 M = some R → Jz G σ p l e R0 s m args below meth c 13 0 0 (Qi R.1 R.2) M 0 0 295 [(0, .ref (G.2.2 + o0)), (1, .int (iv v1)), (2, .int (iv v2)), (3, .int (iv v3)), (4, .int (iv v4)), (5, .int (iv v5)), (9, .int (iv v9)), (10, .int (iv v10))] [] := by
    intro o0 v1 v2 v3 v4 v5 v9 v10 M gv1 gv2 gv3 gv4 gv5 gv9 gv10 h
    unfold uX10_sale_b295 at h
    obtain ⟨b295, hb295_, hc295⟩ := bnd h
    have hL295 : ∀ (n : Nat) (v10 : Int) (M : Mm), (rg v10) → lp (uX10_sale_f295 o0 v1 v2 v3 v4 v5 v9) n (v10, M) = some b295 → Jz G σ p l e R0 s m args below meth c 13 0 0 (Qi R.1 R.2) M 0 0 295 [(0, .ref (G.2.2 + o0)), (1, .int (iv v1)), (2, .int (iv v2)), (3, .int (iv v3)), (4, .int (iv v4)), (5, .int (iv v5)), (9, .int (iv v9)), (10, .int (iv v10))] [] := by
      intro n; induction n with
      | zero => intro v10 M gv10 hq; exact (lp_0 hq).elim
      | succ n295 ih295 =>
        intro v10 M gv10 hq
        obtain ⟨z295, h, hZ295⟩ := lp_s hq
        have h : uX10_sale_s295 o0 v1 v2 v3 v4 v5 v9 v10 M = some z295 := h
        unfold uX10_sale_s295 at h
        refine z_iload C dX10_sale_295 7 rfl ?_
        refine z_iload C dX10_sale_297 5 rfl ?_
        refine z_icmp_ge 350 C dX10_sale_299 (by decide) gv10 gv5 (fun e3 => ?_) (fun e3 => ?_)
        ·
          have h := (if_pos e3).symm.trans h
          have h : uX10_sale_b350 o0 v1 v2 v3 v4 v5 v9 M = some R := lp_ex (K := (uX10_sale_c295 o0 v1 v2 v3 v4 v5 v9)) h hZ295 hc295
          refine z_drop (lv' := [(0, .ref (G.2.2 + o0)), (1, .int (iv v1)), (2, .int (iv v2)), (3, .int (iv v3)), (4, .int (iv v4)), (5, .int (iv v5)), (9, .int (iv v9))]) [0, 1, 2, 3, 4, 5, 6] rfl ?_
          exact hb350 o0 v1 v2 v3 v4 v5 v9 M gv1 gv2 gv3 gv4 gv5 gv9 h
        ·
          have h := (if_neg e3).symm.trans h
          refine z_aload_n C dX10_sale_302 0 rfl ?_
          refine z_aload_n C dX10_sale_303 0 rfl ?_
          obtain ⟨on4, hon4, h⟩ := bnd h
          refine y_getR C dX10_sale_304 fX10_40 rfl hon4 ?_
          refine z_iload C dX10_sale_307 7 rfl ?_
          obtain ⟨x5, hx5, h⟩ := bnd h
          refine y_iald C dX10_sale_309 hx5 (fun gx5 => ?_)
          refine z_iload_n C dX10_sale_310 2 rfl ?_
          refine z_iload_n C dX10_sale_311 3 rfl ?_
          refine z_aload_n C dX10_sale_312 0 rfl ?_
          obtain ⟨on6, hon6, h⟩ := bnd h
          refine y_getR C dX10_sale_313 fX10_13 rfl hon6 ?_
          refine z_bipush C dX10_sale_316 (by decide) ?_
          obtain ⟨x7, hx7, h⟩ := bnd h
          refine y_iald C dX10_sale_318 hx7 (fun gx7 => ?_)
          refine z_iconst C dX10_sale_319 ?_
          obtain ⟨k8, h⟩ := gK_inv h
          obtain ⟨M9, hM9, h⟩ := bnd h
          refine y_cVv (st := []) C dX10_sale_320 mX10_275 k8 (tX10_strike hC o0 x5 v2 v3 x7 0 gx5 gv2 gv3 gx7 (by decide) hM9) rfl rfl (Nat.le_of_ble_eq_true rfl) (by decide) ?_
          refine z_aload_n C dX10_sale_323 0 rfl ?_
          obtain ⟨on10, hon10, h⟩ := bnd h
          refine y_getR C dX10_sale_324 fX10_13 rfl hon10 ?_
          refine z_bipush C dX10_sale_327 (by decide) ?_
          refine z_bipush C dX10_sale_329 (by decide) ?_
          refine z_aload_n C dX10_sale_331 0 rfl ?_
          obtain ⟨on11, hon11, h⟩ := bnd h
          refine y_getR C dX10_sale_332 fX10_40 rfl hon11 ?_
          refine z_iload C dX10_sale_335 7 rfl ?_
          obtain ⟨x12, hx12, h⟩ := bnd h
          refine y_iald C dX10_sale_337 hx12 (fun gx12 => ?_)
          refine y_imul C dX10_sale_338 ?_
          refine y_iadd C dX10_sale_339 ?_
          refine z_iconst C dX10_sale_340 ?_
          refine y_iadd C dX10_sale_341 ?_
          refine z_iload_n C dX10_sale_342 2 rfl ?_
          obtain ⟨M13, hM13, h⟩ := bnd h
          refine y_iast C dX10_sale_343 hM13 ?_
          refine y_iinc (lv' := [(0, .ref (G.2.2 + o0)), (1, .int (iv v1)), (2, .int (iv v2)), (3, .int (iv v3)), (4, .int (iv v4)), (5, .int (iv v5)), (9, .int (iv v9)), (10, .int (iv (w32 (v10 + 1))))]) C dX10_sale_344 7 rfl (by decide) [1, 2, 3, 4, 5, 6, 7, 0] rfl ?_
          refine z_goto 295 C dX10_sale_347 (by decide) ?_
          exact ih295 (w32 (v10 + 1)) M13 (w32_rng _) (lp_back h hZ295)
    exact hL295 _ v10 M gv10 hb295_
  have hb268 : ∀ (o0 : Nat) (v1 : Int) (v2 : Int) (v3 : Int) (v4 : Int) (v5 : Int) (v8 : Int) (v9 : Int) (M : Mm), (rg v1) → (rg v2) → (rg v3) → (rg v4) → (rg v5) → (rg v8) → (rg v9) → uX10_sale_b268 o0 v1 v2 v3 v4 v5 v8 v9 M = some R → Jz G σ p l e R0 s m args below meth c 13 0 0 (Qi R.1 R.2) M 0 0 268 [(0, .ref (G.2.2 + o0)), (1, .int (iv v1)), (2, .int (iv v2)), (3, .int (iv v3)), (4, .int (iv v4)), (5, .int (iv v5)), (8, .int (iv v8)), (9, .int (iv v9))] [] := by
    intro o0 v1 v2 v3 v4 v5 v8 v9 M gv1 gv2 gv3 gv4 gv5 gv8 gv9 h
    unfold uX10_sale_b268 at h
    refine z_iload C dX10_sale_268 6 rfl ?_
    refine z_bipush C dX10_sale_270 (by decide) ?_
    refine z_icmp_ge 278 C dX10_sale_272 (by decide) gv8 (by decide) (fun e14 => ?_) (fun e14 => ?_)
    ·
      have h := (if_pos e14).symm.trans h
      refine z_iload C dX10_sale_278 7 rfl ?_
      refine z_iload C dX10_sale_280 4 rfl ?_
      refine z_icmp_ge 288 C dX10_sale_282 (by decide) gv9 gv4 (fun e15 => ?_) (fun e15 => ?_)
      ·
        have h := (if_pos e15).symm.trans h
        refine z_aload_n C dX10_sale_288 0 rfl ?_
        obtain ⟨k16, h⟩ := gK_inv h
        obtain ⟨M17, hM17, h⟩ := bnd h
        refine y_cVv (st := []) C dX10_sale_289 mX10_272 k16 (tX10_snap hC o0  hM17) rfl rfl (Nat.le_of_ble_eq_true rfl) (by decide) ?_
        refine z_iconst C dX10_sale_292 ?_
        refine z_istore (lv' := [(0, .ref (G.2.2 + o0)), (1, .int (iv v1)), (2, .int (iv v2)), (3, .int (iv v3)), (4, .int (iv v4)), (5, .int (iv v5)), (8, .int (iv v8)), (9, .int (iv v9)), (10, .int (iv 0))]) C dX10_sale_293 (by decide) [1, 2, 3, 4, 5, 6, 7, 8, 0] rfl ?_
        refine z_drop (lv' := [(0, .ref (G.2.2 + o0)), (1, .int (iv v1)), (2, .int (iv v2)), (3, .int (iv v3)), (4, .int (iv v4)), (5, .int (iv v5)), (9, .int (iv v9)), (10, .int (iv 0))]) [0, 1, 2, 3, 4, 5, 7, 8] rfl ?_
        exact hb295 o0 v1 v2 v3 v4 v5 v9 0 M17 gv1 gv2 gv3 gv4 gv5 gv9 (by decide) h
      ·
        have h := (if_neg e15).symm.trans h
        refine z_bipush C dX10_sale_285 (by decide) ?_
        exact y_iretB C dX10_sale_287 h (by decide)
    ·
      have h := (if_neg e14).symm.trans h
      refine z_iload C dX10_sale_275 6 rfl ?_
      exact y_iretB C dX10_sale_277 h gv8
  have hb175 : ∀ (o0 : Nat) (v1 : Int) (v2 : Int) (v3 : Int) (v4 : Int) (v5 : Int) (v8 : Int) (v9 : Int) (v10 : Int) (M : Mm), (rg v1) → (rg v2) → (rg v3) → (rg v4) → (rg v5) → (rg v8) → (rg v9) → (rg v10) → uX10_sale_b175 o0 v1 v2 v3 v4 v5 v8 v9 v10 M = some R → Jz G σ p l e R0 s m args below meth c 13 0 0 (Qi R.1 R.2) M 0 0 175 [(0, .ref (G.2.2 + o0)), (1, .int (iv v1)), (2, .int (iv v2)), (3, .int (iv v3)), (4, .int (iv v4)), (5, .int (iv v5)), (8, .int (iv v8)), (9, .int (iv v9)), (10, .int (iv v10))] [] := by
    intro o0 v1 v2 v3 v4 v5 v8 v9 v10 M gv1 gv2 gv3 gv4 gv5 gv8 gv9 gv10 h
    unfold uX10_sale_b175 at h
    obtain ⟨b175, hb175_, hc175⟩ := bnd h
    have hL175 : ∀ (n : Nat) (v8 : Int) (v9 : Int) (v10 : Int), (rg v8) → (rg v9) → (rg v10) → lp (uX10_sale_f175 o0 v1 v2 v3 v4 v5 M) n (v8, v9, v10) = some b175 → Jz G σ p l e R0 s m args below meth c 13 0 0 (Qi R.1 R.2) M 0 0 175 [(0, .ref (G.2.2 + o0)), (1, .int (iv v1)), (2, .int (iv v2)), (3, .int (iv v3)), (4, .int (iv v4)), (5, .int (iv v5)), (8, .int (iv v8)), (9, .int (iv v9)), (10, .int (iv v10))] [] := by
      intro n; induction n with
      | zero => intro v8 v9 v10 gv8 gv9 gv10 hq; exact (lp_0 hq).elim
      | succ n175 ih175 =>
        intro v8 v9 v10 gv8 gv9 gv10 hq
        obtain ⟨z175, h, hZ175⟩ := lp_s hq
        have h : uX10_sale_s175 o0 v1 v2 v3 v4 v5 M v8 v9 v10 = some z175 := h
        have hb244 : ∀ (v8 : Int) (v9 : Int) (v10 : Int) (vs0 : Int), (rg v8) → (rg v9) → (rg v10) → (rg vs0) → ∀ z175, uX10_sale_b244 o0 v1 v2 v3 v4 v5 v8 v9 v10 vs0 M = some z175 → lpc (uX10_sale_f175 o0 v1 v2 v3 v4 v5 M) n175 z175 b175 → Jz G σ p l e R0 s m args below meth c 13 0 0 (Qi R.1 R.2) M 0 0 244 [(0, .ref (G.2.2 + o0)), (1, .int (iv v1)), (2, .int (iv v2)), (3, .int (iv v3)), (4, .int (iv v4)), (5, .int (iv v5)), (8, .int (iv v8)), (9, .int (iv v9)), (10, .int (iv v10))] [.int (iv vs0)] := by
          intro v8 v9 v10 vs0  gv8 gv9 gv10 gvs0 z175 h hZ175
          unfold uX10_sale_b244 at h
          refine z_istore (lv' := [(0, .ref (G.2.2 + o0)), (1, .int (iv v1)), (2, .int (iv v2)), (3, .int (iv v3)), (4, .int (iv v4)), (5, .int (iv v5)), (8, .int (iv v8)), (9, .int (iv v9)), (10, .int (iv v10)), (12, .int (iv vs0))]) C dX10_sale_244 (by decide) [1, 2, 3, 4, 5, 6, 7, 8, 9, 0] rfl ?_
          refine z_iload C dX10_sale_246 9 rfl ?_
          refine z_if_le 262 C dX10_sale_248 (by decide) gvs0 (fun e18 => ?_) (fun e18 => ?_)
          ·
            have h := (if_pos e18).symm.trans h
            refine y_iinc (lv' := [(0, .ref (G.2.2 + o0)), (1, .int (iv v1)), (2, .int (iv v2)), (3, .int (iv v3)), (4, .int (iv v4)), (5, .int (iv v5)), (8, .int (iv v8)), (9, .int (iv v9)), (10, .int (iv (w32 (v10 + 1)))), (12, .int (iv vs0))]) C dX10_sale_262 8 rfl (by decide) [1, 2, 3, 4, 5, 6, 7, 8, 0, 9] rfl ?_
            refine z_goto 175 C dX10_sale_265 (by decide) ?_
            refine z_drop (lv' := [(0, .ref (G.2.2 + o0)), (1, .int (iv v1)), (2, .int (iv v2)), (3, .int (iv v3)), (4, .int (iv v4)), (5, .int (iv v5)), (8, .int (iv v8)), (9, .int (iv v9)), (10, .int (iv (w32 (v10 + 1))))]) [0, 1, 2, 3, 4, 5, 6, 7, 8] rfl ?_
            exact ih175 v8 v9 (w32 (v10 + 1)) gv8 gv9 (w32_rng _) (lp_back h hZ175)
          ·
            have h := (if_neg e18).symm.trans h
            refine z_iload C dX10_sale_251 9 rfl ?_
            refine z_iload C dX10_sale_253 6 rfl ?_
            refine z_icmp_ge 262 C dX10_sale_255 (by decide) gvs0 gv8 (fun e19 => ?_) (fun e19 => ?_)
            ·
              have h := (if_pos e19).symm.trans h
              refine y_iinc (lv' := [(0, .ref (G.2.2 + o0)), (1, .int (iv v1)), (2, .int (iv v2)), (3, .int (iv v3)), (4, .int (iv v4)), (5, .int (iv v5)), (8, .int (iv v8)), (9, .int (iv v9)), (10, .int (iv (w32 (v10 + 1)))), (12, .int (iv vs0))]) C dX10_sale_262 8 rfl (by decide) [1, 2, 3, 4, 5, 6, 7, 8, 0, 9] rfl ?_
              refine z_goto 175 C dX10_sale_265 (by decide) ?_
              refine z_drop (lv' := [(0, .ref (G.2.2 + o0)), (1, .int (iv v1)), (2, .int (iv v2)), (3, .int (iv v3)), (4, .int (iv v4)), (5, .int (iv v5)), (8, .int (iv v8)), (9, .int (iv v9)), (10, .int (iv (w32 (v10 + 1))))]) [0, 1, 2, 3, 4, 5, 6, 7, 8] rfl ?_
              exact ih175 v8 v9 (w32 (v10 + 1)) gv8 gv9 (w32_rng _) (lp_back h hZ175)
            ·
              have h := (if_neg e19).symm.trans h
              refine z_iload C dX10_sale_258 9 rfl ?_
              refine z_istore (lv' := [(0, .ref (G.2.2 + o0)), (1, .int (iv v1)), (2, .int (iv v2)), (3, .int (iv v3)), (4, .int (iv v4)), (5, .int (iv v5)), (8, .int (iv vs0)), (9, .int (iv v9)), (10, .int (iv v10)), (12, .int (iv vs0))]) C dX10_sale_260 (by decide) [1, 2, 3, 4, 5, 6, 0, 7, 8, 9] rfl ?_
              refine y_iinc (lv' := [(0, .ref (G.2.2 + o0)), (1, .int (iv v1)), (2, .int (iv v2)), (3, .int (iv v3)), (4, .int (iv v4)), (5, .int (iv v5)), (8, .int (iv vs0)), (9, .int (iv v9)), (10, .int (iv (w32 (v10 + 1)))), (12, .int (iv vs0))]) C dX10_sale_262 8 rfl (by decide) [1, 2, 3, 4, 5, 6, 7, 8, 0, 9] rfl ?_
              refine z_goto 175 C dX10_sale_265 (by decide) ?_
              refine z_drop (lv' := [(0, .ref (G.2.2 + o0)), (1, .int (iv v1)), (2, .int (iv v2)), (3, .int (iv v3)), (4, .int (iv v4)), (5, .int (iv v5)), (8, .int (iv vs0)), (9, .int (iv v9)), (10, .int (iv (w32 (v10 + 1))))]) [0, 1, 2, 3, 4, 5, 6, 7, 8] rfl ?_
              exact ih175 vs0 v9 (w32 (v10 + 1)) gvs0 gv9 (w32_rng _) (lp_back h hZ175)
        unfold uX10_sale_s175 at h
        refine z_iload C dX10_sale_175 8 rfl ?_
        refine z_iload C dX10_sale_177 5 rfl ?_
        refine z_icmp_ge 268 C dX10_sale_179 (by decide) gv10 gv5 (fun e20 => ?_) (fun e20 => ?_)
        ·
          have h := (if_pos e20).symm.trans h
          have h : uX10_sale_b268 o0 v1 v2 v3 v4 v5 v8 v9 M = some R := lp_ex (K := (uX10_sale_c175 o0 v1 v2 v3 v4 v5 M)) h hZ175 hc175
          refine z_drop (lv' := [(0, .ref (G.2.2 + o0)), (1, .int (iv v1)), (2, .int (iv v2)), (3, .int (iv v3)), (4, .int (iv v4)), (5, .int (iv v5)), (8, .int (iv v8)), (9, .int (iv v9))]) [0, 1, 2, 3, 4, 5, 6, 7] rfl ?_
          exact hb268 o0 v1 v2 v3 v4 v5 v8 v9 M gv1 gv2 gv3 gv4 gv5 gv8 gv9 h
        ·
          have h := (if_neg e20).symm.trans h
          refine z_aload_n C dX10_sale_182 0 rfl ?_
          refine z_iload_n C dX10_sale_183 2 rfl ?_
          refine z_aload_n C dX10_sale_184 0 rfl ?_
          obtain ⟨on21, hon21, h⟩ := bnd h
          refine y_getR C dX10_sale_185 fX10_40 rfl hon21 ?_
          refine z_iload C dX10_sale_188 8 rfl ?_
          obtain ⟨x22, hx22, h⟩ := bnd h
          refine y_iald C dX10_sale_190 hx22 (fun gx22 => ?_)
          obtain ⟨k23, h⟩ := gK_inv h
          obtain ⟨r24, hr24, h⟩ := bnd h
          refine y_cVi (st := []) C dX10_sale_191 mX10_294 k23 (tX10_valueOf hC o0 v2 x22 gv2 gx22 hr24) rfl rfl (Nat.le_of_ble_eq_true rfl) (by decide) (fun gr24 => ?_)
          refine z_istore (lv' := [(0, .ref (G.2.2 + o0)), (1, .int (iv v1)), (2, .int (iv v2)), (3, .int (iv v3)), (4, .int (iv v4)), (5, .int (iv v5)), (8, .int (iv v8)), (9, .int (iv v9)), (10, .int (iv v10)), (11, .int (iv r24))]) C dX10_sale_194 (by decide) [1, 2, 3, 4, 5, 6, 7, 8, 9, 0] rfl ?_
          refine z_iload C dX10_sale_196 7 rfl ?_
          refine z_iload C dX10_sale_198 9 rfl ?_
          refine y_iadd C dX10_sale_200 ?_
          refine z_istore (lv' := [(0, .ref (G.2.2 + o0)), (1, .int (iv v1)), (2, .int (iv v2)), (3, .int (iv v3)), (4, .int (iv v4)), (5, .int (iv v5)), (8, .int (iv v8)), (9, .int (iv (w32 (v9 + r24)))), (10, .int (iv v10)), (11, .int (iv r24))]) C dX10_sale_201 (by decide) [1, 2, 3, 4, 5, 6, 7, 0, 8, 9] rfl ?_
          refine z_aload_n C dX10_sale_203 0 rfl ?_
          refine z_aload_n C dX10_sale_204 0 rfl ?_
          obtain ⟨on25, hon25, h⟩ := bnd h
          refine y_getR C dX10_sale_205 fX10_40 rfl hon25 ?_
          refine z_iload C dX10_sale_208 8 rfl ?_
          obtain ⟨x26, hx26, h⟩ := bnd h
          refine y_iald C dX10_sale_210 hx26 (fun gx26 => ?_)
          refine z_iconst C dX10_sale_211 ?_
          obtain ⟨k27, h⟩ := gK_inv h
          obtain ⟨r28, hr28, h⟩ := bnd h
          refine y_cVi (st := []) C dX10_sale_212 mX10_256 k27 (tX10_ofCoin hC o0 x26 1 gx26 (by decide) hr28) rfl rfl (Nat.le_of_ble_eq_true rfl) (by decide) (fun gr28 => ?_)
          refine z_iload_n C dX10_sale_215 1 rfl ?_
          refine z_icmp_eq 223 C dX10_sale_216 (by decide) gr28 gv1 (fun e29 => ?_) (fun e29 => ?_)
          ·
            have h := (if_pos e29).symm.trans h
            refine z_iload C dX10_sale_223 9 rfl ?_
            refine z_if_ne 232 C dX10_sale_225 (by decide) gr24 (fun e30 => ?_) (fun e30 => ?_)
            ·
              have h := (if_neg e30).symm.trans h
              refine z_aload_n C dX10_sale_232 0 rfl ?_
              refine z_aload_n C dX10_sale_233 0 rfl ?_
              obtain ⟨on31, hon31, h⟩ := bnd h
              refine y_getR C dX10_sale_234 fX10_40 rfl hon31 ?_
              refine z_iload C dX10_sale_237 8 rfl ?_
              obtain ⟨x32, hx32, h⟩ := bnd h
              refine y_iald C dX10_sale_239 hx32 (fun gx32 => ?_)
              refine z_iload_n C dX10_sale_240 3 rfl ?_
              obtain ⟨k33, h⟩ := gK_inv h
              obtain ⟨r34, hr34, h⟩ := bnd h
              refine y_cVi (st := []) C dX10_sale_241 mX10_300 k33 (tX10_wrongAt hC o0 x32 v3 gx32 gv3 hr34) rfl rfl (Nat.le_of_ble_eq_true rfl) (by decide) (fun gr34 => ?_)
              refine z_drop (lv' := [(0, .ref (G.2.2 + o0)), (1, .int (iv v1)), (2, .int (iv v2)), (3, .int (iv v3)), (4, .int (iv v4)), (5, .int (iv v5)), (8, .int (iv v8)), (9, .int (iv (w32 (v9 + r24)))), (10, .int (iv v10))]) [0, 1, 2, 3, 4, 5, 6, 7, 8] rfl ?_
              exact hb244 v8 (w32 (v9 + r24)) v10 r34  gv8 (w32_rng _) gv10 gr34 _ h hZ175
            ·
              have h := (if_pos e30).symm.trans h
              refine z_iconst C dX10_sale_228 ?_
              refine z_goto 244 C dX10_sale_229 (by decide) ?_
              refine z_drop (lv' := [(0, .ref (G.2.2 + o0)), (1, .int (iv v1)), (2, .int (iv v2)), (3, .int (iv v3)), (4, .int (iv v4)), (5, .int (iv v5)), (8, .int (iv v8)), (9, .int (iv (w32 (v9 + r24)))), (10, .int (iv v10))]) [0, 1, 2, 3, 4, 5, 6, 7, 8] rfl ?_
              exact hb244 v8 (w32 (v9 + r24)) v10 3  gv8 (w32_rng _) gv10 (by decide) _ h hZ175
          ·
            have h := (if_neg e29).symm.trans h
            refine z_iconst C dX10_sale_219 ?_
            refine z_goto 244 C dX10_sale_220 (by decide) ?_
            refine z_drop (lv' := [(0, .ref (G.2.2 + o0)), (1, .int (iv v1)), (2, .int (iv v2)), (3, .int (iv v3)), (4, .int (iv v4)), (5, .int (iv v5)), (8, .int (iv v8)), (9, .int (iv (w32 (v9 + r24)))), (10, .int (iv v10))]) [0, 1, 2, 3, 4, 5, 6, 7, 8] rfl ?_
            exact hb244 v8 (w32 (v9 + r24)) v10 2  gv8 (w32_rng _) gv10 (by decide) _ h hZ175
    exact hL175 _ v8 v9 v10 gv8 gv9 gv10 hb175_
  have hb154 : ∀ (o0 : Nat) (v1 : Int) (v2 : Int) (v3 : Int) (v4 : Int) (v5 : Int) (M : Mm), (rg v1) → (rg v2) → (rg v3) → (rg v4) → (rg v5) → uX10_sale_b154 o0 v1 v2 v3 v4 v5 M = some R → Jz G σ p l e R0 s m args below meth c 13 0 0 (Qi R.1 R.2) M 0 0 154 [(0, .ref (G.2.2 + o0)), (1, .int (iv v1)), (2, .int (iv v2)), (3, .int (iv v3)), (4, .int (iv v4)), (5, .int (iv v5))] [] := by
    intro o0 v1 v2 v3 v4 v5 M gv1 gv2 gv3 gv4 gv5 h
    unfold uX10_sale_b154 at h
    refine z_aload_n C dX10_sale_154 0 rfl ?_
    refine z_iload_n C dX10_sale_155 1 rfl ?_
    refine z_iload_n C dX10_sale_156 2 rfl ?_
    obtain ⟨k35, h⟩ := gK_inv h
    obtain ⟨r36, hr36, h⟩ := bnd h
    refine y_cVb (st := []) C dX10_sale_157 mX10_297 k35 (tX10_areUnfit hC o0 v1 v2 gv1 gv2 hr36) rfl rfl (Nat.le_of_ble_eq_true rfl) (by decide) (fun br36 => ?_)
    refine z_if_eq 165 C dX10_sale_160 (by decide) (rg01 br36) (fun e37 => ?_) (fun e37 => ?_)
    ·
      have h := (if_pos e37).symm.trans h
      refine z_bipush C dX10_sale_165 (by decide) ?_
      refine z_istore (lv' := [(0, .ref (G.2.2 + o0)), (1, .int (iv v1)), (2, .int (iv v2)), (3, .int (iv v3)), (4, .int (iv v4)), (5, .int (iv v5)), (8, .int (iv 8))]) C dX10_sale_167 (by decide) [1, 2, 3, 4, 5, 6, 0] rfl ?_
      refine z_iconst C dX10_sale_169 ?_
      refine z_istore (lv' := [(0, .ref (G.2.2 + o0)), (1, .int (iv v1)), (2, .int (iv v2)), (3, .int (iv v3)), (4, .int (iv v4)), (5, .int (iv v5)), (8, .int (iv 8)), (9, .int (iv 0))]) C dX10_sale_170 (by decide) [1, 2, 3, 4, 5, 6, 7, 0] rfl ?_
      refine z_iconst C dX10_sale_172 ?_
      refine z_istore (lv' := [(0, .ref (G.2.2 + o0)), (1, .int (iv v1)), (2, .int (iv v2)), (3, .int (iv v3)), (4, .int (iv v4)), (5, .int (iv v5)), (8, .int (iv 8)), (9, .int (iv 0)), (10, .int (iv 0))]) C dX10_sale_173 (by decide) [1, 2, 3, 4, 5, 6, 7, 8, 0] rfl ?_
      exact hb175 o0 v1 v2 v3 v4 v5 8 0 0 M gv1 gv2 gv3 gv4 gv5 (by decide) (by decide) (by decide) h
    ·
      have h := (if_neg e37).symm.trans h
      refine z_iconst C dX10_sale_163 ?_
      exact y_iretB C dX10_sale_164 h (by decide)
  have hb80 : ∀ (o0 : Nat) (v1 : Int) (v2 : Int) (v3 : Int) (v4 : Int) (v5 : Int) (v6 : Int) (v8 : Int) (M : Mm), (rg v1) → (rg v2) → (rg v3) → (rg v4) → (rg v5) → (rl v6) → (rg v8) → uX10_sale_b80 o0 v1 v2 v3 v4 v5 v6 v8 M = some R → Jz G σ p l e R0 s m args below meth c 13 0 0 (Qi R.1 R.2) M 0 0 80 [(0, .ref (G.2.2 + o0)), (1, .int (iv v1)), (2, .int (iv v2)), (3, .int (iv v3)), (4, .int (iv v4)), (5, .int (iv v5)), (6, .long (jv v6)), (8, .int (iv v8))] [] := by
    intro o0 v1 v2 v3 v4 v5 v6 v8 M gv1 gv2 gv3 gv4 gv5 gv6 gv8 h
    unfold uX10_sale_b80 at h
    obtain ⟨b80, hb80_, hc80⟩ := bnd h
    have hL80 : ∀ (n : Nat) (v6 : Int) (v8 : Int) (M : Mm), (rl v6) → (rg v8) → lp (uX10_sale_f80 o0 v1 v2 v3 v4 v5) n (v6, v8, M) = some b80 → Jz G σ p l e R0 s m args below meth c 13 0 0 (Qi R.1 R.2) M 0 0 80 [(0, .ref (G.2.2 + o0)), (1, .int (iv v1)), (2, .int (iv v2)), (3, .int (iv v3)), (4, .int (iv v4)), (5, .int (iv v5)), (6, .long (jv v6)), (8, .int (iv v8))] [] := by
      intro n; induction n with
      | zero => intro v6 v8 M gv6 gv8 hq; exact (lp_0 hq).elim
      | succ n80 ih80 =>
        intro v6 v8 M gv6 gv8 hq
        obtain ⟨z80, h, hZ80⟩ := lp_s hq
        have h : uX10_sale_s80 o0 v1 v2 v3 v4 v5 v6 v8 M = some z80 := h
        unfold uX10_sale_s80 at h
        refine z_iload C dX10_sale_80 7 rfl ?_
        refine z_iload C dX10_sale_82 5 rfl ?_
        refine z_icmp_ge 154 C dX10_sale_84 (by decide) gv8 gv5 (fun e38 => ?_) (fun e38 => ?_)
        ·
          have h := (if_pos e38).symm.trans h
          have h : uX10_sale_b154 o0 v1 v2 v3 v4 v5 M = some R := lp_ex (K := (uX10_sale_c80 o0 v1 v2 v3 v4 v5)) h hZ80 hc80
          refine z_drop (lv' := [(0, .ref (G.2.2 + o0)), (1, .int (iv v1)), (2, .int (iv v2)), (3, .int (iv v3)), (4, .int (iv v4)), (5, .int (iv v5))]) [0, 1, 2, 3, 4, 5] rfl ?_
          exact hb154 o0 v1 v2 v3 v4 v5 M gv1 gv2 gv3 gv4 gv5 h
        ·
          have h := (if_neg e38).symm.trans h
          refine z_aload_n C dX10_sale_87 0 rfl ?_
          obtain ⟨on39, hon39, h⟩ := bnd h
          refine y_getR C dX10_sale_88 fX10_40 rfl hon39 ?_
          refine z_iload C dX10_sale_91 7 rfl ?_
          refine z_aload_n C dX10_sale_93 0 rfl ?_
          obtain ⟨on40, hon40, h⟩ := bnd h
          refine y_getR C dX10_sale_94 fX10_7 rfl hon40 ?_
          refine z_iload C dX10_sale_97 7 rfl ?_
          obtain ⟨x41, hx41, h⟩ := bnd h
          refine y_iald C dX10_sale_99 hx41 (fun gx41 => ?_)
          obtain ⟨M42, hM42, h⟩ := bnd h
          refine y_iast C dX10_sale_100 hM42 ?_
          refine z_aload_n C dX10_sale_101 0 rfl ?_
          refine z_aload_n C dX10_sale_102 0 rfl ?_
          obtain ⟨on43, hon43, h⟩ := bnd h
          refine y_getR C dX10_sale_103 fX10_40 rfl hon43 ?_
          refine z_iload C dX10_sale_106 7 rfl ?_
          obtain ⟨x44, hx44, h⟩ := bnd h
          refine y_iald C dX10_sale_108 hx44 (fun gx44 => ?_)
          obtain ⟨k45, h⟩ := gK_inv h
          obtain ⟨r46, hr46, h⟩ := bnd h
          refine y_cVb (st := []) C dX10_sale_109 mX10_282 k45 (tX10_isCoin hC o0 x44 gx44 hr46) rfl rfl (Nat.le_of_ble_eq_true rfl) (by decide) (fun br46 => ?_)
          refine z_if_eq 132 C dX10_sale_112 (by decide) (rg01 br46) (fun e47 => ?_) (fun e47 => ?_)
          ·
            have h := (if_pos e47).symm.trans h
            refine z_iconst C dX10_sale_132 ?_
            have h := lp_ret (K := (uX10_sale_c80 o0 v1 v2 v3 v4 v5)) h hZ80 hc80
            exact y_iretB C dX10_sale_133 h (by decide)
          ·
            have h := (if_neg e47).symm.trans h
            refine z_lload C dX10_sale_115 6 rfl ?_
            refine z_aload_n C dX10_sale_117 0 rfl ?_
            obtain ⟨on48, hon48, h⟩ := bnd h
            refine y_getR C dX10_sale_118 fX10_40 rfl hon48 ?_
            refine z_iload C dX10_sale_121 7 rfl ?_
            obtain ⟨x49, hx49, h⟩ := bnd h
            refine y_iald C dX10_sale_123 hx49 (fun gx49 => ?_)
            refine z_lshr (shr64 v6 x49) C dX10_sale_124 (jv_self _).symm ?_
            refine z_lconst (v := 1) C dX10_sale_125 (by decide) ?_
            refine z_land (and64 (shr64 v6 x49) 1) C dX10_sale_126 (jv_self _).symm ?_
            refine z_lconst (v := 1) C dX10_sale_127 (by decide) ?_
            refine z_lcmp (cmpI (and64 (shr64 v6 x49) 1) 1) C dX10_sale_128 (lcmp_jv (and64_rng _ _) (by decide)) ?_
            refine z_if_ne_c 134 C dX10_sale_129 (by decide) (fun e50 => ?_) (fun e50 => ?_)
            ·
              have h := (if_neg e50).symm.trans h
              refine z_lload C dX10_sale_134 6 rfl ?_
              refine z_lconst (v := 1) C dX10_sale_136 (by decide) ?_
              refine z_aload_n C dX10_sale_137 0 rfl ?_
              obtain ⟨on51, hon51, h⟩ := bnd h
              refine y_getR C dX10_sale_138 fX10_40 rfl hon51 ?_
              refine z_iload C dX10_sale_141 7 rfl ?_
              obtain ⟨x52, hx52, h⟩ := bnd h
              refine y_iald C dX10_sale_143 hx52 (fun gx52 => ?_)
              refine z_lshl (shl64 1 x52) C dX10_sale_144 (jv_self _).symm ?_
              refine z_lor (or64 v6 (shl64 1 x52)) C dX10_sale_145 (jv_self _).symm ?_
              refine z_lstore (lv' := [(0, .ref (G.2.2 + o0)), (1, .int (iv v1)), (2, .int (iv v2)), (3, .int (iv v3)), (4, .int (iv v4)), (5, .int (iv v5)), (6, .long (jv (or64 v6 (shl64 1 x52)))), (8, .int (iv v8))]) C dX10_sale_146 (by decide) [1, 2, 3, 4, 5, 6, 0, 7] rfl ?_
              refine y_iinc (lv' := [(0, .ref (G.2.2 + o0)), (1, .int (iv v1)), (2, .int (iv v2)), (3, .int (iv v3)), (4, .int (iv v4)), (5, .int (iv v5)), (6, .long (jv (or64 v6 (shl64 1 x52)))), (8, .int (iv (w32 (v8 + 1))))]) C dX10_sale_148 7 rfl (by decide) [1, 2, 3, 4, 5, 6, 7, 0] rfl ?_
              refine z_goto 80 C dX10_sale_151 (by decide) ?_
              exact ih80 (or64 v6 (shl64 1 x52)) (w32 (v8 + 1)) M42 (or64_rng _ _) (w32_rng _) (lp_back h hZ80)
            ·
              have h := (if_pos e50).symm.trans h
              refine z_iconst C dX10_sale_132 ?_
              have h := lp_ret (K := (uX10_sale_c80 o0 v1 v2 v3 v4 v5)) h hZ80 hc80
              exact y_iretB C dX10_sale_133 h (by decide)
    exact hL80 _ v6 v8 M gv6 gv8 hb80_
  unfold uX10_sale at h
  refine z_aload_n C dX10_sale_0 0 rfl ?_
  refine z_iconst C dX10_sale_1 ?_
  obtain ⟨M53, hM53, h⟩ := bnd h
  refine y_putI C dX10_sale_2 fX10_83 rfl rfl rfl rfl hM53 ?_
  refine z_aload_n C dX10_sale_5 0 rfl ?_
  obtain ⟨k54, h⟩ := gK_inv h
  obtain ⟨M55, hM55, h⟩ := bnd h
  refine y_cVv (st := []) C dX10_sale_6 mX10_167 k54 (tX10_lay hC o0  hM55) rfl rfl (Nat.le_of_ble_eq_true rfl) (by decide) ?_
  refine z_aload_n C dX10_sale_9 0 rfl ?_
  obtain ⟨k56, h⟩ := gK_inv h
  obtain ⟨r57, M58, hr57, h⟩ := bnd2 h
  refine y_cVi (st := []) C dX10_sale_10 mX10_170 k56 (tX10_take hC o0  hr57) rfl rfl (Nat.le_of_ble_eq_true rfl) (by decide) (fun gr57 => ?_)
  refine z_istore (lv' := [(0, .ref (G.2.2 + o0)), (1, .int (iv v1)), (2, .int (iv v2)), (3, .int (iv v3)), (4, .int (iv v4)), (5, .int (iv r57))]) C dX10_sale_13 (by decide) [1, 2, 3, 4, 5, 0] rfl ?_
  refine z_aload_n C dX10_sale_15 0 rfl ?_
  refine z_iload_n C dX10_sale_16 1 rfl ?_
  obtain ⟨k59, h⟩ := gK_inv h
  obtain ⟨r60, hr60, h⟩ := bnd h
  refine y_cVb (st := []) C dX10_sale_17 mX10_243 k59 (tX10_isWho hC o0 v1 gv1 hr60) rfl rfl (Nat.le_of_ble_eq_true rfl) (by decide) (fun br60 => ?_)
  refine z_if_eq 72 C dX10_sale_20 (by decide) (rg01 br60) (fun e61 => ?_) (fun e61 => ?_)
  ·
    have h := (if_pos e61).symm.trans h
    refine z_iconst C dX10_sale_72 ?_
    exact y_iretB C dX10_sale_73 h (by decide)
  ·
    have h := (if_neg e61).symm.trans h
    refine z_aload_n C dX10_sale_23 0 rfl ?_
    refine z_iload_n C dX10_sale_24 2 rfl ?_
    obtain ⟨k62, h⟩ := gK_inv h
    obtain ⟨r63, hr63, h⟩ := bnd h
    refine y_cVb (st := []) C dX10_sale_25 mX10_243 k62 (tX10_isWho hC o0 v2 gv2 hr63) rfl rfl (Nat.le_of_ble_eq_true rfl) (by decide) (fun br63 => ?_)
    refine z_if_eq 72 C dX10_sale_28 (by decide) (rg01 br63) (fun e64 => ?_) (fun e64 => ?_)
    ·
      have h := (if_pos e64).symm.trans h
      refine z_iconst C dX10_sale_72 ?_
      exact y_iretB C dX10_sale_73 h (by decide)
    ·
      have h := (if_neg e64).symm.trans h
      refine z_aload_n C dX10_sale_31 0 rfl ?_
      refine z_iload_n C dX10_sale_32 3 rfl ?_
      obtain ⟨k65, h⟩ := gK_inv h
      obtain ⟨r66, hr66, h⟩ := bnd h
      refine y_cVb (st := []) C dX10_sale_33 mX10_259 k65 (tX10_isMint hC o0 v3 gv3 hr66) rfl rfl (Nat.le_of_ble_eq_true rfl) (by decide) (fun br66 => ?_)
      refine z_if_eq 72 C dX10_sale_36 (by decide) (rg01 br66) (fun e67 => ?_) (fun e67 => ?_)
      ·
        have h := (if_pos e67).symm.trans h
        refine z_iconst C dX10_sale_72 ?_
        exact y_iretB C dX10_sale_73 h (by decide)
      ·
        have h := (if_neg e67).symm.trans h
        refine z_iload C dX10_sale_39 4 rfl ?_
        refine z_iconst C dX10_sale_41 ?_
        refine z_sipush C dX10_sale_42 (by decide) ?_
        obtain ⟨r68, hr68, h⟩ := bnd h
        refine y_cSb (st := []) C dX10_sale_45 mX10_154 (tX10_isIn hC v4 1 9999 gv4 (by decide) (by decide) hr68) rfl rfl (Nat.le_of_ble_eq_true rfl) (by decide) (fun br68 => ?_)
        refine z_if_eq 72 C dX10_sale_48 (by decide) (rg01 br68) (fun e69 => ?_) (fun e69 => ?_)
        ·
          have h := (if_pos e69).symm.trans h
          refine z_iconst C dX10_sale_72 ?_
          exact y_iretB C dX10_sale_73 h (by decide)
        ·
          have h := (if_neg e69).symm.trans h
          refine z_iload C dX10_sale_51 5 rfl ?_
          refine z_if_eq 72 C dX10_sale_53 (by decide) gr57 (fun e70 => ?_) (fun e70 => ?_)
          ·
            have h := (if_pos e70).symm.trans h
            refine z_iconst C dX10_sale_72 ?_
            exact y_iretB C dX10_sale_73 h (by decide)
          ·
            have h := (if_neg e70).symm.trans h
            refine z_iload C dX10_sale_56 5 rfl ?_
            refine z_bipush C dX10_sale_58 (by decide) ?_
            refine z_icmp_gt 72 C dX10_sale_60 (by decide) gr57 (by decide) (fun e71 => ?_) (fun e71 => ?_)
            ·
              have h := (if_pos e71).symm.trans h
              refine z_iconst C dX10_sale_72 ?_
              exact y_iretB C dX10_sale_73 h (by decide)
            ·
              have h := (if_neg e71).symm.trans h
              refine z_aload_n C dX10_sale_63 0 rfl ?_
              refine z_iload C dX10_sale_64 5 rfl ?_
              obtain ⟨k72, h⟩ := gK_inv h
              obtain ⟨r73, hr73, h⟩ := bnd h
              refine y_cVb (st := []) C dX10_sale_66 mX10_269 k72 (tX10_isFull hC o0 r57 gr57 hr73) rfl rfl (Nat.le_of_ble_eq_true rfl) (by decide) (fun br73 => ?_)
              refine z_if_eq 74 C dX10_sale_69 (by decide) (rg01 br73) (fun e74 => ?_) (fun e74 => ?_)
              ·
                have h := (if_pos e74).symm.trans h
                refine z_lconst (v := 0) C dX10_sale_74 (by decide) ?_
                refine z_lstore (lv' := [(0, .ref (G.2.2 + o0)), (1, .int (iv v1)), (2, .int (iv v2)), (3, .int (iv v3)), (4, .int (iv v4)), (5, .int (iv r57)), (6, .long (jv 0))]) C dX10_sale_75 (by decide) [1, 2, 3, 4, 5, 6, 0] rfl ?_
                refine z_iconst C dX10_sale_77 ?_
                refine z_istore (lv' := [(0, .ref (G.2.2 + o0)), (1, .int (iv v1)), (2, .int (iv v2)), (3, .int (iv v3)), (4, .int (iv v4)), (5, .int (iv r57)), (6, .long (jv 0)), (8, .int (iv 0))]) C dX10_sale_78 (by decide) [1, 2, 3, 4, 5, 6, 7, 0] rfl ?_
                exact hb80 o0 v1 v2 v3 v4 r57 0 0 M58 gv1 gv2 gv3 gv4 gr57 (by decide) (by decide) h
              ·
                have h := (if_neg e74).symm.trans h
                refine z_iconst C dX10_sale_72 ?_
                exact y_iretB C dX10_sale_73 h (by decide)

set_option maxHeartbeats 4000000 in
set_option maxRecDepth 100000 in
theorem tX10_payment {G : Gx} {σ : State} (hC : Cy G σ) (o0 : Nat) (v1 : Int) (v2 : Int) (v3 : Int) (v4 : Int) {M0 : Mm} (gv1 : rg v1) (gv2 : rg v2) (gv3 : rg v3) (gv4 : rg v4) {R : Int × Mm} (h : uX10_payment o0 v1 v2 v3 v4 M0 = some R) : Ct G σ (5) yX10_payment cX10_payment 6 (some .int) [.ref (G.2.2 + o0), .int (iv v1), .int (iv v2), .int (iv v3), .int (iv v4)] M0 0 0 (Qi R.1 R.2) := by
  refine Ct.of hC.1 (by decide +kernel) (Nat.le_of_ble_eq_true rfl) ?_
  intro p l e R0 s m args below meth c C
  show Jz G σ p l e R0 s m args below meth c 6 0 0 (Qi R.1 R.2) M0 0 0 0 [(0, .ref (G.2.2 + o0)), (1, .int (iv v1)), (2, .int (iv v2)), (3, .int (iv v3)), (4, .int (iv v4))] []
  unfold uX10_payment at h
  refine z_aload_n C dX10_payment_0 0 rfl ?_
  refine z_iconst C dX10_payment_1 ?_
  obtain ⟨M1, hM1, h⟩ := bnd h
  refine y_putI C dX10_payment_2 fX10_83 rfl rfl rfl rfl hM1 ?_
  refine z_aload_n C dX10_payment_5 0 rfl ?_
  obtain ⟨k2, h⟩ := gK_inv h
  obtain ⟨M3, hM3, h⟩ := bnd h
  refine y_cVv (st := []) C dX10_payment_6 mX10_167 k2 (tX10_lay hC o0  hM3) rfl rfl (Nat.le_of_ble_eq_true rfl) (by decide) ?_
  refine z_aload_n C dX10_payment_9 0 rfl ?_
  refine z_iload_n C dX10_payment_10 1 rfl ?_
  refine z_iload_n C dX10_payment_11 2 rfl ?_
  refine z_iload_n C dX10_payment_12 3 rfl ?_
  refine z_iload C dX10_payment_13 4 rfl ?_
  obtain ⟨k4, h⟩ := gK_inv h
  obtain ⟨r5, M6, hr5, h⟩ := bnd2 h
  refine y_cVi (st := []) C dX10_payment_15 mX10_321 k4 (tX10_layPayment hC o0 v1 v2 v3 v4 gv1 gv2 gv3 gv4 hr5) rfl rfl (Nat.le_of_ble_eq_true rfl) (by decide) (fun gr5 => ?_)
  refine z_istore (lv' := [(0, .ref (G.2.2 + o0)), (1, .int (iv v1)), (2, .int (iv v2)), (3, .int (iv v3)), (4, .int (iv v4)), (5, .int (iv r5))]) C dX10_payment_18 (by decide) [1, 2, 3, 4, 5, 0] rfl ?_
  refine z_iload C dX10_payment_20 5 rfl ?_
  refine z_if_lt 29 C dX10_payment_22 (by decide) gr5 (fun e7 => ?_) (fun e7 => ?_)
  ·
    have h := (if_pos e7).symm.trans h
    refine z_iload C dX10_payment_29 5 rfl ?_
    exact y_iretB C dX10_payment_31 h gr5
  ·
    have h := (if_neg e7).symm.trans h
    refine z_aload_n C dX10_payment_25 0 rfl ?_
    obtain ⟨k8, h⟩ := gK_inv h
    obtain ⟨M9, hM9, h⟩ := bnd h
    refine y_cVv (st := []) C dX10_payment_26 mX10_325 k8 (tX10_tellPaid hC o0  hM9) rfl rfl (Nat.le_of_ble_eq_true rfl) (by decide) ?_
    refine z_iload C dX10_payment_29 5 rfl ?_
    exact y_iretB C dX10_payment_31 h gr5

set_option maxHeartbeats 4000000 in
set_option maxRecDepth 100000 in
theorem tX10_buy {G : Gx} {σ : State} (hC : Cy G σ) (o0 : Nat) (v1 : Int) (v2 : Int) (v3 : Int) (v4 : Int) {M0 : Mm} (gv1 : rg v1) (gv2 : rg v2) (gv3 : rg v3) (gv4 : rg v4) {R : Int × Mm} (h : uX10_buy o0 v1 v2 v3 v4 M0 = some R) : Ct G σ (5) yX10_buy cX10_buy 6 (some .int) [.ref (G.2.2 + o0), .int (iv v1), .int (iv v2), .int (iv v3), .int (iv v4)] M0 0 0 (Qi R.1 R.2) := by
  refine Ct.of hC.1 (by decide +kernel) (Nat.le_of_ble_eq_true rfl) ?_
  intro p l e R0 s m args below meth c C
  show Jz G σ p l e R0 s m args below meth c 6 0 0 (Qi R.1 R.2) M0 0 0 0 [(0, .ref (G.2.2 + o0)), (1, .int (iv v1)), (2, .int (iv v2)), (3, .int (iv v3)), (4, .int (iv v4))] []
  unfold uX10_buy at h
  refine z_aload_n C dX10_buy_0 0 rfl ?_
  refine z_iconst C dX10_buy_1 ?_
  obtain ⟨M1, hM1, h⟩ := bnd h
  refine y_putI C dX10_buy_2 fX10_83 rfl rfl rfl rfl hM1 ?_
  refine z_aload_n C dX10_buy_5 0 rfl ?_
  obtain ⟨k2, h⟩ := gK_inv h
  obtain ⟨M3, hM3, h⟩ := bnd h
  refine y_cVv (st := []) C dX10_buy_6 mX10_167 k2 (tX10_lay hC o0  hM3) rfl rfl (Nat.le_of_ble_eq_true rfl) (by decide) ?_
  refine z_aload_n C dX10_buy_9 0 rfl ?_
  refine z_iload_n C dX10_buy_10 1 rfl ?_
  refine z_iload_n C dX10_buy_11 2 rfl ?_
  refine z_iload_n C dX10_buy_12 3 rfl ?_
  refine z_iload C dX10_buy_13 4 rfl ?_
  obtain ⟨k4, h⟩ := gK_inv h
  obtain ⟨r5, M6, hr5, h⟩ := bnd2 h
  refine y_cVi (st := []) C dX10_buy_15 mX10_321 k4 (tX10_layPayment hC o0 v1 v2 v3 v4 gv1 gv2 gv3 gv4 hr5) rfl rfl (Nat.le_of_ble_eq_true rfl) (by decide) (fun gr5 => ?_)
  refine z_istore (lv' := [(0, .ref (G.2.2 + o0)), (1, .int (iv v1)), (2, .int (iv v2)), (3, .int (iv v3)), (4, .int (iv v4)), (5, .int (iv r5))]) C dX10_buy_18 (by decide) [1, 2, 3, 4, 5, 0] rfl ?_
  refine z_iload C dX10_buy_20 5 rfl ?_
  refine z_if_ge 28 C dX10_buy_22 (by decide) gr5 (fun e7 => ?_) (fun e7 => ?_)
  ·
    have h := (if_pos e7).symm.trans h
    refine z_aload_n C dX10_buy_28 0 rfl ?_
    obtain ⟨k8, h⟩ := gK_inv h
    obtain ⟨M9, hM9, h⟩ := bnd h
    refine y_cVv (st := []) C dX10_buy_29 mX10_325 k8 (tX10_tellPaid hC o0  hM9) rfl rfl (Nat.le_of_ble_eq_true rfl) (by decide) ?_
    refine z_aload_n C dX10_buy_32 0 rfl ?_
    refine z_aload_n C dX10_buy_33 0 rfl ?_
    obtain ⟨k10, h⟩ := gK_inv h
    obtain ⟨r11, hr11, h⟩ := bnd h
    refine y_cVi (st := [.ref (G.2.2 + o0)]) C dX10_buy_34 mX10_328 k10 (tX10_strokesToPay hC o0  hr11) rfl rfl (Nat.le_of_ble_eq_true rfl) (by decide) (fun gr11 => ?_)
    obtain ⟨k12, h⟩ := gK_inv h
    obtain ⟨r13, hr13, h⟩ := bnd h
    refine y_cVb (st := []) C dX10_buy_37 mX10_269 k12 (tX10_isFull hC o0 r11 gr11 hr13) rfl rfl (Nat.le_of_ble_eq_true rfl) (by decide) (fun br13 => ?_)
    refine z_if_eq 45 C dX10_buy_40 (by decide) (rg01 br13) (fun e14 => ?_) (fun e14 => ?_)
    ·
      have h := (if_pos e14).symm.trans h
      refine z_aload_n C dX10_buy_45 0 rfl ?_
      obtain ⟨k15, h⟩ := gK_inv h
      obtain ⟨M16, hM16, h⟩ := bnd h
      refine y_cVv (st := []) C dX10_buy_46 mX10_272 k15 (tX10_snap hC o0  hM16) rfl rfl (Nat.le_of_ble_eq_true rfl) (by decide) ?_
      refine z_aload_n C dX10_buy_49 0 rfl ?_
      refine z_iload_n C dX10_buy_50 1 rfl ?_
      refine z_iload_n C dX10_buy_51 2 rfl ?_
      refine z_iload_n C dX10_buy_52 3 rfl ?_
      refine z_iload C dX10_buy_53 4 rfl ?_
      obtain ⟨k17, h⟩ := gK_inv h
      obtain ⟨M18, hM18, h⟩ := bnd h
      refine y_cVv (st := []) C dX10_buy_55 mX10_331 k17 (tX10_pay hC o0 v1 v2 v3 v4 gv1 gv2 gv3 gv4 hM18) rfl rfl (Nat.le_of_ble_eq_true rfl) (by decide) ?_
      refine z_iload C dX10_buy_58 5 rfl ?_
      exact y_iretB C dX10_buy_60 h gr5
    ·
      have h := (if_neg e14).symm.trans h
      refine z_iconst C dX10_buy_43 ?_
      exact y_iretB C dX10_buy_44 h (by decide)
  ·
    have h := (if_neg e7).symm.trans h
    refine z_iload C dX10_buy_25 5 rfl ?_
    exact y_iretB C dX10_buy_27 h gr5
