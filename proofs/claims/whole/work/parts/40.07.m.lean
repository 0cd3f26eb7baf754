set_option maxHeartbeats 4000000 in
set_option maxRecDepth 100000 in
theorem tX9_bears {G : Gx} {σ : State} (hC : Cy G σ) (o0 : Nat) (v1 : Int) (v2 : Int) {M0 : Mm} (gv1 : rg v1) (gv2 : rg v2) {R : Int} (h : uX9_bears o0 v1 v2 M0 = some R) : Ct G σ (3) yX9_bears cX9_bears 6 (some .int) [.ref (G.2.2 + o0), .int (iv v1), .int (iv v2)] M0 0 0 (Qi R M0) := by
  refine Ct.of hC.1 (by decide +kernel) (Nat.le_of_ble_eq_true rfl) ?_
  intro p l e R0 s m args below meth c C
  show Jz G σ p l e R0 s m args below meth c 6 0 0 (Qi R M0) M0 0 0 0 [(0, .ref (G.2.2 + o0)), (1, .int (iv v1)), (2, .int (iv v2))] []
  have hb99 : ∀ (v5 : Int), (rg v5) → uX9_bears_b99 v5 M0 = some R → Jz G σ p l e R0 s m args below meth c 6 0 0 (Qi R M0) M0 0 0 99 [(5, .int (iv v5))] [] := by
    intro v5  gv5 h
    unfold uX9_bears_b99 at h
    refine z_iload C dX9_bears_99 0 rfl ?_
    exact y_iretP C dX9_bears_101 h gv5
  have hb54 : ∀ (o0 : Nat) (v2 : Int) (v3 : Int) (v4 : Int) (v5 : Int), (rg v2) → (rg v3) → (rg v4) → (rg v5) → uX9_bears_b54 o0 v2 v3 v4 v5 M0 = some R → Jz G σ p l e R0 s m args below meth c 6 0 0 (Qi R M0) M0 0 0 54 [(0, .ref (G.2.2 + o0)), (2, .int (iv v2)), (3, .int (iv v3)), (4, .int (iv v4)), (5, .int (iv v5))] [] := by
    intro o0 v2 v3 v4 v5  gv2 gv3 gv4 gv5 h
    unfold uX9_bears_b54 at h
    obtain ⟨b54, hb54_, hc54⟩ := bnd h
    have hL54 : ∀ (n : Nat) (v3 : Int) (v5 : Int), (rg v3) → (rg v5) → lp (uX9_bears_f54 o0 v2 v4 M0) n (v3, v5) = some b54 → Jz G σ p l e R0 s m args below meth c 6 0 0 (Qi R M0) M0 0 0 54 [(0, .ref (G.2.2 + o0)), (2, .int (iv v2)), (3, .int (iv v3)), (4, .int (iv v4)), (5, .int (iv v5))] [] := by
      intro n; induction n with
      | zero => intro v3 v5 gv3 gv5 hq; exact (lp_0 hq).elim
      | succ n54 ih54 =>
        intro v3 v5 gv3 gv5 hq
        obtain ⟨z54, h, hZ54⟩ := lp_s hq
        have h : uX9_bears_s54 o0 v2 v4 M0 v3 v5 = some z54 := h
        unfold uX9_bears_s54 at h
        refine z_iload C dX9_bears_54 4 rfl ?_
        refine z_bipush C dX9_bears_56 (by decide) ?_
        refine z_icmp_ge 99 C dX9_bears_58 (by decide) gv5 (by decide) (fun e1 => ?_) (fun e1 => ?_)
        ·
          have h := (if_pos e1).symm.trans h
          have h : uX9_bears_b99 v5 M0 = some R := lp_ex (K := (uX9_bears_c54 o0 v2 v4 M0)) h hZ54 hc54
          refine z_drop (lv' := [(5, .int (iv v5))]) [4] rfl ?_
          exact hb99 v5  gv5 h
        ·
          have h := (if_neg e1).symm.trans h
          refine z_aload_n C dX9_bears_61 0 rfl ?_
          obtain ⟨on2, hon2, h⟩ := bnd h
          refine y_getR C dX9_bears_62 fX9_33 rfl hon2 ?_
          refine z_iload_n C dX9_bears_65 2 rfl ?_
          refine z_iload C dX9_bears_66 3 rfl ?_
          refine z_iload C dX9_bears_68 4 rfl ?_
          refine y_iadd C dX9_bears_70 ?_
          refine z_iload_n C dX9_bears_71 1 rfl ?_
          obtain ⟨k3, h⟩ := gK_inv h
          obtain ⟨r4, hr4, h⟩ := bnd h
          refine y_cVi (st := []) C dX9_bears_72 mX9_160 k3 (tX8_obstacle hC on2 v3 (w32 (v4 + v5)) v2 gv3 (w32_rng _) gv2 hr4) rfl rfl (Nat.le_of_ble_eq_true rfl) (by decide) (fun gr4 => ?_)
          refine z_if_ne 99 C dX9_bears_75 (by decide) gr4 (fun e5 => ?_) (fun e5 => ?_)
          ·
            have h := (if_neg e5).symm.trans h
            have h : uX9_bears_b99 v5 M0 = some R := lp_ex (K := (uX9_bears_c54 o0 v2 v4 M0)) h hZ54 hc54
            refine z_drop (lv' := [(5, .int (iv v5))]) [4] rfl ?_
            exact hb99 v5  gv5 h
          ·
            have h := (if_pos e5).symm.trans h
            refine z_iload_n C dX9_bears_78 2 rfl ?_
            refine z_aload_n C dX9_bears_79 0 rfl ?_
            obtain ⟨on6, hon6, h⟩ := bnd h
            refine y_getR C dX9_bears_80 fX9_33 rfl hon6 ?_
            obtain ⟨on7, hon7, h⟩ := bnd h
            refine y_getR C dX9_bears_83 fX9_108 rfl hon7 ?_
            obtain ⟨on8, hon8, h⟩ := bnd h
            refine y_getR C dX9_bears_86 fX9_143 rfl hon8 ?_
            refine z_iload_n C dX9_bears_89 1 rfl ?_
            obtain ⟨x9, hx9, h⟩ := bnd h
            refine y_iald C dX9_bears_90 hx9 (fun gx9 => ?_)
            refine y_isub C dX9_bears_91 ?_
            refine z_istore_n (lv' := [(0, .ref (G.2.2 + o0)), (2, .int (iv v2)), (3, .int (iv (w32 (v3 - x9)))), (4, .int (iv v4)), (5, .int (iv v5))]) C dX9_bears_92 rfl (by decide) [1, 2, 0, 3, 4] rfl ?_
            refine y_iinc (lv' := [(0, .ref (G.2.2 + o0)), (2, .int (iv v2)), (3, .int (iv (w32 (v3 - x9)))), (4, .int (iv v4)), (5, .int (iv (w32 (v5 + 1))))]) C dX9_bears_93 4 rfl (by decide) [1, 2, 3, 4, 0] rfl ?_
            refine z_goto 54 C dX9_bears_96 (by decide) ?_
            exact ih54 (w32 (v3 - x9)) (w32 (v5 + 1)) (w32_rng _) (w32_rng _) (lp_back h hZ54)
    exact hL54 _ v3 v5 gv3 gv5 hb54_
  unfold uX9_bears at h
  refine z_aload_n C dX9_bears_0 0 rfl ?_
  obtain ⟨on10, hon10, h⟩ := bnd h
  refine y_getR C dX9_bears_1 fX9_33 rfl hon10 ?_
  refine z_iload_n C dX9_bears_4 1 rfl ?_
  obtain ⟨k11, h⟩ := gK_inv h
  obtain ⟨r12, hr12, h⟩ := bnd h
  refine y_cVb (st := []) C dX9_bears_5 mX9_183 k11 (tX8_isCoin hC on10 v1 gv1 hr12) rfl rfl (Nat.le_of_ble_eq_true rfl) (by decide) (fun br12 => ?_)
  refine z_if_eq 22 C dX9_bears_8 (by decide) (rg01 br12) (fun e13 => ?_) (fun e13 => ?_)
  ·
    have h := (if_pos e13).symm.trans h
    refine z_iconst C dX9_bears_22 ?_
    exact y_iretP C dX9_bears_23 h (by decide)
  ·
    have h := (if_neg e13).symm.trans h
    refine z_aload_n C dX9_bears_11 0 rfl ?_
    obtain ⟨on14, hon14, h⟩ := bnd h
    refine y_getR C dX9_bears_12 fX9_33 rfl hon14 ?_
    refine z_iload_n C dX9_bears_15 2 rfl ?_
    obtain ⟨k15, h⟩ := gK_inv h
    obtain ⟨r16, hr16, h⟩ := bnd h
    refine y_cVb (st := []) C dX9_bears_16 mX9_138 k15 (tX8_isMint hC on14 v2 gv2 hr16) rfl rfl (Nat.le_of_ble_eq_true rfl) (by decide) (fun br16 => ?_)
    refine z_if_ne 24 C dX9_bears_19 (by decide) (rg01 br16) (fun e17 => ?_) (fun e17 => ?_)
    ·
      have h := (if_neg e17).symm.trans h
      refine z_aload_n C dX9_bears_24 0 rfl ?_
      obtain ⟨on18, hon18, h⟩ := bnd h
      refine y_getR C dX9_bears_25 fX9_33 rfl hon18 ?_
      obtain ⟨on19, hon19, h⟩ := bnd h
      refine y_getR C dX9_bears_28 fX9_117 rfl hon19 ?_
      obtain ⟨on20, hon20, h⟩ := bnd h
      refine y_getR C dX9_bears_31 fX9_188 rfl hon20 ?_
      refine z_iload_n C dX9_bears_34 1 rfl ?_
      obtain ⟨x21, hx21, h⟩ := bnd h
      refine y_iald C dX9_bears_35 hx21 (fun gx21 => ?_)
      refine z_istore_n (lv' := [(0, .ref (G.2.2 + o0)), (1, .int (iv v1)), (2, .int (iv v2)), (3, .int (iv x21))]) C dX9_bears_36 rfl (by decide) [1, 2, 3, 0] rfl ?_
      refine z_aload_n C dX9_bears_37 0 rfl ?_
      obtain ⟨on22, hon22, h⟩ := bnd h
      refine y_getR C dX9_bears_38 fX9_33 rfl hon22 ?_
      obtain ⟨on23, hon23, h⟩ := bnd h
      refine y_getR C dX9_bears_41 fX9_117 rfl hon23 ?_
      obtain ⟨on24, hon24, h⟩ := bnd h
      refine y_getR C dX9_bears_44 fX9_197 rfl hon24 ?_
      refine z_iload_n C dX9_bears_47 1 rfl ?_
      obtain ⟨x25, hx25, h⟩ := bnd h
      refine y_iald C dX9_bears_48 hx25 (fun gx25 => ?_)
      refine z_istore (lv' := [(0, .ref (G.2.2 + o0)), (1, .int (iv v1)), (2, .int (iv v2)), (3, .int (iv x21)), (4, .int (iv x25))]) C dX9_bears_49 (by decide) [1, 2, 3, 4, 0] rfl ?_
      refine z_iconst C dX9_bears_51 ?_
      refine z_istore (lv' := [(0, .ref (G.2.2 + o0)), (1, .int (iv v1)), (2, .int (iv v2)), (3, .int (iv x21)), (4, .int (iv x25)), (5, .int (iv 0))]) C dX9_bears_52 (by decide) [1, 2, 3, 4, 5, 0] rfl ?_
      refine z_drop (lv' := [(0, .ref (G.2.2 + o0)), (2, .int (iv v2)), (3, .int (iv x21)), (4, .int (iv x25)), (5, .int (iv 0))]) [0, 2, 3, 4, 5] rfl ?_
      exact hb54 o0 v2 x21 x25 0  gv2 gx21 gx25 (by decide) h
    ·
      have h := (if_pos e17).symm.trans h
      refine z_iconst C dX9_bears_22 ?_
      exact y_iretP C dX9_bears_23 h (by decide)

set_option maxHeartbeats 4000000 in
set_option maxRecDepth 100000 in
theorem tX9_foreign {G : Gx} {σ : State} (hC : Cy G σ) (o0 : Nat) (v1 : Int) {M0 : Mm} (gv1 : rg v1) {R : Int} (h : uX9_foreign o0 v1 M0 = some R) : Ct G σ (3) yX9_foreign cX9_foreign 4 (some .int) [.ref (G.2.2 + o0), .int (iv v1)] M0 0 0 (Qi R M0) := by
  refine Ct.of hC.1 (by decide +kernel) (Nat.le_of_ble_eq_true rfl) ?_
  intro p l e R0 s m args below meth c C
  show Jz G σ p l e R0 s m args below meth c 4 0 0 (Qi R M0) M0 0 0 0 [(0, .ref (G.2.2 + o0)), (1, .int (iv v1))] []
  have hb63 : ∀ (v1 : Int) (v2 : Int), (rg v1) → (rg v2) → uX9_foreign_b63 v1 v2 M0 = some R → Jz G σ p l e R0 s m args below meth c 4 0 0 (Qi R M0) M0 0 0 63 [(1, .int (iv v1)), (2, .int (iv v2))] [] := by
    intro v1 v2  gv1 gv2 h
    unfold uX9_foreign_b63 at h
    refine z_iload_n C dX9_foreign_63 0 rfl ?_
    refine z_iconst C dX9_foreign_64 ?_
    refine z_icmp_ne 72 C dX9_foreign_65 (by decide) gv1 (by decide) (fun e1 => ?_) (fun e1 => ?_)
    ·
      have h := (if_neg e1).symm.trans h
      refine z_iconst C dX9_foreign_72 ?_
      exact y_iretP C dX9_foreign_73 h (by decide)
    ·
      have h := (if_pos e1).symm.trans h
      refine z_iload_n C dX9_foreign_68 1 rfl ?_
      refine z_goto 73 C dX9_foreign_69 (by decide) ?_
      exact y_iretP C dX9_foreign_73 h gv2
  have hb4 : ∀ (o0 : Nat) (v1 : Int) (v2 : Int) (v3 : Int), (rg v1) → (rg v2) → (rg v3) → uX9_foreign_b4 o0 v1 v2 v3 M0 = some R → Jz G σ p l e R0 s m args below meth c 4 0 0 (Qi R M0) M0 0 0 4 [(0, .ref (G.2.2 + o0)), (1, .int (iv v1)), (2, .int (iv v2)), (3, .int (iv v3))] [] := by
    intro o0 v1 v2 v3  gv1 gv2 gv3 h
    unfold uX9_foreign_b4 at h
    obtain ⟨b4, hb4_, hc4⟩ := bnd h
    have hL4 : ∀ (n : Nat) (v2 : Int) (v3 : Int), (rg v2) → (rg v3) → lp (uX9_foreign_f4 o0 v1 M0) n (v2, v3) = some b4 → Jz G σ p l e R0 s m args below meth c 4 0 0 (Qi R M0) M0 0 0 4 [(0, .ref (G.2.2 + o0)), (1, .int (iv v1)), (2, .int (iv v2)), (3, .int (iv v3))] [] := by
      intro n; induction n with
      | zero => intro v2 v3 gv2 gv3 hq; exact (lp_0 hq).elim
      | succ n4 ih4 =>
        intro v2 v3 gv2 gv3 hq
        obtain ⟨z4, h, hZ4⟩ := lp_s hq
        have h : uX9_foreign_s4 o0 v1 M0 v2 v3 = some z4 := h
        unfold uX9_foreign_s4 at h
        refine z_iload_n C dX9_foreign_4 3 rfl ?_
        refine z_aload_n C dX9_foreign_5 0 rfl ?_
        obtain ⟨on2, hon2, h⟩ := bnd h
        refine y_getR C dX9_foreign_6 fX9_33 rfl hon2 ?_
        obtain ⟨on3, hon3, h⟩ := bnd h
        refine y_getR C dX9_foreign_9 fX9_117 rfl hon3 ?_
        obtain ⟨x4, hx4, h⟩ := bnd h
        refine y_getI C dX9_foreign_12 fX9_164 rfl hx4 (fun gx4 => ?_)
        refine z_icmp_ge 63 C dX9_foreign_15 (by decide) gv3 gx4 (fun e5 => ?_) (fun e5 => ?_)
        ·
          have h := (if_pos e5).symm.trans h
          have h : uX9_foreign_b63 v1 v2 M0 = some R := lp_ex (K := (uX9_foreign_c4 o0 v1 M0)) h hZ4 hc4
          refine z_drop (lv' := [(1, .int (iv v1)), (2, .int (iv v2))]) [1, 2] rfl ?_
          exact hb63 v1 v2  gv1 gv2 h
        ·
          have h := (if_neg e5).symm.trans h
          refine z_iload_n C dX9_foreign_18 3 rfl ?_
          refine z_bipush C dX9_foreign_19 (by decide) ?_
          refine z_icmp_ge 63 C dX9_foreign_21 (by decide) gv3 (by decide) (fun e6 => ?_) (fun e6 => ?_)
          ·
            have h := (if_pos e6).symm.trans h
            have h : uX9_foreign_b63 v1 v2 M0 = some R := lp_ex (K := (uX9_foreign_c4 o0 v1 M0)) h hZ4 hc4
            refine z_drop (lv' := [(1, .int (iv v1)), (2, .int (iv v2))]) [1, 2] rfl ?_
            exact hb63 v1 v2  gv1 gv2 h
          ·
            have h := (if_neg e6).symm.trans h
            refine z_aload_n C dX9_foreign_24 0 rfl ?_
            obtain ⟨on7, hon7, h⟩ := bnd h
            refine y_getR C dX9_foreign_25 fX9_33 rfl hon7 ?_
            obtain ⟨on8, hon8, h⟩ := bnd h
            refine y_getR C dX9_foreign_28 fX9_117 rfl hon8 ?_
            obtain ⟨on9, hon9, h⟩ := bnd h
            refine y_getR C dX9_foreign_31 fX9_191 rfl hon9 ?_
            refine z_iload_n C dX9_foreign_34 3 rfl ?_
            obtain ⟨x10, hx10, h⟩ := bnd h
            refine y_iald C dX9_foreign_35 hx10 (fun gx10 => ?_)
            refine z_aload_n C dX9_foreign_36 0 rfl ?_
            obtain ⟨on11, hon11, h⟩ := bnd h
            refine y_getR C dX9_foreign_37 fX9_33 rfl hon11 ?_
            refine z_iload_n C dX9_foreign_40 3 rfl ?_
            obtain ⟨k12, h⟩ := gK_inv h
            obtain ⟨r13, hr13, h⟩ := bnd h
            refine y_cVi (st := [.int (iv x10)]) C dX9_foreign_41 mX9_214 k12 (tX8_whoOnTop hC on11 v3 gv3 hr13) rfl rfl (Nat.le_of_ble_eq_true rfl) (by decide) (fun gr13 => ?_)
            refine z_icmp_eq 57 C dX9_foreign_44 (by decide) gx10 gr13 (fun e14 => ?_) (fun e14 => ?_)
            ·
              have h := (if_pos e14).symm.trans h
              refine y_iinc (lv' := [(0, .ref (G.2.2 + o0)), (1, .int (iv v1)), (2, .int (iv v2)), (3, .int (iv (w32 (v3 + 1))))]) C dX9_foreign_57 3 rfl (by decide) [1, 2, 3, 0] rfl ?_
              refine z_goto 4 C dX9_foreign_60 (by decide) ?_
              exact ih4 v2 (w32 (v3 + 1)) gv2 (w32_rng _) (lp_back h hZ4)
            ·
              have h := (if_neg e14).symm.trans h
              refine z_iload_n C dX9_foreign_47 2 rfl ?_
              refine z_iload_n C dX9_foreign_48 1 rfl ?_
              refine z_icmp_ne 54 C dX9_foreign_49 (by decide) gv2 gv1 (fun e15 => ?_) (fun e15 => ?_)
              ·
                have h := (if_neg e15).symm.trans h
                refine y_iinc (lv' := [(0, .ref (G.2.2 + o0)), (1, .int (iv v1)), (2, .int (iv (w32 (v2 + 1)))), (3, .int (iv v3))]) C dX9_foreign_54 2 rfl (by decide) [1, 2, 0, 3] rfl ?_
                refine y_iinc (lv' := [(0, .ref (G.2.2 + o0)), (1, .int (iv v1)), (2, .int (iv (w32 (v2 + 1)))), (3, .int (iv (w32 (v3 + 1))))]) C dX9_foreign_57 3 rfl (by decide) [1, 2, 3, 0] rfl ?_
                refine z_goto 4 C dX9_foreign_60 (by decide) ?_
                exact ih4 (w32 (v2 + 1)) (w32 (v3 + 1)) (w32_rng _) (w32_rng _) (lp_back h hZ4)
              ·
                have h := (if_pos e15).symm.trans h
                refine z_iload_n C dX9_foreign_52 3 rfl ?_
                have h := lp_ret (K := (uX9_foreign_c4 o0 v1 M0)) h hZ4 hc4
                exact y_iretP C dX9_foreign_53 h gv3
    exact hL4 _ v2 v3 gv2 gv3 hb4_
  unfold uX9_foreign at h
  refine z_iconst C dX9_foreign_0 ?_
  refine z_istore_n (lv' := [(0, .ref (G.2.2 + o0)), (1, .int (iv v1)), (2, .int (iv 0))]) C dX9_foreign_1 rfl (by decide) [1, 2, 0] rfl ?_
  refine z_iconst C dX9_foreign_2 ?_
  refine z_istore_n (lv' := [(0, .ref (G.2.2 + o0)), (1, .int (iv v1)), (2, .int (iv 0)), (3, .int (iv 0))]) C dX9_foreign_3 rfl (by decide) [1, 2, 3, 0] rfl ?_
  exact hb4 o0 v1 0 0  gv1 (by decide) (by decide) h

set_option maxHeartbeats 4000000 in
set_option maxRecDepth 100000 in
theorem tX9_undo {G : Gx} {σ : State} (hC : Cy G σ) (o0 : Nat) {M0 : Mm}  {R : Int × Mm} (h : uX9_undo o0 M0 = some R) : Ct G σ (3) yX9_undo cX9_undo 1 (some .int) [.ref (G.2.2 + o0)] M0 0 0 (Qi R.1 R.2) := by
  refine Ct.of hC.1 (by decide +kernel) (Nat.le_of_ble_eq_true rfl) ?_
  intro p l e R0 s m args below meth c C
  show Jz G σ p l e R0 s m args below meth c 1 0 0 (Qi R.1 R.2) M0 0 0 0 [(0, .ref (G.2.2 + o0))] []
  unfold uX9_undo at h
  refine z_aload_n C dX9_undo_0 0 rfl ?_
  obtain ⟨on1, hon1, h⟩ := bnd h
  refine y_getR C dX9_undo_1 fX9_40 rfl hon1 ?_
  refine z_aload_n C dX9_undo_4 0 rfl ?_
  obtain ⟨on2, hon2, h⟩ := bnd h
  refine y_getR C dX9_undo_5 fX9_33 rfl hon2 ?_
  obtain ⟨on3, hon3, h⟩ := bnd h
  refine y_getR C dX9_undo_8 fX9_117 rfl hon3 ?_
  obtain ⟨k4, h⟩ := gK_inv h
  obtain ⟨r5, M6, hr5, h⟩ := bnd2 h
  refine y_cVi (st := []) C dX9_undo_11 mX9_359 k4 (tX2_takeBack hC on1 on3  hr5) rfl rfl (Nat.le_of_ble_eq_true rfl) (by decide) (fun gr5 => ?_)
  exact y_iretB C dX9_undo_14 h gr5

set_option maxHeartbeats 4000000 in
set_option maxRecDepth 100000 in
theorem tX9_restore {G : Gx} {σ : State} (hC : Cy G σ) (o0 : Nat) (v1 : Int) {M0 : Mm} (gv1 : rg v1) {R : Int × Mm} (h : uX9_restore o0 v1 M0 = some R) : Ct G σ (3) yX9_restore cX9_restore 2 (some .boolean) [.ref (G.2.2 + o0), .int (iv v1)] M0 0 0 (Qb R.1 R.2) := by
  refine Ct.of hC.1 (by decide +kernel) (Nat.le_of_ble_eq_true rfl) ?_
  intro p l e R0 s m args below meth c C
  show Jz G σ p l e R0 s m args below meth c 2 0 0 (Qb R.1 R.2) M0 0 0 0 [(0, .ref (G.2.2 + o0)), (1, .int (iv v1))] []
  unfold uX9_restore at h
  refine z_iload_n C dX9_restore_0 1 rfl ?_
  refine z_if_lt 22 C dX9_restore_1 (by decide) gv1 (fun e1 => ?_) (fun e1 => ?_)
  ·
    have h := (if_pos e1).symm.trans h
    refine z_iconst C dX9_restore_22 ?_
    exact y_zretB C dX9_restore_23 h (by decide)
  ·
    have h := (if_neg e1).symm.trans h
    refine z_iload_n C dX9_restore_4 1 rfl ?_
    refine z_aload_n C dX9_restore_5 0 rfl ?_
    obtain ⟨on2, hon2, h⟩ := bnd h
    refine y_getR C dX9_restore_6 fX9_44 rfl hon2 ?_
    obtain ⟨x3, hx3, h⟩ := bnd h
    refine y_alen C dX9_restore_9 hx3 (fun gx3 => ?_)
    refine z_icmp_ge 22 C dX9_restore_10 (by decide) gv1 gx3 (fun e4 => ?_) (fun e4 => ?_)
    ·
      have h := (if_pos e4).symm.trans h
      refine z_iconst C dX9_restore_22 ?_
      exact y_zretB C dX9_restore_23 h (by decide)
    ·
      have h := (if_neg e4).symm.trans h
      refine z_aload_n C dX9_restore_13 0 rfl ?_
      obtain ⟨on5, hon5, h⟩ := bnd h
      refine y_getR C dX9_restore_14 fX9_44 rfl hon5 ?_
      refine z_iload_n C dX9_restore_17 1 rfl ?_
      obtain ⟨qn6, hqn6, h⟩ := bnd h
      refine y_aaldW C dX9_restore_18 hqn6 ?_
      refine y_ifnonnull 24 C dX9_restore_19 (by decide) (fun e7 => ?_) (fun e7 => ?_)
      ·
        have h := (if_neg e7).symm.trans h
        refine z_aload_n C dX9_restore_24 0 rfl ?_
        obtain ⟨on8, hon8, h⟩ := bnd h
        refine y_getR C dX9_restore_25 fX9_33 rfl hon8 ?_
        refine z_aload_n C dX9_restore_28 0 rfl ?_
        obtain ⟨on9, hon9, h⟩ := bnd h
        refine y_getR C dX9_restore_29 fX9_44 rfl hon9 ?_
        refine z_iload_n C dX9_restore_32 1 rfl ?_
        obtain ⟨qn10, hqn10, h⟩ := bnd h
        refine y_aaldW C dX9_restore_33 hqn10 ?_
        obtain ⟨on11, hon11, h⟩ := bnd h
        subst hon11
        obtain ⟨k12, h⟩ := gK_inv h
        obtain ⟨M13, hM13, h⟩ := bnd h
        refine y_cVv (st := []) C dX9_restore_34 mX9_380 k12 (tX8_copyFrom hC on8 on11  hM13) rfl rfl (Nat.le_of_ble_eq_true rfl) (by decide) ?_
        refine z_aload_n C dX9_restore_37 0 rfl ?_
        obtain ⟨on14, hon14, h⟩ := bnd h
        refine y_getR C dX9_restore_38 fX9_40 rfl hon14 ?_
        obtain ⟨k15, h⟩ := gK_inv h
        obtain ⟨M16, hM16, h⟩ := bnd h
        refine y_cVv (st := []) C dX9_restore_41 mX9_91 k15 (tX2_forget hC on14  hM16) rfl rfl (Nat.le_of_ble_eq_true rfl) (by decide) ?_
        refine z_iconst C dX9_restore_44 ?_
        exact y_zretB C dX9_restore_45 h (by decide)
      ·
        have h := (if_pos e7).symm.trans h
        refine z_iconst C dX9_restore_22 ?_
        exact y_zretB C dX9_restore_23 h (by decide)

set_option maxHeartbeats 4000000 in
set_option maxRecDepth 100000 in
theorem tX10_isWord {G : Gx} {σ : State} (hC : Cy G σ) (o0 : Nat) (v1 : Int) {M0 : Mm} (gv1 : rg v1) {R : Int} (h : uX10_isWord o0 v1 M0 = some R) : Ct G σ (3) yX10_isWord cX10_isWord 2 (some .boolean) [.ref (G.2.2 + o0), .int (iv v1)] M0 0 0 (Qb R M0) := by
  refine Ct.of hC.1 (by decide +kernel) (Nat.le_of_ble_eq_true rfl) ?_
  intro p l e R0 s m args below meth c C
  show Jz G σ p l e R0 s m args below meth c 2 0 0 (Qb R M0) M0 0 0 0 [(0, .ref (G.2.2 + o0)), (1, .int (iv v1))] []
  unfold uX10_isWord at h
  refine z_aload_n C dX10_isWord_0 0 rfl ?_
  obtain ⟨x1, hx1, h⟩ := bnd h
  refine y_getI C dX10_isWord_1 fX10_105 rfl hx1 (fun gx1 => ?_)
  refine z_iconst C dX10_isWord_4 ?_
  refine z_icmp_ne 24 C dX10_isWord_5 (by decide) gx1 (by decide) (fun e2 => ?_) (fun e2 => ?_)
  ·
    have h := (if_neg e2).symm.trans h
    refine z_iconst C dX10_isWord_24 ?_
    exact y_zretP C dX10_isWord_25 h (by decide)
  ·
    have h := (if_pos e2).symm.trans h
    refine z_aload_n C dX10_isWord_8 0 rfl ?_
    obtain ⟨x3, hx3, h⟩ := bnd h
    refine y_getJ C dX10_isWord_9 fX10_118 rfl hx3 (fun gx3 => ?_)
    refine z_iload_n C dX10_isWord_12 1 rfl ?_
    obtain ⟨r4, hr4, h⟩ := bnd h
    refine y_cSl (st := [.long (jv x3)]) C dX10_isWord_13 mX10_141 (tX10_wordOf hC v1 gv1 hr4) rfl rfl (Nat.le_of_ble_eq_true rfl) (by decide) (fun gr4 => ?_)
    refine z_lcmp (cmpI x3 r4) C dX10_isWord_16 (lcmp_jv gx3 gr4) ?_
    refine z_if_ne_c 24 C dX10_isWord_17 (by decide) (fun e5 => ?_) (fun e5 => ?_)
    ·
      have h := (if_neg e5).symm.trans h
      refine z_iconst C dX10_isWord_24 ?_
      exact y_zretP C dX10_isWord_25 h (by decide)
    ·
      have h := (if_pos e5).symm.trans h
      refine z_iconst C dX10_isWord_20 ?_
      refine z_goto 25 C dX10_isWord_21 (by decide) ?_
      exact y_zretP C dX10_isWord_25 h (by decide)

set_option maxHeartbeats 4000000 in
set_option maxRecDepth 100000 in
theorem tX10_isName {G : Gx} {σ : State} (hC : Cy G σ) (o0 : Nat) {M0 : Mm}  {R : Int} (h : uX10_isName o0 M0 = some R) : Ct G σ (3) yX10_isName cX10_isName 2 (some .boolean) [.ref (G.2.2 + o0)] M0 0 0 (Qb R M0) := by
  refine Ct.of hC.1 (by decide +kernel) (Nat.le_of_ble_eq_true rfl) ?_
  intro p l e R0 s m args below meth c C
  show Jz G σ p l e R0 s m args below meth c 2 0 0 (Qb R M0) M0 0 0 0 [(0, .ref (G.2.2 + o0))] []
  have hb38 : uX10_isName_b38 M0 = some R → Jz G σ p l e R0 s m args below meth c 2 0 0 (Qb R M0) M0 0 0 38 [] [] := by
    intro    h
    unfold uX10_isName_b38 at h
    refine z_iconst C dX10_isName_38 ?_
    exact y_zretP C dX10_isName_39 h (by decide)
  have hb12 : ∀ (o0 : Nat) (v1 : Int), (rg v1) → uX10_isName_b12 o0 v1 M0 = some R → Jz G σ p l e R0 s m args below meth c 2 0 0 (Qb R M0) M0 0 0 12 [(0, .ref (G.2.2 + o0)), (1, .int (iv v1))] [] := by
    intro o0 v1  gv1 h
    unfold uX10_isName_b12 at h
    obtain ⟨b12, hb12_, hc12⟩ := bnd h
    have hL12 : ∀ (n : Nat) (v1 : Int), (rg v1) → lp (uX10_isName_f12 o0 M0) n v1 = some b12 → Jz G σ p l e R0 s m args below meth c 2 0 0 (Qb R M0) M0 0 0 12 [(0, .ref (G.2.2 + o0)), (1, .int (iv v1))] [] := by
      intro n; induction n with
      | zero => intro v1 gv1 hq; exact (lp_0 hq).elim
      | succ n12 ih12 =>
        intro v1 gv1 hq
        obtain ⟨z12, h, hZ12⟩ := lp_s hq
        have h : uX10_isName_s12 o0 M0 v1 = some z12 := h
        unfold uX10_isName_s12 at h
        refine z_iload_n C dX10_isName_12 1 rfl ?_
        refine z_bipush C dX10_isName_13 (by decide) ?_
        refine z_icmp_gt 38 C dX10_isName_15 (by decide) gv1 (by decide) (fun e1 => ?_) (fun e1 => ?_)
        ·
          have h := (if_pos e1).symm.trans h
          have h : uX10_isName_b38 M0 = some R := lp_ex (K := (uX10_isName_c12 o0 M0)) h hZ12 hc12
          refine z_drop (lv' := []) [] rfl ?_
          exact hb38    h
        ·
          have h := (if_neg e1).symm.trans h
          refine z_aload_n C dX10_isName_18 0 rfl ?_
          obtain ⟨x2, hx2, h⟩ := bnd h
          refine y_getJ C dX10_isName_19 fX10_118 rfl hx2 (fun gx2 => ?_)
          refine z_iload_n C dX10_isName_22 1 rfl ?_
          obtain ⟨r3, hr3, h⟩ := bnd h
          refine y_cSl (st := [.long (jv x2)]) C dX10_isName_23 mX10_141 (tX10_wordOf hC v1 gv1 hr3) rfl rfl (Nat.le_of_ble_eq_true rfl) (by decide) (fun gr3 => ?_)
          refine z_lcmp (cmpI x2 r3) C dX10_isName_26 (lcmp_jv gx2 gr3) ?_
          refine z_if_ne_c 32 C dX10_isName_27 (by decide) (fun e4 => ?_) (fun e4 => ?_)
          ·
            have h := (if_neg e4).symm.trans h
            refine y_iinc (lv' := [(0, .ref (G.2.2 + o0)), (1, .int (iv (w32 (v1 + 1))))]) C dX10_isName_32 1 rfl (by decide) [1, 0] rfl ?_
            refine z_goto 12 C dX10_isName_35 (by decide) ?_
            exact ih12 (w32 (v1 + 1)) (w32_rng _) (lp_back h hZ12)
          ·
            have h := (if_pos e4).symm.trans h
            refine z_iconst C dX10_isName_30 ?_
            have h := lp_ret (K := (uX10_isName_c12 o0 M0)) h hZ12 hc12
            exact y_zretP C dX10_isName_31 h (by decide)
    exact hL12 _ v1 gv1 hb12_
  unfold uX10_isName at h
  refine z_aload_n C dX10_isName_0 0 rfl ?_
  obtain ⟨x5, hx5, h⟩ := bnd h
  refine y_getI C dX10_isName_1 fX10_105 rfl hx5 (fun gx5 => ?_)
  refine z_iconst C dX10_isName_4 ?_
  refine z_icmp_eq 10 C dX10_isName_5 (by decide) gx5 (by decide) (fun e6 => ?_) (fun e6 => ?_)
  ·
    have h := (if_pos e6).symm.trans h
    refine z_iconst C dX10_isName_10 ?_
    refine z_istore_n (lv' := [(0, .ref (G.2.2 + o0)), (1, .int (iv 0))]) C dX10_isName_11 rfl (by decide) [1, 0] rfl ?_
    exact hb12 o0 0  (by decide) h
  ·
    have h := (if_neg e6).symm.trans h
    refine z_iconst C dX10_isName_8 ?_
    exact y_zretP C dX10_isName_9 h (by decide)

set_option maxHeartbeats 4000000 in
set_option maxRecDepth 100000 in
theorem tX10_readNumber {G : Gx} {σ : State} (hC : Cy G σ) (o0 : Nat) (v1 : Int) (v2 : Int) {M0 : Mm} (gv1 : rg v1) (gv2 : rg v2) {R : Int × Mm} (h : uX10_readNumber o0 v1 v2 M0 = some R) : Ct G σ (3) yX10_readNumber cX10_readNumber 3 (some .boolean) [.ref (G.2.2 + o0), .int (iv v1), .int (iv v2)] M0 0 0 (Qb R.1 R.2) := by
  refine Ct.of hC.1 (by decide +kernel) (Nat.le_of_ble_eq_true rfl) ?_
  intro p l e R0 s m args below meth c C
  show Jz G σ p l e R0 s m args below meth c 3 0 0 (Qb R.1 R.2) M0 0 0 0 [(0, .ref (G.2.2 + o0)), (1, .int (iv v1)), (2, .int (iv v2))] []
  unfold uX10_readNumber at h
  refine z_aload_n C dX10_readNumber_0 0 rfl ?_
  obtain ⟨x1, hx1, h⟩ := bnd h
  refine y_getI C dX10_readNumber_1 fX10_105 rfl hx1 (fun gx1 => ?_)
  refine z_iconst C dX10_readNumber_4 ?_
  refine z_icmp_eq 14 C dX10_readNumber_5 (by decide) gx1 (by decide) (fun e2 => ?_) (fun e2 => ?_)
  ·
    have h := (if_pos e2).symm.trans h
    refine z_aload_n C dX10_readNumber_14 0 rfl ?_
    obtain ⟨x3, hx3, h⟩ := bnd h
    refine y_getI C dX10_readNumber_15 fX10_122 rfl hx3 (fun gx3 => ?_)
    refine z_iload_n C dX10_readNumber_18 1 rfl ?_
    refine z_iload_n C dX10_readNumber_19 2 rfl ?_
    obtain ⟨r4, hr4, h⟩ := bnd h
    refine y_cSb (st := []) C dX10_readNumber_20 mX10_154 (tX10_isIn hC x3 v1 v2 gx3 gv1 gv2 hr4) rfl rfl (Nat.le_of_ble_eq_true rfl) (by decide) (fun br4 => ?_)
    refine z_if_ne 32 C dX10_readNumber_23 (by decide) (rg01 br4) (fun e5 => ?_) (fun e5 => ?_)
    ·
      have h := (if_neg e5).symm.trans h
      refine z_aload_n C dX10_readNumber_32 0 rfl ?_
      refine z_aload_n C dX10_readNumber_33 0 rfl ?_
      obtain ⟨x6, hx6, h⟩ := bnd h
      refine y_getI C dX10_readNumber_34 fX10_122 rfl hx6 (fun gx6 => ?_)
      obtain ⟨M7, hM7, h⟩ := bnd h
      refine y_putI C dX10_readNumber_37 fX10_158 rfl rfl rfl rfl hM7 ?_
      refine z_aload_n C dX10_readNumber_40 0 rfl ?_
      obtain ⟨k8, h⟩ := gK_inv h
      obtain ⟨M9, hM9, h⟩ := bnd h
      refine y_cVv (st := []) C dX10_readNumber_41 mX10_161 k8 (tX10_go hC o0  hM9) rfl rfl (Nat.le_of_ble_eq_true rfl) (by decide) ?_
      refine z_iconst C dX10_readNumber_44 ?_
      exact y_zretB C dX10_readNumber_45 h (by decide)
    ·
      have h := (if_pos e5).symm.trans h
      refine z_aload_n C dX10_readNumber_26 0 rfl ?_
      refine z_iconst C dX10_readNumber_27 ?_
      obtain ⟨k10, h⟩ := gK_inv h
      obtain ⟨r11, M12, hr11, h⟩ := bnd2 h
      refine y_cVb (st := []) C dX10_readNumber_28 mX10_151 k10 (tX10_bad hC o0 2 (by decide) hr11) rfl rfl (Nat.le_of_ble_eq_true rfl) (by decide) (fun br11 => ?_)
      exact y_zretB C dX10_readNumber_31 h br11
  ·
    have h := (if_neg e2).symm.trans h
    refine z_aload_n C dX10_readNumber_8 0 rfl ?_
    refine z_iconst C dX10_readNumber_9 ?_
    obtain ⟨k13, h⟩ := gK_inv h
    obtain ⟨r14, M15, hr14, h⟩ := bnd2 h
    refine y_cVb (st := []) C dX10_readNumber_10 mX10_151 k13 (tX10_bad hC o0 1 (by decide) hr14) rfl rfl (Nat.le_of_ble_eq_true rfl) (by decide) (fun br14 => ?_)
    exact y_zretB C dX10_readNumber_13 h br14

set_option maxHeartbeats 4000000 in
set_option maxRecDepth 100000 in
theorem tX10_readEnd {G : Gx} {σ : State} (hC : Cy G σ) (o0 : Nat) {M0 : Mm}  {R : Int × Mm} (h : uX10_readEnd o0 M0 = some R) : Ct G σ (3) yX10_readEnd cX10_readEnd 1 (some .boolean) [.ref (G.2.2 + o0)] M0 0 0 (Qb R.1 R.2) := by
  refine Ct.of hC.1 (by decide +kernel) (Nat.le_of_ble_eq_true rfl) ?_
  intro p l e R0 s m args below meth c C
  show Jz G σ p l e R0 s m args below meth c 1 0 0 (Qb R.1 R.2) M0 0 0 0 [(0, .ref (G.2.2 + o0))] []
  unfold uX10_readEnd at h
  refine z_aload_n C dX10_readEnd_0 0 rfl ?_
  refine z_bipush C dX10_readEnd_1 (by decide) ?_
  obtain ⟨k1, h⟩ := gK_inv h
  obtain ⟨r2, hr2, h⟩ := bnd h
  refine y_cVb (st := []) C dX10_readEnd_3 mX10_164 k1 (tX10_isSign hC o0 59 (by decide) hr2) rfl rfl (Nat.le_of_ble_eq_true rfl) (by decide) (fun br2 => ?_)
  refine z_if_ne 15 C dX10_readEnd_6 (by decide) (rg01 br2) (fun e3 => ?_) (fun e3 => ?_)
  ·
    have h := (if_neg e3).symm.trans h
    refine z_aload_n C dX10_readEnd_15 0 rfl ?_
    obtain ⟨k4, h⟩ := gK_inv h
    obtain ⟨M5, hM5, h⟩ := bnd h
    refine y_cVv (st := []) C dX10_readEnd_16 mX10_161 k4 (tX10_go hC o0  hM5) rfl rfl (Nat.le_of_ble_eq_true rfl) (by decide) ?_
    refine z_iconst C dX10_readEnd_19 ?_
    exact y_zretB C dX10_readEnd_20 h (by decide)
  ·
    have h := (if_pos e3).symm.trans h
    refine z_aload_n C dX10_readEnd_9 0 rfl ?_
    refine z_iconst C dX10_readEnd_10 ?_
    obtain ⟨k6, h⟩ := gK_inv h
    obtain ⟨r7, M8, hr7, h⟩ := bnd2 h
    refine y_cVb (st := []) C dX10_readEnd_11 mX10_151 k6 (tX10_bad hC o0 1 (by decide) hr7) rfl rfl (Nat.le_of_ble_eq_true rfl) (by decide) (fun br7 => ?_)
    exact y_zretB C dX10_readEnd_14 h br7

set_option maxHeartbeats 4000000 in
set_option maxRecDepth 100000 in
theorem tX10_begin {G : Gx} {σ : State} (hC : Cy G σ) (o0 : Nat) (v1 : Int) {M0 : Mm} (gv1 : rg v1) {R : Mm} (h : uX10_begin o0 v1 M0 = some R) : Ct G σ (3) yX10_begin cX10_begin 2 none [.ref (G.2.2 + o0), .int (iv v1)] M0 0 0 (Qv R) := by
  refine Ct.of hC.1 (by decide +kernel) (Nat.le_of_ble_eq_true rfl) ?_
  intro p l e R0 s m args below meth c C
  show Jz G σ p l e R0 s m args below meth c 2 0 0 (Qv R) M0 0 0 0 [(0, .ref (G.2.2 + o0)), (1, .int (iv v1))] []
  unfold uX10_begin at h
  refine z_aload_n C dX10_begin_0 0 rfl ?_
  refine z_iconst C dX10_begin_1 ?_
  obtain ⟨M1, hM1, h⟩ := bnd h
  refine y_putI C dX10_begin_2 fX10_83 rfl rfl rfl rfl hM1 ?_
  refine z_aload_n C dX10_begin_5 0 rfl ?_
  obtain ⟨k2, h⟩ := gK_inv h
  obtain ⟨M3, hM3, h⟩ := bnd h
  refine y_cVv (st := []) C dX10_begin_6 mX10_167 k2 (tX10_lay hC o0  hM3) rfl rfl (Nat.le_of_ble_eq_true rfl) (by decide) ?_
  refine z_aload_n C dX10_begin_9 0 rfl ?_
  refine z_aload_n C dX10_begin_10 0 rfl ?_
  obtain ⟨k4, h⟩ := gK_inv h
  obtain ⟨r5, M6, hr5, h⟩ := bnd2 h
  refine y_cVi (st := [.ref (G.2.2 + o0)]) C dX10_begin_11 mX10_170 k4 (tX10_take hC o0  hr5) rfl rfl (Nat.le_of_ble_eq_true rfl) (by decide) (fun gr5 => ?_)
  obtain ⟨M7, hM7, h⟩ := bnd h
  refine y_putI C dX10_begin_14 fX10_93 rfl rfl rfl rfl hM7 ?_
  refine z_aload_n C dX10_begin_17 0 rfl ?_
  refine z_iload_n C dX10_begin_18 1 rfl ?_
  obtain ⟨M8, hM8, h⟩ := bnd h
  refine y_putI C dX10_begin_19 fX10_102 rfl rfl rfl rfl hM8 ?_
  refine z_aload_n C dX10_begin_22 0 rfl ?_
  refine z_iconst C dX10_begin_23 ?_
  obtain ⟨M9, hM9, h⟩ := bnd h
  refine y_putI C dX10_begin_24 fX10_145 rfl rfl rfl rfl hM9 ?_
  refine z_aload_n C dX10_begin_27 0 rfl ?_
  refine z_iconst C dX10_begin_28 ?_
  obtain ⟨M10, hM10, h⟩ := bnd h
  refine y_putI C dX10_begin_29 fX10_96 rfl rfl rfl rfl hM10 ?_
  refine z_aload_n C dX10_begin_32 0 rfl ?_
  obtain ⟨k11, h⟩ := gK_inv h
  obtain ⟨M12, hM12, h⟩ := bnd h
  refine y_cVv (st := []) C dX10_begin_33 mX10_161 k11 (tX10_go hC o0  hM12) rfl rfl (Nat.le_of_ble_eq_true rfl) (by decide) ?_
  exact y_retV C dX10_begin_36 h

set_option maxHeartbeats 4000000 in
set_option maxRecDepth 100000 in
theorem tX10_who {G : Gx} {σ : State} (hC : Cy G σ) (o0 : Nat) (v1 : Int) (v2 : Int) {M0 : Mm} (gv1 : rg v1) (gv2 : rg v2) {R : Int × Mm} (h : uX10_who o0 v1 v2 M0 = some R) : Ct G σ (3) yX10_who cX10_who 5 (some .int) [.ref (G.2.2 + o0), .int (iv v1), .int (iv v2)] M0 0 0 (Qi R.1 R.2) := by
  refine Ct.of hC.1 (by decide +kernel) (Nat.le_of_ble_eq_true rfl) ?_
  intro p l e R0 s m args below meth c C
  show Jz G σ p l e R0 s m args below meth c 5 0 0 (Qi R.1 R.2) M0 0 0 0 [(0, .ref (G.2.2 + o0)), (1, .int (iv v1)), (2, .int (iv v2))] []
  have hb119 : ∀ (v3 : Int) (M : Mm), (rg v3) → uX10_who_b119 v3 M = some R → Jz G σ p l e R0 s m args below meth c 5 0 0 (Qi R.1 R.2) M 0 0 119 [(3, .int (iv v3))] [] := by
    intro v3 M gv3 h
    unfold uX10_who_b119 at h
    refine z_iload_n C dX10_who_119 0 rfl ?_
    exact y_iretB C dX10_who_120 h gv3
  have hb48 : ∀ (o0 : Nat) (v1 : Int) (v2 : Int) (v3 : Int) (v4 : Int) (M : Mm), (rg v1) → (rg v2) → (rg v3) → (rg v4) → uX10_who_b48 o0 v1 v2 v3 v4 M = some R → Jz G σ p l e R0 s m args below meth c 5 0 0 (Qi R.1 R.2) M 0 0 48 [(0, .ref (G.2.2 + o0)), (1, .int (iv v1)), (2, .int (iv v2)), (3, .int (iv v3)), (4, .int (iv v4))] [] := by
    intro o0 v1 v2 v3 v4 M gv1 gv2 gv3 gv4 h
    unfold uX10_who_b48 at h
    obtain ⟨b48, hb48_, hc48⟩ := bnd h
    have hL48 : ∀ (n : Nat) (v3 : Int) (v4 : Int), (rg v3) → (rg v4) → lp (uX10_who_f48 o0 v1 v2 M) n (v3, v4) = some b48 → Jz G σ p l e R0 s m args below meth c 5 0 0 (Qi R.1 R.2) M 0 0 48 [(0, .ref (G.2.2 + o0)), (1, .int (iv v1)), (2, .int (iv v2)), (3, .int (iv v3)), (4, .int (iv v4))] [] := by
      intro n; induction n with
      | zero => intro v3 v4 gv3 gv4 hq; exact (lp_0 hq).elim
      | succ n48 ih48 =>
        intro v3 v4 gv3 gv4 hq
        obtain ⟨z48, h, hZ48⟩ := lp_s hq
        have h : uX10_who_s48 o0 v1 v2 M v3 v4 = some z48 := h
        have hb111 : ∀ (v4 : Int) (vs0 : Int) (vs1 : Int), (rg v4) → (rg vs0) → (rg vs1) → ∀ z48, uX10_who_b111 o0 v1 v2 v4 vs0 vs1 M = some z48 → lpc (uX10_who_f48 o0 v1 v2 M) n48 z48 b48 → Jz G σ p l e R0 s m args below meth c 5 0 0 (Qi R.1 R.2) M 0 0 111 [(0, .ref (G.2.2 + o0)), (1, .int (iv v1)), (2, .int (iv v2)), (4, .int (iv v4))] [.int (iv vs1), .int (iv vs0)] := by
          intro v4 vs0 vs1  gv4 gvs0 gvs1 z48 h hZ48
          unfold uX10_who_b111 at h
          refine y_iadd C dX10_who_111 ?_
          refine z_istore_n (lv' := [(0, .ref (G.2.2 + o0)), (1, .int (iv v1)), (2, .int (iv v2)), (3, .int (iv (w32 (vs0 + vs1)))), (4, .int (iv v4))]) C dX10_who_112 rfl (by decide) [1, 2, 3, 0, 4] rfl ?_
          refine y_iinc (lv' := [(0, .ref (G.2.2 + o0)), (1, .int (iv v1)), (2, .int (iv v2)), (3, .int (iv (w32 (vs0 + vs1)))), (4, .int (iv (w32 (v4 + 1))))]) C dX10_who_113 4 rfl (by decide) [1, 2, 3, 4, 0] rfl ?_
          refine z_goto 48 C dX10_who_116 (by decide) ?_
          exact ih48 (w32 (vs0 + vs1)) (w32 (v4 + 1)) (w32_rng _) (w32_rng _) (lp_back h hZ48)
        have hb78 : ∀ (v4 : Int) (vs0 : Int) (vs1 : Int), (rg v4) → (rg vs0) → (vs1 = 0 ∨ vs1 = 1) → ∀ z48, uX10_who_b78 o0 v1 v2 v4 vs0 vs1 M = some z48 → lpc (uX10_who_f48 o0 v1 v2 M) n48 z48 b48 → Jz G σ p l e R0 s m args below meth c 5 0 0 (Qi R.1 R.2) M 0 0 78 [(0, .ref (G.2.2 + o0)), (1, .int (iv v1)), (2, .int (iv v2)), (4, .int (iv v4))] [.int (iv vs1), .int (iv vs0)] := by
          intro v4 vs0 vs1  gv4 gvs0 bvs1 z48 h hZ48
          unfold uX10_who_b78 at h
          refine y_iadd C dX10_who_78 ?_
          refine z_istore_n (lv' := [(0, .ref (G.2.2 + o0)), (1, .int (iv v1)), (2, .int (iv v2)), (3, .int (iv (w32 (vs0 + vs1)))), (4, .int (iv v4))]) C dX10_who_79 rfl (by decide) [1, 2, 3, 0, 4] rfl ?_
          refine z_goto 113 C dX10_who_80 (by decide) ?_
          refine y_iinc (lv' := [(0, .ref (G.2.2 + o0)), (1, .int (iv v1)), (2, .int (iv v2)), (3, .int (iv (w32 (vs0 + vs1)))), (4, .int (iv (w32 (v4 + 1))))]) C dX10_who_113 4 rfl (by decide) [1, 2, 3, 4, 0] rfl ?_
          refine z_goto 48 C dX10_who_116 (by decide) ?_
          exact ih48 (w32 (vs0 + vs1)) (w32 (v4 + 1)) (w32_rng _) (w32_rng _) (lp_back h hZ48)
        unfold uX10_who_s48 at h
        refine z_iload C dX10_who_48 4 rfl ?_
        refine z_aload_n C dX10_who_50 0 rfl ?_
        obtain ⟨k1, h⟩ := gK_inv h
        obtain ⟨r2, hr2, h⟩ := bnd h
        refine y_cVi (st := [.int (iv v4)]) C dX10_who_51 mX10_188 k1 (tX10_coins hC o0  hr2) rfl rfl (Nat.le_of_ble_eq_true rfl) (by decide) (fun gr2 => ?_)
        refine z_icmp_ge 119 C dX10_who_54 (by decide) gv4 gr2 (fun e3 => ?_) (fun e3 => ?_)
        ·
          have h := (if_pos e3).symm.trans h
          have h : uX10_who_b119 v3 M = some R := lp_ex (K := (uX10_who_c48 o0 v1 v2 M)) h hZ48 hc48
          refine z_drop (lv' := [(3, .int (iv v3))]) [3] rfl ?_
          exact hb119 v3 M gv3 h
        ·
          have h := (if_neg e3).symm.trans h
          refine z_iload_n C dX10_who_57 2 rfl ?_
          refine z_iconst C dX10_who_58 ?_
          refine z_icmp_ne 83 C dX10_who_59 (by decide) gv2 (by decide) (fun e4 => ?_) (fun e4 => ?_)
          ·
            have h := (if_neg e4).symm.trans h
            refine z_aload_n C dX10_who_83 0 rfl ?_
            refine z_iload C dX10_who_84 4 rfl ?_
            refine z_iconst C dX10_who_86 ?_
            obtain ⟨k5, h⟩ := gK_inv h
            obtain ⟨r6, hr6, h⟩ := bnd h
            refine y_cVi (st := []) C dX10_who_87 mX10_256 k5 (tX10_ofCoin hC o0 v4 1 gv4 (by decide) hr6) rfl rfl (Nat.le_of_ble_eq_true rfl) (by decide) (fun gr6 => ?_)
            refine z_iload_n C dX10_who_90 1 rfl ?_
            refine z_icmp_ne 113 C dX10_who_91 (by decide) gr6 gv1 (fun e7 => ?_) (fun e7 => ?_)
            ·
              have h := (if_neg e7).symm.trans h
              refine y_iinc (lv' := [(0, .ref (G.2.2 + o0)), (1, .int (iv v1)), (2, .int (iv v2)), (3, .int (iv v3)), (4, .int (iv (w32 (v4 + 1))))]) C dX10_who_113 4 rfl (by decide) [1, 2, 3, 4, 0] rfl ?_
              refine z_goto 48 C dX10_who_116 (by decide) ?_
              exact ih48 v3 (w32 (v4 + 1)) gv3 (w32_rng _) (lp_back h hZ48)
            ·
              have h := (if_pos e7).symm.trans h
              refine z_iload_n C dX10_who_94 3 rfl ?_
              refine z_iload_n C dX10_who_95 2 rfl ?_
              refine z_iconst C dX10_who_96 ?_
              refine z_icmp_ne 104 C dX10_who_97 (by decide) gv2 (by decide) (fun e8 => ?_) (fun e8 => ?_)
              ·
                have h := (if_neg e8).symm.trans h
                refine z_aload_n C dX10_who_104 0 rfl ?_
                refine z_iload C dX10_who_105 4 rfl ?_
                refine z_iconst C dX10_who_107 ?_
                obtain ⟨k9, h⟩ := gK_inv h
                obtain ⟨r10, hr10, h⟩ := bnd h
                refine y_cVi (st := [.int (iv v3)]) C dX10_who_108 mX10_256 k9 (tX10_ofCoin hC o0 v4 0 gv4 (by decide) hr10) rfl rfl (Nat.le_of_ble_eq_true rfl) (by decide) (fun gr10 => ?_)
                refine z_drop (lv' := [(0, .ref (G.2.2 + o0)), (1, .int (iv v1)), (2, .int (iv v2)), (4, .int (iv v4))]) [0, 1, 2, 4] rfl ?_
                exact hb111 v4 v3 r10  gv4 gv3 gr10 _ h hZ48
              ·
                have h := (if_pos e8).symm.trans h
                refine z_iconst C dX10_who_100 ?_
                refine z_goto 111 C dX10_who_101 (by decide) ?_
                refine z_drop (lv' := [(0, .ref (G.2.2 + o0)), (1, .int (iv v1)), (2, .int (iv v2)), (4, .int (iv v4))]) [0, 1, 2, 4] rfl ?_
                exact hb111 v4 v3 1  gv4 gv3 (by decide) _ h hZ48
          ·
            have h := (if_pos e4).symm.trans h
            refine z_iload_n C dX10_who_62 3 rfl ?_
            refine z_aload_n C dX10_who_63 0 rfl ?_
            refine z_iload C dX10_who_64 4 rfl ?_
            obtain ⟨k11, h⟩ := gK_inv h
            obtain ⟨r12, hr12, h⟩ := bnd h
            refine y_cVi (st := [.int (iv v3)]) C dX10_who_66 mX10_253 k11 (tX10_topOf hC o0 v4 gv4 hr12) rfl rfl (Nat.le_of_ble_eq_true rfl) (by decide) (fun gr12 => ?_)
            refine z_iload_n C dX10_who_69 1 rfl ?_
            refine z_icmp_ne 77 C dX10_who_70 (by decide) gr12 gv1 (fun e13 => ?_) (fun e13 => ?_)
            ·
              have h := (if_neg e13).symm.trans h
              refine z_iconst C dX10_who_77 ?_
              refine z_drop (lv' := [(0, .ref (G.2.2 + o0)), (1, .int (iv v1)), (2, .int (iv v2)), (4, .int (iv v4))]) [0, 1, 2, 4] rfl ?_
              exact hb78 v4 v3 0  gv4 gv3 (by decide) _ h hZ48
            ·
              have h := (if_pos e13).symm.trans h
              refine z_iconst C dX10_who_73 ?_
              refine z_goto 78 C dX10_who_74 (by decide) ?_
              refine z_drop (lv' := [(0, .ref (G.2.2 + o0)), (1, .int (iv v1)), (2, .int (iv v2)), (4, .int (iv v4))]) [0, 1, 2, 4] rfl ?_
              exact hb78 v4 v3 1  gv4 gv3 (by decide) _ h hZ48
    exact hL48 _ v3 v4 gv3 gv4 hb48_
  have hb21 : ∀ (o0 : Nat) (M : Mm), uX10_who_b21 o0 M = some R → Jz G σ p l e R0 s m args below meth c 5 0 0 (Qi R.1 R.2) M 0 0 21 [(0, .ref (G.2.2 + o0))] [] := by
    intro o0 M  h
    unfold uX10_who_b21 at h
    refine z_aload_n C dX10_who_21 0 rfl ?_
    obtain ⟨k14, h⟩ := gK_inv h
    obtain ⟨r15, M16, hr15, h⟩ := bnd2 h
    refine y_cVi (st := []) C dX10_who_22 mX10_246 k14 (tX10_refuse hC o0  hr15) rfl rfl (Nat.le_of_ble_eq_true rfl) (by decide) (fun gr15 => ?_)
    exact y_iretB C dX10_who_25 h gr15
  unfold uX10_who at h
  refine z_aload_n C dX10_who_0 0 rfl ?_
  obtain ⟨k17, h⟩ := gK_inv h
  obtain ⟨M18, hM18, h⟩ := bnd h
  refine y_cVv (st := []) C dX10_who_1 mX10_167 k17 (tX10_lay hC o0  hM18) rfl rfl (Nat.le_of_ble_eq_true rfl) (by decide) ?_
  refine z_aload_n C dX10_who_4 0 rfl ?_
  refine z_iload_n C dX10_who_5 1 rfl ?_
  obtain ⟨k19, h⟩ := gK_inv h
  obtain ⟨r20, hr20, h⟩ := bnd h
  refine y_cVb (st := []) C dX10_who_6 mX10_243 k19 (tX10_isWho hC o0 v1 gv1 hr20) rfl rfl (Nat.le_of_ble_eq_true rfl) (by decide) (fun br20 => ?_)
  refine z_if_eq 21 C dX10_who_9 (by decide) (rg01 br20) (fun e21 => ?_) (fun e21 => ?_)
  ·
    have h := (if_pos e21).symm.trans h
    refine z_drop (lv' := [(0, .ref (G.2.2 + o0))]) [0] rfl ?_
    exact hb21 o0 M18  h
  ·
    have h := (if_neg e21).symm.trans h
    refine z_iload_n C dX10_who_12 2 rfl ?_
    refine z_iconst C dX10_who_13 ?_
    refine z_iconst C dX10_who_14 ?_
    obtain ⟨r22, hr22, h⟩ := bnd h
    refine y_cSb (st := []) C dX10_who_15 mX10_154 (tX10_isIn hC v2 0 5 gv2 (by decide) (by decide) hr22) rfl rfl (Nat.le_of_ble_eq_true rfl) (by decide) (fun br22 => ?_)
    refine z_if_ne 26 C dX10_who_18 (by decide) (rg01 br22) (fun e23 => ?_) (fun e23 => ?_)
    ·
      have h := (if_neg e23).symm.trans h
      refine z_aload_n C dX10_who_26 0 rfl ?_
      refine z_iconst C dX10_who_27 ?_
      obtain ⟨M24, hM24, h⟩ := bnd h
      refine y_putI C dX10_who_28 fX10_83 rfl rfl rfl rfl hM24 ?_
      refine z_iload_n C dX10_who_31 2 rfl ?_
      refine z_iconst C dX10_who_32 ?_
      refine z_icmp_ge 43 C dX10_who_33 (by decide) gv2 (by decide) (fun e25 => ?_) (fun e25 => ?_)
      ·
        have h := (if_pos e25).symm.trans h
        refine z_iconst C dX10_who_43 ?_
        refine z_istore_n (lv' := [(0, .ref (G.2.2 + o0)), (1, .int (iv v1)), (2, .int (iv v2)), (3, .int (iv 0))]) C dX10_who_44 rfl (by decide) [1, 2, 3, 0] rfl ?_
        refine z_iconst C dX10_who_45 ?_
        refine z_istore (lv' := [(0, .ref (G.2.2 + o0)), (1, .int (iv v1)), (2, .int (iv v2)), (3, .int (iv 0)), (4, .int (iv 0))]) C dX10_who_46 (by decide) [1, 2, 3, 4, 0] rfl ?_
        exact hb48 o0 v1 v2 0 0 M24 gv1 gv2 (by decide) (by decide) h
      ·
        have h := (if_neg e25).symm.trans h
        refine z_aload_n C dX10_who_36 0 rfl ?_
        refine z_iload_n C dX10_who_37 1 rfl ?_
        refine z_iload_n C dX10_who_38 2 rfl ?_
        obtain ⟨k26, h⟩ := gK_inv h
        obtain ⟨r27, hr27, h⟩ := bnd h
        refine y_cVi (st := []) C dX10_who_39 mX10_249 k26 (tX10_ofWho hC o0 v1 v2 gv1 gv2 hr27) rfl rfl (Nat.le_of_ble_eq_true rfl) (by decide) (fun gr27 => ?_)
        exact y_iretB C dX10_who_42 h gr27
    ·
      have h := (if_pos e23).symm.trans h
      refine z_drop (lv' := [(0, .ref (G.2.2 + o0))]) [0] rfl ?_
      exact hb21 o0 M18  h

set_option maxHeartbeats 4000000 in
set_option maxRecDepth 100000 in
theorem tX10_mint {G : Gx} {σ : State} (hC : Cy G σ) (o0 : Nat) (v1 : Int) (v2 : Int) {M0 : Mm} (gv1 : rg v1) (gv2 : rg v2) {R : Int × Mm} (h : uX10_mint o0 v1 v2 M0 = some R) : Ct G σ (3) yX10_mint cX10_mint 5 (some .int) [.ref (G.2.2 + o0), .int (iv v1), .int (iv v2)] M0 0 0 (Qi R.1 R.2) := by
  refine Ct.of hC.1 (by decide +kernel) (Nat.le_of_ble_eq_true rfl) ?_
  intro p l e R0 s m args below meth c C
  show Jz G σ p l e R0 s m args below meth c 5 0 0 (Qi R.1 R.2) M0 0 0 0 [(0, .ref (G.2.2 + o0)), (1, .int (iv v1)), (2, .int (iv v2))] []
  have hb89 : ∀ (v3 : Int) (M : Mm), (rg v3) → uX10_mint_b89 v3 M = some R → Jz G σ p l e R0 s m args below meth c 5 0 0 (Qi R.1 R.2) M 0 0 89 [(3, .int (iv v3))] [] := by
    intro v3 M gv3 h
    unfold uX10_mint_b89 at h
    refine z_iload_n C dX10_mint_89 0 rfl ?_
    exact y_iretB C dX10_mint_90 h gv3
  have hb48 : ∀ (o0 : Nat) (v1 : Int) (v3 : Int) (v4 : Int) (M : Mm), (rg v1) → (rg v3) → (rg v4) → uX10_mint_b48 o0 v1 v3 v4 M = some R → Jz G σ p l e R0 s m args below meth c 5 0 0 (Qi R.1 R.2) M 0 0 48 [(0, .ref (G.2.2 + o0)), (1, .int (iv v1)), (3, .int (iv v3)), (4, .int (iv v4))] [] := by
    intro o0 v1 v3 v4 M gv1 gv3 gv4 h
    unfold uX10_mint_b48 at h
    obtain ⟨b48, hb48_, hc48⟩ := bnd h
    have hL48 : ∀ (n : Nat) (v3 : Int) (v4 : Int), (rg v3) → (rg v4) → lp (uX10_mint_f48 o0 v1 M) n (v3, v4) = some b48 → Jz G σ p l e R0 s m args below meth c 5 0 0 (Qi R.1 R.2) M 0 0 48 [(0, .ref (G.2.2 + o0)), (1, .int (iv v1)), (3, .int (iv v3)), (4, .int (iv v4))] [] := by
      intro n; induction n with
      | zero => intro v3 v4 gv3 gv4 hq; exact (lp_0 hq).elim
      | succ n48 ih48 =>
        intro v3 v4 gv3 gv4 hq
        obtain ⟨z48, h, hZ48⟩ := lp_s hq
        have h : uX10_mint_s48 o0 v1 M v3 v4 = some z48 := h
        unfold uX10_mint_s48 at h
        refine z_iload C dX10_mint_48 3 rfl ?_
        refine z_aload_n C dX10_mint_50 0 rfl ?_
        obtain ⟨on1, hon1, h⟩ := bnd h
        refine y_getR C dX10_mint_51 fX10_13 rfl hon1 ?_
        refine z_bipush C dX10_mint_54 (by decide) ?_
        obtain ⟨x2, hx2, h⟩ := bnd h
        refine y_iald C dX10_mint_56 hx2 (fun gx2 => ?_)
        refine z_icmp_ge 89 C dX10_mint_57 (by decide) gv4 gx2 (fun e3 => ?_) (fun e3 => ?_)
        ·
          have h := (if_pos e3).symm.trans h
          have h : uX10_mint_b89 v3 M = some R := lp_ex (K := (uX10_mint_c48 o0 v1 M)) h hZ48 hc48
          refine z_drop (lv' := [(3, .int (iv v3))]) [2] rfl ?_
          exact hb89 v3 M gv3 h
        ·
          have h := (if_neg e3).symm.trans h
          refine z_aload_n C dX10_mint_60 0 rfl ?_
          obtain ⟨on4, hon4, h⟩ := bnd h
          refine y_getR C dX10_mint_61 fX10_13 rfl hon4 ?_
          refine z_sipush C dX10_mint_64 (by decide) ?_
          refine z_bipush C dX10_mint_67 (by decide) ?_
          refine z_iload C dX10_mint_69 3 rfl ?_
          refine y_imul C dX10_mint_71 ?_
          refine y_iadd C dX10_mint_72 ?_
          refine z_iconst C dX10_mint_73 ?_
          refine y_iadd C dX10_mint_74 ?_
          obtain ⟨x5, hx5, h⟩ := bnd h
          refine y_iald C dX10_mint_75 hx5 (fun gx5 => ?_)
          refine z_iload_n C dX10_mint_76 1 rfl ?_
          refine z_icmp_ne 83 C dX10_mint_77 (by decide) gx5 gv1 (fun e6 => ?_) (fun e6 => ?_)
          ·
            have h := (if_neg e6).symm.trans h
            refine y_iinc (lv' := [(0, .ref (G.2.2 + o0)), (1, .int (iv v1)), (3, .int (iv v3)), (4, .int (iv (w32 (v4 + 1))))]) C dX10_mint_83 3 rfl (by decide) [1, 2, 3, 0] rfl ?_
            refine z_goto 48 C dX10_mint_86 (by decide) ?_
            exact ih48 v3 (w32 (v4 + 1)) gv3 (w32_rng _) (lp_back h hZ48)
          ·
            have h := (if_pos e6).symm.trans h
            refine y_iinc (lv' := [(0, .ref (G.2.2 + o0)), (1, .int (iv v1)), (3, .int (iv (w32 (v3 + 1)))), (4, .int (iv v4))]) C dX10_mint_80 2 rfl (by decide) [1, 2, 0, 3] rfl ?_
            refine y_iinc (lv' := [(0, .ref (G.2.2 + o0)), (1, .int (iv v1)), (3, .int (iv (w32 (v3 + 1)))), (4, .int (iv (w32 (v4 + 1))))]) C dX10_mint_83 3 rfl (by decide) [1, 2, 3, 0] rfl ?_
            refine z_goto 48 C dX10_mint_86 (by decide) ?_
            exact ih48 (w32 (v3 + 1)) (w32 (v4 + 1)) (w32_rng _) (w32_rng _) (lp_back h hZ48)
    exact hL48 _ v3 v4 gv3 gv4 hb48_
  have hb21 : ∀ (o0 : Nat) (M : Mm), uX10_mint_b21 o0 M = some R → Jz G σ p l e R0 s m args below meth c 5 0 0 (Qi R.1 R.2) M 0 0 21 [(0, .ref (G.2.2 + o0))] [] := by
    intro o0 M  h
    unfold uX10_mint_b21 at h
    refine z_aload_n C dX10_mint_21 0 rfl ?_
    obtain ⟨k7, h⟩ := gK_inv h
    obtain ⟨r8, M9, hr8, h⟩ := bnd2 h
    refine y_cVi (st := []) C dX10_mint_22 mX10_246 k7 (tX10_refuse hC o0  hr8) rfl rfl (Nat.le_of_ble_eq_true rfl) (by decide) (fun gr8 => ?_)
    exact y_iretB C dX10_mint_25 h gr8
  unfold uX10_mint at h
  refine z_aload_n C dX10_mint_0 0 rfl ?_
  obtain ⟨k10, h⟩ := gK_inv h
  obtain ⟨M11, hM11, h⟩ := bnd h
  refine y_cVv (st := []) C dX10_mint_1 mX10_167 k10 (tX10_lay hC o0  hM11) rfl rfl (Nat.le_of_ble_eq_true rfl) (by decide) ?_
  refine z_aload_n C dX10_mint_4 0 rfl ?_
  refine z_iload_n C dX10_mint_5 1 rfl ?_
  obtain ⟨k12, h⟩ := gK_inv h
  obtain ⟨r13, hr13, h⟩ := bnd h
  refine y_cVb (st := []) C dX10_mint_6 mX10_259 k12 (tX10_isMint hC o0 v1 gv1 hr13) rfl rfl (Nat.le_of_ble_eq_true rfl) (by decide) (fun br13 => ?_)
  refine z_if_eq 21 C dX10_mint_9 (by decide) (rg01 br13) (fun e14 => ?_) (fun e14 => ?_)
  ·
    have h := (if_pos e14).symm.trans h
    refine z_drop (lv' := [(0, .ref (G.2.2 + o0))]) [0] rfl ?_
    exact hb21 o0 M11  h
  ·
    have h := (if_neg e14).symm.trans h
    refine z_iload_n C dX10_mint_12 2 rfl ?_
    refine z_iconst C dX10_mint_13 ?_
    refine z_iconst C dX10_mint_14 ?_
    obtain ⟨r15, hr15, h⟩ := bnd h
    refine y_cSb (st := []) C dX10_mint_15 mX10_154 (tX10_isIn hC v2 0 3 gv2 (by decide) (by decide) hr15) rfl rfl (Nat.le_of_ble_eq_true rfl) (by decide) (fun br15 => ?_)
    refine z_if_ne 26 C dX10_mint_18 (by decide) (rg01 br15) (fun e16 => ?_) (fun e16 => ?_)
    ·
      have h := (if_neg e16).symm.trans h
      refine z_aload_n C dX10_mint_26 0 rfl ?_
      refine z_iconst C dX10_mint_27 ?_
      obtain ⟨M17, hM17, h⟩ := bnd h
      refine y_putI C dX10_mint_28 fX10_83 rfl rfl rfl rfl hM17 ?_
      refine z_iload_n C dX10_mint_31 2 rfl ?_
      refine z_iconst C dX10_mint_32 ?_
      refine z_icmp_ge 43 C dX10_mint_33 (by decide) gv2 (by decide) (fun e18 => ?_) (fun e18 => ?_)
      ·
        have h := (if_pos e18).symm.trans h
        refine z_iconst C dX10_mint_43 ?_
        refine z_istore_n (lv' := [(0, .ref (G.2.2 + o0)), (1, .int (iv v1)), (2, .int (iv v2)), (3, .int (iv 0))]) C dX10_mint_44 rfl (by decide) [1, 2, 3, 0] rfl ?_
        refine z_iconst C dX10_mint_45 ?_
        refine z_istore (lv' := [(0, .ref (G.2.2 + o0)), (1, .int (iv v1)), (2, .int (iv v2)), (3, .int (iv 0)), (4, .int (iv 0))]) C dX10_mint_46 (by decide) [1, 2, 3, 4, 0] rfl ?_
        refine z_drop (lv' := [(0, .ref (G.2.2 + o0)), (1, .int (iv v1)), (3, .int (iv 0)), (4, .int (iv 0))]) [0, 1, 3, 4] rfl ?_
        exact hb48 o0 v1 0 0 M17 gv1 (by decide) (by decide) h
      ·
        have h := (if_neg e18).symm.trans h
        refine z_aload_n C dX10_mint_36 0 rfl ?_
        refine z_iload_n C dX10_mint_37 1 rfl ?_
        refine z_iload_n C dX10_mint_38 2 rfl ?_
        obtain ⟨k19, h⟩ := gK_inv h
        obtain ⟨r20, hr20, h⟩ := bnd h
        refine y_cVi (st := []) C dX10_mint_39 mX10_262 k19 (tX10_ofMint hC o0 v1 v2 gv1 gv2 hr20) rfl rfl (Nat.le_of_ble_eq_true rfl) (by decide) (fun gr20 => ?_)
        exact y_iretB C dX10_mint_42 h gr20
    ·
      have h := (if_pos e16).symm.trans h
      refine z_drop (lv' := [(0, .ref (G.2.2 + o0))]) [0] rfl ?_
      exact hb21 o0 M11  h

set_option maxHeartbeats 4000000 in
set_option maxRecDepth 100000 in
theorem tX10_wrongAt {G : Gx} {σ : State} (hC : Cy G σ) (o0 : Nat) (v1 : Int) (v2 : Int) {M0 : Mm} (gv1 : rg v1) (gv2 : rg v2) {R : Int} (h : uX10_wrongAt o0 v1 v2 M0 = some R) : Ct G σ (3) yX10_wrongAt cX10_wrongAt 3 (some .int) [.ref (G.2.2 + o0), .int (iv v1), .int (iv v2)] M0 0 0 (Qi R M0) := by
  refine Ct.of hC.1 (by decide +kernel) (Nat.le_of_ble_eq_true rfl) ?_
  intro p l e R0 s m args below meth c C
  show Jz G σ p l e R0 s m args below meth c 3 0 0 (Qi R M0) M0 0 0 0 [(0, .ref (G.2.2 + o0)), (1, .int (iv v1)), (2, .int (iv v2))] []
  unfold uX10_wrongAt at h
  refine z_aload_n C dX10_wrongAt_0 0 rfl ?_
  refine z_aload_n C dX10_wrongAt_1 0 rfl ?_
  refine z_iload_n C dX10_wrongAt_2 1 rfl ?_
  refine z_iconst C dX10_wrongAt_3 ?_
  obtain ⟨k1, h⟩ := gK_inv h
  obtain ⟨r2, hr2, h⟩ := bnd h
  refine y_cVi (st := [.ref (G.2.2 + o0)]) C dX10_wrongAt_4 mX10_256 k1 (tX10_ofCoin hC o0 v1 0 gv1 (by decide) hr2) rfl rfl (Nat.le_of_ble_eq_true rfl) (by decide) (fun gr2 => ?_)
  refine z_aload_n C dX10_wrongAt_7 0 rfl ?_
  refine z_iload_n C dX10_wrongAt_8 1 rfl ?_
  refine z_iconst C dX10_wrongAt_9 ?_
  obtain ⟨k3, h⟩ := gK_inv h
  obtain ⟨r4, hr4, h⟩ := bnd h
  refine y_cVi (st := [.int (iv r2), .ref (G.2.2 + o0)]) C dX10_wrongAt_10 mX10_256 k3 (tX10_ofCoin hC o0 v1 2 gv1 (by decide) hr4) rfl rfl (Nat.le_of_ble_eq_true rfl) (by decide) (fun gr4 => ?_)
  refine z_iload_n C dX10_wrongAt_13 2 rfl ?_
  obtain ⟨k5, h⟩ := gK_inv h
  obtain ⟨r6, hr6, h⟩ := bnd h
  refine y_cVi (st := []) C dX10_wrongAt_14 mX10_265 k5 (tX10_wrongStroke hC o0 r2 r4 v2 gr2 gr4 gv2 hr6) rfl rfl (Nat.le_of_ble_eq_true rfl) (by decide) (fun gr6 => ?_)
  exact y_iretP C dX10_wrongAt_17 h gr6

set_option maxHeartbeats 4000000 in
set_option maxRecDepth 100000 in
theorem tX10_coin {G : Gx} {σ : State} (hC : Cy G σ) (o0 : Nat) (v1 : Int) (v2 : Int) (v3 : Int) {M0 : Mm} (gv1 : rg v1) (gv2 : rg v2) (gv3 : rg v3) {R : Int × Mm} (h : uX10_coin o0 v1 v2 v3 M0 = some R) : Ct G σ (3) yX10_coin cX10_coin 7 (some .int) [.ref (G.2.2 + o0), .int (iv v1), .int (iv v2), .int (iv v3)] M0 0 0 (Qi R.1 R.2) := by
  refine Ct.of hC.1 (by decide +kernel) (Nat.le_of_ble_eq_true rfl) ?_
  intro p l e R0 s m args below meth c C
  show Jz G σ p l e R0 s m args below meth c 7 0 0 (Qi R.1 R.2) M0 0 0 0 [(0, .ref (G.2.2 + o0)), (1, .int (iv v1)), (2, .int (iv v2)), (3, .int (iv v3))] []
  have hb121 : ∀ (o0 : Nat) (v1 : Int) (v2 : Int) (v3 : Int) (v4 : Int) (v5 : Int) (M : Mm), (rg v1) → (rg v2) → (rg v3) → (rg v4) → (rg v5) → uX10_coin_b121 o0 v1 v2 v3 v4 v5 M = some R → Jz G σ p l e R0 s m args below meth c 7 0 0 (Qi R.1 R.2) M 0 0 121 [(0, .ref (G.2.2 + o0)), (1, .int (iv v1)), (2, .int (iv v2)), (3, .int (iv v3)), (4, .int (iv v4)), (5, .int (iv v5))] [] := by
    intro o0 v1 v2 v3 v4 v5 M gv1 gv2 gv3 gv4 gv5 h
    unfold uX10_coin_b121 at h
    refine z_aload_n C dX10_coin_121 0 rfl ?_
    obtain ⟨on1, hon1, h⟩ := bnd h
    refine y_getR C dX10_coin_122 fX10_13 rfl hon1 ?_
    refine z_iload C dX10_coin_125 5 rfl ?_
    refine z_iconst C dX10_coin_127 ?_
    refine y_iadd C dX10_coin_128 ?_
    refine z_iload_n C dX10_coin_129 2 rfl ?_
    obtain ⟨M2, hM2, h⟩ := bnd h
    refine y_iast C dX10_coin_130 hM2 ?_
    refine z_aload_n C dX10_coin_131 0 rfl ?_
    obtain ⟨on3, hon3, h⟩ := bnd h
    refine y_getR C dX10_coin_132 fX10_13 rfl hon3 ?_
    refine z_iload C dX10_coin_135 5 rfl ?_
    refine z_iconst C dX10_coin_137 ?_
    refine y_iadd C dX10_coin_138 ?_
    refine z_iload_n C dX10_coin_139 1 rfl ?_
    obtain ⟨M4, hM4, h⟩ := bnd h
    refine y_iast C dX10_coin_140 hM4 ?_
    refine z_aload_n C dX10_coin_141 0 rfl ?_
    obtain ⟨on5, hon5, h⟩ := bnd h
    refine y_getR C dX10_coin_142 fX10_13 rfl hon5 ?_
    refine z_bipush C dX10_coin_145 (by decide) ?_
    refine z_dup2 C dX10_coin_147 rfl rfl ?_
    obtain ⟨x6, hx6, h⟩ := bnd h
    refine y_iald C dX10_coin_148 hx6 (fun gx6 => ?_)
    refine z_iconst C dX10_coin_149 ?_
    refine y_iadd C dX10_coin_150 ?_
    obtain ⟨M7, hM7, h⟩ := bnd h
    refine y_iast C dX10_coin_151 hM7 ?_
    refine z_aload_n C dX10_coin_152 0 rfl ?_
    obtain ⟨on8, hon8, h⟩ := bnd h
    refine y_getR C dX10_coin_153 fX10_13 rfl hon8 ?_
    refine z_bipush C dX10_coin_156 (by decide) ?_
    refine z_dup2 C dX10_coin_158 rfl rfl ?_
    obtain ⟨x9, hx9, h⟩ := bnd h
    refine y_iald C dX10_coin_159 hx9 (fun gx9 => ?_)
    refine z_iload_n C dX10_coin_160 2 rfl ?_
    refine y_iadd C dX10_coin_161 ?_
    obtain ⟨M10, hM10, h⟩ := bnd h
    refine y_iast C dX10_coin_162 hM10 ?_
    refine z_aload_n C dX10_coin_163 0 rfl ?_
    refine z_iload C dX10_coin_164 4 rfl ?_
    refine z_iload_n C dX10_coin_166 1 rfl ?_
    refine z_iload_n C dX10_coin_167 3 rfl ?_
    refine z_iconst C dX10_coin_168 ?_
    refine z_iconst C dX10_coin_169 ?_
    obtain ⟨k11, h⟩ := gK_inv h
    obtain ⟨M12, hM12, h⟩ := bnd h
    refine y_cVv (st := []) C dX10_coin_170 mX10_275 k11 (tX10_strike hC o0 v4 v1 v3 (-1) 0 gv4 gv1 gv3 (by decide) (by decide) hM12) rfl rfl (Nat.le_of_ble_eq_true rfl) (by decide) ?_
    refine z_iload C dX10_coin_173 4 rfl ?_
    exact y_iretB C dX10_coin_175 h gv4
  have hb97 : ∀ (o0 : Nat) (v1 : Int) (v2 : Int) (v3 : Int) (v4 : Int) (v5 : Int) (v6 : Int) (M : Mm), (rg v1) → (rg v2) → (rg v3) → (rg v4) → (rg v5) → (rg v6) → uX10_coin_b97 o0 v1 v2 v3 v4 v5 v6 M = some R → Jz G σ p l e R0 s m args below meth c 7 0 0 (Qi R.1 R.2) M 0 0 97 [(0, .ref (G.2.2 + o0)), (1, .int (iv v1)), (2, .int (iv v2)), (3, .int (iv v3)), (4, .int (iv v4)), (5, .int (iv v5)), (6, .int (iv v6))] [] := by
    intro o0 v1 v2 v3 v4 v5 v6 M gv1 gv2 gv3 gv4 gv5 gv6 h
    unfold uX10_coin_b97 at h
    obtain ⟨b97, hb97_, hc97⟩ := bnd h
    have hL97 : ∀ (n : Nat) (v6 : Int) (M : Mm), (rg v6) → lp (uX10_coin_f97 o0 v1 v2 v3 v4 v5) n (v6, M) = some b97 → Jz G σ p l e R0 s m args below meth c 7 0 0 (Qi R.1 R.2) M 0 0 97 [(0, .ref (G.2.2 + o0)), (1, .int (iv v1)), (2, .int (iv v2)), (3, .int (iv v3)), (4, .int (iv v4)), (5, .int (iv v5)), (6, .int (iv v6))] [] := by
      intro n; induction n with
      | zero => intro v6 M gv6 hq; exact (lp_0 hq).elim
      | succ n97 ih97 =>
        intro v6 M gv6 hq
        obtain ⟨z97, h, hZ97⟩ := lp_s hq
        have h : uX10_coin_s97 o0 v1 v2 v3 v4 v5 v6 M = some z97 := h
        unfold uX10_coin_s97 at h
        refine z_iload C dX10_coin_97 6 rfl ?_
        refine z_bipush C dX10_coin_99 (by decide) ?_
        refine z_icmp_ge 121 C dX10_coin_101 (by decide) gv6 (by decide) (fun e13 => ?_) (fun e13 => ?_)
        ·
          have h := (if_pos e13).symm.trans h
          have h : uX10_coin_b121 o0 v1 v2 v3 v4 v5 M = some R := lp_ex (K := (uX10_coin_c97 o0 v1 v2 v3 v4 v5)) h hZ97 hc97
          refine z_drop (lv' := [(0, .ref (G.2.2 + o0)), (1, .int (iv v1)), (2, .int (iv v2)), (3, .int (iv v3)), (4, .int (iv v4)), (5, .int (iv v5))]) [0, 1, 2, 3, 4, 5] rfl ?_
          exact hb121 o0 v1 v2 v3 v4 v5 M gv1 gv2 gv3 gv4 gv5 h
        ·
          have h := (if_neg e13).symm.trans h
          refine z_aload_n C dX10_coin_104 0 rfl ?_
          obtain ⟨on14, hon14, h⟩ := bnd h
          refine y_getR C dX10_coin_105 fX10_13 rfl hon14 ?_
          refine z_iload C dX10_coin_108 5 rfl ?_
          refine z_iload C dX10_coin_110 6 rfl ?_
          refine y_iadd C dX10_coin_112 ?_
          refine z_iconst C dX10_coin_113 ?_
          obtain ⟨M15, hM15, h⟩ := bnd h
          refine y_iast C dX10_coin_114 hM15 ?_
          refine y_iinc (lv' := [(0, .ref (G.2.2 + o0)), (1, .int (iv v1)), (2, .int (iv v2)), (3, .int (iv v3)), (4, .int (iv v4)), (5, .int (iv v5)), (6, .int (iv (w32 (v6 + 1))))]) C dX10_coin_115 6 rfl (by decide) [1, 2, 3, 4, 5, 6, 0] rfl ?_
          refine z_goto 97 C dX10_coin_118 (by decide) ?_
          exact ih97 (w32 (v6 + 1)) M15 (w32_rng _) (lp_back h hZ97)
    exact hL97 _ v6 M gv6 hb97_
  unfold uX10_coin at h
  refine z_aload_n C dX10_coin_0 0 rfl ?_
  refine z_iconst C dX10_coin_1 ?_
  obtain ⟨M16, hM16, h⟩ := bnd h
  refine y_putI C dX10_coin_2 fX10_83 rfl rfl rfl rfl hM16 ?_
  refine z_aload_n C dX10_coin_5 0 rfl ?_
  obtain ⟨k17, h⟩ := gK_inv h
  obtain ⟨M18, hM18, h⟩ := bnd h
  refine y_cVv (st := []) C dX10_coin_6 mX10_167 k17 (tX10_lay hC o0  hM18) rfl rfl (Nat.le_of_ble_eq_true rfl) (by decide) ?_
  refine z_aload_n C dX10_coin_9 0 rfl ?_
  refine z_iload_n C dX10_coin_10 1 rfl ?_
  obtain ⟨k19, h⟩ := gK_inv h
  obtain ⟨r20, hr20, h⟩ := bnd h
  refine y_cVb (st := []) C dX10_coin_11 mX10_243 k19 (tX10_isWho hC o0 v1 gv1 hr20) rfl rfl (Nat.le_of_ble_eq_true rfl) (by decide) (fun br20 => ?_)
  refine z_if_eq 72 C dX10_coin_14 (by decide) (rg01 br20) (fun e21 => ?_) (fun e21 => ?_)
  ·
    have h := (if_pos e21).symm.trans h
    refine z_iconst C dX10_coin_72 ?_
    exact y_iretB C dX10_coin_73 h (by decide)
  ·
    have h := (if_neg e21).symm.trans h
    refine z_aload_n C dX10_coin_17 0 rfl ?_
    refine z_iload_n C dX10_coin_18 1 rfl ?_
    refine z_iconst C dX10_coin_19 ?_
    obtain ⟨k22, h⟩ := gK_inv h
    obtain ⟨r23, hr23, h⟩ := bnd h
    refine y_cVi (st := []) C dX10_coin_20 mX10_249 k22 (tX10_ofWho hC o0 v1 2 gv1 (by decide) hr23) rfl rfl (Nat.le_of_ble_eq_true rfl) (by decide) (fun gr23 => ?_)
    refine z_if_gt 72 C dX10_coin_23 (by decide) gr23 (fun e24 => ?_) (fun e24 => ?_)
    ·
      have h := (if_pos e24).symm.trans h
      refine z_iconst C dX10_coin_72 ?_
      exact y_iretB C dX10_coin_73 h (by decide)
    ·
      have h := (if_neg e24).symm.trans h
      refine z_iload_n C dX10_coin_26 2 rfl ?_
      refine z_iconst C dX10_coin_27 ?_
      refine z_sipush C dX10_coin_28 (by decide) ?_
      obtain ⟨r25, hr25, h⟩ := bnd h
      refine y_cSb (st := []) C dX10_coin_31 mX10_154 (tX10_isIn hC v2 1 9999 gv2 (by decide) (by decide) hr25) rfl rfl (Nat.le_of_ble_eq_true rfl) (by decide) (fun br25 => ?_)
      refine z_if_eq 72 C dX10_coin_34 (by decide) (rg01 br25) (fun e26 => ?_) (fun e26 => ?_)
      ·
        have h := (if_pos e26).symm.trans h
        refine z_iconst C dX10_coin_72 ?_
        exact y_iretB C dX10_coin_73 h (by decide)
      ·
        have h := (if_neg e26).symm.trans h
        refine z_aload_n C dX10_coin_37 0 rfl ?_
        refine z_iload_n C dX10_coin_38 3 rfl ?_
        obtain ⟨k27, h⟩ := gK_inv h
        obtain ⟨r28, hr28, h⟩ := bnd h
        refine y_cVb (st := []) C dX10_coin_39 mX10_259 k27 (tX10_isMint hC o0 v3 gv3 hr28) rfl rfl (Nat.le_of_ble_eq_true rfl) (by decide) (fun br28 => ?_)
        refine z_if_eq 72 C dX10_coin_42 (by decide) (rg01 br28) (fun e29 => ?_) (fun e29 => ?_)
        ·
          have h := (if_pos e29).symm.trans h
          refine z_iconst C dX10_coin_72 ?_
          exact y_iretB C dX10_coin_73 h (by decide)
        ·
          have h := (if_neg e29).symm.trans h
          refine z_aload_n C dX10_coin_45 0 rfl ?_
          obtain ⟨k30, h⟩ := gK_inv h
          obtain ⟨r31, hr31, h⟩ := bnd h
          refine y_cVi (st := []) C dX10_coin_46 mX10_188 k30 (tX10_coins hC o0  hr31) rfl rfl (Nat.le_of_ble_eq_true rfl) (by decide) (fun gr31 => ?_)
          refine z_bipush C dX10_coin_49 (by decide) ?_
          refine z_icmp_eq 72 C dX10_coin_51 (by decide) gr31 (by decide) (fun e32 => ?_) (fun e32 => ?_)
          ·
            have h := (if_pos e32).symm.trans h
            refine z_iconst C dX10_coin_72 ?_
            exact y_iretB C dX10_coin_73 h (by decide)
          ·
            have h := (if_neg e32).symm.trans h
            refine z_aload_n C dX10_coin_54 0 rfl ?_
            refine z_iconst C dX10_coin_55 ?_
            obtain ⟨k33, h⟩ := gK_inv h
            obtain ⟨r34, hr34, h⟩ := bnd h
            refine y_cVb (st := []) C dX10_coin_56 mX10_269 k33 (tX10_isFull hC o0 1 (by decide) hr34) rfl rfl (Nat.le_of_ble_eq_true rfl) (by decide) (fun br34 => ?_)
            refine z_if_ne 72 C dX10_coin_59 (by decide) (rg01 br34) (fun e35 => ?_) (fun e35 => ?_)
            ·
              have h := (if_neg e35).symm.trans h
              refine z_iconst C dX10_coin_72 ?_
              exact y_iretB C dX10_coin_73 h (by decide)
            ·
              have h := (if_pos e35).symm.trans h
              refine z_aload_n C dX10_coin_62 0 rfl ?_
              refine z_iload_n C dX10_coin_63 2 rfl ?_
              refine z_iconst C dX10_coin_64 ?_
              refine z_iload_n C dX10_coin_65 3 rfl ?_
              obtain ⟨k36, h⟩ := gK_inv h
              obtain ⟨r37, hr37, h⟩ := bnd h
              refine y_cVi (st := []) C dX10_coin_66 mX10_265 k36 (tX10_wrongStroke hC o0 v2 0 v3 gv2 (by decide) gv3 hr37) rfl rfl (Nat.le_of_ble_eq_true rfl) (by decide) (fun gr37 => ?_)
              refine z_if_eq 74 C dX10_coin_69 (by decide) gr37 (fun e38 => ?_) (fun e38 => ?_)
              ·
                have h := (if_pos e38).symm.trans h
                refine z_aload_n C dX10_coin_74 0 rfl ?_
                obtain ⟨k39, h⟩ := gK_inv h
                obtain ⟨M40, hM40, h⟩ := bnd h
                refine y_cVv (st := []) C dX10_coin_75 mX10_272 k39 (tX10_snap hC o0  hM40) rfl rfl (Nat.le_of_ble_eq_true rfl) (by decide) ?_
                refine z_aload_n C dX10_coin_78 0 rfl ?_
                obtain ⟨k41, h⟩ := gK_inv h
                obtain ⟨r42, hr42, h⟩ := bnd h
                refine y_cVi (st := []) C dX10_coin_79 mX10_188 k41 (tX10_coins hC o0  hr42) rfl rfl (Nat.le_of_ble_eq_true rfl) (by decide) (fun gr42 => ?_)
                refine z_istore (lv' := [(0, .ref (G.2.2 + o0)), (1, .int (iv v1)), (2, .int (iv v2)), (3, .int (iv v3)), (4, .int (iv r42))]) C dX10_coin_82 (by decide) [1, 2, 3, 4, 0] rfl ?_
                refine z_bipush C dX10_coin_84 (by decide) ?_
                refine z_bipush C dX10_coin_86 (by decide) ?_
                refine z_iload C dX10_coin_88 4 rfl ?_
                refine y_imul C dX10_coin_90 ?_
                refine y_iadd C dX10_coin_91 ?_
                refine z_istore (lv' := [(0, .ref (G.2.2 + o0)), (1, .int (iv v1)), (2, .int (iv v2)), (3, .int (iv v3)), (4, .int (iv r42)), (5, .int (iv (w32 (120 + (w32 (32 * r42))))))]) C dX10_coin_92 (by decide) [1, 2, 3, 4, 5, 0] rfl ?_
                refine z_iconst C dX10_coin_94 ?_
                refine z_istore (lv' := [(0, .ref (G.2.2 + o0)), (1, .int (iv v1)), (2, .int (iv v2)), (3, .int (iv v3)), (4, .int (iv r42)), (5, .int (iv (w32 (120 + (w32 (32 * r42)))))), (6, .int (iv 0))]) C dX10_coin_95 (by decide) [1, 2, 3, 4, 5, 6, 0] rfl ?_
                exact hb97 o0 v1 v2 v3 r42 (w32 (120 + (w32 (32 * r42)))) 0 M40 gv1 gv2 gv3 gr42 (w32_rng _) (by decide) h
              ·
                have h := (if_neg e38).symm.trans h
                refine z_iconst C dX10_coin_72 ?_
                exact y_iretB C dX10_coin_73 h (by decide)

set_option maxHeartbeats 4000000 in
set_option maxRecDepth 100000 in
theorem tX10_showsFalse {G : Gx} {σ : State} (hC : Cy G σ) (o0 : Nat) (v1 : Int) {M0 : Mm} (gv1 : rg v1) {R : Int} (h : uX10_showsFalse o0 v1 M0 = some R) : Ct G σ (3) yX10_showsFalse cX10_showsFalse 4 (some .int) [.ref (G.2.2 + o0), .int (iv v1)] M0 0 0 (Qi R M0) := by
  refine Ct.of hC.1 (by decide +kernel) (Nat.le_of_ble_eq_true rfl) ?_
  intro p l e R0 s m args below meth c C
  show Jz G σ p l e R0 s m args below meth c 4 0 0 (Qi R M0) M0 0 0 0 [(0, .ref (G.2.2 + o0)), (1, .int (iv v1))] []
  have hb29 : ∀ (v2 : Int), (rg v2) → uX10_showsFalse_b29 v2 M0 = some R → Jz G σ p l e R0 s m args below meth c 4 0 0 (Qi R M0) M0 0 0 29 [(2, .int (iv v2))] [] := by
    intro v2  gv2 h
    unfold uX10_showsFalse_b29 at h
    refine z_iload_n C dX10_showsFalse_29 0 rfl ?_
    exact y_iretP C dX10_showsFalse_30 h gv2
  have hb4 : ∀ (o0 : Nat) (v1 : Int) (v2 : Int) (v3 : Int), (rg v1) → (rg v2) → (rg v3) → uX10_showsFalse_b4 o0 v1 v2 v3 M0 = some R → Jz G σ p l e R0 s m args below meth c 4 0 0 (Qi R M0) M0 0 0 4 [(0, .ref (G.2.2 + o0)), (1, .int (iv v1)), (2, .int (iv v2)), (3, .int (iv v3))] [] := by
    intro o0 v1 v2 v3  gv1 gv2 gv3 h
    unfold uX10_showsFalse_b4 at h
    obtain ⟨b4, hb4_, hc4⟩ := bnd h
    have hL4 : ∀ (n : Nat) (v2 : Int) (v3 : Int), (rg v2) → (rg v3) → lp (uX10_showsFalse_f4 o0 v1 M0) n (v2, v3) = some b4 → Jz G σ p l e R0 s m args below meth c 4 0 0 (Qi R M0) M0 0 0 4 [(0, .ref (G.2.2 + o0)), (1, .int (iv v1)), (2, .int (iv v2)), (3, .int (iv v3))] [] := by
      intro n; induction n with
      | zero => intro v2 v3 gv2 gv3 hq; exact (lp_0 hq).elim
      | succ n4 ih4 =>
        intro v2 v3 gv2 gv3 hq
        obtain ⟨z4, h, hZ4⟩ := lp_s hq
        have h : uX10_showsFalse_s4 o0 v1 M0 v2 v3 = some z4 := h
        unfold uX10_showsFalse_s4 at h
        refine z_iload_n C dX10_showsFalse_4 3 rfl ?_
        refine z_aload_n C dX10_showsFalse_5 0 rfl ?_
        refine z_iload_n C dX10_showsFalse_6 1 rfl ?_
        refine z_iconst C dX10_showsFalse_7 ?_
        obtain ⟨k1, h⟩ := gK_inv h
        obtain ⟨r2, hr2, h⟩ := bnd h
        refine y_cVi (st := [.int (iv v3)]) C dX10_showsFalse_8 mX10_256 k1 (tX10_ofCoin hC o0 v1 3 gv1 (by decide) hr2) rfl rfl (Nat.le_of_ble_eq_true rfl) (by decide) (fun gr2 => ?_)
        refine z_icmp_ge 29 C dX10_showsFalse_11 (by decide) gv3 gr2 (fun e3 => ?_) (fun e3 => ?_)
        ·
          have h := (if_pos e3).symm.trans h
          have h : uX10_showsFalse_b29 v2 M0 = some R := lp_ex (K := (uX10_showsFalse_c4 o0 v1 M0)) h hZ4 hc4
          refine z_drop (lv' := [(2, .int (iv v2))]) [2] rfl ?_
          exact hb29 v2  gv2 h
        ·
          have h := (if_neg e3).symm.trans h
          refine z_iload_n C dX10_showsFalse_14 2 rfl ?_
          refine z_aload_n C dX10_showsFalse_15 0 rfl ?_
          refine z_iload_n C dX10_showsFalse_16 1 rfl ?_
          refine z_iload_n C dX10_showsFalse_17 3 rfl ?_
          obtain ⟨k4, h⟩ := gK_inv h
          obtain ⟨r5, hr5, h⟩ := bnd h
          refine y_cVi (st := [.int (iv v2)]) C dX10_showsFalse_18 mX10_279 k4 (tX10_faceFalse hC o0 v1 v3 gv1 gv3 hr5) rfl rfl (Nat.le_of_ble_eq_true rfl) (by decide) (fun gr5 => ?_)
          refine z_ior (or32 v2 r5) C dX10_showsFalse_21 (iv_self _).symm ?_
          refine z_istore_n (lv' := [(0, .ref (G.2.2 + o0)), (1, .int (iv v1)), (2, .int (iv (or32 v2 r5))), (3, .int (iv v3))]) C dX10_showsFalse_22 rfl (by decide) [1, 2, 0, 3] rfl ?_
          refine y_iinc (lv' := [(0, .ref (G.2.2 + o0)), (1, .int (iv v1)), (2, .int (iv (or32 v2 r5))), (3, .int (iv (w32 (v3 + 1))))]) C dX10_showsFalse_23 3 rfl (by decide) [1, 2, 3, 0] rfl ?_
          refine z_goto 4 C dX10_showsFalse_26 (by decide) ?_
          exact ih4 (or32 v2 r5) (w32 (v3 + 1)) (or32_rng _ _) (w32_rng _) (lp_back h hZ4)
    exact hL4 _ v2 v3 gv2 gv3 hb4_
  unfold uX10_showsFalse at h
  refine z_iconst C dX10_showsFalse_0 ?_
  refine z_istore_n (lv' := [(0, .ref (G.2.2 + o0)), (1, .int (iv v1)), (2, .int (iv 0))]) C dX10_showsFalse_1 rfl (by decide) [1, 2, 0] rfl ?_
  refine z_iconst C dX10_showsFalse_2 ?_
  refine z_istore_n (lv' := [(0, .ref (G.2.2 + o0)), (1, .int (iv v1)), (2, .int (iv 0)), (3, .int (iv 0))]) C dX10_showsFalse_3 rfl (by decide) [1, 2, 3, 0] rfl ?_
  exact hb4 o0 v1 0 0  gv1 (by decide) (by decide) h

set_option maxHeartbeats 4000000 in
set_option maxRecDepth 100000 in
theorem tX10_face {G : Gx} {σ : State} (hC : Cy G σ) (o0 : Nat) (v1 : Int) (v2 : Int) (v3 : Int) {M0 : Mm} (gv1 : rg v1) (gv2 : rg v2) (gv3 : rg v3) {R : Int × Mm} (h : uX10_face o0 v1 v2 v3 M0 = some R) : Ct G σ (3) yX10_face cX10_face 4 (some .int) [.ref (G.2.2 + o0), .int (iv v1), .int (iv v2), .int (iv v3)] M0 0 0 (Qi R.1 R.2) := by
  refine Ct.of hC.1 (by decide +kernel) (Nat.le_of_ble_eq_true rfl) ?_
  intro p l e R0 s m args below meth c C
  show Jz G σ p l e R0 s m args below meth c 4 0 0 (Qi R.1 R.2) M0 0 0 0 [(0, .ref (G.2.2 + o0)), (1, .int (iv v1)), (2, .int (iv v2)), (3, .int (iv v3))] []
  unfold uX10_face at h
  refine z_aload_n C dX10_face_0 0 rfl ?_
  refine z_iconst C dX10_face_1 ?_
  obtain ⟨M1, hM1, h⟩ := bnd h
  refine y_putI C dX10_face_2 fX10_83 rfl rfl rfl rfl hM1 ?_
  refine z_aload_n C dX10_face_5 0 rfl ?_
  obtain ⟨k2, h⟩ := gK_inv h
  obtain ⟨M3, hM3, h⟩ := bnd h
  refine y_cVv (st := []) C dX10_face_6 mX10_167 k2 (tX10_lay hC o0  hM3) rfl rfl (Nat.le_of_ble_eq_true rfl) (by decide) ?_
  refine z_aload_n C dX10_face_9 0 rfl ?_
  refine z_iload_n C dX10_face_10 1 rfl ?_
  obtain ⟨k4, h⟩ := gK_inv h
  obtain ⟨r5, hr5, h⟩ := bnd h
  refine y_cVb (st := []) C dX10_face_11 mX10_282 k4 (tX10_isCoin hC o0 v1 gv1 hr5) rfl rfl (Nat.le_of_ble_eq_true rfl) (by decide) (fun br5 => ?_)
  refine z_if_eq 55 C dX10_face_14 (by decide) (rg01 br5) (fun e6 => ?_) (fun e6 => ?_)
  ·
    have h := (if_pos e6).symm.trans h
    refine z_iconst C dX10_face_55 ?_
    exact y_iretB C dX10_face_56 h (by decide)
  ·
    have h := (if_neg e6).symm.trans h
    refine z_iload_n C dX10_face_17 2 rfl ?_
    refine z_if_lt 55 C dX10_face_18 (by decide) gv2 (fun e7 => ?_) (fun e7 => ?_)
    ·
      have h := (if_pos e7).symm.trans h
      refine z_iconst C dX10_face_55 ?_
      exact y_iretB C dX10_face_56 h (by decide)
    ·
      have h := (if_neg e7).symm.trans h
      refine z_iload_n C dX10_face_21 2 rfl ?_
      refine z_aload_n C dX10_face_22 0 rfl ?_
      refine z_iload_n C dX10_face_23 1 rfl ?_
      refine z_iconst C dX10_face_24 ?_
      obtain ⟨k8, h⟩ := gK_inv h
      obtain ⟨r9, hr9, h⟩ := bnd h
      refine y_cVi (st := [.int (iv v2)]) C dX10_face_25 mX10_256 k8 (tX10_ofCoin hC o0 v1 3 gv1 (by decide) hr9) rfl rfl (Nat.le_of_ble_eq_true rfl) (by decide) (fun gr9 => ?_)
      refine z_icmp_ge 55 C dX10_face_28 (by decide) gv2 gr9 (fun e10 => ?_) (fun e10 => ?_)
      ·
        have h := (if_pos e10).symm.trans h
        refine z_iconst C dX10_face_55 ?_
        exact y_iretB C dX10_face_56 h (by decide)
      ·
        have h := (if_neg e10).symm.trans h
        refine z_iload_n C dX10_face_31 3 rfl ?_
        refine z_iconst C dX10_face_32 ?_
        refine z_iconst C dX10_face_33 ?_
        obtain ⟨r11, hr11, h⟩ := bnd h
        refine y_cSb (st := []) C dX10_face_34 mX10_154 (tX10_isIn hC v3 0 2 gv3 (by decide) (by decide) hr11) rfl rfl (Nat.le_of_ble_eq_true rfl) (by decide) (fun br11 => ?_)
        refine z_if_eq 55 C dX10_face_37 (by decide) (rg01 br11) (fun e12 => ?_) (fun e12 => ?_)
        ·
          have h := (if_pos e12).symm.trans h
          refine z_iconst C dX10_face_55 ?_
          exact y_iretB C dX10_face_56 h (by decide)
        ·
          have h := (if_neg e12).symm.trans h
          refine z_aload_n C dX10_face_40 0 rfl ?_
          refine z_iload_n C dX10_face_41 1 rfl ?_
          refine z_iconst C dX10_face_42 ?_
          refine z_iconst C dX10_face_43 ?_
          refine z_iload_n C dX10_face_44 2 rfl ?_
          refine y_imul C dX10_face_45 ?_
          refine y_iadd C dX10_face_46 ?_
          refine z_iload_n C dX10_face_47 3 rfl ?_
          refine y_iadd C dX10_face_48 ?_
          obtain ⟨k13, h⟩ := gK_inv h
          obtain ⟨r14, hr14, h⟩ := bnd h
          refine y_cVi (st := []) C dX10_face_49 mX10_256 k13 (tX10_ofCoin hC o0 v1 (w32 ((w32 (4 + (w32 (3 * v2)))) + v3)) gv1 (w32_rng _) hr14) rfl rfl (Nat.le_of_ble_eq_true rfl) (by decide) (fun gr14 => ?_)
          refine z_goto 56 C dX10_face_52 (by decide) ?_
          exact y_iretB C dX10_face_56 h gr14

set_option maxHeartbeats 4000000 in
set_option maxRecDepth 100000 in
theorem tX10_luckOf {G : Gx} {σ : State} (hC : Cy G σ) (o0 : Nat) {M0 : Mm}  {R : Int} (h : uX10_luckOf o0 M0 = some R) : Ct G σ (3) yX10_luckOf cX10_luckOf 3 (some .int) [.ref (G.2.2 + o0)] M0 0 0 (Qi R M0) := by
  refine Ct.of hC.1 (by decide +kernel) (Nat.le_of_ble_eq_true rfl) ?_
  intro p l e R0 s m args below meth c C
  show Jz G σ p l e R0 s m args below meth c 3 0 0 (Qi R M0) M0 0 0 0 [(0, .ref (G.2.2 + o0))] []
  have hb39 : ∀ (v1 : Int), (rg v1) → uX10_luckOf_b39 v1 M0 = some R → Jz G σ p l e R0 s m args below meth c 3 0 0 (Qi R M0) M0 0 0 39 [(1, .int (iv v1))] [] := by
    intro v1  gv1 h
    unfold uX10_luckOf_b39 at h
    refine z_iload_n C dX10_luckOf_39 0 rfl ?_
    refine z_if_le 47 C dX10_luckOf_40 (by decide) gv1 (fun e1 => ?_) (fun e1 => ?_)
    ·
      have h := (if_pos e1).symm.trans h
      refine z_iconst C dX10_luckOf_47 ?_
      exact y_iretP C dX10_luckOf_48 h (by decide)
    ·
      have h := (if_neg e1).symm.trans h
      refine z_iload_n C dX10_luckOf_43 0 rfl ?_
      refine z_goto 48 C dX10_luckOf_44 (by decide) ?_
      exact y_iretP C dX10_luckOf_48 h gv1
  have hb9 : ∀ (o0 : Nat) (v1 : Int) (v2 : Int), (rg v1) → (rg v2) → uX10_luckOf_b9 o0 v1 v2 M0 = some R → Jz G σ p l e R0 s m args below meth c 3 0 0 (Qi R M0) M0 0 0 9 [(0, .ref (G.2.2 + o0)), (1, .int (iv v1)), (2, .int (iv v2))] [] := by
    intro o0 v1 v2  gv1 gv2 h
    unfold uX10_luckOf_b9 at h
    obtain ⟨b9, hb9_, hc9⟩ := bnd h
    have hL9 : ∀ (n : Nat) (v1 : Int) (v2 : Int), (rg v1) → (rg v2) → lp (uX10_luckOf_f9 o0 M0) n (v1, v2) = some b9 → Jz G σ p l e R0 s m args below meth c 3 0 0 (Qi R M0) M0 0 0 9 [(0, .ref (G.2.2 + o0)), (1, .int (iv v1)), (2, .int (iv v2))] [] := by
      intro n; induction n with
      | zero => intro v1 v2 gv1 gv2 hq; exact (lp_0 hq).elim
      | succ n9 ih9 =>
        intro v1 v2 gv1 gv2 hq
        obtain ⟨z9, h, hZ9⟩ := lp_s hq
        have h : uX10_luckOf_s9 o0 M0 v1 v2 = some z9 := h
        unfold uX10_luckOf_s9 at h
        refine z_iload_n C dX10_luckOf_9 2 rfl ?_
        refine z_aload_n C dX10_luckOf_10 0 rfl ?_
        obtain ⟨k2, h⟩ := gK_inv h
        obtain ⟨r3, hr3, h⟩ := bnd h
        refine y_cVi (st := [.int (iv v2)]) C dX10_luckOf_11 mX10_188 k2 (tX10_coins hC o0  hr3) rfl rfl (Nat.le_of_ble_eq_true rfl) (by decide) (fun gr3 => ?_)
        refine z_icmp_ge 39 C dX10_luckOf_14 (by decide) gv2 gr3 (fun e4 => ?_) (fun e4 => ?_)
        ·
          have h := (if_pos e4).symm.trans h
          have h : uX10_luckOf_b39 v1 M0 = some R := lp_ex (K := (uX10_luckOf_c9 o0 M0)) h hZ9 hc9
          refine z_drop (lv' := [(1, .int (iv v1))]) [1] rfl ?_
          exact hb39 v1  gv1 h
        ·
          have h := (if_neg e4).symm.trans h
          refine z_aload_n C dX10_luckOf_17 0 rfl ?_
          refine z_aload_n C dX10_luckOf_18 0 rfl ?_
          refine z_iload_n C dX10_luckOf_19 2 rfl ?_
          obtain ⟨k5, h⟩ := gK_inv h
          obtain ⟨r6, hr6, h⟩ := bnd h
          refine y_cVi (st := [.ref (G.2.2 + o0)]) C dX10_luckOf_20 mX10_253 k5 (tX10_topOf hC o0 v2 gv2 hr6) rfl rfl (Nat.le_of_ble_eq_true rfl) (by decide) (fun gr6 => ?_)
          refine z_iconst C dX10_luckOf_23 ?_
          obtain ⟨k7, h⟩ := gK_inv h
          obtain ⟨r8, hr8, h⟩ := bnd h
          refine y_cVi (st := []) C dX10_luckOf_24 mX10_249 k7 (tX10_ofWho hC o0 r6 0 gr6 (by decide) hr8) rfl rfl (Nat.le_of_ble_eq_true rfl) (by decide) (fun gr8 => ?_)
          refine z_if_le 33 C dX10_luckOf_27 (by decide) gr8 (fun e9 => ?_) (fun e9 => ?_)
          ·
            have h := (if_pos e9).symm.trans h
            refine y_iinc (lv' := [(0, .ref (G.2.2 + o0)), (1, .int (iv v1)), (2, .int (iv (w32 (v2 + 1))))]) C dX10_luckOf_33 2 rfl (by decide) [1, 2, 0] rfl ?_
            refine z_goto 9 C dX10_luckOf_36 (by decide) ?_
            exact ih9 v1 (w32 (v2 + 1)) gv1 (w32_rng _) (lp_back h hZ9)
          ·
            have h := (if_neg e9).symm.trans h
            refine y_iinc (lv' := [(0, .ref (G.2.2 + o0)), (1, .int (iv (w32 (v1 + (-1))))), (2, .int (iv v2))]) C dX10_luckOf_30 1 rfl (by decide) [1, 0, 2] rfl ?_
            refine y_iinc (lv' := [(0, .ref (G.2.2 + o0)), (1, .int (iv (w32 (v1 + (-1))))), (2, .int (iv (w32 (v2 + 1))))]) C dX10_luckOf_33 2 rfl (by decide) [1, 2, 0] rfl ?_
            refine z_goto 9 C dX10_luckOf_36 (by decide) ?_
            exact ih9 (w32 (v1 + (-1))) (w32 (v2 + 1)) (w32_rng _) (w32_rng _) (lp_back h hZ9)
    exact hL9 _ v1 v2 gv1 gv2 hb9_
  unfold uX10_luckOf at h
  refine z_aload_n C dX10_luckOf_0 0 rfl ?_
  obtain ⟨on10, hon10, h⟩ := bnd h
  refine y_getR C dX10_luckOf_1 fX10_13 rfl hon10 ?_
  refine z_iconst C dX10_luckOf_4 ?_
  obtain ⟨x11, hx11, h⟩ := bnd h
  refine y_iald C dX10_luckOf_5 hx11 (fun gx11 => ?_)
  refine z_istore_n (lv' := [(0, .ref (G.2.2 + o0)), (1, .int (iv x11))]) C dX10_luckOf_6 rfl (by decide) [1, 0] rfl ?_
  refine z_iconst C dX10_luckOf_7 ?_
  refine z_istore_n (lv' := [(0, .ref (G.2.2 + o0)), (1, .int (iv x11)), (2, .int (iv 0))]) C dX10_luckOf_8 rfl (by decide) [1, 2, 0] rfl ?_
  exact hb9 o0 x11 0  gx11 (by decide) h

set_option maxHeartbeats 4000000 in
set_option maxRecDepth 100000 in
theorem tX10_bears {G : Gx} {σ : State} (hC : Cy G σ) (o0 : Nat) (v1 : Int) (v2 : Int) {M0 : Mm} (gv1 : rg v1) (gv2 : rg v2) {R : Int × Mm} (h : uX10_bears o0 v1 v2 M0 = some R) : Ct G σ (3) yX10_bears cX10_bears 4 (some .int) [.ref (G.2.2 + o0), .int (iv v1), .int (iv v2)] M0 0 0 (Qi R.1 R.2) := by
  refine Ct.of hC.1 (by decide +kernel) (Nat.le_of_ble_eq_true rfl) ?_
  intro p l e R0 s m args below meth c C
  show Jz G σ p l e R0 s m args below meth c 4 0 0 (Qi R.1 R.2) M0 0 0 0 [(0, .ref (G.2.2 + o0)), (1, .int (iv v1)), (2, .int (iv v2))] []
  have hb66 : ∀ (v3 : Int) (M : Mm), (rg v3) → uX10_bears_b66 v3 M = some R → Jz G σ p l e R0 s m args below meth c 4 0 0 (Qi R.1 R.2) M 0 0 66 [(3, .int (iv v3))] [] := by
    intro v3 M gv3 h
    unfold uX10_bears_b66 at h
    refine z_iload_n C dX10_bears_66 0 rfl ?_
    exact y_iretB C dX10_bears_67 h gv3
  have hb29 : ∀ (o0 : Nat) (v1 : Int) (v2 : Int) (v3 : Int) (M : Mm), (rg v1) → (rg v2) → (rg v3) → uX10_bears_b29 o0 v1 v2 v3 M = some R → Jz G σ p l e R0 s m args below meth c 4 0 0 (Qi R.1 R.2) M 0 0 29 [(0, .ref (G.2.2 + o0)), (1, .int (iv v1)), (2, .int (iv v2)), (3, .int (iv v3))] [] := by
    intro o0 v1 v2 v3 M gv1 gv2 gv3 h
    unfold uX10_bears_b29 at h
    obtain ⟨b29, hb29_, hc29⟩ := bnd h
    have hL29 : ∀ (n : Nat) (v3 : Int), (rg v3) → lp (uX10_bears_f29 o0 v1 v2 M) n v3 = some b29 → Jz G σ p l e R0 s m args below meth c 4 0 0 (Qi R.1 R.2) M 0 0 29 [(0, .ref (G.2.2 + o0)), (1, .int (iv v1)), (2, .int (iv v2)), (3, .int (iv v3))] [] := by
      intro n; induction n with
      | zero => intro v3 gv3 hq; exact (lp_0 hq).elim
      | succ n29 ih29 =>
        intro v3 gv3 hq
        obtain ⟨z29, h, hZ29⟩ := lp_s hq
        have h : uX10_bears_s29 o0 v1 v2 M v3 = some z29 := h
        unfold uX10_bears_s29 at h
        refine z_aload_n C dX10_bears_29 0 rfl ?_
        refine z_aload_n C dX10_bears_30 0 rfl ?_
        refine z_iload_n C dX10_bears_31 1 rfl ?_
        refine z_iconst C dX10_bears_32 ?_
        obtain ⟨k1, h⟩ := gK_inv h
        obtain ⟨r2, hr2, h⟩ := bnd h
        refine y_cVi (st := [.ref (G.2.2 + o0)]) C dX10_bears_33 mX10_256 k1 (tX10_ofCoin hC o0 v1 0 gv1 (by decide) hr2) rfl rfl (Nat.le_of_ble_eq_true rfl) (by decide) (fun gr2 => ?_)
        refine z_iload_n C dX10_bears_36 3 rfl ?_
        refine z_aload_n C dX10_bears_37 0 rfl ?_
        refine z_iload_n C dX10_bears_38 2 rfl ?_
        refine z_iconst C dX10_bears_39 ?_
        obtain ⟨k3, h⟩ := gK_inv h
        obtain ⟨r4, hr4, h⟩ := bnd h
        refine y_cVi (st := [.int (iv v3), .int (iv r2), .ref (G.2.2 + o0)]) C dX10_bears_40 mX10_262 k3 (tX10_ofMint hC o0 v2 0 gv2 (by decide) hr4) rfl rfl (Nat.le_of_ble_eq_true rfl) (by decide) (fun gr4 => ?_)
        refine y_imul C dX10_bears_43 ?_
        refine y_isub C dX10_bears_44 ?_
        refine z_aload_n C dX10_bears_45 0 rfl ?_
        refine z_iload_n C dX10_bears_46 1 rfl ?_
        refine z_iconst C dX10_bears_47 ?_
        obtain ⟨k5, h⟩ := gK_inv h
        obtain ⟨r6, hr6, h⟩ := bnd h
        refine y_cVi (st := [.int (iv (w32 (r2 - (w32 (v3 * r4))))), .ref (G.2.2 + o0)]) C dX10_bears_48 mX10_256 k5 (tX10_ofCoin hC o0 v1 2 gv1 (by decide) hr6) rfl rfl (Nat.le_of_ble_eq_true rfl) (by decide) (fun gr6 => ?_)
        refine z_iload_n C dX10_bears_51 3 rfl ?_
        refine y_iadd C dX10_bears_52 ?_
        refine z_iload_n C dX10_bears_53 2 rfl ?_
        obtain ⟨k7, h⟩ := gK_inv h
        obtain ⟨r8, hr8, h⟩ := bnd h
        refine y_cVi (st := []) C dX10_bears_54 mX10_265 k7 (tX10_wrongStroke hC o0 (w32 (r2 - (w32 (v3 * r4)))) (w32 (r6 + v3)) v2 (w32_rng _) (w32_rng _) gv2 hr8) rfl rfl (Nat.le_of_ble_eq_true rfl) (by decide) (fun gr8 => ?_)
        refine z_if_ne 66 C dX10_bears_57 (by decide) gr8 (fun e9 => ?_) (fun e9 => ?_)
        ·
          have h := (if_neg e9).symm.trans h
          have h : uX10_bears_b66 v3 M = some R := lp_ex (K := (uX10_bears_c29 o0 v1 v2 M)) h hZ29 hc29
          refine z_drop (lv' := [(3, .int (iv v3))]) [3] rfl ?_
          exact hb66 v3 M gv3 h
        ·
          have h := (if_pos e9).symm.trans h
          refine y_iinc (lv' := [(0, .ref (G.2.2 + o0)), (1, .int (iv v1)), (2, .int (iv v2)), (3, .int (iv (w32 (v3 + 1))))]) C dX10_bears_60 3 rfl (by decide) [1, 2, 3, 0] rfl ?_
          refine z_goto 29 C dX10_bears_63 (by decide) ?_
          exact ih29 (w32 (v3 + 1)) (w32_rng _) (lp_back h hZ29)
    exact hL29 _ v3 gv3 hb29_
  unfold uX10_bears at h
  refine z_aload_n C dX10_bears_0 0 rfl ?_
  refine z_iconst C dX10_bears_1 ?_
  obtain ⟨M10, hM10, h⟩ := bnd h
  refine y_putI C dX10_bears_2 fX10_83 rfl rfl rfl rfl hM10 ?_
  refine z_aload_n C dX10_bears_5 0 rfl ?_
  obtain ⟨k11, h⟩ := gK_inv h
  obtain ⟨M12, hM12, h⟩ := bnd h
  refine y_cVv (st := []) C dX10_bears_6 mX10_167 k11 (tX10_lay hC o0  hM12) rfl rfl (Nat.le_of_ble_eq_true rfl) (by decide) ?_
  refine z_aload_n C dX10_bears_9 0 rfl ?_
  refine z_iload_n C dX10_bears_10 1 rfl ?_
  obtain ⟨k13, h⟩ := gK_inv h
  obtain ⟨r14, hr14, h⟩ := bnd h
  refine y_cVb (st := []) C dX10_bears_11 mX10_282 k13 (tX10_isCoin hC o0 v1 gv1 hr14) rfl rfl (Nat.le_of_ble_eq_true rfl) (by decide) (fun br14 => ?_)
  refine z_if_eq 25 C dX10_bears_14 (by decide) (rg01 br14) (fun e15 => ?_) (fun e15 => ?_)
  ·
    have h := (if_pos e15).symm.trans h
    refine z_iconst C dX10_bears_25 ?_
    exact y_iretB C dX10_bears_26 h (by decide)
  ·
    have h := (if_neg e15).symm.trans h
    refine z_aload_n C dX10_bears_17 0 rfl ?_
    refine z_iload_n C dX10_bears_18 2 rfl ?_
    obtain ⟨k16, h⟩ := gK_inv h
    obtain ⟨r17, hr17, h⟩ := bnd h
    refine y_cVb (st := []) C dX10_bears_19 mX10_259 k16 (tX10_isMint hC o0 v2 gv2 hr17) rfl rfl (Nat.le_of_ble_eq_true rfl) (by decide) (fun br17 => ?_)
    refine z_if_ne 27 C dX10_bears_22 (by decide) (rg01 br17) (fun e18 => ?_) (fun e18 => ?_)
    ·
      have h := (if_neg e18).symm.trans h
      refine z_iconst C dX10_bears_27 ?_
      refine z_istore_n (lv' := [(0, .ref (G.2.2 + o0)), (1, .int (iv v1)), (2, .int (iv v2)), (3, .int (iv 0))]) C dX10_bears_28 rfl (by decide) [1, 2, 3, 0] rfl ?_
      exact hb29 o0 v1 v2 0 M12 gv1 gv2 (by decide) h
    ·
      have h := (if_pos e18).symm.trans h
      refine z_iconst C dX10_bears_25 ?_
      exact y_iretB C dX10_bears_26 h (by decide)
