set_option maxHeartbeats 4000000 in
set_option maxRecDepth 100000 in
theorem tX0_init {G : Gx} {σ : State} (hC : Cy G σ) (o0 : Nat) {M0 : Mm}  {R : Mm} (h : uX0_init o0 M0 = some R) : Ct G σ (1) yX0_init cX0_init 1 none [.ref (G.2.2 + o0)] M0 7 144 (Qv R) := by
  refine Ct.of hC.1 (by decide +kernel) (Nat.le_of_ble_eq_true rfl) ?_
  intro p l e R0 s m args below meth c C
  show Jz G σ p l e R0 s m args below meth c 1 7 144 (Qv R) M0 0 0 0 [(0, .ref (G.2.2 + o0))] []
  unfold uX0_init at h
  refine z_aload_n C dX0_init_0 0 rfl ?_
  refine z_objInit C dX0_init_1 (gt_2 (i := 88) (by decide +kernel) (by decide +kernel)) oi_in oi_co (by decide) (Nat.le_of_ble_eq_true rfl) ?_
  refine z_aload_n C dX0_init_4 0 rfl ?_
  refine z_bipush C dX0_init_5 (by decide) ?_
  refine y_newI 12 C dX0_init_7 rfl (by decide) (by omega) (by omega) ?_
  obtain ⟨M1, hM1, h⟩ := bnd h
  refine y_putFR C dX0_init_9 clX0 (by decide) fX0_11_l rfl rfl rfl rfl rfl rfl hM1 ?_
  refine z_aload_n C dX0_init_12 0 rfl ?_
  refine z_bipush C dX0_init_13 (by decide) ?_
  refine y_newI 12 C dX0_init_15 rfl (by decide) (by omega) (by omega) ?_
  obtain ⟨M2, hM2, h⟩ := bnd h
  refine y_putFR C dX0_init_17 clX0 (by decide) fX0_15_l rfl rfl rfl rfl rfl rfl hM2 ?_
  refine z_aload_n C dX0_init_20 0 rfl ?_
  refine z_bipush C dX0_init_21 (by decide) ?_
  refine y_newI 72 C dX0_init_23 rfl (by decide) (by omega) (by omega) ?_
  obtain ⟨M3, hM3, h⟩ := bnd h
  refine y_putFR C dX0_init_25 clX0 (by decide) fX0_18_l rfl rfl rfl rfl rfl rfl hM3 ?_
  refine z_aload_n C dX0_init_28 0 rfl ?_
  refine z_bipush C dX0_init_29 (by decide) ?_
  refine y_newI 12 C dX0_init_31 rfl (by decide) (by omega) (by omega) ?_
  obtain ⟨M4, hM4, h⟩ := bnd h
  refine y_putFR C dX0_init_33 clX0 (by decide) fX0_21_l rfl rfl rfl rfl rfl rfl hM4 ?_
  refine z_aload_n C dX0_init_36 0 rfl ?_
  refine z_bipush C dX0_init_37 (by decide) ?_
  refine y_newI 12 C dX0_init_39 rfl (by decide) (by omega) (by omega) ?_
  obtain ⟨M5, hM5, h⟩ := bnd h
  refine y_putFR C dX0_init_41 clX0 (by decide) fX0_24_l rfl rfl rfl rfl rfl rfl hM5 ?_
  refine z_aload_n C dX0_init_44 0 rfl ?_
  refine z_bipush C dX0_init_45 (by decide) ?_
  refine y_newI 12 C dX0_init_47 rfl (by decide) (by omega) (by omega) ?_
  obtain ⟨M6, hM6, h⟩ := bnd h
  refine y_putFR C dX0_init_49 clX0 (by decide) fX0_27_l rfl rfl rfl rfl rfl rfl hM6 ?_
  refine z_aload_n C dX0_init_52 0 rfl ?_
  refine z_bipush C dX0_init_53 (by decide) ?_
  refine y_newI 12 C dX0_init_55 rfl (by decide) (by omega) (by omega) ?_
  obtain ⟨M7, hM7, h⟩ := bnd h
  refine y_putFR C dX0_init_57 clX0 (by decide) fX0_30_l rfl rfl rfl rfl rfl rfl hM7 ?_
  exact y_retV C dX0_init_60 h

set_option maxHeartbeats 4000000 in
set_option maxRecDepth 100000 in
theorem tX0_noteUsable {G : Gx} {σ : State} (hC : Cy G σ) (o0 : Nat) (o1 : Nat) (v2 : Int) {M0 : Mm} (gv2 : rg v2) {R : Mm} (h : uX0_noteUsable o0 o1 v2 M0 = some R) : Ct G σ (1) yX0_noteUsable cX0_noteUsable 5 none [.ref (G.2.2 + o0), .ref (G.2.2 + o1), .int (iv v2)] M0 0 0 (Qv R) := by
  refine Ct.of hC.1 (by decide +kernel) (Nat.le_of_ble_eq_true rfl) ?_
  intro p l e R0 s m args below meth c C
  show Jz G σ p l e R0 s m args below meth c 5 0 0 (Qv R) M0 0 0 0 [(0, .ref (G.2.2 + o0)), (1, .ref (G.2.2 + o1)), (2, .int (iv v2))] []
  have hb35 : ∀ (o0 : Nat) (o1 : Nat) (v2 : Int) (v3 : Int) (M : Mm), (rg v2) → (rg v3) → uX0_noteUsable_b35 o0 o1 v2 v3 M = some R → Jz G σ p l e R0 s m args below meth c 5 0 0 (Qv R) M 0 0 35 [(0, .ref (G.2.2 + o0)), (1, .ref (G.2.2 + o1)), (2, .int (iv v2)), (3, .int (iv v3))] [] := by
    intro o0 o1 v2 v3 M gv2 gv3 h
    unfold uX0_noteUsable_b35 at h
    refine z_iload_n C dX0_noteUsable_35 3 rfl ?_
    refine z_if_le 101 C dX0_noteUsable_36 (by decide) gv3 (fun e1 => ?_) (fun e1 => ?_)
    ·
      have h := (if_pos e1).symm.trans h
      exact y_retV C dX0_noteUsable_101 h
    ·
      have h := (if_neg e1).symm.trans h
      refine z_aload_n C dX0_noteUsable_39 0 rfl ?_
      obtain ⟨x2, hx2, h⟩ := bnd h
      refine y_getI C dX0_noteUsable_40 fX0_37 rfl hx2 (fun gx2 => ?_)
      refine z_bipush C dX0_noteUsable_43 (by decide) ?_
      refine z_icmp_ge 101 C dX0_noteUsable_45 (by decide) gx2 (by decide) (fun e3 => ?_) (fun e3 => ?_)
      ·
        have h := (if_pos e3).symm.trans h
        exact y_retV C dX0_noteUsable_101 h
      ·
        have h := (if_neg e3).symm.trans h
        refine z_aload_n C dX0_noteUsable_48 0 rfl ?_
        obtain ⟨on4, hon4, h⟩ := bnd h
        refine y_getR C dX0_noteUsable_49 fX0_21 rfl hon4 ?_
        refine z_aload_n C dX0_noteUsable_52 0 rfl ?_
        obtain ⟨x5, hx5, h⟩ := bnd h
        refine y_getI C dX0_noteUsable_53 fX0_37 rfl hx5 (fun gx5 => ?_)
        refine z_iload_n C dX0_noteUsable_56 2 rfl ?_
        obtain ⟨M6, hM6, h⟩ := bnd h
        refine y_iast C dX0_noteUsable_57 hM6 ?_
        refine z_aload_n C dX0_noteUsable_58 0 rfl ?_
        obtain ⟨on7, hon7, h⟩ := bnd h
        refine y_getR C dX0_noteUsable_59 fX0_24 rfl hon7 ?_
        refine z_aload_n C dX0_noteUsable_62 0 rfl ?_
        obtain ⟨x8, hx8, h⟩ := bnd h
        refine y_getI C dX0_noteUsable_63 fX0_37 rfl hx8 (fun gx8 => ?_)
        refine z_aload_n C dX0_noteUsable_66 1 rfl ?_
        obtain ⟨on9, hon9, h⟩ := bnd h
        refine y_getR C dX0_noteUsable_67 fX0_79 rfl hon9 ?_
        obtain ⟨on10, hon10, h⟩ := bnd h
        refine y_getR C dX0_noteUsable_70 fX0_95 rfl hon10 ?_
        refine z_aload_n C dX0_noteUsable_73 0 rfl ?_
        obtain ⟨on11, hon11, h⟩ := bnd h
        refine y_getR C dX0_noteUsable_74 fX0_11 rfl hon11 ?_
        refine z_iload_n C dX0_noteUsable_77 2 rfl ?_
        obtain ⟨x12, hx12, h⟩ := bnd h
        refine y_iald C dX0_noteUsable_78 hx12 (fun gx12 => ?_)
        obtain ⟨x13, hx13, h⟩ := bnd h
        refine y_iald C dX0_noteUsable_79 hx13 (fun gx13 => ?_)
        obtain ⟨M14, hM14, h⟩ := bnd h
        refine y_iast C dX0_noteUsable_80 hM14 ?_
        refine z_aload_n C dX0_noteUsable_81 0 rfl ?_
        obtain ⟨on15, hon15, h⟩ := bnd h
        refine y_getR C dX0_noteUsable_82 fX0_27 rfl hon15 ?_
        refine z_aload_n C dX0_noteUsable_85 0 rfl ?_
        obtain ⟨x16, hx16, h⟩ := bnd h
        refine y_getI C dX0_noteUsable_86 fX0_37 rfl hx16 (fun gx16 => ?_)
        refine z_iload_n C dX0_noteUsable_89 3 rfl ?_
        obtain ⟨M17, hM17, h⟩ := bnd h
        refine y_iast C dX0_noteUsable_90 hM17 ?_
        refine z_aload_n C dX0_noteUsable_91 0 rfl ?_
        refine z_dup C dX0_noteUsable_92 rfl ?_
        obtain ⟨x18, hx18, h⟩ := bnd h
        refine y_getI C dX0_noteUsable_93 fX0_37 rfl hx18 (fun gx18 => ?_)
        refine z_iconst C dX0_noteUsable_96 ?_
        refine y_iadd C dX0_noteUsable_97 ?_
        obtain ⟨M19, hM19, h⟩ := bnd h
        refine y_putI C dX0_noteUsable_98 fX0_37 rfl rfl rfl rfl hM19 ?_
        exact y_retV C dX0_noteUsable_101 h
  have hb5 : ∀ (o0 : Nat) (o1 : Nat) (v2 : Int) (v3 : Int) (v4 : Int) (M : Mm), (rg v2) → (rg v3) → (rg v4) → uX0_noteUsable_b5 o0 o1 v2 v3 v4 M = some R → Jz G σ p l e R0 s m args below meth c 5 0 0 (Qv R) M 0 0 5 [(0, .ref (G.2.2 + o0)), (1, .ref (G.2.2 + o1)), (2, .int (iv v2)), (3, .int (iv v3)), (4, .int (iv v4))] [] := by
    intro o0 o1 v2 v3 v4 M gv2 gv3 gv4 h
    unfold uX0_noteUsable_b5 at h
    obtain ⟨b5, hb5_, hc5⟩ := bnd h
    have hL5 : ∀ (n : Nat) (v3 : Int) (v4 : Int), (rg v3) → (rg v4) → lp (uX0_noteUsable_f5 o0 o1 v2 M) n (v3, v4) = some b5 → Jz G σ p l e R0 s m args below meth c 5 0 0 (Qv R) M 0 0 5 [(0, .ref (G.2.2 + o0)), (1, .ref (G.2.2 + o1)), (2, .int (iv v2)), (3, .int (iv v3)), (4, .int (iv v4))] [] := by
      intro n; induction n with
      | zero => intro v3 v4 gv3 gv4 hq; exact (lp_0 hq).elim
      | succ n5 ih5 =>
        intro v3 v4 gv3 gv4 hq
        obtain ⟨z5, h, hZ5⟩ := lp_s hq
        have h : uX0_noteUsable_s5 o0 o1 v2 M v3 v4 = some z5 := h
        unfold uX0_noteUsable_s5 at h
        refine z_iload C dX0_noteUsable_5 4 rfl ?_
        refine z_bipush C dX0_noteUsable_7 (by decide) ?_
        refine z_icmp_ge 35 C dX0_noteUsable_9 (by decide) gv4 (by decide) (fun e20 => ?_) (fun e20 => ?_)
        ·
          have h := (if_pos e20).symm.trans h
          have h : uX0_noteUsable_b35 o0 o1 v2 v3 M = some R := lp_ex (K := (uX0_noteUsable_c5 o0 o1 v2 M)) h hZ5 hc5
          refine z_drop (lv' := [(0, .ref (G.2.2 + o0)), (1, .ref (G.2.2 + o1)), (2, .int (iv v2)), (3, .int (iv v3))]) [0, 1, 2, 3] rfl ?_
          exact hb35 o0 o1 v2 v3 M gv2 gv3 h
        ·
          have h := (if_neg e20).symm.trans h
          refine z_iload_n C dX0_noteUsable_12 3 rfl ?_
          refine z_aload_n C dX0_noteUsable_13 0 rfl ?_
          obtain ⟨on21, hon21, h⟩ := bnd h
          refine y_getR C dX0_noteUsable_14 fX0_18 rfl hon21 ?_
          refine z_iload_n C dX0_noteUsable_17 2 rfl ?_
          refine z_bipush C dX0_noteUsable_18 (by decide) ?_
          refine y_imul C dX0_noteUsable_20 ?_
          refine z_iload C dX0_noteUsable_21 4 rfl ?_
          refine y_iadd C dX0_noteUsable_23 ?_
          obtain ⟨x22, hx22, h⟩ := bnd h
          refine y_iald C dX0_noteUsable_24 hx22 (fun gx22 => ?_)
          refine y_max C dX0_noteUsable_25 (gt_4 (i := 77) (by decide +kernel) (by decide +kernel)) gv3 gx22 (by decide) (Nat.le_of_ble_eq_true rfl) ?_
          refine z_istore_n (lv' := [(0, .ref (G.2.2 + o0)), (1, .ref (G.2.2 + o1)), (2, .int (iv v2)), (3, .int (iv (max32 v3 x22))), (4, .int (iv v4))]) C dX0_noteUsable_28 rfl (by decide) [1, 2, 3, 0, 4] rfl ?_
          refine y_iinc (lv' := [(0, .ref (G.2.2 + o0)), (1, .ref (G.2.2 + o1)), (2, .int (iv v2)), (3, .int (iv (max32 v3 x22))), (4, .int (iv (w32 (v4 + 1))))]) C dX0_noteUsable_29 4 rfl (by decide) [1, 2, 3, 4, 0] rfl ?_
          refine z_goto 5 C dX0_noteUsable_32 (by decide) ?_
          exact ih5 (max32 v3 x22) (w32 (v4 + 1)) (max32_rng gv3 gx22) (w32_rng _) (lp_back h hZ5)
    exact hL5 _ v3 v4 gv3 gv4 hb5_
  unfold uX0_noteUsable at h
  refine z_iconst C dX0_noteUsable_0 ?_
  refine z_istore_n (lv' := [(0, .ref (G.2.2 + o0)), (1, .ref (G.2.2 + o1)), (2, .int (iv v2)), (3, .int (iv 0))]) C dX0_noteUsable_1 rfl (by decide) [1, 2, 3, 0] rfl ?_
  refine z_iconst C dX0_noteUsable_2 ?_
  refine z_istore (lv' := [(0, .ref (G.2.2 + o0)), (1, .ref (G.2.2 + o1)), (2, .int (iv v2)), (3, .int (iv 0)), (4, .int (iv 1))]) C dX0_noteUsable_3 (by decide) [1, 2, 3, 4, 0] rfl ?_
  exact hb5 o0 o1 v2 0 1 M0 gv2 (by decide) (by decide) h

set_option maxHeartbeats 4000000 in
set_option maxRecDepth 100000 in
theorem tX0_sumWorth {G : Gx} {σ : State} (hC : Cy G σ) (o0 : Nat) {M0 : Mm}  {R : Mm} (h : uX0_sumWorth o0 M0 = some R) : Ct G σ (1) yX0_sumWorth cX0_sumWorth 3 none [.ref (G.2.2 + o0)] M0 0 0 (Qv R) := by
  refine Ct.of hC.1 (by decide +kernel) (Nat.le_of_ble_eq_true rfl) ?_
  intro p l e R0 s m args below meth c C
  show Jz G σ p l e R0 s m args below meth c 3 0 0 (Qv R) M0 0 0 0 [(0, .ref (G.2.2 + o0))] []
  have hb35 : ∀  (M : Mm), uX0_sumWorth_b35 M = some R → Jz G σ p l e R0 s m args below meth c 3 0 0 (Qv R) M 0 0 35 [] [] := by
    intro  M  h
    unfold uX0_sumWorth_b35 at h
    exact y_retV C dX0_sumWorth_35 h
  have hb9 : ∀ (o0 : Nat) (v1 : Int) (v2 : Int) (M : Mm), (rg v1) → (rg v2) → uX0_sumWorth_b9 o0 v1 v2 M = some R → Jz G σ p l e R0 s m args below meth c 3 0 0 (Qv R) M 0 0 9 [(0, .ref (G.2.2 + o0)), (1, .int (iv v1)), (2, .int (iv v2))] [] := by
    intro o0 v1 v2 M gv1 gv2 h
    unfold uX0_sumWorth_b9 at h
    obtain ⟨b9, hb9_, hc9⟩ := bnd h
    have hL9 : ∀ (n : Nat) (v1 : Int) (v2 : Int) (M : Mm), (rg v1) → (rg v2) → lp (uX0_sumWorth_f9 o0) n (v1, v2, M) = some b9 → Jz G σ p l e R0 s m args below meth c 3 0 0 (Qv R) M 0 0 9 [(0, .ref (G.2.2 + o0)), (1, .int (iv v1)), (2, .int (iv v2))] [] := by
      intro n; induction n with
      | zero => intro v1 v2 M gv1 gv2 hq; exact (lp_0 hq).elim
      | succ n9 ih9 =>
        intro v1 v2 M gv1 gv2 hq
        obtain ⟨z9, h, hZ9⟩ := lp_s hq
        have h : uX0_sumWorth_s9 o0 v1 v2 M = some z9 := h
        unfold uX0_sumWorth_s9 at h
        refine z_iload_n C dX0_sumWorth_9 2 rfl ?_
        refine z_if_lt 35 C dX0_sumWorth_10 (by decide) gv2 (fun e1 => ?_) (fun e1 => ?_)
        ·
          have h := (if_pos e1).symm.trans h
          have h : uX0_sumWorth_b35 M = some R := lp_ex (K := (uX0_sumWorth_c9 o0)) h hZ9 hc9
          refine z_drop (lv' := []) [] rfl ?_
          exact hb35  M  h
        ·
          have h := (if_neg e1).symm.trans h
          refine z_iload_n C dX0_sumWorth_13 1 rfl ?_
          refine z_aload_n C dX0_sumWorth_14 0 rfl ?_
          obtain ⟨on2, hon2, h⟩ := bnd h
          refine y_getR C dX0_sumWorth_15 fX0_27 rfl hon2 ?_
          refine z_iload_n C dX0_sumWorth_18 2 rfl ?_
          obtain ⟨x3, hx3, h⟩ := bnd h
          refine y_iald C dX0_sumWorth_19 hx3 (fun gx3 => ?_)
          refine y_iadd C dX0_sumWorth_20 ?_
          refine z_istore_n (lv' := [(0, .ref (G.2.2 + o0)), (1, .int (iv (w32 (v1 + x3)))), (2, .int (iv v2))]) C dX0_sumWorth_21 rfl (by decide) [1, 0, 2] rfl ?_
          refine z_aload_n C dX0_sumWorth_22 0 rfl ?_
          obtain ⟨on4, hon4, h⟩ := bnd h
          refine y_getR C dX0_sumWorth_23 fX0_30 rfl hon4 ?_
          refine z_iload_n C dX0_sumWorth_26 2 rfl ?_
          refine z_iload_n C dX0_sumWorth_27 1 rfl ?_
          obtain ⟨M5, hM5, h⟩ := bnd h
          refine y_iast C dX0_sumWorth_28 hM5 ?_
          refine y_iinc (lv' := [(0, .ref (G.2.2 + o0)), (1, .int (iv (w32 (v1 + x3)))), (2, .int (iv (w32 (v2 + (-1)))))]) C dX0_sumWorth_29 2 rfl (by decide) [1, 2, 0] rfl ?_
          refine z_goto 9 C dX0_sumWorth_32 (by decide) ?_
          exact ih9 (w32 (v1 + x3)) (w32 (v2 + (-1))) M5 (w32_rng _) (w32_rng _) (lp_back h hZ9)
    exact hL9 _ v1 v2 M gv1 gv2 hb9_
  unfold uX0_sumWorth at h
  refine z_iconst C dX0_sumWorth_0 ?_
  refine z_istore_n (lv' := [(0, .ref (G.2.2 + o0)), (1, .int (iv 0))]) C dX0_sumWorth_1 rfl (by decide) [1, 0] rfl ?_
  refine z_aload_n C dX0_sumWorth_2 0 rfl ?_
  obtain ⟨x6, hx6, h⟩ := bnd h
  refine y_getI C dX0_sumWorth_3 fX0_37 rfl hx6 (fun gx6 => ?_)
  refine z_iconst C dX0_sumWorth_6 ?_
  refine y_isub C dX0_sumWorth_7 ?_
  refine z_istore_n (lv' := [(0, .ref (G.2.2 + o0)), (1, .int (iv 0)), (2, .int (iv (w32 (x6 - 1))))]) C dX0_sumWorth_8 rfl (by decide) [1, 2, 0] rfl ?_
  exact hb9 o0 0 (w32 (x6 - 1)) M0 (by decide) (w32_rng _) h

set_option maxHeartbeats 4000000 in
set_option maxRecDepth 100000 in
theorem tX0_noteCheapest {G : Gx} {σ : State} (hC : Cy G σ) (o0 : Nat) (v1 : Int) (v2 : Int) {M0 : Mm} (gv1 : rg v1) (gv2 : rg v2) {R : Mm} (h : uX0_noteCheapest o0 v1 v2 M0 = some R) : Ct G σ (1) yX0_noteCheapest cX0_noteCheapest 4 none [.ref (G.2.2 + o0), .int (iv v1), .int (iv v2)] M0 0 0 (Qv R) := by
  refine Ct.of hC.1 (by decide +kernel) (Nat.le_of_ble_eq_true rfl) ?_
  intro p l e R0 s m args below meth c C
  show Jz G σ p l e R0 s m args below meth c 4 0 0 (Qv R) M0 0 0 0 [(0, .ref (G.2.2 + o0)), (1, .int (iv v1)), (2, .int (iv v2))] []
  have hb37 : ∀ (o0 : Nat) (v1 : Int) (v2 : Int) (vs0 : Int) (M : Mm), (rg v1) → (rg v2) → (vs0 = 0 ∨ vs0 = 1) → uX0_noteCheapest_b37 o0 v1 v2 vs0 M = some R → Jz G σ p l e R0 s m args below meth c 4 0 0 (Qv R) M 0 0 37 [(0, .ref (G.2.2 + o0)), (1, .int (iv v1)), (2, .int (iv v2))] [.int (iv vs0)] := by
    intro o0 v1 v2 vs0 M gv1 gv2 bvs0 h
    unfold uX0_noteCheapest_b37 at h
    refine z_istore_n (lv' := [(0, .ref (G.2.2 + o0)), (1, .int (iv v1)), (2, .int (iv v2)), (3, .int (iv vs0))]) C dX0_noteCheapest_37 rfl (by decide) [1, 2, 3, 0] rfl ?_
    refine z_iload_n C dX0_noteCheapest_38 3 rfl ?_
    refine z_if_eq 52 C dX0_noteCheapest_39 (by decide) (rg01 bvs0) (fun e1 => ?_) (fun e1 => ?_)
    ·
      have h := (if_pos e1).symm.trans h
      exact y_retV C dX0_noteCheapest_52 h
    ·
      have h := (if_neg e1).symm.trans h
      refine z_aload_n C dX0_noteCheapest_42 0 rfl ?_
      refine z_iload_n C dX0_noteCheapest_43 1 rfl ?_
      obtain ⟨M2, hM2, h⟩ := bnd h
      refine y_putI C dX0_noteCheapest_44 fX0_68 rfl rfl rfl rfl hM2 ?_
      refine z_aload_n C dX0_noteCheapest_47 0 rfl ?_
      refine z_iload_n C dX0_noteCheapest_48 2 rfl ?_
      obtain ⟨M3, hM3, h⟩ := bnd h
      refine y_putI C dX0_noteCheapest_49 fX0_126 rfl rfl rfl rfl hM3 ?_
      exact y_retV C dX0_noteCheapest_52 h
  have hb36 : ∀ (o0 : Nat) (v1 : Int) (v2 : Int) (M : Mm), (rg v1) → (rg v2) → uX0_noteCheapest_b36 o0 v1 v2 M = some R → Jz G σ p l e R0 s m args below meth c 4 0 0 (Qv R) M 0 0 36 [(0, .ref (G.2.2 + o0)), (1, .int (iv v1)), (2, .int (iv v2))] [] := by
    intro o0 v1 v2 M gv1 gv2 h
    unfold uX0_noteCheapest_b36 at h
    refine z_iconst C dX0_noteCheapest_36 ?_
    exact hb37 o0 v1 v2 0 M gv1 gv2 (by decide) h
  have hb32 : ∀ (o0 : Nat) (v1 : Int) (v2 : Int) (M : Mm), (rg v1) → (rg v2) → uX0_noteCheapest_b32 o0 v1 v2 M = some R → Jz G σ p l e R0 s m args below meth c 4 0 0 (Qv R) M 0 0 32 [(0, .ref (G.2.2 + o0)), (1, .int (iv v1)), (2, .int (iv v2))] [] := by
    intro o0 v1 v2 M gv1 gv2 h
    unfold uX0_noteCheapest_b32 at h
    refine z_iconst C dX0_noteCheapest_32 ?_
    refine z_goto 37 C dX0_noteCheapest_33 (by decide) ?_
    exact hb37 o0 v1 v2 1 M gv1 gv2 (by decide) h
  unfold uX0_noteCheapest at h
  refine z_aload_n C dX0_noteCheapest_0 0 rfl ?_
  obtain ⟨x4, hx4, h⟩ := bnd h
  refine y_getI C dX0_noteCheapest_1 fX0_68 rfl hx4 (fun gx4 => ?_)
  refine z_iconst C dX0_noteCheapest_4 ?_
  refine z_icmp_eq 32 C dX0_noteCheapest_5 (by decide) gx4 (by decide) (fun e5 => ?_) (fun e5 => ?_)
  ·
    have h := (if_pos e5).symm.trans h
    exact hb32 o0 v1 v2 M0 gv1 gv2 h
  ·
    have h := (if_neg e5).symm.trans h
    refine z_iload_n C dX0_noteCheapest_8 1 rfl ?_
    refine z_aload_n C dX0_noteCheapest_9 0 rfl ?_
    obtain ⟨x6, hx6, h⟩ := bnd h
    refine y_getI C dX0_noteCheapest_10 fX0_68 rfl hx6 (fun gx6 => ?_)
    refine z_icmp_lt 32 C dX0_noteCheapest_13 (by decide) gv1 gx6 (fun e7 => ?_) (fun e7 => ?_)
    ·
      have h := (if_pos e7).symm.trans h
      exact hb32 o0 v1 v2 M0 gv1 gv2 h
    ·
      have h := (if_neg e7).symm.trans h
      refine z_iload_n C dX0_noteCheapest_16 1 rfl ?_
      refine z_aload_n C dX0_noteCheapest_17 0 rfl ?_
      obtain ⟨x8, hx8, h⟩ := bnd h
      refine y_getI C dX0_noteCheapest_18 fX0_68 rfl hx8 (fun gx8 => ?_)
      refine z_icmp_ne 36 C dX0_noteCheapest_21 (by decide) gv1 gx8 (fun e9 => ?_) (fun e9 => ?_)
      ·
        have h := (if_neg e9).symm.trans h
        exact hb36 o0 v1 v2 M0 gv1 gv2 h
      ·
        have h := (if_pos e9).symm.trans h
        refine z_iload_n C dX0_noteCheapest_24 2 rfl ?_
        refine z_aload_n C dX0_noteCheapest_25 0 rfl ?_
        obtain ⟨x10, hx10, h⟩ := bnd h
        refine y_getI C dX0_noteCheapest_26 fX0_126 rfl hx10 (fun gx10 => ?_)
        refine z_icmp_ge 36 C dX0_noteCheapest_29 (by decide) gv2 gx10 (fun e11 => ?_) (fun e11 => ?_)
        ·
          have h := (if_pos e11).symm.trans h
          exact hb36 o0 v1 v2 M0 gv1 gv2 h
        ·
          have h := (if_neg e11).symm.trans h
          exact hb32 o0 v1 v2 M0 gv1 gv2 h

set_option maxHeartbeats 4000000 in
set_option maxRecDepth 100000 in
theorem tX0_strokesNeeded {G : Gx} {σ : State} (hC : Cy G σ) (o0 : Nat) {M0 : Mm}  {R : Int} (h : uX0_strokesNeeded o0 M0 = some R) : Ct G σ (1) yX0_strokesNeeded cX0_strokesNeeded 1 (some .int) [.ref (G.2.2 + o0)] M0 0 0 (Qi R M0) := by
  refine Ct.of hC.1 (by decide +kernel) (Nat.le_of_ble_eq_true rfl) ?_
  intro p l e R0 s m args below meth c C
  show Jz G σ p l e R0 s m args below meth c 1 0 0 (Qi R M0) M0 0 0 0 [(0, .ref (G.2.2 + o0))] []
  unfold uX0_strokesNeeded at h
  refine z_aload_n C dX0_strokesNeeded_0 0 rfl ?_
  obtain ⟨x1, hx1, h⟩ := bnd h
  refine y_getI C dX0_strokesNeeded_1 fX0_129 rfl hx1 (fun gx1 => ?_)
  refine z_aload_n C dX0_strokesNeeded_4 0 rfl ?_
  obtain ⟨x2, hx2, h⟩ := bnd h
  refine y_getI C dX0_strokesNeeded_5 fX0_132 rfl hx2 (fun gx2 => ?_)
  refine y_iadd C dX0_strokesNeeded_8 ?_
  exact y_iretP C dX0_strokesNeeded_9 h (w32_rng _)

set_option maxHeartbeats 4000000 in
set_option maxRecDepth 100000 in
theorem tX1_copyFrom {G : Gx} {σ : State} (hC : Cy G σ) (o0 : Nat) (o1 : Nat) {M0 : Mm}  {R : Mm} (h : uX1_copyFrom o0 o1 M0 = some R) : Ct G σ (1) yX1_copyFrom cX1_copyFrom 2 none [.ref (G.2.2 + o0), .ref (G.2.2 + o1)] M0 0 0 (Qv R) := by
  refine Ct.of hC.1 (by decide +kernel) (Nat.le_of_ble_eq_true rfl) ?_
  intro p l e R0 s m args below meth c C
  show Jz G σ p l e R0 s m args below meth c 2 0 0 (Qv R) M0 0 0 0 [(0, .ref (G.2.2 + o0)), (1, .ref (G.2.2 + o1))] []
  unfold uX1_copyFrom at h
  refine z_aload_n C dX1_copyFrom_0 0 rfl ?_
  refine z_aload_n C dX1_copyFrom_1 1 rfl ?_
  obtain ⟨x1, hx1, h⟩ := bnd h
  refine y_getI C dX1_copyFrom_2 fX1_33 rfl hx1 (fun gx1 => ?_)
  obtain ⟨M2, hM2, h⟩ := bnd h
  refine y_putI C dX1_copyFrom_5 fX1_33 rfl rfl rfl rfl hM2 ?_
  refine z_aload_n C dX1_copyFrom_8 0 rfl ?_
  refine z_aload_n C dX1_copyFrom_9 1 rfl ?_
  obtain ⟨x3, hx3, h⟩ := bnd h
  refine y_getI C dX1_copyFrom_10 fX1_37 rfl hx3 (fun gx3 => ?_)
  obtain ⟨M4, hM4, h⟩ := bnd h
  refine y_putI C dX1_copyFrom_13 fX1_37 rfl rfl rfl rfl hM4 ?_
  refine z_aload_n C dX1_copyFrom_16 0 rfl ?_
  refine z_aload_n C dX1_copyFrom_17 1 rfl ?_
  obtain ⟨x5, hx5, h⟩ := bnd h
  refine y_getI C dX1_copyFrom_18 fX1_40 rfl hx5 (fun gx5 => ?_)
  obtain ⟨M6, hM6, h⟩ := bnd h
  refine y_putI C dX1_copyFrom_21 fX1_40 rfl rfl rfl rfl hM6 ?_
  refine z_aload_n C dX1_copyFrom_24 0 rfl ?_
  refine z_aload_n C dX1_copyFrom_25 1 rfl ?_
  obtain ⟨x7, hx7, h⟩ := bnd h
  refine y_getI C dX1_copyFrom_26 fX1_43 rfl hx7 (fun gx7 => ?_)
  obtain ⟨M8, hM8, h⟩ := bnd h
  refine y_putI C dX1_copyFrom_29 fX1_43 rfl rfl rfl rfl hM8 ?_
  refine z_aload_n C dX1_copyFrom_32 0 rfl ?_
  refine z_aload_n C dX1_copyFrom_33 1 rfl ?_
  obtain ⟨x9, hx9, h⟩ := bnd h
  refine y_getI C dX1_copyFrom_34 fX1_46 rfl hx9 (fun gx9 => ?_)
  obtain ⟨M10, hM10, h⟩ := bnd h
  refine y_putI C dX1_copyFrom_37 fX1_46 rfl rfl rfl rfl hM10 ?_
  refine z_aload_n C dX1_copyFrom_40 0 rfl ?_
  refine z_aload_n C dX1_copyFrom_41 1 rfl ?_
  obtain ⟨x11, hx11, h⟩ := bnd h
  refine y_getI C dX1_copyFrom_42 fX1_49 rfl hx11 (fun gx11 => ?_)
  obtain ⟨M12, hM12, h⟩ := bnd h
  refine y_putI C dX1_copyFrom_45 fX1_49 rfl rfl rfl rfl hM12 ?_
  refine z_aload_n C dX1_copyFrom_48 0 rfl ?_
  refine z_aload_n C dX1_copyFrom_49 1 rfl ?_
  obtain ⟨x13, hx13, h⟩ := bnd h
  refine y_getI C dX1_copyFrom_50 fX1_58 rfl hx13 (fun gx13 => ?_)
  obtain ⟨M14, hM14, h⟩ := bnd h
  refine y_putI C dX1_copyFrom_53 fX1_58 rfl rfl rfl rfl hM14 ?_
  refine z_aload_n C dX1_copyFrom_56 0 rfl ?_
  refine z_aload_n C dX1_copyFrom_57 1 rfl ?_
  obtain ⟨x15, hx15, h⟩ := bnd h
  refine y_getI C dX1_copyFrom_58 fX1_61 rfl hx15 (fun gx15 => ?_)
  obtain ⟨M16, hM16, h⟩ := bnd h
  refine y_putI C dX1_copyFrom_61 fX1_61 rfl rfl rfl rfl hM16 ?_
  refine z_aload_n C dX1_copyFrom_64 0 rfl ?_
  refine z_aload_n C dX1_copyFrom_65 1 rfl ?_
  obtain ⟨x17, hx17, h⟩ := bnd h
  refine y_getI C dX1_copyFrom_66 fX1_52 rfl hx17 (fun gx17 => ?_)
  obtain ⟨M18, hM18, h⟩ := bnd h
  refine y_putI C dX1_copyFrom_69 fX1_52 rfl rfl rfl rfl hM18 ?_
  refine z_aload_n C dX1_copyFrom_72 1 rfl ?_
  obtain ⟨on19, hon19, h⟩ := bnd h
  refine y_getR C dX1_copyFrom_73 fX1_9 rfl hon19 ?_
  refine z_iconst C dX1_copyFrom_76 ?_
  refine z_aload_n C dX1_copyFrom_77 0 rfl ?_
  obtain ⟨on20, hon20, h⟩ := bnd h
  refine y_getR C dX1_copyFrom_78 fX1_9 rfl hon20 ?_
  refine z_iconst C dX1_copyFrom_81 ?_
  refine z_bipush C dX1_copyFrom_82 (by decide) ?_
  obtain ⟨M21, hM21, h⟩ := bnd h
  refine y_cpy C dX1_copyFrom_84 (gt_3 (i := 159) (by decide +kernel) (by decide +kernel)) hM21 (by decide) (Nat.le_of_ble_eq_true rfl) ?_
  refine z_aload_n C dX1_copyFrom_87 1 rfl ?_
  obtain ⟨on22, hon22, h⟩ := bnd h
  refine y_getR C dX1_copyFrom_88 fX1_15 rfl hon22 ?_
  refine z_iconst C dX1_copyFrom_91 ?_
  refine z_aload_n C dX1_copyFrom_92 0 rfl ?_
  obtain ⟨on23, hon23, h⟩ := bnd h
  refine y_getR C dX1_copyFrom_93 fX1_15 rfl hon23 ?_
  refine z_iconst C dX1_copyFrom_96 ?_
  refine z_bipush C dX1_copyFrom_97 (by decide) ?_
  obtain ⟨M24, hM24, h⟩ := bnd h
  refine y_cpy C dX1_copyFrom_99 (gt_3 (i := 159) (by decide +kernel) (by decide +kernel)) hM24 (by decide) (Nat.le_of_ble_eq_true rfl) ?_
  refine z_aload_n C dX1_copyFrom_102 1 rfl ?_
  obtain ⟨on25, hon25, h⟩ := bnd h
  refine y_getR C dX1_copyFrom_103 fX1_18 rfl hon25 ?_
  refine z_iconst C dX1_copyFrom_106 ?_
  refine z_aload_n C dX1_copyFrom_107 0 rfl ?_
  obtain ⟨on26, hon26, h⟩ := bnd h
  refine y_getR C dX1_copyFrom_108 fX1_18 rfl hon26 ?_
  refine z_iconst C dX1_copyFrom_111 ?_
  refine z_bipush C dX1_copyFrom_112 (by decide) ?_
  obtain ⟨M27, hM27, h⟩ := bnd h
  refine y_cpy C dX1_copyFrom_114 (gt_3 (i := 159) (by decide +kernel) (by decide +kernel)) hM27 (by decide) (Nat.le_of_ble_eq_true rfl) ?_
  refine z_aload_n C dX1_copyFrom_117 1 rfl ?_
  obtain ⟨on28, hon28, h⟩ := bnd h
  refine y_getR C dX1_copyFrom_118 fX1_21 rfl hon28 ?_
  refine z_iconst C dX1_copyFrom_121 ?_
  refine z_aload_n C dX1_copyFrom_122 0 rfl ?_
  obtain ⟨on29, hon29, h⟩ := bnd h
  refine y_getR C dX1_copyFrom_123 fX1_21 rfl hon29 ?_
  refine z_iconst C dX1_copyFrom_126 ?_
  refine z_bipush C dX1_copyFrom_127 (by decide) ?_
  obtain ⟨M30, hM30, h⟩ := bnd h
  refine y_cpy C dX1_copyFrom_129 (gt_3 (i := 159) (by decide +kernel) (by decide +kernel)) hM30 (by decide) (Nat.le_of_ble_eq_true rfl) ?_
  refine z_aload_n C dX1_copyFrom_132 1 rfl ?_
  obtain ⟨on31, hon31, h⟩ := bnd h
  refine y_getR C dX1_copyFrom_133 fX1_24 rfl hon31 ?_
  refine z_iconst C dX1_copyFrom_136 ?_
  refine z_aload_n C dX1_copyFrom_137 0 rfl ?_
  obtain ⟨on32, hon32, h⟩ := bnd h
  refine y_getR C dX1_copyFrom_138 fX1_24 rfl hon32 ?_
  refine z_iconst C dX1_copyFrom_141 ?_
  refine z_aload_n C dX1_copyFrom_142 0 rfl ?_
  obtain ⟨on33, hon33, h⟩ := bnd h
  refine y_getR C dX1_copyFrom_143 fX1_24 rfl hon33 ?_
  obtain ⟨x34, hx34, h⟩ := bnd h
  refine y_alen C dX1_copyFrom_146 hx34 (fun gx34 => ?_)
  obtain ⟨M35, hM35, h⟩ := bnd h
  refine y_cpy C dX1_copyFrom_147 (gt_3 (i := 159) (by decide +kernel) (by decide +kernel)) hM35 (by decide) (Nat.le_of_ble_eq_true rfl) ?_
  refine z_aload_n C dX1_copyFrom_150 1 rfl ?_
  obtain ⟨on36, hon36, h⟩ := bnd h
  refine y_getR C dX1_copyFrom_151 fX1_27 rfl hon36 ?_
  refine z_iconst C dX1_copyFrom_154 ?_
  refine z_aload_n C dX1_copyFrom_155 0 rfl ?_
  obtain ⟨on37, hon37, h⟩ := bnd h
  refine y_getR C dX1_copyFrom_156 fX1_27 rfl hon37 ?_
  refine z_iconst C dX1_copyFrom_159 ?_
  refine z_aload_n C dX1_copyFrom_160 0 rfl ?_
  obtain ⟨on38, hon38, h⟩ := bnd h
  refine y_getR C dX1_copyFrom_161 fX1_27 rfl hon38 ?_
  obtain ⟨x39, hx39, h⟩ := bnd h
  refine y_alen C dX1_copyFrom_164 hx39 (fun gx39 => ?_)
  obtain ⟨M40, hM40, h⟩ := bnd h
  refine y_cpy C dX1_copyFrom_165 (gt_3 (i := 159) (by decide +kernel) (by decide +kernel)) hM40 (by decide) (Nat.le_of_ble_eq_true rfl) ?_
  exact y_retV C dX1_copyFrom_168 h

set_option maxHeartbeats 4000000 in
set_option maxRecDepth 100000 in
theorem tX1_bringDieBack {G : Gx} {σ : State} (hC : Cy G σ) (o0 : Nat) {M0 : Mm}  {R : Mm} (h : uX1_bringDieBack o0 M0 = some R) : Ct G σ (1) yX1_bringDieBack cX1_bringDieBack 1 none [.ref (G.2.2 + o0)] M0 0 0 (Qv R) := by
  refine Ct.of hC.1 (by decide +kernel) (Nat.le_of_ble_eq_true rfl) ?_
  intro p l e R0 s m args below meth c C
  show Jz G σ p l e R0 s m args below meth c 1 0 0 (Qv R) M0 0 0 0 [(0, .ref (G.2.2 + o0))] []
  unfold uX1_bringDieBack at h
  refine z_aload_n C dX1_bringDieBack_0 0 rfl ?_
  refine z_iconst C dX1_bringDieBack_1 ?_
  obtain ⟨M1, hM1, h⟩ := bnd h
  refine y_putI C dX1_bringDieBack_2 fX1_58 rfl rfl rfl rfl hM1 ?_
  refine z_aload_n C dX1_bringDieBack_5 0 rfl ?_
  refine z_iconst C dX1_bringDieBack_6 ?_
  obtain ⟨M2, hM2, h⟩ := bnd h
  refine y_putI C dX1_bringDieBack_7 fX1_61 rfl rfl rfl rfl hM2 ?_
  exact y_retV C dX1_bringDieBack_10 h

set_option maxHeartbeats 4000000 in
set_option maxRecDepth 100000 in
theorem tX1_isDead {G : Gx} {σ : State} (hC : Cy G σ) (o0 : Nat) (v1 : Int) {M0 : Mm} (gv1 : rg v1) {R : Int} (h : uX1_isDead o0 v1 M0 = some R) : Ct G σ (1) yX1_isDead cX1_isDead 2 (some .boolean) [.ref (G.2.2 + o0), .int (iv v1)] M0 0 0 (Qb R M0) := by
  refine Ct.of hC.1 (by decide +kernel) (Nat.le_of_ble_eq_true rfl) ?_
  intro p l e R0 s m args below meth c C
  show Jz G σ p l e R0 s m args below meth c 2 0 0 (Qb R M0) M0 0 0 0 [(0, .ref (G.2.2 + o0)), (1, .int (iv v1))] []
  unfold uX1_isDead at h
  refine z_aload_n C dX1_isDead_0 0 rfl ?_
  obtain ⟨x1, hx1, h⟩ := bnd h
  refine y_getI C dX1_isDead_1 fX1_46 rfl hx1 (fun gx1 => ?_)
  refine z_iload_n C dX1_isDead_4 1 rfl ?_
  refine z_ishr (shr32 x1 v1) C dX1_isDead_5 (iv_self _).symm ?_
  refine z_iconst C dX1_isDead_6 ?_
  refine z_iand (and32 (shr32 x1 v1) 1) C dX1_isDead_7 (iv_self _).symm ?_
  refine z_if_eq 15 C dX1_isDead_8 (by decide) (and32_rng _ _) (fun e2 => ?_) (fun e2 => ?_)
  ·
    have h := (if_pos e2).symm.trans h
    refine z_iconst C dX1_isDead_15 ?_
    exact y_zretP C dX1_isDead_16 h (by decide)
  ·
    have h := (if_neg e2).symm.trans h
    refine z_iconst C dX1_isDead_11 ?_
    refine z_goto 16 C dX1_isDead_12 (by decide) ?_
    exact y_zretP C dX1_isDead_16 h (by decide)

set_option maxHeartbeats 4000000 in
set_option maxRecDepth 100000 in
theorem tX1_bury {G : Gx} {σ : State} (hC : Cy G σ) (o0 : Nat) (v1 : Int) {M0 : Mm} (gv1 : rg v1) {R : Mm} (h : uX1_bury o0 v1 M0 = some R) : Ct G σ (1) yX1_bury cX1_bury 2 none [.ref (G.2.2 + o0), .int (iv v1)] M0 0 0 (Qv R) := by
  refine Ct.of hC.1 (by decide +kernel) (Nat.le_of_ble_eq_true rfl) ?_
  intro p l e R0 s m args below meth c C
  show Jz G σ p l e R0 s m args below meth c 2 0 0 (Qv R) M0 0 0 0 [(0, .ref (G.2.2 + o0)), (1, .int (iv v1))] []
  unfold uX1_bury at h
  refine z_aload_n C dX1_bury_0 0 rfl ?_
  refine z_dup C dX1_bury_1 rfl ?_
  obtain ⟨x1, hx1, h⟩ := bnd h
  refine y_getI C dX1_bury_2 fX1_46 rfl hx1 (fun gx1 => ?_)
  refine z_iconst C dX1_bury_5 ?_
  refine z_iload_n C dX1_bury_6 1 rfl ?_
  refine z_ishl (shl32 1 v1) C dX1_bury_7 (iv_self _).symm ?_
  refine z_ior (or32 x1 (shl32 1 v1)) C dX1_bury_8 (iv_self _).symm ?_
  obtain ⟨M2, hM2, h⟩ := bnd h
  refine y_putI C dX1_bury_9 fX1_46 rfl rfl rfl rfl hM2 ?_
  exact y_retV C dX1_bury_12 h

set_option maxHeartbeats 4000000 in
set_option maxRecDepth 100000 in
theorem tX1_isClosed {G : Gx} {σ : State} (hC : Cy G σ) (o0 : Nat) (v1 : Int) {M0 : Mm} (gv1 : rg v1) {R : Int} (h : uX1_isClosed o0 v1 M0 = some R) : Ct G σ (1) yX1_isClosed cX1_isClosed 2 (some .boolean) [.ref (G.2.2 + o0), .int (iv v1)] M0 0 0 (Qb R M0) := by
  refine Ct.of hC.1 (by decide +kernel) (Nat.le_of_ble_eq_true rfl) ?_
  intro p l e R0 s m args below meth c C
  show Jz G σ p l e R0 s m args below meth c 2 0 0 (Qb R M0) M0 0 0 0 [(0, .ref (G.2.2 + o0)), (1, .int (iv v1))] []
  unfold uX1_isClosed at h
  refine z_aload_n C dX1_isClosed_0 0 rfl ?_
  obtain ⟨x1, hx1, h⟩ := bnd h
  refine y_getI C dX1_isClosed_1 fX1_49 rfl hx1 (fun gx1 => ?_)
  refine z_iload_n C dX1_isClosed_4 1 rfl ?_
  refine z_ishr (shr32 x1 v1) C dX1_isClosed_5 (iv_self _).symm ?_
  refine z_iconst C dX1_isClosed_6 ?_
  refine z_iand (and32 (shr32 x1 v1) 1) C dX1_isClosed_7 (iv_self _).symm ?_
  refine z_if_eq 15 C dX1_isClosed_8 (by decide) (and32_rng _ _) (fun e2 => ?_) (fun e2 => ?_)
  ·
    have h := (if_pos e2).symm.trans h
    refine z_iconst C dX1_isClosed_15 ?_
    exact y_zretP C dX1_isClosed_16 h (by decide)
  ·
    have h := (if_neg e2).symm.trans h
    refine z_iconst C dX1_isClosed_11 ?_
    refine z_goto 16 C dX1_isClosed_12 (by decide) ?_
    exact y_zretP C dX1_isClosed_16 h (by decide)

set_option maxHeartbeats 4000000 in
set_option maxRecDepth 100000 in
theorem tX1_shut {G : Gx} {σ : State} (hC : Cy G σ) (o0 : Nat) (v1 : Int) {M0 : Mm} (gv1 : rg v1) {R : Mm} (h : uX1_shut o0 v1 M0 = some R) : Ct G σ (1) yX1_shut cX1_shut 2 none [.ref (G.2.2 + o0), .int (iv v1)] M0 0 0 (Qv R) := by
  refine Ct.of hC.1 (by decide +kernel) (Nat.le_of_ble_eq_true rfl) ?_
  intro p l e R0 s m args below meth c C
  show Jz G σ p l e R0 s m args below meth c 2 0 0 (Qv R) M0 0 0 0 [(0, .ref (G.2.2 + o0)), (1, .int (iv v1))] []
  unfold uX1_shut at h
  refine z_aload_n C dX1_shut_0 0 rfl ?_
  refine z_dup C dX1_shut_1 rfl ?_
  obtain ⟨x1, hx1, h⟩ := bnd h
  refine y_getI C dX1_shut_2 fX1_49 rfl hx1 (fun gx1 => ?_)
  refine z_iconst C dX1_shut_5 ?_
  refine z_iload_n C dX1_shut_6 1 rfl ?_
  refine z_ishl (shl32 1 v1) C dX1_shut_7 (iv_self _).symm ?_
  refine z_ior (or32 x1 (shl32 1 v1)) C dX1_shut_8 (iv_self _).symm ?_
  obtain ⟨M2, hM2, h⟩ := bnd h
  refine y_putI C dX1_shut_9 fX1_49 rfl rfl rfl rfl hM2 ?_
  exact y_retV C dX1_shut_12 h

set_option maxHeartbeats 4000000 in
set_option maxRecDepth 100000 in
theorem tX1_addCoin {G : Gx} {σ : State} (hC : Cy G σ) (o0 : Nat) (v1 : Int) (v2 : Int) {M0 : Mm} (gv1 : rg v1) (gv2 : rg v2) {R : Int × Mm} (h : uX1_addCoin o0 v1 v2 M0 = some R) : Ct G σ (1) yX1_addCoin cX1_addCoin 4 (some .int) [.ref (G.2.2 + o0), .int (iv v1), .int (iv v2)] M0 0 0 (Qi R.1 R.2) := by
  refine Ct.of hC.1 (by decide +kernel) (Nat.le_of_ble_eq_true rfl) ?_
  intro p l e R0 s m args below meth c C
  show Jz G σ p l e R0 s m args below meth c 4 0 0 (Qi R.1 R.2) M0 0 0 0 [(0, .ref (G.2.2 + o0)), (1, .int (iv v1)), (2, .int (iv v2))] []
  unfold uX1_addCoin at h
  refine z_aload_n C dX1_addCoin_0 0 rfl ?_
  obtain ⟨x1, hx1, h⟩ := bnd h
  refine y_getI C dX1_addCoin_1 fX1_33 rfl hx1 (fun gx1 => ?_)
  refine z_istore_n (lv' := [(0, .ref (G.2.2 + o0)), (1, .int (iv v1)), (2, .int (iv v2)), (3, .int (iv x1))]) C dX1_addCoin_4 rfl (by decide) [1, 2, 3, 0] rfl ?_
  refine z_iload_n C dX1_addCoin_5 3 rfl ?_
  refine z_bipush C dX1_addCoin_6 (by decide) ?_
  refine z_icmp_lt 13 C dX1_addCoin_8 (by decide) gx1 (by decide) (fun e2 => ?_) (fun e2 => ?_)
  ·
    have h := (if_pos e2).symm.trans h
    refine z_aload_n C dX1_addCoin_13 0 rfl ?_
    obtain ⟨on3, hon3, h⟩ := bnd h
    refine y_getR C dX1_addCoin_14 fX1_9 rfl hon3 ?_
    refine z_iload_n C dX1_addCoin_17 3 rfl ?_
    refine z_iload_n C dX1_addCoin_18 2 rfl ?_
    obtain ⟨M4, hM4, h⟩ := bnd h
    refine y_iast C dX1_addCoin_19 hM4 ?_
    refine z_aload_n C dX1_addCoin_20 0 rfl ?_
    obtain ⟨on5, hon5, h⟩ := bnd h
    refine y_getR C dX1_addCoin_21 fX1_15 rfl hon5 ?_
    refine z_iload_n C dX1_addCoin_24 3 rfl ?_
    refine z_iload_n C dX1_addCoin_25 1 rfl ?_
    obtain ⟨M6, hM6, h⟩ := bnd h
    refine y_iast C dX1_addCoin_26 hM6 ?_
    refine z_aload_n C dX1_addCoin_27 0 rfl ?_
    obtain ⟨on7, hon7, h⟩ := bnd h
    refine y_getR C dX1_addCoin_28 fX1_18 rfl hon7 ?_
    refine z_iload_n C dX1_addCoin_31 3 rfl ?_
    refine z_iconst C dX1_addCoin_32 ?_
    obtain ⟨M8, hM8, h⟩ := bnd h
    refine y_iast C dX1_addCoin_33 hM8 ?_
    refine z_aload_n C dX1_addCoin_34 0 rfl ?_
    obtain ⟨on9, hon9, h⟩ := bnd h
    refine y_getR C dX1_addCoin_35 fX1_21 rfl hon9 ?_
    refine z_iload_n C dX1_addCoin_38 3 rfl ?_
    refine z_iconst C dX1_addCoin_39 ?_
    obtain ⟨M10, hM10, h⟩ := bnd h
    refine y_iast C dX1_addCoin_40 hM10 ?_
    refine z_aload_n C dX1_addCoin_41 0 rfl ?_
    refine z_dup C dX1_addCoin_42 rfl ?_
    obtain ⟨x11, hx11, h⟩ := bnd h
    refine y_getI C dX1_addCoin_43 fX1_52 rfl hx11 (fun gx11 => ?_)
    refine z_iload_n C dX1_addCoin_46 2 rfl ?_
    refine y_iadd C dX1_addCoin_47 ?_
    obtain ⟨M12, hM12, h⟩ := bnd h
    refine y_putI C dX1_addCoin_48 fX1_52 rfl rfl rfl rfl hM12 ?_
    refine z_aload_n C dX1_addCoin_51 0 rfl ?_
    refine z_dup C dX1_addCoin_52 rfl ?_
    obtain ⟨x13, hx13, h⟩ := bnd h
    refine y_getI C dX1_addCoin_53 fX1_33 rfl hx13 (fun gx13 => ?_)
    refine z_iconst C dX1_addCoin_56 ?_
    refine y_iadd C dX1_addCoin_57 ?_
    obtain ⟨M14, hM14, h⟩ := bnd h
    refine y_putI C dX1_addCoin_58 fX1_33 rfl rfl rfl rfl hM14 ?_
    refine z_iload_n C dX1_addCoin_61 3 rfl ?_
    exact y_iretB C dX1_addCoin_62 h gx1
  ·
    have h := (if_neg e2).symm.trans h
    refine z_iconst C dX1_addCoin_11 ?_
    exact y_iretB C dX1_addCoin_12 h (by decide)

set_option maxHeartbeats 4000000 in
set_option maxRecDepth 100000 in
theorem tX1_coinsOf {G : Gx} {σ : State} (hC : Cy G σ) (o0 : Nat) (v1 : Int) {M0 : Mm} (gv1 : rg v1) {R : Int} (h : uX1_coinsOf o0 v1 M0 = some R) : Ct G σ (1) yX1_coinsOf cX1_coinsOf 4 (some .int) [.ref (G.2.2 + o0), .int (iv v1)] M0 0 0 (Qi R M0) := by
  refine Ct.of hC.1 (by decide +kernel) (Nat.le_of_ble_eq_true rfl) ?_
  intro p l e R0 s m args below meth c C
  show Jz G σ p l e R0 s m args below meth c 4 0 0 (Qi R M0) M0 0 0 0 [(0, .ref (G.2.2 + o0)), (1, .int (iv v1))] []
  have hb37 : ∀ (v2 : Int), (rg v2) → uX1_coinsOf_b37 v2 M0 = some R → Jz G σ p l e R0 s m args below meth c 4 0 0 (Qi R M0) M0 0 0 37 [(2, .int (iv v2))] [] := by
    intro v2  gv2 h
    unfold uX1_coinsOf_b37 at h
    refine z_iload_n C dX1_coinsOf_37 0 rfl ?_
    exact y_iretP C dX1_coinsOf_38 h gv2
  have hb4 : ∀ (o0 : Nat) (v1 : Int) (v2 : Int) (v3 : Int), (rg v1) → (rg v2) → (rg v3) → uX1_coinsOf_b4 o0 v1 v2 v3 M0 = some R → Jz G σ p l e R0 s m args below meth c 4 0 0 (Qi R M0) M0 0 0 4 [(0, .ref (G.2.2 + o0)), (1, .int (iv v1)), (2, .int (iv v2)), (3, .int (iv v3))] [] := by
    intro o0 v1 v2 v3  gv1 gv2 gv3 h
    unfold uX1_coinsOf_b4 at h
    obtain ⟨b4, hb4_, hc4⟩ := bnd h
    have hL4 : ∀ (n : Nat) (v2 : Int) (v3 : Int), (rg v2) → (rg v3) → lp (uX1_coinsOf_f4 o0 v1 M0) n (v2, v3) = some b4 → Jz G σ p l e R0 s m args below meth c 4 0 0 (Qi R M0) M0 0 0 4 [(0, .ref (G.2.2 + o0)), (1, .int (iv v1)), (2, .int (iv v2)), (3, .int (iv v3))] [] := by
      intro n; induction n with
      | zero => intro v2 v3 gv2 gv3 hq; exact (lp_0 hq).elim
      | succ n4 ih4 =>
        intro v2 v3 gv2 gv3 hq
        obtain ⟨z4, h, hZ4⟩ := lp_s hq
        have h : uX1_coinsOf_s4 o0 v1 M0 v2 v3 = some z4 := h
        unfold uX1_coinsOf_s4 at h
        refine z_iload_n C dX1_coinsOf_4 3 rfl ?_
        refine z_aload_n C dX1_coinsOf_5 0 rfl ?_
        obtain ⟨x1, hx1, h⟩ := bnd h
        refine y_getI C dX1_coinsOf_6 fX1_33 rfl hx1 (fun gx1 => ?_)
        refine z_icmp_ge 37 C dX1_coinsOf_9 (by decide) gv3 gx1 (fun e2 => ?_) (fun e2 => ?_)
        ·
          have h := (if_pos e2).symm.trans h
          have h : uX1_coinsOf_b37 v2 M0 = some R := lp_ex (K := (uX1_coinsOf_c4 o0 v1 M0)) h hZ4 hc4
          refine z_drop (lv' := [(2, .int (iv v2))]) [2] rfl ?_
          exact hb37 v2  gv2 h
        ·
          have h := (if_neg e2).symm.trans h
          refine z_iload_n C dX1_coinsOf_12 3 rfl ?_
          refine z_bipush C dX1_coinsOf_13 (by decide) ?_
          refine z_icmp_ge 37 C dX1_coinsOf_15 (by decide) gv3 (by decide) (fun e3 => ?_) (fun e3 => ?_)
          ·
            have h := (if_pos e3).symm.trans h
            have h : uX1_coinsOf_b37 v2 M0 = some R := lp_ex (K := (uX1_coinsOf_c4 o0 v1 M0)) h hZ4 hc4
            refine z_drop (lv' := [(2, .int (iv v2))]) [2] rfl ?_
            exact hb37 v2  gv2 h
          ·
            have h := (if_neg e3).symm.trans h
            refine z_aload_n C dX1_coinsOf_18 0 rfl ?_
            obtain ⟨on4, hon4, h⟩ := bnd h
            refine y_getR C dX1_coinsOf_19 fX1_15 rfl hon4 ?_
            refine z_iload_n C dX1_coinsOf_22 3 rfl ?_
            obtain ⟨x5, hx5, h⟩ := bnd h
            refine y_iald C dX1_coinsOf_23 hx5 (fun gx5 => ?_)
            refine z_iload_n C dX1_coinsOf_24 1 rfl ?_
            refine z_icmp_ne 31 C dX1_coinsOf_25 (by decide) gx5 gv1 (fun e6 => ?_) (fun e6 => ?_)
            ·
              have h := (if_neg e6).symm.trans h
              refine y_iinc (lv' := [(0, .ref (G.2.2 + o0)), (1, .int (iv v1)), (2, .int (iv v2)), (3, .int (iv (w32 (v3 + 1))))]) C dX1_coinsOf_31 3 rfl (by decide) [1, 2, 3, 0] rfl ?_
              refine z_goto 4 C dX1_coinsOf_34 (by decide) ?_
              exact ih4 v2 (w32 (v3 + 1)) gv2 (w32_rng _) (lp_back h hZ4)
            ·
              have h := (if_pos e6).symm.trans h
              refine y_iinc (lv' := [(0, .ref (G.2.2 + o0)), (1, .int (iv v1)), (2, .int (iv (w32 (v2 + 1)))), (3, .int (iv v3))]) C dX1_coinsOf_28 2 rfl (by decide) [1, 2, 0, 3] rfl ?_
              refine y_iinc (lv' := [(0, .ref (G.2.2 + o0)), (1, .int (iv v1)), (2, .int (iv (w32 (v2 + 1)))), (3, .int (iv (w32 (v3 + 1))))]) C dX1_coinsOf_31 3 rfl (by decide) [1, 2, 3, 0] rfl ?_
              refine z_goto 4 C dX1_coinsOf_34 (by decide) ?_
              exact ih4 (w32 (v2 + 1)) (w32 (v3 + 1)) (w32_rng _) (w32_rng _) (lp_back h hZ4)
    exact hL4 _ v2 v3 gv2 gv3 hb4_
  unfold uX1_coinsOf at h
  refine z_iconst C dX1_coinsOf_0 ?_
  refine z_istore_n (lv' := [(0, .ref (G.2.2 + o0)), (1, .int (iv v1)), (2, .int (iv 0))]) C dX1_coinsOf_1 rfl (by decide) [1, 2, 0] rfl ?_
  refine z_iconst C dX1_coinsOf_2 ?_
  refine z_istore_n (lv' := [(0, .ref (G.2.2 + o0)), (1, .int (iv v1)), (2, .int (iv 0)), (3, .int (iv 0))]) C dX1_coinsOf_3 rfl (by decide) [1, 2, 3, 0] rfl ?_
  exact hb4 o0 v1 0 0  gv1 (by decide) (by decide) h

set_option maxHeartbeats 4000000 in
set_option maxRecDepth 100000 in
theorem tX1_grainsOf {G : Gx} {σ : State} (hC : Cy G σ) (o0 : Nat) (v1 : Int) {M0 : Mm} (gv1 : rg v1) {R : Int} (h : uX1_grainsOf o0 v1 M0 = some R) : Ct G σ (1) yX1_grainsOf cX1_grainsOf 4 (some .int) [.ref (G.2.2 + o0), .int (iv v1)] M0 0 0 (Qi R M0) := by
  refine Ct.of hC.1 (by decide +kernel) (Nat.le_of_ble_eq_true rfl) ?_
  intro p l e R0 s m args below meth c C
  show Jz G σ p l e R0 s m args below meth c 4 0 0 (Qi R M0) M0 0 0 0 [(0, .ref (G.2.2 + o0)), (1, .int (iv v1))] []
  have hb43 : ∀ (v2 : Int), (rg v2) → uX1_grainsOf_b43 v2 M0 = some R → Jz G σ p l e R0 s m args below meth c 4 0 0 (Qi R M0) M0 0 0 43 [(2, .int (iv v2))] [] := by
    intro v2  gv2 h
    unfold uX1_grainsOf_b43 at h
    refine z_iload_n C dX1_grainsOf_43 0 rfl ?_
    exact y_iretP C dX1_grainsOf_44 h gv2
  have hb4 : ∀ (o0 : Nat) (v1 : Int) (v2 : Int) (v3 : Int), (rg v1) → (rg v2) → (rg v3) → uX1_grainsOf_b4 o0 v1 v2 v3 M0 = some R → Jz G σ p l e R0 s m args below meth c 4 0 0 (Qi R M0) M0 0 0 4 [(0, .ref (G.2.2 + o0)), (1, .int (iv v1)), (2, .int (iv v2)), (3, .int (iv v3))] [] := by
    intro o0 v1 v2 v3  gv1 gv2 gv3 h
    unfold uX1_grainsOf_b4 at h
    obtain ⟨b4, hb4_, hc4⟩ := bnd h
    have hL4 : ∀ (n : Nat) (v2 : Int) (v3 : Int), (rg v2) → (rg v3) → lp (uX1_grainsOf_f4 o0 v1 M0) n (v2, v3) = some b4 → Jz G σ p l e R0 s m args below meth c 4 0 0 (Qi R M0) M0 0 0 4 [(0, .ref (G.2.2 + o0)), (1, .int (iv v1)), (2, .int (iv v2)), (3, .int (iv v3))] [] := by
      intro n; induction n with
      | zero => intro v2 v3 gv2 gv3 hq; exact (lp_0 hq).elim
      | succ n4 ih4 =>
        intro v2 v3 gv2 gv3 hq
        obtain ⟨z4, h, hZ4⟩ := lp_s hq
        have h : uX1_grainsOf_s4 o0 v1 M0 v2 v3 = some z4 := h
        unfold uX1_grainsOf_s4 at h
        refine z_iload_n C dX1_grainsOf_4 3 rfl ?_
        refine z_aload_n C dX1_grainsOf_5 0 rfl ?_
        obtain ⟨x1, hx1, h⟩ := bnd h
        refine y_getI C dX1_grainsOf_6 fX1_33 rfl hx1 (fun gx1 => ?_)
        refine z_icmp_ge 43 C dX1_grainsOf_9 (by decide) gv3 gx1 (fun e2 => ?_) (fun e2 => ?_)
        ·
          have h := (if_pos e2).symm.trans h
          have h : uX1_grainsOf_b43 v2 M0 = some R := lp_ex (K := (uX1_grainsOf_c4 o0 v1 M0)) h hZ4 hc4
          refine z_drop (lv' := [(2, .int (iv v2))]) [2] rfl ?_
          exact hb43 v2  gv2 h
        ·
          have h := (if_neg e2).symm.trans h
          refine z_iload_n C dX1_grainsOf_12 3 rfl ?_
          refine z_bipush C dX1_grainsOf_13 (by decide) ?_
          refine z_icmp_ge 43 C dX1_grainsOf_15 (by decide) gv3 (by decide) (fun e3 => ?_) (fun e3 => ?_)
          ·
            have h := (if_pos e3).symm.trans h
            have h : uX1_grainsOf_b43 v2 M0 = some R := lp_ex (K := (uX1_grainsOf_c4 o0 v1 M0)) h hZ4 hc4
            refine z_drop (lv' := [(2, .int (iv v2))]) [2] rfl ?_
            exact hb43 v2  gv2 h
          ·
            have h := (if_neg e3).symm.trans h
            refine z_aload_n C dX1_grainsOf_18 0 rfl ?_
            obtain ⟨on4, hon4, h⟩ := bnd h
            refine y_getR C dX1_grainsOf_19 fX1_15 rfl hon4 ?_
            refine z_iload_n C dX1_grainsOf_22 3 rfl ?_
            obtain ⟨x5, hx5, h⟩ := bnd h
            refine y_iald C dX1_grainsOf_23 hx5 (fun gx5 => ?_)
            refine z_iload_n C dX1_grainsOf_24 1 rfl ?_
            refine z_icmp_ne 37 C dX1_grainsOf_25 (by decide) gx5 gv1 (fun e6 => ?_) (fun e6 => ?_)
            ·
              have h := (if_neg e6).symm.trans h
              refine y_iinc (lv' := [(0, .ref (G.2.2 + o0)), (1, .int (iv v1)), (2, .int (iv v2)), (3, .int (iv (w32 (v3 + 1))))]) C dX1_grainsOf_37 3 rfl (by decide) [1, 2, 3, 0] rfl ?_
              refine z_goto 4 C dX1_grainsOf_40 (by decide) ?_
              exact ih4 v2 (w32 (v3 + 1)) gv2 (w32_rng _) (lp_back h hZ4)
            ·
              have h := (if_pos e6).symm.trans h
              refine z_iload_n C dX1_grainsOf_28 2 rfl ?_
              refine z_aload_n C dX1_grainsOf_29 0 rfl ?_
              obtain ⟨on7, hon7, h⟩ := bnd h
              refine y_getR C dX1_grainsOf_30 fX1_9 rfl hon7 ?_
              refine z_iload_n C dX1_grainsOf_33 3 rfl ?_
              obtain ⟨x8, hx8, h⟩ := bnd h
              refine y_iald C dX1_grainsOf_34 hx8 (fun gx8 => ?_)
              refine y_iadd C dX1_grainsOf_35 ?_
              refine z_istore_n (lv' := [(0, .ref (G.2.2 + o0)), (1, .int (iv v1)), (2, .int (iv (w32 (v2 + x8)))), (3, .int (iv v3))]) C dX1_grainsOf_36 rfl (by decide) [1, 2, 0, 3] rfl ?_
              refine y_iinc (lv' := [(0, .ref (G.2.2 + o0)), (1, .int (iv v1)), (2, .int (iv (w32 (v2 + x8)))), (3, .int (iv (w32 (v3 + 1))))]) C dX1_grainsOf_37 3 rfl (by decide) [1, 2, 3, 0] rfl ?_
              refine z_goto 4 C dX1_grainsOf_40 (by decide) ?_
              exact ih4 (w32 (v2 + x8)) (w32 (v3 + 1)) (w32_rng _) (w32_rng _) (lp_back h hZ4)
    exact hL4 _ v2 v3 gv2 gv3 hb4_
  unfold uX1_grainsOf at h
  refine z_iconst C dX1_grainsOf_0 ?_
  refine z_istore_n (lv' := [(0, .ref (G.2.2 + o0)), (1, .int (iv v1)), (2, .int (iv 0))]) C dX1_grainsOf_1 rfl (by decide) [1, 2, 0] rfl ?_
  refine z_iconst C dX1_grainsOf_2 ?_
  refine z_istore_n (lv' := [(0, .ref (G.2.2 + o0)), (1, .int (iv v1)), (2, .int (iv 0)), (3, .int (iv 0))]) C dX1_grainsOf_3 rfl (by decide) [1, 2, 3, 0] rfl ?_
  exact hb4 o0 v1 0 0  gv1 (by decide) (by decide) h

set_option maxHeartbeats 4000000 in
set_option maxRecDepth 100000 in
theorem tX1_grainsOfAll {G : Gx} {σ : State} (hC : Cy G σ) (o0 : Nat) {M0 : Mm}  {R : Int} (h : uX1_grainsOfAll o0 M0 = some R) : Ct G σ (1) yX1_grainsOfAll cX1_grainsOfAll 3 (some .int) [.ref (G.2.2 + o0)] M0 0 0 (Qi R M0) := by
  refine Ct.of hC.1 (by decide +kernel) (Nat.le_of_ble_eq_true rfl) ?_
  intro p l e R0 s m args below meth c C
  show Jz G σ p l e R0 s m args below meth c 3 0 0 (Qi R M0) M0 0 0 0 [(0, .ref (G.2.2 + o0))] []
  have hb33 : ∀ (v1 : Int), (rg v1) → uX1_grainsOfAll_b33 v1 M0 = some R → Jz G σ p l e R0 s m args below meth c 3 0 0 (Qi R M0) M0 0 0 33 [(1, .int (iv v1))] [] := by
    intro v1  gv1 h
    unfold uX1_grainsOfAll_b33 at h
    refine z_iload_n C dX1_grainsOfAll_33 0 rfl ?_
    exact y_iretP C dX1_grainsOfAll_34 h gv1
  have hb4 : ∀ (o0 : Nat) (v1 : Int) (v2 : Int), (rg v1) → (rg v2) → uX1_grainsOfAll_b4 o0 v1 v2 M0 = some R → Jz G σ p l e R0 s m args below meth c 3 0 0 (Qi R M0) M0 0 0 4 [(0, .ref (G.2.2 + o0)), (1, .int (iv v1)), (2, .int (iv v2))] [] := by
    intro o0 v1 v2  gv1 gv2 h
    unfold uX1_grainsOfAll_b4 at h
    obtain ⟨b4, hb4_, hc4⟩ := bnd h
    have hL4 : ∀ (n : Nat) (v1 : Int) (v2 : Int), (rg v1) → (rg v2) → lp (uX1_grainsOfAll_f4 o0 M0) n (v1, v2) = some b4 → Jz G σ p l e R0 s m args below meth c 3 0 0 (Qi R M0) M0 0 0 4 [(0, .ref (G.2.2 + o0)), (1, .int (iv v1)), (2, .int (iv v2))] [] := by
      intro n; induction n with
      | zero => intro v1 v2 gv1 gv2 hq; exact (lp_0 hq).elim
      | succ n4 ih4 =>
        intro v1 v2 gv1 gv2 hq
        obtain ⟨z4, h, hZ4⟩ := lp_s hq
        have h : uX1_grainsOfAll_s4 o0 M0 v1 v2 = some z4 := h
        unfold uX1_grainsOfAll_s4 at h
        refine z_iload_n C dX1_grainsOfAll_4 2 rfl ?_
        refine z_aload_n C dX1_grainsOfAll_5 0 rfl ?_
        obtain ⟨x1, hx1, h⟩ := bnd h
        refine y_getI C dX1_grainsOfAll_6 fX1_33 rfl hx1 (fun gx1 => ?_)
        refine z_icmp_ge 33 C dX1_grainsOfAll_9 (by decide) gv2 gx1 (fun e2 => ?_) (fun e2 => ?_)
        ·
          have h := (if_pos e2).symm.trans h
          have h : uX1_grainsOfAll_b33 v1 M0 = some R := lp_ex (K := (uX1_grainsOfAll_c4 o0 M0)) h hZ4 hc4
          refine z_drop (lv' := [(1, .int (iv v1))]) [1] rfl ?_
          exact hb33 v1  gv1 h
        ·
          have h := (if_neg e2).symm.trans h
          refine z_iload_n C dX1_grainsOfAll_12 2 rfl ?_
          refine z_bipush C dX1_grainsOfAll_13 (by decide) ?_
          refine z_icmp_ge 33 C dX1_grainsOfAll_15 (by decide) gv2 (by decide) (fun e3 => ?_) (fun e3 => ?_)
          ·
            have h := (if_pos e3).symm.trans h
            have h : uX1_grainsOfAll_b33 v1 M0 = some R := lp_ex (K := (uX1_grainsOfAll_c4 o0 M0)) h hZ4 hc4
            refine z_drop (lv' := [(1, .int (iv v1))]) [1] rfl ?_
            exact hb33 v1  gv1 h
          ·
            have h := (if_neg e3).symm.trans h
            refine z_iload_n C dX1_grainsOfAll_18 1 rfl ?_
            refine z_aload_n C dX1_grainsOfAll_19 0 rfl ?_
            obtain ⟨on4, hon4, h⟩ := bnd h
            refine y_getR C dX1_grainsOfAll_20 fX1_9 rfl hon4 ?_
            refine z_iload_n C dX1_grainsOfAll_23 2 rfl ?_
            obtain ⟨x5, hx5, h⟩ := bnd h
            refine y_iald C dX1_grainsOfAll_24 hx5 (fun gx5 => ?_)
            refine y_iadd C dX1_grainsOfAll_25 ?_
            refine z_istore_n (lv' := [(0, .ref (G.2.2 + o0)), (1, .int (iv (w32 (v1 + x5)))), (2, .int (iv v2))]) C dX1_grainsOfAll_26 rfl (by decide) [1, 0, 2] rfl ?_
            refine y_iinc (lv' := [(0, .ref (G.2.2 + o0)), (1, .int (iv (w32 (v1 + x5)))), (2, .int (iv (w32 (v2 + 1))))]) C dX1_grainsOfAll_27 2 rfl (by decide) [1, 2, 0] rfl ?_
            refine z_goto 4 C dX1_grainsOfAll_30 (by decide) ?_
            exact ih4 (w32 (v1 + x5)) (w32 (v2 + 1)) (w32_rng _) (w32_rng _) (lp_back h hZ4)
    exact hL4 _ v1 v2 gv1 gv2 hb4_
  unfold uX1_grainsOfAll at h
  refine z_iconst C dX1_grainsOfAll_0 ?_
  refine z_istore_n (lv' := [(0, .ref (G.2.2 + o0)), (1, .int (iv 0))]) C dX1_grainsOfAll_1 rfl (by decide) [1, 0] rfl ?_
  refine z_iconst C dX1_grainsOfAll_2 ?_
  refine z_istore_n (lv' := [(0, .ref (G.2.2 + o0)), (1, .int (iv 0)), (2, .int (iv 0))]) C dX1_grainsOfAll_3 rfl (by decide) [1, 2, 0] rfl ?_
  exact hb4 o0 0 0  (by decide) (by decide) h

set_option maxHeartbeats 4000000 in
set_option maxRecDepth 100000 in
theorem tX1_inherit {G : Gx} {σ : State} (hC : Cy G σ) (o0 : Nat) (v1 : Int) (v2 : Int) {M0 : Mm} (gv1 : rg v1) (gv2 : rg v2) {R : Int × Mm} (h : uX1_inherit o0 v1 v2 M0 = some R) : Ct G σ (1) yX1_inherit cX1_inherit 5 (some .int) [.ref (G.2.2 + o0), .int (iv v1), .int (iv v2)] M0 0 0 (Qi R.1 R.2) := by
  refine Ct.of hC.1 (by decide +kernel) (Nat.le_of_ble_eq_true rfl) ?_
  intro p l e R0 s m args below meth c C
  show Jz G σ p l e R0 s m args below meth c 5 0 0 (Qi R.1 R.2) M0 0 0 0 [(0, .ref (G.2.2 + o0)), (1, .int (iv v1)), (2, .int (iv v2))] []
  have hb49 : ∀ (v3 : Int) (M : Mm), (rg v3) → uX1_inherit_b49 v3 M = some R → Jz G σ p l e R0 s m args below meth c 5 0 0 (Qi R.1 R.2) M 0 0 49 [(3, .int (iv v3))] [] := by
    intro v3 M gv3 h
    unfold uX1_inherit_b49 at h
    refine z_iload_n C dX1_inherit_49 0 rfl ?_
    exact y_iretB C dX1_inherit_50 h gv3
  have hb5 : ∀ (o0 : Nat) (v1 : Int) (v2 : Int) (v3 : Int) (v4 : Int) (M : Mm), (rg v1) → (rg v2) → (rg v3) → (rg v4) → uX1_inherit_b5 o0 v1 v2 v3 v4 M = some R → Jz G σ p l e R0 s m args below meth c 5 0 0 (Qi R.1 R.2) M 0 0 5 [(0, .ref (G.2.2 + o0)), (1, .int (iv v1)), (2, .int (iv v2)), (3, .int (iv v3)), (4, .int (iv v4))] [] := by
    intro o0 v1 v2 v3 v4 M gv1 gv2 gv3 gv4 h
    unfold uX1_inherit_b5 at h
    obtain ⟨b5, hb5_, hc5⟩ := bnd h
    have hL5 : ∀ (n : Nat) (v3 : Int) (v4 : Int) (M : Mm), (rg v3) → (rg v4) → lp (uX1_inherit_f5 o0 v1 v2) n (v3, v4, M) = some b5 → Jz G σ p l e R0 s m args below meth c 5 0 0 (Qi R.1 R.2) M 0 0 5 [(0, .ref (G.2.2 + o0)), (1, .int (iv v1)), (2, .int (iv v2)), (3, .int (iv v3)), (4, .int (iv v4))] [] := by
      intro n; induction n with
      | zero => intro v3 v4 M gv3 gv4 hq; exact (lp_0 hq).elim
      | succ n5 ih5 =>
        intro v3 v4 M gv3 gv4 hq
        obtain ⟨z5, h, hZ5⟩ := lp_s hq
        have h : uX1_inherit_s5 o0 v1 v2 v3 v4 M = some z5 := h
        unfold uX1_inherit_s5 at h
        refine z_iload C dX1_inherit_5 4 rfl ?_
        refine z_aload_n C dX1_inherit_7 0 rfl ?_
        obtain ⟨x1, hx1, h⟩ := bnd h
        refine y_getI C dX1_inherit_8 fX1_33 rfl hx1 (fun gx1 => ?_)
        refine z_icmp_ge 49 C dX1_inherit_11 (by decide) gv4 gx1 (fun e2 => ?_) (fun e2 => ?_)
        ·
          have h := (if_pos e2).symm.trans h
          have h : uX1_inherit_b49 v3 M = some R := lp_ex (K := (uX1_inherit_c5 o0 v1 v2)) h hZ5 hc5
          refine z_drop (lv' := [(3, .int (iv v3))]) [3] rfl ?_
          exact hb49 v3 M gv3 h
        ·
          have h := (if_neg e2).symm.trans h
          refine z_iload C dX1_inherit_14 4 rfl ?_
          refine z_bipush C dX1_inherit_16 (by decide) ?_
          refine z_icmp_ge 49 C dX1_inherit_18 (by decide) gv4 (by decide) (fun e3 => ?_) (fun e3 => ?_)
          ·
            have h := (if_pos e3).symm.trans h
            have h : uX1_inherit_b49 v3 M = some R := lp_ex (K := (uX1_inherit_c5 o0 v1 v2)) h hZ5 hc5
            refine z_drop (lv' := [(3, .int (iv v3))]) [3] rfl ?_
            exact hb49 v3 M gv3 h
          ·
            have h := (if_neg e3).symm.trans h
            refine z_aload_n C dX1_inherit_21 0 rfl ?_
            obtain ⟨on4, hon4, h⟩ := bnd h
            refine y_getR C dX1_inherit_22 fX1_15 rfl hon4 ?_
            refine z_iload C dX1_inherit_25 4 rfl ?_
            obtain ⟨x5, hx5, h⟩ := bnd h
            refine y_iald C dX1_inherit_27 hx5 (fun gx5 => ?_)
            refine z_iload_n C dX1_inherit_28 1 rfl ?_
            refine z_icmp_ne 43 C dX1_inherit_29 (by decide) gx5 gv1 (fun e6 => ?_) (fun e6 => ?_)
            ·
              have h := (if_neg e6).symm.trans h
              refine y_iinc (lv' := [(0, .ref (G.2.2 + o0)), (1, .int (iv v1)), (2, .int (iv v2)), (3, .int (iv v3)), (4, .int (iv (w32 (v4 + 1))))]) C dX1_inherit_43 4 rfl (by decide) [1, 2, 3, 4, 0] rfl ?_
              refine z_goto 5 C dX1_inherit_46 (by decide) ?_
              exact ih5 v3 (w32 (v4 + 1)) M gv3 (w32_rng _) (lp_back h hZ5)
            ·
              have h := (if_pos e6).symm.trans h
              refine z_aload_n C dX1_inherit_32 0 rfl ?_
              obtain ⟨on7, hon7, h⟩ := bnd h
              refine y_getR C dX1_inherit_33 fX1_15 rfl hon7 ?_
              refine z_iload C dX1_inherit_36 4 rfl ?_
              refine z_iload_n C dX1_inherit_38 2 rfl ?_
              obtain ⟨M8, hM8, h⟩ := bnd h
              refine y_iast C dX1_inherit_39 hM8 ?_
              refine y_iinc (lv' := [(0, .ref (G.2.2 + o0)), (1, .int (iv v1)), (2, .int (iv v2)), (3, .int (iv (w32 (v3 + 1)))), (4, .int (iv v4))]) C dX1_inherit_40 3 rfl (by decide) [1, 2, 3, 0, 4] rfl ?_
              refine y_iinc (lv' := [(0, .ref (G.2.2 + o0)), (1, .int (iv v1)), (2, .int (iv v2)), (3, .int (iv (w32 (v3 + 1)))), (4, .int (iv (w32 (v4 + 1))))]) C dX1_inherit_43 4 rfl (by decide) [1, 2, 3, 4, 0] rfl ?_
              refine z_goto 5 C dX1_inherit_46 (by decide) ?_
              exact ih5 (w32 (v3 + 1)) (w32 (v4 + 1)) M8 (w32_rng _) (w32_rng _) (lp_back h hZ5)
    exact hL5 _ v3 v4 M gv3 gv4 hb5_
  unfold uX1_inherit at h
  refine z_iconst C dX1_inherit_0 ?_
  refine z_istore_n (lv' := [(0, .ref (G.2.2 + o0)), (1, .int (iv v1)), (2, .int (iv v2)), (3, .int (iv 0))]) C dX1_inherit_1 rfl (by decide) [1, 2, 3, 0] rfl ?_
  refine z_iconst C dX1_inherit_2 ?_
  refine z_istore (lv' := [(0, .ref (G.2.2 + o0)), (1, .int (iv v1)), (2, .int (iv v2)), (3, .int (iv 0)), (4, .int (iv 0))]) C dX1_inherit_3 (by decide) [1, 2, 3, 4, 0] rfl ?_
  exact hb5 o0 v1 v2 0 0 M0 gv1 gv2 (by decide) (by decide) h

set_option maxHeartbeats 4000000 in
set_option maxRecDepth 100000 in
theorem tX1_hasFace {G : Gx} {σ : State} (hC : Cy G σ) (o0 : Nat) (v1 : Int) (v2 : Int) {M0 : Mm} (gv1 : rg v1) (gv2 : rg v2) {R : Int} (h : uX1_hasFace o0 v1 v2 M0 = some R) : Ct G σ (1) yX1_hasFace cX1_hasFace 3 (some .boolean) [.ref (G.2.2 + o0), .int (iv v1), .int (iv v2)] M0 0 0 (Qb R M0) := by
  refine Ct.of hC.1 (by decide +kernel) (Nat.le_of_ble_eq_true rfl) ?_
  intro p l e R0 s m args below meth c C
  show Jz G σ p l e R0 s m args below meth c 3 0 0 (Qb R M0) M0 0 0 0 [(0, .ref (G.2.2 + o0)), (1, .int (iv v1)), (2, .int (iv v2))] []
  unfold uX1_hasFace at h
  refine z_iload_n C dX1_hasFace_0 1 rfl ?_
  refine z_if_lt 42 C dX1_hasFace_1 (by decide) gv1 (fun e1 => ?_) (fun e1 => ?_)
  ·
    have h := (if_pos e1).symm.trans h
    refine z_iconst C dX1_hasFace_42 ?_
    exact y_zretP C dX1_hasFace_43 h (by decide)
  ·
    have h := (if_neg e1).symm.trans h
    refine z_iload_n C dX1_hasFace_4 1 rfl ?_
    refine z_aload_n C dX1_hasFace_5 0 rfl ?_
    obtain ⟨x2, hx2, h⟩ := bnd h
    refine y_getI C dX1_hasFace_6 fX1_33 rfl hx2 (fun gx2 => ?_)
    refine z_icmp_ge 42 C dX1_hasFace_9 (by decide) gv1 gx2 (fun e3 => ?_) (fun e3 => ?_)
    ·
      have h := (if_pos e3).symm.trans h
      refine z_iconst C dX1_hasFace_42 ?_
      exact y_zretP C dX1_hasFace_43 h (by decide)
    ·
      have h := (if_neg e3).symm.trans h
      refine z_iload_n C dX1_hasFace_12 1 rfl ?_
      refine z_bipush C dX1_hasFace_13 (by decide) ?_
      refine z_icmp_ge 42 C dX1_hasFace_15 (by decide) gv1 (by decide) (fun e4 => ?_) (fun e4 => ?_)
      ·
        have h := (if_pos e4).symm.trans h
        refine z_iconst C dX1_hasFace_42 ?_
        exact y_zretP C dX1_hasFace_43 h (by decide)
      ·
        have h := (if_neg e4).symm.trans h
        refine z_iload_n C dX1_hasFace_18 2 rfl ?_
        refine z_if_lt 42 C dX1_hasFace_19 (by decide) gv2 (fun e5 => ?_) (fun e5 => ?_)
        ·
          have h := (if_pos e5).symm.trans h
          refine z_iconst C dX1_hasFace_42 ?_
          exact y_zretP C dX1_hasFace_43 h (by decide)
        ·
          have h := (if_neg e5).symm.trans h
          refine z_iload_n C dX1_hasFace_22 2 rfl ?_
          refine z_aload_n C dX1_hasFace_23 0 rfl ?_
          obtain ⟨on6, hon6, h⟩ := bnd h
          refine y_getR C dX1_hasFace_24 fX1_21 rfl hon6 ?_
          refine z_iload_n C dX1_hasFace_27 1 rfl ?_
          obtain ⟨x7, hx7, h⟩ := bnd h
          refine y_iald C dX1_hasFace_28 hx7 (fun gx7 => ?_)
          refine z_icmp_ge 42 C dX1_hasFace_29 (by decide) gv2 gx7 (fun e8 => ?_) (fun e8 => ?_)
          ·
            have h := (if_pos e8).symm.trans h
            refine z_iconst C dX1_hasFace_42 ?_
            exact y_zretP C dX1_hasFace_43 h (by decide)
          ·
            have h := (if_neg e8).symm.trans h
            refine z_iload_n C dX1_hasFace_32 2 rfl ?_
            refine z_bipush C dX1_hasFace_33 (by decide) ?_
            refine z_icmp_ge 42 C dX1_hasFace_35 (by decide) gv2 (by decide) (fun e9 => ?_) (fun e9 => ?_)
            ·
              have h := (if_pos e9).symm.trans h
              refine z_iconst C dX1_hasFace_42 ?_
              exact y_zretP C dX1_hasFace_43 h (by decide)
            ·
              have h := (if_neg e9).symm.trans h
              refine z_iconst C dX1_hasFace_38 ?_
              refine z_goto 43 C dX1_hasFace_39 (by decide) ?_
              exact y_zretP C dX1_hasFace_43 h (by decide)

set_option maxHeartbeats 4000000 in
set_option maxRecDepth 100000 in
theorem tX1_facesLeft {G : Gx} {σ : State} (hC : Cy G σ) (o0 : Nat) (v1 : Int) (v2 : Int) {M0 : Mm} (gv1 : rg v1) (gv2 : rg v2) {R : Int} (h : uX1_facesLeft o0 v1 v2 M0 = some R) : Ct G σ (1) yX1_facesLeft cX1_facesLeft 5 (some .int) [.ref (G.2.2 + o0), .int (iv v1), .int (iv v2)] M0 0 0 (Qi R M0) := by
  refine Ct.of hC.1 (by decide +kernel) (Nat.le_of_ble_eq_true rfl) ?_
  intro p l e R0 s m args below meth c C
  show Jz G σ p l e R0 s m args below meth c 5 0 0 (Qi R M0) M0 0 0 0 [(0, .ref (G.2.2 + o0)), (1, .int (iv v1)), (2, .int (iv v2))] []
  have hb43 : ∀ (v3 : Int), (rg v3) → uX1_facesLeft_b43 v3 M0 = some R → Jz G σ p l e R0 s m args below meth c 5 0 0 (Qi R M0) M0 0 0 43 [(3, .int (iv v3))] [] := by
    intro v3  gv3 h
    unfold uX1_facesLeft_b43 at h
    refine z_iload_n C dX1_facesLeft_43 0 rfl ?_
    exact y_iretP C dX1_facesLeft_44 h gv3
  have hb8 : ∀ (o0 : Nat) (v1 : Int) (v2 : Int) (v3 : Int) (v4 : Int), (rg v1) → (rg v2) → (rg v3) → (rg v4) → uX1_facesLeft_b8 o0 v1 v2 v3 v4 M0 = some R → Jz G σ p l e R0 s m args below meth c 5 0 0 (Qi R M0) M0 0 0 8 [(0, .ref (G.2.2 + o0)), (1, .int (iv v1)), (2, .int (iv v2)), (3, .int (iv v3)), (4, .int (iv v4))] [] := by
    intro o0 v1 v2 v3 v4  gv1 gv2 gv3 gv4 h
    unfold uX1_facesLeft_b8 at h
    obtain ⟨b8, hb8_, hc8⟩ := bnd h
    have hL8 : ∀ (n : Nat) (v3 : Int), (rg v3) → lp (uX1_facesLeft_f8 o0 v1 v2 v4 M0) n v3 = some b8 → Jz G σ p l e R0 s m args below meth c 5 0 0 (Qi R M0) M0 0 0 8 [(0, .ref (G.2.2 + o0)), (1, .int (iv v1)), (2, .int (iv v2)), (3, .int (iv v3)), (4, .int (iv v4))] [] := by
      intro n; induction n with
      | zero => intro v3 gv3 hq; exact (lp_0 hq).elim
      | succ n8 ih8 =>
        intro v3 gv3 hq
        obtain ⟨z8, h, hZ8⟩ := lp_s hq
        have h : uX1_facesLeft_s8 o0 v1 v2 v4 M0 v3 = some z8 := h
        unfold uX1_facesLeft_s8 at h
        refine z_iload_n C dX1_facesLeft_8 3 rfl ?_
        refine z_bipush C dX1_facesLeft_9 (by decide) ?_
        refine z_icmp_ge 43 C dX1_facesLeft_11 (by decide) gv3 (by decide) (fun e1 => ?_) (fun e1 => ?_)
        ·
          have h := (if_pos e1).symm.trans h
          have h : uX1_facesLeft_b43 v3 M0 = some R := lp_ex (K := (uX1_facesLeft_c8 o0 v1 v2 v4 M0)) h hZ8 hc8
          refine z_drop (lv' := [(3, .int (iv v3))]) [3] rfl ?_
          exact hb43 v3  gv3 h
        ·
          have h := (if_neg e1).symm.trans h
          refine z_iload_n C dX1_facesLeft_14 3 rfl ?_
          refine z_aload_n C dX1_facesLeft_15 0 rfl ?_
          obtain ⟨on2, hon2, h⟩ := bnd h
          refine y_getR C dX1_facesLeft_16 fX1_21 rfl hon2 ?_
          refine z_iload_n C dX1_facesLeft_19 1 rfl ?_
          obtain ⟨x3, hx3, h⟩ := bnd h
          refine y_iald C dX1_facesLeft_20 hx3 (fun gx3 => ?_)
          refine z_icmp_ge 43 C dX1_facesLeft_21 (by decide) gv3 gx3 (fun e4 => ?_) (fun e4 => ?_)
          ·
            have h := (if_pos e4).symm.trans h
            have h : uX1_facesLeft_b43 v3 M0 = some R := lp_ex (K := (uX1_facesLeft_c8 o0 v1 v2 v4 M0)) h hZ8 hc8
            refine z_drop (lv' := [(3, .int (iv v3))]) [3] rfl ?_
            exact hb43 v3  gv3 h
          ·
            have h := (if_neg e4).symm.trans h
            refine z_aload_n C dX1_facesLeft_24 0 rfl ?_
            obtain ⟨on5, hon5, h⟩ := bnd h
            refine y_getR C dX1_facesLeft_25 fX1_27 rfl hon5 ?_
            refine z_iload C dX1_facesLeft_28 4 rfl ?_
            refine z_iload_n C dX1_facesLeft_30 3 rfl ?_
            refine y_iadd C dX1_facesLeft_31 ?_
            obtain ⟨x6, hx6, h⟩ := bnd h
            refine y_iald C dX1_facesLeft_32 hx6 (fun gx6 => ?_)
            refine z_iload_n C dX1_facesLeft_33 2 rfl ?_
            refine z_icmp_le 43 C dX1_facesLeft_34 (by decide) gx6 gv2 (fun e7 => ?_) (fun e7 => ?_)
            ·
              have h := (if_pos e7).symm.trans h
              have h : uX1_facesLeft_b43 v3 M0 = some R := lp_ex (K := (uX1_facesLeft_c8 o0 v1 v2 v4 M0)) h hZ8 hc8
              refine z_drop (lv' := [(3, .int (iv v3))]) [3] rfl ?_
              exact hb43 v3  gv3 h
            ·
              have h := (if_neg e7).symm.trans h
              refine y_iinc (lv' := [(0, .ref (G.2.2 + o0)), (1, .int (iv v1)), (2, .int (iv v2)), (3, .int (iv (w32 (v3 + 1)))), (4, .int (iv v4))]) C dX1_facesLeft_37 3 rfl (by decide) [1, 2, 3, 0, 4] rfl ?_
              refine z_goto 8 C dX1_facesLeft_40 (by decide) ?_
              exact ih8 (w32 (v3 + 1)) (w32_rng _) (lp_back h hZ8)
    exact hL8 _ v3 gv3 hb8_
  unfold uX1_facesLeft at h
  refine z_iconst C dX1_facesLeft_0 ?_
  refine z_istore_n (lv' := [(0, .ref (G.2.2 + o0)), (1, .int (iv v1)), (2, .int (iv v2)), (3, .int (iv 0))]) C dX1_facesLeft_1 rfl (by decide) [1, 2, 3, 0] rfl ?_
  refine z_iload_n C dX1_facesLeft_2 1 rfl ?_
  refine z_bipush C dX1_facesLeft_3 (by decide) ?_
  refine y_imul C dX1_facesLeft_5 ?_
  refine z_istore (lv' := [(0, .ref (G.2.2 + o0)), (1, .int (iv v1)), (2, .int (iv v2)), (3, .int (iv 0)), (4, .int (iv (w32 (v1 * 9))))]) C dX1_facesLeft_6 (by decide) [1, 2, 3, 4, 0] rfl ?_
  exact hb8 o0 v1 v2 0 (w32 (v1 * 9))  gv1 gv2 (by decide) (w32_rng _) h

set_option maxHeartbeats 4000000 in
set_option maxRecDepth 100000 in
theorem tX2_init {G : Gx} {σ : State} (hC : Cy G σ) (o0 : Nat) {M0 : Mm}  {R : Mm} (h : uX2_init o0 M0 = some R) : Ct G σ (1) yX2_init cX2_init 1 none [.ref (G.2.2 + o0)] M0 1 6 (Qv R) := by
  refine Ct.of hC.1 (by decide +kernel) (Nat.le_of_ble_eq_true rfl) ?_
  intro p l e R0 s m args below meth c C
  show Jz G σ p l e R0 s m args below meth c 1 1 6 (Qv R) M0 0 0 0 [(0, .ref (G.2.2 + o0))] []
  unfold uX2_init at h
  refine z_aload_n C dX2_init_0 0 rfl ?_
  refine z_objInit C dX2_init_1 (gt_2 (i := 69) (by decide +kernel) (by decide +kernel)) oi_in oi_co (by decide) (Nat.le_of_ble_eq_true rfl) ?_
  refine z_aload_n C dX2_init_4 0 rfl ?_
  refine z_bipush C dX2_init_5 (by decide) ?_
  refine y_newRC 6 C hC.2 (gt_2 (i := 70) (by decide +kernel) (by decide +kernel)) dX2_init_7 rfl (by decide) (by omega) (by omega) ?_
  obtain ⟨M1, hM1, h⟩ := bnd h
  refine y_putFR C dX2_init_10 clX2 (by decide) fX2_13_l rfl rfl rfl rfl rfl rfl hM1 ?_
  exact y_retV C dX2_init_13 h

set_option maxHeartbeats 4000000 in
set_option maxRecDepth 100000 in
theorem tX2_forget {G : Gx} {σ : State} (hC : Cy G σ) (o0 : Nat) {M0 : Mm}  {R : Mm} (h : uX2_forget o0 M0 = some R) : Ct G σ (1) yX2_forget cX2_forget 1 none [.ref (G.2.2 + o0)] M0 0 0 (Qv R) := by
  refine Ct.of hC.1 (by decide +kernel) (Nat.le_of_ble_eq_true rfl) ?_
  intro p l e R0 s m args below meth c C
  show Jz G σ p l e R0 s m args below meth c 1 0 0 (Qv R) M0 0 0 0 [(0, .ref (G.2.2 + o0))] []
  unfold uX2_forget at h
  refine z_aload_n C dX2_forget_0 0 rfl ?_
  refine z_iconst C dX2_forget_1 ?_
  obtain ⟨M1, hM1, h⟩ := bnd h
  refine y_putI C dX2_forget_2 fX2_21 rfl rfl rfl rfl hM1 ?_
  exact y_retV C dX2_forget_5 h

set_option maxHeartbeats 4000000 in
set_option maxRecDepth 100000 in
theorem tX3_clear {G : Gx} {σ : State} (hC : Cy G σ) (o0 : Nat) {M0 : Mm}  {R : Mm} (h : uX3_clear o0 M0 = some R) : Ct G σ (1) yX3_clear cX3_clear 2 none [.ref (G.2.2 + o0)] M0 0 0 (Qv R) := by
  refine Ct.of hC.1 (by decide +kernel) (Nat.le_of_ble_eq_true rfl) ?_
  intro p l e R0 s m args below meth c C
  show Jz G σ p l e R0 s m args below meth c 2 0 0 (Qv R) M0 0 0 0 [(0, .ref (G.2.2 + o0))] []
  have hb73 : ∀  (M : Mm), uX3_clear_b73 M = some R → Jz G σ p l e R0 s m args below meth c 2 0 0 (Qv R) M 0 0 73 [] [] := by
    intro  M  h
    unfold uX3_clear_b73 at h
    exact y_retV C dX3_clear_73 h
  have hb51 : ∀ (o0 : Nat) (v1 : Int) (M : Mm), (rg v1) → uX3_clear_b51 o0 v1 M = some R → Jz G σ p l e R0 s m args below meth c 2 0 0 (Qv R) M 0 0 51 [(0, .ref (G.2.2 + o0)), (1, .int (iv v1))] [] := by
    intro o0 v1 M gv1 h
    unfold uX3_clear_b51 at h
    obtain ⟨b51, hb51_, hc51⟩ := bnd h
    have hL51 : ∀ (n : Nat) (v1 : Int) (M : Mm), (rg v1) → lp (uX3_clear_f51 o0) n (v1, M) = some b51 → Jz G σ p l e R0 s m args below meth c 2 0 0 (Qv R) M 0 0 51 [(0, .ref (G.2.2 + o0)), (1, .int (iv v1))] [] := by
      intro n; induction n with
      | zero => intro v1 M gv1 hq; exact (lp_0 hq).elim
      | succ n51 ih51 =>
        intro v1 M gv1 hq
        obtain ⟨z51, h, hZ51⟩ := lp_s hq
        have h : uX3_clear_s51 o0 v1 M = some z51 := h
        unfold uX3_clear_s51 at h
        refine z_iload_n C dX3_clear_51 1 rfl ?_
        refine z_iconst C dX3_clear_52 ?_
        refine z_icmp_ge 73 C dX3_clear_53 (by decide) gv1 (by decide) (fun e1 => ?_) (fun e1 => ?_)
        ·
          have h := (if_pos e1).symm.trans h
          have h : uX3_clear_b73 M = some R := lp_ex (K := (uX3_clear_c51 o0)) h hZ51 hc51
          refine z_drop (lv' := []) [] rfl ?_
          exact hb73  M  h
        ·
          have h := (if_neg e1).symm.trans h
          refine z_aload_n C dX3_clear_56 0 rfl ?_
          obtain ⟨on2, hon2, h⟩ := bnd h
          refine y_getR C dX3_clear_57 fX3_33 rfl hon2 ?_
          refine z_iload_n C dX3_clear_60 1 rfl ?_
          refine y_gets (Cn := "FaceCoins$Law") (nm := "WITHOUT") (ds := "[I") 0 C hC.2 dX3_clear_61 (gt_1 (i := 80) (by decide +kernel) (by decide +kernel)) (fun a3 ha3 => ?_)
          refine z_iload_n C dX3_clear_64 1 rfl ?_
          obtain ⟨x4, hx4, h⟩ := bnd h
          refine y_sald C dX3_clear_65 ha3 hx4 (fun gx4 => ?_)
          obtain ⟨M5, hM5, h⟩ := bnd h
          refine y_iast C dX3_clear_66 hM5 ?_
          refine y_iinc (lv' := [(0, .ref (G.2.2 + o0)), (1, .int (iv (w32 (v1 + 1))))]) C dX3_clear_67 1 rfl (by decide) [1, 0] rfl ?_
          refine z_goto 51 C dX3_clear_70 (by decide) ?_
          exact ih51 (w32 (v1 + 1)) M5 (w32_rng _) (lp_back h hZ51)
    exact hL51 _ v1 M gv1 hb51_
  have hb49 : ∀ (o0 : Nat) (M : Mm), uX3_clear_b49 o0 M = some R → Jz G σ p l e R0 s m args below meth c 2 0 0 (Qv R) M 0 0 49 [(0, .ref (G.2.2 + o0))] [] := by
    intro o0 M  h
    unfold uX3_clear_b49 at h
    refine z_iconst C dX3_clear_49 ?_
    refine z_istore_n (lv' := [(0, .ref (G.2.2 + o0)), (1, .int (iv 0))]) C dX3_clear_50 rfl (by decide) [1, 0] rfl ?_
    exact hb51 o0 0 M (by decide) h
  have hb27 : ∀ (o0 : Nat) (v1 : Int) (M : Mm), (rg v1) → uX3_clear_b27 o0 v1 M = some R → Jz G σ p l e R0 s m args below meth c 2 0 0 (Qv R) M 0 0 27 [(0, .ref (G.2.2 + o0)), (1, .int (iv v1))] [] := by
    intro o0 v1 M gv1 h
    unfold uX3_clear_b27 at h
    obtain ⟨b27, hb27_, hc27⟩ := bnd h
    have hL27 : ∀ (n : Nat) (v1 : Int) (M : Mm), (rg v1) → lp (uX3_clear_f27 o0) n (v1, M) = some b27 → Jz G σ p l e R0 s m args below meth c 2 0 0 (Qv R) M 0 0 27 [(0, .ref (G.2.2 + o0)), (1, .int (iv v1))] [] := by
      intro n; induction n with
      | zero => intro v1 M gv1 hq; exact (lp_0 hq).elim
      | succ n27 ih27 =>
        intro v1 M gv1 hq
        obtain ⟨z27, h, hZ27⟩ := lp_s hq
        have h : uX3_clear_s27 o0 v1 M = some z27 := h
        unfold uX3_clear_s27 at h
        refine z_iload_n C dX3_clear_27 1 rfl ?_
        refine z_aload_n C dX3_clear_28 0 rfl ?_
        obtain ⟨on6, hon6, h⟩ := bnd h
        refine y_getR C dX3_clear_29 fX3_30 rfl hon6 ?_
        obtain ⟨x7, hx7, h⟩ := bnd h
        refine y_alen C dX3_clear_32 hx7 (fun gx7 => ?_)
        refine z_icmp_ge 49 C dX3_clear_33 (by decide) gv1 gx7 (fun e8 => ?_) (fun e8 => ?_)
        ·
          have h := (if_pos e8).symm.trans h
          have h : uX3_clear_b49 o0 M = some R := lp_ex (K := (uX3_clear_c27 o0)) h hZ27 hc27
          refine z_drop (lv' := [(0, .ref (G.2.2 + o0))]) [0] rfl ?_
          exact hb49 o0 M  h
        ·
          have h := (if_neg e8).symm.trans h
          refine z_aload_n C dX3_clear_36 0 rfl ?_
          obtain ⟨on9, hon9, h⟩ := bnd h
          refine y_getR C dX3_clear_37 fX3_30 rfl hon9 ?_
          refine z_iload_n C dX3_clear_40 1 rfl ?_
          refine z_iconst C dX3_clear_41 ?_
          obtain ⟨M10, hM10, h⟩ := bnd h
          refine y_iast C dX3_clear_42 hM10 ?_
          refine y_iinc (lv' := [(0, .ref (G.2.2 + o0)), (1, .int (iv (w32 (v1 + 1))))]) C dX3_clear_43 1 rfl (by decide) [1, 0] rfl ?_
          refine z_goto 27 C dX3_clear_46 (by decide) ?_
          exact ih27 (w32 (v1 + 1)) M10 (w32_rng _) (lp_back h hZ27)
    exact hL27 _ v1 M gv1 hb27_
  unfold uX3_clear at h
  refine z_aload_n C dX3_clear_0 0 rfl ?_
  refine z_iconst C dX3_clear_1 ?_
  obtain ⟨M11, hM11, h⟩ := bnd h
  refine y_putI C dX3_clear_2 fX3_39 rfl rfl rfl rfl hM11 ?_
  refine z_aload_n C dX3_clear_5 0 rfl ?_
  refine z_iconst C dX3_clear_6 ?_
  obtain ⟨M12, hM12, h⟩ := bnd h
  refine y_putI C dX3_clear_7 fX3_43 rfl rfl rfl rfl hM12 ?_
  refine z_aload_n C dX3_clear_10 0 rfl ?_
  refine z_iconst C dX3_clear_11 ?_
  obtain ⟨M13, hM13, h⟩ := bnd h
  refine y_putI C dX3_clear_12 fX3_46 rfl rfl rfl rfl hM13 ?_
  refine z_aload_n C dX3_clear_15 0 rfl ?_
  refine z_iconst C dX3_clear_16 ?_
  obtain ⟨M14, hM14, h⟩ := bnd h
  refine y_putI C dX3_clear_17 fX3_49 rfl rfl rfl rfl hM14 ?_
  refine z_aload_n C dX3_clear_20 0 rfl ?_
  refine z_iconst C dX3_clear_21 ?_
  obtain ⟨M15, hM15, h⟩ := bnd h
  refine y_putI C dX3_clear_22 fX3_52 rfl rfl rfl rfl hM15 ?_
  refine z_iconst C dX3_clear_25 ?_
  refine z_istore_n (lv' := [(0, .ref (G.2.2 + o0)), (1, .int (iv 0))]) C dX3_clear_26 rfl (by decide) [1, 0] rfl ?_
  exact hb27 o0 0 M15 (by decide) h

set_option maxHeartbeats 4000000 in
set_option maxRecDepth 100000 in
theorem tX3_copyFrom {G : Gx} {σ : State} (hC : Cy G σ) (o0 : Nat) (o1 : Nat) {M0 : Mm}  {R : Mm} (h : uX3_copyFrom o0 o1 M0 = some R) : Ct G σ (1) yX3_copyFrom cX3_copyFrom 2 none [.ref (G.2.2 + o0), .ref (G.2.2 + o1)] M0 0 0 (Qv R) := by
  refine Ct.of hC.1 (by decide +kernel) (Nat.le_of_ble_eq_true rfl) ?_
  intro p l e R0 s m args below meth c C
  show Jz G σ p l e R0 s m args below meth c 2 0 0 (Qv R) M0 0 0 0 [(0, .ref (G.2.2 + o0)), (1, .ref (G.2.2 + o1))] []
  unfold uX3_copyFrom at h
  refine z_aload_n C dX3_copyFrom_0 0 rfl ?_
  refine z_aload_n C dX3_copyFrom_1 1 rfl ?_
  obtain ⟨x1, hx1, h⟩ := bnd h
  refine y_getI C dX3_copyFrom_2 fX3_39 rfl hx1 (fun gx1 => ?_)
  obtain ⟨M2, hM2, h⟩ := bnd h
  refine y_putI C dX3_copyFrom_5 fX3_39 rfl rfl rfl rfl hM2 ?_
  refine z_aload_n C dX3_copyFrom_8 0 rfl ?_
  refine z_aload_n C dX3_copyFrom_9 1 rfl ?_
  obtain ⟨x3, hx3, h⟩ := bnd h
  refine y_getI C dX3_copyFrom_10 fX3_43 rfl hx3 (fun gx3 => ?_)
  obtain ⟨M4, hM4, h⟩ := bnd h
  refine y_putI C dX3_copyFrom_13 fX3_43 rfl rfl rfl rfl hM4 ?_
  refine z_aload_n C dX3_copyFrom_16 0 rfl ?_
  refine z_aload_n C dX3_copyFrom_17 1 rfl ?_
  obtain ⟨x5, hx5, h⟩ := bnd h
  refine y_getI C dX3_copyFrom_18 fX3_46 rfl hx5 (fun gx5 => ?_)
  obtain ⟨M6, hM6, h⟩ := bnd h
  refine y_putI C dX3_copyFrom_21 fX3_46 rfl rfl rfl rfl hM6 ?_
  refine z_aload_n C dX3_copyFrom_24 0 rfl ?_
  refine z_aload_n C dX3_copyFrom_25 1 rfl ?_
  obtain ⟨x7, hx7, h⟩ := bnd h
  refine y_getI C dX3_copyFrom_26 fX3_49 rfl hx7 (fun gx7 => ?_)
  obtain ⟨M8, hM8, h⟩ := bnd h
  refine y_putI C dX3_copyFrom_29 fX3_49 rfl rfl rfl rfl hM8 ?_
  refine z_aload_n C dX3_copyFrom_32 0 rfl ?_
  refine z_aload_n C dX3_copyFrom_33 1 rfl ?_
  obtain ⟨x9, hx9, h⟩ := bnd h
  refine y_getI C dX3_copyFrom_34 fX3_52 rfl hx9 (fun gx9 => ?_)
  obtain ⟨M10, hM10, h⟩ := bnd h
  refine y_putI C dX3_copyFrom_37 fX3_52 rfl rfl rfl rfl hM10 ?_
  refine z_aload_n C dX3_copyFrom_40 1 rfl ?_
  obtain ⟨on11, hon11, h⟩ := bnd h
  refine y_getR C dX3_copyFrom_41 fX3_9 rfl hon11 ?_
  refine z_iconst C dX3_copyFrom_44 ?_
  refine z_aload_n C dX3_copyFrom_45 0 rfl ?_
  obtain ⟨on12, hon12, h⟩ := bnd h
  refine y_getR C dX3_copyFrom_46 fX3_9 rfl hon12 ?_
  refine z_iconst C dX3_copyFrom_49 ?_
  refine z_bipush C dX3_copyFrom_50 (by decide) ?_
  obtain ⟨M13, hM13, h⟩ := bnd h
  refine y_cpy C dX3_copyFrom_52 (gt_3 (i := 100) (by decide +kernel) (by decide +kernel)) hM13 (by decide) (Nat.le_of_ble_eq_true rfl) ?_
  refine z_aload_n C dX3_copyFrom_55 1 rfl ?_
  obtain ⟨on14, hon14, h⟩ := bnd h
  refine y_getR C dX3_copyFrom_56 fX3_15 rfl hon14 ?_
  refine z_iconst C dX3_copyFrom_59 ?_
  refine z_aload_n C dX3_copyFrom_60 0 rfl ?_
  obtain ⟨on15, hon15, h⟩ := bnd h
  refine y_getR C dX3_copyFrom_61 fX3_15 rfl hon15 ?_
  refine z_iconst C dX3_copyFrom_64 ?_
  refine z_bipush C dX3_copyFrom_65 (by decide) ?_
  obtain ⟨M16, hM16, h⟩ := bnd h
  refine y_cpy C dX3_copyFrom_67 (gt_3 (i := 100) (by decide +kernel) (by decide +kernel)) hM16 (by decide) (Nat.le_of_ble_eq_true rfl) ?_
  refine z_aload_n C dX3_copyFrom_70 1 rfl ?_
  obtain ⟨on17, hon17, h⟩ := bnd h
  refine y_getR C dX3_copyFrom_71 fX3_18 rfl hon17 ?_
  refine z_iconst C dX3_copyFrom_74 ?_
  refine z_aload_n C dX3_copyFrom_75 0 rfl ?_
  obtain ⟨on18, hon18, h⟩ := bnd h
  refine y_getR C dX3_copyFrom_76 fX3_18 rfl hon18 ?_
  refine z_iconst C dX3_copyFrom_79 ?_
  refine z_bipush C dX3_copyFrom_80 (by decide) ?_
  obtain ⟨M19, hM19, h⟩ := bnd h
  refine y_cpy C dX3_copyFrom_82 (gt_3 (i := 100) (by decide +kernel) (by decide +kernel)) hM19 (by decide) (Nat.le_of_ble_eq_true rfl) ?_
  refine z_aload_n C dX3_copyFrom_85 1 rfl ?_
  obtain ⟨on20, hon20, h⟩ := bnd h
  refine y_getR C dX3_copyFrom_86 fX3_21 rfl hon20 ?_
  refine z_iconst C dX3_copyFrom_89 ?_
  refine z_aload_n C dX3_copyFrom_90 0 rfl ?_
  obtain ⟨on21, hon21, h⟩ := bnd h
  refine y_getR C dX3_copyFrom_91 fX3_21 rfl hon21 ?_
  refine z_iconst C dX3_copyFrom_94 ?_
  refine z_iconst C dX3_copyFrom_95 ?_
  obtain ⟨M22, hM22, h⟩ := bnd h
  refine y_cpy C dX3_copyFrom_96 (gt_3 (i := 100) (by decide +kernel) (by decide +kernel)) hM22 (by decide) (Nat.le_of_ble_eq_true rfl) ?_
  refine z_aload_n C dX3_copyFrom_99 1 rfl ?_
  obtain ⟨on23, hon23, h⟩ := bnd h
  refine y_getR C dX3_copyFrom_100 fX3_24 rfl hon23 ?_
  refine z_iconst C dX3_copyFrom_103 ?_
  refine z_aload_n C dX3_copyFrom_104 0 rfl ?_
  obtain ⟨on24, hon24, h⟩ := bnd h
  refine y_getR C dX3_copyFrom_105 fX3_24 rfl hon24 ?_
  refine z_iconst C dX3_copyFrom_108 ?_
  refine z_iconst C dX3_copyFrom_109 ?_
  obtain ⟨M25, hM25, h⟩ := bnd h
  refine y_cpy C dX3_copyFrom_110 (gt_3 (i := 100) (by decide +kernel) (by decide +kernel)) hM25 (by decide) (Nat.le_of_ble_eq_true rfl) ?_
  refine z_aload_n C dX3_copyFrom_113 1 rfl ?_
  obtain ⟨on26, hon26, h⟩ := bnd h
  refine y_getR C dX3_copyFrom_114 fX3_27 rfl hon26 ?_
  refine z_iconst C dX3_copyFrom_117 ?_
  refine z_aload_n C dX3_copyFrom_118 0 rfl ?_
  obtain ⟨on27, hon27, h⟩ := bnd h
  refine y_getR C dX3_copyFrom_119 fX3_27 rfl hon27 ?_
  refine z_iconst C dX3_copyFrom_122 ?_
  refine z_iconst C dX3_copyFrom_123 ?_
  obtain ⟨M28, hM28, h⟩ := bnd h
  refine y_cpy C dX3_copyFrom_124 (gt_3 (i := 100) (by decide +kernel) (by decide +kernel)) hM28 (by decide) (Nat.le_of_ble_eq_true rfl) ?_
  refine z_aload_n C dX3_copyFrom_127 1 rfl ?_
  obtain ⟨on29, hon29, h⟩ := bnd h
  refine y_getR C dX3_copyFrom_128 fX3_30 rfl hon29 ?_
  refine z_iconst C dX3_copyFrom_131 ?_
  refine z_aload_n C dX3_copyFrom_132 0 rfl ?_
  obtain ⟨on30, hon30, h⟩ := bnd h
  refine y_getR C dX3_copyFrom_133 fX3_30 rfl hon30 ?_
  refine z_iconst C dX3_copyFrom_136 ?_
  refine z_aload_n C dX3_copyFrom_137 0 rfl ?_
  obtain ⟨on31, hon31, h⟩ := bnd h
  refine y_getR C dX3_copyFrom_138 fX3_30 rfl hon31 ?_
  obtain ⟨x32, hx32, h⟩ := bnd h
  refine y_alen C dX3_copyFrom_141 hx32 (fun gx32 => ?_)
  obtain ⟨M33, hM33, h⟩ := bnd h
  refine y_cpy C dX3_copyFrom_142 (gt_3 (i := 100) (by decide +kernel) (by decide +kernel)) hM33 (by decide) (Nat.le_of_ble_eq_true rfl) ?_
  refine z_aload_n C dX3_copyFrom_145 1 rfl ?_
  obtain ⟨on34, hon34, h⟩ := bnd h
  refine y_getR C dX3_copyFrom_146 fX3_33 rfl hon34 ?_
  refine z_iconst C dX3_copyFrom_149 ?_
  refine z_aload_n C dX3_copyFrom_150 0 rfl ?_
  obtain ⟨on35, hon35, h⟩ := bnd h
  refine y_getR C dX3_copyFrom_151 fX3_33 rfl hon35 ?_
  refine z_iconst C dX3_copyFrom_154 ?_
  refine z_iconst C dX3_copyFrom_155 ?_
  obtain ⟨M36, hM36, h⟩ := bnd h
  refine y_cpy C dX3_copyFrom_156 (gt_3 (i := 100) (by decide +kernel) (by decide +kernel)) hM36 (by decide) (Nat.le_of_ble_eq_true rfl) ?_
  exact y_retV C dX3_copyFrom_159 h

set_option maxHeartbeats 4000000 in
set_option maxRecDepth 100000 in
theorem tX3_numberFault {G : Gx} {σ : State} (hC : Cy G σ) (o0 : Nat) (v1 : Int) (v2 : Int) {M0 : Mm} (gv1 : rg v1) (gv2 : rg v2) {R : Int} (h : uX3_numberFault o0 v1 v2 M0 = some R) : Ct G σ (1) yX3_numberFault cX3_numberFault 3 (some .int) [.ref (G.2.2 + o0), .int (iv v1), .int (iv v2)] M0 0 0 (Qi R M0) := by
  refine Ct.of hC.1 (by decide +kernel) (Nat.le_of_ble_eq_true rfl) ?_
  intro p l e R0 s m args below meth c C
  show Jz G σ p l e R0 s m args below meth c 3 0 0 (Qi R M0) M0 0 0 0 [(0, .ref (G.2.2 + o0)), (1, .int (iv v1)), (2, .int (iv v2))] []
  unfold uX3_numberFault at h
  refine z_aload_n C dX3_numberFault_0 0 rfl ?_
  obtain ⟨x1, hx1, h⟩ := bnd h
  refine y_getI C dX3_numberFault_1 fX3_69 rfl hx1 (fun gx1 => ?_)
  refine z_iconst C dX3_numberFault_4 ?_
  refine z_icmp_eq 10 C dX3_numberFault_5 (by decide) gx1 (by decide) (fun e2 => ?_) (fun e2 => ?_)
  ·
    have h := (if_pos e2).symm.trans h
    refine z_aload_n C dX3_numberFault_10 0 rfl ?_
    obtain ⟨x3, hx3, h⟩ := bnd h
    refine y_getI C dX3_numberFault_11 fX3_98 rfl hx3 (fun gx3 => ?_)
    refine z_iload_n C dX3_numberFault_14 1 rfl ?_
    refine z_icmp_lt 26 C dX3_numberFault_15 (by decide) gx3 gv1 (fun e4 => ?_) (fun e4 => ?_)
    ·
      have h := (if_pos e4).symm.trans h
      refine z_iconst C dX3_numberFault_26 ?_
      refine z_goto 31 C dX3_numberFault_27 (by decide) ?_
      exact y_iretP C dX3_numberFault_31 h (by decide)
    ·
      have h := (if_neg e4).symm.trans h
      refine z_aload_n C dX3_numberFault_18 0 rfl ?_
      obtain ⟨x5, hx5, h⟩ := bnd h
      refine y_getI C dX3_numberFault_19 fX3_98 rfl hx5 (fun gx5 => ?_)
      refine z_iload_n C dX3_numberFault_22 2 rfl ?_
      refine z_icmp_le 30 C dX3_numberFault_23 (by decide) gx5 gv2 (fun e6 => ?_) (fun e6 => ?_)
      ·
        have h := (if_pos e6).symm.trans h
        refine z_iconst C dX3_numberFault_30 ?_
        exact y_iretP C dX3_numberFault_31 h (by decide)
      ·
        have h := (if_neg e6).symm.trans h
        refine z_iconst C dX3_numberFault_26 ?_
        refine z_goto 31 C dX3_numberFault_27 (by decide) ?_
        exact y_iretP C dX3_numberFault_31 h (by decide)
  ·
    have h := (if_neg e2).symm.trans h
    refine z_iconst C dX3_numberFault_8 ?_
    exact y_iretP C dX3_numberFault_9 h (by decide)

set_option maxHeartbeats 4000000 in
set_option maxRecDepth 100000 in
theorem tX3_findWho {G : Gx} {σ : State} (hC : Cy G σ) (o0 : Nat) (v1 : Int) {M0 : Mm} (gv1 : rg v1) {R : Int} (h : uX3_findWho o0 v1 M0 = some R) : Ct G σ (1) yX3_findWho cX3_findWho 3 (some .int) [.ref (G.2.2 + o0), .int (iv v1)] M0 0 0 (Qi R M0) := by
  refine Ct.of hC.1 (by decide +kernel) (Nat.le_of_ble_eq_true rfl) ?_
  intro p l e R0 s m args below meth c C
  show Jz G σ p l e R0 s m args below meth c 3 0 0 (Qi R M0) M0 0 0 0 [(0, .ref (G.2.2 + o0)), (1, .int (iv v1))] []
  have hb34 : uX3_findWho_b34 M0 = some R → Jz G σ p l e R0 s m args below meth c 3 0 0 (Qi R M0) M0 0 0 34 [] [] := by
    intro    h
    unfold uX3_findWho_b34 at h
    refine z_iconst C dX3_findWho_34 ?_
    exact y_iretP C dX3_findWho_35 h (by decide)
  have hb2 : ∀ (o0 : Nat) (v1 : Int) (v2 : Int), (rg v1) → (rg v2) → uX3_findWho_b2 o0 v1 v2 M0 = some R → Jz G σ p l e R0 s m args below meth c 3 0 0 (Qi R M0) M0 0 0 2 [(0, .ref (G.2.2 + o0)), (1, .int (iv v1)), (2, .int (iv v2))] [] := by
    intro o0 v1 v2  gv1 gv2 h
    unfold uX3_findWho_b2 at h
    obtain ⟨b2, hb2_, hc2⟩ := bnd h
    have hL2 : ∀ (n : Nat) (v2 : Int), (rg v2) → lp (uX3_findWho_f2 o0 v1 M0) n v2 = some b2 → Jz G σ p l e R0 s m args below meth c 3 0 0 (Qi R M0) M0 0 0 2 [(0, .ref (G.2.2 + o0)), (1, .int (iv v1)), (2, .int (iv v2))] [] := by
      intro n; induction n with
      | zero => intro v2 gv2 hq; exact (lp_0 hq).elim
      | succ n2 ih2 =>
        intro v2 gv2 hq
        obtain ⟨z2, h, hZ2⟩ := lp_s hq
        have h : uX3_findWho_s2 o0 v1 M0 v2 = some z2 := h
        unfold uX3_findWho_s2 at h
        refine z_iload_n C dX3_findWho_2 2 rfl ?_
        refine z_aload_n C dX3_findWho_3 0 rfl ?_
        obtain ⟨x1, hx1, h⟩ := bnd h
        refine y_getI C dX3_findWho_4 fX3_43 rfl hx1 (fun gx1 => ?_)
        refine z_icmp_ge 34 C dX3_findWho_7 (by decide) gv2 gx1 (fun e2 => ?_) (fun e2 => ?_)
        ·
          have h := (if_pos e2).symm.trans h
          have h : uX3_findWho_b34 M0 = some R := lp_ex (K := (uX3_findWho_c2 o0 v1 M0)) h hZ2 hc2
          refine z_drop (lv' := []) [] rfl ?_
          exact hb34    h
        ·
          have h := (if_neg e2).symm.trans h
          refine z_iload_n C dX3_findWho_10 2 rfl ?_
          refine z_bipush C dX3_findWho_11 (by decide) ?_
          refine z_icmp_ge 34 C dX3_findWho_13 (by decide) gv2 (by decide) (fun e3 => ?_) (fun e3 => ?_)
          ·
            have h := (if_pos e3).symm.trans h
            have h : uX3_findWho_b34 M0 = some R := lp_ex (K := (uX3_findWho_c2 o0 v1 M0)) h hZ2 hc2
            refine z_drop (lv' := []) [] rfl ?_
            exact hb34    h
          ·
            have h := (if_neg e3).symm.trans h
            refine z_aload_n C dX3_findWho_16 0 rfl ?_
            obtain ⟨on4, hon4, h⟩ := bnd h
            refine y_getR C dX3_findWho_17 fX3_9 rfl hon4 ?_
            refine z_iload_n C dX3_findWho_20 2 rfl ?_
            obtain ⟨x5, hx5, h⟩ := bnd h
            refine y_iald C dX3_findWho_21 hx5 (fun gx5 => ?_)
            refine z_iload_n C dX3_findWho_22 1 rfl ?_
            refine z_icmp_ne 28 C dX3_findWho_23 (by decide) gx5 gv1 (fun e6 => ?_) (fun e6 => ?_)
            ·
              have h := (if_neg e6).symm.trans h
              refine y_iinc (lv' := [(0, .ref (G.2.2 + o0)), (1, .int (iv v1)), (2, .int (iv (w32 (v2 + 1))))]) C dX3_findWho_28 2 rfl (by decide) [1, 2, 0] rfl ?_
              refine z_goto 2 C dX3_findWho_31 (by decide) ?_
              exact ih2 (w32 (v2 + 1)) (w32_rng _) (lp_back h hZ2)
            ·
              have h := (if_pos e6).symm.trans h
              refine z_iload_n C dX3_findWho_26 2 rfl ?_
              have h := lp_ret (K := (uX3_findWho_c2 o0 v1 M0)) h hZ2 hc2
              exact y_iretP C dX3_findWho_27 h gv2
    exact hL2 _ v2 gv2 hb2_
  unfold uX3_findWho at h
  refine z_iconst C dX3_findWho_0 ?_
  refine z_istore_n (lv' := [(0, .ref (G.2.2 + o0)), (1, .int (iv v1)), (2, .int (iv 0))]) C dX3_findWho_1 rfl (by decide) [1, 2, 0] rfl ?_
  exact hb2 o0 v1 0  gv1 (by decide) h
