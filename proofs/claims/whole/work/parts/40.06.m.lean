set_option maxHeartbeats 4000000 in
set_option maxRecDepth 100000 in
theorem tX0_appraiseStruck {G : Gx} {σ : State} (hC : Cy G σ) (o0 : Nat) (o1 : Nat) (v2 : Int) (v3 : Int) (v4 : Int) {M0 : Mm} (gv2 : rg v2) (gv3 : rg v3) (gv4 : rg v4) {R : Mm} (h : uX0_appraiseStruck o0 o1 v2 v3 v4 M0 = some R) : Ct G σ (3) yX0_appraiseStruck cX0_appraiseStruck 10 none [.ref (G.2.2 + o0), .ref (G.2.2 + o1), .int (iv v2), .int (iv v3), .int (iv v4)] M0 0 0 (Qv R) := by
  refine Ct.of hC.1 (by decide +kernel) (Nat.le_of_ble_eq_true rfl) ?_
  intro p l e R0 s m args below meth c C
  show Jz G σ p l e R0 s m args below meth c 10 0 0 (Qv R) M0 0 0 0 [(0, .ref (G.2.2 + o0)), (1, .ref (G.2.2 + o1)), (2, .int (iv v2)), (3, .int (iv v3)), (4, .int (iv v4))] []
  have hb122 : ∀  (M : Mm), uX0_appraiseStruck_b122 M = some R → Jz G σ p l e R0 s m args below meth c 10 0 0 (Qv R) M 0 0 122 [] [] := by
    intro  M  h
    unfold uX0_appraiseStruck_b122 at h
    exact y_retV C dX0_appraiseStruck_122 h
  have hb23 : ∀ (o0 : Nat) (o1 : Nat) (v2 : Int) (v3 : Int) (v4 : Int) (v5 : Int) (v6 : Int) (v7 : Int) (M : Mm), (rg v2) → (rg v3) → (rg v4) → (rg v5) → (rg v6) → (rg v7) → uX0_appraiseStruck_b23 o0 o1 v2 v3 v4 v5 v6 v7 M = some R → Jz G σ p l e R0 s m args below meth c 10 0 0 (Qv R) M 0 0 23 [(0, .ref (G.2.2 + o0)), (1, .ref (G.2.2 + o1)), (2, .int (iv v2)), (3, .int (iv v3)), (4, .int (iv v4)), (5, .int (iv v5)), (6, .int (iv v6)), (7, .int (iv v7))] [] := by
    intro o0 o1 v2 v3 v4 v5 v6 v7 M gv2 gv3 gv4 gv5 gv6 gv7 h
    unfold uX0_appraiseStruck_b23 at h
    obtain ⟨b23, hb23_, hc23⟩ := bnd h
    have hL23 : ∀ (n : Nat) (v7 : Int) (M : Mm), (rg v7) → lp (uX0_appraiseStruck_f23 o0 o1 v2 v3 v4 v5 v6) n (v7, M) = some b23 → Jz G σ p l e R0 s m args below meth c 10 0 0 (Qv R) M 0 0 23 [(0, .ref (G.2.2 + o0)), (1, .ref (G.2.2 + o1)), (2, .int (iv v2)), (3, .int (iv v3)), (4, .int (iv v4)), (5, .int (iv v5)), (6, .int (iv v6)), (7, .int (iv v7))] [] := by
      intro n; induction n with
      | zero => intro v7 M gv7 hq; exact (lp_0 hq).elim
      | succ n23 ih23 =>
        intro v7 M gv7 hq
        obtain ⟨z23, h, hZ23⟩ := lp_s hq
        have h : uX0_appraiseStruck_s23 o0 o1 v2 v3 v4 v5 v6 v7 M = some z23 := h
        have hb100 : ∀ (v7 : Int) (v8 : Int) (M : Mm), (rg v7) → (rg v8) → ∀ z23, uX0_appraiseStruck_b100 o0 o1 v2 v3 v4 v5 v6 v7 v8 M = some z23 → lpc (uX0_appraiseStruck_f23 o0 o1 v2 v3 v4 v5 v6) n23 z23 b23 → Jz G σ p l e R0 s m args below meth c 10 0 0 (Qv R) M 0 0 100 [(0, .ref (G.2.2 + o0)), (1, .ref (G.2.2 + o1)), (2, .int (iv v2)), (3, .int (iv v3)), (4, .int (iv v4)), (5, .int (iv v5)), (6, .int (iv v6)), (7, .int (iv v7)), (8, .int (iv v8))] [] := by
          intro v7 v8 M gv7 gv8 z23 h hZ23
          unfold uX0_appraiseStruck_b100 at h
          refine z_aload_n C dX0_appraiseStruck_100 0 rfl ?_
          obtain ⟨on1, hon1, h⟩ := bnd h
          refine y_getR C dX0_appraiseStruck_101 fX0_18 rfl hon1 ?_
          refine z_iload_n C dX0_appraiseStruck_104 2 rfl ?_
          refine z_bipush C dX0_appraiseStruck_105 (by decide) ?_
          refine y_imul C dX0_appraiseStruck_107 ?_
          refine z_iconst C dX0_appraiseStruck_108 ?_
          refine y_iadd C dX0_appraiseStruck_109 ?_
          refine z_iload C dX0_appraiseStruck_110 7 rfl ?_
          refine y_iadd C dX0_appraiseStruck_112 ?_
          refine z_iload C dX0_appraiseStruck_113 8 rfl ?_
          obtain ⟨M2, hM2, h⟩ := bnd h
          refine y_iast C dX0_appraiseStruck_115 hM2 ?_
          refine y_iinc (lv' := [(0, .ref (G.2.2 + o0)), (1, .ref (G.2.2 + o1)), (2, .int (iv v2)), (3, .int (iv v3)), (4, .int (iv v4)), (5, .int (iv v5)), (6, .int (iv v6)), (7, .int (iv (w32 (v7 + 1)))), (8, .int (iv v8))]) C dX0_appraiseStruck_116 7 rfl (by decide) [1, 2, 3, 4, 5, 6, 7, 0, 8] rfl ?_
          refine z_goto 23 C dX0_appraiseStruck_119 (by decide) ?_
          refine z_drop (lv' := [(0, .ref (G.2.2 + o0)), (1, .ref (G.2.2 + o1)), (2, .int (iv v2)), (3, .int (iv v3)), (4, .int (iv v4)), (5, .int (iv v5)), (6, .int (iv v6)), (7, .int (iv (w32 (v7 + 1))))]) [0, 1, 2, 3, 4, 5, 6, 7] rfl ?_
          exact ih23 (w32 (v7 + 1)) M2 (w32_rng _) (lp_back h hZ23)
        unfold uX0_appraiseStruck_s23 at h
        refine z_iload C dX0_appraiseStruck_23 7 rfl ?_
        refine z_iconst C dX0_appraiseStruck_25 ?_
        refine z_icmp_ge 122 C dX0_appraiseStruck_26 (by decide) gv7 (by decide) (fun e3 => ?_) (fun e3 => ?_)
        ·
          have h := (if_pos e3).symm.trans h
          have h : uX0_appraiseStruck_b122 M = some R := lp_ex (K := (uX0_appraiseStruck_c23 o0 o1 v2 v3 v4 v5 v6)) h hZ23 hc23
          refine z_drop (lv' := []) [] rfl ?_
          exact hb122  M  h
        ·
          have h := (if_neg e3).symm.trans h
          refine z_iconst C dX0_appraiseStruck_29 ?_
          refine z_istore (lv' := [(0, .ref (G.2.2 + o0)), (1, .ref (G.2.2 + o1)), (2, .int (iv v2)), (3, .int (iv v3)), (4, .int (iv v4)), (5, .int (iv v5)), (6, .int (iv v6)), (7, .int (iv v7)), (8, .int (iv 0))]) C dX0_appraiseStruck_30 (by decide) [1, 2, 3, 4, 5, 6, 7, 8, 0] rfl ?_
          refine z_aload_n C dX0_appraiseStruck_32 1 rfl ?_
          refine z_aload_n C dX0_appraiseStruck_33 1 rfl ?_
          obtain ⟨on4, hon4, h⟩ := bnd h
          refine y_getR C dX0_appraiseStruck_34 fX0_79 rfl hon4 ?_
          obtain ⟨on5, hon5, h⟩ := bnd h
          refine y_getR C dX0_appraiseStruck_37 fX0_95 rfl hon5 ?_
          refine z_iload C dX0_appraiseStruck_40 5 rfl ?_
          obtain ⟨x6, hx6, h⟩ := bnd h
          refine y_iald C dX0_appraiseStruck_42 hx6 (fun gx6 => ?_)
          refine z_iload C dX0_appraiseStruck_43 6 rfl ?_
          refine z_iload C dX0_appraiseStruck_45 7 rfl ?_
          obtain ⟨k7, h⟩ := gK_inv h
          obtain ⟨r8, hr8, h⟩ := bnd h
          refine y_cVi (st := []) C dX0_appraiseStruck_47 mX0_101 k7 (tX8_obstacle hC o1 x6 v6 v7 gx6 gv6 gv7 hr8) rfl rfl (Nat.le_of_ble_eq_true rfl) (by decide) (fun gr8 => ?_)
          refine z_if_ne 100 C dX0_appraiseStruck_50 (by decide) gr8 (fun e9 => ?_) (fun e9 => ?_)
          ·
            have h := (if_neg e9).symm.trans h
            exact hb100 v7 0 M gv7 (by decide) _ h hZ23
          ·
            have h := (if_pos e9).symm.trans h
            refine z_aload_n C dX0_appraiseStruck_53 1 rfl ?_
            obtain ⟨on10, hon10, h⟩ := bnd h
            refine y_getR C dX0_appraiseStruck_54 fX0_79 rfl hon10 ?_
            obtain ⟨on11, hon11, h⟩ := bnd h
            refine y_getR C dX0_appraiseStruck_57 fX0_95 rfl hon11 ?_
            refine z_iload C dX0_appraiseStruck_60 5 rfl ?_
            obtain ⟨x12, hx12, h⟩ := bnd h
            refine y_iald C dX0_appraiseStruck_62 hx12 (fun gx12 => ?_)
            refine z_aload_n C dX0_appraiseStruck_63 1 rfl ?_
            obtain ⟨on13, hon13, h⟩ := bnd h
            refine y_getR C dX0_appraiseStruck_64 fX0_107 rfl hon13 ?_
            obtain ⟨on14, hon14, h⟩ := bnd h
            refine y_getR C dX0_appraiseStruck_67 fX0_111 rfl hon14 ?_
            refine z_iload C dX0_appraiseStruck_70 7 rfl ?_
            obtain ⟨x15, hx15, h⟩ := bnd h
            refine y_iald C dX0_appraiseStruck_72 hx15 (fun gx15 => ?_)
            refine y_isub C dX0_appraiseStruck_73 ?_
            refine z_istore (lv' := [(0, .ref (G.2.2 + o0)), (1, .ref (G.2.2 + o1)), (2, .int (iv v2)), (3, .int (iv v3)), (4, .int (iv v4)), (5, .int (iv v5)), (6, .int (iv v6)), (7, .int (iv v7)), (8, .int (iv 0)), (9, .int (iv (w32 (x12 - x15))))]) C dX0_appraiseStruck_74 (by decide) [1, 2, 3, 4, 5, 6, 7, 8, 9, 0] rfl ?_
            refine z_aload_n C dX0_appraiseStruck_76 1 rfl ?_
            refine z_iload C dX0_appraiseStruck_77 9 rfl ?_
            refine z_iload C dX0_appraiseStruck_79 6 rfl ?_
            refine z_iconst C dX0_appraiseStruck_81 ?_
            refine y_iadd C dX0_appraiseStruck_82 ?_
            refine z_iload_n C dX0_appraiseStruck_83 3 rfl ?_
            obtain ⟨k16, h⟩ := gK_inv h
            obtain ⟨r17, hr17, h⟩ := bnd h
            refine y_cVi (st := []) C dX0_appraiseStruck_84 mX0_101 k16 (tX8_obstacle hC o1 (w32 (x12 - x15)) (w32 (v6 + 1)) v3 (w32_rng _) (w32_rng _) gv3 hr17) rfl rfl (Nat.le_of_ble_eq_true rfl) (by decide) (fun gr17 => ?_)
            refine z_if_ne 100 C dX0_appraiseStruck_87 (by decide) gr17 (fun e18 => ?_) (fun e18 => ?_)
            ·
              have h := (if_neg e18).symm.trans h
              refine z_drop (lv' := [(0, .ref (G.2.2 + o0)), (1, .ref (G.2.2 + o1)), (2, .int (iv v2)), (3, .int (iv v3)), (4, .int (iv v4)), (5, .int (iv v5)), (6, .int (iv v6)), (7, .int (iv v7)), (8, .int (iv 0))]) [0, 1, 2, 3, 4, 5, 6, 7, 8] rfl ?_
              exact hb100 v7 0 M gv7 (by decide) _ h hZ23
            ·
              have h := (if_pos e18).symm.trans h
              refine z_iload C dX0_appraiseStruck_90 9 rfl ?_
              refine z_iload C dX0_appraiseStruck_92 4 rfl ?_
              refine y_imul C dX0_appraiseStruck_94 ?_
              refine z_bipush C dX0_appraiseStruck_95 (by decide) ?_
              obtain ⟨x19, hx19, h⟩ := bnd h
              refine y_idiv C dX0_appraiseStruck_97 hx19 (fun gx19 => ?_)
              refine z_istore (lv' := [(0, .ref (G.2.2 + o0)), (1, .ref (G.2.2 + o1)), (2, .int (iv v2)), (3, .int (iv v3)), (4, .int (iv v4)), (5, .int (iv v5)), (6, .int (iv v6)), (7, .int (iv v7)), (8, .int (iv x19)), (9, .int (iv (w32 (x12 - x15))))]) C dX0_appraiseStruck_98 (by decide) [1, 2, 3, 4, 5, 6, 7, 8, 0, 9] rfl ?_
              refine z_drop (lv' := [(0, .ref (G.2.2 + o0)), (1, .ref (G.2.2 + o1)), (2, .int (iv v2)), (3, .int (iv v3)), (4, .int (iv v4)), (5, .int (iv v5)), (6, .int (iv v6)), (7, .int (iv v7)), (8, .int (iv x19))]) [0, 1, 2, 3, 4, 5, 6, 7, 8] rfl ?_
              exact hb100 v7 x19 M gv7 gx19 _ h hZ23
    exact hL23 _ v7 M gv7 hb23_
  unfold uX0_appraiseStruck at h
  refine z_aload_n C dX0_appraiseStruck_0 0 rfl ?_
  obtain ⟨on20, hon20, h⟩ := bnd h
  refine y_getR C dX0_appraiseStruck_1 fX0_11 rfl hon20 ?_
  refine z_iload_n C dX0_appraiseStruck_4 2 rfl ?_
  obtain ⟨x21, hx21, h⟩ := bnd h
  refine y_iald C dX0_appraiseStruck_5 hx21 (fun gx21 => ?_)
  refine z_istore (lv' := [(0, .ref (G.2.2 + o0)), (1, .ref (G.2.2 + o1)), (2, .int (iv v2)), (3, .int (iv v3)), (4, .int (iv v4)), (5, .int (iv x21))]) C dX0_appraiseStruck_6 (by decide) [1, 2, 3, 4, 5, 0] rfl ?_
  refine z_aload_n C dX0_appraiseStruck_8 1 rfl ?_
  obtain ⟨on22, hon22, h⟩ := bnd h
  refine y_getR C dX0_appraiseStruck_9 fX0_79 rfl hon22 ?_
  obtain ⟨on23, hon23, h⟩ := bnd h
  refine y_getR C dX0_appraiseStruck_12 fX0_98 rfl hon23 ?_
  refine z_iload C dX0_appraiseStruck_15 5 rfl ?_
  obtain ⟨x24, hx24, h⟩ := bnd h
  refine y_iald C dX0_appraiseStruck_17 hx24 (fun gx24 => ?_)
  refine z_istore (lv' := [(0, .ref (G.2.2 + o0)), (1, .ref (G.2.2 + o1)), (2, .int (iv v2)), (3, .int (iv v3)), (4, .int (iv v4)), (5, .int (iv x21)), (6, .int (iv x24))]) C dX0_appraiseStruck_18 (by decide) [1, 2, 3, 4, 5, 6, 0] rfl ?_
  refine z_iconst C dX0_appraiseStruck_20 ?_
  refine z_istore (lv' := [(0, .ref (G.2.2 + o0)), (1, .ref (G.2.2 + o1)), (2, .int (iv v2)), (3, .int (iv v3)), (4, .int (iv v4)), (5, .int (iv x21)), (6, .int (iv x24)), (7, .int (iv 0))]) C dX0_appraiseStruck_21 (by decide) [1, 2, 3, 4, 5, 6, 7, 0] rfl ?_
  exact hb23 o0 o1 v2 v3 v4 x21 x24 0 M0 gv2 gv3 gv4 gx21 gx24 (by decide) h

set_option maxHeartbeats 4000000 in
set_option maxRecDepth 100000 in
theorem tX0_chooseWays {G : Gx} {σ : State} (hC : Cy G σ) (o0 : Nat) (v1 : Int) {M0 : Mm} (gv1 : rg v1) {R : Mm} (h : uX0_chooseWays o0 v1 M0 = some R) : Ct G σ (210) yX0_chooseWays cX0_chooseWays 6 none [.ref (G.2.2 + o0), .int (iv v1)] M0 0 0 (Qv R) := by
  refine Ct.of hC.1 (by decide +kernel) (Nat.le_of_ble_eq_true rfl) ?_
  intro p l e R0 s m args below meth c C
  show Jz G σ p l e R0 s m args below meth c 6 0 0 (Qv R) M0 0 0 0 [(0, .ref (G.2.2 + o0)), (1, .int (iv v1))] []
  have hb137 : ∀ (o0 : Nat) (v1 : Int) (v3 : Int) (M : Mm), (rg v1) → (rg v3) → uX0_chooseWays_b137 o0 v1 v3 M = some R → Jz G σ p l e R0 s m args below meth c 6 0 0 (Qv R) M 0 0 137 [(0, .ref (G.2.2 + o0)), (1, .int (iv v1)), (3, .int (iv v3))] [] := by
    intro o0 v1 v3 M gv1 gv3 h
    unfold uX0_chooseWays_b137 at h
    refine z_aload_n C dX0_chooseWays_137 0 rfl ?_
    refine z_iload_n C dX0_chooseWays_138 1 rfl ?_
    refine z_iload_n C dX0_chooseWays_139 2 rfl ?_
    refine y_isub C dX0_chooseWays_140 ?_
    obtain ⟨M1, hM1, h⟩ := bnd h
    refine y_putI C dX0_chooseWays_141 fX0_139 rfl rfl rfl rfl hM1 ?_
    exact y_retV C dX0_chooseWays_144 h
  have hb20 : ∀ (o0 : Nat) (v1 : Int) (v2 : Int) (v3 : Int) (v4 : Int) (M : Mm), (rg v1) → (rg v2) → (rg v3) → (rg v4) → uX0_chooseWays_b20 o0 v1 v2 v3 v4 M = some R → Jz G σ p l e R0 s m args below meth c 6 0 0 (Qv R) M 0 0 20 [(0, .ref (G.2.2 + o0)), (1, .int (iv v1)), (2, .int (iv v2)), (3, .int (iv v3)), (4, .int (iv v4))] [] := by
    intro o0 v1 v2 v3 v4 M gv1 gv2 gv3 gv4 h
    unfold uX0_chooseWays_b20 at h
    obtain ⟨b20, hb20_, hc20⟩ := bnd h
    have hL20 : ∀ (n : Nat) (v2 : Int) (v3 : Int) (v4 : Int) (M : Mm), (rg v2) → (rg v3) → (rg v4) → lp (uX0_chooseWays_f20 o0 v1) n (v2, v3, v4, M) = some b20 → Jz G σ p l e R0 s m args below meth c 6 0 0 (Qv R) M 0 0 20 [(0, .ref (G.2.2 + o0)), (1, .int (iv v1)), (2, .int (iv v2)), (3, .int (iv v3)), (4, .int (iv v4))] [] := by
      intro n; induction n with
      | zero => intro v2 v3 v4 M gv2 gv3 gv4 hq; exact (lp_0 hq).elim
      | succ n20 ih20 =>
        intro v2 v3 v4 M gv2 gv3 gv4 hq
        obtain ⟨z20, h, hZ20⟩ := lp_s hq
        have h : uX0_chooseWays_s20 o0 v1 v2 v3 v4 M = some z20 := h
        have hb115 : ∀ (v2 : Int) (v3 : Int) (v4 : Int) (v5 : Int) (M : Mm), (rg v2) → (rg v3) → (rg v4) → (rg v5) → ∀ z20, uX0_chooseWays_b115 o0 v1 v2 v3 v4 v5 M = some z20 → lpc (uX0_chooseWays_f20 o0 v1) n20 z20 b20 → Jz G σ p l e R0 s m args below meth c 6 0 0 (Qv R) M 0 0 115 [(0, .ref (G.2.2 + o0)), (1, .int (iv v1)), (2, .int (iv v2)), (3, .int (iv v3)), (4, .int (iv v4)), (5, .int (iv v5))] [] := by
          intro v2 v3 v4 v5 M gv2 gv3 gv4 gv5 z20 h hZ20
          unfold uX0_chooseWays_b115 at h
          refine z_iload C dX0_chooseWays_115 5 rfl ?_
          refine z_iconst C dX0_chooseWays_117 ?_
          refine z_icmp_lt 131 C dX0_chooseWays_118 (by decide) gv5 (by decide) (fun e2 => ?_) (fun e2 => ?_)
          ·
            have h := (if_pos e2).symm.trans h
            refine y_iinc (lv' := [(0, .ref (G.2.2 + o0)), (1, .int (iv v1)), (2, .int (iv v2)), (3, .int (iv v3)), (4, .int (iv (w32 (v4 + 1)))), (5, .int (iv v5))]) C dX0_chooseWays_131 4 rfl (by decide) [1, 2, 3, 4, 0, 5] rfl ?_
            refine z_goto 20 C dX0_chooseWays_134 (by decide) ?_
            refine z_drop (lv' := [(0, .ref (G.2.2 + o0)), (1, .int (iv v1)), (2, .int (iv v2)), (3, .int (iv v3)), (4, .int (iv (w32 (v4 + 1))))]) [0, 1, 2, 3, 4] rfl ?_
            exact ih20 v2 v3 (w32 (v4 + 1)) M gv2 gv3 (w32_rng _) (lp_back h hZ20)
          ·
            have h := (if_neg e2).symm.trans h
            refine z_aload_n C dX0_chooseWays_121 0 rfl ?_
            refine z_dup C dX0_chooseWays_122 rfl ?_
            obtain ⟨x3, hx3, h⟩ := bnd h
            refine y_getI C dX0_chooseWays_123 fX0_132 rfl hx3 (fun gx3 => ?_)
            refine z_iconst C dX0_chooseWays_126 ?_
            refine y_iadd C dX0_chooseWays_127 ?_
            obtain ⟨M4, hM4, h⟩ := bnd h
            refine y_putI C dX0_chooseWays_128 fX0_132 rfl rfl rfl rfl hM4 ?_
            refine y_iinc (lv' := [(0, .ref (G.2.2 + o0)), (1, .int (iv v1)), (2, .int (iv v2)), (3, .int (iv v3)), (4, .int (iv (w32 (v4 + 1)))), (5, .int (iv v5))]) C dX0_chooseWays_131 4 rfl (by decide) [1, 2, 3, 4, 0, 5] rfl ?_
            refine z_goto 20 C dX0_chooseWays_134 (by decide) ?_
            refine z_drop (lv' := [(0, .ref (G.2.2 + o0)), (1, .int (iv v1)), (2, .int (iv v2)), (3, .int (iv v3)), (4, .int (iv (w32 (v4 + 1))))]) [0, 1, 2, 3, 4] rfl ?_
            exact ih20 v2 v3 (w32 (v4 + 1)) M4 gv2 gv3 (w32_rng _) (lp_back h hZ20)
        unfold uX0_chooseWays_s20 at h
        refine z_iload C dX0_chooseWays_20 4 rfl ?_
        refine z_aload_n C dX0_chooseWays_22 0 rfl ?_
        obtain ⟨x5, hx5, h⟩ := bnd h
        refine y_getI C dX0_chooseWays_23 fX0_37 rfl hx5 (fun gx5 => ?_)
        refine z_icmp_ge 137 C dX0_chooseWays_26 (by decide) gv4 gx5 (fun e6 => ?_) (fun e6 => ?_)
        ·
          have h := (if_pos e6).symm.trans h
          have h : uX0_chooseWays_b137 o0 v1 v3 M = some R := lp_ex (K := (uX0_chooseWays_c20 o0 v1)) h hZ20 hc20
          refine z_drop (lv' := [(0, .ref (G.2.2 + o0)), (1, .int (iv v1)), (3, .int (iv v3))]) [0, 1, 3] rfl ?_
          exact hb137 o0 v1 v3 M gv1 gv3 h
        ·
          have h := (if_neg e6).symm.trans h
          refine z_iload C dX0_chooseWays_29 4 rfl ?_
          refine z_bipush C dX0_chooseWays_31 (by decide) ?_
          refine z_icmp_ge 137 C dX0_chooseWays_33 (by decide) gv4 (by decide) (fun e7 => ?_) (fun e7 => ?_)
          ·
            have h := (if_pos e7).symm.trans h
            have h : uX0_chooseWays_b137 o0 v1 v3 M = some R := lp_ex (K := (uX0_chooseWays_c20 o0 v1)) h hZ20 hc20
            refine z_drop (lv' := [(0, .ref (G.2.2 + o0)), (1, .int (iv v1)), (3, .int (iv v3))]) [0, 1, 3] rfl ?_
            exact hb137 o0 v1 v3 M gv1 gv3 h
          ·
            have h := (if_neg e7).symm.trans h
            refine z_aload_n C dX0_chooseWays_36 0 rfl ?_
            refine z_iload C dX0_chooseWays_37 4 rfl ?_
            refine z_iload_n C dX0_chooseWays_39 2 rfl ?_
            refine z_aload_n C dX0_chooseWays_40 0 rfl ?_
            obtain ⟨x8, hx8, h⟩ := bnd h
            refine y_getI C dX0_chooseWays_41 fX0_126 rfl hx8 (fun gx8 => ?_)
            refine z_aload_n C dX0_chooseWays_44 0 rfl ?_
            obtain ⟨x9, hx9, h⟩ := bnd h
            refine y_getI C dX0_chooseWays_45 fX0_129 rfl hx9 (fun gx9 => ?_)
            refine y_isub C dX0_chooseWays_48 ?_
            refine z_iload_n C dX0_chooseWays_49 3 rfl ?_
            obtain ⟨k10, h⟩ := gK_inv h
            obtain ⟨r11, hr11, h⟩ := bnd h
            refine y_cVi (st := []) C dX0_chooseWays_50 mX0_135 k10 (tX0_firstWay hC o0 v4 v2 (w32 (x8 - x9)) v3 gv4 gv2 (w32_rng _) gv3 hr11) rfl rfl (Nat.le_of_ble_eq_true rfl) (by decide) (fun gr11 => ?_)
            refine z_istore (lv' := [(0, .ref (G.2.2 + o0)), (1, .int (iv v1)), (2, .int (iv v2)), (3, .int (iv v3)), (4, .int (iv v4)), (5, .int (iv r11))]) C dX0_chooseWays_53 (by decide) [1, 2, 3, 4, 5, 0] rfl ?_
            refine z_aload_n C dX0_chooseWays_55 0 rfl ?_
            obtain ⟨on12, hon12, h⟩ := bnd h
            refine y_getR C dX0_chooseWays_56 fX0_15 rfl hon12 ?_
            refine z_aload_n C dX0_chooseWays_59 0 rfl ?_
            obtain ⟨on13, hon13, h⟩ := bnd h
            refine y_getR C dX0_chooseWays_60 fX0_21 rfl hon13 ?_
            refine z_iload C dX0_chooseWays_63 4 rfl ?_
            obtain ⟨x14, hx14, h⟩ := bnd h
            refine y_iald C dX0_chooseWays_65 hx14 (fun gx14 => ?_)
            refine z_iload C dX0_chooseWays_66 5 rfl ?_
            obtain ⟨M15, hM15, h⟩ := bnd h
            refine y_iast C dX0_chooseWays_68 hM15 ?_
            refine z_iload C dX0_chooseWays_69 5 rfl ?_
            refine z_if_eq 115 C dX0_chooseWays_71 (by decide) gr11 (fun e16 => ?_) (fun e16 => ?_)
            ·
              have h := (if_pos e16).symm.trans h
              exact hb115 v2 v3 v4 r11 M15 gv2 gv3 gv4 gr11 _ h hZ20
            ·
              have h := (if_neg e16).symm.trans h
              refine z_iload_n C dX0_chooseWays_74 2 rfl ?_
              refine z_aload_n C dX0_chooseWays_75 0 rfl ?_
              obtain ⟨on17, hon17, h⟩ := bnd h
              refine y_getR C dX0_chooseWays_76 fX0_24 rfl hon17 ?_
              refine z_iload C dX0_chooseWays_79 4 rfl ?_
              obtain ⟨x18, hx18, h⟩ := bnd h
              refine y_iald C dX0_chooseWays_81 hx18 (fun gx18 => ?_)
              refine y_isub C dX0_chooseWays_82 ?_
              refine z_istore_n (lv' := [(0, .ref (G.2.2 + o0)), (1, .int (iv v1)), (2, .int (iv (w32 (v2 - x18)))), (3, .int (iv v3)), (4, .int (iv v4)), (5, .int (iv r11))]) C dX0_chooseWays_83 rfl (by decide) [1, 2, 0, 3, 4, 5] rfl ?_
              refine z_iload_n C dX0_chooseWays_84 3 rfl ?_
              refine z_aload_n C dX0_chooseWays_85 0 rfl ?_
              obtain ⟨on19, hon19, h⟩ := bnd h
              refine y_getR C dX0_chooseWays_86 fX0_18 rfl hon19 ?_
              refine z_aload_n C dX0_chooseWays_89 0 rfl ?_
              obtain ⟨on20, hon20, h⟩ := bnd h
              refine y_getR C dX0_chooseWays_90 fX0_21 rfl hon20 ?_
              refine z_iload C dX0_chooseWays_93 4 rfl ?_
              obtain ⟨x21, hx21, h⟩ := bnd h
              refine y_iald C dX0_chooseWays_95 hx21 (fun gx21 => ?_)
              refine z_bipush C dX0_chooseWays_96 (by decide) ?_
              refine y_imul C dX0_chooseWays_98 ?_
              refine z_iload C dX0_chooseWays_99 5 rfl ?_
              refine y_iadd C dX0_chooseWays_101 ?_
              obtain ⟨x22, hx22, h⟩ := bnd h
              refine y_iald C dX0_chooseWays_102 hx22 (fun gx22 => ?_)
              refine y_isub C dX0_chooseWays_103 ?_
              refine z_istore_n (lv' := [(0, .ref (G.2.2 + o0)), (1, .int (iv v1)), (2, .int (iv (w32 (v2 - x18)))), (3, .int (iv (w32 (v3 - x22)))), (4, .int (iv v4)), (5, .int (iv r11))]) C dX0_chooseWays_104 rfl (by decide) [1, 2, 3, 0, 4, 5] rfl ?_
              refine z_aload_n C dX0_chooseWays_105 0 rfl ?_
              refine z_dup C dX0_chooseWays_106 rfl ?_
              obtain ⟨x23, hx23, h⟩ := bnd h
              refine y_getI C dX0_chooseWays_107 fX0_129 rfl hx23 (fun gx23 => ?_)
              refine z_iconst C dX0_chooseWays_110 ?_
              refine y_iadd C dX0_chooseWays_111 ?_
              obtain ⟨M24, hM24, h⟩ := bnd h
              refine y_putI C dX0_chooseWays_112 fX0_129 rfl rfl rfl rfl hM24 ?_
              exact hb115 (w32 (v2 - x18)) (w32 (v3 - x22)) v4 r11 M24 (w32_rng _) (w32_rng _) gv4 gr11 _ h hZ20
    exact hL20 _ v2 v3 v4 M gv2 gv3 gv4 hb20_
  unfold uX0_chooseWays at h
  refine z_aload_n C dX0_chooseWays_0 0 rfl ?_
  obtain ⟨x25, hx25, h⟩ := bnd h
  refine y_getI C dX0_chooseWays_1 fX0_68 rfl hx25 (fun gx25 => ?_)
  refine z_istore_n (lv' := [(0, .ref (G.2.2 + o0)), (1, .int (iv v1)), (2, .int (iv x25))]) C dX0_chooseWays_4 rfl (by decide) [1, 2, 0] rfl ?_
  refine z_iload_n C dX0_chooseWays_5 1 rfl ?_
  refine z_istore_n (lv' := [(0, .ref (G.2.2 + o0)), (1, .int (iv v1)), (2, .int (iv x25)), (3, .int (iv v1))]) C dX0_chooseWays_6 rfl (by decide) [1, 2, 3, 0] rfl ?_
  refine z_aload_n C dX0_chooseWays_7 0 rfl ?_
  refine z_iconst C dX0_chooseWays_8 ?_
  obtain ⟨M26, hM26, h⟩ := bnd h
  refine y_putI C dX0_chooseWays_9 fX0_129 rfl rfl rfl rfl hM26 ?_
  refine z_aload_n C dX0_chooseWays_12 0 rfl ?_
  refine z_iconst C dX0_chooseWays_13 ?_
  obtain ⟨M27, hM27, h⟩ := bnd h
  refine y_putI C dX0_chooseWays_14 fX0_132 rfl rfl rfl rfl hM27 ?_
  refine z_iconst C dX0_chooseWays_17 ?_
  refine z_istore (lv' := [(0, .ref (G.2.2 + o0)), (1, .int (iv v1)), (2, .int (iv x25)), (3, .int (iv v1)), (4, .int (iv 0))]) C dX0_chooseWays_18 (by decide) [1, 2, 3, 4, 0] rfl ?_
  exact hb20 o0 v1 x25 v1 0 M27 gv1 gx25 gv1 (by decide) h

set_option maxHeartbeats 4000000 in
set_option maxRecDepth 100000 in
theorem tX1_init {G : Gx} {σ : State} (hC : Cy G σ) (o0 : Nat) {M0 : Mm}  {R : Mm} (h : uX1_init o0 M0 = some R) : Ct G σ (3) yX1_init cX1_init 1 none [.ref (G.2.2 + o0)] M0 6 880 (Qv R) := by
  refine Ct.of hC.1 (by decide +kernel) (Nat.le_of_ble_eq_true rfl) ?_
  intro p l e R0 s m args below meth c C
  show Jz G σ p l e R0 s m args below meth c 1 6 880 (Qv R) M0 0 0 0 [(0, .ref (G.2.2 + o0))] []
  unfold uX1_init at h
  refine z_aload_n C dX1_init_0 0 rfl ?_
  refine z_objInit C dX1_init_1 (gt_1 (i := 180) (by decide +kernel) (by decide +kernel)) oi_in oi_co (by decide) (Nat.le_of_ble_eq_true rfl) ?_
  refine z_aload_n C dX1_init_4 0 rfl ?_
  refine z_bipush C dX1_init_5 (by decide) ?_
  refine y_newI 40 C dX1_init_7 rfl (by decide) (by omega) (by omega) ?_
  obtain ⟨M1, hM1, h⟩ := bnd h
  refine y_putFR C dX1_init_9 clX1 (by decide) fX1_9_l rfl rfl rfl rfl rfl rfl hM1 ?_
  refine z_aload_n C dX1_init_12 0 rfl ?_
  refine z_bipush C dX1_init_13 (by decide) ?_
  refine y_newI 40 C dX1_init_15 rfl (by decide) (by omega) (by omega) ?_
  obtain ⟨M2, hM2, h⟩ := bnd h
  refine y_putFR C dX1_init_17 clX1 (by decide) fX1_15_l rfl rfl rfl rfl rfl rfl hM2 ?_
  refine z_aload_n C dX1_init_20 0 rfl ?_
  refine z_bipush C dX1_init_21 (by decide) ?_
  refine y_newI 40 C dX1_init_23 rfl (by decide) (by omega) (by omega) ?_
  obtain ⟨M3, hM3, h⟩ := bnd h
  refine y_putFR C dX1_init_25 clX1 (by decide) fX1_18_l rfl rfl rfl rfl rfl rfl hM3 ?_
  refine z_aload_n C dX1_init_28 0 rfl ?_
  refine z_bipush C dX1_init_29 (by decide) ?_
  refine y_newI 40 C dX1_init_31 rfl (by decide) (by omega) (by omega) ?_
  obtain ⟨M4, hM4, h⟩ := bnd h
  refine y_putFR C dX1_init_33 clX1 (by decide) fX1_21_l rfl rfl rfl rfl rfl rfl hM4 ?_
  refine z_aload_n C dX1_init_36 0 rfl ?_
  refine z_sipush C dX1_init_37 (by decide) ?_
  refine y_newI 360 C dX1_init_40 rfl (by decide) (by omega) (by omega) ?_
  obtain ⟨M5, hM5, h⟩ := bnd h
  refine y_putFR C dX1_init_42 clX1 (by decide) fX1_24_l rfl rfl rfl rfl rfl rfl hM5 ?_
  refine z_aload_n C dX1_init_45 0 rfl ?_
  refine z_sipush C dX1_init_46 (by decide) ?_
  refine y_newI 360 C dX1_init_49 rfl (by decide) (by omega) (by omega) ?_
  obtain ⟨M6, hM6, h⟩ := bnd h
  refine y_putFR C dX1_init_51 clX1 (by decide) fX1_27_l rfl rfl rfl rfl rfl rfl hM6 ?_
  refine z_aload_n C dX1_init_54 0 rfl ?_
  obtain ⟨k7, h⟩ := gK_inv h
  obtain ⟨M8, hM8, h⟩ := bnd h
  refine y_cVv (st := []) C dX1_init_55 mX1_30 k7 (tX1_clear hC o0  hM8) rfl rfl (Nat.le_of_ble_eq_true rfl) (by decide) ?_
  exact y_retV C dX1_init_58 h

set_option maxHeartbeats 4000000 in
set_option maxRecDepth 100000 in
theorem tX4_depthsFit {G : Gx} {σ : State} (hC : Cy G σ) (o0 : Nat) (o1 : Nat) (v2 : Int) {M0 : Mm} (gv2 : rg v2) {R : Int} (h : uX4_depthsFit o0 o1 v2 M0 = some R) : Ct G σ (3) yX4_depthsFit cX4_depthsFit 6 (some .boolean) [.ref (G.2.2 + o0), .ref (G.2.2 + o1), .int (iv v2)] M0 0 0 (Qb R M0) := by
  refine Ct.of hC.1 (by decide +kernel) (Nat.le_of_ble_eq_true rfl) ?_
  intro p l e R0 s m args below meth c C
  show Jz G σ p l e R0 s m args below meth c 6 0 0 (Qb R M0) M0 0 0 0 [(0, .ref (G.2.2 + o0)), (1, .ref (G.2.2 + o1)), (2, .int (iv v2))] []
  have hb66 : ∀ (o1 : Nat) (v2 : Int) (v4 : Int), (rg v2) → (rg v4) → uX4_depthsFit_b66 o1 v2 v4 M0 = some R → Jz G σ p l e R0 s m args below meth c 6 0 0 (Qb R M0) M0 0 0 66 [(1, .ref (G.2.2 + o1)), (2, .int (iv v2)), (4, .int (iv v4))] [] := by
    intro o1 v2 v4  gv2 gv4 h
    unfold uX4_depthsFit_b66 at h
    refine z_iload C dX4_depthsFit_66 2 rfl ?_
    refine z_aload_n C dX4_depthsFit_68 0 rfl ?_
    obtain ⟨on1, hon1, h⟩ := bnd h
    refine y_getR C dX4_depthsFit_69 fX4_65 rfl hon1 ?_
    obtain ⟨on2, hon2, h⟩ := bnd h
    refine y_getR C dX4_depthsFit_72 fX4_84 rfl hon2 ?_
    refine z_iload_n C dX4_depthsFit_75 1 rfl ?_
    obtain ⟨x3, hx3, h⟩ := bnd h
    refine y_iald C dX4_depthsFit_76 hx3 (fun gx3 => ?_)
    refine z_icmp_ne 84 C dX4_depthsFit_77 (by decide) gv4 gx3 (fun e4 => ?_) (fun e4 => ?_)
    ·
      have h := (if_neg e4).symm.trans h
      refine z_iconst C dX4_depthsFit_84 ?_
      exact y_zretP C dX4_depthsFit_85 h (by decide)
    ·
      have h := (if_pos e4).symm.trans h
      refine z_iconst C dX4_depthsFit_80 ?_
      refine z_goto 85 C dX4_depthsFit_81 (by decide) ?_
      exact y_zretP C dX4_depthsFit_85 h (by decide)
  have hb14 : ∀ (o0 : Nat) (o1 : Nat) (v2 : Int) (v3 : Int) (v4 : Int) (v5 : Int), (rg v2) → (rg v3) → (rg v4) → (rg v5) → uX4_depthsFit_b14 o0 o1 v2 v3 v4 v5 M0 = some R → Jz G σ p l e R0 s m args below meth c 6 0 0 (Qb R M0) M0 0 0 14 [(0, .ref (G.2.2 + o0)), (1, .ref (G.2.2 + o1)), (2, .int (iv v2)), (3, .int (iv v3)), (4, .int (iv v4)), (5, .int (iv v5))] [] := by
    intro o0 o1 v2 v3 v4 v5  gv2 gv3 gv4 gv5 h
    unfold uX4_depthsFit_b14 at h
    obtain ⟨b14, hb14_, hc14⟩ := bnd h
    have hL14 : ∀ (n : Nat) (v3 : Int) (v4 : Int) (v5 : Int), (rg v3) → (rg v4) → (rg v5) → lp (uX4_depthsFit_f14 o0 o1 v2 M0) n (v3, v4, v5) = some b14 → Jz G σ p l e R0 s m args below meth c 6 0 0 (Qb R M0) M0 0 0 14 [(0, .ref (G.2.2 + o0)), (1, .ref (G.2.2 + o1)), (2, .int (iv v2)), (3, .int (iv v3)), (4, .int (iv v4)), (5, .int (iv v5))] [] := by
      intro n; induction n with
      | zero => intro v3 v4 v5 gv3 gv4 gv5 hq; exact (lp_0 hq).elim
      | succ n14 ih14 =>
        intro v3 v4 v5 gv3 gv4 gv5 hq
        obtain ⟨z14, h, hZ14⟩ := lp_s hq
        have h : uX4_depthsFit_s14 o0 o1 v2 M0 v3 v4 v5 = some z14 := h
        unfold uX4_depthsFit_s14 at h
        refine z_iload C dX4_depthsFit_14 5 rfl ?_
        refine z_if_lt 66 C dX4_depthsFit_16 (by decide) gv5 (fun e5 => ?_) (fun e5 => ?_)
        ·
          have h := (if_pos e5).symm.trans h
          have h : uX4_depthsFit_b66 o1 v2 v4 M0 = some R := lp_ex (K := (uX4_depthsFit_c14 o0 o1 v2 M0)) h hZ14 hc14
          refine z_drop (lv' := [(1, .ref (G.2.2 + o1)), (2, .int (iv v2)), (4, .int (iv v4))]) [1, 2, 4] rfl ?_
          exact hb66 o1 v2 v4  gv2 gv4 h
        ·
          have h := (if_neg e5).symm.trans h
          refine z_iload_n C dX4_depthsFit_19 3 rfl ?_
          refine z_if_le 66 C dX4_depthsFit_20 (by decide) gv3 (fun e6 => ?_) (fun e6 => ?_)
          ·
            have h := (if_pos e6).symm.trans h
            have h : uX4_depthsFit_b66 o1 v2 v4 M0 = some R := lp_ex (K := (uX4_depthsFit_c14 o0 o1 v2 M0)) h hZ14 hc14
            refine z_drop (lv' := [(1, .ref (G.2.2 + o1)), (2, .int (iv v2)), (4, .int (iv v4))]) [1, 2, 4] rfl ?_
            exact hb66 o1 v2 v4  gv2 gv4 h
          ·
            have h := (if_neg e6).symm.trans h
            refine z_aload_n C dX4_depthsFit_23 1 rfl ?_
            obtain ⟨on7, hon7, h⟩ := bnd h
            refine y_getR C dX4_depthsFit_24 fX4_65 rfl hon7 ?_
            refine z_iload_n C dX4_depthsFit_27 2 rfl ?_
            refine z_iload C dX4_depthsFit_28 4 rfl ?_
            obtain ⟨k8, h⟩ := gK_inv h
            obtain ⟨r9, hr9, h⟩ := bnd h
            refine y_cVi (st := []) C dX4_depthsFit_30 mX4_78 k8 (tX1_depthAt hC on7 v2 v4 gv2 gv4 hr9) rfl rfl (Nat.le_of_ble_eq_true rfl) (by decide) (fun gr9 => ?_)
            refine z_iload_n C dX4_depthsFit_33 3 rfl ?_
            refine z_icmp_eq 39 C dX4_depthsFit_34 (by decide) gr9 gv3 (fun e10 => ?_) (fun e10 => ?_)
            ·
              have h := (if_pos e10).symm.trans h
              refine y_iinc (lv' := [(0, .ref (G.2.2 + o0)), (1, .ref (G.2.2 + o1)), (2, .int (iv v2)), (3, .int (iv v3)), (4, .int (iv (w32 (v4 + 1)))), (5, .int (iv v5))]) C dX4_depthsFit_39 4 rfl (by decide) [1, 2, 3, 4, 0, 5] rfl ?_
              refine z_iload_n C dX4_depthsFit_42 3 rfl ?_
              refine z_aload_n C dX4_depthsFit_43 1 rfl ?_
              obtain ⟨on11, hon11, h⟩ := bnd h
              refine y_getR C dX4_depthsFit_44 fX4_38 rfl hon11 ?_
              obtain ⟨on12, hon12, h⟩ := bnd h
              refine y_getR C dX4_depthsFit_47 fX4_81 rfl hon12 ?_
              refine z_aload_n C dX4_depthsFit_50 0 rfl ?_
              obtain ⟨on13, hon13, h⟩ := bnd h
              refine y_getR C dX4_depthsFit_51 fX4_18 rfl hon13 ?_
              refine z_iload C dX4_depthsFit_54 5 rfl ?_
              obtain ⟨x14, hx14, h⟩ := bnd h
              refine y_iald C dX4_depthsFit_56 hx14 (fun gx14 => ?_)
              obtain ⟨x15, hx15, h⟩ := bnd h
              refine y_iald C dX4_depthsFit_57 hx15 (fun gx15 => ?_)
              refine y_isub C dX4_depthsFit_58 ?_
              refine z_istore_n (lv' := [(0, .ref (G.2.2 + o0)), (1, .ref (G.2.2 + o1)), (2, .int (iv v2)), (3, .int (iv (w32 (v3 - x15)))), (4, .int (iv (w32 (v4 + 1)))), (5, .int (iv v5))]) C dX4_depthsFit_59 rfl (by decide) [1, 2, 3, 0, 4, 5] rfl ?_
              refine y_iinc (lv' := [(0, .ref (G.2.2 + o0)), (1, .ref (G.2.2 + o1)), (2, .int (iv v2)), (3, .int (iv (w32 (v3 - x15)))), (4, .int (iv (w32 (v4 + 1)))), (5, .int (iv (w32 (v5 + (-1)))))]) C dX4_depthsFit_60 5 rfl (by decide) [1, 2, 3, 4, 5, 0] rfl ?_
              refine z_goto 14 C dX4_depthsFit_63 (by decide) ?_
              exact ih14 (w32 (v3 - x15)) (w32 (v4 + 1)) (w32 (v5 + (-1))) (w32_rng _) (w32_rng _) (w32_rng _) (lp_back h hZ14)
            ·
              have h := (if_neg e10).symm.trans h
              refine z_iconst C dX4_depthsFit_37 ?_
              have h := lp_ret (K := (uX4_depthsFit_c14 o0 o1 v2 M0)) h hZ14 hc14
              exact y_zretP C dX4_depthsFit_38 h (by decide)
    exact hL14 _ v3 v4 v5 gv3 gv4 gv5 hb14_
  unfold uX4_depthsFit at h
  refine z_bipush C dX4_depthsFit_0 (by decide) ?_
  refine z_istore_n (lv' := [(0, .ref (G.2.2 + o0)), (1, .ref (G.2.2 + o1)), (2, .int (iv v2)), (3, .int (iv 9))]) C dX4_depthsFit_2 rfl (by decide) [1, 2, 3, 0] rfl ?_
  refine z_iconst C dX4_depthsFit_3 ?_
  refine z_istore (lv' := [(0, .ref (G.2.2 + o0)), (1, .ref (G.2.2 + o1)), (2, .int (iv v2)), (3, .int (iv 9)), (4, .int (iv 0))]) C dX4_depthsFit_4 (by decide) [1, 2, 3, 4, 0] rfl ?_
  refine z_aload_n C dX4_depthsFit_6 0 rfl ?_
  obtain ⟨x16, hx16, h⟩ := bnd h
  refine y_getI C dX4_depthsFit_7 fX4_35 rfl hx16 (fun gx16 => ?_)
  refine z_iconst C dX4_depthsFit_10 ?_
  refine y_isub C dX4_depthsFit_11 ?_
  refine z_istore (lv' := [(0, .ref (G.2.2 + o0)), (1, .ref (G.2.2 + o1)), (2, .int (iv v2)), (3, .int (iv 9)), (4, .int (iv 0)), (5, .int (iv (w32 (x16 - 1))))]) C dX4_depthsFit_12 (by decide) [1, 2, 3, 4, 5, 0] rfl ?_
  exact hb14 o0 o1 v2 9 0 (w32 (x16 - 1))  gv2 (by decide) (by decide) (w32_rng _) h

set_option maxHeartbeats 4000000 in
set_option maxRecDepth 100000 in
theorem tX7_advance {G : Gx} {σ : State} (hC : Cy G σ) (o0 : Nat) {M0 : Mm}  {R : Mm} (h : uX7_advance o0 M0 = some R) : Ct G σ (10) yX7_advance cX7_advance 1 none [.ref (G.2.2 + o0)] M0 0 0 (Qv R) := by
  refine Ct.of hC.1 (by decide +kernel) (Nat.le_of_ble_eq_true rfl) ?_
  intro p l e R0 s m args below meth c C
  show Jz G σ p l e R0 s m args below meth c 1 0 0 (Qv R) M0 0 0 0 [(0, .ref (G.2.2 + o0))] []
  have hb131 : ∀ (o0 : Nat) (M : Mm), uX7_advance_b131 o0 M = some R → Jz G σ p l e R0 s m args below meth c 1 0 0 (Qv R) M 0 0 131 [(0, .ref (G.2.2 + o0))] [] := by
    intro o0 M  h
    unfold uX7_advance_b131 at h
    refine z_aload_n C dX7_advance_131 0 rfl ?_
    refine z_aload_n C dX7_advance_132 0 rfl ?_
    obtain ⟨k1, h⟩ := gK_inv h
    obtain ⟨r2, M3, hr2, h⟩ := bnd2 h
    refine y_cVi (st := [.ref (G.2.2 + o0)]) C dX7_advance_133 mX7_45 k1 (tX7_readRun hC o0  hr2) rfl rfl (Nat.le_of_ble_eq_true rfl) (by decide) (fun gr2 => ?_)
    obtain ⟨M4, hM4, h⟩ := bnd h
    refine y_putI C dX7_advance_136 fX7_36 rfl rfl rfl rfl hM4 ?_
    refine z_aload_n C dX7_advance_139 0 rfl ?_
    obtain ⟨x5, hx5, h⟩ := bnd h
    refine y_getI C dX7_advance_140 fX7_36 rfl hx5 (fun gx5 => ?_)
    refine z_iconst C dX7_advance_143 ?_
    refine z_icmp_ne 192 C dX7_advance_144 (by decide) gx5 (by decide) (fun e6 => ?_) (fun e6 => ?_)
    ·
      have h := (if_neg e6).symm.trans h
      exact y_retV C dX7_advance_192 h
    ·
      have h := (if_pos e6).symm.trans h
      refine z_aload_n C dX7_advance_147 0 rfl ?_
      refine z_aload_n C dX7_advance_148 0 rfl ?_
      refine z_aload_n C dX7_advance_149 0 rfl ?_
      obtain ⟨x7, hx7, h⟩ := bnd h
      refine y_getI C dX7_advance_150 fX7_22 rfl hx7 (fun gx7 => ?_)
      refine z_aload_n C dX7_advance_153 0 rfl ?_
      obtain ⟨x8, hx8, h⟩ := bnd h
      refine y_getI C dX7_advance_154 fX7_33 rfl hx8 (fun gx8 => ?_)
      refine y_isub C dX7_advance_157 ?_
      obtain ⟨k9, h⟩ := gK_inv h
      obtain ⟨r10, hr10, h⟩ := bnd h
      refine y_cVi (st := [.ref (G.2.2 + o0)]) C dX7_advance_158 mX7_49 k9 (tX7_wordKind hC o0 (w32 (x7 - x8)) (w32_rng _) hr10) rfl rfl (Nat.le_of_ble_eq_true rfl) (by decide) (fun gr10 => ?_)
      obtain ⟨M11, hM11, h⟩ := bnd h
      refine y_putI C dX7_advance_161 fX7_36 rfl rfl rfl rfl hM11 ?_
      refine z_goto 192 C dX7_advance_164 (by decide) ?_
      exact y_retV C dX7_advance_192 h
  have hb84 : ∀ (o0 : Nat) (M : Mm), uX7_advance_b84 o0 M = some R → Jz G σ p l e R0 s m args below meth c 1 0 0 (Qv R) M 0 0 84 [(0, .ref (G.2.2 + o0))] [] := by
    intro o0 M  h
    unfold uX7_advance_b84 at h
    refine z_aload_n C dX7_advance_84 0 rfl ?_
    obtain ⟨x12, hx12, h⟩ := bnd h
    refine y_getI C dX7_advance_85 fX7_22 rfl hx12 (fun gx12 => ?_)
    refine z_aload_n C dX7_advance_88 0 rfl ?_
    obtain ⟨x13, hx13, h⟩ := bnd h
    refine y_getI C dX7_advance_89 fX7_15 rfl hx13 (fun gx13 => ?_)
    refine z_icmp_lt 103 C dX7_advance_92 (by decide) gx12 gx13 (fun e14 => ?_) (fun e14 => ?_)
    ·
      have h := (if_pos e14).symm.trans h
      refine z_aload_n C dX7_advance_103 0 rfl ?_
      refine z_aload_n C dX7_advance_104 0 rfl ?_
      obtain ⟨x15, hx15, h⟩ := bnd h
      refine y_getI C dX7_advance_105 fX7_22 rfl hx15 (fun gx15 => ?_)
      obtain ⟨k16, h⟩ := gK_inv h
      obtain ⟨r17, hr17, h⟩ := bnd h
      refine y_cVi (st := []) C dX7_advance_108 mX7_25 k16 (tX7_at hC o0 x15 gx15 hr17) rfl rfl (Nat.le_of_ble_eq_true rfl) (by decide) (fun gr17 => ?_)
      obtain ⟨r18, hr18, h⟩ := bnd h
      refine y_cSb (st := []) C dX7_advance_111 mX7_39 (tX7_isLetter hC r17 gr17 hr18) rfl rfl (Nat.le_of_ble_eq_true rfl) (by decide) (fun br18 => ?_)
      refine z_if_ne 131 C dX7_advance_114 (by decide) (rg01 br18) (fun e19 => ?_) (fun e19 => ?_)
      ·
        have h := (if_neg e19).symm.trans h
        exact hb131 o0 M  h
      ·
        have h := (if_pos e19).symm.trans h
        refine z_aload_n C dX7_advance_117 0 rfl ?_
        refine z_aload_n C dX7_advance_118 0 rfl ?_
        obtain ⟨x20, hx20, h⟩ := bnd h
        refine y_getI C dX7_advance_119 fX7_22 rfl hx20 (fun gx20 => ?_)
        obtain ⟨k21, h⟩ := gK_inv h
        obtain ⟨r22, hr22, h⟩ := bnd h
        refine y_cVi (st := []) C dX7_advance_122 mX7_25 k21 (tX7_at hC o0 x20 gx20 hr22) rfl rfl (Nat.le_of_ble_eq_true rfl) (by decide) (fun gr22 => ?_)
        obtain ⟨r23, hr23, h⟩ := bnd h
        refine y_cSb (st := []) C dX7_advance_125 mX7_42 (tX7_isDigit hC r22 gr22 hr23) rfl rfl (Nat.le_of_ble_eq_true rfl) (by decide) (fun br23 => ?_)
        refine z_if_eq 167 C dX7_advance_128 (by decide) (rg01 br23) (fun e24 => ?_) (fun e24 => ?_)
        ·
          have h := (if_pos e24).symm.trans h
          refine z_aload_n C dX7_advance_167 0 rfl ?_
          refine z_aload_n C dX7_advance_168 0 rfl ?_
          refine z_aload_n C dX7_advance_169 0 rfl ?_
          obtain ⟨x25, hx25, h⟩ := bnd h
          refine y_getI C dX7_advance_170 fX7_22 rfl hx25 (fun gx25 => ?_)
          obtain ⟨k26, h⟩ := gK_inv h
          obtain ⟨r27, hr27, h⟩ := bnd h
          refine y_cVi (st := [.ref (G.2.2 + o0)]) C dX7_advance_173 mX7_25 k26 (tX7_at hC o0 x25 gx25 hr27) rfl rfl (Nat.le_of_ble_eq_true rfl) (by decide) (fun gr27 => ?_)
          obtain ⟨r28, hr28, h⟩ := bnd h
          refine y_cSi (st := [.ref (G.2.2 + o0)]) C dX7_advance_176 mX7_52 (tX7_signKind hC r27 gr27 hr28) rfl rfl (Nat.le_of_ble_eq_true rfl) (by decide) (fun gr28 => ?_)
          obtain ⟨M29, hM29, h⟩ := bnd h
          refine y_putI C dX7_advance_179 fX7_36 rfl rfl rfl rfl hM29 ?_
          refine z_aload_n C dX7_advance_182 0 rfl ?_
          refine z_dup C dX7_advance_183 rfl ?_
          obtain ⟨x30, hx30, h⟩ := bnd h
          refine y_getI C dX7_advance_184 fX7_22 rfl hx30 (fun gx30 => ?_)
          refine z_iconst C dX7_advance_187 ?_
          refine y_iadd C dX7_advance_188 ?_
          obtain ⟨M31, hM31, h⟩ := bnd h
          refine y_putI C dX7_advance_189 fX7_22 rfl rfl rfl rfl hM31 ?_
          exact y_retV C dX7_advance_192 h
        ·
          have h := (if_neg e24).symm.trans h
          exact hb131 o0 M  h
    ·
      have h := (if_neg e14).symm.trans h
      refine z_aload_n C dX7_advance_95 0 rfl ?_
      refine z_iconst C dX7_advance_96 ?_
      obtain ⟨M32, hM32, h⟩ := bnd h
      refine y_putI C dX7_advance_97 fX7_36 rfl rfl rfl rfl hM32 ?_
      refine z_goto 192 C dX7_advance_100 (by decide) ?_
      exact y_retV C dX7_advance_192 h
  have hb38 : ∀ (o0 : Nat) (M : Mm), uX7_advance_b38 o0 M = some R → Jz G σ p l e R0 s m args below meth c 1 0 0 (Qv R) M 0 0 38 [(0, .ref (G.2.2 + o0))] [] := by
    intro o0 M  h
    unfold uX7_advance_b38 at h
    refine z_aload_n C dX7_advance_38 0 rfl ?_
    refine z_aload_n C dX7_advance_39 0 rfl ?_
    obtain ⟨x33, hx33, h⟩ := bnd h
    refine y_getI C dX7_advance_40 fX7_22 rfl hx33 (fun gx33 => ?_)
    obtain ⟨M34, hM34, h⟩ := bnd h
    refine y_putI C dX7_advance_43 fX7_33 rfl rfl rfl rfl hM34 ?_
    refine z_aload_n C dX7_advance_46 0 rfl ?_
    obtain ⟨x35, hx35, h⟩ := bnd h
    refine y_getI C dX7_advance_47 fX7_22 rfl hx35 (fun gx35 => ?_)
    refine z_aload_n C dX7_advance_50 0 rfl ?_
    obtain ⟨x36, hx36, h⟩ := bnd h
    refine y_getI C dX7_advance_51 fX7_19 rfl hx36 (fun gx36 => ?_)
    refine z_icmp_lt 84 C dX7_advance_54 (by decide) gx35 gx36 (fun e37 => ?_) (fun e37 => ?_)
    ·
      have h := (if_pos e37).symm.trans h
      exact hb84 o0 M34  h
    ·
      have h := (if_neg e37).symm.trans h
      refine z_aload_n C dX7_advance_57 0 rfl ?_
      obtain ⟨x38, hx38, h⟩ := bnd h
      refine y_getI C dX7_advance_58 fX7_15 rfl hx38 (fun gx38 => ?_)
      refine z_aload_n C dX7_advance_61 0 rfl ?_
      obtain ⟨x39, hx39, h⟩ := bnd h
      refine y_getI C dX7_advance_62 fX7_19 rfl hx39 (fun gx39 => ?_)
      refine z_icmp_le 84 C dX7_advance_65 (by decide) gx38 gx39 (fun e40 => ?_) (fun e40 => ?_)
      ·
        have h := (if_pos e40).symm.trans h
        exact hb84 o0 M34  h
      ·
        have h := (if_neg e40).symm.trans h
        refine z_aload_n C dX7_advance_68 0 rfl ?_
        refine z_aload_n C dX7_advance_69 0 rfl ?_
        obtain ⟨x41, hx41, h⟩ := bnd h
        refine y_getI C dX7_advance_70 fX7_19 rfl hx41 (fun gx41 => ?_)
        obtain ⟨M42, hM42, h⟩ := bnd h
        refine y_putI C dX7_advance_73 fX7_33 rfl rfl rfl rfl hM42 ?_
        refine z_aload_n C dX7_advance_76 0 rfl ?_
        refine z_iconst C dX7_advance_77 ?_
        obtain ⟨M43, hM43, h⟩ := bnd h
        refine y_putI C dX7_advance_78 fX7_36 rfl rfl rfl rfl hM43 ?_
        refine z_goto 192 C dX7_advance_81 (by decide) ?_
        exact y_retV C dX7_advance_192 h
  have hb0 : ∀ (o0 : Nat) (M : Mm), uX7_advance_b0 o0 M = some R → Jz G σ p l e R0 s m args below meth c 1 0 0 (Qv R) M 0 0 0 [(0, .ref (G.2.2 + o0))] [] := by
    intro o0 M  h
    unfold uX7_advance_b0 at h
    obtain ⟨b0, hb0_, hc0⟩ := bnd h
    have hL0 : ∀ (n : Nat)  (M : Mm), lp (uX7_advance_f0 o0) n M = some b0 → Jz G σ p l e R0 s m args below meth c 1 0 0 (Qv R) M 0 0 0 [(0, .ref (G.2.2 + o0))] [] := by
      intro n; induction n with
      | zero => intro M  hq; exact (lp_0 hq).elim
      | succ n0 ih0 =>
        intro M  hq
        obtain ⟨z0, h, hZ0⟩ := lp_s hq
        have h : uX7_advance_s0 o0 M = some z0 := h
        unfold uX7_advance_s0 at h
        refine z_aload_n C dX7_advance_0 0 rfl ?_
        obtain ⟨x44, hx44, h⟩ := bnd h
        refine y_getI C dX7_advance_1 fX7_22 rfl hx44 (fun gx44 => ?_)
        refine z_aload_n C dX7_advance_4 0 rfl ?_
        obtain ⟨x45, hx45, h⟩ := bnd h
        refine y_getI C dX7_advance_5 fX7_15 rfl hx45 (fun gx45 => ?_)
        refine z_icmp_ge 38 C dX7_advance_8 (by decide) gx44 gx45 (fun e46 => ?_) (fun e46 => ?_)
        ·
          have h := (if_pos e46).symm.trans h
          have h : uX7_advance_b38 o0 M = some R := lp_ex (K := (uX7_advance_c0 o0)) h hZ0 hc0
          exact hb38 o0 M  h
        ·
          have h := (if_neg e46).symm.trans h
          refine z_aload_n C dX7_advance_11 0 rfl ?_
          refine z_aload_n C dX7_advance_12 0 rfl ?_
          obtain ⟨x47, hx47, h⟩ := bnd h
          refine y_getI C dX7_advance_13 fX7_22 rfl hx47 (fun gx47 => ?_)
          obtain ⟨k48, h⟩ := gK_inv h
          obtain ⟨r49, hr49, h⟩ := bnd h
          refine y_cVi (st := []) C dX7_advance_16 mX7_25 k48 (tX7_at hC o0 x47 gx47 hr49) rfl rfl (Nat.le_of_ble_eq_true rfl) (by decide) (fun gr49 => ?_)
          obtain ⟨r50, hr50, h⟩ := bnd h
          refine y_cSb (st := []) C dX7_advance_19 mX7_29 (tX7_isBlank hC r49 gr49 hr50) rfl rfl (Nat.le_of_ble_eq_true rfl) (by decide) (fun br50 => ?_)
          refine z_if_eq 38 C dX7_advance_22 (by decide) (rg01 br50) (fun e51 => ?_) (fun e51 => ?_)
          ·
            have h := (if_pos e51).symm.trans h
            have h : uX7_advance_b38 o0 M = some R := lp_ex (K := (uX7_advance_c0 o0)) h hZ0 hc0
            exact hb38 o0 M  h
          ·
            have h := (if_neg e51).symm.trans h
            refine z_aload_n C dX7_advance_25 0 rfl ?_
            refine z_dup C dX7_advance_26 rfl ?_
            obtain ⟨x52, hx52, h⟩ := bnd h
            refine y_getI C dX7_advance_27 fX7_22 rfl hx52 (fun gx52 => ?_)
            refine z_iconst C dX7_advance_30 ?_
            refine y_iadd C dX7_advance_31 ?_
            obtain ⟨M53, hM53, h⟩ := bnd h
            refine y_putI C dX7_advance_32 fX7_22 rfl rfl rfl rfl hM53 ?_
            refine z_goto 0 C dX7_advance_35 (by decide) ?_
            exact ih0 M53  (lp_back h hZ0)
    exact hL0 _ M  hb0_
  unfold uX7_advance at h
  exact hb0 o0 M0  h

set_option maxHeartbeats 4000000 in
set_option maxRecDepth 100000 in
theorem tX8_enact {G : Gx} {σ : State} (hC : Cy G σ) (o0 : Nat) (o1 : Nat) {M0 : Mm}  {R : Mm} (h : uX8_enact o0 o1 M0 = some R) : Ct G σ (3) yX8_enact cX8_enact 2 none [.ref (G.2.2 + o0), .ref (G.2.2 + o1)] M0 0 0 (Qv R) := by
  refine Ct.of hC.1 (by decide +kernel) (Nat.le_of_ble_eq_true rfl) ?_
  intro p l e R0 s m args below meth c C
  show Jz G σ p l e R0 s m args below meth c 2 0 0 (Qv R) M0 0 0 0 [(0, .ref (G.2.2 + o0)), (1, .ref (G.2.2 + o1))] []
  unfold uX8_enact at h
  refine z_aload_n C dX8_enact_0 0 rfl ?_
  obtain ⟨on1, hon1, h⟩ := bnd h
  refine y_getR C dX8_enact_1 fX8_12 rfl hon1 ?_
  refine z_aload_n C dX8_enact_4 1 rfl ?_
  obtain ⟨k2, h⟩ := gK_inv h
  obtain ⟨M3, hM3, h⟩ := bnd h
  refine y_cVv (st := []) C dX8_enact_5 mX8_44 k2 (tX3_copyFrom hC on1 o1  hM3) rfl rfl (Nat.le_of_ble_eq_true rfl) (by decide) ?_
  refine z_aload_n C dX8_enact_8 0 rfl ?_
  obtain ⟨on4, hon4, h⟩ := bnd h
  refine y_getR C dX8_enact_9 fX8_21 rfl hon4 ?_
  obtain ⟨k5, h⟩ := gK_inv h
  obtain ⟨M6, hM6, h⟩ := bnd h
  refine y_cVv (st := []) C dX8_enact_12 mX8_62 k5 (tX1_clear hC on4  hM6) rfl rfl (Nat.le_of_ble_eq_true rfl) (by decide) ?_
  refine z_aload_n C dX8_enact_15 0 rfl ?_
  obtain ⟨on7, hon7, h⟩ := bnd h
  refine y_getR C dX8_enact_16 fX8_40 rfl hon7 ?_
  obtain ⟨k8, h⟩ := gK_inv h
  obtain ⟨M9, hM9, h⟩ := bnd h
  refine y_cVv (st := []) C dX8_enact_19 mX8_65 k8 (tX5_clear hC on7  hM9) rfl rfl (Nat.le_of_ble_eq_true rfl) (by decide) ?_
  exact y_retV C dX8_enact_22 h

set_option maxHeartbeats 4000000 in
set_option maxRecDepth 100000 in
theorem tX8_canTrade {G : Gx} {σ : State} (hC : Cy G σ) (o0 : Nat) (v1 : Int) (v2 : Int) {M0 : Mm} (gv1 : rg v1) (gv2 : rg v2) {R : Int} (h : uX8_canTrade o0 v1 v2 M0 = some R) : Ct G σ (3) yX8_canTrade cX8_canTrade 3 (some .boolean) [.ref (G.2.2 + o0), .int (iv v1), .int (iv v2)] M0 0 0 (Qb R M0) := by
  refine Ct.of hC.1 (by decide +kernel) (Nat.le_of_ble_eq_true rfl) ?_
  intro p l e R0 s m args below meth c C
  show Jz G σ p l e R0 s m args below meth c 3 0 0 (Qb R M0) M0 0 0 0 [(0, .ref (G.2.2 + o0)), (1, .int (iv v1)), (2, .int (iv v2))] []
  unfold uX8_canTrade at h
  refine z_aload_n C dX8_canTrade_0 0 rfl ?_
  refine z_iload_n C dX8_canTrade_1 1 rfl ?_
  obtain ⟨k1, h⟩ := gK_inv h
  obtain ⟨r2, hr2, h⟩ := bnd h
  refine y_cVb (st := []) C dX8_canTrade_2 mX8_76 k1 (tX8_isAlive hC o0 v1 gv1 hr2) rfl rfl (Nat.le_of_ble_eq_true rfl) (by decide) (fun br2 => ?_)
  refine z_if_eq 25 C dX8_canTrade_5 (by decide) (rg01 br2) (fun e3 => ?_) (fun e3 => ?_)
  ·
    have h := (if_pos e3).symm.trans h
    refine z_iconst C dX8_canTrade_25 ?_
    exact y_zretP C dX8_canTrade_26 h (by decide)
  ·
    have h := (if_neg e3).symm.trans h
    refine z_aload_n C dX8_canTrade_8 0 rfl ?_
    refine z_iload_n C dX8_canTrade_9 2 rfl ?_
    obtain ⟨k4, h⟩ := gK_inv h
    obtain ⟨r5, hr5, h⟩ := bnd h
    refine y_cVb (st := []) C dX8_canTrade_10 mX8_76 k4 (tX8_isAlive hC o0 v2 gv2 hr5) rfl rfl (Nat.le_of_ble_eq_true rfl) (by decide) (fun br5 => ?_)
    refine z_if_eq 25 C dX8_canTrade_13 (by decide) (rg01 br5) (fun e6 => ?_) (fun e6 => ?_)
    ·
      have h := (if_pos e6).symm.trans h
      refine z_iconst C dX8_canTrade_25 ?_
      exact y_zretP C dX8_canTrade_26 h (by decide)
    ·
      have h := (if_neg e6).symm.trans h
      refine z_iload_n C dX8_canTrade_16 1 rfl ?_
      refine z_iload_n C dX8_canTrade_17 2 rfl ?_
      refine z_icmp_eq 25 C dX8_canTrade_18 (by decide) gv1 gv2 (fun e7 => ?_) (fun e7 => ?_)
      ·
        have h := (if_pos e7).symm.trans h
        refine z_iconst C dX8_canTrade_25 ?_
        exact y_zretP C dX8_canTrade_26 h (by decide)
      ·
        have h := (if_neg e7).symm.trans h
        refine z_iconst C dX8_canTrade_21 ?_
        refine z_goto 26 C dX8_canTrade_22 (by decide) ?_
        exact y_zretP C dX8_canTrade_26 h (by decide)

set_option maxHeartbeats 4000000 in
set_option maxRecDepth 100000 in
theorem tX8_whoShown {G : Gx} {σ : State} (hC : Cy G σ) (o0 : Nat) (v1 : Int) (v2 : Int) {M0 : Mm} (gv1 : rg v1) (gv2 : rg v2) {R : Int} (h : uX8_whoShown o0 v1 v2 M0 = some R) : Ct G σ (3) yX8_whoShown cX8_whoShown 3 (some .int) [.ref (G.2.2 + o0), .int (iv v1), .int (iv v2)] M0 0 0 (Qi R M0) := by
  refine Ct.of hC.1 (by decide +kernel) (Nat.le_of_ble_eq_true rfl) ?_
  intro p l e R0 s m args below meth c C
  show Jz G σ p l e R0 s m args below meth c 3 0 0 (Qi R M0) M0 0 0 0 [(0, .ref (G.2.2 + o0)), (1, .int (iv v1)), (2, .int (iv v2))] []
  unfold uX8_whoShown at h
  refine z_aload_n C dX8_whoShown_0 0 rfl ?_
  obtain ⟨on1, hon1, h⟩ := bnd h
  refine y_getR C dX8_whoShown_1 fX8_30 rfl hon1 ?_
  refine z_aload_n C dX8_whoShown_4 0 rfl ?_
  obtain ⟨on2, hon2, h⟩ := bnd h
  refine y_getR C dX8_whoShown_5 fX8_21 rfl hon2 ?_
  refine z_iload_n C dX8_whoShown_8 1 rfl ?_
  refine z_iload_n C dX8_whoShown_9 2 rfl ?_
  obtain ⟨k3, h⟩ := gK_inv h
  obtain ⟨r4, hr4, h⟩ := bnd h
  refine y_cVi (st := [.ref (G.2.2 + on1)]) C dX8_whoShown_10 mX8_96 k3 (tX1_strokeAt hC on2 v1 v2 gv1 gv2 hr4) rfl rfl (Nat.le_of_ble_eq_true rfl) (by decide) (fun gr4 => ?_)
  refine z_iconst C dX8_whoShown_13 ?_
  obtain ⟨k5, h⟩ := gK_inv h
  obtain ⟨r6, hr6, h⟩ := bnd h
  refine y_cVi (st := []) C dX8_whoShown_14 mX8_92 k5 (tX6_at hC on1 r4 1 gr4 (by decide) hr6) rfl rfl (Nat.le_of_ble_eq_true rfl) (by decide) (fun gr6 => ?_)
  exact y_iretP C dX8_whoShown_17 h gr6

set_option maxHeartbeats 4000000 in
set_option maxRecDepth 100000 in
theorem tX8_showsFalse {G : Gx} {σ : State} (hC : Cy G σ) (o0 : Nat) (v1 : Int) {M0 : Mm} (gv1 : rg v1) {R : Int} (h : uX8_showsFalse o0 v1 M0 = some R) : Ct G σ (3) yX8_showsFalse cX8_showsFalse 3 (some .boolean) [.ref (G.2.2 + o0), .int (iv v1)] M0 0 0 (Qb R M0) := by
  refine Ct.of hC.1 (by decide +kernel) (Nat.le_of_ble_eq_true rfl) ?_
  intro p l e R0 s m args below meth c C
  show Jz G σ p l e R0 s m args below meth c 3 0 0 (Qb R M0) M0 0 0 0 [(0, .ref (G.2.2 + o0)), (1, .int (iv v1))] []
  have hb50 : uX8_showsFalse_b50 M0 = some R → Jz G σ p l e R0 s m args below meth c 3 0 0 (Qb R M0) M0 0 0 50 [] [] := by
    intro    h
    unfold uX8_showsFalse_b50 at h
    refine z_iconst C dX8_showsFalse_50 ?_
    exact y_zretP C dX8_showsFalse_51 h (by decide)
  have hb2 : ∀ (o0 : Nat) (v1 : Int) (v2 : Int), (rg v1) → (rg v2) → uX8_showsFalse_b2 o0 v1 v2 M0 = some R → Jz G σ p l e R0 s m args below meth c 3 0 0 (Qb R M0) M0 0 0 2 [(0, .ref (G.2.2 + o0)), (1, .int (iv v1)), (2, .int (iv v2))] [] := by
    intro o0 v1 v2  gv1 gv2 h
    unfold uX8_showsFalse_b2 at h
    obtain ⟨b2, hb2_, hc2⟩ := bnd h
    have hL2 : ∀ (n : Nat) (v2 : Int), (rg v2) → lp (uX8_showsFalse_f2 o0 v1 M0) n v2 = some b2 → Jz G σ p l e R0 s m args below meth c 3 0 0 (Qb R M0) M0 0 0 2 [(0, .ref (G.2.2 + o0)), (1, .int (iv v1)), (2, .int (iv v2))] [] := by
      intro n; induction n with
      | zero => intro v2 gv2 hq; exact (lp_0 hq).elim
      | succ n2 ih2 =>
        intro v2 gv2 hq
        obtain ⟨z2, h, hZ2⟩ := lp_s hq
        have h : uX8_showsFalse_s2 o0 v1 M0 v2 = some z2 := h
        unfold uX8_showsFalse_s2 at h
        refine z_iload_n C dX8_showsFalse_2 2 rfl ?_
        refine z_bipush C dX8_showsFalse_3 (by decide) ?_
        refine z_icmp_ge 50 C dX8_showsFalse_5 (by decide) gv2 (by decide) (fun e1 => ?_) (fun e1 => ?_)
        ·
          have h := (if_pos e1).symm.trans h
          have h : uX8_showsFalse_b50 M0 = some R := lp_ex (K := (uX8_showsFalse_c2 o0 v1 M0)) h hZ2 hc2
          refine z_drop (lv' := []) [] rfl ?_
          exact hb50    h
        ·
          have h := (if_neg e1).symm.trans h
          refine z_aload_n C dX8_showsFalse_8 0 rfl ?_
          obtain ⟨on2, hon2, h⟩ := bnd h
          refine y_getR C dX8_showsFalse_9 fX8_21 rfl hon2 ?_
          refine z_iload_n C dX8_showsFalse_12 1 rfl ?_
          refine z_iload_n C dX8_showsFalse_13 2 rfl ?_
          obtain ⟨k3, h⟩ := gK_inv h
          obtain ⟨r4, hr4, h⟩ := bnd h
          refine y_cVi (st := []) C dX8_showsFalse_14 mX8_96 k3 (tX1_strokeAt hC on2 v1 v2 gv1 gv2 hr4) rfl rfl (Nat.le_of_ble_eq_true rfl) (by decide) (fun gr4 => ?_)
          refine z_iconst C dX8_showsFalse_17 ?_
          refine z_icmp_eq 50 C dX8_showsFalse_18 (by decide) gr4 (by decide) (fun e5 => ?_) (fun e5 => ?_)
          ·
            have h := (if_pos e5).symm.trans h
            have h : uX8_showsFalse_b50 M0 = some R := lp_ex (K := (uX8_showsFalse_c2 o0 v1 M0)) h hZ2 hc2
            refine z_drop (lv' := []) [] rfl ?_
            exact hb50    h
          ·
            have h := (if_neg e5).symm.trans h
            refine z_aload_n C dX8_showsFalse_21 0 rfl ?_
            obtain ⟨on6, hon6, h⟩ := bnd h
            refine y_getR C dX8_showsFalse_22 fX8_30 rfl hon6 ?_
            refine z_aload_n C dX8_showsFalse_25 0 rfl ?_
            obtain ⟨on7, hon7, h⟩ := bnd h
            refine y_getR C dX8_showsFalse_26 fX8_21 rfl hon7 ?_
            refine z_iload_n C dX8_showsFalse_29 1 rfl ?_
            refine z_iload_n C dX8_showsFalse_30 2 rfl ?_
            obtain ⟨k8, h⟩ := gK_inv h
            obtain ⟨r9, hr9, h⟩ := bnd h
            refine y_cVi (st := [.ref (G.2.2 + on6)]) C dX8_showsFalse_31 mX8_96 k8 (tX1_strokeAt hC on7 v1 v2 gv1 gv2 hr9) rfl rfl (Nat.le_of_ble_eq_true rfl) (by decide) (fun gr9 => ?_)
            refine z_iconst C dX8_showsFalse_34 ?_
            obtain ⟨k10, h⟩ := gK_inv h
            obtain ⟨r11, hr11, h⟩ := bnd h
            refine y_cVi (st := []) C dX8_showsFalse_35 mX8_92 k10 (tX6_at hC on6 r9 5 gr9 (by decide) hr11) rfl rfl (Nat.le_of_ble_eq_true rfl) (by decide) (fun gr11 => ?_)
            refine z_iconst C dX8_showsFalse_38 ?_
            refine z_icmp_ne 44 C dX8_showsFalse_39 (by decide) gr11 (by decide) (fun e12 => ?_) (fun e12 => ?_)
            ·
              have h := (if_neg e12).symm.trans h
              refine y_iinc (lv' := [(0, .ref (G.2.2 + o0)), (1, .int (iv v1)), (2, .int (iv (w32 (v2 + 1))))]) C dX8_showsFalse_44 2 rfl (by decide) [1, 2, 0] rfl ?_
              refine z_goto 2 C dX8_showsFalse_47 (by decide) ?_
              exact ih2 (w32 (v2 + 1)) (w32_rng _) (lp_back h hZ2)
            ·
              have h := (if_pos e12).symm.trans h
              refine z_iconst C dX8_showsFalse_42 ?_
              have h := lp_ret (K := (uX8_showsFalse_c2 o0 v1 M0)) h hZ2 hc2
              exact y_zretP C dX8_showsFalse_43 h (by decide)
    exact hL2 _ v2 gv2 hb2_
  unfold uX8_showsFalse at h
  refine z_iconst C dX8_showsFalse_0 ?_
  refine z_istore_n (lv' := [(0, .ref (G.2.2 + o0)), (1, .int (iv v1)), (2, .int (iv 0))]) C dX8_showsFalse_1 rfl (by decide) [1, 2, 0] rfl ?_
  exact hb2 o0 v1 0  gv1 (by decide) h

set_option maxHeartbeats 4000000 in
set_option maxRecDepth 100000 in
theorem tX8_isShown {G : Gx} {σ : State} (hC : Cy G σ) (o0 : Nat) (v1 : Int) {M0 : Mm} (gv1 : rg v1) {R : Int} (h : uX8_isShown o0 v1 M0 = some R) : Ct G σ (3) yX8_isShown cX8_isShown 4 (some .boolean) [.ref (G.2.2 + o0), .int (iv v1)] M0 0 0 (Qb R M0) := by
  refine Ct.of hC.1 (by decide +kernel) (Nat.le_of_ble_eq_true rfl) ?_
  intro p l e R0 s m args below meth c C
  show Jz G σ p l e R0 s m args below meth c 4 0 0 (Qb R M0) M0 0 0 0 [(0, .ref (G.2.2 + o0)), (1, .int (iv v1))] []
  have hb52 : uX8_isShown_b52 M0 = some R → Jz G σ p l e R0 s m args below meth c 4 0 0 (Qb R M0) M0 0 0 52 [] [] := by
    intro    h
    unfold uX8_isShown_b52 at h
    refine z_iconst C dX8_isShown_52 ?_
    exact y_zretP C dX8_isShown_53 h (by decide)
  have hb12 : ∀ (o0 : Nat) (v1 : Int) (v2 : Int) (v3 : Int), (rg v1) → (rg v2) → (rg v3) → uX8_isShown_b12 o0 v1 v2 v3 M0 = some R → Jz G σ p l e R0 s m args below meth c 4 0 0 (Qb R M0) M0 0 0 12 [(0, .ref (G.2.2 + o0)), (1, .int (iv v1)), (2, .int (iv v2)), (3, .int (iv v3))] [] := by
    intro o0 v1 v2 v3  gv1 gv2 gv3 h
    unfold uX8_isShown_b12 at h
    obtain ⟨b12, hb12_, hc12⟩ := bnd h
    have hL12 : ∀ (n : Nat) (v3 : Int), (rg v3) → lp (uX8_isShown_f12 o0 v1 v2 M0) n v3 = some b12 → Jz G σ p l e R0 s m args below meth c 4 0 0 (Qb R M0) M0 0 0 12 [(0, .ref (G.2.2 + o0)), (1, .int (iv v1)), (2, .int (iv v2)), (3, .int (iv v3))] [] := by
      intro n; induction n with
      | zero => intro v3 gv3 hq; exact (lp_0 hq).elim
      | succ n12 ih12 =>
        intro v3 gv3 hq
        obtain ⟨z12, h, hZ12⟩ := lp_s hq
        have h : uX8_isShown_s12 o0 v1 v2 M0 v3 = some z12 := h
        unfold uX8_isShown_s12 at h
        refine z_iload_n C dX8_isShown_12 3 rfl ?_
        refine z_bipush C dX8_isShown_13 (by decide) ?_
        refine z_icmp_ge 52 C dX8_isShown_15 (by decide) gv3 (by decide) (fun e1 => ?_) (fun e1 => ?_)
        ·
          have h := (if_pos e1).symm.trans h
          have h : uX8_isShown_b52 M0 = some R := lp_ex (K := (uX8_isShown_c12 o0 v1 v2 M0)) h hZ12 hc12
          refine z_drop (lv' := []) [] rfl ?_
          exact hb52    h
        ·
          have h := (if_neg e1).symm.trans h
          refine z_aload_n C dX8_isShown_18 0 rfl ?_
          obtain ⟨on2, hon2, h⟩ := bnd h
          refine y_getR C dX8_isShown_19 fX8_21 rfl hon2 ?_
          refine z_iload_n C dX8_isShown_22 2 rfl ?_
          refine z_iload_n C dX8_isShown_23 3 rfl ?_
          obtain ⟨k3, h⟩ := gK_inv h
          obtain ⟨r4, hr4, h⟩ := bnd h
          refine y_cVi (st := []) C dX8_isShown_24 mX8_96 k3 (tX1_strokeAt hC on2 v2 v3 gv2 gv3 hr4) rfl rfl (Nat.le_of_ble_eq_true rfl) (by decide) (fun gr4 => ?_)
          refine z_iconst C dX8_isShown_27 ?_
          refine z_icmp_eq 52 C dX8_isShown_28 (by decide) gr4 (by decide) (fun e5 => ?_) (fun e5 => ?_)
          ·
            have h := (if_pos e5).symm.trans h
            have h : uX8_isShown_b52 M0 = some R := lp_ex (K := (uX8_isShown_c12 o0 v1 v2 M0)) h hZ12 hc12
            refine z_drop (lv' := []) [] rfl ?_
            exact hb52    h
          ·
            have h := (if_neg e5).symm.trans h
            refine z_aload_n C dX8_isShown_31 0 rfl ?_
            obtain ⟨on6, hon6, h⟩ := bnd h
            refine y_getR C dX8_isShown_32 fX8_21 rfl hon6 ?_
            refine z_iload_n C dX8_isShown_35 2 rfl ?_
            refine z_iload_n C dX8_isShown_36 3 rfl ?_
            obtain ⟨k7, h⟩ := gK_inv h
            obtain ⟨r8, hr8, h⟩ := bnd h
            refine y_cVi (st := []) C dX8_isShown_37 mX8_96 k7 (tX1_strokeAt hC on6 v2 v3 gv2 gv3 hr8) rfl rfl (Nat.le_of_ble_eq_true rfl) (by decide) (fun gr8 => ?_)
            refine z_iload_n C dX8_isShown_40 1 rfl ?_
            refine z_icmp_ne 46 C dX8_isShown_41 (by decide) gr8 gv1 (fun e9 => ?_) (fun e9 => ?_)
            ·
              have h := (if_neg e9).symm.trans h
              refine y_iinc (lv' := [(0, .ref (G.2.2 + o0)), (1, .int (iv v1)), (2, .int (iv v2)), (3, .int (iv (w32 (v3 + 1))))]) C dX8_isShown_46 3 rfl (by decide) [1, 2, 3, 0] rfl ?_
              refine z_goto 12 C dX8_isShown_49 (by decide) ?_
              exact ih12 (w32 (v3 + 1)) (w32_rng _) (lp_back h hZ12)
            ·
              have h := (if_pos e9).symm.trans h
              refine z_iconst C dX8_isShown_44 ?_
              have h := lp_ret (K := (uX8_isShown_c12 o0 v1 v2 M0)) h hZ12 hc12
              exact y_zretP C dX8_isShown_45 h (by decide)
    exact hL12 _ v3 gv3 hb12_
  unfold uX8_isShown at h
  refine z_aload_n C dX8_isShown_0 0 rfl ?_
  obtain ⟨on10, hon10, h⟩ := bnd h
  refine y_getR C dX8_isShown_1 fX8_30 rfl hon10 ?_
  refine z_iload_n C dX8_isShown_4 1 rfl ?_
  refine z_iconst C dX8_isShown_5 ?_
  obtain ⟨k11, h⟩ := gK_inv h
  obtain ⟨r12, hr12, h⟩ := bnd h
  refine y_cVi (st := []) C dX8_isShown_6 mX8_92 k11 (tX6_at hC on10 v1 0 gv1 (by decide) hr12) rfl rfl (Nat.le_of_ble_eq_true rfl) (by decide) (fun gr12 => ?_)
  refine z_istore_n (lv' := [(0, .ref (G.2.2 + o0)), (1, .int (iv v1)), (2, .int (iv r12))]) C dX8_isShown_9 rfl (by decide) [1, 2, 0] rfl ?_
  refine z_iconst C dX8_isShown_10 ?_
  refine z_istore_n (lv' := [(0, .ref (G.2.2 + o0)), (1, .int (iv v1)), (2, .int (iv r12)), (3, .int (iv 0))]) C dX8_isShown_11 rfl (by decide) [1, 2, 3, 0] rfl ?_
  exact hb12 o0 v1 r12 0  gv1 gr12 (by decide) h

set_option maxHeartbeats 4000000 in
set_option maxRecDepth 100000 in
theorem tX8_coinsBearing {G : Gx} {σ : State} (hC : Cy G σ) (o0 : Nat) (v1 : Int) {M0 : Mm} (gv1 : rg v1) {R : Int} (h : uX8_coinsBearing o0 v1 M0 = some R) : Ct G σ (3) yX8_coinsBearing cX8_coinsBearing 4 (some .int) [.ref (G.2.2 + o0), .int (iv v1)] M0 0 0 (Qi R M0) := by
  refine Ct.of hC.1 (by decide +kernel) (Nat.le_of_ble_eq_true rfl) ?_
  intro p l e R0 s m args below meth c C
  show Jz G σ p l e R0 s m args below meth c 4 0 0 (Qi R M0) M0 0 0 0 [(0, .ref (G.2.2 + o0)), (1, .int (iv v1))] []
  have hb33 : ∀ (v2 : Int), (rg v2) → uX8_coinsBearing_b33 v2 M0 = some R → Jz G σ p l e R0 s m args below meth c 4 0 0 (Qi R M0) M0 0 0 33 [(2, .int (iv v2))] [] := by
    intro v2  gv2 h
    unfold uX8_coinsBearing_b33 at h
    refine z_iload_n C dX8_coinsBearing_33 0 rfl ?_
    exact y_iretP C dX8_coinsBearing_34 h gv2
  have hb4 : ∀ (o0 : Nat) (v1 : Int) (v2 : Int) (v3 : Int), (rg v1) → (rg v2) → (rg v3) → uX8_coinsBearing_b4 o0 v1 v2 v3 M0 = some R → Jz G σ p l e R0 s m args below meth c 4 0 0 (Qi R M0) M0 0 0 4 [(0, .ref (G.2.2 + o0)), (1, .int (iv v1)), (2, .int (iv v2)), (3, .int (iv v3))] [] := by
    intro o0 v1 v2 v3  gv1 gv2 gv3 h
    unfold uX8_coinsBearing_b4 at h
    obtain ⟨b4, hb4_, hc4⟩ := bnd h
    have hL4 : ∀ (n : Nat) (v2 : Int) (v3 : Int), (rg v2) → (rg v3) → lp (uX8_coinsBearing_f4 o0 v1 M0) n (v2, v3) = some b4 → Jz G σ p l e R0 s m args below meth c 4 0 0 (Qi R M0) M0 0 0 4 [(0, .ref (G.2.2 + o0)), (1, .int (iv v1)), (2, .int (iv v2)), (3, .int (iv v3))] [] := by
      intro n; induction n with
      | zero => intro v2 v3 gv2 gv3 hq; exact (lp_0 hq).elim
      | succ n4 ih4 =>
        intro v2 v3 gv2 gv3 hq
        obtain ⟨z4, h, hZ4⟩ := lp_s hq
        have h : uX8_coinsBearing_s4 o0 v1 M0 v2 v3 = some z4 := h
        unfold uX8_coinsBearing_s4 at h
        refine z_iload_n C dX8_coinsBearing_4 3 rfl ?_
        refine z_aload_n C dX8_coinsBearing_5 0 rfl ?_
        obtain ⟨on1, hon1, h⟩ := bnd h
        refine y_getR C dX8_coinsBearing_6 fX8_21 rfl hon1 ?_
        obtain ⟨x2, hx2, h⟩ := bnd h
        refine y_getI C dX8_coinsBearing_9 fX8_82 rfl hx2 (fun gx2 => ?_)
        refine z_icmp_ge 33 C dX8_coinsBearing_12 (by decide) gv3 gx2 (fun e3 => ?_) (fun e3 => ?_)
        ·
          have h := (if_pos e3).symm.trans h
          have h : uX8_coinsBearing_b33 v2 M0 = some R := lp_ex (K := (uX8_coinsBearing_c4 o0 v1 M0)) h hZ4 hc4
          refine z_drop (lv' := [(2, .int (iv v2))]) [2] rfl ?_
          exact hb33 v2  gv2 h
        ·
          have h := (if_neg e3).symm.trans h
          refine z_aload_n C dX8_coinsBearing_15 0 rfl ?_
          refine z_iload_n C dX8_coinsBearing_16 3 rfl ?_
          obtain ⟨k4, h⟩ := gK_inv h
          obtain ⟨r5, hr5, h⟩ := bnd h
          refine y_cVi (st := []) C dX8_coinsBearing_17 mX8_102 k4 (tX8_whoOnTop hC o0 v3 gv3 hr5) rfl rfl (Nat.le_of_ble_eq_true rfl) (by decide) (fun gr5 => ?_)
          refine z_iload_n C dX8_coinsBearing_20 1 rfl ?_
          refine z_icmp_ne 27 C dX8_coinsBearing_21 (by decide) gr5 gv1 (fun e6 => ?_) (fun e6 => ?_)
          ·
            have h := (if_neg e6).symm.trans h
            refine y_iinc (lv' := [(0, .ref (G.2.2 + o0)), (1, .int (iv v1)), (2, .int (iv v2)), (3, .int (iv (w32 (v3 + 1))))]) C dX8_coinsBearing_27 3 rfl (by decide) [1, 2, 3, 0] rfl ?_
            refine z_goto 4 C dX8_coinsBearing_30 (by decide) ?_
            exact ih4 v2 (w32 (v3 + 1)) gv2 (w32_rng _) (lp_back h hZ4)
          ·
            have h := (if_pos e6).symm.trans h
            refine y_iinc (lv' := [(0, .ref (G.2.2 + o0)), (1, .int (iv v1)), (2, .int (iv (w32 (v2 + 1)))), (3, .int (iv v3))]) C dX8_coinsBearing_24 2 rfl (by decide) [1, 2, 0, 3] rfl ?_
            refine y_iinc (lv' := [(0, .ref (G.2.2 + o0)), (1, .int (iv v1)), (2, .int (iv (w32 (v2 + 1)))), (3, .int (iv (w32 (v3 + 1))))]) C dX8_coinsBearing_27 3 rfl (by decide) [1, 2, 3, 0] rfl ?_
            refine z_goto 4 C dX8_coinsBearing_30 (by decide) ?_
            exact ih4 (w32 (v2 + 1)) (w32 (v3 + 1)) (w32_rng _) (w32_rng _) (lp_back h hZ4)
    exact hL4 _ v2 v3 gv2 gv3 hb4_
  unfold uX8_coinsBearing at h
  refine z_iconst C dX8_coinsBearing_0 ?_
  refine z_istore_n (lv' := [(0, .ref (G.2.2 + o0)), (1, .int (iv v1)), (2, .int (iv 0))]) C dX8_coinsBearing_1 rfl (by decide) [1, 2, 0] rfl ?_
  refine z_iconst C dX8_coinsBearing_2 ?_
  refine z_istore_n (lv' := [(0, .ref (G.2.2 + o0)), (1, .int (iv v1)), (2, .int (iv 0)), (3, .int (iv 0))]) C dX8_coinsBearing_3 rfl (by decide) [1, 2, 3, 0] rfl ?_
  exact hb4 o0 v1 0 0  gv1 (by decide) (by decide) h

set_option maxHeartbeats 4000000 in
set_option maxRecDepth 100000 in
theorem tX8_luckNow {G : Gx} {σ : State} (hC : Cy G σ) (o0 : Nat) {M0 : Mm}  {R : Int} (h : uX8_luckNow o0 M0 = some R) : Ct G σ (3) yX8_luckNow cX8_luckNow 4 (some .int) [.ref (G.2.2 + o0)] M0 0 0 (Qi R M0) := by
  refine Ct.of hC.1 (by decide +kernel) (Nat.le_of_ble_eq_true rfl) ?_
  intro p l e R0 s m args below meth c C
  show Jz G σ p l e R0 s m args below meth c 4 0 0 (Qi R M0) M0 0 0 0 [(0, .ref (G.2.2 + o0))] []
  have hb59 : ∀ (v1 : Int), (rg v1) → uX8_luckNow_b59 v1 M0 = some R → Jz G σ p l e R0 s m args below meth c 4 0 0 (Qi R M0) M0 0 0 59 [(1, .int (iv v1))] [] := by
    intro v1  gv1 h
    unfold uX8_luckNow_b59 at h
    refine z_iconst C dX8_luckNow_59 ?_
    refine z_iload_n C dX8_luckNow_60 0 rfl ?_
    refine y_max C dX8_luckNow_61 (gt_3 (i := 225) (by decide +kernel) (by decide +kernel)) (by decide) gv1 (by decide) (Nat.le_of_ble_eq_true rfl) ?_
    exact y_iretP C dX8_luckNow_64 h (max32_rng (by decide) gv1)
  have hb12 : ∀ (o0 : Nat) (v1 : Int) (v2 : Int), (rg v1) → (rg v2) → uX8_luckNow_b12 o0 v1 v2 M0 = some R → Jz G σ p l e R0 s m args below meth c 4 0 0 (Qi R M0) M0 0 0 12 [(0, .ref (G.2.2 + o0)), (1, .int (iv v1)), (2, .int (iv v2))] [] := by
    intro o0 v1 v2  gv1 gv2 h
    unfold uX8_luckNow_b12 at h
    obtain ⟨b12, hb12_, hc12⟩ := bnd h
    have hL12 : ∀ (n : Nat) (v1 : Int) (v2 : Int), (rg v1) → (rg v2) → lp (uX8_luckNow_f12 o0 M0) n (v1, v2) = some b12 → Jz G σ p l e R0 s m args below meth c 4 0 0 (Qi R M0) M0 0 0 12 [(0, .ref (G.2.2 + o0)), (1, .int (iv v1)), (2, .int (iv v2))] [] := by
      intro n; induction n with
      | zero => intro v1 v2 gv1 gv2 hq; exact (lp_0 hq).elim
      | succ n12 ih12 =>
        intro v1 v2 gv1 gv2 hq
        obtain ⟨z12, h, hZ12⟩ := lp_s hq
        have h : uX8_luckNow_s12 o0 M0 v1 v2 = some z12 := h
        unfold uX8_luckNow_s12 at h
        refine z_iload_n C dX8_luckNow_12 2 rfl ?_
        refine z_aload_n C dX8_luckNow_13 0 rfl ?_
        obtain ⟨on1, hon1, h⟩ := bnd h
        refine y_getR C dX8_luckNow_14 fX8_21 rfl hon1 ?_
        obtain ⟨x2, hx2, h⟩ := bnd h
        refine y_getI C dX8_luckNow_17 fX8_82 rfl hx2 (fun gx2 => ?_)
        refine z_icmp_ge 59 C dX8_luckNow_20 (by decide) gv2 gx2 (fun e3 => ?_) (fun e3 => ?_)
        ·
          have h := (if_pos e3).symm.trans h
          have h : uX8_luckNow_b59 v1 M0 = some R := lp_ex (K := (uX8_luckNow_c12 o0 M0)) h hZ12 hc12
          refine z_drop (lv' := [(1, .int (iv v1))]) [1] rfl ?_
          exact hb59 v1  gv1 h
        ·
          have h := (if_neg e3).symm.trans h
          refine z_aload_n C dX8_luckNow_23 0 rfl ?_
          refine z_iload_n C dX8_luckNow_24 2 rfl ?_
          obtain ⟨k4, h⟩ := gK_inv h
          obtain ⟨r5, hr5, h⟩ := bnd h
          refine y_cVi (st := []) C dX8_luckNow_25 mX8_102 k4 (tX8_whoOnTop hC o0 v2 gv2 hr5) rfl rfl (Nat.le_of_ble_eq_true rfl) (by decide) (fun gr5 => ?_)
          refine z_istore_n (lv' := [(0, .ref (G.2.2 + o0)), (1, .int (iv v1)), (2, .int (iv v2)), (3, .int (iv r5))]) C dX8_luckNow_28 rfl (by decide) [1, 2, 3, 0] rfl ?_
          refine z_aload_n C dX8_luckNow_29 0 rfl ?_
          refine z_iload_n C dX8_luckNow_30 3 rfl ?_
          obtain ⟨k6, h⟩ := gK_inv h
          obtain ⟨r7, hr7, h⟩ := bnd h
          refine y_cVb (st := []) C dX8_luckNow_31 mX8_69 k6 (tX8_isWho hC o0 r5 gr5 hr7) rfl rfl (Nat.le_of_ble_eq_true rfl) (by decide) (fun br7 => ?_)
          refine z_if_eq 53 C dX8_luckNow_34 (by decide) (rg01 br7) (fun e8 => ?_) (fun e8 => ?_)
          ·
            have h := (if_pos e8).symm.trans h
            refine y_iinc (lv' := [(0, .ref (G.2.2 + o0)), (1, .int (iv v1)), (2, .int (iv (w32 (v2 + 1)))), (3, .int (iv r5))]) C dX8_luckNow_53 2 rfl (by decide) [1, 2, 0, 3] rfl ?_
            refine z_goto 12 C dX8_luckNow_56 (by decide) ?_
            refine z_drop (lv' := [(0, .ref (G.2.2 + o0)), (1, .int (iv v1)), (2, .int (iv (w32 (v2 + 1))))]) [0, 1, 2] rfl ?_
            exact ih12 v1 (w32 (v2 + 1)) gv1 (w32_rng _) (lp_back h hZ12)
          ·
            have h := (if_neg e8).symm.trans h
            refine z_aload_n C dX8_luckNow_37 0 rfl ?_
            obtain ⟨on9, hon9, h⟩ := bnd h
            refine y_getR C dX8_luckNow_38 fX8_12 rfl hon9 ?_
            obtain ⟨on10, hon10, h⟩ := bnd h
            refine y_getR C dX8_luckNow_41 fX8_109 rfl hon10 ?_
            refine z_iload_n C dX8_luckNow_44 3 rfl ?_
            obtain ⟨x11, hx11, h⟩ := bnd h
            refine y_iald C dX8_luckNow_45 hx11 (fun gx11 => ?_)
            refine z_iconst C dX8_luckNow_46 ?_
            refine z_icmp_ne 53 C dX8_luckNow_47 (by decide) gx11 (by decide) (fun e12 => ?_) (fun e12 => ?_)
            ·
              have h := (if_neg e12).symm.trans h
              refine y_iinc (lv' := [(0, .ref (G.2.2 + o0)), (1, .int (iv v1)), (2, .int (iv (w32 (v2 + 1)))), (3, .int (iv r5))]) C dX8_luckNow_53 2 rfl (by decide) [1, 2, 0, 3] rfl ?_
              refine z_goto 12 C dX8_luckNow_56 (by decide) ?_
              refine z_drop (lv' := [(0, .ref (G.2.2 + o0)), (1, .int (iv v1)), (2, .int (iv (w32 (v2 + 1))))]) [0, 1, 2] rfl ?_
              exact ih12 v1 (w32 (v2 + 1)) gv1 (w32_rng _) (lp_back h hZ12)
            ·
              have h := (if_pos e12).symm.trans h
              refine y_iinc (lv' := [(0, .ref (G.2.2 + o0)), (1, .int (iv (w32 (v1 + (-1))))), (2, .int (iv v2)), (3, .int (iv r5))]) C dX8_luckNow_50 1 rfl (by decide) [1, 0, 2, 3] rfl ?_
              refine y_iinc (lv' := [(0, .ref (G.2.2 + o0)), (1, .int (iv (w32 (v1 + (-1))))), (2, .int (iv (w32 (v2 + 1)))), (3, .int (iv r5))]) C dX8_luckNow_53 2 rfl (by decide) [1, 2, 0, 3] rfl ?_
              refine z_goto 12 C dX8_luckNow_56 (by decide) ?_
              refine z_drop (lv' := [(0, .ref (G.2.2 + o0)), (1, .int (iv (w32 (v1 + (-1))))), (2, .int (iv (w32 (v2 + 1))))]) [0, 1, 2] rfl ?_
              exact ih12 (w32 (v1 + (-1))) (w32 (v2 + 1)) (w32_rng _) (w32_rng _) (lp_back h hZ12)
    exact hL12 _ v1 v2 gv1 gv2 hb12_
  unfold uX8_luckNow at h
  refine z_aload_n C dX8_luckNow_0 0 rfl ?_
  obtain ⟨on13, hon13, h⟩ := bnd h
  refine y_getR C dX8_luckNow_1 fX8_12 rfl hon13 ?_
  obtain ⟨on14, hon14, h⟩ := bnd h
  refine y_getR C dX8_luckNow_4 fX8_106 rfl hon14 ?_
  refine z_iconst C dX8_luckNow_7 ?_
  obtain ⟨x15, hx15, h⟩ := bnd h
  refine y_iald C dX8_luckNow_8 hx15 (fun gx15 => ?_)
  refine z_istore_n (lv' := [(0, .ref (G.2.2 + o0)), (1, .int (iv x15))]) C dX8_luckNow_9 rfl (by decide) [1, 0] rfl ?_
  refine z_iconst C dX8_luckNow_10 ?_
  refine z_istore_n (lv' := [(0, .ref (G.2.2 + o0)), (1, .int (iv x15)), (2, .int (iv 0))]) C dX8_luckNow_11 rfl (by decide) [1, 2, 0] rfl ?_
  exact hb12 o0 x15 0  gx15 (by decide) h

set_option maxHeartbeats 4000000 in
set_option maxRecDepth 100000 in
theorem tX8_worth {G : Gx} {σ : State} (hC : Cy G σ) (o0 : Nat) (v1 : Int) (v2 : Int) (v3 : Int) {M0 : Mm} (gv1 : rg v1) (gv2 : rg v2) (gv3 : rg v3) {R : Int} (h : uX8_worth o0 v1 v2 v3 M0 = some R) : Ct G σ (3) yX8_worth cX8_worth 4 (some .int) [.ref (G.2.2 + o0), .int (iv v1), .int (iv v2), .int (iv v3)] M0 0 0 (Qi R M0) := by
  refine Ct.of hC.1 (by decide +kernel) (Nat.le_of_ble_eq_true rfl) ?_
  intro p l e R0 s m args below meth c C
  show Jz G σ p l e R0 s m args below meth c 4 0 0 (Qi R M0) M0 0 0 0 [(0, .ref (G.2.2 + o0)), (1, .int (iv v1)), (2, .int (iv v2)), (3, .int (iv v3))] []
  unfold uX8_worth at h
  refine z_aload_n C dX8_worth_0 0 rfl ?_
  refine z_iload_n C dX8_worth_1 2 rfl ?_
  obtain ⟨k1, h⟩ := gK_inv h
  obtain ⟨r2, hr2, h⟩ := bnd h
  refine y_cVb (st := []) C dX8_worth_2 mX8_85 k1 (tX8_isCoin hC o0 v2 gv2 hr2) rfl rfl (Nat.le_of_ble_eq_true rfl) (by decide) (fun br2 => ?_)
  refine z_if_ne 10 C dX8_worth_5 (by decide) (rg01 br2) (fun e3 => ?_) (fun e3 => ?_)
  ·
    have h := (if_neg e3).symm.trans h
    refine z_aload_n C dX8_worth_10 0 rfl ?_
    obtain ⟨on4, hon4, h⟩ := bnd h
    refine y_getR C dX8_worth_11 fX8_21 rfl hon4 ?_
    obtain ⟨on5, hon5, h⟩ := bnd h
    refine y_getR C dX8_worth_14 fX8_123 rfl hon5 ?_
    refine z_iload_n C dX8_worth_17 2 rfl ?_
    obtain ⟨x6, hx6, h⟩ := bnd h
    refine y_iald C dX8_worth_18 hx6 (fun gx6 => ?_)
    refine z_aload_n C dX8_worth_19 0 rfl ?_
    refine z_iload_n C dX8_worth_20 1 rfl ?_
    refine z_aload_n C dX8_worth_21 0 rfl ?_
    refine z_iload_n C dX8_worth_22 2 rfl ?_
    obtain ⟨k7, h⟩ := gK_inv h
    obtain ⟨r8, hr8, h⟩ := bnd h
    refine y_cVi (st := [.int (iv v1), .ref (G.2.2 + o0), .int (iv x6)]) C dX8_worth_23 mX8_102 k7 (tX8_whoOnTop hC o0 v2 gv2 hr8) rfl rfl (Nat.le_of_ble_eq_true rfl) (by decide) (fun gr8 => ?_)
    refine z_iload_n C dX8_worth_26 3 rfl ?_
    obtain ⟨k9, h⟩ := gK_inv h
    obtain ⟨r10, hr10, h⟩ := bnd h
    refine y_cVi (st := [.int (iv x6)]) C dX8_worth_27 mX8_126 k9 (tX8_hundredths hC o0 v1 r8 v3 gv1 gr8 gv3 hr10) rfl rfl (Nat.le_of_ble_eq_true rfl) (by decide) (fun gr10 => ?_)
    refine y_imul C dX8_worth_30 ?_
    refine z_bipush C dX8_worth_31 (by decide) ?_
    obtain ⟨x11, hx11, h⟩ := bnd h
    refine y_idiv C dX8_worth_33 hx11 (fun gx11 => ?_)
    exact y_iretP C dX8_worth_34 h gx11
  ·
    have h := (if_pos e3).symm.trans h
    refine z_iconst C dX8_worth_8 ?_
    exact y_iretP C dX8_worth_9 h (by decide)

set_option maxHeartbeats 4000000 in
set_option maxRecDepth 100000 in
theorem tX8_strike {G : Gx} {σ : State} (hC : Cy G σ) (o0 : Nat) (v1 : Int) (v2 : Int) (v3 : Int) (v4 : Int) (v5 : Int) {M0 : Mm} (gv1 : rg v1) (gv2 : rg v2) (gv3 : rg v3) (gv4 : rg v4) (gv5 : rg v5) {R : Mm} (h : uX8_strike o0 v1 v2 v3 v4 v5 M0 = some R) : Ct G σ (3) yX8_strike cX8_strike 7 none [.ref (G.2.2 + o0), .int (iv v1), .int (iv v2), .int (iv v3), .int (iv v4), .int (iv v5)] M0 0 0 (Qv R) := by
  refine Ct.of hC.1 (by decide +kernel) (Nat.le_of_ble_eq_true rfl) ?_
  intro p l e R0 s m args below meth c C
  show Jz G σ p l e R0 s m args below meth c 7 0 0 (Qv R) M0 0 0 0 [(0, .ref (G.2.2 + o0)), (1, .int (iv v1)), (2, .int (iv v2)), (3, .int (iv v3)), (4, .int (iv v4)), (5, .int (iv v5))] []
  unfold uX8_strike at h
  refine z_aload_n C dX8_strike_0 0 rfl ?_
  refine z_iload_n C dX8_strike_1 3 rfl ?_
  obtain ⟨k1, h⟩ := gK_inv h
  obtain ⟨r2, hr2, h⟩ := bnd h
  refine y_cVb (st := []) C dX8_strike_2 mX8_130 k1 (tX8_isMint hC o0 v3 gv3 hr2) rfl rfl (Nat.le_of_ble_eq_true rfl) (by decide) (fun br2 => ?_)
  refine z_if_eq 16 C dX8_strike_5 (by decide) (rg01 br2) (fun e3 => ?_) (fun e3 => ?_)
  ·
    have h := (if_pos e3).symm.trans h
    exact y_retV C dX8_strike_16 h
  ·
    have h := (if_neg e3).symm.trans h
    refine z_aload_n C dX8_strike_8 0 rfl ?_
    obtain ⟨k4, h⟩ := gK_inv h
    obtain ⟨r5, hr5, h⟩ := bnd h
    refine y_cVi (st := []) C dX8_strike_9 mX8_139 k4 (tX8_strokesLeft hC o0  hr5) rfl rfl (Nat.le_of_ble_eq_true rfl) (by decide) (fun gr5 => ?_)
    refine z_iconst C dX8_strike_12 ?_
    refine z_icmp_ge 17 C dX8_strike_13 (by decide) gr5 (by decide) (fun e6 => ?_) (fun e6 => ?_)
    ·
      have h := (if_pos e6).symm.trans h
      refine z_aload_n C dX8_strike_17 0 rfl ?_
      obtain ⟨on7, hon7, h⟩ := bnd h
      refine y_getR C dX8_strike_18 fX8_21 rfl hon7 ?_
      obtain ⟨x8, hx8, h⟩ := bnd h
      refine y_getI C dX8_strike_21 fX8_51 rfl hx8 (fun gx8 => ?_)
      refine z_istore (lv' := [(0, .ref (G.2.2 + o0)), (1, .int (iv v1)), (2, .int (iv v2)), (3, .int (iv v3)), (4, .int (iv v4)), (5, .int (iv v5)), (6, .int (iv x8))]) C dX8_strike_24 (by decide) [1, 2, 3, 4, 5, 6, 0] rfl ?_
      refine z_aload_n C dX8_strike_26 0 rfl ?_
      obtain ⟨on9, hon9, h⟩ := bnd h
      refine y_getR C dX8_strike_27 fX8_30 rfl hon9 ?_
      refine z_iload C dX8_strike_30 6 rfl ?_
      refine z_iconst C dX8_strike_32 ?_
      refine z_iload_n C dX8_strike_33 1 rfl ?_
      obtain ⟨k10, h⟩ := gK_inv h
      obtain ⟨M11, hM11, h⟩ := bnd h
      refine y_cVv (st := []) C dX8_strike_34 mX8_143 k10 (tX6_put hC on9 x8 0 v1 gx8 (by decide) gv1 hM11) rfl rfl (Nat.le_of_ble_eq_true rfl) (by decide) ?_
      refine z_aload_n C dX8_strike_37 0 rfl ?_
      obtain ⟨on12, hon12, h⟩ := bnd h
      refine y_getR C dX8_strike_38 fX8_30 rfl hon12 ?_
      refine z_iload C dX8_strike_41 6 rfl ?_
      refine z_iconst C dX8_strike_43 ?_
      refine z_iload_n C dX8_strike_44 2 rfl ?_
      obtain ⟨k13, h⟩ := gK_inv h
      obtain ⟨M14, hM14, h⟩ := bnd h
      refine y_cVv (st := []) C dX8_strike_45 mX8_143 k13 (tX6_put hC on12 x8 1 v2 gx8 (by decide) gv2 hM14) rfl rfl (Nat.le_of_ble_eq_true rfl) (by decide) ?_
      refine z_aload_n C dX8_strike_48 0 rfl ?_
      obtain ⟨on15, hon15, h⟩ := bnd h
      refine y_getR C dX8_strike_49 fX8_30 rfl hon15 ?_
      refine z_iload C dX8_strike_52 6 rfl ?_
      refine z_iconst C dX8_strike_54 ?_
      refine z_iload_n C dX8_strike_55 3 rfl ?_
      obtain ⟨k16, h⟩ := gK_inv h
      obtain ⟨M17, hM17, h⟩ := bnd h
      refine y_cVv (st := []) C dX8_strike_56 mX8_143 k16 (tX6_put hC on15 x8 2 v3 gx8 (by decide) gv3 hM17) rfl rfl (Nat.le_of_ble_eq_true rfl) (by decide) ?_
      refine z_aload_n C dX8_strike_59 0 rfl ?_
      obtain ⟨on18, hon18, h⟩ := bnd h
      refine y_getR C dX8_strike_60 fX8_30 rfl hon18 ?_
      refine z_iload C dX8_strike_63 6 rfl ?_
      refine z_iconst C dX8_strike_65 ?_
      refine z_aload_n C dX8_strike_66 0 rfl ?_
      obtain ⟨on19, hon19, h⟩ := bnd h
      refine y_getR C dX8_strike_67 fX8_21 rfl hon19 ?_
      obtain ⟨x20, hx20, h⟩ := bnd h
      refine y_getI C dX8_strike_70 fX8_147 rfl hx20 (fun gx20 => ?_)
      obtain ⟨k21, h⟩ := gK_inv h
      obtain ⟨M22, hM22, h⟩ := bnd h
      refine y_cVv (st := []) C dX8_strike_73 mX8_143 k21 (tX6_put hC on18 x8 3 x20 gx8 (by decide) gx20 hM22) rfl rfl (Nat.le_of_ble_eq_true rfl) (by decide) ?_
      refine z_aload_n C dX8_strike_76 0 rfl ?_
      obtain ⟨on23, hon23, h⟩ := bnd h
      refine y_getR C dX8_strike_77 fX8_30 rfl hon23 ?_
      refine z_iload C dX8_strike_80 6 rfl ?_
      refine z_iconst C dX8_strike_82 ?_
      refine z_iload C dX8_strike_83 4 rfl ?_
      obtain ⟨k24, h⟩ := gK_inv h
      obtain ⟨M25, hM25, h⟩ := bnd h
      refine y_cVv (st := []) C dX8_strike_85 mX8_143 k24 (tX6_put hC on23 x8 4 v4 gx8 (by decide) gv4 hM25) rfl rfl (Nat.le_of_ble_eq_true rfl) (by decide) ?_
      refine z_aload_n C dX8_strike_88 0 rfl ?_
      obtain ⟨on26, hon26, h⟩ := bnd h
      refine y_getR C dX8_strike_89 fX8_30 rfl hon26 ?_
      refine z_iload C dX8_strike_92 6 rfl ?_
      refine z_iconst C dX8_strike_94 ?_
      refine z_iload C dX8_strike_95 5 rfl ?_
      obtain ⟨k27, h⟩ := gK_inv h
      obtain ⟨M28, hM28, h⟩ := bnd h
      refine y_cVv (st := []) C dX8_strike_97 mX8_143 k27 (tX6_put hC on26 x8 5 v5 gx8 (by decide) gv5 hM28) rfl rfl (Nat.le_of_ble_eq_true rfl) (by decide) ?_
      refine z_aload_n C dX8_strike_100 0 rfl ?_
      obtain ⟨on29, hon29, h⟩ := bnd h
      refine y_getR C dX8_strike_101 fX8_21 rfl hon29 ?_
      refine z_dup C dX8_strike_104 rfl ?_
      obtain ⟨x30, hx30, h⟩ := bnd h
      refine y_getI C dX8_strike_105 fX8_51 rfl hx30 (fun gx30 => ?_)
      refine z_iconst C dX8_strike_108 ?_
      refine y_iadd C dX8_strike_109 ?_
      obtain ⟨M31, hM31, h⟩ := bnd h
      refine y_putI C dX8_strike_110 fX8_51 rfl rfl rfl rfl hM31 ?_
      refine z_aload_n C dX8_strike_113 0 rfl ?_
      obtain ⟨on32, hon32, h⟩ := bnd h
      refine y_getR C dX8_strike_114 fX8_21 rfl hon32 ?_
      refine z_iload_n C dX8_strike_117 1 rfl ?_
      refine z_iload C dX8_strike_118 6 rfl ?_
      refine z_aload_n C dX8_strike_120 0 rfl ?_
      obtain ⟨on33, hon33, h⟩ := bnd h
      refine y_getR C dX8_strike_121 fX8_12 rfl hon33 ?_
      obtain ⟨on34, hon34, h⟩ := bnd h
      refine y_getR C dX8_strike_124 fX8_136 rfl hon34 ?_
      refine z_iload_n C dX8_strike_127 3 rfl ?_
      obtain ⟨x35, hx35, h⟩ := bnd h
      refine y_iald C dX8_strike_128 hx35 (fun gx35 => ?_)
      refine z_aload_n C dX8_strike_129 0 rfl ?_
      obtain ⟨on36, hon36, h⟩ := bnd h
      refine y_getR C dX8_strike_130 fX8_12 rfl hon36 ?_
      obtain ⟨on37, hon37, h⟩ := bnd h
      refine y_getR C dX8_strike_133 fX8_150 rfl hon37 ?_
      refine z_iload_n C dX8_strike_136 3 rfl ?_
      obtain ⟨x38, hx38, h⟩ := bnd h
      refine y_iald C dX8_strike_137 hx38 (fun gx38 => ?_)
      obtain ⟨k39, h⟩ := gK_inv h
      obtain ⟨M40, hM40, h⟩ := bnd h
      refine y_cVv (st := []) C dX8_strike_138 mX8_153 k39 (tX1_cover hC on32 v1 x8 x35 x38 gv1 gx8 gx35 gx38 hM40) rfl rfl (Nat.le_of_ble_eq_true rfl) (by decide) ?_
      exact y_retV C dX8_strike_141 h
    ·
      have h := (if_neg e6).symm.trans h
      exact y_retV C dX8_strike_16 h
