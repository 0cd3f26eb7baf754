set_option maxHeartbeats 4000000 in
set_option maxRecDepth 100000 in
theorem tX10_market {G : Gx} {σ : State} (hC : Cy G σ) (o0 : Nat) (v1 : Int) (v2 : Int) {M0 : Mm} (gv1 : rg v1) (gv2 : rg v2) {R : Int × Mm} (h : uX10_market o0 v1 v2 M0 = some R) : Ct G σ (5) yX10_market cX10_market 9 (some .int) [.ref (G.2.2 + o0), .int (iv v1), .int (iv v2)] M0 0 0 (Qi R.1 R.2) := by
  refine Ct.of hC.1 (by decide +kernel) (Nat.le_of_ble_eq_true rfl) ?_
  intro p l e R0 s m args below meth c C
  show Jz G σ p l e R0 s m args below meth c 9 0 0 (Qi R.1 R.2) M0 0 0 0 [(0, .ref (G.2.2 + o0)), (1, .int (iv v1)), (2, .int (iv v2))] []
  have hb164 : ∀ (v3 : Int) (M : Mm), (rg v3) → uX10_market_b164 v3 M = some R → Jz G σ p l e R0 s m args below meth c 9 0 0 (Qi R.1 R.2) M 0 0 164 [(3, .int (iv v3))] [] := by
    intro v3 M gv3 h
    unfold uX10_market_b164 at h
    refine z_iload_n C dX10_market_164 0 rfl ?_
    exact y_iretB C dX10_market_165 h gv3
  have hb49 : ∀ (o0 : Nat) (v1 : Int) (v3 : Int) (v4 : Int) (M : Mm), (rg v1) → (rg v3) → (rg v4) → uX10_market_b49 o0 v1 v3 v4 M = some R → Jz G σ p l e R0 s m args below meth c 9 0 0 (Qi R.1 R.2) M 0 0 49 [(0, .ref (G.2.2 + o0)), (1, .int (iv v1)), (3, .int (iv v3)), (4, .int (iv v4))] [] := by
    intro o0 v1 v3 v4 M gv1 gv3 gv4 h
    unfold uX10_market_b49 at h
    obtain ⟨b49, hb49_, hc49⟩ := bnd h
    have hL49 : ∀ (n : Nat) (v3 : Int) (v4 : Int) (M : Mm), (rg v3) → (rg v4) → lp (uX10_market_f49 o0 v1) n (v3, v4, M) = some b49 → Jz G σ p l e R0 s m args below meth c 9 0 0 (Qi R.1 R.2) M 0 0 49 [(0, .ref (G.2.2 + o0)), (1, .int (iv v1)), (3, .int (iv v3)), (4, .int (iv v4))] [] := by
      intro n; induction n with
      | zero => intro v3 v4 M gv3 gv4 hq; exact (lp_0 hq).elim
      | succ n49 ih49 =>
        intro v3 v4 M gv3 gv4 hq
        obtain ⟨z49, h, hZ49⟩ := lp_s hq
        have h : uX10_market_s49 o0 v1 v3 v4 M = some z49 := h
        have hb93 : ∀ (v3 : Int) (v4 : Int) (v5 : Int) (v6 : Int) (M : Mm), (rg v3) → (rg v4) → (rg v5) → (rg v6) → ∀ z49, uX10_market_b93 o0 v1 v3 v4 v5 v6 M = some z49 → lpc (uX10_market_f49 o0 v1) n49 z49 b49 → Jz G σ p l e R0 s m args below meth c 9 0 0 (Qi R.1 R.2) M 0 0 93 [(0, .ref (G.2.2 + o0)), (1, .int (iv v1)), (3, .int (iv v3)), (4, .int (iv v4)), (5, .int (iv v5)), (6, .int (iv v6))] [] := by
          intro v3 v4 v5 v6 M gv3 gv4 gv5 gv6 z49 h hZ49
          unfold uX10_market_b93 at h
          refine z_aload_n C dX10_market_93 0 rfl ?_
          refine z_aload_n C dX10_market_94 0 rfl ?_
          obtain ⟨k1, h⟩ := gK_inv h
          obtain ⟨r2, hr2, h⟩ := bnd h
          refine y_cVi (st := [.ref (G.2.2 + o0)]) C dX10_market_95 mX10_185 k1 (tX10_mints hC o0  hr2) rfl rfl (Nat.le_of_ble_eq_true rfl) (by decide) (fun gr2 => ?_)
          obtain ⟨k3, h⟩ := gK_inv h
          obtain ⟨r4, M5, hr4, h⟩ := bnd2 h
          refine y_cVi (st := []) C dX10_market_98 mX10_359 k3 (tX10_draw hC o0 r2 gr2 hr4) rfl rfl (Nat.le_of_ble_eq_true rfl) (by decide) (fun gr4 => ?_)
          refine z_istore (lv' := [(0, .ref (G.2.2 + o0)), (1, .int (iv v1)), (3, .int (iv v3)), (4, .int (iv v4)), (5, .int (iv v5)), (6, .int (iv v6)), (7, .int (iv r4))]) C dX10_market_101 (by decide) [1, 2, 3, 4, 5, 6, 0] rfl ?_
          refine z_aload_n C dX10_market_103 0 rfl ?_
          refine z_sipush C dX10_market_104 (by decide) ?_
          obtain ⟨k6, h⟩ := gK_inv h
          obtain ⟨r7, M8, hr7, h⟩ := bnd2 h
          refine y_cVi (st := []) C dX10_market_107 mX10_359 k6 (tX10_draw hC o0 200 (by decide) hr7) rfl rfl (Nat.le_of_ble_eq_true rfl) (by decide) (fun gr7 => ?_)
          refine z_iconst C dX10_market_110 ?_
          refine y_iadd C dX10_market_111 ?_
          refine z_istore (lv' := [(0, .ref (G.2.2 + o0)), (1, .int (iv v1)), (3, .int (iv v3)), (4, .int (iv v4)), (5, .int (iv v5)), (6, .int (iv v6)), (7, .int (iv r4)), (8, .int (iv (w32 (r7 + 1))))]) C dX10_market_112 (by decide) [1, 2, 3, 4, 5, 6, 7, 0] rfl ?_
          refine z_aload_n C dX10_market_114 0 rfl ?_
          refine z_iload C dX10_market_115 4 rfl ?_
          refine z_iload C dX10_market_117 5 rfl ?_
          refine z_iload C dX10_market_119 6 rfl ?_
          refine z_iload C dX10_market_121 7 rfl ?_
          obtain ⟨k9, h⟩ := gK_inv h
          obtain ⟨r10, M11, hr10, h⟩ := bnd2 h
          refine y_cVi (st := []) C dX10_market_123 mX10_321 k9 (tX10_layPayment hC o0 v5 v6 r4 (w32 (r7 + 1)) gv5 gv6 gr4 (w32_rng _) hr10) rfl rfl (Nat.le_of_ble_eq_true rfl) (by decide) (fun gr10 => ?_)
          refine z_if_lt 158 C dX10_market_126 (by decide) gr10 (fun e12 => ?_) (fun e12 => ?_)
          ·
            have h := (if_pos e12).symm.trans h
            refine y_iinc (lv' := [(0, .ref (G.2.2 + o0)), (1, .int (iv v1)), (3, .int (iv v3)), (4, .int (iv (w32 (v4 + 1)))), (5, .int (iv v5)), (6, .int (iv v6)), (7, .int (iv r4)), (8, .int (iv (w32 (r7 + 1))))]) C dX10_market_158 3 rfl (by decide) [1, 2, 3, 0, 4, 5, 6, 7] rfl ?_
            refine z_goto 49 C dX10_market_161 (by decide) ?_
            refine z_drop (lv' := [(0, .ref (G.2.2 + o0)), (1, .int (iv v1)), (3, .int (iv v3)), (4, .int (iv (w32 (v4 + 1))))]) [0, 1, 2, 3] rfl ?_
            exact ih49 v3 (w32 (v4 + 1)) M11 gv3 (w32_rng _) (lp_back h hZ49)
          ·
            have h := (if_neg e12).symm.trans h
            refine z_aload_n C dX10_market_129 0 rfl ?_
            refine z_aload_n C dX10_market_130 0 rfl ?_
            obtain ⟨k13, h⟩ := gK_inv h
            obtain ⟨r14, hr14, h⟩ := bnd h
            refine y_cVi (st := [.ref (G.2.2 + o0)]) C dX10_market_131 mX10_328 k13 (tX10_strokesToPay hC o0  hr14) rfl rfl (Nat.le_of_ble_eq_true rfl) (by decide) (fun gr14 => ?_)
            obtain ⟨k15, h⟩ := gK_inv h
            obtain ⟨r16, hr16, h⟩ := bnd h
            refine y_cVb (st := []) C dX10_market_134 mX10_269 k15 (tX10_isFull hC o0 r14 gr14 hr16) rfl rfl (Nat.le_of_ble_eq_true rfl) (by decide) (fun br16 => ?_)
            refine z_if_eq 143 C dX10_market_137 (by decide) (rg01 br16) (fun e17 => ?_) (fun e17 => ?_)
            ·
              have h := (if_pos e17).symm.trans h
              refine z_aload_n C dX10_market_143 0 rfl ?_
              refine z_iload C dX10_market_144 4 rfl ?_
              refine z_iload C dX10_market_146 5 rfl ?_
              refine z_iload C dX10_market_148 6 rfl ?_
              refine z_iload C dX10_market_150 7 rfl ?_
              obtain ⟨k18, h⟩ := gK_inv h
              obtain ⟨M19, hM19, h⟩ := bnd h
              refine y_cVv (st := []) C dX10_market_152 mX10_331 k18 (tX10_pay hC o0 v5 v6 r4 (w32 (r7 + 1)) gv5 gv6 gr4 (w32_rng _) hM19) rfl rfl (Nat.le_of_ble_eq_true rfl) (by decide) ?_
              refine y_iinc (lv' := [(0, .ref (G.2.2 + o0)), (1, .int (iv v1)), (3, .int (iv (w32 (v3 + 1)))), (4, .int (iv v4)), (5, .int (iv v5)), (6, .int (iv v6)), (7, .int (iv r4)), (8, .int (iv (w32 (r7 + 1))))]) C dX10_market_155 2 rfl (by decide) [1, 2, 0, 3, 4, 5, 6, 7] rfl ?_
              refine y_iinc (lv' := [(0, .ref (G.2.2 + o0)), (1, .int (iv v1)), (3, .int (iv (w32 (v3 + 1)))), (4, .int (iv (w32 (v4 + 1)))), (5, .int (iv v5)), (6, .int (iv v6)), (7, .int (iv r4)), (8, .int (iv (w32 (r7 + 1))))]) C dX10_market_158 3 rfl (by decide) [1, 2, 3, 0, 4, 5, 6, 7] rfl ?_
              refine z_goto 49 C dX10_market_161 (by decide) ?_
              refine z_drop (lv' := [(0, .ref (G.2.2 + o0)), (1, .int (iv v1)), (3, .int (iv (w32 (v3 + 1)))), (4, .int (iv (w32 (v4 + 1))))]) [0, 1, 2, 3] rfl ?_
              exact ih49 (w32 (v3 + 1)) (w32 (v4 + 1)) M19 (w32_rng _) (w32_rng _) (lp_back h hZ49)
            ·
              have h := (if_neg e17).symm.trans h
              refine z_goto 158 C dX10_market_140 (by decide) ?_
              refine y_iinc (lv' := [(0, .ref (G.2.2 + o0)), (1, .int (iv v1)), (3, .int (iv v3)), (4, .int (iv (w32 (v4 + 1)))), (5, .int (iv v5)), (6, .int (iv v6)), (7, .int (iv r4)), (8, .int (iv (w32 (r7 + 1))))]) C dX10_market_158 3 rfl (by decide) [1, 2, 3, 0, 4, 5, 6, 7] rfl ?_
              refine z_goto 49 C dX10_market_161 (by decide) ?_
              refine z_drop (lv' := [(0, .ref (G.2.2 + o0)), (1, .int (iv v1)), (3, .int (iv v3)), (4, .int (iv (w32 (v4 + 1))))]) [0, 1, 2, 3] rfl ?_
              exact ih49 v3 (w32 (v4 + 1)) M11 gv3 (w32_rng _) (lp_back h hZ49)
        unfold uX10_market_s49 at h
        refine z_iload C dX10_market_49 3 rfl ?_
        refine z_iload_n C dX10_market_51 1 rfl ?_
        refine z_icmp_ge 164 C dX10_market_52 (by decide) gv4 gv1 (fun e20 => ?_) (fun e20 => ?_)
        ·
          have h := (if_pos e20).symm.trans h
          have h : uX10_market_b164 v3 M = some R := lp_ex (K := (uX10_market_c49 o0 v1)) h hZ49 hc49
          refine z_drop (lv' := [(3, .int (iv v3))]) [2] rfl ?_
          exact hb164 v3 M gv3 h
        ·
          have h := (if_neg e20).symm.trans h
          refine z_aload_n C dX10_market_55 0 rfl ?_
          refine z_aload_n C dX10_market_56 0 rfl ?_
          obtain ⟨k21, h⟩ := gK_inv h
          obtain ⟨r22, hr22, h⟩ := bnd h
          refine y_cVi (st := [.ref (G.2.2 + o0)]) C dX10_market_57 mX10_182 k21 (tX10_people hC o0  hr22) rfl rfl (Nat.le_of_ble_eq_true rfl) (by decide) (fun gr22 => ?_)
          obtain ⟨k23, h⟩ := gK_inv h
          obtain ⟨r24, M25, hr24, h⟩ := bnd2 h
          refine y_cVi (st := []) C dX10_market_60 mX10_359 k23 (tX10_draw hC o0 r22 gr22 hr24) rfl rfl (Nat.le_of_ble_eq_true rfl) (by decide) (fun gr24 => ?_)
          refine z_istore (lv' := [(0, .ref (G.2.2 + o0)), (1, .int (iv v1)), (3, .int (iv v3)), (4, .int (iv v4)), (5, .int (iv r24))]) C dX10_market_63 (by decide) [1, 2, 3, 4, 0] rfl ?_
          refine z_aload_n C dX10_market_65 0 rfl ?_
          refine z_aload_n C dX10_market_66 0 rfl ?_
          obtain ⟨k26, h⟩ := gK_inv h
          obtain ⟨r27, hr27, h⟩ := bnd h
          refine y_cVi (st := [.ref (G.2.2 + o0)]) C dX10_market_67 mX10_182 k26 (tX10_people hC o0  hr27) rfl rfl (Nat.le_of_ble_eq_true rfl) (by decide) (fun gr27 => ?_)
          obtain ⟨k28, h⟩ := gK_inv h
          obtain ⟨r29, M30, hr29, h⟩ := bnd2 h
          refine y_cVi (st := []) C dX10_market_70 mX10_359 k28 (tX10_draw hC o0 r27 gr27 hr29) rfl rfl (Nat.le_of_ble_eq_true rfl) (by decide) (fun gr29 => ?_)
          refine z_istore (lv' := [(0, .ref (G.2.2 + o0)), (1, .int (iv v1)), (3, .int (iv v3)), (4, .int (iv v4)), (5, .int (iv r24)), (6, .int (iv r29))]) C dX10_market_73 (by decide) [1, 2, 3, 4, 5, 0] rfl ?_
          refine z_iload C dX10_market_75 5 rfl ?_
          refine z_iload C dX10_market_77 4 rfl ?_
          refine z_icmp_ne 93 C dX10_market_79 (by decide) gr29 gr24 (fun e31 => ?_) (fun e31 => ?_)
          ·
            have h := (if_neg e31).symm.trans h
            exact hb93 v3 v4 r24 r29 M30 gv3 gv4 gr24 gr29 _ h hZ49
          ·
            have h := (if_pos e31).symm.trans h
            refine z_iload C dX10_market_82 5 rfl ?_
            refine z_iconst C dX10_market_84 ?_
            refine y_iadd C dX10_market_85 ?_
            refine z_aload_n C dX10_market_86 0 rfl ?_
            obtain ⟨k32, h⟩ := gK_inv h
            obtain ⟨r33, hr33, h⟩ := bnd h
            refine y_cVi (st := [.int (iv (w32 (r29 + 1)))]) C dX10_market_87 mX10_182 k32 (tX10_people hC o0  hr33) rfl rfl (Nat.le_of_ble_eq_true rfl) (by decide) (fun gr33 => ?_)
            obtain ⟨x34, hx34, h⟩ := bnd h
            refine y_irem C dX10_market_90 hx34 (fun gx34 => ?_)
            refine z_istore (lv' := [(0, .ref (G.2.2 + o0)), (1, .int (iv v1)), (3, .int (iv v3)), (4, .int (iv v4)), (5, .int (iv r24)), (6, .int (iv x34))]) C dX10_market_91 (by decide) [1, 2, 3, 4, 5, 0] rfl ?_
            exact hb93 v3 v4 r24 x34 M30 gv3 gv4 gr24 gx34 _ h hZ49
    exact hL49 _ v3 v4 M gv3 gv4 hb49_
  unfold uX10_market at h
  refine z_aload_n C dX10_market_0 0 rfl ?_
  refine z_iconst C dX10_market_1 ?_
  obtain ⟨M35, hM35, h⟩ := bnd h
  refine y_putI C dX10_market_2 fX10_83 rfl rfl rfl rfl hM35 ?_
  refine z_aload_n C dX10_market_5 0 rfl ?_
  obtain ⟨k36, h⟩ := gK_inv h
  obtain ⟨M37, hM37, h⟩ := bnd h
  refine y_cVv (st := []) C dX10_market_6 mX10_167 k36 (tX10_lay hC o0  hM37) rfl rfl (Nat.le_of_ble_eq_true rfl) (by decide) ?_
  refine z_iload_n C dX10_market_9 1 rfl ?_
  refine z_iconst C dX10_market_10 ?_
  refine z_bipush C dX10_market_11 (by decide) ?_
  obtain ⟨r38, hr38, h⟩ := bnd h
  refine y_cSb (st := []) C dX10_market_13 mX10_154 (tX10_isIn hC v1 1 50 gv1 (by decide) (by decide) hr38) rfl rfl (Nat.le_of_ble_eq_true rfl) (by decide) (fun br38 => ?_)
  refine z_if_eq 33 C dX10_market_16 (by decide) (rg01 br38) (fun e39 => ?_) (fun e39 => ?_)
  ·
    have h := (if_pos e39).symm.trans h
    refine z_iconst C dX10_market_33 ?_
    exact y_iretB C dX10_market_34 h (by decide)
  ·
    have h := (if_neg e39).symm.trans h
    refine z_aload_n C dX10_market_19 0 rfl ?_
    obtain ⟨k40, h⟩ := gK_inv h
    obtain ⟨r41, hr41, h⟩ := bnd h
    refine y_cVi (st := []) C dX10_market_20 mX10_182 k40 (tX10_people hC o0  hr41) rfl rfl (Nat.le_of_ble_eq_true rfl) (by decide) (fun gr41 => ?_)
    refine z_if_eq 33 C dX10_market_23 (by decide) gr41 (fun e42 => ?_) (fun e42 => ?_)
    ·
      have h := (if_pos e42).symm.trans h
      refine z_iconst C dX10_market_33 ?_
      exact y_iretB C dX10_market_34 h (by decide)
    ·
      have h := (if_neg e42).symm.trans h
      refine z_aload_n C dX10_market_26 0 rfl ?_
      obtain ⟨k43, h⟩ := gK_inv h
      obtain ⟨r44, hr44, h⟩ := bnd h
      refine y_cVi (st := []) C dX10_market_27 mX10_185 k43 (tX10_mints hC o0  hr44) rfl rfl (Nat.le_of_ble_eq_true rfl) (by decide) (fun gr44 => ?_)
      refine z_if_ne 35 C dX10_market_30 (by decide) gr44 (fun e45 => ?_) (fun e45 => ?_)
      ·
        have h := (if_neg e45).symm.trans h
        refine z_aload_n C dX10_market_35 0 rfl ?_
        obtain ⟨k46, h⟩ := gK_inv h
        obtain ⟨M47, hM47, h⟩ := bnd h
        refine y_cVv (st := []) C dX10_market_36 mX10_272 k46 (tX10_snap hC o0  hM47) rfl rfl (Nat.le_of_ble_eq_true rfl) (by decide) ?_
        refine z_aload_n C dX10_market_39 0 rfl ?_
        refine z_iload_n C dX10_market_40 2 rfl ?_
        obtain ⟨M48, hM48, h⟩ := bnd h
        refine y_putI C dX10_market_41 fX10_355 rfl rfl rfl rfl hM48 ?_
        refine z_iconst C dX10_market_44 ?_
        refine z_istore_n (lv' := [(0, .ref (G.2.2 + o0)), (1, .int (iv v1)), (2, .int (iv v2)), (3, .int (iv 0))]) C dX10_market_45 rfl (by decide) [1, 2, 3, 0] rfl ?_
        refine z_iconst C dX10_market_46 ?_
        refine z_istore (lv' := [(0, .ref (G.2.2 + o0)), (1, .int (iv v1)), (2, .int (iv v2)), (3, .int (iv 0)), (4, .int (iv 0))]) C dX10_market_47 (by decide) [1, 2, 3, 4, 0] rfl ?_
        refine z_drop (lv' := [(0, .ref (G.2.2 + o0)), (1, .int (iv v1)), (3, .int (iv 0)), (4, .int (iv 0))]) [0, 1, 3, 4] rfl ?_
        exact hb49 o0 v1 0 0 M48 gv1 (by decide) (by decide) h
      ·
        have h := (if_pos e45).symm.trans h
        refine z_iconst C dX10_market_33 ?_
        exact y_iretB C dX10_market_34 h (by decide)

set_option maxHeartbeats 4000000 in
set_option maxRecDepth 100000 in
theorem tX10_said {G : Gx} {σ : State} (hC : Cy G σ) (o0 : Nat) (v1 : Int) {M0 : Mm} (gv1 : rg v1) {R : Int × Mm} (h : uX10_said o0 v1 M0 = some R) : Ct G σ (833) yX10_said cX10_said 4 (some .int) [.ref (G.2.2 + o0), .int (iv v1)] M0 0 0 (Qi R.1 R.2) := by
  refine Ct.of hC.1 (by decide +kernel) (Nat.le_of_ble_eq_true rfl) ?_
  intro p l e R0 s m args below meth c C
  show Jz G σ p l e R0 s m args below meth c 4 0 0 (Qi R.1 R.2) M0 0 0 0 [(0, .ref (G.2.2 + o0)), (1, .int (iv v1))] []
  have hb67 : ∀ (v1 : Int) (v2 : Int) (M : Mm), (rg v1) → (rg v2) → uX10_said_b67 v1 v2 M = some R → Jz G σ p l e R0 s m args below meth c 4 0 0 (Qi R.1 R.2) M 0 0 67 [(1, .int (iv v1)), (2, .int (iv v2))] [] := by
    intro v1 v2 M gv1 gv2 h
    unfold uX10_said_b67 at h
    refine z_iload_n C dX10_said_67 0 rfl ?_
    refine z_iconst C dX10_said_68 ?_
    refine z_icmp_ne 76 C dX10_said_69 (by decide) gv1 (by decide) (fun e1 => ?_) (fun e1 => ?_)
    ·
      have h := (if_neg e1).symm.trans h
      refine z_iconst C dX10_said_76 ?_
      exact y_iretB C dX10_said_77 h (by decide)
    ·
      have h := (if_pos e1).symm.trans h
      refine z_iload_n C dX10_said_72 1 rfl ?_
      refine z_goto 77 C dX10_said_73 (by decide) ?_
      exact y_iretB C dX10_said_77 h gv2
  have hb25 : ∀ (o0 : Nat) (v1 : Int) (v2 : Int) (v3 : Int) (M : Mm), (rg v1) → (rg v2) → (rg v3) → uX10_said_b25 o0 v1 v2 v3 M = some R → Jz G σ p l e R0 s m args below meth c 4 0 0 (Qi R.1 R.2) M 0 0 25 [(0, .ref (G.2.2 + o0)), (1, .int (iv v1)), (2, .int (iv v2)), (3, .int (iv v3))] [] := by
    intro o0 v1 v2 v3 M gv1 gv2 gv3 h
    unfold uX10_said_b25 at h
    obtain ⟨b25, hb25_, hc25⟩ := bnd h
    have hL25 : ∀ (n : Nat) (v2 : Int) (v3 : Int), (rg v2) → (rg v3) → lp (uX10_said_f25 o0 v1 M) n (v2, v3) = some b25 → Jz G σ p l e R0 s m args below meth c 4 0 0 (Qi R.1 R.2) M 0 0 25 [(0, .ref (G.2.2 + o0)), (1, .int (iv v1)), (2, .int (iv v2)), (3, .int (iv v3))] [] := by
      intro n; induction n with
      | zero => intro v2 v3 gv2 gv3 hq; exact (lp_0 hq).elim
      | succ n25 ih25 =>
        intro v2 v3 gv2 gv3 hq
        obtain ⟨z25, h, hZ25⟩ := lp_s hq
        have h : uX10_said_s25 o0 v1 M v2 v3 = some z25 := h
        unfold uX10_said_s25 at h
        refine z_iload_n C dX10_said_25 3 rfl ?_
        refine z_aload_n C dX10_said_26 0 rfl ?_
        obtain ⟨k2, h⟩ := gK_inv h
        obtain ⟨r3, hr3, h⟩ := bnd h
        refine y_cVi (st := [.int (iv v3)]) C dX10_said_27 mX10_188 k2 (tX10_coins hC o0  hr3) rfl rfl (Nat.le_of_ble_eq_true rfl) (by decide) (fun gr3 => ?_)
        refine z_icmp_ge 67 C dX10_said_30 (by decide) gv3 gr3 (fun e4 => ?_) (fun e4 => ?_)
        ·
          have h := (if_pos e4).symm.trans h
          have h : uX10_said_b67 v1 v2 M = some R := lp_ex (K := (uX10_said_c25 o0 v1 M)) h hZ25 hc25
          refine z_drop (lv' := [(1, .int (iv v1)), (2, .int (iv v2))]) [1, 2] rfl ?_
          exact hb67 v1 v2 M gv1 gv2 h
        ·
          have h := (if_neg e4).symm.trans h
          refine z_aload_n C dX10_said_33 0 rfl ?_
          refine z_aload_n C dX10_said_34 0 rfl ?_
          obtain ⟨on5, hon5, h⟩ := bnd h
          refine y_getR C dX10_said_35 fX10_13 rfl hon5 ?_
          refine z_bipush C dX10_said_38 (by decide) ?_
          obtain ⟨x6, hx6, h⟩ := bnd h
          refine y_iald C dX10_said_40 hx6 (fun gx6 => ?_)
          refine z_iload_n C dX10_said_41 3 rfl ?_
          obtain ⟨k7, h⟩ := gK_inv h
          obtain ⟨r8, hr8, h⟩ := bnd h
          refine y_cVb (st := []) C dX10_said_42 mX10_398 k7 (tX10_holds hC 64 o0 x6 v3 gx6 gv3 hr8) rfl rfl (Nat.le_of_ble_eq_true rfl) (by omega) (fun br8 => ?_)
          refine z_if_ne 51 C dX10_said_45 (by decide) (rg01 br8) (fun e9 => ?_) (fun e9 => ?_)
          ·
            have h := (if_neg e9).symm.trans h
            refine z_iload_n C dX10_said_51 2 rfl ?_
            refine z_iload_n C dX10_said_52 1 rfl ?_
            refine z_icmp_ne 58 C dX10_said_53 (by decide) gv2 gv1 (fun e10 => ?_) (fun e10 => ?_)
            ·
              have h := (if_neg e10).symm.trans h
              refine y_iinc (lv' := [(0, .ref (G.2.2 + o0)), (1, .int (iv v1)), (2, .int (iv (w32 (v2 + 1)))), (3, .int (iv v3))]) C dX10_said_58 2 rfl (by decide) [1, 2, 0, 3] rfl ?_
              refine y_iinc (lv' := [(0, .ref (G.2.2 + o0)), (1, .int (iv v1)), (2, .int (iv (w32 (v2 + 1)))), (3, .int (iv (w32 (v3 + 1))))]) C dX10_said_61 3 rfl (by decide) [1, 2, 3, 0] rfl ?_
              refine z_goto 25 C dX10_said_64 (by decide) ?_
              exact ih25 (w32 (v2 + 1)) (w32 (v3 + 1)) (w32_rng _) (w32_rng _) (lp_back h hZ25)
            ·
              have h := (if_pos e10).symm.trans h
              refine z_iload_n C dX10_said_56 3 rfl ?_
              have h := lp_ret (K := (uX10_said_c25 o0 v1 M)) h hZ25 hc25
              exact y_iretB C dX10_said_57 h gv3
          ·
            have h := (if_pos e9).symm.trans h
            refine z_goto 61 C dX10_said_48 (by decide) ?_
            refine y_iinc (lv' := [(0, .ref (G.2.2 + o0)), (1, .int (iv v1)), (2, .int (iv v2)), (3, .int (iv (w32 (v3 + 1))))]) C dX10_said_61 3 rfl (by decide) [1, 2, 3, 0] rfl ?_
            refine z_goto 25 C dX10_said_64 (by decide) ?_
            exact ih25 v2 (w32 (v3 + 1)) gv2 (w32_rng _) (lp_back h hZ25)
    exact hL25 _ v2 v3 gv2 gv3 hb25_
  unfold uX10_said at h
  refine z_aload_n C dX10_said_0 0 rfl ?_
  refine z_iconst C dX10_said_1 ?_
  obtain ⟨M11, hM11, h⟩ := bnd h
  refine y_putI C dX10_said_2 fX10_83 rfl rfl rfl rfl hM11 ?_
  refine z_aload_n C dX10_said_5 0 rfl ?_
  obtain ⟨k12, h⟩ := gK_inv h
  obtain ⟨M13, hM13, h⟩ := bnd h
  refine y_cVv (st := []) C dX10_said_6 mX10_167 k12 (tX10_lay hC o0  hM13) rfl rfl (Nat.le_of_ble_eq_true rfl) (by decide) ?_
  refine z_aload_n C dX10_said_9 0 rfl ?_
  obtain ⟨on14, hon14, h⟩ := bnd h
  refine y_getR C dX10_said_10 fX10_13 rfl hon14 ?_
  refine z_bipush C dX10_said_13 (by decide) ?_
  obtain ⟨x15, hx15, h⟩ := bnd h
  refine y_iald C dX10_said_15 hx15 (fun gx15 => ?_)
  refine z_if_ne 21 C dX10_said_16 (by decide) gx15 (fun e16 => ?_) (fun e16 => ?_)
  ·
    have h := (if_neg e16).symm.trans h
    refine z_iconst C dX10_said_21 ?_
    refine z_istore_n (lv' := [(0, .ref (G.2.2 + o0)), (1, .int (iv v1)), (2, .int (iv 0))]) C dX10_said_22 rfl (by decide) [1, 2, 0] rfl ?_
    refine z_iconst C dX10_said_23 ?_
    refine z_istore_n (lv' := [(0, .ref (G.2.2 + o0)), (1, .int (iv v1)), (2, .int (iv 0)), (3, .int (iv 0))]) C dX10_said_24 rfl (by decide) [1, 2, 3, 0] rfl ?_
    exact hb25 o0 v1 0 0 M13 gv1 (by decide) (by decide) h
  ·
    have h := (if_pos e16).symm.trans h
    refine z_iconst C dX10_said_19 ?_
    exact y_iretB C dX10_said_20 h (by decide)

set_option maxHeartbeats 4000000 in
set_option maxRecDepth 100000 in
theorem tX10_readAnd {G : Gx} {σ : State} (hC : Cy G σ) (dd : Nat) (rc : Nat → Mm → Option (Int × Mm)) (hrc : ∀ (o0 : Nat) {M : Mm}, ∀ {R : Int × Mm}, rc o0 M = some R → Ct G σ dd yX10_readOne cX10_readOne 4 (some .boolean) [.ref (G.2.2 + o0)] M 0 0 (Qb R.1 R.2)) (o0 : Nat) {M0 : Mm}  {R : Int × Mm} (h : uX10_readAnd rc o0 M0 = some R) : Ct G σ (dd + 13) yX10_readAnd cX10_readAnd 2 (some .boolean) [.ref (G.2.2 + o0)] M0 0 0 (Qb R.1 R.2) := by
  refine Ct.of hC.1 (by decide +kernel) (Nat.le_of_ble_eq_true rfl) ?_
  intro p l e R0 s m args below meth c C
  show Jz G σ p l e R0 s m args below meth c 2 0 0 (Qb R.1 R.2) M0 0 0 0 [(0, .ref (G.2.2 + o0))] []
  have hb51 : ∀ (o0 : Nat) (v1 : Int) (M : Mm), (rg v1) → uX10_readAnd_b51 rc o0 v1 M = some R → Jz G σ p l e R0 s m args below meth c 2 0 0 (Qb R.1 R.2) M 0 0 51 [(0, .ref (G.2.2 + o0)), (1, .int (iv v1))] [] := by
    intro o0 v1 M gv1 h
    unfold uX10_readAnd_b51 at h
    refine z_aload_n C dX10_readAnd_51 0 rfl ?_
    refine z_iload_n C dX10_readAnd_52 1 rfl ?_
    obtain ⟨M1, hM1, h⟩ := bnd h
    refine y_putI C dX10_readAnd_53 fX10_368 rfl rfl rfl rfl hM1 ?_
    refine z_iconst C dX10_readAnd_56 ?_
    exact y_zretB C dX10_readAnd_57 h (by decide)
  have hb14 : ∀ (o0 : Nat) (v1 : Int) (M : Mm), (rg v1) → uX10_readAnd_b14 rc o0 v1 M = some R → Jz G σ p l e R0 s m args below meth c 2 0 0 (Qb R.1 R.2) M 0 0 14 [(0, .ref (G.2.2 + o0)), (1, .int (iv v1))] [] := by
    intro o0 v1 M gv1 h
    unfold uX10_readAnd_b14 at h
    obtain ⟨b14, hb14_, hc14⟩ := bnd h
    have hL14 : ∀ (n : Nat) (v1 : Int) (M : Mm), (rg v1) → lp (uX10_readAnd_f14 rc o0) n (v1, M) = some b14 → Jz G σ p l e R0 s m args below meth c 2 0 0 (Qb R.1 R.2) M 0 0 14 [(0, .ref (G.2.2 + o0)), (1, .int (iv v1))] [] := by
      intro n; induction n with
      | zero => intro v1 M gv1 hq; exact (lp_0 hq).elim
      | succ n14 ih14 =>
        intro v1 M gv1 hq
        obtain ⟨z14, h, hZ14⟩ := lp_s hq
        have h : uX10_readAnd_s14 rc o0 v1 M = some z14 := h
        unfold uX10_readAnd_s14 at h
        refine z_aload_n C dX10_readAnd_14 0 rfl ?_
        refine z_bipush C dX10_readAnd_15 (by decide) ?_
        obtain ⟨k2, h⟩ := gK_inv h
        obtain ⟨r3, hr3, h⟩ := bnd h
        refine y_cVb (st := []) C dX10_readAnd_17 mX10_202 k2 (tX10_isWord hC o0 10 (by decide) hr3) rfl rfl (Nat.le_of_ble_eq_true rfl) (by omega) (fun br3 => ?_)
        refine z_if_eq 51 C dX10_readAnd_20 (by decide) (rg01 br3) (fun e4 => ?_) (fun e4 => ?_)
        ·
          have h := (if_pos e4).symm.trans h
          have h : uX10_readAnd_b51 rc o0 v1 M = some R := lp_ex (K := (uX10_readAnd_c14 rc o0)) h hZ14 hc14
          exact hb51 o0 v1 M gv1 h
        ·
          have h := (if_neg e4).symm.trans h
          refine z_aload_n C dX10_readAnd_23 0 rfl ?_
          obtain ⟨k5, h⟩ := gK_inv h
          obtain ⟨M6, hM6, h⟩ := bnd h
          refine y_cVv (st := []) C dX10_readAnd_24 mX10_161 k5 (tX10_go hC o0  hM6) rfl rfl (Nat.le_of_ble_eq_true rfl) (by omega) ?_
          refine z_aload_n C dX10_readAnd_27 0 rfl ?_
          obtain ⟨k7, h⟩ := gK_inv h
          obtain ⟨r8, M9, hr8, h⟩ := bnd2 h
          refine y_cVb (st := []) C dX10_readAnd_28 mX10_374 k7 (hrc o0  hr8) rfl rfl (Nat.le_of_ble_eq_true rfl) (by omega) (fun br8 => ?_)
          refine z_if_ne 36 C dX10_readAnd_31 (by decide) (rg01 br8) (fun e10 => ?_) (fun e10 => ?_)
          ·
            have h := (if_neg e10).symm.trans h
            refine z_aload_n C dX10_readAnd_36 0 rfl ?_
            refine z_iconst C dX10_readAnd_37 ?_
            refine z_iload_n C dX10_readAnd_38 1 rfl ?_
            refine z_aload_n C dX10_readAnd_39 0 rfl ?_
            obtain ⟨x11, hx11, h⟩ := bnd h
            refine y_getI C dX10_readAnd_40 fX10_368 rfl hx11 (fun gx11 => ?_)
            refine z_iconst C dX10_readAnd_43 ?_
            obtain ⟨k12, h⟩ := gK_inv h
            obtain ⟨r13, M14, hr13, h⟩ := bnd2 h
            refine y_cVi (st := []) C dX10_readAnd_44 mX10_371 k12 (tX10_lays hC o0 2 v1 x11 0 (by decide) gv1 gx11 (by decide) hr13) rfl rfl (Nat.le_of_ble_eq_true rfl) (by omega) (fun gr13 => ?_)
            refine z_istore_n (lv' := [(0, .ref (G.2.2 + o0)), (1, .int (iv r13))]) C dX10_readAnd_47 rfl (by decide) [1, 0] rfl ?_
            refine z_goto 14 C dX10_readAnd_48 (by decide) ?_
            exact ih14 r13 M14 gr13 (lp_back h hZ14)
          ·
            have h := (if_pos e10).symm.trans h
            refine z_iconst C dX10_readAnd_34 ?_
            have h := lp_ret (K := (uX10_readAnd_c14 rc o0)) h hZ14 hc14
            exact y_zretB C dX10_readAnd_35 h (by decide)
    exact hL14 _ v1 M gv1 hb14_
  unfold uX10_readAnd at h
  refine z_aload_n C dX10_readAnd_0 0 rfl ?_
  obtain ⟨k15, h⟩ := gK_inv h
  obtain ⟨r16, M17, hr16, h⟩ := bnd2 h
  refine y_cVb (st := []) C dX10_readAnd_1 mX10_374 k15 (hrc o0  hr16) rfl rfl (Nat.le_of_ble_eq_true rfl) (by omega) (fun br16 => ?_)
  refine z_if_ne 9 C dX10_readAnd_4 (by decide) (rg01 br16) (fun e18 => ?_) (fun e18 => ?_)
  ·
    have h := (if_neg e18).symm.trans h
    refine z_aload_n C dX10_readAnd_9 0 rfl ?_
    obtain ⟨x19, hx19, h⟩ := bnd h
    refine y_getI C dX10_readAnd_10 fX10_368 rfl hx19 (fun gx19 => ?_)
    refine z_istore_n (lv' := [(0, .ref (G.2.2 + o0)), (1, .int (iv x19))]) C dX10_readAnd_13 rfl (by decide) [1, 0] rfl ?_
    exact hb14 o0 x19 M17 gx19 h
  ·
    have h := (if_pos e18).symm.trans h
    refine z_iconst C dX10_readAnd_7 ?_
    exact y_zretB C dX10_readAnd_8 h (by decide)

set_option maxHeartbeats 4000000 in
set_option maxRecDepth 100000 in
theorem tX10_readOr {G : Gx} {σ : State} (hC : Cy G σ) (dd : Nat) (rc : Nat → Mm → Option (Int × Mm)) (hrc : ∀ (o0 : Nat) {M : Mm}, ∀ {R : Int × Mm}, rc o0 M = some R → Ct G σ dd yX10_readOne cX10_readOne 4 (some .boolean) [.ref (G.2.2 + o0)] M 0 0 (Qb R.1 R.2)) (o0 : Nat) {M0 : Mm}  {R : Int × Mm} (h : uX10_readOr rc o0 M0 = some R) : Ct G σ (dd + 26) yX10_readOr cX10_readOr 2 (some .boolean) [.ref (G.2.2 + o0)] M0 0 0 (Qb R.1 R.2) := by
  refine Ct.of hC.1 (by decide +kernel) (Nat.le_of_ble_eq_true rfl) ?_
  intro p l e R0 s m args below meth c C
  show Jz G σ p l e R0 s m args below meth c 2 0 0 (Qb R.1 R.2) M0 0 0 0 [(0, .ref (G.2.2 + o0))] []
  have hb51 : ∀ (o0 : Nat) (v1 : Int) (M : Mm), (rg v1) → uX10_readOr_b51 rc o0 v1 M = some R → Jz G σ p l e R0 s m args below meth c 2 0 0 (Qb R.1 R.2) M 0 0 51 [(0, .ref (G.2.2 + o0)), (1, .int (iv v1))] [] := by
    intro o0 v1 M gv1 h
    unfold uX10_readOr_b51 at h
    refine z_aload_n C dX10_readOr_51 0 rfl ?_
    refine z_iload_n C dX10_readOr_52 1 rfl ?_
    obtain ⟨M1, hM1, h⟩ := bnd h
    refine y_putI C dX10_readOr_53 fX10_368 rfl rfl rfl rfl hM1 ?_
    refine z_iconst C dX10_readOr_56 ?_
    exact y_zretB C dX10_readOr_57 h (by decide)
  have hb14 : ∀ (o0 : Nat) (v1 : Int) (M : Mm), (rg v1) → uX10_readOr_b14 rc o0 v1 M = some R → Jz G σ p l e R0 s m args below meth c 2 0 0 (Qb R.1 R.2) M 0 0 14 [(0, .ref (G.2.2 + o0)), (1, .int (iv v1))] [] := by
    intro o0 v1 M gv1 h
    unfold uX10_readOr_b14 at h
    obtain ⟨b14, hb14_, hc14⟩ := bnd h
    have hL14 : ∀ (n : Nat) (v1 : Int) (M : Mm), (rg v1) → lp (uX10_readOr_f14 rc o0) n (v1, M) = some b14 → Jz G σ p l e R0 s m args below meth c 2 0 0 (Qb R.1 R.2) M 0 0 14 [(0, .ref (G.2.2 + o0)), (1, .int (iv v1))] [] := by
      intro n; induction n with
      | zero => intro v1 M gv1 hq; exact (lp_0 hq).elim
      | succ n14 ih14 =>
        intro v1 M gv1 hq
        obtain ⟨z14, h, hZ14⟩ := lp_s hq
        have h : uX10_readOr_s14 rc o0 v1 M = some z14 := h
        unfold uX10_readOr_s14 at h
        refine z_aload_n C dX10_readOr_14 0 rfl ?_
        refine z_bipush C dX10_readOr_15 (by decide) ?_
        obtain ⟨k2, h⟩ := gK_inv h
        obtain ⟨r3, hr3, h⟩ := bnd h
        refine y_cVb (st := []) C dX10_readOr_17 mX10_202 k2 (tX10_isWord hC o0 9 (by decide) hr3) rfl rfl (Nat.le_of_ble_eq_true rfl) (by omega) (fun br3 => ?_)
        refine z_if_eq 51 C dX10_readOr_20 (by decide) (rg01 br3) (fun e4 => ?_) (fun e4 => ?_)
        ·
          have h := (if_pos e4).symm.trans h
          have h : uX10_readOr_b51 rc o0 v1 M = some R := lp_ex (K := (uX10_readOr_c14 rc o0)) h hZ14 hc14
          exact hb51 o0 v1 M gv1 h
        ·
          have h := (if_neg e4).symm.trans h
          refine z_aload_n C dX10_readOr_23 0 rfl ?_
          obtain ⟨k5, h⟩ := gK_inv h
          obtain ⟨M6, hM6, h⟩ := bnd h
          refine y_cVv (st := []) C dX10_readOr_24 mX10_161 k5 (tX10_go hC o0  hM6) rfl rfl (Nat.le_of_ble_eq_true rfl) (by omega) ?_
          refine z_aload_n C dX10_readOr_27 0 rfl ?_
          obtain ⟨k7, h⟩ := gK_inv h
          obtain ⟨r8, M9, hr8, h⟩ := bnd2 h
          refine y_cVb (st := []) C dX10_readOr_28 mX10_365 k7 (tX10_readAnd hC dd rc hrc o0  hr8) rfl rfl (Nat.le_of_ble_eq_true rfl) (by omega) (fun br8 => ?_)
          refine z_if_ne 36 C dX10_readOr_31 (by decide) (rg01 br8) (fun e10 => ?_) (fun e10 => ?_)
          ·
            have h := (if_neg e10).symm.trans h
            refine z_aload_n C dX10_readOr_36 0 rfl ?_
            refine z_iconst C dX10_readOr_37 ?_
            refine z_iload_n C dX10_readOr_38 1 rfl ?_
            refine z_aload_n C dX10_readOr_39 0 rfl ?_
            obtain ⟨x11, hx11, h⟩ := bnd h
            refine y_getI C dX10_readOr_40 fX10_368 rfl hx11 (fun gx11 => ?_)
            refine z_iconst C dX10_readOr_43 ?_
            obtain ⟨k12, h⟩ := gK_inv h
            obtain ⟨r13, M14, hr13, h⟩ := bnd2 h
            refine y_cVi (st := []) C dX10_readOr_44 mX10_371 k12 (tX10_lays hC o0 3 v1 x11 0 (by decide) gv1 gx11 (by decide) hr13) rfl rfl (Nat.le_of_ble_eq_true rfl) (by omega) (fun gr13 => ?_)
            refine z_istore_n (lv' := [(0, .ref (G.2.2 + o0)), (1, .int (iv r13))]) C dX10_readOr_47 rfl (by decide) [1, 0] rfl ?_
            refine z_goto 14 C dX10_readOr_48 (by decide) ?_
            exact ih14 r13 M14 gr13 (lp_back h hZ14)
          ·
            have h := (if_pos e10).symm.trans h
            refine z_iconst C dX10_readOr_34 ?_
            have h := lp_ret (K := (uX10_readOr_c14 rc o0)) h hZ14 hc14
            exact y_zretB C dX10_readOr_35 h (by decide)
    exact hL14 _ v1 M gv1 hb14_
  unfold uX10_readOr at h
  refine z_aload_n C dX10_readOr_0 0 rfl ?_
  obtain ⟨k15, h⟩ := gK_inv h
  obtain ⟨r16, M17, hr16, h⟩ := bnd2 h
  refine y_cVb (st := []) C dX10_readOr_1 mX10_365 k15 (tX10_readAnd hC dd rc hrc o0  hr16) rfl rfl (Nat.le_of_ble_eq_true rfl) (by omega) (fun br16 => ?_)
  refine z_if_ne 9 C dX10_readOr_4 (by decide) (rg01 br16) (fun e18 => ?_) (fun e18 => ?_)
  ·
    have h := (if_neg e18).symm.trans h
    refine z_aload_n C dX10_readOr_9 0 rfl ?_
    obtain ⟨x19, hx19, h⟩ := bnd h
    refine y_getI C dX10_readOr_10 fX10_368 rfl hx19 (fun gx19 => ?_)
    refine z_istore_n (lv' := [(0, .ref (G.2.2 + o0)), (1, .int (iv x19))]) C dX10_readOr_13 rfl (by decide) [1, 0] rfl ?_
    exact hb14 o0 x19 M17 gx19 h
  ·
    have h := (if_pos e18).symm.trans h
    refine z_iconst C dX10_readOr_7 ?_
    exact y_zretB C dX10_readOr_8 h (by decide)

set_option maxHeartbeats 4000000 in
set_option maxRecDepth 100000 in
theorem tX10_readBracket {G : Gx} {σ : State} (hC : Cy G σ) (dd : Nat) (rc : Nat → Mm → Option (Int × Mm)) (hrc : ∀ (o0 : Nat) {M : Mm}, ∀ {R : Int × Mm}, rc o0 M = some R → Ct G σ dd yX10_readOne cX10_readOne 4 (some .boolean) [.ref (G.2.2 + o0)] M 0 0 (Qb R.1 R.2)) (o0 : Nat) {M0 : Mm}  {R : Int × Mm} (h : uX10_readBracket rc o0 M0 = some R) : Ct G σ (dd + 39) yX10_readBracket cX10_readBracket 1 (some .boolean) [.ref (G.2.2 + o0)] M0 0 0 (Qb R.1 R.2) := by
  refine Ct.of hC.1 (by decide +kernel) (Nat.le_of_ble_eq_true rfl) ?_
  intro p l e R0 s m args below meth c C
  show Jz G σ p l e R0 s m args below meth c 1 0 0 (Qb R.1 R.2) M0 0 0 0 [(0, .ref (G.2.2 + o0))] []
  unfold uX10_readBracket at h
  refine z_aload_n C dX10_readBracket_0 0 rfl ?_
  obtain ⟨k1, h⟩ := gK_inv h
  obtain ⟨r2, M3, hr2, h⟩ := bnd2 h
  refine y_cVb (st := []) C dX10_readBracket_1 mX10_395 k1 (tX10_readOr hC dd rc hrc o0  hr2) rfl rfl (Nat.le_of_ble_eq_true rfl) (by omega) (fun br2 => ?_)
  refine z_if_ne 9 C dX10_readBracket_4 (by decide) (rg01 br2) (fun e4 => ?_) (fun e4 => ?_)
  ·
    have h := (if_neg e4).symm.trans h
    refine z_aload_n C dX10_readBracket_9 0 rfl ?_
    refine z_bipush C dX10_readBracket_10 (by decide) ?_
    obtain ⟨k5, h⟩ := gK_inv h
    obtain ⟨r6, hr6, h⟩ := bnd h
    refine y_cVb (st := []) C dX10_readBracket_12 mX10_164 k5 (tX10_isSign hC o0 41 (by decide) hr6) rfl rfl (Nat.le_of_ble_eq_true rfl) (by omega) (fun br6 => ?_)
    refine z_if_ne 24 C dX10_readBracket_15 (by decide) (rg01 br6) (fun e7 => ?_) (fun e7 => ?_)
    ·
      have h := (if_neg e7).symm.trans h
      refine z_aload_n C dX10_readBracket_24 0 rfl ?_
      obtain ⟨k8, h⟩ := gK_inv h
      obtain ⟨M9, hM9, h⟩ := bnd h
      refine y_cVv (st := []) C dX10_readBracket_25 mX10_161 k8 (tX10_go hC o0  hM9) rfl rfl (Nat.le_of_ble_eq_true rfl) (by omega) ?_
      refine z_iconst C dX10_readBracket_28 ?_
      exact y_zretB C dX10_readBracket_29 h (by decide)
    ·
      have h := (if_pos e7).symm.trans h
      refine z_aload_n C dX10_readBracket_18 0 rfl ?_
      refine z_iconst C dX10_readBracket_19 ?_
      obtain ⟨k10, h⟩ := gK_inv h
      obtain ⟨r11, M12, hr11, h⟩ := bnd2 h
      refine y_cVb (st := []) C dX10_readBracket_20 mX10_151 k10 (tX10_bad hC o0 1 (by decide) hr11) rfl rfl (Nat.le_of_ble_eq_true rfl) (by omega) (fun br11 => ?_)
      exact y_zretB C dX10_readBracket_23 h br11
  ·
    have h := (if_pos e4).symm.trans h
    refine z_iconst C dX10_readBracket_7 ?_
    exact y_zretB C dX10_readBracket_8 h (by decide)

set_option maxHeartbeats 4000000 in
set_option maxRecDepth 100000 in
theorem tX10_readNot {G : Gx} {σ : State} (hC : Cy G σ) (dd : Nat) (rc : Nat → Mm → Option (Int × Mm)) (hrc : ∀ (o0 : Nat) {M : Mm}, ∀ {R : Int × Mm}, rc o0 M = some R → Ct G σ dd yX10_readOne cX10_readOne 4 (some .boolean) [.ref (G.2.2 + o0)] M 0 0 (Qb R.1 R.2)) (o0 : Nat) {M0 : Mm}  {R : Int × Mm} (h : uX10_readNot rc o0 M0 = some R) : Ct G σ (dd + 52) yX10_readNot cX10_readNot 1 (some .boolean) [.ref (G.2.2 + o0)] M0 0 0 (Qb R.1 R.2) := by
  refine Ct.of hC.1 (by decide +kernel) (Nat.le_of_ble_eq_true rfl) ?_
  intro p l e R0 s m args below meth c C
  show Jz G σ p l e R0 s m args below meth c 1 0 0 (Qb R.1 R.2) M0 0 0 0 [(0, .ref (G.2.2 + o0))] []
  unfold uX10_readNot at h
  refine z_aload_n C dX10_readNot_0 0 rfl ?_
  obtain ⟨k1, h⟩ := gK_inv h
  obtain ⟨r2, M3, hr2, h⟩ := bnd2 h
  refine y_cVb (st := []) C dX10_readNot_1 mX10_374 k1 (hrc o0  hr2) rfl rfl (Nat.le_of_ble_eq_true rfl) (by omega) (fun br2 => ?_)
  refine z_if_ne 9 C dX10_readNot_4 (by decide) (rg01 br2) (fun e4 => ?_) (fun e4 => ?_)
  ·
    have h := (if_neg e4).symm.trans h
    refine z_aload_n C dX10_readNot_9 0 rfl ?_
    refine z_aload_n C dX10_readNot_10 0 rfl ?_
    refine z_iconst C dX10_readNot_11 ?_
    refine z_aload_n C dX10_readNot_12 0 rfl ?_
    obtain ⟨x5, hx5, h⟩ := bnd h
    refine y_getI C dX10_readNot_13 fX10_368 rfl hx5 (fun gx5 => ?_)
    refine z_iconst C dX10_readNot_16 ?_
    refine z_iconst C dX10_readNot_17 ?_
    obtain ⟨k6, h⟩ := gK_inv h
    obtain ⟨r7, M8, hr7, h⟩ := bnd2 h
    refine y_cVi (st := [.ref (G.2.2 + o0)]) C dX10_readNot_18 mX10_371 k6 (tX10_lays hC o0 1 x5 0 0 (by decide) gx5 (by decide) (by decide) hr7) rfl rfl (Nat.le_of_ble_eq_true rfl) (by omega) (fun gr7 => ?_)
    obtain ⟨M9, hM9, h⟩ := bnd h
    refine y_putI C dX10_readNot_21 fX10_368 rfl rfl rfl rfl hM9 ?_
    refine z_iconst C dX10_readNot_24 ?_
    exact y_zretB C dX10_readNot_25 h (by decide)
  ·
    have h := (if_pos e4).symm.trans h
    refine z_iconst C dX10_readNot_7 ?_
    exact y_zretB C dX10_readNot_8 h (by decide)

set_option maxHeartbeats 4000000 in
set_option maxRecDepth 100000 in
theorem tX10_readOne_o {G : Gx} {σ : State} (hC : Cy G σ) (dd : Nat) (rc : Nat → Mm → Option (Int × Mm)) (hrc : ∀ (o0 : Nat) {M : Mm}, ∀ {R : Int × Mm}, rc o0 M = some R → Ct G σ dd yX10_readOne cX10_readOne 4 (some .boolean) [.ref (G.2.2 + o0)] M 0 0 (Qb R.1 R.2)) (o0 : Nat) {M0 : Mm}  {R : Int × Mm} (h : uX10_readOne_o rc o0 M0 = some R) : Ct G σ (dd + 65) yX10_readOne cX10_readOne 4 (some .boolean) [.ref (G.2.2 + o0)] M0 0 0 (Qb R.1 R.2) := by
  refine Ct.of hC.1 (by decide +kernel) (Nat.le_of_ble_eq_true rfl) ?_
  intro p l e R0 s m args below meth c C
  show Jz G σ p l e R0 s m args below meth c 4 0 0 (Qb R.1 R.2) M0 0 0 0 [(0, .ref (G.2.2 + o0))] []
  have hb163 : ∀ (o0 : Nat) (v3 : Int) (M : Mm), (v3 = 0 ∨ v3 = 1) → uX10_readOne_b163 rc o0 v3 M = some R → Jz G σ p l e R0 s m args below meth c 4 0 0 (Qb R.1 R.2) M 0 0 163 [(0, .ref (G.2.2 + o0)), (3, .int (iv v3))] [] := by
    intro o0 v3 M bv3 h
    unfold uX10_readOne_b163 at h
    refine z_aload_n C dX10_readOne_163 0 rfl ?_
    refine z_dup C dX10_readOne_164 rfl ?_
    obtain ⟨x1, hx1, h⟩ := bnd h
    refine y_getI C dX10_readOne_165 fX10_380 rfl hx1 (fun gx1 => ?_)
    refine z_iconst C dX10_readOne_168 ?_
    refine y_isub C dX10_readOne_169 ?_
    obtain ⟨M2, hM2, h⟩ := bnd h
    refine y_putI C dX10_readOne_170 fX10_380 rfl rfl rfl rfl hM2 ?_
    refine z_iload_n C dX10_readOne_173 1 rfl ?_
    exact y_zretB C dX10_readOne_174 h bv3
  have hb162 : ∀ (o0 : Nat) (vs0 : Int) (M : Mm), (vs0 = 0 ∨ vs0 = 1) → uX10_readOne_b162 rc o0 vs0 M = some R → Jz G σ p l e R0 s m args below meth c 4 0 0 (Qb R.1 R.2) M 0 0 162 [(0, .ref (G.2.2 + o0))] [.int (iv vs0)] := by
    intro o0 vs0 M bvs0 h
    unfold uX10_readOne_b162 at h
    refine z_istore_n (lv' := [(0, .ref (G.2.2 + o0)), (3, .int (iv vs0))]) C dX10_readOne_162 rfl (by decide) [1, 0] rfl ?_
    exact hb163 o0 vs0 M bvs0 h
  have hb64 : ∀ (o0 : Nat) (M : Mm), uX10_readOne_b64 rc o0 M = some R → Jz G σ p l e R0 s m args below meth c 4 0 0 (Qb R.1 R.2) M 0 0 64 [(0, .ref (G.2.2 + o0))] [] := by
    intro o0 M  h
    unfold uX10_readOne_b64 at h
    refine z_aload_n C dX10_readOne_64 0 rfl ?_
    refine z_iconst C dX10_readOne_65 ?_
    obtain ⟨k3, h⟩ := gK_inv h
    obtain ⟨r4, M5, hr4, h⟩ := bnd2 h
    refine y_cVb (st := []) C dX10_readOne_66 mX10_151 k3 (tX10_bad hC o0 4 (by decide) hr4) rfl rfl (Nat.le_of_ble_eq_true rfl) (by omega) (fun br4 => ?_)
    exact y_zretB C dX10_readOne_69 h br4
  have hb46 : ∀ (o0 : Nat) (v1 : Int) (v2 : Int) (M : Mm), (v1 = 0 ∨ v1 = 1) → (rg v2) → uX10_readOne_b46 rc o0 v1 v2 M = some R → Jz G σ p l e R0 s m args below meth c 4 0 0 (Qb R.1 R.2) M 0 0 46 [(0, .ref (G.2.2 + o0)), (1, .int (iv v1)), (2, .int (iv v2))] [] := by
    intro o0 v1 v2 M bv1 gv2 h
    unfold uX10_readOne_b46 at h
    refine z_aload_n C dX10_readOne_46 0 rfl ?_
    obtain ⟨x6, hx6, h⟩ := bnd h
    refine y_getI C dX10_readOne_47 fX10_377 rfl hx6 (fun gx6 => ?_)
    refine z_bipush C dX10_readOne_50 (by decide) ?_
    refine z_icmp_eq 64 C dX10_readOne_52 (by decide) gx6 (by decide) (fun e7 => ?_) (fun e7 => ?_)
    ·
      have h := (if_pos e7).symm.trans h
      refine z_drop (lv' := [(0, .ref (G.2.2 + o0))]) [0] rfl ?_
      exact hb64 o0 M  h
    ·
      have h := (if_neg e7).symm.trans h
      refine z_aload_n C dX10_readOne_55 0 rfl ?_
      obtain ⟨x8, hx8, h⟩ := bnd h
      refine y_getI C dX10_readOne_56 fX10_380 rfl hx8 (fun gx8 => ?_)
      refine z_bipush C dX10_readOne_59 (by decide) ?_
      refine z_icmp_ne 70 C dX10_readOne_61 (by decide) gx8 (by decide) (fun e9 => ?_) (fun e9 => ?_)
      ·
        have h := (if_neg e9).symm.trans h
        refine z_aload_n C dX10_readOne_70 0 rfl ?_
        refine z_dup C dX10_readOne_71 rfl ?_
        obtain ⟨x10, hx10, h⟩ := bnd h
        refine y_getI C dX10_readOne_72 fX10_377 rfl hx10 (fun gx10 => ?_)
        refine z_iconst C dX10_readOne_75 ?_
        refine y_iadd C dX10_readOne_76 ?_
        obtain ⟨M11, hM11, h⟩ := bnd h
        refine y_putI C dX10_readOne_77 fX10_377 rfl rfl rfl rfl hM11 ?_
        refine z_aload_n C dX10_readOne_80 0 rfl ?_
        refine z_dup C dX10_readOne_81 rfl ?_
        obtain ⟨x12, hx12, h⟩ := bnd h
        refine y_getI C dX10_readOne_82 fX10_380 rfl hx12 (fun gx12 => ?_)
        refine z_iconst C dX10_readOne_85 ?_
        refine y_iadd C dX10_readOne_86 ?_
        obtain ⟨M13, hM13, h⟩ := bnd h
        refine y_putI C dX10_readOne_87 fX10_380 rfl rfl rfl rfl hM13 ?_
        refine z_aload_n C dX10_readOne_90 0 rfl ?_
        obtain ⟨k14, h⟩ := gK_inv h
        obtain ⟨M15, hM15, h⟩ := bnd h
        refine y_cVv (st := []) C dX10_readOne_91 mX10_161 k14 (tX10_go hC o0  hM15) rfl rfl (Nat.le_of_ble_eq_true rfl) (by omega) ?_
        refine z_iconst C dX10_readOne_94 ?_
        refine z_istore_n (lv' := [(0, .ref (G.2.2 + o0)), (1, .int (iv v1)), (2, .int (iv v2)), (3, .int (iv 1))]) C dX10_readOne_95 rfl (by decide) [1, 2, 3, 0] rfl ?_
        refine z_iload_n C dX10_readOne_96 1 rfl ?_
        refine z_if_eq 108 C dX10_readOne_97 (by decide) (rg01 bv1) (fun e16 => ?_) (fun e16 => ?_)
        ·
          have h := (if_pos e16).symm.trans h
          refine z_iload_n C dX10_readOne_108 2 rfl ?_
          refine z_bipush C dX10_readOne_109 (by decide) ?_
          refine z_icmp_ne 122 C dX10_readOne_111 (by decide) gv2 (by decide) (fun e17 => ?_) (fun e17 => ?_)
          ·
            have h := (if_neg e17).symm.trans h
            refine z_iload_n C dX10_readOne_122 2 rfl ?_
            refine z_bipush C dX10_readOne_123 (by decide) ?_
            refine z_icmp_ne 143 C dX10_readOne_125 (by decide) gv2 (by decide) (fun e18 => ?_) (fun e18 => ?_)
            ·
              have h := (if_neg e18).symm.trans h
              refine z_iload_n C dX10_readOne_143 2 rfl ?_
              refine z_bipush C dX10_readOne_144 (by decide) ?_
              refine z_icmp_ge 157 C dX10_readOne_146 (by decide) gv2 (by decide) (fun e19 => ?_) (fun e19 => ?_)
              ·
                have h := (if_pos e19).symm.trans h
                refine z_aload_n C dX10_readOne_157 0 rfl ?_
                refine z_iload_n C dX10_readOne_158 2 rfl ?_
                obtain ⟨k20, h⟩ := gK_inv h
                obtain ⟨r21, M22, hr21, h⟩ := bnd2 h
                refine y_cVb (st := []) C dX10_readOne_159 mX10_392 k20 (tX10_readCompare hC o0 v2 gv2 hr21) rfl rfl (Nat.le_of_ble_eq_true rfl) (by omega) (fun br21 => ?_)
                refine z_drop (lv' := [(0, .ref (G.2.2 + o0))]) [0] rfl ?_
                exact hb162 o0 r21 M22 br21 h
              ·
                have h := (if_neg e19).symm.trans h
                refine z_aload_n C dX10_readOne_149 0 rfl ?_
                refine z_iload_n C dX10_readOne_150 2 rfl ?_
                obtain ⟨k23, h⟩ := gK_inv h
                obtain ⟨r24, M25, hr24, h⟩ := bnd2 h
                refine y_cVb (st := []) C dX10_readOne_151 mX10_389 k23 (tX10_readNamed hC o0 v2 gv2 hr24) rfl rfl (Nat.le_of_ble_eq_true rfl) (by omega) (fun br24 => ?_)
                refine z_goto 162 C dX10_readOne_154 (by decide) ?_
                refine z_drop (lv' := [(0, .ref (G.2.2 + o0))]) [0] rfl ?_
                exact hb162 o0 r24 M25 br24 h
            ·
              have h := (if_pos e18).symm.trans h
              refine z_aload_n C dX10_readOne_128 0 rfl ?_
              refine z_aload_n C dX10_readOne_129 0 rfl ?_
              refine z_iconst C dX10_readOne_130 ?_
              refine z_iconst C dX10_readOne_131 ?_
              refine z_iconst C dX10_readOne_132 ?_
              refine z_iconst C dX10_readOne_133 ?_
              obtain ⟨k26, h⟩ := gK_inv h
              obtain ⟨r27, M28, hr27, h⟩ := bnd2 h
              refine y_cVi (st := [.ref (G.2.2 + o0)]) C dX10_readOne_134 mX10_371 k26 (tX10_lays hC o0 4 0 0 0 (by decide) (by decide) (by decide) (by decide) hr27) rfl rfl (Nat.le_of_ble_eq_true rfl) (by omega) (fun gr27 => ?_)
              obtain ⟨M29, hM29, h⟩ := bnd h
              refine y_putI C dX10_readOne_137 fX10_368 rfl rfl rfl rfl hM29 ?_
              refine z_goto 163 C dX10_readOne_140 (by decide) ?_
              refine z_drop (lv' := [(0, .ref (G.2.2 + o0)), (3, .int (iv 1))]) [0, 3] rfl ?_
              exact hb163 o0 1 M29 (by decide) h
          ·
            have h := (if_pos e17).symm.trans h
            refine z_aload_n C dX10_readOne_114 0 rfl ?_
            obtain ⟨k30, h⟩ := gK_inv h
            obtain ⟨r31, M32, hr31, h⟩ := bnd2 h
            refine y_cVb (st := []) C dX10_readOne_115 mX10_386 k30 (tX10_readNot hC dd rc hrc o0  hr31) rfl rfl (Nat.le_of_ble_eq_true rfl) (by omega) (fun br31 => ?_)
            refine z_istore_n (lv' := [(0, .ref (G.2.2 + o0)), (1, .int (iv v1)), (2, .int (iv v2)), (3, .int (iv r31))]) C dX10_readOne_118 rfl (by decide) [1, 2, 3, 0] rfl ?_
            refine z_goto 163 C dX10_readOne_119 (by decide) ?_
            refine z_drop (lv' := [(0, .ref (G.2.2 + o0)), (3, .int (iv r31))]) [0, 3] rfl ?_
            exact hb163 o0 r31 M32 br31 h
        ·
          have h := (if_neg e16).symm.trans h
          refine z_aload_n C dX10_readOne_100 0 rfl ?_
          obtain ⟨k33, h⟩ := gK_inv h
          obtain ⟨r34, M35, hr34, h⟩ := bnd2 h
          refine y_cVb (st := []) C dX10_readOne_101 mX10_383 k33 (tX10_readBracket hC dd rc hrc o0  hr34) rfl rfl (Nat.le_of_ble_eq_true rfl) (by omega) (fun br34 => ?_)
          refine z_istore_n (lv' := [(0, .ref (G.2.2 + o0)), (1, .int (iv v1)), (2, .int (iv v2)), (3, .int (iv r34))]) C dX10_readOne_104 rfl (by decide) [1, 2, 3, 0] rfl ?_
          refine z_goto 163 C dX10_readOne_105 (by decide) ?_
          refine z_drop (lv' := [(0, .ref (G.2.2 + o0)), (3, .int (iv r34))]) [0, 3] rfl ?_
          exact hb163 o0 r34 M35 br34 h
      ·
        have h := (if_pos e9).symm.trans h
        refine z_drop (lv' := [(0, .ref (G.2.2 + o0))]) [0] rfl ?_
        exact hb64 o0 M  h
  have hb30 : ∀ (o0 : Nat) (v1 : Int) (v2 : Int) (M : Mm), (v1 = 0 ∨ v1 = 1) → (rg v2) → uX10_readOne_b30 rc o0 v1 v2 M = some R → Jz G σ p l e R0 s m args below meth c 4 0 0 (Qb R.1 R.2) M 0 0 30 [(0, .ref (G.2.2 + o0)), (1, .int (iv v1)), (2, .int (iv v2))] [] := by
    intro o0 v1 v2 M bv1 gv2 h
    unfold uX10_readOne_b30 at h
    refine z_iload_n C dX10_readOne_30 1 rfl ?_
    refine z_if_ne 46 C dX10_readOne_31 (by decide) (rg01 bv1) (fun e36 => ?_) (fun e36 => ?_)
    ·
      have h := (if_neg e36).symm.trans h
      exact hb46 o0 v1 v2 M bv1 gv2 h
    ·
      have h := (if_pos e36).symm.trans h
      refine z_iload_n C dX10_readOne_34 2 rfl ?_
      refine z_bipush C dX10_readOne_35 (by decide) ?_
      refine z_icmp_le 46 C dX10_readOne_37 (by decide) gv2 (by decide) (fun e37 => ?_) (fun e37 => ?_)
      ·
        have h := (if_pos e37).symm.trans h
        exact hb46 o0 v1 v2 M bv1 gv2 h
      ·
        have h := (if_neg e37).symm.trans h
        refine z_aload_n C dX10_readOne_40 0 rfl ?_
        refine z_iconst C dX10_readOne_41 ?_
        obtain ⟨k38, h⟩ := gK_inv h
        obtain ⟨r39, M40, hr39, h⟩ := bnd2 h
        refine y_cVb (st := []) C dX10_readOne_42 mX10_151 k38 (tX10_bad hC o0 1 (by decide) hr39) rfl rfl (Nat.le_of_ble_eq_true rfl) (by omega) (fun br39 => ?_)
        exact y_zretB C dX10_readOne_45 h br39
  have hb10 : ∀ (o0 : Nat) (v1 : Int) (v2 : Int) (M : Mm), (v1 = 0 ∨ v1 = 1) → (rg v2) → uX10_readOne_b10 rc o0 v1 v2 M = some R → Jz G σ p l e R0 s m args below meth c 4 0 0 (Qb R.1 R.2) M 0 0 10 [(0, .ref (G.2.2 + o0)), (1, .int (iv v1)), (2, .int (iv v2))] [] := by
    intro o0 v1 v2 M bv1 gv2 h
    unfold uX10_readOne_b10 at h
    obtain ⟨b10, hb10_, hc10⟩ := bnd h
    have hL10 : ∀ (n : Nat) (v2 : Int), (rg v2) → lp (uX10_readOne_f10 rc o0 v1 M) n v2 = some b10 → Jz G σ p l e R0 s m args below meth c 4 0 0 (Qb R.1 R.2) M 0 0 10 [(0, .ref (G.2.2 + o0)), (1, .int (iv v1)), (2, .int (iv v2))] [] := by
      intro n; induction n with
      | zero => intro v2 gv2 hq; exact (lp_0 hq).elim
      | succ n10 ih10 =>
        intro v2 gv2 hq
        obtain ⟨z10, h, hZ10⟩ := lp_s hq
        have h : uX10_readOne_s10 rc o0 v1 M v2 = some z10 := h
        unfold uX10_readOne_s10 at h
        refine z_iload_n C dX10_readOne_10 2 rfl ?_
        refine z_bipush C dX10_readOne_11 (by decide) ?_
        refine z_icmp_gt 30 C dX10_readOne_13 (by decide) gv2 (by decide) (fun e41 => ?_) (fun e41 => ?_)
        ·
          have h := (if_pos e41).symm.trans h
          have h : uX10_readOne_b30 rc o0 v1 v2 M = some R := lp_ex (K := (uX10_readOne_c10 rc o0 v1 M)) h hZ10 hc10
          exact hb30 o0 v1 v2 M bv1 gv2 h
        ·
          have h := (if_neg e41).symm.trans h
          refine z_aload_n C dX10_readOne_16 0 rfl ?_
          refine z_iload_n C dX10_readOne_17 2 rfl ?_
          obtain ⟨k42, h⟩ := gK_inv h
          obtain ⟨r43, hr43, h⟩ := bnd h
          refine y_cVb (st := []) C dX10_readOne_18 mX10_202 k42 (tX10_isWord hC o0 v2 gv2 hr43) rfl rfl (Nat.le_of_ble_eq_true rfl) (by omega) (fun br43 => ?_)
          refine z_if_ne 30 C dX10_readOne_21 (by decide) (rg01 br43) (fun e44 => ?_) (fun e44 => ?_)
          ·
            have h := (if_neg e44).symm.trans h
            have h : uX10_readOne_b30 rc o0 v1 v2 M = some R := lp_ex (K := (uX10_readOne_c10 rc o0 v1 M)) h hZ10 hc10
            exact hb30 o0 v1 v2 M bv1 gv2 h
          ·
            have h := (if_pos e44).symm.trans h
            refine y_iinc (lv' := [(0, .ref (G.2.2 + o0)), (1, .int (iv v1)), (2, .int (iv (w32 (v2 + 1))))]) C dX10_readOne_24 2 rfl (by decide) [1, 2, 0] rfl ?_
            refine z_goto 10 C dX10_readOne_27 (by decide) ?_
            exact ih10 (w32 (v2 + 1)) (w32_rng _) (lp_back h hZ10)
    exact hL10 _ v2 gv2 hb10_
  unfold uX10_readOne_o at h
  refine z_aload_n C dX10_readOne_0 0 rfl ?_
  refine z_bipush C dX10_readOne_1 (by decide) ?_
  obtain ⟨k45, h⟩ := gK_inv h
  obtain ⟨r46, hr46, h⟩ := bnd h
  refine y_cVb (st := []) C dX10_readOne_3 mX10_164 k45 (tX10_isSign hC o0 40 (by decide) hr46) rfl rfl (Nat.le_of_ble_eq_true rfl) (by omega) (fun br46 => ?_)
  refine z_istore_n (lv' := [(0, .ref (G.2.2 + o0)), (1, .int (iv r46))]) C dX10_readOne_6 rfl (by decide) [1, 0] rfl ?_
  refine z_bipush C dX10_readOne_7 (by decide) ?_
  refine z_istore_n (lv' := [(0, .ref (G.2.2 + o0)), (1, .int (iv r46)), (2, .int (iv 11))]) C dX10_readOne_9 rfl (by decide) [1, 2, 0] rfl ?_
  exact hb10 o0 r46 11 M0 br46 (by decide) h

theorem tX10_readOne {G : Gx} {σ : State} (hC : Cy G σ) (n : Nat) : ∀ (o0 : Nat) {M : Mm}, ∀ {R : Int × Mm}, uX10_readOne n o0 M = some R → Ct G σ (65 * n) yX10_readOne cX10_readOne 4 (some .boolean) [.ref (G.2.2 + o0)] M 0 0 (Qb R.1 R.2) := by
  induction n with
  | zero => intro o0 M  R h; cases h
  | succ n ih =>
    intro o0 M  R h
    have := tX10_readOne_o hC (65 * n) (uX10_readOne n) ih o0  h
    rw [show 65 * (n + 1) = 65 * n + 65 from by omega]; exact this
