set_option maxHeartbeats 4000000 in
set_option maxRecDepth 100000 in
theorem tX10_count {G : Gx} {σ : State} (hC : Cy G σ) (o0 : Nat) (v1 : Int) {M0 : Mm} (gv1 : rg v1) {R : Int × Mm} (h : uX10_count o0 v1 M0 = some R) : Ct G σ (3) yX10_count cX10_count 2 (some .int) [.ref (G.2.2 + o0), .int (iv v1)] M0 0 0 (Qi R.1 R.2) := by
  refine Ct.of hC.1 (by decide +kernel) (Nat.le_of_ble_eq_true rfl) ?_
  intro p l e R0 s m args below meth c C
  show Jz G σ p l e R0 s m args below meth c 2 0 0 (Qi R.1 R.2) M0 0 0 0 [(0, .ref (G.2.2 + o0)), (1, .int (iv v1))] []
  unfold uX10_count at h
  refine z_aload_n C dX10_count_0 0 rfl ?_
  refine z_iconst C dX10_count_1 ?_
  obtain ⟨M1, hM1, h⟩ := bnd h
  refine y_putI C dX10_count_2 fX10_83 rfl rfl rfl rfl hM1 ?_
  refine z_aload_n C dX10_count_5 0 rfl ?_
  obtain ⟨k2, h⟩ := gK_inv h
  obtain ⟨M3, hM3, h⟩ := bnd h
  refine y_cVv (st := []) C dX10_count_6 mX10_167 k2 (tX10_lay hC o0  hM3) rfl rfl (Nat.le_of_ble_eq_true rfl) (by decide) ?_
  refine z_iload_n C dX10_count_9 1 rfl ?_
  refine z_bipush C dX10_count_10 (by decide) ?_
  refine z_icmp_ne 20 C dX10_count_12 (by decide) gv1 (by decide) (fun e4 => ?_) (fun e4 => ?_)
  ·
    have h := (if_neg e4).symm.trans h
    refine z_iload_n C dX10_count_20 1 rfl ?_
    refine z_iconst C dX10_count_21 ?_
    refine z_bipush C dX10_count_22 (by decide) ?_
    obtain ⟨r5, hr5, h⟩ := bnd h
    refine y_cSb (st := []) C dX10_count_24 mX10_154 (tX10_isIn hC v1 0 10 gv1 (by decide) (by decide) hr5) rfl rfl (Nat.le_of_ble_eq_true rfl) (by decide) (fun br5 => ?_)
    refine z_if_ne 32 C dX10_count_27 (by decide) (rg01 br5) (fun e6 => ?_) (fun e6 => ?_)
    ·
      have h := (if_neg e6).symm.trans h
      refine z_iload_n C dX10_count_32 1 rfl ?_
      refine z_bipush C dX10_count_33 (by decide) ?_
      refine z_icmp_ge 47 C dX10_count_35 (by decide) gv1 (by decide) (fun e7 => ?_) (fun e7 => ?_)
      ·
        have h := (if_pos e7).symm.trans h
        refine z_iload_n C dX10_count_47 1 rfl ?_
        refine z_bipush C dX10_count_48 (by decide) ?_
        refine z_icmp_ne 60 C dX10_count_50 (by decide) gv1 (by decide) (fun e8 => ?_) (fun e8 => ?_)
        ·
          have h := (if_neg e8).symm.trans h
          refine z_iload_n C dX10_count_60 1 rfl ?_
          refine z_bipush C dX10_count_61 (by decide) ?_
          refine z_icmp_ne 76 C dX10_count_63 (by decide) gv1 (by decide) (fun e9 => ?_) (fun e9 => ?_)
          ·
            have h := (if_neg e9).symm.trans h
            refine z_iload_n C dX10_count_76 1 rfl ?_
            refine z_bipush C dX10_count_77 (by decide) ?_
            refine z_icmp_ne 92 C dX10_count_79 (by decide) gv1 (by decide) (fun e10 => ?_) (fun e10 => ?_)
            ·
              have h := (if_neg e10).symm.trans h
              refine z_aload_n C dX10_count_92 0 rfl ?_
              obtain ⟨on11, hon11, h⟩ := bnd h
              refine y_getR C dX10_count_93 fX10_13 rfl hon11 ?_
              refine z_bipush C dX10_count_96 (by decide) ?_
              obtain ⟨x12, hx12, h⟩ := bnd h
              refine y_iald C dX10_count_98 hx12 (fun gx12 => ?_)
              exact y_iretB C dX10_count_99 h gx12
            ·
              have h := (if_pos e10).symm.trans h
              refine z_aload_n C dX10_count_82 0 rfl ?_
              obtain ⟨on13, hon13, h⟩ := bnd h
              refine y_getR C dX10_count_83 fX10_13 rfl hon13 ?_
              refine z_bipush C dX10_count_86 (by decide) ?_
              obtain ⟨x14, hx14, h⟩ := bnd h
              refine y_iald C dX10_count_88 hx14 (fun gx14 => ?_)
              refine z_goto 99 C dX10_count_89 (by decide) ?_
              exact y_iretB C dX10_count_99 h gx14
          ·
            have h := (if_pos e9).symm.trans h
            refine z_aload_n C dX10_count_66 0 rfl ?_
            obtain ⟨on15, hon15, h⟩ := bnd h
            refine y_getR C dX10_count_67 fX10_13 rfl hon15 ?_
            refine z_bipush C dX10_count_70 (by decide) ?_
            obtain ⟨x16, hx16, h⟩ := bnd h
            refine y_iald C dX10_count_72 hx16 (fun gx16 => ?_)
            refine z_goto 99 C dX10_count_73 (by decide) ?_
            exact y_iretB C dX10_count_99 h gx16
        ·
          have h := (if_pos e8).symm.trans h
          refine z_aload_n C dX10_count_53 0 rfl ?_
          obtain ⟨k17, h⟩ := gK_inv h
          obtain ⟨r18, hr18, h⟩ := bnd h
          refine y_cVi (st := []) C dX10_count_54 mX10_188 k17 (tX10_coins hC o0  hr18) rfl rfl (Nat.le_of_ble_eq_true rfl) (by decide) (fun gr18 => ?_)
          refine z_goto 99 C dX10_count_57 (by decide) ?_
          exact y_iretB C dX10_count_99 h gr18
      ·
        have h := (if_neg e7).symm.trans h
        refine z_aload_n C dX10_count_38 0 rfl ?_
        obtain ⟨on19, hon19, h⟩ := bnd h
        refine y_getR C dX10_count_39 fX10_13 rfl hon19 ?_
        refine z_iload_n C dX10_count_42 1 rfl ?_
        obtain ⟨x20, hx20, h⟩ := bnd h
        refine y_iald C dX10_count_43 hx20 (fun gx20 => ?_)
        refine z_goto 99 C dX10_count_44 (by decide) ?_
        exact y_iretB C dX10_count_99 h gx20
    ·
      have h := (if_pos e6).symm.trans h
      refine z_iconst C dX10_count_30 ?_
      exact y_iretB C dX10_count_31 h (by decide)
  ·
    have h := (if_pos e4).symm.trans h
    refine z_aload_n C dX10_count_15 0 rfl ?_
    obtain ⟨x21, hx21, h⟩ := bnd h
    refine y_getI C dX10_count_16 fX10_86 rfl hx21 (fun gx21 => ?_)
    exact y_iretB C dX10_count_19 h gx21

set_option maxHeartbeats 4000000 in
set_option maxRecDepth 100000 in
theorem tX10_tryRows_o {G : Gx} {σ : State} (hC : Cy G σ) (dd : Nat) (rc : Nat → Int → Int → Int → Int → Mm → Option (Mm)) (hrc : ∀ (o0 : Nat) (v1 : Int) (v2 : Int) (v3 : Int) (v4 : Int) {M : Mm}, rg v1 → rg v2 → rg v3 → rg v4 → ∀ {R : Mm}, rc o0 v1 v2 v3 v4 M = some R → Ct G σ dd yX10_tryRows cX10_tryRows 8 none [.ref (G.2.2 + o0), .int (iv v1), .int (iv v2), .int (iv v3), .int (iv v4)] M 0 0 (Qv R)) (o0 : Nat) (v1 : Int) (v2 : Int) (v3 : Int) (v4 : Int) {M0 : Mm} (gv1 : rg v1) (gv2 : rg v2) (gv3 : rg v3) (gv4 : rg v4) {R : Mm} (h : uX10_tryRows_o rc o0 v1 v2 v3 v4 M0 = some R) : Ct G σ (dd + 13) yX10_tryRows cX10_tryRows 8 none [.ref (G.2.2 + o0), .int (iv v1), .int (iv v2), .int (iv v3), .int (iv v4)] M0 0 0 (Qv R) := by
  refine Ct.of hC.1 (by decide +kernel) (Nat.le_of_ble_eq_true rfl) ?_
  intro p l e R0 s m args below meth c C
  show Jz G σ p l e R0 s m args below meth c 8 0 0 (Qv R) M0 0 0 0 [(0, .ref (G.2.2 + o0)), (1, .int (iv v1)), (2, .int (iv v2)), (3, .int (iv v3)), (4, .int (iv v4))] []
  have hb194 : ∀  (M : Mm), uX10_tryRows_b194 rc M = some R → Jz G σ p l e R0 s m args below meth c 8 0 0 (Qv R) M 0 0 194 [] [] := by
    intro  M  h
    unfold uX10_tryRows_b194 at h
    exact y_retV C dX10_tryRows_194 h
  have hb106 : ∀ (o0 : Nat) (v1 : Int) (v2 : Int) (v3 : Int) (v4 : Int) (v5 : Int) (M : Mm), (rg v1) → (rg v2) → (rg v3) → (rg v4) → (rg v5) → uX10_tryRows_b106 rc o0 v1 v2 v3 v4 v5 M = some R → Jz G σ p l e R0 s m args below meth c 8 0 0 (Qv R) M 0 0 106 [(0, .ref (G.2.2 + o0)), (1, .int (iv v1)), (2, .int (iv v2)), (3, .int (iv v3)), (4, .int (iv v4)), (5, .int (iv v5))] [] := by
    intro o0 v1 v2 v3 v4 v5 M gv1 gv2 gv3 gv4 gv5 h
    unfold uX10_tryRows_b106 at h
    obtain ⟨b106, hb106_, hc106⟩ := bnd h
    have hL106 : ∀ (n : Nat) (v5 : Int) (M : Mm), (rg v5) → lp (uX10_tryRows_f106 rc o0 v1 v2 v3 v4) n (v5, M) = some b106 → Jz G σ p l e R0 s m args below meth c 8 0 0 (Qv R) M 0 0 106 [(0, .ref (G.2.2 + o0)), (1, .int (iv v1)), (2, .int (iv v2)), (3, .int (iv v3)), (4, .int (iv v4)), (5, .int (iv v5))] [] := by
      intro n; induction n with
      | zero => intro v5 M gv5 hq; exact (lp_0 hq).elim
      | succ n106 ih106 =>
        intro v5 M gv5 hq
        obtain ⟨z106, h, hZ106⟩ := lp_s hq
        have h : uX10_tryRows_s106 rc o0 v1 v2 v3 v4 v5 M = some z106 := h
        have hb188 : ∀ (v5 : Int) (M : Mm), (rg v5) → ∀ z106, uX10_tryRows_b188 rc o0 v1 v2 v3 v4 v5 M = some z106 → lpc (uX10_tryRows_f106 rc o0 v1 v2 v3 v4) n106 z106 b106 → Jz G σ p l e R0 s m args below meth c 8 0 0 (Qv R) M 0 0 188 [(0, .ref (G.2.2 + o0)), (1, .int (iv v1)), (2, .int (iv v2)), (3, .int (iv v3)), (4, .int (iv v4)), (5, .int (iv v5))] [] := by
          intro v5 M gv5 z106 h hZ106
          unfold uX10_tryRows_b188 at h
          refine y_iinc (lv' := [(0, .ref (G.2.2 + o0)), (1, .int (iv v1)), (2, .int (iv v2)), (3, .int (iv v3)), (4, .int (iv v4)), (5, .int (iv (w32 (v5 + 1))))]) C dX10_tryRows_188 5 rfl (by decide) [1, 2, 3, 4, 5, 0] rfl ?_
          refine z_goto 106 C dX10_tryRows_191 (by decide) ?_
          exact ih106 (w32 (v5 + 1)) M (w32_rng _) (lp_back h hZ106)
        have hb152 : ∀ (v5 : Int) (v6 : Int) (v7 : Int) (M : Mm), (rg v5) → (rg v6) → (rg v7) → ∀ z106, uX10_tryRows_b152 rc o0 v1 v2 v3 v4 v5 v6 v7 M = some z106 → lpc (uX10_tryRows_f106 rc o0 v1 v2 v3 v4) n106 z106 b106 → Jz G σ p l e R0 s m args below meth c 8 0 0 (Qv R) M 0 0 152 [(0, .ref (G.2.2 + o0)), (1, .int (iv v1)), (2, .int (iv v2)), (3, .int (iv v3)), (4, .int (iv v4)), (5, .int (iv v5)), (6, .int (iv v6)), (7, .int (iv v7))] [] := by
          intro v5 v6 v7 M gv5 gv6 gv7 z106 h hZ106
          unfold uX10_tryRows_b152 at h
          obtain ⟨b152, hb152_, hc152⟩ := bnd h
          have hL152 : ∀ (n : Nat) (v7 : Int) (M : Mm), (rg v7) → lp (uX10_tryRows_f152 rc o0 v1 v2 v3 v4 v5 v6) n (v7, M) = some b152 → Jz G σ p l e R0 s m args below meth c 8 0 0 (Qv R) M 0 0 152 [(0, .ref (G.2.2 + o0)), (1, .int (iv v1)), (2, .int (iv v2)), (3, .int (iv v3)), (4, .int (iv v4)), (5, .int (iv v5)), (6, .int (iv v6)), (7, .int (iv v7))] [] := by
            intro n; induction n with
            | zero => intro v7 M gv7 hq; exact (lp_0 hq).elim
            | succ n152 ih152 =>
              intro v7 M gv7 hq
              obtain ⟨z152, h, hZ152⟩ := lp_s hq
              have h : uX10_tryRows_s152 rc o0 v1 v2 v3 v4 v5 v6 v7 M = some z152 := h
              unfold uX10_tryRows_s152 at h
              refine z_iload C dX10_tryRows_152 7 rfl ?_
              refine z_aload_n C dX10_tryRows_154 0 rfl ?_
              obtain ⟨k1, h⟩ := gK_inv h
              obtain ⟨r2, hr2, h⟩ := bnd h
              refine y_cVi (st := [.int (iv v7)]) C dX10_tryRows_155 mX10_182 k1 (tX10_people hC o0  hr2) rfl rfl (Nat.le_of_ble_eq_true rfl) (by omega) (fun gr2 => ?_)
              refine z_icmp_ge 188 C dX10_tryRows_158 (by decide) gv7 gr2 (fun e3 => ?_) (fun e3 => ?_)
              ·
                have h := (if_pos e3).symm.trans h
                have h : uX10_tryRows_b188 rc o0 v1 v2 v3 v4 v5 M = some z106 := lp_ex (K := (uX10_tryRows_c152 rc o0 v1 v2 v3 v4 v5 v6)) h hZ152 hc152
                refine z_drop (lv' := [(0, .ref (G.2.2 + o0)), (1, .int (iv v1)), (2, .int (iv v2)), (3, .int (iv v3)), (4, .int (iv v4)), (5, .int (iv v5))]) [0, 1, 2, 3, 4, 5] rfl ?_
                exact hb188 v5 M gv5 _ h hZ106
              ·
                have h := (if_neg e3).symm.trans h
                refine z_aload_n C dX10_tryRows_161 0 rfl ?_
                obtain ⟨on4, hon4, h⟩ := bnd h
                refine y_getR C dX10_tryRows_162 fX10_62 rfl hon4 ?_
                refine z_iload C dX10_tryRows_165 4 rfl ?_
                refine z_iload C dX10_tryRows_167 7 rfl ?_
                obtain ⟨M5, hM5, h⟩ := bnd h
                refine y_iast C dX10_tryRows_169 hM5 ?_
                refine z_aload_n C dX10_tryRows_170 0 rfl ?_
                refine z_iload_n C dX10_tryRows_171 1 rfl ?_
                refine z_iload C dX10_tryRows_172 6 rfl ?_
                refine z_iload_n C dX10_tryRows_174 3 rfl ?_
                refine z_iload C dX10_tryRows_175 4 rfl ?_
                refine z_iconst C dX10_tryRows_177 ?_
                refine y_iadd C dX10_tryRows_178 ?_
                obtain ⟨k6, h⟩ := gK_inv h
                obtain ⟨M7, hM7, h⟩ := bnd h
                refine y_cVv (st := []) C dX10_tryRows_179 mX10_347 k6 (hrc o0 v1 v6 v3 (w32 (v4 + 1)) gv1 gv6 gv3 (w32_rng _) hM7) rfl rfl (Nat.le_of_ble_eq_true rfl) (by omega) ?_
                refine y_iinc (lv' := [(0, .ref (G.2.2 + o0)), (1, .int (iv v1)), (2, .int (iv v2)), (3, .int (iv v3)), (4, .int (iv v4)), (5, .int (iv v5)), (6, .int (iv v6)), (7, .int (iv (w32 (v7 + 1))))]) C dX10_tryRows_182 7 rfl (by decide) [1, 2, 3, 4, 5, 6, 7, 0] rfl ?_
                refine z_goto 152 C dX10_tryRows_185 (by decide) ?_
                exact ih152 (w32 (v7 + 1)) M7 (w32_rng _) (lp_back h hZ152)
          exact hL152 _ v7 M gv7 hb152_
        unfold uX10_tryRows_s106 at h
        refine z_iload C dX10_tryRows_106 5 rfl ?_
        refine z_aload_n C dX10_tryRows_108 0 rfl ?_
        obtain ⟨k8, h⟩ := gK_inv h
        obtain ⟨r9, hr9, h⟩ := bnd h
        refine y_cVi (st := [.int (iv v5)]) C dX10_tryRows_109 mX10_185 k8 (tX10_mints hC o0  hr9) rfl rfl (Nat.le_of_ble_eq_true rfl) (by omega) (fun gr9 => ?_)
        refine z_icmp_ge 194 C dX10_tryRows_112 (by decide) gv5 gr9 (fun e10 => ?_) (fun e10 => ?_)
        ·
          have h := (if_pos e10).symm.trans h
          have h : uX10_tryRows_b194 rc M = some R := lp_ex (K := (uX10_tryRows_c106 rc o0 v1 v2 v3 v4)) h hZ106 hc106
          refine z_drop (lv' := []) [] rfl ?_
          exact hb194  M  h
        ·
          have h := (if_neg e10).symm.trans h
          refine z_iload_n C dX10_tryRows_115 2 rfl ?_
          refine z_aload_n C dX10_tryRows_116 0 rfl ?_
          refine z_iload C dX10_tryRows_117 5 rfl ?_
          refine z_iconst C dX10_tryRows_119 ?_
          obtain ⟨k11, h⟩ := gK_inv h
          obtain ⟨r12, hr12, h⟩ := bnd h
          refine y_cVi (st := [.int (iv v2)]) C dX10_tryRows_120 mX10_262 k11 (tX10_ofMint hC o0 v5 0 gv5 (by decide) hr12) rfl rfl (Nat.le_of_ble_eq_true rfl) (by omega) (fun gr12 => ?_)
          refine y_isub C dX10_tryRows_123 ?_
          refine z_istore (lv' := [(0, .ref (G.2.2 + o0)), (1, .int (iv v1)), (2, .int (iv v2)), (3, .int (iv v3)), (4, .int (iv v4)), (5, .int (iv v5)), (6, .int (iv (w32 (v2 - r12))))]) C dX10_tryRows_124 (by decide) [1, 2, 3, 4, 5, 6, 0] rfl ?_
          refine z_iload C dX10_tryRows_126 6 rfl ?_
          refine z_aload_n C dX10_tryRows_128 0 rfl ?_
          obtain ⟨on13, hon13, h⟩ := bnd h
          refine y_getR C dX10_tryRows_129 fX10_13 rfl hon13 ?_
          refine z_iconst C dX10_tryRows_132 ?_
          obtain ⟨x14, hx14, h⟩ := bnd h
          refine y_iald C dX10_tryRows_133 hx14 (fun gx14 => ?_)
          refine z_icmp_ge 140 C dX10_tryRows_134 (by decide) (w32_rng _) gx14 (fun e15 => ?_) (fun e15 => ?_)
          ·
            have h := (if_pos e15).symm.trans h
            refine z_aload_n C dX10_tryRows_140 0 rfl ?_
            obtain ⟨on16, hon16, h⟩ := bnd h
            refine y_getR C dX10_tryRows_141 fX10_65 rfl hon16 ?_
            refine z_iload C dX10_tryRows_144 4 rfl ?_
            refine z_iload C dX10_tryRows_146 5 rfl ?_
            obtain ⟨M17, hM17, h⟩ := bnd h
            refine y_iast C dX10_tryRows_148 hM17 ?_
            refine z_iconst C dX10_tryRows_149 ?_
            refine z_istore (lv' := [(0, .ref (G.2.2 + o0)), (1, .int (iv v1)), (2, .int (iv v2)), (3, .int (iv v3)), (4, .int (iv v4)), (5, .int (iv v5)), (6, .int (iv (w32 (v2 - r12)))), (7, .int (iv 0))]) C dX10_tryRows_150 (by decide) [1, 2, 3, 4, 5, 6, 7, 0] rfl ?_
            exact hb152 v5 (w32 (v2 - r12)) 0 M17 gv5 (w32_rng _) (by decide) _ h hZ106
          ·
            have h := (if_neg e15).symm.trans h
            refine z_goto 188 C dX10_tryRows_137 (by decide) ?_
            refine z_drop (lv' := [(0, .ref (G.2.2 + o0)), (1, .int (iv v1)), (2, .int (iv v2)), (3, .int (iv v3)), (4, .int (iv v4)), (5, .int (iv v5))]) [0, 1, 2, 3, 4, 5] rfl ?_
            exact hb188 v5 M gv5 _ h hZ106
    exact hL106 _ v5 M gv5 hb106_
  have hb89 : ∀  (M : Mm), uX10_tryRows_b89 rc M = some R → Jz G σ p l e R0 s m args below meth c 8 0 0 (Qv R) M 0 0 89 [] [] := by
    intro  M  h
    unfold uX10_tryRows_b89 at h
    exact y_retV C dX10_tryRows_89 h
  have hb39 : ∀ (o0 : Nat) (v3 : Int) (v5 : Int) (M : Mm), (rg v3) → (rg v5) → uX10_tryRows_b39 rc o0 v3 v5 M = some R → Jz G σ p l e R0 s m args below meth c 8 0 0 (Qv R) M 0 0 39 [(0, .ref (G.2.2 + o0)), (3, .int (iv v3)), (5, .int (iv v5))] [] := by
    intro o0 v3 v5 M gv3 gv5 h
    unfold uX10_tryRows_b39 at h
    obtain ⟨b39, hb39_, hc39⟩ := bnd h
    have hL39 : ∀ (n : Nat) (v5 : Int) (M : Mm), (rg v5) → lp (uX10_tryRows_f39 rc o0 v3) n (v5, M) = some b39 → Jz G σ p l e R0 s m args below meth c 8 0 0 (Qv R) M 0 0 39 [(0, .ref (G.2.2 + o0)), (3, .int (iv v3)), (5, .int (iv v5))] [] := by
      intro n; induction n with
      | zero => intro v5 M gv5 hq; exact (lp_0 hq).elim
      | succ n39 ih39 =>
        intro v5 M gv5 hq
        obtain ⟨z39, h, hZ39⟩ := lp_s hq
        have h : uX10_tryRows_s39 rc o0 v3 v5 M = some z39 := h
        unfold uX10_tryRows_s39 at h
        refine z_iload C dX10_tryRows_39 2 rfl ?_
        refine z_iload_n C dX10_tryRows_41 1 rfl ?_
        refine z_icmp_ge 89 C dX10_tryRows_42 (by decide) gv5 gv3 (fun e18 => ?_) (fun e18 => ?_)
        ·
          have h := (if_pos e18).symm.trans h
          have h : uX10_tryRows_b89 rc M = some R := lp_ex (K := (uX10_tryRows_c39 rc o0 v3)) h hZ39 hc39
          refine z_drop (lv' := []) [] rfl ?_
          exact hb89  M  h
        ·
          have h := (if_neg e18).symm.trans h
          refine z_aload_n C dX10_tryRows_45 0 rfl ?_
          obtain ⟨on19, hon19, h⟩ := bnd h
          refine y_getR C dX10_tryRows_46 fX10_68 rfl hon19 ?_
          refine z_iload C dX10_tryRows_49 2 rfl ?_
          refine z_dup2 C dX10_tryRows_51 rfl rfl ?_
          obtain ⟨x20, hx20, h⟩ := bnd h
          refine y_iald C dX10_tryRows_52 hx20 (fun gx20 => ?_)
          refine z_iconst C dX10_tryRows_53 ?_
          refine z_aload_n C dX10_tryRows_54 0 rfl ?_
          obtain ⟨on21, hon21, h⟩ := bnd h
          refine y_getR C dX10_tryRows_55 fX10_62 rfl hon21 ?_
          refine z_iload C dX10_tryRows_58 2 rfl ?_
          obtain ⟨x22, hx22, h⟩ := bnd h
          refine y_iald C dX10_tryRows_60 hx22 (fun gx22 => ?_)
          refine z_ishl (shl32 1 x22) C dX10_tryRows_61 (iv_self _).symm ?_
          refine z_ior (or32 x20 (shl32 1 x22)) C dX10_tryRows_62 (iv_self _).symm ?_
          obtain ⟨M23, hM23, h⟩ := bnd h
          refine y_iast C dX10_tryRows_63 hM23 ?_
          refine z_aload_n C dX10_tryRows_64 0 rfl ?_
          obtain ⟨on24, hon24, h⟩ := bnd h
          refine y_getR C dX10_tryRows_65 fX10_71 rfl hon24 ?_
          refine z_iload C dX10_tryRows_68 2 rfl ?_
          refine z_dup2 C dX10_tryRows_70 rfl rfl ?_
          obtain ⟨x25, hx25, h⟩ := bnd h
          refine y_iald C dX10_tryRows_71 hx25 (fun gx25 => ?_)
          refine z_iconst C dX10_tryRows_72 ?_
          refine z_aload_n C dX10_tryRows_73 0 rfl ?_
          obtain ⟨on26, hon26, h⟩ := bnd h
          refine y_getR C dX10_tryRows_74 fX10_65 rfl hon26 ?_
          refine z_iload C dX10_tryRows_77 2 rfl ?_
          obtain ⟨x27, hx27, h⟩ := bnd h
          refine y_iald C dX10_tryRows_79 hx27 (fun gx27 => ?_)
          refine z_ishl (shl32 1 x27) C dX10_tryRows_80 (iv_self _).symm ?_
          refine z_ior (or32 x25 (shl32 1 x27)) C dX10_tryRows_81 (iv_self _).symm ?_
          obtain ⟨M28, hM28, h⟩ := bnd h
          refine y_iast C dX10_tryRows_82 hM28 ?_
          refine y_iinc (lv' := [(0, .ref (G.2.2 + o0)), (3, .int (iv v3)), (5, .int (iv (w32 (v5 + 1))))]) C dX10_tryRows_83 2 rfl (by decide) [1, 2, 0] rfl ?_
          refine z_goto 39 C dX10_tryRows_86 (by decide) ?_
          exact ih39 (w32 (v5 + 1)) M28 (w32_rng _) (lp_back h hZ39)
    exact hL39 _ v5 M gv5 hb39_
  unfold uX10_tryRows_o at h
  refine z_iload C dX10_tryRows_0 4 rfl ?_
  refine z_iload_n C dX10_tryRows_2 3 rfl ?_
  refine z_icmp_ne 90 C dX10_tryRows_3 (by decide) gv4 gv3 (fun e29 => ?_) (fun e29 => ?_)
  ·
    have h := (if_neg e29).symm.trans h
    refine z_iload C dX10_tryRows_90 4 rfl ?_
    refine z_aload_n C dX10_tryRows_92 0 rfl ?_
    obtain ⟨on30, hon30, h⟩ := bnd h
    refine y_getR C dX10_tryRows_93 fX10_13 rfl hon30 ?_
    refine z_bipush C dX10_tryRows_96 (by decide) ?_
    obtain ⟨x31, hx31, h⟩ := bnd h
    refine y_iald C dX10_tryRows_98 hx31 (fun gx31 => ?_)
    refine z_icmp_lt 103 C dX10_tryRows_99 (by decide) gv4 gx31 (fun e32 => ?_) (fun e32 => ?_)
    ·
      have h := (if_pos e32).symm.trans h
      refine z_iconst C dX10_tryRows_103 ?_
      refine z_istore (lv' := [(0, .ref (G.2.2 + o0)), (1, .int (iv v1)), (2, .int (iv v2)), (3, .int (iv v3)), (4, .int (iv v4)), (5, .int (iv 0))]) C dX10_tryRows_104 (by decide) [1, 2, 3, 4, 5, 0] rfl ?_
      exact hb106 o0 v1 v2 v3 v4 0 M0 gv1 gv2 gv3 gv4 (by decide) h
    ·
      have h := (if_neg e32).symm.trans h
      exact y_retV C dX10_tryRows_102 h
  ·
    have h := (if_pos e29).symm.trans h
    refine z_iload_n C dX10_tryRows_6 2 rfl ?_
    refine z_aload_n C dX10_tryRows_7 0 rfl ?_
    refine z_iload_n C dX10_tryRows_8 1 rfl ?_
    refine z_iconst C dX10_tryRows_9 ?_
    obtain ⟨k33, h⟩ := gK_inv h
    obtain ⟨r34, hr34, h⟩ := bnd h
    refine y_cVi (st := [.int (iv v2)]) C dX10_tryRows_10 mX10_256 k33 (tX10_ofCoin hC o0 v1 0 gv1 (by decide) hr34) rfl rfl (Nat.le_of_ble_eq_true rfl) (by omega) (fun gr34 => ?_)
    refine z_icmp_ne 25 C dX10_tryRows_13 (by decide) gv2 gr34 (fun e35 => ?_) (fun e35 => ?_)
    ·
      have h := (if_neg e35).symm.trans h
      exact y_retV C dX10_tryRows_25 h
    ·
      have h := (if_pos e35).symm.trans h
      refine z_aload_n C dX10_tryRows_16 0 rfl ?_
      refine z_iload_n C dX10_tryRows_17 1 rfl ?_
      refine z_iload_n C dX10_tryRows_18 3 rfl ?_
      obtain ⟨k36, h⟩ := gK_inv h
      obtain ⟨r37, M38, hr37, h⟩ := bnd2 h
      refine y_cVb (st := []) C dX10_tryRows_19 mX10_341 k36 (tX10_isLike hC o0 v1 v3 gv1 gv3 hr37) rfl rfl (Nat.le_of_ble_eq_true rfl) (by omega) (fun br37 => ?_)
      refine z_if_ne 26 C dX10_tryRows_22 (by decide) (rg01 br37) (fun e39 => ?_) (fun e39 => ?_)
      ·
        have h := (if_neg e39).symm.trans h
        refine z_aload_n C dX10_tryRows_26 0 rfl ?_
        refine z_dup C dX10_tryRows_27 rfl ?_
        obtain ⟨x40, hx40, h⟩ := bnd h
        refine y_getI C dX10_tryRows_28 fX10_344 rfl hx40 (fun gx40 => ?_)
        refine z_iconst C dX10_tryRows_31 ?_
        refine y_iadd C dX10_tryRows_32 ?_
        obtain ⟨M41, hM41, h⟩ := bnd h
        refine y_putI C dX10_tryRows_33 fX10_344 rfl rfl rfl rfl hM41 ?_
        refine z_iconst C dX10_tryRows_36 ?_
        refine z_istore (lv' := [(0, .ref (G.2.2 + o0)), (1, .int (iv v1)), (2, .int (iv v2)), (3, .int (iv v3)), (4, .int (iv v4)), (5, .int (iv 0))]) C dX10_tryRows_37 (by decide) [1, 2, 3, 4, 5, 0] rfl ?_
        refine z_drop (lv' := [(0, .ref (G.2.2 + o0)), (3, .int (iv v3)), (5, .int (iv 0))]) [0, 3, 5] rfl ?_
        exact hb39 o0 v3 0 M41 gv3 (by decide) h
      ·
        have h := (if_pos e39).symm.trans h
        exact y_retV C dX10_tryRows_25 h

theorem tX10_tryRows {G : Gx} {σ : State} (hC : Cy G σ) (n : Nat) : ∀ (o0 : Nat) (v1 : Int) (v2 : Int) (v3 : Int) (v4 : Int) {M : Mm}, rg v1 → rg v2 → rg v3 → rg v4 → ∀ {R : Mm}, uX10_tryRows n o0 v1 v2 v3 v4 M = some R → Ct G σ (13 * n) yX10_tryRows cX10_tryRows 8 none [.ref (G.2.2 + o0), .int (iv v1), .int (iv v2), .int (iv v3), .int (iv v4)] M 0 0 (Qv R) := by
  induction n with
  | zero => intro o0 v1 v2 v3 v4 M gv1 gv2 gv3 gv4 R h; cases h
  | succ n ih =>
    intro o0 v1 v2 v3 v4 M gv1 gv2 gv3 gv4 R h
    have := tX10_tryRows_o hC (13 * n) (uX10_tryRows n) ih o0 v1 v2 v3 v4 gv1 gv2 gv3 gv4 h
    rw [show 13 * (n + 1) = 13 * n + 13 from by omega]; exact this

set_option maxHeartbeats 4000000 in
set_option maxRecDepth 100000 in
theorem tX0_appraiseGiven {G : Gx} {σ : State} (hC : Cy G σ) (o0 : Nat) (o1 : Nat) (v2 : Int) (v3 : Int) (v4 : Int) (v5 : Int) {M0 : Mm} (gv2 : rg v2) (gv3 : rg v3) (gv4 : rg v4) (gv5 : rg v5) {R : Mm} (h : uX0_appraiseGiven o0 o1 v2 v3 v4 v5 M0 = some R) : Ct G σ (4) yX0_appraiseGiven cX0_appraiseGiven 8 none [.ref (G.2.2 + o0), .ref (G.2.2 + o1), .int (iv v2), .int (iv v3), .int (iv v4), .int (iv v5)] M0 0 0 (Qv R) := by
  refine Ct.of hC.1 (by decide +kernel) (Nat.le_of_ble_eq_true rfl) ?_
  intro p l e R0 s m args below meth c C
  show Jz G σ p l e R0 s m args below meth c 8 0 0 (Qv R) M0 0 0 0 [(0, .ref (G.2.2 + o0)), (1, .ref (G.2.2 + o1)), (2, .int (iv v2)), (3, .int (iv v3)), (4, .int (iv v4)), (5, .int (iv v5))] []
  have hb72 : ∀ (os0 : Nat) (vs1 : Int) (vs2 : Int) (M : Mm), (rg vs1) → (rg vs2) → uX0_appraiseGiven_b72 os0 vs1 vs2 M = some R → Jz G σ p l e R0 s m args below meth c 8 0 0 (Qv R) M 0 0 72 [] [.int (iv vs2), .int (iv vs1), .ref (G.2.2 + os0)] := by
    intro os0 vs1 vs2 M gvs1 gvs2 h
    unfold uX0_appraiseGiven_b72 at h
    obtain ⟨M1, hM1, h⟩ := bnd h
    refine y_iast C dX0_appraiseGiven_72 hM1 ?_
    exact y_retV C dX0_appraiseGiven_73 h
  have hb42 : ∀ (o0 : Nat) (o1 : Nat) (v2 : Int) (v3 : Int) (v5 : Int) (v6 : Int) (vs0 : Int) (M : Mm), (rg v2) → (rg v3) → (rg v5) → (rg v6) → (vs0 = 0 ∨ vs0 = 1) → uX0_appraiseGiven_b42 o0 o1 v2 v3 v5 v6 vs0 M = some R → Jz G σ p l e R0 s m args below meth c 8 0 0 (Qv R) M 0 0 42 [(0, .ref (G.2.2 + o0)), (1, .ref (G.2.2 + o1)), (2, .int (iv v2)), (3, .int (iv v3)), (5, .int (iv v5)), (6, .int (iv v6))] [.int (iv vs0)] := by
    intro o0 o1 v2 v3 v5 v6 vs0 M gv2 gv3 gv5 gv6 bvs0 h
    unfold uX0_appraiseGiven_b42 at h
    refine z_istore (lv' := [(0, .ref (G.2.2 + o0)), (1, .ref (G.2.2 + o1)), (2, .int (iv v2)), (3, .int (iv v3)), (5, .int (iv v5)), (6, .int (iv v6)), (7, .int (iv vs0))]) C dX0_appraiseGiven_42 (by decide) [1, 2, 3, 4, 5, 6, 0] rfl ?_
    refine z_aload_n C dX0_appraiseGiven_44 0 rfl ?_
    obtain ⟨on2, hon2, h⟩ := bnd h
    refine y_getR C dX0_appraiseGiven_45 fX0_18 rfl hon2 ?_
    refine z_iload_n C dX0_appraiseGiven_48 2 rfl ?_
    refine z_bipush C dX0_appraiseGiven_49 (by decide) ?_
    refine y_imul C dX0_appraiseGiven_51 ?_
    refine z_iconst C dX0_appraiseGiven_52 ?_
    refine y_iadd C dX0_appraiseGiven_53 ?_
    refine z_iload C dX0_appraiseGiven_54 6 rfl ?_
    refine z_if_eq 71 C dX0_appraiseGiven_56 (by decide) (rg01 bvs0) (fun e3 => ?_) (fun e3 => ?_)
    ·
      have h := (if_pos e3).symm.trans h
      refine z_iconst C dX0_appraiseGiven_71 ?_
      refine z_drop (lv' := []) [] rfl ?_
      exact hb72 on2 (w32 ((w32 (v2 * 6)) + 1)) 0 M (w32_rng _) (by decide) h
    ·
      have h := (if_neg e3).symm.trans h
      refine z_aload_n C dX0_appraiseGiven_59 1 rfl ?_
      refine z_iload_n C dX0_appraiseGiven_60 3 rfl ?_
      refine z_iload C dX0_appraiseGiven_61 5 rfl ?_
      refine z_iload C dX0_appraiseGiven_63 4 rfl ?_
      obtain ⟨k4, h⟩ := gK_inv h
      obtain ⟨r5, hr5, h⟩ := bnd h
      refine y_cVi (st := [.int (iv (w32 ((w32 (v2 * 6)) + 1))), .ref (G.2.2 + on2)]) C dX0_appraiseGiven_65 mX0_104 k4 (tX8_worth hC o1 v3 v6 v5 gv3 gv6 gv5 hr5) rfl rfl (Nat.le_of_ble_eq_true rfl) (by decide) (fun gr5 => ?_)
      refine z_goto 72 C dX0_appraiseGiven_68 (by decide) ?_
      refine z_drop (lv' := []) [] rfl ?_
      exact hb72 on2 (w32 ((w32 (v2 * 6)) + 1)) r5 M (w32_rng _) gr5 h
  unfold uX0_appraiseGiven at h
  refine z_aload_n C dX0_appraiseGiven_0 0 rfl ?_
  obtain ⟨on6, hon6, h⟩ := bnd h
  refine y_getR C dX0_appraiseGiven_1 fX0_11 rfl hon6 ?_
  refine z_iload_n C dX0_appraiseGiven_4 2 rfl ?_
  obtain ⟨x7, hx7, h⟩ := bnd h
  refine y_iald C dX0_appraiseGiven_5 hx7 (fun gx7 => ?_)
  refine z_istore (lv' := [(0, .ref (G.2.2 + o0)), (1, .ref (G.2.2 + o1)), (2, .int (iv v2)), (3, .int (iv v3)), (4, .int (iv v4)), (5, .int (iv v5)), (6, .int (iv x7))]) C dX0_appraiseGiven_6 (by decide) [1, 2, 3, 4, 5, 6, 0] rfl ?_
  refine z_aload_n C dX0_appraiseGiven_8 1 rfl ?_
  refine z_aload_n C dX0_appraiseGiven_9 1 rfl ?_
  obtain ⟨on8, hon8, h⟩ := bnd h
  refine y_getR C dX0_appraiseGiven_10 fX0_79 rfl hon8 ?_
  obtain ⟨on9, hon9, h⟩ := bnd h
  refine y_getR C dX0_appraiseGiven_13 fX0_95 rfl hon9 ?_
  refine z_iload C dX0_appraiseGiven_16 6 rfl ?_
  obtain ⟨x10, hx10, h⟩ := bnd h
  refine y_iald C dX0_appraiseGiven_18 hx10 (fun gx10 => ?_)
  refine z_aload_n C dX0_appraiseGiven_19 1 rfl ?_
  obtain ⟨on11, hon11, h⟩ := bnd h
  refine y_getR C dX0_appraiseGiven_20 fX0_79 rfl hon11 ?_
  obtain ⟨on12, hon12, h⟩ := bnd h
  refine y_getR C dX0_appraiseGiven_23 fX0_98 rfl hon12 ?_
  refine z_iload C dX0_appraiseGiven_26 6 rfl ?_
  obtain ⟨x13, hx13, h⟩ := bnd h
  refine y_iald C dX0_appraiseGiven_28 hx13 (fun gx13 => ?_)
  refine z_iload C dX0_appraiseGiven_29 4 rfl ?_
  obtain ⟨k14, h⟩ := gK_inv h
  obtain ⟨r15, hr15, h⟩ := bnd h
  refine y_cVi (st := []) C dX0_appraiseGiven_31 mX0_101 k14 (tX8_obstacle hC o1 x10 x13 v4 gx10 gx13 gv4 hr15) rfl rfl (Nat.le_of_ble_eq_true rfl) (by decide) (fun gr15 => ?_)
  refine z_if_ne 41 C dX0_appraiseGiven_34 (by decide) gr15 (fun e16 => ?_) (fun e16 => ?_)
  ·
    have h := (if_neg e16).symm.trans h
    refine z_iconst C dX0_appraiseGiven_41 ?_
    refine z_drop (lv' := [(0, .ref (G.2.2 + o0)), (1, .ref (G.2.2 + o1)), (2, .int (iv v2)), (3, .int (iv v3)), (5, .int (iv v5)), (6, .int (iv x7))]) [0, 1, 2, 3, 5, 6] rfl ?_
    exact hb42 o0 o1 v2 v3 v5 x7 0 M0 gv2 gv3 gv5 gx7 (by decide) h
  ·
    have h := (if_pos e16).symm.trans h
    refine z_iconst C dX0_appraiseGiven_37 ?_
    refine z_goto 42 C dX0_appraiseGiven_38 (by decide) ?_
    refine z_drop (lv' := [(0, .ref (G.2.2 + o0)), (1, .ref (G.2.2 + o1)), (2, .int (iv v2)), (3, .int (iv v3)), (5, .int (iv v5)), (6, .int (iv x7))]) [0, 1, 2, 3, 5, 6] rfl ?_
    exact hb42 o0 o1 v2 v3 v5 x7 1 M0 gv2 gv3 gv5 gx7 (by decide) h

set_option maxHeartbeats 4000000 in
set_option maxRecDepth 100000 in
theorem tX2_keep {G : Gx} {σ : State} (hC : Cy G σ) (o0 : Nat) (o1 : Nat) {M0 : Mm}  {R : Mm} (h : uX2_keep o0 o1 M0 = some R) : Ct G σ (4) yX2_keep cX2_keep 3 none [.ref (G.2.2 + o0), .ref (G.2.2 + o1)] M0 7 895 (Qv R) := by
  refine Ct.of hC.1 (by decide +kernel) (Nat.le_of_ble_eq_true rfl) ?_
  intro p l e R0 s m args below meth c C
  show Jz G σ p l e R0 s m args below meth c 3 7 895 (Qv R) M0 0 0 0 [(0, .ref (G.2.2 + o0)), (1, .ref (G.2.2 + o1))] []
  have hb35 : ∀ (o0 : Nat) (o1 : Nat) (v2 : Int) (M : Mm), (rg v2) → uX2_keep_b35 o0 o1 v2 M = some R → Jz G σ p l e R0 s m args below meth c 3 7 895 (Qv R) M 7 895 35 [(0, .ref (G.2.2 + o0)), (1, .ref (G.2.2 + o1)), (2, .int (iv v2))] [] := by
    intro o0 o1 v2 M gv2 h
    unfold uX2_keep_b35 at h
    refine z_aload_n C dX2_keep_35 0 rfl ?_
    obtain ⟨on1, hon1, h⟩ := bnd h
    refine y_getR C dX2_keep_36 fX2_13 rfl hon1 ?_
    refine z_iload_n C dX2_keep_39 2 rfl ?_
    obtain ⟨qn2, hqn2, h⟩ := bnd h
    refine y_aaldC C dX2_keep_40 hqn2 ?_
    refine z_aload_n C dX2_keep_41 1 rfl ?_
    obtain ⟨on3, hon3, h⟩ := bnd h
    subst hon3
    obtain ⟨k4, h⟩ := gK_inv h
    obtain ⟨M5, hM5, h⟩ := bnd h
    refine y_cVv (st := []) C dX2_keep_42 mX2_25 k4 (tX1_copyFrom hC on3 o1  hM5) rfl rfl (Nat.le_of_ble_eq_true rfl) (by decide) ?_
    refine z_aload_n C dX2_keep_45 0 rfl ?_
    obtain ⟨x6, hx6, h⟩ := bnd h
    refine y_getI C dX2_keep_46 fX2_21 rfl hx6 (fun gx6 => ?_)
    refine z_bipush C dX2_keep_49 (by decide) ?_
    refine z_icmp_ge 67 C dX2_keep_51 (by decide) gx6 (by decide) (fun e7 => ?_) (fun e7 => ?_)
    ·
      have h := (if_pos e7).symm.trans h
      refine z_aload_n C dX2_keep_67 0 rfl ?_
      refine z_aload_n C dX2_keep_68 0 rfl ?_
      obtain ⟨x8, hx8, h⟩ := bnd h
      refine y_getI C dX2_keep_69 fX2_17 rfl hx8 (fun gx8 => ?_)
      refine z_iconst C dX2_keep_72 ?_
      refine y_iadd C dX2_keep_73 ?_
      refine z_bipush C dX2_keep_74 (by decide) ?_
      obtain ⟨x9, hx9, h⟩ := bnd h
      refine y_irem C dX2_keep_76 hx9 (fun gx9 => ?_)
      obtain ⟨M10, hM10, h⟩ := bnd h
      refine y_putI C dX2_keep_77 fX2_17 rfl rfl rfl rfl hM10 ?_
      exact y_retV C dX2_keep_80 h
    ·
      have h := (if_neg e7).symm.trans h
      refine z_aload_n C dX2_keep_54 0 rfl ?_
      refine z_dup C dX2_keep_55 rfl ?_
      obtain ⟨x11, hx11, h⟩ := bnd h
      refine y_getI C dX2_keep_56 fX2_21 rfl hx11 (fun gx11 => ?_)
      refine z_iconst C dX2_keep_59 ?_
      refine y_iadd C dX2_keep_60 ?_
      obtain ⟨M12, hM12, h⟩ := bnd h
      refine y_putI C dX2_keep_61 fX2_21 rfl rfl rfl rfl hM12 ?_
      refine z_goto 80 C dX2_keep_64 (by decide) ?_
      exact y_retV C dX2_keep_80 h
  unfold uX2_keep at h
  refine z_aload_n C dX2_keep_0 0 rfl ?_
  obtain ⟨x13, hx13, h⟩ := bnd h
  refine y_getI C dX2_keep_1 fX2_17 rfl hx13 (fun gx13 => ?_)
  refine z_aload_n C dX2_keep_4 0 rfl ?_
  obtain ⟨x14, hx14, h⟩ := bnd h
  refine y_getI C dX2_keep_5 fX2_21 rfl hx14 (fun gx14 => ?_)
  refine y_iadd C dX2_keep_8 ?_
  refine z_bipush C dX2_keep_9 (by decide) ?_
  obtain ⟨x15, hx15, h⟩ := bnd h
  refine y_irem C dX2_keep_11 hx15 (fun gx15 => ?_)
  refine z_istore_n (lv' := [(0, .ref (G.2.2 + o0)), (1, .ref (G.2.2 + o1)), (2, .int (iv x15))]) C dX2_keep_12 rfl (by decide) [1, 2, 0] rfl ?_
  refine z_aload_n C dX2_keep_13 0 rfl ?_
  obtain ⟨on16, hon16, h⟩ := bnd h
  refine y_getR C dX2_keep_14 fX2_13 rfl hon16 ?_
  refine z_iload_n C dX2_keep_17 2 rfl ?_
  obtain ⟨qn17, hqn17, h⟩ := bnd h
  refine y_aaldC C dX2_keep_18 hqn17 ?_
  refine y_ifnonnull 35 C dX2_keep_19 (by decide) (fun e18 => ?_) (fun e18 => ?_)
  ·
    have h := (if_neg e18).symm.trans h
    refine y_widen (k1 := 7) (n1 := 895) (by omega) (by omega) ?_
    exact hb35 o0 o1 x15 M0 gx15 h
  ·
    have h := (if_pos e18).symm.trans h
    refine z_aload_n C dX2_keep_22 0 rfl ?_
    obtain ⟨on19, hon19, h⟩ := bnd h
    refine y_getR C dX2_keep_23 fX2_13 rfl hon19 ?_
    refine z_iload_n C dX2_keep_26 2 rfl ?_
    refine y_new C dX2_keep_27 clX1 defX1 nX2_11 ins_X1 ini_X1 (by omega) (by omega) ?_
    refine z_dup C dX2_keep_30 rfl ?_
    obtain ⟨M20, hM20, h⟩ := bnd h
    refine y_cIva (st := [.ref (G.2.2 + M0.1.1), .int (iv x15), .ref (G.2.2 + on19)]) C dX2_keep_31 mX2_24 (tX1_init hC M0.1.1  hM20) rfl rfl (Nat.le_of_ble_eq_true rfl) (by decide) ?_
    obtain ⟨M21, hM21, h⟩ := bnd h
    refine y_aastC C dX2_keep_34 hM21 ?_
    exact hb35 o0 o1 x15 M21 gx15 h

set_option maxHeartbeats 4000000 in
set_option maxRecDepth 100000 in
theorem tX3_readWho {G : Gx} {σ : State} (hC : Cy G σ) (o0 : Nat) (o1 : Nat) {M0 : Mm}  {R : Int × Mm} (h : uX3_readWho o0 o1 M0 = some R) : Ct G σ (11) yX3_readWho cX3_readWho 3 (some .int) [.ref (G.2.2 + o0), .ref (G.2.2 + o1)] M0 0 0 (Qi R.1 R.2) := by
  refine Ct.of hC.1 (by decide +kernel) (Nat.le_of_ble_eq_true rfl) ?_
  intro p l e R0 s m args below meth c C
  show Jz G σ p l e R0 s m args below meth c 3 0 0 (Qi R.1 R.2) M0 0 0 0 [(0, .ref (G.2.2 + o0)), (1, .ref (G.2.2 + o1))] []
  have hb124 : ∀ (o0 : Nat) (M : Mm), uX3_readWho_b124 o0 M = some R → Jz G σ p l e R0 s m args below meth c 3 0 0 (Qi R.1 R.2) M 0 0 124 [(0, .ref (G.2.2 + o0))] [] := by
    intro o0 M  h
    unfold uX3_readWho_b124 at h
    refine z_aload_n C dX3_readWho_124 0 rfl ?_
    refine z_dup C dX3_readWho_125 rfl ?_
    obtain ⟨x1, hx1, h⟩ := bnd h
    refine y_getI C dX3_readWho_126 fX3_43 rfl hx1 (fun gx1 => ?_)
    refine z_iconst C dX3_readWho_129 ?_
    refine y_iadd C dX3_readWho_130 ?_
    obtain ⟨M2, hM2, h⟩ := bnd h
    refine y_putI C dX3_readWho_131 fX3_43 rfl rfl rfl rfl hM2 ?_
    refine z_iconst C dX3_readWho_134 ?_
    exact y_iretB C dX3_readWho_135 h (by decide)
  have hb106 : ∀ (o0 : Nat) (o1 : Nat) (os0 : Nat) (vs1 : Int) (vs2 : Int) (M : Mm), (rg vs1) → (vs2 = 0 ∨ vs2 = 1) → uX3_readWho_b106 o0 o1 os0 vs1 vs2 M = some R → Jz G σ p l e R0 s m args below meth c 3 0 0 (Qi R.1 R.2) M 0 0 106 [(0, .ref (G.2.2 + o0)), (1, .ref (G.2.2 + o1))] [.int (iv vs2), .int (iv vs1), .ref (G.2.2 + os0)] := by
    intro o0 o1 os0 vs1 vs2 M gvs1 bvs2 h
    unfold uX3_readWho_b106 at h
    obtain ⟨M3, hM3, h⟩ := bnd h
    refine y_iast C dX3_readWho_106 hM3 ?_
    refine z_aload_n C dX3_readWho_107 0 rfl ?_
    obtain ⟨on4, hon4, h⟩ := bnd h
    refine y_getR C dX3_readWho_108 fX3_18 rfl hon4 ?_
    refine z_aload_n C dX3_readWho_111 0 rfl ?_
    obtain ⟨x5, hx5, h⟩ := bnd h
    refine y_getI C dX3_readWho_112 fX3_43 rfl hx5 (fun gx5 => ?_)
    obtain ⟨x6, hx6, h⟩ := bnd h
    refine y_iald C dX3_readWho_115 hx6 (fun gx6 => ?_)
    refine z_iconst C dX3_readWho_116 ?_
    refine z_icmp_ne 124 C dX3_readWho_117 (by decide) gx6 (by decide) (fun e7 => ?_) (fun e7 => ?_)
    ·
      have h := (if_neg e7).symm.trans h
      refine z_drop (lv' := [(0, .ref (G.2.2 + o0))]) [0] rfl ?_
      exact hb124 o0 M3  h
    ·
      have h := (if_pos e7).symm.trans h
      refine z_aload_n C dX3_readWho_120 1 rfl ?_
      obtain ⟨k8, h⟩ := gK_inv h
      obtain ⟨M9, hM9, h⟩ := bnd h
      refine y_cVv (st := []) C dX3_readWho_121 mX3_64 k8 (tX7_advance hC o1  hM9) rfl rfl (Nat.le_of_ble_eq_true rfl) (by decide) ?_
      refine z_drop (lv' := [(0, .ref (G.2.2 + o0))]) [0] rfl ?_
      exact hb124 o0 M9  h
  have hb84 : ∀ (o0 : Nat) (o1 : Nat) (M : Mm), uX3_readWho_b84 o0 o1 M = some R → Jz G σ p l e R0 s m args below meth c 3 0 0 (Qi R.1 R.2) M 0 0 84 [(0, .ref (G.2.2 + o0)), (1, .ref (G.2.2 + o1))] [] := by
    intro o0 o1 M  h
    unfold uX3_readWho_b84 at h
    refine z_aload_n C dX3_readWho_84 0 rfl ?_
    obtain ⟨on10, hon10, h⟩ := bnd h
    refine y_getR C dX3_readWho_85 fX3_18 rfl hon10 ?_
    refine z_aload_n C dX3_readWho_88 0 rfl ?_
    obtain ⟨x11, hx11, h⟩ := bnd h
    refine y_getI C dX3_readWho_89 fX3_43 rfl hx11 (fun gx11 => ?_)
    refine z_aload_n C dX3_readWho_92 1 rfl ?_
    obtain ⟨x12, hx12, h⟩ := bnd h
    refine y_getI C dX3_readWho_93 fX3_69 rfl hx12 (fun gx12 => ?_)
    refine z_bipush C dX3_readWho_96 (by decide) ?_
    refine z_icmp_ne 105 C dX3_readWho_98 (by decide) gx12 (by decide) (fun e13 => ?_) (fun e13 => ?_)
    ·
      have h := (if_neg e13).symm.trans h
      refine z_iconst C dX3_readWho_105 ?_
      exact hb106 o0 o1 on10 x11 0 M gx11 (by decide) h
    ·
      have h := (if_pos e13).symm.trans h
      refine z_iconst C dX3_readWho_101 ?_
      refine z_goto 106 C dX3_readWho_102 (by decide) ?_
      exact hb106 o0 o1 on10 x11 1 M gx11 (by decide) h
  have hb66 : ∀ (o0 : Nat) (o1 : Nat) (os0 : Nat) (vs1 : Int) (vs2 : Int) (M : Mm), (rg vs1) → (vs2 = 0 ∨ vs2 = 1) → uX3_readWho_b66 o0 o1 os0 vs1 vs2 M = some R → Jz G σ p l e R0 s m args below meth c 3 0 0 (Qi R.1 R.2) M 0 0 66 [(0, .ref (G.2.2 + o0)), (1, .ref (G.2.2 + o1))] [.int (iv vs2), .int (iv vs1), .ref (G.2.2 + os0)] := by
    intro o0 o1 os0 vs1 vs2 M gvs1 bvs2 h
    unfold uX3_readWho_b66 at h
    obtain ⟨M14, hM14, h⟩ := bnd h
    refine y_iast C dX3_readWho_66 hM14 ?_
    refine z_aload_n C dX3_readWho_67 0 rfl ?_
    obtain ⟨on15, hon15, h⟩ := bnd h
    refine y_getR C dX3_readWho_68 fX3_15 rfl hon15 ?_
    refine z_aload_n C dX3_readWho_71 0 rfl ?_
    obtain ⟨x16, hx16, h⟩ := bnd h
    refine y_getI C dX3_readWho_72 fX3_43 rfl hx16 (fun gx16 => ?_)
    obtain ⟨x17, hx17, h⟩ := bnd h
    refine y_iald C dX3_readWho_75 hx17 (fun gx17 => ?_)
    refine z_iconst C dX3_readWho_76 ?_
    refine z_icmp_ne 84 C dX3_readWho_77 (by decide) gx17 (by decide) (fun e18 => ?_) (fun e18 => ?_)
    ·
      have h := (if_neg e18).symm.trans h
      exact hb84 o0 o1 M14  h
    ·
      have h := (if_pos e18).symm.trans h
      refine z_aload_n C dX3_readWho_80 1 rfl ?_
      obtain ⟨k19, h⟩ := gK_inv h
      obtain ⟨M20, hM20, h⟩ := bnd h
      refine y_cVv (st := []) C dX3_readWho_81 mX3_64 k19 (tX7_advance hC o1  hM20) rfl rfl (Nat.le_of_ble_eq_true rfl) (by decide) ?_
      exact hb84 o0 o1 M20  h
  unfold uX3_readWho at h
  refine z_aload_n C dX3_readWho_0 0 rfl ?_
  obtain ⟨x21, hx21, h⟩ := bnd h
  refine y_getI C dX3_readWho_1 fX3_43 rfl hx21 (fun gx21 => ?_)
  refine z_bipush C dX3_readWho_4 (by decide) ?_
  refine z_icmp_lt 11 C dX3_readWho_6 (by decide) gx21 (by decide) (fun e22 => ?_) (fun e22 => ?_)
  ·
    have h := (if_pos e22).symm.trans h
    refine z_aload_n C dX3_readWho_11 1 rfl ?_
    obtain ⟨k23, h⟩ := gK_inv h
    obtain ⟨M24, hM24, h⟩ := bnd h
    refine y_cVv (st := []) C dX3_readWho_12 mX3_64 k23 (tX7_advance hC o1  hM24) rfl rfl (Nat.le_of_ble_eq_true rfl) (by decide) ?_
    refine z_aload_n C dX3_readWho_15 0 rfl ?_
    refine z_aload_n C dX3_readWho_16 1 rfl ?_
    obtain ⟨k25, h⟩ := gK_inv h
    obtain ⟨r26, hr26, h⟩ := bnd h
    refine y_cVi (st := []) C dX3_readWho_17 mX3_88 k25 (tX3_newNameFault hC o0 o1  hr26) rfl rfl (Nat.le_of_ble_eq_true rfl) (by decide) (fun gr26 => ?_)
    refine z_istore_n (lv' := [(0, .ref (G.2.2 + o0)), (1, .ref (G.2.2 + o1)), (2, .int (iv r26))]) C dX3_readWho_20 rfl (by decide) [1, 2, 0] rfl ?_
    refine z_iload_n C dX3_readWho_21 2 rfl ?_
    refine z_if_eq 27 C dX3_readWho_22 (by decide) gr26 (fun e27 => ?_) (fun e27 => ?_)
    ·
      have h := (if_pos e27).symm.trans h
      refine z_aload_n C dX3_readWho_27 0 rfl ?_
      obtain ⟨on28, hon28, h⟩ := bnd h
      refine y_getR C dX3_readWho_28 fX3_9 rfl hon28 ?_
      refine z_aload_n C dX3_readWho_31 0 rfl ?_
      obtain ⟨x29, hx29, h⟩ := bnd h
      refine y_getI C dX3_readWho_32 fX3_43 rfl hx29 (fun gx29 => ?_)
      refine z_aload_n C dX3_readWho_35 1 rfl ?_
      obtain ⟨x30, hx30, h⟩ := bnd h
      refine y_getI C dX3_readWho_36 fX3_91 rfl hx30 (fun gx30 => ?_)
      obtain ⟨M31, hM31, h⟩ := bnd h
      refine y_iast C dX3_readWho_39 hM31 ?_
      refine z_aload_n C dX3_readWho_40 1 rfl ?_
      obtain ⟨k32, h⟩ := gK_inv h
      obtain ⟨M33, hM33, h⟩ := bnd h
      refine y_cVv (st := []) C dX3_readWho_41 mX3_64 k32 (tX7_advance hC o1  hM33) rfl rfl (Nat.le_of_ble_eq_true rfl) (by decide) ?_
      refine z_aload_n C dX3_readWho_44 0 rfl ?_
      obtain ⟨on34, hon34, h⟩ := bnd h
      refine y_getR C dX3_readWho_45 fX3_15 rfl hon34 ?_
      refine z_aload_n C dX3_readWho_48 0 rfl ?_
      obtain ⟨x35, hx35, h⟩ := bnd h
      refine y_getI C dX3_readWho_49 fX3_43 rfl hx35 (fun gx35 => ?_)
      refine z_aload_n C dX3_readWho_52 1 rfl ?_
      obtain ⟨x36, hx36, h⟩ := bnd h
      refine y_getI C dX3_readWho_53 fX3_69 rfl hx36 (fun gx36 => ?_)
      refine z_bipush C dX3_readWho_56 (by decide) ?_
      refine z_icmp_ne 65 C dX3_readWho_58 (by decide) gx36 (by decide) (fun e37 => ?_) (fun e37 => ?_)
      ·
        have h := (if_neg e37).symm.trans h
        refine z_iconst C dX3_readWho_65 ?_
        refine z_drop (lv' := [(0, .ref (G.2.2 + o0)), (1, .ref (G.2.2 + o1))]) [0, 1] rfl ?_
        exact hb66 o0 o1 on34 x35 0 M33 gx35 (by decide) h
      ·
        have h := (if_pos e37).symm.trans h
        refine z_iconst C dX3_readWho_61 ?_
        refine z_goto 66 C dX3_readWho_62 (by decide) ?_
        refine z_drop (lv' := [(0, .ref (G.2.2 + o0)), (1, .ref (G.2.2 + o1))]) [0, 1] rfl ?_
        exact hb66 o0 o1 on34 x35 1 M33 gx35 (by decide) h
    ·
      have h := (if_neg e27).symm.trans h
      refine z_iload_n C dX3_readWho_25 2 rfl ?_
      exact y_iretB C dX3_readWho_26 h gr26
  ·
    have h := (if_neg e22).symm.trans h
    refine z_iconst C dX3_readWho_9 ?_
    exact y_iretB C dX3_readWho_10 h (by decide)

set_option maxHeartbeats 4000000 in
set_option maxRecDepth 100000 in
theorem tX3_readMint {G : Gx} {σ : State} (hC : Cy G σ) (o0 : Nat) (o1 : Nat) {M0 : Mm}  {R : Int × Mm} (h : uX3_readMint o0 o1 M0 = some R) : Ct G σ (11) yX3_readMint cX3_readMint 3 (some .int) [.ref (G.2.2 + o0), .ref (G.2.2 + o1)] M0 0 0 (Qi R.1 R.2) := by
  refine Ct.of hC.1 (by decide +kernel) (Nat.le_of_ble_eq_true rfl) ?_
  intro p l e R0 s m args below meth c C
  show Jz G σ p l e R0 s m args below meth c 3 0 0 (Qi R.1 R.2) M0 0 0 0 [(0, .ref (G.2.2 + o0)), (1, .ref (G.2.2 + o1))] []
  unfold uX3_readMint at h
  refine z_aload_n C dX3_readMint_0 0 rfl ?_
  obtain ⟨x1, hx1, h⟩ := bnd h
  refine y_getI C dX3_readMint_1 fX3_46 rfl hx1 (fun gx1 => ?_)
  refine z_iconst C dX3_readMint_4 ?_
  refine z_icmp_lt 10 C dX3_readMint_5 (by decide) gx1 (by decide) (fun e2 => ?_) (fun e2 => ?_)
  ·
    have h := (if_pos e2).symm.trans h
    refine z_aload_n C dX3_readMint_10 1 rfl ?_
    obtain ⟨k3, h⟩ := gK_inv h
    obtain ⟨M4, hM4, h⟩ := bnd h
    refine y_cVv (st := []) C dX3_readMint_11 mX3_64 k3 (tX7_advance hC o1  hM4) rfl rfl (Nat.le_of_ble_eq_true rfl) (by decide) ?_
    refine z_aload_n C dX3_readMint_14 0 rfl ?_
    refine z_aload_n C dX3_readMint_15 1 rfl ?_
    obtain ⟨k5, h⟩ := gK_inv h
    obtain ⟨r6, hr6, h⟩ := bnd h
    refine y_cVi (st := []) C dX3_readMint_16 mX3_88 k5 (tX3_newNameFault hC o0 o1  hr6) rfl rfl (Nat.le_of_ble_eq_true rfl) (by decide) (fun gr6 => ?_)
    refine z_istore_n (lv' := [(0, .ref (G.2.2 + o0)), (1, .ref (G.2.2 + o1)), (2, .int (iv r6))]) C dX3_readMint_19 rfl (by decide) [1, 2, 0] rfl ?_
    refine z_iload_n C dX3_readMint_20 2 rfl ?_
    refine z_if_eq 26 C dX3_readMint_21 (by decide) gr6 (fun e7 => ?_) (fun e7 => ?_)
    ·
      have h := (if_pos e7).symm.trans h
      refine z_aload_n C dX3_readMint_26 0 rfl ?_
      obtain ⟨on8, hon8, h⟩ := bnd h
      refine y_getR C dX3_readMint_27 fX3_21 rfl hon8 ?_
      refine z_aload_n C dX3_readMint_30 0 rfl ?_
      obtain ⟨x9, hx9, h⟩ := bnd h
      refine y_getI C dX3_readMint_31 fX3_46 rfl hx9 (fun gx9 => ?_)
      refine z_aload_n C dX3_readMint_34 1 rfl ?_
      obtain ⟨x10, hx10, h⟩ := bnd h
      refine y_getI C dX3_readMint_35 fX3_91 rfl hx10 (fun gx10 => ?_)
      obtain ⟨M11, hM11, h⟩ := bnd h
      refine y_iast C dX3_readMint_38 hM11 ?_
      refine z_aload_n C dX3_readMint_39 1 rfl ?_
      obtain ⟨k12, h⟩ := gK_inv h
      obtain ⟨M13, hM13, h⟩ := bnd h
      refine y_cVv (st := []) C dX3_readMint_40 mX3_64 k12 (tX7_advance hC o1  hM13) rfl rfl (Nat.le_of_ble_eq_true rfl) (by decide) ?_
      refine z_aload_n C dX3_readMint_43 1 rfl ?_
      refine z_iconst C dX3_readMint_44 ?_
      refine z_bipush C dX3_readMint_45 (by decide) ?_
      obtain ⟨r14, hr14, h⟩ := bnd h
      refine y_cSi (st := []) C dX3_readMint_47 mX3_94 (tX3_numberFault hC o1 1 50 (by decide) (by decide) hr14) rfl rfl (Nat.le_of_ble_eq_true rfl) (by decide) (fun gr14 => ?_)
      refine z_istore_n (lv' := [(0, .ref (G.2.2 + o0)), (1, .ref (G.2.2 + o1)), (2, .int (iv r14))]) C dX3_readMint_50 rfl (by decide) [1, 2, 0] rfl ?_
      refine z_iload_n C dX3_readMint_51 2 rfl ?_
      refine z_if_eq 57 C dX3_readMint_52 (by decide) gr14 (fun e15 => ?_) (fun e15 => ?_)
      ·
        have h := (if_pos e15).symm.trans h
        refine z_aload_n C dX3_readMint_57 0 rfl ?_
        obtain ⟨on16, hon16, h⟩ := bnd h
        refine y_getR C dX3_readMint_58 fX3_24 rfl hon16 ?_
        refine z_aload_n C dX3_readMint_61 0 rfl ?_
        obtain ⟨x17, hx17, h⟩ := bnd h
        refine y_getI C dX3_readMint_62 fX3_46 rfl hx17 (fun gx17 => ?_)
        refine z_aload_n C dX3_readMint_65 1 rfl ?_
        obtain ⟨x18, hx18, h⟩ := bnd h
        refine y_getI C dX3_readMint_66 fX3_98 rfl hx18 (fun gx18 => ?_)
        obtain ⟨M19, hM19, h⟩ := bnd h
        refine y_iast C dX3_readMint_69 hM19 ?_
        refine z_aload_n C dX3_readMint_70 1 rfl ?_
        obtain ⟨k20, h⟩ := gK_inv h
        obtain ⟨M21, hM21, h⟩ := bnd h
        refine y_cVv (st := []) C dX3_readMint_71 mX3_64 k20 (tX7_advance hC o1  hM21) rfl rfl (Nat.le_of_ble_eq_true rfl) (by decide) ?_
        refine z_aload_n C dX3_readMint_74 1 rfl ?_
        refine z_iconst C dX3_readMint_75 ?_
        refine z_bipush C dX3_readMint_76 (by decide) ?_
        obtain ⟨r22, hr22, h⟩ := bnd h
        refine y_cSi (st := []) C dX3_readMint_78 mX3_94 (tX3_numberFault hC o1 1 9 (by decide) (by decide) hr22) rfl rfl (Nat.le_of_ble_eq_true rfl) (by decide) (fun gr22 => ?_)
        refine z_istore_n (lv' := [(0, .ref (G.2.2 + o0)), (1, .ref (G.2.2 + o1)), (2, .int (iv r22))]) C dX3_readMint_81 rfl (by decide) [1, 2, 0] rfl ?_
        refine z_iload_n C dX3_readMint_82 2 rfl ?_
        refine z_if_eq 88 C dX3_readMint_83 (by decide) gr22 (fun e23 => ?_) (fun e23 => ?_)
        ·
          have h := (if_pos e23).symm.trans h
          refine z_aload_n C dX3_readMint_88 0 rfl ?_
          obtain ⟨on24, hon24, h⟩ := bnd h
          refine y_getR C dX3_readMint_89 fX3_27 rfl hon24 ?_
          refine z_aload_n C dX3_readMint_92 0 rfl ?_
          obtain ⟨x25, hx25, h⟩ := bnd h
          refine y_getI C dX3_readMint_93 fX3_46 rfl hx25 (fun gx25 => ?_)
          refine z_aload_n C dX3_readMint_96 1 rfl ?_
          obtain ⟨x26, hx26, h⟩ := bnd h
          refine y_getI C dX3_readMint_97 fX3_98 rfl hx26 (fun gx26 => ?_)
          obtain ⟨M27, hM27, h⟩ := bnd h
          refine y_iast C dX3_readMint_100 hM27 ?_
          refine z_aload_n C dX3_readMint_101 1 rfl ?_
          obtain ⟨k28, h⟩ := gK_inv h
          obtain ⟨M29, hM29, h⟩ := bnd h
          refine y_cVv (st := []) C dX3_readMint_102 mX3_64 k28 (tX7_advance hC o1  hM29) rfl rfl (Nat.le_of_ble_eq_true rfl) (by decide) ?_
          refine z_aload_n C dX3_readMint_105 0 rfl ?_
          refine z_dup C dX3_readMint_106 rfl ?_
          obtain ⟨x30, hx30, h⟩ := bnd h
          refine y_getI C dX3_readMint_107 fX3_46 rfl hx30 (fun gx30 => ?_)
          refine z_iconst C dX3_readMint_110 ?_
          refine y_iadd C dX3_readMint_111 ?_
          obtain ⟨M31, hM31, h⟩ := bnd h
          refine y_putI C dX3_readMint_112 fX3_46 rfl rfl rfl rfl hM31 ?_
          refine z_iconst C dX3_readMint_115 ?_
          exact y_iretB C dX3_readMint_116 h (by decide)
        ·
          have h := (if_neg e23).symm.trans h
          refine z_iload_n C dX3_readMint_86 2 rfl ?_
          exact y_iretB C dX3_readMint_87 h gr22
      ·
        have h := (if_neg e15).symm.trans h
        refine z_iload_n C dX3_readMint_55 2 rfl ?_
        exact y_iretB C dX3_readMint_56 h gr14
    ·
      have h := (if_neg e7).symm.trans h
      refine z_iload_n C dX3_readMint_24 2 rfl ?_
      exact y_iretB C dX3_readMint_25 h gr6
  ·
    have h := (if_neg e2).symm.trans h
    refine z_iconst C dX3_readMint_8 ?_
    exact y_iretB C dX3_readMint_9 h (by decide)

set_option maxHeartbeats 4000000 in
set_option maxRecDepth 100000 in
theorem tX3_readTakes {G : Gx} {σ : State} (hC : Cy G σ) (o0 : Nat) (o1 : Nat) {M0 : Mm}  {R : Int × Mm} (h : uX3_readTakes o0 o1 M0 = some R) : Ct G σ (11) yX3_readTakes cX3_readTakes 5 (some .int) [.ref (G.2.2 + o0), .ref (G.2.2 + o1)] M0 0 0 (Qi R.1 R.2) := by
  refine Ct.of hC.1 (by decide +kernel) (Nat.le_of_ble_eq_true rfl) ?_
  intro p l e R0 s m args below meth c C
  show Jz G σ p l e R0 s m args below meth c 5 0 0 (Qi R.1 R.2) M0 0 0 0 [(0, .ref (G.2.2 + o0)), (1, .ref (G.2.2 + o1))] []
  unfold uX3_readTakes at h
  refine z_aload_n C dX3_readTakes_0 1 rfl ?_
  obtain ⟨k1, h⟩ := gK_inv h
  obtain ⟨M2, hM2, h⟩ := bnd h
  refine y_cVv (st := []) C dX3_readTakes_1 mX3_64 k1 (tX7_advance hC o1  hM2) rfl rfl (Nat.le_of_ble_eq_true rfl) (by decide) ?_
  refine z_aload_n C dX3_readTakes_4 0 rfl ?_
  refine z_aload_n C dX3_readTakes_5 1 rfl ?_
  obtain ⟨k3, h⟩ := gK_inv h
  obtain ⟨r4, hr4, h⟩ := bnd h
  refine y_cVi (st := []) C dX3_readTakes_6 mX3_101 k3 (tX3_toldWhoFault hC o0 o1  hr4) rfl rfl (Nat.le_of_ble_eq_true rfl) (by decide) (fun gr4 => ?_)
  refine z_istore_n (lv' := [(0, .ref (G.2.2 + o0)), (1, .ref (G.2.2 + o1)), (2, .int (iv r4))]) C dX3_readTakes_9 rfl (by decide) [1, 2, 0] rfl ?_
  refine z_iload_n C dX3_readTakes_10 2 rfl ?_
  refine z_if_eq 16 C dX3_readTakes_11 (by decide) gr4 (fun e5 => ?_) (fun e5 => ?_)
  ·
    have h := (if_pos e5).symm.trans h
    refine z_aload_n C dX3_readTakes_16 0 rfl ?_
    refine z_aload_n C dX3_readTakes_17 1 rfl ?_
    obtain ⟨x6, hx6, h⟩ := bnd h
    refine y_getI C dX3_readTakes_18 fX3_91 rfl hx6 (fun gx6 => ?_)
    obtain ⟨k7, h⟩ := gK_inv h
    obtain ⟨r8, hr8, h⟩ := bnd h
    refine y_cVi (st := []) C dX3_readTakes_21 mX3_104 k7 (tX3_findWho hC o0 x6 gx6 hr8) rfl rfl (Nat.le_of_ble_eq_true rfl) (by decide) (fun gr8 => ?_)
    refine z_istore_n (lv' := [(0, .ref (G.2.2 + o0)), (1, .ref (G.2.2 + o1)), (2, .int (iv r4)), (3, .int (iv r8))]) C dX3_readTakes_24 rfl (by decide) [1, 2, 3, 0] rfl ?_
    refine z_aload_n C dX3_readTakes_25 1 rfl ?_
    obtain ⟨k9, h⟩ := gK_inv h
    obtain ⟨M10, hM10, h⟩ := bnd h
    refine y_cVv (st := []) C dX3_readTakes_26 mX3_64 k9 (tX7_advance hC o1  hM10) rfl rfl (Nat.le_of_ble_eq_true rfl) (by decide) ?_
    refine z_aload_n C dX3_readTakes_29 0 rfl ?_
    refine z_aload_n C dX3_readTakes_30 1 rfl ?_
    obtain ⟨k11, h⟩ := gK_inv h
    obtain ⟨r12, hr12, h⟩ := bnd h
    refine y_cVi (st := []) C dX3_readTakes_31 mX3_101 k11 (tX3_toldWhoFault hC o0 o1  hr12) rfl rfl (Nat.le_of_ble_eq_true rfl) (by decide) (fun gr12 => ?_)
    refine z_istore_n (lv' := [(0, .ref (G.2.2 + o0)), (1, .ref (G.2.2 + o1)), (2, .int (iv r12)), (3, .int (iv r8))]) C dX3_readTakes_34 rfl (by decide) [1, 2, 0, 3] rfl ?_
    refine z_iload_n C dX3_readTakes_35 2 rfl ?_
    refine z_if_eq 41 C dX3_readTakes_36 (by decide) gr12 (fun e13 => ?_) (fun e13 => ?_)
    ·
      have h := (if_pos e13).symm.trans h
      refine z_iload_n C dX3_readTakes_41 3 rfl ?_
      refine z_bipush C dX3_readTakes_42 (by decide) ?_
      refine y_imul C dX3_readTakes_44 ?_
      refine z_aload_n C dX3_readTakes_45 0 rfl ?_
      refine z_aload_n C dX3_readTakes_46 1 rfl ?_
      obtain ⟨x14, hx14, h⟩ := bnd h
      refine y_getI C dX3_readTakes_47 fX3_91 rfl hx14 (fun gx14 => ?_)
      obtain ⟨k15, h⟩ := gK_inv h
      obtain ⟨r16, hr16, h⟩ := bnd h
      refine y_cVi (st := [.int (iv (w32 (r8 * 8)))]) C dX3_readTakes_50 mX3_104 k15 (tX3_findWho hC o0 x14 gx14 hr16) rfl rfl (Nat.le_of_ble_eq_true rfl) (by decide) (fun gr16 => ?_)
      refine y_iadd C dX3_readTakes_53 ?_
      refine z_istore (lv' := [(0, .ref (G.2.2 + o0)), (1, .ref (G.2.2 + o1)), (2, .int (iv r12)), (3, .int (iv r8)), (4, .int (iv (w32 ((w32 (r8 * 8)) + r16))))]) C dX3_readTakes_54 (by decide) [1, 2, 3, 4, 0] rfl ?_
      refine z_iload C dX3_readTakes_56 4 rfl ?_
      refine z_if_lt 82 C dX3_readTakes_58 (by decide) (w32_rng _) (fun e17 => ?_) (fun e17 => ?_)
      ·
        have h := (if_pos e17).symm.trans h
        refine z_iconst C dX3_readTakes_82 ?_
        exact y_iretB C dX3_readTakes_83 h (by decide)
      ·
        have h := (if_neg e17).symm.trans h
        refine z_iload C dX3_readTakes_61 4 rfl ?_
        refine z_aload_n C dX3_readTakes_63 0 rfl ?_
        obtain ⟨on18, hon18, h⟩ := bnd h
        refine y_getR C dX3_readTakes_64 fX3_30 rfl hon18 ?_
        obtain ⟨x19, hx19, h⟩ := bnd h
        refine y_alen C dX3_readTakes_67 hx19 (fun gx19 => ?_)
        refine z_icmp_ge 82 C dX3_readTakes_68 (by decide) (w32_rng _) gx19 (fun e20 => ?_) (fun e20 => ?_)
        ·
          have h := (if_pos e20).symm.trans h
          refine z_iconst C dX3_readTakes_82 ?_
          exact y_iretB C dX3_readTakes_83 h (by decide)
        ·
          have h := (if_neg e20).symm.trans h
          refine z_aload_n C dX3_readTakes_71 0 rfl ?_
          obtain ⟨on21, hon21, h⟩ := bnd h
          refine y_getR C dX3_readTakes_72 fX3_30 rfl hon21 ?_
          refine z_iload C dX3_readTakes_75 4 rfl ?_
          obtain ⟨x22, hx22, h⟩ := bnd h
          refine y_iald C dX3_readTakes_77 hx22 (fun gx22 => ?_)
          refine z_iconst C dX3_readTakes_78 ?_
          refine z_icmp_eq 84 C dX3_readTakes_79 (by decide) gx22 (by decide) (fun e23 => ?_) (fun e23 => ?_)
          ·
            have h := (if_pos e23).symm.trans h
            refine z_aload_n C dX3_readTakes_84 1 rfl ?_
            obtain ⟨k24, h⟩ := gK_inv h
            obtain ⟨M25, hM25, h⟩ := bnd h
            refine y_cVv (st := []) C dX3_readTakes_85 mX3_64 k24 (tX7_advance hC o1  hM25) rfl rfl (Nat.le_of_ble_eq_true rfl) (by decide) ?_
            refine z_aload_n C dX3_readTakes_88 1 rfl ?_
            refine z_iconst C dX3_readTakes_89 ?_
            refine z_sipush C dX3_readTakes_90 (by decide) ?_
            obtain ⟨r26, hr26, h⟩ := bnd h
            refine y_cSi (st := []) C dX3_readTakes_93 mX3_94 (tX3_numberFault hC o1 0 200 (by decide) (by decide) hr26) rfl rfl (Nat.le_of_ble_eq_true rfl) (by decide) (fun gr26 => ?_)
            refine z_istore_n (lv' := [(0, .ref (G.2.2 + o0)), (1, .ref (G.2.2 + o1)), (2, .int (iv r26)), (3, .int (iv r8)), (4, .int (iv (w32 ((w32 (r8 * 8)) + r16))))]) C dX3_readTakes_96 rfl (by decide) [1, 2, 0, 3, 4] rfl ?_
            refine z_iload_n C dX3_readTakes_97 2 rfl ?_
            refine z_if_eq 103 C dX3_readTakes_98 (by decide) gr26 (fun e27 => ?_) (fun e27 => ?_)
            ·
              have h := (if_pos e27).symm.trans h
              refine z_aload_n C dX3_readTakes_103 0 rfl ?_
              obtain ⟨on28, hon28, h⟩ := bnd h
              refine y_getR C dX3_readTakes_104 fX3_30 rfl hon28 ?_
              refine z_iload C dX3_readTakes_107 4 rfl ?_
              refine z_aload_n C dX3_readTakes_109 1 rfl ?_
              obtain ⟨x29, hx29, h⟩ := bnd h
              refine y_getI C dX3_readTakes_110 fX3_98 rfl hx29 (fun gx29 => ?_)
              obtain ⟨M30, hM30, h⟩ := bnd h
              refine y_iast C dX3_readTakes_113 hM30 ?_
              refine z_aload_n C dX3_readTakes_114 0 rfl ?_
              refine z_dup C dX3_readTakes_115 rfl ?_
              obtain ⟨x31, hx31, h⟩ := bnd h
              refine y_getI C dX3_readTakes_116 fX3_49 rfl hx31 (fun gx31 => ?_)
              refine z_iconst C dX3_readTakes_119 ?_
              refine y_iadd C dX3_readTakes_120 ?_
              obtain ⟨M32, hM32, h⟩ := bnd h
              refine y_putI C dX3_readTakes_121 fX3_49 rfl rfl rfl rfl hM32 ?_
              refine z_aload_n C dX3_readTakes_124 1 rfl ?_
              obtain ⟨k33, h⟩ := gK_inv h
              obtain ⟨M34, hM34, h⟩ := bnd h
              refine y_cVv (st := []) C dX3_readTakes_125 mX3_64 k33 (tX7_advance hC o1  hM34) rfl rfl (Nat.le_of_ble_eq_true rfl) (by decide) ?_
              refine z_iconst C dX3_readTakes_128 ?_
              exact y_iretB C dX3_readTakes_129 h (by decide)
            ·
              have h := (if_neg e27).symm.trans h
              refine z_iload_n C dX3_readTakes_101 2 rfl ?_
              exact y_iretB C dX3_readTakes_102 h gr26
          ·
            have h := (if_neg e23).symm.trans h
            refine z_iconst C dX3_readTakes_82 ?_
            exact y_iretB C dX3_readTakes_83 h (by decide)
    ·
      have h := (if_neg e13).symm.trans h
      refine z_iload_n C dX3_readTakes_39 2 rfl ?_
      exact y_iretB C dX3_readTakes_40 h gr12
  ·
    have h := (if_neg e5).symm.trans h
    refine z_iload_n C dX3_readTakes_14 2 rfl ?_
    exact y_iretB C dX3_readTakes_15 h gr4

set_option maxHeartbeats 4000000 in
set_option maxRecDepth 100000 in
theorem tX3_readSetting {G : Gx} {σ : State} (hC : Cy G σ) (o0 : Nat) (o1 : Nat) {M0 : Mm}  {R : Int × Mm} (h : uX3_readSetting o0 o1 M0 = some R) : Ct G σ (11) yX3_readSetting cX3_readSetting 4 (some .int) [.ref (G.2.2 + o0), .ref (G.2.2 + o1)] M0 0 0 (Qi R.1 R.2) := by
  refine Ct.of hC.1 (by decide +kernel) (Nat.le_of_ble_eq_true rfl) ?_
  intro p l e R0 s m args below meth c C
  show Jz G σ p l e R0 s m args below meth c 4 0 0 (Qi R.1 R.2) M0 0 0 0 [(0, .ref (G.2.2 + o0)), (1, .ref (G.2.2 + o1))] []
  unfold uX3_readSetting at h
  refine z_aload_n C dX3_readSetting_0 1 rfl ?_
  obtain ⟨x1, hx1, h⟩ := bnd h
  refine y_getI C dX3_readSetting_1 fX3_69 rfl hx1 (fun gx1 => ?_)
  refine z_bipush C dX3_readSetting_4 (by decide) ?_
  refine y_isub C dX3_readSetting_6 ?_
  refine z_istore_n (lv' := [(0, .ref (G.2.2 + o0)), (1, .ref (G.2.2 + o1)), (2, .int (iv (w32 (x1 - 15))))]) C dX3_readSetting_7 rfl (by decide) [1, 2, 0] rfl ?_
  refine z_iload_n C dX3_readSetting_8 2 rfl ?_
  refine z_if_lt 17 C dX3_readSetting_9 (by decide) (w32_rng _) (fun e2 => ?_) (fun e2 => ?_)
  ·
    have h := (if_pos e2).symm.trans h
    refine z_iconst C dX3_readSetting_17 ?_
    exact y_iretB C dX3_readSetting_18 h (by decide)
  ·
    have h := (if_neg e2).symm.trans h
    refine z_iload_n C dX3_readSetting_12 2 rfl ?_
    refine z_iconst C dX3_readSetting_13 ?_
    refine z_icmp_lt 19 C dX3_readSetting_14 (by decide) (w32_rng _) (by decide) (fun e3 => ?_) (fun e3 => ?_)
    ·
      have h := (if_pos e3).symm.trans h
      refine z_aload_n C dX3_readSetting_19 0 rfl ?_
      obtain ⟨x4, hx4, h⟩ := bnd h
      refine y_getI C dX3_readSetting_20 fX3_52 rfl hx4 (fun gx4 => ?_)
      refine z_iload_n C dX3_readSetting_23 2 rfl ?_
      refine z_ishr (shr32 x4 (w32 (x1 - 15))) C dX3_readSetting_24 (iv_self _).symm ?_
      refine z_iconst C dX3_readSetting_25 ?_
      refine z_iand (and32 (shr32 x4 (w32 (x1 - 15))) 1) C dX3_readSetting_26 (iv_self _).symm ?_
      refine z_if_eq 32 C dX3_readSetting_27 (by decide) (and32_rng _ _) (fun e5 => ?_) (fun e5 => ?_)
      ·
        have h := (if_pos e5).symm.trans h
        refine z_aload_n C dX3_readSetting_32 0 rfl ?_
        refine z_dup C dX3_readSetting_33 rfl ?_
        obtain ⟨x6, hx6, h⟩ := bnd h
        refine y_getI C dX3_readSetting_34 fX3_52 rfl hx6 (fun gx6 => ?_)
        refine z_iconst C dX3_readSetting_37 ?_
        refine z_iload_n C dX3_readSetting_38 2 rfl ?_
        refine z_ishl (shl32 1 (w32 (x1 - 15))) C dX3_readSetting_39 (iv_self _).symm ?_
        refine z_ior (or32 x6 (shl32 1 (w32 (x1 - 15)))) C dX3_readSetting_40 (iv_self _).symm ?_
        obtain ⟨M7, hM7, h⟩ := bnd h
        refine y_putI C dX3_readSetting_41 fX3_52 rfl rfl rfl rfl hM7 ?_
        refine z_aload_n C dX3_readSetting_44 1 rfl ?_
        obtain ⟨k8, h⟩ := gK_inv h
        obtain ⟨M9, hM9, h⟩ := bnd h
        refine y_cVv (st := []) C dX3_readSetting_45 mX3_64 k8 (tX7_advance hC o1  hM9) rfl rfl (Nat.le_of_ble_eq_true rfl) (by decide) ?_
        refine z_aload_n C dX3_readSetting_48 1 rfl ?_
        refine y_gets (Cn := "FaceCoins$Law") (nm := "LEAST") (ds := "[I") 1 C hC.2 dX3_readSetting_49 (gt_3 (i := 88) (by decide +kernel) (by decide +kernel)) (fun a10 ha10 => ?_)
        refine z_iload_n C dX3_readSetting_52 2 rfl ?_
        obtain ⟨x11, hx11, h⟩ := bnd h
        refine y_sald C dX3_readSetting_53 ha10 hx11 (fun gx11 => ?_)
        refine y_gets (Cn := "FaceCoins$Law") (nm := "MOST") (ds := "[I") 2 C hC.2 dX3_readSetting_54 (gt_3 (i := 90) (by decide +kernel) (by decide +kernel)) (fun a12 ha12 => ?_)
        refine z_iload_n C dX3_readSetting_57 2 rfl ?_
        obtain ⟨x13, hx13, h⟩ := bnd h
        refine y_sald C dX3_readSetting_58 ha12 hx13 (fun gx13 => ?_)
        obtain ⟨r14, hr14, h⟩ := bnd h
        refine y_cSi (st := []) C dX3_readSetting_59 mX3_94 (tX3_numberFault hC o1 x11 x13 gx11 gx13 hr14) rfl rfl (Nat.le_of_ble_eq_true rfl) (by decide) (fun gr14 => ?_)
        refine z_istore_n (lv' := [(0, .ref (G.2.2 + o0)), (1, .ref (G.2.2 + o1)), (2, .int (iv (w32 (x1 - 15)))), (3, .int (iv r14))]) C dX3_readSetting_62 rfl (by decide) [1, 2, 3, 0] rfl ?_
        refine z_iload_n C dX3_readSetting_63 3 rfl ?_
        refine z_if_eq 69 C dX3_readSetting_64 (by decide) gr14 (fun e15 => ?_) (fun e15 => ?_)
        ·
          have h := (if_pos e15).symm.trans h
          refine z_aload_n C dX3_readSetting_69 0 rfl ?_
          obtain ⟨on16, hon16, h⟩ := bnd h
          refine y_getR C dX3_readSetting_70 fX3_33 rfl hon16 ?_
          refine z_iload_n C dX3_readSetting_73 2 rfl ?_
          refine z_aload_n C dX3_readSetting_74 1 rfl ?_
          obtain ⟨x17, hx17, h⟩ := bnd h
          refine y_getI C dX3_readSetting_75 fX3_98 rfl hx17 (fun gx17 => ?_)
          obtain ⟨M18, hM18, h⟩ := bnd h
          refine y_iast C dX3_readSetting_78 hM18 ?_
          refine z_aload_n C dX3_readSetting_79 1 rfl ?_
          obtain ⟨k19, h⟩ := gK_inv h
          obtain ⟨M20, hM20, h⟩ := bnd h
          refine y_cVv (st := []) C dX3_readSetting_80 mX3_64 k19 (tX7_advance hC o1  hM20) rfl rfl (Nat.le_of_ble_eq_true rfl) (by decide) ?_
          refine z_iconst C dX3_readSetting_83 ?_
          exact y_iretB C dX3_readSetting_84 h (by decide)
        ·
          have h := (if_neg e15).symm.trans h
          refine z_iload_n C dX3_readSetting_67 3 rfl ?_
          exact y_iretB C dX3_readSetting_68 h gr14
      ·
        have h := (if_neg e5).symm.trans h
        refine z_iconst C dX3_readSetting_30 ?_
        exact y_iretB C dX3_readSetting_31 h (by decide)
    ·
      have h := (if_neg e3).symm.trans h
      refine z_iconst C dX3_readSetting_17 ?_
      exact y_iretB C dX3_readSetting_18 h (by decide)

set_option maxHeartbeats 4000000 in
set_option maxRecDepth 100000 in
theorem tX4_fits {G : Gx} {σ : State} (hC : Cy G σ) (o0 : Nat) (o1 : Nat) (v2 : Int) (v3 : Int) {M0 : Mm} (gv2 : rg v2) (gv3 : rg v3) {R : Int} (h : uX4_fits o0 o1 v2 v3 M0 = some R) : Ct G σ (4) yX4_fits cX4_fits 6 (some .boolean) [.ref (G.2.2 + o0), .ref (G.2.2 + o1), .int (iv v2), .int (iv v3)] M0 0 0 (Qb R M0) := by
  refine Ct.of hC.1 (by decide +kernel) (Nat.le_of_ble_eq_true rfl) ?_
  intro p l e R0 s m args below meth c C
  show Jz G σ p l e R0 s m args below meth c 6 0 0 (Qb R M0) M0 0 0 0 [(0, .ref (G.2.2 + o0)), (1, .ref (G.2.2 + o1)), (2, .int (iv v2)), (3, .int (iv v3))] []
  have hb73 : ∀ (o0 : Nat) (o1 : Nat) (v2 : Int) (v4 : Int), (rg v2) → (rg v4) → uX4_fits_b73 o0 o1 v2 v4 M0 = some R → Jz G σ p l e R0 s m args below meth c 6 0 0 (Qb R M0) M0 0 0 73 [(0, .ref (G.2.2 + o0)), (1, .ref (G.2.2 + o1)), (2, .int (iv v2)), (4, .int (iv v4))] [] := by
    intro o0 o1 v2 v4  gv2 gv4 h
    unfold uX4_fits_b73 at h
    refine z_iload C dX4_fits_73 3 rfl ?_
    refine z_aload_n C dX4_fits_75 1 rfl ?_
    obtain ⟨on1, hon1, h⟩ := bnd h
    refine y_getR C dX4_fits_76 fX4_65 rfl hon1 ?_
    obtain ⟨on2, hon2, h⟩ := bnd h
    refine y_getR C dX4_fits_79 fX4_69 rfl hon2 ?_
    refine z_iload_n C dX4_fits_82 2 rfl ?_
    obtain ⟨x3, hx3, h⟩ := bnd h
    refine y_iald C dX4_fits_83 hx3 (fun gx3 => ?_)
    refine z_icmp_ne 100 C dX4_fits_84 (by decide) gv4 gx3 (fun e4 => ?_) (fun e4 => ?_)
    ·
      have h := (if_neg e4).symm.trans h
      refine z_iconst C dX4_fits_100 ?_
      exact y_zretP C dX4_fits_101 h (by decide)
    ·
      have h := (if_pos e4).symm.trans h
      refine z_aload_n C dX4_fits_87 0 rfl ?_
      refine z_aload_n C dX4_fits_88 1 rfl ?_
      refine z_iload_n C dX4_fits_89 2 rfl ?_
      obtain ⟨k5, h⟩ := gK_inv h
      obtain ⟨r6, hr6, h⟩ := bnd h
      refine y_cVb (st := []) C dX4_fits_90 mX4_74 k5 (tX4_depthsFit hC o0 o1 v2 gv2 hr6) rfl rfl (Nat.le_of_ble_eq_true rfl) (by decide) (fun br6 => ?_)
      refine z_if_eq 100 C dX4_fits_93 (by decide) (rg01 br6) (fun e7 => ?_) (fun e7 => ?_)
      ·
        have h := (if_pos e7).symm.trans h
        refine z_iconst C dX4_fits_100 ?_
        exact y_zretP C dX4_fits_101 h (by decide)
      ·
        have h := (if_neg e7).symm.trans h
        refine z_iconst C dX4_fits_96 ?_
        refine z_goto 101 C dX4_fits_97 (by decide) ?_
        exact y_zretP C dX4_fits_101 h (by decide)
  have hb6 : ∀ (o0 : Nat) (o1 : Nat) (v2 : Int) (v4 : Int) (v5 : Int), (rg v2) → (rg v4) → (rg v5) → uX4_fits_b6 o0 o1 v2 v4 v5 M0 = some R → Jz G σ p l e R0 s m args below meth c 6 0 0 (Qb R M0) M0 0 0 6 [(0, .ref (G.2.2 + o0)), (1, .ref (G.2.2 + o1)), (2, .int (iv v2)), (4, .int (iv v4)), (5, .int (iv v5))] [] := by
    intro o0 o1 v2 v4 v5  gv2 gv4 gv5 h
    unfold uX4_fits_b6 at h
    obtain ⟨b6, hb6_, hc6⟩ := bnd h
    have hL6 : ∀ (n : Nat) (v4 : Int) (v5 : Int), (rg v4) → (rg v5) → lp (uX4_fits_f6 o0 o1 v2 M0) n (v4, v5) = some b6 → Jz G σ p l e R0 s m args below meth c 6 0 0 (Qb R M0) M0 0 0 6 [(0, .ref (G.2.2 + o0)), (1, .ref (G.2.2 + o1)), (2, .int (iv v2)), (4, .int (iv v4)), (5, .int (iv v5))] [] := by
      intro n; induction n with
      | zero => intro v4 v5 gv4 gv5 hq; exact (lp_0 hq).elim
      | succ n6 ih6 =>
        intro v4 v5 gv4 gv5 hq
        obtain ⟨z6, h, hZ6⟩ := lp_s hq
        have h : uX4_fits_s6 o0 o1 v2 M0 v4 v5 = some z6 := h
        unfold uX4_fits_s6 at h
        refine z_iload C dX4_fits_6 4 rfl ?_
        refine z_aload_n C dX4_fits_8 0 rfl ?_
        obtain ⟨x8, hx8, h⟩ := bnd h
        refine y_getI C dX4_fits_9 fX4_35 rfl hx8 (fun gx8 => ?_)
        refine z_icmp_ge 73 C dX4_fits_12 (by decide) gv5 gx8 (fun e9 => ?_) (fun e9 => ?_)
        ·
          have h := (if_pos e9).symm.trans h
          have h : uX4_fits_b73 o0 o1 v2 v4 M0 = some R := lp_ex (K := (uX4_fits_c6 o0 o1 v2 M0)) h hZ6 hc6
          refine z_drop (lv' := [(0, .ref (G.2.2 + o0)), (1, .ref (G.2.2 + o1)), (2, .int (iv v2)), (4, .int (iv v4))]) [0, 1, 2, 3] rfl ?_
          exact hb73 o0 o1 v2 v4  gv2 gv4 h
        ·
          have h := (if_neg e9).symm.trans h
          refine z_aload_n C dX4_fits_15 1 rfl ?_
          refine z_aload_n C dX4_fits_16 0 rfl ?_
          obtain ⟨on10, hon10, h⟩ := bnd h
          refine y_getR C dX4_fits_17 fX4_18 rfl hon10 ?_
          refine z_iload C dX4_fits_20 4 rfl ?_
          obtain ⟨x11, hx11, h⟩ := bnd h
          refine y_iald C dX4_fits_22 hx11 (fun gx11 => ?_)
          obtain ⟨k12, h⟩ := gK_inv h
          obtain ⟨r13, hr13, h⟩ := bnd h
          refine y_cVb (st := []) C dX4_fits_23 mX4_59 k12 (tX8_isMint hC o1 x11 gx11 hr13) rfl rfl (Nat.le_of_ble_eq_true rfl) (by decide) (fun br13 => ?_)
          refine z_if_ne 31 C dX4_fits_26 (by decide) (rg01 br13) (fun e14 => ?_) (fun e14 => ?_)
          ·
            have h := (if_neg e14).symm.trans h
            refine z_iload C dX4_fits_31 3 rfl ?_
            refine z_aload_n C dX4_fits_33 1 rfl ?_
            obtain ⟨on15, hon15, h⟩ := bnd h
            refine y_getR C dX4_fits_34 fX4_38 rfl hon15 ?_
            obtain ⟨on16, hon16, h⟩ := bnd h
            refine y_getR C dX4_fits_37 fX4_62 rfl hon16 ?_
            refine z_aload_n C dX4_fits_40 0 rfl ?_
            obtain ⟨on17, hon17, h⟩ := bnd h
            refine y_getR C dX4_fits_41 fX4_18 rfl hon17 ?_
            refine z_iload C dX4_fits_44 4 rfl ?_
            obtain ⟨x18, hx18, h⟩ := bnd h
            refine y_iald C dX4_fits_46 hx18 (fun gx18 => ?_)
            obtain ⟨x19, hx19, h⟩ := bnd h
            refine y_iald C dX4_fits_47 hx19 (fun gx19 => ?_)
            refine y_isub C dX4_fits_48 ?_
            refine z_istore (lv' := [(0, .ref (G.2.2 + o0)), (1, .ref (G.2.2 + o1)), (2, .int (iv v2)), (4, .int (iv (w32 (v4 - x19)))), (5, .int (iv v5))]) C dX4_fits_49 (by decide) [1, 2, 3, 0, 4] rfl ?_
            refine z_iload C dX4_fits_51 3 rfl ?_
            refine z_aload_n C dX4_fits_53 1 rfl ?_
            obtain ⟨on20, hon20, h⟩ := bnd h
            refine y_getR C dX4_fits_54 fX4_38 rfl hon20 ?_
            obtain ⟨on21, hon21, h⟩ := bnd h
            refine y_getR C dX4_fits_57 fX4_44 rfl hon21 ?_
            refine z_iconst C dX4_fits_60 ?_
            obtain ⟨x22, hx22, h⟩ := bnd h
            refine y_iald C dX4_fits_61 hx22 (fun gx22 => ?_)
            refine z_icmp_ge 67 C dX4_fits_62 (by decide) (w32_rng _) gx22 (fun e23 => ?_) (fun e23 => ?_)
            ·
              have h := (if_pos e23).symm.trans h
              refine y_iinc (lv' := [(0, .ref (G.2.2 + o0)), (1, .ref (G.2.2 + o1)), (2, .int (iv v2)), (4, .int (iv (w32 (v4 - x19)))), (5, .int (iv (w32 (v5 + 1))))]) C dX4_fits_67 4 rfl (by decide) [1, 2, 3, 4, 0] rfl ?_
              refine z_goto 6 C dX4_fits_70 (by decide) ?_
              exact ih6 (w32 (v4 - x19)) (w32 (v5 + 1)) (w32_rng _) (w32_rng _) (lp_back h hZ6)
            ·
              have h := (if_neg e23).symm.trans h
              refine z_iconst C dX4_fits_65 ?_
              have h := lp_ret (K := (uX4_fits_c6 o0 o1 v2 M0)) h hZ6 hc6
              exact y_zretP C dX4_fits_66 h (by decide)
          ·
            have h := (if_pos e14).symm.trans h
            refine z_iconst C dX4_fits_29 ?_
            have h := lp_ret (K := (uX4_fits_c6 o0 o1 v2 M0)) h hZ6 hc6
            exact y_zretP C dX4_fits_30 h (by decide)
    exact hL6 _ v4 v5 gv4 gv5 hb6_
  unfold uX4_fits at h
  refine z_iload_n C dX4_fits_0 3 rfl ?_
  refine z_istore (lv' := [(0, .ref (G.2.2 + o0)), (1, .ref (G.2.2 + o1)), (2, .int (iv v2)), (3, .int (iv v3)), (4, .int (iv v3))]) C dX4_fits_1 (by decide) [1, 2, 3, 4, 0] rfl ?_
  refine z_iconst C dX4_fits_3 ?_
  refine z_istore (lv' := [(0, .ref (G.2.2 + o0)), (1, .ref (G.2.2 + o1)), (2, .int (iv v2)), (3, .int (iv v3)), (4, .int (iv v3)), (5, .int (iv 0))]) C dX4_fits_4 (by decide) [1, 2, 3, 4, 5, 0] rfl ?_
  refine z_drop (lv' := [(0, .ref (G.2.2 + o0)), (1, .ref (G.2.2 + o1)), (2, .int (iv v2)), (4, .int (iv v3)), (5, .int (iv 0))]) [0, 1, 2, 4, 5] rfl ?_
  exact hb6 o0 o1 v2 v3 0  gv2 gv3 (by decide) h

set_option maxHeartbeats 4000000 in
set_option maxRecDepth 100000 in
theorem tX4_note {G : Gx} {σ : State} (hC : Cy G σ) (o0 : Nat) (o1 : Nat) (v2 : Int) {M0 : Mm} (gv2 : rg v2) {R : Int × Mm} (h : uX4_note o0 o1 v2 M0 = some R) : Ct G σ (4) yX4_note cX4_note 6 (some .int) [.ref (G.2.2 + o0), .ref (G.2.2 + o1), .int (iv v2)] M0 0 0 (Qi R.1 R.2) := by
  refine Ct.of hC.1 (by decide +kernel) (Nat.le_of_ble_eq_true rfl) ?_
  intro p l e R0 s m args below meth c C
  show Jz G σ p l e R0 s m args below meth c 6 0 0 (Qi R.1 R.2) M0 0 0 0 [(0, .ref (G.2.2 + o0)), (1, .ref (G.2.2 + o1)), (2, .int (iv v2))] []
  have hb109 : ∀ (v3 : Int) (M : Mm), (rg v3) → uX4_note_b109 v3 M = some R → Jz G σ p l e R0 s m args below meth c 6 0 0 (Qi R.1 R.2) M 0 0 109 [(3, .int (iv v3))] [] := by
    intro v3 M gv3 h
    unfold uX4_note_b109 at h
    refine z_iload_n C dX4_note_109 0 rfl ?_
    exact y_iretB C dX4_note_110 h gv3
  have hb5 : ∀ (o0 : Nat) (o1 : Nat) (v2 : Int) (v3 : Int) (v4 : Int) (M : Mm), (rg v2) → (rg v3) → (rg v4) → uX4_note_b5 o0 o1 v2 v3 v4 M = some R → Jz G σ p l e R0 s m args below meth c 6 0 0 (Qi R.1 R.2) M 0 0 5 [(0, .ref (G.2.2 + o0)), (1, .ref (G.2.2 + o1)), (2, .int (iv v2)), (3, .int (iv v3)), (4, .int (iv v4))] [] := by
    intro o0 o1 v2 v3 v4 M gv2 gv3 gv4 h
    unfold uX4_note_b5 at h
    obtain ⟨b5, hb5_, hc5⟩ := bnd h
    have hL5 : ∀ (n : Nat) (v3 : Int) (v4 : Int) (M : Mm), (rg v3) → (rg v4) → lp (uX4_note_f5 o0 o1 v2) n (v3, v4, M) = some b5 → Jz G σ p l e R0 s m args below meth c 6 0 0 (Qi R.1 R.2) M 0 0 5 [(0, .ref (G.2.2 + o0)), (1, .ref (G.2.2 + o1)), (2, .int (iv v2)), (3, .int (iv v3)), (4, .int (iv v4))] [] := by
      intro n; induction n with
      | zero => intro v3 v4 M gv3 gv4 hq; exact (lp_0 hq).elim
      | succ n5 ih5 =>
        intro v3 v4 M gv3 gv4 hq
        obtain ⟨z5, h, hZ5⟩ := lp_s hq
        have h : uX4_note_s5 o0 o1 v2 v3 v4 M = some z5 := h
        unfold uX4_note_s5 at h
        refine z_iload C dX4_note_5 4 rfl ?_
        refine z_aload_n C dX4_note_7 0 rfl ?_
        obtain ⟨x1, hx1, h⟩ := bnd h
        refine y_getI C dX4_note_8 fX4_35 rfl hx1 (fun gx1 => ?_)
        refine z_icmp_ge 109 C dX4_note_11 (by decide) gv4 gx1 (fun e2 => ?_) (fun e2 => ?_)
        ·
          have h := (if_pos e2).symm.trans h
          have h : uX4_note_b109 v3 M = some R := lp_ex (K := (uX4_note_c5 o0 o1 v2)) h hZ5 hc5
          refine z_drop (lv' := [(3, .int (iv v3))]) [3] rfl ?_
          exact hb109 v3 M gv3 h
        ·
          have h := (if_neg e2).symm.trans h
          refine z_aload_n C dX4_note_14 1 rfl ?_
          refine z_iload_n C dX4_note_15 2 rfl ?_
          refine z_aload_n C dX4_note_16 0 rfl ?_
          obtain ⟨x3, hx3, h⟩ := bnd h
          refine y_getI C dX4_note_17 fX4_35 rfl hx3 (fun gx3 => ?_)
          refine z_iconst C dX4_note_20 ?_
          refine y_isub C dX4_note_21 ?_
          refine z_iload C dX4_note_22 4 rfl ?_
          refine y_isub C dX4_note_24 ?_
          obtain ⟨k4, h⟩ := gK_inv h
          obtain ⟨r5, hr5, h⟩ := bnd h
          refine y_cVi (st := []) C dX4_note_25 mX4_87 k4 (tX8_whoShown hC o1 v2 (w32 ((w32 (x3 - 1)) - v4)) gv2 (w32_rng _) hr5) rfl rfl (Nat.le_of_ble_eq_true rfl) (by decide) (fun gr5 => ?_)
          refine z_istore (lv' := [(0, .ref (G.2.2 + o0)), (1, .ref (G.2.2 + o1)), (2, .int (iv v2)), (3, .int (iv v3)), (4, .int (iv v4)), (5, .int (iv r5))]) C dX4_note_28 (by decide) [1, 2, 3, 4, 5, 0] rfl ?_
          refine z_aload_n C dX4_note_30 0 rfl ?_
          obtain ⟨on6, hon6, h⟩ := bnd h
          refine y_getR C dX4_note_31 fX4_15 rfl hon6 ?_
          refine z_iload C dX4_note_34 4 rfl ?_
          refine z_dup2 C dX4_note_36 rfl rfl ?_
          obtain ⟨x7, hx7, h⟩ := bnd h
          refine y_iald C dX4_note_37 hx7 (fun gx7 => ?_)
          refine z_iconst C dX4_note_38 ?_
          refine z_aload_n C dX4_note_39 0 rfl ?_
          obtain ⟨on8, hon8, h⟩ := bnd h
          refine y_getR C dX4_note_40 fX4_18 rfl hon8 ?_
          refine z_iload C dX4_note_43 4 rfl ?_
          obtain ⟨x9, hx9, h⟩ := bnd h
          refine y_iald C dX4_note_45 hx9 (fun gx9 => ?_)
          refine z_ishl (shl32 1 x9) C dX4_note_46 (iv_self _).symm ?_
          refine z_ior (or32 x7 (shl32 1 x9)) C dX4_note_47 (iv_self _).symm ?_
          obtain ⟨M10, hM10, h⟩ := bnd h
          refine y_iast C dX4_note_48 hM10 ?_
          refine z_iload C dX4_note_49 5 rfl ?_
          refine z_iconst C dX4_note_51 ?_
          refine z_icmp_ne 89 C dX4_note_52 (by decide) gr5 (by decide) (fun e11 => ?_) (fun e11 => ?_)
          ·
            have h := (if_neg e11).symm.trans h
            refine z_aload_n C dX4_note_89 0 rfl ?_
            obtain ⟨on12, hon12, h⟩ := bnd h
            refine y_getR C dX4_note_90 fX4_9 rfl hon12 ?_
            refine z_iload C dX4_note_93 4 rfl ?_
            refine z_dup2 C dX4_note_95 rfl rfl ?_
            obtain ⟨x13, hx13, h⟩ := bnd h
            refine y_iald C dX4_note_96 hx13 (fun gx13 => ?_)
            refine z_iconst C dX4_note_97 ?_
            refine z_iload C dX4_note_98 5 rfl ?_
            refine z_ishl (shl32 1 r5) C dX4_note_100 (iv_self _).symm ?_
            refine z_ior (or32 x13 (shl32 1 r5)) C dX4_note_101 (iv_self _).symm ?_
            obtain ⟨M14, hM14, h⟩ := bnd h
            refine y_iast C dX4_note_102 hM14 ?_
            refine y_iinc (lv' := [(0, .ref (G.2.2 + o0)), (1, .ref (G.2.2 + o1)), (2, .int (iv v2)), (3, .int (iv v3)), (4, .int (iv (w32 (v4 + 1)))), (5, .int (iv r5))]) C dX4_note_103 4 rfl (by decide) [1, 2, 3, 4, 0, 5] rfl ?_
            refine z_goto 5 C dX4_note_106 (by decide) ?_
            refine z_drop (lv' := [(0, .ref (G.2.2 + o0)), (1, .ref (G.2.2 + o1)), (2, .int (iv v2)), (3, .int (iv v3)), (4, .int (iv (w32 (v4 + 1))))]) [0, 1, 2, 3, 4] rfl ?_
            exact ih5 v3 (w32 (v4 + 1)) M14 gv3 (w32_rng _) (lp_back h hZ5)
          ·
            have h := (if_pos e11).symm.trans h
            refine z_aload_n C dX4_note_55 0 rfl ?_
            obtain ⟨on15, hon15, h⟩ := bnd h
            refine y_getR C dX4_note_56 fX4_9 rfl hon15 ?_
            refine z_iload C dX4_note_59 4 rfl ?_
            refine z_dup2 C dX4_note_61 rfl rfl ?_
            obtain ⟨x16, hx16, h⟩ := bnd h
            refine y_iald C dX4_note_62 hx16 (fun gx16 => ?_)
            refine z_iconst C dX4_note_63 ?_
            refine z_aload_n C dX4_note_64 1 rfl ?_
            obtain ⟨on17, hon17, h⟩ := bnd h
            refine y_getR C dX4_note_65 fX4_38 rfl hon17 ?_
            obtain ⟨x18, hx18, h⟩ := bnd h
            refine y_getI C dX4_note_68 fX4_22 rfl hx18 (fun gx18 => ?_)
            refine z_ishl (shl32 1 x18) C dX4_note_71 (iv_self _).symm ?_
            refine z_iconst C dX4_note_72 ?_
            refine y_isub C dX4_note_73 ?_
            refine z_ior (or32 x16 (w32 ((shl32 1 x18) - 1))) C dX4_note_74 (iv_self _).symm ?_
            obtain ⟨M19, hM19, h⟩ := bnd h
            refine y_iast C dX4_note_75 hM19 ?_
            refine z_iload_n C dX4_note_76 3 rfl ?_
            refine z_aload_n C dX4_note_77 1 rfl ?_
            obtain ⟨on20, hon20, h⟩ := bnd h
            refine y_getR C dX4_note_78 fX4_38 rfl hon20 ?_
            obtain ⟨x21, hx21, h⟩ := bnd h
            refine y_getI C dX4_note_81 fX4_22 rfl hx21 (fun gx21 => ?_)
            refine y_imul C dX4_note_84 ?_
            refine z_istore_n (lv' := [(0, .ref (G.2.2 + o0)), (1, .ref (G.2.2 + o1)), (2, .int (iv v2)), (3, .int (iv (w32 (v3 * x21)))), (4, .int (iv v4)), (5, .int (iv r5))]) C dX4_note_85 rfl (by decide) [1, 2, 3, 0, 4, 5] rfl ?_
            refine z_goto 103 C dX4_note_86 (by decide) ?_
            refine y_iinc (lv' := [(0, .ref (G.2.2 + o0)), (1, .ref (G.2.2 + o1)), (2, .int (iv v2)), (3, .int (iv (w32 (v3 * x21)))), (4, .int (iv (w32 (v4 + 1)))), (5, .int (iv r5))]) C dX4_note_103 4 rfl (by decide) [1, 2, 3, 4, 0, 5] rfl ?_
            refine z_goto 5 C dX4_note_106 (by decide) ?_
            refine z_drop (lv' := [(0, .ref (G.2.2 + o0)), (1, .ref (G.2.2 + o1)), (2, .int (iv v2)), (3, .int (iv (w32 (v3 * x21)))), (4, .int (iv (w32 (v4 + 1))))]) [0, 1, 2, 3, 4] rfl ?_
            exact ih5 (w32 (v3 * x21)) (w32 (v4 + 1)) M19 (w32_rng _) (w32_rng _) (lp_back h hZ5)
    exact hL5 _ v3 v4 M gv3 gv4 hb5_
  unfold uX4_note at h
  refine z_iconst C dX4_note_0 ?_
  refine z_istore_n (lv' := [(0, .ref (G.2.2 + o0)), (1, .ref (G.2.2 + o1)), (2, .int (iv v2)), (3, .int (iv 1))]) C dX4_note_1 rfl (by decide) [1, 2, 3, 0] rfl ?_
  refine z_iconst C dX4_note_2 ?_
  refine z_istore (lv' := [(0, .ref (G.2.2 + o0)), (1, .ref (G.2.2 + o1)), (2, .int (iv v2)), (3, .int (iv 1)), (4, .int (iv 0))]) C dX4_note_3 (by decide) [1, 2, 3, 4, 0] rfl ?_
  exact hb5 o0 o1 v2 1 0 M0 gv2 (by decide) (by decide) h

set_option maxHeartbeats 4000000 in
set_option maxRecDepth 100000 in
theorem tX5_readOfWho {G : Gx} {σ : State} (hC : Cy G σ) (o0 : Nat) (o1 : Nat) (o2 : Nat) (v3 : Int) {M0 : Mm} (gv3 : rg v3) {R : Int × Mm} (h : uX5_readOfWho o0 o1 o2 v3 M0 = some R) : Ct G σ (11) yX5_readOfWho cX5_readOfWho 5 (some .int) [.ref (G.2.2 + o0), .ref (G.2.2 + o1), .ref (G.2.2 + o2), .int (iv v3)] M0 0 0 (Qi R.1 R.2) := by
  refine Ct.of hC.1 (by decide +kernel) (Nat.le_of_ble_eq_true rfl) ?_
  intro p l e R0 s m args below meth c C
  show Jz G σ p l e R0 s m args below meth c 5 0 0 (Qi R.1 R.2) M0 0 0 0 [(0, .ref (G.2.2 + o0)), (1, .ref (G.2.2 + o1)), (2, .ref (G.2.2 + o2)), (3, .int (iv v3))] []
  unfold uX5_readOfWho at h
  refine z_aload_n C dX5_readOfWho_0 2 rfl ?_
  refine z_aload_n C dX5_readOfWho_1 1 rfl ?_
  obtain ⟨k1, h⟩ := gK_inv h
  obtain ⟨r2, hr2, h⟩ := bnd h
  refine y_cVi (st := []) C dX5_readOfWho_2 mX5_72 k1 (tX3_toldWhoFault hC o2 o1  hr2) rfl rfl (Nat.le_of_ble_eq_true rfl) (by decide) (fun gr2 => ?_)
  refine z_istore (lv' := [(0, .ref (G.2.2 + o0)), (1, .ref (G.2.2 + o1)), (2, .ref (G.2.2 + o2)), (3, .int (iv v3)), (4, .int (iv r2))]) C dX5_readOfWho_5 (by decide) [1, 2, 3, 4, 0] rfl ?_
  refine z_iload C dX5_readOfWho_7 4 rfl ?_
  refine z_if_eq 15 C dX5_readOfWho_9 (by decide) gr2 (fun e3 => ?_) (fun e3 => ?_)
  ·
    have h := (if_pos e3).symm.trans h
    refine z_aload_n C dX5_readOfWho_15 0 rfl ?_
    refine z_iload_n C dX5_readOfWho_16 3 rfl ?_
    refine z_iconst C dX5_readOfWho_17 ?_
    refine z_aload_n C dX5_readOfWho_18 2 rfl ?_
    refine z_aload_n C dX5_readOfWho_19 1 rfl ?_
    obtain ⟨x4, hx4, h⟩ := bnd h
    refine y_getI C dX5_readOfWho_20 fX5_78 rfl hx4 (fun gx4 => ?_)
    obtain ⟨k5, h⟩ := gK_inv h
    obtain ⟨r6, hr6, h⟩ := bnd h
    refine y_cVi (st := [.int (iv 0), .int (iv v3), .ref (G.2.2 + o0)]) C dX5_readOfWho_23 mX5_81 k5 (tX3_findWho hC o2 x4 gx4 hr6) rfl rfl (Nat.le_of_ble_eq_true rfl) (by decide) (fun gr6 => ?_)
    obtain ⟨k7, h⟩ := gK_inv h
    obtain ⟨M8, hM8, h⟩ := bnd h
    refine y_cVv (st := []) C dX5_readOfWho_26 mX5_52 k7 (tX5_add hC o0 v3 0 r6 gv3 (by decide) gr6 hM8) rfl rfl (Nat.le_of_ble_eq_true rfl) (by decide) ?_
    refine z_aload_n C dX5_readOfWho_29 1 rfl ?_
    obtain ⟨k9, h⟩ := gK_inv h
    obtain ⟨M10, hM10, h⟩ := bnd h
    refine y_cVv (st := []) C dX5_readOfWho_30 mX5_37 k9 (tX7_advance hC o1  hM10) rfl rfl (Nat.le_of_ble_eq_true rfl) (by decide) ?_
    refine z_iconst C dX5_readOfWho_33 ?_
    exact y_iretB C dX5_readOfWho_34 h (by decide)
  ·
    have h := (if_neg e3).symm.trans h
    refine z_iload C dX5_readOfWho_12 4 rfl ?_
    exact y_iretB C dX5_readOfWho_14 h gr2

set_option maxHeartbeats 4000000 in
set_option maxRecDepth 100000 in
theorem tX5_readMeasure {G : Gx} {σ : State} (hC : Cy G σ) (o0 : Nat) (o1 : Nat) (v2 : Int) {M0 : Mm} (gv2 : rg v2) {R : Int × Mm} (h : uX5_readMeasure o0 o1 v2 M0 = some R) : Ct G σ (11) yX5_readMeasure cX5_readMeasure 4 (some .int) [.ref (G.2.2 + o0), .ref (G.2.2 + o1), .int (iv v2)] M0 0 0 (Qi R.1 R.2) := by
  refine Ct.of hC.1 (by decide +kernel) (Nat.le_of_ble_eq_true rfl) ?_
  intro p l e R0 s m args below meth c C
  show Jz G σ p l e R0 s m args below meth c 4 0 0 (Qi R.1 R.2) M0 0 0 0 [(0, .ref (G.2.2 + o0)), (1, .ref (G.2.2 + o1)), (2, .int (iv v2))] []
  have hb24 : ∀ (o0 : Nat) (o1 : Nat) (v2 : Int) (v3 : Int) (M : Mm), (rg v2) → (rg v3) → uX5_readMeasure_b24 o0 o1 v2 v3 M = some R → Jz G σ p l e R0 s m args below meth c 4 0 0 (Qi R.1 R.2) M 0 0 24 [(0, .ref (G.2.2 + o0)), (1, .ref (G.2.2 + o1)), (2, .int (iv v2)), (3, .int (iv v3))] [] := by
    intro o0 o1 v2 v3 M gv2 gv3 h
    unfold uX5_readMeasure_b24 at h
    refine z_aload_n C dX5_readMeasure_24 1 rfl ?_
    obtain ⟨k1, h⟩ := gK_inv h
    obtain ⟨M2, hM2, h⟩ := bnd h
    refine y_cVv (st := []) C dX5_readMeasure_25 mX5_37 k1 (tX7_advance hC o1  hM2) rfl rfl (Nat.le_of_ble_eq_true rfl) (by decide) ?_
    refine z_aload_n C dX5_readMeasure_28 1 rfl ?_
    obtain ⟨x3, hx3, h⟩ := bnd h
    refine y_getI C dX5_readMeasure_29 fX5_46 rfl hx3 (fun gx3 => ?_)
    refine z_iconst C dX5_readMeasure_32 ?_
    refine z_icmp_eq 38 C dX5_readMeasure_33 (by decide) gx3 (by decide) (fun e4 => ?_) (fun e4 => ?_)
    ·
      have h := (if_pos e4).symm.trans h
      refine z_aload_n C dX5_readMeasure_38 0 rfl ?_
      refine z_iload_n C dX5_readMeasure_39 2 rfl ?_
      refine z_iload_n C dX5_readMeasure_40 3 rfl ?_
      refine z_aload_n C dX5_readMeasure_41 1 rfl ?_
      obtain ⟨x5, hx5, h⟩ := bnd h
      refine y_getI C dX5_readMeasure_42 fX5_85 rfl hx5 (fun gx5 => ?_)
      obtain ⟨k6, h⟩ := gK_inv h
      obtain ⟨M7, hM7, h⟩ := bnd h
      refine y_cVv (st := []) C dX5_readMeasure_45 mX5_52 k6 (tX5_add hC o0 v2 v3 x5 gv2 gv3 gx5 hM7) rfl rfl (Nat.le_of_ble_eq_true rfl) (by decide) ?_
      refine z_aload_n C dX5_readMeasure_48 1 rfl ?_
      obtain ⟨k8, h⟩ := gK_inv h
      obtain ⟨M9, hM9, h⟩ := bnd h
      refine y_cVv (st := []) C dX5_readMeasure_49 mX5_37 k8 (tX7_advance hC o1  hM9) rfl rfl (Nat.le_of_ble_eq_true rfl) (by decide) ?_
      refine z_iconst C dX5_readMeasure_52 ?_
      exact y_iretB C dX5_readMeasure_53 h (by decide)
    ·
      have h := (if_neg e4).symm.trans h
      refine z_iconst C dX5_readMeasure_36 ?_
      exact y_iretB C dX5_readMeasure_37 h (by decide)
  unfold uX5_readMeasure at h
  refine z_aload_n C dX5_readMeasure_0 1 rfl ?_
  obtain ⟨x10, hx10, h⟩ := bnd h
  refine y_getI C dX5_readMeasure_1 fX5_46 rfl hx10 (fun gx10 => ?_)
  refine z_istore_n (lv' := [(0, .ref (G.2.2 + o0)), (1, .ref (G.2.2 + o1)), (2, .int (iv v2)), (3, .int (iv x10))]) C dX5_readMeasure_4 rfl (by decide) [1, 2, 3, 0] rfl ?_
  refine z_iload_n C dX5_readMeasure_5 3 rfl ?_
  refine z_iconst C dX5_readMeasure_6 ?_
  refine z_icmp_eq 24 C dX5_readMeasure_7 (by decide) gx10 (by decide) (fun e11 => ?_) (fun e11 => ?_)
  ·
    have h := (if_pos e11).symm.trans h
    exact hb24 o0 o1 v2 x10 M0 gv2 gx10 h
  ·
    have h := (if_neg e11).symm.trans h
    refine z_iload_n C dX5_readMeasure_10 3 rfl ?_
    refine z_bipush C dX5_readMeasure_11 (by decide) ?_
    refine z_icmp_eq 24 C dX5_readMeasure_13 (by decide) gx10 (by decide) (fun e12 => ?_) (fun e12 => ?_)
    ·
      have h := (if_pos e12).symm.trans h
      exact hb24 o0 o1 v2 x10 M0 gv2 gx10 h
    ·
      have h := (if_neg e12).symm.trans h
      refine z_iload_n C dX5_readMeasure_16 3 rfl ?_
      refine z_bipush C dX5_readMeasure_17 (by decide) ?_
      refine z_icmp_eq 24 C dX5_readMeasure_19 (by decide) gx10 (by decide) (fun e13 => ?_) (fun e13 => ?_)
      ·
        have h := (if_pos e13).symm.trans h
        exact hb24 o0 o1 v2 x10 M0 gv2 gx10 h
      ·
        have h := (if_neg e13).symm.trans h
        refine z_iconst C dX5_readMeasure_22 ?_
        exact y_iretB C dX5_readMeasure_23 h (by decide)
