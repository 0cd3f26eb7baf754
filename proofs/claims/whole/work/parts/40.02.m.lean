set_option maxHeartbeats 4000000 in
set_option maxRecDepth 100000 in
theorem tX9_could {G : Gx} {σ : State} (hC : Cy G σ) (o0 : Nat) (v1 : Int) (v2 : Int) {M0 : Mm} (gv1 : rg v1) (gv2 : rg v2) {R : Int} (h : uX9_could o0 v1 v2 M0 = some R) : Ct G σ (1) yX9_could cX9_could 3 (some .int) [.ref (G.2.2 + o0), .int (iv v1), .int (iv v2)] M0 0 0 (Qi R M0) := by
  refine Ct.of hC.1 (by decide +kernel) (Nat.le_of_ble_eq_true rfl) ?_
  intro p l e R0 s m args below meth c C
  show Jz G σ p l e R0 s m args below meth c 3 0 0 (Qi R M0) M0 0 0 0 [(0, .ref (G.2.2 + o0)), (1, .int (iv v1)), (2, .int (iv v2))] []
  unfold uX9_could at h
  refine z_iload_n C dX9_could_0 1 rfl ?_
  refine z_if_lt 21 C dX9_could_1 (by decide) gv1 (fun e1 => ?_) (fun e1 => ?_)
  ·
    have h := (if_pos e1).symm.trans h
    refine z_iconst C dX9_could_21 ?_
    exact y_iretP C dX9_could_22 h (by decide)
  ·
    have h := (if_neg e1).symm.trans h
    refine z_iload_n C dX9_could_4 1 rfl ?_
    refine z_aload_n C dX9_could_5 0 rfl ?_
    obtain ⟨on2, hon2, h⟩ := bnd h
    refine y_getR C dX9_could_6 fX9_62 rfl hon2 ?_
    obtain ⟨x3, hx3, h⟩ := bnd h
    refine y_getI C dX9_could_9 fX9_338 rfl hx3 (fun gx3 => ?_)
    refine z_icmp_ge 21 C dX9_could_12 (by decide) gv1 gx3 (fun e4 => ?_) (fun e4 => ?_)
    ·
      have h := (if_pos e4).symm.trans h
      refine z_iconst C dX9_could_21 ?_
      exact y_iretP C dX9_could_22 h (by decide)
    ·
      have h := (if_neg e4).symm.trans h
      refine z_iload_n C dX9_could_15 1 rfl ?_
      refine z_bipush C dX9_could_16 (by decide) ?_
      refine z_icmp_lt 23 C dX9_could_18 (by decide) gv1 (by decide) (fun e5 => ?_) (fun e5 => ?_)
      ·
        have h := (if_pos e5).symm.trans h
        refine z_iload_n C dX9_could_23 2 rfl ?_
        by_cases e6 : v2 = 0
        ·
          have h := (if_pos e6).symm.trans h
          refine z_lookup (off := 28) 52 C dX9_could_24 gv2 (by decide) (by rw [e6]; rfl) (by decide) ?_
          refine z_aload_n C dX9_could_52 0 rfl ?_
          obtain ⟨on7, hon7, h⟩ := bnd h
          refine y_getR C dX9_could_53 fX9_62 rfl hon7 ?_
          obtain ⟨on8, hon8, h⟩ := bnd h
          refine y_getR C dX9_could_56 fX9_339 rfl hon8 ?_
          refine z_iload_n C dX9_could_59 1 rfl ?_
          obtain ⟨x9, hx9, h⟩ := bnd h
          refine y_iald C dX9_could_60 hx9 (fun gx9 => ?_)
          exact y_iretP C dX9_could_61 h gx9
        have h := (if_neg e6).symm.trans h
        by_cases e10 : v2 = 1
        ·
          have h := (if_pos e10).symm.trans h
          refine z_lookup (off := 38) 62 C dX9_could_24 gv2 (by decide) (by rw [e10]; rfl) (by decide) ?_
          refine z_aload_n C dX9_could_62 0 rfl ?_
          obtain ⟨on11, hon11, h⟩ := bnd h
          refine y_getR C dX9_could_63 fX9_62 rfl hon11 ?_
          obtain ⟨on12, hon12, h⟩ := bnd h
          refine y_getR C dX9_could_66 fX9_342 rfl hon12 ?_
          refine z_iload_n C dX9_could_69 1 rfl ?_
          obtain ⟨x13, hx13, h⟩ := bnd h
          refine y_iald C dX9_could_70 hx13 (fun gx13 => ?_)
          exact y_iretP C dX9_could_71 h gx13
        have h := (if_neg e10).symm.trans h
        refine z_lookup (off := 48) 72 C dX9_could_24 gv2 (by decide) (by show Op.lookupswitch.offset [(0, 28), (1, 38)] _ _ = _; rw [Op.lookupswitch.offset_cons, if_neg (fun q => e6 q.symm), Op.lookupswitch.offset_cons, if_neg (fun q => e10 q.symm), Op.lookupswitch.offset_nil]) (by decide) ?_
        refine z_iconst C dX9_could_72 ?_
        exact y_iretP C dX9_could_73 h (by decide)
      ·
        have h := (if_neg e5).symm.trans h
        refine z_iconst C dX9_could_21 ?_
        exact y_iretP C dX9_could_22 h (by decide)

set_option maxHeartbeats 4000000 in
set_option maxRecDepth 100000 in
theorem tX9_nextSeed {G : Gx} {σ : State} (hC : Cy G σ) (v0 : Int) {M0 : Mm} (gv0 : rg v0) {R : Int} (h : uX9_nextSeed v0 M0 = some R) : Ct G σ (1) yX9_nextSeed cX9_nextSeed 1 (some .int) [.int (iv v0)] M0 0 0 (Qi R M0) := by
  refine Ct.of hC.1 (by decide +kernel) (Nat.le_of_ble_eq_true rfl) ?_
  intro p l e R0 s m args below meth c C
  show Jz G σ p l e R0 s m args below meth c 1 0 0 (Qi R M0) M0 0 0 0 [(0, .int (iv v0))] []
  unfold uX9_nextSeed at h
  refine z_iload_n C dX9_nextSeed_0 0 rfl ?_
  refine z_ldcw C dX9_nextSeed_1 kX9_358 ?_
  refine y_imul C dX9_nextSeed_4 ?_
  refine z_sipush C dX9_nextSeed_5 (by decide) ?_
  refine y_iadd C dX9_nextSeed_8 ?_
  exact y_iretP C dX9_nextSeed_9 h (w32_rng _)

set_option maxHeartbeats 4000000 in
set_option maxRecDepth 100000 in
theorem tX9_drawn {G : Gx} {σ : State} (hC : Cy G σ) (v0 : Int) (v1 : Int) {M0 : Mm} (gv0 : rg v0) (gv1 : rg v1) {R : Int} (h : uX9_drawn v0 v1 M0 = some R) : Ct G σ (1) yX9_drawn cX9_drawn 2 (some .int) [.int (iv v0), .int (iv v1)] M0 0 0 (Qi R M0) := by
  refine Ct.of hC.1 (by decide +kernel) (Nat.le_of_ble_eq_true rfl) ?_
  intro p l e R0 s m args below meth c C
  show Jz G σ p l e R0 s m args below meth c 2 0 0 (Qi R M0) M0 0 0 0 [(0, .int (iv v0)), (1, .int (iv v1))] []
  unfold uX9_drawn at h
  refine z_iload_n C dX9_drawn_0 1 rfl ?_
  refine z_if_le 13 C dX9_drawn_1 (by decide) gv1 (fun e1 => ?_) (fun e1 => ?_)
  ·
    have h := (if_pos e1).symm.trans h
    refine z_iconst C dX9_drawn_13 ?_
    exact y_iretP C dX9_drawn_14 h (by decide)
  ·
    have h := (if_neg e1).symm.trans h
    refine z_iload_n C dX9_drawn_4 0 rfl ?_
    refine z_bipush C dX9_drawn_5 (by decide) ?_
    refine z_iushr (ushr32 v0 8) C dX9_drawn_7 (iv_self _).symm ?_
    refine z_iload_n C dX9_drawn_8 1 rfl ?_
    obtain ⟨x2, hx2, h⟩ := bnd h
    refine y_irem C dX9_drawn_9 hx2 (fun gx2 => ?_)
    refine z_goto 14 C dX9_drawn_10 (by decide) ?_
    exact y_iretP C dX9_drawn_14 h gx2

set_option maxHeartbeats 4000000 in
set_option maxRecDepth 100000 in
theorem tX9_count {G : Gx} {σ : State} (hC : Cy G σ) (o0 : Nat) (v1 : Int) {M0 : Mm} (gv1 : rg v1) {R : Int} (h : uX9_count o0 v1 M0 = some R) : Ct G σ (1) yX9_count cX9_count 2 (some .int) [.ref (G.2.2 + o0), .int (iv v1)] M0 0 0 (Qi R M0) := by
  refine Ct.of hC.1 (by decide +kernel) (Nat.le_of_ble_eq_true rfl) ?_
  intro p l e R0 s m args below meth c C
  show Jz G σ p l e R0 s m args below meth c 2 0 0 (Qi R M0) M0 0 0 0 [(0, .ref (G.2.2 + o0)), (1, .int (iv v1))] []
  unfold uX9_count at h
  refine z_iload_n C dX9_count_0 1 rfl ?_
  by_cases e1 : v1 = 0
  ·
    have h := (if_pos e1).symm.trans h
    refine z_tableIn (off := 63) 64 C dX9_count_1 gv1 (by omega) (by omega) (by rw [e1]; rfl) (by decide) ?_
    refine z_aload_n C dX9_count_64 0 rfl ?_
    obtain ⟨on2, hon2, h⟩ := bnd h
    refine y_getR C dX9_count_65 fX9_33 rfl hon2 ?_
    obtain ⟨on3, hon3, h⟩ := bnd h
    refine y_getR C dX9_count_68 fX9_108 rfl hon3 ?_
    obtain ⟨x4, hx4, h⟩ := bnd h
    refine y_getI C dX9_count_71 fX9_345 rfl hx4 (fun gx4 => ?_)
    exact y_iretP C dX9_count_74 h gx4
  have h := (if_neg e1).symm.trans h
  by_cases e5 : v1 = 1
  ·
    have h := (if_pos e5).symm.trans h
    refine z_tableIn (off := 74) 75 C dX9_count_1 gv1 (by omega) (by omega) (by rw [e5]; rfl) (by decide) ?_
    refine z_aload_n C dX9_count_75 0 rfl ?_
    obtain ⟨on6, hon6, h⟩ := bnd h
    refine y_getR C dX9_count_76 fX9_33 rfl hon6 ?_
    obtain ⟨on7, hon7, h⟩ := bnd h
    refine y_getR C dX9_count_79 fX9_108 rfl hon7 ?_
    obtain ⟨x8, hx8, h⟩ := bnd h
    refine y_getI C dX9_count_82 fX9_347 rfl hx8 (fun gx8 => ?_)
    exact y_iretP C dX9_count_85 h gx8
  have h := (if_neg e5).symm.trans h
  by_cases e9 : v1 = 2
  ·
    have h := (if_pos e9).symm.trans h
    refine z_tableIn (off := 85) 86 C dX9_count_1 gv1 (by omega) (by omega) (by rw [e9]; rfl) (by decide) ?_
    refine z_aload_n C dX9_count_86 0 rfl ?_
    obtain ⟨on10, hon10, h⟩ := bnd h
    refine y_getR C dX9_count_87 fX9_33 rfl hon10 ?_
    obtain ⟨on11, hon11, h⟩ := bnd h
    refine y_getR C dX9_count_90 fX9_108 rfl hon11 ?_
    obtain ⟨x12, hx12, h⟩ := bnd h
    refine y_getI C dX9_count_93 fX9_383 rfl hx12 (fun gx12 => ?_)
    exact y_iretP C dX9_count_96 h gx12
  have h := (if_neg e9).symm.trans h
  by_cases e13 : v1 = 3
  ·
    have h := (if_pos e13).symm.trans h
    refine z_tableIn (off := 96) 97 C dX9_count_1 gv1 (by omega) (by omega) (by rw [e13]; rfl) (by decide) ?_
    refine z_aload_n C dX9_count_97 0 rfl ?_
    obtain ⟨on14, hon14, h⟩ := bnd h
    refine y_getR C dX9_count_98 fX9_33 rfl hon14 ?_
    obtain ⟨on15, hon15, h⟩ := bnd h
    refine y_getR C dX9_count_101 fX9_108 rfl hon15 ?_
    obtain ⟨on16, hon16, h⟩ := bnd h
    refine y_getR C dX9_count_104 fX9_386 rfl hon16 ?_
    refine z_iconst C dX9_count_107 ?_
    obtain ⟨x17, hx17, h⟩ := bnd h
    refine y_iald C dX9_count_108 hx17 (fun gx17 => ?_)
    exact y_iretP C dX9_count_109 h gx17
  have h := (if_neg e13).symm.trans h
  by_cases e18 : v1 = 4
  ·
    have h := (if_pos e18).symm.trans h
    refine z_tableIn (off := 109) 110 C dX9_count_1 gv1 (by omega) (by omega) (by rw [e18]; rfl) (by decide) ?_
    refine z_aload_n C dX9_count_110 0 rfl ?_
    obtain ⟨on19, hon19, h⟩ := bnd h
    refine y_getR C dX9_count_111 fX9_33 rfl hon19 ?_
    obtain ⟨on20, hon20, h⟩ := bnd h
    refine y_getR C dX9_count_114 fX9_108 rfl hon20 ?_
    obtain ⟨on21, hon21, h⟩ := bnd h
    refine y_getR C dX9_count_117 fX9_386 rfl hon21 ?_
    refine z_iconst C dX9_count_120 ?_
    obtain ⟨x22, hx22, h⟩ := bnd h
    refine y_iald C dX9_count_121 hx22 (fun gx22 => ?_)
    exact y_iretP C dX9_count_122 h gx22
  have h := (if_neg e18).symm.trans h
  by_cases e23 : v1 = 5
  ·
    have h := (if_pos e23).symm.trans h
    refine z_tableIn (off := 122) 123 C dX9_count_1 gv1 (by omega) (by omega) (by rw [e23]; rfl) (by decide) ?_
    refine z_aload_n C dX9_count_123 0 rfl ?_
    obtain ⟨on24, hon24, h⟩ := bnd h
    refine y_getR C dX9_count_124 fX9_33 rfl hon24 ?_
    obtain ⟨on25, hon25, h⟩ := bnd h
    refine y_getR C dX9_count_127 fX9_108 rfl hon25 ?_
    obtain ⟨on26, hon26, h⟩ := bnd h
    refine y_getR C dX9_count_130 fX9_386 rfl hon26 ?_
    refine z_iconst C dX9_count_133 ?_
    obtain ⟨x27, hx27, h⟩ := bnd h
    refine y_iald C dX9_count_134 hx27 (fun gx27 => ?_)
    exact y_iretP C dX9_count_135 h gx27
  have h := (if_neg e23).symm.trans h
  by_cases e28 : v1 = 6
  ·
    have h := (if_pos e28).symm.trans h
    refine z_tableIn (off := 135) 136 C dX9_count_1 gv1 (by omega) (by omega) (by rw [e28]; rfl) (by decide) ?_
    refine z_aload_n C dX9_count_136 0 rfl ?_
    obtain ⟨on29, hon29, h⟩ := bnd h
    refine y_getR C dX9_count_137 fX9_33 rfl hon29 ?_
    obtain ⟨on30, hon30, h⟩ := bnd h
    refine y_getR C dX9_count_140 fX9_108 rfl hon30 ?_
    obtain ⟨on31, hon31, h⟩ := bnd h
    refine y_getR C dX9_count_143 fX9_386 rfl hon31 ?_
    refine z_iconst C dX9_count_146 ?_
    obtain ⟨x32, hx32, h⟩ := bnd h
    refine y_iald C dX9_count_147 hx32 (fun gx32 => ?_)
    exact y_iretP C dX9_count_148 h gx32
  have h := (if_neg e28).symm.trans h
  by_cases e33 : v1 = 7
  ·
    have h := (if_pos e33).symm.trans h
    refine z_tableIn (off := 148) 149 C dX9_count_1 gv1 (by omega) (by omega) (by rw [e33]; rfl) (by decide) ?_
    refine z_aload_n C dX9_count_149 0 rfl ?_
    obtain ⟨on34, hon34, h⟩ := bnd h
    refine y_getR C dX9_count_150 fX9_33 rfl hon34 ?_
    obtain ⟨on35, hon35, h⟩ := bnd h
    refine y_getR C dX9_count_153 fX9_117 rfl hon35 ?_
    obtain ⟨x36, hx36, h⟩ := bnd h
    refine y_getI C dX9_count_156 fX9_164 rfl hx36 (fun gx36 => ?_)
    exact y_iretP C dX9_count_159 h gx36
  have h := (if_neg e33).symm.trans h
  by_cases e37 : v1 = 8
  ·
    have h := (if_pos e37).symm.trans h
    refine z_tableIn (off := 159) 160 C dX9_count_1 gv1 (by omega) (by omega) (by rw [e37]; rfl) (by decide) ?_
    refine z_aload_n C dX9_count_160 0 rfl ?_
    obtain ⟨on38, hon38, h⟩ := bnd h
    refine y_getR C dX9_count_161 fX9_33 rfl hon38 ?_
    obtain ⟨on39, hon39, h⟩ := bnd h
    refine y_getR C dX9_count_164 fX9_117 rfl hon39 ?_
    obtain ⟨x40, hx40, h⟩ := bnd h
    refine y_getI C dX9_count_167 fX9_298 rfl hx40 (fun gx40 => ?_)
    exact y_iretP C dX9_count_170 h gx40
  have h := (if_neg e37).symm.trans h
  by_cases e41 : v1 = 9
  ·
    have h := (if_pos e41).symm.trans h
    refine z_tableIn (off := 170) 171 C dX9_count_1 gv1 (by omega) (by omega) (by rw [e41]; rfl) (by decide) ?_
    refine z_aload_n C dX9_count_171 0 rfl ?_
    obtain ⟨on42, hon42, h⟩ := bnd h
    refine y_getR C dX9_count_172 fX9_33 rfl hon42 ?_
    obtain ⟨on43, hon43, h⟩ := bnd h
    refine y_getR C dX9_count_175 fX9_117 rfl hon43 ?_
    obtain ⟨x44, hx44, h⟩ := bnd h
    refine y_getI C dX9_count_178 fX9_292 rfl hx44 (fun gx44 => ?_)
    exact y_iretP C dX9_count_181 h gx44
  have h := (if_neg e41).symm.trans h
  by_cases e45 : v1 = 10
  ·
    have h := (if_pos e45).symm.trans h
    refine z_tableIn (off := 181) 182 C dX9_count_1 gv1 (by omega) (by omega) (by rw [e45]; rfl) (by decide) ?_
    refine z_aload_n C dX9_count_182 0 rfl ?_
    obtain ⟨on46, hon46, h⟩ := bnd h
    refine y_getR C dX9_count_183 fX9_33 rfl hon46 ?_
    obtain ⟨on47, hon47, h⟩ := bnd h
    refine y_getR C dX9_count_186 fX9_117 rfl hon47 ?_
    obtain ⟨x48, hx48, h⟩ := bnd h
    refine y_getI C dX9_count_189 fX9_295 rfl hx48 (fun gx48 => ?_)
    exact y_iretP C dX9_count_192 h gx48
  have h := (if_neg e45).symm.trans h
  by_cases e49 : v1 = 11
  ·
    have h := (if_pos e49).symm.trans h
    refine z_tableIn (off := 192) 193 C dX9_count_1 gv1 (by omega) (by omega) (by rw [e49]; rfl) (by decide) ?_
    refine z_aload_n C dX9_count_193 0 rfl ?_
    obtain ⟨on50, hon50, h⟩ := bnd h
    refine y_getR C dX9_count_194 fX9_10 rfl hon50 ?_
    obtain ⟨x51, hx51, h⟩ := bnd h
    refine y_getI C dX9_count_197 fX9_66 rfl hx51 (fun gx51 => ?_)
    exact y_iretP C dX9_count_200 h gx51
  have h := (if_neg e49).symm.trans h
  refine z_tableOut 201 C dX9_count_1 gv1 (by omega) (by decide) ?_
  refine z_iconst C dX9_count_201 ?_
  exact y_iretP C dX9_count_202 h (by decide)

set_option maxHeartbeats 4000000 in
set_option maxRecDepth 100000 in
theorem tX10_init {G : Gx} {σ : State} (hC : Cy G σ) (o0 : Nat) {M0 : Mm}  {R : Mm} (h : uX10_init o0 M0 = some R) : Ct G σ (1) yX10_init cX10_init 1 none [.ref (G.2.2 + o0)] M0 22 99201 (Qv R) := by
  refine Ct.of hC.1 (by decide +kernel) (Nat.le_of_ble_eq_true rfl) ?_
  intro p l e R0 s m args below meth c C
  show Jz G σ p l e R0 s m args below meth c 1 22 99201 (Qv R) M0 0 0 0 [(0, .ref (G.2.2 + o0))] []
  unfold uX10_init at h
  refine z_aload_n C dX10_init_0 0 rfl ?_
  refine z_objInit C dX10_init_1 (gt_5 (i := 237) (by decide +kernel) (by decide +kernel)) oi_in oi_co (by decide) (Nat.le_of_ble_eq_true rfl) ?_
  refine z_aload_n C dX10_init_4 0 rfl ?_
  refine z_sipush C dX10_init_5 (by decide) ?_
  refine y_newI 740 C dX10_init_8 rfl (by decide) (by omega) (by omega) ?_
  obtain ⟨M1, hM1, h⟩ := bnd h
  refine y_putFR C dX10_init_10 clX10 (by decide) fX10_7_l rfl rfl rfl rfl rfl rfl hM1 ?_
  refine z_aload_n C dX10_init_13 0 rfl ?_
  refine z_sipush C dX10_init_14 (by decide) ?_
  refine y_newI 8140 C dX10_init_17 rfl (by decide) (by omega) (by omega) ?_
  obtain ⟨M2, hM2, h⟩ := bnd h
  refine y_putFR C dX10_init_19 clX10 (by decide) fX10_13_l rfl rfl rfl rfl rfl rfl hM2 ?_
  refine z_aload_n C dX10_init_22 0 rfl ?_
  refine z_bipush C dX10_init_23 (by decide) ?_
  refine y_newI 108 C dX10_init_25 rfl (by decide) (by omega) (by omega) ?_
  obtain ⟨M3, hM3, h⟩ := bnd h
  refine y_putFR C dX10_init_27 clX10 (by decide) fX10_16_l rfl rfl rfl rfl rfl rfl hM3 ?_
  refine z_aload_n C dX10_init_30 0 rfl ?_
  refine z_sipush C dX10_init_31 (by decide) ?_
  refine y_newI 16280 C dX10_init_34 rfl (by decide) (by omega) (by omega) ?_
  obtain ⟨M4, hM4, h⟩ := bnd h
  refine y_putFR C dX10_init_36 clX10 (by decide) fX10_19_l rfl rfl rfl rfl rfl rfl hM4 ?_
  refine z_aload_n C dX10_init_39 0 rfl ?_
  refine z_ldc C dX10_init_40 kX10_22 ?_
  refine y_newI 47400 C dX10_init_42 rfl (by decide) (by omega) (by omega) ?_
  obtain ⟨M5, hM5, h⟩ := bnd h
  refine y_putFR C dX10_init_44 clX10 (by decide) fX10_23_l rfl rfl rfl rfl rfl rfl hM5 ?_
  refine z_aload_n C dX10_init_47 0 rfl ?_
  refine z_bipush C dX10_init_48 (by decide) ?_
  refine y_newJ 12 C dX10_init_50 rfl (by decide) (by omega) (by omega) ?_
  obtain ⟨M6, hM6, h⟩ := bnd h
  refine y_putFR C dX10_init_52 clX10 (by decide) fX10_26_l rfl rfl rfl rfl rfl rfl hM6 ?_
  refine z_aload_n C dX10_init_55 0 rfl ?_
  refine z_bipush C dX10_init_56 (by decide) ?_
  refine y_newJ 12 C dX10_init_58 rfl (by decide) (by omega) (by omega) ?_
  obtain ⟨M7, hM7, h⟩ := bnd h
  refine y_putFR C dX10_init_60 clX10 (by decide) fX10_30_l rfl rfl rfl rfl rfl rfl hM7 ?_
  refine z_aload_n C dX10_init_63 0 rfl ?_
  refine z_bipush C dX10_init_64 (by decide) ?_
  refine y_newJ 24 C dX10_init_66 rfl (by decide) (by omega) (by omega) ?_
  obtain ⟨M8, hM8, h⟩ := bnd h
  refine y_putFR C dX10_init_68 clX10 (by decide) fX10_33_l rfl rfl rfl rfl rfl rfl hM8 ?_
  refine z_aload_n C dX10_init_71 0 rfl ?_
  refine z_iconst C dX10_init_72 ?_
  refine y_newZ 2 C dX10_init_73 rfl (by decide) (by omega) (by omega) ?_
  obtain ⟨M9, hM9, h⟩ := bnd h
  refine y_putFR C dX10_init_75 clX10 (by decide) fX10_36_l rfl rfl rfl rfl rfl rfl hM9 ?_
  refine z_aload_n C dX10_init_78 0 rfl ?_
  refine z_bipush C dX10_init_79 (by decide) ?_
  refine y_newI 40 C dX10_init_81 rfl (by decide) (by omega) (by omega) ?_
  obtain ⟨M10, hM10, h⟩ := bnd h
  refine y_putFR C dX10_init_83 clX10 (by decide) fX10_40_l rfl rfl rfl rfl rfl rfl hM10 ?_
  refine z_aload_n C dX10_init_86 0 rfl ?_
  refine z_bipush C dX10_init_87 (by decide) ?_
  refine y_newI 12 C dX10_init_89 rfl (by decide) (by omega) (by omega) ?_
  obtain ⟨M11, hM11, h⟩ := bnd h
  refine y_putFR C dX10_init_91 clX10 (by decide) fX10_43_l rfl rfl rfl rfl rfl rfl hM11 ?_
  refine z_aload_n C dX10_init_94 0 rfl ?_
  refine z_bipush C dX10_init_95 (by decide) ?_
  refine y_newI 72 C dX10_init_97 rfl (by decide) (by omega) (by omega) ?_
  obtain ⟨M12, hM12, h⟩ := bnd h
  refine y_putFR C dX10_init_99 clX10 (by decide) fX10_46_l rfl rfl rfl rfl rfl rfl hM12 ?_
  refine z_aload_n C dX10_init_102 0 rfl ?_
  refine z_sipush C dX10_init_103 (by decide) ?_
  refine y_newI 26013 C dX10_init_106 rfl (by decide) (by omega) (by omega) ?_
  obtain ⟨M13, hM13, h⟩ := bnd h
  refine y_putFR C dX10_init_108 clX10 (by decide) fX10_49_l rfl rfl rfl rfl rfl rfl hM13 ?_
  refine z_aload_n C dX10_init_111 0 rfl ?_
  refine z_bipush C dX10_init_112 (by decide) ?_
  refine y_newI 40 C dX10_init_114 rfl (by decide) (by omega) (by omega) ?_
  obtain ⟨M14, hM14, h⟩ := bnd h
  refine y_putFR C dX10_init_116 clX10 (by decide) fX10_52_l rfl rfl rfl rfl rfl rfl hM14 ?_
  refine z_aload_n C dX10_init_119 0 rfl ?_
  refine z_bipush C dX10_init_120 (by decide) ?_
  refine y_newI 12 C dX10_init_122 rfl (by decide) (by omega) (by omega) ?_
  obtain ⟨M15, hM15, h⟩ := bnd h
  refine y_putFR C dX10_init_124 clX10 (by decide) fX10_55_l rfl rfl rfl rfl rfl rfl hM15 ?_
  refine z_aload_n C dX10_init_127 0 rfl ?_
  refine z_iconst C dX10_init_128 ?_
  obtain ⟨M16, hM16, h⟩ := bnd h
  refine y_putI C dX10_init_129 fX10_58 rfl rfl rfl rfl hM16 ?_
  refine z_aload_n C dX10_init_132 0 rfl ?_
  refine z_bipush C dX10_init_133 (by decide) ?_
  refine y_newI 9 C dX10_init_135 rfl (by decide) (by omega) (by omega) ?_
  obtain ⟨M17, hM17, h⟩ := bnd h
  refine y_putFR C dX10_init_137 clX10 (by decide) fX10_62_l rfl rfl rfl rfl rfl rfl hM17 ?_
  refine z_aload_n C dX10_init_140 0 rfl ?_
  refine z_bipush C dX10_init_141 (by decide) ?_
  refine y_newI 9 C dX10_init_143 rfl (by decide) (by omega) (by omega) ?_
  obtain ⟨M18, hM18, h⟩ := bnd h
  refine y_putFR C dX10_init_145 clX10 (by decide) fX10_65_l rfl rfl rfl rfl rfl rfl hM18 ?_
  refine z_aload_n C dX10_init_148 0 rfl ?_
  refine z_bipush C dX10_init_149 (by decide) ?_
  refine y_newI 9 C dX10_init_151 rfl (by decide) (by omega) (by omega) ?_
  obtain ⟨M19, hM19, h⟩ := bnd h
  refine y_putFR C dX10_init_153 clX10 (by decide) fX10_68_l rfl rfl rfl rfl rfl rfl hM19 ?_
  refine z_aload_n C dX10_init_156 0 rfl ?_
  refine z_bipush C dX10_init_157 (by decide) ?_
  refine y_newI 9 C dX10_init_159 rfl (by decide) (by omega) (by omega) ?_
  obtain ⟨M20, hM20, h⟩ := bnd h
  refine y_putFR C dX10_init_161 clX10 (by decide) fX10_71_l rfl rfl rfl rfl rfl rfl hM20 ?_
  refine z_aload_n C dX10_init_164 0 rfl ?_
  refine z_bipush C dX10_init_165 (by decide) ?_
  refine y_newI 9 C dX10_init_167 rfl (by decide) (by omega) (by omega) ?_
  obtain ⟨M21, hM21, h⟩ := bnd h
  refine y_putFR C dX10_init_169 clX10 (by decide) fX10_74_l rfl rfl rfl rfl rfl rfl hM21 ?_
  refine z_aload_n C dX10_init_172 0 rfl ?_
  refine z_bipush C dX10_init_173 (by decide) ?_
  refine y_newI 9 C dX10_init_175 rfl (by decide) (by omega) (by omega) ?_
  obtain ⟨M22, hM22, h⟩ := bnd h
  refine y_putFR C dX10_init_177 clX10 (by decide) fX10_77_l rfl rfl rfl rfl rfl rfl hM22 ?_
  refine z_aload_n C dX10_init_180 0 rfl ?_
  refine z_sipush C dX10_init_181 (by decide) ?_
  refine y_newI 240 C dX10_init_184 rfl (by decide) (by omega) (by omega) ?_
  obtain ⟨M23, hM23, h⟩ := bnd h
  refine y_putFR C dX10_init_186 clX10 (by decide) fX10_80_l rfl rfl rfl rfl rfl rfl hM23 ?_
  exact y_retV C dX10_init_189 h

set_option maxHeartbeats 4000000 in
set_option maxRecDepth 100000 in
theorem tX10_thrown {G : Gx} {σ : State} (hC : Cy G σ) (o0 : Nat) {M0 : Mm}  {R : Int} (h : uX10_thrown o0 M0 = some R) : Ct G σ (1) yX10_thrown cX10_thrown 1 (some .int) [.ref (G.2.2 + o0)] M0 0 0 (Qi R M0) := by
  refine Ct.of hC.1 (by decide +kernel) (Nat.le_of_ble_eq_true rfl) ?_
  intro p l e R0 s m args below meth c C
  show Jz G σ p l e R0 s m args below meth c 1 0 0 (Qi R M0) M0 0 0 0 [(0, .ref (G.2.2 + o0))] []
  unfold uX10_thrown at h
  refine z_aload_n C dX10_thrown_0 0 rfl ?_
  obtain ⟨x1, hx1, h⟩ := bnd h
  refine y_getI C dX10_thrown_1 fX10_83 rfl hx1 (fun gx1 => ?_)
  exact y_iretP C dX10_thrown_4 h gx1

set_option maxHeartbeats 4000000 in
set_option maxRecDepth 100000 in
theorem tX10_refuse {G : Gx} {σ : State} (hC : Cy G σ) (o0 : Nat) {M0 : Mm}  {R : Int × Mm} (h : uX10_refuse o0 M0 = some R) : Ct G σ (1) yX10_refuse cX10_refuse 1 (some .int) [.ref (G.2.2 + o0)] M0 0 0 (Qi R.1 R.2) := by
  refine Ct.of hC.1 (by decide +kernel) (Nat.le_of_ble_eq_true rfl) ?_
  intro p l e R0 s m args below meth c C
  show Jz G σ p l e R0 s m args below meth c 1 0 0 (Qi R.1 R.2) M0 0 0 0 [(0, .ref (G.2.2 + o0))] []
  unfold uX10_refuse at h
  refine z_aload_n C dX10_refuse_0 0 rfl ?_
  refine z_iconst C dX10_refuse_1 ?_
  obtain ⟨M1, hM1, h⟩ := bnd h
  refine y_putI C dX10_refuse_2 fX10_83 rfl rfl rfl rfl hM1 ?_
  refine z_iconst C dX10_refuse_5 ?_
  exact y_iretB C dX10_refuse_6 h (by decide)

set_option maxHeartbeats 4000000 in
set_option maxRecDepth 100000 in
theorem tX10_come {G : Gx} {σ : State} (hC : Cy G σ) (o0 : Nat) (v1 : Int) {M0 : Mm} (gv1 : rg v1) {R : Mm} (h : uX10_come o0 v1 M0 = some R) : Ct G σ (1) yX10_come cX10_come 3 none [.ref (G.2.2 + o0), .int (iv v1)] M0 0 0 (Qv R) := by
  refine Ct.of hC.1 (by decide +kernel) (Nat.le_of_ble_eq_true rfl) ?_
  intro p l e R0 s m args below meth c C
  show Jz G σ p l e R0 s m args below meth c 3 0 0 (Qv R) M0 0 0 0 [(0, .ref (G.2.2 + o0)), (1, .int (iv v1))] []
  have hb39 : ∀  (M : Mm), uX10_come_b39 M = some R → Jz G σ p l e R0 s m args below meth c 3 0 0 (Qv R) M 0 0 39 [] [] := by
    intro  M  h
    unfold uX10_come_b39 at h
    exact y_retV C dX10_come_39 h
  have hb3 : ∀ (o0 : Nat) (v1 : Int) (v2 : Int) (M : Mm), (rg v1) → (rg v2) → uX10_come_b3 o0 v1 v2 M = some R → Jz G σ p l e R0 s m args below meth c 3 0 0 (Qv R) M 0 0 3 [(0, .ref (G.2.2 + o0)), (1, .int (iv v1)), (2, .int (iv v2))] [] := by
    intro o0 v1 v2 M gv1 gv2 h
    unfold uX10_come_b3 at h
    obtain ⟨b3, hb3_, hc3⟩ := bnd h
    have hL3 : ∀ (n : Nat) (v2 : Int) (M : Mm), (rg v2) → lp (uX10_come_f3 o0 v1) n (v2, M) = some b3 → Jz G σ p l e R0 s m args below meth c 3 0 0 (Qv R) M 0 0 3 [(0, .ref (G.2.2 + o0)), (1, .int (iv v1)), (2, .int (iv v2))] [] := by
      intro n; induction n with
      | zero => intro v2 M gv2 hq; exact (lp_0 hq).elim
      | succ n3 ih3 =>
        intro v2 M gv2 hq
        obtain ⟨z3, h, hZ3⟩ := lp_s hq
        have h : uX10_come_s3 o0 v1 v2 M = some z3 := h
        unfold uX10_come_s3 at h
        refine z_iload_n C dX10_come_3 2 rfl ?_
        refine z_if_lt 39 C dX10_come_4 (by decide) gv2 (fun e1 => ?_) (fun e1 => ?_)
        ·
          have h := (if_pos e1).symm.trans h
          have h : uX10_come_b39 M = some R := lp_ex (K := (uX10_come_c3 o0 v1)) h hZ3 hc3
          refine z_drop (lv' := []) [] rfl ?_
          exact hb39  M  h
        ·
          have h := (if_neg e1).symm.trans h
          refine z_aload_n C dX10_come_7 0 rfl ?_
          obtain ⟨on2, hon2, h⟩ := bnd h
          refine y_getR C dX10_come_8 fX10_7 rfl hon2 ?_
          refine z_aload_n C dX10_come_11 0 rfl ?_
          obtain ⟨x3, hx3, h⟩ := bnd h
          refine y_getI C dX10_come_12 fX10_86 rfl hx3 (fun gx3 => ?_)
          refine z_iload_n C dX10_come_15 1 rfl ?_
          refine z_iload_n C dX10_come_16 2 rfl ?_
          refine z_iushr (ushr32 v1 v2) C dX10_come_17 (iv_self _).symm ?_
          refine z_sipush C dX10_come_18 (by decide) ?_
          refine z_iand (and32 (ushr32 v1 v2) 255) C dX10_come_21 (iv_self _).symm ?_
          obtain ⟨M4, hM4, h⟩ := bnd h
          refine y_iast C dX10_come_22 hM4 ?_
          refine z_aload_n C dX10_come_23 0 rfl ?_
          refine z_dup C dX10_come_24 rfl ?_
          obtain ⟨x5, hx5, h⟩ := bnd h
          refine y_getI C dX10_come_25 fX10_86 rfl hx5 (fun gx5 => ?_)
          refine z_iconst C dX10_come_28 ?_
          refine y_iadd C dX10_come_29 ?_
          obtain ⟨M6, hM6, h⟩ := bnd h
          refine y_putI C dX10_come_30 fX10_86 rfl rfl rfl rfl hM6 ?_
          refine y_iinc (lv' := [(0, .ref (G.2.2 + o0)), (1, .int (iv v1)), (2, .int (iv (w32 (v2 + (-8)))))]) C dX10_come_33 2 rfl (by decide) [1, 2, 0] rfl ?_
          refine z_goto 3 C dX10_come_36 (by decide) ?_
          exact ih3 (w32 (v2 + (-8))) M6 (w32_rng _) (lp_back h hZ3)
    exact hL3 _ v2 M gv2 hb3_
  unfold uX10_come at h
  refine z_bipush C dX10_come_0 (by decide) ?_
  refine z_istore_n (lv' := [(0, .ref (G.2.2 + o0)), (1, .int (iv v1)), (2, .int (iv 24))]) C dX10_come_2 rfl (by decide) [1, 2, 0] rfl ?_
  exact hb3 o0 v1 24 M0 gv1 (by decide) h

set_option maxHeartbeats 4000000 in
set_option maxRecDepth 100000 in
theorem tX10_end {G : Gx} {σ : State} (hC : Cy G σ) (o0 : Nat) (v1 : Int) {M0 : Mm} (gv1 : rg v1) {R : Int × Mm} (h : uX10_end o0 v1 M0 = some R) : Ct G σ (1) yX10_end cX10_end 2 (some .boolean) [.ref (G.2.2 + o0), .int (iv v1)] M0 0 0 (Qb R.1 R.2) := by
  refine Ct.of hC.1 (by decide +kernel) (Nat.le_of_ble_eq_true rfl) ?_
  intro p l e R0 s m args below meth c C
  show Jz G σ p l e R0 s m args below meth c 2 0 0 (Qb R.1 R.2) M0 0 0 0 [(0, .ref (G.2.2 + o0)), (1, .int (iv v1))] []
  unfold uX10_end at h
  refine z_aload_n C dX10_end_0 0 rfl ?_
  refine z_iconst C dX10_end_1 ?_
  obtain ⟨M1, hM1, h⟩ := bnd h
  refine y_putI C dX10_end_2 fX10_83 rfl rfl rfl rfl hM1 ?_
  refine z_iload_n C dX10_end_5 1 rfl ?_
  refine z_if_lt 17 C dX10_end_6 (by decide) gv1 (fun e2 => ?_) (fun e2 => ?_)
  ·
    have h := (if_pos e2).symm.trans h
    refine z_iconst C dX10_end_17 ?_
    exact y_zretB C dX10_end_18 h (by decide)
  ·
    have h := (if_neg e2).symm.trans h
    refine z_iload_n C dX10_end_9 1 rfl ?_
    refine z_aload_n C dX10_end_10 0 rfl ?_
    obtain ⟨x3, hx3, h⟩ := bnd h
    refine y_getI C dX10_end_11 fX10_86 rfl hx3 (fun gx3 => ?_)
    refine z_icmp_le 19 C dX10_end_14 (by decide) gv1 gx3 (fun e4 => ?_) (fun e4 => ?_)
    ·
      have h := (if_pos e4).symm.trans h
      refine z_aload_n C dX10_end_19 0 rfl ?_
      refine z_iload_n C dX10_end_20 1 rfl ?_
      obtain ⟨M5, hM5, h⟩ := bnd h
      refine y_putI C dX10_end_21 fX10_86 rfl rfl rfl rfl hM5 ?_
      refine z_iconst C dX10_end_24 ?_
      exact y_zretB C dX10_end_25 h (by decide)
    ·
      have h := (if_neg e4).symm.trans h
      refine z_iconst C dX10_end_17 ?_
      exact y_zretB C dX10_end_18 h (by decide)

set_option maxHeartbeats 4000000 in
set_option maxRecDepth 100000 in
theorem tX10_take {G : Gx} {σ : State} (hC : Cy G σ) (o0 : Nat) {M0 : Mm}  {R : Int × Mm} (h : uX10_take o0 M0 = some R) : Ct G σ (1) yX10_take cX10_take 2 (some .int) [.ref (G.2.2 + o0)] M0 0 0 (Qi R.1 R.2) := by
  refine Ct.of hC.1 (by decide +kernel) (Nat.le_of_ble_eq_true rfl) ?_
  intro p l e R0 s m args below meth c C
  show Jz G σ p l e R0 s m args below meth c 2 0 0 (Qi R.1 R.2) M0 0 0 0 [(0, .ref (G.2.2 + o0))] []
  unfold uX10_take at h
  refine z_aload_n C dX10_take_0 0 rfl ?_
  obtain ⟨x1, hx1, h⟩ := bnd h
  refine y_getI C dX10_take_1 fX10_86 rfl hx1 (fun gx1 => ?_)
  refine z_istore_n (lv' := [(0, .ref (G.2.2 + o0)), (1, .int (iv x1))]) C dX10_take_4 rfl (by decide) [1, 0] rfl ?_
  refine z_aload_n C dX10_take_5 0 rfl ?_
  refine z_iconst C dX10_take_6 ?_
  obtain ⟨M2, hM2, h⟩ := bnd h
  refine y_putI C dX10_take_7 fX10_86 rfl rfl rfl rfl hM2 ?_
  refine z_iload_n C dX10_take_10 1 rfl ?_
  exact y_iretB C dX10_take_11 h gx1

set_option maxHeartbeats 4000000 in
set_option maxRecDepth 100000 in
theorem tX10_isIn {G : Gx} {σ : State} (hC : Cy G σ) (v0 : Int) (v1 : Int) (v2 : Int) {M0 : Mm} (gv0 : rg v0) (gv1 : rg v1) (gv2 : rg v2) {R : Int} (h : uX10_isIn v0 v1 v2 M0 = some R) : Ct G σ (1) yX10_isIn cX10_isIn 3 (some .boolean) [.int (iv v0), .int (iv v1), .int (iv v2)] M0 0 0 (Qb R M0) := by
  refine Ct.of hC.1 (by decide +kernel) (Nat.le_of_ble_eq_true rfl) ?_
  intro p l e R0 s m args below meth c C
  show Jz G σ p l e R0 s m args below meth c 3 0 0 (Qb R M0) M0 0 0 0 [(0, .int (iv v0)), (1, .int (iv v1)), (2, .int (iv v2))] []
  unfold uX10_isIn at h
  refine z_iload_n C dX10_isIn_0 0 rfl ?_
  refine z_iload_n C dX10_isIn_1 1 rfl ?_
  refine z_icmp_lt 14 C dX10_isIn_2 (by decide) gv0 gv1 (fun e1 => ?_) (fun e1 => ?_)
  ·
    have h := (if_pos e1).symm.trans h
    refine z_iconst C dX10_isIn_14 ?_
    exact y_zretP C dX10_isIn_15 h (by decide)
  ·
    have h := (if_neg e1).symm.trans h
    refine z_iload_n C dX10_isIn_5 0 rfl ?_
    refine z_iload_n C dX10_isIn_6 2 rfl ?_
    refine z_icmp_gt 14 C dX10_isIn_7 (by decide) gv0 gv2 (fun e2 => ?_) (fun e2 => ?_)
    ·
      have h := (if_pos e2).symm.trans h
      refine z_iconst C dX10_isIn_14 ?_
      exact y_zretP C dX10_isIn_15 h (by decide)
    ·
      have h := (if_neg e2).symm.trans h
      refine z_iconst C dX10_isIn_10 ?_
      refine z_goto 15 C dX10_isIn_11 (by decide) ?_
      exact y_zretP C dX10_isIn_15 h (by decide)

set_option maxHeartbeats 4000000 in
set_option maxRecDepth 100000 in
theorem tX10_has {G : Gx} {σ : State} (hC : Cy G σ) (v0 : Int) (v1 : Int) {M0 : Mm} (gv0 : rg v0) (gv1 : rg v1) {R : Int} (h : uX10_has v0 v1 M0 = some R) : Ct G σ (1) yX10_has cX10_has 2 (some .boolean) [.int (iv v0), .int (iv v1)] M0 0 0 (Qb R M0) := by
  refine Ct.of hC.1 (by decide +kernel) (Nat.le_of_ble_eq_true rfl) ?_
  intro p l e R0 s m args below meth c C
  show Jz G σ p l e R0 s m args below meth c 2 0 0 (Qb R M0) M0 0 0 0 [(0, .int (iv v0)), (1, .int (iv v1))] []
  unfold uX10_has at h
  refine z_iload_n C dX10_has_0 0 rfl ?_
  refine z_iload_n C dX10_has_1 1 rfl ?_
  refine z_ishr (shr32 v0 v1) C dX10_has_2 (iv_self _).symm ?_
  refine z_iconst C dX10_has_3 ?_
  refine z_iand (and32 (shr32 v0 v1) 1) C dX10_has_4 (iv_self _).symm ?_
  refine z_iconst C dX10_has_5 ?_
  refine z_icmp_ne 13 C dX10_has_6 (by decide) (and32_rng _ _) (by decide) (fun e1 => ?_) (fun e1 => ?_)
  ·
    have h := (if_neg e1).symm.trans h
    refine z_iconst C dX10_has_13 ?_
    exact y_zretP C dX10_has_14 h (by decide)
  ·
    have h := (if_pos e1).symm.trans h
    refine z_iconst C dX10_has_9 ?_
    refine z_goto 14 C dX10_has_10 (by decide) ?_
    exact y_zretP C dX10_has_14 h (by decide)

set_option maxHeartbeats 4000000 in
set_option maxRecDepth 100000 in
theorem tX10_byteAt {G : Gx} {σ : State} (hC : Cy G σ) (o0 : Nat) (v1 : Int) {M0 : Mm} (gv1 : rg v1) {R : Int} (h : uX10_byteAt o0 v1 M0 = some R) : Ct G σ (1) yX10_byteAt cX10_byteAt 2 (some .int) [.ref (G.2.2 + o0), .int (iv v1)] M0 0 0 (Qi R M0) := by
  refine Ct.of hC.1 (by decide +kernel) (Nat.le_of_ble_eq_true rfl) ?_
  intro p l e R0 s m args below meth c C
  show Jz G σ p l e R0 s m args below meth c 2 0 0 (Qi R M0) M0 0 0 0 [(0, .ref (G.2.2 + o0)), (1, .int (iv v1))] []
  unfold uX10_byteAt at h
  refine z_iload_n C dX10_byteAt_0 1 rfl ?_
  refine z_aload_n C dX10_byteAt_1 0 rfl ?_
  obtain ⟨x1, hx1, h⟩ := bnd h
  refine y_getI C dX10_byteAt_2 fX10_93 rfl hx1 (fun gx1 => ?_)
  refine z_icmp_ge 17 C dX10_byteAt_5 (by decide) gv1 gx1 (fun e2 => ?_) (fun e2 => ?_)
  ·
    have h := (if_pos e2).symm.trans h
    refine z_iconst C dX10_byteAt_17 ?_
    exact y_iretP C dX10_byteAt_18 h (by decide)
  ·
    have h := (if_neg e2).symm.trans h
    refine z_aload_n C dX10_byteAt_8 0 rfl ?_
    obtain ⟨on3, hon3, h⟩ := bnd h
    refine y_getR C dX10_byteAt_9 fX10_7 rfl hon3 ?_
    refine z_iload_n C dX10_byteAt_12 1 rfl ?_
    obtain ⟨x4, hx4, h⟩ := bnd h
    refine y_iald C dX10_byteAt_13 hx4 (fun gx4 => ?_)
    refine z_goto 18 C dX10_byteAt_14 (by decide) ?_
    exact y_iretP C dX10_byteAt_18 h gx4

set_option maxHeartbeats 4000000 in
set_option maxRecDepth 100000 in
theorem tX10_isDigit {G : Gx} {σ : State} (hC : Cy G σ) (v0 : Int) {M0 : Mm} (gv0 : rg v0) {R : Int} (h : uX10_isDigit v0 M0 = some R) : Ct G σ (1) yX10_isDigit cX10_isDigit 1 (some .boolean) [.int (iv v0)] M0 0 0 (Qb R M0) := by
  refine Ct.of hC.1 (by decide +kernel) (Nat.le_of_ble_eq_true rfl) ?_
  intro p l e R0 s m args below meth c C
  show Jz G σ p l e R0 s m args below meth c 1 0 0 (Qb R M0) M0 0 0 0 [(0, .int (iv v0))] []
  unfold uX10_isDigit at h
  refine z_iload_n C dX10_isDigit_0 0 rfl ?_
  refine z_bipush C dX10_isDigit_1 (by decide) ?_
  refine z_icmp_lt 16 C dX10_isDigit_3 (by decide) gv0 (by decide) (fun e1 => ?_) (fun e1 => ?_)
  ·
    have h := (if_pos e1).symm.trans h
    refine z_iconst C dX10_isDigit_16 ?_
    exact y_zretP C dX10_isDigit_17 h (by decide)
  ·
    have h := (if_neg e1).symm.trans h
    refine z_iload_n C dX10_isDigit_6 0 rfl ?_
    refine z_bipush C dX10_isDigit_7 (by decide) ?_
    refine z_icmp_gt 16 C dX10_isDigit_9 (by decide) gv0 (by decide) (fun e2 => ?_) (fun e2 => ?_)
    ·
      have h := (if_pos e2).symm.trans h
      refine z_iconst C dX10_isDigit_16 ?_
      exact y_zretP C dX10_isDigit_17 h (by decide)
    ·
      have h := (if_neg e2).symm.trans h
      refine z_iconst C dX10_isDigit_12 ?_
      refine z_goto 17 C dX10_isDigit_13 (by decide) ?_
      exact y_zretP C dX10_isDigit_17 h (by decide)

set_option maxHeartbeats 4000000 in
set_option maxRecDepth 100000 in
theorem tX10_isLetter {G : Gx} {σ : State} (hC : Cy G σ) (v0 : Int) {M0 : Mm} (gv0 : rg v0) {R : Int} (h : uX10_isLetter v0 M0 = some R) : Ct G σ (1) yX10_isLetter cX10_isLetter 1 (some .boolean) [.int (iv v0)] M0 0 0 (Qb R M0) := by
  refine Ct.of hC.1 (by decide +kernel) (Nat.le_of_ble_eq_true rfl) ?_
  intro p l e R0 s m args below meth c C
  show Jz G σ p l e R0 s m args below meth c 1 0 0 (Qb R M0) M0 0 0 0 [(0, .int (iv v0))] []
  unfold uX10_isLetter at h
  refine z_iload_n C dX10_isLetter_0 0 rfl ?_
  refine z_bipush C dX10_isLetter_1 (by decide) ?_
  refine z_icmp_lt 16 C dX10_isLetter_3 (by decide) gv0 (by decide) (fun e1 => ?_) (fun e1 => ?_)
  ·
    have h := (if_pos e1).symm.trans h
    refine z_iconst C dX10_isLetter_16 ?_
    exact y_zretP C dX10_isLetter_17 h (by decide)
  ·
    have h := (if_neg e1).symm.trans h
    refine z_iload_n C dX10_isLetter_6 0 rfl ?_
    refine z_bipush C dX10_isLetter_7 (by decide) ?_
    refine z_icmp_gt 16 C dX10_isLetter_9 (by decide) gv0 (by decide) (fun e2 => ?_) (fun e2 => ?_)
    ·
      have h := (if_pos e2).symm.trans h
      refine z_iconst C dX10_isLetter_16 ?_
      exact y_zretP C dX10_isLetter_17 h (by decide)
    ·
      have h := (if_neg e2).symm.trans h
      refine z_iconst C dX10_isLetter_12 ?_
      refine z_goto 17 C dX10_isLetter_13 (by decide) ?_
      exact y_zretP C dX10_isLetter_17 h (by decide)

set_option maxHeartbeats 4000000 in
set_option maxRecDepth 100000 in
theorem tX10_spelt {G : Gx} {σ : State} (hC : Cy G σ) (v0 : Int) (v1 : Int) (v2 : Int) (v3 : Int) {M0 : Mm} (gv0 : rg v0) (gv1 : rg v1) (gv2 : rg v2) (gv3 : rg v3) {R : Int} (h : uX10_spelt v0 v1 v2 v3 M0 = some R) : Ct G σ (1) yX10_spelt cX10_spelt 6 (some .long) [.int (iv v0), .int (iv v1), .int (iv v2), .int (iv v3)] M0 0 0 (Ql R M0) := by
  refine Ct.of hC.1 (by decide +kernel) (Nat.le_of_ble_eq_true rfl) ?_
  intro p l e R0 s m args below meth c C
  show Jz G σ p l e R0 s m args below meth c 6 0 0 (Ql R M0) M0 0 0 0 [(0, .int (iv v0)), (1, .int (iv v1)), (2, .int (iv v2)), (3, .int (iv v3))] []
  have hb38 : ∀ (v3 : Int) (v4 : Int), (rg v3) → (rl v4) → uX10_spelt_b38 v3 v4 M0 = some R → Jz G σ p l e R0 s m args below meth c 6 0 0 (Ql R M0) M0 0 0 38 [(3, .int (iv v3)), (4, .long (jv v4))] [] := by
    intro v3 v4  gv3 gv4 h
    unfold uX10_spelt_b38 at h
    refine z_iload_n C dX10_spelt_38 0 rfl ?_
    refine z_if_le 58 C dX10_spelt_39 (by decide) gv3 (fun e1 => ?_) (fun e1 => ?_)
    ·
      have h := (if_pos e1).symm.trans h
      refine z_lload C dX10_spelt_58 1 rfl ?_
      exact y_lretP C dX10_spelt_60 h gv4
    ·
      have h := (if_neg e1).symm.trans h
      refine z_ldc2 C dX10_spelt_42 kX10_129 ?_
      refine z_lload C dX10_spelt_45 1 rfl ?_
      refine y_lmul C dX10_spelt_47 ?_
      refine z_iload_n C dX10_spelt_48 0 rfl ?_
      refine z_i2l (v3) C dX10_spelt_49 (i2l_iv gv3) ?_
      refine y_ladd C dX10_spelt_50 ?_
      refine z_ldc2 C dX10_spelt_51 kX10_131 ?_
      refine y_lsub C dX10_spelt_54 ?_
      refine z_goto 60 C dX10_spelt_55 (by decide) ?_
      exact y_lretP C dX10_spelt_60 h (w64_rng _)
  unfold uX10_spelt at h
  refine z_ldc2 C dX10_spelt_0 kX10_129 ?_
  refine z_iload_n C dX10_spelt_3 0 rfl ?_
  refine z_i2l (v0) C dX10_spelt_4 (i2l_iv gv0) ?_
  refine z_ldc2 C dX10_spelt_5 kX10_131 ?_
  refine y_lsub C dX10_spelt_8 ?_
  refine y_lmul C dX10_spelt_9 ?_
  refine z_iload_n C dX10_spelt_10 1 rfl ?_
  refine z_i2l (v1) C dX10_spelt_11 (i2l_iv gv1) ?_
  refine y_ladd C dX10_spelt_12 ?_
  refine z_ldc2 C dX10_spelt_13 kX10_131 ?_
  refine y_lsub C dX10_spelt_16 ?_
  refine z_lstore (lv' := [(0, .int (iv v0)), (1, .int (iv v1)), (2, .int (iv v2)), (3, .int (iv v3)), (4, .long (jv (w64 ((w64 ((w64 (27 * (w64 (v0 - 96)))) + v1)) - 96))))]) C dX10_spelt_17 (by decide) [1, 2, 3, 4, 0] rfl ?_
  refine z_iload_n C dX10_spelt_19 2 rfl ?_
  refine z_if_le 38 C dX10_spelt_20 (by decide) gv2 (fun e2 => ?_) (fun e2 => ?_)
  ·
    have h := (if_pos e2).symm.trans h
    refine z_drop (lv' := [(3, .int (iv v3)), (4, .long (jv (w64 ((w64 ((w64 (27 * (w64 (v0 - 96)))) + v1)) - 96))))]) [3, 4] rfl ?_
    exact hb38 v3 (w64 ((w64 ((w64 (27 * (w64 (v0 - 96)))) + v1)) - 96))  gv3 (w64_rng _) h
  ·
    have h := (if_neg e2).symm.trans h
    refine z_ldc2 C dX10_spelt_23 kX10_129 ?_
    refine z_lload C dX10_spelt_26 4 rfl ?_
    refine y_lmul C dX10_spelt_28 ?_
    refine z_iload_n C dX10_spelt_29 2 rfl ?_
    refine z_i2l (v2) C dX10_spelt_30 (i2l_iv gv2) ?_
    refine y_ladd C dX10_spelt_31 ?_
    refine z_ldc2 C dX10_spelt_32 kX10_131 ?_
    refine y_lsub C dX10_spelt_35 ?_
    refine z_lstore (lv' := [(0, .int (iv v0)), (1, .int (iv v1)), (2, .int (iv v2)), (3, .int (iv v3)), (4, .long (jv (w64 ((w64 ((w64 (27 * (w64 ((w64 ((w64 (27 * (w64 (v0 - 96)))) + v1)) - 96)))) + v2)) - 96))))]) C dX10_spelt_36 (by decide) [1, 2, 3, 4, 0] rfl ?_
    refine z_drop (lv' := [(3, .int (iv v3)), (4, .long (jv (w64 ((w64 ((w64 (27 * (w64 ((w64 ((w64 (27 * (w64 (v0 - 96)))) + v1)) - 96)))) + v2)) - 96))))]) [3, 4] rfl ?_
    exact hb38 v3 (w64 ((w64 ((w64 (27 * (w64 ((w64 ((w64 (27 * (w64 (v0 - 96)))) + v1)) - 96)))) + v2)) - 96))  gv3 (w64_rng _) h

set_option maxHeartbeats 4000000 in
set_option maxRecDepth 100000 in
theorem tX10_on {G : Gx} {σ : State} (hC : Cy G σ) (v0 : Int) (v2 : Int) (v3 : Int) {M0 : Mm} (gv0 : rl v0) (gv2 : rg v2) (gv3 : rg v3) {R : Int} (h : uX10_on v0 v2 v3 M0 = some R) : Ct G σ (1) yX10_on cX10_on 6 (some .long) [.long (jv v0), .int (iv v2), .int (iv v3)] M0 0 0 (Ql R M0) := by
  refine Ct.of hC.1 (by decide +kernel) (Nat.le_of_ble_eq_true rfl) ?_
  intro p l e R0 s m args below meth c C
  show Jz G σ p l e R0 s m args below meth c 6 0 0 (Ql R M0) M0 0 0 0 [(0, .long (jv v0)), (2, .int (iv v2)), (3, .int (iv v3))] []
  unfold uX10_on at h
  refine z_ldc2 C dX10_on_0 kX10_129 ?_
  refine z_lload_n C dX10_on_3 0 rfl ?_
  refine y_lmul C dX10_on_4 ?_
  refine z_iload_n C dX10_on_5 1 rfl ?_
  refine z_i2l (v2) C dX10_on_6 (i2l_iv gv2) ?_
  refine y_ladd C dX10_on_7 ?_
  refine z_ldc2 C dX10_on_8 kX10_131 ?_
  refine y_lsub C dX10_on_11 ?_
  refine z_lstore (lv' := [(0, .long (jv v0)), (2, .int (iv v2)), (3, .int (iv v3)), (4, .long (jv (w64 ((w64 ((w64 (27 * v0)) + v2)) - 96))))]) C dX10_on_12 (by decide) [1, 2, 3, 0] rfl ?_
  refine z_iload_n C dX10_on_14 2 rfl ?_
  refine z_if_le 34 C dX10_on_15 (by decide) gv3 (fun e1 => ?_) (fun e1 => ?_)
  ·
    have h := (if_pos e1).symm.trans h
    refine z_lload C dX10_on_34 3 rfl ?_
    exact y_lretP C dX10_on_36 h (w64_rng _)
  ·
    have h := (if_neg e1).symm.trans h
    refine z_ldc2 C dX10_on_18 kX10_129 ?_
    refine z_lload C dX10_on_21 3 rfl ?_
    refine y_lmul C dX10_on_23 ?_
    refine z_iload_n C dX10_on_24 2 rfl ?_
    refine z_i2l (v3) C dX10_on_25 (i2l_iv gv3) ?_
    refine y_ladd C dX10_on_26 ?_
    refine z_ldc2 C dX10_on_27 kX10_131 ?_
    refine y_lsub C dX10_on_30 ?_
    refine z_goto 36 C dX10_on_31 (by decide) ?_
    exact y_lretP C dX10_on_36 h (w64_rng _)

set_option maxHeartbeats 4000000 in
set_option maxRecDepth 100000 in
theorem tX10_isSign {G : Gx} {σ : State} (hC : Cy G σ) (o0 : Nat) (v1 : Int) {M0 : Mm} (gv1 : rg v1) {R : Int} (h : uX10_isSign o0 v1 M0 = some R) : Ct G σ (1) yX10_isSign cX10_isSign 2 (some .boolean) [.ref (G.2.2 + o0), .int (iv v1)] M0 0 0 (Qb R M0) := by
  refine Ct.of hC.1 (by decide +kernel) (Nat.le_of_ble_eq_true rfl) ?_
  intro p l e R0 s m args below meth c C
  show Jz G σ p l e R0 s m args below meth c 2 0 0 (Qb R M0) M0 0 0 0 [(0, .ref (G.2.2 + o0)), (1, .int (iv v1))] []
  unfold uX10_isSign at h
  refine z_aload_n C dX10_isSign_0 0 rfl ?_
  obtain ⟨x1, hx1, h⟩ := bnd h
  refine y_getI C dX10_isSign_1 fX10_105 rfl hx1 (fun gx1 => ?_)
  refine z_iconst C dX10_isSign_4 ?_
  refine z_icmp_ne 20 C dX10_isSign_5 (by decide) gx1 (by decide) (fun e2 => ?_) (fun e2 => ?_)
  ·
    have h := (if_neg e2).symm.trans h
    refine z_iconst C dX10_isSign_20 ?_
    exact y_zretP C dX10_isSign_21 h (by decide)
  ·
    have h := (if_pos e2).symm.trans h
    refine z_aload_n C dX10_isSign_8 0 rfl ?_
    obtain ⟨x3, hx3, h⟩ := bnd h
    refine y_getI C dX10_isSign_9 fX10_115 rfl hx3 (fun gx3 => ?_)
    refine z_iload_n C dX10_isSign_12 1 rfl ?_
    refine z_icmp_ne 20 C dX10_isSign_13 (by decide) gx3 gv1 (fun e4 => ?_) (fun e4 => ?_)
    ·
      have h := (if_neg e4).symm.trans h
      refine z_iconst C dX10_isSign_20 ?_
      exact y_zretP C dX10_isSign_21 h (by decide)
    ·
      have h := (if_pos e4).symm.trans h
      refine z_iconst C dX10_isSign_16 ?_
      refine z_goto 21 C dX10_isSign_17 (by decide) ?_
      exact y_zretP C dX10_isSign_21 h (by decide)

set_option maxHeartbeats 4000000 in
set_option maxRecDepth 100000 in
theorem tX10_bad {G : Gx} {σ : State} (hC : Cy G σ) (o0 : Nat) (v1 : Int) {M0 : Mm} (gv1 : rg v1) {R : Int × Mm} (h : uX10_bad o0 v1 M0 = some R) : Ct G σ (1) yX10_bad cX10_bad 2 (some .boolean) [.ref (G.2.2 + o0), .int (iv v1)] M0 0 0 (Qb R.1 R.2) := by
  refine Ct.of hC.1 (by decide +kernel) (Nat.le_of_ble_eq_true rfl) ?_
  intro p l e R0 s m args below meth c C
  show Jz G σ p l e R0 s m args below meth c 2 0 0 (Qb R.1 R.2) M0 0 0 0 [(0, .ref (G.2.2 + o0)), (1, .int (iv v1))] []
  have hb14 : ∀ (o0 : Nat) (os0 : Nat) (vs1 : Int) (M : Mm), (rg vs1) → uX10_bad_b14 o0 os0 vs1 M = some R → Jz G σ p l e R0 s m args below meth c 2 0 0 (Qb R.1 R.2) M 0 0 14 [(0, .ref (G.2.2 + o0))] [.int (iv vs1), .ref (G.2.2 + os0)] := by
    intro o0 os0 vs1 M gvs1 h
    unfold uX10_bad_b14 at h
    obtain ⟨M1, hM1, h⟩ := bnd h
    refine y_putI C dX10_bad_14 fX10_145 rfl rfl rfl rfl hM1 ?_
    refine z_aload_n C dX10_bad_17 0 rfl ?_
    refine z_aload_n C dX10_bad_18 0 rfl ?_
    obtain ⟨x2, hx2, h⟩ := bnd h
    refine y_getI C dX10_bad_19 fX10_99 rfl hx2 (fun gx2 => ?_)
    obtain ⟨M3, hM3, h⟩ := bnd h
    refine y_putI C dX10_bad_22 fX10_148 rfl rfl rfl rfl hM3 ?_
    refine z_iconst C dX10_bad_25 ?_
    exact y_zretB C dX10_bad_26 h (by decide)
  unfold uX10_bad at h
  refine z_aload_n C dX10_bad_0 0 rfl ?_
  refine z_aload_n C dX10_bad_1 0 rfl ?_
  obtain ⟨x4, hx4, h⟩ := bnd h
  refine y_getI C dX10_bad_2 fX10_105 rfl hx4 (fun gx4 => ?_)
  refine z_iconst C dX10_bad_5 ?_
  refine z_icmp_ne 13 C dX10_bad_6 (by decide) gx4 (by decide) (fun e5 => ?_) (fun e5 => ?_)
  ·
    have h := (if_neg e5).symm.trans h
    refine z_iload_n C dX10_bad_13 1 rfl ?_
    refine z_drop (lv' := [(0, .ref (G.2.2 + o0))]) [0] rfl ?_
    exact hb14 o0 o0 v1 M0 gv1 h
  ·
    have h := (if_pos e5).symm.trans h
    refine z_iconst C dX10_bad_9 ?_
    refine z_goto 14 C dX10_bad_10 (by decide) ?_
    refine z_drop (lv' := [(0, .ref (G.2.2 + o0))]) [0] rfl ?_
    exact hb14 o0 o0 1 M0 (by decide) h

set_option maxHeartbeats 4000000 in
set_option maxRecDepth 100000 in
theorem tX10_plain {G : Gx} {σ : State} (hC : Cy G σ) (o0 : Nat) (o1 : Nat) {M0 : Mm}  {R : Mm} (h : uX10_plain o0 o1 M0 = some R) : Ct G σ (1) yX10_plain cX10_plain 2 none [.ref (G.2.2 + o0), .ref (G.2.2 + o1)] M0 0 0 (Qv R) := by
  refine Ct.of hC.1 (by decide +kernel) (Nat.le_of_ble_eq_true rfl) ?_
  intro p l e R0 s m args below meth c C
  show Jz G σ p l e R0 s m args below meth c 2 0 0 (Qv R) M0 0 0 0 [(0, .ref (G.2.2 + o0)), (1, .ref (G.2.2 + o1))] []
  unfold uX10_plain at h
  refine z_aload_n C dX10_plain_0 1 rfl ?_
  refine z_iconst C dX10_plain_1 ?_
  refine z_bipush C dX10_plain_2 (by decide) ?_
  obtain ⟨M1, hM1, h⟩ := bnd h
  refine y_iast C dX10_plain_4 hM1 ?_
  refine z_aload_n C dX10_plain_5 1 rfl ?_
  refine z_iconst C dX10_plain_6 ?_
  refine z_bipush C dX10_plain_7 (by decide) ?_
  obtain ⟨M2, hM2, h⟩ := bnd h
  refine y_iast C dX10_plain_9 hM2 ?_
  refine z_aload_n C dX10_plain_10 1 rfl ?_
  refine z_bipush C dX10_plain_11 (by decide) ?_
  refine z_iconst C dX10_plain_13 ?_
  obtain ⟨M3, hM3, h⟩ := bnd h
  refine y_iast C dX10_plain_14 hM3 ?_
  exact y_retV C dX10_plain_15 h

set_option maxHeartbeats 4000000 in
set_option maxRecDepth 100000 in
theorem tX10_people {G : Gx} {σ : State} (hC : Cy G σ) (o0 : Nat) {M0 : Mm}  {R : Int} (h : uX10_people o0 M0 = some R) : Ct G σ (1) yX10_people cX10_people 1 (some .int) [.ref (G.2.2 + o0)] M0 0 0 (Qi R M0) := by
  refine Ct.of hC.1 (by decide +kernel) (Nat.le_of_ble_eq_true rfl) ?_
  intro p l e R0 s m args below meth c C
  show Jz G σ p l e R0 s m args below meth c 1 0 0 (Qi R M0) M0 0 0 0 [(0, .ref (G.2.2 + o0))] []
  unfold uX10_people at h
  refine z_aload_n C dX10_people_0 0 rfl ?_
  obtain ⟨on1, hon1, h⟩ := bnd h
  refine y_getR C dX10_people_1 fX10_13 rfl hon1 ?_
  refine z_iconst C dX10_people_4 ?_
  obtain ⟨x2, hx2, h⟩ := bnd h
  refine y_iald C dX10_people_5 hx2 (fun gx2 => ?_)
  exact y_iretP C dX10_people_6 h gx2

set_option maxHeartbeats 4000000 in
set_option maxRecDepth 100000 in
theorem tX10_mints {G : Gx} {σ : State} (hC : Cy G σ) (o0 : Nat) {M0 : Mm}  {R : Int} (h : uX10_mints o0 M0 = some R) : Ct G σ (1) yX10_mints cX10_mints 1 (some .int) [.ref (G.2.2 + o0)] M0 0 0 (Qi R M0) := by
  refine Ct.of hC.1 (by decide +kernel) (Nat.le_of_ble_eq_true rfl) ?_
  intro p l e R0 s m args below meth c C
  show Jz G σ p l e R0 s m args below meth c 1 0 0 (Qi R M0) M0 0 0 0 [(0, .ref (G.2.2 + o0))] []
  unfold uX10_mints at h
  refine z_aload_n C dX10_mints_0 0 rfl ?_
  obtain ⟨on1, hon1, h⟩ := bnd h
  refine y_getR C dX10_mints_1 fX10_13 rfl hon1 ?_
  refine z_iconst C dX10_mints_4 ?_
  obtain ⟨x2, hx2, h⟩ := bnd h
  refine y_iald C dX10_mints_5 hx2 (fun gx2 => ?_)
  exact y_iretP C dX10_mints_6 h gx2

set_option maxHeartbeats 4000000 in
set_option maxRecDepth 100000 in
theorem tX10_coins {G : Gx} {σ : State} (hC : Cy G σ) (o0 : Nat) {M0 : Mm}  {R : Int} (h : uX10_coins o0 M0 = some R) : Ct G σ (1) yX10_coins cX10_coins 1 (some .int) [.ref (G.2.2 + o0)] M0 0 0 (Qi R M0) := by
  refine Ct.of hC.1 (by decide +kernel) (Nat.le_of_ble_eq_true rfl) ?_
  intro p l e R0 s m args below meth c C
  show Jz G σ p l e R0 s m args below meth c 1 0 0 (Qi R M0) M0 0 0 0 [(0, .ref (G.2.2 + o0))] []
  unfold uX10_coins at h
  refine z_aload_n C dX10_coins_0 0 rfl ?_
  obtain ⟨on1, hon1, h⟩ := bnd h
  refine y_getR C dX10_coins_1 fX10_13 rfl hon1 ?_
  refine z_bipush C dX10_coins_4 (by decide) ?_
  obtain ⟨x2, hx2, h⟩ := bnd h
  refine y_iald C dX10_coins_6 hx2 (fun gx2 => ?_)
  exact y_iretP C dX10_coins_7 h gx2

set_option maxHeartbeats 4000000 in
set_option maxRecDepth 100000 in
theorem tX10_ofWho {G : Gx} {σ : State} (hC : Cy G σ) (o0 : Nat) (v1 : Int) (v2 : Int) {M0 : Mm} (gv1 : rg v1) (gv2 : rg v2) {R : Int} (h : uX10_ofWho o0 v1 v2 M0 = some R) : Ct G σ (1) yX10_ofWho cX10_ofWho 3 (some .int) [.ref (G.2.2 + o0), .int (iv v1), .int (iv v2)] M0 0 0 (Qi R M0) := by
  refine Ct.of hC.1 (by decide +kernel) (Nat.le_of_ble_eq_true rfl) ?_
  intro p l e R0 s m args below meth c C
  show Jz G σ p l e R0 s m args below meth c 3 0 0 (Qi R M0) M0 0 0 0 [(0, .ref (G.2.2 + o0)), (1, .int (iv v1)), (2, .int (iv v2))] []
  unfold uX10_ofWho at h
  refine z_aload_n C dX10_ofWho_0 0 rfl ?_
  obtain ⟨on1, hon1, h⟩ := bnd h
  refine y_getR C dX10_ofWho_1 fX10_13 rfl hon1 ?_
  refine z_bipush C dX10_ofWho_4 (by decide) ?_
  refine z_iconst C dX10_ofWho_6 ?_
  refine z_iload_n C dX10_ofWho_7 1 rfl ?_
  refine y_imul C dX10_ofWho_8 ?_
  refine y_iadd C dX10_ofWho_9 ?_
  refine z_iload_n C dX10_ofWho_10 2 rfl ?_
  refine y_iadd C dX10_ofWho_11 ?_
  obtain ⟨x2, hx2, h⟩ := bnd h
  refine y_iald C dX10_ofWho_12 hx2 (fun gx2 => ?_)
  exact y_iretP C dX10_ofWho_13 h gx2

set_option maxHeartbeats 4000000 in
set_option maxRecDepth 100000 in
theorem tX10_ofMint {G : Gx} {σ : State} (hC : Cy G σ) (o0 : Nat) (v1 : Int) (v2 : Int) {M0 : Mm} (gv1 : rg v1) (gv2 : rg v2) {R : Int} (h : uX10_ofMint o0 v1 v2 M0 = some R) : Ct G σ (1) yX10_ofMint cX10_ofMint 3 (some .int) [.ref (G.2.2 + o0), .int (iv v1), .int (iv v2)] M0 0 0 (Qi R M0) := by
  refine Ct.of hC.1 (by decide +kernel) (Nat.le_of_ble_eq_true rfl) ?_
  intro p l e R0 s m args below meth c C
  show Jz G σ p l e R0 s m args below meth c 3 0 0 (Qi R M0) M0 0 0 0 [(0, .ref (G.2.2 + o0)), (1, .int (iv v1)), (2, .int (iv v2))] []
  unfold uX10_ofMint at h
  refine z_aload_n C dX10_ofMint_0 0 rfl ?_
  obtain ⟨on1, hon1, h⟩ := bnd h
  refine y_getR C dX10_ofMint_1 fX10_13 rfl hon1 ?_
  refine z_bipush C dX10_ofMint_4 (by decide) ?_
  refine z_iconst C dX10_ofMint_6 ?_
  refine z_iload_n C dX10_ofMint_7 1 rfl ?_
  refine y_imul C dX10_ofMint_8 ?_
  refine y_iadd C dX10_ofMint_9 ?_
  refine z_iload_n C dX10_ofMint_10 2 rfl ?_
  refine y_iadd C dX10_ofMint_11 ?_
  obtain ⟨x2, hx2, h⟩ := bnd h
  refine y_iald C dX10_ofMint_12 hx2 (fun gx2 => ?_)
  exact y_iretP C dX10_ofMint_13 h gx2

set_option maxHeartbeats 4000000 in
set_option maxRecDepth 100000 in
theorem tX10_ofCoin {G : Gx} {σ : State} (hC : Cy G σ) (o0 : Nat) (v1 : Int) (v2 : Int) {M0 : Mm} (gv1 : rg v1) (gv2 : rg v2) {R : Int} (h : uX10_ofCoin o0 v1 v2 M0 = some R) : Ct G σ (1) yX10_ofCoin cX10_ofCoin 3 (some .int) [.ref (G.2.2 + o0), .int (iv v1), .int (iv v2)] M0 0 0 (Qi R M0) := by
  refine Ct.of hC.1 (by decide +kernel) (Nat.le_of_ble_eq_true rfl) ?_
  intro p l e R0 s m args below meth c C
  show Jz G σ p l e R0 s m args below meth c 3 0 0 (Qi R M0) M0 0 0 0 [(0, .ref (G.2.2 + o0)), (1, .int (iv v1)), (2, .int (iv v2))] []
  unfold uX10_ofCoin at h
  refine z_aload_n C dX10_ofCoin_0 0 rfl ?_
  obtain ⟨on1, hon1, h⟩ := bnd h
  refine y_getR C dX10_ofCoin_1 fX10_13 rfl hon1 ?_
  refine z_bipush C dX10_ofCoin_4 (by decide) ?_
  refine z_bipush C dX10_ofCoin_6 (by decide) ?_
  refine z_iload_n C dX10_ofCoin_8 1 rfl ?_
  refine y_imul C dX10_ofCoin_9 ?_
  refine y_iadd C dX10_ofCoin_10 ?_
  refine z_iload_n C dX10_ofCoin_11 2 rfl ?_
  refine y_iadd C dX10_ofCoin_12 ?_
  obtain ⟨x2, hx2, h⟩ := bnd h
  refine y_iald C dX10_ofCoin_13 hx2 (fun gx2 => ?_)
  exact y_iretP C dX10_ofCoin_14 h gx2

set_option maxHeartbeats 4000000 in
set_option maxRecDepth 100000 in
theorem tX10_findIn {G : Gx} {σ : State} (hC : Cy G σ) (o0 : Nat) (o1 : Nat) (v2 : Int) (v3 : Int) {M0 : Mm} (gv2 : rg v2) (gv3 : rg v3) {R : Int} (h : uX10_findIn o0 o1 v2 v3 M0 = some R) : Ct G σ (1) yX10_findIn cX10_findIn 5 (some .int) [.ref (G.2.2 + o0), .ref (G.2.2 + o1), .int (iv v2), .int (iv v3)] M0 0 0 (Qi R M0) := by
  refine Ct.of hC.1 (by decide +kernel) (Nat.le_of_ble_eq_true rfl) ?_
  intro p l e R0 s m args below meth c C
  show Jz G σ p l e R0 s m args below meth c 5 0 0 (Qi R M0) M0 0 0 0 [(0, .ref (G.2.2 + o0)), (1, .ref (G.2.2 + o1)), (2, .int (iv v2)), (3, .int (iv v3))] []
  have hb32 : uX10_findIn_b32 M0 = some R → Jz G σ p l e R0 s m args below meth c 5 0 0 (Qi R M0) M0 0 0 32 [] [] := by
    intro    h
    unfold uX10_findIn_b32 at h
    refine z_iconst C dX10_findIn_32 ?_
    exact y_iretP C dX10_findIn_33 h (by decide)
  have hb3 : ∀ (o0 : Nat) (o1 : Nat) (v2 : Int) (v3 : Int) (v4 : Int), (rg v2) → (rg v3) → (rg v4) → uX10_findIn_b3 o0 o1 v2 v3 v4 M0 = some R → Jz G σ p l e R0 s m args below meth c 5 0 0 (Qi R M0) M0 0 0 3 [(0, .ref (G.2.2 + o0)), (1, .ref (G.2.2 + o1)), (2, .int (iv v2)), (3, .int (iv v3)), (4, .int (iv v4))] [] := by
    intro o0 o1 v2 v3 v4  gv2 gv3 gv4 h
    unfold uX10_findIn_b3 at h
    obtain ⟨b3, hb3_, hc3⟩ := bnd h
    have hL3 : ∀ (n : Nat) (v4 : Int), (rg v4) → lp (uX10_findIn_f3 o0 o1 v2 v3 M0) n v4 = some b3 → Jz G σ p l e R0 s m args below meth c 5 0 0 (Qi R M0) M0 0 0 3 [(0, .ref (G.2.2 + o0)), (1, .ref (G.2.2 + o1)), (2, .int (iv v2)), (3, .int (iv v3)), (4, .int (iv v4))] [] := by
      intro n; induction n with
      | zero => intro v4 gv4 hq; exact (lp_0 hq).elim
      | succ n3 ih3 =>
        intro v4 gv4 hq
        obtain ⟨z3, h, hZ3⟩ := lp_s hq
        have h : uX10_findIn_s3 o0 o1 v2 v3 M0 v4 = some z3 := h
        unfold uX10_findIn_s3 at h
        refine z_iload C dX10_findIn_3 4 rfl ?_
        refine z_iload_n C dX10_findIn_5 3 rfl ?_
        refine z_icmp_ge 32 C dX10_findIn_6 (by decide) gv4 gv3 (fun e1 => ?_) (fun e1 => ?_)
        ·
          have h := (if_pos e1).symm.trans h
          have h : uX10_findIn_b32 M0 = some R := lp_ex (K := (uX10_findIn_c3 o0 o1 v2 v3 M0)) h hZ3 hc3
          refine z_drop (lv' := []) [] rfl ?_
          exact hb32    h
        ·
          have h := (if_neg e1).symm.trans h
          refine z_aload_n C dX10_findIn_9 1 rfl ?_
          refine z_iload_n C dX10_findIn_10 2 rfl ?_
          refine z_iload C dX10_findIn_11 4 rfl ?_
          refine y_iadd C dX10_findIn_13 ?_
          obtain ⟨x2, hx2, h⟩ := bnd h
          refine y_lald C dX10_findIn_14 hx2 (fun gx2 => ?_)
          refine z_aload_n C dX10_findIn_15 0 rfl ?_
          obtain ⟨x3, hx3, h⟩ := bnd h
          refine y_getJ C dX10_findIn_16 fX10_118 rfl hx3 (fun gx3 => ?_)
          refine z_lcmp (cmpI x2 x3) C dX10_findIn_19 (lcmp_jv gx2 gx3) ?_
          refine z_if_ne_c 26 C dX10_findIn_20 (by decide) (fun e4 => ?_) (fun e4 => ?_)
          ·
            have h := (if_neg e4).symm.trans h
            refine y_iinc (lv' := [(0, .ref (G.2.2 + o0)), (1, .ref (G.2.2 + o1)), (2, .int (iv v2)), (3, .int (iv v3)), (4, .int (iv (w32 (v4 + 1))))]) C dX10_findIn_26 4 rfl (by decide) [1, 2, 3, 4, 0] rfl ?_
            refine z_goto 3 C dX10_findIn_29 (by decide) ?_
            exact ih3 (w32 (v4 + 1)) (w32_rng _) (lp_back h hZ3)
          ·
            have h := (if_pos e4).symm.trans h
            refine z_iload C dX10_findIn_23 4 rfl ?_
            have h := lp_ret (K := (uX10_findIn_c3 o0 o1 v2 v3 M0)) h hZ3 hc3
            exact y_iretP C dX10_findIn_25 h gv4
    exact hL3 _ v4 gv4 hb3_
  unfold uX10_findIn at h
  refine z_iconst C dX10_findIn_0 ?_
  refine z_istore (lv' := [(0, .ref (G.2.2 + o0)), (1, .ref (G.2.2 + o1)), (2, .int (iv v2)), (3, .int (iv v3)), (4, .int (iv 0))]) C dX10_findIn_1 (by decide) [1, 2, 3, 4, 0] rfl ?_
  exact hb3 o0 o1 v2 v3 0  gv2 gv3 (by decide) h

set_option maxHeartbeats 4000000 in
set_option maxRecDepth 100000 in
theorem tX10_fault {G : Gx} {σ : State} (hC : Cy G σ) (o0 : Nat) {M0 : Mm}  {R : Int × Mm} (h : uX10_fault o0 M0 = some R) : Ct G σ (1) yX10_fault cX10_fault 1 (some .int) [.ref (G.2.2 + o0)] M0 0 0 (Qi R.1 R.2) := by
  refine Ct.of hC.1 (by decide +kernel) (Nat.le_of_ble_eq_true rfl) ?_
  intro p l e R0 s m args below meth c C
  show Jz G σ p l e R0 s m args below meth c 1 0 0 (Qi R.1 R.2) M0 0 0 0 [(0, .ref (G.2.2 + o0))] []
  unfold uX10_fault at h
  refine z_aload_n C dX10_fault_0 0 rfl ?_
  refine z_iconst C dX10_fault_1 ?_
  obtain ⟨M1, hM1, h⟩ := bnd h
  refine y_putI C dX10_fault_2 fX10_83 rfl rfl rfl rfl hM1 ?_
  refine z_aload_n C dX10_fault_5 0 rfl ?_
  obtain ⟨x2, hx2, h⟩ := bnd h
  refine y_getI C dX10_fault_6 fX10_145 rfl hx2 (fun gx2 => ?_)
  exact y_iretB C dX10_fault_9 h gx2

set_option maxHeartbeats 4000000 in
set_option maxRecDepth 100000 in
theorem tX10_snap {G : Gx} {σ : State} (hC : Cy G σ) (o0 : Nat) {M0 : Mm}  {R : Mm} (h : uX10_snap o0 M0 = some R) : Ct G σ (1) yX10_snap cX10_snap 2 none [.ref (G.2.2 + o0)] M0 0 0 (Qv R) := by
  refine Ct.of hC.1 (by decide +kernel) (Nat.le_of_ble_eq_true rfl) ?_
  intro p l e R0 s m args below meth c C
  show Jz G σ p l e R0 s m args below meth c 2 0 0 (Qv R) M0 0 0 0 [(0, .ref (G.2.2 + o0))] []
  have hb87 : ∀ (o0 : Nat) (M : Mm), uX10_snap_b87 o0 M = some R → Jz G σ p l e R0 s m args below meth c 2 0 0 (Qv R) M 0 0 87 [(0, .ref (G.2.2 + o0))] [] := by
    intro o0 M  h
    unfold uX10_snap_b87 at h
    refine z_aload_n C dX10_snap_87 0 rfl ?_
    refine z_dup C dX10_snap_88 rfl ?_
    obtain ⟨x1, hx1, h⟩ := bnd h
    refine y_getI C dX10_snap_89 fX10_240 rfl hx1 (fun gx1 => ?_)
    refine z_iconst C dX10_snap_92 ?_
    refine y_iadd C dX10_snap_93 ?_
    obtain ⟨M2, hM2, h⟩ := bnd h
    refine y_putI C dX10_snap_94 fX10_240 rfl rfl rfl rfl hM2 ?_
    exact y_retV C dX10_snap_97 h
  have hb53 : ∀ (o0 : Nat) (v1 : Int) (M : Mm), (rg v1) → uX10_snap_b53 o0 v1 M = some R → Jz G σ p l e R0 s m args below meth c 2 0 0 (Qv R) M 0 0 53 [(0, .ref (G.2.2 + o0)), (1, .int (iv v1))] [] := by
    intro o0 v1 M gv1 h
    unfold uX10_snap_b53 at h
    obtain ⟨b53, hb53_, hc53⟩ := bnd h
    have hL53 : ∀ (n : Nat) (v1 : Int) (M : Mm), (rg v1) → lp (uX10_snap_f53 o0) n (v1, M) = some b53 → Jz G σ p l e R0 s m args below meth c 2 0 0 (Qv R) M 0 0 53 [(0, .ref (G.2.2 + o0)), (1, .int (iv v1))] [] := by
      intro n; induction n with
      | zero => intro v1 M gv1 hq; exact (lp_0 hq).elim
      | succ n53 ih53 =>
        intro v1 M gv1 hq
        obtain ⟨z53, h, hZ53⟩ := lp_s hq
        have h : uX10_snap_s53 o0 v1 M = some z53 := h
        unfold uX10_snap_s53 at h
        refine z_iload_n C dX10_snap_53 1 rfl ?_
        refine z_sipush C dX10_snap_54 (by decide) ?_
        refine z_icmp_ge 87 C dX10_snap_57 (by decide) gv1 (by decide) (fun e3 => ?_) (fun e3 => ?_)
        ·
          have h := (if_pos e3).symm.trans h
          have h : uX10_snap_b87 o0 M = some R := lp_ex (K := (uX10_snap_c53 o0)) h hZ53 hc53
          refine z_drop (lv' := [(0, .ref (G.2.2 + o0))]) [0] rfl ?_
          exact hb87 o0 M  h
        ·
          have h := (if_neg e3).symm.trans h
          refine z_aload_n C dX10_snap_60 0 rfl ?_
          obtain ⟨on4, hon4, h⟩ := bnd h
          refine y_getR C dX10_snap_61 fX10_23 rfl hon4 ?_
          refine z_sipush C dX10_snap_64 (by decide) ?_
          refine z_aload_n C dX10_snap_67 0 rfl ?_
          obtain ⟨x5, hx5, h⟩ := bnd h
          refine y_getI C dX10_snap_68 fX10_240 rfl hx5 (fun gx5 => ?_)
          refine y_imul C dX10_snap_71 ?_
          refine z_iload_n C dX10_snap_72 1 rfl ?_
          refine y_iadd C dX10_snap_73 ?_
          refine z_aload_n C dX10_snap_74 0 rfl ?_
          obtain ⟨on6, hon6, h⟩ := bnd h
          refine y_getR C dX10_snap_75 fX10_13 rfl hon6 ?_
          refine z_iload_n C dX10_snap_78 1 rfl ?_
          obtain ⟨x7, hx7, h⟩ := bnd h
          refine y_iald C dX10_snap_79 hx7 (fun gx7 => ?_)
          obtain ⟨M8, hM8, h⟩ := bnd h
          refine y_iast C dX10_snap_80 hM8 ?_
          refine y_iinc (lv' := [(0, .ref (G.2.2 + o0)), (1, .int (iv (w32 (v1 + 1))))]) C dX10_snap_81 1 rfl (by decide) [1, 0] rfl ?_
          refine z_goto 53 C dX10_snap_84 (by decide) ?_
          exact ih53 (w32 (v1 + 1)) M8 (w32_rng _) (lp_back h hZ53)
    exact hL53 _ v1 M gv1 hb53_
  have hb51 : ∀ (o0 : Nat) (M : Mm), uX10_snap_b51 o0 M = some R → Jz G σ p l e R0 s m args below meth c 2 0 0 (Qv R) M 0 0 51 [(0, .ref (G.2.2 + o0))] [] := by
    intro o0 M  h
    unfold uX10_snap_b51 at h
    refine z_iconst C dX10_snap_51 ?_
    refine z_istore_n (lv' := [(0, .ref (G.2.2 + o0)), (1, .int (iv 0))]) C dX10_snap_52 rfl (by decide) [1, 0] rfl ?_
    exact hb53 o0 0 M (by decide) h
  have hb41 : ∀ (o0 : Nat) (M : Mm), uX10_snap_b41 o0 M = some R → Jz G σ p l e R0 s m args below meth c 2 0 0 (Qv R) M 0 0 41 [(0, .ref (G.2.2 + o0))] [] := by
    intro o0 M  h
    unfold uX10_snap_b41 at h
    refine z_aload_n C dX10_snap_41 0 rfl ?_
    refine z_dup C dX10_snap_42 rfl ?_
    obtain ⟨x9, hx9, h⟩ := bnd h
    refine y_getI C dX10_snap_43 fX10_240 rfl hx9 (fun gx9 => ?_)
    refine z_iconst C dX10_snap_46 ?_
    refine y_isub C dX10_snap_47 ?_
    obtain ⟨M10, hM10, h⟩ := bnd h
    refine y_putI C dX10_snap_48 fX10_240 rfl rfl rfl rfl hM10 ?_
    exact hb51 o0 M10  h
  have hb13 : ∀ (o0 : Nat) (v1 : Int) (M : Mm), (rg v1) → uX10_snap_b13 o0 v1 M = some R → Jz G σ p l e R0 s m args below meth c 2 0 0 (Qv R) M 0 0 13 [(0, .ref (G.2.2 + o0)), (1, .int (iv v1))] [] := by
    intro o0 v1 M gv1 h
    unfold uX10_snap_b13 at h
    obtain ⟨b13, hb13_, hc13⟩ := bnd h
    have hL13 : ∀ (n : Nat) (v1 : Int) (M : Mm), (rg v1) → lp (uX10_snap_f13 o0) n (v1, M) = some b13 → Jz G σ p l e R0 s m args below meth c 2 0 0 (Qv R) M 0 0 13 [(0, .ref (G.2.2 + o0)), (1, .int (iv v1))] [] := by
      intro n; induction n with
      | zero => intro v1 M gv1 hq; exact (lp_0 hq).elim
      | succ n13 ih13 =>
        intro v1 M gv1 hq
        obtain ⟨z13, h, hZ13⟩ := lp_s hq
        have h : uX10_snap_s13 o0 v1 M = some z13 := h
        unfold uX10_snap_s13 at h
        refine z_iload_n C dX10_snap_13 1 rfl ?_
        refine z_ldc C dX10_snap_14 kX10_22 ?_
        refine z_icmp_ge 41 C dX10_snap_16 (by decide) gv1 (by decide) (fun e11 => ?_) (fun e11 => ?_)
        ·
          have h := (if_pos e11).symm.trans h
          have h : uX10_snap_b41 o0 M = some R := lp_ex (K := (uX10_snap_c13 o0)) h hZ13 hc13
          refine z_drop (lv' := [(0, .ref (G.2.2 + o0))]) [0] rfl ?_
          exact hb41 o0 M  h
        ·
          have h := (if_neg e11).symm.trans h
          refine z_aload_n C dX10_snap_19 0 rfl ?_
          obtain ⟨on12, hon12, h⟩ := bnd h
          refine y_getR C dX10_snap_20 fX10_23 rfl hon12 ?_
          refine z_iload_n C dX10_snap_23 1 rfl ?_
          refine z_sipush C dX10_snap_24 (by decide) ?_
          refine y_isub C dX10_snap_27 ?_
          refine z_aload_n C dX10_snap_28 0 rfl ?_
          obtain ⟨on13, hon13, h⟩ := bnd h
          refine y_getR C dX10_snap_29 fX10_23 rfl hon13 ?_
          refine z_iload_n C dX10_snap_32 1 rfl ?_
          obtain ⟨x14, hx14, h⟩ := bnd h
          refine y_iald C dX10_snap_33 hx14 (fun gx14 => ?_)
          obtain ⟨M15, hM15, h⟩ := bnd h
          refine y_iast C dX10_snap_34 hM15 ?_
          refine y_iinc (lv' := [(0, .ref (G.2.2 + o0)), (1, .int (iv (w32 (v1 + 1))))]) C dX10_snap_35 1 rfl (by decide) [1, 0] rfl ?_
          refine z_goto 13 C dX10_snap_38 (by decide) ?_
          exact ih13 (w32 (v1 + 1)) M15 (w32_rng _) (lp_back h hZ13)
    exact hL13 _ v1 M gv1 hb13_
  unfold uX10_snap at h
  refine z_aload_n C dX10_snap_0 0 rfl ?_
  obtain ⟨x16, hx16, h⟩ := bnd h
  refine y_getI C dX10_snap_1 fX10_240 rfl hx16 (fun gx16 => ?_)
  refine z_bipush C dX10_snap_4 (by decide) ?_
  refine z_icmp_ne 51 C dX10_snap_6 (by decide) gx16 (by decide) (fun e17 => ?_) (fun e17 => ?_)
  ·
    have h := (if_neg e17).symm.trans h
    exact hb51 o0 M0  h
  ·
    have h := (if_pos e17).symm.trans h
    refine z_sipush C dX10_snap_9 (by decide) ?_
    refine z_istore_n (lv' := [(0, .ref (G.2.2 + o0)), (1, .int (iv 7900))]) C dX10_snap_12 rfl (by decide) [1, 0] rfl ?_
    exact hb13 o0 7900 M0 (by decide) h

set_option maxHeartbeats 4000000 in
set_option maxRecDepth 100000 in
theorem tX10_isFull {G : Gx} {σ : State} (hC : Cy G σ) (o0 : Nat) (v1 : Int) {M0 : Mm} (gv1 : rg v1) {R : Int} (h : uX10_isFull o0 v1 M0 = some R) : Ct G σ (1) yX10_isFull cX10_isFull 2 (some .boolean) [.ref (G.2.2 + o0), .int (iv v1)] M0 0 0 (Qb R M0) := by
  refine Ct.of hC.1 (by decide +kernel) (Nat.le_of_ble_eq_true rfl) ?_
  intro p l e R0 s m args below meth c C
  show Jz G σ p l e R0 s m args below meth c 2 0 0 (Qb R M0) M0 0 0 0 [(0, .ref (G.2.2 + o0)), (1, .int (iv v1))] []
  unfold uX10_isFull at h
  refine z_aload_n C dX10_isFull_0 0 rfl ?_
  obtain ⟨on1, hon1, h⟩ := bnd h
  refine y_getR C dX10_isFull_1 fX10_13 rfl hon1 ?_
  refine z_bipush C dX10_isFull_4 (by decide) ?_
  obtain ⟨x2, hx2, h⟩ := bnd h
  refine y_iald C dX10_isFull_6 hx2 (fun gx2 => ?_)
  refine z_iload_n C dX10_isFull_7 1 rfl ?_
  refine y_iadd C dX10_isFull_8 ?_
  refine z_sipush C dX10_isFull_9 (by decide) ?_
  refine z_icmp_le 19 C dX10_isFull_12 (by decide) (w32_rng _) (by decide) (fun e3 => ?_) (fun e3 => ?_)
  ·
    have h := (if_pos e3).symm.trans h
    refine z_iconst C dX10_isFull_19 ?_
    exact y_zretP C dX10_isFull_20 h (by decide)
  ·
    have h := (if_neg e3).symm.trans h
    refine z_iconst C dX10_isFull_15 ?_
    refine z_goto 20 C dX10_isFull_16 (by decide) ?_
    exact y_zretP C dX10_isFull_20 h (by decide)

set_option maxHeartbeats 4000000 in
set_option maxRecDepth 100000 in
theorem tX10_keepSale {G : Gx} {σ : State} (hC : Cy G σ) (o0 : Nat) (v1 : Int) (v2 : Int) (v3 : Int) (v4 : Int) (v5 : Int) (v6 : Int) {M0 : Mm} (gv1 : rg v1) (gv2 : rg v2) (gv3 : rg v3) (gv4 : rg v4) (gv5 : rg v5) (gv6 : rg v6) {R : Mm} (h : uX10_keepSale o0 v1 v2 v3 v4 v5 v6 M0 = some R) : Ct G σ (1) yX10_keepSale cX10_keepSale 8 none [.ref (G.2.2 + o0), .int (iv v1), .int (iv v2), .int (iv v3), .int (iv v4), .int (iv v5), .int (iv v6)] M0 0 0 (Qv R) := by
  refine Ct.of hC.1 (by decide +kernel) (Nat.le_of_ble_eq_true rfl) ?_
  intro p l e R0 s m args below meth c C
  show Jz G σ p l e R0 s m args below meth c 8 0 0 (Qv R) M0 0 0 0 [(0, .ref (G.2.2 + o0)), (1, .int (iv v1)), (2, .int (iv v2)), (3, .int (iv v3)), (4, .int (iv v4)), (5, .int (iv v5)), (6, .int (iv v6))] []
  unfold uX10_keepSale at h
  refine z_sipush C dX10_keepSale_0 (by decide) ?_
  refine z_bipush C dX10_keepSale_3 (by decide) ?_
  refine z_aload_n C dX10_keepSale_5 0 rfl ?_
  obtain ⟨on1, hon1, h⟩ := bnd h
  refine y_getR C dX10_keepSale_6 fX10_13 rfl hon1 ?_
  refine z_bipush C dX10_keepSale_9 (by decide) ?_
  obtain ⟨x2, hx2, h⟩ := bnd h
  refine y_iald C dX10_keepSale_11 hx2 (fun gx2 => ?_)
  refine y_imul C dX10_keepSale_12 ?_
  refine y_iadd C dX10_keepSale_13 ?_
  refine z_istore (lv' := [(0, .ref (G.2.2 + o0)), (1, .int (iv v1)), (2, .int (iv v2)), (3, .int (iv v3)), (4, .int (iv v4)), (5, .int (iv v5)), (6, .int (iv v6)), (7, .int (iv (w32 (4400 + (w32 (7 * x2))))))]) C dX10_keepSale_14 (by decide) [1, 2, 3, 4, 5, 6, 7, 0] rfl ?_
  refine z_aload_n C dX10_keepSale_16 0 rfl ?_
  obtain ⟨on3, hon3, h⟩ := bnd h
  refine y_getR C dX10_keepSale_17 fX10_13 rfl hon3 ?_
  refine z_iload C dX10_keepSale_20 7 rfl ?_
  refine z_iload_n C dX10_keepSale_22 1 rfl ?_
  obtain ⟨M4, hM4, h⟩ := bnd h
  refine y_iast C dX10_keepSale_23 hM4 ?_
  refine z_aload_n C dX10_keepSale_24 0 rfl ?_
  obtain ⟨on5, hon5, h⟩ := bnd h
  refine y_getR C dX10_keepSale_25 fX10_13 rfl hon5 ?_
  refine z_iload C dX10_keepSale_28 7 rfl ?_
  refine z_iconst C dX10_keepSale_30 ?_
  refine y_iadd C dX10_keepSale_31 ?_
  refine z_iload_n C dX10_keepSale_32 2 rfl ?_
  obtain ⟨M6, hM6, h⟩ := bnd h
  refine y_iast C dX10_keepSale_33 hM6 ?_
  refine z_aload_n C dX10_keepSale_34 0 rfl ?_
  obtain ⟨on7, hon7, h⟩ := bnd h
  refine y_getR C dX10_keepSale_35 fX10_13 rfl hon7 ?_
  refine z_iload C dX10_keepSale_38 7 rfl ?_
  refine z_iconst C dX10_keepSale_40 ?_
  refine y_iadd C dX10_keepSale_41 ?_
  refine z_iload_n C dX10_keepSale_42 3 rfl ?_
  obtain ⟨M8, hM8, h⟩ := bnd h
  refine y_iast C dX10_keepSale_43 hM8 ?_
  refine z_aload_n C dX10_keepSale_44 0 rfl ?_
  obtain ⟨on9, hon9, h⟩ := bnd h
  refine y_getR C dX10_keepSale_45 fX10_13 rfl hon9 ?_
  refine z_iload C dX10_keepSale_48 7 rfl ?_
  refine z_iconst C dX10_keepSale_50 ?_
  refine y_iadd C dX10_keepSale_51 ?_
  refine z_iload C dX10_keepSale_52 4 rfl ?_
  obtain ⟨M10, hM10, h⟩ := bnd h
  refine y_iast C dX10_keepSale_54 hM10 ?_
  refine z_aload_n C dX10_keepSale_55 0 rfl ?_
  obtain ⟨on11, hon11, h⟩ := bnd h
  refine y_getR C dX10_keepSale_56 fX10_13 rfl hon11 ?_
  refine z_iload C dX10_keepSale_59 7 rfl ?_
  refine z_iconst C dX10_keepSale_61 ?_
  refine y_iadd C dX10_keepSale_62 ?_
  refine z_aload_n C dX10_keepSale_63 0 rfl ?_
  obtain ⟨on12, hon12, h⟩ := bnd h
  refine y_getR C dX10_keepSale_64 fX10_13 rfl hon12 ?_
  refine z_bipush C dX10_keepSale_67 (by decide) ?_
  obtain ⟨x13, hx13, h⟩ := bnd h
  refine y_iald C dX10_keepSale_69 hx13 (fun gx13 => ?_)
  obtain ⟨M14, hM14, h⟩ := bnd h
  refine y_iast C dX10_keepSale_70 hM14 ?_
  refine z_aload_n C dX10_keepSale_71 0 rfl ?_
  obtain ⟨on15, hon15, h⟩ := bnd h
  refine y_getR C dX10_keepSale_72 fX10_13 rfl hon15 ?_
  refine z_iload C dX10_keepSale_75 7 rfl ?_
  refine z_iconst C dX10_keepSale_77 ?_
  refine y_iadd C dX10_keepSale_78 ?_
  refine z_iload C dX10_keepSale_79 5 rfl ?_
  obtain ⟨M16, hM16, h⟩ := bnd h
  refine y_iast C dX10_keepSale_81 hM16 ?_
  refine z_aload_n C dX10_keepSale_82 0 rfl ?_
  obtain ⟨on17, hon17, h⟩ := bnd h
  refine y_getR C dX10_keepSale_83 fX10_13 rfl hon17 ?_
  refine z_iload C dX10_keepSale_86 7 rfl ?_
  refine z_bipush C dX10_keepSale_88 (by decide) ?_
  refine y_iadd C dX10_keepSale_90 ?_
  refine z_iload C dX10_keepSale_91 6 rfl ?_
  obtain ⟨M18, hM18, h⟩ := bnd h
  refine y_iast C dX10_keepSale_93 hM18 ?_
  refine z_aload_n C dX10_keepSale_94 0 rfl ?_
  obtain ⟨on19, hon19, h⟩ := bnd h
  refine y_getR C dX10_keepSale_95 fX10_13 rfl hon19 ?_
  refine z_bipush C dX10_keepSale_98 (by decide) ?_
  refine z_dup2 C dX10_keepSale_100 rfl rfl ?_
  obtain ⟨x20, hx20, h⟩ := bnd h
  refine y_iald C dX10_keepSale_101 hx20 (fun gx20 => ?_)
  refine z_iconst C dX10_keepSale_102 ?_
  refine y_iadd C dX10_keepSale_103 ?_
  obtain ⟨M21, hM21, h⟩ := bnd h
  refine y_iast C dX10_keepSale_104 hM21 ?_
  exact y_retV C dX10_keepSale_105 h

set_option maxHeartbeats 4000000 in
set_option maxRecDepth 100000 in
theorem tX10_sales {G : Gx} {σ : State} (hC : Cy G σ) (o0 : Nat) {M0 : Mm}  {R : Int × Mm} (h : uX10_sales o0 M0 = some R) : Ct G σ (1) yX10_sales cX10_sales 1 (some .int) [.ref (G.2.2 + o0)] M0 0 0 (Qi R.1 R.2) := by
  refine Ct.of hC.1 (by decide +kernel) (Nat.le_of_ble_eq_true rfl) ?_
  intro p l e R0 s m args below meth c C
  show Jz G σ p l e R0 s m args below meth c 1 0 0 (Qi R.1 R.2) M0 0 0 0 [(0, .ref (G.2.2 + o0))] []
  unfold uX10_sales at h
  refine z_aload_n C dX10_sales_0 0 rfl ?_
  refine z_iconst C dX10_sales_1 ?_
  obtain ⟨M1, hM1, h⟩ := bnd h
  refine y_putI C dX10_sales_2 fX10_83 rfl rfl rfl rfl hM1 ?_
  refine z_aload_n C dX10_sales_5 0 rfl ?_
  obtain ⟨on2, hon2, h⟩ := bnd h
  refine y_getR C dX10_sales_6 fX10_13 rfl hon2 ?_
  refine z_bipush C dX10_sales_9 (by decide) ?_
  obtain ⟨x3, hx3, h⟩ := bnd h
  refine y_iald C dX10_sales_11 hx3 (fun gx3 => ?_)
  exact y_iretB C dX10_sales_12 h gx3

set_option maxHeartbeats 4000000 in
set_option maxRecDepth 100000 in
theorem tX10_tellPaid {G : Gx} {σ : State} (hC : Cy G σ) (o0 : Nat) {M0 : Mm}  {R : Mm} (h : uX10_tellPaid o0 M0 = some R) : Ct G σ (1) yX10_tellPaid cX10_tellPaid 2 none [.ref (G.2.2 + o0)] M0 0 0 (Qv R) := by
  refine Ct.of hC.1 (by decide +kernel) (Nat.le_of_ble_eq_true rfl) ?_
  intro p l e R0 s m args below meth c C
  show Jz G σ p l e R0 s m args below meth c 2 0 0 (Qv R) M0 0 0 0 [(0, .ref (G.2.2 + o0))] []
  have hb62 : ∀  (M : Mm), uX10_tellPaid_b62 M = some R → Jz G σ p l e R0 s m args below meth c 2 0 0 (Qv R) M 0 0 62 [] [] := by
    intro  M  h
    unfold uX10_tellPaid_b62 at h
    exact y_retV C dX10_tellPaid_62 h
  have hb31 : ∀ (o0 : Nat) (v1 : Int) (M : Mm), (rg v1) → uX10_tellPaid_b31 o0 v1 M = some R → Jz G σ p l e R0 s m args below meth c 2 0 0 (Qv R) M 0 0 31 [(0, .ref (G.2.2 + o0)), (1, .int (iv v1))] [] := by
    intro o0 v1 M gv1 h
    unfold uX10_tellPaid_b31 at h
    obtain ⟨b31, hb31_, hc31⟩ := bnd h
    have hL31 : ∀ (n : Nat) (v1 : Int) (M : Mm), (rg v1) → lp (uX10_tellPaid_f31 o0) n (v1, M) = some b31 → Jz G σ p l e R0 s m args below meth c 2 0 0 (Qv R) M 0 0 31 [(0, .ref (G.2.2 + o0)), (1, .int (iv v1))] [] := by
      intro n; induction n with
      | zero => intro v1 M gv1 hq; exact (lp_0 hq).elim
      | succ n31 ih31 =>
        intro v1 M gv1 hq
        obtain ⟨z31, h, hZ31⟩ := lp_s hq
        have h : uX10_tellPaid_s31 o0 v1 M = some z31 := h
        unfold uX10_tellPaid_s31 at h
        refine z_iload_n C dX10_tellPaid_31 1 rfl ?_
        refine z_aload_n C dX10_tellPaid_32 0 rfl ?_
        obtain ⟨x1, hx1, h⟩ := bnd h
        refine y_getI C dX10_tellPaid_33 fX10_307 rfl hx1 (fun gx1 => ?_)
        refine z_icmp_ge 62 C dX10_tellPaid_36 (by decide) gv1 gx1 (fun e2 => ?_) (fun e2 => ?_)
        ·
          have h := (if_pos e2).symm.trans h
          have h : uX10_tellPaid_b62 M = some R := lp_ex (K := (uX10_tellPaid_c31 o0)) h hZ31 hc31
          refine z_drop (lv' := []) [] rfl ?_
          exact hb62  M  h
        ·
          have h := (if_neg e2).symm.trans h
          refine z_aload_n C dX10_tellPaid_39 0 rfl ?_
          obtain ⟨on3, hon3, h⟩ := bnd h
          refine y_getR C dX10_tellPaid_40 fX10_52 rfl hon3 ?_
          refine z_aload_n C dX10_tellPaid_43 0 rfl ?_
          obtain ⟨on4, hon4, h⟩ := bnd h
          refine y_getR C dX10_tellPaid_44 fX10_43 rfl hon4 ?_
          refine z_iload_n C dX10_tellPaid_47 1 rfl ?_
          obtain ⟨x5, hx5, h⟩ := bnd h
          refine y_iald C dX10_tellPaid_48 hx5 (fun gx5 => ?_)
          refine z_aload_n C dX10_tellPaid_49 0 rfl ?_
          obtain ⟨on6, hon6, h⟩ := bnd h
          refine y_getR C dX10_tellPaid_50 fX10_55 rfl hon6 ?_
          refine z_iload_n C dX10_tellPaid_53 1 rfl ?_
          obtain ⟨x7, hx7, h⟩ := bnd h
          refine y_iald C dX10_tellPaid_54 hx7 (fun gx7 => ?_)
          obtain ⟨M8, hM8, h⟩ := bnd h
          refine y_iast C dX10_tellPaid_55 hM8 ?_
          refine y_iinc (lv' := [(0, .ref (G.2.2 + o0)), (1, .int (iv (w32 (v1 + 1))))]) C dX10_tellPaid_56 1 rfl (by decide) [1, 0] rfl ?_
          refine z_goto 31 C dX10_tellPaid_59 (by decide) ?_
          exact ih31 (w32 (v1 + 1)) M8 (w32_rng _) (lp_back h hZ31)
    exact hL31 _ v1 M gv1 hb31_
  have hb29 : ∀ (o0 : Nat) (M : Mm), uX10_tellPaid_b29 o0 M = some R → Jz G σ p l e R0 s m args below meth c 2 0 0 (Qv R) M 0 0 29 [(0, .ref (G.2.2 + o0))] [] := by
    intro o0 M  h
    unfold uX10_tellPaid_b29 at h
    refine z_iconst C dX10_tellPaid_29 ?_
    refine z_istore_n (lv' := [(0, .ref (G.2.2 + o0)), (1, .int (iv 0))]) C dX10_tellPaid_30 rfl (by decide) [1, 0] rfl ?_
    exact hb31 o0 0 M (by decide) h
  have hb10 : ∀ (o0 : Nat) (v1 : Int) (M : Mm), (rg v1) → uX10_tellPaid_b10 o0 v1 M = some R → Jz G σ p l e R0 s m args below meth c 2 0 0 (Qv R) M 0 0 10 [(0, .ref (G.2.2 + o0)), (1, .int (iv v1))] [] := by
    intro o0 v1 M gv1 h
    unfold uX10_tellPaid_b10 at h
    obtain ⟨b10, hb10_, hc10⟩ := bnd h
    have hL10 : ∀ (n : Nat) (v1 : Int) (M : Mm), (rg v1) → lp (uX10_tellPaid_f10 o0) n (v1, M) = some b10 → Jz G σ p l e R0 s m args below meth c 2 0 0 (Qv R) M 0 0 10 [(0, .ref (G.2.2 + o0)), (1, .int (iv v1))] [] := by
      intro n; induction n with
      | zero => intro v1 M gv1 hq; exact (lp_0 hq).elim
      | succ n10 ih10 =>
        intro v1 M gv1 hq
        obtain ⟨z10, h, hZ10⟩ := lp_s hq
        have h : uX10_tellPaid_s10 o0 v1 M = some z10 := h
        unfold uX10_tellPaid_s10 at h
        refine z_iload_n C dX10_tellPaid_10 1 rfl ?_
        refine z_bipush C dX10_tellPaid_11 (by decide) ?_
        refine z_icmp_ge 29 C dX10_tellPaid_13 (by decide) gv1 (by decide) (fun e9 => ?_) (fun e9 => ?_)
        ·
          have h := (if_pos e9).symm.trans h
          have h : uX10_tellPaid_b29 o0 M = some R := lp_ex (K := (uX10_tellPaid_c10 o0)) h hZ10 hc10
          refine z_drop (lv' := [(0, .ref (G.2.2 + o0))]) [0] rfl ?_
          exact hb29 o0 M  h
        ·
          have h := (if_neg e9).symm.trans h
          refine z_aload_n C dX10_tellPaid_16 0 rfl ?_
          obtain ⟨on10, hon10, h⟩ := bnd h
          refine y_getR C dX10_tellPaid_17 fX10_52 rfl hon10 ?_
          refine z_iload_n C dX10_tellPaid_20 1 rfl ?_
          refine z_iconst C dX10_tellPaid_21 ?_
          obtain ⟨M11, hM11, h⟩ := bnd h
          refine y_iast C dX10_tellPaid_22 hM11 ?_
          refine y_iinc (lv' := [(0, .ref (G.2.2 + o0)), (1, .int (iv (w32 (v1 + 1))))]) C dX10_tellPaid_23 1 rfl (by decide) [1, 0] rfl ?_
          refine z_goto 10 C dX10_tellPaid_26 (by decide) ?_
          exact ih10 (w32 (v1 + 1)) M11 (w32_rng _) (lp_back h hZ10)
    exact hL10 _ v1 M gv1 hb10_
  unfold uX10_tellPaid at h
  refine z_aload_n C dX10_tellPaid_0 0 rfl ?_
  refine z_aload_n C dX10_tellPaid_1 0 rfl ?_
  obtain ⟨x12, hx12, h⟩ := bnd h
  refine y_getI C dX10_tellPaid_2 fX10_307 rfl hx12 (fun gx12 => ?_)
  obtain ⟨M13, hM13, h⟩ := bnd h
  refine y_putI C dX10_tellPaid_5 fX10_58 rfl rfl rfl rfl hM13 ?_
  refine z_iconst C dX10_tellPaid_8 ?_
  refine z_istore_n (lv' := [(0, .ref (G.2.2 + o0)), (1, .int (iv 0))]) C dX10_tellPaid_9 rfl (by decide) [1, 0] rfl ?_
  exact hb10 o0 0 M13 (by decide) h

set_option maxHeartbeats 4000000 in
set_option maxRecDepth 100000 in
theorem tX10_strokesToPay {G : Gx} {σ : State} (hC : Cy G σ) (o0 : Nat) {M0 : Mm}  {R : Int} (h : uX10_strokesToPay o0 M0 = some R) : Ct G σ (1) yX10_strokesToPay cX10_strokesToPay 3 (some .int) [.ref (G.2.2 + o0)] M0 0 0 (Qi R M0) := by
  refine Ct.of hC.1 (by decide +kernel) (Nat.le_of_ble_eq_true rfl) ?_
  intro p l e R0 s m args below meth c C
  show Jz G σ p l e R0 s m args below meth c 3 0 0 (Qi R M0) M0 0 0 0 [(0, .ref (G.2.2 + o0))] []
  have hb41 : ∀ (v1 : Int), (rg v1) → uX10_strokesToPay_b41 v1 M0 = some R → Jz G σ p l e R0 s m args below meth c 3 0 0 (Qi R M0) M0 0 0 41 [(1, .int (iv v1))] [] := by
    intro v1  gv1 h
    unfold uX10_strokesToPay_b41 at h
    refine z_iload_n C dX10_strokesToPay_41 0 rfl ?_
    exact y_iretP C dX10_strokesToPay_42 h gv1
  have hb4 : ∀ (o0 : Nat) (v1 : Int) (v2 : Int), (rg v1) → (rg v2) → uX10_strokesToPay_b4 o0 v1 v2 M0 = some R → Jz G σ p l e R0 s m args below meth c 3 0 0 (Qi R M0) M0 0 0 4 [(0, .ref (G.2.2 + o0)), (1, .int (iv v1)), (2, .int (iv v2))] [] := by
    intro o0 v1 v2  gv1 gv2 h
    unfold uX10_strokesToPay_b4 at h
    obtain ⟨b4, hb4_, hc4⟩ := bnd h
    have hL4 : ∀ (n : Nat) (v1 : Int) (v2 : Int), (rg v1) → (rg v2) → lp (uX10_strokesToPay_f4 o0 M0) n (v1, v2) = some b4 → Jz G σ p l e R0 s m args below meth c 3 0 0 (Qi R M0) M0 0 0 4 [(0, .ref (G.2.2 + o0)), (1, .int (iv v1)), (2, .int (iv v2))] [] := by
      intro n; induction n with
      | zero => intro v1 v2 gv1 gv2 hq; exact (lp_0 hq).elim
      | succ n4 ih4 =>
        intro v1 v2 gv1 gv2 hq
        obtain ⟨z4, h, hZ4⟩ := lp_s hq
        have h : uX10_strokesToPay_s4 o0 M0 v1 v2 = some z4 := h
        have hb33 : ∀ (v2 : Int) (vs0 : Int) (vs1 : Int), (rg v2) → (rg vs0) → (rg vs1) → ∀ z4, uX10_strokesToPay_b33 o0 v2 vs0 vs1 M0 = some z4 → lpc (uX10_strokesToPay_f4 o0 M0) n4 z4 b4 → Jz G σ p l e R0 s m args below meth c 3 0 0 (Qi R M0) M0 0 0 33 [(0, .ref (G.2.2 + o0)), (2, .int (iv v2))] [.int (iv vs1), .int (iv vs0)] := by
          intro v2 vs0 vs1  gv2 gvs0 gvs1 z4 h hZ4
          unfold uX10_strokesToPay_b33 at h
          refine y_iadd C dX10_strokesToPay_33 ?_
          refine z_istore_n (lv' := [(0, .ref (G.2.2 + o0)), (1, .int (iv (w32 (vs0 + vs1)))), (2, .int (iv v2))]) C dX10_strokesToPay_34 rfl (by decide) [1, 0, 2] rfl ?_
          refine y_iinc (lv' := [(0, .ref (G.2.2 + o0)), (1, .int (iv (w32 (vs0 + vs1)))), (2, .int (iv (w32 (v2 + 1))))]) C dX10_strokesToPay_35 2 rfl (by decide) [1, 2, 0] rfl ?_
          refine z_goto 4 C dX10_strokesToPay_38 (by decide) ?_
          exact ih4 (w32 (vs0 + vs1)) (w32 (v2 + 1)) (w32_rng _) (w32_rng _) (lp_back h hZ4)
        unfold uX10_strokesToPay_s4 at h
        refine z_iload_n C dX10_strokesToPay_4 2 rfl ?_
        refine z_aload_n C dX10_strokesToPay_5 0 rfl ?_
        obtain ⟨x1, hx1, h⟩ := bnd h
        refine y_getI C dX10_strokesToPay_6 fX10_307 rfl hx1 (fun gx1 => ?_)
        refine z_icmp_ge 41 C dX10_strokesToPay_9 (by decide) gv2 gx1 (fun e2 => ?_) (fun e2 => ?_)
        ·
          have h := (if_pos e2).symm.trans h
          have h : uX10_strokesToPay_b41 v1 M0 = some R := lp_ex (K := (uX10_strokesToPay_c4 o0 M0)) h hZ4 hc4
          refine z_drop (lv' := [(1, .int (iv v1))]) [1] rfl ?_
          exact hb41 v1  gv1 h
        ·
          have h := (if_neg e2).symm.trans h
          refine z_iload_n C dX10_strokesToPay_12 1 rfl ?_
          refine z_aload_n C dX10_strokesToPay_13 0 rfl ?_
          obtain ⟨on3, hon3, h⟩ := bnd h
          refine y_getR C dX10_strokesToPay_14 fX10_55 rfl hon3 ?_
          refine z_iload_n C dX10_strokesToPay_17 2 rfl ?_
          obtain ⟨x4, hx4, h⟩ := bnd h
          refine y_iald C dX10_strokesToPay_18 hx4 (fun gx4 => ?_)
          refine z_iconst C dX10_strokesToPay_19 ?_
          refine z_icmp_le 27 C dX10_strokesToPay_20 (by decide) gx4 (by decide) (fun e5 => ?_) (fun e5 => ?_)
          ·
            have h := (if_pos e5).symm.trans h
            refine z_aload_n C dX10_strokesToPay_27 0 rfl ?_
            obtain ⟨on6, hon6, h⟩ := bnd h
            refine y_getR C dX10_strokesToPay_28 fX10_55 rfl hon6 ?_
            refine z_iload_n C dX10_strokesToPay_31 2 rfl ?_
            obtain ⟨x7, hx7, h⟩ := bnd h
            refine y_iald C dX10_strokesToPay_32 hx7 (fun gx7 => ?_)
            refine z_drop (lv' := [(0, .ref (G.2.2 + o0)), (2, .int (iv v2))]) [0, 2] rfl ?_
            exact hb33 v2 v1 x7  gv2 gv1 gx7 _ h hZ4
          ·
            have h := (if_neg e5).symm.trans h
            refine z_iconst C dX10_strokesToPay_23 ?_
            refine z_goto 33 C dX10_strokesToPay_24 (by decide) ?_
            refine z_drop (lv' := [(0, .ref (G.2.2 + o0)), (2, .int (iv v2))]) [0, 2] rfl ?_
            exact hb33 v2 v1 2  gv2 gv1 (by decide) _ h hZ4
    exact hL4 _ v1 v2 gv1 gv2 hb4_
  unfold uX10_strokesToPay at h
  refine z_iconst C dX10_strokesToPay_0 ?_
  refine z_istore_n (lv' := [(0, .ref (G.2.2 + o0)), (1, .int (iv 0))]) C dX10_strokesToPay_1 rfl (by decide) [1, 0] rfl ?_
  refine z_iconst C dX10_strokesToPay_2 ?_
  refine z_istore_n (lv' := [(0, .ref (G.2.2 + o0)), (1, .int (iv 0)), (2, .int (iv 0))]) C dX10_strokesToPay_3 rfl (by decide) [1, 2, 0] rfl ?_
  exact hb4 o0 0 0  (by decide) (by decide) h

set_option maxHeartbeats 4000000 in
set_option maxRecDepth 100000 in
theorem tX10_giveBack {G : Gx} {σ : State} (hC : Cy G σ) (o0 : Nat) {M0 : Mm}  {R : Mm} (h : uX10_giveBack o0 M0 = some R) : Ct G σ (1) yX10_giveBack cX10_giveBack 1 none [.ref (G.2.2 + o0)] M0 0 0 (Qv R) := by
  refine Ct.of hC.1 (by decide +kernel) (Nat.le_of_ble_eq_true rfl) ?_
  intro p l e R0 s m args below meth c C
  show Jz G σ p l e R0 s m args below meth c 1 0 0 (Qv R) M0 0 0 0 [(0, .ref (G.2.2 + o0))] []
  unfold uX10_giveBack at h
  refine z_aload_n C dX10_giveBack_0 0 rfl ?_
  obtain ⟨on1, hon1, h⟩ := bnd h
  refine y_getR C dX10_giveBack_1 fX10_13 rfl hon1 ?_
  refine z_bipush C dX10_giveBack_4 (by decide) ?_
  refine z_iconst C dX10_giveBack_6 ?_
  obtain ⟨M2, hM2, h⟩ := bnd h
  refine y_iast C dX10_giveBack_7 hM2 ?_
  refine z_aload_n C dX10_giveBack_8 0 rfl ?_
  obtain ⟨on3, hon3, h⟩ := bnd h
  refine y_getR C dX10_giveBack_9 fX10_13 rfl hon3 ?_
  refine z_bipush C dX10_giveBack_12 (by decide) ?_
  refine z_iconst C dX10_giveBack_14 ?_
  obtain ⟨M4, hM4, h⟩ := bnd h
  refine y_iast C dX10_giveBack_15 hM4 ?_
  exact y_retV C dX10_giveBack_16 h

set_option maxHeartbeats 4000000 in
set_option maxRecDepth 100000 in
theorem tX10_strokes {G : Gx} {σ : State} (hC : Cy G σ) (o0 : Nat) {M0 : Mm}  {R : Int × Mm} (h : uX10_strokes o0 M0 = some R) : Ct G σ (1) yX10_strokes cX10_strokes 1 (some .int) [.ref (G.2.2 + o0)] M0 0 0 (Qi R.1 R.2) := by
  refine Ct.of hC.1 (by decide +kernel) (Nat.le_of_ble_eq_true rfl) ?_
  intro p l e R0 s m args below meth c C
  show Jz G σ p l e R0 s m args below meth c 1 0 0 (Qi R.1 R.2) M0 0 0 0 [(0, .ref (G.2.2 + o0))] []
  unfold uX10_strokes at h
  refine z_aload_n C dX10_strokes_0 0 rfl ?_
  refine z_iconst C dX10_strokes_1 ?_
  obtain ⟨M1, hM1, h⟩ := bnd h
  refine y_putI C dX10_strokes_2 fX10_83 rfl rfl rfl rfl hM1 ?_
  refine z_aload_n C dX10_strokes_5 0 rfl ?_
  obtain ⟨on2, hon2, h⟩ := bnd h
  refine y_getR C dX10_strokes_6 fX10_13 rfl hon2 ?_
  refine z_bipush C dX10_strokes_9 (by decide) ?_
  obtain ⟨x3, hx3, h⟩ := bnd h
  refine y_iald C dX10_strokes_11 hx3 (fun gx3 => ?_)
  exact y_iretB C dX10_strokes_12 h gx3

set_option maxHeartbeats 4000000 in
set_option maxRecDepth 100000 in
theorem tX10_draw {G : Gx} {σ : State} (hC : Cy G σ) (o0 : Nat) (v1 : Int) {M0 : Mm} (gv1 : rg v1) {R : Int × Mm} (h : uX10_draw o0 v1 M0 = some R) : Ct G σ (1) yX10_draw cX10_draw 2 (some .int) [.ref (G.2.2 + o0), .int (iv v1)] M0 0 0 (Qi R.1 R.2) := by
  refine Ct.of hC.1 (by decide +kernel) (Nat.le_of_ble_eq_true rfl) ?_
  intro p l e R0 s m args below meth c C
  show Jz G σ p l e R0 s m args below meth c 2 0 0 (Qi R.1 R.2) M0 0 0 0 [(0, .ref (G.2.2 + o0)), (1, .int (iv v1))] []
  unfold uX10_draw at h
  refine z_aload_n C dX10_draw_0 0 rfl ?_
  refine z_aload_n C dX10_draw_1 0 rfl ?_
  obtain ⟨x1, hx1, h⟩ := bnd h
  refine y_getI C dX10_draw_2 fX10_355 rfl hx1 (fun gx1 => ?_)
  refine z_ldcw C dX10_draw_5 kX10_358 ?_
  refine y_imul C dX10_draw_8 ?_
  refine z_sipush C dX10_draw_9 (by decide) ?_
  refine y_iadd C dX10_draw_12 ?_
  obtain ⟨M2, hM2, h⟩ := bnd h
  refine y_putI C dX10_draw_13 fX10_355 rfl rfl rfl rfl hM2 ?_
  refine z_aload_n C dX10_draw_16 0 rfl ?_
  obtain ⟨x3, hx3, h⟩ := bnd h
  refine y_getI C dX10_draw_17 fX10_355 rfl hx3 (fun gx3 => ?_)
  refine z_bipush C dX10_draw_20 (by decide) ?_
  refine z_iushr (ushr32 x3 8) C dX10_draw_22 (iv_self _).symm ?_
  refine z_iload_n C dX10_draw_23 1 rfl ?_
  obtain ⟨x4, hx4, h⟩ := bnd h
  refine y_irem C dX10_draw_24 hx4 (fun gx4 => ?_)
  exact y_iretB C dX10_draw_25 h gx4
