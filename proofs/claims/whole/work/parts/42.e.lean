def eX9_who (o0 : Nat) (v1 : Int) (v2 : Int) (M0 : Mm) : Option (Int ⊕ Unit) :=
  bd (gR M0 9 o0 4) (fun on1 =>
  gK M0 8 on1 (
  bd (uX8_isWho on1 v1 M0) (fun r3 =>
  if r3 = 0 then
    some (.inr ())
  else
    if v2 = 0 then
      bd (gR M0 9 o0 4) (fun on6 =>
      bd (gR M0 8 on6 0) (fun on7 =>
      bd (gR M0 3 on7 5) (fun on8 =>
      bd (aI 12 M0 on8 v1) (fun x9 =>
      some (.inl x9)))))
    else
      if v2 = 1 then
        bd (gR M0 9 o0 4) (fun on11 =>
        bd (gR M0 8 on11 0) (fun on12 =>
        bd (gR M0 3 on12 6) (fun on13 =>
        bd (aI 12 M0 on13 v1) (fun x14 =>
        some (.inl x14)))))
      else
        if v2 = 2 then
          bd (gR M0 9 o0 4) (fun on16 =>
          bd (gR M0 8 on16 1) (fun on17 =>
          gK M0 1 on17 (
          bd (uX1_isDead on17 v1 M0) (fun r19 =>
          if r19 = 0 then
            some (.inl 0)
          else
            some (.inl 1)))))
        else
          if v2 = 3 then
            bd (gR M0 9 o0 4) (fun on22 =>
            bd (gR M0 8 on22 1) (fun on23 =>
            gK M0 1 on23 (
            bd (uX1_coinsOf on23 v1 M0) (fun r25 =>
            some (.inl r25)))))
          else
            if v2 = 4 then
              bd (gR M0 9 o0 4) (fun on27 =>
              bd (gR M0 8 on27 1) (fun on28 =>
              gK M0 1 on28 (
              bd (uX1_grainsOf on28 v1 M0) (fun r30 =>
              some (.inl r30)))))
            else
              if v2 = 5 then
                bd (gR M0 9 o0 4) (fun on32 =>
                gK M0 8 on32 (
                bd (uX8_coinsBearing on32 v1 M0) (fun r34 =>
                some (.inl r34))))
              else
                some (.inr ()))))

def eX9_mint (o0 : Nat) (v1 : Int) (v2 : Int) (M0 : Mm) : Option (Int ⊕ Unit) :=
  bd (gR M0 9 o0 4) (fun on1 =>
  gK M0 8 on1 (
  bd (uX8_isMint on1 v1 M0) (fun r3 =>
  if r3 = 0 then
    some (.inr ())
  else
    if v2 = 0 then
      bd (gR M0 9 o0 4) (fun on6 =>
      bd (gR M0 8 on6 0) (fun on7 =>
      bd (gR M0 3 on7 8) (fun on8 =>
      bd (aI 12 M0 on8 v1) (fun x9 =>
      some (.inl x9)))))
    else
      if v2 = 1 then
        bd (gR M0 9 o0 4) (fun on11 =>
        bd (gR M0 8 on11 0) (fun on12 =>
        bd (gR M0 3 on12 9) (fun on13 =>
        bd (aI 12 M0 on13 v1) (fun x14 =>
        some (.inl x14)))))
      else
        if v2 = 2 then
          bd (gR M0 9 o0 4) (fun on16 =>
          bd (gR M0 8 on16 1) (fun on17 =>
          gK M0 1 on17 (
          bd (uX1_isClosed on17 v1 M0) (fun r19 =>
          if r19 = 0 then
            some (.inl 0)
          else
            some (.inl 1)))))
        else
          if v2 = 3 then
            bd (gR M0 9 o0 4) (fun on22 =>
            gK M0 8 on22 (
            bd (uX8_strokesAt on22 v1 M0) (fun r24 =>
            some (.inl r24))))
          else
            some (.inr ()))))

def eX9_of (o0 : Nat) (v1 : Int) (v2 : Int) (M0 : Mm) : Option (Int ⊕ Unit) :=
  bd (gR M0 9 o0 4) (fun on1 =>
  gK M0 8 on1 (
  bd (uX8_isCoin on1 v1 M0) (fun r3 =>
  if r3 = 0 then
    some (.inr ())
  else
    if v2 = 0 then
      bd (gR M0 9 o0 4) (fun on6 =>
      bd (gR M0 8 on6 1) (fun on7 =>
      bd (gR M0 1 on7 9) (fun on8 =>
      bd (aI 12 M0 on8 v1) (fun x9 =>
      some (.inl x9)))))
    else
      if v2 = 1 then
        bd (gR M0 9 o0 4) (fun on11 =>
        bd (gR M0 8 on11 1) (fun on12 =>
        bd (gR M0 1 on12 10) (fun on13 =>
        bd (aI 12 M0 on13 v1) (fun x14 =>
        some (.inl x14)))))
      else
        if v2 = 2 then
          bd (gR M0 9 o0 4) (fun on16 =>
          bd (gR M0 8 on16 1) (fun on17 =>
          bd (gR M0 1 on17 12) (fun on18 =>
          bd (aI 12 M0 on18 v1) (fun x19 =>
          some (.inl x19)))))
        else
          if v2 = 3 then
            bd (gR M0 9 o0 4) (fun on21 =>
            bd (gR M0 8 on21 1) (fun on22 =>
            bd (gR M0 1 on22 11) (fun on23 =>
            bd (aI 12 M0 on23 v1) (fun x24 =>
            some (.inl x24)))))
          else
            if v2 = 4 then
              bd (gR M0 9 o0 4) (fun on26 =>
              gK M0 8 on26 (
              bd (uX8_showsFalse on26 v1 M0) (fun r28 =>
              if r28 = 0 then
                some (.inl 0)
              else
                some (.inl 1))))
            else
              some (.inr ()))))

def eX9_sold_b38  (M0 : Mm) : Option (Int ⊕ Unit) :=
  some (.inr ())
def eX9_sold_b18  (M0 : Mm) : Option (Int ⊕ Unit) :=
  some (.inr ())
def eX9_sold (o0 : Nat) (v1 : Int) (v2 : Int) (M0 : Mm) : Option (Int ⊕ Unit) :=
  if v1 < 0 then
    eX9_sold_b18 M0
  else
    bd (gR M0 9 o0 4) (fun on2 =>
    bd (gR M0 8 on2 1) (fun on3 =>
    bd (gI M0 1 on3 2) (fun x4 =>
    if v1 < x4 then
      if v2 < 0 then
        eX9_sold_b38 M0
      else
        if v2 < 7 then
          bd (gR M0 9 o0 4) (fun on8 =>
          bd (gR M0 8 on8 3) (fun on9 =>
          gK M0 6 on9 (
          bd (uX6_at on9 v1 v2 M0) (fun r11 =>
          some (.inl r11)))))
        else
          eX9_sold_b38 M0
    else
      eX9_sold_b18 M0)))

def eX9_stroke_b39  (M0 : Mm) : Option (Int ⊕ Unit) :=
  some (.inr ())
def eX9_stroke_b18  (M0 : Mm) : Option (Int ⊕ Unit) :=
  some (.inr ())
def eX9_stroke (o0 : Nat) (v1 : Int) (v2 : Int) (M0 : Mm) : Option (Int ⊕ Unit) :=
  if v1 < 0 then
    eX9_stroke_b18 M0
  else
    bd (gR M0 9 o0 4) (fun on2 =>
    bd (gR M0 8 on2 1) (fun on3 =>
    bd (gI M0 1 on3 1) (fun x4 =>
    if v1 < x4 then
      if v2 < 0 then
        eX9_stroke_b39 M0
      else
        if v2 ≤ 6 then
          if v2 = 6 then
            bd (gR M0 9 o0 4) (fun on13 =>
            gK M0 8 on13 (
            bd (uX8_isShown on13 v1 M0) (fun r15 =>
            if r15 = 0 then
              some (.inl 0)
            else
              some (.inl 1))))
          else
            bd (gR M0 9 o0 4) (fun on9 =>
            bd (gR M0 8 on9 2) (fun on10 =>
            gK M0 6 on10 (
            bd (uX6_at on10 v1 v2 M0) (fun r12 =>
            some (.inl r12)))))
        else
          eX9_stroke_b39 M0
    else
      eX9_stroke_b18 M0)))
set_option maxHeartbeats 4000000 in
set_option maxRecDepth 100000 in
theorem tX9_who {G : Gx} {σ : State} (hC : Cy G σ) (hT : Zt G σ) (o0 : Nat) (v1 : Int) (v2 : Int) {M0 : Mm} (gv1 : rg v1) (gv2 : rg v2) {R : Int ⊕ Unit} (h : eX9_who o0 v1 v2 M0 = some R) : CtE G σ 9 yX9_who cX9_who 3 (some .int) [.ref (G.2.2 + o0), .int (iv v1), .int (iv v2)] M0 1 6 (Qe R M0) := by
  refine CtE.of hC.1 hC.2 hT (by decide +kernel) rfl (by decide) (Nat.le_of_ble_eq_true rfl) ?_
  intro p l e R0 s m args below meth c C hX
  show Jz G σ p l e R0 s m args below meth c 3 1 6 (Qe R M0) M0 0 0 0 [(0, .ref (G.2.2 + o0)), (1, .int (iv v1)), (2, .int (iv v2))] []
  unfold eX9_who at h
  refine z_aload_n C dX9_who_0 0 rfl ?_
  obtain ⟨on1, hon1, h⟩ := bnd h
  refine y_getR C dX9_who_1 fX9_33 rfl hon1 ?_
  refine z_iload_n C dX9_who_4 1 rfl ?_
  obtain ⟨k2, h⟩ := gK_inv h
  obtain ⟨r3, hr3, h⟩ := bnd h
  refine y_cVb (st := []) C dX9_who_5 mX9_97 k2 (tX8_isWho hC on1 v1 gv1 hr3) rfl rfl (Nat.le_of_ble_eq_true rfl) (by decide) (fun br3 => ?_)
  refine z_if_ne 21 C dX9_who_8 (by decide) (rg01 br3) (fun e4 => ?_) (fun e4 => ?_)
  ·
    have h := (if_neg e4).symm.trans h
    refine z_iload_n C dX9_who_21 2 rfl ?_
    by_cases e5 : v2 = 0
    ·
      have h := (if_pos e5).symm.trans h
      refine z_tableIn (off := 38) 60 C dX9_who_22 gv2 (by omega) (by omega) (by rw [e5]; rfl) (by decide) ?_
      refine z_aload_n C dX9_who_60 0 rfl ?_
      obtain ⟨on6, hon6, h⟩ := bnd h
      refine y_getR C dX9_who_61 fX9_33 rfl hon6 ?_
      obtain ⟨on7, hon7, h⟩ := bnd h
      refine y_getR C dX9_who_64 fX9_108 rfl hon7 ?_
      obtain ⟨on8, hon8, h⟩ := bnd h
      refine y_getR C dX9_who_67 fX9_111 rfl hon8 ?_
      refine z_iload_n C dX9_who_70 1 rfl ?_
      obtain ⟨x9, hx9, h⟩ := bnd h
      refine y_iald C dX9_who_71 hx9 (fun gx9 => ?_)
      exact y_iretE C dX9_who_72 h gx9
    have h := (if_neg e5).symm.trans h
    by_cases e10 : v2 = 1
    ·
      have h := (if_pos e10).symm.trans h
      refine z_tableIn (off := 51) 73 C dX9_who_22 gv2 (by omega) (by omega) (by rw [e10]; rfl) (by decide) ?_
      refine z_aload_n C dX9_who_73 0 rfl ?_
      obtain ⟨on11, hon11, h⟩ := bnd h
      refine y_getR C dX9_who_74 fX9_33 rfl hon11 ?_
      obtain ⟨on12, hon12, h⟩ := bnd h
      refine y_getR C dX9_who_77 fX9_108 rfl hon12 ?_
      obtain ⟨on13, hon13, h⟩ := bnd h
      refine y_getR C dX9_who_80 fX9_114 rfl hon13 ?_
      refine z_iload_n C dX9_who_83 1 rfl ?_
      obtain ⟨x14, hx14, h⟩ := bnd h
      refine y_iald C dX9_who_84 hx14 (fun gx14 => ?_)
      exact y_iretE C dX9_who_85 h gx14
    have h := (if_neg e10).symm.trans h
    by_cases e15 : v2 = 2
    ·
      have h := (if_pos e15).symm.trans h
      refine z_tableIn (off := 64) 86 C dX9_who_22 gv2 (by omega) (by omega) (by rw [e15]; rfl) (by decide) ?_
      refine z_aload_n C dX9_who_86 0 rfl ?_
      obtain ⟨on16, hon16, h⟩ := bnd h
      refine y_getR C dX9_who_87 fX9_33 rfl hon16 ?_
      obtain ⟨on17, hon17, h⟩ := bnd h
      refine y_getR C dX9_who_90 fX9_117 rfl hon17 ?_
      refine z_iload_n C dX9_who_93 1 rfl ?_
      obtain ⟨k18, h⟩ := gK_inv h
      obtain ⟨r19, hr19, h⟩ := bnd h
      refine y_cVb (st := []) C dX9_who_94 mX9_121 k18 (tX1_isDead hC on17 v1 gv1 hr19) rfl rfl (Nat.le_of_ble_eq_true rfl) (by decide) (fun br19 => ?_)
      refine z_if_eq 104 C dX9_who_97 (by decide) (rg01 br19) (fun e20 => ?_) (fun e20 => ?_)
      ·
        have h := (if_pos e20).symm.trans h
        refine z_iconst C dX9_who_104 ?_
        exact y_iretE C dX9_who_105 h (by decide)
      ·
        have h := (if_neg e20).symm.trans h
        refine z_iconst C dX9_who_100 ?_
        refine z_goto 105 C dX9_who_101 (by decide) ?_
        exact y_iretE C dX9_who_105 h (by decide)
    have h := (if_neg e15).symm.trans h
    by_cases e21 : v2 = 3
    ·
      have h := (if_pos e21).symm.trans h
      refine z_tableIn (off := 84) 106 C dX9_who_22 gv2 (by omega) (by omega) (by rw [e21]; rfl) (by decide) ?_
      refine z_aload_n C dX9_who_106 0 rfl ?_
      obtain ⟨on22, hon22, h⟩ := bnd h
      refine y_getR C dX9_who_107 fX9_33 rfl hon22 ?_
      obtain ⟨on23, hon23, h⟩ := bnd h
      refine y_getR C dX9_who_110 fX9_117 rfl hon23 ?_
      refine z_iload_n C dX9_who_113 1 rfl ?_
      obtain ⟨k24, h⟩ := gK_inv h
      obtain ⟨r25, hr25, h⟩ := bnd h
      refine y_cVi (st := []) C dX9_who_114 mX9_126 k24 (tX1_coinsOf hC on23 v1 gv1 hr25) rfl rfl (Nat.le_of_ble_eq_true rfl) (by decide) (fun gr25 => ?_)
      exact y_iretE C dX9_who_117 h gr25
    have h := (if_neg e21).symm.trans h
    by_cases e26 : v2 = 4
    ·
      have h := (if_pos e26).symm.trans h
      refine z_tableIn (off := 96) 118 C dX9_who_22 gv2 (by omega) (by omega) (by rw [e26]; rfl) (by decide) ?_
      refine z_aload_n C dX9_who_118 0 rfl ?_
      obtain ⟨on27, hon27, h⟩ := bnd h
      refine y_getR C dX9_who_119 fX9_33 rfl hon27 ?_
      obtain ⟨on28, hon28, h⟩ := bnd h
      refine y_getR C dX9_who_122 fX9_117 rfl hon28 ?_
      refine z_iload_n C dX9_who_125 1 rfl ?_
      obtain ⟨k29, h⟩ := gK_inv h
      obtain ⟨r30, hr30, h⟩ := bnd h
      refine y_cVi (st := []) C dX9_who_126 mX9_130 k29 (tX1_grainsOf hC on28 v1 gv1 hr30) rfl rfl (Nat.le_of_ble_eq_true rfl) (by decide) (fun gr30 => ?_)
      exact y_iretE C dX9_who_129 h gr30
    have h := (if_neg e26).symm.trans h
    by_cases e31 : v2 = 5
    ·
      have h := (if_pos e31).symm.trans h
      refine z_tableIn (off := 108) 130 C dX9_who_22 gv2 (by omega) (by omega) (by rw [e31]; rfl) (by decide) ?_
      refine z_aload_n C dX9_who_130 0 rfl ?_
      obtain ⟨on32, hon32, h⟩ := bnd h
      refine y_getR C dX9_who_131 fX9_33 rfl hon32 ?_
      refine z_iload_n C dX9_who_134 1 rfl ?_
      obtain ⟨k33, h⟩ := gK_inv h
      obtain ⟨r34, hr34, h⟩ := bnd h
      refine y_cVi (st := []) C dX9_who_135 mX9_133 k33 (tX8_coinsBearing hC on32 v1 gv1 hr34) rfl rfl (Nat.le_of_ble_eq_true rfl) (by decide) (fun gr34 => ?_)
      exact y_iretE C dX9_who_138 h gr34
    have h := (if_neg e31).symm.trans h
    refine z_tableOut 139 C dX9_who_22 gv2 (by omega) (by decide) ?_
    exact y_thrE C hX dX9_who_139 dX9_who_142 dX9_who_143 dX9_who_145 dX9_who_148 h
  ·
    have h := (if_pos e4).symm.trans h
    exact y_thrE C hX dX9_who_11 dX9_who_14 dX9_who_15 dX9_who_17 dX9_who_20 h

set_option maxHeartbeats 4000000 in
set_option maxRecDepth 100000 in
theorem tX9_mint {G : Gx} {σ : State} (hC : Cy G σ) (hT : Zt G σ) (o0 : Nat) (v1 : Int) (v2 : Int) {M0 : Mm} (gv1 : rg v1) (gv2 : rg v2) {R : Int ⊕ Unit} (h : eX9_mint o0 v1 v2 M0 = some R) : CtE G σ 9 yX9_mint cX9_mint 3 (some .int) [.ref (G.2.2 + o0), .int (iv v1), .int (iv v2)] M0 1 6 (Qe R M0) := by
  refine CtE.of hC.1 hC.2 hT (by decide +kernel) rfl (by decide) (Nat.le_of_ble_eq_true rfl) ?_
  intro p l e R0 s m args below meth c C hX
  show Jz G σ p l e R0 s m args below meth c 3 1 6 (Qe R M0) M0 0 0 0 [(0, .ref (G.2.2 + o0)), (1, .int (iv v1)), (2, .int (iv v2))] []
  unfold eX9_mint at h
  refine z_aload_n C dX9_mint_0 0 rfl ?_
  obtain ⟨on1, hon1, h⟩ := bnd h
  refine y_getR C dX9_mint_1 fX9_33 rfl hon1 ?_
  refine z_iload_n C dX9_mint_4 1 rfl ?_
  obtain ⟨k2, h⟩ := gK_inv h
  obtain ⟨r3, hr3, h⟩ := bnd h
  refine y_cVb (st := []) C dX9_mint_5 mX9_138 k2 (tX8_isMint hC on1 v1 gv1 hr3) rfl rfl (Nat.le_of_ble_eq_true rfl) (by decide) (fun br3 => ?_)
  refine z_if_ne 21 C dX9_mint_8 (by decide) (rg01 br3) (fun e4 => ?_) (fun e4 => ?_)
  ·
    have h := (if_neg e4).symm.trans h
    refine z_iload_n C dX9_mint_21 2 rfl ?_
    by_cases e5 : v2 = 0
    ·
      have h := (if_pos e5).symm.trans h
      refine z_tableIn (off := 30) 52 C dX9_mint_22 gv2 (by omega) (by omega) (by rw [e5]; rfl) (by decide) ?_
      refine z_aload_n C dX9_mint_52 0 rfl ?_
      obtain ⟨on6, hon6, h⟩ := bnd h
      refine y_getR C dX9_mint_53 fX9_33 rfl hon6 ?_
      obtain ⟨on7, hon7, h⟩ := bnd h
      refine y_getR C dX9_mint_56 fX9_108 rfl hon7 ?_
      obtain ⟨on8, hon8, h⟩ := bnd h
      refine y_getR C dX9_mint_59 fX9_143 rfl hon8 ?_
      refine z_iload_n C dX9_mint_62 1 rfl ?_
      obtain ⟨x9, hx9, h⟩ := bnd h
      refine y_iald C dX9_mint_63 hx9 (fun gx9 => ?_)
      exact y_iretE C dX9_mint_64 h gx9
    have h := (if_neg e5).symm.trans h
    by_cases e10 : v2 = 1
    ·
      have h := (if_pos e10).symm.trans h
      refine z_tableIn (off := 43) 65 C dX9_mint_22 gv2 (by omega) (by omega) (by rw [e10]; rfl) (by decide) ?_
      refine z_aload_n C dX9_mint_65 0 rfl ?_
      obtain ⟨on11, hon11, h⟩ := bnd h
      refine y_getR C dX9_mint_66 fX9_33 rfl hon11 ?_
      obtain ⟨on12, hon12, h⟩ := bnd h
      refine y_getR C dX9_mint_69 fX9_108 rfl hon12 ?_
      obtain ⟨on13, hon13, h⟩ := bnd h
      refine y_getR C dX9_mint_72 fX9_146 rfl hon13 ?_
      refine z_iload_n C dX9_mint_75 1 rfl ?_
      obtain ⟨x14, hx14, h⟩ := bnd h
      refine y_iald C dX9_mint_76 hx14 (fun gx14 => ?_)
      exact y_iretE C dX9_mint_77 h gx14
    have h := (if_neg e10).symm.trans h
    by_cases e15 : v2 = 2
    ·
      have h := (if_pos e15).symm.trans h
      refine z_tableIn (off := 56) 78 C dX9_mint_22 gv2 (by omega) (by omega) (by rw [e15]; rfl) (by decide) ?_
      refine z_aload_n C dX9_mint_78 0 rfl ?_
      obtain ⟨on16, hon16, h⟩ := bnd h
      refine y_getR C dX9_mint_79 fX9_33 rfl hon16 ?_
      obtain ⟨on17, hon17, h⟩ := bnd h
      refine y_getR C dX9_mint_82 fX9_117 rfl hon17 ?_
      refine z_iload_n C dX9_mint_85 1 rfl ?_
      obtain ⟨k18, h⟩ := gK_inv h
      obtain ⟨r19, hr19, h⟩ := bnd h
      refine y_cVb (st := []) C dX9_mint_86 mX9_149 k18 (tX1_isClosed hC on17 v1 gv1 hr19) rfl rfl (Nat.le_of_ble_eq_true rfl) (by decide) (fun br19 => ?_)
      refine z_if_eq 96 C dX9_mint_89 (by decide) (rg01 br19) (fun e20 => ?_) (fun e20 => ?_)
      ·
        have h := (if_pos e20).symm.trans h
        refine z_iconst C dX9_mint_96 ?_
        exact y_iretE C dX9_mint_97 h (by decide)
      ·
        have h := (if_neg e20).symm.trans h
        refine z_iconst C dX9_mint_92 ?_
        refine z_goto 97 C dX9_mint_93 (by decide) ?_
        exact y_iretE C dX9_mint_97 h (by decide)
    have h := (if_neg e15).symm.trans h
    by_cases e21 : v2 = 3
    ·
      have h := (if_pos e21).symm.trans h
      refine z_tableIn (off := 76) 98 C dX9_mint_22 gv2 (by omega) (by omega) (by rw [e21]; rfl) (by decide) ?_
      refine z_aload_n C dX9_mint_98 0 rfl ?_
      obtain ⟨on22, hon22, h⟩ := bnd h
      refine y_getR C dX9_mint_99 fX9_33 rfl hon22 ?_
      refine z_iload_n C dX9_mint_102 1 rfl ?_
      obtain ⟨k23, h⟩ := gK_inv h
      obtain ⟨r24, hr24, h⟩ := bnd h
      refine y_cVi (st := []) C dX9_mint_103 mX9_152 k23 (tX8_strokesAt hC on22 v1 gv1 hr24) rfl rfl (Nat.le_of_ble_eq_true rfl) (by decide) (fun gr24 => ?_)
      exact y_iretE C dX9_mint_106 h gr24
    have h := (if_neg e21).symm.trans h
    refine z_tableOut 107 C dX9_mint_22 gv2 (by omega) (by decide) ?_
    exact y_thrE C hX dX9_mint_107 dX9_mint_110 dX9_mint_111 dX9_mint_113 dX9_mint_116 h
  ·
    have h := (if_pos e4).symm.trans h
    exact y_thrE C hX dX9_mint_11 dX9_mint_14 dX9_mint_15 dX9_mint_17 dX9_mint_20 h

set_option maxHeartbeats 4000000 in
set_option maxRecDepth 100000 in
theorem tX9_of {G : Gx} {σ : State} (hC : Cy G σ) (hT : Zt G σ) (o0 : Nat) (v1 : Int) (v2 : Int) {M0 : Mm} (gv1 : rg v1) (gv2 : rg v2) {R : Int ⊕ Unit} (h : eX9_of o0 v1 v2 M0 = some R) : CtE G σ 9 yX9_of cX9_of 3 (some .int) [.ref (G.2.2 + o0), .int (iv v1), .int (iv v2)] M0 1 6 (Qe R M0) := by
  refine CtE.of hC.1 hC.2 hT (by decide +kernel) rfl (by decide) (Nat.le_of_ble_eq_true rfl) ?_
  intro p l e R0 s m args below meth c C hX
  show Jz G σ p l e R0 s m args below meth c 3 1 6 (Qe R M0) M0 0 0 0 [(0, .ref (G.2.2 + o0)), (1, .int (iv v1)), (2, .int (iv v2))] []
  unfold eX9_of at h
  refine z_aload_n C dX9_of_0 0 rfl ?_
  obtain ⟨on1, hon1, h⟩ := bnd h
  refine y_getR C dX9_of_1 fX9_33 rfl hon1 ?_
  refine z_iload_n C dX9_of_4 1 rfl ?_
  obtain ⟨k2, h⟩ := gK_inv h
  obtain ⟨r3, hr3, h⟩ := bnd h
  refine y_cVb (st := []) C dX9_of_5 mX9_183 k2 (tX8_isCoin hC on1 v1 gv1 hr3) rfl rfl (Nat.le_of_ble_eq_true rfl) (by decide) (fun br3 => ?_)
  refine z_if_ne 21 C dX9_of_8 (by decide) (rg01 br3) (fun e4 => ?_) (fun e4 => ?_)
  ·
    have h := (if_neg e4).symm.trans h
    refine z_iload_n C dX9_of_21 2 rfl ?_
    by_cases e5 : v2 = 0
    ·
      have h := (if_pos e5).symm.trans h
      refine z_tableIn (off := 34) 56 C dX9_of_22 gv2 (by omega) (by omega) (by rw [e5]; rfl) (by decide) ?_
      refine z_aload_n C dX9_of_56 0 rfl ?_
      obtain ⟨on6, hon6, h⟩ := bnd h
      refine y_getR C dX9_of_57 fX9_33 rfl hon6 ?_
      obtain ⟨on7, hon7, h⟩ := bnd h
      refine y_getR C dX9_of_60 fX9_117 rfl hon7 ?_
      obtain ⟨on8, hon8, h⟩ := bnd h
      refine y_getR C dX9_of_63 fX9_188 rfl hon8 ?_
      refine z_iload_n C dX9_of_66 1 rfl ?_
      obtain ⟨x9, hx9, h⟩ := bnd h
      refine y_iald C dX9_of_67 hx9 (fun gx9 => ?_)
      exact y_iretE C dX9_of_68 h gx9
    have h := (if_neg e5).symm.trans h
    by_cases e10 : v2 = 1
    ·
      have h := (if_pos e10).symm.trans h
      refine z_tableIn (off := 47) 69 C dX9_of_22 gv2 (by omega) (by omega) (by rw [e10]; rfl) (by decide) ?_
      refine z_aload_n C dX9_of_69 0 rfl ?_
      obtain ⟨on11, hon11, h⟩ := bnd h
      refine y_getR C dX9_of_70 fX9_33 rfl hon11 ?_
      obtain ⟨on12, hon12, h⟩ := bnd h
      refine y_getR C dX9_of_73 fX9_117 rfl hon12 ?_
      obtain ⟨on13, hon13, h⟩ := bnd h
      refine y_getR C dX9_of_76 fX9_191 rfl hon13 ?_
      refine z_iload_n C dX9_of_79 1 rfl ?_
      obtain ⟨x14, hx14, h⟩ := bnd h
      refine y_iald C dX9_of_80 hx14 (fun gx14 => ?_)
      exact y_iretE C dX9_of_81 h gx14
    have h := (if_neg e10).symm.trans h
    by_cases e15 : v2 = 2
    ·
      have h := (if_pos e15).symm.trans h
      refine z_tableIn (off := 60) 82 C dX9_of_22 gv2 (by omega) (by omega) (by rw [e15]; rfl) (by decide) ?_
      refine z_aload_n C dX9_of_82 0 rfl ?_
      obtain ⟨on16, hon16, h⟩ := bnd h
      refine y_getR C dX9_of_83 fX9_33 rfl hon16 ?_
      obtain ⟨on17, hon17, h⟩ := bnd h
      refine y_getR C dX9_of_86 fX9_117 rfl hon17 ?_
      obtain ⟨on18, hon18, h⟩ := bnd h
      refine y_getR C dX9_of_89 fX9_194 rfl hon18 ?_
      refine z_iload_n C dX9_of_92 1 rfl ?_
      obtain ⟨x19, hx19, h⟩ := bnd h
      refine y_iald C dX9_of_93 hx19 (fun gx19 => ?_)
      exact y_iretE C dX9_of_94 h gx19
    have h := (if_neg e15).symm.trans h
    by_cases e20 : v2 = 3
    ·
      have h := (if_pos e20).symm.trans h
      refine z_tableIn (off := 73) 95 C dX9_of_22 gv2 (by omega) (by omega) (by rw [e20]; rfl) (by decide) ?_
      refine z_aload_n C dX9_of_95 0 rfl ?_
      obtain ⟨on21, hon21, h⟩ := bnd h
      refine y_getR C dX9_of_96 fX9_33 rfl hon21 ?_
      obtain ⟨on22, hon22, h⟩ := bnd h
      refine y_getR C dX9_of_99 fX9_117 rfl hon22 ?_
      obtain ⟨on23, hon23, h⟩ := bnd h
      refine y_getR C dX9_of_102 fX9_197 rfl hon23 ?_
      refine z_iload_n C dX9_of_105 1 rfl ?_
      obtain ⟨x24, hx24, h⟩ := bnd h
      refine y_iald C dX9_of_106 hx24 (fun gx24 => ?_)
      exact y_iretE C dX9_of_107 h gx24
    have h := (if_neg e20).symm.trans h
    by_cases e25 : v2 = 4
    ·
      have h := (if_pos e25).symm.trans h
      refine z_tableIn (off := 86) 108 C dX9_of_22 gv2 (by omega) (by omega) (by rw [e25]; rfl) (by decide) ?_
      refine z_aload_n C dX9_of_108 0 rfl ?_
      obtain ⟨on26, hon26, h⟩ := bnd h
      refine y_getR C dX9_of_109 fX9_33 rfl hon26 ?_
      refine z_iload_n C dX9_of_112 1 rfl ?_
      obtain ⟨k27, h⟩ := gK_inv h
      obtain ⟨r28, hr28, h⟩ := bnd h
      refine y_cVb (st := []) C dX9_of_113 mX9_200 k27 (tX8_showsFalse hC on26 v1 gv1 hr28) rfl rfl (Nat.le_of_ble_eq_true rfl) (by decide) (fun br28 => ?_)
      refine z_if_eq 123 C dX9_of_116 (by decide) (rg01 br28) (fun e29 => ?_) (fun e29 => ?_)
      ·
        have h := (if_pos e29).symm.trans h
        refine z_iconst C dX9_of_123 ?_
        exact y_iretE C dX9_of_124 h (by decide)
      ·
        have h := (if_neg e29).symm.trans h
        refine z_iconst C dX9_of_119 ?_
        refine z_goto 124 C dX9_of_120 (by decide) ?_
        exact y_iretE C dX9_of_124 h (by decide)
    have h := (if_neg e25).symm.trans h
    refine z_tableOut 125 C dX9_of_22 gv2 (by omega) (by decide) ?_
    exact y_thrE C hX dX9_of_125 dX9_of_128 dX9_of_129 dX9_of_131 dX9_of_134 h
  ·
    have h := (if_pos e4).symm.trans h
    exact y_thrE C hX dX9_of_11 dX9_of_14 dX9_of_15 dX9_of_17 dX9_of_20 h

set_option maxHeartbeats 4000000 in
set_option maxRecDepth 100000 in
theorem tX9_sold {G : Gx} {σ : State} (hC : Cy G σ) (hT : Zt G σ) (o0 : Nat) (v1 : Int) (v2 : Int) {M0 : Mm} (gv1 : rg v1) (gv2 : rg v2) {R : Int ⊕ Unit} (h : eX9_sold o0 v1 v2 M0 = some R) : CtE G σ 9 yX9_sold cX9_sold 3 (some .int) [.ref (G.2.2 + o0), .int (iv v1), .int (iv v2)] M0 1 6 (Qe R M0) := by
  refine CtE.of hC.1 hC.2 hT (by decide +kernel) rfl (by decide) (Nat.le_of_ble_eq_true rfl) ?_
  intro p l e R0 s m args below meth c C hX
  show Jz G σ p l e R0 s m args below meth c 3 1 6 (Qe R M0) M0 0 0 0 [(0, .ref (G.2.2 + o0)), (1, .int (iv v1)), (2, .int (iv v2))] []
  have hb38 : eX9_sold_b38 M0 = some R → Jz G σ p l e R0 s m args below meth c 3 1 6 (Qe R M0) M0 0 0 38 [] [] := by
    intro    h
    unfold eX9_sold_b38 at h
    exact y_thrwE C hX dX9_sold_38 dX9_sold_41 dX9_sold_42 dX9_sold_45 dX9_sold_48 h
  have hb18 : eX9_sold_b18 M0 = some R → Jz G σ p l e R0 s m args below meth c 3 1 6 (Qe R M0) M0 0 0 18 [] [] := by
    intro    h
    unfold eX9_sold_b18 at h
    exact y_thrE C hX dX9_sold_18 dX9_sold_21 dX9_sold_22 dX9_sold_24 dX9_sold_27 h
  unfold eX9_sold at h
  refine z_iload_n C dX9_sold_0 1 rfl ?_
  refine z_if_lt 18 C dX9_sold_1 (by decide) gv1 (fun e1 => ?_) (fun e1 => ?_)
  ·
    have h := (if_pos e1).symm.trans h
    refine z_drop (lv' := []) [] rfl ?_
    exact hb18    h
  ·
    have h := (if_neg e1).symm.trans h
    refine z_iload_n C dX9_sold_4 1 rfl ?_
    refine z_aload_n C dX9_sold_5 0 rfl ?_
    obtain ⟨on2, hon2, h⟩ := bnd h
    refine y_getR C dX9_sold_6 fX9_33 rfl hon2 ?_
    obtain ⟨on3, hon3, h⟩ := bnd h
    refine y_getR C dX9_sold_9 fX9_117 rfl hon3 ?_
    obtain ⟨x4, hx4, h⟩ := bnd h
    refine y_getI C dX9_sold_12 fX9_251 rfl hx4 (fun gx4 => ?_)
    refine z_icmp_lt 28 C dX9_sold_15 (by decide) gv1 gx4 (fun e5 => ?_) (fun e5 => ?_)
    ·
      have h := (if_pos e5).symm.trans h
      refine z_iload_n C dX9_sold_28 2 rfl ?_
      refine z_if_lt 38 C dX9_sold_29 (by decide) gv2 (fun e6 => ?_) (fun e6 => ?_)
      ·
        have h := (if_pos e6).symm.trans h
        refine z_drop (lv' := []) [] rfl ?_
        exact hb38    h
      ·
        have h := (if_neg e6).symm.trans h
        refine z_iload_n C dX9_sold_32 2 rfl ?_
        refine z_bipush C dX9_sold_33 (by decide) ?_
        refine z_icmp_lt 49 C dX9_sold_35 (by decide) gv2 (by decide) (fun e7 => ?_) (fun e7 => ?_)
        ·
          have h := (if_pos e7).symm.trans h
          refine z_aload_n C dX9_sold_49 0 rfl ?_
          obtain ⟨on8, hon8, h⟩ := bnd h
          refine y_getR C dX9_sold_50 fX9_33 rfl hon8 ?_
          obtain ⟨on9, hon9, h⟩ := bnd h
          refine y_getR C dX9_sold_53 fX9_258 rfl hon9 ?_
          refine z_iload_n C dX9_sold_56 1 rfl ?_
          refine z_iload_n C dX9_sold_57 2 rfl ?_
          obtain ⟨k10, h⟩ := gK_inv h
          obtain ⟨r11, hr11, h⟩ := bnd h
          refine y_cVi (st := []) C dX9_sold_58 mX9_261 k10 (tX6_at hC on9 v1 v2 gv1 gv2 hr11) rfl rfl (Nat.le_of_ble_eq_true rfl) (by decide) (fun gr11 => ?_)
          exact y_iretE C dX9_sold_61 h gr11
        ·
          have h := (if_neg e7).symm.trans h
          refine z_drop (lv' := []) [] rfl ?_
          exact hb38    h
    ·
      have h := (if_neg e5).symm.trans h
      refine z_drop (lv' := []) [] rfl ?_
      exact hb18    h

set_option maxHeartbeats 4000000 in
set_option maxRecDepth 100000 in
theorem tX9_stroke {G : Gx} {σ : State} (hC : Cy G σ) (hT : Zt G σ) (o0 : Nat) (v1 : Int) (v2 : Int) {M0 : Mm} (gv1 : rg v1) (gv2 : rg v2) {R : Int ⊕ Unit} (h : eX9_stroke o0 v1 v2 M0 = some R) : CtE G σ 9 yX9_stroke cX9_stroke 3 (some .int) [.ref (G.2.2 + o0), .int (iv v1), .int (iv v2)] M0 1 6 (Qe R M0) := by
  refine CtE.of hC.1 hC.2 hT (by decide +kernel) rfl (by decide) (Nat.le_of_ble_eq_true rfl) ?_
  intro p l e R0 s m args below meth c C hX
  show Jz G σ p l e R0 s m args below meth c 3 1 6 (Qe R M0) M0 0 0 0 [(0, .ref (G.2.2 + o0)), (1, .int (iv v1)), (2, .int (iv v2))] []
  have hb39 : eX9_stroke_b39 M0 = some R → Jz G σ p l e R0 s m args below meth c 3 1 6 (Qe R M0) M0 0 0 39 [] [] := by
    intro    h
    unfold eX9_stroke_b39 at h
    exact y_thrwE C hX dX9_stroke_39 dX9_stroke_42 dX9_stroke_43 dX9_stroke_46 dX9_stroke_49 h
  have hb18 : eX9_stroke_b18 M0 = some R → Jz G σ p l e R0 s m args below meth c 3 1 6 (Qe R M0) M0 0 0 18 [] [] := by
    intro    h
    unfold eX9_stroke_b18 at h
    exact y_thrwE C hX dX9_stroke_18 dX9_stroke_21 dX9_stroke_22 dX9_stroke_25 dX9_stroke_28 h
  unfold eX9_stroke at h
  refine z_iload_n C dX9_stroke_0 1 rfl ?_
  refine z_if_lt 18 C dX9_stroke_1 (by decide) gv1 (fun e1 => ?_) (fun e1 => ?_)
  ·
    have h := (if_pos e1).symm.trans h
    refine z_drop (lv' := []) [] rfl ?_
    exact hb18    h
  ·
    have h := (if_neg e1).symm.trans h
    refine z_iload_n C dX9_stroke_4 1 rfl ?_
    refine z_aload_n C dX9_stroke_5 0 rfl ?_
    obtain ⟨on2, hon2, h⟩ := bnd h
    refine y_getR C dX9_stroke_6 fX9_33 rfl hon2 ?_
    obtain ⟨on3, hon3, h⟩ := bnd h
    refine y_getR C dX9_stroke_9 fX9_117 rfl hon3 ?_
    obtain ⟨x4, hx4, h⟩ := bnd h
    refine y_getI C dX9_stroke_12 fX9_313 rfl hx4 (fun gx4 => ?_)
    refine z_icmp_lt 29 C dX9_stroke_15 (by decide) gv1 gx4 (fun e5 => ?_) (fun e5 => ?_)
    ·
      have h := (if_pos e5).symm.trans h
      refine z_iload_n C dX9_stroke_29 2 rfl ?_
      refine z_if_lt 39 C dX9_stroke_30 (by decide) gv2 (fun e6 => ?_) (fun e6 => ?_)
      ·
        have h := (if_pos e6).symm.trans h
        refine z_drop (lv' := []) [] rfl ?_
        exact hb39    h
      ·
        have h := (if_neg e6).symm.trans h
        refine z_iload_n C dX9_stroke_33 2 rfl ?_
        refine z_bipush C dX9_stroke_34 (by decide) ?_
        refine z_icmp_le 50 C dX9_stroke_36 (by decide) gv2 (by decide) (fun e7 => ?_) (fun e7 => ?_)
        ·
          have h := (if_pos e7).symm.trans h
          refine z_iload_n C dX9_stroke_50 2 rfl ?_
          refine z_bipush C dX9_stroke_51 (by decide) ?_
          refine z_icmp_ne 73 C dX9_stroke_53 (by decide) gv2 (by decide) (fun e8 => ?_) (fun e8 => ?_)
          ·
            have h := (if_neg e8).symm.trans h
            refine z_aload_n C dX9_stroke_73 0 rfl ?_
            obtain ⟨on9, hon9, h⟩ := bnd h
            refine y_getR C dX9_stroke_74 fX9_33 rfl hon9 ?_
            obtain ⟨on10, hon10, h⟩ := bnd h
            refine y_getR C dX9_stroke_77 fX9_323 rfl hon10 ?_
            refine z_iload_n C dX9_stroke_80 1 rfl ?_
            refine z_iload_n C dX9_stroke_81 2 rfl ?_
            obtain ⟨k11, h⟩ := gK_inv h
            obtain ⟨r12, hr12, h⟩ := bnd h
            refine y_cVi (st := []) C dX9_stroke_82 mX9_261 k11 (tX6_at hC on10 v1 v2 gv1 gv2 hr12) rfl rfl (Nat.le_of_ble_eq_true rfl) (by decide) (fun gr12 => ?_)
            exact y_iretE C dX9_stroke_85 h gr12
          ·
            have h := (if_pos e8).symm.trans h
            refine z_aload_n C dX9_stroke_56 0 rfl ?_
            obtain ⟨on13, hon13, h⟩ := bnd h
            refine y_getR C dX9_stroke_57 fX9_33 rfl hon13 ?_
            refine z_iload_n C dX9_stroke_60 1 rfl ?_
            obtain ⟨k14, h⟩ := gK_inv h
            obtain ⟨r15, hr15, h⟩ := bnd h
            refine y_cVb (st := []) C dX9_stroke_61 mX9_320 k14 (tX8_isShown hC on13 v1 gv1 hr15) rfl rfl (Nat.le_of_ble_eq_true rfl) (by decide) (fun br15 => ?_)
            refine z_if_eq 71 C dX9_stroke_64 (by decide) (rg01 br15) (fun e16 => ?_) (fun e16 => ?_)
            ·
              have h := (if_pos e16).symm.trans h
              refine z_iconst C dX9_stroke_71 ?_
              exact y_iretE C dX9_stroke_72 h (by decide)
            ·
              have h := (if_neg e16).symm.trans h
              refine z_iconst C dX9_stroke_67 ?_
              refine z_goto 72 C dX9_stroke_68 (by decide) ?_
              exact y_iretE C dX9_stroke_72 h (by decide)
        ·
          have h := (if_neg e7).symm.trans h
          refine z_drop (lv' := []) [] rfl ?_
          exact hb39    h
    ·
      have h := (if_neg e5).symm.trans h
      refine z_drop (lv' := []) [] rfl ?_
      exact hb18    h
