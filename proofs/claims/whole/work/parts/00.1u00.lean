def uX0_init (o0 : Nat) (M0 : Mm) : Option Mm :=
  bd (pR (nC M0 12 12) 0 o0 1 M0.1.1) (fun M1 =>
  bd (pR (nC M1 12 12) 0 o0 2 M1.1.1) (fun M2 =>
  bd (pR (nC M2 12 72) 0 o0 3 M2.1.1) (fun M3 =>
  bd (pR (nC M3 12 12) 0 o0 5 M3.1.1) (fun M4 =>
  bd (pR (nC M4 12 12) 0 o0 6 M4.1.1) (fun M5 =>
  bd (pR (nC M5 12 12) 0 o0 7 M5.1.1) (fun M6 =>
  bd (pR (nC M6 12 12) 0 o0 8 M6.1.1) (fun M7 =>
  some M7)))))))

def uX0_noteUsable_b35 (o0 : Nat) (o1 : Nat) (v2 : Int) (v3 : Int) (M : Mm) : Option Mm :=
  if v3 ≤ 0 then
    some M
  else
    bd (gI M 0 o0 4) (fun x2 =>
    if 12 ≤ x2 then
      some M
    else
      bd (gR M 0 o0 5) (fun on4 =>
      bd (gI M 0 o0 4) (fun x5 =>
      bd (sI 12 M on4 x5 v2) (fun M6 =>
      bd (gR M6 0 o0 6) (fun on7 =>
      bd (gI M6 0 o0 4) (fun x8 =>
      bd (gR M6 8 o1 1) (fun on9 =>
      bd (gR M6 1 on9 9) (fun on10 =>
      bd (gR M6 0 o0 1) (fun on11 =>
      bd (aI 12 M6 on11 v2) (fun x12 =>
      bd (aI 12 M6 on10 x12) (fun x13 =>
      bd (sI 12 M6 on7 x8 x13) (fun M14 =>
      bd (gR M14 0 o0 7) (fun on15 =>
      bd (gI M14 0 o0 4) (fun x16 =>
      bd (sI 12 M14 on15 x16 v3) (fun M17 =>
      bd (gI M17 0 o0 4) (fun x18 =>
      bd (pI M17 0 o0 4 (w32 (x18 + 1))) (fun M19 =>
      some M19)))))))))))))))))
def uX0_noteUsable_s5 (o0 : Nat) (o1 : Nat) (v2 : Int) (M : Mm) (v3 : Int) (v4 : Int) : Option ((Int × Int) ⊕ (Int)) :=
  if 6 ≤ v4 then
    some (.inr v3)
  else
    bd (gR M 0 o0 3) (fun on21 =>
    bd (aI 12 M on21 (w32 ((w32 (v2 * 6)) + v4))) (fun x22 =>
    some (.inl (max32 v3 x22, w32 (v4 + 1)))))
def uX0_noteUsable_f5 (o0 : Nat) (o1 : Nat) (v2 : Int) (M : Mm) (x : Int × Int) : Option ((Int × Int) ⊕ (Int)) := uX0_noteUsable_s5 o0 o1 v2 M x.1 x.2
def uX0_noteUsable_c5 (o0 : Nat) (o1 : Nat) (v2 : Int) (M : Mm) (b : Int) : Option Mm := uX0_noteUsable_b35 o0 o1 v2 b M
def uX0_noteUsable_b5 (o0 : Nat) (o1 : Nat) (v2 : Int) (v3 : Int) (v4 : Int) (M : Mm) : Option Mm :=
  bd (lp (uX0_noteUsable_f5 o0 o1 v2 M) fu (v3, v4)) (uX0_noteUsable_c5 o0 o1 v2 M)
def uX0_noteUsable (o0 : Nat) (o1 : Nat) (v2 : Int) (M0 : Mm) : Option Mm :=
  uX0_noteUsable_b5 o0 o1 v2 0 1 M0

def uX0_sumWorth_b35  (M : Mm) : Option Mm :=
  some M
def uX0_sumWorth_s9 (o0 : Nat) (v1 : Int) (v2 : Int) (M : Mm) : Option ((Int × Int × Mm) ⊕ (Mm)) :=
  if v2 < 0 then
    some (.inr M)
  else
    bd (gR M 0 o0 7) (fun on2 =>
    bd (aI 12 M on2 v2) (fun x3 =>
    bd (gR M 0 o0 8) (fun on4 =>
    bd (sI 12 M on4 v2 (w32 (v1 + x3))) (fun M5 =>
    some (.inl (w32 (v1 + x3), w32 (v2 + (-1)), M5))))))
def uX0_sumWorth_f9 (o0 : Nat) (x : Int × Int × Mm) : Option ((Int × Int × Mm) ⊕ (Mm)) := uX0_sumWorth_s9 o0 x.1 x.2.1 x.2.2
def uX0_sumWorth_c9 (o0 : Nat) (b : Mm) : Option Mm := uX0_sumWorth_b35 b
def uX0_sumWorth_b9 (o0 : Nat) (v1 : Int) (v2 : Int) (M : Mm) : Option Mm :=
  bd (lp (uX0_sumWorth_f9 o0) fu (v1, v2, M)) (uX0_sumWorth_c9 o0)
def uX0_sumWorth (o0 : Nat) (M0 : Mm) : Option Mm :=
  bd (gI M0 0 o0 4) (fun x6 =>
  uX0_sumWorth_b9 o0 0 (w32 (x6 - 1)) M0)

def uX0_noteCheapest_b37 (o0 : Nat) (v1 : Int) (v2 : Int) (vs0 : Int) (M : Mm) : Option Mm :=
  if vs0 = 0 then
    some M
  else
    bd (pI M 0 o0 9 v1) (fun M2 =>
    bd (pI M2 0 o0 10 v2) (fun M3 =>
    some M3))
def uX0_noteCheapest_b36 (o0 : Nat) (v1 : Int) (v2 : Int) (M : Mm) : Option Mm :=
  uX0_noteCheapest_b37 o0 v1 v2 0 M
def uX0_noteCheapest_b32 (o0 : Nat) (v1 : Int) (v2 : Int) (M : Mm) : Option Mm :=
  uX0_noteCheapest_b37 o0 v1 v2 1 M
def uX0_noteCheapest (o0 : Nat) (v1 : Int) (v2 : Int) (M0 : Mm) : Option Mm :=
  bd (gI M0 0 o0 9) (fun x4 =>
  if x4 = (-1) then
    uX0_noteCheapest_b32 o0 v1 v2 M0
  else
    bd (gI M0 0 o0 9) (fun x6 =>
    if v1 < x6 then
      uX0_noteCheapest_b32 o0 v1 v2 M0
    else
      bd (gI M0 0 o0 9) (fun x8 =>
      if v1 = x8 then
        bd (gI M0 0 o0 10) (fun x10 =>
        if x10 ≤ v2 then
          uX0_noteCheapest_b36 o0 v1 v2 M0
        else
          uX0_noteCheapest_b32 o0 v1 v2 M0)
      else
        uX0_noteCheapest_b36 o0 v1 v2 M0)))

def uX0_strokesNeeded (o0 : Nat) (M0 : Mm) : Option Int :=
  bd (gI M0 0 o0 11) (fun x1 =>
  bd (gI M0 0 o0 12) (fun x2 =>
  some (w32 (x1 + x2))))

def uX1_copyFrom (o0 : Nat) (o1 : Nat) (M0 : Mm) : Option Mm :=
  bd (gI M0 1 o1 0) (fun x1 =>
  bd (pI M0 1 o0 0 x1) (fun M2 =>
  bd (gI M2 1 o1 1) (fun x3 =>
  bd (pI M2 1 o0 1 x3) (fun M4 =>
  bd (gI M4 1 o1 2) (fun x5 =>
  bd (pI M4 1 o0 2 x5) (fun M6 =>
  bd (gI M6 1 o1 3) (fun x7 =>
  bd (pI M6 1 o0 3 x7) (fun M8 =>
  bd (gI M8 1 o1 4) (fun x9 =>
  bd (pI M8 1 o0 4 x9) (fun M10 =>
  bd (gI M10 1 o1 5) (fun x11 =>
  bd (pI M10 1 o0 5 x11) (fun M12 =>
  bd (gI M12 1 o1 6) (fun x13 =>
  bd (pI M12 1 o0 6 x13) (fun M14 =>
  bd (gI M14 1 o1 7) (fun x15 =>
  bd (pI M14 1 o0 7 x15) (fun M16 =>
  bd (gI M16 1 o1 8) (fun x17 =>
  bd (pI M16 1 o0 8 x17) (fun M18 =>
  bd (gR M18 1 o1 9) (fun on19 =>
  bd (gR M18 1 o0 9) (fun on20 =>
  bd (cpA M18 on19 0 on20 0 40) (fun M21 =>
  bd (gR M21 1 o1 10) (fun on22 =>
  bd (gR M21 1 o0 10) (fun on23 =>
  bd (cpA M21 on22 0 on23 0 40) (fun M24 =>
  bd (gR M24 1 o1 11) (fun on25 =>
  bd (gR M24 1 o0 11) (fun on26 =>
  bd (cpA M24 on25 0 on26 0 40) (fun M27 =>
  bd (gR M27 1 o1 12) (fun on28 =>
  bd (gR M27 1 o0 12) (fun on29 =>
  bd (cpA M27 on28 0 on29 0 40) (fun M30 =>
  bd (gR M30 1 o1 13) (fun on31 =>
  bd (gR M30 1 o0 13) (fun on32 =>
  bd (gR M30 1 o0 13) (fun on33 =>
  bd (aL M30 on33) (fun x34 =>
  bd (cpA M30 on31 0 on32 0 x34) (fun M35 =>
  bd (gR M35 1 o1 14) (fun on36 =>
  bd (gR M35 1 o0 14) (fun on37 =>
  bd (gR M35 1 o0 14) (fun on38 =>
  bd (aL M35 on38) (fun x39 =>
  bd (cpA M35 on36 0 on37 0 x39) (fun M40 =>
  some M40))))))))))))))))))))))))))))))))))))))))

def uX1_bringDieBack (o0 : Nat) (M0 : Mm) : Option Mm :=
  bd (pI M0 1 o0 6 (-1)) (fun M1 =>
  bd (pI M1 1 o0 7 (-1)) (fun M2 =>
  some M2))

def uX1_isDead (o0 : Nat) (v1 : Int) (M0 : Mm) : Option Int :=
  bd (gI M0 1 o0 4) (fun x1 =>
  if (and32 (shr32 x1 v1) 1) = 0 then
    some 0
  else
    some 1)

def uX1_bury (o0 : Nat) (v1 : Int) (M0 : Mm) : Option Mm :=
  bd (gI M0 1 o0 4) (fun x1 =>
  bd (pI M0 1 o0 4 (or32 x1 (shl32 1 v1))) (fun M2 =>
  some M2))

def uX1_isClosed (o0 : Nat) (v1 : Int) (M0 : Mm) : Option Int :=
  bd (gI M0 1 o0 5) (fun x1 =>
  if (and32 (shr32 x1 v1) 1) = 0 then
    some 0
  else
    some 1)

def uX1_shut (o0 : Nat) (v1 : Int) (M0 : Mm) : Option Mm :=
  bd (gI M0 1 o0 5) (fun x1 =>
  bd (pI M0 1 o0 5 (or32 x1 (shl32 1 v1))) (fun M2 =>
  some M2))

def uX1_addCoin (o0 : Nat) (v1 : Int) (v2 : Int) (M0 : Mm) : Option (Int × Mm) :=
  bd (gI M0 1 o0 0) (fun x1 =>
  if x1 < 40 then
    bd (gR M0 1 o0 9) (fun on3 =>
    bd (sI 12 M0 on3 x1 v2) (fun M4 =>
    bd (gR M4 1 o0 10) (fun on5 =>
    bd (sI 12 M4 on5 x1 v1) (fun M6 =>
    bd (gR M6 1 o0 11) (fun on7 =>
    bd (sI 12 M6 on7 x1 0) (fun M8 =>
    bd (gR M8 1 o0 12) (fun on9 =>
    bd (sI 12 M8 on9 x1 0) (fun M10 =>
    bd (gI M10 1 o0 8) (fun x11 =>
    bd (pI M10 1 o0 8 (w32 (x11 + v2))) (fun M12 =>
    bd (gI M12 1 o0 0) (fun x13 =>
    bd (pI M12 1 o0 0 (w32 (x13 + 1))) (fun M14 =>
    some (x1, M14)))))))))))))
  else
    some ((-1), M0))

def uX1_coinsOf_b37 (v2 : Int) (M0 : Mm) : Option Int :=
  some v2
def uX1_coinsOf_s4 (o0 : Nat) (v1 : Int) (M0 : Mm) (v2 : Int) (v3 : Int) : Option ((Int × Int) ⊕ (Int)) :=
  bd (gI M0 1 o0 0) (fun x1 =>
  if x1 ≤ v3 then
    some (.inr v2)
  else
    if 40 ≤ v3 then
      some (.inr v2)
    else
      bd (gR M0 1 o0 10) (fun on4 =>
      bd (aI 12 M0 on4 v3) (fun x5 =>
      if x5 = v1 then
        some (.inl (w32 (v2 + 1), w32 (v3 + 1)))
      else
        some (.inl (v2, w32 (v3 + 1))))))
def uX1_coinsOf_f4 (o0 : Nat) (v1 : Int) (M0 : Mm) (x : Int × Int) : Option ((Int × Int) ⊕ (Int)) := uX1_coinsOf_s4 o0 v1 M0 x.1 x.2
def uX1_coinsOf_c4 (o0 : Nat) (v1 : Int) (M0 : Mm) (b : Int) : Option Int := uX1_coinsOf_b37 b M0
def uX1_coinsOf_b4 (o0 : Nat) (v1 : Int) (v2 : Int) (v3 : Int) (M0 : Mm) : Option Int :=
  bd (lp (uX1_coinsOf_f4 o0 v1 M0) fu (v2, v3)) (uX1_coinsOf_c4 o0 v1 M0)
def uX1_coinsOf (o0 : Nat) (v1 : Int) (M0 : Mm) : Option Int :=
  uX1_coinsOf_b4 o0 v1 0 0 M0

def uX1_grainsOf_b43 (v2 : Int) (M0 : Mm) : Option Int :=
  some v2
def uX1_grainsOf_s4 (o0 : Nat) (v1 : Int) (M0 : Mm) (v2 : Int) (v3 : Int) : Option ((Int × Int) ⊕ (Int)) :=
  bd (gI M0 1 o0 0) (fun x1 =>
  if x1 ≤ v3 then
    some (.inr v2)
  else
    if 40 ≤ v3 then
      some (.inr v2)
    else
      bd (gR M0 1 o0 10) (fun on4 =>
      bd (aI 12 M0 on4 v3) (fun x5 =>
      if x5 = v1 then
        bd (gR M0 1 o0 9) (fun on7 =>
        bd (aI 12 M0 on7 v3) (fun x8 =>
        some (.inl (w32 (v2 + x8), w32 (v3 + 1)))))
      else
        some (.inl (v2, w32 (v3 + 1))))))
def uX1_grainsOf_f4 (o0 : Nat) (v1 : Int) (M0 : Mm) (x : Int × Int) : Option ((Int × Int) ⊕ (Int)) := uX1_grainsOf_s4 o0 v1 M0 x.1 x.2
def uX1_grainsOf_c4 (o0 : Nat) (v1 : Int) (M0 : Mm) (b : Int) : Option Int := uX1_grainsOf_b43 b M0
def uX1_grainsOf_b4 (o0 : Nat) (v1 : Int) (v2 : Int) (v3 : Int) (M0 : Mm) : Option Int :=
  bd (lp (uX1_grainsOf_f4 o0 v1 M0) fu (v2, v3)) (uX1_grainsOf_c4 o0 v1 M0)
def uX1_grainsOf (o0 : Nat) (v1 : Int) (M0 : Mm) : Option Int :=
  uX1_grainsOf_b4 o0 v1 0 0 M0

def uX1_grainsOfAll_b33 (v1 : Int) (M0 : Mm) : Option Int :=
  some v1
def uX1_grainsOfAll_s4 (o0 : Nat) (M0 : Mm) (v1 : Int) (v2 : Int) : Option ((Int × Int) ⊕ (Int)) :=
  bd (gI M0 1 o0 0) (fun x1 =>
  if x1 ≤ v2 then
    some (.inr v1)
  else
    if 40 ≤ v2 then
      some (.inr v1)
    else
      bd (gR M0 1 o0 9) (fun on4 =>
      bd (aI 12 M0 on4 v2) (fun x5 =>
      some (.inl (w32 (v1 + x5), w32 (v2 + 1))))))
def uX1_grainsOfAll_f4 (o0 : Nat) (M0 : Mm) (x : Int × Int) : Option ((Int × Int) ⊕ (Int)) := uX1_grainsOfAll_s4 o0 M0 x.1 x.2
def uX1_grainsOfAll_c4 (o0 : Nat) (M0 : Mm) (b : Int) : Option Int := uX1_grainsOfAll_b33 b M0
def uX1_grainsOfAll_b4 (o0 : Nat) (v1 : Int) (v2 : Int) (M0 : Mm) : Option Int :=
  bd (lp (uX1_grainsOfAll_f4 o0 M0) fu (v1, v2)) (uX1_grainsOfAll_c4 o0 M0)
def uX1_grainsOfAll (o0 : Nat) (M0 : Mm) : Option Int :=
  uX1_grainsOfAll_b4 o0 0 0 M0

def uX1_inherit_b49 (v3 : Int) (M : Mm) : Option (Int × Mm) :=
  some (v3, M)
def uX1_inherit_s5 (o0 : Nat) (v1 : Int) (v2 : Int) (v3 : Int) (v4 : Int) (M : Mm) : Option ((Int × Int × Mm) ⊕ (Int × Mm)) :=
  bd (gI M 1 o0 0) (fun x1 =>
  if x1 ≤ v4 then
    some (.inr (v3, M))
  else
    if 40 ≤ v4 then
      some (.inr (v3, M))
    else
      bd (gR M 1 o0 10) (fun on4 =>
      bd (aI 12 M on4 v4) (fun x5 =>
      if x5 = v1 then
        bd (gR M 1 o0 10) (fun on7 =>
        bd (sI 12 M on7 v4 v2) (fun M8 =>
        some (.inl (w32 (v3 + 1), w32 (v4 + 1), M8))))
      else
        some (.inl (v3, w32 (v4 + 1), M)))))
def uX1_inherit_f5 (o0 : Nat) (v1 : Int) (v2 : Int) (x : Int × Int × Mm) : Option ((Int × Int × Mm) ⊕ (Int × Mm)) := uX1_inherit_s5 o0 v1 v2 x.1 x.2.1 x.2.2
def uX1_inherit_c5 (o0 : Nat) (v1 : Int) (v2 : Int) (b : Int × Mm) : Option (Int × Mm) := uX1_inherit_b49 b.1 b.2
def uX1_inherit_b5 (o0 : Nat) (v1 : Int) (v2 : Int) (v3 : Int) (v4 : Int) (M : Mm) : Option (Int × Mm) :=
  bd (lp (uX1_inherit_f5 o0 v1 v2) fu (v3, v4, M)) (uX1_inherit_c5 o0 v1 v2)
def uX1_inherit (o0 : Nat) (v1 : Int) (v2 : Int) (M0 : Mm) : Option (Int × Mm) :=
  uX1_inherit_b5 o0 v1 v2 0 0 M0

def uX1_hasFace (o0 : Nat) (v1 : Int) (v2 : Int) (M0 : Mm) : Option Int :=
  if v1 < 0 then
    some 0
  else
    bd (gI M0 1 o0 0) (fun x2 =>
    if x2 ≤ v1 then
      some 0
    else
      if 40 ≤ v1 then
        some 0
      else
        if v2 < 0 then
          some 0
        else
          bd (gR M0 1 o0 12) (fun on6 =>
          bd (aI 12 M0 on6 v1) (fun x7 =>
          if x7 ≤ v2 then
            some 0
          else
            if 9 ≤ v2 then
              some 0
            else
              some 1)))

def uX1_facesLeft_b43 (v3 : Int) (M0 : Mm) : Option Int :=
  some v3
def uX1_facesLeft_s8 (o0 : Nat) (v1 : Int) (v2 : Int) (v4 : Int) (M0 : Mm) (v3 : Int) : Option ((Int) ⊕ (Int)) :=
  if 8 ≤ v3 then
    some (.inr v3)
  else
    bd (gR M0 1 o0 12) (fun on2 =>
    bd (aI 12 M0 on2 v1) (fun x3 =>
    if x3 ≤ v3 then
      some (.inr v3)
    else
      bd (gR M0 1 o0 14) (fun on5 =>
      bd (aI 12 M0 on5 (w32 (v4 + v3))) (fun x6 =>
      if x6 ≤ v2 then
        some (.inr v3)
      else
        some (.inl (w32 (v3 + 1)))))))
def uX1_facesLeft_f8 (o0 : Nat) (v1 : Int) (v2 : Int) (v4 : Int) (M0 : Mm) (x : Int) : Option ((Int) ⊕ (Int)) := uX1_facesLeft_s8 o0 v1 v2 v4 M0 x
def uX1_facesLeft_c8 (o0 : Nat) (v1 : Int) (v2 : Int) (v4 : Int) (M0 : Mm) (b : Int) : Option Int := uX1_facesLeft_b43 b M0
def uX1_facesLeft_b8 (o0 : Nat) (v1 : Int) (v2 : Int) (v3 : Int) (v4 : Int) (M0 : Mm) : Option Int :=
  bd (lp (uX1_facesLeft_f8 o0 v1 v2 v4 M0) fu v3) (uX1_facesLeft_c8 o0 v1 v2 v4 M0)
def uX1_facesLeft (o0 : Nat) (v1 : Int) (v2 : Int) (M0 : Mm) : Option Int :=
  uX1_facesLeft_b8 o0 v1 v2 0 (w32 (v1 * 9)) M0

def uX2_init (o0 : Nat) (M0 : Mm) : Option Mm :=
  bd (pR (nC M0 15 6) 2 o0 0 M0.1.1) (fun M1 =>
  some M1)

def uX2_forget (o0 : Nat) (M0 : Mm) : Option Mm :=
  bd (pI M0 2 o0 2 0) (fun M1 =>
  some M1)

def uX3_clear_b73  (M : Mm) : Option Mm :=
  some M
def uX3_clear_s51 (o0 : Nat) (v1 : Int) (M : Mm) : Option ((Int × Mm) ⊕ (Mm)) :=
  if 4 ≤ v1 then
    some (.inr M)
  else
    bd (gR M 3 o0 11) (fun on2 =>
    bd (sA 0 v1) (fun x4 =>
    bd (sI 12 M on2 v1 x4) (fun M5 =>
    some (.inl (w32 (v1 + 1), M5)))))
def uX3_clear_f51 (o0 : Nat) (x : Int × Mm) : Option ((Int × Mm) ⊕ (Mm)) := uX3_clear_s51 o0 x.1 x.2
def uX3_clear_c51 (o0 : Nat) (b : Mm) : Option Mm := uX3_clear_b73 b
def uX3_clear_b51 (o0 : Nat) (v1 : Int) (M : Mm) : Option Mm :=
  bd (lp (uX3_clear_f51 o0) fu (v1, M)) (uX3_clear_c51 o0)
def uX3_clear_b49 (o0 : Nat) (M : Mm) : Option Mm :=
  uX3_clear_b51 o0 0 M
def uX3_clear_s27 (o0 : Nat) (v1 : Int) (M : Mm) : Option ((Int × Mm) ⊕ (Mm)) :=
  bd (gR M 3 o0 10) (fun on6 =>
  bd (aL M on6) (fun x7 =>
  if x7 ≤ v1 then
    some (.inr M)
  else
    bd (gR M 3 o0 10) (fun on9 =>
    bd (sI 12 M on9 v1 (-1)) (fun M10 =>
    some (.inl (w32 (v1 + 1), M10))))))
def uX3_clear_f27 (o0 : Nat) (x : Int × Mm) : Option ((Int × Mm) ⊕ (Mm)) := uX3_clear_s27 o0 x.1 x.2
def uX3_clear_c27 (o0 : Nat) (b : Mm) : Option Mm := uX3_clear_b49 o0 b
def uX3_clear_b27 (o0 : Nat) (v1 : Int) (M : Mm) : Option Mm :=
  bd (lp (uX3_clear_f27 o0) fu (v1, M)) (uX3_clear_c27 o0)
def uX3_clear (o0 : Nat) (M0 : Mm) : Option Mm :=
  bd (pI M0 3 o0 0 0) (fun M11 =>
  bd (pI M11 3 o0 1 0) (fun M12 =>
  bd (pI M12 3 o0 2 0) (fun M13 =>
  bd (pI M13 3 o0 3 0) (fun M14 =>
  bd (pI M14 3 o0 12 0) (fun M15 =>
  uX3_clear_b27 o0 0 M15)))))

def uX3_copyFrom (o0 : Nat) (o1 : Nat) (M0 : Mm) : Option Mm :=
  bd (gI M0 3 o1 0) (fun x1 =>
  bd (pI M0 3 o0 0 x1) (fun M2 =>
  bd (gI M2 3 o1 1) (fun x3 =>
  bd (pI M2 3 o0 1 x3) (fun M4 =>
  bd (gI M4 3 o1 2) (fun x5 =>
  bd (pI M4 3 o0 2 x5) (fun M6 =>
  bd (gI M6 3 o1 3) (fun x7 =>
  bd (pI M6 3 o0 3 x7) (fun M8 =>
  bd (gI M8 3 o1 12) (fun x9 =>
  bd (pI M8 3 o0 12 x9) (fun M10 =>
  bd (gR M10 3 o1 4) (fun on11 =>
  bd (gR M10 3 o0 4) (fun on12 =>
  bd (cpA M10 on11 0 on12 0 8) (fun M13 =>
  bd (gR M13 3 o1 5) (fun on14 =>
  bd (gR M13 3 o0 5) (fun on15 =>
  bd (cpA M13 on14 0 on15 0 8) (fun M16 =>
  bd (gR M16 3 o1 6) (fun on17 =>
  bd (gR M16 3 o0 6) (fun on18 =>
  bd (cpA M16 on17 0 on18 0 8) (fun M19 =>
  bd (gR M19 3 o1 7) (fun on20 =>
  bd (gR M19 3 o0 7) (fun on21 =>
  bd (cpA M19 on20 0 on21 0 4) (fun M22 =>
  bd (gR M22 3 o1 8) (fun on23 =>
  bd (gR M22 3 o0 8) (fun on24 =>
  bd (cpA M22 on23 0 on24 0 4) (fun M25 =>
  bd (gR M25 3 o1 9) (fun on26 =>
  bd (gR M25 3 o0 9) (fun on27 =>
  bd (cpA M25 on26 0 on27 0 4) (fun M28 =>
  bd (gR M28 3 o1 10) (fun on29 =>
  bd (gR M28 3 o0 10) (fun on30 =>
  bd (gR M28 3 o0 10) (fun on31 =>
  bd (aL M28 on31) (fun x32 =>
  bd (cpA M28 on29 0 on30 0 x32) (fun M33 =>
  bd (gR M33 3 o1 11) (fun on34 =>
  bd (gR M33 3 o0 11) (fun on35 =>
  bd (cpA M33 on34 0 on35 0 4) (fun M36 =>
  some M36))))))))))))))))))))))))))))))))))))

def uX3_numberFault (o0 : Nat) (v1 : Int) (v2 : Int) (M0 : Mm) : Option Int :=
  bd (gI M0 7 o0 4) (fun x1 =>
  if x1 = 2 then
    bd (gI M0 7 o0 6) (fun x3 =>
    if x3 < v1 then
      some 2
    else
      bd (gI M0 7 o0 6) (fun x5 =>
      if x5 ≤ v2 then
        some 0
      else
        some 2))
  else
    some 1)

def uX3_findWho_b34  (M0 : Mm) : Option Int :=
  some (-1)
def uX3_findWho_s2 (o0 : Nat) (v1 : Int) (M0 : Mm) (v2 : Int) : Option ((Int) ⊕ ((Unit) ⊕ Int)) :=
  bd (gI M0 3 o0 1) (fun x1 =>
  if x1 ≤ v2 then
    some (.inr (.inl ()))
  else
    if 8 ≤ v2 then
      some (.inr (.inl ()))
    else
      bd (gR M0 3 o0 4) (fun on4 =>
      bd (aI 12 M0 on4 v2) (fun x5 =>
      if x5 = v1 then
        some (.inr (.inr v2))
      else
        some (.inl (w32 (v2 + 1))))))
def uX3_findWho_f2 (o0 : Nat) (v1 : Int) (M0 : Mm) (x : Int) : Option ((Int) ⊕ ((Unit) ⊕ Int)) := uX3_findWho_s2 o0 v1 M0 x
def uX3_findWho_c2 (o0 : Nat) (v1 : Int) (M0 : Mm) (b : (Unit) ⊕ Int) : Option Int := Sum.elim (fun b => uX3_findWho_b34 M0) (fun t => some t) b
def uX3_findWho_b2 (o0 : Nat) (v1 : Int) (v2 : Int) (M0 : Mm) : Option Int :=
  bd (lp (uX3_findWho_f2 o0 v1 M0) fu v2) (uX3_findWho_c2 o0 v1 M0)
def uX3_findWho (o0 : Nat) (v1 : Int) (M0 : Mm) : Option Int :=
  uX3_findWho_b2 o0 v1 0 M0

def uX3_isMintName_b33  (M0 : Mm) : Option Int :=
  some 0
def uX3_isMintName_s2 (o0 : Nat) (v1 : Int) (M0 : Mm) (v2 : Int) : Option ((Int) ⊕ ((Unit) ⊕ Int)) :=
  bd (gI M0 3 o0 2) (fun x1 =>
  if x1 ≤ v2 then
    some (.inr (.inl ()))
  else
    if 4 ≤ v2 then
      some (.inr (.inl ()))
    else
      bd (gR M0 3 o0 7) (fun on4 =>
      bd (aI 12 M0 on4 v2) (fun x5 =>
      if x5 = v1 then
        some (.inr (.inr 1))
      else
        some (.inl (w32 (v2 + 1))))))
def uX3_isMintName_f2 (o0 : Nat) (v1 : Int) (M0 : Mm) (x : Int) : Option ((Int) ⊕ ((Unit) ⊕ Int)) := uX3_isMintName_s2 o0 v1 M0 x
def uX3_isMintName_c2 (o0 : Nat) (v1 : Int) (M0 : Mm) (b : (Unit) ⊕ Int) : Option Int := Sum.elim (fun b => uX3_isMintName_b33 M0) (fun t => some t) b
def uX3_isMintName_b2 (o0 : Nat) (v1 : Int) (v2 : Int) (M0 : Mm) : Option Int :=
  bd (lp (uX3_isMintName_f2 o0 v1 M0) fu v2) (uX3_isMintName_c2 o0 v1 M0)
def uX3_isMintName (o0 : Nat) (v1 : Int) (M0 : Mm) : Option Int :=
  uX3_isMintName_b2 o0 v1 0 M0

def uX3_takenAt (o0 : Nat) (v1 : Int) (v2 : Int) (M0 : Mm) : Option Int :=
  if (w32 ((w32 (v1 * 8)) + v2)) < 0 then
    some 100
  else
    bd (gR M0 3 o0 10) (fun on2 =>
    bd (aL M0 on2) (fun x3 =>
    if x3 ≤ (w32 ((w32 (v1 * 8)) + v2)) then
      some 100
    else
      bd (gR M0 3 o0 10) (fun on5 =>
      bd (aI 12 M0 on5 (w32 ((w32 (v1 * 8)) + v2))) (fun x6 =>
      if x6 = (-1) then
        some 100
      else
        bd (gR M0 3 o0 10) (fun on8 =>
        bd (aI 12 M0 on8 (w32 ((w32 (v1 * 8)) + v2))) (fun x9 =>
        some x9))))))

def uX4_init (o0 : Nat) (M0 : Mm) : Option Mm :=
  bd (pR (nC M0 12 9) 4 o0 1 M0.1.1) (fun M1 =>
  bd (pR (nC M1 12 9) 4 o0 2 M1.1.1) (fun M2 =>
  bd (pR (nC M2 12 9) 4 o0 3 M2.1.1) (fun M3 =>
  some M3)))

def uX4_tooMany_b33 (v2 : Int) (M0 : Mm) : Option Int :=
  if v2 ≤ 60000 then
    some 0
  else
    some 1
def uX4_tooMany_s4 (o0 : Nat) (v1 : Int) (M0 : Mm) (v2 : Int) (v3 : Int) : Option ((Int × Int) ⊕ (Int)) :=
  if v1 ≤ v3 then
    some (.inr v2)
  else
    if 60000 < v2 then
      some (.inr v2)
    else
      bd (gI M0 3 o0 1) (fun x4 =>
      bd (gI M0 3 o0 2) (fun x5 =>
      some (.inl (w32 (v2 * (w32 (x4 * x5))), w32 (v3 + 1)))))
def uX4_tooMany_f4 (o0 : Nat) (v1 : Int) (M0 : Mm) (x : Int × Int) : Option ((Int × Int) ⊕ (Int)) := uX4_tooMany_s4 o0 v1 M0 x.1 x.2
def uX4_tooMany_c4 (o0 : Nat) (v1 : Int) (M0 : Mm) (b : Int) : Option Int := uX4_tooMany_b33 b M0
def uX4_tooMany_b4 (o0 : Nat) (v1 : Int) (v2 : Int) (v3 : Int) (M0 : Mm) : Option Int :=
  bd (lp (uX4_tooMany_f4 o0 v1 M0) fu (v2, v3)) (uX4_tooMany_c4 o0 v1 M0)
def uX4_tooMany (o0 : Nat) (v1 : Int) (M0 : Mm) : Option Int :=
  uX4_tooMany_b4 o0 v1 1 0 M0

def uX4_turnRow_b45  (M : Mm) : Option (Int × Mm) :=
  some (0, M)
def uX4_turnRow_s2 (o0 : Nat) (v1 : Int) (v2 : Int) (M : Mm) : Option ((Int × Mm) ⊕ ((Mm) ⊕ (Int × Mm))) :=
  bd (gI M 4 o0 0) (fun x1 =>
  if x1 ≤ v2 then
    some (.inr (.inl M))
  else
    bd (gR M 4 o0 3) (fun on3 =>
    bd (aI 12 M on3 v2) (fun x4 =>
    bd (sI 12 M on3 v2 (w32 (x4 + 1))) (fun M5 =>
    bd (gR M5 4 o0 3) (fun on6 =>
    bd (aI 12 M5 on6 v2) (fun x7 =>
    if v1 ≤ x7 then
      bd (gR M5 4 o0 3) (fun on9 =>
      bd (sI 12 M5 on9 v2 0) (fun M10 =>
      some (.inl (w32 (v2 + 1), M10))))
    else
      some (.inr (.inr (1, M5)))))))))
def uX4_turnRow_f2 (o0 : Nat) (v1 : Int) (x : Int × Mm) : Option ((Int × Mm) ⊕ ((Mm) ⊕ (Int × Mm))) := uX4_turnRow_s2 o0 v1 x.1 x.2
def uX4_turnRow_c2 (o0 : Nat) (v1 : Int) (b : (Mm) ⊕ (Int × Mm)) : Option (Int × Mm) := Sum.elim (fun b => uX4_turnRow_b45 b) (fun t => some t) b
def uX4_turnRow_b2 (o0 : Nat) (v1 : Int) (v2 : Int) (M : Mm) : Option (Int × Mm) :=
  bd (lp (uX4_turnRow_f2 o0 v1) fu (v2, M)) (uX4_turnRow_c2 o0 v1)
def uX4_turnRow (o0 : Nat) (v1 : Int) (M0 : Mm) : Option (Int × Mm) :=
  uX4_turnRow_b2 o0 v1 0 M0

def uX5_init (o0 : Nat) (M0 : Mm) : Option Mm :=
  bd (pR (nC M0 12 40) 5 o0 2 M0.1.1) (fun M1 =>
  bd (pR (nC M1 12 40) 5 o0 3 M1.1.1) (fun M2 =>
  bd (pR (nC M2 12 40) 5 o0 4 M2.1.1) (fun M3 =>
  some M3)))

def uX5_clear (o0 : Nat) (M0 : Mm) : Option Mm :=
  bd (pI M0 5 o0 0 0) (fun M1 =>
  bd (pI M1 5 o0 1 0) (fun M2 =>
  some M2))

def uX5_copyFrom (o0 : Nat) (o1 : Nat) (M0 : Mm) : Option Mm :=
  bd (gI M0 5 o1 0) (fun x1 =>
  bd (pI M0 5 o0 0 x1) (fun M2 =>
  bd (gI M2 5 o1 1) (fun x3 =>
  bd (pI M2 5 o0 1 x3) (fun M4 =>
  bd (gR M4 5 o1 2) (fun on5 =>
  bd (gR M4 5 o0 2) (fun on6 =>
  bd (cpA M4 on5 0 on6 0 40) (fun M7 =>
  bd (gR M7 5 o1 3) (fun on8 =>
  bd (gR M7 5 o0 3) (fun on9 =>
  bd (cpA M7 on8 0 on9 0 40) (fun M10 =>
  bd (gR M10 5 o1 4) (fun on11 =>
  bd (gR M10 5 o0 4) (fun on12 =>
  bd (cpA M10 on11 0 on12 0 40) (fun M13 =>
  some M13)))))))))))))

def uX5_add (o0 : Nat) (v1 : Int) (v2 : Int) (v3 : Int) (M0 : Mm) : Option Mm :=
  bd (gI M0 5 o0 1) (fun x1 =>
  if x1 < 40 then
    bd (gR M0 5 o0 2) (fun on3 =>
    bd (gI M0 5 o0 1) (fun x4 =>
    bd (sI 12 M0 on3 x4 v1) (fun M5 =>
    bd (gR M5 5 o0 3) (fun on6 =>
    bd (gI M5 5 o0 1) (fun x7 =>
    bd (sI 12 M5 on6 x7 v2) (fun M8 =>
    bd (gR M8 5 o0 4) (fun on9 =>
    bd (gI M8 5 o0 1) (fun x10 =>
    bd (sI 12 M8 on9 x10 v3) (fun M11 =>
    bd (gI M11 5 o0 1) (fun x12 =>
    bd (pI M11 5 o0 1 (w32 (x12 + 1))) (fun M13 =>
    some M13)))))))))))
  else
    some M0)

def uX5_compares (o0 : Nat) (v1 : Int) (v2 : Int) (M0 : Mm) : Option Int :=
  bd (gR M0 5 o0 3) (fun on1 =>
  bd (aI 12 M0 on1 v2) (fun x2 =>
  if x2 = 5 then
    bd (gR M0 5 o0 4) (fun on13 =>
    bd (aI 12 M0 on13 v2) (fun x14 =>
    if x14 ≤ v1 then
      some 0
    else
      some 1))
  else
    bd (gR M0 5 o0 3) (fun on4 =>
    bd (aI 12 M0 on4 v2) (fun x5 =>
    if x5 = 7 then
      bd (gR M0 5 o0 4) (fun on10 =>
      bd (aI 12 M0 on10 v2) (fun x11 =>
      if v1 ≤ x11 then
        some 0
      else
        some 1))
    else
      bd (gR M0 5 o0 4) (fun on7 =>
      bd (aI 12 M0 on7 v2) (fun x8 =>
      if v1 = x8 then
        some 1
      else
        some 0))))))

def uX6_init (o0 : Nat) (v1 : Int) (v2 : Int) (M0 : Mm) : Option Mm :=
  bd (pI M0 6 o0 0 v2) (fun M1 =>
  bd (nA (w32 (v1 * v2))) (fun u2 =>
  bd (pR (nC M1 12 u2) 6 o0 1 M1.1.1) (fun M3 =>
  some M3)))

def uX6_at (o0 : Nat) (v1 : Int) (v2 : Int) (M0 : Mm) : Option Int :=
  bd (gI M0 6 o0 0) (fun x1 =>
  if v1 < 0 then
    some (-1)
  else
    if v2 < 0 then
      some (-1)
    else
      bd (gI M0 6 o0 0) (fun x4 =>
      if x4 ≤ v2 then
        some (-1)
      else
        bd (gR M0 6 o0 1) (fun on6 =>
        bd (aL M0 on6) (fun x7 =>
        if x7 ≤ (w32 ((w32 (v1 * x1)) + v2)) then
          some (-1)
        else
          bd (gR M0 6 o0 1) (fun on9 =>
          bd (aI 12 M0 on9 (w32 ((w32 (v1 * x1)) + v2))) (fun x10 =>
          some x10))))))

def uX6_put (o0 : Nat) (v1 : Int) (v2 : Int) (v3 : Int) (M0 : Mm) : Option Mm :=
  bd (gI M0 6 o0 0) (fun x1 =>
  if v1 < 0 then
    some M0
  else
    if v2 < 0 then
      some M0
    else
      bd (gI M0 6 o0 0) (fun x4 =>
      if x4 ≤ v2 then
        some M0
      else
        bd (gR M0 6 o0 1) (fun on6 =>
        bd (aL M0 on6) (fun x7 =>
        if x7 ≤ (w32 ((w32 (v1 * x1)) + v2)) then
          some M0
        else
          bd (gR M0 6 o0 1) (fun on9 =>
          bd (sI 12 M0 on9 (w32 ((w32 (v1 * x1)) + v2)) v3) (fun M10 =>
          some M10))))))

def uX6_copyFrom (o0 : Nat) (o1 : Nat) (v2 : Int) (M0 : Mm) : Option Mm :=
  bd (gI M0 6 o0 0) (fun x1 =>
  bd (gR M0 6 o0 1) (fun on2 =>
  bd (aL M0 on2) (fun x3 =>
  bd (gR M0 6 o1 1) (fun on4 =>
  bd (aL M0 on4) (fun x5 =>
  if (min32 (w32 (v2 * x1)) (min32 x3 x5)) ≤ 0 then
    some M0
  else
    bd (gR M0 6 o1 1) (fun on7 =>
    bd (gR M0 6 o0 1) (fun on8 =>
    bd (cpA M0 on7 0 on8 0 (min32 (w32 (v2 * x1)) (min32 x3 x5))) (fun M9 =>
    some M9))))))))

def uX7_init (o0 : Nat) (M0 : Mm) : Option Mm :=
  bd (pR (nC M0 12 740) 7 o0 0 M0.1.1) (fun M1 =>
  some M1)

def uX7_put_b49  (M : Mm) : Option Mm :=
  some M
def uX7_put_s3 (o0 : Nat) (v1 : Int) (v2 : Int) (M : Mm) : Option ((Int × Mm) ⊕ (Mm)) :=
  if v2 < 0 then
    some (.inr M)
  else
    bd (gI M 7 o0 1) (fun x2 =>
    if 740 ≤ x2 then
      some (.inl (w32 (v2 + (-8)), M))
    else
      bd (gR M 7 o0 0) (fun on4 =>
      bd (gI M 7 o0 1) (fun x5 =>
      bd (sI 12 M on4 x5 (and32 (ushr32 v1 v2) 255)) (fun M6 =>
      bd (gI M6 7 o0 1) (fun x7 =>
      bd (pI M6 7 o0 1 (w32 (x7 + 1))) (fun M8 =>
      some (.inl (w32 (v2 + (-8)), M8))))))))
def uX7_put_f3 (o0 : Nat) (v1 : Int) (x : Int × Mm) : Option ((Int × Mm) ⊕ (Mm)) := uX7_put_s3 o0 v1 x.1 x.2
def uX7_put_c3 (o0 : Nat) (v1 : Int) (b : Mm) : Option Mm := uX7_put_b49 b
def uX7_put_b3 (o0 : Nat) (v1 : Int) (v2 : Int) (M : Mm) : Option Mm :=
  bd (lp (uX7_put_f3 o0 v1) fu (v2, M)) (uX7_put_c3 o0 v1)
def uX7_put (o0 : Nat) (v1 : Int) (M0 : Mm) : Option Mm :=
  uX7_put_b3 o0 v1 24 M0

def uX7_at (o0 : Nat) (v1 : Int) (M0 : Mm) : Option Int :=
  if v1 < 0 then
    some (-1)
  else
    if 740 ≤ v1 then
      some (-1)
    else
      bd (gR M0 7 o0 0) (fun on3 =>
      bd (aI 12 M0 on3 v1) (fun x4 =>
      some x4))

def uX7_begin (o0 : Nat) (v1 : Int) (M0 : Mm) : Option Mm :=
  bd (pI M0 7 o0 2 v1) (fun M1 =>
  bd (pI M1 7 o0 3 0) (fun M2 =>
  some M2))

def uX7_isBlank (v0 : Int) (M0 : Mm) : Option Int :=
  if v0 = 32 then
    some 1
  else
    if v0 = 10 then
      some 1
    else
      some 0

def uX7_isLetter (v0 : Int) (M0 : Mm) : Option Int :=
  if v0 < 97 then
    some 0
  else
    if 122 < v0 then
      some 0
    else
      some 1

def uX7_isDigit (v0 : Int) (M0 : Mm) : Option Int :=
  if v0 < 48 then
    some 0
  else
    if 57 < v0 then
      some 0
    else
      some 1

def uX7_signKind (v0 : Int) (M0 : Mm) : Option Int :=
  if v0 = 40 then
    some 8
  else
    if v0 = 41 then
      some 9
    else
      if v0 = 59 then
        some 4
      else
        if v0 = 60 then
          some 5
        else
          if v0 = 61 then
            some 6
          else
            if v0 = 62 then
              some 7
            else
              some 1

def uX7_wordKind_b101  (M0 : Mm) : Option Int :=
  some 3
def uX7_wordKind_b93 (o0 : Nat) (v1 : Int) (v2 : Int) (v4 : Int) (M0 : Mm) : Option ((Int × Int × Int) ⊕ ((Unit) ⊕ Int)) :=
  some (.inl (v2, (-1), w32 (v4 + 1)))
def uX7_wordKind_s8 (o0 : Nat) (v1 : Int) (M0 : Mm) (v2 : Int) (v3 : Int) (v4 : Int) : Option ((Int × Int × Int) ⊕ ((Unit) ⊕ Int)) :=
  if 102 ≤ v4 then
    some (.inr (.inl ()))
  else
    bd (chA v4) (fun x4 =>
    if x4 = 32 then
      if v3 = v1 then
        some (.inr (.inr v2))
      else
        some (.inl (w32 (v2 + 1), 0, w32 (v4 + 1)))
    else
      if v3 = (-1) then
        uX7_wordKind_b93 o0 v1 v2 v4 M0
      else
        if v1 ≤ v3 then
          uX7_wordKind_b93 o0 v1 v2 v4 M0
        else
          bd (gI M0 7 o0 5) (fun x8 =>
          if 740 ≤ (w32 (x8 + v3)) then
            uX7_wordKind_b93 o0 v1 v2 v4 M0
          else
            bd (gR M0 7 o0 0) (fun on10 =>
            bd (gI M0 7 o0 5) (fun x11 =>
            bd (aI 12 M0 on10 (w32 (x11 + v3))) (fun x12 =>
            if x12 = x4 then
              some (.inl (v2, w32 (v3 + 1), w32 (v4 + 1)))
            else
              uX7_wordKind_b93 o0 v1 v2 v4 M0)))))
def uX7_wordKind_f8 (o0 : Nat) (v1 : Int) (M0 : Mm) (x : Int × Int × Int) : Option ((Int × Int × Int) ⊕ ((Unit) ⊕ Int)) := uX7_wordKind_s8 o0 v1 M0 x.1 x.2.1 x.2.2
def uX7_wordKind_c8 (o0 : Nat) (v1 : Int) (M0 : Mm) (b : (Unit) ⊕ Int) : Option Int := Sum.elim (fun b => uX7_wordKind_b101 M0) (fun t => some t) b
def uX7_wordKind_b8 (o0 : Nat) (v1 : Int) (v2 : Int) (v3 : Int) (v4 : Int) (M0 : Mm) : Option Int :=
  bd (lp (uX7_wordKind_f8 o0 v1 M0) fu (v2, v3, v4)) (uX7_wordKind_c8 o0 v1 M0)
def uX7_wordKind (o0 : Nat) (v1 : Int) (M0 : Mm) : Option Int :=
  uX7_wordKind_b8 o0 v1 10 0 0 M0

def uX8_isWho (o0 : Nat) (v1 : Int) (M0 : Mm) : Option Int :=
  if v1 < 0 then
    some 0
  else
    bd (gR M0 8 o0 0) (fun on2 =>
    bd (gI M0 3 on2 1) (fun x3 =>
    if x3 ≤ v1 then
      some 0
    else
      if 8 ≤ v1 then
        some 0
      else
        some 1))

def uX8_isMint (o0 : Nat) (v1 : Int) (M0 : Mm) : Option Int :=
  if v1 < 0 then
    some 0
  else
    bd (gR M0 8 o0 0) (fun on2 =>
    bd (gI M0 3 on2 2) (fun x3 =>
    if x3 ≤ v1 then
      some 0
    else
      if 4 ≤ v1 then
        some 0
      else
        some 1))

def uX8_isCoin (o0 : Nat) (v1 : Int) (M0 : Mm) : Option Int :=
  if v1 < 0 then
    some 0
  else
    bd (gR M0 8 o0 1) (fun on2 =>
    bd (gI M0 1 on2 0) (fun x3 =>
    if x3 ≤ v1 then
      some 0
    else
      if 40 ≤ v1 then
        some 0
      else
        some 1))

def uX8_strokesLeft (o0 : Nat) (M0 : Mm) : Option Int :=
  bd (gR M0 8 o0 1) (fun on1 =>
  bd (gI M0 1 on1 1) (fun x2 =>
  some (w32 (500 - x2))))

def uX9_end (o0 : Nat) (v1 : Int) (M0 : Mm) : Option (Int × Mm) :=
  if v1 < 0 then
    some (0, M0)
  else
    bd (gR M0 9 o0 0) (fun on2 =>
    bd (gI M0 7 on2 1) (fun x3 =>
    if v1 ≤ x3 then
      bd (gR M0 9 o0 0) (fun on5 =>
      bd (pI M0 7 on5 1 v1) (fun M6 =>
      some (1, M6)))
    else
      some (0, M0)))

def uX9_fault (o0 : Nat) (M0 : Mm) : Option Int :=
  bd (gI M0 9 o0 1) (fun x1 =>
  some x1)

def uX9_sales (o0 : Nat) (M0 : Mm) : Option Int :=
  bd (gR M0 9 o0 4) (fun on1 =>
  bd (gR M0 8 on1 1) (fun on2 =>
  bd (gI M0 1 on2 2) (fun x3 =>
  some x3)))

def uX9_tellPaid_b81  (M : Mm) : Option Mm :=
  some M
def uX9_tellPaid_s23 (o0 : Nat) (v1 : Int) (M : Mm) : Option ((Int × Mm) ⊕ (Mm)) :=
  bd (gR M 9 o0 7) (fun on1 =>
  bd (gI M 0 on1 0) (fun x2 =>
  if x2 ≤ v1 then
    some (.inr M)
  else
    if 12 ≤ v1 then
      some (.inr M)
    else
      bd (gR M 9 o0 7) (fun on5 =>
      bd (gR M 0 on5 1) (fun on6 =>
      bd (aI 12 M on6 v1) (fun x7 =>
      if x7 < 0 then
        some (.inl (w32 (v1 + 1), M))
      else
        if 40 ≤ x7 then
          some (.inl (w32 (v1 + 1), M))
        else
          bd (gR M 9 o0 8) (fun on10 =>
          bd (gR M 9 o0 7) (fun on11 =>
          bd (gR M 0 on11 2) (fun on12 =>
          bd (aI 12 M on12 v1) (fun x13 =>
          bd (sI 12 M on10 x7 x13) (fun M14 =>
          some (.inl (w32 (v1 + 1), M14))))))))))))
def uX9_tellPaid_f23 (o0 : Nat) (x : Int × Mm) : Option ((Int × Mm) ⊕ (Mm)) := uX9_tellPaid_s23 o0 x.1 x.2
def uX9_tellPaid_c23 (o0 : Nat) (b : Mm) : Option Mm := uX9_tellPaid_b81 b
def uX9_tellPaid_b23 (o0 : Nat) (v1 : Int) (M : Mm) : Option Mm :=
  bd (lp (uX9_tellPaid_f23 o0) fu (v1, M)) (uX9_tellPaid_c23 o0)
def uX9_tellPaid_b21 (o0 : Nat) (M : Mm) : Option Mm :=
  uX9_tellPaid_b23 o0 0 M
def uX9_tellPaid_s2 (o0 : Nat) (v1 : Int) (M : Mm) : Option ((Int × Mm) ⊕ (Mm)) :=
  if 40 ≤ v1 then
    some (.inr M)
  else
    bd (gR M 9 o0 8) (fun on16 =>
    bd (sI 12 M on16 v1 (-1)) (fun M17 =>
    some (.inl (w32 (v1 + 1), M17))))
def uX9_tellPaid_f2 (o0 : Nat) (x : Int × Mm) : Option ((Int × Mm) ⊕ (Mm)) := uX9_tellPaid_s2 o0 x.1 x.2
def uX9_tellPaid_c2 (o0 : Nat) (b : Mm) : Option Mm := uX9_tellPaid_b21 o0 b
def uX9_tellPaid_b2 (o0 : Nat) (v1 : Int) (M : Mm) : Option Mm :=
  bd (lp (uX9_tellPaid_f2 o0) fu (v1, M)) (uX9_tellPaid_c2 o0)
def uX9_tellPaid (o0 : Nat) (M0 : Mm) : Option Mm :=
  uX9_tellPaid_b2 o0 0 M0

def uX9_paid (o0 : Nat) (v1 : Int) (M0 : Mm) : Option Int :=
  if v1 < 0 then
    some (-1)
  else
    if 40 ≤ v1 then
      some (-1)
    else
      bd (gR M0 9 o0 8) (fun on3 =>
      bd (aI 12 M0 on3 v1) (fun x4 =>
      some x4))

def uX9_strokes (o0 : Nat) (M0 : Mm) : Option Int :=
  bd (gR M0 9 o0 4) (fun on1 =>
  bd (gR M0 8 on1 1) (fun on2 =>
  bd (gI M0 1 on2 1) (fun x3 =>
  some x3)))

def uX9_could (o0 : Nat) (v1 : Int) (v2 : Int) (M0 : Mm) : Option Int :=
  if v1 < 0 then
    some (-1)
  else
    bd (gR M0 9 o0 9) (fun on2 =>
    bd (gI M0 4 on2 0) (fun x3 =>
    if x3 ≤ v1 then
      some (-1)
    else
      if v1 < 9 then
        if v2 = 0 then
          bd (gR M0 9 o0 9) (fun on7 =>
          bd (gR M0 4 on7 1) (fun on8 =>
          bd (aI 12 M0 on8 v1) (fun x9 =>
          some x9)))
        else
          if v2 = 1 then
            bd (gR M0 9 o0 9) (fun on11 =>
            bd (gR M0 4 on11 2) (fun on12 =>
            bd (aI 12 M0 on12 v1) (fun x13 =>
            some x13)))
          else
            some (-1)
      else
        some (-1)))

def uX9_nextSeed (v0 : Int) (M0 : Mm) : Option Int :=
  some (w32 ((w32 (v0 * 1103515245)) + 12345))

def uX9_drawn (v0 : Int) (v1 : Int) (M0 : Mm) : Option Int :=
  if v1 ≤ 0 then
    some 0
  else
    bd (rem32 (ushr32 v0 8) v1) (fun x2 =>
    some x2)

def uX9_count (o0 : Nat) (v1 : Int) (M0 : Mm) : Option Int :=
  if v1 = 0 then
    bd (gR M0 9 o0 4) (fun on2 =>
    bd (gR M0 8 on2 0) (fun on3 =>
    bd (gI M0 3 on3 1) (fun x4 =>
    some x4)))
  else
    if v1 = 1 then
      bd (gR M0 9 o0 4) (fun on6 =>
      bd (gR M0 8 on6 0) (fun on7 =>
      bd (gI M0 3 on7 2) (fun x8 =>
      some x8)))
    else
      if v1 = 2 then
        bd (gR M0 9 o0 4) (fun on10 =>
        bd (gR M0 8 on10 0) (fun on11 =>
        bd (gI M0 3 on11 3) (fun x12 =>
        some x12)))
      else
        if v1 = 3 then
          bd (gR M0 9 o0 4) (fun on14 =>
          bd (gR M0 8 on14 0) (fun on15 =>
          bd (gR M0 3 on15 11) (fun on16 =>
          bd (aI 12 M0 on16 0) (fun x17 =>
          some x17))))
        else
          if v1 = 4 then
            bd (gR M0 9 o0 4) (fun on19 =>
            bd (gR M0 8 on19 0) (fun on20 =>
            bd (gR M0 3 on20 11) (fun on21 =>
            bd (aI 12 M0 on21 1) (fun x22 =>
            some x22))))
          else
            if v1 = 5 then
              bd (gR M0 9 o0 4) (fun on24 =>
              bd (gR M0 8 on24 0) (fun on25 =>
              bd (gR M0 3 on25 11) (fun on26 =>
              bd (aI 12 M0 on26 2) (fun x27 =>
              some x27))))
            else
              if v1 = 6 then
                bd (gR M0 9 o0 4) (fun on29 =>
                bd (gR M0 8 on29 0) (fun on30 =>
                bd (gR M0 3 on30 11) (fun on31 =>
                bd (aI 12 M0 on31 3) (fun x32 =>
                some x32))))
              else
                if v1 = 7 then
                  bd (gR M0 9 o0 4) (fun on34 =>
                  bd (gR M0 8 on34 1) (fun on35 =>
                  bd (gI M0 1 on35 0) (fun x36 =>
                  some x36)))
                else
                  if v1 = 8 then
                    bd (gR M0 9 o0 4) (fun on38 =>
                    bd (gR M0 8 on38 1) (fun on39 =>
                    bd (gI M0 1 on39 3) (fun x40 =>
                    some x40)))
                  else
                    if v1 = 9 then
                      bd (gR M0 9 o0 4) (fun on42 =>
                      bd (gR M0 8 on42 1) (fun on43 =>
                      bd (gI M0 1 on43 6) (fun x44 =>
                      some x44)))
                    else
                      if v1 = 10 then
                        bd (gR M0 9 o0 4) (fun on46 =>
                        bd (gR M0 8 on46 1) (fun on47 =>
                        bd (gI M0 1 on47 7) (fun x48 =>
                        some x48)))
                      else
                        if v1 = 11 then
                          bd (gR M0 9 o0 0) (fun on50 =>
                          bd (gI M0 7 on50 1) (fun x51 =>
                          some x51))
                        else
                          some (-1)

def uX10_init (o0 : Nat) (M0 : Mm) : Option Mm :=
  bd (pR (nC M0 12 740) 10 o0 1 M0.1.1) (fun M1 =>
  bd (pR (nC M1 12 8140) 10 o0 14 M1.1.1) (fun M2 =>
  bd (pR (nC M2 12 108) 10 o0 15 M2.1.1) (fun M3 =>
  bd (pR (nC M3 12 16280) 10 o0 16 M3.1.1) (fun M4 =>
  bd (pR (nC M4 12 47400) 10 o0 17 M4.1.1) (fun M5 =>
  bd (pR (nC M5 13 12) 10 o0 18 M5.1.1) (fun M6 =>
  bd (pR (nC M6 13 12) 10 o0 19 M6.1.1) (fun M7 =>
  bd (pR (nC M7 13 24) 10 o0 20 M7.1.1) (fun M8 =>
  bd (pR (nC M8 14 2) 10 o0 21 M8.1.1) (fun M9 =>
  bd (pR (nC M9 12 40) 10 o0 25 M9.1.1) (fun M10 =>
  bd (pR (nC M10 12 12) 10 o0 26 M10.1.1) (fun M11 =>
  bd (pR (nC M11 12 72) 10 o0 27 M11.1.1) (fun M12 =>
  bd (pR (nC M12 12 26013) 10 o0 28 M12.1.1) (fun M13 =>
  bd (pR (nC M13 12 40) 10 o0 29 M13.1.1) (fun M14 =>
  bd (pR (nC M14 12 12) 10 o0 30 M14.1.1) (fun M15 =>
  bd (pI M15 10 o0 32 (-1)) (fun M16 =>
  bd (pR (nC M16 12 9) 10 o0 33 M16.1.1) (fun M17 =>
  bd (pR (nC M17 12 9) 10 o0 34 M17.1.1) (fun M18 =>
  bd (pR (nC M18 12 9) 10 o0 35 M18.1.1) (fun M19 =>
  bd (pR (nC M19 12 9) 10 o0 36 M19.1.1) (fun M20 =>
  bd (pR (nC M20 12 9) 10 o0 37 M20.1.1) (fun M21 =>
  bd (pR (nC M21 12 9) 10 o0 38 M21.1.1) (fun M22 =>
  bd (pR (nC M22 12 240) 10 o0 42 M22.1.1) (fun M23 =>
  some M23)))))))))))))))))))))))

def uX10_thrown (o0 : Nat) (M0 : Mm) : Option Int :=
  bd (gI M0 10 o0 0) (fun x1 =>
  some x1)

def uX10_refuse (o0 : Nat) (M0 : Mm) : Option (Int × Mm) :=
  bd (pI M0 10 o0 0 1) (fun M1 =>
  some (0, M1))

def uX10_come_b39  (M : Mm) : Option Mm :=
  some M
def uX10_come_s3 (o0 : Nat) (v1 : Int) (v2 : Int) (M : Mm) : Option ((Int × Mm) ⊕ (Mm)) :=
  if v2 < 0 then
    some (.inr M)
  else
    bd (gR M 10 o0 1) (fun on2 =>
    bd (gI M 10 o0 2) (fun x3 =>
    bd (sI 12 M on2 x3 (and32 (ushr32 v1 v2) 255)) (fun M4 =>
    bd (gI M4 10 o0 2) (fun x5 =>
    bd (pI M4 10 o0 2 (w32 (x5 + 1))) (fun M6 =>
    some (.inl (w32 (v2 + (-8)), M6)))))))
def uX10_come_f3 (o0 : Nat) (v1 : Int) (x : Int × Mm) : Option ((Int × Mm) ⊕ (Mm)) := uX10_come_s3 o0 v1 x.1 x.2
def uX10_come_c3 (o0 : Nat) (v1 : Int) (b : Mm) : Option Mm := uX10_come_b39 b
def uX10_come_b3 (o0 : Nat) (v1 : Int) (v2 : Int) (M : Mm) : Option Mm :=
  bd (lp (uX10_come_f3 o0 v1) fu (v2, M)) (uX10_come_c3 o0 v1)
def uX10_come (o0 : Nat) (v1 : Int) (M0 : Mm) : Option Mm :=
  uX10_come_b3 o0 v1 24 M0

def uX10_end (o0 : Nat) (v1 : Int) (M0 : Mm) : Option (Int × Mm) :=
  bd (pI M0 10 o0 0 0) (fun M1 =>
  if v1 < 0 then
    some (0, M1)
  else
    bd (gI M1 10 o0 2) (fun x3 =>
    if v1 ≤ x3 then
      bd (pI M1 10 o0 2 v1) (fun M5 =>
      some (1, M5))
    else
      some (0, M1)))

def uX10_take (o0 : Nat) (M0 : Mm) : Option (Int × Mm) :=
  bd (gI M0 10 o0 2) (fun x1 =>
  bd (pI M0 10 o0 2 0) (fun M2 =>
  some (x1, M2)))

def uX10_isIn (v0 : Int) (v1 : Int) (v2 : Int) (M0 : Mm) : Option Int :=
  if v0 < v1 then
    some 0
  else
    if v2 < v0 then
      some 0
    else
      some 1

def uX10_has (v0 : Int) (v1 : Int) (M0 : Mm) : Option Int :=
  if (and32 (shr32 v0 v1) 1) = 1 then
    some 1
  else
    some 0

def uX10_byteAt (o0 : Nat) (v1 : Int) (M0 : Mm) : Option Int :=
  bd (gI M0 10 o0 3) (fun x1 =>
  if x1 ≤ v1 then
    some 0
  else
    bd (gR M0 10 o0 1) (fun on3 =>
    bd (aI 12 M0 on3 v1) (fun x4 =>
    some x4)))

def uX10_isDigit (v0 : Int) (M0 : Mm) : Option Int :=
  if v0 < 48 then
    some 0
  else
    if 57 < v0 then
      some 0
    else
      some 1

def uX10_isLetter (v0 : Int) (M0 : Mm) : Option Int :=
  if v0 < 97 then
    some 0
  else
    if 122 < v0 then
      some 0
    else
      some 1

def uX10_spelt_b38 (v3 : Int) (v4 : Int) (M0 : Mm) : Option Int :=
  if v3 ≤ 0 then
    some v4
  else
    some (w64 ((w64 ((w64 (27 * v4)) + v3)) - 96))
def uX10_spelt (v0 : Int) (v1 : Int) (v2 : Int) (v3 : Int) (M0 : Mm) : Option Int :=
  if v2 ≤ 0 then
    uX10_spelt_b38 v3 (w64 ((w64 ((w64 (27 * (w64 (v0 - 96)))) + v1)) - 96)) M0
  else
    uX10_spelt_b38 v3 (w64 ((w64 ((w64 (27 * (w64 ((w64 ((w64 (27 * (w64 (v0 - 96)))) + v1)) - 96)))) + v2)) - 96)) M0

def uX10_on (v0 : Int) (v2 : Int) (v3 : Int) (M0 : Mm) : Option Int :=
  if v3 ≤ 0 then
    some (w64 ((w64 ((w64 (27 * v0)) + v2)) - 96))
  else
    some (w64 ((w64 ((w64 (27 * (w64 ((w64 ((w64 (27 * v0)) + v2)) - 96)))) + v3)) - 96))

def uX10_isSign (o0 : Nat) (v1 : Int) (M0 : Mm) : Option Int :=
  bd (gI M0 10 o0 7) (fun x1 =>
  if x1 = 4 then
    bd (gI M0 10 o0 9) (fun x3 =>
    if x3 = v1 then
      some 1
    else
      some 0)
  else
    some 0)

def uX10_bad_b14 (o0 : Nat) (os0 : Nat) (vs1 : Int) (M : Mm) : Option (Int × Mm) :=
  bd (pI M 10 os0 10 vs1) (fun M1 =>
  bd (gI M1 10 o0 6) (fun x2 =>
  bd (pI M1 10 o0 11 x2) (fun M3 =>
  some (0, M3))))
def uX10_bad (o0 : Nat) (v1 : Int) (M0 : Mm) : Option (Int × Mm) :=
  bd (gI M0 10 o0 7) (fun x4 =>
  if x4 = 1 then
    uX10_bad_b14 o0 o0 1 M0
  else
    uX10_bad_b14 o0 o0 v1 M0)

def uX10_plain (o0 : Nat) (o1 : Nat) (M0 : Mm) : Option Mm :=
  bd (sI 12 M0 o1 4 50) (fun M1 =>
  bd (sI 12 M1 o1 5 50) (fun M2 =>
  bd (sI 12 M2 o1 6 5) (fun M3 =>
  some M3)))

def uX10_people (o0 : Nat) (M0 : Mm) : Option Int :=
  bd (gR M0 10 o0 14) (fun on1 =>
  bd (aI 12 M0 on1 0) (fun x2 =>
  some x2))

def uX10_mints (o0 : Nat) (M0 : Mm) : Option Int :=
  bd (gR M0 10 o0 14) (fun on1 =>
  bd (aI 12 M0 on1 1) (fun x2 =>
  some x2))

def uX10_coins (o0 : Nat) (M0 : Mm) : Option Int :=
  bd (gR M0 10 o0 14) (fun on1 =>
  bd (aI 12 M0 on1 108) (fun x2 =>
  some x2))

def uX10_ofWho (o0 : Nat) (v1 : Int) (v2 : Int) (M0 : Mm) : Option Int :=
  bd (gR M0 10 o0 14) (fun on1 =>
  bd (aI 12 M0 on1 (w32 ((w32 (8 + (w32 (3 * v1)))) + v2))) (fun x2 =>
  some x2))

def uX10_ofMint (o0 : Nat) (v1 : Int) (v2 : Int) (M0 : Mm) : Option Int :=
  bd (gR M0 10 o0 14) (fun on1 =>
  bd (aI 12 M0 on1 (w32 ((w32 (32 + (w32 (3 * v1)))) + v2))) (fun x2 =>
  some x2))

def uX10_ofCoin (o0 : Nat) (v1 : Int) (v2 : Int) (M0 : Mm) : Option Int :=
  bd (gR M0 10 o0 14) (fun on1 =>
  bd (aI 12 M0 on1 (w32 ((w32 (120 + (w32 (32 * v1)))) + v2))) (fun x2 =>
  some x2))

def uX10_findIn_b32  (M0 : Mm) : Option Int :=
  some (-1)
def uX10_findIn_s3 (o0 : Nat) (o1 : Nat) (v2 : Int) (v3 : Int) (M0 : Mm) (v4 : Int) : Option ((Int) ⊕ ((Unit) ⊕ Int)) :=
  if v3 ≤ v4 then
    some (.inr (.inl ()))
  else
    bd (aJ M0 o1 (w32 (v2 + v4))) (fun x2 =>
    bd (gJ M0 10 o0 12) (fun x3 =>
    if x2 = x3 then
      some (.inr (.inr v4))
    else
      some (.inl (w32 (v4 + 1)))))
def uX10_findIn_f3 (o0 : Nat) (o1 : Nat) (v2 : Int) (v3 : Int) (M0 : Mm) (x : Int) : Option ((Int) ⊕ ((Unit) ⊕ Int)) := uX10_findIn_s3 o0 o1 v2 v3 M0 x
def uX10_findIn_c3 (o0 : Nat) (o1 : Nat) (v2 : Int) (v3 : Int) (M0 : Mm) (b : (Unit) ⊕ Int) : Option Int := Sum.elim (fun b => uX10_findIn_b32 M0) (fun t => some t) b
def uX10_findIn_b3 (o0 : Nat) (o1 : Nat) (v2 : Int) (v3 : Int) (v4 : Int) (M0 : Mm) : Option Int :=
  bd (lp (uX10_findIn_f3 o0 o1 v2 v3 M0) fu v4) (uX10_findIn_c3 o0 o1 v2 v3 M0)
def uX10_findIn (o0 : Nat) (o1 : Nat) (v2 : Int) (v3 : Int) (M0 : Mm) : Option Int :=
  uX10_findIn_b3 o0 o1 v2 v3 0 M0

def uX10_fault (o0 : Nat) (M0 : Mm) : Option (Int × Mm) :=
  bd (pI M0 10 o0 0 0) (fun M1 =>
  bd (gI M1 10 o0 10) (fun x2 =>
  some (x2, M1)))

def uX10_snap_b87 (o0 : Nat) (M : Mm) : Option Mm :=
  bd (gI M 10 o0 23) (fun x1 =>
  bd (pI M 10 o0 23 (w32 (x1 + 1))) (fun M2 =>
  some M2))
def uX10_snap_s53 (o0 : Nat) (v1 : Int) (M : Mm) : Option ((Int × Mm) ⊕ (Mm)) :=
  if 7900 ≤ v1 then
    some (.inr M)
  else
    bd (gR M 10 o0 17) (fun on4 =>
    bd (gI M 10 o0 23) (fun x5 =>
    bd (gR M 10 o0 14) (fun on6 =>
    bd (aI 12 M on6 v1) (fun x7 =>
    bd (sI 12 M on4 (w32 ((w32 (7900 * x5)) + v1)) x7) (fun M8 =>
    some (.inl (w32 (v1 + 1), M8)))))))
def uX10_snap_f53 (o0 : Nat) (x : Int × Mm) : Option ((Int × Mm) ⊕ (Mm)) := uX10_snap_s53 o0 x.1 x.2
def uX10_snap_c53 (o0 : Nat) (b : Mm) : Option Mm := uX10_snap_b87 o0 b
def uX10_snap_b53 (o0 : Nat) (v1 : Int) (M : Mm) : Option Mm :=
  bd (lp (uX10_snap_f53 o0) fu (v1, M)) (uX10_snap_c53 o0)
def uX10_snap_b51 (o0 : Nat) (M : Mm) : Option Mm :=
  uX10_snap_b53 o0 0 M
def uX10_snap_b41 (o0 : Nat) (M : Mm) : Option Mm :=
  bd (gI M 10 o0 23) (fun x9 =>
  bd (pI M 10 o0 23 (w32 (x9 - 1))) (fun M10 =>
  uX10_snap_b51 o0 M10))
def uX10_snap_s13 (o0 : Nat) (v1 : Int) (M : Mm) : Option ((Int × Mm) ⊕ (Mm)) :=
  if 47400 ≤ v1 then
    some (.inr M)
  else
    bd (gR M 10 o0 17) (fun on12 =>
    bd (gR M 10 o0 17) (fun on13 =>
    bd (aI 12 M on13 v1) (fun x14 =>
    bd (sI 12 M on12 (w32 (v1 - 7900)) x14) (fun M15 =>
    some (.inl (w32 (v1 + 1), M15))))))
def uX10_snap_f13 (o0 : Nat) (x : Int × Mm) : Option ((Int × Mm) ⊕ (Mm)) := uX10_snap_s13 o0 x.1 x.2
def uX10_snap_c13 (o0 : Nat) (b : Mm) : Option Mm := uX10_snap_b41 o0 b
def uX10_snap_b13 (o0 : Nat) (v1 : Int) (M : Mm) : Option Mm :=
  bd (lp (uX10_snap_f13 o0) fu (v1, M)) (uX10_snap_c13 o0)
def uX10_snap (o0 : Nat) (M0 : Mm) : Option Mm :=
  bd (gI M0 10 o0 23) (fun x16 =>
  if x16 = 6 then
    uX10_snap_b13 o0 7900 M0
  else
    uX10_snap_b51 o0 M0)

def uX10_isFull (o0 : Nat) (v1 : Int) (M0 : Mm) : Option Int :=
  bd (gR M0 10 o0 14) (fun on1 =>
  bd (aI 12 M0 on1 112) (fun x2 =>
  if (w32 (x2 + v1)) ≤ 500 then
    some 0
  else
    some 1))

def uX10_keepSale (o0 : Nat) (v1 : Int) (v2 : Int) (v3 : Int) (v4 : Int) (v5 : Int) (v6 : Int) (M0 : Mm) : Option Mm :=
  bd (gR M0 10 o0 14) (fun on1 =>
  bd (aI 12 M0 on1 113) (fun x2 =>
  bd (gR M0 10 o0 14) (fun on3 =>
  bd (sI 12 M0 on3 (w32 (4400 + (w32 (7 * x2)))) v1) (fun M4 =>
  bd (gR M4 10 o0 14) (fun on5 =>
  bd (sI 12 M4 on5 (w32 ((w32 (4400 + (w32 (7 * x2)))) + 1)) v2) (fun M6 =>
  bd (gR M6 10 o0 14) (fun on7 =>
  bd (sI 12 M6 on7 (w32 ((w32 (4400 + (w32 (7 * x2)))) + 2)) v3) (fun M8 =>
  bd (gR M8 10 o0 14) (fun on9 =>
  bd (sI 12 M8 on9 (w32 ((w32 (4400 + (w32 (7 * x2)))) + 3)) v4) (fun M10 =>
  bd (gR M10 10 o0 14) (fun on11 =>
  bd (gR M10 10 o0 14) (fun on12 =>
  bd (aI 12 M10 on12 109) (fun x13 =>
  bd (sI 12 M10 on11 (w32 ((w32 (4400 + (w32 (7 * x2)))) + 4)) x13) (fun M14 =>
  bd (gR M14 10 o0 14) (fun on15 =>
  bd (sI 12 M14 on15 (w32 ((w32 (4400 + (w32 (7 * x2)))) + 5)) v5) (fun M16 =>
  bd (gR M16 10 o0 14) (fun on17 =>
  bd (sI 12 M16 on17 (w32 ((w32 (4400 + (w32 (7 * x2)))) + 6)) v6) (fun M18 =>
  bd (gR M18 10 o0 14) (fun on19 =>
  bd (aI 12 M18 on19 113) (fun x20 =>
  bd (sI 12 M18 on19 113 (w32 (x20 + 1))) (fun M21 =>
  some M21)))))))))))))))))))))

def uX10_sales (o0 : Nat) (M0 : Mm) : Option (Int × Mm) :=
  bd (pI M0 10 o0 0 0) (fun M1 =>
  bd (gR M1 10 o0 14) (fun on2 =>
  bd (aI 12 M1 on2 113) (fun x3 =>
  some (x3, M1))))

def uX10_tellPaid_b62  (M : Mm) : Option Mm :=
  some M
def uX10_tellPaid_s31 (o0 : Nat) (v1 : Int) (M : Mm) : Option ((Int × Mm) ⊕ (Mm)) :=
  bd (gI M 10 o0 31) (fun x1 =>
  if x1 ≤ v1 then
    some (.inr M)
  else
    bd (gR M 10 o0 29) (fun on3 =>
    bd (gR M 10 o0 26) (fun on4 =>
    bd (aI 12 M on4 v1) (fun x5 =>
    bd (gR M 10 o0 30) (fun on6 =>
    bd (aI 12 M on6 v1) (fun x7 =>
    bd (sI 12 M on3 x5 x7) (fun M8 =>
    some (.inl (w32 (v1 + 1), M8)))))))))
def uX10_tellPaid_f31 (o0 : Nat) (x : Int × Mm) : Option ((Int × Mm) ⊕ (Mm)) := uX10_tellPaid_s31 o0 x.1 x.2
def uX10_tellPaid_c31 (o0 : Nat) (b : Mm) : Option Mm := uX10_tellPaid_b62 b
def uX10_tellPaid_b31 (o0 : Nat) (v1 : Int) (M : Mm) : Option Mm :=
  bd (lp (uX10_tellPaid_f31 o0) fu (v1, M)) (uX10_tellPaid_c31 o0)
def uX10_tellPaid_b29 (o0 : Nat) (M : Mm) : Option Mm :=
  uX10_tellPaid_b31 o0 0 M
def uX10_tellPaid_s10 (o0 : Nat) (v1 : Int) (M : Mm) : Option ((Int × Mm) ⊕ (Mm)) :=
  if 40 ≤ v1 then
    some (.inr M)
  else
    bd (gR M 10 o0 29) (fun on10 =>
    bd (sI 12 M on10 v1 (-1)) (fun M11 =>
    some (.inl (w32 (v1 + 1), M11))))
def uX10_tellPaid_f10 (o0 : Nat) (x : Int × Mm) : Option ((Int × Mm) ⊕ (Mm)) := uX10_tellPaid_s10 o0 x.1 x.2
def uX10_tellPaid_c10 (o0 : Nat) (b : Mm) : Option Mm := uX10_tellPaid_b29 o0 b
def uX10_tellPaid_b10 (o0 : Nat) (v1 : Int) (M : Mm) : Option Mm :=
  bd (lp (uX10_tellPaid_f10 o0) fu (v1, M)) (uX10_tellPaid_c10 o0)
def uX10_tellPaid (o0 : Nat) (M0 : Mm) : Option Mm :=
  bd (gI M0 10 o0 31) (fun x12 =>
  bd (pI M0 10 o0 32 x12) (fun M13 =>
  uX10_tellPaid_b10 o0 0 M13))

def uX10_strokesToPay_b41 (v1 : Int) (M0 : Mm) : Option Int :=
  some v1
def uX10_strokesToPay_b33 (o0 : Nat) (v2 : Int) (vs0 : Int) (vs1 : Int) (M0 : Mm) : Option ((Int × Int) ⊕ (Int)) :=
  some (.inl (w32 (vs0 + vs1), w32 (v2 + 1)))
def uX10_strokesToPay_s4 (o0 : Nat) (M0 : Mm) (v1 : Int) (v2 : Int) : Option ((Int × Int) ⊕ (Int)) :=
  bd (gI M0 10 o0 31) (fun x1 =>
  if x1 ≤ v2 then
    some (.inr v1)
  else
    bd (gR M0 10 o0 30) (fun on3 =>
    bd (aI 12 M0 on3 v2) (fun x4 =>
    if x4 ≤ 1 then
      bd (gR M0 10 o0 30) (fun on6 =>
      bd (aI 12 M0 on6 v2) (fun x7 =>
      uX10_strokesToPay_b33 o0 v2 v1 x7 M0))
    else
      uX10_strokesToPay_b33 o0 v2 v1 2 M0)))
def uX10_strokesToPay_f4 (o0 : Nat) (M0 : Mm) (x : Int × Int) : Option ((Int × Int) ⊕ (Int)) := uX10_strokesToPay_s4 o0 M0 x.1 x.2
def uX10_strokesToPay_c4 (o0 : Nat) (M0 : Mm) (b : Int) : Option Int := uX10_strokesToPay_b41 b M0
def uX10_strokesToPay_b4 (o0 : Nat) (v1 : Int) (v2 : Int) (M0 : Mm) : Option Int :=
  bd (lp (uX10_strokesToPay_f4 o0 M0) fu (v1, v2)) (uX10_strokesToPay_c4 o0 M0)
def uX10_strokesToPay (o0 : Nat) (M0 : Mm) : Option Int :=
  uX10_strokesToPay_b4 o0 0 0 M0

def uX10_giveBack (o0 : Nat) (M0 : Mm) : Option Mm :=
  bd (gR M0 10 o0 14) (fun on1 =>
  bd (sI 12 M0 on1 110 (-1)) (fun M2 =>
  bd (gR M2 10 o0 14) (fun on3 =>
  bd (sI 12 M2 on3 111 (-1)) (fun M4 =>
  some M4))))

def uX10_strokes (o0 : Nat) (M0 : Mm) : Option (Int × Mm) :=
  bd (pI M0 10 o0 0 0) (fun M1 =>
  bd (gR M1 10 o0 14) (fun on2 =>
  bd (aI 12 M1 on2 112) (fun x3 =>
  some (x3, M1))))

def uX10_draw (o0 : Nat) (v1 : Int) (M0 : Mm) : Option (Int × Mm) :=
  bd (gI M0 10 o0 41) (fun x1 =>
  bd (pI M0 10 o0 41 (w32 ((w32 (x1 * 1103515245)) + 12345))) (fun M2 =>
  bd (gI M2 10 o0 41) (fun x3 =>
  bd (rem32 (ushr32 x3 8) v1) (fun x4 =>
  some (x4, M2)))))

def uX10_undo_b76 (o0 : Nat) (v1 : Int) (v2 : Int) (M : Mm) : Option (Int × Mm) :=
  bd (gR M 10 o0 14) (fun on1 =>
  bd (sI 12 M on1 116 v1) (fun M2 =>
  bd (gR M2 10 o0 14) (fun on3 =>
  bd (sI 12 M2 on3 117 v2) (fun M4 =>
  bd (gI M4 10 o0 23) (fun x5 =>
  some (x5, M4))))))
def uX10_undo_s42 (o0 : Nat) (v1 : Int) (v2 : Int) (v3 : Int) (M : Mm) : Option ((Int × Mm) ⊕ (Mm)) :=
  if 7900 ≤ v3 then
    some (.inr M)
  else
    bd (gR M 10 o0 14) (fun on7 =>
    bd (gR M 10 o0 17) (fun on8 =>
    bd (gI M 10 o0 23) (fun x9 =>
    bd (aI 12 M on8 (w32 ((w32 (7900 * x9)) + v3))) (fun x10 =>
    bd (sI 12 M on7 v3 x10) (fun M11 =>
    some (.inl (w32 (v3 + 1), M11)))))))
def uX10_undo_f42 (o0 : Nat) (v1 : Int) (v2 : Int) (x : Int × Mm) : Option ((Int × Mm) ⊕ (Mm)) := uX10_undo_s42 o0 v1 v2 x.1 x.2
def uX10_undo_c42 (o0 : Nat) (v1 : Int) (v2 : Int) (b : Mm) : Option (Int × Mm) := uX10_undo_b76 o0 v1 v2 b
def uX10_undo_b42 (o0 : Nat) (v1 : Int) (v2 : Int) (v3 : Int) (M : Mm) : Option (Int × Mm) :=
  bd (lp (uX10_undo_f42 o0 v1 v2) fu (v3, M)) (uX10_undo_c42 o0 v1 v2)
def uX10_undo (o0 : Nat) (M0 : Mm) : Option (Int × Mm) :=
  bd (pI M0 10 o0 0 0) (fun M12 =>
  bd (gI M12 10 o0 23) (fun x13 =>
  if x13 = 0 then
    some ((-1), M12)
  else
    bd (gI M12 10 o0 23) (fun x15 =>
    bd (pI M12 10 o0 23 (w32 (x15 - 1))) (fun M16 =>
    bd (gR M16 10 o0 14) (fun on17 =>
    bd (aI 12 M16 on17 116) (fun x18 =>
    bd (gR M16 10 o0 14) (fun on19 =>
    bd (aI 12 M16 on19 117) (fun x20 =>
    uX10_undo_b42 o0 x18 x20 0 M16))))))))

def uX10_lays (o0 : Nat) (v1 : Int) (v2 : Int) (v3 : Int) (v4 : Int) (M0 : Mm) : Option (Int × Mm) :=
  bd (gI M0 10 o0 43) (fun x1 =>
  bd (gR M0 10 o0 42) (fun on2 =>
  bd (sI 12 M0 on2 (w32 (4 * x1)) v1) (fun M3 =>
  bd (gR M3 10 o0 42) (fun on4 =>
  bd (sI 12 M3 on4 (w32 ((w32 (4 * x1)) + 1)) v2) (fun M5 =>
  bd (gR M5 10 o0 42) (fun on6 =>
  bd (sI 12 M5 on6 (w32 ((w32 (4 * x1)) + 2)) v3) (fun M7 =>
  bd (gR M7 10 o0 42) (fun on8 =>
  bd (sI 12 M7 on8 (w32 ((w32 (4 * x1)) + 3)) v4) (fun M9 =>
  bd (gI M9 10 o0 43) (fun x10 =>
  bd (pI M9 10 o0 43 (w32 (x10 + 1))) (fun M11 =>
  bd (gI M11 10 o0 43) (fun x12 =>
  some (w32 (x12 - 1), M11)))))))))))))

def uX0_canMakeUp_o (rc : Nat → Int → Int → Int → Int → Mm → Option (Int)) (o0 : Nat) (v1 : Int) (v2 : Int) (v3 : Int) (v4 : Int) (M0 : Mm) : Option Int :=
  if 0 < v3 then
    bd (gI M0 0 o0 4) (fun x2 =>
    if x2 < (w32 (v1 + v3)) then
      some 0
    else
      if 12 ≤ v1 then
        some 0
      else
        if v2 ≤ 0 then
          some 0
        else
          bd (gR M0 0 o0 8) (fun on6 =>
          bd (aI 12 M0 on6 v1) (fun x7 =>
          if v4 ≤ x7 then
            bd (gR M0 0 o0 6) (fun on9 =>
            bd (aI 12 M0 on9 v1) (fun x10 =>
            bd (gR M0 0 o0 7) (fun on11 =>
            bd (aI 12 M0 on11 v1) (fun x12 =>
            gK M0 0 o0 (
            bd (rc o0 (w32 (v1 + 1)) (w32 (v2 - x10)) (w32 (v3 - 1)) (w32 (v4 - x12)) M0) (fun r14 =>
            if r14 = 0 then
              gK M0 0 o0 (
              bd (rc o0 (w32 (v1 + 1)) v2 v3 v4 M0) (fun r17 =>
              if r17 = 0 then
                some 0
              else
                some 1))
            else
              some 1))))))
          else
            some 0)))
  else
    if v3 = 0 then
      if v2 = 0 then
        if 0 < v4 then
          some 0
        else
          some 1
      else
        some 0
    else
      some 0

def uX0_canMakeUp : Nat → Nat → Int → Int → Int → Int → Mm → Option (Int)
  | 0 => fun _ _ _ _ _ _ => none
  | n + 1 => uX0_canMakeUp_o (uX0_canMakeUp n)

def uX0_lookAt_b74  (M : Mm) : Option Mm :=
  some M
def uX0_lookAt_s7 (o0 : Nat) (o1 : Nat) (v2 : Int) (v3 : Int) (M : Mm) : Option ((Int × Mm) ⊕ (Mm)) :=
  bd (gR M 8 o1 1) (fun on1 =>
  bd (gI M 1 on1 0) (fun x2 =>
  if x2 ≤ v3 then
    some (.inr M)
  else
    bd (gI M 0 o0 0) (fun x4 =>
    if 12 ≤ x4 then
      some (.inr M)
    else
      gK M 8 o1 (
      bd (uX8_isCoin o1 v3 M) (fun r7 =>
      if r7 = 0 then
        some (.inl (w32 (v3 + 1), M))
      else
        bd (gR M 8 o1 1) (fun on9 =>
        bd (gR M 1 on9 10) (fun on10 =>
        bd (aI 12 M on10 v3) (fun x11 =>
        if x11 = v2 then
          bd (gR M 0 o0 1) (fun on13 =>
          bd (gI M 0 o0 0) (fun x14 =>
          bd (sI 12 M on13 x14 v3) (fun M15 =>
          bd (gI M15 0 o0 0) (fun x16 =>
          bd (pI M15 0 o0 0 (w32 (x16 + 1))) (fun M17 =>
          some (.inl (w32 (v3 + 1), M17)))))))
        else
          some (.inl (w32 (v3 + 1), M))))))))))
def uX0_lookAt_f7 (o0 : Nat) (o1 : Nat) (v2 : Int) (x : Int × Mm) : Option ((Int × Mm) ⊕ (Mm)) := uX0_lookAt_s7 o0 o1 v2 x.1 x.2
def uX0_lookAt_c7 (o0 : Nat) (o1 : Nat) (v2 : Int) (b : Mm) : Option Mm := uX0_lookAt_b74 b
def uX0_lookAt_b7 (o0 : Nat) (o1 : Nat) (v2 : Int) (v3 : Int) (M : Mm) : Option Mm :=
  bd (lp (uX0_lookAt_f7 o0 o1 v2) fu (v3, M)) (uX0_lookAt_c7 o0 o1 v2)
def uX0_lookAt (o0 : Nat) (o1 : Nat) (v2 : Int) (M0 : Mm) : Option Mm :=
  bd (pI M0 0 o0 0 0) (fun M18 =>
  uX0_lookAt_b7 o0 o1 v2 0 M18)

def uX0_firstWay_b85  (M0 : Mm) : Option Int :=
  some 0
def uX0_firstWay_s19 (o0 : Nat) (v1 : Int) (v2 : Int) (v3 : Int) (v4 : Int) (M0 : Mm) (v5 : Int) : Option ((Int) ⊕ ((Unit) ⊕ Int)) :=
  if 6 ≤ v5 then
    some (.inr (.inl ()))
  else
    bd (gR M0 0 o0 3) (fun on2 =>
    bd (gR M0 0 o0 5) (fun on3 =>
    bd (aI 12 M0 on3 v1) (fun x4 =>
    bd (aI 12 M0 on2 (w32 ((w32 (x4 * 6)) + v5))) (fun x5 =>
    if x5 ≤ 0 then
      some (.inl (w32 (v5 + 1)))
    else
      bd (gR M0 0 o0 6) (fun on7 =>
      bd (aI 12 M0 on7 v1) (fun x8 =>
      gK M0 0 o0 (
      bd (uX0_canMakeUp 16 o0 (w32 (v1 + 1)) (w32 (v2 - x8)) (w32 (v3 - 1)) (w32 (v4 - x5)) M0) (fun r10 =>
      if r10 = 0 then
        some (.inl (w32 (v5 + 1)))
      else
        some (.inr (.inr v5))))))))))
def uX0_firstWay_f19 (o0 : Nat) (v1 : Int) (v2 : Int) (v3 : Int) (v4 : Int) (M0 : Mm) (x : Int) : Option ((Int) ⊕ ((Unit) ⊕ Int)) := uX0_firstWay_s19 o0 v1 v2 v3 v4 M0 x
def uX0_firstWay_c19 (o0 : Nat) (v1 : Int) (v2 : Int) (v3 : Int) (v4 : Int) (M0 : Mm) (b : (Unit) ⊕ Int) : Option Int := Sum.elim (fun b => uX0_firstWay_b85 M0) (fun t => some t) b
def uX0_firstWay_b19 (o0 : Nat) (v1 : Int) (v2 : Int) (v3 : Int) (v4 : Int) (v5 : Int) (M0 : Mm) : Option Int :=
  bd (lp (uX0_firstWay_f19 o0 v1 v2 v3 v4 M0) fu v5) (uX0_firstWay_c19 o0 v1 v2 v3 v4 M0)
def uX0_firstWay (o0 : Nat) (v1 : Int) (v2 : Int) (v3 : Int) (v4 : Int) (M0 : Mm) : Option Int :=
  gK M0 0 o0 (
  bd (uX0_canMakeUp 16 o0 (w32 (v1 + 1)) v2 v3 v4 M0) (fun r13 =>
  if r13 = 0 then
    uX0_firstWay_b19 o0 v1 v2 v3 v4 1 M0
  else
    some 0))

def uX1_clear (o0 : Nat) (M0 : Mm) : Option Mm :=
  bd (pI M0 1 o0 0 0) (fun M1 =>
  bd (pI M1 1 o0 1 0) (fun M2 =>
  bd (pI M2 1 o0 2 0) (fun M3 =>
  bd (pI M3 1 o0 3 0) (fun M4 =>
  bd (pI M4 1 o0 4 0) (fun M5 =>
  bd (pI M5 1 o0 5 0) (fun M6 =>
  bd (pI M6 1 o0 8 0) (fun M7 =>
  gK M7 1 o0 (
  bd (uX1_bringDieBack o0 M7) (fun M9 =>
  some M9)))))))))

def uX1_strokeAt (o0 : Nat) (v1 : Int) (v2 : Int) (M0 : Mm) : Option Int :=
  gK M0 1 o0 (
  bd (uX1_hasFace o0 v1 v2 M0) (fun r2 =>
  if r2 = 0 then
    some (-1)
  else
    bd (gR M0 1 o0 13) (fun on4 =>
    bd (aI 12 M0 on4 (w32 ((w32 (v1 * 9)) + v2))) (fun x5 =>
    some x5))))

def uX1_depthAt (o0 : Nat) (v1 : Int) (v2 : Int) (M0 : Mm) : Option Int :=
  gK M0 1 o0 (
  bd (uX1_hasFace o0 v1 v2 M0) (fun r2 =>
  if r2 = 0 then
    some (-1)
  else
    bd (gR M0 1 o0 14) (fun on4 =>
    bd (aI 12 M0 on4 (w32 ((w32 (v1 * 9)) + v2))) (fun x5 =>
    some x5))))

def uX1_cover_b116 (o0 : Nat) (v1 : Int) (v2 : Int) (v5 : Int) (v6 : Int) (M : Mm) : Option Mm :=
  bd (gR M 1 o0 13) (fun on1 =>
  bd (sI 12 M on1 v5 v2) (fun M2 =>
  bd (gR M2 1 o0 14) (fun on3 =>
  bd (sI 12 M2 on3 v5 9) (fun M4 =>
  bd (gR M4 1 o0 12) (fun on5 =>
  bd (sI 12 M4 on5 v1 (w32 (v6 + 1))) (fun M6 =>
  some M6))))))
def uX1_cover_s58 (o0 : Nat) (v1 : Int) (v2 : Int) (v4 : Int) (v5 : Int) (v6 : Int) (v7 : Int) (M : Mm) : Option ((Int × Mm) ⊕ (Mm)) :=
  if v7 ≤ 0 then
    some (.inr M)
  else
    bd (gR M 1 o0 13) (fun on8 =>
    bd (gR M 1 o0 13) (fun on9 =>
    bd (aI 12 M on9 (w32 ((w32 (v5 + v7)) - 1))) (fun x10 =>
    bd (sI 12 M on8 (w32 (v5 + v7)) x10) (fun M11 =>
    bd (gR M11 1 o0 14) (fun on12 =>
    bd (gR M11 1 o0 14) (fun on13 =>
    bd (aI 12 M11 on13 (w32 ((w32 (v5 + v7)) - 1))) (fun x14 =>
    bd (sI 12 M11 on12 (w32 (v5 + v7)) (w32 (x14 - v4))) (fun M15 =>
    some (.inl (w32 (v7 + (-1)), M15))))))))))
def uX1_cover_f58 (o0 : Nat) (v1 : Int) (v2 : Int) (v4 : Int) (v5 : Int) (v6 : Int) (x : Int × Mm) : Option ((Int × Mm) ⊕ (Mm)) := uX1_cover_s58 o0 v1 v2 v4 v5 v6 x.1 x.2
def uX1_cover_c58 (o0 : Nat) (v1 : Int) (v2 : Int) (v4 : Int) (v5 : Int) (v6 : Int) (b : Mm) : Option Mm := uX1_cover_b116 o0 v1 v2 v5 v6 b
def uX1_cover_b58 (o0 : Nat) (v1 : Int) (v2 : Int) (v4 : Int) (v5 : Int) (v6 : Int) (v7 : Int) (M : Mm) : Option Mm :=
  bd (lp (uX1_cover_f58 o0 v1 v2 v4 v5 v6) fu (v7, M)) (uX1_cover_c58 o0 v1 v2 v4 v5 v6)
def uX1_cover (o0 : Nat) (v1 : Int) (v2 : Int) (v3 : Int) (v4 : Int) (M0 : Mm) : Option Mm :=
  if v1 < 0 then
    some M0
  else
    bd (gI M0 1 o0 0) (fun x17 =>
    if x17 ≤ v1 then
      some M0
    else
      if v1 < 40 then
        bd (gR M0 1 o0 9) (fun on20 =>
        bd (aI 12 M0 on20 v1) (fun x21 =>
        bd (sI 12 M0 on20 v1 (w32 (x21 - v3))) (fun M22 =>
        bd (gR M22 1 o0 11) (fun on23 =>
        bd (aI 12 M22 on23 v1) (fun x24 =>
        bd (sI 12 M22 on23 v1 (w32 (x24 + 1))) (fun M25 =>
        gK M25 1 o0 (
        bd (uX1_facesLeft o0 v1 v4 M25) (fun r27 =>
        uX1_cover_b58 o0 v1 v2 v4 (w32 (v1 * 9)) r27 r27 M25))))))))
      else
        some M0)

def uX2_takeBack (o0 : Nat) (o1 : Nat) (M0 : Mm) : Option (Int × Mm) :=
  bd (gI M0 2 o0 2) (fun x1 =>
  if 1 ≤ x1 then
    bd (gI M0 2 o0 2) (fun x3 =>
    bd (pI M0 2 o0 2 (w32 (x3 - 1))) (fun M4 =>
    bd (gI M4 2 o0 1) (fun x5 =>
    bd (gI M4 2 o0 2) (fun x6 =>
    bd (rem32 (w32 (x5 + x6)) 6) (fun x7 =>
    bd (gR M4 2 o0 0) (fun on8 =>
    bd (aR 15 M4 on8 x7) (fun qn9 =>
    if qn9 = none then
      bd (gI M4 2 o0 2) (fun x11 =>
      some (x11, M4))
    else
      bd (gR M4 2 o0 0) (fun on12 =>
      bd (aR 15 M4 on12 x7) (fun qn13 =>
      bd qn13 (fun on14 =>
      gK M4 1 o1 (
      bd (uX1_copyFrom o1 on14 M4) (fun M16 =>
      bd (gI M16 2 o0 2) (fun x17 =>
      some (x17, M16))))))))))))))
  else
    some ((-1), M0))

def uX3_init (o0 : Nat) (M0 : Mm) : Option Mm :=
  bd (pR (nC M0 12 8) 3 o0 4 M0.1.1) (fun M1 =>
  bd (pR (nC M1 12 8) 3 o0 5 M1.1.1) (fun M2 =>
  bd (pR (nC M2 12 8) 3 o0 6 M2.1.1) (fun M3 =>
  bd (pR (nC M3 12 4) 3 o0 7 M3.1.1) (fun M4 =>
  bd (pR (nC M4 12 4) 3 o0 8 M4.1.1) (fun M5 =>
  bd (pR (nC M5 12 4) 3 o0 9 M5.1.1) (fun M6 =>
  bd (pR (nC M6 12 64) 3 o0 10 M6.1.1) (fun M7 =>
  bd (pR (nC M7 12 4) 3 o0 11 M7.1.1) (fun M8 =>
  gK M8 3 o0 (
  bd (uX3_clear o0 M8) (fun M10 =>
  some M10))))))))))

def uX3_newNameFault (o0 : Nat) (o1 : Nat) (M0 : Mm) : Option Int :=
  bd (gI M0 7 o1 4) (fun x1 =>
  if x1 = 3 then
    bd (gI M0 7 o1 7) (fun x3 =>
    gK M0 3 o0 (
    bd (uX3_findWho o0 x3 M0) (fun r5 =>
    if r5 = (-1) then
      bd (gI M0 7 o1 7) (fun x7 =>
      gK M0 3 o0 (
      bd (uX3_isMintName o0 x7 M0) (fun r9 =>
      if r9 = 0 then
        some 0
      else
        some 3)))
    else
      some 3)))
  else
    some 1)

def uX3_toldWhoFault (o0 : Nat) (o1 : Nat) (M0 : Mm) : Option Int :=
  bd (gI M0 7 o1 4) (fun x1 =>
  if x1 = 3 then
    bd (gI M0 7 o1 7) (fun x3 =>
    gK M0 3 o0 (
    bd (uX3_findWho o0 x3 M0) (fun r5 =>
    if r5 = (-1) then
      some 3
    else
      some 0)))
  else
    some 1)

def uX7_readRun_b146 (v1 : Int) (v2 : Int) (M : Mm) : Option (Int × Mm) :=
  if v2 = 0 then
    if 6 < v1 then
      some (1, M)
    else
      some (3, M)
  else
    some (1, M)
def uX7_readRun_b135 (v1 : Int) (v2 : Int) (M : Mm) : Option (Int × Mm) :=
  if v1 = 0 then
    if 4 < v2 then
      uX7_readRun_b146 v1 v2 M
    else
      some (2, M)
  else
    uX7_readRun_b146 v1 v2 M
def uX7_readRun_b118 (o0 : Nat) (v1 : Int) (v2 : Int) (v3 : Int) (M : Mm) : Option ((Int × Int × Int × Mm) ⊕ (Int × Int × Mm)) :=
  if v3 = 0 then
    some (.inl (v1, v2, v3, M))
  else
    bd (gI M 7 o0 3) (fun x6 =>
    bd (pI M 7 o0 3 (w32 (x6 + 1))) (fun M7 =>
    some (.inl (v1, v2, v3, M7))))
def uX7_readRun_s16 (o0 : Nat) (v1 : Int) (v2 : Int) (v3 : Int) (M : Mm) : Option ((Int × Int × Int × Mm) ⊕ (Int × Int × Mm)) :=
  if v3 = 0 then
    some (.inr (v1, v2, M))
  else
    bd (gI M 7 o0 3) (fun x9 =>
    bd (gI M 7 o0 1) (fun x10 =>
    if x10 ≤ x9 then
      some (.inr (v1, v2, M))
    else
      bd (gI M 7 o0 3) (fun x12 =>
      if 740 ≤ x12 then
        some (.inr (v1, v2, M))
      else
        bd (gR M 7 o0 0) (fun on14 =>
        bd (gI M 7 o0 3) (fun x15 =>
        bd (aI 12 M on14 x15) (fun x16 =>
        bd (uX7_isDigit x16 M) (fun r17 =>
        if r17 = 0 then
          bd (uX7_isLetter x16 M) (fun r19 =>
          if r19 = 0 then
            uX7_readRun_b118 o0 v1 v2 0 M
          else
            bd (gI M 7 o0 7) (fun x21 =>
            bd (pI M 7 o0 7 (w32 ((w32 ((w32 ((w32 (x21 * 32)) + x16)) - 97)) + 1))) (fun M22 =>
            uX7_readRun_b118 o0 (w32 (v1 + 1)) v2 v3 M22)))
        else
          bd (gI M 7 o0 6) (fun x23 =>
          bd (pI M 7 o0 6 (w32 ((w32 ((w32 (x23 * 10)) + x16)) - 48))) (fun M24 =>
          uX7_readRun_b118 o0 v1 (w32 (v2 + 1)) v3 M24)))))))))
def uX7_readRun_f16 (o0 : Nat) (x : Int × Int × Int × Mm) : Option ((Int × Int × Int × Mm) ⊕ (Int × Int × Mm)) := uX7_readRun_s16 o0 x.1 x.2.1 x.2.2.1 x.2.2.2
def uX7_readRun_c16 (o0 : Nat) (b : Int × Int × Mm) : Option (Int × Mm) := uX7_readRun_b135 b.1 b.2.1 b.2.2
def uX7_readRun_b16 (o0 : Nat) (v1 : Int) (v2 : Int) (v3 : Int) (M : Mm) : Option (Int × Mm) :=
  bd (lp (uX7_readRun_f16 o0) fu (v1, v2, v3, M)) (uX7_readRun_c16 o0)
def uX7_readRun (o0 : Nat) (M0 : Mm) : Option (Int × Mm) :=
  bd (pI M0 7 o0 6 0) (fun M25 =>
  bd (pI M25 7 o0 7 0) (fun M26 =>
  uX7_readRun_b16 o0 0 0 1 M26))

def uX8_copyFrom (o0 : Nat) (o1 : Nat) (M0 : Mm) : Option Mm :=
  bd (gR M0 8 o0 0) (fun on1 =>
  bd (gR M0 8 o1 0) (fun on2 =>
  gK M0 3 on1 (
  bd (uX3_copyFrom on1 on2 M0) (fun M4 =>
  bd (gR M4 8 o0 1) (fun on5 =>
  bd (gR M4 8 o1 1) (fun on6 =>
  gK M4 1 on5 (
  bd (uX1_copyFrom on5 on6 M4) (fun M8 =>
  bd (gR M8 8 o0 2) (fun on9 =>
  bd (gR M8 8 o1 2) (fun on10 =>
  bd (gR M8 8 o1 1) (fun on11 =>
  bd (gI M8 1 on11 1) (fun x12 =>
  gK M8 6 on9 (
  bd (uX6_copyFrom on9 on10 x12 M8) (fun M14 =>
  bd (gR M14 8 o0 3) (fun on15 =>
  bd (gR M14 8 o1 3) (fun on16 =>
  bd (gR M14 8 o1 1) (fun on17 =>
  bd (gI M14 1 on17 2) (fun x18 =>
  gK M14 6 on15 (
  bd (uX6_copyFrom on15 on16 x18 M14) (fun M20 =>
  bd (gR M20 8 o0 4) (fun on21 =>
  bd (gR M20 8 o1 4) (fun on22 =>
  gK M20 5 on21 (
  bd (uX5_copyFrom on21 on22 M20) (fun M24 =>
  some M24))))))))))))))))))))))))

def uX8_isAlive (o0 : Nat) (v1 : Int) (M0 : Mm) : Option Int :=
  gK M0 8 o0 (
  bd (uX8_isWho o0 v1 M0) (fun r2 =>
  if r2 = 0 then
    some 0
  else
    bd (gR M0 8 o0 1) (fun on4 =>
    gK M0 1 on4 (
    bd (uX1_isDead on4 v1 M0) (fun r6 =>
    if r6 = 0 then
      some 1
    else
      some 0)))))

def uX8_whoOnTop (o0 : Nat) (v1 : Int) (M0 : Mm) : Option Int :=
  gK M0 8 o0 (
  bd (uX8_isCoin o0 v1 M0) (fun r2 =>
  if r2 = 0 then
    some (-1)
  else
    bd (gR M0 8 o0 2) (fun on4 =>
    bd (gR M0 8 o0 1) (fun on5 =>
    bd (gR M0 1 on5 13) (fun on6 =>
    bd (aI 12 M0 on6 (w32 (v1 * 9))) (fun x7 =>
    gK M0 6 on4 (
    bd (uX6_at on4 x7 1 M0) (fun r9 =>
    some r9))))))))

def uX8_strokesAt_b37 (v2 : Int) (M0 : Mm) : Option Int :=
  some v2
def uX8_strokesAt_s4 (o0 : Nat) (v1 : Int) (M0 : Mm) (v2 : Int) (v3 : Int) : Option ((Int × Int) ⊕ (Int)) :=
  bd (gR M0 8 o0 1) (fun on1 =>
  bd (gI M0 1 on1 1) (fun x2 =>
  if x2 ≤ v3 then
    some (.inr v2)
  else
    bd (gR M0 8 o0 2) (fun on4 =>
    gK M0 6 on4 (
    bd (uX6_at on4 v3 2 M0) (fun r6 =>
    if r6 = v1 then
      some (.inl (w32 (v2 + 1), w32 (v3 + 1)))
    else
      some (.inl (v2, w32 (v3 + 1))))))))
def uX8_strokesAt_f4 (o0 : Nat) (v1 : Int) (M0 : Mm) (x : Int × Int) : Option ((Int × Int) ⊕ (Int)) := uX8_strokesAt_s4 o0 v1 M0 x.1 x.2
def uX8_strokesAt_c4 (o0 : Nat) (v1 : Int) (M0 : Mm) (b : Int) : Option Int := uX8_strokesAt_b37 b M0
def uX8_strokesAt_b4 (o0 : Nat) (v1 : Int) (v2 : Int) (v3 : Int) (M0 : Mm) : Option Int :=
  bd (lp (uX8_strokesAt_f4 o0 v1 M0) fu (v2, v3)) (uX8_strokesAt_c4 o0 v1 M0)
def uX8_strokesAt (o0 : Nat) (v1 : Int) (M0 : Mm) : Option Int :=
  uX8_strokesAt_b4 o0 v1 0 0 M0

def uX8_hundredths_b63 (o0 : Nat) (v2 : Int) (v3 : Int) (vs0 : Int) (M0 : Mm) : Option Int :=
  bd (gR M0 8 o0 0) (fun on1 =>
  bd (gR M0 3 on1 5) (fun on2 =>
  bd (aI 12 M0 on2 v2) (fun x3 =>
  if x3 = 1 then
    some (w32 (vs0 + v3))
  else
    some vs0)))
def uX8_hundredths (o0 : Nat) (v1 : Int) (v2 : Int) (v3 : Int) (M0 : Mm) : Option Int :=
  if v2 = v1 then
    some 100
  else
    gK M0 8 o0 (
    bd (uX8_isWho o0 v2 M0) (fun r7 =>
    if r7 = 0 then
      some 0
    else
      bd (gR M0 8 o0 0) (fun on9 =>
      bd (gR M0 3 on9 6) (fun on10 =>
      bd (aI 12 M0 on10 v2) (fun x11 =>
      if x11 = 1 then
        some 0
      else
        bd (gR M0 8 o0 1) (fun on13 =>
        gK M0 1 on13 (
        bd (uX1_isDead on13 v2 M0) (fun r15 =>
        if r15 = 0 then
          bd (gR M0 8 o0 0) (fun on17 =>
          gK M0 3 on17 (
          bd (uX3_takenAt on17 v1 v2 M0) (fun r19 =>
          uX8_hundredths_b63 o0 v2 v3 r19 M0)))
        else
          bd (gR M0 8 o0 0) (fun on20 =>
          bd (gR M0 3 on20 11) (fun on21 =>
          bd (aI 12 M0 on21 1) (fun x22 =>
          uX8_hundredths_b63 o0 v2 v3 x22 M0)))))))))))

def uX8_obstacle (o0 : Nat) (v1 : Int) (v2 : Int) (v3 : Int) (M0 : Mm) : Option Int :=
  gK M0 8 o0 (
  bd (uX8_isMint o0 v3 M0) (fun r2 =>
  if r2 = 0 then
    some 4
  else
    bd (gR M0 8 o0 1) (fun on4 =>
    gK M0 1 on4 (
    bd (uX1_isClosed on4 v3 M0) (fun r6 =>
    if r6 = 0 then
      bd (gR M0 8 o0 0) (fun on8 =>
      bd (gR M0 3 on8 8) (fun on9 =>
      bd (aI 12 M0 on9 v3) (fun x10 =>
      bd (gR M0 8 o0 0) (fun on11 =>
      bd (gR M0 3 on11 11) (fun on12 =>
      bd (aI 12 M0 on12 2) (fun x13 =>
      if x13 ≤ (w32 (v1 - x10)) then
        bd (gR M0 8 o0 0) (fun on15 =>
        bd (gR M0 3 on15 11) (fun on16 =>
        bd (aI 12 M0 on16 3) (fun x17 =>
        if v2 < x17 then
          some 0
        else
          some 6)))
      else
        some 5))))))
    else
      some 4)))))

def uX8_recordSale (o0 : Nat) (v1 : Int) (v2 : Int) (v3 : Int) (v4 : Int) (v5 : Int) (v6 : Int) (M0 : Mm) : Option (Int × Mm) :=
  bd (gR M0 8 o0 1) (fun on1 =>
  bd (gI M0 1 on1 2) (fun x2 =>
  if x2 < 500 then
    bd (gR M0 8 o0 3) (fun on4 =>
    gK M0 6 on4 (
    bd (uX6_put on4 x2 0 v1 M0) (fun M6 =>
    bd (gR M6 8 o0 3) (fun on7 =>
    gK M6 6 on7 (
    bd (uX6_put on7 x2 1 v2 M6) (fun M9 =>
    bd (gR M9 8 o0 3) (fun on10 =>
    gK M9 6 on10 (
    bd (uX6_put on10 x2 2 v3 M9) (fun M12 =>
    bd (gR M12 8 o0 3) (fun on13 =>
    gK M12 6 on13 (
    bd (uX6_put on13 x2 3 v4 M12) (fun M15 =>
    bd (gR M15 8 o0 3) (fun on16 =>
    bd (gR M15 8 o0 1) (fun on17 =>
    bd (gI M15 1 on17 3) (fun x18 =>
    gK M15 6 on16 (
    bd (uX6_put on16 x2 4 x18 M15) (fun M20 =>
    bd (gR M20 8 o0 3) (fun on21 =>
    gK M20 6 on21 (
    bd (uX6_put on21 x2 5 v5 M20) (fun M23 =>
    bd (gR M23 8 o0 3) (fun on24 =>
    gK M23 6 on24 (
    bd (uX6_put on24 x2 6 v6 M23) (fun M26 =>
    bd (gR M26 8 o0 1) (fun on27 =>
    bd (gI M26 1 on27 2) (fun x28 =>
    bd (pI M26 1 on27 2 (w32 (x28 + 1))) (fun M29 =>
    some (x2, M29)))))))))))))))))))))))))))
  else
    some ((-1), M0)))

def uX9_feed (o0 : Nat) (v1 : Int) (v2 : Int) (v3 : Int) (v4 : Int) (v5 : Int) (M0 : Mm) : Option (Int × Mm) :=
  bd (gR M0 9 o0 0) (fun on1 =>
  bd (gI M0 7 on1 1) (fun x2 =>
  if (w32 (x2 + 20)) ≤ 740 then
    bd (gR M0 9 o0 0) (fun on4 =>
    gK M0 7 on4 (
    bd (uX7_put on4 v1 M0) (fun M6 =>
    bd (gR M6 9 o0 0) (fun on7 =>
    gK M6 7 on7 (
    bd (uX7_put on7 v2 M6) (fun M9 =>
    bd (gR M9 9 o0 0) (fun on10 =>
    gK M9 7 on10 (
    bd (uX7_put on10 v3 M9) (fun M12 =>
    bd (gR M12 9 o0 0) (fun on13 =>
    gK M12 7 on13 (
    bd (uX7_put on13 v4 M12) (fun M15 =>
    bd (gR M15 9 o0 0) (fun on16 =>
    gK M15 7 on16 (
    bd (uX7_put on16 v5 M15) (fun M18 =>
    bd (gR M18 9 o0 0) (fun on19 =>
    bd (gI M18 7 on19 1) (fun x20 =>
    some (x20, M18))))))))))))))))))
  else
    some ((-1), M0)))

def uX9_tellsUnlikeCoins_b73  (M0 : Mm) : Option Int :=
  some 1
def uX9_tellsUnlikeCoins_s18 (o0 : Nat) (v1 : Int) (M0 : Mm) (v2 : Int) (v4 : Int) : Option ((Int × Int) ⊕ ((Unit) ⊕ Int)) :=
  if v1 ≤ v4 then
    some (.inr (.inl ()))
  else
    bd (gR M0 9 o0 0) (fun on2 =>
    gK M0 7 on2 (
    bd (uX7_at on2 v4 M0) (fun r4 =>
    bd (gR M0 9 o0 4) (fun on5 =>
    gK M0 8 on5 (
    bd (uX8_isCoin on5 r4 M0) (fun r7 =>
    if r7 = 0 then
      some (.inr (.inr 0))
    else
      if (and64 (ushr64 v2 r4) 1) = 0 then
        some (.inl (or64 v2 (shl64 1 r4), w32 (v4 + 1)))
      else
        some (.inr (.inr 0))))))))
def uX9_tellsUnlikeCoins_f18 (o0 : Nat) (v1 : Int) (M0 : Mm) (x : Int × Int) : Option ((Int × Int) ⊕ ((Unit) ⊕ Int)) := uX9_tellsUnlikeCoins_s18 o0 v1 M0 x.1 x.2
def uX9_tellsUnlikeCoins_c18 (o0 : Nat) (v1 : Int) (M0 : Mm) (b : (Unit) ⊕ Int) : Option Int := Sum.elim (fun b => uX9_tellsUnlikeCoins_b73 M0) (fun t => some t) b
def uX9_tellsUnlikeCoins_b18 (o0 : Nat) (v1 : Int) (v2 : Int) (v4 : Int) (M0 : Mm) : Option Int :=
  bd (lp (uX9_tellsUnlikeCoins_f18 o0 v1 M0) fu (v2, v4)) (uX9_tellsUnlikeCoins_c18 o0 v1 M0)
def uX9_tellsUnlikeCoins (o0 : Nat) (v1 : Int) (M0 : Mm) : Option Int :=
  if v1 < 1 then
    some 0
  else
    if v1 ≤ 40 then
      uX9_tellsUnlikeCoins_b18 o0 v1 0 0 M0
    else
      some 0

def uX9_silver (o0 : Nat) (v1 : Int) (M0 : Mm) : Option Int :=
  bd (gR M0 9 o0 4) (fun on1 =>
  bd (gR M0 8 on1 1) (fun on2 =>
  gK M0 1 on2 (
  bd (uX1_grainsOfAll on2 M0) (fun r4 =>
  if v1 = 0 then
    bd (gR M0 9 o0 4) (fun on6 =>
    bd (gR M0 8 on6 1) (fun on7 =>
    bd (gI M0 1 on7 8) (fun x8 =>
    some x8)))
  else
    if v1 = 1 then
      some r4
    else
      if v1 = 2 then
        bd (gR M0 9 o0 4) (fun on11 =>
        bd (gR M0 8 on11 1) (fun on12 =>
        bd (gI M0 1 on12 8) (fun x13 =>
        some (w32 (x13 - r4)))))
      else
        some (-1)))))

def uX10_feed (o0 : Nat) (v1 : Int) (v2 : Int) (v3 : Int) (v4 : Int) (v5 : Int) (M0 : Mm) : Option (Int × Mm) :=
  bd (pI M0 10 o0 0 0) (fun M1 =>
  bd (gI M1 10 o0 2) (fun x2 =>
  if (w32 (x2 + 20)) ≤ 740 then
    gK M1 10 o0 (
    bd (uX10_come o0 v1 M1) (fun M5 =>
    gK M5 10 o0 (
    bd (uX10_come o0 v2 M5) (fun M7 =>
    gK M7 10 o0 (
    bd (uX10_come o0 v3 M7) (fun M9 =>
    gK M9 10 o0 (
    bd (uX10_come o0 v4 M9) (fun M11 =>
    gK M11 10 o0 (
    bd (uX10_come o0 v5 M11) (fun M13 =>
    bd (gI M13 10 o0 2) (fun x14 =>
    some (x14, M13))))))))))))
  else
    some ((-1), M1)))

def uX10_go_b390 (os0 : Nat) (vs1 : Int) (M : Mm) : Option Mm :=
  bd (pI M 10 os0 7 vs1) (fun M1 =>
  some M1)
def uX10_go_b377 (os0 : Nat) (M : Mm) : Option Mm :=
  uX10_go_b390 os0 1 M
def uX10_go_b374 (v2 : Int) (os0 : Nat) (vs1 : Int) (vs2 : Int) (M : Mm) : Option Mm :=
  if vs1 ≤ vs2 then
    if v2 = 0 then
      uX10_go_b390 os0 3 M
    else
      uX10_go_b390 os0 2 M
  else
    uX10_go_b377 os0 M
def uX10_go_b350 (o0 : Nat) (v2 : Int) (v3 : Int) (M : Mm) : Option Mm :=
  if v3 = 0 then
    uX10_go_b377 o0 M
  else
    bd (gI M 10 o0 5) (fun x5 =>
    bd (gI M 10 o0 6) (fun x6 =>
    if v2 = 0 then
      uX10_go_b374 v2 o0 (w32 (x5 - x6)) 4 M
    else
      uX10_go_b374 v2 o0 (w32 (x5 - x6)) 6 M))
def uX10_go_b337 (o0 : Nat) (v2 : Int) (v3 : Int) (M : Mm) : Option ((Int × Mm) ⊕ (Int × Mm)) :=
  bd (gI M 10 o0 5) (fun x8 =>
  bd (pI M 10 o0 5 (w32 (x8 + 1))) (fun M9 =>
  some (.inl (v3, M9))))
def uX10_go_b307 (o0 : Nat) (v2 : Int) (v3 : Int) (v4 : Int) (M : Mm) : Option ((Int × Mm) ⊕ (Int × Mm)) :=
  bd (gI M 10 o0 5) (fun x10 =>
  bd (gI M 10 o0 6) (fun x11 =>
  if 4 ≤ (w32 (x10 - x11)) then
    uX10_go_b337 o0 v2 v3 M
  else
    bd (gI M 10 o0 8) (fun x13 =>
    bd (pI M 10 o0 8 (w32 ((w32 ((w32 (10 * x13)) + v4)) - 48))) (fun M14 =>
    uX10_go_b337 o0 v2 v3 M14))))
def uX10_go_b272 (o0 : Nat) (v2 : Int) (v4 : Int) (vs0 : Int) (M : Mm) : Option ((Int × Mm) ⊕ (Int × Mm)) :=
  bd (gI M 10 o0 5) (fun x15 =>
  bd (gI M 10 o0 6) (fun x16 =>
  if 6 ≤ (w32 (x15 - x16)) then
    uX10_go_b307 o0 v2 vs0 v4 M
  else
    bd (gJ M 10 o0 12) (fun x18 =>
    bd (pJ M 10 o0 12 (w64 ((w64 ((w64 (27 * x18)) + v4)) - 96))) (fun M19 =>
    uX10_go_b307 o0 v2 vs0 v4 M19))))
def uX10_go_b271 (o0 : Nat) (v2 : Int) (v4 : Int) (M : Mm) : Option ((Int × Mm) ⊕ (Int × Mm)) :=
  uX10_go_b272 o0 v2 v4 0 M
def uX10_go_b243 (o0 : Nat) (v2 : Int) (v3 : Int) (M : Mm) : Option ((Int × Mm) ⊕ (Int × Mm)) :=
  bd (gR M 10 o0 1) (fun on20 =>
  bd (gI M 10 o0 5) (fun x21 =>
  bd (aI 12 M on20 x21) (fun x22 =>
  if v3 = 0 then
    uX10_go_b271 o0 v2 x22 M
  else
    bd (uX10_isLetter x22 M) (fun r24 =>
    if r24 = v2 then
      uX10_go_b272 o0 v2 x22 1 M
    else
      uX10_go_b271 o0 v2 x22 M))))
def uX10_go_s215 (o0 : Nat) (v2 : Int) (v3 : Int) (M : Mm) : Option ((Int × Mm) ⊕ (Int × Mm)) :=
  bd (gI M 10 o0 5) (fun x26 =>
  gK M 10 o0 (
  bd (uX10_byteAt o0 x26 M) (fun r28 =>
  bd (uX10_isLetter r28 M) (fun r29 =>
  if r29 = 0 then
    bd (gI M 10 o0 5) (fun x31 =>
    gK M 10 o0 (
    bd (uX10_byteAt o0 x31 M) (fun r33 =>
    bd (uX10_isDigit r33 M) (fun r34 =>
    if r34 = 0 then
      some (.inr (v3, M))
    else
      uX10_go_b243 o0 v2 v3 M))))
  else
    uX10_go_b243 o0 v2 v3 M))))
def uX10_go_f215 (o0 : Nat) (v2 : Int) (x : Int × Mm) : Option ((Int × Mm) ⊕ (Int × Mm)) := uX10_go_s215 o0 v2 x.1 x.2
def uX10_go_c215 (o0 : Nat) (v2 : Int) (b : Int × Mm) : Option Mm := uX10_go_b350 o0 v2 b.1 b.2
def uX10_go_b215 (o0 : Nat) (v2 : Int) (v3 : Int) (M : Mm) : Option Mm :=
  bd (lp (uX10_go_f215 o0 v2) fu (v3, M)) (uX10_go_c215 o0 v2)
def uX10_go_b198 (o0 : Nat) (v1 : Int) (M : Mm) : Option Mm :=
  bd (uX10_isLetter v1 M) (fun r36 =>
  bd (pJ M 10 o0 12 0) (fun M37 =>
  bd (pI M37 10 o0 8 0) (fun M38 =>
  uX10_go_b215 o0 r36 1 M38)))
def uX10_go_b179 (o0 : Nat) (v1 : Int) (os0 : Nat) (vs1 : Int) (M : Mm) : Option Mm :=
  bd (pI M 10 os0 7 vs1) (fun M39 =>
  bd (pI M39 10 o0 9 v1) (fun M40 =>
  bd (gI M40 10 o0 5) (fun x41 =>
  bd (pI M40 10 o0 5 (w32 (x41 + 1))) (fun M42 =>
  some M42))))
def uX10_go_b174 (o0 : Nat) (v1 : Int) (os0 : Nat) (M : Mm) : Option Mm :=
  uX10_go_b179 o0 v1 os0 4 M
def uX10_go_b96 (o0 : Nat) (M : Mm) : Option Mm :=
  bd (gI M 10 o0 5) (fun x43 =>
  bd (gI M 10 o0 3) (fun x44 =>
  if x43 < x44 then
    bd (gR M 10 o0 1) (fun on46 =>
    bd (gI M 10 o0 5) (fun x47 =>
    bd (aI 12 M on46 x47) (fun x48 =>
    bd (uX10_isLetter x48 M) (fun r49 =>
    if r49 = 0 then
      bd (uX10_isDigit x48 M) (fun r51 =>
      if r51 = 0 then
        if x48 = 59 then
          uX10_go_b174 o0 x48 o0 M
        else
          if x48 = 60 then
            uX10_go_b174 o0 x48 o0 M
          else
            if x48 = 61 then
              uX10_go_b174 o0 x48 o0 M
            else
              if x48 = 62 then
                uX10_go_b174 o0 x48 o0 M
              else
                if x48 = 40 then
                  uX10_go_b174 o0 x48 o0 M
                else
                  if x48 = 41 then
                    uX10_go_b174 o0 x48 o0 M
                  else
                    uX10_go_b179 o0 x48 o0 1 M
      else
        uX10_go_b198 o0 x48 M)
    else
      uX10_go_b198 o0 x48 M))))
  else
    bd (pI M 10 o0 7 0) (fun M59 =>
    some M59)))
def uX10_go_b52 (o0 : Nat) (M : Mm) : Option Mm :=
  bd (gI M 10 o0 5) (fun x60 =>
  bd (pI M 10 o0 6 x60) (fun M61 =>
  bd (gI M61 10 o0 3) (fun x62 =>
  bd (gI M61 10 o0 4) (fun x63 =>
  if x62 ≤ x63 then
    uX10_go_b96 o0 M61
  else
    bd (gI M61 10 o0 6) (fun x65 =>
    bd (gI M61 10 o0 4) (fun x66 =>
    if x65 < x66 then
      uX10_go_b96 o0 M61
    else
      bd (gI M61 10 o0 4) (fun x68 =>
      bd (pI M61 10 o0 6 x68) (fun M69 =>
      bd (pI M69 10 o0 7 1) (fun M70 =>
      some M70)))))))))
def uX10_go_b39 (o0 : Nat) (M : Mm) : Option ((Mm) ⊕ (Mm)) :=
  bd (gI M 10 o0 5) (fun x71 =>
  bd (pI M 10 o0 5 (w32 (x71 + 1))) (fun M72 =>
  some (.inl M72)))
def uX10_go_s0 (o0 : Nat)  (M : Mm) : Option ((Mm) ⊕ (Mm)) :=
  bd (gI M 10 o0 5) (fun x73 =>
  bd (gI M 10 o0 3) (fun x74 =>
  if x74 ≤ x73 then
    some (.inr M)
  else
    bd (gR M 10 o0 1) (fun on76 =>
    bd (gI M 10 o0 5) (fun x77 =>
    bd (aI 12 M on76 x77) (fun x78 =>
    if x78 = 32 then
      uX10_go_b39 o0 M
    else
      bd (gR M 10 o0 1) (fun on80 =>
      bd (gI M 10 o0 5) (fun x81 =>
      bd (aI 12 M on80 x81) (fun x82 =>
      if x82 = 10 then
        uX10_go_b39 o0 M
      else
        some (.inr M)))))))))
def uX10_go_f0 (o0 : Nat) (x : Mm) : Option ((Mm) ⊕ (Mm)) := uX10_go_s0 o0 x
def uX10_go_c0 (o0 : Nat) (b : Mm) : Option Mm := uX10_go_b52 o0 b
def uX10_go_b0 (o0 : Nat) (M : Mm) : Option Mm :=
  bd (lp (uX10_go_f0 o0) fu M) (uX10_go_c0 o0)
def uX10_go (o0 : Nat) (M0 : Mm) : Option Mm :=
  uX10_go_b0 o0 M0

def uX10_wordOf (v0 : Int) (M0 : Mm) : Option Int :=
  if v0 = 0 then
    bd (uX10_spelt 119 104 111 0 M0) (fun r2 =>
    some r2)
  else
    if v0 = 1 then
      bd (uX10_spelt 98 101 103 115 M0) (fun r4 =>
      some r4)
    else
      if v0 = 2 then
        bd (uX10_spelt 111 119 101 115 M0) (fun r6 =>
        some r6)
      else
        if v0 = 3 then
          bd (uX10_spelt 109 105 110 116 M0) (fun r8 =>
          some r8)
        else
          if v0 = 4 then
            bd (uX10_spelt 116 97 107 101 M0) (fun r10 =>
            bd (uX10_on r10 115 0 M0) (fun r11 =>
            some r11))
          else
            if v0 = 5 then
              bd (uX10_spelt 108 117 99 107 M0) (fun r13 =>
              bd (uX10_on r13 121 0 M0) (fun r14 =>
              some r14))
            else
              if v0 = 6 then
                bd (uX10_spelt 100 101 97 100 M0) (fun r16 =>
                some r16)
              else
                if v0 = 7 then
                  bd (uX10_spelt 116 104 105 110 M0) (fun r18 =>
                  some r18)
                else
                  if v0 = 8 then
                    bd (uX10_spelt 102 97 99 101 M0) (fun r20 =>
                    bd (uX10_on r20 115 0 M0) (fun r21 =>
                    some r21))
                  else
                    if v0 = 9 then
                      bd (uX10_spelt 111 114 0 0 M0) (fun r23 =>
                      some r23)
                    else
                      if v0 = 10 then
                        bd (uX10_spelt 97 110 100 0 M0) (fun r25 =>
                        some r25)
                      else
                        if v0 = 11 then
                          bd (uX10_spelt 110 111 116 0 M0) (fun r27 =>
                          some r27)
                        else
                          if v0 = 12 then
                            bd (uX10_spelt 98 101 97 114 M0) (fun r29 =>
                            bd (uX10_on r29 115 0 M0) (fun r30 =>
                            some r30))
                          else
                            if v0 = 13 then
                              bd (uX10_spelt 115 104 111 119 M0) (fun r32 =>
                              bd (uX10_on r32 115 0 M0) (fun r33 =>
                              some r33))
                            else
                              if v0 = 14 then
                                bd (uX10_spelt 104 101 108 100 M0) (fun r35 =>
                                some r35)
                              else
                                if v0 = 15 then
                                  bd (uX10_spelt 102 97 108 115 M0) (fun r37 =>
                                  bd (uX10_on r37 101 0 M0) (fun r38 =>
                                  some r38))
                                else
                                  if v0 = 16 then
                                    bd (uX10_spelt 103 114 97 105 M0) (fun r40 =>
                                    bd (uX10_on r40 110 115 M0) (fun r41 =>
                                    some r41))
                                  else
                                    if v0 = 17 then
                                      bd (uX10_spelt 108 97 121 101 M0) (fun r43 =>
                                      bd (uX10_on r43 114 115 M0) (fun r44 =>
                                      some r44))
                                    else
                                      bd (uX10_spelt 115 116 114 117 M0) (fun r45 =>
                                      bd (uX10_on r45 99 107 M0) (fun r46 =>
                                      some r46))

def uX10_lay (o0 : Nat) (M0 : Mm) : Option Mm :=
  bd (gI M0 10 o0 22) (fun x1 =>
  if x1 = 0 then
    bd (pI M0 10 o0 22 1) (fun M3 =>
    bd (gR M3 10 o0 14) (fun on4 =>
    gK M3 10 o0 (
    bd (uX10_plain o0 on4 M3) (fun M6 =>
    bd (gR M6 10 o0 14) (fun on7 =>
    bd (sI 12 M6 on7 110 (-1)) (fun M8 =>
    bd (gR M8 10 o0 14) (fun on9 =>
    bd (sI 12 M8 on9 111 (-1)) (fun M10 =>
    some M10))))))))
  else
    some M0)

def uX10_isWho (o0 : Nat) (v1 : Int) (M0 : Mm) : Option Int :=
  if v1 < 0 then
    some 0
  else
    gK M0 10 o0 (
    bd (uX10_people o0 M0) (fun r3 =>
    if r3 ≤ v1 then
      some 0
    else
      some 1))

def uX10_isMint (o0 : Nat) (v1 : Int) (M0 : Mm) : Option Int :=
  if v1 < 0 then
    some 0
  else
    gK M0 10 o0 (
    bd (uX10_mints o0 M0) (fun r3 =>
    if r3 ≤ v1 then
      some 0
    else
      some 1))

def uX10_isCoin (o0 : Nat) (v1 : Int) (M0 : Mm) : Option Int :=
  if v1 < 0 then
    some 0
  else
    gK M0 10 o0 (
    bd (uX10_coins o0 M0) (fun r3 =>
    if r3 ≤ v1 then
      some 0
    else
      some 1))

def uX10_topOf (o0 : Nat) (v1 : Int) (M0 : Mm) : Option Int :=
  gK M0 10 o0 (
  bd (uX10_ofCoin o0 v1 4 M0) (fun r2 =>
  some r2))

def uX10_wrongStroke (o0 : Nat) (v1 : Int) (v2 : Int) (v3 : Int) (M0 : Mm) : Option Int :=
  gK M0 10 o0 (
  bd (uX10_ofMint o0 v3 2 M0) (fun r2 =>
  if r2 ≤ 0 then
    gK M0 10 o0 (
    bd (uX10_ofMint o0 v3 0 M0) (fun r5 =>
    bd (gR M0 10 o0 14) (fun on6 =>
    bd (aI 12 M0 on6 5) (fun x7 =>
    if x7 ≤ (w32 (v1 - r5)) then
      bd (gR M0 10 o0 14) (fun on9 =>
      bd (aI 12 M0 on9 6) (fun x10 =>
      if v2 < x10 then
        some 0
      else
        some 6))
    else
      some 5))))
  else
    some 4))

def uX10_strike_b229 (o0 : Nat) (v1 : Int) (v2 : Int) (v3 : Int) (v4 : Int) (v5 : Int) (v6 : Int) (v8 : Int) (M : Mm) : Option Mm :=
  bd (gR M 10 o0 14) (fun on1 =>
  bd (sI 12 M on1 (w32 (v6 + 4)) v2) (fun M2 =>
  bd (gR M2 10 o0 14) (fun on3 =>
  bd (sI 12 M2 on3 (w32 ((w32 (v6 + 4)) + 1)) 9) (fun M4 =>
  bd (gR M4 10 o0 14) (fun on5 =>
  bd (gR M4 10 o0 14) (fun on6 =>
  bd (aI 12 M4 on6 112) (fun x7 =>
  bd (sI 12 M4 on5 (w32 ((w32 (v6 + 4)) + 2)) x7) (fun M8 =>
  bd (gR M8 10 o0 14) (fun on9 =>
  bd (sI 12 M8 on9 (w32 (v6 + 3)) (w32 (v8 + 1))) (fun M10 =>
  bd (gR M10 10 o0 14) (fun on11 =>
  bd (aI 12 M10 on11 (w32 (v6 + 2))) (fun x12 =>
  bd (sI 12 M10 on11 (w32 (v6 + 2)) (w32 (x12 + 1))) (fun M13 =>
  bd (gR M13 10 o0 14) (fun on14 =>
  bd (aI 12 M13 on14 112) (fun x15 =>
  bd (gR M13 10 o0 14) (fun on16 =>
  bd (sI 12 M13 on16 (w32 (1400 + (w32 (6 * x15)))) v1) (fun M17 =>
  bd (gR M17 10 o0 14) (fun on18 =>
  bd (sI 12 M17 on18 (w32 ((w32 (1400 + (w32 (6 * x15)))) + 1)) v2) (fun M19 =>
  bd (gR M19 10 o0 14) (fun on20 =>
  bd (sI 12 M19 on20 (w32 ((w32 (1400 + (w32 (6 * x15)))) + 2)) v3) (fun M21 =>
  bd (gR M21 10 o0 14) (fun on22 =>
  bd (gR M21 10 o0 14) (fun on23 =>
  bd (aI 12 M21 on23 109) (fun x24 =>
  bd (sI 12 M21 on22 (w32 ((w32 (1400 + (w32 (6 * x15)))) + 3)) x24) (fun M25 =>
  bd (gR M25 10 o0 14) (fun on26 =>
  bd (sI 12 M25 on26 (w32 ((w32 (1400 + (w32 (6 * x15)))) + 4)) v4) (fun M27 =>
  bd (gR M27 10 o0 14) (fun on28 =>
  bd (sI 12 M27 on28 (w32 ((w32 (1400 + (w32 (6 * x15)))) + 5)) v5) (fun M29 =>
  bd (gR M29 10 o0 14) (fun on30 =>
  bd (aI 12 M29 on30 112) (fun x31 =>
  bd (sI 12 M29 on30 112 (w32 (x31 + 1))) (fun M32 =>
  some M32))))))))))))))))))))))))))))))))
def uX10_strike_b223 (o0 : Nat) (v1 : Int) (v2 : Int) (v3 : Int) (v4 : Int) (v5 : Int) (v6 : Int) (v8 : Int) (v9 : Int) (M : Mm) : Option ((Int × Mm) ⊕ (Mm)) :=
  some (.inl (w32 (v9 + (-1)), M))
def uX10_strike_s175 (o0 : Nat) (v1 : Int) (v2 : Int) (v3 : Int) (v4 : Int) (v5 : Int) (v6 : Int) (v8 : Int) (v9 : Int) (v10 : Int) (M : Mm) : Option ((Int × Mm) ⊕ (Mm)) :=
  if 3 ≤ v10 then
    some (.inr M)
  else
    bd (gR M 10 o0 14) (fun on34 =>
    bd (gR M 10 o0 14) (fun on35 =>
    bd (aI 12 M on35 (w32 ((w32 ((w32 (v6 + 4)) + (w32 (3 * (w32 (v9 - 1)))))) + v10))) (fun x36 =>
    bd (sI 12 M on34 (w32 ((w32 ((w32 (v6 + 4)) + (w32 (3 * v9)))) + v10)) x36) (fun M37 =>
    some (.inl (w32 (v10 + 1), M37))))))
def uX10_strike_f175 (o0 : Nat) (v1 : Int) (v2 : Int) (v3 : Int) (v4 : Int) (v5 : Int) (v6 : Int) (v8 : Int) (v9 : Int) (x : Int × Mm) : Option ((Int × Mm) ⊕ (Mm)) := uX10_strike_s175 o0 v1 v2 v3 v4 v5 v6 v8 v9 x.1 x.2
def uX10_strike_c175 (o0 : Nat) (v1 : Int) (v2 : Int) (v3 : Int) (v4 : Int) (v5 : Int) (v6 : Int) (v8 : Int) (v9 : Int) (b : Mm) : Option ((Int × Mm) ⊕ (Mm)) := uX10_strike_b223 o0 v1 v2 v3 v4 v5 v6 v8 v9 b
def uX10_strike_b175 (o0 : Nat) (v1 : Int) (v2 : Int) (v3 : Int) (v4 : Int) (v5 : Int) (v6 : Int) (v8 : Int) (v9 : Int) (v10 : Int) (M : Mm) : Option ((Int × Mm) ⊕ (Mm)) :=
  bd (lp (uX10_strike_f175 o0 v1 v2 v3 v4 v5 v6 v8 v9) fu (v10, M)) (uX10_strike_c175 o0 v1 v2 v3 v4 v5 v6 v8 v9)
def uX10_strike_s167 (o0 : Nat) (v1 : Int) (v2 : Int) (v3 : Int) (v4 : Int) (v5 : Int) (v6 : Int) (v8 : Int) (v9 : Int) (M : Mm) : Option ((Int × Mm) ⊕ (Mm)) :=
  if v9 ≤ 0 then
    some (.inr M)
  else
    uX10_strike_b175 o0 v1 v2 v3 v4 v5 v6 v8 v9 0 M
def uX10_strike_f167 (o0 : Nat) (v1 : Int) (v2 : Int) (v3 : Int) (v4 : Int) (v5 : Int) (v6 : Int) (v8 : Int) (x : Int × Mm) : Option ((Int × Mm) ⊕ (Mm)) := uX10_strike_s167 o0 v1 v2 v3 v4 v5 v6 v8 x.1 x.2
def uX10_strike_c167 (o0 : Nat) (v1 : Int) (v2 : Int) (v3 : Int) (v4 : Int) (v5 : Int) (v6 : Int) (v8 : Int) (b : Mm) : Option Mm := uX10_strike_b229 o0 v1 v2 v3 v4 v5 v6 v8 b
def uX10_strike_b167 (o0 : Nat) (v1 : Int) (v2 : Int) (v3 : Int) (v4 : Int) (v5 : Int) (v6 : Int) (v8 : Int) (v9 : Int) (M : Mm) : Option Mm :=
  bd (lp (uX10_strike_f167 o0 v1 v2 v3 v4 v5 v6 v8) fu (v9, M)) (uX10_strike_c167 o0 v1 v2 v3 v4 v5 v6 v8)
def uX10_strike_b163 (o0 : Nat) (v1 : Int) (v2 : Int) (v3 : Int) (v4 : Int) (v5 : Int) (v6 : Int) (v8 : Int) (M : Mm) : Option Mm :=
  uX10_strike_b167 o0 v1 v2 v3 v4 v5 v6 v8 v8 M
def uX10_strike_s49 (o0 : Nat) (v1 : Int) (v2 : Int) (v3 : Int) (v4 : Int) (v5 : Int) (v6 : Int) (v8 : Int) (v9 : Int) (M : Mm) : Option ((Int × Int × Mm) ⊕ (Int × Mm)) :=
  bd (gR M 10 o0 14) (fun on39 =>
  bd (aI 12 M on39 (w32 (v6 + 3))) (fun x40 =>
  if x40 ≤ v9 then
    some (.inr (v8, M))
  else
    bd (gR M 10 o0 14) (fun on42 =>
    bd (aI 12 M on42 (w32 ((w32 ((w32 (v6 + 4)) + (w32 (3 * v9)))) + 1))) (fun x43 =>
    gK M 10 o0 (
    bd (uX10_ofMint o0 v3 1 M) (fun r45 =>
    if 0 < (w32 (x43 - r45)) then
      bd (gR M 10 o0 14) (fun on47 =>
      bd (gR M 10 o0 14) (fun on48 =>
      bd (aI 12 M on48 (w32 ((w32 (v6 + 4)) + (w32 (3 * v9))))) (fun x49 =>
      bd (sI 12 M on47 (w32 ((w32 (v6 + 4)) + (w32 (3 * v8)))) x49) (fun M50 =>
      bd (gR M50 10 o0 14) (fun on51 =>
      bd (sI 12 M50 on51 (w32 ((w32 ((w32 (v6 + 4)) + (w32 (3 * v8)))) + 1)) (w32 (x43 - r45))) (fun M52 =>
      bd (gR M52 10 o0 14) (fun on53 =>
      bd (gR M52 10 o0 14) (fun on54 =>
      bd (aI 12 M52 on54 (w32 ((w32 ((w32 (v6 + 4)) + (w32 (3 * v9)))) + 2))) (fun x55 =>
      bd (sI 12 M52 on53 (w32 ((w32 ((w32 (v6 + 4)) + (w32 (3 * v8)))) + 2)) x55) (fun M56 =>
      some (.inl (w32 (v8 + 1), w32 (v9 + 1), M56))))))))))))
    else
      some (.inl (v8, w32 (v9 + 1), M))))))))
def uX10_strike_f49 (o0 : Nat) (v1 : Int) (v2 : Int) (v3 : Int) (v4 : Int) (v5 : Int) (v6 : Int) (x : Int × Int × Mm) : Option ((Int × Int × Mm) ⊕ (Int × Mm)) := uX10_strike_s49 o0 v1 v2 v3 v4 v5 v6 x.1 x.2.1 x.2.2
def uX10_strike_c49 (o0 : Nat) (v1 : Int) (v2 : Int) (v3 : Int) (v4 : Int) (v5 : Int) (v6 : Int) (b : Int × Mm) : Option Mm := uX10_strike_b163 o0 v1 v2 v3 v4 v5 v6 b.1 b.2
def uX10_strike_b49 (o0 : Nat) (v1 : Int) (v2 : Int) (v3 : Int) (v4 : Int) (v5 : Int) (v6 : Int) (v8 : Int) (v9 : Int) (M : Mm) : Option Mm :=
  bd (lp (uX10_strike_f49 o0 v1 v2 v3 v4 v5 v6) fu (v8, v9, M)) (uX10_strike_c49 o0 v1 v2 v3 v4 v5 v6)
def uX10_strike (o0 : Nat) (v1 : Int) (v2 : Int) (v3 : Int) (v4 : Int) (v5 : Int) (M0 : Mm) : Option Mm :=
  gK M0 10 o0 (
  bd (uX10_ofMint o0 v3 0 M0) (fun r58 =>
  bd (gR M0 10 o0 14) (fun on59 =>
  bd (aI 12 M0 on59 (w32 ((w32 (120 + (w32 (32 * v1)))) + 0))) (fun x60 =>
  bd (sI 12 M0 on59 (w32 ((w32 (120 + (w32 (32 * v1)))) + 0)) (w32 (x60 - r58))) (fun M61 =>
  bd (gR M61 10 o0 14) (fun on62 =>
  bd (aI 12 M61 on62 115) (fun x63 =>
  bd (sI 12 M61 on62 115 (w32 (x63 + r58))) (fun M64 =>
  uX10_strike_b49 o0 v1 v2 v3 v4 v5 (w32 (120 + (w32 (32 * v1)))) 0 0 M64))))))))

def uX10_faceFalse (o0 : Nat) (v1 : Int) (v2 : Int) (M0 : Mm) : Option Int :=
  bd (gR M0 10 o0 14) (fun on1 =>
  gK M0 10 o0 (
  bd (uX10_ofCoin o0 v1 (w32 ((w32 (4 + (w32 (3 * v2)))) + 2)) M0) (fun r3 =>
  bd (aI 12 M0 on1 (w32 ((w32 (1400 + (w32 (6 * r3)))) + 5))) (fun x4 =>
  some x4))))

def uX10_hundredths_b67 (o0 : Nat) (v2 : Int) (v3 : Int) (vs0 : Int) (M0 : Mm) : Option Int :=
  gK M0 10 o0 (
  bd (uX10_ofWho o0 v2 0 M0) (fun r2 =>
  if r2 ≤ 0 then
    some vs0
  else
    some (w32 (vs0 + v3))))
def uX10_hundredths (o0 : Nat) (v1 : Int) (v2 : Int) (v3 : Int) (M0 : Mm) : Option Int :=
  if v2 = v1 then
    some 100
  else
    gK M0 10 o0 (
    bd (uX10_ofWho o0 v2 1 M0) (fun r6 =>
    if r6 ≤ 0 then
      bd (gR M0 10 o0 14) (fun on8 =>
      bd (aI 12 M0 on8 (w32 ((w32 (44 + (w32 (8 * v1)))) + v2))) (fun x9 =>
      gK M0 10 o0 (
      bd (uX10_ofWho o0 v2 2 M0) (fun r11 =>
      if r11 ≤ 0 then
        if x9 = 0 then
          uX10_hundredths_b67 o0 v2 v3 100 M0
        else
          uX10_hundredths_b67 o0 v2 v3 (w32 (x9 - 1)) M0
      else
        bd (gR M0 10 o0 14) (fun on14 =>
        bd (aI 12 M0 on14 4) (fun x15 =>
        uX10_hundredths_b67 o0 v2 v3 x15 M0))))))
    else
      some 0))

def uX10_areUnfit (o0 : Nat) (v1 : Int) (v2 : Int) (M0 : Mm) : Option Int :=
  if v1 = v2 then
    some 1
  else
    gK M0 10 o0 (
    bd (uX10_ofWho o0 v1 2 M0) (fun r3 =>
    if 0 < r3 then
      some 1
    else
      gK M0 10 o0 (
      bd (uX10_ofWho o0 v2 2 M0) (fun r6 =>
      if r6 ≤ 0 then
        some 0
      else
        some 1))))

def uX10_sold_b25 (o0 : Nat) (M : Mm) : Option (Int × Mm) :=
  gK M 10 o0 (
  bd2 (uX10_refuse o0 M) (fun r2 M3 =>
  some (r2, M3)))
def uX10_sold (o0 : Nat) (v1 : Int) (v2 : Int) (M0 : Mm) : Option (Int × Mm) :=
  if v1 < 0 then
    uX10_sold_b25 o0 M0
  else
    bd (gR M0 10 o0 14) (fun on5 =>
    bd (aI 12 M0 on5 113) (fun x6 =>
    if x6 ≤ v1 then
      uX10_sold_b25 o0 M0
    else
      bd (uX10_isIn v2 0 6 M0) (fun r8 =>
      if r8 = 0 then
        uX10_sold_b25 o0 M0
      else
        bd (pI M0 10 o0 0 0) (fun M10 =>
        bd (gR M10 10 o0 14) (fun on11 =>
        bd (aI 12 M10 on11 (w32 ((w32 (4400 + (w32 (7 * v1)))) + v2))) (fun x12 =>
        some (x12, M10)))))))

def uX10_costOf_b69 (o0 : Nat) (v1 : Int) (os0 : Nat) (vs1 : Int) (vs2 : Int) (M0 : Mm) : Option Int :=
  bd (aI 12 M0 os0 (w32 (vs1 + vs2))) (fun x1 =>
  if x1 < 100000000 then
    bd (gR M0 10 o0 26) (fun on3 =>
    bd (aI 12 M0 on3 v1) (fun x4 =>
    gK M0 10 o0 (
    bd (uX10_ofCoin o0 x4 0 M0) (fun r6 =>
    some (w32 ((w32 (x1 + (w32 (16 * r6)))) + 1))))))
  else
    some 100000000)
def uX10_costOf (o0 : Nat) (v1 : Int) (v2 : Int) (v3 : Int) (M0 : Mm) : Option Int :=
  if v3 = 0 then
    bd (gR M0 10 o0 28) (fun on13 =>
    bd (aI 12 M0 on13 (w32 ((w32 (2001 * (w32 (v1 + 1)))) + v2))) (fun x14 =>
    some x14))
  else
    bd (gR M0 10 o0 27) (fun on8 =>
    bd (aI 12 M0 on8 (w32 ((w32 (6 * v1)) + v3))) (fun x9 =>
    if x9 = 0 then
      some 100000000
    else
      bd (gR M0 10 o0 28) (fun on11 =>
      if v2 ≤ x9 then
        uX10_costOf_b69 o0 v1 on11 (w32 (2001 * (w32 (v1 + 1)))) 0 M0
      else
        uX10_costOf_b69 o0 v1 on11 (w32 (2001 * (w32 (v1 + 1)))) (w32 (v2 - x9)) M0)))

def uX10_paid (o0 : Nat) (v1 : Int) (M0 : Mm) : Option (Int × Mm) :=
  bd (pI M0 10 o0 0 0) (fun M1 =>
  bd (gI M1 10 o0 32) (fun x2 =>
  if x2 = (-1) then
    some ((-1), M1)
  else
    bd (uX10_isIn v1 0 39 M1) (fun r4 =>
    if r4 = 0 then
      some ((-1), M1)
    else
      bd (gR M1 10 o0 29) (fun on6 =>
      bd (aI 12 M1 on6 v1) (fun x7 =>
      some (x7, M1))))))

def uX10_isShown_b50  (M0 : Mm) : Option Int :=
  some 0
def uX10_isShown_s16 (o0 : Nat) (v1 : Int) (v2 : Int) (M0 : Mm) (v3 : Int) : Option ((Int) ⊕ ((Unit) ⊕ Int)) :=
  gK M0 10 o0 (
  bd (uX10_ofCoin o0 v2 3 M0) (fun r2 =>
  if r2 ≤ v3 then
    some (.inr (.inl ()))
  else
    gK M0 10 o0 (
    bd (uX10_ofCoin o0 v2 (w32 ((w32 (4 + (w32 (3 * v3)))) + 2)) M0) (fun r5 =>
    if r5 = v1 then
      some (.inr (.inr 1))
    else
      some (.inl (w32 (v3 + 1)))))))
def uX10_isShown_f16 (o0 : Nat) (v1 : Int) (v2 : Int) (M0 : Mm) (x : Int) : Option ((Int) ⊕ ((Unit) ⊕ Int)) := uX10_isShown_s16 o0 v1 v2 M0 x
def uX10_isShown_c16 (o0 : Nat) (v1 : Int) (v2 : Int) (M0 : Mm) (b : (Unit) ⊕ Int) : Option Int := Sum.elim (fun b => uX10_isShown_b50 M0) (fun t => some t) b
def uX10_isShown_b16 (o0 : Nat) (v1 : Int) (v2 : Int) (v3 : Int) (M0 : Mm) : Option Int :=
  bd (lp (uX10_isShown_f16 o0 v1 v2 M0) fu v3) (uX10_isShown_c16 o0 v1 v2 M0)
def uX10_isShown (o0 : Nat) (v1 : Int) (M0 : Mm) : Option Int :=
  bd (gR M0 10 o0 14) (fun on7 =>
  bd (aI 12 M0 on7 (w32 (1400 + (w32 (6 * v1))))) (fun x8 =>
  uX10_isShown_b16 o0 v1 x8 0 M0))

def uX10_isLike_b150  (M : Mm) : Option (Int × Mm) :=
  some (1, M)
def uX10_isLike_s92 (o0 : Nat) (v1 : Int) (v3 : Int) (M : Mm) (v5 : Int) : Option ((Int) ⊕ ((Unit) ⊕ (Int × Mm))) :=
  if v3 ≤ v5 then
    some (.inr (.inl ()))
  else
    bd (gR M 10 o0 37) (fun on2 =>
    bd (aI 12 M on2 v5) (fun x3 =>
    gK M 10 o0 (
    bd (uX10_ofCoin o0 v1 (w32 (4 + (w32 (3 * v5)))) M) (fun r5 =>
    if x3 = r5 then
      bd (gR M 10 o0 38) (fun on7 =>
      bd (aI 12 M on7 v5) (fun x8 =>
      gK M 10 o0 (
      bd (uX10_ofCoin o0 v1 (w32 ((w32 (4 + (w32 (3 * v5)))) + 1)) M) (fun r10 =>
      if x8 = r10 then
        some (.inl (w32 (v5 + 1)))
      else
        some (.inr (.inr (0, M)))))))
    else
      some (.inr (.inr (0, M)))))))
def uX10_isLike_f92 (o0 : Nat) (v1 : Int) (v3 : Int) (M : Mm) (x : Int) : Option ((Int) ⊕ ((Unit) ⊕ (Int × Mm))) := uX10_isLike_s92 o0 v1 v3 M x
def uX10_isLike_c92 (o0 : Nat) (v1 : Int) (v3 : Int) (M : Mm) (b : (Unit) ⊕ (Int × Mm)) : Option (Int × Mm) := Sum.elim (fun b => uX10_isLike_b150 M) (fun t => some t) b
def uX10_isLike_b92 (o0 : Nat) (v1 : Int) (v3 : Int) (v5 : Int) (M : Mm) : Option (Int × Mm) :=
  bd (lp (uX10_isLike_f92 o0 v1 v3 M) fu v5) (uX10_isLike_c92 o0 v1 v3 M)
def uX10_isLike_b77 (o0 : Nat) (v1 : Int) (v3 : Int) (M : Mm) : Option (Int × Mm) :=
  gK M 10 o0 (
  bd (uX10_ofCoin o0 v1 3 M) (fun r13 =>
  if v3 = r13 then
    uX10_isLike_b92 o0 v1 v3 0 M
  else
    some (0, M)))
def uX10_isLike_s10 (o0 : Nat) (v1 : Int) (v3 : Int) (v4 : Int) (v5 : Int) (M : Mm) : Option ((Int × Int × Int × Mm) ⊕ (Int × Mm)) :=
  if v5 < 0 then
    some (.inr (v3, M))
  else
    bd (gR M 10 o0 34) (fun on16 =>
    bd (aI 12 M on16 v5) (fun x17 =>
    gK M 10 o0 (
    bd (uX10_ofMint o0 x17 1 M) (fun r19 =>
    if 0 < (w32 (9 - v4)) then
      bd (gR M 10 o0 37) (fun on21 =>
      bd (gR M 10 o0 33) (fun on22 =>
      bd (aI 12 M on22 v5) (fun x23 =>
      bd (sI 12 M on21 v3 x23) (fun M24 =>
      bd (gR M24 10 o0 38) (fun on25 =>
      bd (sI 12 M24 on25 v3 (w32 (9 - v4))) (fun M26 =>
      some (.inl (w32 (v3 + 1), w32 (v4 + r19), w32 (v5 + (-1)), M26))))))))
    else
      some (.inl (v3, w32 (v4 + r19), w32 (v5 + (-1)), M))))))
def uX10_isLike_f10 (o0 : Nat) (v1 : Int) (x : Int × Int × Int × Mm) : Option ((Int × Int × Int × Mm) ⊕ (Int × Mm)) := uX10_isLike_s10 o0 v1 x.1 x.2.1 x.2.2.1 x.2.2.2
def uX10_isLike_c10 (o0 : Nat) (v1 : Int) (b : Int × Mm) : Option (Int × Mm) := uX10_isLike_b77 o0 v1 b.1 b.2
def uX10_isLike_b10 (o0 : Nat) (v1 : Int) (v3 : Int) (v4 : Int) (v5 : Int) (M : Mm) : Option (Int × Mm) :=
  bd (lp (uX10_isLike_f10 o0 v1) fu (v3, v4, v5, M)) (uX10_isLike_c10 o0 v1)
def uX10_isLike (o0 : Nat) (v1 : Int) (v2 : Int) (M0 : Mm) : Option (Int × Mm) :=
  uX10_isLike_b10 o0 v1 0 0 (w32 (v2 - 1)) M0

def uX10_could (o0 : Nat) (v1 : Int) (v2 : Int) (M0 : Mm) : Option (Int × Mm) :=
  bd (pI M0 10 o0 0 0) (fun M1 =>
  if v1 < 0 then
    some ((-1), M1)
  else
    bd (gI M1 10 o0 40) (fun x3 =>
    if x3 ≤ v1 then
      some ((-1), M1)
    else
      bd (uX10_isIn v2 0 1 M1) (fun r5 =>
      if r5 = 0 then
        some ((-1), M1)
      else
        if v2 = 0 then
          bd (gR M1 10 o0 35) (fun on10 =>
          bd (aI 12 M1 on10 v1) (fun x11 =>
          some (x11, M1)))
        else
          bd (gR M1 10 o0 36) (fun on8 =>
          bd (aI 12 M1 on8 v1) (fun x9 =>
          some (x9, M1))))))

def uX10_shows_b34  (M0 : Mm) : Option Int :=
  some 0
def uX10_shows_s2 (o0 : Nat) (v1 : Int) (v2 : Int) (M0 : Mm) (v3 : Int) : Option ((Int) ⊕ ((Unit) ⊕ Int)) :=
  gK M0 10 o0 (
  bd (uX10_ofCoin o0 v1 3 M0) (fun r2 =>
  if r2 ≤ v3 then
    some (.inr (.inl ()))
  else
    gK M0 10 o0 (
    bd (uX10_ofCoin o0 v1 (w32 (4 + (w32 (3 * v3)))) M0) (fun r5 =>
    if r5 = v2 then
      some (.inr (.inr 1))
    else
      some (.inl (w32 (v3 + 1)))))))
def uX10_shows_f2 (o0 : Nat) (v1 : Int) (v2 : Int) (M0 : Mm) (x : Int) : Option ((Int) ⊕ ((Unit) ⊕ Int)) := uX10_shows_s2 o0 v1 v2 M0 x
def uX10_shows_c2 (o0 : Nat) (v1 : Int) (v2 : Int) (M0 : Mm) (b : (Unit) ⊕ Int) : Option Int := Sum.elim (fun b => uX10_shows_b34 M0) (fun t => some t) b
def uX10_shows_b2 (o0 : Nat) (v1 : Int) (v2 : Int) (v3 : Int) (M0 : Mm) : Option Int :=
  bd (lp (uX10_shows_f2 o0 v1 v2 M0) fu v3) (uX10_shows_c2 o0 v1 v2 M0)
def uX10_shows (o0 : Nat) (v1 : Int) (v2 : Int) (M0 : Mm) : Option Int :=
  uX10_shows_b2 o0 v1 v2 0 M0

def uX0_seekCheapest_b55 (rc : Nat → Int → Int → Int → Int → Mm → Option (Mm)) (o0 : Nat) (v1 : Int) (v2 : Int) (v3 : Int) (v4 : Int) (M : Mm) : Option Mm :=
  bd (gR M 0 o0 6) (fun on1 =>
  bd (aI 12 M on1 v1) (fun x2 =>
  bd (gR M 0 o0 7) (fun on3 =>
  bd (aI 12 M on3 v1) (fun x4 =>
  gK M 0 o0 (
  bd (rc o0 (w32 (v1 + 1)) (w32 (v2 + x2)) (w32 (v3 + 1)) (w32 (v4 - x4)) M) (fun M6 =>
  gK M6 0 o0 (
  bd (rc o0 (w32 (v1 + 1)) v2 v3 v4 M6) (fun M8 =>
  some M8))))))))
def uX0_seekCheapest_o (rc : Nat → Int → Int → Int → Int → Mm → Option (Mm)) (o0 : Nat) (v1 : Int) (v2 : Int) (v3 : Int) (v4 : Int) (M0 : Mm) : Option Mm :=
  if 0 < v4 then
    bd (gI M0 0 o0 4) (fun x10 =>
    if x10 ≤ v1 then
      some M0
    else
      if 12 ≤ v1 then
        some M0
      else
        bd (gR M0 0 o0 8) (fun on13 =>
        bd (aI 12 M0 on13 v1) (fun x14 =>
        if v4 ≤ x14 then
          bd (gI M0 0 o0 9) (fun x16 =>
          if x16 = (-1) then
            uX0_seekCheapest_b55 rc o0 v1 v2 v3 v4 M0
          else
            bd (gI M0 0 o0 9) (fun x18 =>
            if v2 < x18 then
              uX0_seekCheapest_b55 rc o0 v1 v2 v3 v4 M0
            else
              some M0))
        else
          some M0)))
  else
    gK M0 0 o0 (
    bd (uX0_noteCheapest o0 v2 v3 M0) (fun M21 =>
    some M21))

def uX0_seekCheapest : Nat → Nat → Int → Int → Int → Int → Mm → Option (Mm)
  | 0 => fun _ _ _ _ _ _ => none
  | n + 1 => uX0_seekCheapest_o (uX0_seekCheapest n)

def uX0_appraiseStruck_b122  (M : Mm) : Option Mm :=
  some M
def uX0_appraiseStruck_b100 (o0 : Nat) (o1 : Nat) (v2 : Int) (v3 : Int) (v4 : Int) (v5 : Int) (v6 : Int) (v7 : Int) (v8 : Int) (M : Mm) : Option ((Int × Mm) ⊕ (Mm)) :=
  bd (gR M 0 o0 3) (fun on1 =>
  bd (sI 12 M on1 (w32 ((w32 ((w32 (v2 * 6)) + 2)) + v7)) v8) (fun M2 =>
  some (.inl (w32 (v7 + 1), M2))))
def uX0_appraiseStruck_s23 (o0 : Nat) (o1 : Nat) (v2 : Int) (v3 : Int) (v4 : Int) (v5 : Int) (v6 : Int) (v7 : Int) (M : Mm) : Option ((Int × Mm) ⊕ (Mm)) :=
  if 4 ≤ v7 then
    some (.inr M)
  else
    bd (gR M 8 o1 1) (fun on4 =>
    bd (gR M 1 on4 9) (fun on5 =>
    bd (aI 12 M on5 v5) (fun x6 =>
    gK M 8 o1 (
    bd (uX8_obstacle o1 x6 v6 v7 M) (fun r8 =>
    if r8 = 0 then
      bd (gR M 8 o1 1) (fun on10 =>
      bd (gR M 1 on10 9) (fun on11 =>
      bd (aI 12 M on11 v5) (fun x12 =>
      bd (gR M 8 o1 0) (fun on13 =>
      bd (gR M 3 on13 8) (fun on14 =>
      bd (aI 12 M on14 v7) (fun x15 =>
      gK M 8 o1 (
      bd (uX8_obstacle o1 (w32 (x12 - x15)) (w32 (v6 + 1)) v3 M) (fun r17 =>
      if r17 = 0 then
        bd (div32 (w32 ((w32 (x12 - x15)) * v4)) 100) (fun x19 =>
        uX0_appraiseStruck_b100 o0 o1 v2 v3 v4 v5 v6 v7 x19 M)
      else
        uX0_appraiseStruck_b100 o0 o1 v2 v3 v4 v5 v6 v7 0 M))))))))
    else
      uX0_appraiseStruck_b100 o0 o1 v2 v3 v4 v5 v6 v7 0 M)))))
def uX0_appraiseStruck_f23 (o0 : Nat) (o1 : Nat) (v2 : Int) (v3 : Int) (v4 : Int) (v5 : Int) (v6 : Int) (x : Int × Mm) : Option ((Int × Mm) ⊕ (Mm)) := uX0_appraiseStruck_s23 o0 o1 v2 v3 v4 v5 v6 x.1 x.2
def uX0_appraiseStruck_c23 (o0 : Nat) (o1 : Nat) (v2 : Int) (v3 : Int) (v4 : Int) (v5 : Int) (v6 : Int) (b : Mm) : Option Mm := uX0_appraiseStruck_b122 b
def uX0_appraiseStruck_b23 (o0 : Nat) (o1 : Nat) (v2 : Int) (v3 : Int) (v4 : Int) (v5 : Int) (v6 : Int) (v7 : Int) (M : Mm) : Option Mm :=
  bd (lp (uX0_appraiseStruck_f23 o0 o1 v2 v3 v4 v5 v6) fu (v7, M)) (uX0_appraiseStruck_c23 o0 o1 v2 v3 v4 v5 v6)
def uX0_appraiseStruck (o0 : Nat) (o1 : Nat) (v2 : Int) (v3 : Int) (v4 : Int) (M0 : Mm) : Option Mm :=
  bd (gR M0 0 o0 1) (fun on20 =>
  bd (aI 12 M0 on20 v2) (fun x21 =>
  bd (gR M0 8 o1 1) (fun on22 =>
  bd (gR M0 1 on22 11) (fun on23 =>
  bd (aI 12 M0 on23 x21) (fun x24 =>
  uX0_appraiseStruck_b23 o0 o1 v2 v3 v4 x21 x24 0 M0)))))

def uX0_chooseWays_b137 (o0 : Nat) (v1 : Int) (v3 : Int) (M : Mm) : Option Mm :=
  bd (pI M 0 o0 13 (w32 (v1 - v3))) (fun M1 =>
  some M1)
def uX0_chooseWays_b115 (o0 : Nat) (v1 : Int) (v2 : Int) (v3 : Int) (v4 : Int) (v5 : Int) (M : Mm) : Option ((Int × Int × Int × Mm) ⊕ (Int × Mm)) :=
  if v5 < 2 then
    some (.inl (v2, v3, w32 (v4 + 1), M))
  else
    bd (gI M 0 o0 12) (fun x3 =>
    bd (pI M 0 o0 12 (w32 (x3 + 1))) (fun M4 =>
    some (.inl (v2, v3, w32 (v4 + 1), M4))))
def uX0_chooseWays_s20 (o0 : Nat) (v1 : Int) (v2 : Int) (v3 : Int) (v4 : Int) (M : Mm) : Option ((Int × Int × Int × Mm) ⊕ (Int × Mm)) :=
  bd (gI M 0 o0 4) (fun x5 =>
  if x5 ≤ v4 then
    some (.inr (v3, M))
  else
    if 12 ≤ v4 then
      some (.inr (v3, M))
    else
      bd (gI M 0 o0 10) (fun x8 =>
      bd (gI M 0 o0 11) (fun x9 =>
      gK M 0 o0 (
      bd (uX0_firstWay o0 v4 v2 (w32 (x8 - x9)) v3 M) (fun r11 =>
      bd (gR M 0 o0 2) (fun on12 =>
      bd (gR M 0 o0 5) (fun on13 =>
      bd (aI 12 M on13 v4) (fun x14 =>
      bd (sI 12 M on12 x14 r11) (fun M15 =>
      if r11 = 0 then
        uX0_chooseWays_b115 o0 v1 v2 v3 v4 r11 M15
      else
        bd (gR M15 0 o0 6) (fun on17 =>
        bd (aI 12 M15 on17 v4) (fun x18 =>
        bd (gR M15 0 o0 3) (fun on19 =>
        bd (gR M15 0 o0 5) (fun on20 =>
        bd (aI 12 M15 on20 v4) (fun x21 =>
        bd (aI 12 M15 on19 (w32 ((w32 (x21 * 6)) + r11))) (fun x22 =>
        bd (gI M15 0 o0 11) (fun x23 =>
        bd (pI M15 0 o0 11 (w32 (x23 + 1))) (fun M24 =>
        uX0_chooseWays_b115 o0 v1 (w32 (v2 - x18)) (w32 (v3 - x22)) v4 r11 M24)))))))))))))))))
def uX0_chooseWays_f20 (o0 : Nat) (v1 : Int) (x : Int × Int × Int × Mm) : Option ((Int × Int × Int × Mm) ⊕ (Int × Mm)) := uX0_chooseWays_s20 o0 v1 x.1 x.2.1 x.2.2.1 x.2.2.2
def uX0_chooseWays_c20 (o0 : Nat) (v1 : Int) (b : Int × Mm) : Option Mm := uX0_chooseWays_b137 o0 v1 b.1 b.2
def uX0_chooseWays_b20 (o0 : Nat) (v1 : Int) (v2 : Int) (v3 : Int) (v4 : Int) (M : Mm) : Option Mm :=
  bd (lp (uX0_chooseWays_f20 o0 v1) fu (v2, v3, v4, M)) (uX0_chooseWays_c20 o0 v1)
def uX0_chooseWays (o0 : Nat) (v1 : Int) (M0 : Mm) : Option Mm :=
  bd (gI M0 0 o0 9) (fun x25 =>
  bd (pI M0 0 o0 11 0) (fun M26 =>
  bd (pI M26 0 o0 12 0) (fun M27 =>
  uX0_chooseWays_b20 o0 v1 x25 v1 0 M27)))

def uX1_init (o0 : Nat) (M0 : Mm) : Option Mm :=
  bd (pR (nC M0 12 40) 1 o0 9 M0.1.1) (fun M1 =>
  bd (pR (nC M1 12 40) 1 o0 10 M1.1.1) (fun M2 =>
  bd (pR (nC M2 12 40) 1 o0 11 M2.1.1) (fun M3 =>
  bd (pR (nC M3 12 40) 1 o0 12 M3.1.1) (fun M4 =>
  bd (pR (nC M4 12 360) 1 o0 13 M4.1.1) (fun M5 =>
  bd (pR (nC M5 12 360) 1 o0 14 M5.1.1) (fun M6 =>
  gK M6 1 o0 (
  bd (uX1_clear o0 M6) (fun M8 =>
  some M8))))))))

def uX4_depthsFit_b66 (o1 : Nat) (v2 : Int) (v4 : Int) (M0 : Mm) : Option Int :=
  bd (gR M0 8 o1 1) (fun on1 =>
  bd (gR M0 1 on1 12) (fun on2 =>
  bd (aI 12 M0 on2 v2) (fun x3 =>
  if v4 = x3 then
    some 1
  else
    some 0)))
def uX4_depthsFit_s14 (o0 : Nat) (o1 : Nat) (v2 : Int) (M0 : Mm) (v3 : Int) (v4 : Int) (v5 : Int) : Option ((Int × Int × Int) ⊕ ((Int) ⊕ Int)) :=
  if v5 < 0 then
    some (.inr (.inl v4))
  else
    if v3 ≤ 0 then
      some (.inr (.inl v4))
    else
      bd (gR M0 8 o1 1) (fun on7 =>
      gK M0 1 on7 (
      bd (uX1_depthAt on7 v2 v4 M0) (fun r9 =>
      if r9 = v3 then
        bd (gR M0 8 o1 0) (fun on11 =>
        bd (gR M0 3 on11 9) (fun on12 =>
        bd (gR M0 4 o0 3) (fun on13 =>
        bd (aI 12 M0 on13 v5) (fun x14 =>
        bd (aI 12 M0 on12 x14) (fun x15 =>
        some (.inl (w32 (v3 - x15), w32 (v4 + 1), w32 (v5 + (-1)))))))))
      else
        some (.inr (.inr 0)))))
def uX4_depthsFit_f14 (o0 : Nat) (o1 : Nat) (v2 : Int) (M0 : Mm) (x : Int × Int × Int) : Option ((Int × Int × Int) ⊕ ((Int) ⊕ Int)) := uX4_depthsFit_s14 o0 o1 v2 M0 x.1 x.2.1 x.2.2
def uX4_depthsFit_c14 (o0 : Nat) (o1 : Nat) (v2 : Int) (M0 : Mm) (b : (Int) ⊕ Int) : Option Int := Sum.elim (fun b => uX4_depthsFit_b66 o1 v2 b M0) (fun t => some t) b
def uX4_depthsFit_b14 (o0 : Nat) (o1 : Nat) (v2 : Int) (v3 : Int) (v4 : Int) (v5 : Int) (M0 : Mm) : Option Int :=
  bd (lp (uX4_depthsFit_f14 o0 o1 v2 M0) fu (v3, v4, v5)) (uX4_depthsFit_c14 o0 o1 v2 M0)
def uX4_depthsFit (o0 : Nat) (o1 : Nat) (v2 : Int) (M0 : Mm) : Option Int :=
  bd (gI M0 4 o0 0) (fun x16 =>
  uX4_depthsFit_b14 o0 o1 v2 9 0 (w32 (x16 - 1)) M0)

def uX7_advance_b131 (o0 : Nat) (M : Mm) : Option Mm :=
  gK M 7 o0 (
  bd2 (uX7_readRun o0 M) (fun r2 M3 =>
  bd (pI M3 7 o0 4 r2) (fun M4 =>
  bd (gI M4 7 o0 4) (fun x5 =>
  if x5 = 3 then
    bd (gI M4 7 o0 3) (fun x7 =>
    bd (gI M4 7 o0 5) (fun x8 =>
    gK M4 7 o0 (
    bd (uX7_wordKind o0 (w32 (x7 - x8)) M4) (fun r10 =>
    bd (pI M4 7 o0 4 r10) (fun M11 =>
    some M11)))))
  else
    some M4))))
def uX7_advance_b84 (o0 : Nat) (M : Mm) : Option Mm :=
  bd (gI M 7 o0 3) (fun x12 =>
  bd (gI M 7 o0 1) (fun x13 =>
  if x12 < x13 then
    bd (gI M 7 o0 3) (fun x15 =>
    gK M 7 o0 (
    bd (uX7_at o0 x15 M) (fun r17 =>
    bd (uX7_isLetter r17 M) (fun r18 =>
    if r18 = 0 then
      bd (gI M 7 o0 3) (fun x20 =>
      gK M 7 o0 (
      bd (uX7_at o0 x20 M) (fun r22 =>
      bd (uX7_isDigit r22 M) (fun r23 =>
      if r23 = 0 then
        bd (gI M 7 o0 3) (fun x25 =>
        gK M 7 o0 (
        bd (uX7_at o0 x25 M) (fun r27 =>
        bd (uX7_signKind r27 M) (fun r28 =>
        bd (pI M 7 o0 4 r28) (fun M29 =>
        bd (gI M29 7 o0 3) (fun x30 =>
        bd (pI M29 7 o0 3 (w32 (x30 + 1))) (fun M31 =>
        some M31)))))))
      else
        uX7_advance_b131 o0 M))))
    else
      uX7_advance_b131 o0 M))))
  else
    bd (pI M 7 o0 4 0) (fun M32 =>
    some M32)))
def uX7_advance_b38 (o0 : Nat) (M : Mm) : Option Mm :=
  bd (gI M 7 o0 3) (fun x33 =>
  bd (pI M 7 o0 5 x33) (fun M34 =>
  bd (gI M34 7 o0 3) (fun x35 =>
  bd (gI M34 7 o0 2) (fun x36 =>
  if x35 < x36 then
    uX7_advance_b84 o0 M34
  else
    bd (gI M34 7 o0 1) (fun x38 =>
    bd (gI M34 7 o0 2) (fun x39 =>
    if x38 ≤ x39 then
      uX7_advance_b84 o0 M34
    else
      bd (gI M34 7 o0 2) (fun x41 =>
      bd (pI M34 7 o0 5 x41) (fun M42 =>
      bd (pI M42 7 o0 4 1) (fun M43 =>
      some M43)))))))))
def uX7_advance_s0 (o0 : Nat)  (M : Mm) : Option ((Mm) ⊕ (Mm)) :=
  bd (gI M 7 o0 3) (fun x44 =>
  bd (gI M 7 o0 1) (fun x45 =>
  if x45 ≤ x44 then
    some (.inr M)
  else
    bd (gI M 7 o0 3) (fun x47 =>
    gK M 7 o0 (
    bd (uX7_at o0 x47 M) (fun r49 =>
    bd (uX7_isBlank r49 M) (fun r50 =>
    if r50 = 0 then
      some (.inr M)
    else
      bd (gI M 7 o0 3) (fun x52 =>
      bd (pI M 7 o0 3 (w32 (x52 + 1))) (fun M53 =>
      some (.inl M53)))))))))
def uX7_advance_f0 (o0 : Nat) (x : Mm) : Option ((Mm) ⊕ (Mm)) := uX7_advance_s0 o0 x
def uX7_advance_c0 (o0 : Nat) (b : Mm) : Option Mm := uX7_advance_b38 o0 b
def uX7_advance_b0 (o0 : Nat) (M : Mm) : Option Mm :=
  bd (lp (uX7_advance_f0 o0) fu M) (uX7_advance_c0 o0)
def uX7_advance (o0 : Nat) (M0 : Mm) : Option Mm :=
  uX7_advance_b0 o0 M0

def uX8_enact (o0 : Nat) (o1 : Nat) (M0 : Mm) : Option Mm :=
  bd (gR M0 8 o0 0) (fun on1 =>
  gK M0 3 on1 (
  bd (uX3_copyFrom on1 o1 M0) (fun M3 =>
  bd (gR M3 8 o0 1) (fun on4 =>
  gK M3 1 on4 (
  bd (uX1_clear on4 M3) (fun M6 =>
  bd (gR M6 8 o0 4) (fun on7 =>
  gK M6 5 on7 (
  bd (uX5_clear on7 M6) (fun M9 =>
  some M9)))))))))

def uX8_canTrade (o0 : Nat) (v1 : Int) (v2 : Int) (M0 : Mm) : Option Int :=
  gK M0 8 o0 (
  bd (uX8_isAlive o0 v1 M0) (fun r2 =>
  if r2 = 0 then
    some 0
  else
    gK M0 8 o0 (
    bd (uX8_isAlive o0 v2 M0) (fun r5 =>
    if r5 = 0 then
      some 0
    else
      if v1 = v2 then
        some 0
      else
        some 1))))

def uX8_whoShown (o0 : Nat) (v1 : Int) (v2 : Int) (M0 : Mm) : Option Int :=
  bd (gR M0 8 o0 2) (fun on1 =>
  bd (gR M0 8 o0 1) (fun on2 =>
  gK M0 1 on2 (
  bd (uX1_strokeAt on2 v1 v2 M0) (fun r4 =>
  gK M0 6 on1 (
  bd (uX6_at on1 r4 1 M0) (fun r6 =>
  some r6))))))

def uX8_showsFalse_b50  (M0 : Mm) : Option Int :=
  some 0
def uX8_showsFalse_s2 (o0 : Nat) (v1 : Int) (M0 : Mm) (v2 : Int) : Option ((Int) ⊕ ((Unit) ⊕ Int)) :=
  if 9 ≤ v2 then
    some (.inr (.inl ()))
  else
    bd (gR M0 8 o0 1) (fun on2 =>
    gK M0 1 on2 (
    bd (uX1_strokeAt on2 v1 v2 M0) (fun r4 =>
    if r4 = (-1) then
      some (.inr (.inl ()))
    else
      bd (gR M0 8 o0 2) (fun on6 =>
      bd (gR M0 8 o0 1) (fun on7 =>
      gK M0 1 on7 (
      bd (uX1_strokeAt on7 v1 v2 M0) (fun r9 =>
      gK M0 6 on6 (
      bd (uX6_at on6 r9 5 M0) (fun r11 =>
      if r11 = 1 then
        some (.inr (.inr 1))
      else
        some (.inl (w32 (v2 + 1))))))))))))
def uX8_showsFalse_f2 (o0 : Nat) (v1 : Int) (M0 : Mm) (x : Int) : Option ((Int) ⊕ ((Unit) ⊕ Int)) := uX8_showsFalse_s2 o0 v1 M0 x
def uX8_showsFalse_c2 (o0 : Nat) (v1 : Int) (M0 : Mm) (b : (Unit) ⊕ Int) : Option Int := Sum.elim (fun b => uX8_showsFalse_b50 M0) (fun t => some t) b
def uX8_showsFalse_b2 (o0 : Nat) (v1 : Int) (v2 : Int) (M0 : Mm) : Option Int :=
  bd (lp (uX8_showsFalse_f2 o0 v1 M0) fu v2) (uX8_showsFalse_c2 o0 v1 M0)
def uX8_showsFalse (o0 : Nat) (v1 : Int) (M0 : Mm) : Option Int :=
  uX8_showsFalse_b2 o0 v1 0 M0

def uX8_isShown_b52  (M0 : Mm) : Option Int :=
  some 0
def uX8_isShown_s12 (o0 : Nat) (v1 : Int) (v2 : Int) (M0 : Mm) (v3 : Int) : Option ((Int) ⊕ ((Unit) ⊕ Int)) :=
  if 9 ≤ v3 then
    some (.inr (.inl ()))
  else
    bd (gR M0 8 o0 1) (fun on2 =>
    gK M0 1 on2 (
    bd (uX1_strokeAt on2 v2 v3 M0) (fun r4 =>
    if r4 = (-1) then
      some (.inr (.inl ()))
    else
      bd (gR M0 8 o0 1) (fun on6 =>
      gK M0 1 on6 (
      bd (uX1_strokeAt on6 v2 v3 M0) (fun r8 =>
      if r8 = v1 then
        some (.inr (.inr 1))
      else
        some (.inl (w32 (v3 + 1)))))))))
def uX8_isShown_f12 (o0 : Nat) (v1 : Int) (v2 : Int) (M0 : Mm) (x : Int) : Option ((Int) ⊕ ((Unit) ⊕ Int)) := uX8_isShown_s12 o0 v1 v2 M0 x
def uX8_isShown_c12 (o0 : Nat) (v1 : Int) (v2 : Int) (M0 : Mm) (b : (Unit) ⊕ Int) : Option Int := Sum.elim (fun b => uX8_isShown_b52 M0) (fun t => some t) b
def uX8_isShown_b12 (o0 : Nat) (v1 : Int) (v2 : Int) (v3 : Int) (M0 : Mm) : Option Int :=
  bd (lp (uX8_isShown_f12 o0 v1 v2 M0) fu v3) (uX8_isShown_c12 o0 v1 v2 M0)
def uX8_isShown (o0 : Nat) (v1 : Int) (M0 : Mm) : Option Int :=
  bd (gR M0 8 o0 2) (fun on10 =>
  gK M0 6 on10 (
  bd (uX6_at on10 v1 0 M0) (fun r12 =>
  uX8_isShown_b12 o0 v1 r12 0 M0)))

def uX8_coinsBearing_b33 (v2 : Int) (M0 : Mm) : Option Int :=
  some v2
def uX8_coinsBearing_s4 (o0 : Nat) (v1 : Int) (M0 : Mm) (v2 : Int) (v3 : Int) : Option ((Int × Int) ⊕ (Int)) :=
  bd (gR M0 8 o0 1) (fun on1 =>
  bd (gI M0 1 on1 0) (fun x2 =>
  if x2 ≤ v3 then
    some (.inr v2)
  else
    gK M0 8 o0 (
    bd (uX8_whoOnTop o0 v3 M0) (fun r5 =>
    if r5 = v1 then
      some (.inl (w32 (v2 + 1), w32 (v3 + 1)))
    else
      some (.inl (v2, w32 (v3 + 1)))))))
def uX8_coinsBearing_f4 (o0 : Nat) (v1 : Int) (M0 : Mm) (x : Int × Int) : Option ((Int × Int) ⊕ (Int)) := uX8_coinsBearing_s4 o0 v1 M0 x.1 x.2
def uX8_coinsBearing_c4 (o0 : Nat) (v1 : Int) (M0 : Mm) (b : Int) : Option Int := uX8_coinsBearing_b33 b M0
def uX8_coinsBearing_b4 (o0 : Nat) (v1 : Int) (v2 : Int) (v3 : Int) (M0 : Mm) : Option Int :=
  bd (lp (uX8_coinsBearing_f4 o0 v1 M0) fu (v2, v3)) (uX8_coinsBearing_c4 o0 v1 M0)
def uX8_coinsBearing (o0 : Nat) (v1 : Int) (M0 : Mm) : Option Int :=
  uX8_coinsBearing_b4 o0 v1 0 0 M0

def uX8_luckNow_b59 (v1 : Int) (M0 : Mm) : Option Int :=
  some (max32 0 v1)
def uX8_luckNow_s12 (o0 : Nat) (M0 : Mm) (v1 : Int) (v2 : Int) : Option ((Int × Int) ⊕ (Int)) :=
  bd (gR M0 8 o0 1) (fun on1 =>
  bd (gI M0 1 on1 0) (fun x2 =>
  if x2 ≤ v2 then
    some (.inr v1)
  else
    gK M0 8 o0 (
    bd (uX8_whoOnTop o0 v2 M0) (fun r5 =>
    gK M0 8 o0 (
    bd (uX8_isWho o0 r5 M0) (fun r7 =>
    if r7 = 0 then
      some (.inl (v1, w32 (v2 + 1)))
    else
      bd (gR M0 8 o0 0) (fun on9 =>
      bd (gR M0 3 on9 5) (fun on10 =>
      bd (aI 12 M0 on10 r5) (fun x11 =>
      if x11 = 1 then
        some (.inl (w32 (v1 + (-1)), w32 (v2 + 1)))
      else
        some (.inl (v1, w32 (v2 + 1))))))))))))
def uX8_luckNow_f12 (o0 : Nat) (M0 : Mm) (x : Int × Int) : Option ((Int × Int) ⊕ (Int)) := uX8_luckNow_s12 o0 M0 x.1 x.2
def uX8_luckNow_c12 (o0 : Nat) (M0 : Mm) (b : Int) : Option Int := uX8_luckNow_b59 b M0
def uX8_luckNow_b12 (o0 : Nat) (v1 : Int) (v2 : Int) (M0 : Mm) : Option Int :=
  bd (lp (uX8_luckNow_f12 o0 M0) fu (v1, v2)) (uX8_luckNow_c12 o0 M0)
def uX8_luckNow (o0 : Nat) (M0 : Mm) : Option Int :=
  bd (gR M0 8 o0 0) (fun on13 =>
  bd (gR M0 3 on13 11) (fun on14 =>
  bd (aI 12 M0 on14 0) (fun x15 =>
  uX8_luckNow_b12 o0 x15 0 M0)))

def uX8_worth (o0 : Nat) (v1 : Int) (v2 : Int) (v3 : Int) (M0 : Mm) : Option Int :=
  gK M0 8 o0 (
  bd (uX8_isCoin o0 v2 M0) (fun r2 =>
  if r2 = 0 then
    some 0
  else
    bd (gR M0 8 o0 1) (fun on4 =>
    bd (gR M0 1 on4 9) (fun on5 =>
    bd (aI 12 M0 on5 v2) (fun x6 =>
    gK M0 8 o0 (
    bd (uX8_whoOnTop o0 v2 M0) (fun r8 =>
    gK M0 8 o0 (
    bd (uX8_hundredths o0 v1 r8 v3 M0) (fun r10 =>
    bd (div32 (w32 (x6 * r10)) 100) (fun x11 =>
    some x11))))))))))

def uX8_strike (o0 : Nat) (v1 : Int) (v2 : Int) (v3 : Int) (v4 : Int) (v5 : Int) (M0 : Mm) : Option Mm :=
  gK M0 8 o0 (
  bd (uX8_isMint o0 v3 M0) (fun r2 =>
  if r2 = 0 then
    some M0
  else
    gK M0 8 o0 (
    bd (uX8_strokesLeft o0 M0) (fun r5 =>
    if 1 ≤ r5 then
      bd (gR M0 8 o0 1) (fun on7 =>
      bd (gI M0 1 on7 1) (fun x8 =>
      bd (gR M0 8 o0 2) (fun on9 =>
      gK M0 6 on9 (
      bd (uX6_put on9 x8 0 v1 M0) (fun M11 =>
      bd (gR M11 8 o0 2) (fun on12 =>
      gK M11 6 on12 (
      bd (uX6_put on12 x8 1 v2 M11) (fun M14 =>
      bd (gR M14 8 o0 2) (fun on15 =>
      gK M14 6 on15 (
      bd (uX6_put on15 x8 2 v3 M14) (fun M17 =>
      bd (gR M17 8 o0 2) (fun on18 =>
      bd (gR M17 8 o0 1) (fun on19 =>
      bd (gI M17 1 on19 3) (fun x20 =>
      gK M17 6 on18 (
      bd (uX6_put on18 x8 3 x20 M17) (fun M22 =>
      bd (gR M22 8 o0 2) (fun on23 =>
      gK M22 6 on23 (
      bd (uX6_put on23 x8 4 v4 M22) (fun M25 =>
      bd (gR M25 8 o0 2) (fun on26 =>
      gK M25 6 on26 (
      bd (uX6_put on26 x8 5 v5 M25) (fun M28 =>
      bd (gR M28 8 o0 1) (fun on29 =>
      bd (gI M28 1 on29 1) (fun x30 =>
      bd (pI M28 1 on29 1 (w32 (x30 + 1))) (fun M31 =>
      bd (gR M31 8 o0 1) (fun on32 =>
      bd (gR M31 8 o0 0) (fun on33 =>
      bd (gR M31 3 on33 8) (fun on34 =>
      bd (aI 12 M31 on34 v3) (fun x35 =>
      bd (gR M31 8 o0 0) (fun on36 =>
      bd (gR M31 3 on36 9) (fun on37 =>
      bd (aI 12 M31 on37 v3) (fun x38 =>
      gK M31 1 on32 (
      bd (uX1_cover on32 v1 x8 x35 x38 M31) (fun M40 =>
      some M40))))))))))))))))))))))))))))))))))
    else
      some M0))))

def uX9_bears_b99 (v5 : Int) (M0 : Mm) : Option Int :=
  some v5
def uX9_bears_s54 (o0 : Nat) (v2 : Int) (v4 : Int) (M0 : Mm) (v3 : Int) (v5 : Int) : Option ((Int × Int) ⊕ (Int)) :=
  if 9 ≤ v5 then
    some (.inr v5)
  else
    bd (gR M0 9 o0 4) (fun on2 =>
    gK M0 8 on2 (
    bd (uX8_obstacle on2 v3 (w32 (v4 + v5)) v2 M0) (fun r4 =>
    if r4 = 0 then
      bd (gR M0 9 o0 4) (fun on6 =>
      bd (gR M0 8 on6 0) (fun on7 =>
      bd (gR M0 3 on7 8) (fun on8 =>
      bd (aI 12 M0 on8 v2) (fun x9 =>
      some (.inl (w32 (v3 - x9), w32 (v5 + 1)))))))
    else
      some (.inr v5))))
def uX9_bears_f54 (o0 : Nat) (v2 : Int) (v4 : Int) (M0 : Mm) (x : Int × Int) : Option ((Int × Int) ⊕ (Int)) := uX9_bears_s54 o0 v2 v4 M0 x.1 x.2
def uX9_bears_c54 (o0 : Nat) (v2 : Int) (v4 : Int) (M0 : Mm) (b : Int) : Option Int := uX9_bears_b99 b M0
def uX9_bears_b54 (o0 : Nat) (v2 : Int) (v3 : Int) (v4 : Int) (v5 : Int) (M0 : Mm) : Option Int :=
  bd (lp (uX9_bears_f54 o0 v2 v4 M0) fu (v3, v5)) (uX9_bears_c54 o0 v2 v4 M0)
def uX9_bears (o0 : Nat) (v1 : Int) (v2 : Int) (M0 : Mm) : Option Int :=
  bd (gR M0 9 o0 4) (fun on10 =>
  gK M0 8 on10 (
  bd (uX8_isCoin on10 v1 M0) (fun r12 =>
  if r12 = 0 then
    some (-1)
  else
    bd (gR M0 9 o0 4) (fun on14 =>
    gK M0 8 on14 (
    bd (uX8_isMint on14 v2 M0) (fun r16 =>
    if r16 = 0 then
      some (-1)
    else
      bd (gR M0 9 o0 4) (fun on18 =>
      bd (gR M0 8 on18 1) (fun on19 =>
      bd (gR M0 1 on19 9) (fun on20 =>
      bd (aI 12 M0 on20 v1) (fun x21 =>
      bd (gR M0 9 o0 4) (fun on22 =>
      bd (gR M0 8 on22 1) (fun on23 =>
      bd (gR M0 1 on23 11) (fun on24 =>
      bd (aI 12 M0 on24 v1) (fun x25 =>
      uX9_bears_b54 o0 v2 x21 x25 0 M0))))))))))))))

def uX9_foreign_b63 (v1 : Int) (v2 : Int) (M0 : Mm) : Option Int :=
  if v1 = (-1) then
    some v2
  else
    some (-1)
def uX9_foreign_s4 (o0 : Nat) (v1 : Int) (M0 : Mm) (v2 : Int) (v3 : Int) : Option ((Int × Int) ⊕ ((Int) ⊕ Int)) :=
  bd (gR M0 9 o0 4) (fun on2 =>
  bd (gR M0 8 on2 1) (fun on3 =>
  bd (gI M0 1 on3 0) (fun x4 =>
  if x4 ≤ v3 then
    some (.inr (.inl v2))
  else
    if 40 ≤ v3 then
      some (.inr (.inl v2))
    else
      bd (gR M0 9 o0 4) (fun on7 =>
      bd (gR M0 8 on7 1) (fun on8 =>
      bd (gR M0 1 on8 10) (fun on9 =>
      bd (aI 12 M0 on9 v3) (fun x10 =>
      bd (gR M0 9 o0 4) (fun on11 =>
      gK M0 8 on11 (
      bd (uX8_whoOnTop on11 v3 M0) (fun r13 =>
      if x10 = r13 then
        some (.inl (v2, w32 (v3 + 1)))
      else
        if v2 = v1 then
          some (.inr (.inr v3))
        else
          some (.inl (w32 (v2 + 1), w32 (v3 + 1)))))))))))))
def uX9_foreign_f4 (o0 : Nat) (v1 : Int) (M0 : Mm) (x : Int × Int) : Option ((Int × Int) ⊕ ((Int) ⊕ Int)) := uX9_foreign_s4 o0 v1 M0 x.1 x.2
def uX9_foreign_c4 (o0 : Nat) (v1 : Int) (M0 : Mm) (b : (Int) ⊕ Int) : Option Int := Sum.elim (fun b => uX9_foreign_b63 v1 b M0) (fun t => some t) b
def uX9_foreign_b4 (o0 : Nat) (v1 : Int) (v2 : Int) (v3 : Int) (M0 : Mm) : Option Int :=
  bd (lp (uX9_foreign_f4 o0 v1 M0) fu (v2, v3)) (uX9_foreign_c4 o0 v1 M0)
def uX9_foreign (o0 : Nat) (v1 : Int) (M0 : Mm) : Option Int :=
  uX9_foreign_b4 o0 v1 0 0 M0

def uX9_undo (o0 : Nat) (M0 : Mm) : Option (Int × Mm) :=
  bd (gR M0 9 o0 5) (fun on1 =>
  bd (gR M0 9 o0 4) (fun on2 =>
  bd (gR M0 8 on2 1) (fun on3 =>
  gK M0 2 on1 (
  bd2 (uX2_takeBack on1 on3 M0) (fun r5 M6 =>
  some (r5, M6))))))

def uX9_restore (o0 : Nat) (v1 : Int) (M0 : Mm) : Option (Int × Mm) :=
  if v1 < 0 then
    some (0, M0)
  else
    bd (gR M0 9 o0 6) (fun on2 =>
    bd (aL M0 on2) (fun x3 =>
    if x3 ≤ v1 then
      some (0, M0)
    else
      bd (gR M0 9 o0 6) (fun on5 =>
      bd (aR 16 M0 on5 v1) (fun qn6 =>
      if qn6 = none then
        some (0, M0)
      else
        bd (gR M0 9 o0 4) (fun on8 =>
        bd (gR M0 9 o0 6) (fun on9 =>
        bd (aR 16 M0 on9 v1) (fun qn10 =>
        bd qn10 (fun on11 =>
        gK M0 8 on8 (
        bd (uX8_copyFrom on8 on11 M0) (fun M13 =>
        bd (gR M13 9 o0 5) (fun on14 =>
        gK M13 2 on14 (
        bd (uX2_forget on14 M13) (fun M16 =>
        some (1, M16))))))))))))))

def uX10_isWord (o0 : Nat) (v1 : Int) (M0 : Mm) : Option Int :=
  bd (gI M0 10 o0 7) (fun x1 =>
  if x1 = 2 then
    bd (gJ M0 10 o0 12) (fun x3 =>
    bd (uX10_wordOf v1 M0) (fun r4 =>
    if x3 = r4 then
      some 1
    else
      some 0))
  else
    some 0)

def uX10_isName_b38  (M0 : Mm) : Option Int :=
  some 1
def uX10_isName_s12 (o0 : Nat) (M0 : Mm) (v1 : Int) : Option ((Int) ⊕ ((Unit) ⊕ Int)) :=
  if 18 < v1 then
    some (.inr (.inl ()))
  else
    bd (gJ M0 10 o0 12) (fun x2 =>
    bd (uX10_wordOf v1 M0) (fun r3 =>
    if x2 = r3 then
      some (.inr (.inr 0))
    else
      some (.inl (w32 (v1 + 1)))))
def uX10_isName_f12 (o0 : Nat) (M0 : Mm) (x : Int) : Option ((Int) ⊕ ((Unit) ⊕ Int)) := uX10_isName_s12 o0 M0 x
def uX10_isName_c12 (o0 : Nat) (M0 : Mm) (b : (Unit) ⊕ Int) : Option Int := Sum.elim (fun b => uX10_isName_b38 M0) (fun t => some t) b
def uX10_isName_b12 (o0 : Nat) (v1 : Int) (M0 : Mm) : Option Int :=
  bd (lp (uX10_isName_f12 o0 M0) fu v1) (uX10_isName_c12 o0 M0)
def uX10_isName (o0 : Nat) (M0 : Mm) : Option Int :=
  bd (gI M0 10 o0 7) (fun x5 =>
  if x5 = 2 then
    uX10_isName_b12 o0 0 M0
  else
    some 0)

def uX10_readNumber (o0 : Nat) (v1 : Int) (v2 : Int) (M0 : Mm) : Option (Int × Mm) :=
  bd (gI M0 10 o0 7) (fun x1 =>
  if x1 = 3 then
    bd (gI M0 10 o0 8) (fun x3 =>
    bd (uX10_isIn x3 v1 v2 M0) (fun r4 =>
    if r4 = 0 then
      gK M0 10 o0 (
      bd2 (uX10_bad o0 2 M0) (fun r11 M12 =>
      some (r11, M12)))
    else
      bd (gI M0 10 o0 8) (fun x6 =>
      bd (pI M0 10 o0 13 x6) (fun M7 =>
      gK M7 10 o0 (
      bd (uX10_go o0 M7) (fun M9 =>
      some (1, M9)))))))
  else
    gK M0 10 o0 (
    bd2 (uX10_bad o0 1 M0) (fun r14 M15 =>
    some (r14, M15))))

def uX10_readEnd (o0 : Nat) (M0 : Mm) : Option (Int × Mm) :=
  gK M0 10 o0 (
  bd (uX10_isSign o0 59 M0) (fun r2 =>
  if r2 = 0 then
    gK M0 10 o0 (
    bd2 (uX10_bad o0 1 M0) (fun r7 M8 =>
    some (r7, M8)))
  else
    gK M0 10 o0 (
    bd (uX10_go o0 M0) (fun M5 =>
    some (1, M5)))))

def uX10_begin (o0 : Nat) (v1 : Int) (M0 : Mm) : Option Mm :=
  bd (pI M0 10 o0 0 0) (fun M1 =>
  gK M1 10 o0 (
  bd (uX10_lay o0 M1) (fun M3 =>
  gK M3 10 o0 (
  bd2 (uX10_take o0 M3) (fun r5 M6 =>
  bd (pI M6 10 o0 3 r5) (fun M7 =>
  bd (pI M7 10 o0 4 v1) (fun M8 =>
  bd (pI M8 10 o0 10 0) (fun M9 =>
  bd (pI M9 10 o0 5 0) (fun M10 =>
  gK M10 10 o0 (
  bd (uX10_go o0 M10) (fun M12 =>
  some M12)))))))))))

def uX10_who_b119 (v3 : Int) (M : Mm) : Option (Int × Mm) :=
  some (v3, M)
def uX10_who_b111 (o0 : Nat) (v1 : Int) (v2 : Int) (v4 : Int) (vs0 : Int) (vs1 : Int) (M : Mm) : Option ((Int × Int) ⊕ (Int)) :=
  some (.inl (w32 (vs0 + vs1), w32 (v4 + 1)))
def uX10_who_b78 (o0 : Nat) (v1 : Int) (v2 : Int) (v4 : Int) (vs0 : Int) (vs1 : Int) (M : Mm) : Option ((Int × Int) ⊕ (Int)) :=
  some (.inl (w32 (vs0 + vs1), w32 (v4 + 1)))
def uX10_who_s48 (o0 : Nat) (v1 : Int) (v2 : Int) (M : Mm) (v3 : Int) (v4 : Int) : Option ((Int × Int) ⊕ (Int)) :=
  gK M 10 o0 (
  bd (uX10_coins o0 M) (fun r2 =>
  if r2 ≤ v4 then
    some (.inr v3)
  else
    if v2 = 5 then
      gK M 10 o0 (
      bd (uX10_topOf o0 v4 M) (fun r12 =>
      if r12 = v1 then
        uX10_who_b78 o0 v1 v2 v4 v3 1 M
      else
        uX10_who_b78 o0 v1 v2 v4 v3 0 M))
    else
      gK M 10 o0 (
      bd (uX10_ofCoin o0 v4 1 M) (fun r6 =>
      if r6 = v1 then
        if v2 = 3 then
          uX10_who_b111 o0 v1 v2 v4 v3 1 M
        else
          gK M 10 o0 (
          bd (uX10_ofCoin o0 v4 0 M) (fun r10 =>
          uX10_who_b111 o0 v1 v2 v4 v3 r10 M))
      else
        some (.inl (v3, w32 (v4 + 1)))))))
def uX10_who_f48 (o0 : Nat) (v1 : Int) (v2 : Int) (M : Mm) (x : Int × Int) : Option ((Int × Int) ⊕ (Int)) := uX10_who_s48 o0 v1 v2 M x.1 x.2
def uX10_who_c48 (o0 : Nat) (v1 : Int) (v2 : Int) (M : Mm) (b : Int) : Option (Int × Mm) := uX10_who_b119 b M
def uX10_who_b48 (o0 : Nat) (v1 : Int) (v2 : Int) (v3 : Int) (v4 : Int) (M : Mm) : Option (Int × Mm) :=
  bd (lp (uX10_who_f48 o0 v1 v2 M) fu (v3, v4)) (uX10_who_c48 o0 v1 v2 M)
def uX10_who_b21 (o0 : Nat) (M : Mm) : Option (Int × Mm) :=
  gK M 10 o0 (
  bd2 (uX10_refuse o0 M) (fun r15 M16 =>
  some (r15, M16)))
def uX10_who (o0 : Nat) (v1 : Int) (v2 : Int) (M0 : Mm) : Option (Int × Mm) :=
  gK M0 10 o0 (
  bd (uX10_lay o0 M0) (fun M18 =>
  gK M18 10 o0 (
  bd (uX10_isWho o0 v1 M18) (fun r20 =>
  if r20 = 0 then
    uX10_who_b21 o0 M18
  else
    bd (uX10_isIn v2 0 5 M18) (fun r22 =>
    if r22 = 0 then
      uX10_who_b21 o0 M18
    else
      bd (pI M18 10 o0 0 0) (fun M24 =>
      if 3 ≤ v2 then
        uX10_who_b48 o0 v1 v2 0 0 M24
      else
        gK M24 10 o0 (
        bd (uX10_ofWho o0 v1 v2 M24) (fun r27 =>
        some (r27, M24)))))))))
