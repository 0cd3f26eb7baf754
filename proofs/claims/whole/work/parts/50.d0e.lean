def eX9_who (o0 : Nat) (v1 : Int) (v2 : Int) (M0 : Mm) : Option (Int ⊕ Unit) :=
  bd (gR M0 9 o0 4) (fun on1 =>
  gK M0 8 on1 (
  bd (uX8_isWho on1 v1 M0) (fun r3 =>
  if r3 = 0 then
    some (.inr ())
  else
    if v2 = 0 then
      bd (gR M0 9 o0 4) (fun on6 =>
      bd (gR M0 8 on6 0) (fun on7 =>
      bd (gR M0 3 on7 5) (fun on8 =>
      bd (aI 12 M0 on8 v1) (fun x9 =>
      some (.inl x9)))))
    else
      if v2 = 1 then
        bd (gR M0 9 o0 4) (fun on11 =>
        bd (gR M0 8 on11 0) (fun on12 =>
        bd (gR M0 3 on12 6) (fun on13 =>
        bd (aI 12 M0 on13 v1) (fun x14 =>
        some (.inl x14)))))
      else
        if v2 = 2 then
          bd (gR M0 9 o0 4) (fun on16 =>
          bd (gR M0 8 on16 1) (fun on17 =>
          gK M0 1 on17 (
          bd (uX1_isDead on17 v1 M0) (fun r19 =>
          if r19 = 0 then
            some (.inl 0)
          else
            some (.inl 1)))))
        else
          if v2 = 3 then
            bd (gR M0 9 o0 4) (fun on22 =>
            bd (gR M0 8 on22 1) (fun on23 =>
            gK M0 1 on23 (
            bd (uX1_coinsOf on23 v1 M0) (fun r25 =>
            some (.inl r25)))))
          else
            if v2 = 4 then
              bd (gR M0 9 o0 4) (fun on27 =>
              bd (gR M0 8 on27 1) (fun on28 =>
              gK M0 1 on28 (
              bd (uX1_grainsOf on28 v1 M0) (fun r30 =>
              some (.inl r30)))))
            else
              if v2 = 5 then
                bd (gR M0 9 o0 4) (fun on32 =>
                gK M0 8 on32 (
                bd (uX8_coinsBearing on32 v1 M0) (fun r34 =>
                some (.inl r34))))
              else
                some (.inr ()))))

def eX9_mint (o0 : Nat) (v1 : Int) (v2 : Int) (M0 : Mm) : Option (Int ⊕ Unit) :=
  bd (gR M0 9 o0 4) (fun on1 =>
  gK M0 8 on1 (
  bd (uX8_isMint on1 v1 M0) (fun r3 =>
  if r3 = 0 then
    some (.inr ())
  else
    if v2 = 0 then
      bd (gR M0 9 o0 4) (fun on6 =>
      bd (gR M0 8 on6 0) (fun on7 =>
      bd (gR M0 3 on7 8) (fun on8 =>
      bd (aI 12 M0 on8 v1) (fun x9 =>
      some (.inl x9)))))
    else
      if v2 = 1 then
        bd (gR M0 9 o0 4) (fun on11 =>
        bd (gR M0 8 on11 0) (fun on12 =>
        bd (gR M0 3 on12 9) (fun on13 =>
        bd (aI 12 M0 on13 v1) (fun x14 =>
        some (.inl x14)))))
      else
        if v2 = 2 then
          bd (gR M0 9 o0 4) (fun on16 =>
          bd (gR M0 8 on16 1) (fun on17 =>
          gK M0 1 on17 (
          bd (uX1_isClosed on17 v1 M0) (fun r19 =>
          if r19 = 0 then
            some (.inl 0)
          else
            some (.inl 1)))))
        else
          if v2 = 3 then
            bd (gR M0 9 o0 4) (fun on22 =>
            gK M0 8 on22 (
            bd (uX8_strokesAt on22 v1 M0) (fun r24 =>
            some (.inl r24))))
          else
            some (.inr ()))))

def eX9_of (o0 : Nat) (v1 : Int) (v2 : Int) (M0 : Mm) : Option (Int ⊕ Unit) :=
  bd (gR M0 9 o0 4) (fun on1 =>
  gK M0 8 on1 (
  bd (uX8_isCoin on1 v1 M0) (fun r3 =>
  if r3 = 0 then
    some (.inr ())
  else
    if v2 = 0 then
      bd (gR M0 9 o0 4) (fun on6 =>
      bd (gR M0 8 on6 1) (fun on7 =>
      bd (gR M0 1 on7 9) (fun on8 =>
      bd (aI 12 M0 on8 v1) (fun x9 =>
      some (.inl x9)))))
    else
      if v2 = 1 then
        bd (gR M0 9 o0 4) (fun on11 =>
        bd (gR M0 8 on11 1) (fun on12 =>
        bd (gR M0 1 on12 10) (fun on13 =>
        bd (aI 12 M0 on13 v1) (fun x14 =>
        some (.inl x14)))))
      else
        if v2 = 2 then
          bd (gR M0 9 o0 4) (fun on16 =>
          bd (gR M0 8 on16 1) (fun on17 =>
          bd (gR M0 1 on17 12) (fun on18 =>
          bd (aI 12 M0 on18 v1) (fun x19 =>
          some (.inl x19)))))
        else
          if v2 = 3 then
            bd (gR M0 9 o0 4) (fun on21 =>
            bd (gR M0 8 on21 1) (fun on22 =>
            bd (gR M0 1 on22 11) (fun on23 =>
            bd (aI 12 M0 on23 v1) (fun x24 =>
            some (.inl x24)))))
          else
            if v2 = 4 then
              bd (gR M0 9 o0 4) (fun on26 =>
              gK M0 8 on26 (
              bd (uX8_showsFalse on26 v1 M0) (fun r28 =>
              if r28 = 0 then
                some (.inl 0)
              else
                some (.inl 1))))
            else
              some (.inr ()))))

def eX9_sold_b38  (M0 : Mm) : Option (Int ⊕ Unit) :=
  some (.inr ())
def eX9_sold_b18  (M0 : Mm) : Option (Int ⊕ Unit) :=
  some (.inr ())
def eX9_sold (o0 : Nat) (v1 : Int) (v2 : Int) (M0 : Mm) : Option (Int ⊕ Unit) :=
  if v1 < 0 then
    eX9_sold_b18 M0
  else
    bd (gR M0 9 o0 4) (fun on2 =>
    bd (gR M0 8 on2 1) (fun on3 =>
    bd (gI M0 1 on3 2) (fun x4 =>
    if v1 < x4 then
      if v2 < 0 then
        eX9_sold_b38 M0
      else
        if v2 < 7 then
          bd (gR M0 9 o0 4) (fun on8 =>
          bd (gR M0 8 on8 3) (fun on9 =>
          gK M0 6 on9 (
          bd (uX6_at on9 v1 v2 M0) (fun r11 =>
          some (.inl r11)))))
        else
          eX9_sold_b38 M0
    else
      eX9_sold_b18 M0)))

def eX9_stroke_b39  (M0 : Mm) : Option (Int ⊕ Unit) :=
  some (.inr ())
def eX9_stroke_b18  (M0 : Mm) : Option (Int ⊕ Unit) :=
  some (.inr ())
def eX9_stroke (o0 : Nat) (v1 : Int) (v2 : Int) (M0 : Mm) : Option (Int ⊕ Unit) :=
  if v1 < 0 then
    eX9_stroke_b18 M0
  else
    bd (gR M0 9 o0 4) (fun on2 =>
    bd (gR M0 8 on2 1) (fun on3 =>
    bd (gI M0 1 on3 1) (fun x4 =>
    if v1 < x4 then
      if v2 < 0 then
        eX9_stroke_b39 M0
      else
        if v2 ≤ 6 then
          if v2 = 6 then
            bd (gR M0 9 o0 4) (fun on13 =>
            gK M0 8 on13 (
            bd (uX8_isShown on13 v1 M0) (fun r15 =>
            if r15 = 0 then
              some (.inl 0)
            else
              some (.inl 1))))
          else
            bd (gR M0 9 o0 4) (fun on9 =>
            bd (gR M0 8 on9 2) (fun on10 =>
            gK M0 6 on10 (
            bd (uX6_at on10 v1 v2 M0) (fun r12 =>
            some (.inl r12)))))
        else
          eX9_stroke_b39 M0
    else
      eX9_stroke_b18 M0)))
