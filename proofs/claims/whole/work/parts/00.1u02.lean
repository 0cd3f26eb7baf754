def uX5_readAll_b60 (rc : Nat → Nat → Nat → Int → Mm → Option (Int × Mm)) (v4 : Int) (M : Mm) : Option (Int × Mm) :=
  some (v4, M)
def uX5_readAll_s12 (rc : Nat → Nat → Nat → Int → Mm → Option (Int × Mm)) (o0 : Nat) (o1 : Nat) (o2 : Nat) (v3 : Int) (v4 : Int) (v5 : Int) (M : Mm) : Option ((Int × Int × Mm) ⊕ (Int × Mm)) :=
  if 20 ≤ v5 then
    some (.inr (v4, M))
  else
    if v4 = 0 then
      bd (gI M 7 o1 4) (fun x3 =>
      if x3 = 20 then
        gK M 7 o1 (
        bd (uX7_advance o1 M) (fun M6 =>
        gK M6 5 o0 (
        bd2 (rc o0 o1 o2 v3 M6) (fun r8 M9 =>
        gK M9 5 o0 (
        bd (uX5_add o0 20 0 0 M9) (fun M11 =>
        some (.inl (r8, w32 (v5 + 1), M11))))))))
      else
        some (.inr (v4, M)))
    else
      some (.inr (v4, M))
def uX5_readAll_f12 (rc : Nat → Nat → Nat → Int → Mm → Option (Int × Mm)) (o0 : Nat) (o1 : Nat) (o2 : Nat) (v3 : Int) (x : Int × Int × Mm) : Option ((Int × Int × Mm) ⊕ (Int × Mm)) := uX5_readAll_s12 rc o0 o1 o2 v3 x.1 x.2.1 x.2.2
def uX5_readAll_c12 (rc : Nat → Nat → Nat → Int → Mm → Option (Int × Mm)) (o0 : Nat) (o1 : Nat) (o2 : Nat) (v3 : Int) (b : Int × Mm) : Option (Int × Mm) := uX5_readAll_b60 rc b.1 b.2
def uX5_readAll_b12 (rc : Nat → Nat → Nat → Int → Mm → Option (Int × Mm)) (o0 : Nat) (o1 : Nat) (o2 : Nat) (v3 : Int) (v4 : Int) (v5 : Int) (M : Mm) : Option (Int × Mm) :=
  bd (lp (uX5_readAll_f12 rc o0 o1 o2 v3) fu (v4, v5, M)) (uX5_readAll_c12 rc o0 o1 o2 v3)
def uX5_readAll (rc : Nat → Nat → Nat → Int → Mm → Option (Int × Mm)) (o0 : Nat) (o1 : Nat) (o2 : Nat) (v3 : Int) (M0 : Mm) : Option (Int × Mm) :=
  gK M0 5 o0 (
  bd2 (rc o0 o1 o2 v3 M0) (fun r13 M14 =>
  uX5_readAll_b12 rc o0 o1 o2 v3 r13 0 M14))

def uX5_readCond_b60 (rc : Nat → Nat → Nat → Int → Mm → Option (Int × Mm)) (v4 : Int) (M : Mm) : Option (Int × Mm) :=
  some (v4, M)
def uX5_readCond_s12 (rc : Nat → Nat → Nat → Int → Mm → Option (Int × Mm)) (o0 : Nat) (o1 : Nat) (o2 : Nat) (v3 : Int) (v4 : Int) (v5 : Int) (M : Mm) : Option ((Int × Int × Mm) ⊕ (Int × Mm)) :=
  if 20 ≤ v5 then
    some (.inr (v4, M))
  else
    if v4 = 0 then
      bd (gI M 7 o1 4) (fun x3 =>
      if x3 = 19 then
        gK M 7 o1 (
        bd (uX7_advance o1 M) (fun M6 =>
        gK M6 5 o0 (
        bd2 (uX5_readAll rc o0 o1 o2 v3 M6) (fun r8 M9 =>
        gK M9 5 o0 (
        bd (uX5_add o0 19 0 0 M9) (fun M11 =>
        some (.inl (r8, w32 (v5 + 1), M11))))))))
      else
        some (.inr (v4, M)))
    else
      some (.inr (v4, M))
def uX5_readCond_f12 (rc : Nat → Nat → Nat → Int → Mm → Option (Int × Mm)) (o0 : Nat) (o1 : Nat) (o2 : Nat) (v3 : Int) (x : Int × Int × Mm) : Option ((Int × Int × Mm) ⊕ (Int × Mm)) := uX5_readCond_s12 rc o0 o1 o2 v3 x.1 x.2.1 x.2.2
def uX5_readCond_c12 (rc : Nat → Nat → Nat → Int → Mm → Option (Int × Mm)) (o0 : Nat) (o1 : Nat) (o2 : Nat) (v3 : Int) (b : Int × Mm) : Option (Int × Mm) := uX5_readCond_b60 rc b.1 b.2
def uX5_readCond_b12 (rc : Nat → Nat → Nat → Int → Mm → Option (Int × Mm)) (o0 : Nat) (o1 : Nat) (o2 : Nat) (v3 : Int) (v4 : Int) (v5 : Int) (M : Mm) : Option (Int × Mm) :=
  bd (lp (uX5_readCond_f12 rc o0 o1 o2 v3) fu (v4, v5, M)) (uX5_readCond_c12 rc o0 o1 o2 v3)
def uX5_readCond (rc : Nat → Nat → Nat → Int → Mm → Option (Int × Mm)) (o0 : Nat) (o1 : Nat) (o2 : Nat) (v3 : Int) (M0 : Mm) : Option (Int × Mm) :=
  gK M0 5 o0 (
  bd2 (uX5_readAll rc o0 o1 o2 v3 M0) (fun r13 M14 =>
  uX5_readCond_b12 rc o0 o1 o2 v3 r13 0 M14))

def uX5_readBracket (rc : Nat → Nat → Nat → Int → Mm → Option (Int × Mm)) (o0 : Nat) (o1 : Nat) (o2 : Nat) (v3 : Int) (M0 : Mm) : Option (Int × Mm) :=
  gK M0 5 o0 (
  bd2 (uX5_readCond rc o0 o1 o2 (w32 (v3 + 1)) M0) (fun r2 M3 =>
  if r2 = 0 then
    bd (gI M3 7 o1 4) (fun x5 =>
    if x5 = 9 then
      gK M3 7 o1 (
      bd (uX7_advance o1 M3) (fun M8 =>
      some (0, M8)))
    else
      some (1, M3))
  else
    some (r2, M3)))

def uX5_readNot (rc : Nat → Nat → Nat → Int → Mm → Option (Int × Mm)) (o0 : Nat) (o1 : Nat) (o2 : Nat) (v3 : Int) (M0 : Mm) : Option (Int × Mm) :=
  gK M0 5 o0 (
  bd2 (rc o0 o1 o2 (w32 (v3 + 1)) M0) (fun r2 M3 =>
  gK M3 5 o0 (
  bd (uX5_add o0 21 0 0 M3) (fun M5 =>
  some (r2, M5)))))

def uX5_readOne_b29 (rc : Nat → Nat → Nat → Int → Mm → Option (Int × Mm)) (o0 : Nat) (o1 : Nat) (o2 : Nat) (v3 : Int) (v4 : Int) (M : Mm) : Option (Int × Mm) :=
  bd (gI M 5 o0 0) (fun x1 =>
  if 20 ≤ x1 then
    some (4, M)
  else
    if v3 ≤ 8 then
      bd (gI M 5 o0 0) (fun x4 =>
      bd (pI M 5 o0 0 (w32 (x4 + 1))) (fun M5 =>
      gK M5 7 o1 (
      bd (uX7_advance o1 M5) (fun M7 =>
      if v4 = 8 then
        gK M7 5 o0 (
        bd2 (uX5_readBracket rc o0 o1 o2 v3 M7) (fun r10 M11 =>
        some (r10, M11)))
      else
        if v4 = 9 then
          gK M7 5 o0 (
          bd2 (uX5_readMeasure o0 o1 v4 M7) (fun r14 M15 =>
          some (r14, M15)))
        else
          if v4 = 10 then
            gK M7 5 o0 (
            bd2 (uX5_readMeasure o0 o1 v4 M7) (fun r18 M19 =>
            some (r18, M19)))
          else
            if v4 = 11 then
              gK M7 5 o0 (
              bd2 (uX5_readMeasure o0 o1 v4 M7) (fun r22 M23 =>
              some (r22, M23)))
            else
              if v4 = 12 then
                gK M7 5 o0 (
                bd2 (uX5_readMeasure o0 o1 v4 M7) (fun r26 M27 =>
                some (r26, M27)))
              else
                if v4 = 13 then
                  gK M7 5 o0 (
                  bd2 (uX5_readMeasure o0 o1 v4 M7) (fun r30 M31 =>
                  some (r30, M31)))
                else
                  if v4 = 14 then
                    gK M7 5 o0 (
                    bd2 (uX5_readMeasure o0 o1 v4 M7) (fun r34 M35 =>
                    some (r34, M35)))
                  else
                    if v4 = 15 then
                      gK M7 5 o0 (
                      bd2 (uX5_readMeasure o0 o1 v4 M7) (fun r38 M39 =>
                      some (r38, M39)))
                    else
                      if v4 = 16 then
                        gK M7 5 o0 (
                        bd2 (uX5_readMeasure o0 o1 v4 M7) (fun r42 M43 =>
                        some (r42, M43)))
                      else
                        if v4 = 17 then
                          gK M7 5 o0 (
                          bd2 (uX5_readMeasure o0 o1 v4 M7) (fun r46 M47 =>
                          some (r46, M47)))
                        else
                          if v4 = 18 then
                            gK M7 5 o0 (
                            bd2 (uX5_readMeasure o0 o1 v4 M7) (fun r50 M51 =>
                            some (r50, M51)))
                          else
                            if v4 = 19 then
                              gK M7 5 o0 (
                              bd2 (uX5_readMeasure o0 o1 v4 M7) (fun r54 M55 =>
                              some (r54, M55)))
                            else
                              if v4 = 20 then
                                gK M7 5 o0 (
                                bd2 (uX5_readMeasure o0 o1 v4 M7) (fun r58 M59 =>
                                some (r58, M59)))
                              else
                                if v4 = 21 then
                                  gK M7 5 o0 (
                                  bd2 (uX5_readNot rc o0 o1 o2 v3 M7) (fun r62 M63 =>
                                  some (r62, M63)))
                                else
                                  if v4 = 22 then
                                    gK M7 5 o0 (
                                    bd2 (uX5_readOfWho o0 o1 o2 v4 M7) (fun r66 M67 =>
                                    some (r66, M67)))
                                  else
                                    if v4 = 23 then
                                      gK M7 5 o0 (
                                      bd2 (uX5_readOfWho o0 o1 o2 v4 M7) (fun r70 M71 =>
                                      some (r70, M71)))
                                    else
                                      if v4 = 24 then
                                        gK M7 5 o0 (
                                        bd2 (uX5_readOfWho o0 o1 o2 v4 M7) (fun r74 M75 =>
                                        some (r74, M75)))
                                      else
                                        if v4 = 25 then
                                          gK M7 5 o0 (
                                          bd (uX5_add o0 v4 0 0 M7) (fun M78 =>
                                          some (0, M78)))
                                        else
                                          gK M7 5 o0 (
                                          bd2 (uX5_readMeasure o0 o1 v4 M7) (fun r80 M81 =>
                                          some (r80, M81)))))))
    else
      some (4, M))
def uX5_readOne_o (rc : Nat → Nat → Nat → Int → Mm → Option (Int × Mm)) (o0 : Nat) (o1 : Nat) (o2 : Nat) (v3 : Int) (M0 : Mm) : Option (Int × Mm) :=
  bd (gI M0 7 o1 4) (fun x82 =>
  if x82 = 8 then
    uX5_readOne_b29 rc o0 o1 o2 v3 x82 M0
  else
    if x82 < 21 then
      some (1, M0)
    else
      if x82 ≤ 28 then
        uX5_readOne_b29 rc o0 o1 o2 v3 x82 M0
      else
        some (1, M0))

def uX5_readOne : Nat → Nat → Nat → Nat → Int → Mm → Option (Int × Mm)
  | 0 => fun _ _ _ _ _ => none
  | n + 1 => uX5_readOne_o (uX5_readOne n)

def uX3_readFrom_b72 (v2 : Int) (M : Mm) : Option (Int × Mm) :=
  some (v2, M)
def uX3_readFrom_b51 (o0 : Nat) (o1 : Nat) (v2 : Int) (M : Mm) : Option ((Int × Mm) ⊕ (Int × Mm)) :=
  if v2 = 0 then
    gK M 7 o1 (
    bd (uX7_advance o1 M) (fun M3 =>
    bd (gI M3 3 o0 0) (fun x4 =>
    bd (pI M3 3 o0 0 (w32 (x4 + 1))) (fun M5 =>
    some (.inl (v2, M5))))))
  else
    some (.inl (v2, M))
def uX3_readFrom_s10 (o0 : Nat) (o1 : Nat) (v2 : Int) (M : Mm) : Option ((Int × Mm) ⊕ (Int × Mm)) :=
  bd (gI M 3 o0 0) (fun x6 =>
  if 700 ≤ x6 then
    some (.inr (v2, M))
  else
    if v2 = 0 then
      bd (gI M 7 o1 4) (fun x9 =>
      if x9 = 0 then
        some (.inr (v2, M))
      else
        gK M 3 o0 (
        bd2 (uX3_readLine o0 o1 M) (fun r12 M13 =>
        if r12 = 0 then
          bd (gI M13 7 o1 4) (fun x15 =>
          if x15 = 4 then
            uX3_readFrom_b51 o0 o1 r12 M13
          else
            uX3_readFrom_b51 o0 o1 1 M13)
        else
          uX3_readFrom_b51 o0 o1 r12 M13)))
    else
      some (.inr (v2, M)))
def uX3_readFrom_f10 (o0 : Nat) (o1 : Nat) (x : Int × Mm) : Option ((Int × Mm) ⊕ (Int × Mm)) := uX3_readFrom_s10 o0 o1 x.1 x.2
def uX3_readFrom_c10 (o0 : Nat) (o1 : Nat) (b : Int × Mm) : Option (Int × Mm) := uX3_readFrom_b72 b.1 b.2
def uX3_readFrom_b10 (o0 : Nat) (o1 : Nat) (v2 : Int) (M : Mm) : Option (Int × Mm) :=
  bd (lp (uX3_readFrom_f10 o0 o1) fu (v2, M)) (uX3_readFrom_c10 o0 o1)
def uX3_readFrom (o0 : Nat) (o1 : Nat) (M0 : Mm) : Option (Int × Mm) :=
  gK M0 3 o0 (
  bd (uX3_clear o0 M0) (fun M18 =>
  gK M18 7 o1 (
  bd (uX7_advance o1 M18) (fun M20 =>
  uX3_readFrom_b10 o0 o1 0 M20))))

def uX5_readFrom (o0 : Nat) (o1 : Nat) (o2 : Nat) (M0 : Mm) : Option (Int × Mm) :=
  gK M0 5 o0 (
  bd (uX5_clear o0 M0) (fun M2 =>
  gK M2 7 o1 (
  bd (uX7_advance o1 M2) (fun M4 =>
  gK M4 5 o0 (
  bd2 (uX5_readCond (uX5_readOne 12) o0 o1 o2 1 M4) (fun r6 M7 =>
  if r6 = 0 then
    bd (gI M7 7 o1 4) (fun x9 =>
    if x9 = 0 then
      some (r6, M7)
    else
      some (1, M7))
  else
    some (r6, M7)))))))

def uX5_holds_b132 (v3 : Int) (M0 : Mm) : Option Int :=
  if (and32 v3 1) = 0 then
    some 0
  else
    some 1
def uX5_holds_b124 (o0 : Nat) (o1 : Nat) (v2 : Int) (v4 : Int) (vs0 : Int) (vs1 : Int) (M0 : Mm) : Option ((Int × Int) ⊕ (Int)) :=
  some (.inl (or32 vs0 vs1, w32 (v4 + 1)))
def uX5_holds_s5 (o0 : Nat) (o1 : Nat) (v2 : Int) (M0 : Mm) (v3 : Int) (v4 : Int) : Option ((Int × Int) ⊕ (Int)) :=
  bd (gI M0 5 o0 1) (fun x2 =>
  if x2 ≤ v4 then
    some (.inr v3)
  else
    if 40 ≤ v4 then
      some (.inr v3)
    else
      bd (gR M0 5 o0 2) (fun on5 =>
      bd (aI 12 M0 on5 v4) (fun x6 =>
      if x6 = 19 then
        some (.inl (or32 (or32 (shl32 (ushr32 v3 2) 1) (and32 v3 1)) (and32 (ushr32 v3 1) 1), w32 (v4 + 1)))
      else
        if x6 = 20 then
          some (.inl (or32 (shl32 (ushr32 v3 2) 1) (and32 (and32 v3 1) (and32 (ushr32 v3 1) 1)), w32 (v4 + 1)))
        else
          if x6 = 21 then
            some (.inl (xor32 v3 1, w32 (v4 + 1)))
          else
            gK M0 5 o0 (
            bd (uX5_stepHolds o0 o1 v2 v4 M0) (fun r11 =>
            if r11 = 0 then
              uX5_holds_b124 o0 o1 v2 v4 (shl32 v3 1) 0 M0
            else
              uX5_holds_b124 o0 o1 v2 v4 (shl32 v3 1) 1 M0)))))
def uX5_holds_f5 (o0 : Nat) (o1 : Nat) (v2 : Int) (M0 : Mm) (x : Int × Int) : Option ((Int × Int) ⊕ (Int)) := uX5_holds_s5 o0 o1 v2 M0 x.1 x.2
def uX5_holds_c5 (o0 : Nat) (o1 : Nat) (v2 : Int) (M0 : Mm) (b : Int) : Option Int := uX5_holds_b132 b M0
def uX5_holds_b5 (o0 : Nat) (o1 : Nat) (v2 : Int) (v3 : Int) (v4 : Int) (M0 : Mm) : Option Int :=
  bd (lp (uX5_holds_f5 o0 o1 v2 M0) fu (v3, v4)) (uX5_holds_c5 o0 o1 v2 M0)
def uX5_holds (o0 : Nat) (o1 : Nat) (v2 : Int) (M0 : Mm) : Option Int :=
  uX5_holds_b5 o0 o1 v2 0 0 M0

def uX9_sale_b256  (M : Mm) : Option (Int × Mm) :=
  some (0, M)
def uX9_sale_s223 (o0 : Nat) (v2 : Int) (v3 : Int) (v5 : Int) (v9 : Int) (v10 : Int) (M : Mm) : Option ((Int × Mm) ⊕ (Mm)) :=
  if v5 ≤ v10 then
    some (.inr M)
  else
    bd (gR M 9 o0 4) (fun on2 =>
    bd (gR M 9 o0 0) (fun on3 =>
    gK M 7 on3 (
    bd (uX7_at on3 v10 M) (fun r5 =>
    gK M 8 on2 (
    bd (uX8_handOver on2 r5 v2 v3 v9 M) (fun M7 =>
    some (.inl (w32 (v10 + 1), M7))))))))
def uX9_sale_f223 (o0 : Nat) (v2 : Int) (v3 : Int) (v5 : Int) (v9 : Int) (x : Int × Mm) : Option ((Int × Mm) ⊕ (Mm)) := uX9_sale_s223 o0 v2 v3 v5 v9 x.1 x.2
def uX9_sale_c223 (o0 : Nat) (v2 : Int) (v3 : Int) (v5 : Int) (v9 : Int) (b : Mm) : Option (Int × Mm) := uX9_sale_b256 b
def uX9_sale_b223 (o0 : Nat) (v2 : Int) (v3 : Int) (v5 : Int) (v9 : Int) (v10 : Int) (M : Mm) : Option (Int × Mm) :=
  bd (lp (uX9_sale_f223 o0 v2 v3 v5 v9) fu (v10, M)) (uX9_sale_c223 o0 v2 v3 v5 v9)
def uX9_sale_b164 (o0 : Nat) (v1 : Int) (v2 : Int) (v3 : Int) (v4 : Int) (v5 : Int) (v8 : Int) (M : Mm) : Option (Int × Mm) :=
  if v4 ≤ v8 then
    bd (gR M 9 o0 4) (fun on9 =>
    gK M 8 on9 (
    bd (uX8_strokesLeft on9 M) (fun r11 =>
    if v5 ≤ r11 then
      bd (gR M 9 o0 5) (fun on13 =>
      bd (gR M 9 o0 4) (fun on14 =>
      bd (gR M 8 on14 1) (fun on15 =>
      gK M 2 on13 (
      bd (uX2_keep on13 on15 M) (fun M17 =>
      bd (gR M17 9 o0 4) (fun on18 =>
      gK M17 8 on18 (
      bd2 (uX8_recordSale on18 v1 v2 v3 v4 v5 v8 M17) (fun r20 M21 =>
      uX9_sale_b223 o0 v2 v3 v5 r20 0 M21))))))))
    else
      some ((-1), M))))
  else
    some (7, M)
def uX9_sale_s127 (o0 : Nat) (v1 : Int) (v2 : Int) (v3 : Int) (v4 : Int) (v5 : Int) (v6 : Int) (M : Mm) (v8 : Int) (v9 : Int) : Option ((Int × Int) ⊕ (Int)) :=
  if v5 ≤ v9 then
    some (.inr v8)
  else
    bd (gR M 9 o0 4) (fun on23 =>
    bd (gR M 9 o0 0) (fun on24 =>
    gK M 7 on24 (
    bd (uX7_at on24 v9 M) (fun r26 =>
    gK M 8 on23 (
    bd (uX8_worth on23 v2 r26 v6 M) (fun r28 =>
    some (.inl (w32 (v8 + r28), w32 (v9 + 1)))))))))
def uX9_sale_f127 (o0 : Nat) (v1 : Int) (v2 : Int) (v3 : Int) (v4 : Int) (v5 : Int) (v6 : Int) (M : Mm) (x : Int × Int) : Option ((Int × Int) ⊕ (Int)) := uX9_sale_s127 o0 v1 v2 v3 v4 v5 v6 M x.1 x.2
def uX9_sale_c127 (o0 : Nat) (v1 : Int) (v2 : Int) (v3 : Int) (v4 : Int) (v5 : Int) (v6 : Int) (M : Mm) (b : Int) : Option (Int × Mm) := uX9_sale_b164 o0 v1 v2 v3 v4 v5 b M
def uX9_sale_b127 (o0 : Nat) (v1 : Int) (v2 : Int) (v3 : Int) (v4 : Int) (v5 : Int) (v6 : Int) (v8 : Int) (v9 : Int) (M : Mm) : Option (Int × Mm) :=
  bd (lp (uX9_sale_f127 o0 v1 v2 v3 v4 v5 v6 M) fu (v8, v9)) (uX9_sale_c127 o0 v1 v2 v3 v4 v5 v6 M)
def uX9_sale (o0 : Nat) (v1 : Int) (v2 : Int) (v3 : Int) (v4 : Int) (M0 : Mm) : Option (Int × Mm) :=
  bd (gR M0 9 o0 0) (fun on29 =>
  bd (gI M0 7 on29 1) (fun x30 =>
  bd (gR M0 9 o0 0) (fun on31 =>
  bd (pI M0 7 on31 1 0) (fun M32 =>
  bd (gR M32 9 o0 4) (fun on33 =>
  gK M32 8 on33 (
  bd (uX8_isWho on33 v1 M32) (fun r35 =>
  if r35 = 0 then
    some ((-1), M32)
  else
    bd (gR M32 9 o0 4) (fun on37 =>
    gK M32 8 on37 (
    bd (uX8_isWho on37 v2 M32) (fun r39 =>
    if r39 = 0 then
      some ((-1), M32)
    else
      bd (gR M32 9 o0 4) (fun on41 =>
      gK M32 8 on41 (
      bd (uX8_isMint on41 v3 M32) (fun r43 =>
      if r43 = 0 then
        some ((-1), M32)
      else
        if v4 < 1 then
          some ((-1), M32)
        else
          if 9999 < v4 then
            some ((-1), M32)
          else
            gK M32 9 o0 (
            bd (uX9_tellsUnlikeCoins o0 x30 M32) (fun r48 =>
            if r48 = 0 then
              some ((-1), M32)
            else
              bd (gR M32 9 o0 4) (fun on50 =>
              gK M32 8 on50 (
              bd (uX8_canTrade on50 v1 v2 M32) (fun r52 =>
              if r52 = 0 then
                some (1, M32)
              else
                bd (gR M32 9 o0 4) (fun on54 =>
                gK M32 8 on54 (
                bd (uX8_luckNow on54 M32) (fun r56 =>
                gK M32 9 o0 (
                bd (uX9_leastWrong o0 v1 v2 v3 x30 r56 M32) (fun r58 =>
                if r58 = 0 then
                  uX9_sale_b127 o0 v1 v2 v3 v4 x30 r56 0 0 M32
                else
                  some (r58, M32))))))))))))))))))))))))

def uX9_payment (o0 : Nat) (v1 : Int) (v2 : Int) (v3 : Int) (v4 : Int) (M0 : Mm) : Option (Int × Mm) :=
  gK M0 9 o0 (
  bd (uX9_payable o0 v1 v2 v3 v4 M0) (fun r2 =>
  if r2 = 0 then
    some ((-2), M0)
  else
    bd (gR M0 9 o0 7) (fun on4 =>
    bd (gR M0 9 o0 4) (fun on5 =>
    gK M0 0 on4 (
    bd2 (uX0_find on4 on5 v1 v2 v3 v4 M0) (fun r7 M8 =>
    if r7 = (-1) then
      some (r7, M8)
    else
      gK M8 9 o0 (
      bd (uX9_tellPaid o0 M8) (fun M11 =>
      some (r7, M11)))))))))

def uX9_buy (o0 : Nat) (v1 : Int) (v2 : Int) (v3 : Int) (v4 : Int) (M0 : Mm) : Option (Int × Mm) :=
  gK M0 9 o0 (
  bd (uX9_payable o0 v1 v2 v3 v4 M0) (fun r2 =>
  if r2 = 0 then
    some ((-2), M0)
  else
    bd (gR M0 9 o0 7) (fun on4 =>
    bd (gR M0 9 o0 4) (fun on5 =>
    gK M0 0 on4 (
    bd2 (uX0_find on4 on5 v1 v2 v3 v4 M0) (fun r7 M8 =>
    if r7 = (-1) then
      some ((-1), M8)
    else
      gK M8 9 o0 (
      bd (uX9_tellPaid o0 M8) (fun M11 =>
      bd (gR M11 9 o0 4) (fun on12 =>
      gK M11 8 on12 (
      bd (uX8_strokesLeft on12 M11) (fun r14 =>
      bd (gR M11 9 o0 7) (fun on15 =>
      gK M11 0 on15 (
      bd (uX0_strokesNeeded on15 M11) (fun r17 =>
      if r17 ≤ r14 then
        bd (gR M11 9 o0 5) (fun on19 =>
        bd (gR M11 9 o0 4) (fun on20 =>
        bd (gR M11 8 on20 1) (fun on21 =>
        gK M11 2 on19 (
        bd (uX2_keep on19 on21 M11) (fun M23 =>
        bd (gR M23 9 o0 7) (fun on24 =>
        bd (gR M23 9 o0 4) (fun on25 =>
        gK M23 0 on24 (
        bd (uX0_settle on24 on25 v1 v2 v3 v4 M23) (fun M27 =>
        some (r7, M27))))))))))
      else
        some ((-1), M11)))))))))))))))

def uX9_rows (o0 : Nat) (v1 : Int) (v2 : Int) (v3 : Int) (M0 : Mm) : Option (Int × Mm) :=
  bd (gR M0 9 o0 4) (fun on1 =>
  gK M0 8 on1 (
  bd (uX8_isCoin on1 v1 M0) (fun r3 =>
  if r3 = 0 then
    some ((-1), M0)
  else
    if v2 < 1 then
      some ((-1), M0)
    else
      if v2 ≤ 9999 then
        if v3 < 1 then
          some ((-1), M0)
        else
          if v3 ≤ 9 then
            bd (gR M0 9 o0 4) (fun on9 =>
            bd (gR M0 8 on9 0) (fun on10 =>
            bd (uX4_tooMany on10 v3 M0) (fun r11 =>
            if r11 = 0 then
              bd (gR M0 9 o0 9) (fun on13 =>
              bd (gR M0 9 o0 4) (fun on14 =>
              gK M0 4 on13 (
              bd2 (uX4_find on13 on14 v1 v2 v3 M0) (fun r16 M17 =>
              some (r16, M17)))))
            else
              some ((-2), M0))))
          else
            some ((-1), M0)
      else
        some ((-1), M0))))

def uX9_trade (o0 : Nat) (v1 : Int) (v2 : Int) (v3 : Int) (v4 : Int) (M0 : Mm) : Option (Int × Mm) :=
  gK M0 9 o0 (
  bd (uX9_payable o0 v1 v2 v3 v4 M0) (fun r2 =>
  if r2 = 0 then
    some (0, M0)
  else
    bd (gR M0 9 o0 7) (fun on4 =>
    bd (gR M0 9 o0 4) (fun on5 =>
    gK M0 0 on4 (
    bd2 (uX0_find on4 on5 v1 v2 v3 v4 M0) (fun r7 M8 =>
    if r7 = (-1) then
      some (0, M8)
    else
      bd (gR M8 9 o0 4) (fun on10 =>
      gK M8 8 on10 (
      bd (uX8_strokesLeft on10 M8) (fun r12 =>
      bd (gR M8 9 o0 7) (fun on13 =>
      gK M8 0 on13 (
      bd (uX0_strokesNeeded on13 M8) (fun r15 =>
      if r15 ≤ r12 then
        bd (gR M8 9 o0 7) (fun on17 =>
        bd (gR M8 9 o0 4) (fun on18 =>
        gK M8 0 on17 (
        bd (uX0_settle on17 on18 v1 v2 v3 v4 M8) (fun M20 =>
        some (1, M20)))))
      else
        some (0, M8)))))))))))))

def uX10_readLine_b143 (o0 : Nat) (v1 : Int) (M : Mm) : Option (Int × Mm) :=
  if v1 = 0 then
    some (0, M)
  else
    gK M 10 o0 (
    bd2 (uX10_readEnd o0 M) (fun r3 M4 =>
    if r3 = 0 then
      some (0, M4)
    else
      some (1, M4)))
def uX10_readLine_b142 (o0 : Nat) (vs0 : Int) (M : Mm) : Option (Int × Mm) :=
  uX10_readLine_b143 o0 vs0 M
def uX10_readLine (o0 : Nat) (M0 : Mm) : Option (Int × Mm) :=
  gK M0 10 o0 (
  bd (uX10_isWord o0 0 M0) (fun r7 =>
  if r7 = 0 then
    gK M0 10 o0 (
    bd (uX10_isWord o0 3 M0) (fun r10 =>
    if r10 = 0 then
      gK M0 10 o0 (
      bd (uX10_isWord o0 4 M0) (fun r13 =>
      if r13 = 0 then
        gK M0 10 o0 (
        bd (uX10_isWord o0 5 M0) (fun r16 =>
        if r16 = 0 then
          gK M0 10 o0 (
          bd (uX10_isWord o0 6 M0) (fun r19 =>
          if r19 = 0 then
            gK M0 10 o0 (
            bd (uX10_isWord o0 7 M0) (fun r22 =>
            if r22 = 0 then
              gK M0 10 o0 (
              bd (uX10_isWord o0 8 M0) (fun r25 =>
              if r25 = 0 then
                gK M0 10 o0 (
                bd2 (uX10_bad o0 1 M0) (fun r28 M29 =>
                uX10_readLine_b142 o0 r28 M29))
              else
                gK M0 10 o0 (
                bd2 (uX10_readOnce o0 3 6 1 9 M0) (fun r31 M32 =>
                uX10_readLine_b142 o0 r31 M32))))
            else
              gK M0 10 o0 (
              bd2 (uX10_readOnce o0 2 5 1 999 M0) (fun r34 M35 =>
              uX10_readLine_b143 o0 r34 M35))))
          else
            gK M0 10 o0 (
            bd2 (uX10_readOnce o0 1 4 0 200 M0) (fun r37 M38 =>
            uX10_readLine_b143 o0 r37 M38))))
        else
          gK M0 10 o0 (
          bd2 (uX10_readOnce o0 0 3 0 100 M0) (fun r40 M41 =>
          uX10_readLine_b143 o0 r40 M41))))
      else
        gK M0 10 o0 (
        bd2 (uX10_readTakes o0 M0) (fun r43 M44 =>
        uX10_readLine_b143 o0 r43 M44))))
    else
      gK M0 10 o0 (
      bd2 (uX10_readMint o0 M0) (fun r46 M47 =>
      uX10_readLine_b143 o0 r46 M47))))
  else
    gK M0 10 o0 (
    bd2 (uX10_readWho o0 M0) (fun r49 M50 =>
    uX10_readLine_b143 o0 r49 M50))))

def uX10_sentence_b106 (o0 : Nat) (M : Mm) : Option (Int × Mm) :=
  bd (gI M 10 o0 44) (fun x1 =>
  some (x1, M))
def uX10_sentence_s77 (o0 : Nat) (v1 : Int) (M : Mm) : Option ((Int × Mm) ⊕ (Mm)) :=
  if 240 ≤ v1 then
    some (.inr M)
  else
    bd (gR M 10 o0 14) (fun on3 =>
    bd (gR M 10 o0 42) (fun on4 =>
    bd (aI 12 M on4 v1) (fun x5 =>
    bd (sI 12 M on3 (w32 (7900 + v1)) x5) (fun M6 =>
    some (.inl (w32 (v1 + 1), M6))))))
def uX10_sentence_f77 (o0 : Nat) (x : Int × Mm) : Option ((Int × Mm) ⊕ (Mm)) := uX10_sentence_s77 o0 x.1 x.2
def uX10_sentence_c77 (o0 : Nat) (b : Mm) : Option (Int × Mm) := uX10_sentence_b106 o0 b
def uX10_sentence_b77 (o0 : Nat) (v1 : Int) (M : Mm) : Option (Int × Mm) :=
  bd (lp (uX10_sentence_f77 o0) fu (v1, M)) (uX10_sentence_c77 o0)
def uX10_sentence (o0 : Nat) (M0 : Mm) : Option (Int × Mm) :=
  gK M0 10 o0 (
  bd (uX10_begin o0 200 M0) (fun M8 =>
  bd (pI M8 10 o0 43 0) (fun M9 =>
  bd (pI M9 10 o0 44 0) (fun M10 =>
  bd (pI M10 10 o0 45 0) (fun M11 =>
  gK M11 10 o0 (
  bd2 (uX10_readOr (uX10_readOne 12) o0 M11) (fun r13 M14 =>
  if r13 = 0 then
    bd (gI M14 10 o0 11) (fun x27 =>
    some (w32 ((-1) - x27), M14))
  else
    bd (gI M14 10 o0 7) (fun x16 =>
    if x16 = 0 then
      bd (gR M14 10 o0 14) (fun on18 =>
      bd (sI 12 M14 on18 116 1) (fun M19 =>
      bd (gR M19 10 o0 14) (fun on20 =>
      bd (gI M19 10 o0 46) (fun x21 =>
      bd (sI 12 M19 on20 117 x21) (fun M22 =>
      uX10_sentence_b77 o0 0 M22)))))
    else
      gK M14 10 o0 (
      bd2 (uX10_bad o0 1 M14) (fun r24 M25 =>
      bd (gI M25 10 o0 11) (fun x26 =>
      some (w32 ((-1) - x26), M25))))))))))))

def uX9_law (o0 : Nat) (M0 : Mm) : Option (Int × Mm) :=
  bd (gR M0 9 o0 0) (fun on1 =>
  gK M0 7 on1 (
  bd (uX7_begin on1 700 M0) (fun M3 =>
  bd (gR M3 9 o0 2) (fun on4 =>
  bd (gR M3 9 o0 0) (fun on5 =>
  gK M3 3 on4 (
  bd2 (uX3_readFrom on4 on5 M3) (fun r7 M8 =>
  bd (pI M8 9 o0 1 r7) (fun M9 =>
  bd (gR M9 9 o0 0) (fun on10 =>
  bd (pI M9 7 on10 1 0) (fun M11 =>
  bd (gI M11 9 o0 1) (fun x12 =>
  if x12 = 0 then
    bd (gR M11 9 o0 4) (fun on14 =>
    bd (gR M11 9 o0 2) (fun on15 =>
    gK M11 8 on14 (
    bd (uX8_enact on14 on15 M11) (fun M17 =>
    bd (gR M17 9 o0 5) (fun on18 =>
    gK M17 2 on18 (
    bd (uX2_forget on18 M17) (fun M20 =>
    bd (gR M20 9 o0 2) (fun on21 =>
    bd (gI M20 3 on21 0) (fun x22 =>
    some (x22, M20))))))))))
  else
    bd (gR M11 9 o0 0) (fun on23 =>
    bd (gI M11 7 on23 5) (fun x24 =>
    some (w32 ((-1) - x24), M11))))))))))))))

def uX9_market_b186 (v6 : Int) (M : Mm) : Option (Int × Mm) :=
  some (v6, M)
def uX9_market_b131 (o0 : Nat) (v1 : Int) (v3 : Int) (v4 : Int) (v5 : Int) (v6 : Int) (v7 : Int) (v8 : Int) (v9 : Int) (M : Mm) : Option ((Int × Int × Int × Mm) ⊕ (Int × Mm)) :=
  bd (uX9_nextSeed v5 M) (fun r1 =>
  bd (uX9_drawn r1 v4 M) (fun r2 =>
  bd (uX9_nextSeed r1 M) (fun r3 =>
  bd (uX9_drawn r3 200 M) (fun r4 =>
  gK M 9 o0 (
  bd2 (uX9_trade o0 v8 v9 r2 (w32 (r4 + 1)) M) (fun r6 M7 =>
  if r6 = 0 then
    some (.inl (r3, v6, w32 (v7 + 1), M7))
  else
    some (.inl (r3, w32 (v6 + 1), w32 (v7 + 1), M7))))))))
def uX9_market_b129 (o0 : Nat) (v1 : Int) (v3 : Int) (v4 : Int) (v5 : Int) (v6 : Int) (v7 : Int) (v8 : Int) (vs0 : Int) (M : Mm) : Option ((Int × Int × Int × Mm) ⊕ (Int × Mm)) :=
  uX9_market_b131 o0 v1 v3 v4 v5 v6 v7 v8 vs0 M
def uX9_market_s70 (o0 : Nat) (v1 : Int) (v3 : Int) (v4 : Int) (v5 : Int) (v6 : Int) (v7 : Int) (M : Mm) : Option ((Int × Int × Int × Mm) ⊕ (Int × Mm)) :=
  if v1 ≤ v7 then
    some (.inr (v6, M))
  else
    bd (uX9_nextSeed v5 M) (fun r10 =>
    bd (uX9_drawn r10 v3 M) (fun r11 =>
    bd (uX9_nextSeed r10 M) (fun r12 =>
    bd (uX9_drawn r12 v3 M) (fun r13 =>
    if r13 = r11 then
      if v3 ≤ (w32 (r13 + 1)) then
        uX9_market_b129 o0 v1 v3 v4 r12 v6 v7 r11 0 M
      else
        uX9_market_b129 o0 v1 v3 v4 r12 v6 v7 r11 (w32 (r13 + 1)) M
    else
      uX9_market_b131 o0 v1 v3 v4 r12 v6 v7 r11 r13 M))))
def uX9_market_f70 (o0 : Nat) (v1 : Int) (v3 : Int) (v4 : Int) (x : Int × Int × Int × Mm) : Option ((Int × Int × Int × Mm) ⊕ (Int × Mm)) := uX9_market_s70 o0 v1 v3 v4 x.1 x.2.1 x.2.2.1 x.2.2.2
def uX9_market_c70 (o0 : Nat) (v1 : Int) (v3 : Int) (v4 : Int) (b : Int × Mm) : Option (Int × Mm) := uX9_market_b186 b.1 b.2
def uX9_market_b70 (o0 : Nat) (v1 : Int) (v3 : Int) (v4 : Int) (v5 : Int) (v6 : Int) (v7 : Int) (M : Mm) : Option (Int × Mm) :=
  bd (lp (uX9_market_f70 o0 v1 v3 v4) fu (v5, v6, v7, M)) (uX9_market_c70 o0 v1 v3 v4)
def uX9_market (o0 : Nat) (v1 : Int) (v2 : Int) (M0 : Mm) : Option (Int × Mm) :=
  bd (gR M0 9 o0 4) (fun on16 =>
  bd (gR M0 8 on16 0) (fun on17 =>
  bd (gI M0 3 on17 1) (fun x18 =>
  bd (gR M0 9 o0 4) (fun on19 =>
  bd (gR M0 8 on19 0) (fun on20 =>
  bd (gI M0 3 on20 2) (fun x21 =>
  if v1 < 1 then
    some ((-1), M0)
  else
    if 50 < v1 then
      some ((-1), M0)
    else
      if x18 < 1 then
        some ((-1), M0)
      else
        if 1 ≤ x21 then
          bd (gR M0 9 o0 5) (fun on26 =>
          bd (gR M0 9 o0 4) (fun on27 =>
          bd (gR M0 8 on27 1) (fun on28 =>
          gK M0 2 on26 (
          bd (uX2_keep on26 on28 M0) (fun M30 =>
          uX9_market_b70 o0 v1 x18 x21 v2 0 0 M30)))))
        else
          some ((-1), M0)))))))

def uX9_sentence (o0 : Nat) (M0 : Mm) : Option (Int × Mm) :=
  bd (gR M0 9 o0 0) (fun on1 =>
  gK M0 7 on1 (
  bd (uX7_begin on1 200 M0) (fun M3 =>
  bd (gR M3 9 o0 3) (fun on4 =>
  bd (gR M3 9 o0 0) (fun on5 =>
  bd (gR M3 9 o0 4) (fun on6 =>
  bd (gR M3 8 on6 0) (fun on7 =>
  gK M3 5 on4 (
  bd2 (uX5_readFrom on4 on5 on7 M3) (fun r9 M10 =>
  bd (pI M10 9 o0 1 r9) (fun M11 =>
  bd (gR M11 9 o0 0) (fun on12 =>
  bd (pI M11 7 on12 1 0) (fun M13 =>
  bd (gI M13 9 o0 1) (fun x14 =>
  if x14 = 0 then
    bd (gR M13 9 o0 4) (fun on16 =>
    bd (gR M13 8 on16 4) (fun on17 =>
    bd (gR M13 9 o0 3) (fun on18 =>
    gK M13 5 on17 (
    bd (uX5_copyFrom on17 on18 M13) (fun M20 =>
    bd (gR M20 9 o0 3) (fun on21 =>
    bd (gI M20 5 on21 0) (fun x22 =>
    some (x22, M20))))))))
  else
    bd (gR M13 9 o0 0) (fun on23 =>
    bd (gI M13 7 on23 5) (fun x24 =>
    some (w32 ((-1) - x24), M13))))))))))))))))

def uX9_said_b73 (v1 : Int) (v2 : Int) (M0 : Mm) : Option Int :=
  if v1 = (-1) then
    some v2
  else
    some (-1)
def uX9_said_s19 (o0 : Nat) (v1 : Int) (M0 : Mm) (v2 : Int) (v3 : Int) : Option ((Int × Int) ⊕ ((Int) ⊕ Int)) :=
  bd (gR M0 9 o0 4) (fun on2 =>
  bd (gR M0 8 on2 1) (fun on3 =>
  bd (gI M0 1 on3 0) (fun x4 =>
  if x4 ≤ v3 then
    some (.inr (.inl v2))
  else
    if 40 ≤ v3 then
      some (.inr (.inl v2))
    else
      bd (gR M0 9 o0 4) (fun on7 =>
      bd (gR M0 8 on7 4) (fun on8 =>
      bd (gR M0 9 o0 4) (fun on9 =>
      gK M0 5 on8 (
      bd (uX5_holds on8 on9 v3 M0) (fun r11 =>
      if r11 = 0 then
        some (.inl (v2, w32 (v3 + 1)))
      else
        if v2 = v1 then
          some (.inr (.inr v3))
        else
          some (.inl (w32 (v2 + 1), w32 (v3 + 1)))))))))))
def uX9_said_f19 (o0 : Nat) (v1 : Int) (M0 : Mm) (x : Int × Int) : Option ((Int × Int) ⊕ ((Int) ⊕ Int)) := uX9_said_s19 o0 v1 M0 x.1 x.2
def uX9_said_c19 (o0 : Nat) (v1 : Int) (M0 : Mm) (b : (Int) ⊕ Int) : Option Int := Sum.elim (fun b => uX9_said_b73 v1 b M0) (fun t => some t) b
def uX9_said_b19 (o0 : Nat) (v1 : Int) (v2 : Int) (v3 : Int) (M0 : Mm) : Option Int :=
  bd (lp (uX9_said_f19 o0 v1 M0) fu (v2, v3)) (uX9_said_c19 o0 v1 M0)
def uX9_said (o0 : Nat) (v1 : Int) (M0 : Mm) : Option Int :=
  bd (gR M0 9 o0 4) (fun on14 =>
  bd (gR M0 8 on14 4) (fun on15 =>
  bd (gI M0 5 on15 0) (fun x16 =>
  if x16 = 0 then
    some (-1)
  else
    uX9_said_b19 o0 v1 0 0 M0)))

def uX10_law_b160 (o0 : Nat) (v1 : Int) (M : Mm) : Option (Int × Mm) :=
  bd (pI M 10 o0 23 0) (fun M1 =>
  some (v1, M1))
def uX10_law_s136 (o0 : Nat) (v1 : Int) (v2 : Int) (M : Mm) : Option ((Int × Mm) ⊕ (Mm)) :=
  if 12 ≤ v2 then
    some (.inr M)
  else
    bd (gR M 10 o0 18) (fun on3 =>
    bd (gR M 10 o0 19) (fun on4 =>
    bd (aJ M on4 v2) (fun x5 =>
    bd (sJ M on3 v2 x5) (fun M6 =>
    some (.inl (w32 (v2 + 1), M6))))))
def uX10_law_f136 (o0 : Nat) (v1 : Int) (x : Int × Mm) : Option ((Int × Mm) ⊕ (Mm)) := uX10_law_s136 o0 v1 x.1 x.2
def uX10_law_c136 (o0 : Nat) (v1 : Int) (b : Mm) : Option (Int × Mm) := uX10_law_b160 o0 v1 b
def uX10_law_b136 (o0 : Nat) (v1 : Int) (v2 : Int) (M : Mm) : Option (Int × Mm) :=
  bd (lp (uX10_law_f136 o0 v1) fu (v2, M)) (uX10_law_c136 o0 v1)
def uX10_law_b118 (o0 : Nat) (v1 : Int) (M : Mm) : Option (Int × Mm) :=
  bd (gR M 10 o0 14) (fun on7 =>
  bd (sI 12 M on7 110 (-1)) (fun M8 =>
  bd (gR M8 10 o0 14) (fun on9 =>
  bd (sI 12 M8 on9 111 (-1)) (fun M10 =>
  uX10_law_b136 o0 v1 0 M10))))
def uX10_law_s99 (o0 : Nat) (v1 : Int) (v2 : Int) (M : Mm) : Option ((Int × Mm) ⊕ (Mm)) :=
  if 120 ≤ v2 then
    some (.inr M)
  else
    bd (gR M 10 o0 14) (fun on12 =>
    bd (sI 12 M on12 v2 0) (fun M13 =>
    some (.inl (w32 (v2 + 1), M13))))
def uX10_law_f99 (o0 : Nat) (v1 : Int) (x : Int × Mm) : Option ((Int × Mm) ⊕ (Mm)) := uX10_law_s99 o0 v1 x.1 x.2
def uX10_law_c99 (o0 : Nat) (v1 : Int) (b : Mm) : Option (Int × Mm) := uX10_law_b118 o0 v1 b
def uX10_law_b99 (o0 : Nat) (v1 : Int) (v2 : Int) (M : Mm) : Option (Int × Mm) :=
  bd (lp (uX10_law_f99 o0 v1) fu (v2, M)) (uX10_law_c99 o0 v1)
def uX10_law_b96 (o0 : Nat) (v1 : Int) (M : Mm) : Option (Int × Mm) :=
  uX10_law_b99 o0 v1 108 M
def uX10_law_s72 (o0 : Nat) (v1 : Int) (v2 : Int) (M : Mm) : Option ((Int × Mm) ⊕ (Mm)) :=
  if 108 ≤ v2 then
    some (.inr M)
  else
    bd (gR M 10 o0 14) (fun on15 =>
    bd (gR M 10 o0 15) (fun on16 =>
    bd (aI 12 M on16 v2) (fun x17 =>
    bd (sI 12 M on15 v2 x17) (fun M18 =>
    some (.inl (w32 (v2 + 1), M18))))))
def uX10_law_f72 (o0 : Nat) (v1 : Int) (x : Int × Mm) : Option ((Int × Mm) ⊕ (Mm)) := uX10_law_s72 o0 v1 x.1 x.2
def uX10_law_c72 (o0 : Nat) (v1 : Int) (b : Mm) : Option (Int × Mm) := uX10_law_b96 o0 v1 b
def uX10_law_b72 (o0 : Nat) (v1 : Int) (v2 : Int) (M : Mm) : Option (Int × Mm) :=
  bd (lp (uX10_law_f72 o0 v1) fu (v2, M)) (uX10_law_c72 o0 v1)
def uX10_law_b70 (o0 : Nat) (v1 : Int) (M : Mm) : Option (Int × Mm) :=
  uX10_law_b72 o0 v1 0 M
def uX10_law_s43 (o0 : Nat) (v1 : Int) (M : Mm) : Option ((Int × Mm) ⊕ ((Int × Mm) ⊕ (Int × Mm))) :=
  bd (gI M 10 o0 7) (fun x19 =>
  if x19 = 0 then
    some (.inr (.inl (v1, M)))
  else
    gK M 10 o0 (
    bd2 (uX10_readLine o0 M) (fun r22 M23 =>
    if r22 = 0 then
      bd (gI M23 10 o0 11) (fun x25 =>
      some (.inr (.inr (w32 ((-1) - x25), M23))))
    else
      some (.inl (w32 (v1 + 1), M23)))))
def uX10_law_f43 (o0 : Nat) (x : Int × Mm) : Option ((Int × Mm) ⊕ ((Int × Mm) ⊕ (Int × Mm))) := uX10_law_s43 o0 x.1 x.2
def uX10_law_c43 (o0 : Nat) (b : (Int × Mm) ⊕ (Int × Mm)) : Option (Int × Mm) := Sum.elim (fun b => uX10_law_b70 o0 b.1 b.2) (fun t => some t) b
def uX10_law_b43 (o0 : Nat) (v1 : Int) (M : Mm) : Option (Int × Mm) :=
  bd (lp (uX10_law_f43 o0) fu (v1, M)) (uX10_law_c43 o0)
def uX10_law_b28 (o0 : Nat) (M : Mm) : Option (Int × Mm) :=
  bd (gR M 10 o0 15) (fun on26 =>
  gK M 10 o0 (
  bd (uX10_plain o0 on26 M) (fun M28 =>
  bd (pI M28 10 o0 24 0) (fun M29 =>
  uX10_law_b43 o0 0 M29))))
def uX10_law_s9 (o0 : Nat) (v1 : Int) (M : Mm) : Option ((Int × Mm) ⊕ (Mm)) :=
  if 108 ≤ v1 then
    some (.inr M)
  else
    bd (gR M 10 o0 15) (fun on31 =>
    bd (sI 12 M on31 v1 0) (fun M32 =>
    some (.inl (w32 (v1 + 1), M32))))
def uX10_law_f9 (o0 : Nat) (x : Int × Mm) : Option ((Int × Mm) ⊕ (Mm)) := uX10_law_s9 o0 x.1 x.2
def uX10_law_c9 (o0 : Nat) (b : Mm) : Option (Int × Mm) := uX10_law_b28 o0 b
def uX10_law_b9 (o0 : Nat) (v1 : Int) (M : Mm) : Option (Int × Mm) :=
  bd (lp (uX10_law_f9 o0) fu (v1, M)) (uX10_law_c9 o0)
def uX10_law (o0 : Nat) (M0 : Mm) : Option (Int × Mm) :=
  gK M0 10 o0 (
  bd (uX10_begin o0 700 M0) (fun M34 =>
  uX10_law_b9 o0 0 M34))
