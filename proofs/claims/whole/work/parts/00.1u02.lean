def uX3_readFrom_b72 (v2 : Int) (M : Mm) : Option (Int × Mm) :=
  some (v2, M)
def uX3_readFrom_b51 (o0 : Nat) (o1 : Nat) (v2 : Int) (M : Mm) : Option ((Int × Mm) ⊕ (Int × Mm)) :=
  if v2 = 0 then
    gK M 7 o1 (
    bd (uX7_advance o1 M) (fun M3 =>
    bd (gI M3 3 o0 0) (fun x4 =>
    bd (pI M3 3 o0 0 (w32 (x4 + 1))) (fun M5 =>
    some (.inl (v2, M5))))))
  else
    some (.inl (v2, M))
def uX3_readFrom_s10 (o0 : Nat) (o1 : Nat) (v2 : Int) (M : Mm) : Option ((Int × Mm) ⊕ (Int × Mm)) :=
  bd (gI M 3 o0 0) (fun x6 =>
  if 700 ≤ x6 then
    some (.inr (v2, M))
  else
    if v2 = 0 then
      bd (gI M 7 o1 4) (fun x9 =>
      if x9 = 0 then
        some (.inr (v2, M))
      else
        gK M 3 o0 (
        bd2 (uX3_readLine o0 o1 M) (fun r12 M13 =>
        if r12 = 0 then
          bd (gI M13 7 o1 4) (fun x15 =>
          if x15 = 4 then
            uX3_readFrom_b51 o0 o1 r12 M13
          else
            uX3_readFrom_b51 o0 o1 1 M13)
        else
          uX3_readFrom_b51 o0 o1 r12 M13)))
    else
      some (.inr (v2, M)))
def uX3_readFrom_f10 (o0 : Nat) (o1 : Nat) (x : Int × Mm) : Option ((Int × Mm) ⊕ (Int × Mm)) := uX3_readFrom_s10 o0 o1 x.1 x.2
def uX3_readFrom_c10 (o0 : Nat) (o1 : Nat) (b : Int × Mm) : Option (Int × Mm) := uX3_readFrom_b72 b.1 b.2
def uX3_readFrom_b10 (o0 : Nat) (o1 : Nat) (v2 : Int) (M : Mm) : Option (Int × Mm) :=
  bd (lp (uX3_readFrom_f10 o0 o1) fu (v2, M)) (uX3_readFrom_c10 o0 o1)
def uX3_readFrom (o0 : Nat) (o1 : Nat) (M0 : Mm) : Option (Int × Mm) :=
  gK M0 3 o0 (
  bd (uX3_clear o0 M0) (fun M18 =>
  gK M18 7 o1 (
  bd (uX7_advance o1 M18) (fun M20 =>
  uX3_readFrom_b10 o0 o1 0 M20))))

def uX5_readFrom (o0 : Nat) (o1 : Nat) (o2 : Nat) (M0 : Mm) : Option (Int × Mm) :=
  gK M0 5 o0 (
  bd (uX5_clear o0 M0) (fun M2 =>
  gK M2 7 o1 (
  bd (uX7_advance o1 M2) (fun M4 =>
  gK M4 5 o0 (
  bd2 (uX5_readCond (uX5_readOne 12) o0 o1 o2 1 M4) (fun r6 M7 =>
  if r6 = 0 then
    bd (gI M7 7 o1 4) (fun x9 =>
    if x9 = 0 then
      some (r6, M7)
    else
      some (1, M7))
  else
    some (r6, M7)))))))

def uX5_holds_b132 (v3 : Int) (M0 : Mm) : Option Int :=
  if (and32 v3 1) = 0 then
    some 0
  else
    some 1
def uX5_holds_b124 (o0 : Nat) (o1 : Nat) (v2 : Int) (v4 : Int) (vs0 : Int) (vs1 : Int) (M0 : Mm) : Option ((Int × Int) ⊕ (Int)) :=
  some (.inl (or32 vs0 vs1, w32 (v4 + 1)))
def uX5_holds_s5 (o0 : Nat) (o1 : Nat) (v2 : Int) (M0 : Mm) (v3 : Int) (v4 : Int) : Option ((Int × Int) ⊕ (Int)) :=
  bd (gI M0 5 o0 1) (fun x2 =>
  if x2 ≤ v4 then
    some (.inr v3)
  else
    if 40 ≤ v4 then
      some (.inr v3)
    else
      bd (gR M0 5 o0 2) (fun o5 =>
      bd (aI 12 M0 o5 v4) (fun x6 =>
      if x6 = 19 then
        some (.inl (or32 (or32 (shl32 (ushr32 v3 2) 1) (and32 v3 1)) (and32 (ushr32 v3 1) 1), w32 (v4 + 1)))
      else
        if x6 = 20 then
          some (.inl (or32 (shl32 (ushr32 v3 2) 1) (and32 (and32 v3 1) (and32 (ushr32 v3 1) 1)), w32 (v4 + 1)))
        else
          if x6 = 21 then
            some (.inl (xor32 v3 1, w32 (v4 + 1)))
          else
            gK M0 5 o0 (
            bd (uX5_stepHolds o0 o1 v2 v4 M0) (fun r11 =>
            if r11 = 0 then
              uX5_holds_b124 o0 o1 v2 v4 (shl32 v3 1) 0 M0
            else
              uX5_holds_b124 o0 o1 v2 v4 (shl32 v3 1) 1 M0)))))
def uX5_holds_f5 (o0 : Nat) (o1 : Nat) (v2 : Int) (M0 : Mm) (x : Int × Int) : Option ((Int × Int) ⊕ (Int)) := uX5_holds_s5 o0 o1 v2 M0 x.1 x.2
def uX5_holds_c5 (o0 : Nat) (o1 : Nat) (v2 : Int) (M0 : Mm) (b : Int) : Option Int := uX5_holds_b132 b M0
def uX5_holds_b5 (o0 : Nat) (o1 : Nat) (v2 : Int) (v3 : Int) (v4 : Int) (M0 : Mm) : Option Int :=
  bd (lp (uX5_holds_f5 o0 o1 v2 M0) fu (v3, v4)) (uX5_holds_c5 o0 o1 v2 M0)
def uX5_holds (o0 : Nat) (o1 : Nat) (v2 : Int) (M0 : Mm) : Option Int :=
  uX5_holds_b5 o0 o1 v2 0 0 M0

def uX9_sale_b256  (M : Mm) : Option (Int × Mm) :=
  some (0, M)
def uX9_sale_s223 (o0 : Nat) (v2 : Int) (v3 : Int) (v5 : Int) (v9 : Int) (v10 : Int) (M : Mm) : Option ((Int × Mm) ⊕ (Mm)) :=
  if v5 ≤ v10 then
    some (.inr M)
  else
    bd (gR M 9 o0 4) (fun o2 =>
    bd (gR M 9 o0 0) (fun o3 =>
    gK M 7 o3 (
    bd (uX7_at o3 v10 M) (fun r5 =>
    gK M 8 o2 (
    bd (uX8_handOver o2 r5 v2 v3 v9 M) (fun M7 =>
    some (.inl (w32 (v10 + 1), M7))))))))
def uX9_sale_f223 (o0 : Nat) (v2 : Int) (v3 : Int) (v5 : Int) (v9 : Int) (x : Int × Mm) : Option ((Int × Mm) ⊕ (Mm)) := uX9_sale_s223 o0 v2 v3 v5 v9 x.1 x.2
def uX9_sale_c223 (o0 : Nat) (v2 : Int) (v3 : Int) (v5 : Int) (v9 : Int) (b : Mm) : Option (Int × Mm) := uX9_sale_b256 b
def uX9_sale_b223 (o0 : Nat) (v2 : Int) (v3 : Int) (v5 : Int) (v9 : Int) (v10 : Int) (M : Mm) : Option (Int × Mm) :=
  bd (lp (uX9_sale_f223 o0 v2 v3 v5 v9) fu (v10, M)) (uX9_sale_c223 o0 v2 v3 v5 v9)
def uX9_sale_b164 (o0 : Nat) (v1 : Int) (v2 : Int) (v3 : Int) (v4 : Int) (v5 : Int) (v8 : Int) (M : Mm) : Option (Int × Mm) :=
  if v4 ≤ v8 then
    bd (gR M 9 o0 4) (fun o9 =>
    gK M 8 o9 (
    bd (uX8_strokesLeft o9 M) (fun r11 =>
    if v5 ≤ r11 then
      bd (gR M 9 o0 5) (fun o13 =>
      bd (gR M 9 o0 4) (fun o14 =>
      bd (gR M 8 o14 1) (fun o15 =>
      gK M 2 o13 (
      bd (uX2_keep o13 o15 M) (fun M17 =>
      bd (gR M17 9 o0 4) (fun o18 =>
      gK M17 8 o18 (
      bd2 (uX8_recordSale o18 v1 v2 v3 v4 v5 v8 M17) (fun r20 M21 =>
      uX9_sale_b223 o0 v2 v3 v5 r20 0 M21))))))))
    else
      some ((-1), M))))
  else
    some (7, M)
def uX9_sale_s127 (o0 : Nat) (v1 : Int) (v2 : Int) (v3 : Int) (v4 : Int) (v5 : Int) (v6 : Int) (M : Mm) (v8 : Int) (v9 : Int) : Option ((Int × Int) ⊕ (Int)) :=
  if v5 ≤ v9 then
    some (.inr v8)
  else
    bd (gR M 9 o0 4) (fun o23 =>
    bd (gR M 9 o0 0) (fun o24 =>
    gK M 7 o24 (
    bd (uX7_at o24 v9 M) (fun r26 =>
    gK M 8 o23 (
    bd (uX8_worth o23 v2 r26 v6 M) (fun r28 =>
    some (.inl (w32 (v8 + r28), w32 (v9 + 1)))))))))
def uX9_sale_f127 (o0 : Nat) (v1 : Int) (v2 : Int) (v3 : Int) (v4 : Int) (v5 : Int) (v6 : Int) (M : Mm) (x : Int × Int) : Option ((Int × Int) ⊕ (Int)) := uX9_sale_s127 o0 v1 v2 v3 v4 v5 v6 M x.1 x.2
def uX9_sale_c127 (o0 : Nat) (v1 : Int) (v2 : Int) (v3 : Int) (v4 : Int) (v5 : Int) (v6 : Int) (M : Mm) (b : Int) : Option (Int × Mm) := uX9_sale_b164 o0 v1 v2 v3 v4 v5 b M
def uX9_sale_b127 (o0 : Nat) (v1 : Int) (v2 : Int) (v3 : Int) (v4 : Int) (v5 : Int) (v6 : Int) (v8 : Int) (v9 : Int) (M : Mm) : Option (Int × Mm) :=
  bd (lp (uX9_sale_f127 o0 v1 v2 v3 v4 v5 v6 M) fu (v8, v9)) (uX9_sale_c127 o0 v1 v2 v3 v4 v5 v6 M)
def uX9_sale (o0 : Nat) (v1 : Int) (v2 : Int) (v3 : Int) (v4 : Int) (M0 : Mm) : Option (Int × Mm) :=
  bd (gR M0 9 o0 0) (fun o29 =>
  bd (gI M0 7 o29 1) (fun x30 =>
  bd (gR M0 9 o0 0) (fun o31 =>
  bd (pI M0 7 o31 1 0) (fun M32 =>
  bd (gR M32 9 o0 4) (fun o33 =>
  gK M32 8 o33 (
  bd (uX8_isWho o33 v1 M32) (fun r35 =>
  if r35 = 0 then
    some ((-1), M32)
  else
    bd (gR M32 9 o0 4) (fun o37 =>
    gK M32 8 o37 (
    bd (uX8_isWho o37 v2 M32) (fun r39 =>
    if r39 = 0 then
      some ((-1), M32)
    else
      bd (gR M32 9 o0 4) (fun o41 =>
      gK M32 8 o41 (
      bd (uX8_isMint o41 v3 M32) (fun r43 =>
      if r43 = 0 then
        some ((-1), M32)
      else
        if v4 < 1 then
          some ((-1), M32)
        else
          if 9999 < v4 then
            some ((-1), M32)
          else
            gK M32 9 o0 (
            bd (uX9_tellsUnlikeCoins o0 x30 M32) (fun r48 =>
            if r48 = 0 then
              some ((-1), M32)
            else
              bd (gR M32 9 o0 4) (fun o50 =>
              gK M32 8 o50 (
              bd (uX8_canTrade o50 v1 v2 M32) (fun r52 =>
              if r52 = 0 then
                some (1, M32)
              else
                bd (gR M32 9 o0 4) (fun o54 =>
                gK M32 8 o54 (
                bd (uX8_luckNow o54 M32) (fun r56 =>
                gK M32 9 o0 (
                bd (uX9_leastWrong o0 v1 v2 v3 x30 r56 M32) (fun r58 =>
                if r58 = 0 then
                  uX9_sale_b127 o0 v1 v2 v3 v4 x30 r56 0 0 M32
                else
                  some (r58, M32))))))))))))))))))))))))

def uX9_payment (o0 : Nat) (v1 : Int) (v2 : Int) (v3 : Int) (v4 : Int) (M0 : Mm) : Option (Int × Mm) :=
  gK M0 9 o0 (
  bd (uX9_payable o0 v1 v2 v3 v4 M0) (fun r2 =>
  if r2 = 0 then
    some ((-2), M0)
  else
    bd (gR M0 9 o0 7) (fun o4 =>
    bd (gR M0 9 o0 4) (fun o5 =>
    gK M0 0 o4 (
    bd2 (uX0_find o4 o5 v1 v2 v3 v4 M0) (fun r7 M8 =>
    if r7 = (-1) then
      some (r7, M8)
    else
      gK M8 9 o0 (
      bd (uX9_tellPaid o0 M8) (fun M11 =>
      some (r7, M11)))))))))

def uX9_buy (o0 : Nat) (v1 : Int) (v2 : Int) (v3 : Int) (v4 : Int) (M0 : Mm) : Option (Int × Mm) :=
  gK M0 9 o0 (
  bd (uX9_payable o0 v1 v2 v3 v4 M0) (fun r2 =>
  if r2 = 0 then
    some ((-2), M0)
  else
    bd (gR M0 9 o0 7) (fun o4 =>
    bd (gR M0 9 o0 4) (fun o5 =>
    gK M0 0 o4 (
    bd2 (uX0_find o4 o5 v1 v2 v3 v4 M0) (fun r7 M8 =>
    if r7 = (-1) then
      some ((-1), M8)
    else
      gK M8 9 o0 (
      bd (uX9_tellPaid o0 M8) (fun M11 =>
      bd (gR M11 9 o0 4) (fun o12 =>
      gK M11 8 o12 (
      bd (uX8_strokesLeft o12 M11) (fun r14 =>
      bd (gR M11 9 o0 7) (fun o15 =>
      gK M11 0 o15 (
      bd (uX0_strokesNeeded o15 M11) (fun r17 =>
      if r17 ≤ r14 then
        bd (gR M11 9 o0 5) (fun o19 =>
        bd (gR M11 9 o0 4) (fun o20 =>
        bd (gR M11 8 o20 1) (fun o21 =>
        gK M11 2 o19 (
        bd (uX2_keep o19 o21 M11) (fun M23 =>
        bd (gR M23 9 o0 7) (fun o24 =>
        bd (gR M23 9 o0 4) (fun o25 =>
        gK M23 0 o24 (
        bd (uX0_settle o24 o25 v1 v2 v3 v4 M23) (fun M27 =>
        some (r7, M27))))))))))
      else
        some ((-1), M11)))))))))))))))

def uX9_rows (o0 : Nat) (v1 : Int) (v2 : Int) (v3 : Int) (M0 : Mm) : Option (Int × Mm) :=
  bd (gR M0 9 o0 4) (fun o1 =>
  gK M0 8 o1 (
  bd (uX8_isCoin o1 v1 M0) (fun r3 =>
  if r3 = 0 then
    some ((-1), M0)
  else
    if v2 < 1 then
      some ((-1), M0)
    else
      if v2 ≤ 9999 then
        if v3 < 1 then
          some ((-1), M0)
        else
          if v3 ≤ 9 then
            bd (gR M0 9 o0 4) (fun o9 =>
            bd (gR M0 8 o9 0) (fun o10 =>
            bd (uX4_tooMany o10 v3 M0) (fun r11 =>
            if r11 = 0 then
              bd (gR M0 9 o0 9) (fun o13 =>
              bd (gR M0 9 o0 4) (fun o14 =>
              gK M0 4 o13 (
              bd2 (uX4_find o13 o14 v1 v2 v3 M0) (fun r16 M17 =>
              some (r16, M17)))))
            else
              some ((-2), M0))))
          else
            some ((-1), M0)
      else
        some ((-1), M0))))

def uX9_trade (o0 : Nat) (v1 : Int) (v2 : Int) (v3 : Int) (v4 : Int) (M0 : Mm) : Option (Int × Mm) :=
  gK M0 9 o0 (
  bd (uX9_payable o0 v1 v2 v3 v4 M0) (fun r2 =>
  if r2 = 0 then
    some (0, M0)
  else
    bd (gR M0 9 o0 7) (fun o4 =>
    bd (gR M0 9 o0 4) (fun o5 =>
    gK M0 0 o4 (
    bd2 (uX0_find o4 o5 v1 v2 v3 v4 M0) (fun r7 M8 =>
    if r7 = (-1) then
      some (0, M8)
    else
      bd (gR M8 9 o0 4) (fun o10 =>
      gK M8 8 o10 (
      bd (uX8_strokesLeft o10 M8) (fun r12 =>
      bd (gR M8 9 o0 7) (fun o13 =>
      gK M8 0 o13 (
      bd (uX0_strokesNeeded o13 M8) (fun r15 =>
      if r15 ≤ r12 then
        bd (gR M8 9 o0 7) (fun o17 =>
        bd (gR M8 9 o0 4) (fun o18 =>
        gK M8 0 o17 (
        bd (uX0_settle o17 o18 v1 v2 v3 v4 M8) (fun M20 =>
        some (1, M20)))))
      else
        some (0, M8)))))))))))))

def uX10_readLine_b143 (o0 : Nat) (v1 : Int) (M : Mm) : Option (Int × Mm) :=
  if v1 = 0 then
    some (0, M)
  else
    gK M 10 o0 (
    bd2 (uX10_readEnd o0 M) (fun r3 M4 =>
    if r3 = 0 then
      some (0, M4)
    else
      some (1, M4)))
def uX10_readLine_b142 (o0 : Nat) (vs0 : Int) (M : Mm) : Option (Int × Mm) :=
  uX10_readLine_b143 o0 vs0 M
def uX10_readLine (o0 : Nat) (M0 : Mm) : Option (Int × Mm) :=
  gK M0 10 o0 (
  bd (uX10_isWord o0 0 M0) (fun r7 =>
  if r7 = 0 then
    gK M0 10 o0 (
    bd (uX10_isWord o0 3 M0) (fun r10 =>
    if r10 = 0 then
      gK M0 10 o0 (
      bd (uX10_isWord o0 4 M0) (fun r13 =>
      if r13 = 0 then
        gK M0 10 o0 (
        bd (uX10_isWord o0 5 M0) (fun r16 =>
        if r16 = 0 then
          gK M0 10 o0 (
          bd (uX10_isWord o0 6 M0) (fun r19 =>
          if r19 = 0 then
            gK M0 10 o0 (
            bd (uX10_isWord o0 7 M0) (fun r22 =>
            if r22 = 0 then
              gK M0 10 o0 (
              bd (uX10_isWord o0 8 M0) (fun r25 =>
              if r25 = 0 then
                gK M0 10 o0 (
                bd2 (uX10_bad o0 1 M0) (fun r28 M29 =>
                uX10_readLine_b142 o0 r28 M29))
              else
                gK M0 10 o0 (
                bd2 (uX10_readOnce o0 3 6 1 9 M0) (fun r31 M32 =>
                uX10_readLine_b142 o0 r31 M32))))
            else
              gK M0 10 o0 (
              bd2 (uX10_readOnce o0 2 5 1 999 M0) (fun r34 M35 =>
              uX10_readLine_b143 o0 r34 M35))))
          else
            gK M0 10 o0 (
            bd2 (uX10_readOnce o0 1 4 0 200 M0) (fun r37 M38 =>
            uX10_readLine_b143 o0 r37 M38))))
        else
          gK M0 10 o0 (
          bd2 (uX10_readOnce o0 0 3 0 100 M0) (fun r40 M41 =>
          uX10_readLine_b143 o0 r40 M41))))
      else
        gK M0 10 o0 (
        bd2 (uX10_readTakes o0 M0) (fun r43 M44 =>
        uX10_readLine_b143 o0 r43 M44))))
    else
      gK M0 10 o0 (
      bd2 (uX10_readMint o0 M0) (fun r46 M47 =>
      uX10_readLine_b143 o0 r46 M47))))
  else
    gK M0 10 o0 (
    bd2 (uX10_readWho o0 M0) (fun r49 M50 =>
    uX10_readLine_b143 o0 r49 M50))))

def uX10_sentence_b106 (o0 : Nat) (M : Mm) : Option (Int × Mm) :=
  bd (gI M 10 o0 44) (fun x1 =>
  some (x1, M))
def uX10_sentence_s77 (o0 : Nat) (v1 : Int) (M : Mm) : Option ((Int × Mm) ⊕ (Mm)) :=
  if 240 ≤ v1 then
    some (.inr M)
  else
    bd (gR M 10 o0 14) (fun o3 =>
    bd (gR M 10 o0 42) (fun o4 =>
    bd (aI 12 M o4 v1) (fun x5 =>
    bd (sI 12 M o3 (w32 (7900 + v1)) x5) (fun M6 =>
    some (.inl (w32 (v1 + 1), M6))))))
def uX10_sentence_f77 (o0 : Nat) (x : Int × Mm) : Option ((Int × Mm) ⊕ (Mm)) := uX10_sentence_s77 o0 x.1 x.2
def uX10_sentence_c77 (o0 : Nat) (b : Mm) : Option (Int × Mm) := uX10_sentence_b106 o0 b
def uX10_sentence_b77 (o0 : Nat) (v1 : Int) (M : Mm) : Option (Int × Mm) :=
  bd (lp (uX10_sentence_f77 o0) fu (v1, M)) (uX10_sentence_c77 o0)
def uX10_sentence (o0 : Nat) (M0 : Mm) : Option (Int × Mm) :=
  gK M0 10 o0 (
  bd (uX10_begin o0 200 M0) (fun M8 =>
  bd (pI M8 10 o0 43 0) (fun M9 =>
  bd (pI M9 10 o0 44 0) (fun M10 =>
  bd (pI M10 10 o0 45 0) (fun M11 =>
  gK M11 10 o0 (
  bd2 (uX10_readOr (uX10_readOne 12) o0 M11) (fun r13 M14 =>
  if r13 = 0 then
    bd (gI M14 10 o0 11) (fun x27 =>
    some (w32 ((-1) - x27), M14))
  else
    bd (gI M14 10 o0 7) (fun x16 =>
    if x16 = 0 then
      bd (gR M14 10 o0 14) (fun o18 =>
      bd (sI 12 M14 o18 116 1) (fun M19 =>
      bd (gR M19 10 o0 14) (fun o20 =>
      bd (gI M19 10 o0 46) (fun x21 =>
      bd (sI 12 M19 o20 117 x21) (fun M22 =>
      uX10_sentence_b77 o0 0 M22)))))
    else
      gK M14 10 o0 (
      bd2 (uX10_bad o0 1 M14) (fun r24 M25 =>
      bd (gI M25 10 o0 11) (fun x26 =>
      some (w32 ((-1) - x26), M25))))))))))))

def uX9_law (o0 : Nat) (M0 : Mm) : Option (Int × Mm) :=
  bd (gR M0 9 o0 0) (fun o1 =>
  gK M0 7 o1 (
  bd (uX7_begin o1 700 M0) (fun M3 =>
  bd (gR M3 9 o0 2) (fun o4 =>
  bd (gR M3 9 o0 0) (fun o5 =>
  gK M3 3 o4 (
  bd2 (uX3_readFrom o4 o5 M3) (fun r7 M8 =>
  bd (pI M8 9 o0 1 r7) (fun M9 =>
  bd (gR M9 9 o0 0) (fun o10 =>
  bd (pI M9 7 o10 1 0) (fun M11 =>
  bd (gI M11 9 o0 1) (fun x12 =>
  if x12 = 0 then
    bd (gR M11 9 o0 4) (fun o14 =>
    bd (gR M11 9 o0 2) (fun o15 =>
    gK M11 8 o14 (
    bd (uX8_enact o14 o15 M11) (fun M17 =>
    bd (gR M17 9 o0 5) (fun o18 =>
    gK M17 2 o18 (
    bd (uX2_forget o18 M17) (fun M20 =>
    bd (gR M20 9 o0 2) (fun o21 =>
    bd (gI M20 3 o21 0) (fun x22 =>
    some (x22, M20))))))))))
  else
    bd (gR M11 9 o0 0) (fun o23 =>
    bd (gI M11 7 o23 5) (fun x24 =>
    some (w32 ((-1) - x24), M11))))))))))))))

def uX9_market_b186 (v6 : Int) (M : Mm) : Option (Int × Mm) :=
  some (v6, M)
def uX9_market_b131 (o0 : Nat) (v1 : Int) (v3 : Int) (v4 : Int) (v5 : Int) (v6 : Int) (v7 : Int) (v8 : Int) (v9 : Int) (M : Mm) : Option ((Int × Int × Int × Mm) ⊕ (Int × Mm)) :=
  bd (uX9_nextSeed v5 M) (fun r1 =>
  bd (uX9_drawn r1 v4 M) (fun r2 =>
  bd (uX9_nextSeed r1 M) (fun r3 =>
  bd (uX9_drawn r3 200 M) (fun r4 =>
  gK M 9 o0 (
  bd2 (uX9_trade o0 v8 v9 r2 (w32 (r4 + 1)) M) (fun r6 M7 =>
  if r6 = 0 then
    some (.inl (r3, v6, w32 (v7 + 1), M7))
  else
    some (.inl (r3, w32 (v6 + 1), w32 (v7 + 1), M7))))))))
def uX9_market_b129 (o0 : Nat) (v1 : Int) (v3 : Int) (v4 : Int) (v5 : Int) (v6 : Int) (v7 : Int) (v8 : Int) (vs0 : Int) (M : Mm) : Option ((Int × Int × Int × Mm) ⊕ (Int × Mm)) :=
  uX9_market_b131 o0 v1 v3 v4 v5 v6 v7 v8 vs0 M
def uX9_market_s70 (o0 : Nat) (v1 : Int) (v3 : Int) (v4 : Int) (v5 : Int) (v6 : Int) (v7 : Int) (M : Mm) : Option ((Int × Int × Int × Mm) ⊕ (Int × Mm)) :=
  if v1 ≤ v7 then
    some (.inr (v6, M))
  else
    bd (uX9_nextSeed v5 M) (fun r10 =>
    bd (uX9_drawn r10 v3 M) (fun r11 =>
    bd (uX9_nextSeed r10 M) (fun r12 =>
    bd (uX9_drawn r12 v3 M) (fun r13 =>
    if r13 = r11 then
      if v3 ≤ (w32 (r13 + 1)) then
        uX9_market_b129 o0 v1 v3 v4 r12 v6 v7 r11 0 M
      else
        uX9_market_b129 o0 v1 v3 v4 r12 v6 v7 r11 (w32 (r13 + 1)) M
    else
      uX9_market_b131 o0 v1 v3 v4 r12 v6 v7 r11 r13 M))))
def uX9_market_f70 (o0 : Nat) (v1 : Int) (v3 : Int) (v4 : Int) (x : Int × Int × Int × Mm) : Option ((Int × Int × Int × Mm) ⊕ (Int × Mm)) := uX9_market_s70 o0 v1 v3 v4 x.1 x.2.1 x.2.2.1 x.2.2.2
def uX9_market_c70 (o0 : Nat) (v1 : Int) (v3 : Int) (v4 : Int) (b : Int × Mm) : Option (Int × Mm) := uX9_market_b186 b.1 b.2
def uX9_market_b70 (o0 : Nat) (v1 : Int) (v3 : Int) (v4 : Int) (v5 : Int) (v6 : Int) (v7 : Int) (M : Mm) : Option (Int × Mm) :=
  bd (lp (uX9_market_f70 o0 v1 v3 v4) fu (v5, v6, v7, M)) (uX9_market_c70 o0 v1 v3 v4)
def uX9_market (o0 : Nat) (v1 : Int) (v2 : Int) (M0 : Mm) : Option (Int × Mm) :=
  bd (gR M0 9 o0 4) (fun o16 =>
  bd (gR M0 8 o16 0) (fun o17 =>
  bd (gI M0 3 o17 1) (fun x18 =>
  bd (gR M0 9 o0 4) (fun o19 =>
  bd (gR M0 8 o19 0) (fun o20 =>
  bd (gI M0 3 o20 2) (fun x21 =>
  if v1 < 1 then
    some ((-1), M0)
  else
    if 50 < v1 then
      some ((-1), M0)
    else
      if x18 < 1 then
        some ((-1), M0)
      else
        if 1 ≤ x21 then
          bd (gR M0 9 o0 5) (fun o26 =>
          bd (gR M0 9 o0 4) (fun o27 =>
          bd (gR M0 8 o27 1) (fun o28 =>
          gK M0 2 o26 (
          bd (uX2_keep o26 o28 M0) (fun M30 =>
          uX9_market_b70 o0 v1 x18 x21 v2 0 0 M30)))))
        else
          some ((-1), M0)))))))

def uX9_sentence (o0 : Nat) (M0 : Mm) : Option (Int × Mm) :=
  bd (gR M0 9 o0 0) (fun o1 =>
  gK M0 7 o1 (
  bd (uX7_begin o1 200 M0) (fun M3 =>
  bd (gR M3 9 o0 3) (fun o4 =>
  bd (gR M3 9 o0 0) (fun o5 =>
  bd (gR M3 9 o0 4) (fun o6 =>
  bd (gR M3 8 o6 0) (fun o7 =>
  gK M3 5 o4 (
  bd2 (uX5_readFrom o4 o5 o7 M3) (fun r9 M10 =>
  bd (pI M10 9 o0 1 r9) (fun M11 =>
  bd (gR M11 9 o0 0) (fun o12 =>
  bd (pI M11 7 o12 1 0) (fun M13 =>
  bd (gI M13 9 o0 1) (fun x14 =>
  if x14 = 0 then
    bd (gR M13 9 o0 4) (fun o16 =>
    bd (gR M13 8 o16 4) (fun o17 =>
    bd (gR M13 9 o0 3) (fun o18 =>
    gK M13 5 o17 (
    bd (uX5_copyFrom o17 o18 M13) (fun M20 =>
    bd (gR M20 9 o0 3) (fun o21 =>
    bd (gI M20 5 o21 0) (fun x22 =>
    some (x22, M20))))))))
  else
    bd (gR M13 9 o0 0) (fun o23 =>
    bd (gI M13 7 o23 5) (fun x24 =>
    some (w32 ((-1) - x24), M13))))))))))))))))

def uX9_said_b73 (v1 : Int) (v2 : Int) (M0 : Mm) : Option Int :=
  if v1 = (-1) then
    some v2
  else
    some (-1)
def uX9_said_s19 (o0 : Nat) (v1 : Int) (M0 : Mm) (v2 : Int) (v3 : Int) : Option ((Int × Int) ⊕ ((Int) ⊕ Int)) :=
  bd (gR M0 9 o0 4) (fun o2 =>
  bd (gR M0 8 o2 1) (fun o3 =>
  bd (gI M0 1 o3 0) (fun x4 =>
  if x4 ≤ v3 then
    some (.inr (.inl v2))
  else
    if 40 ≤ v3 then
      some (.inr (.inl v2))
    else
      bd (gR M0 9 o0 4) (fun o7 =>
      bd (gR M0 8 o7 4) (fun o8 =>
      bd (gR M0 9 o0 4) (fun o9 =>
      gK M0 5 o8 (
      bd (uX5_holds o8 o9 v3 M0) (fun r11 =>
      if r11 = 0 then
        some (.inl (v2, w32 (v3 + 1)))
      else
        if v2 = v1 then
          some (.inr (.inr v3))
        else
          some (.inl (w32 (v2 + 1), w32 (v3 + 1)))))))))))
def uX9_said_f19 (o0 : Nat) (v1 : Int) (M0 : Mm) (x : Int × Int) : Option ((Int × Int) ⊕ ((Int) ⊕ Int)) := uX9_said_s19 o0 v1 M0 x.1 x.2
def uX9_said_c19 (o0 : Nat) (v1 : Int) (M0 : Mm) (b : (Int) ⊕ Int) : Option Int := Sum.elim (fun b => uX9_said_b73 v1 b M0) (fun t => some t) b
def uX9_said_b19 (o0 : Nat) (v1 : Int) (v2 : Int) (v3 : Int) (M0 : Mm) : Option Int :=
  bd (lp (uX9_said_f19 o0 v1 M0) fu (v2, v3)) (uX9_said_c19 o0 v1 M0)
def uX9_said (o0 : Nat) (v1 : Int) (M0 : Mm) : Option Int :=
  bd (gR M0 9 o0 4) (fun o14 =>
  bd (gR M0 8 o14 4) (fun o15 =>
  bd (gI M0 5 o15 0) (fun x16 =>
  if x16 = 0 then
    some (-1)
  else
    uX9_said_b19 o0 v1 0 0 M0)))

def uX10_law_b160 (o0 : Nat) (v1 : Int) (M : Mm) : Option (Int × Mm) :=
  bd (pI M 10 o0 23 0) (fun M1 =>
  some (v1, M1))
def uX10_law_s136 (o0 : Nat) (v1 : Int) (v2 : Int) (M : Mm) : Option ((Int × Mm) ⊕ (Mm)) :=
  if 12 ≤ v2 then
    some (.inr M)
  else
    bd (gR M 10 o0 18) (fun o3 =>
    bd (gR M 10 o0 19) (fun o4 =>
    bd (aJ M o4 v2) (fun x5 =>
    bd (sJ M o3 v2 x5) (fun M6 =>
    some (.inl (w32 (v2 + 1), M6))))))
def uX10_law_f136 (o0 : Nat) (v1 : Int) (x : Int × Mm) : Option ((Int × Mm) ⊕ (Mm)) := uX10_law_s136 o0 v1 x.1 x.2
def uX10_law_c136 (o0 : Nat) (v1 : Int) (b : Mm) : Option (Int × Mm) := uX10_law_b160 o0 v1 b
def uX10_law_b136 (o0 : Nat) (v1 : Int) (v2 : Int) (M : Mm) : Option (Int × Mm) :=
  bd (lp (uX10_law_f136 o0 v1) fu (v2, M)) (uX10_law_c136 o0 v1)
def uX10_law_b118 (o0 : Nat) (v1 : Int) (M : Mm) : Option (Int × Mm) :=
  bd (gR M 10 o0 14) (fun o7 =>
  bd (sI 12 M o7 110 (-1)) (fun M8 =>
  bd (gR M8 10 o0 14) (fun o9 =>
  bd (sI 12 M8 o9 111 (-1)) (fun M10 =>
  uX10_law_b136 o0 v1 0 M10))))
def uX10_law_s99 (o0 : Nat) (v1 : Int) (v2 : Int) (M : Mm) : Option ((Int × Mm) ⊕ (Mm)) :=
  if 120 ≤ v2 then
    some (.inr M)
  else
    bd (gR M 10 o0 14) (fun o12 =>
    bd (sI 12 M o12 v2 0) (fun M13 =>
    some (.inl (w32 (v2 + 1), M13))))
def uX10_law_f99 (o0 : Nat) (v1 : Int) (x : Int × Mm) : Option ((Int × Mm) ⊕ (Mm)) := uX10_law_s99 o0 v1 x.1 x.2
def uX10_law_c99 (o0 : Nat) (v1 : Int) (b : Mm) : Option (Int × Mm) := uX10_law_b118 o0 v1 b
def uX10_law_b99 (o0 : Nat) (v1 : Int) (v2 : Int) (M : Mm) : Option (Int × Mm) :=
  bd (lp (uX10_law_f99 o0 v1) fu (v2, M)) (uX10_law_c99 o0 v1)
def uX10_law_b96 (o0 : Nat) (v1 : Int) (M : Mm) : Option (Int × Mm) :=
  uX10_law_b99 o0 v1 108 M
def uX10_law_s72 (o0 : Nat) (v1 : Int) (v2 : Int) (M : Mm) : Option ((Int × Mm) ⊕ (Mm)) :=
  if 108 ≤ v2 then
    some (.inr M)
  else
    bd (gR M 10 o0 14) (fun o15 =>
    bd (gR M 10 o0 15) (fun o16 =>
    bd (aI 12 M o16 v2) (fun x17 =>
    bd (sI 12 M o15 v2 x17) (fun M18 =>
    some (.inl (w32 (v2 + 1), M18))))))
def uX10_law_f72 (o0 : Nat) (v1 : Int) (x : Int × Mm) : Option ((Int × Mm) ⊕ (Mm)) := uX10_law_s72 o0 v1 x.1 x.2
def uX10_law_c72 (o0 : Nat) (v1 : Int) (b : Mm) : Option (Int × Mm) := uX10_law_b96 o0 v1 b
def uX10_law_b72 (o0 : Nat) (v1 : Int) (v2 : Int) (M : Mm) : Option (Int × Mm) :=
  bd (lp (uX10_law_f72 o0 v1) fu (v2, M)) (uX10_law_c72 o0 v1)
def uX10_law_b70 (o0 : Nat) (v1 : Int) (M : Mm) : Option (Int × Mm) :=
  uX10_law_b72 o0 v1 0 M
def uX10_law_s43 (o0 : Nat) (v1 : Int) (M : Mm) : Option ((Int × Mm) ⊕ ((Int × Mm) ⊕ (Int × Mm))) :=
  bd (gI M 10 o0 7) (fun x19 =>
  if x19 = 0 then
    some (.inr (.inl (v1, M)))
  else
    gK M 10 o0 (
    bd2 (uX10_readLine o0 M) (fun r22 M23 =>
    if r22 = 0 then
      bd (gI M23 10 o0 11) (fun x25 =>
      some (.inr (.inr (w32 ((-1) - x25), M23))))
    else
      some (.inl (w32 (v1 + 1), M23)))))
def uX10_law_f43 (o0 : Nat) (x : Int × Mm) : Option ((Int × Mm) ⊕ ((Int × Mm) ⊕ (Int × Mm))) := uX10_law_s43 o0 x.1 x.2
def uX10_law_c43 (o0 : Nat) (b : (Int × Mm) ⊕ (Int × Mm)) : Option (Int × Mm) := Sum.elim (fun b => uX10_law_b70 o0 b.1 b.2) (fun t => some t) b
def uX10_law_b43 (o0 : Nat) (v1 : Int) (M : Mm) : Option (Int × Mm) :=
  bd (lp (uX10_law_f43 o0) fu (v1, M)) (uX10_law_c43 o0)
def uX10_law_b28 (o0 : Nat) (M : Mm) : Option (Int × Mm) :=
  bd (gR M 10 o0 15) (fun o26 =>
  gK M 10 o0 (
  bd (uX10_plain o0 o26 M) (fun M28 =>
  bd (pI M28 10 o0 24 0) (fun M29 =>
  uX10_law_b43 o0 0 M29))))
def uX10_law_s9 (o0 : Nat) (v1 : Int) (M : Mm) : Option ((Int × Mm) ⊕ (Mm)) :=
  if 108 ≤ v1 then
    some (.inr M)
  else
    bd (gR M 10 o0 15) (fun o31 =>
    bd (sI 12 M o31 v1 0) (fun M32 =>
    some (.inl (w32 (v1 + 1), M32))))
def uX10_law_f9 (o0 : Nat) (x : Int × Mm) : Option ((Int × Mm) ⊕ (Mm)) := uX10_law_s9 o0 x.1 x.2
def uX10_law_c9 (o0 : Nat) (b : Mm) : Option (Int × Mm) := uX10_law_b28 o0 b
def uX10_law_b9 (o0 : Nat) (v1 : Int) (M : Mm) : Option (Int × Mm) :=
  bd (lp (uX10_law_f9 o0) fu (v1, M)) (uX10_law_c9 o0)
def uX10_law (o0 : Nat) (M0 : Mm) : Option (Int × Mm) :=
  gK M0 10 o0 (
  bd (uX10_begin o0 700 M0) (fun M34 =>
  uX10_law_b9 o0 0 M34))
