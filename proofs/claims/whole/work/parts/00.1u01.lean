def uX10_mint_b89 (v3 : Int) (M : Mm) : Option (Int × Mm) :=
  some (v3, M)
def uX10_mint_s48 (o0 : Nat) (v1 : Int) (M : Mm) (v3 : Int) (v4 : Int) : Option ((Int × Int) ⊕ (Int)) :=
  bd (gR M 10 o0 14) (fun on1 =>
  bd (aI 12 M on1 112) (fun x2 =>
  if x2 ≤ v4 then
    some (.inr v3)
  else
    bd (gR M 10 o0 14) (fun on4 =>
    bd (aI 12 M on4 (w32 ((w32 (1400 + (w32 (6 * v4)))) + 2))) (fun x5 =>
    if x5 = v1 then
      some (.inl (w32 (v3 + 1), w32 (v4 + 1)))
    else
      some (.inl (v3, w32 (v4 + 1)))))))
def uX10_mint_f48 (o0 : Nat) (v1 : Int) (M : Mm) (x : Int × Int) : Option ((Int × Int) ⊕ (Int)) := uX10_mint_s48 o0 v1 M x.1 x.2
def uX10_mint_c48 (o0 : Nat) (v1 : Int) (M : Mm) (b : Int) : Option (Int × Mm) := uX10_mint_b89 b M
def uX10_mint_b48 (o0 : Nat) (v1 : Int) (v3 : Int) (v4 : Int) (M : Mm) : Option (Int × Mm) :=
  bd (lp (uX10_mint_f48 o0 v1 M) fu (v3, v4)) (uX10_mint_c48 o0 v1 M)
def uX10_mint_b21 (o0 : Nat) (M : Mm) : Option (Int × Mm) :=
  gK M 10 o0 (
  bd2 (uX10_refuse o0 M) (fun r8 M9 =>
  some (r8, M9)))
def uX10_mint (o0 : Nat) (v1 : Int) (v2 : Int) (M0 : Mm) : Option (Int × Mm) :=
  gK M0 10 o0 (
  bd (uX10_lay o0 M0) (fun M11 =>
  gK M11 10 o0 (
  bd (uX10_isMint o0 v1 M11) (fun r13 =>
  if r13 = 0 then
    uX10_mint_b21 o0 M11
  else
    bd (uX10_isIn v2 0 3 M11) (fun r15 =>
    if r15 = 0 then
      uX10_mint_b21 o0 M11
    else
      bd (pI M11 10 o0 0 0) (fun M17 =>
      if 3 ≤ v2 then
        uX10_mint_b48 o0 v1 0 0 M17
      else
        gK M17 10 o0 (
        bd (uX10_ofMint o0 v1 v2 M17) (fun r20 =>
        some (r20, M17)))))))))

def uX10_wrongAt (o0 : Nat) (v1 : Int) (v2 : Int) (M0 : Mm) : Option Int :=
  gK M0 10 o0 (
  bd (uX10_ofCoin o0 v1 0 M0) (fun r2 =>
  gK M0 10 o0 (
  bd (uX10_ofCoin o0 v1 2 M0) (fun r4 =>
  gK M0 10 o0 (
  bd (uX10_wrongStroke o0 r2 r4 v2 M0) (fun r6 =>
  some r6))))))

def uX10_coin_b121 (o0 : Nat) (v1 : Int) (v2 : Int) (v3 : Int) (v4 : Int) (v5 : Int) (M : Mm) : Option (Int × Mm) :=
  bd (gR M 10 o0 14) (fun on1 =>
  bd (sI 12 M on1 (w32 (v5 + 0)) v2) (fun M2 =>
  bd (gR M2 10 o0 14) (fun on3 =>
  bd (sI 12 M2 on3 (w32 (v5 + 1)) v1) (fun M4 =>
  bd (gR M4 10 o0 14) (fun on5 =>
  bd (aI 12 M4 on5 108) (fun x6 =>
  bd (sI 12 M4 on5 108 (w32 (x6 + 1))) (fun M7 =>
  bd (gR M7 10 o0 14) (fun on8 =>
  bd (aI 12 M7 on8 114) (fun x9 =>
  bd (sI 12 M7 on8 114 (w32 (x9 + v2))) (fun M10 =>
  gK M10 10 o0 (
  bd (uX10_strike o0 v4 v1 v3 (-1) 0 M10) (fun M12 =>
  some (v4, M12)))))))))))))
def uX10_coin_s97 (o0 : Nat) (v1 : Int) (v2 : Int) (v3 : Int) (v4 : Int) (v5 : Int) (v6 : Int) (M : Mm) : Option ((Int × Mm) ⊕ (Mm)) :=
  if 32 ≤ v6 then
    some (.inr M)
  else
    bd (gR M 10 o0 14) (fun on14 =>
    bd (sI 12 M on14 (w32 (v5 + v6)) 0) (fun M15 =>
    some (.inl (w32 (v6 + 1), M15))))
def uX10_coin_f97 (o0 : Nat) (v1 : Int) (v2 : Int) (v3 : Int) (v4 : Int) (v5 : Int) (x : Int × Mm) : Option ((Int × Mm) ⊕ (Mm)) := uX10_coin_s97 o0 v1 v2 v3 v4 v5 x.1 x.2
def uX10_coin_c97 (o0 : Nat) (v1 : Int) (v2 : Int) (v3 : Int) (v4 : Int) (v5 : Int) (b : Mm) : Option (Int × Mm) := uX10_coin_b121 o0 v1 v2 v3 v4 v5 b
def uX10_coin_b97 (o0 : Nat) (v1 : Int) (v2 : Int) (v3 : Int) (v4 : Int) (v5 : Int) (v6 : Int) (M : Mm) : Option (Int × Mm) :=
  bd (lp (uX10_coin_f97 o0 v1 v2 v3 v4 v5) fu (v6, M)) (uX10_coin_c97 o0 v1 v2 v3 v4 v5)
def uX10_coin (o0 : Nat) (v1 : Int) (v2 : Int) (v3 : Int) (M0 : Mm) : Option (Int × Mm) :=
  bd (pI M0 10 o0 0 0) (fun M16 =>
  gK M16 10 o0 (
  bd (uX10_lay o0 M16) (fun M18 =>
  gK M18 10 o0 (
  bd (uX10_isWho o0 v1 M18) (fun r20 =>
  if r20 = 0 then
    some ((-1), M18)
  else
    gK M18 10 o0 (
    bd (uX10_ofWho o0 v1 2 M18) (fun r23 =>
    if 0 < r23 then
      some ((-1), M18)
    else
      bd (uX10_isIn v2 1 9999 M18) (fun r25 =>
      if r25 = 0 then
        some ((-1), M18)
      else
        gK M18 10 o0 (
        bd (uX10_isMint o0 v3 M18) (fun r28 =>
        if r28 = 0 then
          some ((-1), M18)
        else
          gK M18 10 o0 (
          bd (uX10_coins o0 M18) (fun r31 =>
          if r31 = 40 then
            some ((-1), M18)
          else
            gK M18 10 o0 (
            bd (uX10_isFull o0 1 M18) (fun r34 =>
            if r34 = 0 then
              gK M18 10 o0 (
              bd (uX10_wrongStroke o0 v2 0 v3 M18) (fun r37 =>
              if r37 = 0 then
                gK M18 10 o0 (
                bd (uX10_snap o0 M18) (fun M40 =>
                gK M40 10 o0 (
                bd (uX10_coins o0 M40) (fun r42 =>
                uX10_coin_b97 o0 v1 v2 v3 r42 (w32 (120 + (w32 (32 * r42)))) 0 M40))))
              else
                some ((-1), M18)))
            else
              some ((-1), M18)))))))))))))))

def uX10_showsFalse_b29 (v2 : Int) (M0 : Mm) : Option Int :=
  some v2
def uX10_showsFalse_s4 (o0 : Nat) (v1 : Int) (M0 : Mm) (v2 : Int) (v3 : Int) : Option ((Int × Int) ⊕ (Int)) :=
  gK M0 10 o0 (
  bd (uX10_ofCoin o0 v1 3 M0) (fun r2 =>
  if r2 ≤ v3 then
    some (.inr v2)
  else
    gK M0 10 o0 (
    bd (uX10_faceFalse o0 v1 v3 M0) (fun r5 =>
    some (.inl (or32 v2 r5, w32 (v3 + 1)))))))
def uX10_showsFalse_f4 (o0 : Nat) (v1 : Int) (M0 : Mm) (x : Int × Int) : Option ((Int × Int) ⊕ (Int)) := uX10_showsFalse_s4 o0 v1 M0 x.1 x.2
def uX10_showsFalse_c4 (o0 : Nat) (v1 : Int) (M0 : Mm) (b : Int) : Option Int := uX10_showsFalse_b29 b M0
def uX10_showsFalse_b4 (o0 : Nat) (v1 : Int) (v2 : Int) (v3 : Int) (M0 : Mm) : Option Int :=
  bd (lp (uX10_showsFalse_f4 o0 v1 M0) fu (v2, v3)) (uX10_showsFalse_c4 o0 v1 M0)
def uX10_showsFalse (o0 : Nat) (v1 : Int) (M0 : Mm) : Option Int :=
  uX10_showsFalse_b4 o0 v1 0 0 M0

def uX10_face (o0 : Nat) (v1 : Int) (v2 : Int) (v3 : Int) (M0 : Mm) : Option (Int × Mm) :=
  bd (pI M0 10 o0 0 0) (fun M1 =>
  gK M1 10 o0 (
  bd (uX10_lay o0 M1) (fun M3 =>
  gK M3 10 o0 (
  bd (uX10_isCoin o0 v1 M3) (fun r5 =>
  if r5 = 0 then
    some ((-1), M3)
  else
    if v2 < 0 then
      some ((-1), M3)
    else
      gK M3 10 o0 (
      bd (uX10_ofCoin o0 v1 3 M3) (fun r9 =>
      if r9 ≤ v2 then
        some ((-1), M3)
      else
        bd (uX10_isIn v3 0 2 M3) (fun r11 =>
        if r11 = 0 then
          some ((-1), M3)
        else
          gK M3 10 o0 (
          bd (uX10_ofCoin o0 v1 (w32 ((w32 (4 + (w32 (3 * v2)))) + v3)) M3) (fun r14 =>
          some (r14, M3)))))))))))

def uX10_luckOf_b39 (v1 : Int) (M0 : Mm) : Option Int :=
  if v1 ≤ 0 then
    some 0
  else
    some v1
def uX10_luckOf_s9 (o0 : Nat) (M0 : Mm) (v1 : Int) (v2 : Int) : Option ((Int × Int) ⊕ (Int)) :=
  gK M0 10 o0 (
  bd (uX10_coins o0 M0) (fun r3 =>
  if r3 ≤ v2 then
    some (.inr v1)
  else
    gK M0 10 o0 (
    bd (uX10_topOf o0 v2 M0) (fun r6 =>
    gK M0 10 o0 (
    bd (uX10_ofWho o0 r6 0 M0) (fun r8 =>
    if r8 ≤ 0 then
      some (.inl (v1, w32 (v2 + 1)))
    else
      some (.inl (w32 (v1 + (-1)), w32 (v2 + 1)))))))))
def uX10_luckOf_f9 (o0 : Nat) (M0 : Mm) (x : Int × Int) : Option ((Int × Int) ⊕ (Int)) := uX10_luckOf_s9 o0 M0 x.1 x.2
def uX10_luckOf_c9 (o0 : Nat) (M0 : Mm) (b : Int) : Option Int := uX10_luckOf_b39 b M0
def uX10_luckOf_b9 (o0 : Nat) (v1 : Int) (v2 : Int) (M0 : Mm) : Option Int :=
  bd (lp (uX10_luckOf_f9 o0 M0) fu (v1, v2)) (uX10_luckOf_c9 o0 M0)
def uX10_luckOf (o0 : Nat) (M0 : Mm) : Option Int :=
  bd (gR M0 10 o0 14) (fun on10 =>
  bd (aI 12 M0 on10 3) (fun x11 =>
  uX10_luckOf_b9 o0 x11 0 M0))

def uX10_bears_b66 (v3 : Int) (M : Mm) : Option (Int × Mm) :=
  some (v3, M)
def uX10_bears_s29 (o0 : Nat) (v1 : Int) (v2 : Int) (M : Mm) (v3 : Int) : Option ((Int) ⊕ (Int)) :=
  gK M 10 o0 (
  bd (uX10_ofCoin o0 v1 0 M) (fun r2 =>
  gK M 10 o0 (
  bd (uX10_ofMint o0 v2 0 M) (fun r4 =>
  gK M 10 o0 (
  bd (uX10_ofCoin o0 v1 2 M) (fun r6 =>
  gK M 10 o0 (
  bd (uX10_wrongStroke o0 (w32 (r2 - (w32 (v3 * r4)))) (w32 (r6 + v3)) v2 M) (fun r8 =>
  if r8 = 0 then
    some (.inl (w32 (v3 + 1)))
  else
    some (.inr v3)))))))))
def uX10_bears_f29 (o0 : Nat) (v1 : Int) (v2 : Int) (M : Mm) (x : Int) : Option ((Int) ⊕ (Int)) := uX10_bears_s29 o0 v1 v2 M x
def uX10_bears_c29 (o0 : Nat) (v1 : Int) (v2 : Int) (M : Mm) (b : Int) : Option (Int × Mm) := uX10_bears_b66 b M
def uX10_bears_b29 (o0 : Nat) (v1 : Int) (v2 : Int) (v3 : Int) (M : Mm) : Option (Int × Mm) :=
  bd (lp (uX10_bears_f29 o0 v1 v2 M) fu v3) (uX10_bears_c29 o0 v1 v2 M)
def uX10_bears (o0 : Nat) (v1 : Int) (v2 : Int) (M0 : Mm) : Option (Int × Mm) :=
  bd (pI M0 10 o0 0 0) (fun M10 =>
  gK M10 10 o0 (
  bd (uX10_lay o0 M10) (fun M12 =>
  gK M12 10 o0 (
  bd (uX10_isCoin o0 v1 M12) (fun r14 =>
  if r14 = 0 then
    some ((-1), M12)
  else
    gK M12 10 o0 (
    bd (uX10_isMint o0 v2 M12) (fun r17 =>
    if r17 = 0 then
      some ((-1), M12)
    else
      uX10_bears_b29 o0 v1 v2 0 M12)))))))

def uX10_worthOf_b63 (o0 : Nat) (v4 : Int) (v5 : Int) (v6 : Int) (v7 : Int) (v8 : Int) (v9 : Int) (M0 : Mm) : Option Int :=
  gK M0 10 o0 (
  bd (uX10_wrongStroke o0 v7 v8 v5 M0) (fun r2 =>
  if r2 = 0 then
    gK M0 10 o0 (
    bd (uX10_hundredths o0 v4 v9 v6 M0) (fun r5 =>
    bd (div32 (w32 (v7 * r5)) 100) (fun x6 =>
    some x6)))
  else
    some 0))
def uX10_worthOf (o0 : Nat) (v1 : Int) (v2 : Int) (v3 : Int) (v4 : Int) (v5 : Int) (v6 : Int) (M0 : Mm) : Option Int :=
  gK M0 10 o0 (
  bd (uX10_ofCoin o0 v1 0 M0) (fun r8 =>
  gK M0 10 o0 (
  bd (uX10_ofCoin o0 v1 2 M0) (fun r10 =>
  gK M0 10 o0 (
  bd (uX10_topOf o0 v1 M0) (fun r12 =>
  if v2 ≤ 1 then
    uX10_worthOf_b63 o0 v4 v5 v6 r8 r10 r12 M0
  else
    gK M0 10 o0 (
    bd (uX10_wrongStroke o0 r8 r10 (w32 (v2 - 2)) M0) (fun r15 =>
    if r15 = 0 then
      gK M0 10 o0 (
      bd (uX10_ofMint o0 (w32 (v2 - 2)) 0 M0) (fun r18 =>
      uX10_worthOf_b63 o0 v4 v5 v6 (w32 (r8 - r18)) (w32 (r10 + 1)) v3 M0))
    else
      some 0))))))))

def uX10_bestOf_b43 (v3 : Int) (M0 : Mm) : Option Int :=
  some v3
def uX10_bestOf_s7 (o0 : Nat) (v1 : Int) (v2 : Int) (M0 : Mm) (v3 : Int) (v4 : Int) : Option ((Int × Int) ⊕ (Int)) :=
  gK M0 10 o0 (
  bd (uX10_mints o0 M0) (fun r2 =>
  if (w32 (2 + r2)) ≤ v4 then
    some (.inr v3)
  else
    gK M0 10 o0 (
    bd (uX10_costOf o0 v1 v2 v4 M0) (fun r5 =>
    if v3 ≤ r5 then
      some (.inl (v3, w32 (v4 + 1)))
    else
      some (.inl (r5, w32 (v4 + 1)))))))
def uX10_bestOf_f7 (o0 : Nat) (v1 : Int) (v2 : Int) (M0 : Mm) (x : Int × Int) : Option ((Int × Int) ⊕ (Int)) := uX10_bestOf_s7 o0 v1 v2 M0 x.1 x.2
def uX10_bestOf_c7 (o0 : Nat) (v1 : Int) (v2 : Int) (M0 : Mm) (b : Int) : Option Int := uX10_bestOf_b43 b M0
def uX10_bestOf_b7 (o0 : Nat) (v1 : Int) (v2 : Int) (v3 : Int) (v4 : Int) (M0 : Mm) : Option Int :=
  bd (lp (uX10_bestOf_f7 o0 v1 v2 M0) fu (v3, v4)) (uX10_bestOf_c7 o0 v1 v2 M0)
def uX10_bestOf (o0 : Nat) (v1 : Int) (v2 : Int) (M0 : Mm) : Option Int :=
  uX10_bestOf_b7 o0 v1 v2 100000000 0 M0

def uX10_pay_b170 (o0 : Nat) (v1 : Int) (v2 : Int) (v3 : Int) (v4 : Int) (v5 : Int) (v6 : Int) (M : Mm) : Option Mm :=
  gK M 10 o0 (
  bd (uX10_keepSale o0 v1 v2 v3 v4 v5 v6 M) (fun M2 =>
  some M2))
def uX10_pay_s100 (o0 : Nat) (v1 : Int) (v2 : Int) (v3 : Int) (v4 : Int) (v5 : Int) (v6 : Int) (v7 : Int) (M : Mm) : Option ((Int × Mm) ⊕ (Mm)) :=
  bd (gI M 10 o0 31) (fun x3 =>
  if x3 ≤ v7 then
    some (.inr M)
  else
    bd (gR M 10 o0 30) (fun on5 =>
    bd (aI 12 M on5 v7) (fun x6 =>
    if x6 = 0 then
      some (.inl (w32 (v7 + 1), M))
    else
      bd (gR M 10 o0 26) (fun on8 =>
      bd (aI 12 M on8 v7) (fun x9 =>
      bd (gR M 10 o0 14) (fun on10 =>
      bd (aI 12 M on10 113) (fun x11 =>
      gK M 10 o0 (
      bd (uX10_strike o0 x9 v2 v3 x11 0 M) (fun M13 =>
      bd (gR M13 10 o0 14) (fun on14 =>
      bd (gR M13 10 o0 26) (fun on15 =>
      bd (aI 12 M13 on15 v7) (fun x16 =>
      bd (sI 12 M13 on14 (w32 ((w32 (120 + (w32 (32 * x16)))) + 1)) v2) (fun M17 =>
      some (.inl (w32 (v7 + 1), M17)))))))))))))))
def uX10_pay_f100 (o0 : Nat) (v1 : Int) (v2 : Int) (v3 : Int) (v4 : Int) (v5 : Int) (v6 : Int) (x : Int × Mm) : Option ((Int × Mm) ⊕ (Mm)) := uX10_pay_s100 o0 v1 v2 v3 v4 v5 v6 x.1 x.2
def uX10_pay_c100 (o0 : Nat) (v1 : Int) (v2 : Int) (v3 : Int) (v4 : Int) (v5 : Int) (v6 : Int) (b : Mm) : Option Mm := uX10_pay_b170 o0 v1 v2 v3 v4 v5 v6 b
def uX10_pay_b100 (o0 : Nat) (v1 : Int) (v2 : Int) (v3 : Int) (v4 : Int) (v5 : Int) (v6 : Int) (v7 : Int) (M : Mm) : Option Mm :=
  bd (lp (uX10_pay_f100 o0 v1 v2 v3 v4 v5 v6) fu (v7, M)) (uX10_pay_c100 o0 v1 v2 v3 v4 v5 v6)
def uX10_pay_b97 (o0 : Nat) (v1 : Int) (v2 : Int) (v3 : Int) (v4 : Int) (v5 : Int) (v6 : Int) (M : Mm) : Option Mm :=
  uX10_pay_b100 o0 v1 v2 v3 v4 v5 v6 0 M
def uX10_pay_s9 (o0 : Nat) (v1 : Int) (v2 : Int) (v3 : Int) (v4 : Int) (v5 : Int) (v6 : Int) (v7 : Int) (M : Mm) : Option ((Int × Int × Int × Mm) ⊕ (Int × Int × Mm)) :=
  bd (gI M 10 o0 31) (fun x18 =>
  if x18 ≤ v7 then
    some (.inr (v5, v6, M))
  else
    bd (gR M 10 o0 30) (fun on20 =>
    bd (aI 12 M on20 v7) (fun x21 =>
    if x21 = 0 then
      some (.inl (v5, v6, w32 (v7 + 1), M))
    else
      bd (gR M 10 o0 27) (fun on23 =>
      bd (gR M 10 o0 30) (fun on24 =>
      bd (aI 12 M on24 v7) (fun x25 =>
      bd (aI 12 M on23 (w32 ((w32 (6 * v7)) + x25))) (fun x26 =>
      bd (gR M 10 o0 30) (fun on27 =>
      bd (aI 12 M on27 v7) (fun x28 =>
      if x28 ≤ 1 then
        some (.inl (w32 (v5 + 1), w32 (v6 + x26), w32 (v7 + 1), M))
      else
        bd (gR M 10 o0 26) (fun on30 =>
        bd (aI 12 M on30 v7) (fun x31 =>
        bd (gR M 10 o0 30) (fun on32 =>
        bd (aI 12 M on32 v7) (fun x33 =>
        gK M 10 o0 (
        bd (uX10_strike o0 x31 v1 (w32 (x33 - 2)) (-1) 0 M) (fun M35 =>
        some (.inl (w32 (v5 + 1), w32 (v6 + x26), w32 (v7 + 1), M35)))))))))))))))))
def uX10_pay_f9 (o0 : Nat) (v1 : Int) (v2 : Int) (v3 : Int) (v4 : Int) (x : Int × Int × Int × Mm) : Option ((Int × Int × Int × Mm) ⊕ (Int × Int × Mm)) := uX10_pay_s9 o0 v1 v2 v3 v4 x.1 x.2.1 x.2.2.1 x.2.2.2
def uX10_pay_c9 (o0 : Nat) (v1 : Int) (v2 : Int) (v3 : Int) (v4 : Int) (b : Int × Int × Mm) : Option Mm := uX10_pay_b97 o0 v1 v2 v3 v4 b.1 b.2.1 b.2.2
def uX10_pay_b9 (o0 : Nat) (v1 : Int) (v2 : Int) (v3 : Int) (v4 : Int) (v5 : Int) (v6 : Int) (v7 : Int) (M : Mm) : Option Mm :=
  bd (lp (uX10_pay_f9 o0 v1 v2 v3 v4) fu (v5, v6, v7, M)) (uX10_pay_c9 o0 v1 v2 v3 v4)
def uX10_pay (o0 : Nat) (v1 : Int) (v2 : Int) (v3 : Int) (v4 : Int) (M0 : Mm) : Option Mm :=
  uX10_pay_b9 o0 v1 v2 v3 v4 0 0 0 M0

def uX10_steal (o0 : Nat) (v1 : Int) (v2 : Int) (M0 : Mm) : Option (Int × Mm) :=
  bd (pI M0 10 o0 0 0) (fun M1 =>
  gK M1 10 o0 (
  bd (uX10_lay o0 M1) (fun M3 =>
  gK M3 10 o0 (
  bd (uX10_isWho o0 v1 M3) (fun r5 =>
  if r5 = 0 then
    some (0, M3)
  else
    gK M3 10 o0 (
    bd (uX10_isWho o0 v2 M3) (fun r8 =>
    if r8 = 0 then
      some (0, M3)
    else
      gK M3 10 o0 (
      bd (uX10_areUnfit o0 v1 v2 M3) (fun r11 =>
      if r11 = 0 then
        bd (gR M3 10 o0 14) (fun on13 =>
        bd (aI 12 M3 on13 110) (fun x14 =>
        if x14 = (-1) then
          gK M3 10 o0 (
          bd (uX10_snap o0 M3) (fun M17 =>
          bd (gR M17 10 o0 14) (fun on18 =>
          bd (sI 12 M17 on18 110 v2) (fun M19 =>
          bd (gR M19 10 o0 14) (fun on20 =>
          bd (sI 12 M19 on20 111 v1) (fun M21 =>
          some (1, M21)))))))
        else
          some (0, M3)))
      else
        some (0, M3))))))))))

def uX10_day (o0 : Nat) (M0 : Mm) : Option (Int × Mm) :=
  bd (pI M0 10 o0 0 0) (fun M1 =>
  gK M1 10 o0 (
  bd (uX10_lay o0 M1) (fun M3 =>
  bd (gR M3 10 o0 14) (fun on4 =>
  bd (aI 12 M3 on4 109) (fun x5 =>
  if x5 = 9999 then
    some ((-1), M3)
  else
    gK M3 10 o0 (
    bd (uX10_snap o0 M3) (fun M8 =>
    bd (gR M8 10 o0 14) (fun on9 =>
    bd (aI 12 M8 on9 109) (fun x10 =>
    bd (sI 12 M8 on9 109 (w32 (x10 + 1))) (fun M11 =>
    gK M11 10 o0 (
    bd (uX10_giveBack o0 M11) (fun M13 =>
    bd (gR M13 10 o0 14) (fun on14 =>
    bd (aI 12 M13 on14 109) (fun x15 =>
    some (x15, M13)))))))))))))))

def uX10_rob (o0 : Nat) (v1 : Int) (v2 : Int) (M0 : Mm) : Option (Int × Mm) :=
  bd (pI M0 10 o0 0 0) (fun M1 =>
  gK M1 10 o0 (
  bd (uX10_lay o0 M1) (fun M3 =>
  gK M3 10 o0 (
  bd (uX10_isWho o0 v1 M3) (fun r5 =>
  if r5 = 0 then
    some (0, M3)
  else
    gK M3 10 o0 (
    bd (uX10_isCoin o0 v2 M3) (fun r8 =>
    if r8 = 0 then
      some (0, M3)
    else
      gK M3 10 o0 (
      bd (uX10_ofCoin o0 v2 1 M3) (fun r11 =>
      if r11 = v1 then
        some (0, M3)
      else
        gK M3 10 o0 (
        bd (uX10_ofWho o0 v1 2 M3) (fun r14 =>
        if r14 ≤ 0 then
          gK M3 10 o0 (
          bd (uX10_snap o0 M3) (fun M17 =>
          bd (gR M17 10 o0 14) (fun on18 =>
          bd (sI 12 M17 on18 (w32 ((w32 (120 + (w32 (32 * v2)))) + 1)) v1) (fun M19 =>
          some (1, M19)))))
        else
          some (0, M3))))))))))))

def uX10_dies_b129 (o0 : Nat) (v3 : Int) (M : Mm) : Option (Int × Mm) :=
  gK M 10 o0 (
  bd (uX10_giveBack o0 M) (fun M2 =>
  some (v3, M2)))
def uX10_dies_b107 (o0 : Nat) (v1 : Int) (v3 : Int) (M : Mm) : Option (Int × Mm) :=
  bd (gR M 10 o0 14) (fun on3 =>
  bd (aI 12 M on3 110) (fun x4 =>
  if x4 = v1 then
    uX10_dies_b129 o0 v3 M
  else
    bd (gR M 10 o0 14) (fun on6 =>
    bd (aI 12 M on6 111) (fun x7 =>
    if x7 = v1 then
      uX10_dies_b129 o0 v3 M
    else
      some (v3, M)))))
def uX10_dies_s59 (o0 : Nat) (v1 : Int) (v2 : Int) (v3 : Int) (v4 : Int) (M : Mm) : Option ((Int × Int × Mm) ⊕ (Int × Mm)) :=
  gK M 10 o0 (
  bd (uX10_coins o0 M) (fun r10 =>
  if r10 ≤ v4 then
    some (.inr (v3, M))
  else
    gK M 10 o0 (
    bd (uX10_ofCoin o0 v4 1 M) (fun r13 =>
    if r13 = v1 then
      bd (gR M 10 o0 14) (fun on15 =>
      bd (sI 12 M on15 (w32 ((w32 (120 + (w32 (32 * v4)))) + 1)) v2) (fun M16 =>
      some (.inl (w32 (v3 + 1), w32 (v4 + 1), M16))))
    else
      some (.inl (v3, w32 (v4 + 1), M))))))
def uX10_dies_f59 (o0 : Nat) (v1 : Int) (v2 : Int) (x : Int × Int × Mm) : Option ((Int × Int × Mm) ⊕ (Int × Mm)) := uX10_dies_s59 o0 v1 v2 x.1 x.2.1 x.2.2
def uX10_dies_c59 (o0 : Nat) (v1 : Int) (v2 : Int) (b : Int × Mm) : Option (Int × Mm) := uX10_dies_b107 o0 v1 b.1 b.2
def uX10_dies_b59 (o0 : Nat) (v1 : Int) (v2 : Int) (v3 : Int) (v4 : Int) (M : Mm) : Option (Int × Mm) :=
  bd (lp (uX10_dies_f59 o0 v1 v2) fu (v3, v4, M)) (uX10_dies_c59 o0 v1 v2)
def uX10_dies (o0 : Nat) (v1 : Int) (v2 : Int) (M0 : Mm) : Option (Int × Mm) :=
  bd (pI M0 10 o0 0 0) (fun M17 =>
  gK M17 10 o0 (
  bd (uX10_lay o0 M17) (fun M19 =>
  gK M19 10 o0 (
  bd (uX10_isWho o0 v1 M19) (fun r21 =>
  if r21 = 0 then
    some ((-1), M19)
  else
    gK M19 10 o0 (
    bd (uX10_isWho o0 v2 M19) (fun r24 =>
    if r24 = 0 then
      some ((-1), M19)
    else
      gK M19 10 o0 (
      bd (uX10_areUnfit o0 v1 v2 M19) (fun r27 =>
      if r27 = 0 then
        gK M19 10 o0 (
        bd (uX10_snap o0 M19) (fun M30 =>
        bd (gR M30 10 o0 14) (fun on31 =>
        bd (sI 12 M30 on31 (w32 ((w32 (8 + (w32 (3 * v1)))) + 2)) 1) (fun M32 =>
        uX10_dies_b59 o0 v1 v2 0 0 M32))))
      else
        some ((-1), M19))))))))))

def uX10_close (o0 : Nat) (v1 : Int) (M0 : Mm) : Option (Int × Mm) :=
  bd (pI M0 10 o0 0 0) (fun M1 =>
  gK M1 10 o0 (
  bd (uX10_lay o0 M1) (fun M3 =>
  gK M3 10 o0 (
  bd (uX10_isMint o0 v1 M3) (fun r5 =>
  if r5 = 0 then
    some (0, M3)
  else
    gK M3 10 o0 (
    bd (uX10_ofMint o0 v1 2 M3) (fun r8 =>
    if r8 ≤ 0 then
      gK M3 10 o0 (
      bd (uX10_snap o0 M3) (fun M11 =>
      bd (gR M11 10 o0 14) (fun on12 =>
      bd (sI 12 M11 on12 (w32 ((w32 (32 + (w32 (3 * v1)))) + 2)) 1) (fun M13 =>
      some (1, M13)))))
    else
      some (0, M3))))))))

def uX10_stroke_b25 (o0 : Nat) (M : Mm) : Option (Int × Mm) :=
  gK M 10 o0 (
  bd2 (uX10_refuse o0 M) (fun r2 M3 =>
  some (r2, M3)))
def uX10_stroke (o0 : Nat) (v1 : Int) (v2 : Int) (M0 : Mm) : Option (Int × Mm) :=
  if v1 < 0 then
    uX10_stroke_b25 o0 M0
  else
    bd (gR M0 10 o0 14) (fun on5 =>
    bd (aI 12 M0 on5 112) (fun x6 =>
    if x6 ≤ v1 then
      uX10_stroke_b25 o0 M0
    else
      bd (uX10_isIn v2 0 6 M0) (fun r8 =>
      if r8 = 0 then
        uX10_stroke_b25 o0 M0
      else
        bd (pI M0 10 o0 0 0) (fun M10 =>
        if 6 ≤ v2 then
          gK M10 10 o0 (
          bd (uX10_isShown o0 v1 M10) (fun r13 =>
          some (r13, M10)))
        else
          bd (gR M10 10 o0 14) (fun on14 =>
          bd (aI 12 M10 on14 (w32 ((w32 (1400 + (w32 (6 * v1)))) + v2))) (fun x15 =>
          some (x15, M10)))))))

def uX10_foreign_b54 (v1 : Int) (v2 : Int) (M : Mm) : Option (Int × Mm) :=
  if v1 = (-1) then
    some (v2, M)
  else
    some ((-1), M)
def uX10_foreign_s13 (o0 : Nat) (v1 : Int) (M : Mm) (v2 : Int) (v3 : Int) : Option ((Int × Int) ⊕ ((Int) ⊕ (Int × Mm))) :=
  gK M 10 o0 (
  bd (uX10_coins o0 M) (fun r3 =>
  if r3 ≤ v3 then
    some (.inr (.inl v2))
  else
    gK M 10 o0 (
    bd (uX10_ofCoin o0 v3 1 M) (fun r6 =>
    gK M 10 o0 (
    bd (uX10_topOf o0 v3 M) (fun r8 =>
    if r6 = r8 then
      some (.inl (v2, w32 (v3 + 1)))
    else
      if v2 = v1 then
        some (.inr (.inr (v3, M)))
      else
        some (.inl (w32 (v2 + 1), w32 (v3 + 1)))))))))
def uX10_foreign_f13 (o0 : Nat) (v1 : Int) (M : Mm) (x : Int × Int) : Option ((Int × Int) ⊕ ((Int) ⊕ (Int × Mm))) := uX10_foreign_s13 o0 v1 M x.1 x.2
def uX10_foreign_c13 (o0 : Nat) (v1 : Int) (M : Mm) (b : (Int) ⊕ (Int × Mm)) : Option (Int × Mm) := Sum.elim (fun b => uX10_foreign_b54 v1 b M) (fun t => some t) b
def uX10_foreign_b13 (o0 : Nat) (v1 : Int) (v2 : Int) (v3 : Int) (M : Mm) : Option (Int × Mm) :=
  bd (lp (uX10_foreign_f13 o0 v1 M) fu (v2, v3)) (uX10_foreign_c13 o0 v1 M)
def uX10_foreign (o0 : Nat) (v1 : Int) (M0 : Mm) : Option (Int × Mm) :=
  bd (pI M0 10 o0 0 0) (fun M11 =>
  gK M11 10 o0 (
  bd (uX10_lay o0 M11) (fun M13 =>
  uX10_foreign_b13 o0 v1 0 0 M13)))

def uX10_silver_b68 (v2 : Int) (M : Mm) : Option (Int × Mm) :=
  some (v2, M)
def uX10_silver_s45 (o0 : Nat) (M : Mm) (v2 : Int) (v3 : Int) : Option ((Int × Int) ⊕ (Int)) :=
  gK M 10 o0 (
  bd (uX10_coins o0 M) (fun r2 =>
  if r2 ≤ v3 then
    some (.inr v2)
  else
    gK M 10 o0 (
    bd (uX10_ofCoin o0 v3 0 M) (fun r5 =>
    some (.inl (w32 (v2 + r5), w32 (v3 + 1)))))))
def uX10_silver_f45 (o0 : Nat) (M : Mm) (x : Int × Int) : Option ((Int × Int) ⊕ (Int)) := uX10_silver_s45 o0 M x.1 x.2
def uX10_silver_c45 (o0 : Nat) (M : Mm) (b : Int) : Option (Int × Mm) := uX10_silver_b68 b M
def uX10_silver_b45 (o0 : Nat) (v2 : Int) (v3 : Int) (M : Mm) : Option (Int × Mm) :=
  bd (lp (uX10_silver_f45 o0 M) fu (v2, v3)) (uX10_silver_c45 o0 M)
def uX10_silver (o0 : Nat) (v1 : Int) (M0 : Mm) : Option (Int × Mm) :=
  bd (pI M0 10 o0 0 0) (fun M6 =>
  gK M6 10 o0 (
  bd (uX10_lay o0 M6) (fun M8 =>
  if v1 = 0 then
    bd (gR M8 10 o0 14) (fun on14 =>
    bd (aI 12 M8 on14 114) (fun x15 =>
    some (x15, M8)))
  else
    if v1 = 2 then
      bd (gR M8 10 o0 14) (fun on12 =>
      bd (aI 12 M8 on12 115) (fun x13 =>
      some (x13, M8)))
    else
      if v1 = 1 then
        uX10_silver_b45 o0 0 0 M8
      else
        some ((-1), M8))))

def uX10_image_b84 (o0 : Nat) (v1 : Int) (M : Mm) : Option (Int × Mm) :=
  bd (gR M 10 o0 21) (fun on1 =>
  bd (sI 14 M on1 v1 1) (fun M2 =>
  some (1, M2)))
def uX10_image_s55 (o0 : Nat) (v1 : Int) (v2 : Int) (M : Mm) : Option ((Int × Mm) ⊕ (Mm)) :=
  if 12 ≤ v2 then
    some (.inr M)
  else
    bd (gR M 10 o0 20) (fun on4 =>
    bd (gR M 10 o0 18) (fun on5 =>
    bd (aJ M on5 v2) (fun x6 =>
    bd (sJ M on4 (w32 ((w32 (12 * v1)) + v2)) x6) (fun M7 =>
    some (.inl (w32 (v2 + 1), M7))))))
def uX10_image_f55 (o0 : Nat) (v1 : Int) (x : Int × Mm) : Option ((Int × Mm) ⊕ (Mm)) := uX10_image_s55 o0 v1 x.1 x.2
def uX10_image_c55 (o0 : Nat) (v1 : Int) (b : Mm) : Option (Int × Mm) := uX10_image_b84 o0 v1 b
def uX10_image_b55 (o0 : Nat) (v1 : Int) (v2 : Int) (M : Mm) : Option (Int × Mm) :=
  bd (lp (uX10_image_f55 o0 v1) fu (v2, M)) (uX10_image_c55 o0 v1)
def uX10_image_b53 (o0 : Nat) (v1 : Int) (M : Mm) : Option (Int × Mm) :=
  uX10_image_b55 o0 v1 0 M
def uX10_image_s22 (o0 : Nat) (v1 : Int) (v2 : Int) (M : Mm) : Option ((Int × Mm) ⊕ (Mm)) :=
  if 8140 ≤ v2 then
    some (.inr M)
  else
    bd (gR M 10 o0 16) (fun on9 =>
    bd (gR M 10 o0 14) (fun on10 =>
    bd (aI 12 M on10 v2) (fun x11 =>
    bd (sI 12 M on9 (w32 ((w32 (8140 * v1)) + v2)) x11) (fun M12 =>
    some (.inl (w32 (v2 + 1), M12))))))
def uX10_image_f22 (o0 : Nat) (v1 : Int) (x : Int × Mm) : Option ((Int × Mm) ⊕ (Mm)) := uX10_image_s22 o0 v1 x.1 x.2
def uX10_image_c22 (o0 : Nat) (v1 : Int) (b : Mm) : Option (Int × Mm) := uX10_image_b53 o0 v1 b
def uX10_image_b22 (o0 : Nat) (v1 : Int) (v2 : Int) (M : Mm) : Option (Int × Mm) :=
  bd (lp (uX10_image_f22 o0 v1) fu (v2, M)) (uX10_image_c22 o0 v1)
def uX10_image (o0 : Nat) (v1 : Int) (M0 : Mm) : Option (Int × Mm) :=
  bd (pI M0 10 o0 0 0) (fun M13 =>
  gK M13 10 o0 (
  bd (uX10_lay o0 M13) (fun M15 =>
  bd (uX10_isIn v1 0 1 M15) (fun r16 =>
  if r16 = 0 then
    some (0, M15)
  else
    uX10_image_b22 o0 v1 0 M15))))

def uX10_restore_b93 (o0 : Nat) (M : Mm) : Option (Int × Mm) :=
  bd (pI M 10 o0 23 0) (fun M1 =>
  some (1, M1))
def uX10_restore_s64 (o0 : Nat) (v1 : Int) (v2 : Int) (M : Mm) : Option ((Int × Mm) ⊕ (Mm)) :=
  if 12 ≤ v2 then
    some (.inr M)
  else
    bd (gR M 10 o0 18) (fun on3 =>
    bd (gR M 10 o0 20) (fun on4 =>
    bd (aJ M on4 (w32 ((w32 (12 * v1)) + v2))) (fun x5 =>
    bd (sJ M on3 v2 x5) (fun M6 =>
    some (.inl (w32 (v2 + 1), M6))))))
def uX10_restore_f64 (o0 : Nat) (v1 : Int) (x : Int × Mm) : Option ((Int × Mm) ⊕ (Mm)) := uX10_restore_s64 o0 v1 x.1 x.2
def uX10_restore_c64 (o0 : Nat) (v1 : Int) (b : Mm) : Option (Int × Mm) := uX10_restore_b93 o0 b
def uX10_restore_b64 (o0 : Nat) (v1 : Int) (v2 : Int) (M : Mm) : Option (Int × Mm) :=
  bd (lp (uX10_restore_f64 o0 v1) fu (v2, M)) (uX10_restore_c64 o0 v1)
def uX10_restore_b62 (o0 : Nat) (v1 : Int) (M : Mm) : Option (Int × Mm) :=
  uX10_restore_b64 o0 v1 0 M
def uX10_restore_s31 (o0 : Nat) (v1 : Int) (v2 : Int) (M : Mm) : Option ((Int × Mm) ⊕ (Mm)) :=
  if 8140 ≤ v2 then
    some (.inr M)
  else
    bd (gR M 10 o0 14) (fun on8 =>
    bd (gR M 10 o0 16) (fun on9 =>
    bd (aI 12 M on9 (w32 ((w32 (8140 * v1)) + v2))) (fun x10 =>
    bd (sI 12 M on8 v2 x10) (fun M11 =>
    some (.inl (w32 (v2 + 1), M11))))))
def uX10_restore_f31 (o0 : Nat) (v1 : Int) (x : Int × Mm) : Option ((Int × Mm) ⊕ (Mm)) := uX10_restore_s31 o0 v1 x.1 x.2
def uX10_restore_c31 (o0 : Nat) (v1 : Int) (b : Mm) : Option (Int × Mm) := uX10_restore_b62 o0 v1 b
def uX10_restore_b31 (o0 : Nat) (v1 : Int) (v2 : Int) (M : Mm) : Option (Int × Mm) :=
  bd (lp (uX10_restore_f31 o0 v1) fu (v2, M)) (uX10_restore_c31 o0 v1)
def uX10_restore (o0 : Nat) (v1 : Int) (M0 : Mm) : Option (Int × Mm) :=
  bd (pI M0 10 o0 0 0) (fun M12 =>
  gK M12 10 o0 (
  bd (uX10_lay o0 M12) (fun M14 =>
  bd (uX10_isIn v1 0 1 M14) (fun r15 =>
  if r15 = 0 then
    some (0, M14)
  else
    bd (gR M14 10 o0 21) (fun on17 =>
    bd (aI 14 M14 on17 v1) (fun x18 =>
    if x18 = 0 then
      some (0, M14)
    else
      uX10_restore_b31 o0 v1 0 M14))))))

def uX10_count (o0 : Nat) (v1 : Int) (M0 : Mm) : Option (Int × Mm) :=
  bd (pI M0 10 o0 0 0) (fun M1 =>
  gK M1 10 o0 (
  bd (uX10_lay o0 M1) (fun M3 =>
  if v1 = 11 then
    bd (gI M3 10 o0 2) (fun x21 =>
    some (x21, M3))
  else
    bd (uX10_isIn v1 0 10 M3) (fun r5 =>
    if r5 = 0 then
      some ((-1), M3)
    else
      if 7 ≤ v1 then
        if v1 = 7 then
          gK M3 10 o0 (
          bd (uX10_coins o0 M3) (fun r18 =>
          some (r18, M3)))
        else
          if v1 = 8 then
            bd (gR M3 10 o0 14) (fun on15 =>
            bd (aI 12 M3 on15 109) (fun x16 =>
            some (x16, M3)))
          else
            if v1 = 9 then
              bd (gR M3 10 o0 14) (fun on13 =>
              bd (aI 12 M3 on13 110) (fun x14 =>
              some (x14, M3)))
            else
              bd (gR M3 10 o0 14) (fun on11 =>
              bd (aI 12 M3 on11 111) (fun x12 =>
              some (x12, M3)))
      else
        bd (gR M3 10 o0 14) (fun on19 =>
        bd (aI 12 M3 on19 v1) (fun x20 =>
        some (x20, M3)))))))

def uX10_tryRows_b194 (rc : Nat → Int → Int → Int → Int → Mm → Option (Mm))  (M : Mm) : Option Mm :=
  some M
def uX10_tryRows_b188 (rc : Nat → Int → Int → Int → Int → Mm → Option (Mm)) (o0 : Nat) (v1 : Int) (v2 : Int) (v3 : Int) (v4 : Int) (v5 : Int) (M : Mm) : Option ((Int × Mm) ⊕ (Mm)) :=
  some (.inl (w32 (v5 + 1), M))
def uX10_tryRows_s152 (rc : Nat → Int → Int → Int → Int → Mm → Option (Mm)) (o0 : Nat) (v1 : Int) (v2 : Int) (v3 : Int) (v4 : Int) (v5 : Int) (v6 : Int) (v7 : Int) (M : Mm) : Option ((Int × Mm) ⊕ (Mm)) :=
  gK M 10 o0 (
  bd (uX10_people o0 M) (fun r2 =>
  if r2 ≤ v7 then
    some (.inr M)
  else
    bd (gR M 10 o0 33) (fun on4 =>
    bd (sI 12 M on4 v4 v7) (fun M5 =>
    gK M5 10 o0 (
    bd (rc o0 v1 v6 v3 (w32 (v4 + 1)) M5) (fun M7 =>
    some (.inl (w32 (v7 + 1), M7))))))))
def uX10_tryRows_f152 (rc : Nat → Int → Int → Int → Int → Mm → Option (Mm)) (o0 : Nat) (v1 : Int) (v2 : Int) (v3 : Int) (v4 : Int) (v5 : Int) (v6 : Int) (x : Int × Mm) : Option ((Int × Mm) ⊕ (Mm)) := uX10_tryRows_s152 rc o0 v1 v2 v3 v4 v5 v6 x.1 x.2
def uX10_tryRows_c152 (rc : Nat → Int → Int → Int → Int → Mm → Option (Mm)) (o0 : Nat) (v1 : Int) (v2 : Int) (v3 : Int) (v4 : Int) (v5 : Int) (v6 : Int) (b : Mm) : Option ((Int × Mm) ⊕ (Mm)) := uX10_tryRows_b188 rc o0 v1 v2 v3 v4 v5 b
def uX10_tryRows_b152 (rc : Nat → Int → Int → Int → Int → Mm → Option (Mm)) (o0 : Nat) (v1 : Int) (v2 : Int) (v3 : Int) (v4 : Int) (v5 : Int) (v6 : Int) (v7 : Int) (M : Mm) : Option ((Int × Mm) ⊕ (Mm)) :=
  bd (lp (uX10_tryRows_f152 rc o0 v1 v2 v3 v4 v5 v6) fu (v7, M)) (uX10_tryRows_c152 rc o0 v1 v2 v3 v4 v5 v6)
def uX10_tryRows_s106 (rc : Nat → Int → Int → Int → Int → Mm → Option (Mm)) (o0 : Nat) (v1 : Int) (v2 : Int) (v3 : Int) (v4 : Int) (v5 : Int) (M : Mm) : Option ((Int × Mm) ⊕ (Mm)) :=
  gK M 10 o0 (
  bd (uX10_mints o0 M) (fun r9 =>
  if r9 ≤ v5 then
    some (.inr M)
  else
    gK M 10 o0 (
    bd (uX10_ofMint o0 v5 0 M) (fun r12 =>
    bd (gR M 10 o0 14) (fun on13 =>
    bd (aI 12 M on13 5) (fun x14 =>
    if x14 ≤ (w32 (v2 - r12)) then
      bd (gR M 10 o0 34) (fun on16 =>
      bd (sI 12 M on16 v4 v5) (fun M17 =>
      uX10_tryRows_b152 rc o0 v1 v2 v3 v4 v5 (w32 (v2 - r12)) 0 M17))
    else
      uX10_tryRows_b188 rc o0 v1 v2 v3 v4 v5 M))))))
def uX10_tryRows_f106 (rc : Nat → Int → Int → Int → Int → Mm → Option (Mm)) (o0 : Nat) (v1 : Int) (v2 : Int) (v3 : Int) (v4 : Int) (x : Int × Mm) : Option ((Int × Mm) ⊕ (Mm)) := uX10_tryRows_s106 rc o0 v1 v2 v3 v4 x.1 x.2
def uX10_tryRows_c106 (rc : Nat → Int → Int → Int → Int → Mm → Option (Mm)) (o0 : Nat) (v1 : Int) (v2 : Int) (v3 : Int) (v4 : Int) (b : Mm) : Option Mm := uX10_tryRows_b194 rc b
def uX10_tryRows_b106 (rc : Nat → Int → Int → Int → Int → Mm → Option (Mm)) (o0 : Nat) (v1 : Int) (v2 : Int) (v3 : Int) (v4 : Int) (v5 : Int) (M : Mm) : Option Mm :=
  bd (lp (uX10_tryRows_f106 rc o0 v1 v2 v3 v4) fu (v5, M)) (uX10_tryRows_c106 rc o0 v1 v2 v3 v4)
def uX10_tryRows_b89 (rc : Nat → Int → Int → Int → Int → Mm → Option (Mm))  (M : Mm) : Option Mm :=
  some M
def uX10_tryRows_s39 (rc : Nat → Int → Int → Int → Int → Mm → Option (Mm)) (o0 : Nat) (v3 : Int) (v5 : Int) (M : Mm) : Option ((Int × Mm) ⊕ (Mm)) :=
  if v3 ≤ v5 then
    some (.inr M)
  else
    bd (gR M 10 o0 35) (fun on19 =>
    bd (aI 12 M on19 v5) (fun x20 =>
    bd (gR M 10 o0 33) (fun on21 =>
    bd (aI 12 M on21 v5) (fun x22 =>
    bd (sI 12 M on19 v5 (or32 x20 (shl32 1 x22))) (fun M23 =>
    bd (gR M23 10 o0 36) (fun on24 =>
    bd (aI 12 M23 on24 v5) (fun x25 =>
    bd (gR M23 10 o0 34) (fun on26 =>
    bd (aI 12 M23 on26 v5) (fun x27 =>
    bd (sI 12 M23 on24 v5 (or32 x25 (shl32 1 x27))) (fun M28 =>
    some (.inl (w32 (v5 + 1), M28))))))))))))
def uX10_tryRows_f39 (rc : Nat → Int → Int → Int → Int → Mm → Option (Mm)) (o0 : Nat) (v3 : Int) (x : Int × Mm) : Option ((Int × Mm) ⊕ (Mm)) := uX10_tryRows_s39 rc o0 v3 x.1 x.2
def uX10_tryRows_c39 (rc : Nat → Int → Int → Int → Int → Mm → Option (Mm)) (o0 : Nat) (v3 : Int) (b : Mm) : Option Mm := uX10_tryRows_b89 rc b
def uX10_tryRows_b39 (rc : Nat → Int → Int → Int → Int → Mm → Option (Mm)) (o0 : Nat) (v3 : Int) (v5 : Int) (M : Mm) : Option Mm :=
  bd (lp (uX10_tryRows_f39 rc o0 v3) fu (v5, M)) (uX10_tryRows_c39 rc o0 v3)
def uX10_tryRows_o (rc : Nat → Int → Int → Int → Int → Mm → Option (Mm)) (o0 : Nat) (v1 : Int) (v2 : Int) (v3 : Int) (v4 : Int) (M0 : Mm) : Option Mm :=
  if v4 = v3 then
    gK M0 10 o0 (
    bd (uX10_ofCoin o0 v1 0 M0) (fun r34 =>
    if v2 = r34 then
      gK M0 10 o0 (
      bd2 (uX10_isLike o0 v1 v3 M0) (fun r37 M38 =>
      if r37 = 0 then
        some M38
      else
        bd (gI M38 10 o0 39) (fun x40 =>
        bd (pI M38 10 o0 39 (w32 (x40 + 1))) (fun M41 =>
        uX10_tryRows_b39 rc o0 v3 0 M41))))
    else
      some M0))
  else
    bd (gR M0 10 o0 14) (fun on30 =>
    bd (aI 12 M0 on30 6) (fun x31 =>
    if v4 < x31 then
      uX10_tryRows_b106 rc o0 v1 v2 v3 v4 0 M0
    else
      some M0))

def uX10_tryRows : Nat → Nat → Int → Int → Int → Int → Mm → Option (Mm)
  | 0 => fun _ _ _ _ _ _ => none
  | n + 1 => uX10_tryRows_o (uX10_tryRows n)

def uX0_appraiseGiven_b72 (os0 : Nat) (vs1 : Int) (vs2 : Int) (M : Mm) : Option Mm :=
  bd (sI 12 M os0 vs1 vs2) (fun M1 =>
  some M1)
def uX0_appraiseGiven_b42 (o0 : Nat) (o1 : Nat) (v2 : Int) (v3 : Int) (v5 : Int) (v6 : Int) (vs0 : Int) (M : Mm) : Option Mm :=
  bd (gR M 0 o0 3) (fun on2 =>
  if vs0 = 0 then
    uX0_appraiseGiven_b72 on2 (w32 ((w32 (v2 * 6)) + 1)) 0 M
  else
    gK M 8 o1 (
    bd (uX8_worth o1 v3 v6 v5 M) (fun r5 =>
    uX0_appraiseGiven_b72 on2 (w32 ((w32 (v2 * 6)) + 1)) r5 M)))
def uX0_appraiseGiven (o0 : Nat) (o1 : Nat) (v2 : Int) (v3 : Int) (v4 : Int) (v5 : Int) (M0 : Mm) : Option Mm :=
  bd (gR M0 0 o0 1) (fun on6 =>
  bd (aI 12 M0 on6 v2) (fun x7 =>
  bd (gR M0 8 o1 1) (fun on8 =>
  bd (gR M0 1 on8 9) (fun on9 =>
  bd (aI 12 M0 on9 x7) (fun x10 =>
  bd (gR M0 8 o1 1) (fun on11 =>
  bd (gR M0 1 on11 11) (fun on12 =>
  bd (aI 12 M0 on12 x7) (fun x13 =>
  gK M0 8 o1 (
  bd (uX8_obstacle o1 x10 x13 v4 M0) (fun r15 =>
  if r15 = 0 then
    uX0_appraiseGiven_b42 o0 o1 v2 v3 v5 x7 1 M0
  else
    uX0_appraiseGiven_b42 o0 o1 v2 v3 v5 x7 0 M0))))))))))

def uX2_keep_b35 (o0 : Nat) (o1 : Nat) (v2 : Int) (M : Mm) : Option Mm :=
  bd (gR M 2 o0 0) (fun on1 =>
  bd (aR 15 M on1 v2) (fun qn2 =>
  bd qn2 (fun on3 =>
  gK M 1 on3 (
  bd (uX1_copyFrom on3 o1 M) (fun M5 =>
  bd (gI M5 2 o0 2) (fun x6 =>
  if 6 ≤ x6 then
    bd (gI M5 2 o0 1) (fun x8 =>
    bd (rem32 (w32 (x8 + 1)) 6) (fun x9 =>
    bd (pI M5 2 o0 1 x9) (fun M10 =>
    some M10)))
  else
    bd (gI M5 2 o0 2) (fun x11 =>
    bd (pI M5 2 o0 2 (w32 (x11 + 1))) (fun M12 =>
    some M12))))))))
def uX2_keep (o0 : Nat) (o1 : Nat) (M0 : Mm) : Option Mm :=
  bd (gI M0 2 o0 1) (fun x13 =>
  bd (gI M0 2 o0 2) (fun x14 =>
  bd (rem32 (w32 (x13 + x14)) 6) (fun x15 =>
  bd (gR M0 2 o0 0) (fun on16 =>
  bd (aR 15 M0 on16 x15) (fun qn17 =>
  if qn17 = none then
    bd (gR M0 2 o0 0) (fun on19 =>
    bd (uX1_init M0.1.1 (nC M0 1 0)) (fun M20 =>
    bd (sR 15 M20 on19 x15 M0.1.1) (fun M21 =>
    uX2_keep_b35 o0 o1 x15 M21)))
  else
    uX2_keep_b35 o0 o1 x15 M0)))))

def uX3_readWho_b124 (o0 : Nat) (M : Mm) : Option (Int × Mm) :=
  bd (gI M 3 o0 1) (fun x1 =>
  bd (pI M 3 o0 1 (w32 (x1 + 1))) (fun M2 =>
  some (0, M2)))
def uX3_readWho_b106 (o0 : Nat) (o1 : Nat) (os0 : Nat) (vs1 : Int) (vs2 : Int) (M : Mm) : Option (Int × Mm) :=
  bd (sI 12 M os0 vs1 vs2) (fun M3 =>
  bd (gR M3 3 o0 6) (fun on4 =>
  bd (gI M3 3 o0 1) (fun x5 =>
  bd (aI 12 M3 on4 x5) (fun x6 =>
  if x6 = 1 then
    gK M3 7 o1 (
    bd (uX7_advance o1 M3) (fun M9 =>
    uX3_readWho_b124 o0 M9))
  else
    uX3_readWho_b124 o0 M3))))
def uX3_readWho_b84 (o0 : Nat) (o1 : Nat) (M : Mm) : Option (Int × Mm) :=
  bd (gR M 3 o0 6) (fun on10 =>
  bd (gI M 3 o0 1) (fun x11 =>
  bd (gI M 7 o1 4) (fun x12 =>
  if x12 = 12 then
    uX3_readWho_b106 o0 o1 on10 x11 1 M
  else
    uX3_readWho_b106 o0 o1 on10 x11 0 M)))
def uX3_readWho_b66 (o0 : Nat) (o1 : Nat) (os0 : Nat) (vs1 : Int) (vs2 : Int) (M : Mm) : Option (Int × Mm) :=
  bd (sI 12 M os0 vs1 vs2) (fun M14 =>
  bd (gR M14 3 o0 5) (fun on15 =>
  bd (gI M14 3 o0 1) (fun x16 =>
  bd (aI 12 M14 on15 x16) (fun x17 =>
  if x17 = 1 then
    gK M14 7 o1 (
    bd (uX7_advance o1 M14) (fun M20 =>
    uX3_readWho_b84 o0 o1 M20))
  else
    uX3_readWho_b84 o0 o1 M14))))
def uX3_readWho (o0 : Nat) (o1 : Nat) (M0 : Mm) : Option (Int × Mm) :=
  bd (gI M0 3 o0 1) (fun x21 =>
  if x21 < 8 then
    gK M0 7 o1 (
    bd (uX7_advance o1 M0) (fun M24 =>
    gK M24 3 o0 (
    bd (uX3_newNameFault o0 o1 M24) (fun r26 =>
    if r26 = 0 then
      bd (gR M24 3 o0 4) (fun on28 =>
      bd (gI M24 3 o0 1) (fun x29 =>
      bd (gI M24 7 o1 7) (fun x30 =>
      bd (sI 12 M24 on28 x29 x30) (fun M31 =>
      gK M31 7 o1 (
      bd (uX7_advance o1 M31) (fun M33 =>
      bd (gR M33 3 o0 5) (fun on34 =>
      bd (gI M33 3 o0 1) (fun x35 =>
      bd (gI M33 7 o1 4) (fun x36 =>
      if x36 = 11 then
        uX3_readWho_b66 o0 o1 on34 x35 1 M33
      else
        uX3_readWho_b66 o0 o1 on34 x35 0 M33)))))))))
    else
      some (r26, M24)))))
  else
    some (4, M0))

def uX3_readMint (o0 : Nat) (o1 : Nat) (M0 : Mm) : Option (Int × Mm) :=
  bd (gI M0 3 o0 2) (fun x1 =>
  if x1 < 4 then
    gK M0 7 o1 (
    bd (uX7_advance o1 M0) (fun M4 =>
    gK M4 3 o0 (
    bd (uX3_newNameFault o0 o1 M4) (fun r6 =>
    if r6 = 0 then
      bd (gR M4 3 o0 7) (fun on8 =>
      bd (gI M4 3 o0 2) (fun x9 =>
      bd (gI M4 7 o1 7) (fun x10 =>
      bd (sI 12 M4 on8 x9 x10) (fun M11 =>
      gK M11 7 o1 (
      bd (uX7_advance o1 M11) (fun M13 =>
      bd (uX3_numberFault o1 1 50 M13) (fun r14 =>
      if r14 = 0 then
        bd (gR M13 3 o0 8) (fun on16 =>
        bd (gI M13 3 o0 2) (fun x17 =>
        bd (gI M13 7 o1 6) (fun x18 =>
        bd (sI 12 M13 on16 x17 x18) (fun M19 =>
        gK M19 7 o1 (
        bd (uX7_advance o1 M19) (fun M21 =>
        bd (uX3_numberFault o1 1 9 M21) (fun r22 =>
        if r22 = 0 then
          bd (gR M21 3 o0 9) (fun on24 =>
          bd (gI M21 3 o0 2) (fun x25 =>
          bd (gI M21 7 o1 6) (fun x26 =>
          bd (sI 12 M21 on24 x25 x26) (fun M27 =>
          gK M27 7 o1 (
          bd (uX7_advance o1 M27) (fun M29 =>
          bd (gI M29 3 o0 2) (fun x30 =>
          bd (pI M29 3 o0 2 (w32 (x30 + 1))) (fun M31 =>
          some (0, M31)))))))))
        else
          some (r22, M21))))))))
      else
        some (r14, M13))))))))
    else
      some (r6, M4)))))
  else
    some (4, M0))

def uX3_readTakes (o0 : Nat) (o1 : Nat) (M0 : Mm) : Option (Int × Mm) :=
  gK M0 7 o1 (
  bd (uX7_advance o1 M0) (fun M2 =>
  gK M2 3 o0 (
  bd (uX3_toldWhoFault o0 o1 M2) (fun r4 =>
  if r4 = 0 then
    bd (gI M2 7 o1 7) (fun x6 =>
    gK M2 3 o0 (
    bd (uX3_findWho o0 x6 M2) (fun r8 =>
    gK M2 7 o1 (
    bd (uX7_advance o1 M2) (fun M10 =>
    gK M10 3 o0 (
    bd (uX3_toldWhoFault o0 o1 M10) (fun r12 =>
    if r12 = 0 then
      bd (gI M10 7 o1 7) (fun x14 =>
      gK M10 3 o0 (
      bd (uX3_findWho o0 x14 M10) (fun r16 =>
      if (w32 ((w32 (r8 * 8)) + r16)) < 0 then
        some (3, M10)
      else
        bd (gR M10 3 o0 10) (fun on18 =>
        bd (aL M10 on18) (fun x19 =>
        if x19 ≤ (w32 ((w32 (r8 * 8)) + r16)) then
          some (3, M10)
        else
          bd (gR M10 3 o0 10) (fun on21 =>
          bd (aI 12 M10 on21 (w32 ((w32 (r8 * 8)) + r16))) (fun x22 =>
          if x22 = (-1) then
            gK M10 7 o1 (
            bd (uX7_advance o1 M10) (fun M25 =>
            bd (uX3_numberFault o1 0 200 M25) (fun r26 =>
            if r26 = 0 then
              bd (gR M25 3 o0 10) (fun on28 =>
              bd (gI M25 7 o1 6) (fun x29 =>
              bd (sI 12 M25 on28 (w32 ((w32 (r8 * 8)) + r16)) x29) (fun M30 =>
              bd (gI M30 3 o0 3) (fun x31 =>
              bd (pI M30 3 o0 3 (w32 (x31 + 1))) (fun M32 =>
              gK M32 7 o1 (
              bd (uX7_advance o1 M32) (fun M34 =>
              some (0, M34))))))))
            else
              some (r26, M25))))
          else
            some (3, M10))))))))
    else
      some (r12, M10))))))))
  else
    some (r4, M2)))))

def uX3_readSetting (o0 : Nat) (o1 : Nat) (M0 : Mm) : Option (Int × Mm) :=
  bd (gI M0 7 o1 4) (fun x1 =>
  if (w32 (x1 - 15)) < 0 then
    some (1, M0)
  else
    if (w32 (x1 - 15)) < 4 then
      bd (gI M0 3 o0 12) (fun x4 =>
      if (and32 (shr32 x4 (w32 (x1 - 15))) 1) = 0 then
        bd (gI M0 3 o0 12) (fun x6 =>
        bd (pI M0 3 o0 12 (or32 x6 (shl32 1 (w32 (x1 - 15))))) (fun M7 =>
        gK M7 7 o1 (
        bd (uX7_advance o1 M7) (fun M9 =>
        bd (sA 1 (w32 (x1 - 15))) (fun x11 =>
        bd (sA 2 (w32 (x1 - 15))) (fun x13 =>
        bd (uX3_numberFault o1 x11 x13 M9) (fun r14 =>
        if r14 = 0 then
          bd (gR M9 3 o0 11) (fun on16 =>
          bd (gI M9 7 o1 6) (fun x17 =>
          bd (sI 12 M9 on16 (w32 (x1 - 15)) x17) (fun M18 =>
          gK M18 7 o1 (
          bd (uX7_advance o1 M18) (fun M20 =>
          some (0, M20))))))
        else
          some (r14, M9))))))))
      else
        some (3, M0))
    else
      some (1, M0))

def uX4_fits_b73 (o0 : Nat) (o1 : Nat) (v2 : Int) (v4 : Int) (M0 : Mm) : Option Int :=
  bd (gR M0 8 o1 1) (fun on1 =>
  bd (gR M0 1 on1 9) (fun on2 =>
  bd (aI 12 M0 on2 v2) (fun x3 =>
  if v4 = x3 then
    gK M0 4 o0 (
    bd (uX4_depthsFit o0 o1 v2 M0) (fun r6 =>
    if r6 = 0 then
      some 0
    else
      some 1))
  else
    some 0)))
def uX4_fits_s6 (o0 : Nat) (o1 : Nat) (v2 : Int) (M0 : Mm) (v4 : Int) (v5 : Int) : Option ((Int × Int) ⊕ ((Int) ⊕ Int)) :=
  bd (gI M0 4 o0 0) (fun x8 =>
  if x8 ≤ v5 then
    some (.inr (.inl v4))
  else
    bd (gR M0 4 o0 3) (fun on10 =>
    bd (aI 12 M0 on10 v5) (fun x11 =>
    gK M0 8 o1 (
    bd (uX8_isMint o1 x11 M0) (fun r13 =>
    if r13 = 0 then
      some (.inr (.inr 0))
    else
      bd (gR M0 8 o1 0) (fun on15 =>
      bd (gR M0 3 on15 8) (fun on16 =>
      bd (gR M0 4 o0 3) (fun on17 =>
      bd (aI 12 M0 on17 v5) (fun x18 =>
      bd (aI 12 M0 on16 x18) (fun x19 =>
      bd (gR M0 8 o1 0) (fun on20 =>
      bd (gR M0 3 on20 11) (fun on21 =>
      bd (aI 12 M0 on21 2) (fun x22 =>
      if x22 ≤ (w32 (v4 - x19)) then
        some (.inl (w32 (v4 - x19), w32 (v5 + 1)))
      else
        some (.inr (.inr 0)))))))))))))))
def uX4_fits_f6 (o0 : Nat) (o1 : Nat) (v2 : Int) (M0 : Mm) (x : Int × Int) : Option ((Int × Int) ⊕ ((Int) ⊕ Int)) := uX4_fits_s6 o0 o1 v2 M0 x.1 x.2
def uX4_fits_c6 (o0 : Nat) (o1 : Nat) (v2 : Int) (M0 : Mm) (b : (Int) ⊕ Int) : Option Int := Sum.elim (fun b => uX4_fits_b73 o0 o1 v2 b M0) (fun t => some t) b
def uX4_fits_b6 (o0 : Nat) (o1 : Nat) (v2 : Int) (v4 : Int) (v5 : Int) (M0 : Mm) : Option Int :=
  bd (lp (uX4_fits_f6 o0 o1 v2 M0) fu (v4, v5)) (uX4_fits_c6 o0 o1 v2 M0)
def uX4_fits (o0 : Nat) (o1 : Nat) (v2 : Int) (v3 : Int) (M0 : Mm) : Option Int :=
  uX4_fits_b6 o0 o1 v2 v3 0 M0

def uX4_note_b109 (v3 : Int) (M : Mm) : Option (Int × Mm) :=
  some (v3, M)
def uX4_note_s5 (o0 : Nat) (o1 : Nat) (v2 : Int) (v3 : Int) (v4 : Int) (M : Mm) : Option ((Int × Int × Mm) ⊕ (Int × Mm)) :=
  bd (gI M 4 o0 0) (fun x1 =>
  if x1 ≤ v4 then
    some (.inr (v3, M))
  else
    bd (gI M 4 o0 0) (fun x3 =>
    gK M 8 o1 (
    bd (uX8_whoShown o1 v2 (w32 ((w32 (x3 - 1)) - v4)) M) (fun r5 =>
    bd (gR M 4 o0 2) (fun on6 =>
    bd (aI 12 M on6 v4) (fun x7 =>
    bd (gR M 4 o0 3) (fun on8 =>
    bd (aI 12 M on8 v4) (fun x9 =>
    bd (sI 12 M on6 v4 (or32 x7 (shl32 1 x9))) (fun M10 =>
    if r5 = (-1) then
      bd (gR M10 4 o0 1) (fun on15 =>
      bd (aI 12 M10 on15 v4) (fun x16 =>
      bd (gR M10 8 o1 0) (fun on17 =>
      bd (gI M10 3 on17 1) (fun x18 =>
      bd (sI 12 M10 on15 v4 (or32 x16 (w32 ((shl32 1 x18) - 1)))) (fun M19 =>
      bd (gR M19 8 o1 0) (fun on20 =>
      bd (gI M19 3 on20 1) (fun x21 =>
      some (.inl (w32 (v3 * x21), w32 (v4 + 1), M19)))))))))
    else
      bd (gR M10 4 o0 1) (fun on12 =>
      bd (aI 12 M10 on12 v4) (fun x13 =>
      bd (sI 12 M10 on12 v4 (or32 x13 (shl32 1 r5))) (fun M14 =>
      some (.inl (v3, w32 (v4 + 1), M14))))))))))))))
def uX4_note_f5 (o0 : Nat) (o1 : Nat) (v2 : Int) (x : Int × Int × Mm) : Option ((Int × Int × Mm) ⊕ (Int × Mm)) := uX4_note_s5 o0 o1 v2 x.1 x.2.1 x.2.2
def uX4_note_c5 (o0 : Nat) (o1 : Nat) (v2 : Int) (b : Int × Mm) : Option (Int × Mm) := uX4_note_b109 b.1 b.2
def uX4_note_b5 (o0 : Nat) (o1 : Nat) (v2 : Int) (v3 : Int) (v4 : Int) (M : Mm) : Option (Int × Mm) :=
  bd (lp (uX4_note_f5 o0 o1 v2) fu (v3, v4, M)) (uX4_note_c5 o0 o1 v2)
def uX4_note (o0 : Nat) (o1 : Nat) (v2 : Int) (M0 : Mm) : Option (Int × Mm) :=
  uX4_note_b5 o0 o1 v2 1 0 M0

def uX5_readOfWho (o0 : Nat) (o1 : Nat) (o2 : Nat) (v3 : Int) (M0 : Mm) : Option (Int × Mm) :=
  gK M0 3 o2 (
  bd (uX3_toldWhoFault o2 o1 M0) (fun r2 =>
  if r2 = 0 then
    bd (gI M0 7 o1 7) (fun x4 =>
    gK M0 3 o2 (
    bd (uX3_findWho o2 x4 M0) (fun r6 =>
    gK M0 5 o0 (
    bd (uX5_add o0 v3 0 r6 M0) (fun M8 =>
    gK M8 7 o1 (
    bd (uX7_advance o1 M8) (fun M10 =>
    some (0, M10))))))))
  else
    some (r2, M0)))

def uX5_readMeasure_b24 (o0 : Nat) (o1 : Nat) (v2 : Int) (v3 : Int) (M : Mm) : Option (Int × Mm) :=
  gK M 7 o1 (
  bd (uX7_advance o1 M) (fun M2 =>
  bd (gI M2 7 o1 4) (fun x3 =>
  if x3 = 2 then
    bd (gI M2 7 o1 6) (fun x5 =>
    gK M2 5 o0 (
    bd (uX5_add o0 v2 v3 x5 M2) (fun M7 =>
    gK M7 7 o1 (
    bd (uX7_advance o1 M7) (fun M9 =>
    some (0, M9))))))
  else
    some (1, M2))))
def uX5_readMeasure (o0 : Nat) (o1 : Nat) (v2 : Int) (M0 : Mm) : Option (Int × Mm) :=
  bd (gI M0 7 o1 4) (fun x10 =>
  if x10 = 5 then
    uX5_readMeasure_b24 o0 o1 v2 x10 M0
  else
    if x10 = 6 then
      uX5_readMeasure_b24 o0 o1 v2 x10 M0
    else
      if x10 = 7 then
        uX5_readMeasure_b24 o0 o1 v2 x10 M0
      else
        some (1, M0))

def uX8_init (o0 : Nat) (M0 : Mm) : Option Mm :=
  bd (uX3_init M0.1.1 (nC M0 3 0)) (fun M1 =>
  bd (pR M1 8 o0 0 M0.1.1) (fun M2 =>
  bd (uX1_init M2.1.1 (nC M2 1 0)) (fun M3 =>
  bd (pR M3 8 o0 1 M2.1.1) (fun M4 =>
  bd (uX6_init M4.1.1 500 6 (nC M4 6 0)) (fun M5 =>
  bd (pR M5 8 o0 2 M4.1.1) (fun M6 =>
  bd (uX6_init M6.1.1 500 7 (nC M6 6 0)) (fun M7 =>
  bd (pR M7 8 o0 3 M6.1.1) (fun M8 =>
  bd (uX5_init M8.1.1 (nC M8 5 0)) (fun M9 =>
  bd (pR M9 8 o0 4 M8.1.1) (fun M10 =>
  some M10))))))))))

def uX8_showsWho_b39  (M0 : Mm) : Option Int :=
  some 0
def uX8_showsWho_s2 (o0 : Nat) (v1 : Int) (v2 : Int) (M0 : Mm) (v3 : Int) : Option ((Int) ⊕ ((Unit) ⊕ Int)) :=
  if 9 ≤ v3 then
    some (.inr (.inl ()))
  else
    bd (gR M0 8 o0 1) (fun on2 =>
    gK M0 1 on2 (
    bd (uX1_strokeAt on2 v1 v3 M0) (fun r4 =>
    if r4 = (-1) then
      some (.inr (.inl ()))
    else
      gK M0 8 o0 (
      bd (uX8_whoShown o0 v1 v3 M0) (fun r7 =>
      if r7 = v2 then
        some (.inr (.inr 1))
      else
        some (.inl (w32 (v3 + 1))))))))
def uX8_showsWho_f2 (o0 : Nat) (v1 : Int) (v2 : Int) (M0 : Mm) (x : Int) : Option ((Int) ⊕ ((Unit) ⊕ Int)) := uX8_showsWho_s2 o0 v1 v2 M0 x
def uX8_showsWho_c2 (o0 : Nat) (v1 : Int) (v2 : Int) (M0 : Mm) (b : (Unit) ⊕ Int) : Option Int := Sum.elim (fun b => uX8_showsWho_b39 M0) (fun t => some t) b
def uX8_showsWho_b2 (o0 : Nat) (v1 : Int) (v2 : Int) (v3 : Int) (M0 : Mm) : Option Int :=
  bd (lp (uX8_showsWho_f2 o0 v1 v2 M0) fu v3) (uX8_showsWho_c2 o0 v1 v2 M0)
def uX8_showsWho (o0 : Nat) (v1 : Int) (v2 : Int) (M0 : Mm) : Option Int :=
  uX8_showsWho_b2 o0 v1 v2 0 M0

def uX8_handOver (o0 : Nat) (v1 : Int) (v2 : Int) (v3 : Int) (v4 : Int) (M0 : Mm) : Option Mm :=
  gK M0 8 o0 (
  bd (uX8_isCoin o0 v1 M0) (fun r2 =>
  if r2 = 0 then
    some M0
  else
    gK M0 8 o0 (
    bd (uX8_strike o0 v1 v2 v3 v4 0 M0) (fun M5 =>
    bd (gR M5 8 o0 1) (fun on6 =>
    bd (gR M5 1 on6 10) (fun on7 =>
    bd (sI 12 M5 on7 v1 v2) (fun M8 =>
    some M8)))))))

def uX9_face (o0 : Nat) (v1 : Int) (v2 : Int) (v3 : Int) (M0 : Mm) : Option Int :=
  bd (gR M0 9 o0 4) (fun on1 =>
  gK M0 8 on1 (
  bd (uX8_isCoin on1 v1 M0) (fun r3 =>
  if r3 = 0 then
    some (-1)
  else
    if v2 < 0 then
      some (-1)
    else
      bd (gR M0 9 o0 4) (fun on6 =>
      bd (gR M0 8 on6 1) (fun on7 =>
      bd (gR M0 1 on7 12) (fun on8 =>
      bd (aI 12 M0 on8 v1) (fun x9 =>
      if v2 < x9 then
        if v3 = 0 then
          bd (gR M0 9 o0 4) (fun on12 =>
          gK M0 8 on12 (
          bd (uX8_whoShown on12 v1 v2 M0) (fun r14 =>
          some r14)))
        else
          if v3 = 1 then
            bd (gR M0 9 o0 4) (fun on16 =>
            bd (gR M0 8 on16 1) (fun on17 =>
            gK M0 1 on17 (
            bd (uX1_depthAt on17 v1 v2 M0) (fun r19 =>
            some r19))))
          else
            if v3 = 2 then
              bd (gR M0 9 o0 4) (fun on21 =>
              bd (gR M0 8 on21 1) (fun on22 =>
              gK M0 1 on22 (
              bd (uX1_strokeAt on22 v1 v2 M0) (fun r24 =>
              some r24))))
            else
              some (-1)
      else
        some (-1))))))))

def uX9_value (o0 : Nat) (v1 : Int) (v2 : Int) (v3 : Int) (M0 : Mm) : Option Int :=
  bd (gR M0 9 o0 4) (fun on1 =>
  gK M0 8 on1 (
  bd (uX8_isWho on1 v1 M0) (fun r3 =>
  if r3 = 0 then
    some (-1)
  else
    bd (gR M0 9 o0 4) (fun on5 =>
    gK M0 8 on5 (
    bd (uX8_isCoin on5 v2 M0) (fun r7 =>
    if r7 = 0 then
      some (-1)
    else
      if v3 = 0 then
        bd (gR M0 9 o0 4) (fun on10 =>
        bd (gR M0 9 o0 4) (fun on11 =>
        gK M0 8 on11 (
        bd (uX8_whoOnTop on11 v2 M0) (fun r13 =>
        bd (gR M0 9 o0 4) (fun on14 =>
        gK M0 8 on14 (
        bd (uX8_luckNow on14 M0) (fun r16 =>
        gK M0 8 on10 (
        bd (uX8_hundredths on10 v1 r13 r16 M0) (fun r18 =>
        some r18)))))))))
      else
        if v3 = 1 then
          bd (gR M0 9 o0 4) (fun on20 =>
          bd (gR M0 9 o0 4) (fun on21 =>
          gK M0 8 on21 (
          bd (uX8_luckNow on21 M0) (fun r23 =>
          gK M0 8 on20 (
          bd (uX8_worth on20 v1 v2 r23 M0) (fun r25 =>
          some r25))))))
        else
          some (-1)))))))

def uX9_luck (o0 : Nat) (M0 : Mm) : Option Int :=
  bd (gR M0 9 o0 4) (fun on1 =>
  gK M0 8 on1 (
  bd (uX8_luckNow on1 M0) (fun r3 =>
  some r3)))

def uX9_coinWrong (o0 : Nat) (v1 : Int) (v2 : Int) (v3 : Int) (v4 : Int) (v5 : Int) (M0 : Mm) : Option Int :=
  bd (gR M0 9 o0 4) (fun on1 =>
  gK M0 8 on1 (
  bd (uX8_isCoin on1 v4 M0) (fun r3 =>
  if r3 = 0 then
    some 2
  else
    bd (gR M0 9 o0 4) (fun on5 =>
    bd (gR M0 8 on5 1) (fun on6 =>
    bd (gR M0 1 on6 10) (fun on7 =>
    bd (aI 12 M0 on7 v4) (fun x8 =>
    if x8 = v1 then
      bd (gR M0 9 o0 4) (fun on10 =>
      gK M0 8 on10 (
      bd (uX8_worth on10 v2 v4 v5 M0) (fun r12 =>
      if r12 = 0 then
        some 3
      else
        bd (gR M0 9 o0 4) (fun on14 =>
        bd (gR M0 9 o0 4) (fun on15 =>
        bd (gR M0 8 on15 1) (fun on16 =>
        bd (gR M0 1 on16 9) (fun on17 =>
        bd (aI 12 M0 on17 v4) (fun x18 =>
        bd (gR M0 9 o0 4) (fun on19 =>
        bd (gR M0 8 on19 1) (fun on20 =>
        bd (gR M0 1 on20 11) (fun on21 =>
        bd (aI 12 M0 on21 v4) (fun x22 =>
        gK M0 8 on14 (
        bd (uX8_obstacle on14 x18 x22 v3 M0) (fun r24 =>
        some r24))))))))))))))
    else
      some 2)))))))

def uX9_payable (o0 : Nat) (v1 : Int) (v2 : Int) (v3 : Int) (v4 : Int) (M0 : Mm) : Option Int :=
  bd (gR M0 9 o0 4) (fun on1 =>
  gK M0 8 on1 (
  bd (uX8_canTrade on1 v1 v2 M0) (fun r3 =>
  if r3 = 0 then
    some 0
  else
    bd (gR M0 9 o0 4) (fun on5 =>
    gK M0 8 on5 (
    bd (uX8_isMint on5 v3 M0) (fun r7 =>
    if r7 = 0 then
      some 0
    else
      if v4 < 1 then
        some 0
      else
        if 2000 < v4 then
          some 0
        else
          some 1))))))

def uX10_readNew_b52 (o0 : Nat) (M : Mm) : Option (Int × Mm) :=
  gK M 10 o0 (
  bd2 (uX10_bad o0 3 M) (fun r2 M3 =>
  some (r2, M3)))
def uX10_readNew (o0 : Nat) (v1 : Int) (M0 : Mm) : Option (Int × Mm) :=
  gK M0 10 o0 (
  bd (uX10_isName o0 M0) (fun r5 =>
  if r5 = 0 then
    gK M0 10 o0 (
    bd2 (uX10_bad o0 1 M0) (fun r25 M26 =>
    some (r25, M26)))
  else
    bd (gR M0 10 o0 19) (fun on7 =>
    bd (gR M0 10 o0 15) (fun on8 =>
    bd (aI 12 M0 on8 0) (fun x9 =>
    gK M0 10 o0 (
    bd (uX10_findIn o0 on7 0 x9 M0) (fun r11 =>
    if r11 = (-1) then
      bd (gR M0 10 o0 19) (fun on13 =>
      bd (gR M0 10 o0 15) (fun on14 =>
      bd (aI 12 M0 on14 1) (fun x15 =>
      gK M0 10 o0 (
      bd (uX10_findIn o0 on13 8 x15 M0) (fun r17 =>
      if r17 = (-1) then
        bd (gR M0 10 o0 19) (fun on19 =>
        bd (gJ M0 10 o0 12) (fun x20 =>
        bd (sJ M0 on19 v1 x20) (fun M21 =>
        gK M21 10 o0 (
        bd (uX10_go o0 M21) (fun M23 =>
        some (1, M23))))))
      else
        uX10_readNew_b52 o0 M0)))))
    else
      uX10_readNew_b52 o0 M0)))))))

def uX10_readWhoTold (o0 : Nat) (M0 : Mm) : Option (Int × Mm) :=
  gK M0 10 o0 (
  bd (uX10_isName o0 M0) (fun r2 =>
  if r2 = 0 then
    gK M0 10 o0 (
    bd2 (uX10_bad o0 1 M0) (fun r17 M18 =>
    some (r17, M18)))
  else
    bd (gR M0 10 o0 19) (fun on4 =>
    bd (gR M0 10 o0 15) (fun on5 =>
    bd (aI 12 M0 on5 0) (fun x6 =>
    gK M0 10 o0 (
    bd (uX10_findIn o0 on4 0 x6 M0) (fun r8 =>
    bd (pI M0 10 o0 13 r8) (fun M9 =>
    bd (gI M9 10 o0 13) (fun x10 =>
    if x10 = (-1) then
      gK M9 10 o0 (
      bd2 (uX10_bad o0 3 M9) (fun r13 M14 =>
      if r13 = 0 then
        some (0, M14)
      else
        some (1, M14)))
    else
      some (1, M9))))))))))

def uX10_readOnce (o0 : Nat) (v1 : Int) (v2 : Int) (v3 : Int) (v4 : Int) (M0 : Mm) : Option (Int × Mm) :=
  bd (gI M0 10 o0 24) (fun x1 =>
  bd (uX10_has x1 v1 M0) (fun r2 =>
  if r2 = 0 then
    bd (gI M0 10 o0 24) (fun x4 =>
    bd (pI M0 10 o0 24 (or32 x4 (shl32 1 v1))) (fun M5 =>
    gK M5 10 o0 (
    bd (uX10_go o0 M5) (fun M7 =>
    gK M7 10 o0 (
    bd2 (uX10_readNumber o0 v3 v4 M7) (fun r9 M10 =>
    if r9 = 0 then
      some (0, M10)
    else
      bd (gR M10 10 o0 15) (fun on12 =>
      bd (gI M10 10 o0 13) (fun x13 =>
      bd (sI 12 M10 on12 v2 x13) (fun M14 =>
      some (1, M14))))))))))
  else
    gK M0 10 o0 (
    bd2 (uX10_bad o0 3 M0) (fun r16 M17 =>
    some (r16, M17)))))

def uX10_of_b21 (o0 : Nat) (M : Mm) : Option (Int × Mm) :=
  gK M 10 o0 (
  bd2 (uX10_refuse o0 M) (fun r2 M3 =>
  some (r2, M3)))
def uX10_of (o0 : Nat) (v1 : Int) (v2 : Int) (M0 : Mm) : Option (Int × Mm) :=
  gK M0 10 o0 (
  bd (uX10_lay o0 M0) (fun M5 =>
  gK M5 10 o0 (
  bd (uX10_isCoin o0 v1 M5) (fun r7 =>
  if r7 = 0 then
    uX10_of_b21 o0 M5
  else
    bd (uX10_isIn v2 0 4 M5) (fun r9 =>
    if r9 = 0 then
      uX10_of_b21 o0 M5
    else
      bd (pI M5 10 o0 0 0) (fun M11 =>
      if v2 = 0 then
        gK M11 10 o0 (
        bd (uX10_ofCoin o0 v1 0 M11) (fun r25 =>
        some (r25, M11)))
      else
        if v2 = 1 then
          gK M11 10 o0 (
          bd (uX10_ofCoin o0 v1 1 M11) (fun r23 =>
          some (r23, M11)))
        else
          if v2 = 2 then
            gK M11 10 o0 (
            bd (uX10_ofCoin o0 v1 3 M11) (fun r21 =>
            some (r21, M11)))
          else
            if v2 = 3 then
              gK M11 10 o0 (
              bd (uX10_ofCoin o0 v1 2 M11) (fun r19 =>
              some (r19, M11)))
            else
              gK M11 10 o0 (
              bd (uX10_showsFalse o0 v1 M11) (fun r17 =>
              some (r17, M11)))))))))

def uX10_luck (o0 : Nat) (M0 : Mm) : Option (Int × Mm) :=
  bd (pI M0 10 o0 0 0) (fun M1 =>
  gK M1 10 o0 (
  bd (uX10_lay o0 M1) (fun M3 =>
  gK M3 10 o0 (
  bd (uX10_luckOf o0 M3) (fun r5 =>
  some (r5, M3))))))

def uX10_valueOf (o0 : Nat) (v1 : Int) (v2 : Int) (M0 : Mm) : Option Int :=
  gK M0 10 o0 (
  bd (uX10_ofCoin o0 v2 0 M0) (fun r2 =>
  gK M0 10 o0 (
  bd (uX10_topOf o0 v2 M0) (fun r4 =>
  gK M0 10 o0 (
  bd (uX10_luckOf o0 M0) (fun r6 =>
  gK M0 10 o0 (
  bd (uX10_hundredths o0 v1 r4 r6 M0) (fun r8 =>
  bd (div32 (w32 (r2 * r8)) 100) (fun x9 =>
  some x9)))))))))

def uX10_layPayment_b399 (o0 : Nat) (v4 : Int) (M : Mm) : Option (Int × Mm) :=
  bd (gR M 10 o0 28) (fun on1 =>
  bd (aI 12 M on1 v4) (fun x2 =>
  bd (div32 x2 16) (fun x3 =>
  some (x3, M))))
def uX10_layPayment_b391 (o0 : Nat) (v4 : Int) (v6 : Int) (v8 : Int) (vs0 : Int) (M : Mm) : Option ((Int × Int × Mm) ⊕ (Mm)) :=
  some (.inl (vs0, w32 (v8 + 1), M))
def uX10_layPayment_b339 (o0 : Nat) (v4 : Int) (v6 : Int) (v7 : Int) (v8 : Int) (v9 : Int) (M : Mm) : Option ((Int × Int × Mm) ⊕ (Mm)) :=
  bd (gR M 10 o0 30) (fun on4 =>
  bd (sI 12 M on4 v8 v9) (fun M5 =>
  if v9 ≤ 0 then
    some (.inl (v7, w32 (v8 + 1), M5))
  else
    bd (gR M5 10 o0 27) (fun on7 =>
    bd (aI 12 M5 on7 (w32 ((w32 (6 * v8)) + v9))) (fun x8 =>
    if v7 ≤ x8 then
      uX10_layPayment_b391 o0 v4 v6 v8 0 M5
    else
      bd (gR M5 10 o0 27) (fun on10 =>
      bd (aI 12 M5 on10 (w32 ((w32 (6 * v8)) + v9))) (fun x11 =>
      uX10_layPayment_b391 o0 v4 v6 v8 (w32 (v7 - x11)) M5))))))
def uX10_layPayment_s307 (o0 : Nat) (v4 : Int) (v6 : Int) (v7 : Int) (v8 : Int) (M : Mm) (v9 : Int) : Option ((Int) ⊕ (Int)) :=
  gK M 10 o0 (
  bd (uX10_costOf o0 v8 v7 v9 M) (fun r13 =>
  bd (gR M 10 o0 28) (fun on14 =>
  bd (aI 12 M on14 (w32 ((w32 (v6 * v8)) + v7))) (fun x15 =>
  if r13 = x15 then
    some (.inr v9)
  else
    some (.inl (w32 (v9 + 1)))))))
def uX10_layPayment_f307 (o0 : Nat) (v4 : Int) (v6 : Int) (v7 : Int) (v8 : Int) (M : Mm) (x : Int) : Option ((Int) ⊕ (Int)) := uX10_layPayment_s307 o0 v4 v6 v7 v8 M x
def uX10_layPayment_c307 (o0 : Nat) (v4 : Int) (v6 : Int) (v7 : Int) (v8 : Int) (M : Mm) (b : Int) : Option ((Int × Int × Mm) ⊕ (Mm)) := uX10_layPayment_b339 o0 v4 v6 v7 v8 b M
def uX10_layPayment_b307 (o0 : Nat) (v4 : Int) (v6 : Int) (v7 : Int) (v8 : Int) (v9 : Int) (M : Mm) : Option ((Int × Int × Mm) ⊕ (Mm)) :=
  bd (lp (uX10_layPayment_f307 o0 v4 v6 v7 v8 M) fu v9) (uX10_layPayment_c307 o0 v4 v6 v7 v8 M)
def uX10_layPayment_s295 (o0 : Nat) (v4 : Int) (v6 : Int) (v7 : Int) (v8 : Int) (M : Mm) : Option ((Int × Int × Mm) ⊕ (Mm)) :=
  bd (gI M 10 o0 31) (fun x17 =>
  if x17 ≤ v8 then
    some (.inr M)
  else
    uX10_layPayment_b307 o0 v4 v6 v7 v8 0 M)
def uX10_layPayment_f295 (o0 : Nat) (v4 : Int) (v6 : Int) (x : Int × Int × Mm) : Option ((Int × Int × Mm) ⊕ (Mm)) := uX10_layPayment_s295 o0 v4 v6 x.1 x.2.1 x.2.2
def uX10_layPayment_c295 (o0 : Nat) (v4 : Int) (v6 : Int) (b : Mm) : Option (Int × Mm) := uX10_layPayment_b399 o0 v4 b
def uX10_layPayment_b295 (o0 : Nat) (v4 : Int) (v6 : Int) (v7 : Int) (v8 : Int) (M : Mm) : Option (Int × Mm) :=
  bd (lp (uX10_layPayment_f295 o0 v4 v6) fu (v7, v8, M)) (uX10_layPayment_c295 o0 v4 v6)
def uX10_layPayment_b273 (o0 : Nat) (v4 : Int) (v6 : Int) (M : Mm) : Option (Int × Mm) :=
  bd (gR M 10 o0 28) (fun on19 =>
  bd (aI 12 M on19 v4) (fun x20 =>
  if x20 < 100000000 then
    uX10_layPayment_b295 o0 v4 v6 v4 0 M
  else
    some ((-1), M)))
def uX10_layPayment_b267 (o0 : Nat) (v4 : Int) (v6 : Int) (v7 : Int) (M : Mm) : Option ((Int × Mm) ⊕ (Mm)) :=
  some (.inl (w32 (v7 + (-1)), M))
def uX10_layPayment_s233 (o0 : Nat) (v4 : Int) (v6 : Int) (v7 : Int) (v8 : Int) (M : Mm) : Option ((Int × Mm) ⊕ (Mm)) :=
  if v4 < v8 then
    some (.inr M)
  else
    bd (gR M 10 o0 28) (fun on23 =>
    gK M 10 o0 (
    bd (uX10_bestOf o0 v7 v8 M) (fun r25 =>
    bd (sI 12 M on23 (w32 ((w32 (v6 * v7)) + v8)) r25) (fun M26 =>
    some (.inl (w32 (v8 + 1), M26))))))
def uX10_layPayment_f233 (o0 : Nat) (v4 : Int) (v6 : Int) (v7 : Int) (x : Int × Mm) : Option ((Int × Mm) ⊕ (Mm)) := uX10_layPayment_s233 o0 v4 v6 v7 x.1 x.2
def uX10_layPayment_c233 (o0 : Nat) (v4 : Int) (v6 : Int) (v7 : Int) (b : Mm) : Option ((Int × Mm) ⊕ (Mm)) := uX10_layPayment_b267 o0 v4 v6 v7 b
def uX10_layPayment_b233 (o0 : Nat) (v4 : Int) (v6 : Int) (v7 : Int) (v8 : Int) (M : Mm) : Option ((Int × Mm) ⊕ (Mm)) :=
  bd (lp (uX10_layPayment_f233 o0 v4 v6 v7) fu (v8, M)) (uX10_layPayment_c233 o0 v4 v6 v7)
def uX10_layPayment_s225 (o0 : Nat) (v4 : Int) (v6 : Int) (v7 : Int) (M : Mm) : Option ((Int × Mm) ⊕ (Mm)) :=
  if v7 < 0 then
    some (.inr M)
  else
    uX10_layPayment_b233 o0 v4 v6 v7 0 M
def uX10_layPayment_f225 (o0 : Nat) (v4 : Int) (v6 : Int) (x : Int × Mm) : Option ((Int × Mm) ⊕ (Mm)) := uX10_layPayment_s225 o0 v4 v6 x.1 x.2
def uX10_layPayment_c225 (o0 : Nat) (v4 : Int) (v6 : Int) (b : Mm) : Option (Int × Mm) := uX10_layPayment_b273 o0 v4 v6 b
def uX10_layPayment_b225 (o0 : Nat) (v4 : Int) (v6 : Int) (v7 : Int) (M : Mm) : Option (Int × Mm) :=
  bd (lp (uX10_layPayment_f225 o0 v4 v6) fu (v7, M)) (uX10_layPayment_c225 o0 v4 v6)
def uX10_layPayment_b217 (o0 : Nat) (v4 : Int) (v6 : Int) (M : Mm) : Option (Int × Mm) :=
  bd (gI M 10 o0 31) (fun x28 =>
  uX10_layPayment_b225 o0 v4 v6 (w32 (x28 - 1)) M)
def uX10_layPayment_b210 (o0 : Nat) (v4 : Int) (v6 : Int) (v7 : Int) (os0 : Nat) (vs1 : Int) (vs2 : Int) (M : Mm) : Option ((Int × Mm) ⊕ (Mm)) :=
  bd (sI 12 M os0 vs1 vs2) (fun M29 =>
  some (.inl (w32 (v7 + 1), M29)))
def uX10_layPayment_s177 (o0 : Nat) (v4 : Int) (v6 : Int) (v7 : Int) (M : Mm) : Option ((Int × Mm) ⊕ (Mm)) :=
  if v4 < v7 then
    some (.inr M)
  else
    bd (gR M 10 o0 28) (fun on31 =>
    bd (gI M 10 o0 31) (fun x32 =>
    if v7 = 0 then
      uX10_layPayment_b210 o0 v4 v6 v7 on31 (w32 ((w32 (v6 * x32)) + v7)) 0 M
    else
      uX10_layPayment_b210 o0 v4 v6 v7 on31 (w32 ((w32 (v6 * x32)) + v7)) 100000000 M))
def uX10_layPayment_f177 (o0 : Nat) (v4 : Int) (v6 : Int) (x : Int × Mm) : Option ((Int × Mm) ⊕ (Mm)) := uX10_layPayment_s177 o0 v4 v6 x.1 x.2
def uX10_layPayment_c177 (o0 : Nat) (v4 : Int) (v6 : Int) (b : Mm) : Option (Int × Mm) := uX10_layPayment_b217 o0 v4 v6 b
def uX10_layPayment_b177 (o0 : Nat) (v4 : Int) (v6 : Int) (v7 : Int) (M : Mm) : Option (Int × Mm) :=
  bd (lp (uX10_layPayment_f177 o0 v4 v6) fu (v7, M)) (uX10_layPayment_c177 o0 v4 v6)
def uX10_layPayment_b169 (o0 : Nat) (v4 : Int) (M : Mm) : Option (Int × Mm) :=
  uX10_layPayment_b177 o0 v4 2001 0 M
def uX10_layPayment_b153 (o0 : Nat) (v1 : Int) (v2 : Int) (v3 : Int) (v4 : Int) (v5 : Int) (v6 : Int) (M : Mm) : Option ((Int × Mm) ⊕ (Mm)) :=
  bd (gI M 10 o0 31) (fun x34 =>
  bd (pI M 10 o0 31 (w32 (x34 + 1))) (fun M35 =>
  some (.inl (w32 (v6 + 1), M35))))
def uX10_layPayment_s108 (o0 : Nat) (v1 : Int) (v2 : Int) (v3 : Int) (v4 : Int) (v5 : Int) (v6 : Int) (v7 : Int) (M : Mm) : Option ((Int × Mm) ⊕ (Mm)) :=
  gK M 10 o0 (
  bd (uX10_mints o0 M) (fun r37 =>
  if (w32 (2 + r37)) ≤ v7 then
    some (.inr M)
  else
    bd (gR M 10 o0 27) (fun on39 =>
    bd (gI M 10 o0 31) (fun x40 =>
    gK M 10 o0 (
    bd (uX10_worthOf o0 v6 v7 v1 v2 v3 v5 M) (fun r42 =>
    bd (sI 12 M on39 (w32 ((w32 (6 * x40)) + v7)) r42) (fun M43 =>
    some (.inl (w32 (v7 + 1), M43)))))))))
def uX10_layPayment_f108 (o0 : Nat) (v1 : Int) (v2 : Int) (v3 : Int) (v4 : Int) (v5 : Int) (v6 : Int) (x : Int × Mm) : Option ((Int × Mm) ⊕ (Mm)) := uX10_layPayment_s108 o0 v1 v2 v3 v4 v5 v6 x.1 x.2
def uX10_layPayment_c108 (o0 : Nat) (v1 : Int) (v2 : Int) (v3 : Int) (v4 : Int) (v5 : Int) (v6 : Int) (b : Mm) : Option ((Int × Mm) ⊕ (Mm)) := uX10_layPayment_b153 o0 v1 v2 v3 v4 v5 v6 b
def uX10_layPayment_b108 (o0 : Nat) (v1 : Int) (v2 : Int) (v3 : Int) (v4 : Int) (v5 : Int) (v6 : Int) (v7 : Int) (M : Mm) : Option ((Int × Mm) ⊕ (Mm)) :=
  bd (lp (uX10_layPayment_f108 o0 v1 v2 v3 v4 v5 v6) fu (v7, M)) (uX10_layPayment_c108 o0 v1 v2 v3 v4 v5 v6)
def uX10_layPayment_s62 (o0 : Nat) (v1 : Int) (v2 : Int) (v3 : Int) (v4 : Int) (v5 : Int) (v6 : Int) (M : Mm) : Option ((Int × Mm) ⊕ (Mm)) :=
  gK M 10 o0 (
  bd (uX10_coins o0 M) (fun r45 =>
  if r45 ≤ v6 then
    some (.inr M)
  else
    bd (gI M 10 o0 31) (fun x47 =>
    if 12 ≤ x47 then
      some (.inr M)
    else
      gK M 10 o0 (
      bd (uX10_ofCoin o0 v6 1 M) (fun r50 =>
      if r50 = v1 then
        bd (gR M 10 o0 26) (fun on52 =>
        bd (gI M 10 o0 31) (fun x53 =>
        bd (sI 12 M on52 x53 v6) (fun M54 =>
        uX10_layPayment_b108 o0 v1 v2 v3 v4 v5 v6 1 M54)))
      else
        some (.inl (w32 (v6 + 1), M)))))))
def uX10_layPayment_f62 (o0 : Nat) (v1 : Int) (v2 : Int) (v3 : Int) (v4 : Int) (v5 : Int) (x : Int × Mm) : Option ((Int × Mm) ⊕ (Mm)) := uX10_layPayment_s62 o0 v1 v2 v3 v4 v5 x.1 x.2
def uX10_layPayment_c62 (o0 : Nat) (v1 : Int) (v2 : Int) (v3 : Int) (v4 : Int) (v5 : Int) (b : Mm) : Option (Int × Mm) := uX10_layPayment_b169 o0 v4 b
def uX10_layPayment_b62 (o0 : Nat) (v1 : Int) (v2 : Int) (v3 : Int) (v4 : Int) (v5 : Int) (v6 : Int) (M : Mm) : Option (Int × Mm) :=
  bd (lp (uX10_layPayment_f62 o0 v1 v2 v3 v4 v5) fu (v6, M)) (uX10_layPayment_c62 o0 v1 v2 v3 v4 v5)
def uX10_layPayment (o0 : Nat) (v1 : Int) (v2 : Int) (v3 : Int) (v4 : Int) (M0 : Mm) : Option (Int × Mm) :=
  gK M0 10 o0 (
  bd (uX10_isWho o0 v1 M0) (fun r56 =>
  if r56 = 0 then
    some ((-2), M0)
  else
    gK M0 10 o0 (
    bd (uX10_isWho o0 v2 M0) (fun r59 =>
    if r59 = 0 then
      some ((-2), M0)
    else
      gK M0 10 o0 (
      bd (uX10_isMint o0 v3 M0) (fun r62 =>
      if r62 = 0 then
        some ((-2), M0)
      else
        bd (uX10_isIn v4 1 2000 M0) (fun r64 =>
        if r64 = 0 then
          some ((-2), M0)
        else
          gK M0 10 o0 (
          bd (uX10_areUnfit o0 v1 v2 M0) (fun r67 =>
          if r67 = 0 then
            gK M0 10 o0 (
            bd (uX10_luckOf o0 M0) (fun r70 =>
            bd (pI M0 10 o0 31 0) (fun M71 =>
            uX10_layPayment_b62 o0 v1 v2 v3 v4 r70 0 M71)))
          else
            some ((-2), M0))))))))))

def uX10_forge (o0 : Nat) (v1 : Int) (v2 : Int) (M0 : Mm) : Option (Int × Mm) :=
  bd (pI M0 10 o0 0 0) (fun M1 =>
  gK M1 10 o0 (
  bd (uX10_lay o0 M1) (fun M3 =>
  gK M3 10 o0 (
  bd (uX10_isCoin o0 v1 M3) (fun r5 =>
  if r5 = 0 then
    some ((-1), M3)
  else
    gK M3 10 o0 (
    bd (uX10_isMint o0 v2 M3) (fun r8 =>
    if r8 = 0 then
      some ((-1), M3)
    else
      gK M3 10 o0 (
      bd (uX10_isFull o0 1 M3) (fun r11 =>
      if r11 = 0 then
        bd (gR M3 10 o0 14) (fun on13 =>
        bd (aI 12 M3 on13 110) (fun x14 =>
        if x14 = (-1) then
          some (1, M3)
        else
          gK M3 10 o0 (
          bd (uX10_ofCoin o0 v1 1 M3) (fun r17 =>
          bd (gR M3 10 o0 14) (fun on18 =>
          bd (aI 12 M3 on18 111) (fun x19 =>
          if r17 = x19 then
            gK M3 10 o0 (
            bd (uX10_wrongAt o0 v1 v2 M3) (fun r22 =>
            if r22 = 0 then
              gK M3 10 o0 (
              bd (uX10_snap o0 M3) (fun M25 =>
              bd (gR M25 10 o0 14) (fun on26 =>
              bd (aI 12 M25 on26 110) (fun x27 =>
              gK M25 10 o0 (
              bd (uX10_strike o0 v1 x27 v2 (-1) 1 M25) (fun M29 =>
              some (0, M29)))))))
            else
              some (r22, M3)))
          else
            some (2, M3)))))))
      else
        some ((-1), M3))))))))))

def uX10_rows_b128 (o0 : Nat) (v1 : Int) (v2 : Int) (v3 : Int) (M : Mm) : Option (Int × Mm) :=
  gK M 10 o0 (
  bd (uX10_tryRows 12 o0 v1 v2 v3 0 M) (fun M2 =>
  bd (gI M2 10 o0 39) (fun x3 =>
  some (x3, M2))))
def uX10_rows_s99 (o0 : Nat) (v1 : Int) (v2 : Int) (v3 : Int) (v6 : Int) (M : Mm) : Option ((Int × Mm) ⊕ (Mm)) :=
  if 9 ≤ v6 then
    some (.inr M)
  else
    bd (gR M 10 o0 35) (fun on5 =>
    bd (sI 12 M on5 v6 0) (fun M6 =>
    bd (gR M6 10 o0 36) (fun on7 =>
    bd (sI 12 M6 on7 v6 0) (fun M8 =>
    some (.inl (w32 (v6 + 1), M8))))))
def uX10_rows_f99 (o0 : Nat) (v1 : Int) (v2 : Int) (v3 : Int) (x : Int × Mm) : Option ((Int × Mm) ⊕ (Mm)) := uX10_rows_s99 o0 v1 v2 v3 x.1 x.2
def uX10_rows_c99 (o0 : Nat) (v1 : Int) (v2 : Int) (v3 : Int) (b : Mm) : Option (Int × Mm) := uX10_rows_b128 o0 v1 v2 v3 b
def uX10_rows_b99 (o0 : Nat) (v1 : Int) (v2 : Int) (v3 : Int) (v6 : Int) (M : Mm) : Option (Int × Mm) :=
  bd (lp (uX10_rows_f99 o0 v1 v2 v3) fu (v6, M)) (uX10_rows_c99 o0 v1 v2 v3)
def uX10_rows_b86 (o0 : Nat) (v1 : Int) (v2 : Int) (v3 : Int) (M : Mm) : Option (Int × Mm) :=
  bd (pI M 10 o0 39 0) (fun M9 =>
  bd (pI M9 10 o0 40 v3) (fun M10 =>
  uX10_rows_b99 o0 v1 v2 v3 0 M10))
def uX10_rows_s46 (o0 : Nat) (v1 : Int) (v2 : Int) (v3 : Int) (M : Mm) (v4 : Int) (v6 : Int) : Option ((Int × Int) ⊕ ((Unit) ⊕ (Int × Mm))) :=
  if v3 ≤ v6 then
    some (.inr (.inl ()))
  else
    gK M 10 o0 (
    bd (uX10_people o0 M) (fun r13 =>
    gK M 10 o0 (
    bd (uX10_mints o0 M) (fun r15 =>
    if (w64 (v4 * (w64 (r13 * r15)))) ≤ 60000 then
      some (.inl (w64 (v4 * (w64 (r13 * r15))), w32 (v6 + 1)))
    else
      some (.inr (.inr ((-2), M)))))))
def uX10_rows_f46 (o0 : Nat) (v1 : Int) (v2 : Int) (v3 : Int) (M : Mm) (x : Int × Int) : Option ((Int × Int) ⊕ ((Unit) ⊕ (Int × Mm))) := uX10_rows_s46 o0 v1 v2 v3 M x.1 x.2
def uX10_rows_c46 (o0 : Nat) (v1 : Int) (v2 : Int) (v3 : Int) (M : Mm) (b : (Unit) ⊕ (Int × Mm)) : Option (Int × Mm) := Sum.elim (fun b => uX10_rows_b86 o0 v1 v2 v3 M) (fun t => some t) b
def uX10_rows_b46 (o0 : Nat) (v1 : Int) (v2 : Int) (v3 : Int) (v4 : Int) (v6 : Int) (M : Mm) : Option (Int × Mm) :=
  bd (lp (uX10_rows_f46 o0 v1 v2 v3 M) fu (v4, v6)) (uX10_rows_c46 o0 v1 v2 v3 M)
def uX10_rows (o0 : Nat) (v1 : Int) (v2 : Int) (v3 : Int) (M0 : Mm) : Option (Int × Mm) :=
  bd (pI M0 10 o0 0 0) (fun M17 =>
  gK M17 10 o0 (
  bd (uX10_lay o0 M17) (fun M19 =>
  gK M19 10 o0 (
  bd (uX10_isCoin o0 v1 M19) (fun r21 =>
  if r21 = 0 then
    some ((-1), M19)
  else
    bd (uX10_isIn v2 1 9999 M19) (fun r23 =>
    if r23 = 0 then
      some ((-1), M19)
    else
      bd (uX10_isIn v3 1 9 M19) (fun r25 =>
      if r25 = 0 then
        some ((-1), M19)
      else
        uX10_rows_b46 o0 v1 v2 v3 1 0 M19)))))))

def uX10_readNamed (o0 : Nat) (v1 : Int) (M0 : Mm) : Option (Int × Mm) :=
  gK M0 10 o0 (
  bd (uX10_isName o0 M0) (fun r2 =>
  if r2 = 0 then
    gK M0 10 o0 (
    bd2 (uX10_bad o0 1 M0) (fun r20 M21 =>
    some (r20, M21)))
  else
    bd (gR M0 10 o0 18) (fun on4 =>
    gK M0 10 o0 (
    bd (uX10_people o0 M0) (fun r6 =>
    gK M0 10 o0 (
    bd (uX10_findIn o0 on4 0 r6 M0) (fun r8 =>
    if r8 = (-1) then
      gK M0 10 o0 (
      bd2 (uX10_bad o0 3 M0) (fun r17 M18 =>
      some (r17, M18)))
    else
      gK M0 10 o0 (
      bd2 (uX10_lays o0 (w32 (50 + v1)) r8 0 0 M0) (fun r11 M12 =>
      bd (pI M12 10 o0 46 r11) (fun M13 =>
      gK M13 10 o0 (
      bd (uX10_go o0 M13) (fun M15 =>
      some (1, M15)))))))))))))

def uX10_readCompare_b33 (o0 : Nat) (v1 : Int) (M : Mm) : Option (Int × Mm) :=
  bd (gI M 10 o0 9) (fun x1 =>
  gK M 10 o0 (
  bd (uX10_go o0 M) (fun M3 =>
  gK M3 10 o0 (
  bd2 (uX10_readNumber o0 0 9999 M3) (fun r5 M6 =>
  if r5 = 0 then
    some (0, M6)
  else
    bd (gI M6 10 o0 13) (fun x8 =>
    gK M6 10 o0 (
    bd2 (uX10_lays o0 (w32 (50 + v1)) 0 x8 x1 M6) (fun r10 M11 =>
    bd (pI M11 10 o0 46 r10) (fun M12 =>
    some (1, M12))))))))))
def uX10_readCompare (o0 : Nat) (v1 : Int) (M0 : Mm) : Option (Int × Mm) :=
  gK M0 10 o0 (
  bd (uX10_isSign o0 60 M0) (fun r14 =>
  if r14 = 0 then
    gK M0 10 o0 (
    bd (uX10_isSign o0 61 M0) (fun r17 =>
    if r17 = 0 then
      gK M0 10 o0 (
      bd (uX10_isSign o0 62 M0) (fun r20 =>
      if r20 = 0 then
        gK M0 10 o0 (
        bd2 (uX10_bad o0 1 M0) (fun r23 M24 =>
        some (r23, M24)))
      else
        uX10_readCompare_b33 o0 v1 M0))
    else
      uX10_readCompare_b33 o0 v1 M0))
  else
    uX10_readCompare_b33 o0 v1 M0))

def uX10_holds_b259 (rc : Nat → Int → Int → Mm → Option (Int)) (o0 : Nat) (v3 : Int) (v5 : Int) (os0 : Nat) (vs1 : Int) (vs2 : Int) (M0 : Mm) : Option Int :=
  gK M0 10 os0 (
  bd (uX10_ofCoin os0 vs1 vs2 M0) (fun r2 =>
  bd (gR M0 10 o0 14) (fun on3 =>
  bd (aI 12 M0 on3 (w32 (v3 + 3))) (fun x4 =>
  if x4 = 60 then
    if v5 ≤ r2 then
      some 0
    else
      some 1
  else
    bd (gR M0 10 o0 14) (fun on6 =>
    bd (aI 12 M0 on6 (w32 (v3 + 3))) (fun x7 =>
    if x7 = 61 then
      if r2 = v5 then
        some 1
      else
        some 0
    else
      if r2 ≤ v5 then
        some 0
      else
        some 1))))))
def uX10_holds_o (rc : Nat → Int → Int → Mm → Option (Int)) (o0 : Nat) (v1 : Int) (v2 : Int) (M0 : Mm) : Option Int :=
  bd (gR M0 10 o0 14) (fun on12 =>
  bd (aI 12 M0 on12 (w32 ((w32 (7900 + (w32 (4 * v1)))) + 1))) (fun x13 =>
  bd (gR M0 10 o0 14) (fun on14 =>
  bd (aI 12 M0 on14 (w32 ((w32 (7900 + (w32 (4 * v1)))) + 2))) (fun x15 =>
  bd (gR M0 10 o0 14) (fun on16 =>
  bd (aI 12 M0 on16 (w32 (7900 + (w32 (4 * v1))))) (fun x17 =>
  if x17 = 1 then
    gK M0 10 o0 (
    bd (rc o0 x13 v2 M0) (fun r20 =>
    if r20 = 0 then
      some 1
    else
      some 0))
  else
    if x17 = 2 then
      gK M0 10 o0 (
      bd (rc o0 x13 v2 M0) (fun r24 =>
      if r24 = 0 then
        some 0
      else
        gK M0 10 o0 (
        bd (rc o0 x15 v2 M0) (fun r27 =>
        if r27 = 0 then
          some 0
        else
          some 1))))
    else
      if x17 = 3 then
        gK M0 10 o0 (
        bd (rc o0 x13 v2 M0) (fun r31 =>
        if r31 = 0 then
          gK M0 10 o0 (
          bd (rc o0 x15 v2 M0) (fun r34 =>
          if r34 = 0 then
            some 0
          else
            some 1))
        else
          some 1))
      else
        if x17 = 4 then
          gK M0 10 o0 (
          bd (uX10_showsFalse o0 v2 M0) (fun r38 =>
          if r38 ≤ 0 then
            some 0
          else
            some 1))
        else
          if x17 = 62 then
            gK M0 10 o0 (
            bd (uX10_topOf o0 v2 M0) (fun r42 =>
            if r42 = x13 then
              some 1
            else
              some 0))
          else
            if x17 = 63 then
              gK M0 10 o0 (
              bd (uX10_shows o0 v2 x13 M0) (fun r46 =>
              some r46))
            else
              if x17 = 64 then
                gK M0 10 o0 (
                bd (uX10_ofCoin o0 v2 1 M0) (fun r49 =>
                if r49 = x13 then
                  some 1
                else
                  some 0))
              else
                bd (gR M0 10 o0 14) (fun on51 =>
                bd (aI 12 M0 on51 (w32 (7900 + (w32 (4 * v1))))) (fun x52 =>
                if (w32 (x52 - 50)) = 16 then
                  uX10_holds_b259 rc o0 (w32 (7900 + (w32 (4 * v1)))) x15 o0 v2 0 M0
                else
                  if (w32 (x52 - 50)) = 17 then
                    uX10_holds_b259 rc o0 (w32 (7900 + (w32 (4 * v1)))) x15 o0 v2 3 M0
                  else
                    uX10_holds_b259 rc o0 (w32 (7900 + (w32 (4 * v1)))) x15 o0 v2 2 M0))))))))

def uX10_holds : Nat → Nat → Int → Int → Mm → Option (Int)
  | 0 => fun _ _ _ _ => none
  | n + 1 => uX10_holds_o (uX10_holds n)

def uX0_find_b83 (o0 : Nat) (v5 : Int) (M : Mm) : Option (Int × Mm) :=
  gK M 0 o0 (
  bd (uX0_sumWorth o0 M) (fun M2 =>
  bd (pI M2 0 o0 9 (-1)) (fun M3 =>
  gK M3 0 o0 (
  bd (uX0_seekCheapest 16 o0 0 0 0 v5 M3) (fun M5 =>
  bd (gI M5 0 o0 9) (fun x6 =>
  if x6 = (-1) then
    bd (gI M5 0 o0 9) (fun x8 =>
    some (x8, M5))
  else
    gK M5 0 o0 (
    bd (uX0_chooseWays o0 v5 M5) (fun M10 =>
    bd (gI M10 0 o0 9) (fun x11 =>
    some (x11, M10))))))))))
def uX0_find_s30 (o0 : Nat) (o1 : Nat) (v3 : Int) (v4 : Int) (v5 : Int) (v6 : Int) (v7 : Int) (v8 : Int) (M : Mm) : Option ((Int × Mm) ⊕ (Mm)) :=
  bd (gI M 0 o0 0) (fun x12 =>
  if x12 ≤ v8 then
    some (.inr M)
  else
    bd (gR M 0 o0 2) (fun on14 =>
    bd (sI 12 M on14 v8 0) (fun M15 =>
    gK M15 0 o0 (
    bd (uX0_appraiseGiven o0 o1 v8 v3 v4 v6 M15) (fun M17 =>
    gK M17 0 o0 (
    bd (uX0_appraiseStruck o0 o1 v8 v4 v7 M17) (fun M19 =>
    gK M19 0 o0 (
    bd (uX0_noteUsable o0 o1 v8 M19) (fun M21 =>
    some (.inl (w32 (v8 + 1), M21)))))))))))
def uX0_find_f30 (o0 : Nat) (o1 : Nat) (v3 : Int) (v4 : Int) (v5 : Int) (v6 : Int) (v7 : Int) (x : Int × Mm) : Option ((Int × Mm) ⊕ (Mm)) := uX0_find_s30 o0 o1 v3 v4 v5 v6 v7 x.1 x.2
def uX0_find_c30 (o0 : Nat) (o1 : Nat) (v3 : Int) (v4 : Int) (v5 : Int) (v6 : Int) (v7 : Int) (b : Mm) : Option (Int × Mm) := uX0_find_b83 o0 v5 b
def uX0_find_b30 (o0 : Nat) (o1 : Nat) (v3 : Int) (v4 : Int) (v5 : Int) (v6 : Int) (v7 : Int) (v8 : Int) (M : Mm) : Option (Int × Mm) :=
  bd (lp (uX0_find_f30 o0 o1 v3 v4 v5 v6 v7) fu (v8, M)) (uX0_find_c30 o0 o1 v3 v4 v5 v6 v7)
def uX0_find (o0 : Nat) (o1 : Nat) (v2 : Int) (v3 : Int) (v4 : Int) (v5 : Int) (M0 : Mm) : Option (Int × Mm) :=
  gK M0 0 o0 (
  bd (uX0_lookAt o0 o1 v2 M0) (fun M23 =>
  bd (pI M23 0 o0 4 0) (fun M24 =>
  gK M24 8 o1 (
  bd (uX8_luckNow o1 M24) (fun r26 =>
  gK M24 8 o1 (
  bd (uX8_hundredths o1 v3 v2 r26 M24) (fun r28 =>
  uX0_find_b30 o0 o1 v3 v4 v5 r26 r28 0 M24)))))))

def uX0_settle_b130  (M : Mm) : Option Mm :=
  some M
def uX0_settle_s82 (o0 : Nat) (o1 : Nat) (v3 : Int) (v4 : Int) (v6 : Int) (v7 : Int) (M : Mm) : Option ((Int × Mm) ⊕ (Mm)) :=
  bd (gI M 0 o0 0) (fun x1 =>
  if x1 ≤ v7 then
    some (.inr M)
  else
    if 12 ≤ v7 then
      some (.inr M)
    else
      bd (gR M 0 o0 2) (fun on4 =>
      bd (aI 12 M on4 v7) (fun x5 =>
      if x5 = 0 then
        some (.inl (w32 (v7 + 1), M))
      else
        bd (gR M 0 o0 1) (fun on7 =>
        bd (aI 12 M on7 v7) (fun x8 =>
        gK M 8 o1 (
        bd (uX8_handOver o1 x8 v3 v4 v6 M) (fun M10 =>
        some (.inl (w32 (v7 + 1), M10)))))))))
def uX0_settle_f82 (o0 : Nat) (o1 : Nat) (v3 : Int) (v4 : Int) (v6 : Int) (x : Int × Mm) : Option ((Int × Mm) ⊕ (Mm)) := uX0_settle_s82 o0 o1 v3 v4 v6 x.1 x.2
def uX0_settle_c82 (o0 : Nat) (o1 : Nat) (v3 : Int) (v4 : Int) (v6 : Int) (b : Mm) : Option Mm := uX0_settle_b130 b
def uX0_settle_b82 (o0 : Nat) (o1 : Nat) (v3 : Int) (v4 : Int) (v6 : Int) (v7 : Int) (M : Mm) : Option Mm :=
  bd (lp (uX0_settle_f82 o0 o1 v3 v4 v6) fu (v7, M)) (uX0_settle_c82 o0 o1 v3 v4 v6)
def uX0_settle_b59 (o0 : Nat) (o1 : Nat) (v2 : Int) (v3 : Int) (v4 : Int) (v5 : Int) (M : Mm) : Option Mm :=
  bd (gI M 0 o0 11) (fun x11 =>
  bd (gI M 0 o0 13) (fun x12 =>
  gK M 8 o1 (
  bd2 (uX8_recordSale o1 v2 v3 v4 v5 x11 x12 M) (fun r14 M15 =>
  uX0_settle_b82 o0 o1 v3 v4 r14 0 M15))))
def uX0_settle_s3 (o0 : Nat) (o1 : Nat) (v2 : Int) (v3 : Int) (v4 : Int) (v5 : Int) (v6 : Int) (M : Mm) : Option ((Int × Mm) ⊕ (Mm)) :=
  bd (gI M 0 o0 0) (fun x16 =>
  if x16 ≤ v6 then
    some (.inr M)
  else
    if 12 ≤ v6 then
      some (.inr M)
    else
      bd (gR M 0 o0 2) (fun on19 =>
      bd (aI 12 M on19 v6) (fun x20 =>
      if x20 < 2 then
        some (.inl (w32 (v6 + 1), M))
      else
        bd (gR M 0 o0 1) (fun on22 =>
        bd (aI 12 M on22 v6) (fun x23 =>
        bd (gR M 0 o0 2) (fun on24 =>
        bd (aI 12 M on24 v6) (fun x25 =>
        gK M 8 o1 (
        bd (uX8_strike o1 x23 v2 (w32 (x25 - 2)) (-1) 0 M) (fun M27 =>
        some (.inl (w32 (v6 + 1), M27)))))))))))
def uX0_settle_f3 (o0 : Nat) (o1 : Nat) (v2 : Int) (v3 : Int) (v4 : Int) (v5 : Int) (x : Int × Mm) : Option ((Int × Mm) ⊕ (Mm)) := uX0_settle_s3 o0 o1 v2 v3 v4 v5 x.1 x.2
def uX0_settle_c3 (o0 : Nat) (o1 : Nat) (v2 : Int) (v3 : Int) (v4 : Int) (v5 : Int) (b : Mm) : Option Mm := uX0_settle_b59 o0 o1 v2 v3 v4 v5 b
def uX0_settle_b3 (o0 : Nat) (o1 : Nat) (v2 : Int) (v3 : Int) (v4 : Int) (v5 : Int) (v6 : Int) (M : Mm) : Option Mm :=
  bd (lp (uX0_settle_f3 o0 o1 v2 v3 v4 v5) fu (v6, M)) (uX0_settle_c3 o0 o1 v2 v3 v4 v5)
def uX0_settle (o0 : Nat) (o1 : Nat) (v2 : Int) (v3 : Int) (v4 : Int) (v5 : Int) (M0 : Mm) : Option Mm :=
  uX0_settle_b3 o0 o1 v2 v3 v4 v5 0 M0

def uX3_readLine (o0 : Nat) (o1 : Nat) (M0 : Mm) : Option (Int × Mm) :=
  bd (gI M0 7 o1 4) (fun x1 =>
  if x1 = 10 then
    gK M0 3 o0 (
    bd2 (uX3_readWho o0 o1 M0) (fun r4 M5 =>
    some (r4, M5)))
  else
    if x1 = 11 then
      gK M0 3 o0 (
      bd2 (uX3_readSetting o0 o1 M0) (fun r8 M9 =>
      some (r8, M9)))
    else
      if x1 = 12 then
        gK M0 3 o0 (
        bd2 (uX3_readSetting o0 o1 M0) (fun r12 M13 =>
        some (r12, M13)))
      else
        if x1 = 13 then
          gK M0 3 o0 (
          bd2 (uX3_readMint o0 o1 M0) (fun r16 M17 =>
          some (r16, M17)))
        else
          if x1 = 14 then
            gK M0 3 o0 (
            bd2 (uX3_readTakes o0 o1 M0) (fun r20 M21 =>
            some (r20, M21)))
          else
            gK M0 3 o0 (
            bd2 (uX3_readSetting o0 o1 M0) (fun r23 M24 =>
            some (r23, M24))))

def uX4_find_b132 (v5 : Int) (M : Mm) : Option (Int × Mm) :=
  some (v5, M)
def uX4_find_b113 (o0 : Nat) (o1 : Nat) (v2 : Int) (v3 : Int) (v5 : Int) (v7 : Int) (M : Mm) : Option ((Int × Int × Int × Mm) ⊕ (Int × Mm)) :=
  bd (gR M 8 o1 0) (fun on1 =>
  bd (gI M 3 on1 2) (fun x2 =>
  gK M 4 o0 (
  bd2 (uX4_turnRow o0 x2 M) (fun r4 M5 =>
  some (.inl (v5, r4, w32 (v7 + 1), M5))))))
def uX4_find_s80 (o0 : Nat) (o1 : Nat) (v2 : Int) (v3 : Int) (v5 : Int) (v6 : Int) (v7 : Int) (M : Mm) : Option ((Int × Int × Int × Mm) ⊕ (Int × Mm)) :=
  if 60000 ≤ v7 then
    some (.inr (v5, M))
  else
    if v6 = 0 then
      some (.inr (v5, M))
    else
      gK M 4 o0 (
      bd (uX4_fits o0 o1 v2 v3 M) (fun r9 =>
      if r9 = 0 then
        uX4_find_b113 o0 o1 v2 v3 v5 v7 M
      else
        gK M 4 o0 (
        bd2 (uX4_note o0 o1 v2 M) (fun r12 M13 =>
        uX4_find_b113 o0 o1 v2 v3 (w32 (v5 + r12)) v7 M13))))
def uX4_find_f80 (o0 : Nat) (o1 : Nat) (v2 : Int) (v3 : Int) (x : Int × Int × Int × Mm) : Option ((Int × Int × Int × Mm) ⊕ (Int × Mm)) := uX4_find_s80 o0 o1 v2 v3 x.1 x.2.1 x.2.2.1 x.2.2.2
def uX4_find_c80 (o0 : Nat) (o1 : Nat) (v2 : Int) (v3 : Int) (b : Int × Mm) : Option (Int × Mm) := uX4_find_b132 b.1 b.2
def uX4_find_b80 (o0 : Nat) (o1 : Nat) (v2 : Int) (v3 : Int) (v5 : Int) (v6 : Int) (v7 : Int) (M : Mm) : Option (Int × Mm) :=
  bd (lp (uX4_find_f80 o0 o1 v2 v3) fu (v5, v6, v7, M)) (uX4_find_c80 o0 o1 v2 v3)
def uX4_find_b53 (o0 : Nat) (o1 : Nat) (v2 : Int) (v3 : Int) (M : Mm) : Option (Int × Mm) :=
  bd (gI M 4 o0 0) (fun x14 =>
  bd (gR M 8 o1 0) (fun on15 =>
  bd (gR M 3 on15 11) (fun on16 =>
  bd (aI 12 M on16 3) (fun x17 =>
  if x14 ≤ x17 then
    uX4_find_b80 o0 o1 v2 v3 0 1 0 M
  else
    some (0, M)))))
def uX4_find_s14 (o0 : Nat) (o1 : Nat) (v2 : Int) (v3 : Int) (v5 : Int) (M : Mm) : Option ((Int × Mm) ⊕ (Mm)) :=
  bd (gI M 4 o0 0) (fun x19 =>
  if x19 ≤ v5 then
    some (.inr M)
  else
    bd (gR M 4 o0 1) (fun on21 =>
    bd (sI 12 M on21 v5 0) (fun M22 =>
    bd (gR M22 4 o0 2) (fun on23 =>
    bd (sI 12 M22 on23 v5 0) (fun M24 =>
    bd (gR M24 4 o0 3) (fun on25 =>
    bd (sI 12 M24 on25 v5 0) (fun M26 =>
    some (.inl (w32 (v5 + 1), M26)))))))))
def uX4_find_f14 (o0 : Nat) (o1 : Nat) (v2 : Int) (v3 : Int) (x : Int × Mm) : Option ((Int × Mm) ⊕ (Mm)) := uX4_find_s14 o0 o1 v2 v3 x.1 x.2
def uX4_find_c14 (o0 : Nat) (o1 : Nat) (v2 : Int) (v3 : Int) (b : Mm) : Option (Int × Mm) := uX4_find_b53 o0 o1 v2 v3 b
def uX4_find_b14 (o0 : Nat) (o1 : Nat) (v2 : Int) (v3 : Int) (v5 : Int) (M : Mm) : Option (Int × Mm) :=
  bd (lp (uX4_find_f14 o0 o1 v2 v3) fu (v5, M)) (uX4_find_c14 o0 o1 v2 v3)
def uX4_find (o0 : Nat) (o1 : Nat) (v2 : Int) (v3 : Int) (v4 : Int) (M0 : Mm) : Option (Int × Mm) :=
  bd (pI M0 4 o0 0 (min32 v4 9)) (fun M27 =>
  uX4_find_b14 o0 o1 v2 v3 0 M27)

def uX5_stepHolds (o0 : Nat) (o1 : Nat) (v2 : Int) (v3 : Int) (M0 : Mm) : Option Int :=
  bd (gR M0 5 o0 2) (fun on1 =>
  bd (aI 12 M0 on1 v3) (fun x2 =>
  if x2 = 22 then
    gK M0 8 o1 (
    bd (uX8_whoOnTop o1 v2 M0) (fun r5 =>
    bd (gR M0 5 o0 4) (fun on6 =>
    bd (aI 12 M0 on6 v3) (fun x7 =>
    if r5 = x7 then
      some 1
    else
      some 0))))
  else
    if x2 = 23 then
      bd (gR M0 5 o0 4) (fun on10 =>
      bd (aI 12 M0 on10 v3) (fun x11 =>
      gK M0 8 o1 (
      bd (uX8_showsWho o1 v2 x11 M0) (fun r13 =>
      some r13))))
    else
      if x2 = 24 then
        bd (gR M0 8 o1 1) (fun on15 =>
        bd (gR M0 1 on15 10) (fun on16 =>
        bd (aI 12 M0 on16 v2) (fun x17 =>
        bd (gR M0 5 o0 4) (fun on18 =>
        bd (aI 12 M0 on18 v3) (fun x19 =>
        if x17 = x19 then
          some 1
        else
          some 0)))))
      else
        if x2 = 25 then
          gK M0 8 o1 (
          bd (uX8_showsFalse o1 v2 M0) (fun r23 =>
          some r23))
        else
          if x2 = 26 then
            bd (gR M0 8 o1 1) (fun on25 =>
            bd (gR M0 1 on25 9) (fun on26 =>
            bd (aI 12 M0 on26 v2) (fun x27 =>
            gK M0 5 o0 (
            bd (uX5_compares o0 x27 v3 M0) (fun r29 =>
            some r29)))))
          else
            if x2 = 27 then
              bd (gR M0 8 o1 1) (fun on31 =>
              bd (gR M0 1 on31 12) (fun on32 =>
              bd (aI 12 M0 on32 v2) (fun x33 =>
              gK M0 5 o0 (
              bd (uX5_compares o0 x33 v3 M0) (fun r35 =>
              some r35)))))
            else
              bd (gR M0 8 o1 1) (fun on36 =>
              bd (gR M0 1 on36 11) (fun on37 =>
              bd (aI 12 M0 on37 v2) (fun x38 =>
              gK M0 5 o0 (
              bd (uX5_compares o0 x38 v3 M0) (fun r40 =>
              some r40)))))))

def uX9_init_b107 (o0 : Nat) (M : Mm) : Option Mm :=
  bd (uX4_init M.1.1 (nC M 4 0)) (fun M1 =>
  bd (pR M1 9 o0 9 M.1.1) (fun M2 =>
  some M2))
def uX9_init_s88 (o0 : Nat) (v1 : Int) (M : Mm) : Option ((Int × Mm) ⊕ (Mm)) :=
  if 40 ≤ v1 then
    some (.inr M)
  else
    bd (gR M 9 o0 8) (fun on4 =>
    bd (sI 12 M on4 v1 (-1)) (fun M5 =>
    some (.inl (w32 (v1 + 1), M5))))
def uX9_init_f88 (o0 : Nat) (x : Int × Mm) : Option ((Int × Mm) ⊕ (Mm)) := uX9_init_s88 o0 x.1 x.2
def uX9_init_c88 (o0 : Nat) (b : Mm) : Option Mm := uX9_init_b107 o0 b
def uX9_init_b88 (o0 : Nat) (v1 : Int) (M : Mm) : Option Mm :=
  bd (lp (uX9_init_f88 o0) fu (v1, M)) (uX9_init_c88 o0)
def uX9_init (o0 : Nat) (M0 : Mm) : Option Mm :=
  bd (uX7_init M0.1.1 (nC M0 7 0)) (fun M6 =>
  bd (pR M6 9 o0 0 M0.1.1) (fun M7 =>
  bd (uX3_init M7.1.1 (nC M7 3 0)) (fun M8 =>
  bd (pR M8 9 o0 2 M7.1.1) (fun M9 =>
  bd (uX5_init M9.1.1 (nC M9 5 0)) (fun M10 =>
  bd (pR M10 9 o0 3 M9.1.1) (fun M11 =>
  bd (uX8_init M11.1.1 (nC M11 8 0)) (fun M12 =>
  bd (pR M12 9 o0 4 M11.1.1) (fun M13 =>
  bd (uX2_init M13.1.1 (nC M13 2 0)) (fun M14 =>
  bd (pR M14 9 o0 5 M13.1.1) (fun M15 =>
  bd (pR (nC M15 16 2) 9 o0 6 M15.1.1) (fun M16 =>
  bd (uX0_init M16.1.1 (nC M16 0 0)) (fun M17 =>
  bd (pR M17 9 o0 7 M16.1.1) (fun M18 =>
  bd (pR (nC M18 12 40) 9 o0 8 M18.1.1) (fun M19 =>
  uX9_init_b88 o0 0 M19))))))))))))))

def uX9_coin (o0 : Nat) (v1 : Int) (v2 : Int) (v3 : Int) (M0 : Mm) : Option (Int × Mm) :=
  bd (gR M0 9 o0 4) (fun on1 =>
  gK M0 8 on1 (
  bd (uX8_isAlive on1 v1 M0) (fun r3 =>
  if r3 = 0 then
    some ((-1), M0)
  else
    bd (gR M0 9 o0 4) (fun on5 =>
    gK M0 8 on5 (
    bd (uX8_isMint on5 v3 M0) (fun r7 =>
    if r7 = 0 then
      some ((-1), M0)
    else
      if v2 < 1 then
        some ((-1), M0)
      else
        if v2 ≤ 9999 then
          bd (gR M0 9 o0 4) (fun on11 =>
          gK M0 8 on11 (
          bd (uX8_obstacle on11 v2 0 v3 M0) (fun r13 =>
          if r13 = 0 then
            bd (gR M0 9 o0 4) (fun on15 =>
            bd (gR M0 8 on15 1) (fun on16 =>
            bd (gI M0 1 on16 0) (fun x17 =>
            if 40 ≤ x17 then
              some ((-1), M0)
            else
              bd (gR M0 9 o0 4) (fun on19 =>
              gK M0 8 on19 (
              bd (uX8_strokesLeft on19 M0) (fun r21 =>
              if 1 ≤ r21 then
                bd (gR M0 9 o0 5) (fun on23 =>
                bd (gR M0 9 o0 4) (fun on24 =>
                bd (gR M0 8 on24 1) (fun on25 =>
                gK M0 2 on23 (
                bd (uX2_keep on23 on25 M0) (fun M27 =>
                bd (gR M27 9 o0 4) (fun on28 =>
                bd (gR M27 8 on28 1) (fun on29 =>
                gK M27 1 on29 (
                bd2 (uX1_addCoin on29 v1 v2 M27) (fun r31 M32 =>
                bd (gR M32 9 o0 4) (fun on33 =>
                gK M32 8 on33 (
                bd (uX8_strike on33 r31 v1 v3 (-1) 0 M32) (fun M35 =>
                some (r31, M35)))))))))))))
              else
                some ((-1), M0)))))))
          else
            some ((-1), M0))))
        else
          some ((-1), M0)))))))

def uX9_leastWrong_b60 (v6 : Int) (M0 : Mm) : Option Int :=
  some v6
def uX9_leastWrong_b50 (o0 : Nat) (v1 : Int) (v2 : Int) (v3 : Int) (v4 : Int) (v5 : Int) (v7 : Int) (v8 : Int) (M0 : Mm) : Option ((Int × Int) ⊕ (Int)) :=
  some (.inl (v8, w32 (v7 + 1)))
def uX9_leastWrong_s6 (o0 : Nat) (v1 : Int) (v2 : Int) (v3 : Int) (v4 : Int) (v5 : Int) (M0 : Mm) (v6 : Int) (v7 : Int) : Option ((Int × Int) ⊕ (Int)) :=
  if v4 ≤ v7 then
    some (.inr v6)
  else
    bd (gR M0 9 o0 0) (fun on2 =>
    gK M0 7 on2 (
    bd (uX7_at on2 v7 M0) (fun r4 =>
    gK M0 9 o0 (
    bd (uX9_coinWrong o0 v1 v2 v3 r4 v5 M0) (fun r6 =>
    if r6 = 0 then
      some (.inl (v6, w32 (v7 + 1)))
    else
      if v6 = 0 then
        uX9_leastWrong_b50 o0 v1 v2 v3 v4 v5 v7 r6 M0
      else
        if v6 ≤ r6 then
          some (.inl (v6, w32 (v7 + 1)))
        else
          uX9_leastWrong_b50 o0 v1 v2 v3 v4 v5 v7 r6 M0)))))
def uX9_leastWrong_f6 (o0 : Nat) (v1 : Int) (v2 : Int) (v3 : Int) (v4 : Int) (v5 : Int) (M0 : Mm) (x : Int × Int) : Option ((Int × Int) ⊕ (Int)) := uX9_leastWrong_s6 o0 v1 v2 v3 v4 v5 M0 x.1 x.2
def uX9_leastWrong_c6 (o0 : Nat) (v1 : Int) (v2 : Int) (v3 : Int) (v4 : Int) (v5 : Int) (M0 : Mm) (b : Int) : Option Int := uX9_leastWrong_b60 b M0
def uX9_leastWrong_b6 (o0 : Nat) (v1 : Int) (v2 : Int) (v3 : Int) (v4 : Int) (v5 : Int) (v6 : Int) (v7 : Int) (M0 : Mm) : Option Int :=
  bd (lp (uX9_leastWrong_f6 o0 v1 v2 v3 v4 v5 M0) fu (v6, v7)) (uX9_leastWrong_c6 o0 v1 v2 v3 v4 v5 M0)
def uX9_leastWrong (o0 : Nat) (v1 : Int) (v2 : Int) (v3 : Int) (v4 : Int) (v5 : Int) (M0 : Mm) : Option Int :=
  uX9_leastWrong_b6 o0 v1 v2 v3 v4 v5 0 0 M0

def uX9_steal (o0 : Nat) (v1 : Int) (v2 : Int) (M0 : Mm) : Option (Int × Mm) :=
  bd (gR M0 9 o0 4) (fun on1 =>
  gK M0 8 on1 (
  bd (uX8_canTrade on1 v1 v2 M0) (fun r3 =>
  if r3 = 0 then
    some (0, M0)
  else
    bd (gR M0 9 o0 4) (fun on5 =>
    bd (gR M0 8 on5 1) (fun on6 =>
    bd (gI M0 1 on6 6) (fun x7 =>
    if x7 = (-1) then
      bd (gR M0 9 o0 5) (fun on9 =>
      bd (gR M0 9 o0 4) (fun on10 =>
      bd (gR M0 8 on10 1) (fun on11 =>
      gK M0 2 on9 (
      bd (uX2_keep on9 on11 M0) (fun M13 =>
      bd (gR M13 9 o0 4) (fun on14 =>
      bd (gR M13 8 on14 1) (fun on15 =>
      bd (pI M13 1 on15 6 v2) (fun M16 =>
      bd (gR M16 9 o0 4) (fun on17 =>
      bd (gR M16 8 on17 1) (fun on18 =>
      bd (pI M16 1 on18 7 v1) (fun M19 =>
      some (1, M19))))))))))))
    else
      some (0, M0)))))))

def uX9_forge (o0 : Nat) (v1 : Int) (v2 : Int) (M0 : Mm) : Option (Int × Mm) :=
  bd (gR M0 9 o0 4) (fun on1 =>
  gK M0 8 on1 (
  bd (uX8_isCoin on1 v1 M0) (fun r3 =>
  if r3 = 0 then
    some ((-1), M0)
  else
    bd (gR M0 9 o0 4) (fun on5 =>
    gK M0 8 on5 (
    bd (uX8_isMint on5 v2 M0) (fun r7 =>
    if r7 = 0 then
      some ((-1), M0)
    else
      bd (gR M0 9 o0 4) (fun on9 =>
      bd (gR M0 8 on9 1) (fun on10 =>
      bd (gI M0 1 on10 6) (fun x11 =>
      if x11 = (-1) then
        some (1, M0)
      else
        bd (gR M0 9 o0 4) (fun on13 =>
        bd (gR M0 8 on13 1) (fun on14 =>
        bd (gR M0 1 on14 10) (fun on15 =>
        bd (aI 12 M0 on15 v1) (fun x16 =>
        bd (gR M0 9 o0 4) (fun on17 =>
        bd (gR M0 8 on17 1) (fun on18 =>
        bd (gI M0 1 on18 7) (fun x19 =>
        if x16 = x19 then
          bd (gR M0 9 o0 4) (fun on21 =>
          bd (gR M0 9 o0 4) (fun on22 =>
          bd (gR M0 8 on22 1) (fun on23 =>
          bd (gR M0 1 on23 9) (fun on24 =>
          bd (aI 12 M0 on24 v1) (fun x25 =>
          bd (gR M0 9 o0 4) (fun on26 =>
          bd (gR M0 8 on26 1) (fun on27 =>
          bd (gR M0 1 on27 11) (fun on28 =>
          bd (aI 12 M0 on28 v1) (fun x29 =>
          gK M0 8 on21 (
          bd (uX8_obstacle on21 x25 x29 v2 M0) (fun r31 =>
          if r31 = 0 then
            bd (gR M0 9 o0 4) (fun on33 =>
            gK M0 8 on33 (
            bd (uX8_strokesLeft on33 M0) (fun r35 =>
            if 1 ≤ r35 then
              bd (gR M0 9 o0 5) (fun on37 =>
              bd (gR M0 9 o0 4) (fun on38 =>
              bd (gR M0 8 on38 1) (fun on39 =>
              gK M0 2 on37 (
              bd (uX2_keep on37 on39 M0) (fun M41 =>
              bd (gR M41 9 o0 4) (fun on42 =>
              bd (gR M41 9 o0 4) (fun on43 =>
              bd (gR M41 8 on43 1) (fun on44 =>
              bd (gI M41 1 on44 6) (fun x45 =>
              gK M41 8 on42 (
              bd (uX8_strike on42 v1 x45 v2 (-1) 1 M41) (fun M47 =>
              some (0, M47))))))))))))
            else
              some ((-1), M0))))
          else
            some (r31, M0))))))))))))
        else
          some (2, M0)))))))))))))))))

def uX9_day (o0 : Nat) (M0 : Mm) : Option (Int × Mm) :=
  bd (gR M0 9 o0 4) (fun on1 =>
  bd (gR M0 8 on1 1) (fun on2 =>
  bd (gI M0 1 on2 3) (fun x3 =>
  if x3 < 9999 then
    bd (gR M0 9 o0 5) (fun on5 =>
    bd (gR M0 9 o0 4) (fun on6 =>
    bd (gR M0 8 on6 1) (fun on7 =>
    gK M0 2 on5 (
    bd (uX2_keep on5 on7 M0) (fun M9 =>
    bd (gR M9 9 o0 4) (fun on10 =>
    bd (gR M9 8 on10 1) (fun on11 =>
    bd (gI M9 1 on11 3) (fun x12 =>
    bd (pI M9 1 on11 3 (w32 (x12 + 1))) (fun M13 =>
    bd (gR M13 9 o0 4) (fun on14 =>
    bd (gR M13 8 on14 1) (fun on15 =>
    gK M13 1 on15 (
    bd (uX1_bringDieBack on15 M13) (fun M17 =>
    bd (gR M17 9 o0 4) (fun on18 =>
    bd (gR M17 8 on18 1) (fun on19 =>
    bd (gI M17 1 on19 3) (fun x20 =>
    some (x20, M17)))))))))))))))))
  else
    some ((-1), M0))))

def uX9_rob (o0 : Nat) (v1 : Int) (v2 : Int) (M0 : Mm) : Option (Int × Mm) :=
  bd (gR M0 9 o0 4) (fun on1 =>
  gK M0 8 on1 (
  bd (uX8_isAlive on1 v1 M0) (fun r3 =>
  if r3 = 0 then
    some (0, M0)
  else
    bd (gR M0 9 o0 4) (fun on5 =>
    gK M0 8 on5 (
    bd (uX8_isCoin on5 v2 M0) (fun r7 =>
    if r7 = 0 then
      some (0, M0)
    else
      bd (gR M0 9 o0 4) (fun on9 =>
      bd (gR M0 8 on9 1) (fun on10 =>
      bd (gR M0 1 on10 10) (fun on11 =>
      bd (aI 12 M0 on11 v2) (fun x12 =>
      if x12 = v1 then
        some (0, M0)
      else
        bd (gR M0 9 o0 5) (fun on14 =>
        bd (gR M0 9 o0 4) (fun on15 =>
        bd (gR M0 8 on15 1) (fun on16 =>
        gK M0 2 on14 (
        bd (uX2_keep on14 on16 M0) (fun M18 =>
        bd (gR M18 9 o0 4) (fun on19 =>
        bd (gR M18 8 on19 1) (fun on20 =>
        bd (gR M18 1 on20 10) (fun on21 =>
        bd (sI 12 M18 on21 v2 v1) (fun M22 =>
        some (1, M22))))))))))))))))))))

def uX9_dies_b66 (o0 : Nat) (v1 : Int) (v2 : Int) (M : Mm) : Option (Int × Mm) :=
  bd (gR M 9 o0 4) (fun on1 =>
  bd (gR M 8 on1 1) (fun on2 =>
  gK M 1 on2 (
  bd (uX1_bury on2 v1 M) (fun M4 =>
  bd (gR M4 9 o0 4) (fun on5 =>
  bd (gR M4 8 on5 1) (fun on6 =>
  gK M4 1 on6 (
  bd2 (uX1_inherit on6 v1 v2 M4) (fun r8 M9 =>
  some (r8, M9)))))))))
def uX9_dies_b56 (o0 : Nat) (v1 : Int) (v2 : Int) (M : Mm) : Option (Int × Mm) :=
  bd (gR M 9 o0 4) (fun on10 =>
  bd (gR M 8 on10 1) (fun on11 =>
  gK M 1 on11 (
  bd (uX1_bringDieBack on11 M) (fun M13 =>
  uX9_dies_b66 o0 v1 v2 M13))))
def uX9_dies (o0 : Nat) (v1 : Int) (v2 : Int) (M0 : Mm) : Option (Int × Mm) :=
  bd (gR M0 9 o0 4) (fun on14 =>
  gK M0 8 on14 (
  bd (uX8_canTrade on14 v1 v2 M0) (fun r16 =>
  if r16 = 0 then
    some ((-1), M0)
  else
    bd (gR M0 9 o0 5) (fun on18 =>
    bd (gR M0 9 o0 4) (fun on19 =>
    bd (gR M0 8 on19 1) (fun on20 =>
    gK M0 2 on18 (
    bd (uX2_keep on18 on20 M0) (fun M22 =>
    bd (gR M22 9 o0 4) (fun on23 =>
    bd (gR M22 8 on23 1) (fun on24 =>
    bd (gI M22 1 on24 6) (fun x25 =>
    if x25 = v1 then
      uX9_dies_b56 o0 v1 v2 M22
    else
      bd (gR M22 9 o0 4) (fun on27 =>
      bd (gR M22 8 on27 1) (fun on28 =>
      bd (gI M22 1 on28 7) (fun x29 =>
      if x29 = v1 then
        uX9_dies_b56 o0 v1 v2 M22
      else
        uX9_dies_b66 o0 v1 v2 M22))))))))))))))

def uX9_close (o0 : Nat) (v1 : Int) (M0 : Mm) : Option (Int × Mm) :=
  bd (gR M0 9 o0 4) (fun on1 =>
  gK M0 8 on1 (
  bd (uX8_isMint on1 v1 M0) (fun r3 =>
  if r3 = 0 then
    some (0, M0)
  else
    bd (gR M0 9 o0 4) (fun on5 =>
    bd (gR M0 8 on5 1) (fun on6 =>
    gK M0 1 on6 (
    bd (uX1_isClosed on6 v1 M0) (fun r8 =>
    if r8 = 0 then
      bd (gR M0 9 o0 5) (fun on10 =>
      bd (gR M0 9 o0 4) (fun on11 =>
      bd (gR M0 8 on11 1) (fun on12 =>
      gK M0 2 on10 (
      bd (uX2_keep on10 on12 M0) (fun M14 =>
      bd (gR M14 9 o0 4) (fun on15 =>
      bd (gR M14 8 on15 1) (fun on16 =>
      gK M14 1 on16 (
      bd (uX1_shut on16 v1 M14) (fun M18 =>
      some (1, M18))))))))))
    else
      some (0, M0))))))))

def uX9_image_b37 (o0 : Nat) (v1 : Int) (M : Mm) : Option (Int × Mm) :=
  bd (gR M 9 o0 6) (fun on1 =>
  bd (aR 16 M on1 v1) (fun qn2 =>
  bd (gR M 9 o0 4) (fun on3 =>
  bd qn2 (fun on4 =>
  gK M 8 on4 (
  bd (uX8_copyFrom on4 on3 M) (fun M6 =>
  some (1, M6)))))))
def uX9_image (o0 : Nat) (v1 : Int) (M0 : Mm) : Option (Int × Mm) :=
  if v1 < 0 then
    some (0, M0)
  else
    bd (gR M0 9 o0 6) (fun on8 =>
    bd (aL M0 on8) (fun x9 =>
    if v1 < x9 then
      bd (gR M0 9 o0 6) (fun on11 =>
      bd (aR 16 M0 on11 v1) (fun qn12 =>
      if qn12 = none then
        bd (gR M0 9 o0 6) (fun on14 =>
        bd (uX8_init M0.1.1 (nC M0 8 0)) (fun M15 =>
        bd (sR 16 M15 on14 v1 M0.1.1) (fun M16 =>
        uX9_image_b37 o0 v1 M16)))
      else
        uX9_image_b37 o0 v1 M0))
    else
      some (0, M0)))

def uX10_readWho_b109 (o0 : Nat) (M : Mm) : Option (Int × Mm) :=
  bd (gR M 10 o0 15) (fun on1 =>
  bd (aI 12 M on1 0) (fun x2 =>
  bd (sI 12 M on1 0 (w32 (x2 + 1))) (fun M3 =>
  some (1, M3))))
def uX10_readWho_b96 (o0 : Nat) (os0 : Nat) (vs1 : Int) (vs2 : Int) (M : Mm) : Option (Int × Mm) :=
  bd (sI 12 M os0 vs1 vs2) (fun M4 =>
  gK M4 10 o0 (
  bd (uX10_isWord o0 2 M4) (fun r6 =>
  if r6 = 0 then
    uX10_readWho_b109 o0 M4
  else
    gK M4 10 o0 (
    bd (uX10_go o0 M4) (fun M9 =>
    uX10_readWho_b109 o0 M9)))))
def uX10_readWho_b71 (o0 : Nat) (v1 : Int) (M : Mm) : Option (Int × Mm) :=
  bd (gR M 10 o0 15) (fun on10 =>
  gK M 10 o0 (
  bd (uX10_isWord o0 2 M) (fun r12 =>
  if r12 = 0 then
    uX10_readWho_b96 o0 on10 (w32 ((w32 (8 + (w32 (3 * v1)))) + 1)) 0 M
  else
    uX10_readWho_b96 o0 on10 (w32 ((w32 (8 + (w32 (3 * v1)))) + 1)) 1 M)))
def uX10_readWho_b58 (o0 : Nat) (v1 : Int) (os0 : Nat) (vs1 : Int) (vs2 : Int) (M : Mm) : Option (Int × Mm) :=
  bd (sI 12 M os0 vs1 vs2) (fun M14 =>
  gK M14 10 o0 (
  bd (uX10_isWord o0 1 M14) (fun r16 =>
  if r16 = 0 then
    uX10_readWho_b71 o0 v1 M14
  else
    gK M14 10 o0 (
    bd (uX10_go o0 M14) (fun M19 =>
    uX10_readWho_b71 o0 v1 M19)))))
def uX10_readWho (o0 : Nat) (M0 : Mm) : Option (Int × Mm) :=
  bd (gR M0 10 o0 15) (fun on20 =>
  bd (aI 12 M0 on20 0) (fun x21 =>
  if x21 = 8 then
    gK M0 10 o0 (
    bd2 (uX10_bad o0 4 M0) (fun r34 M35 =>
    some (r34, M35)))
  else
    gK M0 10 o0 (
    bd (uX10_go o0 M0) (fun M24 =>
    gK M24 10 o0 (
    bd2 (uX10_readNew o0 x21 M24) (fun r26 M27 =>
    if r26 = 0 then
      some (0, M27)
    else
      bd (gR M27 10 o0 15) (fun on29 =>
      gK M27 10 o0 (
      bd (uX10_isWord o0 1 M27) (fun r31 =>
      if r31 = 0 then
        uX10_readWho_b58 o0 x21 on29 (w32 ((w32 (8 + (w32 (3 * x21)))) + 0)) 0 M27
      else
        uX10_readWho_b58 o0 x21 on29 (w32 ((w32 (8 + (w32 (3 * x21)))) + 0)) 1 M27)))))))))

def uX10_readMint (o0 : Nat) (M0 : Mm) : Option (Int × Mm) :=
  bd (gR M0 10 o0 15) (fun on1 =>
  bd (aI 12 M0 on1 1) (fun x2 =>
  if x2 = 4 then
    gK M0 10 o0 (
    bd2 (uX10_bad o0 4 M0) (fun r28 M29 =>
    some (r28, M29)))
  else
    gK M0 10 o0 (
    bd (uX10_go o0 M0) (fun M5 =>
    gK M5 10 o0 (
    bd2 (uX10_readNew o0 (w32 (8 + x2)) M5) (fun r7 M8 =>
    if r7 = 0 then
      some (0, M8)
    else
      gK M8 10 o0 (
      bd2 (uX10_readNumber o0 1 50 M8) (fun r11 M12 =>
      if r11 = 0 then
        some (0, M12)
      else
        bd (gR M12 10 o0 15) (fun on14 =>
        bd (gI M12 10 o0 13) (fun x15 =>
        bd (sI 12 M12 on14 (w32 ((w32 (32 + (w32 (3 * x2)))) + 0)) x15) (fun M16 =>
        gK M16 10 o0 (
        bd2 (uX10_readNumber o0 1 9 M16) (fun r18 M19 =>
        if r18 = 0 then
          some (0, M19)
        else
          bd (gR M19 10 o0 15) (fun on21 =>
          bd (gI M19 10 o0 13) (fun x22 =>
          bd (sI 12 M19 on21 (w32 ((w32 (32 + (w32 (3 * x2)))) + 1)) x22) (fun M23 =>
          bd (gR M23 10 o0 15) (fun on24 =>
          bd (aI 12 M23 on24 1) (fun x25 =>
          bd (sI 12 M23 on24 1 (w32 (x25 + 1))) (fun M26 =>
          some (1, M26))))))))))))))))))))

def uX10_readTakes (o0 : Nat) (M0 : Mm) : Option (Int × Mm) :=
  gK M0 10 o0 (
  bd (uX10_go o0 M0) (fun M2 =>
  gK M2 10 o0 (
  bd2 (uX10_readWhoTold o0 M2) (fun r4 M5 =>
  if r4 = 0 then
    some (0, M5)
  else
    bd (gI M5 10 o0 13) (fun x7 =>
    gK M5 10 o0 (
    bd (uX10_go o0 M5) (fun M9 =>
    gK M9 10 o0 (
    bd2 (uX10_readWhoTold o0 M9) (fun r11 M12 =>
    if r11 = 0 then
      some (0, M12)
    else
      bd (gI M12 10 o0 13) (fun x14 =>
      bd (gR M12 10 o0 15) (fun on15 =>
      bd (aI 12 M12 on15 (w32 ((w32 (44 + (w32 (8 * x7)))) + x14))) (fun x16 =>
      if x16 ≤ 0 then
        gK M12 10 o0 (
        bd (uX10_go o0 M12) (fun M19 =>
        gK M19 10 o0 (
        bd2 (uX10_readNumber o0 0 200 M19) (fun r21 M22 =>
        if r21 = 0 then
          some (0, M22)
        else
          bd (gR M22 10 o0 15) (fun on24 =>
          bd (gI M22 10 o0 13) (fun x25 =>
          bd (sI 12 M22 on24 (w32 ((w32 (44 + (w32 (8 * x7)))) + x14)) (w32 (x25 + 1))) (fun M26 =>
          bd (gR M26 10 o0 15) (fun on27 =>
          bd (aI 12 M26 on27 2) (fun x28 =>
          bd (sI 12 M26 on27 2 (w32 (x28 + 1))) (fun M29 =>
          some (1, M29)))))))))))
      else
        gK M12 10 o0 (
        bd2 (uX10_bad o0 3 M12) (fun r31 M32 =>
        some (r31, M32)))))))))))))))

def uX10_value (o0 : Nat) (v1 : Int) (v2 : Int) (v3 : Int) (M0 : Mm) : Option (Int × Mm) :=
  bd (pI M0 10 o0 0 0) (fun M1 =>
  gK M1 10 o0 (
  bd (uX10_lay o0 M1) (fun M3 =>
  gK M3 10 o0 (
  bd (uX10_isWho o0 v1 M3) (fun r5 =>
  if r5 = 0 then
    some ((-1), M3)
  else
    gK M3 10 o0 (
    bd (uX10_isCoin o0 v2 M3) (fun r8 =>
    if r8 = 0 then
      some ((-1), M3)
    else
      bd (uX10_isIn v3 0 1 M3) (fun r10 =>
      if r10 = 0 then
        some ((-1), M3)
      else
        if v3 = 0 then
          gK M3 10 o0 (
          bd (uX10_topOf o0 v2 M3) (fun r16 =>
          gK M3 10 o0 (
          bd (uX10_luckOf o0 M3) (fun r18 =>
          gK M3 10 o0 (
          bd (uX10_hundredths o0 v1 r16 r18 M3) (fun r20 =>
          some (r20, M3)))))))
        else
          gK M3 10 o0 (
          bd (uX10_valueOf o0 v1 v2 M3) (fun r14 =>
          some (r14, M3)))))))))))

def uX10_sale_b350 (o0 : Nat) (v1 : Int) (v2 : Int) (v3 : Int) (v4 : Int) (v5 : Int) (v9 : Int) (M : Mm) : Option (Int × Mm) :=
  gK M 10 o0 (
  bd (uX10_keepSale o0 v1 v2 v3 v4 v5 v9 M) (fun M2 =>
  some (0, M2)))
def uX10_sale_s295 (o0 : Nat) (v1 : Int) (v2 : Int) (v3 : Int) (v4 : Int) (v5 : Int) (v9 : Int) (v10 : Int) (M : Mm) : Option ((Int × Mm) ⊕ (Mm)) :=
  if v5 ≤ v10 then
    some (.inr M)
  else
    bd (gR M 10 o0 25) (fun on4 =>
    bd (aI 12 M on4 v10) (fun x5 =>
    bd (gR M 10 o0 14) (fun on6 =>
    bd (aI 12 M on6 113) (fun x7 =>
    gK M 10 o0 (
    bd (uX10_strike o0 x5 v2 v3 x7 0 M) (fun M9 =>
    bd (gR M9 10 o0 14) (fun on10 =>
    bd (gR M9 10 o0 25) (fun on11 =>
    bd (aI 12 M9 on11 v10) (fun x12 =>
    bd (sI 12 M9 on10 (w32 ((w32 (120 + (w32 (32 * x12)))) + 1)) v2) (fun M13 =>
    some (.inl (w32 (v10 + 1), M13))))))))))))
def uX10_sale_f295 (o0 : Nat) (v1 : Int) (v2 : Int) (v3 : Int) (v4 : Int) (v5 : Int) (v9 : Int) (x : Int × Mm) : Option ((Int × Mm) ⊕ (Mm)) := uX10_sale_s295 o0 v1 v2 v3 v4 v5 v9 x.1 x.2
def uX10_sale_c295 (o0 : Nat) (v1 : Int) (v2 : Int) (v3 : Int) (v4 : Int) (v5 : Int) (v9 : Int) (b : Mm) : Option (Int × Mm) := uX10_sale_b350 o0 v1 v2 v3 v4 v5 v9 b
def uX10_sale_b295 (o0 : Nat) (v1 : Int) (v2 : Int) (v3 : Int) (v4 : Int) (v5 : Int) (v9 : Int) (v10 : Int) (M : Mm) : Option (Int × Mm) :=
  bd (lp (uX10_sale_f295 o0 v1 v2 v3 v4 v5 v9) fu (v10, M)) (uX10_sale_c295 o0 v1 v2 v3 v4 v5 v9)
def uX10_sale_b268 (o0 : Nat) (v1 : Int) (v2 : Int) (v3 : Int) (v4 : Int) (v5 : Int) (v8 : Int) (v9 : Int) (M : Mm) : Option (Int × Mm) :=
  if 8 ≤ v8 then
    if v4 ≤ v9 then
      gK M 10 o0 (
      bd (uX10_snap o0 M) (fun M17 =>
      uX10_sale_b295 o0 v1 v2 v3 v4 v5 v9 0 M17))
    else
      some (7, M)
  else
    some (v8, M)
def uX10_sale_b244 (o0 : Nat) (v1 : Int) (v2 : Int) (v3 : Int) (v4 : Int) (v5 : Int) (v8 : Int) (v9 : Int) (v10 : Int) (vs0 : Int) (M : Mm) : Option ((Int × Int × Int) ⊕ (Int × Int)) :=
  if vs0 ≤ 0 then
    some (.inl (v8, v9, w32 (v10 + 1)))
  else
    if v8 ≤ vs0 then
      some (.inl (v8, v9, w32 (v10 + 1)))
    else
      some (.inl (vs0, v9, w32 (v10 + 1)))
def uX10_sale_s175 (o0 : Nat) (v1 : Int) (v2 : Int) (v3 : Int) (v4 : Int) (v5 : Int) (M : Mm) (v8 : Int) (v9 : Int) (v10 : Int) : Option ((Int × Int × Int) ⊕ (Int × Int)) :=
  if v5 ≤ v10 then
    some (.inr (v8, v9))
  else
    bd (gR M 10 o0 25) (fun on21 =>
    bd (aI 12 M on21 v10) (fun x22 =>
    gK M 10 o0 (
    bd (uX10_valueOf o0 v2 x22 M) (fun r24 =>
    bd (gR M 10 o0 25) (fun on25 =>
    bd (aI 12 M on25 v10) (fun x26 =>
    gK M 10 o0 (
    bd (uX10_ofCoin o0 x26 1 M) (fun r28 =>
    if r28 = v1 then
      if r24 = 0 then
        uX10_sale_b244 o0 v1 v2 v3 v4 v5 v8 (w32 (v9 + r24)) v10 3 M
      else
        bd (gR M 10 o0 25) (fun on31 =>
        bd (aI 12 M on31 v10) (fun x32 =>
        gK M 10 o0 (
        bd (uX10_wrongAt o0 x32 v3 M) (fun r34 =>
        uX10_sale_b244 o0 v1 v2 v3 v4 v5 v8 (w32 (v9 + r24)) v10 r34 M))))
    else
      uX10_sale_b244 o0 v1 v2 v3 v4 v5 v8 (w32 (v9 + r24)) v10 2 M))))))))
def uX10_sale_f175 (o0 : Nat) (v1 : Int) (v2 : Int) (v3 : Int) (v4 : Int) (v5 : Int) (M : Mm) (x : Int × Int × Int) : Option ((Int × Int × Int) ⊕ (Int × Int)) := uX10_sale_s175 o0 v1 v2 v3 v4 v5 M x.1 x.2.1 x.2.2
def uX10_sale_c175 (o0 : Nat) (v1 : Int) (v2 : Int) (v3 : Int) (v4 : Int) (v5 : Int) (M : Mm) (b : Int × Int) : Option (Int × Mm) := uX10_sale_b268 o0 v1 v2 v3 v4 v5 b.1 b.2 M
def uX10_sale_b175 (o0 : Nat) (v1 : Int) (v2 : Int) (v3 : Int) (v4 : Int) (v5 : Int) (v8 : Int) (v9 : Int) (v10 : Int) (M : Mm) : Option (Int × Mm) :=
  bd (lp (uX10_sale_f175 o0 v1 v2 v3 v4 v5 M) fu (v8, v9, v10)) (uX10_sale_c175 o0 v1 v2 v3 v4 v5 M)
def uX10_sale_b154 (o0 : Nat) (v1 : Int) (v2 : Int) (v3 : Int) (v4 : Int) (v5 : Int) (M : Mm) : Option (Int × Mm) :=
  gK M 10 o0 (
  bd (uX10_areUnfit o0 v1 v2 M) (fun r36 =>
  if r36 = 0 then
    uX10_sale_b175 o0 v1 v2 v3 v4 v5 8 0 0 M
  else
    some (1, M)))
def uX10_sale_s80 (o0 : Nat) (v1 : Int) (v2 : Int) (v3 : Int) (v4 : Int) (v5 : Int) (v6 : Int) (v8 : Int) (M : Mm) : Option ((Int × Int × Mm) ⊕ ((Mm) ⊕ (Int × Mm))) :=
  if v5 ≤ v8 then
    some (.inr (.inl M))
  else
    bd (gR M 10 o0 25) (fun on39 =>
    bd (gR M 10 o0 1) (fun on40 =>
    bd (aI 12 M on40 v8) (fun x41 =>
    bd (sI 12 M on39 v8 x41) (fun M42 =>
    bd (gR M42 10 o0 25) (fun on43 =>
    bd (aI 12 M42 on43 v8) (fun x44 =>
    gK M42 10 o0 (
    bd (uX10_isCoin o0 x44 M42) (fun r46 =>
    if r46 = 0 then
      some (.inr (.inr ((-1), M42)))
    else
      bd (gR M42 10 o0 25) (fun on48 =>
      bd (aI 12 M42 on48 v8) (fun x49 =>
      if (and64 (shr64 v6 x49) 1) = 1 then
        some (.inr (.inr ((-1), M42)))
      else
        bd (gR M42 10 o0 25) (fun on51 =>
        bd (aI 12 M42 on51 v8) (fun x52 =>
        some (.inl (or64 v6 (shl64 1 x52), w32 (v8 + 1), M42))))))))))))))
def uX10_sale_f80 (o0 : Nat) (v1 : Int) (v2 : Int) (v3 : Int) (v4 : Int) (v5 : Int) (x : Int × Int × Mm) : Option ((Int × Int × Mm) ⊕ ((Mm) ⊕ (Int × Mm))) := uX10_sale_s80 o0 v1 v2 v3 v4 v5 x.1 x.2.1 x.2.2
def uX10_sale_c80 (o0 : Nat) (v1 : Int) (v2 : Int) (v3 : Int) (v4 : Int) (v5 : Int) (b : (Mm) ⊕ (Int × Mm)) : Option (Int × Mm) := Sum.elim (fun b => uX10_sale_b154 o0 v1 v2 v3 v4 v5 b) (fun t => some t) b
def uX10_sale_b80 (o0 : Nat) (v1 : Int) (v2 : Int) (v3 : Int) (v4 : Int) (v5 : Int) (v6 : Int) (v8 : Int) (M : Mm) : Option (Int × Mm) :=
  bd (lp (uX10_sale_f80 o0 v1 v2 v3 v4 v5) fu (v6, v8, M)) (uX10_sale_c80 o0 v1 v2 v3 v4 v5)
def uX10_sale (o0 : Nat) (v1 : Int) (v2 : Int) (v3 : Int) (v4 : Int) (M0 : Mm) : Option (Int × Mm) :=
  bd (pI M0 10 o0 0 0) (fun M53 =>
  gK M53 10 o0 (
  bd (uX10_lay o0 M53) (fun M55 =>
  gK M55 10 o0 (
  bd2 (uX10_take o0 M55) (fun r57 M58 =>
  gK M58 10 o0 (
  bd (uX10_isWho o0 v1 M58) (fun r60 =>
  if r60 = 0 then
    some ((-1), M58)
  else
    gK M58 10 o0 (
    bd (uX10_isWho o0 v2 M58) (fun r63 =>
    if r63 = 0 then
      some ((-1), M58)
    else
      gK M58 10 o0 (
      bd (uX10_isMint o0 v3 M58) (fun r66 =>
      if r66 = 0 then
        some ((-1), M58)
      else
        bd (uX10_isIn v4 1 9999 M58) (fun r68 =>
        if r68 = 0 then
          some ((-1), M58)
        else
          if r57 = 0 then
            some ((-1), M58)
          else
            if 40 < r57 then
              some ((-1), M58)
            else
              gK M58 10 o0 (
              bd (uX10_isFull o0 r57 M58) (fun r73 =>
              if r73 = 0 then
                uX10_sale_b80 o0 v1 v2 v3 v4 r57 0 0 M58
              else
                some ((-1), M58)))))))))))))))

def uX10_payment (o0 : Nat) (v1 : Int) (v2 : Int) (v3 : Int) (v4 : Int) (M0 : Mm) : Option (Int × Mm) :=
  bd (pI M0 10 o0 0 0) (fun M1 =>
  gK M1 10 o0 (
  bd (uX10_lay o0 M1) (fun M3 =>
  gK M3 10 o0 (
  bd2 (uX10_layPayment o0 v1 v2 v3 v4 M3) (fun r5 M6 =>
  if r5 < 0 then
    some (r5, M6)
  else
    gK M6 10 o0 (
    bd (uX10_tellPaid o0 M6) (fun M9 =>
    some (r5, M9))))))))

def uX10_buy (o0 : Nat) (v1 : Int) (v2 : Int) (v3 : Int) (v4 : Int) (M0 : Mm) : Option (Int × Mm) :=
  bd (pI M0 10 o0 0 0) (fun M1 =>
  gK M1 10 o0 (
  bd (uX10_lay o0 M1) (fun M3 =>
  gK M3 10 o0 (
  bd2 (uX10_layPayment o0 v1 v2 v3 v4 M3) (fun r5 M6 =>
  if 0 ≤ r5 then
    gK M6 10 o0 (
    bd (uX10_tellPaid o0 M6) (fun M9 =>
    gK M9 10 o0 (
    bd (uX10_strokesToPay o0 M9) (fun r11 =>
    gK M9 10 o0 (
    bd (uX10_isFull o0 r11 M9) (fun r13 =>
    if r13 = 0 then
      gK M9 10 o0 (
      bd (uX10_snap o0 M9) (fun M16 =>
      gK M16 10 o0 (
      bd (uX10_pay o0 v1 v2 v3 v4 M16) (fun M18 =>
      some (r5, M18)))))
    else
      some ((-1), M9)))))))
  else
    some (r5, M6))))))

def uX10_market_b164 (v3 : Int) (M : Mm) : Option (Int × Mm) :=
  some (v3, M)
def uX10_market_b93 (o0 : Nat) (v1 : Int) (v3 : Int) (v4 : Int) (v5 : Int) (v6 : Int) (M : Mm) : Option ((Int × Int × Mm) ⊕ (Int × Mm)) :=
  gK M 10 o0 (
  bd (uX10_mints o0 M) (fun r2 =>
  gK M 10 o0 (
  bd2 (uX10_draw o0 r2 M) (fun r4 M5 =>
  gK M5 10 o0 (
  bd2 (uX10_draw o0 200 M5) (fun r7 M8 =>
  gK M8 10 o0 (
  bd2 (uX10_layPayment o0 v5 v6 r4 (w32 (r7 + 1)) M8) (fun r10 M11 =>
  if r10 < 0 then
    some (.inl (v3, w32 (v4 + 1), M11))
  else
    gK M11 10 o0 (
    bd (uX10_strokesToPay o0 M11) (fun r14 =>
    gK M11 10 o0 (
    bd (uX10_isFull o0 r14 M11) (fun r16 =>
    if r16 = 0 then
      gK M11 10 o0 (
      bd (uX10_pay o0 v5 v6 r4 (w32 (r7 + 1)) M11) (fun M19 =>
      some (.inl (w32 (v3 + 1), w32 (v4 + 1), M19))))
    else
      some (.inl (v3, w32 (v4 + 1), M11))))))))))))))
def uX10_market_s49 (o0 : Nat) (v1 : Int) (v3 : Int) (v4 : Int) (M : Mm) : Option ((Int × Int × Mm) ⊕ (Int × Mm)) :=
  if v1 ≤ v4 then
    some (.inr (v3, M))
  else
    gK M 10 o0 (
    bd (uX10_people o0 M) (fun r22 =>
    gK M 10 o0 (
    bd2 (uX10_draw o0 r22 M) (fun r24 M25 =>
    gK M25 10 o0 (
    bd (uX10_people o0 M25) (fun r27 =>
    gK M25 10 o0 (
    bd2 (uX10_draw o0 r27 M25) (fun r29 M30 =>
    if r29 = r24 then
      gK M30 10 o0 (
      bd (uX10_people o0 M30) (fun r33 =>
      bd (rem32 (w32 (r29 + 1)) r33) (fun x34 =>
      uX10_market_b93 o0 v1 v3 v4 r24 x34 M30)))
    else
      uX10_market_b93 o0 v1 v3 v4 r24 r29 M30))))))))
def uX10_market_f49 (o0 : Nat) (v1 : Int) (x : Int × Int × Mm) : Option ((Int × Int × Mm) ⊕ (Int × Mm)) := uX10_market_s49 o0 v1 x.1 x.2.1 x.2.2
def uX10_market_c49 (o0 : Nat) (v1 : Int) (b : Int × Mm) : Option (Int × Mm) := uX10_market_b164 b.1 b.2
def uX10_market_b49 (o0 : Nat) (v1 : Int) (v3 : Int) (v4 : Int) (M : Mm) : Option (Int × Mm) :=
  bd (lp (uX10_market_f49 o0 v1) fu (v3, v4, M)) (uX10_market_c49 o0 v1)
def uX10_market (o0 : Nat) (v1 : Int) (v2 : Int) (M0 : Mm) : Option (Int × Mm) :=
  bd (pI M0 10 o0 0 0) (fun M35 =>
  gK M35 10 o0 (
  bd (uX10_lay o0 M35) (fun M37 =>
  bd (uX10_isIn v1 1 50 M37) (fun r38 =>
  if r38 = 0 then
    some ((-1), M37)
  else
    gK M37 10 o0 (
    bd (uX10_people o0 M37) (fun r41 =>
    if r41 = 0 then
      some ((-1), M37)
    else
      gK M37 10 o0 (
      bd (uX10_mints o0 M37) (fun r44 =>
      if r44 = 0 then
        some ((-1), M37)
      else
        gK M37 10 o0 (
        bd (uX10_snap o0 M37) (fun M47 =>
        bd (pI M47 10 o0 41 v2) (fun M48 =>
        uX10_market_b49 o0 v1 0 0 M48)))))))))))

def uX10_said_b67 (v1 : Int) (v2 : Int) (M : Mm) : Option (Int × Mm) :=
  if v1 = (-1) then
    some (v2, M)
  else
    some ((-1), M)
def uX10_said_s25 (o0 : Nat) (v1 : Int) (M : Mm) (v2 : Int) (v3 : Int) : Option ((Int × Int) ⊕ ((Int) ⊕ (Int × Mm))) :=
  gK M 10 o0 (
  bd (uX10_coins o0 M) (fun r3 =>
  if r3 ≤ v3 then
    some (.inr (.inl v2))
  else
    bd (gR M 10 o0 14) (fun on5 =>
    bd (aI 12 M on5 117) (fun x6 =>
    gK M 10 o0 (
    bd (uX10_holds 64 o0 x6 v3 M) (fun r8 =>
    if r8 = 0 then
      some (.inl (v2, w32 (v3 + 1)))
    else
      if v2 = v1 then
        some (.inr (.inr (v3, M)))
      else
        some (.inl (w32 (v2 + 1), w32 (v3 + 1)))))))))
def uX10_said_f25 (o0 : Nat) (v1 : Int) (M : Mm) (x : Int × Int) : Option ((Int × Int) ⊕ ((Int) ⊕ (Int × Mm))) := uX10_said_s25 o0 v1 M x.1 x.2
def uX10_said_c25 (o0 : Nat) (v1 : Int) (M : Mm) (b : (Int) ⊕ (Int × Mm)) : Option (Int × Mm) := Sum.elim (fun b => uX10_said_b67 v1 b M) (fun t => some t) b
def uX10_said_b25 (o0 : Nat) (v1 : Int) (v2 : Int) (v3 : Int) (M : Mm) : Option (Int × Mm) :=
  bd (lp (uX10_said_f25 o0 v1 M) fu (v2, v3)) (uX10_said_c25 o0 v1 M)
def uX10_said (o0 : Nat) (v1 : Int) (M0 : Mm) : Option (Int × Mm) :=
  bd (pI M0 10 o0 0 0) (fun M11 =>
  gK M11 10 o0 (
  bd (uX10_lay o0 M11) (fun M13 =>
  bd (gR M13 10 o0 14) (fun on14 =>
  bd (aI 12 M13 on14 116) (fun x15 =>
  if x15 = 0 then
    some ((-1), M13)
  else
    uX10_said_b25 o0 v1 0 0 M13)))))

def uX10_readAnd_b51 (rc : Nat → Mm → Option (Int × Mm)) (o0 : Nat) (v1 : Int) (M : Mm) : Option (Int × Mm) :=
  bd (pI M 10 o0 46 v1) (fun M1 =>
  some (1, M1))
def uX10_readAnd_s14 (rc : Nat → Mm → Option (Int × Mm)) (o0 : Nat) (v1 : Int) (M : Mm) : Option ((Int × Mm) ⊕ ((Int × Mm) ⊕ (Int × Mm))) :=
  gK M 10 o0 (
  bd (uX10_isWord o0 10 M) (fun r3 =>
  if r3 = 0 then
    some (.inr (.inl (v1, M)))
  else
    gK M 10 o0 (
    bd (uX10_go o0 M) (fun M6 =>
    gK M6 10 o0 (
    bd2 (rc o0 M6) (fun r8 M9 =>
    if r8 = 0 then
      some (.inr (.inr (0, M9)))
    else
      bd (gI M9 10 o0 46) (fun x11 =>
      gK M9 10 o0 (
      bd2 (uX10_lays o0 2 v1 x11 0 M9) (fun r13 M14 =>
      some (.inl (r13, M14)))))))))))
def uX10_readAnd_f14 (rc : Nat → Mm → Option (Int × Mm)) (o0 : Nat) (x : Int × Mm) : Option ((Int × Mm) ⊕ ((Int × Mm) ⊕ (Int × Mm))) := uX10_readAnd_s14 rc o0 x.1 x.2
def uX10_readAnd_c14 (rc : Nat → Mm → Option (Int × Mm)) (o0 : Nat) (b : (Int × Mm) ⊕ (Int × Mm)) : Option (Int × Mm) := Sum.elim (fun b => uX10_readAnd_b51 rc o0 b.1 b.2) (fun t => some t) b
def uX10_readAnd_b14 (rc : Nat → Mm → Option (Int × Mm)) (o0 : Nat) (v1 : Int) (M : Mm) : Option (Int × Mm) :=
  bd (lp (uX10_readAnd_f14 rc o0) fu (v1, M)) (uX10_readAnd_c14 rc o0)
def uX10_readAnd (rc : Nat → Mm → Option (Int × Mm)) (o0 : Nat) (M0 : Mm) : Option (Int × Mm) :=
  gK M0 10 o0 (
  bd2 (rc o0 M0) (fun r16 M17 =>
  if r16 = 0 then
    some (0, M17)
  else
    bd (gI M17 10 o0 46) (fun x19 =>
    uX10_readAnd_b14 rc o0 x19 M17)))

def uX10_readOr_b51 (rc : Nat → Mm → Option (Int × Mm)) (o0 : Nat) (v1 : Int) (M : Mm) : Option (Int × Mm) :=
  bd (pI M 10 o0 46 v1) (fun M1 =>
  some (1, M1))
def uX10_readOr_s14 (rc : Nat → Mm → Option (Int × Mm)) (o0 : Nat) (v1 : Int) (M : Mm) : Option ((Int × Mm) ⊕ ((Int × Mm) ⊕ (Int × Mm))) :=
  gK M 10 o0 (
  bd (uX10_isWord o0 9 M) (fun r3 =>
  if r3 = 0 then
    some (.inr (.inl (v1, M)))
  else
    gK M 10 o0 (
    bd (uX10_go o0 M) (fun M6 =>
    gK M6 10 o0 (
    bd2 (uX10_readAnd rc o0 M6) (fun r8 M9 =>
    if r8 = 0 then
      some (.inr (.inr (0, M9)))
    else
      bd (gI M9 10 o0 46) (fun x11 =>
      gK M9 10 o0 (
      bd2 (uX10_lays o0 3 v1 x11 0 M9) (fun r13 M14 =>
      some (.inl (r13, M14)))))))))))
def uX10_readOr_f14 (rc : Nat → Mm → Option (Int × Mm)) (o0 : Nat) (x : Int × Mm) : Option ((Int × Mm) ⊕ ((Int × Mm) ⊕ (Int × Mm))) := uX10_readOr_s14 rc o0 x.1 x.2
def uX10_readOr_c14 (rc : Nat → Mm → Option (Int × Mm)) (o0 : Nat) (b : (Int × Mm) ⊕ (Int × Mm)) : Option (Int × Mm) := Sum.elim (fun b => uX10_readOr_b51 rc o0 b.1 b.2) (fun t => some t) b
def uX10_readOr_b14 (rc : Nat → Mm → Option (Int × Mm)) (o0 : Nat) (v1 : Int) (M : Mm) : Option (Int × Mm) :=
  bd (lp (uX10_readOr_f14 rc o0) fu (v1, M)) (uX10_readOr_c14 rc o0)
def uX10_readOr (rc : Nat → Mm → Option (Int × Mm)) (o0 : Nat) (M0 : Mm) : Option (Int × Mm) :=
  gK M0 10 o0 (
  bd2 (uX10_readAnd rc o0 M0) (fun r16 M17 =>
  if r16 = 0 then
    some (0, M17)
  else
    bd (gI M17 10 o0 46) (fun x19 =>
    uX10_readOr_b14 rc o0 x19 M17)))

def uX10_readBracket (rc : Nat → Mm → Option (Int × Mm)) (o0 : Nat) (M0 : Mm) : Option (Int × Mm) :=
  gK M0 10 o0 (
  bd2 (uX10_readOr rc o0 M0) (fun r2 M3 =>
  if r2 = 0 then
    some (0, M3)
  else
    gK M3 10 o0 (
    bd (uX10_isSign o0 41 M3) (fun r6 =>
    if r6 = 0 then
      gK M3 10 o0 (
      bd2 (uX10_bad o0 1 M3) (fun r11 M12 =>
      some (r11, M12)))
    else
      gK M3 10 o0 (
      bd (uX10_go o0 M3) (fun M9 =>
      some (1, M9)))))))

def uX10_readNot (rc : Nat → Mm → Option (Int × Mm)) (o0 : Nat) (M0 : Mm) : Option (Int × Mm) :=
  gK M0 10 o0 (
  bd2 (rc o0 M0) (fun r2 M3 =>
  if r2 = 0 then
    some (0, M3)
  else
    bd (gI M3 10 o0 46) (fun x5 =>
    gK M3 10 o0 (
    bd2 (uX10_lays o0 1 x5 0 0 M3) (fun r7 M8 =>
    bd (pI M8 10 o0 46 r7) (fun M9 =>
    some (1, M9)))))))

def uX10_readOne_b163 (rc : Nat → Mm → Option (Int × Mm)) (o0 : Nat) (v3 : Int) (M : Mm) : Option (Int × Mm) :=
  bd (gI M 10 o0 45) (fun x1 =>
  bd (pI M 10 o0 45 (w32 (x1 - 1))) (fun M2 =>
  some (v3, M2)))
def uX10_readOne_b162 (rc : Nat → Mm → Option (Int × Mm)) (o0 : Nat) (vs0 : Int) (M : Mm) : Option (Int × Mm) :=
  uX10_readOne_b163 rc o0 vs0 M
def uX10_readOne_b64 (rc : Nat → Mm → Option (Int × Mm)) (o0 : Nat) (M : Mm) : Option (Int × Mm) :=
  gK M 10 o0 (
  bd2 (uX10_bad o0 4 M) (fun r4 M5 =>
  some (r4, M5)))
def uX10_readOne_b46 (rc : Nat → Mm → Option (Int × Mm)) (o0 : Nat) (v1 : Int) (v2 : Int) (M : Mm) : Option (Int × Mm) :=
  bd (gI M 10 o0 44) (fun x6 =>
  if x6 = 20 then
    uX10_readOne_b64 rc o0 M
  else
    bd (gI M 10 o0 45) (fun x8 =>
    if x8 = 8 then
      uX10_readOne_b64 rc o0 M
    else
      bd (gI M 10 o0 44) (fun x10 =>
      bd (pI M 10 o0 44 (w32 (x10 + 1))) (fun M11 =>
      bd (gI M11 10 o0 45) (fun x12 =>
      bd (pI M11 10 o0 45 (w32 (x12 + 1))) (fun M13 =>
      gK M13 10 o0 (
      bd (uX10_go o0 M13) (fun M15 =>
      if v1 = 0 then
        if v2 = 11 then
          gK M15 10 o0 (
          bd2 (uX10_readNot rc o0 M15) (fun r31 M32 =>
          uX10_readOne_b163 rc o0 r31 M32))
        else
          if v2 = 15 then
            gK M15 10 o0 (
            bd2 (uX10_lays o0 4 0 0 0 M15) (fun r27 M28 =>
            bd (pI M28 10 o0 46 r27) (fun M29 =>
            uX10_readOne_b163 rc o0 1 M29)))
          else
            if 15 ≤ v2 then
              gK M15 10 o0 (
              bd2 (uX10_readCompare o0 v2 M15) (fun r21 M22 =>
              uX10_readOne_b162 rc o0 r21 M22))
            else
              gK M15 10 o0 (
              bd2 (uX10_readNamed o0 v2 M15) (fun r24 M25 =>
              uX10_readOne_b162 rc o0 r24 M25))
      else
        gK M15 10 o0 (
        bd2 (uX10_readBracket rc o0 M15) (fun r34 M35 =>
        uX10_readOne_b163 rc o0 r34 M35))))))))))
def uX10_readOne_b30 (rc : Nat → Mm → Option (Int × Mm)) (o0 : Nat) (v1 : Int) (v2 : Int) (M : Mm) : Option (Int × Mm) :=
  if v1 = 0 then
    if v2 ≤ 18 then
      uX10_readOne_b46 rc o0 v1 v2 M
    else
      gK M 10 o0 (
      bd2 (uX10_bad o0 1 M) (fun r39 M40 =>
      some (r39, M40)))
  else
    uX10_readOne_b46 rc o0 v1 v2 M
def uX10_readOne_s10 (rc : Nat → Mm → Option (Int × Mm)) (o0 : Nat) (v1 : Int) (M : Mm) (v2 : Int) : Option ((Int) ⊕ (Int)) :=
  if 18 < v2 then
    some (.inr v2)
  else
    gK M 10 o0 (
    bd (uX10_isWord o0 v2 M) (fun r43 =>
    if r43 = 0 then
      some (.inl (w32 (v2 + 1)))
    else
      some (.inr v2)))
def uX10_readOne_f10 (rc : Nat → Mm → Option (Int × Mm)) (o0 : Nat) (v1 : Int) (M : Mm) (x : Int) : Option ((Int) ⊕ (Int)) := uX10_readOne_s10 rc o0 v1 M x
def uX10_readOne_c10 (rc : Nat → Mm → Option (Int × Mm)) (o0 : Nat) (v1 : Int) (M : Mm) (b : Int) : Option (Int × Mm) := uX10_readOne_b30 rc o0 v1 b M
def uX10_readOne_b10 (rc : Nat → Mm → Option (Int × Mm)) (o0 : Nat) (v1 : Int) (v2 : Int) (M : Mm) : Option (Int × Mm) :=
  bd (lp (uX10_readOne_f10 rc o0 v1 M) fu v2) (uX10_readOne_c10 rc o0 v1 M)
def uX10_readOne_o (rc : Nat → Mm → Option (Int × Mm)) (o0 : Nat) (M0 : Mm) : Option (Int × Mm) :=
  gK M0 10 o0 (
  bd (uX10_isSign o0 40 M0) (fun r46 =>
  uX10_readOne_b10 rc o0 r46 11 M0))

def uX10_readOne : Nat → Nat → Mm → Option (Int × Mm)
  | 0 => fun _ _ => none
  | n + 1 => uX10_readOne_o (uX10_readOne n)
