def gn (N : Nat → Int32) (k : Nat) : Int := (N k).toInt
def gm (L : Nat → Int64) (k : Nat) : Int := (L k).toInt
theorem gi_gn (I : Mi) (a k : Nat) : gi I a k = gn (I a) k := rfl
theorem gj_gm (J : Mj) (a k : Nat) : gj J a k = gm (J a) k := rfl
theorem gn_rng (N : Nat → Int32) (k : Nat) : -2147483648 ≤ gn N k ∧ gn N k < 2147483648 := iv_rng _
def su (f : Int → Int) : Nat → Int
  | 0 => 0
  | n + 1 => su f n + f n
theorem su_step (f : Int → Int) {c : Int} (h : 0 ≤ c) : su f (c + 1).toNat = su f c.toNat + f c := by
  obtain ⟨n, rfl⟩ := Int.eq_ofNat_of_zero_le h
  rfl
section ROW6
variable {G : Gx} {σ : State} {p : Program} {l : Launch} {e : Env} {R : Room} {s : State} {m : MethodId} {args : Array Value} {below : List Frame} {meth : Method} {c : Code} {nL mc ms : Nat} {Q : Option Value → Mm → Prop} {M : Mm} {k n pc : Nat} {lv : List (Nat × Value)} {st : List Value}
theorem z_ivq {a : Int} (b : Int) (h : iv a = iv b) (kk : Jz G σ p l e R s m args below meth c nL mc ms Q M k n pc lv (.int (iv b) :: st)) : Jz G σ p l e R s m args below meth c nL mc ms Q M k n pc lv (.int (iv a) :: st) := by rw [h]; exact kk
end ROW6
/-- bounds of the reference's state -/
def NX (N : Nat → Int32) : Prop := ((0 ≤ gn N 3 ∧ gn N 3 ≤ 100) ∧ (0 ≤ gn N 4 ∧ gn N 4 ≤ 200) ∧ (0 ≤ gn N 5 ∧ gn N 5 ≤ 999) ∧ (0 ≤ gn N 6 ∧ gn N 6 ≤ 9) ∧ (∀ q : Int, 0 ≤ q → q < 4 → (0 ≤ gn N (32 + 3 * q + 0).toNat ∧ gn N (32 + 3 * q + 0).toNat ≤ 50) ∧ (0 ≤ gn N (32 + 3 * q + 1).toNat ∧ gn N (32 + 3 * q + 1).toNat ≤ 9))) ∧ (0 ≤ gn N 0 ∧ gn N 0 ≤ 8) ∧ (0 ≤ gn N 1 ∧ gn N 1 ≤ 4) ∧ (0 ≤ gn N 108 ∧ gn N 108 ≤ 40) ∧ (0 ≤ gn N 112 ∧ gn N 112 ≤ 360) ∧ (0 ≤ gn N 113 ∧ gn N 113 ≤ 360) ∧
  ∀ q : Int, 0 ≤ q → q < gn N 108 → (0 ≤ gn N (120 + 32 * q + 1).toNat ∧ gn N (120 + 32 * q + 1).toNat < gn N 0) ∧ (1 ≤ gn N (120 + 32 * q + 3).toNat ∧ gn N (120 + 32 * q + 3).toNat ≤ 9) ∧
    ∀ i : Int, 0 ≤ i → i < gn N (120 + 32 * q + 3).toNat → (0 ≤ gn N (120 + 32 * q + 4 + 3 * i).toNat ∧ gn N (120 + 32 * q + 4 + 3 * i).toNat < gn N 0) ∧ (0 ≤ gn N (120 + 32 * q + 4 + 3 * i + 2).toNat ∧ gn N (120 + 32 * q + 4 + 3 * i + 2).toNat < gn N 112)

section NXX
variable {I : Mi} {q i : Int}
theorem nx_lk (h : NX (I 59)) : 0 ≤ gi I 59 3 ∧ gi I 59 3 ≤ 100 := h.1.1
theorem nx_st (h : NX (I 59)) : (0 ≤ gi I 59 4 ∧ gi I 59 4 ≤ 200) ∧ (0 ≤ gi I 59 5 ∧ gi I 59 5 ≤ 999) ∧ (0 ≤ gi I 59 6 ∧ gi I 59 6 ≤ 9) := ⟨h.1.2.1, h.1.2.2.1, h.1.2.2.2.1⟩
theorem nx_ls (h : NX (I 59)) (h0 : 0 ≤ q) (h1 : q < 4) : (0 ≤ gi I 59 (32 + 3 * q + 0).toNat ∧ gi I 59 (32 + 3 * q + 0).toNat ≤ 50) ∧ (0 ≤ gi I 59 (32 + 3 * q + 1).toNat ∧ gi I 59 (32 + 3 * q + 1).toNat ≤ 9) := h.1.2.2.2.2 q h0 h1
theorem nx_p (h : NX (I 59)) : 0 ≤ gi I 59 0 ∧ gi I 59 0 ≤ 8 := h.2.1
theorem nx_m (h : NX (I 59)) : 0 ≤ gi I 59 1 ∧ gi I 59 1 ≤ 4 := h.2.2.1
theorem nx_c (h : NX (I 59)) : 0 ≤ gi I 59 108 ∧ gi I 59 108 ≤ 40 := h.2.2.2.1
theorem nx_s (h : NX (I 59)) : 0 ≤ gi I 59 112 ∧ gi I 59 112 ≤ 360 := h.2.2.2.2.1
theorem nx_sl (h : NX (I 59)) : 0 ≤ gi I 59 113 ∧ gi I 59 113 ≤ 360 := h.2.2.2.2.2.1
theorem nx_ow (h : NX (I 59)) (h0 : 0 ≤ q) (h1 : q < gi I 59 108) : 0 ≤ gi I 59 (120 + 32 * q + 1).toNat ∧ gi I 59 (120 + 32 * q + 1).toNat < gi I 59 0 := (h.2.2.2.2.2.2 q h0 h1).1
theorem nx_la (h : NX (I 59)) (h0 : 0 ≤ q) (h1 : q < gi I 59 108) : 1 ≤ gi I 59 (120 + 32 * q + 3).toNat ∧ gi I 59 (120 + 32 * q + 3).toNat ≤ 9 := (h.2.2.2.2.2.2 q h0 h1).2.1
theorem nx_fa (h : NX (I 59)) (h0 : 0 ≤ q) (h1 : q < gi I 59 108) (h2 : 0 ≤ i) (h3 : i < gi I 59 (120 + 32 * q + 3).toNat) : (0 ≤ gi I 59 (120 + 32 * q + 4 + 3 * i).toNat ∧ gi I 59 (120 + 32 * q + 4 + 3 * i).toNat < gi I 59 0) ∧ (0 ≤ gi I 59 (120 + 32 * q + 4 + 3 * i + 2).toNat ∧ gi I 59 (120 + 32 * q + 4 + 3 * i + 2).toNat < gi I 59 112) := (h.2.2.2.2.2.2 q h0 h1).2.2 i h2 h3
theorem nx_to (h : NX (I 59)) (h0 : 0 ≤ q) (h1 : q < gi I 59 108) : 0 ≤ gi I 59 (120 + 32 * q + 4).toNat ∧ gi I 59 (120 + 32 * q + 4).toNat < gi I 59 0 ∧ gi I 59 0 ≤ 8 := by
  have h2 := nx_la h h0 h1
  have h3 := (nx_fa h h0 h1 (Int.le_refl 0) (by omega)).1
  rw [show 120 + 32 * q + 4 + 3 * 0 = 120 + 32 * q + 4 by omega] at h3
  exact ⟨h3.1, h3.2, (nx_p h).2⟩
theorem su_bd {f : Int → Int} {a b : Int} (h : ∀ q : Int, a ≤ f q ∧ f q ≤ b) (n : Nat) : a * n ≤ su f n ∧ su f n ≤ b * n := by
  induction n with
  | zero => simp [su]
  | succ n ih =>
    have := h n
    unfold su
    have e1 : a * ((n + 1 : Nat) : Int) = a * n + a := by rw [Int.natCast_add, Int.mul_add]; simp
    have e2 : b * ((n + 1 : Nat) : Int) = b * n + b := by rw [Int.natCast_add, Int.mul_add]; simp
    omega
end NXX

set_option maxHeartbeats 4000000 in
set_option maxRecDepth 100000 in
theorem qX10_topOf {G : Gx} {σ : State} (hC : Cz G σ) {sh : Sh} {I : Mi} {J : Mj} (q : Int) (hS : St sh) (hc : 0 ≤ q ∧ q < 40) : Ce G σ 2 yX10_topOf cX10_topOf 2 (some .int) [.ref (G.2.2 + 57), .int (iv (q))] (sh, I, J) 0 0 (some (.int (iv (gi I 59 (120 + 32 * q + 4).toNat)))) (sh, I, J) := by
  refine Ct.of hC (by decide +kernel) (Nat.le_of_ble_eq_true rfl) ?_
  intro p l e R s m args below meth c C
  show Jz G σ p l e R s m args below meth c 2 0 0 (Qx (some (.int (iv (gi I 59 (120 + 32 * q + 4).toNat)))) (sh, I, J)) (sh, I, J) 0 0 0 [(0, .ref (G.2.2 + 57)), (1, .int (iv (q)))] []
  refine z_aload_n C dX10_topOf_0 0 rfl ?_
  refine z_iload_n C dX10_topOf_1 1 rfl ?_
  refine z_iconst C dX10_topOf_2 ?_
  refine z_cVi (st := []) C dX10_topOf_3 mX10_256 (kd_57 hS) (qX10_ofCoin hC q 4 hS (by omega) (by omega)) rfl rfl (Nat.le_of_ble_eq_true rfl) (by decide) ?_
  exact z_ireturnx C dX10_topOf_6 rfl rfl

noncomputable def gX10_wrongStroke (g0 : Int) (s0 : Int) (w : Int) (N59 : Nat → Int32) : Int :=
  if (gn N59 (32 + 3 * w + 2).toNat) ≤ 0 then
    if (gn N59 5) ≤ (g0 - (gn N59 (32 + 3 * w + 0).toNat)) then
      if s0 < (gn N59 6) then
        0
      else
        6
    else
      5
  else
    4
theorem gX10_wrongStroke_rng (g0 : Int) (s0 : Int) (w : Int) (N59 : Nat → Int32) : -2147483648 ≤ gX10_wrongStroke g0 s0 w N59 ∧ gX10_wrongStroke g0 s0 w N59 < 2147483648 := by
  unfold gX10_wrongStroke
  try simp only
  split
  ·
    split
    ·
      split
      ·
        decide
      ·
        decide
    ·
      decide
  ·
    decide
set_option maxHeartbeats 4000000 in
set_option maxRecDepth 100000 in
theorem qX10_wrongStroke {G : Gx} {σ : State} (hC : Cz G σ) {sh : Sh} {I : Mi} {J : Mj} (g0 s0 w : Int) (hS : St sh) (hw : 0 ≤ w ∧ w < 4) (rg : -1000000 ≤ g0 ∧ g0 ≤ 1000000) (ho : 0 ≤ gi I 59 (32 + 3 * w + 0).toNat ∧ gi I 59 (32 + 3 * w + 0).toNat ≤ 50) (rs0 : -2147483648 ≤ s0 ∧ s0 < 2147483648) : Ce G σ 2 yX10_wrongStroke cX10_wrongStroke 4 (some .int) [.ref (G.2.2 + 57), .int (iv (g0)), .int (iv (s0)), .int (iv (w))] (sh, I, J) 0 0 (some (.int (iv (gX10_wrongStroke g0 s0 w (I 59))))) (sh, I, J) := by
  refine Ct.of hC (by decide +kernel) (Nat.le_of_ble_eq_true rfl) ?_
  intro p l e R s m args below meth c C
  show Jz G σ p l e R s m args below meth c 4 0 0 (Qx (some (.int (iv (gX10_wrongStroke g0 s0 w (I 59))))) (sh, I, J)) (sh, I, J) 0 0 0 [(0, .ref (G.2.2 + 57)), (1, .int (iv (g0))), (2, .int (iv (s0))), (3, .int (iv (w)))] []
  refine z_aload_n C dX10_wrongStroke_0 0 rfl ?_
  refine z_iload_n C dX10_wrongStroke_1 3 rfl ?_
  refine z_iconst C dX10_wrongStroke_2 ?_
  refine z_cVi (st := []) C dX10_wrongStroke_3 mX10_262 (kd_57 hS) (qX10_ofMint hC w 2 hS (by omega) (by omega)) rfl rfl (Nat.le_of_ble_eq_true rfl) (by decide) ?_
  refine z_if_le 13 C dX10_wrongStroke_6 (by decide) (gi_rng _ _ _) (fun h1 => ?_) (fun h1 => ?_)
  ·
    refine z_iload_n C dX10_wrongStroke_13 1 rfl ?_
    refine z_aload_n C dX10_wrongStroke_14 0 rfl ?_
    refine z_iload_n C dX10_wrongStroke_15 3 rfl ?_
    refine z_iconst C dX10_wrongStroke_16 ?_
    refine z_cVi (st := [.int (iv (g0))]) C dX10_wrongStroke_17 mX10_262 (kd_57 hS) (qX10_ofMint hC w 0 hS (by omega) (by omega)) rfl rfl (Nat.le_of_ble_eq_true rfl) (by decide) ?_
    refine z_isub C dX10_wrongStroke_20 ?_
    refine z_aload_n C dX10_wrongStroke_21 0 rfl ?_
    refine z_getR C dX10_wrongStroke_22 fX10_13 rfl (kd_57 hS) (r_57_14 hS) ?_
    refine z_iconst C dX10_wrongStroke_25 ?_
    refine z_iald (q := 5) C dX10_wrongStroke_26 (ka_59 hS) rfl (by decide) ?_
    refine z_icmp_ge 34 C dX10_wrongStroke_27 (by decide) (by have := gi_rng I 59 (32 + 3 * w + 0).toNat; omega) (gi_rng _ _ _) (fun h2 => ?_) (fun h2 => ?_)
    ·
      refine z_iload_n C dX10_wrongStroke_34 2 rfl ?_
      refine z_aload_n C dX10_wrongStroke_35 0 rfl ?_
      refine z_getR C dX10_wrongStroke_36 fX10_13 rfl (kd_57 hS) (r_57_14 hS) ?_
      refine z_bipush C dX10_wrongStroke_39 (by decide) ?_
      refine z_iald (q := 6) C dX10_wrongStroke_41 (ka_59 hS) rfl (by decide) ?_
      refine z_icmp_lt 50 C dX10_wrongStroke_42 (by decide) (by omega) (gi_rng _ _ _) (fun h3 => ?_) (fun h3 => ?_)
      ·
        refine z_iconst C dX10_wrongStroke_50 ?_
        have hf4 : gX10_wrongStroke g0 s0 w (I 59) = 0 := (by exact (Eq.trans (if_pos h1) (Eq.trans (if_pos h2) (Eq.trans (if_pos h3) rfl))))
        exact z_ireturnx C dX10_wrongStroke_51 hf4.symm rfl
      ·
        refine z_bipush C dX10_wrongStroke_45 (by decide) ?_
        refine z_goto 51 C dX10_wrongStroke_47 (by decide) ?_
        have hf5 : gX10_wrongStroke g0 s0 w (I 59) = 6 := (by exact (Eq.trans (if_pos h1) (Eq.trans (if_pos h2) (Eq.trans (if_neg h3) rfl))))
        exact z_ireturnx C dX10_wrongStroke_51 hf5.symm rfl
    ·
      refine z_iconst C dX10_wrongStroke_30 ?_
      refine z_goto 51 C dX10_wrongStroke_31 (by decide) ?_
      have hf6 : gX10_wrongStroke g0 s0 w (I 59) = 5 := (by exact (Eq.trans (if_pos h1) (Eq.trans (if_neg h2) rfl)))
      exact z_ireturnx C dX10_wrongStroke_51 hf6.symm rfl
  ·
    refine z_iconst C dX10_wrongStroke_9 ?_
    refine z_goto 51 C dX10_wrongStroke_10 (by decide) ?_
    have hf7 : gX10_wrongStroke g0 s0 w (I 59) = 4 := (by exact (Eq.trans (if_neg h1) rfl))
    exact z_ireturnx C dX10_wrongStroke_51 hf7.symm rfl

noncomputable def gX10_hundredths (w : Int) (t : Int) (lk : Int) (N59 : Nat → Int32) : Int :=
  if t = w then
    100
  else
    if (gn N59 (8 + 3 * t + 1).toNat) ≤ 0 then
      if (gn N59 (8 + 3 * t + 2).toNat) ≤ 0 then
        if (gn N59 (((44 + (8 * w)) + t).toNat)) = 0 then
          if (gn N59 (8 + 3 * t + 0).toNat) ≤ 0 then
            100
          else
            w32 (100 + lk)
        else
          match (gn N59 (((44 + (8 * w)) + t).toNat)) - 1 with
          | x5 =>
            if (gn N59 (8 + 3 * t + 0).toNat) ≤ 0 then
              w32 (x5)
            else
              w32 (x5 + lk)
      else
        if (gn N59 (8 + 3 * t + 0).toNat) ≤ 0 then
          gn N59 4
        else
          w32 ((gn N59 4) + lk)
    else
      0
theorem gX10_hundredths_rng (w : Int) (t : Int) (lk : Int) (N59 : Nat → Int32) : -2147483648 ≤ gX10_hundredths w t lk N59 ∧ gX10_hundredths w t lk N59 < 2147483648 := by
  unfold gX10_hundredths
  try simp only
  split
  ·
    decide
  ·
    split
    ·
      split
      ·
        split
        ·
          split
          ·
            decide
          ·
            exact w32_rng _
        ·
          split
          ·
            exact w32_rng _
          ·
            exact w32_rng _
      ·
        split
        ·
          exact gn_rng _ _
        ·
          exact w32_rng _
    ·
      decide
set_option maxHeartbeats 4000000 in
set_option maxRecDepth 100000 in
theorem qX10_hundredths {G : Gx} {σ : State} (hC : Cz G σ) {sh : Sh} {I : Mi} {J : Mj} (w t lk : Int) (hS : St sh) (hw : 0 ≤ w ∧ w < 8) (ht : 0 ≤ t ∧ t < 8) (rlk : -2147483648 ≤ lk ∧ lk < 2147483648) : Ce G σ 2 yX10_hundredths cX10_hundredths 6 (some .int) [.ref (G.2.2 + 57), .int (iv (w)), .int (iv (t)), .int (iv (lk))] (sh, I, J) 0 0 (some (.int (iv (gX10_hundredths w t lk (I 59))))) (sh, I, J) := by
  refine Ct.of hC (by decide +kernel) (Nat.le_of_ble_eq_true rfl) ?_
  intro p l e R s m args below meth c C
  show Jz G σ p l e R s m args below meth c 6 0 0 (Qx (some (.int (iv (gX10_hundredths w t lk (I 59))))) (sh, I, J)) (sh, I, J) 0 0 0 [(0, .ref (G.2.2 + 57)), (1, .int (iv (w))), (2, .int (iv (t))), (3, .int (iv (lk)))] []
  refine z_iload_n C dX10_hundredths_0 2 rfl ?_
  refine z_iload_n C dX10_hundredths_1 1 rfl ?_
  refine z_icmp_ne 8 C dX10_hundredths_2 (by decide) (by omega) (by omega) (fun h1 => ?_) (fun h1 => ?_)
  ·
    refine z_aload_n C dX10_hundredths_8 0 rfl ?_
    refine z_iload_n C dX10_hundredths_9 2 rfl ?_
    refine z_iconst C dX10_hundredths_10 ?_
    refine z_cVi (st := []) C dX10_hundredths_11 mX10_249 (kd_57 hS) (qX10_ofWho hC t 1 hS (by omega) (by omega)) rfl rfl (Nat.le_of_ble_eq_true rfl) (by decide) ?_
    refine z_if_le 19 C dX10_hundredths_14 (by decide) (gi_rng _ _ _) (fun h2 => ?_) (fun h2 => ?_)
    ·
      refine z_aload_n C dX10_hundredths_19 0 rfl ?_
      refine z_getR C dX10_hundredths_20 fX10_13 rfl (kd_57 hS) (r_57_14 hS) ?_
      refine z_bipush C dX10_hundredths_23 (by decide) ?_
      refine z_bipush C dX10_hundredths_25 (by decide) ?_
      refine z_iload_n C dX10_hundredths_27 1 rfl ?_
      refine z_imul C dX10_hundredths_28 ?_
      refine z_iadd C dX10_hundredths_29 ?_
      refine z_iload_n C dX10_hundredths_30 2 rfl ?_
      refine z_iadd C dX10_hundredths_31 ?_
      refine z_iald (q := ((44 + (8 * w)) + t).toNat) C dX10_hundredths_32 (ka_59 hS) (by omega) (by omega) ?_
      refine z_istore (lv' := [(0, .ref (G.2.2 + 57)), (1, .int (iv (w))), (2, .int (iv (t))), (3, .int (iv (lk))), (4, .int (iv (gi I 59 (((44 + (8 * w)) + t).toNat))))]) C dX10_hundredths_33 (by decide) [1, 2, 3, 4, 0] rfl ?_
      refine z_aload_n C dX10_hundredths_35 0 rfl ?_
      refine z_iload_n C dX10_hundredths_36 2 rfl ?_
      refine z_iconst C dX10_hundredths_37 ?_
      refine z_cVi (st := []) C dX10_hundredths_38 mX10_249 (kd_57 hS) (qX10_ofWho hC t 2 hS (by omega) (by omega)) rfl rfl (Nat.le_of_ble_eq_true rfl) (by decide) ?_
      refine z_if_le 53 C dX10_hundredths_41 (by decide) (gi_rng _ _ _) (fun h3 => ?_) (fun h3 => ?_)
      ·
        refine z_iload C dX10_hundredths_53 4 rfl ?_
        refine z_if_ne 63 C dX10_hundredths_55 (by decide) (gi_rng _ _ _) (fun h4 => ?_) (fun h4 => ?_)
        ·
          refine z_iload C dX10_hundredths_63 4 rfl ?_
          refine z_iconst C dX10_hundredths_65 ?_
          refine z_isub C dX10_hundredths_66 ?_
          refine z_nami (fun x5 hx5 => ?_)
          refine z_istore (lv' := [(0, .ref (G.2.2 + 57)), (1, .int (iv (w))), (2, .int (iv (t))), (3, .int (iv (lk))), (4, .int (iv (gi I 59 (((44 + (8 * w)) + t).toNat)))), (5, .int (iv (x5)))]) C dX10_hundredths_67 (by decide) [1, 2, 3, 4, 5, 0] rfl ?_
          refine z_aload_n C dX10_hundredths_69 0 rfl ?_
          refine z_iload_n C dX10_hundredths_70 2 rfl ?_
          refine z_iconst C dX10_hundredths_71 ?_
          refine z_cVi (st := []) C dX10_hundredths_72 mX10_249 (kd_57 hS) (qX10_ofWho hC t 0 hS (by omega) (by omega)) rfl rfl (Nat.le_of_ble_eq_true rfl) (by decide) ?_
          refine z_if_le 85 C dX10_hundredths_75 (by decide) (gi_rng _ _ _) (fun h6 => ?_) (fun h6 => ?_)
          ·
            refine z_iload C dX10_hundredths_85 5 rfl ?_
            refine z_ivq (w32 (x5)) (iv_w32 _).symm ?_
            have hf7 : gX10_hundredths w t lk (I 59) = w32 (x5) := (by subst hx5; exact (Eq.trans (if_neg h1) (Eq.trans (if_pos h2) (Eq.trans (if_pos h3) (Eq.trans (if_neg h4) (Eq.trans (if_pos h6) rfl))))))
            exact z_ireturnx C dX10_hundredths_87 hf7.symm rfl
          ·
            refine z_iload C dX10_hundredths_78 5 rfl ?_
            refine z_iload_n C dX10_hundredths_80 3 rfl ?_
            refine z_iadd C dX10_hundredths_81 ?_
            refine z_goto 87 C dX10_hundredths_82 (by decide) ?_
            refine z_ivq (w32 (x5 + lk)) (iv_w32 _).symm ?_
            have hf8 : gX10_hundredths w t lk (I 59) = w32 (x5 + lk) := (by subst hx5; exact (Eq.trans (if_neg h1) (Eq.trans (if_pos h2) (Eq.trans (if_pos h3) (Eq.trans (if_neg h4) (Eq.trans (if_neg h6) rfl))))))
            exact z_ireturnx C dX10_hundredths_87 hf8.symm rfl
        ·
          refine z_bipush C dX10_hundredths_58 (by decide) ?_
          refine z_goto 67 C dX10_hundredths_60 (by decide) ?_
          refine z_istore (lv' := [(0, .ref (G.2.2 + 57)), (1, .int (iv (w))), (2, .int (iv (t))), (3, .int (iv (lk))), (4, .int (iv (gi I 59 (((44 + (8 * w)) + t).toNat)))), (5, .int (iv (100)))]) C dX10_hundredths_67 (by decide) [1, 2, 3, 4, 5, 0] rfl ?_
          refine z_aload_n C dX10_hundredths_69 0 rfl ?_
          refine z_iload_n C dX10_hundredths_70 2 rfl ?_
          refine z_iconst C dX10_hundredths_71 ?_
          refine z_cVi (st := []) C dX10_hundredths_72 mX10_249 (kd_57 hS) (qX10_ofWho hC t 0 hS (by omega) (by omega)) rfl rfl (Nat.le_of_ble_eq_true rfl) (by decide) ?_
          refine z_if_le 85 C dX10_hundredths_75 (by decide) (gi_rng _ _ _) (fun h9 => ?_) (fun h9 => ?_)
          ·
            refine z_iload C dX10_hundredths_85 5 rfl ?_
            have hf10 : gX10_hundredths w t lk (I 59) = 100 := (by exact (Eq.trans (if_neg h1) (Eq.trans (if_pos h2) (Eq.trans (if_pos h3) (Eq.trans (if_pos h4) (Eq.trans (if_pos h9) rfl))))))
            exact z_ireturnx C dX10_hundredths_87 hf10.symm rfl
          ·
            refine z_iload C dX10_hundredths_78 5 rfl ?_
            refine z_iload_n C dX10_hundredths_80 3 rfl ?_
            refine z_iadd C dX10_hundredths_81 ?_
            refine z_goto 87 C dX10_hundredths_82 (by decide) ?_
            refine z_ivq (w32 (100 + lk)) (iv_w32 _).symm ?_
            have hf11 : gX10_hundredths w t lk (I 59) = w32 (100 + lk) := (by exact (Eq.trans (if_neg h1) (Eq.trans (if_pos h2) (Eq.trans (if_pos h3) (Eq.trans (if_pos h4) (Eq.trans (if_neg h9) rfl))))))
            exact z_ireturnx C dX10_hundredths_87 hf11.symm rfl
      ·
        refine z_aload_n C dX10_hundredths_44 0 rfl ?_
        refine z_getR C dX10_hundredths_45 fX10_13 rfl (kd_57 hS) (r_57_14 hS) ?_
        refine z_iconst C dX10_hundredths_48 ?_
        refine z_iald (q := 4) C dX10_hundredths_49 (ka_59 hS) rfl (by decide) ?_
        refine z_goto 67 C dX10_hundredths_50 (by decide) ?_
        refine z_istore (lv' := [(0, .ref (G.2.2 + 57)), (1, .int (iv (w))), (2, .int (iv (t))), (3, .int (iv (lk))), (4, .int (iv (gi I 59 (((44 + (8 * w)) + t).toNat)))), (5, .int (iv (gi I 59 4)))]) C dX10_hundredths_67 (by decide) [1, 2, 3, 4, 5, 0] rfl ?_
        refine z_aload_n C dX10_hundredths_69 0 rfl ?_
        refine z_iload_n C dX10_hundredths_70 2 rfl ?_
        refine z_iconst C dX10_hundredths_71 ?_
        refine z_cVi (st := []) C dX10_hundredths_72 mX10_249 (kd_57 hS) (qX10_ofWho hC t 0 hS (by omega) (by omega)) rfl rfl (Nat.le_of_ble_eq_true rfl) (by decide) ?_
        refine z_if_le 85 C dX10_hundredths_75 (by decide) (gi_rng _ _ _) (fun h12 => ?_) (fun h12 => ?_)
        ·
          refine z_iload C dX10_hundredths_85 5 rfl ?_
          have hf13 : gX10_hundredths w t lk (I 59) = gi I 59 4 := (by exact (Eq.trans (if_neg h1) (Eq.trans (if_pos h2) (Eq.trans (if_neg h3) (Eq.trans (if_pos h12) rfl)))))
          exact z_ireturnx C dX10_hundredths_87 hf13.symm rfl
        ·
          refine z_iload C dX10_hundredths_78 5 rfl ?_
          refine z_iload_n C dX10_hundredths_80 3 rfl ?_
          refine z_iadd C dX10_hundredths_81 ?_
          refine z_goto 87 C dX10_hundredths_82 (by decide) ?_
          refine z_ivq (w32 ((gi I 59 4) + lk)) (iv_w32 _).symm ?_
          have hf14 : gX10_hundredths w t lk (I 59) = w32 ((gi I 59 4) + lk) := (by exact (Eq.trans (if_neg h1) (Eq.trans (if_pos h2) (Eq.trans (if_neg h3) (Eq.trans (if_neg h12) rfl)))))
          exact z_ireturnx C dX10_hundredths_87 hf14.symm rfl
    ·
      refine z_iconst C dX10_hundredths_17 ?_
      have hf15 : gX10_hundredths w t lk (I 59) = 0 := (by exact (Eq.trans (if_neg h1) (Eq.trans (if_neg h2) rfl)))
      exact z_ireturnx C dX10_hundredths_18 hf15.symm rfl
  ·
    refine z_bipush C dX10_hundredths_5 (by decide) ?_
    have hf16 : gX10_hundredths w t lk (I 59) = 100 := (by exact (Eq.trans (if_pos h1) rfl))
    exact z_ireturnx C dX10_hundredths_7 hf16.symm rfl

noncomputable def gX10_luckOf (N59 : Nat → Int32) : Int :=
  match (gn N59 3) + su (fun q => if gn N59 (8 + 3 * gn N59 (120 + 32 * q + 4).toNat + 0).toNat ≤ 0 then 0 else -1) (gn N59 108).toNat with
  | n0 =>
    if n0 ≤ 0 then
      0
    else
      w32 (n0)
theorem gX10_luckOf_rng (N59 : Nat → Int32) : -2147483648 ≤ gX10_luckOf N59 ∧ gX10_luckOf N59 < 2147483648 := by
  unfold gX10_luckOf
  try simp only
  split
  ·
    decide
  ·
    exact w32_rng _
set_option maxHeartbeats 4000000 in
set_option maxRecDepth 100000 in
theorem qX10_luckOf {G : Gx} {σ : State} (hC : Cz G σ) {sh : Sh} {I : Mi} {J : Mj}  (hS : St sh) (hn : NX (I 59)) : Ce G σ 3 yX10_luckOf cX10_luckOf 3 (some .int) [.ref (G.2.2 + 57)] (sh, I, J) 0 0 (some (.int (iv (gX10_luckOf (I 59))))) (sh, I, J) := by
  refine Ct.of hC (by decide +kernel) (Nat.le_of_ble_eq_true rfl) ?_
  intro p l e R s m args below meth c C
  show Jz G σ p l e R s m args below meth c 3 0 0 (Qx (some (.int (iv (gX10_luckOf (I 59))))) (sh, I, J)) (sh, I, J) 0 0 0 [(0, .ref (G.2.2 + 57))] []
  have hn0 := nx_c hn
  have hk0 := nx_lk hn
  refine z_aload_n C dX10_luckOf_0 0 rfl ?_
  refine z_getR C dX10_luckOf_1 fX10_13 rfl (kd_57 hS) (r_57_14 hS) ?_
  refine z_iconst C dX10_luckOf_4 ?_
  refine z_iald (q := 3) C dX10_luckOf_5 (ka_59 hS) rfl (by decide) ?_
  refine z_istore_n (lv' := [(0, .ref (G.2.2 + 57)), (1, .int (iv (gi I 59 3)))]) C dX10_luckOf_6 rfl (by decide) [1, 0] rfl ?_
  refine z_iconst C dX10_luckOf_7 ?_
  refine z_istore_n (lv' := [(0, .ref (G.2.2 + 57)), (1, .int (iv (gi I 59 3))), (2, .int (iv (0)))]) C dX10_luckOf_8 rfl (by decide) [1, 2, 0] rfl ?_
  have hE4 : ∀ (n0 : Int), n0 = (gi I 59 3) + su (fun q => if gi I 59 (8 + 3 * gi I 59 (120 + 32 * q + 4).toNat + 0).toNat ≤ 0 then 0 else -1) (gi I 59 108).toNat → Jz G σ p l e R s m args below meth c 3 0 0 (Qx (some (.int (iv (gX10_luckOf (I 59))))) (sh, I, J)) (sh, I, J) 0 0 39 [(0, .ref (G.2.2 + 57)), (1, .int (iv (n0)))] [] := by
    intro n0 hxn0
    have hbd := su_bd (f := fun q => if gi I 59 (8 + 3 * gi I 59 (120 + 32 * q + 4).toNat + 0).toNat ≤ 0 then 0 else -1) (a := -1) (b := 0) (fun q => by split <;> decide) (gi I 59 108).toNat
    refine z_iload_n C dX10_luckOf_39 1 rfl ?_
    refine z_if_le 47 C dX10_luckOf_40 (by decide) (by omega) (fun h5 => ?_) (fun h5 => ?_)
    ·
      refine z_iconst C dX10_luckOf_47 ?_
      have hf6 : gX10_luckOf (I 59) = 0 := (by subst hxn0; exact (Eq.trans (if_pos h5) rfl))
      exact z_ireturnx C dX10_luckOf_48 hf6.symm rfl
    ·
      refine z_iload_n C dX10_luckOf_43 1 rfl ?_
      refine z_goto 48 C dX10_luckOf_44 (by decide) ?_
      refine z_ivq (w32 (n0)) (iv_w32 _).symm ?_
      have hf7 : gX10_luckOf (I 59) = w32 (n0) := (by subst hxn0; exact (Eq.trans (if_neg h5) rfl))
      exact z_ireturnx C dX10_luckOf_48 hf7.symm rfl
  have hL2 : ∀ (N1 : Nat) (q : Int) (n0 : Int), (0 ≤ q ∧ q ≤ gi I 59 108) → n0 = (gi I 59 3) + su (fun q => if gi I 59 (8 + 3 * gi I 59 (120 + 32 * q + 4).toNat + 0).toNat ≤ 0 then 0 else -1) q.toNat → (gi I 59 108 - q).toNat < N1 → Jz G σ p l e R s m args below meth c 3 0 0 (Qx (some (.int (iv (gX10_luckOf (I 59))))) (sh, I, J)) (sh, I, J) 0 0 9 [(0, .ref (G.2.2 + 57)), (1, .int (iv (n0))), (2, .int (iv (q)))] [] := by
    intro N1
    induction N1 with
    | zero => intro q n0 hq hnn0 hm; exact absurd hm (Nat.not_lt_zero _)
    | succ N1 ih3 =>
      intro q n0 hq hnn0 hm
      refine z_iload_n C dX10_luckOf_9 2 rfl ?_
      refine z_aload_n C dX10_luckOf_10 0 rfl ?_
      refine z_cVi (st := [.int (iv (q))]) C dX10_luckOf_11 mX10_188 (kd_57 hS) (qX10_coins hC  hS) rfl rfl (Nat.le_of_ble_eq_true rfl) (by decide) ?_
      refine z_icmp_ge 39 C dX10_luckOf_14 (by decide) (by omega) (gi_rng _ _ _) (fun h8 => ?_) (fun h8 => ?_)
      ·
        have hcl : q = gi I 59 108 := by omega
        refine z_drop (lv' := [(0, .ref (G.2.2 + 57)), (1, .int (iv (n0)))]) [0, 1] rfl ?_
        exact hE4 n0 (by rw [hnn0, hcl])
      ·
        have hq9 := nx_to hn hq.1 (by omega)
        refine z_aload_n C dX10_luckOf_17 0 rfl ?_
        refine z_aload_n C dX10_luckOf_18 0 rfl ?_
        refine z_iload_n C dX10_luckOf_19 2 rfl ?_
        refine z_cVi (st := [.ref (G.2.2 + 57)]) C dX10_luckOf_20 mX10_253 (kd_57 hS) (qX10_topOf hC q hS (by omega)) rfl rfl (Nat.le_of_ble_eq_true rfl) (by decide) ?_
        refine z_iconst C dX10_luckOf_23 ?_
        refine z_cVi (st := []) C dX10_luckOf_24 mX10_249 (kd_57 hS) (qX10_ofWho hC (gi I 59 (120 + 32 * q + 4).toNat) 0 hS (by have := gi_rng I 59 ((120 + 32 * q + 4).toNat); have := gi_rng I 59 (120 + 32 * q + 4).toNat; omega) (by have := gi_rng I 59 ((120 + 32 * q + 4).toNat); have := gi_rng I 59 (120 + 32 * q + 4).toNat; omega)) rfl rfl (Nat.le_of_ble_eq_true rfl) (by decide) ?_
        refine z_if_le 33 C dX10_luckOf_27 (by decide) (gi_rng _ _ _) (fun h9 => ?_) (fun h9 => ?_)
        ·
          refine z_iinc (lv' := [(0, .ref (G.2.2 + 57)), (1, .int (iv (n0))), (2, .int (iv (q + 1)))]) C dX10_luckOf_33 2 rfl (by decide) [1, 2, 0] rfl ?_
          refine z_goto 9 C dX10_luckOf_36 (by decide) ?_
          exact ih3 (q + 1) n0 (by omega) (by rw [su_step _ hq.1, ← Int.add_assoc, ← hnn0]; (try simp only [b2, if_neg h8, if_pos h9]) <;> omega)  (by omega)
        ·
          refine z_iinc (lv' := [(0, .ref (G.2.2 + 57)), (1, .int (iv (n0 + (-1)))), (2, .int (iv (q)))]) C dX10_luckOf_30 1 rfl (by decide) [1, 0, 2] rfl ?_
          refine z_iinc (lv' := [(0, .ref (G.2.2 + 57)), (1, .int (iv (n0 + (-1)))), (2, .int (iv (q + 1)))]) C dX10_luckOf_33 2 rfl (by decide) [1, 2, 0] rfl ?_
          refine z_goto 9 C dX10_luckOf_36 (by decide) ?_
          exact ih3 (q + 1) (n0 + (-1)) (by omega) (by rw [su_step _ hq.1, ← Int.add_assoc, ← hnn0]; (try simp only [b2, if_neg h8, if_neg h9]) <;> omega)  (by omega)
  exact hL2 _ (0) (gi I 59 3) (by omega) (by simp [su])  (Nat.lt_succ_self _)

