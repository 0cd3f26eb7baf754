def orI (a b : Int) : Int := ((a.toNat ||| b.toNat : Nat) : Int)
theorem orI_eq {a b : Int} (ha : 0 ≤ a ∧ a < 2147483648) (hb : 0 ≤ b ∧ b < 2147483648) : iv a ||| iv b = iv (orI a b) := iv_or ha hb
def shC (N : Nat → Int32) (a k : Int) (i : Int) : Bool := decide (i < gn N (120 + 32 * a + 3).toNat ∧ ¬ gn N (120 + 32 * a + (4 + 3 * i + 2)).toNat = k)
def inc1 (i : Int) : Int := i + 1
theorem mulb {a b : Int} (ha : 0 ≤ a ∧ a ≤ 9999) (hb : 0 ≤ b ∧ b ≤ 1000) : 0 ≤ a * b ∧ a * b < 2147483648 := by
  have h1 := Int.mul_nonneg ha.1 hb.1
  have h2 : a * b ≤ 9999 * 1000 := Int.mul_le_mul ha.2 hb.2 hb.1 (by decide)
  omega

noncomputable def gX10_isShown (v : Int) (N59 : Nat → Int32) : Int :=
  match wh (shC N59 (gn N59 (1400 + 6 * v).toNat) v) inc1 ((gn N59 (120 + 32 * gn N59 (1400 + 6 * v).toNat + 3).toNat - 0).toNat + 1) 0 with
  | i =>
    if i < gn N59 (120 + 32 * gn N59 (1400 + 6 * v).toNat + 3).toNat then
      1
    else
      0
theorem gX10_isShown_rng (v : Int) (N59 : Nat → Int32) : -2147483648 ≤ gX10_isShown v N59 ∧ gX10_isShown v N59 < 2147483648 := by
  unfold gX10_isShown
  try simp only
  split
  ·
    decide
  ·
    decide
set_option maxHeartbeats 4000000 in
set_option maxRecDepth 100000 in
theorem qX10_isShown {G : Gx} {σ : State} (hC : Cz G σ) {sh : Sh} {I : Mi} {J : Mj} (v : Int) (hS : St sh) (hn : NX (I 59)) (hv : 0 ≤ v ∧ v < gi I 59 112) (hk : 0 ≤ gi I 59 (1400 + 6 * v).toNat ∧ gi I 59 (1400 + 6 * v).toNat < gi I 59 108) : Ce G σ 2 yX10_isShown cX10_isShown 4 (some .int) [.ref (G.2.2 + 57), .int (iv (v))] (sh, I, J) 0 0 (some (.int (iv (gX10_isShown v (I 59))))) (sh, I, J) := by
  refine Ct.of hC (by decide +kernel) (Nat.le_of_ble_eq_true rfl) ?_
  intro p l e R s m args below meth c C
  show Jz G σ p l e R s m args below meth c 4 0 0 (Qx (some (.int (iv (gX10_isShown v (I 59))))) (sh, I, J)) (sh, I, J) 0 0 0 [(0, .ref (G.2.2 + 57)), (1, .int (iv (v)))] []
  have hn0 := nx_c hn
  have hn1 := nx_p hn
  have hn2 := nx_m hn
  have hn3 := nx_s hn
  have hn4 := nx_sl hn
  have hla := nx_la hn hk.1 hk.2
  refine z_aload_n C dX10_isShown_0 0 rfl ?_
  refine z_getR C dX10_isShown_1 fX10_13 rfl (kd_57 hS) (r_57_14 hS) ?_
  refine z_sipush C dX10_isShown_4 (by decide) ?_
  refine z_bipush C dX10_isShown_7 (by decide) ?_
  refine z_iload_n C dX10_isShown_9 1 rfl ?_
  refine z_imul C dX10_isShown_10 ?_
  refine z_iadd C dX10_isShown_11 ?_
  refine z_iald (q := (1400 + (6 * v)).toNat) C dX10_isShown_12 (ka_59 hS) (by omega) (by omega) ?_
  refine z_istore_n (lv' := [(0, .ref (G.2.2 + 57)), (1, .int (iv (v))), (2, .int (iv (gi I 59 ((1400 + (6 * v)).toNat))))]) C dX10_isShown_13 rfl (by decide) [1, 2, 0] rfl ?_
  refine z_iconst C dX10_isShown_14 ?_
  refine z_istore_n (lv' := [(0, .ref (G.2.2 + 57)), (1, .int (iv (v))), (2, .int (iv (gi I 59 ((1400 + (6 * v)).toNat)))), (3, .int (iv (0)))]) C dX10_isShown_15 rfl (by decide) [1, 2, 3, 0] rfl ?_
  have hA7 : ∀ (i : Int), (0 ≤ i ∧ i ≤ gi I 59 (120 + 32 * gi I 59 (1400 + 6 * v).toNat + 3).toNat) → wh (shC (I 59) (gi I 59 (1400 + 6 * v).toNat) v) inc1 ((gi I 59 (120 + 32 * gi I 59 (1400 + 6 * v).toNat + 3).toNat - 0).toNat + 1) 0 = i → (i < gi I 59 (120 + 32 * gi I 59 (1400 + 6 * v).toNat + 3).toNat) → Jz G σ p l e R s m args below meth c 4 0 0 (Qx (some (.int (iv (gX10_isShown v (I 59))))) (sh, I, J)) (sh, I, J) 0 0 42 [(0, .ref (G.2.2 + 57)), (1, .int (iv (v))), (2, .int (iv (gi I 59 ((1400 + (6 * v)).toNat)))), (3, .int (iv (i)))] [] := by
    intro i hi hx6 hc8
    refine z_iconst C dX10_isShown_42 ?_
    have hf9 : gX10_isShown v (I 59) = 1 := (by subst hx6; exact (Eq.trans (if_pos hc8) rfl))
    exact z_ireturnx C dX10_isShown_43 hf9.symm rfl
  have hE5 : ∀ (i : Int), (0 ≤ i ∧ i ≤ gi I 59 (120 + 32 * gi I 59 (1400 + 6 * v).toNat + 3).toNat) → wh (shC (I 59) (gi I 59 (1400 + 6 * v).toNat) v) inc1 ((gi I 59 (120 + 32 * gi I 59 (1400 + 6 * v).toNat + 3).toNat - 0).toNat + 1) 0 = i → (¬ (i < gi I 59 (120 + 32 * gi I 59 (1400 + 6 * v).toNat + 3).toNat)) → Jz G σ p l e R s m args below meth c 4 0 0 (Qx (some (.int (iv (gX10_isShown v (I 59))))) (sh, I, J)) (sh, I, J) 0 0 50 [(0, .ref (G.2.2 + 57)), (1, .int (iv (v))), (2, .int (iv (gi I 59 ((1400 + (6 * v)).toNat)))), (3, .int (iv (i)))] [] := by
    intro i hi hx6 hc10
    refine z_iconst C dX10_isShown_50 ?_
    have hf11 : gX10_isShown v (I 59) = 0 := (by subst hx6; exact (Eq.trans (if_neg hc10) rfl))
    exact z_ireturnx C dX10_isShown_51 hf11.symm rfl
  have hL2 : ∀ (N1 : Nat) (i : Int), (0 ≤ i ∧ i ≤ gi I 59 (120 + 32 * gi I 59 (1400 + 6 * v).toNat + 3).toNat) → wh (shC (I 59) (gi I 59 (1400 + 6 * v).toNat) v) inc1 N1 i = wh (shC (I 59) (gi I 59 (1400 + 6 * v).toNat) v) inc1 ((gi I 59 (120 + 32 * gi I 59 (1400 + 6 * v).toNat + 3).toNat - 0).toNat + 1) 0 → (gi I 59 (120 + 32 * gi I 59 (1400 + 6 * v).toNat + 3).toNat - i).toNat < N1 → Jz G σ p l e R s m args below meth c 4 0 0 (Qx (some (.int (iv (gX10_isShown v (I 59))))) (sh, I, J)) (sh, I, J) 0 0 16 [(0, .ref (G.2.2 + 57)), (1, .int (iv (v))), (2, .int (iv (gi I 59 ((1400 + (6 * v)).toNat)))), (3, .int (iv (i)))] [] := by
    intro N1
    induction N1 with
    | zero => intro i hi hi4 hm; exact absurd hm (Nat.not_lt_zero _)
    | succ N1 ih3 =>
      intro i hi hi4 hm
      refine z_iload_n C dX10_isShown_16 3 rfl ?_
      refine z_aload_n C dX10_isShown_17 0 rfl ?_
      refine z_iload_n C dX10_isShown_18 2 rfl ?_
      refine z_iconst C dX10_isShown_19 ?_
      refine z_cVi (st := [.int (iv (i))]) C dX10_isShown_20 mX10_256 (kd_57 hS) (qX10_ofCoin hC (gi I 59 ((1400 + (6 * v)).toNat)) 3 hS (by have := gi_rng I 59 ((1400 + (6 * v)).toNat); omega) (by have := gi_rng I 59 ((1400 + (6 * v)).toNat); omega)) rfl rfl (Nat.le_of_ble_eq_true rfl) (by decide) ?_
      refine z_icmp_ge 50 C dX10_isShown_23 (by decide) (by omega) (gi_rng _ _ _) (fun h12 => ?_) (fun h12 => ?_)
      ·
        exact hE5 i hi (wh_exit hi4 (decide_eq_false (by show ¬ (_ < gi I 59 _ ∧ ¬ gi I 59 _ = _); omega))) (by omega)
      ·
        refine z_aload_n C dX10_isShown_26 0 rfl ?_
        refine z_iload_n C dX10_isShown_27 2 rfl ?_
        refine z_iconst C dX10_isShown_28 ?_
        refine z_iconst C dX10_isShown_29 ?_
        refine z_iload_n C dX10_isShown_30 3 rfl ?_
        refine z_imul C dX10_isShown_31 ?_
        refine z_iadd C dX10_isShown_32 ?_
        refine z_iconst C dX10_isShown_33 ?_
        refine z_iadd C dX10_isShown_34 ?_
        refine z_cVi (st := []) C dX10_isShown_35 mX10_256 (kd_57 hS) (qX10_ofCoin hC (gi I 59 ((1400 + (6 * v)).toNat)) ((4 + (3 * i)) + 2) hS (by have := gi_rng I 59 ((1400 + (6 * v)).toNat); omega) (by have := gi_rng I 59 ((1400 + (6 * v)).toNat); omega)) rfl rfl (Nat.le_of_ble_eq_true rfl) (by decide) ?_
        refine z_iload_n C dX10_isShown_38 1 rfl ?_
        refine z_icmp_ne 44 C dX10_isShown_39 (by decide) (gi_rng _ _ _) (by omega) (fun h13 => ?_) (fun h13 => ?_)
        ·
          refine z_iinc (lv' := [(0, .ref (G.2.2 + 57)), (1, .int (iv (v))), (2, .int (iv (gi I 59 ((1400 + (6 * v)).toNat)))), (3, .int (iv (i + 1)))]) C dX10_isShown_44 3 rfl (by decide) [1, 2, 3, 0] rfl ?_
          refine z_goto 16 C dX10_isShown_47 (by decide) ?_
          exact ih3 (i + 1) (by omega) (wh_back hi4 (decide_eq_true (by show _ < gi I 59 _ ∧ ¬ gi I 59 _ = _; omega)) rfl) (by omega)
        ·
          exact hA7 i hi (wh_exit hi4 (decide_eq_false (by show ¬ (_ < gi I 59 _ ∧ ¬ gi I 59 _ = _); omega))) (by omega)
  exact hL2 _ 0 (by omega) rfl (Nat.lt_succ_self _)

noncomputable def gX10_valueOf (w : Int) (q : Int) (N59 : Nat → Int32) : Int :=
  w32 (((gn N59 (120 + 32 * q + 0).toNat) * (gX10_hundredths w (gn N59 (120 + 32 * q + 4).toNat) (gX10_luckOf N59) N59)) / 100)
theorem gX10_valueOf_rng (w : Int) (q : Int) (N59 : Nat → Int32) : -2147483648 ≤ gX10_valueOf w q N59 ∧ gX10_valueOf w q N59 < 2147483648 := by
  unfold gX10_valueOf
  try simp only
  exact w32_rng _
set_option maxHeartbeats 4000000 in
set_option maxRecDepth 100000 in
theorem qX10_valueOf {G : Gx} {σ : State} (hC : Cz G σ) {sh : Sh} {I : Mi} {J : Mj} (w q : Int) (hS : St sh) (hn : NX (I 59)) (hw : 0 ≤ w ∧ w < 8) (hq : 0 ≤ q ∧ q < gi I 59 108) (hg : 0 ≤ gi I 59 (120 + 32 * q + 0).toNat ∧ gi I 59 (120 + 32 * q + 0).toNat ≤ 9999) (hh : 0 ≤ gX10_hundredths w (gi I 59 (120 + 32 * q + 4).toNat) (gX10_luckOf (I 59)) (I 59) ∧ gX10_hundredths w (gi I 59 (120 + 32 * q + 4).toNat) (gX10_luckOf (I 59)) (I 59) ≤ 1000) : Ce G σ 4 yX10_valueOf cX10_valueOf 3 (some .int) [.ref (G.2.2 + 57), .int (iv (w)), .int (iv (q))] (sh, I, J) 0 0 (some (.int (iv (gX10_valueOf w q (I 59))))) (sh, I, J) := by
  refine Ct.of hC (by decide +kernel) (Nat.le_of_ble_eq_true rfl) ?_
  intro p l e R s m args below meth c C
  show Jz G σ p l e R s m args below meth c 3 0 0 (Qx (some (.int (iv (gX10_valueOf w q (I 59))))) (sh, I, J)) (sh, I, J) 0 0 0 [(0, .ref (G.2.2 + 57)), (1, .int (iv (w))), (2, .int (iv (q)))] []
  have hn0 := nx_c hn
  have hn1 := nx_p hn
  have hn2 := nx_m hn
  have hn3 := nx_s hn
  have hn4 := nx_sl hn
  have hto := nx_to hn hq.1 hq.2
  refine z_aload_n C dX10_valueOf_0 0 rfl ?_
  refine z_iload_n C dX10_valueOf_1 2 rfl ?_
  refine z_iconst C dX10_valueOf_2 ?_
  refine z_cVi (st := []) C dX10_valueOf_3 mX10_256 (kd_57 hS) (qX10_ofCoin hC q 0 hS (by omega) (by omega)) rfl rfl (Nat.le_of_ble_eq_true rfl) (by decide) ?_
  refine z_aload_n C dX10_valueOf_6 0 rfl ?_
  refine z_iload_n C dX10_valueOf_7 1 rfl ?_
  refine z_aload_n C dX10_valueOf_8 0 rfl ?_
  refine z_iload_n C dX10_valueOf_9 2 rfl ?_
  refine z_cVi (st := [.int (iv (w)), .ref (G.2.2 + 57), .int (iv (gi I 59 (120 + 32 * q + 0).toNat))]) C dX10_valueOf_10 mX10_253 (kd_57 hS) (qX10_topOf hC q hS (by omega)) rfl rfl (Nat.le_of_ble_eq_true rfl) (by decide) ?_
  refine z_aload_n C dX10_valueOf_13 0 rfl ?_
  refine z_cVi (st := [.int (iv (gi I 59 (120 + 32 * q + 4).toNat)), .int (iv (w)), .ref (G.2.2 + 57), .int (iv (gi I 59 (120 + 32 * q + 0).toNat))]) C dX10_valueOf_14 mX10_288 (kd_57 hS) (qX10_luckOf hC  hS hn) rfl rfl (Nat.le_of_ble_eq_true rfl) (by decide) ?_
  refine z_cVi (st := [.int (iv (gi I 59 (120 + 32 * q + 0).toNat))]) C dX10_valueOf_17 mX10_291 (kd_57 hS) (qX10_hundredths hC w (gi I 59 (120 + 32 * q + 4).toNat) (gX10_luckOf (I 59)) hS hw (by have := gi_rng I 59 ((120 + 32 * q + 4).toNat); have := gi_rng I 59 (120 + 32 * q + 4).toNat; omega) (by have := gX10_luckOf_rng (I 59); omega)) rfl rfl (Nat.le_of_ble_eq_true rfl) (by decide) ?_
  refine z_imul C dX10_valueOf_20 ?_
  refine z_bipush C dX10_valueOf_21 (by decide) ?_
  refine z_idiv (((gi I 59 (120 + 32 * q + 0).toNat) * (gX10_hundredths w (gi I 59 (120 + 32 * q + 4).toNat) (gX10_luckOf (I 59)) (I 59))) / 100) C dX10_valueOf_23 (by decide) (iv_div (mulb hg hh) (by decide)) ?_
  refine z_ivq (w32 (((gi I 59 (120 + 32 * q + 0).toNat) * (gX10_hundredths w (gi I 59 (120 + 32 * q + 4).toNat) (gX10_luckOf (I 59)) (I 59))) / 100)) (iv_w32 _).symm ?_
  have hf1 : gX10_valueOf w q (I 59) = w32 (((gi I 59 (120 + 32 * q + 0).toNat) * (gX10_hundredths w (gi I 59 (120 + 32 * q + 4).toNat) (gX10_luckOf (I 59)) (I 59))) / 100) := (by exact rfl)
  exact z_ireturnx C dX10_valueOf_24 hf1.symm rfl

