/-- n faces from b + 4 on, each less deep by bl -/
def dr (I : Mi) (b bl n : Int) : Mi := fun x j => if x = 59 ∧ b + 5 ≤ (j : Int) ∧ (j : Int) < b + 5 + 3 * n ∧ ((j : Int) - b - 5) % 3 = 0 then iv (gi I 59 j - bl) else I x j
/-- faces i .. n - 1 from b + 4 on moved on by one -/
def sf (I : Mi) (b n i : Int) : Mi := fun x j => if x = 59 ∧ b + 4 + 3 * (i + 1) ≤ (j : Int) ∧ (j : Int) < b + 7 + 3 * n then I 59 (j - 3) else I x j
theorem dr_i (I : Mi) (b bl : Int) {n : Int} (h : n ≤ 0) : dr I b bl n = I := by funext x j; unfold dr; rw [if_neg (by omega)]
theorem sf_i (I : Mi) (b : Int) {n i : Int} (h : i = n) : sf I b n i = I := by funext x j; unfold sf; rw [if_neg (by omega)]
theorem gi_dr_o {I : Mi} {b bl n : Int} {j : Nat} (h : ¬ (b + 5 ≤ (j : Int) ∧ (j : Int) < b + 5 + 3 * n ∧ ((j : Int) - b - 5) % 3 = 0)) : gi (dr I b bl n) 59 j = gi I 59 j := by unfold gi dr; rw [if_neg (fun q => h q.2)]
theorem gi_dr_e {I : Mi} {b bl n : Int} {j : Nat} (h : b + 5 ≤ (j : Int) ∧ (j : Int) < b + 5 + 3 * n ∧ ((j : Int) - b - 5) % 3 = 0) : gi (dr I b bl n) 59 j = w32 (gi I 59 j - bl) := by unfold dr w32; show (if _ then _ else _ : Int32).toInt = _; rw [if_pos ⟨rfl, h⟩]
theorem dr_na {I : Mi} {b bl n : Int} {x : Nat} (j : Nat) (h : x ≠ 59) : dr I b bl n x j = I x j := by unfold dr; rw [if_neg (fun q => h q.1)]
theorem gi_sf_o {I : Mi} {b n i : Int} {j : Nat} (h : ¬ (b + 4 + 3 * (i + 1) ≤ (j : Int) ∧ (j : Int) < b + 7 + 3 * n)) : gi (sf I b n i) 59 j = gi I 59 j := by unfold gi sf; rw [if_neg (fun q => h q.2)]
theorem gi_sf_e {I : Mi} {b n i : Int} {j : Nat} (h : b + 4 + 3 * (i + 1) ≤ (j : Int) ∧ (j : Int) < b + 7 + 3 * n) : gi (sf I b n i) 59 j = gi I 59 (j - 3) := by unfold gi sf; rw [if_pos ⟨rfl, h⟩]
theorem sf_na {I : Mi} {b n i : Int} {x : Nat} (j : Nat) (h : x ≠ 59) : sf I b n i x j = I x j := by unfold sf; rw [if_neg (fun q => h q.1)]
theorem wi_ap (I : Mi) (a k : Nat) (v : Int) (x j : Nat) : wi I a k v x j = if x = a ∧ j = k then iv v else I x j := up2_ap _ _ _ _ _ _
theorem dr_s {I : Mi} {b bl n f t dp : Int} (hb : 0 ≤ b) (hn : 0 ≤ n) (hf : f = b + 4 + 3 * n) (ht : t = b + 4 + 3 * n) (hd : dp = gi I 59 (f + 1).toNat - bl) : wi (wi (wi (dr I b bl n) 59 t.toNat (gi (dr I b bl n) 59 f.toNat)) 59 (t + 1).toNat dp) 59 (t + 2).toNat (gi (wi (wi (dr I b bl n) 59 t.toNat (gi (dr I b bl n) 59 f.toNat)) 59 (t + 1).toNat dp) 59 (f + 2).toNat) = dr I b bl (n + 1) := by
  subst hf; subst ht; subst hd
  rw [wi_self, wi_self]
  funext x j
  rw [wi_ap]
  unfold dr
  by_cases h : x = 59 ∧ j = (b + 4 + 3 * n + 1).toNat
  · rw [if_pos h, if_pos ⟨h.1, by omega, by omega, by omega⟩, h.2]
  · rw [if_neg h]
    by_cases h2 : x = 59 ∧ b + 5 ≤ (j : Int) ∧ (j : Int) < b + 5 + 3 * n ∧ ((j : Int) - b - 5) % 3 = 0
    · rw [if_pos h2, if_pos ⟨h2.1, by omega, by omega, by omega⟩]
    · rw [if_neg h2, if_neg (fun q => by omega)]
theorem sf_s {I : Mi} {b n i : Int} {a1 a2 a3 c1 c2 c3 : Int} (hb : 0 ≤ b) (hi : 0 < i) (hn : i ≤ n) (h1 : a1 = b + 4 + 3 * i) (h2 : a2 = b + 4 + 3 * i + 1) (h3 : a3 = b + 4 + 3 * i + 2) (k1 : c1 = b + 4 + 3 * (i - 1)) (k2 : c2 = b + 4 + 3 * (i - 1) + 1) (k3 : c3 = b + 4 + 3 * (i - 1) + 2) {M1 M2 : Mi} (e1 : M1 = wi (sf I b n i) 59 a1.toNat (gi (sf I b n i) 59 c1.toNat)) (e2 : M2 = wi M1 59 a2.toNat (gi M1 59 c2.toNat)) : wi M2 59 a3.toNat (gi M2 59 c3.toNat) = sf I b n (i + (-1)) := by
  have g1 : gi (sf I b n i) 59 c1.toNat = gi I 59 c1.toNat := gi_sf_o (by omega)
  have g2 : gi M1 59 c2.toNat = gi I 59 c2.toNat := by rw [e1, gi_wi_nk _ _ _ (by omega)]; exact gi_sf_o (by omega)
  have g3 : gi M2 59 c3.toNat = gi I 59 c3.toNat := by rw [e2, e1, gi_wi_nk _ _ _ (by omega), gi_wi_nk _ _ _ (by omega)]; exact gi_sf_o (by omega)
  rw [g3, e2, g2, e1, g1]
  funext x j
  rw [wi_ap, wi_ap, wi_ap, iv_gi, iv_gi, iv_gi]
  unfold sf
  by_cases hx : x = 59
  · subst hx
    by_cases q3 : j = a3.toNat
    · rw [if_pos ⟨rfl, q3⟩, if_pos ⟨rfl, by omega, by omega⟩]; congr 1; omega
    · rw [if_neg (fun q => q3 q.2)]
      by_cases q2 : j = a2.toNat
      · rw [if_pos ⟨rfl, q2⟩, if_pos ⟨rfl, by omega, by omega⟩]; congr 1; omega
      · rw [if_neg (fun q => q2 q.2)]
        by_cases q1 : j = a1.toNat
        · rw [if_pos ⟨rfl, q1⟩, if_pos ⟨rfl, by omega, by omega⟩]; congr 1; omega
        · rw [if_neg (fun q => q1 q.2)]
          by_cases q0 : b + 4 + 3 * (i + 1) ≤ (j : Int) ∧ (j : Int) < b + 7 + 3 * n
          · rw [if_pos ⟨rfl, q0⟩, if_pos ⟨rfl, by omega, by omega⟩]
          · rw [if_neg (fun q => q0 q.2), if_neg (fun q => by omega)]
  · rw [if_neg (fun q => hx q.1), if_neg (fun q => hx q.1), if_neg (fun q => hx q.1), if_neg (fun q => hx q.1), if_neg (fun q => hx q.1)]

noncomputable def skM (q w t sl z L : Int) (I : Mi) : Mi := (wi (wi (wi (wi (wi (wi (wi (wi (wi (wi (wi (wi (sf (dr (wi (wi I 59 (120 + 32 * q + 0).toNat (gi I 59 (120 + 32 * q + 0).toNat - gi I 59 (32 + 3 * t + 0).toNat)) 59 115 (gi I 59 115 + gi I 59 (32 + 3 * t + 0).toNat)) (120 + 32 * q) (gi I 59 (32 + 3 * t + 1).toNat) L) (120 + 32 * q) L 0) 59 (120 + 32 * q + 4).toNat w) 59 (120 + 32 * q + 4 + 1).toNat 9) 59 (120 + 32 * q + 4 + 2).toNat (gi I 59 112)) 59 (120 + 32 * q + 3).toNat (L + 1)) 59 (120 + 32 * q + 2).toNat (gi I 59 (120 + 32 * q + 2).toNat + 1)) 59 (1400 + 6 * gi I 59 112).toNat q) 59 (1400 + 6 * gi I 59 112 + 1).toNat w) 59 (1400 + 6 * gi I 59 112 + 2).toNat t) 59 (1400 + 6 * gi I 59 112 + 3).toNat (gi I 59 109)) 59 (1400 + 6 * gi I 59 112 + 4).toNat sl) 59 (1400 + 6 * gi I 59 112 + 5).toNat z) 59 112 (gi I 59 112 + 1))
set_option maxHeartbeats 4000000 in
set_option maxRecDepth 100000 in
theorem qX10_strike {G : Gx} {σ : State} (hC : Cz G σ) {sh : Sh} {I : Mi} {J : Mj} (q w t sl z L : Int) (hS : St sh) (hq : 0 ≤ q ∧ q < 40) (ht : 0 ≤ t ∧ t < 4) (hla : 0 ≤ gi I 59 (120 + 32 * q + 3).toNat ∧ gi I 59 (120 + 32 * q + 3).toNat ≤ 9) (hL : 0 ≤ L ∧ L ≤ 8 ∧ L ≤ gi I 59 (120 + 32 * q + 3).toNat) (hsn : 0 ≤ gi I 59 112 ∧ gi I 59 112 < 500) (hbl : 0 ≤ gi I 59 (32 + 3 * t + 1).toNat ∧ gi I 59 (32 + 3 * t + 1).toNat ≤ 9) (hdb : ∀ i : Int, 0 ≤ i → i < gi I 59 (120 + 32 * q + 3).toNat → 0 ≤ gi I 59 (120 + 32 * q + 4 + 3 * i + 1).toNat ∧ gi I 59 (120 + 32 * q + 4 + 3 * i + 1).toNat ≤ 9) (hd1 : ∀ i : Int, 0 ≤ i → i < L → gi I 59 (32 + 3 * t + 1).toNat < gi I 59 (120 + 32 * q + 4 + 3 * i + 1).toNat) (hd2 : ∀ i : Int, L ≤ i → i < gi I 59 (120 + 32 * q + 3).toNat → gi I 59 (120 + 32 * q + 4 + 3 * i + 1).toNat ≤ gi I 59 (32 + 3 * t + 1).toNat) : Ce G σ 2 yX10_strike cX10_strike 13 none [.ref (G.2.2 + 57), .int (iv (q)), .int (iv (w)), .int (iv (t)), .int (iv (sl)), .int (iv (z))] (sh, I, J) 0 0 none (sh, skM q w t sl z L I, J) := by
  refine Ct.of hC (by decide +kernel) (Nat.le_of_ble_eq_true rfl) ?_
  intro p l e R s m args below meth c C
  show Jz G σ p l e R s m args below meth c 13 0 0 (Qx none (sh, skM q w t sl z L I, J)) (sh, I, J) 0 0 0 [(0, .ref (G.2.2 + 57)), (1, .int (iv (q))), (2, .int (iv (w))), (3, .int (iv (t))), (4, .int (iv (sl))), (5, .int (iv (z)))] []
  refine z_bipush C dX10_strike_0 (by decide) ?_
  refine z_bipush C dX10_strike_2 (by decide) ?_
  refine z_iload_n C dX10_strike_4 1 rfl ?_
  refine z_imul C dX10_strike_5 ?_
  refine z_iadd C dX10_strike_6 ?_
  refine z_nami (fun b hb => ?_)
  refine z_istore (lv' := [(0, .ref (G.2.2 + 57)), (1, .int (iv (q))), (2, .int (iv (w))), (3, .int (iv (t))), (4, .int (iv (sl))), (5, .int (iv (z))), (6, .int (iv (b)))]) C dX10_strike_7 (by decide) [1, 2, 3, 4, 5, 6, 0] rfl ?_
  refine z_aload_n C dX10_strike_9 0 rfl ?_
  refine z_iload_n C dX10_strike_10 3 rfl ?_
  refine z_iconst C dX10_strike_11 ?_
  refine z_cVi (st := []) C dX10_strike_12 mX10_262 (kd_57 hS) (qX10_ofMint hC t 0 hS (by omega) (by omega)) rfl rfl (Nat.le_of_ble_eq_true rfl) (by decide) ?_
  refine z_istore (lv' := [(0, .ref (G.2.2 + 57)), (1, .int (iv (q))), (2, .int (iv (w))), (3, .int (iv (t))), (4, .int (iv (sl))), (5, .int (iv (z))), (6, .int (iv (b))), (7, .int (iv (gi I 59 (32 + 3 * t + 0).toNat)))]) C dX10_strike_15 (by decide) [1, 2, 3, 4, 5, 6, 7, 0] rfl ?_
  refine z_aload_n C dX10_strike_17 0 rfl ?_
  refine z_getR C dX10_strike_18 fX10_13 rfl (kd_57 hS) (r_57_14 hS) ?_
  refine z_iload C dX10_strike_21 6 rfl ?_
  refine z_iconst C dX10_strike_23 ?_
  refine z_iadd C dX10_strike_24 ?_
  refine z_dup2 C dX10_strike_25 rfl rfl ?_
  refine z_iald (q := (b + 0).toNat) C dX10_strike_26 (ka_59 hS) (by omega) (by omega) ?_
  refine z_eqi (gi I 59 (120 + 32 * q + 0).toNat) (by rw [hb]) ?_
  refine z_iload C dX10_strike_27 7 rfl ?_
  refine z_isub C dX10_strike_29 ?_
  refine z_iast (q := (b + 0).toNat) C dX10_strike_30 (ka_59 hS) (by omega) (by omega) ?_
  refine z_aload_n C dX10_strike_31 0 rfl ?_
  refine z_getR C dX10_strike_32 fX10_13 rfl (kd_57 hS) (r_57_14 hS) ?_
  refine z_bipush C dX10_strike_35 (by decide) ?_
  refine z_dup2 C dX10_strike_37 rfl rfl ?_
  refine z_iald (q := 115) C dX10_strike_38 (ka_59 hS) rfl (by decide) ?_
  refine z_eqi (gi I 59 115) (by rw [gi_wi_nk _ _ _ (by omega)]) ?_
  refine z_iload C dX10_strike_39 7 rfl ?_
  refine z_iadd C dX10_strike_41 ?_
  refine z_iast (q := 115) C dX10_strike_42 (ka_59 hS) rfl (by decide) ?_
  refine z_iconst C dX10_strike_43 ?_
  refine z_istore (lv' := [(0, .ref (G.2.2 + 57)), (1, .int (iv (q))), (2, .int (iv (w))), (3, .int (iv (t))), (4, .int (iv (sl))), (5, .int (iv (z))), (6, .int (iv (b))), (7, .int (iv (gi I 59 (32 + 3 * t + 0).toNat))), (8, .int (iv (0)))]) C dX10_strike_44 (by decide) [1, 2, 3, 4, 5, 6, 7, 8, 0] rfl ?_
  refine z_iconst C dX10_strike_46 ?_
  refine z_istore (lv' := [(0, .ref (G.2.2 + 57)), (1, .int (iv (q))), (2, .int (iv (w))), (3, .int (iv (t))), (4, .int (iv (sl))), (5, .int (iv (z))), (6, .int (iv (b))), (7, .int (iv (gi I 59 (32 + 3 * t + 0).toNat))), (8, .int (iv (0))), (9, .int (iv (0)))]) C dX10_strike_47 (by decide) [1, 2, 3, 4, 5, 6, 7, 8, 9, 0] rfl ?_
  have hL2 : ∀ (N1 : Nat) (i : Int) (left : Int), (0 ≤ i ∧ i ≤ gi I 59 (120 + 32 * q + 3).toNat) → (left = min i L) → (gi I 59 (120 + 32 * q + 3).toNat - i).toNat < N1 → Jz G σ p l e R s m args below meth c 13 0 0 (Qx none (sh, skM q w t sl z L I, J)) (sh, (dr (wi (wi I 59 (b + 0).toNat (gi I 59 (120 + 32 * q + 0).toNat - gi I 59 (32 + 3 * t + 0).toNat)) 59 115 (gi I 59 115 + gi I 59 (32 + 3 * t + 0).toNat)) b (gi I 59 (32 + 3 * t + 1).toNat) left), J) 0 0 49 [(0, .ref (G.2.2 + 57)), (1, .int (iv (q))), (2, .int (iv (w))), (3, .int (iv (t))), (4, .int (iv (sl))), (5, .int (iv (z))), (6, .int (iv (b))), (7, .int (iv (gi I 59 (32 + 3 * t + 0).toNat))), (8, .int (iv (left))), (9, .int (iv (i)))] [] := by
    intro N1
    induction N1 with
    | zero => intro i left hi hl hm; exact absurd hm (Nat.not_lt_zero _)
    | succ N1 ih3 =>
      intro i left hi hl hm
      refine z_iload C dX10_strike_49 9 rfl ?_
      refine z_aload_n C dX10_strike_51 0 rfl ?_
      refine z_getR C dX10_strike_52 fX10_13 rfl (kd_57 hS) (r_57_14 hS) ?_
      refine z_iload C dX10_strike_55 6 rfl ?_
      refine z_iconst C dX10_strike_57 ?_
      refine z_iadd C dX10_strike_58 ?_
      refine z_iald (q := (b + 3).toNat) C dX10_strike_59 (ka_59 hS) (by omega) (by omega) ?_
      refine z_eqi (gi I 59 (120 + 32 * q + 3).toNat) (by rw [gi_dr_o (by omega), gi_wi_nk _ _ _ (by omega), gi_wi_nk _ _ _ (by omega), hb]) ?_
      refine z_icmp_ge 163 C dX10_strike_60 (by decide) (by omega) (gi_rng _ _ _) (fun h4 => ?_) (fun h4 => ?_)
      ·
        refine z_iload C dX10_strike_163 8 rfl ?_
        refine z_istore (lv' := [(0, .ref (G.2.2 + 57)), (1, .int (iv (q))), (2, .int (iv (w))), (3, .int (iv (t))), (4, .int (iv (sl))), (5, .int (iv (z))), (6, .int (iv (b))), (7, .int (iv (gi I 59 (32 + 3 * t + 0).toNat))), (8, .int (iv (left))), (9, .int (iv (left)))]) C dX10_strike_165 (by decide) [1, 2, 3, 4, 5, 6, 7, 8, 9, 0] rfl ?_
        have hL6 : ∀ (N5 : Nat) (i2 : Int), (0 ≤ i2 ∧ i2 ≤ left) → i2.toNat < N5 → Jz G σ p l e R s m args below meth c 13 0 0 (Qx none (sh, skM q w t sl z L I, J)) (sh, (sf (dr (wi (wi I 59 (b + 0).toNat (gi I 59 (120 + 32 * q + 0).toNat - gi I 59 (32 + 3 * t + 0).toNat)) 59 115 (gi I 59 115 + gi I 59 (32 + 3 * t + 0).toNat)) b (gi I 59 (32 + 3 * t + 1).toNat) left) b left i2), J) 0 0 167 [(0, .ref (G.2.2 + 57)), (1, .int (iv (q))), (2, .int (iv (w))), (3, .int (iv (t))), (4, .int (iv (sl))), (5, .int (iv (z))), (6, .int (iv (b))), (7, .int (iv (gi I 59 (32 + 3 * t + 0).toNat))), (8, .int (iv (left))), (9, .int (iv (i2)))] [] := by
          intro N5
          induction N5 with
          | zero => intro i2 hi2 hm; exact absurd hm (Nat.not_lt_zero _)
          | succ N5 ih7 =>
            intro i2 hi2 hm
            refine z_iload C dX10_strike_167 9 rfl ?_
            refine z_if_le 229 C dX10_strike_169 (by decide) (by omega) (fun h8 => ?_) (fun h8 => ?_)
            ·
              refine z_aload_n C dX10_strike_229 0 rfl ?_
              refine z_getR C dX10_strike_230 fX10_13 rfl (kd_57 hS) (r_57_14 hS) ?_
              refine z_iload C dX10_strike_233 6 rfl ?_
              refine z_iconst C dX10_strike_235 ?_
              refine z_iadd C dX10_strike_236 ?_
              refine z_iload_n C dX10_strike_237 2 rfl ?_
              refine z_iast (q := (b + 4).toNat) C dX10_strike_238 (ka_59 hS) (by omega) (by omega) ?_
              refine z_aload_n C dX10_strike_239 0 rfl ?_
              refine z_getR C dX10_strike_240 fX10_13 rfl (kd_57 hS) (r_57_14 hS) ?_
              refine z_iload C dX10_strike_243 6 rfl ?_
              refine z_iconst C dX10_strike_245 ?_
              refine z_iadd C dX10_strike_246 ?_
              refine z_iconst C dX10_strike_247 ?_
              refine z_iadd C dX10_strike_248 ?_
              refine z_bipush C dX10_strike_249 (by decide) ?_
              refine z_iast (q := ((b + 4) + 1).toNat) C dX10_strike_251 (ka_59 hS) (by omega) (by omega) ?_
              refine z_aload_n C dX10_strike_252 0 rfl ?_
              refine z_getR C dX10_strike_253 fX10_13 rfl (kd_57 hS) (r_57_14 hS) ?_
              refine z_iload C dX10_strike_256 6 rfl ?_
              refine z_iconst C dX10_strike_258 ?_
              refine z_iadd C dX10_strike_259 ?_
              refine z_iconst C dX10_strike_260 ?_
              refine z_iadd C dX10_strike_261 ?_
              refine z_aload_n C dX10_strike_262 0 rfl ?_
              refine z_getR C dX10_strike_263 fX10_13 rfl (kd_57 hS) (r_57_14 hS) ?_
              refine z_bipush C dX10_strike_266 (by decide) ?_
              refine z_iald (q := 112) C dX10_strike_268 (ka_59 hS) rfl (by decide) ?_
              refine z_eqi (gi I 59 112) (by (repeat rw [gi_wi_nk _ _ _ (by omega)]); rw [gi_sf_o (by omega), gi_dr_o (by omega)]; (repeat rw [gi_wi_nk _ _ _ (by omega)]); try rw [hb]) ?_
              refine z_iast (q := ((b + 4) + 2).toNat) C dX10_strike_269 (ka_59 hS) (by omega) (by omega) ?_
              refine z_aload_n C dX10_strike_270 0 rfl ?_
              refine z_getR C dX10_strike_271 fX10_13 rfl (kd_57 hS) (r_57_14 hS) ?_
              refine z_iload C dX10_strike_274 6 rfl ?_
              refine z_iconst C dX10_strike_276 ?_
              refine z_iadd C dX10_strike_277 ?_
              refine z_iload C dX10_strike_278 8 rfl ?_
              refine z_iconst C dX10_strike_280 ?_
              refine z_iadd C dX10_strike_281 ?_
              refine z_iast (q := (b + 3).toNat) C dX10_strike_282 (ka_59 hS) (by omega) (by omega) ?_
              refine z_aload_n C dX10_strike_283 0 rfl ?_
              refine z_getR C dX10_strike_284 fX10_13 rfl (kd_57 hS) (r_57_14 hS) ?_
              refine z_iload C dX10_strike_287 6 rfl ?_
              refine z_iconst C dX10_strike_289 ?_
              refine z_iadd C dX10_strike_290 ?_
              refine z_dup2 C dX10_strike_291 rfl rfl ?_
              refine z_iald (q := (b + 2).toNat) C dX10_strike_292 (ka_59 hS) (by omega) (by omega) ?_
              refine z_eqi (gi I 59 (120 + 32 * q + 2).toNat) (by (repeat rw [gi_wi_nk _ _ _ (by omega)]); rw [gi_sf_o (by omega), gi_dr_o (by omega)]; (repeat rw [gi_wi_nk _ _ _ (by omega)]); try rw [hb]) ?_
              refine z_iconst C dX10_strike_293 ?_
              refine z_iadd C dX10_strike_294 ?_
              refine z_iast (q := (b + 2).toNat) C dX10_strike_295 (ka_59 hS) (by omega) (by omega) ?_
              refine z_sipush C dX10_strike_296 (by decide) ?_
              refine z_bipush C dX10_strike_299 (by decide) ?_
              refine z_aload_n C dX10_strike_301 0 rfl ?_
              refine z_getR C dX10_strike_302 fX10_13 rfl (kd_57 hS) (r_57_14 hS) ?_
              refine z_bipush C dX10_strike_305 (by decide) ?_
              refine z_iald (q := 112) C dX10_strike_307 (ka_59 hS) rfl (by decide) ?_
              refine z_eqi (gi I 59 112) (by (repeat rw [gi_wi_nk _ _ _ (by omega)]); rw [gi_sf_o (by omega), gi_dr_o (by omega)]; (repeat rw [gi_wi_nk _ _ _ (by omega)]); try rw [hb]) ?_
              refine z_imul C dX10_strike_308 ?_
              refine z_iadd C dX10_strike_309 ?_
              refine z_nami (fun sx hsx => ?_)
              refine z_istore (lv' := [(0, .ref (G.2.2 + 57)), (1, .int (iv (q))), (2, .int (iv (w))), (3, .int (iv (t))), (4, .int (iv (sl))), (5, .int (iv (z))), (6, .int (iv (b))), (7, .int (iv (gi I 59 (32 + 3 * t + 0).toNat))), (8, .int (iv (left))), (9, .int (iv (sx)))]) C dX10_strike_310 (by decide) [1, 2, 3, 4, 5, 6, 7, 8, 9, 0] rfl ?_
              refine z_aload_n C dX10_strike_312 0 rfl ?_
              refine z_getR C dX10_strike_313 fX10_13 rfl (kd_57 hS) (r_57_14 hS) ?_
              refine z_iload C dX10_strike_316 9 rfl ?_
              refine z_iload_n C dX10_strike_318 1 rfl ?_
              refine z_iast (q := (sx).toNat) C dX10_strike_319 (ka_59 hS) (by omega) (by omega) ?_
              refine z_aload_n C dX10_strike_320 0 rfl ?_
              refine z_getR C dX10_strike_321 fX10_13 rfl (kd_57 hS) (r_57_14 hS) ?_
              refine z_iload C dX10_strike_324 9 rfl ?_
              refine z_iconst C dX10_strike_326 ?_
              refine z_iadd C dX10_strike_327 ?_
              refine z_iload_n C dX10_strike_328 2 rfl ?_
              refine z_iast (q := (sx + 1).toNat) C dX10_strike_329 (ka_59 hS) (by omega) (by omega) ?_
              refine z_aload_n C dX10_strike_330 0 rfl ?_
              refine z_getR C dX10_strike_331 fX10_13 rfl (kd_57 hS) (r_57_14 hS) ?_
              refine z_iload C dX10_strike_334 9 rfl ?_
              refine z_iconst C dX10_strike_336 ?_
              refine z_iadd C dX10_strike_337 ?_
              refine z_iload_n C dX10_strike_338 3 rfl ?_
              refine z_iast (q := (sx + 2).toNat) C dX10_strike_339 (ka_59 hS) (by omega) (by omega) ?_
              refine z_aload_n C dX10_strike_340 0 rfl ?_
              refine z_getR C dX10_strike_341 fX10_13 rfl (kd_57 hS) (r_57_14 hS) ?_
              refine z_iload C dX10_strike_344 9 rfl ?_
              refine z_iconst C dX10_strike_346 ?_
              refine z_iadd C dX10_strike_347 ?_
              refine z_aload_n C dX10_strike_348 0 rfl ?_
              refine z_getR C dX10_strike_349 fX10_13 rfl (kd_57 hS) (r_57_14 hS) ?_
              refine z_bipush C dX10_strike_352 (by decide) ?_
              refine z_iald (q := 109) C dX10_strike_354 (ka_59 hS) rfl (by decide) ?_
              refine z_eqi (gi I 59 109) (by (repeat rw [gi_wi_nk _ _ _ (by omega)]); rw [gi_sf_o (by omega), gi_dr_o (by omega)]; (repeat rw [gi_wi_nk _ _ _ (by omega)]); try rw [hb]) ?_
              refine z_iast (q := (sx + 3).toNat) C dX10_strike_355 (ka_59 hS) (by omega) (by omega) ?_
              refine z_aload_n C dX10_strike_356 0 rfl ?_
              refine z_getR C dX10_strike_357 fX10_13 rfl (kd_57 hS) (r_57_14 hS) ?_
              refine z_iload C dX10_strike_360 9 rfl ?_
              refine z_iconst C dX10_strike_362 ?_
              refine z_iadd C dX10_strike_363 ?_
              refine z_iload C dX10_strike_364 4 rfl ?_
              refine z_iast (q := (sx + 4).toNat) C dX10_strike_366 (ka_59 hS) (by omega) (by omega) ?_
              refine z_aload_n C dX10_strike_367 0 rfl ?_
              refine z_getR C dX10_strike_368 fX10_13 rfl (kd_57 hS) (r_57_14 hS) ?_
              refine z_iload C dX10_strike_371 9 rfl ?_
              refine z_iconst C dX10_strike_373 ?_
              refine z_iadd C dX10_strike_374 ?_
              refine z_iload C dX10_strike_375 5 rfl ?_
              refine z_iast (q := (sx + 5).toNat) C dX10_strike_377 (ka_59 hS) (by omega) (by omega) ?_
              refine z_aload_n C dX10_strike_378 0 rfl ?_
              refine z_getR C dX10_strike_379 fX10_13 rfl (kd_57 hS) (r_57_14 hS) ?_
              refine z_bipush C dX10_strike_382 (by decide) ?_
              refine z_dup2 C dX10_strike_384 rfl rfl ?_
              refine z_iald (q := 112) C dX10_strike_385 (ka_59 hS) rfl (by decide) ?_
              refine z_eqi (gi I 59 112) (by (repeat rw [gi_wi_nk _ _ _ (by omega)]); rw [gi_sf_o (by omega), gi_dr_o (by omega)]; (repeat rw [gi_wi_nk _ _ _ (by omega)]); try rw [hb]) ?_
              refine z_iconst C dX10_strike_386 ?_
              refine z_iadd C dX10_strike_387 ?_
              refine z_iast (q := 112) C dX10_strike_388 (ka_59 hS) rfl (by decide) ?_
              exact z_returnx C dX10_strike_389 (memEq (by unfold skM; rw [hsx, hb, show left = L by omega, show i2 = 0 by omega]) rfl)
            ·
              refine z_iconst C dX10_strike_172 ?_
              refine z_istore (lv' := [(0, .ref (G.2.2 + 57)), (1, .int (iv (q))), (2, .int (iv (w))), (3, .int (iv (t))), (4, .int (iv (sl))), (5, .int (iv (z))), (6, .int (iv (b))), (7, .int (iv (gi I 59 (32 + 3 * t + 0).toNat))), (8, .int (iv (left))), (9, .int (iv (i2))), (10, .int (iv (0)))]) C dX10_strike_173 (by decide) [1, 2, 3, 4, 5, 6, 7, 8, 9, 10, 0] rfl ?_
              refine z_iload C dX10_strike_175 10 rfl ?_
              refine z_iconst C dX10_strike_177 ?_
              refine z_icmp_ge 223 C dX10_strike_178 (by decide) (by decide) (by decide) (fun h9 => absurd h9 (by decide)) (fun h9 => ?_)
              refine z_aload_n C dX10_strike_181 0 rfl ?_
              refine z_getR C dX10_strike_182 fX10_13 rfl (kd_57 hS) (r_57_14 hS) ?_
              refine z_iload C dX10_strike_185 6 rfl ?_
              refine z_iconst C dX10_strike_187 ?_
              refine z_iadd C dX10_strike_188 ?_
              refine z_iconst C dX10_strike_189 ?_
              refine z_iload C dX10_strike_190 9 rfl ?_
              refine z_imul C dX10_strike_192 ?_
              refine z_iadd C dX10_strike_193 ?_
              refine z_iload C dX10_strike_194 10 rfl ?_
              refine z_iadd C dX10_strike_196 ?_
              refine z_aload_n C dX10_strike_197 0 rfl ?_
              refine z_getR C dX10_strike_198 fX10_13 rfl (kd_57 hS) (r_57_14 hS) ?_
              refine z_iload C dX10_strike_201 6 rfl ?_
              refine z_iconst C dX10_strike_203 ?_
              refine z_iadd C dX10_strike_204 ?_
              refine z_iconst C dX10_strike_205 ?_
              refine z_iload C dX10_strike_206 9 rfl ?_
              refine z_iconst C dX10_strike_208 ?_
              refine z_isub C dX10_strike_209 ?_
              refine z_imul C dX10_strike_210 ?_
              refine z_iadd C dX10_strike_211 ?_
              refine z_iload C dX10_strike_212 10 rfl ?_
              refine z_iadd C dX10_strike_214 ?_
              refine z_iald (q := (((b + 4) + (3 * (i2 - 1))) + 0).toNat) C dX10_strike_215 (ka_59 hS) (by omega) (by omega) ?_
              refine z_iast (q := (((b + 4) + (3 * i2)) + 0).toNat) C dX10_strike_216 (ka_59 hS) (by omega) (by omega) ?_
              refine z_iinc (lv' := [(0, .ref (G.2.2 + 57)), (1, .int (iv (q))), (2, .int (iv (w))), (3, .int (iv (t))), (4, .int (iv (sl))), (5, .int (iv (z))), (6, .int (iv (b))), (7, .int (iv (gi I 59 (32 + 3 * t + 0).toNat))), (8, .int (iv (left))), (9, .int (iv (i2))), (10, .int (iv (1)))]) C dX10_strike_217 10 rfl (by decide) [1, 2, 3, 4, 5, 6, 7, 8, 9, 10, 0] rfl ?_
              refine z_goto 175 C dX10_strike_220 (by decide) ?_
              refine z_iload C dX10_strike_175 10 rfl ?_
              refine z_iconst C dX10_strike_177 ?_
              refine z_icmp_ge 223 C dX10_strike_178 (by decide) (by decide) (by decide) (fun h10 => absurd h10 (by decide)) (fun h10 => ?_)
              refine z_aload_n C dX10_strike_181 0 rfl ?_
              refine z_getR C dX10_strike_182 fX10_13 rfl (kd_57 hS) (r_57_14 hS) ?_
              refine z_iload C dX10_strike_185 6 rfl ?_
              refine z_iconst C dX10_strike_187 ?_
              refine z_iadd C dX10_strike_188 ?_
              refine z_iconst C dX10_strike_189 ?_
              refine z_iload C dX10_strike_190 9 rfl ?_
              refine z_imul C dX10_strike_192 ?_
              refine z_iadd C dX10_strike_193 ?_
              refine z_iload C dX10_strike_194 10 rfl ?_
              refine z_iadd C dX10_strike_196 ?_
              refine z_aload_n C dX10_strike_197 0 rfl ?_
              refine z_getR C dX10_strike_198 fX10_13 rfl (kd_57 hS) (r_57_14 hS) ?_
              refine z_iload C dX10_strike_201 6 rfl ?_
              refine z_iconst C dX10_strike_203 ?_
              refine z_iadd C dX10_strike_204 ?_
              refine z_iconst C dX10_strike_205 ?_
              refine z_iload C dX10_strike_206 9 rfl ?_
              refine z_iconst C dX10_strike_208 ?_
              refine z_isub C dX10_strike_209 ?_
              refine z_imul C dX10_strike_210 ?_
              refine z_iadd C dX10_strike_211 ?_
              refine z_iload C dX10_strike_212 10 rfl ?_
              refine z_iadd C dX10_strike_214 ?_
              refine z_iald (q := (((b + 4) + (3 * (i2 - 1))) + 1).toNat) C dX10_strike_215 (ka_59 hS) (by omega) (by omega) ?_
              refine z_iast (q := (((b + 4) + (3 * i2)) + 1).toNat) C dX10_strike_216 (ka_59 hS) (by omega) (by omega) ?_
              refine z_iinc (lv' := [(0, .ref (G.2.2 + 57)), (1, .int (iv (q))), (2, .int (iv (w))), (3, .int (iv (t))), (4, .int (iv (sl))), (5, .int (iv (z))), (6, .int (iv (b))), (7, .int (iv (gi I 59 (32 + 3 * t + 0).toNat))), (8, .int (iv (left))), (9, .int (iv (i2))), (10, .int (iv (2)))]) C dX10_strike_217 10 rfl (by decide) [1, 2, 3, 4, 5, 6, 7, 8, 9, 10, 0] rfl ?_
              refine z_goto 175 C dX10_strike_220 (by decide) ?_
              refine z_iload C dX10_strike_175 10 rfl ?_
              refine z_iconst C dX10_strike_177 ?_
              refine z_icmp_ge 223 C dX10_strike_178 (by decide) (by decide) (by decide) (fun h11 => absurd h11 (by decide)) (fun h11 => ?_)
              refine z_aload_n C dX10_strike_181 0 rfl ?_
              refine z_getR C dX10_strike_182 fX10_13 rfl (kd_57 hS) (r_57_14 hS) ?_
              refine z_iload C dX10_strike_185 6 rfl ?_
              refine z_iconst C dX10_strike_187 ?_
              refine z_iadd C dX10_strike_188 ?_
              refine z_iconst C dX10_strike_189 ?_
              refine z_iload C dX10_strike_190 9 rfl ?_
              refine z_imul C dX10_strike_192 ?_
              refine z_iadd C dX10_strike_193 ?_
              refine z_iload C dX10_strike_194 10 rfl ?_
              refine z_iadd C dX10_strike_196 ?_
              refine z_aload_n C dX10_strike_197 0 rfl ?_
              refine z_getR C dX10_strike_198 fX10_13 rfl (kd_57 hS) (r_57_14 hS) ?_
              refine z_iload C dX10_strike_201 6 rfl ?_
              refine z_iconst C dX10_strike_203 ?_
              refine z_iadd C dX10_strike_204 ?_
              refine z_iconst C dX10_strike_205 ?_
              refine z_iload C dX10_strike_206 9 rfl ?_
              refine z_iconst C dX10_strike_208 ?_
              refine z_isub C dX10_strike_209 ?_
              refine z_imul C dX10_strike_210 ?_
              refine z_iadd C dX10_strike_211 ?_
              refine z_iload C dX10_strike_212 10 rfl ?_
              refine z_iadd C dX10_strike_214 ?_
              refine z_iald (q := (((b + 4) + (3 * (i2 - 1))) + 2).toNat) C dX10_strike_215 (ka_59 hS) (by omega) (by omega) ?_
              refine z_iast (q := (((b + 4) + (3 * i2)) + 2).toNat) C dX10_strike_216 (ka_59 hS) (by omega) (by omega) ?_
              refine z_iinc (lv' := [(0, .ref (G.2.2 + 57)), (1, .int (iv (q))), (2, .int (iv (w))), (3, .int (iv (t))), (4, .int (iv (sl))), (5, .int (iv (z))), (6, .int (iv (b))), (7, .int (iv (gi I 59 (32 + 3 * t + 0).toNat))), (8, .int (iv (left))), (9, .int (iv (i2))), (10, .int (iv (3)))]) C dX10_strike_217 10 rfl (by decide) [1, 2, 3, 4, 5, 6, 7, 8, 9, 10, 0] rfl ?_
              refine z_goto 175 C dX10_strike_220 (by decide) ?_
              refine z_iload C dX10_strike_175 10 rfl ?_
              refine z_iconst C dX10_strike_177 ?_
              refine z_icmp_ge 223 C dX10_strike_178 (by decide) (by decide) (by decide) (fun h12 => ?_) (fun h12 => absurd h12 (by decide))
              refine z_iinc (lv' := [(0, .ref (G.2.2 + 57)), (1, .int (iv (q))), (2, .int (iv (w))), (3, .int (iv (t))), (4, .int (iv (sl))), (5, .int (iv (z))), (6, .int (iv (b))), (7, .int (iv (gi I 59 (32 + 3 * t + 0).toNat))), (8, .int (iv (left))), (9, .int (iv (i2 + (-1)))), (10, .int (iv (3)))]) C dX10_strike_223 9 rfl (by decide) [1, 2, 3, 4, 5, 6, 7, 8, 9, 0, 10] rfl ?_
              refine z_goto 167 C dX10_strike_226 (by decide) ?_
              refine z_eqM (sh, (sf (dr (wi (wi I 59 (b + 0).toNat (gi I 59 (120 + 32 * q + 0).toNat - gi I 59 (32 + 3 * t + 0).toNat)) 59 115 (gi I 59 115 + gi I 59 (32 + 3 * t + 0).toNat)) b (gi I 59 (32 + 3 * t + 1).toNat) left) b left (i2 + (-1))), J) (memEq (sf_s (by omega) (by omega) (by omega) (by omega) (by omega) (by omega) (by omega) (by omega) (by omega) rfl rfl) rfl) ?_
              refine z_drop (lv' := [(0, .ref (G.2.2 + 57)), (1, .int (iv (q))), (2, .int (iv (w))), (3, .int (iv (t))), (4, .int (iv (sl))), (5, .int (iv (z))), (6, .int (iv (b))), (7, .int (iv (gi I 59 (32 + 3 * t + 0).toNat))), (8, .int (iv (left))), (9, .int (iv (i2 + (-1))))]) [0, 1, 2, 3, 4, 5, 6, 7, 8, 9] rfl ?_
              exact ih7 (i2 + (-1)) (by omega) (by omega)
        refine z_eqM (sh, (sf (dr (wi (wi I 59 (b + 0).toNat (gi I 59 (120 + 32 * q + 0).toNat - gi I 59 (32 + 3 * t + 0).toNat)) 59 115 (gi I 59 115 + gi I 59 (32 + 3 * t + 0).toNat)) b (gi I 59 (32 + 3 * t + 1).toNat) left) b left left), J) (memEq (sf_i _ _ rfl).symm rfl) ?_
        exact hL6 _ (left) (by omega) (Nat.lt_succ_self _)
      ·
        refine z_iload C dX10_strike_63 6 rfl ?_
        refine z_iconst C dX10_strike_65 ?_
        refine z_iadd C dX10_strike_66 ?_
        refine z_iconst C dX10_strike_67 ?_
        refine z_iload C dX10_strike_68 9 rfl ?_
        refine z_imul C dX10_strike_70 ?_
        refine z_iadd C dX10_strike_71 ?_
        refine z_nami (fun f hf => ?_)
        refine z_istore (lv' := [(0, .ref (G.2.2 + 57)), (1, .int (iv (q))), (2, .int (iv (w))), (3, .int (iv (t))), (4, .int (iv (sl))), (5, .int (iv (z))), (6, .int (iv (b))), (7, .int (iv (gi I 59 (32 + 3 * t + 0).toNat))), (8, .int (iv (left))), (9, .int (iv (i))), (10, .int (iv (f)))]) C dX10_strike_72 (by decide) [1, 2, 3, 4, 5, 6, 7, 8, 9, 10, 0] rfl ?_
        have hdi := hdb i hi.1 (by omega)
        refine z_aload_n C dX10_strike_74 0 rfl ?_
        refine z_getR C dX10_strike_75 fX10_13 rfl (kd_57 hS) (r_57_14 hS) ?_
        refine z_iload C dX10_strike_78 10 rfl ?_
        refine z_iconst C dX10_strike_80 ?_
        refine z_iadd C dX10_strike_81 ?_
        refine z_iald (q := (f + 1).toNat) C dX10_strike_82 (ka_59 hS) (by omega) (by omega) ?_
        refine z_eqi (gi I 59 (120 + 32 * q + 4 + 3 * i + 1).toNat) (by rw [gi_dr_o (by omega), gi_wi_nk _ _ _ (by omega), gi_wi_nk _ _ _ (by omega), hf, hb]) ?_
        refine z_aload_n C dX10_strike_83 0 rfl ?_
        refine z_iload_n C dX10_strike_84 3 rfl ?_
        refine z_iconst C dX10_strike_85 ?_
        refine z_cVi (st := [.int (iv (gi I 59 (120 + 32 * q + 4 + 3 * i + 1).toNat))]) C dX10_strike_86 mX10_262 (kd_57 hS) (qX10_ofMint hC t 1 hS (by omega) (by omega)) rfl rfl (Nat.le_of_ble_eq_true rfl) (by decide) ?_
        refine z_eqi (gi I 59 (32 + 3 * t + 1).toNat) (by rw [gi_dr_o (by omega), gi_wi_nk _ _ _ (by omega), gi_wi_nk _ _ _ (by omega)]) ?_
        refine z_isub C dX10_strike_89 ?_
        refine z_nami (fun dp hdp => ?_)
        refine z_istore (lv' := [(0, .ref (G.2.2 + 57)), (1, .int (iv (q))), (2, .int (iv (w))), (3, .int (iv (t))), (4, .int (iv (sl))), (5, .int (iv (z))), (6, .int (iv (b))), (7, .int (iv (gi I 59 (32 + 3 * t + 0).toNat))), (8, .int (iv (left))), (9, .int (iv (i))), (10, .int (iv (f))), (11, .int (iv (dp)))]) C dX10_strike_90 (by decide) [1, 2, 3, 4, 5, 6, 7, 8, 9, 10, 11, 0] rfl ?_
        refine z_iload C dX10_strike_92 11 rfl ?_
        refine z_if_gt 100 C dX10_strike_94 (by decide) (by omega) (fun h13 => ?_) (fun h13 => ?_)
        ·
          refine z_iload C dX10_strike_100 6 rfl ?_
          refine z_iconst C dX10_strike_102 ?_
          refine z_iadd C dX10_strike_103 ?_
          refine z_iconst C dX10_strike_104 ?_
          refine z_iload C dX10_strike_105 8 rfl ?_
          refine z_imul C dX10_strike_107 ?_
          refine z_iadd C dX10_strike_108 ?_
          refine z_nami (fun tt htt => ?_)
          refine z_istore (lv' := [(0, .ref (G.2.2 + 57)), (1, .int (iv (q))), (2, .int (iv (w))), (3, .int (iv (t))), (4, .int (iv (sl))), (5, .int (iv (z))), (6, .int (iv (b))), (7, .int (iv (gi I 59 (32 + 3 * t + 0).toNat))), (8, .int (iv (left))), (9, .int (iv (i))), (10, .int (iv (f))), (11, .int (iv (dp))), (12, .int (iv (tt)))]) C dX10_strike_109 (by decide) [1, 2, 3, 4, 5, 6, 7, 8, 9, 10, 11, 12, 0] rfl ?_
          refine z_aload_n C dX10_strike_111 0 rfl ?_
          refine z_getR C dX10_strike_112 fX10_13 rfl (kd_57 hS) (r_57_14 hS) ?_
          refine z_iload C dX10_strike_115 12 rfl ?_
          refine z_aload_n C dX10_strike_117 0 rfl ?_
          refine z_getR C dX10_strike_118 fX10_13 rfl (kd_57 hS) (r_57_14 hS) ?_
          refine z_iload C dX10_strike_121 10 rfl ?_
          refine z_iald (q := (f).toNat) C dX10_strike_123 (ka_59 hS) (by omega) (by omega) ?_
          refine z_iast (q := (tt).toNat) C dX10_strike_124 (ka_59 hS) (by omega) (by omega) ?_
          refine z_aload_n C dX10_strike_125 0 rfl ?_
          refine z_getR C dX10_strike_126 fX10_13 rfl (kd_57 hS) (r_57_14 hS) ?_
          refine z_iload C dX10_strike_129 12 rfl ?_
          refine z_iconst C dX10_strike_131 ?_
          refine z_iadd C dX10_strike_132 ?_
          refine z_iload C dX10_strike_133 11 rfl ?_
          refine z_iast (q := (tt + 1).toNat) C dX10_strike_135 (ka_59 hS) (by omega) (by omega) ?_
          refine z_aload_n C dX10_strike_136 0 rfl ?_
          refine z_getR C dX10_strike_137 fX10_13 rfl (kd_57 hS) (r_57_14 hS) ?_
          refine z_iload C dX10_strike_140 12 rfl ?_
          refine z_iconst C dX10_strike_142 ?_
          refine z_iadd C dX10_strike_143 ?_
          refine z_aload_n C dX10_strike_144 0 rfl ?_
          refine z_getR C dX10_strike_145 fX10_13 rfl (kd_57 hS) (r_57_14 hS) ?_
          refine z_iload C dX10_strike_148 10 rfl ?_
          refine z_iconst C dX10_strike_150 ?_
          refine z_iadd C dX10_strike_151 ?_
          refine z_iald (q := (f + 2).toNat) C dX10_strike_152 (ka_59 hS) (by omega) (by omega) ?_
          refine z_iast (q := (tt + 2).toNat) C dX10_strike_153 (ka_59 hS) (by omega) (by omega) ?_
          refine z_iinc (lv' := [(0, .ref (G.2.2 + 57)), (1, .int (iv (q))), (2, .int (iv (w))), (3, .int (iv (t))), (4, .int (iv (sl))), (5, .int (iv (z))), (6, .int (iv (b))), (7, .int (iv (gi I 59 (32 + 3 * t + 0).toNat))), (8, .int (iv (left + 1))), (9, .int (iv (i))), (10, .int (iv (f))), (11, .int (iv (dp))), (12, .int (iv (tt)))]) C dX10_strike_154 8 rfl (by decide) [1, 2, 3, 4, 5, 6, 7, 8, 0, 9, 10, 11, 12] rfl ?_
          refine z_iinc (lv' := [(0, .ref (G.2.2 + 57)), (1, .int (iv (q))), (2, .int (iv (w))), (3, .int (iv (t))), (4, .int (iv (sl))), (5, .int (iv (z))), (6, .int (iv (b))), (7, .int (iv (gi I 59 (32 + 3 * t + 0).toNat))), (8, .int (iv (left + 1))), (9, .int (iv (i + 1))), (10, .int (iv (f))), (11, .int (iv (dp))), (12, .int (iv (tt)))]) C dX10_strike_157 9 rfl (by decide) [1, 2, 3, 4, 5, 6, 7, 8, 9, 0, 10, 11, 12] rfl ?_
          refine z_goto 49 C dX10_strike_160 (by decide) ?_
          refine z_eqM (sh, (dr (wi (wi I 59 (b + 0).toNat (gi I 59 (120 + 32 * q + 0).toNat - gi I 59 (32 + 3 * t + 0).toNat)) 59 115 (gi I 59 115 + gi I 59 (32 + 3 * t + 0).toNat)) b (gi I 59 (32 + 3 * t + 1).toNat) (left + 1)), J) (memEq (dr_s (by omega) (by omega) (by have := hd2 i; omega) (by omega) (by rw [hdp, gi_wi_nk _ _ _ (by omega), gi_wi_nk _ _ _ (by omega), hf, hb])) rfl) ?_
          refine z_drop (lv' := [(0, .ref (G.2.2 + 57)), (1, .int (iv (q))), (2, .int (iv (w))), (3, .int (iv (t))), (4, .int (iv (sl))), (5, .int (iv (z))), (6, .int (iv (b))), (7, .int (iv (gi I 59 (32 + 3 * t + 0).toNat))), (8, .int (iv (left + 1))), (9, .int (iv (i + 1)))]) [0, 1, 2, 3, 4, 5, 6, 7, 8, 9] rfl ?_
          exact ih3 (i + 1) (left + 1) (by omega) (by have := hd2 i; omega) (by omega)
        ·
          refine z_goto 157 C dX10_strike_97 (by decide) ?_
          refine z_iinc (lv' := [(0, .ref (G.2.2 + 57)), (1, .int (iv (q))), (2, .int (iv (w))), (3, .int (iv (t))), (4, .int (iv (sl))), (5, .int (iv (z))), (6, .int (iv (b))), (7, .int (iv (gi I 59 (32 + 3 * t + 0).toNat))), (8, .int (iv (left))), (9, .int (iv (i + 1))), (10, .int (iv (f))), (11, .int (iv (dp)))]) C dX10_strike_157 9 rfl (by decide) [1, 2, 3, 4, 5, 6, 7, 8, 9, 0, 10, 11] rfl ?_
          refine z_goto 49 C dX10_strike_160 (by decide) ?_
          refine z_eqM (sh, (dr (wi (wi I 59 (b + 0).toNat (gi I 59 (120 + 32 * q + 0).toNat - gi I 59 (32 + 3 * t + 0).toNat)) 59 115 (gi I 59 115 + gi I 59 (32 + 3 * t + 0).toNat)) b (gi I 59 (32 + 3 * t + 1).toNat) left), J) rfl ?_
          refine z_drop (lv' := [(0, .ref (G.2.2 + 57)), (1, .int (iv (q))), (2, .int (iv (w))), (3, .int (iv (t))), (4, .int (iv (sl))), (5, .int (iv (z))), (6, .int (iv (b))), (7, .int (iv (gi I 59 (32 + 3 * t + 0).toNat))), (8, .int (iv (left))), (9, .int (iv (i + 1)))]) [0, 1, 2, 3, 4, 5, 6, 7, 8, 9] rfl ?_
          exact ih3 (i + 1) (left) (by omega) (by have := hd1 i hi.1; omega) (by omega)
  refine z_eqM (sh, (dr (wi (wi I 59 (b + 0).toNat (gi I 59 (120 + 32 * q + 0).toNat - gi I 59 (32 + 3 * t + 0).toNat)) 59 115 (gi I 59 115 + gi I 59 (32 + 3 * t + 0).toNat)) b (gi I 59 (32 + 3 * t + 1).toNat) 0), J) (memEq (dr_i _ _ _ (by omega)).symm rfl) ?_
  exact hL2 _ (0) (0) (by omega) (by omega) (Nat.lt_succ_self _)

