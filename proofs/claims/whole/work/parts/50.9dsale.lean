theorem ushr64_eq {a k : Int} (ha : 0 ≤ a ∧ a < 9223372036854775808) (hk : 0 ≤ k ∧ k < 64) : ushr64 a k = a / (2 ^ k.toNat : Nat) := by
  have h1 : ((iv k).toInt64.toUInt64 &&& Int64.toUInt64 63) = UInt64.ofNat k.toNat := by
    have : ∀ k, k < 64 → ((iv ((k : Nat) : Int)).toInt64.toUInt64 &&& Int64.toUInt64 63) = UInt64.ofNat k := by decide +kernel
    have := this k.toNat (by omega)
    rwa [show ((k.toNat : Nat) : Int) = k from by omega] at this
  unfold ushr64
  rw [h1]
  have h2 : ((jv a).toUInt64 >>> UInt64.ofNat k.toNat).toInt64.toBitVec.toNat = a.toNat / 2 ^ k.toNat := by
    show ((jv a).toUInt64 >>> UInt64.ofNat k.toNat).toNat = _
    rw [UInt64.toNat_shiftRight, UInt64.toNat_ofNat', Nat.shiftRight_eq_div_pow]
    rw [show k.toNat % 2 ^ 64 % 64 = k.toNat by omega]
    rw [← bw_pos ha]; rfl
  have h3 : a.toNat / 2 ^ k.toNat ≤ a.toNat := Nat.div_le_self _ _
  rw [tw_pos h2 (by omega)]
  conv => rhs; rw [show a = ((a.toNat : Nat) : Int) from by omega]
  exact Int.natCast_ediv _ _
def bitJ (d w : Int) : Int := and64 (shr64 d w) 1
theorem ushr64_shr {a k : Int} (ha : 0 ≤ a ∧ a < 9223372036854775808) (hk : 0 ≤ k ∧ k < 64) : ushr64 a k = shr64 a k := by
  rw [ushr64_eq ha hk, shr64_eq ⟨by omega, ha.2⟩ hk]
theorem bitJ_tb {d w : Int} (hd : 0 ≤ d ∧ d < 9223372036854775808) (hw : 0 ≤ w ∧ w < 64) : bitJ d w = if d.toNat.testBit w.toNat then 1 else 0 := by
  unfold bitJ
  have hp : (1 : Int) ≤ (2 ^ w.toNat : Nat) := by have := Nat.one_le_two_pow (n := w.toNat); omega
  have h0 := Int.ediv_nonneg hd.1 (by omega : (0 : Int) ≤ (2 ^ w.toNat : Nat))
  have h1 := Int.ediv_le_self (2 ^ w.toNat : Nat) hd.1
  rw [shr64_eq ⟨by omega, hd.2⟩ hw, and64_pos ⟨h0, by omega⟩ (by decide)]
  have e : (d / (2 ^ w.toNat : Nat)).toNat = d.toNat / 2 ^ w.toNat := by
    have : d / (2 ^ w.toNat : Nat) = ((d.toNat / 2 ^ w.toNat : Nat) : Int) := by
      conv => lhs; rw [show d = ((d.toNat : Nat) : Int) from by omega]
      exact (Int.natCast_ediv _ _).symm
    rw [this, Int.toNat_natCast]
  rw [e, ← Nat.shiftRight_eq_div_pow]
  show ((d.toNat >>> w.toNat &&& 1 : Nat) : Int) = _
  rw [Nat.and_comm, Nat.testBit]
  rcases Nat.mod_two_eq_zero_or_one (d.toNat >>> w.toNat) with h | h
  · rw [Nat.one_and_eq_mod_two, h]; rfl
  · rw [Nat.one_and_eq_mod_two, h]; rfl
theorem bitJ_or {d w : Int} {n : Nat} (hd : 0 ≤ d) (hdn : d.toNat < 2 ^ n) (hn : n ≤ 62) (hw : 0 ≤ w) (hwn : w.toNat < n) : 0 ≤ or64 d (shl64 1 w) ∧ (or64 d (shl64 1 w)).toNat < 2 ^ n ∧ ∀ v, 0 ≤ v → v < 64 → bitJ (or64 d (shl64 1 w)) v = (if v = w then 1 else bitJ d v) := by
  have p1 : 2 ^ w.toNat < 2 ^ n := Nat.pow_lt_pow_right (by decide) hwn
  have p2 : 2 ^ n ≤ 2 ^ 62 := Nat.pow_le_pow_right (by decide) hn
  have hdb : 0 ≤ d ∧ d < 9223372036854775808 := by
    have : d.toNat < 2 ^ 62 := Nat.lt_of_lt_of_le hdn p2
    omega
  have e1 : shl64 1 w = ((2 ^ w.toNat : Nat) : Int) := by
    have q : (1 : Int).toNat * 2 ^ w.toNat < 9223372036854775808 := by
      show 1 * _ < _; have : 2 ^ w.toNat < 2 ^ 62 := Nat.lt_of_lt_of_le p1 p2; omega
    have := shl64_eq (a := 1) (k := w) (by decide) (by omega) q
    rw [this]; show ((1 * 2 ^ w.toNat : Nat) : Int) = _; rw [Nat.one_mul]
  have e2 : or64 d (shl64 1 w) = ((d.toNat ||| 2 ^ w.toNat : Nat) : Int) := by
    rw [e1, or64_pos (b := ((2 ^ w.toNat : Nat) : Int)) hdb ⟨Int.natCast_nonneg _, Int.ofNat_lt.mpr (Nat.lt_of_lt_of_le p1 (Nat.le_trans p2 (by decide)))⟩, Int.toNat_natCast]
  have p3 := Nat.or_lt_two_pow hdn p1
  rw [e2, Int.toNat_natCast]
  refine ⟨Int.natCast_nonneg _, p3, fun v h1 h2 => ?_⟩
  rw [bitJ_tb (d := ((d.toNat ||| 2 ^ w.toNat : Nat) : Int)) ⟨Int.natCast_nonneg _, Int.ofNat_lt.mpr (Nat.lt_of_lt_of_le p3 (Nat.le_trans p2 (by decide)))⟩ ⟨h1, h2⟩, bitJ_tb hdb ⟨h1, h2⟩, Int.toNat_natCast, Nat.testBit_or, Nat.testBit_two_pow]
  by_cases h : v = w
  · subst h; simp
  · rw [if_neg h]
    have : ¬ w.toNat = v.toNat := by omega
    simp [this]
theorem bitJ_0 {w : Int} (hw : 0 ≤ w ∧ w < 64) : bitJ 0 w = 0 := by
  rw [bitJ_tb (by decide) hw]; simp
theorem c_tapeAt {sh : Sh} (h : St sh) (I : Mi) (J : Mj) {i : Int} (h1 : 0 ≤ i) (h2 : i < 740) : uX7_at 1 i (sh, I, J) = some (ri I 2 i) := by
  simp (disch := omega) only [uX7_at, SEg h, SEr h, SEa h, SEk h, SEj h, SEl h, SEp h, SEs h, bd_some, bd2_some, if_neg]
/-- the COINS that the tape tells are COINS, and unlike -/
def UnL (S : Int → Int) (t : Nat → Int) (n : Nat) : Prop := (∀ i, i < n → isC S (t i)) ∧ ∀ i j, i < j → j < n → t i ≠ t j
theorem unlike2 {sh sh2 : Sh} (h : St sh) (h2 : St sh2) {A B : Mi} {nm : Int → Int} (JA JB : Mj) {S : Int → Int} (r : RepC A S nm) (eS : ri B 59 = S) {n b s m p : Int} (hn : 1 ≤ n ∧ n ≤ 40) (ht : ∀ k, 0 ≤ k → k < 740 → ri A 2 k = ri B 58 k) :
    (UnL S (fun i => ri B 58 (i : Int)) n.toNat ∧ uX9_tellsUnlikeCoins 0 n (sh, A, JA) = some 1 ∧ ∃ B1, lp (uX10_sale_f80 57 b s m p n) fu (0, 0, (sh2, B, JB)) = some (.inl (sh2, B1, JB)) ∧ (∀ a, a ≠ 67 → B1 a = B a) ∧ ∀ i : Nat, (i : Int) < n → ri B1 67 i = ri B 58 i) ∨ (uX9_tellsUnlikeCoins 0 n (sh, A, JA) = some 0 ∧ ∃ B1, lp (uX10_sale_f80 57 b s m p n) fu (0, 0, (sh2, B, JB)) = some (.inr (-1, (sh2, B1, JB))) ∧ (∀ a, a ≠ 67 → B1 a = B a)) := by
  have u0 := r.iC.1
  obtain ⟨b1, b2, l1, l2, q⟩ := lp_two (f := uX9_tellsUnlikeCoins_f18 0 n (sh, A, JA)) (g := uX10_sale_f80 57 b s m p n) (x := (0, 0)) (y := (0, 0, (sh2, B, JB))) (fun i a a' => ∃ d B1, a = (d, (i : Int)) ∧ a' = (d, (i : Int), (sh2, B1, JB)) ∧ (0 ≤ d ∧ d.toNat < 2 ^ 40) ∧ (∀ v, 0 ≤ v → v < 40 → bitJ d v = 1 ∨ bitJ d v = 0) ∧ (∀ v, 0 ≤ v → v < 40 → (bitJ d v = 1 ↔ ∃ j : Nat, j < i ∧ ri B 58 j = v)) ∧ UnL S (fun i => ri B 58 (i : Int)) i ∧ (∀ a, a ≠ 67 → B1 a = B a) ∧ ∀ j : Nat, j < i → ri B1 67 j = ri B 58 j)
    (fun x y => (x = .inl () ∧ UnL S (fun i => ri B 58 (i : Int)) n.toNat ∧ ∃ B1, y = .inl (sh2, B1, JB) ∧ (∀ a, a ≠ 67 → B1 a = B a) ∧ ∀ i : Nat, (i : Int) < n → ri B1 67 i = ri B 58 i) ∨ (x = .inr 0 ∧ ∃ B1, y = .inr (-1, (sh2, B1, JB)) ∧ ∀ a, a ≠ 67 → B1 a = B a)) n.toNat
    ⟨0, B, rfl, rfl, by decide, fun v h1 h2 => .inr (bitJ_0 (by omega)), fun v h1 h2 => ⟨fun q => absurd ((bitJ_0 (w := v) (by omega)).symm.trans q) (by decide), fun ⟨j, hj, _⟩ => absurd hj (Nat.not_lt_zero _)⟩, ⟨fun i hi => by omega, fun i j _ hj => by omega⟩, fun _ _ => rfl, fun j hj => by omega⟩ (fun i a a' hi ⟨d, B1, e1, e2, d1, d2, d3, d4, d5, d6⟩ => by
      subst e1 e2
      by_cases hin : (i : Int) = n
      · right
        refine ⟨_, _, ?_, ?_, .inl ⟨rfl, by rw [show n.toNat = i from by omega]; exact d4, B1, rfl, d5, fun j hj => d6 j (by omega)⟩⟩
        · simp (disch := omega) only [uX9_tellsUnlikeCoins_f18, uX9_tellsUnlikeCoins_s18]; rw [if_pos (by omega)]
        · simp (disch := omega) only [uX10_sale_f80, uX10_sale_s80]; rw [if_pos (by omega)]
      · have e58 : ri B1 58 i = ri B 58 i := ri_of _ _ _ (d5 58 (by decide))
        have e59 : ri (we B1 67 i (ri B 58 i)) 59 = S := by rw [← eS]; exact ri_fun ((we_at _ _ _ (by decide)).trans (d5 59 (by decide)))
        have eg : ri (we B1 67 i (ri B 58 i)) 67 i = ri B 58 i := by rw [ri_we _ _ _ _ (by omega) (by omega), if_pos ⟨rfl, rfl⟩, w32_eq (ri_rng _ _ _)]
        have fB : ∀ a, a ≠ 67 → we B1 67 i (ri B 58 i) a = B a := fun a ha => by rw [we_at _ _ _ ha]; exact d5 a ha
        have d30 : d < 2 ^ 62 := by
          have : (2 : Nat) ^ 40 ≤ 2 ^ 62 := by decide
          omega
        by_cases hc : isC S (ri B 58 i)
        · have us := ushr64_shr (a := d) (k := ri B 58 i) (by omega) (by omega)
          have eb : and64 (shr64 d (ri B 58 i)) 1 = bitJ d (ri B 58 i) := rfl
          by_cases hb : bitJ d (ri B 58 i) = 1
          · right
            refine ⟨_, _, ?_, ?_, .inr ⟨rfl, we B1 67 i (ri B 58 i), rfl, fB⟩⟩
            · simp (disch := omega) only [uX9_tellsUnlikeCoins_f18, uX9_tellsUnlikeCoins_s18, SEg h, SEr h, SEa h, SEk h, SEj h, SEl h, SEp h, SEs h, bd_some, bd2_some, c_tapeAt h, ht, c_isCoin h r, bz_0, us, eb, hb]
              rw [if_neg (by omega), if_neg (fun q => q hc), if_neg (by decide)]
            · have h := h2
              simp (disch := omega) only [uX10_sale_f80, uX10_sale_s80, SEg h, SEr h, SEa h, SEk h, SEj h, SEl h, SEp h, SEs h, bd_some, bd2_some, e58, eg, rX_isCoin h, e59, bz_0, eb, hb]
              rw [if_neg (by omega), if_neg (fun q => q hc), if_pos trivial]
          · left
            have hb0 : bitJ d (ri B 58 i) = 0 := by rcases d2 _ hc.1 (by omega) with q | q; exact absurd q hb; exact q
            obtain ⟨o1, o2, o3⟩ := bitJ_or (d := d) (w := ri B 58 i) (n := 40) d1.1 d1.2 (by decide) hc.1 (by omega)
            refine ⟨by omega, (or64 d (shl64 1 (ri B 58 i)), (i : Int) + 1), (or64 d (shl64 1 (ri B 58 i)), (i : Int) + 1, (sh2, we B1 67 i (ri B 58 i), JB)), ?_, ?_, _, _, rfl, rfl, ⟨o1, o2⟩, fun v v1 v2 => ?_, fun v v1 v2 => ?_, ⟨fun j hj => ?_, fun j j' hj hj' => ?_⟩, fB, fun j hj => ?_⟩
            · simp (disch := omega) only [uX9_tellsUnlikeCoins_f18, uX9_tellsUnlikeCoins_s18, SEg h, SEr h, SEa h, SEk h, SEj h, SEl h, SEp h, SEs h, bd_some, bd2_some, c_tapeAt h, ht, c_isCoin h r, bz_0, us, eb, hb0, w32_id, w64_id]
              rw [if_neg (by omega), if_neg (fun q => q hc), if_pos trivial]
            · have h := h2
              simp (disch := omega) only [uX10_sale_f80, uX10_sale_s80, SEg h, SEr h, SEa h, SEk h, SEj h, SEl h, SEp h, SEs h, bd_some, bd2_some, e58, eg, rX_isCoin h, e59, bz_0, eb, hb0, w32_id, w64_id]
              rw [if_neg (by omega), if_neg (fun q => q hc), if_neg (by decide)]
            · rw [o3 v v1 (by omega)]; split
              · exact .inl rfl
              · exact d2 v v1 v2
            · rw [o3 v v1 (by omega)]
              by_cases hv : v = ri B 58 i
              · rw [if_pos hv]; exact ⟨fun _ => ⟨i, by omega, hv.symm⟩, fun _ => rfl⟩
              · rw [if_neg hv, d3 v v1 v2]
                exact ⟨fun ⟨j, hj, hj2⟩ => ⟨j, by omega, hj2⟩, fun ⟨j, hj, hj2⟩ => ⟨j, by
                  by_cases hji : j = i
                  · subst hji; exact absurd hj2.symm hv
                  · omega, hj2⟩⟩
            · by_cases hji : j = i
              · subst hji; exact hc
              · exact d4.1 j (by omega)
            · by_cases hji : j' = i
              · subst hji; intro q
                exact hb ((d3 _ hc.1 (by omega)).mpr ⟨j, hj, q⟩)
              · exact d4.2 j j' hj (by omega)
            · rw [ri_we _ _ _ _ (by omega) (by omega), w32_eq (ri_rng _ _ _)]
              by_cases hji : j = i
              · subst hji; rw [if_pos ⟨rfl, rfl⟩]
              · rw [if_neg (by omega)]; exact d6 j (by omega)
        · right
          refine ⟨_, _, ?_, ?_, .inr ⟨rfl, we B1 67 i (ri B 58 i), rfl, fB⟩⟩
          · simp (disch := omega) only [uX9_tellsUnlikeCoins_f18, uX9_tellsUnlikeCoins_s18, SEg h, SEr h, SEa h, SEk h, SEj h, SEl h, SEp h, SEs h, bd_some, bd2_some, c_tapeAt h, ht, c_isCoin h r, bz_0]
            rw [if_neg (by omega), if_pos hc]
          · have h := h2
            simp (disch := omega) only [uX10_sale_f80, uX10_sale_s80, SEg h, SEr h, SEa h, SEk h, SEj h, SEl h, SEp h, SEs h, bd_some, bd2_some, e58, eg, rX_isCoin h, e59, bz_0]
            rw [if_neg (by omega), if_pos hc]) (by omega)
  have ec : uX9_tellsUnlikeCoins 0 n (sh, A, JA) = uX9_tellsUnlikeCoins_c18 0 n (sh, A, JA) b1 := by
    simp only [uX9_tellsUnlikeCoins, uX9_tellsUnlikeCoins_b18, l1, bd_some]
    rw [if_neg (by omega), if_pos hn.2]
  rcases q with ⟨rfl, q1, B1, rfl, q2, q3⟩ | ⟨rfl, B1, rfl, q2⟩
  · exact .inl ⟨q1, ec, B1, l2, q2, q3⟩
  · exact .inr ⟨ec, B1, l2, q2⟩
