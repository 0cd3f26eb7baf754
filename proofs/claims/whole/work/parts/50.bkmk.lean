theorem r_draw {sh : Sh} (h : St sh) {B : Mi} (J : Mj) {sd n : Int} (h41 : gi B 57 41 = w32 sd) (hn : 1 ≤ n ∧ n ≤ 1000) : uX10_draw 57 n (sh, B, J) = some (dr (nx sd) n, (sh, wi B 57 41 (nx sd), J)) := by
  have e : w32 (w32 (w32 sd * 1103515245) + 12345) = nx sd := nx_w sd
  have e2 : gi (wi B 57 41 (nx sd)) 57 41 = nx sd := by rw [gi_wiw, if_pos ⟨rfl, rfl⟩, w32_nx]
  simp only [uX10_draw, SEg h, SEr h, SEa h, SEk h, SEj h, SEl h, SEp h, SEs h, bd_some, bd2_some, h41, e, e2, (dr_rem (nx sd) hn).1]
/-- what a market keeps of the reference's cells -/
def FrM (B B' : Mi) : Prop := (∀ a, a ≠ 57 → a ≠ 59 → a ≠ 68 → a ≠ 69 → a ≠ 70 → a ≠ 72 → B' a = B a) ∧ ∀ j, j ≠ 31 → j ≠ 41 → B' 57 j = B 57 j
theorem FrM.trans {B B1 B2 : Mi} (f : FrM B B1) (g : FrM B1 B2) : FrM B B2 := ⟨fun a a1 a2 a3 a4 a5 a6 => by rw [g.1 a a1 a2 a3 a4 a5 a6]; exact f.1 a a1 a2 a3 a4 a5 a6, fun j j1 j2 => by rw [g.2 j j1 j2]; exact f.2 j j1 j2⟩
theorem FrM.sd (B : Mi) (x : Int) : FrM B (wi B 57 41 x) := ⟨fun a a1 _ _ _ _ _ => wi_at _ _ _ a1, fun j _ j2 => wi_nc _ _ (fun q => j2 q.2)⟩
theorem r_mkL {sh : Sh} (h : St sh) (J : Mj) {P Q : Int} (hP : 1 ≤ P ∧ P ≤ 8) (hQ : 1 ≤ Q ∧ Q ≤ 4) {n : Nat} (hn : n ≤ 50) {f' : Int} {S' : Int → Int} : ∀ (k fl j : Nat) (sd f : Int) (B : Mi) (S : Int → Int), ri B 59 = S → InvL S → InvC S → S 0 = P → S 1 = Q → gi B 57 41 = w32 sd → k < fl → j + k = n → (0 ≤ f ∧ f ≤ j) → MkR P Q k sd S f f' S' → ∃ B', lp (uX10_market_f49 57 n) fl (f, (j : Int), (sh, B, J)) = some (f', (sh, B', J)) ∧ FrM B B' ∧ ri B' 59 = S' ∧ Lat S S'
  | _, 0, j, sd, f, B, S, eS, v, u, s0, s1, h41, hf, hj, hb, hM => by omega
  | 0, fl + 1, j, sd, f, B, S, eS, v, u, s0, s1, h41, hf, hj, hb, hM => by
    obtain ⟨e1, e2⟩ := hM
    refine ⟨B, ?_, ⟨fun _ _ _ _ _ _ _ => rfl, fun _ _ _ => rfl⟩, by rw [e2]; exact eS, by rw [e2]; exact Lat.refl _⟩
    rw [e1]
    apply lp_r
    simp only [uX10_market_f49, uX10_market_s49]
    rw [if_pos (by omega)]
  | k + 1, fl + 1, j, sd, f, B, S, eS, v, u, s0, s1, h41, hf, hj, hb, hM => by
    obtain ⟨x, S1, t1, ⟨v1, u1⟩, hM1⟩ := hM
    obtain ⟨lat1, xb⟩ := t1.lat v u
    have es0 : S1 0 = P := by rw [← s0]; exact (lat1.1 0 (by decide) (by decide) (by decide)).symm
    have es1 : S1 1 = Q := by rw [← s1]; exact (lat1.1 1 (by decide) (by decide) (by decide)).symm
    obtain ⟨B1, hB1⟩ : ∃ B1, B1 = wi B 57 41 (nx sd) := ⟨_, rfl⟩
    obtain ⟨B2, hB2⟩ : ∃ B2, B2 = wi B1 57 41 (nx (nx sd)) := ⟨_, rfl⟩
    obtain ⟨B3, hB3⟩ : ∃ B3, B3 = wi B2 57 41 (nx (nx (nx sd))) := ⟨_, rfl⟩
    obtain ⟨B4, hB4⟩ : ∃ B4, B4 = wi B3 57 41 (nx (nx (nx (nx sd)))) := ⟨_, rfl⟩
    have g1 : gi B1 57 41 = w32 (nx sd) := by rw [hB1, gi_wiw, if_pos ⟨rfl, rfl⟩]
    have g2 : gi B2 57 41 = w32 (nx (nx sd)) := by rw [hB2, gi_wiw, if_pos ⟨rfl, rfl⟩]
    have g3 : gi B3 57 41 = w32 (nx (nx (nx sd))) := by rw [hB3, gi_wiw, if_pos ⟨rfl, rfl⟩]
    have g4 : gi B4 57 41 = w32 (n4 sd) := by rw [hB4, gi_wiw, if_pos ⟨rfl, rfl⟩]; rfl
    have b1 : ri B1 59 = S := by rw [hB1, ← eS]; exact ri_fun (wi_at _ _ _ (by decide))
    have b2 : ri B2 59 = S := by rw [hB2, ← b1]; exact ri_fun (wi_at _ _ _ (by decide))
    have b3 : ri B3 59 = S := by rw [hB3, ← b2]; exact ri_fun (wi_at _ _ _ (by decide))
    have b4 : ri B4 59 = S := by rw [hB4, ← b3]; exact ri_fun (wi_at _ _ _ (by decide))
    have d1 := r_draw h J (n := P) h41 (by omega)
    have d2 := r_draw h J (n := P) g1 (by omega)
    have d3 := r_draw h J (n := Q) g2 (by omega)
    have d4 := r_draw h J (n := 200) g3 (by decide)
    rw [← hB1] at d1
    rw [← hB2] at d2
    rw [← hB3] at d3
    rw [← hB4] at d4
    have p0 : ri B 59 0 = P := by rw [eS]; exact s0
    have p1 : ri B1 59 0 = P := by rw [b1]; exact s0
    have p2 : ri B2 59 0 = P := by rw [b2]; exact s0
    have q2 : ri B2 59 1 = Q := by rw [b2]; exact s1
    obtain ⟨y, C1, c1, c2, c3⟩ := r_trade h (B := B4) J b4 v u t1
    have fr4 : FrM B B4 := (FrM.sd B _).trans (by rw [← hB1]; exact (FrM.sd B1 _).trans (by rw [← hB2]; exact (FrM.sd B2 _).trans (by rw [← hB3, hB4]; exact FrM.sd B3 _)))
    have frC : FrM B4 C1 := ⟨fun a a1 a2 a3 a4 a5 a6 => c2.1 a a1 a3 a4 a5 a6, fun j' j1 j2 => c2.2 j' j1⟩
    have gC : gi C1 57 41 = w32 (n4 sd) := by rw [gi_fk (c2.2 41 (by decide))]; exact g4
    have bD := (dr_rem (nx (nx sd)) (n := P) (by omega)).2
    have bP := (dr_rem (nx (nx (nx (nx sd)))) (n := 200) (by decide)).2
    have eP : w32 (dr (nx (nx (nx (nx sd)))) 200 + 1) = tP sd := w32_id (by omega) (by omega)
    have eM : dr (nx (nx (nx sd))) Q = tM Q sd := rfl
    have key : ∃ C2, (∀ sl, sl = tS P sd → uX10_market_b93 57 n f j (tB P sd) sl (sh, B2, J) = some (.inl (f + x, ((j + 1 : Nat) : Int), (sh, C2, J)))) ∧ FrM B4 C2 ∧ ri C2 59 = S1 ∧ gi C2 57 41 = w32 (n4 sd) := by
      rcases c3 with ⟨hx, hy, he⟩ | ⟨hx, hy, tp, C2, w1, w2, w3, w4, w5⟩
      · refine ⟨C1, fun sl e => ?_, frC, he, gC⟩
        subst e
        simp only [uX10_market_b93, SEg h, SEr h, SEa h, SEk h, SEj h, SEl h, SEp h, SEs h, bd_some, bd2_some, rX_mints h, q2, d3, d4, eP, eM, c1]
        rw [if_pos hy, hx, Int.add_zero, w32_id (by omega) (by omega)]; rfl
      · refine ⟨C2, fun sl e => ?_, frC.trans ⟨fun a _ a2 _ _ _ _ => w4 a a2, fun j' _ _ => by rw [w4 57 (by decide)]⟩, w5, by rw [gi_fr (w4 57 (by decide))]; exact gC⟩
        subst e
        simp only [uX10_market_b93, SEg h, SEr h, SEa h, SEk h, SEj h, SEl h, SEp h, SEs h, bd_some, bd2_some, rX_mints h, q2, d3, d4, eP, eM, c1]
        rw [if_neg hy]
        simp only [SEg h, SEr h, SEa h, SEk h, SEj h, SEl h, SEp h, SEs h, bd_some, bd2_some, w1, w2]
        rw [if_pos trivial]
        simp only [SEg h, SEr h, SEa h, SEk h, SEj h, SEl h, SEp h, SEs h, bd_some, bd2_some, w3]
        rw [hx, w32_id (x := f + 1) (by omega) (by omega), w32_id (x := (j : Int) + 1) (by omega) (by omega)]; rfl
    obtain ⟨C2, k1, k2, k3, k4⟩ := key
    obtain ⟨B', s2, f2, e2, l2⟩ := r_mkL h J hP hQ hn k fl (j + 1) (n4 sd) (f + x) C2 S1 k3 v1 u1 es0 es1 k4 (by omega) (by omega) (by omega) hM1
    refine ⟨B', ?_, (fr4.trans k2).trans f2, e2, lat1.trans l2⟩
    rw [← s2]
    apply lp_l
    simp only [uX10_market_f49, uX10_market_s49, SEg h, SEr h, SEa h, SEk h, SEj h, SEl h, SEp h, SEs h, bd_some, bd2_some, rX_people h, p0, d1, p1, d2]
    rw [if_neg (by omega)]
    by_cases z1 : dr (nx (nx sd)) P = dr (nx sd) P
    · have eT : tS P sd = if P ≤ tD P sd + 1 then 0 else tD P sd + 1 := if_pos z1
      have er : rem32 (dr (nx (nx sd)) P + 1) P = some ((dr (nx (nx sd)) P + 1) % P) := rem32_pos (by omega) (by omega)
      rw [if_pos z1]
      simp (disch := omega) only [SEg h, SEr h, SEa h, SEk h, SEj h, SEl h, SEp h, SEs h, bd_some, bd2_some, rX_people h, p2, w32_id, w64_id, er]
      refine k1 _ ?_
      rw [eT]
      show _ = if P ≤ dr (nx (nx sd)) P + 1 then 0 else dr (nx (nx sd)) P + 1
      by_cases z2 : P ≤ dr (nx (nx sd)) P + 1
      · rw [if_pos z2, show dr (nx (nx sd)) P + 1 = P from by omega, Int.emod_self]
      · rw [if_neg z2]; exact Int.emod_eq_of_lt (by omega) (by omega)
    · rw [if_neg z1]
      exact k1 _ (if_neg z1).symm
theorem op_market {sh : Sh} {I : Mi} {J : Mj} (R : Rel (sh, I, J)) (n sd : Int) : ∃ x sh1 I1 J1 I2, uX9_market 0 n sd (sh, I, J) = some (x, (sh1, I1, J1)) ∧ uX10_market 57 n sd (sh1, I1, J1) = some (x, (sh1, I2, J1)) ∧ Rel (sh1, I2, J1) := by
  have h : St sh := R.1.1
  obtain ⟨S, eS⟩ : ∃ S, ri (layI I) 59 = S := ⟨_, rfl⟩
  have r : RepC I S (rj J 63) := by have : RepC I (ri (layI I) 59) (rj J 63) := R.1.2.2.2.2.1; rwa [eS] at this
  have v0 := r.iL.1
  have v1 := r.iL.2.1
  have kp0 : KpC I I J J := KpC.refl I J
  have eB : ri (layI (wi I 57 0 0)) 59 = S := (ri_fun (lay_ag kp0 0).1.2.1).trans eS
  have eP := r.people
  have eQ := r.mints
  by_cases ok : (1 ≤ n ∧ n ≤ 50) ∧ 1 ≤ S 0 ∧ 1 ≤ S 1
  · have R2 : Rel2 sh I (layI (wi I 57 0 0)) J := R.lay kp0 0
    obtain ⟨sh', A1, J1, p1, p2, p3, p4, p5⟩ := push R2 J
    have ej : rj J1 63 = rj J 63 := rj_fun (p4 63 (by decide))
    have rA1 : RepC A1 S (rj J1 63) := by rw [ej]; exact r.fr fun a _ _ => p3 a (by omega) (by omega)
    obtain ⟨N, hN⟩ : ∃ N : Nat, (N : Int) = n := ⟨n.toNat, by omega⟩
    obtain ⟨f', S', A2, m1, m2, m3, m4⟩ := c_mkL p2 J1 (P := S 0) (Q := S 1) (by omega) (by omega) (n := N) (by omega) N fu 0 sd 0 A1 S rA1 (by unfold fu; omega) (by omega) (by decide)
    have kp2 : KpC I A2 J J1 := fun a q1 q2 => ⟨by rw [m3 a (by omega), p3 a (by omega) (by omega)], p4 a (by omega)⟩
    have RB := R.lay kp2 0
    obtain ⟨Bn, s1, s2, s3, RB1⟩ := p5 _ J1 RB sh' p2
    have eB2 : ri (layI (wi A2 57 0 0)) 59 = S := (ri_fun (lay_ag kp2 0).1.2.1).trans eS
    have eBn : ri Bn 59 = S := (ri_fun (s2 59 (by decide) (by decide))).trans eB2
    obtain ⟨Bs, hBs⟩ : ∃ Bs, Bs = wi Bn 57 41 sd := ⟨_, rfl⟩
    have eBs : ri Bs 59 = S := by rw [hBs, ← eBn]; exact ri_fun (wi_at _ _ _ (by decide))
    obtain ⟨B', q1, q2, q3, q4⟩ := r_mkL p2 J1 (P := S 0) (Q := S 1) (by omega) (by omega) (n := N) (by omega) N fu 0 sd 0 Bs S eBs r.iL r.iC rfl rfl (by rw [hBs, gi_wiw, if_pos ⟨rfl, rfl⟩]) (by unfold fu; omega) (by omega) (by decide) m2
    have fB : FrM Bn B' := (FrM.sd Bn sd).trans (by rw [← hBs]; exact q2)
    have g57 : ∀ j, j ≠ 31 → j ≠ 41 → gi B' 57 j = gi Bn 57 j := fun j j1 j2 => gi_fk (fB.2 j j1 j2)
    have fA : ∀ a, a < 26 ∨ (36 < a ∧ a < 44) ∨ 51 < a → A2 a = A1 a := m3
    have fa : ∀ a, a < 26 ∨ (36 < a ∧ a < 44) ∨ 51 < a → A2 a = A1 a := m3
    refine ⟨f', sh', A2, J1, B', ?_, ?_, Rel.fin (A := A2) (RB1.act (fun a ha => m3 a (by omega)) ⟨⟨fB.1 61 (by decide) (by decide) (by decide) (by decide) (by decide) (by decide), fB.1 62 (by decide) (by decide) (by decide) (by decide) (by decide) (by decide), fB.1 66 (by decide) (by decide) (by decide) (by decide) (by decide) (by decide)⟩, g57 22 (by decide) (by decide), g57 23 (by decide) (by decide)⟩ (by rw [q3]; exact m4) (by rw [eBn, q3]; exact q4.1) (by rw [eBn, q3]; exact q4.2.1) (by rw [eBn, q3]; exact q4.2.2) ?_ ?_ ?_ ?_) fun a ha => ?_⟩
    · rw [show ((0 : Nat) : Int) = 0 from rfl, hN] at m1
      simp only [uX9_market, SEg h, SEr h, SEa h, SEk h, SEj h, SEl h, SEp h, SEs h, bd_some, bd2_some, eP, eQ]
      rw [if_neg (by omega), if_neg (by omega), if_neg (by omega), if_pos (by omega)]
      simp only [SEg h, SEr h, SEa h, SEk h, SEj h, SEl h, SEp h, SEs h, bd_some, bd2_some, p1, uX9_market_b70, m1, uX9_market_c70, uX9_market_b186]
    · rw [show ((0 : Nat) : Int) = 0 from rfl, hN] at q1
      simp only [uX10_market, SEp p2, SEk p2, SEg p2, bd_some, bd2_some, rX_lay p2, rX_isIn, rX_people p2, rX_mints p2, eB2, bz_0]
      rw [if_neg (fun q => q ok.1), if_neg (by omega), if_neg (by omega)]
      simp only [s1, SEp p2, SEk p2, bd_some, ← hBs, uX10_market_b49, q1, uX10_market_c49, uX10_market_b164]
    · have := RB1.2.2.1
      unfold TapR at *
      rw [gi_of A1 A2 _ (m3 1 (by decide)), g57 2 (by decide) (by decide), ri_fun (m3 2 (by decide)), ri_fun (fB.1 58 (by decide) (by decide) (by decide) (by decide) (by decide) (by decide))]
      exact this
    · rw [gi_of A1 A2 _ (m3 0 (by decide)), g57 10 (by decide) (by decide)]
      exact RB1.2.2.2.1
    · have := RB1.2.2.2.2.2.2.1
      unfold PadR at *
      rw [ri_fun (m3 52 (by decide)), g57 32 (by decide) (by decide), ri_fun (fB.1 71 (by decide) (by decide) (by decide) (by decide) (by decide) (by decide))]
      exact this
    · have := RB1.2.2.2.2.2.2.2.1
      unfold RowR at *
      rw [gi_of A1 A2 _ (m3 53 (by decide)), g57 40 (by decide) (by decide), ri_fun (m3 54 (by decide)), ri_fun (m3 55 (by decide)), ri_fun (fB.1 75 (by decide) (by decide) (by decide) (by decide) (by decide) (by decide)), ri_fun (fB.1 76 (by decide) (by decide) (by decide) (by decide) (by decide) (by decide))]
      exact this
    · rw [fB.1 a (by omega) (by omega) (by omega) (by omega) (by omega) (by omega), s2 a (by omega) (by omega)]; exact KpR.lay A2 0 a ha
  · refine ⟨-1, sh, I, J, _, ?_, ?_, R.rd 0⟩
    · simp only [uX9_market, SEg h, SEr h, SEa h, SEk h, SEj h, SEl h, SEp h, SEs h, bd_some, bd2_some, eP, eQ]
      by_cases c1 : n < 1
      · rw [if_pos c1]
      · rw [if_neg c1]
        by_cases c2 : 50 < n
        · rw [if_pos c2]
        · rw [if_neg c2]
          by_cases c3 : S 0 < 1
          · rw [if_pos c3]
          · rw [if_neg c3, if_neg (by omega)]
    · simp only [uX10_market, SEg h, SEr h, SEa h, SEk h, SEj h, SEl h, SEp h, SEs h, bd_some, bd2_some, rX_lay h, rX_isIn, rX_people h, rX_mints h, eB, bz_0]
      by_cases c1 : 1 ≤ n ∧ n ≤ 50
      · rw [if_neg (fun q => q c1)]
        by_cases c2 : S 0 = 0
        · rw [if_pos c2]
        · rw [if_neg c2, if_pos (by omega)]
      · rw [if_pos c1]
