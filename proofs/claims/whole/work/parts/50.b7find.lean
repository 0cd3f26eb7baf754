theorem c_findP {sh : Sh} (h : St sh) {I : Mi} {S nm : Int → Int} (r : RepC I S nm) (J : Mj) {b s m p : Int} (hb : isW S b) (hs : isW S s) (hm : isM S m) (hp : 1 ≤ p ∧ p ≤ 2000) {G : Int → Int} (hG : G = fun c => oc S c 0) {W : Int → Int → Int} (hW : W = wvS S b s m (lkS S)) {l : List Int} (hL : l = lkL S b (S 108).toNat) : ∃ I', uX0_find 44 16 b s m p (sh, I, J) = some ((if DU G W (us W l) p < 100000000 then DU G W (us W l) p / 16 else -1), (sh, I', J)) ∧ (∀ a, a < 44 ∨ 51 < a → I' a = I a) ∧ ∀ ws, WY G W l p ws → DU G W (us W l) p < 100000000 → gi I' 44 0 = l.length ∧ (∀ (i : Nat) c, l[i]? = some c → ri I' 45 i = c) ∧ (∀ (j : Nat) x, ws[j]? = some x → ri I' 46 j = x) ∧ gi I' 44 11 = gvn ws ∧ gi I' 44 12 = rst ws ∧ gi I' 44 13 = vls W l ws := by
  have hk := lkS_b r.iL
  have lb := lkL_b S b (S 108).toNat
  rw [← hL] at lb
  have u0 := r.iC.1
  have hC : ∀ c ∈ l, isC S c := fun c hc => ⟨(lb.2.2 c hc).1, by have := (lb.2.2 c hc).2; omega⟩
  have ok : OkW G W l := by rw [hG, hW]; exact wvS_ok r.iL r.iC hb hs hk hC
  obtain ⟨I1, st1, f1, n1, d1⟩ := c_lookAt h r J b
  rw [← hL] at n1 d1
  obtain ⟨I2, hI2⟩ : ∃ I2, I2 = wi I1 44 4 0 := ⟨_, rfl⟩
  have r2 : RepC I2 S nm := r.fr fun a _ _ => by rw [hI2, wi_at _ _ _ (by omega)]; exact f1.1 a (by omega) (by omega)
  have n2 : gi I2 44 0 = l.length := by rw [hI2, gi_wiw, if_neg (by decide)]; exact n1
  have m2 : gi I2 44 4 = 0 := by rw [hI2, gi_wiw, if_pos ⟨rfl, rfl⟩]; rfl
  have d2 : ∀ (i : Nat) c, l[i]? = some c → ri I2 45 i = c := fun i c q => by rw [hI2, ri_wi _ _ _ _ (by decide)]; exact d1 i c q
  obtain ⟨I3, st3, f3, n3, d3⟩ := c_findL h r2 J hb hs hm lb.1 hC n2 m2 d2 p
  rw [← hW, ← hG] at d3
  rw [← hW, List.take_length] at n3
  have hul : (us W l).length ≤ 12 := by have := us_len W l; omega
  have okU := ok.us
  have p50 : ∀ (u : Nat) c t, (us W l).drop u = c :: t → ri I3 49 u = G c ∧ ri I3 50 u = mx W c := fun u c t q => by
    obtain ⟨j, t', q1, q2, q3, q4⟩ := us_pos q
    have := (d3 j c (drop_1 q1).2.1 (get_dr q1)).2.2 q3
    rw [q4] at this
    exact this.2
  obtain ⟨I4, st4, f4, d4⟩ := c_sumW h I3 J okU hul n3 (fun u c t q => (p50 u c t q).2)
  obtain ⟨I5, hI5⟩ : ∃ I5, I5 = wi I4 44 9 (-1) := ⟨_, rfl⟩
  have g5 : gi I5 44 9 = -1 := by rw [hI5, gi_wiw, if_pos ⟨rfl, rfl⟩]; rfl
  have s5 : ∀ a, a ≠ 44 → a ≠ 51 → I5 a = I3 a := fun a q1 q2 => by rw [hI5, wi_at _ _ _ q1, f4 a q2]
  have t5 : ∀ j, j ≠ 9 → I5 44 j = I3 44 j := fun j q => by rw [hI5, wi_nc _ _ (fun z => q z.2), f4 44 (by decide)]
  have U5 : UsR G W I5 (us W l) := ⟨⟨by rw [gi_fk (t5 4 (by decide))]; exact n3, hul⟩, fun u c t q => by
    rw [ri_of I3 I5 _ (s5 49 (by decide) (by decide)), ri_of I3 I5 _ (s5 50 (by decide) (by decide)), hI5, ri_wi _ _ _ _ (by decide)]
    exact ⟨(p50 u c t q).1, (p50 u c t q).2, d4 u c t q⟩⟩
  have L5 : LkR W I5 l (us W l) := fun i c t q => by
    have dd := d3 i c (drop_1 q).2.1 (get_dr q)
    refine ⟨?_, fun x x1 x5 => ?_, fun u hm' hd => ?_⟩
    · rw [ri_of I3 I5 _ (s5 45 (by decide) (by decide)), ri_of I2 I3 _ (f3.1 45 (by decide) (by decide) (by decide) (by decide) (by decide) (by decide))]
      exact d2 i c (get_dr q)
    · rw [ri_of I3 I5 _ (s5 47 (by decide) (by decide))]; exact dd.2.1 x x1 x5
    · rw [ri_of I3 I5 _ (s5 48 (by decide) (by decide)), ← us_at q hm' hd]
      exact (dd.2.2 hm').1
  have V5 : Vc I5 = 100000000 := by unfold Vc; rw [if_pos g5]
  obtain ⟨I6, st6, f6, o6, v6⟩ := c_seek h J okU 16 0 (us W l) 0 0 p I5 U5 rfl (by omega) (Nat.zero_le _) (.inl g5) (by omega) (by omega) (by omega)
  rw [V5] at v6
  rw [show ((0 : Nat) : Int) = 0 from rfl] at st6
  have bD := DU_b okU p
  obtain ⟨D, hD⟩ : ∃ D, D = DU G W (us W l) p := ⟨_, rfl⟩
  rw [← hD] at bD v6 ⊢
  simp (maxSteps := 3000000) (disch := omega) only [uX0_find, SEg h, SEr h, SEa h, SEk h, SEj h, SEl h, SEp h, SEs h, bd_some, bd2_some, st1, ← hI2, c_luckNow h r2, c_hundredths h r2 J hs hb hk, uX0_find_b30, st3, uX0_find_c30, uX0_find_b83, st4, ← hI5, Int.natCast_zero, st6]
  have F6 : ∀ a, a < 44 ∨ 51 < a → I6 a = I a := fun a q => by
    rw [f6.1 a (by omega), s5 a (by omega) (by omega), f3.1 a (by omega) (by omega) (by omega) (by omega) (by omega) (by omega), hI2, wi_at _ _ _ (by omega), f1.1 a (by omega) (by omega)]
  by_cases c9 : gi I6 44 9 = -1
  · have hv : Vc I6 = 100000000 := by unfold Vc; rw [if_pos c9]
    have hno : ¬ D < 100000000 := fun q => by rw [if_pos (by omega)] at v6; omega
    rw [if_pos c9, if_neg hno, c9]
    exact ⟨I6, rfl, F6, fun ws _ q => absurd q hno⟩
  · have hv : Vc I6 = 16 * gi I6 44 9 + gi I6 44 10 := by unfold Vc; rw [if_neg c9]
    have ho : (0 ≤ gi I6 44 9 ∧ gi I6 44 9 ≤ 119988) ∧ 0 ≤ gi I6 44 10 ∧ gi I6 44 10 ≤ 12 := o6.resolve_left c9
    have hyes : D < 100000000 := by
      apply Classical.byContradiction
      intro q
      rw [if_neg (by omega)] at v6
      omega
    rw [if_pos (by omega)] at v6
    rw [if_neg c9, if_pos hyes]
    obtain ⟨ws, hY, hwl⟩ := WY_ex ok p
    obtain ⟨I7, hI7⟩ : ∃ I7, I7 = wi (wi I6 44 11 0) 44 12 0 := ⟨_, rfl⟩
    have g9 : gi I7 44 9 = gi I6 44 9 := by rw [hI7, gi_wiw, if_neg (by decide), gi_wiw, if_neg (by decide)]
    have g10 : gi I7 44 10 = gi I6 44 10 := by rw [hI7, gi_wiw, if_neg (by decide), gi_wiw, if_neg (by decide)]
    have g11 : gi I7 44 11 = 0 := by rw [hI7, gi_wiw, if_neg (by decide), gi_wiw, if_pos ⟨rfl, rfl⟩]; rfl
    have g12 : gi I7 44 12 = 0 := by rw [hI7, gi_wiw, if_pos ⟨rfl, rfl⟩]; rfl
    have f7 : FrW I6 I7 := ⟨fun a q _ => by rw [hI7, wi_at _ _ _ q, wi_at _ _ _ q], fun j q1 q2 => by rw [hI7, wi_nc _ _ (fun z => q2 z.2), wi_nc _ _ (fun z => q1 z.2)]⟩
    have a46 : ∀ j : Nat, 0 ≤ j → j < l.length → ri I7 46 j = 0 := fun j _ hj => by
      rw [hI7, ri_wi _ _ _ _ (by decide), ri_wi _ _ _ _ (by decide), ri_of I5 I6 _ (f6.1 46 (by decide)), ri_of I3 I5 _ (s5 46 (by decide) (by decide))]
      exact (d3 j _ hj (List.getElem?_eq_getElem hj)).1
    have L6 : LkR W I6 l (us W l) := fun i c t q => by
      rw [ri_of I5 I6 _ (f6.1 45 (by decide))]
      have := L5 i c t q
      exact ⟨this.1, fun x x1 x5 => by rw [ri_of I5 I6 _ (f6.1 47 (by decide))]; exact this.2.1 x x1 x5, fun u u1 u2 => by rw [ri_of I5 I6 _ (f6.1 48 (by decide))]; exact this.2.2 u u1 u2⟩
    obtain ⟨I8, st8, f8, _, w8, n8, m8⟩ := c_chooseL h J lb.1 ok p l fu 0 0 (gi I6 44 9) p (gi I6 44 10) I7 ws rfl rfl (by unfold fu; omega) ((U5.fr f6).frW f7) (L6.frW f7) (by omega) (by omega) (by rw [g10, g11]; omega) ho.2 (by omega) (by omega) (by omega) (by omega) a46 hY
    rw [show ((0 : Nat) : Int) = 0 from rfl] at st8
    have vb := vls_b (ws := ws) ok
    have e9 : ∀ x, gi (wi I8 44 13 x) 44 9 = gi I6 44 9 := fun x => by rw [gi_wiw, if_neg (by decide), gi_fk (f8.2 9 (by decide) (by decide)), g9]
    simp (disch := omega) only [uX0_chooseWays, SEg h, SEr h, SEa h, SEk h, SEj h, SEl h, SEp h, SEs h, bd_some, bd2_some, ← hI7, uX0_chooseWays_b20, st8, uX0_chooseWays_c20, uX0_chooseWays_b137, e9]
    rw [show p - (p - vls W l ws) = vls W l ws from by omega, w32_id (by omega) (by omega)]
    refine ⟨wi I8 44 13 (vls W l ws), ?_, fun a q => by rw [wi_at _ _ _ (by omega), f8.1 a (by omega) (by omega), f7.1 a (by omega) (by omega)]; exact F6 a q, fun ws' hY' _ => ?_⟩
    · rw [show gi I6 44 9 = D / 16 from by omega]
    · rw [WY_un hY' hY]
      refine ⟨?_, fun i c q => ?_, fun j x q => ?_, ?_, ?_, ?_⟩
      · rw [gi_wiw, if_neg (by decide), gi_fk (f8.2 0 (by decide) (by decide)), gi_fk (f7.2 0 (by decide) (by decide)), gi_fk (f6.2 0 (by decide) (by decide)), gi_fk (t5 0 (by decide)), gi_fk (f3.2 0 (by decide))]
        exact n2
      · rw [ri_wi _ _ _ _ (by decide), ri_of I7 I8 _ (f8.1 45 (by decide) (by decide)), ri_of I6 I7 _ (f7.1 45 (by decide) (by decide)), ri_of I5 I6 _ (f6.1 45 (by decide)), ri_of I3 I5 _ (s5 45 (by decide) (by decide)), ri_of I2 I3 _ (f3.1 45 (by decide) (by decide) (by decide) (by decide) (by decide) (by decide))]
        exact d2 i c q
      · rw [ri_wi _ _ _ _ (by decide)]
        have := w8 j x q
        rw [Nat.zero_add] at this
        exact this
      · rw [gi_wiw, if_neg (by decide), n8, g11]; omega
      · rw [gi_wiw, if_neg (by decide), m8, g12]; omega
      · rw [gi_wiw, if_pos ⟨rfl, rfl⟩, w32_id (by omega) (by omega)]
