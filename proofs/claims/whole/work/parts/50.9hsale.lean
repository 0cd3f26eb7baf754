theorem lwN_congr {f g : Nat → Int} (n : Nat) (h : ∀ i, i < n → f i = g i) : lwN f n = lwN g n := by
  induction n with
  | zero => rfl
  | succ n ih => simp only [lwN]; rw [ih (fun i hi => h i (by omega)), h n (by omega)]
theorem suN_congr {f g : Nat → Int} (n : Nat) (h : ∀ i, i < n → f i = g i) : suN f n = suN g n := by
  induction n with
  | zero => rfl
  | succ n ih => simp only [suN]; rw [ih (fun i hi => h i (by omega)), h n (by omega)]
theorem Lat.e0 {S U T : Int → Int} (l : Lat S U) (e : E0 T U) : Lat S T := by
  obtain ⟨l1, ⟨l2, l3, l4, l5⟩, l6, l7, l8⟩ := l
  exact ⟨fun x h1 h2 h3 => by rw [e x h1]; exact l1 x h1 h2 h3, ⟨by rw [e _ (by decide)]; exact l2, by rw [e _ (by decide)]; exact l3, fun k j h1 h2 h3 h4 => by show _ = T _; rw [e _ (by omega)]; exact l4 k j h1 h2 h3 h4, fun k j h1 h2 h3 h4 => by show _ = T _; rw [e _ (by omega)]; exact l5 k j h1 h2 h3 h4⟩, by rw [e _ (by decide)]; exact l6, by rw [e _ (by decide)]; exact l7, fun x hx => by rw [e _ (by omega)]; exact l8 x hx⟩
theorem Rep3.e0 {A : Mi} {S T nm : Int → Int} (r : Rep3 A S nm) (e : E0 T S) (v : InvL T) (u : InvC T) : RepC A T nm := by
  have v' : InvL S := v.of e.rg.symm
  have u' : InvC S := u.of e.rg.symm v
  exact ⟨r.1.of e.rg v', r.2.1.of e.rg v' u', r.2.2.of e.rg u', v, u⟩
/-- SALE first or STROKES first -/
theorem sal_hs {S : Int → Int} {t : Nat → Int} {b s m p n v w : Int} {N i : Nat} (H : HsI S t w m (S 113) N i) (u4 : 0 ≤ S 113) (x : SxE (hs (salS S b s m p n v) t w m (S 113) i) (hs S t w m (S 113) i)) (q : ∀ x, 4400 ≤ x ∨ x = 113 → hs (salS S b s m p n v) t w m (S 113) i x = salS S b s m p n v x) : E0 (salS (hs S t w m (S 113) i) b s m p n v) (hs (salS S b s m p n v) t w m (S 113) i) := fun y hy => by
  obtain ⟨-, -, -, -, -, -, -, h13, h09, hx⟩ := H
  by_cases h1 : 4400 ≤ y ∨ y = 113
  · rw [q y h1]
    unfold salS
    rw [h13, h09]
    by_cases h2 : y = 113
    · rw [if_pos h2, if_pos h2]
    · rw [hx y (by omega)]
  · rw [salS_lo (by rw [h13]; exact u4) (by omega) (by omega)]
    exact (x y hy (by omega) (by omega)).symm
theorem op_sale {sh : Sh} {I : Mi} {J : Mj} (R : Rel (sh, I, J)) (b s m p : Int) : ∃ x sh1 I1 J1 I2, uX9_sale 0 b s m p (sh, I, J) = some (x, (sh1, I1, J1)) ∧ uX10_sale 57 b s m p (sh1, I1, J1) = some (x, (sh1, I2, J1)) ∧ Rel (sh1, I2, J1) := by
  have h : St sh := R.1.1
  have T := R.tap
  obtain ⟨S, eS⟩ : ∃ S, ri (layI I) 59 = S := ⟨_, rfl⟩
  obtain ⟨n, hn⟩ : ∃ n, gi I 57 2 = n := ⟨_, rfl⟩
  have rI : RepC I S (rj J 63) := by have : RepC I (ri (layI I) 59) (rj J 63) := R.1.2.2.2.2.1; rwa [eS] at this
  have r : RepC (wi I 1 1 0) S (rj J 63) := rI.fr fun a _ _ => wi_at _ _ _ (by omega)
  obtain ⟨A0, hA0⟩ : ∃ A0, A0 = wi I 1 1 0 := ⟨_, rfl⟩
  have v0 := r.iL.1
  have v1 := r.iL.2.1
  have u0 := r.iC.1
  have us := r.iC.st
  have u4 := r.iC.2.2.2.2.1
  have v5 := r.iL.2.2.2.2.2.1
  have v6 := r.iL.2.2.2.2.2.2.1
  have kp0 : KpC I A0 J J := fun a h1 h2 => ⟨by rw [hA0]; exact wi_at _ _ _ (by omega), rfl⟩
  have hA2 : ri A0 2 = ri I 2 := ri_fun (by rw [hA0]; exact wi_at _ _ _ (by decide))
  -- what the reference's memory is where its loops begin
  have facts : ∀ (X : Mi) (J1 : Mj), KpC I X J J1 → ri (wi (layI (wi X 57 0 0)) 57 2 0) 59 = S ∧ ri (wi (layI (wi X 57 0 0)) 57 2 0) 58 = ri I 58 := fun X J1 kp => by
    refine ⟨?_, ?_⟩
    · rw [← eS]; exact (ri_fun (wi_at _ _ _ (by decide))).trans (ri_fun (lay_ag kp 0).1.2.1)
    · exact (ri_fun (wi_at _ _ _ (by decide))).trans ((ri_fun (layI_at _ (by decide) (by decide))).trans ((ri_fun (wi_at _ _ _ (by decide))).trans (ri_fun (kp 58 (by decide) (by decide)).1)))
  have took0 : ∀ B', (∀ a, a ≠ 57 → a ≠ 67 → B' a = layI (wi A0 57 0 0) a) → (∀ j, j ≠ 2 → gi B' 57 j = gi (layI (wi A0 57 0 0)) 57 j) → gi B' 57 2 = 0 → Rel (sh, B', J) := fun B' f1 f2 f3 => by
    have q := R.took kp0 f1 f2 f3
    rw [← hA0] at q
    exact Rel.fin q fun a ha => by rw [f1 a (by omega) (by omega)]; exact KpR.lay A0 0 a ha
  have took1 : Rel (sh, wi (layI (wi A0 57 0 0)) 57 2 0, J) := took0 _ (fun a h1 _ => wi_at _ _ _ h1) (fun j hj => by rw [gi_wiw, if_neg (fun q => hj q.2)]) (by rw [gi_wiw, if_pos ⟨rfl, rfl⟩]; rfl)
  have took2 : ∀ B1, (∀ a, a ≠ 67 → B1 a = wi (layI (wi A0 57 0 0)) 57 2 0 a) → Rel (sh, B1, J) := fun B1 f => took0 B1 (fun a h1 h2 => by rw [f a h2, wi_at _ _ _ h1]) (fun j hj => by rw [gi_of _ _ _ (f 57 (by decide)), gi_wiw, if_neg (fun q => hj q.2)]) (by rw [gi_of _ _ _ (f 57 (by decide)), gi_wiw, if_pos ⟨rfl, rfl⟩]; rfl)
  have pre0 := r_salePre R h kp0 eS (b := b) (s := s) (m := m) (p := p) hn r.iC
  have rA : RepC A0 S (rj J 63) := by rw [hA0]; exact r
  have hbytes : ∀ k, 0 ≤ k → k < 740 → ri A0 2 k = ri I 58 k := fun k h1 h2 => by rw [hA2]; exact (T.2.2 k h1 h2).1
  by_cases hn1 : 1 ≤ n ∧ n ≤ 40
  · have un := fun (X : Mi) (J1 : Mj) (kp : KpC I X J J1) (sh2 : Sh) (h2 : St sh2) => unlike2 (A := A0) (B := wi (layI (wi X 57 0 0)) 57 2 0) h h2 J J1 rA (facts X J1 kp).1 (b := b) (s := s) (m := m) (p := p) hn1 (fun k h1 h2' => by rw [(facts X J1 kp).2]; exact hbytes k h1 h2')
    rcases un A0 J kp0 sh h with ⟨q1, q2, B1, q3, q4, q5⟩ | ⟨q2, B1, q3, q4⟩
    · have cpre := c_salePre R r (b := b) (s := s) (m := m) (p := p) hn (by rw [← hA0]; exact q2)
      rw [← hA0] at cpre
      by_cases c1 : isW S b ∧ isW S s ∧ isM S m ∧ (1 ≤ p ∧ p ≤ 9999)
      · rw [if_pos (show isW S b ∧ isW S s ∧ isM S m ∧ (1 ≤ p ∧ p ≤ 9999) ∧ (1 : Int) ≠ 0 from ⟨c1.1, c1.2.1, c1.2.2.1, c1.2.2.2, by decide⟩)] at cpre
        rw [if_pos (show isW S b ∧ isW S s ∧ isM S m ∧ (1 ≤ p ∧ p ≤ 9999) ∧ 1 ≤ n ∧ n ≤ 40 from ⟨c1.1, c1.2.1, c1.2.2.1, c1.2.2.2, hn1⟩)] at pre0
        have e58 := (facts A0 J kp0).2
        rw [e58] at q1 q5
        have e59 : ri B1 59 = S := (ri_fun (q4 59 (by decide))).trans (facts A0 J kp0).1
        have vB : InvL (ri B1 59) := by rw [e59]; exact r.iL
        by_cases c2 : (isW S b ∧ ow S b 2 = 0) ∧ (isW S s ∧ ow S s 2 = 0) ∧ b ≠ s
        · rw [if_pos c2] at cpre
          have htc : ∀ i : Nat, (i : Int) < n → isC S (ri A0 2 i) := fun i hi => by rw [hbytes i (by omega) (by omega)]; exact q1.1 i (by omega)
          have hlw := c_leastWrong h rA J (b := b) (s := s) (m := m) (n := n) (by omega) c1.2.1 c1.2.2.1 htc
          obtain ⟨t, ht⟩ : ∃ t : Nat → Int, t = fun i : Nat => ri I 58 (i : Int) := ⟨_, rfl⟩
          have htb : ∀ i : Nat, (i : Int) < n → ri A0 2 i = t i := fun i hi => by rw [ht]; exact hbytes i (by omega) (by omega)
          have htC : ∀ i : Nat, (i : Int) < n → isC S (t i) := fun i hi => by rw [← htb i hi]; exact htc i hi
          rw [lwN_congr (g := fun i => cwW S b s m (t i)) n.toNat (fun i hi => by rw [htb i (by omega)])] at hlw
          obtain ⟨L, hL⟩ : ∃ L, L = lwN (fun i => cwW S b s m (t i)) n.toNat := ⟨_, rfl⟩
          obtain ⟨V, hV⟩ : ∃ V, V = suN (fun i => wuS S s (t i)) n.toNat := ⟨_, rfl⟩
          have hLb := lwN_b (f := fun i => cwW S b s m (t i)) n.toNat (fun j _ => cwW_b _ _ _ _ _)
          have hVb := suN_b (f := fun i => wuS S s (t i)) (b := 30097) n.toNat (fun j hj => wuS_b r.iL r.iC c1.2.1 (htC j (by omega)))
          rw [← hL] at hLb hlw
          rw [← hV] at hVb
          have a1 := r.iL.2.2.2.2.2.2.2.1 b 2 c1.1 (by decide) (by decide)
          have a2 := r.iL.2.2.2.2.2.2.2.1 s 2 c1.2.1 (by decide) (by decide)
          -- the reference up to the end of its second loop, at any memory
          have rmid : ∀ (sh2 : Sh) (h2 : St sh2) (B1 : Mi) (J1 : Mj), ri B1 59 = S → (∀ i : Nat, (i : Int) < n → ri B1 67 i = t i) → uX10_sale_b154 57 b s m p n (sh2, B1, J1) = uX10_sale_b268 57 b s m p n (if L = 0 then 8 else L) V (sh2, B1, J1) := fun sh2 h2 B1 J1 e1 e2 => by
            have vB : InvL (ri B1 59) := by rw [e1]; exact r.iL
            have := r_saleV h2 (B := B1) J1 e1 r.iL r.iC (b := b) (s := s) (m := m) (p := p) (n := n) (t := t) (by omega) c1.2.1 c1.2.2.1 e2 htC
            rw [← hL, ← hV] at this
            simp only [uX10_sale_b154]
            rw [rX_areUnfit h2 _ J1 vB (by rw [e1]; exact c1.1) (by rw [e1]; exact c1.2.1), e1]
            simp only [SEk h2, bd_some, bz_0]
            rw [if_pos (by omega)]
            simp only [uX10_sale_b175, this, bd_some, uX10_sale_c175]
          have hg1 : ∀ i : Nat, (i : Int) < n → ri B1 67 i = t i := fun i hi => by rw [ht]; exact q5 i hi
          have rm0 := rmid sh h B1 J e59 hg1
          by_cases cL : L = 0
          · rw [if_pos cL] at rm0
            have cV := c_saleV h rA J (b := b) (s := s) (m := m) (p := p) (n := n) (by omega) c1.2.1 htc
            rw [suN_congr (g := fun i => wuS S s (t i)) n.toNat (fun i hi => by rw [htb i (by omega)]), ← hV] at cV
            rw [hlw] at cpre
            simp only [bd_some, uX9_sale_b127, cV, uX9_sale_c127] at cpre
            rw [if_pos cL] at cpre
            by_cases cP : p ≤ V
            · have all0 := lwN_0 (f := fun i => cwW S b s m (t i)) n.toNat (fun i _ => (cwW_b _ _ _ _ _).1) (by rw [← hL]; exact cL)
              have hcoin : ∀ i, i < n.toNat → isC S (t i) ∧ oc S (t i) 2 ≤ 8 ∧ 1 ≤ oc S (t i) 0 - om S m 0 := fun i hi => by
                have z : cwW S b s m (t i) = 0 := all0 i hi
                have wz : wrS S (oc S (t i) 0) (oc S (t i) 2) m = 0 := by
                  unfold cwW at z; split at z
                  · split at z
                    · cases z
                    · exact z
                  · cases z
                have ok := wrS_ok r.iL wz
                exact ⟨htC i (by omega), by omega, by omega⟩
              have hdis : ∀ i j, i < j → j < n.toNat → t i ≠ t j := fun i j h1 h2 => by rw [ht]; exact q1.2 i j h1 h2
              have hsi := hs_inv (k := S 113) r.iL r.iC c1.2.2.1 c1.2.1 hcoin hdis
              have R2 := R.took kp0 (B' := B1) (fun a h1 h2 => by rw [q4 a h2, wi_at _ _ _ h1]) (fun j hj => by rw [gi_of _ _ _ (q4 57 (by decide)), gi_wiw, if_neg (fun q => hj q.2)]) (by rw [gi_of _ _ _ (q4 57 (by decide)), gi_wiw, if_pos ⟨rfl, rfl⟩]; rfl)
              rw [← hA0] at R2
              obtain ⟨sh', A1, J1, k1, k2, k3, k4, k5⟩ := push R2 J
              have ej : rj J1 63 = rj J 63 := rj_fun (k4 63 (by decide))
              have rA1 : RepC A1 S (rj J1 63) := by rw [ej]; exact rA.fr fun a _ _ => k3 a (by omega) (by omega)
              have hly : ∀ d, 0 ≤ d → d < S 108 → oc S d 3 ≤ 9 := fun d h1 h2 => by have := r.iC.2.2.2.2.2.2.2.1 d ⟨h1, h2⟩; omega
              obtain ⟨Ar, d1, d2, d3⟩ := c_recordSale k2 J1 (b := b) (s := s) (m := m) (p := p) (n := n) (v := V) (show Rep3 A1 S (rj J1 63) from ⟨rA1.1, rA1.2.1, rA1.2.2.1⟩) (by omega) (by omega) (by omega) (by omega) (by omega) (by omega) (by omega) v0.2 v1.2 (by omega) u0.2 hly
              obtain ⟨Rr, l1, A2, rfl, l2, l3, l4, l5⟩ := c_saleL k2 J1 (w := s) (m := m) (k := S 113) (n := n) (t := t) d3 (fun x h1 h2 h3 => salS_lo u4.1 h2 h3) hsi c1.2.2.1 c1.2.1 (by omega) (by omega) (fun i hi => by rw [ri_of A0 Ar _ (by rw [d2 2 (by decide) (by decide), k3 2 (by decide) (by decide)])]; exact htb i hi) (fun i hi => ⟨(hcoin i hi).1, (hcoin i hi).2.1⟩) v1.2 u0.2 (fun _ _ => rfl)
              have kp2 : KpC I A2 J J1 := fun a h1 h2 => ⟨by rw [l2 a (by omega), d2 a (by omega) (by omega), k3 a (by omega) (by omega)]; exact (kp0 a h1 h2).1, k4 a (by omega)⟩
              have pre2 := r_salePre R k2 kp2 eS (b := b) (s := s) (m := m) (p := p) hn r.iC
              rw [if_pos (show isW S b ∧ isW S s ∧ isM S m ∧ (1 ≤ p ∧ p ≤ 9999) ∧ 1 ≤ n ∧ n ≤ 40 from ⟨c1.1, c1.2.1, c1.2.2.1, c1.2.2.2, hn1⟩)] at pre2
              have fc := facts A2 J1 kp2
              rcases un A2 J1 kp2 sh' k2 with ⟨-, -, B2, w3, w4, w5⟩ | ⟨w2, -⟩
              · rw [fc.2] at w5
                have e59' : ri B2 59 = S := (ri_fun (w4 59 (by decide))).trans fc.1
                have hg2 : ∀ i : Nat, (i : Int) < n → ri B2 67 i = t i := fun i hi => by rw [ht]; exact w5 i hi
                have rm2 := rmid sh' k2 B2 J1 e59' hg2
                rw [if_pos cL] at rm2
                have R3 := R.took kp2 (B' := B2) (fun a h1 h2 => by rw [w4 a h2, wi_at _ _ _ h1]) (fun j hj => by rw [gi_of _ _ _ (w4 57 (by decide)), gi_wiw, if_neg (fun q => hj q.2)]) (by rw [gi_of _ _ _ (w4 57 (by decide)), gi_wiw, if_pos ⟨rfl, rfl⟩]; rfl)
                rw [← hA0] at R3
                obtain ⟨Bn, s1, s2, s3, RB1⟩ := k5 B2 J1 R3 sh' k2
                have eBn : ri Bn 59 = S := (ri_fun (s2 59 (by decide) (by decide))).trans e59'
                obtain ⟨Rq, m1, B3, rfl, m2, m3⟩ := r_saleL k2 (B := Bn) J1 (S := S) (b := b) (w := s) (m := m) (p := p) (v := V) (n := n) (t := t) (by rw [eBn]; exact fun _ _ => rfl) hsi c1.2.2.1 (by omega) (by omega) (by omega) (fun i hi => by rw [ri_of B2 Bn _ (s2 67 (by decide) (by decide))]; exact hg2 i hi) (fun i hi => ⟨(hcoin i hi).1, (hcoin i hi).2.1⟩) u0.2
                have Hn := hsi n.toNat (Nat.le_refl _)
                obtain ⟨B4, n1, n2, n3⟩ := rX_keepSale k2 (B := B3) J1 (b := b) (s := s) (m := m) (p := p) (n := n) (v := V) m3 (by rw [Hn.2.2.2.2.2.2.2.1]; omega) (by omega) (by omega) (by omega) (by omega) (by omega) (by omega)
                have E := sal_hs (b := b) (s := s) (p := p) (n := n) (v := V) Hn u4.1 l4 l5
                have iv_ := salS_inv (b := b) (s := s) (m := m) (p := p) (n := n) (v := V) Hn.2.1 Hn.1 (by rw [Hn.2.2.2.2.2.2.2.1, Hn.2.2.2.1]; omega)
                have rep := l3.e0 E iv_.1 iv_.2
                have lat := (Hn.2.2.1.trans (salS_Lat (b := b) (s := s) (m := m) (p := p) (n := n) (v := V) Hn.2.1)).e0 n3
                refine ⟨0, sh', A2, J1, B4, ?_, ?_, Rel.fin (A := A2) (RB1.act' (fun a ha => by rw [l2 a (by omega), d2 a (by omega) (by omega)]) (fun a _ _ h3 => by rw [n2 a h3, m2 a h3]) (rep.of n3.rg) (by rw [eBn]; exact lat.1) (by rw [eBn]; exact lat.2.1) (by rw [eBn]; exact lat.2.2)) fun a ha => ?_⟩
                · rw [cpre]
                  simp (disch := omega) only [uX9_sale_b164, if_pos, SEg h, SEr h, SEa h, SEk h, SEj h, SEl h, SEp h, SEs h, bd_some, bd2_some, c_strokesLeft h rA, k1, SEr k2, SEk k2, d1, bd2_some, uX9_sale_b223, l1, bd_some, uX9_sale_c223, uX9_sale_b256]
                · rw [pre2]
                  simp only [uX10_sale_b80, w3, bd_some, uX10_sale_c80, Sum.elim_inl, rm2]
                  simp (disch := omega) only [uX10_sale_b268, if_pos, SEk k2, s1, bd_some, uX10_sale_b295, m1, uX10_sale_c295, uX10_sale_b350, n1]
                · rw [n2 a (by omega), m2 a (by omega), s2 a (by omega) (by omega), w4 a (by omega), wi_at _ _ _ (by omega)]; exact KpR.lay A2 0 a ha
              · rw [q2] at w2; cases w2
            · refine ⟨7, sh, A0, J, B1, ?_, ?_, took2 B1 q4⟩
              · rw [cpre]; simp only [uX9_sale_b164]; rw [if_neg cP]
              · rw [pre0]
                simp only [uX10_sale_b80, q3, bd_some, uX10_sale_c80, Sum.elim_inl, rm0]
                simp only [uX10_sale_b268]
                rw [if_pos (by decide), if_neg cP]
          · rw [if_neg cL] at rm0
            refine ⟨L, sh, A0, J, B1, ?_, ?_, took2 B1 q4⟩
            · rw [cpre, hlw]; simp only [bd_some]; rw [if_neg cL]
            · rw [pre0]
              simp only [uX10_sale_b80, q3, bd_some, uX10_sale_c80, Sum.elim_inl, rm0]
              simp only [uX10_sale_b268]
              rw [if_neg (by omega)]
        · rw [if_neg c2] at cpre
          refine ⟨1, sh, A0, J, B1, cpre, ?_, took2 B1 q4⟩
          rw [pre0]
          simp only [uX10_sale_b80, q3, bd_some, uX10_sale_c80, Sum.elim_inl, uX10_sale_b154]
          have a1 := r.iL.2.2.2.2.2.2.2.1 b 2 c1.1 (by decide) (by decide)
          have a2 := r.iL.2.2.2.2.2.2.2.1 s 2 c1.2.1 (by decide) (by decide)
          rw [rX_areUnfit h _ J vB (by rw [e59]; exact c1.1) (by rw [e59]; exact c1.2.1), e59]
          simp only [SEg h, SEr h, SEa h, SEk h, SEj h, SEl h, SEp h, SEs h, bd_some, bd2_some, bz_0]
          rw [if_neg (by omega)]
      · rw [if_neg (show ¬ (isW S b ∧ isW S s ∧ isM S m ∧ (1 ≤ p ∧ p ≤ 9999) ∧ (1 : Int) ≠ 0) from fun z => c1 ⟨z.1, z.2.1, z.2.2.1, z.2.2.2.1⟩)] at cpre
        rw [if_neg (show ¬ (isW S b ∧ isW S s ∧ isM S m ∧ (1 ≤ p ∧ p ≤ 9999) ∧ 1 ≤ n ∧ n ≤ 40) from fun z => c1 ⟨z.1, z.2.1, z.2.2.1, z.2.2.2.1⟩)] at pre0
        exact ⟨-1, sh, A0, J, _, cpre, pre0, took1⟩
    · have cpre := c_salePre R r (b := b) (s := s) (m := m) (p := p) hn (by rw [← hA0]; exact q2)
      rw [← hA0] at cpre
      rw [if_neg (show ¬ (isW S b ∧ isW S s ∧ isM S m ∧ (1 ≤ p ∧ p ≤ 9999) ∧ (0 : Int) ≠ 0) from fun z => z.2.2.2.2 rfl)] at cpre
      by_cases c1 : isW S b ∧ isW S s ∧ isM S m ∧ (1 ≤ p ∧ p ≤ 9999)
      · rw [if_pos (show isW S b ∧ isW S s ∧ isM S m ∧ (1 ≤ p ∧ p ≤ 9999) ∧ 1 ≤ n ∧ n ≤ 40 from ⟨c1.1, c1.2.1, c1.2.2.1, c1.2.2.2, hn1⟩)] at pre0
        refine ⟨-1, sh, A0, J, B1, cpre, ?_, took2 B1 q4⟩
        rw [pre0]
        simp only [uX10_sale_b80, q3, bd_some, uX10_sale_c80, Sum.elim_inr]
      · rw [if_neg (show ¬ (isW S b ∧ isW S s ∧ isM S m ∧ (1 ≤ p ∧ p ≤ 9999) ∧ 1 ≤ n ∧ n ≤ 40) from fun z => c1 ⟨z.1, z.2.1, z.2.2.1, z.2.2.2.1⟩)] at pre0
        exact ⟨-1, sh, A0, J, _, cpre, pre0, took1⟩
  · have q2 : uX9_tellsUnlikeCoins 0 n (sh, A0, J) = some 0 := by
      unfold uX9_tellsUnlikeCoins
      by_cases c1 : n < 1
      · rw [if_pos c1]
      · rw [if_neg c1, if_neg (by omega)]
    have cpre := c_salePre R r (b := b) (s := s) (m := m) (p := p) hn (by rw [← hA0]; exact q2)
    rw [← hA0] at cpre
    rw [if_neg (show ¬ (isW S b ∧ isW S s ∧ isM S m ∧ (1 ≤ p ∧ p ≤ 9999) ∧ (0 : Int) ≠ 0) from fun z => z.2.2.2.2 rfl)] at cpre
    rw [if_neg (show ¬ (isW S b ∧ isW S s ∧ isM S m ∧ (1 ≤ p ∧ p ≤ 9999) ∧ 1 ≤ n ∧ n ≤ 40) from fun z => hn1 z.2.2.2.2)] at pre0
    exact ⟨-1, sh, A0, J, _, cpre, pre0, took1⟩
