/-- the later state comes by STROKES, owners, SALES alone -/
def Lat (S T : Int → Int) : Prop := LwE S T ∧ RwE S T ∧ (T 116 = S 116 ∧ T 117 = S 117 ∧ ∀ x, 7900 ≤ x → T x = S x)
theorem Lat.trans {S T U : Int → Int} (a : Lat S T) (b : Lat T U) : Lat S U := ⟨a.1.trans b.1, a.2.1.trans b.2.1, b.2.2.1.trans a.2.2.1, b.2.2.2.1.trans a.2.2.2.1, fun x h => (b.2.2.2.2 x h).trans (a.2.2.2.2 x h)⟩
theorem Lat.refl (S : Int → Int) : Lat S S := ⟨LwE.refl _, RwE.refl _, rfl, rfl, fun _ _ => rfl⟩
def E0 (T S : Int → Int) : Prop := ∀ x, 0 ≤ x → T x = S x
theorem E0.rg {T S : Int → Int} (e : E0 T S) : RgE T S := fun x h _ _ _ => e x h
theorem stS_Lat {S T : Int → Int} {c w m sale f : Int} (k : StrK S c m) (u : 0 ≤ S 113 ∧ S 113 ≤ 500) (e : E0 T (stS S c w m sale f)) : Lat S T := by
  have hL := k.L
  obtain ⟨k0, k1, k2, k3, k4, k5, k6, k7, k8, k9⟩ := k
  have hLS : 0 ≤ lfS S c (om S m 1) ∧ lfS S c (om S m 1) ≤ 8 := by omega
  refine ⟨fun x h1 h2 _ => by rw [e x h1, stS_lo k2.1 k8.1 (by omega)], ⟨?_, ?_, fun k j h1 h2 h3 h4 => ?_, fun k j h1 h2 h3 h4 => ?_⟩, ?_, ?_, fun x hx => ?_⟩
  · rw [e _ (by decide), stS_112 k2.1 k8.1]; omega
  · rw [e _ (by decide), stS_lo k2.1 k8.1 (by omega)]; exact Int.le_refl _
  · show _ = T _; rw [e _ (by omega)]; exact (stS_sk k2 k8.1 hLS h1 h2 ⟨h3, h4⟩).symm
  · show _ = T _; rw [e _ (by omega)]; exact (stS_osl k2 k8 hLS h1 h3).symm
  · rw [e _ (by decide), stS_lo k2.1 k8.1 (by omega)]
  · rw [e _ (by decide), stS_lo k2.1 k8.1 (by omega)]
  · rw [e _ (by omega), stS_hi k2 k8 hLS (by omega)]
/-- a STROKE on both sides -/
theorem strike2 {sh sh2 : Sh} (h : St sh) (h2 : St sh2) {A B : Mi} {nm : Int → Int} (JA JB : Mj) (r : RepC A (ri B 59) nm) {c w m sale f : Int} (hc : isC (ri B 59) c) (hm : isM (ri B 59) m) (h8 : oc (ri B 59) c 2 ≤ 8) (hg : 1 ≤ oc (ri B 59) c 0 - om (ri B 59) m 0) (hw : isW (ri B 59) w) (hf : f = 0 ∨ f = 1) (hs : rg sale) :
    ∃ A' B', uX8_strike 16 c w m sale f (sh, A, JA) = some (sh, A', JA) ∧ uX10_strike 57 c w m sale f (sh2, B, JB) = some (sh2, B', JB) ∧ (∀ a, ¬ strA a → A' a = A a) ∧ (∀ a, a ≠ 59 → B' a = B a) ∧ E0 (ri B' 59) (stS (ri B 59) c w m sale f) ∧ RepC A' (ri B' 59) nm ∧ Lat (ri B 59) (ri B' 59) := by
  have v0 := r.iL.1
  have u0 := r.iC.1
  have us := r.iC.st
  have u4 := r.iC.2.2.2.2.1
  have k := StrK.ofI r.iL r.iC hc hm h8
  obtain ⟨A', a1, a2, a3⟩ := c_strike h JA (S := ri B 59) (nm := nm) (c := c) (w := w) (m := m) (sale := sale) (f := f) ⟨r.1, r.2.1, r.2.2.1⟩ k hc.2 u0.2 (fun d h1 h2 => by have := r.iC.2.2.2.2.2.2.2.1 d ⟨h1, h2⟩; omega) (by omega) hs (by omega)
  obtain ⟨B', b1, b2, b3⟩ := rX_strike h2 JB (c := c) (w := w) (m := m) (sale := sale) (f := f) k (by omega) hs (by omega)
  have e : E0 (ri B' 59) (stS (ri B 59) c w m sale f) := b3
  have rs : RepC A' (stS (ri B 59) c w m sale f) nm := ⟨a3.1, a3.2.1, a3.2.2, r.iL.lo (stS_E hc.1 us.1), r.iC.str r.iL hc hm h8 hg hw hf⟩
  exact ⟨A', B', a1, b1, a2, b2, e, rs.of e.rg, stS_Lat k (by omega) e⟩
theorem wrS_ok {S : Int → Int} {g s m : Int} (v : InvL S) (h : wrS S g s m = 0) : g - om S m 0 ≥ S 5 ∧ s < S 6 := by
  unfold wrS at h; grind
theorem op_forge {sh : Sh} {I : Mi} {J : Mj} (R : Rel (sh, I, J)) (c m : Int) : ∃ x sh1 I1 J1 I2, uX9_forge 0 c m (sh, I, J) = some (x, (sh1, I1, J1)) ∧ uX10_forge 57 c m (sh1, I1, J1) = some (x, (sh1, I2, J1)) ∧ Rel (sh1, I2, J1) := by
  obtain ⟨S, h, r, e, sh', A1, J1, k1, k2, k3, r1, kk⟩ := R.actS
  have v0 := r.iL.1
  have v1 := r.iL.2.1
  have u0 := r.iC.1
  have us := r.iC.st
  have ud := r.iC.2.2.1
  have v5 := r.iL.2.2.2.2.2.1
  have v6 := r.iL.2.2.2.2.2.2.1
  by_cases hc : (isC S c ∧ isM S m) ∧ S 110 ≠ -1 ∧ oc S c 1 = S 111 ∧ wrS S (oc S c 0) (oc S c 2) m = 0
  · have uc := r.iC.2.2.2.2.2.2.2.1 c hc.1.1
    have ok := wrS_ok r.iL hc.2.2.2
    have hw : isW S (S 110) := by rcases ud with q | q; exact absurd q.1 hc.2.1; exact q.1
    have st : ∀ B, ri B 59 = S → ∀ JB, ∃ A' B', uX8_strike 16 c (S 110) m (-1) 1 (sh', A1, J1) = some (sh', A', J1) ∧ uX10_strike 57 c (S 110) m (-1) 1 (sh', B, JB) = some (sh', B', JB) ∧ (∀ a, ¬ strA a → A' a = A1 a) ∧ (∀ a, a ≠ 59 → B' a = B a) ∧ E0 (ri B' 59) (stS (ri B 59) c (S 110) m (-1) 1) ∧ RepC A' (ri B' 59) (rj J1 63) ∧ Lat (ri B 59) (ri B' 59) := fun B hB JB => by
      refine strike2 k2 k2 J1 JB (by rw [hB]; exact r1) ?_ ?_ ?_ ?_ ?_ (.inr rfl) (by decide)
      · rw [hB]; exact hc.1.1
      · rw [hB]; exact hc.1.2
      · rw [hB]; omega
      · rw [hB]; omega
      · rw [hB]; exact hw
    obtain ⟨A2, -, a1, -, a2, -⟩ := st _ e J
    obtain ⟨eB, B1, s1, eB1, fin⟩ := kk A2 (fun a ha => a2 a (by omega))
    obtain ⟨A3, B2, b1, b2, b3, b4, b5, b6, b7⟩ := st B1 eB1 J1
    obtain rfl : A3 = A2 := congrArg (fun M : Mm => M.2.1) (Option.some.inj (b1.symm.trans a1))
    rw [eB1] at b7
    refine ⟨0, sh', A3, J1, B2, ?_, ?_, fin B2 b4 b6 b7.1 b7.2.1 b7.2.2⟩
    · simp (maxSteps := 3000000) (disch := omega) only [uX9_forge, SEg h, SEr h, SEa h, SEk h, SEj h, SEl h, SEp h, SEs h, bd_some, bd2_some, c_isCoin h r, c_isMint h r, bz_0, r.dieOf, r.dieBy, r.owner, r.grains, r.had]
      rw [if_neg (fun q => q hc.1.1), if_neg (fun q => q hc.1.2), if_neg hc.2.1, if_pos hc.2.2.1, c_obstacle h r J (by omega), if_pos hc.1.2, hc.2.2.2]
      simp (disch := omega) only [bd_some, ↓reduceIte, c_strokesLeft h r, k1, SEr k2, SEk k2, SEg k2, r1.dieOf, b1, if_pos]
    · have hI : InvC (ri (layI (wi A3 57 0 0)) 59) := by rw [eB]; exact r.iC
      have hL : InvL (ri (layI (wi A3 57 0 0)) 59) := by rw [eB]; exact r.iL
      simp (disch := omega) only [uX10_forge, SEp k2, SEk k2, bd_some, rX_lay k2, rX_isCoin k2, rX_isMint k2, eB, bz_0, rX_isFull k2 _ _ (n := 1) (by decide) (by decide) hI]
      rw [if_neg (fun q => q hc.1.1), if_neg (fun q => q hc.1.2)]
      rw [rX_wrongAt k2 _ J1 hL hI (by rw [eB]; exact hc.1.1) (by rw [eB]; exact hc.1.2)]
      simp (disch := omega) only [↓reduceIte, SEr k2, SEa k2, SEk k2, bd_some, rX_ofCoin k2, eB, if_neg, hc.2.2.1, hc.2.2.2, s1, eB1, b2]
  · refine ⟨if isC S c ∧ isM S m then (if S 110 = -1 then 1 else if oc S c 1 ≠ S 111 then 2 else wrS S (oc S c 0) (oc S c 2) m) else -1, sh, I, J, layI (wi I 57 0 0), ?_, ?_, R.rd 0⟩
    · simp only [uX9_forge, SEg h, SEr h, SEa h, SEk h, SEj h, SEl h, SEp h, SEs h, bd_some, bd2_some, c_isCoin h r, c_isMint h r, bz_0]
      by_cases h1 : isC S c
      · by_cases h2 : isM S m
        · have uc := r.iC.2.2.2.2.2.2.2.1 c h1
          rw [if_neg (fun q => q h1), if_neg (fun q => q h2), if_pos (show isC S c ∧ isM S m from ⟨h1, h2⟩)]
          simp (disch := omega) only [SEg h, SEr h, SEa h, SEk h, SEj h, SEl h, SEp h, SEs h, bd_some, bd2_some, r.dieOf, r.dieBy, r.owner, r.grains, r.had]
          rw [c_obstacle h r J (by omega), if_pos h2]
          simp only [bd_some]
          by_cases h3 : S 110 = -1
          · rw [if_pos h3, if_pos h3]
          · rw [if_neg h3, if_neg h3]
            by_cases h4 : oc S c 1 = S 111
            · rw [if_pos h4, if_neg (show ¬ (oc S c 1 ≠ S 111) from fun q => q h4), if_neg (show ¬ (wrS S (oc S c 0) (oc S c 2) m = 0) from fun q => hc ⟨⟨h1, h2⟩, h3, h4, q⟩)]
            · rw [if_neg h4, if_pos (show oc S c 1 ≠ S 111 from h4)]
        · rw [if_neg (fun q => q h1), if_pos h2, if_neg (show ¬ (isC S c ∧ isM S m) from fun q => h2 q.2)]
      · rw [if_pos h1, if_neg (show ¬ (isC S c ∧ isM S m) from fun q => h1 q.1)]
    · have hI : InvC (ri (layI (wi I 57 0 0)) 59) := by rw [e]; exact r.iC
      have hL : InvL (ri (layI (wi I 57 0 0)) 59) := by rw [e]; exact r.iL
      simp (disch := omega) only [uX10_forge, SEg h, SEr h, SEa h, SEk h, SEj h, SEl h, SEp h, SEs h, bd_some, bd2_some, rX_lay h, rX_isCoin h, rX_isMint h, e, bz_0, rX_isFull h _ _ (n := 1) (by decide) (by decide) hI]
      by_cases h1 : isC S c
      · by_cases h2 : isM S m
        · rw [if_neg (fun q => q h1), if_neg (fun q => q h2), if_pos (show isC S c ∧ isM S m from ⟨h1, h2⟩)]
          rw [rX_wrongAt h _ J hL hI (by rw [e]; exact h1) (by rw [e]; exact h2)]
          simp (disch := omega) only [↓reduceIte, SEg h, SEr h, SEa h, SEk h, SEj h, SEl h, SEp h, SEs h, bd_some, bd2_some, rX_ofCoin h, e]
          by_cases h3 : S 110 = -1
          · rw [if_pos h3, if_pos h3]
          · rw [if_neg h3, if_neg h3]
            by_cases h4 : oc S c 1 = S 111
            · rw [if_pos h4, if_neg (show ¬ (oc S c 1 ≠ S 111) from fun q => q h4), if_neg (show ¬ (wrS S (oc S c 0) (oc S c 2) m = 0) from fun q => hc ⟨⟨h1, h2⟩, h3, h4, q⟩)]
            · rw [if_neg h4, if_pos (show oc S c 1 ≠ S 111 from h4)]
        · rw [if_neg (fun q => q h1), if_pos h2, if_neg (show ¬ (isC S c ∧ isM S m) from fun q => h2 q.2)]
      · rw [if_pos h1, if_neg (show ¬ (isC S c ∧ isM S m) from fun q => h1 q.1)]
