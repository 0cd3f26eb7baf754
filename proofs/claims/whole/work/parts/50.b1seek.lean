/-- the Cashier's cells tell the usable COINS -/
def UsR (G : Int → Int) (W : Int → Int → Int) (I : Mi) (U : List Int) : Prop := (gi I 44 4 = U.length ∧ U.length ≤ 12) ∧ ∀ (u : Nat) c t, U.drop u = c :: t → ri I 49 u = G c ∧ ri I 50 u = mx W c ∧ ri I 51 u = wsm W (c :: t)
theorem drop_1 {U : List Int} {u : Nat} {c : Int} {t : List Int} (h : U.drop u = c :: t) : U.drop (u + 1) = t ∧ u < U.length ∧ t.length + u + 1 = U.length := by
  have h1 : (U.drop u).length = U.length - u := List.length_drop
  rw [h, List.length_cons] at h1
  refine ⟨?_, by omega, by omega⟩
  rw [← List.tail_drop, h]; rfl
theorem c_canMake {sh : Sh} (h : St sh) {I : Mi} (J : Mj) {G : Int → Int} {W : Int → Int → Int} {U : List Int} (ho : OkW G W U) (hU : UsR G W I U) : ∀ (f u : Nat) (l : List Int) (g n p : Int), U.drop u = l → l.length < f → u ≤ U.length → (-1000000 ≤ g ∧ g ≤ 1000000) → (-100 ≤ n ∧ n ≤ 100) → (-1000000 + 40000 * (l.length : Int) ≤ p ∧ p ≤ 1000000) → ∃ x, uX0_canMakeUp f 44 u g n p (sh, I, J) = some x ∧ (x ≠ 0 ↔ CM G W l g n p)
  | 0, u, l, g, n, p, hd, hf, hu, hg, hn, hp => by omega
  | f + 1, u, l, g, n, p, hd, hf, hu, hg, hn, hp => by
    have hol : OkW G W l := fun c hc => ho c (by rw [← hd] at hc; exact List.mem_of_mem_drop hc)
    have hll : l.length = U.length - u := by rw [← hd]; exact List.length_drop
    have h12 := hU.1.2
    have e4 := hU.1.1
    show ∃ x, uX0_canMakeUp_o (uX0_canMakeUp f) 44 u g n p (sh, I, J) = some x ∧ _
    simp (disch := omega) only [uX0_canMakeUp_o, SEg h, SEr h, SEa h, SEk h, SEj h, SEl h, SEp h, SEs h, bd_some, bd2_some, w32_id, w64_id, e4]
    have no : ∀ {q : Prop}, ¬ q → ((0 : Int) ≠ 0 ↔ q) := fun q => ⟨fun z => absurd rfl z, fun z => absurd z q⟩
    by_cases c1 : 0 < n
    · rw [if_pos c1]
      by_cases c2 : (U.length : Int) < u + n
      · rw [if_pos c2]
        exact ⟨0, rfl, no fun q => by have := CM_b hol q; omega⟩
      · rw [if_neg c2, if_neg (by omega)]
        by_cases c3 : g ≤ 0
        · rw [if_pos c3]
          exact ⟨0, rfl, no fun q => by have := CM_b hol q; omega⟩
        · rw [if_neg c3]
          cases l with
          | nil => rw [List.length_nil] at hll; omega
          | cons c t =>
            obtain ⟨d1, d2, d3⟩ := drop_1 hd
            obtain ⟨e1, e2, e3⟩ := hU.2 u c t hd
            have hm := mx_le hol.hd.2.1
            have hgc := hol.hd.1
            rw [List.length_cons] at hp hf
            simp (disch := omega) only [SEg h, SEr h, SEa h, SEk h, SEj h, SEl h, SEp h, SEs h, bd_some, bd2_some, w32_id, w64_id, e1, e2, e3]
            by_cases c4 : p ≤ wsm W (c :: t)
            · rw [if_pos c4]
              obtain ⟨x, hx, hx2⟩ := c_canMake h J ho hU f (u + 1) t (g - G c) (n - 1) (p - mx W c) d1 (by omega) (by omega) (by omega) (by omega) (by omega)
              obtain ⟨y, hy, hy2⟩ := c_canMake h J ho hU f (u + 1) t g n p d1 (by omega) (by omega) hg hn (by omega)
              rw [show ((u + 1 : Nat) : Int) = (u : Int) + 1 from rfl] at hx hy
              rw [hx]
              simp only [bd_some]
              by_cases cx : x = 0
              · rw [if_pos cx, hy]
                simp only [bd_some]
                by_cases cy : y = 0
                · rw [if_pos cy]
                  exact ⟨0, rfl, no fun q => q.elim (fun z => hx2.mpr z cx) (fun z => hy2.mpr z cy)⟩
                · rw [if_neg cy]
                  exact ⟨1, rfl, fun _ => .inr (hy2.mp cy), fun _ => by decide⟩
              · rw [if_neg cx]
                exact ⟨1, rfl, fun _ => .inl (hx2.mp cx), fun _ => by decide⟩
            · rw [if_neg c4]
              exact ⟨0, rfl, no fun q => c4 (CM_b hol q).2.2.1⟩
    · rw [if_neg c1]
      by_cases c2 : n = 0
      · rw [if_pos c2]
        by_cases c3 : g = 0
        · rw [if_pos c3]
          by_cases c4 : 0 < p
          · rw [if_pos c4]
            exact ⟨0, rfl, no fun q => by have := (CM_b hol q).2.2.2 c2; omega⟩
          · rw [if_neg c4]
            exact ⟨1, rfl, fun _ => by rw [c2, c3]; exact CM_0 (by omega), fun _ => by decide⟩
        · rw [if_neg c3]
          exact ⟨0, rfl, no fun q => c3 ((CM_b hol q).2.2.2 c2).1⟩
      · rw [if_neg c2]
        exact ⟨0, rfl, no fun q => by have := (CM_b hol q).1; omega⟩
def okV (I : Mi) : Prop := gi I 44 9 = -1 ∨ ((0 ≤ gi I 44 9 ∧ gi I 44 9 ≤ 119988) ∧ 0 ≤ gi I 44 10 ∧ gi I 44 10 ≤ 12)
def Vc (I : Mi) : Int := if gi I 44 9 = -1 then 100000000 else 16 * gi I 44 9 + gi I 44 10
def FrK (I I' : Mi) : Prop := (∀ a, a ≠ 44 → I' a = I a) ∧ ∀ j, j ≠ 9 → j ≠ 10 → I' 44 j = I 44 j
theorem FrK.trans {I I1 I2 : Mi} (h : FrK I I1) (k : FrK I1 I2) : FrK I I2 := ⟨fun a q => (k.1 a q).trans (h.1 a q), fun j q q2 => (k.2 j q q2).trans (h.2 j q q2)⟩
theorem UsR.fr {G : Int → Int} {W : Int → Int → Int} {I I' : Mi} {U : List Int} (h : UsR G W I U) (f : FrK I I') : UsR G W I' U :=
  ⟨⟨by rw [gi_fk (f.2 4 (by decide) (by decide))]; exact h.1.1, h.1.2⟩, fun u c t e => by
    rw [ri_of I I' _ (f.1 49 (by decide)), ri_of I I' _ (f.1 50 (by decide)), ri_of I I' _ (f.1 51 (by decide))]; exact h.2 u c t e⟩
theorem c_noteC {sh : Sh} (h : St sh) (I : Mi) (J : Mj) {g n : Int} (hv : okV I) (hg : 0 ≤ g ∧ g ≤ 119988) (hn : 0 ≤ n ∧ n ≤ 12) : ∃ I', uX0_noteCheapest 44 g n (sh, I, J) = some (sh, I', J) ∧ FrK I I' ∧ okV I' ∧ Vc I' = if 16 * g + n < Vc I then 16 * g + n else Vc I := by
  have yes : ∃ I', uX0_noteCheapest_b32 44 g n (sh, I, J) = some (sh, I', J) ∧ FrK I I' ∧ okV I' ∧ Vc I' = 16 * g + n := by
    have g9 : gi (wi (wi I 44 9 g) 44 10 n) 44 9 = g := by rw [gi_wiw, if_neg (by decide), gi_wiw, if_pos ⟨rfl, rfl⟩, w32_id (by omega) (by omega)]
    have g10 : gi (wi (wi I 44 9 g) 44 10 n) 44 10 = n := by rw [gi_wiw, if_pos ⟨rfl, rfl⟩, w32_id (by omega) (by omega)]
    refine ⟨wi (wi I 44 9 g) 44 10 n, ?_, ⟨fun a ha => by rw [wi_at _ _ _ ha, wi_at _ _ _ ha], fun j h1 h2 => by rw [wi_nc _ _ (fun q => h2 q.2), wi_nc _ _ (fun q => h1 q.2)]⟩, ?_, ?_⟩
    · simp only [uX0_noteCheapest_b32, uX0_noteCheapest_b37, SEg h, SEr h, SEa h, SEk h, SEj h, SEl h, SEp h, SEs h, bd_some, bd2_some]
      rw [if_neg (by decide)]
    · right
      rw [g9, g10]; omega
    · unfold Vc
      rw [g9, g10, if_neg (by omega)]
  have nay : uX0_noteCheapest_b36 44 g n (sh, I, J) = some (sh, I, J) := by
    simp only [uX0_noteCheapest_b36, uX0_noteCheapest_b37, if_true]
  have fI : FrK I I := ⟨fun _ _ => rfl, fun _ _ _ => rfl⟩
  obtain ⟨I', y1, y2, y3, y4⟩ := yes
  simp only [uX0_noteCheapest, SEg h, SEr h, SEa h, SEk h, SEj h, SEl h, SEp h, SEs h, bd_some, bd2_some]
  unfold okV at hv
  by_cases c1 : gi I 44 9 = -1
  · rw [if_pos c1]
    have eV : Vc I = 100000000 := if_pos c1
    exact ⟨I', y1, y2, y3, by rw [y4, eV, if_pos (by omega)]⟩
  · have eV : Vc I = 16 * gi I 44 9 + gi I 44 10 := if_neg c1
    rw [if_neg c1]
    by_cases c2 : g < gi I 44 9
    · rw [if_pos c2]
      exact ⟨I', y1, y2, y3, by rw [y4, eV, if_pos (by omega)]⟩
    · rw [if_neg c2]
      by_cases c3 : g = gi I 44 9
      · rw [if_pos c3]
        by_cases c4 : gi I 44 10 ≤ n
        · rw [if_pos c4]
          exact ⟨I, nay, fI, hv, by rw [eV, if_neg (by omega)]⟩
        · rw [if_neg c4]
          exact ⟨I', y1, y2, y3, by rw [y4, eV, if_pos (by omega)]⟩
      · rw [if_neg c3]
        exact ⟨I, nay, fI, hv, by rw [eV, if_neg (by omega)]⟩
theorem c_seek {sh : Sh} (h : St sh) (J : Mj) {G : Int → Int} {W : Int → Int → Int} {U : List Int} (ho : OkW G W U) : ∀ (f u : Nat) (l : List Int) (g n p : Int) (I : Mi), UsR G W I U → U.drop u = l → l.length < f → u ≤ U.length → okV I → (0 ≤ g ∧ g + 9999 * (l.length : Int) ≤ 119988) → (0 ≤ n ∧ n + (l.length : Int) ≤ 12) → (-1000000 + 40000 * (l.length : Int) ≤ p ∧ p ≤ 1000000) → ∃ I', uX0_seekCheapest f 44 u g n p (sh, I, J) = some (sh, I', J) ∧ FrK I I' ∧ okV I' ∧ Vc I' = if 16 * g + n + DU G W l p < Vc I then 16 * g + n + DU G W l p else Vc I
  | 0, u, l, g, n, p, I, hU, hd, hf, hu, hv, hg, hn, hp => by omega
  | f + 1, u, l, g, n, p, I, hU, hd, hf, hu, hv, hg, hn, hp => by
    have hol : OkW G W l := fun c hc => ho c (by rw [← hd] at hc; exact List.mem_of_mem_drop hc)
    have hll : l.length = U.length - u := by rw [← hd]; exact List.length_drop
    have h12 := hU.1.2
    have e4 := hU.1.1
    have fI : FrK I I := ⟨fun _ _ => rfl, fun _ _ _ => rfl⟩
    have hVb : Vc I ≤ 100000000 := by
      unfold Vc okV at *
      split <;> omega
    have keep : Vc I ≤ 16 * g + n + DU G W l p → Vc I = if 16 * g + n + DU G W l p < Vc I then 16 * g + n + DU G W l p else Vc I := fun q => by rw [if_neg (by omega)]
    show ∃ I', uX0_seekCheapest_o (uX0_seekCheapest f) 44 u g n p (sh, I, J) = _ ∧ _
    simp only [uX0_seekCheapest_o]
    by_cases c1 : 0 < p
    · rw [if_pos c1]
      simp only [SEg h, SEr h, SEa h, SEk h, SEj h, SEl h, SEp h, SEs h, bd_some, bd2_some, e4]
      by_cases c2 : (U.length : Int) ≤ u
      · rw [if_pos c2]
        refine ⟨I, rfl, fI, hv, keep ?_⟩
        have : l = [] := List.length_eq_zero_iff.mp (by omega)
        rw [this]
        unfold DU
        rw [if_neg (by omega)]; omega
      · rw [if_neg c2, if_neg (by omega)]
        cases l with
        | nil => rw [List.length_nil] at hll; omega
        | cons c t =>
          obtain ⟨d1, d2, d3⟩ := drop_1 hd
          obtain ⟨e1, e2, e3⟩ := hU.2 u c t hd
          have hm := mx_le hol.hd.2.1
          have hgc := hol.hd.1
          rw [List.length_cons] at hp hf hg hn
          simp (disch := omega) only [SEg h, SEr h, SEa h, SEk h, SEj h, SEl h, SEp h, SEs h, bd_some, bd2_some, e3]
          by_cases c3 : p ≤ wsm W (c :: t)
          · rw [if_pos c3]
            have step : ∃ I', uX0_seekCheapest_b55 (uX0_seekCheapest f) 44 u g n p (sh, I, J) = some (sh, I', J) ∧ FrK I I' ∧ okV I' ∧ Vc I' = if 16 * g + n + DU G W (c :: t) p < Vc I then 16 * g + n + DU G W (c :: t) p else Vc I := by
              obtain ⟨I1, hs1, hf1, hv1, hV1⟩ := c_seek h J ho f (u + 1) t (g + G c) (n + 1) (p - mx W c) I hU d1 (by omega) (by omega) hv (by omega) (by omega) (by omega)
              obtain ⟨I2, hs2, hf2, hv2, hV2⟩ := c_seek h J ho f (u + 1) t g n p I1 (hU.fr hf1) d1 (by omega) (by omega) hv1 (by omega) (by omega) (by omega)
              rw [show ((u + 1 : Nat) : Int) = (u : Int) + 1 from rfl] at hs1 hs2
              refine ⟨I2, ?_, hf1.trans hf2, hv2, ?_⟩
              · simp (disch := omega) only [uX0_seekCheapest_b55, SEg h, SEr h, SEa h, SEk h, SEj h, SEl h, SEp h, SEs h, bd_some, bd2_some, w32_id, w64_id, e1, e2, hs1, hs2]
              · have eD : DU G W (c :: t) p = if DU G W t (p - mx W c) + 16 * G c + 1 < DU G W t p then DU G W t (p - mx W c) + 16 * G c + 1 else DU G W t p := rfl
                rw [hV2, hV1, eD]
                generalize DU G W t (p - mx W c) = a
                generalize DU G W t p = b
                generalize Vc I = V
                by_cases q1 : 16 * (g + G c) + (n + 1) + a < V
                · rw [if_pos q1]
                  by_cases q2 : a + 16 * G c + 1 < b
                  · rw [if_pos q2, if_neg (by omega), if_pos (by omega)]; omega
                  · rw [if_neg q2]
                    by_cases q3 : 16 * g + n + b < V
                    · rw [if_pos q3]; split <;> omega
                    · omega
                · rw [if_neg q1]
                  by_cases q2 : a + 16 * G c + 1 < b
                  · rw [if_pos q2, if_neg (by omega), if_neg (by omega)]
                  · rw [if_neg q2]
            by_cases c4 : gi I 44 9 = -1
            · rw [if_pos c4]; exact step
            · rw [if_neg c4]
              by_cases c5 : g < gi I 44 9
              · rw [if_pos c5]; exact step
              · rw [if_neg c5]
                refine ⟨I, rfl, fI, hv, keep ?_⟩
                have h17 := DU_17 hol c1
                unfold okV at hv
                have eV : Vc I = 16 * gi I 44 9 + gi I 44 10 := if_neg c4
                clear step hm keep
                omega
          · rw [if_neg c3]
            refine ⟨I, rfl, fI, hv, keep ?_⟩
            rw [DU_far hol c1 (by omega)]; omega
    · rw [if_neg c1]
      simp only [SEg h, SEr h, SEa h, SEk h, SEj h, SEl h, SEp h, SEs h, bd_some, bd2_some]
      have h9 : 0 ≤ 9999 * (l.length : Int) := by omega
      obtain ⟨I', hn1, hn2, hn3, hn4⟩ := c_noteC h I J hv (g := g) (n := n) (by omega) (by omega)
      rw [hn1]
      refine ⟨I', rfl, hn2, hn3, ?_⟩
      rw [hn4, DU_0 hol (by omega), Int.add_zero]
