theorem rX_worthOf {sh : Sh} (h : St sh) {I : Mi} (v : InvL (ri I 59)) (u : InvC (ri I 59)) (J : Mj) {b s m lk c x : Int} (hb : isW (ri I 59) b) (hs : isW (ri I 59) s) (hm : isM (ri I 59) m) (hk : 0 ≤ lk ∧ lk ≤ 100) (hc : isC (ri I 59) c) (x1 : 1 ≤ x) (x2 : x < 2 + ri I 59 1) : uX10_worthOf 57 c x b s m lk (sh, I, J) = some (wvS (ri I 59) b s m lk c x) := by
  have v1 := v.2.1
  have uc := u.2.2.2.2.2.2.2.1 c hc
  have uf := u.2.2.2.2.2.2.2.2.1 c 0 hc (by omega) (by omega)
  have u0 := u.1
  have hc1 := hc.1
  have hc2 := hc.2
  have hm1 := hm.1
  have hm2 := hm.2
  have vm := v.2.2.2.2.2.2.2.2.1
  have m0 := (vm m hm).1
  simp (disch := omega) only [uX10_worthOf, rX_ofCoin h, rX_topOf h, SEg h, SEr h, SEa h, SEk h, SEj h, SEl h, SEp h, SEs h, bd_some, bd2_some]
  have W63 : ∀ {g t o : Int}, isW (ri I 59) o → (-1000000 ≤ g ∧ g ≤ 9999) → uX10_worthOf_b63 57 s m lk g t o (sh, I, J) = some (if wrS (ri I 59) g t m = 0 then g * hunS (ri I 59) s o lk / 100 else 0) := fun {g t o} ho hg => by
    have hbnd := hunS_b v hs ho hk
    simp (disch := omega) only [uX10_worthOf_b63, rX_wrongStroke h, SEg h, SEr h, SEa h, SEk h, SEj h, SEl h, SEp h, SEs h, bd_some, bd2_some]
    by_cases z : wrS (ri I 59) g t m = 0
    · have := (wrS_0 z).1
      have v5 := v.2.2.2.2.2.1
      have hmul := mul_301 (x := g) (y := hunS (ri I 59) s o lk) (by omega) (by omega)
      rw [if_pos z, if_pos z, rX_hundredths h v J hs ho hk]
      simp (disch := omega) only [SEg h, SEr h, SEa h, SEk h, SEj h, SEl h, SEp h, SEs h, bd_some, bd2_some, w32_id, w64_id]
      rw [div32_pos (by omega) (by decide)]; rfl
    · rw [if_neg z, if_neg z]
  unfold wvS
  by_cases y : x = 1
  · rw [if_pos (by omega), if_pos y, W63 uf.1 (by omega)]
  · have hM : isM (ri I 59) (x - 2) := ⟨by omega, by omega⟩
    have mx0 := (vm (x - 2) hM).1
    rw [if_neg (by omega), if_neg y, if_pos ⟨by omega, by omega⟩]
    simp (disch := omega) only [SEg h, SEr h, SEa h, SEk h, SEj h, SEl h, SEp h, SEs h, bd_some, bd2_some, w32_id, w64_id, rX_wrongStroke h]
    by_cases z : wrS (ri I 59) (oc (ri I 59) c 0) (oc (ri I 59) c 2) (x - 2) = 0
    · rw [if_pos z, if_pos z]
      simp (disch := omega) only [SEg h, SEr h, SEa h, SEk h, SEj h, SEl h, SEp h, SEs h, bd_some, bd2_some, w32_id, w64_id, rX_ofMint h]
      exact W63 hb (by omega)
    · rw [if_neg z, if_neg z]
theorem rX_costOf {sh : Sh} (h : St sh) {I : Mi} (J : Mj) {G : Int → Int} {W : Int → Int → Int} {c : Int} {t : List Int} {i : Nat} {P p x : Int} (hi : i < 12) (ho : OkW G W (c :: t)) (hP : P ≤ 2000) (hc : 0 ≤ c ∧ c < 40) (hG : G c = oc (ri I 59) c 0) (h68 : ri I 68 i = c) (h69 : 1 ≤ x → ri I 69 (6 * i + x) = W c x) (h70 : ∀ q, 0 ≤ q → q ≤ P → ri I 70 (2001 * (i + 1) + q) = DU G W (us W t) q) (hp : 0 ≤ p ∧ p ≤ P) (hx : 0 ≤ x ∧ x ≤ 5) : uX10_costOf 57 i p x (sh, I, J) = some (cst G W c t p x) := by
  have okt := ho.tl.us
  have gb := ho.hd.1
  simp only [uX10_costOf]
  unfold cst
  by_cases z : x = 0
  · rw [if_pos z, if_pos z]
    simp (disch := omega) only [SEg h, SEr h, SEa h, SEk h, SEj h, SEl h, SEp h, SEs h, bd_some, bd2_some, w32_id, w64_id, h70 p hp.1 hp.2]
  · have e69 := h69 (by omega)
    have wb := ho.hd.2.1 x
    rw [if_neg z, if_neg z]
    simp (disch := omega) only [SEg h, SEr h, SEa h, SEk h, SEj h, SEl h, SEp h, SEs h, bd_some, bd2_some, w32_id, w64_id, e69]
    by_cases y : W c x = 0
    · rw [if_pos y, if_pos y]
    · rw [if_neg y, if_neg y]
      have B : ∀ q, 0 ≤ q → q ≤ P → DU G W (us W t) q = DU G W (us W t) (p - W c x) → uX10_costOf_b69 57 i 70 (2001 * ((i : Int) + 1)) q (sh, I, J) = some (if DU G W (us W t) (p - W c x) < 100000000 then DU G W (us W t) (p - W c x) + 16 * G c + 1 else 100000000) := fun q q0 q1 e => by
        have e70 := h70 q q0 q1
        rw [e] at e70
        have db := DU_b okt (p - W c x)
        obtain ⟨D, hD⟩ : ∃ D, D = DU G W (us W t) (p - W c x) := ⟨_, rfl⟩
        rw [← hD] at e70 db ⊢
        simp (disch := omega) only [uX10_costOf_b69, SEg h, SEr h, SEa h, SEk h, SEj h, SEl h, SEp h, SEs h, bd_some, bd2_some, w32_id, w64_id, e70]
        by_cases k : D < 100000000
        · rw [if_pos k, if_pos k]
          simp (disch := omega) only [SEg h, SEr h, SEa h, SEk h, SEj h, SEl h, SEp h, SEs h, bd_some, bd2_some, w32_id, w64_id, h68, rX_ofCoin h, ← hG]
        · rw [if_neg k, if_neg k]
      by_cases k : p ≤ W c x
      · rw [if_pos k]
        exact B 0 (by omega) (by omega) (DU_max okt (.inr ⟨rfl, by omega⟩))
      · rw [if_neg k]
        exact B (p - W c x) (by omega) (by omega) rfl
theorem cst_far {G : Int → Int} {W : Int → Int → Int} {c : Int} {t : List Int} (ho : OkW G W (c :: t)) {p x : Int} (h : isF G W c t p x) : x = 0 ∨ 0 < W c x := by
  have wb := ho.hd.2.1 x
  apply Classical.byContradiction
  intro q
  have e : cst G W c t p x = 100000000 := by unfold cst; rw [if_neg (by omega), if_pos (by omega)]
  have h0 := cst_le ho (p := p) (h := 0) (by decide) (by decide)
  have h1 : cst G W c t p 0 ≤ 100000000 := by
    unfold cst; rw [if_pos rfl]; exact (DU_b ho.tl.us p).2
  have := h.2.1
  have hx := h.1
  exact h.2.2 0 (by decide) (by omega) (by omega)
theorem rX_bestOf {sh : Sh} (h : St sh) {I : Mi} (J : Mj) {G : Int → Int} {W : Int → Int → Int} {c : Int} {t : List Int} {i : Nat} {P p : Int} (v1 : 0 ≤ ri I 59 1 ∧ ri I 59 1 ≤ 4) (hi : i < 12) (ho : OkW G W (c :: t)) (hP : P ≤ 2000) (hc : 0 ≤ c ∧ c < 40) (hG : G c = oc (ri I 59) c 0) (h68 : ri I 68 i = c) (h69 : ∀ x, 1 ≤ x → x < 2 + ri I 59 1 → ri I 69 (6 * i + x) = W c x) (hW : ∀ x, 2 + ri I 59 1 ≤ x → W c x = 0) (h70 : ∀ q, 0 ≤ q → q ≤ P → ri I 70 (2001 * (i + 1) + q) = DU G W (us W t) q) (hp : 0 ≤ p ∧ p ≤ P) : uX10_bestOf 57 i p (sh, I, J) = some (DU G W (us W (c :: t)) p) := by
  have cs : ∀ x, 0 ≤ x → x < 2 + ri I 59 1 → uX10_costOf 57 i p x (sh, I, J) = some (cst G W c t p x) := fun x x0 x1 => rX_costOf h J hi ho hP hc hG h68 (fun q => h69 x q x1) h70 hp ⟨x0, by omega⟩
  have bD := DU_b ho.us p
  obtain ⟨bb, hbb, hQ⟩ := lp_fi (f := uX10_bestOf_f7 57 i p (sh, I, J)) (x := (100000000, 0)) (fun k y => ∃ d, y = (d, (k : Int)) ∧ (DU G W (us W (c :: t)) p ≤ d ∧ d ≤ 100000000) ∧ ∀ x : Int, 0 ≤ x → x < k → d ≤ cst G W c t p x) (fun d => DU G W (us W (c :: t)) p ≤ d ∧ ∀ x, 0 ≤ x → x < 2 + ri I 59 1 → d ≤ cst G W c t p x) (2 + ri I 59 1).toNat
    ⟨_, rfl, ⟨bD.2, Int.le_refl _⟩, fun x x0 x1 => by omega⟩ (fun k y hk ⟨d, hy, hd, ha⟩ => by
      subst hy
      simp (disch := omega) only [uX10_bestOf_f7, uX10_bestOf_s7, rX_mints h, SEg h, SEr h, SEa h, SEk h, SEj h, SEl h, SEp h, SEs h, bd_some, bd2_some, w32_id, w64_id]
      by_cases ck : 2 + ri I 59 1 ≤ (k : Int)
      · right
        exact ⟨d, by rw [if_pos ck], hd.1, fun x x0 x1 => ha x x0 (by omega)⟩
      · left
        refine ⟨by omega, ?_⟩
        rw [if_neg ck, cs k (by omega) (by omega)]
        simp only [bd_some]
        have lo := cst_le ho (p := p) (h := (k : Int)) (by omega) (by omega)
        by_cases cd : d ≤ cst G W c t p k
        · rw [if_pos cd]
          refine ⟨_, rfl, d, by simp, hd, fun x x0 x1 => ?_⟩
          by_cases z : x = k
          · subst z; exact cd
          · exact ha x x0 (by omega)
        · rw [if_neg cd]
          refine ⟨_, rfl, cst G W c t p k, by simp, ⟨lo, by omega⟩, fun x x0 x1 => ?_⟩
          by_cases z : x = k
          · subst z; exact Int.le_refl _
          · have := ha x x0 (by omega); omega) (by omega)
  simp only [uX10_bestOf, uX10_bestOf_b7, hbb, bd_some, uX10_bestOf_c7, uX10_bestOf_b43]
  obtain ⟨x, x0, x5, xz, xe⟩ := cst_at ho p
  have := hQ.2 x x0 (by
    rcases xz with q | q
    · omega
    · apply Classical.byContradiction
      intro z
      have := hW x (by omega)
      omega)
  have := hQ.1
  congr 1; omega
