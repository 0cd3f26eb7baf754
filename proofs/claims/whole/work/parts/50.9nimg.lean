theorem St.W {sh : Sh} (h : St sh) : BlW sh 16 := by
  have h81 := h.1
  refine ⟨by omega, h.kd 16 8 (by decide) rfl, ⟨h.rf _ _ _ (by decide) rfl (by decide), h.rf _ _ _ (by decide) rfl (by decide), h.rf _ _ _ (by decide) rfl (by decide), h.rf _ _ _ (by decide) rfl (by decide), h.rf _ _ _ (by decide) rfl (by decide)⟩, ⟨by omega, h.kd _ _ (by decide) rfl, fun j hj => ?_, fun j hj => ?_, fun j h1 hj => ?_, h.ln _ _ (by decide) rfl, h.ln _ _ (by decide) rfl⟩, h.G, ⟨by omega, h.kd _ _ (by decide) rfl, h.kd _ _ (by decide) rfl, h.ln _ _ (by decide) rfl, h.rf _ _ _ (by decide) rfl (by decide)⟩, ⟨by omega, h.kd _ _ (by decide) rfl, h.kd _ _ (by decide) rfl, h.ln _ _ (by decide) rfl, h.rf _ _ _ (by decide) rfl (by decide)⟩, ⟨by omega, h.kd _ _ (by decide) rfl, fun j hj => ?_⟩⟩
  · have : j = 0 ∨ j = 1 ∨ j = 2 ∨ j = 3 ∨ j = 4 ∨ j = 5 ∨ j = 6 ∨ j = 7 := by omega
    rcases this with rfl | rfl | rfl | rfl | rfl | rfl | rfl | rfl <;> exact ⟨h.kd _ _ (by decide) rfl, h.rf _ _ _ (by decide) rfl (by decide)⟩
  · have : j = 0 ∨ j = 1 ∨ j = 2 := by omega
    rcases this with rfl | rfl | rfl <;> exact h.ln _ _ (by decide) rfl
  · have : j = 3 ∨ j = 4 ∨ j = 5 := by omega
    rcases this with rfl | rfl | rfl <;> exact h.ln _ _ (by decide) rfl
  · have : j = 0 ∨ j = 1 ∨ j = 2 := by omega
    rcases this with rfl | rfl | rfl <;> exact ⟨h.kd _ _ (by decide) rfl, h.ln _ _ (by decide) rfl, h.rf _ _ _ (by decide) rfl (by decide)⟩
theorem aR43 {sh : Sh} (h : St sh) {k : Nat} (hk : k < 2) (A : Mi) (J : Mj) : aR 16 (sh, A, J) 43 (k : Int) = some (sh.2.2.2 43 k) := by
  have h81 := h.1
  have k43 : sh.2.1 43 = 16 := h.kd 43 16 (by decide) rfl
  have l43 : sh.2.2.1 43 = 2 := h.ln 43 2 (by decide) rfl
  unfold aR
  rw [if_pos ⟨⟨by show 43 < sh.1; omega, k43, by show sh.2.2.1 43 < _; omega⟩, by omega, by show (k : Int) < (sh.2.2.1 43 : Int); omega⟩]
  rfl
theorem c_image2 {sh : Sh} (h : St sh) {w k : Nat} (hk : k < 2) (hs : sh.2.2.2 43 k = some w) (hw : 81 ≤ w) (b : BlW sh w) (A : Mi) (J : Mj) {S nm : Int → Int} (r : ImgW 16 A S nm) (w1 : gi A (w + 17) 0 = 6) (w2 : gi A (w + 19) 0 = 7) : ∃ A1, uX9_image_b37 0 k (sh, A, J) = some (1, (sh, A1, J)) ∧ (∀ a, ¬ (w ≤ a ∧ a < w + 25) → A1 a = A a) ∧ ImgW w A1 S nm := by
  obtain ⟨A1, c1, c2, c3⟩ := c_copyW b h.W (by omega) J r w1 w2
  refine ⟨A1, ?_, c2, c3⟩
  have eK : ∀ (α : Type) (x : Option α), gK (sh, A, J) 8 w x = x := fun α x => gK_ok b.1 b.2.1
  simp only [uX9_image_b37, SEg h, SEr h, SEa h, SEk h, SEj h, SEl h, SEp h, SEs h, bd_some, bd2_some, aR43 h hk, hs, eK, c1]
theorem c_image {sh : Sh} (h : St sh) (al : AllocR sh) {k : Nat} (hk : k < 2) (A : Mi) (J : Mj) {S nm : Int → Int} (r : ImgW 16 A S nm) (hw : ∀ w, sh.2.2.2 43 k = some w → gi A (w + 17) 0 = 6 ∧ gi A (w + 19) 0 = 7) :
    ∃ sh' A1 J1 w, uX9_image 0 k (sh, A, J) = some (1, (sh', A1, J1)) ∧ St sh' ∧ AllocR sh' ∧ sh'.2.2.2 43 k = some w ∧ (∀ i, i ≠ k → sh'.2.2.2 43 i = sh.2.2.2 43 i) ∧ (∀ i, sh'.2.2.2 42 i = sh.2.2.2 42 i) ∧ 81 ≤ w ∧ (∀ a, a < sh.1 → ¬ (w ≤ a ∧ a < w + 25) → A1 a = A a) ∧ (∀ a, a < 81 → J1 a = J a) ∧ ImgW w A1 S nm := by
  have h81 := h.1
  have al2 : aL (sh, A, J) 43 = some 2 := aL_ok (by omega) (by rw [h.kd 43 16 (by decide) rfl]; decide) (h.ln 43 2 (by decide) rfl) (by decide)
  cases hs : sh.2.2.2 43 k with
  | some w =>
    have hb := al.2.1 k w hk hs
    have ww := hw w hs
    obtain ⟨A1, e1, e2, e3⟩ := c_image2 h hk hs hb.1 hb.2 A J r ww.1 ww.2
    refine ⟨sh, A1, J, w, ?_, h, al, hs, fun _ _ => rfl, fun _ => rfl, hb.1, fun a _ h2 => e2 a h2, fun _ _ => rfl, e3⟩
    unfold uX9_image
    rw [if_neg (by omega)]
    simp only [SEg h, SEr h, SEa h, SEk h, SEj h, SEl h, SEp h, SEs h, bd_some, bd2_some, al2]
    rw [if_pos (by omega)]
    simp only [aR43 h hk, hs, bd_some]
    rw [if_neg (by simp)]; exact e1
  | none =>
    obtain ⟨g, hg⟩ : ∃ g, g = sh.1 := ⟨_, rfl⟩
    obtain ⟨s2, I2, J2, e2, x2, b2, q2, v1, v2, -⟩ := new_W (sh := nsh sh 8 0) (o := g) (by show sh.1 + 1 = _; rw [hg]) (by show va_up sh.2.1 sh.1 8 g = 8; rw [hg]; simp [va_up]) (zi A sh.1) (zj J sh.1)
    have x := (nsh_x sh 8 0 g).trans x2
    have hst2 : St s2 := h.ext x (by omega)
    have n2 : s2.1 = g + 25 := by have := x.1; omega
    have hst : St (wrf s2 43 k (some g)) := hst2.wr (.inr rfl) k _
    have hs' : (wrf s2 43 k (some g)).2.2.2 43 k = some g := by rw [wrf_r, if_pos ⟨rfl, rfl⟩]
    have hoth : ∀ i', i' ≠ k → (wrf s2 43 k (some g)).2.2.2 43 i' = sh.2.2.2 43 i' := fun i' hn => by
      rw [wrf_r, if_neg (fun q => hn q.2)]; exact (x.2 43 (by omega)).2.2 _ (by omega)
    have h42 : ∀ i, (wrf s2 43 k (some g)).2.2.2 42 i = sh.2.2.2 42 i := fun i => by
      rw [wrf_r, if_neg (by omega)]; exact (x.2 42 (by omega)).2.2 _ (by omega)
    have wr := Bl.wr (sh := s2) (a := 43) (i := k) (v := some g) (by decide)
    have bg := wr.2 g (by omega) b2
    have qA : ∀ a, a < g → I2 a = A a := fun a ha => by rw [(q2 a ha).1, zi_at _ (by omega)]
    have qJ : ∀ a, a < g → J2 a = J a := fun a ha => by rw [(q2 a ha).2, zj_at _ (by omega)]
    obtain ⟨A1, e1, f1, f2⟩ := c_image2 hst hk hs' (by omega) bg I2 J2 (r.fr fun a _ _ => qA a (by omega)) v1 v2
    refine ⟨_, A1, J2, g, ?_, hst, ?_, hs', hoth, h42, by omega, fun a h1 h3 => by rw [f1 a h3, qA a (by omega)], fun a ha => qJ a (by omega), f2⟩
    · unfold uX9_image
      rw [if_neg (by omega)]
      simp only [SEg h, SEr h, SEa h, SEk h, SEj h, SEl h, SEp h, SEs h, bd_some, bd2_some, al2]
      rw [if_pos (by omega)]
      simp only [aR43 h hk, hs, bd_some]
      rw [if_pos trivial]
      have e3 : uX8_init sh.1 (nC (sh, A, J) 8 0) = some (s2, I2, J2) := by rw [hg] at e2; exact e2
      rw [e3]
      simp only [bd_some]
      have e4 : sR 16 (s2, I2, J2) 43 (k : Int) sh.1 = some (wrf s2 43 k (some g), I2, J2) := by
        unfold sR
        have e5 := hst2.kd 43 16 (by decide) rfl
        have e6 := hst2.ln 43 2 (by decide) rfl
        rw [if_pos ⟨⟨by show 43 < s2.1; omega, e5, by show s2.2.2.1 43 < _; omega, by show sh.1 < s2.1; omega, .inr ⟨rfl, by show s2.2.1 sh.1 = 8; rw [← hg]; exact b2.2.1⟩⟩, by omega, by show (k : Int) < (s2.2.2.1 43 : Int); omega⟩]
        rw [← hg]; rfl
      rw [e4]; exact e1
    · obtain ⟨a0, a1, a2, a3, a4⟩ := al
      refine ⟨fun i' g' h1 h2 => ?_, fun k' w h1 h2 => ?_, fun i1 i2 g1 g2 h1 h2 hne h3 h4 => ?_, fun k1 k2 w1 w2 h1 h2 hne h3 h4 => ?_, fun i1 k' g1 w h1 h2 h3 h4 => ?_⟩
      · rw [h42] at h2
        have := a0 i' g' h1 h2
        exact ⟨this.1, wr.1 g' this.1 (this.2.ext x (by have := this.2.1; omega))⟩
      · by_cases hii : k' = k
        · subst hii; rw [hs'] at h2; obtain rfl := Option.some.inj h2; exact ⟨by omega, bg⟩
        · rw [hoth k' hii] at h2
          have := a1 k' w h1 h2
          exact ⟨this.1, wr.2 w this.1 (this.2.ext x (by have := this.2.top; omega))⟩
      · rw [h42] at h3 h4
        exact a2 i1 i2 g1 g2 h1 h2 hne h3 h4
      · by_cases hi1 : k1 = k
        · subst hi1; rw [hs'] at h3; obtain rfl := Option.some.inj h3
          rw [hoth k2 (by omega)] at h4
          have := (a1 k2 w2 h2 h4).2.top; omega
        · rw [hoth k1 hi1] at h3
          by_cases hi2 : k2 = k
          · subst hi2; rw [hs'] at h4; obtain rfl := Option.some.inj h4
            have := (a1 k1 w1 h1 h3).2.top; omega
          · rw [hoth k2 hi2] at h4; exact a3 k1 k2 w1 w2 h1 h2 hne h3 h4
      · rw [h42] at h3
        by_cases hii : k' = k
        · subst hii; rw [hs'] at h4; obtain rfl := Option.some.inj h4
          have := (a0 i1 g1 h1 h3).2.1; omega
        · rw [hoth k' hii] at h4; exact a4 i1 k' g1 w h1 h2 h3 h4
