theorem wrf_r (sh : Sh) (o j : Nat) (v : Option Nat) (a b : Nat) : (wrf sh o j v).2.2.2 a b = if a = o ∧ b = j then v else sh.2.2.2 a b := up2_ap _ _ _ _ _ _
theorem St.ext {sh sh' : Sh} {n o : Nat} (h : St sh) (x : Ext sh sh' n o) (ho : 81 ≤ o) : St sh' := by
  obtain ⟨h0, h1, h2, h3⟩ := h
  refine ⟨by have := x.1; omega, fun i hi => by rw [(x.2 i (by omega)).1]; exact h1 i hi, fun i hi => by rw [(x.2 i (by omega)).2.1]; exact h2 i hi, fun i j hi hr => by rw [(x.2 i (by omega)).2.2 j (by omega)]; exact h3 i j hi hr⟩
theorem St.wr {sh : Sh} (h : St sh) {a : Nat} (ha : a = 42 ∨ a = 43) (i : Nat) (v : Option Nat) : St (wrf sh a i v) := by
  obtain ⟨h0, h1, h2, h3⟩ := h
  refine ⟨h0, h1, h2, fun b j hi hr => ?_⟩
  show up2 sh.2.2.2 a i v b j = _
  rw [up2_ap, if_neg]
  · exact h3 b j hi hr
  · rintro ⟨rfl, rfl⟩
    rcases ha with rfl | rfl <;> exact hr (by simp [R0])
theorem BlG.ext {sh sh' : Sh} {n o g : Nat} (b : BlG sh g) (x : Ext sh sh' n o) (hg : g ≠ o) : BlG sh' g := by
  obtain ⟨b0, b1, b2, b3, b4⟩ := b
  refine ⟨by have := x.1; omega, by rw [(x.2 g (by omega)).1]; exact b1, fun j hj => ⟨by rw [(x.2 _ (by omega)).1]; exact (b2 j hj).1, by rw [(x.2 g (by omega)).2.2 _ hg]; exact (b2 j hj).2⟩, fun j hj => by rw [(x.2 _ (by omega)).2.1]; exact b3 j hj, fun j h1 hj => by rw [(x.2 _ (by omega)).2.1]; exact b4 j h1 hj⟩
theorem BlL.ext {sh sh' : Sh} {n o g : Nat} (b : BlL sh g) (x : Ext sh sh' n o) (hg : g ≠ o) : BlL sh' g := by
  obtain ⟨b0, b1, b2, b3, b4, b5, b6⟩ := b
  refine ⟨by have := x.1; omega, by rw [(x.2 g (by omega)).1]; exact b1, fun j hj => ⟨by rw [(x.2 _ (by omega)).1]; exact (b2 j hj).1, by rw [(x.2 g (by omega)).2.2 _ hg]; exact (b2 j hj).2⟩, fun j hj => by rw [(x.2 _ (by omega)).2.1]; exact b3 j hj, fun j h1 hj => by rw [(x.2 _ (by omega)).2.1]; exact b4 j h1 hj, by rw [(x.2 _ (by omega)).2.1]; exact b5, by rw [(x.2 _ (by omega)).2.1]; exact b6⟩
theorem BlT.ext {sh sh' : Sh} {n o g L : Nat} (b : BlT sh g L) (x : Ext sh sh' n o) (hg : g ≠ o) : BlT sh' g L := by
  obtain ⟨b0, b1, b2, b3, b4⟩ := b
  exact ⟨by have := x.1; omega, by rw [(x.2 g (by omega)).1]; exact b1, by rw [(x.2 _ (by omega)).1]; exact b2, by rw [(x.2 _ (by omega)).2.1]; exact b3, by rw [(x.2 g (by omega)).2.2 _ hg]; exact b4⟩
theorem BlS.ext {sh sh' : Sh} {n o g : Nat} (b : BlS sh g) (x : Ext sh sh' n o) (hg : g ≠ o) : BlS sh' g := by
  obtain ⟨b0, b1, b2⟩ := b
  exact ⟨by have := x.1; omega, by rw [(x.2 g (by omega)).1]; exact b1, fun j hj => ⟨by rw [(x.2 _ (by omega)).1]; exact (b2 j hj).1, by rw [(x.2 _ (by omega)).2.1]; exact (b2 j hj).2.1, by rw [(x.2 g (by omega)).2.2 _ hg]; exact (b2 j hj).2.2⟩⟩
theorem BlW.ext {sh sh' : Sh} {n o w : Nat} (b : BlW sh w) (x : Ext sh sh' n o) (hw : o < w ∨ w + 25 ≤ o) : BlW sh' w := by
  obtain ⟨b0, b1, ⟨c0, c1, c2, c3, c4⟩, bl, bg, bt, bu, bs⟩ := b
  have q := fun j => (x.2 w b0).2.2 j (by omega)
  exact ⟨by have := x.1; omega, by rw [(x.2 w b0).1]; exact b1, ⟨by rw [q]; exact c0, by rw [q]; exact c1, by rw [q]; exact c2, by rw [q]; exact c3, by rw [q]; exact c4⟩, bl.ext x (by omega), bg.ext x (by omega), bt.ext x (by omega), bu.ext x (by omega), bs.ext x (by omega)⟩
theorem BlW.top {sh : Sh} {w : Nat} (b : BlW sh w) : w + 25 ≤ sh.1 := b.2.2.2.2.2.2.2.1
/-- references of other cells do not matter to a block -/
theorem Bl.wr {sh : Sh} {a i : Nat} {v : Option Nat} (ha : a < 81) : (∀ g, 81 ≤ g → BlG sh g → BlG (wrf sh a i v) g) ∧ (∀ w, 81 ≤ w → BlW sh w → BlW (wrf sh a i v) w) := by
  have q : ∀ b j, 81 ≤ b → (wrf sh a i v).2.2.2 b j = sh.2.2.2 b j := fun b j hb => by show up2 _ _ _ _ _ _ = _; rw [up2_ap, if_neg (by omega)]
  have qg : ∀ g, 81 ≤ g → BlG sh g → BlG (wrf sh a i v) g := fun g hg b => ⟨b.1, b.2.1, fun j hj => ⟨(b.2.2.1 j hj).1, by rw [q _ _ hg]; exact (b.2.2.1 j hj).2⟩, b.2.2.2.1, b.2.2.2.2⟩
  refine ⟨qg, fun w hw b => ?_⟩
  obtain ⟨b0, b1, ⟨c0, c1, c2, c3, c4⟩, bl, bg, bt, bu, bs⟩ := b
  exact ⟨b0, b1, ⟨by rw [q _ _ hw]; exact c0, by rw [q _ _ hw]; exact c1, by rw [q _ _ hw]; exact c2, by rw [q _ _ hw]; exact c3, by rw [q _ _ hw]; exact c4⟩, ⟨bl.1, bl.2.1, fun j hj => ⟨(bl.2.2.1 j hj).1, by rw [q _ _ (by omega)]; exact (bl.2.2.1 j hj).2⟩, bl.2.2.2⟩, qg _ (by omega) bg, ⟨bt.1, bt.2.1, bt.2.2.1, bt.2.2.2.1, by rw [q _ _ (by omega)]; exact bt.2.2.2.2⟩, ⟨bu.1, bu.2.1, bu.2.2.1, bu.2.2.2.1, by rw [q _ _ (by omega)]; exact bu.2.2.2.2⟩, ⟨bs.1, bs.2.1, fun j hj => ⟨(bs.2.2 j hj).1, (bs.2.2 j hj).2.1, by rw [q _ _ (by omega)]; exact (bs.2.2 j hj).2.2⟩⟩⟩
theorem St.G {sh : Sh} (h : St sh) : BlG sh 26 := by
  have h81 := h.1
  refine ⟨by omega, h.kd 26 1 (by decide) rfl, fun j hj => ?_, fun j hj => ?_, fun j h1 hj => ?_⟩
  · have : j = 0 ∨ j = 1 ∨ j = 2 ∨ j = 3 ∨ j = 4 ∨ j = 5 := by omega
    rcases this with rfl | rfl | rfl | rfl | rfl | rfl <;> exact ⟨h.kd _ _ (by decide) rfl, h.rf _ _ _ (by decide) rfl (by decide)⟩
  · have : j = 0 ∨ j = 1 ∨ j = 2 ∨ j = 3 := by omega
    rcases this with rfl | rfl | rfl | rfl <;> exact h.ln _ _ (by decide) rfl
  · have : j = 4 ∨ j = 5 := by omega
    rcases this with rfl | rfl <;> exact h.ln _ _ (by decide) rfl
/-- the class's rows behind keep, once there is a place -/
theorem c_keep2 {sh : Sh} (h : St sh) {g i : Nat} (hg : 81 ≤ g) (b : BlG sh g) (hi : i < 6) (hs : sh.2.2.2 42 i = some g) (A : Mi) (J : Mj) {z o : Int} (hz : gi A 41 2 = z) (ho : gi A 41 1 = o) (hz2 : 0 ≤ z ∧ z ≤ 6) (ho2 : 0 ≤ o ∧ o < 6) :
    ∃ A1, uX2_keep_b35 41 26 i (sh, A, J) = some (sh, A1, J) ∧ (∀ a, a ≠ 41 → ¬ (g ≤ a ∧ a ≤ g + 6) → A1 a = A a) ∧ (∀ T, InvC T → CgR 26 A T → CgR g A1 T) ∧ gi A1 41 2 = (if z = 6 then 6 else z + 1) ∧ gi A1 41 1 = (if z = 6 then (o + 1) % 6 else o) := by
  obtain ⟨A1, hc, cp1⟩ := c_copyG b h.G (by omega) A J
  have e41 := cp1.1 41 (by omega)
  have hz1 : gi A1 41 2 = z := by rw [gi_of _ _ _ e41, hz]
  have ho1 : gi A1 41 1 = o := by rw [gi_of _ _ _ e41, ho]
  have eR : aR 15 (sh, A, J) 42 i = some (some g) := by
    unfold aR
    have h1 : sh.2.1 42 = 15 := h.kd 42 15 (by decide) rfl
    have h2 : sh.2.2.1 42 = 6 := h.ln 42 6 (by decide) rfl
    have h3 : 42 < sh.1 := h.lt 42 (by decide)
    rw [if_pos ⟨⟨h3, h1, by show sh.2.2.1 42 < _; omega⟩, by omega, by show (i : Int) < (sh.2.2.1 42 : Int); omega⟩]
    show some (sh.2.2.2 42 (i : Int).toNat) = _
    rw [Int.toNat_natCast, hs]
  have eK : ∀ (α : Type) (x : Option α), gK (sh, A, J) 1 g x = x := fun α x => gK_ok (by have := b.1; omega) b.2.1
  by_cases h6 : z = 6
  · refine ⟨wi A1 41 1 ((o + 1) % 6), ?_, fun a h1 h2 => by rw [wi_at _ _ _ h1]; exact cp1.1 a h2, fun T hT hr => (cp1.rep hT hr).fr fun a _ _ => wi_at _ _ _ (by omega), ?_, ?_⟩
    · simp (disch := omega) only [uX2_keep_b35, SEg h, SEr h, SEa h, SEk h, SEj h, SEl h, SEp h, SEs h, bd_some, bd2_some, eR, eK, hc, hz1, ho1, w32_id, w64_id, rem32_pos, if_pos]
    · rw [gi_wiw, if_neg (by decide), hz1, if_pos h6, h6]
    · rw [gi_wiw, if_pos ⟨rfl, rfl⟩, if_pos h6, w32_id (by omega) (by omega)]
  · refine ⟨wi A1 41 2 (z + 1), ?_, fun a h1 h2 => by rw [wi_at _ _ _ h1]; exact cp1.1 a h2, fun T hT hr => (cp1.rep hT hr).fr fun a _ _ => wi_at _ _ _ (by omega), ?_, ?_⟩
    · simp (disch := omega) only [uX2_keep_b35, SEg h, SEr h, SEa h, SEk h, SEj h, SEl h, SEp h, SEs h, bd_some, bd2_some, eR, eK, hc, hz1, ho1, w32_id, w64_id, if_neg]
    · rw [gi_wiw, if_pos ⟨rfl, rfl⟩, if_neg h6, w32_id (by omega) (by omega)]
    · rw [gi_wiw, if_neg (by decide), ho1, if_neg h6]
theorem c_keep {sh : Sh} (h : St sh) (al : AllocR sh) (A : Mi) (J : Mj) {z o : Int} (hz : gi A 41 2 = z) (ho : gi A 41 1 = o) (hz2 : 0 ≤ z ∧ z ≤ 6) (ho2 : 0 ≤ o ∧ o < 6) :
    ∃ sh' A1 J1 g, uX2_keep 41 26 (sh, A, J) = some (sh', A1, J1) ∧ St sh' ∧ AllocR sh' ∧ sh'.2.2.2 42 ((o + z) % 6).toNat = some g ∧ (∀ i, i ≠ ((o + z) % 6).toNat → sh'.2.2.2 42 i = sh.2.2.2 42 i) ∧ (∀ k, sh'.2.2.2 43 k = sh.2.2.2 43 k) ∧ 81 ≤ g ∧ (∀ a, a < sh.1 → a ≠ 41 → ¬ (g ≤ a ∧ a ≤ g + 6) → A1 a = A a) ∧ (∀ a, a < 81 → J1 a = J a) ∧ (∀ T, InvC T → CgR 26 A T → CgR g A1 T) ∧ gi A1 41 2 = (if z = 6 then 6 else z + 1) ∧ gi A1 41 1 = (if z = 6 then (o + 1) % 6 else o) := by
  obtain ⟨i, hi⟩ : ∃ i, i = ((o + z) % 6).toNat := ⟨_, rfl⟩
  have hi6 : i < 6 := by omega
  have hi' : (i : Int) = (o + z) % 6 := by omega
  have h81 := h.1
  have k42 : sh.2.1 42 = 15 := h.kd 42 15 (by decide) rfl
  have l42 : sh.2.2.1 42 = 6 := h.ln 42 6 (by decide) rfl
  have eR : ∀ A J, aR 15 (sh, A, J) 42 ((o + z) % 6) = some (sh.2.2.2 42 i) := fun A J => by
    unfold aR
    rw [if_pos ⟨⟨by show 42 < sh.1; omega, k42, by show sh.2.2.1 42 < _; omega⟩, by omega, by show (o + z) % 6 < (sh.2.2.1 42 : Int); omega⟩]
    show some (sh.2.2.2 42 ((o + z) % 6).toNat) = _
    rw [← hi]
  rw [← hi]
  cases hs : sh.2.2.2 42 i with
  | some g =>
    have hg := al.1 i g hi6 hs
    obtain ⟨A1, e1, f1, f2, f3, f4⟩ := c_keep2 h hg.1 hg.2 hi6 hs A J hz ho hz2 ho2
    refine ⟨sh, A1, J, g, ?_, h, al, hs, fun _ _ => rfl, fun _ => rfl, hg.1, fun a _ h2 h3 => f1 a h2 h3, fun _ _ => rfl, f2, f3, f4⟩
    rw [hi'] at e1
    simp (disch := omega) only [uX2_keep, SEg h, SEr h, SEa h, SEk h, SEj h, SEl h, SEp h, SEs h, bd_some, bd2_some, hz, ho, w32_id, w64_id, rem32_pos, eR, hs]
    rw [if_neg (by simp)]; exact e1
  | none =>
    obtain ⟨g, hg⟩ : ∃ g, g = sh.1 := ⟨_, rfl⟩
    obtain ⟨s2, I2, J2, e2, x2, b2, q2, -⟩ := new_G (sh := nsh sh 1 0) (o := g) (by show sh.1 + 1 = _; rw [hg]) (by show va_up sh.2.1 sh.1 1 g = 1; rw [hg]; simp [va_up]) (zi A sh.1) (zj J sh.1)
    have x1 : Ext sh (nsh sh 1 0) 1 g := ⟨rfl, fun a ha => ⟨by show va_up _ _ _ a = _; simp [va_up]; omega, by show va_up _ _ _ a = _; simp [va_up]; omega, fun j hj => by show va_up sh.2.2.2 sh.1 _ a j = _; unfold va_up; rw [if_neg (by omega)]⟩⟩
    have x := x1.trans x2
    have hst2 : St s2 := h.ext x (by omega)
    have n2 : s2.1 = g + 7 := by have := x.1; omega
    have hst : St (wrf s2 42 i (some g)) := hst2.wr (.inl rfl) i _
    have hs' : (wrf s2 42 i (some g)).2.2.2 42 i = some g := by rw [wrf_r, if_pos ⟨rfl, rfl⟩]
    have hoth : ∀ i', i' ≠ i → (wrf s2 42 i (some g)).2.2.2 42 i' = sh.2.2.2 42 i' := fun i' hn => by
      rw [wrf_r, if_neg (fun q => hn q.2)]; exact (x.2 42 (by omega)).2.2 _ (by omega)
    have h43 : ∀ k, (wrf s2 42 i (some g)).2.2.2 43 k = sh.2.2.2 43 k := fun k => by
      rw [wrf_r, if_neg (by omega)]; exact (x.2 43 (by omega)).2.2 _ (by omega)
    have wr := Bl.wr (sh := s2) (a := 42) (i := i) (v := some g) (by decide)
    have bg := wr.1 g (by omega) b2
    have qA : ∀ a, a < g → I2 a = A a := fun a ha => by rw [(q2 a ha).1, zi_at _ (by omega)]
    have qJ : ∀ a, a < g → J2 a = J a := fun a ha => by rw [(q2 a ha).2, zj_at _ (by omega)]
    obtain ⟨A1, e1, f1, f2, f3, f4⟩ := c_keep2 hst (by omega) bg hi6 hs' I2 J2 (z := z) (o := o) (by rw [gi_of _ _ _ (qA 41 (by omega)), hz]) (by rw [gi_of _ _ _ (qA 41 (by omega)), ho]) hz2 ho2
    refine ⟨_, A1, J2, g, ?_, hst, ?_, hs', hoth, h43, by omega, fun a h1 h2 h3 => by rw [f1 a h2 h3, qA a (by omega)], fun a ha => qJ a (by omega), fun T hT hr => f2 T hT (hr.fr fun a _ _ => qA a (by omega)), f3, f4⟩
    · rw [hi'] at e1
      simp (disch := omega) only [uX2_keep, SEg h, SEr h, SEa h, SEk h, SEj h, SEl h, SEp h, SEs h, bd_some, bd2_some, hz, ho, w32_id, w64_id, rem32_pos, eR, hs]
      rw [if_pos trivial]
      have e3 : uX1_init sh.1 (nC (sh, A, J) 1 0) = some (s2, I2, J2) := by rw [hg] at e2; exact e2
      rw [e3]
      simp only [bd_some]
      have e4 : sR 15 (s2, I2, J2) 42 ((o + z) % 6) sh.1 = some (wrf s2 42 i (some g), I2, J2) := by
        unfold sR
        have e5 := hst2.kd 42 15 (by decide) rfl
        have e6 := hst2.ln 42 6 (by decide) rfl
        rw [if_pos ⟨⟨by show 42 < s2.1; omega, e5, by show s2.2.2.1 42 < _; omega, by show sh.1 < s2.1; omega, .inl ⟨rfl, by show s2.2.1 sh.1 = 1; rw [← hg]; exact b2.2.1⟩⟩, by omega, by show (o + z) % 6 < (s2.2.2.1 42 : Int); omega⟩]
        show some (wrf s2 42 ((o + z) % 6).toNat (some sh.1), I2, J2) = _
        rw [← hi, ← hg]
      rw [e4]; exact e1
    · obtain ⟨a0, a1, a2, a3, a4⟩ := al
      refine ⟨fun i' g' h1 h2 => ?_, fun k w h1 h2 => ?_, fun i1 i2 g1 g2 h1 h2 hne h3 h4 => ?_, fun k1 k2 w1 w2 h1 h2 hne h3 h4 => ?_, fun i1 k g1 w h1 h2 h3 h4 => ?_⟩
      · by_cases hii : i' = i
        · subst hii; rw [hs'] at h2; obtain rfl := Option.some.inj h2; exact ⟨by omega, bg⟩
        · rw [hoth i' hii] at h2
          have := a0 i' g' h1 h2
          exact ⟨this.1, wr.1 g' this.1 (this.2.ext x (by have := this.2.1; omega))⟩
      · rw [h43] at h2
        have := a1 k w h1 h2
        exact ⟨this.1, wr.2 w this.1 (this.2.ext x (by have := this.2.top; omega))⟩
      · by_cases hi1 : i1 = i
        · subst hi1; rw [hs'] at h3; obtain rfl := Option.some.inj h3
          rw [hoth i2 (by omega)] at h4
          have := (a0 i2 g2 h2 h4).2.1; omega
        · rw [hoth i1 hi1] at h3
          by_cases hi2 : i2 = i
          · subst hi2; rw [hs'] at h4; obtain rfl := Option.some.inj h4
            have := (a0 i1 g1 h1 h3).2.1; omega
          · rw [hoth i2 hi2] at h4; exact a2 i1 i2 g1 g2 h1 h2 hne h3 h4
      · rw [h43] at h3 h4; exact a3 k1 k2 w1 w2 h1 h2 hne h3 h4
      · rw [h43] at h4
        by_cases hi1 : i1 = i
        · subst hi1; rw [hs'] at h3; obtain rfl := Option.some.inj h3
          have := (a1 k w h2 h4).2.top; omega
        · rw [hoth i1 hi1] at h3; exact a4 i1 k g1 w h1 h2 h3 h4
