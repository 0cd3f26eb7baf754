def AgC (A A' : Mi) : Prop := (∀ a, (a = 2 ∨ (17 ≤ a ∧ a ≤ 41) ∨ (52 ≤ a ∧ a ≤ 55) ∨ 81 ≤ a) → A' a = A a) ∧ gi A' 0 1 = gi A 0 1 ∧ gi A' 1 1 = gi A 1 1
def AgR (B B' : Mi) (J J' : Mj) : Prop := (B' 58 = B 58 ∧ B' 59 = B 59 ∧ B' 61 = B 61 ∧ B' 62 = B 62 ∧ B' 66 = B 66 ∧ B' 71 = B 71 ∧ B' 75 = B 75 ∧ B' 76 = B 76) ∧ (gi B' 57 2 = gi B 57 2 ∧ gi B' 57 10 = gi B 57 10 ∧ gi B' 57 22 = gi B 57 22 ∧ gi B' 57 23 = gi B 57 23 ∧ gi B' 57 32 = gi B 57 32 ∧ gi B' 57 40 = gi B 57 40) ∧ J' 63 = J 63 ∧ J' 65 = J 65
theorem ri_fun {I I1 : Mi} {a : Nat} (h : I1 a = I a) : ri I1 a = ri I a := funext fun x => ri_of I I1 x h
theorem rj_fun {J J1 : Mj} {a : Nat} (h : J1 a = J a) : rj J1 a = rj J a := funext fun x => by unfold rj gj; rw [h]
theorem StR.fr {s : Nat} {A A' : Mi} {l : List (Int × Int × Int)} (f : ∀ a, s ≤ a → a ≤ s + 3 → A' a = A a) (r : StR s A l) : StR s A' l :=
  ⟨by rw [gi_of A A' _ (f s (by omega) (by omega))]; exact r.1, r.2.1, fun i a h => by
    rw [ri_of A A' _ (f (s + 1) (by omega) (by omega)), ri_of A A' _ (f (s + 2) (by omega) (by omega)), ri_of A A' _ (f (s + 3) (by omega) (by omega))]; exact r.2.2 i a h⟩
theorem SenR.fr {s : Nat} {A A' : Mi} {S : Int → Int} (f : ∀ a, s ≤ a → a ≤ s + 3 → A' a = A a) (r : SenR s A S) : SenR s A' S := by
  unfold SenR at *
  rw [gi_of A A' _ (f s (by omega) (by omega))]
  rcases r with r | ⟨h1, h2, l, h3, h4, h5⟩
  · exact .inl r
  · exact .inr ⟨h1, h2, l, h3, h4, h5.fr f⟩
theorem ImgW.fr {w : Nat} {A A' : Mi} {S nm : Int → Int} (f : ∀ a, w ≤ a → a < w + 25 → A' a = A a) (r : ImgW w A S nm) : ImgW w A' S nm :=
  ⟨r.1.fr fun a h1 h2 => f a (by omega) (by omega), r.2.1.fr fun a h1 h2 => f a (by omega) (by omega), r.2.2.1.fr (f _ (by omega) (by omega)) (f _ (by omega) (by omega)) (f _ (by omega) (by omega)) (f _ (by omega) (by omega)), r.2.2.2.1, r.2.2.2.2.1, r.2.2.2.2.2.fr fun a h1 h2 => f a (by omega) (by omega)⟩
theorem Rel2.agC {sh : Sh} {A A' B : Mi} {J : Mj} (R : Rel2 sh A B J) (f : AgC A A') : Rel2 sh A' B J := by
  obtain ⟨r0, r1, r2, r3, r4, r5, r6, r7, r8, r9, r10⟩ := R
  obtain ⟨f0, f1, f2⟩ := f
  have f41 := f0 41 (by omega)
  refine ⟨r0, r1, ⟨by rw [f2]; exact r2.1, r2.2.1, fun k h1 h2 => by rw [ri_of A A' _ (f0 2 (by omega))]; exact r2.2.2 k h1 h2⟩, by rw [f1]; exact r3, r4.fr fun a h1 h2 => f0 a (by omega), r5.fr fun a h1 h2 => f0 a (by omega), fun c h1 h2 => by rw [ri_of A A' _ (f0 52 (by omega))]; exact r6 c h1 h2, ⟨by rw [gi_of A A' _ (f0 53 (by omega))]; exact r7.1, r7.2.1, fun i h1 h2 => by rw [ri_of A A' _ (f0 54 (by omega)), ri_of A A' _ (f0 55 (by omega))]; exact r7.2.2 i h1 h2⟩, ?_, ?_, r10⟩
  · obtain ⟨h0, h1, h2, h3, h4, h5⟩ := r8
    unfold HisR
    rw [gi_of A A' _ f41, gi_of A A' _ f41]
    refine ⟨h0, h1, h2, fun j j1 j2 => ?_, h4, h5⟩
    obtain ⟨g, g1, g2⟩ := h3 j j1 j2
    have g3 := (r1.1 _ g (by omega) g1).1
    exact ⟨g, g1, g2.fr fun a _ _ => f0 a (by omega)⟩
  · intro k hk
    rcases r9 k hk with h | ⟨h1, w, h2, h3⟩
    · exact .inl h
    · have g3 := (r1.2.1 k w hk h2).1
      exact .inr ⟨h1, w, h2, h3.fr fun a _ _ => f0 a (by omega)⟩
theorem Rel2.agR {sh : Sh} {A B B' : Mi} {J J' : Mj} (R : Rel2 sh A B J) (f : AgR B B' J J') : Rel2 sh A B' J' := by
  obtain ⟨⟨f58, f59, f61, f62, f66, f71, f75, f76⟩, ⟨f2, f10, f22, f23, f32, f40⟩, j63, j65⟩ := f
  have e59 := ri_fun f59
  have e62 : ∀ j, snF B' j = snF B j := fun j => funext fun x => ri_of _ _ _ f62
  have e61 : ∀ j, imF B' j = imF B j := fun j => funext fun x => ri_of _ _ _ f61
  unfold Rel2 TapR PadR RowR HisR ImgR at *
  simp only [e59, e62, e61, f2, f10, f22, f23, f32, f40, rj_fun j63, rj_fun j65, ri_fun f58, ri_fun f66, ri_fun f71, ri_fun f75, ri_fun f76]
  exact R
theorem Rel.of2 {sh : Sh} {I : Mi} {J : Mj} (R : Rel2 sh I I J) : Rel (sh, I, J) := by
  have h22 : gi I 57 22 = 1 := R.2.2.2.2.2.2.2.2.2.2
  have hne : gi I 57 22 ≠ 0 := by omega
  refine ⟨?_, .inr h22, fun q => absurd q hne⟩
  show Rel2 sh I (layI I) J
  rw [layI_of hne]; exact R
theorem Rel.two {sh : Sh} {I : Mi} {J : Mj} (R : Rel (sh, I, J)) : Rel2 sh I (layI I) J := R.1
/-- what a class's method keeps of the reference's cells -/
def KpC (I I1 : Mi) (J J1 : Mj) : Prop := ∀ a, 57 ≤ a → a ≤ 80 → I1 a = I a ∧ J1 a = J a
/-- what a reference's method keeps of the class's cells -/
def KpR (I I1 : Mi) : Prop := ∀ a, a ≤ 56 ∨ 81 ≤ a → I1 a = I a
theorem lay_ag {I I1 : Mi} {J J1 : Mj} (k : KpC I I1 J J1) (v : Int) : AgR (layI I) (layI (wi I1 57 0 v)) J J1 := by
  have k57 := (k 57 (by decide) (by decide)).1
  have k59 := (k 59 (by decide) (by decide)).1
  have e22 : gi (wi I1 57 0 v) 57 22 = gi I 57 22 := by rw [gi_wiw, if_neg (by decide), gi_of _ _ _ k57]
  have hat : ∀ a, a ≠ 57 → a ≠ 59 → 57 ≤ a → a ≤ 80 → layI (wi I1 57 0 v) a = layI I a := fun a h1 h2 h3 h4 => by
    rw [layI_at _ h1 h2, layI_at _ h1 h2, wi_at _ _ _ h1]; exact (k a h3 h4).1
  have h57 : ∀ j, j ≠ 0 → j ≠ 22 → gi (layI (wi I1 57 0 v)) 57 j = gi (layI I) 57 j := fun j h1 h2 => by
    rw [layI_57 _ h2, layI_57 _ h2, gi_wiw, if_neg (fun q => h1 q.2), gi_of _ _ _ k57]
  have hp : ∀ (X Y : Mi) (x : Int) (w : Int), X 59 = Y 59 → we X 59 x w 59 = we Y 59 x w 59 := fun X Y x w h => by
    unfold we wi up2; simp [h]
  refine ⟨⟨hat 58 (by decide) (by decide) (by decide) (by decide), ?_, hat 61 (by decide) (by decide) (by decide) (by decide), hat 62 (by decide) (by decide) (by decide) (by decide), hat 66 (by decide) (by decide) (by decide) (by decide), hat 71 (by decide) (by decide) (by decide) (by decide), hat 75 (by decide) (by decide) (by decide) (by decide), hat 76 (by decide) (by decide) (by decide) (by decide)⟩, ⟨h57 2 (by decide) (by decide), h57 10 (by decide) (by decide), ?_, h57 23 (by decide) (by decide), h57 32 (by decide) (by decide), h57 40 (by decide) (by decide)⟩, (k 63 (by decide) (by decide)).2, (k 65 (by decide) (by decide)).2⟩
  · unfold layI; rw [e22]; split
    · refine hp _ _ _ _ (hp _ _ _ _ (hp _ _ _ _ (hp _ _ _ _ (hp _ _ _ _ ?_))))
      rw [wi_at _ _ _ (by decide), wi_at _ _ _ (by decide), wi_at _ _ _ (by decide)]; exact k59
    · rw [wi_at _ _ _ (by decide)]; exact k59
  · unfold layI; rw [e22]; split
    · repeat rw [gi_we _ _ _ _ (by decide)]
      rw [gi_wiw, if_pos ⟨rfl, rfl⟩, gi_wiw, if_pos ⟨rfl, rfl⟩]
    · rw [gi_wiw, if_neg (by decide), gi_of _ _ _ k57]
theorem KpC.refl (I : Mi) (J : Mj) : KpC I I J J := fun _ _ _ => ⟨rfl, rfl⟩
theorem KpR.agC {I I1 : Mi} (k : KpR I I1) : AgC I I1 := ⟨fun a h => k a (by omega), gi_of _ _ _ (k 0 (by omega)), gi_of _ _ _ (k 1 (by omega))⟩
theorem KpR.trans {I I1 I2 : Mi} (k : KpR I I1) (k2 : KpR I1 I2) : KpR I I2 := fun a h => (k2 a h).trans (k a h)
theorem KpR.lay (I : Mi) (v : Int) : KpR I (layI (wi I 57 0 v)) := fun a h => by rw [layI_at _ (by omega) (by omega), wi_at _ _ _ (by omega)]
/-- behind the class's method the reference's begins: it has been laid, thrown is 0; class and reference stand as they stood -/
theorem Rel.lay {sh : Sh} {I I1 : Mi} {J J1 : Mj} (R : Rel (sh, I, J)) (k : KpC I I1 J J1) (v : Int) : Rel2 sh I (layI (wi I1 57 0 v)) J1 := R.two.agR (lay_ag k v)
/-- a call that changes nothing -/
theorem Rel.rd {sh : Sh} {I : Mi} {J : Mj} (R : Rel (sh, I, J)) (v : Int) : Rel (sh, layI (wi I 57 0 v), J) :=
  Rel.of2 ((R.lay (KpC.refl I J) v).agC (KpR.lay I v).agC)
theorem Rel.rdN {sh : Sh} {I : Mi} {J : Mj} (R : Rel (sh, I, J)) (v : Int) : Rel (sh, wi I 57 0 v, J) := by
  refine ⟨(R.lay (KpC.refl I J) v).agC ⟨fun a h => wi_at _ _ _ (by omega), ?_, ?_⟩, ?_, ?_⟩
  · show gi (wi I 57 0 v) 0 1 = _; rw [gi_wiw, if_neg (by decide)]
  · show gi (wi I 57 0 v) 1 1 = _; rw [gi_wiw, if_neg (by decide)]
  · show gi (wi I 57 0 v) 57 22 = 0 ∨ gi (wi I 57 0 v) 57 22 = 1; rw [gi_wiw, if_neg (by decide)]; exact R.2.1
  · show gi (wi I 57 0 v) 57 22 = 0 → (∀ x, ri (wi I 57 0 v) 59 x = 0) ∧ gi (wi I 57 0 v) 57 23 = 0; rw [gi_wiw, if_neg (by decide), gi_wiw, if_neg (by decide)]; intro h; exact ⟨fun x => by rw [ri_wi _ _ _ _ (by decide)]; exact (R.2.2 h).1 x, (R.2.2 h).2⟩
