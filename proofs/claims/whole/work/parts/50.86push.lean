theorem LwE.of {T T' S S' : Int → Int} (e : RgE T' T) (f : RgE S' S) (l : LwE T S) : LwE T' S' := fun x h1 h2 h3 => by
  rw [e x h1 (by omega) (by omega) (by omega), f x h1 (by omega) (by omega) (by omega)]; exact l x h1 h2 h3
theorem LwE.trans {T S U : Int → Int} (a : LwE T S) (b : LwE S U) : LwE T U := fun x h1 h2 h3 => (a x h1 h2 h3).trans (b x h1 h2 h3)
theorem LwE.refl (S : Int → Int) : LwE S S := fun _ _ _ _ => rfl
theorem RwE.of {T T' S S' : Int → Int} (e : RgE T' T) (f : RgE S' S) (u : InvC T) (r : RwE T S) : RwE T' S' := by
  have us := u.st
  have u4 := u.2.2.2.2.1
  obtain ⟨r0, r1, r2, r3⟩ := r
  have e12 := e 112 (by decide) (by decide) (by decide) (by decide)
  have e13 := e 113 (by decide) (by decide) (by decide) (by decide)
  refine ⟨by rw [e12, f 112 (by decide) (by decide) (by decide) (by decide)]; exact r0, by rw [e13, f 113 (by decide) (by decide) (by decide) (by decide)]; exact r1, fun k j h1 h2 h3 h4 => ?_, fun k j h1 h2 h3 h4 => ?_⟩
  · rw [e12] at h2; rw [e.sk h1 (by omega) h3 h4, f.sk h1 (by omega) h3 h4]; exact r2 k j h1 h2 h3 h4
  · rw [e13] at h2; rw [e.osl h1 (by omega) h3 h4, f.osl h1 (by omega) h3 h4]; exact r3 k j h1 h2 h3 h4
theorem RwE.trans {T S U : Int → Int} (a : RwE T S) (b : RwE S U) : RwE T U := by
  obtain ⟨a0, a1, a2, a3⟩ := a
  obtain ⟨b0, b1, b2, b3⟩ := b
  exact ⟨by omega, by omega, fun k j h1 h2 h3 h4 => (a2 k j h1 h2 h3 h4).trans (b2 k j h1 (by omega) h3 h4), fun k j h1 h2 h3 h4 => (a3 k j h1 h2 h3 h4).trans (b3 k j h1 (by omega) h3 h4)⟩
theorem RwE.refl (S : Int → Int) : RwE S S := ⟨Int.le_refl _, Int.le_refl _, fun _ _ _ _ _ _ => rfl, fun _ _ _ _ _ _ => rfl⟩
theorem push {sh : Sh} {A B0 : Mi} {J0 : Mj} (R0 : Rel2 sh A B0 J0) (JA : Mj) : ∃ sh' A1 JA1, uX2_keep 41 26 (sh, A, JA) = some (sh', A1, JA1) ∧ St sh' ∧ (∀ a, a < 81 → a ≠ 41 → A1 a = A a) ∧ (∀ a, a < 81 → JA1 a = JA a) ∧ ∀ B J, Rel2 sh A B J → ∀ sh2, St sh2 → ∃ B1, uX10_snap 57 (sh2, B, J) = some (sh2, B1, J) ∧ (∀ a, a ≠ 57 → a ≠ 62 → B1 a = B a) ∧ (∀ j, j ≠ 23 → gi B1 57 j = gi B 57 j) ∧ Rel2 sh' A1 B1 J := by
  obtain ⟨r0, r1, -, -, -, -, -, -, r8, -, -⟩ := R0
  obtain ⟨z, hz⟩ : ∃ z, gi A 41 2 = z := ⟨_, rfl⟩
  obtain ⟨o, ho⟩ : ∃ o, gi A 41 1 = o := ⟨_, rfl⟩
  have hz2 := r8.1
  have ho2 := r8.2.1
  rw [hz] at hz2
  rw [ho] at ho2
  obtain ⟨sh', A1, JA1, g, k1, k2, k3, k4, k5, k6, k7, k8, k9, k10, k11, k12⟩ := c_keep r0 r1 A JA hz ho hz2 ho2
  have h81 := r0.1
  have fA : ∀ a, a < 81 → a ≠ 41 → A1 a = A a := fun a h1 h2 => k8 a (by omega) h2 (by omega)
  refine ⟨sh', A1, JA1, k1, k2, fA, k9, fun B J R sh2 hs2 => ?_⟩
  obtain ⟨-, -, t2, t3, t4, t5, t6, t7, t8, t9, t10⟩ := R
  obtain ⟨q0, q1, q2, q3, q4, q5⟩ := t8
  rw [hz] at q0 q2 q3 q4 q5
  rw [ho] at q1 q3
  obtain ⟨B1, s1, s2, s3, s4, s5, s6⟩ := rX_snap hs2 B J q2 hz2
  have e59 : ri B1 59 = ri B 59 := ri_fun (s2 59 (by decide) (by decide))
  obtain ⟨lz, hlz⟩ : ∃ lz, lz = (if z = 6 then (5 : Int) else z) := ⟨_, rfl⟩
  have hlz2 : 0 ≤ lz ∧ lz ≤ 5 := by rw [hlz]; split <;> omega
  have hz' : (if z = 6 then (6 : Int) else z + 1) = lz + 1 := by rw [hlz]; split <;> omega
  have rg1 : RgE (snF B1 lz) (ri B 59) := fun x h1 h2 _ _ => by rw [hlz]; exact s6 x h1 h2
  have rg2 : ∀ j, 0 ≤ j → j < lz → RgE (snF B1 j) (snF B (if z = 6 then j + 1 else j)) := fun j j1 j2 x h1 h2 _ _ => s5 j x j1 (by rw [← hlz]; exact j2) h1 h2
  have jo : ∀ j, 0 ≤ j → j < lz → 0 ≤ (if z = 6 then j + 1 else j) ∧ (if z = 6 then j + 1 else j) < z := fun j j1 j2 => by rw [hlz] at j2; split <;> split at j2 <;> omega
  have slot : ∀ j, 0 ≤ j → j < lz → (((if z = 6 then (o + 1) % 6 else o) + j) % 6).toNat = ((o + (if z = 6 then j + 1 else j)) % 6).toNat ∧ ((o + (if z = 6 then j + 1 else j)) % 6).toNat ≠ ((o + z) % 6).toNat := fun j j1 j2 => by rw [hlz] at j2; split <;> split at j2 <;> omega
  have slz : (((if z = 6 then (o + 1) % 6 else o) + lz) % 6).toNat = ((o + z) % 6).toNat := by rw [hlz]; split <;> omega
  refine ⟨B1, s1, s2, s3, k2, k3, ?_, ?_, ?_, ?_, ?_, ?_, ⟨?_, ?_, ?_, ?_, ?_, ?_⟩, ?_, ?_⟩
  · unfold TapR at *
    rw [gi_of A A1 _ (fA 1 (by decide) (by decide)), s3 2 (by decide), ri_fun (fA 2 (by decide) (by decide)), ri_fun (s2 58 (by decide) (by decide))]; exact t2
  · rw [gi_of A A1 _ (fA 0 (by decide) (by decide)), s3 10 (by decide)]; exact t3
  · rw [e59]; exact t4.fr fun a h1 h2 => fA a (by omega) (by omega)
  · rw [e59]; exact t5.fr fun a h1 h2 => fA a (by omega) (by omega)
  · unfold PadR at *
    rw [s3 32 (by decide), ri_fun (fA 52 (by decide) (by decide)), ri_fun (s2 71 (by decide) (by decide))]; exact t6
  · unfold RowR at *
    rw [s3 40 (by decide), gi_of A A1 _ (fA 53 (by decide) (by decide)), ri_fun (fA 54 (by decide) (by decide)), ri_fun (fA 55 (by decide) (by decide)), ri_fun (s2 75 (by decide) (by decide)), ri_fun (s2 76 (by decide) (by decide))]; exact t7
  · rw [k11]; split <;> omega
  · rw [k12]; split <;> omega
  · rw [s4, k11]
  · rw [k11, hz', k12]; intro j j1 j2
    by_cases hj : j = lz
    · subst hj
      rw [slz]
      exact ⟨g, k4, (k10 _ t4.iC t4.2.1).of rg1 t4.iL t4.iC⟩
    · have hjl : j < lz := by omega
      have hjo := jo j j1 hjl
      obtain ⟨g', g1, g2⟩ := q3 _ hjo.1 hjo.2
      have sl := slot j j1 hjl
      rw [sl.1]
      have g3 := r1.1 _ g' (by omega) g1
      rw [← k5 _ sl.2] at g1
      have dj := k3.2.2.1 _ _ g' g (by omega) (by omega) sl.2 g1 k4
      have q := q4 _ hjo.1 hjo.2
      refine ⟨g', g1, (g2.fr fun a h1 h2 => k8 a (by have := g3.2.1; omega) (by omega) (by omega)).of (rg2 j j1 hjl) q.1 q.2.1⟩
  · rw [k11, hz', e59]; intro j j1 j2
    by_cases hj : j = lz
    · subst hj
      exact ⟨t4.iL.of rg1, t4.iC.of rg1 t4.iL, (LwE.refl _).of rg1 (RgE.refl _), (RwE.refl _).of rg1 (RgE.refl _) t4.iC⟩
    · have hjl : j < lz := by omega
      have hjo := jo j j1 hjl
      have q := q4 _ hjo.1 hjo.2
      have rg := rg2 j j1 hjl
      exact ⟨q.1.of rg, q.2.1.of rg q.1, q.2.2.1.of rg (RgE.refl _), q.2.2.2.of rg (RgE.refl _) q.2.1⟩
  · rw [k11, hz']; intro i j i1 i2 j2
    by_cases hj : j = lz
    · subst hj
      by_cases hi : i = j
      · subst hi; exact RwE.refl _
      · have hil : i < j := by omega
        have hio := jo i i1 hil
        have q := q4 _ hio.1 hio.2
        exact q.2.2.2.of (rg2 i i1 hil) rg1 q.2.1
    · have hjl : j < lz := by omega
      have hjo := jo j (by omega) hjl
      have hio := jo i i1 (by omega)
      exact (q5 _ _ hio.1 (by split <;> omega) hjo.2).of (rg2 i i1 (by omega)) (rg2 j (by omega) hjl) (q4 _ hio.1 hio.2).2.1
  · intro k hk
    have e61 : ∀ j, imF B1 j = imF B j := fun j => funext fun x => ri_of _ _ _ (s2 61 (by decide) (by decide))
    rw [ri_fun (s2 66 (by decide) (by decide)), e61, k6]
    rcases t9 k hk with h | ⟨h1, w, h2, h3⟩
    · exact .inl h
    · have g3 := r1.2.1 k w hk h2
      rw [← k6] at h2
      have dj := k3.2.2.2.2 _ k g w (by omega) hk k4 h2
      rw [k6] at h2
      have tp := g3.2.top
      exact .inr ⟨h1, w, h2, h3.fr fun a h1 h2 => k8 a (by omega) (by omega) (by omega)⟩
  · rw [s3 22 (by decide)]; exact t10
