theorem PO.of {S S' : Int → Int} (e : ∀ x, 7900 ≤ x → S' x = S x) : ∀ (n : Nat) (k : Int) (l : List (Int × Int × Int)), PO S n k l → PO S' n k l := by
  intro n
  induction n with
  | zero => intro k l h; exact h
  | succ n ih =>
    intro k l h
    obtain ⟨hk, h⟩ := h
    refine ⟨hk, ?_⟩
    rw [e _ (by omega), e _ (by omega), e _ (by omega), e _ (by omega)]
    rcases h with ⟨h0, l1, h1, h2⟩ | ⟨h0, l1, l2, h1, h2, h3⟩ | ⟨h0, l1, l2, h1, h2, h3⟩ | h | h | h
    · exact .inl ⟨h0, l1, ih _ _ h1, h2⟩
    · exact .inr (.inl ⟨h0, l1, l2, ih _ _ h1, ih _ _ h2, h3⟩)
    · exact .inr (.inr (.inl ⟨h0, l1, l2, ih _ _ h1, ih _ _ h2, h3⟩))
    · exact .inr (.inr (.inr (.inl h)))
    · exact .inr (.inr (.inr (.inr (.inl h))))
    · exact .inr (.inr (.inr (.inr (.inr h))))
theorem SenR.of {s : Nat} {A : Mi} {S S' : Int → Int} (e6 : S' 116 = S 116) (e7 : S' 117 = S 117) (e : ∀ x, 7900 ≤ x → S' x = S x) (r : SenR s A S) : SenR s A S' := by
  unfold SenR at *
  rw [e6, e7]
  rcases r with r | ⟨h1, h2, l, h3, h4⟩
  · exact .inl r
  · exact .inr ⟨h1, h2, l, PO.of e _ _ _ h3, h4⟩
theorem Rel2.act {sh : Sh} {A A' B B' : Mi} {J : Mj} (R : Rel2 sh A B J) (fA : ∀ a, (37 ≤ a ∧ a ≤ 41) ∨ 81 ≤ a → A' a = A a) (fB : (B' 61 = B 61 ∧ B' 62 = B 62 ∧ B' 66 = B 66) ∧ gi B' 57 22 = gi B 57 22 ∧ gi B' 57 23 = gi B 57 23) (rep : RepC A' (ri B' 59) (rj J 63)) (lw : LwE (ri B 59) (ri B' 59)) (rw_ : RwE (ri B 59) (ri B' 59)) (sen : ri B' 59 116 = ri B 59 116 ∧ ri B' 59 117 = ri B 59 117 ∧ ∀ x, 7900 ≤ x → ri B' 59 x = ri B 59 x) (h1 : TapR A' B') (h2 : gi A' 0 1 = gi B' 57 10) (h3 : PadR A' B') (h4 : RowR A' B') : Rel2 sh A' B' J := by
  obtain ⟨r0, r1, r2, r3, r4, r5, r6, r7, r8, r9, r10⟩ := R
  obtain ⟨⟨g61, g62, g66⟩, g22, g23⟩ := fB
  have e62 : ∀ j, snF B' j = snF B j := fun j => funext fun x => ri_of _ _ _ g62
  have e61 : ∀ j, imF B' j = imF B j := fun j => funext fun x => ri_of _ _ _ g61
  have f41 := fA 41 (by omega)
  refine ⟨r0, r1, h1, h2, rep, ?_, h3, h4, ?_, ?_, by rw [g22]; exact r10⟩
  · exact (r5.fr fun a _ _ => fA a (by omega)).of sen.1 sen.2.1 sen.2.2
  · obtain ⟨h0, h1, h2, h3, h4, h5⟩ := r8
    unfold HisR
    simp only [gi_of A A' _ f41, g23, e62]
    refine ⟨h0, h1, h2, fun j j1 j2 => ?_, fun j j1 j2 => ?_, h5⟩
    · obtain ⟨g, g1, g2⟩ := h3 j j1 j2
      have g3 := (r1.1 _ g (by omega) g1).1
      exact ⟨g, g1, g2.fr fun a _ _ => fA a (by omega)⟩
    · have q := h4 j j1 j2
      exact ⟨q.1, q.2.1, q.2.2.1.trans lw, q.2.2.2.trans rw_⟩
  · intro k hk
    rw [ri_fun g66, e61]
    rcases r9 k hk with h | ⟨h1, w, h2, h3⟩
    · exact .inl h
    · have g3 := (r1.2.1 k w hk h2).1
      exact .inr ⟨h1, w, h2, h3.fr fun a _ _ => fA a (by omega)⟩
/-- an ACT changes the class's world and the reference's state alone -/
theorem Rel2.act' {sh : Sh} {A A' B B' : Mi} {J : Mj} (R : Rel2 sh A B J) (fA : ∀ a, a < 17 ∨ 37 ≤ a → A' a = A a) (fB : ∀ a, 57 ≤ a → a ≤ 79 → a ≠ 59 → B' a = B a) (rep : RepC A' (ri B' 59) (rj J 63)) (lw : LwE (ri B 59) (ri B' 59)) (rw_ : RwE (ri B 59) (ri B' 59)) (sen : ri B' 59 116 = ri B 59 116 ∧ ri B' 59 117 = ri B 59 117 ∧ ∀ x, 7900 ≤ x → ri B' 59 x = ri B 59 x) : Rel2 sh A' B' J := by
  have f57 := fun j => gi_of B B' j (fB 57 (by decide) (by decide) (by decide))
  refine R.act (fun a h => fA a (by omega)) ⟨⟨fB 61 (by decide) (by decide) (by decide), fB 62 (by decide) (by decide) (by decide), fB 66 (by decide) (by decide) (by decide)⟩, f57 22, f57 23⟩ rep lw rw_ sen ?_ ?_ ?_ ?_
  · have := R.2.2.1
    unfold TapR at *
    rw [f57 2, gi_of A A' _ (fA 1 (by omega)), ri_fun (fA 2 (by omega)), ri_fun (fB 58 (by decide) (by decide) (by decide))]; exact this
  · rw [f57 10, gi_of A A' _ (fA 0 (by omega))]; exact R.2.2.2.1
  · have := R.2.2.2.2.2.2.1
    unfold PadR at *
    rw [f57 32, ri_fun (fA 52 (by omega)), ri_fun (fB 71 (by decide) (by decide) (by decide))]; exact this
  · have := R.2.2.2.2.2.2.2.1
    unfold RowR at *
    rw [f57 40, gi_of A A' _ (fA 53 (by omega)), ri_fun (fA 54 (by omega)), ri_fun (fA 55 (by omega)), ri_fun (fB 75 (by decide) (by decide) (by decide)), ri_fun (fB 76 (by decide) (by decide) (by decide))]; exact this
theorem Rel.fin {sh : Sh} {A B : Mi} {J : Mj} (R : Rel2 sh A B J) (k : KpR A B) : Rel (sh, B, J) := Rel.of2 (R.agC k.agC)
theorem RepC.chg {A A' : Mi} {S T nm : Int → Int} (r : RepC A S nm) (fA : ∀ a, 17 ≤ a → a ≤ 36 → a ≠ 26 → a ≠ 28 → A' a = A a) (f26 : ∀ j, j = 0 ∨ j = 1 ∨ j = 2 ∨ j = 8 → gi A' 26 j = gi A 26 j) (lw : LwE T S)
    (hx : ∀ x, 108 ≤ x → x < 7900 → x ≠ 109 → x ≠ 110 → x ≠ 111 → x ≠ 116 → x ≠ 117 → ¬ (120 ≤ x ∧ x < 1400 ∧ (x - 120) % 32 = 1) → T x = S x)
    (hd : 0 ≤ T 109 ∧ T 109 ≤ 9999) (h3 : gi A' 26 3 = T 109) (h6 : gi A' 26 6 = T 110) (h7 : gi A' 26 7 = T 111) (hdie : (T 110 = -1 ∧ T 111 = -1) ∨ (isW S (T 110) ∧ isW S (T 111)))
    (hdb : 0 ≤ gi A' 26 4 ∧ gi A' 26 4 < 256) (hdead : ∀ w, 0 ≤ w → w < S 0 → bitI (gi A' 26 4) w = ow T w 2) (hcb : 0 ≤ gi A' 26 5 ∧ gi A' 26 5 < 16) (hcl : ∀ m, 0 ≤ m → m < S 1 → bitI (gi A' 26 5) m = om T m 2)
    (hown : ∀ c, 0 ≤ c → c < S 108 → ri A' 28 c = oc T c 1 ∧ isW S (oc T c 1)) : RepC A' T nm := by
  obtain ⟨⟨l0, l1, l2, l3, l4, l5, l6, l7, l8, l9⟩, ⟨g0, g1, g2, g3, g4, g5, g6, g7, g8, g9, g10, g11, g12, g13, g14, g15, g16⟩, ⟨t0, t1, t2, t3⟩, v, u⟩ := r
  have us := u.st
  obtain ⟨v0, v1, v2, v3, v4, v5, v6, v7, v8, v9⟩ := v
  obtain ⟨u0, u1, u2, u3, u4, u5, u6, u7, u8, u9, ua⟩ := u
  have e0 : T 0 = S 0 := lw 0 (by decide) (by decide) (by decide)
  have e1 : T 1 = S 1 := lw 1 (by decide) (by decide) (by decide)
  have e8 : T 108 = S 108 := hx 108 (by decide) (by decide) (by decide) (by decide) (by decide) (by decide) (by decide) (by decide)
  have e12 : T 112 = S 112 := hx 112 (by decide) (by decide) (by decide) (by decide) (by decide) (by decide) (by decide) (by decide)
  have e13 : T 113 = S 113 := hx 113 (by decide) (by decide) (by decide) (by decide) (by decide) (by decide) (by decide) (by decide)
  have e14 : T 114 = S 114 := hx 114 (by decide) (by decide) (by decide) (by decide) (by decide) (by decide) (by decide) (by decide)
  have e15 : T 115 = S 115 := hx 115 (by decide) (by decide) (by decide) (by decide) (by decide) (by decide) (by decide) (by decide)
  have eow : ∀ w k, 0 ≤ w → w < 8 → 0 ≤ k → k < 2 → ow T w k = ow S w k := fun w k h1 h2 h3 h4 => lw _ (by omega) (by omega) (by omega)
  have eom : ∀ m k, 0 ≤ m → m < 4 → 0 ≤ k → k < 2 → om T m k = om S m k := fun w k h1 h2 h3 h4 => lw _ (by omega) (by omega) (by omega)
  have eot : ∀ a b, 0 ≤ a → a < 8 → 0 ≤ b → b < 8 → ot T a b = ot S a b := fun a b h1 h2 h3 h4 => lw _ (by omega) (by omega) (by omega)
  have eoc : ∀ c k, 0 ≤ c → c < 40 → 0 ≤ k → k < 32 → k ≠ 1 → oc T c k = oc S c k := fun c k h1 h2 h3 h4 h5 => hx _ (by omega) (by omega) (by omega) (by omega) (by omega) (by omega) (by omega) (by omega)
  have efa : ∀ c i j, 0 ≤ c → c < 40 → 0 ≤ i → i < 9 → 0 ≤ j → j < 3 → fa T c i j = fa S c i j := fun c i j h1 h2 h3 h4 h5 h6 => eoc c _ h1 h2 (by omega) (by omega) (by omega)
  have esk : ∀ k j, 0 ≤ k → k < 500 → 0 ≤ j → j < 6 → sk T k j = sk S k j := fun k j h1 h2 h3 h4 => hx _ (by omega) (by omega) (by omega) (by omega) (by omega) (by omega) (by omega) (by omega)
  have eol : ∀ k j, 0 ≤ k → k < 500 → 0 ≤ j → j < 7 → osl T k j = osl S k j := fun k j h1 h2 h3 h4 => hx _ (by omega) (by omega) (by omega) (by omega) (by omega) (by omega) (by omega) (by omega)
  have hd01 : ∀ w, 0 ≤ w → w < S 0 → ow T w 2 = 0 ∨ ow T w 2 = 1 := fun w h1 h2 => by rw [← hdead w h1 h2]; exact bitI_01 (by omega) (by omega)
  have hc01 : ∀ m, 0 ≤ m → m < S 1 → om T m 2 = 0 ∨ om T m 2 = 1 := fun w h1 h2 => by rw [← hcl w h1 h2]; exact bitI_01 (by omega) (by omega)
  refine ⟨LawR.fr (I := A) (fun a h1 h2 => fA a (by omega) (by omega) (by omega) (by omega)) ⟨by rw [e0]; exact l0, by rw [e1]; exact l1, by rw [lw 2 (by decide) (by decide) (by decide)]; exact l2, fun j h1 h2 => by rw [lw _ (by omega) (by omega) (by omega)]; exact l3 j h1 h2, fun w h1 h2 => l4 w h1 (by omega), fun w h1 h2 => by rw [eow w 0 h1 (by omega) (by decide) (by decide)]; exact l5 w h1 (by omega), fun w h1 h2 => by rw [eow w 1 h1 (by omega) (by decide) (by decide)]; exact l6 w h1 (by omega), fun w h1 h2 => by rw [eom w 0 h1 (by omega) (by decide) (by decide)]; exact l7 w h1 (by omega), fun w h1 h2 => by rw [eom w 1 h1 (by omega) (by decide) (by decide)]; exact l8 w h1 (by omega), fun a b h1 h2 h3 h4 => by rw [eot a b h1 (by omega) h3 (by omega)]; exact l9 a b h1 (by omega) h3 (by omega)⟩, ⟨?_, ?_, ?_, h3, h6, h7, ?_, hdb, fun w h1 h2 => hdead w h1 (by omega), hcb, fun w h1 h2 => hcl w h1 (by omega), ?_, fun c h1 h2 => (hown c h1 (by omega)).1, ?_, ?_, ?_, ?_⟩, TbR.fr (fA 33 (by decide) (by decide) (by decide) (by decide)) (fA 34 (by decide) (by decide) (by decide) (by decide)) (fA 35 (by decide) (by decide) (by decide) (by decide)) (fA 36 (by decide) (by decide) (by decide) (by decide)) ⟨t0, t1, fun k j h1 h2 h3 h4 => by rw [esk k j h1 (by omega) h3 h4]; exact t2 k j h1 (by omega) h3 h4, fun k j h1 h2 h3 h4 => by rw [eol k j h1 (by omega) h3 h4]; exact t3 k j h1 (by omega) h3 h4⟩, ⟨by omega, by omega, by rw [lw 2 (by decide) (by decide) (by decide)]; exact v2, by rw [lw 3 (by decide) (by decide) (by decide)]; exact v3, by rw [lw 4 (by decide) (by decide) (by decide)]; exact v4, by rw [lw 5 (by decide) (by decide) (by decide)]; exact v5, by rw [lw 6 (by decide) (by decide) (by decide)]; exact v6, fun w k hw h1 h2 => ?_, fun m hm => ?_, fun a b ha hb => by rw [eot a b ha.1 (by omega) hb.1 (by omega)]; exact v9 a b (by omega) (by omega)⟩, ⟨by omega, hd, ?_, ?_, by omega, by omega, ?_, fun c hc => ?_, fun c i hc h1 h2 => ?_, fun c i hc h1 h2 => ?_, fun k h1 h2 => ?_⟩⟩
  · rw [e8, f26 0 (by omega)]; exact g0
  · rw [e12, f26 1 (by omega)]; exact g1
  · rw [e13, f26 2 (by omega)]; exact g2
  · rw [e14, f26 8 (by omega)]; exact g6
  · intro c h1 h2; rw [eoc c 0 h1 (by omega) (by decide) (by decide) (by decide), ri_of A A' _ (fA 27 (by decide) (by decide) (by decide) (by decide))]; exact g11 c h1 (by omega)
  · intro c h1 h2; rw [eoc c 2 h1 (by omega) (by decide) (by decide) (by decide), ri_of A A' _ (fA 29 (by decide) (by decide) (by decide) (by decide))]; exact g13 c h1 (by omega)
  · intro c h1 h2; rw [eoc c 3 h1 (by omega) (by decide) (by decide) (by decide), ri_of A A' _ (fA 30 (by decide) (by decide) (by decide) (by decide))]; exact g14 c h1 (by omega)
  · intro c i h1 h2 h3 h4; rw [eoc c 3 h1 (by omega) (by decide) (by decide) (by decide)] at h4
    have := u7 c ⟨h1, by omega⟩
    rw [efa c i 2 h1 (by omega) h3 (by omega) (by decide) (by decide), ri_of A A' _ (fA 31 (by decide) (by decide) (by decide) (by decide))]; exact g15 c i h1 (by omega) h3 h4
  · intro c i h1 h2 h3 h4; rw [eoc c 3 h1 (by omega) (by decide) (by decide) (by decide)] at h4
    have := u7 c ⟨h1, by omega⟩
    rw [efa c i 1 h1 (by omega) h3 (by omega) (by decide) (by decide), ri_of A A' _ (fA 32 (by decide) (by decide) (by decide) (by decide))]; exact g16 c i h1 (by omega) h3 h4
  · by_cases hk2 : k = 2
    · subst hk2; exact hd01 w hw.1 (by omega)
    · rw [eow w k hw.1 (by omega) h1 (by omega)]; exact v7 w k (by omega) h1 h2
  · rw [eom m 0 hm.1 (by omega) (by decide) (by decide), eom m 1 hm.1 (by omega) (by decide) (by decide)]
    have := v8 m (by omega)
    exact ⟨this.1, this.2.1, hc01 m hm.1 (by omega)⟩
  · unfold isW; rw [e0]; exact hdie
  · rw [e12, e8, u3]; exact (suC_congr _ fun i h1 h2 => eoc i 2 h1 (by omega) (by decide) (by decide) (by decide)).symm
  · rw [e14, e15, e8, u6]; exact (suC_congr _ fun i h1 h2 => eoc i 0 h1 (by omega) (by decide) (by decide) (by decide)).symm
  · have hc2 : isC S c := by omega
    have := u7 c hc2
    rw [eoc c 0 hc.1 (by omega) (by decide) (by decide) (by decide), eoc c 2 hc.1 (by omega) (by decide) (by decide) (by decide), eoc c 3 hc.1 (by omega) (by decide) (by decide) (by decide)]
    unfold isW; rw [e0]; exact ⟨this.1, (hown c hc2.1 hc2.2).2, this.2.2⟩
  · have hc2 : isC S c := by omega
    have h7' := u7 c hc2
    rw [eoc c 3 hc.1 (by omega) (by decide) (by decide) (by decide)] at h2
    have h8' := u8 c i hc2 h1 h2
    rw [efa c i 0 hc.1 (by omega) h1 (by omega) (by decide) (by decide), efa c i 1 hc.1 (by omega) h1 (by omega) (by decide) (by decide), efa c i 2 hc.1 (by omega) h1 (by omega) (by decide) (by decide), esk _ 0 h8'.2.2.1.1 (by omega) (by decide) (by decide), esk _ 1 h8'.2.2.1.1 (by omega) (by decide) (by decide), e12]
    unfold isW; rw [e0]; exact h8'
  · have hc2 : isC S c := by omega
    have h7' := u7 c hc2
    rw [eoc c 3 hc.1 (by omega) (by decide) (by decide) (by decide)] at h2
    rw [efa c i 1 hc.1 (by omega) h1 (by omega) (by decide) (by decide), efa c (i + 1) 1 hc.1 (by omega) (by omega) (by omega) (by decide) (by decide)]
    exact u9 c i hc2 h1 h2
  · rw [esk k 0 h1 (by omega) (by decide) (by decide), esk k 1 h1 (by omega) (by decide) (by decide), esk k 2 h1 (by omega) (by decide) (by decide), esk k 5 h1 (by omega) (by decide) (by decide)]
    unfold isC isW isM; rw [e0, e1, e8]; exact ua k h1 (by omega)
