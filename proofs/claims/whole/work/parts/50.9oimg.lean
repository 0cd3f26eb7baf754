theorem PO.of2 {S S' : Int → Int} (e : ∀ x, 7900 ≤ x → x < 8140 → S' x = S x) : ∀ (n : Nat) (k : Int) (l : List (Int × Int × Int)), PO S n k l → PO S' n k l := by
  intro n
  induction n with
  | zero => intro k l h; exact h
  | succ n ih =>
    intro k l h
    obtain ⟨hk, h⟩ := h
    refine ⟨hk, ?_⟩
    rw [e _ (by omega) (by omega), e _ (by omega) (by omega), e _ (by omega) (by omega), e _ (by omega) (by omega)]
    rcases h with ⟨h0, l1, h1, h2⟩ | ⟨h0, l1, l2, h1, h2, h3⟩ | ⟨h0, l1, l2, h1, h2, h3⟩ | h | h | h
    · exact .inl ⟨h0, l1, ih _ _ h1, h2⟩
    · exact .inr (.inl ⟨h0, l1, l2, ih _ _ h1, ih _ _ h2, h3⟩)
    · exact .inr (.inr (.inl ⟨h0, l1, l2, ih _ _ h1, ih _ _ h2, h3⟩))
    · exact .inr (.inr (.inr (.inl h)))
    · exact .inr (.inr (.inr (.inr (.inl h))))
    · exact .inr (.inr (.inr (.inr (.inr h))))
theorem SenR.of2 {s : Nat} {A : Mi} {S S' : Int → Int} (e : ∀ x, 0 ≤ x → x < 8140 → S' x = S x) (r : SenR s A S) : SenR s A S' := by
  unfold SenR at *
  rw [e 116 (by decide) (by decide), e 117 (by decide) (by decide)]
  rcases r with r | ⟨h1, h2, l, h3, h4⟩
  · exact .inl r
  · exact .inr ⟨h1, h2, l, PO.of2 (fun x x1 x2 => e x (by omega) x2) _ _ _ h3, h4⟩
theorem ImgW.of {w : Nat} {A : Mi} {S T nm nm' : Int → Int} (e : ∀ x, 0 ≤ x → x < 8140 → T x = S x) (en : ∀ i, 0 ≤ i → i < 12 → nm' i = nm i) (r : ImgW w A S nm) : ImgW w A T nm' := by
  obtain ⟨r0, r1, r2, r3, r4, r5⟩ := r
  have rg_ : RgE T S := fun x h1 h2 _ _ => e x h1 (by omega)
  have v0 := r3.1
  refine ⟨?_, r1.of rg_ r3 r4, r2.of rg_ r4, r3.of rg_, r4.of rg_ r3, r5.of2 e⟩
  obtain ⟨l0, l1, l2, l3, l4, l5⟩ := r0.of rg_ r3
  have e0 := e 0 (by decide) (by decide)
  exact ⟨l0, l1, l2, l3, fun i h1 h2 => by rw [en i h1 (by omega)]; exact l4 i h1 h2, l5⟩
theorem rX_image {sh : Sh} (h : St sh) (B : Mi) (J : Mj) {k : Nat} (hk : k < 2) : ∃ B2 J2, uX10_image_b22 57 k 0 (sh, B, J) = some (1, (sh, B2, J2)) ∧ (∀ a, a ≠ 61 → a ≠ 66 → B2 a = B a) ∧ (∀ a, a ≠ 65 → J2 a = J a) ∧ (∀ x : Int, 0 ≤ x → x < 8140 → imF B2 k x = ri B 59 x) ∧ (∀ (k' : Nat) (x : Int), k' < 2 → k' ≠ k → 0 ≤ x → x < 8140 → imF B2 k' x = imF B k' x) ∧ (∀ x : Int, 0 ≤ x → x < 12 → rj J2 65 (12 * k + x) = rj J 63 x) ∧ (∀ (k' : Nat) (x : Int), k' < 2 → k' ≠ k → 0 ≤ x → x < 12 → rj J2 65 (12 * k' + x) = rj J 65 (12 * k' + x)) ∧ ri B2 66 k = 1 ∧ (∀ k' : Nat, k' ≠ k → ri B2 66 k' = ri B 66 k') := by
  obtain ⟨B1, a1, a2, a3, a4⟩ := lp_fill (sh := sh) (f := uX10_image_f22 57 k) (a := 61) (off := 8140 * (k : Int)) (n := 8140) (fun i => ri B 59 i) B J (by omega) (by decide) (fun i I' g h1 h2 => by
    have e : ri I' 59 i = ri B 59 i := ri_of _ _ _ (g 59 (by decide))
    simp (disch := omega) only [uX10_image_f22, uX10_image_s22, SEg h, SEr h, SEa h, SEk h, SEj h, SEl h, SEp h, SEs h, bd_some, bd2_some, w32_id, w64_id, e]
    rw [if_neg (by omega)]) (fun I' g => by
    simp only [uX10_image_f22, uX10_image_s22]
    rw [if_pos (by omega)])
  obtain ⟨J1, b1, b2, b3, b4⟩ := lp_fillJ (sh := sh) (f := uX10_image_f55 57 k) (a := 65) (off := 12 * (k : Int)) (n := 12) (fun i => rj J 63 i) B1 J (by omega) (by decide) (fun i I' g h1 h2 => by
    have e : rj I' 63 i = rj J 63 i := by rw [rj_fun (g 63 (by decide))]
    simp (disch := omega) only [uX10_image_f55, uX10_image_s55, SEg h, SEr h, SEa h, SEk h, SEj h, SEl h, SEp h, SEs h, bd_some, bd2_some, w32_id, w64_id, e]
    rw [if_neg (by omega)]) (fun I' g => by
    simp only [uX10_image_f55, uX10_image_s55]
    rw [if_pos (by omega)])
  refine ⟨we B1 66 k 1, J1, ?_, fun a h1 h2 => by rw [we_at _ _ _ h2, a2 a h1], b2, fun x h1 h2 => ?_, fun k' x h0 hne h1 h2 => ?_, fun x h1 h2 => ?_, fun k' x h0 hne h1 h2 => ?_, ?_, fun k' hne => ?_⟩
  · simp (disch := omega) only [uX10_image_b22, a1, bd_some, uX10_image_c22, uX10_image_b53, uX10_image_b55, b1, uX10_image_c55, uX10_image_b84, SEg h, SEr h, SEa h, SEk h, SEj h, SEl h, SEp h, SEs h, bd_some, bd2_some]
  · unfold imF; rw [ri_we1 _ _ _ _ (by decide), a3 x h1 (by omega), w32_eq (ri_rng _ _ _)]
  · unfold imF; rw [ri_we1 _ _ _ _ (by decide)]; exact a4 _ (by omega) (by omega)
  · rw [b3 x h1 (by omega), w64_eq (rj_rng _ _ _)]
  · exact b4 _ (by omega) (by omega)
  · rw [ri_we _ _ _ _ (by omega) (by omega), if_pos ⟨rfl, rfl⟩]; rfl
  · rw [ri_we _ _ _ _ (by omega) (by omega), if_neg (fun q => hne (by omega))]; exact ri_of _ _ _ (a2 66 (by decide))
