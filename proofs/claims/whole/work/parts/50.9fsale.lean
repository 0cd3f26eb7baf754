theorem c_saleL {sh : Sh} (h : St sh) {A : Mi} (J : Mj) {S T nm : Int → Int} {w m k n : Int} {t : Nat → Int} (r : Rep3 A T nm) (x : SxE T S) (hi : ∀ i, i ≤ n.toNat → HsI S t w m k n.toNat i) (hm : isM S m) (hw : isW S w) (hk : rg k) (hn : 0 ≤ n ∧ n ≤ 40) (htp : ∀ i : Nat, (i : Int) < n → ri A 2 i = t i) (ht : ∀ i, i < n.toNat → isC S (t i) ∧ oc S (t i) 2 ≤ 8) (h4 : S 1 ≤ 4) (h40 : S 108 ≤ 40) (hT : ∀ x, 4400 ≤ x ∨ x = 113 → hs T t w m k 0 x = T x) :
    ∃ R, lp (uX9_sale_f223 0 w m n k) fu (0, (sh, A, J)) = some R ∧ ∃ A1, R = (sh, A1, J) ∧ (∀ a, ¬ hoA a → A1 a = A a) ∧ Rep3 A1 (hs T t w m k n.toNat) nm ∧ SxE (hs T t w m k n.toNat) (hs S t w m k n.toNat) ∧ ∀ x, 4400 ≤ x ∨ x = 113 → hs T t w m k n.toNat x = T x := by
  refine lp_fi (fun i y => ∃ A1, y = ((i : Int), (sh, A1, J)) ∧ (∀ a, ¬ hoA a → A1 a = A a) ∧ Rep3 A1 (hs T t w m k i) nm ∧ SxE (hs T t w m k i) (hs S t w m k i) ∧ ∀ x, 4400 ≤ x ∨ x = 113 → hs T t w m k i x = T x) _ n.toNat ⟨A, rfl, fun _ _ => rfl, r, x, hT⟩ ?_ (by omega)
  rintro i y hin ⟨A1, rfl, f, r1, x1, q1⟩
  by_cases hie : (i : Int) = n
  · right
    refine ⟨_, ?_, A1, rfl, f, by rw [show n.toNat = i from by omega]; exact r1, by rw [show n.toNat = i from by omega]; exact x1, by rw [show n.toNat = i from by omega]; exact q1⟩
    simp (disch := omega) only [uX9_sale_f223, uX9_sale_s223]; rw [if_pos (by omega)]
  · left
    obtain ⟨i0, i1, i2, i3, i4, i5, i6, -⟩ := hi i hin
    have hti := ht i (by omega)
    have eo := i6 i (by omega) (by omega)
    have us := i1.st
    have hc' : isC (hs S t w m k i) (t i) := by unfold isC; rw [i5]; exact hti.1
    have hm' : isM (hs S t w m k i) m := by unfold isM; rw [i4 1 (by decide) (by decide)]; exact hm
    have hw' : isW (hs S t w m k i) w := by unfold isW; rw [i4 0 (by decide) (by decide)]; exact hw
    have h8' : oc (hs S t w m k i) (t i) 2 ≤ 8 := by rw [eo 2 (by decide) (by decide)]; exact hti.2
    have ks := StrK.ofI i0 i1 hc' hm' h8'
    have kT := ks.sx x1
    have hL := kT.L
    have kT4 := kT.2.2.2.2.1
    have kT8 := kT.2.2.2.2.2.2.2.2.1
    have kS4 := ks.2.2.2.2.1
    have c40 : 0 ≤ t i ∧ t i < 40 := by omega
    obtain ⟨A2, a1, a2, a3⟩ := c_handOver h J (k := k) r1 x1 i0 i1 hc' hm' h8' hw' hk
    have e2 : ri A1 2 i = t i := by rw [ri_of A A1 _ (f 2 (by omega))]; exact htp i (by omega)
    refine ⟨by omega, (((i + 1 : Nat) : Int), (sh, A2, J)), ?_, A2, rfl, fun a ha => by rw [a2 a ha]; exact f a ha, a3, hoS_sx x1 c40 (by omega) (by omega), fun x hx => ?_⟩
    · simp (disch := omega) only [uX9_sale_f223, uX9_sale_s223, SEg h, SEr h, SEa h, SEk h, SEj h, SEl h, SEp h, SEs h, bd_some, bd2_some, c_tapeAt h, e2, a1, w32_id, w64_id]
      rw [if_neg (by omega)]; rfl
    · show hoS _ _ _ _ _ x = _
      rw [hoS_x c40 kT8 (by omega) (by omega)]; exact q1 x hx
theorem r_saleL {sh : Sh} (h : St sh) {B : Mi} (J : Mj) {S : Int → Int} {b w m p v n : Int} {t : Nat → Int} (e : E0 (ri B 59) S) (hi : ∀ i, i ≤ n.toNat → HsI S t w m (S 113) n.toNat i) (hm : isM S m) (hw : rg w) (h13 : rg (S 113)) (hn : 0 ≤ n ∧ n ≤ 40) (hg : ∀ i : Nat, (i : Int) < n → ri B 67 i = t i) (ht : ∀ i, i < n.toNat → isC S (t i) ∧ oc S (t i) 2 ≤ 8) (h40 : S 108 ≤ 40) :
    ∃ R, lp (uX10_sale_f295 57 b w m p n v) fu (0, (sh, B, J)) = some R ∧ ∃ B1, R = (sh, B1, J) ∧ (∀ a, a ≠ 59 → B1 a = B a) ∧ E0 (ri B1 59) (hs S t w m (S 113) n.toNat) := by
  refine lp_fi (fun i y => ∃ B1, y = ((i : Int), (sh, B1, J)) ∧ (∀ a, a ≠ 59 → B1 a = B a) ∧ E0 (ri B1 59) (hs S t w m (S 113) i)) _ n.toNat ⟨B, rfl, fun _ _ => rfl, e⟩ ?_ (by omega)
  rintro i y hin ⟨B1, rfl, f, e1⟩
  by_cases hie : (i : Int) = n
  · right
    refine ⟨_, ?_, B1, rfl, f, by rw [show n.toNat = i from by omega]; exact e1⟩
    simp (disch := omega) only [uX10_sale_f295, uX10_sale_s295]; rw [if_pos (by omega)]
  · left
    obtain ⟨i0, i1, i2, i3, i4, i5, i6, i7, -⟩ := hi i hin
    have hti := ht i (by omega)
    have eo := i6 i (by omega) (by omega)
    have hc' : isC (hs S t w m (S 113) i) (t i) := by unfold isC; rw [i5]; exact hti.1
    have hm' : isM (hs S t w m (S 113) i) m := by unfold isM; rw [i4 1 (by decide) (by decide)]; exact hm
    have h8' : oc (hs S t w m (S 113) i) (t i) 2 ≤ 8 := by rw [eo 2 (by decide) (by decide)]; exact hti.2
    have ks := StrK.ofI i0 i1 hc' hm' h8'
    obtain ⟨Bs, B2, b1, b2, b3, b4, b5, b6⟩ := r_handOver h (B := B1) J (k := S 113) e1 ks hw h13
    have g1 : ri B1 67 i = t i := by rw [ri_of B B1 _ (f 67 (by decide))]; exact hg i (by omega)
    have g2 : ri Bs 67 i = t i := by rw [ri_of B1 Bs _ (b3 67 (by decide))]; exact g1
    have e13 : ri B1 59 113 = S 113 := by rw [e1 _ (by decide)]; exact i7
    refine ⟨by omega, (((i + 1 : Nat) : Int), (sh, B2, J)), ?_, B2, rfl, fun a ha => by rw [b4 a ha]; exact f a ha, b6⟩
    simp (disch := omega) only [uX10_sale_f295, uX10_sale_s295, SEr h, SEa h, SEk h, bd_some, g1, g2, e13, b1, w32_id, w64_id, b2]
    rw [if_neg (by omega)]; rfl
/-- a SALE that is written down behind the STROKES -/
theorem salS_inv {S : Int → Int} {b s m p n v : Int} (u : InvC S) (w : InvL S) (h : S 113 < S 112) : InvL (salS S b s m p n v) ∧ InvC (salS S b s m p n v) := by
  have us := u.st
  obtain ⟨u0, u1, u2, u3, u4, u5, u6, u7, u8, u9, ua⟩ := u
  have e : ∀ x, x < 4400 → x ≠ 113 → salS S b s m p n v x = S x := fun x h1 h2 => salS_lo u4.1 h1 h2
  have eo : ∀ d k, 0 ≤ d → d < 40 → 0 ≤ k → k < 32 → oc (salS S b s m p n v) d k = oc S d k := fun d k h1 h2 h3 h4 => e _ (by omega) (by omega)
  have e13 : salS S b s m p n v 113 = S 113 + 1 := rfl
  refine ⟨w.lo fun x h1 h2 => e x (by omega) (by omega), by rw [e _ (by decide) (by decide)]; exact u0, by rw [e _ (by decide) (by decide)]; exact u1, by unfold isW; rw [e _ (by decide) (by decide), e _ (by decide) (by decide), e _ (by decide) (by decide)]; exact u2, ?_, by rw [e13, e _ (by decide) (by decide)]; omega, by rw [e _ (by decide) (by decide), e _ (by decide) (by decide)]; exact u5, ?_, ?_, ?_, ?_, ?_⟩
  · rw [e _ (by decide) (by decide), e _ (by decide) (by decide), u3]; exact (suC_congr _ fun i h1 h2 => eo i 2 h1 (by omega) (by decide) (by decide)).symm
  · rw [e _ (by decide) (by decide), e _ (by decide) (by decide), e _ (by decide) (by decide), u6]; exact (suC_congr _ fun i h1 h2 => eo i 0 h1 (by omega) (by decide) (by decide)).symm
  · unfold isC isW; rw [e _ (by decide) (by decide), e _ (by decide) (by decide)]; intro d hd
    rw [eo d 0 hd.1 (by omega) (by decide) (by decide), eo d 1 hd.1 (by omega) (by decide) (by decide), eo d 2 hd.1 (by omega) (by decide) (by decide), eo d 3 hd.1 (by omega) (by decide) (by decide)]
    exact u7 d hd
  · unfold isC isW; rw [e _ (by decide) (by decide), e _ (by decide) (by decide), e _ (by decide) (by decide)]; intro d i hd h1 h2
    rw [eo d 3 hd.1 (by omega) (by decide) (by decide)] at h2
    have h7 := u7 d hd
    have h8 := u8 d i hd h1 h2
    have ef : ∀ j, 0 ≤ j → j < 3 → fa (salS S b s m p n v) d i j = fa S d i j := fun j h3 h4 => eo d _ hd.1 (by omega) (by omega) (by omega)
    have es : ∀ j, 0 ≤ j → j < 6 → sk (salS S b s m p n v) (fa S d i 2) j = sk S (fa S d i 2) j := fun j h3 h4 => e _ (by omega) (by omega)
    rw [ef 0 (by decide) (by decide), ef 1 (by decide) (by decide), ef 2 (by decide) (by decide), es 0 (by decide) (by decide), es 1 (by decide) (by decide)]; exact h8
  · unfold isC; rw [e _ (by decide) (by decide)]; intro d i hd h1 h2
    rw [eo d 3 hd.1 (by omega) (by decide) (by decide)] at h2
    have h7 := u7 d hd
    rw [show fa (salS S b s m p n v) d i 1 = fa S d i 1 from eo d _ hd.1 (by omega) (by omega) (by omega), show fa (salS S b s m p n v) d (i + 1) 1 = fa S d (i + 1) 1 from eo d _ hd.1 (by omega) (by omega) (by omega)]
    exact u9 d i hd h1 h2
  · unfold isC isW isM; rw [e _ (by decide) (by decide), e _ (by decide) (by decide), e _ (by decide) (by decide), e _ (by decide) (by decide)]; intro k h1 h2
    have es : ∀ j, 0 ≤ j → j < 6 → sk (salS S b s m p n v) k j = sk S k j := fun j h3 h4 => e _ (by omega) (by omega)
    rw [es 0 (by decide) (by decide), es 1 (by decide) (by decide), es 2 (by decide) (by decide), es 5 (by decide) (by decide)]; exact ua k h1 h2
theorem salS_Lat {S : Int → Int} {b s m p n v : Int} (u : InvC S) : Lat S (salS S b s m p n v) := by
  have us := u.st
  have u4 := u.2.2.2.2.1
  have e : ∀ x, x < 4400 → x ≠ 113 → salS S b s m p n v x = S x := fun x h1 h2 => salS_lo u4.1 h1 h2
  refine ⟨fun x h1 h2 _ => (e x (by omega) (by omega)).symm, ⟨Int.le_of_eq (e _ (by decide) (by decide)).symm, by show S 113 ≤ S 113 + 1; omega, fun k j h1 h2 h3 h4 => (show sk S k j = sk (salS S b s m p n v) k j from (e _ (by omega) (by omega)).symm), fun k j h1 h2 h3 h4 => (salS_osl u4.1 h1 h2 h3 h4).symm⟩, e _ (by decide) (by decide), e _ (by decide) (by decide), fun x hx => ?_⟩
  unfold salS; simp (disch := omega) only [if_neg]
