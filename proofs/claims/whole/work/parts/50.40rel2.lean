/-- two states are alike but for the SENTENCE -/
def RgE (T S : Int → Int) : Prop := ∀ x, 0 ≤ x → x < 7900 → x ≠ 116 → x ≠ 117 → T x = S x
theorem RgE.ow {T S : Int → Int} (e : RgE T S) {w k : Int} (h1 : 0 ≤ w) (h2 : w < 8) (h3 : 0 ≤ k) (h4 : k < 3) : ow T w k = ow S w k := e _ (by omega) (by omega) (by omega) (by omega)
theorem RgE.om {T S : Int → Int} (e : RgE T S) {w k : Int} (h1 : 0 ≤ w) (h2 : w < 4) (h3 : 0 ≤ k) (h4 : k < 3) : om T w k = om S w k := e _ (by omega) (by omega) (by omega) (by omega)
theorem RgE.oc {T S : Int → Int} (e : RgE T S) {c k : Int} (h1 : 0 ≤ c) (h2 : c < 40) (h3 : 0 ≤ k) (h4 : k < 32) : oc T c k = oc S c k := e _ (by omega) (by omega) (by omega) (by omega)
theorem RgE.fa {T S : Int → Int} (e : RgE T S) {c i j : Int} (h1 : 0 ≤ c) (h2 : c < 40) (h3 : 0 ≤ i) (h4 : i < 9) (h5 : 0 ≤ j) (h6 : j < 3) : fa T c i j = fa S c i j := e.oc h1 h2 (by omega) (by omega)
theorem RgE.sk {T S : Int → Int} (e : RgE T S) {k j : Int} (h1 : 0 ≤ k) (h2 : k < 500) (h3 : 0 ≤ j) (h4 : j < 6) : sk T k j = sk S k j := e _ (by omega) (by omega) (by omega) (by omega)
theorem RgE.osl {T S : Int → Int} (e : RgE T S) {k j : Int} (h1 : 0 ≤ k) (h2 : k < 500) (h3 : 0 ≤ j) (h4 : j < 7) : osl T k j = osl S k j := e _ (by omega) (by omega) (by omega) (by omega)
theorem RgE.ot {T S : Int → Int} (e : RgE T S) {a b : Int} (h1 : 0 ≤ a) (h2 : a < 8) (h3 : 0 ≤ b) (h4 : b < 8) : ot T a b = ot S a b := e _ (by omega) (by omega) (by omega) (by omega)
theorem RgE.symm {T S : Int → Int} (e : RgE T S) : RgE S T := fun x h1 h2 h3 h4 => (e x h1 h2 h3 h4).symm
theorem RgE.trans {T S U : Int → Int} (e : RgE T S) (f : RgE S U) : RgE T U := fun x h1 h2 h3 h4 => (e x h1 h2 h3 h4).trans (f x h1 h2 h3 h4)
theorem RgE.refl (S : Int → Int) : RgE S S := fun _ _ _ _ _ => rfl
theorem InvL.of {T S : Int → Int} (e : RgE T S) (v : InvL S) : InvL T := by
  obtain ⟨v0, v1, v2, v3, v4, v5, v6, v7, v8, v9⟩ := v
  have e0 := e 0 (by decide) (by decide) (by decide) (by decide)
  have e1 := e 1 (by decide) (by decide) (by decide) (by decide)
  refine ⟨by rw [e0]; exact v0, by rw [e1]; exact v1, by rw [e 2 (by decide) (by decide) (by decide) (by decide)]; exact v2, by rw [e 3 (by decide) (by decide) (by decide) (by decide)]; exact v3, by rw [e 4 (by decide) (by decide) (by decide) (by decide)]; exact v4, by rw [e 5 (by decide) (by decide) (by decide) (by decide)]; exact v5, by rw [e 6 (by decide) (by decide) (by decide) (by decide)]; exact v6, fun w k hw h1 h2 => ?_, fun m hm => ?_, fun a b ha hb => ?_⟩
  · rw [e.ow hw.1 (by omega) h1 h2]; exact v7 w k (by omega) h1 h2
  · rw [e.om hm.1 (by omega) (by decide) (by decide), e.om hm.1 (by omega) (by decide) (by decide), e.om hm.1 (by omega) (by decide) (by decide)]; exact v8 m (by omega)
  · rw [e.ot ha.1 (by omega) hb.1 (by omega)]; exact v9 a b (by omega) (by omega)
theorem suC_congr {f g : Int → Int} (n : Nat) (h : ∀ i : Int, 0 ≤ i → i < n → f i = g i) : suC f n = suC g n := by
  induction n with
  | zero => rfl
  | succ n ih => simp only [suC]; rw [ih (fun i h1 h2 => h i h1 (by omega)), h n (by omega) (by omega)]
theorem InvC.of {T S : Int → Int} (e : RgE T S) (v : InvL S) (u : InvC S) : InvC T := by
  have us := u.st
  obtain ⟨u0, u1, u2, u3, u4, u5, u6, u7, u8, u9, ua⟩ := u
  have v0 := v.1
  have v1 := v.2.1
  have e0 := e 0 (by decide) (by decide) (by decide) (by decide)
  have e1 := e 1 (by decide) (by decide) (by decide) (by decide)
  have e8 := e 108 (by decide) (by decide) (by decide) (by decide)
  have e9 := e 109 (by decide) (by decide) (by decide) (by decide)
  have e10 := e 110 (by decide) (by decide) (by decide) (by decide)
  have e11 := e 111 (by decide) (by decide) (by decide) (by decide)
  have e12 := e 112 (by decide) (by decide) (by decide) (by decide)
  have e13 := e 113 (by decide) (by decide) (by decide) (by decide)
  have e14 := e 114 (by decide) (by decide) (by decide) (by decide)
  have e15 := e 115 (by decide) (by decide) (by decide) (by decide)
  refine ⟨by rw [e8]; exact u0, by rw [e9]; exact u1, by rw [e10, e11]; unfold isW; rw [e0]; exact u2, ?_, by rw [e12, e13]; exact u4, by rw [e14, e8]; exact u5, ?_, fun c hc => ?_, fun c i hc h1 h2 => ?_, fun c i hc h1 h2 => ?_, fun k h1 h2 => ?_⟩
  · rw [e12, e8, u3]; exact (suC_congr _ (fun i h1 h2 => e.oc h1 (by omega) (by decide) (by decide))).symm
  · rw [e14, e15, e8, u6]; exact (suC_congr _ (fun i h1 h2 => e.oc h1 (by omega) (by decide) (by decide))).symm
  · have hc2 : isC S c := by omega
    have := u7 c hc2
    rw [e.oc hc.1 (by omega) (by decide) (by decide), e.oc hc.1 (by omega) (by decide) (by decide), e.oc hc.1 (by omega) (by decide) (by decide), e.oc hc.1 (by omega) (by decide) (by decide)]
    unfold isW; rw [e0]; exact this
  · have hc2 : isC S c := by omega
    rw [e.oc hc.1 (by omega) (by decide) (by decide)] at h2
    have h3 := u7 c hc2
    have h4 := u8 c i hc2 h1 h2
    rw [e.fa hc.1 (by omega) h1 (by omega) (by decide) (by decide), e.fa hc.1 (by omega) h1 (by omega) (by decide) (by decide), e.fa hc.1 (by omega) h1 (by omega) (by decide) (by decide), e.sk h4.2.2.1.1 (by omega) (by decide) (by decide), e.sk h4.2.2.1.1 (by omega) (by decide) (by decide), e12]
    unfold isW; rw [e0]; exact h4
  · have hc2 : isC S c := by omega
    rw [e.oc hc.1 (by omega) (by decide) (by decide)] at h2
    have h3 := u7 c hc2
    rw [e.fa hc.1 (by omega) h1 (by omega) (by decide) (by decide), e.fa hc.1 (by omega) (by omega) (by omega) (by decide) (by decide)]
    exact u9 c i hc2 h1 h2
  · rw [e12] at h2
    rw [e.sk h1 (by omega) (by decide) (by decide), e.sk h1 (by omega) (by decide) (by decide), e.sk h1 (by omega) (by decide) (by decide), e.sk h1 (by omega) (by decide) (by decide)]
    unfold isC isW isM; rw [e0, e1, e8]; exact ua k h1 h2
theorem LawR.of {T S nm : Int → Int} {l : Nat} {I : Mi} (e : RgE T S) (v : InvL S) (r : LawR l I S nm) : LawR l I T nm := by
  obtain ⟨r0, r1, r2, r3, r4, r5, r6, r7, r8, r9⟩ := r
  have v0 := v.1
  have v1 := v.2.1
  have e0 := e 0 (by decide) (by decide) (by decide) (by decide)
  have e1 := e 1 (by decide) (by decide) (by decide) (by decide)
  refine ⟨by rw [e0]; exact r0, by rw [e1]; exact r1, by rw [e 2 (by decide) (by decide) (by decide) (by decide)]; exact r2, fun j h1 h2 => ?_, fun w h1 h2 => r4 w h1 (by omega), fun w h1 h2 => ?_, fun w h1 h2 => ?_, fun w h1 h2 => ?_, fun w h1 h2 => ?_, fun a b h1 h2 h3 h4 => ?_⟩
  · rw [e _ (by omega) (by omega) (by omega) (by omega)]; exact r3 j h1 h2
  · rw [e.ow h1 (by omega) (by decide) (by decide)]; exact r5 w h1 (by omega)
  · rw [e.ow h1 (by omega) (by decide) (by decide)]; exact r6 w h1 (by omega)
  · rw [e.om h1 (by omega) (by decide) (by decide)]; exact r7 w h1 (by omega)
  · rw [e.om h1 (by omega) (by decide) (by decide)]; exact r8 w h1 (by omega)
  · rw [e.ot h1 (by omega) h3 (by omega)]; exact r9 a b h1 (by omega) h3 (by omega)
theorem CgR.of {T S : Int → Int} {g : Nat} {I : Mi} (e : RgE T S) (v : InvL S) (u : InvC S) (r : CgR g I S) : CgR g I T := by
  obtain ⟨r0, r1, r2, r3, r4, r5, r6, r7, r8, r9, r10, r11, r12, r13, r14, r15, r16⟩ := r
  have u0 := u.1
  have u7 := u.2.2.2.2.2.2.2.1
  have v0 := v.1
  have v1 := v.2.1
  have e0 := e 0 (by decide) (by decide) (by decide) (by decide)
  have e1 := e 1 (by decide) (by decide) (by decide) (by decide)
  have e8 := e 108 (by decide) (by decide) (by decide) (by decide)
  refine ⟨by rw [e8]; exact r0, by rw [e 112 (by decide) (by decide) (by decide) (by decide)]; exact r1, by rw [e 113 (by decide) (by decide) (by decide) (by decide)]; exact r2, by rw [e 109 (by decide) (by decide) (by decide) (by decide)]; exact r3, by rw [e 110 (by decide) (by decide) (by decide) (by decide)]; exact r4, by rw [e 111 (by decide) (by decide) (by decide) (by decide)]; exact r5, by rw [e 114 (by decide) (by decide) (by decide) (by decide)]; exact r6, r7, fun w h1 h2 => ?_, r9, fun w h1 h2 => ?_, fun c h1 h2 => ?_, fun c h1 h2 => ?_, fun c h1 h2 => ?_, fun c h1 h2 => ?_, fun c i h1 h2 h3 h4 => ?_, fun c i h1 h2 h3 h4 => ?_⟩
  · rw [e.ow h1 (by omega) (by decide) (by decide)]; exact r8 w h1 (by omega)
  · rw [e.om h1 (by omega) (by decide) (by decide)]; exact r10 w h1 (by omega)
  · rw [e.oc h1 (by omega) (by decide) (by decide)]; exact r11 c h1 (by omega)
  · rw [e.oc h1 (by omega) (by decide) (by decide)]; exact r12 c h1 (by omega)
  · rw [e.oc h1 (by omega) (by decide) (by decide)]; exact r13 c h1 (by omega)
  · rw [e.oc h1 (by omega) (by decide) (by decide)]; exact r14 c h1 (by omega)
  · rw [e.oc h1 (by omega) (by decide) (by decide)] at h4
    have := u7 c ⟨h1, by omega⟩
    rw [e.fa h1 (by omega) h3 (by omega) (by decide) (by decide)]; exact r15 c i h1 (by omega) h3 h4
  · rw [e.oc h1 (by omega) (by decide) (by decide)] at h4
    have := u7 c ⟨h1, by omega⟩
    rw [e.fa h1 (by omega) h3 (by omega) (by decide) (by decide)]; exact r16 c i h1 (by omega) h3 h4
theorem TbR.of {T S : Int → Int} {t w : Nat} {I : Mi} (e : RgE T S) (u : InvC S) (r : TbR t w I S) : TbR t w I T := by
  obtain ⟨r0, r1, r2, r3⟩ := r
  have us := u.st
  have u4 := u.2.2.2.2.1
  have e12 := e 112 (by decide) (by decide) (by decide) (by decide)
  have e13 := e 113 (by decide) (by decide) (by decide) (by decide)
  refine ⟨r0, r1, fun k j h1 h2 h3 h4 => ?_, fun k j h1 h2 h3 h4 => ?_⟩
  · rw [e.sk h1 (by omega) h3 h4]; exact r2 k j h1 (by omega) h3 h4
  · rw [e.osl h1 (by omega) h3 h4]; exact r3 k j h1 (by omega) h3 h4
theorem RepC.of {T S nm : Int → Int} {I : Mi} (e : RgE T S) (r : RepC I S nm) : RepC I T nm := ⟨r.1.of e r.iL, r.2.1.of e r.iL r.iC, r.2.2.1.of e r.iC, r.iL.of e, r.iC.of e r.iL⟩
/-- the same of other cells -/
theorem LawR.fr {S nm : Int → Int} {l : Nat} {I I1 : Mi} (f : ∀ a, l ≤ a → a ≤ l + 8 → I1 a = I a) (r : LawR l I S nm) : LawR l I1 S nm := by
  obtain ⟨r0, r1, r2, r3, r4, r5, r6, r7, r8, r9⟩ := r
  have fl := f l (by omega) (by omega)
  refine ⟨by rw [gi_of I I1 _ fl]; exact r0, by rw [gi_of I I1 _ fl]; exact r1, by rw [gi_of I I1 _ fl]; exact r2, fun j h1 h2 => ?_, fun w h1 h2 => ?_, fun w h1 h2 => ?_, fun w h1 h2 => ?_, fun w h1 h2 => ?_, fun w h1 h2 => ?_, fun a b h1 h2 h3 h4 => ?_⟩
  · rw [ri_of I I1 _ (f _ (by omega) (by omega))]; exact r3 j h1 h2
  · rw [ri_of I I1 _ (f _ (by omega) (by omega))]; exact r4 w h1 h2
  · rw [ri_of I I1 _ (f _ (by omega) (by omega))]; exact r5 w h1 h2
  · rw [ri_of I I1 _ (f _ (by omega) (by omega))]; exact r6 w h1 h2
  · rw [ri_of I I1 _ (f _ (by omega) (by omega))]; exact r7 w h1 h2
  · rw [ri_of I I1 _ (f _ (by omega) (by omega))]; exact r8 w h1 h2
  · rw [ri_of I I1 _ (f _ (by omega) (by omega))]; exact r9 a b h1 h2 h3 h4
theorem CgR.fr {S : Int → Int} {g : Nat} {I I1 : Mi} (f : ∀ a, g ≤ a → a ≤ g + 6 → I1 a = I a) (r : CgR g I S) : CgR g I1 S := by
  have f0 := f g (by omega) (by omega)
  have f1 := f (g + 1) (by omega) (by omega)
  have f2 := f (g + 2) (by omega) (by omega)
  have f3 := f (g + 3) (by omega) (by omega)
  have f4 := f (g + 4) (by omega) (by omega)
  have f5 := f (g + 5) (by omega) (by omega)
  have f6 := f (g + 6) (by omega) (by omega)
  unfold CgR gi ri gi at *
  rw [f0, f1, f2, f3, f4, f5, f6]; exact r
theorem TbR.fr {S : Int → Int} {t w : Nat} {I I1 : Mi} (f1 : I1 t = I t) (f2 : I1 (t + 1) = I (t + 1)) (f3 : I1 w = I w) (f4 : I1 (w + 1) = I (w + 1)) (r : TbR t w I S) : TbR t w I1 S := by
  unfold TbR gi ri gi at *
  rw [f1, f2, f3, f4]; exact r
theorem RepC.fr {S nm : Int → Int} {I I1 : Mi} (f : ∀ a, 17 ≤ a → a ≤ 36 → I1 a = I a) (r : RepC I S nm) : RepC I1 S nm :=
  ⟨r.1.fr fun a h1 h2 => f a h1 (by omega), r.2.1.fr fun a h1 h2 => f a (by omega) (by omega), r.2.2.1.fr (f _ (by decide) (by decide)) (f _ (by decide) (by decide)) (f _ (by decide) (by decide)) (f _ (by decide) (by decide)), r.2.2.2⟩
