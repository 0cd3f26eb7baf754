/-- two states with one LAW -/
def E108 (T S : Int → Int) : Prop := ∀ x, 0 ≤ x → x < 108 → T x = S x
theorem InvL.lo {T S : Int → Int} (e : E108 T S) (v : InvL S) : InvL T := by
  obtain ⟨v0, v1, v2, v3, v4, v5, v6, v7, v8, v9⟩ := v
  have e0 := e 0 (by decide) (by decide)
  have e1 := e 1 (by decide) (by decide)
  refine ⟨by rw [e0]; exact v0, by rw [e1]; exact v1, by rw [e 2 (by decide) (by decide)]; exact v2, by rw [e 3 (by decide) (by decide)]; exact v3, by rw [e 4 (by decide) (by decide)]; exact v4, by rw [e 5 (by decide) (by decide)]; exact v5, by rw [e 6 (by decide) (by decide)]; exact v6, fun w k hw h1 h2 => ?_, fun m hm => ?_, fun a b ha hb => ?_⟩
  · rw [show ow T w k = ow S w k from e _ (by omega) (by omega)]; exact v7 w k (by omega) h1 h2
  · rw [show om T m 0 = om S m 0 from e _ (by omega) (by omega), show om T m 1 = om S m 1 from e _ (by omega) (by omega), show om T m 2 = om S m 2 from e _ (by omega) (by omega)]; exact v8 m (by omega)
  · rw [show ot T a b = ot S a b from e _ (by omega) (by omega)]; exact v9 a b (by omega) (by omega)
theorem suC_upd {f g : Int → Int} {c δ : Int} (n : Nat) (hc : 0 ≤ c ∧ c < n) (h1 : ∀ d : Int, 0 ≤ d → d < n → d ≠ c → g d = f d) (h2 : g c = f c + δ) : suC g n = suC f n + δ := by
  induction n with
  | zero => omega
  | succ n ih =>
    simp only [suC]
    by_cases h : c = n
    · rw [suC_congr n (fun i h3 h4 => h1 i h3 (by omega) (by omega)), ← h, h2]; omega
    · rw [ih (by omega) (fun d h3 h4 h5 => h1 d h3 (by omega) h5), h1 n (by omega) (by omega) (by omega)]; omega
theorem stS_E {S : Int → Int} {c w m sale f : Int} (hc : 0 ≤ c) (hn : 0 ≤ S 112) : E108 (stS S c w m sale f) S := fun x _ h2 => stS_lo hc hn (by omega)
theorem StrK.ofI {S : Int → Int} {c m : Int} (v : InvL S) (u : InvC S) (hc : isC S c) (hm : isM S m) (h8 : oc S c 2 ≤ 8) : StrK S c m := by
  have us := u.st
  obtain ⟨u0, u1, u2, u3, u4, u5, u6, u7, u8, u9, ua⟩ := u
  have h7 := u7 c hc
  have hsum := suC_le (f := fun c => oc S c 0) (b := 9999) (S 108).toNat (fun i h1 h2 => by have := u7 i (by omega); omega)
  refine ⟨v, hm, by omega, by omega, by omega, by omega, fun i h1 h2 => ?_, fun i h1 h2 => u9 c i hc h1 h2, by omega, ?_⟩
  · have := u8 c i hc h1 h2; omega
  · rw [← u6] at hsum; omega
theorem InvC.str {S : Int → Int} {c w m sale f : Int} (v : InvL S) (u : InvC S) (hc : isC S c) (hm : isM S m) (h8 : oc S c 2 ≤ 8) (hg : 1 ≤ oc S c 0 - om S m 0) (hw : isW S w) (hf : f = 0 ∨ f = 1) : InvC (stS S c w m sale f) := by
  have k := StrK.ofI v u hc hm h8
  have us := u.st
  have hL := k.L
  have hm1 := v.2.2.2.2.2.2.2.2.1 m hm
  obtain ⟨u0, u1, u2, u3, u4, u5, u6, u7, u8, u9, ua⟩ := u
  have h7 := u7 c hc
  have h40 : 0 ≤ c ∧ c < 40 := by omega
  have hLS : 0 ≤ lfS S c (om S m 1) ∧ lfS S c (om S m 1) ≤ 8 := by omega
  have hn := us.1
  have e0 : stS S c w m sale f 0 = S 0 := stS_lo hc.1 hn (by omega)
  have e1 : stS S c w m sale f 1 = S 1 := stS_lo hc.1 hn (by omega)
  have e8 : stS S c w m sale f 108 = S 108 := stS_lo hc.1 hn (by omega)
  refine ⟨?_, ?_, ?_, ?_, ?_, ?_, ?_, ?_, ?_, ?_, ?_⟩
  · rw [e8]; exact u0
  · rw [stS_lo hc.1 hn (by omega)]; exact u1
  · unfold isW; rw [stS_lo hc.1 hn (by omega), stS_lo hc.1 hn (by omega), e0]; exact u2
  · rw [stS_112 hc.1 hn, e8, suC_upd (f := fun d => oc S d 2) (c := c) (δ := 1) _ (by omega) (fun d h1 h2 h3 => stS_oc h40 hn ⟨h1, by omega⟩ (by decide) hLS h3) (stS_oc2 h40)]
    omega
  · rw [stS_112 hc.1 hn, stS_lo hc.1 hn (by omega)]; omega
  · rw [stS_lo hc.1 hn (by omega), e8]; exact u5
  · rw [stS_lo hc.1 hn (by omega), stS_115 hc.1 hn, e8, suC_upd (f := fun d => oc S d 0) (c := c) (δ := -om S m 0) _ (by omega) (fun d h1 h2 h3 => stS_oc h40 hn ⟨h1, by omega⟩ (by decide) hLS h3) (by show oc _ c 0 = oc S c 0 + -om S m 0; rw [stS_oc0 h40]; omega)]
    omega
  · unfold isC isW; rw [e8, e0]; intro d hd
    by_cases hdc : d = c
    · subst hdc
      rw [stS_oc0 h40, stS_oc1 h40 hn, stS_oc2 h40, stS_oc3 h40]; omega
    · rw [stS_oc h40 hn ⟨hd.1, by omega⟩ (by decide) hLS hdc, stS_oc h40 hn ⟨hd.1, by omega⟩ (by decide) hLS hdc, stS_oc h40 hn ⟨hd.1, by omega⟩ (by decide) hLS hdc, stS_oc h40 hn ⟨hd.1, by omega⟩ (by decide) hLS hdc]
      exact u7 d hd
  · unfold isC isW; rw [e8, e0, stS_112 hc.1 hn]; intro d i hd h1 h2
    by_cases hdc : d = c
    · subst hdc
      rw [stS_oc3 h40] at h2
      by_cases hi : i = 0
      · subst hi
        rw [stS_f0 h40 hLS.1 (by decide), stS_f0 h40 hLS.1 (by decide), stS_f0 h40 hLS.1 (by decide)]
        simp only [↓reduceIte, Int.reduceEq]
        rw [stS_skn h40 hn hLS (by decide), stS_skn h40 hn hLS (by decide)]
        simp only [↓reduceIte, Int.reduceEq]
        exact ⟨hw, by decide, by omega, trivial, trivial⟩
      · have ee : ∀ j, 0 ≤ j → j < 3 → fa (stS S d w m sale f) d i j = fa S d (i - 1) j - (if j = 1 then om S m 1 else 0) := fun j h3 h4 => by
          have e := stS_fs (S := S) (c := d) (w := w) (m := m) (sale := sale) (f := f) (i := i - 1) (j := j) h40 (by omega) ⟨h3, h4⟩ (by omega)
          rwa [show i - 1 + 1 = i from by omega] at e
        have h6 := u8 d (i - 1) hc (by omega) (by omega)
        have h9 := (hL.2 (i - 1) (by omega) (by omega)).mpr (by omega)
        rw [ee 0 (by decide) (by decide), ee 1 (by decide) (by decide), ee 2 (by decide) (by decide)]
        simp only [↓reduceIte, Int.reduceEq, Int.sub_zero]
        rw [stS_sk h40 hn hLS h6.2.2.1.1 h6.2.2.1.2 (by decide), stS_sk h40 hn hLS h6.2.2.1.1 h6.2.2.1.2 (by decide)]
        exact ⟨h6.1, by omega, by omega, h6.2.2.2⟩
    · rw [stS_oc h40 hn ⟨hd.1, by omega⟩ (by decide) hLS hdc] at h2
      have h6 := u8 d i hd h1 h2
      have h10 := u7 d hd
      rw [stS_fa h40 hn ⟨hd.1, by omega⟩ (by omega) (by decide) hLS hdc, stS_fa h40 hn ⟨hd.1, by omega⟩ (by omega) (by decide) hLS hdc, stS_fa h40 hn ⟨hd.1, by omega⟩ (by omega) (by decide) hLS hdc, stS_sk h40 hn hLS h6.2.2.1.1 h6.2.2.1.2 (by decide), stS_sk h40 hn hLS h6.2.2.1.1 h6.2.2.1.2 (by decide)]
      exact ⟨h6.1, h6.2.1, by omega, h6.2.2.2⟩
  · unfold isC; rw [e8]; intro d i hd h1 h2
    by_cases hdc : d = c
    · subst hdc
      rw [stS_oc3 h40] at h2
      have e := stS_fs (S := S) (c := d) (w := w) (m := m) (sale := sale) (f := f) (i := i) (j := 1) h40 (by omega) (by decide) (by omega)
      rw [e]
      by_cases hi : i = 0
      · subst hi
        have h6 := u8 d 0 hc (by omega) (by omega)
        rw [stS_f0 h40 hLS.1 (by decide)]
        simp only [↓reduceIte, Int.reduceEq]
        omega
      · have e' := stS_fs (S := S) (c := d) (w := w) (m := m) (sale := sale) (f := f) (i := i - 1) (j := 1) h40 (by omega) (by decide) (by omega)
        rw [show i - 1 + 1 = i from by omega] at e'
        have h6 := u9 d (i - 1) hc (by omega) (by omega)
        rw [show i - 1 + 1 = i from by omega] at h6
        rw [e']; simp only [↓reduceIte]; omega
    · rw [stS_oc h40 hn ⟨hd.1, by omega⟩ (by decide) hLS hdc] at h2
      have h10 := u7 d hd
      rw [stS_fa h40 hn ⟨hd.1, by omega⟩ (by omega) (by decide) hLS hdc, stS_fa h40 hn ⟨hd.1, by omega⟩ (by omega) (by decide) hLS hdc]
      exact u9 d i hd h1 h2
  · unfold isC isW isM; rw [e8, e0, e1, stS_112 hc.1 hn]; intro k h1 h2
    by_cases hk : k = S 112
    · subst hk
      rw [stS_skn h40 hn hLS (by decide), stS_skn h40 hn hLS (by decide), stS_skn h40 hn hLS (by decide), stS_skn h40 hn hLS (by decide)]
      simp only [↓reduceIte, Int.reduceEq]
      exact ⟨hc, hw, hm, hf⟩
    · rw [stS_sk h40 hn hLS h1 (by omega) (by decide), stS_sk h40 hn hLS h1 (by omega) (by decide), stS_sk h40 hn hLS h1 (by omega) (by decide), stS_sk h40 hn hLS h1 (by omega) (by decide)]
      exact ua k h1 (by omega)
