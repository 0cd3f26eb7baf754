def InvCx (S : Int → Int) (c0 : Int) : Prop := (0 ≤ S 108 ∧ S 108 ≤ 40) ∧ (0 ≤ S 109 ∧ S 109 ≤ 9999) ∧ ((S 110 = -1 ∧ S 111 = -1) ∨ (isW S (S 110) ∧ isW S (S 111))) ∧ (S 112 = suC (fun c => oc S c 2) (S 108).toNat) ∧ (0 ≤ S 113 ∧ S 113 ≤ S 112)
  ∧ (0 ≤ S 114 ∧ S 114 ≤ 9999 * S 108) ∧ (S 114 - S 115 = suC (fun c => oc S c 0) (S 108).toNat)
  ∧ (∀ c, isC S c → (1 ≤ oc S c 0 ∧ oc S c 0 ≤ 9999) ∧ isW S (oc S c 1) ∧ (0 ≤ oc S c 2 ∧ oc S c 2 ≤ 9) ∧ (0 ≤ oc S c 3 ∧ oc S c 3 ≤ oc S c 2) ∧ (c ≠ c0 → 1 ≤ oc S c 2 ∧ 1 ≤ oc S c 3))
  ∧ (∀ c i, isC S c → 0 ≤ i → i < oc S c 3 → isW S (fa S c i 0) ∧ (1 ≤ fa S c i 1 ∧ fa S c i 1 ≤ 9) ∧ (0 ≤ fa S c i 2 ∧ fa S c i 2 < S 112) ∧ sk S (fa S c i 2) 0 = c ∧ sk S (fa S c i 2) 1 = fa S c i 0)
  ∧ (∀ c i, isC S c → 0 ≤ i → i + 1 < oc S c 3 → fa S c (i + 1) 1 < fa S c i 1)
  ∧ (∀ k, 0 ≤ k → k < S 112 → isC S (sk S k 0) ∧ isW S (sk S k 1) ∧ isM S (sk S k 2) ∧ (sk S k 5 = 0 ∨ sk S k 5 = 1))
theorem InvCx.st {S : Int → Int} {c0 : Int} (u : InvCx S c0) : 0 ≤ S 112 ∧ S 112 ≤ 360 := by
  obtain ⟨u0, -, -, u3, -, -, -, u7, -⟩ := u
  have := suC_le (f := fun c => oc S c 2) (b := 9) (S 108).toNat (fun i h1 h2 => by have := u7 i (by omega); omega)
  rw [← u3] at this
  omega
theorem StrK.ofX {S : Int → Int} {c m : Int} (v : InvL S) (u : InvCx S c) (hc : isC S c) (hm : isM S m) (h8 : oc S c 2 ≤ 8) : StrK S c m := by
  have us := u.st
  obtain ⟨u0, u1, u2, u3, u4, u5, u6, u7, u8, u9, ua⟩ := u
  have h7 := u7 c hc
  have hsum := suC_le (f := fun c => oc S c 0) (b := 9999) (S 108).toNat (fun i h1 h2 => by have := u7 i (by omega); omega)
  refine ⟨v, hm, by omega, by omega, by omega, by omega, fun i h1 h2 => ?_, fun i h1 h2 => u9 c i hc h1 h2, by omega, ?_⟩
  · have := u8 c i hc h1 h2; omega
  · rw [← u6] at hsum; omega
theorem InvCx.str {S : Int → Int} {c w m sale f : Int} (v : InvL S) (u : InvCx S c) (hc : isC S c) (hm : isM S m) (h8 : oc S c 2 ≤ 8) (hg : 1 ≤ oc S c 0 - om S m 0) (hw : isW S w) (hf : f = 0 ∨ f = 1) : InvC (stS S c w m sale f) := by
  have k := StrK.ofX v u hc hm h8
  have us := u.st
  have hL := k.L
  have hm1 := v.2.2.2.2.2.2.2.2.1 m hm
  obtain ⟨u0, u1, u2, u3, u4, u5, u6, u7, u8, u9, ua⟩ := u
  have h7 := u7 c hc
  have h40 : 0 ≤ c ∧ c < 40 := by omega
  have hLS : 0 ≤ lfS S c (om S m 1) ∧ lfS S c (om S m 1) ≤ 8 := by omega
  have hn := us.1
  have e0 : stS S c w m sale f 0 = S 0 := stS_lo hc.1 hn (by omega)
  have e1 : stS S c w m sale f 1 = S 1 := stS_lo hc.1 hn (by omega)
  have e8 : stS S c w m sale f 108 = S 108 := stS_lo hc.1 hn (by omega)
  refine ⟨?_, ?_, ?_, ?_, ?_, ?_, ?_, ?_, ?_, ?_, ?_⟩
  · rw [e8]; exact u0
  · rw [stS_lo hc.1 hn (by omega)]; exact u1
  · unfold isW; rw [stS_lo hc.1 hn (by omega), stS_lo hc.1 hn (by omega), e0]; exact u2
  · rw [stS_112 hc.1 hn, e8, suC_upd (f := fun d => oc S d 2) (c := c) (δ := 1) _ (by omega) (fun d h1 h2 h3 => stS_oc h40 hn ⟨h1, by omega⟩ (by decide) hLS h3) (stS_oc2 h40)]
    omega
  · rw [stS_112 hc.1 hn, stS_lo hc.1 hn (by omega)]; omega
  · rw [stS_lo hc.1 hn (by omega), e8]; exact u5
  · rw [stS_lo hc.1 hn (by omega), stS_115 hc.1 hn, e8, suC_upd (f := fun d => oc S d 0) (c := c) (δ := -om S m 0) _ (by omega) (fun d h1 h2 h3 => stS_oc h40 hn ⟨h1, by omega⟩ (by decide) hLS h3) (by show oc _ c 0 = oc S c 0 + -om S m 0; rw [stS_oc0 h40]; omega)]
    omega
  · unfold isC isW; rw [e8, e0]; intro d hd
    by_cases hdc : d = c
    · subst hdc
      rw [stS_oc0 h40, stS_oc1 h40 hn, stS_oc2 h40, stS_oc3 h40]; omega
    · rw [stS_oc h40 hn ⟨hd.1, by omega⟩ (by decide) hLS hdc, stS_oc h40 hn ⟨hd.1, by omega⟩ (by decide) hLS hdc, stS_oc h40 hn ⟨hd.1, by omega⟩ (by decide) hLS hdc, stS_oc h40 hn ⟨hd.1, by omega⟩ (by decide) hLS hdc]
      have q := u7 d hd
      exact ⟨q.1, q.2.1, ⟨(q.2.2.2.2 hdc).1, q.2.2.1.2⟩, ⟨(q.2.2.2.2 hdc).2, q.2.2.2.1.2⟩⟩
  · unfold isC isW; rw [e8, e0, stS_112 hc.1 hn]; intro d i hd h1 h2
    by_cases hdc : d = c
    · subst hdc
      rw [stS_oc3 h40] at h2
      by_cases hi : i = 0
      · subst hi
        rw [stS_f0 h40 hLS.1 (by decide), stS_f0 h40 hLS.1 (by decide), stS_f0 h40 hLS.1 (by decide)]
        simp only [↓reduceIte, Int.reduceEq]
        rw [stS_skn h40 hn hLS (by decide), stS_skn h40 hn hLS (by decide)]
        simp only [↓reduceIte, Int.reduceEq]
        exact ⟨hw, by decide, by omega, trivial, trivial⟩
      · have ee : ∀ j, 0 ≤ j → j < 3 → fa (stS S d w m sale f) d i j = fa S d (i - 1) j - (if j = 1 then om S m 1 else 0) := fun j h3 h4 => by
          have e := stS_fs (S := S) (c := d) (w := w) (m := m) (sale := sale) (f := f) (i := i - 1) (j := j) h40 (by omega) ⟨h3, h4⟩ (by omega)
          rwa [show i - 1 + 1 = i from by omega] at e
        have h6 := u8 d (i - 1) hc (by omega) (by omega)
        have h9 := (hL.2 (i - 1) (by omega) (by omega)).mpr (by omega)
        rw [ee 0 (by decide) (by decide), ee 1 (by decide) (by decide), ee 2 (by decide) (by decide)]
        simp only [↓reduceIte, Int.reduceEq, Int.sub_zero]
        rw [stS_sk h40 hn hLS h6.2.2.1.1 h6.2.2.1.2 (by decide), stS_sk h40 hn hLS h6.2.2.1.1 h6.2.2.1.2 (by decide)]
        exact ⟨h6.1, by omega, by omega, h6.2.2.2⟩
    · rw [stS_oc h40 hn ⟨hd.1, by omega⟩ (by decide) hLS hdc] at h2
      have h6 := u8 d i hd h1 h2
      have h10 := u7 d hd
      rw [stS_fa h40 hn ⟨hd.1, by omega⟩ (by omega) (by decide) hLS hdc, stS_fa h40 hn ⟨hd.1, by omega⟩ (by omega) (by decide) hLS hdc, stS_fa h40 hn ⟨hd.1, by omega⟩ (by omega) (by decide) hLS hdc, stS_sk h40 hn hLS h6.2.2.1.1 h6.2.2.1.2 (by decide), stS_sk h40 hn hLS h6.2.2.1.1 h6.2.2.1.2 (by decide)]
      exact ⟨h6.1, h6.2.1, by omega, h6.2.2.2⟩
  · unfold isC; rw [e8]; intro d i hd h1 h2
    by_cases hdc : d = c
    · subst hdc
      rw [stS_oc3 h40] at h2
      have e := stS_fs (S := S) (c := d) (w := w) (m := m) (sale := sale) (f := f) (i := i) (j := 1) h40 (by omega) (by decide) (by omega)
      rw [e]
      by_cases hi : i = 0
      · subst hi
        have h6 := u8 d 0 hc (by omega) (by omega)
        rw [stS_f0 h40 hLS.1 (by decide)]
        simp only [↓reduceIte, Int.reduceEq]
        omega
      · have e' := stS_fs (S := S) (c := d) (w := w) (m := m) (sale := sale) (f := f) (i := i - 1) (j := 1) h40 (by omega) (by decide) (by omega)
        rw [show i - 1 + 1 = i from by omega] at e'
        have h6 := u9 d (i - 1) hc (by omega) (by omega)
        rw [show i - 1 + 1 = i from by omega] at h6
        rw [e']; simp only [↓reduceIte]; omega
    · rw [stS_oc h40 hn ⟨hd.1, by omega⟩ (by decide) hLS hdc] at h2
      have h10 := u7 d hd
      rw [stS_fa h40 hn ⟨hd.1, by omega⟩ (by omega) (by decide) hLS hdc, stS_fa h40 hn ⟨hd.1, by omega⟩ (by omega) (by decide) hLS hdc]
      exact u9 d i hd h1 h2
  · unfold isC isW isM; rw [e8, e0, e1, stS_112 hc.1 hn]; intro k h1 h2
    by_cases hk : k = S 112
    · subst hk
      rw [stS_skn h40 hn hLS (by decide), stS_skn h40 hn hLS (by decide), stS_skn h40 hn hLS (by decide), stS_skn h40 hn hLS (by decide)]
      simp only [↓reduceIte, Int.reduceEq]
      exact ⟨hc, hw, hm, hf⟩
    · rw [stS_sk h40 hn hLS h1 (by omega) (by decide), stS_sk h40 hn hLS h1 (by omega) (by decide), stS_sk h40 hn hLS h1 (by omega) (by decide), stS_sk h40 hn hLS h1 (by omega) (by decide)]
      exact ua k h1 (by omega)

/-- a state with one COIN more, that has no STROKE yet -/
def adS (S : Int → Int) (w g x : Int) : Int := if x = 108 then S 108 + 1 else if x = 114 then S 114 + g else if 120 + 32 * S 108 ≤ x ∧ x < 120 + 32 * S 108 + 32 then (if x = 120 + 32 * S 108 then g else if x = 120 + 32 * S 108 + 1 then w else 0) else S x
section ADS
variable {S : Int → Int} {w g : Int}
theorem adS_lo {x : Int} (u : 0 ≤ S 108) (h : x < 108 ∨ (108 < x ∧ x < 114) ∨ (114 < x ∧ x < 120)) : adS S w g x = S x := by
  unfold adS; simp (disch := omega) only [if_neg]
theorem adS_oc {d k : Int} (u : 0 ≤ S 108 ∧ S 108 ≤ 40) (hd : 0 ≤ d) (h1 : d < S 108) (hk : 0 ≤ k ∧ k < 32) : oc (adS S w g) d k = oc S d k := by
  unfold oc adS; simp (disch := omega) only [if_neg]
theorem adS_ocn {k : Int} (u : 0 ≤ S 108 ∧ S 108 ≤ 40) (hk : 0 ≤ k ∧ k < 32) : oc (adS S w g) (S 108) k = if k = 0 then g else if k = 1 then w else 0 := by
  unfold oc adS
  by_cases h0 : k = 0
  · simp (disch := omega) only [if_neg, if_pos]
  · by_cases h1 : k = 1
    · simp (disch := omega) only [if_neg, if_pos]
    · simp (disch := omega) only [if_neg, if_pos]
theorem adS_hi {x : Int} (u : 0 ≤ S 108 ∧ S 108 < 40) (h : 1400 ≤ x) : adS S w g x = S x := by
  unfold adS; simp (disch := omega) only [if_neg]
end ADS
theorem adS_inv {S : Int → Int} {w g : Int} (u : InvC S) (h40 : S 108 < 40) (hw : isW S w) (hg : 1 ≤ g ∧ g ≤ 9999) : InvCx (adS S w g) (S 108) := by
  have us := u.st
  obtain ⟨u0, u1, u2, u3, u4, u5, u6, u7, u8, u9, ua⟩ := u
  have e0 : adS S w g 0 = S 0 := adS_lo u0.1 (by omega)
  have e1 : adS S w g 1 = S 1 := adS_lo u0.1 (by omega)
  have e8 : adS S w g 108 = S 108 + 1 := if_pos rfl
  have e9 : adS S w g 109 = S 109 := adS_lo u0.1 (by omega)
  have e10 : adS S w g 110 = S 110 := adS_lo u0.1 (by omega)
  have e11 : adS S w g 111 = S 111 := adS_lo u0.1 (by omega)
  have e12 : adS S w g 112 = S 112 := adS_lo u0.1 (by omega)
  have e13 : adS S w g 113 = S 113 := adS_lo u0.1 (by omega)
  have e14 : adS S w g 114 = S 114 + g := rfl
  have e15 : adS S w g 115 = S 115 := adS_lo u0.1 (by omega)
  have n1 : (S 108 + 1).toNat = (S 108).toNat + 1 := by omega
  have n2 : (((S 108).toNat : Nat) : Int) = S 108 := by omega
  refine ⟨by omega, by omega, by rw [e10, e11]; unfold isW; rw [e0]; exact u2, ?_, by omega, by omega, ?_, fun c hc => ?_, fun c i hc h1 h2 => ?_, fun c i hc h1 h2 => ?_, fun k h1 h2 => ?_⟩
  · rw [e12, e8, n1]; simp only [suC]; rw [n2, adS_ocn u0 (by decide), suC_congr (g := fun c => oc S c 2) _ (fun i h1 h2 => adS_oc u0 h1 (by omega) (by decide)), ← u3]; simp
  · rw [e14, e15, e8, n1]; simp only [suC]; rw [n2, adS_ocn u0 (by decide), suC_congr (g := fun c => oc S c 0) _ (fun i h1 h2 => adS_oc u0 h1 (by omega) (by decide)), ← u6]; simp only [↓reduceIte]; omega
  · unfold isW; rw [e0]
    by_cases hcc : c = S 108
    · subst hcc
      rw [adS_ocn u0 (by decide), adS_ocn u0 (by decide), adS_ocn u0 (by decide), adS_ocn u0 (by decide)]
      simp only [↓reduceIte, Int.reduceEq]
      exact ⟨hg, hw, by decide, by decide, fun q => absurd trivial (by simp at q)⟩
    · have hc2 : isC S c := by omega
      have := u7 c hc2
      rw [adS_oc u0 hc.1 hc2.2 (by decide), adS_oc u0 hc.1 hc2.2 (by decide), adS_oc u0 hc.1 hc2.2 (by decide), adS_oc u0 hc.1 hc2.2 (by decide)]
      exact ⟨this.1, this.2.1, by omega, by omega, fun _ => by omega⟩
  · by_cases hcc : c = S 108
    · subst hcc; rw [adS_ocn u0 (by decide)] at h2; simp only [↓reduceIte, Int.reduceEq] at h2; omega
    · have hc2 : isC S c := by omega
      have h7 := u7 c hc2
      rw [adS_oc u0 hc.1 hc2.2 (by decide)] at h2
      have h8 := u8 c i hc2 h1 h2
      have ef : ∀ j, 0 ≤ j → j < 3 → fa (adS S w g) c i j = fa S c i j := fun j h3 h4 => adS_oc u0 hc.1 hc2.2 (by omega)
      have es : ∀ j, 0 ≤ j → j < 6 → sk (adS S w g) (fa S c i 2) j = sk S (fa S c i 2) j := fun j h3 h4 => adS_hi ⟨u0.1, h40⟩ (by omega)
      rw [ef 0 (by decide) (by decide), ef 1 (by decide) (by decide), ef 2 (by decide) (by decide), es 0 (by decide) (by decide), es 1 (by decide) (by decide), e12]
      unfold isW; rw [e0]; exact h8
  · by_cases hcc : c = S 108
    · subst hcc; rw [adS_ocn u0 (by decide)] at h2; simp only [↓reduceIte, Int.reduceEq] at h2; omega
    · have hc2 : isC S c := by omega
      have h7 := u7 c hc2
      rw [adS_oc u0 hc.1 hc2.2 (by decide)] at h2
      have ef : ∀ i, 0 ≤ i → i < 9 → fa (adS S w g) c i 1 = fa S c i 1 := fun i h3 h4 => adS_oc u0 hc.1 hc2.2 (by omega)
      rw [ef i h1 (by omega), ef (i + 1) (by omega) (by omega)]
      exact u9 c i hc2 h1 h2
  · rw [e12] at h2
    have es : ∀ j, 0 ≤ j → j < 6 → sk (adS S w g) k j = sk S k j := fun j h3 h4 => adS_hi ⟨u0.1, h40⟩ (by omega)
    have := ua k h1 h2
    rw [es 0 (by decide) (by decide), es 1 (by decide) (by decide), es 2 (by decide) (by decide), es 5 (by decide) (by decide)]
    unfold isC isW isM; rw [e0, e1, e8]; exact ⟨by omega, this.2⟩
