theorem c_reL {sh : Sh} (h : St sh) {A : Mi} (J : Mj) {S nm : Int → Int} {t x : Nat → Int} {b s m p : Int} {n : Nat} (hn : n ≤ 12) (r : Rep3 A S nm) (H : ∀ i, i ≤ n → RsI S t x b n i) (hb : rg b) (ht : ∀ i, i < n → isC S (t i)) (hx : ∀ i, i < n → 2 ≤ x i → isM S (x i - 2) ∧ oc S (t i) 2 ≤ 8 ∧ 1 ≤ oc S (t i) 0 - om S (x i - 2) 0) (hxb : ∀ i, i < n → 0 ≤ x i ∧ x i ≤ 5) (h44 : gi A 44 0 = n) (h45 : ∀ i : Nat, i < n → ri A 45 i = t i) (h46 : ∀ i : Nat, i < n → ri A 46 i = x i) : ∃ A1, lp (uX0_settle_f3 44 16 b s m p) fu (0, (sh, A, J)) = some (sh, A1, J) ∧ (∀ a, ¬ strA a → A1 a = A a) ∧ Rep3 A1 (rs S t x b n) nm := by
  obtain ⟨bb, hbb, A1, hA1, hf, hr⟩ := lp_fi (f := uX0_settle_f3 44 16 b s m p) (x := (0, (sh, A, J))) (fun k y => ∃ A1, y = ((k : Int), (sh, A1, J)) ∧ (∀ a, ¬ strA a → A1 a = A a) ∧ Rep3 A1 (rs S t x b k) nm) (fun M => ∃ A1, M = (sh, A1, J) ∧ (∀ a, ¬ strA a → A1 a = A a) ∧ Rep3 A1 (rs S t x b n) nm) n
    ⟨A, rfl, fun _ _ => rfl, r⟩ (fun k y hk ⟨A1, hy, hf, hr⟩ => by
      subst hy
      have e44 : gi A1 44 0 = n := by rw [gi_fr (hf 44 (by omega))]; exact h44
      simp only [uX0_settle_f3, uX0_settle_s3, SEg h, SEr h, SEa h, SEk h, SEj h, SEl h, SEp h, SEs h, bd_some, bd2_some, e44]
      by_cases ck : k = n
      · right
        exact ⟨_, by rw [if_pos (by omega)], A1, rfl, hf, by rw [← ck]; exact hr⟩
      · left
        refine ⟨by omega, ?_⟩
        have e45 : ri A1 45 k = t k := by rw [ri_of A A1 _ (hf 45 (by omega))]; exact h45 k (by omega)
        have e46 : ri A1 46 k = x k := by rw [ri_of A A1 _ (hf 46 (by omega))]; exact h46 k (by omega)
        have xb := hxb k (by omega)
        rw [if_neg (by omega), if_neg (by omega)]
        simp (disch := omega) only [SEg h, SEr h, SEa h, SEk h, SEj h, SEl h, SEp h, SEs h, bd_some, bd2_some, e46]
        by_cases cx : x k < 2
        · rw [if_pos cx]
          have e : rs S t x b (k + 1) = rs S t x b k := if_pos cx
          exact ⟨_, rfl, A1, by simp (disch := omega) only [w32_id, w64_id]; rfl, hf, by rw [e]; exact hr⟩
        · rw [if_neg cx]
          have e : rs S t x b (k + 1) = stS (rs S t x b k) (t k) b (x k - 2) (-1) 0 := if_neg cx
          have Hk := H k (by omega)
          obtain ⟨hc', hm', h8', -, -⟩ := rs_at Hk (by omega) (ht k (by omega)) (hx k (by omega) (by omega))
          obtain ⟨T, hT⟩ : ∃ T, T = rs S t x b k := ⟨_, rfl⟩
          unfold RsI at Hk
          rw [← hT] at Hk hc' hm' h8' hr e
          have ks := StrK.ofI Hk.1 Hk.2.1 hc' hm' h8'
          have u0 := Hk.2.1.1
          have hly : ∀ d, 0 ≤ d → d < T 108 → oc T d 3 ≤ 9 := fun d h1 h2 => by have := Hk.2.1.2.2.2.2.2.2.2.1 d ⟨h1, h2⟩; omega
          obtain ⟨A2, a1, a2, a3⟩ := c_strike h J (c := t k) (w := b) (m := x k - 2) (sale := -1) (f := 0) hr ks hc'.2 u0.2 hly hb (by decide) (by decide)
          have tb := hc'.1
          have tb2 := hc'.2
          simp (disch := omega) only [SEg h, SEr h, SEa h, SEk h, SEj h, SEl h, SEp h, SEs h, bd_some, bd2_some, e45, e46, w32_id, w64_id, a1]
          exact ⟨_, rfl, A2, rfl, fun a q => by rw [a2 a q]; exact hf a q, by rw [e]; exact a3⟩) (by omega)
  subst hA1
  exact ⟨A1, hbb, hf, hr⟩
theorem c_hoL {sh : Sh} (h : St sh) {A : Mi} (J : Mj) {S T nm : Int → Int} {t x : Nat → Int} {w m k : Int} {n : Nat} (hn : n ≤ 12) (r : Rep3 A T nm) (xe : SxE T S) (hi : ∀ i, i ≤ (gl t x n).length → HsI S (tl (gl t x n)) w m k (gl t x n).length i) (hm : isM S m) (hw : isW S w) (hk : rg k) (ht : ∀ i, i < n → x i ≠ 0 → isC S (t i) ∧ oc S (t i) 2 ≤ 8) (hxb : ∀ i, i < n → 0 ≤ x i ∧ x i ≤ 5) (h4 : S 1 ≤ 4) (h40 : S 108 ≤ 40) (h44 : gi A 44 0 = n) (h45 : ∀ i : Nat, i < n → ri A 45 i = t i) (h46 : ∀ i : Nat, i < n → ri A 46 i = x i) :
    ∃ R, lp (uX0_settle_f82 44 16 w m k) fu (0, (sh, A, J)) = some R ∧ ∃ A1, R = (sh, A1, J) ∧ (∀ a, ¬ hoA a → A1 a = A a) ∧ Rep3 A1 (hs T (tl (gl t x n)) w m k (gl t x n).length) nm ∧ SxE (hs T (tl (gl t x n)) w m k (gl t x n).length) (hs S (tl (gl t x n)) w m k (gl t x n).length) ∧ ∀ y, 4400 ≤ y ∨ y = 113 → hs T (tl (gl t x n)) w m k (gl t x n).length y = T y := by
  obtain ⟨tt, htt⟩ : ∃ tt, tt = tl (gl t x n) := ⟨_, rfl⟩
  obtain ⟨N, hN⟩ : ∃ N, N = (gl t x n).length := ⟨_, rfl⟩
  rw [← htt, ← hN] at hi ⊢
  refine lp_fi (fun i y => ∃ A1, y = ((i : Int), (sh, A1, J)) ∧ (∀ a, ¬ hoA a → A1 a = A a) ∧ Rep3 A1 (hs T tt w m k (gl t x i).length) nm ∧ SxE (hs T tt w m k (gl t x i).length) (hs S tt w m k (gl t x i).length) ∧ ∀ y, 4400 ≤ y ∨ y = 113 → hs T tt w m k (gl t x i).length y = T y) _ n ⟨A, rfl, fun _ _ => rfl, r, xe, fun _ _ => rfl⟩ ?_ (by omega)
  rintro i y hin ⟨A1, rfl, f, r1, x1, q1⟩
  have e44 : gi A1 44 0 = n := by rw [gi_fr (f 44 (by omega))]; exact h44
  simp only [uX0_settle_f82, uX0_settle_s82, SEg h, SEr h, SEa h, SEk h, SEj h, SEl h, SEp h, SEs h, bd_some, bd2_some, e44]
  by_cases hie : i = n
  · right
    subst hie
    rw [← hN] at r1 x1 q1
    exact ⟨_, by rw [if_pos (Int.le_refl _)], A1, rfl, f, r1, x1, q1⟩
  · left
    refine ⟨by omega, ?_⟩
    have e45 : ri A1 45 i = t i := by rw [ri_of A A1 _ (f 45 (by omega))]; exact h45 i (by omega)
    have e46 : ri A1 46 i = x i := by rw [ri_of A A1 _ (f 46 (by omega))]; exact h46 i (by omega)
    have xb := hxb i (by omega)
    rw [if_neg (by omega), if_neg (by omega)]
    simp (disch := omega) only [SEg h, SEr h, SEa h, SEk h, SEj h, SEl h, SEp h, SEs h, bd_some, bd2_some, e46]
    by_cases cx : x i = 0
    · rw [if_pos cx]
      have e : gl t x (i + 1) = gl t x i := if_pos cx
      refine ⟨_, rfl, A1, by simp (disch := omega) only [w32_id, w64_id]; rfl, f, ?_⟩
      rw [e]; exact ⟨r1, x1, q1⟩
    · rw [if_neg cx]
      have e : (gl t x (i + 1)).length = (gl t x i).length + 1 := by
        show (if x i = 0 then gl t x i else gl t x i ++ [t i]).length = _
        rw [if_neg cx, List.length_append, List.length_singleton]
      obtain ⟨g1, g2⟩ := gl_tl (t := t) (x := x) (i := i) (n := n) (by omega) cx
      rw [← htt] at g1
      rw [← hN] at g2
      obtain ⟨g, hg⟩ : ∃ g, g = (gl t x i).length := ⟨_, rfl⟩
      rw [← hg] at e g1 g2 r1 x1 q1
      obtain ⟨i0, i1, i2, i3, i4, i5, i6, -⟩ := hi g (by omega)
      have hti := ht i (by omega) cx
      have eo := i6 g (Nat.le_refl _) g2
      rw [g1] at eo
      have us := i1.st
      have hc' : isC (hs S tt w m k g) (t i) := by unfold isC; rw [i5]; exact hti.1
      have hm' : isM (hs S tt w m k g) m := by unfold isM; rw [i4 1 (by decide) (by decide)]; exact hm
      have hw' : isW (hs S tt w m k g) w := by unfold isW; rw [i4 0 (by decide) (by decide)]; exact hw
      have h8' : oc (hs S tt w m k g) (t i) 2 ≤ 8 := by rw [eo 2 (by decide) (by decide)]; exact hti.2
      have ks := StrK.ofI i0 i1 hc' hm' h8'
      have kT := ks.sx x1
      have hL := kT.L
      have kT4 := kT.2.2.2.2.1
      have kT8 := kT.2.2.2.2.2.2.2.2.1
      have kS4 := ks.2.2.2.2.1
      have c40 : 0 ≤ t i ∧ t i < 40 := by have := hti.1.1; have := hti.1.2; omega
      have m4 : 0 ≤ m ∧ m < 4 := by have := hm.1; have := hm.2; omega
      obtain ⟨A2, a1, a2, a3⟩ := c_handOver h J (k := k) r1 x1 i0 i1 hc' hm' h8' hw' hk
      have eT : hs T tt w m k (g + 1) = hoS (hs T tt w m k g) (t i) w m k := by rw [← g1]; rfl
      have eS : hs S tt w m k (g + 1) = hoS (hs S tt w m k g) (t i) w m k := by rw [← g1]; rfl
      simp (disch := omega) only [SEg h, SEr h, SEa h, SEk h, SEj h, SEl h, SEp h, SEs h, bd_some, bd2_some, e45, a1, w32_id, w64_id]
      refine ⟨_, rfl, A2, rfl, fun a ha => by rw [a2 a ha]; exact f a ha, ?_⟩
      rw [e, eT, eS]
      refine ⟨a3, hoS_sx x1 c40 m4 (by omega), fun y hy => ?_⟩
      rw [hoS_x c40 kT8 (by omega) (by omega)]; exact q1 y hy
theorem c_settle {sh : Sh} (h : St sh) {A : Mi} (J : Mj) {S nm : Int → Int} (r : RepC A S nm) {b s m p : Int} (ok : Okp S b s m p) {G : Int → Int} (hG : G = fun c => oc S c 0) {W : Int → Int → Int} (hW : W = wvS S b s m (lkS S)) {l : List Int} (hL : l = lkL S b (S 108).toNat) {ws : List Int} (hY : WY G W l p ws) (hD : DU G W (us W l) p < 100000000) (h44 : gi A 44 0 = l.length) (h45 : ∀ (i : Nat) c, l[i]? = some c → ri A 45 i = c) (h46 : ∀ (i : Nat) x, ws[i]? = some x → ri A 46 i = x) (h11 : gi A 44 11 = gvn ws) (h13 : gi A 44 13 = vls W l ws) :
    ∃ A', uX0_settle 44 16 b s m p (sh, A, J) = some (sh, A', J) ∧ (∀ a, a < 26 ∨ 36 < a → A' a = A a) ∧ RepC A' (paS S W l ws b s m p) nm := by
  obtain ⟨⟨l12, wl⟩, hC, RI, hF, ⟨hM', hW'⟩, HI, n1⟩ := payF r.iL r.iC ok hG hW hL hY hD
  have v0 := r.iL.1
  have v1 := r.iL.2.1
  have u0 := r.iC.1
  have us := r.iC.st
  have u4 := r.iC.2.2.2.2.1
  have okW : OkW G W l := by
    have lb := lkL_b S b (S 108).toNat
    rw [← hL] at lb
    rw [hG, hW]; exact wvS_ok r.iL r.iC ok.1 ok.2.1 (lkS_b r.iL) fun c hc => ⟨(lb.2.2 c hc).1, by have := (lb.2.2 c hc).2; omega⟩
  have gb := gvn_b ws
  have vb := vls_b (ws := ws) okW
  have hb1 := ok.1.1
  have hb2 := ok.1.2
  have hs1 := ok.2.1.1
  have hs2 := ok.2.1.2
  have hm1 := ok.2.2.1.1
  have hm2 := ok.2.2.1.2
  have hp := ok.2.2.2.1
  have t45 : ∀ i : Nat, i < l.length → ri A 45 i = tl l i := fun i hi => h45 i _ (tl_at hi)
  have t46 : ∀ i : Nat, i < l.length → ri A 46 i = tl ws i := fun i hi => h46 i _ (tl_at (by omega))
  obtain ⟨A1, s1, f1, r1⟩ := c_reL h J (s := s) (m := m) (p := p) l12 (show Rep3 A S nm from ⟨r.1, r.2.1, r.2.2.1⟩) RI (by omega) (fun i hi => (hC i hi).1) (fun i hi => (hC i hi).2.2) (fun i hi => (hC i hi).2.1) h44 t45 t46
  have Rn := RI l.length (Nat.le_refl _)
  obtain ⟨n0, n1', n2, n3, n4, n5, n6, n7, n8, n9, n10⟩ := Rn
  obtain ⟨S', hS'⟩ : ∃ S', S' = paR S l ws b := ⟨_, rfl⟩
  have eS' : rs S (tl l) (tl ws) b l.length = S' := hS'.symm
  rw [eS'] at r1 n0 n1' n2 n3 n4 n5 n6 n7 n8 n9 n10
  rw [← hS'] at hF hM' hW' HI
  have w0 := n0.1
  have w1 := n0.2.1
  have y0 := n1'.1
  have ys := n1'.st
  have y4 := n1'.2.2.2.2.1
  have hly : ∀ d, 0 ≤ d → d < S' 108 → oc S' d 3 ≤ 9 := fun d h1 h2 => by have := n1'.2.2.2.2.2.2.2.1 d ⟨h1, h2⟩; omega
  have e44 : gi A1 44 11 = gvn ws := by rw [gi_fr (f1 44 (by omega))]; exact h11
  have e13 : gi A1 44 13 = vls W l ws := by rw [gi_fr (f1 44 (by omega))]; exact h13
  obtain ⟨Ar, d1, d2, d3⟩ := c_recordSale h J (b := b) (s := s) (m := m) (p := p) (n := gvn ws) (v := vls W l ws) r1 (by omega) (by omega) (by omega) (by omega) (by omega) (by omega) (by omega) w0.2 w1.2 (by omega) y0.2 hly
  rw [n7] at d1
  obtain ⟨Rr, l1, A2, rfl, l2, l3, l4, l5⟩ := c_hoL h J (t := tl l) (x := tl ws) (n := l.length) (w := s) (m := m) (k := S 113) l12 d3 (fun x h1 h2 h3 => salS_lo y4.1 h2 h3) HI hM' hW' (by omega) hF (fun i hi => (hC i hi).2.1) w1.2 y0.2 (by rw [gi_fr (d2 44 (by decide) (by decide)), gi_fr (f1 44 (by omega))]; exact h44) (fun i hi => by rw [ri_of A1 Ar _ (d2 45 (by decide) (by decide)), ri_of A A1 _ (f1 45 (by omega))]; exact t45 i hi) (fun i hi => by rw [ri_of A1 Ar _ (d2 46 (by decide) (by decide)), ri_of A A1 _ (f1 46 (by omega))]; exact t46 i hi)
  have Hn := HI (paG l ws).length (Nat.le_refl _)
  rw [← n7] at Hn
  have E := sal_hs (b := b) (s := s) (p := p) (n := gvn ws) (v := vls W l ws) Hn (by omega) (by rw [n7]; exact l4) (by rw [n7]; exact l5)
  have iv_ := salS_inv (b := b) (s := s) (m := m) (p := p) (n := gvn ws) (v := vls W l ws) Hn.2.1 Hn.1 (by rw [Hn.2.2.2.2.2.2.2.1, Hn.2.2.2.1]; omega)
  rw [n7] at E iv_
  refine ⟨A2, ?_, fun a ha => by rw [l2 a (by omega), d2 a (by omega) (by omega), f1 a (by omega)], ?_⟩
  · simp only [uX0_settle, uX0_settle_b3, s1, bd_some, uX0_settle_c3, uX0_settle_b59, SEg h, SEr h, SEa h, SEk h, SEj h, SEl h, SEp h, SEs h, bd_some, bd2_some, e44, e13, d1, uX0_settle_b82, l1, uX0_settle_c82, uX0_settle_b130]
  · have := l3.e0 E iv_.1 iv_.2
    unfold paS paH
    rw [← hS']
    exact this
