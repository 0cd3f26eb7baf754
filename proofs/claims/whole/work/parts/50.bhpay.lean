theorem r_reL {sh : Sh} (h : St sh) {B : Mi} (J : Mj) {S : Int → Int} {W : Int → Int → Int} {l ws : List Int} {b s m p : Int} (hl : l.length ≤ 12) (wl : ws.length = l.length) (hb : rg b) (e : E0 (ri B 59) S) (H : ∀ i, i ≤ l.length → RsI S (tl l) (tl ws) b l.length i) (hC : ∀ i, i < l.length → isC S (tl l i) ∧ (0 ≤ tl ws i ∧ tl ws i ≤ 5) ∧ (2 ≤ tl ws i → isM S (tl ws i - 2) ∧ oc S (tl l i) 2 ≤ 8 ∧ 1 ≤ oc S (tl l i) 0 - om S (tl ws i - 2) 0)) (hWb : ∀ i, i < l.length → (0 ≤ W (tl l i) (tl ws i) ∧ W (tl l i) (tl ws i) ≤ 40000) ∧ (tl ws i = 0 → W (tl l i) (tl ws i) = 0)) (h31 : gi B 57 31 = l.length) (h68 : ∀ i : Nat, i < l.length → ri B 68 i = tl l i) (h69 : ∀ i : Nat, i < l.length → tl ws i ≠ 0 → ri B 69 (6 * i + tl ws i) = W (tl l i) (tl ws i)) (h72 : ∀ i : Nat, i < l.length → ri B 72 i = tl ws i) :
    ∃ R, lp (uX10_pay_f9 57 b s m p) fu (0, 0, 0, (sh, B, J)) = some R ∧ ∃ B1, R = (gvn ws, vls W l ws, (sh, B1, J)) ∧ (∀ a, a ≠ 59 → B1 a = B a) ∧ E0 (ri B1 59) (rs S (tl l) (tl ws) b l.length) := by
  have vbd : ∀ i, i ≤ l.length → 0 ≤ vls W (l.take i) (ws.take i) ∧ vls W (l.take i) (ws.take i) ≤ 40000 * i := fun i => by
    induction i with
    | zero => intro _; exact ⟨by show (0 : Int) ≤ 0; decide, by show (0 : Int) ≤ _; omega⟩
    | succ i ih =>
      intro hi
      have := ih (by omega)
      have := (hWb i (by omega)).1
      rw [vls_tk (tl_at (l := l) (i := i) (by omega)) (tl_at (l := ws) (i := i) (by omega))]
      omega
  refine lp_fi (fun i y => ∃ B1, y = (gvn (ws.take i), vls W (l.take i) (ws.take i), (i : Int), (sh, B1, J)) ∧ (∀ a, a ≠ 59 → B1 a = B a) ∧ E0 (ri B1 59) (rs S (tl l) (tl ws) b i)) _ l.length ⟨B, rfl, fun _ _ => rfl, e⟩ ?_ (by omega)
  rintro i y hin ⟨B1, rfl, f, e1⟩
  have e31 : gi B1 57 31 = l.length := by rw [gi_fr (f 57 (by decide))]; exact h31
  simp only [uX10_pay_f9, uX10_pay_s9, SEg h, SEr h, SEa h, SEk h, SEj h, SEl h, SEp h, SEs h, bd_some, bd2_some, e31]
  by_cases hie : i = l.length
  · right
    subst hie
    refine ⟨_, by rw [if_pos (Int.le_refl _)], B1, ?_, f, e1⟩
    rw [List.take_length, List.take_of_length_le (by omega)]
  · left
    refine ⟨by omega, ?_⟩
    have e72 : ri B1 72 i = tl ws i := by rw [ri_of B B1 _ (f 72 (by decide))]; exact h72 i (by omega)
    have e68 : ri B1 68 i = tl l i := by rw [ri_of B B1 _ (f 68 (by decide))]; exact h68 i (by omega)
    obtain ⟨hc, xb, hx⟩ := hC i (by omega)
    have gt := gvn_tk (tl_at (l := ws) (i := i) (by omega))
    have vt := vls_tk (W := W) (tl_at (l := l) (i := i) (by omega)) (tl_at (l := ws) (i := i) (by omega))
    have gb := gvn_b (ws.take i)
    have gl_ : (ws.take i).length ≤ 12 := by rw [List.length_take]; omega
    have vb := vbd i (by omega)
    obtain ⟨wb, w0⟩ := hWb i (by omega)
    rw [if_neg (by omega)]
    simp (disch := omega) only [SEg h, SEr h, SEa h, SEk h, SEj h, SEl h, SEp h, SEs h, bd_some, bd2_some, e72]
    by_cases cx : tl ws i = 0
    · rw [if_pos cx]
      have er : rs S (tl l) (tl ws) b (i + 1) = rs S (tl l) (tl ws) b i := if_pos (by omega)
      rw [if_pos cx, Int.add_zero] at gt
      rw [w0 cx, Int.add_zero] at vt
      refine ⟨_, rfl, B1, ?_, f, by rw [er]; exact e1⟩
      rw [gt, vt]
      simp (disch := omega) only [w32_id, w64_id]; rfl
    · rw [if_neg cx]
      rw [if_neg cx] at gt
      have e69 : ri B1 69 (6 * i + tl ws i) = W (tl l i) (tl ws i) := by rw [ri_of B B1 _ (f 69 (by decide))]; exact h69 i (by omega) cx
      simp (disch := omega) only [SEg h, SEr h, SEa h, SEk h, SEj h, SEl h, SEp h, SEs h, bd_some, bd2_some, e72, w32_id, w64_id, e69]
      by_cases c1 : tl ws i ≤ 1
      · rw [if_pos c1]
        have er : rs S (tl l) (tl ws) b (i + 1) = rs S (tl l) (tl ws) b i := if_pos (by omega)
        refine ⟨_, rfl, B1, ?_, f, by rw [er]; exact e1⟩
        rw [gt, vt]; rfl
      · rw [if_neg c1]
        have er : rs S (tl l) (tl ws) b (i + 1) = stS (rs S (tl l) (tl ws) b i) (tl l i) b (tl ws i - 2) (-1) 0 := if_neg (by omega)
        have Hk := H i (by omega)
        obtain ⟨hc', hm', h8', -, -⟩ := rs_at Hk (by omega) hc (hx (by omega))
        have ks := StrK.ofI Hk.1 Hk.2.1 hc' hm' h8'
        have tb := hc.1
        have tb2 : tl l i < 40 := ks.2.2.1.2
        obtain ⟨B2, b1, b2, b3⟩ := rX_strike h J (I := B1) (c := tl l i) (w := b) (m := tl ws i - 2) (sale := -1) (f := 0) (ks.of e1) hb (by decide) (by decide)
        simp (disch := omega) only [SEg h, SEr h, SEa h, SEk h, SEj h, SEl h, SEp h, SEs h, bd_some, bd2_some, e68, e72, w32_id, w64_id, b1]
        refine ⟨_, rfl, B2, ?_, fun a q => by rw [b2 a q]; exact f a q, ?_⟩
        · rw [gt, vt]; rfl
        · rw [er]
          exact fun y hy => (b3 y hy).trans (stS_cong e1 tb hm'.1 y hy)
theorem r_hoL {sh : Sh} (h : St sh) {B : Mi} (J : Mj) {S : Int → Int} {t x : Nat → Int} {b w m p v5 v6 : Int} {n : Nat} (hn : n ≤ 12) (e : E0 (ri B 59) S) (hi : ∀ i, i ≤ (gl t x n).length → HsI S (tl (gl t x n)) w m (S 113) (gl t x n).length i) (hm : isM S m) (hw : rg w) (h13 : rg (S 113)) (ht : ∀ i, i < n → x i ≠ 0 → isC S (t i) ∧ oc S (t i) 2 ≤ 8) (h40 : S 108 ≤ 40) (h31 : gi B 57 31 = n) (h68 : ∀ i : Nat, i < n → ri B 68 i = t i) (h72 : ∀ i : Nat, i < n → ri B 72 i = x i) :
    ∃ R, lp (uX10_pay_f100 57 b w m p v5 v6) fu (0, (sh, B, J)) = some R ∧ ∃ B1, R = (sh, B1, J) ∧ (∀ a, a ≠ 59 → B1 a = B a) ∧ E0 (ri B1 59) (hs S (tl (gl t x n)) w m (S 113) (gl t x n).length) := by
  obtain ⟨tt, htt⟩ : ∃ tt, tt = tl (gl t x n) := ⟨_, rfl⟩
  obtain ⟨N, hN⟩ : ∃ N, N = (gl t x n).length := ⟨_, rfl⟩
  rw [← htt, ← hN] at hi ⊢
  refine lp_fi (fun i y => ∃ B1, y = ((i : Int), (sh, B1, J)) ∧ (∀ a, a ≠ 59 → B1 a = B a) ∧ E0 (ri B1 59) (hs S tt w m (S 113) (gl t x i).length)) _ n ⟨B, rfl, fun _ _ => rfl, e⟩ ?_ (by omega)
  rintro i y hin ⟨B1, rfl, f, e1⟩
  have e31 : gi B1 57 31 = n := by rw [gi_fr (f 57 (by decide))]; exact h31
  simp only [uX10_pay_f100, uX10_pay_s100, SEg h, SEr h, SEa h, SEk h, SEj h, SEl h, SEp h, SEs h, bd_some, bd2_some, e31]
  by_cases hie : i = n
  · right
    subst hie
    rw [← hN] at e1
    exact ⟨_, by rw [if_pos (Int.le_refl _)], B1, rfl, f, e1⟩
  · left
    refine ⟨by omega, ?_⟩
    have e72 : ri B1 72 i = x i := by rw [ri_of B B1 _ (f 72 (by decide))]; exact h72 i (by omega)
    have e68 : ri B1 68 i = t i := by rw [ri_of B B1 _ (f 68 (by decide))]; exact h68 i (by omega)
    rw [if_neg (by omega)]
    simp (disch := omega) only [SEg h, SEr h, SEa h, SEk h, SEj h, SEl h, SEp h, SEs h, bd_some, bd2_some, e72]
    by_cases cx : x i = 0
    · rw [if_pos cx]
      have eg : gl t x (i + 1) = gl t x i := if_pos cx
      refine ⟨_, rfl, B1, by simp (disch := omega) only [w32_id, w64_id]; rfl, f, ?_⟩
      rw [eg]; exact e1
    · rw [if_neg cx]
      have eg : (gl t x (i + 1)).length = (gl t x i).length + 1 := by
        show (if x i = 0 then gl t x i else gl t x i ++ [t i]).length = _
        rw [if_neg cx, List.length_append, List.length_singleton]
      obtain ⟨g1, g2⟩ := gl_tl (t := t) (x := x) (i := i) (n := n) (by omega) cx
      rw [← htt] at g1
      rw [← hN] at g2
      obtain ⟨g, hg⟩ : ∃ g, g = (gl t x i).length := ⟨_, rfl⟩
      rw [← hg] at eg g1 g2 e1
      obtain ⟨i0, i1, i2, i3, i4, i5, i6, i7, -⟩ := hi g (by omega)
      have hti := ht i (by omega) cx
      have eo := i6 g (Nat.le_refl _) g2
      rw [g1] at eo
      have hc' : isC (hs S tt w m (S 113) g) (t i) := by unfold isC; rw [i5]; exact hti.1
      have hm' : isM (hs S tt w m (S 113) g) m := by unfold isM; rw [i4 1 (by decide) (by decide)]; exact hm
      have h8' : oc (hs S tt w m (S 113) g) (t i) 2 ≤ 8 := by rw [eo 2 (by decide) (by decide)]; exact hti.2
      have ks := StrK.ofI i0 i1 hc' hm' h8'
      have c40 : 0 ≤ t i ∧ t i < 40 := by have := hti.1.1; have := hti.1.2; omega
      obtain ⟨Bs, B2, b1, b2, b3, b4, b5, b6⟩ := r_handOver h (B := B1) J (k := S 113) e1 ks hw h13
      have q68 : ri Bs 68 i = t i := by rw [ri_of B1 Bs _ (b3 68 (by decide))]; exact e68
      have e13 : ri B1 59 113 = S 113 := by rw [e1 _ (by decide)]; exact i7
      have eS : hs S tt w m (S 113) (g + 1) = hoS (hs S tt w m (S 113) g) (t i) w m (S 113) := by rw [← g1]; rfl
      simp (disch := omega) only [SEr h, SEa h, SEk h, bd_some, e68, q68, e13, b1, w32_id, w64_id, b2]
      refine ⟨_, rfl, B2, rfl, fun a ha => by rw [b4 a ha]; exact f a ha, ?_⟩
      rw [eg, eS]; exact b6
theorem r_pay {sh : Sh} (h : St sh) {B : Mi} (J : Mj) {S : Int → Int} (e : E0 (ri B 59) S) (v : InvL S) (u : InvC S) {b s m p : Int} (ok : Okp S b s m p) {G : Int → Int} (hG : G = fun c => oc S c 0) {W : Int → Int → Int} (hW : W = wvS S b s m (lkS S)) {l : List Int} (hL : l = lkL S b (S 108).toNat) {ws : List Int} (hY : WY G W l p ws) (hD : DU G W (us W l) p < 100000000) (hk : LkX S W B l) (h72 : ∀ (j : Nat) x, ws[j]? = some x → ri B 72 j = x) :
    ∃ B', uX10_pay 57 b s m p (sh, B, J) = some (sh, B', J) ∧ (∀ a, a ≠ 59 → B' a = B a) ∧ E0 (ri B' 59) (paS S W l ws b s m p) ∧ Lat S (paS S W l ws b s m p) := by
  obtain ⟨⟨l12, wl⟩, hC, RI, hF, ⟨hM', hW'⟩, HI, n1⟩ := payF v u ok hG hW hL hY hD
  have v0 := v.1
  have v1 := v.2.1
  have u0 := u.1
  have us := u.st
  have u4 := u.2.2.2.2.1
  have okW : OkW G W l := by
    have lb := lkL_b S b (S 108).toNat
    rw [← hL] at lb
    rw [hG, hW]; exact wvS_ok v u ok.1 ok.2.1 (lkS_b v) fun c hc => ⟨(lb.2.2 c hc).1, by have := (lb.2.2 c hc).2; omega⟩
  have gb := gvn_b ws
  have vb := vls_b (ws := ws) okW
  have hb1 := ok.1.1
  have hb2 := ok.1.2
  have hs1 := ok.2.1.1
  have hs2 := ok.2.1.2
  have hm1 := ok.2.2.1.1
  have hm2 := ok.2.2.1.2
  have hp := ok.2.2.2.1
  have hWb : ∀ i, i < l.length → (0 ≤ W (tl l i) (tl ws i) ∧ W (tl l i) (tl ws i) ≤ 40000) ∧ (tl ws i = 0 → W (tl l i) (tl ws i) = 0) := fun i hi => by
    have := okW _ (List.mem_of_getElem? (tl_at (l := l) hi))
    exact ⟨this.2.1 _, fun q => by rw [q]; exact this.2.2⟩
  have t72 : ∀ i : Nat, i < l.length → ri B 72 i = tl ws i := fun i hi => h72 i _ (tl_at (by omega))
  have t68 : ∀ i : Nat, i < l.length → ri B 68 i = tl l i := fun i hi => (hk.2 i _ (tl_at hi)).1
  have t69 : ∀ i : Nat, i < l.length → tl ws i ≠ 0 → ri B 69 (6 * i + tl ws i) = W (tl l i) (tl ws i) := fun i hi hz => by
    have xb := (hC i hi).2
    refine (hk.2 i _ (tl_at hi)).2 _ (by omega) ?_
    by_cases z : 2 ≤ tl ws i
    · have := (xb.2 z).1.2; omega
    · omega
  obtain ⟨_, s1, B1, rfl, f1, e1⟩ := r_reL h J (S := S) (W := W) (b := b) (s := s) (m := m) (p := p) l12 wl (by omega) e RI hC hWb hk.1 t68 t69 t72
  have Rn := RI l.length (Nat.le_refl _)
  obtain ⟨n0, n1', n2, n3, n4, n5, n6, n7, n8, n9, n10⟩ := Rn
  obtain ⟨S', hS'⟩ : ∃ S', S' = paR S l ws b := ⟨_, rfl⟩
  have eS' : rs S (tl l) (tl ws) b l.length = S' := hS'.symm
  rw [eS'] at e1 n0 n1' n2 n3 n4 n5 n6 n7 n8 n9 n10
  rw [← hS'] at hF hM' hW' HI
  have y0 := n1'.1
  have ys := n1'.st
  have y4 := n1'.2.2.2.2.1
  rw [← n7] at HI
  obtain ⟨_, l1, B2, rfl, f2, e2⟩ := r_hoL h (B := B1) J (t := tl l) (x := tl ws) (n := l.length) (b := b) (w := s) (m := m) (p := p) (v5 := gvn ws) (v6 := vls W l ws) l12 e1 HI hM' (by omega) (by omega) hF y0.2 (by rw [gi_fr (f1 57 (by decide))]; exact hk.1) (fun i hi => by rw [ri_of B B1 _ (f1 68 (by decide))]; exact t68 i hi) (fun i hi => by rw [ri_of B B1 _ (f1 72 (by decide))]; exact t72 i hi)
  have Hn := HI (paG l ws).length (Nat.le_refl _)
  obtain ⟨B3, k1, k2, k3⟩ := rX_keepSale h (B := B2) J (b := b) (s := s) (m := m) (p := p) (n := gvn ws) (v := vls W l ws) e2 (by rw [show hs S' (tl (gl (tl l) (tl ws) l.length)) s m (S' 113) (gl (tl l) (tl ws) l.length).length 113 = S' 113 from Hn.2.2.2.2.2.2.2.1]; omega) (by omega) (by omega) (by omega) (by omega) (by omega) (by omega)
  have ep : paS S W l ws b s m p = salS (hs S' (tl (paG l ws)) s m (S' 113) (paG l ws).length) b s m p (gvn ws) (vls W l ws) := by
    unfold paS paH; rw [← hS', n7]
  refine ⟨B3, ?_, fun a q => by rw [k2 a q, f2 a q, f1 a q], ?_, ?_⟩
  · simp only [uX10_pay, uX10_pay_b9, s1, bd_some, uX10_pay_c9, uX10_pay_b97, uX10_pay_b100, l1, uX10_pay_c100, uX10_pay_b170, SEg h, SEr h, SEa h, SEk h, SEj h, SEl h, SEp h, SEs h, bd_some, bd2_some, k1]
  · rw [ep]; exact k3
  · rw [ep]; exact n2.trans (Hn.2.2.1.trans (salS_Lat Hn.2.1))
