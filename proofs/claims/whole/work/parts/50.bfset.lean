def tl (l : List Int) (i : Nat) : Int := (l[i]?).getD 0
theorem tl_at {l : List Int} {i : Nat} (h : i < l.length) : l[i]? = some (tl l i) := by
  unfold tl; rw [List.getElem?_eq_getElem h]; rfl
theorem tl_of {l : List Int} {i : Nat} {c : Int} (h : l[i]? = some c) : tl l i = c := by unfold tl; rw [h]; rfl
/-- the COINS that are given -/
def gl (t x : Nat → Int) : Nat → List Int
  | 0 => []
  | i + 1 => if x i = 0 then gl t x i else gl t x i ++ [t i]
theorem gl_mono (t x : Nat → Int) (i : Nat) : ∀ d, (gl t x i).length ≤ (gl t x (i + d)).length
  | 0 => Nat.le_refl _
  | d + 1 => by
    have ih := gl_mono t x i d
    show _ ≤ (if x (i + d) = 0 then gl t x (i + d) else gl t x (i + d) ++ [t (i + d)]).length
    split
    · exact ih
    · rw [List.length_append]; omega
theorem gl_le (t x : Nat → Int) : ∀ n, (gl t x n).length ≤ n
  | 0 => Nat.le_refl _
  | n + 1 => by
    have ih := gl_le t x n
    show (if x n = 0 then gl t x n else gl t x n ++ [t n]).length ≤ _
    split
    · omega
    · rw [List.length_append, List.length_singleton]; omega
theorem gl_at {t x : Nat → Int} {i : Nat} (hx : x i ≠ 0) : ∀ d, (gl t x (i + 1 + d))[(gl t x i).length]? = some (t i)
  | 0 => by
    show (if x i = 0 then gl t x i else gl t x i ++ [t i])[_]? = _
    rw [if_neg hx, List.getElem?_append_right (Nat.le_refl _), Nat.sub_self]; rfl
  | d + 1 => by
    have ih := gl_at (t := t) hx d
    have lt := (List.getElem?_eq_some_iff.mp ih).1
    show (if x (i + 1 + d) = 0 then gl t x (i + 1 + d) else gl t x (i + 1 + d) ++ [t (i + 1 + d)])[_]? = _
    split
    · exact ih
    · rw [List.getElem?_append_left lt]; exact ih
theorem gl_pos {t x : Nat → Int} : ∀ {n j : Nat}, j < (gl t x n).length → ∃ i, i < n ∧ x i ≠ 0 ∧ (gl t x i).length = j
  | 0, j, h => by cases h
  | n + 1, j, h => by
    by_cases cx : x n = 0
    · have e : gl t x (n + 1) = gl t x n := if_pos cx
      rw [e] at h
      obtain ⟨i, h1, h2, h3⟩ := gl_pos h
      exact ⟨i, by omega, h2, h3⟩
    · have e : gl t x (n + 1) = gl t x n ++ [t n] := if_neg cx
      rw [e, List.length_append, List.length_singleton] at h
      by_cases z : j = (gl t x n).length
      · exact ⟨n, by omega, cx, z.symm⟩
      · obtain ⟨i, h1, h2, h3⟩ := gl_pos (t := t) (x := x) (n := n) (j := j) (by omega)
        exact ⟨i, by omega, h2, h3⟩
theorem gl_tl {t x : Nat → Int} {i n : Nat} (hi : i < n) (hx : x i ≠ 0) : tl (gl t x n) (gl t x i).length = t i ∧ (gl t x i).length < (gl t x n).length := by
  have := gl_at (t := t) hx (n - i - 1)
  rw [show i + 1 + (n - i - 1) = n from by omega] at this
  exact ⟨tl_of this, (List.getElem?_eq_some_iff.mp this).1⟩
theorem gvn_tk : ∀ {ws : List Int} {k : Nat} {x : Int}, ws[k]? = some x → gvn (ws.take (k + 1)) = gvn (ws.take k) + (if x = 0 then 0 else 1)
  | [], k, x, h => by cases h
  | y :: r, 0, x, h => by
    have e : y = x := by simpa using h
    subst e
    show (if y = 0 then (0 : Int) else 1) + gvn (r.take 0) = gvn [] + _
    rw [List.take_zero]
    show _ + (0 : Int) = 0 + _
    omega
  | y :: r, k + 1, x, h => by
    have ih := gvn_tk (ws := r) (k := k) (x := x) h
    show (if y = 0 then (0 : Int) else 1) + gvn (r.take (k + 1)) = (if y = 0 then (0 : Int) else 1) + gvn (r.take k) + _
    rw [ih]; omega
theorem vls_tk {W : Int → Int → Int} : ∀ {l ws : List Int} {k : Nat} {c x : Int}, l[k]? = some c → ws[k]? = some x → vls W (l.take (k + 1)) (ws.take (k + 1)) = vls W (l.take k) (ws.take k) + W c x
  | [], _, k, c, x, h, _ => by cases h
  | _ :: _, [], k, c, x, _, h => by cases h
  | d :: t, y :: r, 0, c, x, h, h2 => by
    have e : d = c := by simpa using h
    have e2 : y = x := by simpa using h2
    subst e
    subst e2
    show W d y + vls W (t.take 0) (r.take 0) = vls W [] [] + _
    rw [List.take_zero, List.take_zero]
    show _ + (0 : Int) = 0 + _
    omega
  | d :: t, y :: r, k + 1, c, x, h, h2 => by
    have ih := vls_tk (W := W) (l := t) (ws := r) (k := k) (c := c) (x := x) h h2
    show W d y + vls W (t.take (k + 1)) (r.take (k + 1)) = W d y + vls W (t.take k) (r.take k) + _
    rw [ih]; omega
theorem gvn_b : ∀ ws : List Int, 0 ≤ gvn ws ∧ gvn ws ≤ ws.length
  | [] => ⟨by decide, by decide⟩
  | y :: r => by
    have := gvn_b r
    show 0 ≤ (if y = 0 then (0 : Int) else 1) + gvn r ∧ (if y = 0 then (0 : Int) else 1) + gvn r ≤ _
    rw [List.length_cons]
    split <;> omega
theorem WY_at {G : Int → Int} {W : Int → Int → Int} : ∀ {l : List Int} {p : Int} {ws : List Int}, OkW G W l → WY G W l p ws → ∀ (i : Nat) c x, l[i]? = some c → ws[i]? = some x → x = 0 ∨ 0 < W c x
  | [], p, ws, ho, h, i, c, x, h1, h2 => by cases h1
  | d :: t, p, ws, ho, h, i, c, x, h1, h2 => by
    obtain ⟨y, r, e, hF, hY⟩ := h
    subst e
    cases i with
    | zero =>
      have e : d = c := by simpa using h1
      have e2 : y = x := by simpa using h2
      subst e
      subst e2
      exact cst_far ho hF
    | succ i => exact WY_at ho.tl hY i c x h1 h2
theorem WY_0 {G : Int → Int} {W : Int → Int → Int} : ∀ {l : List Int} {p : Int} {ws : List Int}, OkW G W l → WY G W l p ws → (∀ x ∈ ws, x = 0) → DU G W (us W l) p = DU G W [] p
  | [], p, ws, ho, h, hz => rfl
  | d :: t, p, ws, ho, h, hz => by
    obtain ⟨y, r, e, hF, hY⟩ := h
    subst e
    have y0 := hz y (List.mem_cons_self ..)
    subst y0
    rw [ho.hd.2.2, Int.sub_zero] at hY
    have ih := WY_0 ho.tl hY fun x hx => hz x (List.mem_cons_of_mem _ hx)
    rw [← hF.2.1]
    unfold cst
    rw [if_pos rfl, ih]
/-- the state behind a payment -/
def paR (S : Int → Int) (l ws : List Int) (b : Int) : Int → Int := rs S (tl l) (tl ws) b l.length
def paG (l ws : List Int) : List Int := gl (tl l) (tl ws) l.length
def paH (S : Int → Int) (l ws : List Int) (b s m : Int) : Int → Int := hs (paR S l ws b) (tl (paG l ws)) s m (S 113) (paG l ws).length
def paS (S : Int → Int) (W : Int → Int → Int) (l ws : List Int) (b s m p : Int) : Int → Int := salS (paH S l ws b s m) b s m p (gvn ws) (vls W l ws)
theorem wvS_st {S : Int → Int} (v : InvL S) {b s m lk c x : Int} (h : 0 < wvS S b s m lk c x) : (x = 1 ∧ oc S c 2 ≤ 8 ∧ 1 ≤ oc S c 0 - om S m 0) ∨ (2 ≤ x ∧ isM S (x - 2) ∧ oc S c 2 ≤ 7 ∧ 1 ≤ oc S c 0 - om S (x - 2) 0 ∧ 1 ≤ oc S c 0 - om S (x - 2) 0 - om S m 0) := by
  have v5 := v.2.2.2.2.2.1
  have v6 := v.2.2.2.2.2.2.1
  unfold wvS at h
  split at h
  · split at h
    · rename_i z1 z2
      have := wrS_0 z2
      left; omega
    · omega
  · split at h
    · split at h
      · split at h
        · rename_i z1 z2 z3 z4
          have := wrS_0 z3
          have := wrS_0 z4
          have hM : isM S (x - 2) := ⟨by omega, by omega⟩
          right
          exact ⟨by omega, hM, by omega, by omega, by omega⟩
        · omega
      · omega
    · omega
/-- what a payment's COINS are fit for -/
theorem payF {S : Int → Int} (v : InvL S) (u : InvC S) {b s m p : Int} (ok : Okp S b s m p) {G : Int → Int} (hG : G = fun c => oc S c 0) {W : Int → Int → Int} (hW : W = wvS S b s m (lkS S)) {l : List Int} (hL : l = lkL S b (S 108).toNat) {ws : List Int} (hY : WY G W l p ws) (hD : DU G W (us W l) p < 100000000) :
    (l.length ≤ 12 ∧ ws.length = l.length) ∧ (∀ i, i < l.length → isC S (tl l i) ∧ (0 ≤ tl ws i ∧ tl ws i ≤ 5) ∧ (2 ≤ tl ws i → isM S (tl ws i - 2) ∧ oc S (tl l i) 2 ≤ 8 ∧ 1 ≤ oc S (tl l i) 0 - om S (tl ws i - 2) 0)) ∧ (∀ i, i ≤ l.length → RsI S (tl l) (tl ws) b l.length i) ∧ (∀ i, i < l.length → tl ws i ≠ 0 → isC (paR S l ws b) (tl l i) ∧ oc (paR S l ws b) (tl l i) 2 ≤ 8) ∧ (isM (paR S l ws b) m ∧ isW (paR S l ws b) s) ∧ (∀ i, i ≤ (paG l ws).length → HsI (paR S l ws b) (tl (paG l ws)) s m (S 113) (paG l ws).length i) ∧ 1 ≤ (paG l ws).length := by
  have lb := lkL_b S b (S 108).toNat
  rw [← hL] at lb
  have lp_ := lkL_p S b (S 108).toNat
  rw [← hL] at lp_
  have u0 := u.1
  have hC : ∀ c ∈ l, isC S c := fun c hc => ⟨(lb.2.2 c hc).1, by have := (lb.2.2 c hc).2; omega⟩
  have okW : OkW G W l := by rw [hG, hW]; exact wvS_ok v u ok.1 ok.2.1 (lkS_b v) hC
  obtain ⟨wl, wb⟩ := WY_bd hY
  have at_ : ∀ i, i < l.length → tl ws i = 0 ∨ 0 < wvS S b s m (lkS S) (tl l i) (tl ws i) := fun i hi => by
    have := WY_at okW hY i _ _ (tl_at hi) (tl_at (by omega))
    rwa [hW] at this
  have hx : ∀ i, i < l.length → 2 ≤ tl ws i → isM S (tl ws i - 2) ∧ oc S (tl l i) 2 ≤ 8 ∧ 1 ≤ oc S (tl l i) 0 - om S (tl ws i - 2) 0 := fun i hi h2 => by
    rcases at_ i hi with q | q
    · omega
    · rcases wvS_st v q with z | z
      · omega
      · exact ⟨z.2.1, by omega, z.2.2.2.1⟩
  have tC : ∀ i, i < l.length → isC S (tl l i) := fun i hi => hC _ (List.mem_of_getElem? (tl_at hi))
  have dis : ∀ i j, i < j → j < l.length → tl l i ≠ tl l j := fun i j h1 h2 => by
    have := List.pairwise_iff_getElem.mp lp_ i j (by omega) h2 h1
    have e1 := tl_at (l := l) (i := i) (by omega)
    have e2 := tl_at (l := l) (i := j) h2
    rw [List.getElem?_eq_getElem (by omega)] at e1
    rw [List.getElem?_eq_getElem h2] at e2
    injection e1 with e1
    injection e2 with e2
    omega
  have RI := rs_inv v u ok.1 tC hx dis
  have Rn := RI l.length (Nat.le_refl _)
  obtain ⟨n0, n1, n2, n3, n4, n5, n6, n7, n8, n9, n10⟩ := Rn
  have v1 := v.2.1
  have hm := ok.2.2.1
  have hM' : isM (paR S l ws b) m := by unfold isM; rw [show paR S l ws b 1 = S 1 from n4 1 (by decide) (by decide)]; exact hm
  have hW' : isW (paR S l ws b) s := by unfold isW; rw [show paR S l ws b 0 = S 0 from n4 0 (by decide) (by decide)]; exact ok.2.1
  have em : om (paR S l ws b) m 0 = om S m 0 := n4 _ (by have := hm.1; omega) (by have := hm.2; omega)
  have fit : ∀ i, i < l.length → tl ws i ≠ 0 → isC (paR S l ws b) (tl l i) ∧ oc (paR S l ws b) (tl l i) 2 ≤ 8 ∧ 1 ≤ oc (paR S l ws b) (tl l i) 0 - om (paR S l ws b) m 0 := fun i hi hz => by
    have wbi := wb _ (List.mem_of_getElem? (tl_at (l := ws) (i := i) (by omega)))
    have hc : isC (paR S l ws b) (tl l i) := by unfold isC; rw [show paR S l ws b 108 = S 108 from n5]; exact tC i hi
    rw [em]
    have nn := n10 i hi
    rcases wvS_st v ((at_ i hi).resolve_left hz) with z | z
    · obtain ⟨q1, q2⟩ := nn.1 (by omega)
      exact ⟨hc, by show oc (rs _ _ _ _ _) _ _ ≤ _; omega, by show 1 ≤ oc (rs _ _ _ _ _) _ _ - _; omega⟩
    · obtain ⟨q1, q2⟩ := nn.2 z.1
      exact ⟨hc, by show oc (rs _ _ _ _ _) _ _ ≤ _; omega, by show 1 ≤ oc (rs _ _ _ _ _) _ _ - _; omega⟩
  have hg : ∀ j, j < (paG l ws).length → ∃ i, i < l.length ∧ tl ws i ≠ 0 ∧ (gl (tl l) (tl ws) i).length = j ∧ tl (paG l ws) j = tl l i := fun j hj => by
    obtain ⟨i, h1, h2, h3⟩ := gl_pos hj
    exact ⟨i, h1, h2, h3, by rw [← h3]; exact (gl_tl h1 h2).1⟩
  refine ⟨⟨lb.1, wl⟩, fun i hi => ⟨tC i hi, wb _ (List.mem_of_getElem? (tl_at (l := ws) (i := i) (by omega))), hx i hi⟩, RI, fun i hi hz => ⟨(fit i hi hz).1, (fit i hi hz).2.1⟩, ⟨hM', hW'⟩, hs_inv n0 n1 hM' hW' (fun j hj => ?_) (fun j k hjk hk => ?_), ?_⟩
  · obtain ⟨i, h1, h2, -, h4⟩ := hg j hj
    rw [h4]; exact fit i h1 h2
  · obtain ⟨i, h1, h2, h3, h4⟩ := hg j (by omega)
    obtain ⟨i', h1', h2', h3', h4'⟩ := hg k hk
    rw [h4, h4']
    refine dis i i' ?_ h1'
    apply Classical.byContradiction
    intro q
    have := gl_mono (tl l) (tl ws) i' (i - i')
    rw [show i' + (i - i') = i from by omega] at this
    omega
  · apply Classical.byContradiction
    intro q
    have z : ∀ x ∈ ws, x = 0 := fun x hx => by
      obtain ⟨i, hi, e⟩ := List.getElem_of_mem hx
      have e2 : tl ws i = x := tl_of (by rw [List.getElem?_eq_getElem hi, e])
      apply Classical.byContradiction
      intro hz
      have := (gl_tl (t := tl l) (x := tl ws) (i := i) (n := l.length) (by omega) (by rw [e2]; exact hz)).2
      exact q (by unfold paG; omega)
    have e := WY_0 okW hY z
    have e2 : DU G W [] p = if p ≤ 0 then 0 else 100000000 := rfl
    have := ok.2.2.2.1
    rw [if_neg (by omega)] at e2
    omega
