theorem us_tk {W : Int → Int → Int} {l : List Int} {j : Nat} {c : Int} (h : l[j]? = some c) : us W (l.take (j + 1)) = us W (l.take j) ++ (if 0 < mx W c then [c] else []) := by
  rw [List.take_add_one, h]
  unfold us
  rw [List.filter_append]
  by_cases q : 0 < mx W c
  · rw [if_pos q]; simp [q]
  · rw [if_neg q]; simp [q]
theorem us_lt {W : Int → Int → Int} {l : List Int} {j k : Nat} {c : Int} (h : l[j]? = some c) (hm : 0 < mx W c) (hk : j < k) : (us W (l.take j)).length < (us W (l.take k)).length := by
  have e : l.take k = l.take (j + 1) ++ (l.take k).drop (j + 1) := by
    have := (List.take_append_drop (j + 1) (l.take k)).symm
    rw [List.take_take, Nat.min_eq_left (by omega)] at this
    exact this
  have e2 : us W (l.take k) = us W (l.take (j + 1)) ++ us W ((l.take k).drop (j + 1)) := by
    conv => lhs; rw [e]
    exact List.filter_append ..
  rw [e2, us_tk h, if_pos hm]
  simp only [List.length_append, List.length_singleton]
  omega
theorem us_pos {W : Int → Int → Int} : ∀ {l : List Int} {u : Nat} {c : Int} {t : List Int}, (us W l).drop u = c :: t → ∃ j t', l.drop j = c :: t' ∧ us W t' = t ∧ 0 < mx W c ∧ (us W (l.take j)).length = u
  | [], u, c, t, h => by
    have : ([] : List Int).drop u = c :: t := h
    rw [List.drop_nil] at this; cases this
  | a :: l, u, c, t, h => by
    by_cases q : 0 < mx W a
    · rw [us_c l q] at h
      cases u with
      | zero =>
        rw [List.drop_zero] at h
        cases h
        exact ⟨0, l, rfl, rfl, q, rfl⟩
      | succ u =>
        rw [List.drop_succ_cons] at h
        obtain ⟨j, t', h1, h2, h3, h4⟩ := us_pos h
        refine ⟨j + 1, t', by rw [List.drop_succ_cons]; exact h1, h2, h3, ?_⟩
        rw [List.take_succ_cons, us_c _ q, List.length_cons, h4]
    · rw [us_n l q] at h
      obtain ⟨j, t', h1, h2, h3, h4⟩ := us_pos h
      refine ⟨j + 1, t', by rw [List.drop_succ_cons]; exact h1, h2, h3, ?_⟩
      rw [List.take_succ_cons, us_n _ q, h4]
theorem get_dr {l : List Int} {i : Nat} {c : Int} {t : List Int} (h : l.drop i = c :: t) : l[i]? = some c := by
  have := List.getElem?_drop (xs := l) (i := i) (j := 0)
  rw [h, Nat.add_zero] at this
  exact this.symm
theorem us_at {W : Int → Int → Int} {l : List Int} {i u : Nat} {c : Int} {t : List Int} (h : l.drop i = c :: t) (hm : 0 < mx W c) (hd : (us W l).drop u = c :: us W t) : (us W (l.take i)).length = u := by
  have e : us W l = us W (l.take i) ++ us W (c :: t) := by
    conv => lhs; rw [← List.take_append_drop i l, h]
    exact List.filter_append ..
  have h2 := (drop_1 hd).2
  rw [us_c _ hm] at e
  have e2 := congrArg List.length e
  rw [List.length_append, List.length_cons] at e2
  omega
theorem vls_b {G : Int → Int} {W : Int → Int → Int} : ∀ {l ws : List Int}, OkW G W l → 0 ≤ vls W l ws ∧ vls W l ws ≤ 40000 * l.length
  | [], ws, h => by
    have e : vls W [] ws = 0 := by cases ws <;> rfl
    rw [e, List.length_nil]; omega
  | c :: t, [], h => ⟨by show (0 : Int) ≤ 0; decide, by show (0 : Int) ≤ _; omega⟩
  | c :: t, x :: r, h => by
    have ih := vls_b (ws := r) h.tl
    have hc := h.hd.2.1 x
    show 0 ≤ W c x + vls W t r ∧ W c x + vls W t r ≤ _
    rw [List.length_cons]
    omega
/-- behind k turns of find's loop -/
def PkR (G : Int → Int) (W : Int → Int → Int) (l : List Int) (I I1 : Mi) (k : Nat) : Prop := ((∀ a, a ≠ 44 → a ≠ 46 → a ≠ 47 → a ≠ 48 → a ≠ 49 → a ≠ 50 → I1 a = I a) ∧ ∀ j, j ≠ 4 → I1 44 j = I 44 j) ∧ gi I1 44 4 = (us W (l.take k)).length ∧ ∀ (j : Nat) c, j < k → l[j]? = some c → ri I1 46 j = 0 ∧ (∀ h, 1 ≤ h → h ≤ 5 → ri I1 47 (j * 6 + h) = W c h) ∧ (0 < mx W c → ri I1 48 (us W (l.take j)).length = j ∧ ri I1 49 (us W (l.take j)).length = G c ∧ ri I1 50 (us W (l.take j)).length = mx W c)
theorem c_findL {sh : Sh} (h : St sh) {I : Mi} {S nm : Int → Int} (r : RepC I S nm) (J : Mj) {b s m : Int} (hb : isW S b) (hs : isW S s) (hm : isM S m) {l : List Int} (hl : l.length ≤ 12) (hC : ∀ c ∈ l, isC S c) (h0 : gi I 44 0 = l.length) (h4 : gi I 44 4 = 0) (h45 : ∀ (i : Nat) c, l[i]? = some c → ri I 45 i = c) (v5 : Int) : ∃ I1, lp (uX0_find_f30 44 16 s m v5 (lkS S) (hunS S s b (lkS S))) fu (0, (sh, I, J)) = some (sh, I1, J) ∧ PkR (fun c => oc S c 0) (wvS S b s m (lkS S)) l I I1 l.length := by
  have hk := lkS_b r.iL
  have ok := wvS_ok (m := m) r.iL r.iC hb hs hk hC
  obtain ⟨W, hW⟩ : ∃ W, W = wvS S b s m (lkS S) := ⟨_, rfl⟩
  obtain ⟨bb, hbb, I1, hI1, hP1⟩ := lp_fi (f := uX0_find_f30 44 16 s m v5 (lkS S) (hunS S s b (lkS S))) (x := (0, (sh, I, J))) (fun k y => ∃ I1, y = ((k : Int), (sh, I1, J)) ∧ PkR (fun c => oc S c 0) W l I I1 k) (fun bb => ∃ I1, bb = (sh, I1, J) ∧ PkR (fun c => oc S c 0) W l I I1 l.length) l.length
    ⟨I, rfl, ⟨fun _ _ _ _ _ _ _ => rfl, fun _ _ => rfl⟩, by rw [h4]; rfl, fun j c q => by omega⟩ (fun k y hk ⟨I1, hy, hf, hn, hd⟩ => by
      subst hy
      have e0 : gi I1 44 0 = l.length := by rw [gi_fk (hf.2 0 (by decide))]; exact h0
      simp only [uX0_find_f30, uX0_find_s30, SEg h, SEr h, SEa h, SEk h, SEj h, SEl h, SEp h, SEs h, bd_some, bd2_some, e0]
      by_cases ck : k = l.length
      · right
        exact ⟨_, by rw [if_pos (by omega)], I1, rfl, by rw [← ck]; exact ⟨hf, hn, hd⟩⟩
      · left
        refine ⟨by omega, ?_⟩
        rw [if_neg (by omega)]
        obtain ⟨c, hc⟩ : ∃ c, l[k]? = some c := ⟨_, List.getElem?_eq_getElem (by omega)⟩
        have hcC : isC S c := hC c (List.mem_of_getElem? hc)
        have hWc : ∀ q, 0 ≤ W c q ∧ W c q ≤ 40000 := fun q => by rw [hW]; exact (ok c (List.mem_of_getElem? hc)).2.1 q
        obtain ⟨I2, hI2⟩ : ∃ I2, I2 = we I1 46 k 0 := ⟨_, rfl⟩
        have f2 : ∀ a, a ≠ 46 → I2 a = I1 a := fun a q => by rw [hI2, we_at _ _ _ q]
        have r2 : RepC I2 S nm := r.fr fun a _ _ => by rw [f2 a (by omega)]; exact hf.1 a (by omega) (by omega) (by omega) (by omega) (by omega) (by omega)
        have a45 : ri I2 45 k = c := by rw [ri_of I I2 _ (by rw [f2 45 (by decide)]; exact hf.1 45 (by decide) (by decide) (by decide) (by decide) (by decide) (by decide))]; exact h45 k c hc
        have st3 := c_apprG h r2 J hb hs hm (lkS_b r.iL) hcC (i := k) (by omega) a45
        obtain ⟨I3, hI3⟩ : ∃ I3, I3 = we I2 47 (k * 6 + 1) (W c 1) := ⟨_, rfl⟩
        rw [← hW, ← hI3] at st3
        have f3 : ∀ a, a ≠ 47 → I3 a = I2 a := fun a q => by rw [hI3, we_at _ _ _ q]
        have r3 : RepC I3 S nm := r2.fr fun a _ _ => f3 a (by omega)
        have b45 : ri I3 45 k = c := by rw [ri_of I2 I3 _ (f3 45 (by decide))]; exact a45
        obtain ⟨I4, st4, f4, d4⟩ := c_apprS h r3 J hb hs hm (lkS_b r.iL) hcC (i := k) (by omega) b45
        rw [← hW] at d4
        have r4 : RepC I4 S nm := r3.fr fun a _ _ => f4 a (by omega)
        have c45 : ri I4 45 k = c := by rw [ri_of I3 I4 _ (f4 45 (by decide))]; exact b45
        have d3 : ∀ x : Int, 0 ≤ x → ri I3 47 x = if x = k * 6 + 1 then W c 1 else ri I1 47 x := fun x hx => by
          have := hWc 1
          rw [hI3, ri_we _ _ _ _ (by omega) (by omega), w32_id (by omega) (by omega), ri_of I1 I2 _ (f2 47 (by decide))]
          by_cases z : x = k * 6 + 1
          · rw [if_pos ⟨rfl, by omega⟩, if_pos z]
          · rw [if_neg (by omega), if_neg z]
        have g47 : ∀ q, 1 ≤ q → q ≤ 5 → ri I4 47 (k * 6 + q) = W c q := fun q q1 q5 => by
          rw [d4 _ (by omega)]
          by_cases z : q = 1
          · subst z
            rw [if_neg (by omega), d3 _ (by omega), if_pos rfl]
          · rw [if_pos (by omega)]
            congr 1; omega
        have o47 : ∀ x : Int, 0 ≤ x → x < k * 6 → ri I4 47 x = ri I1 47 x := fun x x0 x1 => by
          rw [d4 _ x0, if_neg (by omega), d3 _ x0, if_neg (by omega)]
        have s4 : ∀ a, a ≠ 46 → a ≠ 47 → I4 a = I1 a := fun a q1 q2 => by rw [f4 a q2, f3 a q2, f2 a q1]
        have hn4 : gi I4 44 4 = (us W (l.take k)).length := by rw [gi_fr (s4 44 (by decide) (by decide))]; exact hn
        have hln : (us W (l.take k)).length ≤ k := by
          have := us_len W (l.take k)
          rw [List.length_take] at this
          omega
        obtain ⟨I5, st5, f5, n5, o5, u5⟩ := c_noteU h r4 J hcC (i := k) (by omega) hln hn4 c45 g47 hWc
        simp (disch := omega) only [SEg h, SEr h, SEa h, SEk h, SEj h, SEl h, SEp h, SEs h, bd_some, bd2_some, w32_id, w64_id, ← hI2, st3, st4, st5]
        refine ⟨_, rfl, I5, rfl, ⟨fun a a1 a2 a3 a4 a5 a6 => by rw [f5.1 a a1 a4 a5 a6, s4 a a2 a3]; exact hf.1 a a1 a2 a3 a4 a5 a6, fun j hj => by rw [f5.2 j hj, s4 44 (by decide) (by decide)]; exact hf.2 j hj⟩, ?_, fun j c' hj hc' => ?_⟩
        · rw [n5, us_tk hc, List.length_append]
          by_cases z : 0 < mx W c
          · rw [if_pos z, if_pos z, List.length_singleton]; rfl
          · rw [if_neg z, if_neg z]; rfl
        · have w46 : ri I5 46 j = if j = k then 0 else ri I1 46 j := by
            rw [ri_of I4 I5 _ (f5.1 46 (by decide) (by decide) (by decide) (by decide)), ri_of I3 I4 _ (f4 46 (by decide)), ri_of I2 I3 _ (f3 46 (by decide)), hI2, ri_we _ _ _ _ (by omega) (by omega), w32_id (by omega) (by omega)]
            by_cases z : j = k
            · rw [if_pos ⟨rfl, by omega⟩, if_pos z]
            · rw [if_neg (by omega), if_neg z]
          have w47 : ∀ x : Int, ri I5 47 x = ri I4 47 x := fun x => ri_of I4 I5 _ (f5.1 47 (by decide) (by decide) (by decide) (by decide))
          by_cases z : j = k
          · subst z
            rw [hc] at hc'
            cases hc'
            rw [w46, if_pos rfl]
            exact ⟨rfl, fun q q1 q5 => by rw [w47]; exact g47 q q1 q5, u5⟩
          · obtain ⟨p1, p2, p3⟩ := hd j c' (by omega) hc'
            rw [w46, if_neg z]
            refine ⟨p1, fun q q1 q5 => by rw [w47, o47 _ (by omega) (by omega)]; exact p2 q q1 q5, fun hm' => ?_⟩
            have lt := us_lt (k := k) hc' hm' (by omega)
            obtain ⟨o1, o2, o3⟩ := o5 _ lt
            rw [o1, o2, o3, ri_of I1 I4 _ (s4 48 (by decide) (by decide)), ri_of I1 I4 _ (s4 49 (by decide) (by decide)), ri_of I1 I4 _ (s4 50 (by decide) (by decide))]
            exact p3 hm') (by omega)
  subst hI1
  exact ⟨I1, hbb, by rw [← hW]; exact hP1⟩
