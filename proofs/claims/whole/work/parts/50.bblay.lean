theorem r_first {sh : Sh} (h : St sh) {I : Mi} (J : Mj) {G : Int → Int} {W : Int → Int → Int} {c : Int} {t : List Int} {i : Nat} {P p x v4 : Int} (v1 : 0 ≤ ri I 59 1 ∧ ri I 59 1 ≤ 4) (hi : i < 12) (ho : OkW G W (c :: t)) (hP : P ≤ 2000) (hc : 0 ≤ c ∧ c < 40) (hG : G c = oc (ri I 59) c 0) (h68 : ri I 68 i = c) (h69 : ∀ x, 1 ≤ x → x < 2 + ri I 59 1 → ri I 69 (6 * i + x) = W c x) (hW : ∀ x, 2 + ri I 59 1 ≤ x → W c x = 0) (h70 : ∀ q, 0 ≤ q → q ≤ P → ri I 70 (2001 * (i + 1) + q) = DU G W (us W t) q) (h71 : ∀ q, 0 ≤ q → q ≤ P → ri I 70 (2001 * i + q) = DU G W (us W (c :: t)) q) (hp : 0 ≤ p ∧ p ≤ P) (hx : isF G W c t p x) : lp (uX10_layPayment_f307 57 v4 2001 p i (sh, I, J)) fu 0 = some x := by
  have xf : x < 2 + ri I 59 1 := by
    rcases cst_far ho hx with q | q
    · omega
    · apply Classical.byContradiction
      intro z
      have := hW x (by omega)
      omega
  have x0 := hx.1
  have st : ∀ k : Int, 0 ≤ k → k ≤ x → uX10_layPayment_f307 57 v4 2001 p i (sh, I, J) k = if cst G W c t p k = DU G W (us W (c :: t)) p then some (.inr k) else some (.inl (k + 1)) := fun k k0 k1 => by
    have ec := rX_costOf h J hi ho hP hc hG h68 (fun q => h69 k q (by omega)) h70 hp ⟨k0, by omega⟩
    have e71 := h71 p hp.1 hp.2
    simp (disch := omega) only [uX10_layPayment_f307, uX10_layPayment_s307, SEg h, SEr h, SEa h, SEk h, SEj h, SEl h, SEp h, SEs h, bd_some, bd2_some, w32_id, w64_id, ec, e71]
  refine lp_fu (fun k => (k : Int)) x.toNat rfl (fun k hk => ?_) ?_ (by omega)
  · show uX10_layPayment_f307 57 v4 2001 p i (sh, I, J) (k : Int) = some (.inl ((k + 1 : Nat) : Int))
    rw [st k (by omega) (by omega), if_neg (hx.2.2 k (by omega) (by omega))]; rfl
  · show uX10_layPayment_f307 57 v4 2001 p i (sh, I, J) (x.toNat : Int) = _
    rw [show (x.toNat : Int) = x from by omega, st x (by omega) (by omega), if_pos hx.2.1]
theorem r_choose {sh : Sh} (h : St sh) {I : Mi} (J : Mj) {G : Int → Int} {W : Int → Int → Int} {l ws : List Int} {P : Int} (v1 : 0 ≤ ri I 59 1 ∧ ri I 59 1 ≤ 4) (hl : l.length ≤ 12) (ho : OkW G W l) (hP : 1 ≤ P ∧ P ≤ 2000) (hC : ∀ c ∈ l, 0 ≤ c ∧ c < 40) (hG : ∀ c, G c = oc (ri I 59) c 0) (hW : ∀ c x, 2 + ri I 59 1 ≤ x → W c x = 0) (hk : LkX (ri I 59) W I l) (h70 : ∀ i : Nat, i ≤ l.length → ∀ q, 0 ≤ q → q ≤ P → ri I 70 (2001 * i + q) = DU G W (us W (l.drop i)) q) (hY : WY G W l P ws) (hwl : ws.length = l.length) : ∃ I1, lp (uX10_layPayment_f295 57 P 2001) fu (P, 0, (sh, I, J)) = some (sh, I1, J) ∧ (∀ a, a ≠ 72 → I1 a = I a) ∧ ∀ (j : Nat) x, ws[j]? = some x → ri I1 72 j = x := by
  obtain ⟨bb, hbb, I1, hI1, hf, ha⟩ := lp_fi (f := uX10_layPayment_f295 57 P 2001) (x := (P, 0, (sh, I, J))) (fun k y => ∃ I1 p, y = (p, (k : Int), (sh, I1, J)) ∧ (0 ≤ p ∧ p ≤ P) ∧ (∀ a, a ≠ 72 → I1 a = I a) ∧ WY G W (l.drop k) p (ws.drop k) ∧ ∀ (j : Nat) x, j < k → ws[j]? = some x → ri I1 72 j = x) (fun M => ∃ I1, M = (sh, I1, J) ∧ (∀ a, a ≠ 72 → I1 a = I a) ∧ ∀ (j : Nat) x, ws[j]? = some x → ri I1 72 j = x) l.length
    ⟨I, P, rfl, by omega, fun _ _ => rfl, hY, fun j x q => by omega⟩ (fun k y hk' ⟨I1, p, hy, hp, hf, hY1, ha⟩ => by
      subst hy
      have e59 : ri I1 59 = ri I 59 := funext fun x => ri_of I I1 _ (hf 59 (by decide))
      have e31 : gi I1 57 31 = l.length := by rw [gi_fr (hf 57 (by decide))]; exact hk.1
      simp only [uX10_layPayment_f295, uX10_layPayment_s295, SEg h, SEr h, SEa h, SEk h, SEj h, SEl h, SEp h, SEs h, bd_some, bd2_some, e31]
      by_cases ck : k = l.length
      · right
        refine ⟨_, by rw [if_pos (by omega)], I1, rfl, hf, fun j x q => ha j x ?_ q⟩
        have := (List.getElem?_eq_some_iff.mp q).1
        omega
      · left
        refine ⟨by omega, ?_⟩
        rw [if_neg (by omega)]
        obtain ⟨c, hd, hc⟩ := dr_cons (l := l) (i := k) (by omega)
        have oki : OkW G W (c :: l.drop (k + 1)) := fun y hy => ho y (by rw [← hd] at hy; exact List.mem_of_mem_drop hy)
        have k1 := hk.2 k c hc
        rw [hd] at hY1
        obtain ⟨x, rr, hwr, hF, hYr⟩ := hY1
        have xb := hF.1
        have hwx : ws[k]? = some x := get_dr hwr
        have hwt : ws.drop (k + 1) = rr := (drop_1 hwr).1
        have s70 : ∀ x, ri I1 70 x = ri I 70 x := fun x => ri_of I I1 _ (hf 70 (by decide))
        have s69 : ∀ x, ri I1 69 x = ri I 69 x := fun x => ri_of I I1 _ (hf 69 (by decide))
        have wfar : x = 0 ∨ x < 2 + ri I 59 1 := by
          rcases cst_far oki hF with q | q
          · exact .inl q
          · right
            apply Classical.byContradiction
            intro z
            have := hW c x (by omega)
            omega
        have st := r_first h (I := I1) J (i := k) (P := P) (p := p) (x := x) (v4 := P) (by rw [e59]; exact v1) (by omega) oki hP.2 (hC c (List.mem_of_getElem? hc)) (by rw [e59]; exact hG c) (by rw [ri_of I I1 _ (hf 68 (by decide))]; exact k1.1) (fun x x0 x1 => by rw [e59] at x1; rw [s69]; exact k1.2 x x0 x1) (fun x x0 => by rw [e59] at x0; exact hW c x x0) (fun q q0 q1 => by
          have := h70 (k + 1) (by omega) q q0 q1
          rw [show ((k + 1 : Nat) : Int) = (k : Int) + 1 from rfl] at this
          rw [s70]; exact this) (fun q q0 q1 => by
          have := h70 k (by omega) q q0 q1
          rw [hd] at this
          rw [s70]; exact this) hp hF
        have wx := oki.hd.2.1 x
        simp (disch := omega) only [uX10_layPayment_b307, st, SEg h, SEr h, SEa h, SEk h, SEj h, SEl h, SEp h, SEs h, bd_some, bd2_some, uX10_layPayment_c307, uX10_layPayment_b339]
        have fin : ∀ p', (0 ≤ p' ∧ p' ≤ P) → (p' = p - W c x ∨ (p' = 0 ∧ p - W c x ≤ 0)) → ∃ z, some (Sum.inl (p', (k : Int) + 1, (sh, we I1 72 k x, J))) = some (Sum.inl z : (Int × Int × Mm) ⊕ Mm) ∧ ∃ I2 p2, z = (p2, ((k + 1 : Nat) : Int), (sh, I2, J)) ∧ (0 ≤ p2 ∧ p2 ≤ P) ∧ (∀ a, a ≠ 72 → I2 a = I a) ∧ WY G W (l.drop (k + 1)) p2 (ws.drop (k + 1)) ∧ ∀ (j : Nat) x, j < k + 1 → ws[j]? = some x → ri I2 72 j = x := fun p' pb e => by
          refine ⟨_, rfl, _, p', rfl, pb, fun a q => by rw [we_at _ _ _ q]; exact hf a q, by rw [hwt]; exact WY_max oki.tl e hYr, fun j y hj q => ?_⟩
          rw [ri_we _ _ _ _ (by omega) (by omega), w32_id (by omega) (by omega)]
          by_cases z : j = k
          · subst z
            rw [hwx] at q
            cases q
            rw [if_pos ⟨rfl, rfl⟩]
          · rw [if_neg (by omega)]; exact ha j y (by omega) q
        by_cases z : x ≤ 0
        · have zx : x = 0 := by omega
          rw [if_pos z]
          simp (disch := omega) only [w32_id, w64_id]
          exact fin p hp (.inl (by rw [zx, oki.hd.2.2]; omega))
        · rw [if_neg z]
          have e69 : ri (we I1 72 k x) 69 (6 * k + x) = W c x := by
            rw [ri_we1 _ _ _ _ (by decide), s69]
            exact k1.2 x (by omega) (by omega)
          simp (disch := omega) only [SEg h, SEr h, SEa h, SEk h, SEj h, SEl h, SEp h, SEs h, bd_some, bd2_some, w32_id, w64_id, e69]
          by_cases y : p ≤ W c x
          · rw [if_pos y]
            simp (disch := omega) only [w32_id, w64_id, uX10_layPayment_b391]
            exact fin 0 (by omega) (.inr ⟨rfl, by omega⟩)
          · rw [if_neg y]
            simp (disch := omega) only [w32_id, w64_id, SEg h, SEr h, SEa h, SEk h, SEj h, SEl h, SEp h, SEs h, bd_some, bd2_some, uX10_layPayment_b391]
            exact fin (p - W c x) (by omega) (.inl rfl)) (by omega)
  subst hI1
  exact ⟨I1, hbb, hf, ha⟩
theorem r_layP {sh : Sh} (h : St sh) {I : Mi} {S : Int → Int} (hS : ri I 59 = S) (v : InvL S) (u : InvC S) (J : Mj) {b s m p : Int} (hb : isW S b) (hs : isW S s) (hm : isM S m) (hp : 1 ≤ p ∧ p ≤ 2000) (hu : ¬ (b = s ∨ 0 < ow S b 2 ∨ 0 < ow S s 2)) {G : Int → Int} (hG : G = fun c => oc S c 0) {W : Int → Int → Int} (hW : W = wvS S b s m (lkS S)) {l : List Int} (hL : l = lkL S b (S 108).toNat) : ∃ I', uX10_layPayment 57 b s m p (sh, I, J) = some ((if DU G W (us W l) p < 100000000 then DU G W (us W l) p / 16 else -1), (sh, I', J)) ∧ ((∀ a, a ≠ 57 → a ≠ 68 → a ≠ 69 → a ≠ 70 → a ≠ 72 → I' a = I a) ∧ ∀ j, j ≠ 31 → I' 57 j = I 57 j) ∧ ∀ ws, WY G W l p ws → DU G W (us W l) p < 100000000 → LkX S W I' l ∧ ∀ (j : Nat) x, ws[j]? = some x → ri I' 72 j = x := by
  have hk := lkS_b v
  have v1 := v.2.1
  have u0 := u.1
  have lb := lkL_b S b (S 108).toNat
  rw [← hL] at lb
  have hC : ∀ c ∈ l, isC S c := fun c hc => ⟨(lb.2.2 c hc).1, by have := (lb.2.2 c hc).2; omega⟩
  have hC4 : ∀ c ∈ l, 0 ≤ c ∧ c < 40 := fun c hc => by have := hC c hc; unfold isC at this; omega
  have ok : OkW G W l := by rw [hG, hW]; exact wvS_ok v u hb hs hk hC
  have hWf : ∀ c x, 2 + S 1 ≤ x → W c x = 0 := fun c x q => by rw [hW]; exact wvS_far v1.1 q
  have vI : InvL (ri I 59) := by rw [hS]; exact v
  have uI : InvC (ri I 59) := by rw [hS]; exact u
  simp (disch := omega) only [uX10_layPayment, rX_isWho h, rX_isMint h, rX_isIn, SEg h, SEr h, SEa h, SEk h, SEj h, SEl h, SEp h, SEs h, bd_some, bd2_some, bz_0, hS]
  rw [if_neg (fun q => q hb), if_neg (fun q => q hs), if_neg (fun q => q hm), if_neg (fun q => q hp), rX_areUnfit h I J vI (by rw [hS]; exact hb) (by rw [hS]; exact hs), rX_luckOf h vI uI J]
  simp (disch := omega) only [SEg h, SEr h, SEa h, SEk h, SEj h, SEl h, SEp h, SEs h, bd_some, bd2_some, bz_0, hS]
  rw [if_pos hu]
  obtain ⟨I1, hI1⟩ : ∃ I1, I1 = wi I 57 31 0 := ⟨_, rfl⟩
  have f1 : ∀ a, a ≠ 57 → I1 a = I a := fun a q => by rw [hI1, wi_at _ _ _ q]
  have e1 : ri I1 59 = S := by rw [← hS]; exact funext fun x => ri_of I I1 _ (f1 59 (by decide))
  obtain ⟨I2, st2, f2, k2⟩ := r_look h (I := I1) (by rw [e1]; exact v) (by rw [e1]; exact u) J (by rw [e1]; exact hb) (by rw [e1]; exact hs) (by rw [e1]; exact hm) hk (by rw [hI1, gi_wiw, if_pos ⟨rfl, rfl⟩]; rfl) p
  rw [e1, ← hW, ← hL] at k2
  have e2 : ri I2 59 = S := by rw [← e1]; exact funext fun x => ri_of I1 I2 _ (f2.1 59 (by decide) (by decide) (by decide))
  obtain ⟨I3, st3, f3, d3⟩ := r_tabE h I2 J G W lb.1 k2.1 hp
  have e3 : ri I3 59 = S := by rw [← e2]; exact funext fun x => ri_of I2 I3 _ (f3 59 (by decide))
  have k3 : LkX S W I3 l := k2.fr (congrFun (f3 57 (by decide)) 31) (f3 68 (by decide)) (f3 69 (by decide))
  have e31 := k3.1
  obtain ⟨I4, st4, f4, d4⟩ := r_tab h (I := I3) J (P := p) (by rw [e3]; exact v1) lb.1 ok hp hC4 (fun c => by rw [e3, hG]) (fun c x q => by rw [e3] at q; exact hWf c x q) (by rw [e3]; exact k3) d3
  have e4 : ri I4 59 = S := by rw [← e3]; exact funext fun x => ri_of I3 I4 _ (f4 59 (by decide))
  have k4 : LkX S W I4 l := k3.fr (congrFun (f4 57 (by decide)) 31) (f4 68 (by decide)) (f4 69 (by decide))
  have dp := d4 0 (Nat.zero_le _) p (by omega) (by omega)
  rw [List.drop_zero, show 2001 * ((0 : Nat) : Int) + p = p from by omega] at dp
  have bD := DU_b ok.us p
  have F4 : (∀ a, a ≠ 57 → a ≠ 68 → a ≠ 69 → a ≠ 70 → I4 a = I a) ∧ ∀ j, j ≠ 31 → I4 57 j = I 57 j := ⟨fun a a1 a2 a3 a4 => by rw [f4 a a4, f3 a a4, f2.1 a a1 a2 a3, f1 a a1], fun j hj => by rw [f4 57 (by decide), f3 57 (by decide), f2.2 j hj, hI1, wi_nc _ _ (fun z => hj z.2)]⟩
  simp (disch := omega) only [← hI1, uX10_layPayment_b62, st2, SEg h, SEr h, SEa h, SEk h, SEj h, SEl h, SEp h, SEs h, bd_some, bd2_some, w32_id, w64_id, uX10_layPayment_c62, uX10_layPayment_b169, uX10_layPayment_b177, st3, uX10_layPayment_c177, uX10_layPayment_b217, e31, uX10_layPayment_b225, st4, uX10_layPayment_c225, uX10_layPayment_b273, dp]
  obtain ⟨D, hD⟩ : ∃ D, D = DU G W (us W l) p := ⟨_, rfl⟩
  rw [← hD] at bD dp ⊢
  by_cases cD : D < 100000000
  · rw [if_pos cD, if_pos cD]
    obtain ⟨ws, hY, hwl⟩ := WY_ex ok p
    obtain ⟨I5, st5, f5, d5⟩ := r_choose h (I := I4) J (P := p) (by rw [e4]; exact v1) lb.1 ok hp hC4 (fun c => by rw [e4, hG]) (fun c x q => by rw [e4] at q; exact hWf c x q) (by rw [e4]; exact k4) d4 hY hwl
    have e5 : ri I5 70 p = D := by rw [ri_of I4 I5 _ (f5 70 (by decide))]; exact dp
    simp (disch := omega) only [uX10_layPayment_b295, st5, SEg h, SEr h, SEa h, SEk h, SEj h, SEl h, SEp h, SEs h, bd_some, bd2_some, w32_id, w64_id, uX10_layPayment_c295, uX10_layPayment_b399, e5]
    rw [div32_pos (by omega) (by decide)]
    refine ⟨I5, rfl, ⟨fun a a1 a2 a3 a4 a5 => by rw [f5 a a5]; exact F4.1 a a1 a2 a3 a4, fun j hj => by rw [f5 57 (by decide)]; exact F4.2 j hj⟩, fun ws' hY' _ => ?_⟩
    rw [WY_un hY' hY]
    exact ⟨k4.fr (congrFun (f5 57 (by decide)) 31) (f5 68 (by decide)) (f5 69 (by decide)), d5⟩
  · rw [if_neg cD, if_neg cD]
    exact ⟨I4, rfl, ⟨fun a a1 a2 a3 a4 _ => F4.1 a a1 a2 a3 a4, F4.2⟩, fun ws _ q => absurd q cD⟩
