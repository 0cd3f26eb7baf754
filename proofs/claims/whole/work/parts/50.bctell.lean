/-- what payment tells of a COIN, behind k of those that are looked at -/
def pdN (l ws : List Int) : Nat → Int → Int
  | 0, _ => -1
  | k + 1, c => if l[k]? = some c then (ws[k]?).getD 0 else pdN l ws k c
theorem WY_bd {G : Int → Int} {W : Int → Int → Int} : ∀ {l : List Int} {p : Int} {ws : List Int}, WY G W l p ws → ws.length = l.length ∧ ∀ x ∈ ws, 0 ≤ x ∧ x ≤ 5
  | [], p, ws, h => by
    have e : ws = [] := h
    subst e
    exact ⟨rfl, fun x hx => by cases hx⟩
  | c :: t, p, ws, h => by
    obtain ⟨x, r, e, hF, hY⟩ := h
    subst e
    have ih := WY_bd hY
    refine ⟨by rw [List.length_cons, List.length_cons, ih.1], fun y hy => ?_⟩
    rcases List.mem_cons.mp hy with q | q
    · rw [q]; exact hF.1
    · exact ih.2 y q
theorem lp_pad {sh : Sh} {f : Int × Mm → Option ((Int × Mm) ⊕ Mm)} {a : Nat} {l ws : List Int} (I : Mi) (J : Mj) (hl : l.length ≤ 12) (hwl : ws.length = l.length) (hC : ∀ c ∈ l, 0 ≤ c ∧ c < 40) (hwb : ∀ x ∈ ws, 0 ≤ x ∧ x ≤ 5) (h0 : ∀ c, 0 ≤ c → c < 40 → ri I a c = -1)
    (hs : ∀ (k : Nat) c x I', (∀ b, b ≠ a → I' b = I b) → l[k]? = some c → ws[k]? = some x → f ((k : Int), (sh, I', J)) = some (.inl ((k : Int) + 1, (sh, we I' a c x, J)))) (he : ∀ I', (∀ b, b ≠ a → I' b = I b) → f ((l.length : Int), (sh, I', J)) = some (.inr (sh, I', J))) : ∃ I1, lp f fu (0, (sh, I, J)) = some (sh, I1, J) ∧ (∀ b, b ≠ a → I1 b = I b) ∧ ∀ c, 0 ≤ c → c < 40 → ri I1 a c = pdN l ws l.length c := by
  obtain ⟨bb, hbb, I1, hI1, hf, ha⟩ := lp_fi (f := f) (x := (0, (sh, I, J))) (fun k y => ∃ I1, y = ((k : Int), (sh, I1, J)) ∧ (∀ b, b ≠ a → I1 b = I b) ∧ ∀ c, 0 ≤ c → c < 40 → ri I1 a c = pdN l ws k c) (fun M => ∃ I1, M = (sh, I1, J) ∧ (∀ b, b ≠ a → I1 b = I b) ∧ ∀ c, 0 ≤ c → c < 40 → ri I1 a c = pdN l ws l.length c) l.length
    ⟨I, rfl, fun _ _ => rfl, h0⟩ (fun k y hk ⟨I1, hy, hf, ha⟩ => by
      subst hy
      by_cases ck : k = l.length
      · right
        exact ⟨_, by rw [ck]; exact he I1 hf, I1, rfl, hf, by rw [← ck]; exact ha⟩
      · left
        refine ⟨by omega, ?_⟩
        obtain ⟨c, hc⟩ : ∃ c, l[k]? = some c := ⟨_, List.getElem?_eq_getElem (by omega)⟩
        obtain ⟨x, hx⟩ : ∃ x, ws[k]? = some x := ⟨_, List.getElem?_eq_getElem (by omega)⟩
        have cb := hC c (List.mem_of_getElem? hc)
        have xb := hwb x (List.mem_of_getElem? hx)
        refine ⟨_, hs k c x I1 hf hc hx, _, rfl, fun b q => by rw [we_at _ _ _ q]; exact hf b q, fun d d0 d1 => ?_⟩
        rw [ri_we _ _ _ _ (by omega) (by omega), w32_id (by omega) (by omega)]
        show _ = if l[k]? = some d then (ws[k]?).getD 0 else pdN l ws k d
        rw [hc, hx]
        by_cases z : d = c
        · subst z
          rw [if_pos ⟨rfl, rfl⟩, if_pos rfl]; rfl
        · rw [if_neg (fun q => z q.2), if_neg (fun q => z (by injection q with q; exact q.symm))]
          exact ha d d0 d1) (by omega)
  subst hI1
  exact ⟨I1, hbb, hf, ha⟩
theorem c_tellP {sh : Sh} (h : St sh) (I : Mi) (J : Mj) {l ws : List Int} (hl : l.length ≤ 12) (hwl : ws.length = l.length) (hC : ∀ c ∈ l, 0 ≤ c ∧ c < 40) (hwb : ∀ x ∈ ws, 0 ≤ x ∧ x ≤ 5) (h44 : gi I 44 0 = l.length) (h45 : ∀ (i : Nat) c, l[i]? = some c → ri I 45 i = c) (h46 : ∀ (j : Nat) x, ws[j]? = some x → ri I 46 j = x) : ∃ I', uX9_tellPaid 0 (sh, I, J) = some (sh, I', J) ∧ (∀ a, a ≠ 52 → I' a = I a) ∧ ∀ c, 0 ≤ c → c < 40 → ri I' 52 c = pdN l ws l.length c := by
  obtain ⟨I1, s1, f1, d1, -⟩ := lp_fill (sh := sh) (f := uX9_tellPaid_f2 0) (a := 52) (off := 0) (n := 40) (fun _ => -1) I J (by decide) (by decide) (fun i I' _ i0 i1 => by
    simp only [uX9_tellPaid_f2, uX9_tellPaid_s2]
    rw [if_neg (by omega)]
    simp (disch := omega) only [SEg h, SEr h, SEa h, SEk h, SEj h, SEl h, SEp h, SEs h, bd_some, bd2_some, w32_id, w64_id, Int.zero_add]) (fun I' _ => by
    simp only [uX9_tellPaid_f2, uX9_tellPaid_s2]
    rw [if_pos (by decide)])
  obtain ⟨I2, s2, f2, d2⟩ := lp_pad (sh := sh) (f := uX9_tellPaid_f23 0) (a := 52) I1 J hl hwl hC hwb (fun c c0 c1 => by
    have := d1 c c0 (by omega)
    rw [Int.zero_add] at this
    exact this) (fun k c x I' fI hc hx => by
      have cb := hC c (List.mem_of_getElem? hc)
      have kl := (List.getElem?_eq_some_iff.mp hc).1
      have e44 : gi I' 44 0 = l.length := by rw [gi_fr (fI 44 (by decide)), gi_fr (f1 44 (by decide))]; exact h44
      have e45 : ri I' 45 k = c := by rw [ri_of I1 I' _ (fI 45 (by decide)), ri_of I I1 _ (f1 45 (by decide))]; exact h45 k c hc
      have e46 : ri I' 46 k = x := by rw [ri_of I1 I' _ (fI 46 (by decide)), ri_of I I1 _ (f1 46 (by decide))]; exact h46 k x hx
      simp only [uX9_tellPaid_f23, uX9_tellPaid_s23, SEg h, SEr h, SEa h, SEk h, SEj h, SEl h, SEp h, SEs h, bd_some, bd2_some, e44]
      rw [if_neg (by omega), if_neg (by omega)]
      simp (disch := omega) only [SEg h, SEr h, SEa h, SEk h, SEj h, SEl h, SEp h, SEs h, bd_some, bd2_some, e45]
      rw [if_neg (by omega), if_neg (by omega)]
      simp (disch := omega) only [SEg h, SEr h, SEa h, SEk h, SEj h, SEl h, SEp h, SEs h, bd_some, bd2_some, e46, w32_id, w64_id]) (fun I' fI => by
      have e44 : gi I' 44 0 = l.length := by rw [gi_fr (fI 44 (by decide)), gi_fr (f1 44 (by decide))]; exact h44
      simp only [uX9_tellPaid_f23, uX9_tellPaid_s23, SEg h, SEr h, SEa h, SEk h, SEj h, SEl h, SEp h, SEs h, bd_some, bd2_some, e44]
      rw [if_pos (Int.le_refl _)])
  refine ⟨I2, ?_, fun a q => by rw [f2 a q, f1 a q], d2⟩
  simp only [uX9_tellPaid, uX9_tellPaid_b2, s1, bd_some, uX9_tellPaid_c2, uX9_tellPaid_b21, uX9_tellPaid_b23, s2, uX9_tellPaid_c23, uX9_tellPaid_b81]
theorem r_tellP {sh : Sh} (h : St sh) (I : Mi) (J : Mj) {S : Int → Int} {W : Int → Int → Int} {l ws : List Int} (hl : l.length ≤ 12) (hwl : ws.length = l.length) (hC : ∀ c ∈ l, 0 ≤ c ∧ c < 40) (hwb : ∀ x ∈ ws, 0 ≤ x ∧ x ≤ 5) (hk : LkX S W I l) (h72 : ∀ (j : Nat) x, ws[j]? = some x → ri I 72 j = x) : ∃ I', uX10_tellPaid 57 (sh, I, J) = some (sh, I', J) ∧ ((∀ a, a ≠ 57 → a ≠ 71 → I' a = I a) ∧ ∀ j, j ≠ 32 → I' 57 j = I 57 j) ∧ gi I' 57 32 = l.length ∧ ∀ c, 0 ≤ c → c < 40 → ri I' 71 c = pdN l ws l.length c := by
  obtain ⟨I0, hI0⟩ : ∃ I0, I0 = wi I 57 32 l.length := ⟨_, rfl⟩
  have f0 : ∀ a, a ≠ 57 → I0 a = I a := fun a q => by rw [hI0, wi_at _ _ _ q]
  have f57 : ∀ j, j ≠ 32 → I0 57 j = I 57 j := fun j q => by rw [hI0, wi_nc _ _ (fun z => q z.2)]
  obtain ⟨I1, s1, f1, d1, -⟩ := lp_fill (sh := sh) (f := uX10_tellPaid_f10 57) (a := 71) (off := 0) (n := 40) (fun _ => -1) I0 J (by decide) (by decide) (fun i I' _ i0 i1 => by
    simp only [uX10_tellPaid_f10, uX10_tellPaid_s10]
    rw [if_neg (by omega)]
    simp (disch := omega) only [SEg h, SEr h, SEa h, SEk h, SEj h, SEl h, SEp h, SEs h, bd_some, bd2_some, w32_id, w64_id, Int.zero_add]) (fun I' _ => by
    simp only [uX10_tellPaid_f10, uX10_tellPaid_s10]
    rw [if_pos (by decide)])
  have k31 : ∀ I', (∀ b, b ≠ 71 → I' b = I1 b) → gi I' 57 31 = l.length := fun I' fI => by
    rw [gi_fr (fI 57 (by decide)), gi_fr (f1 57 (by decide)), gi_fk (f57 31 (by decide))]; exact hk.1
  obtain ⟨I2, s2, f2, d2⟩ := lp_pad (sh := sh) (f := uX10_tellPaid_f31 57) (a := 71) I1 J hl hwl hC hwb (fun c c0 c1 => by
    have := d1 c c0 (by omega)
    rw [Int.zero_add] at this
    exact this) (fun k c x I' fI hc hx => by
      have cb := hC c (List.mem_of_getElem? hc)
      have kl := (List.getElem?_eq_some_iff.mp hc).1
      have e31 := k31 I' fI
      have e68 : ri I' 68 k = c := by rw [ri_of I1 I' _ (fI 68 (by decide)), ri_of I0 I1 _ (f1 68 (by decide)), ri_of I I0 _ (f0 68 (by decide))]; exact (hk.2 k c hc).1
      have e72 : ri I' 72 k = x := by rw [ri_of I1 I' _ (fI 72 (by decide)), ri_of I0 I1 _ (f1 72 (by decide)), ri_of I I0 _ (f0 72 (by decide))]; exact h72 k x hx
      simp only [uX10_tellPaid_f31, uX10_tellPaid_s31, SEg h, SEr h, SEa h, SEk h, SEj h, SEl h, SEp h, SEs h, bd_some, bd2_some, e31]
      rw [if_neg (by omega)]
      simp (disch := omega) only [SEg h, SEr h, SEa h, SEk h, SEj h, SEl h, SEp h, SEs h, bd_some, bd2_some, e68, e72, w32_id, w64_id]) (fun I' fI => by
      simp only [uX10_tellPaid_f31, uX10_tellPaid_s31, SEg h, SEr h, SEa h, SEk h, SEj h, SEl h, SEp h, SEs h, bd_some, bd2_some, k31 I' fI]
      rw [if_pos (Int.le_refl _)])
  refine ⟨I2, ?_, ⟨fun a q q2 => by rw [f2 a q2, f1 a q2, f0 a q], fun j q => by rw [f2 57 (by decide), f1 57 (by decide), f57 j q]⟩, by rw [gi_fr (f2 57 (by decide)), gi_fr (f1 57 (by decide)), hI0, gi_wiw, if_pos ⟨rfl, rfl⟩, w32_id (by omega) (by omega)], d2⟩
  have e31 := hk.1
  simp only [uX10_tellPaid, SEg h, SEr h, SEa h, SEk h, SEj h, SEl h, SEp h, SEs h, bd_some, bd2_some, e31, ← hI0, uX10_tellPaid_b10, s1, uX10_tellPaid_c10, uX10_tellPaid_b29, uX10_tellPaid_b31, s2, uX10_tellPaid_c31, uX10_tellPaid_b62]
/-- what may be paid for -/
def Okp (S : Int → Int) (b s m p : Int) : Prop := isW S b ∧ isW S s ∧ isM S m ∧ (1 ≤ p ∧ p ≤ 2000) ∧ ¬ (b = s ∨ 0 < ow S b 2 ∨ 0 < ow S s 2)
theorem c_payable {sh : Sh} (h : St sh) {I : Mi} {S nm : Int → Int} (r : RepC I S nm) (J : Mj) (b s m p : Int) : ∃ x, uX9_payable 0 b s m p (sh, I, J) = some x ∧ (x = 0 ↔ ¬ Okp S b s m p) := by
  simp (disch := omega) only [uX9_payable, SEg h, SEr h, SEa h, SEk h, SEj h, SEl h, SEp h, SEs h, bd_some, bd2_some, c_canTrade h r, c_isMint h r, bz_0]
  have no : ∀ {q : Prop}, ¬ q → ((0 : Int) = 0 ↔ ¬ q) := fun q => ⟨fun _ => q, fun _ => rfl⟩
  by_cases c1 : (isW S b ∧ ow S b 2 = 0) ∧ (isW S s ∧ ow S s 2 = 0) ∧ b ≠ s
  · rw [if_neg (fun q => q c1)]
    by_cases c2 : isM S m
    · rw [if_neg (fun q => q c2)]
      by_cases c3 : p < 1
      · rw [if_pos c3]
        exact ⟨0, rfl, no fun q => by have := q.2.2.2.1; omega⟩
      · rw [if_neg c3]
        by_cases c4 : 2000 < p
        · rw [if_pos c4]
          exact ⟨0, rfl, no fun q => by have := q.2.2.2.1; omega⟩
        · rw [if_neg c4]
          exact ⟨1, rfl, fun q => absurd q (by decide), fun q => absurd ⟨c1.1.1, c1.2.1.1, c2, ⟨by omega, by omega⟩, by have := c1.1.2; have := c1.2.1.2; have := c1.2.2; omega⟩ q⟩
    · rw [if_pos c2]
      exact ⟨0, rfl, no fun q => c2 q.2.2.1⟩
  · rw [if_pos c1]
    refine ⟨0, rfl, no fun q => c1 ?_⟩
    have a1 := r.iL.2.2.2.2.2.2.2.1 b 2 q.1 (by decide) (by decide)
    have a2 := r.iL.2.2.2.2.2.2.2.1 s 2 q.2.1 (by decide) (by decide)
    have := q.2.2.2.2
    exact ⟨⟨q.1, by omega⟩, ⟨q.2.1, by omega⟩, by omega⟩
theorem r_layN {sh : Sh} (h : St sh) {I : Mi} {S : Int → Int} (hS : ri I 59 = S) (v : InvL S) (J : Mj) {b s m p : Int} (hu : ¬ Okp S b s m p) : uX10_layPayment 57 b s m p (sh, I, J) = some (-2, (sh, I, J)) := by
  have vI : InvL (ri I 59) := by rw [hS]; exact v
  simp (disch := omega) only [uX10_layPayment, rX_isWho h, rX_isMint h, rX_isIn, SEg h, SEr h, SEa h, SEk h, SEj h, SEl h, SEp h, SEs h, bd_some, bd2_some, bz_0, hS]
  by_cases c1 : isW S b
  · rw [if_neg (fun q => q c1)]
    by_cases c2 : isW S s
    · rw [if_neg (fun q => q c2)]
      by_cases c3 : isM S m
      · rw [if_neg (fun q => q c3)]
        by_cases c4 : 1 ≤ p ∧ p ≤ 2000
        · rw [if_neg (fun q => q c4), rX_areUnfit h I J vI (by rw [hS]; exact c1) (by rw [hS]; exact c2)]
          simp only [SEg h, SEr h, SEa h, SEk h, SEj h, SEl h, SEp h, SEs h, bd_some, bd2_some, bz_0, hS]
          rw [if_neg (fun q => hu ⟨c1, c2, c3, c4, q⟩)]
        · rw [if_pos c4]
      · rw [if_pos c3]
    · rw [if_pos c2]
  · rw [if_pos c1]
