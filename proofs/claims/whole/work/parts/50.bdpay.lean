theorem Rel.paid {sh : Sh} {I : Mi} {J : Mj} (R : Rel (sh, I, J)) {X B2 A' : Mi} {J1 : Mj} (kp : KpC I X J J1) (fB : ∀ a, a ≠ 57 → a < 68 ∨ 72 < a → B2 a = layI (wi X 57 0 0) a) (f57 : ∀ j, j ≠ 31 → j ≠ 32 → B2 57 j = layI (wi X 57 0 0) 57 j) (fA : ∀ a, a < 44 ∨ 52 < a → A' a = I a) {l ws : List Int} (h32 : gi B2 57 32 = l.length) (h71 : ∀ c, 0 ≤ c → c < 40 → ri B2 71 c = pdN l ws l.length c) (h52 : ∀ c, 0 ≤ c → c < 40 → ri A' 52 c = pdN l ws l.length c) : Rel2 sh A' B2 J1 := by
  have RB := R.lay kp 0
  refine RB.upd (fun a h => fA a (by omega)) ⟨⟨fB 59 (by decide) (by decide), fB 61 (by decide) (by decide), fB 62 (by decide) (by decide), fB 66 (by decide) (by decide)⟩, gi_fk (f57 22 (by decide) (by decide)), gi_fk (f57 23 (by decide) (by decide)), rfl, rfl⟩ ?_ ?_ ?_ ?_
  · have := RB.2.2.1
    unfold TapR at *
    rw [gi_of I A' _ (fA 1 (by decide)), gi_fk (f57 2 (by decide) (by decide)), ri_fun (fA 2 (by decide)), ri_fun (fB 58 (by decide) (by decide))]
    exact this
  · rw [gi_of I A' _ (fA 0 (by decide)), gi_fk (f57 10 (by decide) (by decide))]
    exact RB.2.2.2.1
  · intro c c0 c1
    rw [h52 c c0 c1, h32, if_neg (by omega), h71 c c0 c1]
  · have := RB.2.2.2.2.2.2.2.1
    unfold RowR at *
    rw [gi_of I A' _ (fA 53 (by decide)), gi_fk (f57 40 (by decide) (by decide)), ri_fun (fA 54 (by decide)), ri_fun (fA 55 (by decide)), ri_fun (fB 75 (by decide) (by decide)), ri_fun (fB 76 (by decide) (by decide))]
    exact this
theorem Rel.unpaid {sh : Sh} {I : Mi} {J : Mj} (R : Rel (sh, I, J)) {X B1 : Mi} {J1 : Mj} (kp : KpC I X J J1) (fB : ∀ a, a ≠ 57 → a ≠ 68 → a ≠ 69 → a ≠ 70 → a ≠ 72 → B1 a = layI (wi X 57 0 0) a) (f57 : ∀ j, j ≠ 31 → B1 57 j = layI (wi X 57 0 0) 57 j) (fA : ∀ a, a < 44 ∨ 51 < a → X a = I a) : Rel (sh, B1, J1) := by
  have RB := (R.lay kp 0).agC (A' := X) ⟨fun a h => fA a (by omega), gi_of _ _ _ (fA 0 (by decide)), gi_of _ _ _ (fA 1 (by decide))⟩
  have R2 : Rel2 sh X B1 J1 := RB.agR ⟨⟨fB 58 (by decide) (by decide) (by decide) (by decide) (by decide), fB 59 (by decide) (by decide) (by decide) (by decide) (by decide), fB 61 (by decide) (by decide) (by decide) (by decide) (by decide), fB 62 (by decide) (by decide) (by decide) (by decide) (by decide), fB 66 (by decide) (by decide) (by decide) (by decide) (by decide), fB 71 (by decide) (by decide) (by decide) (by decide) (by decide), fB 75 (by decide) (by decide) (by decide) (by decide) (by decide), fB 76 (by decide) (by decide) (by decide) (by decide) (by decide)⟩, ⟨gi_fk (f57 2 (by decide)), gi_fk (f57 10 (by decide)), gi_fk (f57 22 (by decide)), gi_fk (f57 23 (by decide)), gi_fk (f57 32 (by decide)), gi_fk (f57 40 (by decide))⟩, rfl, rfl⟩
  exact Rel.fin R2 fun a ha => by rw [fB a (by omega) (by omega) (by omega) (by omega) (by omega)]; exact KpR.lay X 0 a ha
/-- the reference's payment, at any memory that the class leaves -/
theorem r_payM {sh : Sh} {I : Mi} {J : Mj} (R : Rel (sh, I, J)) {sh1 : Sh} (h1 : St sh1) {X : Mi} {J1 : Mj} (kp : KpC I X J J1) {S : Int → Int} (eS : ri (layI I) 59 = S) (v : InvL S) (u : InvC S) {b s m p : Int} (ok : Okp S b s m p) {G : Int → Int} (hG : G = fun c => oc S c 0) {W : Int → Int → Int} (hW : W = wvS S b s m (lkS S)) {l : List Int} (hL : l = lkL S b (S 108).toNat) : ∃ B1, uX10_layPayment 57 b s m p (sh1, layI (wi X 57 0 0), J1) = some ((if DU G W (us W l) p < 100000000 then DU G W (us W l) p / 16 else -1), (sh1, B1, J1)) ∧ ((∀ a, a ≠ 57 → a ≠ 68 → a ≠ 69 → a ≠ 70 → a ≠ 72 → B1 a = layI (wi X 57 0 0) a) ∧ ∀ j, j ≠ 31 → B1 57 j = layI (wi X 57 0 0) 57 j) ∧ ∀ ws, WY G W l p ws → DU G W (us W l) p < 100000000 → ∃ B2, uX10_tellPaid 57 (sh1, B1, J1) = some (sh1, B2, J1) ∧ (∀ a, a ≠ 57 → a < 68 ∨ 72 < a → B2 a = layI (wi X 57 0 0) a) ∧ (∀ j, j ≠ 31 → j ≠ 32 → B2 57 j = layI (wi X 57 0 0) 57 j) ∧ LkX S W B2 l ∧ (∀ (j : Nat) x, ws[j]? = some x → ri B2 72 j = x) ∧ gi B2 57 32 = l.length ∧ ∀ c, 0 ≤ c → c < 40 → ri B2 71 c = pdN l ws l.length c := by
  have eB : ri (layI (wi X 57 0 0)) 59 = S := (ri_fun (lay_ag kp 0).1.2.1).trans eS
  obtain ⟨B1, s1, f1, k1⟩ := r_layP h1 eB v u J1 ok.1 ok.2.1 ok.2.2.1 ok.2.2.2.1 ok.2.2.2.2 hG hW hL
  refine ⟨B1, s1, f1, fun ws hY hD => ?_⟩
  obtain ⟨k2, k3⟩ := k1 ws hY hD
  have u0 := u.1
  have lb := lkL_b S b (S 108).toNat
  rw [← hL] at lb
  have hC4 : ∀ c ∈ l, 0 ≤ c ∧ c < 40 := fun c hc => by have := lb.2.2 c hc; omega
  obtain ⟨wl, wb⟩ := WY_bd hY
  obtain ⟨B2, s2, f2, d2, e2⟩ := r_tellP h1 B1 J1 lb.1 wl hC4 wb k2 k3
  refine ⟨B2, s2, fun a a1 a2 => by rw [f2.1 a a1 (by omega)]; exact f1.1 a a1 (by omega) (by omega) (by omega) (by omega), fun j j1 j2 => by rw [f2.2 j j2]; exact f1.2 j j1, k2.fr (f2.2 31 (by decide)) (f2.1 68 (by decide) (by decide)) (f2.1 69 (by decide) (by decide)), fun j x q => by rw [ri_of B1 B2 _ (f2.1 72 (by decide) (by decide))]; exact k3 j x q, d2, e2⟩
theorem op_payment {sh : Sh} {I : Mi} {J : Mj} (R : Rel (sh, I, J)) (b s m p : Int) : ∃ x sh1 I1 J1 I2, uX9_payment 0 b s m p (sh, I, J) = some (x, (sh1, I1, J1)) ∧ uX10_payment 57 b s m p (sh1, I1, J1) = some (x, (sh1, I2, J1)) ∧ Rel (sh1, I2, J1) := by
  have h : St sh := R.1.1
  obtain ⟨S, eS⟩ : ∃ S, ri (layI I) 59 = S := ⟨_, rfl⟩
  have r : RepC I S (rj J 63) := by have : RepC I (ri (layI I) 59) (rj J 63) := R.1.2.2.2.2.1; rwa [eS] at this
  obtain ⟨y, hy, hy2⟩ := c_payable h r J b s m p
  by_cases ok : Okp S b s m p
  · have yn : y ≠ 0 := fun q => hy2.mp q ok
    obtain ⟨G, hG⟩ : ∃ G : Int → Int, G = fun c => oc S c 0 := ⟨_, rfl⟩
    obtain ⟨W, hW⟩ : ∃ W, W = wvS S b s m (lkS S) := ⟨_, rfl⟩
    obtain ⟨l, hL⟩ : ∃ l, l = lkL S b (S 108).toNat := ⟨_, rfl⟩
    have u0 := r.iC.1
    have lb := lkL_b S b (S 108).toNat
    rw [← hL] at lb
    have hC4 : ∀ c ∈ l, 0 ≤ c ∧ c < 40 := fun c hc => by have := lb.2.2 c hc; omega
    have okW : OkW G W l := by rw [hG, hW]; exact wvS_ok r.iL r.iC ok.1 ok.2.1 (lkS_b r.iL) fun c hc => ⟨(lb.2.2 c hc).1, by have := (lb.2.2 c hc).2; omega⟩
    have bD := DU_b okW.us p
    obtain ⟨I1, s1, f1, k1⟩ := c_findP h r J ok.1 ok.2.1 ok.2.2.1 ok.2.2.2.1 hG hW hL
    by_cases cD : DU G W (us W l) p < 100000000
    · obtain ⟨ws, hY, -⟩ := WY_ex okW p
      obtain ⟨wl, wb⟩ := WY_bd hY
      obtain ⟨k2, k3, k4, -⟩ := k1 ws hY cD
      obtain ⟨A', s2, f2, d2⟩ := c_tellP h I1 J lb.1 wl hC4 wb k2 k3 k4
      have fA : ∀ a, a < 44 ∨ 52 < a → A' a = I a := fun a q => by rw [f2 a (by omega)]; exact f1 a (by omega)
      have kp : KpC I A' J J := fun a q1 q2 => ⟨fA a (by omega), rfl⟩
      obtain ⟨B1, t1, -, t3⟩ := r_payM R h kp eS r.iL r.iC ok hG hW hL
      obtain ⟨B2, t4, t5, t6, -, -, t9, t10⟩ := t3 ws hY cD
      rw [if_pos cD] at s1 t1
      refine ⟨DU G W (us W l) p / 16, sh, A', J, B2, ?_, ?_, Rel.fin (R.paid kp t5 t6 fA t9 t10 d2) fun a ha => by rw [t5 a (by omega) (by omega)]; exact KpR.lay A' 0 a ha⟩
      · simp only [uX9_payment, SEg h, SEr h, SEa h, SEk h, SEj h, SEl h, SEp h, SEs h, bd_some, bd2_some, hy]
        rw [if_neg yn]
        simp only [SEg h, SEr h, SEa h, SEk h, SEj h, SEl h, SEp h, SEs h, bd_some, bd2_some, s1]
        rw [if_neg (by omega)]
        simp only [SEg h, SEr h, SEa h, SEk h, SEj h, SEl h, SEp h, SEs h, bd_some, bd2_some, s2]
      · simp only [uX10_payment, SEg h, SEr h, SEa h, SEk h, SEj h, SEl h, SEp h, SEs h, bd_some, bd2_some, rX_lay h, t1]
        rw [if_neg (by omega)]
        simp only [SEg h, SEr h, SEa h, SEk h, SEj h, SEl h, SEp h, SEs h, bd_some, bd2_some, t4]
    · have kp : KpC I I1 J J := fun a q1 q2 => ⟨f1 a (by omega), rfl⟩
      obtain ⟨B1, t1, t2, -⟩ := r_payM R h kp eS r.iL r.iC ok hG hW hL
      rw [if_neg cD] at s1 t1
      refine ⟨-1, sh, I1, J, B1, ?_, ?_, R.unpaid kp t2.1 t2.2 f1⟩
      · simp only [uX9_payment, SEg h, SEr h, SEa h, SEk h, SEj h, SEl h, SEp h, SEs h, bd_some, bd2_some, hy]
        rw [if_neg yn]
        simp only [SEg h, SEr h, SEa h, SEk h, SEj h, SEl h, SEp h, SEs h, bd_some, bd2_some, s1]
        rw [if_pos trivial]
      · simp only [uX10_payment, SEg h, SEr h, SEa h, SEk h, SEj h, SEl h, SEp h, SEs h, bd_some, bd2_some, rX_lay h, t1]
        rw [if_pos (by decide)]
  · have y0 : y = 0 := hy2.mpr ok
    have eB : ri (layI (wi I 57 0 0)) 59 = S := (ri_fun (lay_ag (KpC.refl I J) 0).1.2.1).trans eS
    refine ⟨-2, sh, I, J, _, ?_, ?_, R.rd 0⟩
    · simp only [uX9_payment, SEg h, SEr h, SEa h, SEk h, SEj h, SEl h, SEp h, SEs h, bd_some, bd2_some, hy]
      rw [if_pos y0]
    · simp only [uX10_payment, SEg h, SEr h, SEa h, SEk h, SEj h, SEl h, SEp h, SEs h, bd_some, bd2_some, rX_lay h, r_layN h eB r.iL J ok]
      rw [if_pos (by decide)]
