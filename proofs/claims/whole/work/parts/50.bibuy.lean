theorem rst_b : ∀ ws : List Int, 0 ≤ rst ws ∧ rst ws ≤ ws.length
  | [] => ⟨by decide, by decide⟩
  | y :: r => by
    have := rst_b r
    show 0 ≤ (if y < 2 then (0 : Int) else 1) + rst r ∧ (if y < 2 then (0 : Int) else 1) + rst r ≤ _
    rw [List.length_cons]
    split <;> omega
theorem r_toPay {sh : Sh} (h : St sh) (B : Mi) (J : Mj) {l ws : List Int} (hl : l.length ≤ 12) (wl : ws.length = l.length) (wb : ∀ x ∈ ws, 0 ≤ x ∧ x ≤ 5) (h31 : gi B 57 31 = l.length) (h72 : ∀ (j : Nat) x, ws[j]? = some x → ri B 72 j = x) : ∃ x, uX10_strokesToPay 57 (sh, B, J) = some x ∧ 0 ≤ x ∧ x ≤ 24 := by
  obtain ⟨bb, hbb, q0, q1⟩ := lp_fi (f := uX10_strokesToPay_f4 57 (sh, B, J)) (x := (0, 0)) (fun k y => ∃ d, y = (d, (k : Int)) ∧ 0 ≤ d ∧ d ≤ 2 * k) (fun d => 0 ≤ d ∧ d ≤ 24) l.length
    ⟨0, rfl, by decide, by decide⟩ (fun k y hk ⟨d, hy, d0, d1⟩ => by
      subst hy
      simp only [uX10_strokesToPay_f4, uX10_strokesToPay_s4, SEg h, SEr h, SEa h, SEk h, SEj h, SEl h, SEp h, SEs h, bd_some, bd2_some, h31]
      by_cases ck : k = l.length
      · right
        exact ⟨d, by rw [if_pos (by omega)], d0, by omega⟩
      · left
        refine ⟨by omega, ?_⟩
        obtain ⟨x, hx⟩ : ∃ x, ws[k]? = some x := ⟨_, List.getElem?_eq_getElem (by omega)⟩
        have xb := wb x (List.mem_of_getElem? hx)
        have e72 := h72 k x hx
        rw [if_neg (by omega)]
        simp (disch := omega) only [SEg h, SEr h, SEa h, SEk h, SEj h, SEl h, SEp h, SEs h, bd_some, bd2_some, e72]
        by_cases c1 : x ≤ 1
        · rw [if_pos c1]
          simp (disch := omega) only [uX10_strokesToPay_b33, SEg h, SEr h, SEa h, SEk h, SEj h, SEl h, SEp h, SEs h, bd_some, bd2_some, e72, w32_id, w64_id]
          exact ⟨_, rfl, d + x, rfl, by omega, by omega⟩
        · rw [if_neg c1]
          simp (disch := omega) only [uX10_strokesToPay_b33, w32_id, w64_id]
          exact ⟨_, rfl, d + 2, rfl, by omega, by omega⟩) (by omega)
  refine ⟨bb, ?_, q0, q1⟩
  simp only [uX10_strokesToPay, uX10_strokesToPay_b4, hbb, bd_some, uX10_strokesToPay_c4, uX10_strokesToPay_b41]
theorem op_buy {sh : Sh} {I : Mi} {J : Mj} (R : Rel (sh, I, J)) (b s m p : Int) : ∃ x sh1 I1 J1 I2, uX9_buy 0 b s m p (sh, I, J) = some (x, (sh1, I1, J1)) ∧ uX10_buy 57 b s m p (sh1, I1, J1) = some (x, (sh1, I2, J1)) ∧ Rel (sh1, I2, J1) := by
  have h : St sh := R.1.1
  obtain ⟨S, eS⟩ : ∃ S, ri (layI I) 59 = S := ⟨_, rfl⟩
  have r : RepC I S (rj J 63) := by have : RepC I (ri (layI I) 59) (rj J 63) := R.1.2.2.2.2.1; rwa [eS] at this
  obtain ⟨y, hy, hy2⟩ := c_payable h r J b s m p
  by_cases ok : Okp S b s m p
  · have yn : y ≠ 0 := fun q => hy2.mp q ok
    obtain ⟨G, hG⟩ : ∃ G : Int → Int, G = fun c => oc S c 0 := ⟨_, rfl⟩
    obtain ⟨W, hW⟩ : ∃ W, W = wvS S b s m (lkS S) := ⟨_, rfl⟩
    obtain ⟨l, hL⟩ : ∃ l, l = lkL S b (S 108).toNat := ⟨_, rfl⟩
    have u0 := r.iC.1
    have us_ := r.iC.st
    have lb := lkL_b S b (S 108).toNat
    rw [← hL] at lb
    have hC4 : ∀ c ∈ l, 0 ≤ c ∧ c < 40 := fun c hc => by have := lb.2.2 c hc; omega
    have okW : OkW G W l := by rw [hG, hW]; exact wvS_ok r.iL r.iC ok.1 ok.2.1 (lkS_b r.iL) fun c hc => ⟨(lb.2.2 c hc).1, by have := (lb.2.2 c hc).2; omega⟩
    have bD := DU_b okW.us p
    obtain ⟨I1, s1, f1, k1⟩ := c_findP h r J ok.1 ok.2.1 ok.2.2.1 ok.2.2.2.1 hG hW hL
    by_cases cD : DU G W (us W l) p < 100000000
    · obtain ⟨ws, hY, -⟩ := WY_ex okW p
      obtain ⟨wl, wb⟩ := WY_bd hY
      obtain ⟨k2, k3, k4, k5, k6, k7⟩ := k1 ws hY cD
      obtain ⟨A', s2, f2, d2⟩ := c_tellP h I1 J lb.1 wl hC4 wb k2 k3 k4
      have fA : ∀ a, a < 44 ∨ 52 < a → A' a = I a := fun a q => by rw [f2 a (by omega)]; exact f1 a (by omega)
      have kp : KpC I A' J J := fun a q1 q2 => ⟨fA a (by omega), rfl⟩
      obtain ⟨B1, t1, -, t3⟩ := r_payM R h kp eS r.iL r.iC ok hG hW hL
      obtain ⟨B2, t4, t5, t6, -, -, t9, t10⟩ := t3 ws hY cD
      have R2 := R.paid kp t5 t6 fA t9 t10 d2
      obtain ⟨sh', A1, J1, p1, p2, p3, p4, p5⟩ := push R2 J
      have rA : RepC A' S (rj J 63) := r.fr fun a _ _ => fA a (by omega)
      have ej : rj J1 63 = rj J 63 := rj_fun (p4 63 (by decide))
      have rA1 : RepC A1 S (rj J1 63) := by rw [ej]; exact rA.fr fun a _ _ => p3 a (by omega) (by omega)
      have a44 : A1 44 = I1 44 := by rw [p3 44 (by decide) (by decide), f2 44 (by decide)]
      have a45 : A1 45 = I1 45 := by rw [p3 45 (by decide) (by decide), f2 45 (by decide)]
      have a46 : A1 46 = I1 46 := by rw [p3 46 (by decide) (by decide), f2 46 (by decide)]
      obtain ⟨A2, z1, z2, z3⟩ := c_settle p2 J1 rA1 ok hG hW hL hY cD (by rw [gi_of I1 A1 _ a44]; exact k2) (fun i c q => by rw [ri_of I1 A1 _ a45]; exact k3 i c q) (fun i x q => by rw [ri_of I1 A1 _ a46]; exact k4 i x q) (by rw [gi_of I1 A1 _ a44]; exact k5) (by rw [gi_of I1 A1 _ a44]; exact k7)
      have kp2 : KpC I A2 J J1 := fun a q1 q2 => ⟨by rw [z2 a (by omega), p3 a (by omega) (by omega)]; exact fA a (by omega), p4 a (by omega)⟩
      obtain ⟨B1', t1', -, t3'⟩ := r_payM R p2 kp2 eS r.iL r.iC ok hG hW hL
      obtain ⟨B2', t4', t5', t6', t7', t8', t9', t10'⟩ := t3' ws hY cD
      have R3 := R.paid kp2 t5' t6' fA t9' t10' d2
      obtain ⟨Bn, s1n, s2n, s3n, RB1⟩ := p5 B2' J1 R3 sh' p2
      have eB2 : ri B2' 59 = S := (ri_fun (t5' 59 (by decide) (by decide))).trans ((ri_fun (lay_ag kp2 0).1.2.1).trans eS)
      have eBn : ri Bn 59 = S := (ri_fun (s2n 59 (by decide) (by decide))).trans eB2
      have lkn : LkX S W Bn l := ⟨by rw [s3n 31 (by decide)]; exact t7'.1, fun i c q => by rw [ri_of B2' Bn _ (s2n 68 (by decide) (by decide))]; exact ⟨(t7'.2 i c q).1, fun x x1 x2 => by rw [ri_of B2' Bn _ (s2n 69 (by decide) (by decide))]; exact (t7'.2 i c q).2 x x1 x2⟩⟩
      obtain ⟨B3, q1, q2, q3, q4⟩ := r_pay p2 (B := Bn) J1 (by rw [eBn]; exact fun _ _ => rfl) r.iL r.iC ok hG hW hL hY cD lkn (fun j x q => by rw [ri_of B2' Bn _ (s2n 72 (by decide) (by decide))]; exact t8' j x q)
      have lat := q4.e0 q3
      obtain ⟨tp, tp1, tp2, tp3⟩ := r_toPay p2 B2' J1 lb.1 wl wb t7'.1 t8'
      have fu_ := rX_isFull p2 B2' J1 (n := tp) tp2 (by omega) (by rw [eB2]; exact r.iC)
      have e11 : gi A' 44 11 = gvn ws := by rw [gi_of I1 A' _ (f2 44 (by decide))]; exact k5
      have e12 : gi A' 44 12 = rst ws := by rw [gi_of I1 A' _ (f2 44 (by decide))]; exact k6
      have gb := gvn_b ws
      have rb := rst_b ws
      rw [if_pos cD] at s1 t1'
      refine ⟨DU G W (us W l) p / 16, sh', A2, J1, B3, ?_, ?_, Rel.fin (A := A2) (RB1.act' (fun a ha => z2 a (by omega)) (fun a _ _ h3 => q2 a h3) (z3.of q3.rg) (by rw [eBn]; exact lat.1) (by rw [eBn]; exact lat.2.1) (by rw [eBn]; exact lat.2.2)) fun a ha => ?_⟩
      · simp only [uX9_buy, SEg h, SEr h, SEa h, SEk h, SEj h, SEl h, SEp h, SEs h, bd_some, bd2_some, hy]
        rw [if_neg yn]
        simp only [SEg h, SEr h, SEa h, SEk h, SEj h, SEl h, SEp h, SEs h, bd_some, bd2_some, s1]
        rw [if_neg (by omega)]
        simp (disch := omega) only [SEg h, SEr h, SEa h, SEk h, SEj h, SEl h, SEp h, SEs h, bd_some, bd2_some, s2, c_strokesLeft h rA, uX0_strokesNeeded, e11, e12, w32_id, w64_id]
        rw [if_pos (by omega)]
        simp only [p1, bd_some, SEr p2, SEk p2, z1]
      · simp only [uX10_buy, SEp p2, SEk p2, SEg p2, bd_some, bd2_some, rX_lay p2, t1']
        rw [if_pos (by omega)]
        simp only [SEk p2, bd_some, t4', tp1, fu_]
        rw [if_pos trivial]
        simp only [SEk p2, bd_some, s1n, q1]
      · rw [q2 a (by omega), s2n a (by omega) (by omega), t5' a (by omega) (by omega)]; exact KpR.lay A2 0 a ha
    · have kp : KpC I I1 J J := fun a q1 q2 => ⟨f1 a (by omega), rfl⟩
      obtain ⟨B1, t1, t2, -⟩ := r_payM R h kp eS r.iL r.iC ok hG hW hL
      rw [if_neg cD] at s1 t1
      refine ⟨-1, sh, I1, J, B1, ?_, ?_, R.unpaid kp t2.1 t2.2 f1⟩
      · simp only [uX9_buy, SEg h, SEr h, SEa h, SEk h, SEj h, SEl h, SEp h, SEs h, bd_some, bd2_some, hy]
        rw [if_neg yn]
        simp only [SEg h, SEr h, SEa h, SEk h, SEj h, SEl h, SEp h, SEs h, bd_some, bd2_some, s1]
        rw [if_pos trivial]
      · simp only [uX10_buy, SEg h, SEr h, SEa h, SEk h, SEj h, SEl h, SEp h, SEs h, bd_some, bd2_some, rX_lay h, t1]
        rw [if_neg (by decide)]
  · have y0 : y = 0 := hy2.mpr ok
    have eB : ri (layI (wi I 57 0 0)) 59 = S := (ri_fun (lay_ag (KpC.refl I J) 0).1.2.1).trans eS
    refine ⟨-2, sh, I, J, _, ?_, ?_, R.rd 0⟩
    · simp only [uX9_buy, SEg h, SEr h, SEa h, SEk h, SEj h, SEl h, SEp h, SEs h, bd_some, bd2_some, hy]
      rw [if_pos y0]
    · simp only [uX10_buy, SEg h, SEr h, SEa h, SEk h, SEj h, SEl h, SEp h, SEs h, bd_some, bd2_some, rX_lay h, r_layN h eB r.iL J ok]
      rw [if_neg (by decide)]
