theorem lp_l {α β : Type} {f : α → Option (α ⊕ β)} {n : Nat} {x z : α} (h : f x = some (.inl z)) : lp f (n + 1) x = lp f n z := by show bd (f x) _ = _; rw [h]; rfl
theorem lp_r {α β : Type} {f : α → Option (α ⊕ β)} {n : Nat} {x : α} {b : β} (h : f x = some (.inr b)) : lp f (n + 1) x = some b := by show bd (f x) _ = _; rw [h]; rfl
/-- seeds and what is drawn by them -/
def nx (sd : Int) : Int := w32 (w32 (sd * 1103515245) + 12345)
def dr (sd n : Int) : Int := ushr32 sd 8 % n
theorem dr_rem (sd : Int) {n : Int} (hn : 1 ≤ n ∧ n ≤ 1000) : rem32 (ushr32 sd 8) n = some (dr sd n) ∧ 0 ≤ dr sd n ∧ dr sd n < n := by
  have e := ushr32_eq sd (k := 8) (by decide) (.inl (by decide))
  have e2 : ((2 ^ (8 : Int).toNat : Nat) : Int) = 256 := by decide
  rw [e2] at e
  have b : 0 ≤ ushr32 sd 8 ∧ ushr32 sd 8 < 16777216 := by rw [e]; omega
  refine ⟨rem32_pos (by omega) (by omega), ?_⟩
  unfold dr
  exact ⟨Int.emod_nonneg _ (by omega), Int.emod_lt_of_pos _ (by omega)⟩
theorem w32_w (x : Int) : w32 (w32 x) = w32 x := by unfold w32; rw [show iv ((iv x).toInt) = iv x from iv_w32 x]
theorem nx_w (sd : Int) : nx (w32 sd) = nx sd := by
  have : w32 (w32 sd * 1103515245) = w32 (sd * 1103515245) := by
    unfold w32
    rw [← iv_mul, show iv ((iv sd).toInt) = iv sd from iv_w32 sd, iv_mul]
  unfold nx; rw [this]
theorem w32_nx (sd : Int) : w32 (nx sd) = nx sd := w32_w _
def tB (P sd : Int) : Int := dr (nx sd) P
def tD (P sd : Int) : Int := dr (nx (nx sd)) P
def tS (P sd : Int) : Int := if tD P sd = tB P sd then (if P ≤ tD P sd + 1 then 0 else tD P sd + 1) else tD P sd
def tM (Q sd : Int) : Int := dr (nx (nx (nx sd))) Q
def tP (sd : Int) : Int := dr (nx (nx (nx (nx sd)))) 200 + 1
def n4 (sd : Int) : Int := nx (nx (nx (nx sd)))
def gG (S : Int → Int) : Int → Int := fun c => oc S c 0
def gW (S : Int → Int) (b s m : Int) : Int → Int → Int := wvS S b s m (lkS S)
def gL (S : Int → Int) (b : Int) : List Int := lkL S b (S 108).toNat
def nrm (T : Int → Int) : Int → Int := fun x => T (x.toNat : Int)
theorem nrm_E0 (T : Int → Int) : E0 (nrm T) T := fun x hx => by unfold nrm; rw [Int.toNat_of_nonneg hx]
theorem nrm_of {B : Mi} {T : Int → Int} (e : E0 (ri B 59) T) : ri B 59 = nrm T := funext fun x => by
  have := e (x.toNat : Int) (by omega)
  unfold nrm
  rw [← this]
  show gi B 59 x.toNat = gi B 59 ((x.toNat : Int)).toNat
  rw [Int.toNat_natCast]
/-- what one turn of a market does to a state -/
def TrR (S : Int → Int) (b s m p x : Int) (S' : Int → Int) : Prop := ((Okp S b s m p ∧ DU (gG S) (gW S b s m) (us (gW S b s m) (gL S b)) p < 100000000) ∧ x = 1 ∧ ∃ ws, WY (gG S) (gW S b s m) (gL S b) p ws ∧ S' = nrm (paS S (gW S b s m) (gL S b) ws b s m p)) ∨ (¬ (Okp S b s m p ∧ DU (gG S) (gW S b s m) (us (gW S b s m) (gL S b)) p < 100000000) ∧ x = 0 ∧ S' = S)
theorem paS_Lat {S : Int → Int} (v : InvL S) (u : InvC S) {b s m p : Int} (ok : Okp S b s m p) {G : Int → Int} (hG : G = fun c => oc S c 0) {W : Int → Int → Int} (hW : W = wvS S b s m (lkS S)) {l : List Int} (hL : l = lkL S b (S 108).toNat) {ws : List Int} (hY : WY G W l p ws) (hD : DU G W (us W l) p < 100000000) : Lat S (paS S W l ws b s m p) := by
  obtain ⟨-, -, RI, -, -, HI, -⟩ := payF v u ok hG hW hL hY hD
  have n2 := (RI l.length (Nat.le_refl _)).2.2.1
  have Hn := HI (paG l ws).length (Nat.le_refl _)
  exact n2.trans (Hn.2.2.1.trans (salS_Lat Hn.2.1))
theorem TrR.lat {S S' : Int → Int} {b s m p x : Int} (t : TrR S b s m p x S') (v : InvL S) (u : InvC S) : Lat S S' ∧ (x = 0 ∨ x = 1) := by
  rcases t with ⟨⟨ok, hD⟩, hx, ws, hY, e⟩ | ⟨-, hx, e⟩
  · rw [e]; exact ⟨(paS_Lat v u ok rfl rfl rfl hY hD).e0 (nrm_E0 _), .inr hx⟩
  · rw [e]; exact ⟨Lat.refl _, .inl hx⟩
theorem c_trade {sh : Sh} (h : St sh) {I : Mi} {S nm : Int → Int} (r : RepC I S nm) (J : Mj) (b s m p : Int) : ∃ x S' I', uX9_trade 0 b s m p (sh, I, J) = some (x, (sh, I', J)) ∧ TrR S b s m p x S' ∧ (∀ a, a < 26 ∨ (36 < a ∧ a < 44) ∨ 51 < a → I' a = I a) ∧ RepC I' S' nm := by
  obtain ⟨y, hy, hy2⟩ := c_payable h r J b s m p
  by_cases ok : Okp S b s m p
  · have yn : y ≠ 0 := fun q => hy2.mp q ok
    obtain ⟨G, hG⟩ : ∃ G, G = gG S := ⟨_, rfl⟩
    obtain ⟨W, hW⟩ : ∃ W, W = gW S b s m := ⟨_, rfl⟩
    obtain ⟨l, hL⟩ : ∃ l, l = gL S b := ⟨_, rfl⟩
    have u0 := r.iC.1
    have us_ := r.iC.st
    have lb := lkL_b S b (S 108).toNat
    rw [show lkL S b (S 108).toNat = l from hL.symm] at lb
    have okW : OkW G W l := by rw [hG, hW]; exact wvS_ok r.iL r.iC ok.1 ok.2.1 (lkS_b r.iL) fun c hc => ⟨(lb.2.2 c hc).1, by have := (lb.2.2 c hc).2; omega⟩
    have bD := DU_b okW.us p
    obtain ⟨I1, s1, f1, k1⟩ := c_findP h r J ok.1 ok.2.1 ok.2.2.1 ok.2.2.2.1 hG hW hL
    by_cases cD : DU G W (us W l) p < 100000000
    · obtain ⟨ws, hY, -⟩ := WY_ex okW p
      obtain ⟨wl, wb⟩ := WY_bd hY
      obtain ⟨k2, k3, k4, k5, k6, k7⟩ := k1 ws hY cD
      have r1 : RepC I1 S nm := r.fr fun a _ _ => f1 a (by omega)
      obtain ⟨A2, z1, z2, z3⟩ := c_settle h J r1 ok hG hW hL hY cD k2 k3 k4 k5 k7
      have gb := gvn_b ws
      have rb := rst_b ws
      rw [if_pos cD] at s1
      refine ⟨1, nrm (paS S W l ws b s m p), A2, ?_, .inl ⟨⟨ok, by rw [← hG, ← hW, ← hL]; exact cD⟩, rfl, ws, by rw [← hG, ← hW, ← hL]; exact hY, by rw [← hW, ← hL]⟩, fun a q => by rw [z2 a (by omega), f1 a (by omega)], z3.of (nrm_E0 _).rg⟩
      simp only [uX9_trade, SEg h, SEr h, SEa h, SEk h, SEj h, SEl h, SEp h, SEs h, bd_some, bd2_some, hy]
      rw [if_neg yn]
      simp only [SEg h, SEr h, SEa h, SEk h, SEj h, SEl h, SEp h, SEs h, bd_some, bd2_some, s1]
      rw [if_neg (by omega)]
      simp (disch := omega) only [SEg h, SEr h, SEa h, SEk h, SEj h, SEl h, SEp h, SEs h, bd_some, bd2_some, c_strokesLeft h r1, uX0_strokesNeeded, k5, k6, w32_id, w64_id]
      rw [if_pos (by omega)]
      simp only [SEg h, SEr h, SEa h, SEk h, SEj h, SEl h, SEp h, SEs h, bd_some, bd2_some, z1]
    · rw [if_neg cD] at s1
      refine ⟨0, S, I1, ?_, .inr ⟨fun q => cD (by rw [hG, hW, hL]; exact q.2), rfl, rfl⟩, fun a q => f1 a (by omega), r.fr fun a _ _ => f1 a (by omega)⟩
      simp only [uX9_trade, SEg h, SEr h, SEa h, SEk h, SEj h, SEl h, SEp h, SEs h, bd_some, bd2_some, hy]
      rw [if_neg yn]
      simp only [SEg h, SEr h, SEa h, SEk h, SEj h, SEl h, SEp h, SEs h, bd_some, bd2_some, s1]
      rw [if_pos trivial]
  · refine ⟨0, S, I, ?_, .inr ⟨fun q => ok q.1, rfl, rfl⟩, fun _ _ => rfl, r⟩
    simp only [uX9_trade, SEg h, SEr h, SEa h, SEk h, SEj h, SEl h, SEp h, SEs h, bd_some, bd2_some, hy]
    rw [if_pos (hy2.mpr ok)]
theorem r_trade {sh : Sh} (h : St sh) {B : Mi} (J : Mj) {S S' : Int → Int} (eS : ri B 59 = S) (v : InvL S) (u : InvC S) {b s m p x : Int} (t : TrR S b s m p x S') : ∃ y B1, uX10_layPayment 57 b s m p (sh, B, J) = some (y, (sh, B1, J)) ∧ ((∀ a, a ≠ 57 → a ≠ 68 → a ≠ 69 → a ≠ 70 → a ≠ 72 → B1 a = B a) ∧ ∀ j, j ≠ 31 → B1 57 j = B 57 j) ∧ ((x = 0 ∧ y < 0 ∧ ri B1 59 = S') ∨ (x = 1 ∧ ¬ y < 0 ∧ ∃ tp B2, uX10_strokesToPay 57 (sh, B1, J) = some tp ∧ uX10_isFull 57 tp (sh, B1, J) = some 0 ∧ uX10_pay 57 b s m p (sh, B1, J) = some (sh, B2, J) ∧ (∀ a, a ≠ 59 → B2 a = B1 a) ∧ ri B2 59 = S')) := by
  rcases t with ⟨⟨ok, hD⟩, hx, ws, hY, e⟩ | ⟨hno, hx, e⟩
  · obtain ⟨B1, s1, f1, k1⟩ := r_layP h eS v u J ok.1 ok.2.1 ok.2.2.1 ok.2.2.2.1 ok.2.2.2.2 (G := gG S) rfl (W := gW S b s m) rfl (l := gL S b) rfl
    obtain ⟨k2, k3⟩ := k1 ws hY hD
    have e1 : ri B1 59 = S := (ri_fun (f1.1 59 (by decide) (by decide) (by decide) (by decide) (by decide))).trans eS
    have u0 := u.1
    have lb := lkL_b S b (S 108).toNat
    have okW : OkW (gG S) (gW S b s m) (gL S b) := wvS_ok v u ok.1 ok.2.1 (lkS_b v) fun c hc => ⟨(lb.2.2 c hc).1, by have := (lb.2.2 c hc).2; omega⟩
    have bD := DU_b okW.us p
    obtain ⟨wl, wb⟩ := WY_bd hY
    obtain ⟨tp, tp1, tp2, tp3⟩ := r_toPay h B1 J lb.1 wl wb k2.1 k3
    have fu_ := rX_isFull h B1 J (n := tp) tp2 (by omega) (by rw [e1]; exact u)
    obtain ⟨B2, q1, q2, q3, -⟩ := r_pay h (B := B1) J (by rw [e1]; exact fun _ _ => rfl) v u ok (G := gG S) rfl (W := gW S b s m) rfl (l := gL S b) rfl hY hD k2 k3
    rw [if_pos hD] at s1
    exact ⟨_, B1, s1, f1, .inr ⟨hx, by omega, tp, B2, tp1, fu_, q1, q2, by rw [e]; exact nrm_of q3⟩⟩
  · by_cases ok : Okp S b s m p
    · obtain ⟨B1, s1, f1, -⟩ := r_layP h eS v u J ok.1 ok.2.1 ok.2.2.1 ok.2.2.2.1 ok.2.2.2.2 (G := gG S) rfl (W := gW S b s m) rfl (l := gL S b) rfl
      rw [if_neg (fun q => hno ⟨ok, q⟩)] at s1
      exact ⟨-1, B1, s1, f1, .inl ⟨hx, by decide, by rw [e]; exact (ri_fun (f1.1 59 (by decide) (by decide) (by decide) (by decide) (by decide))).trans eS⟩⟩
    · exact ⟨-2, B, r_layN h eS v J ok, ⟨fun _ _ _ _ _ _ => rfl, fun _ _ => rfl⟩, .inl ⟨hx, by decide, by rw [e]; exact eS⟩⟩
/-- a market's turns -/
def MkR (P Q : Int) : Nat → Int → (Int → Int) → Int → Int → (Int → Int) → Prop
  | 0, _, S, f, f', S' => f' = f ∧ S' = S
  | k + 1, sd, S, f, f', S' => ∃ x S1, TrR S (tB P sd) (tS P sd) (tM Q sd) (tP sd) x S1 ∧ (InvL S1 ∧ InvC S1) ∧ MkR P Q k (n4 sd) S1 (f + x) f' S'
theorem c_mkL {sh : Sh} (h : St sh) (J : Mj) {nm : Int → Int} {P Q : Int} (hP : 1 ≤ P ∧ P ≤ 8) (hQ : 1 ≤ Q ∧ Q ≤ 4) {n : Nat} (hn : n ≤ 50) : ∀ (k fl j : Nat) (sd f : Int) (I : Mi) (S : Int → Int), RepC I S nm → k < fl → j + k = n → (0 ≤ f ∧ f ≤ j) → ∃ f' S' I', lp (uX9_market_f70 0 n P Q) fl (sd, f, (j : Int), (sh, I, J)) = some (f', (sh, I', J)) ∧ MkR P Q k sd S f f' S' ∧ (∀ a, a < 26 ∨ (36 < a ∧ a < 44) ∨ 51 < a → I' a = I a) ∧ RepC I' S' nm
  | _, 0, j, sd, f, I, S, r, hf, hj, hb => by omega
  | 0, fl + 1, j, sd, f, I, S, r, hf, hj, hb => by
    refine ⟨f, S, I, ?_, ⟨rfl, rfl⟩, fun _ _ => rfl, r⟩
    rw [lp_r]
    simp only [uX9_market_f70, uX9_market_s70]
    rw [if_pos (by omega)]
  | k + 1, fl + 1, j, sd, f, I, S, r, hf, hj, hb => by
    obtain ⟨x, S1, I1, s1, t1, f1, r1⟩ := c_trade h r J (tB P sd) (tS P sd) (tM Q sd) (tP sd)
    have xb := (t1.lat r.iL r.iC).2
    obtain ⟨f', S', I', s2, m2, f2, r2⟩ := c_mkL h J hP hQ hn k fl (j + 1) (n4 sd) (f + x) I1 S1 r1 (by omega) (by omega) (by omega)
    refine ⟨f', S', I', ?_, ⟨x, S1, t1, ⟨r1.iL, r1.iC⟩, m2⟩, fun a q => by rw [f2 a q, f1 a q], r2⟩
    rw [← s2]
    apply lp_l
    have nxs : ∀ (z : Int) (M : Mm), uX9_nextSeed z M = some (nx z) := fun _ _ => rfl
    have dd : ∀ (z q : Int) (M : Mm), 1 ≤ q ∧ q ≤ 1000 → uX9_drawn z q M = some (dr z q) := fun z q M hq => by
      simp only [uX9_drawn]
      rw [if_neg (by omega), (dr_rem z hq).1]; rfl
    have bD := (dr_rem (nx (nx sd)) (n := P) (by omega)).2
    have bP := (dr_rem (nx (nx (nx (nx sd)))) (n := 200) (by decide)).2
    have B131 : ∀ sl, sl = tS P sd → uX9_market_b131 0 n P Q (nx (nx sd)) f j (tB P sd) sl (sh, I, J) = some (.inl (n4 sd, f + x, ((j + 1 : Nat) : Int), (sh, I1, J))) := fun sl e => by
      subst e
      have eP : w32 (dr (nx (nx (nx (nx sd)))) 200 + 1) = tP sd := w32_id (by omega) (by omega)
      have eM : dr (nx (nx (nx sd))) Q = tM Q sd := rfl
      simp only [uX9_market_b131, nxs, bd_some, dd _ Q _ (show 1 ≤ Q ∧ Q ≤ 1000 from by omega), dd _ 200 _ (by decide), SEg h, SEr h, SEa h, SEk h, SEj h, SEl h, SEp h, SEs h, bd_some, bd2_some, eP, eM, s1]
      rw [w32_id (x := (j : Int) + 1) (by omega) (by omega)]
      rcases xb with q | q
      · rw [if_pos q, q, Int.add_zero]; rfl
      · rw [if_neg (by omega), q, w32_id (x := f + 1) (by omega) (by omega)]; rfl
    simp only [uX9_market_f70, uX9_market_s70, nxs, bd_some, dd _ P _ (show 1 ≤ P ∧ P ≤ 1000 from by omega)]
    rw [if_neg (by omega)]
    by_cases c1 : dr (nx (nx sd)) P = dr (nx sd) P
    · have eS : tS P sd = if P ≤ tD P sd + 1 then 0 else tD P sd + 1 := if_pos c1
      rw [if_pos c1, w32_id (by omega) (by omega)]
      by_cases c2 : P ≤ dr (nx (nx sd)) P + 1
      · rw [if_pos c2]
        exact B131 0 (by rw [eS]; exact (if_pos c2).symm)
      · rw [if_neg c2]
        exact B131 _ (by rw [eS]; exact (if_neg c2).symm)
    · rw [if_neg c1]
      exact B131 _ (if_neg c1).symm
