/-- alike but for the SALES -/
def SxE (T S : Int → Int) : Prop := ∀ x, 0 ≤ x → x < 4400 → x ≠ 113 → T x = S x
theorem SxE.refl (S : Int → Int) : SxE S S := fun _ _ _ _ => rfl
theorem stS_sx {S T : Int → Int} {c w m sale f : Int} (e : SxE T S) (hc : 0 ≤ c ∧ c < 40) (hm : 0 ≤ m ∧ m < 4) (hly : oc S c 3 ≤ 9) : SxE (stS T c w m sale f) (stS S c w m sale f) := fun x hx hx2 hx3 => by
  have em : ∀ k, 0 ≤ k → k < 3 → om T m k = om S m k := fun k h1 h2 => e _ (by omega) (by omega) (by omega)
  have eL : lfS T c (om T m 1) = lfS S c (om S m 1) := by
    rw [em 1 (by decide) (by decide)]; unfold lfS cn
    rw [show oc T c 3 = oc S c 3 from e _ (by omega) (by omega) (by omega)]
    exact suC_congr _ (fun i h1 h2 => by
      have q : fa T c i 1 = fa S c i 1 := e _ (by omega) (by omega) (by omega)
      simp only [q])
  unfold stS
  rw [eL, em 0 (by decide) (by decide), em 1 (by decide) (by decide), e 112 (by decide) (by decide) (by decide), e 115 (by decide) (by decide) (by decide), e 109 (by decide) (by decide) (by decide), e x hx hx2 hx3]
  by_cases h1 : 120 + 32 * c + 4 ≤ x
  · rw [e (x - 3) (by omega) (by omega) (by omega)]
  · have : ¬ (120 + 32 * c + 4 ≤ x ∧ x < 120 + 32 * c + 4 + 3 * (lfS S c (om S m 1) + 1)) := fun q => h1 q.1
    simp only [if_neg this]
theorem StrK.sx {S T : Int → Int} {c m : Int} (e : SxE T S) (k : StrK S c m) : StrK T c m := by
  obtain ⟨k0, k1, k2, k3, k4, k5, k6, k7, k8, k9⟩ := k
  have eo : ∀ k, 0 ≤ k → k < 32 → oc T c k = oc S c k := fun k hk h2 => e _ (by omega) (by omega) (by omega)
  have ef : ∀ i j, 0 ≤ i → i < 9 → 0 ≤ j → j < 3 → fa T c i j = fa S c i j := fun i j h1 h2 h3 h4 => eo _ (by omega) (by omega)
  refine ⟨k0.lo fun x h1 h2 => e x h1 (by omega) (by omega), by unfold isM; rw [e 1 (by decide) (by decide) (by decide)]; exact k1, k2, by rw [eo 0 (by decide) (by decide)]; exact k3, by rw [eo 3 (by decide) (by decide)]; exact k4, by rw [eo 2 (by decide) (by decide)]; exact k5, fun i h1 h2 => ?_, fun i h1 h2 => ?_, by rw [e 112 (by decide) (by decide) (by decide)]; exact k8, by rw [e 115 (by decide) (by decide) (by decide)]; exact k9⟩
  · rw [eo 3 (by decide) (by decide)] at h2; rw [ef i 1 h1 (by omega) (by decide) (by decide)]; exact k6 i h1 h2
  · rw [eo 3 (by decide) (by decide)] at h2; rw [ef i 1 h1 (by omega) (by decide) (by decide), ef (i + 1) 1 (by omega) (by omega) (by decide) (by decide)]; exact k7 i h1 h2
/-- a COIN's owner alone -/
def owS (S : Int → Int) (c w x : Int) : Int := if x = 120 + 32 * c + 1 then w else S x
theorem owS_x {S : Int → Int} {c w x : Int} (h : x ≠ 120 + 32 * c + 1) : owS S c w x = S x := if_neg h
theorem owS_oc {S : Int → Int} {c w d k : Int} (hc : 0 ≤ c) (hd : 0 ≤ d) (hk : 0 ≤ k ∧ k < 32) : oc (owS S c w) d k = if d = c ∧ k = 1 then w else oc S d k := by
  unfold oc owS
  by_cases h : d = c ∧ k = 1
  · rw [if_pos h, if_pos (by omega)]
  · rw [if_neg h, if_neg (by omega)]
theorem InvC.own {S : Int → Int} {c w : Int} (u : InvC S) (hc : isC S c) (hw : isW S w) : InvC (owS S c w) := by
  obtain ⟨u0, u1, u2, u3, u4, u5, u6, u7, u8, u9, ua⟩ := u
  have c40 : c < 40 := by omega
  have e : ∀ x, x < 120 → owS S c w x = S x := fun x h => owS_x (by omega)
  have eo : ∀ d k, 0 ≤ d → 0 ≤ k → k < 32 → k ≠ 1 → oc (owS S c w) d k = oc S d k := fun d k h1 h2 h3 h4 => by rw [owS_oc hc.1 h1 ⟨h2, h3⟩, if_neg (fun q => h4 q.2)]
  have ef : ∀ d i j, 0 ≤ d → 0 ≤ i → i < 9 → 0 ≤ j → j < 3 → fa (owS S c w) d i j = fa S d i j := fun d i j h1 h2 h3 h4 h5 => eo d _ h1 (by omega) (by omega) (by omega)
  have es : ∀ k j, 0 ≤ k → 0 ≤ j → sk (owS S c w) k j = sk S k j := fun k j h1 h2 => owS_x (by omega)
  refine ⟨by rw [e _ (by decide)]; exact u0, by rw [e _ (by decide)]; exact u1, by rw [e _ (by decide), e _ (by decide)]; unfold isW; rw [e _ (by decide)]; exact u2, ?_, by rw [e _ (by decide), e _ (by decide)]; exact u4, by rw [e _ (by decide), e _ (by decide)]; exact u5, ?_, ?_, ?_, ?_, ?_⟩
  · rw [e _ (by decide), e _ (by decide), u3]; exact (suC_congr _ fun i h1 h2 => eo i 2 h1 (by decide) (by decide) (by decide)).symm
  · rw [e _ (by decide), e _ (by decide), e _ (by decide), u6]; exact (suC_congr _ fun i h1 h2 => eo i 0 h1 (by decide) (by decide) (by decide)).symm
  · unfold isC isW; rw [e _ (by decide), e _ (by decide)]; intro d hd
    have := u7 d hd
    rw [eo d 0 hd.1 (by decide) (by decide) (by decide), eo d 2 hd.1 (by decide) (by decide) (by decide), eo d 3 hd.1 (by decide) (by decide) (by decide), owS_oc hc.1 hd.1 (by decide)]
    refine ⟨this.1, ?_, this.2.2⟩
    split
    · exact hw
    · exact this.2.1
  · unfold isC isW; rw [e _ (by decide), e _ (by decide), e _ (by decide)]; intro d i hd h1 h2
    rw [eo d 3 hd.1 (by decide) (by decide) (by decide)] at h2
    have h7 := u7 d hd
    have := u8 d i hd h1 h2
    rw [ef d i 0 hd.1 h1 (by omega) (by decide) (by decide), ef d i 1 hd.1 h1 (by omega) (by decide) (by decide), ef d i 2 hd.1 h1 (by omega) (by decide) (by decide), es _ 0 this.2.2.1.1 (by decide), es _ 1 this.2.2.1.1 (by decide)]
    exact this
  · unfold isC; rw [e _ (by decide)]; intro d i hd h1 h2
    rw [eo d 3 hd.1 (by decide) (by decide) (by decide)] at h2
    have h7 := u7 d hd
    rw [ef d i 1 hd.1 h1 (by omega) (by decide) (by decide), ef d (i + 1) 1 hd.1 (by omega) (by omega) (by decide) (by decide)]
    exact u9 d i hd h1 h2
  · unfold isC isW isM; rw [e _ (by decide), e _ (by decide), e _ (by decide), e _ (by decide)]; intro k h1 h2
    rw [es k 0 h1 (by decide), es k 1 h1 (by decide), es k 2 h1 (by decide), es k 5 h1 (by decide)]
    exact ua k h1 h2
theorem Rep3.own {A : Mi} {S nm : Int → Int} {c w : Int} (r : Rep3 A S nm) (hc : 0 ≤ c) (hc2 : c < 40) (h40 : S 108 ≤ 40) (hS : S 0 ≤ 8) (hS1 : S 1 ≤ 4) (hly : ∀ d, 0 ≤ d → d < S 108 → oc S d 3 ≤ 9) (hw : rg w) : Rep3 (we A 28 c w) (owS S c w) nm := by
  obtain ⟨⟨l0, l1, l2, l3, l4, l5, l6, l7, l8, l9⟩, ⟨g0, g1, g2, g3, g4, g5, g6, g7, g8, g9, g10, g11, g12, g13, g14, g15, g16⟩, t0, t1, t2, t3⟩ := r
  have e : ∀ x, x < 120 → owS S c w x = S x := fun x h => owS_x (by omega)
  have fA : ∀ a, a ≠ 28 → we A 28 c w a = A a := fun a ha => we_at _ _ _ ha
  have eo : ∀ d k, 0 ≤ d → 0 ≤ k → k < 32 → k ≠ 1 → oc (owS S c w) d k = oc S d k := fun d k h1 h2 h3 h4 => by rw [owS_oc hc h1 ⟨h2, h3⟩, if_neg (fun q => h4 q.2)]
  have g26 : ∀ j, gi (we A 28 c w) 26 j = gi A 26 j := fun j => gi_of _ _ _ (fA 26 (by decide))
  refine ⟨LawR.fr (I := A) (fun a h1 h2 => fA a (by omega)) ⟨?_, ?_, ?_, ?_, ?_, ?_, ?_, ?_, ?_, ?_⟩, ⟨?_, ?_, ?_, ?_, ?_, ?_, ?_, ?_, ?_, ?_, ?_, ?_, ?_, ?_, ?_, ?_, ?_⟩, TbR.fr (fA _ (by decide)) (fA _ (by decide)) (fA _ (by decide)) (fA _ (by decide)) ⟨t0, t1, ?_, ?_⟩⟩
  · rw [e _ (by decide)]; exact l0
  · rw [e _ (by decide)]; exact l1
  · rw [e _ (by decide)]; exact l2
  · intro j h1 h2; rw [e _ (by omega)]; exact l3 j h1 h2
  · rw [e _ (by decide)]; exact l4
  · rw [e _ (by decide)]; intro x h1 h2; rw [show ow (owS S c w) x 0 = ow S x 0 from e _ (by omega)]; exact l5 x h1 h2
  · rw [e _ (by decide)]; intro x h1 h2; rw [show ow (owS S c w) x 1 = ow S x 1 from e _ (by omega)]; exact l6 x h1 h2
  · rw [e _ (by decide)]; intro x h1 h2; rw [show om (owS S c w) x 0 = om S x 0 from e _ (by omega)]; exact l7 x h1 h2
  · rw [e _ (by decide)]; intro x h1 h2; rw [show om (owS S c w) x 1 = om S x 1 from e _ (by omega)]; exact l8 x h1 h2
  · rw [e _ (by decide)]; intro a b h1 h2 h3 h4; rw [show ot (owS S c w) a b = ot S a b from e _ (by omega)]; exact l9 a b h1 h2 h3 h4
  · rw [g26, e _ (by decide)]; exact g0
  · rw [g26, e _ (by decide)]; exact g1
  · rw [g26, e _ (by decide)]; exact g2
  · rw [g26, e _ (by decide)]; exact g3
  · rw [g26, e _ (by decide)]; exact g4
  · rw [g26, e _ (by decide)]; exact g5
  · rw [g26, e _ (by decide)]; exact g6
  · rw [g26]; exact g7
  · rw [g26, e _ (by decide)]; intro x h1 h2; rw [show ow (owS S c w) x 2 = ow S x 2 from e _ (by omega)]; exact g8 x h1 h2
  · rw [g26]; exact g9
  · rw [g26, e _ (by decide)]; intro x h1 h2; rw [show om (owS S c w) x 2 = om S x 2 from e _ (by omega)]; exact g10 x h1 h2
  · rw [e _ (by decide)]; intro d h1 h2; rw [eo d 0 h1 (by decide) (by decide) (by decide), ri_of A _ _ (fA 27 (by decide))]; exact g11 d h1 h2
  · rw [e _ (by decide)]; intro d h1 h2
    show ri (we A 28 c w) 28 d = _
    rw [owS_oc hc h1 (by decide), ri_we _ _ _ _ hc h1, w32_eq hw]
    by_cases hd : d = c
    · rw [if_pos ⟨rfl, hd⟩, if_pos ⟨hd, rfl⟩]
    · rw [if_neg (fun q => hd q.2), if_neg (fun q => hd q.1)]; exact g12 d h1 h2
  · rw [e _ (by decide)]; intro d h1 h2; rw [eo d 2 h1 (by decide) (by decide) (by decide), ri_of A _ _ (fA 29 (by decide))]; exact g13 d h1 h2
  · rw [e _ (by decide)]; intro d h1 h2; rw [eo d 3 h1 (by decide) (by decide) (by decide), ri_of A _ _ (fA 30 (by decide))]; exact g14 d h1 h2
  · rw [e _ (by decide)]; intro d i h1 h2 h3 h4; rw [eo d 3 h1 (by decide) (by decide) (by decide)] at h4
    have := hly d h1 h2
    rw [show fa (owS S c w) d i 2 = fa S d i 2 from eo d _ h1 (by omega) (by omega) (by omega), ri_of A _ _ (fA 31 (by decide))]; exact g15 d i h1 h2 h3 h4
  · rw [e _ (by decide)]; intro d i h1 h2 h3 h4; rw [eo d 3 h1 (by decide) (by decide) (by decide)] at h4
    have := hly d h1 h2
    rw [show fa (owS S c w) d i 1 = fa S d i 1 from eo d _ h1 (by omega) (by omega) (by omega), ri_of A _ _ (fA 32 (by decide))]; exact g16 d i h1 h2 h3 h4
  · rw [e _ (by decide)]; intro k j h1 h2 h3 h4
    rw [show sk (owS S c w) k j = sk S k j from owS_x (by omega)]; exact t2 k j h1 h2 h3 h4
  · rw [e _ (by decide)]; intro k j h1 h2 h3 h4
    rw [show osl (owS S c w) k j = osl S k j from owS_x (by omega)]; exact t3 k j h1 h2 h3 h4
/-- a COIN is handed over -/
def hoS (S : Int → Int) (c w m k : Int) : Int → Int := owS (stS S c w m k 0) c w
abbrev hoA (a : Nat) : Prop := strA a ∨ a = 28
theorem c_handOver {sh : Sh} (h : St sh) {A : Mi} (J : Mj) {S T nm : Int → Int} {c w m k : Int} (r : Rep3 A T nm) (x : SxE T S) (v : InvL S) (u : InvC S) (hc : isC S c) (hm : isM S m) (h8 : oc S c 2 ≤ 8) (hw : isW S w) (hk : rg k) :
    ∃ A1, uX8_handOver 16 c w m k (sh, A, J) = some (sh, A1, J) ∧ (∀ a, ¬ hoA a → A1 a = A a) ∧ Rep3 A1 (hoS T c w m k) nm := by
  have v0 := v.1
  have v1 := v.2.1
  have u0 := u.1
  have us := u.st
  have e108 : T 108 = S 108 := x 108 (by decide) (by decide) (by decide)
  have e0 : T 0 = S 0 := x 0 (by decide) (by decide) (by decide)
  have e1 : T 1 = S 1 := x 1 (by decide) (by decide) (by decide)
  have e12 : T 112 = S 112 := x 112 (by decide) (by decide) (by decide)
  have kS := StrK.ofI v u hc hm h8
  have kT := kS.sx x
  have hly : ∀ d, 0 ≤ d → d < T 108 → oc T d 3 ≤ 9 := fun d h1 h2 => by
    have := u.2.2.2.2.2.2.2.1 d ⟨h1, by omega⟩
    rw [show oc T d 3 = oc S d 3 from x _ (by omega) (by omega) (by omega)]; omega
  have hL := kT.L
  have kT4 := kT.2.2.2.2.1
  have hLS : 0 ≤ lfS T c (om T m 1) ∧ lfS T c (om T m 1) ≤ 8 := by omega
  obtain ⟨A1, a1, a2, a3⟩ := c_strike h J (c := c) (w := w) (m := m) (sale := k) (f := 0) r kT (by omega) (by omega) hly (by omega) hk (by decide)
  have hn : 0 ≤ T 112 := by omega
  have c40 : 0 ≤ c ∧ c < 40 := by omega
  refine ⟨we A1 28 c w, ?_, fun a ha => by rw [we_at _ _ _ (fun q => ha (.inr q))]; exact a2 a (fun q => ha (.inl q)), a3.own hc.1 c40.2 ?_ ?_ ?_ ?_ (by omega)⟩
  · have g0 : gi A 26 0 = S 108 := r.2.1.1.trans e108
    simp (disch := omega) only [uX8_handOver, uX8_isCoin, SEg h, SEr h, SEa h, SEk h, SEj h, SEl h, SEp h, SEs h, bd_some, bd2_some, g0]
    rw [if_neg (by omega), if_neg (by omega), if_neg (by omega)]
    simp (disch := omega) only [bd_some, Int.reduceEq, ↓reduceIte, a1, SEg h, SEr h, SEa h, SEk h, SEj h, SEl h, SEp h, SEs h, bd_some, bd2_some]
  · rw [stS_lo hc.1 hn (by omega)]; omega
  · rw [stS_lo hc.1 hn (by omega)]; omega
  · rw [stS_lo hc.1 hn (by omega)]; omega
  · rw [stS_lo hc.1 hn (by omega)]; intro d h1 h2
    by_cases hd : d = c
    · rw [hd, stS_oc3 c40]; omega
    · rw [stS_oc c40 hn ⟨h1, by omega⟩ (by decide) hLS hd]; exact hly d h1 h2
theorem r_handOver {sh : Sh} (h : St sh) {B : Mi} (J : Mj) {S : Int → Int} {c w m k : Int} (e : E0 (ri B 59) S) (ks : StrK S c m) (hw : rg w) (hk : rg k) :
    ∃ Bs B1, uX10_strike 57 c w m k 0 (sh, B, J) = some (sh, Bs, J) ∧ sI 12 (sh, Bs, J) 59 (120 + 32 * c + 1) w = some (sh, B1, J) ∧ (∀ a, a ≠ 59 → Bs a = B a) ∧ (∀ a, a ≠ 59 → B1 a = B a) ∧ E0 (ri Bs 59) (stS S c w m k 0) ∧ E0 (ri B1 59) (hoS S c w m k) := by
  have c40 := ks.2.2.1
  have hm := ks.2.1
  obtain ⟨Bs, b1, b2, b3⟩ := rX_strike h J (I := B) (c := c) (w := w) (m := m) (sale := k) (f := 0) (ks.of e) hw hk (by decide)
  have Es : E0 (ri Bs 59) (stS S c w m k 0) := fun x hx => (b3 x hx).trans (stS_cong e c40.1 hm.1 x hx)
  refine ⟨Bs, we Bs 59 (120 + 32 * c + 1) w, b1, ?_, b2, fun a ha => by rw [we_at _ _ _ ha]; exact b2 a ha, Es, fun x hx => ?_⟩
  · simp (disch := omega) only [SEg h, SEr h, SEa h, SEk h, SEj h, SEl h, SEp h, SEs h, bd_some, bd2_some]
  · rw [we59 _ _ (by omega) hx, w32_eq hw]
    show _ = if x = 120 + 32 * c + 1 then w else stS S c w m k 0 x
    rw [Es x hx]
/-- what handing over keeps -/
theorem hoS_x {S : Int → Int} {c w m k x : Int} (hc : 0 ≤ c ∧ c < 40) (hn : 0 ≤ S 112 ∧ S 112 < 500) (hL : 0 ≤ lfS S c (om S m 1) ∧ lfS S c (om S m 1) ≤ 8) (h : x < 112 ∨ x = 113 ∨ x = 114 ∨ x = 116 ∨ x = 117 ∨ 4400 ≤ x) : hoS S c w m k x = S x := by
  unfold hoS
  rw [owS_x (by omega)]
  rcases (by omega : (x < 112 ∨ x = 113 ∨ x = 114 ∨ x = 116 ∨ x = 117) ∨ 4400 ≤ x) with q | q
  · exact stS_lo hc.1 hn.1 q
  · exact stS_hi hc hn hL q
theorem hoS_oc {S : Int → Int} {c w m k d j : Int} (hc : 0 ≤ c ∧ c < 40) (hn : 0 ≤ S 112) (hL : 0 ≤ lfS S c (om S m 1) ∧ lfS S c (om S m 1) ≤ 8) (hd : 0 ≤ d ∧ d < 40) (hj : 0 ≤ j ∧ j < 32) (h : d ≠ c) : oc (hoS S c w m k) d j = oc S d j := by
  unfold hoS; rw [owS_oc hc.1 hd.1 hj, if_neg (fun q => h q.1), stS_oc hc hn hd hj hL h]
theorem hoS_inv {S : Int → Int} {c w m k : Int} (v : InvL S) (u : InvC S) (hc : isC S c) (hm : isM S m) (h8 : oc S c 2 ≤ 8) (hg : 1 ≤ oc S c 0 - om S m 0) (hw : isW S w) : InvL (hoS S c w m k) ∧ InvC (hoS S c w m k) ∧ Lat S (hoS S c w m k) ∧ hoS S c w m k 112 = S 112 + 1 := by
  have ks := StrK.ofI v u hc hm h8
  have us := u.st
  have u0 := u.1
  have u4 := u.2.2.2.2.1
  have v0 := v.1
  have hn := us.1
  have c40 : 0 ≤ c ∧ c < 40 := by omega
  have hL := ks.L
  have ks4 := ks.2.2.2.2.1
  have hLS : 0 ≤ lfS S c (om S m 1) ∧ lfS S c (om S m 1) ≤ 8 := by omega
  have v' : InvL (hoS S c w m k) := v.lo fun x h1 h2 => hoS_x c40 (by omega) hLS (by omega)
  have us' := u.str (sale := k) v hc hm h8 hg hw (f := 0) (.inl rfl)
  have e8 : stS S c w m k 0 108 = S 108 := stS_lo hc.1 hn (by omega)
  have e0 : stS S c w m k 0 0 = S 0 := stS_lo hc.1 hn (by omega)
  have lat : Lat S (stS S c w m k 0) := stS_Lat ks (by omega) (fun _ _ => rfl)
  have lat2 : Lat (stS S c w m k 0) (hoS S c w m k) := ⟨fun x h1 h2 _ => (owS_x (by omega)).symm, ⟨Int.le_of_eq (owS_x (by omega)).symm, Int.le_of_eq (owS_x (by omega)).symm, fun k' j h1 h2 h3 h4 => by show _ = owS _ c w (1400 + 6 * k' + j); rw [owS_x (by omega)]; rfl, fun k' j h1 h2 h3 h4 => by show _ = owS _ c w (4400 + 7 * k' + j); rw [owS_x (by omega)]; rfl⟩, owS_x (by omega), owS_x (by omega), fun x hx => owS_x (by omega)⟩
  exact ⟨v', us'.own (by unfold isC; rw [e8]; exact hc) (by unfold isW; rw [e0]; exact hw), lat.trans lat2, (owS_x (by omega)).trans (stS_112 hc.1 hn)⟩
theorem hoS_sx {S T : Int → Int} {c w m k : Int} (e : SxE T S) (hc : 0 ≤ c ∧ c < 40) (hm : 0 ≤ m ∧ m < 4) (hly : oc S c 3 ≤ 9) : SxE (hoS T c w m k) (hoS S c w m k) := fun x h1 h2 h3 => by
  show (if _ then _ else _) = (if _ then _ else _)
  rw [stS_sx e hc hm hly x h1 h2 h3]
