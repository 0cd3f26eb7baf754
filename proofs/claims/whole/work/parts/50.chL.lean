/-- where the reference's reading begins -/
def bgM (L m : Int) (A : Mi) : Mi := wi (wi (wi (wi (wi (layI (wi A 57 0 0)) 57 2 0) 57 3 L) 57 4 m) 57 10 0) 57 5 0
theorem bgM_at (L m : Int) (A : Mi) {a : Nat} (h : a ≠ 57) : bgM L m A a = layI (wi A 57 0 0) a := by
  unfold bgM; rw [wi_at _ _ _ h, wi_at _ _ _ h, wi_at _ _ _ h, wi_at _ _ _ h, wi_at _ _ _ h]
theorem bgM_57 (L m : Int) (A : Mi) {j : Nat} (h : j ≠ 2 ∧ j ≠ 3 ∧ j ≠ 4 ∧ j ≠ 5 ∧ j ≠ 10) : gi (bgM L m A) 57 j = gi (layI (wi A 57 0 0)) 57 j := by
  unfold bgM
  rw [gi_wiw, if_neg (by omega), gi_wiw, if_neg (by omega), gi_wiw, if_neg (by omega), gi_wiw, if_neg (by omega), gi_wiw, if_neg (by omega)]
theorem bgM_v {L m : Int} (A : Mi) (hL : 0 ≤ L ∧ L ≤ 740) (hm : 0 ≤ m ∧ m ≤ 740) : gi (bgM L m A) 57 2 = 0 ∧ gi (bgM L m A) 57 3 = L ∧ gi (bgM L m A) 57 4 = m ∧ gi (bgM L m A) 57 5 = 0 ∧ gi (bgM L m A) 57 10 = 0 := by
  have e0 : w32 0 = 0 := rfl
  unfold bgM
  refine ⟨?_, ?_, ?_, ?_, ?_⟩
  · simp [gi_wiw, e0]
  · simp [gi_wiw]; exact w32_id (by omega) (by omega)
  · simp [gi_wiw]; exact w32_id (by omega) (by omega)
  · simp [gi_wiw, e0]
  · simp [gi_wiw, e0]
theorem r_begin {sh : Sh} (h : St sh) {L m : Int} (A : Mi) (J : Mj) (hL : gi A 57 2 = L) : uX10_begin 57 m (sh, A, J) = bd (uX10_go 57 (sh, bgM L m A, J)) (fun M => some M) := by
  have e2 : gi (layI (wi A 57 0 0)) 57 2 = L := by rw [layI_57 _ (by decide), gi_wiw, if_neg (by decide)]; exact hL
  simp only [uX10_begin, SEg h, SEr h, SEa h, SEk h, SEj h, SEl h, SEp h, SEs h, bd_some, bd2_some, rX_lay h, uX10_take, e2]
  rfl
/-- the tape as both have it -/
def tpF (I : Mi) (k : Int) : Int := if 0 ≤ k ∧ k < 740 then ri I 2 k else 0
theorem tpF_b {I : Mi} (T : TapR I I) (k : Int) : 0 ≤ tpF I k ∧ tpF I k ≤ 255 := by
  unfold tpF; split
  · rename_i c
    have := T.2.2 k c.1 c.2
    omega
  · decide
theorem tpC0 {I A : Mi} (T : TapR I I) (h1 : gi A 1 1 = gi I 1 1) (h2 : A 2 = I 2) : TpC (tpF I) (gi I 1 1) A := by
  refine ⟨h1, by rw [T.1]; exact T.2.1, fun k k1 k2 => ?_, tpF_b T⟩
  rw [ri_fun h2]; unfold tpF; rw [if_pos ⟨k1, k2⟩]
theorem tpX0 {I A : Mi} (T : TapR I I) {m : Int} (hm : 0 ≤ m ∧ m ≤ 740) (h58 : A 58 = I 58) : TpX (tpF I) (gi I 1 1) (bgM (gi I 1 1) m A) := by
  have hL : 0 ≤ gi I 1 1 ∧ gi I 1 1 ≤ 740 := by rw [T.1]; exact T.2.1
  refine ⟨(bgM_v A hL hm).2.1, hL, fun k k1 k2 => ?_, tpF_b T⟩
  rw [ri_fun (bgM_at _ _ A (by decide)), ri_fun (layI_at _ (by decide) (by decide)), ri_fun (wi_at _ _ _ (by decide)), ri_fun h58]
  unfold tpF; rw [if_pos ⟨k1, k2⟩]
  exact (T.2.2 k k1 k2).1.symm
theorem bitI_00 {w : Int} (hw : 0 ≤ w ∧ w < 32) : bitI 0 w = 0 := by
  rw [bitI_tb (by decide) hw]; simp
theorem op_law {sh : Sh} {I : Mi} {J : Mj} (R : Rel (sh, I, J)) : ∃ x sh1 I1 J1 I2 J2, uX9_law 0 (sh, I, J) = some (x, (sh1, I1, J1)) ∧ uX10_law 57 (sh1, I1, J1) = some (x, (sh1, I2, J2)) ∧ Rel (sh1, I2, J2) := by
  have h : St sh := R.1.1
  have al : AllocR sh := R.1.2.1
  have T := R.tap
  have hL : 0 ≤ gi I 1 1 ∧ gi I 1 1 ≤ 740 := by rw [T.1]; exact T.2.1
  have r : RepC I (ri (layI I) 59) (rj J 63) := R.two.2.2.2.2.1
  obtain ⟨A0, hA0⟩ : ∃ A0, A0 = wi (wi I 1 2 700) 1 3 0 := ⟨_, rfl⟩
  have A0at : ∀ a, a ≠ 1 → A0 a = I a := fun a ha => by rw [hA0, wi_at _ _ _ ha, wi_at _ _ _ ha]
  have A01 : ∀ j, j ≠ 2 → j ≠ 3 → A0 1 j = I 1 j := fun j j1 j2 => by rw [hA0, wi_nc _ _ (fun z => j2 z.2), wi_nc _ _ (fun z => j1 z.2)]
  have pA : TpC (tpF I) (gi I 1 1) A0 := tpC0 T (gi_fk (A01 1 (by decide) (by decide))) (A0at 2 (by decide))
  have g2 : gi A0 1 2 = 700 := by rw [hA0, gi_wiw, if_neg (by decide), gi_wiw, if_pos ⟨rfl, rfl⟩]; rfl
  have g3 : gi A0 1 3 = 0 := by rw [hA0, gi_wiw, if_pos ⟨rfl, rfl⟩]; rfl
  have core : ∀ X : Mi, X 58 = I 58 → ∀ K : Mj, _ := fun X hX K => lawCore h J (J := K) pA g2 g3 (tpX0 (A := X) T (m := 700) (by decide) hX) (bgM_v X hL (by decide)).2.2.1 (bgM_v X hL (by decide)).2.2.2.1 (bgM_v X hL (by decide)).2.2.2.2
  obtain ⟨r0, A', -, -, s1, -, FA, -⟩ := core I rfl J
  have A'at : ∀ a, a ≠ 1 → (a < 3 ∨ 11 < a) → A' a = I a := fun a a1 a2 => by rw [FA.1 a a1 a2, A0at a a1]
  have rfl0 : ∀ X : Mi, gi X 57 2 = gi I 1 1 → ∀ K, uX10_law 57 (sh, X, K) = bd (uX10_go 57 (sh, bgM (gi I 1 1) 700 X, K)) (fun M => uX10_law_b9 57 0 M) := fun X hX K => by
    simp only [uX10_law, SEg h, SEr h, SEa h, SEk h, SEj h, SEl h, SEp h, SEs h, bd_some, bd2_some, r_begin h X K hX]
    cases uX10_go 57 (sh, bgM (gi I 1 1) 700 X, K) <;> rfl
  by_cases c : r0 = 0
  · -- the LAW stands
    subst c
    obtain ⟨A1, hA1⟩ : ∃ A1, A1 = wi (wi A' 0 1 0) 1 1 0 := ⟨_, rfl⟩
    have A1at : ∀ a, a ≠ 0 → a ≠ 1 → A1 a = A' a := fun a a1 a2 => by rw [hA1, wi_at _ _ _ a2, wi_at _ _ _ a1]
    obtain ⟨A5, e1, e2, e3, e4, e5, e6⟩ := c_lawEnd h A1 J
    obtain ⟨A6, hA6⟩ : ∃ A6, A6 = wi A5 41 2 0 := ⟨_, rfl⟩
    have A6at : ∀ a, a ≠ 41 → A6 a = A5 a := fun a ha => by rw [hA6, wi_at _ _ _ ha]
    have A6I : ∀ a, 11 < a → ¬ (17 ≤ a ∧ a ≤ 26) → a ≠ 37 → a ≠ 41 → A6 a = I a := fun a a1 a2 a3 a4 => by rw [A6at a a4, e2 a a2 a3, A1at a (by omega) (by omega), A'at a (by omega) (by omega)]
    have A62 : A6 2 = I 2 := by rw [A6at 2 (by decide), e2 2 (by decide) (by decide), A1at 2 (by decide) (by decide), A'at 2 (by decide) (by decide)]
    have gA1 : gi A1 0 1 = 0 := by rw [hA1, gi_wiw, if_neg (by decide), gi_wiw, if_pos ⟨rfl, rfl⟩]; rfl
    have n5 : gi A6 3 0 = gi A' 3 0 := by rw [gi_of A5 A6 _ (A6at 3 (by decide)), gi_of A1 A5 _ (e2 3 (by decide) (by decide)), gi_of A' A1 _ (A1at 3 (by decide) (by decide))]
    have g01 : gi A6 0 1 = 0 := by rw [gi_of A5 A6 _ (A6at 0 (by decide)), gi_of A1 A5 _ (e2 0 (by decide) (by decide))]; exact gA1
    have g11 : gi A6 1 1 = 0 := by rw [gi_of A5 A6 _ (A6at 1 (by decide)), gi_of A1 A5 _ (e2 1 (by decide) (by decide)), hA1, gi_wiw, if_pos ⟨rfl, rfl⟩]; rfl
    have cl : uX9_law 0 (sh, I, J) = some (gi A' 3 0, (sh, A6, J)) := by
      simp only [uX9_law, SEg h, SEr h, SEa h, SEk h, SEj h, SEl h, SEp h, SEs h, bd_some, bd2_some, uX7_begin, ← hA0, s1, ← hA1, gA1, e1, uX2_forget, ← hA6, n5]
      rw [if_pos trivial]
    have kp : KpC I A6 J J := fun a a1 a2 => ⟨A6I a (by omega) (by omega) (by omega) (by omega), rfl⟩
    have R3 := R.lay kp 0
    have gL : gi A6 57 2 = gi I 1 1 := by rw [gi_of I A6 _ (kp 57 (by decide) (by decide)).1, T.1]
    obtain ⟨r1, A2, B', J', s2, s3, -, FBx⟩ := core A6 (kp 58 (by decide) (by decide)).1 J
    rw [s1] at s2
    injection s2 with s2
    injection s2 with y1 y2
    injection y2 with y2 y3
    injection y3 with y3 y4
    subst y1 y3
    rcases s3 with ⟨-, s3, d, f10, nb⟩ | ⟨z, -⟩
    · obtain ⟨B2, J2, d1, d2, d3, d4, d5, d6, d7, d8⟩ := r_lawEnd h B' J' (gi A' 3 0)
      have B2at : ∀ a, a ≠ 57 → a ≠ 59 → a ≠ 60 → B2 a = layI (wi A6 57 0 0) a := fun a a1 a2 a3 => by rw [d2 a a1 a2, FBx.1 a a1 a3, bgM_at _ _ _ a1]
      have B257 : ∀ j, j ∉ [2, 3, 4, 5, 6, 7, 8, 9, 10, 11, 13, 23, 24] → gi B2 57 j = gi (layI (wi A6 57 0 0)) 57 j := fun j hj => by
        simp only [List.mem_cons, List.not_mem_nil, or_false, not_or] at hj
        rw [d3 j (by omega), gi_fk (FBx.2.1 j (by simp only [List.mem_cons, List.not_mem_nil, or_false, not_or]; omega)), bgM_57 _ _ _ (by omega)]
      have B22 : gi B2 57 2 = 0 := by rw [d3 2 (by decide), gi_fk (FBx.2.1 2 (by decide))]; exact (bgM_v A6 hL (by decide)).1
      have B210 : gi B2 57 10 = 0 := by rw [d3 10 (by decide)]; exact f10
      obtain ⟨S, hS⟩ : ∃ S, S = ri B2 59 := ⟨_, rfl⟩
      have S0 : ∀ x, 0 ≤ x → x < 108 → S x = ri B' 60 x := fun x x1 x2 => by rw [hS]; exact d6 x x1 x2
      have S1 : ∀ x, 108 ≤ x → x < 120 → x ≠ 110 → x ≠ 111 → S x = 0 := fun x x1 x2 x3 x4 => by rw [hS, d7 x x1 x2, if_neg (by omega)]
      have S10 : S 110 = -1 := by rw [hS, d7 110 (by decide) (by decide), if_pos (.inl rfl)]
      have S11 : S 111 = -1 := by rw [hS, d7 111 (by decide) (by decide), if_pos (.inr rfl)]
      have v : InvL S := InvL.lo (fun x x1 x2 => S0 x x1 x2) d.2.1
      have v0 := v.1
      have v1 := v.2.1
      have lw : LawR 17 A6 S (rj J2 63) := by
        refine LawR.fr (I := A5) (fun a a1 a2 => A6at a (by omega)) ?_
        have l3 : LawR 3 A1 (ri B' 60) (rj J' 64) := d.1.fr2 fun a a1 a2 => A1at a (by omega) (by omega)
        obtain ⟨l0, l1, l2, l3, l4, l5, l6, l7, l8, l9⟩ := e6 _ _ l3 d.2.1
        have s0 := S0 0 (by decide) (by decide)
        have s1 := S0 1 (by decide) (by decide)
        have s2 := S0 2 (by decide) (by decide)
        refine ⟨by rw [s0]; exact l0, by rw [s1]; exact l1, by rw [s2]; exact l2, fun j j1 j2 => by rw [S0 _ (by omega) (by omega)]; exact l3 j j1 j2, fun w w1 w2 => ?_, fun w w1 w2 => ?_, fun w w1 w2 => ?_, fun m m1 m2 => ?_, fun m m1 m2 => ?_, fun a b a1 a2 b1 b2 => ?_⟩
        · rw [d8 w w1 (by omega)]; exact l4 w w1 (by omega)
        · unfold ow; rw [S0 _ (by omega) (by omega)]; exact l5 w w1 (by omega)
        · unfold ow; rw [S0 _ (by omega) (by omega)]; exact l6 w w1 (by omega)
        · unfold om; rw [S0 _ (by omega) (by omega)]; exact l7 m m1 (by omega)
        · unfold om; rw [S0 _ (by omega) (by omega)]; exact l8 m m1 (by omega)
        · unfold ot; rw [S0 _ (by omega) (by omega)]; exact l9 a b a1 (by omega) b1 (by omega)
      have g26 : ∀ j, gi A6 26 j = gi A5 26 j := fun j => gi_of _ _ _ (A6at 26 (by decide))
      have z108 := S1 108 (by decide) (by decide) (by decide) (by decide)
      have z109 := S1 109 (by decide) (by decide) (by decide) (by decide)
      have z112 := S1 112 (by decide) (by decide) (by decide) (by decide)
      have z113 := S1 113 (by decide) (by decide) (by decide) (by decide)
      have z114 := S1 114 (by decide) (by decide) (by decide) (by decide)
      have z115 := S1 115 (by decide) (by decide) (by decide) (by decide)
      have z116 := S1 116 (by decide) (by decide) (by decide) (by decide)
      have cg : CgR 26 A6 S := by
        refine ⟨by rw [g26, e3 0 (by decide), z108], by rw [g26, e3 1 (by decide), z112], by rw [g26, e3 2 (by decide), z113], by rw [g26, e3 3 (by decide), z109], by rw [g26, e4.1, S10], by rw [g26, e4.2, S11], by rw [g26, e3 8 (by decide), z114], by rw [g26, e3 4 (by decide)]; decide, fun w w1 w2 => ?_, by rw [g26, e3 5 (by decide)]; decide, fun m m1 m2 => ?_, fun c c1 c2 => by omega, fun c c1 c2 => by omega, fun c c1 c2 => by omega, fun c c1 c2 => by omega, fun c i c1 c2 => by omega, fun c i c1 c2 => by omega⟩
        · rw [g26, e3 4 (by decide), bitI_00 (by omega)]
          unfold ow; rw [S0 _ (by omega) (by omega)]; exact (d.2.2.2.2.2.2.1 w w1 (by omega)).symm
        · rw [g26, e3 5 (by decide), bitI_00 (by omega)]
          unfold om; rw [S0 _ (by omega) (by omega)]; exact (d.2.2.2.2.2.2.2 m m1 (by omega)).symm
      have ic : InvC S := by
        refine ⟨by omega, by omega, .inl ⟨S10, S11⟩, by rw [z112, z108]; rfl, by omega, by omega, by rw [z114, z115, z108]; rfl, fun c hc => ?_, fun c i hc => ?_, fun c i hc => ?_, fun k k1 k2 => by omega⟩
        · have := hc.1; have := hc.2; omega
        · have := hc.1; have := hc.2; omega
        · have := hc.1; have := hc.2; omega
      have tb : TbR 33 35 A6 S := ⟨by rw [gi_of I A6 _ (A6I 33 (by decide) (by decide) (by decide) (by decide))]; exact r.wS, by rw [gi_of I A6 _ (A6I 35 (by decide) (by decide) (by decide) (by decide))]; exact r.wL, fun k j k1 k2 => by omega, fun k j k1 k2 => by omega⟩
      obtain ⟨-, -, t2, t3, t4, t5, t6, t7, t8, t9, t10⟩ := R3
      refine ⟨gi A' 3 0, sh, A6, J, B2, J2, cl, by rw [rfl0 A6 gL J, s3, d1], Rel.fin (A := A6) ⟨h, al, ?_, ?_, by rw [← hS]; exact ⟨lw, cg, tb, v, ic⟩, by rw [← hS]; exact .inl ⟨z116, by rw [gi_of A5 A6 _ (A6at 37 (by decide))]; exact e5⟩, ?_, ?_, ⟨?_, ?_, ?_, ?_, ?_, ?_⟩, ?_, ?_⟩ fun a ha => ?_⟩
      · unfold TapR at *
        rw [B22, g11, ri_fun A62, ri_fun (B2at 58 (by decide) (by decide) (by decide))]
        exact ⟨rfl, by decide, t2.2.2⟩
      · rw [g01, B210]
      · unfold PadR at *
        rw [B257 32 (by decide), ri_fun (A6I 52 (by decide) (by decide) (by decide) (by decide)), ri_fun (B2at 71 (by decide) (by decide) (by decide))]; exact t6
      · unfold RowR at *
        rw [B257 40 (by decide), gi_of I A6 _ (A6I 53 (by decide) (by decide) (by decide) (by decide)), ri_fun (A6I 54 (by decide) (by decide) (by decide) (by decide)), ri_fun (A6I 55 (by decide) (by decide) (by decide) (by decide)), ri_fun (B2at 75 (by decide) (by decide) (by decide)), ri_fun (B2at 76 (by decide) (by decide) (by decide))]; exact t7
      · rw [hA6, gi_wiw, if_pos ⟨rfl, rfl⟩]; decide
      · rw [hA6, gi_wiw, if_neg (by decide), gi_of A1 A5 _ (e2 41 (by decide) (by decide)), gi_of A' A1 _ (A1at 41 (by decide) (by decide)), gi_of I A' _ (A'at 41 (by decide) (by decide))]; exact t8.2.1
      · rw [hA6, gi_wiw, if_pos ⟨rfl, rfl⟩]; exact d4
      · rw [hA6, gi_wiw, if_pos ⟨rfl, rfl⟩]; intro j j1 j2; exact absurd j2 (by show ¬ j < 0; omega)
      · rw [hA6, gi_wiw, if_pos ⟨rfl, rfl⟩]; intro j j1 j2; exact absurd j2 (by show ¬ j < 0; omega)
      · rw [hA6, gi_wiw, if_pos ⟨rfl, rfl⟩]; intro i j i1 i2 j2; exact absurd j2 (by show ¬ j < 0; omega)
      · intro i hi
        have e1 : ri B2 66 (i : Int) = ri (layI (wi A6 57 0 0)) 66 i := ri_of _ _ _ (B2at 66 (by decide) (by decide) (by decide))
        have e2 : imF B2 i = imF (layI (wi A6 57 0 0)) i := funext fun x => ri_of _ _ _ (B2at 61 (by decide) (by decide) (by decide))
        have e3 : rj J2 65 = rj J 65 := rj_fun (by rw [d5 65 (by decide), FBx.2.2 65 (by decide) (by decide)])
        rw [e1, e2, e3]
        rcases t9 i hi with p | ⟨p1, w', p2, p3⟩
        · exact .inl p
        · have hw' := (al.2.1 i w' hi p2).1
          exact .inr ⟨p1, w', p2, p3.fr fun a a1 a2 => A6I a (by omega) (by omega) (by omega) (by omega)⟩
      · rw [B257 22 (by decide)]; exact t10
      · rw [B2at a (by omega) (by omega) (by omega)]; exact KpR.lay A6 0 a ha
    · exact absurd rfl z
  · -- a FAULT
    obtain ⟨A1, hA1⟩ : ∃ A1, A1 = wi (wi A' 0 1 r0) 1 1 0 := ⟨_, rfl⟩
    have A1at : ∀ a, a ≠ 0 → a ≠ 1 → A1 a = A' a := fun a a1 a2 => by rw [hA1, wi_at _ _ _ a2, wi_at _ _ _ a1]
    have A1I : ∀ a, 11 < a ∨ a = 2 → A1 a = I a := fun a ha => by rw [A1at a (by omega) (by omega), A'at a (by omega) (by omega)]
    have kp : KpC I A1 J J := fun a a1 a2 => ⟨A1I a (by omega), rfl⟩
    have R3 := R.lay kp 0
    have gL : gi A1 57 2 = gi I 1 1 := by rw [gi_of I A1 _ (kp 57 (by decide) (by decide)).1, T.1]
    obtain ⟨r1, A2, B', J', s2, s3, -, FBx⟩ := core A1 (kp 58 (by decide) (by decide)).1 J
    rw [s1] at s2
    injection s2 with s2
    injection s2 with y1 y2
    injection y2 with y2 y3
    injection y3 with y3 y4
    subst y1 y3
    rcases s3 with ⟨z, -⟩ | ⟨-, s3, fl⟩
    · exact absurd z c
    · obtain ⟨f1, f2, f3, f4, f5⟩ := fl
      have gA1 : gi A1 0 1 = r0 := by rw [hA1, gi_wiw, if_neg (by decide), gi_wiw, if_pos ⟨rfl, rfl⟩, w32_id (by omega) (by omega)]
      have g15 : gi A1 1 5 = gi A' 1 5 := by rw [hA1, gi_wiw, if_neg (by decide), gi_wiw, if_neg (by decide)]
      have g11 : gi A1 1 1 = 0 := by rw [hA1, gi_wiw, if_pos ⟨rfl, rfl⟩]; rfl
      have cl : uX9_law 0 (sh, I, J) = some (-1 - gi A' 1 5, (sh, A1, J)) := by
        simp only [uX9_law, SEg h, SEr h, SEa h, SEk h, SEj h, SEl h, SEp h, SEs h, bd_some, bd2_some, uX7_begin, ← hA0, s1, ← hA1, gA1, g15]
        rw [if_neg c, w32_id (by omega) (by omega)]
      have Bat : ∀ a, a ≠ 57 → a ≠ 60 → B' a = layI (wi A1 57 0 0) a := fun a a1 a2 => by rw [FBx.1 a a1 a2, bgM_at _ _ _ a1]
      have B57 : ∀ j, j ∉ [2, 3, 4, 5, 6, 7, 8, 9, 10, 11, 13, 24] → gi B' 57 j = gi (layI (wi A1 57 0 0)) 57 j := fun j hj => by
        simp only [List.mem_cons, List.not_mem_nil, or_false, not_or] at hj
        rw [gi_fk (FBx.2.1 j (by simp only [List.mem_cons, List.not_mem_nil, or_false, not_or]; omega)), bgM_57 _ _ _ (by omega)]
      have B22 : gi B' 57 2 = 0 := by rw [gi_fk (FBx.2.1 2 (by decide))]; exact (bgM_v A1 hL (by decide)).1
      obtain ⟨t0, t1, t2, t3, t4, t5, t6, t7, t8, t9, t10⟩ := R3
      refine ⟨_, sh, A1, J, B', J', cl, by rw [rfl0 A1 gL J, s3], Rel.fin (A := A1) (Rel2.upd (A := I) (B := layI (wi A1 57 0 0)) (J := J) ⟨t0, t1, t2, t3, t4, t5, t6, t7, t8, t9, t10⟩ (fun a ha => A1I a (by omega)) ⟨⟨Bat 59 (by decide) (by decide), Bat 61 (by decide) (by decide), Bat 62 (by decide) (by decide), Bat 66 (by decide) (by decide)⟩, B57 22 (by decide), B57 23 (by decide), FBx.2.2 63 (by decide) (by decide), FBx.2.2 65 (by decide) (by decide)⟩ ?_ ?_ ?_ ?_) fun a ha => ?_⟩
      · unfold TapR at *
        rw [B22, g11, ri_fun (A1I 2 (by omega)), ri_fun (Bat 58 (by decide) (by decide))]
        exact ⟨rfl, by decide, t2.2.2⟩
      · rw [gA1, f2]
      · unfold PadR at *
        rw [B57 32 (by decide), ri_fun (A1I 52 (by omega)), ri_fun (Bat 71 (by decide) (by decide))]; exact t6
      · unfold RowR at *
        rw [B57 40 (by decide), gi_of I A1 _ (A1I 53 (by omega)), ri_fun (A1I 54 (by omega)), ri_fun (A1I 55 (by omega)), ri_fun (Bat 75 (by decide) (by decide)), ri_fun (Bat 76 (by decide) (by decide))]; exact t7
      · rw [Bat a (by omega) (by omega)]; exact KpR.lay A1 0 a ha
