theorem Rel.took {sh : Sh} {I : Mi} {J : Mj} (R : Rel (sh, I, J)) {X B' : Mi} {J1 : Mj} (kp : KpC I X J J1) (f : ∀ a, a ≠ 57 → a ≠ 67 → B' a = layI (wi X 57 0 0) a) (f57 : ∀ j, j ≠ 2 → gi B' 57 j = gi (layI (wi X 57 0 0)) 57 j) (f2 : gi B' 57 2 = 0) : Rel2 sh (wi I 1 1 0) B' J1 := by
  have RB := R.lay kp 0
  have tB := RB.2.2.1
  refine RB.upd (fun a h => wi_at _ _ _ (by omega)) ⟨⟨f 59 (by decide) (by decide), f 61 (by decide) (by decide), f 62 (by decide) (by decide), f 66 (by decide) (by decide)⟩, f57 22 (by decide), f57 23 (by decide), rfl, rfl⟩ ⟨?_, ?_, ?_⟩ ?_ ?_ ?_
  · rw [f2, gi_wiw, if_pos ⟨rfl, rfl⟩]; rfl
  · rw [f2]; decide
  · rw [ri_fun (f 58 (by decide) (by decide)), ri_fun (show wi I 1 1 0 2 = I 2 from wi_at _ _ _ (by decide))]; exact tB.2.2
  · rw [f57 10 (by decide), gi_wiw, if_neg (by decide)]; exact RB.2.2.2.1
  · have := RB.2.2.2.2.2.2.1
    unfold PadR at *
    rw [f57 32 (by decide), ri_fun (f 71 (by decide) (by decide)), ri_fun (show wi I 1 1 0 52 = I 52 from wi_at _ _ _ (by decide))]; exact this
  · have := RB.2.2.2.2.2.2.2.1
    unfold RowR at *
    rw [f57 40 (by decide), ri_fun (f 75 (by decide) (by decide)), ri_fun (f 76 (by decide) (by decide)), ri_fun (show wi I 1 1 0 54 = I 54 from wi_at _ _ _ (by decide)), ri_fun (show wi I 1 1 0 55 = I 55 from wi_at _ _ _ (by decide)), gi_of I (wi I 1 1 0) _ (wi_at _ _ _ (by decide))]; exact this
/-- the reference's beginning of a SALE -/
theorem r_salePre {sh : Sh} {I : Mi} {J : Mj} (R : Rel (sh, I, J)) {sh1 : Sh} (h1 : St sh1) {X : Mi} {J1 : Mj} (kp : KpC I X J J1) {S : Int → Int} (eS : ri (layI I) 59 = S) {b s m p n : Int} (hn : gi I 57 2 = n) (u : InvC S) :
    uX10_sale 57 b s m p (sh1, X, J1) = if isW S b ∧ isW S s ∧ isM S m ∧ (1 ≤ p ∧ p ≤ 9999) ∧ 1 ≤ n ∧ n ≤ 40 then uX10_sale_b80 57 b s m p n 0 0 (sh1, wi (layI (wi X 57 0 0)) 57 2 0, J1) else some (-1, (sh1, wi (layI (wi X 57 0 0)) 57 2 0, J1)) := by
  have hT := R.tap.2.1
  have eB : ri (layI (wi X 57 0 0)) 59 = S := (ri_fun (lay_ag kp 0).1.2.1).trans eS
  have e59 : ri (wi (layI (wi X 57 0 0)) 57 2 0) 59 = S := by rw [← eB]; exact ri_fun (wi_at _ _ _ (by decide))
  have e2 : gi (layI (wi X 57 0 0)) 57 2 = n := by rw [layI_57 _ (by decide), gi_wiw, if_neg (by decide), gi_of _ _ _ (kp 57 (by decide) (by decide)).1]; exact hn
  have u' : InvC (ri (wi (layI (wi X 57 0 0)) 57 2 0) 59) := by rw [e59]; exact u
  simp (disch := omega) only [uX10_sale, uX10_take, SEp h1, SEk h1, SEg h1, bd_some, bd2_some, rX_lay h1, e2, rX_isWho h1, rX_isMint h1, rX_isIn, e59, bz_0]
  by_cases c1 : isW S b
  · by_cases c2 : isW S s
    · by_cases c3 : isM S m
      · by_cases c4 : 1 ≤ p ∧ p ≤ 9999
        · rw [if_neg (fun q => q c1), if_neg (fun q => q c2), if_neg (fun q => q c3), if_neg (fun q => q c4)]
          by_cases c5 : 1 ≤ n ∧ n ≤ 40
          · rw [if_pos (show isW S b ∧ isW S s ∧ isM S m ∧ (1 ≤ p ∧ p ≤ 9999) ∧ 1 ≤ n ∧ n ≤ 40 from ⟨c1, c2, c3, c4, c5⟩), if_neg (by omega), if_neg (by omega), rX_isFull h1 _ _ (by omega) (by omega) u']
            rfl
          · rw [if_neg (show ¬ (isW S b ∧ isW S s ∧ isM S m ∧ (1 ≤ p ∧ p ≤ 9999) ∧ 1 ≤ n ∧ n ≤ 40) from fun q => c5 q.2.2.2.2)]
            by_cases c6 : n = 0
            · rw [if_pos c6]
            · rw [if_neg c6, if_pos (by omega)]
        · rw [if_neg (fun q => q c1), if_neg (fun q => q c2), if_neg (fun q => q c3), if_pos c4, if_neg (show ¬ (isW S b ∧ isW S s ∧ isM S m ∧ (1 ≤ p ∧ p ≤ 9999) ∧ 1 ≤ n ∧ n ≤ 40) from fun q => c4 q.2.2.2.1)]
      · rw [if_neg (fun q => q c1), if_neg (fun q => q c2), if_pos c3, if_neg (show ¬ (isW S b ∧ isW S s ∧ isM S m ∧ (1 ≤ p ∧ p ≤ 9999) ∧ 1 ≤ n ∧ n ≤ 40) from fun q => c3 q.2.2.1)]
    · rw [if_neg (fun q => q c1), if_pos c2, if_neg (show ¬ (isW S b ∧ isW S s ∧ isM S m ∧ (1 ≤ p ∧ p ≤ 9999) ∧ 1 ≤ n ∧ n ≤ 40) from fun q => c2 q.2.1)]
  · rw [if_pos c1, if_neg (show ¬ (isW S b ∧ isW S s ∧ isM S m ∧ (1 ≤ p ∧ p ≤ 9999) ∧ 1 ≤ n ∧ n ≤ 40) from fun q => c1 q.1)]
/-- the class's -/
theorem c_salePre {sh : Sh} {I : Mi} {J : Mj} (R : Rel (sh, I, J)) {S : Int → Int} (r : RepC (wi I 1 1 0) S (rj J 63)) {b s m p n : Int} (hn : gi I 57 2 = n) {q : Int} (hq : uX9_tellsUnlikeCoins 0 n (sh, wi I 1 1 0, J) = some q) :
    uX9_sale 0 b s m p (sh, I, J) = if isW S b ∧ isW S s ∧ isM S m ∧ (1 ≤ p ∧ p ≤ 9999) ∧ q ≠ 0 then (if (isW S b ∧ ow S b 2 = 0) ∧ (isW S s ∧ ow S s 2 = 0) ∧ b ≠ s then bd (uX9_leastWrong 0 b s m n (lkS S) (sh, wi I 1 1 0, J)) (fun r58 => if r58 = 0 then uX9_sale_b127 0 b s m p n (lkS S) 0 0 (sh, wi I 1 1 0, J) else some (r58, (sh, wi I 1 1 0, J))) else some (1, (sh, wi I 1 1 0, J))) else some (-1, (sh, wi I 1 1 0, J)) := by
  have h : St sh := R.1.1
  have hT := R.tap.1
  rw [hn] at hT
  simp (maxSteps := 3000000) (disch := omega) only [uX9_sale, SEg h, SEr h, SEa h, SEk h, SEj h, SEl h, SEp h, SEs h, bd_some, bd2_some, hT, c_isWho h r, c_isMint h r, bz_0, hq, c_canTrade h r, c_luckNow h r]
  by_cases c1 : isW S b
  · by_cases c2 : isW S s
    · by_cases c3 : isM S m
      · rw [if_neg (fun q => q c1), if_neg (fun q => q c2), if_neg (fun q => q c3)]
        by_cases c4 : 1 ≤ p ∧ p ≤ 9999
        · rw [if_neg (by omega), if_neg (by omega)]
          by_cases c5 : q = 0
          · rw [if_pos c5, if_neg (show ¬ (isW S b ∧ isW S s ∧ isM S m ∧ (1 ≤ p ∧ p ≤ 9999) ∧ q ≠ 0) from fun z => z.2.2.2.2 c5)]
          · rw [if_neg c5, if_pos (show isW S b ∧ isW S s ∧ isM S m ∧ (1 ≤ p ∧ p ≤ 9999) ∧ q ≠ 0 from ⟨c1, c2, c3, c4, c5⟩)]
            by_cases c6 : (isW S b ∧ ow S b 2 = 0) ∧ (isW S s ∧ ow S s 2 = 0) ∧ b ≠ s
            · rw [if_neg (fun z => z c6), if_pos c6]
            · rw [if_pos c6, if_neg c6]
        · rw [if_neg (show ¬ (isW S b ∧ isW S s ∧ isM S m ∧ (1 ≤ p ∧ p ≤ 9999) ∧ q ≠ 0) from fun z => c4 z.2.2.2.1)]
          by_cases c5 : p < 1
          · rw [if_pos c5]
          · rw [if_neg c5, if_pos (by omega)]
      · rw [if_neg (fun q => q c1), if_neg (fun q => q c2), if_pos c3, if_neg (show ¬ (isW S b ∧ isW S s ∧ isM S m ∧ (1 ≤ p ∧ p ≤ 9999) ∧ q ≠ 0) from fun z => c3 z.2.2.1)]
    · rw [if_neg (fun q => q c1), if_pos c2, if_neg (show ¬ (isW S b ∧ isW S s ∧ isM S m ∧ (1 ≤ p ∧ p ≤ 9999) ∧ q ≠ 0) from fun z => c2 z.2.1)]
  · rw [if_pos c1, if_neg (show ¬ (isW S b ∧ isW S s ∧ isM S m ∧ (1 ≤ p ∧ p ≤ 9999) ∧ q ≠ 0) from fun z => c1 z.1)]
