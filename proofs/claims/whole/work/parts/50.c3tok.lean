def lsT (t : Int → Int) (q : Int) (K : Nat) : List Int := (List.range K).map (fun i : Nat => t (q + i) - 96)
theorem lsT_len (t : Int → Int) (q : Int) (K : Nat) : (lsT t q K).length = K := by unfold lsT; rw [List.length_map, List.length_range]
theorem lsT_s (t : Int → Int) (q : Int) (K : Nat) : lsT t q (K + 1) = lsT t q K ++ [t (q + K) - 96] := by
  unfold lsT; rw [List.range_succ, List.map_append]; rfl
theorem lsT_at {t : Int → Int} {q : Int} {K i : Nat} (h : i < K) : (lsT t q K).getD i 0 = t (q + i) - 96 := by
  unfold lsT
  rw [List.getD_eq_getElem?_getD, List.getElem?_map, List.getElem?_range h]; rfl
def bbN (c : Int) : Nat → Int
  | 0 => 1
  | k + 1 => c * bbN c k
theorem bb32 {k : Nat} (h : k ≤ 5) : 1 ≤ bbN 32 k ∧ bbN 32 k ≤ 33554432 := by
  have : k = 0 ∨ k = 1 ∨ k = 2 ∨ k = 3 ∨ k = 4 ∨ k = 5 := by omega
  rcases this with rfl | rfl | rfl | rfl | rfl | rfl <;> decide
theorem bb27 {k : Nat} (h : k ≤ 5) : 1 ≤ bbN 27 k ∧ bbN 27 k ≤ 14348907 := by
  have : k = 0 ∨ k = 1 ∨ k = 2 ∨ k = 3 ∨ k = 4 ∨ k = 5 := by omega
  rcases this with rfl | rfl | rfl | rfl | rfl | rfl <;> decide
theorem nK_wd {t : Int → Int} {q : Int} : ∀ K : Nat, K ≤ 6 → (∀ j : Nat, j < K → ltt (t (q + j))) → nK t q K = wd32 (lsT t q K) ∧ (0 ≤ nK t q K ∧ nK t q K < bbN 32 K)
  | 0, _, _ => ⟨rfl, by show (0 : Int) ≤ 0; decide, by show (0 : Int) < 1; decide⟩
  | K + 1, hK, hl => by
    obtain ⟨e, b0, b1⟩ := nK_wd K (by omega) fun j hj => hl j (by omega)
    have bb := bb32 (k := K) (by omega)
    have x := hl K (by omega)
    have nd : ¬ dgt (t (q + K)) := fun z => by omega
    have e1 : nK t q (K + 1) = nK t q K * 32 + (t (q + K) - 96) := by
      show (if dgt (t (q + K)) then _ else w32 (w32 (w32 (w32 (nK t q K * 32) + t (q + K)) - 97) + 1)) = _
      rw [if_neg nd, w32_id (x := nK t q K * 32) (by omega) (by omega), w32_id (x := nK t q K * 32 + t (q + K)) (by omega) (by omega), w32_id (x := nK t q K * 32 + t (q + K) - 97) (by omega) (by omega), w32_id (by omega) (by omega)]
      omega
    refine ⟨?_, by omega, ?_⟩
    · rw [e1, lsT_s, e]
      unfold wd32
      rw [List.foldl_append]; rfl
    · show _ < 32 * bbN 32 K
      omega
theorem mW_wd {t : Int → Int} {q : Int} : ∀ K : Nat, K ≤ 6 → (∀ j : Nat, j < K → ltt (t (q + j))) → mW t q K = wd27 (lsT t q K) ∧ (0 ≤ mW t q K ∧ mW t q K < bbN 27 K)
  | 0, _, _ => ⟨rfl, by show (0 : Int) ≤ 0; decide, by show (0 : Int) < 1; decide⟩
  | K + 1, hK, hl => by
    obtain ⟨e, b0, b1⟩ := mW_wd K (by omega) fun j hj => hl j (by omega)
    have bb := bb27 (k := K) (by omega)
    have x := hl K (by omega)
    have e1 : mW t q (K + 1) = 27 * mW t q K + (t (q + K) - 96) := by
      show (if 6 ≤ K then _ else w64 (w64 (w64 (27 * mW t q K) + t (q + K)) - 96)) = _
      rw [if_neg (by omega), w64_id (x := 27 * mW t q K) (by omega) (by omega), w64_id (x := 27 * mW t q K + t (q + K)) (by omega) (by omega), w64_id (by omega) (by omega)]
      omega
    refine ⟨?_, by omega, ?_⟩
    · rw [e1, lsT_s, e]
      unfold wd27
      rw [List.foldl_append]; rfl
    · show _ < 27 * bbN 27 K
      omega
theorem nN_mN {t : Int → Int} {q : Int} : ∀ K : Nat, K ≤ 4 → (∀ j : Nat, j < K → dgt (t (q + j))) → nN t q K = mN t q K
  | 0, _, _ => rfl
  | K + 1, hK, hl => by
    have ih := nN_mN (t := t) (q := q) K (by omega) fun j hj => hl j (by omega)
    show (if dgt (t (q + K)) then w32 (w32 (w32 (nN t q K * 10) + t (q + K)) - 48) else _) = if 4 ≤ K then _ else w32 (w32 (w32 (10 * mN t q K) + t (q + K)) - 48)
    rw [if_pos (hl K (by omega)), if_neg (by omega), ih, Int.mul_comm]
theorem bb10 {k : Nat} (h : k ≤ 3) : 1 ≤ bbN 10 k ∧ bbN 10 k ≤ 1000 := by
  have : k = 0 ∨ k = 1 ∨ k = 2 ∨ k = 3 := by omega
  rcases this with rfl | rfl | rfl | rfl <;> decide
theorem nN_b {t : Int → Int} {q : Int} : ∀ K : Nat, K ≤ 4 → (∀ j : Nat, j < K → dgt (t (q + j))) → 0 ≤ nN t q K ∧ nN t q K < bbN 10 K
  | 0, _, _ => ⟨by show (0 : Int) ≤ 0; decide, by show (0 : Int) < 1; decide⟩
  | K + 1, hK, hl => by
    obtain ⟨b0, b1⟩ := nN_b (t := t) (q := q) K (by omega) fun j hj => hl j (by omega)
    have bb := bb10 (k := K) (by omega)
    have x := hl K (by omega)
    have e1 : nN t q (K + 1) = nN t q K * 10 + t (q + K) - 48 := by
      show (if dgt (t (q + K)) then w32 (w32 (w32 (nN t q K * 10) + t (q + K)) - 48) else nN t q K) = _
      rw [if_pos x, w32_id (x := nN t q K * 10) (by omega) (by omega), w32_id (x := nN t q K * 10 + t (q + K)) (by omega) (by omega), w32_id (by omega) (by omega)]
    have e2 : bbN 10 (K + 1) = 10 * bbN 10 K := rfl
    omega
theorem nL_0 {t : Int → Int} {q : Int} : ∀ K : Nat, (nL t q K = 0 ↔ ∀ j : Nat, j < K → dgt (t (q + j))) ∧ (nD t q K = 0 ↔ ∀ j : Nat, j < K → ¬ dgt (t (q + j)))
  | 0 => ⟨⟨fun _ j hj => by omega, fun _ => rfl⟩, ⟨fun _ j hj => by omega, fun _ => rfl⟩⟩
  | K + 1 => by
    obtain ⟨i1, i2⟩ := nL_0 (t := t) (q := q) K
    have b := nLD t q K
    have sp : ∀ P : Nat → Prop, (∀ j, j < K + 1 → P j) ↔ (∀ j, j < K → P j) ∧ P K := fun P => ⟨fun z => ⟨fun j hj => z j (by omega), z K (by omega)⟩, fun z j hj => by
      by_cases c : j = K
      · subst c; exact z.2
      · exact z.1 j (by omega)⟩
    rw [sp (fun j => dgt (t (q + j))), sp (fun j => ¬ dgt (t (q + j))), ← i1, ← i2]
    show ((if dgt (t (q + K)) then nL t q K else nL t q K + 1) = 0 ↔ _) ∧ ((if dgt (t (q + K)) then nD t q K + 1 else nD t q K) = 0 ↔ _)
    by_cases c : dgt (t (q + K))
    · rw [if_pos c, if_pos c]
      exact ⟨⟨fun z => ⟨z, c⟩, fun z => z.1⟩, ⟨fun z => by omega, fun z => absurd c z.2⟩⟩
    · rw [if_neg c, if_neg c]
      exact ⟨⟨fun z => by omega, fun z => absurd z.2 c⟩, ⟨fun z => ⟨z, c⟩, fun z => z.1⟩⟩
theorem mF_1 {t : Int → Int} {q v : Int} : ∀ K : Nat, (mF t q v K = 0 ∨ mF t q v K = 1) ∧ (mF t q v K = 1 ↔ ∀ j : Nat, j < K → (if ltt (t (q + j)) then (1 : Int) else 0) = v)
  | 0 => ⟨.inr rfl, fun _ j hj => by omega, fun _ => rfl⟩
  | K + 1 => by
    obtain ⟨i0, i1⟩ := mF_1 (t := t) (q := q) (v := v) K
    have e : mF t q v (K + 1) = if mF t q v K = 0 then 0 else if (if ltt (t (q + K)) then (1 : Int) else 0) = v then 1 else 0 := rfl
    by_cases c : mF t q v K = 0
    · rw [if_pos c] at e
      rw [e]
      refine ⟨.inl rfl, fun z => by omega, fun z => ?_⟩
      have := i1.mpr fun j hj => z j (by omega)
      omega
    · rw [if_neg c] at e
      have c1 : mF t q v K = 1 := by omega
      by_cases d : (if ltt (t (q + K)) then (1 : Int) else 0) = v
      · rw [if_pos d] at e
        rw [e]
        refine ⟨.inr rfl, fun _ j hj => ?_, fun _ => rfl⟩
        by_cases z : j = K
        · subst z; exact d
        · exact i1.mp c1 j (by omega)
      · rw [if_neg d] at e
        rw [e]
        exact ⟨.inl rfl, fun z => by omega, fun z => absurd (z K (by omega)) d⟩
/-- a TOKEN as both keep it -/
def sgR (k s : Int) : Prop := (k = 4 ∧ s = 59) ∨ (k = 5 ∧ s = 60) ∨ (k = 6 ∧ s = 61) ∨ (k = 7 ∧ s = 62) ∨ (k = 8 ∧ s = 40) ∨ (k = 9 ∧ s = 41)
def KdR (k n c k' n' s w : Int) : Prop := (k = 0 ∧ k' = 0) ∨ (k = 1 ∧ k' = 1) ∨ (k = 2 ∧ k' = 3 ∧ n = n' ∧ 0 ≤ n ∧ n ≤ 9999) ∨ (k' = 4 ∧ sgR k s) ∨ (k' = 2 ∧ ∃ l, Ltr l ∧ c = wd32 l ∧ w = wd27 l ∧ k = wk l)
def TokR (L m : Int) (A B : Mi) (J : Mj) : Prop := (gi A 1 2 = m ∧ gi B 57 4 = m) ∧ (gi A 1 3 = gi B 57 5 ∧ 0 ≤ gi A 1 3 ∧ gi A 1 3 ≤ L) ∧ (gi A 1 5 = gi B 57 6 ∧ 0 ≤ gi A 1 5 ∧ gi A 1 5 ≤ 740) ∧ KdR (gi A 1 4) (gi A 1 6) (gi A 1 7) (gi B 57 7) (gi B 57 8) (gi B 57 9) (gj J 57 12)
theorem wkF_b : ∀ (r : List (List Int)) (i : Int) (l : List Int), 3 ≤ i → 3 ≤ wkF r i l ∧ wkF r i l ≤ i + r.length
  | [], i, l, h => ⟨by show (3 : Int) ≤ 3; decide, by show (3 : Int) ≤ _; omega⟩
  | w :: r, i, l, h => by
    have ih := wkF_b r (i + 1) l (by omega)
    show 3 ≤ (if l = w then i else wkF r (i + 1) l) ∧ (if l = w then i else wkF r (i + 1) l) ≤ _
    rw [List.length_cons]
    split <;> omega
theorem wk_b (l : List Int) : 3 ≤ wk l ∧ wk l ≤ 29 := by
  have := wkF_b wlT 10 l (by decide)
  have e : wlT.length = 19 := rfl
  unfold wk; omega
theorem c_b131 {sh : Sh} (h : St sh) {A : Mi} (J : Mj) {t : Int → Int} {L q : Int} (p : TpC t L A) (hq : gi A 1 3 = q) (h5 : gi A 1 5 = q) (q0 : 0 ≤ q ∧ q < L) {K : Nat} (k1 : q + K ≤ L) (k2 : ∀ j : Nat, j < K → aln (t (q + j))) (k3 : q + K = L ∨ ¬ aln (t (q + K))) : ∃ A1, uX7_advance_b131 1 (sh, A, J) = some (sh, A1, J) ∧ FrT A A1 [3, 4, 6, 7] ∧ gi A1 1 3 = q + K ∧ gi A1 1 6 = nN t q K ∧ gi A1 1 7 = nK t q K ∧ gi A1 1 4 = (if nL t q K = 0 ∧ nD t q K ≤ 4 then 2 else if nD t q K = 0 ∧ nL t q K ≤ 6 then wk (lsT t q K) else 1) := by
  obtain ⟨A0, hA0⟩ : ∃ A0, A0 = wi (wi A 1 6 0) 1 7 0 := ⟨_, rfl⟩
  have f0 : FrT A A0 [6, 7] := ⟨fun a q => by rw [hA0, wi_at _ _ _ q, wi_at _ _ _ q], fun j hj => by rw [hA0, wi_nc _ _ (fun z => hj (by rw [z.2]; simp)), wi_nc _ _ (fun z => hj (by rw [z.2]; simp))]⟩
  have p0 := p.fr f0 (by decide)
  have pL := p.2.1
  obtain ⟨A1, s1, f1, g3, g6, g7⟩ := c_run h J p0 (by rw [gi_fk (f0.2 3 (by decide))]; exact hq) (by rw [hA0, gi_wiw, if_neg (by decide), gi_wiw, if_pos ⟨rfl, rfl⟩]; rfl) (by rw [hA0, gi_wiw, if_pos ⟨rfl, rfl⟩]; rfl) ⟨q0.1, by omega⟩ k1 k2 k3
  have ld := nLD t q K
  have wb := wk_b (lsT t q K)
  have run : uX7_readRun 1 (sh, A, J) = some ((if nL t q K = 0 ∧ nD t q K ≤ 4 then 2 else if nD t q K = 0 ∧ nL t q K ≤ 6 then 3 else 1), (sh, A1, J)) := by
    simp only [uX7_readRun, SEg h, SEr h, SEa h, SEk h, SEj h, SEl h, SEp h, SEs h, bd_some, bd2_some, ← hA0, uX7_readRun_b16, s1, uX7_readRun_c16, uX7_readRun_b135, uX7_readRun_b146]
    by_cases c1 : nL t q K = 0
    · rw [if_pos c1]
      by_cases c2 : 4 < nD t q K
      · rw [if_pos c2, if_neg (by omega), if_neg (by omega), if_neg (by omega)]
      · rw [if_neg c2, if_pos ⟨c1, by omega⟩]
    · have x1 : ¬ (nL t q K = 0 ∧ nD t q K ≤ 4) := fun z => c1 z.1
      rw [if_neg c1, if_neg x1]
      by_cases c2 : nD t q K = 0
      · rw [if_pos c2]
        by_cases c3 : 6 < nL t q K
        · have x2 : ¬ (nD t q K = 0 ∧ nL t q K ≤ 6) := fun z => by omega
          rw [if_pos c3, if_neg x2]
        · have x2 : nD t q K = 0 ∧ nL t q K ≤ 6 := ⟨c2, by omega⟩
          rw [if_neg c3, if_pos x2]
      · have x2 : ¬ (nD t q K = 0 ∧ nL t q K ≤ 6) := fun z => c2 z.1
        rw [if_neg c2, if_neg x2]
  have fA1 : FrT A A1 [3, 4, 6, 7] := ⟨fun a q => by rw [f1.1 a q, f0.1 a q], fun j hj => by rw [f1.2 j (fun z => hj (by simp at z ⊢; omega)), f0.2 j (fun z => hj (by simp at z ⊢; omega))]⟩
  have fr : ∀ x, FrT A (wi A1 1 4 x) [3, 4, 6, 7] := fun x => ⟨fun a q => by rw [wi_at _ _ _ q]; exact fA1.1 a q, fun j hj => by rw [wi_nc _ _ (fun z => hj (by rw [z.2]; simp))]; exact fA1.2 j hj⟩
  have fr2 : ∀ x y, FrT A (wi (wi A1 1 4 x) 1 4 y) [3, 4, 6, 7] := fun x y => ⟨fun a q => by rw [wi_at _ _ _ q, wi_at _ _ _ q]; exact fA1.1 a q, fun j hj => by rw [wi_nc _ _ (fun z => hj (by rw [z.2]; simp)), wi_nc _ _ (fun z => hj (by rw [z.2]; simp))]; exact fA1.2 j hj⟩
  simp only [uX7_advance_b131, SEg h, SEr h, SEa h, SEk h, SEj h, SEl h, SEp h, SEs h, bd_some, bd2_some, run]
  by_cases c1 : nL t q K = 0 ∧ nD t q K ≤ 4
  · rw [if_pos c1, if_pos c1]
    have e4 : gi (wi A1 1 4 2) 1 4 = 2 := by rw [gi_wiw, if_pos ⟨rfl, rfl⟩]; rfl
    simp only [SEg h, SEr h, SEa h, SEk h, SEj h, SEl h, SEp h, SEs h, bd_some, bd2_some, e4]
    rw [if_neg (by decide)]
    exact ⟨_, rfl, fr 2, by rw [gi_wiw, if_neg (by decide)]; exact g3, by rw [gi_wiw, if_neg (by decide)]; exact g6, by rw [gi_wiw, if_neg (by decide)]; exact g7, e4⟩
  · rw [if_neg c1, if_neg c1]
    by_cases c2 : nD t q K = 0 ∧ nL t q K ≤ 6
    · rw [if_pos c2, if_pos c2]
      have e4 : gi (wi A1 1 4 3) 1 4 = 3 := by rw [gi_wiw, if_pos ⟨rfl, rfl⟩]; rfl
      have e3 : gi (wi A1 1 4 3) 1 3 = q + K := by rw [gi_wiw, if_neg (by decide)]; exact g3
      have e5 : gi (wi A1 1 4 3) 1 5 = q := by rw [gi_fk ((fr 3).2 5 (by decide))]; exact h5
      have lw := c_wordKind (A := wi A1 1 4 3) (J := J) (ls := lsT t q K) h e5 q0.1 (by rw [lsT_len]; omega) (fun i hi => by
        rw [lsT_len] at hi
        rw [lsT_at hi, ri_of A (wi A1 1 4 3) _ ((fr 3).1 2 (by decide)), p.2.2.1 _ (by omega) (by omega)]; omega)
      rw [lsT_len] at lw
      simp (disch := omega) only [SEg h, SEr h, SEa h, SEk h, SEj h, SEl h, SEp h, SEs h, bd_some, bd2_some, e4, e3, e5, w32_id, w64_id]
      rw [if_pos trivial]
      simp only [show q + (K : Int) - q = K from by omega, lw, SEg h, SEr h, SEa h, SEk h, SEj h, SEl h, SEp h, SEs h, bd_some, bd2_some]
      exact ⟨_, rfl, fr2 _ _, by rw [gi_wiw, if_neg (by decide)]; exact e3, by rw [gi_wiw, if_neg (by decide), gi_wiw, if_neg (by decide)]; exact g6, by rw [gi_wiw, if_neg (by decide), gi_wiw, if_neg (by decide)]; exact g7, by rw [gi_wiw, if_pos ⟨rfl, rfl⟩, w32_id (by omega) (by omega)]⟩
    · rw [if_neg c2, if_neg c2]
      have e4 : gi (wi A1 1 4 1) 1 4 = 1 := by rw [gi_wiw, if_pos ⟨rfl, rfl⟩]; rfl
      simp only [SEg h, SEr h, SEa h, SEk h, SEj h, SEl h, SEp h, SEs h, bd_some, bd2_some, e4]
      rw [if_neg (by decide)]
      exact ⟨_, rfl, fr 1, by rw [gi_wiw, if_neg (by decide)]; exact g3, by rw [gi_wiw, if_neg (by decide)]; exact g6, by rw [gi_wiw, if_neg (by decide)]; exact g7, e4⟩
theorem r_b198 {sh : Sh} (h : St sh) {B : Mi} (J : Mj) {t : Int → Int} {L q : Int} (p : TpX t L B) (hq : gi B 57 5 = q) (h6 : gi B 57 6 = q) (q0 : 0 ≤ q ∧ q < L) {K : Nat} (k1 : q + K ≤ L) (k2 : ∀ j : Nat, j < K → aln (t (q + j))) (k3 : q + K = L ∨ ¬ aln (t (q + K))) : ∃ B1 J1, uX10_go_b198 57 (t q) (sh, B, J) = some (sh, B1, J1) ∧ FrX B B1 [5, 7, 8] ∧ FrJ J J1 ∧ gi B1 57 5 = q + K ∧ gi B1 57 8 = mN t q K ∧ gj J1 57 12 = mW t q K ∧ gi B1 57 7 = (if mF t q (if ltt (t q) then 1 else 0) K = 0 then 1 else if ltt (t q) then (if K ≤ 6 then 2 else 1) else (if K ≤ 4 then 3 else 1)) := by
  obtain ⟨B0, hB0⟩ : ∃ B0, B0 = wi B 57 8 0 := ⟨_, rfl⟩
  obtain ⟨J0, hJ0⟩ : ∃ J0, J0 = wj J 57 12 0 := ⟨_, rfl⟩
  have f0 : FrX B B0 [8] := ⟨fun a q => by rw [hB0, wi_at _ _ _ q], fun j hj => by rw [hB0, wi_nc _ _ (fun z => hj (by rw [z.2]; simp))]⟩
  have fj0 : FrJ J J0 := ⟨fun a q => by rw [hJ0, wj_at _ _ _ q], fun j hj => by rw [hJ0, wj_nc _ _ (fun z => hj z.2)]⟩
  have p0 := p.fr f0 (by decide)
  have pL := p.2.1
  obtain ⟨B1, J1, s1, f1, fj1, g5, g8, g12⟩ := r_run h (J := J0) (v := if ltt (t q) then 1 else 0) p0 (by rw [gi_fk (f0.2 5 (by decide))]; exact hq) (by rw [gi_fk (f0.2 6 (by decide))]; exact h6) (by rw [hB0, gi_wiw, if_pos ⟨rfl, rfl⟩]; rfl) (by rw [hJ0, gj_wjw, if_pos ⟨rfl, rfl⟩]; rfl) ⟨q0.1, by omega⟩ k1 k2 k3
  have g6 : gi B1 57 6 = q := by rw [gi_fk (f1.2 6 (by decide)), gi_fk (f0.2 6 (by decide))]; exact h6
  have fB1 : FrX B B1 [5, 7, 8] := ⟨fun a q => by rw [f1.1 a q, f0.1 a q], fun j hj => by rw [f1.2 j (fun z => hj (by simp at z ⊢; omega)), f0.2 j (fun z => hj (by simp at z ⊢; omega))]⟩
  have fJ1 : FrJ J J1 := ⟨fun a q => by rw [fj1.1 a q, fj0.1 a q], fun j hj => by rw [fj1.2 j hj, fj0.2 j hj]⟩
  have fin : ∀ x : Int, 0 ≤ x ∧ x ≤ 3 → ∃ B2 J2, some (sh, wi B1 57 7 x, J1) = some (sh, B2, J2) ∧ FrX B B2 [5, 7, 8] ∧ FrJ J J2 ∧ gi B2 57 5 = q + K ∧ gi B2 57 8 = mN t q K ∧ gj J2 57 12 = mW t q K ∧ gi B2 57 7 = x := fun x hx => ⟨_, J1, rfl, ⟨fun a q => by rw [wi_at _ _ _ q]; exact fB1.1 a q, fun j hj => by rw [wi_nc _ _ (fun z => hj (by rw [z.2]; simp))]; exact fB1.2 j hj⟩, fJ1, by rw [gi_wiw, if_neg (by decide)]; exact g5, by rw [gi_wiw, if_neg (by decide)]; exact g8, g12, by rw [gi_wiw, if_pos ⟨rfl, rfl⟩, w32_id (by omega) (by omega)]⟩
  simp only [uX10_go_b198, r_let, SEg h, SEr h, SEa h, SEk h, SEj h, SEl h, SEp h, SEs h, bd_some, bd2_some, ← hJ0, ← hB0, uX10_go_b215, s1, uX10_go_c215, uX10_go_b350]
  by_cases c0 : mF t q (if ltt (t q) then 1 else 0) K = 0
  · rw [if_pos c0, if_pos c0]
    simp only [uX10_go_b377, uX10_go_b390, SEg h, SEr h, SEa h, SEk h, SEj h, SEl h, SEp h, SEs h, bd_some, bd2_some]
    exact fin 1 (by decide)
  · rw [if_neg c0, if_neg c0]
    simp (disch := omega) only [SEg h, SEr h, SEa h, SEk h, SEj h, SEl h, SEp h, SEs h, bd_some, bd2_some, g5, g6, w32_id, w64_id, show q + (K : Int) - q = K from by omega]
    by_cases cl : ltt (t q)
    · rw [if_pos cl, if_pos cl, if_neg (by decide)]
      simp only [uX10_go_b374]
      by_cases c6 : K ≤ 6
      · rw [if_pos (by omega), if_neg (by decide), if_pos c6]
        simp only [uX10_go_b390, SEg h, SEr h, SEa h, SEk h, SEj h, SEl h, SEp h, SEs h, bd_some, bd2_some]
        exact fin 2 (by decide)
      · rw [if_neg (by omega), if_neg c6]
        simp only [uX10_go_b377, uX10_go_b390, SEg h, SEr h, SEa h, SEk h, SEj h, SEl h, SEp h, SEs h, bd_some, bd2_some]
        exact fin 1 (by decide)
    · rw [if_neg cl, if_neg cl, if_pos rfl]
      simp only [uX10_go_b374]
      by_cases c4 : K ≤ 4
      · rw [if_pos (by omega), if_pos trivial, if_pos c4]
        simp only [uX10_go_b390, SEg h, SEr h, SEa h, SEk h, SEj h, SEl h, SEp h, SEs h, bd_some, bd2_some]
        exact fin 3 (by decide)
      · rw [if_neg (by omega), if_neg c4]
        simp only [uX10_go_b377, uX10_go_b390, SEg h, SEr h, SEa h, SEk h, SEj h, SEl h, SEp h, SEs h, bd_some, bd2_some]
        exact fin 1 (by decide)
