def upF (f : Int → Int) (k v : Int) : Int → Int := fun i => if i = k then v else f i
theorem upF_eq (f : Int → Int) (k v : Int) : upF f k v k = v := if_pos rfl
theorem upF_ne (f : Int → Int) {k i : Int} (v : Int) (h : i ≠ k) : upF f k v i = f i := if_neg h
/-- the sum over all rows of MINTS, from place n - k on -/
def SV (n Q : Nat) : Nat → (Int → Int) → ((Int → Int) → Int) → Int
  | 0, ms, F => F ms
  | k + 1, ms, F => suC (fun m => SV n Q k (upF ms ((n - (k + 1) : Nat) : Int) m) F) Q
def dgF (ms : Int → Int) (a Q : Nat) (t : Int) : Int → Int := fun i => if (a : Int) ≤ i then ((t.toNat / Q ^ (i.toNat - a) % Q : Nat) : Int) else ms i
theorem SV_sw {n Q : Nat} (P : Nat) : ∀ (k : Nat) (ms : Int → Int) (F : Int → (Int → Int) → Int), suC (fun w => SV n Q k ms (F w)) P = SV n Q k ms (fun μ => suC (fun w => F w μ) P)
  | 0, _, _ => rfl
  | k + 1, ms, F => by
    refine (suC_swap (fun w m => SV n Q k (upF ms ((n - (k + 1) : Nat) : Int) m) (F w)) Q P).trans ?_
    exact suC_cong Q fun m _ => SV_sw P k _ F
theorem SV_dig {n Q : Nat} {F : (Int → Int) → Int} (hF : ∀ μ ν, (∀ i : Int, 0 ≤ i → i < n → μ i = ν i) → F μ = F ν) : ∀ (k : Nat) (ms : Int → Int), k ≤ n → suC (fun t => F (dgF ms (n - k) Q t)) (Q ^ k) = SV n Q k ms F
  | 0, ms, _ => by
    show 0 + F (dgF ms (n - 0) Q ((0 : Nat) : Int)) = F ms
    rw [Int.zero_add]
    refine hF _ _ fun i h1 h2 => ?_
    unfold dgF; rw [if_neg (by omega)]
  | k + 1, ms, hk => by
    rw [Nat.pow_succ, Nat.mul_comm, suC_dig]
    refine (suC_swap (fun t m => F (dgF ms (n - (k + 1)) Q (m + Q * t))) Q (Q ^ k)).trans ?_
    refine suC_cong Q fun m hm => ?_
    rw [← SV_dig hF k _ (by omega)]
    refine suC_cong (Q ^ k) fun t ht => hF _ _ fun i h1 h2 => ?_
    have e : ((m : Int) + (Q : Int) * (t : Int)).toNat = m + Q * t := by rw [← Int.natCast_mul, ← Int.natCast_add, Int.toNat_natCast]
    unfold dgF
    rw [e, Int.toNat_natCast]
    by_cases c1 : i < ((n - (k + 1) : Nat) : Int)
    · rw [if_neg (by omega), if_neg (by omega), upF_ne _ _ (by omega)]
    · rw [if_pos (by omega)]
      by_cases c2 : i = ((n - (k + 1) : Nat) : Int)
      · rw [if_neg (by omega), c2, upF_eq, Int.toNat_natCast, Nat.sub_self, Nat.pow_zero, Nat.div_one, Nat.add_mul_mod_self_left, Nat.mod_eq_of_lt hm]
      · rw [if_pos (by omega), show i.toNat - (n - (k + 1)) = (i.toNat - (n - k)) + 1 from by omega, Nat.pow_succ, Nat.mul_comm (Q ^ _) Q, ← Nat.div_div_eq_div_mul, Nat.add_mul_div_left _ _ (by omega), Nat.div_eq_of_lt hm, Nat.zero_add]
/-- the rows that are taken, place n - k and on still open -/
def LR (n P Q : Nat) (A : (Int → Int) → (Int → Int) → Bool) : Nat → (Int → Int) → (Int → Int) → List ((Int → Int) × (Int → Int))
  | 0, ms, ws => if A ms ws = true then [(ms, ws)] else []
  | k + 1, ms, ws => (List.range Q).flatMap fun (m : Nat) => (List.range P).flatMap fun (w : Nat) => LR n P Q A k (upF ms ((n - (k + 1) : Nat) : Int) m) (upF ws ((n - (k + 1) : Nat) : Int) w)
theorem len_fm {α : Type} (f : Nat → List α) (g : Int → Int) (h : ∀ m : Nat, ((f m).length : Int) = g m) : ∀ q : Nat, (((List.range q).flatMap f).length : Int) = suC g q
  | 0 => rfl
  | q + 1 => by
    rw [List.range_succ, List.flatMap_append, List.length_append, Int.natCast_add, len_fm f g h q]
    show _ + (((f q ++ []).length : Nat) : Int) = suC g q + g q
    rw [List.append_nil, h]
def allB (p : Int → Bool) : Nat → Bool
  | 0 => true
  | n + 1 => allB p n && p n
theorem allB_t {p : Int → Bool} : ∀ {n : Nat}, allB p n = true ↔ ∀ i : Int, 0 ≤ i → i < n → p i = true
  | 0 => ⟨fun _ i h1 h2 => by omega, fun _ => rfl⟩
  | n + 1 => by
    unfold allB
    rw [Bool.and_eq_true, allB_t]
    refine ⟨fun ⟨h1, h2⟩ i h3 h4 => ?_, fun h => ⟨fun i h3 h4 => h i h3 (by omega), h n (by omega) (by omega)⟩⟩
    by_cases c : i = n
    · rw [c]; exact h2
    · exact h1 i h3 (by omega)
theorem allB_cong {p q : Int → Bool} {n : Nat} (h : ∀ i : Int, 0 ≤ i → i < n → p i = q i) : allB p n = allB q n := by
  rw [Bool.eq_iff_iff, allB_t, allB_t]
  exact ⟨fun k i h1 h2 => by rw [← h i h1 h2]; exact k i h1 h2, fun k i h1 h2 => by rw [h i h1 h2]; exact k i h1 h2⟩
def cnt (P : Nat) (U : Int → Int → Bool) (j : Int) : Int := suC (fun w => if U j w = true then 1 else 0) P
def pd (n P : Nat) (U : Int → Int → Bool) : Nat → Int
  | 0 => 1
  | k + 1 => cnt P U ((n - (k + 1) : Nat) : Int) * pd n P U k
theorem suC_if (c : Bool) (U : Int → Bool) (x : Int) : ∀ P : Nat, suC (fun w => if (c && U w) = true then x else 0) P = if c = true then suC (fun w => if U w = true then 1 else 0) P * x else 0
  | 0 => by
    unfold suC; split
    · rw [Int.zero_mul]
    · rfl
  | P + 1 => by
    unfold suC; rw [suC_if c U x P]
    cases c
    · simp
    · cases hU : U P <;> simp [Int.add_mul]
theorem LR_len {n P Q : Nat} {A : (Int → Int) → (Int → Int) → Bool} {G : (Int → Int) → Bool} {U : Int → Int → Bool} (hA : ∀ ms ws, A ms ws = (G ms && allB (fun j => U j (ws j)) n)) : ∀ (k : Nat) (ms ws : Int → Int), k ≤ n → ((LR n P Q A k ms ws).length : Int) = SV n Q k ms (fun μ => if (G μ && allB (fun j => U j (ws j)) (n - k)) = true then pd n P U k else 0)
  | 0, ms, ws, _ => by
    show (((if A ms ws = true then [(ms, ws)] else []).length : Nat) : Int) = if (G ms && allB (fun j => U j (ws j)) (n - 0)) = true then 1 else 0
    rw [hA, Nat.sub_zero]; split <;> rfl
  | k + 1, ms, ws, hk => by
    refine len_fm _ (fun m => SV n Q k (upF ms ((n - (k + 1) : Nat) : Int) m) (fun μ => if (G μ && allB (fun j => U j (ws j)) (n - (k + 1))) = true then pd n P U (k + 1) else 0)) (fun m => ?_) Q
    rw [len_fm _ (fun w => SV n Q k (upF ms ((n - (k + 1) : Nat) : Int) m) (fun μ => if (G μ && allB (fun j => U j (ws j)) (n - (k + 1)) && U ((n - (k + 1) : Nat) : Int) w) = true then pd n P U k else 0)) (fun w => ?_) P, SV_sw]
    · show SV n Q k _ _ = SV n Q k _ _
      congr 1; funext μ; exact suC_if _ (U ((n - (k + 1) : Nat) : Int)) (pd n P U k) P
    · rw [LR_len hA k _ _ (by omega)]
      show SV n Q k _ _ = SV n Q k _ _
      congr 1; funext μ
      have e : allB (fun j => U j (upF ws ((n - (k + 1) : Nat) : Int) w j)) (n - k) = (allB (fun j => U j (ws j)) (n - (k + 1)) && U ((n - (k + 1) : Nat) : Int) w) := by
        rw [show n - k = (n - (k + 1)) + 1 from by omega]
        show (allB _ (n - (k + 1)) && U _ (upF ws _ w _)) = _
        rw [upF_eq, allB_cong (q := fun j => U j (ws j)) fun i h1 h2 => by rw [upF_ne _ _ (by omega)]]
      rw [e, Bool.and_assoc]
theorem LR_fil {n P Q : Nat} (A E : (Int → Int) → (Int → Int) → Bool) : ∀ (k : Nat) (ms ws : Int → Int), LR n P Q (fun ms ws => A ms ws && E ms ws) k ms ws = (LR n P Q A k ms ws).filter (fun x => E x.1 x.2)
  | 0, ms, ws => by
    unfold LR
    cases h1 : A ms ws <;> cases h2 : E ms ws <;> simp [h2]
  | k + 1, ms, ws => by
    unfold LR
    rw [List.filter_flatMap]
    congr 1; funext m
    rw [List.filter_flatMap]
    congr 1; funext w
    exact LR_fil A E k _ _
theorem LR_nil {n P Q : Nat} {A : (Int → Int) → (Int → Int) → Bool} : ∀ (k : Nat) (ms ws : Int → Int), (∀ μ ν, (∀ i : Int, i < ((n - k : Nat) : Int) → μ i = ms i) → A μ ν = false) → LR n P Q A k ms ws = []
  | 0, ms, ws, h => by unfold LR; rw [h ms ws (fun _ _ => rfl)]; rfl
  | k + 1, ms, ws, h => by
    unfold LR
    rw [List.flatMap_eq_nil_iff]; intro m _
    rw [List.flatMap_eq_nil_iff]; intro w _
    exact LR_nil k _ _ fun μ ν q => h μ ν fun i hi => by rw [q i (by omega), upF_ne _ _ (by omega)]
theorem suC_pos {f : Int → Int} : ∀ {n : Nat}, (∀ i : Nat, i < n → 0 ≤ f i) → (0 < suC f n ↔ ∃ i : Nat, i < n ∧ 0 < f i)
  | 0, _ => ⟨fun h => by unfold suC at h; omega, fun ⟨i, h, _⟩ => by omega⟩
  | n + 1, h => by
    have ih := suC_pos (f := f) (n := n) (fun i hi => h i (by omega))
    have h1 := suC_nn f n (fun i hi => h i (by omega))
    have h2 := h n (by omega)
    unfold suC
    constructor
    · intro q
      by_cases c : 0 < f n
      · exact ⟨n, by omega, c⟩
      · obtain ⟨i, h3, h4⟩ := ih.mp (by omega)
        exact ⟨i, by omega, h4⟩
    · rintro ⟨i, h3, h4⟩
      by_cases c : i = n
      · subst c; omega
      · have := ih.mpr ⟨i, by omega, h4⟩; omega
theorem cnt_nn (P : Nat) (U : Int → Int → Bool) (j : Int) : 0 ≤ cnt P U j := suC_nn _ _ fun i _ => by show (0 : Int) ≤ if _ then 1 else 0; split <;> omega
theorem cnt_pos {P : Nat} {U : Int → Int → Bool} {j : Int} : 0 < cnt P U j ↔ ∃ w : Int, 0 ≤ w ∧ w < P ∧ U j w = true := by
  unfold cnt
  rw [suC_pos fun i _ => by show (0 : Int) ≤ if _ then 1 else 0; split <;> omega]
  constructor
  · rintro ⟨i, h1, h2⟩
    refine ⟨i, by omega, by omega, ?_⟩
    have h3 : (0 : Int) < if U j i = true then 1 else 0 := h2
    split at h3
    · assumption
    · omega
  · rintro ⟨w, h1, h2, h3⟩
    refine ⟨w.toNat, by omega, ?_⟩
    show (0 : Int) < if U j ((w.toNat : Nat) : Int) = true then 1 else 0
    rw [show ((w.toNat : Nat) : Int) = w from by omega, if_pos h3]; decide
theorem pd_pos {n P : Nat} {U : Int → Int → Bool} : ∀ (k : Nat), k ≤ n → 0 ≤ pd n P U k ∧ (0 < pd n P U k ↔ ∀ j : Int, ((n - k : Nat) : Int) ≤ j → j < n → 0 < cnt P U j)
  | 0, _ => ⟨by unfold pd; decide, fun _ j h1 h2 => by omega, fun _ => by unfold pd; decide⟩
  | k + 1, hk => by
    obtain ⟨h1, h2⟩ := pd_pos (n := n) (P := P) (U := U) k (by omega)
    have h3 := cnt_nn P U ((n - (k + 1) : Nat) : Int)
    unfold pd
    refine ⟨Int.mul_nonneg h3 h1, fun q => ?_, fun q => Int.mul_pos (q _ (by omega) (by omega)) (h2.mpr fun j h4 h5 => q j (by omega) h5)⟩
    have h4 : cnt P U ((n - (k + 1) : Nat) : Int) ≠ 0 := fun z => by rw [z, Int.zero_mul] at q; omega
    have h5 : pd n P U k ≠ 0 := fun z => by rw [z, Int.mul_zero] at q; omega
    intro j h6 h7
    by_cases c : j = ((n - (k + 1) : Nat) : Int)
    · rw [c]; omega
    · exact h2.mp (by omega) j (by omega) h7
abbrev dg (Q : Nat) (t : Int) : Int → Int := dgF (fun _ => 0) 0 Q t
theorem LR_all {n P Q : Nat} {A : (Int → Int) → (Int → Int) → Bool} {G : (Int → Int) → Bool} {U : Int → Int → Bool} (hA : ∀ ms ws, A ms ws = (G ms && allB (fun j => U j (ws j)) n)) (hG : ∀ μ ν, (∀ i : Int, 0 ≤ i → i < n → μ i = ν i) → G μ = G ν) (ms ws : Int → Int) : ((LR n P Q A n ms ws).length : Int) = suC (fun t => if G (dg Q t) = true then pd n P U n else 0) (Q ^ n) := by
  rw [LR_len hA n ms ws (Nat.le_refl _), ← SV_dig (fun μ ν q => by
    show (if (G μ && allB _ (n - n)) = true then _ else _) = if (G ν && allB _ (n - n)) = true then _ else _
    rw [hG μ ν q]) n ms (Nat.le_refl _)]
  refine suC_cong _ fun t _ => ?_
  rw [Nat.sub_self]
  show (if (G _ && true) = true then _ else _) = _
  rw [Bool.and_true, hG (dgF ms 0 Q t) (dg Q t) fun i h1 h2 => by unfold dg dgF; rw [if_pos (by omega), if_pos (by omega)]]
theorem LR_ex {n P Q : Nat} {A E : (Int → Int) → (Int → Int) → Bool} {G : (Int → Int) → Bool} {U : Int → Int → Bool} (hA : ∀ ms ws, (A ms ws && E ms ws) = (G ms && allB (fun j => U j (ws j)) n)) (hG : ∀ μ ν, (∀ i : Int, 0 ≤ i → i < n → μ i = ν i) → G μ = G ν) (ms ws : Int → Int) : (∃ x, x ∈ LR n P Q A n ms ws ∧ E x.1 x.2 = true) ↔ (∃ t : Nat, t < Q ^ n ∧ G (dg Q t) = true) ∧ ∀ j : Int, 0 ≤ j → j < n → ∃ w : Int, 0 ≤ w ∧ w < P ∧ U j w = true := by
  have h1 := LR_all (P := P) (Q := Q) hA hG ms ws
  have h2 : (∃ x, x ∈ LR n P Q A n ms ws ∧ E x.1 x.2 = true) ↔ 0 < (LR n P Q (fun ms ws => A ms ws && E ms ws) n ms ws).length := by
    rw [LR_fil, List.length_pos_iff_exists_mem]
    exact ⟨fun ⟨x, h⟩ => ⟨x, List.mem_filter.mpr h⟩, fun ⟨x, h⟩ => ⟨x, List.mem_filter.mp h⟩⟩
  have h3 := pd_pos (n := n) (P := P) (U := U) n (Nat.le_refl _)
  rw [h2, ← Int.natCast_pos, h1, suC_pos fun i _ => by show (0 : Int) ≤ if _ then _ else 0; split <;> omega]
  constructor
  · rintro ⟨t, h4, h5⟩
    have h6 : (0 : Int) < if G (dg Q t) = true then pd n P U n else 0 := h5
    split at h6
    · exact ⟨⟨t, h4, by assumption⟩, fun j h7 h8 => cnt_pos.mp (h3.2.mp h6 j (by omega) h8)⟩
    · omega
  · rintro ⟨⟨t, h4, h5⟩, h6⟩
    refine ⟨t, h4, ?_⟩
    show (0 : Int) < if G (dg Q t) = true then pd n P U n else 0
    rw [if_pos h5]
    exact h3.2.mpr fun j h7 h8 => cnt_pos.mpr (h6 j (by omega) h8)
