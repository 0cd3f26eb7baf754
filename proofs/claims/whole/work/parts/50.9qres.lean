theorem rX_restore {sh : Sh} (h : St sh) (B : Mi) (J : Mj) {k : Nat} (hk : k < 2) : ∃ B2 J2, uX10_restore_b31 57 k 0 (sh, B, J) = some (1, (sh, B2, J2)) ∧ (∀ a, a ≠ 57 → a ≠ 59 → B2 a = B a) ∧ (∀ j, j ≠ 23 → gi B2 57 j = gi B 57 j) ∧ gi B2 57 23 = 0 ∧ (∀ a, a ≠ 63 → J2 a = J a) ∧ (∀ x : Int, 0 ≤ x → x < 8140 → ri B2 59 x = imF B k x) ∧ (∀ x : Int, 0 ≤ x → x < 12 → rj J2 63 x = rj J 65 (12 * k + x)) := by
  obtain ⟨B1, a1, a2, a3, a4⟩ := lp_fill (sh := sh) (f := uX10_restore_f31 57 k) (a := 59) (off := 0) (n := 8140) (fun i => imF B k i) B J (by omega) (by decide) (fun i I' g h1 h2 => by
    have e : ri I' 61 (8140 * (k : Int) + i) = imF B k i := ri_of _ _ _ (g 61 (by decide))
    simp (disch := omega) only [uX10_restore_f31, uX10_restore_s31, SEg h, SEr h, SEa h, SEk h, SEj h, SEl h, SEp h, SEs h, bd_some, bd2_some, w32_id, w64_id, e]
    rw [if_neg (by omega), Int.zero_add]) (fun I' g => by
    simp only [uX10_restore_f31, uX10_restore_s31]
    rw [if_pos (by omega)])
  obtain ⟨J1, b1, b2, b3, b4⟩ := lp_fillJ (sh := sh) (f := uX10_restore_f64 57 k) (a := 63) (off := 0) (n := 12) (fun i => rj J 65 (12 * k + i)) B1 J (by omega) (by decide) (fun i I' g h1 h2 => by
    have e : rj I' 65 (12 * (k : Int) + i) = rj J 65 (12 * k + i) := by rw [rj_fun (g 65 (by decide))]
    simp (disch := omega) only [uX10_restore_f64, uX10_restore_s64, SEg h, SEr h, SEa h, SEk h, SEj h, SEl h, SEp h, SEs h, bd_some, bd2_some, w32_id, w64_id, e]
    rw [if_neg (by omega), Int.zero_add]) (fun I' g => by
    simp only [uX10_restore_f64, uX10_restore_s64]
    rw [if_pos (by omega)])
  refine ⟨wi B1 57 23 0, J1, ?_, fun a h1 h2 => by rw [wi_at _ _ _ h1, a2 a h2], fun j hj => by rw [gi_wiw, if_neg (fun q => hj q.2)]; exact gi_of _ _ _ (a2 57 (by decide)), by rw [gi_wiw, if_pos ⟨rfl, rfl⟩]; rfl, b2, fun x h1 h2 => ?_, fun x h1 h2 => ?_⟩
  · simp (disch := omega) only [uX10_restore_b31, a1, bd_some, uX10_restore_c31, uX10_restore_b62, uX10_restore_b64, b1, uX10_restore_c64, uX10_restore_b93, SEg h, SEr h, SEa h, SEk h, SEj h, SEl h, SEp h, SEs h, bd_some, bd2_some]
  · have := a3 x h1 (by omega)
    rw [Int.zero_add] at this
    rw [ri_wi _ _ _ _ (by decide), this]; exact w32_eq (ri_rng _ _ _)
  · have := b3 x h1 (by omega)
    rw [Int.zero_add] at this
    rw [this, w64_eq (rj_rng _ _ _)]
