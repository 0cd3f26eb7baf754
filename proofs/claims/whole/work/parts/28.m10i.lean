/-- n places of row a from d on are row b's from s on, as they were -/
def cp (I : Mi) (a : Nat) (d : Int) (b : Nat) (s n : Int) : Mi := fun x j => if x = a ∧ d ≤ (j : Int) ∧ (j : Int) < d + n then I b ((j : Int) - d + s).toNat else I x j
def cpj (J : Mj) (a : Nat) (d : Int) (b : Nat) (s n : Int) : Mj := fun x j => if x = a ∧ d ≤ (j : Int) ∧ (j : Int) < d + n then J b ((j : Int) - d + s).toNat else J x j
/-- n places of row a from d on hold v -/
def fl (I : Mi) (a : Nat) (d v n : Int) : Mi := fun x j => if x = a ∧ d ≤ (j : Int) ∧ (j : Int) < d + n then iv v else I x j
theorem cp_i (I : Mi) (a : Nat) (d : Int) (b : Nat) (s : Int) {n : Int} (h : n = 0) : cp I a d b s n = I := by
  funext x j; unfold cp; rw [if_neg (by omega)]
theorem cpj_i (J : Mj) (a : Nat) (d : Int) (b : Nat) (s : Int) {n : Int} (h : n = 0) : cpj J a d b s n = J := by
  funext x j; unfold cpj; rw [if_neg (by omega)]
theorem fl_i (I : Mi) (a : Nat) (d v : Int) (_ : Nat) {n : Int} (h : n = 0) : fl I a d v n = I := by
  funext x j; unfold fl; rw [if_neg (by omega)]
theorem cp_fr (I : Mi) (a : Nat) (d : Int) (b : Nat) (s n : Int) (aq kq : Nat) (h : aq ≠ a) : cp I a d b s n aq kq = I aq kq := by unfold cp; rw [if_neg (fun q => h q.1)]
theorem cpj_fr (J : Mj) (a : Nat) (d : Int) (b : Nat) (s n : Int) (aq kq : Nat) (h : aq ≠ a) : cpj J a d b s n aq kq = J aq kq := by unfold cpj; rw [if_neg (fun q => h q.1)]
theorem fl_fr (I : Mi) (a : Nat) (d v n : Int) (aq kq : Nat) (h : aq ≠ a) : fl I a d v n aq kq = I aq kq := by unfold fl; rw [if_neg (fun q => h q.1)]
theorem cp_s {I : Mi} {a : Nat} {d : Int} {b : Nat} {s n e1 e2 : Int} (h1 : e1 = d + n) (h2 : e2 = s + n) (hd : 0 ≤ d) (hn : 0 ≤ n) : wi (cp I a d b s n) a e1.toNat (gi I b e2.toNat) = cp I a d b s (n + 1) := by
  subst h1; subst h2
  funext x j
  unfold wi
  rw [up2_ap, iv_gi]
  unfold cp
  by_cases hx : x = a
  · subst hx
    by_cases hj : j = (d + n).toNat
    · subst hj
      rw [if_pos ⟨rfl, rfl⟩, if_pos ⟨rfl, by omega, by omega⟩]
      congr 1; omega
    · rw [if_neg (fun q => hj q.2)]
      by_cases h3 : d ≤ (j : Int) ∧ (j : Int) < d + n
      · rw [if_pos ⟨rfl, h3.1, h3.2⟩, if_pos ⟨rfl, h3.1, by omega⟩]
      · rw [if_neg (fun q => h3 q.2), if_neg (fun q => h3 ⟨q.2.1, by omega⟩)]
  · rw [if_neg (fun q => hx q.1), if_neg (fun q => hx q.1), if_neg (fun q => hx q.1)]
theorem cp_r {I : Mi} {a : Nat} {d : Int} {b : Nat} {s n e2 : Int} (h2 : e2 = s + n) (hs : d < s) (hn : 0 ≤ n) (hs0 : 0 ≤ s) : gi (cp I a d b s n) a e2.toNat = gi I a e2.toNat := by
  subst h2
  unfold gi cp
  rw [if_neg (fun q => by omega)]
theorem cpj_s {J : Mj} {a : Nat} {d : Int} {b : Nat} {s n e1 e2 : Int} (h1 : e1 = d + n) (h2 : e2 = s + n) (hd : 0 ≤ d) (hn : 0 ≤ n) : wj (cpj J a d b s n) a e1.toNat (gj J b e2.toNat) = cpj J a d b s (n + 1) := by
  subst h1; subst h2
  funext x j
  unfold wj
  rw [up2_ap, jv_gj]
  unfold cpj
  by_cases hx : x = a
  · subst hx
    by_cases hj : j = (d + n).toNat
    · subst hj
      rw [if_pos ⟨rfl, rfl⟩, if_pos ⟨rfl, by omega, by omega⟩]
      congr 1; omega
    · rw [if_neg (fun q => hj q.2)]
      by_cases h3 : d ≤ (j : Int) ∧ (j : Int) < d + n
      · rw [if_pos ⟨rfl, h3.1, h3.2⟩, if_pos ⟨rfl, h3.1, by omega⟩]
      · rw [if_neg (fun q => h3 q.2), if_neg (fun q => h3 ⟨q.2.1, by omega⟩)]
  · rw [if_neg (fun q => hx q.1), if_neg (fun q => hx q.1), if_neg (fun q => hx q.1)]
theorem fl_s {I : Mi} {a : Nat} {d v n e1 : Int} (h1 : e1 = d + n) (hd : 0 ≤ d) (hn : 0 ≤ n) : wi (fl I a d v n) a e1.toNat v = fl I a d v (n + 1) := by
  subst h1
  funext x j
  unfold wi
  rw [up2_ap]
  unfold fl
  by_cases hx : x = a
  · subst hx
    by_cases hj : j = (d + n).toNat
    · subst hj
      rw [if_pos ⟨rfl, rfl⟩, if_pos ⟨rfl, by omega, by omega⟩]
    · rw [if_neg (fun q => hj q.2)]
      by_cases h3 : d ≤ (j : Int) ∧ (j : Int) < d + n
      · rw [if_pos ⟨rfl, h3.1, h3.2⟩, if_pos ⟨rfl, h3.1, by omega⟩]
      · rw [if_neg (fun q => h3 q.2), if_neg (fun q => h3 ⟨q.2.1, by omega⟩)]
  · rw [if_neg (fun q => hx q.1), if_neg (fun q => hx q.1), if_neg (fun q => hx q.1)]

noncomputable def fX10_snap (S : Mi × Mj) : Int × Mi × Mj :=
  match S with
  | (I, J) =>
    if (gi I 57 23) = 6 then
      (0, (wi (cp (wi (cp I 62 0 62 7900 39500) 57 23 ((gi I 57 23) - 1)) 62 (7900 * ((gi I 57 23) - 1)) 59 0 7900) 57 23 (((gi I 57 23) - 1) + 1)), J)
    else
      (0, (wi (cp I 62 (7900 * (gi I 57 23)) 59 0 7900) 57 23 ((gi I 57 23) + 1)), J)
theorem frX10_snap {S : Mi × Mj} {r0 : Int} {I0 : Mi} {J0 : Mj} (h : fX10_snap  S = (r0, I0, J0)) (aq kq : Nat) (haq : aq ≠ 62 ∧ ¬ (aq = 57 ∧ kq = 23)) : I0 aq kq = S.1 aq kq := by
  obtain ⟨I, J⟩ := S
  unfold fX10_snap at h
  try simp only at h
  by_cases hq1 : (gi I 57 23) = 6
  · simp only [if_pos hq1] at h
    simp only [Prod.mk.injEq] at h
    obtain ⟨-, hI, hJ⟩ := h
    exact (congrFun (congrFun hI aq) kq).symm.trans (Eq.trans (wi_nc _ _ haq.2) (Eq.trans (cp_fr _ _ _ _ _ _ aq kq haq.1) (Eq.trans (wi_nc _ _ haq.2) (Eq.trans (cp_fr _ _ _ _ _ _ aq kq haq.1) rfl))))
  · simp only [if_neg hq1] at h
    simp only [Prod.mk.injEq] at h
    obtain ⟨-, hI, hJ⟩ := h
    exact (congrFun (congrFun hI aq) kq).symm.trans (Eq.trans (wi_nc _ _ haq.2) (Eq.trans (cp_fr _ _ _ _ _ _ aq kq haq.1) rfl))
theorem fjX10_snap {S : Mi × Mj} {r0 : Int} {I0 : Mi} {J0 : Mj} (h : fX10_snap  S = (r0, I0, J0)) (aq kq : Nat) (haq : True) : J0 aq kq = S.2 aq kq := by
  obtain ⟨I, J⟩ := S
  unfold fX10_snap at h
  try simp only at h
  by_cases hq1 : (gi I 57 23) = 6
  · simp only [if_pos hq1] at h
    simp only [Prod.mk.injEq] at h
    obtain ⟨-, hI, hJ⟩ := h
    exact (congrFun (congrFun hJ aq) kq).symm.trans rfl
  · simp only [if_neg hq1] at h
    simp only [Prod.mk.injEq] at h
    obtain ⟨-, hI, hJ⟩ := h
    exact (congrFun (congrFun hJ aq) kq).symm.trans rfl
set_option maxHeartbeats 4000000 in
set_option maxRecDepth 100000 in
theorem qX10_snap {G : Gx} {σ : State} (hC : Cz G σ) {sh : Sh} {I : Mi} {J : Mj}  (hS : St sh) (hsn : 0 ≤ gi I 57 23 ∧ gi I 57 23 ≤ 6) : Ce G σ 1 yX10_snap cX10_snap 2 none [.ref (G.2.2 + 57)] (sh, I, J) 0 0 none (sh, (fX10_snap (I, J)).2.1, (fX10_snap (I, J)).2.2) := by
  refine Ct.of hC (by decide +kernel) (Nat.le_of_ble_eq_true rfl) ?_
  intro p l e R s m args below meth c C
  show Jz G σ p l e R s m args below meth c 2 0 0 (Qx none (sh, (fX10_snap (I, J)).2.1, (fX10_snap (I, J)).2.2)) (sh, I, J) 0 0 0 [(0, .ref (G.2.2 + 57))] []
  refine z_aload_n C dX10_snap_0 0 rfl ?_
  refine z_getI C dX10_snap_1 fX10_240 rfl (kd_57 hS) ?_
  refine z_bipush C dX10_snap_4 (by decide) ?_
  refine z_icmp_ne 51 C dX10_snap_6 (by decide) (gi_rng _ _ _) (by decide) (fun h1 => ?_) (fun h1 => ?_)
  ·
    refine z_iconst C dX10_snap_51 ?_
    refine z_istore_n (lv' := [(0, .ref (G.2.2 + 57)), (1, .int (iv (0)))]) C dX10_snap_52 rfl (by decide) [1, 0] rfl ?_
    have hE5 : Jz G σ p l e R s m args below meth c 2 0 0 (Qx none (sh, (fX10_snap (I, J)).2.1, (fX10_snap (I, J)).2.2)) (sh, (cp I 62 (7900 * (gi I 57 23)) 59 0 7900), J) 0 0 87 [(0, .ref (G.2.2 + 57))] [] := by
      refine z_aload_n C dX10_snap_87 0 rfl ?_
      refine z_dup C dX10_snap_88 rfl ?_
      refine z_getI C dX10_snap_89 fX10_240 rfl (kd_57 hS) ?_
      refine z_eqi (gi I 57 23) (gi_fk (cp_fr _ _ _ _ _ _ 57 23 (by decide))) ?_
      refine z_iconst C dX10_snap_92 ?_
      refine z_iadd C dX10_snap_93 ?_
      refine z_putI C dX10_snap_94 fX10_240 rfl rfl (kd_57 hS) rfl rfl ?_
      have hf6 : fX10_snap (I, J) = (0, (wi (cp I 62 (7900 * (gi I 57 23)) 59 0 7900) 57 23 ((gi I 57 23) + 1)), J) := (by simp only [fX10_snap, if_neg h1])
      exact z_returnx C dX10_snap_97 (by rw [hf6])
    have hL3 : ∀ (N2 : Nat) (k : Int), (0 ≤ k ∧ k ≤ 7900) → (7900 - k).toNat < N2 → Jz G σ p l e R s m args below meth c 2 0 0 (Qx none (sh, (fX10_snap (I, J)).2.1, (fX10_snap (I, J)).2.2)) (sh, (cp I 62 (7900 * (gi I 57 23)) 59 0 k), J) 0 0 53 [(0, .ref (G.2.2 + 57)), (1, .int (iv (k)))] [] := by
      intro N2
      induction N2 with
      | zero => intro k hk hm; exact absurd hm (Nat.not_lt_zero _)
      | succ N2 ih4 =>
        intro k hk hm
        refine z_iload_n C dX10_snap_53 1 rfl ?_
        refine z_sipush C dX10_snap_54 (by decide) ?_
        refine z_icmp_ge 87 C dX10_snap_57 (by decide) (by omega) (by decide) (fun h7 => ?_) (fun h7 => ?_)
        ·
          have hcl : k = 7900 := by omega
          refine z_eqM (sh, (cp I 62 (7900 * (gi I 57 23)) 59 0 7900), J) (memEq (by rw [show k = 7900 by omega]) rfl) ?_
          refine z_drop (lv' := [(0, .ref (G.2.2 + 57))]) [0] rfl ?_
          exact hE5
        ·
          refine z_aload_n C dX10_snap_60 0 rfl ?_
          refine z_getR C dX10_snap_61 fX10_23 rfl (kd_57 hS) (r_57_17 hS) ?_
          refine z_sipush C dX10_snap_64 (by decide) ?_
          refine z_aload_n C dX10_snap_67 0 rfl ?_
          refine z_getI C dX10_snap_68 fX10_240 rfl (kd_57 hS) ?_
          refine z_eqi (gi I 57 23) (gi_fk (cp_fr _ _ _ _ _ _ 57 23 (by decide))) ?_
          refine z_imul C dX10_snap_71 ?_
          refine z_iload_n C dX10_snap_72 1 rfl ?_
          refine z_iadd C dX10_snap_73 ?_
          refine z_aload_n C dX10_snap_74 0 rfl ?_
          refine z_getR C dX10_snap_75 fX10_13 rfl (kd_57 hS) (r_57_14 hS) ?_
          refine z_iload_n C dX10_snap_78 1 rfl ?_
          refine z_iald (q := (k).toNat) C dX10_snap_79 (ka_59 hS) (by omega) (by omega) ?_
          refine z_eqi (gi I 59 ((k).toNat)) (gi_fk (cp_fr _ _ _ _ _ _ 59 ((k).toNat) (by simp))) ?_
          refine z_iast (q := ((7900 * (gi I 57 23)) + k).toNat) C dX10_snap_80 (ka_62 hS) (by omega) (by omega) ?_
          refine z_iinc (lv' := [(0, .ref (G.2.2 + 57)), (1, .int (iv (k + 1)))]) C dX10_snap_81 1 rfl (by decide) [1, 0] rfl ?_
          refine z_goto 53 C dX10_snap_84 (by decide) ?_
          refine z_eqM (sh, (cp I 62 (7900 * (gi I 57 23)) 59 0 (k + 1)), J) (memEq (cp_s (by omega) (by omega) (by omega) (by omega)) rfl) ?_
          exact ih4 (k + 1) (by omega) (by omega)
    refine z_eqM (sh, (cp I 62 (7900 * (gi I 57 23)) 59 0 0), J) (memEq (cp_i _ _ _ _ _ (by omega)).symm rfl) ?_
    exact hL3 _ (0) (by omega) (Nat.lt_succ_self _)
  ·
    refine z_sipush C dX10_snap_9 (by decide) ?_
    refine z_istore_n (lv' := [(0, .ref (G.2.2 + 57)), (1, .int (iv (7900)))]) C dX10_snap_12 rfl (by decide) [1, 0] rfl ?_
    have hE11 : Jz G σ p l e R s m args below meth c 2 0 0 (Qx none (sh, (fX10_snap (I, J)).2.1, (fX10_snap (I, J)).2.2)) (sh, (cp I 62 0 62 7900 39500), J) 0 0 41 [(0, .ref (G.2.2 + 57))] [] := by
      refine z_aload_n C dX10_snap_41 0 rfl ?_
      refine z_dup C dX10_snap_42 rfl ?_
      refine z_getI C dX10_snap_43 fX10_240 rfl (kd_57 hS) ?_
      refine z_eqi (gi I 57 23) (gi_fk (cp_fr _ _ _ _ _ _ 57 23 (by decide))) ?_
      refine z_iconst C dX10_snap_46 ?_
      refine z_isub C dX10_snap_47 ?_
      refine z_putI C dX10_snap_48 fX10_240 rfl rfl (kd_57 hS) rfl rfl ?_
      refine z_iconst C dX10_snap_51 ?_
      refine z_istore_n (lv' := [(0, .ref (G.2.2 + 57)), (1, .int (iv (0)))]) C dX10_snap_52 rfl (by decide) [1, 0] rfl ?_
      have hE15 : Jz G σ p l e R s m args below meth c 2 0 0 (Qx none (sh, (fX10_snap (I, J)).2.1, (fX10_snap (I, J)).2.2)) (sh, (cp (wi (cp I 62 0 62 7900 39500) 57 23 ((gi I 57 23) - 1)) 62 (7900 * ((gi I 57 23) - 1)) 59 0 7900), J) 0 0 87 [(0, .ref (G.2.2 + 57))] [] := by
        refine z_aload_n C dX10_snap_87 0 rfl ?_
        refine z_dup C dX10_snap_88 rfl ?_
        refine z_getI C dX10_snap_89 fX10_240 rfl (kd_57 hS) ?_
        refine z_eqi ((gi I 57 23) - 1) (Eq.trans (gi_fk (cp_fr _ _ _ _ _ _ 57 23 (by decide))) (gi_wi_eq (x := (gi I 57 23) - 1) _ _ _ (by have := gi_rng I 57 23; omega))) ?_
        refine z_iconst C dX10_snap_92 ?_
        refine z_iadd C dX10_snap_93 ?_
        refine z_putI C dX10_snap_94 fX10_240 rfl rfl (kd_57 hS) rfl rfl ?_
        have hf16 : fX10_snap (I, J) = (0, (wi (cp (wi (cp I 62 0 62 7900 39500) 57 23 ((gi I 57 23) - 1)) 62 (7900 * ((gi I 57 23) - 1)) 59 0 7900) 57 23 (((gi I 57 23) - 1) + 1)), J) := (by simp only [fX10_snap, if_pos h1])
        exact z_returnx C dX10_snap_97 (by rw [hf16])
      have hL13 : ∀ (N12 : Nat) (k : Int), (0 ≤ k ∧ k ≤ 7900) → (7900 - k).toNat < N12 → Jz G σ p l e R s m args below meth c 2 0 0 (Qx none (sh, (fX10_snap (I, J)).2.1, (fX10_snap (I, J)).2.2)) (sh, (cp (wi (cp I 62 0 62 7900 39500) 57 23 ((gi I 57 23) - 1)) 62 (7900 * ((gi I 57 23) - 1)) 59 0 k), J) 0 0 53 [(0, .ref (G.2.2 + 57)), (1, .int (iv (k)))] [] := by
        intro N12
        induction N12 with
        | zero => intro k hk hm; exact absurd hm (Nat.not_lt_zero _)
        | succ N12 ih14 =>
          intro k hk hm
          refine z_iload_n C dX10_snap_53 1 rfl ?_
          refine z_sipush C dX10_snap_54 (by decide) ?_
          refine z_icmp_ge 87 C dX10_snap_57 (by decide) (by omega) (by decide) (fun h17 => ?_) (fun h17 => ?_)
          ·
            have hcl : k = 7900 := by omega
            refine z_eqM (sh, (cp (wi (cp I 62 0 62 7900 39500) 57 23 ((gi I 57 23) - 1)) 62 (7900 * ((gi I 57 23) - 1)) 59 0 7900), J) (memEq (by rw [show k = 7900 by omega]) rfl) ?_
            refine z_drop (lv' := [(0, .ref (G.2.2 + 57))]) [0] rfl ?_
            exact hE15
          ·
            refine z_aload_n C dX10_snap_60 0 rfl ?_
            refine z_getR C dX10_snap_61 fX10_23 rfl (kd_57 hS) (r_57_17 hS) ?_
            refine z_sipush C dX10_snap_64 (by decide) ?_
            refine z_aload_n C dX10_snap_67 0 rfl ?_
            refine z_getI C dX10_snap_68 fX10_240 rfl (kd_57 hS) ?_
            refine z_eqi ((gi I 57 23) - 1) (Eq.trans (gi_fk (cp_fr _ _ _ _ _ _ 57 23 (by decide))) (gi_wi_eq (x := (gi I 57 23) - 1) _ _ _ (by have := gi_rng I 57 23; omega))) ?_
            refine z_imul C dX10_snap_71 ?_
            refine z_iload_n C dX10_snap_72 1 rfl ?_
            refine z_iadd C dX10_snap_73 ?_
            refine z_aload_n C dX10_snap_74 0 rfl ?_
            refine z_getR C dX10_snap_75 fX10_13 rfl (kd_57 hS) (r_57_14 hS) ?_
            refine z_iload_n C dX10_snap_78 1 rfl ?_
            refine z_iald (q := (k).toNat) C dX10_snap_79 (ka_59 hS) (by omega) (by omega) ?_
            refine z_eqi (gi I 59 ((k).toNat)) (Eq.trans (gi_fk (cp_fr _ _ _ _ _ _ 59 ((k).toNat) (by simp))) (Eq.trans (gi_wi_na _ _ _ _ (by decide)) (gi_fk (cp_fr _ _ _ _ _ _ 59 ((k).toNat) (by simp))))) ?_
            refine z_iast (q := ((7900 * ((gi I 57 23) - 1)) + k).toNat) C dX10_snap_80 (ka_62 hS) (by omega) (by omega) ?_
            refine z_iinc (lv' := [(0, .ref (G.2.2 + 57)), (1, .int (iv (k + 1)))]) C dX10_snap_81 1 rfl (by decide) [1, 0] rfl ?_
            refine z_goto 53 C dX10_snap_84 (by decide) ?_
            refine z_eqM (sh, (cp (wi (cp I 62 0 62 7900 39500) 57 23 ((gi I 57 23) - 1)) 62 (7900 * ((gi I 57 23) - 1)) 59 0 (k + 1)), J) (memEq (cp_s (by omega) (by omega) (by omega) (by omega)) rfl) ?_
            exact ih14 (k + 1) (by omega) (by omega)
      refine z_eqM (sh, (cp (wi (cp I 62 0 62 7900 39500) 57 23 ((gi I 57 23) - 1)) 62 (7900 * ((gi I 57 23) - 1)) 59 0 0), J) (memEq (cp_i _ _ _ _ _ (by omega)).symm rfl) ?_
      exact hL13 _ (0) (by omega) (Nat.lt_succ_self _)
    have hL9 : ∀ (N8 : Nat) (k : Int), (7900 ≤ k ∧ k ≤ 47400) → (47400 - k).toNat < N8 → Jz G σ p l e R s m args below meth c 2 0 0 (Qx none (sh, (fX10_snap (I, J)).2.1, (fX10_snap (I, J)).2.2)) (sh, (cp I 62 0 62 7900 (k - 7900)), J) 0 0 13 [(0, .ref (G.2.2 + 57)), (1, .int (iv (k)))] [] := by
      intro N8
      induction N8 with
      | zero => intro k hk hm; exact absurd hm (Nat.not_lt_zero _)
      | succ N8 ih10 =>
        intro k hk hm
        refine z_iload_n C dX10_snap_13 1 rfl ?_
        refine z_ldc C dX10_snap_14 kX10_22 ?_
        refine z_icmp_ge 41 C dX10_snap_16 (by decide) (by omega) (by decide) (fun h18 => ?_) (fun h18 => ?_)
        ·
          have hcl : k = 47400 := by omega
          refine z_eqM (sh, (cp I 62 0 62 7900 39500), J) (memEq (by rw [show k - 7900 = 39500 by omega]) rfl) ?_
          refine z_drop (lv' := [(0, .ref (G.2.2 + 57))]) [0] rfl ?_
          exact hE11
        ·
          refine z_aload_n C dX10_snap_19 0 rfl ?_
          refine z_getR C dX10_snap_20 fX10_23 rfl (kd_57 hS) (r_57_17 hS) ?_
          refine z_iload_n C dX10_snap_23 1 rfl ?_
          refine z_sipush C dX10_snap_24 (by decide) ?_
          refine z_isub C dX10_snap_27 ?_
          refine z_aload_n C dX10_snap_28 0 rfl ?_
          refine z_getR C dX10_snap_29 fX10_23 rfl (kd_57 hS) (r_57_17 hS) ?_
          refine z_iload_n C dX10_snap_32 1 rfl ?_
          refine z_iald (q := (k).toNat) C dX10_snap_33 (ka_62 hS) (by omega) (by omega) ?_
          refine z_iast (q := (k - 7900).toNat) C dX10_snap_34 (ka_62 hS) (by omega) (by omega) ?_
          refine z_iinc (lv' := [(0, .ref (G.2.2 + 57)), (1, .int (iv (k + 1)))]) C dX10_snap_35 1 rfl (by decide) [1, 0] rfl ?_
          refine z_goto 13 C dX10_snap_38 (by decide) ?_
          refine z_eqM (sh, (cp I 62 0 62 7900 ((k + 1) - 7900)), J) (memEq (by rw [cp_r (by omega) (by decide) (by omega) (by decide)]; exact (cp_s (by omega) (by omega) (by decide) (by omega)).trans (by rw [show k - 7900 + 1 = k + 1 - 7900 by omega])) rfl) ?_
          exact ih10 (k + 1) (by omega) (by omega)
    refine z_eqM (sh, (cp I 62 0 62 7900 (7900 - 7900)), J) (memEq (cp_i _ _ _ _ _ (by omega)).symm rfl) ?_
    exact hL9 _ (7900) (by omega) (Nat.lt_succ_self _)

