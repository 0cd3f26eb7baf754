noncomputable def fX10_bad (k : Int) (S : Mi × Mj) : Bool × Mi × Mj :=
  match S with
  | (I, J) =>
    if (gi I 57 7) = 1 then
      (false, (wi (wi I 57 10 1) 57 11 (gi I 57 6)), J)
    else
      (false, (wi (wi I 57 10 k) 57 11 (gi I 57 6)), J)
theorem frX10_bad {k : Int} {S : Mi × Mj} {r0 : Bool} {I0 : Mi} {J0 : Mj} (h : fX10_bad k S = (r0, I0, J0)) (aq kq : Nat) (haq : ¬ (aq = 57 ∧ kq = 10) ∧ ¬ (aq = 57 ∧ kq = 11)) : I0 aq kq = S.1 aq kq := by
  obtain ⟨I, J⟩ := S
  unfold fX10_bad at h
  try simp only at h
  by_cases hq1 : (gi I 57 7) = 1
  · simp only [if_pos hq1] at h
    simp only [Prod.mk.injEq] at h
    obtain ⟨-, hI, hJ⟩ := h
    exact (congrFun (congrFun hI aq) kq).symm.trans (Eq.trans (wi_nc _ _ haq.2) (Eq.trans (wi_nc _ _ haq.1) rfl))
  · simp only [if_neg hq1] at h
    simp only [Prod.mk.injEq] at h
    obtain ⟨-, hI, hJ⟩ := h
    exact (congrFun (congrFun hI aq) kq).symm.trans (Eq.trans (wi_nc _ _ haq.2) (Eq.trans (wi_nc _ _ haq.1) rfl))
theorem fjX10_bad {k : Int} {S : Mi × Mj} {r0 : Bool} {I0 : Mi} {J0 : Mj} (h : fX10_bad k S = (r0, I0, J0)) (aq kq : Nat) (haq : True) : J0 aq kq = S.2 aq kq := by
  obtain ⟨I, J⟩ := S
  unfold fX10_bad at h
  try simp only at h
  by_cases hq1 : (gi I 57 7) = 1
  · simp only [if_pos hq1] at h
    simp only [Prod.mk.injEq] at h
    obtain ⟨-, hI, hJ⟩ := h
    exact (congrFun (congrFun hJ aq) kq).symm.trans rfl
  · simp only [if_neg hq1] at h
    simp only [Prod.mk.injEq] at h
    obtain ⟨-, hI, hJ⟩ := h
    exact (congrFun (congrFun hJ aq) kq).symm.trans rfl
set_option maxHeartbeats 4000000 in
set_option maxRecDepth 100000 in
theorem qX10_bad {G : Gx} {σ : State} (hC : Cz G σ) {sh : Sh} {I : Mi} {J : Mj} (k : Int) (hS : St sh) (rk : -2147483648 ≤ k ∧ k < 2147483648) : Ce G σ 1 yX10_bad cX10_bad 2 (some .boolean) [.ref (G.2.2 + 57), .int (iv (k))] (sh, I, J) 0 0 (some (.int (iv (b2 ((fX10_bad k (I, J)).1 = true))))) (sh, (fX10_bad k (I, J)).2.1, (fX10_bad k (I, J)).2.2) := by
  refine Ct.of hC (by decide +kernel) (Nat.le_of_ble_eq_true rfl) ?_
  intro p l e R s m args below meth c C
  show Jz G σ p l e R s m args below meth c 2 0 0 (Qx (some (.int (iv (b2 ((fX10_bad k (I, J)).1 = true))))) (sh, (fX10_bad k (I, J)).2.1, (fX10_bad k (I, J)).2.2)) (sh, I, J) 0 0 0 [(0, .ref (G.2.2 + 57)), (1, .int (iv (k)))] []
  refine z_aload_n C dX10_bad_0 0 rfl ?_
  refine z_aload_n C dX10_bad_1 0 rfl ?_
  refine z_getI C dX10_bad_2 fX10_105 rfl (kd_57 hS) ?_
  refine z_iconst C dX10_bad_5 ?_
  refine z_icmp_ne 13 C dX10_bad_6 (by decide) (gi_rng _ _ _) (by decide) (fun h1 => ?_) (fun h1 => ?_)
  ·
    refine z_iload_n C dX10_bad_13 1 rfl ?_
    refine z_putI C dX10_bad_14 fX10_145 rfl rfl (kd_57 hS) rfl rfl ?_
    refine z_aload_n C dX10_bad_17 0 rfl ?_
    refine z_aload_n C dX10_bad_18 0 rfl ?_
    refine z_getI C dX10_bad_19 fX10_99 rfl (kd_57 hS) ?_
    refine z_eqi (gi I 57 6) (gi_wi_nk _ _ _ (by decide)) ?_
    refine z_putI C dX10_bad_22 fX10_148 rfl rfl (kd_57 hS) rfl rfl ?_
    refine z_iconst C dX10_bad_25 ?_
    have hf2 : fX10_bad k (I, J) = (false, (wi (wi I 57 10 k) 57 11 (gi I 57 6)), J) := (by simp only [fX10_bad, if_neg h1])
    exact z_zreturnx C dX10_bad_26 rfl (by rw [hf2]; rfl) (by rw [hf2])
  ·
    refine z_iconst C dX10_bad_9 ?_
    refine z_goto 14 C dX10_bad_10 (by decide) ?_
    refine z_putI C dX10_bad_14 fX10_145 rfl rfl (kd_57 hS) rfl rfl ?_
    refine z_aload_n C dX10_bad_17 0 rfl ?_
    refine z_aload_n C dX10_bad_18 0 rfl ?_
    refine z_getI C dX10_bad_19 fX10_99 rfl (kd_57 hS) ?_
    refine z_eqi (gi I 57 6) (gi_wi_nk _ _ _ (by decide)) ?_
    refine z_putI C dX10_bad_22 fX10_148 rfl rfl (kd_57 hS) rfl rfl ?_
    refine z_iconst C dX10_bad_25 ?_
    have hf3 : fX10_bad k (I, J) = (false, (wi (wi I 57 10 1) 57 11 (gi I 57 6)), J) := (by simp only [fX10_bad, if_pos h1])
    exact z_zreturnx C dX10_bad_26 rfl (by rw [hf3]; rfl) (by rw [hf3])

noncomputable def fX10_plain59 (S : Mi × Mj) : Int × Mi × Mj :=
  match S with
  | (I, J) =>
    (0, (wi (wi (wi I 59 4 50) 59 5 50) 59 6 5), J)
theorem frX10_plain59 {S : Mi × Mj} {r0 : Int} {I0 : Mi} {J0 : Mj} (h : fX10_plain59  S = (r0, I0, J0)) (aq kq : Nat) (haq : ¬ (aq = 59 ∧ kq = 4) ∧ ¬ (aq = 59 ∧ kq = 5) ∧ ¬ (aq = 59 ∧ kq = 6)) : I0 aq kq = S.1 aq kq := by
  obtain ⟨I, J⟩ := S
  unfold fX10_plain59 at h
  try simp only at h
  simp only [Prod.mk.injEq] at h
  obtain ⟨-, hI, hJ⟩ := h
  exact (congrFun (congrFun hI aq) kq).symm.trans (Eq.trans (wi_nc _ _ haq.2.2) (Eq.trans (wi_nc _ _ haq.2.1) (Eq.trans (wi_nc _ _ haq.1) rfl)))
theorem fjX10_plain59 {S : Mi × Mj} {r0 : Int} {I0 : Mi} {J0 : Mj} (h : fX10_plain59  S = (r0, I0, J0)) (aq kq : Nat) (haq : True) : J0 aq kq = S.2 aq kq := by
  obtain ⟨I, J⟩ := S
  unfold fX10_plain59 at h
  try simp only at h
  simp only [Prod.mk.injEq] at h
  obtain ⟨-, hI, hJ⟩ := h
  exact (congrFun (congrFun hJ aq) kq).symm.trans rfl
set_option maxHeartbeats 4000000 in
set_option maxRecDepth 100000 in
theorem qX10_plain59 {G : Gx} {σ : State} (hC : Cz G σ) {sh : Sh} {I : Mi} {J : Mj}  (hS : St sh) : Ce G σ 1 yX10_plain cX10_plain 2 none [.ref (G.2.2 + 57), .ref (G.2.2 + 59)] (sh, I, J) 0 0 none (sh, (fX10_plain59 (I, J)).2.1, (fX10_plain59 (I, J)).2.2) := by
  refine Ct.of hC (by decide +kernel) (Nat.le_of_ble_eq_true rfl) ?_
  intro p l e R s m args below meth c C
  show Jz G σ p l e R s m args below meth c 2 0 0 (Qx none (sh, (fX10_plain59 (I, J)).2.1, (fX10_plain59 (I, J)).2.2)) (sh, I, J) 0 0 0 [(0, .ref (G.2.2 + 57)), (1, .ref (G.2.2 + 59))] []
  refine z_aload_n C dX10_plain_0 1 rfl ?_
  refine z_iconst C dX10_plain_1 ?_
  refine z_bipush C dX10_plain_2 (by decide) ?_
  refine z_iast (q := 4) C dX10_plain_4 (ka_59 hS) rfl (by decide) ?_
  refine z_aload_n C dX10_plain_5 1 rfl ?_
  refine z_iconst C dX10_plain_6 ?_
  refine z_bipush C dX10_plain_7 (by decide) ?_
  refine z_iast (q := 5) C dX10_plain_9 (ka_59 hS) rfl (by decide) ?_
  refine z_aload_n C dX10_plain_10 1 rfl ?_
  refine z_bipush C dX10_plain_11 (by decide) ?_
  refine z_iconst C dX10_plain_13 ?_
  refine z_iast (q := 6) C dX10_plain_14 (ka_59 hS) rfl (by decide) ?_
  have hf1 : fX10_plain59 (I, J) = (0, (wi (wi (wi I 59 4 50) 59 5 50) 59 6 5), J) := (by simp only [fX10_plain59])
  exact z_returnx C dX10_plain_15 (by rw [hf1])

noncomputable def fX10_plain60 (S : Mi × Mj) : Int × Mi × Mj :=
  match S with
  | (I, J) =>
    (0, (wi (wi (wi I 60 4 50) 60 5 50) 60 6 5), J)
theorem frX10_plain60 {S : Mi × Mj} {r0 : Int} {I0 : Mi} {J0 : Mj} (h : fX10_plain60  S = (r0, I0, J0)) (aq kq : Nat) (haq : ¬ (aq = 60 ∧ kq = 4) ∧ ¬ (aq = 60 ∧ kq = 5) ∧ ¬ (aq = 60 ∧ kq = 6)) : I0 aq kq = S.1 aq kq := by
  obtain ⟨I, J⟩ := S
  unfold fX10_plain60 at h
  try simp only at h
  simp only [Prod.mk.injEq] at h
  obtain ⟨-, hI, hJ⟩ := h
  exact (congrFun (congrFun hI aq) kq).symm.trans (Eq.trans (wi_nc _ _ haq.2.2) (Eq.trans (wi_nc _ _ haq.2.1) (Eq.trans (wi_nc _ _ haq.1) rfl)))
theorem fjX10_plain60 {S : Mi × Mj} {r0 : Int} {I0 : Mi} {J0 : Mj} (h : fX10_plain60  S = (r0, I0, J0)) (aq kq : Nat) (haq : True) : J0 aq kq = S.2 aq kq := by
  obtain ⟨I, J⟩ := S
  unfold fX10_plain60 at h
  try simp only at h
  simp only [Prod.mk.injEq] at h
  obtain ⟨-, hI, hJ⟩ := h
  exact (congrFun (congrFun hJ aq) kq).symm.trans rfl
set_option maxHeartbeats 4000000 in
set_option maxRecDepth 100000 in
theorem qX10_plain60 {G : Gx} {σ : State} (hC : Cz G σ) {sh : Sh} {I : Mi} {J : Mj}  (hS : St sh) : Ce G σ 1 yX10_plain cX10_plain 2 none [.ref (G.2.2 + 57), .ref (G.2.2 + 60)] (sh, I, J) 0 0 none (sh, (fX10_plain60 (I, J)).2.1, (fX10_plain60 (I, J)).2.2) := by
  refine Ct.of hC (by decide +kernel) (Nat.le_of_ble_eq_true rfl) ?_
  intro p l e R s m args below meth c C
  show Jz G σ p l e R s m args below meth c 2 0 0 (Qx none (sh, (fX10_plain60 (I, J)).2.1, (fX10_plain60 (I, J)).2.2)) (sh, I, J) 0 0 0 [(0, .ref (G.2.2 + 57)), (1, .ref (G.2.2 + 60))] []
  refine z_aload_n C dX10_plain_0 1 rfl ?_
  refine z_iconst C dX10_plain_1 ?_
  refine z_bipush C dX10_plain_2 (by decide) ?_
  refine z_iast (q := 4) C dX10_plain_4 (ka_60 hS) rfl (by decide) ?_
  refine z_aload_n C dX10_plain_5 1 rfl ?_
  refine z_iconst C dX10_plain_6 ?_
  refine z_bipush C dX10_plain_7 (by decide) ?_
  refine z_iast (q := 5) C dX10_plain_9 (ka_60 hS) rfl (by decide) ?_
  refine z_aload_n C dX10_plain_10 1 rfl ?_
  refine z_bipush C dX10_plain_11 (by decide) ?_
  refine z_iconst C dX10_plain_13 ?_
  refine z_iast (q := 6) C dX10_plain_14 (ka_60 hS) rfl (by decide) ?_
  have hf1 : fX10_plain60 (I, J) = (0, (wi (wi (wi I 60 4 50) 60 5 50) 60 6 5), J) := (by simp only [fX10_plain60])
  exact z_returnx C dX10_plain_15 (by rw [hf1])

/-- the reader of texts: its bounds -/
def LX (I : Mi) : Prop := 0 ≤ gi I 57 3 ∧ gi I 57 3 ≤ 740 ∧ 0 ≤ gi I 57 5 ∧ gi I 57 5 ≤ gi I 57 3 ∧ 0 ≤ gi I 60 0 ∧ gi I 60 0 ≤ 8 ∧ 0 ≤ gi I 60 1 ∧ gi I 60 1 ≤ 4 ∧ 0 ≤ gi I 59 0 ∧ gi I 59 0 ≤ 8 ∧ 0 ≤ gi I 57 24 ∧ gi I 57 24 ≤ 15
def bA (I : Mi) (v : Int) : Int := if v < gi I 57 3 then gi I 58 v.toNat else 0
theorem bA_rng (I : Mi) (v : Int) : -2147483648 ≤ bA I v ∧ bA I v < 2147483648 := by unfold bA; split <;> first | exact gi_rng _ _ _ | decide
theorem bA_lt {I : Mi} {v : Int} (h : bA I v ≠ 0) : v < gi I 57 3 := by unfold bA at h; split at h <;> simp_all
theorem bA_in {I : Mi} {v : Int} (h : v < gi I 57 3) : bA I v = gi I 58 v.toNat := by unfold bA; rw [if_pos h]
def goC1 (I : Mi) (to : Int) : Bool := decide (to < gi I 57 3 ∧ (gi I 58 to.toNat = 32 ∨ gi I 58 to.toNat = 10))
def goF1 (to : Int) : Int := to + 1
def goC2 (I : Mi) : Int × Int × Int × Int → Bool
  | (tp, _, _, _) => decide ((97 ≤ bA I tp ∧ bA I tp ≤ 122) ∨ (48 ≤ bA I tp ∧ bA I tp ≤ 57))
def goF2 (I : Mi) (fm lt : Int) : Int × Int × Int × Int → Int × Int × Int × Int
  | (tp, g, wd, nm) => (tp + 1, (if g = 0 then 0 else if b2 (97 ≤ gi I 58 tp.toNat ∧ gi I 58 tp.toNat ≤ 122) = lt then 1 else 0), (if 6 ≤ tp - fm then wd else w64 (27 * wd + gi I 58 tp.toNat - 96)), (if 4 ≤ tp - fm then nm else w32 (10 * nm + gi I 58 tp.toNat - 48)))
theorem wh_back {α : Type} {c : α → Bool} {f : α → α} {n : Nat} {x x' F : α} (h : wh c f (n + 1) x = F) (hc : c x = true) (hf : f x = x') : wh c f n x' = F := by subst hf; rw [← h, wh_t hc]
theorem wh_exit {α : Type} {c : α → Bool} {f : α → α} {n : Nat} {x F : α} (h : wh c f (n + 1) x = F) (hc : c x = false) : F = x := by rw [← h, wh_f hc]

noncomputable def fX10_come (w : Int) (S : Mi × Mj) : Int × Mi × Mj :=
  match S with
  | (I, J) =>
    (0, (wi (wi (wi (wi (wi (wi (wi (wi I 58 ((gi I 57 2).toNat) ((w % 4294967296 / 16777216) % 256)) 57 2 ((gi I 57 2) + 1)) 58 (((gi I 57 2) + 1).toNat) ((w % 4294967296 / 65536) % 256)) 57 2 (((gi I 57 2) + 1) + 1)) 58 ((((gi I 57 2) + 1) + 1).toNat) ((w % 4294967296 / 256) % 256)) 57 2 ((((gi I 57 2) + 1) + 1) + 1)) 58 (((((gi I 57 2) + 1) + 1) + 1).toNat) ((w % 4294967296 / 1) % 256)) 57 2 (((((gi I 57 2) + 1) + 1) + 1) + 1)), J)
theorem frX10_come {w : Int} {S : Mi × Mj} {r0 : Int} {I0 : Mi} {J0 : Mj} (h : fX10_come w S = (r0, I0, J0)) (aq kq : Nat) (haq : aq ≠ 58 ∧ ¬ (aq = 57 ∧ kq = 2)) : I0 aq kq = S.1 aq kq := by
  obtain ⟨I, J⟩ := S
  unfold fX10_come at h
  try simp only at h
  simp only [Prod.mk.injEq] at h
  obtain ⟨-, hI, hJ⟩ := h
  exact (congrFun (congrFun hI aq) kq).symm.trans (Eq.trans (wi_nc _ _ haq.2) (Eq.trans (wi_nc _ _ (fun q => haq.1 q.1)) (Eq.trans (wi_nc _ _ haq.2) (Eq.trans (wi_nc _ _ (fun q => haq.1 q.1)) (Eq.trans (wi_nc _ _ haq.2) (Eq.trans (wi_nc _ _ (fun q => haq.1 q.1)) (Eq.trans (wi_nc _ _ haq.2) (Eq.trans (wi_nc _ _ (fun q => haq.1 q.1)) rfl))))))))
theorem fjX10_come {w : Int} {S : Mi × Mj} {r0 : Int} {I0 : Mi} {J0 : Mj} (h : fX10_come w S = (r0, I0, J0)) (aq kq : Nat) (haq : True) : J0 aq kq = S.2 aq kq := by
  obtain ⟨I, J⟩ := S
  unfold fX10_come at h
  try simp only at h
  simp only [Prod.mk.injEq] at h
  obtain ⟨-, hI, hJ⟩ := h
  exact (congrFun (congrFun hJ aq) kq).symm.trans rfl
set_option maxHeartbeats 4000000 in
set_option maxRecDepth 100000 in
theorem qX10_come {G : Gx} {σ : State} (hC : Cz G σ) {sh : Sh} {I : Mi} {J : Mj} (w : Int) (hS : St sh) (rw : -2147483648 ≤ w ∧ w < 2147483648) (ht : 0 ≤ gi I 57 2 ∧ gi I 57 2 ≤ 736) : Ce G σ 1 yX10_come cX10_come 3 none [.ref (G.2.2 + 57), .int (iv (w))] (sh, I, J) 0 0 none (sh, (fX10_come w (I, J)).2.1, (fX10_come w (I, J)).2.2) := by
  refine Ct.of hC (by decide +kernel) (Nat.le_of_ble_eq_true rfl) ?_
  intro p l e R s m args below meth c C
  show Jz G σ p l e R s m args below meth c 3 0 0 (Qx none (sh, (fX10_come w (I, J)).2.1, (fX10_come w (I, J)).2.2)) (sh, I, J) 0 0 0 [(0, .ref (G.2.2 + 57)), (1, .int (iv (w)))] []
  refine z_bipush C dX10_come_0 (by decide) ?_
  refine z_istore_n (lv' := [(0, .ref (G.2.2 + 57)), (1, .int (iv (w))), (2, .int (iv (24)))]) C dX10_come_2 rfl (by decide) [1, 2, 0] rfl ?_
  refine z_iload_n C dX10_come_3 2 rfl ?_
  refine z_if_lt 39 C dX10_come_4 (by decide) (by decide) (fun h1 => absurd h1 (by decide)) (fun h1 => ?_)
  refine z_aload_n C dX10_come_7 0 rfl ?_
  refine z_getR C dX10_come_8 fX10_7 rfl (kd_57 hS) (r_57_1 hS) ?_
  refine z_aload_n C dX10_come_11 0 rfl ?_
  refine z_getI C dX10_come_12 fX10_86 rfl (kd_57 hS) ?_
  refine z_iload_n C dX10_come_15 1 rfl ?_
  refine z_iload_n C dX10_come_16 2 rfl ?_
  refine z_iushr (w % 4294967296 / 16777216) C dX10_come_17 (iv_ushr _ (k := 24) (by decide)) ?_
  refine z_sipush C dX10_come_18 (by decide) ?_
  refine z_iand ((w % 4294967296 / 16777216) % 256) C dX10_come_21 (iv_mask _ (m := 255) (k := 8) rfl (by decide)) ?_
  refine z_iast (q := (gi I 57 2).toNat) C dX10_come_22 (ka_58 hS) (by omega) (by omega) ?_
  refine z_aload_n C dX10_come_23 0 rfl ?_
  refine z_dup C dX10_come_24 rfl ?_
  refine z_getI C dX10_come_25 fX10_86 rfl (kd_57 hS) ?_
  refine z_eqi (gi I 57 2) (gi_wi_na _ _ _ _ (by decide)) ?_
  refine z_iconst C dX10_come_28 ?_
  refine z_iadd C dX10_come_29 ?_
  refine z_putI C dX10_come_30 fX10_86 rfl rfl (kd_57 hS) rfl rfl ?_
  refine z_iinc (lv' := [(0, .ref (G.2.2 + 57)), (1, .int (iv (w))), (2, .int (iv (16)))]) C dX10_come_33 2 rfl (by decide) [1, 2, 0] rfl ?_
  refine z_goto 3 C dX10_come_36 (by decide) ?_
  refine z_iload_n C dX10_come_3 2 rfl ?_
  refine z_if_lt 39 C dX10_come_4 (by decide) (by decide) (fun h2 => absurd h2 (by decide)) (fun h2 => ?_)
  refine z_aload_n C dX10_come_7 0 rfl ?_
  refine z_getR C dX10_come_8 fX10_7 rfl (kd_57 hS) (r_57_1 hS) ?_
  refine z_aload_n C dX10_come_11 0 rfl ?_
  refine z_getI C dX10_come_12 fX10_86 rfl (kd_57 hS) ?_
  refine z_eqi ((gi I 57 2) + 1) (gi_wi_eq (x := (gi I 57 2) + 1) _ _ _ (by have := gi_rng I 57 2; omega)) ?_
  refine z_iload_n C dX10_come_15 1 rfl ?_
  refine z_iload_n C dX10_come_16 2 rfl ?_
  refine z_iushr (w % 4294967296 / 65536) C dX10_come_17 (iv_ushr _ (k := 16) (by decide)) ?_
  refine z_sipush C dX10_come_18 (by decide) ?_
  refine z_iand ((w % 4294967296 / 65536) % 256) C dX10_come_21 (iv_mask _ (m := 255) (k := 8) rfl (by decide)) ?_
  refine z_iast (q := ((gi I 57 2) + 1).toNat) C dX10_come_22 (ka_58 hS) (by omega) (by omega) ?_
  refine z_aload_n C dX10_come_23 0 rfl ?_
  refine z_dup C dX10_come_24 rfl ?_
  refine z_getI C dX10_come_25 fX10_86 rfl (kd_57 hS) ?_
  refine z_eqi ((gi I 57 2) + 1) (Eq.trans (gi_wi_na _ _ _ _ (by decide)) (gi_wi_eq (x := (gi I 57 2) + 1) _ _ _ (by have := gi_rng I 57 2; omega))) ?_
  refine z_iconst C dX10_come_28 ?_
  refine z_iadd C dX10_come_29 ?_
  refine z_putI C dX10_come_30 fX10_86 rfl rfl (kd_57 hS) rfl rfl ?_
  refine z_iinc (lv' := [(0, .ref (G.2.2 + 57)), (1, .int (iv (w))), (2, .int (iv (8)))]) C dX10_come_33 2 rfl (by decide) [1, 2, 0] rfl ?_
  refine z_goto 3 C dX10_come_36 (by decide) ?_
  refine z_iload_n C dX10_come_3 2 rfl ?_
  refine z_if_lt 39 C dX10_come_4 (by decide) (by decide) (fun h3 => absurd h3 (by decide)) (fun h3 => ?_)
  refine z_aload_n C dX10_come_7 0 rfl ?_
  refine z_getR C dX10_come_8 fX10_7 rfl (kd_57 hS) (r_57_1 hS) ?_
  refine z_aload_n C dX10_come_11 0 rfl ?_
  refine z_getI C dX10_come_12 fX10_86 rfl (kd_57 hS) ?_
  refine z_eqi (((gi I 57 2) + 1) + 1) (gi_wi_eq (x := ((gi I 57 2) + 1) + 1) _ _ _ (by have := gi_rng I 57 2; omega)) ?_
  refine z_iload_n C dX10_come_15 1 rfl ?_
  refine z_iload_n C dX10_come_16 2 rfl ?_
  refine z_iushr (w % 4294967296 / 256) C dX10_come_17 (iv_ushr _ (k := 8) (by decide)) ?_
  refine z_sipush C dX10_come_18 (by decide) ?_
  refine z_iand ((w % 4294967296 / 256) % 256) C dX10_come_21 (iv_mask _ (m := 255) (k := 8) rfl (by decide)) ?_
  refine z_iast (q := (((gi I 57 2) + 1) + 1).toNat) C dX10_come_22 (ka_58 hS) (by omega) (by omega) ?_
  refine z_aload_n C dX10_come_23 0 rfl ?_
  refine z_dup C dX10_come_24 rfl ?_
  refine z_getI C dX10_come_25 fX10_86 rfl (kd_57 hS) ?_
  refine z_eqi (((gi I 57 2) + 1) + 1) (Eq.trans (gi_wi_na _ _ _ _ (by decide)) (gi_wi_eq (x := ((gi I 57 2) + 1) + 1) _ _ _ (by have := gi_rng I 57 2; omega))) ?_
  refine z_iconst C dX10_come_28 ?_
  refine z_iadd C dX10_come_29 ?_
  refine z_putI C dX10_come_30 fX10_86 rfl rfl (kd_57 hS) rfl rfl ?_
  refine z_iinc (lv' := [(0, .ref (G.2.2 + 57)), (1, .int (iv (w))), (2, .int (iv (0)))]) C dX10_come_33 2 rfl (by decide) [1, 2, 0] rfl ?_
  refine z_goto 3 C dX10_come_36 (by decide) ?_
  refine z_iload_n C dX10_come_3 2 rfl ?_
  refine z_if_lt 39 C dX10_come_4 (by decide) (by decide) (fun h4 => absurd h4 (by decide)) (fun h4 => ?_)
  refine z_aload_n C dX10_come_7 0 rfl ?_
  refine z_getR C dX10_come_8 fX10_7 rfl (kd_57 hS) (r_57_1 hS) ?_
  refine z_aload_n C dX10_come_11 0 rfl ?_
  refine z_getI C dX10_come_12 fX10_86 rfl (kd_57 hS) ?_
  refine z_eqi ((((gi I 57 2) + 1) + 1) + 1) (gi_wi_eq (x := (((gi I 57 2) + 1) + 1) + 1) _ _ _ (by have := gi_rng I 57 2; omega)) ?_
  refine z_iload_n C dX10_come_15 1 rfl ?_
  refine z_iload_n C dX10_come_16 2 rfl ?_
  refine z_iushr (w % 4294967296 / 1) C dX10_come_17 (iv_ushr _ (k := 0) (by decide)) ?_
  refine z_sipush C dX10_come_18 (by decide) ?_
  refine z_iand ((w % 4294967296 / 1) % 256) C dX10_come_21 (iv_mask _ (m := 255) (k := 8) rfl (by decide)) ?_
  refine z_iast (q := ((((gi I 57 2) + 1) + 1) + 1).toNat) C dX10_come_22 (ka_58 hS) (by omega) (by omega) ?_
  refine z_aload_n C dX10_come_23 0 rfl ?_
  refine z_dup C dX10_come_24 rfl ?_
  refine z_getI C dX10_come_25 fX10_86 rfl (kd_57 hS) ?_
  refine z_eqi ((((gi I 57 2) + 1) + 1) + 1) (Eq.trans (gi_wi_na _ _ _ _ (by decide)) (gi_wi_eq (x := (((gi I 57 2) + 1) + 1) + 1) _ _ _ (by have := gi_rng I 57 2; omega))) ?_
  refine z_iconst C dX10_come_28 ?_
  refine z_iadd C dX10_come_29 ?_
  refine z_putI C dX10_come_30 fX10_86 rfl rfl (kd_57 hS) rfl rfl ?_
  refine z_iinc (lv' := [(0, .ref (G.2.2 + 57)), (1, .int (iv (w))), (2, .int (iv (-8)))]) C dX10_come_33 2 rfl (by decide) [1, 2, 0] rfl ?_
  refine z_goto 3 C dX10_come_36 (by decide) ?_
  refine z_iload_n C dX10_come_3 2 rfl ?_
  refine z_if_lt 39 C dX10_come_4 (by decide) (by decide) (fun h5 => ?_) (fun h5 => absurd h5 (by decide))
  have hf6 : fX10_come w (I, J) = (0, (wi (wi (wi (wi (wi (wi (wi (wi I 58 ((gi I 57 2).toNat) ((w % 4294967296 / 16777216) % 256)) 57 2 ((gi I 57 2) + 1)) 58 (((gi I 57 2) + 1).toNat) ((w % 4294967296 / 65536) % 256)) 57 2 (((gi I 57 2) + 1) + 1)) 58 ((((gi I 57 2) + 1) + 1).toNat) ((w % 4294967296 / 256) % 256)) 57 2 ((((gi I 57 2) + 1) + 1) + 1)) 58 (((((gi I 57 2) + 1) + 1) + 1).toNat) ((w % 4294967296 / 1) % 256)) 57 2 (((((gi I 57 2) + 1) + 1) + 1) + 1)), J) := (by simp only [fX10_come])
  exact z_returnx C dX10_come_39 (by rw [hf6])

set_option maxHeartbeats 4000000 in
set_option maxRecDepth 100000 in
theorem qX10_byteA {G : Gx} {σ : State} (hC : Cz G σ) {sh : Sh} {I : Mi} {J : Mj} (v : Int) (hS : St sh) (rv : -2147483648 ≤ v ∧ v < 2147483648) (h0 : 0 ≤ v) (hz : gi I 57 3 ≤ 740) : Ce G σ 1 yX10_byteAt cX10_byteAt 2 (some .int) [.ref (G.2.2 + 57), .int (iv (v))] (sh, I, J) 0 0 (some (.int (iv (bA I v)))) (sh, I, J) := by
  refine Ct.of hC (by decide +kernel) (Nat.le_of_ble_eq_true rfl) ?_
  intro p l e R s m args below meth c C
  show Jz G σ p l e R s m args below meth c 2 0 0 (Qx (some (.int (iv (bA I v)))) (sh, I, J)) (sh, I, J) 0 0 0 [(0, .ref (G.2.2 + 57)), (1, .int (iv (v)))] []
  refine z_iload_n C dX10_byteAt_0 1 rfl ?_
  refine z_aload_n C dX10_byteAt_1 0 rfl ?_
  refine z_getI C dX10_byteAt_2 fX10_93 rfl (kd_57 hS) ?_
  refine z_icmp_ge 17 C dX10_byteAt_5 (by decide) (by omega) (gi_rng _ _ _) (fun h1 => ?_) (fun h1 => ?_)
  ·
    refine z_iconst C dX10_byteAt_17 ?_
    exact z_ireturnx C dX10_byteAt_18 (by unfold bA; rw [if_neg (by omega)]) rfl
  ·
    refine z_aload_n C dX10_byteAt_8 0 rfl ?_
    refine z_getR C dX10_byteAt_9 fX10_7 rfl (kd_57 hS) (r_57_1 hS) ?_
    refine z_iload_n C dX10_byteAt_12 1 rfl ?_
    refine z_iald (q := (v).toNat) C dX10_byteAt_13 (ka_58 hS) (by omega) (by omega) ?_
    refine z_goto 18 C dX10_byteAt_14 (by decide) ?_
    exact z_ireturnx C dX10_byteAt_18 (bA_in (by omega)).symm rfl

noncomputable def fX10_go_198 (to : Int) (S : Mi × Mj) : Int × Mi × Mj :=
  match S with
  | (I, J) =>
    match wh (goC2 I) (goF2 I to (b2 (97 ≤ (gi I 58 ((to).toNat)) ∧ (gi I 58 ((to).toNat)) ≤ 122))) ((gi I 57 3 - to).toNat + 1) (to, 1, 0, 0) with
    | (tp, g, wd, nm) =>
      if g = 0 then
        (0, (wi (wi (wi (wi (wi (wi I 57 5 to) 57 6 to) 57 8 0) 57 8 nm) 57 5 tp) 57 7 1), (wj (wj J 57 12 0) 57 12 wd))
      else
        if 97 ≤ (gi I 58 ((to).toNat)) ∧ (gi I 58 ((to).toNat)) ≤ 122 then
          if (tp - to) ≤ 6 then
            (0, (wi (wi (wi (wi (wi (wi I 57 5 to) 57 6 to) 57 8 0) 57 8 nm) 57 5 tp) 57 7 2), (wj (wj J 57 12 0) 57 12 wd))
          else
            (0, (wi (wi (wi (wi (wi (wi I 57 5 to) 57 6 to) 57 8 0) 57 8 nm) 57 5 tp) 57 7 1), (wj (wj J 57 12 0) 57 12 wd))
        else
          if (tp - to) ≤ 4 then
            (0, (wi (wi (wi (wi (wi (wi I 57 5 to) 57 6 to) 57 8 0) 57 8 nm) 57 5 tp) 57 7 3), (wj (wj J 57 12 0) 57 12 wd))
          else
            (0, (wi (wi (wi (wi (wi (wi I 57 5 to) 57 6 to) 57 8 0) 57 8 nm) 57 5 tp) 57 7 1), (wj (wj J 57 12 0) 57 12 wd))
theorem frX10_go_198 {to : Int} {S : Mi × Mj} {r0 : Int} {I0 : Mi} {J0 : Mj} (h : fX10_go_198 to S = (r0, I0, J0)) (aq kq : Nat) (haq : ¬ (aq = 57 ∧ kq = 5) ∧ ¬ (aq = 57 ∧ kq = 6) ∧ ¬ (aq = 57 ∧ kq = 7) ∧ ¬ (aq = 57 ∧ kq = 8) ∧ ¬ (aq = 57 ∧ kq = 9)) : I0 aq kq = S.1 aq kq := by
  obtain ⟨I, J⟩ := S
  unfold fX10_go_198 at h
  try simp only at h
  obtain ⟨⟨tp, g, wd, nm⟩, hq1⟩ : ∃ q, q = wh (goC2 I) (goF2 I to (b2 (97 ≤ (gi I 58 ((to).toNat)) ∧ (gi I 58 ((to).toNat)) ≤ 122))) ((gi I 57 3 - to).toNat + 1) (to, 1, 0, 0) := ⟨_, rfl⟩
  rw [← hq1] at h; try simp only at h
  by_cases hq2 : g = 0
  · simp only [if_pos hq2] at h
    simp only [Prod.mk.injEq] at h
    obtain ⟨-, hI, hJ⟩ := h
    exact (congrFun (congrFun hI aq) kq).symm.trans (Eq.trans (wi_nc _ _ haq.2.2.1) (Eq.trans (wi_nc _ _ haq.1) (Eq.trans (wi_nc _ _ haq.2.2.2.1) (Eq.trans (wi_nc _ _ haq.2.2.2.1) (Eq.trans (wi_nc _ _ haq.2.1) (Eq.trans (wi_nc _ _ haq.1) rfl))))))
  · simp only [if_neg hq2] at h
    by_cases hq3 : 97 ≤ (gi I 58 ((to).toNat)) ∧ (gi I 58 ((to).toNat)) ≤ 122
    · simp only [if_pos hq3] at h
      by_cases hq4 : (tp - to) ≤ 6
      · simp only [if_pos hq4] at h
        simp only [Prod.mk.injEq] at h
        obtain ⟨-, hI, hJ⟩ := h
        exact (congrFun (congrFun hI aq) kq).symm.trans (Eq.trans (wi_nc _ _ haq.2.2.1) (Eq.trans (wi_nc _ _ haq.1) (Eq.trans (wi_nc _ _ haq.2.2.2.1) (Eq.trans (wi_nc _ _ haq.2.2.2.1) (Eq.trans (wi_nc _ _ haq.2.1) (Eq.trans (wi_nc _ _ haq.1) rfl))))))
      · simp only [if_neg hq4] at h
        simp only [Prod.mk.injEq] at h
        obtain ⟨-, hI, hJ⟩ := h
        exact (congrFun (congrFun hI aq) kq).symm.trans (Eq.trans (wi_nc _ _ haq.2.2.1) (Eq.trans (wi_nc _ _ haq.1) (Eq.trans (wi_nc _ _ haq.2.2.2.1) (Eq.trans (wi_nc _ _ haq.2.2.2.1) (Eq.trans (wi_nc _ _ haq.2.1) (Eq.trans (wi_nc _ _ haq.1) rfl))))))
    · simp only [if_neg hq3] at h
      by_cases hq5 : (tp - to) ≤ 4
      · simp only [if_pos hq5] at h
        simp only [Prod.mk.injEq] at h
        obtain ⟨-, hI, hJ⟩ := h
        exact (congrFun (congrFun hI aq) kq).symm.trans (Eq.trans (wi_nc _ _ haq.2.2.1) (Eq.trans (wi_nc _ _ haq.1) (Eq.trans (wi_nc _ _ haq.2.2.2.1) (Eq.trans (wi_nc _ _ haq.2.2.2.1) (Eq.trans (wi_nc _ _ haq.2.1) (Eq.trans (wi_nc _ _ haq.1) rfl))))))
      · simp only [if_neg hq5] at h
        simp only [Prod.mk.injEq] at h
        obtain ⟨-, hI, hJ⟩ := h
        exact (congrFun (congrFun hI aq) kq).symm.trans (Eq.trans (wi_nc _ _ haq.2.2.1) (Eq.trans (wi_nc _ _ haq.1) (Eq.trans (wi_nc _ _ haq.2.2.2.1) (Eq.trans (wi_nc _ _ haq.2.2.2.1) (Eq.trans (wi_nc _ _ haq.2.1) (Eq.trans (wi_nc _ _ haq.1) rfl))))))
theorem fjX10_go_198 {to : Int} {S : Mi × Mj} {r0 : Int} {I0 : Mi} {J0 : Mj} (h : fX10_go_198 to S = (r0, I0, J0)) (aq kq : Nat) (haq : ¬ (aq = 57 ∧ kq = 12)) : J0 aq kq = S.2 aq kq := by
  obtain ⟨I, J⟩ := S
  unfold fX10_go_198 at h
  try simp only at h
  obtain ⟨⟨tp, g, wd, nm⟩, hq1⟩ : ∃ q, q = wh (goC2 I) (goF2 I to (b2 (97 ≤ (gi I 58 ((to).toNat)) ∧ (gi I 58 ((to).toNat)) ≤ 122))) ((gi I 57 3 - to).toNat + 1) (to, 1, 0, 0) := ⟨_, rfl⟩
  rw [← hq1] at h; try simp only at h
  by_cases hq2 : g = 0
  · simp only [if_pos hq2] at h
    simp only [Prod.mk.injEq] at h
    obtain ⟨-, hI, hJ⟩ := h
    exact (congrFun (congrFun hJ aq) kq).symm.trans (Eq.trans (wj_nc _ _ haq) (Eq.trans (wj_nc _ _ haq) rfl))
  · simp only [if_neg hq2] at h
    by_cases hq3 : 97 ≤ (gi I 58 ((to).toNat)) ∧ (gi I 58 ((to).toNat)) ≤ 122
    · simp only [if_pos hq3] at h
      by_cases hq4 : (tp - to) ≤ 6
      · simp only [if_pos hq4] at h
        simp only [Prod.mk.injEq] at h
        obtain ⟨-, hI, hJ⟩ := h
        exact (congrFun (congrFun hJ aq) kq).symm.trans (Eq.trans (wj_nc _ _ haq) (Eq.trans (wj_nc _ _ haq) rfl))
      · simp only [if_neg hq4] at h
        simp only [Prod.mk.injEq] at h
        obtain ⟨-, hI, hJ⟩ := h
        exact (congrFun (congrFun hJ aq) kq).symm.trans (Eq.trans (wj_nc _ _ haq) (Eq.trans (wj_nc _ _ haq) rfl))
    · simp only [if_neg hq3] at h
      by_cases hq5 : (tp - to) ≤ 4
      · simp only [if_pos hq5] at h
        simp only [Prod.mk.injEq] at h
        obtain ⟨-, hI, hJ⟩ := h
        exact (congrFun (congrFun hJ aq) kq).symm.trans (Eq.trans (wj_nc _ _ haq) (Eq.trans (wj_nc _ _ haq) rfl))
      · simp only [if_neg hq5] at h
        simp only [Prod.mk.injEq] at h
        obtain ⟨-, hI, hJ⟩ := h
        exact (congrFun (congrFun hJ aq) kq).symm.trans (Eq.trans (wj_nc _ _ haq) (Eq.trans (wj_nc _ _ haq) rfl))
noncomputable def fX10_go_174 (to : Int) (S : Mi × Mj) : Int × Mi × Mj :=
  match S with
  | (I, J) =>
    (0, (wi (wi (wi (wi (wi I 57 5 to) 57 6 to) 57 7 4) 57 9 (gi I 58 ((to).toNat))) 57 5 (to + 1)), J)
theorem frX10_go_174 {to : Int} {S : Mi × Mj} {r0 : Int} {I0 : Mi} {J0 : Mj} (h : fX10_go_174 to S = (r0, I0, J0)) (aq kq : Nat) (haq : ¬ (aq = 57 ∧ kq = 5) ∧ ¬ (aq = 57 ∧ kq = 6) ∧ ¬ (aq = 57 ∧ kq = 7) ∧ ¬ (aq = 57 ∧ kq = 8) ∧ ¬ (aq = 57 ∧ kq = 9)) : I0 aq kq = S.1 aq kq := by
  obtain ⟨I, J⟩ := S
  unfold fX10_go_174 at h
  try simp only at h
  simp only [Prod.mk.injEq] at h
  obtain ⟨-, hI, hJ⟩ := h
  exact (congrFun (congrFun hI aq) kq).symm.trans (Eq.trans (wi_nc _ _ haq.1) (Eq.trans (wi_nc _ _ haq.2.2.2.2) (Eq.trans (wi_nc _ _ haq.2.2.1) (Eq.trans (wi_nc _ _ haq.2.1) (Eq.trans (wi_nc _ _ haq.1) rfl)))))
theorem fjX10_go_174 {to : Int} {S : Mi × Mj} {r0 : Int} {I0 : Mi} {J0 : Mj} (h : fX10_go_174 to S = (r0, I0, J0)) (aq kq : Nat) (haq : ¬ (aq = 57 ∧ kq = 12)) : J0 aq kq = S.2 aq kq := by
  obtain ⟨I, J⟩ := S
  unfold fX10_go_174 at h
  try simp only at h
  simp only [Prod.mk.injEq] at h
  obtain ⟨-, hI, hJ⟩ := h
  exact (congrFun (congrFun hJ aq) kq).symm.trans rfl
noncomputable def fX10_go_96 (to : Int) (S : Mi × Mj) : Int × Mi × Mj :=
  match S with
  | (I, J) =>
    if to < (gi I 57 3) then
      if 97 ≤ (gi I 58 ((to).toNat)) ∧ (gi I 58 ((to).toNat)) ≤ 122 then
        fX10_go_198 to (I, J)
      else
        if 48 ≤ (gi I 58 ((to).toNat)) ∧ (gi I 58 ((to).toNat)) ≤ 57 then
          fX10_go_198 to (I, J)
        else
          if (gi I 58 ((to).toNat)) = 59 then
            fX10_go_174 to (I, J)
          else
            if (gi I 58 ((to).toNat)) = 60 then
              fX10_go_174 to (I, J)
            else
              if (gi I 58 ((to).toNat)) = 61 then
                fX10_go_174 to (I, J)
              else
                if (gi I 58 ((to).toNat)) = 62 then
                  fX10_go_174 to (I, J)
                else
                  if (gi I 58 ((to).toNat)) = 40 then
                    fX10_go_174 to (I, J)
                  else
                    if (gi I 58 ((to).toNat)) = 41 then
                      fX10_go_174 to (I, J)
                    else
                      (0, (wi (wi (wi (wi (wi I 57 5 to) 57 6 to) 57 7 1) 57 9 (gi I 58 ((to).toNat))) 57 5 (to + 1)), J)
    else
      (0, (wi (wi (wi I 57 5 to) 57 6 to) 57 7 0), J)
theorem frX10_go_96 {to : Int} {S : Mi × Mj} {r0 : Int} {I0 : Mi} {J0 : Mj} (h : fX10_go_96 to S = (r0, I0, J0)) (aq kq : Nat) (haq : ¬ (aq = 57 ∧ kq = 5) ∧ ¬ (aq = 57 ∧ kq = 6) ∧ ¬ (aq = 57 ∧ kq = 7) ∧ ¬ (aq = 57 ∧ kq = 8) ∧ ¬ (aq = 57 ∧ kq = 9)) : I0 aq kq = S.1 aq kq := by
  obtain ⟨I, J⟩ := S
  unfold fX10_go_96 at h
  try simp only at h
  by_cases hq1 : to < (gi I 57 3)
  · simp only [if_pos hq1] at h
    by_cases hq2 : 97 ≤ (gi I 58 ((to).toNat)) ∧ (gi I 58 ((to).toNat)) ≤ 122
    · simp only [if_pos hq2] at h
      exact frX10_go_198 h aq kq haq
    · simp only [if_neg hq2] at h
      by_cases hq3 : 48 ≤ (gi I 58 ((to).toNat)) ∧ (gi I 58 ((to).toNat)) ≤ 57
      · simp only [if_pos hq3] at h
        exact frX10_go_198 h aq kq haq
      · simp only [if_neg hq3] at h
        by_cases hq4 : (gi I 58 ((to).toNat)) = 59
        · simp only [if_pos hq4] at h
          exact frX10_go_174 h aq kq haq
        · simp only [if_neg hq4] at h
          by_cases hq5 : (gi I 58 ((to).toNat)) = 60
          · simp only [if_pos hq5] at h
            exact frX10_go_174 h aq kq haq
          · simp only [if_neg hq5] at h
            by_cases hq6 : (gi I 58 ((to).toNat)) = 61
            · simp only [if_pos hq6] at h
              exact frX10_go_174 h aq kq haq
            · simp only [if_neg hq6] at h
              by_cases hq7 : (gi I 58 ((to).toNat)) = 62
              · simp only [if_pos hq7] at h
                exact frX10_go_174 h aq kq haq
              · simp only [if_neg hq7] at h
                by_cases hq8 : (gi I 58 ((to).toNat)) = 40
                · simp only [if_pos hq8] at h
                  exact frX10_go_174 h aq kq haq
                · simp only [if_neg hq8] at h
                  by_cases hq9 : (gi I 58 ((to).toNat)) = 41
                  · simp only [if_pos hq9] at h
                    exact frX10_go_174 h aq kq haq
                  · simp only [if_neg hq9] at h
                    simp only [Prod.mk.injEq] at h
                    obtain ⟨-, hI, hJ⟩ := h
                    exact (congrFun (congrFun hI aq) kq).symm.trans (Eq.trans (wi_nc _ _ haq.1) (Eq.trans (wi_nc _ _ haq.2.2.2.2) (Eq.trans (wi_nc _ _ haq.2.2.1) (Eq.trans (wi_nc _ _ haq.2.1) (Eq.trans (wi_nc _ _ haq.1) rfl)))))
  · simp only [if_neg hq1] at h
    simp only [Prod.mk.injEq] at h
    obtain ⟨-, hI, hJ⟩ := h
    exact (congrFun (congrFun hI aq) kq).symm.trans (Eq.trans (wi_nc _ _ haq.2.2.1) (Eq.trans (wi_nc _ _ haq.2.1) (Eq.trans (wi_nc _ _ haq.1) rfl)))
theorem fjX10_go_96 {to : Int} {S : Mi × Mj} {r0 : Int} {I0 : Mi} {J0 : Mj} (h : fX10_go_96 to S = (r0, I0, J0)) (aq kq : Nat) (haq : ¬ (aq = 57 ∧ kq = 12)) : J0 aq kq = S.2 aq kq := by
  obtain ⟨I, J⟩ := S
  unfold fX10_go_96 at h
  try simp only at h
  by_cases hq1 : to < (gi I 57 3)
  · simp only [if_pos hq1] at h
    by_cases hq2 : 97 ≤ (gi I 58 ((to).toNat)) ∧ (gi I 58 ((to).toNat)) ≤ 122
    · simp only [if_pos hq2] at h
      exact fjX10_go_198 h aq kq haq
    · simp only [if_neg hq2] at h
      by_cases hq3 : 48 ≤ (gi I 58 ((to).toNat)) ∧ (gi I 58 ((to).toNat)) ≤ 57
      · simp only [if_pos hq3] at h
        exact fjX10_go_198 h aq kq haq
      · simp only [if_neg hq3] at h
        by_cases hq4 : (gi I 58 ((to).toNat)) = 59
        · simp only [if_pos hq4] at h
          exact fjX10_go_174 h aq kq haq
        · simp only [if_neg hq4] at h
          by_cases hq5 : (gi I 58 ((to).toNat)) = 60
          · simp only [if_pos hq5] at h
            exact fjX10_go_174 h aq kq haq
          · simp only [if_neg hq5] at h
            by_cases hq6 : (gi I 58 ((to).toNat)) = 61
            · simp only [if_pos hq6] at h
              exact fjX10_go_174 h aq kq haq
            · simp only [if_neg hq6] at h
              by_cases hq7 : (gi I 58 ((to).toNat)) = 62
              · simp only [if_pos hq7] at h
                exact fjX10_go_174 h aq kq haq
              · simp only [if_neg hq7] at h
                by_cases hq8 : (gi I 58 ((to).toNat)) = 40
                · simp only [if_pos hq8] at h
                  exact fjX10_go_174 h aq kq haq
                · simp only [if_neg hq8] at h
                  by_cases hq9 : (gi I 58 ((to).toNat)) = 41
                  · simp only [if_pos hq9] at h
                    exact fjX10_go_174 h aq kq haq
                  · simp only [if_neg hq9] at h
                    simp only [Prod.mk.injEq] at h
                    obtain ⟨-, hI, hJ⟩ := h
                    exact (congrFun (congrFun hJ aq) kq).symm.trans rfl
  · simp only [if_neg hq1] at h
    simp only [Prod.mk.injEq] at h
    obtain ⟨-, hI, hJ⟩ := h
    exact (congrFun (congrFun hJ aq) kq).symm.trans rfl
noncomputable def fX10_go (S : Mi × Mj) : Int × Mi × Mj :=
  match S with
  | (I, J) =>
    match wh (goC1 I) goF1 ((gi I 57 3 - (gi I 57 5)).toNat + 1) (gi I 57 5) with
    | to =>
      if (gi I 57 3) ≤ (gi I 57 4) then
        fX10_go_96 to (I, J)
      else
        if to < (gi I 57 4) then
          fX10_go_96 to (I, J)
        else
          (0, (wi (wi (wi (wi I 57 5 to) 57 6 to) 57 6 (gi I 57 4)) 57 7 1), J)
theorem frX10_go {S : Mi × Mj} {r0 : Int} {I0 : Mi} {J0 : Mj} (h : fX10_go  S = (r0, I0, J0)) (aq kq : Nat) (haq : ¬ (aq = 57 ∧ kq = 5) ∧ ¬ (aq = 57 ∧ kq = 6) ∧ ¬ (aq = 57 ∧ kq = 7) ∧ ¬ (aq = 57 ∧ kq = 8) ∧ ¬ (aq = 57 ∧ kq = 9)) : I0 aq kq = S.1 aq kq := by
  obtain ⟨I, J⟩ := S
  unfold fX10_go at h
  try simp only at h
  obtain ⟨to, hq1⟩ : ∃ q, q = wh (goC1 I) goF1 ((gi I 57 3 - (gi I 57 5)).toNat + 1) (gi I 57 5) := ⟨_, rfl⟩
  rw [← hq1] at h; try simp only at h
  by_cases hq2 : (gi I 57 3) ≤ (gi I 57 4)
  · simp only [if_pos hq2] at h
    exact frX10_go_96 h aq kq haq
  · simp only [if_neg hq2] at h
    by_cases hq3 : to < (gi I 57 4)
    · simp only [if_pos hq3] at h
      exact frX10_go_96 h aq kq haq
    · simp only [if_neg hq3] at h
      simp only [Prod.mk.injEq] at h
      obtain ⟨-, hI, hJ⟩ := h
      exact (congrFun (congrFun hI aq) kq).symm.trans (Eq.trans (wi_nc _ _ haq.2.2.1) (Eq.trans (wi_nc _ _ haq.2.1) (Eq.trans (wi_nc _ _ haq.2.1) (Eq.trans (wi_nc _ _ haq.1) rfl))))
theorem fjX10_go {S : Mi × Mj} {r0 : Int} {I0 : Mi} {J0 : Mj} (h : fX10_go  S = (r0, I0, J0)) (aq kq : Nat) (haq : ¬ (aq = 57 ∧ kq = 12)) : J0 aq kq = S.2 aq kq := by
  obtain ⟨I, J⟩ := S
  unfold fX10_go at h
  try simp only at h
  obtain ⟨to, hq1⟩ : ∃ q, q = wh (goC1 I) goF1 ((gi I 57 3 - (gi I 57 5)).toNat + 1) (gi I 57 5) := ⟨_, rfl⟩
  rw [← hq1] at h; try simp only at h
  by_cases hq2 : (gi I 57 3) ≤ (gi I 57 4)
  · simp only [if_pos hq2] at h
    exact fjX10_go_96 h aq kq haq
  · simp only [if_neg hq2] at h
    by_cases hq3 : to < (gi I 57 4)
    · simp only [if_pos hq3] at h
      exact fjX10_go_96 h aq kq haq
    · simp only [if_neg hq3] at h
      simp only [Prod.mk.injEq] at h
      obtain ⟨-, hI, hJ⟩ := h
      exact (congrFun (congrFun hJ aq) kq).symm.trans rfl
set_option maxHeartbeats 4000000 in
set_option maxRecDepth 100000 in
theorem qX10_go {G : Gx} {σ : State} (hC : Cz G σ) {sh : Sh} {I : Mi} {J : Mj}  (hS : St sh) (hl : LX I) : Ce G σ 2 yX10_go cX10_go 5 none [.ref (G.2.2 + 57)] (sh, I, J) 0 0 none (sh, (fX10_go (I, J)).2.1, (fX10_go (I, J)).2.2) := by
  refine Ct.of hC (by decide +kernel) (Nat.le_of_ble_eq_true rfl) ?_
  intro p l e R s m args below meth c C
  show Jz G σ p l e R s m args below meth c 5 0 0 (Qx none (sh, (fX10_go (I, J)).2.1, (fX10_go (I, J)).2.2)) (sh, I, J) 0 0 0 [(0, .ref (G.2.2 + 57))] []
  have hz : 0 ≤ gi I 57 3 ∧ gi I 57 3 ≤ 740 := ⟨hl.1, hl.2.1⟩
  have ht : 0 ≤ gi I 57 5 ∧ gi I 57 5 ≤ gi I 57 3 := ⟨hl.2.2.1, hl.2.2.2.1⟩
  have hE5 : ∀ (to : Int), (0 ≤ to ∧ to ≤ gi I 57 3) → wh (goC1 I) goF1 ((gi I 57 3 - (gi I 57 5)).toNat + 1) (gi I 57 5) = to → Jz G σ p l e R s m args below meth c 5 0 0 (Qx none (sh, (fX10_go (I, J)).2.1, (fX10_go (I, J)).2.2)) (sh, (wi I 57 5 to), J) 0 0 52 [(0, .ref (G.2.2 + 57))] [] := by
    intro to hto hx6
    refine z_aload_n C dX10_go_52 0 rfl ?_
    refine z_aload_n C dX10_go_53 0 rfl ?_
    refine z_getI C dX10_go_54 fX10_96 rfl (kd_57 hS) ?_
    refine z_eqi (to) (gi_wi_eq (x := to) _ _ _ (by omega)) ?_
    refine z_putI C dX10_go_57 fX10_99 rfl rfl (kd_57 hS) rfl rfl ?_
    have hJ8 : fX10_go (I, J) = fX10_go_96 to (I, J) → Jz G σ p l e R s m args below meth c 5 0 0 (Qx none (sh, (fX10_go (I, J)).2.1, (fX10_go (I, J)).2.2)) (sh, (wi (wi I 57 5 to) 57 6 to), J) 0 0 96 [(0, .ref (G.2.2 + 57))] [] := by
      intro hq9
      refine z_aload_n C dX10_go_96 0 rfl ?_
      refine z_getI C dX10_go_97 fX10_96 rfl (kd_57 hS) ?_
      refine z_eqi (to) (Eq.trans (gi_wi_nk _ _ _ (by decide)) (gi_wi_eq (x := to) _ _ _ (by omega))) ?_
      refine z_aload_n C dX10_go_100 0 rfl ?_
      refine z_getI C dX10_go_101 fX10_93 rfl (kd_57 hS) ?_
      refine z_eqi (gi I 57 3) (Eq.trans (gi_wi_nk _ _ _ (by decide)) (gi_wi_nk _ _ _ (by decide))) ?_
      refine z_icmp_lt 113 C dX10_go_104 (by decide) (by omega) (gi_rng _ _ _) (fun h10 => ?_) (fun h10 => ?_)
      ·
        refine z_aload_n C dX10_go_113 0 rfl ?_
        refine z_getR C dX10_go_114 fX10_7 rfl (kd_57 hS) (r_57_1 hS) ?_
        refine z_aload_n C dX10_go_117 0 rfl ?_
        refine z_getI C dX10_go_118 fX10_96 rfl (kd_57 hS) ?_
        refine z_eqi (to) (Eq.trans (gi_wi_nk _ _ _ (by decide)) (gi_wi_eq (x := to) _ _ _ (by omega))) ?_
        refine z_iald (q := (to).toNat) C dX10_go_121 (ka_58 hS) (by omega) (by omega) ?_
        refine z_eqi (gi I 58 ((to).toNat)) (Eq.trans (gi_wi_na _ _ _ _ (by decide)) (gi_wi_na _ _ _ _ (by decide))) ?_
        refine z_istore_n (lv' := [(0, .ref (G.2.2 + 57)), (1, .int (iv (gi I 58 ((to).toNat))))]) C dX10_go_122 rfl (by decide) [1, 0] rfl ?_
        have hJ11 : fX10_go_96 to (I, J) = fX10_go_198 to (I, J) → Jz G σ p l e R s m args below meth c 5 0 0 (Qx none (sh, (fX10_go (I, J)).2.1, (fX10_go (I, J)).2.2)) (sh, (wi (wi I 57 5 to) 57 6 to), J) 0 0 198 [(0, .ref (G.2.2 + 57)), (1, .int (iv (gi I 58 ((to).toNat))))] [] := by
          intro hq12
          refine z_iload_n C dX10_go_198 1 rfl ?_
          refine z_cSi (st := []) C dX10_go_199 mX10_108 (qX10_isLetter hC (gi I 58 ((to).toNat)) (gi_rng _ _ _)) rfl rfl (Nat.le_of_ble_eq_true rfl) (by decide) ?_
          refine z_istore_n (lv' := [(0, .ref (G.2.2 + 57)), (1, .int (iv (gi I 58 ((to).toNat)))), (2, .int (iv (b2 (97 ≤ (gi I 58 ((to).toNat)) ∧ (gi I 58 ((to).toNat)) ≤ 122))))]) C dX10_go_202 rfl (by decide) [1, 2, 0] rfl ?_
          refine z_iconst C dX10_go_203 ?_
          refine z_istore_n (lv' := [(0, .ref (G.2.2 + 57)), (1, .int (iv (gi I 58 ((to).toNat)))), (2, .int (iv (b2 (97 ≤ (gi I 58 ((to).toNat)) ∧ (gi I 58 ((to).toNat)) ≤ 122)))), (3, .int (iv (1)))]) C dX10_go_204 rfl (by decide) [1, 2, 3, 0] rfl ?_
          refine z_aload_n C dX10_go_205 0 rfl ?_
          refine z_lconst (v := 0) C dX10_go_206 (by decide) ?_
          refine z_putJ C dX10_go_207 fX10_118 rfl rfl (kd_57 hS) rfl rfl ?_
          refine z_aload_n C dX10_go_210 0 rfl ?_
          refine z_iconst C dX10_go_211 ?_
          refine z_putI C dX10_go_212 fX10_122 rfl rfl (kd_57 hS) rfl rfl ?_
          have hE17 : ∀ (tp : Int) (g : Int) (wd : Int) (nm : Int), (0 ≤ tp ∧ tp ≤ gi I 57 3) → (g = 0 ∨ g = 1) → (-2147483648 ≤ nm ∧ nm < 2147483648) → (-9223372036854775808 ≤ wd ∧ wd < 9223372036854775808) → wh (goC2 I) (goF2 I to (b2 (97 ≤ (gi I 58 ((to).toNat)) ∧ (gi I 58 ((to).toNat)) ≤ 122))) ((gi I 57 3 - to).toNat + 1) (to, 1, 0, 0) = (tp, g, wd, nm) → Jz G σ p l e R s m args below meth c 5 0 0 (Qx none (sh, (fX10_go (I, J)).2.1, (fX10_go (I, J)).2.2)) (sh, (wi (wi (wi (wi (wi I 57 5 to) 57 6 to) 57 8 0) 57 8 nm) 57 5 tp), (wj (wj J 57 12 0) 57 12 wd)) 0 0 350 [(0, .ref (G.2.2 + 57)), (1, .int (iv (gi I 58 ((to).toNat)))), (2, .int (iv (b2 (97 ≤ (gi I 58 ((to).toNat)) ∧ (gi I 58 ((to).toNat)) ≤ 122)))), (3, .int (iv (g)))] [] := by
            intro tp g wd nm htp hg hnm hwd hx18
            refine z_aload_n C dX10_go_350 0 rfl ?_
            refine z_iload_n C dX10_go_351 3 rfl ?_
            refine z_if_eq 377 C dX10_go_352 (by decide) (by omega) (fun h20 => ?_) (fun h20 => ?_)
            ·
              refine z_iconst C dX10_go_377 ?_
              refine z_goto 390 C dX10_go_378 (by decide) ?_
              refine z_putI C dX10_go_390 fX10_105 rfl rfl (kd_57 hS) rfl rfl ?_
              have hf21 : fX10_go (I, J) = (0, (wi (wi (wi (wi (wi (wi I 57 5 to) 57 6 to) 57 8 0) 57 8 nm) 57 5 tp) 57 7 1), (wj (wj J 57 12 0) 57 12 wd)) := (hq9.trans (hq12.trans (by simp only [fX10_go_198, hx18, if_pos h20])))
              exact z_returnx C dX10_go_393 (by rw [hf21])
            ·
              refine z_aload_n C dX10_go_355 0 rfl ?_
              refine z_getI C dX10_go_356 fX10_96 rfl (kd_57 hS) ?_
              refine z_eqi (tp) (gi_wi_eq (x := tp) _ _ _ (by omega)) ?_
              refine z_aload_n C dX10_go_359 0 rfl ?_
              refine z_getI C dX10_go_360 fX10_99 rfl (kd_57 hS) ?_
              refine z_eqi (to) (Eq.trans (gi_wi_nk _ _ _ (by decide)) (Eq.trans (gi_wi_nk _ _ _ (by decide)) (Eq.trans (gi_wi_nk _ _ _ (by decide)) (gi_wi_eq (x := to) _ _ _ (by omega))))) ?_
              refine z_isub C dX10_go_363 ?_
              refine z_iload_n C dX10_go_364 2 rfl ?_
              refine z_if_eq_b 373 C dX10_go_365 (by decide) (fun h22 => ?_) (fun h22 => ?_)
              ·
                refine z_iconst C dX10_go_373 ?_
                refine z_icmp_le 381 C dX10_go_374 (by decide) (by omega) (by decide) (fun h23 => ?_) (fun h23 => ?_)
                ·
                  refine z_iload_n C dX10_go_381 2 rfl ?_
                  refine z_if_eq_b 389 C dX10_go_382 (by decide) (fun h24 => ?_) (fun h24 => absurd h24 h22)
                  refine z_iconst C dX10_go_389 ?_
                  refine z_putI C dX10_go_390 fX10_105 rfl rfl (kd_57 hS) rfl rfl ?_
                  have hf25 : fX10_go (I, J) = (0, (wi (wi (wi (wi (wi (wi I 57 5 to) 57 6 to) 57 8 0) 57 8 nm) 57 5 tp) 57 7 3), (wj (wj J 57 12 0) 57 12 wd)) := (hq9.trans (hq12.trans (by simp only [fX10_go_198, hx18, if_neg h20, if_neg h22, if_pos h23])))
                  exact z_returnx C dX10_go_393 (by rw [hf25])
                ·
                  refine z_iconst C dX10_go_377 ?_
                  refine z_goto 390 C dX10_go_378 (by decide) ?_
                  refine z_putI C dX10_go_390 fX10_105 rfl rfl (kd_57 hS) rfl rfl ?_
                  have hf26 : fX10_go (I, J) = (0, (wi (wi (wi (wi (wi (wi I 57 5 to) 57 6 to) 57 8 0) 57 8 nm) 57 5 tp) 57 7 1), (wj (wj J 57 12 0) 57 12 wd)) := (hq9.trans (hq12.trans (by simp only [fX10_go_198, hx18, if_neg h20, if_neg h22, if_neg h23])))
                  exact z_returnx C dX10_go_393 (by rw [hf26])
              ·
                refine z_bipush C dX10_go_368 (by decide) ?_
                refine z_goto 374 C dX10_go_370 (by decide) ?_
                refine z_icmp_le 381 C dX10_go_374 (by decide) (by omega) (by decide) (fun h27 => ?_) (fun h27 => ?_)
                ·
                  refine z_iload_n C dX10_go_381 2 rfl ?_
                  refine z_if_eq_b 389 C dX10_go_382 (by decide) (fun h28 => absurd h22 h28) (fun h28 => ?_)
                  refine z_iconst C dX10_go_385 ?_
                  refine z_goto 390 C dX10_go_386 (by decide) ?_
                  refine z_putI C dX10_go_390 fX10_105 rfl rfl (kd_57 hS) rfl rfl ?_
                  have hf29 : fX10_go (I, J) = (0, (wi (wi (wi (wi (wi (wi I 57 5 to) 57 6 to) 57 8 0) 57 8 nm) 57 5 tp) 57 7 2), (wj (wj J 57 12 0) 57 12 wd)) := (hq9.trans (hq12.trans (by simp only [fX10_go_198, hx18, if_neg h20, if_pos h22, if_pos h27])))
                  exact z_returnx C dX10_go_393 (by rw [hf29])
                ·
                  refine z_iconst C dX10_go_377 ?_
                  refine z_goto 390 C dX10_go_378 (by decide) ?_
                  refine z_putI C dX10_go_390 fX10_105 rfl rfl (kd_57 hS) rfl rfl ?_
                  have hf30 : fX10_go (I, J) = (0, (wi (wi (wi (wi (wi (wi I 57 5 to) 57 6 to) 57 8 0) 57 8 nm) 57 5 tp) 57 7 1), (wj (wj J 57 12 0) 57 12 wd)) := (hq9.trans (hq12.trans (by simp only [fX10_go_198, hx18, if_neg h20, if_pos h22, if_neg h27])))
                  exact z_returnx C dX10_go_393 (by rw [hf30])
          have hL14 : ∀ (N13 : Nat) (tp : Int) (g : Int) (wd : Int) (nm : Int), (0 ≤ tp ∧ tp ≤ gi I 57 3) → (g = 0 ∨ g = 1) → (-2147483648 ≤ nm ∧ nm < 2147483648) → (-9223372036854775808 ≤ wd ∧ wd < 9223372036854775808) → wh (goC2 I) (goF2 I to (b2 (97 ≤ (gi I 58 ((to).toNat)) ∧ (gi I 58 ((to).toNat)) ≤ 122))) N13 (tp, g, wd, nm) = wh (goC2 I) (goF2 I to (b2 (97 ≤ (gi I 58 ((to).toNat)) ∧ (gi I 58 ((to).toNat)) ≤ 122))) ((gi I 57 3 - to).toNat + 1) (to, 1, 0, 0) → (gi I 57 3 - tp).toNat < N13 → Jz G σ p l e R s m args below meth c 5 0 0 (Qx none (sh, (fX10_go (I, J)).2.1, (fX10_go (I, J)).2.2)) (sh, (wi (wi (wi (wi (wi I 57 5 to) 57 6 to) 57 8 0) 57 8 nm) 57 5 tp), (wj (wj J 57 12 0) 57 12 wd)) 0 0 215 [(0, .ref (G.2.2 + 57)), (1, .int (iv (gi I 58 ((to).toNat)))), (2, .int (iv (b2 (97 ≤ (gi I 58 ((to).toNat)) ∧ (gi I 58 ((to).toNat)) ≤ 122)))), (3, .int (iv (g)))] [] := by
            intro N13
            induction N13 with
            | zero => intro tp g wd nm htp hg hnm hwd hi16 hm; exact absurd hm (Nat.not_lt_zero _)
            | succ N13 ih15 =>
              intro tp g wd nm htp hg hnm hwd hi16 hm
              refine z_aload_n C dX10_go_215 0 rfl ?_
              refine z_aload_n C dX10_go_216 0 rfl ?_
              refine z_getI C dX10_go_217 fX10_96 rfl (kd_57 hS) ?_
              refine z_eqi (tp) (gi_wi_eq (x := tp) _ _ _ (by omega)) ?_
              refine z_cVi (st := []) C dX10_go_220 mX10_125 (kd_57 hS) (qX10_byteA hC tp hS (by omega) (by omega) (by have : gi (wi (wi (wi (wi (wi I 57 5 to) 57 6 to) 57 8 0) 57 8 nm) 57 5 tp) 57 3 = gi I 57 3 := (Eq.trans (gi_wi_nk _ _ _ (by decide)) (Eq.trans (gi_wi_nk _ _ _ (by decide)) (Eq.trans (gi_wi_nk _ _ _ (by decide)) (Eq.trans (gi_wi_nk _ _ _ (by decide)) (gi_wi_nk _ _ _ (by decide)))))); have := gi_rng I 57 3; have := gi_rng (wi (wi (wi (wi (wi I 57 5 to) 57 6 to) 57 8 0) 57 8 nm) 57 5 tp) 57 3; omega)) rfl rfl (Nat.le_of_ble_eq_true rfl) (by decide) ?_
              refine z_eqi (bA I tp) (by unfold bA; rw [show gi (wi (wi (wi (wi (wi I 57 5 to) 57 6 to) 57 8 0) 57 8 nm) 57 5 tp) 57 3 = gi I 57 3 from (Eq.trans (gi_wi_nk _ _ _ (by decide)) (Eq.trans (gi_wi_nk _ _ _ (by decide)) (Eq.trans (gi_wi_nk _ _ _ (by decide)) (Eq.trans (gi_wi_nk _ _ _ (by decide)) (gi_wi_nk _ _ _ (by decide)))))), show gi (wi (wi (wi (wi (wi I 57 5 to) 57 6 to) 57 8 0) 57 8 nm) 57 5 tp) 58 (tp).toNat = gi I 58 (tp).toNat from (Eq.trans (gi_wi_na _ _ _ _ (by decide)) (Eq.trans (gi_wi_na _ _ _ _ (by decide)) (Eq.trans (gi_wi_na _ _ _ _ (by decide)) (Eq.trans (gi_wi_na _ _ _ _ (by decide)) (gi_wi_na _ _ _ _ (by decide))))))]) ?_
              refine z_cSi (st := []) C dX10_go_223 mX10_108 (qX10_isLetter hC (bA I tp) (bA_rng _ _)) rfl rfl (Nat.le_of_ble_eq_true rfl) (by decide) ?_
              refine z_if_ne_b 243 C dX10_go_226 (by decide) (fun h31 => ?_) (fun h31 => ?_)
              ·
                have hlt := bA_lt (I := I) (v := tp) (by omega)
                refine z_aload_n C dX10_go_243 0 rfl ?_
                refine z_getR C dX10_go_244 fX10_7 rfl (kd_57 hS) (r_57_1 hS) ?_
                refine z_aload_n C dX10_go_247 0 rfl ?_
                refine z_getI C dX10_go_248 fX10_96 rfl (kd_57 hS) ?_
                refine z_eqi (tp) (gi_wi_eq (x := tp) _ _ _ (by omega)) ?_
                refine z_iald (q := (tp).toNat) C dX10_go_251 (ka_58 hS) (by omega) (by omega) ?_
                refine z_eqi (gi I 58 ((tp).toNat)) (Eq.trans (gi_wi_na _ _ _ _ (by decide)) (Eq.trans (gi_wi_na _ _ _ _ (by decide)) (Eq.trans (gi_wi_na _ _ _ _ (by decide)) (Eq.trans (gi_wi_na _ _ _ _ (by decide)) (gi_wi_na _ _ _ _ (by decide)))))) ?_
                refine z_istore (lv' := [(0, .ref (G.2.2 + 57)), (1, .int (iv (gi I 58 ((to).toNat)))), (2, .int (iv (b2 (97 ≤ (gi I 58 ((to).toNat)) ∧ (gi I 58 ((to).toNat)) ≤ 122)))), (3, .int (iv (g))), (4, .int (iv (gi I 58 ((tp).toNat))))]) C dX10_go_252 (by decide) [1, 2, 3, 4, 0] rfl ?_
                refine z_iload_n C dX10_go_254 3 rfl ?_
                refine z_if_eq 271 C dX10_go_255 (by decide) (by omega) (fun h32 => ?_) (fun h32 => ?_)
                ·
                  refine z_iconst C dX10_go_271 ?_
                  refine z_istore_n (lv' := [(0, .ref (G.2.2 + 57)), (1, .int (iv (gi I 58 ((to).toNat)))), (2, .int (iv (b2 (97 ≤ (gi I 58 ((to).toNat)) ∧ (gi I 58 ((to).toNat)) ≤ 122)))), (3, .int (iv (0))), (4, .int (iv (gi I 58 ((tp).toNat))))]) C dX10_go_272 rfl (by decide) [1, 2, 3, 0, 4] rfl ?_
                  refine z_aload_n C dX10_go_273 0 rfl ?_
                  refine z_getI C dX10_go_274 fX10_96 rfl (kd_57 hS) ?_
                  refine z_eqi (tp) (gi_wi_eq (x := tp) _ _ _ (by omega)) ?_
                  refine z_aload_n C dX10_go_277 0 rfl ?_
                  refine z_getI C dX10_go_278 fX10_99 rfl (kd_57 hS) ?_
                  refine z_eqi (to) (Eq.trans (gi_wi_nk _ _ _ (by decide)) (Eq.trans (gi_wi_nk _ _ _ (by decide)) (Eq.trans (gi_wi_nk _ _ _ (by decide)) (gi_wi_eq (x := to) _ _ _ (by omega))))) ?_
                  refine z_isub C dX10_go_281 ?_
                  refine z_bipush C dX10_go_282 (by decide) ?_
                  refine z_icmp_ge 307 C dX10_go_284 (by decide) (by omega) (by decide) (fun h33 => ?_) (fun h33 => ?_)
                  ·
                    refine z_aload_n C dX10_go_307 0 rfl ?_
                    refine z_getI C dX10_go_308 fX10_96 rfl (kd_57 hS) ?_
                    refine z_eqi (tp) (gi_wi_eq (x := tp) _ _ _ (by omega)) ?_
                    refine z_aload_n C dX10_go_311 0 rfl ?_
                    refine z_getI C dX10_go_312 fX10_99 rfl (kd_57 hS) ?_
                    refine z_eqi (to) (Eq.trans (gi_wi_nk _ _ _ (by decide)) (Eq.trans (gi_wi_nk _ _ _ (by decide)) (Eq.trans (gi_wi_nk _ _ _ (by decide)) (gi_wi_eq (x := to) _ _ _ (by omega))))) ?_
                    refine z_isub C dX10_go_315 ?_
                    refine z_iconst C dX10_go_316 ?_
                    refine z_icmp_ge 337 C dX10_go_317 (by decide) (by omega) (by decide) (fun h34 => ?_) (fun h34 => ?_)
                    ·
                      refine z_aload_n C dX10_go_337 0 rfl ?_
                      refine z_dup C dX10_go_338 rfl ?_
                      refine z_getI C dX10_go_339 fX10_96 rfl (kd_57 hS) ?_
                      refine z_eqi (tp) (gi_wi_eq (x := tp) _ _ _ (by omega)) ?_
                      refine z_iconst C dX10_go_342 ?_
                      refine z_iadd C dX10_go_343 ?_
                      refine z_putI C dX10_go_344 fX10_96 rfl rfl (kd_57 hS) rfl rfl ?_
                      refine z_goto 215 C dX10_go_347 (by decide) ?_
                      refine z_eqM (sh, (wi (wi (wi (wi (wi I 57 5 to) 57 6 to) 57 8 0) 57 8 nm) 57 5 (tp + 1)), (wj (wj J 57 12 0) 57 12 wd)) (memEq (by funext a k; simp only [wi, up2_ap]; exact Decidable.byCases (p := a = 57 ∧ k = 5) (fun c0 => by obtain ⟨rfl, rfl⟩ := c0; simp [iv_w32, iv_gi]) (fun c0 => by exact Decidable.byCases (p := a = 57 ∧ k = 8) (fun c1 => by obtain ⟨rfl, rfl⟩ := c1; simp [iv_w32, iv_gi]) (fun c1 => by exact Decidable.byCases (p := a = 57 ∧ k = 6) (fun c2 => by obtain ⟨rfl, rfl⟩ := c2; simp [iv_w32, iv_gi]) (fun c2 => by simp only [if_neg c0, if_neg c1, if_neg c2])))) (by rfl)) ?_
                      refine z_drop (lv' := [(0, .ref (G.2.2 + 57)), (1, .int (iv (gi I 58 ((to).toNat)))), (2, .int (iv (b2 (97 ≤ (gi I 58 ((to).toNat)) ∧ (gi I 58 ((to).toNat)) ≤ 122)))), (3, .int (iv (0)))]) [0, 1, 2, 3] rfl ?_
                      exact ih15 (tp + 1) 0 wd nm (by omega) (by simp) (by first | exact hnm | exact w32_rng _) (by first | exact hwd | exact w64_rng _) (wh_back hi16 (decide_eq_true (by omega)) (by simp only [goF2, if_pos h31, if_pos h32, if_pos h33, if_pos h34])) (by omega)
                    ·
                      refine z_aload_n C dX10_go_320 0 rfl ?_
                      refine z_bipush C dX10_go_321 (by decide) ?_
                      refine z_aload_n C dX10_go_323 0 rfl ?_
                      refine z_getI C dX10_go_324 fX10_122 rfl (kd_57 hS) ?_
                      refine z_eqi (nm) (Eq.trans (gi_wi_nk _ _ _ (by decide)) (gi_wi_eq (x := nm) _ _ _ (by omega))) ?_
                      refine z_imul C dX10_go_327 ?_
                      refine z_iload C dX10_go_328 4 rfl ?_
                      refine z_iadd C dX10_go_330 ?_
                      refine z_bipush C dX10_go_331 (by decide) ?_
                      refine z_isub C dX10_go_333 ?_
                      refine z_putI C dX10_go_334 fX10_122 rfl rfl (kd_57 hS) rfl rfl ?_
                      refine z_aload_n C dX10_go_337 0 rfl ?_
                      refine z_dup C dX10_go_338 rfl ?_
                      refine z_getI C dX10_go_339 fX10_96 rfl (kd_57 hS) ?_
                      refine z_eqi (tp) (Eq.trans (gi_wi_nk _ _ _ (by decide)) (gi_wi_eq (x := tp) _ _ _ (by omega))) ?_
                      refine z_iconst C dX10_go_342 ?_
                      refine z_iadd C dX10_go_343 ?_
                      refine z_putI C dX10_go_344 fX10_96 rfl rfl (kd_57 hS) rfl rfl ?_
                      refine z_goto 215 C dX10_go_347 (by decide) ?_
                      refine z_eqM (sh, (wi (wi (wi (wi (wi I 57 5 to) 57 6 to) 57 8 0) 57 8 (w32 (((10 * nm) + (gi I 58 ((tp).toNat))) - 48))) 57 5 (tp + 1)), (wj (wj J 57 12 0) 57 12 wd)) (memEq (by funext a k; simp only [wi, up2_ap]; exact Decidable.byCases (p := a = 57 ∧ k = 5) (fun c0 => by obtain ⟨rfl, rfl⟩ := c0; simp [iv_w32, iv_gi]) (fun c0 => by exact Decidable.byCases (p := a = 57 ∧ k = 8) (fun c1 => by obtain ⟨rfl, rfl⟩ := c1; simp [iv_w32, iv_gi]) (fun c1 => by exact Decidable.byCases (p := a = 57 ∧ k = 6) (fun c2 => by obtain ⟨rfl, rfl⟩ := c2; simp [iv_w32, iv_gi]) (fun c2 => by simp only [if_neg c0, if_neg c1, if_neg c2])))) (by rfl)) ?_
                      refine z_drop (lv' := [(0, .ref (G.2.2 + 57)), (1, .int (iv (gi I 58 ((to).toNat)))), (2, .int (iv (b2 (97 ≤ (gi I 58 ((to).toNat)) ∧ (gi I 58 ((to).toNat)) ≤ 122)))), (3, .int (iv (0)))]) [0, 1, 2, 3] rfl ?_
                      exact ih15 (tp + 1) 0 wd (w32 (((10 * nm) + (gi I 58 ((tp).toNat))) - 48)) (by omega) (by simp) (by first | exact hnm | exact w32_rng _) (by first | exact hwd | exact w64_rng _) (wh_back hi16 (decide_eq_true (by omega)) (by simp only [goF2, if_pos h31, if_pos h32, if_pos h33, if_neg h34])) (by omega)
                  ·
                    refine z_aload_n C dX10_go_287 0 rfl ?_
                    refine z_ldc2 C dX10_go_288 kX10_129 ?_
                    refine z_aload_n C dX10_go_291 0 rfl ?_
                    refine z_getJ C dX10_go_292 fX10_118 rfl (kd_57 hS) ?_
                    refine z_eql (wd) (gj_wj_eq (x := wd) _ _ _ (by omega)) ?_
                    refine z_lmul C dX10_go_295 ?_
                    refine z_iload C dX10_go_296 4 rfl ?_
                    refine z_i2l (gi I 58 ((tp).toNat)) C dX10_go_298 (i2l_iv (gi_rng _ _ _)) ?_
                    refine z_ladd C dX10_go_299 ?_
                    refine z_ldc2 C dX10_go_300 kX10_131 ?_
                    refine z_lsub C dX10_go_303 ?_
                    refine z_putJ C dX10_go_304 fX10_118 rfl rfl (kd_57 hS) rfl rfl ?_
                    refine z_aload_n C dX10_go_307 0 rfl ?_
                    refine z_getI C dX10_go_308 fX10_96 rfl (kd_57 hS) ?_
                    refine z_eqi (tp) (gi_wi_eq (x := tp) _ _ _ (by omega)) ?_
                    refine z_aload_n C dX10_go_311 0 rfl ?_
                    refine z_getI C dX10_go_312 fX10_99 rfl (kd_57 hS) ?_
                    refine z_eqi (to) (Eq.trans (gi_wi_nk _ _ _ (by decide)) (Eq.trans (gi_wi_nk _ _ _ (by decide)) (Eq.trans (gi_wi_nk _ _ _ (by decide)) (gi_wi_eq (x := to) _ _ _ (by omega))))) ?_
                    refine z_isub C dX10_go_315 ?_
                    refine z_iconst C dX10_go_316 ?_
                    refine z_icmp_ge 337 C dX10_go_317 (by decide) (by omega) (by decide) (fun h35 => ?_) (fun h35 => ?_)
                    ·
                      refine z_aload_n C dX10_go_337 0 rfl ?_
                      refine z_dup C dX10_go_338 rfl ?_
                      refine z_getI C dX10_go_339 fX10_96 rfl (kd_57 hS) ?_
                      refine z_eqi (tp) (gi_wi_eq (x := tp) _ _ _ (by omega)) ?_
                      refine z_iconst C dX10_go_342 ?_
                      refine z_iadd C dX10_go_343 ?_
                      refine z_putI C dX10_go_344 fX10_96 rfl rfl (kd_57 hS) rfl rfl ?_
                      refine z_goto 215 C dX10_go_347 (by decide) ?_
                      refine z_eqM (sh, (wi (wi (wi (wi (wi I 57 5 to) 57 6 to) 57 8 0) 57 8 nm) 57 5 (tp + 1)), (wj (wj J 57 12 0) 57 12 (w64 (((27 * wd) + (gi I 58 ((tp).toNat))) - 96)))) (memEq (by funext a k; simp only [wi, up2_ap]; exact Decidable.byCases (p := a = 57 ∧ k = 5) (fun c0 => by obtain ⟨rfl, rfl⟩ := c0; simp [iv_w32, iv_gi]) (fun c0 => by exact Decidable.byCases (p := a = 57 ∧ k = 8) (fun c1 => by obtain ⟨rfl, rfl⟩ := c1; simp [iv_w32, iv_gi]) (fun c1 => by exact Decidable.byCases (p := a = 57 ∧ k = 6) (fun c2 => by obtain ⟨rfl, rfl⟩ := c2; simp [iv_w32, iv_gi]) (fun c2 => by simp only [if_neg c0, if_neg c1, if_neg c2])))) (by funext a k; simp only [wj, up2_ap]; exact Decidable.byCases (p := a = 57 ∧ k = 12) (fun c0 => by obtain ⟨rfl, rfl⟩ := c0; simp [jv_w64, jv_gj]) (fun c0 => by simp only [if_neg c0]))) ?_
                      refine z_drop (lv' := [(0, .ref (G.2.2 + 57)), (1, .int (iv (gi I 58 ((to).toNat)))), (2, .int (iv (b2 (97 ≤ (gi I 58 ((to).toNat)) ∧ (gi I 58 ((to).toNat)) ≤ 122)))), (3, .int (iv (0)))]) [0, 1, 2, 3] rfl ?_
                      exact ih15 (tp + 1) 0 (w64 (((27 * wd) + (gi I 58 ((tp).toNat))) - 96)) nm (by omega) (by simp) (by first | exact hnm | exact w32_rng _) (by first | exact hwd | exact w64_rng _) (wh_back hi16 (decide_eq_true (by omega)) (by simp only [goF2, if_pos h31, if_pos h32, if_neg h33, if_pos h35])) (by omega)
                    ·
                      refine z_aload_n C dX10_go_320 0 rfl ?_
                      refine z_bipush C dX10_go_321 (by decide) ?_
                      refine z_aload_n C dX10_go_323 0 rfl ?_
                      refine z_getI C dX10_go_324 fX10_122 rfl (kd_57 hS) ?_
                      refine z_eqi (nm) (Eq.trans (gi_wi_nk _ _ _ (by decide)) (gi_wi_eq (x := nm) _ _ _ (by omega))) ?_
                      refine z_imul C dX10_go_327 ?_
                      refine z_iload C dX10_go_328 4 rfl ?_
                      refine z_iadd C dX10_go_330 ?_
                      refine z_bipush C dX10_go_331 (by decide) ?_
                      refine z_isub C dX10_go_333 ?_
                      refine z_putI C dX10_go_334 fX10_122 rfl rfl (kd_57 hS) rfl rfl ?_
                      refine z_aload_n C dX10_go_337 0 rfl ?_
                      refine z_dup C dX10_go_338 rfl ?_
                      refine z_getI C dX10_go_339 fX10_96 rfl (kd_57 hS) ?_
                      refine z_eqi (tp) (Eq.trans (gi_wi_nk _ _ _ (by decide)) (gi_wi_eq (x := tp) _ _ _ (by omega))) ?_
                      refine z_iconst C dX10_go_342 ?_
                      refine z_iadd C dX10_go_343 ?_
                      refine z_putI C dX10_go_344 fX10_96 rfl rfl (kd_57 hS) rfl rfl ?_
                      refine z_goto 215 C dX10_go_347 (by decide) ?_
                      refine z_eqM (sh, (wi (wi (wi (wi (wi I 57 5 to) 57 6 to) 57 8 0) 57 8 (w32 (((10 * nm) + (gi I 58 ((tp).toNat))) - 48))) 57 5 (tp + 1)), (wj (wj J 57 12 0) 57 12 (w64 (((27 * wd) + (gi I 58 ((tp).toNat))) - 96)))) (memEq (by funext a k; simp only [wi, up2_ap]; exact Decidable.byCases (p := a = 57 ∧ k = 5) (fun c0 => by obtain ⟨rfl, rfl⟩ := c0; simp [iv_w32, iv_gi]) (fun c0 => by exact Decidable.byCases (p := a = 57 ∧ k = 8) (fun c1 => by obtain ⟨rfl, rfl⟩ := c1; simp [iv_w32, iv_gi]) (fun c1 => by exact Decidable.byCases (p := a = 57 ∧ k = 6) (fun c2 => by obtain ⟨rfl, rfl⟩ := c2; simp [iv_w32, iv_gi]) (fun c2 => by simp only [if_neg c0, if_neg c1, if_neg c2])))) (by funext a k; simp only [wj, up2_ap]; exact Decidable.byCases (p := a = 57 ∧ k = 12) (fun c0 => by obtain ⟨rfl, rfl⟩ := c0; simp [jv_w64, jv_gj]) (fun c0 => by simp only [if_neg c0]))) ?_
                      refine z_drop (lv' := [(0, .ref (G.2.2 + 57)), (1, .int (iv (gi I 58 ((to).toNat)))), (2, .int (iv (b2 (97 ≤ (gi I 58 ((to).toNat)) ∧ (gi I 58 ((to).toNat)) ≤ 122)))), (3, .int (iv (0)))]) [0, 1, 2, 3] rfl ?_
                      exact ih15 (tp + 1) 0 (w64 (((27 * wd) + (gi I 58 ((tp).toNat))) - 96)) (w32 (((10 * nm) + (gi I 58 ((tp).toNat))) - 48)) (by omega) (by simp) (by first | exact hnm | exact w32_rng _) (by first | exact hwd | exact w64_rng _) (wh_back hi16 (decide_eq_true (by omega)) (by simp only [goF2, if_pos h31, if_pos h32, if_neg h33, if_neg h35])) (by omega)
                ·
                  refine z_iload C dX10_go_258 4 rfl ?_
                  refine z_cSi (st := []) C dX10_go_260 mX10_108 (qX10_isLetter hC (gi I 58 ((tp).toNat)) (gi_rng _ _ _)) rfl rfl (Nat.le_of_ble_eq_true rfl) (by decide) ?_
                  refine z_iload_n C dX10_go_263 2 rfl ?_
                  refine z_icmp_ne 271 C dX10_go_264 (by decide) (b2_rng _) (b2_rng _) (fun h36 => ?_) (fun h36 => ?_)
                  ·
                    refine z_iconst C dX10_go_271 ?_
                    refine z_istore_n (lv' := [(0, .ref (G.2.2 + 57)), (1, .int (iv (gi I 58 ((to).toNat)))), (2, .int (iv (b2 (97 ≤ (gi I 58 ((to).toNat)) ∧ (gi I 58 ((to).toNat)) ≤ 122)))), (3, .int (iv (0))), (4, .int (iv (gi I 58 ((tp).toNat))))]) C dX10_go_272 rfl (by decide) [1, 2, 3, 0, 4] rfl ?_
                    refine z_aload_n C dX10_go_273 0 rfl ?_
                    refine z_getI C dX10_go_274 fX10_96 rfl (kd_57 hS) ?_
                    refine z_eqi (tp) (gi_wi_eq (x := tp) _ _ _ (by omega)) ?_
                    refine z_aload_n C dX10_go_277 0 rfl ?_
                    refine z_getI C dX10_go_278 fX10_99 rfl (kd_57 hS) ?_
                    refine z_eqi (to) (Eq.trans (gi_wi_nk _ _ _ (by decide)) (Eq.trans (gi_wi_nk _ _ _ (by decide)) (Eq.trans (gi_wi_nk _ _ _ (by decide)) (gi_wi_eq (x := to) _ _ _ (by omega))))) ?_
                    refine z_isub C dX10_go_281 ?_
                    refine z_bipush C dX10_go_282 (by decide) ?_
                    refine z_icmp_ge 307 C dX10_go_284 (by decide) (by omega) (by decide) (fun h37 => ?_) (fun h37 => ?_)
                    ·
                      refine z_aload_n C dX10_go_307 0 rfl ?_
                      refine z_getI C dX10_go_308 fX10_96 rfl (kd_57 hS) ?_
                      refine z_eqi (tp) (gi_wi_eq (x := tp) _ _ _ (by omega)) ?_
                      refine z_aload_n C dX10_go_311 0 rfl ?_
                      refine z_getI C dX10_go_312 fX10_99 rfl (kd_57 hS) ?_
                      refine z_eqi (to) (Eq.trans (gi_wi_nk _ _ _ (by decide)) (Eq.trans (gi_wi_nk _ _ _ (by decide)) (Eq.trans (gi_wi_nk _ _ _ (by decide)) (gi_wi_eq (x := to) _ _ _ (by omega))))) ?_
                      refine z_isub C dX10_go_315 ?_
                      refine z_iconst C dX10_go_316 ?_
                      refine z_icmp_ge 337 C dX10_go_317 (by decide) (by omega) (by decide) (fun h38 => ?_) (fun h38 => ?_)
                      ·
                        refine z_aload_n C dX10_go_337 0 rfl ?_
                        refine z_dup C dX10_go_338 rfl ?_
                        refine z_getI C dX10_go_339 fX10_96 rfl (kd_57 hS) ?_
                        refine z_eqi (tp) (gi_wi_eq (x := tp) _ _ _ (by omega)) ?_
                        refine z_iconst C dX10_go_342 ?_
                        refine z_iadd C dX10_go_343 ?_
                        refine z_putI C dX10_go_344 fX10_96 rfl rfl (kd_57 hS) rfl rfl ?_
                        refine z_goto 215 C dX10_go_347 (by decide) ?_
                        refine z_eqM (sh, (wi (wi (wi (wi (wi I 57 5 to) 57 6 to) 57 8 0) 57 8 nm) 57 5 (tp + 1)), (wj (wj J 57 12 0) 57 12 wd)) (memEq (by funext a k; simp only [wi, up2_ap]; exact Decidable.byCases (p := a = 57 ∧ k = 5) (fun c0 => by obtain ⟨rfl, rfl⟩ := c0; simp [iv_w32, iv_gi]) (fun c0 => by exact Decidable.byCases (p := a = 57 ∧ k = 8) (fun c1 => by obtain ⟨rfl, rfl⟩ := c1; simp [iv_w32, iv_gi]) (fun c1 => by exact Decidable.byCases (p := a = 57 ∧ k = 6) (fun c2 => by obtain ⟨rfl, rfl⟩ := c2; simp [iv_w32, iv_gi]) (fun c2 => by simp only [if_neg c0, if_neg c1, if_neg c2])))) (by rfl)) ?_
                        refine z_drop (lv' := [(0, .ref (G.2.2 + 57)), (1, .int (iv (gi I 58 ((to).toNat)))), (2, .int (iv (b2 (97 ≤ (gi I 58 ((to).toNat)) ∧ (gi I 58 ((to).toNat)) ≤ 122)))), (3, .int (iv (0)))]) [0, 1, 2, 3] rfl ?_
                        exact ih15 (tp + 1) 0 wd nm (by omega) (by simp) (by first | exact hnm | exact w32_rng _) (by first | exact hwd | exact w64_rng _) (wh_back hi16 (decide_eq_true (by omega)) (by simp only [goF2, if_pos h31, if_neg h32, if_neg h36, if_pos h37, if_pos h38])) (by omega)
                      ·
                        refine z_aload_n C dX10_go_320 0 rfl ?_
                        refine z_bipush C dX10_go_321 (by decide) ?_
                        refine z_aload_n C dX10_go_323 0 rfl ?_
                        refine z_getI C dX10_go_324 fX10_122 rfl (kd_57 hS) ?_
                        refine z_eqi (nm) (Eq.trans (gi_wi_nk _ _ _ (by decide)) (gi_wi_eq (x := nm) _ _ _ (by omega))) ?_
                        refine z_imul C dX10_go_327 ?_
                        refine z_iload C dX10_go_328 4 rfl ?_
                        refine z_iadd C dX10_go_330 ?_
                        refine z_bipush C dX10_go_331 (by decide) ?_
                        refine z_isub C dX10_go_333 ?_
                        refine z_putI C dX10_go_334 fX10_122 rfl rfl (kd_57 hS) rfl rfl ?_
                        refine z_aload_n C dX10_go_337 0 rfl ?_
                        refine z_dup C dX10_go_338 rfl ?_
                        refine z_getI C dX10_go_339 fX10_96 rfl (kd_57 hS) ?_
                        refine z_eqi (tp) (Eq.trans (gi_wi_nk _ _ _ (by decide)) (gi_wi_eq (x := tp) _ _ _ (by omega))) ?_
                        refine z_iconst C dX10_go_342 ?_
                        refine z_iadd C dX10_go_343 ?_
                        refine z_putI C dX10_go_344 fX10_96 rfl rfl (kd_57 hS) rfl rfl ?_
                        refine z_goto 215 C dX10_go_347 (by decide) ?_
                        refine z_eqM (sh, (wi (wi (wi (wi (wi I 57 5 to) 57 6 to) 57 8 0) 57 8 (w32 (((10 * nm) + (gi I 58 ((tp).toNat))) - 48))) 57 5 (tp + 1)), (wj (wj J 57 12 0) 57 12 wd)) (memEq (by funext a k; simp only [wi, up2_ap]; exact Decidable.byCases (p := a = 57 ∧ k = 5) (fun c0 => by obtain ⟨rfl, rfl⟩ := c0; simp [iv_w32, iv_gi]) (fun c0 => by exact Decidable.byCases (p := a = 57 ∧ k = 8) (fun c1 => by obtain ⟨rfl, rfl⟩ := c1; simp [iv_w32, iv_gi]) (fun c1 => by exact Decidable.byCases (p := a = 57 ∧ k = 6) (fun c2 => by obtain ⟨rfl, rfl⟩ := c2; simp [iv_w32, iv_gi]) (fun c2 => by simp only [if_neg c0, if_neg c1, if_neg c2])))) (by rfl)) ?_
                        refine z_drop (lv' := [(0, .ref (G.2.2 + 57)), (1, .int (iv (gi I 58 ((to).toNat)))), (2, .int (iv (b2 (97 ≤ (gi I 58 ((to).toNat)) ∧ (gi I 58 ((to).toNat)) ≤ 122)))), (3, .int (iv (0)))]) [0, 1, 2, 3] rfl ?_
                        exact ih15 (tp + 1) 0 wd (w32 (((10 * nm) + (gi I 58 ((tp).toNat))) - 48)) (by omega) (by simp) (by first | exact hnm | exact w32_rng _) (by first | exact hwd | exact w64_rng _) (wh_back hi16 (decide_eq_true (by omega)) (by simp only [goF2, if_pos h31, if_neg h32, if_neg h36, if_pos h37, if_neg h38])) (by omega)
                    ·
                      refine z_aload_n C dX10_go_287 0 rfl ?_
                      refine z_ldc2 C dX10_go_288 kX10_129 ?_
                      refine z_aload_n C dX10_go_291 0 rfl ?_
                      refine z_getJ C dX10_go_292 fX10_118 rfl (kd_57 hS) ?_
                      refine z_eql (wd) (gj_wj_eq (x := wd) _ _ _ (by omega)) ?_
                      refine z_lmul C dX10_go_295 ?_
                      refine z_iload C dX10_go_296 4 rfl ?_
                      refine z_i2l (gi I 58 ((tp).toNat)) C dX10_go_298 (i2l_iv (gi_rng _ _ _)) ?_
                      refine z_ladd C dX10_go_299 ?_
                      refine z_ldc2 C dX10_go_300 kX10_131 ?_
                      refine z_lsub C dX10_go_303 ?_
                      refine z_putJ C dX10_go_304 fX10_118 rfl rfl (kd_57 hS) rfl rfl ?_
                      refine z_aload_n C dX10_go_307 0 rfl ?_
                      refine z_getI C dX10_go_308 fX10_96 rfl (kd_57 hS) ?_
                      refine z_eqi (tp) (gi_wi_eq (x := tp) _ _ _ (by omega)) ?_
                      refine z_aload_n C dX10_go_311 0 rfl ?_
                      refine z_getI C dX10_go_312 fX10_99 rfl (kd_57 hS) ?_
                      refine z_eqi (to) (Eq.trans (gi_wi_nk _ _ _ (by decide)) (Eq.trans (gi_wi_nk _ _ _ (by decide)) (Eq.trans (gi_wi_nk _ _ _ (by decide)) (gi_wi_eq (x := to) _ _ _ (by omega))))) ?_
                      refine z_isub C dX10_go_315 ?_
                      refine z_iconst C dX10_go_316 ?_
                      refine z_icmp_ge 337 C dX10_go_317 (by decide) (by omega) (by decide) (fun h39 => ?_) (fun h39 => ?_)
                      ·
                        refine z_aload_n C dX10_go_337 0 rfl ?_
                        refine z_dup C dX10_go_338 rfl ?_
                        refine z_getI C dX10_go_339 fX10_96 rfl (kd_57 hS) ?_
                        refine z_eqi (tp) (gi_wi_eq (x := tp) _ _ _ (by omega)) ?_
                        refine z_iconst C dX10_go_342 ?_
                        refine z_iadd C dX10_go_343 ?_
                        refine z_putI C dX10_go_344 fX10_96 rfl rfl (kd_57 hS) rfl rfl ?_
                        refine z_goto 215 C dX10_go_347 (by decide) ?_
                        refine z_eqM (sh, (wi (wi (wi (wi (wi I 57 5 to) 57 6 to) 57 8 0) 57 8 nm) 57 5 (tp + 1)), (wj (wj J 57 12 0) 57 12 (w64 (((27 * wd) + (gi I 58 ((tp).toNat))) - 96)))) (memEq (by funext a k; simp only [wi, up2_ap]; exact Decidable.byCases (p := a = 57 ∧ k = 5) (fun c0 => by obtain ⟨rfl, rfl⟩ := c0; simp [iv_w32, iv_gi]) (fun c0 => by exact Decidable.byCases (p := a = 57 ∧ k = 8) (fun c1 => by obtain ⟨rfl, rfl⟩ := c1; simp [iv_w32, iv_gi]) (fun c1 => by exact Decidable.byCases (p := a = 57 ∧ k = 6) (fun c2 => by obtain ⟨rfl, rfl⟩ := c2; simp [iv_w32, iv_gi]) (fun c2 => by simp only [if_neg c0, if_neg c1, if_neg c2])))) (by funext a k; simp only [wj, up2_ap]; exact Decidable.byCases (p := a = 57 ∧ k = 12) (fun c0 => by obtain ⟨rfl, rfl⟩ := c0; simp [jv_w64, jv_gj]) (fun c0 => by simp only [if_neg c0]))) ?_
                        refine z_drop (lv' := [(0, .ref (G.2.2 + 57)), (1, .int (iv (gi I 58 ((to).toNat)))), (2, .int (iv (b2 (97 ≤ (gi I 58 ((to).toNat)) ∧ (gi I 58 ((to).toNat)) ≤ 122)))), (3, .int (iv (0)))]) [0, 1, 2, 3] rfl ?_
                        exact ih15 (tp + 1) 0 (w64 (((27 * wd) + (gi I 58 ((tp).toNat))) - 96)) nm (by omega) (by simp) (by first | exact hnm | exact w32_rng _) (by first | exact hwd | exact w64_rng _) (wh_back hi16 (decide_eq_true (by omega)) (by simp only [goF2, if_pos h31, if_neg h32, if_neg h36, if_neg h37, if_pos h39])) (by omega)
                      ·
                        refine z_aload_n C dX10_go_320 0 rfl ?_
                        refine z_bipush C dX10_go_321 (by decide) ?_
                        refine z_aload_n C dX10_go_323 0 rfl ?_
                        refine z_getI C dX10_go_324 fX10_122 rfl (kd_57 hS) ?_
                        refine z_eqi (nm) (Eq.trans (gi_wi_nk _ _ _ (by decide)) (gi_wi_eq (x := nm) _ _ _ (by omega))) ?_
                        refine z_imul C dX10_go_327 ?_
                        refine z_iload C dX10_go_328 4 rfl ?_
                        refine z_iadd C dX10_go_330 ?_
                        refine z_bipush C dX10_go_331 (by decide) ?_
                        refine z_isub C dX10_go_333 ?_
                        refine z_putI C dX10_go_334 fX10_122 rfl rfl (kd_57 hS) rfl rfl ?_
                        refine z_aload_n C dX10_go_337 0 rfl ?_
                        refine z_dup C dX10_go_338 rfl ?_
                        refine z_getI C dX10_go_339 fX10_96 rfl (kd_57 hS) ?_
                        refine z_eqi (tp) (Eq.trans (gi_wi_nk _ _ _ (by decide)) (gi_wi_eq (x := tp) _ _ _ (by omega))) ?_
                        refine z_iconst C dX10_go_342 ?_
                        refine z_iadd C dX10_go_343 ?_
                        refine z_putI C dX10_go_344 fX10_96 rfl rfl (kd_57 hS) rfl rfl ?_
                        refine z_goto 215 C dX10_go_347 (by decide) ?_
                        refine z_eqM (sh, (wi (wi (wi (wi (wi I 57 5 to) 57 6 to) 57 8 0) 57 8 (w32 (((10 * nm) + (gi I 58 ((tp).toNat))) - 48))) 57 5 (tp + 1)), (wj (wj J 57 12 0) 57 12 (w64 (((27 * wd) + (gi I 58 ((tp).toNat))) - 96)))) (memEq (by funext a k; simp only [wi, up2_ap]; exact Decidable.byCases (p := a = 57 ∧ k = 5) (fun c0 => by obtain ⟨rfl, rfl⟩ := c0; simp [iv_w32, iv_gi]) (fun c0 => by exact Decidable.byCases (p := a = 57 ∧ k = 8) (fun c1 => by obtain ⟨rfl, rfl⟩ := c1; simp [iv_w32, iv_gi]) (fun c1 => by exact Decidable.byCases (p := a = 57 ∧ k = 6) (fun c2 => by obtain ⟨rfl, rfl⟩ := c2; simp [iv_w32, iv_gi]) (fun c2 => by simp only [if_neg c0, if_neg c1, if_neg c2])))) (by funext a k; simp only [wj, up2_ap]; exact Decidable.byCases (p := a = 57 ∧ k = 12) (fun c0 => by obtain ⟨rfl, rfl⟩ := c0; simp [jv_w64, jv_gj]) (fun c0 => by simp only [if_neg c0]))) ?_
                        refine z_drop (lv' := [(0, .ref (G.2.2 + 57)), (1, .int (iv (gi I 58 ((to).toNat)))), (2, .int (iv (b2 (97 ≤ (gi I 58 ((to).toNat)) ∧ (gi I 58 ((to).toNat)) ≤ 122)))), (3, .int (iv (0)))]) [0, 1, 2, 3] rfl ?_
                        exact ih15 (tp + 1) 0 (w64 (((27 * wd) + (gi I 58 ((tp).toNat))) - 96)) (w32 (((10 * nm) + (gi I 58 ((tp).toNat))) - 48)) (by omega) (by simp) (by first | exact hnm | exact w32_rng _) (by first | exact hwd | exact w64_rng _) (wh_back hi16 (decide_eq_true (by omega)) (by simp only [goF2, if_pos h31, if_neg h32, if_neg h36, if_neg h37, if_neg h39])) (by omega)
                  ·
                    refine z_iconst C dX10_go_267 ?_
                    refine z_goto 272 C dX10_go_268 (by decide) ?_
                    refine z_istore_n (lv' := [(0, .ref (G.2.2 + 57)), (1, .int (iv (gi I 58 ((to).toNat)))), (2, .int (iv (b2 (97 ≤ (gi I 58 ((to).toNat)) ∧ (gi I 58 ((to).toNat)) ≤ 122)))), (3, .int (iv (1))), (4, .int (iv (gi I 58 ((tp).toNat))))]) C dX10_go_272 rfl (by decide) [1, 2, 3, 0, 4] rfl ?_
                    refine z_aload_n C dX10_go_273 0 rfl ?_
                    refine z_getI C dX10_go_274 fX10_96 rfl (kd_57 hS) ?_
                    refine z_eqi (tp) (gi_wi_eq (x := tp) _ _ _ (by omega)) ?_
                    refine z_aload_n C dX10_go_277 0 rfl ?_
                    refine z_getI C dX10_go_278 fX10_99 rfl (kd_57 hS) ?_
                    refine z_eqi (to) (Eq.trans (gi_wi_nk _ _ _ (by decide)) (Eq.trans (gi_wi_nk _ _ _ (by decide)) (Eq.trans (gi_wi_nk _ _ _ (by decide)) (gi_wi_eq (x := to) _ _ _ (by omega))))) ?_
                    refine z_isub C dX10_go_281 ?_
                    refine z_bipush C dX10_go_282 (by decide) ?_
                    refine z_icmp_ge 307 C dX10_go_284 (by decide) (by omega) (by decide) (fun h40 => ?_) (fun h40 => ?_)
                    ·
                      refine z_aload_n C dX10_go_307 0 rfl ?_
                      refine z_getI C dX10_go_308 fX10_96 rfl (kd_57 hS) ?_
                      refine z_eqi (tp) (gi_wi_eq (x := tp) _ _ _ (by omega)) ?_
                      refine z_aload_n C dX10_go_311 0 rfl ?_
                      refine z_getI C dX10_go_312 fX10_99 rfl (kd_57 hS) ?_
                      refine z_eqi (to) (Eq.trans (gi_wi_nk _ _ _ (by decide)) (Eq.trans (gi_wi_nk _ _ _ (by decide)) (Eq.trans (gi_wi_nk _ _ _ (by decide)) (gi_wi_eq (x := to) _ _ _ (by omega))))) ?_
                      refine z_isub C dX10_go_315 ?_
                      refine z_iconst C dX10_go_316 ?_
                      refine z_icmp_ge 337 C dX10_go_317 (by decide) (by omega) (by decide) (fun h41 => ?_) (fun h41 => ?_)
                      ·
                        refine z_aload_n C dX10_go_337 0 rfl ?_
                        refine z_dup C dX10_go_338 rfl ?_
                        refine z_getI C dX10_go_339 fX10_96 rfl (kd_57 hS) ?_
                        refine z_eqi (tp) (gi_wi_eq (x := tp) _ _ _ (by omega)) ?_
                        refine z_iconst C dX10_go_342 ?_
                        refine z_iadd C dX10_go_343 ?_
                        refine z_putI C dX10_go_344 fX10_96 rfl rfl (kd_57 hS) rfl rfl ?_
                        refine z_goto 215 C dX10_go_347 (by decide) ?_
                        refine z_eqM (sh, (wi (wi (wi (wi (wi I 57 5 to) 57 6 to) 57 8 0) 57 8 nm) 57 5 (tp + 1)), (wj (wj J 57 12 0) 57 12 wd)) (memEq (by funext a k; simp only [wi, up2_ap]; exact Decidable.byCases (p := a = 57 ∧ k = 5) (fun c0 => by obtain ⟨rfl, rfl⟩ := c0; simp [iv_w32, iv_gi]) (fun c0 => by exact Decidable.byCases (p := a = 57 ∧ k = 8) (fun c1 => by obtain ⟨rfl, rfl⟩ := c1; simp [iv_w32, iv_gi]) (fun c1 => by exact Decidable.byCases (p := a = 57 ∧ k = 6) (fun c2 => by obtain ⟨rfl, rfl⟩ := c2; simp [iv_w32, iv_gi]) (fun c2 => by simp only [if_neg c0, if_neg c1, if_neg c2])))) (by rfl)) ?_
                        refine z_drop (lv' := [(0, .ref (G.2.2 + 57)), (1, .int (iv (gi I 58 ((to).toNat)))), (2, .int (iv (b2 (97 ≤ (gi I 58 ((to).toNat)) ∧ (gi I 58 ((to).toNat)) ≤ 122)))), (3, .int (iv (1)))]) [0, 1, 2, 3] rfl ?_
                        exact ih15 (tp + 1) 1 wd nm (by omega) (by simp) (by first | exact hnm | exact w32_rng _) (by first | exact hwd | exact w64_rng _) (wh_back hi16 (decide_eq_true (by omega)) (by simp only [goF2, if_pos h31, if_neg h32, if_pos h36, if_pos h40, if_pos h41])) (by omega)
                      ·
                        refine z_aload_n C dX10_go_320 0 rfl ?_
                        refine z_bipush C dX10_go_321 (by decide) ?_
                        refine z_aload_n C dX10_go_323 0 rfl ?_
                        refine z_getI C dX10_go_324 fX10_122 rfl (kd_57 hS) ?_
                        refine z_eqi (nm) (Eq.trans (gi_wi_nk _ _ _ (by decide)) (gi_wi_eq (x := nm) _ _ _ (by omega))) ?_
                        refine z_imul C dX10_go_327 ?_
                        refine z_iload C dX10_go_328 4 rfl ?_
                        refine z_iadd C dX10_go_330 ?_
                        refine z_bipush C dX10_go_331 (by decide) ?_
                        refine z_isub C dX10_go_333 ?_
                        refine z_putI C dX10_go_334 fX10_122 rfl rfl (kd_57 hS) rfl rfl ?_
                        refine z_aload_n C dX10_go_337 0 rfl ?_
                        refine z_dup C dX10_go_338 rfl ?_
                        refine z_getI C dX10_go_339 fX10_96 rfl (kd_57 hS) ?_
                        refine z_eqi (tp) (Eq.trans (gi_wi_nk _ _ _ (by decide)) (gi_wi_eq (x := tp) _ _ _ (by omega))) ?_
                        refine z_iconst C dX10_go_342 ?_
                        refine z_iadd C dX10_go_343 ?_
                        refine z_putI C dX10_go_344 fX10_96 rfl rfl (kd_57 hS) rfl rfl ?_
                        refine z_goto 215 C dX10_go_347 (by decide) ?_
                        refine z_eqM (sh, (wi (wi (wi (wi (wi I 57 5 to) 57 6 to) 57 8 0) 57 8 (w32 (((10 * nm) + (gi I 58 ((tp).toNat))) - 48))) 57 5 (tp + 1)), (wj (wj J 57 12 0) 57 12 wd)) (memEq (by funext a k; simp only [wi, up2_ap]; exact Decidable.byCases (p := a = 57 ∧ k = 5) (fun c0 => by obtain ⟨rfl, rfl⟩ := c0; simp [iv_w32, iv_gi]) (fun c0 => by exact Decidable.byCases (p := a = 57 ∧ k = 8) (fun c1 => by obtain ⟨rfl, rfl⟩ := c1; simp [iv_w32, iv_gi]) (fun c1 => by exact Decidable.byCases (p := a = 57 ∧ k = 6) (fun c2 => by obtain ⟨rfl, rfl⟩ := c2; simp [iv_w32, iv_gi]) (fun c2 => by simp only [if_neg c0, if_neg c1, if_neg c2])))) (by rfl)) ?_
                        refine z_drop (lv' := [(0, .ref (G.2.2 + 57)), (1, .int (iv (gi I 58 ((to).toNat)))), (2, .int (iv (b2 (97 ≤ (gi I 58 ((to).toNat)) ∧ (gi I 58 ((to).toNat)) ≤ 122)))), (3, .int (iv (1)))]) [0, 1, 2, 3] rfl ?_
                        exact ih15 (tp + 1) 1 wd (w32 (((10 * nm) + (gi I 58 ((tp).toNat))) - 48)) (by omega) (by simp) (by first | exact hnm | exact w32_rng _) (by first | exact hwd | exact w64_rng _) (wh_back hi16 (decide_eq_true (by omega)) (by simp only [goF2, if_pos h31, if_neg h32, if_pos h36, if_pos h40, if_neg h41])) (by omega)
                    ·
                      refine z_aload_n C dX10_go_287 0 rfl ?_
                      refine z_ldc2 C dX10_go_288 kX10_129 ?_
                      refine z_aload_n C dX10_go_291 0 rfl ?_
                      refine z_getJ C dX10_go_292 fX10_118 rfl (kd_57 hS) ?_
                      refine z_eql (wd) (gj_wj_eq (x := wd) _ _ _ (by omega)) ?_
                      refine z_lmul C dX10_go_295 ?_
                      refine z_iload C dX10_go_296 4 rfl ?_
                      refine z_i2l (gi I 58 ((tp).toNat)) C dX10_go_298 (i2l_iv (gi_rng _ _ _)) ?_
                      refine z_ladd C dX10_go_299 ?_
                      refine z_ldc2 C dX10_go_300 kX10_131 ?_
                      refine z_lsub C dX10_go_303 ?_
                      refine z_putJ C dX10_go_304 fX10_118 rfl rfl (kd_57 hS) rfl rfl ?_
                      refine z_aload_n C dX10_go_307 0 rfl ?_
                      refine z_getI C dX10_go_308 fX10_96 rfl (kd_57 hS) ?_
                      refine z_eqi (tp) (gi_wi_eq (x := tp) _ _ _ (by omega)) ?_
                      refine z_aload_n C dX10_go_311 0 rfl ?_
                      refine z_getI C dX10_go_312 fX10_99 rfl (kd_57 hS) ?_
                      refine z_eqi (to) (Eq.trans (gi_wi_nk _ _ _ (by decide)) (Eq.trans (gi_wi_nk _ _ _ (by decide)) (Eq.trans (gi_wi_nk _ _ _ (by decide)) (gi_wi_eq (x := to) _ _ _ (by omega))))) ?_
                      refine z_isub C dX10_go_315 ?_
                      refine z_iconst C dX10_go_316 ?_
                      refine z_icmp_ge 337 C dX10_go_317 (by decide) (by omega) (by decide) (fun h42 => ?_) (fun h42 => ?_)
                      ·
                        refine z_aload_n C dX10_go_337 0 rfl ?_
                        refine z_dup C dX10_go_338 rfl ?_
                        refine z_getI C dX10_go_339 fX10_96 rfl (kd_57 hS) ?_
                        refine z_eqi (tp) (gi_wi_eq (x := tp) _ _ _ (by omega)) ?_
                        refine z_iconst C dX10_go_342 ?_
                        refine z_iadd C dX10_go_343 ?_
                        refine z_putI C dX10_go_344 fX10_96 rfl rfl (kd_57 hS) rfl rfl ?_
                        refine z_goto 215 C dX10_go_347 (by decide) ?_
                        refine z_eqM (sh, (wi (wi (wi (wi (wi I 57 5 to) 57 6 to) 57 8 0) 57 8 nm) 57 5 (tp + 1)), (wj (wj J 57 12 0) 57 12 (w64 (((27 * wd) + (gi I 58 ((tp).toNat))) - 96)))) (memEq (by funext a k; simp only [wi, up2_ap]; exact Decidable.byCases (p := a = 57 ∧ k = 5) (fun c0 => by obtain ⟨rfl, rfl⟩ := c0; simp [iv_w32, iv_gi]) (fun c0 => by exact Decidable.byCases (p := a = 57 ∧ k = 8) (fun c1 => by obtain ⟨rfl, rfl⟩ := c1; simp [iv_w32, iv_gi]) (fun c1 => by exact Decidable.byCases (p := a = 57 ∧ k = 6) (fun c2 => by obtain ⟨rfl, rfl⟩ := c2; simp [iv_w32, iv_gi]) (fun c2 => by simp only [if_neg c0, if_neg c1, if_neg c2])))) (by funext a k; simp only [wj, up2_ap]; exact Decidable.byCases (p := a = 57 ∧ k = 12) (fun c0 => by obtain ⟨rfl, rfl⟩ := c0; simp [jv_w64, jv_gj]) (fun c0 => by simp only [if_neg c0]))) ?_
                        refine z_drop (lv' := [(0, .ref (G.2.2 + 57)), (1, .int (iv (gi I 58 ((to).toNat)))), (2, .int (iv (b2 (97 ≤ (gi I 58 ((to).toNat)) ∧ (gi I 58 ((to).toNat)) ≤ 122)))), (3, .int (iv (1)))]) [0, 1, 2, 3] rfl ?_
                        exact ih15 (tp + 1) 1 (w64 (((27 * wd) + (gi I 58 ((tp).toNat))) - 96)) nm (by omega) (by simp) (by first | exact hnm | exact w32_rng _) (by first | exact hwd | exact w64_rng _) (wh_back hi16 (decide_eq_true (by omega)) (by simp only [goF2, if_pos h31, if_neg h32, if_pos h36, if_neg h40, if_pos h42])) (by omega)
                      ·
                        refine z_aload_n C dX10_go_320 0 rfl ?_
                        refine z_bipush C dX10_go_321 (by decide) ?_
                        refine z_aload_n C dX10_go_323 0 rfl ?_
                        refine z_getI C dX10_go_324 fX10_122 rfl (kd_57 hS) ?_
                        refine z_eqi (nm) (Eq.trans (gi_wi_nk _ _ _ (by decide)) (gi_wi_eq (x := nm) _ _ _ (by omega))) ?_
                        refine z_imul C dX10_go_327 ?_
                        refine z_iload C dX10_go_328 4 rfl ?_
                        refine z_iadd C dX10_go_330 ?_
                        refine z_bipush C dX10_go_331 (by decide) ?_
                        refine z_isub C dX10_go_333 ?_
                        refine z_putI C dX10_go_334 fX10_122 rfl rfl (kd_57 hS) rfl rfl ?_
                        refine z_aload_n C dX10_go_337 0 rfl ?_
                        refine z_dup C dX10_go_338 rfl ?_
                        refine z_getI C dX10_go_339 fX10_96 rfl (kd_57 hS) ?_
                        refine z_eqi (tp) (Eq.trans (gi_wi_nk _ _ _ (by decide)) (gi_wi_eq (x := tp) _ _ _ (by omega))) ?_
                        refine z_iconst C dX10_go_342 ?_
                        refine z_iadd C dX10_go_343 ?_
                        refine z_putI C dX10_go_344 fX10_96 rfl rfl (kd_57 hS) rfl rfl ?_
                        refine z_goto 215 C dX10_go_347 (by decide) ?_
                        refine z_eqM (sh, (wi (wi (wi (wi (wi I 57 5 to) 57 6 to) 57 8 0) 57 8 (w32 (((10 * nm) + (gi I 58 ((tp).toNat))) - 48))) 57 5 (tp + 1)), (wj (wj J 57 12 0) 57 12 (w64 (((27 * wd) + (gi I 58 ((tp).toNat))) - 96)))) (memEq (by funext a k; simp only [wi, up2_ap]; exact Decidable.byCases (p := a = 57 ∧ k = 5) (fun c0 => by obtain ⟨rfl, rfl⟩ := c0; simp [iv_w32, iv_gi]) (fun c0 => by exact Decidable.byCases (p := a = 57 ∧ k = 8) (fun c1 => by obtain ⟨rfl, rfl⟩ := c1; simp [iv_w32, iv_gi]) (fun c1 => by exact Decidable.byCases (p := a = 57 ∧ k = 6) (fun c2 => by obtain ⟨rfl, rfl⟩ := c2; simp [iv_w32, iv_gi]) (fun c2 => by simp only [if_neg c0, if_neg c1, if_neg c2])))) (by funext a k; simp only [wj, up2_ap]; exact Decidable.byCases (p := a = 57 ∧ k = 12) (fun c0 => by obtain ⟨rfl, rfl⟩ := c0; simp [jv_w64, jv_gj]) (fun c0 => by simp only [if_neg c0]))) ?_
                        refine z_drop (lv' := [(0, .ref (G.2.2 + 57)), (1, .int (iv (gi I 58 ((to).toNat)))), (2, .int (iv (b2 (97 ≤ (gi I 58 ((to).toNat)) ∧ (gi I 58 ((to).toNat)) ≤ 122)))), (3, .int (iv (1)))]) [0, 1, 2, 3] rfl ?_
                        exact ih15 (tp + 1) 1 (w64 (((27 * wd) + (gi I 58 ((tp).toNat))) - 96)) (w32 (((10 * nm) + (gi I 58 ((tp).toNat))) - 48)) (by omega) (by simp) (by first | exact hnm | exact w32_rng _) (by first | exact hwd | exact w64_rng _) (wh_back hi16 (decide_eq_true (by omega)) (by simp only [goF2, if_pos h31, if_neg h32, if_pos h36, if_neg h40, if_neg h42])) (by omega)
              ·
                refine z_aload_n C dX10_go_229 0 rfl ?_
                refine z_aload_n C dX10_go_230 0 rfl ?_
                refine z_getI C dX10_go_231 fX10_96 rfl (kd_57 hS) ?_
                refine z_eqi (tp) (gi_wi_eq (x := tp) _ _ _ (by omega)) ?_
                refine z_cVi (st := []) C dX10_go_234 mX10_125 (kd_57 hS) (qX10_byteA hC tp hS (by omega) (by omega) (by have : gi (wi (wi (wi (wi (wi I 57 5 to) 57 6 to) 57 8 0) 57 8 nm) 57 5 tp) 57 3 = gi I 57 3 := (Eq.trans (gi_wi_nk _ _ _ (by decide)) (Eq.trans (gi_wi_nk _ _ _ (by decide)) (Eq.trans (gi_wi_nk _ _ _ (by decide)) (Eq.trans (gi_wi_nk _ _ _ (by decide)) (gi_wi_nk _ _ _ (by decide)))))); have := gi_rng I 57 3; have := gi_rng (wi (wi (wi (wi (wi I 57 5 to) 57 6 to) 57 8 0) 57 8 nm) 57 5 tp) 57 3; omega)) rfl rfl (Nat.le_of_ble_eq_true rfl) (by decide) ?_
                refine z_eqi (bA I tp) (by unfold bA; rw [show gi (wi (wi (wi (wi (wi I 57 5 to) 57 6 to) 57 8 0) 57 8 nm) 57 5 tp) 57 3 = gi I 57 3 from (Eq.trans (gi_wi_nk _ _ _ (by decide)) (Eq.trans (gi_wi_nk _ _ _ (by decide)) (Eq.trans (gi_wi_nk _ _ _ (by decide)) (Eq.trans (gi_wi_nk _ _ _ (by decide)) (gi_wi_nk _ _ _ (by decide)))))), show gi (wi (wi (wi (wi (wi I 57 5 to) 57 6 to) 57 8 0) 57 8 nm) 57 5 tp) 58 (tp).toNat = gi I 58 (tp).toNat from (Eq.trans (gi_wi_na _ _ _ _ (by decide)) (Eq.trans (gi_wi_na _ _ _ _ (by decide)) (Eq.trans (gi_wi_na _ _ _ _ (by decide)) (Eq.trans (gi_wi_na _ _ _ _ (by decide)) (gi_wi_na _ _ _ _ (by decide))))))]) ?_
                refine z_cSi (st := []) C dX10_go_237 mX10_112 (qX10_isDigit hC (bA I tp) (bA_rng _ _)) rfl rfl (Nat.le_of_ble_eq_true rfl) (by decide) ?_
                refine z_if_eq_b 350 C dX10_go_240 (by decide) (fun h43 => ?_) (fun h43 => ?_)
                ·
                  exact hE17 tp g wd nm htp hg hnm hwd (wh_exit hi16 (decide_eq_false (by omega)))
                ·
                  have hlt := bA_lt (I := I) (v := tp) (by omega)
                  refine z_aload_n C dX10_go_243 0 rfl ?_
                  refine z_getR C dX10_go_244 fX10_7 rfl (kd_57 hS) (r_57_1 hS) ?_
                  refine z_aload_n C dX10_go_247 0 rfl ?_
                  refine z_getI C dX10_go_248 fX10_96 rfl (kd_57 hS) ?_
                  refine z_eqi (tp) (gi_wi_eq (x := tp) _ _ _ (by omega)) ?_
                  refine z_iald (q := (tp).toNat) C dX10_go_251 (ka_58 hS) (by omega) (by omega) ?_
                  refine z_eqi (gi I 58 ((tp).toNat)) (Eq.trans (gi_wi_na _ _ _ _ (by decide)) (Eq.trans (gi_wi_na _ _ _ _ (by decide)) (Eq.trans (gi_wi_na _ _ _ _ (by decide)) (Eq.trans (gi_wi_na _ _ _ _ (by decide)) (gi_wi_na _ _ _ _ (by decide)))))) ?_
                  refine z_istore (lv' := [(0, .ref (G.2.2 + 57)), (1, .int (iv (gi I 58 ((to).toNat)))), (2, .int (iv (b2 (97 ≤ (gi I 58 ((to).toNat)) ∧ (gi I 58 ((to).toNat)) ≤ 122)))), (3, .int (iv (g))), (4, .int (iv (gi I 58 ((tp).toNat))))]) C dX10_go_252 (by decide) [1, 2, 3, 4, 0] rfl ?_
                  refine z_iload_n C dX10_go_254 3 rfl ?_
                  refine z_if_eq 271 C dX10_go_255 (by decide) (by omega) (fun h44 => ?_) (fun h44 => ?_)
                  ·
                    refine z_iconst C dX10_go_271 ?_
                    refine z_istore_n (lv' := [(0, .ref (G.2.2 + 57)), (1, .int (iv (gi I 58 ((to).toNat)))), (2, .int (iv (b2 (97 ≤ (gi I 58 ((to).toNat)) ∧ (gi I 58 ((to).toNat)) ≤ 122)))), (3, .int (iv (0))), (4, .int (iv (gi I 58 ((tp).toNat))))]) C dX10_go_272 rfl (by decide) [1, 2, 3, 0, 4] rfl ?_
                    refine z_aload_n C dX10_go_273 0 rfl ?_
                    refine z_getI C dX10_go_274 fX10_96 rfl (kd_57 hS) ?_
                    refine z_eqi (tp) (gi_wi_eq (x := tp) _ _ _ (by omega)) ?_
                    refine z_aload_n C dX10_go_277 0 rfl ?_
                    refine z_getI C dX10_go_278 fX10_99 rfl (kd_57 hS) ?_
                    refine z_eqi (to) (Eq.trans (gi_wi_nk _ _ _ (by decide)) (Eq.trans (gi_wi_nk _ _ _ (by decide)) (Eq.trans (gi_wi_nk _ _ _ (by decide)) (gi_wi_eq (x := to) _ _ _ (by omega))))) ?_
                    refine z_isub C dX10_go_281 ?_
                    refine z_bipush C dX10_go_282 (by decide) ?_
                    refine z_icmp_ge 307 C dX10_go_284 (by decide) (by omega) (by decide) (fun h45 => ?_) (fun h45 => ?_)
                    ·
                      refine z_aload_n C dX10_go_307 0 rfl ?_
                      refine z_getI C dX10_go_308 fX10_96 rfl (kd_57 hS) ?_
                      refine z_eqi (tp) (gi_wi_eq (x := tp) _ _ _ (by omega)) ?_
                      refine z_aload_n C dX10_go_311 0 rfl ?_
                      refine z_getI C dX10_go_312 fX10_99 rfl (kd_57 hS) ?_
                      refine z_eqi (to) (Eq.trans (gi_wi_nk _ _ _ (by decide)) (Eq.trans (gi_wi_nk _ _ _ (by decide)) (Eq.trans (gi_wi_nk _ _ _ (by decide)) (gi_wi_eq (x := to) _ _ _ (by omega))))) ?_
                      refine z_isub C dX10_go_315 ?_
                      refine z_iconst C dX10_go_316 ?_
                      refine z_icmp_ge 337 C dX10_go_317 (by decide) (by omega) (by decide) (fun h46 => ?_) (fun h46 => ?_)
                      ·
                        refine z_aload_n C dX10_go_337 0 rfl ?_
                        refine z_dup C dX10_go_338 rfl ?_
                        refine z_getI C dX10_go_339 fX10_96 rfl (kd_57 hS) ?_
                        refine z_eqi (tp) (gi_wi_eq (x := tp) _ _ _ (by omega)) ?_
                        refine z_iconst C dX10_go_342 ?_
                        refine z_iadd C dX10_go_343 ?_
                        refine z_putI C dX10_go_344 fX10_96 rfl rfl (kd_57 hS) rfl rfl ?_
                        refine z_goto 215 C dX10_go_347 (by decide) ?_
                        refine z_eqM (sh, (wi (wi (wi (wi (wi I 57 5 to) 57 6 to) 57 8 0) 57 8 nm) 57 5 (tp + 1)), (wj (wj J 57 12 0) 57 12 wd)) (memEq (by funext a k; simp only [wi, up2_ap]; exact Decidable.byCases (p := a = 57 ∧ k = 5) (fun c0 => by obtain ⟨rfl, rfl⟩ := c0; simp [iv_w32, iv_gi]) (fun c0 => by exact Decidable.byCases (p := a = 57 ∧ k = 8) (fun c1 => by obtain ⟨rfl, rfl⟩ := c1; simp [iv_w32, iv_gi]) (fun c1 => by exact Decidable.byCases (p := a = 57 ∧ k = 6) (fun c2 => by obtain ⟨rfl, rfl⟩ := c2; simp [iv_w32, iv_gi]) (fun c2 => by simp only [if_neg c0, if_neg c1, if_neg c2])))) (by rfl)) ?_
                        refine z_drop (lv' := [(0, .ref (G.2.2 + 57)), (1, .int (iv (gi I 58 ((to).toNat)))), (2, .int (iv (b2 (97 ≤ (gi I 58 ((to).toNat)) ∧ (gi I 58 ((to).toNat)) ≤ 122)))), (3, .int (iv (0)))]) [0, 1, 2, 3] rfl ?_
                        exact ih15 (tp + 1) 0 wd nm (by omega) (by simp) (by first | exact hnm | exact w32_rng _) (by first | exact hwd | exact w64_rng _) (wh_back hi16 (decide_eq_true (by omega)) (by simp only [goF2, if_neg h31, if_pos h43, if_pos h44, if_pos h45, if_pos h46])) (by omega)
                      ·
                        refine z_aload_n C dX10_go_320 0 rfl ?_
                        refine z_bipush C dX10_go_321 (by decide) ?_
                        refine z_aload_n C dX10_go_323 0 rfl ?_
                        refine z_getI C dX10_go_324 fX10_122 rfl (kd_57 hS) ?_
                        refine z_eqi (nm) (Eq.trans (gi_wi_nk _ _ _ (by decide)) (gi_wi_eq (x := nm) _ _ _ (by omega))) ?_
                        refine z_imul C dX10_go_327 ?_
                        refine z_iload C dX10_go_328 4 rfl ?_
                        refine z_iadd C dX10_go_330 ?_
                        refine z_bipush C dX10_go_331 (by decide) ?_
                        refine z_isub C dX10_go_333 ?_
                        refine z_putI C dX10_go_334 fX10_122 rfl rfl (kd_57 hS) rfl rfl ?_
                        refine z_aload_n C dX10_go_337 0 rfl ?_
                        refine z_dup C dX10_go_338 rfl ?_
                        refine z_getI C dX10_go_339 fX10_96 rfl (kd_57 hS) ?_
                        refine z_eqi (tp) (Eq.trans (gi_wi_nk _ _ _ (by decide)) (gi_wi_eq (x := tp) _ _ _ (by omega))) ?_
                        refine z_iconst C dX10_go_342 ?_
                        refine z_iadd C dX10_go_343 ?_
                        refine z_putI C dX10_go_344 fX10_96 rfl rfl (kd_57 hS) rfl rfl ?_
                        refine z_goto 215 C dX10_go_347 (by decide) ?_
                        refine z_eqM (sh, (wi (wi (wi (wi (wi I 57 5 to) 57 6 to) 57 8 0) 57 8 (w32 (((10 * nm) + (gi I 58 ((tp).toNat))) - 48))) 57 5 (tp + 1)), (wj (wj J 57 12 0) 57 12 wd)) (memEq (by funext a k; simp only [wi, up2_ap]; exact Decidable.byCases (p := a = 57 ∧ k = 5) (fun c0 => by obtain ⟨rfl, rfl⟩ := c0; simp [iv_w32, iv_gi]) (fun c0 => by exact Decidable.byCases (p := a = 57 ∧ k = 8) (fun c1 => by obtain ⟨rfl, rfl⟩ := c1; simp [iv_w32, iv_gi]) (fun c1 => by exact Decidable.byCases (p := a = 57 ∧ k = 6) (fun c2 => by obtain ⟨rfl, rfl⟩ := c2; simp [iv_w32, iv_gi]) (fun c2 => by simp only [if_neg c0, if_neg c1, if_neg c2])))) (by rfl)) ?_
                        refine z_drop (lv' := [(0, .ref (G.2.2 + 57)), (1, .int (iv (gi I 58 ((to).toNat)))), (2, .int (iv (b2 (97 ≤ (gi I 58 ((to).toNat)) ∧ (gi I 58 ((to).toNat)) ≤ 122)))), (3, .int (iv (0)))]) [0, 1, 2, 3] rfl ?_
                        exact ih15 (tp + 1) 0 wd (w32 (((10 * nm) + (gi I 58 ((tp).toNat))) - 48)) (by omega) (by simp) (by first | exact hnm | exact w32_rng _) (by first | exact hwd | exact w64_rng _) (wh_back hi16 (decide_eq_true (by omega)) (by simp only [goF2, if_neg h31, if_pos h43, if_pos h44, if_pos h45, if_neg h46])) (by omega)
                    ·
                      refine z_aload_n C dX10_go_287 0 rfl ?_
                      refine z_ldc2 C dX10_go_288 kX10_129 ?_
                      refine z_aload_n C dX10_go_291 0 rfl ?_
                      refine z_getJ C dX10_go_292 fX10_118 rfl (kd_57 hS) ?_
                      refine z_eql (wd) (gj_wj_eq (x := wd) _ _ _ (by omega)) ?_
                      refine z_lmul C dX10_go_295 ?_
                      refine z_iload C dX10_go_296 4 rfl ?_
                      refine z_i2l (gi I 58 ((tp).toNat)) C dX10_go_298 (i2l_iv (gi_rng _ _ _)) ?_
                      refine z_ladd C dX10_go_299 ?_
                      refine z_ldc2 C dX10_go_300 kX10_131 ?_
                      refine z_lsub C dX10_go_303 ?_
                      refine z_putJ C dX10_go_304 fX10_118 rfl rfl (kd_57 hS) rfl rfl ?_
                      refine z_aload_n C dX10_go_307 0 rfl ?_
                      refine z_getI C dX10_go_308 fX10_96 rfl (kd_57 hS) ?_
                      refine z_eqi (tp) (gi_wi_eq (x := tp) _ _ _ (by omega)) ?_
                      refine z_aload_n C dX10_go_311 0 rfl ?_
                      refine z_getI C dX10_go_312 fX10_99 rfl (kd_57 hS) ?_
                      refine z_eqi (to) (Eq.trans (gi_wi_nk _ _ _ (by decide)) (Eq.trans (gi_wi_nk _ _ _ (by decide)) (Eq.trans (gi_wi_nk _ _ _ (by decide)) (gi_wi_eq (x := to) _ _ _ (by omega))))) ?_
                      refine z_isub C dX10_go_315 ?_
                      refine z_iconst C dX10_go_316 ?_
                      refine z_icmp_ge 337 C dX10_go_317 (by decide) (by omega) (by decide) (fun h47 => ?_) (fun h47 => ?_)
                      ·
                        refine z_aload_n C dX10_go_337 0 rfl ?_
                        refine z_dup C dX10_go_338 rfl ?_
                        refine z_getI C dX10_go_339 fX10_96 rfl (kd_57 hS) ?_
                        refine z_eqi (tp) (gi_wi_eq (x := tp) _ _ _ (by omega)) ?_
                        refine z_iconst C dX10_go_342 ?_
                        refine z_iadd C dX10_go_343 ?_
                        refine z_putI C dX10_go_344 fX10_96 rfl rfl (kd_57 hS) rfl rfl ?_
                        refine z_goto 215 C dX10_go_347 (by decide) ?_
                        refine z_eqM (sh, (wi (wi (wi (wi (wi I 57 5 to) 57 6 to) 57 8 0) 57 8 nm) 57 5 (tp + 1)), (wj (wj J 57 12 0) 57 12 (w64 (((27 * wd) + (gi I 58 ((tp).toNat))) - 96)))) (memEq (by funext a k; simp only [wi, up2_ap]; exact Decidable.byCases (p := a = 57 ∧ k = 5) (fun c0 => by obtain ⟨rfl, rfl⟩ := c0; simp [iv_w32, iv_gi]) (fun c0 => by exact Decidable.byCases (p := a = 57 ∧ k = 8) (fun c1 => by obtain ⟨rfl, rfl⟩ := c1; simp [iv_w32, iv_gi]) (fun c1 => by exact Decidable.byCases (p := a = 57 ∧ k = 6) (fun c2 => by obtain ⟨rfl, rfl⟩ := c2; simp [iv_w32, iv_gi]) (fun c2 => by simp only [if_neg c0, if_neg c1, if_neg c2])))) (by funext a k; simp only [wj, up2_ap]; exact Decidable.byCases (p := a = 57 ∧ k = 12) (fun c0 => by obtain ⟨rfl, rfl⟩ := c0; simp [jv_w64, jv_gj]) (fun c0 => by simp only [if_neg c0]))) ?_
                        refine z_drop (lv' := [(0, .ref (G.2.2 + 57)), (1, .int (iv (gi I 58 ((to).toNat)))), (2, .int (iv (b2 (97 ≤ (gi I 58 ((to).toNat)) ∧ (gi I 58 ((to).toNat)) ≤ 122)))), (3, .int (iv (0)))]) [0, 1, 2, 3] rfl ?_
                        exact ih15 (tp + 1) 0 (w64 (((27 * wd) + (gi I 58 ((tp).toNat))) - 96)) nm (by omega) (by simp) (by first | exact hnm | exact w32_rng _) (by first | exact hwd | exact w64_rng _) (wh_back hi16 (decide_eq_true (by omega)) (by simp only [goF2, if_neg h31, if_pos h43, if_pos h44, if_neg h45, if_pos h47])) (by omega)
                      ·
                        refine z_aload_n C dX10_go_320 0 rfl ?_
                        refine z_bipush C dX10_go_321 (by decide) ?_
                        refine z_aload_n C dX10_go_323 0 rfl ?_
                        refine z_getI C dX10_go_324 fX10_122 rfl (kd_57 hS) ?_
                        refine z_eqi (nm) (Eq.trans (gi_wi_nk _ _ _ (by decide)) (gi_wi_eq (x := nm) _ _ _ (by omega))) ?_
                        refine z_imul C dX10_go_327 ?_
                        refine z_iload C dX10_go_328 4 rfl ?_
                        refine z_iadd C dX10_go_330 ?_
                        refine z_bipush C dX10_go_331 (by decide) ?_
                        refine z_isub C dX10_go_333 ?_
                        refine z_putI C dX10_go_334 fX10_122 rfl rfl (kd_57 hS) rfl rfl ?_
                        refine z_aload_n C dX10_go_337 0 rfl ?_
                        refine z_dup C dX10_go_338 rfl ?_
                        refine z_getI C dX10_go_339 fX10_96 rfl (kd_57 hS) ?_
                        refine z_eqi (tp) (Eq.trans (gi_wi_nk _ _ _ (by decide)) (gi_wi_eq (x := tp) _ _ _ (by omega))) ?_
                        refine z_iconst C dX10_go_342 ?_
                        refine z_iadd C dX10_go_343 ?_
                        refine z_putI C dX10_go_344 fX10_96 rfl rfl (kd_57 hS) rfl rfl ?_
                        refine z_goto 215 C dX10_go_347 (by decide) ?_
                        refine z_eqM (sh, (wi (wi (wi (wi (wi I 57 5 to) 57 6 to) 57 8 0) 57 8 (w32 (((10 * nm) + (gi I 58 ((tp).toNat))) - 48))) 57 5 (tp + 1)), (wj (wj J 57 12 0) 57 12 (w64 (((27 * wd) + (gi I 58 ((tp).toNat))) - 96)))) (memEq (by funext a k; simp only [wi, up2_ap]; exact Decidable.byCases (p := a = 57 ∧ k = 5) (fun c0 => by obtain ⟨rfl, rfl⟩ := c0; simp [iv_w32, iv_gi]) (fun c0 => by exact Decidable.byCases (p := a = 57 ∧ k = 8) (fun c1 => by obtain ⟨rfl, rfl⟩ := c1; simp [iv_w32, iv_gi]) (fun c1 => by exact Decidable.byCases (p := a = 57 ∧ k = 6) (fun c2 => by obtain ⟨rfl, rfl⟩ := c2; simp [iv_w32, iv_gi]) (fun c2 => by simp only [if_neg c0, if_neg c1, if_neg c2])))) (by funext a k; simp only [wj, up2_ap]; exact Decidable.byCases (p := a = 57 ∧ k = 12) (fun c0 => by obtain ⟨rfl, rfl⟩ := c0; simp [jv_w64, jv_gj]) (fun c0 => by simp only [if_neg c0]))) ?_
                        refine z_drop (lv' := [(0, .ref (G.2.2 + 57)), (1, .int (iv (gi I 58 ((to).toNat)))), (2, .int (iv (b2 (97 ≤ (gi I 58 ((to).toNat)) ∧ (gi I 58 ((to).toNat)) ≤ 122)))), (3, .int (iv (0)))]) [0, 1, 2, 3] rfl ?_
                        exact ih15 (tp + 1) 0 (w64 (((27 * wd) + (gi I 58 ((tp).toNat))) - 96)) (w32 (((10 * nm) + (gi I 58 ((tp).toNat))) - 48)) (by omega) (by simp) (by first | exact hnm | exact w32_rng _) (by first | exact hwd | exact w64_rng _) (wh_back hi16 (decide_eq_true (by omega)) (by simp only [goF2, if_neg h31, if_pos h43, if_pos h44, if_neg h45, if_neg h47])) (by omega)
                  ·
                    refine z_iload C dX10_go_258 4 rfl ?_
                    refine z_cSi (st := []) C dX10_go_260 mX10_108 (qX10_isLetter hC (gi I 58 ((tp).toNat)) (gi_rng _ _ _)) rfl rfl (Nat.le_of_ble_eq_true rfl) (by decide) ?_
                    refine z_iload_n C dX10_go_263 2 rfl ?_
                    refine z_icmp_ne 271 C dX10_go_264 (by decide) (b2_rng _) (b2_rng _) (fun h48 => ?_) (fun h48 => ?_)
                    ·
                      refine z_iconst C dX10_go_271 ?_
                      refine z_istore_n (lv' := [(0, .ref (G.2.2 + 57)), (1, .int (iv (gi I 58 ((to).toNat)))), (2, .int (iv (b2 (97 ≤ (gi I 58 ((to).toNat)) ∧ (gi I 58 ((to).toNat)) ≤ 122)))), (3, .int (iv (0))), (4, .int (iv (gi I 58 ((tp).toNat))))]) C dX10_go_272 rfl (by decide) [1, 2, 3, 0, 4] rfl ?_
                      refine z_aload_n C dX10_go_273 0 rfl ?_
                      refine z_getI C dX10_go_274 fX10_96 rfl (kd_57 hS) ?_
                      refine z_eqi (tp) (gi_wi_eq (x := tp) _ _ _ (by omega)) ?_
                      refine z_aload_n C dX10_go_277 0 rfl ?_
                      refine z_getI C dX10_go_278 fX10_99 rfl (kd_57 hS) ?_
                      refine z_eqi (to) (Eq.trans (gi_wi_nk _ _ _ (by decide)) (Eq.trans (gi_wi_nk _ _ _ (by decide)) (Eq.trans (gi_wi_nk _ _ _ (by decide)) (gi_wi_eq (x := to) _ _ _ (by omega))))) ?_
                      refine z_isub C dX10_go_281 ?_
                      refine z_bipush C dX10_go_282 (by decide) ?_
                      refine z_icmp_ge 307 C dX10_go_284 (by decide) (by omega) (by decide) (fun h49 => ?_) (fun h49 => ?_)
                      ·
                        refine z_aload_n C dX10_go_307 0 rfl ?_
                        refine z_getI C dX10_go_308 fX10_96 rfl (kd_57 hS) ?_
                        refine z_eqi (tp) (gi_wi_eq (x := tp) _ _ _ (by omega)) ?_
                        refine z_aload_n C dX10_go_311 0 rfl ?_
                        refine z_getI C dX10_go_312 fX10_99 rfl (kd_57 hS) ?_
                        refine z_eqi (to) (Eq.trans (gi_wi_nk _ _ _ (by decide)) (Eq.trans (gi_wi_nk _ _ _ (by decide)) (Eq.trans (gi_wi_nk _ _ _ (by decide)) (gi_wi_eq (x := to) _ _ _ (by omega))))) ?_
                        refine z_isub C dX10_go_315 ?_
                        refine z_iconst C dX10_go_316 ?_
                        refine z_icmp_ge 337 C dX10_go_317 (by decide) (by omega) (by decide) (fun h50 => ?_) (fun h50 => ?_)
                        ·
                          refine z_aload_n C dX10_go_337 0 rfl ?_
                          refine z_dup C dX10_go_338 rfl ?_
                          refine z_getI C dX10_go_339 fX10_96 rfl (kd_57 hS) ?_
                          refine z_eqi (tp) (gi_wi_eq (x := tp) _ _ _ (by omega)) ?_
                          refine z_iconst C dX10_go_342 ?_
                          refine z_iadd C dX10_go_343 ?_
                          refine z_putI C dX10_go_344 fX10_96 rfl rfl (kd_57 hS) rfl rfl ?_
                          refine z_goto 215 C dX10_go_347 (by decide) ?_
                          refine z_eqM (sh, (wi (wi (wi (wi (wi I 57 5 to) 57 6 to) 57 8 0) 57 8 nm) 57 5 (tp + 1)), (wj (wj J 57 12 0) 57 12 wd)) (memEq (by funext a k; simp only [wi, up2_ap]; exact Decidable.byCases (p := a = 57 ∧ k = 5) (fun c0 => by obtain ⟨rfl, rfl⟩ := c0; simp [iv_w32, iv_gi]) (fun c0 => by exact Decidable.byCases (p := a = 57 ∧ k = 8) (fun c1 => by obtain ⟨rfl, rfl⟩ := c1; simp [iv_w32, iv_gi]) (fun c1 => by exact Decidable.byCases (p := a = 57 ∧ k = 6) (fun c2 => by obtain ⟨rfl, rfl⟩ := c2; simp [iv_w32, iv_gi]) (fun c2 => by simp only [if_neg c0, if_neg c1, if_neg c2])))) (by rfl)) ?_
                          refine z_drop (lv' := [(0, .ref (G.2.2 + 57)), (1, .int (iv (gi I 58 ((to).toNat)))), (2, .int (iv (b2 (97 ≤ (gi I 58 ((to).toNat)) ∧ (gi I 58 ((to).toNat)) ≤ 122)))), (3, .int (iv (0)))]) [0, 1, 2, 3] rfl ?_
                          exact ih15 (tp + 1) 0 wd nm (by omega) (by simp) (by first | exact hnm | exact w32_rng _) (by first | exact hwd | exact w64_rng _) (wh_back hi16 (decide_eq_true (by omega)) (by simp only [goF2, if_neg h31, if_pos h43, if_neg h44, if_neg h48, if_pos h49, if_pos h50])) (by omega)
                        ·
                          refine z_aload_n C dX10_go_320 0 rfl ?_
                          refine z_bipush C dX10_go_321 (by decide) ?_
                          refine z_aload_n C dX10_go_323 0 rfl ?_
                          refine z_getI C dX10_go_324 fX10_122 rfl (kd_57 hS) ?_
                          refine z_eqi (nm) (Eq.trans (gi_wi_nk _ _ _ (by decide)) (gi_wi_eq (x := nm) _ _ _ (by omega))) ?_
                          refine z_imul C dX10_go_327 ?_
                          refine z_iload C dX10_go_328 4 rfl ?_
                          refine z_iadd C dX10_go_330 ?_
                          refine z_bipush C dX10_go_331 (by decide) ?_
                          refine z_isub C dX10_go_333 ?_
                          refine z_putI C dX10_go_334 fX10_122 rfl rfl (kd_57 hS) rfl rfl ?_
                          refine z_aload_n C dX10_go_337 0 rfl ?_
                          refine z_dup C dX10_go_338 rfl ?_
                          refine z_getI C dX10_go_339 fX10_96 rfl (kd_57 hS) ?_
                          refine z_eqi (tp) (Eq.trans (gi_wi_nk _ _ _ (by decide)) (gi_wi_eq (x := tp) _ _ _ (by omega))) ?_
                          refine z_iconst C dX10_go_342 ?_
                          refine z_iadd C dX10_go_343 ?_
                          refine z_putI C dX10_go_344 fX10_96 rfl rfl (kd_57 hS) rfl rfl ?_
                          refine z_goto 215 C dX10_go_347 (by decide) ?_
                          refine z_eqM (sh, (wi (wi (wi (wi (wi I 57 5 to) 57 6 to) 57 8 0) 57 8 (w32 (((10 * nm) + (gi I 58 ((tp).toNat))) - 48))) 57 5 (tp + 1)), (wj (wj J 57 12 0) 57 12 wd)) (memEq (by funext a k; simp only [wi, up2_ap]; exact Decidable.byCases (p := a = 57 ∧ k = 5) (fun c0 => by obtain ⟨rfl, rfl⟩ := c0; simp [iv_w32, iv_gi]) (fun c0 => by exact Decidable.byCases (p := a = 57 ∧ k = 8) (fun c1 => by obtain ⟨rfl, rfl⟩ := c1; simp [iv_w32, iv_gi]) (fun c1 => by exact Decidable.byCases (p := a = 57 ∧ k = 6) (fun c2 => by obtain ⟨rfl, rfl⟩ := c2; simp [iv_w32, iv_gi]) (fun c2 => by simp only [if_neg c0, if_neg c1, if_neg c2])))) (by rfl)) ?_
                          refine z_drop (lv' := [(0, .ref (G.2.2 + 57)), (1, .int (iv (gi I 58 ((to).toNat)))), (2, .int (iv (b2 (97 ≤ (gi I 58 ((to).toNat)) ∧ (gi I 58 ((to).toNat)) ≤ 122)))), (3, .int (iv (0)))]) [0, 1, 2, 3] rfl ?_
                          exact ih15 (tp + 1) 0 wd (w32 (((10 * nm) + (gi I 58 ((tp).toNat))) - 48)) (by omega) (by simp) (by first | exact hnm | exact w32_rng _) (by first | exact hwd | exact w64_rng _) (wh_back hi16 (decide_eq_true (by omega)) (by simp only [goF2, if_neg h31, if_pos h43, if_neg h44, if_neg h48, if_pos h49, if_neg h50])) (by omega)
                      ·
                        refine z_aload_n C dX10_go_287 0 rfl ?_
                        refine z_ldc2 C dX10_go_288 kX10_129 ?_
                        refine z_aload_n C dX10_go_291 0 rfl ?_
                        refine z_getJ C dX10_go_292 fX10_118 rfl (kd_57 hS) ?_
                        refine z_eql (wd) (gj_wj_eq (x := wd) _ _ _ (by omega)) ?_
                        refine z_lmul C dX10_go_295 ?_
                        refine z_iload C dX10_go_296 4 rfl ?_
                        refine z_i2l (gi I 58 ((tp).toNat)) C dX10_go_298 (i2l_iv (gi_rng _ _ _)) ?_
                        refine z_ladd C dX10_go_299 ?_
                        refine z_ldc2 C dX10_go_300 kX10_131 ?_
                        refine z_lsub C dX10_go_303 ?_
                        refine z_putJ C dX10_go_304 fX10_118 rfl rfl (kd_57 hS) rfl rfl ?_
                        refine z_aload_n C dX10_go_307 0 rfl ?_
                        refine z_getI C dX10_go_308 fX10_96 rfl (kd_57 hS) ?_
                        refine z_eqi (tp) (gi_wi_eq (x := tp) _ _ _ (by omega)) ?_
                        refine z_aload_n C dX10_go_311 0 rfl ?_
                        refine z_getI C dX10_go_312 fX10_99 rfl (kd_57 hS) ?_
                        refine z_eqi (to) (Eq.trans (gi_wi_nk _ _ _ (by decide)) (Eq.trans (gi_wi_nk _ _ _ (by decide)) (Eq.trans (gi_wi_nk _ _ _ (by decide)) (gi_wi_eq (x := to) _ _ _ (by omega))))) ?_
                        refine z_isub C dX10_go_315 ?_
                        refine z_iconst C dX10_go_316 ?_
                        refine z_icmp_ge 337 C dX10_go_317 (by decide) (by omega) (by decide) (fun h51 => ?_) (fun h51 => ?_)
                        ·
                          refine z_aload_n C dX10_go_337 0 rfl ?_
                          refine z_dup C dX10_go_338 rfl ?_
                          refine z_getI C dX10_go_339 fX10_96 rfl (kd_57 hS) ?_
                          refine z_eqi (tp) (gi_wi_eq (x := tp) _ _ _ (by omega)) ?_
                          refine z_iconst C dX10_go_342 ?_
                          refine z_iadd C dX10_go_343 ?_
                          refine z_putI C dX10_go_344 fX10_96 rfl rfl (kd_57 hS) rfl rfl ?_
                          refine z_goto 215 C dX10_go_347 (by decide) ?_
                          refine z_eqM (sh, (wi (wi (wi (wi (wi I 57 5 to) 57 6 to) 57 8 0) 57 8 nm) 57 5 (tp + 1)), (wj (wj J 57 12 0) 57 12 (w64 (((27 * wd) + (gi I 58 ((tp).toNat))) - 96)))) (memEq (by funext a k; simp only [wi, up2_ap]; exact Decidable.byCases (p := a = 57 ∧ k = 5) (fun c0 => by obtain ⟨rfl, rfl⟩ := c0; simp [iv_w32, iv_gi]) (fun c0 => by exact Decidable.byCases (p := a = 57 ∧ k = 8) (fun c1 => by obtain ⟨rfl, rfl⟩ := c1; simp [iv_w32, iv_gi]) (fun c1 => by exact Decidable.byCases (p := a = 57 ∧ k = 6) (fun c2 => by obtain ⟨rfl, rfl⟩ := c2; simp [iv_w32, iv_gi]) (fun c2 => by simp only [if_neg c0, if_neg c1, if_neg c2])))) (by funext a k; simp only [wj, up2_ap]; exact Decidable.byCases (p := a = 57 ∧ k = 12) (fun c0 => by obtain ⟨rfl, rfl⟩ := c0; simp [jv_w64, jv_gj]) (fun c0 => by simp only [if_neg c0]))) ?_
                          refine z_drop (lv' := [(0, .ref (G.2.2 + 57)), (1, .int (iv (gi I 58 ((to).toNat)))), (2, .int (iv (b2 (97 ≤ (gi I 58 ((to).toNat)) ∧ (gi I 58 ((to).toNat)) ≤ 122)))), (3, .int (iv (0)))]) [0, 1, 2, 3] rfl ?_
                          exact ih15 (tp + 1) 0 (w64 (((27 * wd) + (gi I 58 ((tp).toNat))) - 96)) nm (by omega) (by simp) (by first | exact hnm | exact w32_rng _) (by first | exact hwd | exact w64_rng _) (wh_back hi16 (decide_eq_true (by omega)) (by simp only [goF2, if_neg h31, if_pos h43, if_neg h44, if_neg h48, if_neg h49, if_pos h51])) (by omega)
                        ·
                          refine z_aload_n C dX10_go_320 0 rfl ?_
                          refine z_bipush C dX10_go_321 (by decide) ?_
                          refine z_aload_n C dX10_go_323 0 rfl ?_
                          refine z_getI C dX10_go_324 fX10_122 rfl (kd_57 hS) ?_
                          refine z_eqi (nm) (Eq.trans (gi_wi_nk _ _ _ (by decide)) (gi_wi_eq (x := nm) _ _ _ (by omega))) ?_
                          refine z_imul C dX10_go_327 ?_
                          refine z_iload C dX10_go_328 4 rfl ?_
                          refine z_iadd C dX10_go_330 ?_
                          refine z_bipush C dX10_go_331 (by decide) ?_
                          refine z_isub C dX10_go_333 ?_
                          refine z_putI C dX10_go_334 fX10_122 rfl rfl (kd_57 hS) rfl rfl ?_
                          refine z_aload_n C dX10_go_337 0 rfl ?_
                          refine z_dup C dX10_go_338 rfl ?_
                          refine z_getI C dX10_go_339 fX10_96 rfl (kd_57 hS) ?_
                          refine z_eqi (tp) (Eq.trans (gi_wi_nk _ _ _ (by decide)) (gi_wi_eq (x := tp) _ _ _ (by omega))) ?_
                          refine z_iconst C dX10_go_342 ?_
                          refine z_iadd C dX10_go_343 ?_
                          refine z_putI C dX10_go_344 fX10_96 rfl rfl (kd_57 hS) rfl rfl ?_
                          refine z_goto 215 C dX10_go_347 (by decide) ?_
                          refine z_eqM (sh, (wi (wi (wi (wi (wi I 57 5 to) 57 6 to) 57 8 0) 57 8 (w32 (((10 * nm) + (gi I 58 ((tp).toNat))) - 48))) 57 5 (tp + 1)), (wj (wj J 57 12 0) 57 12 (w64 (((27 * wd) + (gi I 58 ((tp).toNat))) - 96)))) (memEq (by funext a k; simp only [wi, up2_ap]; exact Decidable.byCases (p := a = 57 ∧ k = 5) (fun c0 => by obtain ⟨rfl, rfl⟩ := c0; simp [iv_w32, iv_gi]) (fun c0 => by exact Decidable.byCases (p := a = 57 ∧ k = 8) (fun c1 => by obtain ⟨rfl, rfl⟩ := c1; simp [iv_w32, iv_gi]) (fun c1 => by exact Decidable.byCases (p := a = 57 ∧ k = 6) (fun c2 => by obtain ⟨rfl, rfl⟩ := c2; simp [iv_w32, iv_gi]) (fun c2 => by simp only [if_neg c0, if_neg c1, if_neg c2])))) (by funext a k; simp only [wj, up2_ap]; exact Decidable.byCases (p := a = 57 ∧ k = 12) (fun c0 => by obtain ⟨rfl, rfl⟩ := c0; simp [jv_w64, jv_gj]) (fun c0 => by simp only [if_neg c0]))) ?_
                          refine z_drop (lv' := [(0, .ref (G.2.2 + 57)), (1, .int (iv (gi I 58 ((to).toNat)))), (2, .int (iv (b2 (97 ≤ (gi I 58 ((to).toNat)) ∧ (gi I 58 ((to).toNat)) ≤ 122)))), (3, .int (iv (0)))]) [0, 1, 2, 3] rfl ?_
                          exact ih15 (tp + 1) 0 (w64 (((27 * wd) + (gi I 58 ((tp).toNat))) - 96)) (w32 (((10 * nm) + (gi I 58 ((tp).toNat))) - 48)) (by omega) (by simp) (by first | exact hnm | exact w32_rng _) (by first | exact hwd | exact w64_rng _) (wh_back hi16 (decide_eq_true (by omega)) (by simp only [goF2, if_neg h31, if_pos h43, if_neg h44, if_neg h48, if_neg h49, if_neg h51])) (by omega)
                    ·
                      refine z_iconst C dX10_go_267 ?_
                      refine z_goto 272 C dX10_go_268 (by decide) ?_
                      refine z_istore_n (lv' := [(0, .ref (G.2.2 + 57)), (1, .int (iv (gi I 58 ((to).toNat)))), (2, .int (iv (b2 (97 ≤ (gi I 58 ((to).toNat)) ∧ (gi I 58 ((to).toNat)) ≤ 122)))), (3, .int (iv (1))), (4, .int (iv (gi I 58 ((tp).toNat))))]) C dX10_go_272 rfl (by decide) [1, 2, 3, 0, 4] rfl ?_
                      refine z_aload_n C dX10_go_273 0 rfl ?_
                      refine z_getI C dX10_go_274 fX10_96 rfl (kd_57 hS) ?_
                      refine z_eqi (tp) (gi_wi_eq (x := tp) _ _ _ (by omega)) ?_
                      refine z_aload_n C dX10_go_277 0 rfl ?_
                      refine z_getI C dX10_go_278 fX10_99 rfl (kd_57 hS) ?_
                      refine z_eqi (to) (Eq.trans (gi_wi_nk _ _ _ (by decide)) (Eq.trans (gi_wi_nk _ _ _ (by decide)) (Eq.trans (gi_wi_nk _ _ _ (by decide)) (gi_wi_eq (x := to) _ _ _ (by omega))))) ?_
                      refine z_isub C dX10_go_281 ?_
                      refine z_bipush C dX10_go_282 (by decide) ?_
                      refine z_icmp_ge 307 C dX10_go_284 (by decide) (by omega) (by decide) (fun h52 => ?_) (fun h52 => ?_)
                      ·
                        refine z_aload_n C dX10_go_307 0 rfl ?_
                        refine z_getI C dX10_go_308 fX10_96 rfl (kd_57 hS) ?_
                        refine z_eqi (tp) (gi_wi_eq (x := tp) _ _ _ (by omega)) ?_
                        refine z_aload_n C dX10_go_311 0 rfl ?_
                        refine z_getI C dX10_go_312 fX10_99 rfl (kd_57 hS) ?_
                        refine z_eqi (to) (Eq.trans (gi_wi_nk _ _ _ (by decide)) (Eq.trans (gi_wi_nk _ _ _ (by decide)) (Eq.trans (gi_wi_nk _ _ _ (by decide)) (gi_wi_eq (x := to) _ _ _ (by omega))))) ?_
                        refine z_isub C dX10_go_315 ?_
                        refine z_iconst C dX10_go_316 ?_
                        refine z_icmp_ge 337 C dX10_go_317 (by decide) (by omega) (by decide) (fun h53 => ?_) (fun h53 => ?_)
                        ·
                          refine z_aload_n C dX10_go_337 0 rfl ?_
                          refine z_dup C dX10_go_338 rfl ?_
                          refine z_getI C dX10_go_339 fX10_96 rfl (kd_57 hS) ?_
                          refine z_eqi (tp) (gi_wi_eq (x := tp) _ _ _ (by omega)) ?_
                          refine z_iconst C dX10_go_342 ?_
                          refine z_iadd C dX10_go_343 ?_
                          refine z_putI C dX10_go_344 fX10_96 rfl rfl (kd_57 hS) rfl rfl ?_
                          refine z_goto 215 C dX10_go_347 (by decide) ?_
                          refine z_eqM (sh, (wi (wi (wi (wi (wi I 57 5 to) 57 6 to) 57 8 0) 57 8 nm) 57 5 (tp + 1)), (wj (wj J 57 12 0) 57 12 wd)) (memEq (by funext a k; simp only [wi, up2_ap]; exact Decidable.byCases (p := a = 57 ∧ k = 5) (fun c0 => by obtain ⟨rfl, rfl⟩ := c0; simp [iv_w32, iv_gi]) (fun c0 => by exact Decidable.byCases (p := a = 57 ∧ k = 8) (fun c1 => by obtain ⟨rfl, rfl⟩ := c1; simp [iv_w32, iv_gi]) (fun c1 => by exact Decidable.byCases (p := a = 57 ∧ k = 6) (fun c2 => by obtain ⟨rfl, rfl⟩ := c2; simp [iv_w32, iv_gi]) (fun c2 => by simp only [if_neg c0, if_neg c1, if_neg c2])))) (by rfl)) ?_
                          refine z_drop (lv' := [(0, .ref (G.2.2 + 57)), (1, .int (iv (gi I 58 ((to).toNat)))), (2, .int (iv (b2 (97 ≤ (gi I 58 ((to).toNat)) ∧ (gi I 58 ((to).toNat)) ≤ 122)))), (3, .int (iv (1)))]) [0, 1, 2, 3] rfl ?_
                          exact ih15 (tp + 1) 1 wd nm (by omega) (by simp) (by first | exact hnm | exact w32_rng _) (by first | exact hwd | exact w64_rng _) (wh_back hi16 (decide_eq_true (by omega)) (by simp only [goF2, if_neg h31, if_pos h43, if_neg h44, if_pos h48, if_pos h52, if_pos h53])) (by omega)
                        ·
                          refine z_aload_n C dX10_go_320 0 rfl ?_
                          refine z_bipush C dX10_go_321 (by decide) ?_
                          refine z_aload_n C dX10_go_323 0 rfl ?_
                          refine z_getI C dX10_go_324 fX10_122 rfl (kd_57 hS) ?_
                          refine z_eqi (nm) (Eq.trans (gi_wi_nk _ _ _ (by decide)) (gi_wi_eq (x := nm) _ _ _ (by omega))) ?_
                          refine z_imul C dX10_go_327 ?_
                          refine z_iload C dX10_go_328 4 rfl ?_
                          refine z_iadd C dX10_go_330 ?_
                          refine z_bipush C dX10_go_331 (by decide) ?_
                          refine z_isub C dX10_go_333 ?_
                          refine z_putI C dX10_go_334 fX10_122 rfl rfl (kd_57 hS) rfl rfl ?_
                          refine z_aload_n C dX10_go_337 0 rfl ?_
                          refine z_dup C dX10_go_338 rfl ?_
                          refine z_getI C dX10_go_339 fX10_96 rfl (kd_57 hS) ?_
                          refine z_eqi (tp) (Eq.trans (gi_wi_nk _ _ _ (by decide)) (gi_wi_eq (x := tp) _ _ _ (by omega))) ?_
                          refine z_iconst C dX10_go_342 ?_
                          refine z_iadd C dX10_go_343 ?_
                          refine z_putI C dX10_go_344 fX10_96 rfl rfl (kd_57 hS) rfl rfl ?_
                          refine z_goto 215 C dX10_go_347 (by decide) ?_
                          refine z_eqM (sh, (wi (wi (wi (wi (wi I 57 5 to) 57 6 to) 57 8 0) 57 8 (w32 (((10 * nm) + (gi I 58 ((tp).toNat))) - 48))) 57 5 (tp + 1)), (wj (wj J 57 12 0) 57 12 wd)) (memEq (by funext a k; simp only [wi, up2_ap]; exact Decidable.byCases (p := a = 57 ∧ k = 5) (fun c0 => by obtain ⟨rfl, rfl⟩ := c0; simp [iv_w32, iv_gi]) (fun c0 => by exact Decidable.byCases (p := a = 57 ∧ k = 8) (fun c1 => by obtain ⟨rfl, rfl⟩ := c1; simp [iv_w32, iv_gi]) (fun c1 => by exact Decidable.byCases (p := a = 57 ∧ k = 6) (fun c2 => by obtain ⟨rfl, rfl⟩ := c2; simp [iv_w32, iv_gi]) (fun c2 => by simp only [if_neg c0, if_neg c1, if_neg c2])))) (by rfl)) ?_
                          refine z_drop (lv' := [(0, .ref (G.2.2 + 57)), (1, .int (iv (gi I 58 ((to).toNat)))), (2, .int (iv (b2 (97 ≤ (gi I 58 ((to).toNat)) ∧ (gi I 58 ((to).toNat)) ≤ 122)))), (3, .int (iv (1)))]) [0, 1, 2, 3] rfl ?_
                          exact ih15 (tp + 1) 1 wd (w32 (((10 * nm) + (gi I 58 ((tp).toNat))) - 48)) (by omega) (by simp) (by first | exact hnm | exact w32_rng _) (by first | exact hwd | exact w64_rng _) (wh_back hi16 (decide_eq_true (by omega)) (by simp only [goF2, if_neg h31, if_pos h43, if_neg h44, if_pos h48, if_pos h52, if_neg h53])) (by omega)
                      ·
                        refine z_aload_n C dX10_go_287 0 rfl ?_
                        refine z_ldc2 C dX10_go_288 kX10_129 ?_
                        refine z_aload_n C dX10_go_291 0 rfl ?_
                        refine z_getJ C dX10_go_292 fX10_118 rfl (kd_57 hS) ?_
                        refine z_eql (wd) (gj_wj_eq (x := wd) _ _ _ (by omega)) ?_
                        refine z_lmul C dX10_go_295 ?_
                        refine z_iload C dX10_go_296 4 rfl ?_
                        refine z_i2l (gi I 58 ((tp).toNat)) C dX10_go_298 (i2l_iv (gi_rng _ _ _)) ?_
                        refine z_ladd C dX10_go_299 ?_
                        refine z_ldc2 C dX10_go_300 kX10_131 ?_
                        refine z_lsub C dX10_go_303 ?_
                        refine z_putJ C dX10_go_304 fX10_118 rfl rfl (kd_57 hS) rfl rfl ?_
                        refine z_aload_n C dX10_go_307 0 rfl ?_
                        refine z_getI C dX10_go_308 fX10_96 rfl (kd_57 hS) ?_
                        refine z_eqi (tp) (gi_wi_eq (x := tp) _ _ _ (by omega)) ?_
                        refine z_aload_n C dX10_go_311 0 rfl ?_
                        refine z_getI C dX10_go_312 fX10_99 rfl (kd_57 hS) ?_
                        refine z_eqi (to) (Eq.trans (gi_wi_nk _ _ _ (by decide)) (Eq.trans (gi_wi_nk _ _ _ (by decide)) (Eq.trans (gi_wi_nk _ _ _ (by decide)) (gi_wi_eq (x := to) _ _ _ (by omega))))) ?_
                        refine z_isub C dX10_go_315 ?_
                        refine z_iconst C dX10_go_316 ?_
                        refine z_icmp_ge 337 C dX10_go_317 (by decide) (by omega) (by decide) (fun h54 => ?_) (fun h54 => ?_)
                        ·
                          refine z_aload_n C dX10_go_337 0 rfl ?_
                          refine z_dup C dX10_go_338 rfl ?_
                          refine z_getI C dX10_go_339 fX10_96 rfl (kd_57 hS) ?_
                          refine z_eqi (tp) (gi_wi_eq (x := tp) _ _ _ (by omega)) ?_
                          refine z_iconst C dX10_go_342 ?_
                          refine z_iadd C dX10_go_343 ?_
                          refine z_putI C dX10_go_344 fX10_96 rfl rfl (kd_57 hS) rfl rfl ?_
                          refine z_goto 215 C dX10_go_347 (by decide) ?_
                          refine z_eqM (sh, (wi (wi (wi (wi (wi I 57 5 to) 57 6 to) 57 8 0) 57 8 nm) 57 5 (tp + 1)), (wj (wj J 57 12 0) 57 12 (w64 (((27 * wd) + (gi I 58 ((tp).toNat))) - 96)))) (memEq (by funext a k; simp only [wi, up2_ap]; exact Decidable.byCases (p := a = 57 ∧ k = 5) (fun c0 => by obtain ⟨rfl, rfl⟩ := c0; simp [iv_w32, iv_gi]) (fun c0 => by exact Decidable.byCases (p := a = 57 ∧ k = 8) (fun c1 => by obtain ⟨rfl, rfl⟩ := c1; simp [iv_w32, iv_gi]) (fun c1 => by exact Decidable.byCases (p := a = 57 ∧ k = 6) (fun c2 => by obtain ⟨rfl, rfl⟩ := c2; simp [iv_w32, iv_gi]) (fun c2 => by simp only [if_neg c0, if_neg c1, if_neg c2])))) (by funext a k; simp only [wj, up2_ap]; exact Decidable.byCases (p := a = 57 ∧ k = 12) (fun c0 => by obtain ⟨rfl, rfl⟩ := c0; simp [jv_w64, jv_gj]) (fun c0 => by simp only [if_neg c0]))) ?_
                          refine z_drop (lv' := [(0, .ref (G.2.2 + 57)), (1, .int (iv (gi I 58 ((to).toNat)))), (2, .int (iv (b2 (97 ≤ (gi I 58 ((to).toNat)) ∧ (gi I 58 ((to).toNat)) ≤ 122)))), (3, .int (iv (1)))]) [0, 1, 2, 3] rfl ?_
                          exact ih15 (tp + 1) 1 (w64 (((27 * wd) + (gi I 58 ((tp).toNat))) - 96)) nm (by omega) (by simp) (by first | exact hnm | exact w32_rng _) (by first | exact hwd | exact w64_rng _) (wh_back hi16 (decide_eq_true (by omega)) (by simp only [goF2, if_neg h31, if_pos h43, if_neg h44, if_pos h48, if_neg h52, if_pos h54])) (by omega)
                        ·
                          refine z_aload_n C dX10_go_320 0 rfl ?_
                          refine z_bipush C dX10_go_321 (by decide) ?_
                          refine z_aload_n C dX10_go_323 0 rfl ?_
                          refine z_getI C dX10_go_324 fX10_122 rfl (kd_57 hS) ?_
                          refine z_eqi (nm) (Eq.trans (gi_wi_nk _ _ _ (by decide)) (gi_wi_eq (x := nm) _ _ _ (by omega))) ?_
                          refine z_imul C dX10_go_327 ?_
                          refine z_iload C dX10_go_328 4 rfl ?_
                          refine z_iadd C dX10_go_330 ?_
                          refine z_bipush C dX10_go_331 (by decide) ?_
                          refine z_isub C dX10_go_333 ?_
                          refine z_putI C dX10_go_334 fX10_122 rfl rfl (kd_57 hS) rfl rfl ?_
                          refine z_aload_n C dX10_go_337 0 rfl ?_
                          refine z_dup C dX10_go_338 rfl ?_
                          refine z_getI C dX10_go_339 fX10_96 rfl (kd_57 hS) ?_
                          refine z_eqi (tp) (Eq.trans (gi_wi_nk _ _ _ (by decide)) (gi_wi_eq (x := tp) _ _ _ (by omega))) ?_
                          refine z_iconst C dX10_go_342 ?_
                          refine z_iadd C dX10_go_343 ?_
                          refine z_putI C dX10_go_344 fX10_96 rfl rfl (kd_57 hS) rfl rfl ?_
                          refine z_goto 215 C dX10_go_347 (by decide) ?_
                          refine z_eqM (sh, (wi (wi (wi (wi (wi I 57 5 to) 57 6 to) 57 8 0) 57 8 (w32 (((10 * nm) + (gi I 58 ((tp).toNat))) - 48))) 57 5 (tp + 1)), (wj (wj J 57 12 0) 57 12 (w64 (((27 * wd) + (gi I 58 ((tp).toNat))) - 96)))) (memEq (by funext a k; simp only [wi, up2_ap]; exact Decidable.byCases (p := a = 57 ∧ k = 5) (fun c0 => by obtain ⟨rfl, rfl⟩ := c0; simp [iv_w32, iv_gi]) (fun c0 => by exact Decidable.byCases (p := a = 57 ∧ k = 8) (fun c1 => by obtain ⟨rfl, rfl⟩ := c1; simp [iv_w32, iv_gi]) (fun c1 => by exact Decidable.byCases (p := a = 57 ∧ k = 6) (fun c2 => by obtain ⟨rfl, rfl⟩ := c2; simp [iv_w32, iv_gi]) (fun c2 => by simp only [if_neg c0, if_neg c1, if_neg c2])))) (by funext a k; simp only [wj, up2_ap]; exact Decidable.byCases (p := a = 57 ∧ k = 12) (fun c0 => by obtain ⟨rfl, rfl⟩ := c0; simp [jv_w64, jv_gj]) (fun c0 => by simp only [if_neg c0]))) ?_
                          refine z_drop (lv' := [(0, .ref (G.2.2 + 57)), (1, .int (iv (gi I 58 ((to).toNat)))), (2, .int (iv (b2 (97 ≤ (gi I 58 ((to).toNat)) ∧ (gi I 58 ((to).toNat)) ≤ 122)))), (3, .int (iv (1)))]) [0, 1, 2, 3] rfl ?_
                          exact ih15 (tp + 1) 1 (w64 (((27 * wd) + (gi I 58 ((tp).toNat))) - 96)) (w32 (((10 * nm) + (gi I 58 ((tp).toNat))) - 48)) (by omega) (by simp) (by first | exact hnm | exact w32_rng _) (by first | exact hwd | exact w64_rng _) (wh_back hi16 (decide_eq_true (by omega)) (by simp only [goF2, if_neg h31, if_pos h43, if_neg h44, if_pos h48, if_neg h52, if_neg h54])) (by omega)
          refine z_eqM (sh, (wi (wi (wi (wi (wi I 57 5 to) 57 6 to) 57 8 0) 57 8 0) 57 5 to), (wj (wj J 57 12 0) 57 12 0)) (memEq (by funext a k; simp only [wi, up2_ap]; exact Decidable.byCases (p := a = 57 ∧ k = 8) (fun c0 => by obtain ⟨rfl, rfl⟩ := c0; simp [iv_w32, iv_gi]) (fun c0 => by exact Decidable.byCases (p := a = 57 ∧ k = 6) (fun c1 => by obtain ⟨rfl, rfl⟩ := c1; simp [iv_w32, iv_gi]) (fun c1 => by exact Decidable.byCases (p := a = 57 ∧ k = 5) (fun c2 => by obtain ⟨rfl, rfl⟩ := c2; simp [iv_w32, iv_gi]) (fun c2 => by simp only [if_neg c0, if_neg c1, if_neg c2])))) (by funext a k; simp only [wj, up2_ap]; exact Decidable.byCases (p := a = 57 ∧ k = 12) (fun c0 => by obtain ⟨rfl, rfl⟩ := c0; simp [jv_w64, jv_gj]) (fun c0 => by simp only [if_neg c0]))) ?_
          exact hL14 _ to 1 0 0 hto (Or.inr rfl) (by decide) (by decide) rfl (Nat.lt_succ_self _)
        refine z_iload_n C dX10_go_123 1 rfl ?_
        refine z_cSi (st := []) C dX10_go_124 mX10_108 (qX10_isLetter hC (gi I 58 ((to).toNat)) (gi_rng _ _ _)) rfl rfl (Nat.le_of_ble_eq_true rfl) (by decide) ?_
        refine z_if_ne_b 198 C dX10_go_127 (by decide) (fun h55 => ?_) (fun h55 => ?_)
        ·
          exact hJ11 (by simp only [fX10_go_96, if_pos h10, if_pos h55])
        ·
          refine z_iload_n C dX10_go_130 1 rfl ?_
          refine z_cSi (st := []) C dX10_go_131 mX10_112 (qX10_isDigit hC (gi I 58 ((to).toNat)) (gi_rng _ _ _)) rfl rfl (Nat.le_of_ble_eq_true rfl) (by decide) ?_
          refine z_if_ne_b 198 C dX10_go_134 (by decide) (fun h56 => ?_) (fun h56 => ?_)
          ·
            exact hJ11 (by simp only [fX10_go_96, if_pos h10, if_neg h55, if_pos h56])
          ·
            refine z_aload_n C dX10_go_137 0 rfl ?_
            have hJ57 : fX10_go_96 to (I, J) = fX10_go_174 to (I, J) → Jz G σ p l e R s m args below meth c 5 0 0 (Qx none (sh, (fX10_go (I, J)).2.1, (fX10_go (I, J)).2.2)) (sh, (wi (wi I 57 5 to) 57 6 to), J) 0 0 174 [(0, .ref (G.2.2 + 57)), (1, .int (iv (gi I 58 ((to).toNat))))] [.ref (G.2.2 + 57)] := by
              intro hq58
              refine z_iconst C dX10_go_174 ?_
              refine z_goto 179 C dX10_go_175 (by decide) ?_
              refine z_putI C dX10_go_179 fX10_105 rfl rfl (kd_57 hS) rfl rfl ?_
              refine z_aload_n C dX10_go_182 0 rfl ?_
              refine z_iload_n C dX10_go_183 1 rfl ?_
              refine z_putI C dX10_go_184 fX10_115 rfl rfl (kd_57 hS) rfl rfl ?_
              refine z_aload_n C dX10_go_187 0 rfl ?_
              refine z_dup C dX10_go_188 rfl ?_
              refine z_getI C dX10_go_189 fX10_96 rfl (kd_57 hS) ?_
              refine z_eqi (to) (Eq.trans (gi_wi_nk _ _ _ (by decide)) (Eq.trans (gi_wi_nk _ _ _ (by decide)) (Eq.trans (gi_wi_nk _ _ _ (by decide)) (gi_wi_eq (x := to) _ _ _ (by omega))))) ?_
              refine z_iconst C dX10_go_192 ?_
              refine z_iadd C dX10_go_193 ?_
              refine z_putI C dX10_go_194 fX10_96 rfl rfl (kd_57 hS) rfl rfl ?_
              have hf59 : fX10_go (I, J) = (0, (wi (wi (wi (wi (wi I 57 5 to) 57 6 to) 57 7 4) 57 9 (gi I 58 ((to).toNat))) 57 5 (to + 1)), J) := (hq9.trans (hq58.trans (by simp only [fX10_go_174])))
              exact z_returnx C dX10_go_197 (by rw [hf59])
            refine z_iload_n C dX10_go_138 1 rfl ?_
            refine z_bipush C dX10_go_139 (by decide) ?_
            refine z_icmp_eq 174 C dX10_go_141 (by decide) (gi_rng _ _ _) (by decide) (fun h60 => ?_) (fun h60 => ?_)
            ·
              exact hJ57 (by simp only [fX10_go_96, if_pos h10, if_neg h55, if_neg h56, if_pos h60])
            ·
              refine z_iload_n C dX10_go_144 1 rfl ?_
              refine z_bipush C dX10_go_145 (by decide) ?_
              refine z_icmp_eq 174 C dX10_go_147 (by decide) (gi_rng _ _ _) (by decide) (fun h61 => ?_) (fun h61 => ?_)
              ·
                exact hJ57 (by simp only [fX10_go_96, if_pos h10, if_neg h55, if_neg h56, if_neg h60, if_pos h61])
              ·
                refine z_iload_n C dX10_go_150 1 rfl ?_
                refine z_bipush C dX10_go_151 (by decide) ?_
                refine z_icmp_eq 174 C dX10_go_153 (by decide) (gi_rng _ _ _) (by decide) (fun h62 => ?_) (fun h62 => ?_)
                ·
                  exact hJ57 (by simp only [fX10_go_96, if_pos h10, if_neg h55, if_neg h56, if_neg h60, if_neg h61, if_pos h62])
                ·
                  refine z_iload_n C dX10_go_156 1 rfl ?_
                  refine z_bipush C dX10_go_157 (by decide) ?_
                  refine z_icmp_eq 174 C dX10_go_159 (by decide) (gi_rng _ _ _) (by decide) (fun h63 => ?_) (fun h63 => ?_)
                  ·
                    exact hJ57 (by simp only [fX10_go_96, if_pos h10, if_neg h55, if_neg h56, if_neg h60, if_neg h61, if_neg h62, if_pos h63])
                  ·
                    refine z_iload_n C dX10_go_162 1 rfl ?_
                    refine z_bipush C dX10_go_163 (by decide) ?_
                    refine z_icmp_eq 174 C dX10_go_165 (by decide) (gi_rng _ _ _) (by decide) (fun h64 => ?_) (fun h64 => ?_)
                    ·
                      exact hJ57 (by simp only [fX10_go_96, if_pos h10, if_neg h55, if_neg h56, if_neg h60, if_neg h61, if_neg h62, if_neg h63, if_pos h64])
                    ·
                      refine z_iload_n C dX10_go_168 1 rfl ?_
                      refine z_bipush C dX10_go_169 (by decide) ?_
                      refine z_icmp_ne 178 C dX10_go_171 (by decide) (gi_rng _ _ _) (by decide) (fun h65 => ?_) (fun h65 => ?_)
                      ·
                        refine z_iconst C dX10_go_178 ?_
                        refine z_putI C dX10_go_179 fX10_105 rfl rfl (kd_57 hS) rfl rfl ?_
                        refine z_aload_n C dX10_go_182 0 rfl ?_
                        refine z_iload_n C dX10_go_183 1 rfl ?_
                        refine z_putI C dX10_go_184 fX10_115 rfl rfl (kd_57 hS) rfl rfl ?_
                        refine z_aload_n C dX10_go_187 0 rfl ?_
                        refine z_dup C dX10_go_188 rfl ?_
                        refine z_getI C dX10_go_189 fX10_96 rfl (kd_57 hS) ?_
                        refine z_eqi (to) (Eq.trans (gi_wi_nk _ _ _ (by decide)) (Eq.trans (gi_wi_nk _ _ _ (by decide)) (Eq.trans (gi_wi_nk _ _ _ (by decide)) (gi_wi_eq (x := to) _ _ _ (by omega))))) ?_
                        refine z_iconst C dX10_go_192 ?_
                        refine z_iadd C dX10_go_193 ?_
                        refine z_putI C dX10_go_194 fX10_96 rfl rfl (kd_57 hS) rfl rfl ?_
                        have hf66 : fX10_go (I, J) = (0, (wi (wi (wi (wi (wi I 57 5 to) 57 6 to) 57 7 1) 57 9 (gi I 58 ((to).toNat))) 57 5 (to + 1)), J) := (hq9.trans (by simp only [fX10_go_96, if_pos h10, if_neg h55, if_neg h56, if_neg h60, if_neg h61, if_neg h62, if_neg h63, if_neg h64, if_neg h65]))
                        exact z_returnx C dX10_go_197 (by rw [hf66])
                      ·
                        exact hJ57 (by simp only [fX10_go_96, if_pos h10, if_neg h55, if_neg h56, if_neg h60, if_neg h61, if_neg h62, if_neg h63, if_neg h64, if_pos h65])
      ·
        refine z_aload_n C dX10_go_107 0 rfl ?_
        refine z_iconst C dX10_go_108 ?_
        refine z_putI C dX10_go_109 fX10_105 rfl rfl (kd_57 hS) rfl rfl ?_
        have hf67 : fX10_go (I, J) = (0, (wi (wi (wi I 57 5 to) 57 6 to) 57 7 0), J) := (hq9.trans (by simp only [fX10_go_96, if_neg h10]))
        exact z_returnx C dX10_go_112 (by rw [hf67])
    refine z_aload_n C dX10_go_60 0 rfl ?_
    refine z_getI C dX10_go_61 fX10_93 rfl (kd_57 hS) ?_
    refine z_eqi (gi I 57 3) (Eq.trans (gi_wi_nk _ _ _ (by decide)) (gi_wi_nk _ _ _ (by decide))) ?_
    refine z_aload_n C dX10_go_64 0 rfl ?_
    refine z_getI C dX10_go_65 fX10_102 rfl (kd_57 hS) ?_
    refine z_eqi (gi I 57 4) (Eq.trans (gi_wi_nk _ _ _ (by decide)) (gi_wi_nk _ _ _ (by decide))) ?_
    refine z_icmp_le 96 C dX10_go_68 (by decide) (gi_rng _ _ _) (gi_rng _ _ _) (fun h68 => ?_) (fun h68 => ?_)
    ·
      exact hJ8 (by simp only [fX10_go, hx6, if_pos h68])
    ·
      refine z_aload_n C dX10_go_71 0 rfl ?_
      refine z_getI C dX10_go_72 fX10_99 rfl (kd_57 hS) ?_
      refine z_eqi (to) (gi_wi_eq (x := to) _ _ _ (by omega)) ?_
      refine z_aload_n C dX10_go_75 0 rfl ?_
      refine z_getI C dX10_go_76 fX10_102 rfl (kd_57 hS) ?_
      refine z_eqi (gi I 57 4) (Eq.trans (gi_wi_nk _ _ _ (by decide)) (gi_wi_nk _ _ _ (by decide))) ?_
      refine z_icmp_lt 96 C dX10_go_79 (by decide) (by omega) (gi_rng _ _ _) (fun h69 => ?_) (fun h69 => ?_)
      ·
        exact hJ8 (by simp only [fX10_go, hx6, if_neg h68, if_pos h69])
      ·
        refine z_aload_n C dX10_go_82 0 rfl ?_
        refine z_aload_n C dX10_go_83 0 rfl ?_
        refine z_getI C dX10_go_84 fX10_102 rfl (kd_57 hS) ?_
        refine z_eqi (gi I 57 4) (Eq.trans (gi_wi_nk _ _ _ (by decide)) (gi_wi_nk _ _ _ (by decide))) ?_
        refine z_putI C dX10_go_87 fX10_99 rfl rfl (kd_57 hS) rfl rfl ?_
        refine z_aload_n C dX10_go_90 0 rfl ?_
        refine z_iconst C dX10_go_91 ?_
        refine z_putI C dX10_go_92 fX10_105 rfl rfl (kd_57 hS) rfl rfl ?_
        have hf70 : fX10_go (I, J) = (0, (wi (wi (wi (wi I 57 5 to) 57 6 to) 57 6 (gi I 57 4)) 57 7 1), J) := (by simp only [fX10_go, hx6, if_neg h68, if_neg h69])
        exact z_returnx C dX10_go_95 (by rw [hf70])
  have hL2 : ∀ (N1 : Nat) (to : Int), (0 ≤ to ∧ to ≤ gi I 57 3) → wh (goC1 I) goF1 N1 to = wh (goC1 I) goF1 ((gi I 57 3 - (gi I 57 5)).toNat + 1) (gi I 57 5) → (gi I 57 3 - to).toNat < N1 → Jz G σ p l e R s m args below meth c 5 0 0 (Qx none (sh, (fX10_go (I, J)).2.1, (fX10_go (I, J)).2.2)) (sh, (wi I 57 5 to), J) 0 0 0 [(0, .ref (G.2.2 + 57))] [] := by
    intro N1
    induction N1 with
    | zero => intro to hto hi4 hm; exact absurd hm (Nat.not_lt_zero _)
    | succ N1 ih3 =>
      intro to hto hi4 hm
      refine z_aload_n C dX10_go_0 0 rfl ?_
      refine z_getI C dX10_go_1 fX10_96 rfl (kd_57 hS) ?_
      refine z_eqi (to) (gi_wi_eq (x := to) _ _ _ (by omega)) ?_
      refine z_aload_n C dX10_go_4 0 rfl ?_
      refine z_getI C dX10_go_5 fX10_93 rfl (kd_57 hS) ?_
      refine z_eqi (gi I 57 3) (gi_wi_nk _ _ _ (by decide)) ?_
      refine z_icmp_ge 52 C dX10_go_8 (by decide) (by omega) (gi_rng _ _ _) (fun h71 => ?_) (fun h71 => ?_)
      ·
        exact hE5 to hto (wh_exit hi4 (decide_eq_false (by omega)))
      ·
        refine z_aload_n C dX10_go_11 0 rfl ?_
        refine z_getR C dX10_go_12 fX10_7 rfl (kd_57 hS) (r_57_1 hS) ?_
        refine z_aload_n C dX10_go_15 0 rfl ?_
        refine z_getI C dX10_go_16 fX10_96 rfl (kd_57 hS) ?_
        refine z_eqi (to) (gi_wi_eq (x := to) _ _ _ (by omega)) ?_
        refine z_iald (q := (to).toNat) C dX10_go_19 (ka_58 hS) (by omega) (by omega) ?_
        refine z_eqi (gi I 58 ((to).toNat)) (gi_wi_na _ _ _ _ (by decide)) ?_
        refine z_bipush C dX10_go_20 (by decide) ?_
        refine z_icmp_eq 39 C dX10_go_22 (by decide) (gi_rng _ _ _) (by decide) (fun h72 => ?_) (fun h72 => ?_)
        ·
          refine z_aload_n C dX10_go_39 0 rfl ?_
          refine z_dup C dX10_go_40 rfl ?_
          refine z_getI C dX10_go_41 fX10_96 rfl (kd_57 hS) ?_
          refine z_eqi (to) (gi_wi_eq (x := to) _ _ _ (by omega)) ?_
          refine z_iconst C dX10_go_44 ?_
          refine z_iadd C dX10_go_45 ?_
          refine z_putI C dX10_go_46 fX10_96 rfl rfl (kd_57 hS) rfl rfl ?_
          refine z_goto 0 C dX10_go_49 (by decide) ?_
          refine z_eqM (sh, (wi I 57 5 (to + 1)), J) (memEq (by funext a k; simp only [wi, up2_ap]; exact Decidable.byCases (p := a = 57 ∧ k = 5) (fun c0 => by obtain ⟨rfl, rfl⟩ := c0; simp [iv_w32, iv_gi]) (fun c0 => by simp only [if_neg c0])) (by rfl)) ?_
          exact ih3 (to + 1) (by omega) (wh_back hi4 (decide_eq_true (by omega)) rfl) (by omega)
        ·
          refine z_aload_n C dX10_go_25 0 rfl ?_
          refine z_getR C dX10_go_26 fX10_7 rfl (kd_57 hS) (r_57_1 hS) ?_
          refine z_aload_n C dX10_go_29 0 rfl ?_
          refine z_getI C dX10_go_30 fX10_96 rfl (kd_57 hS) ?_
          refine z_eqi (to) (gi_wi_eq (x := to) _ _ _ (by omega)) ?_
          refine z_iald (q := (to).toNat) C dX10_go_33 (ka_58 hS) (by omega) (by omega) ?_
          refine z_eqi (gi I 58 ((to).toNat)) (gi_wi_na _ _ _ _ (by decide)) ?_
          refine z_bipush C dX10_go_34 (by decide) ?_
          refine z_icmp_ne 52 C dX10_go_36 (by decide) (gi_rng _ _ _) (by decide) (fun h73 => ?_) (fun h73 => ?_)
          ·
            exact hE5 to hto (wh_exit hi4 (decide_eq_false (by omega)))
          ·
            refine z_aload_n C dX10_go_39 0 rfl ?_
            refine z_dup C dX10_go_40 rfl ?_
            refine z_getI C dX10_go_41 fX10_96 rfl (kd_57 hS) ?_
            refine z_eqi (to) (gi_wi_eq (x := to) _ _ _ (by omega)) ?_
            refine z_iconst C dX10_go_44 ?_
            refine z_iadd C dX10_go_45 ?_
            refine z_putI C dX10_go_46 fX10_96 rfl rfl (kd_57 hS) rfl rfl ?_
            refine z_goto 0 C dX10_go_49 (by decide) ?_
            refine z_eqM (sh, (wi I 57 5 (to + 1)), J) (memEq (by funext a k; simp only [wi, up2_ap]; exact Decidable.byCases (p := a = 57 ∧ k = 5) (fun c0 => by obtain ⟨rfl, rfl⟩ := c0; simp [iv_w32, iv_gi]) (fun c0 => by simp only [if_neg c0])) (by rfl)) ?_
            exact ih3 (to + 1) (by omega) (wh_back hi4 (decide_eq_true (by omega)) rfl) (by omega)
  refine z_eqM (sh, (wi I 57 5 (gi I 57 5)), J) (memEq (by funext a k; simp only [wi, up2_ap]; exact Decidable.byCases (p := a = 57 ∧ k = 5) (fun c0 => by obtain ⟨rfl, rfl⟩ := c0; simp [iv_w32, iv_gi]) (fun c0 => by simp only [if_neg c0])) (by rfl)) ?_
  exact hL2 _ (gi I 57 5) ht rfl (Nat.lt_succ_self _)

theorem wh_inv {α : Type} {c : α → Bool} {f : α → α} {P : α → Prop} (hs : ∀ x, P x → c x = true → P (f x)) : ∀ (n : Nat) (x : α), P x → P (wh c f n x) := by
  intro n
  induction n with
  | zero => intro x h; exact h
  | succ n ih =>
    intro x h
    by_cases hc : c x = true
    · rw [wh_t hc]; exact ih _ (hs x h hc)
    · rw [wh_f (by simpa using hc)]; exact h
theorem LX_w {I : Mi} (hl : LX I) {k : Nat} (hk : k ≠ 3 ∧ k ≠ 5 ∧ k ≠ 24) (v : Int) : LX (wi I 57 k v) := by
  have h3 : gi (wi I 57 k v) 57 3 = gi I 57 3 := gi_wi_nk _ _ _ (Ne.symm hk.1)
  have h5 : gi (wi I 57 k v) 57 5 = gi I 57 5 := gi_wi_nk _ _ _ (Ne.symm hk.2.1)
  have h24 : gi (wi I 57 k v) 57 24 = gi I 57 24 := gi_wi_nk _ _ _ (Ne.symm hk.2.2)
  unfold LX at hl ⊢
  rw [h3, h5, h24, gi_wi_na _ _ _ _ (show 60 ≠ 57 by decide), gi_wi_na _ _ _ _ (show 60 ≠ 57 by decide), gi_wi_na _ _ _ _ (show 59 ≠ 57 by decide)]
  exact hl
theorem LX_5 {I : Mi} (hl : LX I) {v : Int} (hv : 0 ≤ v ∧ v ≤ gi I 57 3) : LX (wi I 57 5 v) := by
  have hl' := hl
  unfold LX at hl' 
  have h3 : gi (wi I 57 5 v) 57 3 = gi I 57 3 := gi_wi_nk _ _ _ (by decide)
  have h5 : gi (wi I 57 5 v) 57 5 = v := gi_wi_eq _ _ _ (by omega)
  have h24 : gi (wi I 57 5 v) 57 24 = gi I 57 24 := gi_wi_nk _ _ _ (by decide)
  unfold LX
  rw [h3, h5, h24, gi_wi_na _ _ _ _ (show 60 ≠ 57 by decide), gi_wi_na _ _ _ _ (show 60 ≠ 57 by decide), gi_wi_na _ _ _ _ (show 59 ≠ 57 by decide)]
  omega
theorem okX10_bad {k : Int} {I : Mi} {J : Mj} {r0 : Bool} {I0 : Mi} {J0 : Mj} (h : fX10_bad k (I, J) = (r0, I0, J0)) (hl : LX I) : LX I0 := by
  unfold fX10_bad at h
  simp only at h
  split at h <;> (simp only [Prod.mk.injEq] at h; obtain ⟨-, hI, -⟩ := h; rw [← hI]; exact LX_w (LX_w hl (by decide) _) (by decide) _)
theorem goW1 {I : Mi} (hl : LX I) (n : Nat) : 0 ≤ wh (goC1 I) goF1 n (gi I 57 5) ∧ wh (goC1 I) goF1 n (gi I 57 5) ≤ gi I 57 3 := by
  refine wh_inv (P := fun to => 0 ≤ to ∧ to ≤ gi I 57 3) (fun x h hc => ?_) n _ ⟨hl.2.2.1, hl.2.2.2.1⟩
  have := of_decide_eq_true hc
  show 0 ≤ x + 1 ∧ x + 1 ≤ _
  omega
theorem goW2 {I : Mi} {fm lt to : Int} (ht : 0 ≤ to ∧ to ≤ gi I 57 3) (n : Nat) : 0 ≤ (wh (goC2 I) (goF2 I fm lt) n (to, 1, 0, 0)).1 ∧ (wh (goC2 I) (goF2 I fm lt) n (to, 1, 0, 0)).1 ≤ gi I 57 3 := by
  refine wh_inv (P := fun s : Int × Int × Int × Int => 0 ≤ s.1 ∧ s.1 ≤ gi I 57 3) (fun x h hc => ?_) n _ ht
  obtain ⟨tp, g, wd, nm⟩ := x
  have := of_decide_eq_true hc
  have h2 := bA_lt (I := I) (v := tp) (by omega)
  show 0 ≤ tp + 1 ∧ tp + 1 ≤ _
  have h3 : 0 ≤ tp ∧ tp ≤ gi I 57 3 := h
  omega
theorem okX10_go_198 {to : Int} {I : Mi} {J : Mj} {r0 : Int} {I0 : Mi} {J0 : Mj} (h : fX10_go_198 to (I, J) = (r0, I0, J0)) (hl : LX I) (ht : 0 ≤ to ∧ to ≤ gi I 57 3) : LX I0 := by
  unfold fX10_go_198 at h
  simp only at h
  have hw := goW2 (fm := to) (lt := b2 (97 ≤ gi I 58 to.toNat ∧ gi I 58 to.toNat ≤ 122)) ht ((gi I 57 3 - to).toNat + 1)
  generalize wh (goC2 I) (goF2 I to (b2 (97 ≤ gi I 58 to.toNat ∧ gi I 58 to.toNat ≤ 122))) ((gi I 57 3 - to).toNat + 1) (to, 1, 0, 0) = q at h hw
  obtain ⟨tp, g, wd, nm⟩ := q
  simp only at h hw
  have e3 : ∀ a b c : Int, gi (wi (wi (wi (wi I 57 5 to) 57 6 a) 57 8 b) 57 8 c) 57 3 = gi I 57 3 := fun a b c => by
    rw [gi_wi_nk _ _ _ (by decide), gi_wi_nk _ _ _ (by decide), gi_wi_nk _ _ _ (by decide), gi_wi_nk _ _ _ (by decide)]
  have key : ∀ v : Int, LX (wi (wi (wi (wi (wi (wi I 57 5 to) 57 6 to) 57 8 0) 57 8 nm) 57 5 tp) 57 7 v) := fun v => LX_w (LX_5 (LX_w (LX_w (LX_w (LX_5 hl ht) (by decide) _) (by decide) _) (by decide) _) (by rw [e3]; exact hw)) (by decide) _
  repeat' split at h
  all_goals (simp only [Prod.mk.injEq] at h; obtain ⟨-, hI, -⟩ := h; rw [← hI]; exact key _)
theorem okX10_go_174 {to : Int} {I : Mi} {J : Mj} {r0 : Int} {I0 : Mi} {J0 : Mj} (h : fX10_go_174 to (I, J) = (r0, I0, J0)) (hl : LX I) (ht : 0 ≤ to ∧ to < gi I 57 3) : LX I0 := by
  unfold fX10_go_174 at h
  simp only [Prod.mk.injEq] at h
  obtain ⟨-, hI, -⟩ := h
  rw [← hI]
  have e3 : ∀ a b c : Int, gi (wi (wi (wi (wi I 57 5 to) 57 6 a) 57 7 b) 57 9 c) 57 3 = gi I 57 3 := fun a b c => by
    rw [gi_wi_nk _ _ _ (by decide), gi_wi_nk _ _ _ (by decide), gi_wi_nk _ _ _ (by decide), gi_wi_nk _ _ _ (by decide)]
  exact LX_5 (LX_w (LX_w (LX_w (LX_5 hl ⟨ht.1, Int.le_of_lt ht.2⟩) (by decide) _) (by decide) _) (by decide) _) (by rw [e3]; omega)
theorem okX10_go_96 {to : Int} {I : Mi} {J : Mj} {r0 : Int} {I0 : Mi} {J0 : Mj} (h : fX10_go_96 to (I, J) = (r0, I0, J0)) (hl : LX I) (ht : 0 ≤ to ∧ to ≤ gi I 57 3) : LX I0 := by
  have e3 : ∀ a b c : Int, gi (wi (wi (wi (wi I 57 5 to) 57 6 a) 57 7 b) 57 9 c) 57 3 = gi I 57 3 := fun a b c => by
    rw [gi_wi_nk _ _ _ (by decide), gi_wi_nk _ _ _ (by decide), gi_wi_nk _ _ _ (by decide), gi_wi_nk _ _ _ (by decide)]
  unfold fX10_go_96 at h
  simp only at h
  repeat' split at h
  all_goals first
    | exact okX10_go_198 h hl ht
    | exact okX10_go_174 h hl (by omega)
    | (simp only [Prod.mk.injEq] at h; obtain ⟨-, hI, -⟩ := h; rw [← hI]; exact LX_w (LX_w (LX_5 hl ht) (by decide) _) (by decide) _)
    | (simp only [Prod.mk.injEq] at h; obtain ⟨-, hI, -⟩ := h; rw [← hI]; exact LX_5 (LX_w (LX_w (LX_w (LX_5 hl ht) (by decide) _) (by decide) _) (by decide) _) (by rw [e3]; omega))
theorem okX10_go {I : Mi} {J : Mj} {r0 : Int} {I0 : Mi} {J0 : Mj} (h : fX10_go (I, J) = (r0, I0, J0)) (hl : LX I) : LX I0 := by
  unfold fX10_go at h
  simp only at h
  have hw := goW1 hl ((gi I 57 3 - gi I 57 5).toNat + 1)
  generalize wh (goC1 I) goF1 ((gi I 57 3 - gi I 57 5).toNat + 1) (gi I 57 5) = to at h hw
  repeat' split at h
  all_goals first
    | exact okX10_go_96 h hl hw
    | (simp only [Prod.mk.injEq] at h; obtain ⟨-, hI, -⟩ := h; rw [← hI]; exact LX_w (LX_w (LX_w (LX_5 hl hw) (by decide) _) (by decide) _) (by decide) _)

