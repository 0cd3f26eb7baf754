def Qp (v : Option Value) (M : Mm) (P : Prop) : Option Value → Mm → Prop := fun v1 M1 => v1 = v ∧ M1 = M ∧ P
section RWC
variable {G : Gx} {σ : State} {p : Program} {l : Launch} {e : Env} {R : Room} {s : State} {m : MethodId} {args : Array Value} {below : List Frame} {meth : Method} {c : Code} {y : MethodName} {cc : ByteArray} {nL : Nat} {ret : Option FieldType} {d mc ms : Nat} {Q : Option Value → Mm → Prop} {sh : Sh} {I : Mi} {Jm : Mj} {M M' : Mm} {k n pc : Nat} {lv : List (Nat × Value)} {st st0 : List Value} {i ci j id : Nat}
theorem z_zreturnp {v r : Int} {P : Prop} (C : Bx G σ p R s m args meth c y cc nL (some .boolean) d mc ms) (hd : decode cc pc = .ok (.ireturn, 1)) (hz : narrow .boolean (.int (iv v)) = .int (iv v)) (hv0 : v = r) (hM : M = M') (hP : P) (hk : k ≤ mc := by omega) (hn : n ≤ ms := by omega) : Jz G σ p l e R s m args below meth c nL mc ms (Qp (some (.int (iv r))) M' P) M k n pc lv [.int (iv v)] := z_zreturn C hd hz hk hn ⟨by rw [hv0], hM, hP⟩
theorem z_cVibP {y2 : MethodName} {cc2 : ByteArray} {nL2 na d2 : Nat} {ret2 : Option FieldType} {As : List Value} {F : Bool × Mi × Mj} {P : Bool → Mi → Mj → Prop} (C : Bx G σ p R s m args meth c y cc nL ret d mc ms) (hd : decode cc pc = .ok (.invokevirtual i, 3)) (hL : MlV y.cls i ci y2 cc2 nL2 ret2 na) (hk : Kd M id ci) (hM : Ct G σ d2 y2 cc2 nL2 ret2 (.ref (G.2.2 + id) :: As) M 0 0 (Qp (some (.int (iv (b2 (F.1 = true))))) (sh, F.2.1, F.2.2) (P F.1 F.2.1 F.2.2))) (hn : As.length = na) (hst : st0 = As.reverse ++ .ref (G.2.2 + id) :: st) (hrm : (st.map fun v => v.category).sum ≤ 8) (hd2 : d2 + 1 ≤ d) (kk : ∀ (r : Bool) (I1 : Mi) (J1 : Mj), F = (r, I1, J1) → P r I1 J1 → Jz G σ p l e R s m args below meth c nL mc ms Q (sh, I1, J1) k n (pc + 3) lv (.int (iv (b2 (r = true))) :: st)) (hmc : k ≤ mc := by omega) (hms : n ≤ ms := by omega) : Jz G σ p l e R s m args below meth c nL mc ms Q M k n pc lv st0 := z_callV C hd hL hk hM hn hst hrm hd2 hmc hms (fun v M1 h => by obtain ⟨rfl, rfl, hP⟩ := h; exact kk F.1 F.2.1 F.2.2 rfl hP)
end RWC
def PR0 (I : Mi) (J : Mj) (r0 : Bool) (I0 : Mi) (J0 : Mj) : Prop := (∀ aq kq : Nat, aq ≠ 79 ∧ ¬ (aq = 57 ∧ kq = 10) ∧ ¬ (aq = 57 ∧ kq = 11) ∧ ¬ (aq = 57 ∧ kq = 13) ∧ ¬ (aq = 57 ∧ kq = 43) ∧ ¬ (aq = 57 ∧ kq = 44) ∧ ¬ (aq = 57 ∧ kq = 45) ∧ ¬ (aq = 57 ∧ kq = 46) ∧ ¬ (aq = 57 ∧ kq = 5) ∧ ¬ (aq = 57 ∧ kq = 6) ∧ ¬ (aq = 57 ∧ kq = 7) ∧ ¬ (aq = 57 ∧ kq = 8) ∧ ¬ (aq = 57 ∧ kq = 9) → I0 aq kq = I aq kq) ∧ (∀ aq kq : Nat, ¬ (aq = 57 ∧ kq = 12) → J0 aq kq = J aq kq) ∧ LX I0 ∧ (gi I 57 44 ≤ gi I0 57 44 ∧ gi I0 57 44 ≤ 20 ∧ 0 ≤ gi I0 57 43 ∧ gi I0 57 43 ≤ 2 * gi I0 57 44 ∧ gi I0 57 45 = gi I 57 45) ∧ (r0 = true → gi I 57 44 < gi I0 57 44 ∧ gi I0 57 43 + 1 ≤ gi I 57 43 + 2 * (gi I0 57 44 - gi I 57 44))
theorem PR0.mk {I : Mi} {J : Mj} {r0 : Bool} {I0 : Mi} {J0 : Mj} (h1 : ∀ aq kq : Nat, aq ≠ 79 ∧ ¬ (aq = 57 ∧ kq = 10) ∧ ¬ (aq = 57 ∧ kq = 11) ∧ ¬ (aq = 57 ∧ kq = 13) ∧ ¬ (aq = 57 ∧ kq = 43) ∧ ¬ (aq = 57 ∧ kq = 44) ∧ ¬ (aq = 57 ∧ kq = 45) ∧ ¬ (aq = 57 ∧ kq = 46) ∧ ¬ (aq = 57 ∧ kq = 5) ∧ ¬ (aq = 57 ∧ kq = 6) ∧ ¬ (aq = 57 ∧ kq = 7) ∧ ¬ (aq = 57 ∧ kq = 8) ∧ ¬ (aq = 57 ∧ kq = 9) → I0 aq kq = I aq kq) (h2 : ∀ aq kq : Nat, ¬ (aq = 57 ∧ kq = 12) → J0 aq kq = J aq kq) (h3 : LX I0) (h4 : gi I 57 44 ≤ gi I0 57 44 ∧ gi I0 57 44 ≤ 20 ∧ 0 ≤ gi I0 57 43 ∧ gi I0 57 43 ≤ 2 * gi I0 57 44 ∧ gi I0 57 45 = gi I 57 45) (h5 : r0 = true → gi I 57 44 < gi I0 57 44 ∧ gi I0 57 43 + 1 ≤ gi I 57 43 + 2 * (gi I0 57 44 - gi I 57 44)) : PR0 I J r0 I0 J0 := ⟨h1, h2, h3, h4, h5⟩
def PR2 (I : Mi) (J : Mj) (r0 : Bool) (I0 : Mi) (J0 : Mj) : Prop := (∀ aq kq : Nat, aq ≠ 79 ∧ ¬ (aq = 57 ∧ kq = 10) ∧ ¬ (aq = 57 ∧ kq = 11) ∧ ¬ (aq = 57 ∧ kq = 13) ∧ ¬ (aq = 57 ∧ kq = 43) ∧ ¬ (aq = 57 ∧ kq = 44) ∧ ¬ (aq = 57 ∧ kq = 45) ∧ ¬ (aq = 57 ∧ kq = 46) ∧ ¬ (aq = 57 ∧ kq = 5) ∧ ¬ (aq = 57 ∧ kq = 6) ∧ ¬ (aq = 57 ∧ kq = 7) ∧ ¬ (aq = 57 ∧ kq = 8) ∧ ¬ (aq = 57 ∧ kq = 9) → I0 aq kq = I aq kq) ∧ (∀ aq kq : Nat, ¬ (aq = 57 ∧ kq = 12) → J0 aq kq = J aq kq) ∧ LX I0 ∧ (gi I 57 44 ≤ gi I0 57 44 ∧ gi I0 57 44 ≤ 20 ∧ 0 ≤ gi I0 57 43 ∧ gi I0 57 43 ≤ 2 * gi I0 57 44 ∧ gi I0 57 45 = gi I 57 45) ∧ (r0 = true → gi I0 57 43 + 1 ≤ gi I 57 43 + 2 * (gi I0 57 44 - gi I 57 44) + 2)
theorem PR2.mk {I : Mi} {J : Mj} {r0 : Bool} {I0 : Mi} {J0 : Mj} (h1 : ∀ aq kq : Nat, aq ≠ 79 ∧ ¬ (aq = 57 ∧ kq = 10) ∧ ¬ (aq = 57 ∧ kq = 11) ∧ ¬ (aq = 57 ∧ kq = 13) ∧ ¬ (aq = 57 ∧ kq = 43) ∧ ¬ (aq = 57 ∧ kq = 44) ∧ ¬ (aq = 57 ∧ kq = 45) ∧ ¬ (aq = 57 ∧ kq = 46) ∧ ¬ (aq = 57 ∧ kq = 5) ∧ ¬ (aq = 57 ∧ kq = 6) ∧ ¬ (aq = 57 ∧ kq = 7) ∧ ¬ (aq = 57 ∧ kq = 8) ∧ ¬ (aq = 57 ∧ kq = 9) → I0 aq kq = I aq kq) (h2 : ∀ aq kq : Nat, ¬ (aq = 57 ∧ kq = 12) → J0 aq kq = J aq kq) (h3 : LX I0) (h4 : gi I 57 44 ≤ gi I0 57 44 ∧ gi I0 57 44 ≤ 20 ∧ 0 ≤ gi I0 57 43 ∧ gi I0 57 43 ≤ 2 * gi I0 57 44 ∧ gi I0 57 45 = gi I 57 45) (h5 : r0 = true → gi I0 57 43 + 1 ≤ gi I 57 43 + 2 * (gi I0 57 44 - gi I 57 44) + 2) : PR2 I J r0 I0 J0 := ⟨h1, h2, h3, h4, h5⟩
/-- a reader of a part of a sentence, by its function -/
def Rd (G : Gx) (σ : State) (d : Nat) (n0 : Int) (y : MethodName) (cc : ByteArray) (nL : Nat) (o : Mi × Mj → Bool × Mi × Mj) : Prop := Cz G σ → ∀ {sh : Sh} {I : Mi} {J : Mj}, St sh → LX I → (0 ≤ gi I 57 44 ∧ gi I 57 44 ≤ 20 ∧ 0 ≤ gi I 57 43 ∧ gi I 57 43 + 0 ≤ 2 * gi I 57 44 ∧ 0 ≤ gi I 57 45 ∧ gi I 57 45 ≤ 8 ∧ 8 - gi I 57 45 < n0) → Ct G σ d y cc nL (some .boolean) [.ref (G.2.2 + 57)] (sh, I, J) 0 0 (Qp (some (.int (iv (b2 ((o (I, J)).1 = true))))) (sh, (o (I, J)).2.1, (o (I, J)).2.2) (PR0 I J (o (I, J)).1 (o (I, J)).2.1 (o (I, J)).2.2))
theorem lays_n {w1 w2 w3 w4 : Int} {I : Mi} {J : Mj} {r0 : Int} {I0 : Mi} {J0 : Mj} (h : fX10_lays w1 w2 w3 w4 (I, J) = (r0, I0, J0)) (hn : 0 ≤ gi I 57 43 ∧ gi I 57 43 < 60) : gi I0 57 43 = gi I 57 43 + 1 := by
  unfold fX10_lays at h
  simp only [Prod.mk.injEq] at h
  obtain ⟨-, hI, -⟩ := h
  rw [← hI, gi_wi_eq _ _ _ (by omega)]
noncomputable def roC (I : Mi) (J : Mj) (w : Int) : Bool := decide (w ≤ 18 ∧ ¬ (gi I 57 7 = 2 ∧ gj J 57 12 = wt w))
noncomputable def fX10_readNamed (w : Int) (S : Mi × Mj) : Bool × Mi × Mj :=
  match S with
  | (I, J) =>
    if gi I 57 7 = 2 ∧ isNm (gj J 57 12) = true then
      match fd J 63 0 (gi I 59 0) with
      | x2 =>
        if x2 = (-1) then
          match fX10_bad 3 (I, J) with
          | (r14, I15, J16) =>
            (decide (r14 = true), I15, J16)
        else
          match fX10_lays (50 + w) x2 0 0 (I, J) with
          | (r4, I5, J6) =>
            match fX10_go ((wi I5 57 46 r4), J6) with
            | (r8, I9, J10) =>
              (true, I9, J10)
    else
      match fX10_bad 1 (I, J) with
      | (r20, I21, J22) =>
        (decide (r20 = true), I21, J22)
set_option maxHeartbeats 4000000 in
set_option maxRecDepth 100000 in
theorem qX10_readNamed {G : Gx} {σ : State} (hC : Cz G σ) {sh : Sh} {I : Mi} {J : Mj} (w n0 : Int) (hS : St sh) (hl : LX I) (hk : 0 ≤ gi I 57 44 ∧ gi I 57 44 ≤ 20 ∧ 0 ≤ gi I 57 43 ∧ gi I 57 43 + 2 ≤ 2 * gi I 57 44 ∧ 0 ≤ gi I 57 45 ∧ gi I 57 45 ≤ 8 ∧ 8 - gi I 57 45 < n0) : Ct G σ 4 yX10_readNamed cX10_readNamed 3 (some .boolean) [.ref (G.2.2 + 57), .int (iv (w))] (sh, I, J) 0 0 (Qp (some (.int (iv (b2 ((fX10_readNamed w (I, J)).1 = true))))) (sh, (fX10_readNamed w (I, J)).2.1, (fX10_readNamed w (I, J)).2.2) (PR2 I J (fX10_readNamed w (I, J)).1 (fX10_readNamed w (I, J)).2.1 (fX10_readNamed w (I, J)).2.2)) := by
  refine Ct.of hC (by decide +kernel) (Nat.le_of_ble_eq_true rfl) ?_
  intro p l e R s m args below meth c C
  show Jz G σ p l e R s m args below meth c 3 0 0 (Qp (some (.int (iv (b2 ((fX10_readNamed w (I, J)).1 = true))))) (sh, (fX10_readNamed w (I, J)).2.1, (fX10_readNamed w (I, J)).2.2) (PR2 I J (fX10_readNamed w (I, J)).1 (fX10_readNamed w (I, J)).2.1 (fX10_readNamed w (I, J)).2.2)) (sh, I, J) 0 0 0 [(0, .ref (G.2.2 + 57)), (1, .int (iv (w)))] []
  have hb0 := hl
  unfold LX at hb0
  refine z_aload_n C dX10_readNamed_0 0 rfl ?_
  refine z_cVi (st := []) C dX10_readNamed_1 mX10_191 (kd_57 hS) (qX10_isName hC  hS) rfl rfl (Nat.le_of_ble_eq_true rfl) (by decide) ?_
  refine z_if_ne_b 13 C dX10_readNamed_4 (by decide) (fun h1 => ?_) (fun h1 => ?_)
  ·
    refine z_aload_n C dX10_readNamed_13 0 rfl ?_
    refine z_aload_n C dX10_readNamed_14 0 rfl ?_
    refine z_getR C dX10_readNamed_15 fX10_26 rfl (kd_57 hS) (r_57_18 hS) ?_
    refine z_iconst C dX10_readNamed_18 ?_
    refine z_aload_n C dX10_readNamed_19 0 rfl ?_
    refine z_cVi (st := [.int (iv (0)), .ref (G.2.2 + 63), .ref (G.2.2 + 57)]) C dX10_readNamed_20 mX10_182 (kd_57 hS) (qX10_people hC  hS) rfl rfl (Nat.le_of_ble_eq_true rfl) (by decide) ?_
    refine z_cVi (st := []) C dX10_readNamed_23 mX10_195 (kd_57 hS) (qX10_findIn63 hC 0 (gi I 59 0) hS (by have := gi_rng I 59 0; omega)) rfl rfl (Nat.le_of_ble_eq_true rfl) (by decide) ?_
    refine z_nami (fun x2 hx2 => ?_)
    refine z_istore_n (lv' := [(0, .ref (G.2.2 + 57)), (1, .int (iv (w))), (2, .int (iv (x2)))]) C dX10_readNamed_26 rfl (by decide) [1, 2, 0] rfl ?_
    have hfd := fd_rng J 63 0 (gi I 59 0)
    refine z_iload_n C dX10_readNamed_27 2 rfl ?_
    refine z_iconst C dX10_readNamed_28 ?_
    refine z_icmp_ne 38 C dX10_readNamed_29 (by decide) (by omega) (by decide) (fun h3 => ?_) (fun h3 => ?_)
    ·
      refine z_aload_n C dX10_readNamed_38 0 rfl ?_
      refine z_aload_n C dX10_readNamed_39 0 rfl ?_
      refine z_bipush C dX10_readNamed_40 (by decide) ?_
      refine z_iload_n C dX10_readNamed_42 1 rfl ?_
      refine z_iadd C dX10_readNamed_43 ?_
      refine z_iload_n C dX10_readNamed_44 2 rfl ?_
      refine z_iconst C dX10_readNamed_45 ?_
      refine z_iconst C dX10_readNamed_46 ?_
      refine z_cViF (st := [.ref (G.2.2 + 57)]) (F := fX10_lays (50 + w) x2 0 0 (I, J)) C dX10_readNamed_47 mX10_371 (kd_57 hS) (qX10_lays hC (50 + w) x2 0 0 hS (by have := gi_rng I 57 43; omega)) rfl rfl (Nat.le_of_ble_eq_true rfl) (by decide) (fun r4 I5 J6 hT7 => ?_)
      have hF7 := lays_n hT7 (by omega)
      refine z_putI C dX10_readNamed_50 fX10_368 rfl rfl (kd_57 hS) rfl rfl ?_
      refine z_aload_n C dX10_readNamed_53 0 rfl ?_
      refine z_cVvF (st := []) (F := fX10_go ((wi I5 57 46 r4), J6)) C dX10_readNamed_54 mX10_161 (kd_57 hS) (qX10_go hC  hS (by have hb := hl; unfold LX at hb ⊢; have : gi (wi I5 57 46 r4) 57 3 = gi I 57 3 := (Eq.trans (gi_wi_nk _ _ _ (by decide)) (gi_fk (frX10_lays hT7 57 3 (by decide)))); have : gi (wi I5 57 46 r4) 57 5 = gi I 57 5 := (Eq.trans (gi_wi_nk _ _ _ (by decide)) (gi_fk (frX10_lays hT7 57 5 (by decide)))); have : gi (wi I5 57 46 r4) 60 0 = gi I 60 0 := (Eq.trans (gi_wi_na _ _ _ _ (by decide)) (gi_fk (frX10_lays hT7 60 0 (by decide)))); have : gi (wi I5 57 46 r4) 60 1 = gi I 60 1 := (Eq.trans (gi_wi_na _ _ _ _ (by decide)) (gi_fk (frX10_lays hT7 60 1 (by decide)))); have : gi (wi I5 57 46 r4) 59 0 = gi I 59 0 := (Eq.trans (gi_wi_na _ _ _ _ (by decide)) (gi_fk (frX10_lays hT7 59 0 (by decide)))); have : gi (wi I5 57 46 r4) 57 24 = gi I 57 24 := (Eq.trans (gi_wi_nk _ _ _ (by decide)) (gi_fk (frX10_lays hT7 57 24 (by decide)))); omega)) rfl rfl (Nat.le_of_ble_eq_true rfl) (by decide) (fun r8 I9 J10 hT11 => ?_)
      have hl12 : LX I9 := okX10_go hT11 (by have hb := hl; unfold LX at hb ⊢; have : gi (wi I5 57 46 r4) 57 3 = gi I 57 3 := (Eq.trans (gi_wi_nk _ _ _ (by decide)) (gi_fk (frX10_lays hT7 57 3 (by decide)))); have : gi (wi I5 57 46 r4) 57 5 = gi I 57 5 := (Eq.trans (gi_wi_nk _ _ _ (by decide)) (gi_fk (frX10_lays hT7 57 5 (by decide)))); have : gi (wi I5 57 46 r4) 60 0 = gi I 60 0 := (Eq.trans (gi_wi_na _ _ _ _ (by decide)) (gi_fk (frX10_lays hT7 60 0 (by decide)))); have : gi (wi I5 57 46 r4) 60 1 = gi I 60 1 := (Eq.trans (gi_wi_na _ _ _ _ (by decide)) (gi_fk (frX10_lays hT7 60 1 (by decide)))); have : gi (wi I5 57 46 r4) 59 0 = gi I 59 0 := (Eq.trans (gi_wi_na _ _ _ _ (by decide)) (gi_fk (frX10_lays hT7 59 0 (by decide)))); have : gi (wi I5 57 46 r4) 57 24 = gi I 57 24 := (Eq.trans (gi_wi_nk _ _ _ (by decide)) (gi_fk (frX10_lays hT7 57 24 (by decide)))); omega); have hbhl12 := hl12; unfold LX at hbhl12
      refine z_iconst C dX10_readNamed_57 ?_
      have hf13 : fX10_readNamed w (I, J) = (true, I9, J10) := (by simp only [fX10_readNamed, if_pos h1, ← hx2, if_neg h3, hT7, hT11])
      exact z_zreturnp C dX10_readNamed_58 rfl (by rw [hf13]; rfl) (by rw [hf13]) (by rw [hf13]; show PR2 I J true I9 J10; exact PR2.mk (fun aq kq haq => (Eq.trans (frX10_go hT11 aq kq ⟨haq.2.2.2.2.2.2.2.2.1, haq.2.2.2.2.2.2.2.2.2.1, haq.2.2.2.2.2.2.2.2.2.2.1, haq.2.2.2.2.2.2.2.2.2.2.2.1, haq.2.2.2.2.2.2.2.2.2.2.2.2⟩) (Eq.trans (wi_nc _ _ haq.2.2.2.2.2.2.2.1) (frX10_lays hT7 aq kq ⟨haq.1, haq.2.2.2.2.1⟩)))) (fun aq kq haq => (Eq.trans (fjX10_go hT11 aq kq haq) (fjX10_lays hT7 aq kq trivial))) hl12 (by have : gi I9 57 44 = gi I 57 44 := (Eq.trans (gi_fk (frX10_go hT11 57 44 (by decide))) (Eq.trans (gi_wi_nk _ _ _ (by decide)) (gi_fk (frX10_lays hT7 57 44 (by decide))))); have := gi_rng I 57 44; have : gi I9 57 43 = gi I5 57 43 := (Eq.trans (gi_fk (frX10_go hT11 57 43 (by decide))) (gi_wi_nk _ _ _ (by decide))); have := gi_rng I5 57 43; have : gi I9 57 45 = gi I 57 45 := (Eq.trans (gi_fk (frX10_go hT11 57 45 (by decide))) (Eq.trans (gi_wi_nk _ _ _ (by decide)) (gi_fk (frX10_lays hT7 57 45 (by decide))))); have := gi_rng I 57 45; have := gi_rng I9 57 44; have := gi_rng I9 57 43; have := gi_rng I9 57 45; omega) (fun _ => (by have : gi I9 57 43 = gi I5 57 43 := (Eq.trans (gi_fk (frX10_go hT11 57 43 (by decide))) (gi_wi_nk _ _ _ (by decide))); have := gi_rng I5 57 43; have : gi I9 57 44 = gi I 57 44 := (Eq.trans (gi_fk (frX10_go hT11 57 44 (by decide))) (Eq.trans (gi_wi_nk _ _ _ (by decide)) (gi_fk (frX10_lays hT7 57 44 (by decide))))); have := gi_rng I 57 44; have := gi_rng I9 57 43; have := gi_rng I 57 43; have := gi_rng I9 57 44; omega)))
    ·
      refine z_aload_n C dX10_readNamed_32 0 rfl ?_
      refine z_iconst C dX10_readNamed_33 ?_
      refine z_cVibF (st := []) (F := fX10_bad 3 (I, J)) C dX10_readNamed_34 mX10_151 (kd_57 hS) (qX10_bad hC 3 hS (by omega)) rfl rfl (Nat.le_of_ble_eq_true rfl) (by decide) (fun r14 I15 J16 hT17 => ?_)
      have hl18 : LX I15 := okX10_bad hT17 hl; have hbhl18 := hl18; unfold LX at hbhl18
      have hf19 : fX10_readNamed w (I, J) = (decide (r14 = true), I15, J16) := (by simp only [fX10_readNamed, if_pos h1, ← hx2, if_pos h3, hT17])
      exact z_zreturnp C dX10_readNamed_37 (b2_nar _) (by rw [hf19]; simp [b2]) (by rw [hf19]) (by rw [hf19]; show PR2 I J (decide (r14 = true)) I15 J16; exact PR2.mk (fun aq kq haq => (frX10_bad hT17 aq kq ⟨haq.2.1, haq.2.2.1⟩)) (fun aq kq haq => (fjX10_bad hT17 aq kq trivial)) hl18 (by have : gi I15 57 44 = gi I 57 44 := (gi_fk (frX10_bad hT17 57 44 (by decide))); have := gi_rng I 57 44; have : gi I15 57 43 = gi I 57 43 := (gi_fk (frX10_bad hT17 57 43 (by decide))); have := gi_rng I 57 43; have : gi I15 57 45 = gi I 57 45 := (gi_fk (frX10_bad hT17 57 45 (by decide))); have := gi_rng I 57 45; have := gi_rng I15 57 44; have := gi_rng I15 57 43; have := gi_rng I15 57 45; omega) (fun h => absurd (of_decide_eq_true h) (by rw [bad_f hT17]; decide)))
  ·
    refine z_aload_n C dX10_readNamed_7 0 rfl ?_
    refine z_iconst C dX10_readNamed_8 ?_
    refine z_cVibF (st := []) (F := fX10_bad 1 (I, J)) C dX10_readNamed_9 mX10_151 (kd_57 hS) (qX10_bad hC 1 hS (by omega)) rfl rfl (Nat.le_of_ble_eq_true rfl) (by decide) (fun r20 I21 J22 hT23 => ?_)
    have hl24 : LX I21 := okX10_bad hT23 hl; have hbhl24 := hl24; unfold LX at hbhl24
    have hf25 : fX10_readNamed w (I, J) = (decide (r20 = true), I21, J22) := (by simp only [fX10_readNamed, if_neg h1, hT23])
    exact z_zreturnp C dX10_readNamed_12 (b2_nar _) (by rw [hf25]; simp [b2]) (by rw [hf25]) (by rw [hf25]; show PR2 I J (decide (r20 = true)) I21 J22; exact PR2.mk (fun aq kq haq => (frX10_bad hT23 aq kq ⟨haq.2.1, haq.2.2.1⟩)) (fun aq kq haq => (fjX10_bad hT23 aq kq trivial)) hl24 (by have : gi I21 57 44 = gi I 57 44 := (gi_fk (frX10_bad hT23 57 44 (by decide))); have := gi_rng I 57 44; have : gi I21 57 43 = gi I 57 43 := (gi_fk (frX10_bad hT23 57 43 (by decide))); have := gi_rng I 57 43; have : gi I21 57 45 = gi I 57 45 := (gi_fk (frX10_bad hT23 57 45 (by decide))); have := gi_rng I 57 45; have := gi_rng I21 57 44; have := gi_rng I21 57 43; have := gi_rng I21 57 45; omega) (fun h => absurd (of_decide_eq_true h) (by rw [bad_f hT23]; decide)))

noncomputable def fX10_readCompare_33 (w : Int) (S : Mi × Mj) : Bool × Mi × Mj :=
  match S with
  | (I, J) =>
    match fX10_go (I, J) with
    | (r3, I4, J5) =>
      match fX10_readNumber 0 9999 (I4, J5) with
      | (r8, I9, J10) =>
        if r8 = true then
          match fX10_lays (50 + w) 0 (gi I9 57 13) (gi I 57 9) (I9, J10) with
          | (r14, I15, J16) =>
            (true, (wi I15 57 46 r14), J16)
        else
          (false, I9, J10)
noncomputable def fX10_readCompare (w : Int) (S : Mi × Mj) : Bool × Mi × Mj :=
  match S with
  | (I, J) =>
    if gi I 57 7 = 4 ∧ gi I 57 9 = 60 then
      fX10_readCompare_33 w (I, J)
    else
      if gi I 57 7 = 4 ∧ gi I 57 9 = 61 then
        fX10_readCompare_33 w (I, J)
      else
        if gi I 57 7 = 4 ∧ gi I 57 9 = 62 then
          fX10_readCompare_33 w (I, J)
        else
          match fX10_bad 1 (I, J) with
          | (r23, I24, J25) =>
            (decide (r23 = true), I24, J25)
set_option maxHeartbeats 4000000 in
set_option maxRecDepth 100000 in
theorem qX10_readCompare {G : Gx} {σ : State} (hC : Cz G σ) {sh : Sh} {I : Mi} {J : Mj} (w n0 : Int) (hS : St sh) (hl : LX I) (hk : 0 ≤ gi I 57 44 ∧ gi I 57 44 ≤ 20 ∧ 0 ≤ gi I 57 43 ∧ gi I 57 43 + 2 ≤ 2 * gi I 57 44 ∧ 0 ≤ gi I 57 45 ∧ gi I 57 45 ≤ 8 ∧ 8 - gi I 57 45 < n0) : Ct G σ 4 yX10_readCompare cX10_readCompare 3 (some .boolean) [.ref (G.2.2 + 57), .int (iv (w))] (sh, I, J) 0 0 (Qp (some (.int (iv (b2 ((fX10_readCompare w (I, J)).1 = true))))) (sh, (fX10_readCompare w (I, J)).2.1, (fX10_readCompare w (I, J)).2.2) (PR2 I J (fX10_readCompare w (I, J)).1 (fX10_readCompare w (I, J)).2.1 (fX10_readCompare w (I, J)).2.2)) := by
  refine Ct.of hC (by decide +kernel) (Nat.le_of_ble_eq_true rfl) ?_
  intro p l e R s m args below meth c C
  show Jz G σ p l e R s m args below meth c 3 0 0 (Qp (some (.int (iv (b2 ((fX10_readCompare w (I, J)).1 = true))))) (sh, (fX10_readCompare w (I, J)).2.1, (fX10_readCompare w (I, J)).2.2) (PR2 I J (fX10_readCompare w (I, J)).1 (fX10_readCompare w (I, J)).2.1 (fX10_readCompare w (I, J)).2.2)) (sh, I, J) 0 0 0 [(0, .ref (G.2.2 + 57)), (1, .int (iv (w)))] []
  have hb0 := hl
  unfold LX at hb0
  have hJ1 : fX10_readCompare w (I, J) = fX10_readCompare_33 w (I, J) → Jz G σ p l e R s m args below meth c 3 0 0 (Qp (some (.int (iv (b2 ((fX10_readCompare w (I, J)).1 = true))))) (sh, (fX10_readCompare w (I, J)).2.1, (fX10_readCompare w (I, J)).2.2) (PR2 I J (fX10_readCompare w (I, J)).1 (fX10_readCompare w (I, J)).2.1 (fX10_readCompare w (I, J)).2.2)) (sh, I, J) 0 0 33 [(0, .ref (G.2.2 + 57)), (1, .int (iv (w)))] [] := by
    intro hq2
    refine z_aload_n C dX10_readCompare_33 0 rfl ?_
    refine z_getI C dX10_readCompare_34 fX10_115 rfl (kd_57 hS) ?_
    refine z_istore_n (lv' := [(0, .ref (G.2.2 + 57)), (1, .int (iv (w))), (2, .int (iv (gi I 57 9)))]) C dX10_readCompare_37 rfl (by decide) [1, 2, 0] rfl ?_
    refine z_aload_n C dX10_readCompare_38 0 rfl ?_
    refine z_cVvF (st := []) (F := fX10_go (I, J)) C dX10_readCompare_39 mX10_161 (kd_57 hS) (qX10_go hC  hS hl) rfl rfl (Nat.le_of_ble_eq_true rfl) (by decide) (fun r3 I4 J5 hT6 => ?_)
    have hl7 : LX I4 := okX10_go hT6 hl; have hbhl7 := hl7; unfold LX at hbhl7
    refine z_aload_n C dX10_readCompare_42 0 rfl ?_
    refine z_iconst C dX10_readCompare_43 ?_
    refine z_sipush C dX10_readCompare_44 (by decide) ?_
    refine z_cVibF (st := []) (F := fX10_readNumber 0 9999 (I4, J5)) C dX10_readCompare_47 mX10_205 (kd_57 hS) (qX10_readNumber hC 0 9999 hS hl7 (by omega) (by omega)) rfl rfl (Nat.le_of_ble_eq_true rfl) (by decide) (fun r8 I9 J10 hT11 => ?_)
    have hl12 : LX I9 := okX10_readNumber hT11 hl7; have hbhl12 := hl12; unfold LX at hbhl12
    refine z_if_ne_b 55 C dX10_readCompare_50 (by decide) (fun h13 => ?_) (fun h13 => ?_)
    ·
      refine z_aload_n C dX10_readCompare_55 0 rfl ?_
      refine z_aload_n C dX10_readCompare_56 0 rfl ?_
      refine z_bipush C dX10_readCompare_57 (by decide) ?_
      refine z_iload_n C dX10_readCompare_59 1 rfl ?_
      refine z_iadd C dX10_readCompare_60 ?_
      refine z_iconst C dX10_readCompare_61 ?_
      refine z_aload_n C dX10_readCompare_62 0 rfl ?_
      refine z_getI C dX10_readCompare_63 fX10_158 rfl (kd_57 hS) ?_
      refine z_iload_n C dX10_readCompare_66 2 rfl ?_
      refine z_cViF (st := [.ref (G.2.2 + 57)]) (F := fX10_lays (50 + w) 0 (gi I9 57 13) (gi I 57 9) (I9, J10)) C dX10_readCompare_67 mX10_371 (kd_57 hS) (qX10_lays hC (50 + w) 0 (gi I9 57 13) (gi I 57 9) hS (by have : gi I9 57 43 = gi I 57 43 := (Eq.trans (gi_fk (frX10_readNumber hT11 57 43 (by decide))) (gi_fk (frX10_go hT6 57 43 (by decide)))); have := gi_rng I 57 43; have := gi_rng I9 57 43; omega)) rfl rfl (Nat.le_of_ble_eq_true rfl) (by decide) (fun r14 I15 J16 hT17 => ?_)
      have ef17_43 : gi I9 57 43 = gi I 57 43 := (Eq.trans (gi_fk (frX10_readNumber hT11 57 43 (by decide))) (gi_fk (frX10_go hT6 57 43 (by decide))))
      have hF17 := lays_n hT17 (by omega)
      refine z_putI C dX10_readCompare_70 fX10_368 rfl rfl (kd_57 hS) rfl rfl ?_
      refine z_iconst C dX10_readCompare_73 ?_
      have hf18 : fX10_readCompare w (I, J) = (true, (wi I15 57 46 r14), J16) := (hq2.trans (by simp only [fX10_readCompare_33, hT6, hT11, if_pos h13, hT17]))
      exact z_zreturnp C dX10_readCompare_74 rfl (by rw [hf18]; rfl) (by rw [hf18]) (by rw [hf18]; show PR2 I J true (wi I15 57 46 r14) J16; exact PR2.mk (fun aq kq haq => (Eq.trans (wi_nc _ _ haq.2.2.2.2.2.2.2.1) (Eq.trans (frX10_lays hT17 aq kq ⟨haq.1, haq.2.2.2.2.1⟩) (Eq.trans (frX10_readNumber hT11 aq kq ⟨haq.2.1, haq.2.2.1, haq.2.2.2.1, haq.2.2.2.2.2.2.2.2.1, haq.2.2.2.2.2.2.2.2.2.1, haq.2.2.2.2.2.2.2.2.2.2.1, haq.2.2.2.2.2.2.2.2.2.2.2.1, haq.2.2.2.2.2.2.2.2.2.2.2.2⟩) (frX10_go hT6 aq kq ⟨haq.2.2.2.2.2.2.2.2.1, haq.2.2.2.2.2.2.2.2.2.1, haq.2.2.2.2.2.2.2.2.2.2.1, haq.2.2.2.2.2.2.2.2.2.2.2.1, haq.2.2.2.2.2.2.2.2.2.2.2.2⟩))))) (fun aq kq haq => (Eq.trans (fjX10_lays hT17 aq kq trivial) (Eq.trans (fjX10_readNumber hT11 aq kq haq) (fjX10_go hT6 aq kq haq)))) (by have hb := hl12; unfold LX at hb ⊢; have : gi (wi I15 57 46 r14) 57 3 = gi I9 57 3 := (Eq.trans (gi_wi_nk _ _ _ (by decide)) (gi_fk (frX10_lays hT17 57 3 (by decide)))); have : gi (wi I15 57 46 r14) 57 5 = gi I9 57 5 := (Eq.trans (gi_wi_nk _ _ _ (by decide)) (gi_fk (frX10_lays hT17 57 5 (by decide)))); have : gi (wi I15 57 46 r14) 60 0 = gi I9 60 0 := (Eq.trans (gi_wi_na _ _ _ _ (by decide)) (gi_fk (frX10_lays hT17 60 0 (by decide)))); have : gi (wi I15 57 46 r14) 60 1 = gi I9 60 1 := (Eq.trans (gi_wi_na _ _ _ _ (by decide)) (gi_fk (frX10_lays hT17 60 1 (by decide)))); have : gi (wi I15 57 46 r14) 59 0 = gi I9 59 0 := (Eq.trans (gi_wi_na _ _ _ _ (by decide)) (gi_fk (frX10_lays hT17 59 0 (by decide)))); have : gi (wi I15 57 46 r14) 57 24 = gi I9 57 24 := (Eq.trans (gi_wi_nk _ _ _ (by decide)) (gi_fk (frX10_lays hT17 57 24 (by decide)))); omega) (by have : gi (wi I15 57 46 r14) 57 44 = gi I 57 44 := (Eq.trans (gi_wi_nk _ _ _ (by decide)) (Eq.trans (gi_fk (frX10_lays hT17 57 44 (by decide))) (Eq.trans (gi_fk (frX10_readNumber hT11 57 44 (by decide))) (gi_fk (frX10_go hT6 57 44 (by decide)))))); have := gi_rng I 57 44; have : gi (wi I15 57 46 r14) 57 43 = gi I15 57 43 := (gi_wi_nk _ _ _ (by decide)); have := gi_rng I15 57 43; have : gi (wi I15 57 46 r14) 57 45 = gi I 57 45 := (Eq.trans (gi_wi_nk _ _ _ (by decide)) (Eq.trans (gi_fk (frX10_lays hT17 57 45 (by decide))) (Eq.trans (gi_fk (frX10_readNumber hT11 57 45 (by decide))) (gi_fk (frX10_go hT6 57 45 (by decide)))))); have := gi_rng I 57 45; have := gi_rng (wi I15 57 46 r14) 57 44; have := gi_rng (wi I15 57 46 r14) 57 43; have := gi_rng (wi I15 57 46 r14) 57 45; omega) (fun _ => (by have : gi (wi I15 57 46 r14) 57 43 = gi I15 57 43 := (gi_wi_nk _ _ _ (by decide)); have := gi_rng I15 57 43; have : gi (wi I15 57 46 r14) 57 44 = gi I 57 44 := (Eq.trans (gi_wi_nk _ _ _ (by decide)) (Eq.trans (gi_fk (frX10_lays hT17 57 44 (by decide))) (Eq.trans (gi_fk (frX10_readNumber hT11 57 44 (by decide))) (gi_fk (frX10_go hT6 57 44 (by decide)))))); have := gi_rng I 57 44; have := gi_rng (wi I15 57 46 r14) 57 43; have := gi_rng I 57 43; have := gi_rng (wi I15 57 46 r14) 57 44; omega)))
    ·
      refine z_iconst C dX10_readCompare_53 ?_
      have hf19 : fX10_readCompare w (I, J) = (false, I9, J10) := (hq2.trans (by simp only [fX10_readCompare_33, hT6, hT11, if_neg h13]))
      exact z_zreturnp C dX10_readCompare_54 rfl (by rw [hf19]; rfl) (by rw [hf19]) (by rw [hf19]; show PR2 I J false I9 J10; exact PR2.mk (fun aq kq haq => (Eq.trans (frX10_readNumber hT11 aq kq ⟨haq.2.1, haq.2.2.1, haq.2.2.2.1, haq.2.2.2.2.2.2.2.2.1, haq.2.2.2.2.2.2.2.2.2.1, haq.2.2.2.2.2.2.2.2.2.2.1, haq.2.2.2.2.2.2.2.2.2.2.2.1, haq.2.2.2.2.2.2.2.2.2.2.2.2⟩) (frX10_go hT6 aq kq ⟨haq.2.2.2.2.2.2.2.2.1, haq.2.2.2.2.2.2.2.2.2.1, haq.2.2.2.2.2.2.2.2.2.2.1, haq.2.2.2.2.2.2.2.2.2.2.2.1, haq.2.2.2.2.2.2.2.2.2.2.2.2⟩))) (fun aq kq haq => (Eq.trans (fjX10_readNumber hT11 aq kq haq) (fjX10_go hT6 aq kq haq))) hl12 (by have : gi I9 57 44 = gi I 57 44 := (Eq.trans (gi_fk (frX10_readNumber hT11 57 44 (by decide))) (gi_fk (frX10_go hT6 57 44 (by decide)))); have := gi_rng I 57 44; have : gi I9 57 43 = gi I 57 43 := (Eq.trans (gi_fk (frX10_readNumber hT11 57 43 (by decide))) (gi_fk (frX10_go hT6 57 43 (by decide)))); have := gi_rng I 57 43; have : gi I9 57 45 = gi I 57 45 := (Eq.trans (gi_fk (frX10_readNumber hT11 57 45 (by decide))) (gi_fk (frX10_go hT6 57 45 (by decide)))); have := gi_rng I 57 45; have := gi_rng I9 57 44; have := gi_rng I9 57 43; have := gi_rng I9 57 45; omega) (fun h => absurd h (by decide)))
  refine z_aload_n C dX10_readCompare_0 0 rfl ?_
  refine z_bipush C dX10_readCompare_1 (by decide) ?_
  refine z_cVi (st := []) C dX10_readCompare_3 mX10_164 (kd_57 hS) (qX10_isSign hC 60 hS (by omega)) rfl rfl (Nat.le_of_ble_eq_true rfl) (by decide) ?_
  refine z_if_ne_b 33 C dX10_readCompare_6 (by decide) (fun h20 => ?_) (fun h20 => ?_)
  ·
    exact hJ1 (by simp only [fX10_readCompare, if_pos h20])
  ·
    refine z_aload_n C dX10_readCompare_9 0 rfl ?_
    refine z_bipush C dX10_readCompare_10 (by decide) ?_
    refine z_cVi (st := []) C dX10_readCompare_12 mX10_164 (kd_57 hS) (qX10_isSign hC 61 hS (by omega)) rfl rfl (Nat.le_of_ble_eq_true rfl) (by decide) ?_
    refine z_if_ne_b 33 C dX10_readCompare_15 (by decide) (fun h21 => ?_) (fun h21 => ?_)
    ·
      exact hJ1 (by simp only [fX10_readCompare, if_neg h20, if_pos h21])
    ·
      refine z_aload_n C dX10_readCompare_18 0 rfl ?_
      refine z_bipush C dX10_readCompare_19 (by decide) ?_
      refine z_cVi (st := []) C dX10_readCompare_21 mX10_164 (kd_57 hS) (qX10_isSign hC 62 hS (by omega)) rfl rfl (Nat.le_of_ble_eq_true rfl) (by decide) ?_
      refine z_if_ne_b 33 C dX10_readCompare_24 (by decide) (fun h22 => ?_) (fun h22 => ?_)
      ·
        exact hJ1 (by simp only [fX10_readCompare, if_neg h20, if_neg h21, if_pos h22])
      ·
        refine z_aload_n C dX10_readCompare_27 0 rfl ?_
        refine z_iconst C dX10_readCompare_28 ?_
        refine z_cVibF (st := []) (F := fX10_bad 1 (I, J)) C dX10_readCompare_29 mX10_151 (kd_57 hS) (qX10_bad hC 1 hS (by omega)) rfl rfl (Nat.le_of_ble_eq_true rfl) (by decide) (fun r23 I24 J25 hT26 => ?_)
        have hl27 : LX I24 := okX10_bad hT26 hl; have hbhl27 := hl27; unfold LX at hbhl27
        have hf28 : fX10_readCompare w (I, J) = (decide (r23 = true), I24, J25) := (by simp only [fX10_readCompare, if_neg h20, if_neg h21, if_neg h22, hT26])
        exact z_zreturnp C dX10_readCompare_32 (b2_nar _) (by rw [hf28]; simp [b2]) (by rw [hf28]) (by rw [hf28]; show PR2 I J (decide (r23 = true)) I24 J25; exact PR2.mk (fun aq kq haq => (frX10_bad hT26 aq kq ⟨haq.2.1, haq.2.2.1⟩)) (fun aq kq haq => (fjX10_bad hT26 aq kq trivial)) hl27 (by have : gi I24 57 44 = gi I 57 44 := (gi_fk (frX10_bad hT26 57 44 (by decide))); have := gi_rng I 57 44; have : gi I24 57 43 = gi I 57 43 := (gi_fk (frX10_bad hT26 57 43 (by decide))); have := gi_rng I 57 43; have : gi I24 57 45 = gi I 57 45 := (gi_fk (frX10_bad hT26 57 45 (by decide))); have := gi_rng I 57 45; have := gi_rng I24 57 44; have := gi_rng I24 57 43; have := gi_rng I24 57 45; omega) (fun h => absurd (of_decide_eq_true h) (by rw [bad_f hT26]; decide)))

noncomputable def fX10_readNot (oOne : Mi × Mj → Bool × Mi × Mj) (S : Mi × Mj) : Bool × Mi × Mj :=
  match S with
  | (I, J) =>
    match oOne (I, J) with
    | (r1, I2, J3) =>
      if r1 = true then
        match fX10_lays 1 (gi I2 57 46) 0 0 (I2, J3) with
        | (r7, I8, J9) =>
          (true, (wi I8 57 46 r7), J9)
      else
        (false, I2, J3)
set_option maxHeartbeats 4000000 in
set_option maxRecDepth 100000 in
theorem qX10_readNot {G : Gx} {σ : State} (hC : Cz G σ) {sh : Sh} {I : Mi} {J : Mj} (d0 : Nat) (n0 : Int) (oOne : Mi × Mj → Bool × Mi × Mj) (hS : St sh) (hOne : Rd G σ d0 n0 yX10_readOne cX10_readOne 4 oOne) (hl : LX I) (hk : 0 ≤ gi I 57 44 ∧ gi I 57 44 ≤ 20 ∧ 0 ≤ gi I 57 43 ∧ gi I 57 43 + 2 ≤ 2 * gi I 57 44 ∧ 0 ≤ gi I 57 45 ∧ gi I 57 45 ≤ 8 ∧ 8 - gi I 57 45 < n0) : Ct G σ (d0 + 1) yX10_readNot cX10_readNot 1 (some .boolean) [.ref (G.2.2 + 57)] (sh, I, J) 0 0 (Qp (some (.int (iv (b2 ((fX10_readNot oOne (I, J)).1 = true))))) (sh, (fX10_readNot oOne (I, J)).2.1, (fX10_readNot oOne (I, J)).2.2) (PR2 I J (fX10_readNot oOne (I, J)).1 (fX10_readNot oOne (I, J)).2.1 (fX10_readNot oOne (I, J)).2.2)) := by
  refine Ct.of hC (by decide +kernel) (Nat.le_of_ble_eq_true rfl) ?_
  intro p l e R s m args below meth c C
  show Jz G σ p l e R s m args below meth c 1 0 0 (Qp (some (.int (iv (b2 ((fX10_readNot oOne (I, J)).1 = true))))) (sh, (fX10_readNot oOne (I, J)).2.1, (fX10_readNot oOne (I, J)).2.2) (PR2 I J (fX10_readNot oOne (I, J)).1 (fX10_readNot oOne (I, J)).2.1 (fX10_readNot oOne (I, J)).2.2)) (sh, I, J) 0 0 0 [(0, .ref (G.2.2 + 57))] []
  have hb0 := hl
  unfold LX at hb0
  have hd0 : 0 ≤ d0 := Nat.zero_le _
  refine z_aload_n C dX10_readNot_0 0 rfl ?_
  refine z_cVibP (P := PR0 I J) (st := []) (F := oOne (I, J)) C dX10_readNot_1 mX10_374 (kd_57 hS) (hOne hC  hS hl (by have := gi_rng I 57 44; have := gi_rng I 57 43; have := gi_rng I 57 45; omega)) rfl rfl (Nat.le_of_ble_eq_true rfl) (by omega) (fun r1 I2 J3 hT4 hP4 => ?_)
  obtain ⟨frP4, fjP4, hlP4, hcP4, htP4⟩ := hP4
  have hbP4 := hlP4; unfold LX at hbP4
  refine z_if_ne_b 9 C dX10_readNot_4 (by decide) (fun h5 => ?_) (fun h5 => ?_)
  ·
    have ht6 := htP4 h5
    refine z_aload_n C dX10_readNot_9 0 rfl ?_
    refine z_aload_n C dX10_readNot_10 0 rfl ?_
    refine z_iconst C dX10_readNot_11 ?_
    refine z_aload_n C dX10_readNot_12 0 rfl ?_
    refine z_getI C dX10_readNot_13 fX10_368 rfl (kd_57 hS) ?_
    refine z_iconst C dX10_readNot_16 ?_
    refine z_iconst C dX10_readNot_17 ?_
    refine z_cViF (st := [.ref (G.2.2 + 57)]) (F := fX10_lays 1 (gi I2 57 46) 0 0 (I2, J3)) C dX10_readNot_18 mX10_371 (kd_57 hS) (qX10_lays hC 1 (gi I2 57 46) 0 0 hS (by have := gi_rng I2 57 43; omega)) rfl rfl (Nat.le_of_ble_eq_true rfl) (by omega) (fun r7 I8 J9 hT10 => ?_)
    have hF10 := lays_n hT10 (by omega)
    refine z_putI C dX10_readNot_21 fX10_368 rfl rfl (kd_57 hS) rfl rfl ?_
    refine z_iconst C dX10_readNot_24 ?_
    have hf11 : fX10_readNot oOne (I, J) = (true, (wi I8 57 46 r7), J9) := (by simp only [fX10_readNot, hT4, if_pos h5, hT10])
    exact z_zreturnp C dX10_readNot_25 rfl (by rw [hf11]; rfl) (by rw [hf11]) (by rw [hf11]; show PR2 I J true (wi I8 57 46 r7) J9; exact PR2.mk (fun aq kq haq => (Eq.trans (wi_nc _ _ haq.2.2.2.2.2.2.2.1) (Eq.trans (frX10_lays hT10 aq kq ⟨haq.1, haq.2.2.2.2.1⟩) (frP4 aq kq ⟨haq.1, haq.2.1, haq.2.2.1, haq.2.2.2.1, haq.2.2.2.2.1, haq.2.2.2.2.2.1, haq.2.2.2.2.2.2.1, haq.2.2.2.2.2.2.2.1, haq.2.2.2.2.2.2.2.2.1, haq.2.2.2.2.2.2.2.2.2.1, haq.2.2.2.2.2.2.2.2.2.2.1, haq.2.2.2.2.2.2.2.2.2.2.2.1, haq.2.2.2.2.2.2.2.2.2.2.2.2⟩)))) (fun aq kq haq => (Eq.trans (fjX10_lays hT10 aq kq trivial) (fjP4 aq kq haq))) (by have hb := hlP4; unfold LX at hb ⊢; have : gi (wi I8 57 46 r7) 57 3 = gi I2 57 3 := (Eq.trans (gi_wi_nk _ _ _ (by decide)) (gi_fk (frX10_lays hT10 57 3 (by decide)))); have : gi (wi I8 57 46 r7) 57 5 = gi I2 57 5 := (Eq.trans (gi_wi_nk _ _ _ (by decide)) (gi_fk (frX10_lays hT10 57 5 (by decide)))); have : gi (wi I8 57 46 r7) 60 0 = gi I2 60 0 := (Eq.trans (gi_wi_na _ _ _ _ (by decide)) (gi_fk (frX10_lays hT10 60 0 (by decide)))); have : gi (wi I8 57 46 r7) 60 1 = gi I2 60 1 := (Eq.trans (gi_wi_na _ _ _ _ (by decide)) (gi_fk (frX10_lays hT10 60 1 (by decide)))); have : gi (wi I8 57 46 r7) 59 0 = gi I2 59 0 := (Eq.trans (gi_wi_na _ _ _ _ (by decide)) (gi_fk (frX10_lays hT10 59 0 (by decide)))); have : gi (wi I8 57 46 r7) 57 24 = gi I2 57 24 := (Eq.trans (gi_wi_nk _ _ _ (by decide)) (gi_fk (frX10_lays hT10 57 24 (by decide)))); omega) (by have : gi (wi I8 57 46 r7) 57 44 = gi I2 57 44 := (Eq.trans (gi_wi_nk _ _ _ (by decide)) (gi_fk (frX10_lays hT10 57 44 (by decide)))); have := gi_rng I2 57 44; have : gi (wi I8 57 46 r7) 57 43 = gi I8 57 43 := (gi_wi_nk _ _ _ (by decide)); have := gi_rng I8 57 43; have : gi (wi I8 57 46 r7) 57 45 = gi I2 57 45 := (Eq.trans (gi_wi_nk _ _ _ (by decide)) (gi_fk (frX10_lays hT10 57 45 (by decide)))); have := gi_rng I2 57 45; have := gi_rng I 57 44; have := gi_rng (wi I8 57 46 r7) 57 44; have := gi_rng (wi I8 57 46 r7) 57 43; have := gi_rng (wi I8 57 46 r7) 57 45; have := gi_rng I 57 45; omega) (fun _ => (by have : gi (wi I8 57 46 r7) 57 43 = gi I8 57 43 := (gi_wi_nk _ _ _ (by decide)); have := gi_rng I8 57 43; have : gi (wi I8 57 46 r7) 57 44 = gi I2 57 44 := (Eq.trans (gi_wi_nk _ _ _ (by decide)) (gi_fk (frX10_lays hT10 57 44 (by decide)))); have := gi_rng I2 57 44; have := gi_rng (wi I8 57 46 r7) 57 43; have := gi_rng I 57 43; have := gi_rng (wi I8 57 46 r7) 57 44; have := gi_rng I 57 44; omega)))
  ·
    refine z_iconst C dX10_readNot_7 ?_
    have hf12 : fX10_readNot oOne (I, J) = (false, I2, J3) := (by simp only [fX10_readNot, hT4, if_neg h5])
    exact z_zreturnp C dX10_readNot_8 rfl (by rw [hf12]; rfl) (by rw [hf12]) (by rw [hf12]; show PR2 I J false I2 J3; exact PR2.mk (fun aq kq haq => (frP4 aq kq ⟨haq.1, haq.2.1, haq.2.2.1, haq.2.2.2.1, haq.2.2.2.2.1, haq.2.2.2.2.2.1, haq.2.2.2.2.2.2.1, haq.2.2.2.2.2.2.2.1, haq.2.2.2.2.2.2.2.2.1, haq.2.2.2.2.2.2.2.2.2.1, haq.2.2.2.2.2.2.2.2.2.2.1, haq.2.2.2.2.2.2.2.2.2.2.2.1, haq.2.2.2.2.2.2.2.2.2.2.2.2⟩)) (fun aq kq haq => (fjP4 aq kq haq)) hlP4 (by have := gi_rng I2 57 44; have := gi_rng I2 57 43; have := gi_rng I2 57 45; have := gi_rng I 57 44; have := gi_rng I 57 45; omega) (fun h => absurd h (by decide)))

noncomputable def fX10_readBracket (oOr : Mi × Mj → Bool × Mi × Mj) (S : Mi × Mj) : Bool × Mi × Mj :=
  match S with
  | (I, J) =>
    match oOr (I, J) with
    | (r1, I2, J3) =>
      if r1 = true then
        if gi I2 57 7 = 4 ∧ gi I2 57 9 = 41 then
          match fX10_go (I2, J3) with
          | (r8, I9, J10) =>
            (true, I9, J10)
        else
          match fX10_bad 1 (I2, J3) with
          | (r14, I15, J16) =>
            (decide (r14 = true), I15, J16)
      else
        (false, I2, J3)
set_option maxHeartbeats 4000000 in
set_option maxRecDepth 100000 in
theorem qX10_readBracket {G : Gx} {σ : State} (hC : Cz G σ) {sh : Sh} {I : Mi} {J : Mj} (d0 : Nat) (n0 : Int) (oOr : Mi × Mj → Bool × Mi × Mj) (hS : St sh) (hOr : Rd G σ (d0 + 2) n0 yX10_readOr cX10_readOr 2 oOr) (hl : LX I) (hk : 0 ≤ gi I 57 44 ∧ gi I 57 44 ≤ 20 ∧ 0 ≤ gi I 57 43 ∧ gi I 57 43 + 2 ≤ 2 * gi I 57 44 ∧ 0 ≤ gi I 57 45 ∧ gi I 57 45 ≤ 8 ∧ 8 - gi I 57 45 < n0) : Ct G σ (d0 + 3) yX10_readBracket cX10_readBracket 1 (some .boolean) [.ref (G.2.2 + 57)] (sh, I, J) 0 0 (Qp (some (.int (iv (b2 ((fX10_readBracket oOr (I, J)).1 = true))))) (sh, (fX10_readBracket oOr (I, J)).2.1, (fX10_readBracket oOr (I, J)).2.2) (PR2 I J (fX10_readBracket oOr (I, J)).1 (fX10_readBracket oOr (I, J)).2.1 (fX10_readBracket oOr (I, J)).2.2)) := by
  refine Ct.of hC (by decide +kernel) (Nat.le_of_ble_eq_true rfl) ?_
  intro p l e R s m args below meth c C
  show Jz G σ p l e R s m args below meth c 1 0 0 (Qp (some (.int (iv (b2 ((fX10_readBracket oOr (I, J)).1 = true))))) (sh, (fX10_readBracket oOr (I, J)).2.1, (fX10_readBracket oOr (I, J)).2.2) (PR2 I J (fX10_readBracket oOr (I, J)).1 (fX10_readBracket oOr (I, J)).2.1 (fX10_readBracket oOr (I, J)).2.2)) (sh, I, J) 0 0 0 [(0, .ref (G.2.2 + 57))] []
  have hb0 := hl
  unfold LX at hb0
  refine z_aload_n C dX10_readBracket_0 0 rfl ?_
  refine z_cVibP (P := PR0 I J) (st := []) (F := oOr (I, J)) C dX10_readBracket_1 mX10_395 (kd_57 hS) (hOr hC  hS hl (by have := gi_rng I 57 44; have := gi_rng I 57 43; have := gi_rng I 57 45; omega)) rfl rfl (Nat.le_of_ble_eq_true rfl) (by omega) (fun r1 I2 J3 hT4 hP4 => ?_)
  obtain ⟨frP4, fjP4, hlP4, hcP4, htP4⟩ := hP4
  have hbP4 := hlP4; unfold LX at hbP4
  refine z_if_ne_b 9 C dX10_readBracket_4 (by decide) (fun h5 => ?_) (fun h5 => ?_)
  ·
    have ht6 := htP4 h5
    refine z_aload_n C dX10_readBracket_9 0 rfl ?_
    refine z_bipush C dX10_readBracket_10 (by decide) ?_
    refine z_cVi (st := []) C dX10_readBracket_12 mX10_164 (kd_57 hS) (qX10_isSign hC 41 hS (by omega)) rfl rfl (Nat.le_of_ble_eq_true rfl) (by omega) ?_
    refine z_if_ne_b 24 C dX10_readBracket_15 (by decide) (fun h7 => ?_) (fun h7 => ?_)
    ·
      refine z_aload_n C dX10_readBracket_24 0 rfl ?_
      refine z_cVvF (st := []) (F := fX10_go (I2, J3)) C dX10_readBracket_25 mX10_161 (kd_57 hS) (qX10_go hC  hS hlP4) rfl rfl (Nat.le_of_ble_eq_true rfl) (by omega) (fun r8 I9 J10 hT11 => ?_)
      have hl12 : LX I9 := okX10_go hT11 hlP4; have hbhl12 := hl12; unfold LX at hbhl12
      refine z_iconst C dX10_readBracket_28 ?_
      have hf13 : fX10_readBracket oOr (I, J) = (true, I9, J10) := (by simp only [fX10_readBracket, hT4, if_pos h5, if_pos h7, hT11])
      exact z_zreturnp C dX10_readBracket_29 rfl (by rw [hf13]; rfl) (by rw [hf13]) (by rw [hf13]; show PR2 I J true I9 J10; exact PR2.mk (fun aq kq haq => (Eq.trans (frX10_go hT11 aq kq ⟨haq.2.2.2.2.2.2.2.2.1, haq.2.2.2.2.2.2.2.2.2.1, haq.2.2.2.2.2.2.2.2.2.2.1, haq.2.2.2.2.2.2.2.2.2.2.2.1, haq.2.2.2.2.2.2.2.2.2.2.2.2⟩) (frP4 aq kq ⟨haq.1, haq.2.1, haq.2.2.1, haq.2.2.2.1, haq.2.2.2.2.1, haq.2.2.2.2.2.1, haq.2.2.2.2.2.2.1, haq.2.2.2.2.2.2.2.1, haq.2.2.2.2.2.2.2.2.1, haq.2.2.2.2.2.2.2.2.2.1, haq.2.2.2.2.2.2.2.2.2.2.1, haq.2.2.2.2.2.2.2.2.2.2.2.1, haq.2.2.2.2.2.2.2.2.2.2.2.2⟩))) (fun aq kq haq => (Eq.trans (fjX10_go hT11 aq kq haq) (fjP4 aq kq haq))) hl12 (by have : gi I9 57 44 = gi I2 57 44 := (gi_fk (frX10_go hT11 57 44 (by decide))); have := gi_rng I2 57 44; have : gi I9 57 43 = gi I2 57 43 := (gi_fk (frX10_go hT11 57 43 (by decide))); have := gi_rng I2 57 43; have : gi I9 57 45 = gi I2 57 45 := (gi_fk (frX10_go hT11 57 45 (by decide))); have := gi_rng I2 57 45; have := gi_rng I 57 44; have := gi_rng I9 57 44; have := gi_rng I9 57 43; have := gi_rng I9 57 45; have := gi_rng I 57 45; omega) (fun _ => (by have : gi I9 57 43 = gi I2 57 43 := (gi_fk (frX10_go hT11 57 43 (by decide))); have := gi_rng I2 57 43; have : gi I9 57 44 = gi I2 57 44 := (gi_fk (frX10_go hT11 57 44 (by decide))); have := gi_rng I2 57 44; have := gi_rng I9 57 43; have := gi_rng I 57 43; have := gi_rng I9 57 44; have := gi_rng I 57 44; omega)))
    ·
      refine z_aload_n C dX10_readBracket_18 0 rfl ?_
      refine z_iconst C dX10_readBracket_19 ?_
      refine z_cVibF (st := []) (F := fX10_bad 1 (I2, J3)) C dX10_readBracket_20 mX10_151 (kd_57 hS) (qX10_bad hC 1 hS (by omega)) rfl rfl (Nat.le_of_ble_eq_true rfl) (by omega) (fun r14 I15 J16 hT17 => ?_)
      have hl18 : LX I15 := okX10_bad hT17 hlP4; have hbhl18 := hl18; unfold LX at hbhl18
      have hf19 : fX10_readBracket oOr (I, J) = (decide (r14 = true), I15, J16) := (by simp only [fX10_readBracket, hT4, if_pos h5, if_neg h7, hT17])
      exact z_zreturnp C dX10_readBracket_23 (b2_nar _) (by rw [hf19]; simp [b2]) (by rw [hf19]) (by rw [hf19]; show PR2 I J (decide (r14 = true)) I15 J16; exact PR2.mk (fun aq kq haq => (Eq.trans (frX10_bad hT17 aq kq ⟨haq.2.1, haq.2.2.1⟩) (frP4 aq kq ⟨haq.1, haq.2.1, haq.2.2.1, haq.2.2.2.1, haq.2.2.2.2.1, haq.2.2.2.2.2.1, haq.2.2.2.2.2.2.1, haq.2.2.2.2.2.2.2.1, haq.2.2.2.2.2.2.2.2.1, haq.2.2.2.2.2.2.2.2.2.1, haq.2.2.2.2.2.2.2.2.2.2.1, haq.2.2.2.2.2.2.2.2.2.2.2.1, haq.2.2.2.2.2.2.2.2.2.2.2.2⟩))) (fun aq kq haq => (Eq.trans (fjX10_bad hT17 aq kq trivial) (fjP4 aq kq haq))) hl18 (by have : gi I15 57 44 = gi I2 57 44 := (gi_fk (frX10_bad hT17 57 44 (by decide))); have := gi_rng I2 57 44; have : gi I15 57 43 = gi I2 57 43 := (gi_fk (frX10_bad hT17 57 43 (by decide))); have := gi_rng I2 57 43; have : gi I15 57 45 = gi I2 57 45 := (gi_fk (frX10_bad hT17 57 45 (by decide))); have := gi_rng I2 57 45; have := gi_rng I 57 44; have := gi_rng I15 57 44; have := gi_rng I15 57 43; have := gi_rng I15 57 45; have := gi_rng I 57 45; omega) (fun h => absurd (of_decide_eq_true h) (by rw [bad_f hT17]; decide)))
  ·
    refine z_iconst C dX10_readBracket_7 ?_
    have hf20 : fX10_readBracket oOr (I, J) = (false, I2, J3) := (by simp only [fX10_readBracket, hT4, if_neg h5])
    exact z_zreturnp C dX10_readBracket_8 rfl (by rw [hf20]; rfl) (by rw [hf20]) (by rw [hf20]; show PR2 I J false I2 J3; exact PR2.mk (fun aq kq haq => (frP4 aq kq ⟨haq.1, haq.2.1, haq.2.2.1, haq.2.2.2.1, haq.2.2.2.2.1, haq.2.2.2.2.2.1, haq.2.2.2.2.2.2.1, haq.2.2.2.2.2.2.2.1, haq.2.2.2.2.2.2.2.2.1, haq.2.2.2.2.2.2.2.2.2.1, haq.2.2.2.2.2.2.2.2.2.2.1, haq.2.2.2.2.2.2.2.2.2.2.2.1, haq.2.2.2.2.2.2.2.2.2.2.2.2⟩)) (fun aq kq haq => (fjP4 aq kq haq)) hlP4 (by have := gi_rng I2 57 44; have := gi_rng I2 57 43; have := gi_rng I2 57 45; have := gi_rng I 57 44; have := gi_rng I 57 45; omega) (fun h => absurd h (by decide)))

