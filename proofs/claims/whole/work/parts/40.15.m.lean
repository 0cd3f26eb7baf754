set_option maxHeartbeats 4000000 in
set_option maxRecDepth 100000 in
theorem tX5_readAll {G : Gx} {σ : State} (hC : Cy G σ) (dd : Nat) (rc : Nat → Nat → Nat → Int → Mm → Option (Int × Mm)) (hrc : ∀ (o0 : Nat) (o1 : Nat) (o2 : Nat) (v3 : Int) {M : Mm}, rg v3 → ∀ {R : Int × Mm}, rc o0 o1 o2 v3 M = some R → Ct G σ dd yX5_readOne cX5_readOne 5 (some .int) [.ref (G.2.2 + o0), .ref (G.2.2 + o1), .ref (G.2.2 + o2), .int (iv v3)] M 0 0 (Qi R.1 R.2)) (o0 : Nat) (o1 : Nat) (o2 : Nat) (v3 : Int) {M0 : Mm} (gv3 : rg v3) {R : Int × Mm} (h : uX5_readAll rc o0 o1 o2 v3 M0 = some R) : Ct G σ (dd + 13) yX5_readAll cX5_readAll 6 (some .int) [.ref (G.2.2 + o0), .ref (G.2.2 + o1), .ref (G.2.2 + o2), .int (iv v3)] M0 0 0 (Qi R.1 R.2) := by
  refine Ct.of hC.1 (by decide +kernel) (Nat.le_of_ble_eq_true rfl) ?_
  intro p l e R0 s m args below meth c C
  show Jz G σ p l e R0 s m args below meth c 6 0 0 (Qi R.1 R.2) M0 0 0 0 [(0, .ref (G.2.2 + o0)), (1, .ref (G.2.2 + o1)), (2, .ref (G.2.2 + o2)), (3, .int (iv v3))] []
  have hb60 : ∀ (v4 : Int) (M : Mm), (rg v4) → uX5_readAll_b60 rc v4 M = some R → Jz G σ p l e R0 s m args below meth c 6 0 0 (Qi R.1 R.2) M 0 0 60 [(4, .int (iv v4))] [] := by
    intro v4 M gv4 h
    unfold uX5_readAll_b60 at h
    refine z_iload C dX5_readAll_60 0 rfl ?_
    exact y_iretB C dX5_readAll_62 h gv4
  have hb12 : ∀ (o0 : Nat) (o1 : Nat) (o2 : Nat) (v3 : Int) (v4 : Int) (v5 : Int) (M : Mm), (rg v3) → (rg v4) → (rg v5) → uX5_readAll_b12 rc o0 o1 o2 v3 v4 v5 M = some R → Jz G σ p l e R0 s m args below meth c 6 0 0 (Qi R.1 R.2) M 0 0 12 [(0, .ref (G.2.2 + o0)), (1, .ref (G.2.2 + o1)), (2, .ref (G.2.2 + o2)), (3, .int (iv v3)), (4, .int (iv v4)), (5, .int (iv v5))] [] := by
    intro o0 o1 o2 v3 v4 v5 M gv3 gv4 gv5 h
    unfold uX5_readAll_b12 at h
    obtain ⟨b12, hb12_, hc12⟩ := bnd h
    have hL12 : ∀ (n : Nat) (v4 : Int) (v5 : Int) (M : Mm), (rg v4) → (rg v5) → lp (uX5_readAll_f12 rc o0 o1 o2 v3) n (v4, v5, M) = some b12 → Jz G σ p l e R0 s m args below meth c 6 0 0 (Qi R.1 R.2) M 0 0 12 [(0, .ref (G.2.2 + o0)), (1, .ref (G.2.2 + o1)), (2, .ref (G.2.2 + o2)), (3, .int (iv v3)), (4, .int (iv v4)), (5, .int (iv v5))] [] := by
      intro n; induction n with
      | zero => intro v4 v5 M gv4 gv5 hq; exact (lp_0 hq).elim
      | succ n12 ih12 =>
        intro v4 v5 M gv4 gv5 hq
        obtain ⟨z12, h, hZ12⟩ := lp_s hq
        have h : uX5_readAll_s12 rc o0 o1 o2 v3 v4 v5 M = some z12 := h
        unfold uX5_readAll_s12 at h
        refine z_iload C dX5_readAll_12 5 rfl ?_
        refine z_bipush C dX5_readAll_14 (by decide) ?_
        refine z_icmp_ge 60 C dX5_readAll_16 (by decide) gv5 (by decide) (fun e1 => ?_) (fun e1 => ?_)
        ·
          have h := (if_pos e1).symm.trans h
          have h : uX5_readAll_b60 rc v4 M = some R := lp_ex (K := (uX5_readAll_c12 rc o0 o1 o2 v3)) h hZ12 hc12
          refine z_drop (lv' := [(4, .int (iv v4))]) [4] rfl ?_
          exact hb60 v4 M gv4 h
        ·
          have h := (if_neg e1).symm.trans h
          refine z_iload C dX5_readAll_19 4 rfl ?_
          refine z_if_ne 60 C dX5_readAll_21 (by decide) gv4 (fun e2 => ?_) (fun e2 => ?_)
          ·
            have h := (if_neg e2).symm.trans h
            have h : uX5_readAll_b60 rc v4 M = some R := lp_ex (K := (uX5_readAll_c12 rc o0 o1 o2 v3)) h hZ12 hc12
            refine z_drop (lv' := [(4, .int (iv v4))]) [4] rfl ?_
            exact hb60 v4 M gv4 h
          ·
            have h := (if_pos e2).symm.trans h
            refine z_aload_n C dX5_readAll_24 1 rfl ?_
            obtain ⟨x3, hx3, h⟩ := bnd h
            refine y_getI C dX5_readAll_25 fX5_46 rfl hx3 (fun gx3 => ?_)
            refine z_bipush C dX5_readAll_28 (by decide) ?_
            refine z_icmp_ne 60 C dX5_readAll_30 (by decide) gx3 (by decide) (fun e4 => ?_) (fun e4 => ?_)
            ·
              have h := (if_neg e4).symm.trans h
              have h : uX5_readAll_b60 rc v4 M = some R := lp_ex (K := (uX5_readAll_c12 rc o0 o1 o2 v3)) h hZ12 hc12
              refine z_drop (lv' := [(4, .int (iv v4))]) [4] rfl ?_
              exact hb60 v4 M gv4 h
            ·
              have h := (if_pos e4).symm.trans h
              refine z_aload_n C dX5_readAll_33 1 rfl ?_
              obtain ⟨k5, h⟩ := gK_inv h
              obtain ⟨M6, hM6, h⟩ := bnd h
              refine y_cVv (st := []) C dX5_readAll_34 mX5_37 k5 (tX7_advance hC o1  hM6) rfl rfl (Nat.le_of_ble_eq_true rfl) (by omega) ?_
              refine z_aload_n C dX5_readAll_37 0 rfl ?_
              refine z_aload_n C dX5_readAll_38 1 rfl ?_
              refine z_aload_n C dX5_readAll_39 2 rfl ?_
              refine z_iload_n C dX5_readAll_40 3 rfl ?_
              obtain ⟨k7, h⟩ := gK_inv h
              obtain ⟨r8, M9, hr8, h⟩ := bnd2 h
              refine y_cVi (st := []) C dX5_readAll_41 mX5_56 k7 (hrc o0 o1 o2 v3 gv3 hr8) rfl rfl (Nat.le_of_ble_eq_true rfl) (by omega) (fun gr8 => ?_)
              refine z_istore (lv' := [(0, .ref (G.2.2 + o0)), (1, .ref (G.2.2 + o1)), (2, .ref (G.2.2 + o2)), (3, .int (iv v3)), (4, .int (iv r8)), (5, .int (iv v5))]) C dX5_readAll_44 (by decide) [1, 2, 3, 4, 0, 5] rfl ?_
              refine z_aload_n C dX5_readAll_46 0 rfl ?_
              refine z_bipush C dX5_readAll_47 (by decide) ?_
              refine z_iconst C dX5_readAll_49 ?_
              refine z_iconst C dX5_readAll_50 ?_
              obtain ⟨k10, h⟩ := gK_inv h
              obtain ⟨M11, hM11, h⟩ := bnd h
              refine y_cVv (st := []) C dX5_readAll_51 mX5_52 k10 (tX5_add hC o0 20 0 0 (by decide) (by decide) (by decide) hM11) rfl rfl (Nat.le_of_ble_eq_true rfl) (by omega) ?_
              refine y_iinc (lv' := [(0, .ref (G.2.2 + o0)), (1, .ref (G.2.2 + o1)), (2, .ref (G.2.2 + o2)), (3, .int (iv v3)), (4, .int (iv r8)), (5, .int (iv (w32 (v5 + 1))))]) C dX5_readAll_54 5 rfl (by decide) [1, 2, 3, 4, 5, 0] rfl ?_
              refine z_goto 12 C dX5_readAll_57 (by decide) ?_
              exact ih12 r8 (w32 (v5 + 1)) M11 gr8 (w32_rng _) (lp_back h hZ12)
    exact hL12 _ v4 v5 M gv4 gv5 hb12_
  unfold uX5_readAll at h
  refine z_aload_n C dX5_readAll_0 0 rfl ?_
  refine z_aload_n C dX5_readAll_1 1 rfl ?_
  refine z_aload_n C dX5_readAll_2 2 rfl ?_
  refine z_iload_n C dX5_readAll_3 3 rfl ?_
  obtain ⟨k12, h⟩ := gK_inv h
  obtain ⟨r13, M14, hr13, h⟩ := bnd2 h
  refine y_cVi (st := []) C dX5_readAll_4 mX5_56 k12 (hrc o0 o1 o2 v3 gv3 hr13) rfl rfl (Nat.le_of_ble_eq_true rfl) (by omega) (fun gr13 => ?_)
  refine z_istore (lv' := [(0, .ref (G.2.2 + o0)), (1, .ref (G.2.2 + o1)), (2, .ref (G.2.2 + o2)), (3, .int (iv v3)), (4, .int (iv r13))]) C dX5_readAll_7 (by decide) [1, 2, 3, 4, 0] rfl ?_
  refine z_iconst C dX5_readAll_9 ?_
  refine z_istore (lv' := [(0, .ref (G.2.2 + o0)), (1, .ref (G.2.2 + o1)), (2, .ref (G.2.2 + o2)), (3, .int (iv v3)), (4, .int (iv r13)), (5, .int (iv 0))]) C dX5_readAll_10 (by decide) [1, 2, 3, 4, 5, 0] rfl ?_
  exact hb12 o0 o1 o2 v3 r13 0 M14 gv3 gr13 (by decide) h

set_option maxHeartbeats 4000000 in
set_option maxRecDepth 100000 in
theorem tX5_readCond {G : Gx} {σ : State} (hC : Cy G σ) (dd : Nat) (rc : Nat → Nat → Nat → Int → Mm → Option (Int × Mm)) (hrc : ∀ (o0 : Nat) (o1 : Nat) (o2 : Nat) (v3 : Int) {M : Mm}, rg v3 → ∀ {R : Int × Mm}, rc o0 o1 o2 v3 M = some R → Ct G σ dd yX5_readOne cX5_readOne 5 (some .int) [.ref (G.2.2 + o0), .ref (G.2.2 + o1), .ref (G.2.2 + o2), .int (iv v3)] M 0 0 (Qi R.1 R.2)) (o0 : Nat) (o1 : Nat) (o2 : Nat) (v3 : Int) {M0 : Mm} (gv3 : rg v3) {R : Int × Mm} (h : uX5_readCond rc o0 o1 o2 v3 M0 = some R) : Ct G σ (dd + 26) yX5_readCond cX5_readCond 6 (some .int) [.ref (G.2.2 + o0), .ref (G.2.2 + o1), .ref (G.2.2 + o2), .int (iv v3)] M0 0 0 (Qi R.1 R.2) := by
  refine Ct.of hC.1 (by decide +kernel) (Nat.le_of_ble_eq_true rfl) ?_
  intro p l e R0 s m args below meth c C
  show Jz G σ p l e R0 s m args below meth c 6 0 0 (Qi R.1 R.2) M0 0 0 0 [(0, .ref (G.2.2 + o0)), (1, .ref (G.2.2 + o1)), (2, .ref (G.2.2 + o2)), (3, .int (iv v3))] []
  have hb60 : ∀ (v4 : Int) (M : Mm), (rg v4) → uX5_readCond_b60 rc v4 M = some R → Jz G σ p l e R0 s m args below meth c 6 0 0 (Qi R.1 R.2) M 0 0 60 [(4, .int (iv v4))] [] := by
    intro v4 M gv4 h
    unfold uX5_readCond_b60 at h
    refine z_iload C dX5_readCond_60 0 rfl ?_
    exact y_iretB C dX5_readCond_62 h gv4
  have hb12 : ∀ (o0 : Nat) (o1 : Nat) (o2 : Nat) (v3 : Int) (v4 : Int) (v5 : Int) (M : Mm), (rg v3) → (rg v4) → (rg v5) → uX5_readCond_b12 rc o0 o1 o2 v3 v4 v5 M = some R → Jz G σ p l e R0 s m args below meth c 6 0 0 (Qi R.1 R.2) M 0 0 12 [(0, .ref (G.2.2 + o0)), (1, .ref (G.2.2 + o1)), (2, .ref (G.2.2 + o2)), (3, .int (iv v3)), (4, .int (iv v4)), (5, .int (iv v5))] [] := by
    intro o0 o1 o2 v3 v4 v5 M gv3 gv4 gv5 h
    unfold uX5_readCond_b12 at h
    obtain ⟨b12, hb12_, hc12⟩ := bnd h
    have hL12 : ∀ (n : Nat) (v4 : Int) (v5 : Int) (M : Mm), (rg v4) → (rg v5) → lp (uX5_readCond_f12 rc o0 o1 o2 v3) n (v4, v5, M) = some b12 → Jz G σ p l e R0 s m args below meth c 6 0 0 (Qi R.1 R.2) M 0 0 12 [(0, .ref (G.2.2 + o0)), (1, .ref (G.2.2 + o1)), (2, .ref (G.2.2 + o2)), (3, .int (iv v3)), (4, .int (iv v4)), (5, .int (iv v5))] [] := by
      intro n; induction n with
      | zero => intro v4 v5 M gv4 gv5 hq; exact (lp_0 hq).elim
      | succ n12 ih12 =>
        intro v4 v5 M gv4 gv5 hq
        obtain ⟨z12, h, hZ12⟩ := lp_s hq
        have h : uX5_readCond_s12 rc o0 o1 o2 v3 v4 v5 M = some z12 := h
        unfold uX5_readCond_s12 at h
        refine z_iload C dX5_readCond_12 5 rfl ?_
        refine z_bipush C dX5_readCond_14 (by decide) ?_
        refine z_icmp_ge 60 C dX5_readCond_16 (by decide) gv5 (by decide) (fun e1 => ?_) (fun e1 => ?_)
        ·
          have h := (if_pos e1).symm.trans h
          have h : uX5_readCond_b60 rc v4 M = some R := lp_ex (K := (uX5_readCond_c12 rc o0 o1 o2 v3)) h hZ12 hc12
          refine z_drop (lv' := [(4, .int (iv v4))]) [4] rfl ?_
          exact hb60 v4 M gv4 h
        ·
          have h := (if_neg e1).symm.trans h
          refine z_iload C dX5_readCond_19 4 rfl ?_
          refine z_if_ne 60 C dX5_readCond_21 (by decide) gv4 (fun e2 => ?_) (fun e2 => ?_)
          ·
            have h := (if_neg e2).symm.trans h
            have h : uX5_readCond_b60 rc v4 M = some R := lp_ex (K := (uX5_readCond_c12 rc o0 o1 o2 v3)) h hZ12 hc12
            refine z_drop (lv' := [(4, .int (iv v4))]) [4] rfl ?_
            exact hb60 v4 M gv4 h
          ·
            have h := (if_pos e2).symm.trans h
            refine z_aload_n C dX5_readCond_24 1 rfl ?_
            obtain ⟨x3, hx3, h⟩ := bnd h
            refine y_getI C dX5_readCond_25 fX5_46 rfl hx3 (fun gx3 => ?_)
            refine z_bipush C dX5_readCond_28 (by decide) ?_
            refine z_icmp_ne 60 C dX5_readCond_30 (by decide) gx3 (by decide) (fun e4 => ?_) (fun e4 => ?_)
            ·
              have h := (if_neg e4).symm.trans h
              have h : uX5_readCond_b60 rc v4 M = some R := lp_ex (K := (uX5_readCond_c12 rc o0 o1 o2 v3)) h hZ12 hc12
              refine z_drop (lv' := [(4, .int (iv v4))]) [4] rfl ?_
              exact hb60 v4 M gv4 h
            ·
              have h := (if_pos e4).symm.trans h
              refine z_aload_n C dX5_readCond_33 1 rfl ?_
              obtain ⟨k5, h⟩ := gK_inv h
              obtain ⟨M6, hM6, h⟩ := bnd h
              refine y_cVv (st := []) C dX5_readCond_34 mX5_37 k5 (tX7_advance hC o1  hM6) rfl rfl (Nat.le_of_ble_eq_true rfl) (by omega) ?_
              refine z_aload_n C dX5_readCond_37 0 rfl ?_
              refine z_aload_n C dX5_readCond_38 1 rfl ?_
              refine z_aload_n C dX5_readCond_39 2 rfl ?_
              refine z_iload_n C dX5_readCond_40 3 rfl ?_
              obtain ⟨k7, h⟩ := gK_inv h
              obtain ⟨r8, M9, hr8, h⟩ := bnd2 h
              refine y_cVi (st := []) C dX5_readCond_41 mX5_49 k7 (tX5_readAll hC dd rc hrc o0 o1 o2 v3 gv3 hr8) rfl rfl (Nat.le_of_ble_eq_true rfl) (by omega) (fun gr8 => ?_)
              refine z_istore (lv' := [(0, .ref (G.2.2 + o0)), (1, .ref (G.2.2 + o1)), (2, .ref (G.2.2 + o2)), (3, .int (iv v3)), (4, .int (iv r8)), (5, .int (iv v5))]) C dX5_readCond_44 (by decide) [1, 2, 3, 4, 0, 5] rfl ?_
              refine z_aload_n C dX5_readCond_46 0 rfl ?_
              refine z_bipush C dX5_readCond_47 (by decide) ?_
              refine z_iconst C dX5_readCond_49 ?_
              refine z_iconst C dX5_readCond_50 ?_
              obtain ⟨k10, h⟩ := gK_inv h
              obtain ⟨M11, hM11, h⟩ := bnd h
              refine y_cVv (st := []) C dX5_readCond_51 mX5_52 k10 (tX5_add hC o0 19 0 0 (by decide) (by decide) (by decide) hM11) rfl rfl (Nat.le_of_ble_eq_true rfl) (by omega) ?_
              refine y_iinc (lv' := [(0, .ref (G.2.2 + o0)), (1, .ref (G.2.2 + o1)), (2, .ref (G.2.2 + o2)), (3, .int (iv v3)), (4, .int (iv r8)), (5, .int (iv (w32 (v5 + 1))))]) C dX5_readCond_54 5 rfl (by decide) [1, 2, 3, 4, 5, 0] rfl ?_
              refine z_goto 12 C dX5_readCond_57 (by decide) ?_
              exact ih12 r8 (w32 (v5 + 1)) M11 gr8 (w32_rng _) (lp_back h hZ12)
    exact hL12 _ v4 v5 M gv4 gv5 hb12_
  unfold uX5_readCond at h
  refine z_aload_n C dX5_readCond_0 0 rfl ?_
  refine z_aload_n C dX5_readCond_1 1 rfl ?_
  refine z_aload_n C dX5_readCond_2 2 rfl ?_
  refine z_iload_n C dX5_readCond_3 3 rfl ?_
  obtain ⟨k12, h⟩ := gK_inv h
  obtain ⟨r13, M14, hr13, h⟩ := bnd2 h
  refine y_cVi (st := []) C dX5_readCond_4 mX5_49 k12 (tX5_readAll hC dd rc hrc o0 o1 o2 v3 gv3 hr13) rfl rfl (Nat.le_of_ble_eq_true rfl) (by omega) (fun gr13 => ?_)
  refine z_istore (lv' := [(0, .ref (G.2.2 + o0)), (1, .ref (G.2.2 + o1)), (2, .ref (G.2.2 + o2)), (3, .int (iv v3)), (4, .int (iv r13))]) C dX5_readCond_7 (by decide) [1, 2, 3, 4, 0] rfl ?_
  refine z_iconst C dX5_readCond_9 ?_
  refine z_istore (lv' := [(0, .ref (G.2.2 + o0)), (1, .ref (G.2.2 + o1)), (2, .ref (G.2.2 + o2)), (3, .int (iv v3)), (4, .int (iv r13)), (5, .int (iv 0))]) C dX5_readCond_10 (by decide) [1, 2, 3, 4, 5, 0] rfl ?_
  exact hb12 o0 o1 o2 v3 r13 0 M14 gv3 gr13 (by decide) h

set_option maxHeartbeats 4000000 in
set_option maxRecDepth 100000 in
theorem tX5_readBracket {G : Gx} {σ : State} (hC : Cy G σ) (dd : Nat) (rc : Nat → Nat → Nat → Int → Mm → Option (Int × Mm)) (hrc : ∀ (o0 : Nat) (o1 : Nat) (o2 : Nat) (v3 : Int) {M : Mm}, rg v3 → ∀ {R : Int × Mm}, rc o0 o1 o2 v3 M = some R → Ct G σ dd yX5_readOne cX5_readOne 5 (some .int) [.ref (G.2.2 + o0), .ref (G.2.2 + o1), .ref (G.2.2 + o2), .int (iv v3)] M 0 0 (Qi R.1 R.2)) (o0 : Nat) (o1 : Nat) (o2 : Nat) (v3 : Int) {M0 : Mm} (gv3 : rg v3) {R : Int × Mm} (h : uX5_readBracket rc o0 o1 o2 v3 M0 = some R) : Ct G σ (dd + 39) yX5_readBracket cX5_readBracket 5 (some .int) [.ref (G.2.2 + o0), .ref (G.2.2 + o1), .ref (G.2.2 + o2), .int (iv v3)] M0 0 0 (Qi R.1 R.2) := by
  refine Ct.of hC.1 (by decide +kernel) (Nat.le_of_ble_eq_true rfl) ?_
  intro p l e R0 s m args below meth c C
  show Jz G σ p l e R0 s m args below meth c 5 0 0 (Qi R.1 R.2) M0 0 0 0 [(0, .ref (G.2.2 + o0)), (1, .ref (G.2.2 + o1)), (2, .ref (G.2.2 + o2)), (3, .int (iv v3))] []
  unfold uX5_readBracket at h
  refine z_aload_n C dX5_readBracket_0 0 rfl ?_
  refine z_aload_n C dX5_readBracket_1 1 rfl ?_
  refine z_aload_n C dX5_readBracket_2 2 rfl ?_
  refine z_iload_n C dX5_readBracket_3 3 rfl ?_
  refine z_iconst C dX5_readBracket_4 ?_
  refine y_iadd C dX5_readBracket_5 ?_
  obtain ⟨k1, h⟩ := gK_inv h
  obtain ⟨r2, M3, hr2, h⟩ := bnd2 h
  refine y_cVi (st := []) C dX5_readBracket_6 mX5_42 k1 (tX5_readCond hC dd rc hrc o0 o1 o2 (w32 (v3 + 1)) (w32_rng _) hr2) rfl rfl (Nat.le_of_ble_eq_true rfl) (by omega) (fun gr2 => ?_)
  refine z_istore (lv' := [(0, .ref (G.2.2 + o0)), (1, .ref (G.2.2 + o1)), (2, .ref (G.2.2 + o2)), (3, .int (iv v3)), (4, .int (iv r2))]) C dX5_readBracket_9 (by decide) [1, 2, 3, 4, 0] rfl ?_
  refine z_iload C dX5_readBracket_11 4 rfl ?_
  refine z_if_eq 19 C dX5_readBracket_13 (by decide) gr2 (fun e4 => ?_) (fun e4 => ?_)
  ·
    have h := (if_pos e4).symm.trans h
    refine z_aload_n C dX5_readBracket_19 1 rfl ?_
    obtain ⟨x5, hx5, h⟩ := bnd h
    refine y_getI C dX5_readBracket_20 fX5_46 rfl hx5 (fun gx5 => ?_)
    refine z_bipush C dX5_readBracket_23 (by decide) ?_
    refine z_icmp_eq 30 C dX5_readBracket_25 (by decide) gx5 (by decide) (fun e6 => ?_) (fun e6 => ?_)
    ·
      have h := (if_pos e6).symm.trans h
      refine z_aload_n C dX5_readBracket_30 1 rfl ?_
      obtain ⟨k7, h⟩ := gK_inv h
      obtain ⟨M8, hM8, h⟩ := bnd h
      refine y_cVv (st := []) C dX5_readBracket_31 mX5_37 k7 (tX7_advance hC o1  hM8) rfl rfl (Nat.le_of_ble_eq_true rfl) (by omega) ?_
      refine z_iconst C dX5_readBracket_34 ?_
      exact y_iretB C dX5_readBracket_35 h (by decide)
    ·
      have h := (if_neg e6).symm.trans h
      refine z_iconst C dX5_readBracket_28 ?_
      exact y_iretB C dX5_readBracket_29 h (by decide)
  ·
    have h := (if_neg e4).symm.trans h
    refine z_iload C dX5_readBracket_16 4 rfl ?_
    exact y_iretB C dX5_readBracket_18 h gr2

set_option maxHeartbeats 4000000 in
set_option maxRecDepth 100000 in
theorem tX5_readNot {G : Gx} {σ : State} (hC : Cy G σ) (dd : Nat) (rc : Nat → Nat → Nat → Int → Mm → Option (Int × Mm)) (hrc : ∀ (o0 : Nat) (o1 : Nat) (o2 : Nat) (v3 : Int) {M : Mm}, rg v3 → ∀ {R : Int × Mm}, rc o0 o1 o2 v3 M = some R → Ct G σ dd yX5_readOne cX5_readOne 5 (some .int) [.ref (G.2.2 + o0), .ref (G.2.2 + o1), .ref (G.2.2 + o2), .int (iv v3)] M 0 0 (Qi R.1 R.2)) (o0 : Nat) (o1 : Nat) (o2 : Nat) (v3 : Int) {M0 : Mm} (gv3 : rg v3) {R : Int × Mm} (h : uX5_readNot rc o0 o1 o2 v3 M0 = some R) : Ct G σ (dd + 52) yX5_readNot cX5_readNot 5 (some .int) [.ref (G.2.2 + o0), .ref (G.2.2 + o1), .ref (G.2.2 + o2), .int (iv v3)] M0 0 0 (Qi R.1 R.2) := by
  refine Ct.of hC.1 (by decide +kernel) (Nat.le_of_ble_eq_true rfl) ?_
  intro p l e R0 s m args below meth c C
  show Jz G σ p l e R0 s m args below meth c 5 0 0 (Qi R.1 R.2) M0 0 0 0 [(0, .ref (G.2.2 + o0)), (1, .ref (G.2.2 + o1)), (2, .ref (G.2.2 + o2)), (3, .int (iv v3))] []
  unfold uX5_readNot at h
  refine z_aload_n C dX5_readNot_0 0 rfl ?_
  refine z_aload_n C dX5_readNot_1 1 rfl ?_
  refine z_aload_n C dX5_readNot_2 2 rfl ?_
  refine z_iload_n C dX5_readNot_3 3 rfl ?_
  refine z_iconst C dX5_readNot_4 ?_
  refine y_iadd C dX5_readNot_5 ?_
  obtain ⟨k1, h⟩ := gK_inv h
  obtain ⟨r2, M3, hr2, h⟩ := bnd2 h
  refine y_cVi (st := []) C dX5_readNot_6 mX5_56 k1 (hrc o0 o1 o2 (w32 (v3 + 1)) (w32_rng _) hr2) rfl rfl (Nat.le_of_ble_eq_true rfl) (by omega) (fun gr2 => ?_)
  refine z_istore (lv' := [(0, .ref (G.2.2 + o0)), (1, .ref (G.2.2 + o1)), (2, .ref (G.2.2 + o2)), (3, .int (iv v3)), (4, .int (iv r2))]) C dX5_readNot_9 (by decide) [1, 2, 3, 4, 0] rfl ?_
  refine z_aload_n C dX5_readNot_11 0 rfl ?_
  refine z_bipush C dX5_readNot_12 (by decide) ?_
  refine z_iconst C dX5_readNot_14 ?_
  refine z_iconst C dX5_readNot_15 ?_
  obtain ⟨k4, h⟩ := gK_inv h
  obtain ⟨M5, hM5, h⟩ := bnd h
  refine y_cVv (st := []) C dX5_readNot_16 mX5_52 k4 (tX5_add hC o0 21 0 0 (by decide) (by decide) (by decide) hM5) rfl rfl (Nat.le_of_ble_eq_true rfl) (by omega) ?_
  refine z_iload C dX5_readNot_19 4 rfl ?_
  exact y_iretB C dX5_readNot_21 h gr2

set_option maxHeartbeats 4000000 in
set_option maxRecDepth 100000 in
theorem tX5_readOne_o {G : Gx} {σ : State} (hC : Cy G σ) (dd : Nat) (rc : Nat → Nat → Nat → Int → Mm → Option (Int × Mm)) (hrc : ∀ (o0 : Nat) (o1 : Nat) (o2 : Nat) (v3 : Int) {M : Mm}, rg v3 → ∀ {R : Int × Mm}, rc o0 o1 o2 v3 M = some R → Ct G σ dd yX5_readOne cX5_readOne 5 (some .int) [.ref (G.2.2 + o0), .ref (G.2.2 + o1), .ref (G.2.2 + o2), .int (iv v3)] M 0 0 (Qi R.1 R.2)) (o0 : Nat) (o1 : Nat) (o2 : Nat) (v3 : Int) {M0 : Mm} (gv3 : rg v3) {R : Int × Mm} (h : uX5_readOne_o rc o0 o1 o2 v3 M0 = some R) : Ct G σ (dd + 65) yX5_readOne cX5_readOne 5 (some .int) [.ref (G.2.2 + o0), .ref (G.2.2 + o1), .ref (G.2.2 + o2), .int (iv v3)] M0 0 0 (Qi R.1 R.2) := by
  refine Ct.of hC.1 (by decide +kernel) (Nat.le_of_ble_eq_true rfl) ?_
  intro p l e R0 s m args below meth c C
  show Jz G σ p l e R0 s m args below meth c 5 0 0 (Qi R.1 R.2) M0 0 0 0 [(0, .ref (G.2.2 + o0)), (1, .ref (G.2.2 + o1)), (2, .ref (G.2.2 + o2)), (3, .int (iv v3))] []
  have hb29 : ∀ (o0 : Nat) (o1 : Nat) (o2 : Nat) (v3 : Int) (v4 : Int) (M : Mm), (rg v3) → (rg v4) → uX5_readOne_b29 rc o0 o1 o2 v3 v4 M = some R → Jz G σ p l e R0 s m args below meth c 5 0 0 (Qi R.1 R.2) M 0 0 29 [(0, .ref (G.2.2 + o0)), (1, .ref (G.2.2 + o1)), (2, .ref (G.2.2 + o2)), (3, .int (iv v3)), (4, .int (iv v4))] [] := by
    intro o0 o1 o2 v3 v4 M gv3 gv4 h
    unfold uX5_readOne_b29 at h
    refine z_aload_n C dX5_readOne_29 0 rfl ?_
    obtain ⟨x1, hx1, h⟩ := bnd h
    refine y_getI C dX5_readOne_30 fX5_21 rfl hx1 (fun gx1 => ?_)
    refine z_bipush C dX5_readOne_33 (by decide) ?_
    refine z_icmp_ge 44 C dX5_readOne_35 (by decide) gx1 (by decide) (fun e2 => ?_) (fun e2 => ?_)
    ·
      have h := (if_pos e2).symm.trans h
      refine z_iconst C dX5_readOne_44 ?_
      exact y_iretB C dX5_readOne_45 h (by decide)
    ·
      have h := (if_neg e2).symm.trans h
      refine z_iload_n C dX5_readOne_38 3 rfl ?_
      refine z_bipush C dX5_readOne_39 (by decide) ?_
      refine z_icmp_le 46 C dX5_readOne_41 (by decide) gv3 (by decide) (fun e3 => ?_) (fun e3 => ?_)
      ·
        have h := (if_pos e3).symm.trans h
        refine z_aload_n C dX5_readOne_46 0 rfl ?_
        refine z_dup C dX5_readOne_47 rfl ?_
        obtain ⟨x4, hx4, h⟩ := bnd h
        refine y_getI C dX5_readOne_48 fX5_21 rfl hx4 (fun gx4 => ?_)
        refine z_iconst C dX5_readOne_51 ?_
        refine y_iadd C dX5_readOne_52 ?_
        obtain ⟨M5, hM5, h⟩ := bnd h
        refine y_putI C dX5_readOne_53 fX5_21 rfl rfl rfl rfl hM5 ?_
        refine z_aload_n C dX5_readOne_56 1 rfl ?_
        obtain ⟨k6, h⟩ := gK_inv h
        obtain ⟨M7, hM7, h⟩ := bnd h
        refine y_cVv (st := []) C dX5_readOne_57 mX5_37 k6 (tX7_advance hC o1  hM7) rfl rfl (Nat.le_of_ble_eq_true rfl) (by omega) ?_
        refine z_iload C dX5_readOne_60 4 rfl ?_
        by_cases e8 : v4 = 8
        ·
          have h := (if_pos e8).symm.trans h
          refine z_tableIn (off := 94) 156 C dX5_readOne_62 gv4 (by omega) (by omega) (by rw [e8]; rfl) (by decide) ?_
          refine z_aload_n C dX5_readOne_156 0 rfl ?_
          refine z_aload_n C dX5_readOne_157 1 rfl ?_
          refine z_aload_n C dX5_readOne_158 2 rfl ?_
          refine z_iload_n C dX5_readOne_159 3 rfl ?_
          obtain ⟨k9, h⟩ := gK_inv h
          obtain ⟨r10, M11, hr10, h⟩ := bnd2 h
          refine y_cVi (st := []) C dX5_readOne_160 mX5_62 k9 (tX5_readBracket hC dd rc hrc o0 o1 o2 v3 gv3 hr10) rfl rfl (Nat.le_of_ble_eq_true rfl) (by omega) (fun gr10 => ?_)
          exact y_iretB C dX5_readOne_163 h gr10
        have h := (if_neg e8).symm.trans h
        by_cases e12 : v4 = 9
        ·
          have h := (if_pos e12).symm.trans h
          refine z_tableIn (off := 121) 183 C dX5_readOne_62 gv4 (by omega) (by omega) (by rw [e12]; rfl) (by decide) ?_
          refine z_aload_n C dX5_readOne_183 0 rfl ?_
          refine z_aload_n C dX5_readOne_184 1 rfl ?_
          refine z_iload C dX5_readOne_185 4 rfl ?_
          obtain ⟨k13, h⟩ := gK_inv h
          obtain ⟨r14, M15, hr14, h⟩ := bnd2 h
          refine y_cVi (st := []) C dX5_readOne_187 mX5_68 k13 (tX5_readMeasure hC o0 o1 v4 gv4 hr14) rfl rfl (Nat.le_of_ble_eq_true rfl) (by omega) (fun gr14 => ?_)
          exact y_iretB C dX5_readOne_190 h gr14
        have h := (if_neg e12).symm.trans h
        by_cases e16 : v4 = 10
        ·
          have h := (if_pos e16).symm.trans h
          refine z_tableIn (off := 121) 183 C dX5_readOne_62 gv4 (by omega) (by omega) (by rw [e16]; rfl) (by decide) ?_
          refine z_aload_n C dX5_readOne_183 0 rfl ?_
          refine z_aload_n C dX5_readOne_184 1 rfl ?_
          refine z_iload C dX5_readOne_185 4 rfl ?_
          obtain ⟨k17, h⟩ := gK_inv h
          obtain ⟨r18, M19, hr18, h⟩ := bnd2 h
          refine y_cVi (st := []) C dX5_readOne_187 mX5_68 k17 (tX5_readMeasure hC o0 o1 v4 gv4 hr18) rfl rfl (Nat.le_of_ble_eq_true rfl) (by omega) (fun gr18 => ?_)
          exact y_iretB C dX5_readOne_190 h gr18
        have h := (if_neg e16).symm.trans h
        by_cases e20 : v4 = 11
        ·
          have h := (if_pos e20).symm.trans h
          refine z_tableIn (off := 121) 183 C dX5_readOne_62 gv4 (by omega) (by omega) (by rw [e20]; rfl) (by decide) ?_
          refine z_aload_n C dX5_readOne_183 0 rfl ?_
          refine z_aload_n C dX5_readOne_184 1 rfl ?_
          refine z_iload C dX5_readOne_185 4 rfl ?_
          obtain ⟨k21, h⟩ := gK_inv h
          obtain ⟨r22, M23, hr22, h⟩ := bnd2 h
          refine y_cVi (st := []) C dX5_readOne_187 mX5_68 k21 (tX5_readMeasure hC o0 o1 v4 gv4 hr22) rfl rfl (Nat.le_of_ble_eq_true rfl) (by omega) (fun gr22 => ?_)
          exact y_iretB C dX5_readOne_190 h gr22
        have h := (if_neg e20).symm.trans h
        by_cases e24 : v4 = 12
        ·
          have h := (if_pos e24).symm.trans h
          refine z_tableIn (off := 121) 183 C dX5_readOne_62 gv4 (by omega) (by omega) (by rw [e24]; rfl) (by decide) ?_
          refine z_aload_n C dX5_readOne_183 0 rfl ?_
          refine z_aload_n C dX5_readOne_184 1 rfl ?_
          refine z_iload C dX5_readOne_185 4 rfl ?_
          obtain ⟨k25, h⟩ := gK_inv h
          obtain ⟨r26, M27, hr26, h⟩ := bnd2 h
          refine y_cVi (st := []) C dX5_readOne_187 mX5_68 k25 (tX5_readMeasure hC o0 o1 v4 gv4 hr26) rfl rfl (Nat.le_of_ble_eq_true rfl) (by omega) (fun gr26 => ?_)
          exact y_iretB C dX5_readOne_190 h gr26
        have h := (if_neg e24).symm.trans h
        by_cases e28 : v4 = 13
        ·
          have h := (if_pos e28).symm.trans h
          refine z_tableIn (off := 121) 183 C dX5_readOne_62 gv4 (by omega) (by omega) (by rw [e28]; rfl) (by decide) ?_
          refine z_aload_n C dX5_readOne_183 0 rfl ?_
          refine z_aload_n C dX5_readOne_184 1 rfl ?_
          refine z_iload C dX5_readOne_185 4 rfl ?_
          obtain ⟨k29, h⟩ := gK_inv h
          obtain ⟨r30, M31, hr30, h⟩ := bnd2 h
          refine y_cVi (st := []) C dX5_readOne_187 mX5_68 k29 (tX5_readMeasure hC o0 o1 v4 gv4 hr30) rfl rfl (Nat.le_of_ble_eq_true rfl) (by omega) (fun gr30 => ?_)
          exact y_iretB C dX5_readOne_190 h gr30
        have h := (if_neg e28).symm.trans h
        by_cases e32 : v4 = 14
        ·
          have h := (if_pos e32).symm.trans h
          refine z_tableIn (off := 121) 183 C dX5_readOne_62 gv4 (by omega) (by omega) (by rw [e32]; rfl) (by decide) ?_
          refine z_aload_n C dX5_readOne_183 0 rfl ?_
          refine z_aload_n C dX5_readOne_184 1 rfl ?_
          refine z_iload C dX5_readOne_185 4 rfl ?_
          obtain ⟨k33, h⟩ := gK_inv h
          obtain ⟨r34, M35, hr34, h⟩ := bnd2 h
          refine y_cVi (st := []) C dX5_readOne_187 mX5_68 k33 (tX5_readMeasure hC o0 o1 v4 gv4 hr34) rfl rfl (Nat.le_of_ble_eq_true rfl) (by omega) (fun gr34 => ?_)
          exact y_iretB C dX5_readOne_190 h gr34
        have h := (if_neg e32).symm.trans h
        by_cases e36 : v4 = 15
        ·
          have h := (if_pos e36).symm.trans h
          refine z_tableIn (off := 121) 183 C dX5_readOne_62 gv4 (by omega) (by omega) (by rw [e36]; rfl) (by decide) ?_
          refine z_aload_n C dX5_readOne_183 0 rfl ?_
          refine z_aload_n C dX5_readOne_184 1 rfl ?_
          refine z_iload C dX5_readOne_185 4 rfl ?_
          obtain ⟨k37, h⟩ := gK_inv h
          obtain ⟨r38, M39, hr38, h⟩ := bnd2 h
          refine y_cVi (st := []) C dX5_readOne_187 mX5_68 k37 (tX5_readMeasure hC o0 o1 v4 gv4 hr38) rfl rfl (Nat.le_of_ble_eq_true rfl) (by omega) (fun gr38 => ?_)
          exact y_iretB C dX5_readOne_190 h gr38
        have h := (if_neg e36).symm.trans h
        by_cases e40 : v4 = 16
        ·
          have h := (if_pos e40).symm.trans h
          refine z_tableIn (off := 121) 183 C dX5_readOne_62 gv4 (by omega) (by omega) (by rw [e40]; rfl) (by decide) ?_
          refine z_aload_n C dX5_readOne_183 0 rfl ?_
          refine z_aload_n C dX5_readOne_184 1 rfl ?_
          refine z_iload C dX5_readOne_185 4 rfl ?_
          obtain ⟨k41, h⟩ := gK_inv h
          obtain ⟨r42, M43, hr42, h⟩ := bnd2 h
          refine y_cVi (st := []) C dX5_readOne_187 mX5_68 k41 (tX5_readMeasure hC o0 o1 v4 gv4 hr42) rfl rfl (Nat.le_of_ble_eq_true rfl) (by omega) (fun gr42 => ?_)
          exact y_iretB C dX5_readOne_190 h gr42
        have h := (if_neg e40).symm.trans h
        by_cases e44 : v4 = 17
        ·
          have h := (if_pos e44).symm.trans h
          refine z_tableIn (off := 121) 183 C dX5_readOne_62 gv4 (by omega) (by omega) (by rw [e44]; rfl) (by decide) ?_
          refine z_aload_n C dX5_readOne_183 0 rfl ?_
          refine z_aload_n C dX5_readOne_184 1 rfl ?_
          refine z_iload C dX5_readOne_185 4 rfl ?_
          obtain ⟨k45, h⟩ := gK_inv h
          obtain ⟨r46, M47, hr46, h⟩ := bnd2 h
          refine y_cVi (st := []) C dX5_readOne_187 mX5_68 k45 (tX5_readMeasure hC o0 o1 v4 gv4 hr46) rfl rfl (Nat.le_of_ble_eq_true rfl) (by omega) (fun gr46 => ?_)
          exact y_iretB C dX5_readOne_190 h gr46
        have h := (if_neg e44).symm.trans h
        by_cases e48 : v4 = 18
        ·
          have h := (if_pos e48).symm.trans h
          refine z_tableIn (off := 121) 183 C dX5_readOne_62 gv4 (by omega) (by omega) (by rw [e48]; rfl) (by decide) ?_
          refine z_aload_n C dX5_readOne_183 0 rfl ?_
          refine z_aload_n C dX5_readOne_184 1 rfl ?_
          refine z_iload C dX5_readOne_185 4 rfl ?_
          obtain ⟨k49, h⟩ := gK_inv h
          obtain ⟨r50, M51, hr50, h⟩ := bnd2 h
          refine y_cVi (st := []) C dX5_readOne_187 mX5_68 k49 (tX5_readMeasure hC o0 o1 v4 gv4 hr50) rfl rfl (Nat.le_of_ble_eq_true rfl) (by omega) (fun gr50 => ?_)
          exact y_iretB C dX5_readOne_190 h gr50
        have h := (if_neg e48).symm.trans h
        by_cases e52 : v4 = 19
        ·
          have h := (if_pos e52).symm.trans h
          refine z_tableIn (off := 121) 183 C dX5_readOne_62 gv4 (by omega) (by omega) (by rw [e52]; rfl) (by decide) ?_
          refine z_aload_n C dX5_readOne_183 0 rfl ?_
          refine z_aload_n C dX5_readOne_184 1 rfl ?_
          refine z_iload C dX5_readOne_185 4 rfl ?_
          obtain ⟨k53, h⟩ := gK_inv h
          obtain ⟨r54, M55, hr54, h⟩ := bnd2 h
          refine y_cVi (st := []) C dX5_readOne_187 mX5_68 k53 (tX5_readMeasure hC o0 o1 v4 gv4 hr54) rfl rfl (Nat.le_of_ble_eq_true rfl) (by omega) (fun gr54 => ?_)
          exact y_iretB C dX5_readOne_190 h gr54
        have h := (if_neg e52).symm.trans h
        by_cases e56 : v4 = 20
        ·
          have h := (if_pos e56).symm.trans h
          refine z_tableIn (off := 121) 183 C dX5_readOne_62 gv4 (by omega) (by omega) (by rw [e56]; rfl) (by decide) ?_
          refine z_aload_n C dX5_readOne_183 0 rfl ?_
          refine z_aload_n C dX5_readOne_184 1 rfl ?_
          refine z_iload C dX5_readOne_185 4 rfl ?_
          obtain ⟨k57, h⟩ := gK_inv h
          obtain ⟨r58, M59, hr58, h⟩ := bnd2 h
          refine y_cVi (st := []) C dX5_readOne_187 mX5_68 k57 (tX5_readMeasure hC o0 o1 v4 gv4 hr58) rfl rfl (Nat.le_of_ble_eq_true rfl) (by omega) (fun gr58 => ?_)
          exact y_iretB C dX5_readOne_190 h gr58
        have h := (if_neg e56).symm.trans h
        by_cases e60 : v4 = 21
        ·
          have h := (if_pos e60).symm.trans h
          refine z_tableIn (off := 86) 148 C dX5_readOne_62 gv4 (by omega) (by omega) (by rw [e60]; rfl) (by decide) ?_
          refine z_aload_n C dX5_readOne_148 0 rfl ?_
          refine z_aload_n C dX5_readOne_149 1 rfl ?_
          refine z_aload_n C dX5_readOne_150 2 rfl ?_
          refine z_iload_n C dX5_readOne_151 3 rfl ?_
          obtain ⟨k61, h⟩ := gK_inv h
          obtain ⟨r62, M63, hr62, h⟩ := bnd2 h
          refine y_cVi (st := []) C dX5_readOne_152 mX5_59 k61 (tX5_readNot hC dd rc hrc o0 o1 o2 v3 gv3 hr62) rfl rfl (Nat.le_of_ble_eq_true rfl) (by omega) (fun gr62 => ?_)
          exact y_iretB C dX5_readOne_155 h gr62
        have h := (if_neg e60).symm.trans h
        by_cases e64 : v4 = 22
        ·
          have h := (if_pos e64).symm.trans h
          refine z_tableIn (off := 112) 174 C dX5_readOne_62 gv4 (by omega) (by omega) (by rw [e64]; rfl) (by decide) ?_
          refine z_aload_n C dX5_readOne_174 0 rfl ?_
          refine z_aload_n C dX5_readOne_175 1 rfl ?_
          refine z_aload_n C dX5_readOne_176 2 rfl ?_
          refine z_iload C dX5_readOne_177 4 rfl ?_
          obtain ⟨k65, h⟩ := gK_inv h
          obtain ⟨r66, M67, hr66, h⟩ := bnd2 h
          refine y_cVi (st := []) C dX5_readOne_179 mX5_65 k65 (tX5_readOfWho hC o0 o1 o2 v4 gv4 hr66) rfl rfl (Nat.le_of_ble_eq_true rfl) (by omega) (fun gr66 => ?_)
          exact y_iretB C dX5_readOne_182 h gr66
        have h := (if_neg e64).symm.trans h
        by_cases e68 : v4 = 23
        ·
          have h := (if_pos e68).symm.trans h
          refine z_tableIn (off := 112) 174 C dX5_readOne_62 gv4 (by omega) (by omega) (by rw [e68]; rfl) (by decide) ?_
          refine z_aload_n C dX5_readOne_174 0 rfl ?_
          refine z_aload_n C dX5_readOne_175 1 rfl ?_
          refine z_aload_n C dX5_readOne_176 2 rfl ?_
          refine z_iload C dX5_readOne_177 4 rfl ?_
          obtain ⟨k69, h⟩ := gK_inv h
          obtain ⟨r70, M71, hr70, h⟩ := bnd2 h
          refine y_cVi (st := []) C dX5_readOne_179 mX5_65 k69 (tX5_readOfWho hC o0 o1 o2 v4 gv4 hr70) rfl rfl (Nat.le_of_ble_eq_true rfl) (by omega) (fun gr70 => ?_)
          exact y_iretB C dX5_readOne_182 h gr70
        have h := (if_neg e68).symm.trans h
        by_cases e72 : v4 = 24
        ·
          have h := (if_pos e72).symm.trans h
          refine z_tableIn (off := 112) 174 C dX5_readOne_62 gv4 (by omega) (by omega) (by rw [e72]; rfl) (by decide) ?_
          refine z_aload_n C dX5_readOne_174 0 rfl ?_
          refine z_aload_n C dX5_readOne_175 1 rfl ?_
          refine z_aload_n C dX5_readOne_176 2 rfl ?_
          refine z_iload C dX5_readOne_177 4 rfl ?_
          obtain ⟨k73, h⟩ := gK_inv h
          obtain ⟨r74, M75, hr74, h⟩ := bnd2 h
          refine y_cVi (st := []) C dX5_readOne_179 mX5_65 k73 (tX5_readOfWho hC o0 o1 o2 v4 gv4 hr74) rfl rfl (Nat.le_of_ble_eq_true rfl) (by omega) (fun gr74 => ?_)
          exact y_iretB C dX5_readOne_182 h gr74
        have h := (if_neg e72).symm.trans h
        by_cases e76 : v4 = 25
        ·
          have h := (if_pos e76).symm.trans h
          refine z_tableIn (off := 102) 164 C dX5_readOne_62 gv4 (by omega) (by omega) (by rw [e76]; rfl) (by decide) ?_
          refine z_aload_n C dX5_readOne_164 0 rfl ?_
          refine z_iload C dX5_readOne_165 4 rfl ?_
          refine z_iconst C dX5_readOne_167 ?_
          refine z_iconst C dX5_readOne_168 ?_
          obtain ⟨k77, h⟩ := gK_inv h
          obtain ⟨M78, hM78, h⟩ := bnd h
          refine y_cVv (st := []) C dX5_readOne_169 mX5_52 k77 (tX5_add hC o0 v4 0 0 gv4 (by decide) (by decide) hM78) rfl rfl (Nat.le_of_ble_eq_true rfl) (by omega) ?_
          refine z_iconst C dX5_readOne_172 ?_
          exact y_iretB C dX5_readOne_173 h (by decide)
        have h := (if_neg e76).symm.trans h
        refine z_tableOut 183 C dX5_readOne_62 gv4 (by omega) (by decide) ?_
        refine z_aload_n C dX5_readOne_183 0 rfl ?_
        refine z_aload_n C dX5_readOne_184 1 rfl ?_
        refine z_iload C dX5_readOne_185 4 rfl ?_
        obtain ⟨k79, h⟩ := gK_inv h
        obtain ⟨r80, M81, hr80, h⟩ := bnd2 h
        refine y_cVi (st := []) C dX5_readOne_187 mX5_68 k79 (tX5_readMeasure hC o0 o1 v4 gv4 hr80) rfl rfl (Nat.le_of_ble_eq_true rfl) (by omega) (fun gr80 => ?_)
        exact y_iretB C dX5_readOne_190 h gr80
      ·
        have h := (if_neg e3).symm.trans h
        refine z_iconst C dX5_readOne_44 ?_
        exact y_iretB C dX5_readOne_45 h (by decide)
  unfold uX5_readOne_o at h
  refine z_aload_n C dX5_readOne_0 1 rfl ?_
  obtain ⟨x82, hx82, h⟩ := bnd h
  refine y_getI C dX5_readOne_1 fX5_46 rfl hx82 (fun gx82 => ?_)
  refine z_istore (lv' := [(0, .ref (G.2.2 + o0)), (1, .ref (G.2.2 + o1)), (2, .ref (G.2.2 + o2)), (3, .int (iv v3)), (4, .int (iv x82))]) C dX5_readOne_4 (by decide) [1, 2, 3, 4, 0] rfl ?_
  refine z_iload C dX5_readOne_6 4 rfl ?_
  refine z_bipush C dX5_readOne_8 (by decide) ?_
  refine z_icmp_eq 29 C dX5_readOne_10 (by decide) gx82 (by decide) (fun e83 => ?_) (fun e83 => ?_)
  ·
    have h := (if_pos e83).symm.trans h
    exact hb29 o0 o1 o2 v3 x82 M0 gv3 gx82 h
  ·
    have h := (if_neg e83).symm.trans h
    refine z_iload C dX5_readOne_13 4 rfl ?_
    refine z_bipush C dX5_readOne_15 (by decide) ?_
    refine z_icmp_lt 27 C dX5_readOne_17 (by decide) gx82 (by decide) (fun e84 => ?_) (fun e84 => ?_)
    ·
      have h := (if_pos e84).symm.trans h
      refine z_iconst C dX5_readOne_27 ?_
      exact y_iretB C dX5_readOne_28 h (by decide)
    ·
      have h := (if_neg e84).symm.trans h
      refine z_iload C dX5_readOne_20 4 rfl ?_
      refine z_bipush C dX5_readOne_22 (by decide) ?_
      refine z_icmp_le 29 C dX5_readOne_24 (by decide) gx82 (by decide) (fun e85 => ?_) (fun e85 => ?_)
      ·
        have h := (if_pos e85).symm.trans h
        exact hb29 o0 o1 o2 v3 x82 M0 gv3 gx82 h
      ·
        have h := (if_neg e85).symm.trans h
        refine z_iconst C dX5_readOne_27 ?_
        exact y_iretB C dX5_readOne_28 h (by decide)

theorem tX5_readOne {G : Gx} {σ : State} (hC : Cy G σ) (n : Nat) : ∀ (o0 : Nat) (o1 : Nat) (o2 : Nat) (v3 : Int) {M : Mm}, rg v3 → ∀ {R : Int × Mm}, uX5_readOne n o0 o1 o2 v3 M = some R → Ct G σ (65 * n) yX5_readOne cX5_readOne 5 (some .int) [.ref (G.2.2 + o0), .ref (G.2.2 + o1), .ref (G.2.2 + o2), .int (iv v3)] M 0 0 (Qi R.1 R.2) := by
  induction n with
  | zero => intro o0 o1 o2 v3 M gv3 R h; cases h
  | succ n ih =>
    intro o0 o1 o2 v3 M gv3 R h
    have := tX5_readOne_o hC (65 * n) (uX5_readOne n) ih o0 o1 o2 v3 gv3 h
    rw [show 65 * (n + 1) = 65 * n + 65 from by omega]; exact this

set_option maxHeartbeats 4000000 in
set_option maxRecDepth 100000 in
theorem tX3_readFrom {G : Gx} {σ : State} (hC : Cy G σ) (o0 : Nat) (o1 : Nat) {M0 : Mm}  {R : Int × Mm} (h : uX3_readFrom o0 o1 M0 = some R) : Ct G σ (13) yX3_readFrom cX3_readFrom 3 (some .int) [.ref (G.2.2 + o0), .ref (G.2.2 + o1)] M0 0 0 (Qi R.1 R.2) := by
  refine Ct.of hC.1 (by decide +kernel) (Nat.le_of_ble_eq_true rfl) ?_
  intro p l e R0 s m args below meth c C
  show Jz G σ p l e R0 s m args below meth c 3 0 0 (Qi R.1 R.2) M0 0 0 0 [(0, .ref (G.2.2 + o0)), (1, .ref (G.2.2 + o1))] []
  have hb72 : ∀ (v2 : Int) (M : Mm), (rg v2) → uX3_readFrom_b72 v2 M = some R → Jz G σ p l e R0 s m args below meth c 3 0 0 (Qi R.1 R.2) M 0 0 72 [(2, .int (iv v2))] [] := by
    intro v2 M gv2 h
    unfold uX3_readFrom_b72 at h
    refine z_iload_n C dX3_readFrom_72 0 rfl ?_
    exact y_iretB C dX3_readFrom_73 h gv2
  have hb10 : ∀ (o0 : Nat) (o1 : Nat) (v2 : Int) (M : Mm), (rg v2) → uX3_readFrom_b10 o0 o1 v2 M = some R → Jz G σ p l e R0 s m args below meth c 3 0 0 (Qi R.1 R.2) M 0 0 10 [(0, .ref (G.2.2 + o0)), (1, .ref (G.2.2 + o1)), (2, .int (iv v2))] [] := by
    intro o0 o1 v2 M gv2 h
    unfold uX3_readFrom_b10 at h
    obtain ⟨b10, hb10_, hc10⟩ := bnd h
    have hL10 : ∀ (n : Nat) (v2 : Int) (M : Mm), (rg v2) → lp (uX3_readFrom_f10 o0 o1) n (v2, M) = some b10 → Jz G σ p l e R0 s m args below meth c 3 0 0 (Qi R.1 R.2) M 0 0 10 [(0, .ref (G.2.2 + o0)), (1, .ref (G.2.2 + o1)), (2, .int (iv v2))] [] := by
      intro n; induction n with
      | zero => intro v2 M gv2 hq; exact (lp_0 hq).elim
      | succ n10 ih10 =>
        intro v2 M gv2 hq
        obtain ⟨z10, h, hZ10⟩ := lp_s hq
        have h : uX3_readFrom_s10 o0 o1 v2 M = some z10 := h
        have hb51 : ∀ (v2 : Int) (M : Mm), (rg v2) → ∀ z10, uX3_readFrom_b51 o0 o1 v2 M = some z10 → lpc (uX3_readFrom_f10 o0 o1) n10 z10 b10 → Jz G σ p l e R0 s m args below meth c 3 0 0 (Qi R.1 R.2) M 0 0 51 [(0, .ref (G.2.2 + o0)), (1, .ref (G.2.2 + o1)), (2, .int (iv v2))] [] := by
          intro v2 M gv2 z10 h hZ10
          unfold uX3_readFrom_b51 at h
          refine z_iload_n C dX3_readFrom_51 2 rfl ?_
          refine z_if_ne 10 C dX3_readFrom_52 (by decide) gv2 (fun e1 => ?_) (fun e1 => ?_)
          ·
            have h := (if_neg e1).symm.trans h
            exact ih10 v2 M gv2 (lp_back h hZ10)
          ·
            have h := (if_pos e1).symm.trans h
            refine z_aload_n C dX3_readFrom_55 1 rfl ?_
            obtain ⟨k2, h⟩ := gK_inv h
            obtain ⟨M3, hM3, h⟩ := bnd h
            refine y_cVv (st := []) C dX3_readFrom_56 mX3_64 k2 (tX7_advance hC o1  hM3) rfl rfl (Nat.le_of_ble_eq_true rfl) (by decide) ?_
            refine z_aload_n C dX3_readFrom_59 0 rfl ?_
            refine z_dup C dX3_readFrom_60 rfl ?_
            obtain ⟨x4, hx4, h⟩ := bnd h
            refine y_getI C dX3_readFrom_61 fX3_39 rfl hx4 (fun gx4 => ?_)
            refine z_iconst C dX3_readFrom_64 ?_
            refine y_iadd C dX3_readFrom_65 ?_
            obtain ⟨M5, hM5, h⟩ := bnd h
            refine y_putI C dX3_readFrom_66 fX3_39 rfl rfl rfl rfl hM5 ?_
            refine z_goto 10 C dX3_readFrom_69 (by decide) ?_
            exact ih10 v2 M5 gv2 (lp_back h hZ10)
        unfold uX3_readFrom_s10 at h
        refine z_aload_n C dX3_readFrom_10 0 rfl ?_
        obtain ⟨x6, hx6, h⟩ := bnd h
        refine y_getI C dX3_readFrom_11 fX3_39 rfl hx6 (fun gx6 => ?_)
        refine z_sipush C dX3_readFrom_14 (by decide) ?_
        refine z_icmp_ge 72 C dX3_readFrom_17 (by decide) gx6 (by decide) (fun e7 => ?_) (fun e7 => ?_)
        ·
          have h := (if_pos e7).symm.trans h
          have h : uX3_readFrom_b72 v2 M = some R := lp_ex (K := (uX3_readFrom_c10 o0 o1)) h hZ10 hc10
          refine z_drop (lv' := [(2, .int (iv v2))]) [2] rfl ?_
          exact hb72 v2 M gv2 h
        ·
          have h := (if_neg e7).symm.trans h
          refine z_iload_n C dX3_readFrom_20 2 rfl ?_
          refine z_if_ne 72 C dX3_readFrom_21 (by decide) gv2 (fun e8 => ?_) (fun e8 => ?_)
          ·
            have h := (if_neg e8).symm.trans h
            have h : uX3_readFrom_b72 v2 M = some R := lp_ex (K := (uX3_readFrom_c10 o0 o1)) h hZ10 hc10
            refine z_drop (lv' := [(2, .int (iv v2))]) [2] rfl ?_
            exact hb72 v2 M gv2 h
          ·
            have h := (if_pos e8).symm.trans h
            refine z_aload_n C dX3_readFrom_24 1 rfl ?_
            obtain ⟨x9, hx9, h⟩ := bnd h
            refine y_getI C dX3_readFrom_25 fX3_69 rfl hx9 (fun gx9 => ?_)
            refine z_if_eq 72 C dX3_readFrom_28 (by decide) gx9 (fun e10 => ?_) (fun e10 => ?_)
            ·
              have h := (if_pos e10).symm.trans h
              have h : uX3_readFrom_b72 v2 M = some R := lp_ex (K := (uX3_readFrom_c10 o0 o1)) h hZ10 hc10
              refine z_drop (lv' := [(2, .int (iv v2))]) [2] rfl ?_
              exact hb72 v2 M gv2 h
            ·
              have h := (if_neg e10).symm.trans h
              refine z_aload_n C dX3_readFrom_31 0 rfl ?_
              refine z_aload_n C dX3_readFrom_32 1 rfl ?_
              obtain ⟨k11, h⟩ := gK_inv h
              obtain ⟨r12, M13, hr12, h⟩ := bnd2 h
              refine y_cVi (st := []) C dX3_readFrom_33 mX3_72 k11 (tX3_readLine hC o0 o1  hr12) rfl rfl (Nat.le_of_ble_eq_true rfl) (by decide) (fun gr12 => ?_)
              refine z_istore_n (lv' := [(0, .ref (G.2.2 + o0)), (1, .ref (G.2.2 + o1)), (2, .int (iv r12))]) C dX3_readFrom_36 rfl (by decide) [1, 2, 0] rfl ?_
              refine z_iload_n C dX3_readFrom_37 2 rfl ?_
              refine z_if_ne 51 C dX3_readFrom_38 (by decide) gr12 (fun e14 => ?_) (fun e14 => ?_)
              ·
                have h := (if_neg e14).symm.trans h
                exact hb51 r12 M13 gr12 _ h hZ10
              ·
                have h := (if_pos e14).symm.trans h
                refine z_aload_n C dX3_readFrom_41 1 rfl ?_
                obtain ⟨x15, hx15, h⟩ := bnd h
                refine y_getI C dX3_readFrom_42 fX3_69 rfl hx15 (fun gx15 => ?_)
                refine z_iconst C dX3_readFrom_45 ?_
                refine z_icmp_eq 51 C dX3_readFrom_46 (by decide) gx15 (by decide) (fun e16 => ?_) (fun e16 => ?_)
                ·
                  have h := (if_pos e16).symm.trans h
                  exact hb51 r12 M13 gr12 _ h hZ10
                ·
                  have h := (if_neg e16).symm.trans h
                  refine z_iconst C dX3_readFrom_49 ?_
                  refine z_istore_n (lv' := [(0, .ref (G.2.2 + o0)), (1, .ref (G.2.2 + o1)), (2, .int (iv 1))]) C dX3_readFrom_50 rfl (by decide) [1, 2, 0] rfl ?_
                  exact hb51 1 M13 (by decide) _ h hZ10
    exact hL10 _ v2 M gv2 hb10_
  unfold uX3_readFrom at h
  refine z_aload_n C dX3_readFrom_0 0 rfl ?_
  obtain ⟨k17, h⟩ := gK_inv h
  obtain ⟨M18, hM18, h⟩ := bnd h
  refine y_cVv (st := []) C dX3_readFrom_1 mX3_36 k17 (tX3_clear hC o0  hM18) rfl rfl (Nat.le_of_ble_eq_true rfl) (by decide) ?_
  refine z_aload_n C dX3_readFrom_4 1 rfl ?_
  obtain ⟨k19, h⟩ := gK_inv h
  obtain ⟨M20, hM20, h⟩ := bnd h
  refine y_cVv (st := []) C dX3_readFrom_5 mX3_64 k19 (tX7_advance hC o1  hM20) rfl rfl (Nat.le_of_ble_eq_true rfl) (by decide) ?_
  refine z_iconst C dX3_readFrom_8 ?_
  refine z_istore_n (lv' := [(0, .ref (G.2.2 + o0)), (1, .ref (G.2.2 + o1)), (2, .int (iv 0))]) C dX3_readFrom_9 rfl (by decide) [1, 2, 0] rfl ?_
  exact hb10 o0 o1 0 M20 (by decide) h

set_option maxHeartbeats 4000000 in
set_option maxRecDepth 100000 in
theorem tX5_readFrom {G : Gx} {σ : State} (hC : Cy G σ) (o0 : Nat) (o1 : Nat) (o2 : Nat) {M0 : Mm}  {R : Int × Mm} (h : uX5_readFrom o0 o1 o2 M0 = some R) : Ct G σ (807) yX5_readFrom cX5_readFrom 4 (some .int) [.ref (G.2.2 + o0), .ref (G.2.2 + o1), .ref (G.2.2 + o2)] M0 0 0 (Qi R.1 R.2) := by
  refine Ct.of hC.1 (by decide +kernel) (Nat.le_of_ble_eq_true rfl) ?_
  intro p l e R0 s m args below meth c C
  show Jz G σ p l e R0 s m args below meth c 4 0 0 (Qi R.1 R.2) M0 0 0 0 [(0, .ref (G.2.2 + o0)), (1, .ref (G.2.2 + o1)), (2, .ref (G.2.2 + o2))] []
  unfold uX5_readFrom at h
  refine z_aload_n C dX5_readFrom_0 0 rfl ?_
  obtain ⟨k1, h⟩ := gK_inv h
  obtain ⟨M2, hM2, h⟩ := bnd h
  refine y_cVv (st := []) C dX5_readFrom_1 mX5_34 k1 (tX5_clear hC o0  hM2) rfl rfl (Nat.le_of_ble_eq_true rfl) (by decide) ?_
  refine z_aload_n C dX5_readFrom_4 1 rfl ?_
  obtain ⟨k3, h⟩ := gK_inv h
  obtain ⟨M4, hM4, h⟩ := bnd h
  refine y_cVv (st := []) C dX5_readFrom_5 mX5_37 k3 (tX7_advance hC o1  hM4) rfl rfl (Nat.le_of_ble_eq_true rfl) (by decide) ?_
  refine z_aload_n C dX5_readFrom_8 0 rfl ?_
  refine z_aload_n C dX5_readFrom_9 1 rfl ?_
  refine z_aload_n C dX5_readFrom_10 2 rfl ?_
  refine z_iconst C dX5_readFrom_11 ?_
  obtain ⟨k5, h⟩ := gK_inv h
  obtain ⟨r6, M7, hr6, h⟩ := bnd2 h
  refine y_cVi (st := []) C dX5_readFrom_12 mX5_42 k5 (tX5_readCond hC _ _ (tX5_readOne hC 12) o0 o1 o2 1 (by decide) hr6) rfl rfl (Nat.le_of_ble_eq_true rfl) (by omega) (fun gr6 => ?_)
  refine z_istore_n (lv' := [(0, .ref (G.2.2 + o0)), (1, .ref (G.2.2 + o1)), (2, .ref (G.2.2 + o2)), (3, .int (iv r6))]) C dX5_readFrom_15 rfl (by decide) [1, 2, 3, 0] rfl ?_
  refine z_iload_n C dX5_readFrom_16 3 rfl ?_
  refine z_if_ne 31 C dX5_readFrom_17 (by decide) gr6 (fun e8 => ?_) (fun e8 => ?_)
  ·
    have h := (if_neg e8).symm.trans h
    refine z_iload_n C dX5_readFrom_31 3 rfl ?_
    exact y_iretB C dX5_readFrom_32 h gr6
  ·
    have h := (if_pos e8).symm.trans h
    refine z_aload_n C dX5_readFrom_20 1 rfl ?_
    obtain ⟨x9, hx9, h⟩ := bnd h
    refine y_getI C dX5_readFrom_21 fX5_46 rfl hx9 (fun gx9 => ?_)
    refine z_if_eq 31 C dX5_readFrom_24 (by decide) gx9 (fun e10 => ?_) (fun e10 => ?_)
    ·
      have h := (if_pos e10).symm.trans h
      refine z_iload_n C dX5_readFrom_31 3 rfl ?_
      exact y_iretB C dX5_readFrom_32 h gr6
    ·
      have h := (if_neg e10).symm.trans h
      refine z_iconst C dX5_readFrom_27 ?_
      refine z_goto 32 C dX5_readFrom_28 (by decide) ?_
      exact y_iretB C dX5_readFrom_32 h (by decide)

set_option maxHeartbeats 4000000 in
set_option maxRecDepth 100000 in
theorem tX5_holds {G : Gx} {σ : State} (hC : Cy G σ) (o0 : Nat) (o1 : Nat) (v2 : Int) {M0 : Mm} (gv2 : rg v2) {R : Int} (h : uX5_holds o0 o1 v2 M0 = some R) : Ct G σ (6) yX5_holds cX5_holds 7 (some .boolean) [.ref (G.2.2 + o0), .ref (G.2.2 + o1), .int (iv v2)] M0 0 0 (Qb R M0) := by
  refine Ct.of hC.1 (by decide +kernel) (Nat.le_of_ble_eq_true rfl) ?_
  intro p l e R0 s m args below meth c C
  show Jz G σ p l e R0 s m args below meth c 7 0 0 (Qb R M0) M0 0 0 0 [(0, .ref (G.2.2 + o0)), (1, .ref (G.2.2 + o1)), (2, .int (iv v2))] []
  have hb132 : ∀ (v3 : Int), (rg v3) → uX5_holds_b132 v3 M0 = some R → Jz G σ p l e R0 s m args below meth c 7 0 0 (Qb R M0) M0 0 0 132 [(3, .int (iv v3))] [] := by
    intro v3  gv3 h
    unfold uX5_holds_b132 at h
    refine z_iload_n C dX5_holds_132 0 rfl ?_
    refine z_iconst C dX5_holds_133 ?_
    refine z_iand (and32 v3 1) C dX5_holds_134 (iv_self _).symm ?_
    refine z_if_eq 142 C dX5_holds_135 (by decide) (and32_rng _ _) (fun e1 => ?_) (fun e1 => ?_)
    ·
      have h := (if_pos e1).symm.trans h
      refine z_iconst C dX5_holds_142 ?_
      exact y_zretP C dX5_holds_143 h (by decide)
    ·
      have h := (if_neg e1).symm.trans h
      refine z_iconst C dX5_holds_138 ?_
      refine z_goto 143 C dX5_holds_139 (by decide) ?_
      exact y_zretP C dX5_holds_143 h (by decide)
  have hb5 : ∀ (o0 : Nat) (o1 : Nat) (v2 : Int) (v3 : Int) (v4 : Int), (rg v2) → (rg v3) → (rg v4) → uX5_holds_b5 o0 o1 v2 v3 v4 M0 = some R → Jz G σ p l e R0 s m args below meth c 7 0 0 (Qb R M0) M0 0 0 5 [(0, .ref (G.2.2 + o0)), (1, .ref (G.2.2 + o1)), (2, .int (iv v2)), (3, .int (iv v3)), (4, .int (iv v4))] [] := by
    intro o0 o1 v2 v3 v4  gv2 gv3 gv4 h
    unfold uX5_holds_b5 at h
    obtain ⟨b5, hb5_, hc5⟩ := bnd h
    have hL5 : ∀ (n : Nat) (v3 : Int) (v4 : Int), (rg v3) → (rg v4) → lp (uX5_holds_f5 o0 o1 v2 M0) n (v3, v4) = some b5 → Jz G σ p l e R0 s m args below meth c 7 0 0 (Qb R M0) M0 0 0 5 [(0, .ref (G.2.2 + o0)), (1, .ref (G.2.2 + o1)), (2, .int (iv v2)), (3, .int (iv v3)), (4, .int (iv v4))] [] := by
      intro n; induction n with
      | zero => intro v3 v4 gv3 gv4 hq; exact (lp_0 hq).elim
      | succ n5 ih5 =>
        intro v3 v4 gv3 gv4 hq
        obtain ⟨z5, h, hZ5⟩ := lp_s hq
        have h : uX5_holds_s5 o0 o1 v2 M0 v3 v4 = some z5 := h
        have hb124 : ∀ (v4 : Int) (vs0 : Int) (vs1 : Int), (rg v4) → (rg vs0) → (vs1 = 0 ∨ vs1 = 1) → ∀ z5, uX5_holds_b124 o0 o1 v2 v4 vs0 vs1 M0 = some z5 → lpc (uX5_holds_f5 o0 o1 v2 M0) n5 z5 b5 → Jz G σ p l e R0 s m args below meth c 7 0 0 (Qb R M0) M0 0 0 124 [(0, .ref (G.2.2 + o0)), (1, .ref (G.2.2 + o1)), (2, .int (iv v2)), (4, .int (iv v4))] [.int (iv vs1), .int (iv vs0)] := by
          intro v4 vs0 vs1  gv4 gvs0 bvs1 z5 h hZ5
          unfold uX5_holds_b124 at h
          refine z_ior (or32 vs0 vs1) C dX5_holds_124 (iv_self _).symm ?_
          refine z_istore_n (lv' := [(0, .ref (G.2.2 + o0)), (1, .ref (G.2.2 + o1)), (2, .int (iv v2)), (3, .int (iv (or32 vs0 vs1))), (4, .int (iv v4))]) C dX5_holds_125 rfl (by decide) [1, 2, 3, 0, 4] rfl ?_
          refine y_iinc (lv' := [(0, .ref (G.2.2 + o0)), (1, .ref (G.2.2 + o1)), (2, .int (iv v2)), (3, .int (iv (or32 vs0 vs1))), (4, .int (iv (w32 (v4 + 1))))]) C dX5_holds_126 4 rfl (by decide) [1, 2, 3, 4, 0] rfl ?_
          refine z_goto 5 C dX5_holds_129 (by decide) ?_
          exact ih5 (or32 vs0 vs1) (w32 (v4 + 1)) (or32_rng _ _) (w32_rng _) (lp_back h hZ5)
        unfold uX5_holds_s5 at h
        refine z_iload C dX5_holds_5 4 rfl ?_
        refine z_aload_n C dX5_holds_7 0 rfl ?_
        obtain ⟨x2, hx2, h⟩ := bnd h
        refine y_getI C dX5_holds_8 fX5_25 rfl hx2 (fun gx2 => ?_)
        refine z_icmp_ge 132 C dX5_holds_11 (by decide) gv4 gx2 (fun e3 => ?_) (fun e3 => ?_)
        ·
          have h := (if_pos e3).symm.trans h
          have h : uX5_holds_b132 v3 M0 = some R := lp_ex (K := (uX5_holds_c5 o0 o1 v2 M0)) h hZ5 hc5
          refine z_drop (lv' := [(3, .int (iv v3))]) [3] rfl ?_
          exact hb132 v3  gv3 h
        ·
          have h := (if_neg e3).symm.trans h
          refine z_iload C dX5_holds_14 4 rfl ?_
          refine z_bipush C dX5_holds_16 (by decide) ?_
          refine z_icmp_ge 132 C dX5_holds_18 (by decide) gv4 (by decide) (fun e4 => ?_) (fun e4 => ?_)
          ·
            have h := (if_pos e4).symm.trans h
            have h : uX5_holds_b132 v3 M0 = some R := lp_ex (K := (uX5_holds_c5 o0 o1 v2 M0)) h hZ5 hc5
            refine z_drop (lv' := [(3, .int (iv v3))]) [3] rfl ?_
            exact hb132 v3  gv3 h
          ·
            have h := (if_neg e4).symm.trans h
            refine z_iload_n C dX5_holds_21 3 rfl ?_
            refine z_iconst C dX5_holds_22 ?_
            refine z_iand (and32 v3 1) C dX5_holds_23 (iv_self _).symm ?_
            refine z_istore (lv' := [(0, .ref (G.2.2 + o0)), (1, .ref (G.2.2 + o1)), (2, .int (iv v2)), (3, .int (iv v3)), (4, .int (iv v4)), (5, .int (iv (and32 v3 1)))]) C dX5_holds_24 (by decide) [1, 2, 3, 4, 5, 0] rfl ?_
            refine z_iload_n C dX5_holds_26 3 rfl ?_
            refine z_iconst C dX5_holds_27 ?_
            refine z_iushr (ushr32 v3 1) C dX5_holds_28 (iv_self _).symm ?_
            refine z_iconst C dX5_holds_29 ?_
            refine z_iand (and32 (ushr32 v3 1) 1) C dX5_holds_30 (iv_self _).symm ?_
            refine z_istore (lv' := [(0, .ref (G.2.2 + o0)), (1, .ref (G.2.2 + o1)), (2, .int (iv v2)), (3, .int (iv v3)), (4, .int (iv v4)), (5, .int (iv (and32 v3 1))), (6, .int (iv (and32 (ushr32 v3 1) 1)))]) C dX5_holds_31 (by decide) [1, 2, 3, 4, 5, 6, 0] rfl ?_
            refine z_aload_n C dX5_holds_33 0 rfl ?_
            obtain ⟨on5, hon5, h⟩ := bnd h
            refine y_getR C dX5_holds_34 fX5_11 rfl hon5 ?_
            refine z_iload C dX5_holds_37 4 rfl ?_
            obtain ⟨x6, hx6, h⟩ := bnd h
            refine y_iald C dX5_holds_39 hx6 (fun gx6 => ?_)
            by_cases e7 : x6 = 19
            ·
              have h := (if_pos e7).symm.trans h
              refine z_tableIn (off := 50) 90 C dX5_holds_40 gx6 (by omega) (by omega) (by rw [e7]; rfl) (by decide) ?_
              refine z_iload_n C dX5_holds_90 3 rfl ?_
              refine z_iconst C dX5_holds_91 ?_
              refine z_iushr (ushr32 v3 2) C dX5_holds_92 (iv_self _).symm ?_
              refine z_iconst C dX5_holds_93 ?_
              refine z_ishl (shl32 (ushr32 v3 2) 1) C dX5_holds_94 (iv_self _).symm ?_
              refine z_iload C dX5_holds_95 5 rfl ?_
              refine z_ior (or32 (shl32 (ushr32 v3 2) 1) (and32 v3 1)) C dX5_holds_97 (iv_self _).symm ?_
              refine z_iload C dX5_holds_98 6 rfl ?_
              refine z_ior (or32 (or32 (shl32 (ushr32 v3 2) 1) (and32 v3 1)) (and32 (ushr32 v3 1) 1)) C dX5_holds_100 (iv_self _).symm ?_
              refine z_istore_n (lv' := [(0, .ref (G.2.2 + o0)), (1, .ref (G.2.2 + o1)), (2, .int (iv v2)), (3, .int (iv (or32 (or32 (shl32 (ushr32 v3 2) 1) (and32 v3 1)) (and32 (ushr32 v3 1) 1)))), (4, .int (iv v4)), (5, .int (iv (and32 v3 1))), (6, .int (iv (and32 (ushr32 v3 1) 1)))]) C dX5_holds_101 rfl (by decide) [1, 2, 3, 0, 4, 5, 6] rfl ?_
              refine z_goto 126 C dX5_holds_102 (by decide) ?_
              refine y_iinc (lv' := [(0, .ref (G.2.2 + o0)), (1, .ref (G.2.2 + o1)), (2, .int (iv v2)), (3, .int (iv (or32 (or32 (shl32 (ushr32 v3 2) 1) (and32 v3 1)) (and32 (ushr32 v3 1) 1)))), (4, .int (iv (w32 (v4 + 1)))), (5, .int (iv (and32 v3 1))), (6, .int (iv (and32 (ushr32 v3 1) 1)))]) C dX5_holds_126 4 rfl (by decide) [1, 2, 3, 4, 0, 5, 6] rfl ?_
              refine z_goto 5 C dX5_holds_129 (by decide) ?_
              refine z_drop (lv' := [(0, .ref (G.2.2 + o0)), (1, .ref (G.2.2 + o1)), (2, .int (iv v2)), (3, .int (iv (or32 (or32 (shl32 (ushr32 v3 2) 1) (and32 v3 1)) (and32 (ushr32 v3 1) 1)))), (4, .int (iv (w32 (v4 + 1))))]) [0, 1, 2, 3, 4] rfl ?_
              exact ih5 (or32 (or32 (shl32 (ushr32 v3 2) 1) (and32 v3 1)) (and32 (ushr32 v3 1) 1)) (w32 (v4 + 1)) (or32_rng _ _) (w32_rng _) (lp_back h hZ5)
            have h := (if_neg e7).symm.trans h
            by_cases e8 : x6 = 20
            ·
              have h := (if_pos e8).symm.trans h
              refine z_tableIn (off := 35) 75 C dX5_holds_40 gx6 (by omega) (by omega) (by rw [e8]; rfl) (by decide) ?_
              refine z_iload_n C dX5_holds_75 3 rfl ?_
              refine z_iconst C dX5_holds_76 ?_
              refine z_iushr (ushr32 v3 2) C dX5_holds_77 (iv_self _).symm ?_
              refine z_iconst C dX5_holds_78 ?_
              refine z_ishl (shl32 (ushr32 v3 2) 1) C dX5_holds_79 (iv_self _).symm ?_
              refine z_iload C dX5_holds_80 5 rfl ?_
              refine z_iload C dX5_holds_82 6 rfl ?_
              refine z_iand (and32 (and32 v3 1) (and32 (ushr32 v3 1) 1)) C dX5_holds_84 (iv_self _).symm ?_
              refine z_ior (or32 (shl32 (ushr32 v3 2) 1) (and32 (and32 v3 1) (and32 (ushr32 v3 1) 1))) C dX5_holds_85 (iv_self _).symm ?_
              refine z_istore_n (lv' := [(0, .ref (G.2.2 + o0)), (1, .ref (G.2.2 + o1)), (2, .int (iv v2)), (3, .int (iv (or32 (shl32 (ushr32 v3 2) 1) (and32 (and32 v3 1) (and32 (ushr32 v3 1) 1))))), (4, .int (iv v4)), (5, .int (iv (and32 v3 1))), (6, .int (iv (and32 (ushr32 v3 1) 1)))]) C dX5_holds_86 rfl (by decide) [1, 2, 3, 0, 4, 5, 6] rfl ?_
              refine z_goto 126 C dX5_holds_87 (by decide) ?_
              refine y_iinc (lv' := [(0, .ref (G.2.2 + o0)), (1, .ref (G.2.2 + o1)), (2, .int (iv v2)), (3, .int (iv (or32 (shl32 (ushr32 v3 2) 1) (and32 (and32 v3 1) (and32 (ushr32 v3 1) 1))))), (4, .int (iv (w32 (v4 + 1)))), (5, .int (iv (and32 v3 1))), (6, .int (iv (and32 (ushr32 v3 1) 1)))]) C dX5_holds_126 4 rfl (by decide) [1, 2, 3, 4, 0, 5, 6] rfl ?_
              refine z_goto 5 C dX5_holds_129 (by decide) ?_
              refine z_drop (lv' := [(0, .ref (G.2.2 + o0)), (1, .ref (G.2.2 + o1)), (2, .int (iv v2)), (3, .int (iv (or32 (shl32 (ushr32 v3 2) 1) (and32 (and32 v3 1) (and32 (ushr32 v3 1) 1))))), (4, .int (iv (w32 (v4 + 1))))]) [0, 1, 2, 3, 4] rfl ?_
              exact ih5 (or32 (shl32 (ushr32 v3 2) 1) (and32 (and32 v3 1) (and32 (ushr32 v3 1) 1))) (w32 (v4 + 1)) (or32_rng _ _) (w32_rng _) (lp_back h hZ5)
            have h := (if_neg e8).symm.trans h
            by_cases e9 : x6 = 21
            ·
              have h := (if_pos e9).symm.trans h
              refine z_tableIn (off := 28) 68 C dX5_holds_40 gx6 (by omega) (by omega) (by rw [e9]; rfl) (by decide) ?_
              refine z_iload_n C dX5_holds_68 3 rfl ?_
              refine z_iconst C dX5_holds_69 ?_
              refine z_ixor (xor32 v3 1) C dX5_holds_70 (iv_self _).symm ?_
              refine z_istore_n (lv' := [(0, .ref (G.2.2 + o0)), (1, .ref (G.2.2 + o1)), (2, .int (iv v2)), (3, .int (iv (xor32 v3 1))), (4, .int (iv v4)), (5, .int (iv (and32 v3 1))), (6, .int (iv (and32 (ushr32 v3 1) 1)))]) C dX5_holds_71 rfl (by decide) [1, 2, 3, 0, 4, 5, 6] rfl ?_
              refine z_goto 126 C dX5_holds_72 (by decide) ?_
              refine y_iinc (lv' := [(0, .ref (G.2.2 + o0)), (1, .ref (G.2.2 + o1)), (2, .int (iv v2)), (3, .int (iv (xor32 v3 1))), (4, .int (iv (w32 (v4 + 1)))), (5, .int (iv (and32 v3 1))), (6, .int (iv (and32 (ushr32 v3 1) 1)))]) C dX5_holds_126 4 rfl (by decide) [1, 2, 3, 4, 0, 5, 6] rfl ?_
              refine z_goto 5 C dX5_holds_129 (by decide) ?_
              refine z_drop (lv' := [(0, .ref (G.2.2 + o0)), (1, .ref (G.2.2 + o1)), (2, .int (iv v2)), (3, .int (iv (xor32 v3 1))), (4, .int (iv (w32 (v4 + 1))))]) [0, 1, 2, 3, 4] rfl ?_
              exact ih5 (xor32 v3 1) (w32 (v4 + 1)) (xor32_rng _ _) (w32_rng _) (lp_back h hZ5)
            have h := (if_neg e9).symm.trans h
            refine z_tableOut 105 C dX5_holds_40 gx6 (by omega) (by decide) ?_
            refine z_iload_n C dX5_holds_105 3 rfl ?_
            refine z_iconst C dX5_holds_106 ?_
            refine z_ishl (shl32 v3 1) C dX5_holds_107 (iv_self _).symm ?_
            refine z_aload_n C dX5_holds_108 0 rfl ?_
            refine z_aload_n C dX5_holds_109 1 rfl ?_
            refine z_iload_n C dX5_holds_110 2 rfl ?_
            refine z_iload C dX5_holds_111 4 rfl ?_
            obtain ⟨k10, h⟩ := gK_inv h
            obtain ⟨r11, hr11, h⟩ := bnd h
            refine y_cVb (st := [.int (iv (shl32 v3 1))]) C dX5_holds_113 mX5_87 k10 (tX5_stepHolds hC o0 o1 v2 v4 gv2 gv4 hr11) rfl rfl (Nat.le_of_ble_eq_true rfl) (by decide) (fun br11 => ?_)
            refine z_if_eq 123 C dX5_holds_116 (by decide) (rg01 br11) (fun e12 => ?_) (fun e12 => ?_)
            ·
              have h := (if_pos e12).symm.trans h
              refine z_iconst C dX5_holds_123 ?_
              refine z_drop (lv' := [(0, .ref (G.2.2 + o0)), (1, .ref (G.2.2 + o1)), (2, .int (iv v2)), (4, .int (iv v4))]) [0, 1, 2, 4] rfl ?_
              exact hb124 v4 (shl32 v3 1) 0  gv4 (shl32_rng _ _) (by decide) _ h hZ5
            ·
              have h := (if_neg e12).symm.trans h
              refine z_iconst C dX5_holds_119 ?_
              refine z_goto 124 C dX5_holds_120 (by decide) ?_
              refine z_drop (lv' := [(0, .ref (G.2.2 + o0)), (1, .ref (G.2.2 + o1)), (2, .int (iv v2)), (4, .int (iv v4))]) [0, 1, 2, 4] rfl ?_
              exact hb124 v4 (shl32 v3 1) 1  gv4 (shl32_rng _ _) (by decide) _ h hZ5
    exact hL5 _ v3 v4 gv3 gv4 hb5_
  unfold uX5_holds at h
  refine z_iconst C dX5_holds_0 ?_
  refine z_istore_n (lv' := [(0, .ref (G.2.2 + o0)), (1, .ref (G.2.2 + o1)), (2, .int (iv v2)), (3, .int (iv 0))]) C dX5_holds_1 rfl (by decide) [1, 2, 3, 0] rfl ?_
  refine z_iconst C dX5_holds_2 ?_
  refine z_istore (lv' := [(0, .ref (G.2.2 + o0)), (1, .ref (G.2.2 + o1)), (2, .int (iv v2)), (3, .int (iv 0)), (4, .int (iv 0))]) C dX5_holds_3 (by decide) [1, 2, 3, 4, 0] rfl ?_
  exact hb5 o0 o1 v2 0 0  gv2 (by decide) (by decide) h

set_option maxHeartbeats 4000000 in
set_option maxRecDepth 100000 in
theorem tX9_sale {G : Gx} {σ : State} (hC : Cy G σ) (o0 : Nat) (v1 : Int) (v2 : Int) (v3 : Int) (v4 : Int) {M0 : Mm} (gv1 : rg v1) (gv2 : rg v2) (gv3 : rg v3) (gv4 : rg v4) {R : Int × Mm} (h : uX9_sale o0 v1 v2 v3 v4 M0 = some R) : Ct G σ (6) yX9_sale cX9_sale 11 (some .int) [.ref (G.2.2 + o0), .int (iv v1), .int (iv v2), .int (iv v3), .int (iv v4)] M0 7 895 (Qi R.1 R.2) := by
  refine Ct.of hC.1 (by decide +kernel) (Nat.le_of_ble_eq_true rfl) ?_
  intro p l e R0 s m args below meth c C
  show Jz G σ p l e R0 s m args below meth c 11 7 895 (Qi R.1 R.2) M0 0 0 0 [(0, .ref (G.2.2 + o0)), (1, .int (iv v1)), (2, .int (iv v2)), (3, .int (iv v3)), (4, .int (iv v4))] []
  have hb256 : ∀  (M : Mm), uX9_sale_b256 M = some R → Jz G σ p l e R0 s m args below meth c 11 7 895 (Qi R.1 R.2) M 7 895 256 [] [] := by
    intro  M  h
    unfold uX9_sale_b256 at h
    refine z_iconst C dX9_sale_256 ?_
    exact y_iretB C dX9_sale_257 h (by decide)
  have hb223 : ∀ (o0 : Nat) (v2 : Int) (v3 : Int) (v5 : Int) (v9 : Int) (v10 : Int) (M : Mm), (rg v2) → (rg v3) → (rg v5) → (rg v9) → (rg v10) → uX9_sale_b223 o0 v2 v3 v5 v9 v10 M = some R → Jz G σ p l e R0 s m args below meth c 11 7 895 (Qi R.1 R.2) M 7 895 223 [(0, .ref (G.2.2 + o0)), (2, .int (iv v2)), (3, .int (iv v3)), (5, .int (iv v5)), (9, .int (iv v9)), (10, .int (iv v10))] [] := by
    intro o0 v2 v3 v5 v9 v10 M gv2 gv3 gv5 gv9 gv10 h
    unfold uX9_sale_b223 at h
    obtain ⟨b223, hb223_, hc223⟩ := bnd h
    have hL223 : ∀ (n : Nat) (v10 : Int) (M : Mm), (rg v10) → lp (uX9_sale_f223 o0 v2 v3 v5 v9) n (v10, M) = some b223 → Jz G σ p l e R0 s m args below meth c 11 7 895 (Qi R.1 R.2) M 7 895 223 [(0, .ref (G.2.2 + o0)), (2, .int (iv v2)), (3, .int (iv v3)), (5, .int (iv v5)), (9, .int (iv v9)), (10, .int (iv v10))] [] := by
      intro n; induction n with
      | zero => intro v10 M gv10 hq; exact (lp_0 hq).elim
      | succ n223 ih223 =>
        intro v10 M gv10 hq
        obtain ⟨z223, h, hZ223⟩ := lp_s hq
        have h : uX9_sale_s223 o0 v2 v3 v5 v9 v10 M = some z223 := h
        unfold uX9_sale_s223 at h
        refine z_iload C dX9_sale_223 5 rfl ?_
        refine z_iload C dX9_sale_225 3 rfl ?_
        refine z_icmp_ge 256 C dX9_sale_227 (by decide) gv10 gv5 (fun e1 => ?_) (fun e1 => ?_)
        ·
          have h := (if_pos e1).symm.trans h
          have h : uX9_sale_b256 M = some R := lp_ex (K := (uX9_sale_c223 o0 v2 v3 v5 v9)) h hZ223 hc223
          refine z_drop (lv' := []) [] rfl ?_
          exact hb256  M  h
        ·
          have h := (if_neg e1).symm.trans h
          refine z_aload_n C dX9_sale_230 0 rfl ?_
          obtain ⟨on2, hon2, h⟩ := bnd h
          refine y_getR C dX9_sale_231 fX9_33 rfl hon2 ?_
          refine z_aload_n C dX9_sale_234 0 rfl ?_
          obtain ⟨on3, hon3, h⟩ := bnd h
          refine y_getR C dX9_sale_235 fX9_10 rfl hon3 ?_
          refine z_iload C dX9_sale_238 5 rfl ?_
          obtain ⟨k4, h⟩ := gK_inv h
          obtain ⟨r5, hr5, h⟩ := bnd h
          refine y_cVi (st := [.ref (G.2.2 + on2)]) C dX9_sale_240 mX9_237 k4 (tX7_at hC on3 v10 gv10 hr5) rfl rfl (Nat.le_of_ble_eq_true rfl) (by decide) (fun gr5 => ?_)
          refine z_iload_n C dX9_sale_243 1 rfl ?_
          refine z_iload_n C dX9_sale_244 2 rfl ?_
          refine z_iload C dX9_sale_245 4 rfl ?_
          obtain ⟨k6, h⟩ := gK_inv h
          obtain ⟨M7, hM7, h⟩ := bnd h
          refine y_cVv (st := []) C dX9_sale_247 mX9_244 k6 (tX8_handOver hC on2 r5 v2 v3 v9 gr5 gv2 gv3 gv9 hM7) rfl rfl (Nat.le_of_ble_eq_true rfl) (by decide) ?_
          refine y_iinc (lv' := [(0, .ref (G.2.2 + o0)), (2, .int (iv v2)), (3, .int (iv v3)), (5, .int (iv v5)), (9, .int (iv v9)), (10, .int (iv (w32 (v10 + 1))))]) C dX9_sale_250 5 rfl (by decide) [1, 2, 3, 4, 5, 0] rfl ?_
          refine z_goto 223 C dX9_sale_253 (by decide) ?_
          exact ih223 (w32 (v10 + 1)) M7 (w32_rng _) (lp_back h hZ223)
    exact hL223 _ v10 M gv10 hb223_
  have hb164 : ∀ (o0 : Nat) (v1 : Int) (v2 : Int) (v3 : Int) (v4 : Int) (v5 : Int) (v8 : Int) (M : Mm), (rg v1) → (rg v2) → (rg v3) → (rg v4) → (rg v5) → (rg v8) → uX9_sale_b164 o0 v1 v2 v3 v4 v5 v8 M = some R → Jz G σ p l e R0 s m args below meth c 11 7 895 (Qi R.1 R.2) M 0 0 164 [(0, .ref (G.2.2 + o0)), (1, .int (iv v1)), (2, .int (iv v2)), (3, .int (iv v3)), (4, .int (iv v4)), (5, .int (iv v5)), (8, .int (iv v8))] [] := by
    intro o0 v1 v2 v3 v4 v5 v8 M gv1 gv2 gv3 gv4 gv5 gv8 h
    unfold uX9_sale_b164 at h
    refine z_iload C dX9_sale_164 6 rfl ?_
    refine z_iload C dX9_sale_166 4 rfl ?_
    refine z_icmp_ge 174 C dX9_sale_168 (by decide) gv8 gv4 (fun e8 => ?_) (fun e8 => ?_)
    ·
      have h := (if_pos e8).symm.trans h
      refine z_aload_n C dX9_sale_174 0 rfl ?_
      obtain ⟨on9, hon9, h⟩ := bnd h
      refine y_getR C dX9_sale_175 fX9_33 rfl hon9 ?_
      obtain ⟨k10, h⟩ := gK_inv h
      obtain ⟨r11, hr11, h⟩ := bnd h
      refine y_cVi (st := []) C dX9_sale_178 mX9_167 k10 (tX8_strokesLeft hC on9  hr11) rfl rfl (Nat.le_of_ble_eq_true rfl) (by decide) (fun gr11 => ?_)
      refine z_iload C dX9_sale_181 5 rfl ?_
      refine z_icmp_ge 188 C dX9_sale_183 (by decide) gr11 gv5 (fun e12 => ?_) (fun e12 => ?_)
      ·
        have h := (if_pos e12).symm.trans h
        refine z_aload_n C dX9_sale_188 0 rfl ?_
        obtain ⟨on13, hon13, h⟩ := bnd h
        refine y_getR C dX9_sale_189 fX9_40 rfl hon13 ?_
        refine z_aload_n C dX9_sale_192 0 rfl ?_
        obtain ⟨on14, hon14, h⟩ := bnd h
        refine y_getR C dX9_sale_193 fX9_33 rfl hon14 ?_
        obtain ⟨on15, hon15, h⟩ := bnd h
        refine y_getR C dX9_sale_196 fX9_117 rfl hon15 ?_
        obtain ⟨k16, h⟩ := gK_inv h
        obtain ⟨M17, hM17, h⟩ := bnd h
        refine y_cVva (st := []) C dX9_sale_199 mX9_171 k16 (tX2_keep hC on13 on15  hM17) rfl rfl (Nat.le_of_ble_eq_true rfl) (by decide) ?_
        refine z_aload_n C dX9_sale_202 0 rfl ?_
        obtain ⟨on18, hon18, h⟩ := bnd h
        refine y_getR C dX9_sale_203 fX9_33 rfl hon18 ?_
        refine z_iload_n C dX9_sale_206 1 rfl ?_
        refine z_iload_n C dX9_sale_207 2 rfl ?_
        refine z_iload_n C dX9_sale_208 3 rfl ?_
        refine z_iload C dX9_sale_209 4 rfl ?_
        refine z_iload C dX9_sale_211 5 rfl ?_
        refine z_iload C dX9_sale_213 6 rfl ?_
        obtain ⟨k19, h⟩ := gK_inv h
        obtain ⟨r20, M21, hr20, h⟩ := bnd2 h
        refine y_cVi (st := []) C dX9_sale_215 mX9_240 k19 (tX8_recordSale hC on18 v1 v2 v3 v4 v5 v8 gv1 gv2 gv3 gv4 gv5 gv8 hr20) rfl rfl (Nat.le_of_ble_eq_true rfl) (by decide) (fun gr20 => ?_)
        refine z_istore (lv' := [(0, .ref (G.2.2 + o0)), (1, .int (iv v1)), (2, .int (iv v2)), (3, .int (iv v3)), (4, .int (iv v4)), (5, .int (iv v5)), (8, .int (iv v8)), (9, .int (iv r20))]) C dX9_sale_218 (by decide) [1, 2, 3, 4, 5, 6, 7, 0] rfl ?_
        refine z_iconst C dX9_sale_220 ?_
        refine z_istore (lv' := [(0, .ref (G.2.2 + o0)), (1, .int (iv v1)), (2, .int (iv v2)), (3, .int (iv v3)), (4, .int (iv v4)), (5, .int (iv v5)), (8, .int (iv v8)), (9, .int (iv r20)), (10, .int (iv 0))]) C dX9_sale_221 (by decide) [1, 2, 3, 4, 5, 6, 7, 8, 0] rfl ?_
        refine z_drop (lv' := [(0, .ref (G.2.2 + o0)), (2, .int (iv v2)), (3, .int (iv v3)), (5, .int (iv v5)), (9, .int (iv r20)), (10, .int (iv 0))]) [0, 2, 3, 5, 7, 8] rfl ?_
        exact hb223 o0 v2 v3 v5 r20 0 M21 gv2 gv3 gv5 gr20 (by decide) h
      ·
        have h := (if_neg e12).symm.trans h
        refine z_iconst C dX9_sale_186 ?_
        exact y_iretB C dX9_sale_187 h (by decide)
    ·
      have h := (if_neg e8).symm.trans h
      refine z_bipush C dX9_sale_171 (by decide) ?_
      exact y_iretB C dX9_sale_173 h (by decide)
  have hb127 : ∀ (o0 : Nat) (v1 : Int) (v2 : Int) (v3 : Int) (v4 : Int) (v5 : Int) (v6 : Int) (v8 : Int) (v9 : Int) (M : Mm), (rg v1) → (rg v2) → (rg v3) → (rg v4) → (rg v5) → (rg v6) → (rg v8) → (rg v9) → uX9_sale_b127 o0 v1 v2 v3 v4 v5 v6 v8 v9 M = some R → Jz G σ p l e R0 s m args below meth c 11 7 895 (Qi R.1 R.2) M 0 0 127 [(0, .ref (G.2.2 + o0)), (1, .int (iv v1)), (2, .int (iv v2)), (3, .int (iv v3)), (4, .int (iv v4)), (5, .int (iv v5)), (6, .int (iv v6)), (8, .int (iv v8)), (9, .int (iv v9))] [] := by
    intro o0 v1 v2 v3 v4 v5 v6 v8 v9 M gv1 gv2 gv3 gv4 gv5 gv6 gv8 gv9 h
    unfold uX9_sale_b127 at h
    obtain ⟨b127, hb127_, hc127⟩ := bnd h
    have hL127 : ∀ (n : Nat) (v8 : Int) (v9 : Int), (rg v8) → (rg v9) → lp (uX9_sale_f127 o0 v1 v2 v3 v4 v5 v6 M) n (v8, v9) = some b127 → Jz G σ p l e R0 s m args below meth c 11 7 895 (Qi R.1 R.2) M 0 0 127 [(0, .ref (G.2.2 + o0)), (1, .int (iv v1)), (2, .int (iv v2)), (3, .int (iv v3)), (4, .int (iv v4)), (5, .int (iv v5)), (6, .int (iv v6)), (8, .int (iv v8)), (9, .int (iv v9))] [] := by
      intro n; induction n with
      | zero => intro v8 v9 gv8 gv9 hq; exact (lp_0 hq).elim
      | succ n127 ih127 =>
        intro v8 v9 gv8 gv9 hq
        obtain ⟨z127, h, hZ127⟩ := lp_s hq
        have h : uX9_sale_s127 o0 v1 v2 v3 v4 v5 v6 M v8 v9 = some z127 := h
        unfold uX9_sale_s127 at h
        refine z_iload C dX9_sale_127 8 rfl ?_
        refine z_iload C dX9_sale_129 5 rfl ?_
        refine z_icmp_ge 164 C dX9_sale_131 (by decide) gv9 gv5 (fun e22 => ?_) (fun e22 => ?_)
        ·
          have h := (if_pos e22).symm.trans h
          have h : uX9_sale_b164 o0 v1 v2 v3 v4 v5 v8 M = some R := lp_ex (K := (uX9_sale_c127 o0 v1 v2 v3 v4 v5 v6 M)) h hZ127 hc127
          refine z_drop (lv' := [(0, .ref (G.2.2 + o0)), (1, .int (iv v1)), (2, .int (iv v2)), (3, .int (iv v3)), (4, .int (iv v4)), (5, .int (iv v5)), (8, .int (iv v8))]) [0, 1, 2, 3, 4, 5, 7] rfl ?_
          exact hb164 o0 v1 v2 v3 v4 v5 v8 M gv1 gv2 gv3 gv4 gv5 gv8 h
        ·
          have h := (if_neg e22).symm.trans h
          refine z_iload C dX9_sale_134 7 rfl ?_
          refine z_aload_n C dX9_sale_136 0 rfl ?_
          obtain ⟨on23, hon23, h⟩ := bnd h
          refine y_getR C dX9_sale_137 fX9_33 rfl hon23 ?_
          refine z_iload_n C dX9_sale_140 2 rfl ?_
          refine z_aload_n C dX9_sale_141 0 rfl ?_
          obtain ⟨on24, hon24, h⟩ := bnd h
          refine y_getR C dX9_sale_142 fX9_10 rfl hon24 ?_
          refine z_iload C dX9_sale_145 8 rfl ?_
          obtain ⟨k25, h⟩ := gK_inv h
          obtain ⟨r26, hr26, h⟩ := bnd h
          refine y_cVi (st := [.int (iv v2), .ref (G.2.2 + on23), .int (iv v8)]) C dX9_sale_147 mX9_237 k25 (tX7_at hC on24 v9 gv9 hr26) rfl rfl (Nat.le_of_ble_eq_true rfl) (by decide) (fun gr26 => ?_)
          refine z_iload C dX9_sale_150 6 rfl ?_
          obtain ⟨k27, h⟩ := gK_inv h
          obtain ⟨r28, hr28, h⟩ := bnd h
          refine y_cVi (st := [.int (iv v8)]) C dX9_sale_152 mX9_223 k27 (tX8_worth hC on23 v2 r26 v6 gv2 gr26 gv6 hr28) rfl rfl (Nat.le_of_ble_eq_true rfl) (by decide) (fun gr28 => ?_)
          refine y_iadd C dX9_sale_155 ?_
          refine z_istore (lv' := [(0, .ref (G.2.2 + o0)), (1, .int (iv v1)), (2, .int (iv v2)), (3, .int (iv v3)), (4, .int (iv v4)), (5, .int (iv v5)), (6, .int (iv v6)), (8, .int (iv (w32 (v8 + r28)))), (9, .int (iv v9))]) C dX9_sale_156 (by decide) [1, 2, 3, 4, 5, 6, 7, 0, 8] rfl ?_
          refine y_iinc (lv' := [(0, .ref (G.2.2 + o0)), (1, .int (iv v1)), (2, .int (iv v2)), (3, .int (iv v3)), (4, .int (iv v4)), (5, .int (iv v5)), (6, .int (iv v6)), (8, .int (iv (w32 (v8 + r28)))), (9, .int (iv (w32 (v9 + 1))))]) C dX9_sale_158 8 rfl (by decide) [1, 2, 3, 4, 5, 6, 7, 8, 0] rfl ?_
          refine z_goto 127 C dX9_sale_161 (by decide) ?_
          exact ih127 (w32 (v8 + r28)) (w32 (v9 + 1)) (w32_rng _) (w32_rng _) (lp_back h hZ127)
    exact hL127 _ v8 v9 gv8 gv9 hb127_
  unfold uX9_sale at h
  refine z_aload_n C dX9_sale_0 0 rfl ?_
  obtain ⟨on29, hon29, h⟩ := bnd h
  refine y_getR C dX9_sale_1 fX9_10 rfl hon29 ?_
  obtain ⟨x30, hx30, h⟩ := bnd h
  refine y_getI C dX9_sale_4 fX9_66 rfl hx30 (fun gx30 => ?_)
  refine z_istore (lv' := [(0, .ref (G.2.2 + o0)), (1, .int (iv v1)), (2, .int (iv v2)), (3, .int (iv v3)), (4, .int (iv v4)), (5, .int (iv x30))]) C dX9_sale_7 (by decide) [1, 2, 3, 4, 5, 0] rfl ?_
  refine z_aload_n C dX9_sale_9 0 rfl ?_
  obtain ⟨on31, hon31, h⟩ := bnd h
  refine y_getR C dX9_sale_10 fX9_10 rfl hon31 ?_
  refine z_iconst C dX9_sale_13 ?_
  obtain ⟨M32, hM32, h⟩ := bnd h
  refine y_putI C dX9_sale_14 fX9_66 rfl rfl rfl rfl hM32 ?_
  refine z_aload_n C dX9_sale_17 0 rfl ?_
  obtain ⟨on33, hon33, h⟩ := bnd h
  refine y_getR C dX9_sale_18 fX9_33 rfl hon33 ?_
  refine z_iload_n C dX9_sale_21 1 rfl ?_
  obtain ⟨k34, h⟩ := gK_inv h
  obtain ⟨r35, hr35, h⟩ := bnd h
  refine y_cVb (st := []) C dX9_sale_22 mX9_97 k34 (tX8_isWho hC on33 v1 gv1 hr35) rfl rfl (Nat.le_of_ble_eq_true rfl) (by decide) (fun br35 => ?_)
  refine z_if_eq 50 C dX9_sale_25 (by decide) (rg01 br35) (fun e36 => ?_) (fun e36 => ?_)
  ·
    have h := (if_pos e36).symm.trans h
    refine z_iconst C dX9_sale_50 ?_
    exact y_iretB C dX9_sale_51 h (by decide)
  ·
    have h := (if_neg e36).symm.trans h
    refine z_aload_n C dX9_sale_28 0 rfl ?_
    obtain ⟨on37, hon37, h⟩ := bnd h
    refine y_getR C dX9_sale_29 fX9_33 rfl hon37 ?_
    refine z_iload_n C dX9_sale_32 2 rfl ?_
    obtain ⟨k38, h⟩ := gK_inv h
    obtain ⟨r39, hr39, h⟩ := bnd h
    refine y_cVb (st := []) C dX9_sale_33 mX9_97 k38 (tX8_isWho hC on37 v2 gv2 hr39) rfl rfl (Nat.le_of_ble_eq_true rfl) (by decide) (fun br39 => ?_)
    refine z_if_eq 50 C dX9_sale_36 (by decide) (rg01 br39) (fun e40 => ?_) (fun e40 => ?_)
    ·
      have h := (if_pos e40).symm.trans h
      refine z_iconst C dX9_sale_50 ?_
      exact y_iretB C dX9_sale_51 h (by decide)
    ·
      have h := (if_neg e40).symm.trans h
      refine z_aload_n C dX9_sale_39 0 rfl ?_
      obtain ⟨on41, hon41, h⟩ := bnd h
      refine y_getR C dX9_sale_40 fX9_33 rfl hon41 ?_
      refine z_iload_n C dX9_sale_43 3 rfl ?_
      obtain ⟨k42, h⟩ := gK_inv h
      obtain ⟨r43, hr43, h⟩ := bnd h
      refine y_cVb (st := []) C dX9_sale_44 mX9_138 k42 (tX8_isMint hC on41 v3 gv3 hr43) rfl rfl (Nat.le_of_ble_eq_true rfl) (by decide) (fun br43 => ?_)
      refine z_if_ne 52 C dX9_sale_47 (by decide) (rg01 br43) (fun e44 => ?_) (fun e44 => ?_)
      ·
        have h := (if_neg e44).symm.trans h
        refine z_iload C dX9_sale_52 4 rfl ?_
        refine z_iconst C dX9_sale_54 ?_
        refine z_icmp_lt 75 C dX9_sale_55 (by decide) gv4 (by decide) (fun e45 => ?_) (fun e45 => ?_)
        ·
          have h := (if_pos e45).symm.trans h
          refine z_iconst C dX9_sale_75 ?_
          exact y_iretB C dX9_sale_76 h (by decide)
        ·
          have h := (if_neg e45).symm.trans h
          refine z_iload C dX9_sale_58 4 rfl ?_
          refine z_sipush C dX9_sale_60 (by decide) ?_
          refine z_icmp_gt 75 C dX9_sale_63 (by decide) gv4 (by decide) (fun e46 => ?_) (fun e46 => ?_)
          ·
            have h := (if_pos e46).symm.trans h
            refine z_iconst C dX9_sale_75 ?_
            exact y_iretB C dX9_sale_76 h (by decide)
          ·
            have h := (if_neg e46).symm.trans h
            refine z_aload_n C dX9_sale_66 0 rfl ?_
            refine z_iload C dX9_sale_67 5 rfl ?_
            obtain ⟨k47, h⟩ := gK_inv h
            obtain ⟨r48, hr48, h⟩ := bnd h
            refine y_cVb (st := []) C dX9_sale_69 mX9_226 k47 (tX9_tellsUnlikeCoins hC o0 x30 gx30 hr48) rfl rfl (Nat.le_of_ble_eq_true rfl) (by decide) (fun br48 => ?_)
            refine z_if_ne 77 C dX9_sale_72 (by decide) (rg01 br48) (fun e49 => ?_) (fun e49 => ?_)
            ·
              have h := (if_neg e49).symm.trans h
              refine z_aload_n C dX9_sale_77 0 rfl ?_
              obtain ⟨on50, hon50, h⟩ := bnd h
              refine y_getR C dX9_sale_78 fX9_33 rfl hon50 ?_
              refine z_iload_n C dX9_sale_81 1 rfl ?_
              refine z_iload_n C dX9_sale_82 2 rfl ?_
              obtain ⟨k51, h⟩ := gK_inv h
              obtain ⟨r52, hr52, h⟩ := bnd h
              refine y_cVb (st := []) C dX9_sale_83 mX9_229 k51 (tX8_canTrade hC on50 v1 v2 gv1 gv2 hr52) rfl rfl (Nat.le_of_ble_eq_true rfl) (by decide) (fun br52 => ?_)
              refine z_if_ne 91 C dX9_sale_86 (by decide) (rg01 br52) (fun e53 => ?_) (fun e53 => ?_)
              ·
                have h := (if_neg e53).symm.trans h
                refine z_aload_n C dX9_sale_91 0 rfl ?_
                obtain ⟨on54, hon54, h⟩ := bnd h
                refine y_getR C dX9_sale_92 fX9_33 rfl hon54 ?_
                obtain ⟨k55, h⟩ := gK_inv h
                obtain ⟨r56, hr56, h⟩ := bnd h
                refine y_cVi (st := []) C dX9_sale_95 mX9_217 k55 (tX8_luckNow hC on54  hr56) rfl rfl (Nat.le_of_ble_eq_true rfl) (by decide) (fun gr56 => ?_)
                refine z_istore (lv' := [(0, .ref (G.2.2 + o0)), (1, .int (iv v1)), (2, .int (iv v2)), (3, .int (iv v3)), (4, .int (iv v4)), (5, .int (iv x30)), (6, .int (iv r56))]) C dX9_sale_98 (by decide) [1, 2, 3, 4, 5, 6, 0] rfl ?_
                refine z_aload_n C dX9_sale_100 0 rfl ?_
                refine z_iload_n C dX9_sale_101 1 rfl ?_
                refine z_iload_n C dX9_sale_102 2 rfl ?_
                refine z_iload_n C dX9_sale_103 3 rfl ?_
                refine z_iload C dX9_sale_104 5 rfl ?_
                refine z_iload C dX9_sale_106 6 rfl ?_
                obtain ⟨k57, h⟩ := gK_inv h
                obtain ⟨r58, hr58, h⟩ := bnd h
                refine y_cVi (st := []) C dX9_sale_108 mX9_233 k57 (tX9_leastWrong hC o0 v1 v2 v3 x30 r56 gv1 gv2 gv3 gx30 gr56 hr58) rfl rfl (Nat.le_of_ble_eq_true rfl) (by decide) (fun gr58 => ?_)
                refine z_istore (lv' := [(0, .ref (G.2.2 + o0)), (1, .int (iv v1)), (2, .int (iv v2)), (3, .int (iv v3)), (4, .int (iv v4)), (5, .int (iv x30)), (6, .int (iv r56)), (7, .int (iv r58))]) C dX9_sale_111 (by decide) [1, 2, 3, 4, 5, 6, 7, 0] rfl ?_
                refine z_iload C dX9_sale_113 7 rfl ?_
                refine z_if_eq 121 C dX9_sale_115 (by decide) gr58 (fun e59 => ?_) (fun e59 => ?_)
                ·
                  have h := (if_pos e59).symm.trans h
                  refine z_iconst C dX9_sale_121 ?_
                  refine z_istore (lv' := [(0, .ref (G.2.2 + o0)), (1, .int (iv v1)), (2, .int (iv v2)), (3, .int (iv v3)), (4, .int (iv v4)), (5, .int (iv x30)), (6, .int (iv r56)), (7, .int (iv r58)), (8, .int (iv 0))]) C dX9_sale_122 (by decide) [1, 2, 3, 4, 5, 6, 7, 8, 0] rfl ?_
                  refine z_iconst C dX9_sale_124 ?_
                  refine z_istore (lv' := [(0, .ref (G.2.2 + o0)), (1, .int (iv v1)), (2, .int (iv v2)), (3, .int (iv v3)), (4, .int (iv v4)), (5, .int (iv x30)), (6, .int (iv r56)), (7, .int (iv r58)), (8, .int (iv 0)), (9, .int (iv 0))]) C dX9_sale_125 (by decide) [1, 2, 3, 4, 5, 6, 7, 8, 9, 0] rfl ?_
                  refine z_drop (lv' := [(0, .ref (G.2.2 + o0)), (1, .int (iv v1)), (2, .int (iv v2)), (3, .int (iv v3)), (4, .int (iv v4)), (5, .int (iv x30)), (6, .int (iv r56)), (8, .int (iv 0)), (9, .int (iv 0))]) [0, 1, 2, 3, 4, 5, 6, 8, 9] rfl ?_
                  exact hb127 o0 v1 v2 v3 v4 x30 r56 0 0 M32 gv1 gv2 gv3 gv4 gx30 gr56 (by decide) (by decide) h
                ·
                  have h := (if_neg e59).symm.trans h
                  refine z_iload C dX9_sale_118 7 rfl ?_
                  exact y_iretB C dX9_sale_120 h gr58
              ·
                have h := (if_pos e53).symm.trans h
                refine z_iconst C dX9_sale_89 ?_
                exact y_iretB C dX9_sale_90 h (by decide)
            ·
              have h := (if_pos e49).symm.trans h
              refine z_iconst C dX9_sale_75 ?_
              exact y_iretB C dX9_sale_76 h (by decide)
      ·
        have h := (if_pos e44).symm.trans h
        refine z_iconst C dX9_sale_50 ?_
        exact y_iretB C dX9_sale_51 h (by decide)

set_option maxHeartbeats 4000000 in
set_option maxRecDepth 100000 in
theorem tX9_payment {G : Gx} {σ : State} (hC : Cy G σ) (o0 : Nat) (v1 : Int) (v2 : Int) (v3 : Int) (v4 : Int) {M0 : Mm} (gv1 : rg v1) (gv2 : rg v2) (gv3 : rg v3) (gv4 : rg v4) {R : Int × Mm} (h : uX9_payment o0 v1 v2 v3 v4 M0 = some R) : Ct G σ (212) yX9_payment cX9_payment 6 (some .int) [.ref (G.2.2 + o0), .int (iv v1), .int (iv v2), .int (iv v3), .int (iv v4)] M0 0 0 (Qi R.1 R.2) := by
  refine Ct.of hC.1 (by decide +kernel) (Nat.le_of_ble_eq_true rfl) ?_
  intro p l e R0 s m args below meth c C
  show Jz G σ p l e R0 s m args below meth c 6 0 0 (Qi R.1 R.2) M0 0 0 0 [(0, .ref (G.2.2 + o0)), (1, .int (iv v1)), (2, .int (iv v2)), (3, .int (iv v3)), (4, .int (iv v4))] []
  unfold uX9_payment at h
  refine z_aload_n C dX9_payment_0 0 rfl ?_
  refine z_iload_n C dX9_payment_1 1 rfl ?_
  refine z_iload_n C dX9_payment_2 2 rfl ?_
  refine z_iload_n C dX9_payment_3 3 rfl ?_
  refine z_iload C dX9_payment_4 4 rfl ?_
  obtain ⟨k1, h⟩ := gK_inv h
  obtain ⟨r2, hr2, h⟩ := bnd h
  refine y_cVb (st := []) C dX9_payment_6 mX9_265 k1 (tX9_payable hC o0 v1 v2 v3 v4 gv1 gv2 gv3 gv4 hr2) rfl rfl (Nat.le_of_ble_eq_true rfl) (by decide) (fun br2 => ?_)
  refine z_if_ne 15 C dX9_payment_9 (by decide) (rg01 br2) (fun e3 => ?_) (fun e3 => ?_)
  ·
    have h := (if_neg e3).symm.trans h
    refine z_aload_n C dX9_payment_15 0 rfl ?_
    obtain ⟨on4, hon4, h⟩ := bnd h
    refine y_getR C dX9_payment_16 fX9_51 rfl hon4 ?_
    refine z_aload_n C dX9_payment_19 0 rfl ?_
    obtain ⟨on5, hon5, h⟩ := bnd h
    refine y_getR C dX9_payment_20 fX9_33 rfl hon5 ?_
    refine z_iload_n C dX9_payment_23 1 rfl ?_
    refine z_iload_n C dX9_payment_24 2 rfl ?_
    refine z_iload_n C dX9_payment_25 3 rfl ?_
    refine z_iload C dX9_payment_26 4 rfl ?_
    obtain ⟨k6, h⟩ := gK_inv h
    obtain ⟨r7, M8, hr7, h⟩ := bnd2 h
    refine y_cVi (st := []) C dX9_payment_28 mX9_269 k6 (tX0_find hC on4 on5 v1 v2 v3 v4 gv1 gv2 gv3 gv4 hr7) rfl rfl (Nat.le_of_ble_eq_true rfl) (by decide) (fun gr7 => ?_)
    refine z_istore (lv' := [(0, .ref (G.2.2 + o0)), (1, .int (iv v1)), (2, .int (iv v2)), (3, .int (iv v3)), (4, .int (iv v4)), (5, .int (iv r7))]) C dX9_payment_31 (by decide) [1, 2, 3, 4, 5, 0] rfl ?_
    refine z_iload C dX9_payment_33 5 rfl ?_
    refine z_iconst C dX9_payment_35 ?_
    refine z_icmp_eq 43 C dX9_payment_36 (by decide) gr7 (by decide) (fun e9 => ?_) (fun e9 => ?_)
    ·
      have h := (if_pos e9).symm.trans h
      refine z_iload C dX9_payment_43 5 rfl ?_
      exact y_iretB C dX9_payment_45 h gr7
    ·
      have h := (if_neg e9).symm.trans h
      refine z_aload_n C dX9_payment_39 0 rfl ?_
      obtain ⟨k10, h⟩ := gK_inv h
      obtain ⟨M11, hM11, h⟩ := bnd h
      refine y_cVv (st := []) C dX9_payment_40 mX9_273 k10 (tX9_tellPaid hC o0  hM11) rfl rfl (Nat.le_of_ble_eq_true rfl) (by decide) ?_
      refine z_iload C dX9_payment_43 5 rfl ?_
      exact y_iretB C dX9_payment_45 h gr7
  ·
    have h := (if_pos e3).symm.trans h
    refine z_bipush C dX9_payment_12 (by decide) ?_
    exact y_iretB C dX9_payment_14 h (by decide)
