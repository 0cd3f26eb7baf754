set_option maxHeartbeats 4000000 in
set_option maxRecDepth 100000 in
theorem qX10_thrown {G : Gx} {σ : State} (hC : Cz G σ) {sh : Sh} {I : Mi} {J : Mj}  (hS : St sh) : Ce G σ 1 yX10_thrown cX10_thrown 1 (some .int) [.ref (G.2.2 + 57)] (sh, I, J) 0 0 (some (.int (iv (gi I 57 0)))) (sh, I, J) := by
  refine Ct.of hC (by decide +kernel) (Nat.le_of_ble_eq_true rfl) ?_
  intro p l e R s m args below meth c C
  show Jz G σ p l e R s m args below meth c 1 0 0 (Qx (some (.int (iv (gi I 57 0)))) (sh, I, J)) (sh, I, J) 0 0 0 [(0, .ref (G.2.2 + 57))] []
  refine z_aload_n C dX10_thrown_0 0 rfl ?_
  refine z_getI C dX10_thrown_1 fX10_83 rfl (kd_57 hS) ?_
  exact z_ireturnx C dX10_thrown_4 rfl rfl

set_option maxHeartbeats 4000000 in
set_option maxRecDepth 100000 in
theorem qX10_refuse {G : Gx} {σ : State} (hC : Cz G σ) {sh : Sh} {I : Mi} {J : Mj}  (hS : St sh) : Ce G σ 1 yX10_refuse cX10_refuse 1 (some .int) [.ref (G.2.2 + 57)] (sh, I, J) 0 0 (some (.int (iv (0)))) (sh, wi I 57 0 1, J) := by
  refine Ct.of hC (by decide +kernel) (Nat.le_of_ble_eq_true rfl) ?_
  intro p l e R s m args below meth c C
  show Jz G σ p l e R s m args below meth c 1 0 0 (Qx (some (.int (iv (0)))) (sh, wi I 57 0 1, J)) (sh, I, J) 0 0 0 [(0, .ref (G.2.2 + 57))] []
  refine z_aload_n C dX10_refuse_0 0 rfl ?_
  refine z_iconst C dX10_refuse_1 ?_
  refine z_putI C dX10_refuse_2 fX10_83 rfl rfl (kd_57 hS) rfl rfl ?_
  refine z_iconst C dX10_refuse_5 ?_
  exact z_ireturnx C dX10_refuse_6 rfl rfl

set_option maxHeartbeats 4000000 in
set_option maxRecDepth 100000 in
theorem qX10_take {G : Gx} {σ : State} (hC : Cz G σ) {sh : Sh} {I : Mi} {J : Mj}  (hS : St sh) : Ce G σ 1 yX10_take cX10_take 2 (some .int) [.ref (G.2.2 + 57)] (sh, I, J) 0 0 (some (.int (iv (gi I 57 2)))) (sh, wi I 57 2 0, J) := by
  refine Ct.of hC (by decide +kernel) (Nat.le_of_ble_eq_true rfl) ?_
  intro p l e R s m args below meth c C
  show Jz G σ p l e R s m args below meth c 2 0 0 (Qx (some (.int (iv (gi I 57 2)))) (sh, wi I 57 2 0, J)) (sh, I, J) 0 0 0 [(0, .ref (G.2.2 + 57))] []
  refine z_aload_n C dX10_take_0 0 rfl ?_
  refine z_getI C dX10_take_1 fX10_86 rfl (kd_57 hS) ?_
  refine z_istore_n (lv' := [(0, .ref (G.2.2 + 57)), (1, .int (iv (gi I 57 2)))]) C dX10_take_4 rfl (by decide) [1, 0] rfl ?_
  refine z_aload_n C dX10_take_5 0 rfl ?_
  refine z_iconst C dX10_take_6 ?_
  refine z_putI C dX10_take_7 fX10_86 rfl rfl (kd_57 hS) rfl rfl ?_
  refine z_iload_n C dX10_take_10 1 rfl ?_
  exact z_ireturnx C dX10_take_11 rfl rfl

set_option maxHeartbeats 4000000 in
set_option maxRecDepth 100000 in
theorem qX10_isIn {G : Gx} {σ : State} (hC : Cz G σ) {sh : Sh} {I : Mi} {J : Mj} (v a b : Int) (rv : -2147483648 ≤ v ∧ v < 2147483648) (ra : -2147483648 ≤ a ∧ a < 2147483648) (rb : -2147483648 ≤ b ∧ b < 2147483648) : Ce G σ 1 yX10_isIn cX10_isIn 3 (some .boolean) [.int (iv (v)), .int (iv (a)), .int (iv (b))] (sh, I, J) 0 0 (some (.int (iv (b2 (a ≤ v ∧ v ≤ b))))) (sh, I, J) := by
  refine Ct.of hC (by decide +kernel) (Nat.le_of_ble_eq_true rfl) ?_
  intro p l e R s m args below meth c C
  show Jz G σ p l e R s m args below meth c 3 0 0 (Qx (some (.int (iv (b2 (a ≤ v ∧ v ≤ b))))) (sh, I, J)) (sh, I, J) 0 0 0 [(0, .int (iv (v))), (1, .int (iv (a))), (2, .int (iv (b)))] []
  refine z_iload_n C dX10_isIn_0 0 rfl ?_
  refine z_iload_n C dX10_isIn_1 1 rfl ?_
  refine z_icmp_lt 14 C dX10_isIn_2 (by decide) (by omega) (by omega) (fun h1 => ?_) (fun h1 => ?_)
  ·
    refine z_iconst C dX10_isIn_14 ?_
    exact z_zreturnx C dX10_isIn_15 rfl (b2_f (by omega)) rfl
  ·
    refine z_iload_n C dX10_isIn_5 0 rfl ?_
    refine z_iload_n C dX10_isIn_6 2 rfl ?_
    refine z_icmp_gt 14 C dX10_isIn_7 (by decide) (by omega) (by omega) (fun h2 => ?_) (fun h2 => ?_)
    ·
      refine z_iconst C dX10_isIn_14 ?_
      exact z_zreturnx C dX10_isIn_15 rfl (b2_f (by omega)) rfl
    ·
      refine z_iconst C dX10_isIn_10 ?_
      refine z_goto 15 C dX10_isIn_11 (by decide) ?_
      exact z_zreturnx C dX10_isIn_15 rfl (b2_t (by omega)) rfl

set_option maxHeartbeats 4000000 in
set_option maxRecDepth 100000 in
theorem qX10_isDigit {G : Gx} {σ : State} (hC : Cz G σ) {sh : Sh} {I : Mi} {J : Mj} (v : Int) (rv : -2147483648 ≤ v ∧ v < 2147483648) : Ce G σ 1 yX10_isDigit cX10_isDigit 1 (some .boolean) [.int (iv (v))] (sh, I, J) 0 0 (some (.int (iv (b2 (48 ≤ v ∧ v ≤ 57))))) (sh, I, J) := by
  refine Ct.of hC (by decide +kernel) (Nat.le_of_ble_eq_true rfl) ?_
  intro p l e R s m args below meth c C
  show Jz G σ p l e R s m args below meth c 1 0 0 (Qx (some (.int (iv (b2 (48 ≤ v ∧ v ≤ 57))))) (sh, I, J)) (sh, I, J) 0 0 0 [(0, .int (iv (v)))] []
  refine z_iload_n C dX10_isDigit_0 0 rfl ?_
  refine z_bipush C dX10_isDigit_1 (by decide) ?_
  refine z_icmp_lt 16 C dX10_isDigit_3 (by decide) (by omega) (by decide) (fun h1 => ?_) (fun h1 => ?_)
  ·
    refine z_iconst C dX10_isDigit_16 ?_
    exact z_zreturnx C dX10_isDigit_17 rfl (b2_f (by omega)) rfl
  ·
    refine z_iload_n C dX10_isDigit_6 0 rfl ?_
    refine z_bipush C dX10_isDigit_7 (by decide) ?_
    refine z_icmp_gt 16 C dX10_isDigit_9 (by decide) (by omega) (by decide) (fun h2 => ?_) (fun h2 => ?_)
    ·
      refine z_iconst C dX10_isDigit_16 ?_
      exact z_zreturnx C dX10_isDigit_17 rfl (b2_f (by omega)) rfl
    ·
      refine z_iconst C dX10_isDigit_12 ?_
      refine z_goto 17 C dX10_isDigit_13 (by decide) ?_
      exact z_zreturnx C dX10_isDigit_17 rfl (b2_t (by omega)) rfl

set_option maxHeartbeats 4000000 in
set_option maxRecDepth 100000 in
theorem qX10_isLetter {G : Gx} {σ : State} (hC : Cz G σ) {sh : Sh} {I : Mi} {J : Mj} (v : Int) (rv : -2147483648 ≤ v ∧ v < 2147483648) : Ce G σ 1 yX10_isLetter cX10_isLetter 1 (some .boolean) [.int (iv (v))] (sh, I, J) 0 0 (some (.int (iv (b2 (97 ≤ v ∧ v ≤ 122))))) (sh, I, J) := by
  refine Ct.of hC (by decide +kernel) (Nat.le_of_ble_eq_true rfl) ?_
  intro p l e R s m args below meth c C
  show Jz G σ p l e R s m args below meth c 1 0 0 (Qx (some (.int (iv (b2 (97 ≤ v ∧ v ≤ 122))))) (sh, I, J)) (sh, I, J) 0 0 0 [(0, .int (iv (v)))] []
  refine z_iload_n C dX10_isLetter_0 0 rfl ?_
  refine z_bipush C dX10_isLetter_1 (by decide) ?_
  refine z_icmp_lt 16 C dX10_isLetter_3 (by decide) (by omega) (by decide) (fun h1 => ?_) (fun h1 => ?_)
  ·
    refine z_iconst C dX10_isLetter_16 ?_
    exact z_zreturnx C dX10_isLetter_17 rfl (b2_f (by omega)) rfl
  ·
    refine z_iload_n C dX10_isLetter_6 0 rfl ?_
    refine z_bipush C dX10_isLetter_7 (by decide) ?_
    refine z_icmp_gt 16 C dX10_isLetter_9 (by decide) (by omega) (by decide) (fun h2 => ?_) (fun h2 => ?_)
    ·
      refine z_iconst C dX10_isLetter_16 ?_
      exact z_zreturnx C dX10_isLetter_17 rfl (b2_f (by omega)) rfl
    ·
      refine z_iconst C dX10_isLetter_12 ?_
      refine z_goto 17 C dX10_isLetter_13 (by decide) ?_
      exact z_zreturnx C dX10_isLetter_17 rfl (b2_t (by omega)) rfl

set_option maxHeartbeats 4000000 in
set_option maxRecDepth 100000 in
theorem qX10_byteAt {G : Gx} {σ : State} (hC : Cz G σ) {sh : Sh} {I : Mi} {J : Mj} (v : Int) (hS : St sh) (rv : -2147483648 ≤ v ∧ v < 2147483648) (h0 : 0 ≤ v) (hz : gi I 57 3 ≤ 740) : Ce G σ 1 yX10_byteAt cX10_byteAt 2 (some .int) [.ref (G.2.2 + 57), .int (iv (v))] (sh, I, J) 0 0 (some (.int (iv (if v < gi I 57 3 then gi I 58 v.toNat else 0)))) (sh, I, J) := by
  refine Ct.of hC (by decide +kernel) (Nat.le_of_ble_eq_true rfl) ?_
  intro p l e R s m args below meth c C
  show Jz G σ p l e R s m args below meth c 2 0 0 (Qx (some (.int (iv (if v < gi I 57 3 then gi I 58 v.toNat else 0)))) (sh, I, J)) (sh, I, J) 0 0 0 [(0, .ref (G.2.2 + 57)), (1, .int (iv (v)))] []
  refine z_iload_n C dX10_byteAt_0 1 rfl ?_
  refine z_aload_n C dX10_byteAt_1 0 rfl ?_
  refine z_getI C dX10_byteAt_2 fX10_93 rfl (kd_57 hS) ?_
  refine z_icmp_ge 17 C dX10_byteAt_5 (by decide) (by omega) (gi_rng _ _ _) (fun h1 => ?_) (fun h1 => ?_)
  ·
    refine z_iconst C dX10_byteAt_17 ?_
    exact z_ireturnx C dX10_byteAt_18 (by first | rfl | assumption | omega) rfl
  ·
    refine z_aload_n C dX10_byteAt_8 0 rfl ?_
    refine z_getR C dX10_byteAt_9 fX10_7 rfl (kd_57 hS) (r_57_1 hS) ?_
    refine z_iload_n C dX10_byteAt_12 1 rfl ?_
    refine z_iald (q := (v).toNat) C dX10_byteAt_13 (ka_58 hS) (by omega) (by omega) ?_
    refine z_goto 18 C dX10_byteAt_14 (by decide) ?_
    exact z_ireturnx C dX10_byteAt_18 (by first | rfl | assumption | omega) rfl

set_option maxHeartbeats 4000000 in
set_option maxRecDepth 100000 in
theorem qX10_people {G : Gx} {σ : State} (hC : Cz G σ) {sh : Sh} {I : Mi} {J : Mj}  (hS : St sh) : Ce G σ 1 yX10_people cX10_people 1 (some .int) [.ref (G.2.2 + 57)] (sh, I, J) 0 0 (some (.int (iv (gi I 59 0)))) (sh, I, J) := by
  refine Ct.of hC (by decide +kernel) (Nat.le_of_ble_eq_true rfl) ?_
  intro p l e R s m args below meth c C
  show Jz G σ p l e R s m args below meth c 1 0 0 (Qx (some (.int (iv (gi I 59 0)))) (sh, I, J)) (sh, I, J) 0 0 0 [(0, .ref (G.2.2 + 57))] []
  refine z_aload_n C dX10_people_0 0 rfl ?_
  refine z_getR C dX10_people_1 fX10_13 rfl (kd_57 hS) (r_57_14 hS) ?_
  refine z_iconst C dX10_people_4 ?_
  refine z_iald (q := 0) C dX10_people_5 (ka_59 hS) rfl (by decide) ?_
  exact z_ireturnx C dX10_people_6 rfl rfl

set_option maxHeartbeats 4000000 in
set_option maxRecDepth 100000 in
theorem qX10_mints {G : Gx} {σ : State} (hC : Cz G σ) {sh : Sh} {I : Mi} {J : Mj}  (hS : St sh) : Ce G σ 1 yX10_mints cX10_mints 1 (some .int) [.ref (G.2.2 + 57)] (sh, I, J) 0 0 (some (.int (iv (gi I 59 1)))) (sh, I, J) := by
  refine Ct.of hC (by decide +kernel) (Nat.le_of_ble_eq_true rfl) ?_
  intro p l e R s m args below meth c C
  show Jz G σ p l e R s m args below meth c 1 0 0 (Qx (some (.int (iv (gi I 59 1)))) (sh, I, J)) (sh, I, J) 0 0 0 [(0, .ref (G.2.2 + 57))] []
  refine z_aload_n C dX10_mints_0 0 rfl ?_
  refine z_getR C dX10_mints_1 fX10_13 rfl (kd_57 hS) (r_57_14 hS) ?_
  refine z_iconst C dX10_mints_4 ?_
  refine z_iald (q := 1) C dX10_mints_5 (ka_59 hS) rfl (by decide) ?_
  exact z_ireturnx C dX10_mints_6 rfl rfl

set_option maxHeartbeats 4000000 in
set_option maxRecDepth 100000 in
theorem qX10_coins {G : Gx} {σ : State} (hC : Cz G σ) {sh : Sh} {I : Mi} {J : Mj}  (hS : St sh) : Ce G σ 1 yX10_coins cX10_coins 1 (some .int) [.ref (G.2.2 + 57)] (sh, I, J) 0 0 (some (.int (iv (gi I 59 108)))) (sh, I, J) := by
  refine Ct.of hC (by decide +kernel) (Nat.le_of_ble_eq_true rfl) ?_
  intro p l e R s m args below meth c C
  show Jz G σ p l e R s m args below meth c 1 0 0 (Qx (some (.int (iv (gi I 59 108)))) (sh, I, J)) (sh, I, J) 0 0 0 [(0, .ref (G.2.2 + 57))] []
  refine z_aload_n C dX10_coins_0 0 rfl ?_
  refine z_getR C dX10_coins_1 fX10_13 rfl (kd_57 hS) (r_57_14 hS) ?_
  refine z_bipush C dX10_coins_4 (by decide) ?_
  refine z_iald (q := 108) C dX10_coins_6 (ka_59 hS) rfl (by decide) ?_
  exact z_ireturnx C dX10_coins_7 rfl rfl

set_option maxHeartbeats 4000000 in
set_option maxRecDepth 100000 in
theorem qX10_isWho {G : Gx} {σ : State} (hC : Cz G σ) {sh : Sh} {I : Mi} {J : Mj} (v : Int) (hS : St sh) (rv : -2147483648 ≤ v ∧ v < 2147483648) : Ce G σ 2 yX10_isWho cX10_isWho 2 (some .boolean) [.ref (G.2.2 + 57), .int (iv (v))] (sh, I, J) 0 0 (some (.int (iv (b2 (0 ≤ v ∧ v < gi I 59 0))))) (sh, I, J) := by
  refine Ct.of hC (by decide +kernel) (Nat.le_of_ble_eq_true rfl) ?_
  intro p l e R s m args below meth c C
  show Jz G σ p l e R s m args below meth c 2 0 0 (Qx (some (.int (iv (b2 (0 ≤ v ∧ v < gi I 59 0))))) (sh, I, J)) (sh, I, J) 0 0 0 [(0, .ref (G.2.2 + 57)), (1, .int (iv (v)))] []
  refine z_iload_n C dX10_isWho_0 1 rfl ?_
  refine z_if_lt 16 C dX10_isWho_1 (by decide) (by omega) (fun h1 => ?_) (fun h1 => ?_)
  ·
    refine z_iconst C dX10_isWho_16 ?_
    exact z_zreturnx C dX10_isWho_17 rfl (b2_f (by omega)) rfl
  ·
    refine z_iload_n C dX10_isWho_4 1 rfl ?_
    refine z_aload_n C dX10_isWho_5 0 rfl ?_
    refine z_cVi (st := [.int (iv (v))]) C dX10_isWho_6 mX10_182 (kd_57 hS) (qX10_people hC  hS) rfl rfl (Nat.le_of_ble_eq_true rfl) (by decide) ?_
    refine z_icmp_ge 16 C dX10_isWho_9 (by decide) (by omega) (gi_rng _ _ _) (fun h2 => ?_) (fun h2 => ?_)
    ·
      refine z_iconst C dX10_isWho_16 ?_
      exact z_zreturnx C dX10_isWho_17 rfl (b2_f (by omega)) rfl
    ·
      refine z_iconst C dX10_isWho_12 ?_
      refine z_goto 17 C dX10_isWho_13 (by decide) ?_
      exact z_zreturnx C dX10_isWho_17 rfl (b2_t (by omega)) rfl

set_option maxHeartbeats 4000000 in
set_option maxRecDepth 100000 in
theorem qX10_isMint {G : Gx} {σ : State} (hC : Cz G σ) {sh : Sh} {I : Mi} {J : Mj} (v : Int) (hS : St sh) (rv : -2147483648 ≤ v ∧ v < 2147483648) : Ce G σ 2 yX10_isMint cX10_isMint 2 (some .boolean) [.ref (G.2.2 + 57), .int (iv (v))] (sh, I, J) 0 0 (some (.int (iv (b2 (0 ≤ v ∧ v < gi I 59 1))))) (sh, I, J) := by
  refine Ct.of hC (by decide +kernel) (Nat.le_of_ble_eq_true rfl) ?_
  intro p l e R s m args below meth c C
  show Jz G σ p l e R s m args below meth c 2 0 0 (Qx (some (.int (iv (b2 (0 ≤ v ∧ v < gi I 59 1))))) (sh, I, J)) (sh, I, J) 0 0 0 [(0, .ref (G.2.2 + 57)), (1, .int (iv (v)))] []
  refine z_iload_n C dX10_isMint_0 1 rfl ?_
  refine z_if_lt 16 C dX10_isMint_1 (by decide) (by omega) (fun h1 => ?_) (fun h1 => ?_)
  ·
    refine z_iconst C dX10_isMint_16 ?_
    exact z_zreturnx C dX10_isMint_17 rfl (b2_f (by omega)) rfl
  ·
    refine z_iload_n C dX10_isMint_4 1 rfl ?_
    refine z_aload_n C dX10_isMint_5 0 rfl ?_
    refine z_cVi (st := [.int (iv (v))]) C dX10_isMint_6 mX10_185 (kd_57 hS) (qX10_mints hC  hS) rfl rfl (Nat.le_of_ble_eq_true rfl) (by decide) ?_
    refine z_icmp_ge 16 C dX10_isMint_9 (by decide) (by omega) (gi_rng _ _ _) (fun h2 => ?_) (fun h2 => ?_)
    ·
      refine z_iconst C dX10_isMint_16 ?_
      exact z_zreturnx C dX10_isMint_17 rfl (b2_f (by omega)) rfl
    ·
      refine z_iconst C dX10_isMint_12 ?_
      refine z_goto 17 C dX10_isMint_13 (by decide) ?_
      exact z_zreturnx C dX10_isMint_17 rfl (b2_t (by omega)) rfl

set_option maxHeartbeats 4000000 in
set_option maxRecDepth 100000 in
theorem qX10_isCoin {G : Gx} {σ : State} (hC : Cz G σ) {sh : Sh} {I : Mi} {J : Mj} (v : Int) (hS : St sh) (rv : -2147483648 ≤ v ∧ v < 2147483648) : Ce G σ 2 yX10_isCoin cX10_isCoin 2 (some .boolean) [.ref (G.2.2 + 57), .int (iv (v))] (sh, I, J) 0 0 (some (.int (iv (b2 (0 ≤ v ∧ v < gi I 59 108))))) (sh, I, J) := by
  refine Ct.of hC (by decide +kernel) (Nat.le_of_ble_eq_true rfl) ?_
  intro p l e R s m args below meth c C
  show Jz G σ p l e R s m args below meth c 2 0 0 (Qx (some (.int (iv (b2 (0 ≤ v ∧ v < gi I 59 108))))) (sh, I, J)) (sh, I, J) 0 0 0 [(0, .ref (G.2.2 + 57)), (1, .int (iv (v)))] []
  refine z_iload_n C dX10_isCoin_0 1 rfl ?_
  refine z_if_lt 16 C dX10_isCoin_1 (by decide) (by omega) (fun h1 => ?_) (fun h1 => ?_)
  ·
    refine z_iconst C dX10_isCoin_16 ?_
    exact z_zreturnx C dX10_isCoin_17 rfl (b2_f (by omega)) rfl
  ·
    refine z_iload_n C dX10_isCoin_4 1 rfl ?_
    refine z_aload_n C dX10_isCoin_5 0 rfl ?_
    refine z_cVi (st := [.int (iv (v))]) C dX10_isCoin_6 mX10_188 (kd_57 hS) (qX10_coins hC  hS) rfl rfl (Nat.le_of_ble_eq_true rfl) (by decide) ?_
    refine z_icmp_ge 16 C dX10_isCoin_9 (by decide) (by omega) (gi_rng _ _ _) (fun h2 => ?_) (fun h2 => ?_)
    ·
      refine z_iconst C dX10_isCoin_16 ?_
      exact z_zreturnx C dX10_isCoin_17 rfl (b2_f (by omega)) rfl
    ·
      refine z_iconst C dX10_isCoin_12 ?_
      refine z_goto 17 C dX10_isCoin_13 (by decide) ?_
      exact z_zreturnx C dX10_isCoin_17 rfl (b2_t (by omega)) rfl

set_option maxHeartbeats 4000000 in
set_option maxRecDepth 100000 in
theorem qX10_ofWho {G : Gx} {σ : State} (hC : Cz G σ) {sh : Sh} {I : Mi} {J : Mj} (v a : Int) (hS : St sh) (h0 : 0 ≤ 8 + 3 * v + a) (h1 : 8 + 3 * v + a < 8140) : Ce G σ 1 yX10_ofWho cX10_ofWho 3 (some .int) [.ref (G.2.2 + 57), .int (iv (v)), .int (iv (a))] (sh, I, J) 0 0 (some (.int (iv (gi I 59 (8 + 3 * v + a).toNat)))) (sh, I, J) := by
  refine Ct.of hC (by decide +kernel) (Nat.le_of_ble_eq_true rfl) ?_
  intro p l e R s m args below meth c C
  show Jz G σ p l e R s m args below meth c 3 0 0 (Qx (some (.int (iv (gi I 59 (8 + 3 * v + a).toNat)))) (sh, I, J)) (sh, I, J) 0 0 0 [(0, .ref (G.2.2 + 57)), (1, .int (iv (v))), (2, .int (iv (a)))] []
  refine z_aload_n C dX10_ofWho_0 0 rfl ?_
  refine z_getR C dX10_ofWho_1 fX10_13 rfl (kd_57 hS) (r_57_14 hS) ?_
  refine z_bipush C dX10_ofWho_4 (by decide) ?_
  refine z_iconst C dX10_ofWho_6 ?_
  refine z_iload_n C dX10_ofWho_7 1 rfl ?_
  refine z_imul C dX10_ofWho_8 ?_
  refine z_iadd C dX10_ofWho_9 ?_
  refine z_iload_n C dX10_ofWho_10 2 rfl ?_
  refine z_iadd C dX10_ofWho_11 ?_
  refine z_iald (q := ((8 + (3 * v)) + a).toNat) C dX10_ofWho_12 (ka_59 hS) (by omega) (by omega) ?_
  exact z_ireturnx C dX10_ofWho_13 (by first | rfl | assumption | omega) rfl

set_option maxHeartbeats 4000000 in
set_option maxRecDepth 100000 in
theorem qX10_ofMint {G : Gx} {σ : State} (hC : Cz G σ) {sh : Sh} {I : Mi} {J : Mj} (v a : Int) (hS : St sh) (h0 : 0 ≤ 32 + 3 * v + a) (h1 : 32 + 3 * v + a < 8140) : Ce G σ 1 yX10_ofMint cX10_ofMint 3 (some .int) [.ref (G.2.2 + 57), .int (iv (v)), .int (iv (a))] (sh, I, J) 0 0 (some (.int (iv (gi I 59 (32 + 3 * v + a).toNat)))) (sh, I, J) := by
  refine Ct.of hC (by decide +kernel) (Nat.le_of_ble_eq_true rfl) ?_
  intro p l e R s m args below meth c C
  show Jz G σ p l e R s m args below meth c 3 0 0 (Qx (some (.int (iv (gi I 59 (32 + 3 * v + a).toNat)))) (sh, I, J)) (sh, I, J) 0 0 0 [(0, .ref (G.2.2 + 57)), (1, .int (iv (v))), (2, .int (iv (a)))] []
  refine z_aload_n C dX10_ofMint_0 0 rfl ?_
  refine z_getR C dX10_ofMint_1 fX10_13 rfl (kd_57 hS) (r_57_14 hS) ?_
  refine z_bipush C dX10_ofMint_4 (by decide) ?_
  refine z_iconst C dX10_ofMint_6 ?_
  refine z_iload_n C dX10_ofMint_7 1 rfl ?_
  refine z_imul C dX10_ofMint_8 ?_
  refine z_iadd C dX10_ofMint_9 ?_
  refine z_iload_n C dX10_ofMint_10 2 rfl ?_
  refine z_iadd C dX10_ofMint_11 ?_
  refine z_iald (q := ((32 + (3 * v)) + a).toNat) C dX10_ofMint_12 (ka_59 hS) (by omega) (by omega) ?_
  exact z_ireturnx C dX10_ofMint_13 (by first | rfl | assumption | omega) rfl

set_option maxHeartbeats 4000000 in
set_option maxRecDepth 100000 in
theorem qX10_ofCoin {G : Gx} {σ : State} (hC : Cz G σ) {sh : Sh} {I : Mi} {J : Mj} (v a : Int) (hS : St sh) (h0 : 0 ≤ 120 + 32 * v + a) (h1 : 120 + 32 * v + a < 8140) : Ce G σ 1 yX10_ofCoin cX10_ofCoin 3 (some .int) [.ref (G.2.2 + 57), .int (iv (v)), .int (iv (a))] (sh, I, J) 0 0 (some (.int (iv (gi I 59 (120 + 32 * v + a).toNat)))) (sh, I, J) := by
  refine Ct.of hC (by decide +kernel) (Nat.le_of_ble_eq_true rfl) ?_
  intro p l e R s m args below meth c C
  show Jz G σ p l e R s m args below meth c 3 0 0 (Qx (some (.int (iv (gi I 59 (120 + 32 * v + a).toNat)))) (sh, I, J)) (sh, I, J) 0 0 0 [(0, .ref (G.2.2 + 57)), (1, .int (iv (v))), (2, .int (iv (a)))] []
  refine z_aload_n C dX10_ofCoin_0 0 rfl ?_
  refine z_getR C dX10_ofCoin_1 fX10_13 rfl (kd_57 hS) (r_57_14 hS) ?_
  refine z_bipush C dX10_ofCoin_4 (by decide) ?_
  refine z_bipush C dX10_ofCoin_6 (by decide) ?_
  refine z_iload_n C dX10_ofCoin_8 1 rfl ?_
  refine z_imul C dX10_ofCoin_9 ?_
  refine z_iadd C dX10_ofCoin_10 ?_
  refine z_iload_n C dX10_ofCoin_11 2 rfl ?_
  refine z_iadd C dX10_ofCoin_12 ?_
  refine z_iald (q := ((120 + (32 * v)) + a).toNat) C dX10_ofCoin_13 (ka_59 hS) (by omega) (by omega) ?_
  exact z_ireturnx C dX10_ofCoin_14 (by first | rfl | assumption | omega) rfl

