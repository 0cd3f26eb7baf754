theorem oi_in : Cond.instanceMethod objectInit ∈ gt := gt_1 (i := 28) (by decide +kernel) (by decide +kernel)
theorem oi_co : Cond.code objectInit ⟨#[0xb1]⟩ 1 none ∈ gt := gt_1 (i := 29) (by decide +kernel) (by decide +kernel)
section BROW2
variable {G : Gx} {σ : State} {p : Program} {l : Launch} {e : Env} {R0 : Room} {s : State} {m : MethodId} {args : Array Value} {below : List Frame} {meth : Method} {c : Code} {y : MethodName} {cc : ByteArray} {nL : Nat} {ret : Option FieldType} {d mc ms : Nat} {Q : Option Value → Mm → Prop} {M M1 : Mm} {k n pc : Nat} {lv lv' : List (Nat × Value)} {st st0 : List Value} {i ci j id t : Nat}
theorem y_iinc {x : Int} {i : Nat} {a : Int} (C : Bx G σ p R0 s m args meth c y cc nL ret d mc ms) (hd : decode cc pc = .ok (.iinc i a, 3)) (j : Nat) (hk : lv[j]? = some (i, .int (iv x))) (hn : i < nL) (ks : List Nat) (hp : lv_pick ((i, .int (iv (w32 (x + a)))) :: lv.filter (fun q => !(q.1 == i) && !(q.1 + 1 == i && q.2.category == 2))) ks = lv') (kk : Jz G σ p l e R0 s m args below meth c nL mc ms Q M k n (pc + 3) lv' st) : Jz G σ p l e R0 s m args below meth c nL mc ms Q M k n pc lv st := z_iinc C hd j hk hn ks (by rw [iv_w32] at hp; exact hp) kk
theorem y_iretP {v R : Int} (C : Bx G σ p R0 s m args meth c y cc nL (some .int) d mc ms) (hd : decode cc pc = .ok (.ireturn, 1)) (h : some v = some R) (hv : rg v) (hk : k ≤ mc := by omega) (hn : n ≤ ms := by omega) : Jz G σ p l e R0 s m args below meth c nL mc ms (Qi R M) M k n pc lv [.int (iv v)] := by cases h; exact y_iret C hd hv hk hn
theorem y_iretB {v : Int} {R : Int × Mm} (C : Bx G σ p R0 s m args meth c y cc nL (some .int) d mc ms) (hd : decode cc pc = .ok (.ireturn, 1)) (h : some (v, M) = some R) (hv : rg v) (hk : k ≤ mc := by omega) (hn : n ≤ ms := by omega) : Jz G σ p l e R0 s m args below meth c nL mc ms (Qi R.1 R.2) M k n pc lv [.int (iv v)] := by cases h; exact y_iret C hd hv hk hn
theorem y_zretP {v R : Int} (C : Bx G σ p R0 s m args meth c y cc nL (some .boolean) d mc ms) (hd : decode cc pc = .ok (.ireturn, 1)) (h : some v = some R) (hv : v = 0 ∨ v = 1) (hk : k ≤ mc := by omega) (hn : n ≤ ms := by omega) : Jz G σ p l e R0 s m args below meth c nL mc ms (Qb R M) M k n pc lv [.int (iv v)] := by cases h; exact y_zret C hd hv hk hn
theorem y_zretB {v : Int} {R : Int × Mm} (C : Bx G σ p R0 s m args meth c y cc nL (some .boolean) d mc ms) (hd : decode cc pc = .ok (.ireturn, 1)) (h : some (v, M) = some R) (hv : v = 0 ∨ v = 1) (hk : k ≤ mc := by omega) (hn : n ≤ ms := by omega) : Jz G σ p l e R0 s m args below meth c nL mc ms (Qb R.1 R.2) M k n pc lv [.int (iv v)] := by cases h; exact y_zret C hd hv hk hn
theorem y_lretP {v R : Int} (C : Bx G σ p R0 s m args meth c y cc nL (some .long) d mc ms) (hd : decode cc pc = .ok (.lreturn, 1)) (h : some v = some R) (hv : rl v) (hk : k ≤ mc := by omega) (hn : n ≤ ms := by omega) : Jz G σ p l e R0 s m args below meth c nL mc ms (Ql R M) M k n pc lv [.long (jv v)] := by cases h; exact y_lret C hd hv hk hn
theorem y_retV {R : Mm} (C : Bx G σ p R0 s m args meth c y cc nL none d mc ms) (hd : decode cc pc = .ok (.return_, 1)) (h : some M = some R) (hk : k ≤ mc := by omega) (hn : n ≤ ms := by omega) : Jz G σ p l e R0 s m args below meth c nL mc ms (Qv R) M k n pc lv [] := by cases h; exact y_ret C hd hk hn
theorem y_max {a b : Int} (C : Bx G σ p R0 s m args meth c y cc nL ret d mc ms) (hd : decode cc pc = .ok (.invokestatic i, 3)) (hlk : Cond.methodLink y.cls i Lib.Math.max.name ∈ gt) (ra : rg a) (rb : rg b) (hd1 : 1 ≤ d) (hrm : (st.map fun v => v.category).sum ≤ 8) (kk : Jz G σ p l e R0 s m args below meth c nL mc ms Q M k n (pc + 3) lv (.int (iv (max32 a b)) :: st)) (hmc : k ≤ mc := by omega) (hms : n ≤ ms := by omega) : Jz G σ p l e R0 s m args below meth c nL mc ms Q M k n pc lv (.int (iv b) :: .int (iv a) :: st) := z_max C hd hlk (gt_3 (i := 226) (by decide +kernel) (by decide +kernel)) (gt_1 (i := 21) (by decide +kernel) (by decide +kernel)) (gt_3 (i := 227) (by decide +kernel) (by decide +kernel)) ra rb hd1 hrm kk hmc hms
theorem y_min {a b : Int} (C : Bx G σ p R0 s m args meth c y cc nL ret d mc ms) (hd : decode cc pc = .ok (.invokestatic i, 3)) (hlk : Cond.methodLink y.cls i Lib.Math.min.name ∈ gt) (ra : rg a) (rb : rg b) (hd1 : 1 ≤ d) (hrm : (st.map fun v => v.category).sum ≤ 8) (kk : Jz G σ p l e R0 s m args below meth c nL mc ms Q M k n (pc + 3) lv (.int (iv (min32 a b)) :: st)) (hmc : k ≤ mc := by omega) (hms : n ≤ ms := by omega) : Jz G σ p l e R0 s m args below meth c nL mc ms Q M k n pc lv (.int (iv b) :: .int (iv a) :: st) := z_min C hd hlk (gt_4 (i := 192) (by decide +kernel) (by decide +kernel)) (gt_1 (i := 21) (by decide +kernel) (by decide +kernel)) (gt_4 (i := 193) (by decide +kernel) (by decide +kernel)) ra rb hd1 hrm kk hmc hms
theorem y_cpy {sp dp cn : Int} {a b : Nat} (C : Bx G σ p R0 s m args meth c y cc nL ret d mc ms) (hd : decode cc pc = .ok (.invokestatic i, 3)) (hlk : Cond.methodLink y.cls i arraycopyName ∈ gt) (hx : cpA M a sp b dp cn = some M1) (hd1 : 1 ≤ d) (hrm : (st.map fun v => v.category).sum ≤ 8) (kk : Jz G σ p l e R0 s m args below meth c nL mc ms Q M1 0 n (pc + 3) lv st) : Jz G σ p l e R0 s m args below meth c nL mc ms Q M 0 n pc lv (.int (iv cn) :: .int (iv dp) :: .ref (G.2.2 + b) :: .int (iv sp) :: .ref (G.2.2 + a) :: st) := y_copy C hd hlk (gt_3 (i := 102) (by decide +kernel) (by decide +kernel)) (gt_3 (i := 101) (by decide +kernel) (by decide +kernel)) (gt_1 (i := 16) (by decide +kernel) (by decide +kernel)) hx hd1 hrm kk
-- what is still owed: rows over the static rows of Law, the text TOLD, arrays of references
theorem y_gets (kx : Nat) {Cn nm ds : String} (C : Bx G σ p R0 s m args meth c y cc nL ret d mc ms) (hZ : Zs G σ) (hd : decode cc pc = .ok (.getstatic i, 3)) (hlk : Cond.fieldLink y.cls i Cn nm ds ∈ gt) (kk : ∀ a, SAat G σ kx a → Jz G σ p l e R0 s m args below meth c nL mc ms Q M k n (pc + 3) lv (.ref a :: st)) (hnm : Cn = "FaceCoins$Law" ∧ ds = "[I" ∧ stn[kx]? = some nm := by exact ⟨rfl, rfl, rfl⟩) : Jz G σ p l e R0 s m args below meth c nL mc ms Q M k n pc lv st := by
  intro H locs ls hw hl hv
  obtain ⟨hC, hx, hb, hml, hown, hts, hr, hlocks, hK, hal, hR, hnme, hnw⟩ := C
  obtain ⟨rfl, rfl, hnm⟩ := hnm
  obtain ⟨a, hz, ht⟩ := hZ.1 kx nm hnm
  obtain ⟨cf, kf, fi, f, b, cell, h1, h2, h3, h4, h5, h6, h7, h8⟩ := (va_Z.moved hal.alike hz).kept (sg_kept hC.2.1 hw)
  exact W.gets hx hb hown (hts _ hlk) h1 h2 h3 h4 h5 (fun e => by rw [e] at h6; cases h6) h7 rfl hd (kk a ht H locs ls hw hl hv)
theorem y_sald {kx a : Nat} {x v : Int} (C : Bx G σ p R0 s m args meth c y cc nL ret d mc ms) (hd : decode cc pc = .ok (.iaload, 1)) (ha : SAat G σ kx a) (hx : sA kx x = some v) (kk : rg v → Jz G σ p l e R0 s m args below meth c nL mc ms Q M k n (pc + 1) lv (.int (iv v) :: st)) : Jz G σ p l e R0 s m args below meth c nL mc ms Q M k n pc lv (.int (iv x) :: .ref a :: st) := by
  intro H locs ls hw hl hv
  unfold sA at hx
  split at hx
  case isFalse => cases hx
  rename_i hq
  cases hx
  obtain ⟨hC, hx, hb, hml, hown, hts, hr, hlocks, hK, hal, hR, hnme, hnw⟩ := C
  obtain ⟨cell, h1, h2, h3, h4, h5, h6, h7⟩ := (va_T.moved hal.alike ha).kept (sg_kept hC.2.1 hw)
  obtain ⟨hi1, hi2⟩ := iv_idx (a := x) (q := x.toNat) (by omega) (by omega)
  exact W.iald (v := .int (iv ((stl.getD kx []).getD x.toNat 0))) hx hb h1 h2 h3 (fun q => q.elim hi2 (fun q => by omega)) (by rw [hi1]; exact h6 _ (by omega)) rfl rfl hd (kk (stl_rg _ _) H locs ls hw hl hv)
theorem y_told (C : Bx G σ p R0 s m args meth c y cc nL ret d mc ms) (hZ : Zs G σ) (hd : decode cc pc = .ok (.ldc i, 2)) (kk : ∀ a, TDat G σ a → Jz G σ p l e R0 s m args below meth c nL mc ms Q M k n (pc + 2) lv (.ref a :: st)) (hi : i = 61 ∧ y.cls = "FaceCoins$Tape" := by exact ⟨rfl, rfl⟩) : Jz G σ p l e R0 s m args below meth c nL mc ms Q M k n pc lv st := by
  intro H locs ls hw hl hv
  obtain ⟨hC, hx, hb, hml, hown, hts, hr, hlocks, hK, hal, hR, hnme, hnw⟩ := C
  obtain ⟨rfl, hy⟩ := hi
  obtain ⟨a, hr, ht⟩ := hZ.2.1
  rw [hy] at hown
  exact va_ldcS hx hb hown (hr.warm hal) hd (kk a ht H locs ls hw hl hv)
theorem y_slen {a : Nat} (C : Bx G σ p R0 s m args meth c y cc nL ret d mc ms) (hC : Cy G σ) (hd : decode cc pc = .ok (.invokevirtual i, 3)) (ha : TDat G σ a) (kk : Jz G σ p l e R0 s m args below meth c nL mc ms Q M k n (pc + 3) lv (.int (iv 102) :: st)) (hi : i = 63 ∧ y.cls = "FaceCoins$Tape" := by exact ⟨rfl, rfl⟩) (hd2 : 3 ≤ d := by decide) (hrm : (st.map fun v => v.category).sum ≤ 8 := by exact Nat.le_of_ble_eq_true rfl) (hmc : k ≤ mc := by omega) (hms : n ≤ ms := by omega) : Jz G σ p l e R0 s m args below meth c nL mc ms Q M k n pc lv (.ref a :: st) := by
  obtain ⟨rfl, hy⟩ := hi
  refine x_callV (As := []) C hd (by rw [hy]; exact mS_length) ha.1 (tS_length hC ha) rfl rfl hrm hd2 (fun v M' h => ?_) hmc hms
  obtain ⟨rfl, rfl, -⟩ := h
  exact kk
theorem y_chat {a : Nat} {x v : Int} (C : Bx G σ p R0 s m args meth c y cc nL ret d mc ms) (hC : Cy G σ) (hd : decode cc pc = .ok (.invokevirtual i, 3)) (ha : TDat G σ a) (hx : chA x = some v) (kk : rg v → Jz G σ p l e R0 s m args below meth c nL mc ms Q M k n (pc + 3) lv (.int (iv v) :: st)) (hi : i = 67 ∧ y.cls = "FaceCoins$Tape" := by exact ⟨rfl, rfl⟩) (hd2 : 5 ≤ d := by decide) (hrm : (st.map fun v => v.category).sum ≤ 8 := by exact Nat.le_of_ble_eq_true rfl) (hmc : k ≤ mc := by omega) (hms : n ≤ ms := by omega) : Jz G σ p l e R0 s m args below meth c nL mc ms Q M k n pc lv (.int (iv x) :: .ref a :: st) := by
  obtain ⟨rfl, hy⟩ := hi
  unfold chA at hx
  split at hx
  case isFalse => cases hx
  rename_i hq
  cases hx
  refine x_callV (As := [.int (iv x)]) C hd (by rw [hy]; exact mS_charAt) ha.1 (tS_charAt hC ha hq.1 hq.2) rfl rfl hrm hd2 (fun v M' h => ?_) hmc hms
  obtain ⟨rfl, rfl, hr⟩ := h
  exact kk hr
theorem y_newRC (L : Nat) {x : Int} (C : Bx G σ p R0 s m args meth c y cc nL ret d mc ms) (hZ : Zs G σ) (hlk : Cond.classLink y.cls i "FaceCoins$Coinage" ∈ gt) (hd : decode cc pc = .ok (.anewarray i, 3)) (hx0 : x = (L : Int)) (hL : L < 100000) (hk : k + 1 ≤ mc) (hn : n + L ≤ ms) (kk : Jz G σ p l e R0 s m args below meth c nL mc ms Q (nC M 15 L) (k + 1) (n + L) (pc + 3) lv (.ref (G.2.2 + M.1.1) :: st)) : Jz G σ p l e R0 s m args below meth c nL mc ms Q M k n pc lv (.int (iv x) :: st) := by
  obtain ⟨sh, I, Jm⟩ := M
  intro H locs ls hw hl hv
  obtain ⟨hC, hx, hb, hml, hown, hts, hr, hlocks, hK, hal, hR, hnme, hnw⟩ := C
  subst hR
  obtain ⟨hi1, hi2⟩ := iv_idx hx0 (by omega)
  refine W.anew hx hb hown (hts _ hlk) (va_AO.use (va_AO.moved hal.alike hZ.2.2.1.1)) rfl hd rfl hi2 (by rw [hi1]; omega) hk (by rw [hi1]; exact hn) fun cA kA comp f1 f2 f3 f4 => ?_
  rw [hi1]
  have hcA : cA = G.2.1.2.2.2.1 := by
    obtain ⟨-, kA2, comp2, g1, g2, g3, g4⟩ := hK.2 3 _ rfl
    exact Option.some.inj (f1.symm.trans g4)
  subst hcA
  generalize hH1 : H.push ({ cls := G.2.1.2.2.2.1, slots := Array.replicate L .null, vm := .none } : Cell) = H1
  have z1 : H1.size = G.2.2 + sh.1 + 1 := by rw [← hH1, Array.size_push, hw.1]
  have e1 : H1[G.2.2 + sh.1]? = some (arrV G.2.1.2.2.2.1 L (fun _ => .null)) := by
    have e2 := hw.1
    rw [← hH1, show G.2.2 + sh.1 = H.size from hw.1.symm, Array.getElem?_push_size, ← arrV_new]
  have o1 : ∀ q : Nat, q < G.2.2 + sh.1 → H1[q]? = H[q]? := fun q hq => by rw [← hH1, Array.getElem?_push, if_neg (by have h9 : H.size = G.2.2 + sh.1 := hw.1; omega)]
  have hkd : (nsh sh 15 L, zi I sh.1, zj Jm sh.1).1.2.1 sh.1 = 15 := by simp [nsh, va_up]
  have hwn : Wp G σ (nsh sh 15 L, zi I sh.1, zj Jm sh.1) H1 := by
    refine hw.grow z1 o1 ?_
    rw [Ec_C hkd]
    show H1[G.2.2 + sh.1]? = some (vp_cell _ _)
    rw [e1, vp_cell_q]
    simp [nsh, va_up, rz, va_rf]
  have hsz : (H.size : Nat) = G.2.2 + sh.1 := hw.1
  rw [hsz]
  exact kk H1 locs ls hwn hl hv
theorem y_newRW (L : Nat) {x : Int} (C : Bx G σ p R0 s m args meth c y cc nL ret d mc ms) (hZ : Zs G σ) (hlk : Cond.classLink y.cls i "FaceCoins$World" ∈ gt) (hd : decode cc pc = .ok (.anewarray i, 3)) (hx0 : x = (L : Int)) (hL : L < 100000) (hk : k + 1 ≤ mc) (hn : n + L ≤ ms) (kk : Jz G σ p l e R0 s m args below meth c nL mc ms Q (nC M 16 L) (k + 1) (n + L) (pc + 3) lv (.ref (G.2.2 + M.1.1) :: st)) : Jz G σ p l e R0 s m args below meth c nL mc ms Q M k n pc lv (.int (iv x) :: st) := by
  obtain ⟨sh, I, Jm⟩ := M
  intro H locs ls hw hl hv
  obtain ⟨hC, hx, hb, hml, hown, hts, hr, hlocks, hK, hal, hR, hnme, hnw⟩ := C
  subst hR
  obtain ⟨hi1, hi2⟩ := iv_idx hx0 (by omega)
  refine W.anew hx hb hown (hts _ hlk) (va_AO.use (va_AO.moved hal.alike hZ.2.2.1.2)) rfl hd rfl hi2 (by rw [hi1]; omega) hk (by rw [hi1]; exact hn) fun cA kA comp f1 f2 f3 f4 => ?_
  rw [hi1]
  have hcA : cA = G.2.1.2.2.2.2 := by
    obtain ⟨-, kA2, comp2, g1, g2, g3, g4⟩ := hK.2 4 _ rfl
    exact Option.some.inj (f1.symm.trans g4)
  subst hcA
  generalize hH1 : H.push ({ cls := G.2.1.2.2.2.2, slots := Array.replicate L .null, vm := .none } : Cell) = H1
  have z1 : H1.size = G.2.2 + sh.1 + 1 := by rw [← hH1, Array.size_push, hw.1]
  have e1 : H1[G.2.2 + sh.1]? = some (arrV G.2.1.2.2.2.2 L (fun _ => .null)) := by
    have e2 := hw.1
    rw [← hH1, show G.2.2 + sh.1 = H.size from hw.1.symm, Array.getElem?_push_size, ← arrV_new]
  have o1 : ∀ q : Nat, q < G.2.2 + sh.1 → H1[q]? = H[q]? := fun q hq => by rw [← hH1, Array.getElem?_push, if_neg (by have h9 : H.size = G.2.2 + sh.1 := hw.1; omega)]
  have hkd : (nsh sh 16 L, zi I sh.1, zj Jm sh.1).1.2.1 sh.1 = 16 := by simp [nsh, va_up]
  have hwn : Wp G σ (nsh sh 16 L, zi I sh.1, zj Jm sh.1) H1 := by
    refine hw.grow z1 o1 ?_
    rw [Ec_W hkd]
    show H1[G.2.2 + sh.1]? = some (vp_cell _ _)
    rw [e1, vp_cell_q]
    simp [nsh, va_up, rz, va_rf]
  have hsz : (H.size : Nat) = G.2.2 + sh.1 := hw.1
  rw [hsz]
  exact kk H1 locs ls hwn hl hv
theorem y_aastC {x : Int} (C : Bx G σ p R0 s m args meth c y cc nL ret d mc ms) (hd : decode cc pc = .ok (.aastore, 1)) (hx : sR 15 M id x t = some M1) (kk : Jz G σ p l e R0 s m args below meth c nL mc ms Q M1 k n (pc + 1) lv st) : Jz G σ p l e R0 s m args below meth c nL mc ms Q M k n pc lv (.ref (G.2.2 + t) :: .int (iv x) :: .ref (G.2.2 + id) :: st) := by
  obtain ⟨⟨nn, K, Ln, Rr⟩, I, Jm⟩ := M
  unfold sR at hx
  split at hx
  case isFalse => cases hx
  rename_i hq
  cases hx
  obtain ⟨⟨h1, h2, h3, h4, h5⟩, h6, h7⟩ := hq
  have h1 : id < nn := h1
  have h2 : K id = 15 := h2
  have h3 : Ln id < 2147483648 := h3
  have h4 : t < nn := h4
  have h5 : K t = 1 := by rcases h5 with h5 | h5 <;> first | exact h5.2 | (exact absurd h5.1 (by decide))
  have h7 : x < (Ln id : Int) := h7
  intro H locs ls hw hl hv
  obtain ⟨hC, hx, hb, hml, hown, hts, hr, hlocks, hK, hal, hR, hnme, hnw⟩ := C
  obtain ⟨hi1, hi2⟩ := iv_idx (a := x) (q := x.toNat) (by omega) (by omega)
  have hat := hw.2.1 id h1
  rw [Ec_C h2] at hat
  have hat : H[G.2.2 + id]? = some (vp_cell _ _) := hat
  have hatv := hw.2.1 t h4
  rw [Ec_obj h5 (by decide)] at hatv
  obtain ⟨r, hr', cellV, g1, g2, g3, -⟩ := hatv
  have hcls := (hK.1 1 _ rfl).2
  obtain ⟨kA, comp, k1, k2, k3, -⟩ := (hK.2 3 _ rfl).2
  have hcomp : comp = G.1.1 1 := Option.some.inj (k3.symm.trans hcls.1)
  subst hcomp
  obtain ⟨kC, hkC, -⟩ := hcls.2
  rw [vp_cell_q] at hat
  refine W.aast hx hb hat (fun q h => by cases h) (fun h => by cases h) k1 k2 rfl hkC ⟨hi2, by show _ < (arrV _ _ _).slots.size; rw [arrV_size, hi1]; show x.toNat < Ln id; omega⟩ g1 (fun q h => by rw [g3] at h; cases h) (by rw [g2]; exact hkC) (by rw [g2]; exact va_assign hcls) rfl rfl hd fun H1 e z oq => ?_
  refine kk H1 _ ls ?_ (t_lc hl (by show G.2.2 ≤ G.2.2 + id; omega)) hv
  refine hw.mono h1 rfl z oq (fun q hq => Ec_upR hq) ?_
  rw [Ec_C h2]
  show H1[G.2.2 + id]? = some (vp_cell _ _)
  rw [e, vp_cell_q, hi1, arrV_store]
  congr 2
  funext q
  by_cases hq : q = x.toNat
  · subst hq
    simp [updV, up2, wrf, rz, va_rf]
  · simp [updV, up2, wrf, hq]
theorem y_aastW {x : Int} (C : Bx G σ p R0 s m args meth c y cc nL ret d mc ms) (hd : decode cc pc = .ok (.aastore, 1)) (hx : sR 16 M id x t = some M1) (kk : Jz G σ p l e R0 s m args below meth c nL mc ms Q M1 k n (pc + 1) lv st) : Jz G σ p l e R0 s m args below meth c nL mc ms Q M k n pc lv (.ref (G.2.2 + t) :: .int (iv x) :: .ref (G.2.2 + id) :: st) := by
  obtain ⟨⟨nn, K, Ln, Rr⟩, I, Jm⟩ := M
  unfold sR at hx
  split at hx
  case isFalse => cases hx
  rename_i hq
  cases hx
  obtain ⟨⟨h1, h2, h3, h4, h5⟩, h6, h7⟩ := hq
  have h1 : id < nn := h1
  have h2 : K id = 16 := h2
  have h3 : Ln id < 2147483648 := h3
  have h4 : t < nn := h4
  have h5 : K t = 8 := by rcases h5 with h5 | h5 <;> first | exact h5.2 | (exact absurd h5.1 (by decide))
  have h7 : x < (Ln id : Int) := h7
  intro H locs ls hw hl hv
  obtain ⟨hC, hx, hb, hml, hown, hts, hr, hlocks, hK, hal, hR, hnme, hnw⟩ := C
  obtain ⟨hi1, hi2⟩ := iv_idx (a := x) (q := x.toNat) (by omega) (by omega)
  have hat := hw.2.1 id h1
  rw [Ec_W h2] at hat
  have hat : H[G.2.2 + id]? = some (vp_cell _ _) := hat
  have hatv := hw.2.1 t h4
  rw [Ec_obj h5 (by decide)] at hatv
  obtain ⟨r, hr', cellV, g1, g2, g3, -⟩ := hatv
  have hcls := (hK.1 8 _ rfl).2
  obtain ⟨kA, comp, k1, k2, k3, -⟩ := (hK.2 4 _ rfl).2
  have hcomp : comp = G.1.1 8 := Option.some.inj (k3.symm.trans hcls.1)
  subst hcomp
  obtain ⟨kC, hkC, -⟩ := hcls.2
  rw [vp_cell_q] at hat
  refine W.aast hx hb hat (fun q h => by cases h) (fun h => by cases h) k1 k2 rfl hkC ⟨hi2, by show _ < (arrV _ _ _).slots.size; rw [arrV_size, hi1]; show x.toNat < Ln id; omega⟩ g1 (fun q h => by rw [g3] at h; cases h) (by rw [g2]; exact hkC) (by rw [g2]; exact va_assign hcls) rfl rfl hd fun H1 e z oq => ?_
  refine kk H1 _ ls ?_ (t_lc hl (by show G.2.2 ≤ G.2.2 + id; omega)) hv
  refine hw.mono h1 rfl z oq (fun q hq => Ec_upR hq) ?_
  rw [Ec_W h2]
  show H1[G.2.2 + id]? = some (vp_cell _ _)
  rw [e, vp_cell_q, hi1, arrV_store]
  congr 2
  funext q
  by_cases hq : q = x.toNat
  · subst hq
    simp [updV, up2, wrf, rz, va_rf]
  · simp [updV, up2, wrf, hq]
end BROW2
theorem defX1 : ∀ j, j < 15 → defaultValue (tyX1 j) = (if fk 1 j = 0 then .int 0 else if fk 1 j = 1 then .long 0 else .null) := by decide +kernel
theorem defX2 : ∀ j, j < 3 → defaultValue (tyX2 j) = (if fk 2 j = 0 then .int 0 else if fk 2 j = 1 then .long 0 else .null) := by decide +kernel
theorem defX3 : ∀ j, j < 13 → defaultValue (tyX3 j) = (if fk 3 j = 0 then .int 0 else if fk 3 j = 1 then .long 0 else .null) := by decide +kernel
theorem defX4 : ∀ j, j < 4 → defaultValue (tyX4 j) = (if fk 4 j = 0 then .int 0 else if fk 4 j = 1 then .long 0 else .null) := by decide +kernel
theorem defX5 : ∀ j, j < 5 → defaultValue (tyX5 j) = (if fk 5 j = 0 then .int 0 else if fk 5 j = 1 then .long 0 else .null) := by decide +kernel
theorem defX6 : ∀ j, j < 2 → defaultValue (tyX6 j) = (if fk 6 j = 0 then .int 0 else if fk 6 j = 1 then .long 0 else .null) := by decide +kernel
theorem defX7 : ∀ j, j < 8 → defaultValue (tyX7 j) = (if fk 7 j = 0 then .int 0 else if fk 7 j = 1 then .long 0 else .null) := by decide +kernel
theorem defX8 : ∀ j, j < 5 → defaultValue (tyX8 j) = (if fk 8 j = 0 then .int 0 else if fk 8 j = 1 then .long 0 else .null) := by decide +kernel
theorem defX9 : ∀ j, j < 10 → defaultValue (tyX9 j) = (if fk 9 j = 0 then .int 0 else if fk 9 j = 1 then .long 0 else .null) := by decide +kernel
theorem defX10 : ∀ j, j < 47 → defaultValue (tyX10 j) = (if fk 10 j = 0 then .int 0 else if fk 10 j = 1 then .long 0 else .null) := by decide +kernel
