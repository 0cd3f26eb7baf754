theorem gt_good : GoodIn gt gt := fun w hw => ⟨hw, good_of_word (List.mem_filter.mp hw).2⟩
theorem gt_goodc {w : Cond} (hw : w ∈ gt) : GoodIn gt (w :: gt) := fun x hx => by
  rcases List.mem_cons.mp hx with h | h
  · subst h; exact gt_good _ hw
  · exact gt_good _ h
/-- what a call of y2 links to -/
def Mlc (ci : Nat) (y2 : MethodName) (cc2 : ByteArray) (nL2 : Nat) (ret2 : Option FieldType) (na : Nat) : Prop :=
  (y2.cls ≠ "java/lang/invoke/MethodHandle" ∧ y2.cls ≠ "java/lang/invoke/VarHandle" ∧ (parseMethodDescriptor y2.desc).map (fun d => d.parameters.length) = some na) ∧ nL2 ≤ 40 ∧ Cond.code y2 cc2 nL2 ret2 ∈ gt ∧ Cond.initialized y2.cls ∈ gt ∧ ∃ q : vw_C, z_cl[ci]? = some q ∧ q.1 = y2.cls ∧ ci < 12
def MlV (own : String) (i ci : Nat) (y2 : MethodName) (cc2 : ByteArray) (nL2 : Nat) (ret2 : Option FieldType) (na : Nat) : Prop :=
  Mlc ci y2 cc2 nL2 ret2 na ∧ Cond.instanceMethod y2 ∈ gt ∧ Cond.selects y2.cls y2 y2 ∈ gt ∧ (Cond.methodLink own i y2 ∈ gt ∨ ∃ host, Cond.methodLinkNest own i y2 host ∈ nl)
def MlI (own : String) (i ci : Nat) (y2 : MethodName) (cc2 : ByteArray) (nL2 : Nat) (na : Nat) : Prop :=
  Mlc ci y2 cc2 nL2 none na ∧ Cond.instanceMethod y2 ∈ gt ∧ Cond.methodLink own i y2 ∈ gt ∧ y2.name = "<init>"
def MlS (own : String) (i : Nat) (y2 : MethodName) (cc2 : ByteArray) (nL2 : Nat) (ret2 : Option FieldType) (na : Nat) : Prop :=
  (y2.cls ≠ "java/lang/invoke/MethodHandle" ∧ y2.cls ≠ "java/lang/invoke/VarHandle" ∧ (parseMethodDescriptor y2.desc).map (fun d => d.parameters.length) = some na) ∧ nL2 ≤ 40 ∧ Cond.code y2 cc2 nL2 ret2 ∈ gt ∧ Cond.initialized y2.cls ∈ gt ∧ Cond.static y2 ∈ gt ∧ Cond.methodLink own i y2 ∈ gt
section ROW2
variable {G : Gx} {σ : State} {p : Program} {l : Launch} {e : Env} {R : Room} {s : State} {m : MethodId} {args : Array Value} {below : List Frame} {meth : Method} {c : Code} {y : MethodName} {cc : ByteArray} {nL : Nat} {ret : Option FieldType} {d mc ms : Nat} {Q : Option Value → Mm → Prop} {sh : Sh} {I : Mi} {Jm : Mj} {M : Mm} {k n pc : Nat} {lv : List (Nat × Value)} {st st0 : List Value} {i ci j id : Nat} {Cn : String} {T : u_T} {N : Nat} {ty : Nat → FieldType}
-- ends
theorem z_ireturn {v : Int} (C : Bx G σ p R s m args meth c y cc nL (some .int) d mc ms) (hd : decode cc pc = .ok (.ireturn, 1)) (hk : k ≤ mc) (hn : n ≤ ms) (hq : Q (some (.int (iv v))) M) : Jz G σ p l e R s m args below meth c nL mc ms Q M k n pc lv [.int (iv v)] := by
  intro H locs ls hw hl hv
  obtain ⟨hC, hx, hb, hml, hown, hts, hr, hlocks, hK, hal, hR, hnme, hnw⟩ := C
  refine W.widen hk hn ?_
  exact W.imp (fun _ h => .inl h) (W.iret hx hb hr (fun t ht hW => ⟨⟨_, M, rfl, hq, hal.trans hW, by rw [ht]; exact hw⟩, fun h => by cases h⟩) hl hd hlocks)
theorem z_zreturn {v : Int} (C : Bx G σ p R s m args meth c y cc nL (some .boolean) d mc ms) (hd : decode cc pc = .ok (.ireturn, 1)) (hz : narrow .boolean (.int (iv v)) = .int (iv v)) (hk : k ≤ mc) (hn : n ≤ ms) (hq : Q (some (.int (iv v))) M) : Jz G σ p l e R s m args below meth c nL mc ms Q M k n pc lv [.int (iv v)] := by
  intro H locs ls hw hl hv
  obtain ⟨hC, hx, hb, hml, hown, hts, hr, hlocks, hK, hal, hR, hnme, hnw⟩ := C
  refine W.widen hk hn ?_
  exact W.imp (fun _ h => .inl h) (W.zret hx hb hr hz (fun t ht hW => ⟨⟨_, M, rfl, hq, hal.trans hW, by rw [ht]; exact hw⟩, fun h => by cases h⟩) hl hd hlocks)
theorem z_lreturn {v : Int} (C : Bx G σ p R s m args meth c y cc nL (some .long) d mc ms) (hd : decode cc pc = .ok (.lreturn, 1)) (hk : k ≤ mc) (hn : n ≤ ms) (hq : Q (some (.long (jv v))) M) : Jz G σ p l e R s m args below meth c nL mc ms Q M k n pc lv [.long (jv v)] := by
  intro H locs ls hw hl hv
  obtain ⟨hC, hx, hb, hml, hown, hts, hr, hlocks, hK, hal, hR, hnme, hnw⟩ := C
  refine W.widen hk hn ?_
  exact W.imp (fun _ h => .inl h) (W.lret hx hb hr (fun t ht hW => ⟨⟨_, M, rfl, hq, hal.trans hW, by rw [ht]; exact hw⟩, fun h => by cases h⟩) hl hd hlocks)
theorem z_return (C : Bx G σ p R s m args meth c y cc nL none d mc ms) (hd : decode cc pc = .ok (.return_, 1)) (hk : k ≤ mc) (hn : n ≤ ms) (hq : Q none M) : Jz G σ p l e R s m args below meth c nL mc ms Q M k n pc lv [] := by
  intro H locs ls hw hl hv
  obtain ⟨hC, hx, hb, hml, hown, hts, hr, hlocks, hK, hal, hR, hnme, hnw⟩ := C
  refine W.widen hk hn ?_
  exact W.imp (fun _ h => .inl h) (W.vret hx hb hr (fun t ht hW => ⟨⟨_, M, rfl, hq, hal.trans hW, by rw [ht]; exact hw⟩, fun h => by cases h⟩) hl hd hlocks)
-- arrays
/-- the array of number id: its kind and length -/
def Ka (sh : Sh) (id kd L : Nat) : Prop := id < sh.1 ∧ sh.2.1 id = kd ∧ sh.2.2.1 id = L ∧ L < 2147483648
theorem z_iald {x : Int} {q L : Nat} (C : Bx G σ p R s m args meth c y cc nL ret d mc ms) (hd : decode cc pc = .ok (.iaload, 1)) (ha : Ka sh id 12 L) (hx0 : x = (q : Int)) (hq : q < L) (kk : Jz G σ p l e R s m args below meth c nL mc ms Q (sh, I, Jm) k n (pc + 1) lv (.int (iv (gi I id q)) :: st)) : Jz G σ p l e R s m args below meth c nL mc ms Q (sh, I, Jm) k n pc lv (.int (iv x) :: .ref (G.2.2 + id) :: st) := by
  intro H locs ls hw hl hv
  obtain ⟨hC, hx, hb, hml, hown, hts, hr, hlocks, hK, hal, hR, hnme, hnw⟩ := C
  obtain ⟨hk1, hk2, hk3, hk4⟩ := ha
  have hat := hw.2.1 id hk1
  rw [Ec_I hk2] at hat
  have hi := (iv_idx hx0 (Nat.lt_trans hq hk4)).1
  refine va_iald hx hb hK (va_one hat) 0 0 rfl rfl (by show vp_in _ (sh.2.2.1 id); rw [hk3]; exact iv_in hx0 hq hk4) hd ?_
  rw [hi]
  have := kk H locs ls hw hl hv
  rwa [iv_gi] at this
theorem z_lald {x : Int} {q L : Nat} (C : Bx G σ p R s m args meth c y cc nL ret d mc ms) (hd : decode cc pc = .ok (.laload, 1)) (ha : Ka sh id 13 L) (hx0 : x = (q : Int)) (hq : q < L) (kk : Jz G σ p l e R s m args below meth c nL mc ms Q (sh, I, Jm) k n (pc + 1) lv (.long (jv (gj Jm id q)) :: st)) : Jz G σ p l e R s m args below meth c nL mc ms Q (sh, I, Jm) k n pc lv (.int (iv x) :: .ref (G.2.2 + id) :: st) := by
  intro H locs ls hw hl hv
  obtain ⟨hC, hx, hb, hml, hown, hts, hr, hlocks, hK, hal, hR, hnme, hnw⟩ := C
  obtain ⟨hk1, hk2, hk3, hk4⟩ := ha
  have hat := hw.2.1 id hk1
  rw [Ec_J hk2] at hat
  have hi := (iv_idx hx0 (Nat.lt_trans hq hk4)).1
  refine va_lald hx hb hK (va_one hat) 0 1 rfl rfl (by show vp_in _ (sh.2.2.1 id); rw [hk3]; exact iv_in hx0 hq hk4) hd ?_
  rw [hi]
  have := kk H locs ls hw hl hv
  rwa [jv_gj] at this
theorem z_zald {x : Int} {q L : Nat} (C : Bx G σ p R s m args meth c y cc nL ret d mc ms) (hd : decode cc pc = .ok (.baload, 1)) (ha : Ka sh id 14 L) (hx0 : x = (q : Int)) (hq : q < L) (kk : Jz G σ p l e R s m args below meth c nL mc ms Q (sh, I, Jm) k n (pc + 1) lv (.int (iv (gi I id q)) :: st)) : Jz G σ p l e R s m args below meth c nL mc ms Q (sh, I, Jm) k n pc lv (.int (iv x) :: .ref (G.2.2 + id) :: st) := by
  intro H locs ls hw hl hv
  obtain ⟨hC, hx, hb, hml, hown, hts, hr, hlocks, hK, hal, hR, hnme, hnw⟩ := C
  obtain ⟨hk1, hk2, hk3, hk4⟩ := ha
  have hat := hw.2.1 id hk1
  rw [Ec_Z hk2] at hat
  have hi := (iv_idx hx0 (Nat.lt_trans hq hk4)).1
  refine va_zald hx hb hK (va_one hat) 0 2 rfl rfl (by show vp_in _ (sh.2.2.1 id); rw [hk3]; exact iv_in hx0 hq hk4) hd ?_
  rw [hi]
  have := kk H locs ls hw hl hv
  rwa [iv_gi] at this
theorem z_aaldC {x : Int} {q L : Nat} (C : Bx G σ p R s m args meth c y cc nL ret d mc ms) (hd : decode cc pc = .ok (.aaload, 1)) (ha : Ka sh id 15 L) (hx0 : x = (q : Int)) (hq : q < L) (kk : Jz G σ p l e R s m args below meth c nL mc ms Q (sh, I, Jm) k n (pc + 1) lv (vz G.2.2 (sh.2.2.2 id q) :: st)) : Jz G σ p l e R s m args below meth c nL mc ms Q (sh, I, Jm) k n pc lv (.int (iv x) :: .ref (G.2.2 + id) :: st) := by
  intro H locs ls hw hl hv
  obtain ⟨hC, hx, hb, hml, hown, hts, hr, hlocks, hK, hal, hR, hnme, hnw⟩ := C
  obtain ⟨hk1, hk2, hk3, hk4⟩ := ha
  have hat := hw.2.1 id hk1
  rw [Ec_C hk2] at hat
  have hi := (iv_idx hx0 (Nat.lt_trans hq hk4)).1
  refine va_aldq hx hb hK (va_one hat) 0 3 rfl rfl (by show vp_in _ (sh.2.2.1 id); rw [hk3]; exact iv_in hx0 hq hk4) hd ?_
  rw [hi]
  exact kk H locs ls hw hl hv
theorem z_aaldW {x : Int} {q L : Nat} (C : Bx G σ p R s m args meth c y cc nL ret d mc ms) (hd : decode cc pc = .ok (.aaload, 1)) (ha : Ka sh id 16 L) (hx0 : x = (q : Int)) (hq : q < L) (kk : Jz G σ p l e R s m args below meth c nL mc ms Q (sh, I, Jm) k n (pc + 1) lv (vz G.2.2 (sh.2.2.2 id q) :: st)) : Jz G σ p l e R s m args below meth c nL mc ms Q (sh, I, Jm) k n pc lv (.int (iv x) :: .ref (G.2.2 + id) :: st) := by
  intro H locs ls hw hl hv
  obtain ⟨hC, hx, hb, hml, hown, hts, hr, hlocks, hK, hal, hR, hnme, hnw⟩ := C
  obtain ⟨hk1, hk2, hk3, hk4⟩ := ha
  have hat := hw.2.1 id hk1
  rw [Ec_W hk2] at hat
  have hi := (iv_idx hx0 (Nat.lt_trans hq hk4)).1
  refine va_aldq hx hb hK (va_one hat) 0 4 rfl rfl (by show vp_in _ (sh.2.2.1 id); rw [hk3]; exact iv_in hx0 hq hk4) hd ?_
  rw [hi]
  exact kk H locs ls hw hl hv
theorem z_alen {kd L : Nat} (C : Bx G σ p R s m args meth c y cc nL ret d mc ms) (hd : decode cc pc = .ok (.arraylength, 1)) (ha : Ka sh id kd L) (hkd : kd = 12 ∨ kd = 13 ∨ kd = 14 ∨ kd = 15 ∨ kd = 16) (kk : Jz G σ p l e R s m args below meth c nL mc ms Q (sh, I, Jm) k n (pc + 1) lv (.int (iv L) :: st)) : Jz G σ p l e R s m args below meth c nL mc ms Q (sh, I, Jm) k n pc lv (.ref (G.2.2 + id) :: st) := by
  intro H locs ls hw hl hv
  obtain ⟨hC, hx, hb, hml, hown, hts, hr, hlocks, hK, hal, hR, hnme, hnw⟩ := C
  obtain ⟨hk1, hk2, hk3, hk4⟩ := ha
  have hat := hw.2.1 id hk1
  have hv0 : Int32.ofNat (sh.2.2.1 id) = iv L := by rw [hk3]; rfl
  rcases hkd with rfl | rfl | rfl | rfl | rfl
  · rw [Ec_I hk2] at hat; exact va_alen hx hb hK (va_one hat) 0 0 rfl rfl hv0 hd (kk H locs ls hw hl hv)
  · rw [Ec_J hk2] at hat; exact va_alen hx hb hK (va_one hat) 0 1 rfl rfl hv0 hd (kk H locs ls hw hl hv)
  · rw [Ec_Z hk2] at hat; exact va_alen hx hb hK (va_one hat) 0 2 rfl rfl hv0 hd (kk H locs ls hw hl hv)
  · rw [Ec_C hk2] at hat; exact va_alen hx hb hK (va_one hat) 0 3 rfl rfl hv0 hd (kk H locs ls hw hl hv)
  · rw [Ec_W hk2] at hat; exact va_alen hx hb hK (va_one hat) 0 4 rfl rfl hv0 hd (kk H locs ls hw hl hv)
theorem arrV_upI (cA : ClassId) (L : Nat) (f : Nat → Int32) (q : Nat) (x : Int32) : (arrV cA L (fun j => .int (f j))).setSlot q (.int x) = arrV cA L (fun j => .int (if j = q then x else f j)) := by
  rw [arrV_store]; congr 1; funext j; unfold updV; by_cases h : j = q <;> simp [h]
theorem arrV_upJ (cA : ClassId) (L : Nat) (f : Nat → Int64) (q : Nat) (x : Int64) : (arrV cA L (fun j => .long (f j))).setSlot q (.long x) = arrV cA L (fun j => .long (if j = q then x else f j)) := by
  rw [arrV_store]; congr 1; funext j; unfold updV; by_cases h : j = q <;> simp [h]
theorem arrV_upR (z : Nat) (cA : ClassId) (L : Nat) (f : Nat → Option Nat) (q t : Nat) : (arrV cA L (fun j => va_rf (rz z (f j)))).setSlot q (.ref (z + t)) = arrV cA L (fun j => va_rf (rz z (if j = q then some t else f j))) := by
  rw [arrV_store]; congr 1; funext j; unfold updV; by_cases h : j = q
  · simp [h, va_rf, rz]
  · simp [h]
theorem z_iast {x v : Int} {q L : Nat} (C : Bx G σ p R s m args meth c y cc nL ret d mc ms) (hd : decode cc pc = .ok (.iastore, 1)) (ha : Ka sh id 12 L) (hx0 : x = (q : Int)) (hq : q < L) (kk : Jz G σ p l e R s m args below meth c nL mc ms Q (sh, wi I id q v, Jm) k n (pc + 1) lv st) : Jz G σ p l e R s m args below meth c nL mc ms Q (sh, I, Jm) k n pc lv (.int (iv v) :: .int (iv x) :: .ref (G.2.2 + id) :: st) := by
  intro H locs ls hw hl hv
  obtain ⟨hC, hx, hb, hml, hown, hts, hr, hlocks, hK, hal, hR, hnme, hnw⟩ := C
  obtain ⟨hk1, hk2, hk3, hk4⟩ := ha
  have hi := (iv_idx hx0 (Nat.lt_trans hq hk4)).1
  have hat := hw.2.1 id hk1
  rw [Ec_I hk2] at hat
  refine W.iast hx hb hat ((hK.2 0 _ rfl).1 (sh.2.2.1 id) (fun j => .int (I id j))) (fun q => by cases q) (by show ¬ (iv x < 0 ∨ (arrV _ _ _).slots.size ≤ _); rw [arrV_size, hk3]; exact iv_in hx0 hq hk4) rfl rfl hd fun H1 e1 e2 e3 => ?_
  rw [hi] at e1 ⊢
  refine kk H1 _ ls (hw.mono hk1 rfl e2 e3 (fun _ h => Ec_upI h) ?_) (t_lc hl (by show G.2.2 ≤ G.2.2 + id; omega)) hv
  rw [Ec_I (M := (sh, wi I id q v, Jm)) hk2]
  show H1[G.2.2 + id]? = some (vp_cell _ _)
  refine Eq.trans e1 ?_
  rw [vp_cell_i, vp_cell_i]
  show some (Cell.setSlot (arrV _ _ (fun j => .int (I id j))) _ _) = _
  rw [arrV_upI]
  simp only [wi, wj, up2_eq]
theorem z_last {x v : Int} {q L : Nat} (C : Bx G σ p R s m args meth c y cc nL ret d mc ms) (hd : decode cc pc = .ok (.lastore, 1)) (ha : Ka sh id 13 L) (hx0 : x = (q : Int)) (hq : q < L) (kk : Jz G σ p l e R s m args below meth c nL mc ms Q (sh, I, wj Jm id q v) k n (pc + 1) lv st) : Jz G σ p l e R s m args below meth c nL mc ms Q (sh, I, Jm) k n pc lv (.long (jv v) :: .int (iv x) :: .ref (G.2.2 + id) :: st) := by
  intro H locs ls hw hl hv
  obtain ⟨hC, hx, hb, hml, hown, hts, hr, hlocks, hK, hal, hR, hnme, hnw⟩ := C
  obtain ⟨hk1, hk2, hk3, hk4⟩ := ha
  have hi := (iv_idx hx0 (Nat.lt_trans hq hk4)).1
  have hat := hw.2.1 id hk1
  rw [Ec_J hk2] at hat
  refine W.last hx hb hat ((hK.2 1 _ rfl).1 (sh.2.2.1 id) (fun j => .long (Jm id j))) (fun q => by cases q) (by show ¬ (iv x < 0 ∨ (arrV _ _ _).slots.size ≤ _); rw [arrV_size, hk3]; exact iv_in hx0 hq hk4) rfl rfl hd fun H1 e1 e2 e3 => ?_
  rw [hi] at e1 ⊢
  refine kk H1 _ ls (hw.mono hk1 rfl e2 e3 (fun _ h => Ec_upJ h) ?_) (t_lc hl (by show G.2.2 ≤ G.2.2 + id; omega)) hv
  rw [Ec_J (M := (sh, I, wj Jm id q v)) hk2]
  show H1[G.2.2 + id]? = some (vp_cell _ _)
  refine Eq.trans e1 ?_
  rw [vp_cell_l, vp_cell_l]
  show some (Cell.setSlot (arrV _ _ (fun j => .long (Jm id j))) _ _) = _
  rw [arrV_upJ]
  simp only [wi, wj, up2_eq]
theorem z_zast {x v : Int} {q L : Nat} (C : Bx G σ p R s m args meth c y cc nL ret d mc ms) (hd : decode cc pc = .ok (.bastore, 1)) (ha : Ka sh id 14 L) (hx0 : x = (q : Int)) (hq : q < L) (hz : narrow .boolean (.int (iv v)) = .int (iv v)) (kk : Jz G σ p l e R s m args below meth c nL mc ms Q (sh, wi I id q v, Jm) k n (pc + 1) lv st) : Jz G σ p l e R s m args below meth c nL mc ms Q (sh, I, Jm) k n pc lv (.int (iv v) :: .int (iv x) :: .ref (G.2.2 + id) :: st) := by
  intro H locs ls hw hl hv
  obtain ⟨hC, hx, hb, hml, hown, hts, hr, hlocks, hK, hal, hR, hnme, hnw⟩ := C
  obtain ⟨hk1, hk2, hk3, hk4⟩ := ha
  have hi := (iv_idx hx0 (Nat.lt_trans hq hk4)).1
  have hat := hw.2.1 id hk1
  rw [Ec_Z hk2] at hat
  refine W.zast hx hb hat ((hK.2 2 _ rfl).1 (sh.2.2.1 id) (fun j => .int (I id j))) (fun q => by cases q) (by show ¬ (iv x < 0 ∨ (arrV _ _ _).slots.size ≤ _); rw [arrV_size, hk3]; exact iv_in hx0 hq hk4) rfl rfl hd fun H1 e1 e2 e3 => ?_
  rw [hi] at e1 ⊢
  rw [hz] at e1
  refine kk H1 _ ls (hw.mono hk1 rfl e2 e3 (fun _ h => Ec_upI h) ?_) (t_lc hl (by show G.2.2 ≤ G.2.2 + id; omega)) hv
  rw [Ec_Z (M := (sh, wi I id q v, Jm)) hk2]
  show H1[G.2.2 + id]? = some (vp_cell _ _)
  refine Eq.trans e1 ?_
  rw [vp_cell_i, vp_cell_i]
  show some (Cell.setSlot (arrV _ _ (fun j => .int (I id j))) _ _) = _
  rw [arrV_upI]
  simp only [wi, wj, up2_eq]
-- calls
theorem Wd_blind (av : List Value) (M : Mm) : FrameBlind (va_Pc av (Wd G σ M)) := fun _ _ _ _ q => ⟨q.1, q.2⟩
theorem z_run {mc2 ms2 : Nat} {a2 : Array Value} {Q2 : Option Value → Mm → Prop} {H : Heap} {locs : List Loc} {ls : Array Slot} (hr : va_Run p l e R s m args below meth c H locs k n mc2 ms2 (F0 m pc ls st0) st (Qz G σ Q2 a2) (Az G)) (hl : ∀ q ∈ locs, Az G q.base) (hv : lv_has ls nL lv) (kk : ∀ (v : Option Value) (M' : Mm), Q2 v M' → Jz G σ p l e R s m args below meth c nL mc ms Q M' (k + mc2) (n + ms2) (pc + 3) lv (v.toList ++ st)) : W p l e R s m args below meth c H locs k n (MQe G σ below Q args s mc ms) (F0 m pc ls st0) := by
  intro T hT X
  obtain ⟨v, st₀, t, T', L, h0, X', hL, e1, e2, ⟨v', M', hv', hq, hwd⟩, st⟩ := hr T hT X
  cases hv'
  obtain ⟨t2, a1, b1⟩ := kk v M' hq T'.heap (locs ++ L) ls (by rw [e1]; exact hwd.2) (fun q hq => (List.mem_append.mp hq).elim (hl q) (hL q)) hv T' rfl X'
  exact ⟨t2, st t2 a1, b1⟩
theorem z_recv {H : Heap} {q : vw_C} (hK : va_K G.1 z_cl (tyz G) s) (hw : Wp G σ M H) (hk : Kd M id ci) (h12 : ci < 12) (hc : z_cl[ci]? = some q) : ∃ cell : Cell, H[G.2.2 + id]? = some cell ∧ cell.vm.isStatics = false ∧ s.vm.findClass q.1 = some cell.cls := by
  have hat := hw.2.1 id hk.1
  rw [Ec_obj hk.2 h12] at hat
  exact va_recv hK (va_one hat) hc (q0 := 0) rfl
theorem z_callV {y2 : MethodName} {cc2 : ByteArray} {nL2 na d2 mc2 ms2 : Nat} {ret2 : Option FieldType} {As : List Value} {Q2 : Option Value → Mm → Prop} (C : Bx G σ p R s m args meth c y cc nL ret d mc ms) (hd : decode cc pc = .ok (.invokevirtual i, 3)) (hL : MlV y.cls i ci y2 cc2 nL2 ret2 na) (hk : Kd M id ci) (hM : Ct G σ d2 y2 cc2 nL2 ret2 (.ref (G.2.2 + id) :: As) M mc2 ms2 Q2) (hn : As.length = na) (hst : st0 = As.reverse ++ .ref (G.2.2 + id) :: st) (hrm : (st.map fun v => v.category).sum ≤ 8) (hd2 : d2 + 1 ≤ d) (hmc : k + mc2 ≤ mc) (hms : n + ms2 ≤ ms) (kk : ∀ (v : Option Value) (M' : Mm), Q2 v M' → Jz G σ p l e R s m args below meth c nL mc ms Q M' (k + mc2) (n + ms2) (pc + 3) lv (v.toList ++ st)) : Jz G σ p l e R s m args below meth c nL mc ms Q M k n pc lv st0 := by
  intro H locs ls hw hl hv
  obtain ⟨hC, hx, hb, hml, hown, hts, hr, hlocks, hK, hal, hR, hnme, hnw⟩ := C
  obtain ⟨⟨h1, h40, hcode, hini, q, hc, hq1, h12⟩, hinst, hsel, hlk⟩ := hL
  subst hR
  have hrecv := z_recv hK hw hk h12 hc
  rw [hq1] at hrecv
  have hpre : PreV s H y2.cls (G.2.2 + id) (va_Pc (.ref (G.2.2 + id) :: As) (Wd G σ M)) As := ⟨Wd_blind _ _, hrecv, fun U hU hW => ⟨rfl, hal.trans hW, by rw [hU]; exact hw⟩⟩
  have hroom : (rmz d2 mc2 ms2).frames + 1 ≤ (rmz d mc ms).frames ∧ 8 + (nL2 + 11) + (rmz d2 mc2 ms2).locals ≤ (rmz d mc ms).locals := ⟨hd2, by show 8 + (nL2 + 11) + 64 * d2 ≤ 64 * d; omega⟩
  rcases hlk with hlk | ⟨host, hlk⟩
  · exact z_run (va_runV (Ts := gt) (own := y.cls) (C := y2.cls) ⟨hx, hb, hml, hown, hts⟩ (hM l) ⟨callB_of na hts (gt_goodc hcode) rfl rfl rfl (hts _ hini) (hts _ hlk) h1 hroom, hts _ hinst, hts _ hsel⟩ hpre rfl hn hv.1 hst (lv_room hrm) hd ⟨hmc, hms⟩) hl hv kk
  · exact z_run (va_runVN (Ts := gt) (own := y.cls) (C := y2.cls) ⟨hx, hb, hml, hown, hts⟩ (hM l) ⟨va_cnB na hts (gt_goodc hcode) rfl rfl rfl (hnw _ hlk) (hts _ hini) h1 hroom, hts _ hinst, hts _ hsel⟩ hpre rfl hn hv.1 hst (lv_room hrm) hd ⟨hmc, hms⟩) hl hv kk
theorem z_callI {y2 : MethodName} {cc2 : ByteArray} {nL2 na d2 mc2 ms2 : Nat} {As : List Value} {Q2 : Option Value → Mm → Prop} (C : Bx G σ p R s m args meth c y cc nL ret d mc ms) (hd : decode cc pc = .ok (.invokespecial i, 3)) (hL : MlI y.cls i ci y2 cc2 nL2 na) (hM : Ct G σ d2 y2 cc2 nL2 none (.ref (G.2.2 + id) :: As) M mc2 ms2 Q2) (hn : As.length = na) (hst : st0 = As.reverse ++ .ref (G.2.2 + id) :: st) (hrm : (st.map fun v => v.category).sum ≤ 8) (hd2 : d2 + 1 ≤ d) (hmc : k + mc2 ≤ mc) (hms : n + ms2 ≤ ms) (kk : ∀ (v : Option Value) (M' : Mm), Q2 v M' → Jz G σ p l e R s m args below meth c nL mc ms Q M' (k + mc2) (n + ms2) (pc + 3) lv (v.toList ++ st)) : Jz G σ p l e R s m args below meth c nL mc ms Q M k n pc lv st0 := by
  intro H locs ls hw hl hv
  obtain ⟨hC, hx, hb, hml, hown, hts, hr, hlocks, hK, hal, hR, hnme, hnw⟩ := C
  obtain ⟨⟨h1, h40, hcode, hini, q, hc, hq1, h12⟩, hinst, hlk, hnm2⟩ := hL
  subst hR
  have hroom : (rmz d2 mc2 ms2).frames + 1 ≤ (rmz d mc ms).frames ∧ 8 + (nL2 + 11) + (rmz d2 mc2 ms2).locals ≤ (rmz d mc ms).locals := ⟨hd2, by show 8 + (nL2 + 11) + 64 * d2 ≤ 64 * d; omega⟩
  exact z_run (va_runI (Ts := gt) (own := y.cls) ⟨hx, hb, hml, hown, hts⟩ (hM l) ⟨callB_of na hts (gt_goodc hcode) rfl rfl rfl (hts _ hini) (hts _ hlk) h1 hroom, hnm2, hts _ hinst⟩ ⟨Wd_blind _ _, fun U hU hW => ⟨rfl, hal.trans hW, by rw [hU]; exact hw⟩⟩ rfl hn hv.1 hst (lv_room hrm) hd ⟨hmc, hms⟩) hl hv kk
theorem z_callS {y2 : MethodName} {cc2 : ByteArray} {nL2 na d2 mc2 ms2 : Nat} {ret2 : Option FieldType} {As : List Value} {Q2 : Option Value → Mm → Prop} (C : Bx G σ p R s m args meth c y cc nL ret d mc ms) (hd : decode cc pc = .ok (.invokestatic i, 3)) (hL : MlS y.cls i y2 cc2 nL2 ret2 na) (hM : Ct G σ d2 y2 cc2 nL2 ret2 As M mc2 ms2 Q2) (hn : As.length = na) (hst : st0 = As.reverse ++ st) (hrm : (st.map fun v => v.category).sum ≤ 8) (hd2 : d2 + 1 ≤ d) (hmc : k + mc2 ≤ mc) (hms : n + ms2 ≤ ms) (kk : ∀ (v : Option Value) (M' : Mm), Q2 v M' → Jz G σ p l e R s m args below meth c nL mc ms Q M' (k + mc2) (n + ms2) (pc + 3) lv (v.toList ++ st)) : Jz G σ p l e R s m args below meth c nL mc ms Q M k n pc lv st0 := by
  intro H locs ls hw hl hv
  obtain ⟨hC, hx, hb, hml, hown, hts, hr, hlocks, hK, hal, hR, hnme, hnw⟩ := C
  obtain ⟨h1, h40, hcode, hini, hstat, hlk⟩ := hL
  subst hR
  have hroom : (rmz d2 mc2 ms2).frames + 1 ≤ (rmz d mc ms).frames ∧ 8 + (nL2 + 11) + (rmz d2 mc2 ms2).locals ≤ (rmz d mc ms).locals := ⟨hd2, by show 8 + (nL2 + 11) + 64 * d2 ≤ 64 * d; omega⟩
  exact z_run (va_runS (Ts := gt) (own := y.cls) ⟨hx, hb, hml, hown, hts⟩ (hM l) ⟨callB_of na hts (gt_goodc hcode) rfl rfl rfl (hts _ hini) (hts _ hlk) h1 hroom, hts _ hstat⟩ ⟨Wd_blind _ _, fun U hU hW => ⟨rfl, hal.trans hW, by rw [hU]; exact hw⟩⟩ rfl hn hv.1 hst (lv_room hrm) hd ⟨hmc, hms⟩) hl hv kk
end ROW2
