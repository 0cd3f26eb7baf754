section ROW
variable {G : Gx} {σ : State} {p : Program} {l : Launch} {e : Env} {R : Room} {s : State} {m : MethodId} {args : Array Value} {below : List Frame} {meth : Method} {c : Code} {y : MethodName} {cc : ByteArray} {nL : Nat} {ret : Option FieldType} {d mc ms : Nat} {Q : Option Value → Mm → Prop} {sh : Sh} {I : Mi} {Jm : Mj} {k n pc : Nat} {lv : List (Nat × Value)} {st : List Value} {i ci j id : Nat} {Cn : String} {T : u_T} {N : Nat} {ty : Nat → FieldType}
/-- class number ci -/
def Clf (ci : Nat) (C : String) (T : u_T) (N : Nat) (ty : Nat → FieldType) : Prop := z_cl[ci]? = some (C, T, N) ∧ N = nf ci ∧ ci < 12 ∧ (∀ w ∈ u_ws C T N, w ∈ gt) ∧ (∀ k, k < N → parseFieldDescriptor (T k).2.2.1 = some (ty k)) ∧ (∀ a, a < N → ∀ b, b < N → a ≠ b → (T a).2.1 ≠ (T b).2.1) ∧ ∀ k, k < N → (T k).1 = C
/-- own's entry i is field j of class number ci -/
def Fl (own : String) (i ci j : Nat) (C : String) (T : u_T) (N : Nat) (ty : Nat → FieldType) : Prop := Clf ci C T N ty ∧ j < N ∧ (Cond.fieldLink own i C (T j).2.1 (T j).2.2.1 ∈ gt ∨ ∃ host, Cond.fieldLinkNest own i C (T j).2.1 (T j).2.2.1 host ∈ nl)
theorem va_one {D : va_G} {cl : List vw_C} {q : Nat × va_E} {H : Heap} (h : va_at D cl q H) : va_P D cl [q] H := by
  intro k x hx
  match k, hx with
  | 0, hx => cases hx; exact h
  | k + 1, hx => simp at hx
theorem z_get {v : Value} (C : Bx G σ p R s m args meth c y cc nL ret d mc ms) (hd : decode cc pc = .ok (.getfield i, 3)) (hf : Fl y.cls i ci j Cn T N ty) (hk : Kd (sh, I, Jm) id ci) (hv0 : Vf G.2.2 (sh, I, Jm) ci id j = v) (kk : Jz G σ p l e R s m args below meth c nL mc ms Q (sh, I, Jm) k n (pc + 3) lv (v :: st)) : Jz G σ p l e R s m args below meth c nL mc ms Q (sh, I, Jm) k n pc lv (.ref (G.2.2 + id) :: st) := by
  intro H locs ls hw hl hv
  obtain ⟨⟨hc, hN, h12, hin, hty, hnm, hT⟩, hj, hlk⟩ := hf
  obtain ⟨hC, hx, hb, hml, hown, hts, hr, hlocks, hK, hal, hR, hnme, hnw⟩ := C
  have hat := hw.2.1 id hk.1
  rw [Ec_obj hk.2 h12] at hat
  have hP := va_one hat
  have hfs : ((List.range (nf ci)).map (Vf G.2.2 (sh, I, Jm) ci id))[j]? = some v := by
    rw [← hv0, List.getElem?_map, List.getElem?_range (by rw [← hN]; exact hj)]; rfl
  rcases hlk with hlk | ⟨host, hlk⟩
  · exact va_get hx hb hts hin hown hK hP 0 rfl hc j hj (hts _ hlk) (fun x h => by rw [hT j hj] at h; exact h) hfs hd (kk H locs ls hw hl hv)
  · exact va_getN hx hb hts hin hown hK hP 0 rfl hc j hj (va_Nw.use rfl (hnw _ hlk)) (fun x h => by rw [hT j hj] at h; exact h) hfs hd (kk H locs ls hw hl hv)
theorem z_getI (C : Bx G σ p R s m args meth c y cc nL ret d mc ms) (hd : decode cc pc = .ok (.getfield i, 3)) (hf : Fl y.cls i ci j Cn T N ty) (h0 : fk ci j = 0) (hk : Kd (sh, I, Jm) id ci) (kk : Jz G σ p l e R s m args below meth c nL mc ms Q (sh, I, Jm) k n (pc + 3) lv (.int (iv (gi I id j)) :: st)) : Jz G σ p l e R s m args below meth c nL mc ms Q (sh, I, Jm) k n pc lv (.ref (G.2.2 + id) :: st) := z_get C hd hf hk (by unfold Vf; rw [if_pos h0, iv_gi]) kk
theorem z_getJ (C : Bx G σ p R s m args meth c y cc nL ret d mc ms) (hd : decode cc pc = .ok (.getfield i, 3)) (hf : Fl y.cls i ci j Cn T N ty) (h0 : fk ci j = 1) (hk : Kd (sh, I, Jm) id ci) (kk : Jz G σ p l e R s m args below meth c nL mc ms Q (sh, I, Jm) k n (pc + 3) lv (.long (jv (gj Jm id j)) :: st)) : Jz G σ p l e R s m args below meth c nL mc ms Q (sh, I, Jm) k n pc lv (.ref (G.2.2 + id) :: st) := z_get C hd hf hk (by unfold Vf; rw [if_neg (by rw [h0]; decide), if_pos h0, jv_gj]) kk
theorem z_getR {t : Nat} (C : Bx G σ p R s m args meth c y cc nL ret d mc ms) (hd : decode cc pc = .ok (.getfield i, 3)) (hf : Fl y.cls i ci j Cn T N ty) (h0 : fk ci j = 2) (hk : Kd (sh, I, Jm) id ci) (hr : sh.2.2.2 id j = some t) (kk : Jz G σ p l e R s m args below meth c nL mc ms Q (sh, I, Jm) k n (pc + 3) lv (.ref (G.2.2 + t) :: st)) : Jz G σ p l e R s m args below meth c nL mc ms Q (sh, I, Jm) k n pc lv (.ref (G.2.2 + id) :: st) := z_get C hd hf hk (by unfold Vf; rw [if_neg (by rw [h0]; decide), if_neg (by rw [h0]; decide)]; show vz _ (sh.2.2.2 id j) = _; rw [hr]; rfl) kk
theorem Wp.putf {M M' : Mm} {H H' : Heap} {cell : Cell} {v : Value} (hw : Wp G σ M H) (hid : id < M.1.1) (h12 : ci < 12) (hc : z_cl[ci]? = some (Cn, T, N)) (hN : N = nf ci) (hap : ∀ x y, x < N → y < N → x ≠ y → G.1.2 ci x ≠ G.1.2 ci y) (hj : j < N) (q2 : cell.cls = G.1.1 ci) (q3 : cell.vm = .none) (q4 : ∀ k, k < N → cell.slots[G.1.2 ci k]? = some (vp_V ((List.range (nf ci)).map (Vf G.2.2 M ci id)) k))
    (e1 : H'[G.2.2 + id]? = some (cell.setSlot (G.1.2 ci j) v)) (e2 : H'.size = H.size) (e3 : ∀ q, q ≠ G.2.2 + id → H'[q]? = H[q]?) (hn : M'.1.1 = M.1.1) (hK : M'.1.2.1 id = ci) (he : ∀ k, k ≠ id → Ec G M' k = Ec G M k) (hV : ∀ i, i < N → Vf G.2.2 M' ci id i = if i = j then v else Vf G.2.2 M ci id i) : Wp G σ M' H' := by
  refine hw.mono hid hn e2 e3 he ?_
  rw [Ec_obj hK h12]
  refine ⟨_, hc, t_OB.to (V := updV (vp_V ((List.range (nf ci)).map (Vf G.2.2 M ci id))) j v) ⟨_, e1, q2, q3, t_set q4 hap hj v⟩ (fun q hq => ?_)⟩
  have hq' : q < nf ci := by rw [← hN]; exact hq
  rw [vp_rng _ hq', hV q hq]
  unfold updV
  by_cases h : q = j
  · simp [h]
  · simp [h, vp_rng _ hq']
theorem z_put {v : Value} {M' : Mm} (C : Bx G σ p R s m args meth c y cc nL ret d mc ms) (hd : decode cc pc = .ok (.putfield i, 3)) (hf : Fl y.cls i ci j Cn T N ty) (hfin : (T j).2.2.2 = false) (hk : Kd (sh, I, Jm) id ci) (hnar : narrow (ty j) v = v) (hfit : fits (ty j) v = true) (hn : M'.1.1 = sh.1) (hKi : M'.1.2.1 id = ci) (he : ∀ k, k ≠ id → Ec G M' k = Ec G (sh, I, Jm) k) (hV : ∀ i, i < N → Vf G.2.2 M' ci id i = if i = j then v else Vf G.2.2 (sh, I, Jm) ci id i) (kk : Jz G σ p l e R s m args below meth c nL mc ms Q M' k n (pc + 3) lv st) : Jz G σ p l e R s m args below meth c nL mc ms Q (sh, I, Jm) k n pc lv (v :: .ref (G.2.2 + id) :: st) := by
  intro H locs ls hw hl hv
  obtain ⟨⟨hc, hN, h12, hin, hty, hnm, hT⟩, hj, hlk⟩ := hf
  obtain ⟨hC, hx, hb, hml, hown, hts, hr, hlocks, hK, hal, hR, hnme, hnw⟩ := C
  have hap := va_apart (own := y.cls) hts hin ty hty hnm hK hc
  have hat := hw.2.1 id hk.1
  rw [Ec_obj hk.2 h12] at hat
  obtain ⟨r, h1, cell, q1, q2, q3, q4⟩ := hat
  have hr : r = (Cn, T, N) := Option.some.inj (h1.symm.trans hc)
  subst hr
  obtain ⟨hS, hfc, kC, hkC, hkind⟩ := hK.1 ci _ hc
  obtain ⟨cf, kf, fi, f, hi, hsl⟩ := hS j hj
  have hlay := hts _ (hin _ (u_in_lay hj))
  unfold u_lay at hlay
  rw [if_neg (by rw [hfin]; decide)] at hlay
  have hst := (u_facts hfc hkC (u_lays hts hin hj) hi).1
  have h6 := u_store hfc hkC hkind hlay hi (hty j hj) hnar hfit
  have hi' : s.fieldFound? Cn (T j).2.1 (T j).2.2.1 = some (cf, kf, fi, f) := by rw [← hT j hj]; exact hi
  rcases hlk with hlk | ⟨host, hlk⟩
  · refine W.putK hx hb (f := f) ⟨hown, hts _ hlk, ⟨_, _, _, hi'⟩, hst⟩ (by rw [q2]; exact h6) q1 q3 (by rw [hsl]; exact k2_hasslot (q4 j hj)) rfl rfl hd fun H' e1 e2 e3 => ?_
    rw [hsl] at e1
    exact kk H' _ ls (hw.putf hk.1 h12 hc hN hap hj q2 q3 q4 e1 e2 e3 hn hKi he hV) (t_lc hl (by show G.2.2 ≤ G.2.2 + id; omega)) hv
  · refine va_WputK hx hb (f := f) hown (va_Nw.use rfl (hnw _ hlk)) hi' hst (by rw [q2]; exact h6) q1 q3 (by rw [hsl]; exact k2_hasslot (q4 j hj)) rfl rfl hd fun H' e1 e2 e3 => ?_
    rw [hsl] at e1
    exact kk H' _ ls (hw.putf hk.1 h12 hc hN hap hj q2 q3 q4 e1 e2 e3 hn hKi he hV) (t_lc hl (by show G.2.2 ≤ G.2.2 + id; omega)) hv
theorem z_putF {v : Value} {M' : Mm} (C : Bx G σ p R s m args meth c y cc nL ret d mc ms) (hd : decode cc pc = .ok (.putfield i, 3)) (hf : Clf ci Cn T N ty) (hj : j < N) (hlk : Cond.fieldLink y.cls i Cn (T j).2.1 (T j).2.2.1 ∈ gt) (hfin : (T j).2.2.2 = true) (hin2 : y.name = "<init>") (hdecl : y.cls = Cn) (hk : Kd (sh, I, Jm) id ci) (hnar : narrow (ty j) v = v) (hfit : fits (ty j) v = true) (hn : M'.1.1 = sh.1) (hKi : M'.1.2.1 id = ci) (he : ∀ k, k ≠ id → Ec G M' k = Ec G (sh, I, Jm) k) (hV : ∀ i, i < N → Vf G.2.2 M' ci id i = if i = j then v else Vf G.2.2 (sh, I, Jm) ci id i) (kk : Jz G σ p l e R s m args below meth c nL mc ms Q M' k n (pc + 3) lv st) : Jz G σ p l e R s m args below meth c nL mc ms Q (sh, I, Jm) k n pc lv (v :: .ref (G.2.2 + id) :: st) := by
  intro H locs ls hw hl hv
  obtain ⟨hc, hN, h12, hin, hty, hnm, hT⟩ := hf
  obtain ⟨hC, hx, hb, hml, hown, hts, hr, hlocks, hK, hal, hR, hnme, hnw⟩ := C
  have hap := va_apart (own := y.cls) hts hin ty hty hnm hK hc
  have hat := hw.2.1 id hk.1
  rw [Ec_obj hk.2 h12] at hat
  obtain ⟨r, h1, cell, q1, q2, q3, q4⟩ := hat
  have hr : r = (Cn, T, N) := Option.some.inj (h1.symm.trans hc)
  subst hr
  obtain ⟨hS, hfc, kC, hkC, hkind⟩ := hK.1 ci _ hc
  obtain ⟨cf, kf, fi, f, hi, hsl⟩ := hS j hj
  have hlay := hts _ (hin _ (u_in_lay hj))
  unfold u_lay at hlay
  rw [if_pos hfin] at hlay
  have hst := (u_facts hfc hkC (u_lays hts hin hj) hi).1
  have hcf : m.cls = cf := by
    obtain ⟨_, _, c', _, _, _, -, -, hf', -, -, -, hown2, -⟩ := Cond.laysFinal_spec hlay
    have e1 : c' = cf := by have := hi.symm.trans hf'; simp at this; exact this.1.symm
    rw [hT j hj, ← hdecl] at hown2
    rw [← e1]; exact Option.some.inj (hown.symm.trans hown2)
  have h6 := u_fits hfc hkC hkind (Or.inr hlay) hi (hty j hj) hnar hfit
  have hi' : s.fieldFound? Cn (T j).2.1 (T j).2.2.1 = some (cf, kf, fi, f) := by rw [← hT j hj]; exact hi
  refine W.putFinK hx hb hown (hts _ hlk) hi' hst hcf (by rw [hnme]; exact hin2) (by rw [q2]; exact h6) q1 q3 (by rw [hsl]; exact k2_hasslot (q4 j hj)) rfl rfl hd fun H' e1 e2 e3 => ?_
  rw [hsl] at e1
  exact kk H' _ ls (hw.putf hk.1 h12 hc hN hap hj q2 q3 q4 e1 e2 e3 hn hKi he hV) (t_lc hl (by show G.2.2 ≤ G.2.2 + id; omega)) hv
theorem Vf_upI {z : Nat} {x : Int} (h0 : fk ci j = 0) (q : Nat) : Vf z (sh, wi I id j x, Jm) ci id q = if q = j then .int (iv x) else Vf z (sh, I, Jm) ci id q := by
  unfold Vf
  by_cases h : q = j
  · subst h; simp [h0, wi, wj, up2_eq]
  · simp [h, wi, wj, up2_eq]
theorem Vf_upJ {z : Nat} {x : Int} (h0 : fk ci j = 1) (q : Nat) : Vf z (sh, I, wj Jm id j x) ci id q = if q = j then .long (jv x) else Vf z (sh, I, Jm) ci id q := by
  unfold Vf
  by_cases h : q = j
  · subst h; simp [h0, wi, wj, up2_eq]
  · simp [h, wi, wj, up2_eq]
theorem Vf_upR {z t : Nat} (h0 : fk ci j = 2) (q : Nat) : Vf z ((sh.1, sh.2.1, sh.2.2.1, up2 sh.2.2.2 id j (some t)), I, Jm) ci id q = if q = j then .ref (z + t) else Vf z (sh, I, Jm) ci id q := by
  unfold Vf
  by_cases h : q = j
  · subst h; simp [h0, up2_eq, vz, rz, va_rf]
  · simp [h, up2_eq]
theorem z_putI {x : Int} (C : Bx G σ p R s m args meth c y cc nL ret d mc ms) (hd : decode cc pc = .ok (.putfield i, 3)) (hf : Fl y.cls i ci j Cn T N ty) (hfin : (T j).2.2.2 = false) (h0 : fk ci j = 0) (hk : Kd (sh, I, Jm) id ci) (hnar : narrow (ty j) (.int (iv x)) = .int (iv x)) (hfit : fits (ty j) (.int (iv x)) = true) (kk : Jz G σ p l e R s m args below meth c nL mc ms Q (sh, wi I id j x, Jm) k n (pc + 3) lv st) : Jz G σ p l e R s m args below meth c nL mc ms Q (sh, I, Jm) k n pc lv (.int (iv x) :: .ref (G.2.2 + id) :: st) :=
  z_put (M' := (sh, wi I id j x, Jm)) C hd hf hfin hk hnar hfit rfl hk.2 (fun _ h => Ec_upI h) (fun q _ => Vf_upI h0 q) kk
theorem z_putJ {x : Int} (C : Bx G σ p R s m args meth c y cc nL ret d mc ms) (hd : decode cc pc = .ok (.putfield i, 3)) (hf : Fl y.cls i ci j Cn T N ty) (hfin : (T j).2.2.2 = false) (h0 : fk ci j = 1) (hk : Kd (sh, I, Jm) id ci) (hnar : narrow (ty j) (.long (jv x)) = .long (jv x)) (hfit : fits (ty j) (.long (jv x)) = true) (kk : Jz G σ p l e R s m args below meth c nL mc ms Q (sh, I, wj Jm id j x) k n (pc + 3) lv st) : Jz G σ p l e R s m args below meth c nL mc ms Q (sh, I, Jm) k n pc lv (.long (jv x) :: .ref (G.2.2 + id) :: st) :=
  z_put (M' := (sh, I, wj Jm id j x)) C hd hf hfin hk hnar hfit rfl hk.2 (fun _ h => Ec_upJ h) (fun q _ => Vf_upJ h0 q) kk
theorem z_putFI {x : Int} (C : Bx G σ p R s m args meth c y cc nL ret d mc ms) (hd : decode cc pc = .ok (.putfield i, 3)) (hf : Clf ci Cn T N ty) (hj : j < N) (hlk : Cond.fieldLink y.cls i Cn (T j).2.1 (T j).2.2.1 ∈ gt) (hfin : (T j).2.2.2 = true) (hin2 : y.name = "<init>") (hdecl : y.cls = Cn) (h0 : fk ci j = 0) (hk : Kd (sh, I, Jm) id ci) (hnar : narrow (ty j) (.int (iv x)) = .int (iv x)) (hfit : fits (ty j) (.int (iv x)) = true) (kk : Jz G σ p l e R s m args below meth c nL mc ms Q (sh, wi I id j x, Jm) k n (pc + 3) lv st) : Jz G σ p l e R s m args below meth c nL mc ms Q (sh, I, Jm) k n pc lv (.int (iv x) :: .ref (G.2.2 + id) :: st) :=
  z_putF (M' := (sh, wi I id j x, Jm)) C hd hf hj hlk hfin hin2 hdecl hk hnar hfit rfl hk.2 (fun _ h => Ec_upI h) (fun q _ => Vf_upI h0 q) kk
theorem z_putFR {t : Nat} (C : Bx G σ p R s m args meth c y cc nL ret d mc ms) (hd : decode cc pc = .ok (.putfield i, 3)) (hf : Clf ci Cn T N ty) (hj : j < N) (hlk : Cond.fieldLink y.cls i Cn (T j).2.1 (T j).2.2.1 ∈ gt) (hfin : (T j).2.2.2 = true) (hin2 : y.name = "<init>") (hdecl : y.cls = Cn) (h0 : fk ci j = 2) (hk : Kd (sh, I, Jm) id ci) (hnar : narrow (ty j) (.ref (G.2.2 + t)) = .ref (G.2.2 + t)) (hfit : fits (ty j) (.ref (G.2.2 + t)) = true) (kk : Jz G σ p l e R s m args below meth c nL mc ms Q ((sh.1, sh.2.1, sh.2.2.1, up2 sh.2.2.2 id j (some t)), I, Jm) k n (pc + 3) lv st) : Jz G σ p l e R s m args below meth c nL mc ms Q (sh, I, Jm) k n pc lv (.ref (G.2.2 + t) :: .ref (G.2.2 + id) :: st) :=
  z_putF (M' := ((sh.1, sh.2.1, sh.2.2.1, up2 sh.2.2.2 id j (some t)), I, Jm)) C hd hf hj hlk hfin hin2 hdecl hk hnar hfit rfl hk.2 (fun _ h => Ec_upR h) (fun q _ => Vf_upR h0 q) kk
end ROW
