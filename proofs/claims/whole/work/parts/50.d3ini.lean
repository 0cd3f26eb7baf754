/-- arrays made one behind another, each put into a field of o -/
def mkA (o c : Nat) : List (Nat × Nat × Nat) → Mm → Option Mm
  | [], M => some M
  | e :: r, M => bd (pR (nC M e.2.1 e.2.2) c o e.1 M.1.1) (mkA o c r)
theorem mkA_ok {o c : Nat} : ∀ (l : List (Nat × Nat × Nat)) (sh : Sh) (I : Mi) (J : Mj), o < sh.1 → sh.2.1 o = c → (l.map (fun e => e.1)).Nodup → ∃ sh' I' J', mkA o c l (sh, I, J) = some (sh', I', J') ∧ Ext sh sh' l.length o ∧ (∀ i e, l[i]? = some e → sh'.2.1 (sh.1 + i) = e.2.1 ∧ sh'.2.2.1 (sh.1 + i) = e.2.2 ∧ (∀ b, sh'.2.2.2 (sh.1 + i) b = none) ∧ sh'.2.2.2 o e.1 = some (sh.1 + i) ∧ (I' (sh.1 + i) = fun _ => 0) ∧ (J' (sh.1 + i) = fun _ => 0)) ∧ (∀ a, a < sh.1 → I' a = I a ∧ J' a = J a) ∧ (∀ j, j ∉ l.map (fun e => e.1) → sh'.2.2.2 o j = sh.2.2.2 o j)
  | [], sh, I, J, ho, hk, hd => ⟨sh, I, J, rfl, ⟨rfl, fun a ha => ⟨rfl, rfl, fun _ _ => rfl⟩⟩, fun i e h => absurd h (by simp), fun a ha => ⟨rfl, rfl⟩, fun j hj => rfl⟩
  | e :: r, sh, I, J, ho, hk, hd => by
    rw [List.map_cons, List.nodup_cons] at hd
    have a1 := addA (I := I) (J := J) (sh := sh) e.1 e.2.1 e.2.2 ho hk
    obtain ⟨s1, e1⟩ : ∃ s1, s1 = aA sh o e.1 e.2.1 e.2.2 := ⟨_, rfl⟩
    rw [← e1] at a1
    have n1 : s1.1 = sh.1 + 1 := by rw [e1, aA_1]
    have x1 : Ext sh s1 1 o := by rw [e1]; exact aA_x
    have k1 : s1.2.1 o = c := by rw [(x1.2 o ho).1]; exact hk
    obtain ⟨sh', I', J', b1, b2, b3, b4, b5⟩ := mkA_ok (o := o) (c := c) r s1 (zi I sh.1) (zj J sh.1) (by omega) k1 hd.2
    have ro : s1.2.2.2 o e.1 = some sh.1 := by rw [e1, aA_r, if_pos ⟨rfl, rfl⟩]
    refine ⟨sh', I', J', ?_, ?_, fun i e' h => ?_, fun a ha => ?_, fun j hj => ?_⟩
    · show bd (pR (nC (sh, I, J) e.2.1 e.2.2) c o e.1 sh.1) (mkA o c r) = _
      rw [a1, bd_some]; exact b1
    · have := x1.trans b2
      rw [List.length_cons, Nat.add_comm]; exact this
    · cases i with
      | zero =>
        have h' : e = e' := by simpa using h
        subst h'
        have y := b2.2 sh.1 (by omega)
        rw [Nat.add_zero]
        refine ⟨by rw [y.1, e1, aA_k, if_pos rfl], by rw [y.2.1, e1, aA_l, if_pos rfl], fun b => ?_, by rw [b5 e.1 hd.1]; exact ro, ?_, ?_⟩
        · rw [y.2.2 b (by omega), e1, aA_r, if_neg (by omega), if_pos rfl]
        · rw [(b4 sh.1 (by omega)).1]; exact if_pos rfl
        · rw [(b4 sh.1 (by omega)).2]; exact if_pos rfl
      | succ i =>
        have h' : r[i]? = some e' := by simpa using h
        have := b3 i e' h'
        rw [n1, show sh.1 + 1 + i = sh.1 + (i + 1) from by omega] at this
        exact this
    · have y := b4 a (by omega)
      rw [zi_at _ (by omega), zj_at _ (by omega)] at y
      exact y
    · rw [List.map_cons, List.mem_cons, not_or] at hj
      rw [b5 j hj.2, e1, aA_r, if_neg (fun z => hj.1 z.2), if_neg (by omega)]
theorem bd_id (o : Option Mm) : bd o (fun M => some M) = o := by cases o <;> rfl
/-- a part is made and put into field j of o, whose class is co -/
theorem subM {sh : Sh} {o j c n co : Nat} {I : Mi} {J : Mj} (ho : o < sh.1) (hk : sh.2.1 o = co) {f : Mm → Option Mm} {P : Sh → Mi → Prop} (hf : ∃ sh' I' J', f (nC (sh, I, J) c 0) = some (sh', I', J') ∧ Ext (nsh sh c 0) sh' n sh.1 ∧ (∀ a, a < sh.1 → I' a = zi I sh.1 a ∧ J' a = zj J sh.1 a) ∧ P sh' I') : ∃ M1 sh' s I' J', f (nC (sh, I, J) c 0) = some M1 ∧ pR M1 co o j sh.1 = some (s, I', J') ∧ s = wrf sh' o j (some sh.1) ∧ s.1 = sh.1 + 1 + n ∧ s.2.1 o = co ∧ Ext sh s (1 + n) o ∧ s.2.2.2 o j = some sh.1 ∧ (∀ i, i ≠ j → s.2.2.2 o i = sh.2.2.2 o i) ∧ (∀ a, a < sh.1 → I' a = I a ∧ J' a = J a) ∧ P sh' I' := by
  obtain ⟨sh', I', J', h1, h2, h3, h4⟩ := hf
  have x0 := nsh_x sh c 0 o
  have n1 := x0.1
  have n2 := h2.1
  have k1 : sh'.2.1 o = co := by rw [(h2.2 o (by omega)).1, (x0.2 o ho).1]; exact hk
  refine ⟨_, sh', wrf sh' o j (some sh.1), I', J', h1, pR_ok (by omega) k1, rfl, by show sh'.1 = _; omega, k1, ⟨by show sh'.1 = _; omega, fun a ha => ?_⟩, ?_, fun i hi => ?_, fun a ha => ?_, h4⟩
  · have y := h2.2 a (by omega)
    have z := x0.2 a ha
    exact ⟨y.1.trans z.1, y.2.1.trans z.2.1, fun b h => by rw [wrf_r, if_neg (fun q => h q.1), y.2.2 b (by omega), z.2.2 b h]⟩
  · rw [wrf_r, if_pos ⟨rfl, rfl⟩]
  · rw [wrf_r, if_neg (fun q => hi q.2), (h2.2 o (by omega)).2.2 i (by omega), ((nsh_x sh c 0 sh.1).2 o ho).2.2 i (by omega)]
  · have := h3 a ha
    rw [zi_at _ (by omega), zj_at _ (by omega)] at this; exact this
/-- an object of arrays alone -/
theorem newA {sh : Sh} {c : Nat} (l : List (Nat × Nat × Nat)) (hd : (l.map (fun e => e.1)).Nodup) (I : Mi) (J : Mj) : ∃ sh' I' J', mkA sh.1 c l (nC (sh, I, J) c 0) = some (sh', I', J') ∧ Ext (nsh sh c 0) sh' l.length sh.1 ∧ (∀ a, a < sh.1 → I' a = zi I sh.1 a ∧ J' a = zj J sh.1 a) ∧ ((sh'.2.1 sh.1 = c ∧ sh'.2.2.1 sh.1 = 0 ∧ (I' sh.1 = fun _ => 0)) ∧ (∀ i e, l[i]? = some e → sh'.2.1 (sh.1 + 1 + i) = e.2.1 ∧ sh'.2.2.1 (sh.1 + 1 + i) = e.2.2 ∧ (∀ b, sh'.2.2.2 (sh.1 + 1 + i) b = none) ∧ sh'.2.2.2 sh.1 e.1 = some (sh.1 + 1 + i) ∧ (I' (sh.1 + 1 + i) = fun _ => 0))) := by
  obtain ⟨sh', I', J', b1, b2, b3, b4, b5⟩ := mkA_ok (o := sh.1) (c := c) l (nsh sh c 0) (zi I sh.1) (zj J sh.1) (by show sh.1 < sh.1 + 1; omega) (if_pos rfl) hd
  have y := b2.2 sh.1 (by show sh.1 < sh.1 + 1; omega)
  refine ⟨sh', I', J', b1, b2, fun a ha => b4 a (by show a < sh.1 + 1; omega), ⟨by rw [y.1]; exact if_pos rfl, by rw [y.2.1]; exact if_pos rfl, by rw [(b4 sh.1 (by show sh.1 < sh.1 + 1; omega)).1]; exact if_pos rfl⟩, fun i e h => ?_⟩
  obtain ⟨z1, z2, z3, z4, z5, -⟩ := b3 i e h
  exact ⟨z1, z2, z3, z4, z5⟩
theorem nsh_l0 {sh s : Sh} {c n : Nat} (x : Ext (nsh sh c 0) s n sh.1) : s.2.2.1 sh.1 = 0 := by
  rw [(x.2 sh.1 (by show sh.1 < sh.1 + 1; omega)).2.1]; exact if_pos rfl
theorem new_Wl {sh : Sh} {o : Nat} (ho : sh.1 = o + 1) (hk : sh.2.1 o = 8) (I : Mi) (J : Mj) : ∃ sh' I' J', uX8_init o (sh, I, J) = some (sh', I', J') ∧ sh'.2.2.1 (o + 1) = 0 ∧ sh'.2.2.1 (o + 10) = 0 ∧ sh'.2.2.1 (o + 17) = 0 ∧ sh'.2.2.1 (o + 19) = 0 ∧ sh'.2.2.1 (o + 21) = 0 := by
  obtain ⟨M1, t1, s1, I1, J1, a1, a2, a3, a4, a5, a6, a7, a8, a9, a10⟩ := subN (j := 0) (c := 3) (n := 8) (I := I) (J := J) (f := uX3_init sh.1) (P := fun s _ => s.2.2.1 (o + 1) = 0) (show o < sh.1 by omega) hk (by
    obtain ⟨s, I', J', h1, h2, h3, h4, h5, h6, h7⟩ := new_L (sh := nsh sh 3 0) (o := sh.1) rfl (if_pos rfl) (zi I sh.1) (zj J sh.1)
    exact ⟨s, I', J', h1, h2, h4, by rw [← ho]; exact nsh_l0 h2⟩)
  rw [ho] at a4
  obtain ⟨M2, t2, s2, I2, J2, b1, b2, b3, b4, b5, b6, b7, b8, b9, b10⟩ := subN (sh := s1) (j := 1) (c := 1) (n := 6) (I := I1) (J := J1) (f := uX1_init s1.1) (P := fun s _ => s.2.2.1 (o + 10) = 0) (show o < s1.1 by omega) a5 (by
    obtain ⟨s, I', J', h1, h2, h3, h4, h5, h6, h7⟩ := new_G (sh := nsh s1 1 0) (o := s1.1) rfl (if_pos rfl) (zi I1 s1.1) (zj J1 s1.1)
    exact ⟨s, I', J', h1, h2, h4, by rw [show o + 10 = s1.1 from a4.symm]; exact nsh_l0 h2⟩)
  rw [a4] at b4
  obtain ⟨M3, t3, s3, I3, J3, c1, c2, c3, c4, c5, c6, c7, c8, c9, c10⟩ := subN (sh := s2) (j := 2) (c := 6) (n := 1) (I := I2) (J := J2) (f := uX6_init s2.1 500 6) (P := fun s _ => s.2.2.1 (o + 17) = 0) (show o < s2.1 by omega) b5 (by
    obtain ⟨s, I', J', h1, h2, h3, h4, h5⟩ := new_T (sh := nsh s2 6 0) (o := s2.1) rfl (if_pos rfl) (v := 500) (w := 6) (L := 3000) (by decide) (zi I2 s2.1) (zj J2 s2.1)
    exact ⟨s, I', J', h1, h2, h4, by rw [show o + 17 = s2.1 from b4.symm]; exact nsh_l0 h2⟩)
  rw [b4] at c4
  obtain ⟨M4, t4, s4, I4, J4, d1, d2, d3, d4, d5, d6, d7, d8, d9, d10⟩ := subN (sh := s3) (j := 3) (c := 6) (n := 1) (I := I3) (J := J3) (f := uX6_init s3.1 500 7) (P := fun s _ => s.2.2.1 (o + 19) = 0) (show o < s3.1 by omega) c5 (by
    obtain ⟨s, I', J', h1, h2, h3, h4, h5⟩ := new_T (sh := nsh s3 6 0) (o := s3.1) rfl (if_pos rfl) (v := 500) (w := 7) (L := 3500) (by decide) (zi I3 s3.1) (zj J3 s3.1)
    exact ⟨s, I', J', h1, h2, h4, by rw [show o + 19 = s3.1 from c4.symm]; exact nsh_l0 h2⟩)
  rw [c4] at d4
  obtain ⟨M5, t5, s5, I5, J5, e1, e2, e3, e4, e5, e6, e7, e8, e9, e10⟩ := subN (sh := s4) (j := 4) (c := 5) (n := 3) (I := I4) (J := J4) (f := uX5_init s4.1) (P := fun s _ => s.2.2.1 (o + 21) = 0) (show o < s4.1 by omega) d5 (by
    obtain ⟨s, I', J', h1, h2, h3, h4, h5⟩ := new_S (sh := nsh s4 5 0) (o := s4.1) rfl (if_pos rfl) (zi I4 s4.1) (zj J4 s4.1)
    exact ⟨s, I', J', h1, h2, h4, by rw [show o + 21 = s4.1 from d4.symm]; exact nsh_l0 h2⟩)
  rw [d4] at e4
  refine ⟨s5, I5, J5, ?_, ?_, ?_, ?_, ?_, ?_⟩
  · rw [← ho] at *
    simp only [uX8_init, a1, a2, b1, b2, c1, c2, d1, d2, e1, e2, bd_some]
  · rw [(e6.2 _ (by omega)).2.1, (d6.2 _ (by omega)).2.1, (c6.2 _ (by omega)).2.1, (b6.2 _ (by omega)).2.1, a3]; exact a10
  · rw [(e6.2 _ (by omega)).2.1, (d6.2 _ (by omega)).2.1, (c6.2 _ (by omega)).2.1, b3]; exact b10
  · rw [(e6.2 _ (by omega)).2.1, (d6.2 _ (by omega)).2.1, c3]; exact c10
  · rw [(e6.2 _ (by omega)).2.1, d3]; exact d10
  · rw [e3]; exact e10
