theorem wrf_x (sh : Sh) (o j : Nat) (v : Option Nat) : Ext sh (wrf sh o j v) 0 o := ⟨rfl, fun a ha => ⟨rfl, rfl, fun b h => by rw [wrf_r, if_neg (fun q => h q.1)]⟩⟩
theorem nsh_x (sh : Sh) (c L o : Nat) : Ext sh (nsh sh c L) 1 o := ⟨rfl, fun a ha => ⟨if_neg (by omega), if_neg (by omega), fun b h => by show va_up sh.2.2.2 sh.1 (fun _ => none) a b = _; unfold va_up; rw [if_neg (by omega)]⟩⟩
/-- a part is made and put into field j of o -/
theorem subN {sh : Sh} {o j c n : Nat} {I : Mi} {J : Mj} (ho : o < sh.1) (hk : sh.2.1 o = 8) {f : Mm → Option Mm} {P : Sh → Mi → Prop} (hf : ∃ sh' I' J', f (nC (sh, I, J) c 0) = some (sh', I', J') ∧ Ext (nsh sh c 0) sh' n sh.1 ∧ (∀ a, a < sh.1 → I' a = zi I sh.1 a ∧ J' a = zj J sh.1 a) ∧ P sh' I') : ∃ M1 sh' s I' J', f (nC (sh, I, J) c 0) = some M1 ∧ pR M1 8 o j sh.1 = some (s, I', J') ∧ s = wrf sh' o j (some sh.1) ∧ s.1 = sh.1 + 1 + n ∧ s.2.1 o = 8 ∧ Ext sh s (1 + n) o ∧ s.2.2.2 o j = some sh.1 ∧ (∀ i, i ≠ j → s.2.2.2 o i = sh.2.2.2 o i) ∧ (∀ a, a < sh.1 → I' a = I a ∧ J' a = J a) ∧ P sh' I' := by
  obtain ⟨sh', I', J', h1, h2, h3, h4⟩ := hf
  have x0 := nsh_x sh c 0 o
  have n1 := x0.1
  have n2 := h2.1
  have k1 : sh'.2.1 o = 8 := by rw [(h2.2 o (by omega)).1, (x0.2 o ho).1]; exact hk
  refine ⟨_, sh', wrf sh' o j (some sh.1), I', J', h1, pR_ok (by omega) k1, rfl, by show sh'.1 = _; omega, k1, ⟨by show sh'.1 = _; omega, fun a ha => ?_⟩, ?_, fun i hi => ?_, fun a ha => ?_, h4⟩
  · have y := h2.2 a (by omega)
    have z := x0.2 a ha
    exact ⟨y.1.trans z.1, y.2.1.trans z.2.1, fun b h => by rw [wrf_r, if_neg (fun q => h q.1), y.2.2 b (by omega), z.2.2 b h]⟩
  · rw [wrf_r, if_pos ⟨rfl, rfl⟩]
  · rw [wrf_r, if_neg (fun q => hi q.2), (h2.2 o (by omega)).2.2 i (by omega), ((nsh_x sh c 0 sh.1).2 o ho).2.2 i (by omega)]
  · have := h3 a ha
    rw [zi_at _ (by omega), zj_at _ (by omega)] at this; exact this
theorem new_W {sh : Sh} {o : Nat} (ho : sh.1 = o + 1) (hk : sh.2.1 o = 8) (I : Mi) (J : Mj) : ∃ sh' I' J', uX8_init o (sh, I, J) = some (sh', I', J') ∧ Ext sh sh' 24 o ∧ BlW sh' o ∧ (∀ a, a < o → I' a = I a ∧ J' a = J a) ∧ gi I' (o + 17) 0 = 6 ∧ gi I' (o + 19) 0 = 7
    ∧ ((∀ j, j < 4 ∨ j = 12 → gi I' (o + 1) j = 0) ∧ (∀ x, 0 ≤ x → x < 64 → ri I' (o + 8) x = -1) ∧ (∀ x, 0 ≤ x → x < 4 → ∃ v, sA 0 x = some v ∧ ri I' (o + 9) x = w32 v)) ∧ ((∀ j, j < 6 ∨ j = 8 → gi I' (o + 10) j = 0) ∧ gi I' (o + 10) 6 = -1 ∧ gi I' (o + 10) 7 = -1) ∧ (∀ j, gi I' (o + 21) j = 0) := by
  obtain ⟨M1, t1, s1, I1, J1, a1, a2, a3, a4, a5, a6, a7, a8, a9, a10⟩ := subN (j := 0) (c := 3) (n := 8) (I := I) (J := J) (f := uX3_init sh.1) (P := fun s I => BlL s (o + 1) ∧ (∀ j, j < 4 ∨ j = 12 → gi I (o + 1) j = 0) ∧ (∀ x, 0 ≤ x → x < 64 → ri I (o + 8) x = -1) ∧ (∀ x, 0 ≤ x → x < 4 → ∃ v, sA 0 x = some v ∧ ri I (o + 9) x = w32 v)) (show o < sh.1 by omega) hk (by
    obtain ⟨s, I', J', h1, h2, h3, h4, h5, h6, h7⟩ := new_L (sh := nsh sh 3 0) (o := sh.1) rfl (if_pos rfl) (zi I sh.1) (zj J sh.1)
    rw [ho] at h3 h5 h6 h7
    exact ⟨s, I', J', h1, h2, h4, h3, h5, h6, h7⟩)
  rw [ho] at a4
  obtain ⟨M2, t2, s2, I2, J2, b1, b2, b3, b4, b5, b6, b7, b8, b9, b10⟩ := subN (sh := s1) (j := 1) (c := 1) (n := 6) (I := I1) (J := J1) (f := uX1_init s1.1) (P := fun s I => BlG s (o + 10) ∧ (∀ j, j < 6 ∨ j = 8 → gi I (o + 10) j = 0) ∧ gi I (o + 10) 6 = -1 ∧ gi I (o + 10) 7 = -1) (show o < s1.1 by omega) a5 (by
    obtain ⟨s, I', J', h1, h2, h3, h4, h5, h6, h7⟩ := new_G (sh := nsh s1 1 0) (o := s1.1) rfl (if_pos rfl) (zi I1 s1.1) (zj J1 s1.1)
    rw [a4] at h3 h5 h6 h7
    exact ⟨s, I', J', h1, h2, h4, h3, h5, h6, h7⟩)
  rw [a4] at b4
  obtain ⟨M3, t3, s3, I3, J3, c1, c2, c3, c4, c5, c6, c7, c8, c9, c10⟩ := subN (sh := s2) (j := 2) (c := 6) (n := 1) (I := I2) (J := J2) (f := uX6_init s2.1 500 6) (P := fun s I => BlT s (o + 17) 3000 ∧ gi I (o + 17) 0 = 6) (show o < s2.1 by omega) b5 (by
    obtain ⟨s, I', J', h1, h2, h3, h4, h5⟩ := new_T (sh := nsh s2 6 0) (o := s2.1) rfl (if_pos rfl) (v := 500) (w := 6) (L := 3000) (by decide) (zi I2 s2.1) (zj J2 s2.1)
    rw [b4] at h3 h5
    exact ⟨s, I', J', h1, h2, h4, h3, h5⟩)
  rw [b4] at c4
  obtain ⟨M4, t4, s4, I4, J4, d1, d2, d3, d4, d5, d6, d7, d8, d9, d10⟩ := subN (sh := s3) (j := 3) (c := 6) (n := 1) (I := I3) (J := J3) (f := uX6_init s3.1 500 7) (P := fun s I => BlT s (o + 19) 3500 ∧ gi I (o + 19) 0 = 7) (show o < s3.1 by omega) c5 (by
    obtain ⟨s, I', J', h1, h2, h3, h4, h5⟩ := new_T (sh := nsh s3 6 0) (o := s3.1) rfl (if_pos rfl) (v := 500) (w := 7) (L := 3500) (by decide) (zi I3 s3.1) (zj J3 s3.1)
    rw [c4] at h3 h5
    exact ⟨s, I', J', h1, h2, h4, h3, h5⟩)
  rw [c4] at d4
  obtain ⟨M5, t5, s5, I5, J5, e1, e2, e3, e4, e5, e6, e7, e8, e9, e10⟩ := subN (sh := s4) (j := 4) (c := 5) (n := 3) (I := I4) (J := J4) (f := uX5_init s4.1) (P := fun s I => BlS s (o + 21) ∧ (∀ j, gi I (o + 21) j = 0)) (show o < s4.1 by omega) d5 (by
    obtain ⟨s, I', J', h1, h2, h3, h4, h5⟩ := new_S (sh := nsh s4 5 0) (o := s4.1) rfl (if_pos rfl) (zi I4 s4.1) (zj J4 s4.1)
    have h6 : ∀ j, gi I' s4.1 j = 0 := fun j => by rw [h5]; unfold gi zi va_up; rw [if_pos rfl]; rfl
    rw [d4] at h3 h6
    exact ⟨s, I', J', h1, h2, h4, h3, h6⟩)
  rw [d4] at e4
  have f4 : ∀ a, a < o + 21 → I5 a = I4 a := fun a h => (e9 a (by omega)).1
  have f3 : ∀ a, a < o + 19 → I5 a = I3 a := fun a h => by rw [f4 a (by omega)]; exact (d9 a (by omega)).1
  have f2 : ∀ a, a < o + 17 → I5 a = I2 a := fun a h => by rw [f3 a (by omega)]; exact (c9 a (by omega)).1
  have f1 : ∀ a, a < o + 10 → I5 a = I1 a := fun a h => by rw [f2 a (by omega)]; exact (b9 a (by omega)).1
  refine ⟨s5, I5, J5, ?_, (((a6.trans b6).trans c6).trans d6).trans e6, ⟨by omega, e5, ⟨?_, ?_, ?_, ?_, ?_⟩, ?_, ?_, ?_, ?_, ?_⟩, fun a ha => ⟨by rw [f1 a (by omega)]; exact (a9 a (by omega)).1, by rw [(e9 a (by omega)).2, (d9 a (by omega)).2, (c9 a (by omega)).2, (b9 a (by omega)).2, (a9 a (by omega)).2]⟩, by rw [gi_of _ _ _ (f3 _ (by omega))]; exact c10.2, by rw [gi_of _ _ _ (f4 _ (by omega))]; exact d10.2, ⟨fun j hj => ?_, fun x h1 h2 => ?_, fun x h1 h2 => ?_⟩, ⟨fun j hj => ?_, ?_, ?_⟩, e10.2⟩
  · rw [← ho] at *
    simp only [uX8_init, a1, a2, b1, b2, c1, c2, d1, d2, e1, e2, bd_some]
  · rw [e8 0 (by decide), d8 0 (by decide), c8 0 (by decide), b8 0 (by decide), a7, ho]
  · rw [e8 1 (by decide), d8 1 (by decide), c8 1 (by decide), b7, a4]
  · rw [e8 2 (by decide), d8 2 (by decide), c7, b4]
  · rw [e8 3 (by decide), d7, c4]
  · rw [e7, d4]
  · have z : BlL s1 (o + 1) := by rw [a3]; exact a10.1.ext (wrf_x _ _ _ _) (by omega)
    exact (((z.ext b6 (by omega)).ext c6 (by omega)).ext d6 (by omega)).ext e6 (by omega)
  · have z : BlG s2 (o + 10) := by rw [b3]; exact b10.1.ext (wrf_x _ _ _ _) (by omega)
    exact ((z.ext c6 (by omega)).ext d6 (by omega)).ext e6 (by omega)
  · have z : BlT s3 (o + 17) 3000 := by rw [c3]; exact c10.1.ext (wrf_x _ _ _ _) (by omega)
    exact (z.ext d6 (by omega)).ext e6 (by omega)
  · have z : BlT s4 (o + 19) 3500 := by rw [d3]; exact d10.1.ext (wrf_x _ _ _ _) (by omega)
    exact z.ext e6 (by omega)
  · rw [e3]; exact e10.1.ext (wrf_x _ _ _ _) (by omega)
  · rw [gi_of _ _ _ (f1 _ (by omega))]; exact a10.2.1 j hj
  · rw [ri_of _ _ _ (f1 _ (by omega))]; exact a10.2.2.1 x h1 h2
  · rw [ri_of _ _ _ (f1 _ (by omega))]; exact a10.2.2.2 x h1 h2
  · rw [gi_of _ _ _ (f2 _ (by omega))]; exact b10.2.1 j hj
  · rw [gi_of _ _ _ (f2 _ (by omega))]; exact b10.2.2.1
  · rw [gi_of _ _ _ (f2 _ (by omega))]; exact b10.2.2.2
