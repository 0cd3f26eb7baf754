theorem kd9 {sh : Sh} {I : Mi} {J : Mj} (R : Rel (sh, I, J)) : Kd (sh, I, J) 0 9 := ⟨R.1.1.lt 0 (by decide), R.1.1.kd 0 9 (by decide) rfl⟩
theorem kd10 {sh : Sh} {I : Mi} {J : Mj} (R : Rel (sh, I, J)) (I' : Mi) (J' : Mj) : Kd (sh, I', J') 57 10 := ⟨R.1.1.lt 57 (by decide), R.1.1.kd 57 10 (by decide) rfl⟩
theorem ka80 {sh : Sh} {I : Mi} {J : Mj} (R : Rel (sh, I, J)) : Ka sh 80 13 1 := ⟨R.1.1.lt 80 (by decide), R.1.1.kd 80 13 (by decide) rfl, R.1.1.ln 80 1 (by decide) rfl, by decide⟩
theorem thr0 {sh : Sh} {I : Mi} {J : Mj} {v : Int} (R : Rel (sh, I, J)) (g : gi I 57 0 = v) : uX10_thrown 57 (sh, I, J) = some v := (rX_thrown R.1.1 I J).trans (by rw [g])
theorem aj80 {sh : Sh} {I : Mi} {J : Mj} {x : Int} (R : Rel (sh, I, wj J 80 0 x)) (gx : rg x) : aJ (sh, I, wj J 80 0 x) 80 0 = some x := by
  have h := ka80 R
  have e : (80 < sh.1 ∧ sh.2.1 80 = 13 ∧ sh.2.2.1 80 < 2147483648) ∧ (0 : Int) ≤ 0 ∧ (0 : Int) < ((sh.2.2.1 80 : Nat) : Int) := ⟨⟨h.1, h.2.1, by rw [h.2.2.1]; decide⟩, by decide, by rw [h.2.2.1]; decide⟩
  unfold aJ
  refine (if_pos e).trans ?_
  show some (gj (wj J 80 0 x) 80 0) = some x
  rw [gj_wj_eq J 80 0 (by omega)]
theorem exc59 {sh : Sh} {I : Mi} {J : Mj} (R : Rel (sh, I, J)) : ri (layI (zi I sh.1)) 59 = ri (layI I) 59 := by
  have h81 : 81 ≤ sh.1 := R.1.1.1
  exact ri_fun (lay_cong (zi_at I (by omega)) (gi_of _ _ _ (zi_at I (by omega)))).1
section TURN
variable {G : Gx} {σ : State} {p : Program} {l : Launch} {e : Env} {R0 : Room} {s : State} {m : MethodId} {args : Array Value} {below : List Frame} {meth : Method} {c : Code} {Q : Option Value → Mm → Prop} {sh : Sh} {I : Mi} {J : Mj} {k n a N i : Nat} {S : Nat → Int}
theorem lt_feed (hC : Cy G σ) (hT : Zt G σ) (htr : ∀ e : Env, l.admits e → e.platform.stackTraces = false) (C : BxL G σ p R0 s m args meth c) (hS : Scr G σ a N S) (hi : i + 6 ≤ N) (hk : k + 25 ≤ 601024) (hn : n + 9146 ≤ 7293034) (R : Rel (sh, I, J)) (nx : ∀ M2 : Mm, Rel M2 → Jz G σ p l e R0 s m args below meth c 7 601024 7293034 Q M2 (k + 25) (n + 9146) 1584 (LV G a i) []) : Jz G σ p l e R0 s m args below meth c 7 601024 7293034 Q (sh, I, J) k n 204 (LV G a i) [] := by
  obtain ⟨x, I1, I2, q1, q2, q3⟩ := op_feed R (S (i + 1)) (S (i + 2)) (S (i + 3)) (S (i + 4)) (S (i + 5))
  exact lw_feed hC C hS hi (kd9 R) (kd10 q3 I1 J) hk hn q1 q2 (nx _ q3)
theorem lt_end (hC : Cy G σ) (hT : Zt G σ) (htr : ∀ e : Env, l.admits e → e.platform.stackTraces = false) (C : BxL G σ p R0 s m args meth c) (hS : Scr G σ a N S) (hi : i + 6 ≤ N) (hk : k + 25 ≤ 601024) (hn : n + 9146 ≤ 7293034) (R : Rel (sh, I, J)) (nx : ∀ M2 : Mm, Rel M2 → Jz G σ p l e R0 s m args below meth c 7 601024 7293034 Q M2 (k + 25) (n + 9146) 1584 (LV G a i) []) : Jz G σ p l e R0 s m args below meth c 7 601024 7293034 Q (sh, I, J) k n 277 (LV G a i) [] := by
  obtain ⟨x, I1, I2, q1, q2, q3⟩ := op_end R (S (i + 1)) (hS.2.1 _)
  exact lw_end hC C hS hi (kd9 R) (kd10 q3 I1 J) hk hn q1 q2 (nx _ q3)
theorem lt_law (hC : Cy G σ) (hT : Zt G σ) (htr : ∀ e : Env, l.admits e → e.platform.stackTraces = false) (C : BxL G σ p R0 s m args meth c) (hS : Scr G σ a N S) (hi : i + 6 ≤ N) (hk : k + 25 ≤ 601024) (hn : n + 9146 ≤ 7293034) (R : Rel (sh, I, J)) (nx : ∀ M2 : Mm, Rel M2 → Jz G σ p l e R0 s m args below meth c 7 601024 7293034 Q M2 (k + 25) (n + 9146) 1584 (LV G a i) []) : Jz G σ p l e R0 s m args below meth c 7 601024 7293034 Q (sh, I, J) k n 302 (LV G a i) [] := by
  obtain ⟨x, sh1, I1, J1, I2, J2, q1, q2, q3⟩ := op_law R 
  exact lw_law hC C hS hi (kd9 R) (kd10 q3 I1 J1) hk hn q1 q2 (nx _ q3)
theorem lt_fault (hC : Cy G σ) (hT : Zt G σ) (htr : ∀ e : Env, l.admits e → e.platform.stackTraces = false) (C : BxL G σ p R0 s m args meth c) (hS : Scr G σ a N S) (hi : i + 6 ≤ N) (hk : k + 25 ≤ 601024) (hn : n + 9146 ≤ 7293034) (R : Rel (sh, I, J)) (nx : ∀ M2 : Mm, Rel M2 → Jz G σ p l e R0 s m args below meth c 7 601024 7293034 Q M2 (k + 25) (n + 9146) 1584 (LV G a i) []) : Jz G σ p l e R0 s m args below meth c 7 601024 7293034 Q (sh, I, J) k n 315 (LV G a i) [] := by
  obtain ⟨x, q1, q2⟩ := op_fault R 
  exact lw_fault hC C hS hi (kd9 R) (kd10 R I J) hk hn q1 q2 (nx _ (R.rdN 0))
theorem lt_who (hC : Cy G σ) (hT : Zt G σ) (htr : ∀ e : Env, l.admits e → e.platform.stackTraces = false) (C : BxL G σ p R0 s m args meth c) (hS : Scr G σ a N S) (hi : i + 6 ≤ N) (hk : k + 25 ≤ 601024) (hn : n + 9146 ≤ 7293034) (R : Rel (sh, I, J)) (nx : ∀ M2 : Mm, Rel M2 → Jz G σ p l e R0 s m args below meth c 7 601024 7293034 Q M2 (k + 25) (n + 9146) 1584 (LV G a i) []) : Jz G σ p l e R0 s m args below meth c 7 601024 7293034 Q (sh, I, J) k n 328 (LV G a i) [] := by
  obtain ⟨r, q1, q2⟩ := op_who R (S (i + 1)) (S (i + 2))
  cases r with
  | inl x0 =>
    obtain ⟨x, I2, p1, p2, p3⟩ := q2 sh I (wj J 80 0 x0) (R.out x0) rfl
    rcases p3 with ⟨e1, g⟩ | ⟨e1, g⟩
    · have e2 : x = x0 := (Sum.inl.inj e1).symm
      subst e2
      exact lw_who_r hC hT htr C hS hi (kd9 R) (ka80 R) (kd10 R I _) (kd10 p2 I2 _) hk hn q1 p1 (thr0 p2 g) (fun gx => aj80 p2 gx) (nx _ p2)
    · cases e1
  | inr u =>
    cases u
    obtain ⟨x, I2, p1, p2, p3⟩ := q2 (nsh sh 11 0) (zi I sh.1) (zj J sh.1) (R.exc 11) (exc59 R)
    rcases p3 with ⟨e1, g⟩ | ⟨e1, g⟩
    · cases e1
    · exact lw_who_t hC hT htr C hS hi (kd9 R) (ka80 R) (kd10 (R.exc 11) _ _) (kd10 p2 I2 _) hk hn q1 p1 (thr0 p2 g) (nx _ p2)
theorem lt_mint (hC : Cy G σ) (hT : Zt G σ) (htr : ∀ e : Env, l.admits e → e.platform.stackTraces = false) (C : BxL G σ p R0 s m args meth c) (hS : Scr G σ a N S) (hi : i + 6 ≤ N) (hk : k + 25 ≤ 601024) (hn : n + 9146 ≤ 7293034) (R : Rel (sh, I, J)) (nx : ∀ M2 : Mm, Rel M2 → Jz G σ p l e R0 s m args below meth c 7 601024 7293034 Q M2 (k + 25) (n + 9146) 1584 (LV G a i) []) : Jz G σ p l e R0 s m args below meth c 7 601024 7293034 Q (sh, I, J) k n 396 (LV G a i) [] := by
  obtain ⟨r, q1, q2⟩ := op_mint R (S (i + 1)) (S (i + 2))
  cases r with
  | inl x0 =>
    obtain ⟨x, I2, p1, p2, p3⟩ := q2 sh I (wj J 80 0 x0) (R.out x0) rfl
    rcases p3 with ⟨e1, g⟩ | ⟨e1, g⟩
    · have e2 : x = x0 := (Sum.inl.inj e1).symm
      subst e2
      exact lw_mint_r hC hT htr C hS hi (kd9 R) (ka80 R) (kd10 R I _) (kd10 p2 I2 _) hk hn q1 p1 (thr0 p2 g) (fun gx => aj80 p2 gx) (nx _ p2)
    · cases e1
  | inr u =>
    cases u
    obtain ⟨x, I2, p1, p2, p3⟩ := q2 (nsh sh 11 0) (zi I sh.1) (zj J sh.1) (R.exc 11) (exc59 R)
    rcases p3 with ⟨e1, g⟩ | ⟨e1, g⟩
    · cases e1
    · exact lw_mint_t hC hT htr C hS hi (kd9 R) (ka80 R) (kd10 (R.exc 11) _ _) (kd10 p2 I2 _) hk hn q1 p1 (thr0 p2 g) (nx _ p2)
theorem lt_coin (hC : Cy G σ) (hT : Zt G σ) (htr : ∀ e : Env, l.admits e → e.platform.stackTraces = false) (C : BxL G σ p R0 s m args meth c) (hS : Scr G σ a N S) (hi : i + 6 ≤ N) (hk : k + 25 ≤ 601024) (hn : n + 9146 ≤ 7293034) (R : Rel (sh, I, J)) (nx : ∀ M2 : Mm, Rel M2 → Jz G σ p l e R0 s m args below meth c 7 601024 7293034 Q M2 (k + 25) (n + 9146) 1584 (LV G a i) []) : Jz G σ p l e R0 s m args below meth c 7 601024 7293034 Q (sh, I, J) k n 464 (LV G a i) [] := by
  obtain ⟨x, sh1, I1, J1, I2, q1, q2, q3⟩ := op_coin R (S (i + 1)) (S (i + 2)) (S (i + 3))
  exact lw_coin hC C hS hi (kd9 R) (kd10 q3 I1 J1) hk hn q1 q2 (nx _ q3)
theorem lt_of (hC : Cy G σ) (hT : Zt G σ) (htr : ∀ e : Env, l.admits e → e.platform.stackTraces = false) (C : BxL G σ p R0 s m args meth c) (hS : Scr G σ a N S) (hi : i + 6 ≤ N) (hk : k + 25 ≤ 601024) (hn : n + 9146 ≤ 7293034) (R : Rel (sh, I, J)) (nx : ∀ M2 : Mm, Rel M2 → Jz G σ p l e R0 s m args below meth c 7 601024 7293034 Q M2 (k + 25) (n + 9146) 1584 (LV G a i) []) : Jz G σ p l e R0 s m args below meth c 7 601024 7293034 Q (sh, I, J) k n 513 (LV G a i) [] := by
  obtain ⟨r, q1, q2⟩ := op_of R (S (i + 1)) (S (i + 2))
  cases r with
  | inl x0 =>
    obtain ⟨x, I2, p1, p2, p3⟩ := q2 sh I (wj J 80 0 x0) (R.out x0) rfl
    rcases p3 with ⟨e1, g⟩ | ⟨e1, g⟩
    · have e2 : x = x0 := (Sum.inl.inj e1).symm
      subst e2
      exact lw_of_r hC hT htr C hS hi (kd9 R) (ka80 R) (kd10 R I _) (kd10 p2 I2 _) hk hn q1 p1 (thr0 p2 g) (fun gx => aj80 p2 gx) (nx _ p2)
    · cases e1
  | inr u =>
    cases u
    obtain ⟨x, I2, p1, p2, p3⟩ := q2 (nsh sh 11 0) (zi I sh.1) (zj J sh.1) (R.exc 11) (exc59 R)
    rcases p3 with ⟨e1, g⟩ | ⟨e1, g⟩
    · cases e1
    · exact lw_of_t hC hT htr C hS hi (kd9 R) (ka80 R) (kd10 (R.exc 11) _ _) (kd10 p2 I2 _) hk hn q1 p1 (thr0 p2 g) (nx _ p2)
theorem lt_face (hC : Cy G σ) (hT : Zt G σ) (htr : ∀ e : Env, l.admits e → e.platform.stackTraces = false) (C : BxL G σ p R0 s m args meth c) (hS : Scr G σ a N S) (hi : i + 6 ≤ N) (hk : k + 25 ≤ 601024) (hn : n + 9146 ≤ 7293034) (R : Rel (sh, I, J)) (nx : ∀ M2 : Mm, Rel M2 → Jz G σ p l e R0 s m args below meth c 7 601024 7293034 Q M2 (k + 25) (n + 9146) 1584 (LV G a i) []) : Jz G σ p l e R0 s m args below meth c 7 601024 7293034 Q (sh, I, J) k n 581 (LV G a i) [] := by
  obtain ⟨x, q1, q2⟩ := op_face R (S (i + 1)) (S (i + 2)) (S (i + 3))
  exact lw_face hC C hS hi (kd9 R) (kd10 R I J) hk hn q1 q2 (nx _ (R.rd 0))
theorem lt_value (hC : Cy G σ) (hT : Zt G σ) (htr : ∀ e : Env, l.admits e → e.platform.stackTraces = false) (C : BxL G σ p R0 s m args meth c) (hS : Scr G σ a N S) (hi : i + 6 ≤ N) (hk : k + 25 ≤ 601024) (hn : n + 9146 ≤ 7293034) (R : Rel (sh, I, J)) (nx : ∀ M2 : Mm, Rel M2 → Jz G σ p l e R0 s m args below meth c 7 601024 7293034 Q M2 (k + 25) (n + 9146) 1584 (LV G a i) []) : Jz G σ p l e R0 s m args below meth c 7 601024 7293034 Q (sh, I, J) k n 630 (LV G a i) [] := by
  obtain ⟨x, q1, q2⟩ := op_value R (S (i + 1)) (S (i + 2)) (S (i + 3))
  exact lw_value hC C hS hi (kd9 R) (kd10 R I J) hk hn q1 q2 (nx _ (R.rd 0))
theorem lt_luck (hC : Cy G σ) (hT : Zt G σ) (htr : ∀ e : Env, l.admits e → e.platform.stackTraces = false) (C : BxL G σ p R0 s m args meth c) (hS : Scr G σ a N S) (hi : i + 6 ≤ N) (hk : k + 25 ≤ 601024) (hn : n + 9146 ≤ 7293034) (R : Rel (sh, I, J)) (nx : ∀ M2 : Mm, Rel M2 → Jz G σ p l e R0 s m args below meth c 7 601024 7293034 Q M2 (k + 25) (n + 9146) 1584 (LV G a i) []) : Jz G σ p l e R0 s m args below meth c 7 601024 7293034 Q (sh, I, J) k n 679 (LV G a i) [] := by
  obtain ⟨x, q1, q2⟩ := op_luck R 
  exact lw_luck hC C hS hi (kd9 R) (kd10 R I J) hk hn q1 q2 (nx _ (R.rd 0))
theorem lt_bears (hC : Cy G σ) (hT : Zt G σ) (htr : ∀ e : Env, l.admits e → e.platform.stackTraces = false) (C : BxL G σ p R0 s m args meth c) (hS : Scr G σ a N S) (hi : i + 6 ≤ N) (hk : k + 25 ≤ 601024) (hn : n + 9146 ≤ 7293034) (R : Rel (sh, I, J)) (nx : ∀ M2 : Mm, Rel M2 → Jz G σ p l e R0 s m args below meth c 7 601024 7293034 Q M2 (k + 25) (n + 9146) 1584 (LV G a i) []) : Jz G σ p l e R0 s m args below meth c 7 601024 7293034 Q (sh, I, J) k n 692 (LV G a i) [] := by
  obtain ⟨x, q1, q2⟩ := op_bears R (S (i + 1)) (S (i + 2))
  exact lw_bears hC C hS hi (kd9 R) (kd10 R I J) hk hn q1 q2 (nx _ (R.rd 0))
theorem lt_sale (hC : Cy G σ) (hT : Zt G σ) (htr : ∀ e : Env, l.admits e → e.platform.stackTraces = false) (C : BxL G σ p R0 s m args meth c) (hS : Scr G σ a N S) (hi : i + 6 ≤ N) (hk : k + 25 ≤ 601024) (hn : n + 9146 ≤ 7293034) (R : Rel (sh, I, J)) (nx : ∀ M2 : Mm, Rel M2 → Jz G σ p l e R0 s m args below meth c 7 601024 7293034 Q M2 (k + 25) (n + 9146) 1584 (LV G a i) []) : Jz G σ p l e R0 s m args below meth c 7 601024 7293034 Q (sh, I, J) k n 729 (LV G a i) [] := by
  obtain ⟨x, sh1, I1, J1, I2, q1, q2, q3⟩ := op_sale R (S (i + 1)) (S (i + 2)) (S (i + 3)) (S (i + 4))
  exact lw_sale hC C hS hi (kd9 R) (kd10 q3 I1 J1) hk hn q1 q2 (nx _ q3)
theorem lt_sales (hC : Cy G σ) (hT : Zt G σ) (htr : ∀ e : Env, l.admits e → e.platform.stackTraces = false) (C : BxL G σ p R0 s m args meth c) (hS : Scr G σ a N S) (hi : i + 6 ≤ N) (hk : k + 25 ≤ 601024) (hn : n + 9146 ≤ 7293034) (R : Rel (sh, I, J)) (nx : ∀ M2 : Mm, Rel M2 → Jz G σ p l e R0 s m args below meth c 7 601024 7293034 Q M2 (k + 25) (n + 9146) 1584 (LV G a i) []) : Jz G σ p l e R0 s m args below meth c 7 601024 7293034 Q (sh, I, J) k n 790 (LV G a i) [] := by
  obtain ⟨x, q1, q2⟩ := op_sales R 
  exact lw_sales hC C hS hi (kd9 R) (kd10 R I J) hk hn q1 q2 (nx _ (R.rdN 0))
theorem lt_sold (hC : Cy G σ) (hT : Zt G σ) (htr : ∀ e : Env, l.admits e → e.platform.stackTraces = false) (C : BxL G σ p R0 s m args meth c) (hS : Scr G σ a N S) (hi : i + 6 ≤ N) (hk : k + 25 ≤ 601024) (hn : n + 9146 ≤ 7293034) (R : Rel (sh, I, J)) (nx : ∀ M2 : Mm, Rel M2 → Jz G σ p l e R0 s m args below meth c 7 601024 7293034 Q M2 (k + 25) (n + 9146) 1584 (LV G a i) []) : Jz G σ p l e R0 s m args below meth c 7 601024 7293034 Q (sh, I, J) k n 803 (LV G a i) [] := by
  obtain ⟨r, q1, q2⟩ := op_sold R (S (i + 1)) (S (i + 2))
  cases r with
  | inl x0 =>
    obtain ⟨x, I2, p1, p2, p3⟩ := q2 sh I (wj J 80 0 x0) (R.out x0) rfl
    rcases p3 with ⟨e1, g⟩ | ⟨e1, g⟩
    · have e2 : x = x0 := (Sum.inl.inj e1).symm
      subst e2
      exact lw_sold_r hC hT htr C hS hi (kd9 R) (ka80 R) (kd10 R I _) (kd10 p2 I2 _) hk hn q1 p1 (thr0 p2 g) (fun gx => aj80 p2 gx) (nx _ p2)
    · cases e1
  | inr u =>
    cases u
    obtain ⟨x, I2, p1, p2, p3⟩ := q2 (nsh sh 11 0) (zi I sh.1) (zj J sh.1) (R.exc 11) (exc59 R)
    rcases p3 with ⟨e1, g⟩ | ⟨e1, g⟩
    · cases e1
    · exact lw_sold_t hC hT htr C hS hi (kd9 R) (ka80 R) (kd10 (R.exc 11) _ _) (kd10 p2 I2 _) hk hn q1 p1 (thr0 p2 g) (nx _ p2)
theorem lt_payment (hC : Cy G σ) (hT : Zt G σ) (htr : ∀ e : Env, l.admits e → e.platform.stackTraces = false) (C : BxL G σ p R0 s m args meth c) (hS : Scr G σ a N S) (hi : i + 6 ≤ N) (hk : k + 25 ≤ 601024) (hn : n + 9146 ≤ 7293034) (R : Rel (sh, I, J)) (nx : ∀ M2 : Mm, Rel M2 → Jz G σ p l e R0 s m args below meth c 7 601024 7293034 Q M2 (k + 25) (n + 9146) 1584 (LV G a i) []) : Jz G σ p l e R0 s m args below meth c 7 601024 7293034 Q (sh, I, J) k n 871 (LV G a i) [] := by
  obtain ⟨x, sh1, I1, J1, I2, q1, q2, q3⟩ := op_payment R (S (i + 1)) (S (i + 2)) (S (i + 3)) (S (i + 4))
  exact lw_payment hC C hS hi (kd9 R) (kd10 q3 I1 J1) hk hn q1 q2 (nx _ q3)
theorem lt_paid (hC : Cy G σ) (hT : Zt G σ) (htr : ∀ e : Env, l.admits e → e.platform.stackTraces = false) (C : BxL G σ p R0 s m args meth c) (hS : Scr G σ a N S) (hi : i + 6 ≤ N) (hk : k + 25 ≤ 601024) (hn : n + 9146 ≤ 7293034) (R : Rel (sh, I, J)) (nx : ∀ M2 : Mm, Rel M2 → Jz G σ p l e R0 s m args below meth c 7 601024 7293034 Q M2 (k + 25) (n + 9146) 1584 (LV G a i) []) : Jz G σ p l e R0 s m args below meth c 7 601024 7293034 Q (sh, I, J) k n 932 (LV G a i) [] := by
  obtain ⟨x, q1, q2⟩ := op_paid R (S (i + 1))
  exact lw_paid hC C hS hi (kd9 R) (kd10 R I J) hk hn q1 q2 (nx _ (R.rdN 0))
theorem lt_buy (hC : Cy G σ) (hT : Zt G σ) (htr : ∀ e : Env, l.admits e → e.platform.stackTraces = false) (C : BxL G σ p R0 s m args meth c) (hS : Scr G σ a N S) (hi : i + 6 ≤ N) (hk : k + 25 ≤ 601024) (hn : n + 9146 ≤ 7293034) (R : Rel (sh, I, J)) (nx : ∀ M2 : Mm, Rel M2 → Jz G σ p l e R0 s m args below meth c 7 601024 7293034 Q M2 (k + 25) (n + 9146) 1584 (LV G a i) []) : Jz G σ p l e R0 s m args below meth c 7 601024 7293034 Q (sh, I, J) k n 957 (LV G a i) [] := by
  obtain ⟨x, sh1, I1, J1, I2, q1, q2, q3⟩ := op_buy R (S (i + 1)) (S (i + 2)) (S (i + 3)) (S (i + 4))
  exact lw_buy hC C hS hi (kd9 R) (kd10 q3 I1 J1) hk hn q1 q2 (nx _ q3)
theorem lt_steal (hC : Cy G σ) (hT : Zt G σ) (htr : ∀ e : Env, l.admits e → e.platform.stackTraces = false) (C : BxL G σ p R0 s m args meth c) (hS : Scr G σ a N S) (hi : i + 6 ≤ N) (hk : k + 25 ≤ 601024) (hn : n + 9146 ≤ 7293034) (R : Rel (sh, I, J)) (nx : ∀ M2 : Mm, Rel M2 → Jz G σ p l e R0 s m args below meth c 7 601024 7293034 Q M2 (k + 25) (n + 9146) 1584 (LV G a i) []) : Jz G σ p l e R0 s m args below meth c 7 601024 7293034 Q (sh, I, J) k n 1018 (LV G a i) [] := by
  obtain ⟨x, sh1, I1, J1, I2, q1, q2, q3⟩ := op_steal R (S (i + 1)) (S (i + 2))
  exact lw_steal hC C hS hi (kd9 R) (kd10 q3 I1 J1) hk hn q1 q2 (nx _ q3)
theorem lt_forge (hC : Cy G σ) (hT : Zt G σ) (htr : ∀ e : Env, l.admits e → e.platform.stackTraces = false) (C : BxL G σ p R0 s m args meth c) (hS : Scr G σ a N S) (hi : i + 6 ≤ N) (hk : k + 25 ≤ 601024) (hn : n + 9146 ≤ 7293034) (R : Rel (sh, I, J)) (nx : ∀ M2 : Mm, Rel M2 → Jz G σ p l e R0 s m args below meth c 7 601024 7293034 Q M2 (k + 25) (n + 9146) 1584 (LV G a i) []) : Jz G σ p l e R0 s m args below meth c 7 601024 7293034 Q (sh, I, J) k n 1055 (LV G a i) [] := by
  obtain ⟨x, sh1, I1, J1, I2, q1, q2, q3⟩ := op_forge R (S (i + 1)) (S (i + 2))
  exact lw_forge hC C hS hi (kd9 R) (kd10 q3 I1 J1) hk hn q1 q2 (nx _ q3)
theorem lt_day (hC : Cy G σ) (hT : Zt G σ) (htr : ∀ e : Env, l.admits e → e.platform.stackTraces = false) (C : BxL G σ p R0 s m args meth c) (hS : Scr G σ a N S) (hi : i + 6 ≤ N) (hk : k + 25 ≤ 601024) (hn : n + 9146 ≤ 7293034) (R : Rel (sh, I, J)) (nx : ∀ M2 : Mm, Rel M2 → Jz G σ p l e R0 s m args below meth c 7 601024 7293034 Q M2 (k + 25) (n + 9146) 1584 (LV G a i) []) : Jz G σ p l e R0 s m args below meth c 7 601024 7293034 Q (sh, I, J) k n 1092 (LV G a i) [] := by
  obtain ⟨x, sh1, I1, J1, I2, q1, q2, q3⟩ := op_day R 
  exact lw_day hC C hS hi (kd9 R) (kd10 q3 I1 J1) hk hn q1 q2 (nx _ q3)
theorem lt_rob (hC : Cy G σ) (hT : Zt G σ) (htr : ∀ e : Env, l.admits e → e.platform.stackTraces = false) (C : BxL G σ p R0 s m args meth c) (hS : Scr G σ a N S) (hi : i + 6 ≤ N) (hk : k + 25 ≤ 601024) (hn : n + 9146 ≤ 7293034) (R : Rel (sh, I, J)) (nx : ∀ M2 : Mm, Rel M2 → Jz G σ p l e R0 s m args below meth c 7 601024 7293034 Q M2 (k + 25) (n + 9146) 1584 (LV G a i) []) : Jz G σ p l e R0 s m args below meth c 7 601024 7293034 Q (sh, I, J) k n 1105 (LV G a i) [] := by
  obtain ⟨x, sh1, I1, J1, I2, q1, q2, q3⟩ := op_rob R (S (i + 1)) (S (i + 2))
  exact lw_rob hC C hS hi (kd9 R) (kd10 q3 I1 J1) hk hn q1 q2 (nx _ q3)
theorem lt_dies (hC : Cy G σ) (hT : Zt G σ) (htr : ∀ e : Env, l.admits e → e.platform.stackTraces = false) (C : BxL G σ p R0 s m args meth c) (hS : Scr G σ a N S) (hi : i + 6 ≤ N) (hk : k + 25 ≤ 601024) (hn : n + 9146 ≤ 7293034) (R : Rel (sh, I, J)) (nx : ∀ M2 : Mm, Rel M2 → Jz G σ p l e R0 s m args below meth c 7 601024 7293034 Q M2 (k + 25) (n + 9146) 1584 (LV G a i) []) : Jz G σ p l e R0 s m args below meth c 7 601024 7293034 Q (sh, I, J) k n 1142 (LV G a i) [] := by
  obtain ⟨x, sh1, I1, J1, I2, q1, q2, q3⟩ := op_dies R (S (i + 1)) (S (i + 2))
  exact lw_dies hC C hS hi (kd9 R) (kd10 q3 I1 J1) hk hn q1 q2 (nx _ q3)
theorem lt_close (hC : Cy G σ) (hT : Zt G σ) (htr : ∀ e : Env, l.admits e → e.platform.stackTraces = false) (C : BxL G σ p R0 s m args meth c) (hS : Scr G σ a N S) (hi : i + 6 ≤ N) (hk : k + 25 ≤ 601024) (hn : n + 9146 ≤ 7293034) (R : Rel (sh, I, J)) (nx : ∀ M2 : Mm, Rel M2 → Jz G σ p l e R0 s m args below meth c 7 601024 7293034 Q M2 (k + 25) (n + 9146) 1584 (LV G a i) []) : Jz G σ p l e R0 s m args below meth c 7 601024 7293034 Q (sh, I, J) k n 1179 (LV G a i) [] := by
  obtain ⟨x, sh1, I1, J1, I2, q1, q2, q3⟩ := op_close R (S (i + 1))
  exact lw_close hC C hS hi (kd9 R) (kd10 q3 I1 J1) hk hn q1 q2 (nx _ q3)
theorem lt_strokes (hC : Cy G σ) (hT : Zt G σ) (htr : ∀ e : Env, l.admits e → e.platform.stackTraces = false) (C : BxL G σ p R0 s m args meth c) (hS : Scr G σ a N S) (hi : i + 6 ≤ N) (hk : k + 25 ≤ 601024) (hn : n + 9146 ≤ 7293034) (R : Rel (sh, I, J)) (nx : ∀ M2 : Mm, Rel M2 → Jz G σ p l e R0 s m args below meth c 7 601024 7293034 Q M2 (k + 25) (n + 9146) 1584 (LV G a i) []) : Jz G σ p l e R0 s m args below meth c 7 601024 7293034 Q (sh, I, J) k n 1204 (LV G a i) [] := by
  obtain ⟨x, q1, q2⟩ := op_strokes R 
  exact lw_strokes hC C hS hi (kd9 R) (kd10 R I J) hk hn q1 q2 (nx _ (R.rdN 0))
theorem lt_stroke (hC : Cy G σ) (hT : Zt G σ) (htr : ∀ e : Env, l.admits e → e.platform.stackTraces = false) (C : BxL G σ p R0 s m args meth c) (hS : Scr G σ a N S) (hi : i + 6 ≤ N) (hk : k + 25 ≤ 601024) (hn : n + 9146 ≤ 7293034) (R : Rel (sh, I, J)) (nx : ∀ M2 : Mm, Rel M2 → Jz G σ p l e R0 s m args below meth c 7 601024 7293034 Q M2 (k + 25) (n + 9146) 1584 (LV G a i) []) : Jz G σ p l e R0 s m args below meth c 7 601024 7293034 Q (sh, I, J) k n 1217 (LV G a i) [] := by
  obtain ⟨r, q1, q2⟩ := op_stroke R (S (i + 1)) (S (i + 2))
  cases r with
  | inl x0 =>
    obtain ⟨x, I2, p1, p2, p3⟩ := q2 sh I (wj J 80 0 x0) (R.out x0) rfl
    rcases p3 with ⟨e1, g⟩ | ⟨e1, g⟩
    · have e2 : x = x0 := (Sum.inl.inj e1).symm
      subst e2
      exact lw_stroke_r hC hT htr C hS hi (kd9 R) (ka80 R) (kd10 R I _) (kd10 p2 I2 _) hk hn q1 p1 (thr0 p2 g) (fun gx => aj80 p2 gx) (nx _ p2)
    · cases e1
  | inr u =>
    cases u
    obtain ⟨x, I2, p1, p2, p3⟩ := q2 (nsh sh 11 0) (zi I sh.1) (zj J sh.1) (R.exc 11) (exc59 R)
    rcases p3 with ⟨e1, g⟩ | ⟨e1, g⟩
    · cases e1
    · exact lw_stroke_t hC hT htr C hS hi (kd9 R) (ka80 R) (kd10 (R.exc 11) _ _) (kd10 p2 I2 _) hk hn q1 p1 (thr0 p2 g) (nx _ p2)
theorem lt_foreign (hC : Cy G σ) (hT : Zt G σ) (htr : ∀ e : Env, l.admits e → e.platform.stackTraces = false) (C : BxL G σ p R0 s m args meth c) (hS : Scr G σ a N S) (hi : i + 6 ≤ N) (hk : k + 25 ≤ 601024) (hn : n + 9146 ≤ 7293034) (R : Rel (sh, I, J)) (nx : ∀ M2 : Mm, Rel M2 → Jz G σ p l e R0 s m args below meth c 7 601024 7293034 Q M2 (k + 25) (n + 9146) 1584 (LV G a i) []) : Jz G σ p l e R0 s m args below meth c 7 601024 7293034 Q (sh, I, J) k n 1285 (LV G a i) [] := by
  obtain ⟨x, q1, q2⟩ := op_foreign R (S (i + 1))
  exact lw_foreign hC C hS hi (kd9 R) (kd10 R I J) hk hn q1 q2 (nx _ (R.rd 0))
theorem lt_silver (hC : Cy G σ) (hT : Zt G σ) (htr : ∀ e : Env, l.admits e → e.platform.stackTraces = false) (C : BxL G σ p R0 s m args meth c) (hS : Scr G σ a N S) (hi : i + 6 ≤ N) (hk : k + 25 ≤ 601024) (hn : n + 9146 ≤ 7293034) (R : Rel (sh, I, J)) (nx : ∀ M2 : Mm, Rel M2 → Jz G σ p l e R0 s m args below meth c 7 601024 7293034 Q M2 (k + 25) (n + 9146) 1584 (LV G a i) []) : Jz G σ p l e R0 s m args below meth c 7 601024 7293034 Q (sh, I, J) k n 1310 (LV G a i) [] := by
  obtain ⟨x, q1, q2⟩ := op_silver R (S (i + 1))
  exact lw_silver hC C hS hi (kd9 R) (kd10 R I J) hk hn q1 q2 (nx _ (R.rd 0))
theorem lt_rows (hC : Cy G σ) (hT : Zt G σ) (htr : ∀ e : Env, l.admits e → e.platform.stackTraces = false) (C : BxL G σ p R0 s m args meth c) (hS : Scr G σ a N S) (hi : i + 6 ≤ N) (hk : k + 25 ≤ 601024) (hn : n + 9146 ≤ 7293034) (R : Rel (sh, I, J)) (nx : ∀ M2 : Mm, Rel M2 → Jz G σ p l e R0 s m args below meth c 7 601024 7293034 Q M2 (k + 25) (n + 9146) 1584 (LV G a i) []) : Jz G σ p l e R0 s m args below meth c 7 601024 7293034 Q (sh, I, J) k n 1335 (LV G a i) [] := by
  obtain ⟨x, I1, I2, q1, q2, q3⟩ := op_rows R (S (i + 1)) (S (i + 2)) (S (i + 3))
  exact lw_rows hC C hS hi (kd9 R) (kd10 q3 I1 J) hk hn q1 q2 (nx _ q3)
theorem lt_could (hC : Cy G σ) (hT : Zt G σ) (htr : ∀ e : Env, l.admits e → e.platform.stackTraces = false) (C : BxL G σ p R0 s m args meth c) (hS : Scr G σ a N S) (hi : i + 6 ≤ N) (hk : k + 25 ≤ 601024) (hn : n + 9146 ≤ 7293034) (R : Rel (sh, I, J)) (nx : ∀ M2 : Mm, Rel M2 → Jz G σ p l e R0 s m args below meth c 7 601024 7293034 Q M2 (k + 25) (n + 9146) 1584 (LV G a i) []) : Jz G σ p l e R0 s m args below meth c 7 601024 7293034 Q (sh, I, J) k n 1384 (LV G a i) [] := by
  obtain ⟨x, q1, q2⟩ := op_could R (S (i + 1)) (S (i + 2))
  exact lw_could hC C hS hi (kd9 R) (kd10 R I J) hk hn q1 q2 (nx _ (R.rdN 0))
theorem lt_market (hC : Cy G σ) (hT : Zt G σ) (htr : ∀ e : Env, l.admits e → e.platform.stackTraces = false) (C : BxL G σ p R0 s m args meth c) (hS : Scr G σ a N S) (hi : i + 6 ≤ N) (hk : k + 25 ≤ 601024) (hn : n + 9146 ≤ 7293034) (R : Rel (sh, I, J)) (nx : ∀ M2 : Mm, Rel M2 → Jz G σ p l e R0 s m args below meth c 7 601024 7293034 Q M2 (k + 25) (n + 9146) 1584 (LV G a i) []) : Jz G σ p l e R0 s m args below meth c 7 601024 7293034 Q (sh, I, J) k n 1421 (LV G a i) [] := by
  obtain ⟨x, sh1, I1, J1, I2, q1, q2, q3⟩ := op_market R (S (i + 1)) (S (i + 2))
  exact lw_market hC C hS hi (kd9 R) (kd10 q3 I1 J1) hk hn q1 q2 (nx _ q3)
theorem lt_undo (hC : Cy G σ) (hT : Zt G σ) (htr : ∀ e : Env, l.admits e → e.platform.stackTraces = false) (C : BxL G σ p R0 s m args meth c) (hS : Scr G σ a N S) (hi : i + 6 ≤ N) (hk : k + 25 ≤ 601024) (hn : n + 9146 ≤ 7293034) (R : Rel (sh, I, J)) (nx : ∀ M2 : Mm, Rel M2 → Jz G σ p l e R0 s m args below meth c 7 601024 7293034 Q M2 (k + 25) (n + 9146) 1584 (LV G a i) []) : Jz G σ p l e R0 s m args below meth c 7 601024 7293034 Q (sh, I, J) k n 1458 (LV G a i) [] := by
  obtain ⟨x, sh1, I1, J1, I2, q1, q2, q3⟩ := op_undo R 
  exact lw_undo hC C hS hi (kd9 R) (kd10 q3 I1 J1) hk hn q1 q2 (nx _ q3)
theorem lt_sentence (hC : Cy G σ) (hT : Zt G σ) (htr : ∀ e : Env, l.admits e → e.platform.stackTraces = false) (C : BxL G σ p R0 s m args meth c) (hS : Scr G σ a N S) (hi : i + 6 ≤ N) (hk : k + 25 ≤ 601024) (hn : n + 9146 ≤ 7293034) (R : Rel (sh, I, J)) (nx : ∀ M2 : Mm, Rel M2 → Jz G σ p l e R0 s m args below meth c 7 601024 7293034 Q M2 (k + 25) (n + 9146) 1584 (LV G a i) []) : Jz G σ p l e R0 s m args below meth c 7 601024 7293034 Q (sh, I, J) k n 1471 (LV G a i) [] := by
  obtain ⟨x, sh1, I1, J1, I2, J2, q1, q2, q3⟩ := op_sentence R 
  exact lw_sentence hC C hS hi (kd9 R) (kd10 q3 I1 J1) hk hn q1 q2 (nx _ q3)
theorem lt_said (hC : Cy G σ) (hT : Zt G σ) (htr : ∀ e : Env, l.admits e → e.platform.stackTraces = false) (C : BxL G σ p R0 s m args meth c) (hS : Scr G σ a N S) (hi : i + 6 ≤ N) (hk : k + 25 ≤ 601024) (hn : n + 9146 ≤ 7293034) (R : Rel (sh, I, J)) (nx : ∀ M2 : Mm, Rel M2 → Jz G σ p l e R0 s m args below meth c 7 601024 7293034 Q M2 (k + 25) (n + 9146) 1584 (LV G a i) []) : Jz G σ p l e R0 s m args below meth c 7 601024 7293034 Q (sh, I, J) k n 1484 (LV G a i) [] := by
  obtain ⟨x, q1, q2⟩ := op_said R (S (i + 1))
  exact lw_said hC C hS hi (kd9 R) (kd10 R I J) hk hn q1 q2 (nx _ (R.rd 0))
theorem lt_image (hC : Cy G σ) (hT : Zt G σ) (htr : ∀ e : Env, l.admits e → e.platform.stackTraces = false) (C : BxL G σ p R0 s m args meth c) (hS : Scr G σ a N S) (hi : i + 6 ≤ N) (hk : k + 25 ≤ 601024) (hn : n + 9146 ≤ 7293034) (R : Rel (sh, I, J)) (nx : ∀ M2 : Mm, Rel M2 → Jz G σ p l e R0 s m args below meth c 7 601024 7293034 Q M2 (k + 25) (n + 9146) 1584 (LV G a i) []) : Jz G σ p l e R0 s m args below meth c 7 601024 7293034 Q (sh, I, J) k n 1509 (LV G a i) [] := by
  obtain ⟨x, sh1, I1, J1, I2, J2, q1, q2, q3⟩ := op_image R (S (i + 1))
  exact lw_image hC C hS hi (kd9 R) (kd10 q3 I1 J1) hk hn q1 q2 (nx _ q3)
theorem lt_restore (hC : Cy G σ) (hT : Zt G σ) (htr : ∀ e : Env, l.admits e → e.platform.stackTraces = false) (C : BxL G σ p R0 s m args meth c) (hS : Scr G σ a N S) (hi : i + 6 ≤ N) (hk : k + 25 ≤ 601024) (hn : n + 9146 ≤ 7293034) (R : Rel (sh, I, J)) (nx : ∀ M2 : Mm, Rel M2 → Jz G σ p l e R0 s m args below meth c 7 601024 7293034 Q M2 (k + 25) (n + 9146) 1584 (LV G a i) []) : Jz G σ p l e R0 s m args below meth c 7 601024 7293034 Q (sh, I, J) k n 1534 (LV G a i) [] := by
  obtain ⟨x, sh1, I1, J1, I2, J2, q1, q2, q3⟩ := op_restore R (S (i + 1))
  exact lw_restore hC C hS hi (kd9 R) (kd10 q3 I1 J1) hk hn q1 q2 (nx _ q3)
theorem lt_count (hC : Cy G σ) (hT : Zt G σ) (htr : ∀ e : Env, l.admits e → e.platform.stackTraces = false) (C : BxL G σ p R0 s m args meth c) (hS : Scr G σ a N S) (hi : i + 6 ≤ N) (hk : k + 25 ≤ 601024) (hn : n + 9146 ≤ 7293034) (R : Rel (sh, I, J)) (nx : ∀ M2 : Mm, Rel M2 → Jz G σ p l e R0 s m args below meth c 7 601024 7293034 Q M2 (k + 25) (n + 9146) 1584 (LV G a i) []) : Jz G σ p l e R0 s m args below meth c 7 601024 7293034 Q (sh, I, J) k n 1559 (LV G a i) [] := by
  obtain ⟨x, q1, q2⟩ := op_count R (S (i + 1))
  exact lw_count hC C hS hi (kd9 R) (kd10 R I J) hk hn q1 q2 (nx _ (R.rd 0))
theorem lw_turn (hC : Cy G σ) (hT : Zt G σ) (htr : ∀ e : Env, l.admits e → e.platform.stackTraces = false) (C : BxL G σ p R0 s m args meth c) (hS : Scr G σ a N S) (hi : i + 6 ≤ N) (hk : k + 25 ≤ 601024) (hn : n + 9146 ≤ 7293034) (R : Rel (sh, I, J)) (nx : ∀ M2 : Mm, Rel M2 → Jz G σ p l e R0 s m args below meth c 7 601024 7293034 Q M2 (k + 25) (n + 9146) 1584 (LV G a i) []) : Jz G σ p l e R0 s m args below meth c 7 601024 7293034 Q (sh, I, J) k n 33 (LV G a i) [] :=
  lw_sw C hS hi (y_widen (by omega) (by omega) (nx _ R)) (lt_feed hC hT htr C hS hi hk hn R nx) (lt_end hC hT htr C hS hi hk hn R nx) (lt_law hC hT htr C hS hi hk hn R nx) (lt_fault hC hT htr C hS hi hk hn R nx) (lt_who hC hT htr C hS hi hk hn R nx) (lt_mint hC hT htr C hS hi hk hn R nx) (lt_coin hC hT htr C hS hi hk hn R nx) (lt_of hC hT htr C hS hi hk hn R nx) (lt_face hC hT htr C hS hi hk hn R nx) (lt_value hC hT htr C hS hi hk hn R nx) (lt_luck hC hT htr C hS hi hk hn R nx) (lt_bears hC hT htr C hS hi hk hn R nx) (lt_sale hC hT htr C hS hi hk hn R nx) (lt_sales hC hT htr C hS hi hk hn R nx) (lt_sold hC hT htr C hS hi hk hn R nx) (lt_payment hC hT htr C hS hi hk hn R nx) (lt_paid hC hT htr C hS hi hk hn R nx) (lt_buy hC hT htr C hS hi hk hn R nx) (lt_steal hC hT htr C hS hi hk hn R nx) (lt_forge hC hT htr C hS hi hk hn R nx) (lt_day hC hT htr C hS hi hk hn R nx) (lt_rob hC hT htr C hS hi hk hn R nx) (lt_dies hC hT htr C hS hi hk hn R nx) (lt_close hC hT htr C hS hi hk hn R nx) (lt_strokes hC hT htr C hS hi hk hn R nx) (lt_stroke hC hT htr C hS hi hk hn R nx) (lt_foreign hC hT htr C hS hi hk hn R nx) (lt_silver hC hT htr C hS hi hk hn R nx) (lt_rows hC hT htr C hS hi hk hn R nx) (lt_could hC hT htr C hS hi hk hn R nx) (lt_market hC hT htr C hS hi hk hn R nx) (lt_undo hC hT htr C hS hi hk hn R nx) (lt_sentence hC hT htr C hS hi hk hn R nx) (lt_said hC hT htr C hS hi hk hn R nx) (lt_image hC hT htr C hS hi hk hn R nx) (lt_restore hC hT htr C hS hi hk hn R nx) (lt_count hC hT htr C hS hi hk hn R nx)
end TURN
