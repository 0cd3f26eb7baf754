abbrev QL1 : Option Value → Mm → Prop := fun v _ => v = some (.int (iv 1))
def M00 : Mm := ((0, fun _ => 0, fun _ => 0, fun _ _ => none), fun _ _ => 0, fun _ _ => 0)
section LOOP
variable {G : Gx} {σ : State} {p : Program} {l : Launch} {e : Env} {R0 : Room} {s : State} {m : MethodId} {args : Array Value} {below : List Frame} {meth : Method} {c : Code} {a N : Nat} {S : Nat → Int}
theorem lw_loop (hC : Cy G σ) (hT : Zt G σ) (htr : ∀ e : Env, l.admits e → e.platform.stackTraces = false) (C : BxL G σ p R0 s m args meth c) (hS : Scr G σ a N S) (hN : N ≤ 3072) : ∀ (r i : Nat) (M : Mm) (k n : Nat), N ≤ i + r → i ≤ N → Rel M → 6 * k ≤ 6 * 81 + 25 * i → 6 * n ≤ 6 * 109635 + 9146 * i → Jz G σ p l e R0 s m args below meth c 7 601024 7293034 QL1 M k n 23 (LV G a i) [] := by
  intro r
  induction r with
  | zero =>
    intro i M k n h1 h2 R hk hn
    exact lw_head C hS hN (by omega) (by omega) (by omega) rfl (fun h => absurd h (by omega))
  | succ r ih =>
    intro i M k n h1 h2 R hk hn
    refine lw_head C hS hN (by omega) (by omega) (by omega) rfl (fun hi => ?_)
    obtain ⟨sh, I, J⟩ := M
    exact lw_turn hC hT htr C hS hi (by omega) (by omega) R (fun M2 R2 => lw_next C (ih (i + 6) M2 (k + 25) (n + 9146) (by omega) (by omega) R2 (by omega) (by omega)))
theorem lw_begin (hC : Cy G σ) (hT : Zt G σ) (htr : ∀ e : Env, l.admits e → e.platform.stackTraces = false) (C : BxL G σ p R0 s m args meth c) (hS : Scr G σ a N S) (hN : N ≤ 3072) : Jz G σ p l e R0 s m args below meth c 7 601024 7293034 QL1 M00 0 0 0 [(0, .ref a)] [] := by
  obtain ⟨M1, M2, e1, e2, e3, e4, R⟩ := ini_rel (M0 := M00) rfl
  refine y_new C dL_law_0 clX9 defX9 nL_8 ins_X9 ini_X9 (by omega) (by omega) ?_
  refine z_dup C dL_law_3 rfl ?_
  refine y_cIva (id := 0) (st := [.ref (G.2.2 + 0)]) (As := []) C dL_law_4 mL_27 (tX9_init hC 0 e1) rfl rfl (Nat.le_of_ble_eq_true rfl) (by decide) ?_
  refine z_astore_n (i := 1) (lv' := [(0, .ref a), (1, .ref (G.2.2 + 0))]) C dL_law_7 rfl (by decide) [1, 0] rfl ?_
  refine y_new C dL_law_8 clX10 defX10 nL_28 ins_X10 ini_X10 (by omega) (by omega) ?_
  rw [e2]
  refine z_dup C dL_law_11 rfl ?_
  refine y_cIva (id := 57) (st := [.ref (G.2.2 + 57)]) (As := []) C dL_law_12 mL_30 (tX10_init hC 57 e3) rfl rfl (Nat.le_of_ble_eq_true rfl) (by decide) ?_
  refine z_astore_n (i := 2) (lv' := [(0, .ref a), (1, .ref (G.2.2 + 0)), (2, .ref (G.2.2 + 57))]) C dL_law_15 rfl (by decide) [1, 2, 0] rfl ?_
  refine z_iconst C dL_law_16 ?_
  refine y_newJ 1 C dL_law_17 rfl (by decide) (by omega) (by omega) ?_
  rw [e4]
  refine z_astore_n (i := 3) (lv' := [(0, .ref a), (1, .ref (G.2.2 + 0)), (2, .ref (G.2.2 + 57)), (3, .ref (G.2.2 + 80))]) C dL_law_19 rfl (by decide) [1, 2, 3, 0] rfl ?_
  refine z_iconst C dL_law_20 ?_
  refine z_istore (lv' := LV G a ((0 : Nat) : Int)) C dL_law_21 (by decide) [1, 2, 3, 4, 0] rfl ?_
  exact lw_loop hC hT htr C hS hN N 0 _ _ _ (by omega) (by omega) R (by omega) (by omega)
end LOOP
