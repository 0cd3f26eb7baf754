abbrev BxL (G : Gx) (σ : State) (p : Program) (R0 : Room) (s : State) (m : MethodId) (args : Array Value) (meth : Method) (c : Code) : Prop := Bx G σ p R0 s m args meth c yL_law cL_law 7 (some .boolean) 1312 601024 7293034
/-- the law's locals -/
abbrev LV (G : Gx) (a : Nat) (i : Int) : List (Nat × Value) := [(0, .ref a), (1, .ref (G.2.2 + 0)), (2, .ref (G.2.2 + 57)), (3, .ref (G.2.2 + 80)), (4, .int (iv i))]
abbrev LW (G : Gx) (a : Nat) (i t : Int) : List (Nat × Value) := [(0, .ref a), (1, .ref (G.2.2 + 0)), (2, .ref (G.2.2 + 57)), (3, .ref (G.2.2 + 80)), (4, .int (iv i)), (5, .int (iv t))]
abbrev LX (G : Gx) (a : Nat) (i t x : Int) : List (Nat × Value) := [(0, .ref a), (1, .ref (G.2.2 + 0)), (2, .ref (G.2.2 + 57)), (3, .ref (G.2.2 + 80)), (4, .int (iv i)), (5, .int (iv t)), (6, .int (iv x))]
section LAW
variable {G : Gx} {σ : State} {p : Program} {l : Launch} {e : Env} {R0 : Room} {s : State} {m : MethodId} {args : Array Value} {below : List Frame} {meth : Method} {c : Code} {Q : Option Value → Mm → Prop} {M M1 M2 : Mm} {k n a N i : Nat} {S : Nat → Int} {x : Int}
/-- an argument out of the script -/
theorem x_arg {pc j : Nat} {jI : Int} {lv : List (Nat × Value)} {st : List Value} (C : BxL G σ p R0 s m args meth c) (h0 : decode cL_law pc = .ok (.aload_n 0, 1)) (h1 : decode cL_law (pc + 1) = .ok (.iload 4, 2)) (h2 : decode cL_law (pc + 1 + 2) = .ok (.iconst jI, 1)) (h3 : decode cL_law (pc + 1 + 2 + 1) = .ok (.iadd, 1)) (h4 : decode cL_law (pc + 1 + 2 + 1 + 1) = .ok (.iaload, 1)) (hl0 : lv[0]? = some (0, .ref a)) (hl4 : lv[4]? = some (4, .int (iv (i : Int)))) (hS : Scr G σ a N S) (hi : i + 6 ≤ N) (hj : jI = (j : Int)) (h5 : j ≤ 5) (kk : Jz G σ p l e R0 s m args below meth c 7 601024 7293034 Q M k n (pc + 6) lv (.int (iv (S (i + j))) :: st)) : Jz G σ p l e R0 s m args below meth c 7 601024 7293034 Q M k n pc lv st := by
  refine z_aload_n C h0 0 hl0 ?_
  refine z_iload C h1 4 hl4 ?_
  refine z_iconst C h2 ?_
  refine z_iadd C h3 ?_
  refine x_iald C h4 hS (by omega) (by omega) (fun _ => ?_)
  have e : ((i : Int) + jI).toNat = i + j := by omega
  rw [e]; exact kk
/-- the loop's head -/
theorem lw_head (C : BxL G σ p R0 s m args meth c) (hS : Scr G σ a N S) (hN : N ≤ 3072) (hiN : i ≤ N + 6) (hk : k ≤ 601024) (hn : n ≤ 7293034) (hQ : Q (some (.int (iv 1))) M) (kk : i + 6 ≤ N → Jz G σ p l e R0 s m args below meth c 7 601024 7293034 Q M k n 33 (LV G a i) []) : Jz G σ p l e R0 s m args below meth c 7 601024 7293034 Q M k n 23 (LV G a i) [] := by
  refine z_iload C dL_law_23 4 rfl ?_
  refine z_aload_n C dL_law_25 0 rfl ?_
  refine x_slen C dL_law_26 hS ?_
  refine z_bipush C dL_law_27 (by decide) ?_
  refine z_isub C dL_law_29 ?_
  refine z_icmp_gt 1590 C dL_law_30 (by decide) (by omega) (by omega) (fun h => ?_) (fun h => kk (by omega))
  refine z_iconst C dL_law_1590 ?_
  exact z_zreturn C dL_law_1591 (nar01 (.inr rfl)) hk hn hQ
/-- which case -/
theorem lw_sw (C : BxL G σ p R0 s m args meth c) (hS : Scr G σ a N S) (hi : i + 6 ≤ N) (kd : Jz G σ p l e R0 s m args below meth c 7 601024 7293034 Q M k n 1584 (LV G a i) []) (k0 : Jz G σ p l e R0 s m args below meth c 7 601024 7293034 Q M k n 204 (LV G a i) []) (k1 : Jz G σ p l e R0 s m args below meth c 7 601024 7293034 Q M k n 277 (LV G a i) []) (k2 : Jz G σ p l e R0 s m args below meth c 7 601024 7293034 Q M k n 302 (LV G a i) []) (k3 : Jz G σ p l e R0 s m args below meth c 7 601024 7293034 Q M k n 315 (LV G a i) []) (k4 : Jz G σ p l e R0 s m args below meth c 7 601024 7293034 Q M k n 328 (LV G a i) []) (k5 : Jz G σ p l e R0 s m args below meth c 7 601024 7293034 Q M k n 396 (LV G a i) []) (k6 : Jz G σ p l e R0 s m args below meth c 7 601024 7293034 Q M k n 464 (LV G a i) []) (k7 : Jz G σ p l e R0 s m args below meth c 7 601024 7293034 Q M k n 513 (LV G a i) []) (k8 : Jz G σ p l e R0 s m args below meth c 7 601024 7293034 Q M k n 581 (LV G a i) []) (k9 : Jz G σ p l e R0 s m args below meth c 7 601024 7293034 Q M k n 630 (LV G a i) []) (k10 : Jz G σ p l e R0 s m args below meth c 7 601024 7293034 Q M k n 679 (LV G a i) []) (k11 : Jz G σ p l e R0 s m args below meth c 7 601024 7293034 Q M k n 692 (LV G a i) []) (k12 : Jz G σ p l e R0 s m args below meth c 7 601024 7293034 Q M k n 729 (LV G a i) []) (k13 : Jz G σ p l e R0 s m args below meth c 7 601024 7293034 Q M k n 790 (LV G a i) []) (k14 : Jz G σ p l e R0 s m args below meth c 7 601024 7293034 Q M k n 803 (LV G a i) []) (k15 : Jz G σ p l e R0 s m args below meth c 7 601024 7293034 Q M k n 871 (LV G a i) []) (k16 : Jz G σ p l e R0 s m args below meth c 7 601024 7293034 Q M k n 932 (LV G a i) []) (k17 : Jz G σ p l e R0 s m args below meth c 7 601024 7293034 Q M k n 957 (LV G a i) []) (k18 : Jz G σ p l e R0 s m args below meth c 7 601024 7293034 Q M k n 1018 (LV G a i) []) (k19 : Jz G σ p l e R0 s m args below meth c 7 601024 7293034 Q M k n 1055 (LV G a i) []) (k20 : Jz G σ p l e R0 s m args below meth c 7 601024 7293034 Q M k n 1092 (LV G a i) []) (k21 : Jz G σ p l e R0 s m args below meth c 7 601024 7293034 Q M k n 1105 (LV G a i) []) (k22 : Jz G σ p l e R0 s m args below meth c 7 601024 7293034 Q M k n 1142 (LV G a i) []) (k23 : Jz G σ p l e R0 s m args below meth c 7 601024 7293034 Q M k n 1179 (LV G a i) []) (k24 : Jz G σ p l e R0 s m args below meth c 7 601024 7293034 Q M k n 1204 (LV G a i) []) (k25 : Jz G σ p l e R0 s m args below meth c 7 601024 7293034 Q M k n 1217 (LV G a i) []) (k26 : Jz G σ p l e R0 s m args below meth c 7 601024 7293034 Q M k n 1285 (LV G a i) []) (k27 : Jz G σ p l e R0 s m args below meth c 7 601024 7293034 Q M k n 1310 (LV G a i) []) (k28 : Jz G σ p l e R0 s m args below meth c 7 601024 7293034 Q M k n 1335 (LV G a i) []) (k29 : Jz G σ p l e R0 s m args below meth c 7 601024 7293034 Q M k n 1384 (LV G a i) []) (k30 : Jz G σ p l e R0 s m args below meth c 7 601024 7293034 Q M k n 1421 (LV G a i) []) (k31 : Jz G σ p l e R0 s m args below meth c 7 601024 7293034 Q M k n 1458 (LV G a i) []) (k32 : Jz G σ p l e R0 s m args below meth c 7 601024 7293034 Q M k n 1471 (LV G a i) []) (k33 : Jz G σ p l e R0 s m args below meth c 7 601024 7293034 Q M k n 1484 (LV G a i) []) (k34 : Jz G σ p l e R0 s m args below meth c 7 601024 7293034 Q M k n 1509 (LV G a i) []) (k35 : Jz G σ p l e R0 s m args below meth c 7 601024 7293034 Q M k n 1534 (LV G a i) []) (k36 : Jz G σ p l e R0 s m args below meth c 7 601024 7293034 Q M k n 1559 (LV G a i) []) : Jz G σ p l e R0 s m args below meth c 7 601024 7293034 Q M k n 33 (LV G a i) [] := by
  refine z_aload_n C dL_law_33 0 rfl ?_
  refine z_iload C dL_law_34 4 rfl ?_
  refine x_iald C dL_law_36 hS (by omega) (by omega) (fun _ => ?_)
  refine z_bipush C dL_law_37 (by decide) ?_
  refine z_iand (and32 (S (i : Int).toNat) 63) C dL_law_39 (iv_self _).symm ?_
  have hr := and32_rng (S (i : Int).toNat) 63
  generalize and32 (S (i : Int).toNat) 63 = x at hr
  by_cases h : x < 0 ∨ 36 < x
  · exact z_tableOut 1584 C dL_law_40 hr h (by decide) kd
  · have h0 : ¬ x < 0 := fun q => h (.inl q)
    have h1 : ¬ 36 < x := fun q => h (.inr q)
    rcases (by omega : x = 0 ∨ x = 1 ∨ x = 2 ∨ x = 3 ∨ x = 4 ∨ x = 5 ∨ x = 6 ∨ x = 7 ∨ x = 8 ∨ x = 9 ∨ x = 10 ∨ x = 11 ∨ x = 12 ∨ x = 13 ∨ x = 14 ∨ x = 15 ∨ x = 16 ∨ x = 17 ∨ x = 18 ∨ x = 19 ∨ x = 20 ∨ x = 21 ∨ x = 22 ∨ x = 23 ∨ x = 24 ∨ x = 25 ∨ x = 26 ∨ x = 27 ∨ x = 28 ∨ x = 29 ∨ x = 30 ∨ x = 31 ∨ x = 32 ∨ x = 33 ∨ x = 34 ∨ x = 35 ∨ x = 36) with q | q | q | q | q | q | q | q | q | q | q | q | q | q | q | q | q | q | q | q | q | q | q | q | q | q | q | q | q | q | q | q | q | q | q | q | q
    · subst q; exact z_tableIn (off := 164) 204 C dL_law_40 hr h0 h1 rfl (by decide) k0
    · subst q; exact z_tableIn (off := 237) 277 C dL_law_40 hr h0 h1 rfl (by decide) k1
    · subst q; exact z_tableIn (off := 262) 302 C dL_law_40 hr h0 h1 rfl (by decide) k2
    · subst q; exact z_tableIn (off := 275) 315 C dL_law_40 hr h0 h1 rfl (by decide) k3
    · subst q; exact z_tableIn (off := 288) 328 C dL_law_40 hr h0 h1 rfl (by decide) k4
    · subst q; exact z_tableIn (off := 356) 396 C dL_law_40 hr h0 h1 rfl (by decide) k5
    · subst q; exact z_tableIn (off := 424) 464 C dL_law_40 hr h0 h1 rfl (by decide) k6
    · subst q; exact z_tableIn (off := 473) 513 C dL_law_40 hr h0 h1 rfl (by decide) k7
    · subst q; exact z_tableIn (off := 541) 581 C dL_law_40 hr h0 h1 rfl (by decide) k8
    · subst q; exact z_tableIn (off := 590) 630 C dL_law_40 hr h0 h1 rfl (by decide) k9
    · subst q; exact z_tableIn (off := 639) 679 C dL_law_40 hr h0 h1 rfl (by decide) k10
    · subst q; exact z_tableIn (off := 652) 692 C dL_law_40 hr h0 h1 rfl (by decide) k11
    · subst q; exact z_tableIn (off := 689) 729 C dL_law_40 hr h0 h1 rfl (by decide) k12
    · subst q; exact z_tableIn (off := 750) 790 C dL_law_40 hr h0 h1 rfl (by decide) k13
    · subst q; exact z_tableIn (off := 763) 803 C dL_law_40 hr h0 h1 rfl (by decide) k14
    · subst q; exact z_tableIn (off := 831) 871 C dL_law_40 hr h0 h1 rfl (by decide) k15
    · subst q; exact z_tableIn (off := 892) 932 C dL_law_40 hr h0 h1 rfl (by decide) k16
    · subst q; exact z_tableIn (off := 917) 957 C dL_law_40 hr h0 h1 rfl (by decide) k17
    · subst q; exact z_tableIn (off := 978) 1018 C dL_law_40 hr h0 h1 rfl (by decide) k18
    · subst q; exact z_tableIn (off := 1015) 1055 C dL_law_40 hr h0 h1 rfl (by decide) k19
    · subst q; exact z_tableIn (off := 1052) 1092 C dL_law_40 hr h0 h1 rfl (by decide) k20
    · subst q; exact z_tableIn (off := 1065) 1105 C dL_law_40 hr h0 h1 rfl (by decide) k21
    · subst q; exact z_tableIn (off := 1102) 1142 C dL_law_40 hr h0 h1 rfl (by decide) k22
    · subst q; exact z_tableIn (off := 1139) 1179 C dL_law_40 hr h0 h1 rfl (by decide) k23
    · subst q; exact z_tableIn (off := 1164) 1204 C dL_law_40 hr h0 h1 rfl (by decide) k24
    · subst q; exact z_tableIn (off := 1177) 1217 C dL_law_40 hr h0 h1 rfl (by decide) k25
    · subst q; exact z_tableIn (off := 1245) 1285 C dL_law_40 hr h0 h1 rfl (by decide) k26
    · subst q; exact z_tableIn (off := 1270) 1310 C dL_law_40 hr h0 h1 rfl (by decide) k27
    · subst q; exact z_tableIn (off := 1295) 1335 C dL_law_40 hr h0 h1 rfl (by decide) k28
    · subst q; exact z_tableIn (off := 1344) 1384 C dL_law_40 hr h0 h1 rfl (by decide) k29
    · subst q; exact z_tableIn (off := 1381) 1421 C dL_law_40 hr h0 h1 rfl (by decide) k30
    · subst q; exact z_tableIn (off := 1418) 1458 C dL_law_40 hr h0 h1 rfl (by decide) k31
    · subst q; exact z_tableIn (off := 1431) 1471 C dL_law_40 hr h0 h1 rfl (by decide) k32
    · subst q; exact z_tableIn (off := 1444) 1484 C dL_law_40 hr h0 h1 rfl (by decide) k33
    · subst q; exact z_tableIn (off := 1469) 1509 C dL_law_40 hr h0 h1 rfl (by decide) k34
    · subst q; exact z_tableIn (off := 1494) 1534 C dL_law_40 hr h0 h1 rfl (by decide) k35
    · subst q; exact z_tableIn (off := 1519) 1559 C dL_law_40 hr h0 h1 rfl (by decide) k36
/-- one turn is through -/
theorem lw_next (C : BxL G σ p R0 s m args meth c) (kk : Jz G σ p l e R0 s m args below meth c 7 601024 7293034 Q M k n 23 (LV G a ((i + 6 : Nat) : Int)) []) : Jz G σ p l e R0 s m args below meth c 7 601024 7293034 Q M k n 1584 (LV G a i) [] := by
  have e : ((i + 6 : Nat) : Int) = (i : Int) + 6 := by omega
  rw [e] at kk
  refine z_iinc (lv' := LV G a ((i : Int) + 6)) C dL_law_1584 4 rfl (by decide) [1, 2, 3, 4, 0] rfl ?_
  exact z_goto 23 C dL_law_1587 (by decide) kk
end LAW
