def cmpv (y v z : Int) : Int := if y = 5 then (if z ≤ v then 0 else 1) else if y = 7 then (if v ≤ z then 0 else 1) else if v = z then 1 else 0
def lfv (S : Int → Int) (c : Int) (a : Int × Int × Int) : Int :=
  if a.1 = 22 then (if fa S c 0 0 = a.2.2 then 1 else 0)
  else if a.1 = 23 then (if anyB (fun i => fa S c i 0 == a.2.2) (oc S c 3).toNat = true then 1 else 0)
  else if a.1 = 24 then (if oc S c 1 = a.2.2 then 1 else 0)
  else if a.1 = 25 then (if anyB (fun i => sk S (fa S c i 2) 5 == 1) (oc S c 3).toNat = true then 1 else 0)
  else if a.1 = 26 then cmpv a.2.1 (oc S c 0) a.2.2 else if a.1 = 27 then cmpv a.2.1 (oc S c 3) a.2.2 else cmpv a.2.1 (oc S c 2) a.2.2
theorem cmpv_01 (y v z : Int) : cmpv y v z = 0 ∨ cmpv y v z = 1 := by unfold cmpv; grind
theorem lfv_01 (S : Int → Int) (c : Int) (a : Int × Int × Int) : lfv S c a = 0 ∨ lfv S c a = 1 := by
  unfold lfv
  have q := fun v => cmpv_01 a.2.1 v a.2.2
  repeat' split
  all_goals first | exact .inl rfl | exact .inr rfl | exact q _
theorem c_compares {sh : Sh} (h : St sh) (I : Mi) (J : Mj) {i v : Int} (h1 : 0 ≤ i) (h2 : i < 40) : uX5_compares 37 v i (sh, I, J) = some (cmpv (ri I 39 i) v (ri I 40 i)) := by
  unfold cmpv
  simp (disch := omega) only [uX5_compares, SEg h, SEr h, SEa h, SEk h, SEj h, SEl h, SEp h, SEs h, bd_some, bd2_some]
  grind
theorem c_stepHolds {sh : Sh} (h : St sh) {I : Mi} {S nm : Int → Int} (r : RepC I S nm) (J : Mj) {c i : Int} (h1 : 0 ≤ c) (h2 : c < S 108) (h3 : 0 ≤ i) (h4 : i < 40) : uX5_stepHolds 37 16 c i (sh, I, J) = some (lfv S c (ri I 38 i, ri I 39 i, ri I 40 i)) := by
  have u0 := r.iC.1
  unfold lfv
  simp (disch := omega) only [uX5_stepHolds, SEg h, SEr h, SEa h, SEk h, SEj h, SEl h, SEp h, SEs h, bd_some, bd2_some, r.people, r.mints, r.told, r.set0, r.set1, r.set2, r.set3, r.begs, r.owes, r.loss, r.blur, r.takes, r.coins, r.strokes, r.sales, r.day, r.dieOf, r.dieBy, r.made, r.grains, r.owner, r.had, r.layers, r.fst, r.fdp, r.wS, r.wL, r.stk, r.sal, c_whoOnTop h r J h1 h2, c_showsWho h r J h1 h2, c_showsFalse h r J h1 h2, c_compares h]
  grind
