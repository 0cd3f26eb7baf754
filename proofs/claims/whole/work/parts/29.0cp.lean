def cp (I : Mi) (a : Nat) (d : Int) (b : Nat) (s n : Int) : Mi := fun x j => if x = a ∧ d ≤ (j : Int) ∧ (j : Int) < d + n then I b ((j : Int) - d + s).toNat else I x j
theorem cp_fr (I : Mi) (a : Nat) (d : Int) (b : Nat) (s n : Int) (aq kq : Nat) (h : aq ≠ a) : cp I a d b s n aq kq = I aq kq := by unfold cp; rw [if_neg (fun q => h q.1)]
