theorem suC_cong {f g : Int → Int} : ∀ (n : Nat), (∀ i : Nat, i < n → f i = g i) → suC f n = suC g n
  | 0, _ => rfl
  | n + 1, h => by unfold suC; rw [suC_cong n (fun i hi => h i (by omega)), h n (by omega)]
theorem suC_add (f g : Int → Int) : ∀ n : Nat, suC (fun i => f i + g i) n = suC f n + suC g n
  | 0 => rfl
  | n + 1 => by unfold suC; rw [suC_add f g n]; omega
theorem suC_zero : ∀ n : Nat, suC (fun _ => 0) n = 0
  | 0 => rfl
  | n + 1 => by unfold suC; rw [suC_zero n]; rfl
theorem suC_swap (f : Int → Int → Int) (m : Nat) : ∀ n : Nat, suC (fun i => suC (fun j => f i j) m) n = suC (fun j => suC (fun i => f i j) n) m
  | 0 => by rw [show (fun j => suC (fun i => f i j) 0) = fun _ => (0 : Int) from rfl, suC_zero]; rfl
  | n + 1 => by
    show suC (fun i => suC (fun j => f i j) m) n + suC (fun j => f n j) m = suC (fun j => suC (fun i => f i j) n + f n j) m
    rw [suC_swap f m n, suC_add]
theorem suC_mulc (f : Int → Int) (k : Int) : ∀ n : Nat, suC (fun i => k * f i) n = k * suC f n
  | 0 => by unfold suC; omega
  | n + 1 => by unfold suC; rw [suC_mulc f k n, Int.mul_add]
theorem suC_app (f : Int → Int) (a : Nat) : ∀ b : Nat, suC f (a + b) = suC f a + suC (fun i => f (a + i)) b
  | 0 => by show suC f a = suC f a + 0; omega
  | b + 1 => by
    show suC f (a + b) + f ((a + b : Nat) : Int) = suC f a + (suC (fun i => f (a + i)) b + f (a + (b : Int)))
    rw [suC_app f a b, Int.natCast_add]; omega
/-- the lowest digit split off -/
theorem suC_dig (f : Int → Int) (q : Nat) : ∀ k : Nat, suC f (q * k) = suC (fun t => suC (fun m => f (m + q * t)) q) k
  | 0 => rfl
  | k + 1 => by
    rw [Nat.mul_succ, suC_app, suC_dig f q k]
    show _ = suC (fun t => suC (fun m => f (m + q * t)) q) k + suC (fun m => f (m + q * (k : Int))) q
    congr 1
    exact suC_cong q fun i _ => by rw [Int.natCast_mul]; congr 1; omega
/-- one of them counts -/
theorem suC_one (w : Nat) (x : Int) : ∀ n : Nat, suC (fun i => if i = (w : Int) then x else 0) n = if w < n then x else 0
  | 0 => by rw [if_neg (by omega)]; rfl
  | n + 1 => by
    unfold suC
    rw [suC_one w x n]
    by_cases h : w = n
    · rw [if_neg (by omega), if_pos (by omega), if_pos (by omega)]; omega
    · rw [if_neg (show ¬ (n : Int) = w by omega)]
      by_cases h2 : w < n
      · rw [if_pos h2, if_pos (by omega)]; omega
      · rw [if_neg h2, if_neg (by omega)]; omega
theorem suC_const (x : Int) : ∀ n : Nat, suC (fun _ => x) n = n * x
  | 0 => by show (0 : Int) = (0 : Nat) * x; rw [Int.natCast_zero, Int.zero_mul]
  | n + 1 => by unfold suC; rw [suC_const x n, Int.natCast_succ, Int.add_mul, Int.one_mul]
theorem suC_nn (f : Int → Int) : ∀ n : Nat, (∀ i : Nat, i < n → 0 ≤ f i) → 0 ≤ suC f n
  | 0, _ => Int.le_refl _
  | n + 1, h => by unfold suC; have := suC_nn f n (fun i hi => h i (by omega)); have := h n (by omega); omega
