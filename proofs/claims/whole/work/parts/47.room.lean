theorem room_le {s : State} {pl : Platform} {R R' : Room} (h1 : R'.frames ≤ R.frames) (h2 : R'.locals ≤ R.locals) (h3 : R'.cells ≤ R.cells) (h4 : R'.slots ≤ R.slots) (h : s.hasRoom pl R = true) : s.hasRoom pl R' = true := by
  simp only [State.hasRoom, Bool.and_eq_true, decide_eq_true_eq] at h ⊢
  obtain ⟨⟨⟨⟨a1, a2, a3, a4, a5, a6⟩, a7⟩, a8⟩, a9⟩ := h
  refine ⟨⟨⟨⟨?_, ?_, ?_, ?_, ?_, a6⟩, ?_⟩, ?_⟩, a9⟩ <;> omega
/-- a walk in a smaller room is one in a greater room -/
theorem W_room {p : Program} {l : Launch} {e : Env} {R R' : Room} {s : State} {m : MethodId} {args : Array Value} {below : List Frame} {meth : Method} {c : Code} {H : Heap} {locs : List Loc} {cells slots : Nat} {Q : State → Prop} {g : JFrame} (h1 : R'.frames ≤ R.frames) (h2 : R'.locals ≤ R.locals) (h3 : R'.cells ≤ R.cells) (h4 : R'.slots ≤ R.slots) (k : W p l e R' s m args below meth c H locs cells slots Q g) : W p l e R s m args below meth c H locs cells slots Q g := fun T hT X =>
  k T hT ⟨X.admits, X.cas, X.clock, X.frames, room_le h1 h2 h3 h4 X.room, X.hears, X.method, X.code, X.here, X.tail, X.warmed, X.limits, X.bytes, X.same⟩
theorem W_room1 {p : Program} {l : Launch} {e : Env} {s : State} {m : MethodId} {args : Array Value} {below : List Frame} {meth : Method} {c : Code} {H : Heap} {locs : List Loc} {cells slots : Nat} {Q : State → Prop} {g : JFrame} (k : W p l e (rmz 1312 601024 7293034) s m args below meth c H locs cells slots Q g) : W p l e room_1 s m args below meth c H locs cells slots Q g :=
  W_room (R' := rmz 1312 601024 7293034) (by decide) (by decide) (by decide) (by decide) k
/-- the law's end: what lies behind the start's cells is nobody's -/
theorem mq_law {G : Gx} {σ : State} {below : List Frame} {args : Array Value} {t : State} {Q : Option Value → Mm → Prop} (hz : σ.heap.size = G.2.2) (hQ : ∀ v M, Q v M → v = some (.int (iv 1)) ) (h : MQe G σ below Q args σ 601024 7293034 t) : ∃ o, t.status = .running ∧ Ended t below o ∧ o = .returned (some (.int 1)) ∧ Framed σ o t [] 601024 7293034 := by
  rcases h with ⟨o, h1, h2, ⟨⟨v, M, ho, hq, -⟩, -⟩, L, hF, hL⟩ | ⟨a, M, -, -, hq, -⟩
  · have hv := hQ v M hq
    subst hv
    subst ho
    obtain ⟨hr, hW, hs⟩ := hF
    exact ⟨_, h1, h2, rfl, hr, hW, hs.weaken (fun y hy hlt => absurd hlt (Nat.not_lt.mpr (by rw [hz]; exact hL y hy))) (Nat.le_refl _) (Nat.le_refl _)⟩
  · exact absurd (hQ _ M hq) (by intro h; cases h)
