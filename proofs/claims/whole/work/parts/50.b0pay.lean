/-- PAYMENTS: what the COINS of a list cost at least (16 times their GRAINS, and how many) so that they reach p -/
def mx (W : Int → Int → Int) (c : Int) : Int := max32 (max32 (max32 (max32 (max32 0 (W c 1)) (W c 2)) (W c 3)) (W c 4)) (W c 5)
def DU (G : Int → Int) (W : Int → Int → Int) : List Int → Int → Int
  | [], p => if p ≤ 0 then 0 else 100000000
  | c :: t, p => if DU G W t (p - mx W c) + 16 * G c + 1 < DU G W t p then DU G W t (p - mx W c) + 16 * G c + 1 else DU G W t p
def us (W : Int → Int → Int) (l : List Int) : List Int := l.filter (fun c => decide (0 < mx W c))
def OkW (G : Int → Int) (W : Int → Int → Int) (l : List Int) : Prop := ∀ c ∈ l, (1 ≤ G c ∧ G c ≤ 9999) ∧ (∀ h, 0 ≤ W c h ∧ W c h ≤ 40000) ∧ W c 0 = 0
theorem OkW.tl {G : Int → Int} {W : Int → Int → Int} {c : Int} {t : List Int} (h : OkW G W (c :: t)) : OkW G W t := fun x hx => h x (List.mem_cons_of_mem _ hx)
theorem OkW.hd {G : Int → Int} {W : Int → Int → Int} {c : Int} {t : List Int} (h : OkW G W (c :: t)) : (1 ≤ G c ∧ G c ≤ 9999) ∧ (∀ h, 0 ≤ W c h ∧ W c h ≤ 40000) ∧ W c 0 = 0 := h c (List.mem_cons_self ..)
theorem mx_le {W : Int → Int → Int} {c : Int} (h0 : ∀ h, 0 ≤ W c h ∧ W c h ≤ 40000) : (0 ≤ mx W c ∧ mx W c ≤ 40000) ∧ (∀ h, 1 ≤ h → h ≤ 5 → W c h ≤ mx W c) ∧ (0 < mx W c → ∃ h, 1 ≤ h ∧ h ≤ 5 ∧ W c h = mx W c) := by
  have h1 := h0 1
  have h2 := h0 2
  have h3 := h0 3
  have h4 := h0 4
  have h5 := h0 5
  have key : ∀ a b : Int, max32 a b = a ∧ b ≤ a ∨ max32 a b = b ∧ a ≤ b := fun a b => by unfold max32; split <;> omega
  unfold mx
  obtain ⟨a1, e1⟩ : ∃ a, a = max32 0 (W c 1) := ⟨_, rfl⟩
  obtain ⟨a2, e2⟩ : ∃ a, a = max32 a1 (W c 2) := ⟨_, rfl⟩
  obtain ⟨a3, e3⟩ : ∃ a, a = max32 a2 (W c 3) := ⟨_, rfl⟩
  obtain ⟨a4, e4⟩ : ∃ a, a = max32 a3 (W c 4) := ⟨_, rfl⟩
  obtain ⟨a5, e5⟩ : ∃ a, a = max32 a4 (W c 5) := ⟨_, rfl⟩
  rw [← e1, ← e2, ← e3, ← e4, ← e5]
  have k1 := key 0 (W c 1)
  have k2 := key a1 (W c 2)
  have k3 := key a2 (W c 3)
  have k4 := key a3 (W c 4)
  have k5 := key a4 (W c 5)
  rw [← e1] at k1
  rw [← e2] at k2
  rw [← e3] at k3
  rw [← e4] at k4
  rw [← e5] at k5
  refine ⟨by omega, fun h q1 q2 => ?_, fun q => ?_⟩
  · have : h = 1 ∨ h = 2 ∨ h = 3 ∨ h = 4 ∨ h = 5 := by omega
    rcases this with rfl | rfl | rfl | rfl | rfl <;> omega
  · have : W c 1 = a5 ∨ W c 2 = a5 ∨ W c 3 = a5 ∨ W c 4 = a5 ∨ W c 5 = a5 := by omega
    rcases this with z | z | z | z | z
    · exact ⟨1, by decide, by decide, z⟩
    · exact ⟨2, by decide, by decide, z⟩
    · exact ⟨3, by decide, by decide, z⟩
    · exact ⟨4, by decide, by decide, z⟩
    · exact ⟨5, by decide, by decide, z⟩
theorem DU_b {G : Int → Int} {W : Int → Int → Int} : ∀ {l : List Int}, OkW G W l → ∀ p, 0 ≤ DU G W l p ∧ DU G W l p ≤ 100000000
  | [], _, p => by unfold DU; split <;> omega
  | c :: t, h, p => by
    have h1 := DU_b h.tl p
    have h2 := DU_b h.tl (p - mx W c)
    have h3 := h.hd.1
    unfold DU; split <;> omega
theorem DU_0 {G : Int → Int} {W : Int → Int → Int} : ∀ {l : List Int}, OkW G W l → ∀ {p}, p ≤ 0 → DU G W l p = 0
  | [], _, p, hp => by unfold DU; rw [if_pos hp]
  | c :: t, h, p, hp => by
    have h1 := DU_0 h.tl hp
    have h2 := DU_b h.tl (p - mx W c)
    have h3 := h.hd.1
    unfold DU; rw [h1, if_neg (by omega)]
theorem DU_mono {G : Int → Int} {W : Int → Int → Int} : ∀ {l : List Int}, OkW G W l → ∀ {p q}, p ≤ q → DU G W l p ≤ DU G W l q
  | [], _, p, q, h => by unfold DU; split <;> split <;> omega
  | c :: t, h, p, q, hp => by
    have h1 := DU_mono h.tl hp
    have h2 := DU_mono h.tl (show p - mx W c ≤ q - mx W c by omega)
    unfold DU; split <;> split <;> omega
theorem DU_17 {G : Int → Int} {W : Int → Int → Int} : ∀ {l : List Int}, OkW G W l → ∀ {p}, 0 < p → 17 ≤ DU G W l p
  | [], _, p, hp => by unfold DU; rw [if_neg (by omega)]; omega
  | c :: t, h, p, hp => by
    have h1 := DU_17 h.tl hp
    have h2 := DU_b h.tl (p - mx W c)
    have h3 := h.hd.1
    unfold DU; split <;> omega
def wsm (W : Int → Int → Int) : List Int → Int
  | [] => 0
  | c :: t => mx W c + wsm W t
theorem DU_far {G : Int → Int} {W : Int → Int → Int} : ∀ {l : List Int}, OkW G W l → ∀ {p}, 0 < p → wsm W l < p → DU G W l p = 100000000
  | [], _, p, hp, _ => by unfold DU; rw [if_neg (by omega)]
  | c :: t, h, p, hp, hs => by
    have h0 := (mx_le h.hd.2.1).1
    have hs2 : mx W c + wsm W t < p := hs
    have hw : ∀ {l : List Int}, OkW G W l → 0 ≤ wsm W l := fun {l} hl => by
      induction l with
      | nil => exact Int.le_refl _
      | cons c t ih => have := (mx_le hl.hd.2.1).1; have := ih hl.tl; unfold wsm; omega
    have h9 := hw h.tl
    have h1 := DU_far h.tl hp (by omega)
    have h2 := DU_far h.tl (p := p - mx W c) (by omega) (by omega)
    have h3 := h.hd.1
    unfold DU; rw [h1, h2, if_neg (by omega)]
theorem wsm_b {G : Int → Int} {W : Int → Int → Int} : ∀ {l : List Int}, OkW G W l → 0 ≤ wsm W l ∧ wsm W l ≤ 40000 * l.length
  | [], _ => by unfold wsm; decide
  | c :: t, h => by
    have h0 := (mx_le h.hd.2.1).1
    have h1 := wsm_b h.tl
    unfold wsm; rw [List.length_cons]; omega
/-- COINS of the list with these GRAINS, so many, that reach p -/
def CM (G : Int → Int) (W : Int → Int → Int) : List Int → Int → Int → Int → Prop
  | [], g, n, p => g = 0 ∧ n = 0 ∧ p ≤ 0
  | c :: t, g, n, p => CM G W t (g - G c) (n - 1) (p - mx W c) ∨ CM G W t g n p
theorem CM_b {G : Int → Int} {W : Int → Int → Int} : ∀ {l : List Int}, OkW G W l → ∀ {g n p}, CM G W l g n p → (0 ≤ n ∧ n ≤ l.length) ∧ n ≤ g ∧ p ≤ wsm W l ∧ (n = 0 → g = 0 ∧ p ≤ 0)
  | [], _, g, n, p, h => by obtain ⟨h1, h2, h3⟩ := h; unfold wsm; rw [List.length_nil]; omega
  | c :: t, ho, g, n, p, h => by
    have h0 := (mx_le ho.hd.2.1).1
    have h3 := ho.hd.1
    have hw := wsm_b ho.tl
    rw [List.length_cons]
    unfold wsm
    rcases h with h | h
    · have := CM_b ho.tl h; omega
    · have := CM_b ho.tl h; omega
theorem CM_0 {G : Int → Int} {W : Int → Int → Int} : ∀ {l : List Int}, ∀ {p}, p ≤ 0 → CM G W l 0 0 p
  | [], _, h => ⟨rfl, rfl, h⟩
  | _ :: _, _, h => .inr (CM_0 h)
theorem CM_D {G : Int → Int} {W : Int → Int → Int} : ∀ {l : List Int}, ∀ {g n p}, CM G W l g n p → DU G W l p ≤ 16 * g + n
  | [], g, n, p, ⟨h1, h2, h3⟩ => by unfold DU; rw [if_pos h3]; omega
  | c :: t, g, n, p, h => by
    unfold DU
    rcases h with h | h
    · have := CM_D h; split <;> omega
    · have := CM_D h; split <;> omega
theorem D_CM {G : Int → Int} {W : Int → Int → Int} : ∀ {l : List Int}, OkW G W l → ∀ {p}, DU G W l p < 100000000 → ∃ g n, CM G W l g n p ∧ DU G W l p = 16 * g + n ∧ (0 ≤ n ∧ n ≤ l.length) ∧ (0 ≤ g ∧ g ≤ 9999 * l.length)
  | [], _, p, h => by
    unfold DU at h
    split at h
    · exact ⟨0, 0, ⟨rfl, rfl, by assumption⟩, by unfold DU; rw [if_pos (by assumption)]; rfl, by rw [List.length_nil]; omega, by rw [List.length_nil]; omega⟩
    · omega
  | c :: t, ho, p, h => by
    have h3 := ho.hd.1
    rw [List.length_cons]
    unfold DU at h ⊢
    split at h
    · obtain ⟨g, n, h1, h2, h4, h5⟩ := D_CM ho.tl (p := p - mx W c) (by omega)
      rw [if_pos (by assumption)]
      refine ⟨g + G c, n + 1, .inl ?_, by omega, by omega, by omega⟩
      rw [show g + G c - G c = g from by omega, show n + 1 - 1 = n from by omega]; exact h1
    · obtain ⟨g, n, h1, h2, h4, h5⟩ := D_CM ho.tl h
      rw [if_neg (by assumption)]
      exact ⟨g, n, .inr h1, h2, by omega, by omega⟩
/-- what way h costs at the first COIN -/
def cst (G : Int → Int) (W : Int → Int → Int) (c : Int) (t : List Int) (p h : Int) : Int := if h = 0 then DU G W (us W t) p else if W c h = 0 then 100000000 else if DU G W (us W t) (p - W c h) < 100000000 then DU G W (us W t) (p - W c h) + 16 * G c + 1 else 100000000
theorem OkW.us {G : Int → Int} {W : Int → Int → Int} {l : List Int} (h : OkW G W l) : OkW G W (us W l) := fun c hc => h c (List.mem_filter.mp hc).1
theorem us_c {W : Int → Int → Int} {c : Int} (t : List Int) (h : 0 < mx W c) : us W (c :: t) = c :: us W t := List.filter_cons_of_pos (by simpa using h)
theorem us_n {W : Int → Int → Int} {c : Int} (t : List Int) (h : ¬ 0 < mx W c) : us W (c :: t) = us W t := List.filter_cons_of_neg (by simpa using h)
theorem cst_le {G : Int → Int} {W : Int → Int → Int} {c : Int} {t : List Int} (ho : OkW G W (c :: t)) {p h : Int} (h0 : 0 ≤ h) (h5 : h ≤ 5) : DU G W (us W (c :: t)) p ≤ cst G W c t p h := by
  have hm := mx_le ho.hd.2.1
  have hg := ho.hd.1
  have b1 := DU_b ho.tl.us p
  by_cases cm : 0 < mx W c
  · rw [us_c t cm]
    unfold DU cst
    by_cases c0 : h = 0
    · rw [if_pos c0]; split <;> omega
    · rw [if_neg c0]
      have hw := ho.hd.2.1 h
      have h1 := hm.2.1 h (by omega) h5
      have h2 := DU_mono ho.tl.us (show p - mx W c ≤ p - W c h by omega)
      split <;> split <;> (try split) <;> omega
  · rw [us_n t cm]
    unfold cst
    by_cases c0 : h = 0
    · rw [if_pos c0]; omega
    · rw [if_neg c0, if_pos (by have := hm.2.1 h (by omega) h5; have := ho.hd.2.1 h; omega)]; omega
theorem cst_at {G : Int → Int} {W : Int → Int → Int} {c : Int} {t : List Int} (ho : OkW G W (c :: t)) (p : Int) : ∃ h, 0 ≤ h ∧ h ≤ 5 ∧ (h = 0 ∨ 0 < W c h) ∧ cst G W c t p h = DU G W (us W (c :: t)) p := by
  have hm := mx_le ho.hd.2.1
  have hg := ho.hd.1
  have b1 := DU_b ho.tl.us p
  by_cases cm : 0 < mx W c
  · rw [us_c t cm]
    unfold DU
    split
    · obtain ⟨h, h1, h2, h3⟩ := hm.2.2 cm
      refine ⟨h, by omega, h2, .inr (by omega), ?_⟩
      unfold cst
      rw [if_neg (by omega), if_neg (by omega), h3, if_pos (by omega)]
    · exact ⟨0, by decide, by decide, .inl rfl, by unfold cst; rw [if_pos rfl]⟩
  · rw [us_n t cm]
    exact ⟨0, by decide, by decide, .inl rfl, by unfold cst; rw [if_pos rfl]⟩
theorem DU_max {G : Int → Int} {W : Int → Int → Int} {l : List Int} (h : OkW G W l) {p q : Int} (e : q = p ∨ (q = 0 ∧ p ≤ 0)) : DU G W l q = DU G W l p := by
  rcases e with rfl | ⟨rfl, e⟩
  · rfl
  · rw [DU_0 h e, DU_0 h (Int.le_refl _)]
theorem cst_max {G : Int → Int} {W : Int → Int → Int} {c : Int} {t : List Int} (ho : OkW G W (c :: t)) {p q h : Int} (e : q = p ∨ (q = 0 ∧ p ≤ 0)) : cst G W c t q h = cst G W c t p h := by
  have hw := ho.hd.2.1 h
  unfold cst
  rw [DU_max ho.tl.us e]
  rcases e with rfl | ⟨rfl, e⟩
  · rfl
  · rw [DU_0 ho.tl.us (show 0 - W c h ≤ 0 by omega), DU_0 ho.tl.us (show p - W c h ≤ 0 by omega)]
/-- the first way that costs the least -/
def isF (G : Int → Int) (W : Int → Int → Int) (c : Int) (t : List Int) (p h : Int) : Prop := (0 ≤ h ∧ h ≤ 5) ∧ cst G W c t p h = DU G W (us W (c :: t)) p ∧ ∀ k, 0 ≤ k → k < h → cst G W c t p k ≠ DU G W (us W (c :: t)) p
theorem isF_un {G : Int → Int} {W : Int → Int → Int} {c : Int} {t : List Int} {p h k : Int} (h1 : isF G W c t p h) (h2 : isF G W c t p k) : h = k := by
  by_cases a : h < k
  · exact absurd h1.2.1 (h2.2.2 h h1.1.1 a)
  · by_cases b : k < h
    · exact absurd h2.2.1 (h1.2.2 k h2.1.1 b)
    · omega
theorem isF_max {G : Int → Int} {W : Int → Int → Int} {c : Int} {t : List Int} (ho : OkW G W (c :: t)) {p q h : Int} (e : q = p ∨ (q = 0 ∧ p ≤ 0)) (hF : isF G W c t p h) : isF G W c t q h := by
  refine ⟨hF.1, ?_, fun k h1 h2 => ?_⟩
  · rw [cst_max ho e, DU_max ho.us e]; exact hF.2.1
  · rw [cst_max ho e, DU_max ho.us e]; exact hF.2.2 k h1 h2
/-- the ways of a list, told from its first COIN on -/
def WY (G : Int → Int) (W : Int → Int → Int) : List Int → Int → List Int → Prop
  | [], _, ws => ws = []
  | c :: t, p, ws => ∃ h r, ws = h :: r ∧ isF G W c t p h ∧ WY G W t (p - W c h) r
theorem WY_un {G : Int → Int} {W : Int → Int → Int} : ∀ {l : List Int} {p : Int} {a b : List Int}, WY G W l p a → WY G W l p b → a = b
  | [], _, _, _, h1, h2 => by rw [show _ = _ from h1, show _ = _ from h2]
  | c :: t, p, a, b, ⟨h, r, e, h1, h2⟩, ⟨h', r', e', h1', h2'⟩ => by
    have := isF_un h1 h1'
    subst this
    rw [e, e', WY_un h2 h2']
theorem cst_dn {G : Int → Int} {W : Int → Int → Int} {c : Int} {t : List Int} (ho : OkW G W (c :: t)) {p q h : Int} (hp : p ≤ 0) (hq : q ≤ 0) : cst G W c t q h = cst G W c t p h := by
  rw [← cst_max ho (q := 0) (p := q) (.inr ⟨rfl, hq⟩), cst_max ho (q := 0) (p := p) (.inr ⟨rfl, hp⟩)]
theorem WY_dn2 {G : Int → Int} {W : Int → Int → Int} : ∀ {l : List Int}, OkW G W l → ∀ {p q : Int} {a : List Int}, p ≤ 0 → q ≤ 0 → WY G W l p a → WY G W l q a
  | [], _, _, _, _, _, _, h => h
  | c :: t, ho, p, q, a, hp, hq, ⟨h, r, e1, h1, h2⟩ => by
    have hw := ho.hd.2.1 h
    refine ⟨h, r, e1, ⟨h1.1, ?_, fun k q1 q2 => ?_⟩, WY_dn2 ho.tl (show p - W c h ≤ 0 by omega) (show q - W c h ≤ 0 by omega) h2⟩
    · rw [cst_dn ho hp hq, DU_0 ho.us hq, ← DU_0 ho.us hp]; exact h1.2.1
    · rw [cst_dn ho hp hq, DU_0 ho.us hq, ← DU_0 ho.us hp]; exact h1.2.2 k q1 q2
theorem WY_max {G : Int → Int} {W : Int → Int → Int} {l : List Int} (ho : OkW G W l) {p q : Int} {a : List Int} (e : q = p ∨ (q = 0 ∧ p ≤ 0)) (h : WY G W l p a) : WY G W l q a := by
  rcases e with rfl | ⟨rfl, e⟩
  · exact h
  · exact WY_dn2 ho e (Int.le_refl _) h
