theorem l96 : (96 : Int32) = ix 96 := rfl
theorem l257 : (257 : Int32) = ix 257 := rfl
theorem s_M_planZ {z : Sta} {K : Int32 → Sta → Prop} (h : ∀ y, fr [] [22, 23] [] z y → (∀ t, t < 96 → y.2.1 22 t = ix 0) → (∀ t, t < 257 → y.2.1 23 t = ix 0) → ∃ n85, lp_M_plan_85 K n85 (ix 0) y) : ∃ n42, lp_M_plan_42 K n42 (ix 0) z := by
  have two : ∀ (k i : Nat) (y : Sta), i + k = 257 → fr [] [22, 23] [] z y → (∀ t, t < 96 → y.2.1 22 t = ix 0) → (∀ t, t < i → y.2.1 23 t = ix 0) → lp_M_plan_63 K (k + 1) (ix i) y := by
    intro k
    induction k with
    | zero =>
      intro i y hik f h1 h2
      rw [lp_M_plan_63]
      try simp (disch := omega) only [l257, forall_eq, l0, l1, l2, l3, l4, l5, l6, l15, l16, l24, l30, l99, l100, l200, l385, lm1, ix_ne, ne_ix, ix_nat, vp_ix, ix_inj, ix_le, ix_lt, ix_add, ix_mul, ix_sub, nar0', nar1', or00, or01, or10, or11, rI, rIA, rIL, rA, rAI, rAL, rL, rLI, rLA, ru, ruL, reduceIte, Nat.reduceEqDiff, true_or, or_true, true_and, and_true, false_or, or_false, not_true_eq_false, not_false_eq_true, false_implies, true_implies, implies_true, i10, i01]
      exact ⟨fun _ => h y f h1 (fun t ht => h2 t (by omega)), fun h => absurd (by omega) h⟩
    | succ k ih =>
      intro i y hik f h1 h2
      rw [lp_M_plan_63]
      try simp (disch := omega) only [l257, forall_eq, l0, l1, l2, l3, l4, l5, l6, l15, l16, l24, l30, l99, l100, l200, l385, lm1, ix_ne, ne_ix, ix_nat, vp_ix, ix_inj, ix_le, ix_lt, ix_add, ix_mul, ix_sub, nar0', nar1', or00, or01, or10, or11, rI, rIA, rIL, rA, rAI, rAL, rL, rLI, rLA, ru, ruL, reduceIte, Nat.reduceEqDiff, true_or, or_true, true_and, and_true, false_or, or_false, not_true_eq_false, not_false_eq_true, false_implies, true_implies, implies_true, i10, i01]
      refine ⟨fun h => absurd h (by omega), fun _ => ⟨by omega, ih (i + 1) _ (by omega) (fr_A f (by decide) _) h1 (fun t ht => ?_)⟩⟩
      show upd (y.2.1 23) i (ix 0) t = ix 0
      rw [ru]; split
      · rfl
      · exact h2 t (by omega)
  have one : ∀ (k i : Nat) (y : Sta), i + k = 96 → fr [] [22, 23] [] z y → (∀ t, t < i → y.2.1 22 t = ix 0) → lp_M_plan_42 K (k + 1) (ix i) y := by
    intro k
    induction k with
    | zero =>
      intro i y hik f h1
      rw [lp_M_plan_42]
      try simp (disch := omega) only [l96, forall_eq, l0, l1, l2, l3, l4, l5, l6, l15, l16, l24, l30, l99, l100, l200, l385, lm1, ix_ne, ne_ix, ix_nat, vp_ix, ix_inj, ix_le, ix_lt, ix_add, ix_mul, ix_sub, nar0', nar1', or00, or01, or10, or11, rI, rIA, rIL, rA, rAI, rAL, rL, rLI, rLA, ru, ruL, reduceIte, Nat.reduceEqDiff, true_or, or_true, true_and, and_true, false_or, or_false, not_true_eq_false, not_false_eq_true, false_implies, true_implies, implies_true, i10, i01]
      exact ⟨fun _ => ⟨258, two 257 0 y (by omega) f (fun t ht => h1 t (by omega)) (fun t ht => absurd ht (by omega))⟩, fun h => absurd (by omega) h⟩
    | succ k ih =>
      intro i y hik f h1
      rw [lp_M_plan_42]
      try simp (disch := omega) only [l96, forall_eq, l0, l1, l2, l3, l4, l5, l6, l15, l16, l24, l30, l99, l100, l200, l385, lm1, ix_ne, ne_ix, ix_nat, vp_ix, ix_inj, ix_le, ix_lt, ix_add, ix_mul, ix_sub, nar0', nar1', or00, or01, or10, or11, rI, rIA, rIL, rA, rAI, rAL, rL, rLI, rLA, ru, ruL, reduceIte, Nat.reduceEqDiff, true_or, or_true, true_and, and_true, false_or, or_false, not_true_eq_false, not_false_eq_true, false_implies, true_implies, implies_true, i10, i01]
      refine ⟨fun h => absurd h (by omega), fun _ => ⟨by omega, ih (i + 1) _ (by omega) (fr_A f (by decide) _) (fun t ht => ?_)⟩⟩
      show upd (y.2.1 22) i (ix 0) t = ix 0
      rw [ru]; split
      · rfl
      · exact h1 t (by omega)
  exact ⟨97, one 96 0 z (by omega) (fr_refl z) (fun t ht => absurd ht (by omega))⟩
theorem plan_Pln {n m : Nat} {sz : Nat → Nat} {E : Nat → Nat → Prop} {z y w yf : Sta} {Bh Wt Lt : Nat → Nat → Prop} (hP : Prg n m sz z) (hn0 : 0 < n) (hw5 : ∀ a, a < n → okS n (z.2.1 5 a) ∧ okS n (z.2.1 6 a)) (hE : E = fun a c => a < n ∧ c < n ∧ (z.2.1 5 a = ix c ∨ z.2.1 6 a = ix c))
    (cr : ∀ b, b < 16 → isb (y.2.1 10 b) (Rch E b))
    (cb : ∀ b e, b < n → Rch E b → e < 64 → (hb (y.2.2 1 b) e = true ↔ Chc z sz e b) ∧ (hb (y.2.2 2 b) e = true ↔ Asc z sz e b) ∧ (hb (y.2.2 3 b) e = true ↔ Lvc z sz e b))
    (cu : ∀ b e, b < n → ¬ Rch E b → ∀ k, 1 ≤ k → k ≤ 9 → hb (y.2.2 k b) e = false)
    (cP : ∀ e, e < m → PL n E (Rch E) (Chc z sz e) (Asc z sz e) (Lvc z sz e) (fun b => hb (y.2.2 5 b) e = true) (fun b => hb (y.2.2 6 b) e = true) (fun b => hb (y.2.2 8 b) e = true))
    (c4 : ∀ b e, b < n → Rch E b → e < m → (hb (y.2.2 4 b) e = true ↔ 0 < b ∧ ∀ a, a < n → Rch E a → E a b → hb (y.2.2 5 a) e = true))
    (c7 : ∀ b e, b < n → Rch E b → e < m → (hb (y.2.2 7 b) e = true ↔ (∃ c, c < n ∧ E b c) ∧ ∀ c, c < n → E b c → hb (y.2.2 6 c) e = true))
    (cm : ∀ b e, b < n → Rch E b → m ≤ e → ∀ k, 1 ≤ k → k ≤ 9 → k ≠ 1 → hb (y.2.2 k b) e = false)
    (c9 : ∀ b, b < n → y.2.2 9 b = y.2.2 2 b &&& (y.2.2 8 b ^^^ (-1)))
    (w16 : w.2.1 16 = z.2.1 16) (w18 : w.2.1 18 = z.2.1 18) (w20 : w.2.1 20 = z.2.1 20)
    (mP : ∀ j, j < m → PL n E (Rch E) (Chm w sz j) (Asm w sz j) (Lvm w sz j) (Bh j) (Wt j) (Lt j))
    (m22 : ∀ t j, t < 96 → (hw (yf.2.1 22 t) j = true ↔ j < m ∧ ∃ b, b < n ∧ Rch E b ∧ ∃ u, u < 6 ∧ t = 6 * b + u ∧ Sx n E (Rch E) (Asm w sz j) (Bh j) (Wt j) (Lt j) b u))
    (m23 : ∀ t j, t < 257 → (hw (yf.2.1 23 t) j = true ↔ j < m ∧ ((∃ b, b < n ∧ Rch E b ∧ ∃ a, a < n ∧ t = 16 * a + b ∧ Px n E (Rch E) (Chm w sz j) (Asm w sz j) (Bh j) (Wt j) (Lt j) a b) ∨ (t = 256 ∧ Wt j 0 ∧ ¬ Lt j 0))))
    (m12 : ∀ j, hw (yf.1 12) j = true ↔ j < m ∧ ∃ b, b < n ∧ Rch E b ∧ Asm w sz j b ∧ ¬ Lt j b)
    (m21 : ∀ b, b < 16 → isb (yf.2.1 21 b) (Rch E b)) (f5 : yf.2.1 5 = z.2.1 5) (f6 : yf.2.1 6 = z.2.1 6) (f10 : yf.2.1 10 = y.2.1 10) (fL : ∀ k, 1 ≤ k → k ≤ 9 → yf.2.2 k = y.2.2 k) :
    Pln n yf ∧ (∀ b e, b < n → 24 ≤ e → hb (y.2.2 9 b) e = false) ∧ ∀ e, (hw (yf.1 12) e = true ↔ ∃ b, b < n ∧ hb (y.2.2 9 b) e = true) := by
  have hn := hP.1
  have hm := hP.2.1
  have hcl : ∀ a c, Rch E a → E a c → Rch E c := fun a c h e => Rch_s h e
  have lke : ∀ b e, b < n → e < m → (Chc z sz e b ↔ Chm w sz e b) ∧ (Asc z sz e b ↔ Asm w sz e b) ∧ (Lvc z sz e b ↔ Lvm w sz e b) := by
    intro b e hb1 he
    simp only [Chc, Chm, Asc, Asm, Lvc, Lvm, lk_eq hP w16 w18 w20 hb1 he]
    exact ⟨trivial, trivial, trivial⟩
  have eq := fun e (he : e < m) => PL_eq hcl (cP e he) (mP e he) (fun b hb1 _ => (lke b e hb1 he).1) (fun b hb1 _ => (lke b e hb1 he).2.1) (fun b hb1 _ => (lke b e hb1 he).2.2)
  have ff : ∀ {x : Bool}, ¬ x = true → x = false := fun h => Bool.eq_false_iff.2 h
  have tt : ∀ {x : Bool}, x = false → ¬ x = true := fun h h2 => by rw [h] at h2; exact Bool.false_ne_true h2
  have h9 : ∀ b e, b < n → (hb (y.2.2 9 b) e = true ↔ hb (y.2.2 2 b) e = true ∧ ¬ hb (y.2.2 8 b) e = true) := by
    intro b e hb1
    rw [c9 b hb1, hb_andn, Bool.and_eq_true, Bool.not_eq_true', Bool.not_eq_true]
  have six : ∀ b u e, b < n → u < 6 → (hb (y.2.2 (4 + u) b) e = true ↔ e < m ∧ Rch E b ∧ Sx n E (Rch E) (Asm w sz e) (Bh e) (Wt e) (Lt e) b u) := by
    intro b u e hb1 hu
    by_cases hrb : Rch E b
    · rcases Nat.lt_or_ge e m with he | he
      · obtain ⟨eB, eW, eL⟩ := eq e he
        have hAs : hb (y.2.2 2 b) e = true ↔ Asm w sz e b := (cb b e hb1 hrb (by omega)).2.1.trans (lke b e hb1 he).2.1
        have key : hb (y.2.2 (4 + u) b) e = true ↔ Sx n E (Rch E) (Asm w sz e) (Bh e) (Wt e) (Lt e) b u := by
          rcases (by omega : u = 0 ∨ u = 1 ∨ u = 2 ∨ u = 3 ∨ u = 4 ∨ u = 5) with q | q | q | q | q | q <;> subst q
          · rw [c4 b e hb1 hrb he]
            have : (∀ a, a < n → Rch E a → E a b → hb (y.2.2 5 a) e = true) ↔ (∀ a, a < n → Rch E a → E a b → Bh e a) := ⟨fun h a ha r q => (eB a ha).1 (h a ha r q), fun h a ha r q => (eB a ha).2 (h a ha r q)⟩
            rw [this]
            constructor
            · intro h; exact Or.inl ⟨rfl, h⟩
            · rintro (⟨_, h⟩ | ⟨h, _⟩ | ⟨h, _⟩ | ⟨h, _⟩ | ⟨h, _⟩ | ⟨h, _⟩)
              · exact h
              all_goals omega
          · constructor
            · intro h; exact Or.inr (Or.inl ⟨rfl, (eB b hb1).1 h⟩)
            · rintro (⟨h, _⟩ | ⟨_, h⟩ | ⟨h, _⟩ | ⟨h, _⟩ | ⟨h, _⟩ | ⟨h, _⟩)
              · omega
              · exact (eB b hb1).2 h
              all_goals omega
          · constructor
            · intro h; exact Or.inr (Or.inr (Or.inl ⟨rfl, (eW b hb1).1 h⟩))
            · rintro (⟨h, _⟩ | ⟨h, _⟩ | ⟨_, h⟩ | ⟨h, _⟩ | ⟨h, _⟩ | ⟨h, _⟩)
              · omega
              · omega
              · exact (eW b hb1).2 h
              all_goals omega
          · rw [c7 b e hb1 hrb he]
            have : (∀ c, c < n → E b c → hb (y.2.2 6 c) e = true) ↔ (∀ c, c < n → E b c → Wt e c) := ⟨fun h c hc q => (eW c hc).1 (h c hc q), fun h c hc q => (eW c hc).2 (h c hc q)⟩
            rw [this]
            constructor
            · intro h; exact Or.inr (Or.inr (Or.inr (Or.inl ⟨rfl, h⟩)))
            · rintro (⟨h, _⟩ | ⟨h, _⟩ | ⟨h, _⟩ | ⟨_, h⟩ | ⟨h, _⟩ | ⟨h, _⟩)
              · omega
              · omega
              · omega
              · exact h
              all_goals omega
          · constructor
            · intro h; exact Or.inr (Or.inr (Or.inr (Or.inr (Or.inl ⟨rfl, (eL b hb1).1 h⟩))))
            · rintro (⟨h, _⟩ | ⟨h, _⟩ | ⟨h, _⟩ | ⟨h, _⟩ | ⟨_, h⟩ | ⟨h, _⟩)
              · omega
              · omega
              · omega
              · omega
              · exact (eL b hb1).2 h
              · omega
          · rw [h9 b e hb1, hAs]
            constructor
            · intro h; exact Or.inr (Or.inr (Or.inr (Or.inr (Or.inr ⟨rfl, h.1, fun hh => h.2 ((eL b hb1).2 hh)⟩))))
            · rintro (⟨h, _⟩ | ⟨h, _⟩ | ⟨h, _⟩ | ⟨h, _⟩ | ⟨h, _⟩ | ⟨_, h⟩)
              · omega
              · omega
              · omega
              · omega
              · omega
              · exact ⟨h.1, fun hh => h.2 ((eL b hb1).1 hh)⟩
        exact ⟨fun h => ⟨he, hrb, key.1 h⟩, fun h => key.2 h.2.2⟩
      · exact ⟨fun h => absurd h (tt (cm b e hb1 hrb he (4 + u) (by omega) (by omega) (by omega))), fun h => absurd h.1 (by omega)⟩
    · exact ⟨fun h => absurd h (tt (cu b e hb1 hrb (4 + u) (by omega) (by omega))), fun h => absurd h.2.1 hrb⟩
  have b22 : ∀ b u j, b < n → u < 6 → (hw (yf.2.1 22 (6 * b + u)) j = true ↔ j < m ∧ Rch E b ∧ Sx n E (Rch E) (Asm w sz j) (Bh j) (Wt j) (Lt j) b u) := by
    intro b u j hb1 hu
    rw [m22 _ j (by omega)]
    constructor
    · rintro ⟨h1, b', hb', hr, u', hu', ht, hs⟩
      have e1 : b' = b := by omega
      have e2 : u' = u := by omega
      subst e1; subst e2; exact ⟨h1, hr, hs⟩
    · rintro ⟨h1, hr, hs⟩; exact ⟨h1, b, hb1, hr, u, hu, rfl, hs⟩
  have set6 : ∀ b u, b < n → u < 6 → y.2.2 (4 + u) b = (yf.2.1 22 (6 * b + u)).toInt64 := by
    intro b u hb1 hu
    refine wide (fun e he => ?_) (fun e he => ?_) (fun e he => ?_)
    · have := (six b u e hb1 hu).trans (b22 b u e hb1 hu).symm
      cases h1 : hb (y.2.2 (4 + u) b) e
      · exact (ff (fun h2 => tt h1 (this.2 h2))).symm
      · exact (this.1 h1).symm
    · exact ff (fun h => by have := ((six b u e hb1 hu).1 h).1; omega)
    · exact ff (fun h => by have := ((b22 b u e hb1 hu).1 h).1; omega)
  have rb : ∀ a, a < n → (y.2.1 10 a = ix 1 ↔ Rch E a) := by
    intro a ha
    have := cr a (by omega)
    constructor
    · intro h
      refine isb_n this (fun h0 => ?_)
      rw [h] at h0; exact i10 h0
    · exact isb_t this
  have LOe : ∀ a b e, a < n → b < n → Rch E a → e < m → (hb (LOv y a b) e = true ↔ (EAm n E (Wt e) (Bh e) (Chm w sz e) a b ∨ (Lt e a ∧ ¬ Asm w sz e a))) := by
    intro a b e ha hb1 hra he
    obtain ⟨eB, eW, eL⟩ := eq e he
    have hc := cb a e ha hra (by omega)
    have hl := lke a e ha he
    have hWB : hb (y.2.2 7 a) e = true ↔ (∃ c, c < n ∧ E a c) ∧ ∀ c, c < n → E a c → Wt e c := by
      rw [c7 a e ha hra he]
      exact and_congr Iff.rfl ⟨fun h c hc q => (eW c hc).1 (h c hc q), fun h c hc q => (eW c hc).2 (h c hc q)⟩
    rw [hb_LOv]
    simp only [EAb, EAm]
    rw [hWB, hc.1.trans hl.1, hc.2.1.trans hl.2.1]
    have q1 : hb (y.2.2 6 b) e = true ↔ Wt e b := eW b hb1
    have q2 : hb (y.2.2 5 a) e = true ↔ Bh e a := eB a ha
    have q3 : hb (y.2.2 8 a) e = true ↔ Lt e a := eL a ha
    rw [q1, q2, q3]
  have rch0 : Rch E 0 := Rch_0
  refine ⟨⟨hn0, fun a ha => ⟨?_, ?_⟩, ?_, ?_, fun a c ha hc hra he => ?_, fun b hb1 => ?_, fun a b ha hb1 hra he => ?_, ?_, fun b e hb1 he hh => ?_⟩, fun b e hb1 he => ?_, fun e => ?_⟩
  · rw [f10]; exact isb_b (cr a (by omega))
  · rw [f10]; exact isb_e (m21 a (by omega)) (cr a (by omega)) Iff.rfl
  · rw [f5, f6]; exact hw5
  · rw [f10]; exact isb_t (cr 0 (by omega)) rch0
  · rw [f10] at hra ⊢
    rw [f5, f6] at he
    exact (rb c hc).2 (hcl a c ((rb a ha).1 hra) (by rw [hE]; exact ⟨ha, hc, he⟩))
  · rw [fL 4 (by omega) (by omega), fL 5 (by omega) (by omega), fL 6 (by omega) (by omega), fL 7 (by omega) (by omega), fL 8 (by omega) (by omega), fL 9 (by omega) (by omega)]
    exact ⟨set6 b 0 hb1 (by omega), set6 b 1 hb1 (by omega), set6 b 2 hb1 (by omega), set6 b 3 hb1 (by omega), set6 b 4 hb1 (by omega), set6 b 5 hb1 (by omega)⟩
  · rw [f10] at hra
    rw [f5, f6] at he
    have hRa := (rb a ha).1 hra
    have hEd : E a b := by rw [hE]; exact ⟨ha, hb1, he⟩
    have hRb := hcl a b hRa hEd
    have lo : LOv yf a b = LOv y a b := by
      simp only [LOv, fL 6 (by omega) (by omega), fL 5 (by omega) (by omega), fL 1 (by omega) (by omega), fL 7 (by omega) (by omega), fL 8 (by omega) (by omega), fL 2 (by omega) (by omega)]
    rw [lo, fL 8 (by omega) (by omega)]
    have cls : ∀ e, hb (LOv y a b &&& (y.2.2 8 b ^^^ (-1))) e = true ↔ e < m ∧ Px n E (Rch E) (Chm w sz e) (Asm w sz e) (Bh e) (Wt e) (Lt e) a b := by
      intro e
      rw [hb_andn, Bool.and_eq_true, Bool.not_eq_true', ← Bool.not_eq_true]
      rcases Nat.lt_or_ge e m with he | he
      · rw [LOe a b e ha hb1 hRa he, show (hb (y.2.2 8 b) e = true ↔ Lt e b) from (eq e he).2.2 b hb1]
        exact ⟨fun h => ⟨he, ⟨hRa, hEd⟩, h.1, h.2⟩, fun h => ⟨h.2.2.1, h.2.2.2⟩⟩
      · constructor
        · intro h
          rw [hb_LOv] at h
          rcases h.1 with q | q
          · exact absurd q.1 (tt (cm b e hb1 hRb he 6 (by omega) (by omega) (by omega)))
          · exact absurd q.1 (tt (cm a e ha hRa he 8 (by omega) (by omega) (by omega)))
        · intro h; omega
    have rf : ∀ e, hw (yf.2.1 23 (16 * a + b)) e = true ↔ e < m ∧ Px n E (Rch E) (Chm w sz e) (Asm w sz e) (Bh e) (Wt e) (Lt e) a b := by
      intro e
      rw [m23 _ e (by omega)]
      constructor
      · rintro ⟨h1, ⟨b', hb', hr, a', ha', ht, hp⟩ | ⟨ht, _⟩⟩
        · have e1 : b' = b := by omega
          have e2 : a' = a := by omega
          subst e1; subst e2; exact ⟨h1, hp⟩
        · omega
      · rintro ⟨h1, hp⟩; exact ⟨h1, Or.inl ⟨b, hb1, hRb, a, ha, rfl, hp⟩⟩
    refine wide (fun e he => ?_) (fun e he => ?_) (fun e he => ?_)
    · have := (cls e).trans (rf e).symm
      cases h1 : hb (LOv y a b &&& (y.2.2 8 b ^^^ (-1))) e
      · exact (ff (fun h2 => tt h1 (this.2 h2))).symm
      · exact (this.1 h1).symm
    · exact ff (fun h => by have := ((cls e).1 h).1; omega)
    · exact ff (fun h => by have := ((rf e).1 h).1; omega)
  · rw [fL 6 (by omega) (by omega), fL 8 (by omega) (by omega)]
    have cls : ∀ e, hb (y.2.2 6 0 &&& (y.2.2 8 0 ^^^ (-1))) e = true ↔ e < m ∧ Wt e 0 ∧ ¬ Lt e 0 := by
      intro e
      rw [hb_andn, Bool.and_eq_true, Bool.not_eq_true', ← Bool.not_eq_true]
      rcases Nat.lt_or_ge e m with he | he
      · rw [show (hb (y.2.2 8 0) e = true ↔ Lt e 0) from (eq e he).2.2 0 hn0, show (hb (y.2.2 6 0) e = true ↔ Wt e 0) from (eq e he).2.1 0 hn0]
        exact ⟨fun h => ⟨he, h⟩, fun h => h.2⟩
      · exact ⟨fun h => absurd h.1 (tt (cm 0 e hn0 rch0 he 6 (by omega) (by omega) (by omega))), fun h => absurd h.1 (by omega)⟩
    have rf : ∀ e, hw (yf.2.1 23 256) e = true ↔ e < m ∧ Wt e 0 ∧ ¬ Lt e 0 := by
      intro e
      rw [m23 _ e (by omega)]
      constructor
      · rintro ⟨h1, ⟨b', hb', hr, a', ha', ht, hp⟩ | ⟨_, h⟩⟩
        · omega
        · exact ⟨h1, h⟩
      · rintro ⟨h1, h⟩; exact ⟨h1, Or.inr ⟨rfl, h⟩⟩
    refine wide (fun e he => ?_) (fun e he => ?_) (fun e he => ?_)
    · have := (cls e).trans (rf e).symm
      cases h1 : hb (y.2.2 6 0 &&& (y.2.2 8 0 ^^^ (-1))) e
      · exact (ff (fun h2 => tt h1 (this.2 h2))).symm
      · exact (this.1 h1).symm
    · exact ff (fun h => by have := ((cls e).1 h).1; omega)
    · exact ff (fun h => by have := ((rf e).1 h).1; omega)
  · rw [fL 9 (by omega) (by omega)] at hh
    have := (six b 5 e hb1 (by omega)).1 hh
    rw [m12 e]
    rcases this.2.2 with ⟨h, _⟩ | ⟨h, _⟩ | ⟨h, _⟩ | ⟨h, _⟩ | ⟨h, _⟩ | ⟨_, h⟩
    · omega
    · omega
    · omega
    · omega
    · omega
    · exact ⟨this.1, b, hb1, this.2.1, h⟩
  · exact ff (fun h => by have := ((six b 5 e hb1 (by omega)).1 h).1; omega)
  · rw [m12 e]
    constructor
    · rintro ⟨h1, b, hb1, hr, h⟩
      exact ⟨b, hb1, (six b 5 e hb1 (by omega)).2 ⟨h1, hr, Or.inr (Or.inr (Or.inr (Or.inr (Or.inr ⟨rfl, h⟩))))⟩⟩
    · rintro ⟨b, hb1, h⟩
      have := (six b 5 e hb1 (by omega)).1 h
      rcases this.2.2 with ⟨h, _⟩ | ⟨h, _⟩ | ⟨h, _⟩ | ⟨h, _⟩ | ⟨h, _⟩ | ⟨_, h⟩
      · omega
      · omega
      · omega
      · omega
      · omega
      · exact ⟨this.1, b, hb1, this.2.1, h⟩
