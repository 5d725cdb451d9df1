theorem rng {x : Int32} {k : Nat} (hk : k < 2147483648) : (¬ x < ix 0 ∧ ¬ ix k ≤ x) ↔ ∃ t, t < k ∧ x = ix t := by
  constructor
  · rintro ⟨h1, h2⟩
    obtain ⟨t, ht, rfl⟩ := ix_ex h1
    rw [ix_le hk ht] at h2
    exact ⟨t, by omega, rfl⟩
  · rintro ⟨t, ht, rfl⟩
    rw [ix_le hk (by omega)]
    exact ⟨ix_nlt0 (by omega), by omega⟩
theorem rng' {x : Int32} {k : Nat} (hk : k < 2147483647) : (¬ x < ix 0 ∧ ¬ ix k < x) ↔ ∃ t, t < k + 1 ∧ x = ix t := by
  constructor
  · rintro ⟨h1, h2⟩
    obtain ⟨t, ht, rfl⟩ := ix_ex h1
    rw [ix_lt (by omega) ht] at h2
    exact ⟨t, by omega, rfl⟩
  · rintro ⟨t, ht, rfl⟩
    refine ⟨ix_nlt0 (by omega), ?_⟩
    rw [ix_lt (by omega) (by omega)]; omega
theorem s_C_isVariable {z : Sta} {K : Int32 → Sta → Prop} {x : Int32} (h : ∀ v, isb v (∃ t, t < 6 ∧ x = ix t) → K v z) : wp_C_isVariable x z K := by
  have hr := rng (x := x) (k := 6) (by omega)
  try simp (disch := omega) only [wp_C_isVariable, pj_C_isVariable_14, pj_C_isVariable_15, forall_eq, l0, l1, l2, l3, l4, l5, l6, l15, l16, l24, l30, l99, l100, l200, l385, lm1, ix_ne, ne_ix, ix_nat, vp_ix, ix_inj, ix_le, ix_lt, ix_add, ix_mul, ix_sub, nar0', nar1', or00, or01, or10, or11, rI, rIA, rIL, rA, rAI, rAL, rL, rLI, rLA, ru, ruL, reduceIte, Nat.reduceEqDiff, true_or, or_true, true_and, and_true, false_or, or_false, not_true_eq_false, not_false_eq_true, false_implies, true_implies, implies_true, i10, i01]
  exact ⟨fun h0 => h _ (Or.inr ⟨rfl, fun hh => (hr.2 hh).1 h0⟩), fun h0 => ⟨fun h1 => h _ (Or.inr ⟨rfl, fun hh => (hr.2 hh).2 h1⟩), fun h1 => h _ (Or.inl ⟨rfl, hr.1 ⟨h0, h1⟩⟩)⟩⟩
theorem s_C_mayBeBlock {z : Sta} {K : Int32 → Sta → Prop} {x : Int32} (h : ∀ v, isb v (∃ t, t < 16 ∧ x = ix t) → K v z) : wp_C_mayBeBlock x z K := by
  have hr := rng (x := x) (k := 16) (by omega)
  try simp (disch := omega) only [wp_C_mayBeBlock, pj_C_mayBeBlock_14, pj_C_mayBeBlock_15, forall_eq, l0, l1, l2, l3, l4, l5, l6, l15, l16, l24, l30, l99, l100, l200, l385, lm1, ix_ne, ne_ix, ix_nat, vp_ix, ix_inj, ix_le, ix_lt, ix_add, ix_mul, ix_sub, nar0', nar1', or00, or01, or10, or11, rI, rIA, rIL, rA, rAI, rAL, rL, rLI, rLA, ru, ruL, reduceIte, Nat.reduceEqDiff, true_or, or_true, true_and, and_true, false_or, or_false, not_true_eq_false, not_false_eq_true, false_implies, true_implies, implies_true, i10, i01]
  exact ⟨fun h0 => h _ (Or.inr ⟨rfl, fun hh => (hr.2 hh).1 h0⟩), fun h0 => ⟨fun h1 => h _ (Or.inr ⟨rfl, fun hh => (hr.2 hh).2 h1⟩), fun h1 => h _ (Or.inl ⟨rfl, hr.1 ⟨h0, h1⟩⟩)⟩⟩
theorem s_P_hasBlock {z : Sta} {K : Int32 → Sta → Prop} {x : Int32} {n : Nat} (hn : n ≤ 16) (hN : z.1 2 = ix n) (h : ∀ v, isb v (∃ t, t < n ∧ x = ix t) → K v z) : wp_P_hasBlock x z K := by
  have hr := rng (x := x) (k := n) (by omega)
  try simp (disch := omega) only [wp_P_hasBlock, pj_P_hasBlock_16, pj_P_hasBlock_17, hN, forall_eq, l0, l1, l2, l3, l4, l5, l6, l15, l16, l24, l30, l99, l100, l200, l385, lm1, ix_ne, ne_ix, ix_nat, vp_ix, ix_inj, ix_le, ix_lt, ix_add, ix_mul, ix_sub, nar0', nar1', or00, or01, or10, or11, rI, rIA, rIL, rA, rAI, rAL, rL, rLI, rLA, ru, ruL, reduceIte, Nat.reduceEqDiff, true_or, or_true, true_and, and_true, false_or, or_false, not_true_eq_false, not_false_eq_true, false_implies, true_implies, implies_true, i10, i01]
  exact ⟨fun h0 => h _ (Or.inr ⟨rfl, fun hh => (hr.2 hh).1 h0⟩), fun h0 => ⟨fun h1 => h _ (Or.inr ⟨rfl, fun hh => (hr.2 hh).2 h1⟩), fun h1 => h _ (Or.inl ⟨rfl, hr.1 ⟨h0, h1⟩⟩)⟩⟩
theorem s_M_withinG {z : Sta} {K : Int32 → Sta → Prop} {x lo hi : Int32} (h : ∀ v, isb v (¬ x < lo ∧ ¬ hi < x) → K v z) : wp_M_within x lo hi z K := by
  try simp (disch := omega) only [wp_M_within, pj_M_within_14, pj_M_within_15, forall_eq, l0, l1, l2, l3, l4, l5, l6, l15, l16, l24, l30, l99, l100, l200, l385, lm1, ix_ne, ne_ix, ix_nat, vp_ix, ix_inj, ix_le, ix_lt, ix_add, ix_mul, ix_sub, nar0', nar1', or00, or01, or10, or11, rI, rIA, rIL, rA, rAI, rAL, rL, rLI, rLA, ru, ruL, reduceIte, Nat.reduceEqDiff, true_or, or_true, true_and, and_true, false_or, or_false, not_true_eq_false, not_false_eq_true, false_implies, true_implies, implies_true, i10, i01]
  exact ⟨fun h0 => h _ (Or.inr ⟨rfl, fun hh => hh.1 h0⟩), fun h0 => ⟨fun h1 => h _ (Or.inr ⟨rfl, fun hh => hh.2 h1⟩), fun h1 => h _ (Or.inl ⟨rfl, h0, h1⟩)⟩⟩
theorem s_M_within {z : Sta} {K : Int32 → Sta → Prop} {x : Int32} {k : Nat} (hk : k < 2147483647) (h : ∀ v, isb v (∃ t, t < k + 1 ∧ x = ix t) → K v z) : wp_M_within x (ix 0) (ix k) z K :=
  s_M_withinG (fun v hv => h v (isb_c hv (rng' hk)))
theorem s_M_withinm {z : Sta} {K : Int32 → Sta → Prop} {x : Int32} {n : Nat} (hn : n < 2147483647) (h : ∀ v, isb v (∃ t, t < n ∧ x = ix t) → K v z) : wp_M_within x (ix 0) (ix n - ix 1) z K := by
  rcases Nat.eq_zero_or_pos n with e | e
  · subst e
    have : ix 0 - ix 1 = mi := by decide
    rw [this]
    refine s_M_withinG (fun v hv => h v (isb_c hv ⟨fun hh => ?_, fun ⟨t, ht, _⟩ => absurd ht (by omega)⟩))
    obtain ⟨t, ht, rfl⟩ := ix_ex hh.1
    exfalso
    apply hh.2
    rw [Int32.lt_iff_toInt_lt, m1_toInt, ix_toInt ht]; omega
  · rw [ix_sub e]
    have := s_M_within (z := z) (K := K) (x := x) (k := n - 1) (by omega)
    rw [show n - 1 + 1 = n by omega] at this
    exact this h
def mt (z : Sta) (i j k : Nat) (y o w : Int32) (e : Nat) : Prop := z.2.1 i e = y ∧ z.2.1 j e = o ∧ z.2.1 k e = w
theorem s_P_findExpression {z : Sta} {K : Int32 → Sta → Prop} {y o w : Int32} {m : Nat} (hm : m ≤ 24) (hM : z.1 3 = ix m) (h1 : ∀ e, e < m → mt z 7 8 9 y o w e → K (ix e) z) (h2 : (∀ e, e < m → ¬ mt z 7 8 9 y o w e) → K mi z) : wp_P_findExpression y o w z K := by
  have loop : ∀ (k i : Nat), i + k = m → (∀ e, e < i → ¬ mt z 7 8 9 y o w e) → lp_P_findExpression_3 K (k + 1) y o w (ix i) z := by
    intro k
    induction k with
    | zero =>
      intro i hik hno
      rw [lp_P_findExpression_3]
      try simp (disch := omega) only [hM, forall_eq, l0, l1, l2, l3, l4, l5, l6, l15, l16, l24, l30, l99, l100, l200, l385, lm1, ix_ne, ne_ix, ix_nat, vp_ix, ix_inj, ix_le, ix_lt, ix_add, ix_mul, ix_sub, nar0', nar1', or00, or01, or10, or11, rI, rIA, rIL, rA, rAI, rAL, rL, rLI, rLA, ru, ruL, reduceIte, Nat.reduceEqDiff, true_or, or_true, true_and, and_true, false_or, or_false, not_true_eq_false, not_false_eq_true, false_implies, true_implies, implies_true, i10, i01]
      exact ⟨fun _ => h2 (fun e he => hno e (by omega)), fun h => absurd (by omega) h⟩
    | succ k ih =>
      intro i hik hno
      have nxt : ¬ mt z 7 8 9 y o w i → lp_P_findExpression_3 K (k + 1) y o w (ix (i + 1)) z := by
        intro hn
        refine ih (i + 1) (by omega) (fun e he => ?_)
        rcases Nat.lt_or_ge e i with q | q
        · exact hno e q
        · have : e = i := by omega
          subst this; exact hn
      rw [lp_P_findExpression_3]
      try simp (disch := omega) only [hM, pj_P_findExpression_48, forall_eq, l0, l1, l2, l3, l4, l5, l6, l15, l16, l24, l30, l99, l100, l200, l385, lm1, ix_ne, ne_ix, ix_nat, vp_ix, ix_inj, ix_le, ix_lt, ix_add, ix_mul, ix_sub, nar0', nar1', or00, or01, or10, or11, rI, rIA, rIL, rA, rAI, rAL, rL, rLI, rLA, ru, ruL, reduceIte, Nat.reduceEqDiff, true_or, or_true, true_and, and_true, false_or, or_false, not_true_eq_false, not_false_eq_true, false_implies, true_implies, implies_true, i10, i01]
      refine ⟨fun h => absurd h (by omega), fun _ => ⟨by omega, fun h => nxt (fun hh => h hh.1), fun a => ⟨by omega, fun h => nxt (fun hh => h hh.2.1), fun b => ⟨by omega, fun h => nxt (fun hh => h hh.2.2), fun c => h1 i (by omega) ⟨a, b, c⟩⟩⟩⟩⟩
  try simp (disch := omega) only [wp_P_findExpression, forall_eq, l0, l1, l2, l3, l4, l5, l6, l15, l16, l24, l30, l99, l100, l200, l385, lm1, ix_ne, ne_ix, ix_nat, vp_ix, ix_inj, ix_le, ix_lt, ix_add, ix_mul, ix_sub, nar0', nar1', or00, or01, or10, or11, rI, rIA, rIL, rA, rAI, rAL, rL, rLI, rLA, ru, ruL, reduceIte, Nat.reduceEqDiff, true_or, or_true, true_and, and_true, false_or, or_false, not_true_eq_false, not_false_eq_true, false_implies, true_implies, implies_true, i10, i01]
  exact ⟨m + 1, loop m 0 (by omega) (fun e he => absurd he (by omega))⟩
theorem s_M_find {z : Sta} {K : Int32 → Sta → Prop} {y o w : Int32} {m : Nat} (hm : m ≤ 24) (hM : z.1 9 = ix m) (h1 : ∀ e, e < m → mt z 18 19 20 y o w e → K (ix e) z) (h2 : (∀ e, e < m → ¬ mt z 18 19 20 y o w e) → K mi z) : wp_M_find y o w z K := by
  have loop : ∀ (k i : Nat) (x4 : Int32), i + k = m → ((x4 = mi ∧ ∀ e, e < i → ¬ mt z 18 19 20 y o w e) ∨ ∃ e, e < i ∧ mt z 18 19 20 y o w e ∧ x4 = ix e) → lp_M_find_6 K (k + 1) y o w x4 (ix i) z := by
    intro k
    induction k with
    | zero =>
      intro i x4 hik hno
      rw [lp_M_find_6]
      try simp (disch := omega) only [hM, forall_eq, l0, l1, l2, l3, l4, l5, l6, l15, l16, l24, l30, l99, l100, l200, l385, lm1, ix_ne, ne_ix, ix_nat, vp_ix, ix_inj, ix_le, ix_lt, ix_add, ix_mul, ix_sub, nar0', nar1', or00, or01, or10, or11, rI, rIA, rIL, rA, rAI, rAL, rL, rLI, rLA, ru, ruL, reduceIte, Nat.reduceEqDiff, true_or, or_true, true_and, and_true, false_or, or_false, not_true_eq_false, not_false_eq_true, false_implies, true_implies, implies_true, i10, i01]
      refine ⟨fun _ => ?_, fun h => absurd (by omega) h⟩
      rcases hno with ⟨e, hn⟩ | ⟨e, he, hmt, hx⟩
      · rw [e]; exact h2 (fun d hd => hn d (by omega))
      · rw [hx]; exact h1 e (by omega) hmt
    | succ k ih =>
      intro i x4 hik hno
      have nxt : ¬ mt z 18 19 20 y o w i → lp_M_find_6 K (k + 1) y o w x4 (ix (i + 1)) z := by
        intro hn
        refine ih (i + 1) x4 (by omega) ?_
        rcases hno with ⟨e, hno⟩ | ⟨e, he, hmt, hx⟩
        · refine Or.inl ⟨e, fun d hd => ?_⟩
          rcases Nat.lt_or_ge d i with q | q
          · exact hno d q
          · have : d = i := by omega
            subst this; exact hn
        · exact Or.inr ⟨e, by omega, hmt, hx⟩
      rw [lp_M_find_6]
      try simp (disch := omega) only [hM, pj_M_find_53, pj_M_find_55, forall_eq, l0, l1, l2, l3, l4, l5, l6, l15, l16, l24, l30, l99, l100, l200, l385, lm1, ix_ne, ne_ix, ix_nat, vp_ix, ix_inj, ix_le, ix_lt, ix_add, ix_mul, ix_sub, nar0', nar1', or00, or01, or10, or11, rI, rIA, rIL, rA, rAI, rAL, rL, rLI, rLA, ru, ruL, reduceIte, Nat.reduceEqDiff, true_or, or_true, true_and, and_true, false_or, or_false, not_true_eq_false, not_false_eq_true, false_implies, true_implies, implies_true, i10, i01]
      refine ⟨fun h => absurd h (by omega), fun _ => ⟨by omega, fun h => nxt (fun hh => h hh.1), fun a => ⟨by omega, fun h => nxt (fun hh => h hh.2.1), fun b => ⟨by omega, fun h => nxt (fun hh => h hh.2.2), fun c => ih (i + 1) _ (by omega) (Or.inr ⟨i, by omega, ⟨a, b, c⟩, rfl⟩)⟩⟩⟩⟩
  try simp (disch := omega) only [wp_M_find, forall_eq, l0, l1, l2, l3, l4, l5, l6, l15, l16, l24, l30, l99, l100, l200, l385, lm1, ix_ne, ne_ix, ix_nat, vp_ix, ix_inj, ix_le, ix_lt, ix_add, ix_mul, ix_sub, nar0', nar1', or00, or01, or10, or11, rI, rIA, rIL, rA, rAI, rAL, rL, rLI, rLA, ru, ruL, reduceIte, Nat.reduceEqDiff, true_or, or_true, true_and, and_true, false_or, or_false, not_true_eq_false, not_false_eq_true, false_implies, true_implies, implies_true, i10, i01]
  exact ⟨m + 1, loop m 0 mi (by omega) (Or.inl ⟨rfl, fun e he => absurd he (by omega)⟩)⟩
theorem mt_eq {n m : Nat} {sz : Nat → Nat} {z y1 y2 : Sta} (hP : Prg n m sz z) {y o w : Int32} {e d : Nat} (he : e < m) (hd : d < m) (e7 : y1.2.1 7 = z.2.1 7) (e8 : y1.2.1 8 = z.2.1 8) (e9 : y1.2.1 9 = z.2.1 9) (e18 : y2.2.1 18 = z.2.1 18) (e19 : y2.2.1 19 = z.2.1 19) (e20 : y2.2.1 20 = z.2.1 20) (h1 : mt y1 7 8 9 y o w e) : (mt y2 18 19 20 y o w d ↔ d = e) := by
  obtain ⟨-, -, -, -, -, -, -, -, -, pex, -, pun⟩ := hP
  simp only [mt, e7, e8, e9, e18, e19, e20] at h1 ⊢
  obtain ⟨⟨a, ha, ha1, ha2⟩, hb1, ⟨c, hc, hc1, hc2⟩⟩ := pex d hd
  rw [ha2, ← ha1, ← hb1, hc2, ← hc1]
  constructor
  · intro h2
    exact pun d e hd he (h2.1.trans h1.1.symm) (h2.2.1.trans h1.2.1.symm) (h2.2.2.trans h1.2.2.symm)
  · intro h2; rw [h2]; exact h1
theorem mt_no {n m : Nat} {sz : Nat → Nat} {z y1 y2 : Sta} (hP : Prg n m sz z) {y o w : Int32} (e7 : y1.2.1 7 = z.2.1 7) (e8 : y1.2.1 8 = z.2.1 8) (e9 : y1.2.1 9 = z.2.1 9) (e18 : y2.2.1 18 = z.2.1 18) (e19 : y2.2.1 19 = z.2.1 19) (e20 : y2.2.1 20 = z.2.1 20) (h1 : ∀ e, e < m → ¬ mt y1 7 8 9 y o w e) : ∀ e, e < m → ¬ mt y2 18 19 20 y o w e := by
  obtain ⟨-, -, -, -, -, -, -, -, -, pex, -, pun⟩ := hP
  intro d hd hh
  apply h1 d hd
  simp only [mt, e7, e8, e9, e18, e19, e20] at hh ⊢
  obtain ⟨⟨a, ha, ha1, ha2⟩, hb1, ⟨c, hc, hc1, hc2⟩⟩ := pex d hd
  rw [ha2, ← ha1, ← hb1, hc2, ← hc1] at hh
  exact hh
theorem d_expression {z : Sta} {x1 x2 x3 : Int32} {X : Int32 → Int32 → Int32 → Sta → Prop} (hR : Rel z) (hX : ∀ k b t y, t = k → (k = ix 0 → y.2.2 10 0 = b.toInt64) → Rel y → X k b t y) : wp_L_expression x1 x2 x3 z (fun k z1 => wp_M_expression x1 x2 x3 z1 (fun b z2 => wp_M_thrown z2 (fun t z3 => X k b t z3))) := by
  have hR0 := hR
  obtain ⟨n, m, sz, hP, hF, hN⟩ := hR
  have hP0 := hP
  obtain ⟨hn, hm, p2, p8, p3, p9, psz, pst, ped, pex, pus, pun⟩ := hP
  try simp (disch := omega) only [wp_L_expression, wp_C_expression, forall_eq, l0, l1, l2, l3, l4, l5, l6, l15, l16, l24, l30, l99, l100, l200, l385, lm1, ix_ne, ne_ix, ix_nat, vp_ix, ix_inj, ix_le, ix_lt, ix_add, ix_mul, ix_sub, nar0', nar1', or00, or01, or10, or11, rI, rIA, rIL, rA, rAI, rAL, rL, rLI, rLA, ru, ruL, reduceIte, Nat.reduceEqDiff, true_or, or_true, true_and, and_true, false_or, or_false, not_true_eq_false, not_false_eq_true, false_implies, true_implies, implies_true, i10, i01]
  refine s_P_findExpression hm p3 (fun e he hmt => ?_) (fun hno => ?_)
  · have hez : e < 2147483648 := by omega
    refine ⟨fun _ => ?_, fun h => absurd h (ix_ne hez)⟩
    try simp (disch := omega) only [wp_M_expression, wp_M_thrown, forall_eq, l0, l1, l2, l3, l4, l5, l6, l15, l16, l24, l30, l99, l100, l200, l385, lm1, ix_ne, ne_ix, ix_nat, vp_ix, ix_inj, ix_le, ix_lt, ix_add, ix_mul, ix_sub, nar0', nar1', or00, or01, or10, or11, rI, rIA, rIL, rA, rAI, rAL, rL, rLI, rLA, ru, ruL, reduceIte, Nat.reduceEqDiff, true_or, or_true, true_and, and_true, false_or, or_false, not_true_eq_false, not_false_eq_true, false_implies, true_implies, implies_true, i10, i01]
    have hN9 : (zI (zL z 10 (vp_updL (z.2.2 10) 0 (ix e).toInt64)) 7 (ix 0)).1 9 = ix m := by
      try simp (disch := omega) only [forall_eq, l0, l1, l2, l3, l4, l5, l6, l15, l16, l24, l30, l99, l100, l200, l385, lm1, ix_ne, ne_ix, ix_nat, vp_ix, ix_inj, ix_le, ix_lt, ix_add, ix_mul, ix_sub, nar0', nar1', or00, or01, or10, or11, rI, rIA, rIL, rA, rAI, rAL, rL, rLI, rLA, ru, ruL, reduceIte, Nat.reduceEqDiff, true_or, or_true, true_and, and_true, false_or, or_false, not_true_eq_false, not_false_eq_true, false_implies, true_implies, implies_true, i10, i01]
      exact p9
    refine s_M_find hm hN9 (fun d hd hdt => ?_) (fun hno => absurd ((mt_eq hP0 (y1 := z) (y2 := zI (zL z 10 (vp_updL (z.2.2 10) 0 (ix e).toInt64)) 7 (ix 0)) he he rfl rfl rfl rfl rfl rfl hmt).2 rfl) (hno e he))
    have := (mt_eq hP0 (y1 := z) (y2 := zI (zL z 10 (vp_updL (z.2.2 10) 0 (ix e).toInt64)) 7 (ix 0)) he hd rfl rfl rfl rfl rfl rfl hmt).1 hdt
    subst this
    try simp (disch := omega) only [pj_M_expression_29, forall_eq, l0, l1, l2, l3, l4, l5, l6, l15, l16, l24, l30, l99, l100, l200, l385, lm1, ix_ne, ne_ix, ix_nat, vp_ix, ix_inj, ix_le, ix_lt, ix_add, ix_mul, ix_sub, nar0', nar1', or00, or01, or10, or11, rI, rIA, rIL, rA, rAI, rAL, rL, rLI, rLA, ru, ruL, reduceIte, Nat.reduceEqDiff, true_or, or_true, true_and, and_true, false_or, or_false, not_true_eq_false, not_false_eq_true, false_implies, true_implies, implies_true, i10, i01]
    refine ⟨fun _ => hX _ _ _ _ rfl (fun _ => ?_) (Rel_fr hR0 (fr_I (fr_L (fr_refl z) (by decide) _) (by decide) _)), fun h => absurd (by omega) h⟩
    try simp (disch := omega) only [forall_eq, l0, l1, l2, l3, l4, l5, l6, l15, l16, l24, l30, l99, l100, l200, l385, lm1, ix_ne, ne_ix, ix_nat, vp_ix, ix_inj, ix_le, ix_lt, ix_add, ix_mul, ix_sub, nar0', nar1', or00, or01, or10, or11, rI, rIA, rIL, rA, rAI, rAL, rL, rLI, rLA, ru, ruL, reduceIte, Nat.reduceEqDiff, true_or, or_true, true_and, and_true, false_or, or_false, not_true_eq_false, not_false_eq_true, false_implies, true_implies, implies_true, i10, i01]
  · refine ⟨fun h => absurd rfl h, fun _ => ?_⟩
    have : wp_M_expression x1 x2 x3 z (fun b z2 => wp_M_thrown z2 (fun t z3 => X (ix 1) b t z3)) := by
      try simp (disch := omega) only [wp_M_expression, wp_M_thrown, forall_eq, l0, l1, l2, l3, l4, l5, l6, l15, l16, l24, l30, l99, l100, l200, l385, lm1, ix_ne, ne_ix, ix_nat, vp_ix, ix_inj, ix_le, ix_lt, ix_add, ix_mul, ix_sub, nar0', nar1', or00, or01, or10, or11, rI, rIA, rIL, rA, rAI, rAL, rL, rLI, rLA, ru, ruL, reduceIte, Nat.reduceEqDiff, true_or, or_true, true_and, and_true, false_or, or_false, not_true_eq_false, not_false_eq_true, false_implies, true_implies, implies_true, i10, i01]
      have hN9 : (zI z 7 (ix 0)).1 9 = ix m := by
        try simp (disch := omega) only [forall_eq, l0, l1, l2, l3, l4, l5, l6, l15, l16, l24, l30, l99, l100, l200, l385, lm1, ix_ne, ne_ix, ix_nat, vp_ix, ix_inj, ix_le, ix_lt, ix_add, ix_mul, ix_sub, nar0', nar1', or00, or01, or10, or11, rI, rIA, rIL, rA, rAI, rAL, rL, rLI, rLA, ru, ruL, reduceIte, Nat.reduceEqDiff, true_or, or_true, true_and, and_true, false_or, or_false, not_true_eq_false, not_false_eq_true, false_implies, true_implies, implies_true, i10, i01]
        exact p9
      refine s_M_find hm hN9 (fun d hd hdt => absurd hdt (mt_no hP0 (y1 := z) (y2 := zI z 7 (ix 0)) rfl rfl rfl rfl rfl rfl hno d hd)) (fun _ => ?_)
      have lt0 : mi < ix 0 := by decide
      have nle : ¬ ix 0 ≤ mi := by decide
      try simp (disch := omega) only [pj_M_expression_29, nle, wp_M_fail, forall_eq, l0, l1, l2, l3, l4, l5, l6, l15, l16, l24, l30, l99, l100, l200, l385, lm1, ix_ne, ne_ix, ix_nat, vp_ix, ix_inj, ix_le, ix_lt, ix_add, ix_mul, ix_sub, nar0', nar1', or00, or01, or10, or11, rI, rIA, rIL, rA, rAI, rAL, rL, rLI, rLA, ru, ruL, reduceIte, Nat.reduceEqDiff, true_or, or_true, true_and, and_true, false_or, or_false, not_true_eq_false, not_false_eq_true, false_implies, true_implies, implies_true, i10, i01]
      exact hX _ _ _ _ rfl (fun h => absurd h i10) (Rel_fr hR0 (fr_I (fr_I (fr_refl z) (by decide) _) (by decide) _))
    exact this
theorem d_outs {z : Sta} {X : Int32 → Int32 → Sta → Prop} (hR : Rel z) (hX : ∀ k y, Rel y → X k k y) : wp_C_outs z (fun k z1 => wp_M_outs z1 (fun b z2 => X k b z2)) := by
  have hR0 := hR
  obtain ⟨n, m, sz, hP, hF, ⟨⟨gv, hgv, g1, g2, g3⟩, r2, r3, r4, r5⟩⟩ := hR
  try simp (disch := omega) only [wp_C_outs, wp_M_outs, g1, g2, forall_eq, l0, l1, l2, l3, l4, l5, l6, l15, l16, l24, l30, l99, l100, l200, l385, lm1, ix_ne, ne_ix, ix_nat, vp_ix, ix_inj, ix_le, ix_lt, ix_add, ix_mul, ix_sub, nar0', nar1', or00, or01, or10, or11, rI, rIA, rIL, rA, rAI, rAL, rL, rLI, rLA, ru, ruL, reduceIte, Nat.reduceEqDiff, true_or, or_true, true_and, and_true, false_or, or_false, not_true_eq_false, not_false_eq_true, false_implies, true_implies, implies_true, i10, i01]
  exact hX _ _ (Rel_fr hR0 (fr_I (fr_refl z) (by decide) _))
theorem d_computed {z : Sta} {x1 : Int32} {X : Int32 → Int32 → Sta → Prop} (hR : Rel z) (hX : ∀ k y, Rel y → X k k y) : wp_C_computed x1 z (fun k z1 => wp_M_computed x1 z1 (fun b z2 => X k b z2)) := by
  have hR0 := hR
  obtain ⟨n, m, sz, hP, hF, ⟨r1, r2, r3, r4, r5⟩⟩ := hR
  obtain ⟨hn, hm, p2, p8, p3, p9, -⟩ := hP
  have hRf := Rel_fr hR0 (fr_I (fr_refl z) (k := 7) (by decide) (ix 0))
  have ref : ∀ v : Int32, (∀ e, e < m → x1 = ix e → v = z.2.1 34 e) → ((∀ e, e < m → ¬ x1 = ix e) → v = ix 0) → wp_M_computed x1 z (fun b z2 => X v b z2) := by
    intro v hv1 hv2
    try simp (disch := omega) only [wp_M_computed, p9, forall_eq, l0, l1, l2, l3, l4, l5, l6, l15, l16, l24, l30, l99, l100, l200, l385, lm1, ix_ne, ne_ix, ix_nat, vp_ix, ix_inj, ix_le, ix_lt, ix_add, ix_mul, ix_sub, nar0', nar1', or00, or01, or10, or11, rI, rIA, rIL, rA, rAI, rAL, rL, rLI, rLA, ru, ruL, reduceIte, Nat.reduceEqDiff, true_or, or_true, true_and, and_true, false_or, or_false, not_true_eq_false, not_false_eq_true, false_implies, true_implies, implies_true, i10, i01]
    refine s_M_withinm (by omega) (fun w hw => ?_)
    try simp (disch := omega) only [pj_M_computed_29, forall_eq, l0, l1, l2, l3, l4, l5, l6, l15, l16, l24, l30, l99, l100, l200, l385, lm1, ix_ne, ne_ix, ix_nat, vp_ix, ix_inj, ix_le, ix_lt, ix_add, ix_mul, ix_sub, nar0', nar1', or00, or01, or10, or11, rI, rIA, rIL, rA, rAI, rAL, rL, rLI, rLA, ru, ruL, reduceIte, Nat.reduceEqDiff, true_or, or_true, true_and, and_true, false_or, or_false, not_true_eq_false, not_false_eq_true, false_implies, true_implies, implies_true, i10, i01]
    refine ⟨fun h0 => ?_, fun h0 => ?_⟩
    · have := hv2 (fun e he hx => (isb_z hw).1 h0 ⟨e, he, hx⟩)
      rw [this]; exact hX _ _ hRf
    · obtain ⟨e, he, hx⟩ := isb_n hw h0
      have := hv1 e he hx
      subst hx
      try simp (disch := omega) only [forall_eq, l0, l1, l2, l3, l4, l5, l6, l15, l16, l24, l30, l99, l100, l200, l385, lm1, ix_ne, ne_ix, ix_nat, vp_ix, ix_inj, ix_le, ix_lt, ix_add, ix_mul, ix_sub, nar0', nar1', or00, or01, or10, or11, rI, rIA, rIL, rA, rAI, rAL, rL, rLI, rLA, ru, ruL, reduceIte, Nat.reduceEqDiff, true_or, or_true, true_and, and_true, false_or, or_false, not_true_eq_false, not_false_eq_true, false_implies, true_implies, implies_true, i10, i01]
      rw [this]; exact ⟨by omega, hX _ _ hRf⟩
  have hr := rng (x := x1) (k := 24) (by omega)
  try simp (disch := omega) only [wp_C_computed, pj_C_computed_10, forall_eq, l0, l1, l2, l3, l4, l5, l6, l15, l16, l24, l30, l99, l100, l200, l385, lm1, ix_ne, ne_ix, ix_nat, vp_ix, ix_inj, ix_le, ix_lt, ix_add, ix_mul, ix_sub, nar0', nar1', or00, or01, or10, or11, rI, rIA, rIL, rA, rAI, rAL, rL, rLI, rLA, ru, ruL, reduceIte, Nat.reduceEqDiff, true_or, or_true, true_and, and_true, false_or, or_false, not_true_eq_false, not_false_eq_true, false_implies, true_implies, implies_true, i10, i01]
  refine ⟨fun h0 => ref _ (fun e he hx => absurd h0 (by rw [hx]; exact ix_nlt0 (by omega))) (fun _ => rfl), fun h0 => ⟨fun h1 => ?_, fun h1 => ref _ (fun e he hx => ?_) (fun _ => rfl)⟩⟩
  · obtain ⟨t, ht, rfl⟩ := ix_ex h0
    rw [ix_lt ht (by omega)] at h1
    try simp (disch := omega) only [forall_eq, l0, l1, l2, l3, l4, l5, l6, l15, l16, l24, l30, l99, l100, l200, l385, lm1, ix_ne, ne_ix, ix_nat, vp_ix, ix_inj, ix_le, ix_lt, ix_add, ix_mul, ix_sub, nar0', nar1', or00, or01, or10, or11, rI, rIA, rIL, rA, rAI, rAL, rL, rLI, rLA, ru, ruL, reduceIte, Nat.reduceEqDiff, true_or, or_true, true_and, and_true, false_or, or_false, not_true_eq_false, not_false_eq_true, false_implies, true_implies, implies_true, i10, i01]
    refine ⟨by omega, ref _ (fun e he hx => ?_) (fun hno => ?_)⟩
    · rw [ix_inj ht (by omega)] at hx; rw [hx]; exact r4 e (by omega)
    · refine r5 t (Nat.le_of_not_lt (fun hlt => hno t hlt rfl)) h1
  · exfalso
    rw [hx] at h1
    exact h1 ((ix_lt (by omega) (by omega)).2 (by omega))
