theorem okS_iff {n : Nat} {f : Int32} (hn : n ≤ 16) (hf : f = mi ∨ ∃ a, a < 16 ∧ f = ix a) : (¬ ix n ≤ f) ↔ okS n f := by
  rcases hf with rfl | ⟨a, ha, rfl⟩
  · have : ¬ ix n ≤ mi := by
      rw [Int32.le_iff_toInt_le, m1_toInt, ix_toInt (by omega)]; omega
    exact ⟨fun _ => Or.inl rfl, fun _ => this⟩
  · rw [ix_le (by omega) (by omega)]
    constructor
    · intro h; exact Or.inr ⟨a, by omega, rfl⟩
    · rintro (h | ⟨c, hc, h⟩)
      · exact absurd h (ix_ne (by omega))
      · rw [ix_inj (by omega) (by omega)] at h; omega
theorem edn_f {z : Sta} {b : Nat} (h : edn z b) : (z.2.1 5 b = mi ∨ ∃ a, a < 16 ∧ z.2.1 5 b = ix a) ∧ (z.2.1 6 b = mi ∨ ∃ a, a < 16 ∧ z.2.1 6 b = ix a) ∧ (z.2.1 5 b = mi ↔ z.2.1 6 b = mi) := by
  rcases h with ⟨_, _, h1, h2⟩ | ⟨_, _, a, ha, _, h1, h2⟩ | ⟨_, x, a, c, _, ha, hc, _, _, _, _, h1, h2⟩
  · exact ⟨Or.inl h1, Or.inl h2, by rw [h1, h2]⟩
  · exact ⟨Or.inr ⟨a, ha, h1⟩, Or.inr ⟨a, ha, h2⟩, by rw [h1, h2]⟩
  · refine ⟨Or.inr ⟨a, ha, h1⟩, Or.inr ⟨c, hc, h2⟩, ?_⟩
    rw [h1, h2]
    exact ⟨fun h => absurd h (ix_ne (by omega)), fun h => absurd h (ix_ne (by omega))⟩
theorem nx_f {z : Sta} {b n : Nat} (hn : n ≤ 16) (h : edn z b) : ((¬ ix n ≤ nx (z.2.1 17) b 0) ∧ ¬ ix n ≤ nx (z.2.1 17) b 1) ↔ (okS n (z.2.1 5 b) ∧ okS n (z.2.1 6 b)) := by
  have nm : ¬ ix n ≤ mi := by
    rw [Int32.le_iff_toInt_le, m1_toInt, ix_toInt (by omega)]; omega
  have hf := edn_f h
  rw [← okS_iff hn hf.1, ← okS_iff hn hf.2.1]
  have i20 : ¬ ix 2 = ix 0 := by decide
  have i12 : ¬ ix 1 = ix 2 := by decide
  have i02 : ¬ ix 0 = ix 2 := by decide
  rcases h with ⟨h1, h2, h3, h4⟩ | ⟨h1, h2, a1, ha1, h3, h4, h5⟩ | ⟨h1, x1, a1, c1, hx1, ha1, hc1, h2, h3, h4, h5, h6, h7⟩
  · simp only [nx, h1, h3, h4, reduceIte, i02, false_and, Nat.one_ne_zero, nm, not_false_eq_true, and_self]
  · simp only [nx, h1, h3, h4, h5, reduceIte, i12, i10, false_and, Nat.one_ne_zero, nm, not_false_eq_true, and_true, and_self]
  · simp only [nx, h1, h3, h4, h6, h7, reduceIte, i20, true_and, Nat.one_ne_zero]
    by_cases e : ix c1 = ix a1
    · simp only [e, not_true_eq_false, reduceIte, nm, not_false_eq_true, and_true, and_self]
    · simp only [e, not_false_eq_true, reduceIte]
theorem nx_ok {z : Sta} {b n : Nat} (hn : n ≤ 16) (h : edn z b) (hk : okS n (z.2.1 5 b) ∧ okS n (z.2.1 6 b)) : okS n (nx (z.2.1 17) b 0) ∧ okS n (nx (z.2.1 17) b 1) := by
  have i20 : ¬ ix 2 = ix 0 := by decide
  have i12 : ¬ ix 1 = ix 2 := by decide
  have i02 : ¬ ix 0 = ix 2 := by decide
  rcases h with ⟨h1, h2, h3, h4⟩ | ⟨h1, h2, a1, ha1, h3, h4, h5⟩ | ⟨h1, x1, a1, c1, hx1, ha1, hc1, h2, h3, h4, h5, h6, h7⟩
  · simp only [nx, h1, reduceIte, i02, false_and, Nat.one_ne_zero]
    exact ⟨Or.inl rfl, Or.inl rfl⟩
  · simp only [nx, h1, h3, reduceIte, i12, i10, false_and, Nat.one_ne_zero]
    rw [h4] at hk
    exact ⟨hk.1, Or.inl rfl⟩
  · simp only [nx, h1, h3, h4, reduceIte, i20, true_and, Nat.one_ne_zero]
    rw [h6, h7] at hk
    refine ⟨hk.1, ?_⟩
    split
    · exact hk.2
    · exact Or.inl rfl
theorem s_P_isWhole {z : Sta} {K : Int32 → Sta → Prop} {n : Nat} (hn : n ≤ 16) (hN : z.1 2 = ix n) (he : ∀ b, b < n → edn z b) (hK : ∀ v, isb v (∀ b, b < n → okS n (z.2.1 5 b) ∧ okS n (z.2.1 6 b)) → K v z) : wp_P_isWhole z K := by
  have loop : ∀ (k i : Nat), i + k = n → (∀ b, b < i → okS n (z.2.1 5 b) ∧ okS n (z.2.1 6 b)) → lp_P_isWhole_2 K (k + 1) (ix i) z := by
    intro k
    induction k with
    | zero =>
      intro i hik hall
      rw [lp_P_isWhole_2]
      try simp (disch := omega) only [hN, forall_eq, l0, l1, l2, l3, l4, l5, l6, l15, l16, l24, l30, l99, l100, l200, l385, lm1, ix_ne, ne_ix, ix_nat, vp_ix, ix_inj, ix_le, ix_lt, ix_add, ix_mul, ix_sub, nar0', nar1', or00, or01, or10, or11, rI, rIA, rIL, rA, rAI, rAL, rL, rLI, rLA, ru, ruL, reduceIte, Nat.reduceEqDiff, true_or, or_true, true_and, and_true, false_or, or_false, not_true_eq_false, not_false_eq_true, false_implies, true_implies, implies_true, i10, i01]
      exact ⟨fun _ => hK _ (Or.inl ⟨rfl, fun b hb1 => hall b (by omega)⟩), fun h => absurd (by omega) h⟩
    | succ k ih =>
      intro i hik hall
      have hf := edn_f (he i (by omega))
      have o1 := okS_iff hn hf.1
      have o2 := okS_iff hn hf.2.1
      rw [lp_P_isWhole_2]
      simp only [forall_eq, l0, l1, hN, pj_P_isWhole_36, true_or, or_true, true_and, vp_ix (show i < 2147483648 by omega), ix_nat (show i < 2147483648 by omega), ix_le (show n < 2147483648 by omega) (show i < 2147483648 by omega), ix_add]
      refine ⟨fun h => absurd h (by omega), fun _ => ⟨by omega, fun h => hK _ (Or.inr ⟨rfl, fun hh => (o1.2 (hh i (by omega)).1) h⟩), fun h => ⟨by omega, fun h2 => ih (i + 1) (by omega) (fun b hb1 => ?_), fun h2 => hK _ (Or.inr ⟨rfl, fun hh => (o2.2 (hh i (by omega)).2) ?_⟩)⟩⟩⟩
      · rcases Nat.lt_or_ge b i with e | e
        · exact hall b e
        · have : b = i := by omega
          subst this
          refine ⟨o1.1 h, o2.1 ?_⟩
          intro hle
          rw [Int32.lt_iff_toInt_lt] at h2
          rw [Int32.le_iff_toInt_le] at hle
          omega
      · rw [Int32.lt_iff_toInt_lt] at h2
        rw [Int32.le_iff_toInt_le]
        omega
  try simp (disch := omega) only [wp_P_isWhole, forall_eq, l0, l1, l2, l3, l4, l5, l6, l15, l16, l24, l30, l99, l100, l200, l385, lm1, ix_ne, ne_ix, ix_nat, vp_ix, ix_inj, ix_le, ix_lt, ix_add, ix_mul, ix_sub, nar0', nar1', or00, or01, or10, or11, rI, rIA, rIL, rA, rAI, rAL, rL, rLI, rLA, ru, ruL, reduceIte, Nat.reduceEqDiff, true_or, or_true, true_and, and_true, false_or, or_false, not_true_eq_false, not_false_eq_true, false_implies, true_implies, implies_true, i10, i01]
  exact ⟨n + 1, loop n 0 (by omega) (fun b hb1 => absurd hb1 (by omega))⟩
theorem s_M_whole {z : Sta} {K : Int32 → Sta → Prop} {n : Nat} (hn : n ≤ 16) (hN : z.1 8 = ix n) (he : ∀ b, b < n → edn z b) (hK : ∀ v, isb v (∀ b, b < n → okS n (z.2.1 5 b) ∧ okS n (z.2.1 6 b)) → K v z) : wp_M_whole z K := by
  have loop : ∀ (k i : Nat) (x1 : Int32), i + k = n → isb x1 (∀ b, b < i → okS n (z.2.1 5 b) ∧ okS n (z.2.1 6 b)) → lp_M_whole_4 K (k + 1) x1 (ix i) z := by
    intro k
    induction k with
    | zero =>
      intro i x1 hik hx
      rw [lp_M_whole_4]
      try simp (disch := omega) only [hN, forall_eq, l0, l1, l2, l3, l4, l5, l6, l15, l16, l24, l30, l99, l100, l200, l385, lm1, ix_ne, ne_ix, ix_nat, vp_ix, ix_inj, ix_le, ix_lt, ix_add, ix_mul, ix_sub, nar0', nar1', or00, or01, or10, or11, rI, rIA, rIL, rA, rAI, rAL, rL, rLI, rLA, ru, ruL, reduceIte, Nat.reduceEqDiff, true_or, or_true, true_and, and_true, false_or, or_false, not_true_eq_false, not_false_eq_true, false_implies, true_implies, implies_true, i10, i01]
      have : i = n := by omega
      subst this
      exact ⟨fun _ => ⟨isb_b hx, hK _ hx⟩, fun h => absurd (by omega) h⟩
    | succ k ih =>
      intro i x1 hik hx
      have hf := nx_f hn (he i (by omega))
      have up : ∀ {p : Prop}, (∀ b, b < i + 1 → okS n (z.2.1 5 b) ∧ okS n (z.2.1 6 b)) → ((∀ b, b < i → okS n (z.2.1 5 b) ∧ okS n (z.2.1 6 b)) → (okS n (z.2.1 5 i) ∧ okS n (z.2.1 6 i)) → p) → p := fun h k => k (fun b hb1 => h b (by omega)) (h i (by omega))
      rw [lp_M_whole_4]
      simp only [forall_eq, l0, l1, hN, pj_M_whole_46, pj_M_whole_47, ix_le (show n < 2147483648 by omega) (show i < 2147483648 by omega), ix_add]
      refine ⟨fun h => absurd h (by omega), fun _ => ⟨fun h0 => ih (i + 1) _ (by omega) (Or.inr ⟨rfl, fun hh => up hh (fun a _ => (isb_z hx).1 h0 a)⟩), fun h0 => s_M_next (by omega) (by omega) ?_⟩⟩
      rw [hN]
      refine ⟨fun h1 => ih (i + 1) _ (by omega) (Or.inr ⟨rfl, fun hh => up hh (fun _ a => (hf.2 a).1 h1)⟩), fun h1 => s_M_next (by omega) (by omega) ?_⟩
      rw [hN]
      refine ⟨fun h2 => ih (i + 1) _ (by omega) (Or.inr ⟨rfl, fun hh => up hh (fun _ a => (hf.2 a).2 h2)⟩), fun h2 => ih (i + 1) _ (by omega) (Or.inl ⟨rfl, fun b hb1 => ?_⟩)⟩
      rcases Nat.lt_or_ge b i with e | e
      · exact isb_n hx h0 b e
      · have : b = i := by omega
        subst this; exact hf.1 ⟨h1, h2⟩
  try simp (disch := omega) only [wp_M_whole, forall_eq, l0, l1, l2, l3, l4, l5, l6, l15, l16, l24, l30, l99, l100, l200, l385, lm1, ix_ne, ne_ix, ix_nat, vp_ix, ix_inj, ix_le, ix_lt, ix_add, ix_mul, ix_sub, nar0', nar1', or00, or01, or10, or11, rI, rIA, rIL, rA, rAI, rAL, rL, rLI, rLA, ru, ruL, reduceIte, Nat.reduceEqDiff, true_or, or_true, true_and, and_true, false_or, or_false, not_true_eq_false, not_false_eq_true, false_implies, true_implies, implies_true, i10, i01]
  exact ⟨n + 1, loop n 0 _ (by omega) (Or.inl ⟨rfl, fun b hb1 => absurd hb1 (by omega)⟩)⟩
theorem s_O_countMoved {z : Sta} {K : Int32 → Sta → Prop} {n : Nat} (hn : n ≤ 16) (hN : z.1 2 = ix n) (hz : ∀ b e, b < n → 24 ≤ e → hb (z.2.2 9 b) e = false) (hK : ∀ M : Int64, (∀ e, hb M e = true ↔ ∃ b, b < n ∧ hb (z.2.2 9 b) e = true) → K (ix (cnt (fun e => hb M e) 24)) z) : wp_O_countMoved z K := by
  have loop : ∀ (k i : Nat) (M : Int64), i + k = n → (∀ e, hb M e = true ↔ ∃ b, b < i ∧ hb (z.2.2 9 b) e = true) → lp_O_countMoved_4 K (k + 1) M (ix i) z := by
    intro k
    induction k with
    | zero =>
      intro i M hik hM
      rw [lp_O_countMoved_4]
      try simp (disch := omega) only [hN, forall_eq, l0, l1, l2, l3, l4, l5, l6, l15, l16, l24, l30, l99, l100, l200, l385, lm1, ix_ne, ne_ix, ix_nat, vp_ix, ix_inj, ix_le, ix_lt, ix_add, ix_mul, ix_sub, nar0', nar1', or00, or01, or10, or11, rI, rIA, rIL, rA, rAI, rAL, rL, rLI, rLA, ru, ruL, reduceIte, Nat.reduceEqDiff, true_or, or_true, true_and, and_true, false_or, or_false, not_true_eq_false, not_false_eq_true, false_implies, true_implies, implies_true, i10, i01]
      have : i = n := by omega
      subst this
      refine ⟨fun _ => s_G_bitCount (fun e he => ?_) (hK M hM), fun h => absurd (by omega) h⟩
      refine Bool.eq_false_iff.2 (fun hh => ?_)
      obtain ⟨b, hb1, hbb⟩ := (hM e).1 hh
      rw [hz b e hb1 he] at hbb; exact absurd hbb Bool.false_ne_true
    | succ k ih =>
      intro i M hik hM
      rw [lp_O_countMoved_4]
      try simp (disch := omega) only [hN, forall_eq, l0, l1, l2, l3, l4, l5, l6, l15, l16, l24, l30, l99, l100, l200, l385, lm1, ix_ne, ne_ix, ix_nat, vp_ix, ix_inj, ix_le, ix_lt, ix_add, ix_mul, ix_sub, nar0', nar1', or00, or01, or10, or11, rI, rIA, rIL, rA, rAI, rAL, rL, rLI, rLA, ru, ruL, reduceIte, Nat.reduceEqDiff, true_or, or_true, true_and, and_true, false_or, or_false, not_true_eq_false, not_false_eq_true, false_implies, true_implies, implies_true, i10, i01]
      refine ⟨fun h => absurd h (by omega), fun _ => ⟨by omega, ih (i + 1) _ (by omega) (fun e => ?_)⟩⟩
      rw [hb_or, Bool.or_eq_true, hM e]
      constructor
      · rintro (⟨b, hb1, h⟩ | h)
        · exact ⟨b, by omega, h⟩
        · exact ⟨i, by omega, h⟩
      · rintro ⟨b, hb1, h⟩
        rcases Nat.lt_or_ge b i with q | q
        · exact Or.inl ⟨b, q, h⟩
        · have : b = i := by omega
          subst this; exact Or.inr h
  try simp (disch := omega) only [wp_O_countMoved, forall_eq, l0, l1, l2, l3, l4, l5, l6, l15, l16, l24, l30, l99, l100, l200, l385, lm1, ix_ne, ne_ix, ix_nat, vp_ix, ix_inj, ix_le, ix_lt, ix_add, ix_mul, ix_sub, nar0', nar1', or00, or01, or10, or11, rI, rIA, rIL, rA, rAI, rAL, rL, rLI, rLA, ru, ruL, reduceIte, Nat.reduceEqDiff, true_or, or_true, true_and, and_true, false_or, or_false, not_true_eq_false, not_false_eq_true, false_implies, true_implies, implies_true, i10, i01]
  refine ⟨n + 1, loop n 0 0 (by omega) (fun e => ?_)⟩
  rw [hb_0]
  exact ⟨fun h => absurd h Bool.false_ne_true, fun ⟨b, hb1, _⟩ => absurd hb1 (by omega)⟩
theorem lk_eq {n m : Nat} {sz : Nat → Nat} {z y : Sta} (hP : Prg n m sz z) (a16 : y.2.1 16 = z.2.1 16) (a18 : y.2.1 18 = z.2.1 18) (a20 : y.2.1 20 = z.2.1 20) {b e : Nat} (hb1 : b < n) (he : e < m) : lk (cpC z b e) (gvC z b e) (sz b) = lk (cpM y b e) (gvM y b e) (sz b) := by
  obtain ⟨hn, hm, p2, p8, p3, p9, psz, pst, ped, pex, pus, pun⟩ := hP
  refine lk_congr (fun k hk => ?_)
  obtain ⟨⟨t, ht, t1, t2⟩, s1, s2⟩ := pst b k hb1 hk
  obtain ⟨⟨x, hx, x1, x2⟩, _, ⟨w, hw, w1, w2⟩⟩ := pex e he
  have n3 : ¬ ix 3 ≤ ix 0 := by decide
  have n3' : ¬ ix 3 ≤ ix 1 := by decide
  have n3'' : ¬ ix 3 ≤ ix 2 := by decide
  have e3 : ix 3 ≤ ix 3 := by decide
  have d02 : ¬ ix 0 = ix 2 := by decide
  have d12 : ¬ ix 1 = ix 2 := by decide
  have d32 : ¬ ix 3 = ix 2 := by decide
  have d03 : ¬ ix 0 = ix 3 := by decide
  have d13 : ¬ ix 1 = ix 3 := by decide
  have d23 : ¬ ix 2 = ix 3 := by decide
  have hu := pus t e ht (by omega)
  have hux : (hb (z.2.2 0 t) e = true) ↔ (ix t = ix x ∨ ix t = ix w) := by
    rw [hu, x1, w1]
    exact ⟨fun h => h.2.imp Eq.symm Eq.symm, fun h => ⟨he, h.imp Eq.symm Eq.symm⟩⟩
  simp only [cpC, cpM, gvC, gvM, a16, a18, a20, s1, t1, t2, x2, w2, ix_nat (show t < 2147483648 by omega), hux]
  rcases s2 with ⟨q, _⟩ | ⟨q, _⟩ | ⟨q, d, hd, q1, q2⟩ | q
  · simp only [q, d02, d03, n3, false_and, not_false_eq_true, true_and, and_self]
  · simp only [q, d12, d13, n3', false_and, not_false_eq_true, true_and, and_self]
  · simp only [q, q1, q2, d23, n3'', not_false_eq_true, true_and, and_self]
  · simp only [q, d32, e3, not_true_eq_false, false_and, and_self]
