theorem hb_w {w : Int32} {e : Nat} (he : e < 24) : hb w.toInt64 e = hw w e := by
  simp only [hb, hw, Int32.toBitVec_toInt64, BitVec.getLsbD_signExtend]
  have h1 : e < 64 := by omega
  have h2 : e < 32 := by omega
  simp only [h1, h2, decide_true, Bool.true_and, if_true, reduceIte]
theorem alF_g {x : Nat → Bool} : ∀ (k i : Nat) (s : Sta), (alF k i x s).1 5 = s.1 5
  | 0, _, _ => rfl
  | k + 1, i, s => by
    rw [alF, alF_g k (i + 1)]
    split
    · rfl
    · rfl
theorem stF_g {j c : Nat} {x : Nat → Bool} {s : Sta} (h : ∃ g, g ≤ c ∧ s.1 5 = ix g) : ∃ g, g ≤ c + 1 ∧ (stF j x s).1 5 = ix g := by
  obtain ⟨g, h1, h2⟩ := h
  have a1 : ∃ g, g ≤ c + 1 ∧ s.1 5 = ix g := ⟨g, by omega, h2⟩
  have a2 : ∃ g, g ≤ c + 1 ∧ s.1 5 + ix 1 = ix g := ⟨g + 1, by omega, by rw [h2, ix_add]⟩
  unfold stF
  split
  · exact a1
  · split
    · exact a1
    · split
      · split
        · exact a1
        · exact a1
      · split
        · exact a2
        · exact a2
theorem blF_g {c : Nat} : ∀ (k j : Nat) (x : Nat → Bool) (s : Sta), (∃ g, g ≤ c ∧ s.1 5 = ix g) → ∃ g, g ≤ c + k ∧ (blF k j x s).1 5 = ix g := by
  intro k
  induction k generalizing c with
  | zero => intro j x s h; exact h
  | succ k ih =>
    intro j x s h
    rw [blF]
    have := ih (c := c + 1) (j + 1) (sxF j x s) _ (stF_g (j := j) (x := x) h)
    obtain ⟨g, h1, h2⟩ := this
    exact ⟨g, by omega, h2⟩
theorem s_K_goThroughBlock {n m : Nat} {sz : Nat → Nat} {s : Sta} {K : Sta → Prop} {a p : Nat} {v : Int64} {x : Nat → Bool} (hP : Prg n m sz s) (ha : a < n) (hx : ∀ e, e < 24 → hb v e = x e) (hp : p < 200) (hg : ∃ g, g ≤ 5 * p ∧ s.1 5 = ix g) (h : K (blF (sz a) (5 * a) x s)) : wp_K_goThroughBlock (ix a) v s K := by
  have hn := hP.1
  have hm := hP.2.1
  have hsz : sz a ≤ 5 := (hP.2.2.2.2.2.2.1 a (by omega)).2.2.1
  have loop : ∀ (k i : Nat) (v : Int64) (x : Nat → Bool) (y : Sta), i + k = sz a → fr [4, 5, 6] [11, 12, 13, 14] [] s y → (∀ e, e < 24 → hb v e = x e) → (∃ g, g ≤ 5 * p + i ∧ y.1 5 = ix g) → K (blF k (5 * a + i) x y) → lp_K_goThroughBlock_12 K (k + 1) (ix a) v (ix (5 * a)) (ix (5 * a + i)) y := by
    intro k
    induction k with
    | zero =>
      intro i v x y hik f hx hg hh
      have h0 : y.2.1 0 a = ix (sz a) := by
        rw [f.2.1 0 (by decide)]; exact (hP.2.2.2.2.2.2.1 a (by omega)).1
      rw [lp_K_goThroughBlock_12]
      try simp (disch := omega) only [h0, forall_eq, l0, l1, l2, l3, l4, l5, l6, l15, l16, l24, l30, l99, l100, l200, l385, lm1, ix_ne, ne_ix, ix_nat, vp_ix, ix_inj, ix_le, ix_lt, ix_add, ix_mul, ix_sub, nar0', nar1', or00, or01, or10, or11, rI, rIA, rIL, rA, rAI, rAL, rL, rLI, rLA, ru, ruL, reduceIte, Nat.reduceEqDiff, true_or, or_true, true_and, and_true, false_or, or_false, not_true_eq_false, not_false_eq_true, false_implies, true_implies, implies_true, i10, i01]
      exact ⟨by omega, fun _ => hh, fun h => absurd (by omega) h⟩
    | succ k ih =>
      intro i v x y hik f hx hg hh
      have hPy := Prg_fr hP f (by decide) (by decide) (by decide)
      have h0 : y.2.1 0 a = ix (sz a) := (hPy.2.2.2.2.2.2.1 a (by omega)).1
      obtain ⟨⟨t, ht, t1, _⟩, s1, s2⟩ := hPy.2.2.2.2.2.2.2.1 a i ha (by omega)
      have hg' := stF_g (j := 5 * a + i) (x := x) hg
      have fs := stF_fr (5 * a + i) x f
      rw [blF] at hh
      rcases s2 with ⟨q, b', hb', q1, _⟩ | ⟨q, q1⟩ | ⟨q, e, he, q1, _⟩ | q
      · have k1 : y.2.1 1 (5 * a + i) = ix 0 := s1.trans q
        have e1 : stF (5 * a + i) x y = zA y 11 (upd (y.2.1 11) t (y.2.1 11 b')) := by
          simp only [stF, k1, t1, q1, reduceIte, ix_nat (show t < 2147483648 by omega), ix_nat (show b' < 2147483648 by omega)]
        have e2 : sxF (5 * a + i) x y = x := by
          unfold sxF; rw [if_neg (by rw [k1]; decide)]
        rw [e1] at hg' fs
        rw [e1, e2] at hh
        rw [lp_K_goThroughBlock_12]
        try simp (disch := omega) only [h0, k1, t1, q1, wp_K_goThroughSimple, pj_K_goThroughSimple_44, pj_K_goThroughBlock_152, forall_eq, l0, l1, l2, l3, l4, l5, l6, l15, l16, l24, l30, l99, l100, l200, l385, lm1, ix_ne, ne_ix, ix_nat, vp_ix, ix_inj, ix_le, ix_lt, ix_add, ix_mul, ix_sub, nar0', nar1', or00, or01, or10, or11, rI, rIA, rIL, rA, rAI, rAL, rL, rLI, rLA, ru, ruL, reduceIte, Nat.reduceEqDiff, true_or, or_true, true_and, and_true, false_or, or_false, not_true_eq_false, not_false_eq_true, false_implies, true_implies, implies_true, i10, i01]
        refine ⟨by omega, fun h => absurd h (by omega), fun _ => ?_⟩
        repeat (refine ⟨by omega, ?_⟩)
        exact ih (i + 1) _ _ _ (by omega) fs hx hg' hh
      · have k1 : y.2.1 1 (5 * a + i) = ix 1 := s1.trans q
        have e1 : stF (5 * a + i) x y = zA y 11 (upd (y.2.1 11) t (y.2.1 3 (5 * a + i))) := by
          simp only [stF, k1, t1, reduceIte, i10, ix_nat (show t < 2147483648 by omega)]
        have e2 : sxF (5 * a + i) x y = x := by
          unfold sxF; rw [if_neg (by rw [k1]; decide)]
        rw [e1] at hg' fs
        rw [e1, e2] at hh
        rw [lp_K_goThroughBlock_12]
        try simp (disch := omega) only [h0, k1, t1, wp_K_goThroughSimple, pj_K_goThroughSimple_44, pj_K_goThroughBlock_152, forall_eq, l0, l1, l2, l3, l4, l5, l6, l15, l16, l24, l30, l99, l100, l200, l385, lm1, ix_ne, ne_ix, ix_nat, vp_ix, ix_inj, ix_le, ix_lt, ix_add, ix_mul, ix_sub, nar0', nar1', or00, or01, or10, or11, rI, rIA, rIL, rA, rAI, rAL, rL, rLI, rLA, ru, ruL, reduceIte, Nat.reduceEqDiff, true_or, or_true, true_and, and_true, false_or, or_false, not_true_eq_false, not_false_eq_true, false_implies, true_implies, implies_true, i10, i01]
        refine ⟨by omega, fun h => absurd h (by omega), fun _ => ?_⟩
        repeat (refine ⟨by omega, ?_⟩)
        exact ih (i + 1) _ _ _ (by omega) fs hx hg' hh
      · have k1 : y.2.1 1 (5 * a + i) = ix 2 := s1.trans q
        have n20 : ¬ ix 2 = ix 0 := by decide
        have n21 : ¬ ix 2 = ix 1 := by decide
        have e2 : sxF (5 * a + i) x y = fun d => x d && !decide (d = e) := by
          simp only [sxF, k1, q1, reduceIte, ix_nat (show e < 2147483648 by omega)]
        have hx' : ∀ d, d < 24 → hb (v &&& ((1 : Int64) <<< ((ix e).toInt64 &&& 63) ^^^ (-1))) d = sxF (5 * a + i) x y d := by
          intro d hd
          rw [e2, hb_andn, hb_one (by omega), hx d hd]
        have hc : lg_cmp ((v >>> ((ix e).toInt64 &&& 63)) &&& 1) 0 = ix 0 ↔ ¬ x e = true := by
          rw [cmp0, sh64 (by omega), hx e (by omega)]
          cases x e
          · exact ⟨fun _ => Bool.false_ne_true, fun _ => rfl⟩
          · exact ⟨fun h => absurd h (by decide), fun h => absurd rfl h⟩
        rw [lp_K_goThroughBlock_12]
        try simp (disch := omega) only [h0, k1, t1, q1, hc, pj_K_goThroughBlock_152, pj_K_goThroughBlock_72, pj_K_goThroughBlock_109, forall_eq, l0, l1, l2, l3, l4, l5, l6, l15, l16, l24, l30, l99, l100, l200, l385, lm1, ix_ne, ne_ix, ix_nat, vp_ix, ix_inj, ix_le, ix_lt, ix_add, ix_mul, ix_sub, nar0', nar1', or00, or01, or10, or11, rI, rIA, rIL, rA, rAI, rAL, rL, rLI, rLA, ru, ruL, reduceIte, Nat.reduceEqDiff, true_or, or_true, true_and, and_true, false_or, or_false, not_true_eq_false, not_false_eq_true, false_implies, true_implies, implies_true, i10, i01]
        refine ⟨by omega, fun h => absurd h (by omega), fun _ => ?_⟩
        refine ⟨by omega, by omega, fun hq => ?_, fun hq => ?_⟩
        · have e1 : stF (5 * a + i) x y = zA (cpF e y) 11 (upd (y.2.1 11) t (ev y e)) := by
            simp only [stF, k1, t1, q1, reduceIte, n20, n21, hq, ix_nat (show t < 2147483648 by omega), ix_nat (show e < 2147483648 by omega)]
            first | done | exact if_neg Bool.false_ne_true
          rw [e1] at hg' fs hh
          refine ⟨by omega, s_K_compute hPy he ?_⟩
          exact ⟨by omega, ih (i + 1) _ _ _ (by omega) fs hx' hg' hh⟩
        · have hq' : x e = true := Classical.not_not.1 hq
          have e1 : stF (5 * a + i) x y = zA y 11 (upd (y.2.1 11) t (y.2.1 14 e)) := by
            simp only [stF, k1, t1, q1, reduceIte, n20, n21, hq', ix_nat (show t < 2147483648 by omega), ix_nat (show e < 2147483648 by omega)]
          rw [e1] at hg' fs hh
          refine ⟨by omega, by omega, by omega, ?_⟩
          exact ih (i + 1) _ _ _ (by omega) fs hx' hg' hh
      · have k1 : y.2.1 1 (5 * a + i) = ix 3 := s1.trans q
        have n30 : ¬ ix 3 = ix 0 := by decide
        have n31 : ¬ ix 3 = ix 1 := by decide
        have n32 : ¬ ix 3 = ix 2 := by decide
        have e2 : sxF (5 * a + i) x y = x := by
          unfold sxF; rw [if_neg (by rw [k1]; decide)]
        obtain ⟨g, hg1, hg2⟩ := hg
        rw [lp_K_goThroughBlock_12]
        try simp (disch := omega) only [h0, k1, t1, hg2, wp_K_goThroughSimple, wp_K_giveOut, pj_K_giveOut_19, pj_K_goThroughSimple_44, pj_K_goThroughBlock_152, forall_eq, l0, l1, l2, l3, l4, l5, l6, l15, l16, l24, l30, l99, l100, l200, l385, lm1, ix_ne, ne_ix, ix_nat, vp_ix, ix_inj, ix_le, ix_lt, ix_add, ix_mul, ix_sub, nar0', nar1', or00, or01, or10, or11, rI, rIA, rIL, rA, rAI, rAL, rL, rLI, rLA, ru, ruL, reduceIte, Nat.reduceEqDiff, true_or, or_true, true_and, and_true, false_or, or_false, not_true_eq_false, not_false_eq_true, false_implies, true_implies, implies_true, i10, i01]
        refine ⟨by omega, fun h => absurd h (by omega), fun _ => ?_⟩
        repeat (refine ⟨by omega, ?_⟩)
        refine ⟨fun hq => ?_, fun hq => ⟨by omega, ?_⟩⟩
        · have e1 : stF (5 * a + i) x y = zI y 5 (ix (g + 1)) := by
            simp only [stF, k1, t1, hg2, reduceIte, n30, n31, n32, ix_add]
            exact if_pos ((ix_le (by omega) (by omega)).2 hq)
          rw [e1] at hg' fs
          rw [e1, e2] at hh
          exact ih (i + 1) _ _ _ (by omega) fs hx hg' hh
        · have e1 : stF (5 * a + i) x y = zI (zA y 13 (upd (y.2.1 13) g (y.2.1 11 t))) 5 (ix (g + 1)) := by
            simp only [stF, k1, t1, hg2, reduceIte, n30, n31, n32, ix_add, ix_nat (show t < 2147483648 by omega), ix_nat (show g < 2147483648 by omega)]
            exact if_neg (fun hh => hq ((ix_le (by omega) (by omega)).1 hh))
          rw [e1] at hg' fs
          rw [e1, e2] at hh
          exact ih (i + 1) _ _ _ (by omega) fs hx hg' hh
  have := loop (sz a) 0 v x s (by omega) (fr_refl s) hx hg h
  have l5' : (5 : Int32) = ix 5 := rfl
  simp only [wp_K_goThroughBlock, forall_eq, l5', ix_mul]
  rw [Nat.mul_comm a 5]
  exact ⟨sz a + 1, this⟩
