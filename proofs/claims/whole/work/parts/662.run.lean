theorem edn_4 {z : Sta} {b : Nat} (h : edn z b) : ∃ x, x < 6 ∧ z.2.1 4 b = ix x := by
  rcases h with ⟨_, h, _⟩ | ⟨_, h, _⟩ | ⟨_, x, a, c, hx, _, _, _, _, _, h, _⟩
  · exact ⟨0, by omega, h⟩
  · exact ⟨0, by omega, h⟩
  · exact ⟨x, hx, h⟩
theorem nxt_ok {n : Nat} {s : Sta} {a : Nat} (h : okS n (s.2.1 5 a) ∧ okS n (s.2.1 6 a)) : (nxt s a = mi ∨ ∃ c, c < n ∧ nxt s a = ix c) ∧ (∀ c, nxt s a = ix c → s.2.1 5 a = ix c ∨ s.2.1 6 a = ix c) := by
  unfold nxt
  split
  · exact ⟨h.2, fun c hc => Or.inr hc⟩
  · exact ⟨h.1, fun c hc => Or.inl hc⟩
theorem s_K_mid {n m : Nat} {sz : Nat → Nat} {z : Sta} {K : Sta → Prop} {f : Int32} (hP : Prg n m sz z) (hL : Pln n z) : ∀ (k a p : Nat) (s : Sta), p + k = 200 → p < 200 → a < n → z.2.1 10 a = ix 1 → fr [4, 5, 6] [11, 12, 13, 14] [] z s → (∃ g, g ≤ 5 * p ∧ s.1 5 = ix g) → K (midF m sz f k a p s) → pj_K_goThrough_37 K (fun x1 x2 x3 x4 z => lp_K_goThrough_7 K k x1 x2 x3 x4 z) f (ix a) (ix p) s := by
  have hn := hP.1
  have hm := hP.2.1
  intro k
  induction k with
  | zero => intro a p s h1 h2; omega
  | succ k ih =>
    intro a p s hpk hp ha hr fs hg hh
    have hPs := Prg_fr hP fs (by decide) (by decide) (by decide)
    have hsz : sz a ≤ 5 := (hP.2.2.2.2.2.2.1 a (by omega)).2.2.1
    have key : ∀ (v : Int64) (x : Nat → Bool), (∀ e, e < 24 → hb v e = x e) → x = (if f = ix 0 then (fun _ => false) else (fun e => hw (s.2.1 22 (6 * a + 5)) e)) → pj_K_goThrough_56 K (fun x1 x2 x3 x4 z => lp_K_goThrough_7 K (k + 1) x1 x2 x3 x4 z) f (ix a) (ix p) v (ix a) s := by
      intro v x hx hxe
      rw [midF, ← hxe] at hh
      unfold pj_K_goThrough_56
      refine s_K_goThroughBlock hPs ha hx hp hg ?_
      have f2 := blF_fr (sz a) (5 * a) x s fs
      have g2 := blF_g (sz a) (5 * a) x s hg
      generalize hs2 : blF (sz a) (5 * a) x s = s2 at hh f2 g2 ⊢
      simp only at hh
      obtain ⟨g, hg1, hg2⟩ := g2
      have hP2 := Prg_fr hP f2 (by decide) (by decide) (by decide)
      have hL2 := Pln_fr hL f2 (by decide) (by decide) (by decide)
      obtain ⟨_, q1, q2, q3, q4, q5, q6, q7, q8⟩ := hL2
      obtain ⟨w, hw1, hw2⟩ := edn_4 (hP2.2.2.2.2.2.2.2.2.1 a ha)
      have nk := nxt_ok (s := s2) (q2 a ha)
      have hra : s2.2.1 10 a = ix 1 := by
        rw [f2.2.1 10 (by decide)]; exact hr
      have go : ∀ y0, y0 = nxt s2 a → lp_K_goThrough_7 K (k + 1) f (ix a) y0 (ix (p + 1)) s2 := by
        intro y0 hy0
        rw [hy0, lp_K_goThrough_7]
        simp only [l0, l1, lm1, l200, pj_K_goThrough_106, forall_eq, ix_le (show 200 < 2147483648 by omega) (show p + 1 < 2147483648 by omega)]
        by_cases hmi : nxt s2 a = mi
        · rw [if_pos hmi] at hh
          exact ⟨fun _ => hh, fun h => absurd hmi h⟩
        · rw [if_neg hmi] at hh
          refine ⟨fun h => absurd h hmi, fun _ => ⟨fun h2 => ?_, fun h2 => ?_⟩⟩
          · rw [if_pos h2] at hh; exact hh
          · rw [if_neg h2] at hh
            obtain ⟨c, hc, hnc⟩ := nk.1.resolve_left hmi
            have hE := nk.2 c hnc
            have hrc : z.2.1 10 c = ix 1 := by
              rw [← f2.2.1 10 (by decide)]; exact q4 a c ha hc hra hE
            rw [hnc] at hh ⊢
            rw [ix_nat (by omega)] at hh
            refine ⟨fun hf => ?_, fun hf => ?_⟩
            · rw [if_pos hf] at hh
              exact ih c (p + 1) s2 (by omega) (by omega) hc hrc f2 ⟨g, by omega, hg2⟩ hh
            · rw [if_neg hf] at hh
              simp only [wp_O_putOn]
              refine s_O_laterOn (by omega) (by omega) ?_
              simp only [forall_eq, vp_ix (show c < 2147483648 by omega), ix_nat (show c < 2147483648 by omega)]
              refine ⟨by omega, ?_⟩
              rw [q6 a c ha hc hra hE]
              refine s_K_goAlong hP2 (fun e he => hb_w he) ?_
              exact ih c (p + 1) _ (by omega) (by omega) hc hrc (alF_fr m 0 s2 f2) ⟨g, by omega, by rw [alF_g]; exact hg2⟩ hh
      have an : (ix a).toNatClampNeg = a := ix_nat (by omega)
      have wn : (ix w).toNatClampNeg = w := ix_nat (by omega)
      have va : vp_in (ix a) 16 := (vp_ix (by omega)).2 (by omega)
      have vw : vp_in (ix w) 6 := (vp_ix (by omega)).2 (by omega)
      simp only [forall_eq, l0, l1, an, wn, va, vw, hw2, true_and, pj_K_goThrough_99, ix_add]
      refine ⟨fun h => go _ ?_, fun h => go _ ?_⟩
      · unfold nxt; rw [hw2, wn, if_pos h]
      · unfold nxt; rw [hw2, wn, if_neg h]
    have va : vp_in (ix a) 16 := (vp_ix (by omega)).2 (by omega)
    simp only [pj_K_goThrough_37, forall_eq, l0, va, true_and, ix_nat (show a < 2147483648 by omega)]
    refine ⟨fun hf => key _ (fun _ => false) (fun e _ => hb_0 e) (by rw [if_pos hf]), fun hf => ?_⟩
    have h9 := (Pln_fr hL fs (by decide) (by decide) (by decide)).2.2.2.2.2.1 a ha
    rw [h9.2.2.2.2.2]
    exact key _ (fun e => hw (s.2.1 22 (6 * a + 5)) e) (fun e he => hb_w he) (by rw [if_neg hf])
theorem s_A_fill_26 {z : Sta} {K : Sta → Prop} (h : ∀ y, fr [] [11] [] z y → (∀ i, i < 6 → y.2.1 11 i = ix 0) → K y) : wp_A_fill_26 (ix 0) z K := by
  have loop : ∀ (k i : Nat) (y : Sta), i + k = 6 → fr [] [11] [] z y → (∀ t, t < i → y.2.1 11 t = ix 0) → lp_A_fill_26_5 K (k + 1) (ix 0) (ix i) (ix 6) y := by
    intro k
    induction k with
    | zero =>
      intro i y hik f h1
      rw [lp_A_fill_26_5]
      try simp (disch := omega) only [forall_eq, l0, l1, l2, l3, l4, l5, l6, l15, l16, l24, l30, l99, l100, l200, l385, lm1, ix_ne, ne_ix, ix_nat, vp_ix, ix_inj, ix_le, ix_lt, ix_add, ix_mul, ix_sub, nar0', nar1', or00, or01, or10, or11, rI, rIA, rIL, rA, rAI, rAL, rL, rLI, rLA, ru, ruL, reduceIte, Nat.reduceEqDiff, true_or, or_true, true_and, and_true, false_or, or_false, not_true_eq_false, not_false_eq_true, false_implies, true_implies, implies_true, i10, i01]
      exact ⟨fun _ => h y f (fun t ht => h1 t (by omega)), fun h => absurd (by omega) h⟩
    | succ k ih =>
      intro i y hik f h1
      rw [lp_A_fill_26_5]
      try simp (disch := omega) only [forall_eq, l0, l1, l2, l3, l4, l5, l6, l15, l16, l24, l30, l99, l100, l200, l385, lm1, ix_ne, ne_ix, ix_nat, vp_ix, ix_inj, ix_le, ix_lt, ix_add, ix_mul, ix_sub, nar0', nar1', or00, or01, or10, or11, rI, rIA, rIL, rA, rAI, rAL, rL, rLI, rLA, ru, ruL, reduceIte, Nat.reduceEqDiff, true_or, or_true, true_and, and_true, false_or, or_false, not_true_eq_false, not_false_eq_true, false_implies, true_implies, implies_true, i10, i01]
      refine ⟨fun h => absurd h (by omega), fun _ => ⟨by omega, ih (i + 1) _ (by omega) (fr_A f (by decide) _) (fun t ht => ?_)⟩⟩
      show upd (y.2.1 11) i (ix 0) t = ix 0
      rw [ru]; split
      · rfl
      · exact h1 t (by omega)
  simp only [wp_A_fill_26, forall_eq]
  exact ⟨7, loop 6 0 z (by omega) (fr_refl z) (fun t ht => absurd ht (by omega))⟩
theorem s_A_fill_27 {z : Sta} {K : Sta → Prop} (h : ∀ y, fr [] [12] [] z y → (∀ i, i < 24 → y.2.1 12 i = ix 0) → K y) : wp_A_fill_27 (ix 0) z K := by
  have loop : ∀ (k i : Nat) (y : Sta), i + k = 24 → fr [] [12] [] z y → (∀ t, t < i → y.2.1 12 t = ix 0) → lp_A_fill_27_5 K (k + 1) (ix 0) (ix i) (ix 24) y := by
    intro k
    induction k with
    | zero =>
      intro i y hik f h1
      rw [lp_A_fill_27_5]
      try simp (disch := omega) only [forall_eq, l0, l1, l2, l3, l4, l5, l6, l15, l16, l24, l30, l99, l100, l200, l385, lm1, ix_ne, ne_ix, ix_nat, vp_ix, ix_inj, ix_le, ix_lt, ix_add, ix_mul, ix_sub, nar0', nar1', or00, or01, or10, or11, rI, rIA, rIL, rA, rAI, rAL, rL, rLI, rLA, ru, ruL, reduceIte, Nat.reduceEqDiff, true_or, or_true, true_and, and_true, false_or, or_false, not_true_eq_false, not_false_eq_true, false_implies, true_implies, implies_true, i10, i01]
      exact ⟨fun _ => h y f (fun t ht => h1 t (by omega)), fun h => absurd (by omega) h⟩
    | succ k ih =>
      intro i y hik f h1
      rw [lp_A_fill_27_5]
      try simp (disch := omega) only [forall_eq, l0, l1, l2, l3, l4, l5, l6, l15, l16, l24, l30, l99, l100, l200, l385, lm1, ix_ne, ne_ix, ix_nat, vp_ix, ix_inj, ix_le, ix_lt, ix_add, ix_mul, ix_sub, nar0', nar1', or00, or01, or10, or11, rI, rIA, rIL, rA, rAI, rAL, rL, rLI, rLA, ru, ruL, reduceIte, Nat.reduceEqDiff, true_or, or_true, true_and, and_true, false_or, or_false, not_true_eq_false, not_false_eq_true, false_implies, true_implies, implies_true, i10, i01]
      refine ⟨fun h => absurd h (by omega), fun _ => ⟨by omega, ih (i + 1) _ (by omega) (fr_A f (by decide) _) (fun t ht => ?_)⟩⟩
      show upd (y.2.1 12) i (ix 0) t = ix 0
      rw [ru]; split
      · rfl
      · exact h1 t (by omega)
  simp only [wp_A_fill_27, forall_eq]
  exact ⟨25, loop 24 0 z (by omega) (fr_refl z) (fun t ht => absurd ht (by omega))⟩
theorem s_A_fill_29 {z : Sta} {K : Sta → Prop} (h : ∀ y, fr [] [14] [] z y → (∀ i, i < 24 → y.2.1 14 i = ix 0) → K y) : wp_A_fill_29 (ix 0) z K := by
  have loop : ∀ (k i : Nat) (y : Sta), i + k = 24 → fr [] [14] [] z y → (∀ t, t < i → y.2.1 14 t = ix 0) → lp_A_fill_29_5 K (k + 1) (ix 0) (ix i) (ix 24) y := by
    intro k
    induction k with
    | zero =>
      intro i y hik f h1
      rw [lp_A_fill_29_5]
      try simp (disch := omega) only [forall_eq, l0, l1, l2, l3, l4, l5, l6, l15, l16, l24, l30, l99, l100, l200, l385, lm1, ix_ne, ne_ix, ix_nat, vp_ix, ix_inj, ix_le, ix_lt, ix_add, ix_mul, ix_sub, nar0', nar1', or00, or01, or10, or11, rI, rIA, rIL, rA, rAI, rAL, rL, rLI, rLA, ru, ruL, reduceIte, Nat.reduceEqDiff, true_or, or_true, true_and, and_true, false_or, or_false, not_true_eq_false, not_false_eq_true, false_implies, true_implies, implies_true, i10, i01]
      exact ⟨fun _ => h y f (fun t ht => h1 t (by omega)), fun h => absurd (by omega) h⟩
    | succ k ih =>
      intro i y hik f h1
      rw [lp_A_fill_29_5]
      try simp (disch := omega) only [forall_eq, l0, l1, l2, l3, l4, l5, l6, l15, l16, l24, l30, l99, l100, l200, l385, lm1, ix_ne, ne_ix, ix_nat, vp_ix, ix_inj, ix_le, ix_lt, ix_add, ix_mul, ix_sub, nar0', nar1', or00, or01, or10, or11, rI, rIA, rIL, rA, rAI, rAL, rL, rLI, rLA, ru, ruL, reduceIte, Nat.reduceEqDiff, true_or, or_true, true_and, and_true, false_or, or_false, not_true_eq_false, not_false_eq_true, false_implies, true_implies, implies_true, i10, i01]
      refine ⟨fun h => absurd h (by omega), fun _ => ⟨by omega, ih (i + 1) _ (by omega) (fr_A f (by decide) _) (fun t ht => ?_)⟩⟩
      show upd (y.2.1 14) i (ix 0) t = ix 0
      rw [ru]; split
      · rfl
      · exact h1 t (by omega)
  simp only [wp_A_fill_29, forall_eq]
  exact ⟨25, loop 24 0 z (by omega) (fr_refl z) (fun t ht => absurd ht (by omega))⟩
def in3 (a b c : Int32) (i : Nat) : Int32 := if i = 2 then c else if i = 1 then b else if i = 0 then a else ix 0
theorem s_K_reset {z : Sta} {K : Sta → Prop} {a b c : Int32} (h : ∀ y, fr [4, 5, 6] [11, 12, 13, 14] [] z y → y.1 4 = ix 0 → y.1 5 = ix 0 → (∀ i, i < 6 → y.2.1 11 i = in3 a b c i) → (∀ i, i < 24 → y.2.1 12 i = ix 0) → (∀ i, i < 24 → y.2.1 14 i = ix 0) → K y) : wp_K_reset a b c z K := by
  simp only [wp_K_reset, forall_eq, l0, l1]
  refine s_A_fill_26 (fun y1 f1 h1 => s_A_fill_27 (fun y2 f2 h2 => s_A_fill_29 (fun y3 f3 h3 => ?_)))
  have g3 : fr [4, 5, 6] [11, 12, 13, 14] [] z y3 := fr_tr (fr_tr (fr_tr (fr_I (fr_I (fr_refl z) (by decide) _) (by decide) _) (fr_mono f1 (by decide) (by decide) (by decide))) (fr_mono f2 (by decide) (by decide) (by decide))) (fr_mono f3 (by decide) (by decide) (by decide))
  have a4 : y3.1 4 = ix 0 := by
    rw [f3.1 4 (by decide), f2.1 4 (by decide), f1.1 4 (by decide)]; try simp (disch := omega) only [forall_eq, l0, l1, l2, l3, l4, l5, l6, l15, l16, l24, l30, l99, l100, l200, l385, lm1, ix_ne, ne_ix, ix_nat, vp_ix, ix_inj, ix_le, ix_lt, ix_add, ix_mul, ix_sub, nar0', nar1', or00, or01, or10, or11, rI, rIA, rIL, rA, rAI, rAL, rL, rLI, rLA, ru, ruL, reduceIte, Nat.reduceEqDiff, true_or, or_true, true_and, and_true, false_or, or_false, not_true_eq_false, not_false_eq_true, false_implies, true_implies, implies_true, i10, i01]
  have a5 : y3.1 5 = ix 0 := by
    rw [f3.1 5 (by decide), f2.1 5 (by decide), f1.1 5 (by decide)]; try simp (disch := omega) only [forall_eq, l0, l1, l2, l3, l4, l5, l6, l15, l16, l24, l30, l99, l100, l200, l385, lm1, ix_ne, ne_ix, ix_nat, vp_ix, ix_inj, ix_le, ix_lt, ix_add, ix_mul, ix_sub, nar0', nar1', or00, or01, or10, or11, rI, rIA, rIL, rA, rAI, rAL, rL, rLI, rLA, ru, ruL, reduceIte, Nat.reduceEqDiff, true_or, or_true, true_and, and_true, false_or, or_false, not_true_eq_false, not_false_eq_true, false_implies, true_implies, implies_true, i10, i01]
  have a11 : ∀ i, i < 6 → y3.2.1 11 i = ix 0 := by
    rw [f3.2.1 11 (by decide), f2.2.1 11 (by decide)]; exact h1
  have a12 : ∀ i, i < 24 → y3.2.1 12 i = ix 0 := by
    rw [f3.2.1 12 (by decide)]; exact h2
  try simp (disch := omega) only [forall_eq, l0, l1, l2, l3, l4, l5, l6, l15, l16, l24, l30, l99, l100, l200, l385, lm1, ix_ne, ne_ix, ix_nat, vp_ix, ix_inj, ix_le, ix_lt, ix_add, ix_mul, ix_sub, nar0', nar1', or00, or01, or10, or11, rI, rIA, rIL, rA, rAI, rAL, rL, rLI, rLA, ru, ruL, reduceIte, Nat.reduceEqDiff, true_or, or_true, true_and, and_true, false_or, or_false, not_true_eq_false, not_false_eq_true, false_implies, true_implies, implies_true, i10, i01]
  refine ⟨by omega, by omega, by omega, h _ (fr_A (fr_A (fr_A g3 (by decide) _) (by decide) _) (by decide) _) a4 a5 (fun i hi => ?_) a12 h3⟩
  show upd (upd (upd (y3.2.1 11) 0 a) 1 b) 2 c i = in3 a b c i
  rw [ru, ru, ru]
  unfold in3
  split
  · rfl
  · split
    · rfl
    · split
      · rfl
      · exact a11 i hi
