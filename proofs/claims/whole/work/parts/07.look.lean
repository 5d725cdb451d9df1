def cpC (z : Sta) (b e k : Nat) : Prop := z.2.1 1 (5 * b + k) = ix 2 ∧ z.2.1 3 (5 * b + k) = ix e
def gvC (z : Sta) (b e k : Nat) : Prop := ¬ z.2.1 1 (5 * b + k) = ix 3 ∧ hb (z.2.2 0 (z.2.1 2 (5 * b + k)).toNatClampNeg) e = true
theorem s_O_readBlock {z : Sta} {K : Sta → Prop} {b sz : Nat} (hb16 : b < 16) (hsz : z.2.1 0 b = ix sz) (hs5 : sz ≤ 5)
    (hop : ∀ k, k < sz → z.2.1 1 (5 * b + k) = ix 2 → ∃ e, e < 24 ∧ z.2.1 3 (5 * b + k) = ix e)
    (htg : ∀ k, k < sz → ∃ t, t < 6 ∧ z.2.1 2 (5 * b + k) = ix t)
    (hK : ∀ y, fr [] [] [1, 2, 3] z y → (∀ a, a ≠ b → y.2.2 1 a = z.2.2 1 a ∧ y.2.2 2 a = z.2.2 2 a ∧ y.2.2 3 a = z.2.2 3 a) →
      (∀ e, e < 64 → (¬ z.2.1 10 b = ix 0 → (hb (y.2.2 1 b) e = true ↔ (lk (cpC z b e) (gvC z b e) sz).1) ∧
         (hb (y.2.2 2 b) e = true ↔ (lk (cpC z b e) (gvC z b e) sz).2.1) ∧
         (hb (y.2.2 3 b) e = true ↔ (lk (cpC z b e) (gvC z b e) sz).2.2)) ∧
         (z.2.1 10 b = ix 0 → hb (y.2.2 1 b) e = false ∧ hb (y.2.2 2 b) e = false ∧ hb (y.2.2 3 b) e = false)) → K y) : wp_O_readBlock (ix b) z K := by
  have loop : ∀ (k i : Nat) (y : Sta), i + k = sz → fr [] [] [1, 2, 3] z y → (∀ a, a ≠ b → y.2.2 1 a = z.2.2 1 a ∧ y.2.2 2 a = z.2.2 2 a ∧ y.2.2 3 a = z.2.2 3 a) →
      (∀ e, e < 64 → (hb (y.2.2 1 b) e = true ↔ (lk (cpC z b e) (gvC z b e) i).1) ∧
         (hb (y.2.2 2 b) e = true ↔ (lk (cpC z b e) (gvC z b e) i).2.1) ∧
         (hb (y.2.2 3 b) e = true ↔ (lk (cpC z b e) (gvC z b e) i).2.2)) →
      (¬ z.2.1 10 b = ix 0) → lp_O_readBlock_37 K (k + 1) (ix b) (ix (5 * b)) (ix (5 * b + i)) y := by
    intro k
    induction k with
    | zero =>
      intro i y hik hfr hoff hinv h10
      have h0 : y.2.1 0 = z.2.1 0 := hfr.2.1 0 (by decide)
      rw [lp_O_readBlock_37]
      simp (disch := omega) only [h0, hsz, forall_eq, l0, l1, l2, l3, l4, l5, l6, l15, l16, l24, l30, l99, l100, l200, l385, lm1, ix_ne, ne_ix, ix_nat, vp_ix, ix_inj, ix_le, ix_lt, ix_add, ix_mul, ix_sub, nar0', nar1', or00, or01, or10, or11, rI, rIA, rIL, rA, rAI, rAL, rL, rLI, rLA, ru, ruL, reduceIte, Nat.reduceEqDiff, true_or, or_true, true_and, and_true, false_or, or_false, not_true_eq_false, not_false_eq_true, false_implies, true_implies, implies_true, i10, i01]
      have : i = sz := by omega
      subst this
      exact ⟨by omega, fun _ => hK y hfr hoff (fun e he => ⟨fun _ => hinv e he, fun h => absurd h h10⟩), fun h => absurd (by omega) h⟩
    | succ k ih =>
      intro i y hik hfr hoff hinv h10
      have h0 : y.2.1 0 = z.2.1 0 := hfr.2.1 0 (by decide)
      have h1 : y.2.1 1 = z.2.1 1 := hfr.2.1 1 (by decide)
      have h2 : y.2.1 2 = z.2.1 2 := hfr.2.1 2 (by decide)
      have h3 : y.2.1 3 = z.2.1 3 := hfr.2.1 3 (by decide)
      have hu : y.2.2 0 = z.2.2 0 := hfr.2.2 0 (by decide)
      obtain ⟨t, ht, htg⟩ := htg i (by omega)
      have second : ∀ (y1 : Sta), fr [] [] [1, 2, 3] z y1 → (∀ a, a ≠ b → y1.2.2 1 a = z.2.2 1 a ∧ y1.2.2 2 a = z.2.2 2 a ∧ y1.2.2 3 a = z.2.2 3 a) →
          (∀ e, e < 64 → hb (y1.2.2 1 b) e = hb (y.2.2 1 b) e) → (∀ e, e < 64 → (hb (y1.2.2 2 b) e = true ↔ hb (y.2.2 2 b) e = true ∨ (cpC z b e i ∧ ¬ hb (y.2.2 1 b) e = true))) →
          (∀ e, e < 64 → (hb (y1.2.2 3 b) e = true ↔ hb (y.2.2 3 b) e = true ∨ cpC z b e i)) →
          pj_O_readBlock_111 K (fun x1 x2 x3 z => lp_O_readBlock_37 K (k + 1) x1 x2 x3 z) (ix b) (ix (5 * b)) (ix (5 * b + i)) y1 := by
        intro y1 hfr1 hoff1 hc ha hl
        have h11 : y1.2.1 1 = z.2.1 1 := hfr1.2.1 1 (by decide)
        have h12 : y1.2.1 2 = z.2.1 2 := hfr1.2.1 2 (by decide)
        have hu1 : y1.2.2 0 = z.2.2 0 := hfr1.2.2 0 (by decide)
        simp (disch := omega) only [pj_O_readBlock_111, pj_O_readBlock_169, h11, h12, hu1, htg, forall_eq, l0, l1, l2, l3, l4, l5, l6, l15, l16, l24, l30, l99, l100, l200, l385, lm1, ix_ne, ne_ix, ix_nat, vp_ix, ix_inj, ix_le, ix_lt, ix_add, ix_mul, ix_sub, nar0', nar1', or00, or01, or10, or11, rI, rIA, rIL, rA, rAI, rAL, rL, rLI, rLA, ru, ruL, reduceIte, Nat.reduceEqDiff, true_or, or_true, true_and, and_true, false_or, or_false, not_true_eq_false, not_false_eq_true, false_implies, true_implies, implies_true, i10, i01]
        refine ⟨by omega, fun h => ?_, fun h => ⟨by omega, by omega, by omega, by omega, by omega, by omega, ?_⟩⟩
        · refine ih (i + 1) y1 (by omega) hfr1 hoff1 (fun e he => ?_) h10
          obtain ⟨i1, i2, i3⟩ := hinv e he
          have hg : ¬ gvC z b e i := fun hh => hh.1 h
          simp only [lk, hg, or_false, not_false_eq_true, and_true]
          exact ⟨by rw [hc e he, i1], by rw [ha e he, i1, i2], by rw [hl e he, i3]⟩
        · refine ih (i + 1) _ (by omega) (fr_L (fr_L hfr1 (by decide) _) (by decide) _) (fun a ha => ?_) (fun e he => ?_) h10
          · have := hoff1 a ha
            simp (disch := omega) only [if_neg ha, forall_eq, l0, l1, l2, l3, l4, l5, l6, l15, l16, l24, l30, l99, l100, l200, l385, lm1, ix_ne, ne_ix, ix_nat, vp_ix, ix_inj, ix_le, ix_lt, ix_add, ix_mul, ix_sub, nar0', nar1', or00, or01, or10, or11, rI, rIA, rIL, rA, rAI, rAL, rL, rLI, rLA, ru, ruL, reduceIte, Nat.reduceEqDiff, true_or, or_true, true_and, and_true, false_or, or_false, not_true_eq_false, not_false_eq_true, false_implies, true_implies, implies_true, i10, i01]
            exact this
          · obtain ⟨i1, i2, i3⟩ := hinv e he
            have hg : gvC z b e i ↔ hb (z.2.2 0 t) e = true := by
              simp only [gvC, htg, ix_nat (show t < 2147483648 by omega)]
              exact ⟨fun hh => hh.2, fun hh => ⟨h, hh⟩⟩
            simp (disch := omega) only [lk, hb_or, hb_andn, forall_eq, l0, l1, l2, l3, l4, l5, l6, l15, l16, l24, l30, l99, l100, l200, l385, lm1, ix_ne, ne_ix, ix_nat, vp_ix, ix_inj, ix_le, ix_lt, ix_add, ix_mul, ix_sub, nar0', nar1', or00, or01, or10, or11, rI, rIA, rIL, rA, rAI, rAL, rL, rLI, rLA, ru, ruL, reduceIte, Nat.reduceEqDiff, true_or, or_true, true_and, and_true, false_or, or_false, not_true_eq_false, not_false_eq_true, false_implies, true_implies, implies_true, i10, i01]
            rw [hg]
            refine ⟨?_, ?_, ?_⟩
            · rw [hc e he, Bool.or_eq_true, i1]
            · rw [ha e he, i1, i2]
            · rw [Bool.and_eq_true, hl e he, i3, Bool.not_eq_true', Bool.not_eq_true]
      rw [lp_O_readBlock_37]
      simp (disch := omega) only [h0, hsz, h1, h3, forall_eq, l0, l1, l2, l3, l4, l5, l6, l15, l16, l24, l30, l99, l100, l200, l385, lm1, ix_ne, ne_ix, ix_nat, vp_ix, ix_inj, ix_le, ix_lt, ix_add, ix_mul, ix_sub, nar0', nar1', or00, or01, or10, or11, rI, rIA, rIL, rA, rAI, rAL, rL, rLI, rLA, ru, ruL, reduceIte, Nat.reduceEqDiff, true_or, or_true, true_and, and_true, false_or, or_false, not_true_eq_false, not_false_eq_true, false_implies, true_implies, implies_true, i10, i01]
      refine ⟨by omega, fun h => absurd h (by omega), fun _ => ⟨by omega, fun h => ?_, fun h => ⟨by omega, by omega, by omega, by omega, by omega, by omega, ?_⟩⟩⟩
      · refine second y hfr hoff (fun _ _ => rfl) (fun e he => ?_) (fun e he => ?_)
        · exact ⟨Or.inl, fun hh => hh.elim id (fun hh => absurd hh.1.1 h)⟩
        · exact ⟨Or.inl, fun hh => hh.elim id (fun hh => absurd hh.1 h)⟩
      · obtain ⟨e0, he0, hop⟩ := hop i (by omega) h
        refine second _ (fr_L (fr_L hfr (by decide) _) (by decide) _) (fun a ha => ?_) (fun e he => ?_) (fun e he => ?_) (fun e he => ?_)
        · have := hoff a ha
          simp (disch := omega) only [if_neg ha, forall_eq, l0, l1, l2, l3, l4, l5, l6, l15, l16, l24, l30, l99, l100, l200, l385, lm1, ix_ne, ne_ix, ix_nat, vp_ix, ix_inj, ix_le, ix_lt, ix_add, ix_mul, ix_sub, nar0', nar1', or00, or01, or10, or11, rI, rIA, rIL, rA, rAI, rAL, rL, rLI, rLA, ru, ruL, reduceIte, Nat.reduceEqDiff, true_or, or_true, true_and, and_true, false_or, or_false, not_true_eq_false, not_false_eq_true, false_implies, true_implies, implies_true, i10, i01]
          exact this
        · simp (disch := omega) only [forall_eq, l0, l1, l2, l3, l4, l5, l6, l15, l16, l24, l30, l99, l100, l200, l385, lm1, ix_ne, ne_ix, ix_nat, vp_ix, ix_inj, ix_le, ix_lt, ix_add, ix_mul, ix_sub, nar0', nar1', or00, or01, or10, or11, rI, rIA, rIL, rA, rAI, rAL, rL, rLI, rLA, ru, ruL, reduceIte, Nat.reduceEqDiff, true_or, or_true, true_and, and_true, false_or, or_false, not_true_eq_false, not_false_eq_true, false_implies, true_implies, implies_true, i10, i01]
        · have hcp : cpC z b e i ↔ e = e0 := by
            constructor
            · intro hh
              have := hh.2.symm.trans hop
              rwa [ix_inj (by omega) (by omega)] at this
            · intro hh; rw [hh]; exact ⟨h, hop⟩
          simp (disch := omega) only [hop, hb_or, hb_andn, hb_one he0, Bool.or_eq_true, Bool.and_eq_true, decide_eq_true_eq, forall_eq, l0, l1, l2, l3, l4, l5, l6, l15, l16, l24, l30, l99, l100, l200, l385, lm1, ix_ne, ne_ix, ix_nat, vp_ix, ix_inj, ix_le, ix_lt, ix_add, ix_mul, ix_sub, nar0', nar1', or00, or01, or10, or11, rI, rIA, rIL, rA, rAI, rAL, rL, rLI, rLA, ru, ruL, reduceIte, Nat.reduceEqDiff, true_or, or_true, true_and, and_true, false_or, or_false, not_true_eq_false, not_false_eq_true, false_implies, true_implies, implies_true, i10, i01]
          rw [hcp, Bool.not_eq_true', Bool.not_eq_true]
        · have hcp : cpC z b e i ↔ e = e0 := by
            constructor
            · intro hh
              have := hh.2.symm.trans hop
              rwa [ix_inj (by omega) (by omega)] at this
            · intro hh; rw [hh]; exact ⟨h, hop⟩
          simp (disch := omega) only [hop, hb_or, hb_one he0, Bool.or_eq_true, decide_eq_true_eq, forall_eq, l0, l1, l2, l3, l4, l5, l6, l15, l16, l24, l30, l99, l100, l200, l385, lm1, ix_ne, ne_ix, ix_nat, vp_ix, ix_inj, ix_le, ix_lt, ix_add, ix_mul, ix_sub, nar0', nar1', or00, or01, or10, or11, rI, rIA, rIL, rA, rAI, rAL, rL, rLI, rLA, ru, ruL, reduceIte, Nat.reduceEqDiff, true_or, or_true, true_and, and_true, false_or, or_false, not_true_eq_false, not_false_eq_true, false_implies, true_implies, implies_true, i10, i01]
          rw [hcp]
  simp (disch := omega) only [wp_O_readBlock, forall_eq, l0, l1, l2, l3, l4, l5, l6, l15, l16, l24, l30, l99, l100, l200, l385, lm1, ix_ne, ne_ix, ix_nat, vp_ix, ix_inj, ix_le, ix_lt, ix_add, ix_mul, ix_sub, nar0', nar1', or00, or01, or10, or11, rI, rIA, rIL, rA, rAI, rAL, rL, rLI, rLA, ru, ruL, reduceIte, Nat.reduceEqDiff, true_or, or_true, true_and, and_true, false_or, or_false, not_true_eq_false, not_false_eq_true, false_implies, true_implies, implies_true, i10, i01]
  have hb0 : ∀ e, hb (0 : Int64) e = true ↔ False := fun e => by rw [hb_0]; simp
  refine ⟨by omega, by omega, by omega, by omega, fun h => ⟨sz + 1, ?_⟩, fun h => ?_⟩
  · rw [Nat.mul_comm b 5]
    refine loop sz 0 _ (by omega) (fr_L (fr_L (fr_L (fr_refl z) (by decide) _) (by decide) _) (by decide) _) (fun a ha => ?_) (fun e he => ?_) h
    · simp (disch := omega) only [if_neg ha, forall_eq, l0, l1, l2, l3, l4, l5, l6, l15, l16, l24, l30, l99, l100, l200, l385, lm1, ix_ne, ne_ix, ix_nat, vp_ix, ix_inj, ix_le, ix_lt, ix_add, ix_mul, ix_sub, nar0', nar1', or00, or01, or10, or11, rI, rIA, rIL, rA, rAI, rAL, rL, rLI, rLA, ru, ruL, reduceIte, Nat.reduceEqDiff, true_or, or_true, true_and, and_true, false_or, or_false, not_true_eq_false, not_false_eq_true, false_implies, true_implies, implies_true, i10, i01]
    · simp (disch := omega) only [lk, hb0, forall_eq, l0, l1, l2, l3, l4, l5, l6, l15, l16, l24, l30, l99, l100, l200, l385, lm1, ix_ne, ne_ix, ix_nat, vp_ix, ix_inj, ix_le, ix_lt, ix_add, ix_mul, ix_sub, nar0', nar1', or00, or01, or10, or11, rI, rIA, rIL, rA, rAI, rAL, rL, rLI, rLA, ru, ruL, reduceIte, Nat.reduceEqDiff, true_or, or_true, true_and, and_true, false_or, or_false, not_true_eq_false, not_false_eq_true, false_implies, true_implies, implies_true, i10, i01]
  · refine hK _ (fr_L (fr_L (fr_L (fr_refl z) (by decide) _) (by decide) _) (by decide) _) (fun a ha => ?_) (fun e he => ⟨fun hh => absurd h hh, fun _ => ?_⟩)
    · simp (disch := omega) only [if_neg ha, forall_eq, l0, l1, l2, l3, l4, l5, l6, l15, l16, l24, l30, l99, l100, l200, l385, lm1, ix_ne, ne_ix, ix_nat, vp_ix, ix_inj, ix_le, ix_lt, ix_add, ix_mul, ix_sub, nar0', nar1', or00, or01, or10, or11, rI, rIA, rIL, rA, rAI, rAL, rL, rLI, rLA, ru, ruL, reduceIte, Nat.reduceEqDiff, true_or, or_true, true_and, and_true, false_or, or_false, not_true_eq_false, not_false_eq_true, false_implies, true_implies, implies_true, i10, i01]
    · simp (disch := omega) only [hb_0, forall_eq, l0, l1, l2, l3, l4, l5, l6, l15, l16, l24, l30, l99, l100, l200, l385, lm1, ix_ne, ne_ix, ix_nat, vp_ix, ix_inj, ix_le, ix_lt, ix_add, ix_mul, ix_sub, nar0', nar1', or00, or01, or10, or11, rI, rIA, rIL, rA, rAI, rAL, rL, rLI, rLA, ru, ruL, reduceIte, Nat.reduceEqDiff, true_or, or_true, true_and, and_true, false_or, or_false, not_true_eq_false, not_false_eq_true, false_implies, true_implies, implies_true, i10, i01]
def cpM (z : Sta) (b e k : Nat) : Prop := z.2.1 16 (30 * b + 6 * k) = ix 2 ∧ z.2.1 16 (30 * b + 6 * k + 5) = ix e
def gvM (z : Sta) (b e k : Nat) : Prop := ¬ ix 3 ≤ z.2.1 16 (30 * b + 6 * k) ∧ (z.2.1 16 (30 * b + 6 * k + 1) = z.2.1 18 e ∨ z.2.1 16 (30 * b + 6 * k + 1) = z.2.1 20 e)
theorem s_M_gives {z : Sta} {K : Int32 → Sta → Prop} {b e k : Nat} (hb16 : b < 16) (he : e < 24) (hk : k < 5) (h : ∀ v, isb v (gvM z b e k) → K v z) : wp_M_gives (ix (30 * b + 6 * k)) (ix e) z K := by
  simp (disch := omega) only [wp_M_gives, pj_M_gives_48, pj_M_gives_49, pj_M_gives_44, forall_eq, l0, l1, l2, l3, l4, l5, l6, l15, l16, l24, l30, l99, l100, l200, l385, lm1, ix_ne, ne_ix, ix_nat, vp_ix, ix_inj, ix_le, ix_lt, ix_add, ix_mul, ix_sub, nar0', nar1', or00, or01, or10, or11, rI, rIA, rIL, rA, rAI, rAL, rL, rLI, rLA, ru, ruL, reduceIte, Nat.reduceEqDiff, true_or, or_true, true_and, and_true, false_or, or_false, not_true_eq_false, not_false_eq_true, false_implies, true_implies, implies_true, i10, i01]
  refine ⟨by omega, fun h0 => h _ (Or.inr ⟨rfl, fun hh => hh.1 h0⟩), fun h0 => ⟨by omega, by omega, fun h1 => h _ (Or.inl ⟨rfl, h0, Or.inl h1⟩), fun h1 => ⟨by omega, by omega, fun h2 => h _ (Or.inr ⟨rfl, fun hh => hh.2.elim h1 h2⟩), fun h2 => h _ (Or.inl ⟨rfl, h0, Or.inr h2⟩)⟩⟩⟩
theorem s_M_look {z : Sta} {K : Sta → Prop} {b e sz : Nat} (hb16 : b < 16) (he : e < 24) (hsz : z.2.1 15 b = ix sz) (hs5 : sz ≤ 5)
    (hK : ∀ y, fr [] [24, 25, 26] [] z y → (∀ a, a ≠ b → y.2.1 24 a = z.2.1 24 a ∧ y.2.1 25 a = z.2.1 25 a ∧ y.2.1 26 a = z.2.1 26 a) →
      isb (y.2.1 24 b) (lk (cpM z b e) (gvM z b e) sz).1 → isb (y.2.1 25 b) (lk (cpM z b e) (gvM z b e) sz).2.1 → isb (y.2.1 26 b) (lk (cpM z b e) (gvM z b e) sz).2.2 → K y) : wp_M_look (ix b) (ix e) z K := by
  have gvz : ∀ (y : Sta) (k : Nat), fr [] [24, 25, 26] [] z y → (gvM y b e k ↔ gvM z b e k) := by
    intro y k hfr
    simp only [gvM, hfr.2.1 16 (by decide), hfr.2.1 18 (by decide), hfr.2.1 20 (by decide)]
  have loop : ∀ (k i : Nat) (y : Sta), i + k = sz → fr [] [24, 25, 26] [] z y → (∀ a, a ≠ b → y.2.1 24 a = z.2.1 24 a ∧ y.2.1 25 a = z.2.1 25 a ∧ y.2.1 26 a = z.2.1 26 a) →
      isb (y.2.1 24 b) (lk (cpM z b e) (gvM z b e) i).1 → isb (y.2.1 25 b) (lk (cpM z b e) (gvM z b e) i).2.1 → isb (y.2.1 26 b) (lk (cpM z b e) (gvM z b e) i).2.2 →
      lp_M_look_23 K (k + 1) (ix b) (ix e) (ix i) y := by
    intro k
    induction k with
    | zero =>
      intro i y hik hfr hoff h1 h2 h3
      have h15 : y.2.1 15 = z.2.1 15 := hfr.2.1 15 (by decide)
      rw [lp_M_look_23]
      simp (disch := omega) only [h15, hsz, forall_eq, l0, l1, l2, l3, l4, l5, l6, l15, l16, l24, l30, l99, l100, l200, l385, lm1, ix_ne, ne_ix, ix_nat, vp_ix, ix_inj, ix_le, ix_lt, ix_add, ix_mul, ix_sub, nar0', nar1', or00, or01, or10, or11, rI, rIA, rIL, rA, rAI, rAL, rL, rLI, rLA, ru, ruL, reduceIte, Nat.reduceEqDiff, true_or, or_true, true_and, and_true, false_or, or_false, not_true_eq_false, not_false_eq_true, false_implies, true_implies, implies_true, i10, i01]
      have : i = sz := by omega
      subst this
      exact ⟨by omega, fun _ => hK y hfr hoff h1 h2 h3, fun h => absurd (by omega) h⟩
    | succ k ih =>
      intro i y hik hfr hoff h1 h2 h3
      have h15 : y.2.1 15 = z.2.1 15 := hfr.2.1 15 (by decide)
      have h16 : y.2.1 16 = z.2.1 16 := hfr.2.1 16 (by decide)
      have third : ∀ (y1 : Sta) (v : Int32), fr [] [24, 25, 26] [] z y1 → (∀ a, a ≠ b → y1.2.1 24 a = z.2.1 24 a ∧ y1.2.1 25 a = z.2.1 25 a ∧ y1.2.1 26 a = z.2.1 26 a) →
          isb (y1.2.1 24 b) (lk (cpM z b e) (gvM z b e) i).1 → isb (y1.2.1 25 b) (lk (cpM z b e) (gvM z b e) (i + 1)).2.1 → isb v (lk (cpM z b e) (gvM z b e) (i + 1)).2.2 →
          pj_M_look_143 K (fun x1 x2 x3 z => lp_M_look_23 K (k + 1) x1 x2 x3 z) (ix b) (ix e) (ix i) (ix (30 * b + 6 * i)) v (ix b) y1 := by
        intro y1 v hfr1 hoff1 i1 i2 i3
        have hv : vp_nar .boolean v = v := by
          rcases isb_b i3 with h | h <;> rw [h] <;> decide
        have hoffN : ∀ (w : Int32), (∀ a, a ≠ b → (zA (zA y1 26 (upd (y1.2.1 26) b v)) 24 (upd (y1.2.1 24) b w)).2.1 24 a = z.2.1 24 a ∧ (zA (zA y1 26 (upd (y1.2.1 26) b v)) 24 (upd (y1.2.1 24) b w)).2.1 25 a = z.2.1 25 a ∧ (zA (zA y1 26 (upd (y1.2.1 26) b v)) 24 (upd (y1.2.1 24) b w)).2.1 26 a = z.2.1 26 a) := by
          intro w a ha
          have := hoff1 a ha
          simp (disch := omega) only [if_neg ha, forall_eq, l0, l1, l2, l3, l4, l5, l6, l15, l16, l24, l30, l99, l100, l200, l385, lm1, ix_ne, ne_ix, ix_nat, vp_ix, ix_inj, ix_le, ix_lt, ix_add, ix_mul, ix_sub, nar0', nar1', or00, or01, or10, or11, rI, rIA, rIL, rA, rAI, rAL, rL, rLI, rLA, ru, ruL, reduceIte, Nat.reduceEqDiff, true_or, or_true, true_and, and_true, false_or, or_false, not_true_eq_false, not_false_eq_true, false_implies, true_implies, implies_true, i10, i01]
          exact this
        have fin : ∀ (w : Int32), isb w (lk (cpM z b e) (gvM z b e) (i + 1)).1 → lp_M_look_23 K (k + 1) (ix b) (ix e) (ix (i + 1)) (zA (zA y1 26 (upd (y1.2.1 26) b v)) 24 (upd (y1.2.1 24) b w)) := by
          intro w hw
          refine ih (i + 1) _ (by omega) (fr_A (fr_A hfr1 (by decide) _) (by decide) _) (hoffN w) ?_ ?_ ?_
          · simp (disch := omega) only [forall_eq, l0, l1, l2, l3, l4, l5, l6, l15, l16, l24, l30, l99, l100, l200, l385, lm1, ix_ne, ne_ix, ix_nat, vp_ix, ix_inj, ix_le, ix_lt, ix_add, ix_mul, ix_sub, nar0', nar1', or00, or01, or10, or11, rI, rIA, rIL, rA, rAI, rAL, rL, rLI, rLA, ru, ruL, reduceIte, Nat.reduceEqDiff, true_or, or_true, true_and, and_true, false_or, or_false, not_true_eq_false, not_false_eq_true, false_implies, true_implies, implies_true, i10, i01]
            exact hw
          · simp (disch := omega) only [forall_eq, l0, l1, l2, l3, l4, l5, l6, l15, l16, l24, l30, l99, l100, l200, l385, lm1, ix_ne, ne_ix, ix_nat, vp_ix, ix_inj, ix_le, ix_lt, ix_add, ix_mul, ix_sub, nar0', nar1', or00, or01, or10, or11, rI, rIA, rIL, rA, rAI, rAL, rL, rLI, rLA, ru, ruL, reduceIte, Nat.reduceEqDiff, true_or, or_true, true_and, and_true, false_or, or_false, not_true_eq_false, not_false_eq_true, false_implies, true_implies, implies_true, i10, i01]
            exact i2
          · simp (disch := omega) only [forall_eq, l0, l1, l2, l3, l4, l5, l6, l15, l16, l24, l30, l99, l100, l200, l385, lm1, ix_ne, ne_ix, ix_nat, vp_ix, ix_inj, ix_le, ix_lt, ix_add, ix_mul, ix_sub, nar0', nar1', or00, or01, or10, or11, rI, rIA, rIL, rA, rAI, rAL, rL, rLI, rLA, ru, ruL, reduceIte, Nat.reduceEqDiff, true_or, or_true, true_and, and_true, false_or, or_false, not_true_eq_false, not_false_eq_true, false_implies, true_implies, implies_true, i10, i01]
            exact i3
        simp (disch := omega) only [pj_M_look_143, pj_M_look_168, pj_M_look_173, hv, forall_eq, l0, l1, l2, l3, l4, l5, l6, l15, l16, l24, l30, l99, l100, l200, l385, lm1, ix_ne, ne_ix, ix_nat, vp_ix, ix_inj, ix_le, ix_lt, ix_add, ix_mul, ix_sub, nar0', nar1', or00, or01, or10, or11, rI, rIA, rIL, rA, rAI, rAL, rL, rLI, rLA, ru, ruL, reduceIte, Nat.reduceEqDiff, true_or, or_true, true_and, and_true, false_or, or_false, not_true_eq_false, not_false_eq_true, false_implies, true_implies, implies_true, i10, i01]
        refine ⟨by omega, by omega, fun h => ⟨by omega, fin _ (Or.inl ⟨rfl, ?_⟩)⟩, fun h => s_M_gives hb16 he (by omega) (fun v2 hv2 => ?_)⟩
        · exact Or.inl (Classical.byContradiction fun hh => h ((isb_z i1).2 hh))
        · have hv2 := isb_c hv2 (gvz _ i (fr_A hfr1 (by decide) _))
          simp (disch := omega) only [forall_eq, l0, l1, l2, l3, l4, l5, l6, l15, l16, l24, l30, l99, l100, l200, l385, lm1, ix_ne, ne_ix, ix_nat, vp_ix, ix_inj, ix_le, ix_lt, ix_add, ix_mul, ix_sub, nar0', nar1', or00, or01, or10, or11, rI, rIA, rIL, rA, rAI, rAL, rL, rLI, rLA, ru, ruL, reduceIte, Nat.reduceEqDiff, true_or, or_true, true_and, and_true, false_or, or_false, not_true_eq_false, not_false_eq_true, false_implies, true_implies, implies_true, i10, i01]
          refine ⟨fun h2 => ⟨by omega, fin _ (Or.inr ⟨rfl, ?_⟩)⟩, fun h2 => ⟨by omega, fin _ (Or.inl ⟨rfl, ?_⟩)⟩⟩
          · exact fun hh => hh.elim ((isb_z i1).1 h) ((isb_z hv2).1 h2)
          · exact Or.inr (Classical.byContradiction fun hh => h2 ((isb_z hv2).2 hh))
      have second : ∀ (y1 : Sta) (x5 v : Int32), fr [] [24, 25, 26] [] z y1 → (∀ a, a ≠ b → y1.2.1 24 a = z.2.1 24 a ∧ y1.2.1 25 a = z.2.1 25 a ∧ y1.2.1 26 a = z.2.1 26 a) →
          isb (y1.2.1 24 b) (lk (cpM z b e) (gvM z b e) i).1 → isb v (lk (cpM z b e) (gvM z b e) (i + 1)).2.1 → isb (y1.2.1 26 b) (lk (cpM z b e) (gvM z b e) i).2.2 → isb x5 (cpM z b e i) →
          pj_M_look_108 K (fun x1 x2 x3 z => lp_M_look_23 K (k + 1) x1 x2 x3 z) (ix b) (ix e) (ix i) (ix (30 * b + 6 * i)) x5 v (ix b) y1 := by
        intro y1 x5 v hfr1 hoff1 i1 i2 i3 i5
        have hv : vp_nar .boolean v = v := by
          rcases isb_b i2 with h | h <;> rw [h] <;> decide
        have hfr2 : fr [] [24, 25, 26] [] z (zA y1 25 (upd (y1.2.1 25) b v)) := fr_A hfr1 (by decide) _
        have go : ∀ (w : Int32), isb w (lk (cpM z b e) (gvM z b e) (i + 1)).2.2 → pj_M_look_143 K (fun x1 x2 x3 z => lp_M_look_23 K (k + 1) x1 x2 x3 z) (ix b) (ix e) (ix i) (ix (30 * b + 6 * i)) w (ix b) (zA y1 25 (upd (y1.2.1 25) b v)) := by
          intro w hw
          refine third _ w hfr2 (fun a ha => ?_) ?_ ?_ hw
          · have := hoff1 a ha
            simp (disch := omega) only [if_neg ha, forall_eq, l0, l1, l2, l3, l4, l5, l6, l15, l16, l24, l30, l99, l100, l200, l385, lm1, ix_ne, ne_ix, ix_nat, vp_ix, ix_inj, ix_le, ix_lt, ix_add, ix_mul, ix_sub, nar0', nar1', or00, or01, or10, or11, rI, rIA, rIL, rA, rAI, rAL, rL, rLI, rLA, ru, ruL, reduceIte, Nat.reduceEqDiff, true_or, or_true, true_and, and_true, false_or, or_false, not_true_eq_false, not_false_eq_true, false_implies, true_implies, implies_true, i10, i01]
            exact this
          · simp (disch := omega) only [forall_eq, l0, l1, l2, l3, l4, l5, l6, l15, l16, l24, l30, l99, l100, l200, l385, lm1, ix_ne, ne_ix, ix_nat, vp_ix, ix_inj, ix_le, ix_lt, ix_add, ix_mul, ix_sub, nar0', nar1', or00, or01, or10, or11, rI, rIA, rIL, rA, rAI, rAL, rL, rLI, rLA, ru, ruL, reduceIte, Nat.reduceEqDiff, true_or, or_true, true_and, and_true, false_or, or_false, not_true_eq_false, not_false_eq_true, false_implies, true_implies, implies_true, i10, i01]
            exact i1
          · simp (disch := omega) only [forall_eq, l0, l1, l2, l3, l4, l5, l6, l15, l16, l24, l30, l99, l100, l200, l385, lm1, ix_ne, ne_ix, ix_nat, vp_ix, ix_inj, ix_le, ix_lt, ix_add, ix_mul, ix_sub, nar0', nar1', or00, or01, or10, or11, rI, rIA, rIL, rA, rAI, rAL, rL, rLI, rLA, ru, ruL, reduceIte, Nat.reduceEqDiff, true_or, or_true, true_and, and_true, false_or, or_false, not_true_eq_false, not_false_eq_true, false_implies, true_implies, implies_true, i10, i01]
            exact i2
        have lks : (lk (cpM z b e) (gvM z b e) (i + 1)).2.2 = (((lk (cpM z b e) (gvM z b e) i).2.2 ∨ cpM z b e i) ∧ ¬ gvM z b e i) := rfl
        have give : ((lk (cpM z b e) (gvM z b e) i).2.2 ∨ cpM z b e i) → pj_M_look_128 K (fun x1 x2 x3 z => lp_M_look_23 K (k + 1) x1 x2 x3 z) (ix b) (ix e) (ix i) (ix (30 * b + 6 * i)) (ix b) (zA y1 25 (upd (y1.2.1 25) b v)) := by
          intro hor
          rw [pj_M_look_128]
          refine s_M_gives hb16 he (by omega) (fun v2 hv2 => ?_)
          have hv2 := isb_c hv2 (gvz _ i hfr2)
          simp (disch := omega) only [pj_M_look_142, forall_eq, l0, l1, l2, l3, l4, l5, l6, l15, l16, l24, l30, l99, l100, l200, l385, lm1, ix_ne, ne_ix, ix_nat, vp_ix, ix_inj, ix_le, ix_lt, ix_add, ix_mul, ix_sub, nar0', nar1', or00, or01, or10, or11, rI, rIA, rIL, rA, rAI, rAL, rL, rLI, rLA, ru, ruL, reduceIte, Nat.reduceEqDiff, true_or, or_true, true_and, and_true, false_or, or_false, not_true_eq_false, not_false_eq_true, false_implies, true_implies, implies_true, i10, i01]
          refine ⟨fun h2 => go _ (Or.inr ⟨rfl, fun hh => ?_⟩), fun h2 => go _ (Or.inl ⟨rfl, hor, (isb_z hv2).1 h2⟩)⟩
          exact h2 ((isb_z hv2).2 hh.2)
        simp (disch := omega) only [pj_M_look_108, pj_M_look_142, hv, forall_eq, l0, l1, l2, l3, l4, l5, l6, l15, l16, l24, l30, l99, l100, l200, l385, lm1, ix_ne, ne_ix, ix_nat, vp_ix, ix_inj, ix_le, ix_lt, ix_add, ix_mul, ix_sub, nar0', nar1', or00, or01, or10, or11, rI, rIA, rIL, rA, rAI, rAL, rL, rLI, rLA, ru, ruL, reduceIte, Nat.reduceEqDiff, true_or, or_true, true_and, and_true, false_or, or_false, not_true_eq_false, not_false_eq_true, false_implies, true_implies, implies_true, i10, i01]
        refine ⟨by omega, by omega, fun h => give (Or.inl ?_), fun h => ⟨fun h5 => go _ (Or.inr ⟨rfl, fun hh => ?_⟩), fun h5 => give (Or.inr ?_)⟩⟩
        · exact Classical.byContradiction fun hh => h ((isb_z i3).2 hh)
        · exact hh.1.elim ((isb_z i3).1 h) ((isb_z i5).1 h5)
        · exact Classical.byContradiction fun hh => h5 ((isb_z i5).2 hh)
      have first : ∀ (x5 : Int32), isb x5 (cpM z b e i) → pj_M_look_73 K (fun x1 x2 x3 z => lp_M_look_23 K (k + 1) x1 x2 x3 z) (ix b) (ix e) (ix i) (ix (30 * b + 6 * i)) x5 y := by
        intro x5 h5
        simp (disch := omega) only [pj_M_look_73, pj_M_look_103, pj_M_look_107, forall_eq, l0, l1, l2, l3, l4, l5, l6, l15, l16, l24, l30, l99, l100, l200, l385, lm1, ix_ne, ne_ix, ix_nat, vp_ix, ix_inj, ix_le, ix_lt, ix_add, ix_mul, ix_sub, nar0', nar1', or00, or01, or10, or11, rI, rIA, rIL, rA, rAI, rAL, rL, rLI, rLA, ru, ruL, reduceIte, Nat.reduceEqDiff, true_or, or_true, true_and, and_true, false_or, or_false, not_true_eq_false, not_false_eq_true, false_implies, true_implies, implies_true, i10, i01]
        have lks : (lk (cpM z b e) (gvM z b e) (i + 1)).2.1 = ((lk (cpM z b e) (gvM z b e) i).2.1 ∨ (cpM z b e i ∧ ¬ (lk (cpM z b e) (gvM z b e) i).1)) := rfl
        refine ⟨by omega, fun h => second y x5 _ hfr hoff h1 (Or.inl ⟨rfl, Or.inl ?_⟩) h3 h5, fun h => ⟨fun h6 => second y x5 _ hfr hoff h1 (Or.inr ⟨rfl, fun hh => ?_⟩) h3 h5, fun h6 => ⟨by omega, fun h7 => second y x5 _ hfr hoff h1 (Or.inr ⟨rfl, fun hh => ?_⟩) h3 h5, fun h7 => second y x5 _ hfr hoff h1 (Or.inl ⟨rfl, Or.inr ⟨?_, (isb_z h1).1 h7⟩⟩) h3 h5⟩⟩⟩
        · exact Classical.byContradiction fun hh => h ((isb_z h2).2 hh)
        · rw [lks] at hh; exact hh.elim ((isb_z h2).1 h) (fun hh => (isb_z h5).1 h6 hh.1)
        · rw [lks] at hh; exact hh.elim ((isb_z h2).1 h) (fun hh => h7 ((isb_z h1).2 hh.2))
        · exact Classical.byContradiction fun hh => h6 ((isb_z h5).2 hh)
      rw [lp_M_look_23]
      simp (disch := omega) only [h15, hsz, h16, pj_M_look_72, forall_eq, l0, l1, l2, l3, l4, l5, l6, l15, l16, l24, l30, l99, l100, l200, l385, lm1, ix_ne, ne_ix, ix_nat, vp_ix, ix_inj, ix_le, ix_lt, ix_add, ix_mul, ix_sub, nar0', nar1', or00, or01, or10, or11, rI, rIA, rIL, rA, rAI, rAL, rL, rLI, rLA, ru, ruL, reduceIte, Nat.reduceEqDiff, true_or, or_true, true_and, and_true, false_or, or_false, not_true_eq_false, not_false_eq_true, false_implies, true_implies, implies_true, i10, i01]
      refine ⟨by omega, fun h => absurd h (by omega), fun _ => ⟨by omega, fun h => first _ (Or.inr ⟨rfl, fun hh => h hh.1⟩), fun h => ⟨by omega, fun h2 => first _ (Or.inr ⟨rfl, fun hh => h2 hh.2⟩), fun h2 => first _ (Or.inl ⟨rfl, h, h2⟩)⟩⟩⟩
  simp (disch := omega) only [wp_M_look, forall_eq, l0, l1, l2, l3, l4, l5, l6, l15, l16, l24, l30, l99, l100, l200, l385, lm1, ix_ne, ne_ix, ix_nat, vp_ix, ix_inj, ix_le, ix_lt, ix_add, ix_mul, ix_sub, nar0', nar1', or00, or01, or10, or11, rI, rIA, rIL, rA, rAI, rAL, rL, rLI, rLA, ru, ruL, reduceIte, Nat.reduceEqDiff, true_or, or_true, true_and, and_true, false_or, or_false, not_true_eq_false, not_false_eq_true, false_implies, true_implies, implies_true, i10, i01]
  refine ⟨by omega, by omega, by omega, sz + 1, loop sz 0 _ (by omega) (fr_A (fr_A (fr_A (fr_refl z) (by decide) _) (by decide) _) (by decide) _) (fun a ha => ?_) ?_ ?_ ?_⟩
  · simp (disch := omega) only [if_neg ha, forall_eq, l0, l1, l2, l3, l4, l5, l6, l15, l16, l24, l30, l99, l100, l200, l385, lm1, ix_ne, ne_ix, ix_nat, vp_ix, ix_inj, ix_le, ix_lt, ix_add, ix_mul, ix_sub, nar0', nar1', or00, or01, or10, or11, rI, rIA, rIL, rA, rAI, rAL, rL, rLI, rLA, ru, ruL, reduceIte, Nat.reduceEqDiff, true_or, or_true, true_and, and_true, false_or, or_false, not_true_eq_false, not_false_eq_true, false_implies, true_implies, implies_true, i10, i01]
  · simp (disch := omega) only [forall_eq, l0, l1, l2, l3, l4, l5, l6, l15, l16, l24, l30, l99, l100, l200, l385, lm1, ix_ne, ne_ix, ix_nat, vp_ix, ix_inj, ix_le, ix_lt, ix_add, ix_mul, ix_sub, nar0', nar1', or00, or01, or10, or11, rI, rIA, rIL, rA, rAI, rAL, rL, rLI, rLA, ru, ruL, reduceIte, Nat.reduceEqDiff, true_or, or_true, true_and, and_true, false_or, or_false, not_true_eq_false, not_false_eq_true, false_implies, true_implies, implies_true, i10, i01]
    exact Or.inr ⟨rfl, fun h => h⟩
  · simp (disch := omega) only [forall_eq, l0, l1, l2, l3, l4, l5, l6, l15, l16, l24, l30, l99, l100, l200, l385, lm1, ix_ne, ne_ix, ix_nat, vp_ix, ix_inj, ix_le, ix_lt, ix_add, ix_mul, ix_sub, nar0', nar1', or00, or01, or10, or11, rI, rIA, rIL, rA, rAI, rAL, rL, rLI, rLA, ru, ruL, reduceIte, Nat.reduceEqDiff, true_or, or_true, true_and, and_true, false_or, or_false, not_true_eq_false, not_false_eq_true, false_implies, true_implies, implies_true, i10, i01]
    exact Or.inr ⟨rfl, fun h => h⟩
  · simp (disch := omega) only [forall_eq, l0, l1, l2, l3, l4, l5, l6, l15, l16, l24, l30, l99, l100, l200, l385, lm1, ix_ne, ne_ix, ix_nat, vp_ix, ix_inj, ix_le, ix_lt, ix_add, ix_mul, ix_sub, nar0', nar1', or00, or01, or10, or11, rI, rIA, rIL, rA, rAI, rAL, rL, rLI, rLA, ru, ruL, reduceIte, Nat.reduceEqDiff, true_or, or_true, true_and, and_true, false_or, or_false, not_true_eq_false, not_false_eq_true, false_implies, true_implies, implies_true, i10, i01]
    exact Or.inr ⟨rfl, fun h => h⟩
