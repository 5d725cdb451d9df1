def HM (n : Nat) (E : Nat → Nat → Prop) (Rc : Nat → Prop) (z : Sta) : Prop := n ≤ 16 ∧ 0 < n ∧ z.1 8 = ix n ∧ (∀ a, a < n → okS n (nx (z.2.1 17) a 0) ∧ okS n (nx (z.2.1 17) a 1)) ∧ (∀ a c, a < n → c < n → (E a c ↔ nx (z.2.1 17) a 0 = ix c ∨ nx (z.2.1 17) a 1 = ix c)) ∧ (∀ b, b < 16 → isb (z.2.1 21 b) (Rc b))
theorem HM_fr {n : Nat} {E : Nat → Nat → Prop} {Rc : Nat → Prop} {z y : Sta} {I A L : List Nat} (h : HM n E Rc z) (hf : fr I A L z y) (h8 : 8 ∉ I) (h17 : 17 ∉ A) (h21 : 21 ∉ A) : HM n E Rc y := by
  unfold HM
  rw [hf.1 8 h8, hf.2.1 17 h17, hf.2.1 21 h21]; exact h
theorem isb_n {v : Int32} {p : Prop} (h : isb v p) (hv : ¬ v = ix 0) : p := Classical.byContradiction fun hh => hv ((isb_z h).2 hh)
theorem s_M_edge' {n : Nat} {E : Nat → Nat → Prop} {Rc : Nat → Prop} {z : Sta} {K : Int32 → Sta → Prop} {a b : Nat} (H : HM n E Rc z) (ha : a < n) (hb1 : b < n) (h : ∀ v, isb v (Rc a ∧ E a b) → K v z) : wp_M_edge (ix a) (ix b) z K := by
  obtain ⟨hn, _, _, _, hE, hr⟩ := H
  refine s_M_edge (by omega) (fun v hv => h v (isb_c hv ?_))
  rw [hE a b ha hb1, isb_z (hr a (by omega))]
  exact ⟨fun h => ⟨Classical.not_not.1 h.1, h.2⟩, fun h => ⟨fun hh => hh h.1, h.2⟩⟩
theorem s_M_thereBefore {n : Nat} {E : Nat → Nat → Prop} {Rc Bh : Nat → Prop} {z : Sta} {K : Int32 → Sta → Prop} {b : Nat} (H : HM n E Rc z) (hb1 : b < n) (hB : ∀ a, a < n → isb (z.2.1 28 a) (Bh a)) (h : ∀ v, isb v (0 < b ∧ ∀ a, a < n → Rc a → E a b → Bh a) → K v z) : wp_M_thereBefore (ix b) z K := by
  have hn := H.1
  have hN := H.2.2.1
  have loop : ∀ (k i : Nat) (x2 : Int32), i + k = n → isb x2 (0 < b ∧ ∀ a, a < i → Rc a → E a b → Bh a) → lp_M_thereBefore_12 K (k + 1) (ix b) x2 (ix i) z := by
    intro k
    induction k with
    | zero =>
      intro i x2 hik hx
      rw [lp_M_thereBefore_12]
      simp (disch := omega) only [hN, forall_eq, l0, l1, l2, l3, l4, l5, l6, l15, l16, l24, l30, l99, l100, l200, l385, lm1, ix_ne, ne_ix, ix_nat, vp_ix, ix_inj, ix_le, ix_lt, ix_add, ix_mul, ix_sub, nar0', nar1', or00, or01, or10, or11, rI, rIA, rIL, rA, rAI, rAL, rL, rLI, rLA, ru, ruL, reduceIte, Nat.reduceEqDiff, true_or, or_true, true_and, and_true, false_or, or_false, not_true_eq_false, not_false_eq_true, false_implies, true_implies, implies_true, i10, i01]
      have : i = n := by omega
      subst this
      exact ⟨fun _ => ⟨isb_b hx, h x2 hx⟩, fun h => absurd (by omega) h⟩
    | succ k ih =>
      intro i x2 hik hx
      rw [lp_M_thereBefore_12]
      simp (disch := omega) only [hN, pj_M_thereBefore_46, pj_M_thereBefore_47, pj_M_thereBefore_42, forall_eq, l0, l1, l2, l3, l4, l5, l6, l15, l16, l24, l30, l99, l100, l200, l385, lm1, ix_ne, ne_ix, ix_nat, vp_ix, ix_inj, ix_le, ix_lt, ix_add, ix_mul, ix_sub, nar0', nar1', or00, or01, or10, or11, rI, rIA, rIL, rA, rAI, rAL, rL, rLI, rLA, ru, ruL, reduceIte, Nat.reduceEqDiff, true_or, or_true, true_and, and_true, false_or, or_false, not_true_eq_false, not_false_eq_true, false_implies, true_implies, implies_true, i10, i01]
      refine ⟨fun h => absurd h (by omega), fun _ => ⟨fun h0 => ih (i + 1) _ (by omega) (Or.inr ⟨rfl, fun hh => (isb_z hx).1 h0 ⟨hh.1, fun a ha => hh.2 a (by omega)⟩⟩), fun h0 => ?_⟩⟩
      have hx := isb_n hx h0
      refine s_M_edge' H (by omega) hb1 (fun v hv => ⟨fun h1 => ih (i + 1) _ (by omega) (Or.inl ⟨rfl, hx.1, fun a ha hra he => ?_⟩), fun h1 => ⟨by omega, fun h2 => ih (i + 1) _ (by omega) (Or.inr ⟨rfl, fun hh => ?_⟩), fun h2 => ih (i + 1) _ (by omega) (Or.inl ⟨rfl, hx.1, fun a ha hra he => ?_⟩)⟩⟩)
      · rcases Nat.lt_or_ge a i with e | e
        · exact hx.2 a e hra he
        · have : a = i := by omega
          subst this; exact absurd ⟨hra, he⟩ ((isb_z hv).1 h1)
      · have := isb_n hv h1
        exact (isb_z (hB i (by omega))).1 h2 (hh.2 i (by omega) this.1 this.2)
      · rcases Nat.lt_or_ge a i with e | e
        · exact hx.2 a e hra he
        · have : a = i := by omega
          subst this; exact isb_n (hB a (by omega)) h2
  simp (disch := omega) only [wp_M_thereBefore, pj_M_thereBefore_9, forall_eq, l0, l1, l2, l3, l4, l5, l6, l15, l16, l24, l30, l99, l100, l200, l385, lm1, ix_ne, ne_ix, ix_nat, vp_ix, ix_inj, ix_le, ix_lt, ix_add, ix_mul, ix_sub, nar0', nar1', or00, or01, or10, or11, rI, rIA, rIL, rA, rAI, rAL, rL, rLI, rLA, ru, ruL, reduceIte, Nat.reduceEqDiff, true_or, or_true, true_and, and_true, false_or, or_false, not_true_eq_false, not_false_eq_true, false_implies, true_implies, implies_true, i10, i01]
  exact ⟨fun h0 => ⟨n + 1, loop n 0 _ (by omega) (Or.inr ⟨rfl, fun hh => absurd hh.1 (by omega)⟩)⟩, fun h0 => ⟨n + 1, loop n 0 _ (by omega) (Or.inl ⟨rfl, by omega, fun a ha => absurd ha (by omega)⟩)⟩⟩
theorem s_M_wantedBehind {n : Nat} {E : Nat → Nat → Prop} {Rc Wt : Nat → Prop} {z : Sta} {K : Int32 → Sta → Prop} {b : Nat} (H : HM n E Rc z) (hb1 : b < n) (hW : ∀ a, a < n → isb (z.2.1 29 a) (Wt a)) (h : ∀ v, isb v ((∃ c, c < n ∧ E b c) ∧ ∀ c, c < n → E b c → Wt c) → K v z) : wp_M_wantedBehind (ix b) z K := by
  obtain ⟨hn, hn0, hN, hok, hE, hr⟩ := H
  have lt0 : mi < ix 0 := by decide
  have okk : ∀ k, k < 2 → okS n (nx (z.2.1 17) b k) := by
    intro k hk
    rcases Nat.lt_or_ge k 1 with e | e
    · have : k = 0 := by omega
      subst this; exact (hok b hb1).1
    · have : k = 1 := by omega
      subst this; exact (hok b hb1).2
  have loop : ∀ (k i : Nat) (x2 x3 : Int32), i + k = 2 → isb x2 (∃ t, t < i ∧ ∃ c, c < n ∧ nx (z.2.1 17) b t = ix c) → isb x3 (∀ t, t < i → ∀ c, c < n → nx (z.2.1 17) b t = ix c → Wt c) → lp_M_wantedBehind_7 K (k + 1) (ix b) x2 x3 (ix i) z := by
    intro k
    induction k with
    | zero =>
      intro i x2 x3 hik h2 h3
      have : i = 2 := by omega
      subst this
      have hp : ((∃ t, t < 2 ∧ ∃ c, c < n ∧ nx (z.2.1 17) b t = ix c) ∧ (∀ t, t < 2 → ∀ c, c < n → nx (z.2.1 17) b t = ix c → Wt c)) ↔ ((∃ c, c < n ∧ E b c) ∧ ∀ c, c < n → E b c → Wt c) := by
        constructor
        · rintro ⟨⟨t, ht, c, hc, hx⟩, h4⟩
          refine ⟨⟨c, hc, (hE b c hb1 hc).2 ?_⟩, fun c hc he => ?_⟩
          · rcases Nat.lt_or_ge t 1 with e | e
            · have : t = 0 := by omega
              subst this; exact Or.inl hx
            · have : t = 1 := by omega
              subst this; exact Or.inr hx
          · rcases (hE b c hb1 hc).1 he with e | e
            · exact h4 0 (by omega) c hc e
            · exact h4 1 (by omega) c hc e
        · rintro ⟨⟨c, hc, he⟩, h4⟩
          refine ⟨?_, fun t ht c hc hx => h4 c hc ((hE b c hb1 hc).2 ?_)⟩
          · rcases (hE b c hb1 hc).1 he with e | e
            · exact ⟨0, by omega, c, hc, e⟩
            · exact ⟨1, by omega, c, hc, e⟩
          · rcases Nat.lt_or_ge t 1 with e | e
            · have : t = 0 := by omega
              subst this; exact Or.inl hx
            · have : t = 1 := by omega
              subst this; exact Or.inr hx
      rw [lp_M_wantedBehind_7]
      simp (disch := omega) only [pj_M_wantedBehind_80, pj_M_wantedBehind_81, forall_eq, l0, l1, l2, l3, l4, l5, l6, l15, l16, l24, l30, l99, l100, l200, l385, lm1, ix_ne, ne_ix, ix_nat, vp_ix, ix_inj, ix_le, ix_lt, ix_add, ix_mul, ix_sub, nar0', nar1', or00, or01, or10, or11, rI, rIA, rIL, rA, rAI, rAL, rL, rLI, rLA, ru, ruL, reduceIte, Nat.reduceEqDiff, true_or, or_true, true_and, and_true, false_or, or_false, not_true_eq_false, not_false_eq_true, false_implies, true_implies, implies_true, i10, i01]
      refine ⟨fun _ => ⟨fun h0 => h _ (Or.inr ⟨rfl, fun hh => (isb_z h2).1 h0 (hp.2 hh).1⟩), fun h0 => ⟨fun h1 => h _ (Or.inr ⟨rfl, fun hh => (isb_z h3).1 h1 (hp.2 hh).2⟩), fun h1 => h _ (Or.inl ⟨rfl, hp.1 ⟨isb_n h2 h0, isb_n h3 h1⟩⟩)⟩⟩, fun h => absurd (by omega) h⟩
    | succ k ih =>
      intro i x2 x3 hik h2 h3
      rw [lp_M_wantedBehind_7]
      simp (disch := omega) only [pj_M_wantedBehind_31, forall_eq, l0, l1, l2, l3, l4, l5, l6, l15, l16, l24, l30, l99, l100, l200, l385, lm1, ix_ne, ne_ix, ix_nat, vp_ix, ix_inj, ix_le, ix_lt, ix_add, ix_mul, ix_sub, nar0', nar1', or00, or01, or10, or11, rI, rIA, rIL, rA, rAI, rAL, rL, rLI, rLA, ru, ruL, reduceIte, Nat.reduceEqDiff, true_or, or_true, true_and, and_true, false_or, or_false, not_true_eq_false, not_false_eq_true, false_implies, true_implies, implies_true, i10, i01]
      refine ⟨fun h => absurd h (by omega), fun _ => s_M_next (by omega) (by omega) ?_⟩
      have second : ∀ (y0 : Int32), isb y0 (∃ t, t < i + 1 ∧ ∃ c, c < n ∧ nx (z.2.1 17) b t = ix c) → pj_M_wantedBehind_36 K (fun x1 x2 x3 x4 z => lp_M_wantedBehind_7 K (k + 1) x1 x2 x3 x4 z) (ix b) x3 (ix i) (nx (z.2.1 17) b i) y0 z := by
        intro y0 hy
        have up : ∀ (p : Prop), (p ↔ (∀ t, t < i → ∀ c, c < n → nx (z.2.1 17) b t = ix c → Wt c) ∧ ∀ c, c < n → nx (z.2.1 17) b i = ix c → Wt c) → (p ↔ ∀ t, t < i + 1 → ∀ c, c < n → nx (z.2.1 17) b t = ix c → Wt c) := by
          intro p hp
          rw [hp]
          constructor
          · rintro ⟨a1, a2⟩ t ht c hc hx
            rcases Nat.lt_or_ge t i with e | e
            · exact a1 t e c hc hx
            · have : t = i := by omega
              subst this; exact a2 c hc hx
          · exact fun a => ⟨fun t ht => a t (by omega), a i (by omega)⟩
        simp (disch := omega) only [pj_M_wantedBehind_36, pj_M_wantedBehind_60, pj_M_wantedBehind_61, pj_M_wantedBehind_56, forall_eq, l0, l1, l2, l3, l4, l5, l6, l15, l16, l24, l30, l99, l100, l200, l385, lm1, ix_ne, ne_ix, ix_nat, vp_ix, ix_inj, ix_le, ix_lt, ix_add, ix_mul, ix_sub, nar0', nar1', or00, or01, or10, or11, rI, rIA, rIL, rA, rAI, rAL, rL, rLI, rLA, ru, ruL, reduceIte, Nat.reduceEqDiff, true_or, or_true, true_and, and_true, false_or, or_false, not_true_eq_false, not_false_eq_true, false_implies, true_implies, implies_true, i10, i01]
        refine ⟨fun h0 => ih (i + 1) _ _ (by omega) hy (Or.inr ⟨rfl, fun hh => (isb_z h3).1 h0 (((up _ Iff.rfl).2 hh).1)⟩), fun h0 => ⟨fun h1 => ih (i + 1) _ _ (by omega) hy (Or.inl ⟨rfl, (up _ Iff.rfl).1 ⟨isb_n h3 h0, fun c hc hx => ?_⟩⟩), fun h1 => ?_⟩⟩
        · rw [hx] at h1; exact absurd h1 (ix_nlt0 (by omega))
        · rcases okk i (by omega) with e | ⟨c, hc, e⟩
          · rw [e] at h1; exact absurd lt0 h1
          · rw [e]
            simp (disch := omega) only [forall_eq, l0, l1, l2, l3, l4, l5, l6, l15, l16, l24, l30, l99, l100, l200, l385, lm1, ix_ne, ne_ix, ix_nat, vp_ix, ix_inj, ix_le, ix_lt, ix_add, ix_mul, ix_sub, nar0', nar1', or00, or01, or10, or11, rI, rIA, rIL, rA, rAI, rAL, rL, rLI, rLA, ru, ruL, reduceIte, Nat.reduceEqDiff, true_or, or_true, true_and, and_true, false_or, or_false, not_true_eq_false, not_false_eq_true, false_implies, true_implies, implies_true, i10, i01]
            refine ⟨by omega, fun h2 => ih (i + 1) _ _ (by omega) hy (Or.inr ⟨rfl, fun hh => (isb_z (hW c hc)).1 h2 (hh i (by omega) c hc e)⟩), fun h2 => ih (i + 1) _ _ (by omega) hy (Or.inl ⟨rfl, (up _ Iff.rfl).1 ⟨isb_n h3 h0, fun d hd hx => ?_⟩⟩)⟩
            rw [e, ix_inj (by omega) (by omega)] at hx
            subst hx; exact isb_n (hW c hc) h2
      refine ⟨fun h0 => second _ (Or.inl ⟨rfl, ?_⟩), fun h0 => ⟨fun h1 => second _ (Or.inr ⟨rfl, ?_⟩), fun h1 => second _ (Or.inl ⟨rfl, ?_⟩)⟩⟩
      · obtain ⟨t, ht, hh⟩ := isb_n h2 h0
        exact ⟨t, by omega, hh⟩
      · rintro ⟨t, ht, c, hc, hx⟩
        rcases Nat.lt_or_ge t i with e | e
        · exact (isb_z h2).1 h0 ⟨t, e, c, hc, hx⟩
        · have : t = i := by omega
          subst this; rw [hx] at h1; exact absurd h1 (ix_nlt0 (by omega))
      · rcases okk i (by omega) with e | ⟨c, hc, e⟩
        · rw [e] at h1; exact absurd lt0 h1
        · exact ⟨i, by omega, c, hc, e⟩
  simp (disch := omega) only [wp_M_wantedBehind, forall_eq, l0, l1, l2, l3, l4, l5, l6, l15, l16, l24, l30, l99, l100, l200, l385, lm1, ix_ne, ne_ix, ix_nat, vp_ix, ix_inj, ix_le, ix_lt, ix_add, ix_mul, ix_sub, nar0', nar1', or00, or01, or10, or11, rI, rIA, rIL, rA, rAI, rAL, rL, rLI, rLA, ru, ruL, reduceIte, Nat.reduceEqDiff, true_or, or_true, true_and, and_true, false_or, or_false, not_true_eq_false, not_false_eq_true, false_implies, true_implies, implies_true, i10, i01]
  exact ⟨3, loop 2 0 _ _ rfl (Or.inr ⟨rfl, fun ⟨t, ht, _⟩ => by omega⟩) (Or.inl ⟨rfl, fun t ht => absurd ht (by omega)⟩)⟩
def EAm (n : Nat) (E : Nat → Nat → Prop) (Wt Bh Ch : Nat → Prop) (a b : Nat) : Prop := Wt b ∧ ¬ Bh a ∧ (Ch a ∨ ¬ ((∃ c, c < n ∧ E a c) ∧ ∀ c, c < n → E a c → Wt c))
theorem s_M_earliest {n : Nat} {E : Nat → Nat → Prop} {Rc Wt Bh Ch : Nat → Prop} {z : Sta} {K : Int32 → Sta → Prop} {a b : Nat} (H : HM n E Rc z) (ha : a < n) (hb1 : b < n) (hW : ∀ a, a < n → isb (z.2.1 29 a) (Wt a)) (hB : ∀ a, a < n → isb (z.2.1 28 a) (Bh a)) (hC : ∀ a, a < n → isb (z.2.1 24 a) (Ch a))
    (h : ∀ v, isb v (EAm n E Wt Bh Ch a b) → K v z) : wp_M_earliest (ix a) (ix b) z K := by
  have hn := H.1
  simp (disch := omega) only [wp_M_earliest, pj_M_earliest_43, pj_M_earliest_44, pj_M_earliest_39, forall_eq, l0, l1, l2, l3, l4, l5, l6, l15, l16, l24, l30, l99, l100, l200, l385, lm1, ix_ne, ne_ix, ix_nat, vp_ix, ix_inj, ix_le, ix_lt, ix_add, ix_mul, ix_sub, nar0', nar1', or00, or01, or10, or11, rI, rIA, rIL, rA, rAI, rAL, rL, rLI, rLA, ru, ruL, reduceIte, Nat.reduceEqDiff, true_or, or_true, true_and, and_true, false_or, or_false, not_true_eq_false, not_false_eq_true, false_implies, true_implies, implies_true, i10, i01]
  refine ⟨by omega, fun h0 => h _ (Or.inr ⟨rfl, fun hh => (isb_z (hW b hb1)).1 h0 hh.1⟩), fun h0 => ⟨fun h1 => absurd h1 (by omega), fun _ => ⟨by omega, fun h1 => h _ (Or.inr ⟨rfl, fun hh => hh.2.1 (isb_n (hB a ha) h1)⟩), fun h1 => ⟨by omega, fun h2 => h _ (Or.inl ⟨rfl, isb_n (hW b hb1) h0, (isb_z (hB a ha)).1 h1, Or.inl (isb_n (hC a ha) h2)⟩), fun h2 => s_M_wantedBehind H ha hW (fun v hv => ⟨fun h3 => h _ (Or.inr ⟨rfl, fun hh => ?_⟩), fun h3 => h _ (Or.inl ⟨rfl, isb_n (hW b hb1) h0, (isb_z (hB a ha)).1 h1, Or.inr ((isb_z hv).1 h3)⟩)⟩)⟩⟩⟩⟩
  exact hh.2.2.elim ((isb_z (hC a ha)).1 h2) (fun hh => hh (isb_n hv h3))
theorem s_M_earliestm {n : Nat} {Wt : Nat → Prop} {z : Sta} {K : Int32 → Sta → Prop} {b : Nat} (hn : n ≤ 16) (hb1 : b < n) (hW : ∀ a, a < n → isb (z.2.1 29 a) (Wt a)) (h : ∀ v, isb v (Wt b) → K v z) : wp_M_earliest mi (ix b) z K := by
  have lt0 : mi < ix 0 := by decide
  simp (disch := omega) only [wp_M_earliest, pj_M_earliest_43, pj_M_earliest_44, pj_M_earliest_39, lt0, forall_eq, l0, l1, l2, l3, l4, l5, l6, l15, l16, l24, l30, l99, l100, l200, l385, lm1, ix_ne, ne_ix, ix_nat, vp_ix, ix_inj, ix_le, ix_lt, ix_add, ix_mul, ix_sub, nar0', nar1', or00, or01, or10, or11, rI, rIA, rIL, rA, rAI, rAL, rL, rLI, rLA, ru, ruL, reduceIte, Nat.reduceEqDiff, true_or, or_true, true_and, and_true, false_or, or_false, not_true_eq_false, not_false_eq_true, false_implies, true_implies, implies_true, i10, i01]
  exact ⟨by omega, fun h0 => h _ (Or.inr ⟨rfl, (isb_z (hW b hb1)).1 h0⟩), fun h0 => h _ (Or.inl ⟨rfl, isb_n (hW b hb1) h0⟩)⟩
theorem s_M_laterOn {n : Nat} {E : Nat → Nat → Prop} {Rc Wt Bh Ch Lt As : Nat → Prop} {z : Sta} {K : Int32 → Sta → Prop} {a b : Nat} (H : HM n E Rc z) (ha : a < n) (hb1 : b < n) (hW : ∀ a, a < n → isb (z.2.1 29 a) (Wt a)) (hB : ∀ a, a < n → isb (z.2.1 28 a) (Bh a)) (hC : ∀ a, a < n → isb (z.2.1 24 a) (Ch a)) (hL : ∀ a, a < n → isb (z.2.1 31 a) (Lt a)) (hA : ∀ a, a < n → isb (z.2.1 25 a) (As a))
    (h : ∀ v, isb v (EAm n E Wt Bh Ch a b ∨ (Lt a ∧ ¬ As a)) → K v z) : wp_M_laterOn (ix a) (ix b) z K := by
  have hn := H.1
  simp (disch := omega) only [wp_M_laterOn, pj_M_laterOn_31, pj_M_laterOn_35, pj_M_laterOn_36, forall_eq, l0, l1, l2, l3, l4, l5, l6, l15, l16, l24, l30, l99, l100, l200, l385, lm1, ix_ne, ne_ix, ix_nat, vp_ix, ix_inj, ix_le, ix_lt, ix_add, ix_mul, ix_sub, nar0', nar1', or00, or01, or10, or11, rI, rIA, rIL, rA, rAI, rAL, rL, rLI, rLA, ru, ruL, reduceIte, Nat.reduceEqDiff, true_or, or_true, true_and, and_true, false_or, or_false, not_true_eq_false, not_false_eq_true, false_implies, true_implies, implies_true, i10, i01]
  refine s_M_earliest H ha hb1 hW hB hC (fun v hv => ⟨fun h0 => h _ (Or.inl ⟨rfl, Or.inl (isb_n hv h0)⟩), fun h0 => ⟨fun h1 => absurd h1 (by omega), fun _ => ⟨by omega, fun h1 => h _ (Or.inr ⟨rfl, fun hh => hh.elim ((isb_z hv).1 h0) (fun hh => (isb_z (hL a ha)).1 h1 hh.1)⟩), fun h1 => ⟨by omega, fun h2 => h _ (Or.inr ⟨rfl, fun hh => hh.elim ((isb_z hv).1 h0) (fun hh => hh.2 (isb_n (hA a ha) h2))⟩), fun h2 => h _ (Or.inl ⟨rfl, Or.inr ⟨isb_n (hL a ha) h1, (isb_z (hA a ha)).1 h2⟩⟩)⟩⟩⟩⟩)
theorem s_M_laterOnm {n : Nat} {Wt : Nat → Prop} {z : Sta} {K : Int32 → Sta → Prop} {b : Nat} (hn : n ≤ 16) (hb1 : b < n) (hW : ∀ a, a < n → isb (z.2.1 29 a) (Wt a)) (h : ∀ v, isb v (Wt b) → K v z) : wp_M_laterOn mi (ix b) z K := by
  have lt0 : mi < ix 0 := by decide
  simp (disch := omega) only [wp_M_laterOn, pj_M_laterOn_31, pj_M_laterOn_35, pj_M_laterOn_36, lt0, forall_eq, l0, l1, l2, l3, l4, l5, l6, l15, l16, l24, l30, l99, l100, l200, l385, lm1, ix_ne, ne_ix, ix_nat, vp_ix, ix_inj, ix_le, ix_lt, ix_add, ix_mul, ix_sub, nar0', nar1', or00, or01, or10, or11, rI, rIA, rIL, rA, rAI, rAL, rL, rLI, rLA, ru, ruL, reduceIte, Nat.reduceEqDiff, true_or, or_true, true_and, and_true, false_or, or_false, not_true_eq_false, not_false_eq_true, false_implies, true_implies, implies_true, i10, i01]
  exact s_M_earliestm hn hb1 hW (fun v hv => ⟨fun h0 => h _ (Or.inl ⟨rfl, isb_n hv h0⟩), fun h0 => h _ (Or.inr ⟨rfl, (isb_z hv).1 h0⟩)⟩)
theorem s_M_lateBefore {n : Nat} {E : Nat → Nat → Prop} {Rc Wt Bh Ch Lt As : Nat → Prop} {z : Sta} {K : Int32 → Sta → Prop} {b : Nat} (H : HM n E Rc z) (hb1 : b < n) (hW : ∀ a, a < n → isb (z.2.1 29 a) (Wt a)) (hB : ∀ a, a < n → isb (z.2.1 28 a) (Bh a)) (hC : ∀ a, a < n → isb (z.2.1 24 a) (Ch a)) (hL : ∀ a, a < n → isb (z.2.1 31 a) (Lt a)) (hA : ∀ a, a < n → isb (z.2.1 25 a) (As a))
    (h : ∀ v, isb v ((b = 0 → Wt b) ∧ ∀ a, a < n → Rc a → E a b → (EAm n E Wt Bh Ch a b ∨ (Lt a ∧ ¬ As a))) → K v z) : wp_M_lateBefore (ix b) z K := by
  have hn := H.1
  have hN := H.2.2.1
  have loop : ∀ (k i : Nat) (x2 : Int32), i + k = n → isb x2 ((b = 0 → Wt b) ∧ ∀ a, a < i → Rc a → E a b → (EAm n E Wt Bh Ch a b ∨ (Lt a ∧ ¬ As a))) → lp_M_lateBefore_21 K (k + 1) (ix b) x2 (ix i) z := by
    intro k
    induction k with
    | zero =>
      intro i x2 hik hx
      rw [lp_M_lateBefore_21]
      simp (disch := omega) only [hN, forall_eq, l0, l1, l2, l3, l4, l5, l6, l15, l16, l24, l30, l99, l100, l200, l385, lm1, ix_ne, ne_ix, ix_nat, vp_ix, ix_inj, ix_le, ix_lt, ix_add, ix_mul, ix_sub, nar0', nar1', or00, or01, or10, or11, rI, rIA, rIL, rA, rAI, rAL, rL, rLI, rLA, ru, ruL, reduceIte, Nat.reduceEqDiff, true_or, or_true, true_and, and_true, false_or, or_false, not_true_eq_false, not_false_eq_true, false_implies, true_implies, implies_true, i10, i01]
      have : i = n := by omega
      subst this
      exact ⟨fun _ => ⟨isb_b hx, h x2 hx⟩, fun h => absurd (by omega) h⟩
    | succ k ih =>
      intro i x2 hik hx
      rw [lp_M_lateBefore_21]
      simp (disch := omega) only [hN, pj_M_lateBefore_55, pj_M_lateBefore_56, pj_M_lateBefore_51, forall_eq, l0, l1, l2, l3, l4, l5, l6, l15, l16, l24, l30, l99, l100, l200, l385, lm1, ix_ne, ne_ix, ix_nat, vp_ix, ix_inj, ix_le, ix_lt, ix_add, ix_mul, ix_sub, nar0', nar1', or00, or01, or10, or11, rI, rIA, rIL, rA, rAI, rAL, rL, rLI, rLA, ru, ruL, reduceIte, Nat.reduceEqDiff, true_or, or_true, true_and, and_true, false_or, or_false, not_true_eq_false, not_false_eq_true, false_implies, true_implies, implies_true, i10, i01]
      refine ⟨fun h => absurd h (by omega), fun _ => ⟨fun h0 => ih (i + 1) _ (by omega) (Or.inr ⟨rfl, fun hh => (isb_z hx).1 h0 ⟨hh.1, fun a ha => hh.2 a (by omega)⟩⟩), fun h0 => ?_⟩⟩
      have hx := isb_n hx h0
      refine s_M_edge' H (by omega) hb1 (fun v hv => ⟨fun h1 => ih (i + 1) _ (by omega) (Or.inl ⟨rfl, hx.1, fun a ha hra he => ?_⟩), fun h1 => s_M_laterOn H (by omega) hb1 hW hB hC hL hA (fun v2 hv2 => ⟨fun h2 => ih (i + 1) _ (by omega) (Or.inr ⟨rfl, fun hh => ?_⟩), fun h2 => ih (i + 1) _ (by omega) (Or.inl ⟨rfl, hx.1, fun a ha hra he => ?_⟩)⟩)⟩)
      · rcases Nat.lt_or_ge a i with e | e
        · exact hx.2 a e hra he
        · have : a = i := by omega
          subst this; exact absurd ⟨hra, he⟩ ((isb_z hv).1 h1)
      · have := isb_n hv h1
        exact (isb_z hv2).1 h2 (hh.2 i (by omega) this.1 this.2)
      · rcases Nat.lt_or_ge a i with e | e
        · exact hx.2 a e hra he
        · have : a = i := by omega
          subst this; exact isb_n hv2 h2
  simp (disch := omega) only [wp_M_lateBefore, pj_M_lateBefore_13, pj_M_lateBefore_18, forall_eq, l0, l1, l2, l3, l4, l5, l6, l15, l16, l24, l30, l99, l100, l200, l385, lm1, ix_ne, ne_ix, ix_nat, vp_ix, ix_inj, ix_le, ix_lt, ix_add, ix_mul, ix_sub, nar0', nar1', or00, or01, or10, or11, rI, rIA, rIL, rA, rAI, rAL, rL, rLI, rLA, ru, ruL, reduceIte, Nat.reduceEqDiff, true_or, or_true, true_and, and_true, false_or, or_false, not_true_eq_false, not_false_eq_true, false_implies, true_implies, implies_true, i10, i01]
  refine ⟨fun h0 => ⟨n + 1, loop n 0 _ (by omega) (Or.inl ⟨rfl, fun e => absurd e (by omega), fun a ha => absurd ha (by omega)⟩)⟩, fun h0 => ?_⟩
  have e0 : b = 0 := by omega
  refine s_M_laterOnm hn (b := 0) (by omega) hW (fun v hv => ⟨fun h1 => ⟨n + 1, loop n 0 _ (by omega) (Or.inr ⟨rfl, fun hh => ?_⟩)⟩, fun h1 => ⟨n + 1, loop n 0 _ (by omega) (Or.inl ⟨rfl, fun e => ?_, fun a ha => absurd ha (by omega)⟩)⟩⟩)
  · have := hh.1 e0; rw [e0] at this; exact (isb_z hv).1 h1 this
  · rw [e0]; exact isb_n hv h1
def onesA (r : Nat → Int32) : Nat := cnt (fun b => decide (r b = ix 1)) 16
def arw (w : Nat) : Nat := if w = 0 then 28 else if w = 1 then 29 else 31
def SJ (n : Nat) (Rc : Nat → Prop) (F : (Nat → Prop) → Nat → Prop) (PF : (Nat → Prop) → Prop) (X0 : Nat → Prop) (i : Nat) (ch : Prop) (X : Nat → Prop) : Prop :=
  (∀ Y b, PF Y → Y b → X b) ∧ (∀ b, X b → X0 b) ∧ (∀ b, b < i → ¬ Rc b → ¬ X b) ∧ (¬ ch → (∀ b, b < n → Rc b → X0 b → X b) ∧ ∀ b, b < i → Rc b → X b → F X b) ∧ (ch → ∃ b, b < n ∧ X0 b ∧ ¬ X b)
theorem s_M_settle {n : Nat} {E : Nat → Nat → Prop} {Rc : Nat → Prop} {F : (Nat → Prop) → Nat → Prop} {z : Sta} {K : Sta → Prop} {w : Nat} (hw : w < 3) (H : HM n E Rc z)
    (hFm : ∀ X Y b, b < n → Rc b → (∀ c, c < n → Rc c → X c → Y c) → F X b → F Y b)
    (hev : ∀ (R : Int32 → Int32 → Int32 → Sta → Prop) (x2 : Int32) (b : Nat) (y : Sta) (X : Nat → Prop), b < n → Rc b → fr [] [arw w] [] z y → (∀ b, b < 16 → isb (y.2.1 (arw w) b) (X b)) →
      (F X b → pj_M_settle_161 K R (ix w) x2 (ix b) (ix 1) (ix 1) y) → (¬ F X b → pj_M_settle_161 K R (ix w) x2 (ix b) (ix 1) (ix 0) y) → pj_M_settle_74 K R (ix w) x2 (ix b) (ix 1) y)
    (h1 : ∀ b, b < 16 → z.2.1 (arw w) b = ix 1)
    (hK : ∀ y X, fr [] [arw w] [] z y → (∀ b, b < 16 → isb (y.2.1 (arw w) b) (X b)) → (∀ Y b, (∀ c, Y c → c < n ∧ Rc c ∧ F Y c) → Y b → X b) → (∀ b, b < n → X b → Rc b ∧ F X b) → K y) : wp_M_settle (ix w) z K := by
  have hn := H.1
  have hr := H.2.2.2.2.2
  have hw3 : (w = 0 ∧ arw w = 28) ∨ (w = 1 ∧ arw w = 29) ∨ (w = 2 ∧ arw w = 31) := by
    rcases (by omega : w = 0 ∨ w = 1 ∨ w = 2) with e | e | e <;> subst e <;> simp [arw]
  have har : arw w ≠ 8 ∧ arw w ≠ 17 ∧ arw w ≠ 21 := by
    rcases hw3 with ⟨_, e⟩ | ⟨_, e⟩ | ⟨_, e⟩ <;> rw [e] <;> decide
  let PF : (Nat → Prop) → Prop := fun Y => ∀ c, Y c → c < n ∧ Rc c ∧ F Y c
  have hwr : ∀ (R : Int32 → Int32 → Int32 → Sta → Prop) (b : Nat) (v m : Int32) (y : Sta), b < 16 → (v = ix 0 ∨ v = ix 1) → R (ix w) m (ix (b + 1)) (zA y (arw w) (upd (y.2.1 (arw w)) b v)) → pj_M_settle_182 K R (ix w) (ix b) v m y := by
    intro R b v m y hb1 hv hR
    have hnv : vp_nar .boolean v = v := by
      rcases hv with h | h <;> rw [h] <;> decide
    rcases hw3 with ⟨e, e2⟩ | ⟨e, e2⟩ | ⟨e, e2⟩ <;> rw [e2] at hR <;> subst e
    · simp (disch := omega) only [pj_M_settle_182, pj_M_settle_195, pj_M_settle_208, pj_M_settle_221, hnv, forall_eq, l0, l1, l2, l3, l4, l5, l6, l15, l16, l24, l30, l99, l100, l200, l385, lm1, ix_ne, ne_ix, ix_nat, vp_ix, ix_inj, ix_le, ix_lt, ix_add, ix_mul, ix_sub, nar0', nar1', or00, or01, or10, or11, rI, rIA, rIL, rA, rAI, rAL, rL, rLI, rLA, ru, ruL, reduceIte, Nat.reduceEqDiff, true_or, or_true, true_and, and_true, false_or, or_false, not_true_eq_false, not_false_eq_true, false_implies, true_implies, implies_true, i10, i01]
      exact ⟨by omega, hR⟩
    · simp (disch := omega) only [pj_M_settle_182, pj_M_settle_195, pj_M_settle_208, pj_M_settle_221, hnv, forall_eq, l0, l1, l2, l3, l4, l5, l6, l15, l16, l24, l30, l99, l100, l200, l385, lm1, ix_ne, ne_ix, ix_nat, vp_ix, ix_inj, ix_le, ix_lt, ix_add, ix_mul, ix_sub, nar0', nar1', or00, or01, or10, or11, rI, rIA, rIL, rA, rAI, rAL, rL, rLI, rLA, ru, ruL, reduceIte, Nat.reduceEqDiff, true_or, or_true, true_and, and_true, false_or, or_false, not_true_eq_false, not_false_eq_true, false_implies, true_implies, implies_true, i10, i01]
      exact ⟨by omega, hR⟩
    · simp (disch := omega) only [pj_M_settle_182, pj_M_settle_195, pj_M_settle_208, pj_M_settle_221, hnv, forall_eq, l0, l1, l2, l3, l4, l5, l6, l15, l16, l24, l30, l99, l100, l200, l385, lm1, ix_ne, ne_ix, ix_nat, vp_ix, ix_inj, ix_le, ix_lt, ix_add, ix_mul, ix_sub, nar0', nar1', or00, or01, or10, or11, rI, rIA, rIL, rA, rAI, rAL, rL, rLI, rLA, ru, ruL, reduceIte, Nat.reduceEqDiff, true_or, or_true, true_and, and_true, false_or, or_false, not_true_eq_false, not_false_eq_true, false_implies, true_implies, implies_true, i10, i01]
      exact ⟨by omega, hR⟩
  have inner : ∀ (X0 : Nat → Prop) (R : Int32 → Int32 → Sta → Prop) (k i : Nat) (ch : Prop) (x2 : Int32) (y : Sta) (X : Nat → Prop), i + k = n → fr [] [arw w] [] z y → (∀ b, b < 16 → isb (y.2.1 (arw w) b) (X b)) → isb x2 ch → SJ n Rc F PF X0 i ch X →
      (∀ (ch : Prop) (x2 : Int32) (y : Sta) (X : Nat → Prop), fr [] [arw w] [] z y → (∀ b, b < 16 → isb (y.2.1 (arw w) b) (X b)) → isb x2 ch → SJ n Rc F PF X0 n ch X → R (ix w) x2 y) →
      lp_M_settle_10 K R (k + 1) (ix w) x2 (ix i) y := by
    intro X0 R k
    induction k with
    | zero =>
      intro i ch x2 y X hik hfr hX hx hS hR
      have hN' : y.1 8 = ix n := (hfr.1 8 (by decide)).trans H.2.2.1
      rw [lp_M_settle_10]
      simp (disch := omega) only [hN', forall_eq, l0, l1, l2, l3, l4, l5, l6, l15, l16, l24, l30, l99, l100, l200, l385, lm1, ix_ne, ne_ix, ix_nat, vp_ix, ix_inj, ix_le, ix_lt, ix_add, ix_mul, ix_sub, nar0', nar1', or00, or01, or10, or11, rI, rIA, rIL, rA, rAI, rAL, rL, rLI, rLA, ru, ruL, reduceIte, Nat.reduceEqDiff, true_or, or_true, true_and, and_true, false_or, or_false, not_true_eq_false, not_false_eq_true, false_implies, true_implies, implies_true, i10, i01]
      have : i = n := by omega
      subst this
      exact ⟨fun _ => hR ch x2 y X hfr hX hx hS, fun h => absurd (by omega) h⟩
    | succ k ih =>
      intro i ch x2 y X hik hfr hX hx hS hR
      have hN' : y.1 8 = ix n := (hfr.1 8 (by decide)).trans H.2.2.1
      have h21 : y.2.1 21 = z.2.1 21 := hfr.2.1 21 (by simp only [List.mem_singleton]; exact fun h => har.2.2 h.symm)
      obtain ⟨s1, s2, s3, s4, s5⟩ := hS
      have go : ∀ (x4 v : Int32), isb x4 (Rc i ∧ X i) → isb v (Rc i ∧ X i ∧ F X i) → pj_M_settle_161 K (fun x1 x2 x3 z => lp_M_settle_10 K R (k + 1) x1 x2 x3 z) (ix w) x2 (ix i) x4 v y := by
        intro x4 v hx4 hv
        let X' : Nat → Prop := fun b => if b = i then (Rc i ∧ X i ∧ F X i) else X b
        have hX' : ∀ b, b < 16 → isb ((zA y (arw w) (upd (y.2.1 (arw w)) i v)).2.1 (arw w) b) (X' b) := by
          intro b hb1
          rw [rA, if_pos rfl, ru]
          show isb _ (if b = i then (Rc i ∧ X i ∧ F X i) else X b)
          split
          · exact hv
          · exact hX b hb1
        have hfr' : fr [] [arw w] [] z (zA y (arw w) (upd (y.2.1 (arw w)) i v)) := fr_A hfr (List.mem_singleton.2 rfl) _
        have sub : ∀ b, X' b → X b := by
          intro b hh
          have hh : if b = i then (Rc i ∧ X i ∧ F X i) else X b := hh
          split at hh
          · next e => rw [e]; exact hh.2.1
          · exact hh
        have c1 : ∀ Y b, PF Y → Y b → X' b := by
          intro Y b hP hY
          show if b = i then (Rc i ∧ X i ∧ F X i) else X b
          split
          · next e =>
            rw [e] at hY
            exact ⟨(hP i hY).2.1, s1 Y i hP hY, hFm Y X i (by omega) (hP i hY).2.1 (fun c _ _ h => s1 Y c hP h) (hP i hY).2.2⟩
          · exact s1 Y b hP hY
        have c3 : ∀ b, b < i + 1 → ¬ Rc b → ¬ X' b := by
          intro b hb1 hrb hh
          have hh2 : if b = i then (Rc i ∧ X i ∧ F X i) else X b := hh
          split at hh2
          · next e => rw [e] at hrb; exact hrb hh2.1
          · exact s3 b (by omega) hrb hh2
        have fin : ∀ (m : Int32) (ch' : Prop), isb m ch' → (ch' ↔ ch ∨ ((Rc i ∧ X i) ∧ ¬ (Rc i ∧ X i ∧ F X i))) → pj_M_settle_182 K (fun x1 x2 x3 z => lp_M_settle_10 K R (k + 1) x1 x2 x3 z) (ix w) (ix i) v m y := by
          intro m ch' hm hch
          refine hwr _ i v m y (by omega) (isb_b hv) (ih (i + 1) ch' m _ X' (by omega) hfr' hX' hm ⟨c1, fun b hh => s2 b (sub b hh), c3, fun hc => ?_, fun hc => ?_⟩ hR)
          · have hnc : ¬ ch := fun h => hc (hch.2 (Or.inl h))
            have hnf : ¬ ((Rc i ∧ X i) ∧ ¬ (Rc i ∧ X i ∧ F X i)) := fun h => hc (hch.2 (Or.inr h))
            have keep : ∀ b, b < n → Rc b → X b → X' b := by
              intro b hb1 hrb hXb
              show if b = i then (Rc i ∧ X i ∧ F X i) else X b
              split
              · next e =>
                rw [e] at hrb hXb
                exact Classical.byContradiction fun hh => hnf ⟨⟨hrb, hXb⟩, hh⟩
              · exact hXb
            refine ⟨fun b hb1 hrb h0 => keep b hb1 hrb ((s4 hnc).1 b hb1 hrb h0), fun b hb1 hrb hh => ?_⟩
            refine hFm X X' b (by omega) hrb (fun c hc1 hrc hXc => keep c hc1 hrc hXc) ?_
            rcases Nat.lt_or_ge b i with e | e
            · exact (s4 hnc).2 b e hrb (sub b hh)
            · have e2 : b = i := by omega
              have hh2 : if b = i then (Rc i ∧ X i ∧ F X i) else X b := hh
              rw [if_pos e2] at hh2
              rw [e2]; exact hh2.2.2
          · rcases hch.1 hc with h | h
            · obtain ⟨b, hb1, h0, hnx⟩ := s5 h
              exact ⟨b, hb1, h0, fun hh => hnx (sub b hh)⟩
            · refine ⟨i, by omega, s2 i h.1.2, fun hh => h.2 ?_⟩
              have hh2 : if i = i then (Rc i ∧ X i ∧ F X i) else X i := hh
              rw [if_pos rfl] at hh2; exact hh2
        simp (disch := omega) only [pj_M_settle_161, pj_M_settle_177, pj_M_settle_181, forall_eq, l0, l1, l2, l3, l4, l5, l6, l15, l16, l24, l30, l99, l100, l200, l385, lm1, ix_ne, ne_ix, ix_nat, vp_ix, ix_inj, ix_le, ix_lt, ix_add, ix_mul, ix_sub, nar0', nar1', or00, or01, or10, or11, rI, rIA, rIL, rA, rAI, rAL, rL, rLI, rLA, ru, ruL, reduceIte, Nat.reduceEqDiff, true_or, or_true, true_and, and_true, false_or, or_false, not_true_eq_false, not_false_eq_true, false_implies, true_implies, implies_true, i10, i01]
        refine ⟨fun h0 => fin _ True (Or.inl ⟨rfl, trivial⟩) ⟨fun _ => Or.inl (isb_n hx h0), fun _ => trivial⟩, fun h0 => ?_⟩
        have hnc := (isb_z hx).1 h0
        refine ⟨fun h2 => fin _ False (Or.inr ⟨rfl, fun h => h⟩) ⟨fun h => h.elim, fun h => h.elim hnc (fun h => (isb_z hx4).1 h2 h.1)⟩, fun h2 => ⟨fun h3 => fin _ False (Or.inr ⟨rfl, fun h => h⟩) ⟨fun h => h.elim, fun h => h.elim hnc (fun h => h.2 (isb_n hv h3))⟩, fun h3 => fin _ True (Or.inl ⟨rfl, trivial⟩) ⟨fun _ => Or.inr ⟨isb_n hx4 h2, (isb_z hv).1 h3⟩, fun _ => trivial⟩⟩⟩
      have no : ¬ (Rc i ∧ X i) → pj_M_settle_73 K (fun x1 x2 x3 z => lp_M_settle_10 K R (k + 1) x1 x2 x3 z) (ix w) x2 (ix i) y := by
        intro hh
        simp (disch := omega) only [pj_M_settle_73, pj_M_settle_74, pj_M_settle_160, forall_eq, l0, l1, l2, l3, l4, l5, l6, l15, l16, l24, l30, l99, l100, l200, l385, lm1, ix_ne, ne_ix, ix_nat, vp_ix, ix_inj, ix_le, ix_lt, ix_add, ix_mul, ix_sub, nar0', nar1', or00, or01, or10, or11, rI, rIA, rIL, rA, rAI, rAL, rL, rLI, rLA, ru, ruL, reduceIte, Nat.reduceEqDiff, true_or, or_true, true_and, and_true, false_or, or_false, not_true_eq_false, not_false_eq_true, false_implies, true_implies, implies_true, i10, i01]
        exact go _ _ (Or.inr ⟨rfl, hh⟩) (Or.inr ⟨rfl, fun h => hh ⟨h.1, h.2.1⟩⟩)
      have yes : (Rc i ∧ X i) → pj_M_settle_69 K (fun x1 x2 x3 z => lp_M_settle_10 K R (k + 1) x1 x2 x3 z) (ix w) x2 (ix i) y := by
        intro hh
        simp (disch := omega) only [pj_M_settle_69, forall_eq, l0, l1, l2, l3, l4, l5, l6, l15, l16, l24, l30, l99, l100, l200, l385, lm1, ix_ne, ne_ix, ix_nat, vp_ix, ix_inj, ix_le, ix_lt, ix_add, ix_mul, ix_sub, nar0', nar1', or00, or01, or10, or11, rI, rIA, rIL, rA, rAI, rAL, rL, rLI, rLA, ru, ruL, reduceIte, Nat.reduceEqDiff, true_or, or_true, true_and, and_true, false_or, or_false, not_true_eq_false, not_false_eq_true, false_implies, true_implies, implies_true, i10, i01]
        exact hev _ x2 i y X (by omega) hh.1 hfr hX (fun hF => go _ _ (Or.inl ⟨rfl, hh⟩) (Or.inl ⟨rfl, hh.1, hh.2, hF⟩)) (fun hF => go _ _ (Or.inl ⟨rfl, hh⟩) (Or.inr ⟨rfl, fun h => hF h.2.2⟩))
      have hXi := hX i (by omega)
      rw [lp_M_settle_10]
      simp (disch := omega) only [hN', h21, forall_eq, l0, l1, l2, l3, l4, l5, l6, l15, l16, l24, l30, l99, l100, l200, l385, lm1, ix_ne, ne_ix, ix_nat, vp_ix, ix_inj, ix_le, ix_lt, ix_add, ix_mul, ix_sub, nar0', nar1', or00, or01, or10, or11, rI, rIA, rIL, rA, rAI, rAL, rL, rLI, rLA, ru, ruL, reduceIte, Nat.reduceEqDiff, true_or, or_true, true_and, and_true, false_or, or_false, not_true_eq_false, not_false_eq_true, false_implies, true_implies, implies_true, i10, i01]
      refine ⟨fun h => absurd h (by omega), fun _ => ⟨by omega, fun h0 => no (fun hh => (isb_z (hr i (by omega))).1 h0 hh.1), fun h0 => ?_⟩⟩
      have hri := isb_n (hr i (by omega)) h0
      rcases hw3 with ⟨e, e2⟩ | ⟨e, e2⟩ | ⟨e, e2⟩ <;> rw [e2] at hXi <;> subst e
      · simp (disch := omega) only [forall_eq, l0, l1, l2, l3, l4, l5, l6, l15, l16, l24, l30, l99, l100, l200, l385, lm1, ix_ne, ne_ix, ix_nat, vp_ix, ix_inj, ix_le, ix_lt, ix_add, ix_mul, ix_sub, nar0', nar1', or00, or01, or10, or11, rI, rIA, rIL, rA, rAI, rAL, rL, rLI, rLA, ru, ruL, reduceIte, Nat.reduceEqDiff, true_or, or_true, true_and, and_true, false_or, or_false, not_true_eq_false, not_false_eq_true, false_implies, true_implies, implies_true, i10, i01]
        exact ⟨by omega, fun h2 => no (fun hh => (isb_z hXi).1 h2 hh.2), fun h2 => yes ⟨hri, isb_n hXi h2⟩⟩
      · simp (disch := omega) only [forall_eq, l0, l1, l2, l3, l4, l5, l6, l15, l16, l24, l30, l99, l100, l200, l385, lm1, ix_ne, ne_ix, ix_nat, vp_ix, ix_inj, ix_le, ix_lt, ix_add, ix_mul, ix_sub, nar0', nar1', or00, or01, or10, or11, rI, rIA, rIL, rA, rAI, rAL, rL, rLI, rLA, ru, ruL, reduceIte, Nat.reduceEqDiff, true_or, or_true, true_and, and_true, false_or, or_false, not_true_eq_false, not_false_eq_true, false_implies, true_implies, implies_true, i10, i01]
        exact ⟨by omega, fun h2 => no (fun hh => (isb_z hXi).1 h2 hh.2), fun h2 => yes ⟨hri, isb_n hXi h2⟩⟩
      · simp (disch := omega) only [forall_eq, l0, l1, l2, l3, l4, l5, l6, l15, l16, l24, l30, l99, l100, l200, l385, lm1, ix_ne, ne_ix, ix_nat, vp_ix, ix_inj, ix_le, ix_lt, ix_add, ix_mul, ix_sub, nar0', nar1', or00, or01, or10, or11, rI, rIA, rIL, rA, rAI, rAL, rL, rLI, rLA, ru, ruL, reduceIte, Nat.reduceEqDiff, true_or, or_true, true_and, and_true, false_or, or_false, not_true_eq_false, not_false_eq_true, false_implies, true_implies, implies_true, i10, i01]
        exact ⟨by omega, fun h2 => no (fun hh => (isb_z hXi).1 h2 hh.2), fun h2 => yes ⟨hri, isb_n hXi h2⟩⟩
  have outer : ∀ (k : Nat) (x2 : Int32) (ch : Prop) (y : Sta) (X : Nat → Prop), fr [] [arw w] [] z y → (∀ b, b < 16 → isb (y.2.1 (arw w) b) (X b)) → isb x2 ch → (∀ Y b, PF Y → Y b → X b) → (¬ ch → ∀ b, b < n → X b → Rc b ∧ F X b) → onesA (y.2.1 (arw w)) ≤ k → lp_M_settle_2 K (k + 2) (ix w) x2 y := by
    intro k
    induction k with
    | zero =>
      intro x2 ch y X hfr hX hx hov hq hm
      rw [lp_M_settle_2]
      simp (disch := omega) only [forall_eq, l0, l1, l2, l3, l4, l5, l6, l15, l16, l24, l30, l99, l100, l200, l385, lm1, ix_ne, ne_ix, ix_nat, vp_ix, ix_inj, ix_le, ix_lt, ix_add, ix_mul, ix_sub, nar0', nar1', or00, or01, or10, or11, rI, rIA, rIL, rA, rAI, rAL, rL, rLI, rLA, ru, ruL, reduceIte, Nat.reduceEqDiff, true_or, or_true, true_and, and_true, false_or, or_false, not_true_eq_false, not_false_eq_true, false_implies, true_implies, implies_true, i10, i01]
      refine ⟨fun h0 => hK y X hfr hX (fun Y b hP => hov Y b hP) (hq ((isb_z hx).1 h0)), fun h0 => ⟨n + 1, inner X _ n 0 False (ix 0) y X (by omega) hfr hX (Or.inr ⟨rfl, fun h => h⟩) ⟨hov, fun _ h => h, fun b hb1 => absurd hb1 (by omega), fun _ => ⟨fun _ _ _ h => h, fun b hb1 => absurd hb1 (by omega)⟩, fun h => h.elim⟩ (fun ch1 x2 y1 X1 hfr1 hX1 hx1 hS1 => ?_)⟩⟩
      have hnc : ¬ ch1 := by
        intro hc
        obtain ⟨b, hb1, h0, hn1⟩ := hS1.2.2.2.2 hc
        have : onesA (y1.2.1 (arw w)) < onesA (y.2.1 (arw w)) := cnt_lt (fun i hi hh => decide_eq_true (isb_t (hX i hi) (hS1.2.1 i (Classical.byContradiction fun h => i01 ((isb_f (hX1 i hi) h).symm.trans (of_decide_eq_true hh)))))) (k := b) (by omega) (decide_eq_false (by rw [isb_f (hX1 b (by omega)) hn1]; exact i01)) (decide_eq_true (isb_t (hX b (by omega)) h0))
        omega
      rw [lp_M_settle_2]
      simp (disch := omega) only [forall_eq, l0, l1, l2, l3, l4, l5, l6, l15, l16, l24, l30, l99, l100, l200, l385, lm1, ix_ne, ne_ix, ix_nat, vp_ix, ix_inj, ix_le, ix_lt, ix_add, ix_mul, ix_sub, nar0', nar1', or00, or01, or10, or11, rI, rIA, rIL, rA, rAI, rAL, rL, rLI, rLA, ru, ruL, reduceIte, Nat.reduceEqDiff, true_or, or_true, true_and, and_true, false_or, or_false, not_true_eq_false, not_false_eq_true, false_implies, true_implies, implies_true, i10, i01]
      refine ⟨fun _ => hK y1 X1 hfr1 hX1 (fun Y b hP => hS1.1 Y b hP) (fun b hb1 hh => ?_), fun h => absurd ((isb_z hx1).2 hnc) h⟩
      have hrb : Rc b := Classical.byContradiction fun h => hS1.2.2.1 b hb1 h hh
      exact ⟨hrb, (hS1.2.2.2.1 hnc).2 b hb1 hrb hh⟩
    | succ k ih =>
      intro x2 ch y X hfr hX hx hov hq hm
      rw [lp_M_settle_2]
      simp (disch := omega) only [forall_eq, l0, l1, l2, l3, l4, l5, l6, l15, l16, l24, l30, l99, l100, l200, l385, lm1, ix_ne, ne_ix, ix_nat, vp_ix, ix_inj, ix_le, ix_lt, ix_add, ix_mul, ix_sub, nar0', nar1', or00, or01, or10, or11, rI, rIA, rIL, rA, rAI, rAL, rL, rLI, rLA, ru, ruL, reduceIte, Nat.reduceEqDiff, true_or, or_true, true_and, and_true, false_or, or_false, not_true_eq_false, not_false_eq_true, false_implies, true_implies, implies_true, i10, i01]
      refine ⟨fun h0 => hK y X hfr hX (fun Y b hP => hov Y b hP) (hq ((isb_z hx).1 h0)), fun h0 => ⟨n + 1, inner X _ n 0 False (ix 0) y X (by omega) hfr hX (Or.inr ⟨rfl, fun h => h⟩) ⟨hov, fun _ h => h, fun b hb1 => absurd hb1 (by omega), fun _ => ⟨fun _ _ _ h => h, fun b hb1 => absurd hb1 (by omega)⟩, fun h => h.elim⟩ (fun ch1 x2 y1 X1 hfr1 hX1 hx1 hS1 => ?_)⟩⟩
      have hfin : ¬ ch1 → ∀ b, b < n → X1 b → Rc b ∧ F X1 b := by
        intro hnc b hb1 hh
        have hrb : Rc b := Classical.byContradiction fun h => hS1.2.2.1 b hb1 h hh
        exact ⟨hrb, (hS1.2.2.2.1 hnc).2 b hb1 hrb hh⟩
      by_cases hc : ch1
      · obtain ⟨b, hb1, h0, hn1⟩ := hS1.2.2.2.2 hc
        have : onesA (y1.2.1 (arw w)) < onesA (y.2.1 (arw w)) := cnt_lt (fun i hi hh => decide_eq_true (isb_t (hX i hi) (hS1.2.1 i (Classical.byContradiction fun h => i01 ((isb_f (hX1 i hi) h).symm.trans (of_decide_eq_true hh)))))) (k := b) (by omega) (decide_eq_false (by rw [isb_f (hX1 b (by omega)) hn1]; exact i01)) (decide_eq_true (isb_t (hX b (by omega)) h0))
        exact ih x2 ch1 y1 X1 hfr1 hX1 hx1 hS1.1 hfin (by omega)
      · rw [lp_M_settle_2]
        simp (disch := omega) only [forall_eq, l0, l1, l2, l3, l4, l5, l6, l15, l16, l24, l30, l99, l100, l200, l385, lm1, ix_ne, ne_ix, ix_nat, vp_ix, ix_inj, ix_le, ix_lt, ix_add, ix_mul, ix_sub, nar0', nar1', or00, or01, or10, or11, rI, rIA, rIL, rA, rAI, rAL, rL, rLI, rLA, ru, ruL, reduceIte, Nat.reduceEqDiff, true_or, or_true, true_and, and_true, false_or, or_false, not_true_eq_false, not_false_eq_true, false_implies, true_implies, implies_true, i10, i01]
        exact ⟨fun _ => hK y1 X1 hfr1 hX1 (fun Y b hP => hS1.1 Y b hP) (hfin hc), fun h => absurd ((isb_z hx1).2 hc) h⟩
  simp (disch := omega) only [wp_M_settle, forall_eq, l0, l1, l2, l3, l4, l5, l6, l15, l16, l24, l30, l99, l100, l200, l385, lm1, ix_ne, ne_ix, ix_nat, vp_ix, ix_inj, ix_le, ix_lt, ix_add, ix_mul, ix_sub, nar0', nar1', or00, or01, or10, or11, rI, rIA, rIL, rA, rAI, rAL, rL, rLI, rLA, ru, ruL, reduceIte, Nat.reduceEqDiff, true_or, or_true, true_and, and_true, false_or, or_false, not_true_eq_false, not_false_eq_true, false_implies, true_implies, implies_true, i10, i01]
  exact ⟨18, outer 16 (ix 1) True z (fun _ => True) (fr_refl z) (fun b hb1 => Or.inl ⟨h1 b hb1, trivial⟩) (Or.inl ⟨rfl, trivial⟩) (fun _ _ _ _ => trivial) (fun h => absurd trivial h) (cnt_le _ _)⟩
def SR (f g : Nat → Int32) (e : Nat) (c : Nat → Prop) : Prop := ∀ i j, hw (g i) j = true ↔ hw (f i) j = true ∨ (j = e ∧ c i)
theorem SR_refl {f : Nat → Int32} {e : Nat} : SR f f e (fun _ => False) := fun i j => ⟨Or.inl, fun h => h.elim id (fun h => h.2.elim)⟩
theorem SR_congr {f g : Nat → Int32} {e : Nat} {c c' : Nat → Prop} (h : SR f g e c) (hc : ∀ i, c i ↔ c' i) : SR f g e c' := fun i j => by rw [h i j, hc i]
theorem SR_step {f g : Nat → Int32} {e k : Nat} {c : Nat → Prop} {p : Prop} {x : Int32} (h : SR f g e c) (hx : ∀ j, hw x j = true ↔ hw (g k) j = true ∨ (j = e ∧ p)) : SR f (upd g k x) e (fun i => c i ∨ (i = k ∧ p)) := by
  intro i j
  rw [ru]; split
  · next ei =>
    rw [hx j, ← ei, h i j]
    constructor
    · rintro ((h | ⟨h1, h2⟩) | ⟨h1, h2⟩)
      · exact Or.inl h
      · exact Or.inr ⟨h1, Or.inl h2⟩
      · exact Or.inr ⟨h1, Or.inr ⟨rfl, h2⟩⟩
    · rintro (h | ⟨h1, h2 | h2⟩)
      · exact Or.inl (Or.inl h)
      · exact Or.inl (Or.inr ⟨h1, h2⟩)
      · exact Or.inr ⟨h1, h2.2⟩
  · next ei =>
    rw [h i j]
    constructor
    · rintro (h | ⟨h1, h2⟩)
      · exact Or.inl h
      · exact Or.inr ⟨h1, Or.inl h2⟩
    · rintro (h | ⟨h1, h2 | h2⟩)
      · exact Or.inl h
      · exact Or.inr ⟨h1, h2⟩
      · exact absurd h2.1 ei
theorem or_bit {e : Nat} (he : e < 24) (g : Int32) (j : Nat) : hw (g ||| (ix 1 <<< (ix e &&& 31))) j = true ↔ hw g j = true ∨ (j = e ∧ True) := by
  rw [hw_or, hw_one he, Bool.or_eq_true, decide_eq_true_eq]; simp
theorem or_none {e : Nat} {p : Prop} (hp : ¬ p) (g : Int32) (j : Nat) : hw (g ||| ix 0) j = true ↔ hw g j = true ∨ (j = e ∧ p) := by
  have : hw (ix 0) j = false := hw_0 j
  rw [hw_or, this, Bool.or_false]; exact ⟨Or.inl, fun h => h.elim id (fun h => absurd h.2 hp)⟩
theorem or_some {e : Nat} {p : Prop} (hp : p) (he : e < 24) (g : Int32) (j : Nat) : hw (g ||| (ix 1 <<< (ix e &&& 31))) j = true ↔ hw g j = true ∨ (j = e ∧ p) := by
  rw [or_bit he]; exact ⟨fun h => h.imp id (fun h => ⟨h.1, hp⟩), fun h => h.imp id (fun h => ⟨h.1, trivial⟩)⟩
theorem s_M_mark {z : Sta} {K : Sta → Prop} {b w e : Nat} {v : Int32} {p : Prop} (hb1 : b < 16) (hw1 : w < 6) (he : e < 24) (hv : isb v p) (h : ∀ x, (∀ j, hw x j = true ↔ hw (z.2.1 22 (6 * b + w)) j = true ∨ (j = e ∧ p)) → K (zA z 22 (upd (z.2.1 22) (6 * b + w) x))) : wp_M_mark (ix b) (ix w) (ix e) v z K := by
  simp (disch := omega) only [wp_M_mark, pj_M_mark_24, forall_eq, l0, l1, l2, l3, l4, l5, l6, l15, l16, l24, l30, l99, l100, l200, l385, lm1, ix_ne, ne_ix, ix_nat, vp_ix, ix_inj, ix_le, ix_lt, ix_add, ix_mul, ix_sub, nar0', nar1', or00, or01, or10, or11, rI, rIA, rIL, rA, rAI, rAL, rL, rLI, rLA, ru, ruL, reduceIte, Nat.reduceEqDiff, true_or, or_true, true_and, and_true, false_or, or_false, not_true_eq_false, not_false_eq_true, false_implies, true_implies, implies_true, i10, i01]
  refine ⟨by omega, fun h0 => ⟨by omega, h _ (or_none ((isb_z hv).1 h0) _)⟩, fun h0 => ⟨by omega, h _ (or_some (isb_n hv h0) he _)⟩⟩
def FBm (n : Nat) (E : Nat → Nat → Prop) (Rc Ch Lv : Nat → Prop) (Y : Nat → Prop) (c : Nat) : Prop := Lv c ∨ ((0 < c ∧ ∀ a, a < n → Rc a → E a c → Y a) ∧ ¬ Ch c)
def FWm (n : Nat) (E : Nat → Nat → Prop) (Ch As : Nat → Prop) (Y : Nat → Prop) (c : Nat) : Prop := As c ∨ (((∃ d, d < n ∧ E c d) ∧ ∀ d, d < n → E c d → Y d) ∧ ¬ Ch c)
def FLm (n : Nat) (E : Nat → Nat → Prop) (Rc Ch As Bh Wt : Nat → Prop) (Y : Nat → Prop) (c : Nat) : Prop := (c = 0 → Wt c) ∧ ∀ a, a < n → Rc a → E a c → (EAm n E Wt Bh Ch a c ∨ (Y a ∧ ¬ As a))
def Gr (n : Nat) (Rc : Nat → Prop) (F : (Nat → Prop) → Nat → Prop) (X : Nat → Prop) : Prop := (∀ Y b, (∀ c, Y c → c < n ∧ Rc c ∧ F Y c) → Y b → X b) ∧ (∀ b, b < n → X b → Rc b ∧ F X b)
def PL (n : Nat) (E : Nat → Nat → Prop) (Rc Ch As Lv Bh Wt Lt : Nat → Prop) : Prop := Gr n Rc (FBm n E Rc Ch Lv) Bh ∧ Gr n Rc (FWm n E Ch As) Wt ∧ Gr n Rc (FLm n E Rc Ch As Bh Wt) Lt
def Sx (n : Nat) (E : Nat → Nat → Prop) (Rc As Bh Wt Lt : Nat → Prop) (b w : Nat) : Prop :=
  (w = 0 ∧ 0 < b ∧ ∀ a, a < n → Rc a → E a b → Bh a) ∨ (w = 1 ∧ Bh b) ∨ (w = 2 ∧ Wt b) ∨ (w = 3 ∧ (∃ c, c < n ∧ E b c) ∧ ∀ c, c < n → E b c → Wt c) ∨ (w = 4 ∧ Lt b) ∨ (w = 5 ∧ As b ∧ ¬ Lt b)
def Px (n : Nat) (E : Nat → Nat → Prop) (Rc Ch As Bh Wt Lt : Nat → Prop) (a b : Nat) : Prop := (Rc a ∧ E a b) ∧ (EAm n E Wt Bh Ch a b ∨ (Lt a ∧ ¬ As a)) ∧ ¬ Lt b
theorem s_ev0 {n : Nat} {E : Nat → Nat → Prop} {Rc Ch Lv X : Nat → Prop} {y : Sta} {K : Sta → Prop} {R : Int32 → Int32 → Int32 → Sta → Prop} {x2 : Int32} {b : Nat} (H : HM n E Rc y) (hb1 : b < n) (hX : ∀ b, b < n → isb (y.2.1 28 b) (X b)) (hC : ∀ b, b < n → isb (y.2.1 24 b) (Ch b)) (hL : ∀ b, b < n → isb (y.2.1 26 b) (Lv b))
    (h1 : FBm n E Rc Ch Lv X b → pj_M_settle_161 K R (ix 0) x2 (ix b) (ix 1) (ix 1) y) (h2 : ¬ FBm n E Rc Ch Lv X b → pj_M_settle_161 K R (ix 0) x2 (ix b) (ix 1) (ix 0) y) : pj_M_settle_74 K R (ix 0) x2 (ix b) (ix 1) y := by
  have hn := H.1
  simp (disch := omega) only [pj_M_settle_74, pj_M_settle_156, pj_M_settle_160, forall_eq, l0, l1, l2, l3, l4, l5, l6, l15, l16, l24, l30, l99, l100, l200, l385, lm1, ix_ne, ne_ix, ix_nat, vp_ix, ix_inj, ix_le, ix_lt, ix_add, ix_mul, ix_sub, nar0', nar1', or00, or01, or10, or11, rI, rIA, rIL, rA, rAI, rAL, rL, rLI, rLA, ru, ruL, reduceIte, Nat.reduceEqDiff, true_or, or_true, true_and, and_true, false_or, or_false, not_true_eq_false, not_false_eq_true, false_implies, true_implies, implies_true, i10, i01]
  refine ⟨by omega, fun h0 => h1 (Or.inl (isb_n (hL b hb1) h0)), fun h0 => s_M_thereBefore H hb1 hX (fun v hv => ⟨fun h3 => h2 (fun hh => ?_), fun h3 => ⟨by omega, fun h4 => h2 (fun hh => ?_), fun h4 => h1 (Or.inr ⟨isb_n hv h3, (isb_z (hC b hb1)).1 h4⟩)⟩⟩)⟩
  · exact hh.elim ((isb_z (hL b hb1)).1 h0) (fun hh => (isb_z hv).1 h3 hh.1)
  · exact hh.elim ((isb_z (hL b hb1)).1 h0) (fun hh => hh.2 (isb_n (hC b hb1) h4))
theorem s_ev1 {n : Nat} {E : Nat → Nat → Prop} {Rc Ch As X : Nat → Prop} {y : Sta} {K : Sta → Prop} {R : Int32 → Int32 → Int32 → Sta → Prop} {x2 : Int32} {b : Nat} (H : HM n E Rc y) (hb1 : b < n) (hX : ∀ b, b < n → isb (y.2.1 29 b) (X b)) (hC : ∀ b, b < n → isb (y.2.1 24 b) (Ch b)) (hA : ∀ b, b < n → isb (y.2.1 25 b) (As b))
    (h1 : FWm n E Ch As X b → pj_M_settle_161 K R (ix 1) x2 (ix b) (ix 1) (ix 1) y) (h2 : ¬ FWm n E Ch As X b → pj_M_settle_161 K R (ix 1) x2 (ix b) (ix 1) (ix 0) y) : pj_M_settle_74 K R (ix 1) x2 (ix b) (ix 1) y := by
  have hn := H.1
  simp (disch := omega) only [pj_M_settle_74, pj_M_settle_156, pj_M_settle_160, forall_eq, l0, l1, l2, l3, l4, l5, l6, l15, l16, l24, l30, l99, l100, l200, l385, lm1, ix_ne, ne_ix, ix_nat, vp_ix, ix_inj, ix_le, ix_lt, ix_add, ix_mul, ix_sub, nar0', nar1', or00, or01, or10, or11, rI, rIA, rIL, rA, rAI, rAL, rL, rLI, rLA, ru, ruL, reduceIte, Nat.reduceEqDiff, true_or, or_true, true_and, and_true, false_or, or_false, not_true_eq_false, not_false_eq_true, false_implies, true_implies, implies_true, i10, i01]
  refine ⟨by omega, fun h0 => h1 (Or.inl (isb_n (hA b hb1) h0)), fun h0 => s_M_wantedBehind H hb1 hX (fun v hv => ⟨fun h3 => h2 (fun hh => ?_), fun h3 => ⟨by omega, fun h4 => h2 (fun hh => ?_), fun h4 => h1 (Or.inr ⟨isb_n hv h3, (isb_z (hC b hb1)).1 h4⟩)⟩⟩)⟩
  · exact hh.elim ((isb_z (hA b hb1)).1 h0) (fun hh => (isb_z hv).1 h3 hh.1)
  · exact hh.elim ((isb_z (hA b hb1)).1 h0) (fun hh => hh.2 (isb_n (hC b hb1) h4))
theorem s_ev2 {n : Nat} {E : Nat → Nat → Prop} {Rc Ch As Bh Wt X : Nat → Prop} {y : Sta} {K : Sta → Prop} {R : Int32 → Int32 → Int32 → Sta → Prop} {x2 : Int32} {b : Nat} (H : HM n E Rc y) (hb1 : b < n) (hX : ∀ b, b < n → isb (y.2.1 31 b) (X b)) (hC : ∀ b, b < n → isb (y.2.1 24 b) (Ch b)) (hA : ∀ b, b < n → isb (y.2.1 25 b) (As b)) (hB : ∀ b, b < n → isb (y.2.1 28 b) (Bh b)) (hW : ∀ b, b < n → isb (y.2.1 29 b) (Wt b))
    (h1 : FLm n E Rc Ch As Bh Wt X b → pj_M_settle_161 K R (ix 2) x2 (ix b) (ix 1) (ix 1) y) (h2 : ¬ FLm n E Rc Ch As Bh Wt X b → pj_M_settle_161 K R (ix 2) x2 (ix b) (ix 1) (ix 0) y) : pj_M_settle_74 K R (ix 2) x2 (ix b) (ix 1) y := by
  have hn := H.1
  simp (disch := omega) only [pj_M_settle_74, pj_M_settle_156, pj_M_settle_160, forall_eq, l0, l1, l2, l3, l4, l5, l6, l15, l16, l24, l30, l99, l100, l200, l385, lm1, ix_ne, ne_ix, ix_nat, vp_ix, ix_inj, ix_le, ix_lt, ix_add, ix_mul, ix_sub, nar0', nar1', or00, or01, or10, or11, rI, rIA, rIL, rA, rAI, rAL, rL, rLI, rLA, ru, ruL, reduceIte, Nat.reduceEqDiff, true_or, or_true, true_and, and_true, false_or, or_false, not_true_eq_false, not_false_eq_true, false_implies, true_implies, implies_true, i10, i01]
  exact s_M_lateBefore H hb1 hW hB hC hX hA (fun v hv => ⟨fun h3 => h2 ((isb_z hv).1 h3), fun h3 => h1 (isb_n hv h3)⟩)
theorem cpM_fr {z y : Sta} {I A L : List Nat} (h : fr I A L z y) (h16 : 16 ∉ A) (b e : Nat) : cpM y b e = cpM z b e := by
  funext k; simp only [cpM, h.2.1 16 h16]
theorem gvM_fr {z y : Sta} {I A L : List Nat} (h : fr I A L z y) (h16 : 16 ∉ A) (h18 : 18 ∉ A) (h20 : 20 ∉ A) (b e : Nat) : gvM y b e = gvM z b e := by
  funext k; simp only [gvM, h.2.1 16 h16, h.2.1 18 h18, h.2.1 20 h20]
def Chm (z : Sta) (sz : Nat → Nat) (e b : Nat) : Prop := (lk (cpM z b e) (gvM z b e) (sz b)).1
def Asm (z : Sta) (sz : Nat → Nat) (e b : Nat) : Prop := (lk (cpM z b e) (gvM z b e) (sz b)).2.1
def Lvm (z : Sta) (sz : Nat → Nat) (e b : Nat) : Prop := (lk (cpM z b e) (gvM z b e) (sz b)).2.2
theorem s_M_plansW {n : Nat} {E : Nat → Nat → Prop} {Rc Ch As Bh Wt Lt : Nat → Prop} {z : Sta} {K : Sta → Prop} {e : Nat} (H : HM n E Rc z) (he : e < 24)
    (hB : ∀ b, b < n → isb (z.2.1 28 b) (Bh b)) (hW : ∀ b, b < n → isb (z.2.1 29 b) (Wt b)) (hL : ∀ b, b < n → isb (z.2.1 31 b) (Lt b)) (hC : ∀ b, b < n → isb (z.2.1 24 b) (Ch b)) (hA : ∀ b, b < n → isb (z.2.1 25 b) (As b))
    (hK : ∀ y, fr [12] [22, 23] [] z y → SR (z.2.1 22) (y.2.1 22) e (fun i => ∃ b, b < n ∧ Rc b ∧ ∃ w, w < 6 ∧ i = 6 * b + w ∧ Sx n E Rc As Bh Wt Lt b w) →
      SR (z.2.1 23) (y.2.1 23) e (fun i => (∃ b, b < n ∧ Rc b ∧ ∃ a, a < n ∧ i = 16 * a + b ∧ Px n E Rc Ch As Bh Wt Lt a b) ∨ (i = 256 ∧ Wt 0 ∧ ¬ Lt 0)) →
      (∀ j, hw (y.1 12) j = true ↔ hw (z.1 12) j = true ∨ (j = e ∧ ∃ b, b < n ∧ Rc b ∧ As b ∧ ¬ Lt b)) → K y) : lp_M_plans_63 K (n + 1) (ix e) (ix 0) (ix 0) z := by
  have hn := H.1
  have hn0 := H.2.1
  have hN := H.2.2.1
  have hr := H.2.2.2.2.2
  let IN : Sta → Prop := fun y => fr [] [22, 23] [] z y
  have HI : ∀ y, IN y → HM n E Rc y := fun y h => HM_fr H h (by decide) (by decide) (by decide)
  have bits : ∀ y, IN y → (∀ b, b < n → isb (y.2.1 28 b) (Bh b)) ∧ (∀ b, b < n → isb (y.2.1 29 b) (Wt b)) ∧ (∀ b, b < n → isb (y.2.1 31 b) (Lt b)) ∧ (∀ b, b < n → isb (y.2.1 24 b) (Ch b)) ∧ (∀ b, b < n → isb (y.2.1 25 b) (As b)) := by
    intro y h
    rw [h.2.1 28 (by decide), h.2.1 29 (by decide), h.2.1 31 (by decide), h.2.1 24 (by decide), h.2.1 25 (by decide)]
    exact ⟨hB, hW, hL, hC, hA⟩
  have puts : ∀ (R : Int32 → Int32 → Int32 → Sta → Prop) (x2 : Int32) (b : Nat) (c0 : Nat → Prop), b < n → ∀ (k i : Nat) (y : Sta), i + k = n → IN y → SR (z.2.1 23) (y.2.1 23) e (fun t => c0 t ∨ ∃ a, a < i ∧ t = 16 * a + b ∧ Px n E Rc Ch As Bh Wt Lt a b) →
      (∀ y', IN y' → y'.2.1 22 = y.2.1 22 → SR (z.2.1 23) (y'.2.1 23) e (fun t => c0 t ∨ ∃ a, a < n ∧ t = 16 * a + b ∧ Px n E Rc Ch As Bh Wt Lt a b) → R (ix e) x2 (ix (b + 1)) y') →
      lp_M_plans_195 K R (k + 1) (ix e) x2 (ix b) (ix i) y := by
    intro R x2 b c0 hb1 k
    induction k with
    | zero =>
      intro i y hik hI hS hR
      have hN' : y.1 8 = ix n := (hI.1 8 (by decide)).trans hN
      rw [lp_M_plans_195]
      simp (disch := omega) only [hN', pj_M_plans_261, forall_eq, l0, l1, l2, l3, l4, l5, l6, l15, l16, l24, l30, l99, l100, l200, l385, lm1, ix_ne, ne_ix, ix_nat, vp_ix, ix_inj, ix_le, ix_lt, ix_add, ix_mul, ix_sub, nar0', nar1', or00, or01, or10, or11, rI, rIA, rIL, rA, rAI, rAL, rL, rLI, rLA, ru, ruL, reduceIte, Nat.reduceEqDiff, true_or, or_true, true_and, and_true, false_or, or_false, not_true_eq_false, not_false_eq_true, false_implies, true_implies, implies_true, i10, i01]
      have : i = n := by omega
      subst this
      exact ⟨fun _ => hR y hI rfl hS, fun h => absurd (by omega) h⟩
    | succ k ih =>
      intro i y hik hI hS hR
      have hN' : y.1 8 = ix n := (hI.1 8 (by decide)).trans hN
      obtain ⟨b1, b2, b3, b4, b5⟩ := bits y hI
      have nxt : ∀ (p : Prop) (x : Int32), (p ↔ Px n E Rc Ch As Bh Wt Lt i b) → (∀ j, hw x j = true ↔ hw (y.2.1 23 (16 * i + b)) j = true ∨ (j = e ∧ p)) → lp_M_plans_195 K R (k + 1) (ix e) x2 (ix b) (ix (i + 1)) (zA y 23 (upd (y.2.1 23) (16 * i + b) x)) := by
        intro p x hp hx
        refine ih (i + 1) _ (by omega) (fr_A hI (by decide) _) ?_ (fun y' h1 h2 h3 => hR y' h1 h2 h3)
        rw [rA, if_pos rfl]
        refine SR_congr (SR_step hS hx) (fun t => ?_)
        constructor
        · rintro ((h | ⟨a, ha, h1, h2⟩) | ⟨h1, h2⟩)
          · exact Or.inl h
          · exact Or.inr ⟨a, by omega, h1, h2⟩
          · exact Or.inr ⟨i, by omega, h1, hp.1 h2⟩
        · rintro (h | ⟨a, ha, h1, h2⟩)
          · exact Or.inl (Or.inl h)
          · rcases Nat.lt_or_ge a i with e1 | e1
            · exact Or.inl (Or.inr ⟨a, e1, h1, h2⟩)
            · have : a = i := by omega
              subst this; exact Or.inr ⟨h1, hp.2 h2⟩
      rw [lp_M_plans_195]
      simp (disch := omega) only [hN', pj_M_plans_252, pj_M_plans_253, forall_eq, l0, l1, l2, l3, l4, l5, l6, l15, l16, l24, l30, l99, l100, l200, l385, lm1, ix_ne, ne_ix, ix_nat, vp_ix, ix_inj, ix_le, ix_lt, ix_add, ix_mul, ix_sub, nar0', nar1', or00, or01, or10, or11, rI, rIA, rIL, rA, rAI, rAL, rL, rLI, rLA, ru, ruL, reduceIte, Nat.reduceEqDiff, true_or, or_true, true_and, and_true, false_or, or_false, not_true_eq_false, not_false_eq_true, false_implies, true_implies, implies_true, i10, i01]
      refine ⟨fun h => absurd h (by omega), fun _ => ⟨by omega, s_M_edge' (HI y hI) (by omega) hb1 (fun v hv => ⟨fun h0 => ⟨by omega, nxt False _ ⟨fun h => h.elim, fun h => (isb_z hv).1 h0 h.1⟩ (or_none (fun h => h) _)⟩, fun h0 => s_M_laterOn (HI y hI) (by omega) hb1 b2 b1 b4 b3 b5 (fun v2 hv2 => ⟨fun h2 => ⟨by omega, nxt False _ ⟨fun h => h.elim, fun h => (isb_z hv2).1 h2 h.2.1⟩ (or_none (fun h => h) _)⟩, fun h2 => ⟨by omega, fun h3 => ⟨by omega, nxt False _ ⟨fun h => h.elim, fun h => h.2.2 (isb_n (b3 b hb1) h3)⟩ (or_none (fun h => h) _)⟩, fun h3 => ⟨by omega, nxt True _ ⟨fun _ => ⟨isb_n hv h0, isb_n hv2 h2, (isb_z (b3 b hb1)).1 h3⟩, fun _ => trivial⟩ (or_some trivial he _)⟩⟩⟩)⟩)⟩⟩
  have loop : ∀ (k i : Nat) (x2 : Int32) (y : Sta), i + k = n → IN y → isb x2 (∃ b, b < i ∧ Rc b ∧ As b ∧ ¬ Lt b) → SR (z.2.1 22) (y.2.1 22) e (fun t => ∃ b, b < i ∧ Rc b ∧ ∃ w, w < 6 ∧ t = 6 * b + w ∧ Sx n E Rc As Bh Wt Lt b w) →
      SR (z.2.1 23) (y.2.1 23) e (fun t => ∃ b, b < i ∧ Rc b ∧ ∃ a, a < n ∧ t = 16 * a + b ∧ Px n E Rc Ch As Bh Wt Lt a b) → lp_M_plans_63 K (k + 1) (ix e) x2 (ix i) y := by
    intro k
    induction k with
    | zero =>
      intro i x2 y hik hI hx h22 h23
      have hN' : y.1 8 = ix n := (hI.1 8 (by decide)).trans hN
      have h12 : y.1 12 = z.1 12 := hI.1 12 (by decide)
      obtain ⟨b1, b2, b3, b4, b5⟩ := bits y hI
      have : i = n := by omega
      subst this
      have fin : ∀ (x : Int32) (p : Prop), (p ↔ Wt 0 ∧ ¬ Lt 0) → (∀ j, hw x j = true ↔ hw (y.2.1 23 256) j = true ∨ (j = e ∧ p)) → ∀ m, (∀ j, hw m j = true ↔ hw (z.1 12) j = true ∨ (j = e ∧ ∃ b, b < i ∧ Rc b ∧ As b ∧ ¬ Lt b)) → K (zI (zA y 23 (upd (y.2.1 23) 256 x)) 12 m) := by
        intro x p hp hx m hm
        refine hK _ (fr_I (fr_A (fr_mono hI (by simp) (by simp) (by simp)) (by decide) _) (by decide) _) h22 ?_ hm
        show SR (z.2.1 23) (upd (y.2.1 23) 256 x) e _
        refine SR_congr (SR_step h23 hx) (fun t => ?_)
        rw [hp]
      have l256 : (256 : Int32) = ix 256 := rfl
      rw [lp_M_plans_63]
      simp (disch := omega) only [hN', l256, pj_M_plans_300, pj_M_plans_301, pj_M_plans_319, h12, forall_eq, l0, l1, l2, l3, l4, l5, l6, l15, l16, l24, l30, l99, l100, l200, l385, lm1, ix_ne, ne_ix, ix_nat, vp_ix, ix_inj, ix_le, ix_lt, ix_add, ix_mul, ix_sub, nar0', nar1', or00, or01, or10, or11, rI, rIA, rIL, rA, rAI, rAL, rL, rLI, rLA, ru, ruL, reduceIte, Nat.reduceEqDiff, true_or, or_true, true_and, and_true, false_or, or_false, not_true_eq_false, not_false_eq_true, false_implies, true_implies, implies_true, i10, i01]
      have fin2 : ∀ (x : Int32) (p : Prop), (p ↔ Wt 0 ∧ ¬ Lt 0) → (∀ j, hw x j = true ↔ hw (y.2.1 23 256) j = true ∨ (j = e ∧ p)) → (x2 = ix 0 → K (zI (zA y 23 (upd (y.2.1 23) 256 x)) 12 (y.1 12 ||| ix 0))) ∧ (¬ x2 = ix 0 → K (zI (zA y 23 (upd (y.2.1 23) 256 x)) 12 (y.1 12 ||| ix 1 <<< (ix e &&& 31)))) := by
        intro x p hp hx
        rw [h12]
        exact ⟨fun h0 => fin x p hp hx _ (or_none ((isb_z ‹isb x2 _›).1 h0) _), fun h0 => fin x p hp hx _ (or_some (isb_n ‹isb x2 _› h0) he _)⟩
      refine ⟨fun _ => ⟨by omega, s_M_laterOnm hn (b := 0) hn0 b2 (fun v hv => ⟨fun h0 => ⟨by omega, fin2 _ False ⟨fun h => h.elim, fun h => (isb_z hv).1 h0 h.1⟩ (or_none (fun h => h) _)⟩, fun h0 => ⟨by omega, fun h3 => ⟨by omega, fin2 _ False ⟨fun h => h.elim, fun h => h.2 (isb_n (b3 0 hn0) h3)⟩ (or_none (fun h => h) _)⟩, fun h3 => ⟨by omega, fin2 _ True ⟨fun _ => ⟨isb_n hv h0, (isb_z (b3 0 hn0)).1 h3⟩, fun _ => trivial⟩ (or_some trivial he _)⟩⟩⟩)⟩, fun h => absurd (by omega) h⟩
    | succ k ih =>
      intro i x2 y hik hI hx h22 h23
      have hN' : y.1 8 = ix n := (hI.1 8 (by decide)).trans hN
      have h21 : y.2.1 21 = z.2.1 21 := hI.2.1 21 (by decide)
      obtain ⟨b1, b2, b3, b4, b5⟩ := bits y hI
      have ri := hr i (by omega)
      have reached : Rc i → ∀ (t : Int32), isb t (As i ∧ ¬ Lt i) → pj_M_plans_103 K (fun x1 x2 x3 z => lp_M_plans_63 K (k + 1) x1 x2 x3 z) (ix e) x2 (ix i) t y := by
        intro hri t ht
        rw [pj_M_plans_103]
        have nx3 : ∀ {w : Nat} {c : Nat → Prop} {p : Prop} {y1 : Sta} {x : Int32}, IN y1 → SR (z.2.1 22) (y1.2.1 22) e c → (∀ j, hw x j = true ↔ hw (y1.2.1 22 (6 * i + w)) j = true ∨ (j = e ∧ p)) → y1.2.1 23 = y.2.1 23 → IN (zA y1 22 (upd (y1.2.1 22) (6 * i + w) x)) ∧ SR (z.2.1 22) ((zA y1 22 (upd (y1.2.1 22) (6 * i + w) x)).2.1 22) e (fun s => c s ∨ (s = 6 * i + w ∧ p)) ∧ (zA y1 22 (upd (y1.2.1 22) (6 * i + w) x)).2.1 23 = y.2.1 23 := by
          intro w c p y1 x h1 h2 h3 h4
          exact ⟨fr_A h1 (by decide) _, SR_step h2 h3, h4⟩
        refine s_M_thereBefore (HI y hI) (by omega) b1 (fun v0 hv0 => s_M_mark (w := 0) (by omega) (by omega) he hv0 (fun x0 hx0 => ?_))
        obtain ⟨I0, S0, P0⟩ := nx3 hI h22 hx0 rfl
        generalize zA y 22 (upd (y.2.1 22) (6 * i + 0) x0) = y0 at *
        have c0 := bits y0 I0
        simp (disch := omega) only [forall_eq, l0, l1, l2, l3, l4, l5, l6, l15, l16, l24, l30, l99, l100, l200, l385, lm1, ix_ne, ne_ix, ix_nat, vp_ix, ix_inj, ix_le, ix_lt, ix_add, ix_mul, ix_sub, nar0', nar1', or00, or01, or10, or11, rI, rIA, rIL, rA, rAI, rAL, rL, rLI, rLA, ru, ruL, reduceIte, Nat.reduceEqDiff, true_or, or_true, true_and, and_true, false_or, or_false, not_true_eq_false, not_false_eq_true, false_implies, true_implies, implies_true, i10, i01]
        refine ⟨by omega, s_M_mark (w := 1) (by omega) (by omega) he (c0.1 i (by omega)) (fun x1 hx1 => ?_)⟩
        obtain ⟨I1, S1, P1⟩ := nx3 I0 S0 hx1 P0
        generalize zA y0 22 (upd (y0.2.1 22) (6 * i + 1) x1) = y1 at *
        have c1 := bits y1 I1
        refine ⟨by omega, s_M_mark (w := 2) (by omega) (by omega) he (c1.2.1 i (by omega)) (fun x2' hx2 => ?_)⟩
        obtain ⟨I2, S2, P2⟩ := nx3 I1 S1 hx2 P1
        generalize zA y1 22 (upd (y1.2.1 22) (6 * i + 2) x2') = y2 at *
        have c2 := bits y2 I2
        refine s_M_wantedBehind (HI y2 I2) (by omega) c2.2.1 (fun v3 hv3 => s_M_mark (w := 3) (by omega) (by omega) he hv3 (fun x3 hx3 => ?_))
        obtain ⟨I3, S3, P3⟩ := nx3 I2 S2 hx3 P2
        generalize zA y2 22 (upd (y2.2.1 22) (6 * i + 3) x3) = y3 at *
        have c3 := bits y3 I3
        refine ⟨by omega, s_M_mark (w := 4) (by omega) (by omega) he (c3.2.2.1 i (by omega)) (fun x4 hx4 => ?_)⟩
        obtain ⟨I4, S4, P4⟩ := nx3 I3 S3 hx4 P3
        generalize zA y3 22 (upd (y3.2.1 22) (6 * i + 4) x4) = y4 at *
        refine s_M_mark (w := 5) (by omega) (by omega) he ht (fun x5 hx5 => ?_)
        obtain ⟨I5, S5, P5⟩ := nx3 I4 S4 hx5 P4
        generalize zA y4 22 (upd (y4.2.1 22) (6 * i + 5) x5) = y5 at *
        have S6 : SR (z.2.1 22) (y5.2.1 22) e (fun t => ∃ b, b < i + 1 ∧ Rc b ∧ ∃ w, w < 6 ∧ t = 6 * b + w ∧ Sx n E Rc As Bh Wt Lt b w) := by
          refine SR_congr S5 (fun s => ?_)
          constructor
          · rintro ((((((⟨b, hb1, h⟩ | ⟨h1, h2⟩) | ⟨h1, h2⟩) | ⟨h1, h2⟩) | ⟨h1, h2⟩) | ⟨h1, h2⟩) | ⟨h1, h2⟩)
            · exact ⟨b, by omega, h⟩
            · exact ⟨i, by omega, hri, 0, by omega, h1, Or.inl ⟨rfl, h2⟩⟩
            · exact ⟨i, by omega, hri, 1, by omega, h1, Or.inr (Or.inl ⟨rfl, h2⟩)⟩
            · exact ⟨i, by omega, hri, 2, by omega, h1, Or.inr (Or.inr (Or.inl ⟨rfl, h2⟩))⟩
            · exact ⟨i, by omega, hri, 3, by omega, h1, Or.inr (Or.inr (Or.inr (Or.inl ⟨rfl, h2⟩)))⟩
            · exact ⟨i, by omega, hri, 4, by omega, h1, Or.inr (Or.inr (Or.inr (Or.inr (Or.inl ⟨rfl, h2⟩))))⟩
            · exact ⟨i, by omega, hri, 5, by omega, h1, Or.inr (Or.inr (Or.inr (Or.inr (Or.inr ⟨rfl, h2⟩))))⟩
          · rintro ⟨b, hb1, hrb, w, hw1, hs, hSx⟩
            rcases Nat.lt_or_ge b i with e1 | e1
            · exact Or.inl (Or.inl (Or.inl (Or.inl (Or.inl (Or.inl ⟨b, e1, hrb, w, hw1, hs, hSx⟩)))))
            · have : b = i := by omega
              subst this
              rcases hSx with ⟨e2, h⟩ | ⟨e2, h⟩ | ⟨e2, h⟩ | ⟨e2, h⟩ | ⟨e2, h⟩ | ⟨e2, h⟩ <;> subst e2
              · exact Or.inl (Or.inl (Or.inl (Or.inl (Or.inl (Or.inr ⟨hs, h⟩)))))
              · exact Or.inl (Or.inl (Or.inl (Or.inl (Or.inr ⟨hs, h⟩))))
              · exact Or.inl (Or.inl (Or.inl (Or.inr ⟨hs, h⟩)))
              · exact Or.inl (Or.inl (Or.inr ⟨hs, h⟩))
              · exact Or.inl (Or.inr ⟨hs, h⟩)
              · exact Or.inr ⟨hs, h⟩
        have fin : ∀ x, isb x (∃ b, b < i + 1 ∧ Rc b ∧ As b ∧ ¬ Lt b) → pj_M_plans_191 K (fun x1 x2 x3 z => lp_M_plans_63 K (k + 1) x1 x2 x3 z) (ix e) (ix i) x y5 := by
          intro x hx
          rw [pj_M_plans_191]
          refine ⟨n + 1, ?_⟩
          rw [l0]
          refine puts _ x i (fun t => ∃ b, b < i ∧ Rc b ∧ ∃ a, a < n ∧ t = 16 * a + b ∧ Px n E Rc Ch As Bh Wt Lt a b) (by omega) n 0 y5 (by omega) I5 ?_ (fun y' h1 h2 h3 => ih (i + 1) x y' (by omega) h1 hx ?_ ?_)
          · rw [P5]; exact SR_congr h23 (fun s => ⟨Or.inl, fun h => h.elim id (fun ⟨a, ha, _⟩ => by omega)⟩)
          · rw [h2]; exact S6
          · refine SR_congr h3 (fun s => ?_)
            constructor
            · rintro (⟨b, hb1, h⟩ | ⟨a, ha, h1, h2⟩)
              · exact ⟨b, by omega, h⟩
              · exact ⟨i, by omega, hri, a, ha, h1, h2⟩
            · rintro ⟨b, hb1, hrb, a, ha, hs, hp⟩
              rcases Nat.lt_or_ge b i with e1 | e1
              · exact Or.inl ⟨b, e1, hrb, a, ha, hs, hp⟩
              · have : b = i := by omega
                subst this; exact Or.inr ⟨a, ha, hs, hp⟩
        have some1 : (∃ b, b < i + 1 ∧ Rc b ∧ As b ∧ ¬ Lt b) ↔ (∃ b, b < i ∧ Rc b ∧ As b ∧ ¬ Lt b) ∨ (As i ∧ ¬ Lt i) := by
          constructor
          · rintro ⟨b, hb1, hrb, h⟩
            rcases Nat.lt_or_ge b i with e1 | e1
            · exact Or.inl ⟨b, e1, hrb, h⟩
            · have : b = i := by omega
              subst this; exact Or.inr h
          · rintro (⟨b, hb1, h⟩ | h)
            · exact ⟨b, by omega, h⟩
            · exact ⟨i, by omega, hri, h⟩
        simp (disch := omega) only [pj_M_plans_186, forall_eq, l0, l1, l2, l3, l4, l5, l6, l15, l16, l24, l30, l99, l100, l200, l385, lm1, ix_ne, ne_ix, ix_nat, vp_ix, ix_inj, ix_le, ix_lt, ix_add, ix_mul, ix_sub, nar0', nar1', or00, or01, or10, or11, rI, rIA, rIL, rA, rAI, rAL, rL, rLI, rLA, ru, ruL, reduceIte, Nat.reduceEqDiff, true_or, or_true, true_and, and_true, false_or, or_false, not_true_eq_false, not_false_eq_true, false_implies, true_implies, implies_true, i10, i01]
        refine ⟨fun h0 => fin _ (Or.inl ⟨rfl, some1.2 (Or.inl (isb_n hx h0))⟩), fun h0 => ⟨fun h3 => fin _ (Or.inr ⟨rfl, fun hh => ?_⟩), fun h3 => fin _ (Or.inl ⟨rfl, some1.2 (Or.inr (isb_n ht h3))⟩)⟩⟩
        exact (some1.1 hh).elim ((isb_z hx).1 h0) ((isb_z ht).1 h3)
      rw [lp_M_plans_63]
      simp (disch := omega) only [hN', h21, pj_M_plans_102, pj_M_plans_261, forall_eq, l0, l1, l2, l3, l4, l5, l6, l15, l16, l24, l30, l99, l100, l200, l385, lm1, ix_ne, ne_ix, ix_nat, vp_ix, ix_inj, ix_le, ix_lt, ix_add, ix_mul, ix_sub, nar0', nar1', or00, or01, or10, or11, rI, rIA, rIL, rA, rAI, rAL, rL, rLI, rLA, ru, ruL, reduceIte, Nat.reduceEqDiff, true_or, or_true, true_and, and_true, false_or, or_false, not_true_eq_false, not_false_eq_true, false_implies, true_implies, implies_true, i10, i01]
      refine ⟨fun h => absurd h (by omega), fun _ => ⟨by omega, fun h0 => ?_, fun h0 => ⟨by omega, fun h2 => reached (isb_n ri h0) _ (Or.inr ⟨rfl, fun hh => (isb_z (b5 i (by omega))).1 h2 hh.1⟩), fun h2 => ⟨by omega, fun h3 => reached (isb_n ri h0) _ (Or.inr ⟨rfl, fun hh => hh.2 (isb_n (b3 i (by omega)) h3)⟩), fun h3 => reached (isb_n ri h0) _ (Or.inl ⟨rfl, isb_n (b5 i (by omega)) h2, (isb_z (b3 i (by omega))).1 h3⟩)⟩⟩⟩⟩
      have hnr := (isb_z ri).1 h0
      have up : ∀ {p : Nat → Prop}, (∃ b, b < i + 1 ∧ Rc b ∧ p b) ↔ (∃ b, b < i ∧ Rc b ∧ p b) := by
        intro p
        constructor
        · rintro ⟨b, hb1, hrb, h⟩
          rcases Nat.lt_or_ge b i with e1 | e1
          · exact ⟨b, e1, hrb, h⟩
          · have : b = i := by omega
            subst this; exact absurd hrb hnr
        · rintro ⟨b, hb1, h⟩; exact ⟨b, by omega, h⟩
      exact ih (i + 1) x2 y (by omega) hI (isb_c hx up.symm) (SR_congr h22 fun s => up.symm) (SR_congr h23 fun s => up.symm)
  exact loop n 0 (ix 0) z (by omega) (fr_refl z) (Or.inr ⟨rfl, fun ⟨b, hb1, _⟩ => by omega⟩) (SR_congr SR_refl fun s => ⟨fun h => h.elim, fun ⟨b, hb1, _⟩ => by omega⟩) (SR_congr SR_refl fun s => ⟨fun h => h.elim, fun ⟨b, hb1, _⟩ => by omega⟩)
theorem s_M_plans {n : Nat} {E : Nat → Nat → Prop} {Rc : Nat → Prop} {z : Sta} {K : Sta → Prop} {e : Nat} {sz : Nat → Nat} (H : HM n E Rc z) (hcl : ∀ a c, Rc a → E a c → Rc c) (he : e < 24) (hsz : ∀ b, b < 16 → z.2.1 15 b = ix (sz b) ∧ sz b ≤ 5)
    (hK : ∀ y Bh Wt Lt, fr [12] [22, 23, 24, 25, 26, 28, 29, 31] [] z y → PL n E Rc (Chm z sz e) (Asm z sz e) (Lvm z sz e) Bh Wt Lt →
      SR (z.2.1 22) (y.2.1 22) e (fun i => ∃ b, b < n ∧ Rc b ∧ ∃ w, w < 6 ∧ i = 6 * b + w ∧ Sx n E Rc (Asm z sz e) Bh Wt Lt b w) →
      SR (z.2.1 23) (y.2.1 23) e (fun i => (∃ b, b < n ∧ Rc b ∧ ∃ a, a < n ∧ i = 16 * a + b ∧ Px n E Rc (Chm z sz e) (Asm z sz e) Bh Wt Lt a b) ∨ (i = 256 ∧ Wt 0 ∧ ¬ Lt 0)) →
      (∀ j, hw (y.1 12) j = true ↔ hw (z.1 12) j = true ∨ (j = e ∧ ∃ b, b < n ∧ Rc b ∧ Asm z sz e b ∧ ¬ Lt b)) → K y) : wp_M_plans (ix e) z K := by
  have hn := H.1
  let FA : List Nat := [24, 25, 26, 28, 29, 31]
  have settle3 : ∀ y, fr [] [24, 25, 26, 28, 29, 31] [] z y → (∀ b, b < 16 → isb (y.2.1 24 b) (Chm z sz e b) ∧ isb (y.2.1 25 b) (Asm z sz e b) ∧ isb (y.2.1 26 b) (Lvm z sz e b) ∧ y.2.1 28 b = ix 1 ∧ y.2.1 29 b = ix 1 ∧ y.2.1 31 b = ix 1) → lp_M_plans_43 K 4 (ix e) (ix 0) y := by
    intro y hfr hI
    have Hy : HM n E Rc y := HM_fr H hfr (by decide) (by decide) (by decide)
    rw [lp_M_plans_43]
    simp (disch := omega) only [forall_eq, l0, l1, l2, l3, l4, l5, l6, l15, l16, l24, l30, l99, l100, l200, l385, lm1, ix_ne, ne_ix, ix_nat, vp_ix, ix_inj, ix_le, ix_lt, ix_add, ix_mul, ix_sub, nar0', nar1', or00, or01, or10, or11, rI, rIA, rIL, rA, rAI, rAL, rL, rLI, rLA, ru, ruL, reduceIte, Nat.reduceEqDiff, true_or, or_true, true_and, and_true, false_or, or_false, not_true_eq_false, not_false_eq_true, false_implies, true_implies, implies_true, i10, i01]
    refine ⟨fun h => absurd h (by omega), fun _ => ?_⟩
    refine s_M_settle (F := FBm n E Rc (Chm z sz e) (Lvm z sz e)) (w := 0) (by omega) Hy (fun X Y b hb1 hrb hXY hF => ?_) (fun R x2 b y1 X hb1 hrb hfr1 hX => ?_) (fun b hb1 => (hI b hb1).2.2.2.1) (fun y1 Bh hfr1 hB hBo hBf => ?_)
    · exact hF.imp id (fun h => ⟨⟨h.1.1, fun a ha hra he => hXY a ha hra (h.1.2 a ha hra he)⟩, h.2⟩)
    · refine s_ev0 (HM_fr Hy hfr1 (by decide) (by decide) (by decide)) hb1 (fun b hb1 => hX b (by omega)) (fun b hb1 => ?_) (fun b hb1 => ?_)
      · rw [hfr1.2.1 24 (by decide)]; exact (hI b (by omega)).1
      · rw [hfr1.2.1 26 (by decide)]; exact (hI b (by omega)).2.2.1
    have hfr1 : fr [] [28] [] y y1 := hfr1
    have hB : ∀ b, b < 16 → isb (y1.2.1 28 b) (Bh b) := hB
    have H1 : HM n E Rc y1 := HM_fr Hy hfr1 (by decide) (by decide) (by decide)
    rw [lp_M_plans_43]
    simp (disch := omega) only [forall_eq, l0, l1, l2, l3, l4, l5, l6, l15, l16, l24, l30, l99, l100, l200, l385, lm1, ix_ne, ne_ix, ix_nat, vp_ix, ix_inj, ix_le, ix_lt, ix_add, ix_mul, ix_sub, nar0', nar1', or00, or01, or10, or11, rI, rIA, rIL, rA, rAI, rAL, rL, rLI, rLA, ru, ruL, reduceIte, Nat.reduceEqDiff, true_or, or_true, true_and, and_true, false_or, or_false, not_true_eq_false, not_false_eq_true, false_implies, true_implies, implies_true, i10, i01]
    refine ⟨fun h => absurd h (by omega), fun _ => ?_⟩
    refine s_M_settle (F := FWm n E (Chm z sz e) (Asm z sz e)) (w := 1) (by omega) H1 (fun X Y b hb1 hrb hXY hF => ?_) (fun R x2 b y2 X hb1 hrb hfr2 hX => ?_) (fun b hb1 => ?_) (fun y2 Wt hfr2 hW hWo hWf => ?_)
    · exact hF.imp id (fun h => ⟨⟨h.1.1, fun d hd he => hXY d hd (hcl b d hrb he) (h.1.2 d hd he)⟩, h.2⟩)
    · refine s_ev1 (HM_fr H1 hfr2 (by decide) (by decide) (by decide)) hb1 (fun b hb1 => hX b (by omega)) (fun b hb1 => ?_) (fun b hb1 => ?_)
      · rw [hfr2.2.1 24 (by decide), hfr1.2.1 24 (by decide)]; exact (hI b (by omega)).1
      · rw [hfr2.2.1 25 (by decide), hfr1.2.1 25 (by decide)]; exact (hI b (by omega)).2.1
    · show y1.2.1 29 b = ix 1
      rw [hfr1.2.1 29 (by decide)]; exact (hI b hb1).2.2.2.2.1
    have hfr2 : fr [] [29] [] y1 y2 := hfr2
    have hW : ∀ b, b < 16 → isb (y2.2.1 29 b) (Wt b) := hW
    have H2 : HM n E Rc y2 := HM_fr H1 hfr2 (by decide) (by decide) (by decide)
    rw [lp_M_plans_43]
    simp (disch := omega) only [forall_eq, l0, l1, l2, l3, l4, l5, l6, l15, l16, l24, l30, l99, l100, l200, l385, lm1, ix_ne, ne_ix, ix_nat, vp_ix, ix_inj, ix_le, ix_lt, ix_add, ix_mul, ix_sub, nar0', nar1', or00, or01, or10, or11, rI, rIA, rIL, rA, rAI, rAL, rL, rLI, rLA, ru, ruL, reduceIte, Nat.reduceEqDiff, true_or, or_true, true_and, and_true, false_or, or_false, not_true_eq_false, not_false_eq_true, false_implies, true_implies, implies_true, i10, i01]
    refine ⟨fun h => absurd h (by omega), fun _ => ?_⟩
    refine s_M_settle (F := FLm n E Rc (Chm z sz e) (Asm z sz e) Bh Wt) (w := 2) (by omega) H2 (fun X Y b hb1 hrb hXY hF => ?_) (fun R x2 b y3 X hb1 hrb hfr3 hX => ?_) (fun b hb1 => ?_) (fun y3 Lt hfr3 hL hLo hLf => ?_)
    · exact ⟨hF.1, fun a ha hra he => (hF.2 a ha hra he).imp id (fun h => ⟨hXY a ha hra h.1, h.2⟩)⟩
    · refine s_ev2 (HM_fr H2 hfr3 (by decide) (by decide) (by decide)) hb1 (fun b hb1 => hX b (by omega)) (fun b hb1 => ?_) (fun b hb1 => ?_) (fun b hb1 => ?_) (fun b hb1 => ?_)
      · rw [hfr3.2.1 24 (by decide), hfr2.2.1 24 (by decide), hfr1.2.1 24 (by decide)]; exact (hI b (by omega)).1
      · rw [hfr3.2.1 25 (by decide), hfr2.2.1 25 (by decide), hfr1.2.1 25 (by decide)]; exact (hI b (by omega)).2.1
      · rw [hfr3.2.1 28 (by decide), hfr2.2.1 28 (by decide)]; exact hB b (by omega)
      · rw [hfr3.2.1 29 (by decide)]; exact hW b (by omega)
    · show y2.2.1 31 b = ix 1
      rw [hfr2.2.1 31 (by decide), hfr1.2.1 31 (by decide)]; exact (hI b hb1).2.2.2.2.2
    have hfr3 : fr [] [31] [] y2 y3 := hfr3
    have hL : ∀ b, b < 16 → isb (y3.2.1 31 b) (Lt b) := hL
    have H3 : HM n E Rc y3 := HM_fr H2 hfr3 (by decide) (by decide) (by decide)
    have hfrz : fr [] [24, 25, 26, 28, 29, 31] [] z y3 := fr_tr (fr_tr (fr_tr hfr (fr_mono hfr1 (by simp) (by simp) (by simp))) (fr_mono hfr2 (by simp) (by simp) (by simp))) (fr_mono hfr3 (by simp) (by simp) (by simp))
    rw [lp_M_plans_43]
    simp (disch := omega) only [forall_eq, l0, l1, l2, l3, l4, l5, l6, l15, l16, l24, l30, l99, l100, l200, l385, lm1, ix_ne, ne_ix, ix_nat, vp_ix, ix_inj, ix_le, ix_lt, ix_add, ix_mul, ix_sub, nar0', nar1', or00, or01, or10, or11, rI, rIA, rIL, rA, rAI, rAL, rL, rLI, rLA, ru, ruL, reduceIte, Nat.reduceEqDiff, true_or, or_true, true_and, and_true, false_or, or_false, not_true_eq_false, not_false_eq_true, false_implies, true_implies, implies_true, i10, i01]
    refine ⟨fun _ => ⟨n + 1, ?_⟩, fun h => absurd (by omega) h⟩
    refine s_M_plansW (Ch := Chm z sz e) (As := Asm z sz e) (Bh := Bh) (Wt := Wt) (Lt := Lt) H3 he (fun b hb1 => ?_) (fun b hb1 => ?_) (fun b hb1 => hL b (by omega)) (fun b hb1 => ?_) (fun b hb1 => ?_) (fun y4 hfr4 h22 h23 h12 => ?_)
    · rw [hfr3.2.1 28 (by decide), hfr2.2.1 28 (by decide)]; exact hB b (by omega)
    · rw [hfr3.2.1 29 (by decide)]; exact hW b (by omega)
    · rw [hfr3.2.1 24 (by decide), hfr2.2.1 24 (by decide), hfr1.2.1 24 (by decide)]; exact (hI b (by omega)).1
    · rw [hfr3.2.1 25 (by decide), hfr2.2.1 25 (by decide), hfr1.2.1 25 (by decide)]; exact (hI b (by omega)).2.1
    · refine hK y4 Bh Wt Lt (fr_tr (fr_mono hfrz (by simp) (by simp) (by simp)) (fr_mono hfr4 (by simp) (by simp) (by simp))) ⟨⟨hBo, hBf⟩, ⟨hWo, hWf⟩, ⟨hLo, hLf⟩⟩ ?_ ?_ ?_
      · rw [← hfrz.2.1 22 (by decide)]; exact h22
      · rw [← hfrz.2.1 23 (by decide)]; exact h23
      · rw [← hfrz.1 12 (by decide)]; exact h12
  have loop : ∀ (k i : Nat) (y : Sta), i + k = 16 → fr [] [24, 25, 26, 28, 29, 31] [] z y → (∀ b, b < i → isb (y.2.1 24 b) (Chm z sz e b) ∧ isb (y.2.1 25 b) (Asm z sz e b) ∧ isb (y.2.1 26 b) (Lvm z sz e b) ∧ y.2.1 28 b = ix 1 ∧ y.2.1 29 b = ix 1 ∧ y.2.1 31 b = ix 1) → lp_M_plans_2 K (k + 1) (ix e) (ix i) y := by
    intro k
    induction k with
    | zero =>
      intro i y hik hfr hI
      rw [lp_M_plans_2]
      simp (disch := omega) only [forall_eq, l0, l1, l2, l3, l4, l5, l6, l15, l16, l24, l30, l99, l100, l200, l385, lm1, ix_ne, ne_ix, ix_nat, vp_ix, ix_inj, ix_le, ix_lt, ix_add, ix_mul, ix_sub, nar0', nar1', or00, or01, or10, or11, rI, rIA, rIL, rA, rAI, rAL, rL, rLI, rLA, ru, ruL, reduceIte, Nat.reduceEqDiff, true_or, or_true, true_and, and_true, false_or, or_false, not_true_eq_false, not_false_eq_true, false_implies, true_implies, implies_true, i10, i01]
      exact ⟨fun _ => ⟨4, settle3 y hfr (fun b hb1 => hI b (by omega))⟩, fun h => absurd (by omega) h⟩
    | succ k ih =>
      intro i y hik hfr hI
      rw [lp_M_plans_2]
      simp (disch := omega) only [forall_eq, l0, l1, l2, l3, l4, l5, l6, l15, l16, l24, l30, l99, l100, l200, l385, lm1, ix_ne, ne_ix, ix_nat, vp_ix, ix_inj, ix_le, ix_lt, ix_add, ix_mul, ix_sub, nar0', nar1', or00, or01, or10, or11, rI, rIA, rIL, rA, rAI, rAL, rL, rLI, rLA, ru, ruL, reduceIte, Nat.reduceEqDiff, true_or, or_true, true_and, and_true, false_or, or_false, not_true_eq_false, not_false_eq_true, false_implies, true_implies, implies_true, i10, i01]
      refine ⟨fun h => absurd h (by omega), fun _ => s_M_look (sz := sz i) (by omega) he ?_ (hsz i (by omega)).2 (fun y1 hfr1 hoff h24 h25 h26 => ⟨by omega, by omega, by omega, ?_⟩)⟩
      · rw [hfr.2.1 15 (by decide)]; exact (hsz i (by omega)).1
      · rw [cpM_fr hfr (by decide), gvM_fr hfr (by decide) (by decide) (by decide)] at h24 h25 h26
        refine ih (i + 1) _ (by omega) (fr_A (fr_A (fr_A (fr_tr hfr (fr_mono hfr1 (by simp) (by simp) (by simp))) (by decide) _) (by decide) _) (by decide) _) (fun b hb1 => ?_)
        have k28 := hfr1.2.1 28 (by decide)
        have k29 := hfr1.2.1 29 (by decide)
        have k31 := hfr1.2.1 31 (by decide)
        simp (disch := omega) only [forall_eq, l0, l1, l2, l3, l4, l5, l6, l15, l16, l24, l30, l99, l100, l200, l385, lm1, ix_ne, ne_ix, ix_nat, vp_ix, ix_inj, ix_le, ix_lt, ix_add, ix_mul, ix_sub, nar0', nar1', or00, or01, or10, or11, rI, rIA, rIL, rA, rAI, rAL, rL, rLI, rLA, ru, ruL, reduceIte, Nat.reduceEqDiff, true_or, or_true, true_and, and_true, false_or, or_false, not_true_eq_false, not_false_eq_true, false_implies, true_implies, implies_true, i10, i01]
        by_cases ebi : b = i
        · subst ebi
          refine ⟨h24, h25, h26, ?_, ?_, ?_⟩ <;> rw [if_pos rfl]
        · obtain ⟨o1, o2, o3⟩ := hoff b ebi
          rw [o1, o2, o3, if_neg ebi, if_neg ebi, if_neg ebi, k28, k29, k31]
          exact hI b (by omega)
  simp (disch := omega) only [wp_M_plans, forall_eq, l0, l1, l2, l3, l4, l5, l6, l15, l16, l24, l30, l99, l100, l200, l385, lm1, ix_ne, ne_ix, ix_nat, vp_ix, ix_inj, ix_le, ix_lt, ix_add, ix_mul, ix_sub, nar0', nar1', or00, or01, or10, or11, rI, rIA, rIL, rA, rAI, rAL, rL, rLI, rLA, ru, ruL, reduceIte, Nat.reduceEqDiff, true_or, or_true, true_and, and_true, false_or, or_false, not_true_eq_false, not_false_eq_true, false_implies, true_implies, implies_true, i10, i01]
  exact ⟨17, loop 16 0 z rfl (fr_refl z) (fun b hb1 => absurd hb1 (by omega))⟩
theorem s_M_bits {z : Sta} {K : Int32 → Sta → Prop} {v : Int32} (h : K (ix (cnt (fun j => hw v j) 24)) z) : wp_M_bits v z K := by
  have loop : ∀ (k i : Nat), i + k = 24 → lp_M_bits_4 K (k + 1) v (ix (cnt (fun j => hw v j) i)) (ix i) z := by
    intro k
    induction k with
    | zero =>
      intro i hik
      rw [lp_M_bits_4]
      simp (disch := omega) only [forall_eq, l0, l1, l2, l3, l4, l5, l6, l15, l16, l24, l30, l99, l100, l200, l385, lm1, ix_ne, ne_ix, ix_nat, vp_ix, ix_inj, ix_le, ix_lt, ix_add, ix_mul, ix_sub, nar0', nar1', or00, or01, or10, or11, rI, rIA, rIL, rA, rAI, rAL, rL, rLI, rLA, ru, ruL, reduceIte, Nat.reduceEqDiff, true_or, or_true, true_and, and_true, false_or, or_false, not_true_eq_false, not_false_eq_true, false_implies, true_implies, implies_true, i10, i01]
      have : i = 24 := by omega
      subst this
      exact ⟨fun _ => h, fun h => absurd (by omega) h⟩
    | succ k ih =>
      intro i hik
      rw [lp_M_bits_4]
      simp (disch := omega) only [forall_eq, l0, l1, l2, l3, l4, l5, l6, l15, l16, l24, l30, l99, l100, l200, l385, lm1, ix_ne, ne_ix, ix_nat, vp_ix, ix_inj, ix_le, ix_lt, ix_add, ix_mul, ix_sub, nar0', nar1', or00, or01, or10, or11, rI, rIA, rIL, rA, rAI, rAL, rL, rLI, rLA, ru, ruL, reduceIte, Nat.reduceEqDiff, true_or, or_true, true_and, and_true, false_or, or_false, not_true_eq_false, not_false_eq_true, false_implies, true_implies, implies_true, i10, i01]
      rw [sh32 (by omega)]
      refine ⟨fun h => absurd h (by omega), fun _ => ?_⟩
      have := ih (i + 1) (by omega)
      simp only [cnt] at this
      by_cases hv : hw v i = true
      · rw [if_pos hv] at this
        rw [if_pos hv, ix_add]; exact this
      · rw [if_neg hv] at this
        rw [if_neg hv, ix_add]; exact this
  simp (disch := omega) only [wp_M_bits, forall_eq, l0, l1, l2, l3, l4, l5, l6, l15, l16, l24, l30, l99, l100, l200, l385, lm1, ix_ne, ne_ix, ix_nat, vp_ix, ix_inj, ix_le, ix_lt, ix_add, ix_mul, ix_sub, nar0', nar1', or00, or01, or10, or11, rI, rIA, rIL, rA, rAI, rAL, rL, rLI, rLA, ru, ruL, reduceIte, Nat.reduceEqDiff, true_or, or_true, true_and, and_true, false_or, or_false, not_true_eq_false, not_false_eq_true, false_implies, true_implies, implies_true, i10, i01]
  exact ⟨25, loop 24 0 rfl⟩
theorem s_M_planE {n m : Nat} {E : Nat → Nat → Prop} {Rc : Nat → Prop} {z : Sta} {K : Int32 → Sta → Prop} {sz : Nat → Nat} (H : HM n E Rc z) (hcl : ∀ a c, Rc a → E a c → Rc c) (hm : m ≤ 24) (hM : z.1 9 = ix m) (hsz : ∀ b, b < 16 → z.2.1 15 b = ix (sz b) ∧ sz b ≤ 5)
    (h22 : ∀ t, t < 96 → z.2.1 22 t = ix 0) (h23 : ∀ t, t < 257 → z.2.1 23 t = ix 0) (h12 : z.1 12 = ix 0)
    (hK : ∀ (y : Sta) (Bh Wt Lt : Nat → Nat → Prop), fr [10, 11, 12] [22, 23, 24, 25, 26, 28, 29, 31] [] z y → y.1 10 = ix 1 → y.1 11 = z.1 11 + ix 1 → (∀ j, j < m → PL n E Rc (Chm z sz j) (Asm z sz j) (Lvm z sz j) (Bh j) (Wt j) (Lt j)) →
      (∀ t j, t < 96 → (hw (y.2.1 22 t) j = true ↔ j < m ∧ ∃ b, b < n ∧ Rc b ∧ ∃ w, w < 6 ∧ t = 6 * b + w ∧ Sx n E Rc (Asm z sz j) (Bh j) (Wt j) (Lt j) b w)) →
      (∀ t j, t < 257 → (hw (y.2.1 23 t) j = true ↔ j < m ∧ ((∃ b, b < n ∧ Rc b ∧ ∃ a, a < n ∧ t = 16 * a + b ∧ Px n E Rc (Chm z sz j) (Asm z sz j) (Bh j) (Wt j) (Lt j) a b) ∨ (t = 256 ∧ Wt j 0 ∧ ¬ Lt j 0)))) →
      (∀ j, hw (y.1 12) j = true ↔ j < m ∧ ∃ b, b < n ∧ Rc b ∧ Asm z sz j b ∧ ¬ Lt j b) → K (ix (cnt (fun j => hw (y.1 12) j) 24)) y) : lp_M_plan_85 K (m + 1) (ix 0) z := by
  have loop : ∀ (k i : Nat) (y : Sta) (Bh Wt Lt : Nat → Nat → Prop), i + k = m → fr [12] [22, 23, 24, 25, 26, 28, 29, 31] [] z y → (∀ j, j < i → PL n E Rc (Chm z sz j) (Asm z sz j) (Lvm z sz j) (Bh j) (Wt j) (Lt j)) →
      (∀ t j, t < 96 → (hw (y.2.1 22 t) j = true ↔ j < i ∧ ∃ b, b < n ∧ Rc b ∧ ∃ w, w < 6 ∧ t = 6 * b + w ∧ Sx n E Rc (Asm z sz j) (Bh j) (Wt j) (Lt j) b w)) →
      (∀ t j, t < 257 → (hw (y.2.1 23 t) j = true ↔ j < i ∧ ((∃ b, b < n ∧ Rc b ∧ ∃ a, a < n ∧ t = 16 * a + b ∧ Px n E Rc (Chm z sz j) (Asm z sz j) (Bh j) (Wt j) (Lt j) a b) ∨ (t = 256 ∧ Wt j 0 ∧ ¬ Lt j 0)))) →
      (∀ j, hw (y.1 12) j = true ↔ j < i ∧ ∃ b, b < n ∧ Rc b ∧ Asm z sz j b ∧ ¬ Lt j b) → lp_M_plan_85 K (k + 1) (ix i) y := by
    intro k
    induction k with
    | zero =>
      intro i y Bh Wt Lt hik hfr hP a22 a23 a12
      have hM' : y.1 9 = ix m := (hfr.1 9 (by decide)).trans hM
      have h11 : y.1 11 = z.1 11 := hfr.1 11 (by decide)
      have : i = m := by omega
      subst this
      rw [lp_M_plan_85]
      simp (disch := omega) only [hM', h11, forall_eq, l0, l1, l2, l3, l4, l5, l6, l15, l16, l24, l30, l99, l100, l200, l385, lm1, ix_ne, ne_ix, ix_nat, vp_ix, ix_inj, ix_le, ix_lt, ix_add, ix_mul, ix_sub, nar0', nar1', or00, or01, or10, or11, rI, rIA, rIL, rA, rAI, rAL, rL, rLI, rLA, ru, ruL, reduceIte, Nat.reduceEqDiff, true_or, or_true, true_and, and_true, false_or, or_false, not_true_eq_false, not_false_eq_true, false_implies, true_implies, implies_true, i10, i01]
      have hk := hK (zI (zI y 10 (ix 1)) 11 (z.1 11 + ix 1)) Bh Wt Lt (fr_I (fr_I (fr_mono hfr (by simp) (by simp) (by simp)) (by decide) _) (by decide) _) (by simp (disch := omega) only [forall_eq, l0, l1, l2, l3, l4, l5, l6, l15, l16, l24, l30, l99, l100, l200, l385, lm1, ix_ne, ne_ix, ix_nat, vp_ix, ix_inj, ix_le, ix_lt, ix_add, ix_mul, ix_sub, nar0', nar1', or00, or01, or10, or11, rI, rIA, rIL, rA, rAI, rAL, rL, rLI, rLA, ru, ruL, reduceIte, Nat.reduceEqDiff, true_or, or_true, true_and, and_true, false_or, or_false, not_true_eq_false, not_false_eq_true, false_implies, true_implies, implies_true, i10, i01]) (by simp (disch := omega) only [forall_eq, l0, l1, l2, l3, l4, l5, l6, l15, l16, l24, l30, l99, l100, l200, l385, lm1, ix_ne, ne_ix, ix_nat, vp_ix, ix_inj, ix_le, ix_lt, ix_add, ix_mul, ix_sub, nar0', nar1', or00, or01, or10, or11, rI, rIA, rIL, rA, rAI, rAL, rL, rLI, rLA, ru, ruL, reduceIte, Nat.reduceEqDiff, true_or, or_true, true_and, and_true, false_or, or_false, not_true_eq_false, not_false_eq_true, false_implies, true_implies, implies_true, i10, i01]) hP a22 a23
      have e12 : (zI (zI y 10 (ix 1)) 11 (z.1 11 + ix 1)).1 12 = y.1 12 := by
        simp (disch := omega) only [forall_eq, l0, l1, l2, l3, l4, l5, l6, l15, l16, l24, l30, l99, l100, l200, l385, lm1, ix_ne, ne_ix, ix_nat, vp_ix, ix_inj, ix_le, ix_lt, ix_add, ix_mul, ix_sub, nar0', nar1', or00, or01, or10, or11, rI, rIA, rIL, rA, rAI, rAL, rL, rLI, rLA, ru, ruL, reduceIte, Nat.reduceEqDiff, true_or, or_true, true_and, and_true, false_or, or_false, not_true_eq_false, not_false_eq_true, false_implies, true_implies, implies_true, i10, i01]
      rw [e12] at hk
      exact ⟨fun _ => s_M_bits (hk a12), fun h => absurd (by omega) h⟩
    | succ k ih =>
      intro i y Bh Wt Lt hik hfr hP a22 a23 a12
      have hM' : y.1 9 = ix m := (hfr.1 9 (by decide)).trans hM
      rw [lp_M_plan_85]
      simp (disch := omega) only [hM', forall_eq, l0, l1, l2, l3, l4, l5, l6, l15, l16, l24, l30, l99, l100, l200, l385, lm1, ix_ne, ne_ix, ix_nat, vp_ix, ix_inj, ix_le, ix_lt, ix_add, ix_mul, ix_sub, nar0', nar1', or00, or01, or10, or11, rI, rIA, rIL, rA, rAI, rAL, rL, rLI, rLA, ru, ruL, reduceIte, Nat.reduceEqDiff, true_or, or_true, true_and, and_true, false_or, or_false, not_true_eq_false, not_false_eq_true, false_implies, true_implies, implies_true, i10, i01]
      refine ⟨fun h => absurd h (by omega), fun _ => s_M_plans (sz := sz) (HM_fr H hfr (by decide) (by decide) (by decide)) hcl (by omega) (fun b hb1 => ?_) (fun y1 B1 W1 L1 hfr1 hP1 b22 b23 b12 => ?_)⟩
      · rw [hfr.2.1 15 (by decide)]; exact hsz b hb1
      · have eC : Chm y sz i = Chm z sz i := by
          funext b; simp only [Chm, cpM_fr hfr (by decide : 16 ∉ _), gvM_fr hfr (by decide : 16 ∉ _) (by decide) (by decide)]
        have eA : Asm y sz i = Asm z sz i := by
          funext b; simp only [Asm, cpM_fr hfr (by decide : 16 ∉ _), gvM_fr hfr (by decide : 16 ∉ _) (by decide) (by decide)]
        have eL : Lvm y sz i = Lvm z sz i := by
          funext b; simp only [Lvm, cpM_fr hfr (by decide : 16 ∉ _), gvM_fr hfr (by decide : 16 ∉ _) (by decide) (by decide)]
        rw [eC, eA, eL] at hP1
        rw [eA] at b22 b12
        rw [eC, eA] at b23
        refine ih (i + 1) y1 (fun j => if j = i then B1 else Bh j) (fun j => if j = i then W1 else Wt j) (fun j => if j = i then L1 else Lt j) (by omega) (fr_tr hfr hfr1) (fun j hj => ?_) (fun t j ht => ?_) (fun t j ht => ?_) (fun j => ?_)
        · by_cases ej : j = i
          · simp only [if_pos ej]; rw [ej]; exact hP1
          · simp only [if_neg ej]; exact hP j (by omega)
        · rw [b22 t j, a22 t j ht]
          by_cases ej : j = i
          · simp only [if_pos ej, ej]
            constructor
            · rintro (⟨h, _⟩ | ⟨_, h⟩)
              · omega
              · exact ⟨by omega, h⟩
            · rintro ⟨_, h⟩; exact Or.inr ⟨trivial, h⟩
          · simp only [if_neg ej]
            constructor
            · rintro (⟨h, h2⟩ | ⟨h, _⟩)
              · exact ⟨by omega, h2⟩
              · exact absurd h ej
            · rintro ⟨h, h2⟩; exact Or.inl ⟨by omega, h2⟩
        · rw [b23 t j, a23 t j ht]
          by_cases ej : j = i
          · simp only [if_pos ej, ej]
            constructor
            · rintro (⟨h, _⟩ | ⟨_, h⟩)
              · omega
              · exact ⟨by omega, h⟩
            · rintro ⟨_, h⟩; exact Or.inr ⟨trivial, h⟩
          · simp only [if_neg ej]
            constructor
            · rintro (⟨h, h2⟩ | ⟨h, _⟩)
              · exact ⟨by omega, h2⟩
              · exact absurd h ej
            · rintro ⟨h, h2⟩; exact Or.inl ⟨by omega, h2⟩
        · rw [b12 j, a12 j]
          by_cases ej : j = i
          · simp only [if_pos ej, ej]
            constructor
            · rintro (⟨h, _⟩ | ⟨_, h⟩)
              · omega
              · exact ⟨by omega, h⟩
            · rintro ⟨_, h⟩; exact Or.inr ⟨trivial, h⟩
          · simp only [if_neg ej]
            constructor
            · rintro (⟨h, h2⟩ | ⟨h, _⟩)
              · exact ⟨by omega, h2⟩
              · exact absurd h ej
            · rintro ⟨h, h2⟩; exact Or.inl ⟨by omega, h2⟩
  have z0 : ∀ j, hw (ix 0) j = true ↔ False := fun j => by
    have : hw (ix 0) j = false := hw_0 j
    rw [this]; simp
  refine loop m 0 z (fun _ _ => False) (fun _ _ => False) (fun _ _ => False) (by omega) (fr_refl z) (fun j hj => absurd hj (by omega)) (fun t j ht => ?_) (fun t j ht => ?_) (fun j => ?_)
  · rw [h22 t ht, z0]; exact ⟨fun h => h.elim, fun h => absurd h.1 (by omega)⟩
  · rw [h23 t ht, z0]; exact ⟨fun h => h.elim, fun h => absurd h.1 (by omega)⟩
  · rw [h12, z0]; exact ⟨fun h => h.elim, fun h => absurd h.1 (by omega)⟩
