def mu (v : Nat → Int64) : Nat := cnt (fun i => hb (v (i / 24)) (i % 24)) 384
def FJ (PF : Nat → (Nat → Prop) → Prop) (v0 : Nat → Int64) (Q ch : Prop) (v : Nat → Int64) : Prop :=
  (∀ b e, b < 16 → hb (v0 b) e = true → e < 24) ∧ (∀ e X b, e < 24 → PF e X → b < 16 → X b → hb (v b) e = true) ∧ (∀ b e, b < 16 → hb (v b) e = true → hb (v0 b) e = true) ∧
  (¬ ch → (∀ b, b < 16 → v b = v0 b) ∧ Q) ∧ (ch → ∃ b e, b < 16 ∧ e < 24 ∧ hb (v0 b) e = true ∧ hb (v b) e = false)
theorem FJ_mono {PF : Nat → (Nat → Prop) → Prop} {v0 v : Nat → Int64} {Q Q' ch : Prop} (h : FJ PF v0 Q ch v) (hq : ¬ ch → Q → Q') : FJ PF v0 Q' ch v :=
  ⟨h.1, h.2.1, h.2.2.1, fun hc => ⟨(h.2.2.2.1 hc).1, hq hc (h.2.2.2.1 hc).2⟩, h.2.2.2.2⟩
theorem FJ_start {PF : Nat → (Nat → Prop) → Prop} {v0 v : Nat → Int64} {Q ch : Prop} (h : FJ PF v0 Q ch v) : FJ PF v True False v :=
  ⟨fun b e hb1 h1 => h.1 b e hb1 (h.2.2.1 b e hb1 h1), h.2.1, fun _ _ _ h => h, fun _ => ⟨fun _ _ => rfl, trivial⟩, fun h => h.elim⟩
theorem FJ_mu {PF : Nat → (Nat → Prop) → Prop} {v0 v : Nat → Int64} {Q ch : Prop} (h : FJ PF v0 Q ch v) (hc : ch) : mu v < mu v0 := by
  obtain ⟨b, e, hb16, he, h0, h1⟩ := h.2.2.2.2 hc
  refine cnt_lt (fun i hi hh => h.2.2.1 _ _ (by omega) hh) (k := b * 24 + e) (by omega) ?_ ?_
  · show hb (v ((b * 24 + e) / 24)) ((b * 24 + e) % 24) = false
    rw [show (b * 24 + e) / 24 = b by omega, show (b * 24 + e) % 24 = e by omega]; exact h1
  · show hb (v0 ((b * 24 + e) / 24)) ((b * 24 + e) % 24) = true
    rw [show (b * 24 + e) / 24 = b by omega, show (b * 24 + e) % 24 = e by omega]; exact h0
theorem mu_le (v : Nat → Int64) : mu v ≤ 384 := cnt_le _ _
theorem updL_self {v : Nat → Int64} {c : Nat} {x : Int64} (h : x = v c) : vp_updL v c x = v := by
  funext j; rw [ruL]; split
  · next e => rw [e, h]
  · rfl
theorem FJ_step {PF : Nat → (Nat → Prop) → Prop} {v0 v : Nat → Int64} {Q ch : Prop} {c : Nat} {al : Int64} {w x1 : Int32} (h : FJ PF v0 Q ch v) (hc : c < 16) (hal : ∀ e X, e < 24 → PF e X → X c → hb al e = true) (hw : isb w (¬ v c &&& al = v c)) (hx : isb x1 ch) :
    ∃ ch', isb (x1 ||| w) ch' ∧ (¬ ch' → ¬ ch) ∧ FJ PF v0 (Q ∧ v c &&& al = v c) ch' (vp_updL v c (v c &&& al)) := by
  by_cases e : v c &&& al = v c
  · refine ⟨ch, ?_, fun h => h, ?_⟩
    · rw [isb_f hw (fun hh => hh e)]
      rcases hx with ⟨hx, hh⟩ | ⟨hx, hh⟩ <;> rw [hx]
      · rw [or10]; exact Or.inl ⟨rfl, hh⟩
      · rw [or00]; exact Or.inr ⟨rfl, hh⟩
    · rw [updL_self e]; exact FJ_mono h (fun _ hq => ⟨hq, e⟩)
  · refine ⟨True, ?_, fun h => absurd trivial h, h.1, fun e X b he hP hb16 hX => ?_, fun b e hb16 hh => ?_, fun hh => absurd trivial hh, fun _ => ?_⟩
    · rw [isb_t hw e]
      rcases isb_b hx with hx | hx <;> rw [hx]
      · rw [or01]; exact Or.inl ⟨rfl, trivial⟩
      · rw [or11]; exact Or.inl ⟨rfl, trivial⟩
    · rw [ruL]; split
      · next e1 => rw [hb_and, h.2.1 e X c he hP hc (e1 ▸ hX), hal e X he hP (e1 ▸ hX)]; rfl
      · exact h.2.1 e X b he hP hb16 hX
    · rw [ruL] at hh; split at hh
      · next e1 =>
        rw [hb_and, Bool.and_eq_true] at hh
        rw [e1]; exact h.2.2.1 c e hc hh.1
      · exact h.2.2.1 b e hb16 hh
    · have : ∃ e0, ¬ hb (v c &&& al) e0 = hb (v c) e0 := Classical.byContradiction fun hn => e (hb_ext (fun e0 _ => Classical.byContradiction fun hh => hn ⟨e0, hh⟩))
      obtain ⟨e0, he0⟩ := this
      rw [hb_and] at he0
      have h1 : hb (v c) e0 = true := by
        cases h2 : hb (v c) e0
        · rw [h2] at he0; exact absurd rfl he0
        · rfl
      have h3 : hb al e0 = false := by
        cases h2 : hb al e0
        · rfl
        · rw [h1, h2] at he0; exact absurd rfl he0
      have h4 := h.2.2.1 c e0 hc h1
      refine ⟨c, e0, hc, h.1 c e0 hc h4, h4, ?_⟩
      rw [ruL, if_pos rfl, hb_and, h1, h3]; rfl
theorem s_O_narrow_20 {z : Sta} {K : Int32 → Sta → Prop} {c : Nat} {al : Int64} (hc : c < 16) (h : ∀ w, isb w (¬ z.2.2 4 c &&& al = z.2.2 4 c) → K w (zL z 4 (vp_updL (z.2.2 4) c (z.2.2 4 c &&& al)))) : wp_O_narrow_20 (ix c) al z K := by
  simp (disch := omega) only [wp_O_narrow_20, pj_O_narrow_20_33, forall_eq, l0, l1, l2, l3, l4, l5, l6, l15, l16, l24, l30, l99, l100, l200, l385, lm1, ix_ne, ne_ix, ix_nat, vp_ix, ix_inj, ix_le, ix_lt, ix_add, ix_mul, ix_sub, nar0', nar1', or00, or01, or10, or11, rI, rIA, rIL, rA, rAI, rAL, rL, rLI, rLA, ru, ruL, reduceIte, Nat.reduceEqDiff, true_or, or_true, true_and, and_true, false_or, or_false, not_true_eq_false, not_false_eq_true, false_implies, true_implies, implies_true, i10, i01]
  refine ⟨by omega, by omega, by omega, fun h0 => h _ (Or.inr ⟨rfl, fun hh => hh (cmp0.1 h0)⟩), fun h0 => h _ (Or.inl ⟨rfl, fun hh => h0 (cmp0.2 hh)⟩)⟩
theorem s_O_narrow_20m {z : Sta} {K : Int32 → Sta → Prop} {al : Int64} (h : K (ix 0) z) : wp_O_narrow_20 mi al z K := by
  simp (disch := omega) only [wp_O_narrow_20, forall_eq, l0, l1, l2, l3, l4, l5, l6, l15, l16, l24, l30, l99, l100, l200, l385, lm1, ix_ne, ne_ix, ix_nat, vp_ix, ix_inj, ix_le, ix_lt, ix_add, ix_mul, ix_sub, nar0', nar1', or00, or01, or10, or11, rI, rIA, rIL, rA, rAI, rAL, rL, rLI, rLA, ru, ruL, reduceIte, Nat.reduceEqDiff, true_or, or_true, true_and, and_true, false_or, or_false, not_true_eq_false, not_false_eq_true, false_implies, true_implies, implies_true, i10, i01]
  exact h
theorem s_O_narrow_22 {z : Sta} {K : Int32 → Sta → Prop} {c : Nat} {al : Int64} (hc : c < 16) (h : ∀ w, isb w (¬ z.2.2 6 c &&& al = z.2.2 6 c) → K w (zL z 6 (vp_updL (z.2.2 6) c (z.2.2 6 c &&& al)))) : wp_O_narrow_22 (ix c) al z K := by
  simp (disch := omega) only [wp_O_narrow_22, pj_O_narrow_22_33, forall_eq, l0, l1, l2, l3, l4, l5, l6, l15, l16, l24, l30, l99, l100, l200, l385, lm1, ix_ne, ne_ix, ix_nat, vp_ix, ix_inj, ix_le, ix_lt, ix_add, ix_mul, ix_sub, nar0', nar1', or00, or01, or10, or11, rI, rIA, rIL, rA, rAI, rAL, rL, rLI, rLA, ru, ruL, reduceIte, Nat.reduceEqDiff, true_or, or_true, true_and, and_true, false_or, or_false, not_true_eq_false, not_false_eq_true, false_implies, true_implies, implies_true, i10, i01]
  refine ⟨by omega, by omega, by omega, fun h0 => h _ (Or.inr ⟨rfl, fun hh => hh (cmp0.1 h0)⟩), fun h0 => h _ (Or.inl ⟨rfl, fun hh => h0 (cmp0.2 hh)⟩)⟩
theorem s_O_narrow_24 {z : Sta} {K : Int32 → Sta → Prop} {c : Nat} {al : Int64} (hc : c < 16) (h : ∀ w, isb w (¬ z.2.2 8 c &&& al = z.2.2 8 c) → K w (zL z 8 (vp_updL (z.2.2 8) c (z.2.2 8 c &&& al)))) : wp_O_narrow_24 (ix c) al z K := by
  simp (disch := omega) only [wp_O_narrow_24, pj_O_narrow_24_33, forall_eq, l0, l1, l2, l3, l4, l5, l6, l15, l16, l24, l30, l99, l100, l200, l385, lm1, ix_ne, ne_ix, ix_nat, vp_ix, ix_inj, ix_le, ix_lt, ix_add, ix_mul, ix_sub, nar0', nar1', or00, or01, or10, or11, rI, rIA, rIL, rA, rAI, rAL, rL, rLI, rLA, ru, ruL, reduceIte, Nat.reduceEqDiff, true_or, or_true, true_and, and_true, false_or, or_false, not_true_eq_false, not_false_eq_true, false_implies, true_implies, implies_true, i10, i01]
  refine ⟨by omega, by omega, by omega, fun h0 => h _ (Or.inr ⟨rfl, fun hh => hh (cmp0.1 h0)⟩), fun h0 => h _ (Or.inl ⟨rfl, fun hh => h0 (cmp0.2 hh)⟩)⟩
theorem and_sub {a b : Int64} (h : a &&& b = a) (e : Nat) (he : hb a e = true) : hb b e = true := by
  rw [← h, hb_and, Bool.and_eq_true] at he; exact he.2
def PFt (n : Nat) (E : Nat → Nat → Prop) (Rc : Nat → Prop) (st L C : Nat → Nat → Prop) (e : Nat) (X : Nat → Prop) : Prop := ∀ b, X b → b < 16 ∧ b ≠ 0 ∧ st b e ∧ ∀ a, a < n → Rc a → E a b → (L a e ∨ (X a ∧ ¬ C a e))
theorem s_O_flowThere {n : Nat} {E : Nat → Nat → Prop} {Rc : Nat → Prop} {z : Sta} {K : Sta → Prop} (hn : n ≤ 16) (hn0 : 0 < n) (hN : z.1 2 = ix n)
    (hf : ∀ a, a < n → okS n (z.2.1 5 a) ∧ okS n (z.2.1 6 a)) (hfE : ∀ a c, a < n → c < n → (E a c ↔ z.2.1 5 a = ix c ∨ z.2.1 6 a = ix c))
    (hr : ∀ b, b < 16 → isb (z.2.1 10 b) (Rc b)) (hst : ∀ b e, b < 16 → hb (z.2.2 4 b) e = true → e < 24)
    (hK : ∀ y, fr [] [] [4, 5] z y →
      (∀ e X b, e < 24 → PFt n E Rc (fun b e => hb (z.2.2 4 b) e = true) (fun b e => hb (z.2.2 3 b) e = true) (fun b e => hb (z.2.2 1 b) e = true) e X → X b → hb (y.2.2 4 b) e = true) →
      (∀ b e, b < 16 → hb (y.2.2 4 b) e = true → hb (z.2.2 4 b) e = true) → (∀ e, hb (y.2.2 4 0) e = false) →
      (∀ a, a < n → Rc a → y.2.2 5 a = z.2.2 3 a ||| (y.2.2 4 a &&& (z.2.2 1 a ^^^ (-1)))) →
      (∀ a c, a < n → Rc a → c < n → E a c → ∀ e, hb (y.2.2 4 c) e = true → hb (y.2.2 5 a) e = true) →
      (∀ a, a < n → ¬ Rc a → y.2.2 5 a = z.2.2 5 a) → K y) : wp_O_flowThere z K := by
  let PF := PFt n E Rc (fun b e => hb (z.2.2 4 b) e = true) (fun b e => hb (z.2.2 3 b) e = true) (fun b e => hb (z.2.2 1 b) e = true)
  let TH : (Nat → Int64) → Nat → Int64 := fun v a => z.2.2 3 a ||| (v a &&& (z.2.2 1 a ^^^ (-1)))
  let Q : Nat → Sta → Prop := fun i y => ∀ a, a < i → Rc a → y.2.2 5 a = TH (y.2.2 4) a ∧ ∀ c, c < n → E a c → ∀ e, hb (y.2.2 4 c) e = true → hb (TH (y.2.2 4) a) e = true
  let I : Sta → Prop := fun y => fr [] [] [4, 5] z y ∧ (∀ e, hb (y.2.2 4 0) e = false) ∧ (∀ b e, b < 16 → hb (y.2.2 4 b) e = true → hb (z.2.2 4 b) e = true) ∧ (∀ a, a < n → ¬ Rc a → y.2.2 5 a = z.2.2 5 a)
  have inner : ∀ (v0 : Nat → Int64) (R : Int32 → Int32 → Sta → Prop) (x2 : Int32) (k i : Nat) (ch : Prop) (x1 : Int32) (y : Sta), i + k = n → I y → isb x1 ch → FJ PF v0 (Q i y) ch (y.2.2 4) →
      (∀ (ch : Prop) (x1 : Int32) (y : Sta), I y → isb x1 ch → FJ PF v0 (Q n y) ch (y.2.2 4) → R x1 (x2 + ix 1) y) →
      lp_O_flowThere_26 K R (k + 1) x1 x2 (ix i) y := by
    intro v0 R x2 k
    induction k with
    | zero =>
      intro i ch x1 y hik hI hx hJ hR
      have hN' : y.1 2 = ix n := (hI.1.1 2 (by decide)).trans hN
      rw [lp_O_flowThere_26]
      simp (disch := omega) only [hN', forall_eq, l0, l1, l2, l3, l4, l5, l6, l15, l16, l24, l30, l99, l100, l200, l385, lm1, ix_ne, ne_ix, ix_nat, vp_ix, ix_inj, ix_le, ix_lt, ix_add, ix_mul, ix_sub, nar0', nar1', or00, or01, or10, or11, rI, rIA, rIL, rA, rAI, rAL, rL, rLI, rLA, ru, ruL, reduceIte, Nat.reduceEqDiff, true_or, or_true, true_and, and_true, false_or, or_false, not_true_eq_false, not_false_eq_true, false_implies, true_implies, implies_true, i10, i01]
      have : i = n := by omega
      subst this
      exact ⟨fun _ => hR ch x1 y hI hx hJ, fun h => absurd (by omega) h⟩
    | succ k ih =>
      intro i ch x1 y hik hI hx hJ hR
      obtain ⟨hfr, hz0, hsub, hun⟩ := hI
      have hN' : y.1 2 = ix n := (hfr.1 2 (by decide)).trans hN
      have h5 : y.2.1 5 = z.2.1 5 := hfr.2.1 5 (by decide)
      have h6 : y.2.1 6 = z.2.1 6 := hfr.2.1 6 (by decide)
      have h10 : y.2.1 10 = z.2.1 10 := hfr.2.1 10 (by decide)
      have l1' : y.2.2 1 = z.2.2 1 := hfr.2.2 1 (by decide)
      have l3' : y.2.2 3 = z.2.2 3 := hfr.2.2 3 (by decide)
      rw [lp_O_flowThere_26]
      simp (disch := omega) only [pj_O_flowThere_126, hN', h5, h10, l1', l3', forall_eq, l0, l1, l2, l3, l4, l5, l6, l15, l16, l24, l30, l99, l100, l200, l385, lm1, ix_ne, ne_ix, ix_nat, vp_ix, ix_inj, ix_le, ix_lt, ix_add, ix_mul, ix_sub, nar0', nar1', or00, or01, or10, or11, rI, rIA, rIL, rA, rAI, rAL, rL, rLI, rLA, ru, ruL, reduceIte, Nat.reduceEqDiff, true_or, or_true, true_and, and_true, false_or, or_false, not_true_eq_false, not_false_eq_true, false_implies, true_implies, implies_true, i10, i01]
      refine ⟨fun h => absurd h (by omega), fun _ => ⟨by omega, fun h0 => ?_, fun h0 => ⟨by omega, by omega, by omega, by omega, by omega, by omega, ?_⟩⟩⟩
      · refine ih (i + 1) ch x1 y (by omega) ⟨hfr, hz0, hsub, hun⟩ hx (FJ_mono hJ fun _ hq a ha hra => ?_) hR
        rcases Nat.lt_or_ge a i with e | e
        · exact hq a e hra
        · have : a = i := by omega
          subst this; exact absurd hra ((isb_z (hr a (by omega))).1 h0)
      · have hri : Rc i := Classical.byContradiction fun hh => h0 ((isb_z (hr i (by omega))).2 hh)
        have step : ∀ (s : Int32) (ch : Prop) (x1 : Int32) (y1 : Sta) (D : Nat → Prop) (K2 : Int32 → Sta → Prop), okS n s → (∀ c, c < n → s = ix c → E i c) → I y1 → isb x1 ch →
            (∃ va : Int64, y1.2.2 5 i = z.2.2 3 i ||| (va &&& (z.2.2 1 i ^^^ (-1))) ∧ (∀ e X, e < 24 → PF e X → X i → hb va e = true) ∧ (¬ ch → va = y1.2.2 4 i)) →
            FJ PF v0 (Q i y1 ∧ ∀ c, c < n → D c → y1.2.2 4 c &&& y1.2.2 5 i = y1.2.2 4 c) ch (y1.2.2 4) →
            (∀ (ch : Prop) (w : Int32) (y2 : Sta), I y2 → isb (x1 ||| w) ch → (∃ va : Int64, y2.2.2 5 i = z.2.2 3 i ||| (va &&& (z.2.2 1 i ^^^ (-1))) ∧ (∀ e X, e < 24 → PF e X → X i → hb va e = true) ∧ (¬ ch → va = y2.2.2 4 i)) →
              FJ PF v0 (Q i y2 ∧ ∀ c, c < n → (D c ∨ s = ix c) → y2.2.2 4 c &&& y2.2.2 5 i = y2.2.2 4 c) ch (y2.2.2 4) → K2 w y2) → wp_O_narrow_20 s (y1.2.2 5 i) y1 K2 := by
          intro s ch x1 y1 D K2 hs hsE hI1 hx1 hva hJ1 hK2
          rcases hs with rfl | ⟨c, hc, rfl⟩
          · refine s_O_narrow_20m (hK2 ch _ y1 hI1 ?_ hva (FJ_mono hJ1 fun _ hq => ⟨hq.1, fun c hc hD => ?_⟩))
            · rcases hx1 with ⟨e, hc⟩ | ⟨e, hc⟩
              · rw [e, or10]; exact Or.inl ⟨rfl, hc⟩
              · rw [e, or00]; exact Or.inr ⟨rfl, hc⟩
            · rcases hD with hD | hD
              · exact hq.2 c hc hD
              · exact absurd hD (ne_ix (by omega))
          · obtain ⟨va, hva1, hva2, hva3⟩ := hva
            have hal : ∀ e X, e < 24 → PF e X → X c → hb (y1.2.2 5 i) e = true := by
              intro e X he hP hX
              rw [hva1, hb_or, hb_andn, Bool.or_eq_true, Bool.and_eq_true]
              rcases (hP c hX).2.2.2 i (by omega) hri (hsE c hc rfl) with h | ⟨h1, h2⟩
              · exact Or.inl h
              · refine Or.inr ⟨hva2 e X he hP h1, ?_⟩
                rw [Bool.not_eq_true']; exact Bool.eq_false_iff.2 h2
            refine s_O_narrow_20 (by omega) (fun w hw => ?_)
            obtain ⟨ch', hx', hcc, hJ'⟩ := FJ_step hJ1 (by omega) hal hw hx1
            have h4eq : ¬ ch' → vp_updL (y1.2.2 4) c (y1.2.2 4 c &&& y1.2.2 5 i) = y1.2.2 4 := by
              intro hh
              exact updL_self ((hJ'.2.2.2.1 hh).2.2)
            refine hK2 ch' w _ ⟨fr_L hI1.1 (by decide) _, fun e => ?_, fun b e hb1 hh => ?_, fun a ha hh => ?_⟩ hx' ⟨va, ?_, hva2, fun hh => ?_⟩ ?_
            · simp (disch := omega) only [forall_eq, l0, l1, l2, l3, l4, l5, l6, l15, l16, l24, l30, l99, l100, l200, l385, lm1, ix_ne, ne_ix, ix_nat, vp_ix, ix_inj, ix_le, ix_lt, ix_add, ix_mul, ix_sub, nar0', nar1', or00, or01, or10, or11, rI, rIA, rIL, rA, rAI, rAL, rL, rLI, rLA, ru, ruL, reduceIte, Nat.reduceEqDiff, true_or, or_true, true_and, and_true, false_or, or_false, not_true_eq_false, not_false_eq_true, false_implies, true_implies, implies_true, i10, i01]
              split
              · next e0 => rw [hb_and, ← e0, hI1.2.1 e]; rfl
              · exact hI1.2.1 e
            · revert hh
              simp (disch := omega) only [forall_eq, l0, l1, l2, l3, l4, l5, l6, l15, l16, l24, l30, l99, l100, l200, l385, lm1, ix_ne, ne_ix, ix_nat, vp_ix, ix_inj, ix_le, ix_lt, ix_add, ix_mul, ix_sub, nar0', nar1', or00, or01, or10, or11, rI, rIA, rIL, rA, rAI, rAL, rL, rLI, rLA, ru, ruL, reduceIte, Nat.reduceEqDiff, true_or, or_true, true_and, and_true, false_or, or_false, not_true_eq_false, not_false_eq_true, false_implies, true_implies, implies_true, i10, i01]
              split
              · next e0 => intro hh; rw [hb_and, Bool.and_eq_true] at hh; rw [e0]; exact hI1.2.2.1 c e (by omega) hh.1
              · exact hI1.2.2.1 b e hb1
            · simp (disch := omega) only [forall_eq, l0, l1, l2, l3, l4, l5, l6, l15, l16, l24, l30, l99, l100, l200, l385, lm1, ix_ne, ne_ix, ix_nat, vp_ix, ix_inj, ix_le, ix_lt, ix_add, ix_mul, ix_sub, nar0', nar1', or00, or01, or10, or11, rI, rIA, rIL, rA, rAI, rAL, rL, rLI, rLA, ru, ruL, reduceIte, Nat.reduceEqDiff, true_or, or_true, true_and, and_true, false_or, or_false, not_true_eq_false, not_false_eq_true, false_implies, true_implies, implies_true, i10, i01]
              exact hI1.2.2.2 a ha hh
            · simp (disch := omega) only [forall_eq, l0, l1, l2, l3, l4, l5, l6, l15, l16, l24, l30, l99, l100, l200, l385, lm1, ix_ne, ne_ix, ix_nat, vp_ix, ix_inj, ix_le, ix_lt, ix_add, ix_mul, ix_sub, nar0', nar1', or00, or01, or10, or11, rI, rIA, rIL, rA, rAI, rAL, rL, rLI, rLA, ru, ruL, reduceIte, Nat.reduceEqDiff, true_or, or_true, true_and, and_true, false_or, or_false, not_true_eq_false, not_false_eq_true, false_implies, true_implies, implies_true, i10, i01]
              exact hva1
            · show va = vp_updL (y1.2.2 4) c (y1.2.2 4 c &&& y1.2.2 5 i) i
              rw [h4eq hh]; exact hva3 (hcc hh)
            · show FJ PF v0 _ ch' (vp_updL (y1.2.2 4) c (y1.2.2 4 c &&& y1.2.2 5 i))
              refine FJ_mono hJ' fun hh hq => ?_
              obtain ⟨⟨hq1, hq2⟩, hq3⟩ := hq
              refine ⟨fun a ha hra => ?_, fun c2 hc2 hD => ?_⟩
              · show y1.2.2 5 a = TH (vp_updL (y1.2.2 4) c (y1.2.2 4 c &&& y1.2.2 5 i)) a ∧ ∀ c3, c3 < n → E a c3 → ∀ e, hb (vp_updL (y1.2.2 4) c (y1.2.2 4 c &&& y1.2.2 5 i) c3) e = true → hb (TH (vp_updL (y1.2.2 4) c (y1.2.2 4 c &&& y1.2.2 5 i)) a) e = true
                rw [h4eq hh]; exact hq1 a ha hra
              · show vp_updL (y1.2.2 4) c (y1.2.2 4 c &&& y1.2.2 5 i) c2 &&& y1.2.2 5 i = vp_updL (y1.2.2 4) c (y1.2.2 4 c &&& y1.2.2 5 i) c2
                rw [h4eq hh]
                rcases hD with hD | hD
                · exact hq2 c2 hc2 hD
                · rw [ix_inj (by omega) (by omega)] at hD; subst hD; exact hq3
        have hI1 : I (zL y 5 (vp_updL (y.2.2 5) i (z.2.2 3 i ||| (y.2.2 4 i &&& (z.2.2 1 i ^^^ (-1)))))) := by
          refine ⟨fr_L hfr (by decide) _, fun e => ?_, fun b e hb1 hh => ?_, fun a ha hh => ?_⟩
          · simp (disch := omega) only [forall_eq, l0, l1, l2, l3, l4, l5, l6, l15, l16, l24, l30, l99, l100, l200, l385, lm1, ix_ne, ne_ix, ix_nat, vp_ix, ix_inj, ix_le, ix_lt, ix_add, ix_mul, ix_sub, nar0', nar1', or00, or01, or10, or11, rI, rIA, rIL, rA, rAI, rAL, rL, rLI, rLA, ru, ruL, reduceIte, Nat.reduceEqDiff, true_or, or_true, true_and, and_true, false_or, or_false, not_true_eq_false, not_false_eq_true, false_implies, true_implies, implies_true, i10, i01]
            exact hz0 e
          · revert hh
            simp (disch := omega) only [forall_eq, l0, l1, l2, l3, l4, l5, l6, l15, l16, l24, l30, l99, l100, l200, l385, lm1, ix_ne, ne_ix, ix_nat, vp_ix, ix_inj, ix_le, ix_lt, ix_add, ix_mul, ix_sub, nar0', nar1', or00, or01, or10, or11, rI, rIA, rIL, rA, rAI, rAL, rL, rLI, rLA, ru, ruL, reduceIte, Nat.reduceEqDiff, true_or, or_true, true_and, and_true, false_or, or_false, not_true_eq_false, not_false_eq_true, false_implies, true_implies, implies_true, i10, i01]
            exact hsub b e hb1
          · have : a ≠ i := fun e => hh (e ▸ hri)
            simp (disch := omega) only [if_neg this, forall_eq, l0, l1, l2, l3, l4, l5, l6, l15, l16, l24, l30, l99, l100, l200, l385, lm1, ix_ne, ne_ix, ix_nat, vp_ix, ix_inj, ix_le, ix_lt, ix_add, ix_mul, ix_sub, nar0', nar1', or00, or01, or10, or11, rI, rIA, rIL, rA, rAI, rAL, rL, rLI, rLA, ru, ruL, reduceIte, Nat.reduceEqDiff, true_or, or_true, true_and, and_true, false_or, or_false, not_true_eq_false, not_false_eq_true, false_implies, true_implies, implies_true, i10, i01]
            exact hun a ha hh
        have hJ1 : FJ PF v0 (Q i (zL y 5 (vp_updL (y.2.2 5) i (z.2.2 3 i ||| (y.2.2 4 i &&& (z.2.2 1 i ^^^ (-1)))))) ∧ ∀ c, c < n → False → (zL y 5 (vp_updL (y.2.2 5) i (z.2.2 3 i ||| (y.2.2 4 i &&& (z.2.2 1 i ^^^ (-1)))))).2.2 4 c &&& (zL y 5 (vp_updL (y.2.2 5) i (z.2.2 3 i ||| (y.2.2 4 i &&& (z.2.2 1 i ^^^ (-1)))))).2.2 5 i = (zL y 5 (vp_updL (y.2.2 5) i (z.2.2 3 i ||| (y.2.2 4 i &&& (z.2.2 1 i ^^^ (-1)))))).2.2 4 c) ch ((zL y 5 (vp_updL (y.2.2 5) i (z.2.2 3 i ||| (y.2.2 4 i &&& (z.2.2 1 i ^^^ (-1)))))).2.2 4) := by
          refine FJ_mono (Q := Q i y) ?_ fun _ hq => ⟨fun a ha hra => ?_, fun _ _ h => h.elim⟩
          · simp (disch := omega) only [forall_eq, l0, l1, l2, l3, l4, l5, l6, l15, l16, l24, l30, l99, l100, l200, l385, lm1, ix_ne, ne_ix, ix_nat, vp_ix, ix_inj, ix_le, ix_lt, ix_add, ix_mul, ix_sub, nar0', nar1', or00, or01, or10, or11, rI, rIA, rIL, rA, rAI, rAL, rL, rLI, rLA, ru, ruL, reduceIte, Nat.reduceEqDiff, true_or, or_true, true_and, and_true, false_or, or_false, not_true_eq_false, not_false_eq_true, false_implies, true_implies, implies_true, i10, i01]
            exact hJ
          · have : a ≠ i := by omega
            simp (disch := omega) only [if_neg this, forall_eq, l0, l1, l2, l3, l4, l5, l6, l15, l16, l24, l30, l99, l100, l200, l385, lm1, ix_ne, ne_ix, ix_nat, vp_ix, ix_inj, ix_le, ix_lt, ix_add, ix_mul, ix_sub, nar0', nar1', or00, or01, or10, or11, rI, rIA, rIL, rA, rAI, rAL, rL, rLI, rLA, ru, ruL, reduceIte, Nat.reduceEqDiff, true_or, or_true, true_and, and_true, false_or, or_false, not_true_eq_false, not_false_eq_true, false_implies, true_implies, implies_true, i10, i01]
            exact hq a ha hra
        have h5i : (zL y 5 (vp_updL (y.2.2 5) i (z.2.2 3 i ||| (y.2.2 4 i &&& (z.2.2 1 i ^^^ (-1)))))).2.2 5 i = z.2.2 3 i ||| (y.2.2 4 i &&& (z.2.2 1 i ^^^ (-1))) := by
          simp (disch := omega) only [forall_eq, l0, l1, l2, l3, l4, l5, l6, l15, l16, l24, l30, l99, l100, l200, l385, lm1, ix_ne, ne_ix, ix_nat, vp_ix, ix_inj, ix_le, ix_lt, ix_add, ix_mul, ix_sub, nar0', nar1', or00, or01, or10, or11, rI, rIA, rIL, rA, rAI, rAL, rL, rLI, rLA, ru, ruL, reduceIte, Nat.reduceEqDiff, true_or, or_true, true_and, and_true, false_or, or_false, not_true_eq_false, not_false_eq_true, false_implies, true_implies, implies_true, i10, i01]
        refine Eq.mp (congrArg (fun a => wp_O_narrow_20 _ a _ _) h5i) (step _ ch x1 _ (fun _ => False) _ (hf i (by omega)).1 (fun c hc e => (hfE i c (by omega) hc).2 (Or.inl e)) hI1 hx ⟨_, h5i, fun e X he hP hX => hJ.2.1 e X i he hP (by omega) hX, fun _ => rfl⟩ hJ1 (fun ch1 w1 y1 hI2 hx1 hva hJ2 => ?_))
        have h6' : y1.2.1 6 = z.2.1 6 := hI2.1.2.1 6 (by decide)
        rw [h6']
        refine ⟨by omega, by omega, ?_⟩
        refine step _ ch1 _ y1 _ _ (hf i (by omega)).2 (fun c hc e => (hfE i c (by omega) hc).2 (Or.inr e)) hI2 hx1 hva hJ2 (fun ch2 w2 y2 hI3 hx2 hva2 hJ3 => ?_)
        refine ih (i + 1) ch2 _ y2 (by omega) hI3 hx2 (FJ_mono hJ3 fun hh hq a ha hra => ?_) hR
        rcases Nat.lt_or_ge a i with e | e
        · exact hq.1 a e hra
        · have e2 : a = i := by omega
          subst e2
          obtain ⟨va, hva1, _, hva3⟩ := hva2
          have hTH : y2.2.2 5 a = TH (y2.2.2 4) a := by rw [hva1, hva3 hh]
          refine ⟨hTH, fun c hc he e hh2 => ?_⟩
          rw [← hTH]
          refine and_sub (hq.2 c hc ?_) e hh2
          rcases (hfE a c (by omega) hc).1 he with h | h
          · exact Or.inl (Or.inr h)
          · exact Or.inr h
  have fin : ∀ (ch : Prop) (y : Sta) (v0 : Nat → Int64), I y → FJ PF v0 (Q n y) ch (y.2.2 4) → ¬ ch → K y := by
    intro ch y v0 hI hJ hc
    have hq := (hJ.2.2.2.1 hc).2
    refine hK y hI.1 (fun e X b he hP hX => hJ.2.1 e X b he hP (hP b hX).1 hX) hI.2.2.1 hI.2.1 (fun a ha hra => (hq a ha hra).1) (fun a c ha hra hc he e hh => ?_) hI.2.2.2
    rw [(hq a ha hra).1]; exact (hq a ha hra).2 c hc he e hh
  have outer : ∀ (k i : Nat) (x1 : Int32) (ch : Prop) (y : Sta) (v0 : Nat → Int64), i + k = 385 → I y → isb x1 ch → FJ PF v0 (Q n y) ch (y.2.2 4) → (ch → mu (y.2.2 4) + i ≤ 384) → lp_O_flowThere_11 K (k + 1) x1 (ix i) y := by
    intro k
    induction k with
    | zero =>
      intro i x1 ch y v0 hik hI hx hJ hm
      rw [lp_O_flowThere_11]
      simp (disch := omega) only [pj_O_flowThere_138, forall_eq, l0, l1, l2, l3, l4, l5, l6, l15, l16, l24, l30, l99, l100, l200, l385, lm1, ix_ne, ne_ix, ix_nat, vp_ix, ix_inj, ix_le, ix_lt, ix_add, ix_mul, ix_sub, nar0', nar1', or00, or01, or10, or11, rI, rIA, rIL, rA, rAI, rAL, rL, rLI, rLA, ru, ruL, reduceIte, Nat.reduceEqDiff, true_or, or_true, true_and, and_true, false_or, or_false, not_true_eq_false, not_false_eq_true, false_implies, true_implies, implies_true, i10, i01]
      refine ⟨fun h0 => fin ch y v0 hI hJ ((isb_z hx).1 h0), fun h0 => ⟨fun _ => ?_, fun h => absurd (by omega) h⟩⟩
      have hc : ch := Classical.byContradiction fun h => h0 ((isb_z hx).2 h)
      have := hm hc; omega
    | succ k ih =>
      intro i x1 ch y v0 hik hI hx hJ hm
      rw [lp_O_flowThere_11]
      simp (disch := omega) only [pj_O_flowThere_138, forall_eq, l0, l1, l2, l3, l4, l5, l6, l15, l16, l24, l30, l99, l100, l200, l385, lm1, ix_ne, ne_ix, ix_nat, vp_ix, ix_inj, ix_le, ix_lt, ix_add, ix_mul, ix_sub, nar0', nar1', or00, or01, or10, or11, rI, rIA, rIL, rA, rAI, rAL, rL, rLI, rLA, ru, ruL, reduceIte, Nat.reduceEqDiff, true_or, or_true, true_and, and_true, false_or, or_false, not_true_eq_false, not_false_eq_true, false_implies, true_implies, implies_true, i10, i01]
      refine ⟨fun h0 => fin ch y v0 hI hJ ((isb_z hx).1 h0), fun h0 => ⟨fun h => absurd h (by omega), fun _ => ⟨n + 1, ?_⟩⟩⟩
      have hc : ch := Classical.byContradiction fun h => h0 ((isb_z hx).2 h)
      refine inner (y.2.2 4) _ _ n 0 False (ix 0) y (by omega) hI (Or.inr ⟨rfl, fun h => h⟩) (FJ_mono (FJ_start hJ) fun _ _ a ha => absurd ha (by omega)) (fun ch1 x1 y1 hI1 hx1 hJ1 => ?_)
      rw [ix_add]
      refine ih (i + 1) x1 ch1 y1 _ (by omega) hI1 hx1 hJ1 (fun h => ?_)
      have := FJ_mu hJ1 h; have := hm hc; omega
  simp (disch := omega) only [wp_O_flowThere, forall_eq, l0, l1, l2, l3, l4, l5, l6, l15, l16, l24, l30, l99, l100, l200, l385, lm1, ix_ne, ne_ix, ix_nat, vp_ix, ix_inj, ix_le, ix_lt, ix_add, ix_mul, ix_sub, nar0', nar1', or00, or01, or10, or11, rI, rIA, rIL, rA, rAI, rAL, rL, rLI, rLA, ru, ruL, reduceIte, Nat.reduceEqDiff, true_or, or_true, true_and, and_true, false_or, or_false, not_true_eq_false, not_false_eq_true, false_implies, true_implies, implies_true, i10, i01]
  refine ⟨by omega, 386, ?_⟩
  have hsub0 : ∀ b e, hb ((zL z 4 (vp_updL (z.2.2 4) 0 0)).2.2 4 b) e = true → hb (z.2.2 4 b) e = true := by
    intro b e
    show hb (vp_updL (z.2.2 4) 0 0 b) e = true → _
    rw [ruL]; split
    · rw [hb_0]; exact fun h => absurd h Bool.false_ne_true
    · exact id
  have h00 : ∀ e, hb ((zL z 4 (vp_updL (z.2.2 4) 0 0)).2.2 4 0) e = false := by
    intro e
    show hb (vp_updL (z.2.2 4) 0 0 0) e = false
    rw [ruL, if_pos rfl]; exact hb_0 e
  have hone : ∀ e, hb 1 e = true → e < 24 := by
    intro e h
    rcases Nat.lt_or_ge e 64 with he | he
    · have : ∀ e, e < 64 → hb 1 e = true → e < 24 := by decide +kernel
      exact this e he h
    · rw [hb_ge _ he] at h; exact absurd h Bool.false_ne_true
  refine outer 385 0 (ix 1) True _ (fun b => if b = 0 then 1 else (zL z 4 (vp_updL (z.2.2 4) 0 0)).2.2 4 b) (by omega) ⟨fr_L (fr_refl z) (by decide) _, h00, fun b e _ => hsub0 b e, fun a ha hh => ?_⟩ (Or.inl ⟨rfl, trivial⟩) ⟨fun b e hb1 hh => ?_, fun e X b he hP hb1 hX => ?_, fun b e hb1 hh => ?_, fun hh => absurd trivial hh, fun _ => ⟨0, 0, by omega, by omega, ?_, h00 0⟩⟩ (fun _ => Nat.le_trans (Nat.le_of_eq (Nat.add_zero _)) (mu_le _))
  · simp (disch := omega) only [forall_eq, l0, l1, l2, l3, l4, l5, l6, l15, l16, l24, l30, l99, l100, l200, l385, lm1, ix_ne, ne_ix, ix_nat, vp_ix, ix_inj, ix_le, ix_lt, ix_add, ix_mul, ix_sub, nar0', nar1', or00, or01, or10, or11, rI, rIA, rIL, rA, rAI, rAL, rL, rLI, rLA, ru, ruL, reduceIte, Nat.reduceEqDiff, true_or, or_true, true_and, and_true, false_or, or_false, not_true_eq_false, not_false_eq_true, false_implies, true_implies, implies_true, i10, i01]
  · dsimp only at hh; split at hh
    · exact hone e hh
    · exact hst b e hb1 (hsub0 b e hh)
  · show hb (vp_updL (z.2.2 4) 0 0 b) e = true
    obtain ⟨_, hb0, hs, _⟩ := hP b hX
    rw [ruL, if_neg hb0]; exact hs
  · dsimp only; split
    · next e0 => rw [e0, h00 e] at hh; exact absurd hh Bool.false_ne_true
    · exact hh
  · show hb (if 0 = 0 then 1 else _) 0 = true
    rw [if_pos rfl]; decide
def pm (k : Nat) : Int32 := if k = 0 then mi else ix (k - 1)
theorem pm_step {k : Nat} (hk : k < 2147483648) : ix k + mi = pm k := by
  simp only [pm]
  split
  · next h => rw [h]; decide
  · next h =>
    apply Int32.toInt_inj.1
    have e : ix k = ix (k - 1) + ix 1 := by rw [ix_add, show k - 1 + 1 = k by omega]
    rw [e, Int32.add_assoc, show ix 1 + mi = 0 by decide, Int32.add_zero]
theorem s_O_wantedByAll {n : Nat} {z : Sta} {K : Int64 → Sta → Prop} {s1 s2 : Int32} (hn : n ≤ 16) (h1 : okS n s1) (h2 : okS n s2) (h : K (if s1 = mi ∨ s2 = mi then 0 else z.2.2 6 s1.toNatClampNeg &&& z.2.2 6 s2.toNatClampNeg) z) : wp_O_wantedByAll s1 s2 z K := by
  rcases h1 with rfl | ⟨c, hc, rfl⟩
  · simp (disch := omega) only [wp_O_wantedByAll, pj_O_wantedByAll_10, forall_eq, l0, l1, l2, l3, l4, l5, l6, l15, l16, l24, l30, l99, l100, l200, l385, lm1, ix_ne, ne_ix, ix_nat, vp_ix, ix_inj, ix_le, ix_lt, ix_add, ix_mul, ix_sub, nar0', nar1', or00, or01, or10, or11, rI, rIA, rIL, rA, rAI, rAL, rL, rLI, rLA, ru, ruL, reduceIte, Nat.reduceEqDiff, true_or, or_true, true_and, and_true, false_or, or_false, not_true_eq_false, not_false_eq_true, false_implies, true_implies, implies_true, i10, i01]
    rw [if_pos (Or.inl rfl)] at h; exact h
  · rcases h2 with rfl | ⟨d, hd, rfl⟩
    · simp (disch := omega) only [wp_O_wantedByAll, pj_O_wantedByAll_10, forall_eq, l0, l1, l2, l3, l4, l5, l6, l15, l16, l24, l30, l99, l100, l200, l385, lm1, ix_ne, ne_ix, ix_nat, vp_ix, ix_inj, ix_le, ix_lt, ix_add, ix_mul, ix_sub, nar0', nar1', or00, or01, or10, or11, rI, rIA, rIL, rA, rAI, rAL, rL, rLI, rLA, ru, ruL, reduceIte, Nat.reduceEqDiff, true_or, or_true, true_and, and_true, false_or, or_false, not_true_eq_false, not_false_eq_true, false_implies, true_implies, implies_true, i10, i01]
      rw [if_pos (Or.inr rfl)] at h; exact h
    · rw [if_neg (fun hh => hh.elim (ix_ne (by omega)) (ix_ne (by omega))), ix_nat (by omega), ix_nat (by omega)] at h
      simp (disch := omega) only [wp_O_wantedByAll, pj_O_wantedByAll_10, forall_eq, l0, l1, l2, l3, l4, l5, l6, l15, l16, l24, l30, l99, l100, l200, l385, lm1, ix_ne, ne_ix, ix_nat, vp_ix, ix_inj, ix_le, ix_lt, ix_add, ix_mul, ix_sub, nar0', nar1', or00, or01, or10, or11, rI, rIA, rIL, rA, rAI, rAL, rL, rLI, rLA, ru, ruL, reduceIte, Nat.reduceEqDiff, true_or, or_true, true_and, and_true, false_or, or_false, not_true_eq_false, not_false_eq_true, false_implies, true_implies, implies_true, i10, i01]
      exact ⟨by omega, by omega, h⟩
def PFw (n : Nat) (E : Nat → Nat → Prop) (Rc : Nat → Prop) (st A C : Nat → Nat → Prop) (e : Nat) (X : Nat → Prop) : Prop := ∀ b, X b → b < 16 ∧ st b e ∧ (b < n → Rc b → (A b e ∨ (((∃ c, c < n ∧ E b c) ∧ ∀ c, c < n → E b c → X c) ∧ ¬ C b e)))
theorem s_O_flowWanted {n : Nat} {E : Nat → Nat → Prop} {Rc : Nat → Prop} {z : Sta} {K : Sta → Prop} (hn : n ≤ 16) (hn0 : 0 < n) (hN : z.1 2 = ix n)
    (hf : ∀ a, a < n → okS n (z.2.1 5 a) ∧ okS n (z.2.1 6 a)) (hb2 : ∀ a, a < n → (z.2.1 5 a = mi ↔ z.2.1 6 a = mi)) (hfE : ∀ a c, a < n → c < n → (E a c ↔ z.2.1 5 a = ix c ∨ z.2.1 6 a = ix c))
    (hr : ∀ b, b < 16 → isb (z.2.1 10 b) (Rc b)) (hst : ∀ b e, b < 16 → hb (z.2.2 6 b) e = true → e < 24)
    (hK : ∀ y, fr [] [] [6, 7] z y →
      (∀ e X b, e < 24 → PFw n E Rc (fun b e => hb (z.2.2 6 b) e = true) (fun b e => hb (z.2.2 2 b) e = true) (fun b e => hb (z.2.2 1 b) e = true) e X → X b → hb (y.2.2 6 b) e = true) →
      (∀ b e, b < 16 → hb (y.2.2 6 b) e = true → hb (z.2.2 6 b) e = true) →
      (∀ a e, a < n → Rc a → (hb (y.2.2 7 a) e = true ↔ (∃ c, c < n ∧ E a c) ∧ ∀ c, c < n → E a c → hb (y.2.2 6 c) e = true)) →
      (∀ a e, a < n → Rc a → hb (y.2.2 6 a) e = true → hb (z.2.2 2 a) e = true ∨ (hb (y.2.2 7 a) e = true ∧ ¬ hb (z.2.2 1 a) e = true)) →
      (∀ a, a < n → ¬ Rc a → y.2.2 7 a = z.2.2 7 a) → K y) : wp_O_flowWanted z K := by
  let PF := PFw n E Rc (fun b e => hb (z.2.2 6 b) e = true) (fun b e => hb (z.2.2 2 b) e = true) (fun b e => hb (z.2.2 1 b) e = true)
  let WB : (Nat → Int64) → Nat → Int64 := fun v a => if z.2.1 5 a = mi ∨ z.2.1 6 a = mi then 0 else v (z.2.1 5 a).toNatClampNeg &&& v (z.2.1 6 a).toNatClampNeg
  let AL : (Nat → Int64) → Nat → Int64 := fun v a => z.2.2 2 a ||| (WB v a &&& (z.2.2 1 a ^^^ (-1)))
  have hWB : ∀ (v : Nat → Int64) a e, a < n → (hb (WB v a) e = true ↔ (∃ c, c < n ∧ E a c) ∧ ∀ c, c < n → E a c → hb (v c) e = true) := by
    intro v a e ha
    show hb (if z.2.1 5 a = mi ∨ z.2.1 6 a = mi then 0 else v (z.2.1 5 a).toNatClampNeg &&& v (z.2.1 6 a).toNatClampNeg) e = true ↔ _
    rcases (hf a ha).1 with h1 | ⟨c, hc, h1⟩
    · rw [if_pos (Or.inl h1), hb_0]
      refine ⟨fun h => absurd h Bool.false_ne_true, fun h => ?_⟩
      obtain ⟨⟨c, hc, he⟩, _⟩ := h
      rcases (hfE a c ha hc).1 he with h | h
      · rw [h1] at h; exact absurd h (ne_ix (by omega))
      · rw [(hb2 a ha).1 h1] at h; exact absurd h (ne_ix (by omega))
    · rcases (hf a ha).2 with h2 | ⟨d, hd, h2⟩
      · rw [(hb2 a ha).2 h2] at h1; exact absurd h1 (ne_ix (by omega))
      · rw [h1, h2, if_neg (fun hh => hh.elim (ix_ne (by omega)) (ix_ne (by omega))), ix_nat (by omega), ix_nat (by omega), hb_and, Bool.and_eq_true]
        refine ⟨fun h => ⟨⟨c, hc, (hfE a c ha hc).2 (Or.inl h1)⟩, fun x hx he => ?_⟩, fun h => ⟨h.2 c hc ((hfE a c ha hc).2 (Or.inl h1)), h.2 d hd ((hfE a d ha hd).2 (Or.inr h2))⟩⟩
        rcases (hfE a x ha hx).1 he with e1 | e1
        · rw [h1, ix_inj (by omega) (by omega)] at e1; rw [← e1]; exact h.1
        · rw [h2, ix_inj (by omega) (by omega)] at e1; rw [← e1]; exact h.2
  let Q : Nat → Sta → Prop := fun i y => ∀ a, i ≤ a → a < n → Rc a → y.2.2 7 a = WB (y.2.2 6) a ∧ y.2.2 6 a &&& AL (y.2.2 6) a = y.2.2 6 a
  let I : Sta → Prop := fun y => fr [] [] [6, 7] z y ∧ (∀ b e, b < 16 → hb (y.2.2 6 b) e = true → hb (z.2.2 6 b) e = true) ∧ (∀ a, a < n → ¬ Rc a → y.2.2 7 a = z.2.2 7 a)
  have inner : ∀ (v0 : Nat → Int64) (R : Int32 → Int32 → Sta → Prop) (x2 : Int32) (k : Nat) (ch : Prop) (x1 : Int32) (y : Sta), k ≤ n → I y → isb x1 ch → FJ PF v0 (Q k y) ch (y.2.2 6) →
      (∀ (ch : Prop) (x1 : Int32) (y : Sta), I y → isb x1 ch → FJ PF v0 (Q 0 y) ch (y.2.2 6) → R x1 (x2 + ix 1) y) →
      lp_O_flowWanted_27 K R (k + 1) x1 x2 (pm k) y := by
    intro v0 R x2 k
    induction k with
    | zero =>
      intro ch x1 y hik hI hx hJ hR
      rw [lp_O_flowWanted_27]
      have hp : pm 0 = mi := rfl
      have hl : mi < ix 0 := by decide
      simp (disch := omega) only [hp, hl, forall_eq, l0, l1, l2, l3, l4, l5, l6, l15, l16, l24, l30, l99, l100, l200, l385, lm1, ix_ne, ne_ix, ix_nat, vp_ix, ix_inj, ix_le, ix_lt, ix_add, ix_mul, ix_sub, nar0', nar1', or00, or01, or10, or11, rI, rIA, rIL, rA, rAI, rAL, rL, rLI, rLA, ru, ruL, reduceIte, Nat.reduceEqDiff, true_or, or_true, true_and, and_true, false_or, or_false, not_true_eq_false, not_false_eq_true, false_implies, true_implies, implies_true, i10, i01]
      exact hR ch x1 y hI hx hJ
    | succ k ih =>
      intro ch x1 y hik hI hx hJ hR
      obtain ⟨hfr, hsub, hun⟩ := hI
      have h5 : y.2.1 5 = z.2.1 5 := hfr.2.1 5 (by decide)
      have h6 : y.2.1 6 = z.2.1 6 := hfr.2.1 6 (by decide)
      have h10 : y.2.1 10 = z.2.1 10 := hfr.2.1 10 (by decide)
      have l1' : y.2.2 1 = z.2.2 1 := hfr.2.2 1 (by decide)
      have l2' : y.2.2 2 = z.2.2 2 := hfr.2.2 2 (by decide)
      have hp : pm (k + 1) = ix k := rfl
      have hnext : ix k + mi = pm k := pm_step (by omega)
      rw [lp_O_flowWanted_27]
      simp (disch := omega) only [hp, pj_O_flowWanted_103, h5, h6, h10, hnext, forall_eq, l0, l1, l2, l3, l4, l5, l6, l15, l16, l24, l30, l99, l100, l200, l385, lm1, ix_ne, ne_ix, ix_nat, vp_ix, ix_inj, ix_le, ix_lt, ix_add, ix_mul, ix_sub, nar0', nar1', or00, or01, or10, or11, rI, rIA, rIL, rA, rAI, rAL, rL, rLI, rLA, ru, ruL, reduceIte, Nat.reduceEqDiff, true_or, or_true, true_and, and_true, false_or, or_false, not_true_eq_false, not_false_eq_true, false_implies, true_implies, implies_true, i10, i01]
      refine ⟨fun h => absurd h (by omega), fun _ => ⟨by omega, fun h0 => ?_, fun h0 => ⟨by omega, by omega, ?_⟩⟩⟩
      · refine ih ch x1 y (by omega) ⟨hfr, hsub, hun⟩ hx (FJ_mono hJ fun _ hq a ha han hra => ?_) hR
        rcases Nat.lt_or_ge k a with e | e
        · exact hq a e han hra
        · have : a = k := by omega
          subst this; exact absurd hra ((isb_z (hr a (by omega))).1 h0)
      · have hrk : Rc k := Classical.byContradiction fun hh => h0 ((isb_z (hr k (by omega))).2 hh)
        refine s_O_wantedByAll hn (hf k (by omega)).1 (hf k (by omega)).2 ?_
        have hwb : (if z.2.1 5 k = mi ∨ z.2.1 6 k = mi then 0 else y.2.2 6 (z.2.1 5 k).toNatClampNeg &&& y.2.2 6 (z.2.1 6 k).toNatClampNeg) = WB (y.2.2 6) k := rfl
        rw [hwb]
        simp (disch := omega) only [l1', l2', forall_eq, l0, l1, l2, l3, l4, l5, l6, l15, l16, l24, l30, l99, l100, l200, l385, lm1, ix_ne, ne_ix, ix_nat, vp_ix, ix_inj, ix_le, ix_lt, ix_add, ix_mul, ix_sub, nar0', nar1', or00, or01, or10, or11, rI, rIA, rIL, rA, rAI, rAL, rL, rLI, rLA, ru, ruL, reduceIte, Nat.reduceEqDiff, true_or, or_true, true_and, and_true, false_or, or_false, not_true_eq_false, not_false_eq_true, false_implies, true_implies, implies_true, i10, i01]
        refine ⟨by omega, by omega, by omega, by omega, s_O_narrow_22 (by omega) (fun w hw => ?_)⟩
        have hal : ∀ e X, e < 24 → PF e X → X k → hb (AL (y.2.2 6) k) e = true := by
          intro e X he hP hX
          show hb (z.2.2 2 k ||| (WB (y.2.2 6) k &&& (z.2.2 1 k ^^^ (-1)))) e = true
          rw [hb_or, hb_andn, Bool.or_eq_true, Bool.and_eq_true]
          rcases (hP k hX).2.2 (by omega) hrk with h | ⟨⟨h1, h2⟩, h3⟩
          · exact Or.inl h
          · refine Or.inr ⟨(hWB _ k e (by omega)).2 ⟨h1, fun c hc hE => hJ.2.1 e X c he hP (by omega) (h2 c hc hE)⟩, ?_⟩
            rw [Bool.not_eq_true']; exact Bool.eq_false_iff.2 h3
        have hw : isb w (¬ y.2.2 6 k &&& AL (y.2.2 6) k = y.2.2 6 k) := hw
        obtain ⟨ch', hx', hcc, hJ'⟩ := FJ_step hJ (by omega) hal hw hx
        have h4eq : ¬ ch' → vp_updL (y.2.2 6) k (y.2.2 6 k &&& AL (y.2.2 6) k) = y.2.2 6 := fun hh => updL_self ((hJ'.2.2.2.1 hh).2.2)
        refine ih ch' _ (zL (zL y 7 (vp_updL (y.2.2 7) k (WB (y.2.2 6) k))) 6 (vp_updL (y.2.2 6) k (y.2.2 6 k &&& AL (y.2.2 6) k))) (by omega) ⟨fr_L (fr_L hfr (by decide) _) (by decide) _, fun b e hb1 => ?_, fun a ha hh => ?_⟩ hx' ?_ hR
        · show hb (vp_updL (y.2.2 6) k (y.2.2 6 k &&& AL (y.2.2 6) k) b) e = true → _
          rw [ruL]; split
          · next e0 => intro hh; rw [hb_and, Bool.and_eq_true] at hh; rw [e0]; exact hsub k e (by omega) hh.1
          · exact hsub b e hb1
        · show vp_updL (y.2.2 7) k (WB (y.2.2 6) k) a = _
          rw [ruL, if_neg (fun e : a = k => hh (by rw [e]; exact hrk))]; exact hun a ha hh
        · show FJ PF v0 _ ch' (vp_updL (y.2.2 6) k (y.2.2 6 k &&& AL (y.2.2 6) k))
          refine FJ_mono hJ' fun hh hq a ha han hra => ?_
          show vp_updL (y.2.2 7) k (WB (y.2.2 6) k) a = WB (vp_updL (y.2.2 6) k (y.2.2 6 k &&& AL (y.2.2 6) k)) a ∧ vp_updL (y.2.2 6) k (y.2.2 6 k &&& AL (y.2.2 6) k) a &&& AL (vp_updL (y.2.2 6) k (y.2.2 6 k &&& AL (y.2.2 6) k)) a = vp_updL (y.2.2 6) k (y.2.2 6 k &&& AL (y.2.2 6) k) a
          rw [h4eq hh]
          rcases Nat.lt_or_ge k a with e | e
          · rw [ruL, if_neg (by omega)]; exact hq.1 a e han hra
          · have : a = k := by omega
            subst this
            rw [ruL, if_pos rfl]; exact ⟨rfl, hq.2⟩
  have fin : ∀ (y : Sta), I y → FJ PF (y.2.2 6) True False (y.2.2 6) → Q 0 y → K y := by
    intro y hI hJ hq
    refine hK y hI.1 (fun e X b he hP hX => hJ.2.1 e X b he hP (hP b hX).1 hX) hI.2.1 (fun a e ha hra => ?_) (fun a e ha hra hh => ?_) hI.2.2
    · rw [(hq a (by omega) ha hra).1]; exact hWB _ a e ha
    · have := and_sub (hq a (by omega) ha hra).2 e hh
      rw [(hq a (by omega) ha hra).1]
      have h2 : hb (z.2.2 2 a ||| (WB (y.2.2 6) a &&& (z.2.2 1 a ^^^ (-1)))) e = true := this
      rw [hb_or, hb_andn, Bool.or_eq_true, Bool.and_eq_true, Bool.not_eq_true'] at h2
      rcases h2 with h2 | h2
      · exact Or.inl h2
      · exact Or.inr ⟨h2.1, Bool.eq_false_iff.1 h2.2⟩
  have outer : ∀ (k i : Nat) (x1 : Int32) (ch : Prop) (y : Sta), i + k = 385 → I y → isb x1 ch → FJ PF (y.2.2 6) True False (y.2.2 6) → (¬ ch → Q 0 y) → (ch → mu (y.2.2 6) + i ≤ 384) → lp_O_flowWanted_4 K (k + 1) x1 (ix i) y := by
    intro k
    induction k with
    | zero =>
      intro i x1 ch y hik hI hx hJ hq hm
      rw [lp_O_flowWanted_4]
      simp (disch := omega) only [pj_O_flowWanted_115, forall_eq, l0, l1, l2, l3, l4, l5, l6, l15, l16, l24, l30, l99, l100, l200, l385, lm1, ix_ne, ne_ix, ix_nat, vp_ix, ix_inj, ix_le, ix_lt, ix_add, ix_mul, ix_sub, nar0', nar1', or00, or01, or10, or11, rI, rIA, rIL, rA, rAI, rAL, rL, rLI, rLA, ru, ruL, reduceIte, Nat.reduceEqDiff, true_or, or_true, true_and, and_true, false_or, or_false, not_true_eq_false, not_false_eq_true, false_implies, true_implies, implies_true, i10, i01]
      refine ⟨fun h0 => fin y hI hJ (hq ((isb_z hx).1 h0)), fun h0 => ⟨fun _ => ?_, fun h => absurd (by omega) h⟩⟩
      have hc : ch := Classical.byContradiction fun h => h0 ((isb_z hx).2 h)
      have := hm hc; omega
    | succ k ih =>
      intro i x1 ch y hik hI hx hJ hq hm
      have hN' : y.1 2 = ix n := (hI.1.1 2 (by decide)).trans hN
      rw [lp_O_flowWanted_4]
      simp (disch := omega) only [pj_O_flowWanted_115, hN', forall_eq, l0, l1, l2, l3, l4, l5, l6, l15, l16, l24, l30, l99, l100, l200, l385, lm1, ix_ne, ne_ix, ix_nat, vp_ix, ix_inj, ix_le, ix_lt, ix_add, ix_mul, ix_sub, nar0', nar1', or00, or01, or10, or11, rI, rIA, rIL, rA, rAI, rAL, rL, rLI, rLA, ru, ruL, reduceIte, Nat.reduceEqDiff, true_or, or_true, true_and, and_true, false_or, or_false, not_true_eq_false, not_false_eq_true, false_implies, true_implies, implies_true, i10, i01]
      refine ⟨fun h0 => fin y hI hJ (hq ((isb_z hx).1 h0)), fun h0 => ⟨fun h => absurd h (by omega), fun _ => ⟨n + 1, ?_⟩⟩⟩
      have hc : ch := Classical.byContradiction fun h => h0 ((isb_z hx).2 h)
      have hp : ix (n - 1) = pm n := by rw [pm, if_neg (by omega)]
      rw [hp]
      refine inner (y.2.2 6) _ _ n False (ix 0) y (by omega) hI (Or.inr ⟨rfl, fun h => h⟩) (FJ_mono hJ fun _ _ a ha han => absurd han (by omega)) (fun ch1 x1 y1 hI1 hx1 hJ1 => ?_)
      rw [ix_add]
      refine ih (i + 1) x1 ch1 y1 (by omega) hI1 hx1 (FJ_start hJ1) (fun hh => (hJ1.2.2.2.1 hh).2) (fun h => ?_)
      have := FJ_mu hJ1 h; have := hm hc; omega
  simp (disch := omega) only [wp_O_flowWanted, forall_eq, l0, l1, l2, l3, l4, l5, l6, l15, l16, l24, l30, l99, l100, l200, l385, lm1, ix_ne, ne_ix, ix_nat, vp_ix, ix_inj, ix_le, ix_lt, ix_add, ix_mul, ix_sub, nar0', nar1', or00, or01, or10, or11, rI, rIA, rIL, rA, rAI, rAL, rL, rLI, rLA, ru, ruL, reduceIte, Nat.reduceEqDiff, true_or, or_true, true_and, and_true, false_or, or_false, not_true_eq_false, not_false_eq_true, false_implies, true_implies, implies_true, i10, i01]
  refine ⟨386, outer 385 0 (ix 1) True z (by omega) ⟨fr_refl z, fun _ _ _ h => h, fun _ _ _ => rfl⟩ (Or.inl ⟨rfl, trivial⟩) ⟨hst, fun e X b he hP hb1 hX => (hP b hX).2.1, fun _ _ _ h => h, fun _ => ⟨fun _ _ => rfl, trivial⟩, fun h => h.elim⟩ (fun h => absurd trivial h) (fun _ => Nat.le_trans (Nat.le_of_eq (Nat.add_zero _)) (mu_le _))⟩
def EAb (z : Sta) (a b e : Nat) : Prop := hb (z.2.2 6 b) e = true ∧ ¬ hb (z.2.2 5 a) e = true ∧ (hb (z.2.2 1 a) e = true ∨ ¬ hb (z.2.2 7 a) e = true)
def LOv (z : Sta) (a b : Nat) : Int64 := ((z.2.2 6 b &&& (z.2.2 5 a ^^^ (-1))) &&& (z.2.2 1 a ||| (z.2.2 7 a ^^^ (-1)))) ||| (z.2.2 8 a &&& (z.2.2 2 a ^^^ (-1)))
theorem hb_LOv (z : Sta) (a b e : Nat) : hb (LOv z a b) e = true ↔ EAb z a b e ∨ (hb (z.2.2 8 a) e = true ∧ ¬ hb (z.2.2 2 a) e = true) := by
  rcases Nat.lt_or_ge e 64 with he | he
  · simp only [LOv, EAb, hb_or, hb_and, hb_not, he, decide_true, Bool.true_and, Bool.or_eq_true, Bool.and_eq_true, Bool.not_eq_true', Bool.not_eq_true, and_assoc]
  · simp [LOv, EAb, hb_ge _ he]
theorem s_O_laterOn {z : Sta} {K : Int64 → Sta → Prop} {a b : Nat} (ha : a < 16) (hb1 : b < 16) (h : K (LOv z a b) z) : wp_O_laterOn (ix a) (ix b) z K := by
  simp (disch := omega) only [wp_O_laterOn, forall_eq, l0, l1, l2, l3, l4, l5, l6, l15, l16, l24, l30, l99, l100, l200, l385, lm1, ix_ne, ne_ix, ix_nat, vp_ix, ix_inj, ix_le, ix_lt, ix_add, ix_mul, ix_sub, nar0', nar1', or00, or01, or10, or11, rI, rIA, rIL, rA, rAI, rAL, rL, rLI, rLA, ru, ruL, reduceIte, Nat.reduceEqDiff, true_or, or_true, true_and, and_true, false_or, or_false, not_true_eq_false, not_false_eq_true, false_implies, true_implies, implies_true, i10, i01]
  exact ⟨by omega, by omega, by omega, by omega, by omega, by omega, h⟩
theorem s_O_laterOnm {z : Sta} {K : Int64 → Sta → Prop} {b : Nat} (hb1 : b < 16) (h : K (z.2.2 6 b) z) : wp_O_laterOn mi (ix b) z K := by
  simp (disch := omega) only [wp_O_laterOn, forall_eq, l0, l1, l2, l3, l4, l5, l6, l15, l16, l24, l30, l99, l100, l200, l385, lm1, ix_ne, ne_ix, ix_nat, vp_ix, ix_inj, ix_le, ix_lt, ix_add, ix_mul, ix_sub, nar0', nar1', or00, or01, or10, or11, rI, rIA, rIL, rA, rAI, rAL, rL, rLI, rLA, ru, ruL, reduceIte, Nat.reduceEqDiff, true_or, or_true, true_and, and_true, false_or, or_false, not_true_eq_false, not_false_eq_true, false_implies, true_implies, implies_true, i10, i01]
  exact ⟨by omega, h⟩
theorem s_O_narrowLatem {z : Sta} {K : Int32 → Sta → Prop} {x : Int32} (h : K (ix 0) z) : wp_O_narrowLate x mi z K := by
  simp (disch := omega) only [wp_O_narrowLate, pj_O_narrowLate_26, pj_O_narrowLate_27, forall_eq, l0, l1, l2, l3, l4, l5, l6, l15, l16, l24, l30, l99, l100, l200, l385, lm1, ix_ne, ne_ix, ix_nat, vp_ix, ix_inj, ix_le, ix_lt, ix_add, ix_mul, ix_sub, nar0', nar1', or00, or01, or10, or11, rI, rIA, rIL, rA, rAI, rAL, rL, rLI, rLA, ru, ruL, reduceIte, Nat.reduceEqDiff, true_or, or_true, true_and, and_true, false_or, or_false, not_true_eq_false, not_false_eq_true, false_implies, true_implies, implies_true, i10, i01]
  exact h
theorem s_O_narrowLate {z : Sta} {K : Int32 → Sta → Prop} {a c : Nat} (ha : a < 16) (hc : c < 16) (h : ∀ w, isb w (¬ z.2.2 8 c &&& LOv z a c = z.2.2 8 c) → K w (zL z 8 (vp_updL (z.2.2 8) c (z.2.2 8 c &&& LOv z a c)))) : wp_O_narrowLate (ix a) (ix c) z K := by
  simp (disch := omega) only [wp_O_narrowLate, pj_O_narrowLate_26, pj_O_narrowLate_27, forall_eq, l0, l1, l2, l3, l4, l5, l6, l15, l16, l24, l30, l99, l100, l200, l385, lm1, ix_ne, ne_ix, ix_nat, vp_ix, ix_inj, ix_le, ix_lt, ix_add, ix_mul, ix_sub, nar0', nar1', or00, or01, or10, or11, rI, rIA, rIL, rA, rAI, rAL, rL, rLI, rLA, ru, ruL, reduceIte, Nat.reduceEqDiff, true_or, or_true, true_and, and_true, false_or, or_false, not_true_eq_false, not_false_eq_true, false_implies, true_implies, implies_true, i10, i01]
  refine s_O_laterOn ha hc (s_O_narrow_24 hc fun w hw => ⟨fun h0 => ?_, fun h0 => ?_⟩)
  · rw [← h0]; exact h w hw
  · have := (isb_b hw).resolve_left h0
    rw [← this]; exact h w hw
def PFl (n : Nat) (E : Nat → Nat → Prop) (Rc : Nat → Prop) (st A W : Nat → Nat → Prop) (EA : Nat → Nat → Nat → Prop) (e : Nat) (X : Nat → Prop) : Prop := ∀ b, X b → b < 16 ∧ st b e ∧ (b = 0 → W b e) ∧ ∀ a, a < n → Rc a → E a b → (EA a b e ∨ (X a ∧ ¬ A a e))
theorem s_O_flowLate {n : Nat} {E : Nat → Nat → Prop} {Rc : Nat → Prop} {z : Sta} {K : Sta → Prop} (hn : n ≤ 16) (hn0 : 0 < n) (hN : z.1 2 = ix n)
    (hf : ∀ a, a < n → okS n (z.2.1 5 a) ∧ okS n (z.2.1 6 a)) (hfE : ∀ a c, a < n → c < n → (E a c ↔ z.2.1 5 a = ix c ∨ z.2.1 6 a = ix c))
    (hr : ∀ b, b < 16 → isb (z.2.1 10 b) (Rc b)) (hst : ∀ b e, b < 16 → hb (z.2.2 8 b) e = true → e < 24) (hst6 : ∀ b e, b < 16 → hb (z.2.2 6 b) e = true → e < 24)
    (hK : ∀ y, fr [] [] [8] z y →
      (∀ e X b, e < 24 → PFl n E Rc (fun b e => hb (z.2.2 8 b) e = true) (fun b e => hb (z.2.2 2 b) e = true) (fun b e => hb (z.2.2 6 b) e = true) (EAb z) e X → X b → hb (y.2.2 8 b) e = true) →
      (∀ b e, b < 16 → b ≠ 0 → hb (y.2.2 8 b) e = true → hb (z.2.2 8 b) e = true) → (∀ e, hb (y.2.2 8 0) e = true → hb (z.2.2 6 0) e = true) →
      (∀ a c e, a < n → Rc a → c < n → E a c → hb (y.2.2 8 c) e = true → EAb z a c e ∨ (hb (y.2.2 8 a) e = true ∧ ¬ hb (z.2.2 2 a) e = true)) → K y) : wp_O_flowLate z K := by
  let PF := PFl n E Rc (fun b e => hb (z.2.2 8 b) e = true) (fun b e => hb (z.2.2 2 b) e = true) (fun b e => hb (z.2.2 6 b) e = true) (EAb z)
  let Q : Nat → Sta → Prop := fun i y => ∀ a, a < i → Rc a → ∀ c, c < n → E a c → y.2.2 8 c &&& LOv y a c = y.2.2 8 c
  let I : Sta → Prop := fun y => fr [] [] [8] z y ∧ (∀ b e, b < 16 → b ≠ 0 → hb (y.2.2 8 b) e = true → hb (z.2.2 8 b) e = true) ∧ (∀ e, hb (y.2.2 8 0) e = true → hb (z.2.2 6 0) e = true)
  have hEA : ∀ y, fr [] [] [8] z y → ∀ a b e, EAb y a b e ↔ EAb z a b e := by
    intro y hfr a b e
    simp only [EAb, hfr.2.2 6 (by decide), hfr.2.2 5 (by decide), hfr.2.2 1 (by decide), hfr.2.2 7 (by decide)]
  have inner : ∀ (v0 : Nat → Int64) (R : Int32 → Int32 → Sta → Prop) (x2 : Int32) (k i : Nat) (ch : Prop) (x1 : Int32) (y : Sta), i + k = n → I y → isb x1 ch → FJ PF v0 (Q i y) ch (y.2.2 8) →
      (∀ (ch : Prop) (x1 : Int32) (y : Sta), I y → isb x1 ch → FJ PF v0 (Q n y) ch (y.2.2 8) → R x1 (x2 + ix 1) y) →
      lp_O_flowLate_31 K R (k + 1) x1 x2 (ix i) y := by
    intro v0 R x2 k
    induction k with
    | zero =>
      intro i ch x1 y hik hI hx hJ hR
      have hN' : y.1 2 = ix n := (hI.1.1 2 (by decide)).trans hN
      rw [lp_O_flowLate_31]
      simp (disch := omega) only [hN', forall_eq, l0, l1, l2, l3, l4, l5, l6, l15, l16, l24, l30, l99, l100, l200, l385, lm1, ix_ne, ne_ix, ix_nat, vp_ix, ix_inj, ix_le, ix_lt, ix_add, ix_mul, ix_sub, nar0', nar1', or00, or01, or10, or11, rI, rIA, rIL, rA, rAI, rAL, rL, rLI, rLA, ru, ruL, reduceIte, Nat.reduceEqDiff, true_or, or_true, true_and, and_true, false_or, or_false, not_true_eq_false, not_false_eq_true, false_implies, true_implies, implies_true, i10, i01]
      have : i = n := by omega
      subst this
      exact ⟨fun _ => hR ch x1 y hI hx hJ, fun h => absurd (by omega) h⟩
    | succ k ih =>
      intro i ch x1 y hik hI hx hJ hR
      have hfr := hI.1
      have hN' : y.1 2 = ix n := (hfr.1 2 (by decide)).trans hN
      have h5 : y.2.1 5 = z.2.1 5 := hfr.2.1 5 (by decide)
      have h10 : y.2.1 10 = z.2.1 10 := hfr.2.1 10 (by decide)
      rw [lp_O_flowLate_31]
      simp (disch := omega) only [pj_O_flowLate_85, hN', h5, h10, forall_eq, l0, l1, l2, l3, l4, l5, l6, l15, l16, l24, l30, l99, l100, l200, l385, lm1, ix_ne, ne_ix, ix_nat, vp_ix, ix_inj, ix_le, ix_lt, ix_add, ix_mul, ix_sub, nar0', nar1', or00, or01, or10, or11, rI, rIA, rIL, rA, rAI, rAL, rL, rLI, rLA, ru, ruL, reduceIte, Nat.reduceEqDiff, true_or, or_true, true_and, and_true, false_or, or_false, not_true_eq_false, not_false_eq_true, false_implies, true_implies, implies_true, i10, i01]
      refine ⟨fun h => absurd h (by omega), fun _ => ⟨by omega, fun h0 => ?_, fun h0 => ⟨by omega, ?_⟩⟩⟩
      · refine ih (i + 1) ch x1 y (by omega) hI hx (FJ_mono hJ fun _ hq a ha hra => ?_) hR
        rcases Nat.lt_or_ge a i with e | e
        · exact hq a e hra
        · have : a = i := by omega
          subst this; exact absurd hra ((isb_z (hr a (by omega))).1 h0)
      · have hri : Rc i := Classical.byContradiction fun hh => h0 ((isb_z (hr i (by omega))).2 hh)
        have step : ∀ (s : Int32) (ch : Prop) (x1 : Int32) (y1 : Sta) (D : Nat → Prop) (K2 : Int32 → Sta → Prop), okS n s → (∀ c, c < n → s = ix c → E i c) → I y1 → isb x1 ch →
            FJ PF v0 (Q i y1 ∧ ∀ c, c < n → D c → y1.2.2 8 c &&& LOv y1 i c = y1.2.2 8 c) ch (y1.2.2 8) →
            (∀ (ch : Prop) (w : Int32) (y2 : Sta), I y2 → isb (x1 ||| w) ch →
              FJ PF v0 (Q i y2 ∧ ∀ c, c < n → (D c ∨ s = ix c) → y2.2.2 8 c &&& LOv y2 i c = y2.2.2 8 c) ch (y2.2.2 8) → K2 w y2) → wp_O_narrowLate (ix i) s y1 K2 := by
          intro s ch x1 y1 D K2 hs hsE hI1 hx1 hJ1 hK2
          rcases hs with rfl | ⟨c, hc, rfl⟩
          · refine s_O_narrowLatem (hK2 ch _ y1 hI1 ?_ (FJ_mono hJ1 fun _ hq => ⟨hq.1, fun c hc hD => ?_⟩))
            · rcases hx1 with ⟨e, hc⟩ | ⟨e, hc⟩
              · rw [e, or10]; exact Or.inl ⟨rfl, hc⟩
              · rw [e, or00]; exact Or.inr ⟨rfl, hc⟩
            · rcases hD with hD | hD
              · exact hq.2 c hc hD
              · exact absurd hD (ne_ix (by omega))
          · have hal : ∀ e X, e < 24 → PF e X → X c → hb (LOv y1 i c) e = true := by
              intro e X he hP hX
              rw [hb_LOv, hEA y1 hI1.1, hI1.1.2.2 2 (by decide)]
              rcases (hP c hX).2.2.2 i (by omega) hri (hsE c hc rfl) with h | ⟨h1, h2⟩
              · exact Or.inl h
              · exact Or.inr ⟨hJ1.2.1 e X i he hP (by omega) h1, h2⟩
            refine s_O_narrowLate (by omega) (by omega) (fun w hw => ?_)
            obtain ⟨ch', hx', hcc, hJ'⟩ := FJ_step hJ1 (by omega) hal hw hx1
            have hyeq : ¬ ch' → zL y1 8 (vp_updL (y1.2.2 8) c (y1.2.2 8 c &&& LOv y1 i c)) = y1 := by
              intro hh
              rw [updL_self ((hJ'.2.2.2.1 hh).2.2)]
              show (y1.1, y1.2.1, fun j => if j = 8 then y1.2.2 8 else y1.2.2 j) = y1
              have : (fun j => if j = 8 then y1.2.2 8 else y1.2.2 j) = y1.2.2 := by
                funext j; split
                · next e => rw [e]
                · rfl
              rw [this]
            refine hK2 ch' w _ ⟨fr_L hI1.1 (by decide) _, fun b e hb1 hb0 => ?_, fun e => ?_⟩ hx' ?_
            · show hb (vp_updL (y1.2.2 8) c (y1.2.2 8 c &&& LOv y1 i c) b) e = true → _
              rw [ruL]; split
              · next e0 => intro hh; rw [hb_and, Bool.and_eq_true] at hh; rw [e0]; exact hI1.2.1 c e (by omega) (by omega) hh.1
              · exact hI1.2.1 b e hb1 hb0
            · show hb (vp_updL (y1.2.2 8) c (y1.2.2 8 c &&& LOv y1 i c) 0) e = true → _
              rw [ruL]; split
              · next e0 => intro hh; rw [hb_and, Bool.and_eq_true] at hh; rw [← e0] at hh; exact hI1.2.2 e hh.1
              · exact hI1.2.2 e
            · show FJ PF v0 _ ch' (vp_updL (y1.2.2 8) c (y1.2.2 8 c &&& LOv y1 i c))
              refine FJ_mono hJ' fun hh hq => ?_
              rw [hyeq hh]
              refine ⟨hq.1.1, fun c2 hc2 hD => ?_⟩
              rcases hD with hD | hD
              · exact hq.1.2 c2 hc2 hD
              · rw [ix_inj (by omega) (by omega)] at hD; subst hD; exact hq.2
        refine step _ ch x1 _ (fun _ => False) _ (hf i (by omega)).1 (fun c hc e => (hfE i c (by omega) hc).2 (Or.inl e)) hI hx (FJ_mono hJ fun _ hq => ⟨hq, fun _ _ h => h.elim⟩) (fun ch1 w1 y1 hI2 hx1 hJ2 => ?_)
        have h6' : y1.2.1 6 = z.2.1 6 := hI2.1.2.1 6 (by decide)
        rw [h6']
        refine ⟨by omega, ?_⟩
        refine step _ ch1 _ y1 _ _ (hf i (by omega)).2 (fun c hc e => (hfE i c (by omega) hc).2 (Or.inr e)) hI2 hx1 hJ2 (fun ch2 w2 y2 hI3 hx2 hJ3 => ?_)
        refine ih (i + 1) ch2 _ y2 (by omega) hI3 hx2 (FJ_mono hJ3 fun hh hq a ha hra => ?_) hR
        rcases Nat.lt_or_ge a i with e | e
        · exact hq.1 a e hra
        · have e2 : a = i := by omega
          subst e2
          refine fun c hc he => hq.2 c hc ?_
          rcases (hfE a c (by omega) hc).1 he with h | h
          · exact Or.inl (Or.inr h)
          · exact Or.inr h
  have fin : ∀ (y : Sta), I y → FJ PF (y.2.2 8) True False (y.2.2 8) → Q n y → K y := by
    intro y hI hJ hq
    refine hK y hI.1 (fun e X b he hP hX => hJ.2.1 e X b he hP (hP b hX).1 hX) hI.2.1 hI.2.2 (fun a c e ha hra hc he hh => ?_)
    have := and_sub (hq a ha hra c hc he) e hh
    rw [hb_LOv, hEA y hI.1, hI.1.2.2 2 (by decide)] at this
    exact this
  have outer : ∀ (k i : Nat) (x1 : Int32) (ch : Prop) (y : Sta), i + k = 385 → I y → isb x1 ch → FJ PF (y.2.2 8) True False (y.2.2 8) → (¬ ch → Q n y) → (ch → mu (y.2.2 8) + i ≤ 384) → lp_O_flowLate_16 K (k + 1) x1 (ix i) y := by
    intro k
    induction k with
    | zero =>
      intro i x1 ch y hik hI hx hJ hq hm
      rw [lp_O_flowLate_16]
      simp (disch := omega) only [pj_O_flowLate_97, forall_eq, l0, l1, l2, l3, l4, l5, l6, l15, l16, l24, l30, l99, l100, l200, l385, lm1, ix_ne, ne_ix, ix_nat, vp_ix, ix_inj, ix_le, ix_lt, ix_add, ix_mul, ix_sub, nar0', nar1', or00, or01, or10, or11, rI, rIA, rIL, rA, rAI, rAL, rL, rLI, rLA, ru, ruL, reduceIte, Nat.reduceEqDiff, true_or, or_true, true_and, and_true, false_or, or_false, not_true_eq_false, not_false_eq_true, false_implies, true_implies, implies_true, i10, i01]
      refine ⟨fun h0 => fin y hI hJ (hq ((isb_z hx).1 h0)), fun h0 => ⟨fun _ => ?_, fun h => absurd (by omega) h⟩⟩
      have hc : ch := Classical.byContradiction fun h => h0 ((isb_z hx).2 h)
      have := hm hc; omega
    | succ k ih =>
      intro i x1 ch y hik hI hx hJ hq hm
      rw [lp_O_flowLate_16]
      simp (disch := omega) only [pj_O_flowLate_97, forall_eq, l0, l1, l2, l3, l4, l5, l6, l15, l16, l24, l30, l99, l100, l200, l385, lm1, ix_ne, ne_ix, ix_nat, vp_ix, ix_inj, ix_le, ix_lt, ix_add, ix_mul, ix_sub, nar0', nar1', or00, or01, or10, or11, rI, rIA, rIL, rA, rAI, rAL, rL, rLI, rLA, ru, ruL, reduceIte, Nat.reduceEqDiff, true_or, or_true, true_and, and_true, false_or, or_false, not_true_eq_false, not_false_eq_true, false_implies, true_implies, implies_true, i10, i01]
      refine ⟨fun h0 => fin y hI hJ (hq ((isb_z hx).1 h0)), fun h0 => ⟨fun h => absurd h (by omega), fun _ => ⟨n + 1, ?_⟩⟩⟩
      have hc : ch := Classical.byContradiction fun h => h0 ((isb_z hx).2 h)
      refine inner (y.2.2 8) _ _ n 0 False (ix 0) y (by omega) hI (Or.inr ⟨rfl, fun h => h⟩) (FJ_mono hJ fun _ _ a ha => absurd ha (by omega)) (fun ch1 x1 y1 hI1 hx1 hJ1 => ?_)
      rw [ix_add]
      refine ih (i + 1) x1 ch1 y1 (by omega) hI1 hx1 (FJ_start hJ1) (fun hh => (hJ1.2.2.2.1 hh).2) (fun h => ?_)
      have := FJ_mu hJ1 h; have := hm hc; omega
  have hpre : ∀ b, vp_updL (z.2.2 8) 0 (z.2.2 6 0) b = if b = 0 then z.2.2 6 0 else z.2.2 8 b := fun b => rfl
  simp (disch := omega) only [wp_O_flowLate, forall_eq, l0, l1, l2, l3, l4, l5, l6, l15, l16, l24, l30, l99, l100, l200, l385, lm1, ix_ne, ne_ix, ix_nat, vp_ix, ix_inj, ix_le, ix_lt, ix_add, ix_mul, ix_sub, nar0', nar1', or00, or01, or10, or11, rI, rIA, rIL, rA, rAI, rAL, rL, rLI, rLA, ru, ruL, reduceIte, Nat.reduceEqDiff, true_or, or_true, true_and, and_true, false_or, or_false, not_true_eq_false, not_false_eq_true, false_implies, true_implies, implies_true, i10, i01]
  refine s_O_laterOnm (by omega) ⟨by omega, 386, outer 385 0 (ix 1) True (zL z 8 (vp_updL (z.2.2 8) 0 (z.2.2 6 0))) (by omega) ⟨fr_L (fr_refl z) (by decide) _, fun b e hb1 hb0 => ?_, fun e => ?_⟩ (Or.inl ⟨rfl, trivial⟩) ⟨fun b e hb1 => ?_, fun e X b he hP hb1 hX => ?_, fun _ _ _ h => h, fun _ => ⟨fun _ _ => rfl, trivial⟩, fun h => h.elim⟩ (fun h => absurd trivial h) (fun _ => Nat.le_trans (Nat.le_of_eq (Nat.add_zero _)) (mu_le _))⟩
  · show hb (vp_updL (z.2.2 8) 0 (z.2.2 6 0) b) e = true → _
    rw [hpre, if_neg hb0]; exact id
  · show hb (vp_updL (z.2.2 8) 0 (z.2.2 6 0) 0) e = true → _
    rw [hpre, if_pos rfl]; exact id
  · show hb (vp_updL (z.2.2 8) 0 (z.2.2 6 0) b) e = true → _
    rw [hpre]; split
    · exact hst6 0 e (by omega)
    · exact hst b e hb1
  · show hb (vp_updL (z.2.2 8) 0 (z.2.2 6 0) b) e = true
    rw [hpre]; split
    · next e0 => have := (hP b hX).2.2.1 e0; rw [e0] at this; exact this
    · exact (hP b hX).2.1
