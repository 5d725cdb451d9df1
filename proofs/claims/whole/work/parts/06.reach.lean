def okS (n : Nat) (s : Int32) : Prop := s = mi ∨ ∃ c, c < n ∧ s = ix c
def Rch (E : Nat → Nat → Prop) (b : Nat) : Prop := ∀ S : Nat → Prop, S 0 → (∀ a c, S a → E a c → S c) → S b
theorem Rch_0 {E : Nat → Nat → Prop} : Rch E 0 := fun _ h _ => h
theorem Rch_s {E : Nat → Nat → Prop} {a c : Nat} (h : Rch E a) (e : E a c) : Rch E c := fun S h0 hs => hs a c (h S h0 hs) e
def J (n : Nat) (E : Nat → Nat → Prop) (r0 : Nat → Int32) (D : Nat → Nat → Prop) (ch : Prop) (r : Nat → Int32) : Prop :=
  (∀ b, b < 16 → r0 b = ix 0 ∨ r0 b = ix 1) ∧ (∀ b, b < 16 → r b = ix 0 ∨ r b = ix 1) ∧ r 0 = ix 1 ∧ (∀ b, b < 16 → r b = ix 1 → Rch E b) ∧ (∀ b, b < 16 → r0 b = ix 1 → r b = ix 1) ∧
  (¬ ch → (∀ b, b < 16 → r b = r0 b) ∧ ∀ a c, a < n → c < n → D a c → r a = ix 1 → r c = ix 1) ∧ (ch → ∃ b, b < 16 ∧ r0 b = ix 0 ∧ r b = ix 1)
theorem J_mono {n : Nat} {E : Nat → Nat → Prop} {r0 r : Nat → Int32} {D D' : Nat → Nat → Prop} {ch : Prop} (h : J n E r0 D ch r) (hD : ∀ a c, a < n → c < n → D' a c → r a = ix 1 → D a c) : J n E r0 D' ch r := by
  obtain ⟨h0, h1, h2, h3, h4, h5, h6⟩ := h
  exact ⟨h0, h1, h2, h3, h4, fun hc => ⟨(h5 hc).1, fun a c ha hcc hd hr => (h5 hc).2 a c ha hcc (hD a c ha hcc hd hr) hr⟩, h6⟩
theorem J_keep {n : Nat} {E : Nat → Nat → Prop} {r0 r : Nat → Int32} {D : Nat → Nat → Prop} {ch : Prop} (h : J n E r0 D ch r) {a : Nat} {s : Int32} (hs : s = mi ∨ ∃ c, c < n ∧ s = ix c ∧ r c = ix 1) (hn : n ≤ 16) : J n E r0 (fun x y => D x y ∨ (x = a ∧ s = ix y)) ch r := by
  obtain ⟨h0, h1, h2, h3, h4, h5, h6⟩ := h
  refine ⟨h0, h1, h2, h3, h4, fun hc => ⟨(h5 hc).1, fun x y hx hy hd hr => ?_⟩, h6⟩
  rcases hd with hd | ⟨rfl, hd⟩
  · exact (h5 hc).2 x y hx hy hd hr
  · rcases hs with hs | ⟨c, hc1, hs, hrc⟩
    · rw [hs] at hd; exact absurd hd (ne_ix (by omega))
    · rw [hs, ix_inj (by omega) (by omega)] at hd; rw [← hd]; exact hrc
theorem J_mark {n : Nat} {E : Nat → Nat → Prop} {r0 r : Nat → Int32} {D D' : Nat → Nat → Prop} {ch : Prop} (h : J n E r0 D ch r) {a c : Nat} (ha : a < 16) (hra : r a = ix 1) (hc : c < n) (hn : n ≤ 16) (he : E a c) (hrc : r c = ix 0) : J n E r0 D' True (upd r c (ix 1)) := by
  obtain ⟨h0, h1, h2, h3, h4, h5, h6⟩ := h
  refine ⟨h0, fun b hb => ?_, ?_, fun b hb hr => ?_, fun b hb hr => ?_, fun hc => absurd trivial hc, fun _ => ⟨c, by omega, ?_, ?_⟩⟩
  · rw [ru]; split
    · exact Or.inr rfl
    · exact h1 b hb
  · rw [ru]; split
    · rfl
    · exact h2
  · rw [ru] at hr; split at hr
    · next e => rw [e]; exact Rch_s (h3 a ha hra) he
    · exact h3 b hb hr
  · rw [ru]; split
    · rfl
    · exact h4 b hb hr
  · rcases h0 c (by omega) with e | e
    · exact e
    · exact absurd ((h4 c (by omega) e).symm.trans hrc) i10
  · rw [ru, if_pos rfl]
theorem J_start {n : Nat} {E : Nat → Nat → Prop} {r : Nat → Int32} {D : Nat → Nat → Prop} {ch : Prop} {r0 : Nat → Int32} (h : J n E r0 D ch r) : J n E r (fun _ _ => False) False r := by
  obtain ⟨h0, h1, h2, h3, h4, h5, h6⟩ := h
  exact ⟨h1, h1, h2, h3, fun _ _ h => h, fun _ => ⟨fun _ _ => rfl, fun _ _ _ _ h => h.elim⟩, fun h => h.elim⟩
def zer (r : Nat → Int32) : Nat := cnt (fun b => decide (r b = ix 0)) 16
theorem J_zer {n : Nat} {E : Nat → Nat → Prop} {r0 r : Nat → Int32} {D : Nat → Nat → Prop} {ch : Prop} (h : J n E r0 D ch r) : zer r ≤ zer r0 ∧ (ch → zer r < zer r0) := by
  obtain ⟨h0, h1, h2, h3, h4, h5, h6⟩ := h
  have mono : ∀ b, b < 16 → decide (r b = ix 0) = true → decide (r0 b = ix 0) = true := by
    intro b hb hr
    rcases h0 b hb with e | e
    · exact decide_eq_true e
    · have := h4 b hb e; rw [this] at hr; exact absurd (of_decide_eq_true hr) i10
  refine ⟨cnt_mono mono, fun hc => ?_⟩
  obtain ⟨b, hb, e0, e1⟩ := h6 hc
  exact cnt_lt mono hb (decide_eq_false (by rw [e1]; exact i10)) (decide_eq_true e0)
theorem J_end {E : Nat → Nat → Prop} {r : Nat → Int32} (h1 : ∀ b, b < 16 → r b = ix 0 ∨ r b = ix 1) (h2 : r 0 = ix 1) (h3 : ∀ b, b < 16 → r b = ix 1 → Rch E b) (hc : ∀ a c, E a c → r a = ix 1 → r c = ix 1) : ∀ b, b < 16 → isb (r b) (Rch E b) := by
  intro b hb
  rcases h1 b hb with e | e
  · refine Or.inr ⟨e, fun hR => ?_⟩
    have := hR (fun x => r x = ix 1) h2 (fun a c ha he => hc a c he ha)
    exact i10 (this.symm.trans e)
  · exact Or.inl ⟨e, h3 b hb e⟩
theorem s_O_reach {n : Nat} {z : Sta} {K : Int32 → Sta → Prop} {s : Int32} (hn : n ≤ 16) (hs : okS n s) (hb : ∀ b, b < 16 → z.2.1 10 b = ix 0 ∨ z.2.1 10 b = ix 1)
    (h1 : (s = mi ∨ ∃ c, c < n ∧ s = ix c ∧ z.2.1 10 c = ix 1) → K (ix 0) z)
    (h2 : ∀ c, c < n → s = ix c → z.2.1 10 c = ix 0 → K (ix 1) (zA z 10 (upd (z.2.1 10) c (ix 1)))) : wp_O_reach s z K := by
  rcases hs with rfl | ⟨c, hc, rfl⟩
  · simp (disch := omega) only [wp_O_reach, pj_O_reach_14, forall_eq, l0, l1, l2, l3, l4, l5, l6, l15, l16, l24, l30, l99, l100, l200, l385, lm1, ix_ne, ne_ix, ix_nat, vp_ix, ix_inj, ix_le, ix_lt, ix_add, ix_mul, ix_sub, nar0', nar1', or00, or01, or10, or11, rI, rIA, rIL, rA, rAI, rAL, rL, rLI, rLA, ru, ruL, reduceIte, Nat.reduceEqDiff, true_or, or_true, true_and, and_true, false_or, or_false, not_true_eq_false, not_false_eq_true, false_implies, true_implies, implies_true, i10, i01]
    exact h1 (Or.inl rfl)
  · simp (disch := omega) only [wp_O_reach, pj_O_reach_14, forall_eq, l0, l1, l2, l3, l4, l5, l6, l15, l16, l24, l30, l99, l100, l200, l385, lm1, ix_ne, ne_ix, ix_nat, vp_ix, ix_inj, ix_le, ix_lt, ix_add, ix_mul, ix_sub, nar0', nar1', or00, or01, or10, or11, rI, rIA, rIL, rA, rAI, rAL, rL, rLI, rLA, ru, ruL, reduceIte, Nat.reduceEqDiff, true_or, or_true, true_and, and_true, false_or, or_false, not_true_eq_false, not_false_eq_true, false_implies, true_implies, implies_true, i10, i01]
    refine ⟨by omega, fun h0 => ⟨by omega, h2 c hc rfl h0⟩, fun h0 => h1 (Or.inr ⟨c, hc, rfl, ?_⟩)⟩
    rcases hb c (by omega) with e | e
    · exact absurd e h0
    · exact e
theorem s_O_findReached {n : Nat} {E : Nat → Nat → Prop} {z : Sta} {K : Sta → Prop} (hn : n ≤ 16) (hn0 : 0 < n) (hN : z.1 2 = ix n) (hE : ∀ a c, E a c → a < n ∧ c < n)
    (hf : ∀ a, a < n → okS n (z.2.1 5 a) ∧ okS n (z.2.1 6 a)) (hfE : ∀ a c, a < n → c < n → (E a c ↔ z.2.1 5 a = ix c ∨ z.2.1 6 a = ix c))
    (hK : ∀ y, fr [] [10] [] z y → (∀ b, b < 16 → isb (y.2.1 10 b) (Rch E b)) → K y) : wp_O_findReached z K := by
  have inner : ∀ (r0 : Nat → Int32) (R : Int32 → Int32 → Sta → Prop) (x2 : Int32) (k i : Nat) (ch : Prop) (x1 : Int32) (y : Sta), i + k = n → fr [] [10] [] z y → isb x1 ch →
      J n E r0 (fun a c => a < i ∧ E a c) ch (y.2.1 10) →
      (∀ (ch : Prop) (x1 : Int32) (y : Sta), fr [] [10] [] z y → isb x1 ch → J n E r0 E ch (y.2.1 10) → R x1 (x2 + ix 1) y) →
      lp_O_findReached_47 K R (k + 1) x1 x2 (ix i) y := by
    intro r0 R x2 k
    induction k with
    | zero =>
      intro i ch x1 y hik hfr hx hJ hR
      have hN' : y.1 2 = ix n := (hfr.1 2 (by decide)).trans hN
      simp (disch := omega) only [lp_O_findReached_47, hN', forall_eq, l0, l1, l2, l3, l4, l5, l6, l15, l16, l24, l30, l99, l100, l200, l385, lm1, ix_ne, ne_ix, ix_nat, vp_ix, ix_inj, ix_le, ix_lt, ix_add, ix_mul, ix_sub, nar0', nar1', or00, or01, or10, or11, rI, rIA, rIL, rA, rAI, rAL, rL, rLI, rLA, ru, ruL, reduceIte, Nat.reduceEqDiff, true_or, or_true, true_and, and_true, false_or, or_false, not_true_eq_false, not_false_eq_true, false_implies, true_implies, implies_true, i10, i01]
      refine ⟨fun _ => hR ch x1 y hfr hx (J_mono hJ fun a c ha _ h _ => ⟨by omega, h⟩), fun h => absurd (by omega) h⟩
    | succ k ih =>
      intro i ch x1 y hik hfr hx hJ hR
      have hN' : y.1 2 = ix n := (hfr.1 2 (by decide)).trans hN
      have h5 : y.2.1 5 = z.2.1 5 := hfr.2.1 5 (by decide)
      have h6 : y.2.1 6 = z.2.1 6 := hfr.2.1 6 (by decide)
      have hb := hJ.2.1
      rw [lp_O_findReached_47]
      simp (disch := omega) only [pj_O_findReached_99, hN', h5, forall_eq, l0, l1, l2, l3, l4, l5, l6, l15, l16, l24, l30, l99, l100, l200, l385, lm1, ix_ne, ne_ix, ix_nat, vp_ix, ix_inj, ix_le, ix_lt, ix_add, ix_mul, ix_sub, nar0', nar1', or00, or01, or10, or11, rI, rIA, rIL, rA, rAI, rAL, rL, rLI, rLA, ru, ruL, reduceIte, Nat.reduceEqDiff, true_or, or_true, true_and, and_true, false_or, or_false, not_true_eq_false, not_false_eq_true, false_implies, true_implies, implies_true, i10, i01]
      refine ⟨fun h => absurd h (by omega), fun _ => ⟨by omega, fun h0 => ?_, fun h0 => ⟨by omega, ?_⟩⟩⟩
      · refine ih (i + 1) ch x1 y (by omega) hfr hx (J_mono hJ fun a c ha _ h hr => ⟨?_, h.2⟩) hR
        rcases Nat.lt_or_ge a i with e | e
        · exact e
        · have : a = i := by omega
          rw [this, h0] at hr; exact absurd hr i01
      · have hr : y.2.1 10 i = ix 1 := (hb i (by omega)).resolve_left h0
        have step : ∀ (s : Int32) (ch : Prop) (x1 : Int32) (y : Sta) (D : Nat → Nat → Prop) (K2 : Int32 → Sta → Prop), okS n s → (∀ c, c < n → s = ix c → E i c) → fr [] [10] [] z y → isb x1 ch → J n E r0 D ch (y.2.1 10) → y.2.1 10 i = ix 1 →
            (∀ (ch : Prop) (w : Int32) (y : Sta), fr [] [10] [] z y → isb (x1 ||| w) ch → J n E r0 (fun a c => D a c ∨ (a = i ∧ s = ix c)) ch (y.2.1 10) → y.2.1 10 i = ix 1 → K2 w y) → wp_O_reach s y K2 := by
          intro s ch x1 y D K2 hs hsE hfr hx hJ hr hK2
          refine s_O_reach hn hs hJ.2.1 (fun h => ?_) (fun c hc hsc hrc => ?_)
          · refine hK2 ch _ y hfr ?_ (J_keep hJ h hn) hr
            rcases hx with ⟨e, hc⟩ | ⟨e, hc⟩
            · rw [e, or10]; exact Or.inl ⟨rfl, hc⟩
            · rw [e, or00]; exact Or.inr ⟨rfl, hc⟩
          · refine hK2 True _ _ (fr_A hfr (by decide) _) ?_ ?_ ?_
            · rcases isb_b hx with e | e <;> rw [e]
              · rw [or01]; exact Or.inl ⟨rfl, trivial⟩
              · rw [or11]; exact Or.inl ⟨rfl, trivial⟩
            · rw [rA, if_pos rfl]; exact J_mark hJ (a := i) (by omega) hr hc hn (hsE c hc hsc) hrc
            · rw [rA, if_pos rfl, ru]; split
              · rfl
              · exact hr
        refine step _ ch x1 y _ _ (hf i (by omega)).1 (fun c hc e => (hfE i c (by omega) hc).2 (Or.inl e)) hfr hx hJ hr (fun ch1 w1 y1 hfr1 hx1 hJ1 hr1 => ?_)
        have h6' : y1.2.1 6 = z.2.1 6 := hfr1.2.1 6 (by decide)
        refine ⟨by omega, ?_⟩
        rw [h6']
        refine step _ ch1 _ y1 _ _ (hf i (by omega)).2 (fun c hc e => (hfE i c (by omega) hc).2 (Or.inr e)) hfr1 hx1 hJ1 hr1 (fun ch2 w2 y2 hfr2 hx2 hJ2 hr2 => ?_)
        refine ih (i + 1) ch2 _ y2 (by omega) hfr2 hx2 (J_mono hJ2 fun a c ha hc h _ => ?_) hR
        rcases Nat.lt_or_ge a i with e | e
        · exact Or.inl (Or.inl ⟨e, h.2⟩)
        · have e2 : a = i := by omega
          subst e2
          rcases (hfE a c ha hc).1 h.2 with e | e
          · exact Or.inl (Or.inr ⟨rfl, e⟩)
          · exact Or.inr ⟨rfl, e⟩
  have outer : ∀ (k i : Nat) (x1 : Int32) (ch : Prop) (y : Sta) (r0 : Nat → Int32), i + k = 16 → fr [] [10] [] z y → isb x1 ch → J n E r0 E ch (y.2.1 10) → (ch → zer (y.2.1 10) + i ≤ 15) → lp_O_findReached_33 K (k + 1) x1 (ix i) y := by
    intro k
    induction k with
    | zero =>
      intro i x1 ch y r0 hik hfr hx hJ hm
      rw [lp_O_findReached_33]
      simp (disch := omega) only [pj_O_findReached_111, forall_eq, l0, l1, l2, l3, l4, l5, l6, l15, l16, l24, l30, l99, l100, l200, l385, lm1, ix_ne, ne_ix, ix_nat, vp_ix, ix_inj, ix_le, ix_lt, ix_add, ix_mul, ix_sub, nar0', nar1', or00, or01, or10, or11, rI, rIA, rIL, rA, rAI, rAL, rL, rLI, rLA, ru, ruL, reduceIte, Nat.reduceEqDiff, true_or, or_true, true_and, and_true, false_or, or_false, not_true_eq_false, not_false_eq_true, false_implies, true_implies, implies_true, i10, i01]
      refine ⟨fun h0 => ?_, fun h0 => ⟨fun _ => ?_, fun h => absurd (by omega) h⟩⟩
      · have hc := (isb_z hx).1 h0
        exact hK y hfr (J_end hJ.2.1 hJ.2.2.1 hJ.2.2.2.1 (fun a c he hr => (hJ.2.2.2.2.2.1 hc).2 a c (hE a c he).1 (hE a c he).2 he hr))
      · have hc : ch := Classical.byContradiction fun h => h0 ((isb_z hx).2 h)
        have := hm hc; omega
    | succ k ih =>
      intro i x1 ch y r0 hik hfr hx hJ hm
      rw [lp_O_findReached_33]
      simp (disch := omega) only [pj_O_findReached_111, forall_eq, l0, l1, l2, l3, l4, l5, l6, l15, l16, l24, l30, l99, l100, l200, l385, lm1, ix_ne, ne_ix, ix_nat, vp_ix, ix_inj, ix_le, ix_lt, ix_add, ix_mul, ix_sub, nar0', nar1', or00, or01, or10, or11, rI, rIA, rIL, rA, rAI, rAL, rL, rLI, rLA, ru, ruL, reduceIte, Nat.reduceEqDiff, true_or, or_true, true_and, and_true, false_or, or_false, not_true_eq_false, not_false_eq_true, false_implies, true_implies, implies_true, i10, i01]
      refine ⟨fun h0 => ?_, fun h0 => ⟨fun h => absurd h (by omega), fun _ => ⟨n + 1, ?_⟩⟩⟩
      · have hc := (isb_z hx).1 h0
        exact hK y hfr (J_end hJ.2.1 hJ.2.2.1 hJ.2.2.2.1 (fun a c he hr => (hJ.2.2.2.2.2.1 hc).2 a c (hE a c he).1 (hE a c he).2 he hr))
      · have hc : ch := Classical.byContradiction fun h => h0 ((isb_z hx).2 h)
        refine inner (y.2.1 10) _ _ n 0 False (ix 0) y (by omega) hfr (Or.inr ⟨rfl, fun h => h⟩) (J_mono (J_start hJ) fun a c _ _ h _ => absurd h.1 (by omega)) (fun ch1 x1 y1 hfr1 hx1 hJ1 => ?_)
        rw [ix_add]
        refine ih (i + 1) x1 ch1 y1 _ (by omega) hfr1 hx1 hJ1 (fun h => ?_)
        have := (J_zer hJ1).2 h; have := hm hc; omega
  have init : ∀ (k i : Nat) (y : Sta), i + k = 16 → fr [] [10] [] z y → (∀ b, b < i → y.2.1 10 b = if b = 0 then ix 1 else ix 0) → lp_O_findReached_2 K (k + 1) (ix i) y := by
    intro k
    induction k with
    | zero =>
      intro i y hik hfr hb
      rw [lp_O_findReached_2]
      simp (disch := omega) only [forall_eq, l0, l1, l2, l3, l4, l5, l6, l15, l16, l24, l30, l99, l100, l200, l385, lm1, ix_ne, ne_ix, ix_nat, vp_ix, ix_inj, ix_le, ix_lt, ix_add, ix_mul, ix_sub, nar0', nar1', or00, or01, or10, or11, rI, rIA, rIL, rA, rAI, rAL, rL, rLI, rLA, ru, ruL, reduceIte, Nat.reduceEqDiff, true_or, or_true, true_and, and_true, false_or, or_false, not_true_eq_false, not_false_eq_true, false_implies, true_implies, implies_true, i10, i01]
      refine ⟨fun _ => ⟨17, ?_⟩, fun h => absurd (by omega) h⟩
      have hbb : ∀ b, b < 16 → y.2.1 10 b = ix 0 ∨ y.2.1 10 b = ix 1 := by
        intro b hb2; rw [hb b (by omega)]; split
        · exact Or.inr rfl
        · exact Or.inl rfl
      have h0 : y.2.1 10 0 = ix 1 := by rw [hb 0 (by omega)]; rfl
      have hz : zer (y.2.1 10) ≤ 15 := by
        have : zer (y.2.1 10) < cnt (fun _ => true) 16 := cnt_lt (fun _ _ _ => rfl) (k := 0) (by omega) (decide_eq_false (by rw [h0]; exact i10)) rfl
        have := cnt_le (fun _ => true) 16; omega
      refine outer 16 0 (ix 1) True y (fun b => if b = 0 then ix 0 else y.2.1 10 b) rfl hfr (Or.inl ⟨rfl, trivial⟩) ⟨?_, hbb, h0, ?_, ?_, fun h => absurd trivial h, fun _ => ⟨0, by omega, rfl, h0⟩⟩ (fun _ => by omega)
      · intro b hb2; dsimp only; split
        · exact Or.inl rfl
        · exact hbb b hb2
      · intro b hb2 hr; rw [hb b (by omega)] at hr; split at hr
        · next e => rw [e]; exact Rch_0
        · exact absurd hr i01
      · intro b hb2 hr; dsimp only at hr; split at hr
        · exact absurd hr i01
        · exact hr
    | succ k ih =>
      intro i y hik hfr hb
      rw [lp_O_findReached_2]
      simp (disch := omega) only [pj_O_findReached_22, forall_eq, l0, l1, l2, l3, l4, l5, l6, l15, l16, l24, l30, l99, l100, l200, l385, lm1, ix_ne, ne_ix, ix_nat, vp_ix, ix_inj, ix_le, ix_lt, ix_add, ix_mul, ix_sub, nar0', nar1', or00, or01, or10, or11, rI, rIA, rIL, rA, rAI, rAL, rL, rLI, rLA, ru, ruL, reduceIte, Nat.reduceEqDiff, true_or, or_true, true_and, and_true, false_or, or_false, not_true_eq_false, not_false_eq_true, false_implies, true_implies, implies_true, i10, i01]
      refine ⟨fun h => absurd h (by omega), fun _ => ⟨fun h => ⟨by omega, ?_⟩, fun h => ⟨by omega, ?_⟩⟩⟩
      · refine ih (i + 1) _ (by omega) (fr_A hfr (by decide) _) (fun b hb2 => ?_)
        rw [rA, if_pos rfl, ru]; split
        · next e => rw [e, if_neg h]
        · exact hb b (by omega)
      · refine ih (i + 1) _ (by omega) (fr_A hfr (by decide) _) (fun b hb2 => ?_)
        rw [rA, if_pos rfl, ru]; split
        · next e => rw [e, if_pos h]
        · exact hb b (by omega)
  exact ⟨17, init 16 0 z rfl (fr_refl z) (fun b h => absurd h (by omega))⟩
def nx (f : Nat → Int32) (a k : Nat) : Int32 := if k = 0 then (if f (4 * a) = ix 0 then mi else f (4 * a + 2)) else (if f (4 * a) = ix 2 ∧ ¬ f (4 * a + 3) = f (4 * a + 2) then f (4 * a + 3) else mi)
theorem s_M_next {z : Sta} {K : Int32 → Sta → Prop} {a k : Nat} (ha : a < 16) (hk : k < 2) (h : K (nx (z.2.1 17) a k) z) : wp_M_next (ix a) (ix k) z K := by
  simp only [nx] at h
  simp (disch := omega) only [wp_M_next, pj_M_next_73, pj_M_next_74, pj_M_next_31, forall_eq, l0, l1, l2, l3, l4, l5, l6, l15, l16, l24, l30, l99, l100, l200, l385, lm1, ix_ne, ne_ix, ix_nat, vp_ix, ix_inj, ix_le, ix_lt, ix_add, ix_mul, ix_sub, nar0', nar1', or00, or01, or10, or11, rI, rIA, rIL, rA, rAI, rAL, rL, rLI, rLA, ru, ruL, reduceIte, Nat.reduceEqDiff, true_or, or_true, true_and, and_true, false_or, or_false, not_true_eq_false, not_false_eq_true, false_implies, true_implies, implies_true, i10, i01]
  refine ⟨by omega, fun h0 => ?_, fun h0 => ?_⟩
  · rw [if_neg h0] at h
    refine ⟨fun h1 => ?_, fun h1 => ⟨by omega, by omega, fun h2 => ?_, fun h2 => ⟨by omega, ?_⟩⟩⟩
    · rw [if_neg (fun e => h1 e.1)] at h; exact h
    · rw [if_neg (fun e => e.2 h2)] at h; exact h
    · rw [if_pos ⟨h1, h2⟩] at h; exact h
  · rw [if_pos h0] at h
    refine ⟨fun h1 => ⟨by omega, ?_⟩, fun h1 => ?_⟩
    · rw [if_neg h1] at h; exact h
    · rw [if_pos h1] at h; exact h
theorem s_M_edge {z : Sta} {K : Int32 → Sta → Prop} {a : Nat} {x2 : Int32} (ha : a < 16) (h : ∀ v, isb v (¬ z.2.1 21 a = ix 0 ∧ (nx (z.2.1 17) a 0 = x2 ∨ nx (z.2.1 17) a 1 = x2)) → K v z) : wp_M_edge (ix a) x2 z K := by
  simp (disch := omega) only [wp_M_edge, pj_M_edge_33, pj_M_edge_34, pj_M_edge_29, forall_eq, l0, l1, l2, l3, l4, l5, l6, l15, l16, l24, l30, l99, l100, l200, l385, lm1, ix_ne, ne_ix, ix_nat, vp_ix, ix_inj, ix_le, ix_lt, ix_add, ix_mul, ix_sub, nar0', nar1', or00, or01, or10, or11, rI, rIA, rIL, rA, rAI, rAL, rL, rLI, rLA, ru, ruL, reduceIte, Nat.reduceEqDiff, true_or, or_true, true_and, and_true, false_or, or_false, not_true_eq_false, not_false_eq_true, false_implies, true_implies, implies_true, i10, i01]
  refine ⟨by omega, fun h0 => h _ (Or.inr ⟨rfl, fun e => e.1 h0⟩), fun h0 => ?_⟩
  refine s_M_next ha (by omega) ⟨fun h1 => h _ (Or.inl ⟨rfl, h0, Or.inl h1⟩), fun h1 => s_M_next ha (by omega) ⟨fun h2 => h _ (Or.inr ⟨rfl, fun e => ?_⟩), fun h2 => h _ (Or.inl ⟨rfl, h0, Or.inr h2⟩)⟩⟩
  rcases e.2 with e | e
  · exact h1 e
  · exact h2 e
theorem s_M_reach {n : Nat} {E : Nat → Nat → Prop} {z : Sta} {K : Sta → Prop} (hn : n ≤ 16) (hn0 : 0 < n) (hN : z.1 8 = ix n) (hE : ∀ a c, E a c → a < n ∧ c < n)
    (hf : ∀ a, a < n → okS n (nx (z.2.1 17) a 0) ∧ okS n (nx (z.2.1 17) a 1)) (hfE : ∀ a c, a < n → c < n → (E a c ↔ nx (z.2.1 17) a 0 = ix c ∨ nx (z.2.1 17) a 1 = ix c))
    (hK : ∀ y, fr [] [21] [] z y → (∀ b, b < 16 → isb (y.2.1 21 b) (Rch E b)) → K y) : wp_M_reach z K := by
  have okk : ∀ a k, a < n → k < 2 → okS n (nx (z.2.1 17) a k) ∧ (∀ c, c < n → nx (z.2.1 17) a k = ix c → E a c) := by
    intro a k ha hk
    rcases Nat.lt_or_ge k 1 with e | e
    · have : k = 0 := by omega
      subst this; exact ⟨(hf a ha).1, fun c hc h => (hfE a c ha hc).2 (Or.inl h)⟩
    · have : k = 1 := by omega
      subst this; exact ⟨(hf a ha).2, fun c hc h => (hfE a c ha hc).2 (Or.inr h)⟩
  have succs : ∀ (r0 : Nat → Int32) (R : Int32 → Int32 → Sta → Prop) (x1 : Int32) (i : Nat) (D : Nat → Nat → Prop), i < n → ∀ (k j : Nat) (ch : Prop) (y : Sta), j + k = 2 → fr [] [21] [] z y →
      J n E r0 (fun a c => D a c ∨ (a = i ∧ ∃ t, t < j ∧ nx (z.2.1 17) i t = ix c)) ch (y.2.1 21) →
      (∀ (ch : Prop) (y : Sta), fr [] [21] [] z y → J n E r0 (fun a c => D a c ∨ (a = i ∧ E i c)) ch (y.2.1 21) → R x1 (ix (i + 1)) y) →
      lp_M_reach_51 K R (k + 1) x1 (ix i) (ix j) y := by
    intro r0 R x1 i D hi k
    induction k with
    | zero =>
      intro j ch y hjk hfr hJ hR
      rw [lp_M_reach_51]
      simp (disch := omega) only [forall_eq, l0, l1, l2, l3, l4, l5, l6, l15, l16, l24, l30, l99, l100, l200, l385, lm1, ix_ne, ne_ix, ix_nat, vp_ix, ix_inj, ix_le, ix_lt, ix_add, ix_mul, ix_sub, nar0', nar1', or00, or01, or10, or11, rI, rIA, rIL, rA, rAI, rAL, rL, rLI, rLA, ru, ruL, reduceIte, Nat.reduceEqDiff, true_or, or_true, true_and, and_true, false_or, or_false, not_true_eq_false, not_false_eq_true, false_implies, true_implies, implies_true, i10, i01]
      refine ⟨fun _ => hR ch y hfr (J_mono hJ fun a c ha hc h _ => ?_), fun h => absurd (by omega) h⟩
      rcases h with h | ⟨h, he⟩
      · exact Or.inl h
      · rcases (hfE i c hi hc).1 he with e | e
        · exact Or.inr ⟨h, 0, by omega, e⟩
        · exact Or.inr ⟨h, 1, by omega, e⟩
    | succ k ih =>
      intro j ch y hjk hfr hJ hR
      have h17 : y.2.1 17 = z.2.1 17 := hfr.2.1 17 (by decide)
      have hb := hJ.2.1
      rw [lp_M_reach_51]
      simp (disch := omega) only [pj_M_reach_75, pj_M_reach_90, forall_eq, l0, l1, l2, l3, l4, l5, l6, l15, l16, l24, l30, l99, l100, l200, l385, lm1, ix_ne, ne_ix, ix_nat, vp_ix, ix_inj, ix_le, ix_lt, ix_add, ix_mul, ix_sub, nar0', nar1', or00, or01, or10, or11, rI, rIA, rIL, rA, rAI, rAL, rL, rLI, rLA, ru, ruL, reduceIte, Nat.reduceEqDiff, true_or, or_true, true_and, and_true, false_or, or_false, not_true_eq_false, not_false_eq_true, false_implies, true_implies, implies_true, i10, i01]
      have lt0 : mi < ix 0 := by decide
      refine ⟨fun h => absurd h (by omega), fun _ => ⟨by omega, fun h0 => ⟨fun _ => ?_, fun h => absurd lt0 h⟩, fun h0 => s_M_next (by omega) (by omega) ?_⟩⟩
      · refine ih (j + 1) ch y (by omega) hfr (J_mono hJ fun a c ha hc h hr => ?_) hR
        rcases h with h | ⟨h, _⟩
        · exact Or.inl h
        · rw [h, h0] at hr; exact absurd hr i01
      · have hr : y.2.1 21 i = ix 1 := (hb i (by omega)).resolve_left h0
        rw [h17]
        obtain ⟨hok, hoE⟩ := okk i j hi (by omega)
        have hD : ∀ (r : Nat → Int32) (ch : Prop), J n E r0 (fun a c => (D a c ∨ (a = i ∧ ∃ t, t < j ∧ nx (z.2.1 17) i t = ix c)) ∨ (a = i ∧ nx (z.2.1 17) i j = ix c)) ch r → J n E r0 (fun a c => D a c ∨ (a = i ∧ ∃ t, t < j + 1 ∧ nx (z.2.1 17) i t = ix c)) ch r := by
          intro r ch h
          refine J_mono h fun a c ha hc h2 _ => ?_
          rcases h2 with h2 | ⟨h2, t, ht, e⟩
          · exact Or.inl (Or.inl h2)
          · rcases Nat.lt_or_ge t j with e1 | e1
            · exact Or.inl (Or.inr ⟨h2, t, e1, e⟩)
            · have : t = j := by omega
              subst this; exact Or.inr ⟨h2, e⟩
        rcases hok with hm | ⟨c, hc, hm⟩
        · rw [hm]
          refine ⟨fun _ => ?_, fun h => absurd lt0 h⟩
          exact ih (j + 1) ch y (by omega) hfr (hD _ _ (J_keep hJ (Or.inl hm) hn)) hR
        · rw [hm]
          simp (disch := omega) only [forall_eq, l0, l1, l2, l3, l4, l5, l6, l15, l16, l24, l30, l99, l100, l200, l385, lm1, ix_ne, ne_ix, ix_nat, vp_ix, ix_inj, ix_le, ix_lt, ix_add, ix_mul, ix_sub, nar0', nar1', or00, or01, or10, or11, rI, rIA, rIL, rA, rAI, rAL, rL, rLI, rLA, ru, ruL, reduceIte, Nat.reduceEqDiff, true_or, or_true, true_and, and_true, false_or, or_false, not_true_eq_false, not_false_eq_true, false_implies, true_implies, implies_true, i10, i01]
          refine ⟨fun h => absurd h (by omega), fun _ => ⟨by omega, ?_⟩⟩
          rcases hb c (by omega) with e | e
          · refine ih (j + 1) True _ (by omega) (fr_A hfr (by decide) _) ?_ hR
            rw [rA, if_pos rfl]
            exact J_mark hJ (a := i) (by omega) hr hc hn (hoE c hc hm) e
          · refine ih (j + 1) ch _ (by omega) (fr_A hfr (by decide) _) ?_ hR
            have : upd (y.2.1 21) c (ix 1) = y.2.1 21 := by
              funext b; rw [ru]; split
              · next e1 => rw [e1, e]
              · rfl
            rw [rA, if_pos rfl, this]
            exact hD _ _ (J_keep hJ (Or.inr ⟨c, hc, hm, e⟩) hn)
  have inner : ∀ (r0 : Nat → Int32) (R : Int32 → Sta → Prop) (x1 : Int32) (k i : Nat) (ch : Prop) (y : Sta), i + k = n → fr [] [21] [] z y →
      J n E r0 (fun a c => a < i ∧ E a c) ch (y.2.1 21) →
      (∀ (ch : Prop) (y : Sta), fr [] [21] [] z y → J n E r0 E ch (y.2.1 21) → R (x1 + ix 1) y) → lp_M_reach_41 K R (k + 1) x1 (ix i) y := by
    intro r0 R x1 k
    induction k with
    | zero =>
      intro i ch y hik hfr hJ hR
      have hN' : y.1 8 = ix n := (hfr.1 8 (by decide)).trans hN
      rw [lp_M_reach_41]
      simp (disch := omega) only [hN', forall_eq, l0, l1, l2, l3, l4, l5, l6, l15, l16, l24, l30, l99, l100, l200, l385, lm1, ix_ne, ne_ix, ix_nat, vp_ix, ix_inj, ix_le, ix_lt, ix_add, ix_mul, ix_sub, nar0', nar1', or00, or01, or10, or11, rI, rIA, rIL, rA, rAI, rAL, rL, rLI, rLA, ru, ruL, reduceIte, Nat.reduceEqDiff, true_or, or_true, true_and, and_true, false_or, or_false, not_true_eq_false, not_false_eq_true, false_implies, true_implies, implies_true, i10, i01]
      exact ⟨fun _ => hR ch y hfr (J_mono hJ fun a c ha _ h _ => ⟨by omega, h⟩), fun h => absurd (by omega) h⟩
    | succ k ih =>
      intro i ch y hik hfr hJ hR
      have hN' : y.1 8 = ix n := (hfr.1 8 (by decide)).trans hN
      rw [lp_M_reach_41]
      simp (disch := omega) only [hN', forall_eq, l0, l1, l2, l3, l4, l5, l6, l15, l16, l24, l30, l99, l100, l200, l385, lm1, ix_ne, ne_ix, ix_nat, vp_ix, ix_inj, ix_le, ix_lt, ix_add, ix_mul, ix_sub, nar0', nar1', or00, or01, or10, or11, rI, rIA, rIL, rA, rAI, rAL, rL, rLI, rLA, ru, ruL, reduceIte, Nat.reduceEqDiff, true_or, or_true, true_and, and_true, false_or, or_false, not_true_eq_false, not_false_eq_true, false_implies, true_implies, implies_true, i10, i01]
      refine ⟨fun h => absurd h (by omega), fun _ => ⟨3, succs r0 _ x1 i (fun a c => a < i ∧ E a c) (by omega) 2 0 ch y rfl hfr (J_mono hJ fun a c ha hc h _ => ?_) (fun ch1 y1 hfr1 hJ1 => ih (i + 1) ch1 y1 (by omega) hfr1 (J_mono hJ1 fun a c ha hc h _ => ?_) hR)⟩⟩
      · rcases h with h | ⟨_, t, ht, _⟩
        · exact h
        · omega
      · rcases Nat.lt_or_ge a i with e | e
        · exact Or.inl ⟨e, h.2⟩
        · have : a = i := by omega
          subst this; exact Or.inr ⟨rfl, h.2⟩
  have outer : ∀ (k i : Nat) (ch : Prop) (y : Sta) (r0 : Nat → Int32) (D : Nat → Nat → Prop), i + k = n → fr [] [21] [] z y → J n E r0 D ch (y.2.1 21) → ((∀ a c, E a c → y.2.1 21 a = ix 1 → y.2.1 21 c = ix 1) ∨ zer (y.2.1 21) + i ≤ 15) → lp_M_reach_31 K (k + 1) (ix i) y := by
    intro k
    induction k with
    | zero =>
      intro i ch y r0 D hik hfr hJ hm
      have hN' : y.1 8 = ix n := (hfr.1 8 (by decide)).trans hN
      rw [lp_M_reach_31]
      simp (disch := omega) only [hN', forall_eq, l0, l1, l2, l3, l4, l5, l6, l15, l16, l24, l30, l99, l100, l200, l385, lm1, ix_ne, ne_ix, ix_nat, vp_ix, ix_inj, ix_le, ix_lt, ix_add, ix_mul, ix_sub, nar0', nar1', or00, or01, or10, or11, rI, rIA, rIL, rA, rAI, rAL, rL, rLI, rLA, ru, ruL, reduceIte, Nat.reduceEqDiff, true_or, or_true, true_and, and_true, false_or, or_false, not_true_eq_false, not_false_eq_true, false_implies, true_implies, implies_true, i10, i01]
      refine ⟨fun _ => ?_, fun h => absurd (by omega) h⟩
      rcases hm with hm | hm
      · exact hK y hfr (J_end hJ.2.1 hJ.2.2.1 hJ.2.2.2.1 hm)
      · have hge : cnt (fun b => decide (n ≤ b)) 16 ≤ zer (y.2.1 21) := cnt_mono (fun b hb hd => by
          rcases hJ.2.1 b hb with e | e
          · exact decide_eq_true e
          · have := hJ.2.2.2.1 b hb e (fun x => x < n) hn0 (fun a c _ he => (hE a c he).2)
            have := of_decide_eq_true hd; omega)
        have hc : ∀ m, m ≤ 16 → cnt (fun b => decide (n ≤ b)) m = m - n := by
          intro m
          induction m with
          | zero => intro _; simp only [cnt]; omega
          | succ m ih =>
            intro hm; simp only [cnt, ih (by omega), decide_eq_true_eq]; split <;> omega
        have := hc 16 (by omega); omega
    | succ k ih =>
      intro i ch y r0 D hik hfr hJ hm
      have hN' : y.1 8 = ix n := (hfr.1 8 (by decide)).trans hN
      rw [lp_M_reach_31]
      simp (disch := omega) only [hN', forall_eq, l0, l1, l2, l3, l4, l5, l6, l15, l16, l24, l30, l99, l100, l200, l385, lm1, ix_ne, ne_ix, ix_nat, vp_ix, ix_inj, ix_le, ix_lt, ix_add, ix_mul, ix_sub, nar0', nar1', or00, or01, or10, or11, rI, rIA, rIL, rA, rAI, rAL, rL, rLI, rLA, ru, ruL, reduceIte, Nat.reduceEqDiff, true_or, or_true, true_and, and_true, false_or, or_false, not_true_eq_false, not_false_eq_true, false_implies, true_implies, implies_true, i10, i01]
      refine ⟨fun h => absurd h (by omega), fun _ => ⟨n + 1, ?_⟩⟩
      refine inner (y.2.1 21) _ _ n 0 False y (by omega) hfr (J_mono (J_start hJ) fun a c _ _ h _ => absurd h.1 (by omega)) (fun ch1 y1 hfr1 hJ1 => ?_)
      rw [ix_add]
      refine ih (i + 1) ch1 y1 _ _ (by omega) hfr1 hJ1 ?_
      by_cases hc : ch1
      · refine Or.inr ?_
        have hz := (J_zer hJ1).2 hc
        rcases hm with hm | hm
        · exfalso
          obtain ⟨b, hb, e0, e1⟩ := hJ1.2.2.2.2.2.2 hc
          have := J_end hJ.2.1 hJ.2.2.1 hJ.2.2.2.1 hm b hb
          have := isb_t this (hJ1.2.2.2.1 b hb e1)
          exact i01 (e0.symm.trans this)
        · omega
      · exact Or.inl (fun a c he hr => (hJ1.2.2.2.2.2.1 hc).2 a c (hE a c he).1 (hE a c he).2 he hr)
  have init : ∀ (k i : Nat) (y : Sta), i + k = 16 → fr [] [21] [] z y → (∀ b, b < i → y.2.1 21 b = if b = 0 then ix 1 else ix 0) → lp_M_reach_2 K (k + 1) (ix i) y := by
    intro k
    induction k with
    | zero =>
      intro i y hik hfr hb
      rw [lp_M_reach_2]
      simp (disch := omega) only [forall_eq, l0, l1, l2, l3, l4, l5, l6, l15, l16, l24, l30, l99, l100, l200, l385, lm1, ix_ne, ne_ix, ix_nat, vp_ix, ix_inj, ix_le, ix_lt, ix_add, ix_mul, ix_sub, nar0', nar1', or00, or01, or10, or11, rI, rIA, rIL, rA, rAI, rAL, rL, rLI, rLA, ru, ruL, reduceIte, Nat.reduceEqDiff, true_or, or_true, true_and, and_true, false_or, or_false, not_true_eq_false, not_false_eq_true, false_implies, true_implies, implies_true, i10, i01]
      refine ⟨fun _ => ⟨n + 1, ?_⟩, fun h => absurd (by omega) h⟩
      have hbb : ∀ b, b < 16 → y.2.1 21 b = ix 0 ∨ y.2.1 21 b = ix 1 := by
        intro b hb2; rw [hb b (by omega)]; split
        · exact Or.inr rfl
        · exact Or.inl rfl
      have h0 : y.2.1 21 0 = ix 1 := by rw [hb 0 (by omega)]; rfl
      have hz : zer (y.2.1 21) ≤ 15 := by
        have : zer (y.2.1 21) < cnt (fun _ => true) 16 := cnt_lt (fun _ _ _ => rfl) (k := 0) (by omega) (decide_eq_false (by rw [h0]; exact i10)) rfl
        have := cnt_le (fun _ => true) 16; omega
      refine outer n 0 False y (y.2.1 21) (fun _ _ => False) (by omega) hfr ⟨hbb, hbb, h0, ?_, fun _ _ h => h, fun _ => ⟨fun _ _ => rfl, fun _ _ _ _ h => h.elim⟩, fun h => h.elim⟩ (Or.inr (by omega))
      · intro b hb2 hr; rw [hb b (by omega)] at hr; split at hr
        · next e => rw [e]; exact Rch_0
        · exact absurd hr i01
    | succ k ih =>
      intro i y hik hfr hb
      rw [lp_M_reach_2]
      simp (disch := omega) only [pj_M_reach_22, forall_eq, l0, l1, l2, l3, l4, l5, l6, l15, l16, l24, l30, l99, l100, l200, l385, lm1, ix_ne, ne_ix, ix_nat, vp_ix, ix_inj, ix_le, ix_lt, ix_add, ix_mul, ix_sub, nar0', nar1', or00, or01, or10, or11, rI, rIA, rIL, rA, rAI, rAL, rL, rLI, rLA, ru, ruL, reduceIte, Nat.reduceEqDiff, true_or, or_true, true_and, and_true, false_or, or_false, not_true_eq_false, not_false_eq_true, false_implies, true_implies, implies_true, i10, i01]
      refine ⟨fun h => absurd h (by omega), fun _ => ⟨fun h => ⟨by omega, ?_⟩, fun h => ⟨by omega, ?_⟩⟩⟩
      · refine ih (i + 1) _ (by omega) (fr_A hfr (by decide) _) (fun b hb2 => ?_)
        rw [rA, if_pos rfl, ru]; split
        · next e => rw [e, if_neg h]
        · exact hb b (by omega)
      · refine ih (i + 1) _ (by omega) (fr_A hfr (by decide) _) (fun b hb2 => ?_)
        rw [rA, if_pos rfl, ru]; split
        · next e => rw [e, if_pos h]
        · exact hb b (by omega)
  exact ⟨17, init 16 0 z rfl (fr_refl z) (fun b h => absurd h (by omega))⟩
