theorem Gr_eq {n : Nat} {Rc : Nat → Prop} {F G : (Nat → Prop) → Nat → Prop} {X Y : Nat → Prop} (hX : Gr n Rc F X) (hY : Gr n Rc G Y) (hF : ∀ Z b, b < n → Rc b → (F Z b ↔ G Z b))
    (hm : ∀ Z V b, b < n → Rc b → (∀ c, c < n → Rc c → Z c → V c) → F Z b → F V b) : ∀ b, b < n → (X b ↔ Y b) := by
  have hm' : ∀ Z V b, b < n → Rc b → (∀ c, c < n → Rc c → Z c → V c) → G Z b → G V b := fun Z V b hb1 hr h hg => (hF V b hb1 hr).1 (hm Z V b hb1 hr h ((hF Z b hb1 hr).2 hg))
  intro b hb1
  constructor
  · intro h
    refine hY.1 (fun c => c < n ∧ X c) b (fun c hc => ⟨hc.1, (hX.2 c hc.1 hc.2).1, ?_⟩) ⟨hb1, h⟩
    exact (hF _ c hc.1 (hX.2 c hc.1 hc.2).1).1 (hm X _ c hc.1 (hX.2 c hc.1 hc.2).1 (fun d hd _ hx => ⟨hd, hx⟩) (hX.2 c hc.1 hc.2).2)
  · intro h
    refine hX.1 (fun c => c < n ∧ Y c) b (fun c hc => ⟨hc.1, (hY.2 c hc.1 hc.2).1, ?_⟩) ⟨hb1, h⟩
    exact (hF _ c hc.1 (hY.2 c hc.1 hc.2).1).2 (hm' Y _ c hc.1 (hY.2 c hc.1 hc.2).1 (fun d hd _ hx => ⟨hd, hx⟩) (hY.2 c hc.1 hc.2).2)
theorem PL_eq {n : Nat} {E : Nat → Nat → Prop} {Rc Ch As Lv Bh Wt Lt Ch' As' Lv' Bh' Wt' Lt' : Nat → Prop} (hcl : ∀ a c, Rc a → E a c → Rc c) (h : PL n E Rc Ch As Lv Bh Wt Lt) (h' : PL n E Rc Ch' As' Lv' Bh' Wt' Lt') (hC : ∀ b, b < n → Rc b → (Ch b ↔ Ch' b)) (hA : ∀ b, b < n → Rc b → (As b ↔ As' b)) (hL : ∀ b, b < n → Rc b → (Lv b ↔ Lv' b)) :
    (∀ b, b < n → (Bh b ↔ Bh' b)) ∧ (∀ b, b < n → (Wt b ↔ Wt' b)) ∧ (∀ b, b < n → (Lt b ↔ Lt' b)) := by
  have hB : ∀ b, b < n → (Bh b ↔ Bh' b) := by
    refine Gr_eq h.1 h'.1 (fun Z b hb1 hr => ?_) (fun Z V b hb1 hr hZ hF => hF.imp id (fun h => ⟨⟨h.1.1, fun a ha hra he => hZ a ha hra (h.1.2 a ha hra he)⟩, h.2⟩))
    simp only [FBm, hC b hb1 hr, hL b hb1 hr]
  have hW : ∀ b, b < n → (Wt b ↔ Wt' b) := by
    refine Gr_eq h.2.1 h'.2.1 (fun Z b hb1 hr => ?_) (fun Z V b hb1 hr hZ hF => hF.imp id (fun h => ⟨⟨h.1.1, fun d hd he => hZ d hd (hcl b d hr he) (h.1.2 d hd he)⟩, h.2⟩))
    simp only [FWm, hC b hb1 hr, hA b hb1 hr]
  refine ⟨hB, hW, Gr_eq h.2.2 h'.2.2 (fun Z b hb1 hr => ?_) (fun Z V b hb1 hr hZ hF => ⟨hF.1, fun a ha hra he => (hF.2 a ha hra he).imp id (fun h => ⟨hZ a ha hra h.1, h.2⟩)⟩)⟩
  have hEA : ∀ a, a < n → Rc a → (EAm n E Wt Bh Ch a b ↔ EAm n E Wt' Bh' Ch' a b) := by
    intro a ha hra
    simp only [EAm, hB a ha, hC a ha hra, hW b hb1]
    have : (∀ c, c < n → E a c → Wt c) ↔ (∀ c, c < n → E a c → Wt' c) := ⟨fun h c hc he => (hW c hc).1 (h c hc he), fun h c hc he => (hW c hc).2 (h c hc he)⟩
    rw [this]
  simp only [FLm, hW b hb1]
  refine and_congr Iff.rfl ⟨fun h a ha hra he => ?_, fun h a ha hra he => ?_⟩
  · rw [← hEA a ha hra, ← hA a ha hra]; exact h a ha hra he
  · rw [hEA a ha hra, hA a ha hra]; exact h a ha hra he
def HC (n m : Nat) (E : Nat → Nat → Prop) (z : Sta) : Prop := n ≤ 16 ∧ 0 < n ∧ z.1 2 = ix n ∧ m ≤ 24 ∧ z.1 3 = ix m ∧ (∀ a, a < n → okS n (z.2.1 5 a) ∧ okS n (z.2.1 6 a)) ∧ (∀ a, a < n → (z.2.1 5 a = mi ↔ z.2.1 6 a = mi)) ∧ (∀ a c, a < n → c < n → (E a c ↔ z.2.1 5 a = ix c ∨ z.2.1 6 a = ix c)) ∧ (∀ a c, E a c → a < n ∧ c < n)
theorem HC_fr {n m : Nat} {E : Nat → Nat → Prop} {z y : Sta} {I A L : List Nat} (h : HC n m E z) (hf : fr I A L z y) (h2 : 2 ∉ I) (h3 : 3 ∉ I) (h5 : 5 ∉ A) (h6 : 6 ∉ A) : HC n m E y := by
  unfold HC
  rw [hf.1 2 h2, hf.1 3 h3, hf.2.1 5 h5, hf.2.1 6 h6]; exact h
def Chc (z : Sta) (sz : Nat → Nat) (e b : Nat) : Prop := (lk (cpC z b e) (gvC z b e) (sz b)).1
def Asc (z : Sta) (sz : Nat → Nat) (e b : Nat) : Prop := (lk (cpC z b e) (gvC z b e) (sz b)).2.1
def Lvc (z : Sta) (sz : Nat → Nat) (e b : Nat) : Prop := (lk (cpC z b e) (gvC z b e) (sz b)).2.2
theorem cpC_fr {z y : Sta} {I A L : List Nat} (h : fr I A L z y) (h1 : 1 ∉ A) (h3 : 3 ∉ A) (b e : Nat) : cpC y b e = cpC z b e := by
  funext k; simp only [cpC, h.2.1 1 h1, h.2.1 3 h3]
theorem gvC_fr {z y : Sta} {I A L : List Nat} (h : fr I A L z y) (h1 : 1 ∉ A) (h2 : 2 ∉ A) (h0 : 0 ∉ L) (b e : Nat) : gvC y b e = gvC z b e := by
  funext k; simp only [gvC, h.2.1 1 h1, h.2.1 2 h2, h.2.2 0 h0]
theorem s_O_fillSets {z : Sta} {K : Sta → Prop} {b m : Nat} {p : Prop} (hb1 : b < 16) (hm : m ≤ 24) (hM : z.1 3 = ix m) (hr : isb (z.2.1 10 b) p)
    (h : ∀ x, (∀ e, hb x e = true ↔ p ∧ e < m) → K (zL (zL (zL (zL (zL z 4 (vp_updL (z.2.2 4) b x)) 5 (vp_updL (z.2.2 5) b x)) 6 (vp_updL (z.2.2 6) b x)) 7 (vp_updL (z.2.2 7) b x)) 8 (vp_updL (z.2.2 8) b x))) : wp_O_fillSets (ix b) z K := by
  simp (disch := omega) only [wp_O_fillSets, pj_O_fillSets_24, hM, forall_eq, l0, l1, l2, l3, l4, l5, l6, l15, l16, l24, l30, l99, l100, l200, l385, lm1, ix_ne, ne_ix, ix_nat, vp_ix, ix_inj, ix_le, ix_lt, ix_add, ix_mul, ix_sub, nar0', nar1', or00, or01, or10, or11, rI, rIA, rIL, rA, rAI, rAL, rL, rLI, rLA, ru, ruL, reduceIte, Nat.reduceEqDiff, true_or, or_true, true_and, and_true, false_or, or_false, not_true_eq_false, not_false_eq_true, false_implies, true_implies, implies_true, i10, i01]
  refine ⟨by omega, fun h0 => ⟨by omega, by omega, by omega, by omega, by omega, h _ (fun e => ?_)⟩, fun h0 => ⟨by omega, by omega, by omega, by omega, by omega, h _ (fun e => ?_)⟩⟩
  · rw [hb_0]; exact ⟨fun h => absurd h Bool.false_ne_true, fun h => absurd h.1 ((isb_z hr).1 h0)⟩
  · rw [hb_start hm, decide_eq_true_eq]; exact ⟨fun h => ⟨isb_n hr h0, h⟩, fun h => h.2⟩
theorem s_O_findSets {n m : Nat} {E : Nat → Nat → Prop} {z : Sta} {K : Sta → Prop} {sz : Nat → Nat} (H : HC n m E z) (hsz : ∀ b, b < n → z.2.1 0 b = ix (sz b) ∧ sz b ≤ 5)
    (hop : ∀ b k, b < n → k < sz b → z.2.1 1 (5 * b + k) = ix 2 → ∃ e, e < m ∧ z.2.1 3 (5 * b + k) = ix e)
    (htg : ∀ b k, b < n → k < sz b → ∃ t, t < 6 ∧ z.2.1 2 (5 * b + k) = ix t)
    (hz0 : (∀ k b e, (k = 4 ∨ k = 6 ∨ k = 8) → n ≤ b → b < 16 → hb (z.2.2 k b) e = false))
    (hK : ∀ y, fr [] [10] [1, 2, 3, 4, 5, 6, 7, 8, 9] z y → (∀ b, b < 16 → isb (y.2.1 10 b) (Rch E b)) →
      (∀ b e, b < n → Rch E b → e < 64 → (hb (y.2.2 1 b) e = true ↔ Chc z sz e b) ∧ (hb (y.2.2 2 b) e = true ↔ Asc z sz e b) ∧ (hb (y.2.2 3 b) e = true ↔ Lvc z sz e b)) →
      (∀ b e, b < n → ¬ Rch E b → ∀ k, 1 ≤ k → k ≤ 9 → hb (y.2.2 k b) e = false) →
      (∀ e, e < m → PL n E (Rch E) (Chc z sz e) (Asc z sz e) (Lvc z sz e) (fun b => hb (y.2.2 5 b) e = true) (fun b => hb (y.2.2 6 b) e = true) (fun b => hb (y.2.2 8 b) e = true)) →
      (∀ b e, b < n → Rch E b → e < m → (hb (y.2.2 4 b) e = true ↔ 0 < b ∧ ∀ a, a < n → Rch E a → E a b → hb (y.2.2 5 a) e = true)) →
      (∀ b e, b < n → Rch E b → e < m → (hb (y.2.2 7 b) e = true ↔ (∃ c, c < n ∧ E b c) ∧ ∀ c, c < n → E b c → hb (y.2.2 6 c) e = true)) →
      (∀ b e, b < n → Rch E b → m ≤ e → ∀ k, 1 ≤ k → k ≤ 9 → k ≠ 1 → hb (y.2.2 k b) e = false) →
      (∀ b, b < n → y.2.2 9 b = y.2.2 2 b &&& (y.2.2 8 b ^^^ (-1))) → (∀ k b e, (k = 4 ∨ k = 6 ∨ k = 8) → n ≤ b → b < 16 → hb (y.2.2 k b) e = false) → K y) : wp_O_findSets z K := by
  obtain ⟨hn, hn0, hN, hm, hM, hok, hb2, hfE, hE⟩ := H
  let Rc := Rch E
  have hcl : ∀ a c, Rc a → E a c → Rc c := fun a c h e => Rch_s h e
  have last : ∀ (k i : Nat) (y : Sta), i + k = n → y.1 2 = ix n → (∀ y', fr [] [] [9] y y' → (∀ b, b < i → y'.2.2 9 b = y.2.2 9 b) → (∀ b, i ≤ b → b < n → y'.2.2 9 b = y.2.2 2 b &&& (y.2.2 8 b ^^^ (-1))) → K y') → lp_O_findSets_47 K (k + 1) (ix i) y := by
    intro k
    induction k with
    | zero =>
      intro i y hik hNy h
      rw [lp_O_findSets_47]
      simp (disch := omega) only [hNy, forall_eq, l0, l1, l2, l3, l4, l5, l6, l15, l16, l24, l30, l99, l100, l200, l385, lm1, ix_ne, ne_ix, ix_nat, vp_ix, ix_inj, ix_le, ix_lt, ix_add, ix_mul, ix_sub, nar0', nar1', or00, or01, or10, or11, rI, rIA, rIL, rA, rAI, rAL, rL, rLI, rLA, ru, ruL, reduceIte, Nat.reduceEqDiff, true_or, or_true, true_and, and_true, false_or, or_false, not_true_eq_false, not_false_eq_true, false_implies, true_implies, implies_true, i10, i01]
      exact ⟨fun _ => h y (fr_refl y) (fun _ _ => rfl) (fun b h1 h2 => absurd h2 (by omega)), fun h => absurd (by omega) h⟩
    | succ k ih =>
      intro i y hik hNy h
      rw [lp_O_findSets_47]
      simp (disch := omega) only [hNy, forall_eq, l0, l1, l2, l3, l4, l5, l6, l15, l16, l24, l30, l99, l100, l200, l385, lm1, ix_ne, ne_ix, ix_nat, vp_ix, ix_inj, ix_le, ix_lt, ix_add, ix_mul, ix_sub, nar0', nar1', or00, or01, or10, or11, rI, rIA, rIL, rA, rAI, rAL, rL, rLI, rLA, ru, ruL, reduceIte, Nat.reduceEqDiff, true_or, or_true, true_and, and_true, false_or, or_false, not_true_eq_false, not_false_eq_true, false_implies, true_implies, implies_true, i10, i01]
      refine ⟨fun h => absurd h (by omega), fun _ => ⟨by omega, by omega, by omega, ih (i + 1) _ (by omega) hNy (fun y' h1 h2 h3 => h y' (fr_tr (fr_L (fr_refl y) (by decide) _) h1) (fun b hb1 => ?_) (fun b h4 h5 => ?_))⟩⟩
      · rw [h2 b (by omega)]
        show vp_updL (y.2.2 9) i _ b = _
        rw [ruL, if_neg (by omega)]
      · rcases Nat.lt_or_ge i b with e | e
        · exact h3 b (by omega) h5
        · have : b = i := by omega
          subst this
          rw [h2 b (by omega)]
          show vp_updL (y.2.2 9) b _ b = _
          rw [ruL, if_pos rfl]
  have flows : ∀ y2, fr [] [10] [1, 2, 3, 4, 5, 6, 7, 8] z y2 → (∀ b, b < 16 → isb (y2.2.1 10 b) (Rc b)) →
      (∀ b e, b < n → e < 64 → (Rc b → (hb (y2.2.2 1 b) e = true ↔ Chc z sz e b) ∧ (hb (y2.2.2 2 b) e = true ↔ Asc z sz e b) ∧ (hb (y2.2.2 3 b) e = true ↔ Lvc z sz e b)) ∧ (¬ Rc b → hb (y2.2.2 1 b) e = false ∧ hb (y2.2.2 2 b) e = false ∧ hb (y2.2.2 3 b) e = false)) →
      (∀ b e k, b < n → 4 ≤ k → k ≤ 8 → (hb (y2.2.2 k b) e = true ↔ Rc b ∧ e < m)) → (∀ k b e, (k = 4 ∨ k = 6 ∨ k = 8) → n ≤ b → b < 16 → hb (y2.2.2 k b) e = false) →
      wp_O_flowThere y2 (fun z3 => wp_O_flowWanted z3 (fun z4 => wp_O_flowLate z4 (fun z5 => ∃ n47 : Nat, lp_O_findSets_47 K n47 0 z5))) := by
    intro y2 hfr hr h1 h4 hz1
    have HN2 : y2.1 2 = ix n := (hfr.1 2 (by decide)).trans hN
    have e5 : y2.2.1 5 = z.2.1 5 := hfr.2.1 5 (by decide)
    have e6 : y2.2.1 6 = z.2.1 6 := hfr.2.1 6 (by decide)
    have hst : ∀ k, (k = 4 ∨ k = 6 ∨ k = 8) → ∀ b e, b < 16 → hb (y2.2.2 k b) e = true → e < 24 := by
      intro k hk b e hb1 hh
      rcases Nat.lt_or_ge b n with e1 | e1
      · have := (h4 b e k e1 (by omega) (by omega)).1 hh; omega
      · rw [hz1 k b e hk e1 hb1] at hh; exact absurd hh Bool.false_ne_true
    refine s_O_flowThere (E := E) (Rc := Rc) hn hn0 HN2 (by rw [e5, e6]; exact hok) (by rw [e5, e6]; exact hfE) hr (hst 4 (Or.inl rfl)) (fun y3 hfr3 ov4 sub4 z40 d5 d45 u5 => ?_)
    have a3 : ∀ k, k ≠ 4 → k ≠ 5 → y3.2.2 k = y2.2.2 k := fun k h4 h5 => hfr3.2.2 k (by simp [h4, h5])
    have i3 : y3.2.1 = y2.2.1 := funext fun k => hfr3.2.1 k (by simp)
    refine s_O_flowWanted (E := E) (Rc := Rc) hn hn0 ((hfr3.1 2 (by decide)).trans HN2) (by rw [i3, e5, e6]; exact hok) (by rw [i3, e5, e6]; exact hb2) (by rw [i3, e5, e6]; exact hfE) (by rw [i3]; exact hr) (by rw [a3 6 (by decide) (by decide)]; exact hst 6 (Or.inr (Or.inl rfl))) (fun y4 hfr4 ov6 sub6 d7 d6 u7 => ?_)
    have a4 : ∀ k, k ≠ 6 → k ≠ 7 → y4.2.2 k = y3.2.2 k := fun k h4 h5 => hfr4.2.2 k (by simp [h4, h5])
    have i4 : y4.2.1 = y2.2.1 := funext fun k => (hfr4.2.1 k (by simp)).trans (hfr3.2.1 k (by simp))
    rw [a3 6 (by decide) (by decide), a3 2 (by decide) (by decide), a3 1 (by decide) (by decide)] at ov6
    rw [a3 6 (by decide) (by decide)] at sub6
    rw [a3 2 (by decide) (by decide), a3 1 (by decide) (by decide)] at d6
    rw [a3 7 (by decide) (by decide)] at u7
    have k8 : y4.2.2 8 = y2.2.2 8 := (a4 8 (by decide) (by decide)).trans (a3 8 (by decide) (by decide))
    have k2 : y4.2.2 2 = y2.2.2 2 := (a4 2 (by decide) (by decide)).trans (a3 2 (by decide) (by decide))
    have k1 : y4.2.2 1 = y2.2.2 1 := (a4 1 (by decide) (by decide)).trans (a3 1 (by decide) (by decide))
    have k3 : y4.2.2 3 = y2.2.2 3 := (a4 3 (by decide) (by decide)).trans (a3 3 (by decide) (by decide))
    have k4 : y4.2.2 4 = y3.2.2 4 := a4 4 (by decide) (by decide)
    have k5 : y4.2.2 5 = y3.2.2 5 := a4 5 (by decide) (by decide)
    refine s_O_flowLate (E := E) (Rc := Rc) hn hn0 (((hfr4.1 2 (by decide)).trans (hfr3.1 2 (by decide))).trans HN2) (by rw [i4, e5, e6]; exact hok) (by rw [i4, e5, e6]; exact hfE) (by rw [i4]; exact hr) (by rw [k8]; exact hst 8 (Or.inr (Or.inr rfl))) (fun b e hb1 hh => hst 6 (Or.inr (Or.inl rfl)) b e hb1 (sub6 b e hb1 hh)) (fun y5 hfr5 ov8 sub8 w8 d8 => ?_)
    have a5 : ∀ k, k ≠ 8 → y5.2.2 k = y4.2.2 k := fun k h8 => hfr5.2.2 k (by simp [h8])
    rw [k8, k2] at ov8
    rw [k8] at sub8
    rw [k2] at d8
    have HN5 : y5.1 2 = ix n := (hfr5.1 2 (by decide)).trans (((hfr4.1 2 (by decide)).trans (hfr3.1 2 (by decide))).trans HN2)
    refine ⟨n + 1, ?_⟩
    rw [l0]
    refine last n 0 y5 (by omega) HN5 (fun y hfr9 _ h9 => ?_)
    have b9 : ∀ k, k ≠ 9 → y.2.2 k = y5.2.2 k := fun k h => hfr9.2.2 k (by simp [h])
    have c1 : y.2.2 1 = y2.2.2 1 := ((b9 1 (by decide)).trans (a5 1 (by decide))).trans k1
    have c2 : y.2.2 2 = y2.2.2 2 := ((b9 2 (by decide)).trans (a5 2 (by decide))).trans k2
    have c3 : y.2.2 3 = y2.2.2 3 := ((b9 3 (by decide)).trans (a5 3 (by decide))).trans k3
    have c4 : y.2.2 4 = y3.2.2 4 := ((b9 4 (by decide)).trans (a5 4 (by decide))).trans k4
    have c5 : y.2.2 5 = y3.2.2 5 := ((b9 5 (by decide)).trans (a5 5 (by decide))).trans k5
    have c6 : y.2.2 6 = y4.2.2 6 := (b9 6 (by decide)).trans (a5 6 (by decide))
    have c7 : y.2.2 7 = y4.2.2 7 := (b9 7 (by decide)).trans (a5 7 (by decide))
    have c8 : y.2.2 8 = y5.2.2 8 := b9 8 (by decide)
    have ci : y.2.1 = y2.2.1 := (funext fun k => (hfr9.2.1 k (by simp)).trans (hfr5.2.1 k (by simp))).trans i4
    have cI : y.1 = y2.1 := funext fun k => ((hfr9.1 k (by simp)).trans (hfr5.1 k (by simp))).trans ((hfr4.1 k (by simp)).trans (hfr3.1 k (by simp)))
    have c9 : ∀ b, b < n → y.2.2 9 b = y2.2.2 2 b &&& (y5.2.2 8 b ^^^ (-1)) := by
      intro b hb1
      rw [h9 b (by omega) hb1, a5 2 (by decide), k2]
    have frz : fr [] [10] [1, 2, 3, 4, 5, 6, 7, 8, 9] z y := by
      refine ⟨fun k hk => ?_, fun k hk => ?_, fun k hk => ?_⟩
      · rw [cI]; exact hfr.1 k hk
      · rw [ci]; exact hfr.2.1 k hk
      · simp only [List.mem_cons, List.not_mem_nil, or_false, not_or] at hk
        rw [b9 k hk.2.2.2.2.2.2.2.2, a5 k hk.2.2.2.2.2.2.2.1, a4 k hk.2.2.2.2.2.1 hk.2.2.2.2.2.2.1, a3 k hk.2.2.2.1 hk.2.2.2.2.1]
        exact hfr.2.2 k (by simp [hk])
    have ff : ∀ {x : Bool}, ¬ x = true → x = false := fun h => Bool.eq_false_iff.2 h
    have rch0 : Rc 0 := Rch_0
    have st4 : ∀ b e, b < n → hb (y3.2.2 4 b) e = true → Rc b ∧ e < m := fun b e hb1 hh => (h4 b e 4 hb1 (by omega) (by omega)).1 (sub4 b e (by omega) hh)
    have st6 : ∀ b e, b < n → hb (y4.2.2 6 b) e = true → Rc b ∧ e < m := fun b e hb1 hh => (h4 b e 6 hb1 (by omega) (by omega)).1 (sub6 b e (by omega) hh)
    have st8 : ∀ b e, b < n → hb (y5.2.2 8 b) e = true → Rc b ∧ e < m := by
      intro b e hb1 hh
      by_cases e0 : b = 0
      · subst e0; exact st6 0 e hb1 (w8 e hh)
      · exact (h4 b e 8 hb1 (by omega) (by omega)).1 (sub8 b e (by omega) e0 hh)
    have C5 : ∀ b e, b < n → Rc b → e < 64 → (hb (y3.2.2 5 b) e = true ↔ Lvc z sz e b ∨ (hb (y3.2.2 4 b) e = true ∧ ¬ Chc z sz e b)) := by
      intro b e hb1 hrb he
      have hh := (h1 b e hb1 he).1 hrb
      rw [d5 b hb1 hrb, hb_or, hb_andn, Bool.or_eq_true, Bool.and_eq_true, hh.2.2, Bool.not_eq_true', ← Bool.not_eq_true, hh.1]
    have z7 : ∀ b e, b < n → Rc b → (hb (y4.2.2 7 b) e = true ↔ (∃ c, c < n ∧ E b c) ∧ ∀ c, c < n → E b c → hb (y4.2.2 6 c) e = true) := fun b e hb1 hrb => d7 b e hb1 hrb
    have noA : ∀ b e, b < n → m ≤ e → e < 64 → ¬ Asc z sz e b ∧ ¬ Lvc z sz e b := by
      intro b e hb1 hme he
      have : ∀ k, k ≤ sz b → ¬ (lk (cpC z b e) (gvC z b e) k).2.1 ∧ ¬ (lk (cpC z b e) (gvC z b e) k).2.2 := by
        intro k
        induction k with
        | zero => exact fun _ => ⟨fun h => h, fun h => h⟩
        | succ k ih =>
          intro hk
          have ih := ih (by omega)
          have hc : ¬ cpC z b e k := by
            intro hc
            obtain ⟨e', he', ho⟩ := hop b k hb1 (by omega) hc.1
            have := hc.2.symm.trans ho
            rw [ix_inj (by omega) (by omega)] at this; omega
          exact ⟨fun h => h.elim ih.1 (fun h => hc h.1), fun h => h.1.elim ih.2 hc⟩
      exact this (sz b) (Nat.le_refl _)
    have EAe : ∀ a b e, a < n → b < n → Rc a → e < 64 → (EAb y4 a b e ↔ EAm n E (fun b => hb (y4.2.2 6 b) e = true) (fun b => hb (y3.2.2 5 b) e = true) (Chc z sz e) a b) := by
      intro a b e ha hb1 hra he
      simp only [EAb, EAm, k5, k1, z7 a e ha hra, ((h1 a e ha he).1 hra).1]
    refine hK y frz (fun b hb1 => by rw [ci]; exact hr b hb1) (fun b e hb1 hrb he => ?_) (fun b e hb1 hrb k hk1 hk9 => ?_) (fun e he => ⟨⟨fun Y b hY hYb => ?_, fun b hb1 hh => ?_⟩, ⟨fun Y b hY hYb => ?_, fun b hb1 hh => ?_⟩, ⟨fun Y b hY hYb => ?_, fun b hb1 hh => ?_⟩⟩) (fun b e hb1 hrb he => ?_) (fun b e hb1 hrb he => ?_) (fun b e hb1 hrb hme k hk1 hk9 hk => ?_) (fun b hb1 => ?_) (fun k b e hk hb1 hb16 => ?_)
    · rw [c1, c2, c3]; exact (h1 b e hb1 he).1 hrb
    · rcases Nat.lt_or_ge e 64 with he | he
      · have hu := (h1 b e hb1 he).2 hrb
        have q4 : hb (y3.2.2 4 b) e = false := ff (fun hh => hrb (st4 b e hb1 hh).1)
        have q5 : hb (y3.2.2 5 b) e = false := by
          rw [u5 b hb1 hrb]; exact ff (fun hh => hrb ((h4 b e 5 hb1 (by omega) (by omega)).1 hh).1)
        have q6 : hb (y4.2.2 6 b) e = false := ff (fun hh => hrb (st6 b e hb1 hh).1)
        have q7 : hb (y4.2.2 7 b) e = false := by
          rw [u7 b hb1 hrb]; exact ff (fun hh => hrb ((h4 b e 7 hb1 (by omega) (by omega)).1 hh).1)
        have q8 : hb (y5.2.2 8 b) e = false := ff (fun hh => hrb (st8 b e hb1 hh).1)
        rcases (by omega : k = 1 ∨ k = 2 ∨ k = 3 ∨ k = 4 ∨ k = 5 ∨ k = 6 ∨ k = 7 ∨ k = 8 ∨ k = 9) with ek | ek | ek | ek | ek | ek | ek | ek | ek <;> subst ek
        · rw [c1]; exact hu.1
        · rw [c2]; exact hu.2.1
        · rw [c3]; exact hu.2.2
        · rw [c4]; exact q4
        · rw [c5]; exact q5
        · rw [c6]; exact q6
        · rw [c7]; exact q7
        · rw [c8]; exact q8
        · rw [c9 b hb1, hb_andn, hu.2.1]; rfl
      · exact hb_ge _ he
    · -- over: behind
      rw [c5]
      have hYc := hY b hYb
      show hb (y3.2.2 5 b) e = true
      rw [C5 b e hYc.1 hYc.2.1 (by omega)]
      have hX : ∀ b, (b < n ∧ Rc b ∧ 0 < b ∧ ∀ a, a < n → Rc a → E a b → Y a) → hb (y3.2.2 4 b) e = true := by
        intro b hb3
        refine ov4 e (fun b => b < n ∧ Rc b ∧ 0 < b ∧ ∀ a, a < n → Rc a → E a b → Y a) b (by omega) (fun c hc => ⟨by omega, by omega, (h4 c e 4 hc.1 (by omega) (by omega)).2 ⟨hc.2.1, he⟩, fun a ha hra hea => ?_⟩) hb3
        have hya := hY a (hc.2.2.2 a ha hra hea)
        have ha1 := (h1 a e ha (by omega)).1 hra
        rcases hya.2.2 with h | ⟨h, h'⟩
        · exact Or.inl (ha1.2.2.2 h)
        · exact Or.inr ⟨⟨ha, hra, h.1, h.2⟩, fun hh => h' (ha1.1.1 hh)⟩
      rcases hYc.2.2 with h | ⟨h, h'⟩
      · exact Or.inl h
      · exact Or.inr ⟨hX b ⟨hYc.1, hYc.2.1, h.1, h.2⟩, h'⟩
    · rw [c5] at hh
      have hrb : Rc b := Classical.byContradiction fun hrb => by
        rw [u5 b hb1 hrb] at hh; exact hrb ((h4 b e 5 hb1 (by omega) (by omega)).1 hh).1
      refine ⟨hrb, ?_⟩
      rcases (C5 b e hb1 hrb (by omega)).1 hh with h | ⟨h, h'⟩
      · exact Or.inl h
      · refine Or.inr ⟨⟨?_, fun a ha hra hea => ?_⟩, h'⟩
        · rcases Nat.eq_zero_or_pos b with e0 | e0
          · rw [e0, z40 e] at h; exact absurd h Bool.false_ne_true
          · exact e0
        · show hb (y.2.2 5 a) e = true
          rw [c5]; exact d45 a b ha hra hb1 hea e h
    · -- over: wanted
      rw [c6]
      refine ov6 e Y b (by omega) (fun c hc => ⟨by have := (hY c hc).1; omega, (h4 c e 6 (hY c hc).1 (by omega) (by omega)).2 ⟨(hY c hc).2.1, he⟩, fun hcn hrc => ?_⟩) hYb
      have ha1 := (h1 c e hcn (by omega)).1 hrc
      rcases (hY c hc).2.2 with h | ⟨h, h'⟩
      · exact Or.inl (ha1.2.1.2 h)
      · exact Or.inr ⟨h, fun hh => h' (ha1.1.1 hh)⟩
    · rw [c6] at hh
      have hrb := (st6 b e hb1 hh).1
      have ha1 := (h1 b e hb1 (by omega)).1 hrb
      refine ⟨hrb, ?_⟩
      rcases d6 b e hb1 hrb hh with h | ⟨h, h'⟩
      · exact Or.inl (ha1.2.1.1 h)
      · refine Or.inr ⟨?_, fun hh => h' (ha1.1.2 hh)⟩
        have := (z7 b e hb1 hrb).1 h
        refine ⟨this.1, fun d hd hed => ?_⟩
        show hb (y.2.2 6 d) e = true
        rw [c6]; exact this.2 d hd hed
    · -- over: late
      rw [c8]
      refine ov8 e Y b (by omega) (fun c hc => ⟨by have := (hY c hc).1; omega, (h4 c e 8 (hY c hc).1 (by omega) (by omega)).2 ⟨(hY c hc).2.1, he⟩, fun e0 => ?_, fun a ha hra hea => ?_⟩) hYb
      · have := (hY c hc).2.2.1 e0
        rw [c6] at this; exact this
      · have := (hY c hc).2.2.2 a ha hra hea
        rw [c6, c5] at this
        rw [EAe a c e ha (hY c hc).1 hra (by omega)]
        exact this.imp id (fun h => ⟨h.1, fun hh => h.2 (((h1 a e ha (by omega)).1 hra).2.1.1 hh)⟩)
    · rw [c8] at hh
      refine ⟨(st8 b e hb1 hh).1, fun e0 => ?_, fun a ha hra hea => ?_⟩
      · show hb (y.2.2 6 b) e = true
        rw [c6, e0]; rw [e0] at hh; exact w8 e hh
      · have := d8 a b e ha hra hb1 hea hh
        rw [EAe a b e ha hb1 hra (by omega)] at this
        rw [c6, c5, c8]
        exact this.imp id (fun h => ⟨h.1, fun hh => h.2 (((h1 a e ha (by omega)).1 hra).2.1.2 hh)⟩)
    · -- there before
      rw [c4, c5]
      constructor
      · intro hh
        refine ⟨?_, fun a ha hra hea => d45 a b ha hra hb1 hea e hh⟩
        rcases Nat.eq_zero_or_pos b with e0 | e0
        · rw [e0, z40 e] at hh; exact absurd hh Bool.false_ne_true
        · exact e0
      · intro hh
        refine ov4 e (fun b => b < n ∧ Rc b ∧ 0 < b ∧ ∀ a, a < n → Rc a → E a b → hb (y3.2.2 5 a) e = true) b (by omega) (fun c hc => ⟨by omega, by omega, (h4 c e 4 hc.1 (by omega) (by omega)).2 ⟨hc.2.1, he⟩, fun a ha hra hea => ?_⟩) ⟨hb1, hrb, hh⟩
        have ha1 := (h1 a e ha (by omega)).1 hra
        rcases (C5 a e ha hra (by omega)).1 (hc.2.2.2 a ha hra hea) with h | ⟨h, h'⟩
        · exact Or.inl (ha1.2.2.2 h)
        · refine Or.inr ⟨⟨ha, hra, ?_, fun d hd hrd hed => d45 d a hd hrd ha hed e h⟩, fun hh => h' (ha1.1.1 hh)⟩
          rcases Nat.eq_zero_or_pos a with e0 | e0
          · rw [e0, z40 e] at h; exact absurd h Bool.false_ne_true
          · exact e0
    · rw [c7, c6]; exact z7 b e hb1 hrb
    · rcases Nat.lt_or_ge e 64 with he | he
      · have hu := (h1 b e hb1 he).1 hrb
        have hna := noA b e hb1 hme he
        have q2 : hb (y2.2.2 2 b) e = false := ff (fun hh => hna.1 (hu.2.1.1 hh))
        have q4 : hb (y3.2.2 4 b) e = false := ff (fun hh => by have := (st4 b e hb1 hh).2; omega)
        rcases (by omega : k = 2 ∨ k = 3 ∨ k = 4 ∨ k = 5 ∨ k = 6 ∨ k = 7 ∨ k = 8 ∨ k = 9) with ek | ek | ek | ek | ek | ek | ek | ek <;> subst ek
        · rw [c2]; exact q2
        · rw [c3]; exact ff (fun hh => hna.2 (hu.2.2.1 hh))
        · rw [c4]; exact q4
        · rw [c5]
          refine ff (fun hh => ?_)
          rcases (C5 b e hb1 hrb he).1 hh with h | ⟨h, _⟩
          · exact hna.2 h
          · rw [q4] at h; exact absurd h Bool.false_ne_true
        · rw [c6]; exact ff (fun hh => by have := (st6 b e hb1 hh).2; omega)
        · rw [c7]
          refine ff (fun hh => ?_)
          obtain ⟨⟨c, hc, hec⟩, hall⟩ := (z7 b e hb1 hrb).1 hh
          have := (st6 c e hc (hall c hc hec)).2; omega
        · rw [c8]; exact ff (fun hh => by have := (st8 b e hb1 hh).2; omega)
        · rw [c9 b hb1, hb_andn, q2]; rfl
      · exact hb_ge _ he
    · rw [c9 b hb1, c2, c8]
    · rcases hk with ek | ek | ek <;> subst ek
      · rw [c4]; exact ff (fun hh => by have := sub4 b e hb16 hh; rw [hz1 4 b e (Or.inl rfl) hb1 hb16] at this; exact absurd this Bool.false_ne_true)
      · rw [c6]; exact ff (fun hh => by have := sub6 b e hb16 hh; rw [hz1 6 b e (Or.inr (Or.inl rfl)) hb1 hb16] at this; exact absurd this Bool.false_ne_true)
      · rw [c8]; exact ff (fun hh => by have := sub8 b e hb16 (by omega) hh; rw [hz1 8 b e (Or.inr (Or.inr rfl)) hb1 hb16] at this; exact absurd this Bool.false_ne_true)
  have loop : ∀ (k i : Nat) (y : Sta), i + k = n → fr [] [10] [1, 2, 3, 4, 5, 6, 7, 8] z y → (∀ b, b < 16 → isb (y.2.1 10 b) (Rc b)) →
      (∀ b e, b < i → e < 64 → (Rc b → (hb (y.2.2 1 b) e = true ↔ Chc z sz e b) ∧ (hb (y.2.2 2 b) e = true ↔ Asc z sz e b) ∧ (hb (y.2.2 3 b) e = true ↔ Lvc z sz e b)) ∧ (¬ Rc b → hb (y.2.2 1 b) e = false ∧ hb (y.2.2 2 b) e = false ∧ hb (y.2.2 3 b) e = false)) →
      (∀ b e k, b < i → 4 ≤ k → k ≤ 8 → (hb (y.2.2 k b) e = true ↔ Rc b ∧ e < m)) → (∀ k b e, (k = 4 ∨ k = 6 ∨ k = 8) → n ≤ b → b < 16 → hb (y.2.2 k b) e = false) → lp_O_findSets_6 K (k + 1) (ix i) y := by
    intro k
    induction k with
    | zero =>
      intro i y hik hfr hr h1 h4 hz1
      have hN' : y.1 2 = ix n := (hfr.1 2 (by decide)).trans hN
      rw [lp_O_findSets_6]
      simp (disch := omega) only [hN', forall_eq, l0, l1, l2, l3, l4, l5, l6, l15, l16, l24, l30, l99, l100, l200, l385, lm1, ix_ne, ne_ix, ix_nat, vp_ix, ix_inj, ix_le, ix_lt, ix_add, ix_mul, ix_sub, nar0', nar1', or00, or01, or10, or11, rI, rIA, rIL, rA, rAI, rAL, rL, rLI, rLA, ru, ruL, reduceIte, Nat.reduceEqDiff, true_or, or_true, true_and, and_true, false_or, or_false, not_true_eq_false, not_false_eq_true, false_implies, true_implies, implies_true, i10, i01]
      have : i = n := by omega
      subst this
      exact ⟨fun _ => flows y hfr hr h1 h4 hz1, fun h => absurd (by omega) h⟩
    | succ k ih =>
      intro i y hik hfr hr h1 h4 hz1
      have hN' : y.1 2 = ix n := (hfr.1 2 (by decide)).trans hN
      have hM' : y.1 3 = ix m := (hfr.1 3 (by decide)).trans hM
      have e0 : y.2.1 0 = z.2.1 0 := hfr.2.1 0 (by decide)
      have e1 : y.2.1 1 = z.2.1 1 := hfr.2.1 1 (by decide)
      have e2 : y.2.1 2 = z.2.1 2 := hfr.2.1 2 (by decide)
      have e3 : y.2.1 3 = z.2.1 3 := hfr.2.1 3 (by decide)
      rw [lp_O_findSets_6]
      simp (disch := omega) only [hN', forall_eq, l0, l1, l2, l3, l4, l5, l6, l15, l16, l24, l30, l99, l100, l200, l385, lm1, ix_ne, ne_ix, ix_nat, vp_ix, ix_inj, ix_le, ix_lt, ix_add, ix_mul, ix_sub, nar0', nar1', or00, or01, or10, or11, rI, rIA, rIL, rA, rAI, rAL, rL, rLI, rLA, ru, ruL, reduceIte, Nat.reduceEqDiff, true_or, or_true, true_and, and_true, false_or, or_false, not_true_eq_false, not_false_eq_true, false_implies, true_implies, implies_true, i10, i01]
      refine ⟨fun h => absurd h (by omega), fun _ => s_O_readBlock (sz := sz i) (by omega) (by rw [e0]; exact (hsz i (by omega)).1) (hsz i (by omega)).2 (fun k hk h => ?_) (fun k hk => ?_) (fun y1 hfr1 hoff hbits => ?_)⟩
      · rw [e1] at h; rw [e3]
        obtain ⟨e, he, h⟩ := hop i k (by omega) hk h
        exact ⟨e, by omega, h⟩
      · rw [e2]; exact htg i k (by omega) hk
      · have hM1 : y1.1 3 = ix m := (hfr1.1 3 (by decide)).trans hM'
        have hr1 : y1.2.1 10 = y.2.1 10 := hfr1.2.1 10 (by decide)
        refine s_O_fillSets (p := Rc i) (by omega) hm hM1 (by rw [hr1]; exact hr i (by omega)) (fun x hx => ?_)
        refine ih (i + 1) _ (by omega) (fr_L (fr_L (fr_L (fr_L (fr_L (fr_tr hfr (fr_mono hfr1 (by simp) (by simp) (by simp))) (by decide) _) (by decide) _) (by decide) _) (by decide) _) (by decide) _) (fun b hb1 => ?_) (fun b e hb1 he => ?_) (fun b e k hb1 hk4 hk8 => ?_) (fun k b e hk hb1 hb16 => ?_)
        · show isb (y1.2.1 10 b) (Rc b)
          rw [hr1]; exact hr b hb1
        · simp (disch := omega) only [forall_eq, l0, l1, l2, l3, l4, l5, l6, l15, l16, l24, l30, l99, l100, l200, l385, lm1, ix_ne, ne_ix, ix_nat, vp_ix, ix_inj, ix_le, ix_lt, ix_add, ix_mul, ix_sub, nar0', nar1', or00, or01, or10, or11, rI, rIA, rIL, rA, rAI, rAL, rL, rLI, rLA, ru, ruL, reduceIte, Nat.reduceEqDiff, true_or, or_true, true_and, and_true, false_or, or_false, not_true_eq_false, not_false_eq_true, false_implies, true_implies, implies_true, i10, i01]
          by_cases ebi : b = i
          · subst ebi
            have hh := hbits e he
            rw [cpC_fr hfr (by decide) (by decide), gvC_fr hfr (by decide) (by decide) (by decide)] at hh
            exact ⟨fun hrb => hh.1 (fun h0 => (isb_z (hr b (by omega))).1 h0 hrb), fun hrb => hh.2 ((isb_z (hr b (by omega))).2 hrb)⟩
          · obtain ⟨o1, o2, o3⟩ := hoff b ebi
            rw [o1, o2, o3]; exact h1 b e (by omega) he
        · have k4 := hfr1.2.2 4 (by decide)
          have k5 := hfr1.2.2 5 (by decide)
          have k6 := hfr1.2.2 6 (by decide)
          have k7 := hfr1.2.2 7 (by decide)
          have k8 := hfr1.2.2 8 (by decide)
          rcases (by omega : k = 4 ∨ k = 5 ∨ k = 6 ∨ k = 7 ∨ k = 8) with ek | ek | ek | ek | ek <;> subst ek <;> simp (disch := omega) only [k4, k5, k6, k7, k8, forall_eq, l0, l1, l2, l3, l4, l5, l6, l15, l16, l24, l30, l99, l100, l200, l385, lm1, ix_ne, ne_ix, ix_nat, vp_ix, ix_inj, ix_le, ix_lt, ix_add, ix_mul, ix_sub, nar0', nar1', or00, or01, or10, or11, rI, rIA, rIL, rA, rAI, rAL, rL, rLI, rLA, ru, ruL, reduceIte, Nat.reduceEqDiff, true_or, or_true, true_and, and_true, false_or, or_false, not_true_eq_false, not_false_eq_true, false_implies, true_implies, implies_true, i10, i01] <;> split
          · next eb => rw [eb]; exact hx e
          · exact h4 b e 4 (by omega) (by omega) (by omega)
          · next eb => rw [eb]; exact hx e
          · exact h4 b e 5 (by omega) (by omega) (by omega)
          · next eb => rw [eb]; exact hx e
          · exact h4 b e 6 (by omega) (by omega) (by omega)
          · next eb => rw [eb]; exact hx e
          · exact h4 b e 7 (by omega) (by omega) (by omega)
          · next eb => rw [eb]; exact hx e
          · exact h4 b e 8 (by omega) (by omega) (by omega)
        · have k4 := hfr1.2.2 4 (by decide)
          have k6 := hfr1.2.2 6 (by decide)
          have k8 := hfr1.2.2 8 (by decide)
          have hbi : b ≠ i := by omega
          rcases hk with ek | ek | ek <;> subst ek <;> simp (disch := omega) only [k4, k6, k8, if_neg hbi, forall_eq, l0, l1, l2, l3, l4, l5, l6, l15, l16, l24, l30, l99, l100, l200, l385, lm1, ix_ne, ne_ix, ix_nat, vp_ix, ix_inj, ix_le, ix_lt, ix_add, ix_mul, ix_sub, nar0', nar1', or00, or01, or10, or11, rI, rIA, rIL, rA, rAI, rAL, rL, rLI, rLA, ru, ruL, reduceIte, Nat.reduceEqDiff, true_or, or_true, true_and, and_true, false_or, or_false, not_true_eq_false, not_false_eq_true, false_implies, true_implies, implies_true, i10, i01]
          · exact hz1 4 b e (Or.inl rfl) hb1 hb16
          · exact hz1 6 b e (Or.inr (Or.inl rfl)) hb1 hb16
          · exact hz1 8 b e (Or.inr (Or.inr rfl)) hb1 hb16
  refine s_O_findReached hn hn0 hN hE hok hfE (fun y1 hfr1 hr1 => ⟨n + 1, ?_⟩)
  rw [l0]
  exact loop n 0 y1 (by omega) (fr_mono hfr1 (by simp) (by simp) (by simp)) hr1 (fun b e hb1 => absurd hb1 (by omega)) (fun b e k hb1 => absurd hb1 (by omega)) (fun k b e hk hb1 hb16 => by rw [hfr1.2.2 k (by simp)]; exact hz0 k b e hk hb1 hb16)
