theorem cnt_eq {f g : Nat → Bool} (h : ∀ e, f e = true ↔ g e = true) : cnt f 24 = cnt g 24 := by
  have : f = g := by
    funext e
    cases h1 : f e
    · cases h2 : g e
      · rfl
      · rw [(h e).2 h2] at h1; exact h1.symm
    · exact ((h e).1 h1).symm
  rw [this]
theorem d_plan {z : Sta} {X : Int32 → Int32 → Int32 → Sta → Prop} (hR : Rel z) (hX : ∀ k b t y, t = k → (k = ix 0 → y.2.2 10 0 = b.toInt64) → Rel y → X k b t y) : wp_L_plan z (fun k z1 => wp_M_plan z1 (fun b z2 => wp_M_thrown z2 (fun t z3 => X k b t z3))) := by
  have hR0 := hR
  obtain ⟨n, m, sz, hP, hF, hN⟩ := hR
  have hP0 := hP
  obtain ⟨hn, hm, p2, p8, p3, p9, psz, pst, ped, pex, pus, pun⟩ := hP
  obtain ⟨f1, f2, f3, f4, f5⟩ := hF
  rcases Nat.eq_zero_or_pos n with e0 | hn0
  · subst e0
    have : wp_M_plan z (fun b z2 => wp_M_thrown z2 (fun t z3 => X (ix 1) b t z3)) := by
      try simp (disch := omega) only [wp_M_plan, wp_M_thrown, wp_M_fail, p8, forall_eq, l0, l1, l2, l3, l4, l5, l6, l15, l16, l24, l30, l99, l100, l200, l385, lm1, ix_ne, ne_ix, ix_nat, vp_ix, ix_inj, ix_le, ix_lt, ix_add, ix_mul, ix_sub, nar0', nar1', or00, or01, or10, or11, rI, rIA, rIL, rA, rAI, rAL, rL, rLI, rLA, ru, ruL, reduceIte, Nat.reduceEqDiff, true_or, or_true, true_and, and_true, false_or, or_false, not_true_eq_false, not_false_eq_true, false_implies, true_implies, implies_true, i10, i01]
      exact hX _ _ _ _ rfl (fun h => absurd h i10) (Rel_fr hR0 (fr_I (fr_I (fr_refl z) (by decide) _) (by decide) _))
    try simp (disch := omega) only [wp_L_plan, wp_C_plan, p2, forall_eq, l0, l1, l2, l3, l4, l5, l6, l15, l16, l24, l30, l99, l100, l200, l385, lm1, ix_ne, ne_ix, ix_nat, vp_ix, ix_inj, ix_le, ix_lt, ix_add, ix_mul, ix_sub, nar0', nar1', or00, or01, or10, or11, rI, rIA, rIL, rA, rAI, rAL, rL, rLI, rLA, ru, ruL, reduceIte, Nat.reduceEqDiff, true_or, or_true, true_and, and_true, false_or, or_false, not_true_eq_false, not_false_eq_true, false_implies, true_implies, implies_true, i10, i01]
    first | exact this | exact Or.inl this | exact Or.inl ⟨rfl, this⟩
  have n0 : ¬ ix n = ix 0 := by
    rw [ix_inj (by omega) (by omega)]; omega
  simp only [wp_L_plan, wp_C_plan, forall_eq, l0, l1, p2, n0, not_false_eq_true, true_implies, false_implies, and_true]
  refine s_P_isWhole hn p2 ped (fun v hv => ⟨fun hv0 => ?_, fun hv0 => Or.inr ⟨trivial, ?_⟩⟩)
  rotate_left
  · have k8 : (zI z 7 (ix 0)).1 8 = ix n := by
      try simp (disch := omega) only [forall_eq, l0, l1, l2, l3, l4, l5, l6, l15, l16, l24, l30, l99, l100, l200, l385, lm1, ix_ne, ne_ix, ix_nat, vp_ix, ix_inj, ix_le, ix_lt, ix_add, ix_mul, ix_sub, nar0', nar1', or00, or01, or10, or11, rI, rIA, rIL, rA, rAI, rAL, rL, rLI, rLA, ru, ruL, reduceIte, Nat.reduceEqDiff, true_or, or_true, true_and, and_true, false_or, or_false, not_true_eq_false, not_false_eq_true, false_implies, true_implies, implies_true, i10, i01]
      exact p8
    have kd : ∀ b, b < n → edn (zI z 7 (ix 0)) b := by
      intro b hb1
      have := ped b hb1
      simp only [edn, rIA] at this ⊢
      exact this
    simp only [wp_M_plan, forall_eq, l0, k8, n0, not_false_eq_true, true_implies, false_implies, and_true]
    refine s_M_whole hn k8 kd (fun w hw => ⟨fun h => ?_, fun _ => ?_⟩)
    · have := isb_n hw h
      simp only [rIA] at this
      exact absurd this ((isb_z hv).1 hv0)
    · try simp (disch := omega) only [wp_M_fail, wp_M_thrown, forall_eq, l0, l1, l2, l3, l4, l5, l6, l15, l16, l24, l30, l99, l100, l200, l385, lm1, ix_ne, ne_ix, ix_nat, vp_ix, ix_inj, ix_le, ix_lt, ix_add, ix_mul, ix_sub, nar0', nar1', or00, or01, or10, or11, rI, rIA, rIL, rA, rAI, rAL, rL, rLI, rLA, ru, ruL, reduceIte, Nat.reduceEqDiff, true_or, or_true, true_and, and_true, false_or, or_false, not_true_eq_false, not_false_eq_true, false_implies, true_implies, implies_true, i10, i01]
      exact hX _ _ _ _ rfl (fun h => absurd h (by decide)) (Rel_fr hR0 (fr_I (fr_I (fr_refl z) (by decide) _) (by decide) _))
  have hw5 := isb_n hv hv0
  obtain ⟨E, hE⟩ : ∃ E : Nat → Nat → Prop, E = fun a c => a < n ∧ c < n ∧ (z.2.1 5 a = ix c ∨ z.2.1 6 a = ix c) := ⟨_, rfl⟩
  have hEi : ∀ a c, a < n → c < n → (E a c ↔ z.2.1 5 a = ix c ∨ z.2.1 6 a = ix c) := by
    intro a c ha hc
    rw [hE]
    exact ⟨fun h => h.2.2, fun h => ⟨ha, hc, h⟩⟩
  have hEb : ∀ a c, E a c → a < n ∧ c < n := by
    intro a c h
    rw [hE] at h
    exact ⟨h.1, h.2.1⟩
  have hcl : ∀ a c, Rch E a → E a c → Rch E c := fun a c h e => Rch_s h e
  refine s_O_findSets (sz := sz) (E := E) (m := m) ⟨hn, hn0, p2, hm, p3, hw5, fun a ha => (edn_f (ped a ha)).2.2, hEi, hEb⟩ (fun b hb1 => ⟨(psz b (by omega)).1, (psz b (by omega)).2.2.1⟩) (fun b k hb1 hk h2 => ?_) (fun b k hb1 hk => ?_) f4 (fun y fy cr cb cu cP c4 c7 cm c9 cz => ?_)
  · obtain ⟨_, s1, s2⟩ := pst b k hb1 hk
    rw [s1] at h2
    rcases s2 with ⟨q, _⟩ | ⟨q, _⟩ | ⟨q, d, hd, q1, _⟩ | q
    · rw [q] at h2; exact absurd h2 (by decide)
    · rw [q] at h2; exact absurd h2 (by decide)
    · exact ⟨d, hd, q1⟩
    · rw [q] at h2; exact absurd h2 (by decide)
  · obtain ⟨⟨t, ht, t1, _⟩, _⟩ := pst b k hb1 hk
    exact ⟨t, ht, t1⟩
  generalize hy2 : zI (zI y 0 (ix 1)) 1 ((zI y 0 (ix 1)).1 1 + ix 1) = y2
  have fy2 : fr [0, 1] [10] [1, 2, 3, 4, 5, 6, 7, 8, 9] z y2 := by
    rw [← hy2]; exact fr_I (fr_I (fr_mono fy (by decide) (by decide) (by decide)) (by decide) _) (by decide) _
  have y20 : y2.1 0 = ix 1 := by
    rw [← hy2]; try simp (disch := omega) only [forall_eq, l0, l1, l2, l3, l4, l5, l6, l15, l16, l24, l30, l99, l100, l200, l385, lm1, ix_ne, ne_ix, ix_nat, vp_ix, ix_inj, ix_le, ix_lt, ix_add, ix_mul, ix_sub, nar0', nar1', or00, or01, or10, or11, rI, rIA, rIL, rA, rAI, rAL, rL, rLI, rLA, ru, ruL, reduceIte, Nat.reduceEqDiff, true_or, or_true, true_and, and_true, false_or, or_false, not_true_eq_false, not_false_eq_true, false_implies, true_implies, implies_true, i10, i01]
  have y21 : y2.1 1 = z.1 1 + ix 1 := by
    rw [← hy2]; try simp (disch := omega) only [forall_eq, l0, l1, l2, l3, l4, l5, l6, l15, l16, l24, l30, l99, l100, l200, l385, lm1, ix_ne, ne_ix, ix_nat, vp_ix, ix_inj, ix_le, ix_lt, ix_add, ix_mul, ix_sub, nar0', nar1', or00, or01, or10, or11, rI, rIA, rIL, rA, rAI, rAL, rL, rLI, rLA, ru, ruL, reduceIte, Nat.reduceEqDiff, true_or, or_true, true_and, and_true, false_or, or_false, not_true_eq_false, not_false_eq_true, false_implies, true_implies, implies_true, i10, i01]
    rw [fy.1 1 (by decide)]
  have y2A : y2.2.1 = y.2.1 := by
    rw [← hy2]; rfl
  have y2L : y2.2.2 = y.2.2 := by
    rw [← hy2]; rfl
  have hz9 : ∀ b e, b < n → 24 ≤ e → hb (y2.2.2 9 b) e = false := by
    intro b e hb1 he
    rw [y2L]
    by_cases hr : Rch E b
    · exact cm b e hb1 hr (by omega) 9 (by omega) (by omega) (by omega)
    · exact cu b e hb1 hr 9 (by omega) (by omega)
  refine s_O_countMoved hn ((fy2.1 2 (by decide)).trans p2) hz9 (fun M hM => ?_)
  generalize hz3 : zL y2 10 (vp_updL (y2.2.2 10) 0 ((ix (cnt (fun e => hb M e) 24)).toInt64)) = z3
  have f3' : fr [0, 1] [10] [1, 2, 3, 4, 5, 6, 7, 8, 9, 10] z z3 := by
    rw [← hz3]; exact fr_L (fr_mono fy2 (by decide) (by decide) (by decide)) (by decide) _
  have z30 : z3.1 0 = ix 1 := by
    rw [← hz3]; try simp (disch := omega) only [forall_eq, l0, l1, l2, l3, l4, l5, l6, l15, l16, l24, l30, l99, l100, l200, l385, lm1, ix_ne, ne_ix, ix_nat, vp_ix, ix_inj, ix_le, ix_lt, ix_add, ix_mul, ix_sub, nar0', nar1', or00, or01, or10, or11, rI, rIA, rIL, rA, rAI, rAL, rL, rLI, rLA, ru, ruL, reduceIte, Nat.reduceEqDiff, true_or, or_true, true_and, and_true, false_or, or_false, not_true_eq_false, not_false_eq_true, false_implies, true_implies, implies_true, i10, i01]
    exact y20
  have z31 : z3.1 1 = z.1 1 + ix 1 := by
    rw [← hz3]; try simp (disch := omega) only [forall_eq, l0, l1, l2, l3, l4, l5, l6, l15, l16, l24, l30, l99, l100, l200, l385, lm1, ix_ne, ne_ix, ix_nat, vp_ix, ix_inj, ix_le, ix_lt, ix_add, ix_mul, ix_sub, nar0', nar1', or00, or01, or10, or11, rI, rIA, rIL, rA, rAI, rAL, rL, rLI, rLA, ru, ruL, reduceIte, Nat.reduceEqDiff, true_or, or_true, true_and, and_true, false_or, or_false, not_true_eq_false, not_false_eq_true, false_implies, true_implies, implies_true, i10, i01]
    exact y21
  have z3A : z3.2.1 = y.2.1 := by
    rw [← hz3]; exact y2A
  have z3L : ∀ k, k ≤ 9 → z3.2.2 k = y.2.2 k := by
    intro k hk
    rw [← hz3, ← y2L]
    exact if_neg (by omega)
  have z3T : z3.2.2 10 0 = (ix (cnt (fun e => hb M e) 24)).toInt64 := by
    rw [← hz3]; try simp (disch := omega) only [forall_eq, l0, l1, l2, l3, l4, l5, l6, l15, l16, l24, l30, l99, l100, l200, l385, lm1, ix_ne, ne_ix, ix_nat, vp_ix, ix_inj, ix_le, ix_lt, ix_add, ix_mul, ix_sub, nar0', nar1', or00, or01, or10, or11, rI, rIA, rIL, rA, rAI, rAL, rL, rLI, rLA, ru, ruL, reduceIte, Nat.reduceEqDiff, true_or, or_true, true_and, and_true, false_or, or_false, not_true_eq_false, not_false_eq_true, false_implies, true_implies, implies_true, i10, i01]
  have k8 : (zI z3 7 (ix 0)).1 8 = ix n := by
    try simp (disch := omega) only [forall_eq, l0, l1, l2, l3, l4, l5, l6, l15, l16, l24, l30, l99, l100, l200, l385, lm1, ix_ne, ne_ix, ix_nat, vp_ix, ix_inj, ix_le, ix_lt, ix_add, ix_mul, ix_sub, nar0', nar1', or00, or01, or10, or11, rI, rIA, rIL, rA, rAI, rAL, rL, rLI, rLA, ru, ruL, reduceIte, Nat.reduceEqDiff, true_or, or_true, true_and, and_true, false_or, or_false, not_true_eq_false, not_false_eq_true, false_implies, true_implies, implies_true, i10, i01]
    exact (f3'.1 8 (by decide)).trans p8
  have fw : fr [0, 1, 7] [10] [1, 2, 3, 4, 5, 6, 7, 8, 9, 10] z (zI z3 7 (ix 0)) := fr_I (fr_mono f3' (by decide) (by decide) (by decide)) (by decide) _
  simp only [wp_M_plan, forall_eq, l0, k8, n0, not_false_eq_true, true_implies, false_implies, and_true]
  generalize hw : zI z3 7 (ix 0) = w at k8 fw ⊢
  have hPw := Prg_fr hP0 fw (by decide) (by decide) (by decide)
  have pdw := hPw.2.2.2.2.2.2.2.2.1
  refine s_M_whole hn k8 pdw (fun u hu => ⟨fun _ => ?_, fun h => ?_⟩)
  rotate_left
  · refine absurd ?_ ((isb_z hu).1 h)
    rw [fw.2.1 5 (by decide), fw.2.1 6 (by decide)]
    exact hw5
  have hnx : ∀ a, a < n → okS n (nx (w.2.1 17) a 0) ∧ okS n (nx (w.2.1 17) a 1) := by
    intro a ha
    rw [fw.2.1 17 (by decide)]
    exact nx_ok hn (ped a ha) (hw5 a ha)
  have hnE : ∀ a c, a < n → c < n → (E a c ↔ nx (w.2.1 17) a 0 = ix c ∨ nx (w.2.1 17) a 1 = ix c) := by
    intro a c ha hc
    rw [fw.2.1 17 (by decide), hEi a c ha hc]
    exact (nx_edn (ped a ha) (ix c) (ix_ne (by omega))).symm
  refine s_M_reach (E := E) hn hn0 k8 hEb hnx hnE (fun y4 f4' r4 => ?_)
  refine s_M_planZ (fun y5 f5' a22 a23 => ⟨m + 1, ?_⟩)
  have g5 : fr [0, 1, 7, 12] [10, 21, 22, 23] [1, 2, 3, 4, 5, 6, 7, 8, 9, 10] z y5 := fr_tr (fr_I (fr_tr (fr_mono fw (by decide) (by decide) (by decide)) (fr_mono f4' (by decide) (by decide) (by decide))) (by decide) _) (fr_mono f5' (by decide) (by decide) (by decide))
  have r5 : ∀ b, b < 16 → isb (y5.2.1 21 b) (Rch E b) := by
    intro b hb1
    rw [f5'.2.1 21 (by decide)]
    exact r4 b hb1
  have e12 : y5.1 12 = ix 0 := by
    rw [f5'.1 12 (by decide)]; try simp (disch := omega) only [forall_eq, l0, l1, l2, l3, l4, l5, l6, l15, l16, l24, l30, l99, l100, l200, l385, lm1, ix_ne, ne_ix, ix_nat, vp_ix, ix_inj, ix_le, ix_lt, ix_add, ix_mul, ix_sub, nar0', nar1', or00, or01, or10, or11, rI, rIA, rIL, rA, rAI, rAL, rL, rLI, rLA, ru, ruL, reduceIte, Nat.reduceEqDiff, true_or, or_true, true_and, and_true, false_or, or_false, not_true_eq_false, not_false_eq_true, false_implies, true_implies, implies_true, i10, i01]
  refine s_M_planE (n := n) (E := E) (Rc := Rch E) (sz := sz) ⟨hn, hn0, (g5.1 8 (by decide)).trans p8, ?_, ?_, r5⟩ hcl hm ((g5.1 9 (by decide)).trans p9) (fun b hb1 => ?_) a22 a23 e12 (fun yf Bh Wt Lt ff d10 d11 mP m22 m23 m12 => ?_)
  · rw [g5.2.1 17 (by decide), ← fw.2.1 17 (by decide)]; exact hnx
  · rw [g5.2.1 17 (by decide), ← fw.2.1 17 (by decide)]; exact hnE
  · rw [g5.2.1 15 (by decide)]; exact ⟨(psz b hb1).2.1, (psz b hb1).2.2.1⟩
  have gf : fr [0, 1, 7, 10, 11, 12] [10, 21, 22, 23, 24, 25, 26, 28, 29, 31] [1, 2, 3, 4, 5, 6, 7, 8, 9, 10] z yf := fr_tr (fr_mono g5 (by decide) (by decide) (by decide)) (fr_mono ff (by decide) (by decide) (by decide))
  have w5 : fr [7, 12] [21, 22, 23] [] z3 y5 := by
    refine fr_tr (fr_I (fr_tr ?_ (fr_mono f4' (by decide) (by decide) (by decide))) (by decide) _) (fr_mono f5' (by decide) (by decide) (by decide))
    rw [← hw]; exact fr_I (fr_refl z3) (by decide) _
  have wf : fr [7, 10, 11, 12] [21, 22, 23, 24, 25, 26, 28, 29, 31] [] z3 yf := fr_tr (fr_mono w5 (by decide) (by decide) (by decide)) (fr_mono ff (by decide) (by decide) (by decide))
  have h7 : yf.1 7 = ix 0 := by
    rw [ff.1 7 (by decide), f5'.1 7 (by decide)]
    try simp (disch := omega) only [forall_eq, l0, l1, l2, l3, l4, l5, l6, l15, l16, l24, l30, l99, l100, l200, l385, lm1, ix_ne, ne_ix, ix_nat, vp_ix, ix_inj, ix_le, ix_lt, ix_add, ix_mul, ix_sub, nar0', nar1', or00, or01, or10, or11, rI, rIA, rIL, rA, rAI, rAL, rL, rLI, rLA, ru, ruL, reduceIte, Nat.reduceEqDiff, true_or, or_true, true_and, and_true, false_or, or_false, not_true_eq_false, not_false_eq_true, false_implies, true_implies, implies_true, i10, i01]
    rw [f4'.1 7 (by decide), ← hw]; try simp (disch := omega) only [forall_eq, l0, l1, l2, l3, l4, l5, l6, l15, l16, l24, l30, l99, l100, l200, l385, lm1, ix_ne, ne_ix, ix_nat, vp_ix, ix_inj, ix_le, ix_lt, ix_add, ix_mul, ix_sub, nar0', nar1', or00, or01, or10, or11, rI, rIA, rIL, rA, rAI, rAL, rL, rLI, rLA, ru, ruL, reduceIte, Nat.reduceEqDiff, true_or, or_true, true_and, and_true, false_or, or_false, not_true_eq_false, not_false_eq_true, false_implies, true_implies, implies_true, i10, i01]
  have q := plan_Pln (w := y5) (yf := yf) hP0 hn0 hw5 hE cr cb cu cP c4 c7 cm c9 (g5.2.1 16 (by decide)) (g5.2.1 18 (by decide)) (g5.2.1 20 (by decide)) mP m22 m23 m12 (fun b hb1 => by rw [ff.2.1 21 (by decide)]; exact r5 b hb1) (gf.2.1 5 (by decide)) (gf.2.1 6 (by decide)) ((wf.2.1 10 (by decide)).trans (by rw [z3A])) (fun k _ hk => (wf.2.2 k (by simp)).trans (z3L k hk))
  simp only [wp_M_thrown, forall_eq]
  refine hX _ _ _ _ h7 (fun _ => ?_) ⟨n, m, sz, Prg_fr hP0 gf (by decide) (by decide) (by decide), ⟨?_, ?_, ?_, fun k b e hk hb1 hb2 => ?_, fun _ => q.1⟩, Rn_fr hN gf (by decide) (by decide)⟩
  · rw [wf.2.2 10 (by simp), z3T]
    rw [cnt_eq (fun e => (hM e).trans (by rw [y2L]; exact (q.2.2 e).symm))]
  · rw [wf.1 0 (by decide), z30, d10]
  · rw [wf.1 0 (by decide), z30]; exact Or.inr rfl
  · rw [wf.1 1 (by decide), z31, d11, g5.1 11 (by decide), f3]
  · rw [wf.2.2 k (by simp), z3L k (by omega)]
    exact cz k b e hk hb1 hb2
