theorem Fr_st {z s : Sta} (j : Nat) (x : Nat → Bool) (h : Fr z s) : Fr z (stF j x s) := fr_tr h (fr_mono (stF_fr j x (fr_refl s)) (by decide) (by decide) (by decide))
theorem Fr_bl {z s : Sta} (k j : Nat) (x : Nat → Bool) (h : Fr z s) : Fr z (blF k j x s) := fr_tr h (fr_mono (blF_fr k j x s (fr_refl s)) (by decide) (by decide) (by decide))
theorem Fr_al {z s : Sta} (k j : Nat) (x : Nat → Bool) (h : Fr z s) : Fr z (alF k j x s) := fr_tr h (fr_mono (alF_fr k j s (fr_refl s)) (by decide) (by decide) (by decide))
theorem l480 : (480 : Int32) = ix 480 := rfl
theorem s_M_pass {yy : Sta} {n m c p a : Nat} {sz : Nat → Nat} {f : Int32} {z s r : Sta} {K : Sta → Prop} (hP : Prg n m sz z) (hL : Pln n z) (hs : Fr z s) (hr : Fr z r) (h : Ag yy m f c p s r) (ha : a < n) (hc : c < 1000) (hK : ∀ r', Fr z r' → Ag yy m f (c + sz a) p (blF (sz a) (5 * a) (if f = ix 0 then (fun _ => false) else (fun e => hw (s.2.1 22 (6 * a + 5)) e)) s) r' → K r') : wp_M_pass (ix a) f r K := by
  have hn := hP.1
  have hm := hP.2.1
  have hsz : sz a ≤ 5 := (hP.2.2.2.2.2.2.1 a (by omega)).2.2.1
  have loop : ∀ (k i : Nat) (v : Int32) (x : Nat → Bool) (s r : Sta), i + k = sz a → Fr z s → Fr z r → (∀ e, e < 24 → hw v e = x e) → (¬ f = ix 0 → ∀ e, e < 24 → x e = true → hw (z.1 12) e = true) → (f = ix 0 → ∀ e, x e = false) → Ag yy m f (c + i) p s r → (∀ r', Fr z r' → Ag yy m f (c + sz a) p (blF k (5 * a + i) x s) r' → K r') → lp_M_pass_23 K (k + 1) (ix a) f v (ix i) r := by
    intro k
    induction k with
    | zero =>
      intro i v x s r hik hs hr hx hmv hx0 h hK
      have h15 : r.2.1 15 a = ix (sz a) := by
        rw [hr.2.1 15 (by decide)]; exact (hP.2.2.2.2.2.2.1 a (by omega)).2.1
      rw [lp_M_pass_23]
      try simp (disch := omega) only [h15, forall_eq, l0, l1, l2, l3, l4, l5, l6, l15, l16, l24, l30, l99, l100, l200, l385, lm1, ix_ne, ne_ix, ix_nat, vp_ix, ix_inj, ix_le, ix_lt, ix_add, ix_mul, ix_sub, nar0', nar1', or00, or01, or10, or11, rI, rIA, rIL, rA, rAI, rAL, rL, rLI, rLA, ru, ruL, reduceIte, Nat.reduceEqDiff, true_or, or_true, true_and, and_true, false_or, or_false, not_true_eq_false, not_false_eq_true, false_implies, true_implies, implies_true, i10, i01]
      have : i = sz a := by omega
      rw [this] at h
      exact ⟨by omega, fun _ => hK r hr h, fun h => absurd (by omega) h⟩
    | succ k ih =>
      intro i v x s r hik hs hr hx hmv hx0 h hK
      have hPs := Fr_P hP hs
      have hPr := Fr_P hP hr
      have h15 : r.2.1 15 a = ix (sz a) := (hPr.2.2.2.2.2.2.1 a (by omega)).2.1
      obtain ⟨⟨t, ht, t1, t2⟩, s1, s2⟩ := hP.2.2.2.2.2.2.2.1 a i ha (by omega)
      rw [← hs.2.1 2 (by decide)] at t1
      rw [← hs.2.1 1 (by decide)] at s1
      rw [← hs.2.1 3 (by decide)] at s2
      rw [← hr.2.1 16 (by decide)] at t2 s1 s2
      have h' := Ag_up h (show c + i ≤ c + (i + 1) by omega)
      have fs := Fr_st (5 * a + i) x hs
      rw [blF] at hK
      rcases s2 with ⟨q, b', hb', q1, q2⟩ | ⟨q, q1⟩ | ⟨q, e, he, q1, q2⟩ | q
      · have k1 : s.2.1 1 (5 * a + i) = ix 0 := s1.trans q
        have e1 : stF (5 * a + i) x s = zA s 11 (upd (s.2.1 11) t (r.2.1 32 b')) := by
          rw [← h.1 b' hb']
          simp only [stF, k1, t1, q1, reduceIte, ix_nat (show t < 2147483648 by omega), ix_nat (show b' < 2147483648 by omega)]
        have e2 : sxF (5 * a + i) x s = x := by
          unfold sxF; rw [if_neg (by rw [k1]; decide)]
        rw [e1] at fs
        rw [e1, e2] at hK
        rw [lp_M_pass_23]
        try simp (disch := omega) only [h15, q, t2, q2, pj_M_pass_221, forall_eq, l0, l1, l2, l3, l4, l5, l6, l15, l16, l24, l30, l99, l100, l200, l385, lm1, ix_ne, ne_ix, ix_nat, vp_ix, ix_inj, ix_le, ix_lt, ix_add, ix_mul, ix_sub, nar0', nar1', or00, or01, or10, or11, rI, rIA, rIL, rA, rAI, rAL, rL, rLI, rLA, ru, ruL, reduceIte, Nat.reduceEqDiff, true_or, or_true, true_and, and_true, false_or, or_false, not_true_eq_false, not_false_eq_true, false_implies, true_implies, implies_true, i10, i01]
        refine ⟨by omega, fun h => absurd h (by omega), fun _ => ?_⟩
        repeat (refine ⟨by omega, ?_⟩)
        exact ih (i + 1) _ x _ _ (by omega) fs (Fr_A hr (by decide) _) hx hmv hx0 (Ag_v h') hK
      · have k1 : s.2.1 1 (5 * a + i) = ix 1 := s1.trans q
        have e1 : stF (5 * a + i) x s = zA s 11 (upd (s.2.1 11) t (r.2.1 16 (30 * a + 6 * i + 2))) := by
          rw [← q1]
          simp only [stF, k1, t1, reduceIte, i10, ix_nat (show t < 2147483648 by omega)]
        have e2 : sxF (5 * a + i) x s = x := by
          unfold sxF; rw [if_neg (by rw [k1]; decide)]
        rw [e1] at fs
        rw [e1, e2] at hK
        rw [lp_M_pass_23]
        try simp (disch := omega) only [h15, q, t2, pj_M_pass_221, forall_eq, l0, l1, l2, l3, l4, l5, l6, l15, l16, l24, l30, l99, l100, l200, l385, lm1, ix_ne, ne_ix, ix_nat, vp_ix, ix_inj, ix_le, ix_lt, ix_add, ix_mul, ix_sub, nar0', nar1', or00, or01, or10, or11, rI, rIA, rIL, rA, rAI, rAL, rL, rLI, rLA, ru, ruL, reduceIte, Nat.reduceEqDiff, true_or, or_true, true_and, and_true, false_or, or_false, not_true_eq_false, not_false_eq_true, false_implies, true_implies, implies_true, i10, i01]
        refine ⟨by omega, fun h => absurd h (by omega), fun _ => ?_⟩
        repeat (refine ⟨by omega, ?_⟩)
        exact ih (i + 1) _ x _ _ (by omega) fs (Fr_A hr (by decide) _) hx hmv hx0 (Ag_v h') hK
      · have k1 : s.2.1 1 (5 * a + i) = ix 2 := s1.trans q
        have n20 : ¬ ix 2 = ix 0 := by decide
        have n21 : ¬ ix 2 = ix 1 := by decide
        have e2 : sxF (5 * a + i) x s = fun d => x d && !decide (d = e) := by
          simp only [sxF, k1, q1, reduceIte, ix_nat (show e < 2147483648 by omega)]
        have hx' : ∀ d, d < 24 → hw (v &&& (ix 1 <<< (ix e &&& 31) ^^^ mi)) d = sxF (5 * a + i) x s d := by
          intro d hd
          rw [e2, hw_andn, hw_one (by omega), hx d hd]
        have hmv' : ¬ f = ix 0 → ∀ d, d < 24 → sxF (5 * a + i) x s d = true → hw (z.1 12) d = true := by
          intro hf d hd hh
          rw [e2] at hh
          exact hmv hf d hd (Bool.and_eq_true _ _ ▸ hh).1
        have hx0' : f = ix 0 → ∀ d, sxF (5 * a + i) x s d = false := by
          intro hf d
          rw [e2]
          simp only [hx0 hf d, Bool.false_and]
        have eT : x e = true → stF (5 * a + i) x s = zA s 11 (upd (s.2.1 11) t (s.2.1 14 e)) := by
          intro hq
          simp only [stF, k1, t1, q1, reduceIte, n20, n21, hq, ix_nat (show t < 2147483648 by omega), ix_nat (show e < 2147483648 by omega)]
        have eF : ¬ x e = true → stF (5 * a + i) x s = zA (cpF e s) 11 (upd ((cpF e s).2.1 11) t (ev s e)) := by
          intro hq
          simp only [stF, k1, t1, q1, reduceIte, n20, n21, hq, ix_nat (show t < 2147483648 by omega), ix_nat (show e < 2147483648 by omega)]
          first | rfl | exact if_neg Bool.false_ne_true
        have fin : ∀ w r', Fr z r' → (hw v e = true → w = s.2.1 14 e ∧ Ag yy m f (c + (i + 1)) p s r') → (¬ hw v e = true → w = ev s e ∧ Ag yy m f (c + (i + 1)) p (cpF e s) r') → lp_M_pass_23 K (k + 1) (ix a) f (v &&& (ix 1 <<< (ix e &&& 31) ^^^ mi)) (ix (i + 1)) (zA r' 32 (upd (r'.2.1 32) t w)) := by
          intro w r' hr' g1 g2
          rw [hx e (by omega)] at g1 g2
          by_cases hq : x e = true
          · obtain ⟨g3, g4⟩ := g1 hq
            rw [eT hq] at fs hK
            rw [g3]
            exact ih (i + 1) _ _ _ _ (by omega) fs (Fr_A hr' (by decide) _) hx' hmv' hx0' (Ag_v g4) hK
          · obtain ⟨g3, g4⟩ := g2 hq
            rw [eF hq] at fs hK
            rw [g3]
            exact ih (i + 1) _ _ _ _ (by omega) fs (Fr_A hr' (by decide) _) hx' hmv' hx0' (Ag_v g4) hK
        rw [lp_M_pass_23]
        try simp (disch := omega) only [h15, q, t2, q2, pj_M_pass_221, pj_M_pass_163, forall_eq, l0, l1, l2, l3, l4, l5, l6, l15, l16, l24, l30, l99, l100, l200, l385, lm1, ix_ne, ne_ix, ix_nat, vp_ix, ix_inj, ix_le, ix_lt, ix_add, ix_mul, ix_sub, nar0', nar1', or00, or01, or10, or11, rI, rIA, rIL, rA, rAI, rAL, rL, rLI, rLA, ru, ruL, reduceIte, Nat.reduceEqDiff, true_or, or_true, true_and, and_true, false_or, or_false, not_true_eq_false, not_false_eq_true, false_implies, true_implies, implies_true, i10, i01]
        refine ⟨by omega, fun h => absurd h (by omega), fun _ => ?_⟩
        repeat (refine ⟨by omega, ?_⟩)
        refine ⟨fun hf => s_M_worked hPr he ?_, fun hf => s_M_newly hP hs hr h' hf he (fun g => ?_) (fun w r' hr' g1 g2 => ⟨by omega, fin w r' hr' g1 g2⟩)⟩
        · refine ⟨by omega, fin _ _ (Fr_wk hr e) (fun g => ?_) (fun _ => ⟨(ev_ew hP hs hr h he).symm, ?_⟩)⟩
          · rw [hx e (by omega), hx0 hf e] at g; exact absurd g Bool.false_ne_true
          · exact Ag_c h' he rfl rfl rfl rfl rfl rfl rfl (fr_A (fr_I (fr_refl r) (by decide) _) (by decide) _) (fun hf' => absurd hf hf')
        · rw [hr.1 12 (by decide)]
          rw [hx e (by omega)] at g
          exact hmv hf e (by omega) g
      · have k1 : s.2.1 1 (5 * a + i) = ix 3 := s1.trans q
        have n30 : ¬ ix 3 = ix 0 := by decide
        have n31 : ¬ ix 3 = ix 1 := by decide
        have n32 : ¬ ix 3 = ix 2 := by decide
        have e2 : sxF (5 * a + i) x s = x := by
          unfold sxF; rw [if_neg (by rw [k1]; decide)]
        obtain ⟨a1, a2, a3, ⟨g, hg1, hg2, hg3, hg4⟩, a5, a6, a7⟩ := h
        rw [lp_M_pass_23]
        try simp (disch := omega) only [h15, q, t2, hg3, pj_M_pass_221, pj_M_pass_211, forall_eq, l0, l1, l2, l3, l4, l5, l6, l15, l16, l24, l30, l99, l100, l200, l385, lm1, ix_ne, ne_ix, ix_nat, vp_ix, ix_inj, ix_le, ix_lt, ix_add, ix_mul, ix_sub, nar0', nar1', or00, or01, or10, or11, rI, rIA, rIL, rA, rAI, rAL, rL, rLI, rLA, ru, ruL, reduceIte, Nat.reduceEqDiff, true_or, or_true, true_and, and_true, false_or, or_false, not_true_eq_false, not_false_eq_true, false_implies, true_implies, implies_true, i10, i01]
        refine ⟨by omega, fun h => absurd h (by omega), fun _ => ?_⟩
        repeat (refine ⟨by omega, ?_⟩)
        refine ⟨fun hq => ?_, fun hq => ?_⟩
        · have e1 : stF (5 * a + i) x s = zI s 5 (ix (g + 1)) := by
            simp only [stF, k1, t1, hg2, reduceIte, n30, n31, n32, ix_add]
            exact if_pos ((ix_le (by omega) (by omega)).2 hq)
          rw [e1] at fs
          rw [e1, e2] at hK
          refine ih (i + 1) _ x _ _ (by omega) fs (Fr_I hr (by decide) _) hx hmv hx0 ⟨a1, a2, a3, ⟨g + 1, by omega, rfl, rfl, fun j hj1 hj2 => ?_⟩, a5, a6, a7.1, fr_I a7.2 (by decide) _⟩ hK
          exact hg4 j hj1 (by omega)
        · have e1 : stF (5 * a + i) x s = zI (zA s 13 (upd (s.2.1 13) g (s.2.1 11 t))) 5 (ix (g + 1)) := by
            simp only [stF, k1, t1, hg2, reduceIte, n30, n31, n32, ix_add, ix_nat (show t < 2147483648 by omega), ix_nat (show g < 2147483648 by omega)]
            exact if_neg (fun hh => hq ((ix_le (by omega) (by omega)).1 hh))
          rw [e1] at fs
          rw [e1, e2] at hK
          repeat (refine ⟨by omega, ?_⟩)
          refine ih (i + 1) _ x _ _ (by omega) fs (Fr_I (Fr_A hr (by decide) _) (by decide) _) hx hmv hx0 ⟨a1, a2, a3, ⟨g + 1, by omega, rfl, rfl, fun j hj1 hj2 => ?_⟩, a5, a6, a7.1, fr_I (fr_A a7.2 (by decide) _) (by decide) _⟩ hK
          show upd (s.2.1 13) g (s.2.1 11 t) j = upd (r.2.1 35) g (r.2.1 32 t) j
          rw [ru, ru, a1 t ht]
          split
          · rfl
          · exact hg4 j hj1 (by omega)
  have start : ∀ (v : Int32) (x : Nat → Bool), (∀ e, e < 24 → hw v e = x e) → (¬ f = ix 0 → ∀ e, e < 24 → x e = true → hw (z.1 12) e = true) → (f = ix 0 → ∀ e, x e = false) → x = (if f = ix 0 then (fun _ => false) else (fun e => hw (s.2.1 22 (6 * a + 5)) e)) → pj_M_pass_19 K (ix a) f v r := by
    intro v x g1 g2 g3 g4
    rw [← g4] at hK
    exact ⟨sz a + 1, loop (sz a) 0 v x s r (by omega) hs hr g1 g2 g3 h hK⟩
  try simp (disch := omega) only [wp_M_pass, forall_eq, l0, l1, l2, l3, l4, l5, l6, l15, l16, l24, l30, l99, l100, l200, l385, lm1, ix_ne, ne_ix, ix_nat, vp_ix, ix_inj, ix_le, ix_lt, ix_add, ix_mul, ix_sub, nar0', nar1', or00, or01, or10, or11, rI, rIA, rIL, rA, rAI, rAL, rL, rLI, rLA, ru, ruL, reduceIte, Nat.reduceEqDiff, true_or, or_true, true_and, and_true, false_or, or_false, not_true_eq_false, not_false_eq_true, false_implies, true_implies, implies_true, i10, i01]
  refine ⟨fun hf => start _ (fun _ => false) (fun e _ => hw_0 e) (fun h => absurd hf h) (fun _ _ => rfl) (by rw [if_pos hf]), fun hf => ⟨by omega, ?_⟩⟩
  have e22 : r.2.1 22 = s.2.1 22 := (hr.2.1 22 (by decide)).trans (hs.2.1 22 (by decide)).symm
  rw [e22]
  refine start _ (fun e => hw (s.2.1 22 (6 * a + 5)) e) (fun _ _ => rfl) (fun _ e he hh => ?_) (fun h => absurd h hf) (by rw [if_neg hf])
  refine hL.2.2.2.2.2.2.2.2 a e ha he ?_
  rw [(hL.2.2.2.2.2.1 a ha).2.2.2.2.2, hb_w he, ← hs.2.1 22 (by decide)]
  exact hh
