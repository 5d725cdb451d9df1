theorem midF_fr {m : Nat} {sz : Nat → Nat} {f : Int32} {z : Sta} : ∀ (k a p : Nat) (s : Sta), fr [4, 5, 6] [11, 12, 13, 14] [] z s → fr [4, 5, 6] [11, 12, 13, 14] [] z (midF m sz f k a p s)
  | 0, _, _, _, h => h
  | k + 1, a, p, s, h => by
    rw [midF]
    have h2 := blF_fr (sz a) (5 * a) (if f = ix 0 then (fun _ => false) else (fun e => hw (s.2.1 22 (6 * a + 5)) e)) s h
    generalize blF (sz a) (5 * a) (if f = ix 0 then (fun _ => false) else (fun e => hw (s.2.1 22 (6 * a + 5)) e)) s = s2 at h2 ⊢
    simp only
    split
    · exact fr_I h2 (by decide) _
    · split
      · exact fr_I h2 (by decide) _
      · refine midF_fr k _ _ _ ?_
        split
        · exact h2
        · exact alF_fr m 0 s2 h2
theorem d_run {z : Sta} {f a b c : Int32} {X : Int32 → Int32 → Int32 → Sta → Prop} (hR : Rel z) (hX : ∀ k b t y, t = k → (k = ix 0 → y.2.2 10 0 = b.toInt64) → Rel y → X k b t y) : wp_L_run f a b c z (fun k z1 => wp_M_run f a b c z1 (fun b z2 => wp_M_thrown z2 (fun t z3 => X k b t z3))) := by
  have hR0 := hR
  obtain ⟨n, m, sz, hP, hF, hN⟩ := hR
  have hF0 := hF
  obtain ⟨f1, f2, f3, f4, f5⟩ := hF
  have hm := hP.2.1
  rcases f2 with h0 | h0
  · have h10 : z.1 10 = ix 0 := f1.symm.trans h0
    have : wp_M_run f a b c z (fun b z2 => wp_M_thrown z2 (fun t z3 => X (ix 1) b t z3)) := by
      try simp (disch := omega) only [wp_M_run, wp_M_thrown, wp_M_fail, h10, forall_eq, l0, l1, l2, l3, l4, l5, l6, l15, l16, l24, l30, l99, l100, l200, l385, lm1, ix_ne, ne_ix, ix_nat, vp_ix, ix_inj, ix_le, ix_lt, ix_add, ix_mul, ix_sub, nar0', nar1', or00, or01, or10, or11, rI, rIA, rIL, rA, rAI, rAL, rL, rLI, rLA, ru, ruL, reduceIte, Nat.reduceEqDiff, true_or, or_true, true_and, and_true, false_or, or_false, not_true_eq_false, not_false_eq_true, false_implies, true_implies, implies_true, i10, i01]
      exact hX _ _ _ _ rfl (fun h => absurd h i10) (Rel_fr hR0 (fr_I (fr_I (fr_refl z) (by decide) _) (by decide) _))
    try simp (disch := omega) only [wp_L_run, wp_C_run, h0, forall_eq, l0, l1, l2, l3, l4, l5, l6, l15, l16, l24, l30, l99, l100, l200, l385, lm1, ix_ne, ne_ix, ix_nat, vp_ix, ix_inj, ix_le, ix_lt, ix_add, ix_mul, ix_sub, nar0', nar1', or00, or01, or10, or11, rI, rIA, rIL, rA, rAI, rAL, rL, rLI, rLA, ru, ruL, reduceIte, Nat.reduceEqDiff, true_or, or_true, true_and, and_true, false_or, or_false, not_true_eq_false, not_false_eq_true, false_implies, true_implies, implies_true, i10, i01]
    first | exact this | exact ⟨rfl, this⟩
  · have hL := f5 h0
    have h10 : z.1 10 = ix 1 := f1.symm.trans h0
    simp only [wp_L_run, wp_C_run, forall_eq, l0, l1, h0, i10, not_false_eq_true, true_implies, false_implies, and_true]
    refine s_K_reset (fun s fs c4 c5 c11 c12 c14 => s_K_goThrough hP hL fs c5 ?_)
    have fS := midF_fr (m := m) (sz := sz) (f := f) 200 0 0 (if f = ix 0 then s else alF m 0 (fun e => hw (s.2.1 23 256) e) s) (by split; exact fs; exact alF_fr m 0 s fs)
    have main : ∀ (u : Sta), u = zL (midF m sz f 200 0 0 (if f = ix 0 then s else alF m 0 (fun e => hw (s.2.1 23 256) e) s)) 10 (vp_updL ((midF m sz f 200 0 0 (if f = ix 0 then s else alF m 0 (fun e => hw (s.2.1 23 256) e) s)).2.2 10) 0 ((midF m sz f 200 0 0 (if f = ix 0 then s else alF m 0 (fun e => hw (s.2.1 23 256) e) s)).1 4).toInt64) → wp_M_run f a b c u (fun b z2 => wp_M_thrown z2 (fun t z3 => X (ix 0) b t z3)) := by
      intro u hu
      have fu : fr [4, 5, 6] [11, 12, 13, 14] [10] z u := by
        rw [hu]; exact fr_L (fr_mono fS (by decide) (by decide) (by decide)) (by decide) _
      have u10 : (zI u 7 (ix 0)).1 10 = ix 1 := (fu.1 10 (by decide)).trans h10
      simp only [wp_M_run, forall_eq, l0, u10, i10, not_false_eq_true, true_implies, false_implies, and_true]
      refine ⟨7, s_M_runV (fun y1 g1 a32 => ⟨25, s_M_runZ (fun y2 g2 a33 => ?_)⟩)⟩
      have e24 : ix 24 ≤ ix 24 := by decide
      have v256 : vp_in (ix 256) 257 := (vp_ix (by omega)).2 (by omega)
      have l256' : (256 : Int32) = ix 256 := rfl
      rw [lp_M_run_75]
      simp only [l24, l0, l256', e24, v256, not_true_eq_false, false_implies, and_true, true_implies, true_and, forall_eq, ix_nat (show 256 < 2147483648 by omega)]
      have g8 : fr [7, 13, 14, 15] [32, 33, 34] [] u (zI (zI (zI y2 13 (ix 0)) 14 (ix 0)) 15 (ix 0)) := fr_I (fr_I (fr_I (fr_tr (fr_tr (fr_I (fr_refl u) (by decide) _) (fr_mono g1 (by decide) (by decide) (by decide))) (fr_mono g2 (by decide) (by decide) (by decide))) (by decide) _) (by decide) _) (by decide) _
      have e7 : (zI (zI (zI y2 13 (ix 0)) 14 (ix 0)) 15 (ix 0)).1 7 = ix 0 := (g2.1 7 (by decide)).trans (g1.1 7 (by decide))
      have A0 : Ag (zI (zI (zI y2 13 (ix 0)) 14 (ix 0)) 15 (ix 0)) m f (5 * 0) 0 s (zI (zI (zI y2 13 (ix 0)) 14 (ix 0)) 15 (ix 0)) := by
        refine ⟨fun i hi => ?_, fun e he => ?_, fun _ e he _ => ?_, ⟨0, by omega, c5, rfl, fun i _ hi => absurd hi (by omega)⟩, c4, rfl, fun e _ he => c12 e he, fr_refl _⟩
        · rw [c11 i hi]
          show in3 a b c i = y2.2.1 32 i
          rw [g2.2.1 32 (by decide), a32 i hi]
        · rw [c12 e he]; exact ((a33 e he).2).symm
        · rw [c14 e he]; exact ((a33 e he).1).symm
      generalize zI (zI (zI y2 13 (ix 0)) 14 (ix 0)) 15 (ix 0) = r0 at g8 e7 A0 ⊢
      have hs : Fr z s := fr_mono fs (by decide) (by decide) (by decide)
      have hr0 : Fr z r0 := fr_tr (fr_mono fu (by decide) (by decide) (by decide)) (fr_mono g8 (by decide) (by decide) (by decide))
      have fin : ∀ S, S = midF m sz f 200 0 0 (if f = ix 0 then s else alF m 0 (fun e => hw (s.2.1 23 256) e) s) → ∀ p' r', Fr z r' → Ag r0 m f 1000 p' S r' → S.1 6 = ix p' → wp_M_thrown r' (fun t z3 => X (ix 0) (r'.1 15) t z3) := by
        intro S hS p' r' hr' hA h6
        rw [← hS] at hu
        obtain ⟨b1, b2, b3, ⟨g, hg1, hg2, hg3, hg4⟩, b5, b6, b7, b8⟩ := hA
        have uS : ∀ k, u.1 k = S.1 k := fun k => by rw [hu]; rfl
        have uA : ∀ k, u.2.1 k = S.2.1 k := fun k => by rw [hu]; rfl
        have rI : ∀ k, k ∉ [7, 13, 14, 15] → r'.1 k = S.1 k := fun k hk => by
          rw [b8.1 k (fun h => hk (by simp at h ⊢; omega)), g8.1 k hk, uS]
        have rA : ∀ k, k ∉ [32, 33, 34, 35] → r'.2.1 k = S.2.1 k := fun k hk => by
          rw [b8.2.1 k hk, g8.2.1 k (fun h => hk (by simp at h ⊢; omega)), uA]
        simp only [wp_M_thrown, forall_eq]
        refine hX _ _ _ _ ((b8.1 7 (by decide)).trans e7) (fun _ => ?_) ⟨n, m, sz, Fr_P hP hr', Flg_fr hF0 hr' (by decide) (by decide) (by decide), ⟨g, hg1, ?_, hg3, fun i hi hig => ?_⟩, ?_, fun i hi => ?_, fun e he => ?_, fun e he1 he2 => ?_⟩
        · rw [b8.2.2 10 (by simp), g8.2.2 10 (by simp), hu, ← b5]
          try simp (disch := omega) only [forall_eq, l0, l1, l2, l3, l4, l5, l6, l15, l16, l24, l30, l99, l100, l200, l385, lm1, ix_ne, ne_ix, ix_nat, vp_ix, ix_inj, ix_le, ix_lt, ix_add, ix_mul, ix_sub, nar0', nar1', or00, or01, or10, or11, rI, rIA, rIL, rA, rAI, rAL, rL, rLI, rLA, ru, ruL, reduceIte, Nat.reduceEqDiff, true_or, or_true, true_and, and_true, false_or, or_false, not_true_eq_false, not_false_eq_true, false_implies, true_implies, implies_true, i10, i01]
        · rw [rI 5 (by decide)]; exact hg2
        · rw [rA 13 (by decide)]; exact hg4 i hi hig
        · rw [rI 6 (by decide), h6, b6]
        · rw [rA 11 (by decide)]; exact b1 i hi
        · rw [rA 12 (by decide)]; exact b2 e he
        · rw [rA 12 (by decide)]; exact b7 e he1 he2
      refine ⟨fun hf => ?_, fun hf => ?_⟩
      · rw [if_pos hf] at fin
        exact ⟨201, s_M_mid hP hL 200 0 0 s r0 (by omega) (by omega) hL.1 hL.2.2.2.1 hs hr0 A0 (fun p' r' h1 h2 h3 => fin _ rfl p' r' h1 h2 h3)⟩
      · rw [if_neg hf] at fin
        have e23 : r0.2.1 23 = s.2.1 23 := (hr0.2.1 23 (by decide)).trans (hs.2.1 23 (by decide)).symm
        rw [e23]
        refine s_M_cross hP hs hr0 A0 (fun r1 hr1 A1 => ⟨201, ?_⟩)
        exact s_M_mid hP hL 200 0 0 _ r1 (by omega) (by omega) hL.1 hL.2.2.2.1 (Fr_al m 0 _ hs) hr1 A1 (fun p' r' h1 h2 h3 => fin _ rfl p' r' h1 h2 h3)
    exact main _ rfl
