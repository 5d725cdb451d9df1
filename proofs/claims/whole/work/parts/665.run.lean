theorem Ag_p {yy : Sta} {m c p q : Nat} {f : Int32} {s r : Sta} (h : Ag yy m f c p s r) : Ag yy m f c q s (zI r 14 (ix q)) := by
  obtain ⟨a1, a2, a3, a4, a5, a6, a7⟩ := h
  exact ⟨a1, a2, a3, a4, a5, rfl, a7.1, fr_I a7.2 (by decide) _⟩
theorem Ag_6 {yy : Sta} {m c p : Nat} {f v : Int32} {s r : Sta} (h : Ag yy m f c p s r) : Ag yy m f c p (zI s 6 v) r := by
  obtain ⟨a1, a2, a3, a4, a5, a6, a7⟩ := h
  exact ⟨a1, a2, a3, a4, a5, a6, a7⟩
theorem s_M_mid {yy : Sta} {n m : Nat} {sz : Nat → Nat} {z : Sta} {K : Int32 → Sta → Prop} {f : Int32} (hP : Prg n m sz z) (hL : Pln n z) : ∀ (k a p : Nat) (s r : Sta), p + k = 200 → p < 200 → a < n → z.2.1 10 a = ix 1 → Fr z s → Fr z r → Ag yy m f (5 * p) p s r → (∀ p' r', Fr z r' → Ag yy m f 1000 p' (midF m sz f k a p s) r' → (midF m sz f k a p s).1 6 = ix p' → K (r'.1 15) r') → lp_M_run_138 K (k + 1) f (ix a) r := by
  have hn := hP.1
  have hm := hP.2.1
  intro k
  induction k with
  | zero => intro a p s r h1 h2; omega
  | succ k ih =>
    intro a p s r hpk hp ha hra hs hr h hK
    have hsz : sz a ≤ 5 := (hP.2.2.2.2.2.2.1 a (by omega)).2.2.1
    have na0 : ¬ ix a < ix 0 := ix_nlt0 (by omega)
    rw [lp_M_run_138]
    simp only [l0, l1, l2, l3, l4, lm1, l200, na0, false_implies, true_and, not_false_eq_true, true_implies]
    refine s_M_pass hP hL hs hr h ha (by omega) (fun r1 hr1 h1 => ?_)
    rw [midF] at hK
    have f2 := Fr_bl (sz a) (5 * a) (if f = ix 0 then (fun _ => false) else (fun e => hw (s.2.1 22 (6 * a + 5)) e)) hs
    generalize blF (sz a) (5 * a) (if f = ix 0 then (fun _ => false) else (fun e => hw (s.2.1 22 (6 * a + 5)) e)) s = s2 at hK f2 h1
    simp only at hK
    have h14 : r1.1 14 = ix p := h1.2.2.2.2.2.1
    have hr2 : Fr z (zI r1 14 (ix (p + 1))) := Fr_I hr1 (by decide) _
    have h2 : Ag yy m f (5 * (p + 1)) (p + 1) s2 (zI r1 14 (ix (p + 1))) := Ag_p (Ag_up h1 (by omega))
    simp only [forall_eq, h14, ix_add]
    have p14 : (zI r1 14 (ix (p + 1))).1 14 = ix (p + 1) := rfl
    generalize zI r1 14 (ix (p + 1)) = r2 at hr2 h2 p14 ⊢
    have q2 : okS n (s2.2.1 5 a) ∧ okS n (s2.2.1 6 a) := by
      rw [f2.2.1 5 (by decide), f2.2.1 6 (by decide)]; exact hL.2.2.1 a ha
    have nk := nxt_ok (s := s2) q2
    have mlt : mi < ix 0 := by decide
    have stop : (nxt s2 a = mi ∨ 200 ≤ p + 1) → lp_M_run_138 K (k + 1) f mi r2 := by
      intro hst
      rw [lp_M_run_138]
      simp only [l0, l1, l2, l3, l4, lm1, mlt, true_implies, forall_eq, not_true_eq_false, false_implies, and_true]
      have e1 : (if nxt s2 a = mi then zI s2 6 (ix (p + 1)) else if 200 ≤ p + 1 then zI s2 6 (ix (p + 1)) else midF m sz f k (nxt s2 a).toNatClampNeg (p + 1) (if f = ix 0 then s2 else alF m 0 (fun e => hw (s2.2.1 23 (16 * a + (nxt s2 a).toNatClampNeg)) e) s2)) = zI s2 6 (ix (p + 1)) := by
        by_cases e : nxt s2 a = mi
        · rw [if_pos e]
        · rw [if_neg e, if_pos (hst.resolve_left e)]
      rw [e1] at hK
      exact hK (p + 1) r2 hr2 (Ag_6 (Ag_up h2 (by omega))) rfl
    have stop2 : (nxt s2 a = mi ∨ 200 ≤ p + 1) → pj_M_run_240 K (fun x1 x5 z => lp_M_run_138 K (k + 1) x1 x5 z) f (ix a) mi r2 := by
      intro hst
      simp only [pj_M_run_240, pj_M_run_268, l0, mlt, not_true_eq_false, false_implies, and_true, true_implies]
      exact ⟨fun _ => stop hst, fun _ => stop hst⟩
    have go : ∀ y0, y0 = nxt s2 a → p + 1 < 200 → pj_M_run_240 K (fun x1 x5 z => lp_M_run_138 K (k + 1) x1 x5 z) f (ix a) y0 r2 := by
      intro y0 hy0 hp1
      rcases nk.1 with e | ⟨c, hc, e⟩
      · rw [hy0, e]; exact stop2 (Or.inl e)
      · have hE := nk.2 c e
        rw [f2.2.1 5 (by decide), f2.2.1 6 (by decide)] at hE
        have hrc : z.2.1 10 c = ix 1 := hL.2.2.2.2.1 a c ha hc hra hE
        have nc0 : ¬ ix c < ix 0 := ix_nlt0 (by omega)
        have ncm : ¬ ix c = mi := ix_ne (by omega)
        rw [e, if_neg ncm, if_neg (by omega), ix_nat (by omega)] at hK
        rw [hy0, e]
        have l16' : (16 : Int32) = ix 16 := rfl
        have v23 : vp_in (ix (16 * a + c)) 257 := (vp_ix (by omega)).2 (by omega)
        simp only [pj_M_run_240, pj_M_run_268, l0, l16', nc0, forall_eq, false_implies, not_false_eq_true, true_implies, true_and, ix_mul, ix_add, v23, ix_nat (show 16 * a + c < 2147483648 by omega)]
        refine ⟨fun hf => ?_, fun hf => ?_⟩
        · rw [if_pos hf] at hK
          exact ih c (p + 1) s2 r2 (by omega) hp1 hc hrc f2 hr2 h2 hK
        · rw [if_neg hf] at hK
          have e23 : r2.2.1 23 = s2.2.1 23 := (hr2.2.1 23 (by decide)).trans (f2.2.1 23 (by decide)).symm
          rw [e23]
          exact s_M_cross hP f2 hr2 h2 (fun r3 hr3 h3 => ih c (p + 1) _ r3 (by omega) hp1 hc hrc (Fr_al m 0 _ f2) hr3 h3 hK)
    have v64 : ∀ j, j < 4 → vp_in (ix (4 * a + j)) 64 ∧ (ix (4 * a + j)).toNatClampNeg = 4 * a + j := fun j hj => ⟨(vp_ix (by omega)).2 (by omega), ix_nat (by omega)⟩
    have v640 : vp_in (ix (4 * a)) 64 ∧ (ix (4 * a)).toNatClampNeg = 4 * a := ⟨(vp_ix (by omega)).2 (by omega), ix_nat (by omega)⟩
    have p200 : ix (p + 1) = ix 200 ↔ p + 1 = 200 := ix_inj (by omega) (by omega)
    have n10 : ¬ ix 2 = ix 0 := by decide
    have n21 : ¬ ix 2 = ix 1 := by decide
    simp only [ix_mul, ix_add, v640.1, v640.2, true_and, pj_M_run_186, pj_M_run_215, forall_eq, l2, l4, p14, p200, (v64 1 (by omega)).1, (v64 1 (by omega)).2, (v64 2 (by omega)).1, (v64 2 (by omega)).2, (v64 3 (by omega)).1, (v64 3 (by omega)).2, hr2.2.1 17 (by decide), lm1]
    have key := hP.2.2.2.2.2.2.2.2.1 a ha
    simp only [edn] at key
    rw [← f2.2.1 4 (by decide), ← f2.2.1 5 (by decide), ← f2.2.1 6 (by decide)] at key
    rcases key with ⟨h1, h2', h3, h4⟩ | ⟨h1, h2', a1, ha1, h3, h4, h5⟩ | ⟨h1, x1, a1, c1, hx1, ha1, hc1, h2', h3, h4, h5, h6, h7⟩
    · rw [h1]
      refine ⟨fun _ => stop2 (Or.inl ?_), fun h => absurd rfl h⟩
      unfold nxt
      rw [h3, h4]
      exact ite_self _
    · rw [h1, h3]
      refine ⟨fun h => absurd h i10, fun _ => ⟨fun hp1 => ⟨fun _ => go _ ?_ (by omega), fun h => absurd rfl h⟩, fun hp1 => stop2 (Or.inr (by omega))⟩⟩
      unfold nxt
      rw [h4, h5]
      exact (ite_self _).symm
    · have vx : vp_in (ix x1) 6 := (vp_ix (by omega)).2 (by omega)
      have e32 : r2.2.1 32 x1 = s2.2.1 11 x1 := (h2.1 x1 hx1).symm
      rw [h1, h2', h3, h4]
      simp only [vx, true_and, ix_nat (show x1 < 2147483648 by omega), e32]
      refine ⟨fun h => absurd h n10, fun _ => ⟨fun hp1 => ⟨fun h => absurd h n21, fun _ => ⟨fun h0 => go _ ?_ (by omega), fun h0 => go _ ?_ (by omega)⟩⟩, fun hp1 => stop2 (Or.inr (by omega))⟩⟩
      · unfold nxt
        rw [h5, ix_nat (by omega), if_pos h0, h7]
      · unfold nxt
        rw [h5, ix_nat (by omega), if_neg h0, h6]
theorem s_M_runZ {z : Sta} {f : Int32} {K : Int32 → Sta → Prop} (h : ∀ y, fr [] [33, 34] [] z y → (∀ t, t < 24 → y.2.1 33 t = ix 0 ∧ y.2.1 34 t = ix 0) → lp_M_run_75 K 1 f (ix 24) y) : lp_M_run_75 K 25 f (ix 0) z := by
  have loop : ∀ (k i : Nat) (y : Sta), i + k = 24 → fr [] [33, 34] [] z y → (∀ t, t < i → y.2.1 33 t = ix 0 ∧ y.2.1 34 t = ix 0) → lp_M_run_75 K (k + 1) f (ix i) y := by
    intro k
    induction k with
    | zero =>
      intro i y hik f1 h1
      have : i = 24 := by omega
      subst this
      exact h y f1 h1
    | succ k ih =>
      intro i y hik f1 h1
      have ne : ¬ ix 24 ≤ ix i := by
        rw [ix_le (by omega) (by omega)]; omega
      have vi : vp_in (ix i) 24 := (vp_ix (by omega)).2 (by omega)
      rw [lp_M_run_75]
      simp only [l24, ne, l0, l1, false_implies, true_and, not_false_eq_true, true_implies, forall_eq, vi, ix_add, ix_nat (show i < 2147483648 by omega)]
      refine ih (i + 1) _ (by omega) (fr_A (fr_A f1 (by decide) _) (by decide) _) (fun t ht => ?_)
      show upd (y.2.1 33) i (ix 0) t = ix 0 ∧ upd (y.2.1 34) i (ix 0) t = ix 0
      rw [ru, ru]
      split
      · exact ⟨rfl, rfl⟩
      · exact h1 t (by omega)
  exact loop 24 0 z (by omega) (fr_refl z) (fun t ht => absurd ht (by omega))
theorem s_M_runV {z : Sta} {f a b c : Int32} {K : Int32 → Sta → Prop} (h : ∀ y, fr [] [32] [] z y → (∀ i, i < 6 → y.2.1 32 i = in3 a b c i) → ∃ n75, lp_M_run_75 K n75 f (ix 0) y) : lp_M_run_21 K 7 f a b c (ix 0) z := by
  have loop : ∀ (k i : Nat) (y : Sta), i + k = 6 → fr [] [32] [] z y → (∀ t, t < i → y.2.1 32 t = in3 a b c t) → lp_M_run_21 K (k + 1) f a b c (ix i) y := by
    intro k
    induction k with
    | zero =>
      intro i y hik f1 h1
      rw [lp_M_run_21]
      try simp (disch := omega) only [forall_eq, l0, l1, l2, l3, l4, l5, l6, l15, l16, l24, l30, l99, l100, l200, l385, lm1, ix_ne, ne_ix, ix_nat, vp_ix, ix_inj, ix_le, ix_lt, ix_add, ix_mul, ix_sub, nar0', nar1', or00, or01, or10, or11, rI, rIA, rIL, rA, rAI, rAL, rL, rLI, rLA, ru, ruL, reduceIte, Nat.reduceEqDiff, true_or, or_true, true_and, and_true, false_or, or_false, not_true_eq_false, not_false_eq_true, false_implies, true_implies, implies_true, i10, i01]
      exact ⟨fun _ => h y f1 (fun t ht => h1 t (by omega)), fun h => absurd (by omega) h⟩
    | succ k ih =>
      intro i y hik f1 h1
      have fin : ∀ v, v = in3 a b c i → pj_M_run_65 K (fun x1 x2 x3 x4 x5 z => lp_M_run_21 K (k + 1) x1 x2 x3 x4 x5 z) f a b c (ix i) v (ix i) y := by
        intro v hv
        try simp (disch := omega) only [pj_M_run_65, forall_eq, l0, l1, l2, l3, l4, l5, l6, l15, l16, l24, l30, l99, l100, l200, l385, lm1, ix_ne, ne_ix, ix_nat, vp_ix, ix_inj, ix_le, ix_lt, ix_add, ix_mul, ix_sub, nar0', nar1', or00, or01, or10, or11, rI, rIA, rIL, rA, rAI, rAL, rL, rLI, rLA, ru, ruL, reduceIte, Nat.reduceEqDiff, true_or, or_true, true_and, and_true, false_or, or_false, not_true_eq_false, not_false_eq_true, false_implies, true_implies, implies_true, i10, i01]
        refine ⟨by omega, ih (i + 1) _ (by omega) (fr_A f1 (by decide) _) (fun t ht => ?_)⟩
        show upd (y.2.1 32) i v t = in3 a b c t
        rw [ru]
        split
        · next q => rw [q]; exact hv
        · exact h1 t (by omega)
      have ne : ¬ ix 6 ≤ ix i := by
        rw [ix_le (by omega) (by omega)]; omega
      have e0 : ix i = ix 0 ↔ i = 0 := ix_inj (by omega) (by omega)
      have e1 : ix i = ix 1 ↔ i = 1 := ix_inj (by omega) (by omega)
      have e2 : ix i = ix 2 ↔ i = 2 := ix_inj (by omega) (by omega)
      rw [lp_M_run_21]
      simp only [l6, l0, l1, l2, ne, e0, e1, e2, false_implies, true_and, not_false_eq_true, true_implies]
      refine ⟨fun h0 => ⟨fun h1 => ⟨fun h2 => fin _ ?_, fun h2 => fin _ ?_⟩, fun h1 => fin _ ?_⟩, fun h0 => fin _ ?_⟩
      · unfold in3; rw [if_neg h2, if_neg h1, if_neg h0]
      · unfold in3; rw [if_pos h2]
      · unfold in3; rw [if_neg (by omega), if_pos h1]
      · unfold in3; rw [if_neg (by omega), if_neg (by omega), if_pos h0]
  exact loop 6 0 z (by omega) (fr_refl z) (fun t ht => absurd ht (by omega))
