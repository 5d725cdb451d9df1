theorem d_out {z : Sta} {x1 : Int32} {X : Int32 → Int32 → Int32 → Sta → Prop} (hR : Rel z) (hX : ∀ k b t y, t = k → (k = ix 0 → y.2.2 10 0 = b.toInt64) → Rel y → X k b t y) : wp_L_out x1 z (fun k z1 => wp_M_out x1 z1 (fun b z2 => wp_M_thrown z2 (fun t z3 => X k b t z3))) := by
  have hR0 := hR
  obtain ⟨n, m, sz, hP, hF, ⟨⟨gv, hgv, g1, g2, g3⟩, r2, r3, r4, r5⟩⟩ := hR
  have no : ¬ (∃ t, t < 100 ∧ t < gv ∧ x1 = ix t) → wp_M_out x1 z (fun b z2 => wp_M_thrown z2 (fun t z3 => X (ix 1) b t z3)) := by
    intro hno
    try simp (disch := omega) only [wp_M_out, pj_M_out_32, pj_M_out_37, wp_M_thrown, wp_M_fail, g2, forall_eq, l0, l1, l2, l3, l4, l5, l6, l15, l16, l24, l30, l99, l100, l200, l385, lm1, ix_ne, ne_ix, ix_nat, vp_ix, ix_inj, ix_le, ix_lt, ix_add, ix_mul, ix_sub, nar0', nar1', or00, or01, or10, or11, rI, rIA, rIL, rA, rAI, rAL, rL, rLI, rLA, ru, ruL, reduceIte, Nat.reduceEqDiff, true_or, or_true, true_and, and_true, false_or, or_false, not_true_eq_false, not_false_eq_true, false_implies, true_implies, implies_true, i10, i01]
    refine s_M_within (by omega) (fun v hv => ?_)
    have fin := hX (ix 1) (ix 0) (ix 1) (zI (zI z 7 (ix 0)) 7 (ix 1)) rfl (fun h => absurd h i10) (Rel_fr hR0 (fr_I (fr_I (fr_refl z) (by decide) _) (by decide) _))
    try simp (disch := omega) only [g2, forall_eq, l0, l1, l2, l3, l4, l5, l6, l15, l16, l24, l30, l99, l100, l200, l385, lm1, ix_ne, ne_ix, ix_nat, vp_ix, ix_inj, ix_le, ix_lt, ix_add, ix_mul, ix_sub, nar0', nar1', or00, or01, or10, or11, rI, rIA, rIL, rA, rAI, rAL, rL, rLI, rLA, ru, ruL, reduceIte, Nat.reduceEqDiff, true_or, or_true, true_and, and_true, false_or, or_false, not_true_eq_false, not_false_eq_true, false_implies, true_implies, implies_true, i10, i01]
    refine ⟨fun _ => fin, fun h1 => ?_⟩
    obtain ⟨t, ht, rfl⟩ := isb_n hv h1
    try simp (disch := omega) only [forall_eq, l0, l1, l2, l3, l4, l5, l6, l15, l16, l24, l30, l99, l100, l200, l385, lm1, ix_ne, ne_ix, ix_nat, vp_ix, ix_inj, ix_le, ix_lt, ix_add, ix_mul, ix_sub, nar0', nar1', or00, or01, or10, or11, rI, rIA, rIL, rA, rAI, rAL, rL, rLI, rLA, ru, ruL, reduceIte, Nat.reduceEqDiff, true_or, or_true, true_and, and_true, false_or, or_false, not_true_eq_false, not_false_eq_true, false_implies, true_implies, implies_true, i10, i01]
    exact ⟨fun _ => fin, fun h => absurd ⟨t, by omega, by omega, rfl⟩ hno⟩
  try simp (disch := omega) only [wp_L_out, wp_C_out, pj_C_out_21, g1, forall_eq, l0, l1, l2, l3, l4, l5, l6, l15, l16, l24, l30, l99, l100, l200, l385, lm1, ix_ne, ne_ix, ix_nat, vp_ix, ix_inj, ix_le, ix_lt, ix_add, ix_mul, ix_sub, nar0', nar1', or00, or01, or10, or11, rI, rIA, rIL, rA, rAI, rAL, rL, rLI, rLA, ru, ruL, reduceIte, Nat.reduceEqDiff, true_or, or_true, true_and, and_true, false_or, or_false, not_true_eq_false, not_false_eq_true, false_implies, true_implies, implies_true, i10, i01]
  refine ⟨fun h0 => no (fun ⟨t, ht, _, hx⟩ => by rw [hx] at h0; exact absurd h0 (ix_nlt0 (by omega))), fun h0 => ?_⟩
  obtain ⟨t, ht, rfl⟩ := ix_ex h0
  try simp (disch := omega) only [forall_eq, l0, l1, l2, l3, l4, l5, l6, l15, l16, l24, l30, l99, l100, l200, l385, lm1, ix_ne, ne_ix, ix_nat, vp_ix, ix_inj, ix_le, ix_lt, ix_add, ix_mul, ix_sub, nar0', nar1', or00, or01, or10, or11, rI, rIA, rIL, rA, rAI, rAL, rL, rLI, rLA, ru, ruL, reduceIte, Nat.reduceEqDiff, true_or, or_true, true_and, and_true, false_or, or_false, not_true_eq_false, not_false_eq_true, false_implies, true_implies, implies_true, i10, i01]
  refine ⟨fun h1 => no (fun ⟨u, hu, _, hx⟩ => by rw [ix_inj ht (by omega)] at hx; omega), fun h1 => ⟨fun h2 => ⟨by omega, ?_⟩, fun h2 => no (fun ⟨u, hu, hu2, hx⟩ => by rw [ix_inj ht (by omega)] at hx; omega)⟩⟩
  try simp (disch := omega) only [wp_M_out, pj_M_out_37, wp_M_thrown, forall_eq, l0, l1, l2, l3, l4, l5, l6, l15, l16, l24, l30, l99, l100, l200, l385, lm1, ix_ne, ne_ix, ix_nat, vp_ix, ix_inj, ix_le, ix_lt, ix_add, ix_mul, ix_sub, nar0', nar1', or00, or01, or10, or11, rI, rIA, rIL, rA, rAI, rAL, rL, rLI, rLA, ru, ruL, reduceIte, Nat.reduceEqDiff, true_or, or_true, true_and, and_true, false_or, or_false, not_true_eq_false, not_false_eq_true, false_implies, true_implies, implies_true, i10, i01]
  refine s_M_within (by omega) (fun v hv => ?_)
  try simp (disch := omega) only [g2, forall_eq, l0, l1, l2, l3, l4, l5, l6, l15, l16, l24, l30, l99, l100, l200, l385, lm1, ix_ne, ne_ix, ix_nat, vp_ix, ix_inj, ix_le, ix_lt, ix_add, ix_mul, ix_sub, nar0', nar1', or00, or01, or10, or11, rI, rIA, rIL, rA, rAI, rAL, rL, rLI, rLA, ru, ruL, reduceIte, Nat.reduceEqDiff, true_or, or_true, true_and, and_true, false_or, or_false, not_true_eq_false, not_false_eq_true, false_implies, true_implies, implies_true, i10, i01]
  refine ⟨fun h3 => absurd ⟨t, by omega, rfl⟩ ((isb_z hv).1 h3), fun _ => ⟨fun h3 => absurd h3 (by omega), fun _ => ⟨by omega, hX _ _ _ _ rfl (fun _ => ?_) (Rel_fr hR0 (fr_I (fr_L (fr_refl z) (by decide) _) (by decide) _))⟩⟩⟩
  try simp (disch := omega) only [forall_eq, l0, l1, l2, l3, l4, l5, l6, l15, l16, l24, l30, l99, l100, l200, l385, lm1, ix_ne, ne_ix, ix_nat, vp_ix, ix_inj, ix_le, ix_lt, ix_add, ix_mul, ix_sub, nar0', nar1', or00, or01, or10, or11, rI, rIA, rIL, rA, rAI, rAL, rL, rLI, rLA, ru, ruL, reduceIte, Nat.reduceEqDiff, true_or, or_true, true_and, and_true, false_or, or_false, not_true_eq_false, not_false_eq_true, false_implies, true_implies, implies_true, i10, i01]
  rw [g3 t (by omega) (by omega)]
theorem d_variable {z : Sta} {x1 : Int32} {X : Int32 → Int32 → Int32 → Sta → Prop} (hR : Rel z) (hX : ∀ k b t y, t = k → (k = ix 0 → y.2.2 10 0 = b.toInt64) → Rel y → X k b t y) : wp_L_variable x1 z (fun k z1 => wp_M_variable x1 z1 (fun b z2 => wp_M_thrown z2 (fun t z3 => X k b t z3))) := by
  have hR0 := hR
  obtain ⟨n, m, sz, hP, hF, ⟨r1, r2, r3, r4, r5⟩⟩ := hR
  try simp (disch := omega) only [wp_L_variable, wp_C_variable, forall_eq, l0, l1, l2, l3, l4, l5, l6, l15, l16, l24, l30, l99, l100, l200, l385, lm1, ix_ne, ne_ix, ix_nat, vp_ix, ix_inj, ix_le, ix_lt, ix_add, ix_mul, ix_sub, nar0', nar1', or00, or01, or10, or11, rI, rIA, rIL, rA, rAI, rAL, rL, rLI, rLA, ru, ruL, reduceIte, Nat.reduceEqDiff, true_or, or_true, true_and, and_true, false_or, or_false, not_true_eq_false, not_false_eq_true, false_implies, true_implies, implies_true, i10, i01]
  refine s_C_isVariable (fun v hv => ?_)
  try simp (disch := omega) only [forall_eq, l0, l1, l2, l3, l4, l5, l6, l15, l16, l24, l30, l99, l100, l200, l385, lm1, ix_ne, ne_ix, ix_nat, vp_ix, ix_inj, ix_le, ix_lt, ix_add, ix_mul, ix_sub, nar0', nar1', or00, or01, or10, or11, rI, rIA, rIL, rA, rAI, rAL, rL, rLI, rLA, ru, ruL, reduceIte, Nat.reduceEqDiff, true_or, or_true, true_and, and_true, false_or, or_false, not_true_eq_false, not_false_eq_true, false_implies, true_implies, implies_true, i10, i01]
  refine ⟨fun h0 => ?_, fun h0 => ?_⟩
  · obtain ⟨t, ht, rfl⟩ := isb_n hv h0
    try simp (disch := omega) only [forall_eq, l0, l1, l2, l3, l4, l5, l6, l15, l16, l24, l30, l99, l100, l200, l385, lm1, ix_ne, ne_ix, ix_nat, vp_ix, ix_inj, ix_le, ix_lt, ix_add, ix_mul, ix_sub, nar0', nar1', or00, or01, or10, or11, rI, rIA, rIL, rA, rAI, rAL, rL, rLI, rLA, ru, ruL, reduceIte, Nat.reduceEqDiff, true_or, or_true, true_and, and_true, false_or, or_false, not_true_eq_false, not_false_eq_true, false_implies, true_implies, implies_true, i10, i01]
    refine ⟨by omega, ?_⟩
    try simp (disch := omega) only [wp_M_variable, pj_M_variable_28, wp_M_thrown, forall_eq, l0, l1, l2, l3, l4, l5, l6, l15, l16, l24, l30, l99, l100, l200, l385, lm1, ix_ne, ne_ix, ix_nat, vp_ix, ix_inj, ix_le, ix_lt, ix_add, ix_mul, ix_sub, nar0', nar1', or00, or01, or10, or11, rI, rIA, rIL, rA, rAI, rAL, rL, rLI, rLA, ru, ruL, reduceIte, Nat.reduceEqDiff, true_or, or_true, true_and, and_true, false_or, or_false, not_true_eq_false, not_false_eq_true, false_implies, true_implies, implies_true, i10, i01]
    refine s_M_within (by omega) (fun v hv => ?_)
    try simp (disch := omega) only [forall_eq, l0, l1, l2, l3, l4, l5, l6, l15, l16, l24, l30, l99, l100, l200, l385, lm1, ix_ne, ne_ix, ix_nat, vp_ix, ix_inj, ix_le, ix_lt, ix_add, ix_mul, ix_sub, nar0', nar1', or00, or01, or10, or11, rI, rIA, rIL, rA, rAI, rAL, rL, rLI, rLA, ru, ruL, reduceIte, Nat.reduceEqDiff, true_or, or_true, true_and, and_true, false_or, or_false, not_true_eq_false, not_false_eq_true, false_implies, true_implies, implies_true, i10, i01]
    refine ⟨fun h3 => absurd ⟨t, by omega, rfl⟩ ((isb_z hv).1 h3), fun _ => ⟨by omega, hX _ _ _ _ rfl (fun _ => ?_) (Rel_fr hR0 (fr_I (fr_L (fr_refl z) (by decide) _) (by decide) _))⟩⟩
    try simp (disch := omega) only [forall_eq, l0, l1, l2, l3, l4, l5, l6, l15, l16, l24, l30, l99, l100, l200, l385, lm1, ix_ne, ne_ix, ix_nat, vp_ix, ix_inj, ix_le, ix_lt, ix_add, ix_mul, ix_sub, nar0', nar1', or00, or01, or10, or11, rI, rIA, rIL, rA, rAI, rAL, rL, rLI, rLA, ru, ruL, reduceIte, Nat.reduceEqDiff, true_or, or_true, true_and, and_true, false_or, or_false, not_true_eq_false, not_false_eq_true, false_implies, true_implies, implies_true, i10, i01]
    rw [r3 t ht]
  · have : wp_M_variable x1 z (fun b z2 => wp_M_thrown z2 (fun t z3 => X (ix 1) b t z3)) := by
      try simp (disch := omega) only [wp_M_variable, pj_M_variable_28, wp_M_thrown, wp_M_fail, forall_eq, l0, l1, l2, l3, l4, l5, l6, l15, l16, l24, l30, l99, l100, l200, l385, lm1, ix_ne, ne_ix, ix_nat, vp_ix, ix_inj, ix_le, ix_lt, ix_add, ix_mul, ix_sub, nar0', nar1', or00, or01, or10, or11, rI, rIA, rIL, rA, rAI, rAL, rL, rLI, rLA, ru, ruL, reduceIte, Nat.reduceEqDiff, true_or, or_true, true_and, and_true, false_or, or_false, not_true_eq_false, not_false_eq_true, false_implies, true_implies, implies_true, i10, i01]
      refine s_M_within (by omega) (fun w hw => ?_)
      try simp (disch := omega) only [forall_eq, l0, l1, l2, l3, l4, l5, l6, l15, l16, l24, l30, l99, l100, l200, l385, lm1, ix_ne, ne_ix, ix_nat, vp_ix, ix_inj, ix_le, ix_lt, ix_add, ix_mul, ix_sub, nar0', nar1', or00, or01, or10, or11, rI, rIA, rIL, rA, rAI, rAL, rL, rLI, rLA, ru, ruL, reduceIte, Nat.reduceEqDiff, true_or, or_true, true_and, and_true, false_or, or_false, not_true_eq_false, not_false_eq_true, false_implies, true_implies, implies_true, i10, i01]
      exact ⟨fun _ => hX _ _ _ _ rfl (fun h => absurd h i10) (Rel_fr hR0 (fr_I (fr_I (fr_refl z) (by decide) _) (by decide) _)), fun h1 => absurd (isb_n hw h1) ((isb_z hv).1 h0)⟩
    exact this
theorem d_count {z : Sta} {x1 : Int32} {X : Int32 → Int32 → Int32 → Sta → Prop} (hR : Rel z) (hX : ∀ k b t y, t = k → (k = ix 0 → y.2.2 10 0 = b.toInt64) → Rel y → X k b t y) : wp_L_count x1 z (fun k z1 => wp_M_count x1 z1 (fun b z2 => wp_M_thrown z2 (fun t z3 => X k b t z3))) := by
  have hR0 := hR
  obtain ⟨n, m, sz, hP, hF, ⟨r1, r2, r3, r4, r5⟩⟩ := hR
  obtain ⟨hn, hm, p2, p8, p3, p9, -⟩ := hP
  have hpl := hF.2.2.1
  have yes : ∀ (v : Int32) (t : Nat), t < 4 → x1 = ix t → (t = 0 → v = z.1 8) → (t = 1 → v = z.1 9) → (t = 2 → v = z.1 11) → (t = 3 → v = z.1 14) → wp_M_count x1 (zL z 10 (vp_updL (z.2.2 10) 0 v.toInt64)) (fun b z2 => wp_M_thrown z2 (fun t z3 => X (ix 0) b t z3)) := by
    intro v t ht hx h0 h1 h2 h3
    try simp (disch := omega) only [wp_M_count, pj_M_count_59, wp_M_thrown, forall_eq, l0, l1, l2, l3, l4, l5, l6, l15, l16, l24, l30, l99, l100, l200, l385, lm1, ix_ne, ne_ix, ix_nat, vp_ix, ix_inj, ix_le, ix_lt, ix_add, ix_mul, ix_sub, nar0', nar1', or00, or01, or10, or11, rI, rIA, rIL, rA, rAI, rAL, rL, rLI, rLA, ru, ruL, reduceIte, Nat.reduceEqDiff, true_or, or_true, true_and, and_true, false_or, or_false, not_true_eq_false, not_false_eq_true, false_implies, true_implies, implies_true, i10, i01]
    refine s_M_within (by omega) (fun w hw => ?_)
    have hRf := Rel_fr hR0 (fr_I (fr_L (fr_refl z) (k := 10) (by decide) (vp_updL (z.2.2 10) 0 v.toInt64)) (k := 7) (by decide) (ix 0))
    subst hx
    try simp (disch := omega) only [forall_eq, l0, l1, l2, l3, l4, l5, l6, l15, l16, l24, l30, l99, l100, l200, l385, lm1, ix_ne, ne_ix, ix_nat, vp_ix, ix_inj, ix_le, ix_lt, ix_add, ix_mul, ix_sub, nar0', nar1', or00, or01, or10, or11, rI, rIA, rIL, rA, rAI, rAL, rL, rLI, rLA, ru, ruL, reduceIte, Nat.reduceEqDiff, true_or, or_true, true_and, and_true, false_or, or_false, not_true_eq_false, not_false_eq_true, false_implies, true_implies, implies_true, i10, i01]
    refine ⟨fun _ => ⟨fun a0 => ⟨fun a1 => ⟨fun a2 => hX _ _ _ _ rfl (fun _ => ?_) hRf, fun a2 => hX _ _ _ _ rfl (fun _ => ?_) hRf⟩, fun a1 => hX _ _ _ _ rfl (fun _ => ?_) hRf⟩, fun a0 => hX _ _ _ _ rfl (fun _ => ?_) hRf⟩, fun h => absurd ⟨t, by omega, rfl⟩ ((isb_z hw).1 h)⟩
    · try simp (disch := omega) only [forall_eq, l0, l1, l2, l3, l4, l5, l6, l15, l16, l24, l30, l99, l100, l200, l385, lm1, ix_ne, ne_ix, ix_nat, vp_ix, ix_inj, ix_le, ix_lt, ix_add, ix_mul, ix_sub, nar0', nar1', or00, or01, or10, or11, rI, rIA, rIL, rA, rAI, rAL, rL, rLI, rLA, ru, ruL, reduceIte, Nat.reduceEqDiff, true_or, or_true, true_and, and_true, false_or, or_false, not_true_eq_false, not_false_eq_true, false_implies, true_implies, implies_true, i10, i01]
      rw [h3 (by omega)]
    · try simp (disch := omega) only [forall_eq, l0, l1, l2, l3, l4, l5, l6, l15, l16, l24, l30, l99, l100, l200, l385, lm1, ix_ne, ne_ix, ix_nat, vp_ix, ix_inj, ix_le, ix_lt, ix_add, ix_mul, ix_sub, nar0', nar1', or00, or01, or10, or11, rI, rIA, rIL, rA, rAI, rAL, rL, rLI, rLA, ru, ruL, reduceIte, Nat.reduceEqDiff, true_or, or_true, true_and, and_true, false_or, or_false, not_true_eq_false, not_false_eq_true, false_implies, true_implies, implies_true, i10, i01]
      rw [h2 a2]
    · try simp (disch := omega) only [forall_eq, l0, l1, l2, l3, l4, l5, l6, l15, l16, l24, l30, l99, l100, l200, l385, lm1, ix_ne, ne_ix, ix_nat, vp_ix, ix_inj, ix_le, ix_lt, ix_add, ix_mul, ix_sub, nar0', nar1', or00, or01, or10, or11, rI, rIA, rIL, rA, rAI, rAL, rL, rLI, rLA, ru, ruL, reduceIte, Nat.reduceEqDiff, true_or, or_true, true_and, and_true, false_or, or_false, not_true_eq_false, not_false_eq_true, false_implies, true_implies, implies_true, i10, i01]
      rw [h1 a1]
    · try simp (disch := omega) only [forall_eq, l0, l1, l2, l3, l4, l5, l6, l15, l16, l24, l30, l99, l100, l200, l385, lm1, ix_ne, ne_ix, ix_nat, vp_ix, ix_inj, ix_le, ix_lt, ix_add, ix_mul, ix_sub, nar0', nar1', or00, or01, or10, or11, rI, rIA, rIL, rA, rAI, rAL, rL, rLI, rLA, ru, ruL, reduceIte, Nat.reduceEqDiff, true_or, or_true, true_and, and_true, false_or, or_false, not_true_eq_false, not_false_eq_true, false_implies, true_implies, implies_true, i10, i01]
      rw [h0 a0]
  try simp (disch := omega) only [wp_L_count, wp_C_count, forall_eq, l0, l1, l2, l3, l4, l5, l6, l15, l16, l24, l30, l99, l100, l200, l385, lm1, ix_ne, ne_ix, ix_nat, vp_ix, ix_inj, ix_le, ix_lt, ix_add, ix_mul, ix_sub, nar0', nar1', or00, or01, or10, or11, rI, rIA, rIL, rA, rAI, rAL, rL, rLI, rLA, ru, ruL, reduceIte, Nat.reduceEqDiff, true_or, or_true, true_and, and_true, false_or, or_false, not_true_eq_false, not_false_eq_true, false_implies, true_implies, implies_true, i10, i01]
  refine ⟨fun h => yes _ 0 (by omega) h (fun _ => ?_) (fun h => absurd h (by omega)) (fun h => absurd h (by omega)) (fun h => absurd h (by omega)), fun h => yes _ 1 (by omega) h (fun h => absurd h (by omega)) (fun _ => ?_) (fun h => absurd h (by omega)) (fun h => absurd h (by omega)), fun h => yes _ 2 (by omega) h (fun h => absurd h (by omega)) (fun h => absurd h (by omega)) (fun _ => hpl) (fun h => absurd h (by omega)), fun h => yes _ 3 (by omega) h (fun h => absurd h (by omega)) (fun h => absurd h (by omega)) (fun h => absurd h (by omega)) (fun _ => r2), fun h => ?_⟩
  · rw [p2, p8]
  · rw [p3, p9]
  · have : wp_M_count x1 z (fun b z2 => wp_M_thrown z2 (fun t z3 => X (ix 1) b t z3)) := by
      try simp (disch := omega) only [wp_M_count, pj_M_count_59, wp_M_thrown, wp_M_fail, forall_eq, l0, l1, l2, l3, l4, l5, l6, l15, l16, l24, l30, l99, l100, l200, l385, lm1, ix_ne, ne_ix, ix_nat, vp_ix, ix_inj, ix_le, ix_lt, ix_add, ix_mul, ix_sub, nar0', nar1', or00, or01, or10, or11, rI, rIA, rIL, rA, rAI, rAL, rL, rLI, rLA, ru, ruL, reduceIte, Nat.reduceEqDiff, true_or, or_true, true_and, and_true, false_or, or_false, not_true_eq_false, not_false_eq_true, false_implies, true_implies, implies_true, i10, i01]
      refine s_M_within (by omega) (fun w hw => ?_)
      try simp (disch := omega) only [forall_eq, l0, l1, l2, l3, l4, l5, l6, l15, l16, l24, l30, l99, l100, l200, l385, lm1, ix_ne, ne_ix, ix_nat, vp_ix, ix_inj, ix_le, ix_lt, ix_add, ix_mul, ix_sub, nar0', nar1', or00, or01, or10, or11, rI, rIA, rIL, rA, rAI, rAL, rL, rLI, rLA, ru, ruL, reduceIte, Nat.reduceEqDiff, true_or, or_true, true_and, and_true, false_or, or_false, not_true_eq_false, not_false_eq_true, false_implies, true_implies, implies_true, i10, i01]
      refine ⟨fun h1 => ?_, fun _ => hX _ _ _ _ rfl (fun h => absurd h i10) (Rel_fr hR0 (fr_I (fr_I (fr_refl z) (by decide) _) (by decide) _))⟩
      exfalso
      obtain ⟨t, ht, hx⟩ := isb_n hw h1
      subst hx
      rcases (by omega : t = 0 ∨ t = 1 ∨ t = 2 ∨ t = 3) with e | e | e | e
      · exact h.1 (by rw [e])
      · exact h.2.1 (by rw [e])
      · exact h.2.2.1 (by rw [e])
      · exact h.2.2.2 (by rw [e])
    exact this
theorem d_set {z : Sta} {x1 x2 : Int32} {X : Int32 → Int64 → Int32 → Sta → Prop} (hR : Rel z) (hX : ∀ k b t y, t = k → (k = ix 0 → y.2.2 10 0 = b) → Rel y → X k b t y) : wp_L_set x1 x2 z (fun k z1 => wp_M_set x1 x2 z1 (fun b z2 => wp_M_thrown z2 (fun t z3 => X k b t z3))) := by
  have hR0 := hR
  obtain ⟨n, m, sz, hP, hF, hN⟩ := hR
  obtain ⟨hn, hm, p2, p8, p3, p9, -⟩ := hP
  obtain ⟨f1, f2, f3, f4, f5⟩ := hF
  have two : ∀ z1, fr [7] [] [10] z z1 → z1.1 10 = ix 1 → ¬ ((∃ t, t < n ∧ x1 = ix t) ∧ ∃ t, t < 6 ∧ x2 = ix t) → wp_M_set x1 x2 z1 (fun b z2 => wp_M_thrown z2 (fun t z3 => X (ix 2) b t z3)) := by
    intro z1 hf h10 hno
    have h8 : z1.1 8 = ix n := (hf.1 8 (by decide)).trans p8
    have fin := hX (ix 2) (ix 0).toInt64 (ix 2) (zI (zI z1 7 (ix 0)) 7 (ix 2)) rfl (fun h => absurd h (by decide)) (Rel_fr hR0 (fr_I (fr_I hf (by decide) _) (by decide) _))
    try simp (disch := omega) only [wp_M_set, pj_M_set_57, pj_M_set_63, wp_M_thrown, wp_M_fail, h10, h8, forall_eq, l0, l1, l2, l3, l4, l5, l6, l15, l16, l24, l30, l99, l100, l200, l385, lm1, ix_ne, ne_ix, ix_nat, vp_ix, ix_inj, ix_le, ix_lt, ix_add, ix_mul, ix_sub, nar0', nar1', or00, or01, or10, or11, rI, rIA, rIL, rA, rAI, rAL, rL, rLI, rLA, ru, ruL, reduceIte, Nat.reduceEqDiff, true_or, or_true, true_and, and_true, false_or, or_false, not_true_eq_false, not_false_eq_true, false_implies, true_implies, implies_true, i10, i01]
    refine s_M_withinm (by omega) (fun v hv => ?_)
    try simp (disch := omega) only [forall_eq, l0, l1, l2, l3, l4, l5, l6, l15, l16, l24, l30, l99, l100, l200, l385, lm1, ix_ne, ne_ix, ix_nat, vp_ix, ix_inj, ix_le, ix_lt, ix_add, ix_mul, ix_sub, nar0', nar1', or00, or01, or10, or11, rI, rIA, rIL, rA, rAI, rAL, rL, rLI, rLA, ru, ruL, reduceIte, Nat.reduceEqDiff, true_or, or_true, true_and, and_true, false_or, or_false, not_true_eq_false, not_false_eq_true, false_implies, true_implies, implies_true, i10, i01]
    refine ⟨fun _ => fin, fun h1 => s_M_within (by omega) (fun w hw => ?_)⟩
    try simp (disch := omega) only [forall_eq, l0, l1, l2, l3, l4, l5, l6, l15, l16, l24, l30, l99, l100, l200, l385, lm1, ix_ne, ne_ix, ix_nat, vp_ix, ix_inj, ix_le, ix_lt, ix_add, ix_mul, ix_sub, nar0', nar1', or00, or01, or10, or11, rI, rIA, rIL, rA, rAI, rAL, rL, rLI, rLA, ru, ruL, reduceIte, Nat.reduceEqDiff, true_or, or_true, true_and, and_true, false_or, or_false, not_true_eq_false, not_false_eq_true, false_implies, true_implies, implies_true, i10, i01]
    exact ⟨fun _ => fin, fun h2 => absurd ⟨isb_n hv h1, isb_n hw h2⟩ hno⟩
  try simp (disch := omega) only [wp_L_set, wp_C_set, pj_C_set_37, forall_eq, l0, l1, l2, l3, l4, l5, l6, l15, l16, l24, l30, l99, l100, l200, l385, lm1, ix_ne, ne_ix, ix_nat, vp_ix, ix_inj, ix_le, ix_lt, ix_add, ix_mul, ix_sub, nar0', nar1', or00, or01, or10, or11, rI, rIA, rIL, rA, rAI, rAL, rL, rLI, rLA, ru, ruL, reduceIte, Nat.reduceEqDiff, true_or, or_true, true_and, and_true, false_or, or_false, not_true_eq_false, not_false_eq_true, false_implies, true_implies, implies_true, i10, i01]
  refine ⟨fun h0 => ?_, fun h0 => ?_⟩
  · have h1 : z.1 0 = ix 1 := f2.resolve_left h0
    have hpl := f5 h1
    have h10 : z.1 10 = ix 1 := f1.symm.trans h1
    refine s_P_hasBlock hn p2 (fun v hv => ?_)
    try simp (disch := omega) only [forall_eq, l0, l1, l2, l3, l4, l5, l6, l15, l16, l24, l30, l99, l100, l200, l385, lm1, ix_ne, ne_ix, ix_nat, vp_ix, ix_inj, ix_le, ix_lt, ix_add, ix_mul, ix_sub, nar0', nar1', or00, or01, or10, or11, rI, rIA, rIL, rA, rAI, rAL, rL, rLI, rLA, ru, ruL, reduceIte, Nat.reduceEqDiff, true_or, or_true, true_and, and_true, false_or, or_false, not_true_eq_false, not_false_eq_true, false_implies, true_implies, implies_true, i10, i01]
    have ise : ¬ "java/lang/IndexOutOfBoundsException" = "java/lang/IllegalStateException" := by decide
    refine ⟨fun h2 => Or.inr (two z (fr_refl z) h10 (fun hh => (isb_z hv).1 h2 hh.1)), fun h2 => ⟨fun h3 => Or.inr (two z (fr_refl z) h10 (fun ⟨_, t, ht, hx⟩ => by rw [hx] at h3; exact absurd h3 (ix_nlt0 (by omega)))), fun h3 => ⟨fun h4 => ?_, fun h4 => Or.inr (two z (fr_refl z) h10 (fun ⟨_, t, ht, hx⟩ => by rw [hx, ix_le (by omega) (by omega)] at h4; omega))⟩⟩⟩
    obtain ⟨b, hb1, rfl⟩ := isb_n hv h2
    obtain ⟨w, hw, rfl⟩ := ix_ex h3
    rw [ix_le hw (by omega)] at h4
    have yes : ∀ x : Int64, x = (z.2.1 22 (6 * b + w)).toInt64 → wp_M_set (ix b) (ix w) (zL z 10 (vp_updL (z.2.2 10) 0 x)) (fun b z2 => wp_M_thrown z2 (fun t z3 => X (ix 0) b t z3)) := by
      intro x hx
      have k8 : (zI (zL z 10 (vp_updL (z.2.2 10) 0 x)) 7 (ix 0)).1 8 = ix n := by
        simp only [rI, rLI, Nat.reduceEqDiff, reduceIte]; exact p8
      have k10 : (zI (zL z 10 (vp_updL (z.2.2 10) 0 x)) 7 (ix 0)).1 10 = ix 1 := by
        simp only [rI, rLI, Nat.reduceEqDiff, reduceIte]; exact h10
      simp only [wp_M_set, forall_eq, l0, l1, k8, k10, i10, not_false_eq_true, true_implies, false_implies, and_true]
      refine s_M_withinm (n := n) (by omega) (fun v hv => ?_)
      try simp (disch := omega) only [pj_M_set_63, wp_M_thrown, forall_eq, l0, l1, l2, l3, l4, l5, l6, l15, l16, l24, l30, l99, l100, l200, l385, lm1, ix_ne, ne_ix, ix_nat, vp_ix, ix_inj, ix_le, ix_lt, ix_add, ix_mul, ix_sub, nar0', nar1', or00, or01, or10, or11, rI, rIA, rIL, rA, rAI, rAL, rL, rLI, rLA, ru, ruL, reduceIte, Nat.reduceEqDiff, true_or, or_true, true_and, and_true, false_or, or_false, not_true_eq_false, not_false_eq_true, false_implies, true_implies, implies_true, i10, i01]
      refine ⟨fun h => absurd ⟨b, hb1, rfl⟩ ((isb_z hv).1 h), fun _ => s_M_within (by omega) (fun v2 hv2 => ?_)⟩
      try simp (disch := omega) only [forall_eq, l0, l1, l2, l3, l4, l5, l6, l15, l16, l24, l30, l99, l100, l200, l385, lm1, ix_ne, ne_ix, ix_nat, vp_ix, ix_inj, ix_le, ix_lt, ix_add, ix_mul, ix_sub, nar0', nar1', or00, or01, or10, or11, rI, rIA, rIL, rA, rAI, rAL, rL, rLI, rLA, ru, ruL, reduceIte, Nat.reduceEqDiff, true_or, or_true, true_and, and_true, false_or, or_false, not_true_eq_false, not_false_eq_true, false_implies, true_implies, implies_true, i10, i01]
      refine ⟨fun h => absurd ⟨w, by omega, rfl⟩ ((isb_z hv2).1 h), fun _ => ⟨by omega, hX _ _ _ _ rfl (fun _ => ?_) (Rel_fr hR0 (fr_I (fr_L (fr_refl z) (by decide) _) (by decide) _))⟩⟩
      try simp (disch := omega) only [forall_eq, l0, l1, l2, l3, l4, l5, l6, l15, l16, l24, l30, l99, l100, l200, l385, lm1, ix_ne, ne_ix, ix_nat, vp_ix, ix_inj, ix_le, ix_lt, ix_add, ix_mul, ix_sub, nar0', nar1', or00, or01, or10, or11, rI, rIA, rIL, rA, rAI, rAL, rL, rLI, rLA, ru, ruL, reduceIte, Nat.reduceEqDiff, true_or, or_true, true_and, and_true, false_or, or_false, not_true_eq_false, not_false_eq_true, false_implies, true_implies, implies_true, i10, i01]
      exact hx
    obtain ⟨q0, q1, q2, q3, q4, q5⟩ := hpl.2.2.2.2.2.1 b hb1
    rcases (by omega : w = 0 ∨ w = 1 ∨ w = 2 ∨ w = 3 ∨ w = 4 ∨ w = 5) with e | e | e | e | e | e <;> subst e <;> try simp (disch := omega) only [wp_O_setOf, forall_eq, l0, l1, l2, l3, l4, l5, l6, l15, l16, l24, l30, l99, l100, l200, l385, lm1, ix_ne, ne_ix, ix_nat, vp_ix, ix_inj, ix_le, ix_lt, ix_add, ix_mul, ix_sub, nar0', nar1', or00, or01, or10, or11, rI, rIA, rIL, rA, rAI, rAL, rL, rLI, rLA, ru, ruL, reduceIte, Nat.reduceEqDiff, true_or, or_true, true_and, and_true, false_or, or_false, not_true_eq_false, not_false_eq_true, false_implies, true_implies, implies_true, i10, i01]
    · exact ⟨by omega, yes _ q0⟩
    · exact ⟨by omega, yes _ q1⟩
    · exact ⟨by omega, yes _ q2⟩
    · exact ⟨by omega, yes _ q3⟩
    · exact ⟨by omega, yes _ q4⟩
    · exact ⟨by omega, yes _ q5⟩
  · refine Or.inl ?_
    have h10 : z.1 10 = ix 0 := f1.symm.trans h0
    have : wp_M_set x1 x2 z (fun b z2 => wp_M_thrown z2 (fun t z3 => X (ix 1) b t z3)) := by
      try simp (disch := omega) only [wp_M_set, wp_M_thrown, wp_M_fail, h10, forall_eq, l0, l1, l2, l3, l4, l5, l6, l15, l16, l24, l30, l99, l100, l200, l385, lm1, ix_ne, ne_ix, ix_nat, vp_ix, ix_inj, ix_le, ix_lt, ix_add, ix_mul, ix_sub, nar0', nar1', or00, or01, or10, or11, rI, rIA, rIL, rA, rAI, rAL, rL, rLI, rLA, ru, ruL, reduceIte, Nat.reduceEqDiff, true_or, or_true, true_and, and_true, false_or, or_false, not_true_eq_false, not_false_eq_true, false_implies, true_implies, implies_true, i10, i01]
      exact hX _ _ _ _ rfl (fun h => absurd h i10) (Rel_fr hR0 (fr_I (fr_I (fr_refl z) (by decide) _) (by decide) _))
    exact this
theorem s_O_hasEdge {z : Sta} {K : Int32 → Sta → Prop} {x1 x2 : Int32} {n : Nat} (hn : n ≤ 16) (hN : z.1 2 = ix n) (hK : ∀ v, isb v ((x1 = mi ∧ x2 = ix 0) ∨ ∃ a, a < n ∧ x1 = ix a ∧ ¬ z.2.1 10 a = ix 0 ∧ ¬ x2 = mi ∧ (z.2.1 5 a = x2 ∨ z.2.1 6 a = x2)) → K v z) : wp_O_hasEdge x1 x2 z K := by
  try simp (disch := omega) only [wp_O_hasEdge, pj_O_hasEdge_14, pj_O_hasEdge_40, pj_O_hasEdge_68, pj_O_hasEdge_73, forall_eq, l0, l1, l2, l3, l4, l5, l6, l15, l16, l24, l30, l99, l100, l200, l385, lm1, ix_ne, ne_ix, ix_nat, vp_ix, ix_inj, ix_le, ix_lt, ix_add, ix_mul, ix_sub, nar0', nar1', or00, or01, or10, or11, rI, rIA, rIL, rA, rAI, rAL, rL, rLI, rLA, ru, ruL, reduceIte, Nat.reduceEqDiff, true_or, or_true, true_and, and_true, false_or, or_false, not_true_eq_false, not_false_eq_true, false_implies, true_implies, implies_true, i10, i01]
  refine ⟨fun h0 => s_P_hasBlock hn hN (fun v hv => ?_), fun h0 => ⟨fun h1 => hK _ (Or.inr ⟨rfl, fun hh => ?_⟩), fun h1 => hK _ (Or.inl ⟨rfl, Or.inl ⟨h0, h1⟩⟩)⟩⟩
  · refine ⟨fun h1 => hK _ (Or.inr ⟨rfl, fun hh => ?_⟩), fun h1 => ?_⟩
    · rcases hh with hh | ⟨a, ha, hx, _⟩
      · exact h0 hh.1
      · exact (isb_z hv).1 h1 ⟨a, ha, hx⟩
    · obtain ⟨a, ha, rfl⟩ := isb_n hv h1
      have un : ∀ {p : Prop}, ((ix a = mi ∧ x2 = ix 0) ∨ ∃ c, c < n ∧ ix a = ix c ∧ ¬ z.2.1 10 c = ix 0 ∧ ¬ x2 = mi ∧ (z.2.1 5 c = x2 ∨ z.2.1 6 c = x2)) → (¬ z.2.1 10 a = ix 0 → ¬ x2 = mi → (z.2.1 5 a = x2 ∨ z.2.1 6 a = x2) → p) → p := by
        intro p hh k
        rcases hh with hh | ⟨c, hc, hx, q1, q2, q3⟩
        · exact absurd hh.1 (ix_ne (by omega))
        · rw [ix_inj (by omega) (by omega)] at hx; subst hx; exact k q1 q2 q3
      try simp (disch := omega) only [forall_eq, l0, l1, l2, l3, l4, l5, l6, l15, l16, l24, l30, l99, l100, l200, l385, lm1, ix_ne, ne_ix, ix_nat, vp_ix, ix_inj, ix_le, ix_lt, ix_add, ix_mul, ix_sub, nar0', nar1', or00, or01, or10, or11, rI, rIA, rIL, rA, rAI, rAL, rL, rLI, rLA, ru, ruL, reduceIte, Nat.reduceEqDiff, true_or, or_true, true_and, and_true, false_or, or_false, not_true_eq_false, not_false_eq_true, false_implies, true_implies, implies_true, i10, i01]
      refine ⟨by omega, fun h2 => hK _ (Or.inr ⟨rfl, fun hh => un hh (fun q _ _ => q h2)⟩), fun h2 => ⟨fun h3 => ⟨by omega, fun h4 => hK _ (Or.inl ⟨rfl, Or.inr ⟨a, ha, rfl, h2, h3, Or.inl h4⟩⟩), fun h4 => ⟨by omega, fun h5 => hK _ (Or.inr ⟨rfl, fun hh => un hh (fun _ _ q => q.elim h4 h5)⟩), fun h5 => hK _ (Or.inl ⟨rfl, Or.inr ⟨a, ha, rfl, h2, h3, Or.inr h5⟩⟩)⟩⟩, fun h3 => hK _ (Or.inr ⟨rfl, fun hh => un hh (fun _ q _ => q h3)⟩)⟩⟩
  · rcases hh with hh | ⟨a, ha, hx, _⟩
    · exact h1 hh.2
    · rw [h0] at hx; exact absurd hx (ne_ix (by omega))
theorem nx_edn {z : Sta} {a : Nat} (h : edn z a) (x : Int32) (hx : ¬ x = mi) : (nx (z.2.1 17) a 0 = x ∨ nx (z.2.1 17) a 1 = x) ↔ (z.2.1 5 a = x ∨ z.2.1 6 a = x) := by
  have hm : ¬ mi = x := fun e => hx e.symm
  have i20 : ¬ ix 2 = ix 0 := by decide
  have i12 : ¬ ix 1 = ix 2 := by decide
  have i02 : ¬ ix 0 = ix 2 := by decide
  rcases h with ⟨h1, h2, h3, h4⟩ | ⟨h1, h2, a1, ha1, h3, h4, h5⟩ | ⟨h1, x1, a1, c1, hx1, ha1, hc1, h2, h3, h4, h5, h6, h7⟩
  · simp only [nx, h1, h3, h4, reduceIte, i02, false_and, Nat.one_ne_zero, hm, or_self]
  · simp only [nx, h1, h3, h4, h5, reduceIte, i12, i10, false_and, Nat.one_ne_zero, hm, or_false, or_self]
  · simp only [nx, h1, h3, h4, h6, h7, reduceIte, i20, true_and, Nat.one_ne_zero]
    by_cases e : ix c1 = ix a1
    · simp only [e, not_true_eq_false, reduceIte, hm, or_false, or_self]
    · simp only [e, not_false_eq_true, reduceIte]
theorem d_put {z : Sta} {x1 x2 : Int32} {X : Int32 → Int64 → Int32 → Sta → Prop} (hR : Rel z) (hX : ∀ k b t y, t = k → (k = ix 0 → y.2.2 10 0 = b) → Rel y → X k b t y) : wp_L_put x1 x2 z (fun k z1 => wp_M_put x1 x2 z1 (fun b z2 => wp_M_thrown z2 (fun t z3 => X k b t z3))) := by
  have hR0 := hR
  obtain ⟨n, m, sz, hP, hF, hN⟩ := hR
  obtain ⟨hn, hm, p2, p8, p3, p9, psz, pst, ped, pex, pus, pun⟩ := hP
  obtain ⟨f1, f2, f3, f4, f5⟩ := hF
  try simp (disch := omega) only [wp_L_put, wp_C_put, forall_eq, l0, l1, l2, l3, l4, l5, l6, l15, l16, l24, l30, l99, l100, l200, l385, lm1, ix_ne, ne_ix, ix_nat, vp_ix, ix_inj, ix_le, ix_lt, ix_add, ix_mul, ix_sub, nar0', nar1', or00, or01, or10, or11, rI, rIA, rIL, rA, rAI, rAL, rL, rLI, rLA, ru, ruL, reduceIte, Nat.reduceEqDiff, true_or, or_true, true_and, and_true, false_or, or_false, not_true_eq_false, not_false_eq_true, false_implies, true_implies, implies_true, i10, i01]
  refine ⟨fun h0 => ?_, fun h0 => ?_⟩
  · have h1 : z.1 0 = ix 1 := f2.resolve_left h0
    have hpl := f5 h1
    have h10 : z.1 10 = ix 1 := f1.symm.trans h1
    obtain ⟨hn0, q1, q2, q3, q4, q5, q6, q7, q8⟩ := hpl
    have isE : ∀ (z1 : Sta) (K : Int32 → Sta → Prop), fr [7] [] [10] z z1 → (∀ v, isb v ((x1 = mi ∧ x2 = ix 0) ∨ ∃ a, a < n ∧ x1 = ix a ∧ ¬ z.2.1 10 a = ix 0 ∧ ¬ x2 = mi ∧ (z.2.1 5 a = x2 ∨ z.2.1 6 a = x2)) → K v z1) → wp_M_isEdge x1 x2 z1 K := by
      intro z1 K hf hK
      have k8 : z1.1 8 = ix n := (hf.1 8 (by decide)).trans p8
      have k21 : z1.2.1 21 = z.2.1 21 := hf.2.1 21 (by decide)
      have k17 : z1.2.1 17 = z.2.1 17 := hf.2.1 17 (by decide)
      simp only [wp_M_isEdge, pj_M_isEdge_14, pj_M_isEdge_56, pj_M_isEdge_57, forall_eq, l0, l1, lm1, k8, true_or, or_true, true_and]
      refine ⟨fun g0 => s_M_withinm (n := n) (by omega) (fun v hv => ⟨fun g1 => hK _ (Or.inr ⟨rfl, fun hh => ?_⟩), fun g1 => ?_⟩), fun g0 => ⟨fun g1 => hK _ (Or.inr ⟨rfl, fun hh => ?_⟩), fun g1 => hK _ (Or.inl ⟨rfl, Or.inl ⟨g0, g1⟩⟩)⟩⟩
      · rcases hh with hh | ⟨a, ha, hx, _⟩
        · exact g0 hh.1
        · exact (isb_z hv).1 g1 ⟨a, ha, hx⟩
      rotate_left
      · rcases hh with hh | ⟨a, ha, hx, _⟩
        · exact g1 hh.2
        · rw [g0] at hx; exact absurd hx (ne_ix (by omega))
      rw [k8]
      refine s_M_withinm (n := n) (by omega) (fun w hw => ⟨fun g2 => hK _ (Or.inr ⟨rfl, fun hh => ?_⟩), fun g2 => ?_⟩)
      · rcases hh with hh | ⟨a, ha, hx, _, hm2, hE⟩
        · exact g0 hh.1
        · refine (isb_z hw).1 g2 ?_
          rcases hE with hE | hE
          · rcases (q2 a ha).1 with hq | ⟨c, hc, hq⟩
            · exact absurd (hE.symm.trans hq) hm2
            · exact ⟨c, hc, hE.symm.trans hq⟩
          · rcases (q2 a ha).2 with hq | ⟨c, hc, hq⟩
            · exact absurd (hE.symm.trans hq) hm2
            · exact ⟨c, hc, hE.symm.trans hq⟩
      · obtain ⟨a, ha, rfl⟩ := isb_n hv g1
        obtain ⟨b, hb1, rfl⟩ := isb_n hw g2
        have un : ((ix a = mi ∧ ix b = ix 0) ∨ ∃ c, c < n ∧ ix a = ix c ∧ ¬ z.2.1 10 c = ix 0 ∧ ¬ ix b = mi ∧ (z.2.1 5 c = ix b ∨ z.2.1 6 c = ix b)) ↔ (¬ z1.2.1 21 a = ix 0 ∧ (nx (z1.2.1 17) a 0 = ix b ∨ nx (z1.2.1 17) a 1 = ix b)) := by
          rw [k21, k17, (q1 a ha).2, nx_edn (ped a ha) (ix b) (ix_ne (by omega))]
          constructor
          · rintro (hh | ⟨c, hc, hx, r1, r2, r3⟩)
            · exact absurd hh.1 (ix_ne (by omega))
            · rw [ix_inj (by omega) (by omega)] at hx; subst hx; exact ⟨r1, r3⟩
          · rintro ⟨r1, r3⟩; exact Or.inr ⟨a, ha, rfl, r1, ix_ne (by omega), r3⟩
        refine s_M_edge (by omega) (fun u hu => ⟨fun g3 => hK _ (Or.inr ⟨rfl, fun hh => (isb_z hu).1 g3 (un.1 hh)⟩), fun g3 => hK _ (Or.inl ⟨rfl, un.2 (isb_n hu g3)⟩)⟩)
    refine s_O_hasEdge hn p2 (fun v hv => ⟨fun h2 => ?_, fun h2 => Or.inr ?_⟩)
    · have yes : ∀ (x : Int64) (t : Nat), t < 257 → x = (z.2.1 23 t).toInt64 → ((x1 = mi ∧ t = 256) ∨ ∃ a b, a < n ∧ b < n ∧ x1 = ix a ∧ x2 = ix b ∧ t = 16 * a + b) → wp_M_put x1 x2 (zL z 10 (vp_updL (z.2.2 10) 0 x)) (fun b z2 => wp_M_thrown z2 (fun t z3 => X (ix 0) b t z3)) := by
        intro x t ht hx hc
        have k10 : (zI (zL z 10 (vp_updL (z.2.2 10) 0 x)) 7 (ix 0)).1 10 = ix 1 := by
          try simp (disch := omega) only [forall_eq, l0, l1, l2, l3, l4, l5, l6, l15, l16, l24, l30, l99, l100, l200, l385, lm1, ix_ne, ne_ix, ix_nat, vp_ix, ix_inj, ix_le, ix_lt, ix_add, ix_mul, ix_sub, nar0', nar1', or00, or01, or10, or11, rI, rIA, rIL, rA, rAI, rAL, rL, rLI, rLA, ru, ruL, reduceIte, Nat.reduceEqDiff, true_or, or_true, true_and, and_true, false_or, or_false, not_true_eq_false, not_false_eq_true, false_implies, true_implies, implies_true, i10, i01]
          exact h10
        simp only [wp_M_put, forall_eq, l0, k10, i10, not_false_eq_true, true_implies, false_implies, and_true]
        refine isE _ _ (fr_I (fr_L (fr_refl z) (by decide) _) (by decide) _) (fun w hw => ⟨fun h => absurd (isb_n hv h2) ((isb_z hw).1 h), fun _ => ?_⟩)
        have fin : ∀ y0, y0 = ix t → pj_M_put_48 (fun b z2 => wp_M_thrown z2 (fun t z3 => X (ix 0) b t z3)) y0 (zI (zL z 10 (vp_updL (z.2.2 10) 0 x)) 7 (ix 0)) := by
          intro y0 hy
          subst hy
          try simp (disch := omega) only [pj_M_put_48, pj_M_put_59, wp_M_thrown, forall_eq, l0, l1, l2, l3, l4, l5, l6, l15, l16, l24, l30, l99, l100, l200, l385, lm1, ix_ne, ne_ix, ix_nat, vp_ix, ix_inj, ix_le, ix_lt, ix_add, ix_mul, ix_sub, nar0', nar1', or00, or01, or10, or11, rI, rIA, rIL, rA, rAI, rAL, rL, rLI, rLA, ru, ruL, reduceIte, Nat.reduceEqDiff, true_or, or_true, true_and, and_true, false_or, or_false, not_true_eq_false, not_false_eq_true, false_implies, true_implies, implies_true, i10, i01]
          refine ⟨by omega, hX _ _ _ _ rfl (fun _ => ?_) (Rel_fr hR0 (fr_I (fr_L (fr_refl z) (by decide) _) (by decide) _))⟩
          try simp (disch := omega) only [forall_eq, l0, l1, l2, l3, l4, l5, l6, l15, l16, l24, l30, l99, l100, l200, l385, lm1, ix_ne, ne_ix, ix_nat, vp_ix, ix_inj, ix_le, ix_lt, ix_add, ix_mul, ix_sub, nar0', nar1', or00, or01, or10, or11, rI, rIA, rIL, rA, rAI, rAL, rL, rLI, rLA, ru, ruL, reduceIte, Nat.reduceEqDiff, true_or, or_true, true_and, and_true, false_or, or_false, not_true_eq_false, not_false_eq_true, false_implies, true_implies, implies_true, i10, i01]
          exact hx
        rcases hc with ⟨e1, e2⟩ | ⟨a, b, ha, hb1, e1, e2, e3⟩
        · have nle : ¬ ix 0 ≤ mi := by decide
          rw [e1]
          exact ⟨fun h => absurd h nle, fun _ => fin _ (by rw [e2]; rfl)⟩
        · rw [e1, e2]
          try simp (disch := omega) only [forall_eq, l0, l1, l2, l3, l4, l5, l6, l15, l16, l24, l30, l99, l100, l200, l385, lm1, ix_ne, ne_ix, ix_nat, vp_ix, ix_inj, ix_le, ix_lt, ix_add, ix_mul, ix_sub, nar0', nar1', or00, or01, or10, or11, rI, rIA, rIL, rA, rAI, rAL, rL, rLI, rLA, ru, ruL, reduceIte, Nat.reduceEqDiff, true_or, or_true, true_and, and_true, false_or, or_false, not_true_eq_false, not_false_eq_true, false_implies, true_implies, implies_true, i10, i01]
          exact ⟨fun _ => fin _ (by rw [e3]), fun h => absurd (by omega) h⟩
      rcases isb_n hv h2 with ⟨e1, e2⟩ | ⟨a, ha, e1, hr, hm2, hE⟩
      · subst e1; subst e2
        simp only [wp_O_putOn]
        refine s_O_laterOnm (by omega) ?_
        try simp (disch := omega) only [forall_eq, l0, l1, l2, l3, l4, l5, l6, l15, l16, l24, l30, l99, l100, l200, l385, lm1, ix_ne, ne_ix, ix_nat, vp_ix, ix_inj, ix_le, ix_lt, ix_add, ix_mul, ix_sub, nar0', nar1', or00, or01, or10, or11, rI, rIA, rIL, rA, rAI, rAL, rL, rLI, rLA, ru, ruL, reduceIte, Nat.reduceEqDiff, true_or, or_true, true_and, and_true, false_or, or_false, not_true_eq_false, not_false_eq_true, false_implies, true_implies, implies_true, i10, i01]
        exact ⟨by omega, yes _ 256 (by omega) q7 (Or.inl ⟨rfl, rfl⟩)⟩
      · subst e1
        have hb : ∃ b, b < n ∧ x2 = ix b := by
          rcases hE with hE | hE
          · rcases (q2 a ha).1 with hq | ⟨c, hc, hq⟩
            · exact absurd (hE.symm.trans hq) hm2
            · exact ⟨c, hc, hE.symm.trans hq⟩
          · rcases (q2 a ha).2 with hq | ⟨c, hc, hq⟩
            · exact absurd (hE.symm.trans hq) hm2
            · exact ⟨c, hc, hE.symm.trans hq⟩
        obtain ⟨b, hb1, rfl⟩ := hb
        simp only [wp_O_putOn]
        refine s_O_laterOn (by omega) (by omega) ?_
        try simp (disch := omega) only [forall_eq, l0, l1, l2, l3, l4, l5, l6, l15, l16, l24, l30, l99, l100, l200, l385, lm1, ix_ne, ne_ix, ix_nat, vp_ix, ix_inj, ix_le, ix_lt, ix_add, ix_mul, ix_sub, nar0', nar1', or00, or01, or10, or11, rI, rIA, rIL, rA, rAI, rAL, rL, rLI, rLA, ru, ruL, reduceIte, Nat.reduceEqDiff, true_or, or_true, true_and, and_true, false_or, or_false, not_true_eq_false, not_false_eq_true, false_implies, true_implies, implies_true, i10, i01]
        exact ⟨by omega, yes _ (16 * a + b) (by omega) (q6 a b ha hb1 ((q1 a ha).1.resolve_left hr) hE) (Or.inr ⟨a, b, ha, hb1, rfl, rfl, rfl⟩)⟩
    · have k10 : (zI z 7 (ix 0)).1 10 = ix 1 := by
        try simp (disch := omega) only [forall_eq, l0, l1, l2, l3, l4, l5, l6, l15, l16, l24, l30, l99, l100, l200, l385, lm1, ix_ne, ne_ix, ix_nat, vp_ix, ix_inj, ix_le, ix_lt, ix_add, ix_mul, ix_sub, nar0', nar1', or00, or01, or10, or11, rI, rIA, rIL, rA, rAI, rAL, rL, rLI, rLA, ru, ruL, reduceIte, Nat.reduceEqDiff, true_or, or_true, true_and, and_true, false_or, or_false, not_true_eq_false, not_false_eq_true, false_implies, true_implies, implies_true, i10, i01]
        exact h10
      simp only [wp_M_put, forall_eq, l0, k10, i10, not_false_eq_true, true_implies, false_implies, and_true]
      refine isE _ _ (fr_I (fr_refl z) (by decide) _) (fun w hw => ⟨fun _ => ?_, fun h => absurd (isb_n hw h) ((isb_z hv).1 h2)⟩)
      try simp (disch := omega) only [wp_M_fail, pj_M_put_59, wp_M_thrown, forall_eq, l0, l1, l2, l3, l4, l5, l6, l15, l16, l24, l30, l99, l100, l200, l385, lm1, ix_ne, ne_ix, ix_nat, vp_ix, ix_inj, ix_le, ix_lt, ix_add, ix_mul, ix_sub, nar0', nar1', or00, or01, or10, or11, rI, rIA, rIL, rA, rAI, rAL, rL, rLI, rLA, ru, ruL, reduceIte, Nat.reduceEqDiff, true_or, or_true, true_and, and_true, false_or, or_false, not_true_eq_false, not_false_eq_true, false_implies, true_implies, implies_true, i10, i01]
      exact hX _ _ _ _ rfl (fun h => absurd h (by decide)) (Rel_fr hR0 (fr_I (fr_I (fr_refl z) (by decide) _) (by decide) _))
  · refine Or.inl ?_
    have h10 : z.1 10 = ix 0 := f1.symm.trans h0
    have : wp_M_put x1 x2 z (fun b z2 => wp_M_thrown z2 (fun t z3 => X (ix 1) b t z3)) := by
      try simp (disch := omega) only [wp_M_put, wp_M_thrown, wp_M_fail, h10, forall_eq, l0, l1, l2, l3, l4, l5, l6, l15, l16, l24, l30, l99, l100, l200, l385, lm1, ix_ne, ne_ix, ix_nat, vp_ix, ix_inj, ix_le, ix_lt, ix_add, ix_mul, ix_sub, nar0', nar1', or00, or01, or10, or11, rI, rIA, rIL, rA, rAI, rAL, rL, rLI, rLA, ru, ruL, reduceIte, Nat.reduceEqDiff, true_or, or_true, true_and, and_true, false_or, or_false, not_true_eq_false, not_false_eq_true, false_implies, true_implies, implies_true, i10, i01]
      exact hX _ _ _ _ rfl (fun h => absurd h i10) (Rel_fr hR0 (fr_I (fr_I (fr_refl z) (by decide) _) (by decide) _))
    first | exact this | exact ⟨rfl, this⟩
