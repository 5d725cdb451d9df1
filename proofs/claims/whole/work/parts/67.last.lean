theorem Rel_0 : Rel wk_z0 := by
  refine ⟨0, 0, fun _ => 0, ⟨by omega, by omega, rfl, rfl, rfl, rfl, fun b _ => ⟨rfl, rfl, Nat.zero_le _, fun _ => rfl⟩, fun b k hb1 => absurd hb1 (by omega), fun b hb1 => absurd hb1 (by omega), fun e he => absurd he (by omega), fun v e _ _ => ⟨fun h => ?_, fun h => absurd h.1 (by omega)⟩, fun e d he => absurd he (by omega)⟩, ⟨rfl, Or.inl rfl, rfl, fun k b e _ _ _ => hb_0 e, fun h => absurd h i01⟩, ⟨⟨0, by omega, rfl, rfl, fun _ _ _ => rfl⟩, rfl, fun _ _ => rfl, fun _ _ => rfl, fun _ _ _ => rfl⟩⟩
  have : hb (wk_z0.2.2 0 v) e = false := hb_0 e
  rw [this] at h
  exact absurd h Bool.false_ne_true
theorem lt6 {L j : Nat} (hL : L ≤ 3072) (hj : j ≤ 512) : (ix L - ix 6 < ix (6 * j)) ↔ L < 6 * j + 6 := by
  rcases Nat.lt_or_ge L 6 with h | h
  · have : (ix L - ix 6).toInt < 0 := by
      rcases (by omega : L = 0 ∨ L = 1 ∨ L = 2 ∨ L = 3 ∨ L = 4 ∨ L = 5) with e | e | e | e | e | e <;> subst e <;> decide
    rw [Int32.lt_iff_toInt_lt, ix_toInt (by omega)]
    constructor
    · intro _; omega
    · intro _; omega
  · rw [ix_sub h, ix_lt (by omega) (by omega)]
    omega
theorem law_loop {xs : Nat → Int32} {L : Nat} {K : Int32 → Sta → Prop} (hL : L ≤ 3072) (hK : ∀ z, K (ix 1) z) : ∀ (k j : Nat) (z : Sta), j + k = 512 → Rel z → lp_L_law_23 xs L K (k + 1) (ix (6 * j)) z := by
  intro k
  induction k with
  | zero =>
    intro j z hjk hR
    have hofn : Int32.ofNat L = ix L := rfl
    have hlt : ix L - ix 6 < ix (6 * j) := (lt6 hL (by omega)).2 (by omega)
    rw [lp_L_law_23]
    simp only [forall_eq, hofn, l6]
    exact ⟨fun _ => ⟨Or.inr trivial, hK z⟩, fun h => absurd hlt h⟩
  | succ k ih =>
    intro j z hjk hR
    have hofn : Int32.ofNat L = ix L := rfl
    have hlt := lt6 (L := L) (j := j) hL (by omega)
    rcases Nat.lt_or_ge L (6 * j + 6) with hle | hge
    · rw [lp_L_law_23]
      simp only [forall_eq, hofn, l6]
      exact ⟨fun _ => ⟨Or.inr trivial, hK z⟩, fun h => absurd (hlt.2 hle) h⟩
    have nlt : ¬ ix L - ix 6 < ix (6 * j) := fun h => absurd (hlt.1 h) (by omega)
    have next : ∀ y, Rel y → lp_L_law_23 xs L K (k + 1) (ix (6 * j + 6)) y := fun y hy => ih (j + 1) y (by omega) hy
    have fin : ∀ (c t : Int32) (w v : Int64) (y : Sta), t = c → (c = ix 0 → w = v) → Rel y → (t = c → (¬ c = ix 0 → lp_L_law_23 xs L K (k + 1) (ix (6 * j + 6)) y) ∧ (c = ix 0 → (lg_cmp w v = ix 0 → lp_L_law_23 xs L K (k + 1) (ix (6 * j + 6)) y) ∧ (¬ lg_cmp w v = ix 0 → K (ix 0) y))) ∧ (¬ t = c → K (ix 0) y) :=
      fun c t w v y h1 h2 h3 => ⟨fun _ => ⟨fun _ => next y h3, fun h => ⟨fun _ => next y h3, fun g => absurd (cmp0.2 (h2 h)) g⟩⟩, fun g => absurd h1 g⟩
    have fin2 : ∀ (c : Int32) (y : Sta), Rel y → (c = c → lp_L_law_23 xs L K (k + 1) (ix (6 * j + 6)) y) ∧ (¬ c = c → K (ix 0) y) := fun c y h => ⟨fun _ => next y h, fun g => absurd rfl g⟩
    have v0 : vp_in (ix (6 * j)) L := (vp_ix (by omega)).2 (by omega)
    have v1 : vp_in (ix (6 * j + 1)) L := (vp_ix (by omega)).2 (by omega)
    have v2 : vp_in (ix (6 * j + 2)) L := (vp_ix (by omega)).2 (by omega)
    have v3 : vp_in (ix (6 * j + 3)) L := (vp_ix (by omega)).2 (by omega)
    have v4 : vp_in (ix (6 * j + 4)) L := (vp_ix (by omega)).2 (by omega)
    have v5 : vp_in (ix (6 * j + 5)) L := (vp_ix (by omega)).2 (by omega)
    have v01 : vp_in (ix 0) 1 := (vp_ix (by omega)).2 (by omega)
    have zn : (ix 0).toNatClampNeg = 0 := ix_nat (by omega)
    rw [lp_L_law_23]
    simp only [forall_eq, hofn, l0, l1, l2, l3, l4, l5, l6, nlt, ix_add, v0, v1, v2, v3, v4, v5, v01, zn, true_and, true_or, or_true, false_implies, not_false_eq_true, true_implies, pj_L_law_932, pj_L_law_929, pj_L_law_848, pj_L_law_792, pj_L_law_723, pj_L_law_672, pj_L_law_633, pj_L_law_615, pj_L_law_535, pj_L_law_468, pj_L_law_401, pj_L_law_357, pj_L_law_253, pj_L_law_149]
    refine ⟨fun _ => ?_, fun _ => ?_, fun _ => ?_, fun _ => ?_, fun _ => ?_, fun _ => ?_, fun _ => ?_, fun _ => ?_, fun _ => ?_, fun _ => ?_, fun _ => ?_, fun _ => ?_, fun _ => ?_, fun _ => next z hR⟩
    · exact d_block hR (fun c b t y h1 h2 h3 => fin c t _ _ y h1 h2 h3)
    · exact d_statement hR (fun c b t y h1 h2 h3 => fin c t _ _ y h1 h2 h3)
    · exact d_end hR (fun c b t y h1 h2 h3 => fin c t _ _ y h1 h2 h3)
    · exact d_plan hR (fun c b t y h1 h2 h3 => fin c t _ _ y h1 h2 h3)
    · exact d_set hR (fun c b t y h1 h2 h3 => fin c t _ _ y h1 h2 h3)
    · exact d_put hR (fun c b t y h1 h2 h3 => fin c t _ _ y h1 h2 h3)
    · exact d_expression hR (fun c b t y h1 h2 h3 => fin c t _ _ y h1 h2 h3)
    · refine ⟨fun h => ?_, fun h => ?_⟩
      · simp only [h, true_implies, not_true_eq_false, false_implies, and_true]
        exact d_run hR (fun c b t y h1 h2 h3 => fin c t _ _ y h1 h2 h3)
      · simp only [h, true_implies, not_false_eq_true, false_implies, true_and]
        exact d_run hR (fun c b t y h1 h2 h3 => fin c t _ _ y h1 h2 h3)
    · exact d_outs hR (fun c y h => fin2 c y h)
    · exact d_out hR (fun c b t y h1 h2 h3 => fin c t _ _ y h1 h2 h3)
    · exact d_variable hR (fun c b t y h1 h2 h3 => fin c t _ _ y h1 h2 h3)
    · exact d_computed hR (fun c y h => fin2 c y h)
    · exact d_count hR (fun c b t y h1 h2 h3 => fin c t _ _ y h1 h2 h3)
theorem law_pure {xs : Nat → Int32} {L : Nat} (hL : L ≤ 3072) : lp_L_law_23 xs L (fun r _ => r = 1) 513 0 wk_z0 := law_loop hL (fun _ => rfl) 512 0 wk_z0 (by omega) Rel_0
