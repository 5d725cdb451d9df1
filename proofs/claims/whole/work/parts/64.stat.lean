theorem zAA {z : Sta} {k : Nat} {f g : Nat → Int32} : zA (zA z k f) k g = zA z k g := by
  show (z.1, (fun j => if j = k then g else (if j = k then f else z.2.1 j)), z.2.2) = (z.1, (fun j => if j = k then g else z.2.1 j), z.2.2)
  have : (fun j => if j = k then g else (if j = k then f else z.2.1 j)) = (fun j => if j = k then g else z.2.1 j) := by
    funext j; split <;> rfl
  rw [this]
def EOK (n : Nat) (x1 x2 x3 x4 x5 : Int32) : Prop := (∃ b, b < n ∧ x1 = ix b) ∧ (x2 = ix 0 ∨ (x2 = ix 1 ∧ ∃ a, a < 16 ∧ x4 = ix a) ∨ (x2 = ix 2 ∧ (∃ x, x < 6 ∧ x3 = ix x) ∧ (∃ a, a < 16 ∧ x4 = ix a) ∧ ∃ c, c < 16 ∧ x5 = ix c))
theorem s_C_isEnd {z : Sta} {K : Int32 → Sta → Prop} {x2 x3 x4 x5 : Int32} (hK : ∀ v, isb v (x2 = ix 0 ∨ (x2 = ix 1 ∧ ∃ a, a < 16 ∧ x4 = ix a) ∨ (x2 = ix 2 ∧ (∃ x, x < 6 ∧ x3 = ix x) ∧ (∃ a, a < 16 ∧ x4 = ix a) ∧ ∃ c, c < 16 ∧ x5 = ix c)) → K v z) : wp_C_isEnd x2 x3 x4 x5 z K := by
  have i12 : ¬ ix 1 = ix 2 := by decide
  have i20 : ¬ ix 2 = ix 0 := by decide
  have i21 : ¬ ix 2 = ix 1 := by decide
  try simp (disch := omega) only [wp_C_isEnd, pj_C_isEnd_60, pj_C_isEnd_61, forall_eq, l0, l1, l2, l3, l4, l5, l6, l15, l16, l24, l30, l99, l100, l200, l385, lm1, ix_ne, ne_ix, ix_nat, vp_ix, ix_inj, ix_le, ix_lt, ix_add, ix_mul, ix_sub, nar0', nar1', or00, or01, or10, or11, rI, rIA, rIL, rA, rAI, rAL, rL, rLI, rLA, ru, ruL, reduceIte, Nat.reduceEqDiff, true_or, or_true, true_and, and_true, false_or, or_false, not_true_eq_false, not_false_eq_true, false_implies, true_implies, implies_true, i10, i01]
  refine ⟨fun h => hK _ (Or.inl ⟨rfl, Or.inl h⟩), fun h => s_C_mayBeBlock (fun v hv => ⟨isb_b hv, hK _ (isb_c hv ⟨fun hh => Or.inr (Or.inl ⟨h, hh⟩), fun hh => ?_⟩)⟩), fun h => ?_, fun h => hK _ (Or.inr ⟨rfl, fun hh => ?_⟩)⟩
  · subst h
    rcases hh with hh | ⟨_, hh⟩ | ⟨hh, _⟩
    · exact absurd hh i10
    · exact hh
    · exact absurd hh i12
  · subst h
    have un : ∀ {p : Prop}, (ix 2 = ix 0 ∨ (ix 2 = ix 1 ∧ ∃ a, a < 16 ∧ x4 = ix a) ∨ (ix 2 = ix 2 ∧ (∃ x, x < 6 ∧ x3 = ix x) ∧ (∃ a, a < 16 ∧ x4 = ix a) ∧ ∃ c, c < 16 ∧ x5 = ix c)) → (((∃ x, x < 6 ∧ x3 = ix x) ∧ (∃ a, a < 16 ∧ x4 = ix a) ∧ ∃ c, c < 16 ∧ x5 = ix c) → p) → p := by
      intro p hh k
      rcases hh with hh | ⟨hh, _⟩ | ⟨_, hh⟩
      · exact absurd hh i20
      · exact absurd hh i21
      · exact k hh
    refine s_C_isVariable (fun v hv => ⟨fun h0 => hK _ (Or.inr ⟨rfl, fun hh => un hh (fun q => (isb_z hv).1 h0 q.1)⟩), fun h0 => s_C_mayBeBlock (fun v1 hv1 => ⟨fun h1 => hK _ (Or.inr ⟨rfl, fun hh => un hh (fun q => (isb_z hv1).1 h1 q.2.1)⟩), fun h1 => s_C_mayBeBlock (fun v2 hv2 => ⟨fun h2 => hK _ (Or.inr ⟨rfl, fun hh => un hh (fun q => (isb_z hv2).1 h2 q.2.2)⟩), fun h2 => hK _ (Or.inl ⟨rfl, Or.inr (Or.inr ⟨rfl, isb_n hv h0, isb_n hv1 h1, isb_n hv2 h2⟩)⟩)⟩)⟩)⟩)
  · rcases hh with hh | ⟨hh, _⟩ | ⟨hh, _⟩
    · exact h.1 hh
    · exact h.2.1 hh
    · exact h.2.2 hh
theorem s_M_endF {z : Sta} {K : Int32 → Sta → Prop} {n : Nat} {x1 x2 x3 x4 x5 : Int32} (hn : n ≤ 16) (hN : z.1 8 = ix n) (h1 : EOK n x1 x2 x3 x4 x5 → pj_M_end_73 K x1 x2 x3 x4 x5 (ix 1) (zI z 7 (ix 0))) (h0 : ¬ EOK n x1 x2 x3 x4 x5 → pj_M_end_73 K x1 x2 x3 x4 x5 (ix 0) (zI z 7 (ix 0))) : wp_M_end x1 x2 x3 x4 x5 z K := by
  have k8 : (zI z 7 (ix 0)).1 8 = ix n := by
    simp only [rI, Nat.reduceEqDiff, reduceIte]; exact hN
  have k20 : ¬ ix 2 = ix 0 := by decide
  have k21 : ¬ ix 2 = ix 1 := by decide
  have k12 : ¬ ix 1 = ix 2 := by decide
  simp only [wp_M_end, forall_eq, l0, l1, l2, k8, pj_M_end_72]
  refine s_M_withinm (n := n) (by omega) (fun v hv => ⟨fun g0 => h0 (fun hh => (isb_z hv).1 g0 hh.1), fun g0 => s_M_within (by omega) (fun w hw => ⟨fun g1 => h0 (fun hh => (isb_z hw).1 g1 ?_), fun g1 => ?_⟩)⟩)
  · rcases hh.2 with q | ⟨q, _⟩ | ⟨q, _⟩
    · exact ⟨0, by omega, q⟩
    · exact ⟨1, by omega, q⟩
    · exact ⟨2, by omega, q⟩
  · obtain ⟨t, ht, rfl⟩ := isb_n hw g1
    have hb := isb_n hv g0
    simp only [pj_M_end_43, pj_M_end_68, pj_M_end_72, l0, l1, l2, l5, l15]
    refine ⟨fun e0 => ⟨fun _ => h1 ⟨hb, Or.inl e0⟩, fun q => ?_⟩, fun e0 => s_M_within (by omega) (fun u hu => ⟨fun g2 => h0 (fun hh => ?_), fun g2 => ⟨fun q => ?_, fun q => ?_⟩⟩)⟩
    · rw [e0] at q; exact absurd (by decide) q
    · rcases hh.2 with r | ⟨_, r⟩ | ⟨_, _, r, _⟩
      · exact e0 r
      · exact (isb_z hu).1 g2 r
      · exact (isb_z hu).1 g2 r
    · rw [ix_lt (by omega) (by omega)] at q
      have : t ≠ 0 := fun e => e0 (by rw [e])
      have e1 : t = 1 := by omega
      subst e1
      exact h1 ⟨hb, Or.inr (Or.inl ⟨rfl, isb_n hu g2⟩)⟩
    · rw [ix_lt (by omega) (by omega)] at q
      have e1 : t = 2 := by omega
      subst e1
      refine s_M_within (by omega) (fun u1 hu1 => ⟨fun g3 => h0 (fun hh => ?_), fun g3 => s_M_within (by omega) (fun u2 hu2 => ⟨fun g4 => h0 (fun hh => ?_), fun g4 => h1 ⟨hb, Or.inr (Or.inr ⟨rfl, isb_n hu1 g3, isb_n hu g2, isb_n hu2 g4⟩)⟩⟩)⟩)
      · rcases hh.2 with r | ⟨r, _⟩ | ⟨_, r, _⟩
        · exact e0 r
        · exact k21 r
        · exact (isb_z hu1).1 g3 r
      · rcases hh.2 with r | ⟨r, _⟩ | ⟨_, _, _, r⟩
        · exact e0 r
        · exact k21 r
        · exact (isb_z hu2).1 g4 r
theorem d_end {z : Sta} {x1 x2 x3 x4 x5 : Int32} {X : Int32 → Int32 → Int32 → Sta → Prop} (hR : Rel z) (hX : ∀ k b t y, t = k → (k = ix 0 → y.2.2 10 0 = b.toInt64) → Rel y → X k b t y) : wp_L_end x1 x2 x3 x4 x5 z (fun k z1 => wp_M_end x1 x2 x3 x4 x5 z1 (fun b z2 => wp_M_thrown z2 (fun t z3 => X k b t z3))) := by
  have hR0 := hR
  obtain ⟨n, m, sz, hP, hF, hN⟩ := hR
  obtain ⟨hn, hm, p2, p8, p3, p9, psz, pst, ped, pex, pus, pun⟩ := hP
  have no : ¬ EOK n x1 x2 x3 x4 x5 → wp_M_end x1 x2 x3 x4 x5 z (fun b z2 => wp_M_thrown z2 (fun t z3 => X (ix 1) b t z3)) := by
    intro hno
    refine s_M_endF hn p8 (fun h => absurd h hno) (fun _ => ?_)
    try simp (disch := omega) only [pj_M_end_73, wp_M_fail, wp_M_thrown, forall_eq, l0, l1, l2, l3, l4, l5, l6, l15, l16, l24, l30, l99, l100, l200, l385, lm1, ix_ne, ne_ix, ix_nat, vp_ix, ix_inj, ix_le, ix_lt, ix_add, ix_mul, ix_sub, nar0', nar1', or00, or01, or10, or11, rI, rIA, rIL, rA, rAI, rAL, rL, rLI, rLA, ru, ruL, reduceIte, Nat.reduceEqDiff, true_or, or_true, true_and, and_true, false_or, or_false, not_true_eq_false, not_false_eq_true, false_implies, true_implies, implies_true, i10, i01]
    exact hX _ _ _ _ rfl (fun h => absurd h i10) (Rel_fr hR0 (fr_I (fr_I (fr_refl z) (by decide) _) (by decide) _))
  have yes : ∀ (b : Nat) (tx ta tc r : Int32), b < n → x1 = ix b → EOK n x1 x2 x3 x4 x5 → ((x2 = ix 0 ∧ tx = ix 0 ∧ ta = mi ∧ tc = mi ∧ r = ix 0) ∨ (x2 = ix 1 ∧ tx = ix 0 ∧ (∃ a, a < 16 ∧ x4 = ix a) ∧ ta = x4 ∧ tc = x4 ∧ r = ix 1) ∨ (x2 = ix 2 ∧ (∃ x, x < 6 ∧ x3 = ix x) ∧ (∃ a, a < 16 ∧ x4 = ix a) ∧ (∃ c, c < 16 ∧ x5 = ix c) ∧ tx = x3 ∧ ta = x4 ∧ tc = x5 ∧ r = if x4 = x5 then ix 1 else ix 2)) →
      wp_M_end x1 x2 x3 x4 x5 (zL (zA (zA (zA (zI z 0 (ix 0)) 4 (upd (z.2.1 4) b tx)) 5 (upd (z.2.1 5) b ta)) 6 (upd (z.2.1 6) b tc)) 10 (vp_updL (z.2.2 10) 0 r.toInt64)) (fun b z2 => wp_M_thrown z2 (fun t z3 => X (ix 0) b t z3)) := by
    intro b tx ta tc r hb1 hx hok hc
    subst hx
    have q8 : (zL (zA (zA (zA (zI z 0 (ix 0)) 4 (upd (z.2.1 4) b tx)) 5 (upd (z.2.1 5) b ta)) 6 (upd (z.2.1 6) b tc)) 10 (vp_updL (z.2.2 10) 0 r.toInt64)).1 8 = ix n := by
      try simp (disch := omega) only [forall_eq, l0, l1, l2, l3, l4, l5, l6, l15, l16, l24, l30, l99, l100, l200, l385, lm1, ix_ne, ne_ix, ix_nat, vp_ix, ix_inj, ix_le, ix_lt, ix_add, ix_mul, ix_sub, nar0', nar1', or00, or01, or10, or11, rI, rIA, rIL, rA, rAI, rAL, rL, rLI, rLA, ru, ruL, reduceIte, Nat.reduceEqDiff, true_or, or_true, true_and, and_true, false_or, or_false, not_true_eq_false, not_false_eq_true, false_implies, true_implies, implies_true, i10, i01]
      exact p8
    refine s_M_endF hn q8 (fun _ => ?_) (fun h => absurd hok h)
    have fin : ∀ (y : Sta) (v : Int32), v = r → y = zI (zA (zI (zL (zA (zA (zA (zI z 0 (ix 0)) 4 (upd (z.2.1 4) b tx)) 5 (upd (z.2.1 5) b ta)) 6 (upd (z.2.1 6) b tc)) 10 (vp_updL (z.2.2 10) 0 r.toInt64)) 7 (ix 0)) 17 (upd (upd (upd (upd (z.2.1 17) (4 * b) x2) (4 * b + 1) x3) (4 * b + 2) x4) (4 * b + 3) x5)) 10 (ix 0) → X (ix 0) v (ix 0) y := by
      intro y v hv hy
      subst hv
      have f : fr [0, 7, 10] [4, 5, 6, 17] [10] z y := by
        subst hy
        exact fr_I (fr_A (fr_I (fr_L (fr_A (fr_A (fr_A (fr_I (fr_refl z) (by decide) _) (by decide) _) (by decide) _) (by decide) _) (by decide) _) (by decide) _) (by decide) _) (by decide) _
      have a4 : y.2.1 4 = upd (z.2.1 4) b tx := by subst hy; rfl
      have a5 : y.2.1 5 = upd (z.2.1 5) b ta := by subst hy; rfl
      have a6 : y.2.1 6 = upd (z.2.1 6) b tc := by subst hy; rfl
      have a17 : y.2.1 17 = upd (upd (upd (upd (z.2.1 17) (4 * b) x2) (4 * b + 1) x3) (4 * b + 2) x4) (4 * b + 3) x5 := by subst hy; rfl
      have e0 : y.1 0 = ix 0 := by subst hy; rfl
      have e10 : y.1 10 = ix 0 := by subst hy; rfl
      have e7 : y.1 7 = ix 0 := by subst hy; rfl
      have eo : y.2.2 10 0 = v.toInt64 := by subst hy; rfl
      refine hX _ _ _ _ rfl (fun _ => eo) ⟨n, m, sz, ⟨hn, hm, (f.1 2 (by decide)).trans p2, (f.1 8 (by decide)).trans p8, (f.1 3 (by decide)).trans p3, (f.1 9 (by decide)).trans p9, ?_, fun c k hc1 hk => ?_, fun c hc1 => ?_, fun e he => ?_, ?_, ?_⟩, ⟨e0.trans e10.symm, Or.inl e0, ?_, ?_, fun h => absurd (e0.symm.trans h) i01⟩, Rn_fr hN f (by decide) (by decide)⟩
      · rw [f.2.1 0 (by decide), f.2.1 15 (by decide)]; exact psz
      · have := pst c k hc1 hk
        simp only [stm, f.2.1 1 (by decide : 1 ∉ _), f.2.1 2 (by decide : 2 ∉ _), f.2.1 3 (by decide : 3 ∉ _), f.2.1 16 (by decide : 16 ∉ _)]
        exact this
      · simp only [edn, a4, a5, a6, a17]
        by_cases e : c = b
        · subst e
          have n1 : ¬ 4 * c = 4 * c + 1 := by omega
          have n2 : ¬ 4 * c = 4 * c + 2 := by omega
          have n3 : ¬ 4 * c = 4 * c + 3 := by omega
          have n4 : ¬ 4 * c + 1 = 4 * c + 2 := by omega
          have n5 : ¬ 4 * c + 1 = 4 * c + 3 := by omega
          have n6 : ¬ 4 * c + 2 = 4 * c + 3 := by omega
          simp only [ru, if_neg n1, if_neg n2, if_neg n3, if_neg n4, if_neg n5, if_neg n6, reduceIte]
          rcases hc with ⟨h1, h2, h3, h4, h5⟩ | ⟨h1, h2, ⟨a, ha, h3⟩, h4, h5, h6⟩ | ⟨h1, ⟨x, hx, h2⟩, ⟨a, ha, h3⟩, ⟨d, hd, h4⟩, h5, h6, h7, h8⟩
          · exact Or.inl ⟨h1, h2, h3, h4⟩
          · exact Or.inr (Or.inl ⟨h1, h2, a, ha, h3, h4.trans h3, h5.trans h3⟩)
          · exact Or.inr (Or.inr ⟨h1, x, a, d, hx, ha, hd, h2, h3, h4, h5.trans h2, h6.trans h3, h7.trans h4⟩)
        · have := ped c hc1
          have n0 : ∀ i j, i < 4 → j < 4 → ¬ 4 * c + i = 4 * b + j := by omega
          have n00 : ∀ j, j < 4 → ¬ 4 * c = 4 * b + j := fun j hj => n0 0 j (by omega) hj
          have n01 : ∀ i, i < 4 → ¬ 4 * c + i = 4 * b := fun i hi => n0 i 0 hi (by omega)
          have n02 : ¬ 4 * c = 4 * b := by omega
          simp only [ru, if_neg e, if_neg n02, if_neg (n00 1 (by omega)), if_neg (n00 2 (by omega)), if_neg (n00 3 (by omega)), if_neg (n01 1 (by omega)), if_neg (n01 2 (by omega)), if_neg (n01 3 (by omega)), if_neg (n0 1 1 (by omega) (by omega)), if_neg (n0 1 2 (by omega) (by omega)), if_neg (n0 1 3 (by omega) (by omega)), if_neg (n0 2 1 (by omega) (by omega)), if_neg (n0 2 2 (by omega) (by omega)), if_neg (n0 2 3 (by omega) (by omega)), if_neg (n0 3 1 (by omega) (by omega)), if_neg (n0 3 2 (by omega) (by omega)), if_neg (n0 3 3 (by omega) (by omega))]
          exact this
      · have := pex e he
        simp only [exn, f.2.1 7 (by decide : 7 ∉ _), f.2.1 8 (by decide : 8 ∉ _), f.2.1 9 (by decide : 9 ∉ _), f.2.1 18 (by decide : 18 ∉ _), f.2.1 19 (by decide : 19 ∉ _), f.2.1 20 (by decide : 20 ∉ _)]
        exact this
      · rw [f.2.2 0 (by decide), f.2.1 7 (by decide), f.2.1 9 (by decide)]; exact pus
      · rw [f.2.1 7 (by decide), f.2.1 8 (by decide), f.2.1 9 (by decide)]; exact pun
      · rw [f.1 1 (by decide), f.1 11 (by decide)]; exact hF.2.2.1
      · intro k c e hk hc1 hc2
        rw [f.2.2 k (by rcases hk with q | q | q <;> subst q <;> decide)]; exact hF.2.2.2.1 k c e hk hc1 hc2
    try simp (disch := omega) only [pj_M_end_73, pj_M_end_151, pj_M_end_152, wp_M_thrown, zAA, forall_eq, l0, l1, l2, l3, l4, l5, l6, l15, l16, l24, l30, l99, l100, l200, l385, lm1, ix_ne, ne_ix, ix_nat, vp_ix, ix_inj, ix_le, ix_lt, ix_add, ix_mul, ix_sub, nar0', nar1', or00, or01, or10, or11, rI, rIA, rIL, rA, rAI, rAL, rL, rLI, rLA, ru, ruL, reduceIte, Nat.reduceEqDiff, true_or, or_true, true_and, and_true, false_or, or_false, not_true_eq_false, not_false_eq_true, false_implies, true_implies, implies_true, i10, i01]
    refine ⟨by omega, by omega, by omega, by omega, ?_⟩
    have i12 : ¬ ix 1 = ix 2 := by decide
    have i02 : ¬ ix 0 = ix 2 := by decide
    rcases hc with ⟨h1, h2, h3, h4, h5⟩ | ⟨h1, h2, ⟨a, ha, h3⟩, h4, h5, h6⟩ | ⟨h1, ⟨x, hx, h2⟩, ⟨a, ha, h3⟩, ⟨d, hd, h4⟩, h5, h6, h7, h8⟩
    · exact ⟨fun _ => fin _ _ (h1.trans h5.symm) rfl, fun h => absurd (h1.symm.trans h) i02⟩
    · exact ⟨fun _ => fin _ _ (h1.trans h6.symm) rfl, fun h => absurd (h1.symm.trans h) i12⟩
    · refine ⟨fun h => absurd h1 h, fun _ => ⟨fun h => fin _ _ ?_ rfl, fun h => fin _ _ ?_ rfl⟩⟩
      · rw [if_neg h] at h8; exact h1.trans h8.symm
      · rw [if_pos h] at h8; exact h8.symm
  try simp (disch := omega) only [wp_L_end, wp_C_end, pj_C_end_23, forall_eq, l0, l1, l2, l3, l4, l5, l6, l15, l16, l24, l30, l99, l100, l200, l385, lm1, ix_ne, ne_ix, ix_nat, vp_ix, ix_inj, ix_le, ix_lt, ix_add, ix_mul, ix_sub, nar0', nar1', or00, or01, or10, or11, rI, rIA, rIL, rA, rAI, rAL, rL, rLI, rLA, ru, ruL, reduceIte, Nat.reduceEqDiff, true_or, or_true, true_and, and_true, false_or, or_false, not_true_eq_false, not_false_eq_true, false_implies, true_implies, implies_true, i10, i01]
  refine s_P_hasBlock hn p2 (fun v hv => ⟨fun h0 => no (fun hh => (isb_z hv).1 h0 hh.1), fun h0 => s_C_isEnd (fun w hw => ⟨fun h1 => ?_, fun h1 => no (fun hh => (isb_z hw).1 h1 hh.2)⟩)⟩)
  obtain ⟨b, hb1, hx⟩ := isb_n hv h0
  have hok : EOK n x1 x2 x3 x4 x5 := ⟨⟨b, hb1, hx⟩, isb_n hw h1⟩
  have hlast := isb_n hw h1
  have hbx := hx
  subst hx
  refine ⟨fun h2 => ⟨fun h3 => s_P_changeEnd (by omega) ?_, fun h3 => s_P_changeEnd (by omega) ?_⟩, fun h2 => s_P_changeEnd (by omega) ?_⟩
  · rcases hlast with q | ⟨q, _⟩ | ⟨q, qx, ⟨a, ha, qa⟩, qc⟩
    · exact absurd q h2
    · exact absurd q h3
    · have ham : ¬ x4 = mi := by rw [qa]; exact ix_ne (by omega)
      rw [if_neg ham]
      try simp (disch := omega) only [forall_eq, l0, l1, l2, l3, l4, l5, l6, l15, l16, l24, l30, l99, l100, l200, l385, lm1, ix_ne, ne_ix, ix_nat, vp_ix, ix_inj, ix_le, ix_lt, ix_add, ix_mul, ix_sub, nar0', nar1', or00, or01, or10, or11, rI, rIA, rIL, rA, rAI, rAL, rL, rLI, rLA, ru, ruL, reduceIte, Nat.reduceEqDiff, true_or, or_true, true_and, and_true, false_or, or_false, not_true_eq_false, not_false_eq_true, false_implies, true_implies, implies_true, i10, i01]
      exact yes b x3 x4 x5 _ hb1 rfl hok (Or.inr (Or.inr ⟨q, qx, ⟨a, ha, qa⟩, qc, rfl, rfl, rfl, rfl⟩))
  · rcases hlast with q | ⟨q, ⟨a, ha, qa⟩⟩ | ⟨q, _⟩
    · exact absurd q h2
    · have ham : ¬ x4 = mi := by rw [qa]; exact ix_ne (by omega)
      rw [if_neg ham, if_pos rfl]
      try simp (disch := omega) only [forall_eq, l0, l1, l2, l3, l4, l5, l6, l15, l16, l24, l30, l99, l100, l200, l385, lm1, ix_ne, ne_ix, ix_nat, vp_ix, ix_inj, ix_le, ix_lt, ix_add, ix_mul, ix_sub, nar0', nar1', or00, or01, or10, or11, rI, rIA, rIL, rA, rAI, rAL, rL, rLI, rLA, ru, ruL, reduceIte, Nat.reduceEqDiff, true_or, or_true, true_and, and_true, false_or, or_false, not_true_eq_false, not_false_eq_true, false_implies, true_implies, implies_true, i10, i01]
      exact yes b (ix 0) x4 x4 (ix 1) hb1 rfl hok (Or.inr (Or.inl ⟨q, rfl, ⟨a, ha, qa⟩, rfl, rfl, rfl⟩))
    · rw [h3] at q; exact absurd q (by decide)
  · rw [if_pos rfl]
    try simp (disch := omega) only [forall_eq, l0, l1, l2, l3, l4, l5, l6, l15, l16, l24, l30, l99, l100, l200, l385, lm1, ix_ne, ne_ix, ix_nat, vp_ix, ix_inj, ix_le, ix_lt, ix_add, ix_mul, ix_sub, nar0', nar1', or00, or01, or10, or11, rI, rIA, rIL, rA, rAI, rAL, rL, rLI, rLA, ru, ruL, reduceIte, Nat.reduceEqDiff, true_or, or_true, true_and, and_true, false_or, or_false, not_true_eq_false, not_false_eq_true, false_implies, true_implies, implies_true, i10, i01]
    exact yes b (ix 0) mi mi (ix 0) hb1 rfl hok (Or.inl ⟨h2, rfl, rfl, rfl, rfl⟩)
theorem s_P_addStatement {z : Sta} {K : Int32 → Sta → Prop} {n S : Nat} {kd x op : Int32} (hn0 : 0 < n) (hn : n ≤ 16) (hN : z.1 2 = ix n) (hS : z.2.1 0 (n - 1) = ix S) (h5 : S < 5) (h : K (ix (S + 1)) (zA (zA (zA (zA z 1 (upd (z.2.1 1) ((n - 1) * 5 + S) kd)) 2 (upd (z.2.1 2) ((n - 1) * 5 + S) x)) 3 (upd (z.2.1 3) ((n - 1) * 5 + S) op)) 0 (upd (z.2.1 0) (n - 1) (ix (S + 1))))) : wp_P_addStatement kd x op z K := by
  try simp (disch := omega) only [wp_P_addStatement, hN, hS, forall_eq, l0, l1, l2, l3, l4, l5, l6, l15, l16, l24, l30, l99, l100, l200, l385, lm1, ix_ne, ne_ix, ix_nat, vp_ix, ix_inj, ix_le, ix_lt, ix_add, ix_mul, ix_sub, nar0', nar1', or00, or01, or10, or11, rI, rIA, rIL, rA, rAI, rAL, rL, rLI, rLA, ru, ruL, reduceIte, Nat.reduceEqDiff, true_or, or_true, true_and, and_true, false_or, or_false, not_true_eq_false, not_false_eq_true, false_implies, true_implies, implies_true, i10, i01]
  exact ⟨by omega, by omega, by omega, by omega, by omega, by omega, by omega, h⟩
theorem s_P_takes {z : Sta} {K : Int32 → Sta → Prop} {n : Nat} {sz : Nat → Nat} (hn : n ≤ 16) (hN : z.1 2 = ix n) (hS : ∀ b, b < 16 → z.2.1 0 b = ix (sz b) ∧ sz b ≤ 5) (h : ∀ v, isb v (0 < n ∧ sz (n - 1) < 5) → K v z) : wp_P_takesStatement z K := by
  rcases Nat.eq_zero_or_pos n with e | e
  · subst e
    try simp (disch := omega) only [wp_P_takesStatement, pj_P_takesStatement_26, pj_P_takesStatement_27, hN, forall_eq, l0, l1, l2, l3, l4, l5, l6, l15, l16, l24, l30, l99, l100, l200, l385, lm1, ix_ne, ne_ix, ix_nat, vp_ix, ix_inj, ix_le, ix_lt, ix_add, ix_mul, ix_sub, nar0', nar1', or00, or01, or10, or11, rI, rIA, rIL, rA, rAI, rAL, rL, rLI, rLA, ru, ruL, reduceIte, Nat.reduceEqDiff, true_or, or_true, true_and, and_true, false_or, or_false, not_true_eq_false, not_false_eq_true, false_implies, true_implies, implies_true, i10, i01]
    exact ⟨fun _ => h _ (Or.inr ⟨rfl, fun hh => absurd hh.1 (by omega)⟩), fun h => absurd (by omega) h⟩
  · have hs := hS (n - 1) (by omega)
    try simp (disch := omega) only [wp_P_takesStatement, pj_P_takesStatement_26, pj_P_takesStatement_27, hN, hs.1, forall_eq, l0, l1, l2, l3, l4, l5, l6, l15, l16, l24, l30, l99, l100, l200, l385, lm1, ix_ne, ne_ix, ix_nat, vp_ix, ix_inj, ix_le, ix_lt, ix_add, ix_mul, ix_sub, nar0', nar1', or00, or01, or10, or11, rI, rIA, rIL, rA, rAI, rAL, rL, rLI, rLA, ru, ruL, reduceIte, Nat.reduceEqDiff, true_or, or_true, true_and, and_true, false_or, or_false, not_true_eq_false, not_false_eq_true, false_implies, true_implies, implies_true, i10, i01]
    exact ⟨fun h => absurd h (by omega), fun _ => ⟨by omega, fun h1 => h _ (Or.inr ⟨rfl, fun hh => by omega⟩), fun h1 => h _ (Or.inl ⟨rfl, by omega, by omega⟩)⟩⟩
theorem s_P_findOrAdd {z : Sta} {K : Int32 → Sta → Prop} {m a c : Nat} {x1 x2 x3 : Int32} (hm : m ≤ 24) (hM : z.1 3 = ix m) (ha : a < 6) (hc : c < 6) (e1 : x1 = ix a) (e3 : x3 = ix c) (h1 : ∀ e, e < m → mt z 7 8 9 x1 x2 x3 e → K (ix e) z) (h2 : m = 24 → (∀ e, e < m → ¬ mt z 7 8 9 x1 x2 x3 e) → K mi z)
    (h3 : ∀ y, m < 24 → (∀ e, e < m → ¬ mt z 7 8 9 x1 x2 x3 e) → fr [3] [7, 8, 9] [0] z y → y.1 3 = ix (m + 1) → y.2.1 7 = upd (z.2.1 7) m x1 → y.2.1 8 = upd (z.2.1 8) m x2 → y.2.1 9 = upd (z.2.1 9) m x3 → (∀ v e, hb (y.2.2 0 v) e = true ↔ hb (z.2.2 0 v) e = true ∨ (e = m ∧ (v = a ∨ v = c))) → K (ix m) y) : wp_P_findOrAddExpression x1 x2 x3 z K := by
  simp only [wp_P_findOrAddExpression, pj_P_findOrAddExpression_24]
  refine s_P_findExpression hm hM (fun e he hmt => ?_) (fun hno => ?_)
  · try simp (disch := omega) only [forall_eq, l0, l1, l2, l3, l4, l5, l6, l15, l16, l24, l30, l99, l100, l200, l385, lm1, ix_ne, ne_ix, ix_nat, vp_ix, ix_inj, ix_le, ix_lt, ix_add, ix_mul, ix_sub, nar0', nar1', or00, or01, or10, or11, rI, rIA, rIL, rA, rAI, rAL, rL, rLI, rLA, ru, ruL, reduceIte, Nat.reduceEqDiff, true_or, or_true, true_and, and_true, false_or, or_false, not_true_eq_false, not_false_eq_true, false_implies, true_implies, implies_true, i10, i01]
    exact h1 e he hmt
  · subst e1; subst e3
    try simp (disch := omega) only [hM, forall_eq, l0, l1, l2, l3, l4, l5, l6, l15, l16, l24, l30, l99, l100, l200, l385, lm1, ix_ne, ne_ix, ix_nat, vp_ix, ix_inj, ix_le, ix_lt, ix_add, ix_mul, ix_sub, nar0', nar1', or00, or01, or10, or11, rI, rIA, rIL, rA, rAI, rAL, rL, rLI, rLA, ru, ruL, reduceIte, Nat.reduceEqDiff, true_or, or_true, true_and, and_true, false_or, or_false, not_true_eq_false, not_false_eq_true, false_implies, true_implies, implies_true, i10, i01]
    refine ⟨fun hlt => ⟨by omega, by omega, by omega, by omega, by omega, by omega, by omega, h3 _ hlt hno (fr_L (fr_L (fr_A (fr_A (fr_A (fr_I (fr_refl z) (by decide) _) (by decide) _) (by decide) _) (by decide) _) (by decide) _) (by decide) _) (by try simp (disch := omega) only [forall_eq, l0, l1, l2, l3, l4, l5, l6, l15, l16, l24, l30, l99, l100, l200, l385, lm1, ix_ne, ne_ix, ix_nat, vp_ix, ix_inj, ix_le, ix_lt, ix_add, ix_mul, ix_sub, nar0', nar1', or00, or01, or10, or11, rI, rIA, rIL, rA, rAI, rAL, rL, rLI, rLA, ru, ruL, reduceIte, Nat.reduceEqDiff, true_or, or_true, true_and, and_true, false_or, or_false, not_true_eq_false, not_false_eq_true, false_implies, true_implies, implies_true, i10, i01]) (by try simp (disch := omega) only [forall_eq, l0, l1, l2, l3, l4, l5, l6, l15, l16, l24, l30, l99, l100, l200, l385, lm1, ix_ne, ne_ix, ix_nat, vp_ix, ix_inj, ix_le, ix_lt, ix_add, ix_mul, ix_sub, nar0', nar1', or00, or01, or10, or11, rI, rIA, rIL, rA, rAI, rAL, rL, rLI, rLA, ru, ruL, reduceIte, Nat.reduceEqDiff, true_or, or_true, true_and, and_true, false_or, or_false, not_true_eq_false, not_false_eq_true, false_implies, true_implies, implies_true, i10, i01]) (by try simp (disch := omega) only [forall_eq, l0, l1, l2, l3, l4, l5, l6, l15, l16, l24, l30, l99, l100, l200, l385, lm1, ix_ne, ne_ix, ix_nat, vp_ix, ix_inj, ix_le, ix_lt, ix_add, ix_mul, ix_sub, nar0', nar1', or00, or01, or10, or11, rI, rIA, rIL, rA, rAI, rAL, rL, rLI, rLA, ru, ruL, reduceIte, Nat.reduceEqDiff, true_or, or_true, true_and, and_true, false_or, or_false, not_true_eq_false, not_false_eq_true, false_implies, true_implies, implies_true, i10, i01]) (by try simp (disch := omega) only [forall_eq, l0, l1, l2, l3, l4, l5, l6, l15, l16, l24, l30, l99, l100, l200, l385, lm1, ix_ne, ne_ix, ix_nat, vp_ix, ix_inj, ix_le, ix_lt, ix_add, ix_mul, ix_sub, nar0', nar1', or00, or01, or10, or11, rI, rIA, rIL, rA, rAI, rAL, rL, rLI, rLA, ru, ruL, reduceIte, Nat.reduceEqDiff, true_or, or_true, true_and, and_true, false_or, or_false, not_true_eq_false, not_false_eq_true, false_implies, true_implies, implies_true, i10, i01]) (fun v e => ?_)⟩, fun hge => h2 (by omega) hno⟩
    try simp (disch := omega) only [forall_eq, l0, l1, l2, l3, l4, l5, l6, l15, l16, l24, l30, l99, l100, l200, l385, lm1, ix_ne, ne_ix, ix_nat, vp_ix, ix_inj, ix_le, ix_lt, ix_add, ix_mul, ix_sub, nar0', nar1', or00, or01, or10, or11, rI, rIA, rIL, rA, rAI, rAL, rL, rLI, rLA, ru, ruL, reduceIte, Nat.reduceEqDiff, true_or, or_true, true_and, and_true, false_or, or_false, not_true_eq_false, not_false_eq_true, false_implies, true_implies, implies_true, i10, i01]
    have hon := hb_one (i := m) hlt
    by_cases q : v = c
    · rw [if_pos q, hb_or, hon, Bool.or_eq_true, decide_eq_true_eq]
      by_cases q2 : c = a
      · rw [if_pos q2, hb_or, hon, Bool.or_eq_true, decide_eq_true_eq, q, ← q2]
        constructor
        · rintro ((h | h) | h)
          · exact Or.inl h
          · exact Or.inr ⟨h, Or.inl rfl⟩
          · exact Or.inr ⟨h, Or.inl rfl⟩
        · rintro (h | h)
          · exact Or.inl (Or.inl h)
          · exact Or.inr h.1
      · rw [if_neg q2, q]
        constructor
        · rintro (h | h)
          · exact Or.inl h
          · exact Or.inr ⟨h, Or.inr rfl⟩
        · rintro (h | h)
          · exact Or.inl h
          · exact Or.inr h.1
    · rw [if_neg q]
      by_cases q2 : v = a
      · rw [if_pos q2, hb_or, hon, Bool.or_eq_true, decide_eq_true_eq, q2]
        constructor
        · rintro (h | h)
          · exact Or.inl h
          · exact Or.inr ⟨h, Or.inl rfl⟩
        · rintro (h | h)
          · exact Or.inl h
          · exact Or.inr h.1
      · rw [if_neg q2]
        exact ⟨Or.inl, fun h => h.elim id (fun h => absurd h.2 (fun hh => hh.elim q2 q))⟩
