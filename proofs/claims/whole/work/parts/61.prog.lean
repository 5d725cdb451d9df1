def stm (z : Sta) (m b k : Nat) : Prop := (∃ t, t < 6 ∧ z.2.1 2 (5 * b + k) = ix t ∧ z.2.1 16 (30 * b + 6 * k + 1) = ix t) ∧ z.2.1 1 (5 * b + k) = z.2.1 16 (30 * b + 6 * k) ∧
  ((z.2.1 16 (30 * b + 6 * k) = ix 0 ∧ ∃ a, a < 6 ∧ z.2.1 3 (5 * b + k) = ix a ∧ z.2.1 16 (30 * b + 6 * k + 2) = ix a) ∨ (z.2.1 16 (30 * b + 6 * k) = ix 1 ∧ z.2.1 3 (5 * b + k) = z.2.1 16 (30 * b + 6 * k + 2)) ∨
   (z.2.1 16 (30 * b + 6 * k) = ix 2 ∧ ∃ e, e < m ∧ z.2.1 3 (5 * b + k) = ix e ∧ z.2.1 16 (30 * b + 6 * k + 5) = ix e) ∨ z.2.1 16 (30 * b + 6 * k) = ix 3)
def edn (z : Sta) (b : Nat) : Prop := (z.2.1 17 (4 * b) = ix 0 ∧ z.2.1 4 b = ix 0 ∧ z.2.1 5 b = mi ∧ z.2.1 6 b = mi) ∨
  (z.2.1 17 (4 * b) = ix 1 ∧ z.2.1 4 b = ix 0 ∧ ∃ a, a < 16 ∧ z.2.1 17 (4 * b + 2) = ix a ∧ z.2.1 5 b = ix a ∧ z.2.1 6 b = ix a) ∨
  (z.2.1 17 (4 * b) = ix 2 ∧ ∃ x a c, x < 6 ∧ a < 16 ∧ c < 16 ∧ z.2.1 17 (4 * b + 1) = ix x ∧ z.2.1 17 (4 * b + 2) = ix a ∧ z.2.1 17 (4 * b + 3) = ix c ∧ z.2.1 4 b = ix x ∧ z.2.1 5 b = ix a ∧ z.2.1 6 b = ix c)
def exn (z : Sta) (e : Nat) : Prop := (∃ y, y < 6 ∧ z.2.1 7 e = ix y ∧ z.2.1 18 e = ix y) ∧ z.2.1 8 e = z.2.1 19 e ∧ ∃ w, w < 6 ∧ z.2.1 9 e = ix w ∧ z.2.1 20 e = ix w
def Prg (n m : Nat) (sz : Nat → Nat) (z : Sta) : Prop := n ≤ 16 ∧ m ≤ 24 ∧ z.1 2 = ix n ∧ z.1 8 = ix n ∧ z.1 3 = ix m ∧ z.1 9 = ix m ∧ (∀ b, b < 16 → z.2.1 0 b = ix (sz b) ∧ z.2.1 15 b = ix (sz b) ∧ sz b ≤ 5 ∧ (n ≤ b → sz b = 0)) ∧ (∀ b k, b < n → k < sz b → stm z m b k) ∧ (∀ b, b < n → edn z b) ∧ (∀ e, e < m → exn z e) ∧
  (∀ v e, v < 6 → e < 64 → (hb (z.2.2 0 v) e = true ↔ e < m ∧ (z.2.1 7 e = ix v ∨ z.2.1 9 e = ix v))) ∧ (∀ e d, e < m → d < m → z.2.1 7 e = z.2.1 7 d → z.2.1 8 e = z.2.1 8 d → z.2.1 9 e = z.2.1 9 d → e = d)
def Pln (n : Nat) (z : Sta) : Prop := 0 < n ∧ (∀ a, a < n → (z.2.1 10 a = ix 0 ∨ z.2.1 10 a = ix 1) ∧ z.2.1 21 a = z.2.1 10 a) ∧ (∀ a, a < n → okS n (z.2.1 5 a) ∧ okS n (z.2.1 6 a)) ∧ z.2.1 10 0 = ix 1 ∧ (∀ a c, a < n → c < n → z.2.1 10 a = ix 1 → (z.2.1 5 a = ix c ∨ z.2.1 6 a = ix c) → z.2.1 10 c = ix 1) ∧
  (∀ b, b < n → z.2.2 4 b = (z.2.1 22 (6 * b + 0)).toInt64 ∧ z.2.2 5 b = (z.2.1 22 (6 * b + 1)).toInt64 ∧ z.2.2 6 b = (z.2.1 22 (6 * b + 2)).toInt64 ∧ z.2.2 7 b = (z.2.1 22 (6 * b + 3)).toInt64 ∧ z.2.2 8 b = (z.2.1 22 (6 * b + 4)).toInt64 ∧ z.2.2 9 b = (z.2.1 22 (6 * b + 5)).toInt64) ∧
  (∀ a b, a < n → b < n → z.2.1 10 a = ix 1 → (z.2.1 5 a = ix b ∨ z.2.1 6 a = ix b) → LOv z a b &&& (z.2.2 8 b ^^^ (-1)) = (z.2.1 23 (16 * a + b)).toInt64) ∧ z.2.2 6 0 &&& (z.2.2 8 0 ^^^ (-1)) = (z.2.1 23 256).toInt64 ∧ (∀ b e, b < n → e < 24 → hb (z.2.2 9 b) e = true → hw (z.1 12) e = true)
def Flg (n : Nat) (z : Sta) : Prop := z.1 0 = z.1 10 ∧ (z.1 0 = ix 0 ∨ z.1 0 = ix 1) ∧ z.1 1 = z.1 11 ∧ (∀ k b e, (k = 4 ∨ k = 6 ∨ k = 8) → n ≤ b → b < 16 → hb (z.2.2 k b) e = false) ∧ (z.1 0 = ix 1 → Pln n z)
def Rn (m : Nat) (z : Sta) : Prop := (∃ gv, gv ≤ 1000 ∧ z.1 5 = ix gv ∧ z.1 13 = ix gv ∧ ∀ i, i < 100 → i < gv → z.2.1 13 i = z.2.1 35 i) ∧ z.1 6 = z.1 14 ∧ (∀ i, i < 6 → z.2.1 11 i = z.2.1 32 i) ∧ (∀ e, e < 24 → z.2.1 12 e = z.2.1 34 e) ∧ (∀ e, m ≤ e → e < 24 → z.2.1 12 e = ix 0)
def Rel (z : Sta) : Prop := ∃ n m sz, Prg n m sz z ∧ Flg n z ∧ Rn m z
theorem Prg_fr {n m : Nat} {sz : Nat → Nat} {z y : Sta} {I A L : List Nat} (h : Prg n m sz z) (f : fr I A L z y) (hI : ∀ k ∈ [2, 3, 8, 9], k ∉ I) (hA : ∀ k ∈ [0, 1, 2, 3, 4, 5, 6, 7, 8, 9, 15, 16, 17, 18, 19, 20], k ∉ A) (hL : 0 ∉ L) : Prg n m sz y := by
  simp only [Prg, stm, edn, exn, f.1 2 (hI 2 (by decide)), f.1 3 (hI 3 (by decide)), f.1 8 (hI 8 (by decide)), f.1 9 (hI 9 (by decide)), f.2.1 0 (hA 0 (by decide)), f.2.1 1 (hA 1 (by decide)), f.2.1 2 (hA 2 (by decide)), f.2.1 3 (hA 3 (by decide)), f.2.1 4 (hA 4 (by decide)), f.2.1 5 (hA 5 (by decide)), f.2.1 6 (hA 6 (by decide)), f.2.1 7 (hA 7 (by decide)), f.2.1 8 (hA 8 (by decide)), f.2.1 9 (hA 9 (by decide)), f.2.1 15 (hA 15 (by decide)), f.2.1 16 (hA 16 (by decide)), f.2.1 17 (hA 17 (by decide)), f.2.1 18 (hA 18 (by decide)), f.2.1 19 (hA 19 (by decide)), f.2.1 20 (hA 20 (by decide)), f.2.2 0 hL]
  exact h
theorem Pln_fr {n : Nat} {z y : Sta} {I A L : List Nat} (h : Pln n z) (f : fr I A L z y) (hI : 12 ∉ I) (hA : ∀ k ∈ [5, 6, 10, 21, 22, 23], k ∉ A) (hL : ∀ k ∈ [1, 2, 4, 5, 6, 7, 8, 9], k ∉ L) : Pln n y := by
  simp only [Pln, LOv, f.1 12 hI, f.2.1 5 (hA 5 (by decide)), f.2.1 6 (hA 6 (by decide)), f.2.1 10 (hA 10 (by decide)), f.2.1 21 (hA 21 (by decide)), f.2.1 22 (hA 22 (by decide)), f.2.1 23 (hA 23 (by decide)), f.2.2 1 (hL 1 (by decide)), f.2.2 2 (hL 2 (by decide)), f.2.2 4 (hL 4 (by decide)), f.2.2 5 (hL 5 (by decide)), f.2.2 6 (hL 6 (by decide)), f.2.2 7 (hL 7 (by decide)), f.2.2 8 (hL 8 (by decide)), f.2.2 9 (hL 9 (by decide))]
  exact h
theorem Rn_fr {m : Nat} {z y : Sta} {I A L : List Nat} (h : Rn m z) (f : fr I A L z y) (hI : ∀ k ∈ [5, 6, 13, 14], k ∉ I) (hA : ∀ k ∈ [11, 12, 13, 32, 34, 35], k ∉ A) : Rn m y := by
  simp only [Rn, f.1 5 (hI 5 (by decide)), f.1 6 (hI 6 (by decide)), f.1 13 (hI 13 (by decide)), f.1 14 (hI 14 (by decide)), f.2.1 11 (hA 11 (by decide)), f.2.1 12 (hA 12 (by decide)), f.2.1 13 (hA 13 (by decide)), f.2.1 32 (hA 32 (by decide)), f.2.1 34 (hA 34 (by decide)), f.2.1 35 (hA 35 (by decide))]
  exact h
theorem Flg_fr {n : Nat} {z y : Sta} {I A L : List Nat} (h : Flg n z) (f : fr I A L z y) (hI : ∀ k ∈ [0, 1, 10, 11, 12], k ∉ I) (hA : ∀ k ∈ [5, 6, 10, 21, 22, 23], k ∉ A) (hL : ∀ k ∈ [1, 2, 4, 5, 6, 7, 8, 9], k ∉ L) : Flg n y := by
  obtain ⟨h1, h2, h3, h4, h5⟩ := h
  refine ⟨?_, ?_, ?_, ?_, ?_⟩
  · rw [f.1 0 (hI 0 (by decide)), f.1 10 (hI 10 (by decide))]; exact h1
  · rw [f.1 0 (hI 0 (by decide))]; exact h2
  · rw [f.1 1 (hI 1 (by decide)), f.1 11 (hI 11 (by decide))]; exact h3
  · intro k b e hk hb1 hb2
    rw [f.2.2 k (hL k (by rcases hk with e | e | e <;> subst e <;> decide))]; exact h4 k b e hk hb1 hb2
  · rw [f.1 0 (hI 0 (by decide))]
    exact fun h => Pln_fr (h5 h) f (hI 12 (by decide)) hA hL
theorem Rel_fr {z y : Sta} (h : Rel z) (f : fr [7] [] [10] z y) : Rel y := by
  obtain ⟨n, m, sz, h1, h2, h3⟩ := h
  exact ⟨n, m, sz, Prg_fr h1 f (by decide) (by decide) (by decide), Flg_fr h2 f (by decide) (by decide) (by decide), Rn_fr h3 f (by decide) (by decide)⟩
theorem s_P_changeEnd {z : Sta} {K : Int32 → Sta → Prop} {b : Nat} {x a c : Int32} (hb1 : b < 16) (h : K (if a = mi then ix 0 else if a = c then ix 1 else ix 2) (zA (zA (zA z 4 (upd (z.2.1 4) b x)) 5 (upd (z.2.1 5) b a)) 6 (upd (z.2.1 6) b c))) : wp_P_changeEnd (ix b) x a c z K := by
  try simp (disch := omega) only [wp_P_changeEnd, pj_P_changeEnd_40, forall_eq, l0, l1, l2, l3, l4, l5, l6, l15, l16, l24, l30, l99, l100, l200, l385, lm1, ix_ne, ne_ix, ix_nat, vp_ix, ix_inj, ix_le, ix_lt, ix_add, ix_mul, ix_sub, nar0', nar1', or00, or01, or10, or11, rI, rIA, rIL, rA, rAI, rAL, rL, rLI, rLA, ru, ruL, reduceIte, Nat.reduceEqDiff, true_or, or_true, true_and, and_true, false_or, or_false, not_true_eq_false, not_false_eq_true, false_implies, true_implies, implies_true, i10, i01]
  refine ⟨by omega, by omega, by omega, fun h0 => ⟨fun h1 => ?_, fun h1 => ?_⟩, fun h0 => ?_⟩
  · rw [if_neg h0, if_neg h1] at h; exact h
  · rw [if_neg h0, if_pos h1] at h; exact h
  · rw [if_pos h0] at h; exact h
theorem d_block {z : Sta} {X : Int32 → Int32 → Int32 → Sta → Prop} (hR : Rel z) (hX : ∀ k b t y, t = k → (k = ix 0 → y.2.2 10 0 = b.toInt64) → Rel y → X k b t y) : wp_L_block z (fun k z1 => wp_M_block z1 (fun b z2 => wp_M_thrown z2 (fun t z3 => X k b t z3))) := by
  obtain ⟨n, m, sz, hP, hF, hN⟩ := hR
  obtain ⟨hn, hm, p2, p8, p3, p9, psz, pst, ped, pex, pus, pun⟩ := hP
  rcases Nat.lt_or_ge n 16 with h16 | h16
  · have hne : n ≠ 16 := by omega
    try simp (disch := omega) only [wp_L_block, wp_C_block, wp_P_addBlock, p2, forall_eq, l0, l1, l2, l3, l4, l5, l6, l15, l16, l24, l30, l99, l100, l200, l385, lm1, ix_ne, ne_ix, ix_nat, vp_ix, ix_inj, ix_le, ix_lt, ix_add, ix_mul, ix_sub, nar0', nar1', or00, or01, or10, or11, rI, rIA, rIL, rA, rAI, rAL, rL, rLI, rLA, ru, ruL, reduceIte, Nat.reduceEqDiff, true_or, or_true, true_and, and_true, false_or, or_false, not_true_eq_false, not_false_eq_true, false_implies, true_implies, implies_true, i10, i01]
    refine ⟨fun _ => s_P_changeEnd (by omega) ?_, fun h => absurd h16 h⟩
    try simp (disch := omega) only [wp_M_block, wp_M_thrown, p8, hne, forall_eq, l0, l1, l2, l3, l4, l5, l6, l15, l16, l24, l30, l99, l100, l200, l385, lm1, ix_ne, ne_ix, ix_nat, vp_ix, ix_inj, ix_le, ix_lt, ix_add, ix_mul, ix_sub, nar0', nar1', or00, or01, or10, or11, rI, rIA, rIL, rA, rAI, rAL, rL, rLI, rLA, ru, ruL, reduceIte, Nat.reduceEqDiff, true_or, or_true, true_and, and_true, false_or, or_false, not_true_eq_false, not_false_eq_true, false_implies, true_implies, implies_true, i10, i01]
    refine ⟨by omega, by omega, hX _ _ _ _ rfl (fun _ => ?_) ⟨n + 1, m, sz, ⟨by omega, hm, ?_, ?_, ?_, ?_, fun b hb1 => ?_, fun b k hb1 hk => ?_, fun b hb1 => ?_, fun e he => ?_, fun v e hv he => ?_, ?_⟩, ⟨?_, ?_, ?_, fun k b e hk hb1 hb2 => ?_, fun h => ?_⟩, ?_⟩⟩
    · try simp (disch := omega) only [Nat.add_sub_cancel, forall_eq, l0, l1, l2, l3, l4, l5, l6, l15, l16, l24, l30, l99, l100, l200, l385, lm1, ix_ne, ne_ix, ix_nat, vp_ix, ix_inj, ix_le, ix_lt, ix_add, ix_mul, ix_sub, nar0', nar1', or00, or01, or10, or11, rI, rIA, rIL, rA, rAI, rAL, rL, rLI, rLA, ru, ruL, reduceIte, Nat.reduceEqDiff, true_or, or_true, true_and, and_true, false_or, or_false, not_true_eq_false, not_false_eq_true, false_implies, true_implies, implies_true, i10, i01]
    · try simp (disch := omega) only [forall_eq, l0, l1, l2, l3, l4, l5, l6, l15, l16, l24, l30, l99, l100, l200, l385, lm1, ix_ne, ne_ix, ix_nat, vp_ix, ix_inj, ix_le, ix_lt, ix_add, ix_mul, ix_sub, nar0', nar1', or00, or01, or10, or11, rI, rIA, rIL, rA, rAI, rAL, rL, rLI, rLA, ru, ruL, reduceIte, Nat.reduceEqDiff, true_or, or_true, true_and, and_true, false_or, or_false, not_true_eq_false, not_false_eq_true, false_implies, true_implies, implies_true, i10, i01]
    · try simp (disch := omega) only [forall_eq, l0, l1, l2, l3, l4, l5, l6, l15, l16, l24, l30, l99, l100, l200, l385, lm1, ix_ne, ne_ix, ix_nat, vp_ix, ix_inj, ix_le, ix_lt, ix_add, ix_mul, ix_sub, nar0', nar1', or00, or01, or10, or11, rI, rIA, rIL, rA, rAI, rAL, rL, rLI, rLA, ru, ruL, reduceIte, Nat.reduceEqDiff, true_or, or_true, true_and, and_true, false_or, or_false, not_true_eq_false, not_false_eq_true, false_implies, true_implies, implies_true, i10, i01]
    · try simp (disch := omega) only [forall_eq, l0, l1, l2, l3, l4, l5, l6, l15, l16, l24, l30, l99, l100, l200, l385, lm1, ix_ne, ne_ix, ix_nat, vp_ix, ix_inj, ix_le, ix_lt, ix_add, ix_mul, ix_sub, nar0', nar1', or00, or01, or10, or11, rI, rIA, rIL, rA, rAI, rAL, rL, rLI, rLA, ru, ruL, reduceIte, Nat.reduceEqDiff, true_or, or_true, true_and, and_true, false_or, or_false, not_true_eq_false, not_false_eq_true, false_implies, true_implies, implies_true, i10, i01]
      exact p3
    · try simp (disch := omega) only [forall_eq, l0, l1, l2, l3, l4, l5, l6, l15, l16, l24, l30, l99, l100, l200, l385, lm1, ix_ne, ne_ix, ix_nat, vp_ix, ix_inj, ix_le, ix_lt, ix_add, ix_mul, ix_sub, nar0', nar1', or00, or01, or10, or11, rI, rIA, rIL, rA, rAI, rAL, rL, rLI, rLA, ru, ruL, reduceIte, Nat.reduceEqDiff, true_or, or_true, true_and, and_true, false_or, or_false, not_true_eq_false, not_false_eq_true, false_implies, true_implies, implies_true, i10, i01]
      exact p9
    · obtain ⟨q1, q2, q3, q4⟩ := psz b hb1
      try simp (disch := omega) only [q1, q2, forall_eq, l0, l1, l2, l3, l4, l5, l6, l15, l16, l24, l30, l99, l100, l200, l385, lm1, ix_ne, ne_ix, ix_nat, vp_ix, ix_inj, ix_le, ix_lt, ix_add, ix_mul, ix_sub, nar0', nar1', or00, or01, or10, or11, rI, rIA, rIL, rA, rAI, rAL, rL, rLI, rLA, ru, ruL, reduceIte, Nat.reduceEqDiff, true_or, or_true, true_and, and_true, false_or, or_false, not_true_eq_false, not_false_eq_true, false_implies, true_implies, implies_true, i10, i01]
      refine ⟨?_, q3, fun h => q4 (by omega)⟩
      split
      · next e => rw [e, (psz n h16).2.2.2 (by omega)]
      · rfl
    · have hbn : b ≠ n := by
        intro e
        rw [e, (psz n h16).2.2.2 (by omega)] at hk; omega
      have := pst b k (by omega) hk
      simp only [stm] at this ⊢
      try simp (disch := omega) only [forall_eq, l0, l1, l2, l3, l4, l5, l6, l15, l16, l24, l30, l99, l100, l200, l385, lm1, ix_ne, ne_ix, ix_nat, vp_ix, ix_inj, ix_le, ix_lt, ix_add, ix_mul, ix_sub, nar0', nar1', or00, or01, or10, or11, rI, rIA, rIL, rA, rAI, rAL, rL, rLI, rLA, ru, ruL, reduceIte, Nat.reduceEqDiff, true_or, or_true, true_and, and_true, false_or, or_false, not_true_eq_false, not_false_eq_true, false_implies, true_implies, implies_true, i10, i01]
      exact this
    · by_cases e : b = n
      · subst e
        refine Or.inl ?_
        try simp (disch := omega) only [lm1', forall_eq, l0, l1, l2, l3, l4, l5, l6, l15, l16, l24, l30, l99, l100, l200, l385, lm1, ix_ne, ne_ix, ix_nat, vp_ix, ix_inj, ix_le, ix_lt, ix_add, ix_mul, ix_sub, nar0', nar1', or00, or01, or10, or11, rI, rIA, rIL, rA, rAI, rAL, rL, rLI, rLA, ru, ruL, reduceIte, Nat.reduceEqDiff, true_or, or_true, true_and, and_true, false_or, or_false, not_true_eq_false, not_false_eq_true, false_implies, true_implies, implies_true, i10, i01]
      · have := ped b (by omega)
        simp only [edn] at this ⊢
        have e1 : ¬ 4 * b = 4 * n := by omega
        have e2 : ¬ 4 * b + 1 = 4 * n := by omega
        have e3 : ¬ 4 * b + 2 = 4 * n := by omega
        have e4 : ¬ 4 * b + 3 = 4 * n := by omega
        try simp (disch := omega) only [if_neg e, if_neg e1, if_neg e2, if_neg e3, if_neg e4, forall_eq, l0, l1, l2, l3, l4, l5, l6, l15, l16, l24, l30, l99, l100, l200, l385, lm1, ix_ne, ne_ix, ix_nat, vp_ix, ix_inj, ix_le, ix_lt, ix_add, ix_mul, ix_sub, nar0', nar1', or00, or01, or10, or11, rI, rIA, rIL, rA, rAI, rAL, rL, rLI, rLA, ru, ruL, reduceIte, Nat.reduceEqDiff, true_or, or_true, true_and, and_true, false_or, or_false, not_true_eq_false, not_false_eq_true, false_implies, true_implies, implies_true, i10, i01]
        exact this
    · have := pex e he
      simp only [exn] at this ⊢
      try simp (disch := omega) only [forall_eq, l0, l1, l2, l3, l4, l5, l6, l15, l16, l24, l30, l99, l100, l200, l385, lm1, ix_ne, ne_ix, ix_nat, vp_ix, ix_inj, ix_le, ix_lt, ix_add, ix_mul, ix_sub, nar0', nar1', or00, or01, or10, or11, rI, rIA, rIL, rA, rAI, rAL, rL, rLI, rLA, ru, ruL, reduceIte, Nat.reduceEqDiff, true_or, or_true, true_and, and_true, false_or, or_false, not_true_eq_false, not_false_eq_true, false_implies, true_implies, implies_true, i10, i01]
      exact this
    · try simp (disch := omega) only [forall_eq, l0, l1, l2, l3, l4, l5, l6, l15, l16, l24, l30, l99, l100, l200, l385, lm1, ix_ne, ne_ix, ix_nat, vp_ix, ix_inj, ix_le, ix_lt, ix_add, ix_mul, ix_sub, nar0', nar1', or00, or01, or10, or11, rI, rIA, rIL, rA, rAI, rAL, rL, rLI, rLA, ru, ruL, reduceIte, Nat.reduceEqDiff, true_or, or_true, true_and, and_true, false_or, or_false, not_true_eq_false, not_false_eq_true, false_implies, true_implies, implies_true, i10, i01]
      exact pus v e hv he
    · try simp (disch := omega) only [forall_eq, l0, l1, l2, l3, l4, l5, l6, l15, l16, l24, l30, l99, l100, l200, l385, lm1, ix_ne, ne_ix, ix_nat, vp_ix, ix_inj, ix_le, ix_lt, ix_add, ix_mul, ix_sub, nar0', nar1', or00, or01, or10, or11, rI, rIA, rIL, rA, rAI, rAL, rL, rLI, rLA, ru, ruL, reduceIte, Nat.reduceEqDiff, true_or, or_true, true_and, and_true, false_or, or_false, not_true_eq_false, not_false_eq_true, false_implies, true_implies, implies_true, i10, i01]
      exact pun
    · try simp (disch := omega) only [forall_eq, l0, l1, l2, l3, l4, l5, l6, l15, l16, l24, l30, l99, l100, l200, l385, lm1, ix_ne, ne_ix, ix_nat, vp_ix, ix_inj, ix_le, ix_lt, ix_add, ix_mul, ix_sub, nar0', nar1', or00, or01, or10, or11, rI, rIA, rIL, rA, rAI, rAL, rL, rLI, rLA, ru, ruL, reduceIte, Nat.reduceEqDiff, true_or, or_true, true_and, and_true, false_or, or_false, not_true_eq_false, not_false_eq_true, false_implies, true_implies, implies_true, i10, i01]
    · exact Or.inl (by try simp (disch := omega) only [forall_eq, l0, l1, l2, l3, l4, l5, l6, l15, l16, l24, l30, l99, l100, l200, l385, lm1, ix_ne, ne_ix, ix_nat, vp_ix, ix_inj, ix_le, ix_lt, ix_add, ix_mul, ix_sub, nar0', nar1', or00, or01, or10, or11, rI, rIA, rIL, rA, rAI, rAL, rL, rLI, rLA, ru, ruL, reduceIte, Nat.reduceEqDiff, true_or, or_true, true_and, and_true, false_or, or_false, not_true_eq_false, not_false_eq_true, false_implies, true_implies, implies_true, i10, i01])
    · try simp (disch := omega) only [forall_eq, l0, l1, l2, l3, l4, l5, l6, l15, l16, l24, l30, l99, l100, l200, l385, lm1, ix_ne, ne_ix, ix_nat, vp_ix, ix_inj, ix_le, ix_lt, ix_add, ix_mul, ix_sub, nar0', nar1', or00, or01, or10, or11, rI, rIA, rIL, rA, rAI, rAL, rL, rLI, rLA, ru, ruL, reduceIte, Nat.reduceEqDiff, true_or, or_true, true_and, and_true, false_or, or_false, not_true_eq_false, not_false_eq_true, false_implies, true_implies, implies_true, i10, i01]
      exact hF.2.2.1
    · rcases hk with ek | ek | ek <;> subst ek <;> try simp (disch := omega) only [forall_eq, l0, l1, l2, l3, l4, l5, l6, l15, l16, l24, l30, l99, l100, l200, l385, lm1, ix_ne, ne_ix, ix_nat, vp_ix, ix_inj, ix_le, ix_lt, ix_add, ix_mul, ix_sub, nar0', nar1', or00, or01, or10, or11, rI, rIA, rIL, rA, rAI, rAL, rL, rLI, rLA, ru, ruL, reduceIte, Nat.reduceEqDiff, true_or, or_true, true_and, and_true, false_or, or_false, not_true_eq_false, not_false_eq_true, false_implies, true_implies, implies_true, i10, i01]
      · exact hF.2.2.2.1 4 b e (Or.inl rfl) (by omega) hb2
      · exact hF.2.2.2.1 6 b e (Or.inr (Or.inl rfl)) (by omega) hb2
      · exact hF.2.2.2.1 8 b e (Or.inr (Or.inr rfl)) (by omega) hb2
    · exfalso
      revert h
      try simp (disch := omega) only [forall_eq, l0, l1, l2, l3, l4, l5, l6, l15, l16, l24, l30, l99, l100, l200, l385, lm1, ix_ne, ne_ix, ix_nat, vp_ix, ix_inj, ix_le, ix_lt, ix_add, ix_mul, ix_sub, nar0', nar1', or00, or01, or10, or11, rI, rIA, rIL, rA, rAI, rAL, rL, rLI, rLA, ru, ruL, reduceIte, Nat.reduceEqDiff, true_or, or_true, true_and, and_true, false_or, or_false, not_true_eq_false, not_false_eq_true, false_implies, true_implies, implies_true, i10, i01]
    · simp only [Rn] at hN ⊢
      try simp (disch := omega) only [forall_eq, l0, l1, l2, l3, l4, l5, l6, l15, l16, l24, l30, l99, l100, l200, l385, lm1, ix_ne, ne_ix, ix_nat, vp_ix, ix_inj, ix_le, ix_lt, ix_add, ix_mul, ix_sub, nar0', nar1', or00, or01, or10, or11, rI, rIA, rIL, rA, rAI, rAL, rL, rLI, rLA, ru, ruL, reduceIte, Nat.reduceEqDiff, true_or, or_true, true_and, and_true, false_or, or_false, not_true_eq_false, not_false_eq_true, false_implies, true_implies, implies_true, i10, i01]
      exact hN
  · have : n = 16 := by omega
    subst this
    try simp (disch := omega) only [wp_L_block, wp_C_block, p2, forall_eq, l0, l1, l2, l3, l4, l5, l6, l15, l16, l24, l30, l99, l100, l200, l385, lm1, ix_ne, ne_ix, ix_nat, vp_ix, ix_inj, ix_le, ix_lt, ix_add, ix_mul, ix_sub, nar0', nar1', or00, or01, or10, or11, rI, rIA, rIL, rA, rAI, rAL, rL, rLI, rLA, ru, ruL, reduceIte, Nat.reduceEqDiff, true_or, or_true, true_and, and_true, false_or, or_false, not_true_eq_false, not_false_eq_true, false_implies, true_implies, implies_true, i10, i01]
    refine ⟨fun h => absurd h (by omega), fun _ => ?_⟩
    have : wp_M_block z (fun b z2 => wp_M_thrown z2 (fun t z3 => X (ix 1) b t z3)) := by
      try simp (disch := omega) only [wp_M_block, wp_M_thrown, wp_M_fail, p8, forall_eq, l0, l1, l2, l3, l4, l5, l6, l15, l16, l24, l30, l99, l100, l200, l385, lm1, ix_ne, ne_ix, ix_nat, vp_ix, ix_inj, ix_le, ix_lt, ix_add, ix_mul, ix_sub, nar0', nar1', or00, or01, or10, or11, rI, rIA, rIL, rA, rAI, rAL, rL, rLI, rLA, ru, ruL, reduceIte, Nat.reduceEqDiff, true_or, or_true, true_and, and_true, false_or, or_false, not_true_eq_false, not_false_eq_true, false_implies, true_implies, implies_true, i10, i01]
      refine hX _ _ _ _ rfl (fun h => absurd h i10) (Rel_fr ⟨16, m, sz, ⟨hn, hm, p2, p8, p3, p9, psz, pst, ped, pex, pus, pun⟩, hF, hN⟩ (fr_I (fr_I (fr_refl z) (by decide) _) (by decide) _))
    exact this
