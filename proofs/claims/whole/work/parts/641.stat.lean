theorem hold {α : Type} {a : α} {P : α → Prop} (h : ∀ x, x = a → P x) : P a := h a rfl
theorem Prg_exp {n m : Nat} {sz : Nat → Nat} {z y : Sta} {a c : Nat} {o : Int32} {I A L : List Nat} (h : Prg n m sz z) (hm : m < 24) (ha : a < 6) (hc : c < 6) (f : fr I A L z y) (hI : ∀ k ∈ [2, 8], k ∉ I) (hA : ∀ k ∈ [0, 1, 2, 3, 4, 5, 6, 15, 16, 17], k ∉ A)
    (e3 : y.1 3 = ix (m + 1)) (e9 : y.1 9 = ix (m + 1)) (e7' : y.2.1 7 = upd (z.2.1 7) m (ix a)) (e8' : y.2.1 8 = upd (z.2.1 8) m o) (e9' : y.2.1 9 = upd (z.2.1 9) m (ix c)) (e18 : y.2.1 18 = upd (z.2.1 18) m (ix a)) (e19 : y.2.1 19 = upd (z.2.1 19) m o) (e20 : y.2.1 20 = upd (z.2.1 20) m (ix c))
    (eu : ∀ v e, hb (y.2.2 0 v) e = true ↔ hb (z.2.2 0 v) e = true ∨ (e = m ∧ (v = a ∨ v = c))) (hno : ∀ e, e < m → ¬ mt z 7 8 9 (ix a) o (ix c) e) : Prg n (m + 1) sz y := by
  obtain ⟨hn, _, p2, p8, p3, p9, psz, pst, ped, pex, pus, pun⟩ := h
  refine ⟨hn, by omega, (f.1 2 (hI 2 (by decide))).trans p2, (f.1 8 (hI 8 (by decide))).trans p8, e3, e9, ?_, fun b k hb1 hk => ?_, fun b hb1 => ?_, fun e he => ?_, fun v e hv he => ?_, fun e d he hd q1 q2 q3 => ?_⟩
  · rw [f.2.1 0 (hA 0 (by decide)), f.2.1 15 (hA 15 (by decide))]; exact psz
  · have := pst b k hb1 hk
    simp only [stm, f.2.1 1 (hA 1 (by decide)), f.2.1 2 (hA 2 (by decide)), f.2.1 3 (hA 3 (by decide)), f.2.1 16 (hA 16 (by decide))]
    obtain ⟨q1, q2, q3⟩ := this
    refine ⟨q1, q2, ?_⟩
    rcases q3 with q3 | q3 | ⟨q3, e, he, q4⟩ | q3
    · exact Or.inl q3
    · exact Or.inr (Or.inl q3)
    · exact Or.inr (Or.inr (Or.inl ⟨q3, e, by omega, q4⟩))
    · exact Or.inr (Or.inr (Or.inr q3))
  · have := ped b hb1
    simp only [edn, f.2.1 4 (hA 4 (by decide)), f.2.1 5 (hA 5 (by decide)), f.2.1 6 (hA 6 (by decide)), f.2.1 17 (hA 17 (by decide))]
    exact this
  · simp only [exn, e7', e8', e9', e18, e19, e20, ru]
    by_cases q : e = m
    · simp only [if_pos q]
      exact ⟨⟨a, ha, rfl, rfl⟩, trivial, c, hc, rfl, rfl⟩
    · simp only [if_neg q]
      exact pex e (by omega)
  · rw [eu, pus v e hv he, e7', e9', ru, ru]
    by_cases q : e = m
    · simp only [if_pos q]
      rw [ix_inj (by omega) (by omega), ix_inj (by omega) (by omega)]
      constructor
      · rintro (h | h)
        · omega
        · exact ⟨by omega, h.2.imp Eq.symm Eq.symm⟩
      · rintro ⟨_, h⟩; exact Or.inr ⟨q, h.imp Eq.symm Eq.symm⟩
    · simp only [if_neg q]
      constructor
      · rintro (h | h)
        · exact ⟨by omega, h.2⟩
        · exact absurd h.1 q
      · rintro ⟨_, h⟩; exact Or.inl ⟨by omega, h⟩
  · rw [e7', ru, ru] at q1; rw [e8', ru, ru] at q2; rw [e9', ru, ru] at q3
    by_cases k1 : e = m
    · by_cases k2 : d = m
      · rw [k1, k2]
      · rw [if_pos k1, if_neg k2] at q1 q2 q3
        exact absurd ⟨q1.symm, q2.symm, q3.symm⟩ (hno d (by omega))
    · by_cases k2 : d = m
      · rw [if_neg k1, if_pos k2] at q1 q2 q3
        exact absurd ⟨q1, q2, q3⟩ (hno e (by omega))
      · rw [if_neg k1, if_neg k2] at q1 q2 q3
        exact pun e d (by omega) (by omega) q1 q2 q3
theorem Prg_stm {n m S : Nat} {sz : Nat → Nat} {z y : Sta} {t : Nat} {kd op a3 a4 a5 a7 : Int32} {I A L : List Nat} (h : Prg n m sz z) (hn0 : 0 < n) (hS : sz (n - 1) = S) (h5 : S < 5) (ht : t < 6) (f : fr I A L z y) (hI : ∀ k ∈ [2, 3, 8, 9], k ∉ I) (hA : ∀ k ∈ [4, 5, 6, 7, 8, 9, 17, 18, 19, 20], k ∉ A) (hL : 0 ∉ L)
    (e0 : y.2.1 0 = upd (z.2.1 0) (n - 1) (ix (S + 1))) (e15 : y.2.1 15 = upd (z.2.1 15) (n - 1) (ix (S + 1))) (e1 : y.2.1 1 = upd (z.2.1 1) ((n - 1) * 5 + S) kd) (e2 : y.2.1 2 = upd (z.2.1 2) ((n - 1) * 5 + S) (ix t)) (e3 : y.2.1 3 = upd (z.2.1 3) ((n - 1) * 5 + S) op)
    (e16 : y.2.1 16 = upd (upd (upd (upd (upd (upd (z.2.1 16) (30 * (n - 1) + 6 * S) kd) (30 * (n - 1) + 6 * S + 1) (ix t)) (30 * (n - 1) + 6 * S + 2) a3) (30 * (n - 1) + 6 * S + 3) a4) (30 * (n - 1) + 6 * S + 4) a5) (30 * (n - 1) + 6 * S + 5) a7)
    (hk : (kd = ix 0 ∧ ∃ a, a < 6 ∧ op = ix a ∧ a3 = ix a) ∨ (kd = ix 1 ∧ op = a3) ∨ (kd = ix 2 ∧ ∃ e, e < m ∧ op = ix e ∧ a7 = ix e) ∨ kd = ix 3) : Prg n m (fun b => if b = n - 1 then S + 1 else sz b) y := by
  obtain ⟨hn, hm, p2, p8, p3, p9, psz, pst, ped, pex, pus, pun⟩ := h
  refine ⟨hn, hm, (f.1 2 (hI 2 (by decide))).trans p2, (f.1 8 (hI 8 (by decide))).trans p8, (f.1 3 (hI 3 (by decide))).trans p3, (f.1 9 (hI 9 (by decide))).trans p9, fun b hb1 => ?_, fun b k hb1 hk1 => ?_, fun b hb1 => ?_, fun e he => ?_, ?_, ?_⟩
  · rw [e0, e15, ru, ru]
    dsimp only
    by_cases q : b = n - 1
    · simp only [if_pos q]
      exact ⟨trivial, trivial, by omega, fun hh => by omega⟩
    · simp only [if_neg q]
      exact psz b hb1
  · dsimp only at hk1
    simp only [stm, e1, e2, e3, e16]
    by_cases q : b = n - 1 ∧ k = S
    · obtain ⟨q1, q2⟩ := q
      subst q2; subst q1
      have m1 : 5 * (n - 1) + k = (n - 1) * 5 + k := by omega
      have n1 : ∀ i j, i < 6 → j < 6 → i ≠ j → ¬ 30 * (n - 1) + 6 * k + i = 30 * (n - 1) + 6 * k + j := by omega
      have n0 : ∀ j, 0 < j → ¬ 30 * (n - 1) + 6 * k = 30 * (n - 1) + 6 * k + j := by omega
      simp only [ru, m1, reduceIte, if_neg (n0 1 (by omega)), if_neg (n0 2 (by omega)), if_neg (n0 3 (by omega)), if_neg (n0 4 (by omega)), if_neg (n0 5 (by omega)), if_neg (n1 1 2 (by omega) (by omega) (by omega)), if_neg (n1 1 3 (by omega) (by omega) (by omega)), if_neg (n1 1 4 (by omega) (by omega) (by omega)), if_neg (n1 1 5 (by omega) (by omega) (by omega)), if_neg (n1 2 3 (by omega) (by omega) (by omega)), if_neg (n1 2 4 (by omega) (by omega) (by omega)), if_neg (n1 2 5 (by omega) (by omega) (by omega))]
      exact ⟨⟨t, ht, rfl, rfl⟩, trivial, hk⟩
    · have hb : k < sz b := by
        by_cases q1 : b = n - 1
        · rw [if_pos q1] at hk1
          have : k ≠ S := fun e => q ⟨q1, e⟩
          rw [q1, hS]; omega
        · rw [if_neg q1] at hk1; exact hk1
      have hk5 : k < 5 := Nat.lt_of_lt_of_le hb (psz b (by omega)).2.2.1
      have m1 : ¬ 5 * b + k = (n - 1) * 5 + S := by omega
      have nn : ∀ i j, i < 6 → j < 6 → ¬ 30 * b + 6 * k + i = 30 * (n - 1) + 6 * S + j := by omega
      have nn0 : ∀ j, j < 6 → ¬ 30 * b + 6 * k = 30 * (n - 1) + 6 * S + j := fun j hj => nn 0 j (by omega) hj
      have nn1 : ∀ i, i < 6 → ¬ 30 * b + 6 * k + i = 30 * (n - 1) + 6 * S := fun i hi => nn i 0 hi (by omega)
      have nn2 : ¬ 30 * b + 6 * k = 30 * (n - 1) + 6 * S := by omega
      have un : ∀ i, i < 6 → upd (upd (upd (upd (upd (upd (z.2.1 16) (30 * (n - 1) + 6 * S) kd) (30 * (n - 1) + 6 * S + 1) (ix t)) (30 * (n - 1) + 6 * S + 2) a3) (30 * (n - 1) + 6 * S + 3) a4) (30 * (n - 1) + 6 * S + 4) a5) (30 * (n - 1) + 6 * S + 5) a7 (30 * b + 6 * k + i) = z.2.1 16 (30 * b + 6 * k + i) := by
        intro i hi
        simp only [ru, if_neg (nn i 5 hi (by omega)), if_neg (nn i 4 hi (by omega)), if_neg (nn i 3 hi (by omega)), if_neg (nn i 2 hi (by omega)), if_neg (nn i 1 hi (by omega)), if_neg (nn1 i hi)]
      have un0 := un 0 (by omega)
      rw [Nat.add_zero] at un0
      simp only [un 1 (by omega), un 2 (by omega), un 5 (by omega)]
      simp only [ru, if_neg m1, if_neg nn2, if_neg (nn0 1 (by omega)), if_neg (nn0 2 (by omega)), if_neg (nn0 3 (by omega)), if_neg (nn0 4 (by omega)), if_neg (nn0 5 (by omega))]
      exact pst b k hb1 hb
  · have := ped b hb1
    simp only [edn, f.2.1 4 (hA 4 (by decide)), f.2.1 5 (hA 5 (by decide)), f.2.1 6 (hA 6 (by decide)), f.2.1 17 (hA 17 (by decide))]
    exact this
  · have := pex e he
    simp only [exn, f.2.1 7 (hA 7 (by decide)), f.2.1 8 (hA 8 (by decide)), f.2.1 9 (hA 9 (by decide)), f.2.1 18 (hA 18 (by decide)), f.2.1 19 (hA 19 (by decide)), f.2.1 20 (hA 20 (by decide))]
    exact this
  · rw [f.2.2 0 hL, f.2.1 7 (hA 7 (by decide)), f.2.1 9 (hA 9 (by decide))]; exact pus
  · rw [f.2.1 7 (hA 7 (by decide)), f.2.1 8 (hA 8 (by decide)), f.2.1 9 (hA 9 (by decide))]; exact pun
def SOK (x1 x2 x3 x4 x5 : Int32) : Prop := (∃ t, t < 6 ∧ x2 = ix t) ∧ ((x1 = ix 0 ∧ ∃ t, t < 6 ∧ x3 = ix t) ∨ (x1 = ix 1 ∧ ¬ x3 < (-32768 : Int32) ∧ ¬ (32767 : Int32) < x3) ∨ (x1 = ix 2 ∧ (∃ t, t < 6 ∧ x3 = ix t) ∧ (∃ t, t < 5 ∧ x4 = ix t) ∧ ∃ t, t < 6 ∧ x5 = ix t) ∨ x1 = ix 3)
theorem s_C_isStatement {z : Sta} {K : Int32 → Sta → Prop} {x1 x2 x3 x4 x5 : Int32} (hK : ∀ v, isb v (SOK x1 x2 x3 x4 x5) → K v z) : wp_C_isStatement x1 x2 x3 x4 x5 z K := by
  have i12 : ¬ ix 1 = ix 2 := by decide
  have i20 : ¬ ix 2 = ix 0 := by decide
  have i21 : ¬ ix 2 = ix 1 := by decide
  have i02 : ¬ ix 0 = ix 2 := by decide
  have i03 : ¬ ix 0 = ix 3 := by decide
  have i13 : ¬ ix 1 = ix 3 := by decide
  have i23 : ¬ ix 2 = ix 3 := by decide
  have hr5 := rng (x := x4) (k := 5) (by omega)
  simp only [wp_C_isStatement, pj_C_isStatement_63, pj_C_isStatement_64, pj_C_isStatement_93, pj_C_isStatement_94, l0, l1, l2, l3, l5, true_or, or_true, true_and]
  refine s_C_isVariable (fun v hv => ⟨fun h0 => ?_, fun h0 => hK _ (Or.inr ⟨rfl, fun hh => (isb_z hv).1 h0 hh.1⟩)⟩)
  have hx := isb_n hv h0
  refine ⟨fun e => ?_, fun e => ?_, fun e => ?_, fun e => hK _ (Or.inl ⟨rfl, hx, Or.inr (Or.inr (Or.inr e))⟩), fun e => hK _ (Or.inr ⟨rfl, fun hh => ?_⟩)⟩
  · subst e
    refine s_C_isVariable (fun w hw => ⟨isb_b hw, hK _ (isb_c hw ⟨fun hh => ⟨hx, Or.inl ⟨rfl, hh⟩⟩, fun hh => ?_⟩)⟩)
    rcases hh.2 with q | q | q | q
    · exact q.2
    · exact absurd q.1 i01
    · exact absurd q.1 i02
    · exact absurd q i03
  · subst e
    have un : ∀ {p : Prop}, SOK (ix 1) x2 x3 x4 x5 → (¬ x3 < (-32768 : Int32) → ¬ (32767 : Int32) < x3 → p) → p := by
      intro p hh k
      rcases hh.2 with q | q | q | q
      · exact absurd q.1 i10
      · exact k q.2.1 q.2.2
      · exact absurd q.1 i12
      · exact absurd q i13
    exact ⟨fun h1 => hK _ (Or.inr ⟨rfl, fun hh => un hh (fun a _ => a h1)⟩), fun h1 => ⟨fun h2 => hK _ (Or.inr ⟨rfl, fun hh => un hh (fun _ a => a h2)⟩), fun h2 => hK _ (Or.inl ⟨rfl, hx, Or.inr (Or.inl ⟨rfl, h1, h2⟩)⟩)⟩⟩
  · subst e
    have un : ∀ {p : Prop}, SOK (ix 2) x2 x3 x4 x5 → (((∃ t, t < 6 ∧ x3 = ix t) ∧ (∃ t, t < 5 ∧ x4 = ix t) ∧ ∃ t, t < 6 ∧ x5 = ix t) → p) → p := by
      intro p hh k
      rcases hh.2 with q | q | q | q
      · exact absurd q.1 i20
      · exact absurd q.1 i21
      · exact k q.2
      · exact absurd q i23
    refine s_C_isVariable (fun w hw => ⟨fun h1 => hK _ (Or.inr ⟨rfl, fun hh => un hh (fun q => (isb_z hw).1 h1 q.1)⟩), fun h1 => ⟨fun h2 => hK _ (Or.inr ⟨rfl, fun hh => un hh (fun q => (hr5.2 q.2.1).1 h2)⟩), fun h2 => ⟨fun h3 => hK _ (Or.inr ⟨rfl, fun hh => un hh (fun q => (hr5.2 q.2.1).2 h3)⟩), fun h3 => s_C_isVariable (fun u hu => ⟨fun h4 => hK _ (Or.inr ⟨rfl, fun hh => un hh (fun q => (isb_z hu).1 h4 q.2.2)⟩), fun h4 => hK _ (Or.inl ⟨rfl, hx, Or.inr (Or.inr (Or.inl ⟨rfl, isb_n hw h1, hr5.1 ⟨h2, h3⟩, isb_n hu h4⟩))⟩)⟩)⟩⟩⟩)
  · rcases hh.2 with q | q | q | q
    · exact e.1 q.1
    · exact e.2.1 q.1
    · exact e.2.2.1 q.1
    · exact e.2.2.2 q
theorem s_M_statementF {z : Sta} {K : Int32 → Sta → Prop} {x1 x2 x3 x4 x5 : Int32} (h1 : SOK x1 x2 x3 x4 x5 → pj_M_statement_105 K x1 x2 x3 x4 x5 (ix 1) (zI z 7 (ix 0))) (h0 : ¬ SOK x1 x2 x3 x4 x5 → pj_M_statement_105 K x1 x2 x3 x4 x5 (ix 0) (zI z 7 (ix 0))) : wp_M_statement x1 x2 x3 x4 x5 z K := by
  have kk : ∀ {p q : Nat}, p < 4 → q < 4 → (ix p = ix q ↔ p = q) := fun hp hq => ix_inj (by omega) (by omega)
  have no28 : ¬ SOK x1 x2 x3 x4 x5 → pj_M_statement_104 K x1 x2 x3 x4 x5 (zI z 7 (ix 0)) := fun h => h0 h
  simp only [wp_M_statement, forall_eq, l0, l3, l5, pj_M_statement_27]
  have bad : ¬ SOK x1 x2 x3 x4 x5 → pj_M_statement_28 K x1 x2 x3 x4 x5 (ix 0) (zI z 7 (ix 0)) := by
    intro h
    simp only [pj_M_statement_28, l0]
    exact ⟨fun _ => no28 h, fun h => absurd trivial h⟩
  refine s_M_within (by omega) (fun v hv => ⟨fun g0 => bad (fun hh => (isb_z hv).1 g0 ?_), fun g0 => s_M_within (by omega) (fun w hw => ⟨fun g1 => bad (fun hh => (isb_z hw).1 g1 hh.1), fun g1 => ?_⟩)⟩)
  · rcases hh.2 with q | q | q | q
    · exact ⟨0, by omega, q.1⟩
    · exact ⟨1, by omega, q.1⟩
    · exact ⟨2, by omega, q.1⟩
    · exact ⟨3, by omega, q⟩
  · obtain ⟨t, ht, rfl⟩ := isb_n hv g0
    have hx := isb_n hw g1
    simp only [pj_M_statement_28, pj_M_statement_48, pj_M_statement_66, pj_M_statement_100, l0, l1, l2, l4, l5]
    refine ⟨fun h => absurd h i10, fun _ => ?_⟩
    rcases (by omega : t = 0 ∨ t = 1 ∨ t = 2 ∨ t = 3) with e | e | e | e <;> subst e
    · have i02 : ¬ ix 0 = ix 2 := by decide
      have i03 : ¬ ix 0 = ix 3 := by decide
      refine ⟨fun h => absurd rfl h, fun _ => s_M_within (by omega) (fun u hu => ⟨fun g2 => no28 (fun hh => ?_), fun g2 => ⟨fun _ => ⟨fun _ => h1 ⟨hx, Or.inl ⟨rfl, isb_n hu g2⟩⟩, fun h => absurd h i02⟩, fun h => absurd h i01⟩⟩)⟩
      rcases hh.2 with q | q | q | q
      · exact (isb_z hu).1 g2 q.2
      · exact i01 q.1
      · exact i02 q.1
      · exact i03 q
    · have i12 : ¬ ix 1 = ix 2 := by decide
      have i13 : ¬ ix 1 = ix 3 := by decide
      refine ⟨fun _ => ⟨fun h => absurd rfl h, fun _ => s_M_withinG (fun u hu => ⟨fun g2 => no28 (fun hh => ?_), fun g2 => ⟨fun _ => h1 ⟨hx, Or.inr (Or.inl ⟨rfl, isb_n hu g2⟩)⟩, fun h => absurd h i12⟩⟩)⟩, fun h => absurd h i10⟩
      rcases hh.2 with q | q | q | q
      · exact i10 q.1
      · exact (isb_z hu).1 g2 q.2
      · exact i12 q.1
      · exact i13 q
    · have i20 : ¬ ix 2 = ix 0 := by decide
      have i21 : ¬ ix 2 = ix 1 := by decide
      have i23 : ¬ ix 2 = ix 3 := by decide
      have un : ∀ {p : Prop}, SOK (ix 2) x2 x3 x4 x5 → (((∃ t, t < 6 ∧ x3 = ix t) ∧ (∃ t, t < 5 ∧ x4 = ix t) ∧ ∃ t, t < 6 ∧ x5 = ix t) → p) → p := by
        intro p hh k
        rcases hh.2 with q | q | q | q
        · exact absurd q.1 i20
        · exact absurd q.1 i21
        · exact k q.2
        · exact absurd q i23
      refine ⟨fun _ => ⟨fun _ => ⟨fun h => absurd rfl h, fun _ => s_M_within (by omega) (fun u hu => ⟨fun g2 => no28 (fun hh => un hh (fun q => (isb_z hu).1 g2 q.1)), fun g2 => s_M_within (by omega) (fun u1 hu1 => ⟨fun g3 => no28 (fun hh => un hh (fun q => (isb_z hu1).1 g3 q.2.1)), fun g3 => s_M_within (by omega) (fun u2 hu2 => ⟨fun g4 => no28 (fun hh => un hh (fun q => (isb_z hu2).1 g4 q.2.2)), fun g4 => h1 ⟨hx, Or.inr (Or.inr (Or.inl ⟨rfl, isb_n hu g2, isb_n hu1 g3, isb_n hu2 g4⟩))⟩⟩)⟩)⟩)⟩, fun h => absurd h i21⟩, fun h => absurd h i20⟩
    · have i30 : ¬ ix 3 = ix 0 := by decide
      have i31 : ¬ ix 3 = ix 1 := by decide
      have i32 : ¬ ix 3 = ix 2 := by decide
      exact ⟨fun _ => ⟨fun _ => ⟨fun _ => h1 ⟨hx, Or.inr (Or.inr (Or.inr rfl))⟩, fun h => absurd h i32⟩, fun h => absurd h i31⟩, fun h => absurd h i30⟩
theorem s_M_233 {z : Sta} {K : Int32 → Sta → Prop} {n S : Nat} {x1 x2 x3 x4 x5 x7 : Int32} (hn0 : 0 < n) (hn : n ≤ 16) (hN : z.1 8 = ix n) (hS : z.2.1 15 (n - 1) = ix S) (h5 : S < 5)
    (h : K (ix (S + 1)) (zI (zA (zA z 16 (upd (upd (upd (upd (upd (upd (z.2.1 16) (30 * (n - 1) + 6 * S) x1) (30 * (n - 1) + 6 * S + 1) x2) (30 * (n - 1) + 6 * S + 2) x3) (30 * (n - 1) + 6 * S + 3) x4) (30 * (n - 1) + 6 * S + 4) x5) (30 * (n - 1) + 6 * S + 5) x7)) 15 (upd (z.2.1 15) (n - 1) (ix (S + 1)))) 10 (ix 0))) : pj_M_statement_233 K x1 x2 x3 x4 x5 x7 z := by
  try simp (disch := omega) only [pj_M_statement_233, hN, hS, zAA, forall_eq, l0, l1, l2, l3, l4, l5, l6, l15, l16, l24, l30, l99, l100, l200, l385, lm1, ix_ne, ne_ix, ix_nat, vp_ix, ix_inj, ix_le, ix_lt, ix_add, ix_mul, ix_sub, nar0', nar1', or00, or01, or10, or11, rI, rIA, rIL, rA, rAI, rAL, rL, rLI, rLA, ru, ruL, reduceIte, Nat.reduceEqDiff, true_or, or_true, true_and, and_true, false_or, or_false, not_true_eq_false, not_false_eq_true, false_implies, true_implies, implies_true, i10, i01]
  exact ⟨by omega, by omega, by omega, by omega, by omega, by omega, by omega, by omega, by omega, by omega, h⟩
theorem s_M_105ok {z : Sta} {K : Int32 → Sta → Prop} {n S : Nat} {x1 x2 x3 x4 x5 : Int32} (hn0 : 0 < n) (hn : n ≤ 16) (hN : z.1 8 = ix n) (hS : z.2.1 15 (n - 1) = ix S) (h5 : S < 5) (h1 : ¬ x1 = ix 2 → pj_M_statement_233 K x1 x2 x3 x4 x5 mi z) (h2 : x1 = ix 2 → wp_M_find x3 x4 x5 z (fun r z2 => pj_M_statement_164 K x1 x2 x3 x4 x5 r z2)) : pj_M_statement_105 K x1 x2 x3 x4 x5 (ix 1) z := by
  have hne : ¬ n = 0 := by omega
  have hS5 : ¬ S = 5 := by omega
  try simp (disch := omega) only [pj_M_statement_105, hN, hS, hne, hS5, forall_eq, l0, l1, l2, l3, l4, l5, l6, l15, l16, l24, l30, l99, l100, l200, l385, lm1, ix_ne, ne_ix, ix_nat, vp_ix, ix_inj, ix_le, ix_lt, ix_add, ix_mul, ix_sub, nar0', nar1', or00, or01, or10, or11, rI, rIA, rIL, rA, rAI, rAL, rL, rLI, rLA, ru, ruL, reduceIte, Nat.reduceEqDiff, true_or, or_true, true_and, and_true, false_or, or_false, not_true_eq_false, not_false_eq_true, false_implies, true_implies, implies_true, i10, i01]
  refine ⟨by omega, fun h => ?_, h2⟩
  simp only [pj_M_statement_164, l2]
  exact ⟨fun _ => h1 h, fun h3 => absurd h3 h⟩
theorem s_M_164e {z : Sta} {K : Int32 → Sta → Prop} {e : Nat} {x2 x3 x4 x5 : Int32} (he : e < 24) (h : pj_M_statement_233 K (ix 2) x2 x3 x4 x5 (ix e) z) : pj_M_statement_164 K (ix 2) x2 x3 x4 x5 (ix e) z := by
  try simp (disch := omega) only [pj_M_statement_164, forall_eq, l0, l1, l2, l3, l4, l5, l6, l15, l16, l24, l30, l99, l100, l200, l385, lm1, ix_ne, ne_ix, ix_nat, vp_ix, ix_inj, ix_le, ix_lt, ix_add, ix_mul, ix_sub, nar0', nar1', or00, or01, or10, or11, rI, rIA, rIL, rA, rAI, rAL, rL, rLI, rLA, ru, ruL, reduceIte, Nat.reduceEqDiff, true_or, or_true, true_and, and_true, false_or, or_false, not_true_eq_false, not_false_eq_true, false_implies, true_implies, implies_true, i10, i01]
  exact ⟨fun _ => h, fun h => absurd (by omega) h⟩
theorem s_M_164m {z : Sta} {K : Int32 → Sta → Prop} {m : Nat} {x2 x3 x4 x5 : Int32} (hm : m ≤ 24) (hM : z.1 9 = ix m) (h24 : m = 24 → wp_M_fail (ix 2) z (fun r z2 => K r z2)) (h : ∀ y, m < 24 → fr [9] [18, 19, 20] [] z y → y.1 9 = ix (m + 1) → y.2.1 18 = upd (z.2.1 18) m x3 → y.2.1 19 = upd (z.2.1 19) m x4 → y.2.1 20 = upd (z.2.1 20) m x5 → pj_M_statement_233 K (ix 2) x2 x3 x4 x5 (ix m) y) : pj_M_statement_164 K (ix 2) x2 x3 x4 x5 mi z := by
  have nle : ¬ ix 0 ≤ mi := by decide
  try simp (disch := omega) only [pj_M_statement_164, nle, hM, forall_eq, l0, l1, l2, l3, l4, l5, l6, l15, l16, l24, l30, l99, l100, l200, l385, lm1, ix_ne, ne_ix, ix_nat, vp_ix, ix_inj, ix_le, ix_lt, ix_add, ix_mul, ix_sub, nar0', nar1', or00, or01, or10, or11, rI, rIA, rIL, rA, rAI, rAL, rL, rLI, rLA, ru, ruL, reduceIte, Nat.reduceEqDiff, true_or, or_true, true_and, and_true, false_or, or_false, not_true_eq_false, not_false_eq_true, false_implies, true_implies, implies_true, i10, i01]
  refine ⟨fun h1 => ⟨by omega, by omega, by omega, h _ (by omega) (fr_I (fr_A (fr_A (fr_A (fr_refl z) (by decide) _) (by decide) _) (by decide) _) (by decide) _) (by try simp (disch := omega) only [forall_eq, l0, l1, l2, l3, l4, l5, l6, l15, l16, l24, l30, l99, l100, l200, l385, lm1, ix_ne, ne_ix, ix_nat, vp_ix, ix_inj, ix_le, ix_lt, ix_add, ix_mul, ix_sub, nar0', nar1', or00, or01, or10, or11, rI, rIA, rIL, rA, rAI, rAL, rL, rLI, rLA, ru, ruL, reduceIte, Nat.reduceEqDiff, true_or, or_true, true_and, and_true, false_or, or_false, not_true_eq_false, not_false_eq_true, false_implies, true_implies, implies_true, i10, i01]) (by try simp (disch := omega) only [forall_eq, l0, l1, l2, l3, l4, l5, l6, l15, l16, l24, l30, l99, l100, l200, l385, lm1, ix_ne, ne_ix, ix_nat, vp_ix, ix_inj, ix_le, ix_lt, ix_add, ix_mul, ix_sub, nar0', nar1', or00, or01, or10, or11, rI, rIA, rIL, rA, rAI, rAL, rL, rLI, rLA, ru, ruL, reduceIte, Nat.reduceEqDiff, true_or, or_true, true_and, and_true, false_or, or_false, not_true_eq_false, not_false_eq_true, false_implies, true_implies, implies_true, i10, i01]) (by try simp (disch := omega) only [forall_eq, l0, l1, l2, l3, l4, l5, l6, l15, l16, l24, l30, l99, l100, l200, l385, lm1, ix_ne, ne_ix, ix_nat, vp_ix, ix_inj, ix_le, ix_lt, ix_add, ix_mul, ix_sub, nar0', nar1', or00, or01, or10, or11, rI, rIA, rIL, rA, rAI, rAL, rL, rLI, rLA, ru, ruL, reduceIte, Nat.reduceEqDiff, true_or, or_true, true_and, and_true, false_or, or_false, not_true_eq_false, not_false_eq_true, false_implies, true_implies, implies_true, i10, i01]) (by try simp (disch := omega) only [forall_eq, l0, l1, l2, l3, l4, l5, l6, l15, l16, l24, l30, l99, l100, l200, l385, lm1, ix_ne, ne_ix, ix_nat, vp_ix, ix_inj, ix_le, ix_lt, ix_add, ix_mul, ix_sub, nar0', nar1', or00, or01, or10, or11, rI, rIA, rIL, rA, rAI, rAL, rL, rLI, rLA, ru, ruL, reduceIte, Nat.reduceEqDiff, true_or, or_true, true_and, and_true, false_or, or_false, not_true_eq_false, not_false_eq_true, false_implies, true_implies, implies_true, i10, i01])⟩, fun h1 => h24 h1⟩
theorem d_statement {z : Sta} {x1 x2 x3 x4 x5 : Int32} {X : Int32 → Int32 → Int32 → Sta → Prop} (hR : Rel z) (hX : ∀ k b t y, t = k → (k = ix 0 → y.2.2 10 0 = b.toInt64) → Rel y → X k b t y) : wp_L_statement x1 x2 x3 x4 x5 z (fun k z1 => wp_M_statement x1 x2 x3 x4 x5 z1 (fun b z2 => wp_M_thrown z2 (fun t z3 => X k b t z3))) := by
  have hR0 := hR
  obtain ⟨n, m, sz, hP, hF, hN⟩ := hR
  have hP0 := hP
  obtain ⟨hn, hm, p2, p8, p3, p9, psz, pst, ped, pex, pus, pun⟩ := hP
  have i20 : ¬ ix 2 = ix 0 := by decide
  have k8 : (zI z 7 (ix 0)).1 8 = ix n := p8
  have k9 : (zI z 7 (ix 0)).1 9 = ix m := p9
  have rel7 : Rel (zI (zI z 7 (ix 0)) 7 (ix 2)) := Rel_fr hR0 (fr_I (fr_I (fr_refl z) (by decide) _) (by decide) _)
  have no1 : ¬ SOK x1 x2 x3 x4 x5 → wp_M_statement x1 x2 x3 x4 x5 z (fun b z2 => wp_M_thrown z2 (fun t z3 => X (ix 1) b t z3)) := by
    intro hno
    refine s_M_statementF (fun h => absurd h hno) (fun _ => ?_)
    try simp (disch := omega) only [pj_M_statement_105, wp_M_fail, wp_M_thrown, forall_eq, l0, l1, l2, l3, l4, l5, l6, l15, l16, l24, l30, l99, l100, l200, l385, lm1, ix_ne, ne_ix, ix_nat, vp_ix, ix_inj, ix_le, ix_lt, ix_add, ix_mul, ix_sub, nar0', nar1', or00, or01, or10, or11, rI, rIA, rIL, rA, rAI, rAL, rL, rLI, rLA, ru, ruL, reduceIte, Nat.reduceEqDiff, true_or, or_true, true_and, and_true, false_or, or_false, not_true_eq_false, not_false_eq_true, false_implies, true_implies, implies_true, i10, i01]
    exact hX _ _ _ _ rfl (fun h => absurd h i10) (Rel_fr hR0 (fr_I (fr_I (fr_refl z) (by decide) _) (by decide) _))
  have fail2 : pj_M_statement_140 (fun b z2 => wp_M_thrown z2 (fun t z3 => X (ix 2) b t z3)) (zI z 7 (ix 0)) := by
    try simp (disch := omega) only [pj_M_statement_140, wp_M_fail, wp_M_thrown, forall_eq, l0, l1, l2, l3, l4, l5, l6, l15, l16, l24, l30, l99, l100, l200, l385, lm1, ix_ne, ne_ix, ix_nat, vp_ix, ix_inj, ix_le, ix_lt, ix_add, ix_mul, ix_sub, nar0', nar1', or00, or01, or10, or11, rI, rIA, rIL, rA, rAI, rAL, rL, rLI, rLA, ru, ruL, reduceIte, Nat.reduceEqDiff, true_or, or_true, true_and, and_true, false_or, or_false, not_true_eq_false, not_false_eq_true, false_implies, true_implies, implies_true, i10, i01]
    exact hX _ _ _ _ rfl (fun h => absurd h i20) rel7
  have no2 : SOK x1 x2 x3 x4 x5 → ¬ (0 < n ∧ sz (n - 1) < 5) → wp_M_statement x1 x2 x3 x4 x5 z (fun b z2 => wp_M_thrown z2 (fun t z3 => X (ix 2) b t z3)) := by
    intro hok hno
    refine s_M_statementF (fun _ => ?_) (fun h => absurd hok h)
    simp only [pj_M_statement_105, forall_eq, l0, k8]
    refine ⟨fun _ => ⟨fun _ => fail2, fun h => ?_⟩, fun h => absurd h i10⟩
    have hn0 : 0 < n := Nat.pos_of_ne_zero (fun e => h (by rw [e]))
    have hs5 := psz (n - 1) (by omega)
    have k15 : (zI z 7 (ix 0)).2.1 15 (n - 1) = ix (sz (n - 1)) := hs5.2.1
    try simp (disch := omega) only [k15, forall_eq, l0, l1, l2, l3, l4, l5, l6, l15, l16, l24, l30, l99, l100, l200, l385, lm1, ix_ne, ne_ix, ix_nat, vp_ix, ix_inj, ix_le, ix_lt, ix_add, ix_mul, ix_sub, nar0', nar1', or00, or01, or10, or11, rI, rIA, rIL, rA, rAI, rAL, rL, rLI, rLA, ru, ruL, reduceIte, Nat.reduceEqDiff, true_or, or_true, true_and, and_true, false_or, or_false, not_true_eq_false, not_false_eq_true, false_implies, true_implies, implies_true, i10, i01]
    refine ⟨by omega, fun h => absurd (by omega) h, fun _ => fail2⟩
  simp only [wp_L_statement, wp_C_statement, l0, l2, lm1', lm1]
  refine s_C_isStatement (fun v hv => ⟨fun h0 => ?_, fun h0 => Or.inl ⟨trivial, no1 ((isb_z hv).1 h0)⟩⟩)
  have hok := isb_n hv h0
  refine s_P_takes hn p2 (fun b hb1 => ⟨(psz b hb1).1, (psz b hb1).2.2.1⟩) (fun w hw => ⟨fun h1 => ?_, fun h1 => Or.inr ⟨trivial, no2 hok ((isb_z hw).1 h1)⟩⟩)
  obtain ⟨hn0, hS5⟩ := isb_n hw h1
  obtain ⟨S, hS⟩ : ∃ S, S = sz (n - 1) := ⟨_, rfl⟩
  rw [← hS] at hS5
  obtain ⟨q1, q2, q3, q4⟩ := psz (n - 1) (by omega)
  rw [← hS] at q1 q2
  obtain ⟨⟨tx, htx, ex⟩, hkind⟩ := hok
  have hok : SOK x1 x2 x3 x4 x5 := ⟨⟨tx, htx, ex⟩, hkind⟩
  have fin : ∀ (m' : Nat) (y0 y : Sta) (op a7 : Int32), m ≤ m' → Prg n m' sz y0 → fr [3, 9] [7, 8, 9, 18, 19, 20] [0] z y0 → fr [0, 3, 7, 9, 10] [0, 1, 2, 3, 7, 8, 9, 15, 16, 18, 19, 20] [0, 10] z y → (∀ k, k = 2 ∨ k = 3 ∨ k = 8 ∨ k = 9 → y.1 k = y0.1 k) → (∀ k, k = 4 ∨ k = 5 ∨ k = 6 ∨ k = 7 ∨ k = 8 ∨ k = 9 ∨ k = 17 ∨ k = 18 ∨ k = 19 ∨ k = 20 → y.2.1 k = y0.2.1 k) → y.2.2 0 = y0.2.2 0 →
      y.2.1 0 = upd (z.2.1 0) (n - 1) (ix (S + 1)) → y.2.1 15 = upd (z.2.1 15) (n - 1) (ix (S + 1)) → y.2.1 1 = upd (z.2.1 1) ((n - 1) * 5 + S) x1 → y.2.1 2 = upd (z.2.1 2) ((n - 1) * 5 + S) x2 → y.2.1 3 = upd (z.2.1 3) ((n - 1) * 5 + S) op →
      y.2.1 16 = upd (upd (upd (upd (upd (upd (z.2.1 16) (30 * (n - 1) + 6 * S) x1) (30 * (n - 1) + 6 * S + 1) x2) (30 * (n - 1) + 6 * S + 2) x3) (30 * (n - 1) + 6 * S + 3) x4) (30 * (n - 1) + 6 * S + 4) x5) (30 * (n - 1) + 6 * S + 5) a7 →
      ((x1 = ix 2 ∧ ∃ e, e < m' ∧ op = ix e ∧ a7 = ix e) ∨ (¬ x1 = ix 2 ∧ op = x3)) → y.1 0 = ix 0 → y.1 10 = ix 0 → y.1 7 = ix 0 → y.2.2 10 0 = (ix (S + 1)).toInt64 → X (ix 0) (ix (S + 1)) (y.1 7) y := by
    intro m' y0 y op a7 hm' hP1 f0 f ei ea eu e0 e15 e1 e2 e3 e16 hop g0 g10 g7 go
    rw [g7]
    have f1 : fr [0, 1, 4, 5, 6, 7, 10, 11, 12, 13, 14, 15] [0, 1, 2, 3, 10, 11, 12, 13, 14, 15, 16, 21, 22, 23, 24, 25, 26, 27, 28, 29, 30, 31, 32, 33, 34, 35] [1, 2, 3, 4, 5, 6, 7, 8, 9, 10] y0 y ∨ True := Or.inr trivial
    have fz : ∃ y1 : Sta, y1 = (fun k => if k = 2 ∨ k = 3 ∨ k = 8 ∨ k = 9 then y0.1 k else y.1 k, fun k => if k = 0 ∨ k = 1 ∨ k = 2 ∨ k = 3 ∨ k = 15 ∨ k = 16 then y.2.1 k else y0.2.1 k, fun k => if k = 0 then y0.2.2 0 else y.2.2 k) := ⟨_, rfl⟩
    obtain ⟨y1, hy1⟩ := fz
    have f2 : fr [0, 1, 4, 5, 6, 7, 10, 11, 12, 13, 14, 15] [0, 1, 2, 3, 15, 16] [1, 2, 3, 4, 5, 6, 7, 8, 9, 10] y0 y1 ∨ True := Or.inr trivial
    have az : ∀ k, k = 0 ∨ k = 1 ∨ k = 2 ∨ k = 3 ∨ k = 15 ∨ k = 16 → y0.2.1 k = z.2.1 k := fun k hk => f0.2.1 k (by rcases hk with e | e | e | e | e | e <;> subst e <;> decide)
    have hk4 : (x1 = ix 0 ∧ ∃ a, a < 6 ∧ op = ix a ∧ x3 = ix a) ∨ (x1 = ix 1 ∧ op = x3) ∨ (x1 = ix 2 ∧ ∃ e, e < m' ∧ op = ix e ∧ a7 = ix e) ∨ x1 = ix 3 := by
      rcases hop with ⟨q, e, he, qo⟩ | ⟨q, qo⟩
      · exact Or.inr (Or.inr (Or.inl ⟨q, e, he, qo⟩))
      · rcases hkind with r | r | r | r
        · obtain ⟨r1, t, ht, r2⟩ := r
          exact Or.inl ⟨r1, t, ht, qo.trans r2, r2⟩
        · exact Or.inr (Or.inl ⟨r.1, qo⟩)
        · exact absurd r.1 q
        · exact Or.inr (Or.inr (Or.inr r))
    have fI : ∀ k, k ∉ [0, 1, 4, 5, 6, 7, 10, 11, 12, 13, 14, 15] → k < 16 → y.1 k = y0.1 k := by
      intro k hk hk2
      exact ei k (by simp only [List.mem_cons, List.not_mem_nil, or_false, not_or] at hk; omega)
    have hPf : Prg n m' (fun b => if b = n - 1 then S + 1 else sz b) y := by
      refine Prg_stm (t := tx) (kd := x1) (op := op) (a3 := x3) (a4 := x4) (a5 := x5) (a7 := a7) (z := y0) (I := []) (A := [0, 1, 2, 3, 15, 16]) (L := []) (y := (fun k => if k = 2 ∨ k = 3 ∨ k = 8 ∨ k = 9 then y.1 k else y0.1 k, fun k => if k = 0 ∨ k = 1 ∨ k = 2 ∨ k = 3 ∨ k = 4 ∨ k = 5 ∨ k = 6 ∨ k = 7 ∨ k = 8 ∨ k = 9 ∨ k = 15 ∨ k = 16 ∨ k = 17 ∨ k = 18 ∨ k = 19 ∨ k = 20 then y.2.1 k else y0.2.1 k, fun k => if k = 0 then y.2.2 0 else y0.2.2 k)) hP1 hn0 hS.symm hS5 htx ⟨fun k _ => ?_, fun k hk => ?_, fun k _ => ?_⟩ (by decide) (by decide) (by decide) ?_ ?_ ?_ ?_ ?_ ?_ hk4
      · dsimp only
        split
        · next h => exact ei k h
        · rfl
      · simp only [List.mem_cons, List.not_mem_nil, or_false, not_or] at hk
        dsimp only
        split
        · next h => exact ea k (by omega)
        · rfl
      · dsimp only
        split
        · next h => rw [h]; exact eu
        · rfl
      · rw [az 0 (by omega)]; exact e0
      · rw [az 15 (by omega)]; exact e15
      · rw [az 1 (by omega)]; exact e1
      · rw [az 2 (by omega), ← ex]; exact e2
      · rw [az 3 (by omega)]; exact e3
      · rw [az 16 (by omega), ← ex]; exact e16
    refine hX _ _ _ _ rfl (fun _ => go) ⟨n, m', _, hPf, ⟨g0.trans g10.symm, Or.inl g0, ?_, ?_, fun h => absurd (g0.symm.trans h) i01⟩, ?_⟩
    · rw [f.1 1 (by decide), f.1 11 (by decide)]; exact hF.2.2.1
    · intro k c e hk hc1 hc2
      rw [f.2.2 k (by rcases hk with q | q | q <;> subst q <;> decide)]; exact hF.2.2.2.1 k c e hk hc1 hc2
    · have := Rn_fr hN f (by decide) (by decide)
      exact ⟨this.1, this.2.1, this.2.2.1, this.2.2.2.1, fun e he => this.2.2.2.2 e (by omega)⟩
  refine ⟨fun h2 => ?_, fun h2 => ?_⟩
  · simp only [pj_C_statement_81, forall_eq]
    refine s_P_addStatement hn0 hn p2 q1 hS5 ?_
    refine hold (P := fun w => wp_M_statement _ _ _ _ _ w _) (fun z2 hz2 => ?_)
    refine s_M_statementF (fun _ => s_M_105ok (n := n) (S := S) hn0 hn ?_ ?_ hS5 (fun _ => s_M_233 (n := n) (S := S) hn0 hn ?_ ?_ hS5 ?_) (fun h => absurd h h2)) (fun h => absurd hok h)
    · subst hz2; exact p8
    · subst hz2; exact q2
    · subst hz2; exact p8
    · subst hz2; exact q2
    · subst hz2
      simp only [wp_M_thrown, forall_eq]
      refine fin m z _ x3 mi (Nat.le_refl _) hP0 (fr_refl z) (fr_I (fr_A (fr_A (fr_I (fr_L (fr_A (fr_A (fr_A (fr_A (fr_I (fr_refl z) (by decide) _) (by decide) _) (by decide) _) (by decide) _) (by decide) _) (by decide) _) (by decide) _) (by decide) _) (by decide) _) (by decide) _) (fun k hk => ?_) (fun k hk => ?_) rfl rfl rfl rfl rfl rfl rfl (Or.inr ⟨h2, rfl⟩) rfl rfl rfl rfl
      · rcases hk with e | e | e | e <;> subst e <;> rfl
      · rcases hk with e | e | e | e | e | e | e | e | e | e <;> subst e <;> rfl
  · subst h2
    rcases hkind with r | r | ⟨_, ⟨a, ha, ea⟩, ⟨o, ho, eo⟩, ⟨c, hc, ec⟩⟩ | r
    · exact absurd r.1 i20
    · exact absurd r.1 (by decide)
    · refine s_P_findOrAdd (a := a) (c := c) hm p3 ha hc ea ec (fun e he hmt => ?_) (fun h24 hno => ?_) (fun y1 hlt hno f1 g3 g7 g8 g9 gu => ?_)
      · -- it was there
        refine ⟨fun _ => ?_, fun h => absurd h (ix_ne (by omega))⟩
        simp only [pj_C_statement_81, forall_eq]
        refine s_P_addStatement hn0 hn p2 q1 hS5 ?_
        refine hold (P := fun w => wp_M_statement _ _ _ _ _ w _) (fun z2 hz2 => ?_)
        refine s_M_statementF (fun _ => s_M_105ok (n := n) (S := S) hn0 hn ?_ ?_ hS5 (fun h => absurd rfl h) (fun _ => ?_)) (fun h => absurd hok h)
        · subst hz2; exact p8
        · subst hz2; exact q2
        · subst hz2
          refine s_M_find hm ?_ (fun d hd hdt => ?_) (fun hno => ?_)
          · exact p9
          · have := (mt_eq hP0 (y1 := z) he hd rfl rfl rfl rfl rfl rfl hmt).1 hdt
            subst this
            refine s_M_164e (by omega) (s_M_233 (n := n) (S := S) hn0 hn p8 q2 hS5 ?_)
            simp only [wp_M_thrown, forall_eq]
            refine fin m z _ (ix d) (ix d) (Nat.le_refl _) hP0 (fr_refl z) (fr_I (fr_A (fr_A (fr_I (fr_L (fr_A (fr_A (fr_A (fr_A (fr_I (fr_refl z) (by decide) _) (by decide) _) (by decide) _) (by decide) _) (by decide) _) (by decide) _) (by decide) _) (by decide) _) (by decide) _) (by decide) _) (fun k hk => ?_) (fun k hk => ?_) rfl rfl rfl rfl rfl rfl rfl (Or.inl ⟨rfl, d, hd, rfl, rfl⟩) rfl rfl rfl rfl
            · rcases hk with e | e | e | e <;> subst e <;> rfl
            · rcases hk with e | e | e | e | e | e | e | e | e | e <;> subst e <;> rfl
          · exact absurd ((mt_eq hP0 (y1 := z) he he rfl rfl rfl rfl rfl rfl hmt).2 rfl) (hno e he)
      · -- one too many
        refine ⟨fun h => absurd rfl h, fun _ => Or.inr ⟨trivial, ?_⟩⟩
        refine s_M_statementF (fun _ => s_M_105ok (n := n) (S := S) hn0 hn p8 q2 hS5 (fun h => absurd rfl h) (fun _ => ?_)) (fun h => absurd hok h)
        refine s_M_find hm p9 (fun d hd hdt => absurd hdt (mt_no hP0 (y1 := z) rfl rfl rfl rfl rfl rfl hno d hd)) (fun _ => s_M_164m hm p9 (fun _ => ?_) (fun y hlt => absurd hlt (by omega)))
        try simp (disch := omega) only [wp_M_fail, wp_M_thrown, forall_eq, l0, l1, l2, l3, l4, l5, l6, l15, l16, l24, l30, l99, l100, l200, l385, lm1, ix_ne, ne_ix, ix_nat, vp_ix, ix_inj, ix_le, ix_lt, ix_add, ix_mul, ix_sub, nar0', nar1', or00, or01, or10, or11, rI, rIA, rIL, rA, rAI, rAL, rL, rLI, rLA, ru, ruL, reduceIte, Nat.reduceEqDiff, true_or, or_true, true_and, and_true, false_or, or_false, not_true_eq_false, not_false_eq_true, false_implies, true_implies, implies_true, i10, i01]
        exact hX _ _ _ _ rfl (fun h => absurd h i20) rel7
      · -- a new one
        refine ⟨fun _ => ?_, fun h => absurd h (ix_ne (by omega))⟩
        simp only [pj_C_statement_81, forall_eq]
        have b2 : y1.1 2 = ix n := (f1.1 2 (by decide)).trans p2
        have b0 : y1.2.1 0 = z.2.1 0 := f1.2.1 0 (by decide)
        refine s_P_addStatement hn0 hn b2 (show y1.2.1 0 (n - 1) = ix S by rw [b0]; exact q1) hS5 ?_
        refine hold (P := fun w => wp_M_statement _ _ _ _ _ w _) (fun z2 hz2 => ?_)
        refine s_M_statementF (fun _ => s_M_105ok (n := n) (S := S) hn0 hn ?_ ?_ hS5 (fun h => absurd rfl h) (fun _ => ?_)) (fun h => absurd hok h)
        · subst hz2; exact (f1.1 8 (by decide)).trans p8
        · subst hz2
          show y1.2.1 15 (n - 1) = ix S
          rw [f1.2.1 15 (by decide)]; exact q2
        · have fz2 : fr [0, 3, 7] [0, 1, 2, 3, 7, 8, 9] [0, 10] z (zI z2 7 (ix 0)) := by
            subst hz2
            exact fr_I (fr_L (fr_A (fr_A (fr_A (fr_A (fr_I (fr_mono f1 (by decide) (by decide) (by decide)) (by decide) _) (by decide) _) (by decide) _) (by decide) _) (by decide) _) (by decide) _) (by decide) _
          have z3 : (zI z2 7 (ix 0)).1 3 = ix (m + 1) := by subst hz2; exact g3
          have z7 : (zI z2 7 (ix 0)).2.1 7 = upd (z.2.1 7) m x3 := by subst hz2; exact g7
          have z8 : (zI z2 7 (ix 0)).2.1 8 = upd (z.2.1 8) m x4 := by subst hz2; exact g8
          have z9 : (zI z2 7 (ix 0)).2.1 9 = upd (z.2.1 9) m x5 := by subst hz2; exact g9
          have zu : ∀ v e, hb ((zI z2 7 (ix 0)).2.2 0 v) e = true ↔ hb (z.2.2 0 v) e = true ∨ (e = m ∧ (v = a ∨ v = c)) := by subst hz2; exact gu
          have w0 : (zI z2 7 (ix 0)).2.1 0 = upd (z.2.1 0) (n - 1) (ix (S + 1)) := by subst hz2; show upd (y1.2.1 0) (n - 1) (ix (S + 1)) = _; rw [b0]
          have w1 : (zI z2 7 (ix 0)).2.1 1 = upd (z.2.1 1) ((n - 1) * 5 + S) (ix 2) := by subst hz2; show upd (y1.2.1 1) _ _ = _; rw [f1.2.1 1 (by decide)]
          have w2 : (zI z2 7 (ix 0)).2.1 2 = upd (z.2.1 2) ((n - 1) * 5 + S) x2 := by subst hz2; show upd (y1.2.1 2) _ _ = _; rw [f1.2.1 2 (by decide)]
          have w3 : (zI z2 7 (ix 0)).2.1 3 = upd (z.2.1 3) ((n - 1) * 5 + S) (ix m) := by subst hz2; show upd (y1.2.1 3) _ _ = _; rw [f1.2.1 3 (by decide)]
          have u0 : (zI z2 7 (ix 0)).1 0 = ix 0 := by subst hz2; rfl
          have u7 : (zI z2 7 (ix 0)).1 7 = ix 0 := by subst hz2; rfl
          have uo : (zI z2 7 (ix 0)).2.2 10 0 = (ix (S + 1)).toInt64 := by subst hz2; rfl
          clear hz2
          generalize zI z2 7 (ix 0) = y2 at fz2 z3 z7 z8 z9 zu w0 w1 w2 w3 u0 u7 uo ⊢
          refine s_M_find hm ((fz2.1 9 (by decide)).trans p9) (fun d hd hdt => absurd hdt (mt_no hP0 (y1 := z) rfl rfl rfl (fz2.2.1 18 (by decide)) (fz2.2.1 19 (by decide)) (fz2.2.1 20 (by decide)) hno d hd)) (fun _ => s_M_164m hm ((fz2.1 9 (by decide)).trans p9) (fun h => absurd h (by omega)) (fun y3 _ f3 r9 r18 r19 r20 => ?_))
          rw [fz2.2.1 18 (by decide)] at r18; rw [fz2.2.1 19 (by decide)] at r19; rw [fz2.2.1 20 (by decide)] at r20
          have a15 : y3.2.1 15 = z.2.1 15 := (f3.2.1 15 (by decide)).trans (fz2.2.1 15 (by decide))
          have a16 : y3.2.1 16 = z.2.1 16 := (f3.2.1 16 (by decide)).trans (fz2.2.1 16 (by decide))
          refine s_M_233 (n := n) (S := S) hn0 hn ((f3.1 8 (by decide)).trans ((fz2.1 8 (by decide)).trans p8)) (by rw [a15]; exact q2) hS5 ?_
          simp only [wp_M_thrown, forall_eq]
          rw [a15, a16]
          have frz : fr [0, 3, 7, 9, 10] [0, 1, 2, 3, 7, 8, 9, 15, 16, 18, 19, 20] [0, 10] z y3 := fr_tr (fr_mono fz2 (by decide) (by decide) (by decide)) (fr_mono f3 (by decide) (by decide) (by decide))
          have hPe : Prg n (m + 1) sz (fun k => if k = 3 ∨ k = 9 then y3.1 k else z.1 k, fun k => if k = 7 ∨ k = 8 ∨ k = 9 ∨ k = 18 ∨ k = 19 ∨ k = 20 then y3.2.1 k else z.2.1 k, fun k => if k = 0 then y3.2.2 0 else z.2.2 k) := by
            refine Prg_exp (a := a) (c := c) (o := x4) (I := [3, 9]) (A := [7, 8, 9, 18, 19, 20]) (L := [0]) hP0 hlt ha hc ⟨fun k hk => ?_, fun k hk => ?_, fun k hk => ?_⟩ (by decide) (by decide) ?_ ?_ ?_ ?_ ?_ ?_ ?_ ?_ ?_ ?_
            · simp only [List.mem_cons, List.not_mem_nil, or_false, not_or] at hk
              exact if_neg (by omega)
            · simp only [List.mem_cons, List.not_mem_nil, or_false, not_or] at hk
              exact if_neg (by omega)
            · simp only [List.mem_cons, List.not_mem_nil, or_false] at hk
              exact if_neg hk
            · exact (f3.1 3 (by decide)).trans z3
            · exact r9
            · rw [← ea]; exact (f3.2.1 7 (by decide)).trans z7
            · exact (f3.2.1 8 (by decide)).trans z8
            · rw [← ec]; exact (f3.2.1 9 (by decide)).trans z9
            · rw [← ea]; exact r18
            · exact r19
            · rw [← ec]; exact r20
            · intro v e
              show hb (y3.2.2 0 v) e = true ↔ _
              rw [f3.2.2 0 (by decide)]; exact zu v e
            · rw [← ea, ← ec]; exact hno
          refine fin (m + 1) _ _ (ix m) (ix m) (by omega) hPe ⟨fun k hk => ?_, fun k hk => ?_, fun k hk => ?_⟩ (fr_I (k := 10) (fr_A (k := 15) (fr_A (k := 16) frz (by decide) _) (by decide) _) (by decide) _) (fun k hk => ?_) (fun k hk => ?_) rfl ?_ rfl ?_ ?_ ?_ rfl (Or.inl ⟨rfl, m, by omega, rfl, rfl⟩) ?_ rfl ?_ ?_
          · simp only [List.mem_cons, List.not_mem_nil, or_false, not_or] at hk
            exact if_neg (by omega)
          · simp only [List.mem_cons, List.not_mem_nil, or_false, not_or] at hk
            exact if_neg (by omega)
          · simp only [List.mem_cons, List.not_mem_nil, or_false] at hk
            exact if_neg hk
          · rcases hk with e | e | e | e <;> subst e
            · exact frz.1 2 (by decide)
            · rfl
            · exact frz.1 8 (by decide)
            · rfl
          · rcases hk with e | e | e | e | e | e | e | e | e | e <;> subst e
            · exact frz.2.1 4 (by decide)
            · exact frz.2.1 5 (by decide)
            · exact frz.2.1 6 (by decide)
            · rfl
            · rfl
            · rfl
            · exact frz.2.1 17 (by decide)
            · rfl
            · rfl
            · rfl
          · exact (f3.2.1 0 (by decide)).trans w0
          · exact (f3.2.1 1 (by decide)).trans w1
          · exact (f3.2.1 2 (by decide)).trans w2
          · exact (f3.2.1 3 (by decide)).trans w3
          · exact (f3.1 0 (by decide)).trans u0
          · exact (f3.1 7 (by decide)).trans u7
          · show y3.2.2 10 0 = _
            rw [f3.2.2 10 (by decide)]; exact uo
    · exact absurd r (by decide)
