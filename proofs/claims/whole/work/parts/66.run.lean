def vf (o a c : Int32) : Int32 := if o = ix 0 then a + c else if o = ix 1 then a - c else if o = ix 2 then a * c else if o = ix 3 then a &&& c else if c ≤ a then ix 0 else ix 1
def ev (s : Sta) (e : Nat) : Int32 := vf (s.2.1 8 e) (s.2.1 11 (s.2.1 7 e).toNatClampNeg) (s.2.1 11 (s.2.1 9 e).toNatClampNeg)
def cpF (e : Nat) (s : Sta) : Sta := zA (zA (zI s 4 (s.1 4 + ix 1)) 12 (upd (s.2.1 12) e (s.2.1 12 e + ix 1))) 14 (upd (s.2.1 14) e (ev s e))
def alF : Nat → Nat → (Nat → Bool) → Sta → Sta
  | 0, _, _, s => s
  | k + 1, i, x, s => alF k (i + 1) x (if x i = true then cpF i s else s)
def stF (j : Nat) (x : Nat → Bool) (s : Sta) : Sta :=
  if s.2.1 1 j = ix 0 then zA s 11 (upd (s.2.1 11) (s.2.1 2 j).toNatClampNeg (s.2.1 11 (s.2.1 3 j).toNatClampNeg))
  else if s.2.1 1 j = ix 1 then zA s 11 (upd (s.2.1 11) (s.2.1 2 j).toNatClampNeg (s.2.1 3 j))
  else if s.2.1 1 j = ix 2 then (if x (s.2.1 3 j).toNatClampNeg = true then zA s 11 (upd (s.2.1 11) (s.2.1 2 j).toNatClampNeg (s.2.1 14 (s.2.1 3 j).toNatClampNeg))
    else zA (cpF (s.2.1 3 j).toNatClampNeg s) 11 (upd (s.2.1 11) (s.2.1 2 j).toNatClampNeg (ev s (s.2.1 3 j).toNatClampNeg)))
  else if ix 100 ≤ s.1 5 then zI s 5 (s.1 5 + ix 1) else zI (zA s 13 (upd (s.2.1 13) (s.1 5).toNatClampNeg (s.2.1 11 (s.2.1 2 j).toNatClampNeg))) 5 (s.1 5 + ix 1)
def sxF (j : Nat) (x : Nat → Bool) (s : Sta) : Nat → Bool := if s.2.1 1 j = ix 2 then (fun e => x e && !decide (e = (s.2.1 3 j).toNatClampNeg)) else x
def blF : Nat → Nat → (Nat → Bool) → Sta → Sta
  | 0, _, _, s => s
  | k + 1, j, x, s => blF k (j + 1) (sxF j x s) (stF j x s)
def nxt (s : Sta) (a : Nat) : Int32 := if s.2.1 11 (s.2.1 4 a).toNatClampNeg = ix 0 then s.2.1 6 a else s.2.1 5 a
def midF (m : Nat) (sz : Nat → Nat) (f : Int32) : Nat → Nat → Nat → Sta → Sta
  | 0, _, _, s => s
  | k + 1, a, p, s => (fun s2 => if nxt s2 a = mi then zI s2 6 (ix (p + 1)) else if 200 ≤ p + 1 then zI s2 6 (ix (p + 1)) else
      midF m sz f k (nxt s2 a).toNatClampNeg (p + 1) (if f = ix 0 then s2 else alF m 0 (fun e => hw (s2.2.1 23 (16 * a + (nxt s2 a).toNatClampNeg)) e) s2)) (blF (sz a) (5 * a) (if f = ix 0 then (fun _ => false) else (fun e => hw (s.2.1 22 (6 * a + 5)) e)) s)
theorem cpF_fr {z s : Sta} (f : fr [4, 5, 6] [11, 12, 13, 14] [] z s) (e : Nat) : fr [4, 5, 6] [11, 12, 13, 14] [] z (cpF e s) := fr_A (fr_A (fr_I f (by decide) _) (by decide) _) (by decide) _
theorem alF_fr {z : Sta} {x : Nat → Bool} : ∀ (k i : Nat) (s : Sta), fr [4, 5, 6] [11, 12, 13, 14] [] z s → fr [4, 5, 6] [11, 12, 13, 14] [] z (alF k i x s)
  | 0, _, _, f => f
  | k + 1, i, s, f => alF_fr k (i + 1) _ (by split; exact cpF_fr f i; exact f)
theorem stF_fr {z s : Sta} (j : Nat) (x : Nat → Bool) (f : fr [4, 5, 6] [11, 12, 13, 14] [] z s) : fr [4, 5, 6] [11, 12, 13, 14] [] z (stF j x s) := by
  unfold stF
  split
  · exact fr_A f (by decide) _
  · split
    · exact fr_A f (by decide) _
    · split
      · split
        · exact fr_A f (by decide) _
        · exact fr_A (cpF_fr f _) (by decide) _
      · split
        · exact fr_I f (by decide) _
        · exact fr_I (fr_A f (by decide) _) (by decide) _
theorem blF_fr {z : Sta} : ∀ (k j : Nat) (x : Nat → Bool) (s : Sta), fr [4, 5, 6] [11, 12, 13, 14] [] z s → fr [4, 5, 6] [11, 12, 13, 14] [] z (blF k j x s)
  | 0, _, _, _, f => f
  | k + 1, j, x, s, f => blF_fr k (j + 1) _ _ (stF_fr j x f)
theorem s_K_compute {n m : Nat} {sz : Nat → Nat} {s : Sta} {K : Int32 → Sta → Prop} {e : Nat} (hP : Prg n m sz s) (he : e < m) (h : K (ev s e) (cpF e s)) : wp_K_compute (ix e) s K := by
  obtain ⟨hn, hm, p2, p8, p3, p9, psz, pst, ped, pex, pus, pun⟩ := hP
  obtain ⟨⟨y, hy, y1, y2⟩, o, ⟨w, hw, w1, w2⟩⟩ := pex e he
  have fin : ∀ r, r = ev s e → (e < 24 ∧ e < 24 ∧ K r (zA (zA (zI s 4 (s.1 4 + ix 1)) 12 (upd (s.2.1 12) e (s.2.1 12 e + ix 1))) 14 (upd (s.2.1 14) e r))) := by
    intro r hr
    rw [hr]
    exact ⟨by omega, by omega, h⟩
  have hev : ev s e = vf (s.2.1 8 e) (s.2.1 11 y) (s.2.1 11 w) := by
    simp only [ev, y1, w1, ix_nat (show y < 2147483648 by omega), ix_nat (show w < 2147483648 by omega)]
  rw [hev] at fin
  simp only [vf] at fin
  try simp (disch := omega) only [wp_K_compute, wp_P_valueOf_26, pj_P_valueOf_26_87, y1, w1, forall_eq, l0, l1, l2, l3, l4, l5, l6, l15, l16, l24, l30, l99, l100, l200, l385, lm1, ix_ne, ne_ix, ix_nat, vp_ix, ix_inj, ix_le, ix_lt, ix_add, ix_mul, ix_sub, nar0', nar1', or00, or01, or10, or11, rI, rIA, rIL, rA, rAI, rAL, rL, rLI, rLA, ru, ruL, reduceIte, Nat.reduceEqDiff, true_or, or_true, true_and, and_true, false_or, or_false, not_true_eq_false, not_false_eq_true, false_implies, true_implies, implies_true, i10, i01]
  refine ⟨by omega, by omega, by omega, by omega, by omega, by omega, by omega, fun q => fin _ ?_, fun q => fin _ ?_, fun q => fin _ ?_, fun q => fin _ ?_, fun q => ⟨fun r => fin _ ?_, fun r => fin _ ?_⟩⟩
  · rw [if_pos q]
  · rw [if_neg (by rw [q]; decide), if_pos q]
  · rw [if_neg (by rw [q]; decide), if_neg (by rw [q]; decide), if_pos q]
  · rw [if_neg (by rw [q]; decide), if_neg (by rw [q]; decide), if_neg (by rw [q]; decide), if_pos q]
  · rw [if_neg q.1, if_neg q.2.1, if_neg q.2.2.1, if_neg q.2.2.2, if_pos r]
  · rw [if_neg q.1, if_neg q.2.1, if_neg q.2.2.1, if_neg q.2.2.2, if_neg r]
theorem s_K_goAlong {n m : Nat} {sz : Nat → Nat} {s : Sta} {K : Sta → Prop} {v : Int64} {x : Nat → Bool} (hP : Prg n m sz s) (hx : ∀ e, e < 24 → hb v e = x e) (h : K (alF m 0 x s)) : wp_K_goAlong v s K := by
  have hm := hP.2.1
  have loop : ∀ (k i : Nat) (y : Sta), i + k = m → fr [4, 5, 6] [11, 12, 13, 14] [] s y → K (alF k i x y) → lp_K_goAlong_2 K (k + 1) v (ix i) y := by
    intro k
    induction k with
    | zero =>
      intro i y hik f hh
      have h3 : y.1 3 = ix m := (f.1 3 (by decide)).trans hP.2.2.2.2.1
      rw [lp_K_goAlong_2]
      try simp (disch := omega) only [h3, forall_eq, l0, l1, l2, l3, l4, l5, l6, l15, l16, l24, l30, l99, l100, l200, l385, lm1, ix_ne, ne_ix, ix_nat, vp_ix, ix_inj, ix_le, ix_lt, ix_add, ix_mul, ix_sub, nar0', nar1', or00, or01, or10, or11, rI, rIA, rIL, rA, rAI, rAL, rL, rLI, rLA, ru, ruL, reduceIte, Nat.reduceEqDiff, true_or, or_true, true_and, and_true, false_or, or_false, not_true_eq_false, not_false_eq_true, false_implies, true_implies, implies_true, i10, i01]
      exact ⟨fun _ => hh, fun h => absurd (by omega) h⟩
    | succ k ih =>
      intro i y hik f hh
      have h3 : y.1 3 = ix m := (f.1 3 (by decide)).trans hP.2.2.2.2.1
      have hc : lg_cmp ((v >>> ((ix i).toInt64 &&& 63)) &&& 1) 0 = ix 0 ↔ ¬ x i = true := by
        rw [cmp0, sh64 (by omega), hx i (by omega)]
        cases x i
        · exact ⟨fun _ => Bool.false_ne_true, fun _ => rfl⟩
        · exact ⟨fun h => absurd h (by decide), fun h => absurd rfl h⟩
      rw [lp_K_goAlong_2]
      simp only [forall_eq, l0, l1, h3, pj_K_goAlong_29, hc, ix_add, ix_le (show m < 2147483648 by omega) (show i < 2147483648 by omega)]
      refine ⟨fun h => absurd h (by omega), fun _ => ⟨fun q => ih (i + 1) _ (by omega) f ?_, fun q => s_K_compute (Prg_fr hP f (by decide) (by decide) (by decide)) (by omega) (ih (i + 1) _ (by omega) (cpF_fr f i) ?_)⟩⟩
      · rw [alF, if_neg q] at hh; exact hh
      · rw [alF, if_pos (Classical.not_not.1 q)] at hh; exact hh
  try simp (disch := omega) only [wp_K_goAlong, forall_eq, l0, l1, l2, l3, l4, l5, l6, l15, l16, l24, l30, l99, l100, l200, l385, lm1, ix_ne, ne_ix, ix_nat, vp_ix, ix_inj, ix_le, ix_lt, ix_add, ix_mul, ix_sub, nar0', nar1', or00, or01, or10, or11, rI, rIA, rIL, rA, rAI, rAL, rL, rLI, rLA, ru, ruL, reduceIte, Nat.reduceEqDiff, true_or, or_true, true_and, and_true, false_or, or_false, not_true_eq_false, not_false_eq_true, false_implies, true_implies, implies_true, i10, i01]
  exact ⟨m + 1, loop m 0 s (by omega) (fr_refl s) h⟩
