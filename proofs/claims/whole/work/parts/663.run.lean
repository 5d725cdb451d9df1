theorem s_K_goThrough {n m : Nat} {sz : Nat → Nat} {z s : Sta} {K : Sta → Prop} {f : Int32} (hP : Prg n m sz z) (hL : Pln n z) (fs : fr [4, 5, 6] [11, 12, 13, 14] [] z s) (h5 : s.1 5 = ix 0) (h : K (midF m sz f 200 0 0 (if f = ix 0 then s else alF m 0 (fun e => hw (s.2.1 23 256) e) s))) : wp_K_goThrough f s K := by
  have hPs := Prg_fr hP fs (by decide) (by decide) (by decide)
  have hLs := Pln_fr hL fs (by decide) (by decide) (by decide)
  have n0m : ¬ ix 0 = mi := by decide
  have n2 : ¬ ix 200 ≤ ix 0 := by decide
  refine ⟨201, ?_⟩
  rw [lp_K_goThrough_7]
  simp only [l0, l1, lm1, l200, n0m, n2, false_implies, not_false_eq_true, true_implies, true_and]
  refine ⟨fun hf => ?_, fun hf => ?_⟩
  · rw [if_pos hf] at h
    exact s_K_mid hP hL 200 0 0 s (by omega) (by omega) hL.1 hL.2.2.2.1 fs ⟨0, by omega, h5⟩ h
  · rw [if_neg hf] at h
    simp only [wp_O_putOn]
    refine s_O_laterOnm (by omega) ?_
    simp only [forall_eq, vp_ix (show 0 < 2147483648 by omega), ix_nat (show 0 < 2147483648 by omega)]
    refine ⟨by omega, ?_⟩
    rw [hLs.2.2.2.2.2.2.2.1]
    refine s_K_goAlong hPs (fun e he => hb_w he) ?_
    exact s_K_mid hP hL 200 0 0 _ (by omega) (by omega) hL.1 hL.2.2.2.1 (alF_fr m 0 s fs) ⟨0, by omega, by rw [alF_g]; exact h5⟩ h
def Fr (z s : Sta) : Prop := fr [4, 5, 6, 7, 13, 14, 15] [11, 12, 13, 14, 32, 33, 34, 35] [10] z s
def Ag (yy : Sta) (m : Nat) (f : Int32) (c p : Nat) (s r : Sta) : Prop := (∀ i, i < 6 → s.2.1 11 i = r.2.1 32 i) ∧ (∀ e, e < 24 → s.2.1 12 e = r.2.1 34 e) ∧ (¬ f = ix 0 → ∀ e, e < 24 → hw (r.1 12) e = true → s.2.1 14 e = r.2.1 33 e) ∧
  (∃ g, g ≤ c ∧ s.1 5 = ix g ∧ r.1 13 = ix g ∧ ∀ i, i < 100 → i < g → s.2.1 13 i = r.2.1 35 i) ∧ s.1 4 = r.1 15 ∧ r.1 14 = ix p ∧ (∀ e, m ≤ e → e < 24 → s.2.1 12 e = ix 0) ∧ fr [13, 14, 15] [32, 33, 34, 35] [] yy r
theorem Ag_c {yy : Sta} {m c p e : Nat} {f : Int32} {s r r' : Sta} (h : Ag yy m f c p s r) (he : e < m) (h32 : r'.2.1 32 = r.2.1 32) (h34 : r'.2.1 34 = upd (r.2.1 34) e (r.2.1 34 e + ix 1)) (h35 : r'.2.1 35 = r.2.1 35) (h13 : r'.1 13 = r.1 13) (h14 : r'.1 14 = r.1 14) (h15 : r'.1 15 = r.1 15 + ix 1) (h12 : r'.1 12 = r.1 12) (hfr : fr [13, 14, 15] [32, 33, 34, 35] [] r r')
    (h33 : ¬ f = ix 0 → ∀ d, d < 24 → hw (r.1 12) d = true → upd (s.2.1 14) e (ev s e) d = r'.2.1 33 d) : Ag yy m f c p (cpF e s) r' := by
  obtain ⟨a1, a2, a3, a4, a5, a6, a7⟩ := h
  refine ⟨?_, fun d hd => ?_, ?_, ?_, ?_, ?_, fun d hd1 hd2 => ?_, fr_tr a7.2 hfr⟩
  · rw [h32]; exact a1
  · rw [h34]
    show upd (s.2.1 12) e (s.2.1 12 e + ix 1) d = _
    rw [ru, ru]
    split
    · next q => subst q; rw [a2 d hd]
    · exact a2 d hd
  · rw [h12]; exact h33
  · rw [h13, h35]; exact a4
  · rw [h15, ← a5]; rfl
  · rw [h14]; exact a6
  · show upd (s.2.1 12) e (s.2.1 12 e + ix 1) d = _
    rw [ru, if_neg (by omega)]
    exact a7.1 d hd1 hd2
theorem Ag_v {yy : Sta} {m c p t : Nat} {f v : Int32} {s r : Sta} (h : Ag yy m f c p s r) : Ag yy m f c p (zA s 11 (upd (s.2.1 11) t v)) (zA r 32 (upd (r.2.1 32) t v)) := by
  obtain ⟨a1, a2, a3, a4, a5, a6, a7⟩ := h
  refine ⟨fun i hi => ?_, a2, a3, a4, a5, a6, a7.1, fr_A a7.2 (by decide) _⟩
  show upd (s.2.1 11) t v i = upd (r.2.1 32) t v i
  rw [ru, ru]
  split
  · rfl
  · exact a1 i hi
theorem Ag_up {yy : Sta} {m c d p : Nat} {f : Int32} {s r : Sta} (h : Ag yy m f c p s r) (hc : c ≤ d) : Ag yy m f d p s r := by
  obtain ⟨a1, a2, a3, ⟨g, g1, g2⟩, a5⟩ := h
  exact ⟨a1, a2, a3, ⟨g, by omega, g2⟩, a5⟩
def ew (r : Sta) (e : Nat) : Int32 := vf (r.2.1 19 e) (r.2.1 32 (r.2.1 18 e).toNatClampNeg) (r.2.1 32 (r.2.1 20 e).toNatClampNeg)
def wkF (e : Nat) (r : Sta) : Sta := zA (zI r 15 (r.1 15 + ix 1)) 34 (upd (r.2.1 34) e (r.2.1 34 e + ix 1))
theorem ev_ew {yy : Sta} {n m c p e : Nat} {sz : Nat → Nat} {f : Int32} {z s r : Sta} (hP : Prg n m sz z) (hs : Fr z s) (hr : Fr z r) (h : Ag yy m f c p s r) (he : e < m) : ev s e = ew r e := by
  obtain ⟨⟨y, hy, y1, y2⟩, o, ⟨w, hw, w1, w2⟩⟩ := hP.2.2.2.2.2.2.2.2.2.1 e he
  simp only [ev, ew, hs.2.1 7 (by decide), hs.2.1 8 (by decide), hs.2.1 9 (by decide), hr.2.1 18 (by decide), hr.2.1 19 (by decide), hr.2.1 20 (by decide), y1, y2, o, w1, w2, ix_nat (show y < 2147483648 by omega), ix_nat (show w < 2147483648 by omega), h.1 y hy, h.1 w hw]
theorem s_M_worked {n m : Nat} {sz : Nat → Nat} {s : Sta} {K : Int32 → Sta → Prop} {e : Nat} (hP : Prg n m sz s) (he : e < m) (h : K (ew s e) (wkF e s)) : wp_M_worked (ix e) s K := by
  obtain ⟨hn, hm, p2, p8, p3, p9, psz, pst, ped, pex, pus, pun⟩ := hP
  obtain ⟨⟨y, hy, y1, y2⟩, o, ⟨w, hw, w1, w2⟩⟩ := pex e he
  have fin : ∀ r, r = ew s e → K r (zA (zI s 15 (s.1 15 + ix 1)) 34 (upd (s.2.1 34) e (s.2.1 34 e + ix 1))) := by
    intro r hr
    rw [hr]
    exact h
  have hev : ew s e = vf (s.2.1 19 e) (s.2.1 32 y) (s.2.1 32 w) := by
    simp only [ew, y2, w2, ix_nat (show y < 2147483648 by omega), ix_nat (show w < 2147483648 by omega)]
  rw [hev] at fin
  simp only [vf] at fin
  try simp (disch := omega) only [wp_M_worked, pj_M_worked_109, y2, w2, forall_eq, l0, l1, l2, l3, l4, l5, l6, l15, l16, l24, l30, l99, l100, l200, l385, lm1, ix_ne, ne_ix, ix_nat, vp_ix, ix_inj, ix_le, ix_lt, ix_add, ix_mul, ix_sub, nar0', nar1', or00, or01, or10, or11, rI, rIA, rIL, rA, rAI, rAL, rL, rLI, rLA, ru, ruL, reduceIte, Nat.reduceEqDiff, true_or, or_true, true_and, and_true, false_or, or_false, not_true_eq_false, not_false_eq_true, false_implies, true_implies, implies_true, i10, i01]
  repeat (refine ⟨by omega, ?_⟩)
  refine ⟨fun q0 => ⟨fun q1 => ⟨fun q2 => ⟨fun q3 => ⟨fun r => fin _ ?_, fun r => fin _ ?_⟩, fun q => fin _ ?_⟩, fun q => fin _ ?_⟩, fun q => fin _ ?_⟩, fun q => fin _ ?_⟩
  · rw [if_neg q0, if_neg q1, if_neg q2, if_neg q3, if_pos r]
  · rw [if_neg q0, if_neg q1, if_neg q2, if_neg q3, if_neg r]
  · rw [if_neg (by rw [q]; decide), if_neg (by rw [q]; decide), if_neg (by rw [q]; decide), if_pos q]
  · rw [if_neg (by rw [q]; decide), if_neg (by rw [q]; decide), if_pos q]
  · rw [if_neg (by rw [q]; decide), if_pos q]
  · rw [if_pos q]
theorem bt {v : Int32} {i : Nat} (hi : i < 24) : ((v >>> (ix i &&& 31)) &&& ix 1 = ix 1) ↔ hw v i = true := by
  rw [sh32 hi]
  cases hw v i
  · exact ⟨fun h => absurd h (by decide), fun h => absurd h Bool.false_ne_true⟩
  · exact ⟨fun _ => rfl, fun _ => rfl⟩
theorem Fr_P {n m : Nat} {sz : Nat → Nat} {z r : Sta} (hP : Prg n m sz z) (hr : Fr z r) : Prg n m sz r := Prg_fr hP hr (by decide) (by decide) (by decide)
theorem Fr_A {z r : Sta} (h : Fr z r) {k : Nat} (hk : k ∈ [11, 12, 13, 14, 32, 33, 34, 35]) (g : Nat → Int32) : Fr z (zA r k g) := fr_A h hk g
theorem Fr_I {z r : Sta} (h : Fr z r) {k : Nat} (hk : k ∈ [4, 5, 6, 7, 13, 14, 15]) (g : Int32) : Fr z (zI r k g) := fr_I h hk g
theorem Fr_cp {z r : Sta} (h : Fr z r) (e : Nat) : Fr z (cpF e r) := Fr_A (Fr_A (Fr_I h (by decide) _) (by decide) _) (by decide) _
theorem Fr_wk {z r : Sta} (h : Fr z r) (e : Nat) : Fr z (wkF e r) := Fr_A (Fr_I h (by decide) _) (by decide) _
theorem Ag_w {yy : Sta} {n m c p e : Nat} {sz : Nat → Nat} {f : Int32} {z s r : Sta} (hP : Prg n m sz z) (hs : Fr z s) (hr : Fr z r) (h : Ag yy m f c p s r) (he : e < m) : Ag yy m f c p (cpF e s) (zA (wkF e r) 33 (upd (r.2.1 33) e (ew r e))) := by
  refine Ag_c h he rfl rfl rfl rfl rfl rfl rfl (fr_A (fr_A (fr_I (fr_refl r) (by decide) _) (by decide) _) (by decide) _) (fun hf d hd hm => ?_)
  show upd (s.2.1 14) e (ev s e) d = upd (r.2.1 33) e (ew r e) d
  rw [ru, ru, ev_ew hP hs hr h he]
  split
  · rfl
  · exact h.2.2.1 hf d hd hm
theorem s_M_cross {yy : Sta} {n m c p : Nat} {sz : Nat → Nat} {f v : Int32} {z s r : Sta} {K : Sta → Prop} (hP : Prg n m sz z) (hs : Fr z s) (hr : Fr z r) (h : Ag yy m f c p s r) (hK : ∀ r', Fr z r' → Ag yy m f c p (alF m 0 (fun e => hw v e) s) r' → K r') : wp_M_cross v r K := by
  have hm := hP.2.1
  have loop : ∀ (k i : Nat) (s r : Sta), i + k = m → Fr z s → Fr z r → Ag yy m f c p s r → (∀ r', Fr z r' → Ag yy m f c p (alF k i (fun e => hw v e) s) r' → K r') → lp_M_cross_2 K (k + 1) v (ix i) r := by
    intro k
    induction k with
    | zero =>
      intro i s r hik hs hr h hK
      have h9 : r.1 9 = ix m := (hr.1 9 (by decide)).trans hP.2.2.2.2.2.1
      rw [lp_M_cross_2]
      try simp (disch := omega) only [h9, forall_eq, l0, l1, l2, l3, l4, l5, l6, l15, l16, l24, l30, l99, l100, l200, l385, lm1, ix_ne, ne_ix, ix_nat, vp_ix, ix_inj, ix_le, ix_lt, ix_add, ix_mul, ix_sub, nar0', nar1', or00, or01, or10, or11, rI, rIA, rIL, rA, rAI, rAL, rL, rLI, rLA, ru, ruL, reduceIte, Nat.reduceEqDiff, true_or, or_true, true_and, and_true, false_or, or_false, not_true_eq_false, not_false_eq_true, false_implies, true_implies, implies_true, i10, i01]
      exact ⟨fun _ => hK r hr h, fun h => absurd (by omega) h⟩
    | succ k ih =>
      intro i s r hik hs hr h hK
      have h9 : r.1 9 = ix m := (hr.1 9 (by decide)).trans hP.2.2.2.2.2.1
      have vi : vp_in (ix i) 24 := (vp_ix (by omega)).2 (by omega)
      rw [alF] at hK
      rw [lp_M_cross_2]
      simp only [forall_eq, l0, l1, h9, pj_M_cross_30, bt (show i < 24 by omega), ix_add, vi, true_and, ix_nat (show i < 2147483648 by omega), ix_le (show m < 2147483648 by omega) (show i < 2147483648 by omega)]
      refine ⟨fun h => absurd h (by omega), fun _ => ⟨fun q => ih (i + 1) s r (by omega) hs hr h ?_, fun q => s_M_worked (Fr_P hP hr) (by omega) (ih (i + 1) (cpF i s) _ (by omega) (Fr_cp hs i) (Fr_A (Fr_wk hr i) (by decide) _) (Ag_w hP hs hr h (by omega)) ?_)⟩⟩
      · rw [if_neg q] at hK; exact hK
      · rw [if_pos q] at hK; exact hK
  try simp (disch := omega) only [wp_M_cross, forall_eq, l0, l1, l2, l3, l4, l5, l6, l15, l16, l24, l30, l99, l100, l200, l385, lm1, ix_ne, ne_ix, ix_nat, vp_ix, ix_inj, ix_le, ix_lt, ix_add, ix_mul, ix_sub, nar0', nar1', or00, or01, or10, or11, rI, rIA, rIL, rA, rAI, rAL, rL, rLI, rLA, ru, ruL, reduceIte, Nat.reduceEqDiff, true_or, or_true, true_and, and_true, false_or, or_false, not_true_eq_false, not_false_eq_true, false_implies, true_implies, implies_true, i10, i01]
  exact ⟨m + 1, loop m 0 s r (by omega) hs hr h hK⟩
theorem s_M_newly {yy : Sta} {n m c p e : Nat} {sz : Nat → Nat} {f v : Int32} {z s r : Sta} {K : Int32 → Sta → Prop} (hP : Prg n m sz z) (hs : Fr z s) (hr : Fr z r) (h : Ag yy m f c p s r) (hf : ¬ f = ix 0) (he : e < m) (hmv : hw v e = true → hw (r.1 12) e = true) (hK : ∀ w r', Fr z r' → (hw v e = true → w = s.2.1 14 e ∧ Ag yy m f c p s r') → (¬ hw v e = true → w = ev s e ∧ Ag yy m f c p (cpF e s) r') → K w r') : wp_M_newly (ix e) v r K := by
  have hm := hP.2.1
  have ve : vp_in (ix e) 24 := (vp_ix (by omega)).2 (by omega)
  simp only [wp_M_newly, forall_eq, l0, l1, bt (show e < 24 by omega), ve, true_and, ix_nat (show e < 2147483648 by omega), pj_M_newly_49]
  refine ⟨fun q => s_M_worked (Fr_P hP hr) he ?_, fun q => hK _ r hr (fun _ => ⟨(h.2.2.1 hf e (by omega) (hmv q)).symm, h⟩) (fun g => absurd q g)⟩
  refine ⟨fun q2 => hK _ _ (Fr_A (Fr_wk hr e) (by decide) _) (fun g => absurd g q) (fun _ => ⟨(ev_ew hP hs hr h he).symm, ?_⟩), fun q2 => hK _ _ (Fr_A (Fr_wk hr e) (by decide) _) (fun g => absurd g q) (fun _ => ⟨(ev_ew hP hs hr h he).symm, Ag_w hP hs hr h he⟩)⟩
  refine Ag_c h he rfl rfl rfl rfl rfl rfl rfl (fr_A (fr_A (fr_I (fr_refl r) (by decide) _) (by decide) _) (by decide) _) (fun hf d hd hmd => ?_)
  have hde : ¬ d = e := by
    intro q3; subst q3; exact q2 hmd
  show upd (s.2.1 14) e (ev s e) d = upd (r.2.1 33) e (r.2.1 33 e) d
  rw [ru, ru, if_neg hde, if_neg hde]
  exact h.2.2.1 hf d hd hmd
