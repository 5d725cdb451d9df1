def ix (n : Nat) : Int32 := Int32.ofNat n
theorem ix_toInt {a : Nat} (ha : a < 2147483648) : (ix a).toInt = a := Int32.toInt_ofNat_of_lt (by omega)
theorem ix_inj {a b : Nat} (ha : a < 2147483648) (hb : b < 2147483648) : ix a = ix b ↔ a = b := by
  constructor
  · intro h
    have := congrArg Int32.toInt h
    rw [ix_toInt ha, ix_toInt hb] at this
    omega
  · intro h; rw [h]
theorem ix_nat {a : Nat} (ha : a < 2147483648) : (ix a).toNatClampNeg = a := by
  rw [Int32.toNatClampNeg, ix_toInt ha]; rfl
theorem ix_le {a b : Nat} (ha : a < 2147483648) (hb : b < 2147483648) : ix a ≤ ix b ↔ a ≤ b := by
  rw [Int32.le_iff_toInt_le, ix_toInt ha, ix_toInt hb]; omega
theorem ix_lt {a b : Nat} (ha : a < 2147483648) (hb : b < 2147483648) : ix a < ix b ↔ a < b := by
  rw [Int32.lt_iff_toInt_lt, ix_toInt ha, ix_toInt hb]; omega
theorem ix_add (a b : Nat) : ix a + ix b = ix (a + b) := by
  simp only [ix, Int32.ofNat_add]
theorem ix_mul (a b : Nat) : ix a * ix b = ix (a * b) := by
  simp only [ix, Int32.ofNat_mul]
theorem ix_sub {a b : Nat} (h : b ≤ a) : ix a - ix b = ix (a - b) := (Int32.ofNat_sub a b h).symm
theorem ix_nlt0 {a : Nat} (ha : a < 2147483648) : ¬ ix a < ix 0 := by
  rw [ix_lt ha (by omega)]; omega
theorem vp_ix {a n : Nat} (ha : a < 2147483648) : vp_in (ix a) n ↔ a < n := by
  simp only [vp_in, ix_nat ha]
  have : ¬ ix a < 0 := ix_nlt0 ha
  simp only [this, false_or]; omega
def mi : Int32 := -1
theorem lm1 : -ix 1 = mi := rfl
theorem lm1' : (-1 : Int32) = mi := rfl
theorem m1_toInt : mi.toInt = -1 := by decide
theorem ix_ne {a : Nat} (ha : a < 2147483648) : ¬ ix a = mi := by
  intro h
  have := congrArg Int32.toInt h
  rw [ix_toInt ha, m1_toInt] at this; omega
theorem ne_ix {a : Nat} (ha : a < 2147483648) : ¬ mi = ix a := fun h => ix_ne ha h.symm
theorem ix_ex {x : Int32} (h : ¬ x < ix 0) : ∃ n, n < 2147483648 ∧ x = ix n := by
  rw [Int32.lt_iff_toInt_lt, ix_toInt (by omega)] at h
  refine ⟨x.toInt.toNat, ?_, ?_⟩
  · have := Int32.toInt_lt x; omega
  · apply Int32.toInt_inj.1
    rw [ix_toInt (by have := Int32.toInt_lt x; omega)]; omega
theorem l0 : (0 : Int32) = ix 0 := rfl
theorem l1 : (1 : Int32) = ix 1 := rfl
theorem l2 : (2 : Int32) = ix 2 := rfl
theorem l3 : (3 : Int32) = ix 3 := rfl
theorem l4 : (4 : Int32) = ix 4 := rfl
theorem l5 : (5 : Int32) = ix 5 := rfl
theorem l6 : (6 : Int32) = ix 6 := rfl
theorem l15 : (15 : Int32) = ix 15 := rfl
theorem l16 : (16 : Int32) = ix 16 := rfl
theorem l24 : (24 : Int32) = ix 24 := rfl
theorem l30 : (30 : Int32) = ix 30 := rfl
theorem l99 : (99 : Int32) = ix 99 := rfl
theorem l100 : (100 : Int32) = ix 100 := rfl
theorem l200 : (200 : Int32) = ix 200 := rfl
theorem l385 : (385 : Int32) = ix 385 := rfl
theorem nar0 : vp_nar .boolean (0 : Int32) = ix 0 := by decide
theorem nar1 : vp_nar .boolean (1 : Int32) = ix 1 := by decide
theorem nar0' : vp_nar .boolean (ix 0) = ix 0 := by decide
theorem nar1' : vp_nar .boolean (ix 1) = ix 1 := by decide
theorem or00 : ix 0 ||| ix 0 = ix 0 := by decide
theorem or01 : ix 0 ||| ix 1 = ix 1 := by decide
theorem or10 : ix 1 ||| ix 0 = ix 1 := by decide
theorem or11 : ix 1 ||| ix 1 = ix 1 := by decide
theorem rI {z : Sta} {k : Nat} {v : Int32} {j : Nat} : (zI z k v).1 j = if j = k then v else z.1 j := rfl
theorem rIA {z : Sta} {k : Nat} {v : Int32} : (zI z k v).2.1 = z.2.1 := rfl
theorem rIL {z : Sta} {k : Nat} {v : Int32} : (zI z k v).2.2 = z.2.2 := rfl
theorem rA {z : Sta} {k : Nat} {f : Nat → Int32} {j : Nat} : (zA z k f).2.1 j = if j = k then f else z.2.1 j := rfl
theorem rAI {z : Sta} {k : Nat} {f : Nat → Int32} : (zA z k f).1 = z.1 := rfl
theorem rAL {z : Sta} {k : Nat} {f : Nat → Int32} : (zA z k f).2.2 = z.2.2 := rfl
theorem rL {z : Sta} {k : Nat} {f : Nat → Int64} {j : Nat} : (zL z k f).2.2 j = if j = k then f else z.2.2 j := rfl
theorem rLI {z : Sta} {k : Nat} {f : Nat → Int64} : (zL z k f).1 = z.1 := rfl
theorem rLA {z : Sta} {k : Nat} {f : Nat → Int64} : (zL z k f).2.1 = z.2.1 := rfl
theorem ru {f : Nat → Int32} {k : Nat} {x : Int32} {j : Nat} : upd f k x j = if j = k then x else f j := rfl
theorem ruL {f : Nat → Int64} {k : Nat} {x : Int64} {j : Nat} : vp_updL f k x j = if j = k then x else f j := rfl
def fr (I A L : List Nat) (z y : Sta) : Prop := (∀ k, k ∉ I → y.1 k = z.1 k) ∧ (∀ k, k ∉ A → y.2.1 k = z.2.1 k) ∧ (∀ k, k ∉ L → y.2.2 k = z.2.2 k)
theorem fr_refl {I A L : List Nat} (z : Sta) : fr I A L z z := ⟨fun _ _ => rfl, fun _ _ => rfl, fun _ _ => rfl⟩
theorem fr_tr {I A L : List Nat} {z y x : Sta} (h : fr I A L z y) (g : fr I A L y x) : fr I A L z x :=
  ⟨fun k hk => (g.1 k hk).trans (h.1 k hk), fun k hk => (g.2.1 k hk).trans (h.2.1 k hk), fun k hk => (g.2.2 k hk).trans (h.2.2 k hk)⟩
theorem fr_I {I A L : List Nat} {z y : Sta} (h : fr I A L z y) {k : Nat} (hk : k ∈ I) (v : Int32) : fr I A L z (zI y k v) := by
  refine fr_tr h ⟨fun j hj => ?_, fun _ _ => rfl, fun _ _ => rfl⟩
  exact if_neg (fun e => hj (by rw [e]; exact hk))
theorem fr_A {I A L : List Nat} {z y : Sta} (h : fr I A L z y) {k : Nat} (hk : k ∈ A) (f : Nat → Int32) : fr I A L z (zA y k f) := by
  refine fr_tr h ⟨fun _ _ => rfl, fun j hj => ?_, fun _ _ => rfl⟩
  exact if_neg (fun e => hj (by rw [e]; exact hk))
theorem fr_L {I A L : List Nat} {z y : Sta} (h : fr I A L z y) {k : Nat} (hk : k ∈ L) (f : Nat → Int64) : fr I A L z (zL y k f) := by
  refine fr_tr h ⟨fun _ _ => rfl, fun _ _ => rfl, fun j hj => ?_⟩
  exact if_neg (fun e => hj (by rw [e]; exact hk))
theorem fr_mono {I A L I' A' L' : List Nat} {z y : Sta} (h : fr I A L z y) (hI : ∀ k ∈ I, k ∈ I') (hA : ∀ k ∈ A, k ∈ A') (hL : ∀ k ∈ L, k ∈ L') : fr I' A' L' z y :=
  ⟨fun k hk => h.1 k (fun e => hk (hI k e)), fun k hk => h.2.1 k (fun e => hk (hA k e)), fun k hk => h.2.2 k (fun e => hk (hL k e))⟩
def isb (v : Int32) (p : Prop) : Prop := (v = ix 1 ∧ p) ∨ (v = ix 0 ∧ ¬ p)
theorem i10 : ¬ ix 1 = ix 0 := by decide
theorem i01 : ¬ ix 0 = ix 1 := by decide
theorem isb_t {v : Int32} {p : Prop} (h : isb v p) (hp : p) : v = ix 1 := by
  rcases h with ⟨h, _⟩ | ⟨_, h⟩
  · exact h
  · exact absurd hp h
theorem isb_f {v : Int32} {p : Prop} (h : isb v p) (hp : ¬ p) : v = ix 0 := by
  rcases h with ⟨_, h⟩ | ⟨h, _⟩
  · exact absurd h hp
  · exact h
theorem isb_z {v : Int32} {p : Prop} (h : isb v p) : v = ix 0 ↔ ¬ p := by
  rcases h with ⟨h, hp⟩ | ⟨h, hp⟩
  · rw [h]; exact ⟨fun e => absurd e i10, fun e => absurd hp e⟩
  · exact ⟨fun _ => hp, fun _ => h⟩
theorem isb_b {v : Int32} {p : Prop} (h : isb v p) : v = ix 0 ∨ v = ix 1 := by
  rcases h with ⟨h, _⟩ | ⟨h, _⟩
  · exact Or.inr h
  · exact Or.inl h
theorem isb_e {v w : Int32} {p q : Prop} (h : isb v p) (g : isb w q) (e : p ↔ q) : v = w := by
  rcases h with ⟨h, hp⟩ | ⟨h, hp⟩
  · rw [h, isb_t g (e.1 hp)]
  · rw [h, isb_f g (fun x => hp (e.2 x))]
theorem isb_c {v : Int32} {p q : Prop} (h : isb v p) (e : p ↔ q) : isb v q := by
  rcases h with ⟨h, hp⟩ | ⟨h, hp⟩
  · exact Or.inl ⟨h, e.1 hp⟩
  · exact Or.inr ⟨h, fun x => hp (e.2 x)⟩
def cnt (f : Nat → Bool) : Nat → Nat
  | 0 => 0
  | n + 1 => cnt f n + (if f n then 1 else 0)
theorem cnt_le (f : Nat → Bool) (n : Nat) : cnt f n ≤ n := by
  induction n with
  | zero => exact Nat.le_refl _
  | succ n ih => simp only [cnt]; split <;> omega
theorem cnt_mono {f g : Nat → Bool} {n : Nat} (h : ∀ i, i < n → f i = true → g i = true) : cnt f n ≤ cnt g n := by
  induction n with
  | zero => exact Nat.le_refl _
  | succ n ih =>
    have ih := ih (fun i hi => h i (by omega))
    have hn := h n (by omega)
    simp only [cnt]
    cases hf : f n <;> cases hg : g n <;> simp_all <;> omega
theorem cnt_lt {f g : Nat → Bool} {n : Nat} (h : ∀ i, i < n → f i = true → g i = true) {k : Nat} (hk : k < n) (hf : f k = false) (hg : g k = true) : cnt f n < cnt g n := by
  induction n with
  | zero => omega
  | succ n ih =>
    have hn := h n (by omega)
    have hm := cnt_mono (f := f) (g := g) (n := n) (fun i hi => h i (by omega))
    simp only [cnt]
    by_cases e : k = n
    · subst e; rw [hf, hg]; simp; omega
    · have ih := ih (fun i hi => h i (by omega)) (by omega)
      cases hf : f n <;> cases hg : g n <;> simp_all <;> omega
def hb (v : Int64) (e : Nat) : Bool := v.toBitVec.getLsbD e
def hw (v : Int32) (e : Nat) : Bool := v.toBitVec.getLsbD e
theorem hb_and (a b : Int64) (e : Nat) : hb (a &&& b) e = (hb a e && hb b e) := by
  simp only [hb, Int64.toBitVec_and, BitVec.getLsbD_and]
theorem hb_or (a b : Int64) (e : Nat) : hb (a ||| b) e = (hb a e || hb b e) := by
  simp only [hb, Int64.toBitVec_or, BitVec.getLsbD_or]
theorem hb_ge (a : Int64) {e : Nat} (h : 64 ≤ e) : hb a e = false := BitVec.getLsbD_of_ge _ _ h
theorem hb_m1 (e : Nat) : hb (-1) e = decide (e < 64) := by
  have : (-1 : Int64).toBitVec = BitVec.allOnes 64 := by decide
  simp only [hb, this, BitVec.getLsbD_allOnes]
theorem hb_not (a : Int64) (e : Nat) : hb (a ^^^ (-1)) e = (decide (e < 64) && !hb a e) := by
  have h1 := hb_m1 e
  simp only [hb] at h1
  simp only [hb, Int64.toBitVec_xor, BitVec.getLsbD_xor, h1]
  by_cases h : e < 64
  · simp [h]
  · simp [h, BitVec.getLsbD_of_ge _ _ (Nat.le_of_not_lt h)]
theorem hb_andn (a b : Int64) (e : Nat) : hb (a &&& (b ^^^ (-1))) e = (hb a e && !hb b e) := by
  rw [hb_and, hb_not]
  by_cases h : e < 64
  · simp [h]
  · simp [hb_ge a (Nat.le_of_not_lt h)]
theorem hb_0 (e : Nat) : hb 0 e = false := by
  simp [hb]
theorem hb_ext {a b : Int64} (h : ∀ e, e < 64 → hb a e = hb b e) : a = b := by
  apply Int64.toBitVec_inj.1
  exact BitVec.eq_of_getLsbD_eq h
theorem hw_ext {a b : Int32} (h : ∀ e, e < 32 → hw a e = hw b e) : a = b := by
  apply Int32.toBitVec_inj.1
  exact BitVec.eq_of_getLsbD_eq h
theorem hb_one {i : Nat} (hi : i < 24) (e : Nat) : hb ((1 : Int64) <<< ((ix i).toInt64 &&& 63)) e = decide (e = i) := by
  rcases Nat.lt_or_ge e 64 with he | he
  · have : ∀ i, i < 24 → ∀ e, e < 64 → hb ((1 : Int64) <<< ((ix i).toInt64 &&& 63)) e = decide (e = i) := by decide +kernel
    exact this i hi e he
  · rw [hb_ge _ he, decide_eq_false]; omega
theorem hb_start {m : Nat} (hm : m ≤ 24) (e : Nat) : hb ((1 : Int64) <<< ((ix m).toInt64 &&& 63) - 1) e = decide (e < m) := by
  rcases Nat.lt_or_ge e 64 with he | he
  · have : ∀ m, m < 25 → ∀ e, e < 64 → hb ((1 : Int64) <<< ((ix m).toInt64 &&& 63) - 1) e = decide (e < m) := by decide +kernel
    exact this m (by omega) e he
  · rw [hb_ge _ he, decide_eq_false]; omega
theorem hw_and (a b : Int32) (e : Nat) : hw (a &&& b) e = (hw a e && hw b e) := by
  simp only [hw, Int32.toBitVec_and, BitVec.getLsbD_and]
theorem hw_or (a b : Int32) (e : Nat) : hw (a ||| b) e = (hw a e || hw b e) := by
  simp only [hw, Int32.toBitVec_or, BitVec.getLsbD_or]
theorem hw_0 (e : Nat) : hw 0 e = false := by
  simp [hw]
theorem hw_ge (a : Int32) {e : Nat} (h : 32 ≤ e) : hw a e = false := BitVec.getLsbD_of_ge _ _ h
theorem hw_one {i : Nat} (hi : i < 24) (e : Nat) : hw ((ix 1) <<< (ix i &&& 31)) e = decide (e = i) := by
  rcases Nat.lt_or_ge e 32 with he | he
  · have : ∀ i, i < 24 → ∀ e, e < 32 → hw ((ix 1) <<< (ix i &&& 31)) e = decide (e = i) := by decide +kernel
    exact this i hi e he
  · rw [hw_ge _ he, decide_eq_false]; omega
theorem hw_andn (a b : Int32) (e : Nat) : hw (a &&& (b ^^^ mi)) e = (hw a e && !hw b e) := by
  have : mi.toBitVec = BitVec.allOnes 32 := by decide
  simp only [hw, Int32.toBitVec_and, Int32.toBitVec_xor, BitVec.getLsbD_and, BitVec.getLsbD_xor, this, BitVec.getLsbD_allOnes]
  by_cases h : e < 32
  · simp [h]
  · simp [BitVec.getLsbD_of_ge _ _ (Nat.le_of_not_lt h)]
theorem sh32 {i : Nat} (hi : i < 24) (v : Int32) : (v >>> (ix i &&& 31)) &&& ix 1 = if hw v i then ix 1 else ix 0 := by
  have h1 : (ix i &&& 31).toBitVec.smod 32 = BitVec.ofNat 32 i := by
    have : ∀ i, i < 24 → (ix i &&& 31).toBitVec.smod 32 = BitVec.ofNat 32 i := by decide +kernel
    exact this i hi
  apply hw_ext
  intro e he
  have h2 : ∀ e, e < 32 → hw (ix 1) e = decide (e = 0) := by decide +kernel
  have h3 : ∀ e, e < 32 → hw (ix 0) e = false := by decide +kernel
  rw [hw_and, h2 e he]
  by_cases h0 : e = 0
  · subst h0
    have : hw (v >>> (ix i &&& 31)) 0 = hw v i := by
      simp only [hw, Int32.toBitVec_shiftRight]
      rw [h1]
      simp only [BitVec.sshiftRight', BitVec.getLsbD_sshiftRight, BitVec.toNat_ofNat]
      rw [Nat.mod_eq_of_lt (by omega)]
      simp [show i < 32 by omega]
    rw [this]
    cases hw v i
    · simp [h3]
    · simp [h2]
  · cases hw v i
    · simp [h0, h3 e he]
    · simp [h0, h2 e he]
theorem sh64 {i : Nat} (hi : i < 24) (v : Int64) : (v >>> ((ix i).toInt64 &&& 63)) &&& 1 = if hb v i then 1 else 0 := by
  have h1 : ((ix i).toInt64 &&& 63).toBitVec.smod 64 = BitVec.ofNat 64 i := by
    have : ∀ i, i < 24 → ((ix i).toInt64 &&& 63).toBitVec.smod 64 = BitVec.ofNat 64 i := by decide +kernel
    exact this i hi
  apply hb_ext
  intro e he
  have h2 : ∀ e, e < 64 → hb 1 e = decide (e = 0) := by decide +kernel
  rw [hb_and, h2 e he]
  by_cases h0 : e = 0
  · subst h0
    have : hb (v >>> ((ix i).toInt64 &&& 63)) 0 = hb v i := by
      simp only [hb, Int64.toBitVec_shiftRight]
      rw [h1]
      simp only [BitVec.sshiftRight', BitVec.getLsbD_sshiftRight, BitVec.toNat_ofNat]
      rw [Nat.mod_eq_of_lt (by omega)]
      simp [show i < 64 by omega]
    rw [this]
    cases hb v i
    · simp [hb_0]
    · simp [h2]
  · cases hb v i
    · simp [h0, hb_0]
    · simp [h0, h2 e he]
theorem wide {v : Int64} {w : Int32} (h : ∀ e, e < 24 → hb v e = hw w e) (h1 : ∀ e, 24 ≤ e → hb v e = false) (h2 : ∀ e, 24 ≤ e → hw w e = false) : v = w.toInt64 := by
  apply hb_ext
  intro e he
  have : hb w.toInt64 e = (if e < 32 then hw w e else hw w 31) := by
    simp only [hb, hw, Int32.toBitVec_toInt64, BitVec.getLsbD_signExtend, BitVec.msb_eq_getLsbD_last]
    simp [he]
  rw [this]
  rcases Nat.lt_or_ge e 24 with e1 | e1
  · rw [if_pos (by omega), h e e1]
  · rw [h1 e e1, h2 31 (by omega), h2 e e1]; simp
theorem cmp0 {a b : Int64} : lg_cmp a b = ix 0 ↔ a = b := by
  simp only [lg_cmp]
  constructor
  · intro h
    split at h
    · exact absurd h (by decide)
    · split at h
      · assumption
      · exact absurd h (by decide)
  · intro h; subst h
    rw [if_neg (Int64.lt_irrefl), if_pos rfl]; rfl
def lk (cp gv : Nat → Prop) : Nat → Prop × Prop × Prop
  | 0 => (False, False, False)
  | k + 1 => ((lk cp gv k).1 ∨ gv k, (lk cp gv k).2.1 ∨ (cp k ∧ ¬ (lk cp gv k).1), ((lk cp gv k).2.2 ∨ cp k) ∧ ¬ gv k)
theorem lk_congr {cp gv cp' gv' : Nat → Prop} {n : Nat} (h : ∀ k, k < n → (cp k ↔ cp' k) ∧ (gv k ↔ gv' k)) : lk cp gv n = lk cp' gv' n := by
  induction n with
  | zero => rfl
  | succ n ih =>
    have ih := ih (fun k hk => h k (by omega))
    simp only [lk, ih, propext (h n (by omega)).1, propext (h n (by omega)).2]
