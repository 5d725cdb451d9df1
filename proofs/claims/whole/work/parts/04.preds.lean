def pj_P_changeEnd_40 (K : Int32 → Sta → Prop) (y0 : Int32) (z : Sta) : Prop :=
  K y0 z
def wp_P_changeEnd (x1 : Int32) (x2 : Int32) (x3 : Int32) (x4 : Int32) (z : Sta) (K : Int32 → Sta → Prop) : Prop :=
  vp_in x1 16 ∧ ∀ z1 : Sta, z1 = zA z 4 (upd (z.2.1 4) x1.toNatClampNeg x2) → vp_in x1 16 ∧ ∀ z2 : Sta, z2 = zA z1 5 (upd (z1.2.1 5) x1.toNatClampNeg x3) → vp_in x1 16 ∧ ∀ z3 : Sta, z3 = zA z2 6 (upd (z2.2.1 6) x1.toNatClampNeg x4) → ((¬ x3 = (-1 : Int32) → ((¬ x3 = x4 → pj_P_changeEnd_40 K 2 z3) ∧ (x3 = x4 → pj_P_changeEnd_40 K 1 z3))) ∧ (x3 = (-1 : Int32) → K 0 z3))
def wp_P_addBlock (z : Sta) (K : Int32 → Sta → Prop) : Prop :=
  ∀ v1 : Int32, v1 = z.1 2 → ∀ v2 : Int32, v2 = z.1 2 → ∀ v3 : Int32, v3 = v2 + 1 → ∀ z4 : Sta, z4 = zI z 2 v3 → wp_P_changeEnd v1 0 (-1) (-1) z4 (fun rz5 z5 => K v1 z5)
def pj_C_isVariable_15 (K : Int32 → Sta → Prop) (y0 : Int32) (z : Sta) : Prop :=
  (y0 = 0 ∨ y0 = 1) ∧ K y0 z
def pj_C_isVariable_14 (K : Int32 → Sta → Prop) (z : Sta) : Prop :=
  pj_C_isVariable_15 K 0 z
def wp_C_isVariable (x0 : Int32) (z : Sta) (K : Int32 → Sta → Prop) : Prop :=
  ((x0 < 0 → pj_C_isVariable_14 K z) ∧ (¬ x0 < 0 → (((6 : Int32) ≤ x0 → pj_C_isVariable_14 K z) ∧ (¬ (6 : Int32) ≤ x0 → pj_C_isVariable_15 K 1 z))))
def pj_C_isStatement_94 (K : Int32 → Sta → Prop) (y0 : Int32) (z : Sta) : Prop :=
  (y0 = 0 ∨ y0 = 1) ∧ K y0 z
def pj_C_isStatement_93 (K : Int32 → Sta → Prop) (z : Sta) : Prop :=
  pj_C_isStatement_94 K 0 z
def pj_C_isStatement_64 (K : Int32 → Sta → Prop) (y0 : Int32) (z : Sta) : Prop :=
  (y0 = 0 ∨ y0 = 1) ∧ K y0 z
def pj_C_isStatement_63 (K : Int32 → Sta → Prop) (z : Sta) : Prop :=
  pj_C_isStatement_64 K 0 z
def wp_C_isStatement (x0 : Int32) (x1 : Int32) (x2 : Int32) (x3 : Int32) (x4 : Int32) (z : Sta) (K : Int32 → Sta → Prop) : Prop :=
  wp_C_isVariable x1 z (fun rz1 z1 => ((¬ rz1 = 0 → ((x0 = 0 → wp_C_isVariable x2 z1 (fun rz2 z2 => (rz2 = 0 ∨ rz2 = 1) ∧ K rz2 z2)) ∧ (x0 = 1 → ((x2 < (-32768 : Int32) → pj_C_isStatement_63 K z1) ∧ (¬ x2 < (-32768 : Int32) → (((32767 : Int32) < x2 → pj_C_isStatement_63 K z1) ∧ (¬ (32767 : Int32) < x2 → pj_C_isStatement_64 K 1 z1))))) ∧ (x0 = 2 → wp_C_isVariable x2 z1 (fun rz3 z3 => ((rz3 = 0 → pj_C_isStatement_93 K z3) ∧ (¬ rz3 = 0 → ((x3 < 0 → pj_C_isStatement_93 K z3) ∧ (¬ x3 < 0 → (((5 : Int32) ≤ x3 → pj_C_isStatement_93 K z3) ∧ (¬ (5 : Int32) ≤ x3 → wp_C_isVariable x4 z3 (fun rz4 z4 => ((rz4 = 0 → pj_C_isStatement_93 K z4) ∧ (¬ rz4 = 0 → pj_C_isStatement_94 K 1 z4))))))))))) ∧ (x0 = 3 → ((1 : Int32) = 0 ∨ (1 : Int32) = 1) ∧ K 1 z1) ∧ (¬ x0 = 0 ∧ ¬ x0 = 1 ∧ ¬ x0 = 2 ∧ ¬ x0 = 3 → ((0 : Int32) = 0 ∨ (0 : Int32) = 1) ∧ K 0 z1))) ∧ (rz1 = 0 → ((0 : Int32) = 0 ∨ (0 : Int32) = 1) ∧ K 0 z1)))
def pj_P_takesStatement_27 (K : Int32 → Sta → Prop) (y0 : Int32) (z : Sta) : Prop :=
  (y0 = 0 ∨ y0 = 1) ∧ K y0 z
def pj_P_takesStatement_26 (K : Int32 → Sta → Prop) (z : Sta) : Prop :=
  pj_P_takesStatement_27 K 0 z
def wp_P_takesStatement (z : Sta) (K : Int32 → Sta → Prop) : Prop :=
  ∀ v1 : Int32, v1 = z.1 2 → ((v1 ≤ 0 → pj_P_takesStatement_26 K z) ∧ (¬ v1 ≤ 0 → ∀ v2 : Int32, v2 = z.1 2 → ∀ v3 : Int32, v3 = v2 - 1 → vp_in v3 16 ∧ ∀ v4 : Int32, v4 = z.2.1 0 v3.toNatClampNeg → (((5 : Int32) ≤ v4 → pj_P_takesStatement_26 K z) ∧ (¬ (5 : Int32) ≤ v4 → pj_P_takesStatement_27 K 1 z))))
def pj_P_findExpression_48 (K : Int32 → Sta → Prop) (R3 : Int32 → Int32 → Int32 → Int32 → Sta → Prop) (x1 : Int32) (x2 : Int32) (x3 : Int32) (x4 : Int32) (z : Sta) : Prop :=
  ∀ v5 : Int32, v5 = x4 + 1 → R3 x1 x2 x3 v5 z
def lp_P_findExpression_3 (K : Int32 → Sta → Prop) : Nat → Int32 → Int32 → Int32 → Int32 → Sta → Prop
  | 0, _, _, _, _, _ => False
  | n + 1, x1, x2, x3, x4, z => ∀ v1 : Int32, v1 = z.1 3 → ((v1 ≤ x4 → K (-1) z) ∧ (¬ v1 ≤ x4 → vp_in x4 24 ∧ ∀ v2 : Int32, v2 = z.2.1 7 x4.toNatClampNeg → ((¬ v2 = x1 → pj_P_findExpression_48 K (fun x1 x2 x3 x4 z => lp_P_findExpression_3 K n x1 x2 x3 x4 z) x1 x2 x3 x4 z) ∧ (v2 = x1 → vp_in x4 24 ∧ ∀ v3 : Int32, v3 = z.2.1 8 x4.toNatClampNeg → ((¬ v3 = x2 → pj_P_findExpression_48 K (fun x1 x2 x3 x4 z => lp_P_findExpression_3 K n x1 x2 x3 x4 z) x1 x2 x3 x4 z) ∧ (v3 = x2 → vp_in x4 24 ∧ ∀ v4 : Int32, v4 = z.2.1 9 x4.toNatClampNeg → ((¬ v4 = x3 → pj_P_findExpression_48 K (fun x1 x2 x3 x4 z => lp_P_findExpression_3 K n x1 x2 x3 x4 z) x1 x2 x3 x4 z) ∧ (v4 = x3 → K x4 z))))))))
def wp_P_findExpression (x1 : Int32) (x2 : Int32) (x3 : Int32) (z : Sta) (K : Int32 → Sta → Prop) : Prop :=
  ∃ n3 : Nat, lp_P_findExpression_3 K n3 x1 x2 x3 0 z
def pj_P_findOrAddExpression_24 (K : Int32 → Sta → Prop) (x4 : Int32) (z : Sta) : Prop :=
  K x4 z
def wp_P_findOrAddExpression (x1 : Int32) (x2 : Int32) (x3 : Int32) (z : Sta) (K : Int32 → Sta → Prop) : Prop :=
  wp_P_findExpression x1 x2 x3 z (fun rz1 z1 => ((¬ rz1 = (-1 : Int32) → pj_P_findOrAddExpression_24 K rz1 z1) ∧ (rz1 = (-1 : Int32) → ∀ v2 : Int32, v2 = z1.1 3 → ((v2 < (24 : Int32) → ∀ v3 : Int32, v3 = z1.1 3 → ∀ v4 : Int32, v4 = z1.1 3 → ∀ v5 : Int32, v5 = v4 + 1 → ∀ z6 : Sta, z6 = zI z1 3 v5 → vp_in v3 24 ∧ ∀ z7 : Sta, z7 = zA z6 7 (upd (z6.2.1 7) v3.toNatClampNeg x1) → vp_in v3 24 ∧ ∀ z8 : Sta, z8 = zA z7 8 (upd (z7.2.1 8) v3.toNatClampNeg x2) → vp_in v3 24 ∧ ∀ z9 : Sta, z9 = zA z8 9 (upd (z8.2.1 9) v3.toNatClampNeg x3) → vp_in x1 6 ∧ ∀ v10 : Int64, v10 = z9.2.2 0 x1.toNatClampNeg → ∀ v11 : Int64, v11 = (1 : Int64) <<< (v3.toInt64 &&& 63) → ∀ v12 : Int64, v12 = v10 ||| v11 → vp_in x1 6 ∧ ∀ z13 : Sta, z13 = zL z9 0 (vp_updL (z9.2.2 0) x1.toNatClampNeg v12) → vp_in x3 6 ∧ ∀ v14 : Int64, v14 = z13.2.2 0 x3.toNatClampNeg → ∀ v15 : Int64, v15 = (1 : Int64) <<< (v3.toInt64 &&& 63) → ∀ v16 : Int64, v16 = v14 ||| v15 → vp_in x3 6 ∧ ∀ z17 : Sta, z17 = zL z13 0 (vp_updL (z13.2.2 0) x3.toNatClampNeg v16) → K v3 z17) ∧ (¬ v2 < (24 : Int32) → pj_P_findOrAddExpression_24 K rz1 z1)))))
def pj_P_hasBlock_17 (K : Int32 → Sta → Prop) (y0 : Int32) (z : Sta) : Prop :=
  (y0 = 0 ∨ y0 = 1) ∧ K y0 z
def pj_P_hasBlock_16 (K : Int32 → Sta → Prop) (z : Sta) : Prop :=
  pj_P_hasBlock_17 K 0 z
def wp_P_hasBlock (x1 : Int32) (z : Sta) (K : Int32 → Sta → Prop) : Prop :=
  ((x1 < 0 → pj_P_hasBlock_16 K z) ∧ (¬ x1 < 0 → ∀ v1 : Int32, v1 = z.1 2 → ((v1 ≤ x1 → pj_P_hasBlock_16 K z) ∧ (¬ v1 ≤ x1 → pj_P_hasBlock_17 K 1 z))))
def pj_C_mayBeBlock_15 (K : Int32 → Sta → Prop) (y0 : Int32) (z : Sta) : Prop :=
  (y0 = 0 ∨ y0 = 1) ∧ K y0 z
def pj_C_mayBeBlock_14 (K : Int32 → Sta → Prop) (z : Sta) : Prop :=
  pj_C_mayBeBlock_15 K 0 z
def wp_C_mayBeBlock (x0 : Int32) (z : Sta) (K : Int32 → Sta → Prop) : Prop :=
  ((x0 < 0 → pj_C_mayBeBlock_14 K z) ∧ (¬ x0 < 0 → (((16 : Int32) ≤ x0 → pj_C_mayBeBlock_14 K z) ∧ (¬ (16 : Int32) ≤ x0 → pj_C_mayBeBlock_15 K 1 z))))
def pj_C_isEnd_61 (K : Int32 → Sta → Prop) (y0 : Int32) (z : Sta) : Prop :=
  (y0 = 0 ∨ y0 = 1) ∧ K y0 z
def pj_C_isEnd_60 (K : Int32 → Sta → Prop) (z : Sta) : Prop :=
  pj_C_isEnd_61 K 0 z
def wp_C_isEnd (x0 : Int32) (x1 : Int32) (x2 : Int32) (x3 : Int32) (z : Sta) (K : Int32 → Sta → Prop) : Prop :=
  ((x0 = 0 → ((1 : Int32) = 0 ∨ (1 : Int32) = 1) ∧ K 1 z) ∧ (x0 = 1 → wp_C_mayBeBlock x2 z (fun rz1 z1 => (rz1 = 0 ∨ rz1 = 1) ∧ K rz1 z1)) ∧ (x0 = 2 → wp_C_isVariable x1 z (fun rz2 z2 => ((rz2 = 0 → pj_C_isEnd_60 K z2) ∧ (¬ rz2 = 0 → wp_C_mayBeBlock x2 z2 (fun rz3 z3 => ((rz3 = 0 → pj_C_isEnd_60 K z3) ∧ (¬ rz3 = 0 → wp_C_mayBeBlock x3 z3 (fun rz4 z4 => ((rz4 = 0 → pj_C_isEnd_60 K z4) ∧ (¬ rz4 = 0 → pj_C_isEnd_61 K 1 z4)))))))))) ∧ (¬ x0 = 0 ∧ ¬ x0 = 1 ∧ ¬ x0 = 2 → ((0 : Int32) = 0 ∨ (0 : Int32) = 1) ∧ K 0 z))
def pj_P_isWhole_36 (K : Int32 → Sta → Prop) (z : Sta) : Prop :=
  ((0 : Int32) = 0 ∨ (0 : Int32) = 1) ∧ K 0 z
def lp_P_isWhole_2 (K : Int32 → Sta → Prop) : Nat → Int32 → Sta → Prop
  | 0, _, _ => False
  | n + 1, x1, z => ∀ v1 : Int32, v1 = z.1 2 → ((v1 ≤ x1 → ((1 : Int32) = 0 ∨ (1 : Int32) = 1) ∧ K 1 z) ∧ (¬ v1 ≤ x1 → vp_in x1 16 ∧ ∀ v2 : Int32, v2 = z.2.1 5 x1.toNatClampNeg → ∀ v3 : Int32, v3 = z.1 2 → ((v3 ≤ v2 → pj_P_isWhole_36 K z) ∧ (¬ v3 ≤ v2 → vp_in x1 16 ∧ ∀ v4 : Int32, v4 = z.2.1 6 x1.toNatClampNeg → ∀ v5 : Int32, v5 = z.1 2 → ((v4 < v5 → ∀ v6 : Int32, v6 = x1 + 1 → lp_P_isWhole_2 K n v6 z) ∧ (¬ v4 < v5 → pj_P_isWhole_36 K z))))))
def wp_P_isWhole (z : Sta) (K : Int32 → Sta → Prop) : Prop :=
  ∃ n2 : Nat, lp_P_isWhole_2 K n2 0 z
def pj_O_reach_14 (K : Int32 → Sta → Prop) (z : Sta) : Prop :=
  ((0 : Int32) = 0 ∨ (0 : Int32) = 1) ∧ K 0 z
def wp_O_reach (x1 : Int32) (z : Sta) (K : Int32 → Sta → Prop) : Prop :=
  ((x1 = (-1 : Int32) → pj_O_reach_14 K z) ∧ (¬ x1 = (-1 : Int32) → vp_in x1 16 ∧ ∀ v1 : Int32, v1 = z.2.1 10 x1.toNatClampNeg → ((v1 = 0 → vp_in x1 16 ∧ ∀ z2 : Sta, z2 = zA z 10 (upd (z.2.1 10) x1.toNatClampNeg (vp_nar .boolean (1 : Int32))) → ((1 : Int32) = 0 ∨ (1 : Int32) = 1) ∧ K 1 z2) ∧ (¬ v1 = 0 → pj_O_reach_14 K z))))
def pj_O_findReached_111 (K : Sta → Prop) (z : Sta) : Prop :=
  K z
def pj_O_findReached_99 (K : Sta → Prop) (R47 : Int32 → Int32 → Int32 → Sta → Prop) (x1 : Int32) (x2 : Int32) (x3 : Int32) (z : Sta) : Prop :=
  ∀ v12 : Int32, v12 = x3 + 1 → R47 x1 x2 v12 z
def lp_O_findReached_47 (K : Sta → Prop) (R33 : Int32 → Int32 → Sta → Prop) : Nat → Int32 → Int32 → Int32 → Sta → Prop
  | 0, _, _, _, _ => False
  | n + 1, x1, x2, x3, z => ∀ v3 : Int32, v3 = z.1 2 → ((v3 ≤ x3 → ∀ v4 : Int32, v4 = x2 + 1 → R33 x1 v4 z) ∧ (¬ v3 ≤ x3 → vp_in x3 16 ∧ ∀ v5 : Int32, v5 = z.2.1 10 x3.toNatClampNeg → ((v5 = 0 → pj_O_findReached_99 K (fun x1 x2 x3 z => lp_O_findReached_47 K R33 n x1 x2 x3 z) x1 x2 x3 z) ∧ (¬ v5 = 0 → vp_in x3 16 ∧ ∀ v6 : Int32, v6 = z.2.1 5 x3.toNatClampNeg → wp_O_reach v6 z (fun rz7 z7 => ∀ v8 : Int32, v8 = x1 ||| rz7 → vp_in x3 16 ∧ ∀ v9 : Int32, v9 = z7.2.1 6 x3.toNatClampNeg → wp_O_reach v9 z7 (fun rz10 z10 => ∀ v11 : Int32, v11 = v8 ||| rz10 → pj_O_findReached_99 K (fun x1 x2 x3 z => lp_O_findReached_47 K R33 n x1 x2 x3 z) v11 x2 x3 z10))))))
def lp_O_findReached_33 (K : Sta → Prop) : Nat → Int32 → Int32 → Sta → Prop
  | 0, _, _, _ => False
  | n + 1, x1, x2, z => ((x1 = 0 → pj_O_findReached_111 K z) ∧ (¬ x1 = 0 → (((16 : Int32) ≤ x2 → pj_O_findReached_111 K z) ∧ (¬ (16 : Int32) ≤ x2 → ∃ n47 : Nat, lp_O_findReached_47 K (fun x1 x2 z => lp_O_findReached_33 K n x1 x2 z) n47 0 x2 0 z))))
def pj_O_findReached_22 (K : Sta → Prop) (R2 : Int32 → Sta → Prop) (x1 : Int32) (y0 : Int32) (y1 : Int32) (z : Sta) : Prop :=
  vp_in y1 16 ∧ ∀ z1 : Sta, z1 = zA z 10 (upd (z.2.1 10) y1.toNatClampNeg (vp_nar .boolean y0)) → ∀ v2 : Int32, v2 = x1 + 1 → R2 v2 z1
def lp_O_findReached_2 (K : Sta → Prop) : Nat → Int32 → Sta → Prop
  | 0, _, _ => False
  | n + 1, x1, z => (((16 : Int32) ≤ x1 → ∃ n33 : Nat, lp_O_findReached_33 K n33 1 0 z) ∧ (¬ (16 : Int32) ≤ x1 → ((¬ x1 = 0 → pj_O_findReached_22 K (fun x1 z => lp_O_findReached_2 K n x1 z) x1 0 x1 z) ∧ (x1 = 0 → pj_O_findReached_22 K (fun x1 z => lp_O_findReached_2 K n x1 z) x1 1 x1 z))))
def wp_O_findReached (z : Sta) (K : Sta → Prop) : Prop :=
  ∃ n2 : Nat, lp_O_findReached_2 K n2 0 z
def pj_O_narrow_20_33 (K : Int32 → Sta → Prop) (y0 : Int32) (z : Sta) : Prop :=
  (y0 = 0 ∨ y0 = 1) ∧ K y0 z
def wp_O_narrow_20 (x1 : Int32) (x2 : Int64) (z : Sta) (K : Int32 → Sta → Prop) : Prop :=
  ((¬ x1 = (-1 : Int32) → vp_in x1 16 ∧ ∀ v1 : Int64, v1 = z.2.2 4 x1.toNatClampNeg → ∀ v2 : Int64, v2 = v1 &&& x2 → vp_in x1 16 ∧ ∀ z3 : Sta, z3 = zL z 4 (vp_updL (z.2.2 4) x1.toNatClampNeg v2) → vp_in x1 16 ∧ ∀ v4 : Int64, v4 = z3.2.2 4 x1.toNatClampNeg → ∀ v5 : Int32, v5 = lg_cmp v4 v1 → ((v5 = 0 → pj_O_narrow_20_33 K 0 z3) ∧ (¬ v5 = 0 → pj_O_narrow_20_33 K 1 z3))) ∧ (x1 = (-1 : Int32) → ((0 : Int32) = 0 ∨ (0 : Int32) = 1) ∧ K 0 z))
def pj_O_flowThere_138 (K : Sta → Prop) (z : Sta) : Prop :=
  K z
def pj_O_flowThere_126 (K : Sta → Prop) (R26 : Int32 → Int32 → Int32 → Sta → Prop) (x1 : Int32) (x2 : Int32) (x3 : Int32) (z : Sta) : Prop :=
  ∀ v20 : Int32, v20 = x3 + 1 → R26 x1 x2 v20 z
def lp_O_flowThere_26 (K : Sta → Prop) (R11 : Int32 → Int32 → Sta → Prop) : Nat → Int32 → Int32 → Int32 → Sta → Prop
  | 0, _, _, _, _ => False
  | n + 1, x1, x2, x3, z => ∀ v2 : Int32, v2 = z.1 2 → ((v2 ≤ x3 → ∀ v3 : Int32, v3 = x2 + 1 → R11 x1 v3 z) ∧ (¬ v2 ≤ x3 → vp_in x3 16 ∧ ∀ v4 : Int32, v4 = z.2.1 10 x3.toNatClampNeg → ((v4 = 0 → pj_O_flowThere_126 K (fun x1 x2 x3 z => lp_O_flowThere_26 K R11 n x1 x2 x3 z) x1 x2 x3 z) ∧ (¬ v4 = 0 → vp_in x3 16 ∧ ∀ v5 : Int64, v5 = z.2.2 3 x3.toNatClampNeg → vp_in x3 16 ∧ ∀ v6 : Int64, v6 = z.2.2 4 x3.toNatClampNeg → vp_in x3 16 ∧ ∀ v7 : Int64, v7 = z.2.2 1 x3.toNatClampNeg → ∀ v8 : Int64, v8 = v7 ^^^ (-1 : Int64) → ∀ v9 : Int64, v9 = v6 &&& v8 → ∀ v10 : Int64, v10 = v5 ||| v9 → vp_in x3 16 ∧ ∀ z11 : Sta, z11 = zL z 5 (vp_updL (z.2.2 5) x3.toNatClampNeg v10) → vp_in x3 16 ∧ ∀ v12 : Int32, v12 = z11.2.1 5 x3.toNatClampNeg → vp_in x3 16 ∧ ∀ v13 : Int64, v13 = z11.2.2 5 x3.toNatClampNeg → wp_O_narrow_20 v12 v13 z11 (fun rz14 z14 => ∀ v15 : Int32, v15 = x1 ||| rz14 → vp_in x3 16 ∧ ∀ v16 : Int32, v16 = z14.2.1 6 x3.toNatClampNeg → vp_in x3 16 ∧ ∀ v17 : Int64, v17 = z14.2.2 5 x3.toNatClampNeg → wp_O_narrow_20 v16 v17 z14 (fun rz18 z18 => ∀ v19 : Int32, v19 = v15 ||| rz18 → pj_O_flowThere_126 K (fun x1 x2 x3 z => lp_O_flowThere_26 K R11 n x1 x2 x3 z) v19 x2 x3 z18))))))
def lp_O_flowThere_11 (K : Sta → Prop) : Nat → Int32 → Int32 → Sta → Prop
  | 0, _, _, _ => False
  | n + 1, x1, x2, z => ((x1 = 0 → pj_O_flowThere_138 K z) ∧ (¬ x1 = 0 → (((385 : Int32) ≤ x2 → pj_O_flowThere_138 K z) ∧ (¬ (385 : Int32) ≤ x2 → ∃ n26 : Nat, lp_O_flowThere_26 K (fun x1 x2 z => lp_O_flowThere_11 K n x1 x2 z) n26 0 x2 0 z))))
def wp_O_flowThere (z : Sta) (K : Sta → Prop) : Prop :=
  vp_in (0 : Int32) 16 ∧ ∀ z1 : Sta, z1 = zL z 4 (vp_updL (z.2.2 4) (0 : Int32).toNatClampNeg (0 : Int64)) → ∃ n11 : Nat, lp_O_flowThere_11 K n11 1 0 z1
def pj_O_wantedByAll_10 (K : Int64 → Sta → Prop) (z : Sta) : Prop :=
  K 0 z
def wp_O_wantedByAll (x1 : Int32) (x2 : Int32) (z : Sta) (K : Int64 → Sta → Prop) : Prop :=
  ((x1 = (-1 : Int32) → pj_O_wantedByAll_10 K z) ∧ (¬ x1 = (-1 : Int32) → ((¬ x2 = (-1 : Int32) → vp_in x1 16 ∧ ∀ v1 : Int64, v1 = z.2.2 6 x1.toNatClampNeg → vp_in x2 16 ∧ ∀ v2 : Int64, v2 = z.2.2 6 x2.toNatClampNeg → ∀ v3 : Int64, v3 = v1 &&& v2 → K v3 z) ∧ (x2 = (-1 : Int32) → pj_O_wantedByAll_10 K z))))
def pj_O_narrow_22_33 (K : Int32 → Sta → Prop) (y0 : Int32) (z : Sta) : Prop :=
  (y0 = 0 ∨ y0 = 1) ∧ K y0 z
def wp_O_narrow_22 (x1 : Int32) (x2 : Int64) (z : Sta) (K : Int32 → Sta → Prop) : Prop :=
  ((¬ x1 = (-1 : Int32) → vp_in x1 16 ∧ ∀ v1 : Int64, v1 = z.2.2 6 x1.toNatClampNeg → ∀ v2 : Int64, v2 = v1 &&& x2 → vp_in x1 16 ∧ ∀ z3 : Sta, z3 = zL z 6 (vp_updL (z.2.2 6) x1.toNatClampNeg v2) → vp_in x1 16 ∧ ∀ v4 : Int64, v4 = z3.2.2 6 x1.toNatClampNeg → ∀ v5 : Int32, v5 = lg_cmp v4 v1 → ((v5 = 0 → pj_O_narrow_22_33 K 0 z3) ∧ (¬ v5 = 0 → pj_O_narrow_22_33 K 1 z3))) ∧ (x1 = (-1 : Int32) → ((0 : Int32) = 0 ∨ (0 : Int32) = 1) ∧ K 0 z))
def pj_O_flowWanted_115 (K : Sta → Prop) (z : Sta) : Prop :=
  K z
def pj_O_flowWanted_103 (K : Sta → Prop) (R27 : Int32 → Int32 → Int32 → Sta → Prop) (x1 : Int32) (x2 : Int32) (x3 : Int32) (z : Sta) : Prop :=
  ∀ v17 : Int32, v17 = x3 + (-1) → R27 x1 x2 v17 z
def lp_O_flowWanted_27 (K : Sta → Prop) (R4 : Int32 → Int32 → Sta → Prop) : Nat → Int32 → Int32 → Int32 → Sta → Prop
  | 0, _, _, _, _ => False
  | n + 1, x1, x2, x3, z => ((x3 < 0 → ∀ v3 : Int32, v3 = x2 + 1 → R4 x1 v3 z) ∧ (¬ x3 < 0 → vp_in x3 16 ∧ ∀ v4 : Int32, v4 = z.2.1 10 x3.toNatClampNeg → ((v4 = 0 → pj_O_flowWanted_103 K (fun x1 x2 x3 z => lp_O_flowWanted_27 K R4 n x1 x2 x3 z) x1 x2 x3 z) ∧ (¬ v4 = 0 → vp_in x3 16 ∧ ∀ v5 : Int32, v5 = z.2.1 5 x3.toNatClampNeg → vp_in x3 16 ∧ ∀ v6 : Int32, v6 = z.2.1 6 x3.toNatClampNeg → wp_O_wantedByAll v5 v6 z (fun rz7 z7 => vp_in x3 16 ∧ ∀ z8 : Sta, z8 = zL z7 7 (vp_updL (z7.2.2 7) x3.toNatClampNeg rz7) → vp_in x3 16 ∧ ∀ v9 : Int64, v9 = z8.2.2 2 x3.toNatClampNeg → vp_in x3 16 ∧ ∀ v10 : Int64, v10 = z8.2.2 7 x3.toNatClampNeg → vp_in x3 16 ∧ ∀ v11 : Int64, v11 = z8.2.2 1 x3.toNatClampNeg → ∀ v12 : Int64, v12 = v11 ^^^ (-1 : Int64) → ∀ v13 : Int64, v13 = v10 &&& v12 → ∀ v14 : Int64, v14 = v9 ||| v13 → wp_O_narrow_22 x3 v14 z8 (fun rz15 z15 => ∀ v16 : Int32, v16 = x1 ||| rz15 → pj_O_flowWanted_103 K (fun x1 x2 x3 z => lp_O_flowWanted_27 K R4 n x1 x2 x3 z) v16 x2 x3 z15))))))
def lp_O_flowWanted_4 (K : Sta → Prop) : Nat → Int32 → Int32 → Sta → Prop
  | 0, _, _, _ => False
  | n + 1, x1, x2, z => ((x1 = 0 → pj_O_flowWanted_115 K z) ∧ (¬ x1 = 0 → (((385 : Int32) ≤ x2 → pj_O_flowWanted_115 K z) ∧ (¬ (385 : Int32) ≤ x2 → ∀ v1 : Int32, v1 = z.1 2 → ∀ v2 : Int32, v2 = v1 - 1 → ∃ n27 : Nat, lp_O_flowWanted_27 K (fun x1 x2 z => lp_O_flowWanted_4 K n x1 x2 z) n27 0 x2 v2 z))))
def wp_O_flowWanted (z : Sta) (K : Sta → Prop) : Prop :=
  ∃ n4 : Nat, lp_O_flowWanted_4 K n4 1 0 z
def wp_O_laterOn (x1 : Int32) (x2 : Int32) (z : Sta) (K : Int64 → Sta → Prop) : Prop :=
  ((¬ x1 = (-1 : Int32) → vp_in x2 16 ∧ ∀ v1 : Int64, v1 = z.2.2 6 x2.toNatClampNeg → vp_in x1 16 ∧ ∀ v2 : Int64, v2 = z.2.2 5 x1.toNatClampNeg → ∀ v3 : Int64, v3 = v2 ^^^ (-1 : Int64) → ∀ v4 : Int64, v4 = v1 &&& v3 → vp_in x1 16 ∧ ∀ v5 : Int64, v5 = z.2.2 1 x1.toNatClampNeg → vp_in x1 16 ∧ ∀ v6 : Int64, v6 = z.2.2 7 x1.toNatClampNeg → ∀ v7 : Int64, v7 = v6 ^^^ (-1 : Int64) → ∀ v8 : Int64, v8 = v5 ||| v7 → ∀ v9 : Int64, v9 = v4 &&& v8 → vp_in x1 16 ∧ ∀ v10 : Int64, v10 = z.2.2 8 x1.toNatClampNeg → vp_in x1 16 ∧ ∀ v11 : Int64, v11 = z.2.2 2 x1.toNatClampNeg → ∀ v12 : Int64, v12 = v11 ^^^ (-1 : Int64) → ∀ v13 : Int64, v13 = v10 &&& v12 → ∀ v14 : Int64, v14 = v9 ||| v13 → K v14 z) ∧ (x1 = (-1 : Int32) → vp_in x2 16 ∧ ∀ v15 : Int64, v15 = z.2.2 6 x2.toNatClampNeg → K v15 z))
def pj_O_narrow_24_33 (K : Int32 → Sta → Prop) (y0 : Int32) (z : Sta) : Prop :=
  (y0 = 0 ∨ y0 = 1) ∧ K y0 z
def wp_O_narrow_24 (x1 : Int32) (x2 : Int64) (z : Sta) (K : Int32 → Sta → Prop) : Prop :=
  ((¬ x1 = (-1 : Int32) → vp_in x1 16 ∧ ∀ v1 : Int64, v1 = z.2.2 8 x1.toNatClampNeg → ∀ v2 : Int64, v2 = v1 &&& x2 → vp_in x1 16 ∧ ∀ z3 : Sta, z3 = zL z 8 (vp_updL (z.2.2 8) x1.toNatClampNeg v2) → vp_in x1 16 ∧ ∀ v4 : Int64, v4 = z3.2.2 8 x1.toNatClampNeg → ∀ v5 : Int32, v5 = lg_cmp v4 v1 → ((v5 = 0 → pj_O_narrow_24_33 K 0 z3) ∧ (¬ v5 = 0 → pj_O_narrow_24_33 K 1 z3))) ∧ (x1 = (-1 : Int32) → ((0 : Int32) = 0 ∨ (0 : Int32) = 1) ∧ K 0 z))
def pj_O_narrowLate_27 (K : Int32 → Sta → Prop) (y0 : Int32) (z : Sta) : Prop :=
  (y0 = 0 ∨ y0 = 1) ∧ K y0 z
def pj_O_narrowLate_26 (K : Int32 → Sta → Prop) (z : Sta) : Prop :=
  pj_O_narrowLate_27 K 0 z
def wp_O_narrowLate (x1 : Int32) (x2 : Int32) (z : Sta) (K : Int32 → Sta → Prop) : Prop :=
  ((x2 = (-1 : Int32) → pj_O_narrowLate_26 K z) ∧ (¬ x2 = (-1 : Int32) → wp_O_laterOn x1 x2 z (fun rz1 z1 => wp_O_narrow_24 x2 rz1 z1 (fun rz2 z2 => ((rz2 = 0 → pj_O_narrowLate_26 K z2) ∧ (¬ rz2 = 0 → pj_O_narrowLate_27 K 1 z2))))))
def pj_O_flowLate_97 (K : Sta → Prop) (z : Sta) : Prop :=
  K z
def pj_O_flowLate_85 (K : Sta → Prop) (R31 : Int32 → Int32 → Int32 → Sta → Prop) (x1 : Int32) (x2 : Int32) (x3 : Int32) (z : Sta) : Prop :=
  ∀ v12 : Int32, v12 = x3 + 1 → R31 x1 x2 v12 z
def lp_O_flowLate_31 (K : Sta → Prop) (R16 : Int32 → Int32 → Sta → Prop) : Nat → Int32 → Int32 → Int32 → Sta → Prop
  | 0, _, _, _, _ => False
  | n + 1, x1, x2, x3, z => ∀ v3 : Int32, v3 = z.1 2 → ((v3 ≤ x3 → ∀ v4 : Int32, v4 = x2 + 1 → R16 x1 v4 z) ∧ (¬ v3 ≤ x3 → vp_in x3 16 ∧ ∀ v5 : Int32, v5 = z.2.1 10 x3.toNatClampNeg → ((v5 = 0 → pj_O_flowLate_85 K (fun x1 x2 x3 z => lp_O_flowLate_31 K R16 n x1 x2 x3 z) x1 x2 x3 z) ∧ (¬ v5 = 0 → vp_in x3 16 ∧ ∀ v6 : Int32, v6 = z.2.1 5 x3.toNatClampNeg → wp_O_narrowLate x3 v6 z (fun rz7 z7 => ∀ v8 : Int32, v8 = x1 ||| rz7 → vp_in x3 16 ∧ ∀ v9 : Int32, v9 = z7.2.1 6 x3.toNatClampNeg → wp_O_narrowLate x3 v9 z7 (fun rz10 z10 => ∀ v11 : Int32, v11 = v8 ||| rz10 → pj_O_flowLate_85 K (fun x1 x2 x3 z => lp_O_flowLate_31 K R16 n x1 x2 x3 z) v11 x2 x3 z10))))))
def lp_O_flowLate_16 (K : Sta → Prop) : Nat → Int32 → Int32 → Sta → Prop
  | 0, _, _, _ => False
  | n + 1, x1, x2, z => ((x1 = 0 → pj_O_flowLate_97 K z) ∧ (¬ x1 = 0 → (((385 : Int32) ≤ x2 → pj_O_flowLate_97 K z) ∧ (¬ (385 : Int32) ≤ x2 → ∃ n31 : Nat, lp_O_flowLate_31 K (fun x1 x2 z => lp_O_flowLate_16 K n x1 x2 z) n31 0 x2 0 z))))
def wp_O_flowLate (z : Sta) (K : Sta → Prop) : Prop :=
  wp_O_laterOn (-1) 0 z (fun rz1 z1 => vp_in (0 : Int32) 16 ∧ ∀ z2 : Sta, z2 = zL z1 8 (vp_updL (z1.2.2 8) (0 : Int32).toNatClampNeg rz1) → ∃ n16 : Nat, lp_O_flowLate_16 K n16 1 0 z2)
def pj_O_readBlock_169 (K : Sta → Prop) (R37 : Int32 → Int32 → Int32 → Sta → Prop) (x1 : Int32) (x2 : Int32) (x3 : Int32) (z : Sta) : Prop :=
  ∀ v30 : Int32, v30 = x3 + 1 → R37 x1 x2 v30 z
def pj_O_readBlock_111 (K : Sta → Prop) (R37 : Int32 → Int32 → Int32 → Sta → Prop) (x1 : Int32) (x2 : Int32) (x3 : Int32) (z : Sta) : Prop :=
  vp_in x3 80 ∧ ∀ v20 : Int32, v20 = z.2.1 1 x3.toNatClampNeg → ((v20 = (3 : Int32) → pj_O_readBlock_169 K R37 x1 x2 x3 z) ∧ (¬ v20 = (3 : Int32) → vp_in x3 80 ∧ ∀ v21 : Int32, v21 = z.2.1 2 x3.toNatClampNeg → vp_in v21 6 ∧ ∀ v22 : Int64, v22 = z.2.2 0 v21.toNatClampNeg → vp_in x1 16 ∧ ∀ v23 : Int64, v23 = z.2.2 1 x1.toNatClampNeg → ∀ v24 : Int64, v24 = v23 ||| v22 → vp_in x1 16 ∧ ∀ z25 : Sta, z25 = zL z 1 (vp_updL (z.2.2 1) x1.toNatClampNeg v24) → vp_in x1 16 ∧ ∀ v26 : Int64, v26 = z25.2.2 3 x1.toNatClampNeg → ∀ v27 : Int64, v27 = v22 ^^^ (-1 : Int64) → ∀ v28 : Int64, v28 = v26 &&& v27 → vp_in x1 16 ∧ ∀ z29 : Sta, z29 = zL z25 3 (vp_updL (z25.2.2 3) x1.toNatClampNeg v28) → pj_O_readBlock_169 K R37 x1 x2 x3 z29))
def lp_O_readBlock_37 (K : Sta → Prop) : Nat → Int32 → Int32 → Int32 → Sta → Prop
  | 0, _, _, _, _ => False
  | n + 1, x1, x2, x3, z => vp_in x1 16 ∧ ∀ v6 : Int32, v6 = z.2.1 0 x1.toNatClampNeg → ∀ v7 : Int32, v7 = x2 + v6 → ((v7 ≤ x3 → K z) ∧ (¬ v7 ≤ x3 → vp_in x3 80 ∧ ∀ v8 : Int32, v8 = z.2.1 1 x3.toNatClampNeg → ((¬ v8 = (2 : Int32) → pj_O_readBlock_111 K (fun x1 x2 x3 z => lp_O_readBlock_37 K n x1 x2 x3 z) x1 x2 x3 z) ∧ (v8 = (2 : Int32) → vp_in x3 80 ∧ ∀ v9 : Int32, v9 = z.2.1 3 x3.toNatClampNeg → ∀ v10 : Int64, v10 = (1 : Int64) <<< (v9.toInt64 &&& 63) → vp_in x1 16 ∧ ∀ v11 : Int64, v11 = z.2.2 2 x1.toNatClampNeg → vp_in x1 16 ∧ ∀ v12 : Int64, v12 = z.2.2 1 x1.toNatClampNeg → ∀ v13 : Int64, v13 = v12 ^^^ (-1 : Int64) → ∀ v14 : Int64, v14 = v10 &&& v13 → ∀ v15 : Int64, v15 = v11 ||| v14 → vp_in x1 16 ∧ ∀ z16 : Sta, z16 = zL z 2 (vp_updL (z.2.2 2) x1.toNatClampNeg v15) → vp_in x1 16 ∧ ∀ v17 : Int64, v17 = z16.2.2 3 x1.toNatClampNeg → ∀ v18 : Int64, v18 = v17 ||| v10 → vp_in x1 16 ∧ ∀ z19 : Sta, z19 = zL z16 3 (vp_updL (z16.2.2 3) x1.toNatClampNeg v18) → pj_O_readBlock_111 K (fun x1 x2 x3 z => lp_O_readBlock_37 K n x1 x2 x3 z) x1 x2 x3 z19))))
def wp_O_readBlock (x1 : Int32) (z : Sta) (K : Sta → Prop) : Prop :=
  vp_in x1 16 ∧ ∀ z1 : Sta, z1 = zL z 1 (vp_updL (z.2.2 1) x1.toNatClampNeg (0 : Int64)) → vp_in x1 16 ∧ ∀ z2 : Sta, z2 = zL z1 2 (vp_updL (z1.2.2 2) x1.toNatClampNeg (0 : Int64)) → vp_in x1 16 ∧ ∀ z3 : Sta, z3 = zL z2 3 (vp_updL (z2.2.2 3) x1.toNatClampNeg (0 : Int64)) → vp_in x1 16 ∧ ∀ v4 : Int32, v4 = z3.2.1 10 x1.toNatClampNeg → ((¬ v4 = 0 → ∀ v5 : Int32, v5 = x1 * 5 → ∃ n37 : Nat, lp_O_readBlock_37 K n37 x1 v5 v5 z3) ∧ (v4 = 0 → K z3))
def pj_O_fillSets_24 (K : Sta → Prop) (x1 : Int32) (y0 : Int64) (z : Sta) : Prop :=
  vp_in x1 16 ∧ ∀ z5 : Sta, z5 = zL z 4 (vp_updL (z.2.2 4) x1.toNatClampNeg y0) → vp_in x1 16 ∧ ∀ z6 : Sta, z6 = zL z5 5 (vp_updL (z5.2.2 5) x1.toNatClampNeg y0) → vp_in x1 16 ∧ ∀ z7 : Sta, z7 = zL z6 6 (vp_updL (z6.2.2 6) x1.toNatClampNeg y0) → vp_in x1 16 ∧ ∀ z8 : Sta, z8 = zL z7 7 (vp_updL (z7.2.2 7) x1.toNatClampNeg y0) → vp_in x1 16 ∧ ∀ z9 : Sta, z9 = zL z8 8 (vp_updL (z8.2.2 8) x1.toNatClampNeg y0) → K z9
def wp_O_fillSets (x1 : Int32) (z : Sta) (K : Sta → Prop) : Prop :=
  vp_in x1 16 ∧ ∀ v1 : Int32, v1 = z.2.1 10 x1.toNatClampNeg → ((v1 = 0 → pj_O_fillSets_24 K x1 0 z) ∧ (¬ v1 = 0 → ∀ v2 : Int32, v2 = z.1 3 → ∀ v3 : Int64, v3 = (1 : Int64) <<< (v2.toInt64 &&& 63) → ∀ v4 : Int64, v4 = v3 - (1 : Int64) → pj_O_fillSets_24 K x1 v4 z))
def lp_O_findSets_47 (K : Sta → Prop) : Nat → Int32 → Sta → Prop
  | 0, _, _ => False
  | n + 1, x1, z => ∀ v9 : Int32, v9 = z.1 2 → ((v9 ≤ x1 → K z) ∧ (¬ v9 ≤ x1 → vp_in x1 16 ∧ ∀ v10 : Int64, v10 = z.2.2 2 x1.toNatClampNeg → vp_in x1 16 ∧ ∀ v11 : Int64, v11 = z.2.2 8 x1.toNatClampNeg → ∀ v12 : Int64, v12 = v11 ^^^ (-1 : Int64) → ∀ v13 : Int64, v13 = v10 &&& v12 → vp_in x1 16 ∧ ∀ z14 : Sta, z14 = zL z 9 (vp_updL (z.2.2 9) x1.toNatClampNeg v13) → ∀ v15 : Int32, v15 = x1 + 1 → lp_O_findSets_47 K n v15 z14))
def lp_O_findSets_6 (K : Sta → Prop) : Nat → Int32 → Sta → Prop
  | 0, _, _ => False
  | n + 1, x1, z => ∀ v2 : Int32, v2 = z.1 2 → ((v2 ≤ x1 → wp_O_flowThere z (fun z3 => wp_O_flowWanted z3 (fun z4 => wp_O_flowLate z4 (fun z5 => ∃ n47 : Nat, lp_O_findSets_47 K n47 0 z5)))) ∧ (¬ v2 ≤ x1 → wp_O_readBlock x1 z (fun z6 => wp_O_fillSets x1 z6 (fun z7 => ∀ v8 : Int32, v8 = x1 + 1 → lp_O_findSets_6 K n v8 z7))))
def wp_O_findSets (z : Sta) (K : Sta → Prop) : Prop :=
  wp_O_findReached z (fun z1 => ∃ n6 : Nat, lp_O_findSets_6 K n6 0 z1)
def wp_G_bitCount (x0 : Int64) (z : Sta) (K : Int32 → Sta → Prop) : Prop :=
  ∀ v1 : Int64, v1 = (x0.toUInt64 >>> ((1 : Int32).toInt64.toUInt64 &&& Int64.toUInt64 63)).toInt64 → ∀ v2 : Int64, v2 = v1 &&& (6148914691236517205 : Int64) → ∀ v3 : Int64, v3 = x0 - v2 → ∀ v4 : Int64, v4 = v3 &&& (3689348814741910323 : Int64) → ∀ v5 : Int64, v5 = (v3.toUInt64 >>> ((2 : Int32).toInt64.toUInt64 &&& Int64.toUInt64 63)).toInt64 → ∀ v6 : Int64, v6 = v5 &&& (3689348814741910323 : Int64) → ∀ v7 : Int64, v7 = v4 + v6 → ∀ v8 : Int64, v8 = (v7.toUInt64 >>> ((4 : Int32).toInt64.toUInt64 &&& Int64.toUInt64 63)).toInt64 → ∀ v9 : Int64, v9 = v7 + v8 → ∀ v10 : Int64, v10 = v9 &&& (1085102592571150095 : Int64) → ∀ v11 : Int64, v11 = (v10.toUInt64 >>> ((8 : Int32).toInt64.toUInt64 &&& Int64.toUInt64 63)).toInt64 → ∀ v12 : Int64, v12 = v10 + v11 → ∀ v13 : Int64, v13 = (v12.toUInt64 >>> ((16 : Int32).toInt64.toUInt64 &&& Int64.toUInt64 63)).toInt64 → ∀ v14 : Int64, v14 = v12 + v13 → ∀ v15 : Int64, v15 = (v14.toUInt64 >>> ((32 : Int32).toInt64.toUInt64 &&& Int64.toUInt64 63)).toInt64 → ∀ v16 : Int64, v16 = v14 + v15 → ∀ v17 : Int32, v17 = v16.toInt32 → ∀ v18 : Int32, v18 = v17 &&& 127 → K v18 z
def lp_O_countMoved_4 (K : Int32 → Sta → Prop) : Nat → Int64 → Int32 → Sta → Prop
  | 0, _, _, _ => False
  | n + 1, x1, x3, z => ∀ v1 : Int32, v1 = z.1 2 → ((v1 ≤ x3 → wp_G_bitCount x1 z (fun rz2 z2 => K rz2 z2)) ∧ (¬ v1 ≤ x3 → vp_in x3 16 ∧ ∀ v3 : Int64, v3 = z.2.2 9 x3.toNatClampNeg → ∀ v4 : Int64, v4 = x1 ||| v3 → ∀ v5 : Int32, v5 = x3 + 1 → lp_O_countMoved_4 K n v4 v5 z))
def wp_O_countMoved (z : Sta) (K : Int32 → Sta → Prop) : Prop :=
  ∃ n4 : Nat, lp_O_countMoved_4 K n4 0 0 z
def wp_O_setOf (x1 : Int32) (x2 : Int32) (z : Sta) (K : Int64 → Sta → Prop) : Prop :=
  ((x2 = 0 → vp_in x1 16 ∧ ∀ v1 : Int64, v1 = z.2.2 4 x1.toNatClampNeg → K v1 z) ∧ (x2 = 1 → vp_in x1 16 ∧ ∀ v2 : Int64, v2 = z.2.2 5 x1.toNatClampNeg → K v2 z) ∧ (x2 = 2 → vp_in x1 16 ∧ ∀ v3 : Int64, v3 = z.2.2 6 x1.toNatClampNeg → K v3 z) ∧ (x2 = 3 → vp_in x1 16 ∧ ∀ v4 : Int64, v4 = z.2.2 7 x1.toNatClampNeg → K v4 z) ∧ (x2 = 4 → vp_in x1 16 ∧ ∀ v5 : Int64, v5 = z.2.2 8 x1.toNatClampNeg → K v5 z) ∧ (¬ x2 = 0 ∧ ¬ x2 = 1 ∧ ¬ x2 = 2 ∧ ¬ x2 = 3 ∧ ¬ x2 = 4 → vp_in x1 16 ∧ ∀ v6 : Int64, v6 = z.2.2 9 x1.toNatClampNeg → K v6 z))
def pj_O_hasEdge_73 (K : Int32 → Sta → Prop) (y0 : Int32) (z : Sta) : Prop :=
  (y0 = 0 ∨ y0 = 1) ∧ K y0 z
def pj_O_hasEdge_68 (K : Int32 → Sta → Prop) (z : Sta) : Prop :=
  pj_O_hasEdge_73 K 1 z
def pj_O_hasEdge_40 (K : Int32 → Sta → Prop) (z : Sta) : Prop :=
  ((0 : Int32) = 0 ∨ (0 : Int32) = 1) ∧ K 0 z
def pj_O_hasEdge_14 (K : Int32 → Sta → Prop) (y0 : Int32) (z : Sta) : Prop :=
  (y0 = 0 ∨ y0 = 1) ∧ K y0 z
def wp_O_hasEdge (x1 : Int32) (x2 : Int32) (z : Sta) (K : Int32 → Sta → Prop) : Prop :=
  ((¬ x1 = (-1 : Int32) → wp_P_hasBlock x1 z (fun rz1 z1 => ((rz1 = 0 → pj_O_hasEdge_40 K z1) ∧ (¬ rz1 = 0 → vp_in x1 16 ∧ ∀ v2 : Int32, v2 = z1.2.1 10 x1.toNatClampNeg → ((v2 = 0 → pj_O_hasEdge_40 K z1) ∧ (¬ v2 = 0 → ((¬ x2 = (-1 : Int32) → vp_in x1 16 ∧ ∀ v3 : Int32, v3 = z1.2.1 5 x1.toNatClampNeg → ((v3 = x2 → pj_O_hasEdge_68 K z1) ∧ (¬ v3 = x2 → vp_in x1 16 ∧ ∀ v4 : Int32, v4 = z1.2.1 6 x1.toNatClampNeg → ((¬ v4 = x2 → pj_O_hasEdge_73 K 0 z1) ∧ (v4 = x2 → pj_O_hasEdge_68 K z1))))) ∧ (x2 = (-1 : Int32) → pj_O_hasEdge_40 K z1)))))))) ∧ (x1 = (-1 : Int32) → ((¬ x2 = 0 → pj_O_hasEdge_14 K 0 z) ∧ (x2 = 0 → pj_O_hasEdge_14 K 1 z))))
def wp_O_putOn (x1 : Int32) (x2 : Int32) (z : Sta) (K : Int64 → Sta → Prop) : Prop :=
  wp_O_laterOn x1 x2 z (fun rz1 z1 => vp_in x2 16 ∧ ∀ v2 : Int64, v2 = z1.2.2 8 x2.toNatClampNeg → ∀ v3 : Int64, v3 = v2 ^^^ (-1 : Int64) → ∀ v4 : Int64, v4 = rz1 &&& v3 → K v4 z1)
def lp_A_fill_26_5 (K : Sta → Prop) : Nat → Int32 → Int32 → Int32 → Sta → Prop
  | 0, _, _, _, _ => False
  | n + 1, x1, x2, x3, z => ((x3 ≤ x2 → K z) ∧ (¬ x3 ≤ x2 → vp_in x2 6 ∧ ∀ z2 : Sta, z2 = zA z 11 (upd (z.2.1 11) x2.toNatClampNeg x1) → ∀ v3 : Int32, v3 = x2 + 1 → lp_A_fill_26_5 K n x1 v3 x3 z2))
def wp_A_fill_26 (x1 : Int32) (z : Sta) (K : Sta → Prop) : Prop :=
  ∀ v1 : Int32, v1 = Int32.ofNat 6 → ∃ n5 : Nat, lp_A_fill_26_5 K n5 x1 0 v1 z
def lp_A_fill_27_5 (K : Sta → Prop) : Nat → Int32 → Int32 → Int32 → Sta → Prop
  | 0, _, _, _, _ => False
  | n + 1, x1, x2, x3, z => ((x3 ≤ x2 → K z) ∧ (¬ x3 ≤ x2 → vp_in x2 24 ∧ ∀ z2 : Sta, z2 = zA z 12 (upd (z.2.1 12) x2.toNatClampNeg x1) → ∀ v3 : Int32, v3 = x2 + 1 → lp_A_fill_27_5 K n x1 v3 x3 z2))
def wp_A_fill_27 (x1 : Int32) (z : Sta) (K : Sta → Prop) : Prop :=
  ∀ v1 : Int32, v1 = Int32.ofNat 24 → ∃ n5 : Nat, lp_A_fill_27_5 K n5 x1 0 v1 z
def lp_A_fill_29_5 (K : Sta → Prop) : Nat → Int32 → Int32 → Int32 → Sta → Prop
  | 0, _, _, _, _ => False
  | n + 1, x1, x2, x3, z => ((x3 ≤ x2 → K z) ∧ (¬ x3 ≤ x2 → vp_in x2 24 ∧ ∀ z2 : Sta, z2 = zA z 14 (upd (z.2.1 14) x2.toNatClampNeg x1) → ∀ v3 : Int32, v3 = x2 + 1 → lp_A_fill_29_5 K n x1 v3 x3 z2))
def wp_A_fill_29 (x1 : Int32) (z : Sta) (K : Sta → Prop) : Prop :=
  ∀ v1 : Int32, v1 = Int32.ofNat 24 → ∃ n5 : Nat, lp_A_fill_29_5 K n5 x1 0 v1 z
def wp_K_reset (x1 : Int32) (x2 : Int32) (x3 : Int32) (z : Sta) (K : Sta → Prop) : Prop :=
  ∀ z1 : Sta, z1 = zI z 4 (0 : Int32) → ∀ z2 : Sta, z2 = zI z1 5 (0 : Int32) → wp_A_fill_26 0 z2 (fun z3 => wp_A_fill_27 0 z3 (fun z4 => wp_A_fill_29 0 z4 (fun z5 => vp_in (0 : Int32) 6 ∧ ∀ z6 : Sta, z6 = zA z5 11 (upd (z5.2.1 11) (0 : Int32).toNatClampNeg x1) → vp_in (1 : Int32) 6 ∧ ∀ z7 : Sta, z7 = zA z6 11 (upd (z6.2.1 11) (1 : Int32).toNatClampNeg x2) → vp_in (2 : Int32) 6 ∧ ∀ z8 : Sta, z8 = zA z7 11 (upd (z7.2.1 11) (2 : Int32).toNatClampNeg x3) → K z8)))
def pj_P_valueOf_26_87 (K : Int32 → Sta → Prop) (y0 : Int32) (z : Sta) : Prop :=
  K y0 z
def wp_P_valueOf_26 (x1 : Int32) (z : Sta) (K : Int32 → Sta → Prop) : Prop :=
  vp_in x1 24 ∧ ∀ v1 : Int32, v1 = z.2.1 7 x1.toNatClampNeg → vp_in v1 6 ∧ ∀ v2 : Int32, v2 = z.2.1 11 v1.toNatClampNeg → vp_in x1 24 ∧ ∀ v3 : Int32, v3 = z.2.1 9 x1.toNatClampNeg → vp_in v3 6 ∧ ∀ v4 : Int32, v4 = z.2.1 11 v3.toNatClampNeg → vp_in x1 24 ∧ ∀ v5 : Int32, v5 = z.2.1 8 x1.toNatClampNeg → ((v5 = 0 → ∀ v6 : Int32, v6 = v2 + v4 → K v6 z) ∧ (v5 = 1 → ∀ v7 : Int32, v7 = v2 - v4 → K v7 z) ∧ (v5 = 2 → ∀ v8 : Int32, v8 = v2 * v4 → K v8 z) ∧ (v5 = 3 → ∀ v9 : Int32, v9 = v2 &&& v4 → K v9 z) ∧ (¬ v5 = 0 ∧ ¬ v5 = 1 ∧ ¬ v5 = 2 ∧ ¬ v5 = 3 → ((v4 ≤ v2 → pj_P_valueOf_26_87 K 0 z) ∧ (¬ v4 ≤ v2 → pj_P_valueOf_26_87 K 1 z))))
def wp_K_compute (x1 : Int32) (z : Sta) (K : Int32 → Sta → Prop) : Prop :=
  ∀ v1 : Int32, v1 = z.1 4 → ∀ v2 : Int32, v2 = v1 + 1 → ∀ z3 : Sta, z3 = zI z 4 v2 → vp_in x1 24 ∧ ∀ v4 : Int32, v4 = z3.2.1 12 x1.toNatClampNeg → ∀ v5 : Int32, v5 = v4 + 1 → vp_in x1 24 ∧ ∀ z6 : Sta, z6 = zA z3 12 (upd (z3.2.1 12) x1.toNatClampNeg v5) → wp_P_valueOf_26 x1 z6 (fun rz7 z7 => vp_in x1 24 ∧ ∀ z8 : Sta, z8 = zA z7 14 (upd (z7.2.1 14) x1.toNatClampNeg rz7) → vp_in x1 24 ∧ ∀ v9 : Int32, v9 = z8.2.1 14 x1.toNatClampNeg → K v9 z8)
def pj_K_goAlong_29 (K : Sta → Prop) (R2 : Int64 → Int32 → Sta → Prop) (x1 : Int64) (x3 : Int32) (z : Sta) : Prop :=
  ∀ v6 : Int32, v6 = x3 + 1 → R2 x1 v6 z
def lp_K_goAlong_2 (K : Sta → Prop) : Nat → Int64 → Int32 → Sta → Prop
  | 0, _, _, _ => False
  | n + 1, x1, x3, z => ∀ v1 : Int32, v1 = z.1 3 → ((v1 ≤ x3 → K z) ∧ (¬ v1 ≤ x3 → ∀ v2 : Int64, v2 = x1 >>> (x3.toInt64 &&& 63) → ∀ v3 : Int64, v3 = v2 &&& (1 : Int64) → ∀ v4 : Int32, v4 = lg_cmp v3 (0 : Int64) → ((v4 = 0 → pj_K_goAlong_29 K (fun x1 x3 z => lp_K_goAlong_2 K n x1 x3 z) x1 x3 z) ∧ (¬ v4 = 0 → wp_K_compute x3 z (fun rz5 z5 => pj_K_goAlong_29 K (fun x1 x3 z => lp_K_goAlong_2 K n x1 x3 z) x1 x3 z5)))))
def wp_K_goAlong (x1 : Int64) (z : Sta) (K : Sta → Prop) : Prop :=
  ∃ n2 : Nat, lp_K_goAlong_2 K n2 x1 0 z
def pj_K_giveOut_19 (K : Sta → Prop) (z : Sta) : Prop :=
  ∀ v4 : Int32, v4 = z.1 5 → ∀ v5 : Int32, v5 = v4 + 1 → ∀ z6 : Sta, z6 = zI z 5 v5 → K z6
def wp_K_giveOut (x1 : Int32) (z : Sta) (K : Sta → Prop) : Prop :=
  ∀ v1 : Int32, v1 = z.1 5 → (((100 : Int32) ≤ v1 → pj_K_giveOut_19 K z) ∧ (¬ (100 : Int32) ≤ v1 → ∀ v2 : Int32, v2 = z.1 5 → vp_in v2 100 ∧ ∀ z3 : Sta, z3 = zA z 13 (upd (z.2.1 13) v2.toNatClampNeg x1) → pj_K_giveOut_19 K z3))
def pj_K_goThroughSimple_44 (K : Sta → Prop) (z : Sta) : Prop :=
  K z
def wp_K_goThroughSimple (x1 : Int32) (x2 : Int32) (x3 : Int32) (z : Sta) (K : Sta → Prop) : Prop :=
  ((¬ x1 = 0 → ((¬ x1 = (1 : Int32) → vp_in x2 6 ∧ ∀ v1 : Int32, v1 = z.2.1 11 x2.toNatClampNeg → wp_K_giveOut v1 z (fun z2 => pj_K_goThroughSimple_44 K z2)) ∧ (x1 = (1 : Int32) → vp_in x2 6 ∧ ∀ z3 : Sta, z3 = zA z 11 (upd (z.2.1 11) x2.toNatClampNeg x3) → pj_K_goThroughSimple_44 K z3))) ∧ (x1 = 0 → vp_in x3 6 ∧ ∀ v4 : Int32, v4 = z.2.1 11 x3.toNatClampNeg → vp_in x2 6 ∧ ∀ z5 : Sta, z5 = zA z 11 (upd (z.2.1 11) x2.toNatClampNeg v4) → pj_K_goThroughSimple_44 K z5))
def pj_K_goThroughBlock_152 (K : Sta → Prop) (R12 : Int32 → Int64 → Int32 → Int32 → Sta → Prop) (x1 : Int32) (x4 : Int64) (x6 : Int32) (x7 : Int32) (z : Sta) : Prop :=
  ∀ v19 : Int32, v19 = x7 + 1 → R12 x1 x4 x6 v19 z
def pj_K_goThroughBlock_109 (K : Sta → Prop) (R12 : Int32 → Int64 → Int32 → Int32 → Sta → Prop) (x1 : Int32) (x4 : Int64) (x6 : Int32) (x7 : Int32) (x8 : Int32) (y0 : Int32) (y1 : Int32) (z : Sta) : Prop :=
  vp_in y1 6 ∧ ∀ z15 : Sta, z15 = zA z 11 (upd (z.2.1 11) y1.toNatClampNeg y0) → ∀ v16 : Int64, v16 = (1 : Int64) <<< (x8.toInt64 &&& 63) → ∀ v17 : Int64, v17 = v16 ^^^ (-1 : Int64) → ∀ v18 : Int64, v18 = x4 &&& v17 → pj_K_goThroughBlock_152 K R12 x1 v18 x6 x7 z15
def pj_K_goThroughBlock_72 (K : Sta → Prop) (R12 : Int32 → Int64 → Int32 → Int32 → Sta → Prop) (x1 : Int32) (x4 : Int64) (x6 : Int32) (x7 : Int32) (x8 : Int32) (y0 : Int32) (z : Sta) : Prop :=
  vp_in x7 80 ∧ ∀ v12 : Int32, v12 = z.2.1 2 x7.toNatClampNeg → ((y0 = 0 → wp_K_compute x8 z (fun rz13 z13 => pj_K_goThroughBlock_109 K R12 x1 x4 x6 x7 x8 rz13 v12 z13)) ∧ (¬ y0 = 0 → vp_in x8 24 ∧ ∀ v14 : Int32, v14 = z.2.1 14 x8.toNatClampNeg → pj_K_goThroughBlock_109 K R12 x1 x4 x6 x7 x8 v14 v12 z))
def lp_K_goThroughBlock_12 (K : Sta → Prop) : Nat → Int32 → Int64 → Int32 → Int32 → Sta → Prop
  | 0, _, _, _, _, _ => False
  | n + 1, x1, x4, x6, x7, z => vp_in x1 16 ∧ ∀ v2 : Int32, v2 = z.2.1 0 x1.toNatClampNeg → ∀ v3 : Int32, v3 = x6 + v2 → ((v3 ≤ x7 → K z) ∧ (¬ v3 ≤ x7 → vp_in x7 80 ∧ ∀ v4 : Int32, v4 = z.2.1 3 x7.toNatClampNeg → vp_in x7 80 ∧ ∀ v5 : Int32, v5 = z.2.1 1 x7.toNatClampNeg → ((¬ v5 = (2 : Int32) → vp_in x7 80 ∧ ∀ v6 : Int32, v6 = z.2.1 1 x7.toNatClampNeg → vp_in x7 80 ∧ ∀ v7 : Int32, v7 = z.2.1 2 x7.toNatClampNeg → wp_K_goThroughSimple v6 v7 v4 z (fun z8 => pj_K_goThroughBlock_152 K (fun x1 x4 x6 x7 z => lp_K_goThroughBlock_12 K n x1 x4 x6 x7 z) x1 x4 x6 x7 z8)) ∧ (v5 = (2 : Int32) → ∀ v9 : Int64, v9 = x4 >>> (v4.toInt64 &&& 63) → ∀ v10 : Int64, v10 = v9 &&& (1 : Int64) → ∀ v11 : Int32, v11 = lg_cmp v10 (0 : Int64) → ((v11 = 0 → pj_K_goThroughBlock_72 K (fun x1 x4 x6 x7 z => lp_K_goThroughBlock_12 K n x1 x4 x6 x7 z) x1 x4 x6 x7 v4 0 z) ∧ (¬ v11 = 0 → pj_K_goThroughBlock_72 K (fun x1 x4 x6 x7 z => lp_K_goThroughBlock_12 K n x1 x4 x6 x7 z) x1 x4 x6 x7 v4 1 z))))))
def wp_K_goThroughBlock (x1 : Int32) (x2 : Int64) (z : Sta) (K : Sta → Prop) : Prop :=
  ∀ v1 : Int32, v1 = x1 * 5 → ∃ n12 : Nat, lp_K_goThroughBlock_12 K n12 x1 x2 v1 v1 z
def pj_K_goThrough_106 (K : Sta → Prop) (x4 : Int32) (z : Sta) : Prop :=
  ∀ z10 : Sta, z10 = zI z 6 x4 → K z10
def pj_K_goThrough_99 (K : Sta → Prop) (R7 : Int32 → Int32 → Int32 → Int32 → Sta → Prop) (x1 : Int32) (x2 : Int32) (x4 : Int32) (y0 : Int32) (z : Sta) : Prop :=
  ∀ v9 : Int32, v9 = x4 + 1 → R7 x1 x2 y0 v9 z
def pj_K_goThrough_56 (K : Sta → Prop) (R7 : Int32 → Int32 → Int32 → Int32 → Sta → Prop) (x1 : Int32) (x3 : Int32) (x4 : Int32) (y0 : Int64) (y1 : Int32) (z : Sta) : Prop :=
  wp_K_goThroughBlock y1 y0 z (fun z4 => vp_in x3 16 ∧ ∀ v5 : Int32, v5 = z4.2.1 4 x3.toNatClampNeg → vp_in v5 6 ∧ ∀ v6 : Int32, v6 = z4.2.1 11 v5.toNatClampNeg → ((v6 = 0 → vp_in x3 16 ∧ ∀ v7 : Int32, v7 = z4.2.1 6 x3.toNatClampNeg → pj_K_goThrough_99 K R7 x1 x3 x4 v7 z4) ∧ (¬ v6 = 0 → vp_in x3 16 ∧ ∀ v8 : Int32, v8 = z4.2.1 5 x3.toNatClampNeg → pj_K_goThrough_99 K R7 x1 x3 x4 v8 z4)))
def pj_K_goThrough_37 (K : Sta → Prop) (R7 : Int32 → Int32 → Int32 → Int32 → Sta → Prop) (x1 : Int32) (x3 : Int32) (x4 : Int32) (z : Sta) : Prop :=
  ((x1 = 0 → pj_K_goThrough_56 K R7 x1 x3 x4 0 x3 z) ∧ (¬ x1 = 0 → vp_in x3 16 ∧ ∀ v3 : Int64, v3 = z.2.2 9 x3.toNatClampNeg → pj_K_goThrough_56 K R7 x1 x3 x4 v3 x3 z))
def lp_K_goThrough_7 (K : Sta → Prop) : Nat → Int32 → Int32 → Int32 → Int32 → Sta → Prop
  | 0, _, _, _, _, _ => False
  | n + 1, x1, x2, x3, x4, z => ((x3 = (-1 : Int32) → pj_K_goThrough_106 K x4 z) ∧ (¬ x3 = (-1 : Int32) → (((200 : Int32) ≤ x4 → pj_K_goThrough_106 K x4 z) ∧ (¬ (200 : Int32) ≤ x4 → ((x1 = 0 → pj_K_goThrough_37 K (fun x1 x2 x3 x4 z => lp_K_goThrough_7 K n x1 x2 x3 x4 z) x1 x3 x4 z) ∧ (¬ x1 = 0 → wp_O_putOn x2 x3 z (fun rz1 z1 => wp_K_goAlong rz1 z1 (fun z2 => pj_K_goThrough_37 K (fun x1 x2 x3 x4 z => lp_K_goThrough_7 K n x1 x2 x3 x4 z) x1 x3 x4 z2))))))))
def wp_K_goThrough (x1 : Int32) (z : Sta) (K : Sta → Prop) : Prop :=
  ∃ n7 : Nat, lp_K_goThrough_7 K n7 x1 (-1) 0 0 z
def wp_C_outs (z : Sta) (K : Int32 → Sta → Prop) : Prop :=
  ∀ v1 : Int32, v1 = z.1 5 → K v1 z
def pj_C_computed_10 (K : Int32 → Sta → Prop) (z : Sta) : Prop :=
  K 0 z
def wp_C_computed (x1 : Int32) (z : Sta) (K : Int32 → Sta → Prop) : Prop :=
  ((x1 < 0 → pj_C_computed_10 K z) ∧ (¬ x1 < 0 → ((x1 < (24 : Int32) → vp_in x1 24 ∧ ∀ v1 : Int32, v1 = z.2.1 12 x1.toNatClampNeg → K v1 z) ∧ (¬ x1 < (24 : Int32) → pj_C_computed_10 K z))))
def wp_M_thrown (z : Sta) (K : Int32 → Sta → Prop) : Prop :=
  ∀ v1 : Int32, v1 = z.1 7 → K v1 z
def wp_M_fail (x1 : Int32) (z : Sta) (K : Int32 → Sta → Prop) : Prop :=
  ∀ z1 : Sta, z1 = zI z 7 x1 → K 0 z1
def pj_M_within_15 (K : Int32 → Sta → Prop) (y0 : Int32) (z : Sta) : Prop :=
  (y0 = 0 ∨ y0 = 1) ∧ K y0 z
def pj_M_within_14 (K : Int32 → Sta → Prop) (z : Sta) : Prop :=
  pj_M_within_15 K 0 z
def wp_M_within (x0 : Int32) (x1 : Int32) (x2 : Int32) (z : Sta) (K : Int32 → Sta → Prop) : Prop :=
  ((x0 < x1 → pj_M_within_14 K z) ∧ (¬ x0 < x1 → ((x2 < x0 → pj_M_within_14 K z) ∧ (¬ x2 < x0 → pj_M_within_15 K 1 z))))
def wp_M_block (z : Sta) (K : Int32 → Sta → Prop) : Prop :=
  ∀ z1 : Sta, z1 = zI z 7 (0 : Int32) → ∀ v2 : Int32, v2 = z1.1 8 → ((¬ v2 = (16 : Int32) → ∀ v3 : Int32, v3 = z1.1 8 → vp_in v3 16 ∧ ∀ z4 : Sta, z4 = zA z1 15 (upd (z1.2.1 15) v3.toNatClampNeg (0 : Int32)) → ∀ v5 : Int32, v5 = z4.1 8 → ∀ v6 : Int32, v6 = 4 * v5 → vp_in v6 64 ∧ ∀ z7 : Sta, z7 = zA z4 17 (upd (z4.2.1 17) v6.toNatClampNeg (0 : Int32)) → ∀ v8 : Int32, v8 = z7.1 8 → ∀ v9 : Int32, v9 = v8 + 1 → ∀ z10 : Sta, z10 = zI z7 8 v9 → ∀ z11 : Sta, z11 = zI z10 10 (0 : Int32) → ∀ v12 : Int32, v12 = z11.1 8 → ∀ v13 : Int32, v13 = v12 - 1 → K v13 z11) ∧ (v2 = (16 : Int32) → wp_M_fail 1 z1 (fun rz14 z14 => K rz14 z14)))
def pj_M_find_55 (K : Int32 → Sta → Prop) (R6 : Int32 → Int32 → Int32 → Int32 → Int32 → Sta → Prop) (x1 : Int32) (x2 : Int32) (x3 : Int32) (x5 : Int32) (y0 : Int32) (z : Sta) : Prop :=
  ∀ v5 : Int32, v5 = x5 + 1 → R6 x1 x2 x3 y0 v5 z
def pj_M_find_53 (K : Int32 → Sta → Prop) (R6 : Int32 → Int32 → Int32 → Int32 → Int32 → Sta → Prop) (x1 : Int32) (x2 : Int32) (x3 : Int32) (x4 : Int32) (x5 : Int32) (z : Sta) : Prop :=
  pj_M_find_55 K R6 x1 x2 x3 x5 x4 z
def lp_M_find_6 (K : Int32 → Sta → Prop) : Nat → Int32 → Int32 → Int32 → Int32 → Int32 → Sta → Prop
  | 0, _, _, _, _, _, _ => False
  | n + 1, x1, x2, x3, x4, x5, z => ∀ v1 : Int32, v1 = z.1 9 → ((v1 ≤ x5 → K x4 z) ∧ (¬ v1 ≤ x5 → vp_in x5 24 ∧ ∀ v2 : Int32, v2 = z.2.1 18 x5.toNatClampNeg → ((¬ v2 = x1 → pj_M_find_53 K (fun x1 x2 x3 x4 x5 z => lp_M_find_6 K n x1 x2 x3 x4 x5 z) x1 x2 x3 x4 x5 z) ∧ (v2 = x1 → vp_in x5 24 ∧ ∀ v3 : Int32, v3 = z.2.1 19 x5.toNatClampNeg → ((¬ v3 = x2 → pj_M_find_53 K (fun x1 x2 x3 x4 x5 z => lp_M_find_6 K n x1 x2 x3 x4 x5 z) x1 x2 x3 x4 x5 z) ∧ (v3 = x2 → vp_in x5 24 ∧ ∀ v4 : Int32, v4 = z.2.1 20 x5.toNatClampNeg → ((¬ v4 = x3 → pj_M_find_53 K (fun x1 x2 x3 x4 x5 z => lp_M_find_6 K n x1 x2 x3 x4 x5 z) x1 x2 x3 x4 x5 z) ∧ (v4 = x3 → pj_M_find_55 K (fun x1 x2 x3 x4 x5 z => lp_M_find_6 K n x1 x2 x3 x4 x5 z) x1 x2 x3 x5 x5 z))))))))
def wp_M_find (x1 : Int32) (x2 : Int32) (x3 : Int32) (z : Sta) (K : Int32 → Sta → Prop) : Prop :=
  ∃ n6 : Nat, lp_M_find_6 K n6 x1 x2 x3 (-1) 0 z
def pj_M_statement_233 (K : Int32 → Sta → Prop) (x1 : Int32) (x2 : Int32) (x3 : Int32) (x4 : Int32) (x5 : Int32) (x7 : Int32) (z : Sta) : Prop :=
  ∀ v24 : Int32, v24 = z.1 8 → ∀ v25 : Int32, v25 = v24 - 1 → ∀ v26 : Int32, v26 = 30 * v25 → ∀ v27 : Int32, v27 = z.1 8 → ∀ v28 : Int32, v28 = v27 - 1 → vp_in v28 16 ∧ ∀ v29 : Int32, v29 = z.2.1 15 v28.toNatClampNeg → ∀ v30 : Int32, v30 = 6 * v29 → ∀ v31 : Int32, v31 = v26 + v30 → vp_in v31 480 ∧ ∀ z32 : Sta, z32 = zA z 16 (upd (z.2.1 16) v31.toNatClampNeg x1) → ∀ v33 : Int32, v33 = v31 + 1 → vp_in v33 480 ∧ ∀ z34 : Sta, z34 = zA z32 16 (upd (z32.2.1 16) v33.toNatClampNeg x2) → ∀ v35 : Int32, v35 = v31 + 2 → vp_in v35 480 ∧ ∀ z36 : Sta, z36 = zA z34 16 (upd (z34.2.1 16) v35.toNatClampNeg x3) → ∀ v37 : Int32, v37 = v31 + 3 → vp_in v37 480 ∧ ∀ z38 : Sta, z38 = zA z36 16 (upd (z36.2.1 16) v37.toNatClampNeg x4) → ∀ v39 : Int32, v39 = v31 + 4 → vp_in v39 480 ∧ ∀ z40 : Sta, z40 = zA z38 16 (upd (z38.2.1 16) v39.toNatClampNeg x5) → ∀ v41 : Int32, v41 = v31 + 5 → vp_in v41 480 ∧ ∀ z42 : Sta, z42 = zA z40 16 (upd (z40.2.1 16) v41.toNatClampNeg x7) → ∀ v43 : Int32, v43 = z42.1 8 → ∀ v44 : Int32, v44 = v43 - 1 → vp_in v44 16 ∧ ∀ v45 : Int32, v45 = z42.2.1 15 v44.toNatClampNeg → ∀ v46 : Int32, v46 = v45 + 1 → vp_in v44 16 ∧ ∀ z47 : Sta, z47 = zA z42 15 (upd (z42.2.1 15) v44.toNatClampNeg v46) → ∀ z48 : Sta, z48 = zI z47 10 (0 : Int32) → ∀ v49 : Int32, v49 = z48.1 8 → ∀ v50 : Int32, v50 = v49 - 1 → vp_in v50 16 ∧ ∀ v51 : Int32, v51 = z48.2.1 15 v50.toNatClampNeg → K v51 z48
def pj_M_statement_164 (K : Int32 → Sta → Prop) (x1 : Int32) (x2 : Int32) (x3 : Int32) (x4 : Int32) (x5 : Int32) (y0 : Int32) (z : Sta) : Prop :=
  ((¬ x1 = (2 : Int32) → pj_M_statement_233 K x1 x2 x3 x4 x5 y0 z) ∧ (x1 = (2 : Int32) → ((0 ≤ y0 → pj_M_statement_233 K x1 x2 x3 x4 x5 y0 z) ∧ (¬ 0 ≤ y0 → ∀ v15 : Int32, v15 = z.1 9 → ((¬ v15 = (24 : Int32) → ∀ v16 : Int32, v16 = z.1 9 → vp_in v16 24 ∧ ∀ z17 : Sta, z17 = zA z 18 (upd (z.2.1 18) v16.toNatClampNeg x3) → vp_in v16 24 ∧ ∀ z18 : Sta, z18 = zA z17 19 (upd (z17.2.1 19) v16.toNatClampNeg x4) → vp_in v16 24 ∧ ∀ z19 : Sta, z19 = zA z18 20 (upd (z18.2.1 20) v16.toNatClampNeg x5) → ∀ v20 : Int32, v20 = z19.1 9 → ∀ v21 : Int32, v21 = v20 + 1 → ∀ z22 : Sta, z22 = zI z19 9 v21 → pj_M_statement_233 K x1 x2 x3 x4 x5 v16 z22) ∧ (v15 = (24 : Int32) → wp_M_fail 2 z (fun rz23 z23 => K rz23 z23)))))))
def pj_M_statement_140 (K : Int32 → Sta → Prop) (z : Sta) : Prop :=
  wp_M_fail 2 z (fun rz52 z52 => K rz52 z52)
def pj_M_statement_105 (K : Int32 → Sta → Prop) (x1 : Int32) (x2 : Int32) (x3 : Int32) (x4 : Int32) (x5 : Int32) (y0 : Int32) (z : Sta) : Prop :=
  ((¬ y0 = 0 → ∀ v9 : Int32, v9 = z.1 8 → ((v9 = 0 → pj_M_statement_140 K z) ∧ (¬ v9 = 0 → ∀ v10 : Int32, v10 = z.1 8 → ∀ v11 : Int32, v11 = v10 - 1 → vp_in v11 16 ∧ ∀ v12 : Int32, v12 = z.2.1 15 v11.toNatClampNeg → ((¬ v12 = (5 : Int32) → ((¬ x1 = (2 : Int32) → pj_M_statement_164 K x1 x2 x3 x4 x5 (-1) z) ∧ (x1 = (2 : Int32) → wp_M_find x3 x4 x5 z (fun rz13 z13 => pj_M_statement_164 K x1 x2 x3 x4 x5 rz13 z13)))) ∧ (v12 = (5 : Int32) → pj_M_statement_140 K z))))) ∧ (y0 = 0 → wp_M_fail 1 z (fun rz14 z14 => K rz14 z14)))
def pj_M_statement_104 (K : Int32 → Sta → Prop) (x1 : Int32) (x2 : Int32) (x3 : Int32) (x4 : Int32) (x5 : Int32) (z : Sta) : Prop :=
  pj_M_statement_105 K x1 x2 x3 x4 x5 0 z
def pj_M_statement_100 (K : Int32 → Sta → Prop) (x1 : Int32) (x2 : Int32) (x3 : Int32) (x4 : Int32) (x5 : Int32) (z : Sta) : Prop :=
  pj_M_statement_105 K x1 x2 x3 x4 x5 1 z
def pj_M_statement_66 (K : Int32 → Sta → Prop) (x1 : Int32) (x2 : Int32) (x3 : Int32) (x4 : Int32) (x5 : Int32) (z : Sta) : Prop :=
  ((¬ x1 = (2 : Int32) → pj_M_statement_100 K x1 x2 x3 x4 x5 z) ∧ (x1 = (2 : Int32) → wp_M_within x3 0 5 z (fun rz6 z6 => ((rz6 = 0 → pj_M_statement_104 K x1 x2 x3 x4 x5 z6) ∧ (¬ rz6 = 0 → wp_M_within x4 0 4 z6 (fun rz7 z7 => ((rz7 = 0 → pj_M_statement_104 K x1 x2 x3 x4 x5 z7) ∧ (¬ rz7 = 0 → wp_M_within x5 0 5 z7 (fun rz8 z8 => ((rz8 = 0 → pj_M_statement_104 K x1 x2 x3 x4 x5 z8) ∧ (¬ rz8 = 0 → pj_M_statement_100 K x1 x2 x3 x4 x5 z8)))))))))))
def pj_M_statement_48 (K : Int32 → Sta → Prop) (x1 : Int32) (x2 : Int32) (x3 : Int32) (x4 : Int32) (x5 : Int32) (z : Sta) : Prop :=
  ((¬ x1 = (1 : Int32) → pj_M_statement_66 K x1 x2 x3 x4 x5 z) ∧ (x1 = (1 : Int32) → wp_M_within x3 (-32768) 32767 z (fun rz5 z5 => ((rz5 = 0 → pj_M_statement_104 K x1 x2 x3 x4 x5 z5) ∧ (¬ rz5 = 0 → pj_M_statement_66 K x1 x2 x3 x4 x5 z5)))))
def pj_M_statement_28 (K : Int32 → Sta → Prop) (x1 : Int32) (x2 : Int32) (x3 : Int32) (x4 : Int32) (x5 : Int32) (y0 : Int32) (z : Sta) : Prop :=
  ((y0 = 0 → pj_M_statement_104 K x1 x2 x3 x4 x5 z) ∧ (¬ y0 = 0 → ((¬ x1 = 0 → pj_M_statement_48 K x1 x2 x3 x4 x5 z) ∧ (x1 = 0 → wp_M_within x3 0 5 z (fun rz4 z4 => ((rz4 = 0 → pj_M_statement_104 K x1 x2 x3 x4 x5 z4) ∧ (¬ rz4 = 0 → pj_M_statement_48 K x1 x2 x3 x4 x5 z4)))))))
def pj_M_statement_27 (K : Int32 → Sta → Prop) (x1 : Int32) (x2 : Int32) (x3 : Int32) (x4 : Int32) (x5 : Int32) (z : Sta) : Prop :=
  pj_M_statement_28 K x1 x2 x3 x4 x5 0 z
def wp_M_statement (x1 : Int32) (x2 : Int32) (x3 : Int32) (x4 : Int32) (x5 : Int32) (z : Sta) (K : Int32 → Sta → Prop) : Prop :=
  ∀ z1 : Sta, z1 = zI z 7 (0 : Int32) → wp_M_within x1 0 3 z1 (fun rz2 z2 => ((rz2 = 0 → pj_M_statement_27 K x1 x2 x3 x4 x5 z2) ∧ (¬ rz2 = 0 → wp_M_within x2 0 5 z2 (fun rz3 z3 => ((rz3 = 0 → pj_M_statement_27 K x1 x2 x3 x4 x5 z3) ∧ (¬ rz3 = 0 → pj_M_statement_28 K x1 x2 x3 x4 x5 1 z3))))))
def pj_M_end_152 (K : Int32 → Sta → Prop) (y0 : Int32) (z : Sta) : Prop :=
  K y0 z
def pj_M_end_151 (K : Int32 → Sta → Prop) (x2 : Int32) (z : Sta) : Prop :=
  pj_M_end_152 K x2 z
def pj_M_end_73 (K : Int32 → Sta → Prop) (x1 : Int32) (x2 : Int32) (x3 : Int32) (x4 : Int32) (x5 : Int32) (y0 : Int32) (z : Sta) : Prop :=
  ((¬ y0 = 0 → ∀ v9 : Int32, v9 = 4 * x1 → vp_in v9 64 ∧ ∀ z10 : Sta, z10 = zA z 17 (upd (z.2.1 17) v9.toNatClampNeg x2) → ∀ v11 : Int32, v11 = 4 * x1 → ∀ v12 : Int32, v12 = v11 + 1 → vp_in v12 64 ∧ ∀ z13 : Sta, z13 = zA z10 17 (upd (z10.2.1 17) v12.toNatClampNeg x3) → ∀ v14 : Int32, v14 = 4 * x1 → ∀ v15 : Int32, v15 = v14 + 2 → vp_in v15 64 ∧ ∀ z16 : Sta, z16 = zA z13 17 (upd (z13.2.1 17) v15.toNatClampNeg x4) → ∀ v17 : Int32, v17 = 4 * x1 → ∀ v18 : Int32, v18 = v17 + 3 → vp_in v18 64 ∧ ∀ z19 : Sta, z19 = zA z16 17 (upd (z16.2.1 17) v18.toNatClampNeg x5) → ∀ z20 : Sta, z20 = zI z19 10 (0 : Int32) → ((¬ x2 = (2 : Int32) → pj_M_end_151 K x2 z20) ∧ (x2 = (2 : Int32) → ((¬ x4 = x5 → pj_M_end_151 K x2 z20) ∧ (x4 = x5 → pj_M_end_152 K 1 z20))))) ∧ (y0 = 0 → wp_M_fail 1 z (fun rz21 z21 => K rz21 z21)))
def pj_M_end_72 (K : Int32 → Sta → Prop) (x1 : Int32) (x2 : Int32) (x3 : Int32) (x4 : Int32) (x5 : Int32) (z : Sta) : Prop :=
  pj_M_end_73 K x1 x2 x3 x4 x5 0 z
def pj_M_end_68 (K : Int32 → Sta → Prop) (x1 : Int32) (x2 : Int32) (x3 : Int32) (x4 : Int32) (x5 : Int32) (z : Sta) : Prop :=
  pj_M_end_73 K x1 x2 x3 x4 x5 1 z
def pj_M_end_43 (K : Int32 → Sta → Prop) (x1 : Int32) (x2 : Int32) (x3 : Int32) (x4 : Int32) (x5 : Int32) (z : Sta) : Prop :=
  ((x2 < (2 : Int32) → pj_M_end_68 K x1 x2 x3 x4 x5 z) ∧ (¬ x2 < (2 : Int32) → wp_M_within x3 0 5 z (fun rz7 z7 => ((rz7 = 0 → pj_M_end_72 K x1 x2 x3 x4 x5 z7) ∧ (¬ rz7 = 0 → wp_M_within x5 0 15 z7 (fun rz8 z8 => ((rz8 = 0 → pj_M_end_72 K x1 x2 x3 x4 x5 z8) ∧ (¬ rz8 = 0 → pj_M_end_68 K x1 x2 x3 x4 x5 z8))))))))
def wp_M_end (x1 : Int32) (x2 : Int32) (x3 : Int32) (x4 : Int32) (x5 : Int32) (z : Sta) (K : Int32 → Sta → Prop) : Prop :=
  ∀ z1 : Sta, z1 = zI z 7 (0 : Int32) → ∀ v2 : Int32, v2 = z1.1 8 → ∀ v3 : Int32, v3 = v2 - 1 → wp_M_within x1 0 v3 z1 (fun rz4 z4 => ((rz4 = 0 → pj_M_end_72 K x1 x2 x3 x4 x5 z4) ∧ (¬ rz4 = 0 → wp_M_within x2 0 2 z4 (fun rz5 z5 => ((rz5 = 0 → pj_M_end_72 K x1 x2 x3 x4 x5 z5) ∧ (¬ rz5 = 0 → ((x2 = 0 → pj_M_end_43 K x1 x2 x3 x4 x5 z5) ∧ (¬ x2 = 0 → wp_M_within x4 0 15 z5 (fun rz6 z6 => ((rz6 = 0 → pj_M_end_72 K x1 x2 x3 x4 x5 z6) ∧ (¬ rz6 = 0 → pj_M_end_43 K x1 x2 x3 x4 x5 z6)))))))))))
def pj_M_next_74 (K : Int32 → Sta → Prop) (y0 : Int32) (z : Sta) : Prop :=
  K y0 z
def pj_M_next_73 (K : Int32 → Sta → Prop) (z : Sta) : Prop :=
  pj_M_next_74 K (-1) z
def pj_M_next_31 (K : Int32 → Sta → Prop) (y0 : Int32) (z : Sta) : Prop :=
  K y0 z
def wp_M_next (x1 : Int32) (x2 : Int32) (z : Sta) (K : Int32 → Sta → Prop) : Prop :=
  ∀ v1 : Int32, v1 = 4 * x1 → vp_in v1 64 ∧ ∀ v2 : Int32, v2 = z.2.1 17 v1.toNatClampNeg → ((¬ x2 = 0 → ((¬ v2 = (2 : Int32) → pj_M_next_73 K z) ∧ (v2 = (2 : Int32) → ∀ v3 : Int32, v3 = 4 * x1 → ∀ v4 : Int32, v4 = v3 + 3 → vp_in v4 64 ∧ ∀ v5 : Int32, v5 = z.2.1 17 v4.toNatClampNeg → ∀ v6 : Int32, v6 = 4 * x1 → ∀ v7 : Int32, v7 = v6 + 2 → vp_in v7 64 ∧ ∀ v8 : Int32, v8 = z.2.1 17 v7.toNatClampNeg → ((v5 = v8 → pj_M_next_73 K z) ∧ (¬ v5 = v8 → ∀ v9 : Int32, v9 = 4 * x1 → ∀ v10 : Int32, v10 = v9 + 3 → vp_in v10 64 ∧ ∀ v11 : Int32, v11 = z.2.1 17 v10.toNatClampNeg → pj_M_next_74 K v11 z))))) ∧ (x2 = 0 → ((¬ v2 = 0 → ∀ v12 : Int32, v12 = 4 * x1 → ∀ v13 : Int32, v13 = v12 + 2 → vp_in v13 64 ∧ ∀ v14 : Int32, v14 = z.2.1 17 v13.toNatClampNeg → pj_M_next_31 K v14 z) ∧ (v2 = 0 → pj_M_next_31 K (-1) z))))
def pj_M_edge_34 (K : Int32 → Sta → Prop) (y0 : Int32) (z : Sta) : Prop :=
  (y0 = 0 ∨ y0 = 1) ∧ K y0 z
def pj_M_edge_33 (K : Int32 → Sta → Prop) (z : Sta) : Prop :=
  pj_M_edge_34 K 0 z
def pj_M_edge_29 (K : Int32 → Sta → Prop) (z : Sta) : Prop :=
  pj_M_edge_34 K 1 z
def wp_M_edge (x1 : Int32) (x2 : Int32) (z : Sta) (K : Int32 → Sta → Prop) : Prop :=
  vp_in x1 16 ∧ ∀ v1 : Int32, v1 = z.2.1 21 x1.toNatClampNeg → ((v1 = 0 → pj_M_edge_33 K z) ∧ (¬ v1 = 0 → wp_M_next x1 0 z (fun rz2 z2 => ((rz2 = x2 → pj_M_edge_29 K z2) ∧ (¬ rz2 = x2 → wp_M_next x1 1 z2 (fun rz3 z3 => ((¬ rz3 = x2 → pj_M_edge_33 K z3) ∧ (rz3 = x2 → pj_M_edge_29 K z3))))))))
def pj_M_reach_90 (K : Sta → Prop) (R51 : Int32 → Int32 → Int32 → Sta → Prop) (x1 : Int32) (x2 : Int32) (x3 : Int32) (z : Sta) : Prop :=
  ∀ v10 : Int32, v10 = x3 + 1 → R51 x1 x2 v10 z
def pj_M_reach_75 (K : Sta → Prop) (R51 : Int32 → Int32 → Int32 → Sta → Prop) (x1 : Int32) (x2 : Int32) (x3 : Int32) (y0 : Int32) (z : Sta) : Prop :=
  ((y0 < 0 → pj_M_reach_90 K R51 x1 x2 x3 z) ∧ (¬ y0 < 0 → vp_in y0 16 ∧ ∀ z9 : Sta, z9 = zA z 21 (upd (z.2.1 21) y0.toNatClampNeg (vp_nar .boolean (1 : Int32))) → pj_M_reach_90 K R51 x1 x2 x3 z9))
def lp_M_reach_51 (K : Sta → Prop) (R41 : Int32 → Int32 → Sta → Prop) : Nat → Int32 → Int32 → Int32 → Sta → Prop
  | 0, _, _, _, _ => False
  | n + 1, x1, x2, x3, z => (((2 : Int32) ≤ x3 → ∀ v6 : Int32, v6 = x2 + 1 → R41 x1 v6 z) ∧ (¬ (2 : Int32) ≤ x3 → vp_in x2 16 ∧ ∀ v7 : Int32, v7 = z.2.1 21 x2.toNatClampNeg → ((v7 = 0 → pj_M_reach_75 K (fun x1 x2 x3 z => lp_M_reach_51 K R41 n x1 x2 x3 z) x1 x2 x3 (-1) z) ∧ (¬ v7 = 0 → wp_M_next x2 x3 z (fun rz8 z8 => pj_M_reach_75 K (fun x1 x2 x3 z => lp_M_reach_51 K R41 n x1 x2 x3 z) x1 x2 x3 rz8 z8)))))
def lp_M_reach_41 (K : Sta → Prop) (R31 : Int32 → Sta → Prop) : Nat → Int32 → Int32 → Sta → Prop
  | 0, _, _, _ => False
  | n + 1, x1, x2, z => ∀ v4 : Int32, v4 = z.1 8 → ((v4 ≤ x2 → ∀ v5 : Int32, v5 = x1 + 1 → R31 v5 z) ∧ (¬ v4 ≤ x2 → ∃ n51 : Nat, lp_M_reach_51 K (fun x1 x2 z => lp_M_reach_41 K R31 n x1 x2 z) n51 x1 x2 0 z))
def lp_M_reach_31 (K : Sta → Prop) : Nat → Int32 → Sta → Prop
  | 0, _, _ => False
  | n + 1, x1, z => ∀ v3 : Int32, v3 = z.1 8 → ((v3 ≤ x1 → K z) ∧ (¬ v3 ≤ x1 → ∃ n41 : Nat, lp_M_reach_41 K (fun x1 z => lp_M_reach_31 K n x1 z) n41 x1 0 z))
def pj_M_reach_22 (K : Sta → Prop) (R2 : Int32 → Sta → Prop) (x1 : Int32) (y0 : Int32) (y1 : Int32) (z : Sta) : Prop :=
  vp_in y1 16 ∧ ∀ z1 : Sta, z1 = zA z 21 (upd (z.2.1 21) y1.toNatClampNeg (vp_nar .boolean y0)) → ∀ v2 : Int32, v2 = x1 + 1 → R2 v2 z1
def lp_M_reach_2 (K : Sta → Prop) : Nat → Int32 → Sta → Prop
  | 0, _, _ => False
  | n + 1, x1, z => (((16 : Int32) ≤ x1 → ∃ n31 : Nat, lp_M_reach_31 K n31 0 z) ∧ (¬ (16 : Int32) ≤ x1 → ((¬ x1 = 0 → pj_M_reach_22 K (fun x1 z => lp_M_reach_2 K n x1 z) x1 0 x1 z) ∧ (x1 = 0 → pj_M_reach_22 K (fun x1 z => lp_M_reach_2 K n x1 z) x1 1 x1 z))))
def wp_M_reach (z : Sta) (K : Sta → Prop) : Prop :=
  ∃ n2 : Nat, lp_M_reach_2 K n2 0 z
def pj_M_whole_47 (K : Int32 → Sta → Prop) (R4 : Int32 → Int32 → Sta → Prop) (x2 : Int32) (y0 : Int32) (z : Sta) : Prop :=
  ∀ v6 : Int32, v6 = x2 + 1 → R4 y0 v6 z
def pj_M_whole_46 (K : Int32 → Sta → Prop) (R4 : Int32 → Int32 → Sta → Prop) (x2 : Int32) (z : Sta) : Prop :=
  pj_M_whole_47 K R4 x2 0 z
def lp_M_whole_4 (K : Int32 → Sta → Prop) : Nat → Int32 → Int32 → Sta → Prop
  | 0, _, _, _ => False
  | n + 1, x1, x2, z => ∀ v1 : Int32, v1 = z.1 8 → ((v1 ≤ x2 → (x1 = 0 ∨ x1 = 1) ∧ K x1 z) ∧ (¬ v1 ≤ x2 → ((x1 = 0 → pj_M_whole_46 K (fun x1 x2 z => lp_M_whole_4 K n x1 x2 z) x2 z) ∧ (¬ x1 = 0 → wp_M_next x2 0 z (fun rz2 z2 => ∀ v3 : Int32, v3 = z2.1 8 → ((v3 ≤ rz2 → pj_M_whole_46 K (fun x1 x2 z => lp_M_whole_4 K n x1 x2 z) x2 z2) ∧ (¬ v3 ≤ rz2 → wp_M_next x2 1 z2 (fun rz4 z4 => ∀ v5 : Int32, v5 = z4.1 8 → ((v5 ≤ rz4 → pj_M_whole_46 K (fun x1 x2 z => lp_M_whole_4 K n x1 x2 z) x2 z4) ∧ (¬ v5 ≤ rz4 → pj_M_whole_47 K (fun x1 x2 z => lp_M_whole_4 K n x1 x2 z) x2 1 z4))))))))))
def wp_M_whole (z : Sta) (K : Int32 → Sta → Prop) : Prop :=
  ∃ n4 : Nat, lp_M_whole_4 K n4 1 0 z
def pj_M_gives_49 (K : Int32 → Sta → Prop) (y0 : Int32) (z : Sta) : Prop :=
  (y0 = 0 ∨ y0 = 1) ∧ K y0 z
def pj_M_gives_48 (K : Int32 → Sta → Prop) (z : Sta) : Prop :=
  pj_M_gives_49 K 0 z
def pj_M_gives_44 (K : Int32 → Sta → Prop) (z : Sta) : Prop :=
  pj_M_gives_49 K 1 z
def wp_M_gives (x1 : Int32) (x2 : Int32) (z : Sta) (K : Int32 → Sta → Prop) : Prop :=
  vp_in x1 480 ∧ ∀ v1 : Int32, v1 = z.2.1 16 x1.toNatClampNeg → (((3 : Int32) ≤ v1 → pj_M_gives_48 K z) ∧ (¬ (3 : Int32) ≤ v1 → ∀ v2 : Int32, v2 = x1 + 1 → vp_in v2 480 ∧ ∀ v3 : Int32, v3 = z.2.1 16 v2.toNatClampNeg → vp_in x2 24 ∧ ∀ v4 : Int32, v4 = z.2.1 18 x2.toNatClampNeg → ((v3 = v4 → pj_M_gives_44 K z) ∧ (¬ v3 = v4 → ∀ v5 : Int32, v5 = x1 + 1 → vp_in v5 480 ∧ ∀ v6 : Int32, v6 = z.2.1 16 v5.toNatClampNeg → vp_in x2 24 ∧ ∀ v7 : Int32, v7 = z.2.1 20 x2.toNatClampNeg → ((¬ v6 = v7 → pj_M_gives_48 K z) ∧ (v6 = v7 → pj_M_gives_44 K z))))))
def pj_M_look_173 (K : Sta → Prop) (R23 : Int32 → Int32 → Int32 → Sta → Prop) (x1 : Int32) (x2 : Int32) (x3 : Int32) (y0 : Int32) (y1 : Int32) (z : Sta) : Prop :=
  vp_in y1 16 ∧ ∀ z18 : Sta, z18 = zA z 24 (upd (z.2.1 24) y1.toNatClampNeg (vp_nar .boolean y0)) → ∀ v19 : Int32, v19 = x3 + 1 → R23 x1 x2 v19 z18
def pj_M_look_168 (K : Sta → Prop) (R23 : Int32 → Int32 → Int32 → Sta → Prop) (x1 : Int32) (x2 : Int32) (x3 : Int32) (y0 : Int32) (z : Sta) : Prop :=
  pj_M_look_173 K R23 x1 x2 x3 1 y0 z
def pj_M_look_143 (K : Sta → Prop) (R23 : Int32 → Int32 → Int32 → Sta → Prop) (x1 : Int32) (x2 : Int32) (x3 : Int32) (x4 : Int32) (y0 : Int32) (y1 : Int32) (z : Sta) : Prop :=
  vp_in y1 16 ∧ ∀ z15 : Sta, z15 = zA z 26 (upd (z.2.1 26) y1.toNatClampNeg (vp_nar .boolean y0)) → vp_in x1 16 ∧ ∀ v16 : Int32, v16 = z15.2.1 24 x1.toNatClampNeg → ((¬ v16 = 0 → pj_M_look_168 K R23 x1 x2 x3 x1 z15) ∧ (v16 = 0 → wp_M_gives x4 x2 z15 (fun rz17 z17 => ((rz17 = 0 → pj_M_look_173 K R23 x1 x2 x3 0 x1 z17) ∧ (¬ rz17 = 0 → pj_M_look_168 K R23 x1 x2 x3 x1 z17)))))
def pj_M_look_142 (K : Sta → Prop) (R23 : Int32 → Int32 → Int32 → Sta → Prop) (x1 : Int32) (x2 : Int32) (x3 : Int32) (x4 : Int32) (y0 : Int32) (z : Sta) : Prop :=
  pj_M_look_143 K R23 x1 x2 x3 x4 0 y0 z
def pj_M_look_128 (K : Sta → Prop) (R23 : Int32 → Int32 → Int32 → Sta → Prop) (x1 : Int32) (x2 : Int32) (x3 : Int32) (x4 : Int32) (y0 : Int32) (z : Sta) : Prop :=
  wp_M_gives x4 x2 z (fun rz20 z20 => ((¬ rz20 = 0 → pj_M_look_142 K R23 x1 x2 x3 x4 y0 z20) ∧ (rz20 = 0 → pj_M_look_143 K R23 x1 x2 x3 x4 1 y0 z20)))
def pj_M_look_108 (K : Sta → Prop) (R23 : Int32 → Int32 → Int32 → Sta → Prop) (x1 : Int32) (x2 : Int32) (x3 : Int32) (x4 : Int32) (x5 : Int32) (y0 : Int32) (y1 : Int32) (z : Sta) : Prop :=
  vp_in y1 16 ∧ ∀ z13 : Sta, z13 = zA z 25 (upd (z.2.1 25) y1.toNatClampNeg (vp_nar .boolean y0)) → vp_in x1 16 ∧ ∀ v14 : Int32, v14 = z13.2.1 26 x1.toNatClampNeg → ((¬ v14 = 0 → pj_M_look_128 K R23 x1 x2 x3 x4 x1 z13) ∧ (v14 = 0 → ((x5 = 0 → pj_M_look_142 K R23 x1 x2 x3 x4 x1 z13) ∧ (¬ x5 = 0 → pj_M_look_128 K R23 x1 x2 x3 x4 x1 z13))))
def pj_M_look_107 (K : Sta → Prop) (R23 : Int32 → Int32 → Int32 → Sta → Prop) (x1 : Int32) (x2 : Int32) (x3 : Int32) (x4 : Int32) (x5 : Int32) (y0 : Int32) (z : Sta) : Prop :=
  pj_M_look_108 K R23 x1 x2 x3 x4 x5 0 y0 z
def pj_M_look_103 (K : Sta → Prop) (R23 : Int32 → Int32 → Int32 → Sta → Prop) (x1 : Int32) (x2 : Int32) (x3 : Int32) (x4 : Int32) (x5 : Int32) (y0 : Int32) (z : Sta) : Prop :=
  pj_M_look_108 K R23 x1 x2 x3 x4 x5 1 y0 z
def pj_M_look_73 (K : Sta → Prop) (R23 : Int32 → Int32 → Int32 → Sta → Prop) (x1 : Int32) (x2 : Int32) (x3 : Int32) (x4 : Int32) (y0 : Int32) (z : Sta) : Prop :=
  vp_in x1 16 ∧ ∀ v11 : Int32, v11 = z.2.1 25 x1.toNatClampNeg → ((¬ v11 = 0 → pj_M_look_103 K R23 x1 x2 x3 x4 y0 x1 z) ∧ (v11 = 0 → ((y0 = 0 → pj_M_look_107 K R23 x1 x2 x3 x4 y0 x1 z) ∧ (¬ y0 = 0 → vp_in x1 16 ∧ ∀ v12 : Int32, v12 = z.2.1 24 x1.toNatClampNeg → ((¬ v12 = 0 → pj_M_look_107 K R23 x1 x2 x3 x4 y0 x1 z) ∧ (v12 = 0 → pj_M_look_103 K R23 x1 x2 x3 x4 y0 x1 z))))))
def pj_M_look_72 (K : Sta → Prop) (R23 : Int32 → Int32 → Int32 → Sta → Prop) (x1 : Int32) (x2 : Int32) (x3 : Int32) (x4 : Int32) (z : Sta) : Prop :=
  pj_M_look_73 K R23 x1 x2 x3 x4 0 z
def lp_M_look_23 (K : Sta → Prop) : Nat → Int32 → Int32 → Int32 → Sta → Prop
  | 0, _, _, _, _ => False
  | n + 1, x1, x2, x3, z => vp_in x1 16 ∧ ∀ v4 : Int32, v4 = z.2.1 15 x1.toNatClampNeg → ((v4 ≤ x3 → K z) ∧ (¬ v4 ≤ x3 → ∀ v5 : Int32, v5 = 30 * x1 → ∀ v6 : Int32, v6 = 6 * x3 → ∀ v7 : Int32, v7 = v5 + v6 → vp_in v7 480 ∧ ∀ v8 : Int32, v8 = z.2.1 16 v7.toNatClampNeg → ((¬ v8 = (2 : Int32) → pj_M_look_72 K (fun x1 x2 x3 z => lp_M_look_23 K n x1 x2 x3 z) x1 x2 x3 v7 z) ∧ (v8 = (2 : Int32) → ∀ v9 : Int32, v9 = v7 + 5 → vp_in v9 480 ∧ ∀ v10 : Int32, v10 = z.2.1 16 v9.toNatClampNeg → ((¬ v10 = x2 → pj_M_look_72 K (fun x1 x2 x3 z => lp_M_look_23 K n x1 x2 x3 z) x1 x2 x3 v7 z) ∧ (v10 = x2 → pj_M_look_73 K (fun x1 x2 x3 z => lp_M_look_23 K n x1 x2 x3 z) x1 x2 x3 v7 1 z))))))
def wp_M_look (x1 : Int32) (x2 : Int32) (z : Sta) (K : Sta → Prop) : Prop :=
  vp_in x1 16 ∧ ∀ z1 : Sta, z1 = zA z 24 (upd (z.2.1 24) x1.toNatClampNeg (vp_nar .boolean (0 : Int32))) → vp_in x1 16 ∧ ∀ z2 : Sta, z2 = zA z1 25 (upd (z1.2.1 25) x1.toNatClampNeg (vp_nar .boolean (0 : Int32))) → vp_in x1 16 ∧ ∀ z3 : Sta, z3 = zA z2 26 (upd (z2.2.1 26) x1.toNatClampNeg (vp_nar .boolean (0 : Int32))) → ∃ n23 : Nat, lp_M_look_23 K n23 x1 x2 0 z3
def pj_M_thereBefore_47 (K : Int32 → Sta → Prop) (R12 : Int32 → Int32 → Int32 → Sta → Prop) (x1 : Int32) (x3 : Int32) (y0 : Int32) (z : Sta) : Prop :=
  ∀ v4 : Int32, v4 = x3 + 1 → R12 x1 y0 v4 z
def pj_M_thereBefore_46 (K : Int32 → Sta → Prop) (R12 : Int32 → Int32 → Int32 → Sta → Prop) (x1 : Int32) (x3 : Int32) (z : Sta) : Prop :=
  pj_M_thereBefore_47 K R12 x1 x3 0 z
def pj_M_thereBefore_42 (K : Int32 → Sta → Prop) (R12 : Int32 → Int32 → Int32 → Sta → Prop) (x1 : Int32) (x3 : Int32) (z : Sta) : Prop :=
  pj_M_thereBefore_47 K R12 x1 x3 1 z
def lp_M_thereBefore_12 (K : Int32 → Sta → Prop) : Nat → Int32 → Int32 → Int32 → Sta → Prop
  | 0, _, _, _, _ => False
  | n + 1, x1, x2, x3, z => ∀ v1 : Int32, v1 = z.1 8 → ((v1 ≤ x3 → (x2 = 0 ∨ x2 = 1) ∧ K x2 z) ∧ (¬ v1 ≤ x3 → ((x2 = 0 → pj_M_thereBefore_46 K (fun x1 x2 x3 z => lp_M_thereBefore_12 K n x1 x2 x3 z) x1 x3 z) ∧ (¬ x2 = 0 → wp_M_edge x3 x1 z (fun rz2 z2 => ((rz2 = 0 → pj_M_thereBefore_42 K (fun x1 x2 x3 z => lp_M_thereBefore_12 K n x1 x2 x3 z) x1 x3 z2) ∧ (¬ rz2 = 0 → vp_in x3 16 ∧ ∀ v3 : Int32, v3 = z2.2.1 28 x3.toNatClampNeg → ((v3 = 0 → pj_M_thereBefore_46 K (fun x1 x2 x3 z => lp_M_thereBefore_12 K n x1 x2 x3 z) x1 x3 z2) ∧ (¬ v3 = 0 → pj_M_thereBefore_42 K (fun x1 x2 x3 z => lp_M_thereBefore_12 K n x1 x2 x3 z) x1 x3 z2)))))))))
def pj_M_thereBefore_9 (K : Int32 → Sta → Prop) (x1 : Int32) (y0 : Int32) (z : Sta) : Prop :=
  ∃ n12 : Nat, lp_M_thereBefore_12 K n12 x1 y0 0 z
def wp_M_thereBefore (x1 : Int32) (z : Sta) (K : Int32 → Sta → Prop) : Prop :=
  ((x1 ≤ 0 → pj_M_thereBefore_9 K x1 0 z) ∧ (¬ x1 ≤ 0 → pj_M_thereBefore_9 K x1 1 z))
def pj_M_wantedBehind_81 (K : Int32 → Sta → Prop) (y0 : Int32) (z : Sta) : Prop :=
  (y0 = 0 ∨ y0 = 1) ∧ K y0 z
def pj_M_wantedBehind_80 (K : Int32 → Sta → Prop) (z : Sta) : Prop :=
  pj_M_wantedBehind_81 K 0 z
def pj_M_wantedBehind_61 (K : Int32 → Sta → Prop) (R7 : Int32 → Int32 → Int32 → Int32 → Sta → Prop) (x1 : Int32) (x2 : Int32) (x4 : Int32) (y0 : Int32) (z : Sta) : Prop :=
  ∀ v3 : Int32, v3 = x4 + 1 → R7 x1 x2 y0 v3 z
def pj_M_wantedBehind_60 (K : Int32 → Sta → Prop) (R7 : Int32 → Int32 → Int32 → Int32 → Sta → Prop) (x1 : Int32) (x2 : Int32) (x4 : Int32) (z : Sta) : Prop :=
  pj_M_wantedBehind_61 K R7 x1 x2 x4 0 z
def pj_M_wantedBehind_56 (K : Int32 → Sta → Prop) (R7 : Int32 → Int32 → Int32 → Int32 → Sta → Prop) (x1 : Int32) (x2 : Int32) (x4 : Int32) (z : Sta) : Prop :=
  pj_M_wantedBehind_61 K R7 x1 x2 x4 1 z
def pj_M_wantedBehind_36 (K : Int32 → Sta → Prop) (R7 : Int32 → Int32 → Int32 → Int32 → Sta → Prop) (x1 : Int32) (x3 : Int32) (x4 : Int32) (x5 : Int32) (y0 : Int32) (z : Sta) : Prop :=
  ((x3 = 0 → pj_M_wantedBehind_60 K R7 x1 y0 x4 z) ∧ (¬ x3 = 0 → ((x5 < 0 → pj_M_wantedBehind_56 K R7 x1 y0 x4 z) ∧ (¬ x5 < 0 → vp_in x5 16 ∧ ∀ v2 : Int32, v2 = z.2.1 29 x5.toNatClampNeg → ((v2 = 0 → pj_M_wantedBehind_60 K R7 x1 y0 x4 z) ∧ (¬ v2 = 0 → pj_M_wantedBehind_56 K R7 x1 y0 x4 z))))))
def pj_M_wantedBehind_31 (K : Int32 → Sta → Prop) (R7 : Int32 → Int32 → Int32 → Int32 → Sta → Prop) (x1 : Int32) (x3 : Int32) (x4 : Int32) (x5 : Int32) (z : Sta) : Prop :=
  pj_M_wantedBehind_36 K R7 x1 x3 x4 x5 1 z
def lp_M_wantedBehind_7 (K : Int32 → Sta → Prop) : Nat → Int32 → Int32 → Int32 → Int32 → Sta → Prop
  | 0, _, _, _, _, _ => False
  | n + 1, x1, x2, x3, x4, z => (((2 : Int32) ≤ x4 → ((x2 = 0 → pj_M_wantedBehind_80 K z) ∧ (¬ x2 = 0 → ((x3 = 0 → pj_M_wantedBehind_80 K z) ∧ (¬ x3 = 0 → pj_M_wantedBehind_81 K 1 z))))) ∧ (¬ (2 : Int32) ≤ x4 → wp_M_next x1 x4 z (fun rz1 z1 => ((¬ x2 = 0 → pj_M_wantedBehind_31 K (fun x1 x2 x3 x4 z => lp_M_wantedBehind_7 K n x1 x2 x3 x4 z) x1 x3 x4 rz1 z1) ∧ (x2 = 0 → ((rz1 < 0 → pj_M_wantedBehind_36 K (fun x1 x2 x3 x4 z => lp_M_wantedBehind_7 K n x1 x2 x3 x4 z) x1 x3 x4 rz1 0 z1) ∧ (¬ rz1 < 0 → pj_M_wantedBehind_31 K (fun x1 x2 x3 x4 z => lp_M_wantedBehind_7 K n x1 x2 x3 x4 z) x1 x3 x4 rz1 z1)))))))
def wp_M_wantedBehind (x1 : Int32) (z : Sta) (K : Int32 → Sta → Prop) : Prop :=
  ∃ n7 : Nat, lp_M_wantedBehind_7 K n7 x1 0 1 0 z
def pj_M_earliest_44 (K : Int32 → Sta → Prop) (y0 : Int32) (z : Sta) : Prop :=
  (y0 = 0 ∨ y0 = 1) ∧ K y0 z
def pj_M_earliest_43 (K : Int32 → Sta → Prop) (z : Sta) : Prop :=
  pj_M_earliest_44 K 0 z
def pj_M_earliest_39 (K : Int32 → Sta → Prop) (z : Sta) : Prop :=
  pj_M_earliest_44 K 1 z
def wp_M_earliest (x1 : Int32) (x2 : Int32) (z : Sta) (K : Int32 → Sta → Prop) : Prop :=
  vp_in x2 16 ∧ ∀ v1 : Int32, v1 = z.2.1 29 x2.toNatClampNeg → ((v1 = 0 → pj_M_earliest_43 K z) ∧ (¬ v1 = 0 → ((x1 < 0 → pj_M_earliest_39 K z) ∧ (¬ x1 < 0 → vp_in x1 16 ∧ ∀ v2 : Int32, v2 = z.2.1 28 x1.toNatClampNeg → ((¬ v2 = 0 → pj_M_earliest_43 K z) ∧ (v2 = 0 → vp_in x1 16 ∧ ∀ v3 : Int32, v3 = z.2.1 24 x1.toNatClampNeg → ((¬ v3 = 0 → pj_M_earliest_39 K z) ∧ (v3 = 0 → wp_M_wantedBehind x1 z (fun rz4 z4 => ((¬ rz4 = 0 → pj_M_earliest_43 K z4) ∧ (rz4 = 0 → pj_M_earliest_39 K z4)))))))))))
def pj_M_laterOn_36 (K : Int32 → Sta → Prop) (y0 : Int32) (z : Sta) : Prop :=
  (y0 = 0 ∨ y0 = 1) ∧ K y0 z
def pj_M_laterOn_35 (K : Int32 → Sta → Prop) (z : Sta) : Prop :=
  pj_M_laterOn_36 K 0 z
def pj_M_laterOn_31 (K : Int32 → Sta → Prop) (z : Sta) : Prop :=
  pj_M_laterOn_36 K 1 z
def wp_M_laterOn (x1 : Int32) (x2 : Int32) (z : Sta) (K : Int32 → Sta → Prop) : Prop :=
  wp_M_earliest x1 x2 z (fun rz1 z1 => ((¬ rz1 = 0 → pj_M_laterOn_31 K z1) ∧ (rz1 = 0 → ((x1 < 0 → pj_M_laterOn_35 K z1) ∧ (¬ x1 < 0 → vp_in x1 16 ∧ ∀ v2 : Int32, v2 = z1.2.1 31 x1.toNatClampNeg → ((v2 = 0 → pj_M_laterOn_35 K z1) ∧ (¬ v2 = 0 → vp_in x1 16 ∧ ∀ v3 : Int32, v3 = z1.2.1 25 x1.toNatClampNeg → ((¬ v3 = 0 → pj_M_laterOn_35 K z1) ∧ (v3 = 0 → pj_M_laterOn_31 K z1)))))))))
def pj_M_lateBefore_56 (K : Int32 → Sta → Prop) (R21 : Int32 → Int32 → Int32 → Sta → Prop) (x1 : Int32) (x3 : Int32) (y0 : Int32) (z : Sta) : Prop :=
  ∀ v5 : Int32, v5 = x3 + 1 → R21 x1 y0 v5 z
def pj_M_lateBefore_55 (K : Int32 → Sta → Prop) (R21 : Int32 → Int32 → Int32 → Sta → Prop) (x1 : Int32) (x3 : Int32) (z : Sta) : Prop :=
  pj_M_lateBefore_56 K R21 x1 x3 0 z
def pj_M_lateBefore_51 (K : Int32 → Sta → Prop) (R21 : Int32 → Int32 → Int32 → Sta → Prop) (x1 : Int32) (x3 : Int32) (z : Sta) : Prop :=
  pj_M_lateBefore_56 K R21 x1 x3 1 z
def lp_M_lateBefore_21 (K : Int32 → Sta → Prop) : Nat → Int32 → Int32 → Int32 → Sta → Prop
  | 0, _, _, _, _ => False
  | n + 1, x1, x2, x3, z => ∀ v2 : Int32, v2 = z.1 8 → ((v2 ≤ x3 → (x2 = 0 ∨ x2 = 1) ∧ K x2 z) ∧ (¬ v2 ≤ x3 → ((x2 = 0 → pj_M_lateBefore_55 K (fun x1 x2 x3 z => lp_M_lateBefore_21 K n x1 x2 x3 z) x1 x3 z) ∧ (¬ x2 = 0 → wp_M_edge x3 x1 z (fun rz3 z3 => ((rz3 = 0 → pj_M_lateBefore_51 K (fun x1 x2 x3 z => lp_M_lateBefore_21 K n x1 x2 x3 z) x1 x3 z3) ∧ (¬ rz3 = 0 → wp_M_laterOn x3 x1 z3 (fun rz4 z4 => ((rz4 = 0 → pj_M_lateBefore_55 K (fun x1 x2 x3 z => lp_M_lateBefore_21 K n x1 x2 x3 z) x1 x3 z4) ∧ (¬ rz4 = 0 → pj_M_lateBefore_51 K (fun x1 x2 x3 z => lp_M_lateBefore_21 K n x1 x2 x3 z) x1 x3 z4))))))))))
def pj_M_lateBefore_18 (K : Int32 → Sta → Prop) (x1 : Int32) (y0 : Int32) (z : Sta) : Prop :=
  ∃ n21 : Nat, lp_M_lateBefore_21 K n21 x1 y0 0 z
def pj_M_lateBefore_13 (K : Int32 → Sta → Prop) (x1 : Int32) (z : Sta) : Prop :=
  pj_M_lateBefore_18 K x1 1 z
def wp_M_lateBefore (x1 : Int32) (z : Sta) (K : Int32 → Sta → Prop) : Prop :=
  ((0 < x1 → pj_M_lateBefore_13 K x1 z) ∧ (¬ 0 < x1 → wp_M_laterOn (-1) 0 z (fun rz1 z1 => ((rz1 = 0 → pj_M_lateBefore_18 K x1 0 z1) ∧ (¬ rz1 = 0 → pj_M_lateBefore_13 K x1 z1)))))
def pj_M_settle_221 (K : Sta → Prop) (R10 : Int32 → Int32 → Int32 → Sta → Prop) (x1 : Int32) (x2 : Int32) (x3 : Int32) (z : Sta) : Prop :=
  ∀ v16 : Int32, v16 = x3 + 1 → R10 x1 x2 v16 z
def pj_M_settle_208 (K : Sta → Prop) (R10 : Int32 → Int32 → Int32 → Sta → Prop) (x1 : Int32) (x2 : Int32) (x3 : Int32) (x5 : Int32) (z : Sta) : Prop :=
  ((¬ x1 = (2 : Int32) → pj_M_settle_221 K R10 x1 x2 x3 z) ∧ (x1 = (2 : Int32) → vp_in x3 16 ∧ ∀ z15 : Sta, z15 = zA z 31 (upd (z.2.1 31) x3.toNatClampNeg (vp_nar .boolean x5)) → pj_M_settle_221 K R10 x1 x2 x3 z15))
def pj_M_settle_195 (K : Sta → Prop) (R10 : Int32 → Int32 → Int32 → Sta → Prop) (x1 : Int32) (x2 : Int32) (x3 : Int32) (x5 : Int32) (z : Sta) : Prop :=
  ((¬ x1 = (1 : Int32) → pj_M_settle_208 K R10 x1 x2 x3 x5 z) ∧ (x1 = (1 : Int32) → vp_in x3 16 ∧ ∀ z14 : Sta, z14 = zA z 29 (upd (z.2.1 29) x3.toNatClampNeg (vp_nar .boolean x5)) → pj_M_settle_208 K R10 x1 x2 x3 x5 z14))
def pj_M_settle_182 (K : Sta → Prop) (R10 : Int32 → Int32 → Int32 → Sta → Prop) (x1 : Int32) (x3 : Int32) (x5 : Int32) (y0 : Int32) (z : Sta) : Prop :=
  ((¬ x1 = 0 → pj_M_settle_195 K R10 x1 y0 x3 x5 z) ∧ (x1 = 0 → vp_in x3 16 ∧ ∀ z13 : Sta, z13 = zA z 28 (upd (z.2.1 28) x3.toNatClampNeg (vp_nar .boolean x5)) → pj_M_settle_195 K R10 x1 y0 x3 x5 z13))
def pj_M_settle_181 (K : Sta → Prop) (R10 : Int32 → Int32 → Int32 → Sta → Prop) (x1 : Int32) (x3 : Int32) (x5 : Int32) (z : Sta) : Prop :=
  pj_M_settle_182 K R10 x1 x3 x5 0 z
def pj_M_settle_177 (K : Sta → Prop) (R10 : Int32 → Int32 → Int32 → Sta → Prop) (x1 : Int32) (x3 : Int32) (x5 : Int32) (z : Sta) : Prop :=
  pj_M_settle_182 K R10 x1 x3 x5 1 z
def pj_M_settle_161 (K : Sta → Prop) (R10 : Int32 → Int32 → Int32 → Sta → Prop) (x1 : Int32) (x2 : Int32) (x3 : Int32) (x4 : Int32) (y0 : Int32) (z : Sta) : Prop :=
  ((¬ x2 = 0 → pj_M_settle_177 K R10 x1 x3 y0 z) ∧ (x2 = 0 → ((x4 = 0 → pj_M_settle_181 K R10 x1 x3 y0 z) ∧ (¬ x4 = 0 → ((¬ y0 = 0 → pj_M_settle_181 K R10 x1 x3 y0 z) ∧ (y0 = 0 → pj_M_settle_177 K R10 x1 x3 y0 z))))))
def pj_M_settle_160 (K : Sta → Prop) (R10 : Int32 → Int32 → Int32 → Sta → Prop) (x1 : Int32) (x2 : Int32) (x3 : Int32) (x4 : Int32) (z : Sta) : Prop :=
  pj_M_settle_161 K R10 x1 x2 x3 x4 0 z
def pj_M_settle_156 (K : Sta → Prop) (R10 : Int32 → Int32 → Int32 → Sta → Prop) (x1 : Int32) (x2 : Int32) (x3 : Int32) (x4 : Int32) (z : Sta) : Prop :=
  pj_M_settle_161 K R10 x1 x2 x3 x4 1 z
def pj_M_settle_74 (K : Sta → Prop) (R10 : Int32 → Int32 → Int32 → Sta → Prop) (x1 : Int32) (x2 : Int32) (x3 : Int32) (y0 : Int32) (z : Sta) : Prop :=
  ((y0 = 0 → pj_M_settle_160 K R10 x1 x2 x3 y0 z) ∧ (¬ y0 = 0 → ((¬ x1 = 0 → ((¬ x1 = (1 : Int32) → wp_M_lateBefore x3 z (fun rz6 z6 => ((rz6 = 0 → pj_M_settle_160 K R10 x1 x2 x3 y0 z6) ∧ (¬ rz6 = 0 → pj_M_settle_156 K R10 x1 x2 x3 y0 z6)))) ∧ (x1 = (1 : Int32) → vp_in x3 16 ∧ ∀ v7 : Int32, v7 = z.2.1 25 x3.toNatClampNeg → ((¬ v7 = 0 → pj_M_settle_156 K R10 x1 x2 x3 y0 z) ∧ (v7 = 0 → wp_M_wantedBehind x3 z (fun rz8 z8 => ((rz8 = 0 → pj_M_settle_160 K R10 x1 x2 x3 y0 z8) ∧ (¬ rz8 = 0 → vp_in x3 16 ∧ ∀ v9 : Int32, v9 = z8.2.1 24 x3.toNatClampNeg → ((¬ v9 = 0 → pj_M_settle_160 K R10 x1 x2 x3 y0 z8) ∧ (v9 = 0 → pj_M_settle_156 K R10 x1 x2 x3 y0 z8)))))))))) ∧ (x1 = 0 → vp_in x3 16 ∧ ∀ v10 : Int32, v10 = z.2.1 26 x3.toNatClampNeg → ((¬ v10 = 0 → pj_M_settle_156 K R10 x1 x2 x3 y0 z) ∧ (v10 = 0 → wp_M_thereBefore x3 z (fun rz11 z11 => ((rz11 = 0 → pj_M_settle_160 K R10 x1 x2 x3 y0 z11) ∧ (¬ rz11 = 0 → vp_in x3 16 ∧ ∀ v12 : Int32, v12 = z11.2.1 24 x3.toNatClampNeg → ((¬ v12 = 0 → pj_M_settle_160 K R10 x1 x2 x3 y0 z11) ∧ (v12 = 0 → pj_M_settle_156 K R10 x1 x2 x3 y0 z11)))))))))))
def pj_M_settle_73 (K : Sta → Prop) (R10 : Int32 → Int32 → Int32 → Sta → Prop) (x1 : Int32) (x2 : Int32) (x3 : Int32) (z : Sta) : Prop :=
  pj_M_settle_74 K R10 x1 x2 x3 0 z
def pj_M_settle_69 (K : Sta → Prop) (R10 : Int32 → Int32 → Int32 → Sta → Prop) (x1 : Int32) (x2 : Int32) (x3 : Int32) (z : Sta) : Prop :=
  pj_M_settle_74 K R10 x1 x2 x3 1 z
def lp_M_settle_10 (K : Sta → Prop) (R2 : Int32 → Int32 → Sta → Prop) : Nat → Int32 → Int32 → Int32 → Sta → Prop
  | 0, _, _, _, _ => False
  | n + 1, x1, x2, x3, z => ∀ v1 : Int32, v1 = z.1 8 → ((v1 ≤ x3 → R2 x1 x2 z) ∧ (¬ v1 ≤ x3 → vp_in x3 16 ∧ ∀ v2 : Int32, v2 = z.2.1 21 x3.toNatClampNeg → ((v2 = 0 → pj_M_settle_73 K (fun x1 x2 x3 z => lp_M_settle_10 K R2 n x1 x2 x3 z) x1 x2 x3 z) ∧ (¬ v2 = 0 → ((¬ x1 = 0 → ((¬ x1 = (1 : Int32) → vp_in x3 16 ∧ ∀ v3 : Int32, v3 = z.2.1 31 x3.toNatClampNeg → ((v3 = 0 → pj_M_settle_73 K (fun x1 x2 x3 z => lp_M_settle_10 K R2 n x1 x2 x3 z) x1 x2 x3 z) ∧ (¬ v3 = 0 → pj_M_settle_69 K (fun x1 x2 x3 z => lp_M_settle_10 K R2 n x1 x2 x3 z) x1 x2 x3 z))) ∧ (x1 = (1 : Int32) → vp_in x3 16 ∧ ∀ v4 : Int32, v4 = z.2.1 29 x3.toNatClampNeg → ((v4 = 0 → pj_M_settle_73 K (fun x1 x2 x3 z => lp_M_settle_10 K R2 n x1 x2 x3 z) x1 x2 x3 z) ∧ (¬ v4 = 0 → pj_M_settle_69 K (fun x1 x2 x3 z => lp_M_settle_10 K R2 n x1 x2 x3 z) x1 x2 x3 z))))) ∧ (x1 = 0 → vp_in x3 16 ∧ ∀ v5 : Int32, v5 = z.2.1 28 x3.toNatClampNeg → ((v5 = 0 → pj_M_settle_73 K (fun x1 x2 x3 z => lp_M_settle_10 K R2 n x1 x2 x3 z) x1 x2 x3 z) ∧ (¬ v5 = 0 → pj_M_settle_69 K (fun x1 x2 x3 z => lp_M_settle_10 K R2 n x1 x2 x3 z) x1 x2 x3 z))))))))
def lp_M_settle_2 (K : Sta → Prop) : Nat → Int32 → Int32 → Sta → Prop
  | 0, _, _, _ => False
  | n + 1, x1, x2, z => ((x2 = 0 → K z) ∧ (¬ x2 = 0 → ∃ n10 : Nat, lp_M_settle_10 K (fun x1 x2 z => lp_M_settle_2 K n x1 x2 z) n10 x1 0 0 z))
def wp_M_settle (x1 : Int32) (z : Sta) (K : Sta → Prop) : Prop :=
  ∃ n2 : Nat, lp_M_settle_2 K n2 x1 1 z
def pj_M_mark_24 (K : Sta → Prop) (y0 : Int32) (y1 : Int32) (y2 : Int32) (z : Sta) : Prop :=
  ∀ v5 : Int32, v5 = y1 ||| y0 → vp_in y2 96 ∧ ∀ z6 : Sta, z6 = zA z 22 (upd (z.2.1 22) y2.toNatClampNeg v5) → K z6
def wp_M_mark (x1 : Int32) (x2 : Int32) (x3 : Int32) (x4 : Int32) (z : Sta) (K : Sta → Prop) : Prop :=
  ∀ v1 : Int32, v1 = 6 * x1 → ∀ v2 : Int32, v2 = v1 + x2 → vp_in v2 96 ∧ ∀ v3 : Int32, v3 = z.2.1 22 v2.toNatClampNeg → ((x4 = 0 → pj_M_mark_24 K 0 v3 v2 z) ∧ (¬ x4 = 0 → ∀ v4 : Int32, v4 = 1 <<< (x3 &&& 31) → pj_M_mark_24 K v4 v3 v2 z))
def pj_M_plans_319 (K : Sta → Prop) (y0 : Int32) (y1 : Int32) (z : Sta) : Prop :=
  ∀ v43 : Int32, v43 = y1 ||| y0 → ∀ z44 : Sta, z44 = zI z 12 v43 → K z44
def pj_M_plans_301 (K : Sta → Prop) (x1 : Int32) (x2 : Int32) (y0 : Int32) (y1 : Int32) (y2 : Int32) (z : Sta) : Prop :=
  ∀ v39 : Int32, v39 = y1 ||| y0 → vp_in y2 257 ∧ ∀ z40 : Sta, z40 = zA z 23 (upd (z.2.1 23) y2.toNatClampNeg v39) → ∀ v41 : Int32, v41 = z40.1 12 → ((x2 = 0 → pj_M_plans_319 K 0 v41 z40) ∧ (¬ x2 = 0 → ∀ v42 : Int32, v42 = 1 <<< (x1 &&& 31) → pj_M_plans_319 K v42 v41 z40))
def pj_M_plans_300 (K : Sta → Prop) (x1 : Int32) (x2 : Int32) (y0 : Int32) (y1 : Int32) (z : Sta) : Prop :=
  pj_M_plans_301 K x1 x2 0 y0 y1 z
def pj_M_plans_261 (K : Sta → Prop) (R63 : Int32 → Int32 → Int32 → Sta → Prop) (x1 : Int32) (x2 : Int32) (x3 : Int32) (z : Sta) : Prop :=
  ∀ v38 : Int32, v38 = x3 + 1 → R63 x1 x2 v38 z
def pj_M_plans_253 (K : Sta → Prop) (R195 : Int32 → Int32 → Int32 → Int32 → Sta → Prop) (x1 : Int32) (x2 : Int32) (x3 : Int32) (x5 : Int32) (y0 : Int32) (y1 : Int32) (y2 : Int32) (z : Sta) : Prop :=
  ∀ v35 : Int32, v35 = y1 ||| y0 → vp_in y2 257 ∧ ∀ z36 : Sta, z36 = zA z 23 (upd (z.2.1 23) y2.toNatClampNeg v35) → ∀ v37 : Int32, v37 = x5 + 1 → R195 x1 x2 x3 v37 z36
def pj_M_plans_252 (K : Sta → Prop) (R195 : Int32 → Int32 → Int32 → Int32 → Sta → Prop) (x1 : Int32) (x2 : Int32) (x3 : Int32) (x5 : Int32) (y0 : Int32) (y1 : Int32) (z : Sta) : Prop :=
  pj_M_plans_253 K R195 x1 x2 x3 x5 0 y0 y1 z
def lp_M_plans_195 (K : Sta → Prop) (R63 : Int32 → Int32 → Int32 → Sta → Prop) : Nat → Int32 → Int32 → Int32 → Int32 → Sta → Prop
  | 0, _, _, _, _, _ => False
  | n + 1, x1, x2, x3, x5, z => ∀ v27 : Int32, v27 = z.1 8 → ((v27 ≤ x5 → pj_M_plans_261 K R63 x1 x2 x3 z) ∧ (¬ v27 ≤ x5 → ∀ v28 : Int32, v28 = 16 * x5 → ∀ v29 : Int32, v29 = v28 + x3 → vp_in v29 257 ∧ ∀ v30 : Int32, v30 = z.2.1 23 v29.toNatClampNeg → wp_M_edge x5 x3 z (fun rz31 z31 => ((rz31 = 0 → pj_M_plans_252 K (fun x1 x2 x3 x5 z => lp_M_plans_195 K R63 n x1 x2 x3 x5 z) x1 x2 x3 x5 v30 v29 z31) ∧ (¬ rz31 = 0 → wp_M_laterOn x5 x3 z31 (fun rz32 z32 => ((rz32 = 0 → pj_M_plans_252 K (fun x1 x2 x3 x5 z => lp_M_plans_195 K R63 n x1 x2 x3 x5 z) x1 x2 x3 x5 v30 v29 z32) ∧ (¬ rz32 = 0 → vp_in x3 16 ∧ ∀ v33 : Int32, v33 = z32.2.1 31 x3.toNatClampNeg → ((¬ v33 = 0 → pj_M_plans_252 K (fun x1 x2 x3 x5 z => lp_M_plans_195 K R63 n x1 x2 x3 x5 z) x1 x2 x3 x5 v30 v29 z32) ∧ (v33 = 0 → ∀ v34 : Int32, v34 = 1 <<< (x1 &&& 31) → pj_M_plans_253 K (fun x1 x2 x3 x5 z => lp_M_plans_195 K R63 n x1 x2 x3 x5 z) x1 x2 x3 x5 v34 v30 v29 z32))))))))))
def pj_M_plans_191 (K : Sta → Prop) (R63 : Int32 → Int32 → Int32 → Sta → Prop) (x1 : Int32) (x3 : Int32) (y0 : Int32) (z : Sta) : Prop :=
  ∃ n195 : Nat, lp_M_plans_195 K R63 n195 x1 y0 x3 0 z
def pj_M_plans_186 (K : Sta → Prop) (R63 : Int32 → Int32 → Int32 → Sta → Prop) (x1 : Int32) (x3 : Int32) (z : Sta) : Prop :=
  pj_M_plans_191 K R63 x1 x3 1 z
def pj_M_plans_103 (K : Sta → Prop) (R63 : Int32 → Int32 → Int32 → Sta → Prop) (x1 : Int32) (x2 : Int32) (x3 : Int32) (y0 : Int32) (z : Sta) : Prop :=
  wp_M_thereBefore x3 z (fun rz16 z16 => wp_M_mark x3 0 x1 rz16 z16 (fun z17 => vp_in x3 16 ∧ ∀ v18 : Int32, v18 = z17.2.1 28 x3.toNatClampNeg → wp_M_mark x3 1 x1 v18 z17 (fun z19 => vp_in x3 16 ∧ ∀ v20 : Int32, v20 = z19.2.1 29 x3.toNatClampNeg → wp_M_mark x3 2 x1 v20 z19 (fun z21 => wp_M_wantedBehind x3 z21 (fun rz22 z22 => wp_M_mark x3 3 x1 rz22 z22 (fun z23 => vp_in x3 16 ∧ ∀ v24 : Int32, v24 = z23.2.1 31 x3.toNatClampNeg → wp_M_mark x3 4 x1 v24 z23 (fun z25 => wp_M_mark x3 5 x1 y0 z25 (fun z26 => ((¬ x2 = 0 → pj_M_plans_186 K R63 x1 x3 z26) ∧ (x2 = 0 → ((y0 = 0 → pj_M_plans_191 K R63 x1 x3 0 z26) ∧ (¬ y0 = 0 → pj_M_plans_186 K R63 x1 x3 z26))))))))))))
def pj_M_plans_102 (K : Sta → Prop) (R63 : Int32 → Int32 → Int32 → Sta → Prop) (x1 : Int32) (x2 : Int32) (x3 : Int32) (z : Sta) : Prop :=
  pj_M_plans_103 K R63 x1 x2 x3 0 z
def lp_M_plans_63 (K : Sta → Prop) : Nat → Int32 → Int32 → Int32 → Sta → Prop
  | 0, _, _, _, _ => False
  | n + 1, x1, x2, x3, z => ∀ v8 : Int32, v8 = z.1 8 → ((v8 ≤ x3 → vp_in (256 : Int32) 257 ∧ ∀ v9 : Int32, v9 = z.2.1 23 (256 : Int32).toNatClampNeg → wp_M_laterOn (-1) 0 z (fun rz10 z10 => ((rz10 = 0 → pj_M_plans_300 K x1 x2 v9 256 z10) ∧ (¬ rz10 = 0 → vp_in (0 : Int32) 16 ∧ ∀ v11 : Int32, v11 = z10.2.1 31 (0 : Int32).toNatClampNeg → ((¬ v11 = 0 → pj_M_plans_300 K x1 x2 v9 256 z10) ∧ (v11 = 0 → ∀ v12 : Int32, v12 = 1 <<< (x1 &&& 31) → pj_M_plans_301 K x1 x2 v12 v9 256 z10)))))) ∧ (¬ v8 ≤ x3 → vp_in x3 16 ∧ ∀ v13 : Int32, v13 = z.2.1 21 x3.toNatClampNeg → ((v13 = 0 → pj_M_plans_261 K (fun x1 x2 x3 z => lp_M_plans_63 K n x1 x2 x3 z) x1 x2 x3 z) ∧ (¬ v13 = 0 → vp_in x3 16 ∧ ∀ v14 : Int32, v14 = z.2.1 25 x3.toNatClampNeg → ((v14 = 0 → pj_M_plans_102 K (fun x1 x2 x3 z => lp_M_plans_63 K n x1 x2 x3 z) x1 x2 x3 z) ∧ (¬ v14 = 0 → vp_in x3 16 ∧ ∀ v15 : Int32, v15 = z.2.1 31 x3.toNatClampNeg → ((¬ v15 = 0 → pj_M_plans_102 K (fun x1 x2 x3 z => lp_M_plans_63 K n x1 x2 x3 z) x1 x2 x3 z) ∧ (v15 = 0 → pj_M_plans_103 K (fun x1 x2 x3 z => lp_M_plans_63 K n x1 x2 x3 z) x1 x2 x3 1 z))))))))
def lp_M_plans_43 (K : Sta → Prop) : Nat → Int32 → Int32 → Sta → Prop
  | 0, _, _, _ => False
  | n + 1, x1, x2, z => (((3 : Int32) ≤ x2 → ∃ n63 : Nat, lp_M_plans_63 K n63 x1 0 0 z) ∧ (¬ (3 : Int32) ≤ x2 → wp_M_settle x2 z (fun z6 => ∀ v7 : Int32, v7 = x2 + 1 → lp_M_plans_43 K n x1 v7 z6)))
def lp_M_plans_2 (K : Sta → Prop) : Nat → Int32 → Int32 → Sta → Prop
  | 0, _, _, _ => False
  | n + 1, x1, x2, z => (((16 : Int32) ≤ x2 → ∃ n43 : Nat, lp_M_plans_43 K n43 x1 0 z) ∧ (¬ (16 : Int32) ≤ x2 → wp_M_look x2 x1 z (fun z1 => vp_in x2 16 ∧ ∀ z2 : Sta, z2 = zA z1 28 (upd (z1.2.1 28) x2.toNatClampNeg (vp_nar .boolean (1 : Int32))) → vp_in x2 16 ∧ ∀ z3 : Sta, z3 = zA z2 29 (upd (z2.2.1 29) x2.toNatClampNeg (vp_nar .boolean (1 : Int32))) → vp_in x2 16 ∧ ∀ z4 : Sta, z4 = zA z3 31 (upd (z3.2.1 31) x2.toNatClampNeg (vp_nar .boolean (1 : Int32))) → ∀ v5 : Int32, v5 = x2 + 1 → lp_M_plans_2 K n x1 v5 z4)))
def wp_M_plans (x1 : Int32) (z : Sta) (K : Sta → Prop) : Prop :=
  ∃ n2 : Nat, lp_M_plans_2 K n2 x1 0 z
def lp_M_bits_4 (K : Int32 → Sta → Prop) : Nat → Int32 → Int32 → Int32 → Sta → Prop
  | 0, _, _, _, _ => False
  | n + 1, x0, x1, x2, z => (((24 : Int32) ≤ x2 → K x1 z) ∧ (¬ (24 : Int32) ≤ x2 → ∀ v1 : Int32, v1 = x0 >>> (x2 &&& 31) → ∀ v2 : Int32, v2 = v1 &&& 1 → ∀ v3 : Int32, v3 = x1 + v2 → ∀ v4 : Int32, v4 = x2 + 1 → lp_M_bits_4 K n x0 v3 v4 z))
def wp_M_bits (x0 : Int32) (z : Sta) (K : Int32 → Sta → Prop) : Prop :=
  ∃ n4 : Nat, lp_M_bits_4 K n4 x0 0 0 z
def lp_M_plan_85 (K : Int32 → Sta → Prop) : Nat → Int32 → Sta → Prop
  | 0, _, _ => False
  | n + 1, x1, z => ∀ v12 : Int32, v12 = z.1 9 → ((v12 ≤ x1 → ∀ z13 : Sta, z13 = zI z 10 (1 : Int32) → ∀ v14 : Int32, v14 = z13.1 11 → ∀ v15 : Int32, v15 = v14 + 1 → ∀ z16 : Sta, z16 = zI z13 11 v15 → ∀ v17 : Int32, v17 = z16.1 12 → wp_M_bits v17 z16 (fun rz18 z18 => K rz18 z18)) ∧ (¬ v12 ≤ x1 → wp_M_plans x1 z (fun z19 => ∀ v20 : Int32, v20 = x1 + 1 → lp_M_plan_85 K n v20 z19)))
def lp_M_plan_63 (K : Int32 → Sta → Prop) : Nat → Int32 → Sta → Prop
  | 0, _, _ => False
  | n + 1, x1, z => (((257 : Int32) ≤ x1 → ∃ n85 : Nat, lp_M_plan_85 K n85 0 z) ∧ (¬ (257 : Int32) ≤ x1 → vp_in x1 257 ∧ ∀ z10 : Sta, z10 = zA z 23 (upd (z.2.1 23) x1.toNatClampNeg (0 : Int32)) → ∀ v11 : Int32, v11 = x1 + 1 → lp_M_plan_63 K n v11 z10))
def lp_M_plan_42 (K : Int32 → Sta → Prop) : Nat → Int32 → Sta → Prop
  | 0, _, _ => False
  | n + 1, x1, z => (((96 : Int32) ≤ x1 → ∃ n63 : Nat, lp_M_plan_63 K n63 0 z) ∧ (¬ (96 : Int32) ≤ x1 → vp_in x1 96 ∧ ∀ z8 : Sta, z8 = zA z 22 (upd (z.2.1 22) x1.toNatClampNeg (0 : Int32)) → ∀ v9 : Int32, v9 = x1 + 1 → lp_M_plan_42 K n v9 z8))
def wp_M_plan (z : Sta) (K : Int32 → Sta → Prop) : Prop :=
  ∀ z1 : Sta, z1 = zI z 7 (0 : Int32) → ∀ v2 : Int32, v2 = z1.1 8 → ((¬ v2 = 0 → wp_M_whole z1 (fun rz3 z3 => ((¬ rz3 = 0 → wp_M_reach z3 (fun z4 => ∀ z5 : Sta, z5 = zI z4 12 (0 : Int32) → ∃ n42 : Nat, lp_M_plan_42 K n42 0 z5)) ∧ (rz3 = 0 → wp_M_fail 2 z3 (fun rz6 z6 => K rz6 z6))))) ∧ (v2 = 0 → wp_M_fail 1 z1 (fun rz7 z7 => K rz7 z7)))
def pj_M_set_63 (K : Int64 → Sta → Prop) (y0 : Int64) (z : Sta) : Prop :=
  K y0 z
def pj_M_set_57 (K : Int64 → Sta → Prop) (z : Sta) : Prop :=
  wp_M_fail 2 z (fun rz13 z13 => ∀ v14 : Int64, v14 = rz13.toInt64 → pj_M_set_63 K v14 z13)
def wp_M_set (x1 : Int32) (x2 : Int32) (z : Sta) (K : Int64 → Sta → Prop) : Prop :=
  ∀ z1 : Sta, z1 = zI z 7 (0 : Int32) → ∀ v2 : Int32, v2 = z1.1 10 → ((¬ v2 = 0 → ∀ v3 : Int32, v3 = z1.1 8 → ∀ v4 : Int32, v4 = v3 - 1 → wp_M_within x1 0 v4 z1 (fun rz5 z5 => ((rz5 = 0 → pj_M_set_57 K z5) ∧ (¬ rz5 = 0 → wp_M_within x2 0 5 z5 (fun rz6 z6 => ((rz6 = 0 → pj_M_set_57 K z6) ∧ (¬ rz6 = 0 → ∀ v7 : Int32, v7 = 6 * x1 → ∀ v8 : Int32, v8 = v7 + x2 → vp_in v8 96 ∧ ∀ v9 : Int32, v9 = z6.2.1 22 v8.toNatClampNeg → ∀ v10 : Int64, v10 = v9.toInt64 → pj_M_set_63 K v10 z6))))))) ∧ (v2 = 0 → wp_M_fail 1 z1 (fun rz11 z11 => ∀ v12 : Int64, v12 = rz11.toInt64 → K v12 z11)))
def pj_M_isEdge_57 (K : Int32 → Sta → Prop) (y0 : Int32) (z : Sta) : Prop :=
  (y0 = 0 ∨ y0 = 1) ∧ K y0 z
def pj_M_isEdge_56 (K : Int32 → Sta → Prop) (z : Sta) : Prop :=
  pj_M_isEdge_57 K 0 z
def pj_M_isEdge_14 (K : Int32 → Sta → Prop) (y0 : Int32) (z : Sta) : Prop :=
  (y0 = 0 ∨ y0 = 1) ∧ K y0 z
def wp_M_isEdge (x1 : Int32) (x2 : Int32) (z : Sta) (K : Int32 → Sta → Prop) : Prop :=
  ((¬ x1 = (-1 : Int32) → ∀ v1 : Int32, v1 = z.1 8 → ∀ v2 : Int32, v2 = v1 - 1 → wp_M_within x1 0 v2 z (fun rz3 z3 => ((rz3 = 0 → pj_M_isEdge_56 K z3) ∧ (¬ rz3 = 0 → ∀ v4 : Int32, v4 = z3.1 8 → ∀ v5 : Int32, v5 = v4 - 1 → wp_M_within x2 0 v5 z3 (fun rz6 z6 => ((rz6 = 0 → pj_M_isEdge_56 K z6) ∧ (¬ rz6 = 0 → wp_M_edge x1 x2 z6 (fun rz7 z7 => ((rz7 = 0 → pj_M_isEdge_56 K z7) ∧ (¬ rz7 = 0 → pj_M_isEdge_57 K 1 z7)))))))))) ∧ (x1 = (-1 : Int32) → ((¬ x2 = 0 → pj_M_isEdge_14 K 0 z) ∧ (x2 = 0 → pj_M_isEdge_14 K 1 z))))
def pj_M_put_59 (K : Int64 → Sta → Prop) (y0 : Int64) (z : Sta) : Prop :=
  K y0 z
def pj_M_put_48 (K : Int64 → Sta → Prop) (y0 : Int32) (z : Sta) : Prop :=
  vp_in y0 257 ∧ ∀ v10 : Int32, v10 = z.2.1 23 y0.toNatClampNeg → ∀ v11 : Int64, v11 = v10.toInt64 → pj_M_put_59 K v11 z
def wp_M_put (x1 : Int32) (x2 : Int32) (z : Sta) (K : Int64 → Sta → Prop) : Prop :=
  ∀ z1 : Sta, z1 = zI z 7 (0 : Int32) → ∀ v2 : Int32, v2 = z1.1 10 → ((¬ v2 = 0 → wp_M_isEdge x1 x2 z1 (fun rz3 z3 => ((rz3 = 0 → wp_M_fail 2 z3 (fun rz4 z4 => ∀ v5 : Int64, v5 = rz4.toInt64 → pj_M_put_59 K v5 z4)) ∧ (¬ rz3 = 0 → ((0 ≤ x1 → ∀ v6 : Int32, v6 = 16 * x1 → ∀ v7 : Int32, v7 = v6 + x2 → pj_M_put_48 K v7 z3) ∧ (¬ 0 ≤ x1 → pj_M_put_48 K 256 z3)))))) ∧ (v2 = 0 → wp_M_fail 1 z1 (fun rz8 z8 => ∀ v9 : Int64, v9 = rz8.toInt64 → K v9 z8)))
def pj_M_expression_29 (K : Int32 → Sta → Prop) (y0 : Int32) (z : Sta) : Prop :=
  K y0 z
def wp_M_expression (x1 : Int32) (x2 : Int32) (x3 : Int32) (z : Sta) (K : Int32 → Sta → Prop) : Prop :=
  ∀ z1 : Sta, z1 = zI z 7 (0 : Int32) → wp_M_find x1 x2 x3 z1 (fun rz2 z2 => ((0 ≤ rz2 → pj_M_expression_29 K rz2 z2) ∧ (¬ 0 ≤ rz2 → wp_M_fail 1 z2 (fun rz3 z3 => pj_M_expression_29 K rz3 z3))))
def pj_M_worked_109 (K : Int32 → Sta → Prop) (y0 : Int32) (z : Sta) : Prop :=
  K y0 z
def wp_M_worked (x1 : Int32) (z : Sta) (K : Int32 → Sta → Prop) : Prop :=
  vp_in x1 24 ∧ ∀ v1 : Int32, v1 = z.2.1 18 x1.toNatClampNeg → vp_in v1 6 ∧ ∀ v2 : Int32, v2 = z.2.1 32 v1.toNatClampNeg → vp_in x1 24 ∧ ∀ v3 : Int32, v3 = z.2.1 20 x1.toNatClampNeg → vp_in v3 6 ∧ ∀ v4 : Int32, v4 = z.2.1 32 v3.toNatClampNeg → vp_in x1 24 ∧ ∀ v5 : Int32, v5 = z.2.1 19 x1.toNatClampNeg → ∀ v6 : Int32, v6 = z.1 15 → ∀ v7 : Int32, v7 = v6 + 1 → ∀ z8 : Sta, z8 = zI z 15 v7 → vp_in x1 24 ∧ ∀ v9 : Int32, v9 = z8.2.1 34 x1.toNatClampNeg → ∀ v10 : Int32, v10 = v9 + 1 → vp_in x1 24 ∧ ∀ z11 : Sta, z11 = zA z8 34 (upd (z8.2.1 34) x1.toNatClampNeg v10) → ((¬ v5 = 0 → ((¬ v5 = (1 : Int32) → ((¬ v5 = (2 : Int32) → ((¬ v5 = (3 : Int32) → ((v4 ≤ v2 → pj_M_worked_109 K 0 z11) ∧ (¬ v4 ≤ v2 → pj_M_worked_109 K 1 z11))) ∧ (v5 = (3 : Int32) → ∀ v12 : Int32, v12 = v2 &&& v4 → pj_M_worked_109 K v12 z11))) ∧ (v5 = (2 : Int32) → ∀ v13 : Int32, v13 = v2 * v4 → pj_M_worked_109 K v13 z11))) ∧ (v5 = (1 : Int32) → ∀ v14 : Int32, v14 = v2 - v4 → pj_M_worked_109 K v14 z11))) ∧ (v5 = 0 → ∀ v15 : Int32, v15 = v2 + v4 → pj_M_worked_109 K v15 z11))
def pj_M_cross_30 (K : Sta → Prop) (R2 : Int32 → Int32 → Sta → Prop) (x1 : Int32) (x2 : Int32) (z : Sta) : Prop :=
  ∀ v6 : Int32, v6 = x2 + 1 → R2 x1 v6 z
def lp_M_cross_2 (K : Sta → Prop) : Nat → Int32 → Int32 → Sta → Prop
  | 0, _, _, _ => False
  | n + 1, x1, x2, z => ∀ v1 : Int32, v1 = z.1 9 → ((v1 ≤ x2 → K z) ∧ (¬ v1 ≤ x2 → ∀ v2 : Int32, v2 = x1 >>> (x2 &&& 31) → ∀ v3 : Int32, v3 = v2 &&& 1 → ((¬ v3 = (1 : Int32) → pj_M_cross_30 K (fun x1 x2 z => lp_M_cross_2 K n x1 x2 z) x1 x2 z) ∧ (v3 = (1 : Int32) → wp_M_worked x2 z (fun rz4 z4 => vp_in x2 24 ∧ ∀ z5 : Sta, z5 = zA z4 33 (upd (z4.2.1 33) x2.toNatClampNeg rz4) → pj_M_cross_30 K (fun x1 x2 z => lp_M_cross_2 K n x1 x2 z) x1 x2 z5)))))
def wp_M_cross (x1 : Int32) (z : Sta) (K : Sta → Prop) : Prop :=
  ∃ n2 : Nat, lp_M_cross_2 K n2 x1 0 z
def pj_M_newly_49 (K : Int32 → Sta → Prop) (x3 : Int32) (y0 : Int32) (y1 : Int32) (z : Sta) : Prop :=
  vp_in y1 24 ∧ ∀ z9 : Sta, z9 = zA z 33 (upd (z.2.1 33) y1.toNatClampNeg y0) → K x3 z9
def wp_M_newly (x1 : Int32) (x2 : Int32) (z : Sta) (K : Int32 → Sta → Prop) : Prop :=
  ∀ v1 : Int32, v1 = x2 >>> (x1 &&& 31) → ∀ v2 : Int32, v2 = v1 &&& 1 → ((¬ v2 = (1 : Int32) → wp_M_worked x1 z (fun rz3 z3 => ∀ v4 : Int32, v4 = z3.1 12 → ∀ v5 : Int32, v5 = v4 >>> (x1 &&& 31) → ∀ v6 : Int32, v6 = v5 &&& 1 → ((¬ v6 = (1 : Int32) → vp_in x1 24 ∧ ∀ v7 : Int32, v7 = z3.2.1 33 x1.toNatClampNeg → pj_M_newly_49 K rz3 v7 x1 z3) ∧ (v6 = (1 : Int32) → pj_M_newly_49 K rz3 rz3 x1 z3)))) ∧ (v2 = (1 : Int32) → vp_in x1 24 ∧ ∀ v8 : Int32, v8 = z.2.1 33 x1.toNatClampNeg → K v8 z))
def pj_M_pass_221 (K : Sta → Prop) (R23 : Int32 → Int32 → Int32 → Int32 → Sta → Prop) (x1 : Int32) (x2 : Int32) (x3 : Int32) (x4 : Int32) (z : Sta) : Prop :=
  ∀ v28 : Int32, v28 = x4 + 1 → R23 x1 x2 x3 v28 z
def pj_M_pass_211 (K : Sta → Prop) (R23 : Int32 → Int32 → Int32 → Int32 → Sta → Prop) (x1 : Int32) (x2 : Int32) (x3 : Int32) (x4 : Int32) (z : Sta) : Prop :=
  ∀ v33 : Int32, v33 = z.1 13 → ∀ v34 : Int32, v34 = v33 + 1 → ∀ z35 : Sta, z35 = zI z 13 v34 → pj_M_pass_221 K R23 x1 x2 x3 x4 z35
def pj_M_pass_163 (K : Sta → Prop) (R23 : Int32 → Int32 → Int32 → Int32 → Sta → Prop) (x1 : Int32) (x2 : Int32) (x3 : Int32) (x4 : Int32) (x6 : Int32) (x7 : Int32) (y0 : Int32) (z : Sta) : Prop :=
  ∀ v29 : Int32, v29 = 1 <<< (x7 &&& 31) → ∀ v30 : Int32, v30 = v29 ^^^ (-1) → ∀ v31 : Int32, v31 = x3 &&& v30 → vp_in x6 6 ∧ ∀ z32 : Sta, z32 = zA z 32 (upd (z.2.1 32) x6.toNatClampNeg y0) → pj_M_pass_221 K R23 x1 x2 v31 x4 z32
def lp_M_pass_23 (K : Sta → Prop) : Nat → Int32 → Int32 → Int32 → Int32 → Sta → Prop
  | 0, _, _, _, _, _ => False
  | n + 1, x1, x2, x3, x4, z => vp_in x1 16 ∧ ∀ v4 : Int32, v4 = z.2.1 15 x1.toNatClampNeg → ((v4 ≤ x4 → K z) ∧ (¬ v4 ≤ x4 → ∀ v5 : Int32, v5 = 30 * x1 → ∀ v6 : Int32, v6 = 6 * x4 → ∀ v7 : Int32, v7 = v5 + v6 → ∀ v8 : Int32, v8 = v7 + 1 → vp_in v8 480 ∧ ∀ v9 : Int32, v9 = z.2.1 16 v8.toNatClampNeg → ∀ v10 : Int32, v10 = v7 + 5 → vp_in v10 480 ∧ ∀ v11 : Int32, v11 = z.2.1 16 v10.toNatClampNeg → vp_in v7 480 ∧ ∀ v12 : Int32, v12 = z.2.1 16 v7.toNatClampNeg → ((¬ v12 = 0 → vp_in v7 480 ∧ ∀ v13 : Int32, v13 = z.2.1 16 v7.toNatClampNeg → ((¬ v13 = (1 : Int32) → vp_in v7 480 ∧ ∀ v14 : Int32, v14 = z.2.1 16 v7.toNatClampNeg → ((¬ v14 = (2 : Int32) → ∀ v15 : Int32, v15 = z.1 13 → (((100 : Int32) ≤ v15 → pj_M_pass_211 K (fun x1 x2 x3 x4 z => lp_M_pass_23 K n x1 x2 x3 x4 z) x1 x2 x3 x4 z) ∧ (¬ (100 : Int32) ≤ v15 → ∀ v16 : Int32, v16 = z.1 13 → vp_in v9 6 ∧ ∀ v17 : Int32, v17 = z.2.1 32 v9.toNatClampNeg → vp_in v16 100 ∧ ∀ z18 : Sta, z18 = zA z 35 (upd (z.2.1 35) v16.toNatClampNeg v17) → pj_M_pass_211 K (fun x1 x2 x3 x4 z => lp_M_pass_23 K n x1 x2 x3 x4 z) x1 x2 x3 x4 z18))) ∧ (v14 = (2 : Int32) → ((x2 = 0 → wp_M_worked v11 z (fun rz19 z19 => pj_M_pass_163 K (fun x1 x2 x3 x4 z => lp_M_pass_23 K n x1 x2 x3 x4 z) x1 x2 x3 x4 v9 v11 rz19 z19)) ∧ (¬ x2 = 0 → wp_M_newly v11 x3 z (fun rz20 z20 => pj_M_pass_163 K (fun x1 x2 x3 x4 z => lp_M_pass_23 K n x1 x2 x3 x4 z) x1 x2 x3 x4 v9 v11 rz20 z20)))))) ∧ (v13 = (1 : Int32) → ∀ v21 : Int32, v21 = v7 + 2 → vp_in v21 480 ∧ ∀ v22 : Int32, v22 = z.2.1 16 v21.toNatClampNeg → vp_in v9 6 ∧ ∀ z23 : Sta, z23 = zA z 32 (upd (z.2.1 32) v9.toNatClampNeg v22) → pj_M_pass_221 K (fun x1 x2 x3 x4 z => lp_M_pass_23 K n x1 x2 x3 x4 z) x1 x2 x3 x4 z23))) ∧ (v12 = 0 → ∀ v24 : Int32, v24 = v7 + 2 → vp_in v24 480 ∧ ∀ v25 : Int32, v25 = z.2.1 16 v24.toNatClampNeg → vp_in v25 6 ∧ ∀ v26 : Int32, v26 = z.2.1 32 v25.toNatClampNeg → vp_in v9 6 ∧ ∀ z27 : Sta, z27 = zA z 32 (upd (z.2.1 32) v9.toNatClampNeg v26) → pj_M_pass_221 K (fun x1 x2 x3 x4 z => lp_M_pass_23 K n x1 x2 x3 x4 z) x1 x2 x3 x4 z27))))
def pj_M_pass_19 (K : Sta → Prop) (x1 : Int32) (x2 : Int32) (y0 : Int32) (z : Sta) : Prop :=
  ∃ n23 : Nat, lp_M_pass_23 K n23 x1 x2 y0 0 z
def wp_M_pass (x1 : Int32) (x2 : Int32) (z : Sta) (K : Sta → Prop) : Prop :=
  ((x2 = 0 → pj_M_pass_19 K x1 x2 0 z) ∧ (¬ x2 = 0 → ∀ v1 : Int32, v1 = 6 * x1 → ∀ v2 : Int32, v2 = v1 + 5 → vp_in v2 96 ∧ ∀ v3 : Int32, v3 = z.2.1 22 v2.toNatClampNeg → pj_M_pass_19 K x1 x2 v3 z))
def pj_M_run_268 (K : Int32 → Sta → Prop) (R138 : Int32 → Int32 → Sta → Prop) (x1 : Int32) (x7 : Int32) (z : Sta) : Prop :=
  R138 x1 x7 z
def pj_M_run_240 (K : Int32 → Sta → Prop) (R138 : Int32 → Int32 → Sta → Prop) (x1 : Int32) (x5 : Int32) (y0 : Int32) (z : Sta) : Prop :=
  ((x1 = 0 → pj_M_run_268 K R138 x1 y0 z) ∧ (¬ x1 = 0 → ((y0 < 0 → pj_M_run_268 K R138 x1 y0 z) ∧ (¬ y0 < 0 → ∀ v29 : Int32, v29 = 16 * x5 → ∀ v30 : Int32, v30 = v29 + y0 → vp_in v30 257 ∧ ∀ v31 : Int32, v31 = z.2.1 23 v30.toNatClampNeg → wp_M_cross v31 z (fun z32 => pj_M_run_268 K R138 x1 y0 z32)))))
def pj_M_run_215 (K : Int32 → Sta → Prop) (R138 : Int32 → Int32 → Sta → Prop) (x1 : Int32) (x5 : Int32) (z : Sta) : Prop :=
  ∀ v33 : Int32, v33 = 4 * x5 → ∀ v34 : Int32, v34 = v33 + 2 → vp_in v34 64 ∧ ∀ v35 : Int32, v35 = z.2.1 17 v34.toNatClampNeg → pj_M_run_240 K R138 x1 x5 v35 z
def pj_M_run_186 (K : Int32 → Sta → Prop) (R138 : Int32 → Int32 → Sta → Prop) (x1 : Int32) (x5 : Int32) (z : Sta) : Prop :=
  pj_M_run_240 K R138 x1 x5 (-1) z
def lp_M_run_138 (K : Int32 → Sta → Prop) : Nat → Int32 → Int32 → Sta → Prop
  | 0, _, _, _ => False
  | n + 1, x1, x5, z => ((x5 < 0 → ∀ v14 : Int32, v14 = z.1 15 → K v14 z) ∧ (¬ x5 < 0 → wp_M_pass x5 x1 z (fun z15 => ∀ v16 : Int32, v16 = z15.1 14 → ∀ v17 : Int32, v17 = v16 + 1 → ∀ z18 : Sta, z18 = zI z15 14 v17 → ∀ v19 : Int32, v19 = 4 * x5 → vp_in v19 64 ∧ ∀ v20 : Int32, v20 = z18.2.1 17 v19.toNatClampNeg → ((v20 = 0 → pj_M_run_186 K (fun x1 x5 z => lp_M_run_138 K n x1 x5 z) x1 x5 z18) ∧ (¬ v20 = 0 → ∀ v21 : Int32, v21 = z18.1 14 → ((¬ v21 = (200 : Int32) → ((v20 = (1 : Int32) → pj_M_run_215 K (fun x1 x5 z => lp_M_run_138 K n x1 x5 z) x1 x5 z18) ∧ (¬ v20 = (1 : Int32) → ∀ v22 : Int32, v22 = 4 * x5 → ∀ v23 : Int32, v23 = v22 + 1 → vp_in v23 64 ∧ ∀ v24 : Int32, v24 = z18.2.1 17 v23.toNatClampNeg → vp_in v24 6 ∧ ∀ v25 : Int32, v25 = z18.2.1 32 v24.toNatClampNeg → ((v25 = 0 → ∀ v26 : Int32, v26 = 4 * x5 → ∀ v27 : Int32, v27 = v26 + 3 → vp_in v27 64 ∧ ∀ v28 : Int32, v28 = z18.2.1 17 v27.toNatClampNeg → pj_M_run_240 K (fun x1 x5 z => lp_M_run_138 K n x1 x5 z) x1 x5 v28 z18) ∧ (¬ v25 = 0 → pj_M_run_215 K (fun x1 x5 z => lp_M_run_138 K n x1 x5 z) x1 x5 z18))))) ∧ (v21 = (200 : Int32) → pj_M_run_186 K (fun x1 x5 z => lp_M_run_138 K n x1 x5 z) x1 x5 z18)))))))
def lp_M_run_75 (K : Int32 → Sta → Prop) : Nat → Int32 → Int32 → Sta → Prop
  | 0, _, _, _ => False
  | n + 1, x1, x5, z => (((24 : Int32) ≤ x5 → ∀ z6 : Sta, z6 = zI z 13 (0 : Int32) → ∀ z7 : Sta, z7 = zI z6 14 (0 : Int32) → ∀ z8 : Sta, z8 = zI z7 15 (0 : Int32) → ((x1 = 0 → ∃ n138 : Nat, lp_M_run_138 K n138 x1 0 z8) ∧ (¬ x1 = 0 → vp_in (256 : Int32) 257 ∧ ∀ v9 : Int32, v9 = z8.2.1 23 (256 : Int32).toNatClampNeg → wp_M_cross v9 z8 (fun z10 => ∃ n138 : Nat, lp_M_run_138 K n138 x1 0 z10)))) ∧ (¬ (24 : Int32) ≤ x5 → vp_in x5 24 ∧ ∀ z11 : Sta, z11 = zA z 33 (upd (z.2.1 33) x5.toNatClampNeg (0 : Int32)) → vp_in x5 24 ∧ ∀ z12 : Sta, z12 = zA z11 34 (upd (z11.2.1 34) x5.toNatClampNeg (0 : Int32)) → ∀ v13 : Int32, v13 = x5 + 1 → lp_M_run_75 K n x1 v13 z12))
def pj_M_run_65 (K : Int32 → Sta → Prop) (R21 : Int32 → Int32 → Int32 → Int32 → Int32 → Sta → Prop) (x1 : Int32) (x2 : Int32) (x3 : Int32) (x4 : Int32) (x5 : Int32) (y0 : Int32) (y1 : Int32) (z : Sta) : Prop :=
  vp_in y1 6 ∧ ∀ z4 : Sta, z4 = zA z 32 (upd (z.2.1 32) y1.toNatClampNeg y0) → ∀ v5 : Int32, v5 = x5 + 1 → R21 x1 x2 x3 x4 v5 z4
def lp_M_run_21 (K : Int32 → Sta → Prop) : Nat → Int32 → Int32 → Int32 → Int32 → Int32 → Sta → Prop
  | 0, _, _, _, _, _, _ => False
  | n + 1, x1, x2, x3, x4, x5, z => (((6 : Int32) ≤ x5 → ∃ n75 : Nat, lp_M_run_75 K n75 x1 0 z) ∧ (¬ (6 : Int32) ≤ x5 → ((¬ x5 = 0 → ((¬ x5 = (1 : Int32) → ((¬ x5 = (2 : Int32) → pj_M_run_65 K (fun x1 x2 x3 x4 x5 z => lp_M_run_21 K n x1 x2 x3 x4 x5 z) x1 x2 x3 x4 x5 0 x5 z) ∧ (x5 = (2 : Int32) → pj_M_run_65 K (fun x1 x2 x3 x4 x5 z => lp_M_run_21 K n x1 x2 x3 x4 x5 z) x1 x2 x3 x4 x5 x4 x5 z))) ∧ (x5 = (1 : Int32) → pj_M_run_65 K (fun x1 x2 x3 x4 x5 z => lp_M_run_21 K n x1 x2 x3 x4 x5 z) x1 x2 x3 x4 x5 x3 x5 z))) ∧ (x5 = 0 → pj_M_run_65 K (fun x1 x2 x3 x4 x5 z => lp_M_run_21 K n x1 x2 x3 x4 x5 z) x1 x2 x3 x4 x5 x2 x5 z))))
def wp_M_run (x1 : Int32) (x2 : Int32) (x3 : Int32) (x4 : Int32) (z : Sta) (K : Int32 → Sta → Prop) : Prop :=
  ∀ z1 : Sta, z1 = zI z 7 (0 : Int32) → ∀ v2 : Int32, v2 = z1.1 10 → ((¬ v2 = 0 → ∃ n21 : Nat, lp_M_run_21 K n21 x1 x2 x3 x4 0 z1) ∧ (v2 = 0 → wp_M_fail 1 z1 (fun rz3 z3 => K rz3 z3)))
def wp_M_outs (z : Sta) (K : Int32 → Sta → Prop) : Prop :=
  ∀ z1 : Sta, z1 = zI z 7 (0 : Int32) → ∀ v2 : Int32, v2 = z1.1 13 → K v2 z1
def pj_M_out_37 (K : Int32 → Sta → Prop) (y0 : Int32) (z : Sta) : Prop :=
  K y0 z
def pj_M_out_32 (K : Int32 → Sta → Prop) (z : Sta) : Prop :=
  wp_M_fail 1 z (fun rz5 z5 => pj_M_out_37 K rz5 z5)
def wp_M_out (x1 : Int32) (z : Sta) (K : Int32 → Sta → Prop) : Prop :=
  ∀ z1 : Sta, z1 = zI z 7 (0 : Int32) → wp_M_within x1 0 99 z1 (fun rz2 z2 => ((rz2 = 0 → pj_M_out_32 K z2) ∧ (¬ rz2 = 0 → ∀ v3 : Int32, v3 = z2.1 13 → ((v3 ≤ x1 → pj_M_out_32 K z2) ∧ (¬ v3 ≤ x1 → vp_in x1 100 ∧ ∀ v4 : Int32, v4 = z2.2.1 35 x1.toNatClampNeg → pj_M_out_37 K v4 z2)))))
def pj_M_variable_28 (K : Int32 → Sta → Prop) (y0 : Int32) (z : Sta) : Prop :=
  K y0 z
def wp_M_variable (x1 : Int32) (z : Sta) (K : Int32 → Sta → Prop) : Prop :=
  ∀ z1 : Sta, z1 = zI z 7 (0 : Int32) → wp_M_within x1 0 5 z1 (fun rz2 z2 => ((rz2 = 0 → wp_M_fail 1 z2 (fun rz3 z3 => pj_M_variable_28 K rz3 z3)) ∧ (¬ rz2 = 0 → vp_in x1 6 ∧ ∀ v4 : Int32, v4 = z2.2.1 32 x1.toNatClampNeg → pj_M_variable_28 K v4 z2)))
def pj_M_computed_29 (K : Int32 → Sta → Prop) (y0 : Int32) (z : Sta) : Prop :=
  K y0 z
def wp_M_computed (x1 : Int32) (z : Sta) (K : Int32 → Sta → Prop) : Prop :=
  ∀ z1 : Sta, z1 = zI z 7 (0 : Int32) → ∀ v2 : Int32, v2 = z1.1 9 → ∀ v3 : Int32, v3 = v2 - 1 → wp_M_within x1 0 v3 z1 (fun rz4 z4 => ((rz4 = 0 → pj_M_computed_29 K 0 z4) ∧ (¬ rz4 = 0 → vp_in x1 24 ∧ ∀ v5 : Int32, v5 = z4.2.1 34 x1.toNatClampNeg → pj_M_computed_29 K v5 z4)))
def pj_M_count_59 (K : Int32 → Sta → Prop) (y0 : Int32) (z : Sta) : Prop :=
  K y0 z
def wp_M_count (x1 : Int32) (z : Sta) (K : Int32 → Sta → Prop) : Prop :=
  ∀ z1 : Sta, z1 = zI z 7 (0 : Int32) → wp_M_within x1 0 3 z1 (fun rz2 z2 => ((¬ rz2 = 0 → ((¬ x1 = 0 → ((¬ x1 = (1 : Int32) → ((¬ x1 = (2 : Int32) → ∀ v3 : Int32, v3 = z2.1 14 → pj_M_count_59 K v3 z2) ∧ (x1 = (2 : Int32) → ∀ v4 : Int32, v4 = z2.1 11 → pj_M_count_59 K v4 z2))) ∧ (x1 = (1 : Int32) → ∀ v5 : Int32, v5 = z2.1 9 → pj_M_count_59 K v5 z2))) ∧ (x1 = 0 → ∀ v6 : Int32, v6 = z2.1 8 → pj_M_count_59 K v6 z2))) ∧ (rz2 = 0 → wp_M_fail 1 z2 (fun rz7 z7 => K rz7 z7))))
def wp_P_addStatement (x1 : Int32) (x2 : Int32) (x3 : Int32) (z : Sta) (K : Int32 → Sta → Prop) : Prop :=
  ∀ v1 : Int32, v1 = z.1 2 → ∀ v2 : Int32, v2 = v1 - 1 → ∀ v3 : Int32, v3 = v2 * 5 → vp_in v2 16 ∧ ∀ v4 : Int32, v4 = z.2.1 0 v2.toNatClampNeg → ∀ v5 : Int32, v5 = v3 + v4 → vp_in v5 80 ∧ ∀ z6 : Sta, z6 = zA z 1 (upd (z.2.1 1) v5.toNatClampNeg x1) → vp_in v5 80 ∧ ∀ z7 : Sta, z7 = zA z6 2 (upd (z6.2.1 2) v5.toNatClampNeg x2) → vp_in v5 80 ∧ ∀ z8 : Sta, z8 = zA z7 3 (upd (z7.2.1 3) v5.toNatClampNeg x3) → vp_in v2 16 ∧ ∀ v9 : Int32, v9 = z8.2.1 0 v2.toNatClampNeg → ∀ v10 : Int32, v10 = v9 + 1 → vp_in v2 16 ∧ ∀ z11 : Sta, z11 = zA z8 0 (upd (z8.2.1 0) v2.toNatClampNeg v10) → vp_in v2 16 ∧ ∀ v12 : Int32, v12 = z11.2.1 0 v2.toNatClampNeg → K v12 z11
