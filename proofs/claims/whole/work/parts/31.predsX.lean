def wp_C_block (z : Sta) (K : Int32 → Sta → Prop) (T : String → Sta → Prop) : Prop :=
  ∀ v1 : Int32, v1 = z.1 2 → ((v1 < (16 : Int32) → ∀ z2 : Sta, z2 = zI z 0 (0 : Int32) → wp_P_addBlock z2 (fun rz3 z3 => K rz3 z3)) ∧ (¬ v1 < (16 : Int32) → T "java/lang/IllegalStateException" z))
def pj_C_statement_81 (K : Int32 → Sta → Prop) (T : String → Sta → Prop) (x1 : Int32) (x2 : Int32) (x6 : Int32) (z : Sta) : Prop :=
  ∀ z4 : Sta, z4 = zI z 0 (0 : Int32) → wp_P_addStatement x1 x2 x6 z4 (fun rz5 z5 => K rz5 z5)
def wp_C_statement (x1 : Int32) (x2 : Int32) (x3 : Int32) (x4 : Int32) (x5 : Int32) (z : Sta) (K : Int32 → Sta → Prop) (T : String → Sta → Prop) : Prop :=
  wp_C_isStatement x1 x2 x3 x4 x5 z (fun rz1 z1 => ((¬ rz1 = 0 → wp_P_takesStatement z1 (fun rz2 z2 => ((¬ rz2 = 0 → ((¬ x1 = (2 : Int32) → pj_C_statement_81 K T x1 x2 x3 z2) ∧ (x1 = (2 : Int32) → wp_P_findOrAddExpression x3 x4 x5 z2 (fun rz3 z3 => ((¬ rz3 = (-1 : Int32) → pj_C_statement_81 K T x1 x2 rz3 z3) ∧ (rz3 = (-1 : Int32) → T "java/lang/IllegalStateException" z3)))))) ∧ (rz2 = 0 → T "java/lang/IllegalStateException" z2)))) ∧ (rz1 = 0 → T "java/lang/IllegalArgumentException" z1)))
def pj_C_end_23 (K : Int32 → Sta → Prop) (T : String → Sta → Prop) (z : Sta) : Prop :=
  T "java/lang/IllegalArgumentException" z
def wp_C_end (x1 : Int32) (x2 : Int32) (x3 : Int32) (x4 : Int32) (x5 : Int32) (z : Sta) (K : Int32 → Sta → Prop) (T : String → Sta → Prop) : Prop :=
  wp_P_hasBlock x1 z (fun rz1 z1 => ((rz1 = 0 → pj_C_end_23 K T z1) ∧ (¬ rz1 = 0 → wp_C_isEnd x2 x3 x4 x5 z1 (fun rz2 z2 => ((¬ rz2 = 0 → ∀ z3 : Sta, z3 = zI z2 0 (0 : Int32) → ((¬ x2 = 0 → ((¬ x2 = (1 : Int32) → wp_P_changeEnd x1 x3 x4 x5 z3 (fun rz4 z4 => K rz4 z4)) ∧ (x2 = (1 : Int32) → wp_P_changeEnd x1 0 x4 x4 z3 (fun rz5 z5 => K rz5 z5)))) ∧ (x2 = 0 → wp_P_changeEnd x1 0 (-1) (-1) z3 (fun rz6 z6 => K rz6 z6)))) ∧ (rz2 = 0 → pj_C_end_23 K T z2))))))
def wp_C_plan (z : Sta) (K : Int32 → Sta → Prop) (T : String → Sta → Prop) : Prop :=
  ∀ v1 : Int32, v1 = z.1 2 → ((¬ v1 = 0 → wp_P_isWhole z (fun rz2 z2 => ((¬ rz2 = 0 → wp_O_findSets z2 (fun z3 => ∀ z4 : Sta, z4 = zI z3 0 (1 : Int32) → ∀ v5 : Int32, v5 = z4.1 1 → ∀ v6 : Int32, v6 = v5 + 1 → ∀ z7 : Sta, z7 = zI z4 1 v6 → wp_O_countMoved z7 (fun rz8 z8 => K rz8 z8))) ∧ (rz2 = 0 → T "java/lang/UnsupportedOperationException" z2)))) ∧ (v1 = 0 → T "java/lang/IllegalStateException" z))
def pj_C_set_37 (K : Int64 → Sta → Prop) (T : String → Sta → Prop) (z : Sta) : Prop :=
  T "java/lang/IndexOutOfBoundsException" z
def wp_C_set (x1 : Int32) (x2 : Int32) (z : Sta) (K : Int64 → Sta → Prop) (T : String → Sta → Prop) : Prop :=
  ∀ v1 : Int32, v1 = z.1 0 → ((¬ v1 = 0 → wp_P_hasBlock x1 z (fun rz2 z2 => ((rz2 = 0 → pj_C_set_37 K T z2) ∧ (¬ rz2 = 0 → ((x2 < 0 → pj_C_set_37 K T z2) ∧ (¬ x2 < 0 → ((x2 ≤ (5 : Int32) → wp_O_setOf x1 x2 z2 (fun rz3 z3 => K rz3 z3)) ∧ (¬ x2 ≤ (5 : Int32) → pj_C_set_37 K T z2)))))))) ∧ (v1 = 0 → T "java/lang/IllegalStateException" z))
def wp_C_put (x1 : Int32) (x2 : Int32) (z : Sta) (K : Int64 → Sta → Prop) (T : String → Sta → Prop) : Prop :=
  ∀ v1 : Int32, v1 = z.1 0 → ((¬ v1 = 0 → wp_O_hasEdge x1 x2 z (fun rz2 z2 => ((¬ rz2 = 0 → wp_O_putOn x1 x2 z2 (fun rz3 z3 => K rz3 z3)) ∧ (rz2 = 0 → T "java/util/NoSuchElementException" z2)))) ∧ (v1 = 0 → T "java/lang/IllegalStateException" z))
def wp_C_expression (x1 : Int32) (x2 : Int32) (x3 : Int32) (z : Sta) (K : Int32 → Sta → Prop) (T : String → Sta → Prop) : Prop :=
  wp_P_findExpression x1 x2 x3 z (fun rz1 z1 => ((¬ rz1 = (-1 : Int32) → K rz1 z1) ∧ (rz1 = (-1 : Int32) → T "java/util/NoSuchElementException" z1)))
def wp_C_run (x1 : Int32) (x2 : Int32) (x3 : Int32) (x4 : Int32) (z : Sta) (K : Int32 → Sta → Prop) (T : String → Sta → Prop) : Prop :=
  ∀ v1 : Int32, v1 = z.1 0 → ((¬ v1 = 0 → wp_K_reset x2 x3 x4 z (fun z2 => wp_K_goThrough x1 z2 (fun z3 => ∀ v4 : Int32, v4 = z3.1 4 → K v4 z3))) ∧ (v1 = 0 → T "java/lang/IllegalStateException" z))
def pj_C_out_21 (K : Int32 → Sta → Prop) (T : String → Sta → Prop) (z : Sta) : Prop :=
  T "java/lang/IndexOutOfBoundsException" z
def wp_C_out (x1 : Int32) (z : Sta) (K : Int32 → Sta → Prop) (T : String → Sta → Prop) : Prop :=
  ((x1 < 0 → pj_C_out_21 K T z) ∧ (¬ x1 < 0 → (((100 : Int32) ≤ x1 → pj_C_out_21 K T z) ∧ (¬ (100 : Int32) ≤ x1 → ∀ v1 : Int32, v1 = z.1 5 → ((x1 < v1 → vp_in x1 100 ∧ ∀ v2 : Int32, v2 = z.2.1 13 x1.toNatClampNeg → K v2 z) ∧ (¬ x1 < v1 → pj_C_out_21 K T z))))))
def wp_C_variable (x1 : Int32) (z : Sta) (K : Int32 → Sta → Prop) (T : String → Sta → Prop) : Prop :=
  wp_C_isVariable x1 z (fun rz1 z1 => ((¬ rz1 = 0 → vp_in x1 6 ∧ ∀ v2 : Int32, v2 = z1.2.1 11 x1.toNatClampNeg → K v2 z1) ∧ (rz1 = 0 → T "java/lang/IndexOutOfBoundsException" z1)))
def wp_C_count (x1 : Int32) (z : Sta) (K : Int32 → Sta → Prop) (T : String → Sta → Prop) : Prop :=
  ((x1 = 0 → ∀ v1 : Int32, v1 = z.1 2 → K v1 z) ∧ (x1 = 1 → ∀ v2 : Int32, v2 = z.1 3 → K v2 z) ∧ (x1 = 2 → ∀ v3 : Int32, v3 = z.1 1 → K v3 z) ∧ (x1 = 3 → ∀ v4 : Int32, v4 = z.1 6 → K v4 z) ∧ (¬ x1 = 0 ∧ ¬ x1 = 1 ∧ ¬ x1 = 2 ∧ ¬ x1 = 3 → T "java/lang/IndexOutOfBoundsException" z))
