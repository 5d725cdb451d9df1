-- 02: the state of both sides as numbers, the world made of it, own rows over it
abbrev Sta : Type := (Nat → Int32) × (Nat → Nat → Int32) × (Nat → Nat → Int64)
def zI (z : Sta) (k : Nat) (v : Int32) : Sta := (fun j => if j = k then v else z.1 j, z.2.1, z.2.2)
def zA (z : Sta) (k : Nat) (f : Nat → Int32) : Sta := (z.1, fun j => if j = k then f else z.2.1 j, z.2.2)
def zL (z : Sta) (k : Nat) (f : Nat → Int64) : Sta := (z.1, z.2.1, fun j => if j = k then f else z.2.2 j)
def lw_g : List Cond := lw_tbl.filter goodWord
theorem wk_good : ∀ w ∈ lw_g, (w.onTables && w.keeps) = true ∨ ∃ ty, w = .arrayClass ty := fun w h => good_of_word (List.mem_filter.mp h).2
theorem wk_in {w : Cond} (i : Nat) (h : tables_1[i]? = some w) (hg : goodWord w = true) : w ∈ lw_g := List.mem_filter.mpr ⟨List.mem_append_right _ (List.mem_of_getElem? h), hg⟩
theorem wk_is {w : Cond} (i : Nat) (h : (k2_sels lw_privs)[i]? = some w) (hg : goodWord w = true) : w ∈ lw_g := List.mem_filter.mpr ⟨List.mem_append_left _ (List.mem_of_getElem? h), hg⟩
def kr_C : String := "LazyMotion"
def kt_C : u_T := fun k => match k with
  | 0 => ("LazyMotion", "program", "LLazyMotion$Program;", true)
  | 1 => ("LazyMotion", "motion", "LLazyMotion$Motion;", true)
  | 2 => ("LazyMotion", "machine", "LLazyMotion$Machine;", true)
  | 3 => ("LazyMotion", "planned", "Z", false)
  | _ => ("LazyMotion", "plans", "I", false)
abbrev kn_C : Nat := 5
def ky_C : Nat → FieldType := fun k => match k with
  | 0 => .object "LazyMotion$Program"
  | 1 => .object "LazyMotion$Motion"
  | 2 => .object "LazyMotion$Machine"
  | 3 => .boolean
  | _ => .int
theorem ko_C : ∀ k, k < 5 → parseFieldDescriptor (kt_C k).2.2.1 = some (ky_C k) := by decide +kernel
theorem km_C : ∀ a, a < 5 → ∀ b, b < 5 → a ≠ b → (kt_C a).2.1 ≠ (kt_C b).2.1 := by decide +kernel
def kr_P : String := "LazyMotion$Program"
def kt_P : u_T := fun k => match k with
  | 0 => ("LazyMotion$Program", "blocks", "I", false)
  | 1 => ("LazyMotion$Program", "expressions", "I", false)
  | 2 => ("LazyMotion$Program", "sizes", "[I", true)
  | 3 => ("LazyMotion$Program", "kinds", "[I", true)
  | 4 => ("LazyMotion$Program", "targets", "[I", true)
  | 5 => ("LazyMotion$Program", "operands", "[I", true)
  | 6 => ("LazyMotion$Program", "tested", "[I", true)
  | 7 => ("LazyMotion$Program", "firsts", "[I", true)
  | 8 => ("LazyMotion$Program", "seconds", "[I", true)
  | 9 => ("LazyMotion$Program", "lefts", "[I", true)
  | 10 => ("LazyMotion$Program", "operators", "[I", true)
  | 11 => ("LazyMotion$Program", "rights", "[I", true)
  | _ => ("LazyMotion$Program", "users", "[J", true)
abbrev kn_P : Nat := 13
def ky_P : Nat → FieldType := fun k => match k with
  | 0 => .int
  | 1 => .int
  | 2 => .array .int
  | 3 => .array .int
  | 4 => .array .int
  | 5 => .array .int
  | 6 => .array .int
  | 7 => .array .int
  | 8 => .array .int
  | 9 => .array .int
  | 10 => .array .int
  | 11 => .array .int
  | _ => .array .long
theorem ko_P : ∀ k, k < 13 → parseFieldDescriptor (kt_P k).2.2.1 = some (ky_P k) := by decide +kernel
theorem km_P : ∀ a, a < 13 → ∀ b, b < 13 → a ≠ b → (kt_P a).2.1 ≠ (kt_P b).2.1 := by decide +kernel
def kr_O : String := "LazyMotion$Motion"
def kt_O : u_T := fun k => match k with
  | 0 => ("LazyMotion$Motion", "program", "LLazyMotion$Program;", true)
  | 1 => ("LazyMotion$Motion", "reached", "[Z", true)
  | 2 => ("LazyMotion$Motion", "changes", "[J", true)
  | 3 => ("LazyMotion$Motion", "asks", "[J", true)
  | 4 => ("LazyMotion$Motion", "leaves", "[J", true)
  | 5 => ("LazyMotion$Motion", "thereBefore", "[J", true)
  | 6 => ("LazyMotion$Motion", "thereBehind", "[J", true)
  | 7 => ("LazyMotion$Motion", "wantedBefore", "[J", true)
  | 8 => ("LazyMotion$Motion", "wantedBehind", "[J", true)
  | 9 => ("LazyMotion$Motion", "lateBefore", "[J", true)
  | _ => ("LazyMotion$Motion", "takenOut", "[J", true)
abbrev kn_O : Nat := 11
def ky_O : Nat → FieldType := fun k => match k with
  | 0 => .object "LazyMotion$Program"
  | 1 => .array .boolean
  | 2 => .array .long
  | 3 => .array .long
  | 4 => .array .long
  | 5 => .array .long
  | 6 => .array .long
  | 7 => .array .long
  | 8 => .array .long
  | 9 => .array .long
  | _ => .array .long
theorem ko_O : ∀ k, k < 11 → parseFieldDescriptor (kt_O k).2.2.1 = some (ky_O k) := by decide +kernel
theorem km_O : ∀ a, a < 11 → ∀ b, b < 11 → a ≠ b → (kt_O a).2.1 ≠ (kt_O b).2.1 := by decide +kernel
def kr_K : String := "LazyMotion$Machine"
def kt_K : u_T := fun k => match k with
  | 0 => ("LazyMotion$Machine", "computations", "I", false)
  | 1 => ("LazyMotion$Machine", "given", "I", false)
  | 2 => ("LazyMotion$Machine", "passed", "I", false)
  | 3 => ("LazyMotion$Machine", "variables", "[I", true)
  | 4 => ("LazyMotion$Machine", "made", "[I", true)
  | 5 => ("LazyMotion$Machine", "numbers", "[I", true)
  | 6 => ("LazyMotion$Machine", "program", "LLazyMotion$Program;", true)
  | 7 => ("LazyMotion$Machine", "motion", "LLazyMotion$Motion;", true)
  | _ => ("LazyMotion$Machine", "temporaries", "[I", true)
abbrev kn_K : Nat := 9
def ky_K : Nat → FieldType := fun k => match k with
  | 0 => .int
  | 1 => .int
  | 2 => .int
  | 3 => .array .int
  | 4 => .array .int
  | 5 => .array .int
  | 6 => .object "LazyMotion$Program"
  | 7 => .object "LazyMotion$Motion"
  | _ => .array .int
theorem ko_K : ∀ k, k < 9 → parseFieldDescriptor (kt_K k).2.2.1 = some (ky_K k) := by decide +kernel
theorem km_K : ∀ a, a < 9 → ∀ b, b < 9 → a ≠ b → (kt_K a).2.1 ≠ (kt_K b).2.1 := by decide +kernel
def kr_M : String := "LazyMotionModel"
def kt_M : u_T := fun k => match k with
  | 0 => ("LazyMotionModel", "thrown", "I", false)
  | 1 => ("LazyMotionModel", "blocks", "I", false)
  | 2 => ("LazyMotionModel", "sizes", "[I", true)
  | 3 => ("LazyMotionModel", "statements", "[I", true)
  | 4 => ("LazyMotionModel", "ends", "[I", true)
  | 5 => ("LazyMotionModel", "expressions", "I", false)
  | 6 => ("LazyMotionModel", "left", "[I", true)
  | 7 => ("LazyMotionModel", "operator", "[I", true)
  | 8 => ("LazyMotionModel", "right", "[I", true)
  | 9 => ("LazyMotionModel", "planned", "Z", false)
  | 10 => ("LazyMotionModel", "plans", "I", false)
  | 11 => ("LazyMotionModel", "moved", "I", false)
  | 12 => ("LazyMotionModel", "reached", "[Z", true)
  | 13 => ("LazyMotionModel", "sets", "[I", true)
  | 14 => ("LazyMotionModel", "puts", "[I", true)
  | 15 => ("LazyMotionModel", "changes", "[Z", true)
  | 16 => ("LazyMotionModel", "asks", "[Z", true)
  | 17 => ("LazyMotionModel", "leaves", "[Z", true)
  | 18 => ("LazyMotionModel", "before", "[Z", true)
  | 19 => ("LazyMotionModel", "behind", "[Z", true)
  | 20 => ("LazyMotionModel", "wanted", "[Z", true)
  | 21 => ("LazyMotionModel", "later", "[Z", true)
  | 22 => ("LazyMotionModel", "late", "[Z", true)
  | 23 => ("LazyMotionModel", "values", "[I", true)
  | 24 => ("LazyMotionModel", "temporary", "[I", true)
  | 25 => ("LazyMotionModel", "counts", "[I", true)
  | 26 => ("LazyMotionModel", "outs", "I", false)
  | 27 => ("LazyMotionModel", "passed", "I", false)
  | 28 => ("LazyMotionModel", "made", "I", false)
  | _ => ("LazyMotionModel", "out", "[I", true)
abbrev kn_M : Nat := 30
def ky_M : Nat → FieldType := fun k => match k with
  | 0 => .int
  | 1 => .int
  | 2 => .array .int
  | 3 => .array .int
  | 4 => .array .int
  | 5 => .int
  | 6 => .array .int
  | 7 => .array .int
  | 8 => .array .int
  | 9 => .boolean
  | 10 => .int
  | 11 => .int
  | 12 => .array .boolean
  | 13 => .array .int
  | 14 => .array .int
  | 15 => .array .boolean
  | 16 => .array .boolean
  | 17 => .array .boolean
  | 18 => .array .boolean
  | 19 => .array .boolean
  | 20 => .array .boolean
  | 21 => .array .boolean
  | 22 => .array .boolean
  | 23 => .array .int
  | 24 => .array .int
  | 25 => .array .int
  | 26 => .int
  | 27 => .int
  | 28 => .int
  | _ => .array .int
theorem ko_M : ∀ k, k < 30 → parseFieldDescriptor (kt_M k).2.2.1 = some (ky_M k) := by decide +kernel
theorem km_M : ∀ a, a < 30 → ∀ b, b < 30 → a ≠ b → (kt_M a).2.1 ≠ (kt_M b).2.1 := by decide +kernel
def kr_L : String := "LazyMotionLaw"
def kr_A : String := "java/util/Arrays"
def kr_G : String := "java/lang/Long"
abbrev wk_cl : List vw_C := [(kr_C, kt_C, kn_C), (kr_P, kt_P, kn_P), (kr_O, kt_O, kn_O), (kr_K, kt_K, kn_K), (kr_M, kt_M, kn_M)]
def wW (q : Nat → Nat) (cA : Nat → ClassId) (z : Sta) : va_W := [(q 0, .inr (0, [.ref (q 1), .ref (q 2), .ref (q 3), .int (z.1 0), .int (z.1 1)])),
  (q 1, .inr (1, [.int (z.1 2), .int (z.1 3), .ref (q 5), .ref (q 6), .ref (q 7), .ref (q 8), .ref (q 9), .ref (q 10), .ref (q 11), .ref (q 12), .ref (q 13), .ref (q 14), .ref (q 15)])),
  (q 2, .inr (2, [.ref (q 1), .ref (q 16), .ref (q 17), .ref (q 18), .ref (q 19), .ref (q 20), .ref (q 21), .ref (q 22), .ref (q 23), .ref (q 24), .ref (q 25)])),
  (q 3, .inr (3, [.int (z.1 4), .int (z.1 5), .int (z.1 6), .ref (q 26), .ref (q 27), .ref (q 28), .ref (q 1), .ref (q 2), .ref (q 29)])),
  (q 4, .inr (4, [.int (z.1 7), .int (z.1 8), .ref (q 30), .ref (q 31), .ref (q 32), .int (z.1 9), .ref (q 33), .ref (q 34), .ref (q 35), .int (z.1 10), .int (z.1 11), .int (z.1 12), .ref (q 36), .ref (q 37), .ref (q 38), .ref (q 39), .ref (q 40), .ref (q 41), .ref (q 42), .ref (q 43), .ref (q 44), .ref (q 45), .ref (q 46), .ref (q 47), .ref (q 48), .ref (q 49), .int (z.1 13), .int (z.1 14), .int (z.1 15), .ref (q 50)])),
  (q 5, .inl (cA 5, 16, .inl (z.2.1 0))),
  (q 6, .inl (cA 6, 80, .inl (z.2.1 1))),
  (q 7, .inl (cA 7, 80, .inl (z.2.1 2))),
  (q 8, .inl (cA 8, 80, .inl (z.2.1 3))),
  (q 9, .inl (cA 9, 16, .inl (z.2.1 4))),
  (q 10, .inl (cA 10, 16, .inl (z.2.1 5))),
  (q 11, .inl (cA 11, 16, .inl (z.2.1 6))),
  (q 12, .inl (cA 12, 24, .inl (z.2.1 7))),
  (q 13, .inl (cA 13, 24, .inl (z.2.1 8))),
  (q 14, .inl (cA 14, 24, .inl (z.2.1 9))),
  (q 15, .inl (cA 15, 6, .inr (.inl (z.2.2 0)))),
  (q 16, .inl (cA 16, 16, .inl (z.2.1 10))),
  (q 17, .inl (cA 17, 16, .inr (.inl (z.2.2 1)))),
  (q 18, .inl (cA 18, 16, .inr (.inl (z.2.2 2)))),
  (q 19, .inl (cA 19, 16, .inr (.inl (z.2.2 3)))),
  (q 20, .inl (cA 20, 16, .inr (.inl (z.2.2 4)))),
  (q 21, .inl (cA 21, 16, .inr (.inl (z.2.2 5)))),
  (q 22, .inl (cA 22, 16, .inr (.inl (z.2.2 6)))),
  (q 23, .inl (cA 23, 16, .inr (.inl (z.2.2 7)))),
  (q 24, .inl (cA 24, 16, .inr (.inl (z.2.2 8)))),
  (q 25, .inl (cA 25, 16, .inr (.inl (z.2.2 9)))),
  (q 26, .inl (cA 26, 6, .inl (z.2.1 11))),
  (q 27, .inl (cA 27, 24, .inl (z.2.1 12))),
  (q 28, .inl (cA 28, 100, .inl (z.2.1 13))),
  (q 29, .inl (cA 29, 24, .inl (z.2.1 14))),
  (q 30, .inl (cA 30, 16, .inl (z.2.1 15))),
  (q 31, .inl (cA 31, 480, .inl (z.2.1 16))),
  (q 32, .inl (cA 32, 64, .inl (z.2.1 17))),
  (q 33, .inl (cA 33, 24, .inl (z.2.1 18))),
  (q 34, .inl (cA 34, 24, .inl (z.2.1 19))),
  (q 35, .inl (cA 35, 24, .inl (z.2.1 20))),
  (q 36, .inl (cA 36, 16, .inl (z.2.1 21))),
  (q 37, .inl (cA 37, 96, .inl (z.2.1 22))),
  (q 38, .inl (cA 38, 257, .inl (z.2.1 23))),
  (q 39, .inl (cA 39, 16, .inl (z.2.1 24))),
  (q 40, .inl (cA 40, 16, .inl (z.2.1 25))),
  (q 41, .inl (cA 41, 16, .inl (z.2.1 26))),
  (q 42, .inl (cA 42, 16, .inl (z.2.1 27))),
  (q 43, .inl (cA 43, 16, .inl (z.2.1 28))),
  (q 44, .inl (cA 44, 16, .inl (z.2.1 29))),
  (q 45, .inl (cA 45, 16, .inl (z.2.1 30))),
  (q 46, .inl (cA 46, 16, .inl (z.2.1 31))),
  (q 47, .inl (cA 47, 6, .inl (z.2.1 32))),
  (q 48, .inl (cA 48, 24, .inl (z.2.1 33))),
  (q 49, .inl (cA 49, 24, .inl (z.2.1 34))),
  (q 50, .inl (cA 50, 100, .inl (z.2.1 35))),
  (q 51, .inl (cA 51, 1, .inr (.inl (z.2.2 10))))]
def tysW (cA : Nat → ClassId) : List (ClassId × FieldType) := [(cA 5, .int), (cA 6, .int), (cA 7, .int), (cA 8, .int), (cA 9, .int), (cA 10, .int), (cA 11, .int), (cA 12, .int), (cA 13, .int), (cA 14, .int), (cA 15, .long), (cA 16, .boolean), (cA 17, .long), (cA 18, .long), (cA 19, .long), (cA 20, .long), (cA 21, .long), (cA 22, .long), (cA 23, .long), (cA 24, .long), (cA 25, .long), (cA 26, .int), (cA 27, .int), (cA 28, .int), (cA 29, .int), (cA 30, .int), (cA 31, .int), (cA 32, .int), (cA 33, .int), (cA 34, .int), (cA 35, .int), (cA 36, .boolean), (cA 37, .int), (cA 38, .int), (cA 39, .boolean), (cA 40, .boolean), (cA 41, .boolean), (cA 42, .boolean), (cA 43, .boolean), (cA 44, .boolean), (cA 45, .boolean), (cA 46, .boolean), (cA 47, .int), (cA 48, .int), (cA 49, .int), (cA 50, .int), (cA 51, .long)]
theorem ks_5 (q : Nat → Nat) (cA : Nat → ClassId) (z : Sta) : ∀ f : Nat → Int32, (wW q cA z).set 5 (q 5, .inl (cA 5, 16, .inl f)) = wW q cA (zA z 0 f) := fun _ => rfl
theorem ks_6 (q : Nat → Nat) (cA : Nat → ClassId) (z : Sta) : ∀ f : Nat → Int32, (wW q cA z).set 6 (q 6, .inl (cA 6, 80, .inl f)) = wW q cA (zA z 1 f) := fun _ => rfl
theorem ks_7 (q : Nat → Nat) (cA : Nat → ClassId) (z : Sta) : ∀ f : Nat → Int32, (wW q cA z).set 7 (q 7, .inl (cA 7, 80, .inl f)) = wW q cA (zA z 2 f) := fun _ => rfl
theorem ks_8 (q : Nat → Nat) (cA : Nat → ClassId) (z : Sta) : ∀ f : Nat → Int32, (wW q cA z).set 8 (q 8, .inl (cA 8, 80, .inl f)) = wW q cA (zA z 3 f) := fun _ => rfl
theorem ks_9 (q : Nat → Nat) (cA : Nat → ClassId) (z : Sta) : ∀ f : Nat → Int32, (wW q cA z).set 9 (q 9, .inl (cA 9, 16, .inl f)) = wW q cA (zA z 4 f) := fun _ => rfl
theorem ks_10 (q : Nat → Nat) (cA : Nat → ClassId) (z : Sta) : ∀ f : Nat → Int32, (wW q cA z).set 10 (q 10, .inl (cA 10, 16, .inl f)) = wW q cA (zA z 5 f) := fun _ => rfl
theorem ks_11 (q : Nat → Nat) (cA : Nat → ClassId) (z : Sta) : ∀ f : Nat → Int32, (wW q cA z).set 11 (q 11, .inl (cA 11, 16, .inl f)) = wW q cA (zA z 6 f) := fun _ => rfl
theorem ks_12 (q : Nat → Nat) (cA : Nat → ClassId) (z : Sta) : ∀ f : Nat → Int32, (wW q cA z).set 12 (q 12, .inl (cA 12, 24, .inl f)) = wW q cA (zA z 7 f) := fun _ => rfl
theorem ks_13 (q : Nat → Nat) (cA : Nat → ClassId) (z : Sta) : ∀ f : Nat → Int32, (wW q cA z).set 13 (q 13, .inl (cA 13, 24, .inl f)) = wW q cA (zA z 8 f) := fun _ => rfl
theorem ks_14 (q : Nat → Nat) (cA : Nat → ClassId) (z : Sta) : ∀ f : Nat → Int32, (wW q cA z).set 14 (q 14, .inl (cA 14, 24, .inl f)) = wW q cA (zA z 9 f) := fun _ => rfl
theorem ks_15 (q : Nat → Nat) (cA : Nat → ClassId) (z : Sta) : ∀ f : Nat → Int64, (wW q cA z).set 15 (q 15, .inl (cA 15, 6, .inr (.inl f))) = wW q cA (zL z 0 f) := fun _ => rfl
theorem ks_16 (q : Nat → Nat) (cA : Nat → ClassId) (z : Sta) : ∀ f : Nat → Int32, (wW q cA z).set 16 (q 16, .inl (cA 16, 16, .inl f)) = wW q cA (zA z 10 f) := fun _ => rfl
theorem ks_17 (q : Nat → Nat) (cA : Nat → ClassId) (z : Sta) : ∀ f : Nat → Int64, (wW q cA z).set 17 (q 17, .inl (cA 17, 16, .inr (.inl f))) = wW q cA (zL z 1 f) := fun _ => rfl
theorem ks_18 (q : Nat → Nat) (cA : Nat → ClassId) (z : Sta) : ∀ f : Nat → Int64, (wW q cA z).set 18 (q 18, .inl (cA 18, 16, .inr (.inl f))) = wW q cA (zL z 2 f) := fun _ => rfl
theorem ks_19 (q : Nat → Nat) (cA : Nat → ClassId) (z : Sta) : ∀ f : Nat → Int64, (wW q cA z).set 19 (q 19, .inl (cA 19, 16, .inr (.inl f))) = wW q cA (zL z 3 f) := fun _ => rfl
theorem ks_20 (q : Nat → Nat) (cA : Nat → ClassId) (z : Sta) : ∀ f : Nat → Int64, (wW q cA z).set 20 (q 20, .inl (cA 20, 16, .inr (.inl f))) = wW q cA (zL z 4 f) := fun _ => rfl
theorem ks_21 (q : Nat → Nat) (cA : Nat → ClassId) (z : Sta) : ∀ f : Nat → Int64, (wW q cA z).set 21 (q 21, .inl (cA 21, 16, .inr (.inl f))) = wW q cA (zL z 5 f) := fun _ => rfl
theorem ks_22 (q : Nat → Nat) (cA : Nat → ClassId) (z : Sta) : ∀ f : Nat → Int64, (wW q cA z).set 22 (q 22, .inl (cA 22, 16, .inr (.inl f))) = wW q cA (zL z 6 f) := fun _ => rfl
theorem ks_23 (q : Nat → Nat) (cA : Nat → ClassId) (z : Sta) : ∀ f : Nat → Int64, (wW q cA z).set 23 (q 23, .inl (cA 23, 16, .inr (.inl f))) = wW q cA (zL z 7 f) := fun _ => rfl
theorem ks_24 (q : Nat → Nat) (cA : Nat → ClassId) (z : Sta) : ∀ f : Nat → Int64, (wW q cA z).set 24 (q 24, .inl (cA 24, 16, .inr (.inl f))) = wW q cA (zL z 8 f) := fun _ => rfl
theorem ks_25 (q : Nat → Nat) (cA : Nat → ClassId) (z : Sta) : ∀ f : Nat → Int64, (wW q cA z).set 25 (q 25, .inl (cA 25, 16, .inr (.inl f))) = wW q cA (zL z 9 f) := fun _ => rfl
theorem ks_26 (q : Nat → Nat) (cA : Nat → ClassId) (z : Sta) : ∀ f : Nat → Int32, (wW q cA z).set 26 (q 26, .inl (cA 26, 6, .inl f)) = wW q cA (zA z 11 f) := fun _ => rfl
theorem ks_27 (q : Nat → Nat) (cA : Nat → ClassId) (z : Sta) : ∀ f : Nat → Int32, (wW q cA z).set 27 (q 27, .inl (cA 27, 24, .inl f)) = wW q cA (zA z 12 f) := fun _ => rfl
theorem ks_28 (q : Nat → Nat) (cA : Nat → ClassId) (z : Sta) : ∀ f : Nat → Int32, (wW q cA z).set 28 (q 28, .inl (cA 28, 100, .inl f)) = wW q cA (zA z 13 f) := fun _ => rfl
theorem ks_29 (q : Nat → Nat) (cA : Nat → ClassId) (z : Sta) : ∀ f : Nat → Int32, (wW q cA z).set 29 (q 29, .inl (cA 29, 24, .inl f)) = wW q cA (zA z 14 f) := fun _ => rfl
theorem ks_30 (q : Nat → Nat) (cA : Nat → ClassId) (z : Sta) : ∀ f : Nat → Int32, (wW q cA z).set 30 (q 30, .inl (cA 30, 16, .inl f)) = wW q cA (zA z 15 f) := fun _ => rfl
theorem ks_31 (q : Nat → Nat) (cA : Nat → ClassId) (z : Sta) : ∀ f : Nat → Int32, (wW q cA z).set 31 (q 31, .inl (cA 31, 480, .inl f)) = wW q cA (zA z 16 f) := fun _ => rfl
theorem ks_32 (q : Nat → Nat) (cA : Nat → ClassId) (z : Sta) : ∀ f : Nat → Int32, (wW q cA z).set 32 (q 32, .inl (cA 32, 64, .inl f)) = wW q cA (zA z 17 f) := fun _ => rfl
theorem ks_33 (q : Nat → Nat) (cA : Nat → ClassId) (z : Sta) : ∀ f : Nat → Int32, (wW q cA z).set 33 (q 33, .inl (cA 33, 24, .inl f)) = wW q cA (zA z 18 f) := fun _ => rfl
theorem ks_34 (q : Nat → Nat) (cA : Nat → ClassId) (z : Sta) : ∀ f : Nat → Int32, (wW q cA z).set 34 (q 34, .inl (cA 34, 24, .inl f)) = wW q cA (zA z 19 f) := fun _ => rfl
theorem ks_35 (q : Nat → Nat) (cA : Nat → ClassId) (z : Sta) : ∀ f : Nat → Int32, (wW q cA z).set 35 (q 35, .inl (cA 35, 24, .inl f)) = wW q cA (zA z 20 f) := fun _ => rfl
theorem ks_36 (q : Nat → Nat) (cA : Nat → ClassId) (z : Sta) : ∀ f : Nat → Int32, (wW q cA z).set 36 (q 36, .inl (cA 36, 16, .inl f)) = wW q cA (zA z 21 f) := fun _ => rfl
theorem ks_37 (q : Nat → Nat) (cA : Nat → ClassId) (z : Sta) : ∀ f : Nat → Int32, (wW q cA z).set 37 (q 37, .inl (cA 37, 96, .inl f)) = wW q cA (zA z 22 f) := fun _ => rfl
theorem ks_38 (q : Nat → Nat) (cA : Nat → ClassId) (z : Sta) : ∀ f : Nat → Int32, (wW q cA z).set 38 (q 38, .inl (cA 38, 257, .inl f)) = wW q cA (zA z 23 f) := fun _ => rfl
theorem ks_39 (q : Nat → Nat) (cA : Nat → ClassId) (z : Sta) : ∀ f : Nat → Int32, (wW q cA z).set 39 (q 39, .inl (cA 39, 16, .inl f)) = wW q cA (zA z 24 f) := fun _ => rfl
theorem ks_40 (q : Nat → Nat) (cA : Nat → ClassId) (z : Sta) : ∀ f : Nat → Int32, (wW q cA z).set 40 (q 40, .inl (cA 40, 16, .inl f)) = wW q cA (zA z 25 f) := fun _ => rfl
theorem ks_41 (q : Nat → Nat) (cA : Nat → ClassId) (z : Sta) : ∀ f : Nat → Int32, (wW q cA z).set 41 (q 41, .inl (cA 41, 16, .inl f)) = wW q cA (zA z 26 f) := fun _ => rfl
theorem ks_42 (q : Nat → Nat) (cA : Nat → ClassId) (z : Sta) : ∀ f : Nat → Int32, (wW q cA z).set 42 (q 42, .inl (cA 42, 16, .inl f)) = wW q cA (zA z 27 f) := fun _ => rfl
theorem ks_43 (q : Nat → Nat) (cA : Nat → ClassId) (z : Sta) : ∀ f : Nat → Int32, (wW q cA z).set 43 (q 43, .inl (cA 43, 16, .inl f)) = wW q cA (zA z 28 f) := fun _ => rfl
theorem ks_44 (q : Nat → Nat) (cA : Nat → ClassId) (z : Sta) : ∀ f : Nat → Int32, (wW q cA z).set 44 (q 44, .inl (cA 44, 16, .inl f)) = wW q cA (zA z 29 f) := fun _ => rfl
theorem ks_45 (q : Nat → Nat) (cA : Nat → ClassId) (z : Sta) : ∀ f : Nat → Int32, (wW q cA z).set 45 (q 45, .inl (cA 45, 16, .inl f)) = wW q cA (zA z 30 f) := fun _ => rfl
theorem ks_46 (q : Nat → Nat) (cA : Nat → ClassId) (z : Sta) : ∀ f : Nat → Int32, (wW q cA z).set 46 (q 46, .inl (cA 46, 16, .inl f)) = wW q cA (zA z 31 f) := fun _ => rfl
theorem ks_47 (q : Nat → Nat) (cA : Nat → ClassId) (z : Sta) : ∀ f : Nat → Int32, (wW q cA z).set 47 (q 47, .inl (cA 47, 6, .inl f)) = wW q cA (zA z 32 f) := fun _ => rfl
theorem ks_48 (q : Nat → Nat) (cA : Nat → ClassId) (z : Sta) : ∀ f : Nat → Int32, (wW q cA z).set 48 (q 48, .inl (cA 48, 24, .inl f)) = wW q cA (zA z 33 f) := fun _ => rfl
theorem ks_49 (q : Nat → Nat) (cA : Nat → ClassId) (z : Sta) : ∀ f : Nat → Int32, (wW q cA z).set 49 (q 49, .inl (cA 49, 24, .inl f)) = wW q cA (zA z 34 f) := fun _ => rfl
theorem ks_50 (q : Nat → Nat) (cA : Nat → ClassId) (z : Sta) : ∀ f : Nat → Int32, (wW q cA z).set 50 (q 50, .inl (cA 50, 100, .inl f)) = wW q cA (zA z 35 f) := fun _ => rfl
theorem ks_51 (q : Nat → Nat) (cA : Nat → ClassId) (z : Sta) : ∀ f : Nat → Int64, (wW q cA z).set 51 (q 51, .inl (cA 51, 1, .inr (.inl f))) = wW q cA (zL z 10 f) := fun _ => rfl
/-- the machine's heap H holds the state z, nothing but A has changed since H0 -/
def wk_S (D : va_G) (q : Nat → Nat) (cA : Nat → ClassId) (A : Nat → Prop) (H0 : Heap) (z : Sta) (H : Heap) (locs : List Loc) : Prop := va_P D wk_cl (wW q cA z) H ∧ va_D A (wW q cA z) ∧ va_S A H0 H locs
def wk_B (D : va_G) (q : Nat → Nat) (cA : Nat → ClassId) (A : Nat → Prop) (u : Sta) (t : State) : Prop := va_P D wk_cl (wW q cA u) t.heap ∧ va_K D wk_cl (tysW cA) t ∧ va_D A (wW q cA u)
def wk_Pc (D : va_G) (q : Nat → Nat) (cA : Nat → ClassId) (av : List Value) (z : Sta) (sz : Nat) : Array Value → State → Prop := va_Pc av (fun U => U.heap.size = sz ∧ va_P D wk_cl (wW q cA z) U.heap ∧ va_K D wk_cl (tysW cA) U ∧ va_D (fun _ => True) (wW q cA z))
theorem wk_gV {own C : String} {idx : Nat} {y : MethodName} {cd : Cond} (h1 : Cond.methodLink own idx y ∈ lw_g) (h2 : Cond.instanceMethod y ∈ lw_g) (h3 : Cond.selects C y y ∈ lw_g) (h4 : Cond.initialized C ∈ lw_g) (h5 : cd ∈ lw_g) : GoodIn lw_g (wsV own idx C y (cd :: lw_g)) := by
  have key : ∀ w ∈ wsV own idx C y (cd :: lw_g), w ∈ lw_g := by
    intro w hw
    simp only [wsV, List.mem_append, List.mem_cons, List.not_mem_nil, or_false] at hw
    rcases hw with (rfl | rfl | rfl | rfl) | rfl | hw <;> assumption
  exact fun w hw => ⟨key w hw, wk_good w (key w hw)⟩
theorem wk_gS {own : String} {idx : Nat} {y : MethodName} {cd : Cond} (h1 : Cond.methodLink own idx y ∈ lw_g) (h2 : Cond.static y ∈ lw_g) (h3 : Cond.initialized own ∈ lw_g) (h5 : cd ∈ lw_g) : GoodIn lw_g (wsS own idx y (cd :: lw_g)) := by
  have key : ∀ w ∈ wsS own idx y (cd :: lw_g), w ∈ lw_g := by
    intro w hw
    simp only [wsS, List.mem_append, List.mem_cons, List.not_mem_nil, or_false] at hw
    rcases hw with (rfl | rfl | rfl) | rfl | hw <;> assumption
  exact fun w hw => ⟨key w hw, wk_good w (key w hw)⟩
theorem wk_gSU {own : String} {idx : Nat} {y : MethodName} {cd : Cond} (h1 : Cond.methodLink own idx y ∈ lw_g) (h2 : Cond.static y ∈ lw_g) (h3 : Cond.initialized y.cls ∈ lw_g) (h5 : cd ∈ lw_g) : GoodIn lw_g (va_wsS own idx y (cd :: lw_g)) := by
  have key : ∀ w ∈ va_wsS own idx y (cd :: lw_g), w ∈ lw_g := by
    intro w hw
    simp only [va_wsS, List.mem_append, List.mem_cons, List.not_mem_nil, or_false] at hw
    rcases hw with (rfl | rfl | rfl) | rfl | hw <;> assumption
  exact fun w hw => ⟨key w hw, wk_good w (key w hw)⟩
section
variable {p : Program} {l : Launch} {e : Env} {R : Room} {s : State} {m : MethodId} {args : Array Value} {below : List Frame} {meth : Method} {c : Code} {H H0 : Heap} {locs : List Loc} {cells slots : Nat} {Q : State → Prop} {cc : ByteArray} {pc : Nat} {ls : Array Slot} {rest st0 : List Value} {D : va_G} {q : Nat → Nat} {cA : Nat → ClassId} {A : Nat → Prop} {z : Sta} {a : Nat}
theorem wk_free (hV : wk_S D q cA A H0 z H locs) (hA : ∀ x, H0.size ≤ x → A x) : ∀ x, va_A (wW q cA z) H.size x → A x := by
  intro x hx
  rcases hx with ⟨k, en, hk⟩ | hx
  · exact hV.2.1.2 k _ hk
  · exact hA x (Nat.le_trans hV.2.2.1 hx)
theorem wk_blind (av : List Value) (sz : Nat) : FrameBlind (wk_Pc D q cA av z sz) := by
  intro a U g mk h
  obtain ⟨h0, h1, h2, h3, h4⟩ := h
  exact ⟨h0, h1, h2, va_K.moved (u := U) (U := U.calling g mk a) (Vm.Alike.refl U.vm) h3, h4⟩
theorem wk_preS (hK : va_K D wk_cl (tysW cA) s) (hV : wk_S D q cA A H0 z H locs) (As : List Value) : PreS s H (wk_Pc D q cA As z H.size) As :=
  ⟨wk_blind As H.size, fun U hU hW => ⟨rfl, by rw [hU], by rw [hU]; exact hV.1, va_K.moved hW.alike hK, hV.2.1.weaken (fun _ _ _ _ => trivial)⟩⟩
theorem wk_preV (hK : va_K D wk_cl (tysW cA) s) (hV : wk_S D q cA A H0 z H locs) (q0 ci : Nat) {fs : List Value} {r : vw_C} (hc : wk_cl[ci]? = some r) (he : (wW q cA z)[q0]? = some (a, .inr (ci, fs))) (As : List Value) : PreV s H r.1 a (wk_Pc D q cA (.ref a :: As) z H.size) As :=
  ⟨wk_blind _ H.size, va_recv hK hV.1 hc he, fun U hU hW => ⟨rfl, by rw [hU], by rw [hU]; exact hV.1, va_K.moved hW.alike hK, hV.2.1.weaken (fun _ _ _ _ => trivial)⟩⟩
theorem wk_calli {K : Int32 → Sta → Prop} {av : Array Value} (hr : va_Run p l e R s m args below meth c H locs cells slots 0 0 (F0 m pc ls st0) rest (va_Qi K (wk_B D q cA (va_A (wW q cA z) H.size)) (va_A (wW q cA z) H.size) av) (va_A (wW q cA z) H.size)) (hV : wk_S D q cA A H0 z H locs) (hA : ∀ x, H0.size ≤ x → A x)
    (kk : ∀ (r : Int32) (u : Sta) (H1 : Heap) (locs1 : List Loc), K r u → wk_S D q cA A H0 u H1 locs1 → W p l e R s m args below meth c H1 locs1 cells slots Q (F0 m (pc + 3) ls (.int r :: rest))) : W p l e R s m args below meth c H locs cells slots Q (F0 m pc ls st0) :=
  va_calli hr hV.2.2 (fun x _ h => wk_free hV hA x h) (wk_free hV hA) (fun r u t H1 locs1 ht _ hp hB _ _ hS => kk r u H1 locs1 hp ⟨by rw [← ht]; exact hB.1, hB.2.2.weaken (fun k p9 h9 h => wk_free hV hA _ h), hS⟩)
theorem wk_calll {K : Int64 → Sta → Prop} {av : Array Value} (hr : va_Run p l e R s m args below meth c H locs cells slots 0 0 (F0 m pc ls st0) rest (va_Ql K (wk_B D q cA (va_A (wW q cA z) H.size)) (va_A (wW q cA z) H.size) av) (va_A (wW q cA z) H.size)) (hV : wk_S D q cA A H0 z H locs) (hA : ∀ x, H0.size ≤ x → A x)
    (kk : ∀ (r : Int64) (u : Sta) (H1 : Heap) (locs1 : List Loc), K r u → wk_S D q cA A H0 u H1 locs1 → W p l e R s m args below meth c H1 locs1 cells slots Q (F0 m (pc + 3) ls (.long r :: rest))) : W p l e R s m args below meth c H locs cells slots Q (F0 m pc ls st0) :=
  va_calll hr hV.2.2 (fun x _ h => wk_free hV hA x h) (wk_free hV hA) (fun r u t H1 locs1 ht _ hp hB _ _ hS => kk r u H1 locs1 hp ⟨by rw [← ht]; exact hB.1, hB.2.2.weaken (fun k p9 h9 h => wk_free hV hA _ h), hS⟩)
theorem wk_callv {K : Sta → Prop} {av : Array Value} (hr : va_Run p l e R s m args below meth c H locs cells slots 0 0 (F0 m pc ls st0) rest (va_Qv K (wk_B D q cA (va_A (wW q cA z) H.size)) (va_A (wW q cA z) H.size) av) (va_A (wW q cA z) H.size)) (hV : wk_S D q cA A H0 z H locs) (hA : ∀ x, H0.size ≤ x → A x)
    (kk : ∀ (u : Sta) (H1 : Heap) (locs1 : List Loc), K u → wk_S D q cA A H0 u H1 locs1 → W p l e R s m args below meth c H1 locs1 cells slots Q (F0 m (pc + 3) ls rest)) : W p l e R s m args below meth c H locs cells slots Q (F0 m pc ls st0) :=
  va_callv hr hV.2.2 (fun x _ h => wk_free hV hA x h) (wk_free hV hA) (fun u t H1 locs1 ht _ hp hB _ _ hS => kk u H1 locs1 hp ⟨by rw [← ht]; exact hB.1, hB.2.2.weaken (fun k p9 h9 h => wk_free hV hA _ h), hS⟩)
theorem wk_iast (hexec : p.tables.exec = Jvm.exec) (hb : c.code = cc) (hK : va_K D wk_cl (tysW cA) s) (hV : wk_S D q cA A H0 z H locs) (q0 t0 j : Nat) {cB : ClassId} {n : Nat} {f : Nat → Int32} (ha : (wW q cA z)[q0]? = some (a, .inl (cB, n, .inl f))) (ht : (tysW cA)[t0]? = some (cB, .int))
    (hset : ∀ g : Nat → Int32, (wW q cA z).set q0 (a, .inl (cB, n, .inl g)) = wW q cA (zA z j g)) {i x : Int32} (hin : vp_in i n) (hdg : decode cc pc = .ok (.iastore, 1))
    (kk : ∀ (H1 : Heap) (locs1 : List Loc), wk_S D q cA A H0 (zA z j (upd f i.toNatClampNeg x)) H1 locs1 → W p l e R s m args below meth c H1 locs1 cells slots Q (F0 m (pc + 1) ls rest)) : W p l e R s m args below meth c H locs cells slots Q (F0 m pc ls (.int x :: .int i :: .ref a :: rest)) :=
  va_iast hexec hb hK hV.1 hV.2.1 hV.2.2 q0 t0 ha ht hin hdg (fun H1 locs1 hP hD hS => kk H1 locs1 ⟨by rw [← hset]; exact hP, by rw [← hset]; exact hD, hS⟩)
theorem wk_zast (hexec : p.tables.exec = Jvm.exec) (hb : c.code = cc) (hK : va_K D wk_cl (tysW cA) s) (hV : wk_S D q cA A H0 z H locs) (q0 t0 j : Nat) {cB : ClassId} {n : Nat} {f : Nat → Int32} (ha : (wW q cA z)[q0]? = some (a, .inl (cB, n, .inl f))) (ht : (tysW cA)[t0]? = some (cB, .boolean))
    (hset : ∀ g : Nat → Int32, (wW q cA z).set q0 (a, .inl (cB, n, .inl g)) = wW q cA (zA z j g)) {i x : Int32} (hin : vp_in i n) (hdg : decode cc pc = .ok (.bastore, 1))
    (kk : ∀ (H1 : Heap) (locs1 : List Loc), wk_S D q cA A H0 (zA z j (upd f i.toNatClampNeg (vp_nar .boolean x))) H1 locs1 → W p l e R s m args below meth c H1 locs1 cells slots Q (F0 m (pc + 1) ls rest)) : W p l e R s m args below meth c H locs cells slots Q (F0 m pc ls (.int x :: .int i :: .ref a :: rest)) :=
  va_zast hexec hb hK hV.1 hV.2.1 hV.2.2 q0 t0 ha ht hin hdg (fun H1 locs1 hP hD hS => kk H1 locs1 ⟨by rw [← hset]; exact hP, by rw [← hset]; exact hD, hS⟩)
theorem wk_last (hexec : p.tables.exec = Jvm.exec) (hb : c.code = cc) (hK : va_K D wk_cl (tysW cA) s) (hV : wk_S D q cA A H0 z H locs) (q0 t0 j : Nat) {cB : ClassId} {n : Nat} {f : Nat → Int64} (ha : (wW q cA z)[q0]? = some (a, .inl (cB, n, .inr (.inl f)))) (ht : (tysW cA)[t0]? = some (cB, .long))
    (hset : ∀ g : Nat → Int64, (wW q cA z).set q0 (a, .inl (cB, n, .inr (.inl g))) = wW q cA (zL z j g)) {i : Int32} {x : Int64} (hin : vp_in i n) (hdg : decode cc pc = .ok (.lastore, 1))
    (kk : ∀ (H1 : Heap) (locs1 : List Loc), wk_S D q cA A H0 (zL z j (vp_updL f i.toNatClampNeg x)) H1 locs1 → W p l e R s m args below meth c H1 locs1 cells slots Q (F0 m (pc + 1) ls rest)) : W p l e R s m args below meth c H locs cells slots Q (F0 m pc ls (.long x :: .int i :: .ref a :: rest)) :=
  va_last hexec hb hK hV.1 hV.2.1 hV.2.2 q0 t0 ha ht hin hdg (fun H1 locs1 hP hD hS => kk H1 locs1 ⟨by rw [← hset]; exact hP, by rw [← hset]; exact hD, hS⟩)
theorem wk_put {own ref C : String} {T : u_T} {N ci index : Nat} {Ts : List Cond} {ty : FieldType} {v : Value} {z1 : Sta} (hexec : p.tables.exec = Jvm.exec) (hb : c.code = cc) (hts : ∀ w ∈ Ts, w.before args s = true) (hin : ∀ w ∈ u_ws C T N, w ∈ Ts) (ty0 : Nat → FieldType) (hty : ∀ k, k < N → parseFieldDescriptor (T k).2.2.1 = some (ty0 k)) (hnm : ∀ a, a < N → ∀ b, b < N → a ≠ b → (T a).2.1 ≠ (T b).2.1) (hown : s.vm.findClass own = some m.cls) (hK : va_K D wk_cl (tysW cA) s) (hV : wk_S D q cA A H0 z H locs) (q0 : Nat) {fs : List Value} (he : (wW q cA z)[q0]? = some (a, .inr (ci, fs))) (hc : wk_cl[ci]? = some (C, T, N)) (k : Nat) (hk : k < N) (hlink : (Cond.fieldLink own index ref (T k).2.1 (T k).2.2.1).before args s = true) (hsame : ∀ x, s.fieldFound? (T k).1 (T k).2.1 (T k).2.2.1 = some x → s.fieldFound? ref (T k).2.1 (T k).2.2.1 = some x) (hfin : (T k).2.2.2 = false) (hd : parseFieldDescriptor (T k).2.2.1 = some ty) (hn : narrow ty v = v) (hfit : fits ty v = true) (hl : k < fs.length) (hset : (wW q cA z).set q0 (a, .inr (ci, fs.set k v)) = wW q cA z1) (hdg : decode cc pc = .ok (.putfield index, 3))
    (kk : ∀ (H1 : Heap) (locs1 : List Loc), wk_S D q cA A H0 z1 H1 locs1 → W p l e R s m args below meth c H1 locs1 cells slots Q (F0 m (pc + 3) ls rest)) : W p l e R s m args below meth c H locs cells slots Q (F0 m pc ls (v :: .ref a :: rest)) :=
  va_put hexec hb hts hin ty0 hty hnm hown hK hV.1 hV.2.1 hV.2.2 q0 he hc k hk hlink hsame hfin hd hn hfit hl hdg (fun H1 locs1 hP hD hS => kk H1 locs1 ⟨by rw [← hset]; exact hP, by rw [← hset]; exact hD, hS⟩)
end

