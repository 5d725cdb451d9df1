-- 30: words of the throwing methods; the two statics, the texts, the words that are not good

theorem hw_9 : (Jvm.Cond.initialized "java/lang/IllegalStateException") ∈ lw_g := wk_in 9 (by decide +kernel) (by decide +kernel)
theorem hw_10 : (Jvm.Cond.initialized "java/lang/IllegalArgumentException") ∈ lw_g := wk_in 10 (by decide +kernel) (by decide +kernel)
theorem hw_11 : (Jvm.Cond.initialized "java/lang/UnsupportedOperationException") ∈ lw_g := wk_in 11 (by decide +kernel) (by decide +kernel)
theorem hw_13 : (Jvm.Cond.initialized "java/lang/IndexOutOfBoundsException") ∈ lw_g := wk_in 13 (by decide +kernel) (by decide +kernel)
theorem hw_14 : (Jvm.Cond.initialized "java/util/NoSuchElementException") ∈ lw_g := wk_in 14 (by decide +kernel) (by decide +kernel)
theorem hw_205 : (Jvm.Cond.classLink "LazyMotion" (45 : Nat) "java/lang/IllegalStateException") ∈ lw_g := wk_in 205 (by decide +kernel) (by decide +kernel)
theorem hw_297 : (Jvm.Cond.classLink "LazyMotion" (60 : Nat) "java/lang/IllegalArgumentException") ∈ lw_g := wk_in 297 (by decide +kernel) (by decide +kernel)
theorem hw_327 : (Jvm.Cond.methodLink "LazyMotion" (77 : Nat) ({ cls := "LazyMotion$Program", name := "addStatement", desc := "(III)I" } : Jvm.MethodName)) ∈ lw_g := wk_in 327 (by decide +kernel) (by decide +kernel)
theorem hw_328 : (Jvm.Cond.instanceMethod ({ cls := "LazyMotion$Program", name := "addStatement", desc := "(III)I" } : Jvm.MethodName)) ∈ lw_g := wk_in 328 (by decide +kernel) (by decide +kernel)
theorem hw_329 : (Jvm.Cond.selects "LazyMotion$Program" ({ cls := "LazyMotion$Program", name := "addStatement", desc := "(III)I" } : Jvm.MethodName) ({ cls := "LazyMotion$Program", name := "addStatement", desc := "(III)I" } : Jvm.MethodName)) ∈ lw_g := wk_in 329 (by decide +kernel) (by decide +kernel)
theorem hw_330 : (Jvm.Cond.code ({ cls := "LazyMotion$Program", name := "addStatement", desc := "(III)I" } : Jvm.MethodName) prog_4_method_6_code (6 : Nat) (Option.some Jvm.ClassFile.FieldType.int)) ∈ lw_g := wk_in 330 (by decide +kernel) (by decide +kernel)
theorem hw_363 : (Jvm.Cond.classLink "LazyMotion" (99 : Nat) "java/lang/UnsupportedOperationException") ∈ lw_g := wk_in 363 (by decide +kernel) (by decide +kernel)
theorem hw_446 : (Jvm.Cond.classLink "LazyMotion" (112 : Nat) "java/lang/IndexOutOfBoundsException") ∈ lw_g := wk_in 446 (by decide +kernel) (by decide +kernel)
theorem hw_479 : (Jvm.Cond.classLink "LazyMotion" (125 : Nat) "java/util/NoSuchElementException") ∈ lw_g := wk_in 479 (by decide +kernel) (by decide +kernel)
def ke_C_block : MethodName := ⟨kr_C, "block", "()I"⟩
abbrev kc_C_block : Cond := .code ke_C_block prog_1_method_2_code 1 (some .int)
def ke_C_statement : MethodName := ⟨kr_C, "statement", "(IIIII)I"⟩
abbrev kc_C_statement : Cond := .code ke_C_statement prog_1_method_3_code 7 (some .int)
def ke_C_end : MethodName := ⟨kr_C, "end", "(IIIII)I"⟩
abbrev kc_C_end : Cond := .code ke_C_end prog_1_method_4_code 6 (some .int)
def ke_C_plan : MethodName := ⟨kr_C, "plan", "()I"⟩
abbrev kc_C_plan : Cond := .code ke_C_plan prog_1_method_5_code 1 (some .int)
def ke_C_set : MethodName := ⟨kr_C, "set", "(II)J"⟩
abbrev kc_C_set : Cond := .code ke_C_set prog_1_method_6_code 3 (some .long)
def ke_C_put : MethodName := ⟨kr_C, "put", "(II)J"⟩
abbrev kc_C_put : Cond := .code ke_C_put prog_1_method_7_code 3 (some .long)
def ke_C_expression : MethodName := ⟨kr_C, "expression", "(III)I"⟩
abbrev kc_C_expression : Cond := .code ke_C_expression prog_1_method_8_code 5 (some .int)
def ke_C_run : MethodName := ⟨kr_C, "run", "(ZIII)I"⟩
abbrev kc_C_run : Cond := .code ke_C_run prog_1_method_9_code 5 (some .int)
def ke_C_out : MethodName := ⟨kr_C, "out", "(I)I"⟩
abbrev kc_C_out : Cond := .code ke_C_out prog_1_method_11_code 2 (some .int)
def ke_C_variable : MethodName := ⟨kr_C, "variable", "(I)I"⟩
abbrev kc_C_variable : Cond := .code ke_C_variable prog_1_method_12_code 2 (some .int)
def ke_C_count : MethodName := ⟨kr_C, "count", "(I)I"⟩
abbrev kc_C_count : Cond := .code ke_C_count prog_1_method_14_code 2 (some .int)
theorem gs_C_77 : GoodIn lw_g (wsV kr_C 77 kr_P ke_P_addStatement (kc_P_addStatement :: lw_g)) := wk_gV hw_327 hw_328 hw_329 hw_2 hw_330
def wk_tx : List (Nat × String) := [(47, "there are 16 blocks"), (75, "there are 24 expressions"), (69, "there is no block, or it has five statements"), (62, "no such statement"), (88, "no such block or end"), (101, "a block goes to one that there is not"), (94, "there is no block"), (110, "the program was not planned as it is"), (114, "no such block or set"), (127, "no such edge"), (136, "no such expression"), (152, "no such number"), (161, "no such variable"), (175, "no such count")]
def lw_x : List Cond := (vx_atS kr_C 49 "java/lang/IllegalStateException" ["java/lang/RuntimeException", "java/lang/Exception"]).filter (fun w => !goodWord w) ++ (vx_atS kr_C 64 "java/lang/IllegalArgumentException" ["java/lang/RuntimeException", "java/lang/Exception"]).filter (fun w => !goodWord w) ++ (vx_atS kr_C 103 "java/lang/UnsupportedOperationException" ["java/lang/RuntimeException", "java/lang/Exception"]).filter (fun w => !goodWord w) ++ (vx_atS kr_C 116 "java/lang/IndexOutOfBoundsException" ["java/lang/RuntimeException", "java/lang/Exception"]).filter (fun w => !goodWord w) ++ (wk_aN.filter vx_no).filter (fun w => !goodWord w)
def wk_T (SA : Nat → Nat) (U : State) : Prop := ∀ (i k : Nat) (tx : String), wk_tx[i]? = some (k, tx) → vk_R kr_C k tx (SA i) U
def wk_X (A : Nat → Prop) (SA : Nat → Nat) (U : State) : Prop := vx_Zq Bundle.tN "UNASSIGNED_STACK" Bundle.steD A U U.heap ∧ vx_Zq Bundle.tN "SUPPRESSED_SENTINEL" Bundle.listD A U U.heap ∧ (∀ w ∈ lw_x, w.before #[] U = true) ∧ wk_T SA U
def wk_PcX (D : va_G) (q : Nat → Nat) (cA : Nat → ClassId) (SA : Nat → Nat) (av : List Value) (z : Sta) (sz : Nat) : Array Value → State → Prop := va_Pc av (fun U => U.heap.size = sz ∧ va_P D wk_cl (wW q cA z) U.heap ∧ va_K D wk_cl (tysW cA) U ∧ va_D (fun _ => True) (wW q cA z) ∧ wk_X (va_A (wW q cA z) sz) SA U)
def wk_XC (D : va_G) (q : Nat → Nat) (cA : Nat → ClassId) (T : String → Sta → Prop) (A : Nat → Prop) : String → State → State → Prop := vx_X (S := String × Sta) (fun u => T u.1 u.2) (fun E u t => E = u.1 ∧ wk_B D q cA A u.2 t) A
def wk_exN : List String := ["java/lang/RuntimeException", "java/lang/Exception"]
def wk_site (ik ic : Nat) (cls : String) : Prop := Bundle.fit cls = true ∧ (∀ w ∈ (vx_atS kr_C ic cls wk_exN).filter goodWord, w ∈ lw_tbl) ∧ (∀ w ∈ (vx_atS kr_C ic cls wk_exN).filter (fun w => !goodWord w), w ∈ lw_x) ∧ (∀ w ∈ Cond.classLink kr_C ik cls :: Cond.initialized cls :: vx_atS kr_C ic cls wk_exN, vx_ot w = true)
def wk_siteN : Prop := (∀ w ∈ (wk_aN.filter vx_no).filter goodWord, w ∈ lw_tbl) ∧ (∀ w ∈ (wk_aN.filter vx_no).filter (fun w => !goodWord w), w ∈ lw_x) ∧ (∀ w ∈ Cond.classLink kr_C 125 wk_nse :: Cond.initialized wk_nse :: wk_aN.filter vx_no, vx_ot w = true)
set_option maxRecDepth 20000 in
theorem wk_xt : ∀ w ∈ lw_x, w.onTables = true := by decide +kernel
theorem wk_thr {p : Program} {l : Launch} {e : Env} {R : Room} {s : State} {m : MethodId} {args : Array Value} {below : List Frame} {meth : Method} {c : Code} {H : Heap} {locs : List Loc} {ls : Array Slot} {cc : ByteArray} {pc : Nat} {D : va_G} {q : Nat → Nat} {cA : Nat → ClassId} {A : Nat → Prop} {SA : Nat → Nat} {u : Sta} {T : String → Sta → Prop} {Qc : Array Value → State → Outcome → State → Prop} {cls text : String} {ik is ic : Nat}
    (hx : p.tables.exec = Jvm.exec) (hb : c.code = cc) (hst : l.stackTraces = false) (hown : s.vm.findClass kr_C = some m.cls) (site : wk_site ik ic cls) (j : Nat) (htx : wk_tx[j]? = some (is, text)) (hk : (Cond.classLink kr_C ik cls).before args s = true) (hini : (Cond.initialized cls).before args s = true)
    (hts : ∀ w ∈ lw_g, w.before args s = true) (hX : wk_X A SA s) (hK : va_K D wk_cl (tysW cA) s) (hV : wk_S D q cA A s.heap u H locs) (hsize : ls.size = c.maxLocals)
    (d0 : decode cc pc = .ok (.new ik, 3)) (d3 : decode cc (pc + 3) = .ok (.dup, 1)) (d4 : decode cc (pc + 4) = .ok (.ldc is, 2)) (d6 : decode cc (pc + 6) = .ok (.invokespecial ic, 3)) (d9 : decode cc (pc + 9) = .ok (.athrow, 1))
    (htab : ∀ x ∈ c.exceptionTable.toList, False) (hRf : 6 ≤ R.frames) (hRl : 82 ≤ R.locals) (hRc : 1 ≤ R.cells) (hRs : 6 ≤ R.slots) (hlocks : meth.locks = false) (hT : T cls u) :
    W p l e R s m args below meth c H locs 0 0 (vx_MQ below Qc (wk_XC D q cA T A) args s 1 6 A) (F0 m pc ls []) := by
  obtain ⟨s1, s2, s3, s4⟩ := site
  obtain ⟨hU, hN, hw, ht⟩ := hX
  refine vx_throwS (names := wk_exN) (mc := 1) (ms := 6) (A := A) hx hb hst hown s1 (by decide) hk hini (ht j is text htx) (vx_hat (B := lw_x) (fun w h => hts w (List.mem_filter.mpr ⟨s2 w h, (List.mem_filter.mp h).2⟩)) s3 (fun w h => va_tabs (wk_xt w h) rfl (hw w h))) s4 hU hN hV.2.2 hsize d0 d3 d4 d6 d9 (fun x h => (htab x h).elim) (show 5 < R.frames from hRf) (show 0 + (13 * 3 + 43) ≤ R.locals from hRl) (by omega) (by omega) hlocks ?_ hV.2.2.2.2 (Nat.le_refl _) (Nat.le_refl _)
  intro t hal hsz hkeep
  refine ⟨(cls, u), hT, ⟨rfl, ?_, va_K.moved hal hK, hV.2.1⟩, Nat.le_trans hV.2.2.1 hsz, fun a ha hnA => (hkeep a (Nat.lt_of_lt_of_le ha hV.2.2.1)).trans (hV.2.2.2.1 a ha hnA)⟩
  exact va_P.kept hV.1 (fun k a hk => hkeep _ (vx_lt hV.1 hk))
theorem wk_thrN {p : Program} {l : Launch} {e : Env} {R : Room} {s : State} {m : MethodId} {args : Array Value} {below : List Frame} {meth : Method} {c : Code} {H : Heap} {locs : List Loc} {ls : Array Slot} {cc : ByteArray} {pc : Nat} {D : va_G} {q : Nat → Nat} {cA : Nat → ClassId} {A : Nat → Prop} {SA : Nat → Nat} {u : Sta} {T : String → Sta → Prop} {Qc : Array Value → State → Outcome → State → Prop} {text : String} {is : Nat}
    (hx : p.tables.exec = Jvm.exec) (hb : c.code = cc) (hst : l.stackTraces = false) (hown : s.vm.findClass kr_C = some m.cls) (site : wk_siteN) (j : Nat) (htx : wk_tx[j]? = some (is, text)) (hk : (Cond.classLink kr_C 125 wk_nse).before args s = true) (hini : (Cond.initialized wk_nse).before args s = true)
    (hts : ∀ w ∈ lw_g, w.before args s = true) (hX : wk_X A SA s) (hK : va_K D wk_cl (tysW cA) s) (hV : wk_S D q cA A s.heap u H locs) (hsize : ls.size = c.maxLocals)
    (d0 : decode cc pc = .ok (.new 125, 3)) (d3 : decode cc (pc + 3) = .ok (.dup, 1)) (d4 : decode cc (pc + 4) = .ok (.ldc is, 2)) (d6 : decode cc (pc + 6) = .ok (.invokespecial 129, 3)) (d9 : decode cc (pc + 9) = .ok (.athrow, 1))
    (htab : ∀ x ∈ c.exceptionTable.toList, False) (hRf : 6 ≤ R.frames) (hRl : 82 ≤ R.locals) (hRc : 1 ≤ R.cells) (hRs : 6 ≤ R.slots) (hlocks : meth.locks = false) (hT : T wk_nse u) :
    W p l e R s m args below meth c H locs 0 0 (vx_MQ below Qc (wk_XC D q cA T A) args s 1 6 A) (F0 m pc ls []) := by
  obtain ⟨s2, s3, s4⟩ := site
  obtain ⟨hU, hN, hw, ht⟩ := hX
  refine wk_throwN (mc := 1) (ms := 6) (A := A) hx hb hst hown hk hini (ht j is text htx) (vx_hat (B := lw_x) (fun w h => hts w (List.mem_filter.mpr ⟨s2 w h, (List.mem_filter.mp h).2⟩)) s3 (fun w h => va_tabs (wk_xt w h) rfl (hw w h))) s4 hU hN hV.2.2 hsize d0 d3 d4 d6 d9 (fun x h => (htab x h).elim) hRf (show 0 + 82 ≤ R.locals by omega) (by omega) (by omega) hlocks ?_ hV.2.2.2.2 (Nat.le_refl _) (Nat.le_refl _)
  intro t hal hsz hkeep
  refine ⟨(wk_nse, u), hT, ⟨rfl, ?_, va_K.moved hal hK, hV.2.1⟩, Nat.le_trans hV.2.2.1 hsz, fun a ha hnA => (hkeep a (Nat.lt_of_lt_of_le ha hV.2.2.1)).trans (hV.2.2.2.1 a ha hnA)⟩
  exact va_P.kept hV.1 (fun k a hk => hkeep _ (vx_lt hV.1 hk))

set_option maxRecDepth 20000 in
theorem hx_49 : wk_site 45 49 "java/lang/IllegalStateException" := ⟨by decide +kernel, by decide +kernel, fun w hw => List.mem_append_left _ (List.mem_append_left _ (List.mem_append_left _ (List.mem_append_left _ (hw)))), by decide +kernel⟩
set_option maxRecDepth 20000 in
theorem hx_64 : wk_site 60 64 "java/lang/IllegalArgumentException" := ⟨by decide +kernel, by decide +kernel, fun w hw => List.mem_append_left _ (List.mem_append_left _ (List.mem_append_left _ (List.mem_append_right _ hw))), by decide +kernel⟩
set_option maxRecDepth 20000 in
theorem hx_103 : wk_site 99 103 "java/lang/UnsupportedOperationException" := ⟨by decide +kernel, by decide +kernel, fun w hw => List.mem_append_left _ (List.mem_append_left _ (List.mem_append_right _ hw)), by decide +kernel⟩
set_option maxRecDepth 20000 in
theorem hx_116 : wk_site 112 116 "java/lang/IndexOutOfBoundsException" := ⟨by decide +kernel, by decide +kernel, fun w hw => List.mem_append_left _ (List.mem_append_right _ hw), by decide +kernel⟩
set_option maxRecDepth 20000 in
theorem hx_N : wk_siteN := ⟨by decide +kernel, fun w hw => List.mem_append_right _ hw, by decide +kernel⟩
