-- 40: the law's helpers: a call that may throw, caught
def wk_kd (w : Cond) : Bool := match w with
  | .declares _ => true
  | .castable _ _ => true
  | _ => false
set_option maxRecDepth 20000 in
theorem wk_xk : ∀ w ∈ lw_x, wk_kd w = true := by decide +kernel
theorem wk_xm {w : Cond} (hk : wk_kd w = true) {s U : State} (hal : s.vm.Alike U.vm) (h : w.before #[] s = true) : w.before #[] U = true := by
  have key : w.before #[] (s.setVm U.vm) = true := by
    cases w <;> first | (rw [Cond.declares_setVm hal]; exact h) | (rw [Cond.castable_setVm hal]; exact h) | exact absurd hk Bool.false_ne_true
  have ht : w.onTables = true := by
    cases w <;> first | rfl | exact absurd hk Bool.false_ne_true
  exact va_tabs (u := s.setVm U.vm) ht (State.vm_setVm ..) key
def wk_XL (A : Nat → Prop) (SA : Nat → Nat) (U : State) : Prop := wk_X A SA U ∧ va_Nc "java/lang/IllegalStateException" "java/lang/IllegalArgumentException" U ∧ va_Nc "java/lang/UnsupportedOperationException" "java/lang/IllegalStateException" U ∧ va_Nc "java/lang/IndexOutOfBoundsException" "java/lang/IllegalStateException" U ∧ va_Nc "java/util/NoSuchElementException" "java/lang/IllegalStateException" U
def wk_PcL (D : va_G) (q : Nat → Nat) (cA : Nat → ClassId) (SA : Nat → Nat) (av : List Value) (z : Sta) (sz : Nat) : Array Value → State → Prop := va_Pc av (fun U => U.heap.size = sz ∧ va_P D wk_cl (wW q cA z) U.heap ∧ va_K D wk_cl (tysW cA) U ∧ va_D (fun _ => True) (wW q cA z) ∧ wk_XL (va_A (wW q cA z) sz) SA U)
theorem wk_Xcall {A : Nat → Prop} {SA : Nat → Nat} {U : State} (g : JFrame) (mk : MethodId) (a : Array Value) (h : wk_X A SA U) : wk_X A SA (U.calling g mk a) :=
  ⟨vx_Zq.moved (u := U) (Vm.Alike.refl U.vm) h.1, vx_Zq.moved (u := U) (Vm.Alike.refl U.vm) h.2.1, fun w hw => va_tabs (u := U) (wk_xt w hw) rfl (h.2.2.1 w hw), fun i k tx hi => vk_R.same (u := U) rfl (h.2.2.2 i k tx hi)⟩
section
variable {p : Program} {l : Launch} {e : Env} {R : Room} {s : State} {m : MethodId} {args : Array Value} {below : List Frame} {meth : Method} {c : Code} {H H0 : Heap} {locs : List Loc} {cells slots : Nat} {Q : State → Prop} {cc : ByteArray} {pc : Nat} {ls : Array Slot} {rest st0 : List Value} {D : va_G} {q : Nat → Nat} {cA : Nat → ClassId} {A : Nat → Prop} {z : Sta} {a : Nat} {SA : Nat → Nat}
theorem wk_Xmv {U : State} (hV : wk_S D q cA A s.heap z H locs) (hA : ∀ x, s.heap.size ≤ x → A x) (hU : U.heap = H) (hW : s.WarmedH U.vm) (h : wk_X A SA s) : wk_X (va_A (wW q cA z) H.size) SA U := by
  refine ⟨?_, ?_, fun w hw => wk_xm (wk_xk w hw) hW.alike (h.2.2.1 w hw), fun i k tx hi => vk_R.warm hW (h.2.2.2 i k tx hi)⟩
  · rw [hU]; exact (vx_Zq.moved hW.alike (h.1.kept hV.2.2.2.1)).narrow (wk_free hV hA)
  · rw [hU]; exact (vx_Zq.moved hW.alike (h.2.1.kept hV.2.2.2.1)).narrow (wk_free hV hA)
theorem wk_preVX (hK : va_K D wk_cl (tysW cA) s) (hV : wk_S D q cA A s.heap z H locs) (hA : ∀ x, s.heap.size ≤ x → A x) (hX : wk_X A SA s) (q0 ci : Nat) {fs : List Value} {r : vw_C} (hc : wk_cl[ci]? = some r) (he : (wW q cA z)[q0]? = some (a, .inr (ci, fs))) (As : List Value) : PreV s H r.1 a (wk_PcX D q cA SA (.ref a :: As) z H.size) As := by
  refine ⟨fun a U g mk h => ?_, va_recv hK hV.1 hc he, fun U hU hW => ⟨rfl, by rw [hU], by rw [hU]; exact hV.1, va_K.moved hW.alike hK, hV.2.1.weaken (fun _ _ _ _ => trivial), wk_Xmv hV hA hU hW hX⟩⟩
  obtain ⟨h0, h1, h2, h3, h4, h5⟩ := h
  exact ⟨h0, h1, h2, va_K.moved (u := U) (U := U.calling g mk a) (Vm.Alike.refl U.vm) h3, h4, wk_Xcall g mk a h5⟩
theorem wk_preSL (hK : va_K D wk_cl (tysW cA) s) (hV : wk_S D q cA A s.heap z H locs) (hA : ∀ x, s.heap.size ≤ x → A x) (hX : wk_XL A SA s) (As : List Value) : PreS s H (wk_PcL D q cA SA As z H.size) As := by
  refine ⟨fun a U g mk h => ?_, fun U hU hW => ⟨rfl, by rw [hU], by rw [hU]; exact hV.1, va_K.moved hW.alike hK, hV.2.1.weaken (fun _ _ _ _ => trivial), wk_Xmv hV hA hU hW hX.1, hX.2.1.moved hW.alike, hX.2.2.1.moved hW.alike, hX.2.2.2.1.moved hW.alike, hX.2.2.2.2.moved hW.alike⟩⟩
  obtain ⟨h0, h1, h2, h3, h4, h5, h6⟩ := h
  exact ⟨h0, h1, h2, va_K.moved (u := U) (U := U.calling g mk a) (Vm.Alike.refl U.vm) h3, h4, wk_Xcall g mk a h5, h6.1.moved (u := U) (Vm.Alike.refl U.vm), h6.2.1.moved (u := U) (Vm.Alike.refl U.vm), h6.2.2.1.moved (u := U) (Vm.Alike.refl U.vm), h6.2.2.2.moved (u := U) (Vm.Alike.refl U.vm)⟩
theorem wk_xcalli {K : Int32 → Sta → Prop} {T : String → Sta → Prop} {av : Array Value} (hr : vx_Run p l e R s m args below meth c H locs cells slots 1 6 (F0 m pc ls st0) rest (va_Qi K (wk_B D q cA (va_A (wW q cA z) H.size)) (va_A (wW q cA z) H.size) av) (wk_XC D q cA T (va_A (wW q cA z) H.size)) (va_A (wW q cA z) H.size)) (hV : wk_S D q cA A H0 z H locs) (hA : ∀ x, H0.size ≤ x → A x)
    (kx : ∀ (E : String) (ce : Cell) (q9 : Addr) (u : Sta) (H1 : Heap) (locs1 : List Loc), T E u → wk_S D q cA A H0 u H1 locs1 → H1[q9]? = some ce → ce.vm = .none → s.vm.findClass E = some ce.cls → vx_W p l e R s m args below meth c H1 locs1 (cells + 1) (slots + 6) Q (F0 m pc ls rest) q9)
    (kk : ∀ (r : Int32) (u : Sta) (H1 : Heap) (locs1 : List Loc), K r u → wk_S D q cA A H0 u H1 locs1 → W p l e R s m args below meth c H1 locs1 (cells + 1) (slots + 6) Q (F0 m (pc + 3) ls (.int r :: rest))) : W p l e R s m args below meth c H locs cells slots Q (F0 m pc ls st0) :=
  vx_calli hr hV.2.2 (fun x _ h => wk_free hV hA x h) (wk_free hV hA) (fun x _ h => wk_free hV hA x h)
    (fun E ce q9 u t H1 locs1 ht _ hp hB _ _ hS hce hcv hcl => kx E ce q9 u.2 H1 locs1 (by rw [hB.1]; exact hp) ⟨by rw [← ht]; exact hB.2.1, hB.2.2.2.weaken (fun k p9 h9 h => wk_free hV hA _ h), hS⟩ hce hcv hcl)
    (fun r u t H1 locs1 ht _ hp hB _ _ hS => kk r u H1 locs1 hp ⟨by rw [← ht]; exact hB.1, hB.2.2.weaken (fun k p9 h9 h => wk_free hV hA _ h), hS⟩)
theorem wk_xcalll {K : Int64 → Sta → Prop} {T : String → Sta → Prop} {av : Array Value} (hr : vx_Run p l e R s m args below meth c H locs cells slots 1 6 (F0 m pc ls st0) rest (va_Ql K (wk_B D q cA (va_A (wW q cA z) H.size)) (va_A (wW q cA z) H.size) av) (wk_XC D q cA T (va_A (wW q cA z) H.size)) (va_A (wW q cA z) H.size)) (hV : wk_S D q cA A H0 z H locs) (hA : ∀ x, H0.size ≤ x → A x)
    (kx : ∀ (E : String) (ce : Cell) (q9 : Addr) (u : Sta) (H1 : Heap) (locs1 : List Loc), T E u → wk_S D q cA A H0 u H1 locs1 → H1[q9]? = some ce → ce.vm = .none → s.vm.findClass E = some ce.cls → vx_W p l e R s m args below meth c H1 locs1 (cells + 1) (slots + 6) Q (F0 m pc ls rest) q9)
    (kk : ∀ (r : Int64) (u : Sta) (H1 : Heap) (locs1 : List Loc), K r u → wk_S D q cA A H0 u H1 locs1 → W p l e R s m args below meth c H1 locs1 (cells + 1) (slots + 6) Q (F0 m (pc + 3) ls (.long r :: rest))) : W p l e R s m args below meth c H locs cells slots Q (F0 m pc ls st0) :=
  vx_calll hr hV.2.2 (fun x _ h => wk_free hV hA x h) (wk_free hV hA) (fun x _ h => wk_free hV hA x h)
    (fun E ce q9 u t H1 locs1 ht _ hp hB _ _ hS hce hcv hcl => kx E ce q9 u.2 H1 locs1 (by rw [hB.1]; exact hp) ⟨by rw [← ht]; exact hB.2.1, hB.2.2.2.weaken (fun k p9 h9 h => wk_free hV hA _ h), hS⟩ hce hcv hcl)
    (fun r u t H1 locs1 ht _ hp hB _ _ hS => kk r u H1 locs1 hp ⟨by rw [← ht]; exact hB.1, hB.2.2.weaken (fun k p9 h9 h => wk_free hV hA _ h), hS⟩)
end

theorem hw_200 : (Jvm.Cond.classLink "LazyMotionLaw" (13 : Nat) "java/lang/IllegalStateException") ∈ lw_g := wk_in 200 (by decide +kernel) (by decide +kernel)
theorem hw_201 : (Jvm.Cond.methodLink "LazyMotionLaw" (7 : Nat) ({ cls := "LazyMotion", name := "block", desc := "()I" } : Jvm.MethodName)) ∈ lw_g := wk_in 201 (by decide +kernel) (by decide +kernel)
theorem hw_202 : (Jvm.Cond.instanceMethod ({ cls := "LazyMotion", name := "block", desc := "()I" } : Jvm.MethodName)) ∈ lw_g := wk_in 202 (by decide +kernel) (by decide +kernel)
theorem hw_203 : (Jvm.Cond.selects "LazyMotion" ({ cls := "LazyMotion", name := "block", desc := "()I" } : Jvm.MethodName) ({ cls := "LazyMotion", name := "block", desc := "()I" } : Jvm.MethodName)) ∈ lw_g := wk_in 203 (by decide +kernel) (by decide +kernel)
theorem hw_204 : (Jvm.Cond.code ({ cls := "LazyMotion", name := "block", desc := "()I" } : Jvm.MethodName) prog_1_method_2_code (1 : Nat) (Option.some Jvm.ClassFile.FieldType.int)) ∈ lw_g := wk_in 204 (by decide +kernel) (by decide +kernel)
theorem hw_286 : (Jvm.Cond.classLink "LazyMotionLaw" (19 : Nat) "java/lang/IllegalArgumentException") ∈ lw_g := wk_in 286 (by decide +kernel) (by decide +kernel)
theorem hw_287 : (Jvm.Cond.methodLink "LazyMotionLaw" (15 : Nat) ({ cls := "LazyMotion", name := "statement", desc := "(IIIII)I" } : Jvm.MethodName)) ∈ lw_g := wk_in 287 (by decide +kernel) (by decide +kernel)
theorem hw_288 : (Jvm.Cond.instanceMethod ({ cls := "LazyMotion", name := "statement", desc := "(IIIII)I" } : Jvm.MethodName)) ∈ lw_g := wk_in 288 (by decide +kernel) (by decide +kernel)
theorem hw_289 : (Jvm.Cond.selects "LazyMotion" ({ cls := "LazyMotion", name := "statement", desc := "(IIIII)I" } : Jvm.MethodName) ({ cls := "LazyMotion", name := "statement", desc := "(IIIII)I" } : Jvm.MethodName)) ∈ lw_g := wk_in 289 (by decide +kernel) (by decide +kernel)
theorem hw_290 : (Jvm.Cond.code ({ cls := "LazyMotion", name := "statement", desc := "(IIIII)I" } : Jvm.MethodName) prog_1_method_3_code (7 : Nat) (Option.some Jvm.ClassFile.FieldType.int)) ∈ lw_g := wk_in 290 (by decide +kernel) (by decide +kernel)
theorem hw_334 : (Jvm.Cond.methodLink "LazyMotionLaw" (21 : Nat) ({ cls := "LazyMotion", name := "end", desc := "(IIIII)I" } : Jvm.MethodName)) ∈ lw_g := wk_in 334 (by decide +kernel) (by decide +kernel)
theorem hw_335 : (Jvm.Cond.instanceMethod ({ cls := "LazyMotion", name := "end", desc := "(IIIII)I" } : Jvm.MethodName)) ∈ lw_g := wk_in 335 (by decide +kernel) (by decide +kernel)
theorem hw_336 : (Jvm.Cond.selects "LazyMotion" ({ cls := "LazyMotion", name := "end", desc := "(IIIII)I" } : Jvm.MethodName) ({ cls := "LazyMotion", name := "end", desc := "(IIIII)I" } : Jvm.MethodName)) ∈ lw_g := wk_in 336 (by decide +kernel) (by decide +kernel)
theorem hw_337 : (Jvm.Cond.code ({ cls := "LazyMotion", name := "end", desc := "(IIIII)I" } : Jvm.MethodName) prog_1_method_4_code (6 : Nat) (Option.some Jvm.ClassFile.FieldType.int)) ∈ lw_g := wk_in 337 (by decide +kernel) (by decide +kernel)
theorem hw_353 : (Jvm.Cond.classLink "LazyMotionLaw" (27 : Nat) "java/lang/UnsupportedOperationException") ∈ lw_g := wk_in 353 (by decide +kernel) (by decide +kernel)
theorem hw_354 : (Jvm.Cond.methodLink "LazyMotionLaw" (24 : Nat) ({ cls := "LazyMotion", name := "plan", desc := "()I" } : Jvm.MethodName)) ∈ lw_g := wk_in 354 (by decide +kernel) (by decide +kernel)
theorem hw_355 : (Jvm.Cond.instanceMethod ({ cls := "LazyMotion", name := "plan", desc := "()I" } : Jvm.MethodName)) ∈ lw_g := wk_in 355 (by decide +kernel) (by decide +kernel)
theorem hw_356 : (Jvm.Cond.selects "LazyMotion" ({ cls := "LazyMotion", name := "plan", desc := "()I" } : Jvm.MethodName) ({ cls := "LazyMotion", name := "plan", desc := "()I" } : Jvm.MethodName)) ∈ lw_g := wk_in 356 (by decide +kernel) (by decide +kernel)
theorem hw_357 : (Jvm.Cond.code ({ cls := "LazyMotion", name := "plan", desc := "()I" } : Jvm.MethodName) prog_1_method_5_code (1 : Nat) (Option.some Jvm.ClassFile.FieldType.int)) ∈ lw_g := wk_in 357 (by decide +kernel) (by decide +kernel)
theorem hw_440 : (Jvm.Cond.classLink "LazyMotionLaw" (33 : Nat) "java/lang/IndexOutOfBoundsException") ∈ lw_g := wk_in 440 (by decide +kernel) (by decide +kernel)
theorem hw_441 : (Jvm.Cond.methodLink "LazyMotionLaw" (29 : Nat) ({ cls := "LazyMotion", name := "set", desc := "(II)J" } : Jvm.MethodName)) ∈ lw_g := wk_in 441 (by decide +kernel) (by decide +kernel)
theorem hw_442 : (Jvm.Cond.instanceMethod ({ cls := "LazyMotion", name := "set", desc := "(II)J" } : Jvm.MethodName)) ∈ lw_g := wk_in 442 (by decide +kernel) (by decide +kernel)
theorem hw_443 : (Jvm.Cond.selects "LazyMotion" ({ cls := "LazyMotion", name := "set", desc := "(II)J" } : Jvm.MethodName) ({ cls := "LazyMotion", name := "set", desc := "(II)J" } : Jvm.MethodName)) ∈ lw_g := wk_in 443 (by decide +kernel) (by decide +kernel)
theorem hw_444 : (Jvm.Cond.code ({ cls := "LazyMotion", name := "set", desc := "(II)J" } : Jvm.MethodName) prog_1_method_6_code (3 : Nat) (Option.some Jvm.ClassFile.FieldType.long)) ∈ lw_g := wk_in 444 (by decide +kernel) (by decide +kernel)
theorem hw_469 : (Jvm.Cond.classLink "LazyMotionLaw" (38 : Nat) "java/util/NoSuchElementException") ∈ lw_g := wk_in 469 (by decide +kernel) (by decide +kernel)
theorem hw_470 : (Jvm.Cond.methodLink "LazyMotionLaw" (35 : Nat) ({ cls := "LazyMotion", name := "put", desc := "(II)J" } : Jvm.MethodName)) ∈ lw_g := wk_in 470 (by decide +kernel) (by decide +kernel)
theorem hw_471 : (Jvm.Cond.instanceMethod ({ cls := "LazyMotion", name := "put", desc := "(II)J" } : Jvm.MethodName)) ∈ lw_g := wk_in 471 (by decide +kernel) (by decide +kernel)
theorem hw_472 : (Jvm.Cond.selects "LazyMotion" ({ cls := "LazyMotion", name := "put", desc := "(II)J" } : Jvm.MethodName) ({ cls := "LazyMotion", name := "put", desc := "(II)J" } : Jvm.MethodName)) ∈ lw_g := wk_in 472 (by decide +kernel) (by decide +kernel)
theorem hw_473 : (Jvm.Cond.code ({ cls := "LazyMotion", name := "put", desc := "(II)J" } : Jvm.MethodName) prog_1_method_7_code (3 : Nat) (Option.some Jvm.ClassFile.FieldType.long)) ∈ lw_g := wk_in 473 (by decide +kernel) (by decide +kernel)
theorem hw_502 : (Jvm.Cond.methodLink "LazyMotionLaw" (40 : Nat) ({ cls := "LazyMotion", name := "expression", desc := "(III)I" } : Jvm.MethodName)) ∈ lw_g := wk_in 502 (by decide +kernel) (by decide +kernel)
theorem hw_503 : (Jvm.Cond.instanceMethod ({ cls := "LazyMotion", name := "expression", desc := "(III)I" } : Jvm.MethodName)) ∈ lw_g := wk_in 503 (by decide +kernel) (by decide +kernel)
theorem hw_504 : (Jvm.Cond.selects "LazyMotion" ({ cls := "LazyMotion", name := "expression", desc := "(III)I" } : Jvm.MethodName) ({ cls := "LazyMotion", name := "expression", desc := "(III)I" } : Jvm.MethodName)) ∈ lw_g := wk_in 504 (by decide +kernel) (by decide +kernel)
theorem hw_505 : (Jvm.Cond.code ({ cls := "LazyMotion", name := "expression", desc := "(III)I" } : Jvm.MethodName) prog_1_method_8_code (5 : Nat) (Option.some Jvm.ClassFile.FieldType.int)) ∈ lw_g := wk_in 505 (by decide +kernel) (by decide +kernel)
theorem hw_511 : (Jvm.Cond.methodLink "LazyMotionLaw" (44 : Nat) ({ cls := "LazyMotion", name := "run", desc := "(ZIII)I" } : Jvm.MethodName)) ∈ lw_g := wk_in 511 (by decide +kernel) (by decide +kernel)
theorem hw_512 : (Jvm.Cond.instanceMethod ({ cls := "LazyMotion", name := "run", desc := "(ZIII)I" } : Jvm.MethodName)) ∈ lw_g := wk_in 512 (by decide +kernel) (by decide +kernel)
theorem hw_513 : (Jvm.Cond.selects "LazyMotion" ({ cls := "LazyMotion", name := "run", desc := "(ZIII)I" } : Jvm.MethodName) ({ cls := "LazyMotion", name := "run", desc := "(ZIII)I" } : Jvm.MethodName)) ∈ lw_g := wk_in 513 (by decide +kernel) (by decide +kernel)
theorem hw_514 : (Jvm.Cond.code ({ cls := "LazyMotion", name := "run", desc := "(ZIII)I" } : Jvm.MethodName) prog_1_method_9_code (5 : Nat) (Option.some Jvm.ClassFile.FieldType.int)) ∈ lw_g := wk_in 514 (by decide +kernel) (by decide +kernel)
theorem hw_555 : (Jvm.Cond.methodLink "LazyMotionLaw" (48 : Nat) ({ cls := "LazyMotion", name := "out", desc := "(I)I" } : Jvm.MethodName)) ∈ lw_g := wk_in 555 (by decide +kernel) (by decide +kernel)
theorem hw_556 : (Jvm.Cond.instanceMethod ({ cls := "LazyMotion", name := "out", desc := "(I)I" } : Jvm.MethodName)) ∈ lw_g := wk_in 556 (by decide +kernel) (by decide +kernel)
theorem hw_557 : (Jvm.Cond.selects "LazyMotion" ({ cls := "LazyMotion", name := "out", desc := "(I)I" } : Jvm.MethodName) ({ cls := "LazyMotion", name := "out", desc := "(I)I" } : Jvm.MethodName)) ∈ lw_g := wk_in 557 (by decide +kernel) (by decide +kernel)
theorem hw_558 : (Jvm.Cond.code ({ cls := "LazyMotion", name := "out", desc := "(I)I" } : Jvm.MethodName) prog_1_method_11_code (2 : Nat) (Option.some Jvm.ClassFile.FieldType.int)) ∈ lw_g := wk_in 558 (by decide +kernel) (by decide +kernel)
theorem hw_563 : (Jvm.Cond.methodLink "LazyMotionLaw" (52 : Nat) ({ cls := "LazyMotion", name := "variable", desc := "(I)I" } : Jvm.MethodName)) ∈ lw_g := wk_in 563 (by decide +kernel) (by decide +kernel)
theorem hw_564 : (Jvm.Cond.instanceMethod ({ cls := "LazyMotion", name := "variable", desc := "(I)I" } : Jvm.MethodName)) ∈ lw_g := wk_in 564 (by decide +kernel) (by decide +kernel)
theorem hw_565 : (Jvm.Cond.selects "LazyMotion" ({ cls := "LazyMotion", name := "variable", desc := "(I)I" } : Jvm.MethodName) ({ cls := "LazyMotion", name := "variable", desc := "(I)I" } : Jvm.MethodName)) ∈ lw_g := wk_in 565 (by decide +kernel) (by decide +kernel)
theorem hw_566 : (Jvm.Cond.code ({ cls := "LazyMotion", name := "variable", desc := "(I)I" } : Jvm.MethodName) prog_1_method_12_code (2 : Nat) (Option.some Jvm.ClassFile.FieldType.int)) ∈ lw_g := wk_in 566 (by decide +kernel) (by decide +kernel)
theorem hw_571 : (Jvm.Cond.methodLink "LazyMotionLaw" (55 : Nat) ({ cls := "LazyMotion", name := "count", desc := "(I)I" } : Jvm.MethodName)) ∈ lw_g := wk_in 571 (by decide +kernel) (by decide +kernel)
theorem hw_572 : (Jvm.Cond.instanceMethod ({ cls := "LazyMotion", name := "count", desc := "(I)I" } : Jvm.MethodName)) ∈ lw_g := wk_in 572 (by decide +kernel) (by decide +kernel)
theorem hw_573 : (Jvm.Cond.selects "LazyMotion" ({ cls := "LazyMotion", name := "count", desc := "(I)I" } : Jvm.MethodName) ({ cls := "LazyMotion", name := "count", desc := "(I)I" } : Jvm.MethodName)) ∈ lw_g := wk_in 573 (by decide +kernel) (by decide +kernel)
theorem hw_574 : (Jvm.Cond.code ({ cls := "LazyMotion", name := "count", desc := "(I)I" } : Jvm.MethodName) prog_1_method_14_code (2 : Nat) (Option.some Jvm.ClassFile.FieldType.int)) ∈ lw_g := wk_in 574 (by decide +kernel) (by decide +kernel)
def ke_L_block : MethodName := ⟨kr_L, "block", "(LLazyMotion;[J)I"⟩
abbrev kc_L_block : Cond := .codeWith ke_L_block method_3_code 3 (some .int) [(0, 8, 11, 13)]
theorem gs_L_7 : GoodIn lw_g (wsV kr_L 7 kr_C ke_C_block (kc_C_block :: lw_g)) := wk_gV hw_201 hw_202 hw_203 hw_1 hw_204
def ke_L_statement : MethodName := ⟨kr_L, "statement", "(LLazyMotion;IIIII[J)I"⟩
abbrev kc_L_statement : Cond := .codeWith ke_L_statement method_4_code 8 (some .int) [(0, 16, 19, 19), (0, 16, 23, 13)]
theorem gs_L_15 : GoodIn lw_g (wsV kr_L 15 kr_C ke_C_statement (kc_C_statement :: lw_g)) := wk_gV hw_287 hw_288 hw_289 hw_1 hw_290
def ke_L_end : MethodName := ⟨kr_L, "end", "(LLazyMotion;IIIII[J)I"⟩
abbrev kc_L_end : Cond := .codeWith ke_L_end method_5_code 8 (some .int) [(0, 16, 19, 19)]
theorem gs_L_21 : GoodIn lw_g (wsV kr_L 21 kr_C ke_C_end (kc_C_end :: lw_g)) := wk_gV hw_334 hw_335 hw_336 hw_1 hw_337
def ke_L_plan : MethodName := ⟨kr_L, "plan", "(LLazyMotion;[J)I"⟩
abbrev kc_L_plan : Cond := .codeWith ke_L_plan method_6_code 3 (some .int) [(0, 8, 11, 13), (0, 8, 14, 27)]
theorem gs_L_24 : GoodIn lw_g (wsV kr_L 24 kr_C ke_C_plan (kc_C_plan :: lw_g)) := wk_gV hw_354 hw_355 hw_356 hw_1 hw_357
def ke_L_set : MethodName := ⟨kr_L, "set", "(LLazyMotion;II[J)I"⟩
abbrev kc_L_set : Cond := .codeWith ke_L_set method_7_code 5 (some .int) [(0, 9, 12, 13), (0, 9, 16, 33)]
theorem gs_L_29 : GoodIn lw_g (wsV kr_L 29 kr_C ke_C_set (kc_C_set :: lw_g)) := wk_gV hw_441 hw_442 hw_443 hw_1 hw_444
def ke_L_put : MethodName := ⟨kr_L, "put", "(LLazyMotion;II[J)I"⟩
abbrev kc_L_put : Cond := .codeWith ke_L_put method_8_code 5 (some .int) [(0, 9, 12, 13), (0, 9, 16, 38)]
theorem gs_L_35 : GoodIn lw_g (wsV kr_L 35 kr_C ke_C_put (kc_C_put :: lw_g)) := wk_gV hw_470 hw_471 hw_472 hw_1 hw_473
def ke_L_expression : MethodName := ⟨kr_L, "expression", "(LLazyMotion;III[J)I"⟩
abbrev kc_L_expression : Cond := .codeWith ke_L_expression method_9_code 6 (some .int) [(0, 12, 15, 38)]
theorem gs_L_40 : GoodIn lw_g (wsV kr_L 40 kr_C ke_C_expression (kc_C_expression :: lw_g)) := wk_gV hw_502 hw_503 hw_504 hw_1 hw_505
def ke_L_run : MethodName := ⟨kr_L, "run", "(LLazyMotion;ZIII[J)I"⟩
abbrev kc_L_run : Cond := .codeWith ke_L_run method_10_code 7 (some .int) [(0, 14, 17, 13)]
theorem gs_L_44 : GoodIn lw_g (wsV kr_L 44 kr_C ke_C_run (kc_C_run :: lw_g)) := wk_gV hw_511 hw_512 hw_513 hw_1 hw_514
def ke_L_out : MethodName := ⟨kr_L, "out", "(LLazyMotion;I[J)I"⟩
abbrev kc_L_out : Cond := .codeWith ke_L_out method_11_code 4 (some .int) [(0, 9, 12, 33)]
theorem gs_L_48 : GoodIn lw_g (wsV kr_L 48 kr_C ke_C_out (kc_C_out :: lw_g)) := wk_gV hw_555 hw_556 hw_557 hw_1 hw_558
def ke_L_variable : MethodName := ⟨kr_L, "variable", "(LLazyMotion;I[J)I"⟩
abbrev kc_L_variable : Cond := .codeWith ke_L_variable method_12_code 4 (some .int) [(0, 9, 12, 33)]
theorem gs_L_52 : GoodIn lw_g (wsV kr_L 52 kr_C ke_C_variable (kc_C_variable :: lw_g)) := wk_gV hw_563 hw_564 hw_565 hw_1 hw_566
def ke_L_count : MethodName := ⟨kr_L, "count", "(LLazyMotion;I[J)I"⟩
abbrev kc_L_count : Cond := .codeWith ke_L_count method_13_code 4 (some .int) [(0, 9, 12, 33)]
theorem gs_L_55 : GoodIn lw_g (wsV kr_L 55 kr_C ke_C_count (kc_C_count :: lw_g)) := wk_gV hw_571 hw_572 hw_573 hw_1 hw_574
def wp_L_block (z : Sta) (K : Int32 → Sta → Prop) : Prop := wp_C_block z (fun r z1 => ∀ z2 : Sta, z2 = zL z1 10 (vp_updL (z1.2.2 10) 0 (r.toInt64)) → K 0 z2) (fun E z1 => (E = "java/lang/IllegalStateException" ∧ K 1 z1))
def wp_L_statement (x1 : Int32) (x2 : Int32) (x3 : Int32) (x4 : Int32) (x5 : Int32) (z : Sta) (K : Int32 → Sta → Prop) : Prop := wp_C_statement x1 x2 x3 x4 x5 z (fun r z1 => ∀ z2 : Sta, z2 = zL z1 10 (vp_updL (z1.2.2 10) 0 (r.toInt64)) → K 0 z2) (fun E z1 => (E = "java/lang/IllegalArgumentException" ∧ K 1 z1) ∨ (E = "java/lang/IllegalStateException" ∧ K 2 z1))
def wp_L_end (x1 : Int32) (x2 : Int32) (x3 : Int32) (x4 : Int32) (x5 : Int32) (z : Sta) (K : Int32 → Sta → Prop) : Prop := wp_C_end x1 x2 x3 x4 x5 z (fun r z1 => ∀ z2 : Sta, z2 = zL z1 10 (vp_updL (z1.2.2 10) 0 (r.toInt64)) → K 0 z2) (fun E z1 => (E = "java/lang/IllegalArgumentException" ∧ K 1 z1))
def wp_L_plan (z : Sta) (K : Int32 → Sta → Prop) : Prop := wp_C_plan z (fun r z1 => ∀ z2 : Sta, z2 = zL z1 10 (vp_updL (z1.2.2 10) 0 (r.toInt64)) → K 0 z2) (fun E z1 => (E = "java/lang/IllegalStateException" ∧ K 1 z1) ∨ (E = "java/lang/UnsupportedOperationException" ∧ K 2 z1))
def wp_L_set (x1 : Int32) (x2 : Int32) (z : Sta) (K : Int32 → Sta → Prop) : Prop := wp_C_set x1 x2 z (fun r z1 => ∀ z2 : Sta, z2 = zL z1 10 (vp_updL (z1.2.2 10) 0 (r)) → K 0 z2) (fun E z1 => (E = "java/lang/IllegalStateException" ∧ K 1 z1) ∨ (E = "java/lang/IndexOutOfBoundsException" ∧ K 2 z1))
def wp_L_put (x1 : Int32) (x2 : Int32) (z : Sta) (K : Int32 → Sta → Prop) : Prop := wp_C_put x1 x2 z (fun r z1 => ∀ z2 : Sta, z2 = zL z1 10 (vp_updL (z1.2.2 10) 0 (r)) → K 0 z2) (fun E z1 => (E = "java/lang/IllegalStateException" ∧ K 1 z1) ∨ (E = "java/util/NoSuchElementException" ∧ K 2 z1))
def wp_L_expression (x1 : Int32) (x2 : Int32) (x3 : Int32) (z : Sta) (K : Int32 → Sta → Prop) : Prop := wp_C_expression x1 x2 x3 z (fun r z1 => ∀ z2 : Sta, z2 = zL z1 10 (vp_updL (z1.2.2 10) 0 (r.toInt64)) → K 0 z2) (fun E z1 => (E = "java/util/NoSuchElementException" ∧ K 1 z1))
def wp_L_run (x1 : Int32) (x2 : Int32) (x3 : Int32) (x4 : Int32) (z : Sta) (K : Int32 → Sta → Prop) : Prop := wp_C_run x1 x2 x3 x4 z (fun r z1 => ∀ z2 : Sta, z2 = zL z1 10 (vp_updL (z1.2.2 10) 0 (r.toInt64)) → K 0 z2) (fun E z1 => (E = "java/lang/IllegalStateException" ∧ K 1 z1))
def wp_L_out (x1 : Int32) (z : Sta) (K : Int32 → Sta → Prop) : Prop := wp_C_out x1 z (fun r z1 => ∀ z2 : Sta, z2 = zL z1 10 (vp_updL (z1.2.2 10) 0 (r.toInt64)) → K 0 z2) (fun E z1 => (E = "java/lang/IndexOutOfBoundsException" ∧ K 1 z1))
def wp_L_variable (x1 : Int32) (z : Sta) (K : Int32 → Sta → Prop) : Prop := wp_C_variable x1 z (fun r z1 => ∀ z2 : Sta, z2 = zL z1 10 (vp_updL (z1.2.2 10) 0 (r.toInt64)) → K 0 z2) (fun E z1 => (E = "java/lang/IndexOutOfBoundsException" ∧ K 1 z1))
def wp_L_count (x1 : Int32) (z : Sta) (K : Int32 → Sta → Prop) : Prop := wp_C_count x1 z (fun r z1 => ∀ z2 : Sta, z2 = zL z1 10 (vp_updL (z1.2.2 10) 0 (r.toInt64)) → K 0 z2) (fun E z1 => (E = "java/lang/IndexOutOfBoundsException" ∧ K 1 z1))
