theorem kd_prog_1_method_17_code_0 : decode prog_1_method_17_code 0 = .ok (.iload_n 0, 1) := by decide +kernel
theorem kd_prog_1_method_17_code_1 : decode prog_1_method_17_code 1 = .ok (.ifCond .lt 13, 3) := by decide +kernel
theorem kd_prog_1_method_17_code_4 : decode prog_1_method_17_code 4 = .ok (.iload_n 0, 1) := by decide +kernel
theorem kd_prog_1_method_17_code_5 : decode prog_1_method_17_code 5 = .ok (.bipush 6, 2) := by decide +kernel
theorem kd_prog_1_method_17_code_7 : decode prog_1_method_17_code 7 = .ok (.if_icmp .ge 7, 3) := by decide +kernel
theorem kd_prog_1_method_17_code_10 : decode prog_1_method_17_code 10 = .ok (.iconst 1, 1) := by decide +kernel
theorem kd_prog_1_method_17_code_11 : decode prog_1_method_17_code 11 = .ok (.goto 4, 3) := by decide +kernel
theorem kd_prog_1_method_17_code_14 : decode prog_1_method_17_code 14 = .ok (.iconst 0, 1) := by decide +kernel
theorem kd_prog_1_method_17_code_15 : decode prog_1_method_17_code 15 = .ok (.ireturn, 1) := by decide +kernel
theorem kd_prog_1_method_15_code_0 : decode prog_1_method_15_code 0 = .ok (.iload_n 1, 1) := by decide +kernel
theorem kd_prog_1_method_15_code_1 : decode prog_1_method_15_code 1 = .ok (.invokestatic 158, 3) := by decide +kernel
theorem kd_prog_1_method_15_code_4 : decode prog_1_method_15_code 4 = .ok (.ifCond .ne 5, 3) := by decide +kernel
theorem kd_prog_1_method_15_code_7 : decode prog_1_method_15_code 7 = .ok (.iconst 0, 1) := by decide +kernel
theorem kd_prog_1_method_15_code_8 : decode prog_1_method_15_code 8 = .ok (.ireturn, 1) := by decide +kernel
theorem kd_prog_1_method_15_code_9 : decode prog_1_method_15_code 9 = .ok (.iload_n 0, 1) := by decide +kernel
theorem kd_prog_1_method_15_code_10 : decode prog_1_method_15_code 10 = .ok (.tableswitch 87 0 3 #[30, 35, 55, 85], 30) := by decide +kernel
theorem kd_prog_1_method_15_code_40 : decode prog_1_method_15_code 40 = .ok (.iload_n 2, 1) := by decide +kernel
theorem kd_prog_1_method_15_code_41 : decode prog_1_method_15_code 41 = .ok (.invokestatic 158, 3) := by decide +kernel
theorem kd_prog_1_method_15_code_44 : decode prog_1_method_15_code 44 = .ok (.ireturn, 1) := by decide +kernel
theorem kd_prog_1_method_15_code_45 : decode prog_1_method_15_code 45 = .ok (.iload_n 2, 1) := by decide +kernel
theorem kd_prog_1_method_15_code_46 : decode prog_1_method_15_code 46 = .ok (.sipush (-32768), 3) := by decide +kernel
theorem kd_prog_1_method_15_code_49 : decode prog_1_method_15_code 49 = .ok (.if_icmp .lt 14, 3) := by decide +kernel
theorem kd_prog_1_method_15_code_52 : decode prog_1_method_15_code 52 = .ok (.iload_n 2, 1) := by decide +kernel
theorem kd_prog_1_method_15_code_53 : decode prog_1_method_15_code 53 = .ok (.sipush 32767, 3) := by decide +kernel
theorem kd_prog_1_method_15_code_56 : decode prog_1_method_15_code 56 = .ok (.if_icmp .gt 7, 3) := by decide +kernel
theorem kd_prog_1_method_15_code_59 : decode prog_1_method_15_code 59 = .ok (.iconst 1, 1) := by decide +kernel
theorem kd_prog_1_method_15_code_60 : decode prog_1_method_15_code 60 = .ok (.goto 4, 3) := by decide +kernel
theorem kd_prog_1_method_15_code_63 : decode prog_1_method_15_code 63 = .ok (.iconst 0, 1) := by decide +kernel
theorem kd_prog_1_method_15_code_64 : decode prog_1_method_15_code 64 = .ok (.ireturn, 1) := by decide +kernel
theorem kd_prog_1_method_15_code_65 : decode prog_1_method_15_code 65 = .ok (.iload_n 2, 1) := by decide +kernel
theorem kd_prog_1_method_15_code_66 : decode prog_1_method_15_code 66 = .ok (.invokestatic 158, 3) := by decide +kernel
theorem kd_prog_1_method_15_code_69 : decode prog_1_method_15_code 69 = .ok (.ifCond .eq 24, 3) := by decide +kernel
theorem kd_prog_1_method_15_code_72 : decode prog_1_method_15_code 72 = .ok (.iload_n 3, 1) := by decide +kernel
theorem kd_prog_1_method_15_code_73 : decode prog_1_method_15_code 73 = .ok (.ifCond .lt 20, 3) := by decide +kernel
theorem kd_prog_1_method_15_code_76 : decode prog_1_method_15_code 76 = .ok (.iload_n 3, 1) := by decide +kernel
theorem kd_prog_1_method_15_code_77 : decode prog_1_method_15_code 77 = .ok (.iconst 5, 1) := by decide +kernel
theorem kd_prog_1_method_15_code_78 : decode prog_1_method_15_code 78 = .ok (.if_icmp .ge 15, 3) := by decide +kernel
theorem kd_prog_1_method_15_code_81 : decode prog_1_method_15_code 81 = .ok (.iload 4, 2) := by decide +kernel
theorem kd_prog_1_method_15_code_83 : decode prog_1_method_15_code 83 = .ok (.invokestatic 158, 3) := by decide +kernel
theorem kd_prog_1_method_15_code_86 : decode prog_1_method_15_code 86 = .ok (.ifCond .eq 7, 3) := by decide +kernel
theorem kd_prog_1_method_15_code_89 : decode prog_1_method_15_code 89 = .ok (.iconst 1, 1) := by decide +kernel
theorem kd_prog_1_method_15_code_90 : decode prog_1_method_15_code 90 = .ok (.goto 4, 3) := by decide +kernel
theorem kd_prog_1_method_15_code_93 : decode prog_1_method_15_code 93 = .ok (.iconst 0, 1) := by decide +kernel
theorem kd_prog_1_method_15_code_94 : decode prog_1_method_15_code 94 = .ok (.ireturn, 1) := by decide +kernel
theorem kd_prog_1_method_15_code_95 : decode prog_1_method_15_code 95 = .ok (.iconst 1, 1) := by decide +kernel
theorem kd_prog_1_method_15_code_96 : decode prog_1_method_15_code 96 = .ok (.ireturn, 1) := by decide +kernel
theorem kd_prog_1_method_15_code_97 : decode prog_1_method_15_code 97 = .ok (.iconst 0, 1) := by decide +kernel
theorem kd_prog_1_method_15_code_98 : decode prog_1_method_15_code 98 = .ok (.ireturn, 1) := by decide +kernel
theorem kd_prog_1_method_18_code_0 : decode prog_1_method_18_code 0 = .ok (.iload_n 0, 1) := by decide +kernel
theorem kd_prog_1_method_18_code_1 : decode prog_1_method_18_code 1 = .ok (.ifCond .lt 13, 3) := by decide +kernel
theorem kd_prog_1_method_18_code_4 : decode prog_1_method_18_code 4 = .ok (.iload_n 0, 1) := by decide +kernel
theorem kd_prog_1_method_18_code_5 : decode prog_1_method_18_code 5 = .ok (.bipush 16, 2) := by decide +kernel
theorem kd_prog_1_method_18_code_7 : decode prog_1_method_18_code 7 = .ok (.if_icmp .ge 7, 3) := by decide +kernel
theorem kd_prog_1_method_18_code_10 : decode prog_1_method_18_code 10 = .ok (.iconst 1, 1) := by decide +kernel
theorem kd_prog_1_method_18_code_11 : decode prog_1_method_18_code 11 = .ok (.goto 4, 3) := by decide +kernel
theorem kd_prog_1_method_18_code_14 : decode prog_1_method_18_code 14 = .ok (.iconst 0, 1) := by decide +kernel
theorem kd_prog_1_method_18_code_15 : decode prog_1_method_18_code 15 = .ok (.ireturn, 1) := by decide +kernel
theorem kd_prog_1_method_16_code_0 : decode prog_1_method_16_code 0 = .ok (.iload_n 0, 1) := by decide +kernel
theorem kd_prog_1_method_16_code_1 : decode prog_1_method_16_code 1 = .ok (.tableswitch 61 0 2 #[27, 29, 34], 27) := by decide +kernel
theorem kd_prog_1_method_16_code_28 : decode prog_1_method_16_code 28 = .ok (.iconst 1, 1) := by decide +kernel
theorem kd_prog_1_method_16_code_29 : decode prog_1_method_16_code 29 = .ok (.ireturn, 1) := by decide +kernel
theorem kd_prog_1_method_16_code_30 : decode prog_1_method_16_code 30 = .ok (.iload_n 2, 1) := by decide +kernel
theorem kd_prog_1_method_16_code_31 : decode prog_1_method_16_code 31 = .ok (.invokestatic 177, 3) := by decide +kernel
theorem kd_prog_1_method_16_code_34 : decode prog_1_method_16_code 34 = .ok (.ireturn, 1) := by decide +kernel
theorem kd_prog_1_method_16_code_35 : decode prog_1_method_16_code 35 = .ok (.iload_n 1, 1) := by decide +kernel
theorem kd_prog_1_method_16_code_36 : decode prog_1_method_16_code 36 = .ok (.invokestatic 158, 3) := by decide +kernel
theorem kd_prog_1_method_16_code_39 : decode prog_1_method_16_code 39 = .ok (.ifCond .eq 21, 3) := by decide +kernel
theorem kd_prog_1_method_16_code_42 : decode prog_1_method_16_code 42 = .ok (.iload_n 2, 1) := by decide +kernel
theorem kd_prog_1_method_16_code_43 : decode prog_1_method_16_code 43 = .ok (.invokestatic 177, 3) := by decide +kernel
theorem kd_prog_1_method_16_code_46 : decode prog_1_method_16_code 46 = .ok (.ifCond .eq 14, 3) := by decide +kernel
theorem kd_prog_1_method_16_code_49 : decode prog_1_method_16_code 49 = .ok (.iload_n 3, 1) := by decide +kernel
theorem kd_prog_1_method_16_code_50 : decode prog_1_method_16_code 50 = .ok (.invokestatic 177, 3) := by decide +kernel
theorem kd_prog_1_method_16_code_53 : decode prog_1_method_16_code 53 = .ok (.ifCond .eq 7, 3) := by decide +kernel
theorem kd_prog_1_method_16_code_56 : decode prog_1_method_16_code 56 = .ok (.iconst 1, 1) := by decide +kernel
theorem kd_prog_1_method_16_code_57 : decode prog_1_method_16_code 57 = .ok (.goto 4, 3) := by decide +kernel
theorem kd_prog_1_method_16_code_60 : decode prog_1_method_16_code 60 = .ok (.iconst 0, 1) := by decide +kernel
theorem kd_prog_1_method_16_code_61 : decode prog_1_method_16_code 61 = .ok (.ireturn, 1) := by decide +kernel
theorem kd_prog_1_method_16_code_62 : decode prog_1_method_16_code 62 = .ok (.iconst 0, 1) := by decide +kernel
theorem kd_prog_1_method_16_code_63 : decode prog_1_method_16_code 63 = .ok (.ireturn, 1) := by decide +kernel
theorem kd_prog_1_method_10_code_0 : decode prog_1_method_10_code 0 = .ok (.aload_n 0, 1) := by decide +kernel
theorem kd_prog_1_method_10_code_1 : decode prog_1_method_10_code 1 = .ok (.getfield 30, 3) := by decide +kernel
theorem kd_prog_1_method_10_code_4 : decode prog_1_method_10_code 4 = .ok (.getfield 149, 3) := by decide +kernel
theorem kd_prog_1_method_10_code_7 : decode prog_1_method_10_code 7 = .ok (.ireturn, 1) := by decide +kernel
theorem kd_prog_1_method_13_code_0 : decode prog_1_method_13_code 0 = .ok (.iload_n 1, 1) := by decide +kernel
theorem kd_prog_1_method_13_code_1 : decode prog_1_method_13_code 1 = .ok (.ifCond .lt 9, 3) := by decide +kernel
theorem kd_prog_1_method_13_code_4 : decode prog_1_method_13_code 4 = .ok (.iload_n 1, 1) := by decide +kernel
theorem kd_prog_1_method_13_code_5 : decode prog_1_method_13_code 5 = .ok (.bipush 24, 2) := by decide +kernel
theorem kd_prog_1_method_13_code_7 : decode prog_1_method_13_code 7 = .ok (.if_icmp .lt 5, 3) := by decide +kernel
theorem kd_prog_1_method_13_code_10 : decode prog_1_method_13_code 10 = .ok (.iconst 0, 1) := by decide +kernel
theorem kd_prog_1_method_13_code_11 : decode prog_1_method_13_code 11 = .ok (.ireturn, 1) := by decide +kernel
theorem kd_prog_1_method_13_code_12 : decode prog_1_method_13_code 12 = .ok (.aload_n 0, 1) := by decide +kernel
theorem kd_prog_1_method_13_code_13 : decode prog_1_method_13_code 13 = .ok (.getfield 30, 3) := by decide +kernel
theorem kd_prog_1_method_13_code_16 : decode prog_1_method_13_code 16 = .ok (.getfield 166, 3) := by decide +kernel
theorem kd_prog_1_method_13_code_19 : decode prog_1_method_13_code 19 = .ok (.iload_n 1, 1) := by decide +kernel
theorem kd_prog_1_method_13_code_20 : decode prog_1_method_13_code 20 = .ok (.iaload, 1) := by decide +kernel
theorem kd_prog_1_method_13_code_21 : decode prog_1_method_13_code 21 = .ok (.ireturn, 1) := by decide +kernel
section
variable {p : Program} {l : Launch} {e : Env} {R : Room} {s : State} {m : MethodId} {args : Array Value} {below : List Frame} {meth : Method} {c : Code} {Q : State → Prop} {ce sl : Nat} {D : va_G} {q : Nat → Nat} {cA : Nat → ClassId} {A : Nat → Prop}
set_option maxHeartbeats 4000000 in
set_option maxRecDepth 100000 in
theorem w_C_isVariable (hx : p.tables.exec = Jvm.exec) (hb : c.code = prog_1_method_17_code) (hml : c.maxLocals = 1) (hown : s.vm.findClass kr_C = some m.cls) (hts : ∀ w ∈ lw_g, w.before args s = true) (hRf : 0 ≤ R.frames) (hRl : 0 ≤ R.locals) (hce : ce ≤ R.cells) (hsl : sl ≤ R.slots) (hA : ∀ x, s.heap.size ≤ x → A x) (hK : va_K D wk_cl (tysW cA) s) (x0 : Int32) (z : Sta) (K : Int32 → Sta → Prop) (h : wp_C_isVariable x0 z K) (hret : ∀ (r : Int32) (u : Sta) (H : Heap) (locs : List Loc) (pc : Nat) (ls : Array Slot), K r u → (r = 0 ∨ r = 1) → wk_S D q cA A s.heap u H locs → decode prog_1_method_17_code pc = .ok (.ireturn, 1) → W p l e R s m args below meth c H locs ce sl Q (F0 m pc ls [.int r])) {H : Heap} {locs : List Loc} {ls : Array Slot} (hV : wk_S D q cA A s.heap z H locs) (hl : lv_has ls 1 [(0, .int x0)]) : W p l e R s m args below meth c H locs ce sl Q (F0 m 0 ls []) := by
  have J15 : ∀ (y0 : Int32) (z : Sta) (H : Heap) (locs : List Loc) (ls : Array Slot), wk_S D q cA A s.heap z H locs → lv_has ls 1 [] → pj_C_isVariable_15 K y0 z → W p l e R s m args below meth c H locs ce sl Q (F0 m 15 ls [.int y0]) := by
    intro y0 z H locs ls hV hl h
    unfold pj_C_isVariable_15 at h
    obtain ⟨hz, h⟩ := h
    exact hret y0 z H locs 15 ls h hz hV kd_prog_1_method_17_code_15
  have J14 : ∀ (z : Sta) (H : Heap) (locs : List Loc) (ls : Array Slot), wk_S D q cA A s.heap z H locs → lv_has ls 1 [] → pj_C_isVariable_14 K z → W p l e R s m args below meth c H locs ce sl Q (F0 m 14 ls []) := by
    intro z H locs ls hV hl h
    unfold pj_C_isVariable_14 at h
    refine lv_iconst (v := 0) hx hb kd_prog_1_method_17_code_14 (by decide) ?_
    exact J15 0 z H locs ls hV (lv_sub hl [] rfl) h
  unfold wp_C_isVariable at h
  refine lv_iload_n hx hb kd_prog_1_method_17_code_0 rfl (lv_at hl 0 rfl) ?_
  refine lv_if_lt (tgt := 14) hx hb kd_prog_1_method_17_code_1 (by decide) (fun hc => ?_) (fun hc => ?_)
  · have h := h.1 hc
    exact J14 z H locs ls hV (lv_sub hl [] rfl) h
  · have h := h.2 hc
    refine lv_iload_n hx hb kd_prog_1_method_17_code_4 rfl (lv_at hl 0 rfl) ?_
    refine lv_bipush (v := 6) hx hb kd_prog_1_method_17_code_5 (by decide) ?_
    refine lv_icmp_ge (tgt := 14) hx hb kd_prog_1_method_17_code_7 (by decide) (fun hc => ?_) (fun hc => ?_)
    · have h := h.1 hc
      exact J14 z H locs ls hV (lv_sub hl [] rfl) h
    · have h := h.2 hc
      refine lv_iconst (v := 1) hx hb kd_prog_1_method_17_code_10 (by decide) ?_
      refine lv_goto (tgt := 15) hx hb kd_prog_1_method_17_code_11 (by decide) ?_
      exact J15 1 z H locs ls hV (lv_sub hl [] rfl) h
end
set_option maxHeartbeats 4000000 in
set_option maxRecDepth 100000 in
theorem c_C_isVariable (l : Launch) (D : va_G) (q : Nat → Nat) (cA : Nat → ClassId) (x0 : Int32) (z : Sta) (sz : Nat) (K : Int32 → Sta → Prop) (h : wp_C_isVariable x0 z K) : Met l ke_C_isVariable (kc_C_isVariable :: lw_g) { frames := 0, cells := 0, slots := 0, locals := 0 } (wk_Pc D q cA [.int x0] z sz) (va_Qi K (wk_B D q cA (va_A (wW q cA z) sz)) (va_A (wW q cA z) sz)) 0 0 (va_A (wW q cA z) sz) := by
  refine Met.ofW (cc := prog_1_method_17_code) (maxL := 1) (ret := (some .boolean)) (by decide) rfl ?_
  intro p e s m args below meth c s₁ B hml hv
  obtain ⟨rfl, hsz, hP, hK, hD0⟩ := hv
  have hx := B.exec
  have hb := B.bytes
  have hr := B.returns
  have hlocks := B.notSynchronized
  have hts0 := atoms_spec (ws := kc_C_isVariable :: lw_g) B.pre
  have hts : ∀ w ∈ lw_g, w.before ([.int x0] : List Value).toArray s = true := fun w hw => hts0 w (List.mem_cons_of_mem _ hw)
  have hown : s.vm.findClass kr_C = some m.cls := findClass_of_methodNamed B.named
  subst hsz
  have hD := hD0.self (sz := s.heap.size)
  generalize hAe : va_A (wW q cA z) s.heap.size = A at hD ⊢
  have hA : ∀ x : Nat, s.heap.size ≤ x → A x := fun x hx => by rw [← hAe]; exact Or.inr hx
  have hl := lv_entry ([.int x0]) (n := 1) (Nat.le_of_ble_eq_true rfl)
  rw [lg_entry_eq]
  generalize (lg_sl ([.int x0]) ++ List.replicate (1 - (lg_sl ([.int x0])).length) Slot.unset).toArray = ls at hl ⊢
  have hl : lv_has ls 1 [(0, .int x0)] := hl
  exact w_C_isVariable hx hb hml hown hts (Nat.le_refl _) (Nat.le_refl _) (Nat.zero_le _) (Nat.zero_le _) hA hK x0 z K h (fun r u H locs pc ls hk hz hV hd => W.zret (ty := .boolean) hx hb hr (by rcases hz with rfl | rfl <;> rfl) (fun t ht hW => ⟨⟨r, u, rfl, hk, by rw [ht]; exact hV.1, va_K.moved hW.alike hK, hV.2.1⟩, hV.2.2.F ht⟩) hV.2.2.2.2 hd) ⟨hP, hD, va_S.rf⟩ hl
section
variable {p : Program} {l : Launch} {e : Env} {R : Room} {s : State} {m : MethodId} {args : Array Value} {below : List Frame} {meth : Method} {c : Code} {Q : State → Prop} {ce sl : Nat} {D : va_G} {q : Nat → Nat} {cA : Nat → ClassId} {A : Nat → Prop}
set_option maxHeartbeats 4000000 in
set_option maxRecDepth 100000 in
theorem w_C_isStatement (hx : p.tables.exec = Jvm.exec) (hb : c.code = prog_1_method_15_code) (hml : c.maxLocals = 5) (hown : s.vm.findClass kr_C = some m.cls) (hts : ∀ w ∈ lw_g, w.before args s = true) (hRf : 1 ≤ R.frames) (hRl : 20 ≤ R.locals) (hce : ce ≤ R.cells) (hsl : sl ≤ R.slots) (hA : ∀ x, s.heap.size ≤ x → A x) (hK : va_K D wk_cl (tysW cA) s) (x0 : Int32) (x1 : Int32) (x2 : Int32) (x3 : Int32) (x4 : Int32) (z : Sta) (K : Int32 → Sta → Prop) (h : wp_C_isStatement x0 x1 x2 x3 x4 z K) (hret : ∀ (r : Int32) (u : Sta) (H : Heap) (locs : List Loc) (pc : Nat) (ls : Array Slot), K r u → (r = 0 ∨ r = 1) → wk_S D q cA A s.heap u H locs → decode prog_1_method_15_code pc = .ok (.ireturn, 1) → W p l e R s m args below meth c H locs ce sl Q (F0 m pc ls [.int r])) {H : Heap} {locs : List Loc} {ls : Array Slot} (hV : wk_S D q cA A s.heap z H locs) (hl : lv_has ls 5 [(0, .int x0), (1, .int x1), (2, .int x2), (3, .int x3), (4, .int x4)]) : W p l e R s m args below meth c H locs ce sl Q (F0 m 0 ls []) := by
  have J94 : ∀ (y0 : Int32) (z : Sta) (H : Heap) (locs : List Loc) (ls : Array Slot), wk_S D q cA A s.heap z H locs → lv_has ls 5 [] → pj_C_isStatement_94 K y0 z → W p l e R s m args below meth c H locs ce sl Q (F0 m 94 ls [.int y0]) := by
    intro y0 z H locs ls hV hl h
    unfold pj_C_isStatement_94 at h
    obtain ⟨hz, h⟩ := h
    exact hret y0 z H locs 94 ls h hz hV kd_prog_1_method_15_code_94
  have J93 : ∀ (z : Sta) (H : Heap) (locs : List Loc) (ls : Array Slot), wk_S D q cA A s.heap z H locs → lv_has ls 5 [] → pj_C_isStatement_93 K z → W p l e R s m args below meth c H locs ce sl Q (F0 m 93 ls []) := by
    intro z H locs ls hV hl h
    unfold pj_C_isStatement_93 at h
    refine lv_iconst (v := 0) hx hb kd_prog_1_method_15_code_93 (by decide) ?_
    exact J94 0 z H locs ls hV (lv_sub hl [] rfl) h
  have J64 : ∀ (y0 : Int32) (z : Sta) (H : Heap) (locs : List Loc) (ls : Array Slot), wk_S D q cA A s.heap z H locs → lv_has ls 5 [] → pj_C_isStatement_64 K y0 z → W p l e R s m args below meth c H locs ce sl Q (F0 m 64 ls [.int y0]) := by
    intro y0 z H locs ls hV hl h
    unfold pj_C_isStatement_64 at h
    obtain ⟨hz, h⟩ := h
    exact hret y0 z H locs 64 ls h hz hV kd_prog_1_method_15_code_64
  have J63 : ∀ (z : Sta) (H : Heap) (locs : List Loc) (ls : Array Slot), wk_S D q cA A s.heap z H locs → lv_has ls 5 [] → pj_C_isStatement_63 K z → W p l e R s m args below meth c H locs ce sl Q (F0 m 63 ls []) := by
    intro z H locs ls hV hl h
    unfold pj_C_isStatement_63 at h
    refine lv_iconst (v := 0) hx hb kd_prog_1_method_15_code_63 (by decide) ?_
    exact J64 0 z H locs ls hV (lv_sub hl [] rfl) h
  unfold wp_C_isStatement at h
  refine lv_iload_n hx hb kd_prog_1_method_15_code_0 rfl (lv_at hl 1 rfl) ?_
  refine wk_calli (va_runS (As := [.int x1]) (rest := []) ⟨hx, hb, hml, hown, hts⟩ (c_C_isVariable l D q cA x1 z H.size _ h) (cwS 1 hts gs_C_158 rfl rfl rfl (by decide +kernel) ⟨Nat.le_trans (by decide) hRf, Nat.le_trans (by decide) hRl⟩) (wk_preS hK hV [.int x1]) rfl rfl hl.1 rfl (lv_room (Nat.le_of_ble_eq_true rfl)) kd_prog_1_method_15_code_1 ⟨hce, hsl⟩) hV hA (fun rz1 z1 H locs h hV => ?_)
  refine lv_if_ne (tgt := 9) hx hb kd_prog_1_method_15_code_4 (by decide) (fun hc => ?_) (fun hc => ?_)
  · have h := h.1 hc
    refine lv_iload_n hx hb kd_prog_1_method_15_code_9 rfl (lv_at hl 0 rfl) ?_
    by_cases hc0 : x0 = 0
    · have h := h.1 hc0
      refine lv_tableIn (tgt := 40) hx hb kd_prog_1_method_15_code_10 (by rw [hc0]; decide) (by rw [hc0]; decide) (by rw [hc0]; rfl) (by decide) ?_
      refine lv_iload_n hx hb kd_prog_1_method_15_code_40 rfl (lv_at hl 2 rfl) ?_
      refine wk_calli (va_runS (As := [.int x2]) (rest := []) ⟨hx, hb, hml, hown, hts⟩ (c_C_isVariable l D q cA x2 z1 H.size _ h) (cwS 1 hts gs_C_158 rfl rfl rfl (by decide +kernel) ⟨Nat.le_trans (by decide) hRf, Nat.le_trans (by decide) hRl⟩) (wk_preS hK hV [.int x2]) rfl rfl hl.1 rfl (lv_room (Nat.le_of_ble_eq_true rfl)) kd_prog_1_method_15_code_41 ⟨hce, hsl⟩) hV hA (fun rz2 z2 H locs h hV => ?_)
      obtain ⟨hz, h⟩ := h
      exact hret rz2 z2 H locs 44 ls h hz hV kd_prog_1_method_15_code_44
    by_cases hc1 : x0 = 1
    · have h := h.2.1 hc1
      refine lv_tableIn (tgt := 45) hx hb kd_prog_1_method_15_code_10 (by rw [hc1]; decide) (by rw [hc1]; decide) (by rw [hc1]; rfl) (by decide) ?_
      refine lv_iload_n hx hb kd_prog_1_method_15_code_45 rfl (lv_at hl 2 rfl) ?_
      refine lv_sipush (v := (-32768)) hx hb kd_prog_1_method_15_code_46 (by decide) ?_
      refine lv_icmp_lt (tgt := 63) hx hb kd_prog_1_method_15_code_49 (by decide) (fun hc => ?_) (fun hc => ?_)
      · have h := h.1 hc
        exact J63 z1 H locs ls hV (lv_sub hl [] rfl) h
      · have h := h.2 hc
        refine lv_iload_n hx hb kd_prog_1_method_15_code_52 rfl (lv_at hl 2 rfl) ?_
        refine lv_sipush (v := 32767) hx hb kd_prog_1_method_15_code_53 (by decide) ?_
        refine lv_icmp_gt (tgt := 63) hx hb kd_prog_1_method_15_code_56 (by decide) (fun hc => ?_) (fun hc => ?_)
        · have h := h.1 hc
          exact J63 z1 H locs ls hV (lv_sub hl [] rfl) h
        · have h := h.2 hc
          refine lv_iconst (v := 1) hx hb kd_prog_1_method_15_code_59 (by decide) ?_
          refine lv_goto (tgt := 64) hx hb kd_prog_1_method_15_code_60 (by decide) ?_
          exact J64 1 z1 H locs ls hV (lv_sub hl [] rfl) h
    by_cases hc2 : x0 = 2
    · have h := h.2.2.1 hc2
      refine lv_tableIn (tgt := 65) hx hb kd_prog_1_method_15_code_10 (by rw [hc2]; decide) (by rw [hc2]; decide) (by rw [hc2]; rfl) (by decide) ?_
      refine lv_iload_n hx hb kd_prog_1_method_15_code_65 rfl (lv_at hl 2 rfl) ?_
      refine wk_calli (va_runS (As := [.int x2]) (rest := []) ⟨hx, hb, hml, hown, hts⟩ (c_C_isVariable l D q cA x2 z1 H.size _ h) (cwS 1 hts gs_C_158 rfl rfl rfl (by decide +kernel) ⟨Nat.le_trans (by decide) hRf, Nat.le_trans (by decide) hRl⟩) (wk_preS hK hV [.int x2]) rfl rfl hl.1 rfl (lv_room (Nat.le_of_ble_eq_true rfl)) kd_prog_1_method_15_code_66 ⟨hce, hsl⟩) hV hA (fun rz3 z3 H locs h hV => ?_)
      refine lv_if_eq (tgt := 93) hx hb kd_prog_1_method_15_code_69 (by decide) (fun hc => ?_) (fun hc => ?_)
      · have h := h.1 hc
        exact J93 z3 H locs ls hV (lv_sub hl [] rfl) h
      · have h := h.2 hc
        refine lv_iload_n hx hb kd_prog_1_method_15_code_72 rfl (lv_at hl 3 rfl) ?_
        refine lv_if_lt (tgt := 93) hx hb kd_prog_1_method_15_code_73 (by decide) (fun hc => ?_) (fun hc => ?_)
        · have h := h.1 hc
          exact J93 z3 H locs ls hV (lv_sub hl [] rfl) h
        · have h := h.2 hc
          refine lv_iload_n hx hb kd_prog_1_method_15_code_76 rfl (lv_at hl 3 rfl) ?_
          refine lv_iconst (v := 5) hx hb kd_prog_1_method_15_code_77 (by decide) ?_
          refine lv_icmp_ge (tgt := 93) hx hb kd_prog_1_method_15_code_78 (by decide) (fun hc => ?_) (fun hc => ?_)
          · have h := h.1 hc
            exact J93 z3 H locs ls hV (lv_sub hl [] rfl) h
          · have h := h.2 hc
            refine lv_iload hx hb kd_prog_1_method_15_code_81 (lv_at hl 4 rfl) ?_
            refine wk_calli (va_runS (As := [.int x4]) (rest := []) ⟨hx, hb, hml, hown, hts⟩ (c_C_isVariable l D q cA x4 z3 H.size _ h) (cwS 1 hts gs_C_158 rfl rfl rfl (by decide +kernel) ⟨Nat.le_trans (by decide) hRf, Nat.le_trans (by decide) hRl⟩) (wk_preS hK hV [.int x4]) rfl rfl hl.1 rfl (lv_room (Nat.le_of_ble_eq_true rfl)) kd_prog_1_method_15_code_83 ⟨hce, hsl⟩) hV hA (fun rz4 z4 H locs h hV => ?_)
            refine lv_if_eq (tgt := 93) hx hb kd_prog_1_method_15_code_86 (by decide) (fun hc => ?_) (fun hc => ?_)
            · have h := h.1 hc
              exact J93 z4 H locs ls hV (lv_sub hl [] rfl) h
            · have h := h.2 hc
              refine lv_iconst (v := 1) hx hb kd_prog_1_method_15_code_89 (by decide) ?_
              refine lv_goto (tgt := 94) hx hb kd_prog_1_method_15_code_90 (by decide) ?_
              exact J94 1 z4 H locs ls hV (lv_sub hl [] rfl) h
    by_cases hc3 : x0 = 3
    · have h := h.2.2.2.1 hc3
      refine lv_tableIn (tgt := 95) hx hb kd_prog_1_method_15_code_10 (by rw [hc3]; decide) (by rw [hc3]; decide) (by rw [hc3]; rfl) (by decide) ?_
      refine lv_iconst (v := 1) hx hb kd_prog_1_method_15_code_95 (by decide) ?_
      obtain ⟨hz, h⟩ := h
      exact hret 1 z1 H locs 96 ls h hz hV kd_prog_1_method_15_code_96
    have h := h.2.2.2.2 ⟨hc0, hc1, hc2, hc3⟩
    refine lv_tableOut (tgt := 97) hx hb kd_prog_1_method_15_code_10 (by have t0 := lv_neT hc0 (a := 0) (by decide); have t1 := lv_neT hc1 (a := 1) (by decide); have t2 := lv_neT hc2 (a := 2) (by decide); have t3 := lv_neT hc3 (a := 3) (by decide); omega) (by decide) ?_
    refine lv_iconst (v := 0) hx hb kd_prog_1_method_15_code_97 (by decide) ?_
    obtain ⟨hz, h⟩ := h
    exact hret 0 z1 H locs 98 ls h hz hV kd_prog_1_method_15_code_98
  · have h := h.2 hc
    refine lv_iconst (v := 0) hx hb kd_prog_1_method_15_code_7 (by decide) ?_
    obtain ⟨hz, h⟩ := h
    exact hret 0 z1 H locs 8 ls h hz hV kd_prog_1_method_15_code_8
end
set_option maxHeartbeats 4000000 in
set_option maxRecDepth 100000 in
theorem c_C_isStatement (l : Launch) (D : va_G) (q : Nat → Nat) (cA : Nat → ClassId) (x0 : Int32) (x1 : Int32) (x2 : Int32) (x3 : Int32) (x4 : Int32) (z : Sta) (sz : Nat) (K : Int32 → Sta → Prop) (h : wp_C_isStatement x0 x1 x2 x3 x4 z K) : Met l ke_C_isStatement (kc_C_isStatement :: lw_g) { frames := 1, cells := 0, slots := 0, locals := 20 } (wk_Pc D q cA [.int x0, .int x1, .int x2, .int x3, .int x4] z sz) (va_Qi K (wk_B D q cA (va_A (wW q cA z) sz)) (va_A (wW q cA z) sz)) 0 0 (va_A (wW q cA z) sz) := by
  refine Met.ofW (cc := prog_1_method_15_code) (maxL := 5) (ret := (some .boolean)) (by decide) rfl ?_
  intro p e s m args below meth c s₁ B hml hv
  obtain ⟨rfl, hsz, hP, hK, hD0⟩ := hv
  have hx := B.exec
  have hb := B.bytes
  have hr := B.returns
  have hlocks := B.notSynchronized
  have hts0 := atoms_spec (ws := kc_C_isStatement :: lw_g) B.pre
  have hts : ∀ w ∈ lw_g, w.before ([.int x0, .int x1, .int x2, .int x3, .int x4] : List Value).toArray s = true := fun w hw => hts0 w (List.mem_cons_of_mem _ hw)
  have hown : s.vm.findClass kr_C = some m.cls := findClass_of_methodNamed B.named
  subst hsz
  have hD := hD0.self (sz := s.heap.size)
  generalize hAe : va_A (wW q cA z) s.heap.size = A at hD ⊢
  have hA : ∀ x : Nat, s.heap.size ≤ x → A x := fun x hx => by rw [← hAe]; exact Or.inr hx
  have hl := lv_entry ([.int x0, .int x1, .int x2, .int x3, .int x4]) (n := 5) (Nat.le_of_ble_eq_true rfl)
  rw [lg_entry_eq]
  generalize (lg_sl ([.int x0, .int x1, .int x2, .int x3, .int x4]) ++ List.replicate (5 - (lg_sl ([.int x0, .int x1, .int x2, .int x3, .int x4])).length) Slot.unset).toArray = ls at hl ⊢
  have hl : lv_has ls 5 [(0, .int x0), (1, .int x1), (2, .int x2), (3, .int x3), (4, .int x4)] := hl
  exact w_C_isStatement hx hb hml hown hts (Nat.le_refl _) (Nat.le_refl _) (Nat.zero_le _) (Nat.zero_le _) hA hK x0 x1 x2 x3 x4 z K h (fun r u H locs pc ls hk hz hV hd => W.zret (ty := .boolean) hx hb hr (by rcases hz with rfl | rfl <;> rfl) (fun t ht hW => ⟨⟨r, u, rfl, hk, by rw [ht]; exact hV.1, va_K.moved hW.alike hK, hV.2.1⟩, hV.2.2.F ht⟩) hV.2.2.2.2 hd) ⟨hP, hD, va_S.rf⟩ hl
section
variable {p : Program} {l : Launch} {e : Env} {R : Room} {s : State} {m : MethodId} {args : Array Value} {below : List Frame} {meth : Method} {c : Code} {Q : State → Prop} {ce sl : Nat} {D : va_G} {q : Nat → Nat} {cA : Nat → ClassId} {A : Nat → Prop}
set_option maxHeartbeats 4000000 in
set_option maxRecDepth 100000 in
theorem w_C_mayBeBlock (hx : p.tables.exec = Jvm.exec) (hb : c.code = prog_1_method_18_code) (hml : c.maxLocals = 1) (hown : s.vm.findClass kr_C = some m.cls) (hts : ∀ w ∈ lw_g, w.before args s = true) (hRf : 0 ≤ R.frames) (hRl : 0 ≤ R.locals) (hce : ce ≤ R.cells) (hsl : sl ≤ R.slots) (hA : ∀ x, s.heap.size ≤ x → A x) (hK : va_K D wk_cl (tysW cA) s) (x0 : Int32) (z : Sta) (K : Int32 → Sta → Prop) (h : wp_C_mayBeBlock x0 z K) (hret : ∀ (r : Int32) (u : Sta) (H : Heap) (locs : List Loc) (pc : Nat) (ls : Array Slot), K r u → (r = 0 ∨ r = 1) → wk_S D q cA A s.heap u H locs → decode prog_1_method_18_code pc = .ok (.ireturn, 1) → W p l e R s m args below meth c H locs ce sl Q (F0 m pc ls [.int r])) {H : Heap} {locs : List Loc} {ls : Array Slot} (hV : wk_S D q cA A s.heap z H locs) (hl : lv_has ls 1 [(0, .int x0)]) : W p l e R s m args below meth c H locs ce sl Q (F0 m 0 ls []) := by
  have J15 : ∀ (y0 : Int32) (z : Sta) (H : Heap) (locs : List Loc) (ls : Array Slot), wk_S D q cA A s.heap z H locs → lv_has ls 1 [] → pj_C_mayBeBlock_15 K y0 z → W p l e R s m args below meth c H locs ce sl Q (F0 m 15 ls [.int y0]) := by
    intro y0 z H locs ls hV hl h
    unfold pj_C_mayBeBlock_15 at h
    obtain ⟨hz, h⟩ := h
    exact hret y0 z H locs 15 ls h hz hV kd_prog_1_method_18_code_15
  have J14 : ∀ (z : Sta) (H : Heap) (locs : List Loc) (ls : Array Slot), wk_S D q cA A s.heap z H locs → lv_has ls 1 [] → pj_C_mayBeBlock_14 K z → W p l e R s m args below meth c H locs ce sl Q (F0 m 14 ls []) := by
    intro z H locs ls hV hl h
    unfold pj_C_mayBeBlock_14 at h
    refine lv_iconst (v := 0) hx hb kd_prog_1_method_18_code_14 (by decide) ?_
    exact J15 0 z H locs ls hV (lv_sub hl [] rfl) h
  unfold wp_C_mayBeBlock at h
  refine lv_iload_n hx hb kd_prog_1_method_18_code_0 rfl (lv_at hl 0 rfl) ?_
  refine lv_if_lt (tgt := 14) hx hb kd_prog_1_method_18_code_1 (by decide) (fun hc => ?_) (fun hc => ?_)
  · have h := h.1 hc
    exact J14 z H locs ls hV (lv_sub hl [] rfl) h
  · have h := h.2 hc
    refine lv_iload_n hx hb kd_prog_1_method_18_code_4 rfl (lv_at hl 0 rfl) ?_
    refine lv_bipush (v := 16) hx hb kd_prog_1_method_18_code_5 (by decide) ?_
    refine lv_icmp_ge (tgt := 14) hx hb kd_prog_1_method_18_code_7 (by decide) (fun hc => ?_) (fun hc => ?_)
    · have h := h.1 hc
      exact J14 z H locs ls hV (lv_sub hl [] rfl) h
    · have h := h.2 hc
      refine lv_iconst (v := 1) hx hb kd_prog_1_method_18_code_10 (by decide) ?_
      refine lv_goto (tgt := 15) hx hb kd_prog_1_method_18_code_11 (by decide) ?_
      exact J15 1 z H locs ls hV (lv_sub hl [] rfl) h
end
set_option maxHeartbeats 4000000 in
set_option maxRecDepth 100000 in
theorem c_C_mayBeBlock (l : Launch) (D : va_G) (q : Nat → Nat) (cA : Nat → ClassId) (x0 : Int32) (z : Sta) (sz : Nat) (K : Int32 → Sta → Prop) (h : wp_C_mayBeBlock x0 z K) : Met l ke_C_mayBeBlock (kc_C_mayBeBlock :: lw_g) { frames := 0, cells := 0, slots := 0, locals := 0 } (wk_Pc D q cA [.int x0] z sz) (va_Qi K (wk_B D q cA (va_A (wW q cA z) sz)) (va_A (wW q cA z) sz)) 0 0 (va_A (wW q cA z) sz) := by
  refine Met.ofW (cc := prog_1_method_18_code) (maxL := 1) (ret := (some .boolean)) (by decide) rfl ?_
  intro p e s m args below meth c s₁ B hml hv
  obtain ⟨rfl, hsz, hP, hK, hD0⟩ := hv
  have hx := B.exec
  have hb := B.bytes
  have hr := B.returns
  have hlocks := B.notSynchronized
  have hts0 := atoms_spec (ws := kc_C_mayBeBlock :: lw_g) B.pre
  have hts : ∀ w ∈ lw_g, w.before ([.int x0] : List Value).toArray s = true := fun w hw => hts0 w (List.mem_cons_of_mem _ hw)
  have hown : s.vm.findClass kr_C = some m.cls := findClass_of_methodNamed B.named
  subst hsz
  have hD := hD0.self (sz := s.heap.size)
  generalize hAe : va_A (wW q cA z) s.heap.size = A at hD ⊢
  have hA : ∀ x : Nat, s.heap.size ≤ x → A x := fun x hx => by rw [← hAe]; exact Or.inr hx
  have hl := lv_entry ([.int x0]) (n := 1) (Nat.le_of_ble_eq_true rfl)
  rw [lg_entry_eq]
  generalize (lg_sl ([.int x0]) ++ List.replicate (1 - (lg_sl ([.int x0])).length) Slot.unset).toArray = ls at hl ⊢
  have hl : lv_has ls 1 [(0, .int x0)] := hl
  exact w_C_mayBeBlock hx hb hml hown hts (Nat.le_refl _) (Nat.le_refl _) (Nat.zero_le _) (Nat.zero_le _) hA hK x0 z K h (fun r u H locs pc ls hk hz hV hd => W.zret (ty := .boolean) hx hb hr (by rcases hz with rfl | rfl <;> rfl) (fun t ht hW => ⟨⟨r, u, rfl, hk, by rw [ht]; exact hV.1, va_K.moved hW.alike hK, hV.2.1⟩, hV.2.2.F ht⟩) hV.2.2.2.2 hd) ⟨hP, hD, va_S.rf⟩ hl
section
variable {p : Program} {l : Launch} {e : Env} {R : Room} {s : State} {m : MethodId} {args : Array Value} {below : List Frame} {meth : Method} {c : Code} {Q : State → Prop} {ce sl : Nat} {D : va_G} {q : Nat → Nat} {cA : Nat → ClassId} {A : Nat → Prop}
set_option maxHeartbeats 4000000 in
set_option maxRecDepth 100000 in
theorem w_C_isEnd (hx : p.tables.exec = Jvm.exec) (hb : c.code = prog_1_method_16_code) (hml : c.maxLocals = 4) (hown : s.vm.findClass kr_C = some m.cls) (hts : ∀ w ∈ lw_g, w.before args s = true) (hRf : 1 ≤ R.frames) (hRl : 20 ≤ R.locals) (hce : ce ≤ R.cells) (hsl : sl ≤ R.slots) (hA : ∀ x, s.heap.size ≤ x → A x) (hK : va_K D wk_cl (tysW cA) s) (x0 : Int32) (x1 : Int32) (x2 : Int32) (x3 : Int32) (z : Sta) (K : Int32 → Sta → Prop) (h : wp_C_isEnd x0 x1 x2 x3 z K) (hret : ∀ (r : Int32) (u : Sta) (H : Heap) (locs : List Loc) (pc : Nat) (ls : Array Slot), K r u → (r = 0 ∨ r = 1) → wk_S D q cA A s.heap u H locs → decode prog_1_method_16_code pc = .ok (.ireturn, 1) → W p l e R s m args below meth c H locs ce sl Q (F0 m pc ls [.int r])) {H : Heap} {locs : List Loc} {ls : Array Slot} (hV : wk_S D q cA A s.heap z H locs) (hl : lv_has ls 4 [(0, .int x0), (1, .int x1), (2, .int x2), (3, .int x3)]) : W p l e R s m args below meth c H locs ce sl Q (F0 m 0 ls []) := by
  have J61 : ∀ (y0 : Int32) (z : Sta) (H : Heap) (locs : List Loc) (ls : Array Slot), wk_S D q cA A s.heap z H locs → lv_has ls 4 [] → pj_C_isEnd_61 K y0 z → W p l e R s m args below meth c H locs ce sl Q (F0 m 61 ls [.int y0]) := by
    intro y0 z H locs ls hV hl h
    unfold pj_C_isEnd_61 at h
    obtain ⟨hz, h⟩ := h
    exact hret y0 z H locs 61 ls h hz hV kd_prog_1_method_16_code_61
  have J60 : ∀ (z : Sta) (H : Heap) (locs : List Loc) (ls : Array Slot), wk_S D q cA A s.heap z H locs → lv_has ls 4 [] → pj_C_isEnd_60 K z → W p l e R s m args below meth c H locs ce sl Q (F0 m 60 ls []) := by
    intro z H locs ls hV hl h
    unfold pj_C_isEnd_60 at h
    refine lv_iconst (v := 0) hx hb kd_prog_1_method_16_code_60 (by decide) ?_
    exact J61 0 z H locs ls hV (lv_sub hl [] rfl) h
  unfold wp_C_isEnd at h
  refine lv_iload_n hx hb kd_prog_1_method_16_code_0 rfl (lv_at hl 0 rfl) ?_
  by_cases hc0 : x0 = 0
  · have h := h.1 hc0
    refine lv_tableIn (tgt := 28) hx hb kd_prog_1_method_16_code_1 (by rw [hc0]; decide) (by rw [hc0]; decide) (by rw [hc0]; rfl) (by decide) ?_
    refine lv_iconst (v := 1) hx hb kd_prog_1_method_16_code_28 (by decide) ?_
    obtain ⟨hz, h⟩ := h
    exact hret 1 z H locs 29 ls h hz hV kd_prog_1_method_16_code_29
  by_cases hc1 : x0 = 1
  · have h := h.2.1 hc1
    refine lv_tableIn (tgt := 30) hx hb kd_prog_1_method_16_code_1 (by rw [hc1]; decide) (by rw [hc1]; decide) (by rw [hc1]; rfl) (by decide) ?_
    refine lv_iload_n hx hb kd_prog_1_method_16_code_30 rfl (lv_at hl 2 rfl) ?_
    refine wk_calli (va_runS (As := [.int x2]) (rest := []) ⟨hx, hb, hml, hown, hts⟩ (c_C_mayBeBlock l D q cA x2 z H.size _ h) (cwS 1 hts gs_C_177 rfl rfl rfl (by decide +kernel) ⟨Nat.le_trans (by decide) hRf, Nat.le_trans (by decide) hRl⟩) (wk_preS hK hV [.int x2]) rfl rfl hl.1 rfl (lv_room (Nat.le_of_ble_eq_true rfl)) kd_prog_1_method_16_code_31 ⟨hce, hsl⟩) hV hA (fun rz1 z1 H locs h hV => ?_)
    obtain ⟨hz, h⟩ := h
    exact hret rz1 z1 H locs 34 ls h hz hV kd_prog_1_method_16_code_34
  by_cases hc2 : x0 = 2
  · have h := h.2.2.1 hc2
    refine lv_tableIn (tgt := 35) hx hb kd_prog_1_method_16_code_1 (by rw [hc2]; decide) (by rw [hc2]; decide) (by rw [hc2]; rfl) (by decide) ?_
    refine lv_iload_n hx hb kd_prog_1_method_16_code_35 rfl (lv_at hl 1 rfl) ?_
    refine wk_calli (va_runS (As := [.int x1]) (rest := []) ⟨hx, hb, hml, hown, hts⟩ (c_C_isVariable l D q cA x1 z H.size _ h) (cwS 1 hts gs_C_158 rfl rfl rfl (by decide +kernel) ⟨Nat.le_trans (by decide) hRf, Nat.le_trans (by decide) hRl⟩) (wk_preS hK hV [.int x1]) rfl rfl hl.1 rfl (lv_room (Nat.le_of_ble_eq_true rfl)) kd_prog_1_method_16_code_36 ⟨hce, hsl⟩) hV hA (fun rz2 z2 H locs h hV => ?_)
    refine lv_if_eq (tgt := 60) hx hb kd_prog_1_method_16_code_39 (by decide) (fun hc => ?_) (fun hc => ?_)
    · have h := h.1 hc
      exact J60 z2 H locs ls hV (lv_sub hl [] rfl) h
    · have h := h.2 hc
      refine lv_iload_n hx hb kd_prog_1_method_16_code_42 rfl (lv_at hl 2 rfl) ?_
      refine wk_calli (va_runS (As := [.int x2]) (rest := []) ⟨hx, hb, hml, hown, hts⟩ (c_C_mayBeBlock l D q cA x2 z2 H.size _ h) (cwS 1 hts gs_C_177 rfl rfl rfl (by decide +kernel) ⟨Nat.le_trans (by decide) hRf, Nat.le_trans (by decide) hRl⟩) (wk_preS hK hV [.int x2]) rfl rfl hl.1 rfl (lv_room (Nat.le_of_ble_eq_true rfl)) kd_prog_1_method_16_code_43 ⟨hce, hsl⟩) hV hA (fun rz3 z3 H locs h hV => ?_)
      refine lv_if_eq (tgt := 60) hx hb kd_prog_1_method_16_code_46 (by decide) (fun hc => ?_) (fun hc => ?_)
      · have h := h.1 hc
        exact J60 z3 H locs ls hV (lv_sub hl [] rfl) h
      · have h := h.2 hc
        refine lv_iload_n hx hb kd_prog_1_method_16_code_49 rfl (lv_at hl 3 rfl) ?_
        refine wk_calli (va_runS (As := [.int x3]) (rest := []) ⟨hx, hb, hml, hown, hts⟩ (c_C_mayBeBlock l D q cA x3 z3 H.size _ h) (cwS 1 hts gs_C_177 rfl rfl rfl (by decide +kernel) ⟨Nat.le_trans (by decide) hRf, Nat.le_trans (by decide) hRl⟩) (wk_preS hK hV [.int x3]) rfl rfl hl.1 rfl (lv_room (Nat.le_of_ble_eq_true rfl)) kd_prog_1_method_16_code_50 ⟨hce, hsl⟩) hV hA (fun rz4 z4 H locs h hV => ?_)
        refine lv_if_eq (tgt := 60) hx hb kd_prog_1_method_16_code_53 (by decide) (fun hc => ?_) (fun hc => ?_)
        · have h := h.1 hc
          exact J60 z4 H locs ls hV (lv_sub hl [] rfl) h
        · have h := h.2 hc
          refine lv_iconst (v := 1) hx hb kd_prog_1_method_16_code_56 (by decide) ?_
          refine lv_goto (tgt := 61) hx hb kd_prog_1_method_16_code_57 (by decide) ?_
          exact J61 1 z4 H locs ls hV (lv_sub hl [] rfl) h
  have h := h.2.2.2 ⟨hc0, hc1, hc2⟩
  refine lv_tableOut (tgt := 62) hx hb kd_prog_1_method_16_code_1 (by have t0 := lv_neT hc0 (a := 0) (by decide); have t1 := lv_neT hc1 (a := 1) (by decide); have t2 := lv_neT hc2 (a := 2) (by decide); omega) (by decide) ?_
  refine lv_iconst (v := 0) hx hb kd_prog_1_method_16_code_62 (by decide) ?_
  obtain ⟨hz, h⟩ := h
  exact hret 0 z H locs 63 ls h hz hV kd_prog_1_method_16_code_63
end
set_option maxHeartbeats 4000000 in
set_option maxRecDepth 100000 in
theorem c_C_isEnd (l : Launch) (D : va_G) (q : Nat → Nat) (cA : Nat → ClassId) (x0 : Int32) (x1 : Int32) (x2 : Int32) (x3 : Int32) (z : Sta) (sz : Nat) (K : Int32 → Sta → Prop) (h : wp_C_isEnd x0 x1 x2 x3 z K) : Met l ke_C_isEnd (kc_C_isEnd :: lw_g) { frames := 1, cells := 0, slots := 0, locals := 20 } (wk_Pc D q cA [.int x0, .int x1, .int x2, .int x3] z sz) (va_Qi K (wk_B D q cA (va_A (wW q cA z) sz)) (va_A (wW q cA z) sz)) 0 0 (va_A (wW q cA z) sz) := by
  refine Met.ofW (cc := prog_1_method_16_code) (maxL := 4) (ret := (some .boolean)) (by decide) rfl ?_
  intro p e s m args below meth c s₁ B hml hv
  obtain ⟨rfl, hsz, hP, hK, hD0⟩ := hv
  have hx := B.exec
  have hb := B.bytes
  have hr := B.returns
  have hlocks := B.notSynchronized
  have hts0 := atoms_spec (ws := kc_C_isEnd :: lw_g) B.pre
  have hts : ∀ w ∈ lw_g, w.before ([.int x0, .int x1, .int x2, .int x3] : List Value).toArray s = true := fun w hw => hts0 w (List.mem_cons_of_mem _ hw)
  have hown : s.vm.findClass kr_C = some m.cls := findClass_of_methodNamed B.named
  subst hsz
  have hD := hD0.self (sz := s.heap.size)
  generalize hAe : va_A (wW q cA z) s.heap.size = A at hD ⊢
  have hA : ∀ x : Nat, s.heap.size ≤ x → A x := fun x hx => by rw [← hAe]; exact Or.inr hx
  have hl := lv_entry ([.int x0, .int x1, .int x2, .int x3]) (n := 4) (Nat.le_of_ble_eq_true rfl)
  rw [lg_entry_eq]
  generalize (lg_sl ([.int x0, .int x1, .int x2, .int x3]) ++ List.replicate (4 - (lg_sl ([.int x0, .int x1, .int x2, .int x3])).length) Slot.unset).toArray = ls at hl ⊢
  have hl : lv_has ls 4 [(0, .int x0), (1, .int x1), (2, .int x2), (3, .int x3)] := hl
  exact w_C_isEnd hx hb hml hown hts (Nat.le_refl _) (Nat.le_refl _) (Nat.zero_le _) (Nat.zero_le _) hA hK x0 x1 x2 x3 z K h (fun r u H locs pc ls hk hz hV hd => W.zret (ty := .boolean) hx hb hr (by rcases hz with rfl | rfl <;> rfl) (fun t ht hW => ⟨⟨r, u, rfl, hk, by rw [ht]; exact hV.1, va_K.moved hW.alike hK, hV.2.1⟩, hV.2.2.F ht⟩) hV.2.2.2.2 hd) ⟨hP, hD, va_S.rf⟩ hl
section
variable {p : Program} {l : Launch} {e : Env} {R : Room} {s : State} {m : MethodId} {args : Array Value} {below : List Frame} {meth : Method} {c : Code} {Q : State → Prop} {ce sl : Nat} {D : va_G} {q : Nat → Nat} {cA : Nat → ClassId} {A : Nat → Prop}
set_option maxHeartbeats 4000000 in
set_option maxRecDepth 100000 in
theorem w_C_outs (hx : p.tables.exec = Jvm.exec) (hb : c.code = prog_1_method_10_code) (hml : c.maxLocals = 1) (hown : s.vm.findClass kr_C = some m.cls) (hts : ∀ w ∈ lw_g, w.before args s = true) (hRf : 0 ≤ R.frames) (hRl : 0 ≤ R.locals) (hce : ce ≤ R.cells) (hsl : sl ≤ R.slots) (hA : ∀ x, s.heap.size ≤ x → A x) (hK : va_K D wk_cl (tysW cA) s) (z : Sta) (K : Int32 → Sta → Prop) (h : wp_C_outs z K) (hret : ∀ (r : Int32) (u : Sta) (H : Heap) (locs : List Loc) (pc : Nat) (ls : Array Slot), K r u → wk_S D q cA A s.heap u H locs → decode prog_1_method_10_code pc = .ok (.ireturn, 1) → W p l e R s m args below meth c H locs ce sl Q (F0 m pc ls [.int r])) {H : Heap} {locs : List Loc} {ls : Array Slot} (hV : wk_S D q cA A s.heap z H locs) (hl : lv_has ls 1 [(0, .ref (q 0))]) : W p l e R s m args below meth c H locs ce sl Q (F0 m 0 ls []) := by
  unfold wp_C_outs at h
  refine lv_aload_n hx hb kd_prog_1_method_10_code_0 rfl (lv_at hl 0 rfl) ?_
  refine va_get (D := D) (ci := 0) (v := .ref (q 3)) (C := kr_C) (T := kt_C) (N := kn_C) hx hb hts ki_C hown hK hV.1 0 rfl rfl 2 (by decide) (hts _ hw_175) (fun _ h9 => h9) rfl kd_prog_1_method_10_code_1 ?_
  refine va_get (D := D) (ci := 3) (v := .int (z.1 5)) (C := kr_K) (T := kt_K) (N := kn_K) hx hb hts ki_K hown hK hV.1 3 rfl rfl 1 (by decide) (hts _ hw_142) (fun _ h9 => h9) rfl kd_prog_1_method_10_code_4 ?_
  refine lv_topi (fun v1 ev1 => ?_)
  have h := h v1 ev1
  exact hret v1 z H locs 7 ls h hV kd_prog_1_method_10_code_7
end
set_option maxHeartbeats 4000000 in
set_option maxRecDepth 100000 in
theorem c_C_outs (l : Launch) (D : va_G) (q : Nat → Nat) (cA : Nat → ClassId) (z : Sta) (sz : Nat) (K : Int32 → Sta → Prop) (h : wp_C_outs z K) : Met l ke_C_outs (kc_C_outs :: lw_g) { frames := 0, cells := 0, slots := 0, locals := 0 } (wk_Pc D q cA [.ref (q 0)] z sz) (va_Qi K (wk_B D q cA (va_A (wW q cA z) sz)) (va_A (wW q cA z) sz)) 0 0 (va_A (wW q cA z) sz) := by
  refine Met.ofW (cc := prog_1_method_10_code) (maxL := 1) (ret := (some .int)) (by decide) rfl ?_
  intro p e s m args below meth c s₁ B hml hv
  obtain ⟨rfl, hsz, hP, hK, hD0⟩ := hv
  have hx := B.exec
  have hb := B.bytes
  have hr := B.returns
  have hlocks := B.notSynchronized
  have hts0 := atoms_spec (ws := kc_C_outs :: lw_g) B.pre
  have hts : ∀ w ∈ lw_g, w.before ([.ref (q 0)] : List Value).toArray s = true := fun w hw => hts0 w (List.mem_cons_of_mem _ hw)
  have hown : s.vm.findClass kr_C = some m.cls := findClass_of_methodNamed B.named
  subst hsz
  have hD := hD0.self (sz := s.heap.size)
  generalize hAe : va_A (wW q cA z) s.heap.size = A at hD ⊢
  have hA : ∀ x : Nat, s.heap.size ≤ x → A x := fun x hx => by rw [← hAe]; exact Or.inr hx
  have hl := lv_entry ([.ref (q 0)]) (n := 1) (Nat.le_of_ble_eq_true rfl)
  rw [lg_entry_eq]
  generalize (lg_sl ([.ref (q 0)]) ++ List.replicate (1 - (lg_sl ([.ref (q 0)])).length) Slot.unset).toArray = ls at hl ⊢
  have hl : lv_has ls 1 [(0, .ref (q 0))] := hl
  exact w_C_outs hx hb hml hown hts (Nat.le_refl _) (Nat.le_refl _) (Nat.zero_le _) (Nat.zero_le _) hA hK z K h (fun r u H locs pc ls hk hV hd => W.iret hx hb hr (fun t ht hW => ⟨⟨r, u, rfl, hk, by rw [ht]; exact hV.1, va_K.moved hW.alike hK, hV.2.1⟩, hV.2.2.F ht⟩) hV.2.2.2.2 hd) ⟨hP, hD, va_S.rf⟩ hl
section
variable {p : Program} {l : Launch} {e : Env} {R : Room} {s : State} {m : MethodId} {args : Array Value} {below : List Frame} {meth : Method} {c : Code} {Q : State → Prop} {ce sl : Nat} {D : va_G} {q : Nat → Nat} {cA : Nat → ClassId} {A : Nat → Prop}
set_option maxHeartbeats 4000000 in
set_option maxRecDepth 100000 in
theorem w_C_computed (hx : p.tables.exec = Jvm.exec) (hb : c.code = prog_1_method_13_code) (hml : c.maxLocals = 2) (hown : s.vm.findClass kr_C = some m.cls) (hts : ∀ w ∈ lw_g, w.before args s = true) (hRf : 0 ≤ R.frames) (hRl : 0 ≤ R.locals) (hce : ce ≤ R.cells) (hsl : sl ≤ R.slots) (hA : ∀ x, s.heap.size ≤ x → A x) (hK : va_K D wk_cl (tysW cA) s) (x1 : Int32) (z : Sta) (K : Int32 → Sta → Prop) (h : wp_C_computed x1 z K) (hret : ∀ (r : Int32) (u : Sta) (H : Heap) (locs : List Loc) (pc : Nat) (ls : Array Slot), K r u → wk_S D q cA A s.heap u H locs → decode prog_1_method_13_code pc = .ok (.ireturn, 1) → W p l e R s m args below meth c H locs ce sl Q (F0 m pc ls [.int r])) {H : Heap} {locs : List Loc} {ls : Array Slot} (hV : wk_S D q cA A s.heap z H locs) (hl : lv_has ls 2 [(0, .ref (q 0)), (1, .int x1)]) : W p l e R s m args below meth c H locs ce sl Q (F0 m 0 ls []) := by
  have J10 : ∀ (z : Sta) (H : Heap) (locs : List Loc) (ls : Array Slot), wk_S D q cA A s.heap z H locs → lv_has ls 2 [] → pj_C_computed_10 K z → W p l e R s m args below meth c H locs ce sl Q (F0 m 10 ls []) := by
    intro z H locs ls hV hl h
    unfold pj_C_computed_10 at h
    refine lv_iconst (v := 0) hx hb kd_prog_1_method_13_code_10 (by decide) ?_
    exact hret 0 z H locs 11 ls h hV kd_prog_1_method_13_code_11
  unfold wp_C_computed at h
  refine lv_iload_n hx hb kd_prog_1_method_13_code_0 rfl (lv_at hl 1 rfl) ?_
  refine lv_if_lt (tgt := 10) hx hb kd_prog_1_method_13_code_1 (by decide) (fun hc => ?_) (fun hc => ?_)
  · have h := h.1 hc
    exact J10 z H locs ls hV (lv_sub hl [] rfl) h
  · have h := h.2 hc
    refine lv_iload_n hx hb kd_prog_1_method_13_code_4 rfl (lv_at hl 1 rfl) ?_
    refine lv_bipush (v := 24) hx hb kd_prog_1_method_13_code_5 (by decide) ?_
    refine lv_icmp_lt (tgt := 12) hx hb kd_prog_1_method_13_code_7 (by decide) (fun hc => ?_) (fun hc => ?_)
    · have h := h.1 hc
      refine lv_aload_n hx hb kd_prog_1_method_13_code_12 rfl (lv_at hl 0 rfl) ?_
      refine va_get (D := D) (ci := 0) (v := .ref (q 3)) (C := kr_C) (T := kt_C) (N := kn_C) hx hb hts ki_C hown hK hV.1 0 rfl rfl 2 (by decide) (hts _ hw_175) (fun _ h9 => h9) rfl kd_prog_1_method_13_code_13 ?_
      refine va_get (D := D) (ci := 3) (v := .ref (q 27)) (C := kr_K) (T := kt_K) (N := kn_K) hx hb hts ki_K hown hK hV.1 3 rfl rfl 4 (by decide) (hts _ hw_148) (fun _ h9 => h9) rfl kd_prog_1_method_13_code_16 ?_
      refine lv_iload_n hx hb kd_prog_1_method_13_code_19 rfl (lv_at hl 1 rfl) ?_
      obtain ⟨hin, h⟩ := h
      refine va_iald hx hb hK hV.1 27 22 rfl rfl hin kd_prog_1_method_13_code_20 ?_
      refine lv_topi (fun v1 ev1 => ?_)
      have h := h v1 ev1
      exact hret v1 z H locs 21 ls h hV kd_prog_1_method_13_code_21
    · have h := h.2 hc
      exact J10 z H locs ls hV (lv_sub hl [] rfl) h
end
set_option maxHeartbeats 4000000 in
set_option maxRecDepth 100000 in
theorem c_C_computed (l : Launch) (D : va_G) (q : Nat → Nat) (cA : Nat → ClassId) (x1 : Int32) (z : Sta) (sz : Nat) (K : Int32 → Sta → Prop) (h : wp_C_computed x1 z K) : Met l ke_C_computed (kc_C_computed :: lw_g) { frames := 0, cells := 0, slots := 0, locals := 0 } (wk_Pc D q cA [.ref (q 0), .int x1] z sz) (va_Qi K (wk_B D q cA (va_A (wW q cA z) sz)) (va_A (wW q cA z) sz)) 0 0 (va_A (wW q cA z) sz) := by
  refine Met.ofW (cc := prog_1_method_13_code) (maxL := 2) (ret := (some .int)) (by decide) rfl ?_
  intro p e s m args below meth c s₁ B hml hv
  obtain ⟨rfl, hsz, hP, hK, hD0⟩ := hv
  have hx := B.exec
  have hb := B.bytes
  have hr := B.returns
  have hlocks := B.notSynchronized
  have hts0 := atoms_spec (ws := kc_C_computed :: lw_g) B.pre
  have hts : ∀ w ∈ lw_g, w.before ([.ref (q 0), .int x1] : List Value).toArray s = true := fun w hw => hts0 w (List.mem_cons_of_mem _ hw)
  have hown : s.vm.findClass kr_C = some m.cls := findClass_of_methodNamed B.named
  subst hsz
  have hD := hD0.self (sz := s.heap.size)
  generalize hAe : va_A (wW q cA z) s.heap.size = A at hD ⊢
  have hA : ∀ x : Nat, s.heap.size ≤ x → A x := fun x hx => by rw [← hAe]; exact Or.inr hx
  have hl := lv_entry ([.ref (q 0), .int x1]) (n := 2) (Nat.le_of_ble_eq_true rfl)
  rw [lg_entry_eq]
  generalize (lg_sl ([.ref (q 0), .int x1]) ++ List.replicate (2 - (lg_sl ([.ref (q 0), .int x1])).length) Slot.unset).toArray = ls at hl ⊢
  have hl : lv_has ls 2 [(0, .ref (q 0)), (1, .int x1)] := hl
  exact w_C_computed hx hb hml hown hts (Nat.le_refl _) (Nat.le_refl _) (Nat.zero_le _) (Nat.zero_le _) hA hK x1 z K h (fun r u H locs pc ls hk hV hd => W.iret hx hb hr (fun t ht hW => ⟨⟨r, u, rfl, hk, by rw [ht]; exact hV.1, va_K.moved hW.alike hK, hV.2.1⟩, hV.2.2.F ht⟩) hV.2.2.2.2 hd) ⟨hP, hD, va_S.rf⟩ hl
